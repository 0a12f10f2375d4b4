/-! the reference: aside, turns -/
section MT
variable {nw asd pa rf tx le fr nu : List Int32} {sts byt od : Int32} {h : xH}
theorem ls_eq {a b : List Int32} {n : Nat} (h1 : a.length = n) (h2 : b.length = n) (h : ∀ m, m < n → a.getD m 0 = b.getD m 0) : a = b := by
  refine List.ext_getElem (h1.trans h2.symm) (fun m m1 m2 => ?_)
  have := h m (by omega)
  rw [List.getD_eq_getElem?_getD, List.getD_eq_getElem?_getD, List.getElem?_eq_getElem m1, List.getElem?_eq_getElem m2] at this
  exact this
theorem mX.la (M : mX h nw asd pa sts rf tx byt le fr nu od) : asd.length = 149 := by
  obtain ⟨hs, rd, so, ah, ar, tr, bg, fo, bc, br, bk, sp, wr, ha, hz, hb⟩ := M
  exact hz.1
theorem l_aside (ln : nw.length = 149) {r : Option Value} {h' h0 : xH} (fin : ∀ h1, mX h1 nw nw pa sts rf tx byt le fr nu od → mF h0 h1 → x_EV 165 42 [some (.ref 122), some (.int (nI 149))] [] h1 r h') : ∀ (d j : Nat) (asd : List Int32) (h : xH), mX h nw asd pa sts rf tx byt le fr nu od → mF h0 h → (∀ m, m < j → asd.getD m 0 = nw.getD m 0) → j + d = 149 → x_EV 165 17 [some (.ref 122), some (.int (nI j))] [] h r h' := by
  intro d
  induction d with
  | zero =>
    intro j asd h M F hj he
    have e : asd = nw := ls_eq M.la ln (fun m hm => hj m (by omega))
    have e2 : j = 149 := by omega
    subst e e2
    refine xe_X8_does_17 ?_
    (repeat (first | (simp only [xb_X8_does_0, xb_X8_does_15, xb_X8_does_17, xb_X8_does_42, xb_X8_does_44, xb_X8_does_70, xb_X8_does_76, xs_nil, Nat.reduceAdd, true_implies, not_true_eq_false, not_false_eq_true, false_implies, and_true, true_and, x_10, xs_aload_n_0, xs_if_ne, xs_bipush_m10, xs_isub, xs_ireturn, xs_iconst_0, xs_istore_n_1_i, xs_istore_n_1_a, xs_istore_n_1_n, xs_istore_n_1_l, xs_iload_n_1, xs_sipush_149, xs_icmp_ge, xs_iinc_1_1_i, xs_iinc_1_1_a, xs_iinc_1_1_n, xs_goto, xs_sipush_m1000]) ))
    refine ⟨fun _ => fin h M F, fun z => absurd (by decide) z⟩
  | succ d ih =>
    intro j asd h M F hj he
    have la := M.la
    obtain ⟨hs, rd, so, ah, ar, tr, bg, fo, bc, br, bk, sp, wr, ha, hz, hb⟩ := M
    have A := xA.of hb (Nat.zero_lt_succ _)
    obtain ⟨z1, z2⟩ := hz
    refine xe_X8_does_17 ?_
    (repeat (first | (simp only [xb_X8_does_0, xb_X8_does_15, xb_X8_does_17, xb_X8_does_42, xb_X8_does_44, xb_X8_does_70, xb_X8_does_76, xs_nil, Nat.reduceAdd, true_implies, not_true_eq_false, not_false_eq_true, false_implies, and_true, true_and, x_10, xs_aload_n_0, xs_if_ne, xs_bipush_m10, xs_isub, xs_ireturn, xs_iconst_0, xs_istore_n_1_i, xs_istore_n_1_a, xs_istore_n_1_n, xs_istore_n_1_l, xs_iload_n_1, xs_sipush_149, xs_icmp_ge, xs_iinc_1_1_i, xs_iinc_1_1_a, xs_iinc_1_1_n, xs_goto, xs_sipush_m1000]) ))
    refine ⟨fun z => absurd z (nI_ge (b := 149) (by omega) (by decide)), fun _ => ?_⟩
    (repeat (first | (simp only [xb_X8_does_0, xb_X8_does_15, xb_X8_does_17, xb_X8_does_42, xb_X8_does_44, xb_X8_does_70, xb_X8_does_76, xs_nil, Nat.reduceAdd, true_implies, not_true_eq_false, not_false_eq_true, false_implies, and_true, true_and, x_10, xs_aload_n_0, xs_if_ne, xs_bipush_m10, xs_isub, xs_ireturn, xs_iconst_0, xs_istore_n_1_i, xs_istore_n_1_a, xs_istore_n_1_n, xs_istore_n_1_l, xs_iload_n_1, xs_sipush_149, xs_icmp_ge, xs_iinc_1_1_i, xs_iinc_1_1_a, xs_iinc_1_1_n, xs_goto, xs_sipush_m1000]) | (refine xr_getf (hb 0 _ rfl) (by rfl) ?_) | (refine xr_iaload (hb 1 _ rfl) (x_in (by rw [ln]; omega) (by rw [ln]; decide)) ?_)))
    refine xa_iastore A 2 (by rfl) (by decide) (x_in (by rw [la]; omega) (by rw [la]; decide)) (fun h4 A4 => ?_)
    rw [xu_n (by omega), xg_n (by omega)] at A4
    obtain ⟨M4, F4⟩ := mX_A (asd := asd.set j (nw.getD j 0)) (h := h) (h' := h4) ⟨by show (asd.set j (nw.getD j 0)).length = 149; rw [List.length_set]; exact la, z2⟩ A4
    (repeat (first | (simp only [xb_X8_does_0, xb_X8_does_15, xb_X8_does_17, xb_X8_does_42, xb_X8_does_44, xb_X8_does_70, xb_X8_does_76, xs_nil, Nat.reduceAdd, true_implies, not_true_eq_false, not_false_eq_true, false_implies, and_true, true_and, x_10, xs_aload_n_0, xs_if_ne, xs_bipush_m10, xs_isub, xs_ireturn, xs_iconst_0, xs_istore_n_1_i, xs_istore_n_1_a, xs_istore_n_1_n, xs_istore_n_1_l, xs_iload_n_1, xs_sipush_149, xs_icmp_ge, xs_iinc_1_1_i, xs_iinc_1_1_a, xs_iinc_1_1_n, xs_goto, xs_sipush_m1000]) ))
    rw [nI_1]
    refine ih (j + 1) _ h4 M4 (F.trans F4) (fun m hm => ?_) (by omega)
    rw [sg (by omega)]
    by_cases e : m = j
    · rw [if_pos e, e]
    · rw [if_neg e]
      exact hj m (by omega)
theorem l_turns {nw0 as0 : List Int32} {h0 : xH} (l0 : nw0.length = 149) (l1 : as0.length = 149) : ∀ (d j : Nat) (nw asd : List Int32) (h : xH), mX h nw asd pa sts rf tx byt le fr nu od → mF h0 h → nw.length = 149 → (∀ m, m < 149 → nw.getD m 0 = (if m < j then as0 else nw0).getD m 0 ∧ asd.getD m 0 = (if m < j then nw0 else as0).getD m 0) → j + d = 149 → ∃ h1, mX h1 as0 nw0 pa sts rf tx byt le fr nu od ∧ mF h0 h1 ∧ ∀ a2 : Option Value, x_EV 164 2 [some (.ref 122), some (.int (nI j)), a2] [] h none h1 := by
  intro d
  induction d with
  | zero =>
    intro j nw asd h M F ln hj he
    have e1 : nw = as0 := ls_eq ln l1 (fun m hm => by have := (hj m hm).1; rw [if_pos (by omega)] at this; exact this)
    have e3 : asd = nw0 := ls_eq M.la l0 (fun m hm => by have := (hj m hm).2; rw [if_pos (by omega)] at this; exact this)
    have e2 : j = 149 := by omega
    subst e1 e2 e3
    refine ⟨h, M, F, fun a2 => ?_⟩
    refine xe_X8_turns_2 ?_
    (repeat (first | (simp only [xb_X8_turns_0, xb_X8_turns_2, xb_X8_turns_41, xs_nil, Nat.reduceAdd, true_implies, not_true_eq_false, not_false_eq_true, false_implies, and_true, true_and, x_10, xs_iconst_0, xs_istore_n_1_i, xs_istore_n_1_a, xs_istore_n_1_n, xs_istore_n_1_l, xs_iload_n_1, xs_sipush_149, xs_icmp_ge, xs_aload_n_0, xs_istore_n_2_i, xs_istore_n_2_a, xs_istore_n_2_n, xs_istore_n_2_l, xs_iload_n_2, xs_iinc_1_1_i, xs_iinc_1_1_a, xs_iinc_1_1_n, xs_goto, xs_return]) ))
    refine ⟨fun _ => ?_, fun z => absurd (by decide) z⟩
    refine xe_X8_turns_41 ?_
    (repeat (first | (simp only [xb_X8_turns_0, xb_X8_turns_2, xb_X8_turns_41, xs_nil, Nat.reduceAdd, true_implies, not_true_eq_false, not_false_eq_true, false_implies, and_true, true_and, x_10, xs_iconst_0, xs_istore_n_1_i, xs_istore_n_1_a, xs_istore_n_1_n, xs_istore_n_1_l, xs_iload_n_1, xs_sipush_149, xs_icmp_ge, xs_aload_n_0, xs_istore_n_2_i, xs_istore_n_2_a, xs_istore_n_2_n, xs_istore_n_2_l, xs_iload_n_2, xs_iinc_1_1_i, xs_iinc_1_1_a, xs_iinc_1_1_n, xs_goto, xs_return]) ))
  | succ d ih =>
    intro j nw asd h M F ln hj he
    have la := M.la
    obtain ⟨g1, g2⟩ := hj j (by omega)
    obtain ⟨hs, rd, so, ah, ar, tr, bg, fo, bc, br, bk, sp, wr, ha, hz, hb⟩ := M
    have A := xA.of hb (Nat.zero_lt_succ _)
    obtain ⟨z1, z2⟩ := hz
    have A5 := A.on (cs2 := (x_mc 122 (nw.set j (asd.getD j 0)) (asd.set j (nw.getD j 0)) pa sts rf tx byt (hs.map nI) rd so ah ar tr bg fo bc br bk le fr nu od sp wr ha)) rfl
    obtain ⟨M5, F5⟩ := mX_A (nw := nw.set j (asd.getD j 0)) (asd := asd.set j (nw.getD j 0)) (h := h) ⟨by show (asd.set j (nw.getD j 0)).length = 149; rw [List.length_set]; exact la, z2⟩ A5
    obtain ⟨h1, w1, w2, w3⟩ := ih (j + 1) _ _ _ M5 (F.trans F5) (by rw [List.length_set]; exact ln) (fun m hm => by
      rw [sg (by omega), sg (by omega)]
      by_cases e : m = j
      · rw [if_pos e, if_pos e, if_pos (by omega), if_pos (by omega), g1, g2, if_neg (by omega), if_neg (by omega), e]
        exact ⟨rfl, rfl⟩
      · rw [if_neg e, if_neg e]
        have := hj m hm
        by_cases e2 : m < j
        · rw [if_pos e2, if_pos e2] at this
          rw [if_pos (by omega), if_pos (by omega)]
          exact this
        · rw [if_neg e2, if_neg e2] at this
          rw [if_neg (by omega), if_neg (by omega)]
          exact this) (by omega)
    refine ⟨h1, w1, w2, fun a2 => ?_⟩
    refine xe_X8_turns_2 ?_
    (repeat (first | (simp only [xb_X8_turns_0, xb_X8_turns_2, xb_X8_turns_41, xs_nil, Nat.reduceAdd, true_implies, not_true_eq_false, not_false_eq_true, false_implies, and_true, true_and, x_10, xs_iconst_0, xs_istore_n_1_i, xs_istore_n_1_a, xs_istore_n_1_n, xs_istore_n_1_l, xs_iload_n_1, xs_sipush_149, xs_icmp_ge, xs_aload_n_0, xs_istore_n_2_i, xs_istore_n_2_a, xs_istore_n_2_n, xs_istore_n_2_l, xs_iload_n_2, xs_iinc_1_1_i, xs_iinc_1_1_a, xs_iinc_1_1_n, xs_goto, xs_return]) ))
    refine ⟨fun z => absurd z (nI_ge (b := 149) (by omega) (by decide)), fun _ => ?_⟩
    (repeat (first | (simp only [xb_X8_turns_0, xb_X8_turns_2, xb_X8_turns_41, xs_nil, Nat.reduceAdd, true_implies, not_true_eq_false, not_false_eq_true, false_implies, and_true, true_and, x_10, xs_iconst_0, xs_istore_n_1_i, xs_istore_n_1_a, xs_istore_n_1_n, xs_istore_n_1_l, xs_iload_n_1, xs_sipush_149, xs_icmp_ge, xs_aload_n_0, xs_istore_n_2_i, xs_istore_n_2_a, xs_istore_n_2_n, xs_istore_n_2_l, xs_iload_n_2, xs_iinc_1_1_i, xs_iinc_1_1_a, xs_iinc_1_1_n, xs_goto, xs_return]) | (refine xr_getf (hb 0 _ rfl) (by rfl) ?_) | (refine xr_iaload (hb 1 _ rfl) (x_in (by rw [ln]; omega) (by rw [ln]; decide)) ?_) | (refine xr_iaload (hb 2 _ rfl) (x_in (by rw [la]; omega) (by rw [la]; decide)) ?_)))
    refine xa_iastore A 1 (by rfl) (by decide) (x_in (by rw [ln]; omega) (by rw [ln]; decide)) (fun h4 A4 => ?_)
    rw [xu_n (by omega), xg_n (by omega)] at A4
    have A4 : xA h 122 (x_mc 122 (nw.set j (asd.getD j 0)) asd pa sts rf tx byt (hs.map nI) rd so ah ar tr bg fo bc br bk le fr nu od sp wr ha) h4 := A4
    have hb4 := A4.hb
    (repeat (first | (simp only [xb_X8_turns_0, xb_X8_turns_2, xb_X8_turns_41, xs_nil, Nat.reduceAdd, true_implies, not_true_eq_false, not_false_eq_true, false_implies, and_true, true_and, x_10, xs_iconst_0, xs_istore_n_1_i, xs_istore_n_1_a, xs_istore_n_1_n, xs_istore_n_1_l, xs_iload_n_1, xs_sipush_149, xs_icmp_ge, xs_aload_n_0, xs_istore_n_2_i, xs_istore_n_2_a, xs_istore_n_2_n, xs_istore_n_2_l, xs_iload_n_2, xs_iinc_1_1_i, xs_iinc_1_1_a, xs_iinc_1_1_n, xs_goto, xs_return]) | (refine xr_getf (hb4 0 _ rfl) (by rfl) ?_)))
    refine xa_iastore A4 2 (by rfl) (by decide) (x_in (by rw [la]; omega) (by rw [la]; decide)) (fun h6 A6 => ?_)
    rw [xu_n (by omega), xg_n (by omega)] at A6
    have A6 : xA h 122 (x_mc 122 (nw.set j (asd.getD j 0)) (asd.set j (nw.getD j 0)) pa sts rf tx byt (hs.map nI) rd so ah ar tr bg fo bc br bk le fr nu od sp wr ha) h6 := A6
    have e5 := A5.e
    have e6 := A6.e
    rw [e5] at e6
    subst e6
    (repeat (first | (simp only [xb_X8_turns_0, xb_X8_turns_2, xb_X8_turns_41, xs_nil, Nat.reduceAdd, true_implies, not_true_eq_false, not_false_eq_true, false_implies, and_true, true_and, x_10, xs_iconst_0, xs_istore_n_1_i, xs_istore_n_1_a, xs_istore_n_1_n, xs_istore_n_1_l, xs_iload_n_1, xs_sipush_149, xs_icmp_ge, xs_aload_n_0, xs_istore_n_2_i, xs_istore_n_2_a, xs_istore_n_2_n, xs_istore_n_2_l, xs_iload_n_2, xs_iinc_1_1_i, xs_iinc_1_1_a, xs_iinc_1_1_n, xs_goto, xs_return]) ))
    rw [nI_1]
    exact w3 _
end MT
