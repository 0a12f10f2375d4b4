/-! the reference: does, its pieces -/
section ME
variable {nw asd pa rf tx le fr nu : List Int32} {sts byt od : Int32} {h : xH} {ct N : Nat} {s s' : kS} {k k' : kC} {b : Bool} {q : Nat}
theorem mX.w (M : mX h nw asd pa sts rf tx byt le fr nu od) : mW h nw pa sts rf tx byt := by
  obtain ⟨hs, rd, so, ah, ar, tr, bg, fo, bc, br, bk, sp, wr, ha, hz, hb⟩ := M
  exact ⟨((asd, hs, rd, so, ah, ar, tr, bg, fo, bc, br, bk, le, fr, nu, od, sp, wr, ha) : mZ), hz, hb⟩
theorem mX_turns (M : mX h nw asd pa sts rf tx byt le fr nu od) (ln : nw.length = 149) : ∃ h1, xK 164 [.ref 122] h none h1 ∧ mX h1 asd nw pa sts rf tx byt le fr nu od ∧ mF h h1 := by
  have la := M.la
  obtain ⟨h1, w1, w2, w3⟩ := l_turns (nw0 := nw) (as0 := asd) (h0 := h) ln la 149 0 nw asd h M (mF.refl h) ln (fun m hm => ⟨by rw [if_neg (by omega)], by rw [if_neg (by omega)]⟩) (by omega)
  refine ⟨h1, ?_, w1, w2⟩
  obtain ⟨hs, rd, so, ah, ar, tr, bg, fo, bc, br, bk, sp, wr, ha, hz, hb⟩ := M
  refine xK_X8_turns (hb 0 _ rfl) (xe_X8_turns_0 ?_)
  (repeat (first | (simp only [xb_X8_turns_0, xb_X8_turns_2, xb_X8_turns_41, xs_nil, Nat.reduceAdd, true_implies, not_true_eq_false, not_false_eq_true, false_implies, and_true, true_and, x_10, xs_iconst_0, xs_istore_n_1_i, xs_istore_n_1_a, xs_istore_n_1_n, xs_istore_n_1_l, xs_iload_n_1, xs_sipush_149, xs_icmp_ge, xs_aload_n_0, xs_istore_n_2_i, xs_istore_n_2_a, xs_istore_n_2_n, xs_istore_n_2_l, xs_iload_n_2, xs_iinc_1_1_i, xs_iinc_1_1_a, xs_iinc_1_1_n, xs_goto, xs_return]) ))
  exact w3 _
theorem mX_remembers (M : mX h nw asd pa (nI ct) rf tx byt le fr nu od) (hct : ct ≤ 6) (lp : pa.length = 894) (ln : nw.length = 149) : ∃ h2, xK 30 [.ref 122] h none h2 ∧ mX h2 nw asd (remem pa nw ct) (nI (min (ct + 1) 6)) rf tx byt le fr nu od ∧ mF h h2 := by
  obtain ⟨hs, rd, so, ah, ar, tr, bg, fo, bc, br, bk, sp, wr, ha, hz, hb⟩ := M
  have A := xA.of hb (Nat.zero_lt_succ _)
  exact ⟨_, c_remembers hb (by decide) hct lp ln, mX_A hz (A.on rfl)⟩
theorem l_aside2 (ln : nw.length = 149) {h0 : xH} : ∀ (d j : Nat) (asd : List Int32) (h : xH), mX h nw asd pa sts rf tx byt le fr nu od → mF h0 h → (∀ m, m < j → asd.getD m 0 = nw.getD m 0) → j + d = 149 → ∃ h1, mX h1 nw nw pa sts rf tx byt le fr nu od ∧ mF h0 h1 ∧ ∀ (r : Option Value) (h' : xH), x_EV 165 42 [some (.ref 122), some (.int (nI 149))] [] h1 r h' → x_EV 165 17 [some (.ref 122), some (.int (nI j))] [] h r h' := by
  intro d
  induction d with
  | zero =>
    intro j asd h M F hj he
    have e : asd = nw := ls_eq M.la ln (fun m hm => hj m (by omega))
    have e2 : j = 149 := by omega
    subst e e2
    refine ⟨h, M, F, fun r h' H => ?_⟩
    refine xe_X8_does_17 ?_
    (repeat (first | (simp only [xb_X8_does_0, xb_X8_does_15, xb_X8_does_17, xb_X8_does_42, xb_X8_does_44, xb_X8_does_70, xb_X8_does_76, xs_nil, Nat.reduceAdd, true_implies, not_true_eq_false, not_false_eq_true, false_implies, and_true, true_and, x_10, xs_aload_n_0, xs_if_ne, xs_bipush_m10, xs_isub, xs_ireturn, xs_iconst_0, xs_istore_n_1_i, xs_istore_n_1_a, xs_istore_n_1_n, xs_istore_n_1_l, xs_iload_n_1, xs_sipush_149, xs_icmp_ge, xs_iinc_1_1_i, xs_iinc_1_1_a, xs_iinc_1_1_n, xs_goto, xs_sipush_m1000]) ))
    refine ⟨fun _ => H, fun z => absurd (by decide) z⟩
  | succ d ih =>
    intro j asd h M F hj he
    have la := M.la
    obtain ⟨hs, rd, so, ah, ar, tr, bg, fo, bc, br, bk, sp, wr, ha, hz, hb⟩ := M
    have A := xA.of hb (Nat.zero_lt_succ _)
    obtain ⟨z1, z2⟩ := hz
    have A5 := A.on (cs2 := (x_mc 122 nw (asd.set j (nw.getD j 0)) pa sts rf tx byt (hs.map nI) rd so ah ar tr bg fo bc br bk le fr nu od sp wr ha)) rfl
    obtain ⟨M5, F5⟩ := mX_A (asd := asd.set j (nw.getD j 0)) (h := h) ⟨by show (asd.set j (nw.getD j 0)).length = 149; rw [List.length_set]; exact la, z2⟩ A5
    obtain ⟨h1, w1, w2, w3⟩ := ih (j + 1) _ _ M5 (F.trans F5) (fun m hm => by
      rw [sg (by omega)]
      by_cases e : m = j
      · rw [if_pos e, e]
      · rw [if_neg e]
        exact hj m (by omega)) (by omega)
    refine ⟨h1, w1, w2, fun r h' H => ?_⟩
    refine xe_X8_does_17 ?_
    (repeat (first | (simp only [xb_X8_does_0, xb_X8_does_15, xb_X8_does_17, xb_X8_does_42, xb_X8_does_44, xb_X8_does_70, xb_X8_does_76, xs_nil, Nat.reduceAdd, true_implies, not_true_eq_false, not_false_eq_true, false_implies, and_true, true_and, x_10, xs_aload_n_0, xs_if_ne, xs_bipush_m10, xs_isub, xs_ireturn, xs_iconst_0, xs_istore_n_1_i, xs_istore_n_1_a, xs_istore_n_1_n, xs_istore_n_1_l, xs_iload_n_1, xs_sipush_149, xs_icmp_ge, xs_iinc_1_1_i, xs_iinc_1_1_a, xs_iinc_1_1_n, xs_goto, xs_sipush_m1000]) ))
    refine ⟨fun z => absurd z (nI_ge (b := 149) (by omega) (by decide)), fun _ => ?_⟩
    (repeat (first | (simp only [xb_X8_does_0, xb_X8_does_15, xb_X8_does_17, xb_X8_does_42, xb_X8_does_44, xb_X8_does_70, xb_X8_does_76, xs_nil, Nat.reduceAdd, true_implies, not_true_eq_false, not_false_eq_true, false_implies, and_true, true_and, x_10, xs_aload_n_0, xs_if_ne, xs_bipush_m10, xs_isub, xs_ireturn, xs_iconst_0, xs_istore_n_1_i, xs_istore_n_1_a, xs_istore_n_1_n, xs_istore_n_1_l, xs_iload_n_1, xs_sipush_149, xs_icmp_ge, xs_iinc_1_1_i, xs_iinc_1_1_a, xs_iinc_1_1_n, xs_goto, xs_sipush_m1000]) | (refine xr_getf (hb 0 _ rfl) (by rfl) ?_) | (refine xr_iaload (hb 1 _ rfl) (x_in (by rw [ln]; omega) (by rw [ln]; decide)) ?_)))
    refine xa_iastore A 2 (by rfl) (by decide) (x_in (by rw [la]; omega) (by rw [la]; decide)) (fun h4 A4 => ?_)
    rw [xu_n (by omega), xg_n (by omega)] at A4
    have A4 : xA h 122 (x_mc 122 nw (asd.set j (nw.getD j 0)) pa sts rf tx byt (hs.map nI) rd so ah ar tr bg fo bc br bk le fr nu od sp wr ha) h4 := A4
    have e5 := A5.e
    have e4 := A4.e
    rw [e5] at e4
    subst e4
    (repeat (first | (simp only [xb_X8_does_0, xb_X8_does_15, xb_X8_does_17, xb_X8_does_42, xb_X8_does_44, xb_X8_does_70, xb_X8_does_76, xs_nil, Nat.reduceAdd, true_implies, not_true_eq_false, not_false_eq_true, false_implies, and_true, true_and, x_10, xs_aload_n_0, xs_if_ne, xs_bipush_m10, xs_isub, xs_ireturn, xs_iconst_0, xs_istore_n_1_i, xs_istore_n_1_a, xs_istore_n_1_n, xs_istore_n_1_l, xs_iload_n_1, xs_sipush_149, xs_icmp_ge, xs_iinc_1_1_i, xs_iinc_1_1_a, xs_iinc_1_1_n, xs_goto, xs_sipush_m1000]) ))
    rw [nI_1]
    exact w3 r h' H
end ME
