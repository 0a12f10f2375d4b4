/-! orders that were read are sound; the class does them all -/
def okO (O : oT) : Prop := ∀ i, i < O.1.length → ¬ mostN (O.1.getD i 0) = 0 ∧ O.2.1.getD i 0 ≤ O.2.1.getD (i + 1) 0 ∧ O.2.1.getD (i + 1) 0 ≤ O.2.2.length ∧ (¬ O.1.getD i 0 = 119 → O.2.1.getD (i + 1) 0 - O.2.1.getD i 0 = mostN (O.1.getD i 0)) ∧ (O.1.getD i 0 = 119 → 1 ≤ O.2.1.getD (i + 1) 0 - O.2.1.getD i 0 ∧ O.2.1.getD (i + 1) 0 - O.2.1.getD i 0 ≤ 6)
def wO (O : oT) : Prop := O.2.1.length = O.1.length + 1 ∧ O.2.1.getD O.1.length 0 = O.2.2.length ∧ okO O
theorem wO_push {O : oT} {c : Int32} {F' : List Int32} (h : wO O) (hm : ¬ mostN c = 0) (hF : O.2.2.length ≤ F'.length) (h1 : ¬ c = 119 → F'.length = O.2.2.length + mostN c) (h2 : c = 119 → F'.length ≤ O.2.2.length + mostN c ∧ O.2.2.length + 1 ≤ F'.length) : wO (O.1 ++ [c], O.2.1 ++ [F'.length], F') := by
  obtain ⟨a1, a2, a3⟩ := h
  have hm6 := mostN_le c
  have l1 : (O.1 ++ [c]).length = O.1.length + 1 := by rw [List.length_append]; rfl
  refine ⟨?_, ?_, fun i hi => ?_⟩
  · show (O.2.1 ++ [F'.length]).length = (O.1 ++ [c]).length + 1
    rw [List.length_append, l1, a1]
    rfl
  · show (O.2.1 ++ [F'.length]).getD (O.1 ++ [c]).length 0 = F'.length
    rw [l1, ap_get, if_pos a1.symm]
  · have hi : i < O.1.length + 1 := by rw [← l1]; exact hi
    show ¬ mostN ((O.1 ++ [c]).getD i 0) = 0 ∧ (O.2.1 ++ [F'.length]).getD i 0 ≤ (O.2.1 ++ [F'.length]).getD (i + 1) 0 ∧ (O.2.1 ++ [F'.length]).getD (i + 1) 0 ≤ F'.length ∧ (¬ (O.1 ++ [c]).getD i 0 = 119 → (O.2.1 ++ [F'.length]).getD (i + 1) 0 - (O.2.1 ++ [F'.length]).getD i 0 = mostN ((O.1 ++ [c]).getD i 0)) ∧ ((O.1 ++ [c]).getD i 0 = 119 → 1 ≤ (O.2.1 ++ [F'.length]).getD (i + 1) 0 - (O.2.1 ++ [F'.length]).getD i 0 ∧ (O.2.1 ++ [F'.length]).getD (i + 1) 0 - (O.2.1 ++ [F'.length]).getD i 0 ≤ 6)
    rw [ap_get, ap_get, ap_get]
    by_cases e : i = O.1.length
    · rw [if_pos e, if_neg (by omega), if_pos (by omega), e, a2]
      exact ⟨hm, hF, Nat.le_refl _, fun z => by have := h1 z; omega, fun z => by have := h2 z; exact ⟨by omega, by omega⟩⟩
    · rw [if_neg e, if_neg (by omega), if_neg (by omega)]
      obtain ⟨b1, b2, b3, b4, b5⟩ := a3 i (by omega)
      exact ⟨b1, b2, by omega, b4, b5⟩
theorem pall_ok {tx : List Int32} {N : Nat} : ∀ (fu p : Nat) (O : oT) (R : Bool × Nat × oT), pall tx N fu p O = R → p ≤ N → O.2.2.length ≤ p → 3 * O.1.length ≤ p → wO O → R.1 = true → wO R.2.2 ∧ 3 * R.2.2.1.length ≤ N := by
  intro fu
  induction fu with
  | zero =>
    intro p O R hR _ _ _ _ h
    subst hR
    cases h
  | succ fu ih =>
    intro p O R hR hp hF h3 hw h
    unfold pall at hR
    by_cases hpN : p < N
    · rw [if_pos hpN] at hR
      generalize pB tx N p = c at hR
      by_cases hm : mostN c = 0
      · rw [if_pos hm] at hR
        subst hR
        cases h
      · rw [if_neg hm] at hR
        obtain ⟨r1, r2⟩ := pord_pos (tx := tx) (c := c) (mostN c) 0 (p + 1) O.2.2 (N := N) (by omega) (by omega)
        generalize pord tx N c (mostN c) 0 (p + 1) O.2.2 = Q at hR r1 r2
        by_cases hr : Q.1 = true
        · rw [if_pos hr] at hR
          obtain ⟨b1, b2, b3, b4, b5, b6, b7⟩ := r2 hr
          have b2' := b2 (by omega) rfl
          have hs := sk_le (tx := tx) (p := Q.2.1) r1
          have l1 : (O.1 ++ [c]).length = O.1.length + 1 := by rw [List.length_append]; rfl
          exact ih _ (O.1 ++ [c], O.2.1 ++ [Q.2.2.length], Q.2.2) R hR hs.2 (by show Q.2.2.length ≤ _; omega) (by show 3 * (O.1 ++ [c]).length ≤ _; rw [l1]; omega) (wO_push hw hm b4 b5 (fun z => ⟨(b6 z).1, (b6 z).2 (by omega) rfl⟩)) h
        · rw [if_neg hr] at hR
          subst hR
          cases h
    · rw [if_neg hpN] at hR
      subst hR
      exact ⟨hw, by show 3 * O.1.length ≤ N; omega⟩
theorem pR_ok {tx : List Int32} {N : Nat} (h : (pR tx N).1 = true) : wO (pR tx N).2.2 ∧ 3 * (pR tx N).2.2.1.length ≤ N := by
  have hs := sk_le (tx := tx) (N := N) (p := 0) (by omega)
  exact pall_ok 121 (sk tx N 0) ([], [0], []) _ rfl hs.2 (by show 0 ≤ _; omega) (by show 3 * 0 ≤ _; omega) ⟨rfl, rfl, fun i hi => by cases hi⟩ h
section CR6
variable {a : kS} {sh : Nat → kS} {nx ct : Nat} {tx kd fi cn nu : List Int32} {nr at_ ln : Int32} {rf : List Int32} {O : oT}
theorem c7_step {s : kS} {k : kC} {h : xH} {i : Nat} (X : cX h s a k sh nx ct tx kd fi cn nu nr at_ ln (nI O.1.length) rf) (hv : sv s) (hk : kcok k) (ha : svl a) (hO : wO O) (hK : O.1.length ≤ 40) (hrep : repC kd fi cn O) (hag : agr nu O.2.2) (hi : i < O.1.length) : ∃ b s' k' h1, oS (O.1.getD i 0) O.2.2 (O.2.1.getD i 0) (O.2.1.getD (i + 1) 0 - O.2.1.getD i 0) s k b s' k' ∧ cX h1 s' a k' sh nx ct tx kd fi cn nu nr at_ ln (nI O.1.length) rf ∧ cF h h1 ∧ sv s' ∧ kcok k' ∧ ∀ (r : Option Value) (h' : xH) (v1 : Int32) (a3 : Option Value), (b = true → ∀ a3, x_EV 151 31 [some (.ref 2), some (.int v1), some (.int (nI (i + 1))), a3] [] h1 r h') → (b = false → r = some (.int (-1000 - nI i)) ∧ h' = x_wr h1 3 (x_ts 3 a)) → x_EV 151 31 [some (.ref 2), some (.int v1), some (.int (nI i)), a3] [] h r h' := by
  have B := X.1
  obtain ⟨o1, o2, o3, o4, o5⟩ := hO.2.2 i hi
  obtain ⟨g1, g2, g3, g4, g5, g6⟩ := hrep
  obtain ⟨g7, g8, g9⟩ := g6 i hi
  have hF := hag.2.1
  have ck := c_kind (x1 := nI i) X.2.2 (by rw [g1]; exact x_in (by omega) (by decide))
  rw [xg_n (by omega), g7] at ck
  have back : ∀ {b : Bool} {s' : kS} {k' : kC} {h1 : xH}, cX h1 s' a k' sh nx ct tx kd fi cn nu nr at_ ln (nI O.1.length) rf → sv s' → ∀ (r : Option Value) (h' : xH) (v1 : Int32) (a3 : Option Value), (b = true → ∀ a3, x_EV 151 31 [some (.ref 2), some (.int v1), some (.int (nI (i + 1))), a3] [] h1 r h') → (b = false → r = some (.int (-1000 - nI i)) ∧ h' = x_wr h1 3 (x_ts 3 a)) → x_EV 151 68 [some (.ref 2), some (.int v1), some (.int (nI i)), a3] [.int (if b = true then 1 else 0)] h1 r h' := by
    intro b s' k' h1 X1 hv1 r h' v1 a3 H1 H0
    have B := X1.1
    have cc := c_scopyS (a := 3) (b := 16) B.hs X1.2.1 (by decide) (Or.inr (by decide)) hv1.1 ha
    refine xe_X7_does_68 ?_
    cases b
    · obtain ⟨e1, e2⟩ := H0 rfl
      subst e1 e2
      rw [if_neg (by decide)]
      (repeat (first | (simp only [xb_X7_does_0, xb_X7_does_18, xb_X7_does_31, xb_X7_does_63, xb_X7_does_68, xb_X7_does_90, xb_X7_does_96, xs_nil, Nat.reduceAdd, true_implies, not_true_eq_false, not_false_eq_true, false_implies, and_true, true_and, x_10, xs_aload_n_0, xs_istore_n_1_i, xs_istore_n_1_a, xs_istore_n_1_n, xs_istore_n_1_l, xs_iload_n_1, xs_iconst_m1, xs_icmp_eq, xs_bipush_m10, xs_isub, xs_ireturn, xs_iconst_0, xs_istore_n_2_i, xs_istore_n_2_a, xs_istore_n_2_n, xs_istore_n_2_l, xs_iload_n_2, xs_icmp_ge, xs_bipush_119, xs_icmp_ne, xs_goto, xs_istore_n_3_i, xs_istore_n_3_a, xs_istore_n_3_n, xs_istore_n_3_l, xs_iload_n_3, xs_if_ne, xs_sipush_m1000, xs_iinc_2_1_i, xs_iinc_2_1_a, xs_iinc_2_1_n]) | (refine xr_getf (B.hp 0 _ rfl) (by rfl) ?_) | (refine xr_getf (B.hs 0 _ rfl) (by rfl) ?_) | (refine xr_getf (B.hs 1 _ rfl) (by rfl) ?_) | (refine xr_getf (B.hs 7 _ rfl) (by rfl) ?_) | refine xc_v2_0 (cc) (Nat.le_of_ble_eq_true rfl) ?_))
      (first | exact ⟨Or.inl trivial, rfl⟩ | exact ⟨Or.inl trivial, rfl, rfl⟩ | (simp; done) | exact ⟨by simp, rfl⟩ | exact ⟨by simp, rfl, rfl⟩ | rfl)
    · rw [if_pos rfl]
      (repeat (first | (simp only [xb_X7_does_0, xb_X7_does_18, xb_X7_does_31, xb_X7_does_63, xb_X7_does_68, xb_X7_does_90, xb_X7_does_96, xs_nil, Nat.reduceAdd, true_implies, not_true_eq_false, not_false_eq_true, false_implies, and_true, true_and, x_10, xs_aload_n_0, xs_istore_n_1_i, xs_istore_n_1_a, xs_istore_n_1_n, xs_istore_n_1_l, xs_iload_n_1, xs_iconst_m1, xs_icmp_eq, xs_bipush_m10, xs_isub, xs_ireturn, xs_iconst_0, xs_istore_n_2_i, xs_istore_n_2_a, xs_istore_n_2_n, xs_istore_n_2_l, xs_iload_n_2, xs_icmp_ge, xs_bipush_119, xs_icmp_ne, xs_goto, xs_istore_n_3_i, xs_istore_n_3_a, xs_istore_n_3_n, xs_istore_n_3_l, xs_iload_n_3, xs_if_ne, xs_sipush_m1000, xs_iinc_2_1_i, xs_iinc_2_1_a, xs_iinc_2_1_n]) ))
      refine xe_X7_does_90 ?_
      (repeat (first | (simp only [xb_X7_does_0, xb_X7_does_18, xb_X7_does_31, xb_X7_does_63, xb_X7_does_68, xb_X7_does_90, xb_X7_does_96, xs_nil, Nat.reduceAdd, true_implies, not_true_eq_false, not_false_eq_true, false_implies, and_true, true_and, x_10, xs_aload_n_0, xs_istore_n_1_i, xs_istore_n_1_a, xs_istore_n_1_n, xs_istore_n_1_l, xs_iload_n_1, xs_iconst_m1, xs_icmp_eq, xs_bipush_m10, xs_isub, xs_ireturn, xs_iconst_0, xs_istore_n_2_i, xs_istore_n_2_a, xs_istore_n_2_n, xs_istore_n_2_l, xs_iload_n_2, xs_icmp_ge, xs_bipush_119, xs_icmp_ne, xs_goto, xs_istore_n_3_i, xs_istore_n_3_a, xs_istore_n_3_n, xs_istore_n_3_l, xs_iload_n_3, xs_if_ne, xs_sipush_m1000, xs_iinc_2_1_i, xs_iinc_2_1_a, xs_iinc_2_1_n]) ))
      rw [nI_1]
      exact H1 rfl _
  by_cases hw : O.1.getD i 0 = 119
  · obtain ⟨b, s', k', h1, w1, w2, w3, w4, w5, w6⟩ := cX_doWords (F := O.2.2) (n := O.2.1.getD (i + 1) 0 - O.2.1.getD i 0) (f := O.2.1.getD i 0) X hv hk g2 g3 (by omega) g9 g8 hag (by omega) (o5 hw).2
    refine ⟨b, s', k', h1, Or.inl ⟨hw, w1⟩, w3, w4, w5, w6, fun r h' v1 a3 H1 H0 => ?_⟩
    refine xe_X7_does_31 ?_
    (repeat (first | (simp only [xb_X7_does_0, xb_X7_does_18, xb_X7_does_31, xb_X7_does_63, xb_X7_does_68, xb_X7_does_90, xb_X7_does_96, xs_nil, Nat.reduceAdd, true_implies, not_true_eq_false, not_false_eq_true, false_implies, and_true, true_and, x_10, xs_aload_n_0, xs_istore_n_1_i, xs_istore_n_1_a, xs_istore_n_1_n, xs_istore_n_1_l, xs_iload_n_1, xs_iconst_m1, xs_icmp_eq, xs_bipush_m10, xs_isub, xs_ireturn, xs_iconst_0, xs_istore_n_2_i, xs_istore_n_2_a, xs_istore_n_2_n, xs_istore_n_2_l, xs_iload_n_2, xs_icmp_ge, xs_bipush_119, xs_icmp_ne, xs_goto, xs_istore_n_3_i, xs_istore_n_3_a, xs_istore_n_3_n, xs_istore_n_3_l, xs_iload_n_3, xs_if_ne, xs_sipush_m1000, xs_iinc_2_1_i, xs_iinc_2_1_a, xs_iinc_2_1_n]) | (refine xr_getf (B.hp 0 _ rfl) (by rfl) ?_) | (refine xr_getf (B.hs 0 _ rfl) (by rfl) ?_) | (refine xr_getf (B.hs 1 _ rfl) (by rfl) ?_) | (refine xr_getf (B.hs 7 _ rfl) (by rfl) ?_) | (refine xr_getf (X.2.2 0 _ rfl) (by rfl) ?_)))
    refine ⟨fun z => absurd z (nI_ge hi (by omega)), fun _ => ?_⟩
    (repeat (first | (simp only [xb_X7_does_0, xb_X7_does_18, xb_X7_does_31, xb_X7_does_63, xb_X7_does_68, xb_X7_does_90, xb_X7_does_96, xs_nil, Nat.reduceAdd, true_implies, not_true_eq_false, not_false_eq_true, false_implies, and_true, true_and, x_10, xs_aload_n_0, xs_istore_n_1_i, xs_istore_n_1_a, xs_istore_n_1_n, xs_istore_n_1_l, xs_iload_n_1, xs_iconst_m1, xs_icmp_eq, xs_bipush_m10, xs_isub, xs_ireturn, xs_iconst_0, xs_istore_n_2_i, xs_istore_n_2_a, xs_istore_n_2_n, xs_istore_n_2_l, xs_iload_n_2, xs_icmp_ge, xs_bipush_119, xs_icmp_ne, xs_goto, xs_istore_n_3_i, xs_istore_n_3_a, xs_istore_n_3_n, xs_istore_n_3_l, xs_iload_n_3, xs_if_ne, xs_sipush_m1000, xs_iinc_2_1_i, xs_iinc_2_1_a, xs_iinc_2_1_n]) | (refine xr_getf (B.hp 0 _ rfl) (by rfl) ?_) | (refine xr_getf (B.hs 0 _ rfl) (by rfl) ?_) | (refine xr_getf (B.hs 1 _ rfl) (by rfl) ?_) | (refine xr_getf (B.hs 7 _ rfl) (by rfl) ?_) | refine xc_v2_1 (ck) (Nat.le_of_ble_eq_true rfl) ?_))
    refine ⟨fun z => absurd hw z, fun _ => ?_⟩
    (repeat (first | (simp only [xb_X7_does_0, xb_X7_does_18, xb_X7_does_31, xb_X7_does_63, xb_X7_does_68, xb_X7_does_90, xb_X7_does_96, xs_nil, Nat.reduceAdd, true_implies, not_true_eq_false, not_false_eq_true, false_implies, and_true, true_and, x_10, xs_aload_n_0, xs_istore_n_1_i, xs_istore_n_1_a, xs_istore_n_1_n, xs_istore_n_1_l, xs_iload_n_1, xs_iconst_m1, xs_icmp_eq, xs_bipush_m10, xs_isub, xs_ireturn, xs_iconst_0, xs_istore_n_2_i, xs_istore_n_2_a, xs_istore_n_2_n, xs_istore_n_2_l, xs_iload_n_2, xs_icmp_ge, xs_bipush_119, xs_icmp_ne, xs_goto, xs_istore_n_3_i, xs_istore_n_3_a, xs_istore_n_3_n, xs_istore_n_3_l, xs_iload_n_3, xs_if_ne, xs_sipush_m1000, xs_iinc_2_1_i, xs_iinc_2_1_a, xs_iinc_2_1_n]) | (refine xr_getf (B.hp 0 _ rfl) (by rfl) ?_) | (refine xr_getf (B.hs 0 _ rfl) (by rfl) ?_) | (refine xr_getf (B.hs 1 _ rfl) (by rfl) ?_) | (refine xr_getf (B.hs 7 _ rfl) (by rfl) ?_) | refine xc_v2_1 (w2) (Nat.le_of_ble_eq_true rfl) ?_))
    exact back w3 w5 r h' v1 a3 H1 H0
  · obtain ⟨b, s', h1, w1, w2, w3, w4, w5⟩ := cX_doOrder (c := O.1.getD i 0) (F := O.2.2) (n := O.2.1.getD (i + 1) 0 - O.2.1.getD i 0) (f := O.2.1.getD i 0) X hv g1 g2 g3 (by omega) g7 g9 g8 hag (by omega) (o4 hw) o1 hw
    refine ⟨b, s', k, h1, w1, w3, w4, w5, hk, fun r h' v1 a3 H1 H0 => ?_⟩
    refine xe_X7_does_31 ?_
    (repeat (first | (simp only [xb_X7_does_0, xb_X7_does_18, xb_X7_does_31, xb_X7_does_63, xb_X7_does_68, xb_X7_does_90, xb_X7_does_96, xs_nil, Nat.reduceAdd, true_implies, not_true_eq_false, not_false_eq_true, false_implies, and_true, true_and, x_10, xs_aload_n_0, xs_istore_n_1_i, xs_istore_n_1_a, xs_istore_n_1_n, xs_istore_n_1_l, xs_iload_n_1, xs_iconst_m1, xs_icmp_eq, xs_bipush_m10, xs_isub, xs_ireturn, xs_iconst_0, xs_istore_n_2_i, xs_istore_n_2_a, xs_istore_n_2_n, xs_istore_n_2_l, xs_iload_n_2, xs_icmp_ge, xs_bipush_119, xs_icmp_ne, xs_goto, xs_istore_n_3_i, xs_istore_n_3_a, xs_istore_n_3_n, xs_istore_n_3_l, xs_iload_n_3, xs_if_ne, xs_sipush_m1000, xs_iinc_2_1_i, xs_iinc_2_1_a, xs_iinc_2_1_n]) | (refine xr_getf (B.hp 0 _ rfl) (by rfl) ?_) | (refine xr_getf (B.hs 0 _ rfl) (by rfl) ?_) | (refine xr_getf (B.hs 1 _ rfl) (by rfl) ?_) | (refine xr_getf (B.hs 7 _ rfl) (by rfl) ?_) | (refine xr_getf (X.2.2 0 _ rfl) (by rfl) ?_)))
    refine ⟨fun z => absurd z (nI_ge hi (by omega)), fun _ => ?_⟩
    (repeat (first | (simp only [xb_X7_does_0, xb_X7_does_18, xb_X7_does_31, xb_X7_does_63, xb_X7_does_68, xb_X7_does_90, xb_X7_does_96, xs_nil, Nat.reduceAdd, true_implies, not_true_eq_false, not_false_eq_true, false_implies, and_true, true_and, x_10, xs_aload_n_0, xs_istore_n_1_i, xs_istore_n_1_a, xs_istore_n_1_n, xs_istore_n_1_l, xs_iload_n_1, xs_iconst_m1, xs_icmp_eq, xs_bipush_m10, xs_isub, xs_ireturn, xs_iconst_0, xs_istore_n_2_i, xs_istore_n_2_a, xs_istore_n_2_n, xs_istore_n_2_l, xs_iload_n_2, xs_icmp_ge, xs_bipush_119, xs_icmp_ne, xs_goto, xs_istore_n_3_i, xs_istore_n_3_a, xs_istore_n_3_n, xs_istore_n_3_l, xs_iload_n_3, xs_if_ne, xs_sipush_m1000, xs_iinc_2_1_i, xs_iinc_2_1_a, xs_iinc_2_1_n]) | (refine xr_getf (B.hp 0 _ rfl) (by rfl) ?_) | (refine xr_getf (B.hs 0 _ rfl) (by rfl) ?_) | (refine xr_getf (B.hs 1 _ rfl) (by rfl) ?_) | (refine xr_getf (B.hs 7 _ rfl) (by rfl) ?_) | refine xc_v2_1 (ck) (Nat.le_of_ble_eq_true rfl) ?_))
    refine ⟨fun _ => ?_, fun z => absurd hw z⟩
    refine xe_X7_does_63 ?_
    (repeat (first | (simp only [xb_X7_does_0, xb_X7_does_18, xb_X7_does_31, xb_X7_does_63, xb_X7_does_68, xb_X7_does_90, xb_X7_does_96, xs_nil, Nat.reduceAdd, true_implies, not_true_eq_false, not_false_eq_true, false_implies, and_true, true_and, x_10, xs_aload_n_0, xs_istore_n_1_i, xs_istore_n_1_a, xs_istore_n_1_n, xs_istore_n_1_l, xs_iload_n_1, xs_iconst_m1, xs_icmp_eq, xs_bipush_m10, xs_isub, xs_ireturn, xs_iconst_0, xs_istore_n_2_i, xs_istore_n_2_a, xs_istore_n_2_n, xs_istore_n_2_l, xs_iload_n_2, xs_icmp_ge, xs_bipush_119, xs_icmp_ne, xs_goto, xs_istore_n_3_i, xs_istore_n_3_a, xs_istore_n_3_n, xs_istore_n_3_l, xs_iload_n_3, xs_if_ne, xs_sipush_m1000, xs_iinc_2_1_i, xs_iinc_2_1_a, xs_iinc_2_1_n]) | (refine xr_getf (B.hp 0 _ rfl) (by rfl) ?_) | (refine xr_getf (B.hs 0 _ rfl) (by rfl) ?_) | (refine xr_getf (B.hs 1 _ rfl) (by rfl) ?_) | (refine xr_getf (B.hs 7 _ rfl) (by rfl) ?_) | refine xc_v2_1 (w2) (Nat.le_of_ble_eq_true rfl) ?_))
    exact back w3 w5 r h' v1 a3 H1 H0
theorem l_does7 (ha : svl a) (hO : wO O) (hK : O.1.length ≤ 40) (hrep : repC kd fi cn O) (hag : agr nu O.2.2) : ∀ (d i : Nat) (s : kS) (k : kC) (h : xH), cX h s a k sh nx ct tx kd fi cn nu nr at_ ln (nI O.1.length) rf → sv s → kcok k → i + d = O.1.length → ∃ q b s' k' h1, oA O d i s k q b s' k' ∧ cX h1 s' a k' sh nx ct tx kd fi cn nu nr at_ ln (nI O.1.length) rf ∧ cF h h1 ∧ sv s' ∧ kcok k' ∧ ∀ (r : Option Value) (h' : xH) (v1 : Int32) (a3 : Option Value), (b = true → ∀ a3, x_EV 151 96 [some (.ref 2), some (.int v1), some (.int (nI O.1.length)), a3] [] h1 r h') → (b = false → r = some (.int (-1000 - nI q)) ∧ h' = x_wr h1 3 (x_ts 3 a)) → x_EV 151 31 [some (.ref 2), some (.int v1), some (.int (nI i)), a3] [] h r h' := by
  intro d
  induction d with
  | zero =>
    intro i s k h X hv hk hi
    have B := X.1
    refine ⟨0, true, s, k, h, ⟨rfl, rfl, rfl⟩, X, cF.refl h, hv, hk, fun r h' v1 a3 H1 _ => ?_⟩
    have e : i = O.1.length := by omega
    refine xe_X7_does_31 ?_
    (repeat (first | (simp only [xb_X7_does_0, xb_X7_does_18, xb_X7_does_31, xb_X7_does_63, xb_X7_does_68, xb_X7_does_90, xb_X7_does_96, xs_nil, Nat.reduceAdd, true_implies, not_true_eq_false, not_false_eq_true, false_implies, and_true, true_and, x_10, xs_aload_n_0, xs_istore_n_1_i, xs_istore_n_1_a, xs_istore_n_1_n, xs_istore_n_1_l, xs_iload_n_1, xs_iconst_m1, xs_icmp_eq, xs_bipush_m10, xs_isub, xs_ireturn, xs_iconst_0, xs_istore_n_2_i, xs_istore_n_2_a, xs_istore_n_2_n, xs_istore_n_2_l, xs_iload_n_2, xs_icmp_ge, xs_bipush_119, xs_icmp_ne, xs_goto, xs_istore_n_3_i, xs_istore_n_3_a, xs_istore_n_3_n, xs_istore_n_3_l, xs_iload_n_3, xs_if_ne, xs_sipush_m1000, xs_iinc_2_1_i, xs_iinc_2_1_a, xs_iinc_2_1_n]) | (refine xr_getf (B.hp 0 _ rfl) (by rfl) ?_) | (refine xr_getf (B.hs 0 _ rfl) (by rfl) ?_) | (refine xr_getf (B.hs 1 _ rfl) (by rfl) ?_) | (refine xr_getf (B.hs 7 _ rfl) (by rfl) ?_) | (refine xr_getf (X.2.2 0 _ rfl) (by rfl) ?_)))
    refine ⟨fun _ => ?_, fun z => absurd (nI_le (by omega) (by omega)) z⟩
    rw [e]
    exact H1 rfl _
  | succ d ih =>
    intro i s k h X hv hk hi
    obtain ⟨b, s1, k1, h1, w1, w2, w3, w4, w5, w6⟩ := c7_step X hv hk ha hO hK hrep hag (i := i) (by omega)
    cases b
    · exact ⟨i, false, s1, k1, h1, ⟨false, s1, k1, w1, Or.inr ⟨rfl, rfl, rfl, rfl, rfl⟩⟩, w2, w3, w4, w5, fun r h' v1 a3 _ H0 => w6 r h' v1 a3 (fun z => by cases z) H0⟩
    · obtain ⟨q, b, s2, k2, h2, v1, v2, v3, v4, v5, v6⟩ := ih (i + 1) s1 k1 h1 w2 w4 w5 (by omega)
      exact ⟨q, b, s2, k2, h2, ⟨true, s1, k1, w1, Or.inl ⟨rfl, v1⟩⟩, v2, w3.trans v3, v4, v5, fun r h' u1 a3 H1 H0 => w6 r h' u1 a3 (fun _ a3 => v6 r h' u1 a3 H1 H0) (fun z => by cases z)⟩
end CR6
