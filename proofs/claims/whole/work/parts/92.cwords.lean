/-! the class does an order -/
section CY
variable {a : kS} {sh : Nat → kS} {nx ct : Nat} {tx kd fi cn nu F : List Int32} {nr at_ ln od : Int32} {rf : List Int32} {i f n : Nat}
theorem l_doWords (q1 : fi.length = 120) (q2 : cn.length = 120) (hi : i < 120) (hcn : cn.getD i 0 = nI n) (hfi : fi.getD i 0 = nI f) (hag : agr nu F) (hfn : f + n ≤ F.length) (hn : n ≤ 6) : ∀ (d j : Nat) (s : kS) (k : kC) (h : xH), cX h s a k sh nx ct tx kd fi cn nu nr at_ ln od rf → sv s → kcok k → j + d = n → ∃ b s' k' h1, oW F d (f + j) s k b s' k' ∧ cX h1 s' a k' sh nx ct tx kd fi cn nu nr at_ ln od rf ∧ cF h h1 ∧ sv s' ∧ kcok k' ∧ ∀ a4 : Option Value, x_EV 148 11 [some (.ref 2), some (.int (nI i)), some (.int (nI n)), some (.int (nI j)), a4] [] h (some (.int (if b = true then 1 else 0))) h1 := by
  intro d
  induction d with
  | zero =>
    intro j s k h X hv hk hj
    refine ⟨true, s, k, h, ⟨rfl, rfl, rfl⟩, X, cF.refl h, hv, hk, fun a4 => ?_⟩
    refine xe_X7_doWords_11 ?_
    (repeat (first | (simp only [xb_X7_doWords_0, xb_X7_doWords_11, xb_X7_doWords_41, xb_X7_doWords_60, xs_nil, Nat.reduceAdd, true_implies, not_true_eq_false, not_false_eq_true, false_implies, and_true, true_and, x_10, xs_aload_n_0, xs_iload_n_1, xs_istore_n_2_i, xs_istore_n_2_a, xs_istore_n_2_n, xs_istore_n_2_l, xs_iconst_0, xs_istore_n_3_i, xs_istore_n_3_a, xs_istore_n_3_n, xs_istore_n_3_l, xs_iload_n_3, xs_iload_n_2, xs_icmp_ge, xs_istore_4_i, xs_istore_4_a, xs_istore_4_n, xs_istore_4_l, xs_iload_4, xs_if_eq, xs_ireturn, xs_iinc_3_1_i, xs_iinc_3_1_a, xs_iinc_3_1_n, xs_goto, xs_iconst_1]) ))
    refine ⟨fun _ => ?_, fun z => absurd (nI_le (by omega) (by omega)) z⟩
    refine xe_X7_doWords_60 ?_
    (repeat (first | (simp only [xb_X7_doWords_0, xb_X7_doWords_11, xb_X7_doWords_41, xb_X7_doWords_60, xs_nil, Nat.reduceAdd, true_implies, not_true_eq_false, not_false_eq_true, false_implies, and_true, true_and, x_10, xs_aload_n_0, xs_iload_n_1, xs_istore_n_2_i, xs_istore_n_2_a, xs_istore_n_2_n, xs_istore_n_2_l, xs_iconst_0, xs_istore_n_3_i, xs_istore_n_3_a, xs_istore_n_3_n, xs_istore_n_3_l, xs_iload_n_3, xs_iload_n_2, xs_icmp_ge, xs_istore_4_i, xs_istore_4_a, xs_istore_4_n, xs_istore_4_l, xs_iload_4, xs_if_eq, xs_ireturn, xs_iinc_3_1_i, xs_iinc_3_1_a, xs_iinc_3_1_n, xs_goto, xs_iconst_1]) ))
    (first | exact ⟨Or.inl trivial, rfl⟩ | exact ⟨Or.inl trivial, rfl, rfl⟩ | (simp; done) | exact ⟨by simp, rfl⟩ | exact ⟨by simp, rfl, rfl⟩ | rfl)
  | succ d ih =>
    intro j s k h X hv hk hj
    have B := X.1
    have hne := hv.ne
    have h6 := hv.n6
    have cN := cX_num (j := j) X q1 q2 hi hcn hfi hag hfn (by omega) hn
    rw [if_pos (by omega)] at cN
    have c1 := c_whyNoWord (x1 := F.getD (f + j) 0) B.hs
    rw [hv.ec, hv.ct] at c1
    have lead : ∀ (r : Option Value) (h' : xH) (v : Int32) (a4 : Option Value), xK 57 [.ref 3, .int (F.getD (f + j) 0)] h (some (.int v)) h → (v = 0 → x_EV 148 41 [some (.ref 2), some (.int (nI i)), some (.int (nI n)), some (.int (nI j)), some (.int (F.getD (f + j) 0))] [] h r h') → (¬ v = 0 → r = some (.int 0) ∧ h' = h) → x_EV 148 11 [some (.ref 2), some (.int (nI i)), some (.int (nI n)), some (.int (nI j)), a4] [] h r h' := by
      intro r h' v a4 c1 H1 H0
      refine xe_X7_doWords_11 ?_
      (repeat (first | (simp only [xb_X7_doWords_0, xb_X7_doWords_11, xb_X7_doWords_41, xb_X7_doWords_60, xs_nil, Nat.reduceAdd, true_implies, not_true_eq_false, not_false_eq_true, false_implies, and_true, true_and, x_10, xs_aload_n_0, xs_iload_n_1, xs_istore_n_2_i, xs_istore_n_2_a, xs_istore_n_2_n, xs_istore_n_2_l, xs_iconst_0, xs_istore_n_3_i, xs_istore_n_3_a, xs_istore_n_3_n, xs_istore_n_3_l, xs_iload_n_3, xs_iload_n_2, xs_icmp_ge, xs_istore_4_i, xs_istore_4_a, xs_istore_4_n, xs_istore_4_l, xs_iload_4, xs_if_eq, xs_ireturn, xs_iinc_3_1_i, xs_iinc_3_1_a, xs_iinc_3_1_n, xs_goto, xs_iconst_1]) ))
      refine ⟨fun z => absurd z (nI_ge (by omega) (by omega)), fun _ => ?_⟩
      (repeat (first | (simp only [xb_X7_doWords_0, xb_X7_doWords_11, xb_X7_doWords_41, xb_X7_doWords_60, xs_nil, Nat.reduceAdd, true_implies, not_true_eq_false, not_false_eq_true, false_implies, and_true, true_and, x_10, xs_aload_n_0, xs_iload_n_1, xs_istore_n_2_i, xs_istore_n_2_a, xs_istore_n_2_n, xs_istore_n_2_l, xs_iconst_0, xs_istore_n_3_i, xs_istore_n_3_a, xs_istore_n_3_n, xs_istore_n_3_l, xs_iload_n_3, xs_iload_n_2, xs_icmp_ge, xs_istore_4_i, xs_istore_4_a, xs_istore_4_n, xs_istore_4_l, xs_iload_4, xs_if_eq, xs_ireturn, xs_iinc_3_1_i, xs_iinc_3_1_a, xs_iinc_3_1_n, xs_goto, xs_iconst_1]) | (refine xr_getf (B.hp 0 _ rfl) (by rfl) ?_) | (refine xr_getf (B.hs 0 _ rfl) (by rfl) ?_) | (refine xr_getf (B.hs 1 _ rfl) (by rfl) ?_) | (refine xr_getf (B.hs 7 _ rfl) (by rfl) ?_) | refine xc_v3_1 (cN) (Nat.le_of_ble_eq_true rfl) ?_ | refine xc_v2_1 (c1) (Nat.le_of_ble_eq_true rfl) ?_))
      refine ⟨fun z => H1 z, fun z => ?_⟩
      obtain ⟨e1, e2⟩ := H0 z
      subst e1 e2
      (repeat (first | (simp only [xb_X7_doWords_0, xb_X7_doWords_11, xb_X7_doWords_41, xb_X7_doWords_60, xs_nil, Nat.reduceAdd, true_implies, not_true_eq_false, not_false_eq_true, false_implies, and_true, true_and, x_10, xs_aload_n_0, xs_iload_n_1, xs_istore_n_2_i, xs_istore_n_2_a, xs_istore_n_2_n, xs_istore_n_2_l, xs_iconst_0, xs_istore_n_3_i, xs_istore_n_3_a, xs_istore_n_3_n, xs_istore_n_3_l, xs_iload_n_3, xs_iload_n_2, xs_icmp_ge, xs_istore_4_i, xs_istore_4_a, xs_istore_4_n, xs_istore_4_l, xs_iload_4, xs_if_eq, xs_ireturn, xs_iinc_3_1_i, xs_iinc_3_1_a, xs_iinc_3_1_n, xs_goto, xs_iconst_1]) ))
      (first | exact ⟨Or.inl trivial, rfl⟩ | exact ⟨Or.inl trivial, rfl, rfl⟩ | (simp; done) | exact ⟨by simp, rfl⟩ | exact ⟨by simp, rfl, rfl⟩ | rfl)
    generalize hx : F.getD (f + j) 0 = x at cN c1 lead
    by_cases hc : 0 ≤ x ∧ x < nI (sne s)
    · rw [if_pos hc] at c1
      by_cases hs : sn s < 6
      · obtain ⟨e, he, rfl⟩ := nI_rng (n := sne s) rfl (by omega) hc.1 hc.2
        rw [if_neg (show ¬ (6 : Int32) ≤ nI (sn s) from nI_ge (b := 6) hs (by decide))] at c1
        have cH := c_hear (j := e) B.hs B.hk (Or.inl (by decide)) (by decide) (by decide) hv hk (by omega) hs
        obtain ⟨X1, F1⟩ := X.now (khear s k (nI e)).1
        obtain ⟨X2, F2⟩ := X1.chart (khear s k (nI e)).2
        obtain ⟨b, s', k', h1, w1, w2, w3, w4, w5, w6⟩ := ih (j + 1) _ _ _ X2 (sv_hear hv (by omega) hs) (khear_ok hk) (by omega)
        refine ⟨b, s', k', h1, Or.inl ⟨e, he, hs, hx, w1⟩, w2, (F1.trans F2).trans w3, w4, w5, fun a4 => ?_⟩
        refine lead _ _ _ a4 c1 (fun _ => ?_) (fun z => absurd rfl z)
        refine xe_X7_doWords_41 ?_
        (repeat (first | (simp only [xb_X7_doWords_0, xb_X7_doWords_11, xb_X7_doWords_41, xb_X7_doWords_60, xs_nil, Nat.reduceAdd, true_implies, not_true_eq_false, not_false_eq_true, false_implies, and_true, true_and, x_10, xs_aload_n_0, xs_iload_n_1, xs_istore_n_2_i, xs_istore_n_2_a, xs_istore_n_2_n, xs_istore_n_2_l, xs_iconst_0, xs_istore_n_3_i, xs_istore_n_3_a, xs_istore_n_3_n, xs_istore_n_3_l, xs_iload_n_3, xs_iload_n_2, xs_icmp_ge, xs_istore_4_i, xs_istore_4_a, xs_istore_4_n, xs_istore_4_l, xs_iload_4, xs_if_eq, xs_ireturn, xs_iinc_3_1_i, xs_iinc_3_1_a, xs_iinc_3_1_n, xs_goto, xs_iconst_1]) | (refine xr_getf (B.hp 0 _ rfl) (by rfl) ?_) | (refine xr_getf (B.hs 0 _ rfl) (by rfl) ?_) | (refine xr_getf (B.hs 1 _ rfl) (by rfl) ?_) | (refine xr_getf (B.hs 7 _ rfl) (by rfl) ?_) | refine xc_v3_0 (cH) (Nat.le_of_ble_eq_true rfl) ?_))
        rw [nI_1]
        exact w6 _
      · rw [if_pos (show (6 : Int32) ≤ nI (sn s) by rw [show sn s = 6 by omega]; decide)] at c1
        refine ⟨false, s, k, h, Or.inr ⟨rfl, fun z => hs z.2, rfl, rfl⟩, X, cF.refl h, hv, hk, fun a4 => ?_⟩
        exact lead _ _ _ a4 c1 (fun z => absurd z (by decide)) (fun _ => ⟨rfl, rfl⟩)
    · rw [if_neg hc] at c1
      refine ⟨false, s, k, h, Or.inr ⟨rfl, fun z => hc (by rw [← hx]; exact z.1), rfl, rfl⟩, X, cF.refl h, hv, hk, fun a4 => ?_⟩
      exact lead _ _ _ a4 c1 (fun z => absurd z (by decide)) (fun _ => ⟨rfl, rfl⟩)
theorem cX_doWords {s : kS} {k : kC} {h : xH} (X : cX h s a k sh nx ct tx kd fi cn nu nr at_ ln od rf) (hv : sv s) (hk : kcok k) (q1 : fi.length = 120) (q2 : cn.length = 120) (hi : i < 120) (hcn : cn.getD i 0 = nI n) (hfi : fi.getD i 0 = nI f) (hag : agr nu F) (hfn : f + n ≤ F.length) (hn : n ≤ 6) : ∃ b s' k' h1, oW F n f s k b s' k' ∧ xK 148 [.ref 2, .int (nI i)] h (some (.int (if b = true then 1 else 0))) h1 ∧ cX h1 s' a k' sh nx ct tx kd fi cn nu nr at_ ln od rf ∧ cF h h1 ∧ sv s' ∧ kcok k' := by
  have B := X.1
  obtain ⟨b, s', k', h1, w1, w2, w3, w4, w5, w6⟩ := l_doWords q1 q2 hi hcn hfi hag hfn hn n 0 s k h X hv hk (by omega)
  refine ⟨b, s', k', h1, w1, ?_, w2, w3, w4, w5⟩
  have c := c_numberCount (x1 := nI i) X.2.2 (by rw [q2]; exact x_in hi (by decide))
  rw [xg_n (by omega), hcn] at c
  refine xK_X7_doWords (B.hp 0 _ rfl) (xe_X7_doWords_0 ?_)
  (repeat (first | (simp only [xb_X7_doWords_0, xb_X7_doWords_11, xb_X7_doWords_41, xb_X7_doWords_60, xs_nil, Nat.reduceAdd, true_implies, not_true_eq_false, not_false_eq_true, false_implies, and_true, true_and, x_10, xs_aload_n_0, xs_iload_n_1, xs_istore_n_2_i, xs_istore_n_2_a, xs_istore_n_2_n, xs_istore_n_2_l, xs_iconst_0, xs_istore_n_3_i, xs_istore_n_3_a, xs_istore_n_3_n, xs_istore_n_3_l, xs_iload_n_3, xs_iload_n_2, xs_icmp_ge, xs_istore_4_i, xs_istore_4_a, xs_istore_4_n, xs_istore_4_l, xs_iload_4, xs_if_eq, xs_ireturn, xs_iinc_3_1_i, xs_iinc_3_1_a, xs_iinc_3_1_n, xs_goto, xs_iconst_1]) | (refine xr_getf (B.hp 0 _ rfl) (by rfl) ?_) | (refine xr_getf (B.hs 0 _ rfl) (by rfl) ?_) | (refine xr_getf (B.hs 1 _ rfl) (by rfl) ?_) | (refine xr_getf (B.hs 7 _ rfl) (by rfl) ?_) | refine xc_v2_1 (c) (Nat.le_of_ble_eq_true rfl) ?_))
  exact w6 _
end CY
