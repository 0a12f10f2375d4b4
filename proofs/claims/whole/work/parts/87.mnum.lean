/-! the reference reads a number -/
section MR2
variable {m : Nat} {nw asd pa rf tx hd rd so ah ar tr bg le fr nu : List Int32} {sts fo bc br bk od wr : Int32} {ha : Int64} {h h0 : xH} {N p q : Nat}
theorem tn_stop (hl : tx.length = 120) (hN : N ≤ 120) {s : Nat} (hs : s ≤ N) (hf : figB (pB tx N s) = false) (A : xA h0 m (x_mc m nw asd pa sts rf tx (nI N) hd rd so ah ar tr bg fo bc br bk le fr nu od (nI s) wr ha) h) {a1 a2 : Option Value} : x_EV 157 12 [some (.ref m), a1, a2] [] h (some (.int 1)) h := by
  have hb := A.hb
  have c := c_isF hb hl hN (by omega)
  rw [hf, if_neg (by decide)] at c
  refine xe_X8_takesNumber_12 ?_
  (repeat (first | (simp only [xb_X8_takesNumber_0, xb_X8_takesNumber_12, xb_X8_takesNumber_42, xb_X8_takesNumber_83, xs_nil, Nat.reduceAdd, true_implies, not_true_eq_false, not_false_eq_true, false_implies, and_true, true_and, x_10, xs_aload_n_0, xs_istore_n_2_i, xs_istore_n_2_a, xs_istore_n_2_n, xs_istore_n_2_l, xs_iload_n_1, xs_iconst_0, xs_bipush_48, xs_bipush_57, xs_if_eq, xs_iload_n_2, xs_iconst_2, xs_iadd, xs_icmp_ne, xs_ireturn, xs_bipush_10, xs_imul, xs_isub, xs_dup_i, xs_dup_a, xs_iconst_1, xs_goto]) | refine xc_v3_1 (c) (Nat.le_of_ble_eq_true rfl) ?_))
  refine xe_X8_takesNumber_83 ?_
  (repeat (first | (simp only [xb_X8_takesNumber_0, xb_X8_takesNumber_12, xb_X8_takesNumber_42, xb_X8_takesNumber_83, xs_nil, Nat.reduceAdd, true_implies, not_true_eq_false, not_false_eq_true, false_implies, and_true, true_and, x_10, xs_aload_n_0, xs_istore_n_2_i, xs_istore_n_2_a, xs_istore_n_2_n, xs_istore_n_2_l, xs_iload_n_1, xs_iconst_0, xs_bipush_48, xs_bipush_57, xs_if_eq, xs_iload_n_2, xs_iconst_2, xs_iadd, xs_icmp_ne, xs_ireturn, xs_bipush_10, xs_imul, xs_isub, xs_dup_i, xs_dup_a, xs_iconst_1, xs_goto]) ))
  first | (first | exact ⟨Or.inl trivial, rfl⟩ | exact ⟨Or.inl trivial, rfl, rfl⟩ | (simp; done) | exact ⟨by simp, rfl⟩ | exact ⟨by simp, rfl, rfl⟩ | rfl) | (simp; done)
theorem tn_fail (h2 : 2 ≤ m) (hl : tx.length = 120) (hN : N ≤ 120) (hs : p + 2 ≤ N) (hf : figB (pB tx N (p + 2)) = true) (A : xA h0 m (x_mc m nw asd pa sts rf tx (nI N) hd rd so ah ar tr bg fo bc br bk le fr nu od (nI (p + 2)) wr ha) h) {a1 : Option Value} : x_EV 157 12 [some (.ref m), a1, some (.int (nI p))] [] h (some (.int 0)) (x_wr h0 m (x_mc m nw asd pa sts rf tx (nI N) hd rd so ah ar tr bg fo bc br bk le fr nu od (nI (p + 2)) (nI (p + 2)) ha)) := by
  have hb := A.hb
  have c := c_isF hb hl hN (by omega)
  rw [if_pos hf] at c
  obtain ⟨h1, cf, A1⟩ : ∃ h1, xK 155 [.ref m, .int (nI (p + 2))] h (some (.int 0)) h1 ∧ xA h0 m (x_mc m nw asd pa sts rf tx (nI N) hd rd so ah ar tr bg fo bc br bk le fr nu od (nI (p + 2)) (nI (p + 2)) ha) h1 := ⟨_, c_fails hb h2, A.on rfl⟩
  refine xe_X8_takesNumber_12 ?_
  (repeat (first | (simp only [xb_X8_takesNumber_0, xb_X8_takesNumber_12, xb_X8_takesNumber_42, xb_X8_takesNumber_83, xs_nil, Nat.reduceAdd, true_implies, not_true_eq_false, not_false_eq_true, false_implies, and_true, true_and, x_10, xs_aload_n_0, xs_istore_n_2_i, xs_istore_n_2_a, xs_istore_n_2_n, xs_istore_n_2_l, xs_iload_n_1, xs_iconst_0, xs_bipush_48, xs_bipush_57, xs_if_eq, xs_iload_n_2, xs_iconst_2, xs_iadd, xs_icmp_ne, xs_ireturn, xs_bipush_10, xs_imul, xs_isub, xs_dup_i, xs_dup_a, xs_iconst_1, xs_goto]) | refine xc_v3_1 (c) (Nat.le_of_ble_eq_true rfl) ?_ | (refine xr_getf (hb 0 _ rfl) (by rfl) ?_)))
  rw [nI_k p 2 (x := (2 : Int32)) rfl]
  refine ⟨fun z => absurd rfl z, fun _ => ?_⟩
  (repeat (first | (simp only [xb_X8_takesNumber_0, xb_X8_takesNumber_12, xb_X8_takesNumber_42, xb_X8_takesNumber_83, xs_nil, Nat.reduceAdd, true_implies, not_true_eq_false, not_false_eq_true, false_implies, and_true, true_and, x_10, xs_aload_n_0, xs_istore_n_2_i, xs_istore_n_2_a, xs_istore_n_2_n, xs_istore_n_2_l, xs_iload_n_1, xs_iconst_0, xs_bipush_48, xs_bipush_57, xs_if_eq, xs_iload_n_2, xs_iconst_2, xs_iadd, xs_icmp_ne, xs_ireturn, xs_bipush_10, xs_imul, xs_isub, xs_dup_i, xs_dup_a, xs_iconst_1, xs_goto]) | (refine xr_getf (hb 0 _ rfl) (by rfl) ?_) | refine xc_v2_1 (cf) (Nat.le_of_ble_eq_true rfl) ?_))
  have e := A1.e
  rw [e]
  first | (first | exact ⟨Or.inl trivial, rfl⟩ | exact ⟨Or.inl trivial, rfl, rfl⟩ | (simp; done) | exact ⟨by simp, rfl⟩ | exact ⟨by simp, rfl, rfl⟩ | rfl) | (simp; done)
theorem tn_go {r : Option Value} {h' : xH} {j : Nat} {v : Int32} (h2 : 2 ≤ m) (hl : tx.length = 120) (hN : N ≤ 120) (hln : nu.length = 120) (hq : q < 120) (hj : j < 2) (hf : figB (pB tx N (p + j)) = true) (A : xA h0 m (x_mc m nw asd pa sts rf tx (nI N) hd rd so ah ar tr bg fo bc br bk le fr (nu.set q v) od (nI (p + j)) wr ha) h) (H : ∀ h1, xA h0 m (x_mc m nw asd pa sts rf tx (nI N) hd rd so ah ar tr bg fo bc br bk le fr (nu.set q (10 * v + pB tx N (p + j) - 48)) od (nI (p + j + 1)) wr ha) h1 → x_EV 157 12 [some (.ref m), some (.int (nI q)), some (.int (nI p))] [] h1 r h') : x_EV 157 12 [some (.ref m), some (.int (nI q)), some (.int (nI p))] [] h r h' := by
  have hb := A.hb
  have hlt : p + j < N := fig_lt (tx := tx) hf
  have c := c_isF hb hl hN (by omega)
  rw [if_pos hf] at c
  have hln2 : (nu.set q v).length = 120 := by rw [List.length_set]; exact hln
  have ep : tx.getD (p + j) 0 = pB tx N (p + j) := by unfold pB; rw [if_pos hlt]
  have eg : (nu.set q v).getD q 0 = v := gs_eq (by rw [hln]; exact hq)
  refine xe_X8_takesNumber_12 ?_
  (repeat (first | (simp only [xb_X8_takesNumber_0, xb_X8_takesNumber_12, xb_X8_takesNumber_42, xb_X8_takesNumber_83, xs_nil, Nat.reduceAdd, true_implies, not_true_eq_false, not_false_eq_true, false_implies, and_true, true_and, x_10, xs_aload_n_0, xs_istore_n_2_i, xs_istore_n_2_a, xs_istore_n_2_n, xs_istore_n_2_l, xs_iload_n_1, xs_iconst_0, xs_bipush_48, xs_bipush_57, xs_if_eq, xs_iload_n_2, xs_iconst_2, xs_iadd, xs_icmp_ne, xs_ireturn, xs_bipush_10, xs_imul, xs_isub, xs_dup_i, xs_dup_a, xs_iconst_1, xs_goto]) | refine xc_v3_1 (c) (Nat.le_of_ble_eq_true rfl) ?_ | (refine xr_getf (hb 0 _ rfl) (by rfl) ?_)))
  rw [nI_k p 2 (x := (2 : Int32)) rfl]
  refine ⟨fun _ => ?_, fun z => absurd (fun e => by have := (nI_eq (by omega) (by omega)).mp e; omega) z⟩
  refine xe_X8_takesNumber_42 ?_
  (repeat (first | (simp only [xb_X8_takesNumber_0, xb_X8_takesNumber_12, xb_X8_takesNumber_42, xb_X8_takesNumber_83, xs_nil, Nat.reduceAdd, true_implies, not_true_eq_false, not_false_eq_true, false_implies, and_true, true_and, x_10, xs_aload_n_0, xs_istore_n_2_i, xs_istore_n_2_a, xs_istore_n_2_n, xs_istore_n_2_l, xs_iload_n_1, xs_iconst_0, xs_bipush_48, xs_bipush_57, xs_if_eq, xs_iload_n_2, xs_iconst_2, xs_iadd, xs_icmp_ne, xs_ireturn, xs_bipush_10, xs_imul, xs_isub, xs_dup_i, xs_dup_a, xs_iconst_1, xs_goto]) | (refine xr_getf (hb 0 _ rfl) (by rfl) ?_) | (refine xr_iaload (hb 15 _ rfl) (x_in (by rw [hln2]; exact hq) (by rw [hln2]; decide)) ?_) | (refine xr_iaload (hb 5 _ rfl) (x_in (by rw [hl]; omega) (by rw [hl]; decide)) ?_)))
  rw [xg_n (by omega), xg_n (by omega), ep, eg]
  refine xa_iastore A 15 (by rfl) h2 (x_in (by rw [hln2]; exact hq) (by rw [hln2]; decide)) (fun h1 A1 => ?_)
  rw [xu_n (by omega), List.set_set] at A1
  have A1 : xA h0 m (x_mc m nw asd pa sts rf tx (nI N) hd rd so ah ar tr bg fo bc br bk le fr (nu.set q (10 * v + pB tx N (p + j) - 48)) od (nI (p + j)) wr ha) h1 := A1
  have hb1 := A1.hb
  (repeat (first | (simp only [xb_X8_takesNumber_0, xb_X8_takesNumber_12, xb_X8_takesNumber_42, xb_X8_takesNumber_83, xs_nil, Nat.reduceAdd, true_implies, not_true_eq_false, not_false_eq_true, false_implies, and_true, true_and, x_10, xs_aload_n_0, xs_istore_n_2_i, xs_istore_n_2_a, xs_istore_n_2_n, xs_istore_n_2_l, xs_iload_n_1, xs_iconst_0, xs_bipush_48, xs_bipush_57, xs_if_eq, xs_iload_n_2, xs_iconst_2, xs_iadd, xs_icmp_ne, xs_ireturn, xs_bipush_10, xs_imul, xs_isub, xs_dup_i, xs_dup_a, xs_iconst_1, xs_goto]) | (rw [xn_dup]) | (refine xr_getf (hb1 0 _ rfl) (by rfl) ?_)))
  rw [nI_1]
  refine xa_putf A1 0 (by rfl) h2 (by exact Nat.le_of_ble_eq_true rfl) (x_fit_int _) (fun h3 A3 => ?_)
  (repeat (first | (simp only [xb_X8_takesNumber_0, xb_X8_takesNumber_12, xb_X8_takesNumber_42, xb_X8_takesNumber_83, xs_nil, Nat.reduceAdd, true_implies, not_true_eq_false, not_false_eq_true, false_implies, and_true, true_and, x_10, xs_aload_n_0, xs_istore_n_2_i, xs_istore_n_2_a, xs_istore_n_2_n, xs_istore_n_2_l, xs_iload_n_1, xs_iconst_0, xs_bipush_48, xs_bipush_57, xs_if_eq, xs_iload_n_2, xs_iconst_2, xs_iadd, xs_icmp_ne, xs_ireturn, xs_bipush_10, xs_imul, xs_isub, xs_dup_i, xs_dup_a, xs_iconst_1, xs_goto]) ))
  exact H h3 A3
theorem c_takesNumber (hb : x_hb h m (x_mc m nw asd pa sts rf tx (nI N) hd rd so ah ar tr bg fo bc br bk le fr nu od (nI p) wr ha)) (h2 : 2 ≤ m) (hl : tx.length = 120) (hN : N ≤ 120) (hln : nu.length = 120) (hq : q < 120) (hf : figB (pB tx N p) = true) : ∃ (nu' : List Int32) (wr' : Int32), (nu'.length = 120 ∧ ((pnum tx N p false).1 = true → nu' = nu.set q (pnum tx N p false).2.2) ∧ ((pnum tx N p false).1 = false → wr' = nI (pnum tx N p false).2.1)) ∧ xK 157 [.ref m, .int (nI q)] h (some (.int (if (pnum tx N p false).1 = true then 1 else 0))) (x_wr h m (x_mc m nw asd pa sts rf tx (nI N) hd rd so ah ar tr bg fo bc br bk le fr (nu') od (nI (pnum tx N p false).2.1) (wr') ha)) := by
  have A := xA.of hb (Nat.zero_lt_succ _)
  have hlt : p < N := fig_lt (tx := tx) hf
  have hset : ∀ v, (nu.set q v).length = 120 := fun v => by rw [List.length_set]; exact hln
  have e0 : ∀ c : Int32, 10 * 0 + c - 48 = c - 48 := fun c => by simp
  have n1 : ¬ (false = true ∧ pB tx N p = 45) := fun z => by cases z.1
  have n2 : ¬ figB (pB tx N p) = false := by rw [hf]; decide
  have lead : ∀ (r : Option Value) (h' : xH), (∀ h1, xA h m (x_mc m nw asd pa sts rf tx (nI N) hd rd so ah ar tr bg fo bc br bk le fr (nu.set q (pB tx N p - 48)) od (nI (p + 1)) wr ha) h1 → x_EV 157 12 [some (.ref m), some (.int (nI q)), some (.int (nI p))] [] h1 r h') → xK 157 [.ref m, .int (nI q)] h r h' := by
    intro r h' H
    refine xK_X8_takesNumber (hb 0 _ rfl) (xe_X8_takesNumber_0 ?_)
    (repeat (first | (simp only [xb_X8_takesNumber_0, xb_X8_takesNumber_12, xb_X8_takesNumber_42, xb_X8_takesNumber_83, xs_nil, Nat.reduceAdd, true_implies, not_true_eq_false, not_false_eq_true, false_implies, and_true, true_and, x_10, xs_aload_n_0, xs_istore_n_2_i, xs_istore_n_2_a, xs_istore_n_2_n, xs_istore_n_2_l, xs_iload_n_1, xs_iconst_0, xs_bipush_48, xs_bipush_57, xs_if_eq, xs_iload_n_2, xs_iconst_2, xs_iadd, xs_icmp_ne, xs_ireturn, xs_bipush_10, xs_imul, xs_isub, xs_dup_i, xs_dup_a, xs_iconst_1, xs_goto]) | (refine xr_getf (hb 0 _ rfl) (by rfl) ?_)))
    refine xa_iastore A 15 (by rfl) h2 (x_in (by rw [hln]; exact hq) (by rw [hln]; decide)) (fun h1 A1 => ?_)
    rw [xu_n (by omega)] at A1
    have A1 : xA h m (x_mc m nw asd pa sts rf tx (nI N) hd rd so ah ar tr bg fo bc br bk le fr (nu.set q 0) od (nI (p + 0)) wr ha) h1 := A1
    (repeat (first | (simp only [xb_X8_takesNumber_0, xb_X8_takesNumber_12, xb_X8_takesNumber_42, xb_X8_takesNumber_83, xs_nil, Nat.reduceAdd, true_implies, not_true_eq_false, not_false_eq_true, false_implies, and_true, true_and, x_10, xs_aload_n_0, xs_istore_n_2_i, xs_istore_n_2_a, xs_istore_n_2_n, xs_istore_n_2_l, xs_iload_n_1, xs_iconst_0, xs_bipush_48, xs_bipush_57, xs_if_eq, xs_iload_n_2, xs_iconst_2, xs_iadd, xs_icmp_ne, xs_ireturn, xs_bipush_10, xs_imul, xs_isub, xs_dup_i, xs_dup_a, xs_iconst_1, xs_goto]) ))
    refine tn_go (j := 0) (v := 0) h2 hl hN hln hq (by decide) hf A1 (fun h3 A3 => ?_)
    rw [e0] at A3
    exact H h3 A3
  by_cases h3 : figB (pB tx N (p + 1)) = false
  · have e : pnum tx N p false = (true, p + 1, pB tx N p - 48) := by unfold pnum; rw [if_neg n1, if_neg n2, if_pos h3]
    rw [e]
    refine ⟨nu.set q (pB tx N p - 48), wr, ⟨hset _, fun _ => rfl, fun z => by cases z⟩, ?_⟩
    refine lead _ _ (fun h1 A1 => ?_)
    have w := tn_stop hl hN (by omega) h3 A1 (a1 := some (.int (nI q))) (a2 := some (.int (nI p)))
    have e1 := A1.e
    rw [← e1] at w ⊢
    exact w
  · have hf2 : figB (pB tx N (p + 1)) = true := by rw [Bool.not_eq_false] at h3; exact h3
    have hlt1 : p + 1 < N := fig_lt (tx := tx) hf2
    by_cases h4 : figB (pB tx N (p + 2)) = false
    · have e : pnum tx N p false = (true, p + 2, 10 * (pB tx N p - 48) + pB tx N (p + 1) - 48) := by unfold pnum; rw [if_neg n1, if_neg n2, if_neg h3, if_pos h4]
      rw [e]
      refine ⟨nu.set q (10 * (pB tx N p - 48) + pB tx N (p + 1) - 48), wr, ⟨hset _, fun _ => rfl, fun z => by cases z⟩, ?_⟩
      refine lead _ _ (fun h1 A1 => ?_)
      refine tn_go (j := 1) h2 hl hN hln hq (by decide) hf2 A1 (fun h3 A3 => ?_)
      have w := tn_stop hl hN (by omega) h4 A3 (a1 := some (.int (nI q))) (a2 := some (.int (nI p)))
      have e1 := A3.e
      rw [← e1] at w ⊢
      exact w
    · have hf3 : figB (pB tx N (p + 2)) = true := by rw [Bool.not_eq_false] at h4; exact h4
      have hlt2 : p + 2 < N := fig_lt (tx := tx) hf3
      have e : pnum tx N p false = (false, p + 2, 0) := by unfold pnum; rw [if_neg n1, if_neg n2, if_neg h3, if_neg h4]
      rw [e]
      refine ⟨nu.set q (10 * (pB tx N p - 48) + pB tx N (p + 1) - 48), nI (p + 2), ⟨hset _, (fun z => by cases z), fun _ => rfl⟩, ?_⟩
      refine lead _ _ (fun h1 A1 => ?_)
      refine tn_go (j := 1) h2 hl hN hln hq (by decide) hf2 A1 (fun h3 A3 => ?_)
      exact tn_fail h2 hl hN (by omega) hf3 A3
end MR2
