/-! the class reads: numbers, orders, all -/
section CR2
variable {g : Nat} {by_ kd fi cn nu F : List Int32} {nr at_ ln od : Int32} {h h0 : xH} {N p q : Nat}
/-- a step on -/
theorem c_readNumber {nb : Bool} (hb : x_hb h g (x_rc g by_ kd fi cn nu (nI q) (nI p) (nI N) od)) (h2 : 2 ≤ g) (hl : by_.length = 120) (hln : nu.length = 120) (hN : N ≤ 120) (hp : p ≤ N) (hq : q ≤ p) : ∃ (nu' : List Int32) (nr' : Int32), (nu'.length = 120 ∧ ((pnum by_ N p nb).1 = true → nu' = nu.set q (pnum by_ N p nb).2.2 ∧ nr' = nI (q + 1))) ∧ xK 142 [.ref g, .int (if nb = true then 1 else 0)] h (some (.int (if (pnum by_ N p nb).1 = true then 1 else 0))) (x_wr h g (x_rc g by_ kd fi cn (nu') (nr') (nI (pnum by_ N p nb).2.1) (nI N) od)) := by
  have A := xA.of hb (Nat.zero_lt_succ _)
  have cH := c_hereP hb hl hN (by omega)
  have cF := c_figP hb hl hN (by omega)
  by_cases h1 : nb = true ∧ pB by_ N p = 45
  · -- none
    have hlt : p < N := pB_lt (tx := by_) (by rw [h1.2]; decide)
    have e : pnum by_ N p nb = (true, p + 1, -1) := by unfold pnum; rw [if_pos h1]
    rw [e]
    refine ⟨nu.set q (-1), nI (q + 1), ⟨by rw [List.length_set]; exact hln, fun _ => ⟨rfl, rfl⟩⟩, ?_⟩
    rw [if_pos h1.1, if_pos rfl]
    rw [h1.2] at cH
    refine xK_X3_readNumber (hb 0 _ rfl) (xe_X3_readNumber_0 ?_)
    (repeat (first | (simp only [xb_X3_readNumber_0, xb_X3_readNumber_30, xb_X3_readNumber_39, xb_X3_readNumber_87, xb_X3_readNumber_103, xb_X3_readNumber_104, xs_nil, Nat.reduceAdd, true_implies, not_true_eq_false, not_false_eq_true, false_implies, and_true, true_and, x_10, xs_iload_n_1, xs_if_eq, xs_aload_n_0, xs_bipush_45, xs_icmp_ne, xs_dup_i, xs_dup_a, xs_iconst_1, xs_iadd, xs_iconst_m1, xs_ireturn, xs_if_ne, xs_iconst_0, xs_bipush_48, xs_isub, xs_istore_n_2_i, xs_istore_n_2_a, xs_istore_n_2_n, xs_istore_n_2_l, xs_bipush_10, xs_iload_n_2, xs_imul, xs_goto]) | refine xc_v1_1 (cH) (Nat.le_of_ble_eq_true rfl) ?_ | (rw [xn_dup]) | (refine xr_getf (hb 0 _ rfl) (by rfl) ?_)))
    rw [nI_1]
    refine xa_putf A 0 (by rfl) h2 (by exact Nat.le_of_ble_eq_true rfl) (x_fit_int _) (fun h1 A1 => ?_)
    have A1 : xA h g (x_rc g by_ kd fi cn nu (nI q) (nI (p + 1)) (nI N) od) h1 := A1
    have cK := c_keep (x := -1) A1.hb h2 hln (by omega)
    have A2 : xA h g (x_rc g by_ kd fi cn (nu.set q (-1)) (nI (q + 1)) (nI (p + 1)) (nI N) od) _ := A1.on rfl
    (repeat (first | (simp only [xb_X3_readNumber_0, xb_X3_readNumber_30, xb_X3_readNumber_39, xb_X3_readNumber_87, xb_X3_readNumber_103, xb_X3_readNumber_104, xs_nil, Nat.reduceAdd, true_implies, not_true_eq_false, not_false_eq_true, false_implies, and_true, true_and, x_10, xs_iload_n_1, xs_if_eq, xs_aload_n_0, xs_bipush_45, xs_icmp_ne, xs_dup_i, xs_dup_a, xs_iconst_1, xs_iadd, xs_iconst_m1, xs_ireturn, xs_if_ne, xs_iconst_0, xs_bipush_48, xs_isub, xs_istore_n_2_i, xs_istore_n_2_a, xs_istore_n_2_n, xs_istore_n_2_l, xs_bipush_10, xs_iload_n_2, xs_imul, xs_goto]) | refine xc_v2_0 (cK) (Nat.le_of_ble_eq_true rfl) ?_))
    rw [← A2.e]
    first | (first | exact ⟨Or.inl trivial, rfl⟩ | exact ⟨Or.inl trivial, rfl, rfl⟩ | (simp; done) | exact ⟨by simp, rfl⟩ | exact ⟨by simp, rfl, rfl⟩ | rfl) | (simp; done)
  · -- a number with figures
    by_cases h2f : figB (pB by_ N p) = false
    · have e : pnum by_ N p nb = (false, p, 0) := by unfold pnum; rw [if_neg h1, if_pos h2f]
      rw [e]
      refine ⟨nu, nI q, ⟨hln, fun z => by cases z⟩, ?_⟩
      rw [h2f, if_neg (by decide)] at cF
      rw [show (if (false, p, (0 : Int32)).1 = true then (1 : Int32) else 0) = 0 from rfl]
      have fin : x_EV 142 30 [some (.ref g), some (.int (if nb = true then 1 else 0)), none] [] h (some (.int 0)) (x_wr h g (x_rc g by_ kd fi cn nu (nI q) (nI p) (nI N) od)) := by
        refine xe_X3_readNumber_30 ?_
        (repeat (first | (simp only [xb_X3_readNumber_0, xb_X3_readNumber_30, xb_X3_readNumber_39, xb_X3_readNumber_87, xb_X3_readNumber_103, xb_X3_readNumber_104, xs_nil, Nat.reduceAdd, true_implies, not_true_eq_false, not_false_eq_true, false_implies, and_true, true_and, x_10, xs_iload_n_1, xs_if_eq, xs_aload_n_0, xs_bipush_45, xs_icmp_ne, xs_dup_i, xs_dup_a, xs_iconst_1, xs_iadd, xs_iconst_m1, xs_ireturn, xs_if_ne, xs_iconst_0, xs_bipush_48, xs_isub, xs_istore_n_2_i, xs_istore_n_2_a, xs_istore_n_2_n, xs_istore_n_2_l, xs_bipush_10, xs_iload_n_2, xs_imul, xs_goto]) | refine xc_v1_1 (cF) (Nat.le_of_ble_eq_true rfl) ?_))
        have e := A.e
        all_goals first | exact ⟨by simp, e⟩ | exact e | exact ⟨by simp, by simp, e⟩ | exact ⟨by simp, by simp_all, e⟩
      refine xK_X3_readNumber (hb 0 _ rfl) (xe_X3_readNumber_0 ?_)
      (repeat (first | (simp only [xb_X3_readNumber_0, xb_X3_readNumber_30, xb_X3_readNumber_39, xb_X3_readNumber_87, xb_X3_readNumber_103, xb_X3_readNumber_104, xs_nil, Nat.reduceAdd, true_implies, not_true_eq_false, not_false_eq_true, false_implies, and_true, true_and, x_10, xs_iload_n_1, xs_if_eq, xs_aload_n_0, xs_bipush_45, xs_icmp_ne, xs_dup_i, xs_dup_a, xs_iconst_1, xs_iadd, xs_iconst_m1, xs_ireturn, xs_if_ne, xs_iconst_0, xs_bipush_48, xs_isub, xs_istore_n_2_i, xs_istore_n_2_a, xs_istore_n_2_n, xs_istore_n_2_l, xs_bipush_10, xs_iload_n_2, xs_imul, xs_goto]) ))
      simp only [x_ite0, Classical.not_not]
      refine ⟨fun _ => fin, fun z => ?_⟩
      (repeat (first | (simp only [xb_X3_readNumber_0, xb_X3_readNumber_30, xb_X3_readNumber_39, xb_X3_readNumber_87, xb_X3_readNumber_103, xb_X3_readNumber_104, xs_nil, Nat.reduceAdd, true_implies, not_true_eq_false, not_false_eq_true, false_implies, and_true, true_and, x_10, xs_iload_n_1, xs_if_eq, xs_aload_n_0, xs_bipush_45, xs_icmp_ne, xs_dup_i, xs_dup_a, xs_iconst_1, xs_iadd, xs_iconst_m1, xs_ireturn, xs_if_ne, xs_iconst_0, xs_bipush_48, xs_isub, xs_istore_n_2_i, xs_istore_n_2_a, xs_istore_n_2_n, xs_istore_n_2_l, xs_bipush_10, xs_iload_n_2, xs_imul, xs_goto]) | refine xc_v1_1 (cH) (Nat.le_of_ble_eq_true rfl) ?_))
      exact ⟨fun _ => fin, fun z2 => absurd ⟨z, Classical.not_not.mp z2⟩ h1⟩
    · have hf1 : figB (pB by_ N p) = true := by rw [Bool.not_eq_false] at h2f; exact h2f
      have hlt : p < N := fig_lt (tx := by_) hf1
      rw [if_pos hf1] at cF
      -- behind the first figure
      have rest : ∀ (r : Bool) (p' : Nat) (v : Int32), pnum by_ N p nb = (r, p', v) ∨ (r = false ∧ (pnum by_ N p nb).1 = false ∧ (pnum by_ N p nb).2.1 = p') → p' ≤ N → (∀ h1, xA h g (x_rc g by_ kd fi cn nu (nI q) (nI p') (nI N) od) h1 → figB (pB by_ N p') = !r → x_EV 142 87 [some (.ref g), some (.int (if nb = true then 1 else 0)), some (.int v)] [] h1 (some (.int (if r = true then 1 else 0))) (x_wr h g (x_rc g by_ kd fi cn (nu.set q v) (nI (q + 1)) (nI p') (nI N) od))) := by
        intro r p' v _ hp' h1 A1 hr
        have cK := c_keep (x := v) A1.hb h2 hln (by omega)
        have A2 : xA h g (x_rc g by_ kd fi cn (nu.set q v) (nI (q + 1)) (nI p') (nI N) od) _ := A1.on rfl
        have cG := c_figP A2.hb hl hN (by omega)
        have e2 := A2.e
        rw [hr] at cG
        refine xe_X3_readNumber_87 ?_
        (repeat (first | (simp only [xb_X3_readNumber_0, xb_X3_readNumber_30, xb_X3_readNumber_39, xb_X3_readNumber_87, xb_X3_readNumber_103, xb_X3_readNumber_104, xs_nil, Nat.reduceAdd, true_implies, not_true_eq_false, not_false_eq_true, false_implies, and_true, true_and, x_10, xs_iload_n_1, xs_if_eq, xs_aload_n_0, xs_bipush_45, xs_icmp_ne, xs_dup_i, xs_dup_a, xs_iconst_1, xs_iadd, xs_iconst_m1, xs_ireturn, xs_if_ne, xs_iconst_0, xs_bipush_48, xs_isub, xs_istore_n_2_i, xs_istore_n_2_a, xs_istore_n_2_n, xs_istore_n_2_l, xs_bipush_10, xs_iload_n_2, xs_imul, xs_goto]) | refine xc_v2_0 (cK) (Nat.le_of_ble_eq_true rfl) ?_))
        generalize x_wr h1 g (x_rc g by_ kd fi cn (nu.set q v) (nI (q + 1)) (nI p') (nI N) od) = h3 at cG e2 ⊢
        (repeat (first | (simp only [xb_X3_readNumber_0, xb_X3_readNumber_30, xb_X3_readNumber_39, xb_X3_readNumber_87, xb_X3_readNumber_103, xb_X3_readNumber_104, xs_nil, Nat.reduceAdd, true_implies, not_true_eq_false, not_false_eq_true, false_implies, and_true, true_and, x_10, xs_iload_n_1, xs_if_eq, xs_aload_n_0, xs_bipush_45, xs_icmp_ne, xs_dup_i, xs_dup_a, xs_iconst_1, xs_iadd, xs_iconst_m1, xs_ireturn, xs_if_ne, xs_iconst_0, xs_bipush_48, xs_isub, xs_istore_n_2_i, xs_istore_n_2_a, xs_istore_n_2_n, xs_istore_n_2_l, xs_bipush_10, xs_iload_n_2, xs_imul, xs_goto]) | refine xc_v1_1 (cG) (Nat.le_of_ble_eq_true rfl) ?_))
        rw [e2]
        cases r
        · rw [show (if (!false) = true then (1 : Int32) else 0) = 1 from rfl, show (if false = true then (1 : Int32) else 0) = 0 from rfl]
          (repeat (first | (simp only [xb_X3_readNumber_0, xb_X3_readNumber_30, xb_X3_readNumber_39, xb_X3_readNumber_87, xb_X3_readNumber_103, xb_X3_readNumber_104, xs_nil, Nat.reduceAdd, true_implies, not_true_eq_false, not_false_eq_true, false_implies, and_true, true_and, x_10, xs_iload_n_1, xs_if_eq, xs_aload_n_0, xs_bipush_45, xs_icmp_ne, xs_dup_i, xs_dup_a, xs_iconst_1, xs_iadd, xs_iconst_m1, xs_ireturn, xs_if_ne, xs_iconst_0, xs_bipush_48, xs_isub, xs_istore_n_2_i, xs_istore_n_2_a, xs_istore_n_2_n, xs_istore_n_2_l, xs_bipush_10, xs_iload_n_2, xs_imul, xs_goto]) ))
          refine xe_X3_readNumber_103 ?_
          (repeat (first | (simp only [xb_X3_readNumber_0, xb_X3_readNumber_30, xb_X3_readNumber_39, xb_X3_readNumber_87, xb_X3_readNumber_103, xb_X3_readNumber_104, xs_nil, Nat.reduceAdd, true_implies, not_true_eq_false, not_false_eq_true, false_implies, and_true, true_and, x_10, xs_iload_n_1, xs_if_eq, xs_aload_n_0, xs_bipush_45, xs_icmp_ne, xs_dup_i, xs_dup_a, xs_iconst_1, xs_iadd, xs_iconst_m1, xs_ireturn, xs_if_ne, xs_iconst_0, xs_bipush_48, xs_isub, xs_istore_n_2_i, xs_istore_n_2_a, xs_istore_n_2_n, xs_istore_n_2_l, xs_bipush_10, xs_iload_n_2, xs_imul, xs_goto]) ))
          refine xe_X3_readNumber_104 ?_
          (repeat (first | (simp only [xb_X3_readNumber_0, xb_X3_readNumber_30, xb_X3_readNumber_39, xb_X3_readNumber_87, xb_X3_readNumber_103, xb_X3_readNumber_104, xs_nil, Nat.reduceAdd, true_implies, not_true_eq_false, not_false_eq_true, false_implies, and_true, true_and, x_10, xs_iload_n_1, xs_if_eq, xs_aload_n_0, xs_bipush_45, xs_icmp_ne, xs_dup_i, xs_dup_a, xs_iconst_1, xs_iadd, xs_iconst_m1, xs_ireturn, xs_if_ne, xs_iconst_0, xs_bipush_48, xs_isub, xs_istore_n_2_i, xs_istore_n_2_a, xs_istore_n_2_n, xs_istore_n_2_l, xs_bipush_10, xs_iload_n_2, xs_imul, xs_goto]) ))
          first | (first | exact ⟨Or.inl trivial, rfl⟩ | exact ⟨Or.inl trivial, rfl, rfl⟩ | (simp; done) | exact ⟨by simp, rfl⟩ | exact ⟨by simp, rfl, rfl⟩ | rfl) | (simp; done)
        · rw [show (if (!true) = true then (1 : Int32) else 0) = 0 from rfl, show (if true = true then (1 : Int32) else 0) = 1 from rfl]
          (repeat (first | (simp only [xb_X3_readNumber_0, xb_X3_readNumber_30, xb_X3_readNumber_39, xb_X3_readNumber_87, xb_X3_readNumber_103, xb_X3_readNumber_104, xs_nil, Nat.reduceAdd, true_implies, not_true_eq_false, not_false_eq_true, false_implies, and_true, true_and, x_10, xs_iload_n_1, xs_if_eq, xs_aload_n_0, xs_bipush_45, xs_icmp_ne, xs_dup_i, xs_dup_a, xs_iconst_1, xs_iadd, xs_iconst_m1, xs_ireturn, xs_if_ne, xs_iconst_0, xs_bipush_48, xs_isub, xs_istore_n_2_i, xs_istore_n_2_a, xs_istore_n_2_n, xs_istore_n_2_l, xs_bipush_10, xs_iload_n_2, xs_imul, xs_goto]) ))
          refine xe_X3_readNumber_104 ?_
          (repeat (first | (simp only [xb_X3_readNumber_0, xb_X3_readNumber_30, xb_X3_readNumber_39, xb_X3_readNumber_87, xb_X3_readNumber_103, xb_X3_readNumber_104, xs_nil, Nat.reduceAdd, true_implies, not_true_eq_false, not_false_eq_true, false_implies, and_true, true_and, x_10, xs_iload_n_1, xs_if_eq, xs_aload_n_0, xs_bipush_45, xs_icmp_ne, xs_dup_i, xs_dup_a, xs_iconst_1, xs_iadd, xs_iconst_m1, xs_ireturn, xs_if_ne, xs_iconst_0, xs_bipush_48, xs_isub, xs_istore_n_2_i, xs_istore_n_2_a, xs_istore_n_2_n, xs_istore_n_2_l, xs_bipush_10, xs_iload_n_2, xs_imul, xs_goto]) ))
          first | (first | exact ⟨Or.inl trivial, rfl⟩ | exact ⟨Or.inl trivial, rfl, rfl⟩ | (simp; done) | exact ⟨by simp, rfl⟩ | exact ⟨by simp, rfl, rfl⟩ | rfl) | (simp; done)
      have walk : ∀ (r : Option Value) (h' : xH), (∀ h1, xA h g (x_rc g by_ kd fi cn nu (nI q) (nI (p + 1)) (nI N) od) h1 → (figB (pB by_ N (p + 1)) = false → x_EV 142 87 [some (.ref g), some (.int (if nb = true then 1 else 0)), some (.int (pB by_ N p - 48))] [] h1 r h') ∧ (figB (pB by_ N (p + 1)) = true → ∀ h2, xA h g (x_rc g by_ kd fi cn nu (nI q) (nI (p + 2)) (nI N) od) h2 → x_EV 142 87 [some (.ref g), some (.int (if nb = true then 1 else 0)), some (.int (10 * (pB by_ N p - 48) + pB by_ N (p + 1) - 48))] [] h2 r h')) → xK 142 [.ref g, .int (if nb = true then 1 else 0)] h r h' := by
        intro r h' H
        have fin : x_EV 142 30 [some (.ref g), some (.int (if nb = true then 1 else 0)), none] [] h r h' := by
          refine xe_X3_readNumber_30 ?_
          (repeat (first | (simp only [xb_X3_readNumber_0, xb_X3_readNumber_30, xb_X3_readNumber_39, xb_X3_readNumber_87, xb_X3_readNumber_103, xb_X3_readNumber_104, xs_nil, Nat.reduceAdd, true_implies, not_true_eq_false, not_false_eq_true, false_implies, and_true, true_and, x_10, xs_iload_n_1, xs_if_eq, xs_aload_n_0, xs_bipush_45, xs_icmp_ne, xs_dup_i, xs_dup_a, xs_iconst_1, xs_iadd, xs_iconst_m1, xs_ireturn, xs_if_ne, xs_iconst_0, xs_bipush_48, xs_isub, xs_istore_n_2_i, xs_istore_n_2_a, xs_istore_n_2_n, xs_istore_n_2_l, xs_bipush_10, xs_iload_n_2, xs_imul, xs_goto]) | refine xc_v1_1 (cF) (Nat.le_of_ble_eq_true rfl) ?_))
          refine xe_X3_readNumber_39 ?_
          (repeat (first | (simp only [xb_X3_readNumber_0, xb_X3_readNumber_30, xb_X3_readNumber_39, xb_X3_readNumber_87, xb_X3_readNumber_103, xb_X3_readNumber_104, xs_nil, Nat.reduceAdd, true_implies, not_true_eq_false, not_false_eq_true, false_implies, and_true, true_and, x_10, xs_iload_n_1, xs_if_eq, xs_aload_n_0, xs_bipush_45, xs_icmp_ne, xs_dup_i, xs_dup_a, xs_iconst_1, xs_iadd, xs_iconst_m1, xs_ireturn, xs_if_ne, xs_iconst_0, xs_bipush_48, xs_isub, xs_istore_n_2_i, xs_istore_n_2_a, xs_istore_n_2_n, xs_istore_n_2_l, xs_bipush_10, xs_iload_n_2, xs_imul, xs_goto]) | refine xc_v1_1 (cH) (Nat.le_of_ble_eq_true rfl) ?_ | (rw [xn_dup]) | (refine xr_getf (hb 0 _ rfl) (by rfl) ?_)))
          rw [nI_1]
          refine xa_putf A 0 (by rfl) h2 (by exact Nat.le_of_ble_eq_true rfl) (x_fit_int _) (fun h1 A1 => ?_)
          have A1 : xA h g (x_rc g by_ kd fi cn nu (nI q) (nI (p + 1)) (nI N) od) h1 := A1
          have hb1 := A1.hb
          have cH1 := c_hereP hb1 hl hN (by omega)
          have cF1 := c_figP hb1 hl hN (by omega)
          obtain ⟨H1, H2⟩ := H h1 A1
          (repeat (first | (simp only [xb_X3_readNumber_0, xb_X3_readNumber_30, xb_X3_readNumber_39, xb_X3_readNumber_87, xb_X3_readNumber_103, xb_X3_readNumber_104, xs_nil, Nat.reduceAdd, true_implies, not_true_eq_false, not_false_eq_true, false_implies, and_true, true_and, x_10, xs_iload_n_1, xs_if_eq, xs_aload_n_0, xs_bipush_45, xs_icmp_ne, xs_dup_i, xs_dup_a, xs_iconst_1, xs_iadd, xs_iconst_m1, xs_ireturn, xs_if_ne, xs_iconst_0, xs_bipush_48, xs_isub, xs_istore_n_2_i, xs_istore_n_2_a, xs_istore_n_2_n, xs_istore_n_2_l, xs_bipush_10, xs_iload_n_2, xs_imul, xs_goto]) | refine xc_v1_1 (cF1) (Nat.le_of_ble_eq_true rfl) ?_))
          by_cases hf2 : figB (pB by_ N (p + 1)) = true
          · rw [if_pos hf2]
            (repeat (first | (simp only [xb_X3_readNumber_0, xb_X3_readNumber_30, xb_X3_readNumber_39, xb_X3_readNumber_87, xb_X3_readNumber_103, xb_X3_readNumber_104, xs_nil, Nat.reduceAdd, true_implies, not_true_eq_false, not_false_eq_true, false_implies, and_true, true_and, x_10, xs_iload_n_1, xs_if_eq, xs_aload_n_0, xs_bipush_45, xs_icmp_ne, xs_dup_i, xs_dup_a, xs_iconst_1, xs_iadd, xs_iconst_m1, xs_ireturn, xs_if_ne, xs_iconst_0, xs_bipush_48, xs_isub, xs_istore_n_2_i, xs_istore_n_2_a, xs_istore_n_2_n, xs_istore_n_2_l, xs_bipush_10, xs_iload_n_2, xs_imul, xs_goto]) | refine xc_v1_1 (cH1) (Nat.le_of_ble_eq_true rfl) ?_ | (rw [xn_dup]) | (refine xr_getf (hb1 0 _ rfl) (by rfl) ?_)))
            rw [nI_1]
            refine xa_putf A1 0 (by rfl) h2 (by exact Nat.le_of_ble_eq_true rfl) (x_fit_int _) (fun h3 A3 => ?_)
            (repeat (first | (simp only [xb_X3_readNumber_0, xb_X3_readNumber_30, xb_X3_readNumber_39, xb_X3_readNumber_87, xb_X3_readNumber_103, xb_X3_readNumber_104, xs_nil, Nat.reduceAdd, true_implies, not_true_eq_false, not_false_eq_true, false_implies, and_true, true_and, x_10, xs_iload_n_1, xs_if_eq, xs_aload_n_0, xs_bipush_45, xs_icmp_ne, xs_dup_i, xs_dup_a, xs_iconst_1, xs_iadd, xs_iconst_m1, xs_ireturn, xs_if_ne, xs_iconst_0, xs_bipush_48, xs_isub, xs_istore_n_2_i, xs_istore_n_2_a, xs_istore_n_2_n, xs_istore_n_2_l, xs_bipush_10, xs_iload_n_2, xs_imul, xs_goto]) ))
            exact H2 hf2 h3 A3
          · rw [if_neg hf2]
            (repeat (first | (simp only [xb_X3_readNumber_0, xb_X3_readNumber_30, xb_X3_readNumber_39, xb_X3_readNumber_87, xb_X3_readNumber_103, xb_X3_readNumber_104, xs_nil, Nat.reduceAdd, true_implies, not_true_eq_false, not_false_eq_true, false_implies, and_true, true_and, x_10, xs_iload_n_1, xs_if_eq, xs_aload_n_0, xs_bipush_45, xs_icmp_ne, xs_dup_i, xs_dup_a, xs_iconst_1, xs_iadd, xs_iconst_m1, xs_ireturn, xs_if_ne, xs_iconst_0, xs_bipush_48, xs_isub, xs_istore_n_2_i, xs_istore_n_2_a, xs_istore_n_2_n, xs_istore_n_2_l, xs_bipush_10, xs_iload_n_2, xs_imul, xs_goto]) ))
            exact H1 (by rw [Bool.not_eq_true] at hf2; exact hf2)
        refine xK_X3_readNumber (hb 0 _ rfl) (xe_X3_readNumber_0 ?_)
        (repeat (first | (simp only [xb_X3_readNumber_0, xb_X3_readNumber_30, xb_X3_readNumber_39, xb_X3_readNumber_87, xb_X3_readNumber_103, xb_X3_readNumber_104, xs_nil, Nat.reduceAdd, true_implies, not_true_eq_false, not_false_eq_true, false_implies, and_true, true_and, x_10, xs_iload_n_1, xs_if_eq, xs_aload_n_0, xs_bipush_45, xs_icmp_ne, xs_dup_i, xs_dup_a, xs_iconst_1, xs_iadd, xs_iconst_m1, xs_ireturn, xs_if_ne, xs_iconst_0, xs_bipush_48, xs_isub, xs_istore_n_2_i, xs_istore_n_2_a, xs_istore_n_2_n, xs_istore_n_2_l, xs_bipush_10, xs_iload_n_2, xs_imul, xs_goto]) ))
        simp only [x_ite0, Classical.not_not]
        refine ⟨fun _ => fin, fun z => ?_⟩
        (repeat (first | (simp only [xb_X3_readNumber_0, xb_X3_readNumber_30, xb_X3_readNumber_39, xb_X3_readNumber_87, xb_X3_readNumber_103, xb_X3_readNumber_104, xs_nil, Nat.reduceAdd, true_implies, not_true_eq_false, not_false_eq_true, false_implies, and_true, true_and, x_10, xs_iload_n_1, xs_if_eq, xs_aload_n_0, xs_bipush_45, xs_icmp_ne, xs_dup_i, xs_dup_a, xs_iconst_1, xs_iadd, xs_iconst_m1, xs_ireturn, xs_if_ne, xs_iconst_0, xs_bipush_48, xs_isub, xs_istore_n_2_i, xs_istore_n_2_a, xs_istore_n_2_n, xs_istore_n_2_l, xs_bipush_10, xs_iload_n_2, xs_imul, xs_goto]) | refine xc_v1_1 (cH) (Nat.le_of_ble_eq_true rfl) ?_))
        exact ⟨fun _ => fin, fun z2 => absurd ⟨z, Classical.not_not.mp z2⟩ h1⟩
      by_cases h3 : figB (pB by_ N (p + 1)) = false
      · have e : pnum by_ N p nb = (true, p + 1, pB by_ N p - 48) := by unfold pnum; rw [if_neg h1, if_neg h2f, if_pos h3]
        rw [e]
        refine ⟨nu.set q (pB by_ N p - 48), nI (q + 1), ⟨by rw [List.length_set]; exact hln, fun _ => ⟨rfl, rfl⟩⟩, ?_⟩
        refine walk _ _ (fun h1 A1 => ⟨fun _ => ?_, fun z => by rw [h3] at z; cases z⟩)
        exact rest true (p + 1) _ (Or.inl e) (by omega) h1 A1 (by rw [h3]; rfl)
      · have hf2 : figB (pB by_ N (p + 1)) = true := by rw [Bool.not_eq_false] at h3; exact h3
        have hlt1 : p + 1 < N := fig_lt (tx := by_) hf2
        by_cases h4 : figB (pB by_ N (p + 2)) = false
        · have e : pnum by_ N p nb = (true, p + 2, 10 * (pB by_ N p - 48) + pB by_ N (p + 1) - 48) := by unfold pnum; rw [if_neg h1, if_neg h2f, if_neg h3, if_pos h4]
          rw [e]
          refine ⟨nu.set q (10 * (pB by_ N p - 48) + pB by_ N (p + 1) - 48), nI (q + 1), ⟨by rw [List.length_set]; exact hln, fun _ => ⟨rfl, rfl⟩⟩, ?_⟩
          refine walk _ _ (fun h1 A1 => ⟨fun z => absurd z h3, fun _ h2' A2 => ?_⟩)
          exact rest true (p + 2) _ (Or.inl e) (by omega) h2' A2 (by rw [h4]; rfl)
        · have hf3 : figB (pB by_ N (p + 2)) = true := by rw [Bool.not_eq_false] at h4; exact h4
          have hlt2 : p + 2 < N := fig_lt (tx := by_) hf3
          have e : pnum by_ N p nb = (false, p + 2, 0) := by unfold pnum; rw [if_neg h1, if_neg h2f, if_neg h3, if_neg h4]
          rw [e]
          refine ⟨nu.set q (10 * (pB by_ N p - 48) + pB by_ N (p + 1) - 48), nI (q + 1), ⟨by rw [List.length_set]; exact hln, fun z => by cases z⟩, ?_⟩
          refine walk _ _ (fun h1 A1 => ⟨fun z => absurd z h3, fun _ h2' A2 => ?_⟩)
          exact rest false (p + 2) _ (Or.inr ⟨rfl, by rw [e], by rw [e]⟩) (by omega) h2' A2 (by rw [hf3]; rfl)
end CR2
