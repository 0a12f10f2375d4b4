/-! held -/
section HF
variable {ys : List Int32} {h : xH} {s : kS} {k : kC} {sh : Nat → kS} {nx ct : Nat} {tx : List Int32} {ln : Int32} {rf : List Int32} {nw pa : List Int32} {sts byt : Int32} {x1 x2 x3 x4 : Int32} {j : Nat} {a : Int64}
theorem c7_held (B : cW h s k sh nx ct tx ln rf) (hv : sv s) {i : Nat} (hi : i < 7) : xK 115 [.ref 2, .int (nI i)] h (some (.int (hval s i))) h := by
  have h6 := hv.n6
  have hct := hv.ct
  have cR := c_heldRow (x_tc_s B.hs) (by rw [hv.lro]; exact hv.in7)
  have cR : xK 58 [.ref (3 + 7)] h (some (.int (srow s))) h := cR
  have cS := c7_isStuck B hv
  have c2 := c_sumOfStumbles (n := sn s) (x_tc_s B.hs) hct (by rw [hv.lsu]; omega) (by rw [hv.lsu]; decide)
  have c3 := c_sumOfRepairs (n := sn s) (x_tc_s B.hs) hct (by rw [hv.lre]; omega) (by rw [hv.lre]; decide)
  have c5 := c_rootOf (n := sn s) (row := srow s) (h := h) (by omega)
  have c6 := c_deepestLevel (n := sn s) (row := srow s) (h := h) (by omega)
  refine xK_X7_held (B.hp 0 _ rfl) (xe_X7_held_0 ?_)
  (repeat (first | (simp only [xb_X7_held_0, xb_X7_held_56, xb_X7_held_61, xb_X7_held_72, xb_X7_held_73, xb_X7_held_74, xb_X7_held_79, xb_X7_held_84, xb_X7_held_94, xb_X7_held_103, xb_X7_held_111, xb_X7_held_112, xb_X7_held_121, xb_X7_held_129, xb_X7_held_130, xs_nil, Nat.reduceAdd, true_implies, not_true_eq_false, not_false_eq_true, false_implies, and_true, true_and, x_10, xs_aload_n_0, xs_astore_n_2_i, xs_astore_n_2_a, xs_astore_n_2_n, xs_astore_n_2_l, xs_aload_n_2, xs_istore_n_3_i, xs_istore_n_3_a, xs_istore_n_3_n, xs_istore_n_3_l, xs_iload_n_1, xs_ireturn, xs_if_eq, xs_iconst_1, xs_goto, xs_iconst_0, xs_iload_n_3, xs_iconst_m1, xs_icmp_ne, xs_bipush_m2]) | (refine xr_getf (B.hp 0 _ rfl) (by rfl) ?_) | (refine xr_getf (B.hs 0 _ rfl) (by rfl) ?_) | (refine xr_getf (B.hs 1 _ rfl) (by rfl) ?_) | (refine xr_getf (B.hs 7 _ rfl) (by rfl) ?_) | refine xc_v1_1 (cR) (Nat.le_of_ble_eq_true rfl) ?_))
  rcases (show i = 0 ∨ i = 1 ∨ i = 2 ∨ i = 3 ∨ i = 4 ∨ i = 5 ∨ i = 6 by omega) with rfl | rfl | rfl | rfl | rfl | rfl | rfl
  · refine xr_tabin 0 42 56 (by decide) (by decide) rfl rfl (xe_X7_held_56 ?_)
    (repeat (first | (simp only [xb_X7_held_0, xb_X7_held_56, xb_X7_held_61, xb_X7_held_72, xb_X7_held_73, xb_X7_held_74, xb_X7_held_79, xb_X7_held_84, xb_X7_held_94, xb_X7_held_103, xb_X7_held_111, xb_X7_held_112, xb_X7_held_121, xb_X7_held_129, xb_X7_held_130, xs_nil, Nat.reduceAdd, true_implies, not_true_eq_false, not_false_eq_true, false_implies, and_true, true_and, x_10, xs_aload_n_0, xs_astore_n_2_i, xs_astore_n_2_a, xs_astore_n_2_n, xs_astore_n_2_l, xs_aload_n_2, xs_istore_n_3_i, xs_istore_n_3_a, xs_istore_n_3_n, xs_istore_n_3_l, xs_iload_n_1, xs_ireturn, xs_if_eq, xs_iconst_1, xs_goto, xs_iconst_0, xs_iload_n_3, xs_iconst_m1, xs_icmp_ne, xs_bipush_m2]) | (refine xr_getf (B.hp 0 _ rfl) (by rfl) ?_) | (refine xr_getf (B.hs 0 _ rfl) (by rfl) ?_) | (refine xr_getf (B.hs 1 _ rfl) (by rfl) ?_) | (refine xr_getf (B.hs 7 _ rfl) (by rfl) ?_)))
    (first | exact ⟨Or.inl trivial, rfl⟩ | exact ⟨Or.inl trivial, rfl, rfl⟩ | (simp; done) | exact ⟨by simp, rfl⟩ | exact ⟨by simp, rfl, rfl⟩ | rfl)
  · refine xr_tabin 1 47 61 (by decide) (by decide) rfl rfl (xe_X7_held_61 ?_)
    (repeat (first | (simp only [xb_X7_held_0, xb_X7_held_56, xb_X7_held_61, xb_X7_held_72, xb_X7_held_73, xb_X7_held_74, xb_X7_held_79, xb_X7_held_84, xb_X7_held_94, xb_X7_held_103, xb_X7_held_111, xb_X7_held_112, xb_X7_held_121, xb_X7_held_129, xb_X7_held_130, xs_nil, Nat.reduceAdd, true_implies, not_true_eq_false, not_false_eq_true, false_implies, and_true, true_and, x_10, xs_aload_n_0, xs_astore_n_2_i, xs_astore_n_2_a, xs_astore_n_2_n, xs_astore_n_2_l, xs_aload_n_2, xs_istore_n_3_i, xs_istore_n_3_a, xs_istore_n_3_n, xs_istore_n_3_l, xs_iload_n_1, xs_ireturn, xs_if_eq, xs_iconst_1, xs_goto, xs_iconst_0, xs_iload_n_3, xs_iconst_m1, xs_icmp_ne, xs_bipush_m2]) | refine xc_v1_1 (cS) (Nat.le_of_ble_eq_true rfl) ?_))
    have e : hval s 1 = (if kstuck s = true then 1 else 0) := rfl
    rw [e]
    by_cases hz : kstuck s = true
    · rw [if_pos hz]
      (repeat (first | (simp only [xb_X7_held_0, xb_X7_held_56, xb_X7_held_61, xb_X7_held_72, xb_X7_held_73, xb_X7_held_74, xb_X7_held_79, xb_X7_held_84, xb_X7_held_94, xb_X7_held_103, xb_X7_held_111, xb_X7_held_112, xb_X7_held_121, xb_X7_held_129, xb_X7_held_130, xs_nil, Nat.reduceAdd, true_implies, not_true_eq_false, not_false_eq_true, false_implies, and_true, true_and, x_10, xs_aload_n_0, xs_astore_n_2_i, xs_astore_n_2_a, xs_astore_n_2_n, xs_astore_n_2_l, xs_aload_n_2, xs_istore_n_3_i, xs_istore_n_3_a, xs_istore_n_3_n, xs_istore_n_3_l, xs_iload_n_1, xs_ireturn, xs_if_eq, xs_iconst_1, xs_goto, xs_iconst_0, xs_iload_n_3, xs_iconst_m1, xs_icmp_ne, xs_bipush_m2]) ))
      refine xe_X7_held_73 ?_
      (repeat (first | (simp only [xb_X7_held_0, xb_X7_held_56, xb_X7_held_61, xb_X7_held_72, xb_X7_held_73, xb_X7_held_74, xb_X7_held_79, xb_X7_held_84, xb_X7_held_94, xb_X7_held_103, xb_X7_held_111, xb_X7_held_112, xb_X7_held_121, xb_X7_held_129, xb_X7_held_130, xs_nil, Nat.reduceAdd, true_implies, not_true_eq_false, not_false_eq_true, false_implies, and_true, true_and, x_10, xs_aload_n_0, xs_astore_n_2_i, xs_astore_n_2_a, xs_astore_n_2_n, xs_astore_n_2_l, xs_aload_n_2, xs_istore_n_3_i, xs_istore_n_3_a, xs_istore_n_3_n, xs_istore_n_3_l, xs_iload_n_1, xs_ireturn, xs_if_eq, xs_iconst_1, xs_goto, xs_iconst_0, xs_iload_n_3, xs_iconst_m1, xs_icmp_ne, xs_bipush_m2]) ))
      (first | exact ⟨Or.inl trivial, rfl⟩ | exact ⟨Or.inl trivial, rfl, rfl⟩ | (simp; done) | exact ⟨by simp, rfl⟩ | exact ⟨by simp, rfl, rfl⟩ | rfl)
    · rw [if_neg hz]
      (repeat (first | (simp only [xb_X7_held_0, xb_X7_held_56, xb_X7_held_61, xb_X7_held_72, xb_X7_held_73, xb_X7_held_74, xb_X7_held_79, xb_X7_held_84, xb_X7_held_94, xb_X7_held_103, xb_X7_held_111, xb_X7_held_112, xb_X7_held_121, xb_X7_held_129, xb_X7_held_130, xs_nil, Nat.reduceAdd, true_implies, not_true_eq_false, not_false_eq_true, false_implies, and_true, true_and, x_10, xs_aload_n_0, xs_astore_n_2_i, xs_astore_n_2_a, xs_astore_n_2_n, xs_astore_n_2_l, xs_aload_n_2, xs_istore_n_3_i, xs_istore_n_3_a, xs_istore_n_3_n, xs_istore_n_3_l, xs_iload_n_1, xs_ireturn, xs_if_eq, xs_iconst_1, xs_goto, xs_iconst_0, xs_iload_n_3, xs_iconst_m1, xs_icmp_ne, xs_bipush_m2]) ))
      refine xe_X7_held_72 ?_
      (repeat (first | (simp only [xb_X7_held_0, xb_X7_held_56, xb_X7_held_61, xb_X7_held_72, xb_X7_held_73, xb_X7_held_74, xb_X7_held_79, xb_X7_held_84, xb_X7_held_94, xb_X7_held_103, xb_X7_held_111, xb_X7_held_112, xb_X7_held_121, xb_X7_held_129, xb_X7_held_130, xs_nil, Nat.reduceAdd, true_implies, not_true_eq_false, not_false_eq_true, false_implies, and_true, true_and, x_10, xs_aload_n_0, xs_astore_n_2_i, xs_astore_n_2_a, xs_astore_n_2_n, xs_astore_n_2_l, xs_aload_n_2, xs_istore_n_3_i, xs_istore_n_3_a, xs_istore_n_3_n, xs_istore_n_3_l, xs_iload_n_1, xs_ireturn, xs_if_eq, xs_iconst_1, xs_goto, xs_iconst_0, xs_iload_n_3, xs_iconst_m1, xs_icmp_ne, xs_bipush_m2]) ))
      refine xe_X7_held_73 ?_
      (repeat (first | (simp only [xb_X7_held_0, xb_X7_held_56, xb_X7_held_61, xb_X7_held_72, xb_X7_held_73, xb_X7_held_74, xb_X7_held_79, xb_X7_held_84, xb_X7_held_94, xb_X7_held_103, xb_X7_held_111, xb_X7_held_112, xb_X7_held_121, xb_X7_held_129, xb_X7_held_130, xs_nil, Nat.reduceAdd, true_implies, not_true_eq_false, not_false_eq_true, false_implies, and_true, true_and, x_10, xs_aload_n_0, xs_astore_n_2_i, xs_astore_n_2_a, xs_astore_n_2_n, xs_astore_n_2_l, xs_aload_n_2, xs_istore_n_3_i, xs_istore_n_3_a, xs_istore_n_3_n, xs_istore_n_3_l, xs_iload_n_1, xs_ireturn, xs_if_eq, xs_iconst_1, xs_goto, xs_iconst_0, xs_iload_n_3, xs_iconst_m1, xs_icmp_ne, xs_bipush_m2]) ))
      (first | exact ⟨Or.inl trivial, rfl⟩ | exact ⟨Or.inl trivial, rfl, rfl⟩ | (simp; done) | exact ⟨by simp, rfl⟩ | exact ⟨by simp, rfl, rfl⟩ | rfl)
  · refine xr_tabin 2 60 74 (by decide) (by decide) rfl rfl (xe_X7_held_74 ?_)
    (repeat (first | (simp only [xb_X7_held_0, xb_X7_held_56, xb_X7_held_61, xb_X7_held_72, xb_X7_held_73, xb_X7_held_74, xb_X7_held_79, xb_X7_held_84, xb_X7_held_94, xb_X7_held_103, xb_X7_held_111, xb_X7_held_112, xb_X7_held_121, xb_X7_held_129, xb_X7_held_130, xs_nil, Nat.reduceAdd, true_implies, not_true_eq_false, not_false_eq_true, false_implies, and_true, true_and, x_10, xs_aload_n_0, xs_astore_n_2_i, xs_astore_n_2_a, xs_astore_n_2_n, xs_astore_n_2_l, xs_aload_n_2, xs_istore_n_3_i, xs_istore_n_3_a, xs_istore_n_3_n, xs_istore_n_3_l, xs_iload_n_1, xs_ireturn, xs_if_eq, xs_iconst_1, xs_goto, xs_iconst_0, xs_iload_n_3, xs_iconst_m1, xs_icmp_ne, xs_bipush_m2]) | refine xc_v1_1 (c2) (Nat.le_of_ble_eq_true rfl) ?_))
    (first | exact ⟨Or.inl trivial, rfl⟩ | exact ⟨Or.inl trivial, rfl, rfl⟩ | (simp; done) | exact ⟨by simp, rfl⟩ | exact ⟨by simp, rfl, rfl⟩ | rfl)
  · refine xr_tabin 3 65 79 (by decide) (by decide) rfl rfl (xe_X7_held_79 ?_)
    (repeat (first | (simp only [xb_X7_held_0, xb_X7_held_56, xb_X7_held_61, xb_X7_held_72, xb_X7_held_73, xb_X7_held_74, xb_X7_held_79, xb_X7_held_84, xb_X7_held_94, xb_X7_held_103, xb_X7_held_111, xb_X7_held_112, xb_X7_held_121, xb_X7_held_129, xb_X7_held_130, xs_nil, Nat.reduceAdd, true_implies, not_true_eq_false, not_false_eq_true, false_implies, and_true, true_and, x_10, xs_aload_n_0, xs_astore_n_2_i, xs_astore_n_2_a, xs_astore_n_2_n, xs_astore_n_2_l, xs_aload_n_2, xs_istore_n_3_i, xs_istore_n_3_a, xs_istore_n_3_n, xs_istore_n_3_l, xs_iload_n_1, xs_ireturn, xs_if_eq, xs_iconst_1, xs_goto, xs_iconst_0, xs_iload_n_3, xs_iconst_m1, xs_icmp_ne, xs_bipush_m2]) | refine xc_v1_1 (c3) (Nat.le_of_ble_eq_true rfl) ?_))
    (first | exact ⟨Or.inl trivial, rfl⟩ | exact ⟨Or.inl trivial, rfl, rfl⟩ | (simp; done) | exact ⟨by simp, rfl⟩ | exact ⟨by simp, rfl, rfl⟩ | rfl)
  · refine xr_tabin 4 70 84 (by decide) (by decide) rfl rfl (xe_X7_held_84 ?_)
    (repeat (first | (simp only [xb_X7_held_0, xb_X7_held_56, xb_X7_held_61, xb_X7_held_72, xb_X7_held_73, xb_X7_held_74, xb_X7_held_79, xb_X7_held_84, xb_X7_held_94, xb_X7_held_103, xb_X7_held_111, xb_X7_held_112, xb_X7_held_121, xb_X7_held_129, xb_X7_held_130, xs_nil, Nat.reduceAdd, true_implies, not_true_eq_false, not_false_eq_true, false_implies, and_true, true_and, x_10, xs_aload_n_0, xs_astore_n_2_i, xs_astore_n_2_a, xs_astore_n_2_n, xs_astore_n_2_l, xs_aload_n_2, xs_istore_n_3_i, xs_istore_n_3_a, xs_istore_n_3_n, xs_istore_n_3_l, xs_iload_n_1, xs_ireturn, xs_if_eq, xs_iconst_1, xs_goto, xs_iconst_0, xs_iload_n_3, xs_iconst_m1, xs_icmp_ne, xs_bipush_m2]) | (refine xr_getf (B.hp 0 _ rfl) (by rfl) ?_) | (refine xr_getf (B.hs 0 _ rfl) (by rfl) ?_) | (refine xr_getf (B.hs 1 _ rfl) (by rfl) ?_) | (refine xr_getf (B.hs 7 _ rfl) (by rfl) ?_) | (refine xr_iaload (B.hs 10 _ rfl) (by rw [hv.lco]; exact hv.in7) ?_)))
    rw [hct, xg_n (by omega)]
    (first | exact ⟨Or.inl trivial, rfl⟩ | exact ⟨Or.inl trivial, rfl, rfl⟩ | (simp; done) | exact ⟨by simp, rfl⟩ | exact ⟨by simp, rfl, rfl⟩ | rfl)
  · refine xr_tabin 5 80 94 (by decide) (by decide) rfl rfl (xe_X7_held_94 ?_)
    (repeat (first | (simp only [xb_X7_held_0, xb_X7_held_56, xb_X7_held_61, xb_X7_held_72, xb_X7_held_73, xb_X7_held_74, xb_X7_held_79, xb_X7_held_84, xb_X7_held_94, xb_X7_held_103, xb_X7_held_111, xb_X7_held_112, xb_X7_held_121, xb_X7_held_129, xb_X7_held_130, xs_nil, Nat.reduceAdd, true_implies, not_true_eq_false, not_false_eq_true, false_implies, and_true, true_and, x_10, xs_aload_n_0, xs_astore_n_2_i, xs_astore_n_2_a, xs_astore_n_2_n, xs_astore_n_2_l, xs_aload_n_2, xs_istore_n_3_i, xs_istore_n_3_a, xs_istore_n_3_n, xs_istore_n_3_l, xs_iload_n_1, xs_ireturn, xs_if_eq, xs_iconst_1, xs_goto, xs_iconst_0, xs_iload_n_3, xs_iconst_m1, xs_icmp_ne, xs_bipush_m2]) ))
    have e : hval s 5 = (if srow s = -1 then -1 else krt (srow s) (sn s) 1) := rfl
    rw [e]
    by_cases hz : srow s = -1
    · rw [if_pos hz]
      refine ⟨fun z => absurd hz z, fun _ => ?_⟩
      (repeat (first | (simp only [xb_X7_held_0, xb_X7_held_56, xb_X7_held_61, xb_X7_held_72, xb_X7_held_73, xb_X7_held_74, xb_X7_held_79, xb_X7_held_84, xb_X7_held_94, xb_X7_held_103, xb_X7_held_111, xb_X7_held_112, xb_X7_held_121, xb_X7_held_129, xb_X7_held_130, xs_nil, Nat.reduceAdd, true_implies, not_true_eq_false, not_false_eq_true, false_implies, and_true, true_and, x_10, xs_aload_n_0, xs_astore_n_2_i, xs_astore_n_2_a, xs_astore_n_2_n, xs_astore_n_2_l, xs_aload_n_2, xs_istore_n_3_i, xs_istore_n_3_a, xs_istore_n_3_n, xs_istore_n_3_l, xs_iload_n_1, xs_ireturn, xs_if_eq, xs_iconst_1, xs_goto, xs_iconst_0, xs_iload_n_3, xs_iconst_m1, xs_icmp_ne, xs_bipush_m2]) ))
      refine xe_X7_held_111 ?_
      (repeat (first | (simp only [xb_X7_held_0, xb_X7_held_56, xb_X7_held_61, xb_X7_held_72, xb_X7_held_73, xb_X7_held_74, xb_X7_held_79, xb_X7_held_84, xb_X7_held_94, xb_X7_held_103, xb_X7_held_111, xb_X7_held_112, xb_X7_held_121, xb_X7_held_129, xb_X7_held_130, xs_nil, Nat.reduceAdd, true_implies, not_true_eq_false, not_false_eq_true, false_implies, and_true, true_and, x_10, xs_aload_n_0, xs_astore_n_2_i, xs_astore_n_2_a, xs_astore_n_2_n, xs_astore_n_2_l, xs_aload_n_2, xs_istore_n_3_i, xs_istore_n_3_a, xs_istore_n_3_n, xs_istore_n_3_l, xs_iload_n_1, xs_ireturn, xs_if_eq, xs_iconst_1, xs_goto, xs_iconst_0, xs_iload_n_3, xs_iconst_m1, xs_icmp_ne, xs_bipush_m2]) ))
      (first | exact ⟨Or.inl trivial, rfl⟩ | exact ⟨Or.inl trivial, rfl, rfl⟩ | (simp; done) | exact ⟨by simp, rfl⟩ | exact ⟨by simp, rfl, rfl⟩ | rfl)
    · rw [if_neg hz]
      refine ⟨fun _ => ?_, fun z => absurd hz z⟩
      refine xe_X7_held_103 ?_
      (repeat (first | (simp only [xb_X7_held_0, xb_X7_held_56, xb_X7_held_61, xb_X7_held_72, xb_X7_held_73, xb_X7_held_74, xb_X7_held_79, xb_X7_held_84, xb_X7_held_94, xb_X7_held_103, xb_X7_held_111, xb_X7_held_112, xb_X7_held_121, xb_X7_held_129, xb_X7_held_130, xs_nil, Nat.reduceAdd, true_implies, not_true_eq_false, not_false_eq_true, false_implies, and_true, true_and, x_10, xs_aload_n_0, xs_astore_n_2_i, xs_astore_n_2_a, xs_astore_n_2_n, xs_astore_n_2_l, xs_aload_n_2, xs_istore_n_3_i, xs_istore_n_3_a, xs_istore_n_3_n, xs_istore_n_3_l, xs_iload_n_1, xs_ireturn, xs_if_eq, xs_iconst_1, xs_goto, xs_iconst_0, xs_iload_n_3, xs_iconst_m1, xs_icmp_ne, xs_bipush_m2]) | (refine xr_getf (B.hp 0 _ rfl) (by rfl) ?_) | (refine xr_getf (B.hs 0 _ rfl) (by rfl) ?_) | (refine xr_getf (B.hs 1 _ rfl) (by rfl) ?_) | (refine xr_getf (B.hs 7 _ rfl) (by rfl) ?_)))
      rw [hct]
      (repeat (first | (simp only [xb_X7_held_0, xb_X7_held_56, xb_X7_held_61, xb_X7_held_72, xb_X7_held_73, xb_X7_held_74, xb_X7_held_79, xb_X7_held_84, xb_X7_held_94, xb_X7_held_103, xb_X7_held_111, xb_X7_held_112, xb_X7_held_121, xb_X7_held_129, xb_X7_held_130, xs_nil, Nat.reduceAdd, true_implies, not_true_eq_false, not_false_eq_true, false_implies, and_true, true_and, x_10, xs_aload_n_0, xs_astore_n_2_i, xs_astore_n_2_a, xs_astore_n_2_n, xs_astore_n_2_l, xs_aload_n_2, xs_istore_n_3_i, xs_istore_n_3_a, xs_istore_n_3_n, xs_istore_n_3_l, xs_iload_n_1, xs_ireturn, xs_if_eq, xs_iconst_1, xs_goto, xs_iconst_0, xs_iload_n_3, xs_iconst_m1, xs_icmp_ne, xs_bipush_m2]) | refine xc_s2_1 (by decide) (c5) (Nat.le_of_ble_eq_true rfl) ?_))
      refine xe_X7_held_111 ?_
      (repeat (first | (simp only [xb_X7_held_0, xb_X7_held_56, xb_X7_held_61, xb_X7_held_72, xb_X7_held_73, xb_X7_held_74, xb_X7_held_79, xb_X7_held_84, xb_X7_held_94, xb_X7_held_103, xb_X7_held_111, xb_X7_held_112, xb_X7_held_121, xb_X7_held_129, xb_X7_held_130, xs_nil, Nat.reduceAdd, true_implies, not_true_eq_false, not_false_eq_true, false_implies, and_true, true_and, x_10, xs_aload_n_0, xs_astore_n_2_i, xs_astore_n_2_a, xs_astore_n_2_n, xs_astore_n_2_l, xs_aload_n_2, xs_istore_n_3_i, xs_istore_n_3_a, xs_istore_n_3_n, xs_istore_n_3_l, xs_iload_n_1, xs_ireturn, xs_if_eq, xs_iconst_1, xs_goto, xs_iconst_0, xs_iload_n_3, xs_iconst_m1, xs_icmp_ne, xs_bipush_m2]) ))
      (first | exact ⟨Or.inl trivial, rfl⟩ | exact ⟨Or.inl trivial, rfl, rfl⟩ | (simp; done) | exact ⟨by simp, rfl⟩ | exact ⟨by simp, rfl, rfl⟩ | rfl)
  · refine xr_tabin 6 98 112 (by decide) (by decide) rfl rfl (xe_X7_held_112 ?_)
    (repeat (first | (simp only [xb_X7_held_0, xb_X7_held_56, xb_X7_held_61, xb_X7_held_72, xb_X7_held_73, xb_X7_held_74, xb_X7_held_79, xb_X7_held_84, xb_X7_held_94, xb_X7_held_103, xb_X7_held_111, xb_X7_held_112, xb_X7_held_121, xb_X7_held_129, xb_X7_held_130, xs_nil, Nat.reduceAdd, true_implies, not_true_eq_false, not_false_eq_true, false_implies, and_true, true_and, x_10, xs_aload_n_0, xs_astore_n_2_i, xs_astore_n_2_a, xs_astore_n_2_n, xs_astore_n_2_l, xs_aload_n_2, xs_istore_n_3_i, xs_istore_n_3_a, xs_istore_n_3_n, xs_istore_n_3_l, xs_iload_n_1, xs_ireturn, xs_if_eq, xs_iconst_1, xs_goto, xs_iconst_0, xs_iload_n_3, xs_iconst_m1, xs_icmp_ne, xs_bipush_m2]) ))
    have e : hval s 6 = (if srow s = -1 then -1 else nI (kdeep (srow s) (sn s))) := rfl
    rw [e]
    by_cases hz : srow s = -1
    · rw [if_pos hz]
      refine ⟨fun z => absurd hz z, fun _ => ?_⟩
      (repeat (first | (simp only [xb_X7_held_0, xb_X7_held_56, xb_X7_held_61, xb_X7_held_72, xb_X7_held_73, xb_X7_held_74, xb_X7_held_79, xb_X7_held_84, xb_X7_held_94, xb_X7_held_103, xb_X7_held_111, xb_X7_held_112, xb_X7_held_121, xb_X7_held_129, xb_X7_held_130, xs_nil, Nat.reduceAdd, true_implies, not_true_eq_false, not_false_eq_true, false_implies, and_true, true_and, x_10, xs_aload_n_0, xs_astore_n_2_i, xs_astore_n_2_a, xs_astore_n_2_n, xs_astore_n_2_l, xs_aload_n_2, xs_istore_n_3_i, xs_istore_n_3_a, xs_istore_n_3_n, xs_istore_n_3_l, xs_iload_n_1, xs_ireturn, xs_if_eq, xs_iconst_1, xs_goto, xs_iconst_0, xs_iload_n_3, xs_iconst_m1, xs_icmp_ne, xs_bipush_m2]) ))
      refine xe_X7_held_129 ?_
      (repeat (first | (simp only [xb_X7_held_0, xb_X7_held_56, xb_X7_held_61, xb_X7_held_72, xb_X7_held_73, xb_X7_held_74, xb_X7_held_79, xb_X7_held_84, xb_X7_held_94, xb_X7_held_103, xb_X7_held_111, xb_X7_held_112, xb_X7_held_121, xb_X7_held_129, xb_X7_held_130, xs_nil, Nat.reduceAdd, true_implies, not_true_eq_false, not_false_eq_true, false_implies, and_true, true_and, x_10, xs_aload_n_0, xs_astore_n_2_i, xs_astore_n_2_a, xs_astore_n_2_n, xs_astore_n_2_l, xs_aload_n_2, xs_istore_n_3_i, xs_istore_n_3_a, xs_istore_n_3_n, xs_istore_n_3_l, xs_iload_n_1, xs_ireturn, xs_if_eq, xs_iconst_1, xs_goto, xs_iconst_0, xs_iload_n_3, xs_iconst_m1, xs_icmp_ne, xs_bipush_m2]) ))
      (first | exact ⟨Or.inl trivial, rfl⟩ | exact ⟨Or.inl trivial, rfl, rfl⟩ | (simp; done) | exact ⟨by simp, rfl⟩ | exact ⟨by simp, rfl, rfl⟩ | rfl)
    · rw [if_neg hz]
      refine ⟨fun _ => ?_, fun z => absurd hz z⟩
      refine xe_X7_held_121 ?_
      (repeat (first | (simp only [xb_X7_held_0, xb_X7_held_56, xb_X7_held_61, xb_X7_held_72, xb_X7_held_73, xb_X7_held_74, xb_X7_held_79, xb_X7_held_84, xb_X7_held_94, xb_X7_held_103, xb_X7_held_111, xb_X7_held_112, xb_X7_held_121, xb_X7_held_129, xb_X7_held_130, xs_nil, Nat.reduceAdd, true_implies, not_true_eq_false, not_false_eq_true, false_implies, and_true, true_and, x_10, xs_aload_n_0, xs_astore_n_2_i, xs_astore_n_2_a, xs_astore_n_2_n, xs_astore_n_2_l, xs_aload_n_2, xs_istore_n_3_i, xs_istore_n_3_a, xs_istore_n_3_n, xs_istore_n_3_l, xs_iload_n_1, xs_ireturn, xs_if_eq, xs_iconst_1, xs_goto, xs_iconst_0, xs_iload_n_3, xs_iconst_m1, xs_icmp_ne, xs_bipush_m2]) | (refine xr_getf (B.hp 0 _ rfl) (by rfl) ?_) | (refine xr_getf (B.hs 0 _ rfl) (by rfl) ?_) | (refine xr_getf (B.hs 1 _ rfl) (by rfl) ?_) | (refine xr_getf (B.hs 7 _ rfl) (by rfl) ?_)))
      rw [hct]
      (repeat (first | (simp only [xb_X7_held_0, xb_X7_held_56, xb_X7_held_61, xb_X7_held_72, xb_X7_held_73, xb_X7_held_74, xb_X7_held_79, xb_X7_held_84, xb_X7_held_94, xb_X7_held_103, xb_X7_held_111, xb_X7_held_112, xb_X7_held_121, xb_X7_held_129, xb_X7_held_130, xs_nil, Nat.reduceAdd, true_implies, not_true_eq_false, not_false_eq_true, false_implies, and_true, true_and, x_10, xs_aload_n_0, xs_astore_n_2_i, xs_astore_n_2_a, xs_astore_n_2_n, xs_astore_n_2_l, xs_aload_n_2, xs_istore_n_3_i, xs_istore_n_3_a, xs_istore_n_3_n, xs_istore_n_3_l, xs_iload_n_1, xs_ireturn, xs_if_eq, xs_iconst_1, xs_goto, xs_iconst_0, xs_iload_n_3, xs_iconst_m1, xs_icmp_ne, xs_bipush_m2]) | refine xc_s2_1 (by decide) (c6) (Nat.le_of_ble_eq_true rfl) ?_))
      refine xe_X7_held_129 ?_
      (repeat (first | (simp only [xb_X7_held_0, xb_X7_held_56, xb_X7_held_61, xb_X7_held_72, xb_X7_held_73, xb_X7_held_74, xb_X7_held_79, xb_X7_held_84, xb_X7_held_94, xb_X7_held_103, xb_X7_held_111, xb_X7_held_112, xb_X7_held_121, xb_X7_held_129, xb_X7_held_130, xs_nil, Nat.reduceAdd, true_implies, not_true_eq_false, not_false_eq_true, false_implies, and_true, true_and, x_10, xs_aload_n_0, xs_astore_n_2_i, xs_astore_n_2_a, xs_astore_n_2_n, xs_astore_n_2_l, xs_aload_n_2, xs_istore_n_3_i, xs_istore_n_3_a, xs_istore_n_3_n, xs_istore_n_3_l, xs_iload_n_1, xs_ireturn, xs_if_eq, xs_iconst_1, xs_goto, xs_iconst_0, xs_iload_n_3, xs_iconst_m1, xs_icmp_ne, xs_bipush_m2]) ))
      (first | exact ⟨Or.inl trivial, rfl⟩ | exact ⟨Or.inl trivial, rfl, rfl⟩ | (simp; done) | exact ⟨by simp, rfl⟩ | exact ⟨by simp, rfl, rfl⟩ | rfl)
/-- the root, the deepest level -/
theorem m8_heldOf (M : mWh h nw pa sts rf tx byt a) (hR : Rl s nw) (hh : 0 < sn s ∧ ¬ kstuck s = true) {i : Nat} (hi : i = 5 ∨ i = 6) : ∃ h2, xK 117 [.ref 122, .int (nI i)] h (some (.int (hval s i))) h2 ∧ mWh h2 nw pa sts rf tx byt a ∧ mF h h2 := by
  have h6 := hR.1.n6
  have e118 := hR.e118
  have i118 := hR.i118
  obtain ⟨⟨asd, hs, rd, so, ah, ar, tr, bg, fo, bc, br, bk, le, fr, nu, od, sp, wr, ha⟩, hz, ea, hb⟩ := id M
  have hb : x_hb h 122 (x_mc 122 nw asd pa sts rf tx byt (hs.map nI) rd so ah ar tr bg fo bc br bk le fr nu od sp wr ha) := hb
  have A := xA.of hb (Nat.zero_lt_succ _)
  obtain ⟨z1, z2, z3, z4⟩ := id hz
  obtain ⟨b, c, y1, y2, y3, y4⟩ := (Rl_held hR).2 hh
  obtain ⟨hs', rd', ⟨o1, o2, o3⟩, cL⟩ := e_held hb (by decide) z2 z3 hR hh.1 y4
  have A1 : xA h 122 (x_mc 122 nw asd pa sts rf tx byt ((hs').map nI) (rd') so ah ar tr bg fo bc br bk le fr nu od sp wr ha) _ := A.on rfl
  have hb1 := A1.hb
  obtain ⟨M1, F1⟩ := mWh_A (nw' := nw) (pa' := pa) (sts' := sts) (rf' := rf) (tx' := tx) (byt' := byt) (z' := ((asd, (hs'), (rd'), so, ah, ar, tr, bg, fo, bc, br, bk, le, fr, nu, od, sp, wr, ha) : mZ)) ⟨z1, o1.1, o2, z4⟩ ea A1
  refine ⟨_, ?_, M1, F1⟩
  have hrow := rowN_lt h6 b c
  have hne : ¬ srow s = -1 := by rw [y3]; exact nI_m1 (by omega)
  obtain ⟨r, r1, r2, r3, r4⟩ := tree_root hh.1 h6 y2
  refine xK_X8_heldOf (hb 0 _ rfl) (xe_X8_heldOf_0 ?_)
  (repeat (first | (simp only [xb_X8_heldOf_0, xb_X8_heldOf_21, xb_X8_heldOf_42, xb_X8_heldOf_43, xb_X8_heldOf_64, xb_X8_heldOf_66, xb_X8_heldOf_74, xb_X8_heldOf_83, xb_X8_heldOf_85, xs_nil, Nat.reduceAdd, true_implies, not_true_eq_false, not_false_eq_true, false_implies, and_true, true_and, x_10, xs_aload_n_0, xs_bipush_118, xs_istore_n_2_i, xs_istore_n_2_a, xs_istore_n_2_n, xs_istore_n_2_l, xs_iload_n_2, xs_iconst_m1, xs_istore_n_3_i, xs_istore_n_3_a, xs_istore_n_3_n, xs_istore_n_3_l, xs_iconst_0, xs_istore_4_i, xs_istore_4_a, xs_istore_4_n, xs_istore_4_l, xs_iconst_1, xs_istore_5_i, xs_istore_5_a, xs_istore_5_n, xs_istore_5_l, xs_iload_5, xs_icmp_gt, xs_if_ne, xs_goto, xs_iload_n_3, xs_iload_4, xs_icmp_le, xs_iinc_5_1_i, xs_iinc_5_1_a, xs_iinc_5_1_n, xs_iload_n_1, xs_iconst_5, xs_icmp_ne, xs_ireturn]) | (refine xr_getf (hb 0 _ rfl) (by rfl) ?_) | (refine xr_iaload (hb 1 _ rfl) i118 ?_)))
  rw [e118]
  (repeat (first | (simp only [xb_X8_heldOf_0, xb_X8_heldOf_21, xb_X8_heldOf_42, xb_X8_heldOf_43, xb_X8_heldOf_64, xb_X8_heldOf_66, xb_X8_heldOf_74, xb_X8_heldOf_83, xb_X8_heldOf_85, xs_nil, Nat.reduceAdd, true_implies, not_true_eq_false, not_false_eq_true, false_implies, and_true, true_and, x_10, xs_aload_n_0, xs_bipush_118, xs_istore_n_2_i, xs_istore_n_2_a, xs_istore_n_2_n, xs_istore_n_2_l, xs_iload_n_2, xs_iconst_m1, xs_istore_n_3_i, xs_istore_n_3_a, xs_istore_n_3_n, xs_istore_n_3_l, xs_iconst_0, xs_istore_4_i, xs_istore_4_a, xs_istore_4_n, xs_istore_4_l, xs_iconst_1, xs_istore_5_i, xs_istore_5_a, xs_istore_5_n, xs_istore_5_l, xs_iload_5, xs_icmp_gt, xs_if_ne, xs_goto, xs_iload_n_3, xs_iload_4, xs_icmp_le, xs_iinc_5_1_i, xs_iinc_5_1_a, xs_iinc_5_1_n, xs_iload_n_1, xs_iconst_5, xs_icmp_ne, xs_ireturn]) | refine xc_v2_0 (cL) (Nat.le_of_ble_eq_true rfl) ?_))
  generalize x_wr h 122 (x_mc 122 nw asd pa sts rf tx byt ((hs').map nI) (rd') so ah ar tr bg fo bc br bk le fr nu od sp wr ha) = h1' at hb1 ⊢
  refine l_heldOf hb1 o1 h6 (fun a q1 q2 => tree_rch hh.1 h6 y2 q1 q2) (fun q => ?_) (sn s) 0 (by omega)
  refine xe_X8_heldOf_74 ?_
  (repeat (first | (simp only [xb_X8_heldOf_0, xb_X8_heldOf_21, xb_X8_heldOf_42, xb_X8_heldOf_43, xb_X8_heldOf_64, xb_X8_heldOf_66, xb_X8_heldOf_74, xb_X8_heldOf_83, xb_X8_heldOf_85, xs_nil, Nat.reduceAdd, true_implies, not_true_eq_false, not_false_eq_true, false_implies, and_true, true_and, x_10, xs_aload_n_0, xs_bipush_118, xs_istore_n_2_i, xs_istore_n_2_a, xs_istore_n_2_n, xs_istore_n_2_l, xs_iload_n_2, xs_iconst_m1, xs_istore_n_3_i, xs_istore_n_3_a, xs_istore_n_3_n, xs_istore_n_3_l, xs_iconst_0, xs_istore_4_i, xs_istore_4_a, xs_istore_4_n, xs_istore_4_l, xs_iconst_1, xs_istore_5_i, xs_istore_5_a, xs_istore_5_n, xs_istore_5_l, xs_iload_5, xs_icmp_gt, xs_if_ne, xs_goto, xs_iload_n_3, xs_iload_4, xs_icmp_le, xs_iinc_5_1_i, xs_iinc_5_1_a, xs_iinc_5_1_n, xs_iload_n_1, xs_iconst_5, xs_icmp_ne, xs_ireturn]) ))
  rcases hi with rfl | rfl
  · have e : hval s 5 = nrt (sn s) c (sn s) := by
      show (if srow s = -1 then -1 else krt (srow s) (sn s) 1) = _
      rw [if_neg hne, y3, krt_n h6 r2 r3 r4 (sn s) 1 (Nat.le_refl _) (by omega) r1, nrt_r r1 r3 r4 (sn s) (Nat.le_refl _) r2]
    refine ⟨fun z => absurd rfl z, fun _ => ?_⟩
    (repeat (first | (simp only [xb_X8_heldOf_0, xb_X8_heldOf_21, xb_X8_heldOf_42, xb_X8_heldOf_43, xb_X8_heldOf_64, xb_X8_heldOf_66, xb_X8_heldOf_74, xb_X8_heldOf_83, xb_X8_heldOf_85, xs_nil, Nat.reduceAdd, true_implies, not_true_eq_false, not_false_eq_true, false_implies, and_true, true_and, x_10, xs_aload_n_0, xs_bipush_118, xs_istore_n_2_i, xs_istore_n_2_a, xs_istore_n_2_n, xs_istore_n_2_l, xs_iload_n_2, xs_iconst_m1, xs_istore_n_3_i, xs_istore_n_3_a, xs_istore_n_3_n, xs_istore_n_3_l, xs_iconst_0, xs_istore_4_i, xs_istore_4_a, xs_istore_4_n, xs_istore_4_l, xs_iconst_1, xs_istore_5_i, xs_istore_5_a, xs_istore_5_n, xs_istore_5_l, xs_iload_5, xs_icmp_gt, xs_if_ne, xs_goto, xs_iload_n_3, xs_iload_4, xs_icmp_le, xs_iinc_5_1_i, xs_iinc_5_1_a, xs_iinc_5_1_n, xs_iload_n_1, xs_iconst_5, xs_icmp_ne, xs_ireturn]) ))
    refine xe_X8_heldOf_85 ?_
    (repeat (first | (simp only [xb_X8_heldOf_0, xb_X8_heldOf_21, xb_X8_heldOf_42, xb_X8_heldOf_43, xb_X8_heldOf_64, xb_X8_heldOf_66, xb_X8_heldOf_74, xb_X8_heldOf_83, xb_X8_heldOf_85, xs_nil, Nat.reduceAdd, true_implies, not_true_eq_false, not_false_eq_true, false_implies, and_true, true_and, x_10, xs_aload_n_0, xs_bipush_118, xs_istore_n_2_i, xs_istore_n_2_a, xs_istore_n_2_n, xs_istore_n_2_l, xs_iload_n_2, xs_iconst_m1, xs_istore_n_3_i, xs_istore_n_3_a, xs_istore_n_3_n, xs_istore_n_3_l, xs_iconst_0, xs_istore_4_i, xs_istore_4_a, xs_istore_4_n, xs_istore_4_l, xs_iconst_1, xs_istore_5_i, xs_istore_5_a, xs_istore_5_n, xs_istore_5_l, xs_iload_5, xs_icmp_gt, xs_if_ne, xs_goto, xs_iload_n_3, xs_iload_4, xs_icmp_le, xs_iinc_5_1_i, xs_iinc_5_1_a, xs_iinc_5_1_n, xs_iload_n_1, xs_iconst_5, xs_icmp_ne, xs_ireturn]) ))
    rw [e]
    (first | exact ⟨Or.inl trivial, rfl⟩ | exact ⟨Or.inl trivial, rfl, rfl⟩ | (simp; done) | exact ⟨by simp, rfl⟩ | exact ⟨by simp, rfl, rfl⟩ | rfl)
  · have e : hval s 6 = nI (ndeep (sn s) c (sn s)) := by
      show (if srow s = -1 then -1 else nI (kdeep (srow s) (sn s))) = _
      rw [if_neg hne, y3, kdeep_n h6 (sn s) (Nat.le_refl _)]
    refine ⟨fun _ => ?_, fun z => absurd (by decide) z⟩
    refine xe_X8_heldOf_83 ?_
    (repeat (first | (simp only [xb_X8_heldOf_0, xb_X8_heldOf_21, xb_X8_heldOf_42, xb_X8_heldOf_43, xb_X8_heldOf_64, xb_X8_heldOf_66, xb_X8_heldOf_74, xb_X8_heldOf_83, xb_X8_heldOf_85, xs_nil, Nat.reduceAdd, true_implies, not_true_eq_false, not_false_eq_true, false_implies, and_true, true_and, x_10, xs_aload_n_0, xs_bipush_118, xs_istore_n_2_i, xs_istore_n_2_a, xs_istore_n_2_n, xs_istore_n_2_l, xs_iload_n_2, xs_iconst_m1, xs_istore_n_3_i, xs_istore_n_3_a, xs_istore_n_3_n, xs_istore_n_3_l, xs_iconst_0, xs_istore_4_i, xs_istore_4_a, xs_istore_4_n, xs_istore_4_l, xs_iconst_1, xs_istore_5_i, xs_istore_5_a, xs_istore_5_n, xs_istore_5_l, xs_iload_5, xs_icmp_gt, xs_if_ne, xs_goto, xs_iload_n_3, xs_iload_4, xs_icmp_le, xs_iinc_5_1_i, xs_iinc_5_1_a, xs_iinc_5_1_n, xs_iload_n_1, xs_iconst_5, xs_icmp_ne, xs_ireturn]) ))
    refine xe_X8_heldOf_85 ?_
    (repeat (first | (simp only [xb_X8_heldOf_0, xb_X8_heldOf_21, xb_X8_heldOf_42, xb_X8_heldOf_43, xb_X8_heldOf_64, xb_X8_heldOf_66, xb_X8_heldOf_74, xb_X8_heldOf_83, xb_X8_heldOf_85, xs_nil, Nat.reduceAdd, true_implies, not_true_eq_false, not_false_eq_true, false_implies, and_true, true_and, x_10, xs_aload_n_0, xs_bipush_118, xs_istore_n_2_i, xs_istore_n_2_a, xs_istore_n_2_n, xs_istore_n_2_l, xs_iload_n_2, xs_iconst_m1, xs_istore_n_3_i, xs_istore_n_3_a, xs_istore_n_3_n, xs_istore_n_3_l, xs_iconst_0, xs_istore_4_i, xs_istore_4_a, xs_istore_4_n, xs_istore_4_l, xs_iconst_1, xs_istore_5_i, xs_istore_5_a, xs_istore_5_n, xs_istore_5_l, xs_iload_5, xs_icmp_gt, xs_if_ne, xs_goto, xs_iload_n_3, xs_iload_4, xs_icmp_le, xs_iinc_5_1_i, xs_iinc_5_1_a, xs_iinc_5_1_n, xs_iload_n_1, xs_iconst_5, xs_icmp_ne, xs_ireturn]) ))
    rw [e]
    (first | exact ⟨Or.inl trivial, rfl⟩ | exact ⟨Or.inl trivial, rfl, rfl⟩ | (simp; done) | exact ⟨by simp, rfl⟩ | exact ⟨by simp, rfl, rfl⟩ | rfl)
theorem m8_aboutHeld (M : mWh h nw pa sts rf tx byt a) (hR : Rl s nw) {i : Nat} (hi : i < 7) : ∃ h2, xK 118 [.ref 122, .int (nI i)] h (some (.int (hval s i))) h2 ∧ mWh h2 nw pa sts rf tx byt a ∧ mF h h2 := by
  have h6 := hR.1.n6
  have hl := hR.2.1.1
  have hct := hR.1.ct
  have e118 := hR.e118
  have i118 := hR.i118
  have cH := m8_holds M.mW hR
  have cS := m8_isStuck M.mW hR
  have cM2 := m8_sumOf (x := 2) M.mW hR (Or.inr rfl)
  have cM1 := m8_sumOf (x := 1) M.mW hR (Or.inl rfl)
  have eS := Rl_sum hR (sn s) (Nat.le_refl _)
  have c2 : xK 106 [.ref 122, .int 2] h (some (.int (xsum (ssu s) (sn s)))) h := by rw [← eS.1]; exact cM2
  have c1 : xK 106 [.ref 122, .int 1] h (some (.int (xsum (sre s) (sn s)))) h := by rw [← eS.2]; exact cM1
  obtain ⟨hh1, hh2⟩ := Rl_held hR
  obtain ⟨z, hz, ea, hb⟩ := id M
  rcases (show i = 0 ∨ i = 1 ∨ i = 2 ∨ i = 3 ∨ i = 4 ∨ (i = 5 ∨ i = 6) by omega) with rfl | rfl | rfl | rfl | rfl | hi56
  · refine ⟨h, ?_, M, mF.refl h⟩
    refine xK_X8_aboutHeld (hb 0 _ rfl) (xe_X8_aboutHeld_0 ?_)
    (repeat (first | (simp only [xb_X8_aboutHeld_0, xb_X8_aboutHeld_36, xb_X8_aboutHeld_44, xb_X8_aboutHeld_55, xb_X8_aboutHeld_56, xb_X8_aboutHeld_57, xb_X8_aboutHeld_63, xb_X8_aboutHeld_69, xb_X8_aboutHeld_104, xb_X8_aboutHeld_105, xb_X8_aboutHeld_106, xb_X8_aboutHeld_128, xb_X8_aboutHeld_129, xs_nil, Nat.reduceAdd, true_implies, not_true_eq_false, not_false_eq_true, false_implies, and_true, true_and, x_10, xs_iload_n_1, xs_aload_n_0, xs_bipush_118, xs_ireturn, xs_if_eq, xs_iconst_1, xs_goto, xs_iconst_0, xs_iconst_2, xs_iconst_3, xs_iadd, xs_iconst_m1]) ))
    refine xr_tabin 0 35 36 (by decide) (by decide) rfl rfl (xe_X8_aboutHeld_36 ?_)
    (repeat (first | (simp only [xb_X8_aboutHeld_0, xb_X8_aboutHeld_36, xb_X8_aboutHeld_44, xb_X8_aboutHeld_55, xb_X8_aboutHeld_56, xb_X8_aboutHeld_57, xb_X8_aboutHeld_63, xb_X8_aboutHeld_69, xb_X8_aboutHeld_104, xb_X8_aboutHeld_105, xb_X8_aboutHeld_106, xb_X8_aboutHeld_128, xb_X8_aboutHeld_129, xs_nil, Nat.reduceAdd, true_implies, not_true_eq_false, not_false_eq_true, false_implies, and_true, true_and, x_10, xs_iload_n_1, xs_aload_n_0, xs_bipush_118, xs_ireturn, xs_if_eq, xs_iconst_1, xs_goto, xs_iconst_0, xs_iconst_2, xs_iconst_3, xs_iadd, xs_iconst_m1]) | (refine xr_getf (hb 0 _ rfl) (by rfl) ?_) | (refine xr_iaload (hb 1 _ rfl) i118 ?_)))
    have e : hval s 0 = nI (sn s) := hct
    rw [e118, e]
    (first | exact ⟨Or.inl trivial, rfl⟩ | exact ⟨Or.inl trivial, rfl, rfl⟩ | (simp; done) | exact ⟨by simp, rfl⟩ | exact ⟨by simp, rfl, rfl⟩ | rfl)
  · refine ⟨h, ?_, M, mF.refl h⟩
    refine xK_X8_aboutHeld (hb 0 _ rfl) (xe_X8_aboutHeld_0 ?_)
    (repeat (first | (simp only [xb_X8_aboutHeld_0, xb_X8_aboutHeld_36, xb_X8_aboutHeld_44, xb_X8_aboutHeld_55, xb_X8_aboutHeld_56, xb_X8_aboutHeld_57, xb_X8_aboutHeld_63, xb_X8_aboutHeld_69, xb_X8_aboutHeld_104, xb_X8_aboutHeld_105, xb_X8_aboutHeld_106, xb_X8_aboutHeld_128, xb_X8_aboutHeld_129, xs_nil, Nat.reduceAdd, true_implies, not_true_eq_false, not_false_eq_true, false_implies, and_true, true_and, x_10, xs_iload_n_1, xs_aload_n_0, xs_bipush_118, xs_ireturn, xs_if_eq, xs_iconst_1, xs_goto, xs_iconst_0, xs_iconst_2, xs_iconst_3, xs_iadd, xs_iconst_m1]) ))
    refine xr_tabin 1 43 44 (by decide) (by decide) rfl rfl (xe_X8_aboutHeld_44 ?_)
    (repeat (first | (simp only [xb_X8_aboutHeld_0, xb_X8_aboutHeld_36, xb_X8_aboutHeld_44, xb_X8_aboutHeld_55, xb_X8_aboutHeld_56, xb_X8_aboutHeld_57, xb_X8_aboutHeld_63, xb_X8_aboutHeld_69, xb_X8_aboutHeld_104, xb_X8_aboutHeld_105, xb_X8_aboutHeld_106, xb_X8_aboutHeld_128, xb_X8_aboutHeld_129, xs_nil, Nat.reduceAdd, true_implies, not_true_eq_false, not_false_eq_true, false_implies, and_true, true_and, x_10, xs_iload_n_1, xs_aload_n_0, xs_bipush_118, xs_ireturn, xs_if_eq, xs_iconst_1, xs_goto, xs_iconst_0, xs_iconst_2, xs_iconst_3, xs_iadd, xs_iconst_m1]) | refine xc_v1_1 (cS) (Nat.le_of_ble_eq_true rfl) ?_))
    have e : hval s 1 = (if kstuck s = true then 1 else 0) := rfl
    rw [e]
    by_cases hz : kstuck s = true
    · rw [if_pos hz]
      (repeat (first | (simp only [xb_X8_aboutHeld_0, xb_X8_aboutHeld_36, xb_X8_aboutHeld_44, xb_X8_aboutHeld_55, xb_X8_aboutHeld_56, xb_X8_aboutHeld_57, xb_X8_aboutHeld_63, xb_X8_aboutHeld_69, xb_X8_aboutHeld_104, xb_X8_aboutHeld_105, xb_X8_aboutHeld_106, xb_X8_aboutHeld_128, xb_X8_aboutHeld_129, xs_nil, Nat.reduceAdd, true_implies, not_true_eq_false, not_false_eq_true, false_implies, and_true, true_and, x_10, xs_iload_n_1, xs_aload_n_0, xs_bipush_118, xs_ireturn, xs_if_eq, xs_iconst_1, xs_goto, xs_iconst_0, xs_iconst_2, xs_iconst_3, xs_iadd, xs_iconst_m1]) ))
      refine xe_X8_aboutHeld_56 ?_
      (repeat (first | (simp only [xb_X8_aboutHeld_0, xb_X8_aboutHeld_36, xb_X8_aboutHeld_44, xb_X8_aboutHeld_55, xb_X8_aboutHeld_56, xb_X8_aboutHeld_57, xb_X8_aboutHeld_63, xb_X8_aboutHeld_69, xb_X8_aboutHeld_104, xb_X8_aboutHeld_105, xb_X8_aboutHeld_106, xb_X8_aboutHeld_128, xb_X8_aboutHeld_129, xs_nil, Nat.reduceAdd, true_implies, not_true_eq_false, not_false_eq_true, false_implies, and_true, true_and, x_10, xs_iload_n_1, xs_aload_n_0, xs_bipush_118, xs_ireturn, xs_if_eq, xs_iconst_1, xs_goto, xs_iconst_0, xs_iconst_2, xs_iconst_3, xs_iadd, xs_iconst_m1]) ))
      (first | exact ⟨Or.inl trivial, rfl⟩ | exact ⟨Or.inl trivial, rfl, rfl⟩ | (simp; done) | exact ⟨by simp, rfl⟩ | exact ⟨by simp, rfl, rfl⟩ | rfl)
    · rw [if_neg hz]
      (repeat (first | (simp only [xb_X8_aboutHeld_0, xb_X8_aboutHeld_36, xb_X8_aboutHeld_44, xb_X8_aboutHeld_55, xb_X8_aboutHeld_56, xb_X8_aboutHeld_57, xb_X8_aboutHeld_63, xb_X8_aboutHeld_69, xb_X8_aboutHeld_104, xb_X8_aboutHeld_105, xb_X8_aboutHeld_106, xb_X8_aboutHeld_128, xb_X8_aboutHeld_129, xs_nil, Nat.reduceAdd, true_implies, not_true_eq_false, not_false_eq_true, false_implies, and_true, true_and, x_10, xs_iload_n_1, xs_aload_n_0, xs_bipush_118, xs_ireturn, xs_if_eq, xs_iconst_1, xs_goto, xs_iconst_0, xs_iconst_2, xs_iconst_3, xs_iadd, xs_iconst_m1]) ))
      refine xe_X8_aboutHeld_55 ?_
      (repeat (first | (simp only [xb_X8_aboutHeld_0, xb_X8_aboutHeld_36, xb_X8_aboutHeld_44, xb_X8_aboutHeld_55, xb_X8_aboutHeld_56, xb_X8_aboutHeld_57, xb_X8_aboutHeld_63, xb_X8_aboutHeld_69, xb_X8_aboutHeld_104, xb_X8_aboutHeld_105, xb_X8_aboutHeld_106, xb_X8_aboutHeld_128, xb_X8_aboutHeld_129, xs_nil, Nat.reduceAdd, true_implies, not_true_eq_false, not_false_eq_true, false_implies, and_true, true_and, x_10, xs_iload_n_1, xs_aload_n_0, xs_bipush_118, xs_ireturn, xs_if_eq, xs_iconst_1, xs_goto, xs_iconst_0, xs_iconst_2, xs_iconst_3, xs_iadd, xs_iconst_m1]) ))
      refine xe_X8_aboutHeld_56 ?_
      (repeat (first | (simp only [xb_X8_aboutHeld_0, xb_X8_aboutHeld_36, xb_X8_aboutHeld_44, xb_X8_aboutHeld_55, xb_X8_aboutHeld_56, xb_X8_aboutHeld_57, xb_X8_aboutHeld_63, xb_X8_aboutHeld_69, xb_X8_aboutHeld_104, xb_X8_aboutHeld_105, xb_X8_aboutHeld_106, xb_X8_aboutHeld_128, xb_X8_aboutHeld_129, xs_nil, Nat.reduceAdd, true_implies, not_true_eq_false, not_false_eq_true, false_implies, and_true, true_and, x_10, xs_iload_n_1, xs_aload_n_0, xs_bipush_118, xs_ireturn, xs_if_eq, xs_iconst_1, xs_goto, xs_iconst_0, xs_iconst_2, xs_iconst_3, xs_iadd, xs_iconst_m1]) ))
      (first | exact ⟨Or.inl trivial, rfl⟩ | exact ⟨Or.inl trivial, rfl, rfl⟩ | (simp; done) | exact ⟨by simp, rfl⟩ | exact ⟨by simp, rfl, rfl⟩ | rfl)
  · refine ⟨h, ?_, M, mF.refl h⟩
    refine xK_X8_aboutHeld (hb 0 _ rfl) (xe_X8_aboutHeld_0 ?_)
    (repeat (first | (simp only [xb_X8_aboutHeld_0, xb_X8_aboutHeld_36, xb_X8_aboutHeld_44, xb_X8_aboutHeld_55, xb_X8_aboutHeld_56, xb_X8_aboutHeld_57, xb_X8_aboutHeld_63, xb_X8_aboutHeld_69, xb_X8_aboutHeld_104, xb_X8_aboutHeld_105, xb_X8_aboutHeld_106, xb_X8_aboutHeld_128, xb_X8_aboutHeld_129, xs_nil, Nat.reduceAdd, true_implies, not_true_eq_false, not_false_eq_true, false_implies, and_true, true_and, x_10, xs_iload_n_1, xs_aload_n_0, xs_bipush_118, xs_ireturn, xs_if_eq, xs_iconst_1, xs_goto, xs_iconst_0, xs_iconst_2, xs_iconst_3, xs_iadd, xs_iconst_m1]) ))
    refine xr_tabin 2 56 57 (by decide) (by decide) rfl rfl (xe_X8_aboutHeld_57 ?_)
    (repeat (first | (simp only [xb_X8_aboutHeld_0, xb_X8_aboutHeld_36, xb_X8_aboutHeld_44, xb_X8_aboutHeld_55, xb_X8_aboutHeld_56, xb_X8_aboutHeld_57, xb_X8_aboutHeld_63, xb_X8_aboutHeld_69, xb_X8_aboutHeld_104, xb_X8_aboutHeld_105, xb_X8_aboutHeld_106, xb_X8_aboutHeld_128, xb_X8_aboutHeld_129, xs_nil, Nat.reduceAdd, true_implies, not_true_eq_false, not_false_eq_true, false_implies, and_true, true_and, x_10, xs_iload_n_1, xs_aload_n_0, xs_bipush_118, xs_ireturn, xs_if_eq, xs_iconst_1, xs_goto, xs_iconst_0, xs_iconst_2, xs_iconst_3, xs_iadd, xs_iconst_m1]) | refine xc_v2_1 (c2) (Nat.le_of_ble_eq_true rfl) ?_))
    (first | exact ⟨Or.inl trivial, rfl⟩ | exact ⟨Or.inl trivial, rfl, rfl⟩ | (simp; done) | exact ⟨by simp, rfl⟩ | exact ⟨by simp, rfl, rfl⟩ | rfl)
  · refine ⟨h, ?_, M, mF.refl h⟩
    refine xK_X8_aboutHeld (hb 0 _ rfl) (xe_X8_aboutHeld_0 ?_)
    (repeat (first | (simp only [xb_X8_aboutHeld_0, xb_X8_aboutHeld_36, xb_X8_aboutHeld_44, xb_X8_aboutHeld_55, xb_X8_aboutHeld_56, xb_X8_aboutHeld_57, xb_X8_aboutHeld_63, xb_X8_aboutHeld_69, xb_X8_aboutHeld_104, xb_X8_aboutHeld_105, xb_X8_aboutHeld_106, xb_X8_aboutHeld_128, xb_X8_aboutHeld_129, xs_nil, Nat.reduceAdd, true_implies, not_true_eq_false, not_false_eq_true, false_implies, and_true, true_and, x_10, xs_iload_n_1, xs_aload_n_0, xs_bipush_118, xs_ireturn, xs_if_eq, xs_iconst_1, xs_goto, xs_iconst_0, xs_iconst_2, xs_iconst_3, xs_iadd, xs_iconst_m1]) ))
    refine xr_tabin 3 62 63 (by decide) (by decide) rfl rfl (xe_X8_aboutHeld_63 ?_)
    (repeat (first | (simp only [xb_X8_aboutHeld_0, xb_X8_aboutHeld_36, xb_X8_aboutHeld_44, xb_X8_aboutHeld_55, xb_X8_aboutHeld_56, xb_X8_aboutHeld_57, xb_X8_aboutHeld_63, xb_X8_aboutHeld_69, xb_X8_aboutHeld_104, xb_X8_aboutHeld_105, xb_X8_aboutHeld_106, xb_X8_aboutHeld_128, xb_X8_aboutHeld_129, xs_nil, Nat.reduceAdd, true_implies, not_true_eq_false, not_false_eq_true, false_implies, and_true, true_and, x_10, xs_iload_n_1, xs_aload_n_0, xs_bipush_118, xs_ireturn, xs_if_eq, xs_iconst_1, xs_goto, xs_iconst_0, xs_iconst_2, xs_iconst_3, xs_iadd, xs_iconst_m1]) | refine xc_v2_1 (c1) (Nat.le_of_ble_eq_true rfl) ?_))
    (first | exact ⟨Or.inl trivial, rfl⟩ | exact ⟨Or.inl trivial, rfl, rfl⟩ | (simp; done) | exact ⟨by simp, rfl⟩ | exact ⟨by simp, rfl, rfl⟩ | rfl)
  · refine ⟨h, ?_, M, mF.refl h⟩
    refine xK_X8_aboutHeld (hb 0 _ rfl) (xe_X8_aboutHeld_0 ?_)
    (repeat (first | (simp only [xb_X8_aboutHeld_0, xb_X8_aboutHeld_36, xb_X8_aboutHeld_44, xb_X8_aboutHeld_55, xb_X8_aboutHeld_56, xb_X8_aboutHeld_57, xb_X8_aboutHeld_63, xb_X8_aboutHeld_69, xb_X8_aboutHeld_104, xb_X8_aboutHeld_105, xb_X8_aboutHeld_106, xb_X8_aboutHeld_128, xb_X8_aboutHeld_129, xs_nil, Nat.reduceAdd, true_implies, not_true_eq_false, not_false_eq_true, false_implies, and_true, true_and, x_10, xs_iload_n_1, xs_aload_n_0, xs_bipush_118, xs_ireturn, xs_if_eq, xs_iconst_1, xs_goto, xs_iconst_0, xs_iconst_2, xs_iconst_3, xs_iadd, xs_iconst_m1]) ))
    refine xr_tabin 4 68 69 (by decide) (by decide) rfl rfl (xe_X8_aboutHeld_69 ?_)
    (repeat (first | (simp only [xb_X8_aboutHeld_0, xb_X8_aboutHeld_36, xb_X8_aboutHeld_44, xb_X8_aboutHeld_55, xb_X8_aboutHeld_56, xb_X8_aboutHeld_57, xb_X8_aboutHeld_63, xb_X8_aboutHeld_69, xb_X8_aboutHeld_104, xb_X8_aboutHeld_105, xb_X8_aboutHeld_106, xb_X8_aboutHeld_128, xb_X8_aboutHeld_129, xs_nil, Nat.reduceAdd, true_implies, not_true_eq_false, not_false_eq_true, false_implies, and_true, true_and, x_10, xs_iload_n_1, xs_aload_n_0, xs_bipush_118, xs_ireturn, xs_if_eq, xs_iconst_1, xs_goto, xs_iconst_0, xs_iconst_2, xs_iconst_3, xs_iadd, xs_iconst_m1]) | (refine xr_getf (hb 0 _ rfl) (by rfl) ?_) | (refine xr_iaload (hb 1 _ rfl) i118 ?_)))
    rw [e118]
    (repeat (first | (simp only [xb_X8_aboutHeld_0, xb_X8_aboutHeld_36, xb_X8_aboutHeld_44, xb_X8_aboutHeld_55, xb_X8_aboutHeld_56, xb_X8_aboutHeld_57, xb_X8_aboutHeld_63, xb_X8_aboutHeld_69, xb_X8_aboutHeld_104, xb_X8_aboutHeld_105, xb_X8_aboutHeld_106, xb_X8_aboutHeld_128, xb_X8_aboutHeld_129, xs_nil, Nat.reduceAdd, true_implies, not_true_eq_false, not_false_eq_true, false_implies, and_true, true_and, x_10, xs_iload_n_1, xs_aload_n_0, xs_bipush_118, xs_ireturn, xs_if_eq, xs_iconst_1, xs_goto, xs_iconst_0, xs_iconst_2, xs_iconst_3, xs_iadd, xs_iconst_m1]) | refine xc_v2_1 (cH) (Nat.le_of_ble_eq_true rfl) ?_))
    have e : hval s 4 = (sco s).getD (sn s) 0 := rfl
    rw [e]
    by_cases hhd : 0 < sn s ∧ ¬ kstuck s = true
    · have ei : (119 : Int32) + 5 * (nI (sn s) - 1) + 3 = nI (119 + 5 * (sn s - 1) + 3) := by rw [wp_n (by omega)]; exact nI_k _ 3 rfl
      rw [if_pos hhd]
      (repeat (first | (simp only [xb_X8_aboutHeld_0, xb_X8_aboutHeld_36, xb_X8_aboutHeld_44, xb_X8_aboutHeld_55, xb_X8_aboutHeld_56, xb_X8_aboutHeld_57, xb_X8_aboutHeld_63, xb_X8_aboutHeld_69, xb_X8_aboutHeld_104, xb_X8_aboutHeld_105, xb_X8_aboutHeld_106, xb_X8_aboutHeld_128, xb_X8_aboutHeld_129, xs_nil, Nat.reduceAdd, true_implies, not_true_eq_false, not_false_eq_true, false_implies, and_true, true_and, x_10, xs_iload_n_1, xs_aload_n_0, xs_bipush_118, xs_ireturn, xs_if_eq, xs_iconst_1, xs_goto, xs_iconst_0, xs_iconst_2, xs_iconst_3, xs_iadd, xs_iconst_m1]) | (refine xr_getf (hb 0 _ rfl) (by rfl) ?_) | (refine xr_iaload (hb 1 _ rfl) i118 ?_)))
      rw [e118]
      (repeat (first | (simp only [xb_X8_aboutHeld_0, xb_X8_aboutHeld_36, xb_X8_aboutHeld_44, xb_X8_aboutHeld_55, xb_X8_aboutHeld_56, xb_X8_aboutHeld_57, xb_X8_aboutHeld_63, xb_X8_aboutHeld_69, xb_X8_aboutHeld_104, xb_X8_aboutHeld_105, xb_X8_aboutHeld_106, xb_X8_aboutHeld_128, xb_X8_aboutHeld_129, xs_nil, Nat.reduceAdd, true_implies, not_true_eq_false, not_false_eq_true, false_implies, and_true, true_and, x_10, xs_iload_n_1, xs_aload_n_0, xs_bipush_118, xs_ireturn, xs_if_eq, xs_iconst_1, xs_goto, xs_iconst_0, xs_iconst_2, xs_iconst_3, xs_iadd, xs_iconst_m1]) | refine xc_v2_1 (c_wordAt (hb 0 _ rfl)) (Nat.le_of_ble_eq_true rfl) ?_))
      rw [ei]
      (repeat (first | (simp only [xb_X8_aboutHeld_0, xb_X8_aboutHeld_36, xb_X8_aboutHeld_44, xb_X8_aboutHeld_55, xb_X8_aboutHeld_56, xb_X8_aboutHeld_57, xb_X8_aboutHeld_63, xb_X8_aboutHeld_69, xb_X8_aboutHeld_104, xb_X8_aboutHeld_105, xb_X8_aboutHeld_106, xb_X8_aboutHeld_128, xb_X8_aboutHeld_129, xs_nil, Nat.reduceAdd, true_implies, not_true_eq_false, not_false_eq_true, false_implies, and_true, true_and, x_10, xs_iload_n_1, xs_aload_n_0, xs_bipush_118, xs_ireturn, xs_if_eq, xs_iconst_1, xs_goto, xs_iconst_0, xs_iconst_2, xs_iconst_3, xs_iadd, xs_iconst_m1]) | (refine xr_iaload (hb 1 _ rfl) (by rw [hl]; exact x_in (by omega) (by decide)) ?_)))
      refine xe_X8_aboutHeld_105 ?_
      (repeat (first | (simp only [xb_X8_aboutHeld_0, xb_X8_aboutHeld_36, xb_X8_aboutHeld_44, xb_X8_aboutHeld_55, xb_X8_aboutHeld_56, xb_X8_aboutHeld_57, xb_X8_aboutHeld_63, xb_X8_aboutHeld_69, xb_X8_aboutHeld_104, xb_X8_aboutHeld_105, xb_X8_aboutHeld_106, xb_X8_aboutHeld_128, xb_X8_aboutHeld_129, xs_nil, Nat.reduceAdd, true_implies, not_true_eq_false, not_false_eq_true, false_implies, and_true, true_and, x_10, xs_iload_n_1, xs_aload_n_0, xs_bipush_118, xs_ireturn, xs_if_eq, xs_iconst_1, xs_goto, xs_iconst_0, xs_iconst_2, xs_iconst_3, xs_iadd, xs_iconst_m1]) ))
      rw [xg_n (by omega), (hR.2.2.2.2 (sn s) hhd.1 (Nat.le_refl _)).2.2.1]
      (first | exact ⟨Or.inl trivial, rfl⟩ | exact ⟨Or.inl trivial, rfl, rfl⟩ | (simp; done) | exact ⟨by simp, rfl⟩ | exact ⟨by simp, rfl, rfl⟩ | rfl)
    · rw [if_neg hhd, (hh1 hhd).2]
      (repeat (first | (simp only [xb_X8_aboutHeld_0, xb_X8_aboutHeld_36, xb_X8_aboutHeld_44, xb_X8_aboutHeld_55, xb_X8_aboutHeld_56, xb_X8_aboutHeld_57, xb_X8_aboutHeld_63, xb_X8_aboutHeld_69, xb_X8_aboutHeld_104, xb_X8_aboutHeld_105, xb_X8_aboutHeld_106, xb_X8_aboutHeld_128, xb_X8_aboutHeld_129, xs_nil, Nat.reduceAdd, true_implies, not_true_eq_false, not_false_eq_true, false_implies, and_true, true_and, x_10, xs_iload_n_1, xs_aload_n_0, xs_bipush_118, xs_ireturn, xs_if_eq, xs_iconst_1, xs_goto, xs_iconst_0, xs_iconst_2, xs_iconst_3, xs_iadd, xs_iconst_m1]) ))
      refine xe_X8_aboutHeld_104 ?_
      (repeat (first | (simp only [xb_X8_aboutHeld_0, xb_X8_aboutHeld_36, xb_X8_aboutHeld_44, xb_X8_aboutHeld_55, xb_X8_aboutHeld_56, xb_X8_aboutHeld_57, xb_X8_aboutHeld_63, xb_X8_aboutHeld_69, xb_X8_aboutHeld_104, xb_X8_aboutHeld_105, xb_X8_aboutHeld_106, xb_X8_aboutHeld_128, xb_X8_aboutHeld_129, xs_nil, Nat.reduceAdd, true_implies, not_true_eq_false, not_false_eq_true, false_implies, and_true, true_and, x_10, xs_iload_n_1, xs_aload_n_0, xs_bipush_118, xs_ireturn, xs_if_eq, xs_iconst_1, xs_goto, xs_iconst_0, xs_iconst_2, xs_iconst_3, xs_iadd, xs_iconst_m1]) ))
      refine xe_X8_aboutHeld_105 ?_
      (repeat (first | (simp only [xb_X8_aboutHeld_0, xb_X8_aboutHeld_36, xb_X8_aboutHeld_44, xb_X8_aboutHeld_55, xb_X8_aboutHeld_56, xb_X8_aboutHeld_57, xb_X8_aboutHeld_63, xb_X8_aboutHeld_69, xb_X8_aboutHeld_104, xb_X8_aboutHeld_105, xb_X8_aboutHeld_106, xb_X8_aboutHeld_128, xb_X8_aboutHeld_129, xs_nil, Nat.reduceAdd, true_implies, not_true_eq_false, not_false_eq_true, false_implies, and_true, true_and, x_10, xs_iload_n_1, xs_aload_n_0, xs_bipush_118, xs_ireturn, xs_if_eq, xs_iconst_1, xs_goto, xs_iconst_0, xs_iconst_2, xs_iconst_3, xs_iadd, xs_iconst_m1]) ))
      (first | exact ⟨Or.inl trivial, rfl⟩ | exact ⟨Or.inl trivial, rfl, rfl⟩ | (simp; done) | exact ⟨by simp, rfl⟩ | exact ⟨by simp, rfl, rfl⟩ | rfl)
  · have hnt : (nI i).toInt < 0 ∨ (4 : Int) < (nI i).toInt := by
      rw [nI_toInt (by omega)]
      omega
    by_cases hhd : 0 < sn s ∧ ¬ kstuck s = true
    · obtain ⟨h2, p, M2, F2⟩ := m8_heldOf M hR hhd hi56
      refine ⟨h2, ?_, M2, F2⟩
      rw [if_pos hhd] at cH
      refine xK_X8_aboutHeld (hb 0 _ rfl) (xe_X8_aboutHeld_0 ?_)
      (repeat (first | (simp only [xb_X8_aboutHeld_0, xb_X8_aboutHeld_36, xb_X8_aboutHeld_44, xb_X8_aboutHeld_55, xb_X8_aboutHeld_56, xb_X8_aboutHeld_57, xb_X8_aboutHeld_63, xb_X8_aboutHeld_69, xb_X8_aboutHeld_104, xb_X8_aboutHeld_105, xb_X8_aboutHeld_106, xb_X8_aboutHeld_128, xb_X8_aboutHeld_129, xs_nil, Nat.reduceAdd, true_implies, not_true_eq_false, not_false_eq_true, false_implies, and_true, true_and, x_10, xs_iload_n_1, xs_aload_n_0, xs_bipush_118, xs_ireturn, xs_if_eq, xs_iconst_1, xs_goto, xs_iconst_0, xs_iconst_2, xs_iconst_3, xs_iadd, xs_iconst_m1]) ))
      refine xr_tabout 106 hnt rfl (xe_X8_aboutHeld_106 ?_)
      (repeat (first | (simp only [xb_X8_aboutHeld_0, xb_X8_aboutHeld_36, xb_X8_aboutHeld_44, xb_X8_aboutHeld_55, xb_X8_aboutHeld_56, xb_X8_aboutHeld_57, xb_X8_aboutHeld_63, xb_X8_aboutHeld_69, xb_X8_aboutHeld_104, xb_X8_aboutHeld_105, xb_X8_aboutHeld_106, xb_X8_aboutHeld_128, xb_X8_aboutHeld_129, xs_nil, Nat.reduceAdd, true_implies, not_true_eq_false, not_false_eq_true, false_implies, and_true, true_and, x_10, xs_iload_n_1, xs_aload_n_0, xs_bipush_118, xs_ireturn, xs_if_eq, xs_iconst_1, xs_goto, xs_iconst_0, xs_iconst_2, xs_iconst_3, xs_iadd, xs_iconst_m1]) | (refine xr_getf (hb 0 _ rfl) (by rfl) ?_) | (refine xr_iaload (hb 1 _ rfl) i118 ?_)))
      rw [e118]
      (repeat (first | (simp only [xb_X8_aboutHeld_0, xb_X8_aboutHeld_36, xb_X8_aboutHeld_44, xb_X8_aboutHeld_55, xb_X8_aboutHeld_56, xb_X8_aboutHeld_57, xb_X8_aboutHeld_63, xb_X8_aboutHeld_69, xb_X8_aboutHeld_104, xb_X8_aboutHeld_105, xb_X8_aboutHeld_106, xb_X8_aboutHeld_128, xb_X8_aboutHeld_129, xs_nil, Nat.reduceAdd, true_implies, not_true_eq_false, not_false_eq_true, false_implies, and_true, true_and, x_10, xs_iload_n_1, xs_aload_n_0, xs_bipush_118, xs_ireturn, xs_if_eq, xs_iconst_1, xs_goto, xs_iconst_0, xs_iconst_2, xs_iconst_3, xs_iadd, xs_iconst_m1]) | refine xc_v2_1 (cH) (Nat.le_of_ble_eq_true rfl) ?_ | refine xc_v2_1 (p) (Nat.le_of_ble_eq_true rfl) ?_))
      refine xe_X8_aboutHeld_129 ?_
      (repeat (first | (simp only [xb_X8_aboutHeld_0, xb_X8_aboutHeld_36, xb_X8_aboutHeld_44, xb_X8_aboutHeld_55, xb_X8_aboutHeld_56, xb_X8_aboutHeld_57, xb_X8_aboutHeld_63, xb_X8_aboutHeld_69, xb_X8_aboutHeld_104, xb_X8_aboutHeld_105, xb_X8_aboutHeld_106, xb_X8_aboutHeld_128, xb_X8_aboutHeld_129, xs_nil, Nat.reduceAdd, true_implies, not_true_eq_false, not_false_eq_true, false_implies, and_true, true_and, x_10, xs_iload_n_1, xs_aload_n_0, xs_bipush_118, xs_ireturn, xs_if_eq, xs_iconst_1, xs_goto, xs_iconst_0, xs_iconst_2, xs_iconst_3, xs_iadd, xs_iconst_m1]) ))
      (first | exact ⟨Or.inl trivial, rfl⟩ | exact ⟨Or.inl trivial, rfl, rfl⟩ | (simp; done) | exact ⟨by simp, rfl⟩ | exact ⟨by simp, rfl, rfl⟩ | rfl)
    · refine ⟨h, ?_, M, mF.refl h⟩
      rw [if_neg hhd] at cH
      obtain ⟨e1, _⟩ := hh1 hhd
      have e : hval s i = -1 := by
        rcases hi56 with rfl | rfl
        · show (if srow s = -1 then -1 else krt (srow s) (sn s) 1) = _
          rw [if_pos e1]
        · show (if srow s = -1 then -1 else nI (kdeep (srow s) (sn s))) = _
          rw [if_pos e1]
      refine xK_X8_aboutHeld (hb 0 _ rfl) (xe_X8_aboutHeld_0 ?_)
      (repeat (first | (simp only [xb_X8_aboutHeld_0, xb_X8_aboutHeld_36, xb_X8_aboutHeld_44, xb_X8_aboutHeld_55, xb_X8_aboutHeld_56, xb_X8_aboutHeld_57, xb_X8_aboutHeld_63, xb_X8_aboutHeld_69, xb_X8_aboutHeld_104, xb_X8_aboutHeld_105, xb_X8_aboutHeld_106, xb_X8_aboutHeld_128, xb_X8_aboutHeld_129, xs_nil, Nat.reduceAdd, true_implies, not_true_eq_false, not_false_eq_true, false_implies, and_true, true_and, x_10, xs_iload_n_1, xs_aload_n_0, xs_bipush_118, xs_ireturn, xs_if_eq, xs_iconst_1, xs_goto, xs_iconst_0, xs_iconst_2, xs_iconst_3, xs_iadd, xs_iconst_m1]) ))
      refine xr_tabout 106 hnt rfl (xe_X8_aboutHeld_106 ?_)
      (repeat (first | (simp only [xb_X8_aboutHeld_0, xb_X8_aboutHeld_36, xb_X8_aboutHeld_44, xb_X8_aboutHeld_55, xb_X8_aboutHeld_56, xb_X8_aboutHeld_57, xb_X8_aboutHeld_63, xb_X8_aboutHeld_69, xb_X8_aboutHeld_104, xb_X8_aboutHeld_105, xb_X8_aboutHeld_106, xb_X8_aboutHeld_128, xb_X8_aboutHeld_129, xs_nil, Nat.reduceAdd, true_implies, not_true_eq_false, not_false_eq_true, false_implies, and_true, true_and, x_10, xs_iload_n_1, xs_aload_n_0, xs_bipush_118, xs_ireturn, xs_if_eq, xs_iconst_1, xs_goto, xs_iconst_0, xs_iconst_2, xs_iconst_3, xs_iadd, xs_iconst_m1]) | (refine xr_getf (hb 0 _ rfl) (by rfl) ?_) | (refine xr_iaload (hb 1 _ rfl) i118 ?_)))
      rw [e118]
      (repeat (first | (simp only [xb_X8_aboutHeld_0, xb_X8_aboutHeld_36, xb_X8_aboutHeld_44, xb_X8_aboutHeld_55, xb_X8_aboutHeld_56, xb_X8_aboutHeld_57, xb_X8_aboutHeld_63, xb_X8_aboutHeld_69, xb_X8_aboutHeld_104, xb_X8_aboutHeld_105, xb_X8_aboutHeld_106, xb_X8_aboutHeld_128, xb_X8_aboutHeld_129, xs_nil, Nat.reduceAdd, true_implies, not_true_eq_false, not_false_eq_true, false_implies, and_true, true_and, x_10, xs_iload_n_1, xs_aload_n_0, xs_bipush_118, xs_ireturn, xs_if_eq, xs_iconst_1, xs_goto, xs_iconst_0, xs_iconst_2, xs_iconst_3, xs_iadd, xs_iconst_m1]) | refine xc_v2_1 (cH) (Nat.le_of_ble_eq_true rfl) ?_))
      refine xe_X8_aboutHeld_128 ?_
      (repeat (first | (simp only [xb_X8_aboutHeld_0, xb_X8_aboutHeld_36, xb_X8_aboutHeld_44, xb_X8_aboutHeld_55, xb_X8_aboutHeld_56, xb_X8_aboutHeld_57, xb_X8_aboutHeld_63, xb_X8_aboutHeld_69, xb_X8_aboutHeld_104, xb_X8_aboutHeld_105, xb_X8_aboutHeld_106, xb_X8_aboutHeld_128, xb_X8_aboutHeld_129, xs_nil, Nat.reduceAdd, true_implies, not_true_eq_false, not_false_eq_true, false_implies, and_true, true_and, x_10, xs_iload_n_1, xs_aload_n_0, xs_bipush_118, xs_ireturn, xs_if_eq, xs_iconst_1, xs_goto, xs_iconst_0, xs_iconst_2, xs_iconst_3, xs_iadd, xs_iconst_m1]) ))
      refine xe_X8_aboutHeld_129 ?_
      (repeat (first | (simp only [xb_X8_aboutHeld_0, xb_X8_aboutHeld_36, xb_X8_aboutHeld_44, xb_X8_aboutHeld_55, xb_X8_aboutHeld_56, xb_X8_aboutHeld_57, xb_X8_aboutHeld_63, xb_X8_aboutHeld_69, xb_X8_aboutHeld_104, xb_X8_aboutHeld_105, xb_X8_aboutHeld_106, xb_X8_aboutHeld_128, xb_X8_aboutHeld_129, xs_nil, Nat.reduceAdd, true_implies, not_true_eq_false, not_false_eq_true, false_implies, and_true, true_and, x_10, xs_iload_n_1, xs_aload_n_0, xs_bipush_118, xs_ireturn, xs_if_eq, xs_iconst_1, xs_goto, xs_iconst_0, xs_iconst_2, xs_iconst_3, xs_iadd, xs_iconst_m1]) ))
      rw [e]
      (first | exact ⟨Or.inl trivial, rfl⟩ | exact ⟨Or.inl trivial, rfl, rfl⟩ | (simp; done) | exact ⟨by simp, rfl⟩ | exact ⟨by simp, rfl, rfl⟩ | rfl)
theorem t_held (B : BR ys h) : TC ys h 115 119 [.int x1] := by
  obtain ⟨s, k, sh, nx, ct, tx, ln, rf, nw, pa, L, C, M, I⟩ := B
  obtain ⟨i1, i2, i3, i6, i7, i8, i9⟩ := id I
  by_cases hc : 0 ≤ x1 ∧ x1 ≤ 6
  · obtain ⟨i, hi, rfl⟩ := nI_rngle (n := 6) rfl (by decide) hc.1 hc.2
    refine TC_mk L ⟨h, c7_held C i1.1 (i := i) (by omega), C, cF.refl h⟩ (fun h1' F => ?_) I
    have M := M.cF F
    obtain ⟨a, Mh⟩ := M.mWh
    obtain ⟨h2, p, M2, F2⟩ := m8_aboutHeld Mh i1 (i := i) (by omega)
    refine ⟨h2, ?_, M2.mW, F2⟩
    obtain ⟨fs, h0⟩ := M.h0
    have c1 := c_in (x1 := nI i) (x2 := 0) (x3 := 6) (h := h1')
    rw [if_pos hc] at c1
    refine xK_X8_held h0 (xe_X8_held_0 ?_)
    (repeat (first | (simp only [xb_X8_held_0, xb_X8_held_18, xb_X8_held_22, xs_nil, Nat.reduceAdd, true_implies, not_true_eq_false, not_false_eq_true, false_implies, and_true, true_and, x_10, xs_iload_n_1, xs_iconst_0, xs_bipush_6, xs_if_eq, xs_aload_n_0, xs_goto, xs_ireturn]) | refine xc_s3_1 (by decide) (c1) (Nat.le_of_ble_eq_true rfl) ?_ | refine xc_v2_1 (p) (Nat.le_of_ble_eq_true rfl) ?_))
    refine xe_X8_held_22 ?_
    (repeat (first | (simp only [xb_X8_held_0, xb_X8_held_18, xb_X8_held_22, xs_nil, Nat.reduceAdd, true_implies, not_true_eq_false, not_false_eq_true, false_implies, and_true, true_and, x_10, xs_iload_n_1, xs_iconst_0, xs_bipush_6, xs_if_eq, xs_aload_n_0, xs_goto, xs_ireturn]) ))
    (first | exact ⟨Or.inl trivial, rfl⟩ | exact ⟨Or.inl trivial, rfl, rfl⟩ | (simp; done) | exact ⟨by simp, rfl⟩ | exact ⟨by simp, rfl, rfl⟩ | rfl)
  · refine TC_mk (r := .int (-2)) L ?_ (fun h1 F => ?_) (INV_rf (i := 0) I)
    · have B := C
      obtain ⟨h1, p1, B1, F1⟩ := c7_bad C i9
      refine ⟨h1, ?_, B1, F1⟩
      have cR := c_heldRow (x_tc_s B.hs) (by rw [i1.1.lro]; exact i1.1.in7)
      refine xK_X7_held (B.hp 0 _ rfl) (xe_X7_held_0 ?_)
      (repeat (first | (simp only [xb_X7_held_0, xb_X7_held_56, xb_X7_held_61, xb_X7_held_72, xb_X7_held_73, xb_X7_held_74, xb_X7_held_79, xb_X7_held_84, xb_X7_held_94, xb_X7_held_103, xb_X7_held_111, xb_X7_held_112, xb_X7_held_121, xb_X7_held_129, xb_X7_held_130, xs_nil, Nat.reduceAdd, true_implies, not_true_eq_false, not_false_eq_true, false_implies, and_true, true_and, x_10, xs_aload_n_0, xs_astore_n_2_i, xs_astore_n_2_a, xs_astore_n_2_n, xs_astore_n_2_l, xs_aload_n_2, xs_istore_n_3_i, xs_istore_n_3_a, xs_istore_n_3_n, xs_istore_n_3_l, xs_iload_n_1, xs_ireturn, xs_if_eq, xs_iconst_1, xs_goto, xs_iconst_0, xs_iload_n_3, xs_iconst_m1, xs_icmp_ne, xs_bipush_m2]) | (refine xr_getf (B.hp 0 _ rfl) (by rfl) ?_) | (refine xr_getf (B.hs 0 _ rfl) (by rfl) ?_) | (refine xr_getf (B.hs 1 _ rfl) (by rfl) ?_) | (refine xr_getf (B.hs 7 _ rfl) (by rfl) ?_) | refine xc_v1_1 (cR) (Nat.le_of_ble_eq_true rfl) ?_))
      refine xr_tabout 130 (notin_toInt (n := 6) rfl (by decide) hc) rfl (xe_X7_held_130 ?_)
      (repeat (first | (simp only [xb_X7_held_0, xb_X7_held_56, xb_X7_held_61, xb_X7_held_72, xb_X7_held_73, xb_X7_held_74, xb_X7_held_79, xb_X7_held_84, xb_X7_held_94, xb_X7_held_103, xb_X7_held_111, xb_X7_held_112, xb_X7_held_121, xb_X7_held_129, xb_X7_held_130, xs_nil, Nat.reduceAdd, true_implies, not_true_eq_false, not_false_eq_true, false_implies, and_true, true_and, x_10, xs_aload_n_0, xs_astore_n_2_i, xs_astore_n_2_a, xs_astore_n_2_n, xs_astore_n_2_l, xs_aload_n_2, xs_istore_n_3_i, xs_istore_n_3_a, xs_istore_n_3_n, xs_istore_n_3_l, xs_iload_n_1, xs_ireturn, xs_if_eq, xs_iconst_1, xs_goto, xs_iconst_0, xs_iload_n_3, xs_iconst_m1, xs_icmp_ne, xs_bipush_m2]) | refine xc_v2_1 (p1) (Nat.le_of_ble_eq_true rfl) ?_))
      (first | exact ⟨Or.inl trivial, rfl⟩ | exact ⟨Or.inl trivial, rfl, rfl⟩ | (simp; done) | exact ⟨by simp, rfl⟩ | exact ⟨by simp, rfl, rfl⟩ | rfl)
    · have M := M.cF F
      obtain ⟨fs, h0⟩ := M.h0
      obtain ⟨h2, p1, M1, F1⟩ := m8_bad M i9
      refine ⟨h2, ?_, M1, F1⟩
      have c1 := c_in (x1 := x1) (x2 := 0) (x3 := 6) (h := h1)
      rw [if_neg hc] at c1
      refine xK_X8_held h0 (xe_X8_held_0 ?_)
      (repeat (first | (simp only [xb_X8_held_0, xb_X8_held_18, xb_X8_held_22, xs_nil, Nat.reduceAdd, true_implies, not_true_eq_false, not_false_eq_true, false_implies, and_true, true_and, x_10, xs_iload_n_1, xs_iconst_0, xs_bipush_6, xs_if_eq, xs_aload_n_0, xs_goto, xs_ireturn]) | refine xc_s3_1 (by decide) (c1) (Nat.le_of_ble_eq_true rfl) ?_))
      refine xe_X8_held_18 ?_
      (repeat (first | (simp only [xb_X8_held_0, xb_X8_held_18, xb_X8_held_22, xs_nil, Nat.reduceAdd, true_implies, not_true_eq_false, not_false_eq_true, false_implies, and_true, true_and, x_10, xs_iload_n_1, xs_iconst_0, xs_bipush_6, xs_if_eq, xs_aload_n_0, xs_goto, xs_ireturn]) | refine xc_v1_1 (p1) (Nat.le_of_ble_eq_true rfl) ?_))
      refine xe_X8_held_22 ?_
      (repeat (first | (simp only [xb_X8_held_0, xb_X8_held_18, xb_X8_held_22, xs_nil, Nat.reduceAdd, true_implies, not_true_eq_false, not_false_eq_true, false_implies, and_true, true_and, x_10, xs_iload_n_1, xs_iconst_0, xs_bipush_6, xs_if_eq, xs_aload_n_0, xs_goto, xs_ireturn]) ))
      (first | exact ⟨Or.inl trivial, rfl⟩ | exact ⟨Or.inl trivial, rfl, rfl⟩ | (simp; done) | exact ⟨by simp, rfl⟩ | exact ⟨by simp, rfl, rfl⟩ | rfl)
end HF
