section MO4
variable {m : Nat} {nw asd pa rf tx rd so ah ar tr bg le fr nu : List Int32} {hs : List Nat} {sts byt fo bc br bk od sp wr : Int32} {ha : Int64} {x1 x2 x3 x4 : Int32} {h h0 : xH} {n : Nat}
theorem nroots_le (hs : List Nat) : ∀ k, nroots hs k ≤ k
  | 0 => Nat.le_refl 0
  | k + 1 => by
    have := nroots_le hs k
    unfold nroots
    split <;> omega
theorem l_isTree1 (hb : x_hb h m (x_mc m nw asd pa sts rf tx byt (hs.map nI) rd so ah ar tr bg fo bc br bk le fr nu od sp wr ha)) (hk : nok hs) (hn : n < 7) {r : Option Value} (fin : ∀ x4 : Int32, x_EV 11 69 [some (.ref m), some (.int (nI n)), some (.int (nI (nroots hs n))), some (.int (if nfine hs n = true then 1 else 0)), some (.int x4)] [] h r h) : ∀ (d k : Nat), k + d = n → x_EV 11 7 [some (.ref m), some (.int (nI n)), some (.int (nI (nroots hs k))), some (.int (if nfine hs k = true then 1 else 0)), some (.int (nI (k + 1)))] [] h r h := by
  have hlen : (hs.map nI).length = 7 := by rw [List.length_map]; exact hk.1
  intro d
  induction d with
  | zero =>
    intro k hk2
    refine xe_X8_isTree_7 ?_
    (repeat (first | (simp only [xb_X8_isTree_0, xb_X8_isTree_7, xb_X8_isTree_28, xb_X8_isTree_29, xb_X8_isTree_61, xb_X8_isTree_62, xb_X8_isTree_69, xb_X8_isTree_72, xb_X8_isTree_101, xb_X8_isTree_105, xb_X8_isTree_106, xb_X8_isTree_113, xb_X8_isTree_126, xb_X8_isTree_127, xs_nil, Nat.reduceAdd, true_implies, not_true_eq_false, not_false_eq_true, false_implies, and_true, true_and, x_10, xs_iconst_0, xs_istore_n_2_i, xs_istore_n_2_a, xs_istore_n_2_n, xs_istore_n_2_l, xs_iconst_1, xs_istore_n_3_i, xs_istore_n_3_a, xs_istore_n_3_n, xs_istore_n_3_l, xs_istore_4_i, xs_istore_4_a, xs_istore_4_n, xs_istore_4_l, xs_iload_4, xs_iload_n_1, xs_icmp_gt, xs_iload_n_2, xs_aload_n_0, xs_if_ne, xs_goto, xs_iadd, xs_iload_n_3, xs_if_eq, xs_icmp_eq, xs_iinc_4_1_i, xs_iinc_4_1_a, xs_iinc_4_1_n, xs_icmp_ne, xs_ireturn]) ))
    refine ⟨fun q => ?_, fun q => absurd (nI_lt (by omega) (by omega)) q⟩
    have := fin (nI (k + 1))
    rw [← show k = n by omega] at this ⊢
    exact this
  | succ d ih =>
    intro k hk2
    have hin : xin (nI (k + 1)) (hs.map nI).length := x_in (by rw [hlen]; omega) (by rw [hlen]; decide)
    have ew : xg (hs.map nI) (nI (k + 1)) = nI (hs.getD (k + 1) 0) := xg_map (by rw [hk.1]; omega) (by rw [hk.1]; decide)
    have hq := hk.2 (k + 1)
    have e0 : (nI (hs.getD (k + 1) 0) = 0) = (hs.getD (k + 1) 0 = 0) := propext (nI_eq (b := 0) (by omega) (by omega))
    have e1 : (nI (hs.getD (k + 1) 0) = nI (k + 1)) = (hs.getD (k + 1) 0 = k + 1) := propext (nI_eq (by omega) (by omega))
    have ihT := ih (k + 1) (by omega)
    have eF : nfine hs (k + 1) = (nfine hs k && (!decide (hs.getD (k + 1) 0 = k + 1) && decide (ncome hs 0 7 (k + 1) = 0))) := rfl
    have eR : nI (nroots hs (k + 1)) = nI (nroots hs k) + (if hs.getD (k + 1) 0 = 0 then 1 else 0) := by
      show nI (nroots hs k + (if hs.getD (k + 1) 0 = 0 then 1 else 0)) = _
      split
      · exact (nI_1 _).symm
      · rw [Nat.add_zero, Int32.add_zero]
    rw [eF, eR] at ihT
    -- behind the roots' count
    have mid : x_EV 11 29 [some (.ref m), some (.int (nI n)), some (.int (nI (nroots hs k))), some (.int (if nfine hs k = true then 1 else 0)), some (.int (nI (k + 1)))] [.int (if hs.getD (k + 1) 0 = 0 then 1 else 0), .int (nI (nroots hs k))] h r h := by
      refine xe_X8_isTree_29 ?_
      (repeat (first | (simp only [xb_X8_isTree_0, xb_X8_isTree_7, xb_X8_isTree_28, xb_X8_isTree_29, xb_X8_isTree_61, xb_X8_isTree_62, xb_X8_isTree_69, xb_X8_isTree_72, xb_X8_isTree_101, xb_X8_isTree_105, xb_X8_isTree_106, xb_X8_isTree_113, xb_X8_isTree_126, xb_X8_isTree_127, xs_nil, Nat.reduceAdd, true_implies, not_true_eq_false, not_false_eq_true, false_implies, and_true, true_and, x_10, xs_iconst_0, xs_istore_n_2_i, xs_istore_n_2_a, xs_istore_n_2_n, xs_istore_n_2_l, xs_iconst_1, xs_istore_n_3_i, xs_istore_n_3_a, xs_istore_n_3_n, xs_istore_n_3_l, xs_istore_4_i, xs_istore_4_a, xs_istore_4_n, xs_istore_4_l, xs_iload_4, xs_iload_n_1, xs_icmp_gt, xs_iload_n_2, xs_aload_n_0, xs_if_ne, xs_goto, xs_iadd, xs_iload_n_3, xs_if_eq, xs_icmp_eq, xs_iinc_4_1_i, xs_iinc_4_1_a, xs_iinc_4_1_n, xs_icmp_ne, xs_ireturn]) ))
      refine ⟨fun q2 => ?_, fun q2 => ?_⟩
      · rw [x_ite0, Bool.not_eq_true] at q2
        refine xe_X8_isTree_61 ?_
        (repeat (first | (simp only [xb_X8_isTree_0, xb_X8_isTree_7, xb_X8_isTree_28, xb_X8_isTree_29, xb_X8_isTree_61, xb_X8_isTree_62, xb_X8_isTree_69, xb_X8_isTree_72, xb_X8_isTree_101, xb_X8_isTree_105, xb_X8_isTree_106, xb_X8_isTree_113, xb_X8_isTree_126, xb_X8_isTree_127, xs_nil, Nat.reduceAdd, true_implies, not_true_eq_false, not_false_eq_true, false_implies, and_true, true_and, x_10, xs_iconst_0, xs_istore_n_2_i, xs_istore_n_2_a, xs_istore_n_2_n, xs_istore_n_2_l, xs_iconst_1, xs_istore_n_3_i, xs_istore_n_3_a, xs_istore_n_3_n, xs_istore_n_3_l, xs_istore_4_i, xs_istore_4_a, xs_istore_4_n, xs_istore_4_l, xs_iload_4, xs_iload_n_1, xs_icmp_gt, xs_iload_n_2, xs_aload_n_0, xs_if_ne, xs_goto, xs_iadd, xs_iload_n_3, xs_if_eq, xs_icmp_eq, xs_iinc_4_1_i, xs_iinc_4_1_a, xs_iinc_4_1_n, xs_icmp_ne, xs_ireturn]) ))
        refine xe_X8_isTree_62 ?_
        (repeat (first | (simp only [xb_X8_isTree_0, xb_X8_isTree_7, xb_X8_isTree_28, xb_X8_isTree_29, xb_X8_isTree_61, xb_X8_isTree_62, xb_X8_isTree_69, xb_X8_isTree_72, xb_X8_isTree_101, xb_X8_isTree_105, xb_X8_isTree_106, xb_X8_isTree_113, xb_X8_isTree_126, xb_X8_isTree_127, xs_nil, Nat.reduceAdd, true_implies, not_true_eq_false, not_false_eq_true, false_implies, and_true, true_and, x_10, xs_iconst_0, xs_istore_n_2_i, xs_istore_n_2_a, xs_istore_n_2_n, xs_istore_n_2_l, xs_iconst_1, xs_istore_n_3_i, xs_istore_n_3_a, xs_istore_n_3_n, xs_istore_n_3_l, xs_istore_4_i, xs_istore_4_a, xs_istore_4_n, xs_istore_4_l, xs_iload_4, xs_iload_n_1, xs_icmp_gt, xs_iload_n_2, xs_aload_n_0, xs_if_ne, xs_goto, xs_iadd, xs_iload_n_3, xs_if_eq, xs_icmp_eq, xs_iinc_4_1_i, xs_iinc_4_1_a, xs_iinc_4_1_n, xs_icmp_ne, xs_ireturn]) ))
        rw [q2, Bool.false_and] at ihT
        rw [nI_1]
        exact ihT
      · rw [x_ite0, Classical.not_not] at q2
        rw [q2, Bool.true_and] at ihT
        (repeat (first | (simp only [xb_X8_isTree_0, xb_X8_isTree_7, xb_X8_isTree_28, xb_X8_isTree_29, xb_X8_isTree_61, xb_X8_isTree_62, xb_X8_isTree_69, xb_X8_isTree_72, xb_X8_isTree_101, xb_X8_isTree_105, xb_X8_isTree_106, xb_X8_isTree_113, xb_X8_isTree_126, xb_X8_isTree_127, xs_nil, Nat.reduceAdd, true_implies, not_true_eq_false, not_false_eq_true, false_implies, and_true, true_and, x_10, xs_iconst_0, xs_istore_n_2_i, xs_istore_n_2_a, xs_istore_n_2_n, xs_istore_n_2_l, xs_iconst_1, xs_istore_n_3_i, xs_istore_n_3_a, xs_istore_n_3_n, xs_istore_n_3_l, xs_istore_4_i, xs_istore_4_a, xs_istore_4_n, xs_istore_4_l, xs_iload_4, xs_iload_n_1, xs_icmp_gt, xs_iload_n_2, xs_aload_n_0, xs_if_ne, xs_goto, xs_iadd, xs_iload_n_3, xs_if_eq, xs_icmp_eq, xs_iinc_4_1_i, xs_iinc_4_1_a, xs_iinc_4_1_n, xs_icmp_ne, xs_ireturn]) | (refine xr_getf (hb 0 _ rfl) (by rfl) ?_) | (refine xr_iaload (hb 6 _ rfl) hin ?_)))
        rw [ew, e1]
        refine ⟨fun q3 => ?_, fun q3 => ?_⟩
        · refine xe_X8_isTree_61 ?_
          (repeat (first | (simp only [xb_X8_isTree_0, xb_X8_isTree_7, xb_X8_isTree_28, xb_X8_isTree_29, xb_X8_isTree_61, xb_X8_isTree_62, xb_X8_isTree_69, xb_X8_isTree_72, xb_X8_isTree_101, xb_X8_isTree_105, xb_X8_isTree_106, xb_X8_isTree_113, xb_X8_isTree_126, xb_X8_isTree_127, xs_nil, Nat.reduceAdd, true_implies, not_true_eq_false, not_false_eq_true, false_implies, and_true, true_and, x_10, xs_iconst_0, xs_istore_n_2_i, xs_istore_n_2_a, xs_istore_n_2_n, xs_istore_n_2_l, xs_iconst_1, xs_istore_n_3_i, xs_istore_n_3_a, xs_istore_n_3_n, xs_istore_n_3_l, xs_istore_4_i, xs_istore_4_a, xs_istore_4_n, xs_istore_4_l, xs_iload_4, xs_iload_n_1, xs_icmp_gt, xs_iload_n_2, xs_aload_n_0, xs_if_ne, xs_goto, xs_iadd, xs_iload_n_3, xs_if_eq, xs_icmp_eq, xs_iinc_4_1_i, xs_iinc_4_1_a, xs_iinc_4_1_n, xs_icmp_ne, xs_ireturn]) ))
          refine xe_X8_isTree_62 ?_
          (repeat (first | (simp only [xb_X8_isTree_0, xb_X8_isTree_7, xb_X8_isTree_28, xb_X8_isTree_29, xb_X8_isTree_61, xb_X8_isTree_62, xb_X8_isTree_69, xb_X8_isTree_72, xb_X8_isTree_101, xb_X8_isTree_105, xb_X8_isTree_106, xb_X8_isTree_113, xb_X8_isTree_126, xb_X8_isTree_127, xs_nil, Nat.reduceAdd, true_implies, not_true_eq_false, not_false_eq_true, false_implies, and_true, true_and, x_10, xs_iconst_0, xs_istore_n_2_i, xs_istore_n_2_a, xs_istore_n_2_n, xs_istore_n_2_l, xs_iconst_1, xs_istore_n_3_i, xs_istore_n_3_a, xs_istore_n_3_n, xs_istore_n_3_l, xs_istore_4_i, xs_istore_4_a, xs_istore_4_n, xs_istore_4_l, xs_iload_4, xs_iload_n_1, xs_icmp_gt, xs_iload_n_2, xs_aload_n_0, xs_if_ne, xs_goto, xs_iadd, xs_iload_n_3, xs_if_eq, xs_icmp_eq, xs_iinc_4_1_i, xs_iinc_4_1_a, xs_iinc_4_1_n, xs_icmp_ne, xs_ireturn]) ))
          rw [decide_eq_true q3] at ihT
          rw [nI_1]
          exact ihT
        · (repeat (first | (simp only [xb_X8_isTree_0, xb_X8_isTree_7, xb_X8_isTree_28, xb_X8_isTree_29, xb_X8_isTree_61, xb_X8_isTree_62, xb_X8_isTree_69, xb_X8_isTree_72, xb_X8_isTree_101, xb_X8_isTree_105, xb_X8_isTree_106, xb_X8_isTree_113, xb_X8_isTree_126, xb_X8_isTree_127, xs_nil, Nat.reduceAdd, true_implies, not_true_eq_false, not_false_eq_true, false_implies, and_true, true_and, x_10, xs_iconst_0, xs_istore_n_2_i, xs_istore_n_2_a, xs_istore_n_2_n, xs_istore_n_2_l, xs_iconst_1, xs_istore_n_3_i, xs_istore_n_3_a, xs_istore_n_3_n, xs_istore_n_3_l, xs_istore_4_i, xs_istore_4_a, xs_istore_4_n, xs_istore_4_l, xs_iload_4, xs_iload_n_1, xs_icmp_gt, xs_iload_n_2, xs_aload_n_0, xs_if_ne, xs_goto, xs_iadd, xs_iload_n_3, xs_if_eq, xs_icmp_eq, xs_iinc_4_1_i, xs_iinc_4_1_a, xs_iinc_4_1_n, xs_icmp_ne, xs_ireturn]) | refine xc_v3_1 (c_ncomesTo (t := 0) hb hk (by omega) (by omega)) (Nat.le_of_ble_eq_true rfl) ?_))
          rw [decide_eq_false q3, Bool.not_false, Bool.true_and] at ihT
          refine ⟨fun q4 => ?_, fun q4 => ?_⟩
          · refine xe_X8_isTree_61 ?_
            (repeat (first | (simp only [xb_X8_isTree_0, xb_X8_isTree_7, xb_X8_isTree_28, xb_X8_isTree_29, xb_X8_isTree_61, xb_X8_isTree_62, xb_X8_isTree_69, xb_X8_isTree_72, xb_X8_isTree_101, xb_X8_isTree_105, xb_X8_isTree_106, xb_X8_isTree_113, xb_X8_isTree_126, xb_X8_isTree_127, xs_nil, Nat.reduceAdd, true_implies, not_true_eq_false, not_false_eq_true, false_implies, and_true, true_and, x_10, xs_iconst_0, xs_istore_n_2_i, xs_istore_n_2_a, xs_istore_n_2_n, xs_istore_n_2_l, xs_iconst_1, xs_istore_n_3_i, xs_istore_n_3_a, xs_istore_n_3_n, xs_istore_n_3_l, xs_istore_4_i, xs_istore_4_a, xs_istore_4_n, xs_istore_4_l, xs_iload_4, xs_iload_n_1, xs_icmp_gt, xs_iload_n_2, xs_aload_n_0, xs_if_ne, xs_goto, xs_iadd, xs_iload_n_3, xs_if_eq, xs_icmp_eq, xs_iinc_4_1_i, xs_iinc_4_1_a, xs_iinc_4_1_n, xs_icmp_ne, xs_ireturn]) ))
            refine xe_X8_isTree_62 ?_
            (repeat (first | (simp only [xb_X8_isTree_0, xb_X8_isTree_7, xb_X8_isTree_28, xb_X8_isTree_29, xb_X8_isTree_61, xb_X8_isTree_62, xb_X8_isTree_69, xb_X8_isTree_72, xb_X8_isTree_101, xb_X8_isTree_105, xb_X8_isTree_106, xb_X8_isTree_113, xb_X8_isTree_126, xb_X8_isTree_127, xs_nil, Nat.reduceAdd, true_implies, not_true_eq_false, not_false_eq_true, false_implies, and_true, true_and, x_10, xs_iconst_0, xs_istore_n_2_i, xs_istore_n_2_a, xs_istore_n_2_n, xs_istore_n_2_l, xs_iconst_1, xs_istore_n_3_i, xs_istore_n_3_a, xs_istore_n_3_n, xs_istore_n_3_l, xs_istore_4_i, xs_istore_4_a, xs_istore_4_n, xs_istore_4_l, xs_iload_4, xs_iload_n_1, xs_icmp_gt, xs_iload_n_2, xs_aload_n_0, xs_if_ne, xs_goto, xs_iadd, xs_iload_n_3, xs_if_eq, xs_icmp_eq, xs_iinc_4_1_i, xs_iinc_4_1_a, xs_iinc_4_1_n, xs_icmp_ne, xs_ireturn]) ))
            rw [x_ite0] at q4
            rw [decide_eq_false q4] at ihT
            rw [nI_1]
            exact ihT
          · (repeat (first | (simp only [xb_X8_isTree_0, xb_X8_isTree_7, xb_X8_isTree_28, xb_X8_isTree_29, xb_X8_isTree_61, xb_X8_isTree_62, xb_X8_isTree_69, xb_X8_isTree_72, xb_X8_isTree_101, xb_X8_isTree_105, xb_X8_isTree_106, xb_X8_isTree_113, xb_X8_isTree_126, xb_X8_isTree_127, xs_nil, Nat.reduceAdd, true_implies, not_true_eq_false, not_false_eq_true, false_implies, and_true, true_and, x_10, xs_iconst_0, xs_istore_n_2_i, xs_istore_n_2_a, xs_istore_n_2_n, xs_istore_n_2_l, xs_iconst_1, xs_istore_n_3_i, xs_istore_n_3_a, xs_istore_n_3_n, xs_istore_n_3_l, xs_istore_4_i, xs_istore_4_a, xs_istore_4_n, xs_istore_4_l, xs_iload_4, xs_iload_n_1, xs_icmp_gt, xs_iload_n_2, xs_aload_n_0, xs_if_ne, xs_goto, xs_iadd, xs_iload_n_3, xs_if_eq, xs_icmp_eq, xs_iinc_4_1_i, xs_iinc_4_1_a, xs_iinc_4_1_n, xs_icmp_ne, xs_ireturn]) ))
            refine xe_X8_isTree_62 ?_
            (repeat (first | (simp only [xb_X8_isTree_0, xb_X8_isTree_7, xb_X8_isTree_28, xb_X8_isTree_29, xb_X8_isTree_61, xb_X8_isTree_62, xb_X8_isTree_69, xb_X8_isTree_72, xb_X8_isTree_101, xb_X8_isTree_105, xb_X8_isTree_106, xb_X8_isTree_113, xb_X8_isTree_126, xb_X8_isTree_127, xs_nil, Nat.reduceAdd, true_implies, not_true_eq_false, not_false_eq_true, false_implies, and_true, true_and, x_10, xs_iconst_0, xs_istore_n_2_i, xs_istore_n_2_a, xs_istore_n_2_n, xs_istore_n_2_l, xs_iconst_1, xs_istore_n_3_i, xs_istore_n_3_a, xs_istore_n_3_n, xs_istore_n_3_l, xs_istore_4_i, xs_istore_4_a, xs_istore_4_n, xs_istore_4_l, xs_iload_4, xs_iload_n_1, xs_icmp_gt, xs_iload_n_2, xs_aload_n_0, xs_if_ne, xs_goto, xs_iadd, xs_iload_n_3, xs_if_eq, xs_icmp_eq, xs_iinc_4_1_i, xs_iinc_4_1_a, xs_iinc_4_1_n, xs_icmp_ne, xs_ireturn]) ))
            rw [x_ite0, Classical.not_not] at q4
            rw [decide_eq_true q4] at ihT
            rw [nI_1]
            exact ihT
    refine xe_X8_isTree_7 ?_
    (repeat (first | (simp only [xb_X8_isTree_0, xb_X8_isTree_7, xb_X8_isTree_28, xb_X8_isTree_29, xb_X8_isTree_61, xb_X8_isTree_62, xb_X8_isTree_69, xb_X8_isTree_72, xb_X8_isTree_101, xb_X8_isTree_105, xb_X8_isTree_106, xb_X8_isTree_113, xb_X8_isTree_126, xb_X8_isTree_127, xs_nil, Nat.reduceAdd, true_implies, not_true_eq_false, not_false_eq_true, false_implies, and_true, true_and, x_10, xs_iconst_0, xs_istore_n_2_i, xs_istore_n_2_a, xs_istore_n_2_n, xs_istore_n_2_l, xs_iconst_1, xs_istore_n_3_i, xs_istore_n_3_a, xs_istore_n_3_n, xs_istore_n_3_l, xs_istore_4_i, xs_istore_4_a, xs_istore_4_n, xs_istore_4_l, xs_iload_4, xs_iload_n_1, xs_icmp_gt, xs_iload_n_2, xs_aload_n_0, xs_if_ne, xs_goto, xs_iadd, xs_iload_n_3, xs_if_eq, xs_icmp_eq, xs_iinc_4_1_i, xs_iinc_4_1_a, xs_iinc_4_1_n, xs_icmp_ne, xs_ireturn]) ))
    refine ⟨fun q => absurd q (nI_nlt (by omega) (by omega)), fun q => ?_⟩
    (repeat (first | (simp only [xb_X8_isTree_0, xb_X8_isTree_7, xb_X8_isTree_28, xb_X8_isTree_29, xb_X8_isTree_61, xb_X8_isTree_62, xb_X8_isTree_69, xb_X8_isTree_72, xb_X8_isTree_101, xb_X8_isTree_105, xb_X8_isTree_106, xb_X8_isTree_113, xb_X8_isTree_126, xb_X8_isTree_127, xs_nil, Nat.reduceAdd, true_implies, not_true_eq_false, not_false_eq_true, false_implies, and_true, true_and, x_10, xs_iconst_0, xs_istore_n_2_i, xs_istore_n_2_a, xs_istore_n_2_n, xs_istore_n_2_l, xs_iconst_1, xs_istore_n_3_i, xs_istore_n_3_a, xs_istore_n_3_n, xs_istore_n_3_l, xs_istore_4_i, xs_istore_4_a, xs_istore_4_n, xs_istore_4_l, xs_iload_4, xs_iload_n_1, xs_icmp_gt, xs_iload_n_2, xs_aload_n_0, xs_if_ne, xs_goto, xs_iadd, xs_iload_n_3, xs_if_eq, xs_icmp_eq, xs_iinc_4_1_i, xs_iinc_4_1_a, xs_iinc_4_1_n, xs_icmp_ne, xs_ireturn]) | (refine xr_getf (hb 0 _ rfl) (by rfl) ?_) | (refine xr_iaload (hb 6 _ rfl) hin ?_)))
    rw [ew, e0]
    refine ⟨fun q3 => ?_, fun q3 => ?_⟩
    · refine xe_X8_isTree_28 ?_
      (repeat (first | (simp only [xb_X8_isTree_0, xb_X8_isTree_7, xb_X8_isTree_28, xb_X8_isTree_29, xb_X8_isTree_61, xb_X8_isTree_62, xb_X8_isTree_69, xb_X8_isTree_72, xb_X8_isTree_101, xb_X8_isTree_105, xb_X8_isTree_106, xb_X8_isTree_113, xb_X8_isTree_126, xb_X8_isTree_127, xs_nil, Nat.reduceAdd, true_implies, not_true_eq_false, not_false_eq_true, false_implies, and_true, true_and, x_10, xs_iconst_0, xs_istore_n_2_i, xs_istore_n_2_a, xs_istore_n_2_n, xs_istore_n_2_l, xs_iconst_1, xs_istore_n_3_i, xs_istore_n_3_a, xs_istore_n_3_n, xs_istore_n_3_l, xs_istore_4_i, xs_istore_4_a, xs_istore_4_n, xs_istore_4_l, xs_iload_4, xs_iload_n_1, xs_icmp_gt, xs_iload_n_2, xs_aload_n_0, xs_if_ne, xs_goto, xs_iadd, xs_iload_n_3, xs_if_eq, xs_icmp_eq, xs_iinc_4_1_i, xs_iinc_4_1_a, xs_iinc_4_1_n, xs_icmp_ne, xs_ireturn]) ))
      rw [if_neg q3] at mid
      exact mid
    · rw [Classical.not_not] at q3
      (repeat (first | (simp only [xb_X8_isTree_0, xb_X8_isTree_7, xb_X8_isTree_28, xb_X8_isTree_29, xb_X8_isTree_61, xb_X8_isTree_62, xb_X8_isTree_69, xb_X8_isTree_72, xb_X8_isTree_101, xb_X8_isTree_105, xb_X8_isTree_106, xb_X8_isTree_113, xb_X8_isTree_126, xb_X8_isTree_127, xs_nil, Nat.reduceAdd, true_implies, not_true_eq_false, not_false_eq_true, false_implies, and_true, true_and, x_10, xs_iconst_0, xs_istore_n_2_i, xs_istore_n_2_a, xs_istore_n_2_n, xs_istore_n_2_l, xs_iconst_1, xs_istore_n_3_i, xs_istore_n_3_a, xs_istore_n_3_n, xs_istore_n_3_l, xs_istore_4_i, xs_istore_4_a, xs_istore_4_n, xs_istore_4_l, xs_iload_4, xs_iload_n_1, xs_icmp_gt, xs_iload_n_2, xs_aload_n_0, xs_if_ne, xs_goto, xs_iadd, xs_iload_n_3, xs_if_eq, xs_icmp_eq, xs_iinc_4_1_i, xs_iinc_4_1_a, xs_iinc_4_1_n, xs_icmp_ne, xs_ireturn]) ))
      rw [if_pos q3] at mid
      exact mid
theorem c_isTree (hb : x_hb h m (x_mc m nw asd pa sts rf tx byt (hs.map nI) rd so ah ar tr bg fo bc br bk le fr nu od sp wr ha)) (hk : nok hs) (hn : n < 7) : xK 11 [.ref m, .int (nI n)] h (some (.int (if ntree hs n = true then 1 else 0))) h := by
  have hr := nroots_le hs n
  have e1 : (nI (nroots hs n) = 1) = (nroots hs n = 1) := propext (nI_eq (b := 1) (by omega) (by omega))
  refine xK_X8_isTree (hb 0 _ rfl) (xe_X8_isTree_0 ?_)
  (repeat (first | (simp only [xb_X8_isTree_0, xb_X8_isTree_7, xb_X8_isTree_28, xb_X8_isTree_29, xb_X8_isTree_61, xb_X8_isTree_62, xb_X8_isTree_69, xb_X8_isTree_72, xb_X8_isTree_101, xb_X8_isTree_105, xb_X8_isTree_106, xb_X8_isTree_113, xb_X8_isTree_126, xb_X8_isTree_127, xs_nil, Nat.reduceAdd, true_implies, not_true_eq_false, not_false_eq_true, false_implies, and_true, true_and, x_10, xs_iconst_0, xs_istore_n_2_i, xs_istore_n_2_a, xs_istore_n_2_n, xs_istore_n_2_l, xs_iconst_1, xs_istore_n_3_i, xs_istore_n_3_a, xs_istore_n_3_n, xs_istore_n_3_l, xs_istore_4_i, xs_istore_4_a, xs_istore_4_n, xs_istore_4_l, xs_iload_4, xs_iload_n_1, xs_icmp_gt, xs_iload_n_2, xs_aload_n_0, xs_if_ne, xs_goto, xs_iadd, xs_iload_n_3, xs_if_eq, xs_icmp_eq, xs_iinc_4_1_i, xs_iinc_4_1_a, xs_iinc_4_1_n, xs_icmp_ne, xs_ireturn]) ))
  refine l_isTree1 hb hk hn (fun x4 => ?_) n 0 (by omega)
  refine xe_X8_isTree_69 ?_
  (repeat (first | (simp only [xb_X8_isTree_0, xb_X8_isTree_7, xb_X8_isTree_28, xb_X8_isTree_29, xb_X8_isTree_61, xb_X8_isTree_62, xb_X8_isTree_69, xb_X8_isTree_72, xb_X8_isTree_101, xb_X8_isTree_105, xb_X8_isTree_106, xb_X8_isTree_113, xb_X8_isTree_126, xb_X8_isTree_127, xs_nil, Nat.reduceAdd, true_implies, not_true_eq_false, not_false_eq_true, false_implies, and_true, true_and, x_10, xs_iconst_0, xs_istore_n_2_i, xs_istore_n_2_a, xs_istore_n_2_n, xs_istore_n_2_l, xs_iconst_1, xs_istore_n_3_i, xs_istore_n_3_a, xs_istore_n_3_n, xs_istore_n_3_l, xs_istore_4_i, xs_istore_4_a, xs_istore_4_n, xs_istore_4_l, xs_iload_4, xs_iload_n_1, xs_icmp_gt, xs_iload_n_2, xs_aload_n_0, xs_if_ne, xs_goto, xs_iadd, xs_iload_n_3, xs_if_eq, xs_icmp_eq, xs_iinc_4_1_i, xs_iinc_4_1_a, xs_iinc_4_1_n, xs_icmp_ne, xs_ireturn]) ))
  have := l_isTree2 (x1 := if ntree hs n = true then 1 else 0) (R := nI (nroots hs n)) (F := nfine hs n) hb hk hn (fun x4 => ?_) n 0 (by omega)
  · have e2 : (nfine hs n && nspan hs 0) = nfine hs n := Bool.and_true _
    rw [e2] at this
    exact this
  · unfold ntree
    refine xe_X8_isTree_113 ?_
    (repeat (first | (simp only [xb_X8_isTree_0, xb_X8_isTree_7, xb_X8_isTree_28, xb_X8_isTree_29, xb_X8_isTree_61, xb_X8_isTree_62, xb_X8_isTree_69, xb_X8_isTree_72, xb_X8_isTree_101, xb_X8_isTree_105, xb_X8_isTree_106, xb_X8_isTree_113, xb_X8_isTree_126, xb_X8_isTree_127, xs_nil, Nat.reduceAdd, true_implies, not_true_eq_false, not_false_eq_true, false_implies, and_true, true_and, x_10, xs_iconst_0, xs_istore_n_2_i, xs_istore_n_2_a, xs_istore_n_2_n, xs_istore_n_2_l, xs_iconst_1, xs_istore_n_3_i, xs_istore_n_3_a, xs_istore_n_3_n, xs_istore_n_3_l, xs_istore_4_i, xs_istore_4_a, xs_istore_4_n, xs_istore_4_l, xs_iload_4, xs_iload_n_1, xs_icmp_gt, xs_iload_n_2, xs_aload_n_0, xs_if_ne, xs_goto, xs_iadd, xs_iload_n_3, xs_if_eq, xs_icmp_eq, xs_iinc_4_1_i, xs_iinc_4_1_a, xs_iinc_4_1_n, xs_icmp_ne, xs_ireturn]) ))
    rw [e1]
    refine ⟨fun q => ?_, fun q => ⟨fun q2 => ?_, fun q2 => ?_⟩⟩
    · rw [x_ite0, Bool.not_eq_true] at q
      refine xe_X8_isTree_126 ?_
      (repeat (first | (simp only [xb_X8_isTree_0, xb_X8_isTree_7, xb_X8_isTree_28, xb_X8_isTree_29, xb_X8_isTree_61, xb_X8_isTree_62, xb_X8_isTree_69, xb_X8_isTree_72, xb_X8_isTree_101, xb_X8_isTree_105, xb_X8_isTree_106, xb_X8_isTree_113, xb_X8_isTree_126, xb_X8_isTree_127, xs_nil, Nat.reduceAdd, true_implies, not_true_eq_false, not_false_eq_true, false_implies, and_true, true_and, x_10, xs_iconst_0, xs_istore_n_2_i, xs_istore_n_2_a, xs_istore_n_2_n, xs_istore_n_2_l, xs_iconst_1, xs_istore_n_3_i, xs_istore_n_3_a, xs_istore_n_3_n, xs_istore_n_3_l, xs_istore_4_i, xs_istore_4_a, xs_istore_4_n, xs_istore_4_l, xs_iload_4, xs_iload_n_1, xs_icmp_gt, xs_iload_n_2, xs_aload_n_0, xs_if_ne, xs_goto, xs_iadd, xs_iload_n_3, xs_if_eq, xs_icmp_eq, xs_iinc_4_1_i, xs_iinc_4_1_a, xs_iinc_4_1_n, xs_icmp_ne, xs_ireturn]) ))
      refine xe_X8_isTree_127 ?_
      (repeat (first | (simp only [xb_X8_isTree_0, xb_X8_isTree_7, xb_X8_isTree_28, xb_X8_isTree_29, xb_X8_isTree_61, xb_X8_isTree_62, xb_X8_isTree_69, xb_X8_isTree_72, xb_X8_isTree_101, xb_X8_isTree_105, xb_X8_isTree_106, xb_X8_isTree_113, xb_X8_isTree_126, xb_X8_isTree_127, xs_nil, Nat.reduceAdd, true_implies, not_true_eq_false, not_false_eq_true, false_implies, and_true, true_and, x_10, xs_iconst_0, xs_istore_n_2_i, xs_istore_n_2_a, xs_istore_n_2_n, xs_istore_n_2_l, xs_iconst_1, xs_istore_n_3_i, xs_istore_n_3_a, xs_istore_n_3_n, xs_istore_n_3_l, xs_istore_4_i, xs_istore_4_a, xs_istore_4_n, xs_istore_4_l, xs_iload_4, xs_iload_n_1, xs_icmp_gt, xs_iload_n_2, xs_aload_n_0, xs_if_ne, xs_goto, xs_iadd, xs_iload_n_3, xs_if_eq, xs_icmp_eq, xs_iinc_4_1_i, xs_iinc_4_1_a, xs_iinc_4_1_n, xs_icmp_ne, xs_ireturn]) ))
      rw [q]
      simp
    · refine xe_X8_isTree_126 ?_
      (repeat (first | (simp only [xb_X8_isTree_0, xb_X8_isTree_7, xb_X8_isTree_28, xb_X8_isTree_29, xb_X8_isTree_61, xb_X8_isTree_62, xb_X8_isTree_69, xb_X8_isTree_72, xb_X8_isTree_101, xb_X8_isTree_105, xb_X8_isTree_106, xb_X8_isTree_113, xb_X8_isTree_126, xb_X8_isTree_127, xs_nil, Nat.reduceAdd, true_implies, not_true_eq_false, not_false_eq_true, false_implies, and_true, true_and, x_10, xs_iconst_0, xs_istore_n_2_i, xs_istore_n_2_a, xs_istore_n_2_n, xs_istore_n_2_l, xs_iconst_1, xs_istore_n_3_i, xs_istore_n_3_a, xs_istore_n_3_n, xs_istore_n_3_l, xs_istore_4_i, xs_istore_4_a, xs_istore_4_n, xs_istore_4_l, xs_iload_4, xs_iload_n_1, xs_icmp_gt, xs_iload_n_2, xs_aload_n_0, xs_if_ne, xs_goto, xs_iadd, xs_iload_n_3, xs_if_eq, xs_icmp_eq, xs_iinc_4_1_i, xs_iinc_4_1_a, xs_iinc_4_1_n, xs_icmp_ne, xs_ireturn]) ))
      refine xe_X8_isTree_127 ?_
      (repeat (first | (simp only [xb_X8_isTree_0, xb_X8_isTree_7, xb_X8_isTree_28, xb_X8_isTree_29, xb_X8_isTree_61, xb_X8_isTree_62, xb_X8_isTree_69, xb_X8_isTree_72, xb_X8_isTree_101, xb_X8_isTree_105, xb_X8_isTree_106, xb_X8_isTree_113, xb_X8_isTree_126, xb_X8_isTree_127, xs_nil, Nat.reduceAdd, true_implies, not_true_eq_false, not_false_eq_true, false_implies, and_true, true_and, x_10, xs_iconst_0, xs_istore_n_2_i, xs_istore_n_2_a, xs_istore_n_2_n, xs_istore_n_2_l, xs_iconst_1, xs_istore_n_3_i, xs_istore_n_3_a, xs_istore_n_3_n, xs_istore_n_3_l, xs_istore_4_i, xs_istore_4_a, xs_istore_4_n, xs_istore_4_l, xs_iload_4, xs_iload_n_1, xs_icmp_gt, xs_iload_n_2, xs_aload_n_0, xs_if_ne, xs_goto, xs_iadd, xs_iload_n_3, xs_if_eq, xs_icmp_eq, xs_iinc_4_1_i, xs_iinc_4_1_a, xs_iinc_4_1_n, xs_icmp_ne, xs_ireturn]) ))
      simp [q2]
    · rw [x_ite0, Classical.not_not] at q
      rw [Classical.not_not] at q2
      refine xe_X8_isTree_127 ?_
      (repeat (first | (simp only [xb_X8_isTree_0, xb_X8_isTree_7, xb_X8_isTree_28, xb_X8_isTree_29, xb_X8_isTree_61, xb_X8_isTree_62, xb_X8_isTree_69, xb_X8_isTree_72, xb_X8_isTree_101, xb_X8_isTree_105, xb_X8_isTree_106, xb_X8_isTree_113, xb_X8_isTree_126, xb_X8_isTree_127, xs_nil, Nat.reduceAdd, true_implies, not_true_eq_false, not_false_eq_true, false_implies, and_true, true_and, x_10, xs_iconst_0, xs_istore_n_2_i, xs_istore_n_2_a, xs_istore_n_2_n, xs_istore_n_2_l, xs_iconst_1, xs_istore_n_3_i, xs_istore_n_3_a, xs_istore_n_3_n, xs_istore_n_3_l, xs_istore_4_i, xs_istore_4_a, xs_istore_4_n, xs_istore_4_l, xs_iload_4, xs_iload_n_1, xs_icmp_gt, xs_iload_n_2, xs_aload_n_0, xs_if_ne, xs_goto, xs_iadd, xs_iload_n_3, xs_if_eq, xs_icmp_eq, xs_iinc_4_1_i, xs_iinc_4_1_a, xs_iinc_4_1_n, xs_icmp_ne, xs_ireturn]) ))
      rw [q]
      simp [q2]
end MO4
