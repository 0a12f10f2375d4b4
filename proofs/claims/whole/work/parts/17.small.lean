/-! small methods: tests of numbers -/
theorem c_isBelow {x1 x2 : Int32} {h : xH} : xK 14 [.int x1, .int x2] h (some (.int (if 0 ≤ x1 ∧ x1 < x2 then 1 else 0))) h := by
  refine xK_X7_isBelow ?_
  (repeat' (first | (simp only [xb_X7_isBelow_0, xb_X7_isBelow_13, xb_X7_isBelow_14, xs_nil, Nat.reduceAdd, true_implies, not_true_eq_false, not_false_eq_true, false_implies, and_true, true_and, x_10, xs_iload_n_0, xs_if_lt, xs_iload_n_1, xs_icmp_ge, xs_iconst_1, xs_goto, xs_iconst_0, xs_ireturn]) | (refine ⟨fun _ => ?_, fun _ => ?_⟩) | refine xe_X7_isBelow_0 ?_ | refine xe_X7_isBelow_13 ?_ | refine xe_X7_isBelow_14 ?_ ))
  all_goals (first | (simp_all [x_bit, x_ite0, Int32.not_lt, Int32.not_le]; done) | ((try simp only [x_ite0] at *) <;> simp [x_bit, Int32.lt_iff_toInt_lt, Int32.le_iff_toInt_le] at * <;> omega))
theorem c_isPriceOrNone {x1 : Int32} {h : xH} : xK 16 [.int x1] h (some (.int (if -1 ≤ x1 ∧ x1 ≤ 9 then 1 else 0))) h := by
  refine xK_X7_isPriceOrNone ?_
  (repeat' (first | (simp only [xb_X7_isPriceOrNone_0, xb_X7_isPriceOrNone_15, xb_X7_isPriceOrNone_16, xs_nil, Nat.reduceAdd, true_implies, not_true_eq_false, not_false_eq_true, false_implies, and_true, true_and, x_10, xs_iload_n_0, xs_iconst_m1, xs_icmp_lt, xs_bipush_9, xs_icmp_gt, xs_iconst_1, xs_goto, xs_iconst_0, xs_ireturn]) | (refine ⟨fun _ => ?_, fun _ => ?_⟩) | refine xe_X7_isPriceOrNone_0 ?_ | refine xe_X7_isPriceOrNone_15 ?_ | refine xe_X7_isPriceOrNone_16 ?_ ))
  all_goals (first | (simp_all [x_bit, x_ite0, Int32.not_lt, Int32.not_le]; done) | ((try simp only [x_ite0] at *) <;> simp [x_bit, Int32.lt_iff_toInt_lt, Int32.le_iff_toInt_le] at * <;> omega))
theorem c_in {x1 x2 x3 : Int32} {h : xH} : xK 25 [.int x1, .int x2, .int x3] h (some (.int (if x2 ≤ x1 ∧ x1 ≤ x3 then 1 else 0))) h := by
  refine xK_X8_in ?_
  (repeat' (first | (simp only [xb_X8_in_0, xb_X8_in_14, xb_X8_in_15, xs_nil, Nat.reduceAdd, true_implies, not_true_eq_false, not_false_eq_true, false_implies, and_true, true_and, x_10, xs_iload_n_0, xs_iload_n_1, xs_icmp_lt, xs_iload_n_2, xs_icmp_gt, xs_iconst_1, xs_goto, xs_iconst_0, xs_ireturn]) | (refine ⟨fun _ => ?_, fun _ => ?_⟩) | refine xe_X8_in_0 ?_ | refine xe_X8_in_14 ?_ | refine xe_X8_in_15 ?_ ))
  all_goals (first | (simp_all [x_bit, x_ite0, Int32.not_lt, Int32.not_le]; done) | ((try simp only [x_ite0] at *) <;> simp [x_bit, Int32.lt_iff_toInt_lt, Int32.le_iff_toInt_le] at * <;> omega))
theorem c_ruleAt {x1 x2 x3 : Int32} {h : xH} : xK 31 [.int x1, .int x2, .int x3] h (some (.int (0 + 12 * x1 + 2 * x2 + x3))) h := by
  refine xK_X8_ruleAt ?_
  (repeat' (first | (simp only [xb_X8_ruleAt_0, xs_nil, Nat.reduceAdd, true_implies, not_true_eq_false, not_false_eq_true, false_implies, and_true, true_and, x_10, xs_iconst_0, xs_bipush_12, xs_iload_n_0, xs_imul, xs_iadd, xs_iconst_2, xs_iload_n_1, xs_iload_n_2, xs_ireturn]) | (refine ⟨fun _ => ?_, fun _ => ?_⟩) | refine xe_X8_ruleAt_0 ?_ ))
  all_goals simp
theorem c_spanPlace {x1 x2 x3 x4 : Int32} {h : xH} : xK 4 [.int x1, .int x2, .int x3, .int x4] h (some (.int (((x1 * 8 + x2) * 8 + x3) * 2 + x4))) h := by
  refine xK_X0_spanPlace ?_
  (repeat' (first | (simp only [xb_X0_spanPlace_0, xs_nil, Nat.reduceAdd, true_implies, not_true_eq_false, not_false_eq_true, false_implies, and_true, true_and, x_10, xs_iload_n_0, xs_bipush_8, xs_imul, xs_iload_n_1, xs_iadd, xs_iload_n_2, xs_iconst_2, xs_iload_n_3, xs_ireturn]) | (refine ⟨fun _ => ?_, fun _ => ?_⟩) | refine xe_X0_spanPlace_0 ?_ ))
  all_goals (first | (simp_all [x_bit, x_ite0, Int32.not_lt, Int32.not_le]; done) | ((try simp only [x_ite0] at *) <;> simp [x_bit, Int32.lt_iff_toInt_lt, Int32.le_iff_toInt_le] at * <;> omega))
theorem c_linkPlace {x1 x2 x3 x4 : Int32} {h : xH} : xK 65 [.int x1, .int x2, .int x3, .int x4] h (some (.int (((x1 * 2 + x2) * 8 + x3) * 2 + x4))) h := by
  refine xK_X0_linkPlace ?_
  (repeat' (first | (simp only [xb_X0_linkPlace_0, xs_nil, Nat.reduceAdd, true_implies, not_true_eq_false, not_false_eq_true, false_implies, and_true, true_and, x_10, xs_iload_n_0, xs_iconst_2, xs_imul, xs_iload_n_1, xs_iadd, xs_bipush_8, xs_iload_n_2, xs_iload_n_3, xs_ireturn]) | (refine ⟨fun _ => ?_, fun _ => ?_⟩) | refine xe_X0_linkPlace_0 ?_ ))
  all_goals (first | (simp_all [x_bit, x_ite0, Int32.not_lt, Int32.not_le]; done) | ((try simp only [x_ite0] at *) <;> simp [x_bit, Int32.lt_iff_toInt_lt, Int32.le_iff_toInt_le] at * <;> omega))
theorem c_part {x1 x2 x3 : Int32} {h : xH} : xK 63 [.int x1, .int x2, .int x3] h (some (.int (((x2 <<< 3) ||| x3) <<< ((4 * (6 - x1)) &&& 31)))) h := by
  refine xK_X2_part ?_
  (repeat' (first | (simp only [xb_X2_part_0, xs_nil, Nat.reduceAdd, true_implies, not_true_eq_false, not_false_eq_true, false_implies, and_true, true_and, x_10, xs_iload_n_1, xs_iconst_3, xs_ishl, xs_iload_n_2, xs_ior, xs_iconst_4, xs_bipush_6, xs_iload_n_0, xs_isub, xs_imul, xs_ireturn]) | (refine ⟨fun _ => ?_, fun _ => ?_⟩) | refine xe_X2_part_0 ?_ ))
  have e : (3 : Int32) &&& 31 = 3 := by decide
  simp [e]
theorem c_headOf {x1 x2 : Int32} {h : xH} : xK 60 [.int x1, .int x2] h (some (.int ((x1 >>> ((4 * (6 - x2)) &&& 31)) &&& 7))) h := by
  refine xK_X2_headOf ?_
  (repeat' (first | (simp only [xb_X2_headOf_0, xs_nil, Nat.reduceAdd, true_implies, not_true_eq_false, not_false_eq_true, false_implies, and_true, true_and, x_10, xs_iload_n_0, xs_iconst_4, xs_bipush_6, xs_iload_n_1, xs_isub, xs_imul, xs_ishr, xs_bipush_7, xs_iand, xs_ireturn]) | (refine ⟨fun _ => ?_, fun _ => ?_⟩) | refine xe_X2_headOf_0 ?_ ))
  all_goals (first | (simp_all [x_bit, x_ite0, Int32.not_lt, Int32.not_le]; done) | ((try simp only [x_ite0] at *) <;> simp [x_bit, Int32.lt_iff_toInt_lt, Int32.le_iff_toInt_le] at * <;> omega))
theorem c_readingOf {x1 x2 : Int32} {h : xH} : xK 61 [.int x1, .int x2] h (some (.int ((x1 >>> ((4 * (6 - x2) + 3) &&& 31)) &&& 1))) h := by
  refine xK_X2_readingOf ?_
  (repeat' (first | (simp only [xb_X2_readingOf_0, xs_nil, Nat.reduceAdd, true_implies, not_true_eq_false, not_false_eq_true, false_implies, and_true, true_and, x_10, xs_iload_n_0, xs_iconst_4, xs_bipush_6, xs_iload_n_1, xs_isub, xs_imul, xs_iconst_3, xs_iadd, xs_ishr, xs_iconst_1, xs_iand, xs_ireturn]) | (refine ⟨fun _ => ?_, fun _ => ?_⟩) | refine xe_X2_readingOf_0 ?_ ))
  all_goals (first | (simp_all [x_bit, x_ite0, Int32.not_lt, Int32.not_le]; done) | ((try simp only [x_ite0] at *) <;> simp [x_bit, Int32.lt_iff_toInt_lt, Int32.le_iff_toInt_le] at * <;> omega))
theorem c_wordAt {o : Nat} {x1 : Int32} {h : xH} {fs : List Value} (ho : h[o]? = some (.inr (7, fs))) : xK 81 [.ref o, .int x1] h (some (.int (119 + 5 * (x1 - 1)))) h := by
  refine xK_X8_wordAt ho ?_
  (repeat' (first | (simp only [xb_X8_wordAt_0, xs_nil, Nat.reduceAdd, true_implies, not_true_eq_false, not_false_eq_true, false_implies, and_true, true_and, x_10, xs_bipush_119, xs_iconst_5, xs_iload_n_1, xs_iconst_1, xs_isub, xs_imul, xs_iadd, xs_ireturn]) | (refine ⟨fun _ => ?_, fun _ => ?_⟩) | refine xe_X8_wordAt_0 ?_ ))
  all_goals (first | (simp_all [x_bit, x_ite0, Int32.not_lt, Int32.not_le]; done) | ((try simp only [x_ite0] at *) <;> simp [x_bit, Int32.lt_iff_toInt_lt, Int32.le_iff_toInt_le] at * <;> omega))
theorem c_isRulePlace {x1 x2 x3 : Int32} {h : xH} : xK 15 [.int x1, .int x2, .int x3] h (some (.int (if (0 ≤ x1 ∧ x1 < 6) ∧ (0 ≤ x2 ∧ x2 < 6) ∧ 0 ≤ x3 ∧ x3 < 2 then 1 else 0))) h := by
  refine xK_X7_isRulePlace ?_
  (repeat' (first | (simp only [xb_X7_isRulePlace_0, xb_X7_isRulePlace_30, xb_X7_isRulePlace_31, xs_nil, Nat.reduceAdd, true_implies, not_true_eq_false, not_false_eq_true, false_implies, and_true, true_and, x_10, xs_iload_n_0, xs_bipush_6, xs_if_eq, xs_iload_n_1, xs_iload_n_2, xs_iconst_2, xs_iconst_1, xs_goto, xs_iconst_0, xs_ireturn]) | (refine ⟨fun _ => ?_, fun _ => ?_⟩) | refine xe_X7_isRulePlace_0 ?_ | refine xe_X7_isRulePlace_30 ?_ | refine xe_X7_isRulePlace_31 ?_ | refine xc_s2_1 (by decide) (c_isBelow) (Nat.le_of_ble_eq_true rfl) ?_))
  all_goals (first | (simp_all [x_bit, x_ite0, Int32.not_lt, Int32.not_le]; done) | ((try simp only [x_ite0] at *) <;> simp [x_bit, Int32.lt_iff_toInt_lt, Int32.le_iff_toInt_le] at * <;> omega))
