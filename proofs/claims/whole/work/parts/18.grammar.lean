/-! Grammar -/
/-- the cells of a Grammar: prices, root prices, sorts, extras, settings, how many entries -/
def x_gc (g : Nat) (P R S X T : List Int32) (ec : Int32) : List xE := [.inr (1, [.ref (g + 1), .ref (g + 2), .ref (g + 3), .ref (g + 4), .ref (g + 5), .int ec]), xi P, xi R, xi S, xi X, xi T]
section GR
variable {g : Nat} {P R S X T : List Int32} {ec x1 x2 x3 x4 : Int32} {h : xH}
theorem c_price (hb : x_hb h g (x_gc g P R S X T ec)) (hi : xin ((x1 * 6 + x2) * 2 + x3) P.length) : xK 48 [.ref g, .int x1, .int x2, .int x3] h (some (.int (xg P ((x1 * 6 + x2) * 2 + x3)))) h := by
  refine xK_X1_price (hb 0 _ rfl) ?_
  (repeat' (first | (simp only [xb_X1_price_0, xs_nil, Nat.reduceAdd, true_implies, not_true_eq_false, not_false_eq_true, false_implies, and_true, true_and, x_10, xs_aload_n_0, xs_iload_n_1, xs_bipush_6, xs_imul, xs_iload_n_2, xs_iadd, xs_iconst_2, xs_iload_n_3, xs_ireturn]) | (refine ⟨fun _ => ?_, fun _ => ?_⟩) | refine xe_X1_price_0 ?_ | (refine xr_getf (hb 0 _ rfl) rfl ?_) | (refine xr_iaload (hb 1 _ rfl) hi ?_)))
  all_goals simp
theorem c_sortOf (hb : x_hb h g (x_gc g P R S X T ec)) (hi : xin (x1 * 2 + x2) S.length) : xK 52 [.ref g, .int x1, .int x2] h (some (.int (xg S (x1 * 2 + x2)))) h := by
  refine xK_X1_sortOf (hb 0 _ rfl) ?_
  (repeat' (first | (simp only [xb_X1_sortOf_0, xs_nil, Nat.reduceAdd, true_implies, not_true_eq_false, not_false_eq_true, false_implies, and_true, true_and, x_10, xs_aload_n_0, xs_iload_n_1, xs_iconst_2, xs_imul, xs_iload_n_2, xs_iadd, xs_ireturn]) | (refine ⟨fun _ => ?_, fun _ => ?_⟩) | refine xe_X1_sortOf_0 ?_ | (refine xr_getf (hb 0 _ rfl) rfl ?_) | (refine xr_iaload (hb 3 _ rfl) hi ?_)))
  all_goals simp
theorem c_extraOf (hb : x_hb h g (x_gc g P R S X T ec)) (hi : x2 = 1 → xin x1 X.length) : xK 53 [.ref g, .int x1, .int x2] h (some (.int (if x2 = 1 then xg X x1 else 0))) h := by
  refine xK_X1_extraOf (hb 0 _ rfl) ?_
  (repeat' (first | (simp only [xb_X1_extraOf_0, xb_X1_extraOf_14, xb_X1_extraOf_15, xs_nil, Nat.reduceAdd, true_implies, not_true_eq_false, not_false_eq_true, false_implies, and_true, true_and, x_10, xs_iload_n_2, xs_iconst_1, xs_icmp_ne, xs_aload_n_0, xs_iload_n_1, xs_goto, xs_iconst_0, xs_ireturn]) | (refine ⟨fun _ => ?_, fun _ => ?_⟩) | refine xe_X1_extraOf_0 ?_ | refine xe_X1_extraOf_14 ?_ | refine xe_X1_extraOf_15 ?_ | (refine xr_getf (hb 0 _ rfl) rfl ?_) | (refine xr_iaload (hb 4 _ rfl) (hi (by simp_all)) ?_)))
  all_goals simp_all
theorem c_hasEntry (hb : x_hb h g (x_gc g P R S X T ec)) : xK 51 [.ref g, .int x1] h (some (.int (if 0 ≤ x1 ∧ x1 < ec then 1 else 0))) h := by
  refine xK_X1_hasEntry (hb 0 _ rfl) ?_
  (repeat' (first | (simp only [xb_X1_hasEntry_0, xs_nil, Nat.reduceAdd, true_implies, not_true_eq_false, not_false_eq_true, false_implies, and_true, true_and, x_10, xs_iload_n_1, xs_aload_n_0, xs_ireturn]) | (refine ⟨fun _ => ?_, fun _ => ?_⟩) | refine xe_X1_hasEntry_0 ?_ | (refine xr_getf (hb 0 _ rfl) rfl ?_) | refine xc_s2_1 (by decide) (c_isBelow) (Nat.le_of_ble_eq_true rfl) ?_))
  all_goals simp [x_bit]
theorem c_whyNoPrice (hb : x_hb h g (x_gc g P R S X T ec)) : xK 17 [.ref g, .int x1, .int x2, .int x3, .int x4] h (some (.int (if ((0 ≤ x1 ∧ x1 < 6) ∧ (0 ≤ x2 ∧ x2 < 6) ∧ 0 ≤ x3 ∧ x3 < 2) ∧ -1 ≤ x4 ∧ x4 ≤ 9 then 0 else -2))) h := by
  refine xK_X1_whyNoPrice (hb 0 _ rfl) ?_
  (repeat' (first | (simp only [xb_X1_whyNoPrice_0, xb_X1_whyNoPrice_21, xb_X1_whyNoPrice_23, xs_nil, Nat.reduceAdd, true_implies, not_true_eq_false, not_false_eq_true, false_implies, and_true, true_and, x_10, xs_iload_n_1, xs_iload_n_2, xs_iload_n_3, xs_if_eq, xs_iload_4, xs_iconst_0, xs_goto, xs_bipush_m2, xs_ireturn]) | (refine ⟨fun _ => ?_, fun _ => ?_⟩) | refine xe_X1_whyNoPrice_0 ?_ | refine xe_X1_whyNoPrice_21 ?_ | refine xe_X1_whyNoPrice_23 ?_ | refine xc_s3_1 (by decide) (c_isRulePlace) (Nat.le_of_ble_eq_true rfl) ?_ | refine xc_s1_1 (by decide) (c_isPriceOrNone) (Nat.le_of_ble_eq_true rfl) ?_))
  all_goals (first | (simp_all [x_bit, x_ite0, Int32.not_lt, Int32.not_le]; done) | ((try simp only [x_ite0] at *) <;> simp [x_bit, Int32.lt_iff_toInt_lt, Int32.le_iff_toInt_le] at * <;> omega))
theorem c_whyNoRootPrice (hb : x_hb h g (x_gc g P R S X T ec)) : xK 34 [.ref g, .int x1, .int x2] h (some (.int (if (0 ≤ x1 ∧ x1 < 6) ∧ -1 ≤ x2 ∧ x2 ≤ 9 then 0 else -2))) h := by
  refine xK_X1_whyNoRootPrice (hb 0 _ rfl) ?_
  (repeat' (first | (simp only [xb_X1_whyNoRootPrice_0, xb_X1_whyNoRootPrice_20, xb_X1_whyNoRootPrice_22, xs_nil, Nat.reduceAdd, true_implies, not_true_eq_false, not_false_eq_true, false_implies, and_true, true_and, x_10, xs_iload_n_1, xs_bipush_6, xs_if_eq, xs_iload_n_2, xs_iconst_0, xs_goto, xs_bipush_m2, xs_ireturn]) | (refine ⟨fun _ => ?_, fun _ => ?_⟩) | refine xe_X1_whyNoRootPrice_0 ?_ | refine xe_X1_whyNoRootPrice_20 ?_ | refine xe_X1_whyNoRootPrice_22 ?_ | refine xc_s2_1 (by decide) (c_isBelow) (Nat.le_of_ble_eq_true rfl) ?_ | refine xc_s1_1 (by decide) (c_isPriceOrNone) (Nat.le_of_ble_eq_true rfl) ?_))
  all_goals (first | (simp_all [x_bit, x_ite0, Int32.not_lt, Int32.not_le]; done) | ((try simp only [x_ite0] at *) <;> simp [x_bit, Int32.lt_iff_toInt_lt, Int32.le_iff_toInt_le] at * <;> omega))
theorem c_putPrice (hb : x_hb h g (x_gc g P R S X T ec)) (h2 : 2 ≤ g) (hi : xin ((x1 * 6 + x2) * 2 + x3) P.length) : xK 23 [.ref g, .int x1, .int x2, .int x3, .int x4] h (some (.int (xg P ((x1 * 6 + x2) * 2 + x3)))) (x_wr h g (x_gc g (xu P ((x1 * 6 + x2) * 2 + x3) x4) R S X T ec)) := by
  have hl := hb.fit (Nat.zero_lt_succ _)
  have e := hb.wr hl
  refine xK_X1_putPrice (hb 0 _ rfl) ?_
  (repeat' (first | (simp only [xb_X1_putPrice_0, xs_nil, Nat.reduceAdd, true_implies, not_true_eq_false, not_false_eq_true, false_implies, and_true, true_and, x_10, xs_iload_n_1, xs_bipush_6, xs_imul, xs_iload_n_2, xs_iadd, xs_iconst_2, xs_iload_n_3, xs_istore_5_i, xs_istore_5_a, xs_istore_5_n, xs_istore_5_l, xs_aload_n_0, xs_iload_5, xs_istore_6_i, xs_istore_6_a, xs_istore_6_n, xs_istore_6_l, xs_iload_4, xs_iload_6, xs_ireturn]) | (refine ⟨fun _ => ?_, fun _ => ?_⟩) | refine xe_X1_putPrice_0 ?_ | (refine xr_getf (hb 0 _ rfl) (by rfl) ?_) | (refine xr_iaload (hb 1 _ rfl) hi ?_) | (refine xv_iastore hl e hb 1 (by rfl) h2 hi (fun h1 hb e hl => ?_))))
  all_goals first | exact ⟨by simp, e⟩ | exact e | exact ⟨by simp, by simp, e⟩ | exact ⟨by simp, by simp_all, e⟩
theorem c_putRootPrice (hb : x_hb h g (x_gc g P R S X T ec)) (h2 : 2 ≤ g) (hi : xin x1 R.length) : xK 35 [.ref g, .int x1, .int x2] h (some (.int (xg R x1))) (x_wr h g (x_gc g P (xu R x1 x2) S X T ec)) := by
  have hl := hb.fit (Nat.zero_lt_succ _)
  have e := hb.wr hl
  refine xK_X1_putRootPrice (hb 0 _ rfl) ?_
  (repeat' (first | (simp only [xb_X1_putRootPrice_0, xs_nil, Nat.reduceAdd, true_implies, not_true_eq_false, not_false_eq_true, false_implies, and_true, true_and, x_10, xs_aload_n_0, xs_iload_n_1, xs_istore_n_3_i, xs_istore_n_3_a, xs_istore_n_3_n, xs_istore_n_3_l, xs_iload_n_2, xs_iload_n_3, xs_ireturn]) | (refine ⟨fun _ => ?_, fun _ => ?_⟩) | refine xe_X1_putRootPrice_0 ?_ | (refine xr_getf (hb 0 _ rfl) (by rfl) ?_) | (refine xr_iaload (hb 2 _ rfl) hi ?_) | (refine xv_iastore hl e hb 2 (by rfl) h2 hi (fun h1 hb e hl => ?_))))
  all_goals first | exact ⟨by simp, e⟩ | exact e | exact ⟨by simp, by simp, e⟩ | exact ⟨by simp, by simp_all, e⟩
theorem c_putSetting (hb : x_hb h g (x_gc g P R S X T ec)) (h2 : 2 ≤ g) (hi : xin x1 T.length) : xK 45 [.ref g, .int x1, .int x2] h (some (.int (xg T x1))) (x_wr h g (x_gc g P R S X (xu T x1 x2) ec)) := by
  have hl := hb.fit (Nat.zero_lt_succ _)
  have e := hb.wr hl
  refine xK_X1_putSetting (hb 0 _ rfl) ?_
  (repeat' (first | (simp only [xb_X1_putSetting_0, xs_nil, Nat.reduceAdd, true_implies, not_true_eq_false, not_false_eq_true, false_implies, and_true, true_and, x_10, xs_aload_n_0, xs_iload_n_1, xs_istore_n_3_i, xs_istore_n_3_a, xs_istore_n_3_n, xs_istore_n_3_l, xs_iload_n_2, xs_iload_n_3, xs_ireturn]) | (refine ⟨fun _ => ?_, fun _ => ?_⟩) | refine xe_X1_putSetting_0 ?_ | (refine xr_getf (hb 0 _ rfl) (by rfl) ?_) | (refine xr_iaload (hb 5 _ rfl) hi ?_) | (refine xv_iastore hl e hb 5 (by rfl) h2 hi (fun h1 hb e hl => ?_))))
  all_goals first | exact ⟨by simp, e⟩ | exact e | exact ⟨by simp, by simp, e⟩ | exact ⟨by simp, by simp_all, e⟩
theorem c_addEntry (hb : x_hb h g (x_gc g P R S X T ec)) (h2 : 2 ≤ g) (hi1 : xin (ec * 2) S.length) (hi2 : xin (ec * 2 + 1) S.length) (hi3 : xin ec X.length) : xK 39 [.ref g, .int x1, .int x2, .int x3] h (some (.int ec)) (x_wr h g (x_gc g P R (xu (xu S (ec * 2) x1) (ec * 2 + 1) x2) (xu X ec x3) T (ec + 1))) := by
  have hl := hb.fit (Nat.zero_lt_succ _)
  have e := hb.wr hl
  refine xK_X1_addEntry (hb 0 _ rfl) ?_
  (repeat' (first | (simp only [xb_X1_addEntry_0, xs_nil, Nat.reduceAdd, true_implies, not_true_eq_false, not_false_eq_true, false_implies, and_true, true_and, x_10, xs_aload_n_0, xs_istore_4_i, xs_istore_4_a, xs_istore_4_n, xs_istore_4_l, xs_iload_4, xs_iconst_2, xs_imul, xs_iload_n_1, xs_iconst_1, xs_iadd, xs_iload_n_2, xs_iload_n_3, xs_dup_i, xs_dup_a, xs_ireturn]) | (refine ⟨fun _ => ?_, fun _ => ?_⟩) | refine xe_X1_addEntry_0 ?_ | (refine xr_getf (hb 0 _ rfl) (by rfl) ?_) | (refine xv_iastore hl e hb 3 (by rfl) h2 hi1 (fun h1 hb e hl => ?_)) | (refine xv_iastore hl e hb 3 (by rfl) h2 (by rw [xu_len]; exact hi2) (fun h1 hb e hl => ?_)) | (refine xv_iastore hl e hb 4 (by rfl) h2 hi3 (fun h1 hb e hl => ?_)) | (refine xv_putf hl e hb 0 (by rfl) h2 (by exact Nat.le_of_ble_eq_true rfl) (by first | exact x_fit_int _ | exact x_fit_long _) (fun h1 hb e hl => ?_))))
  all_goals first | exact ⟨by simp, e⟩ | exact e | exact ⟨by simp, by simp, e⟩ | exact ⟨by simp, by simp_all, e⟩
theorem c_whyNoEntry (hb : x_hb h g (x_gc g P R S X T ec)) : xK 38 [.ref g, .int x1, .int x2, .int x3] h (some (.int (if ((0 ≤ x1 ∧ x1 < 6) ∧ (x2 = -1 ∨ 0 ≤ x2 ∧ x2 < 6) ∧ ¬ x2 = x1) ∧ (if x2 = -1 then x3 = 0 else 0 ≤ x3 ∧ x3 ≤ 9) then (if 12 ≤ ec then -4 else 0) else -2))) h := by
  refine xK_X1_whyNoEntry (hb 0 _ rfl) ?_
  (repeat' (first | (simp only [xb_X1_whyNoEntry_0, xb_X1_whyNoEntry_23, xb_X1_whyNoEntry_32, xb_X1_whyNoEntry_33, xb_X1_whyNoEntry_48, xb_X1_whyNoEntry_52, xb_X1_whyNoEntry_66, xb_X1_whyNoEntry_67, xb_X1_whyNoEntry_79, xb_X1_whyNoEntry_82, xb_X1_whyNoEntry_96, xb_X1_whyNoEntry_97, xs_nil, Nat.reduceAdd, true_implies, not_true_eq_false, not_false_eq_true, false_implies, and_true, true_and, x_10, xs_iload_n_1, xs_bipush_6, xs_if_eq, xs_iload_n_2, xs_iconst_m1, xs_icmp_eq, xs_iconst_1, xs_goto, xs_iconst_0, xs_istore_4_i, xs_istore_4_a, xs_istore_4_n, xs_istore_4_l, xs_icmp_ne, xs_iload_n_3, xs_if_ne, xs_if_lt, xs_bipush_9, xs_icmp_gt, xs_istore_5_i, xs_istore_5_a, xs_istore_5_n, xs_istore_5_l, xs_iload_4, xs_iload_5, xs_bipush_m2, xs_ireturn, xs_aload_n_0, xs_bipush_12, xs_icmp_lt, xs_bipush_m4]) | (refine ⟨fun _ => ?_, fun _ => ?_⟩) | refine xe_X1_whyNoEntry_0 ?_ | refine xe_X1_whyNoEntry_23 ?_ | refine xe_X1_whyNoEntry_32 ?_ | refine xe_X1_whyNoEntry_33 ?_ | refine xe_X1_whyNoEntry_48 ?_ | refine xe_X1_whyNoEntry_52 ?_ | refine xe_X1_whyNoEntry_66 ?_ | refine xe_X1_whyNoEntry_67 ?_ | refine xe_X1_whyNoEntry_79 ?_ | refine xe_X1_whyNoEntry_82 ?_ | refine xe_X1_whyNoEntry_96 ?_ | refine xe_X1_whyNoEntry_97 ?_ | (refine xr_getf (hb 0 _ rfl) (by rfl) ?_) | refine xc_s2_1 (by decide) (c_isBelow) (Nat.le_of_ble_eq_true rfl) ?_))
  all_goals simp only [x_ite0] at *
  all_goals first | (simp_all; done) | (simp_all [Int32.lt_iff_toInt_lt, Int32.le_iff_toInt_le]; omega)
end GR
