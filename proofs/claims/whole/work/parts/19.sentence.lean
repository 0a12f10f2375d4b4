/-! Sentence, Script: short ones -/
def x_sc (g : Nat) (en ro co re su : List Int32) (ct : Int32) : List xE := [.inr (3, [.ref (g + 1), .ref (g + 2), .ref (g + 3), .ref (g + 4), .ref (g + 5), .int ct]), xi en, xi ro, xi co, xi re, xi su]
section SE
variable {g : Nat} {en ro co re su : List Int32} {ct x1 x2 x3 x4 : Int32} {h : xH}
theorem c_heldRow (hb : x_hb h g (x_sc g en ro co re su ct)) (hi : xin ct ro.length) : xK 58 [.ref g] h (some (.int (xg ro ct))) h := by
  refine xK_X4_heldRow (hb 0 _ rfl) ?_
  (repeat' (first | (simp only [xb_X4_heldRow_0, xs_nil, Nat.reduceAdd, true_implies, not_true_eq_false, not_false_eq_true, false_implies, and_true, true_and, x_10, xs_aload_n_0, xs_ireturn]) | (refine ⟨fun _ => ?_, fun _ => ?_⟩) | refine xe_X4_heldRow_0 ?_ | (refine xr_getf (hb 0 _ rfl) (by rfl) ?_) | (refine xr_iaload (hb 2 _ rfl) hi ?_)))
  all_goals simp
theorem c_isStuck (hb : x_hb h g (x_sc g en ro co re su ct)) (hi : xin ct ro.length) : xK 59 [.ref g] h (some (.int (if 0 < ct ∧ xg ro ct = -1 then 1 else 0))) h := by
  refine xK_X4_isStuck (hb 0 _ rfl) ?_
  (repeat' (first | (simp only [xb_X4_isStuck_0, xb_X4_isStuck_19, xb_X4_isStuck_20, xs_nil, Nat.reduceAdd, true_implies, not_true_eq_false, not_false_eq_true, false_implies, and_true, true_and, x_10, xs_aload_n_0, xs_if_le, xs_iconst_m1, xs_icmp_ne, xs_iconst_1, xs_goto, xs_iconst_0, xs_ireturn]) | (refine ⟨fun _ => ?_, fun _ => ?_⟩) | refine xe_X4_isStuck_0 ?_ | refine xe_X4_isStuck_19 ?_ | refine xe_X4_isStuck_20 ?_ | (refine xr_getf (hb 0 _ rfl) (by rfl) ?_) | refine xc_v1_1 (c_heldRow hb hi) (Nat.le_of_ble_eq_true rfl) ?_))
  all_goals (first | (simp_all [x_bit, x_ite0, Int32.not_lt, Int32.not_le]; done) | ((try simp only [x_ite0] at *) <;> simp [x_bit, Int32.lt_iff_toInt_lt, Int32.le_iff_toInt_le] at * <;> omega))
theorem c_putReckoned (hb : x_hb h g (x_sc g en ro co re su ct)) (h2 : 2 ≤ g) (hi1 : xin ct ro.length) (hi2 : xin ct co.length) (hi3 : xin ct re.length) (hi4 : xin ct su.length) : xK 75 [.ref g, .int x1, .int x2, .int x3, .int x4] h none (x_wr h g (x_sc g en (xu ro ct x1) (xu co ct x2) (xu re ct x3) (xu su ct x4) ct)) := by
  have hl := hb.fit (Nat.zero_lt_succ _)
  have e := hb.wr hl
  refine xK_X4_putReckoned (hb 0 _ rfl) ?_
  (repeat' (first | (simp only [xb_X4_putReckoned_0, xs_nil, Nat.reduceAdd, true_implies, not_true_eq_false, not_false_eq_true, false_implies, and_true, true_and, x_10, xs_aload_n_0, xs_iload_n_1, xs_iload_n_2, xs_iload_n_3, xs_iload_4, xs_return]) | (refine ⟨fun _ => ?_, fun _ => ?_⟩) | refine xe_X4_putReckoned_0 ?_ | (refine xr_getf (hb 0 _ rfl) (by rfl) ?_) | (refine xv_iastore hl e hb 2 (by rfl) h2 hi1 (fun h1 hb e hl => ?_)) | (refine xv_iastore hl e hb 3 (by rfl) h2 hi2 (fun h1 hb e hl => ?_)) | (refine xv_iastore hl e hb 4 (by rfl) h2 hi3 (fun h1 hb e hl => ?_)) | (refine xv_iastore hl e hb 5 (by rfl) h2 hi4 (fun h1 hb e hl => ?_))))
  all_goals first | exact ⟨by simp, e⟩ | exact e | exact ⟨by simp, by simp, e⟩ | exact ⟨by simp, by simp_all, e⟩
end SE
def x_rc (g : Nat) (by_ kd fi cn nu : List Int32) (nr at_ ln od : Int32) : List xE := [.inr (2, [.ref (g + 1), .ref (g + 2), .ref (g + 3), .ref (g + 4), .ref (g + 5), .int nr, .int at_, .int ln, .int od]), xi by_, xi kd, xi fi, xi cn, xi nu]
section SR
variable {g : Nat} {by_ kd fi cn nu : List Int32} {nr at_ ln od x1 x2 : Int32} {h : xH}
theorem c_append (hb : x_hb h g (x_rc g by_ kd fi cn nu nr at_ ln od)) (h2 : 2 ≤ g) (hi : xin ln by_.length) (hln : ln < 120) : xK 132 [.ref g, .int x1] h none (x_wr h g (x_rc g (xu by_ ln x1) kd fi cn nu nr at_ (ln + 1) od)) := by
  have hl := hb.fit (Nat.zero_lt_succ _)
  have e := hb.wr hl
  refine xK_X3_append (hb 0 _ rfl) ?_
  (repeat' (first | (simp only [xb_X3_append_0, xb_X3_append_29, xs_nil, Nat.reduceAdd, true_implies, not_true_eq_false, not_false_eq_true, false_implies, and_true, true_and, x_10, xs_aload_n_0, xs_bipush_120, xs_icmp_ge, xs_iload_n_1, xs_dup_i, xs_dup_a, xs_iconst_1, xs_iadd, xs_return]) | (refine ⟨fun _ => ?_, fun _ => ?_⟩) | refine xe_X3_append_0 ?_ | refine xe_X3_append_29 ?_ | (refine xr_getf (hb 0 _ rfl) (by rfl) ?_) | (refine xv_iastore hl e hb 1 (by rfl) h2 hi (fun h1 hb e hl => ?_)) | (refine xv_putf hl e hb 0 (by rfl) h2 (by exact Nat.le_of_ble_eq_true rfl) (by first | exact x_fit_int _ | exact x_fit_long _) (fun h1 hb e hl => ?_))))
  all_goals first | (exfalso; simp only [Int32.lt_iff_toInt_lt, Int32.le_iff_toInt_le] at *; omega) | exact ⟨by simp, e⟩ | exact e | simp [e]
theorem c_kind (hb : x_hb h g (x_rc g by_ kd fi cn nu nr at_ ln od)) (hi : xin x1 kd.length) : xK 145 [.ref g, .int x1] h (some (.int (xg kd x1))) h := by
  refine xK_X3_kind (hb 0 _ rfl) ?_
  (repeat' (first | (simp only [xb_X3_kind_0, xs_nil, Nat.reduceAdd, true_implies, not_true_eq_false, not_false_eq_true, false_implies, and_true, true_and, x_10, xs_aload_n_0, xs_iload_n_1, xs_ireturn]) | (refine ⟨fun _ => ?_, fun _ => ?_⟩) | refine xe_X3_kind_0 ?_ | (refine xr_getf (hb 0 _ rfl) (by rfl) ?_) | (refine xr_iaload (hb 2 _ rfl) hi ?_)))
  all_goals simp
theorem c_numberCount (hb : x_hb h g (x_rc g by_ kd fi cn nu nr at_ ln od)) (hi : xin x1 cn.length) : xK 146 [.ref g, .int x1] h (some (.int (xg cn x1))) h := by
  refine xK_X3_numberCount (hb 0 _ rfl) ?_
  (repeat' (first | (simp only [xb_X3_numberCount_0, xs_nil, Nat.reduceAdd, true_implies, not_true_eq_false, not_false_eq_true, false_implies, and_true, true_and, x_10, xs_aload_n_0, xs_iload_n_1, xs_ireturn]) | (refine ⟨fun _ => ?_, fun _ => ?_⟩) | refine xe_X3_numberCount_0 ?_ | (refine xr_getf (hb 0 _ rfl) (by rfl) ?_) | (refine xr_iaload (hb 4 _ rfl) hi ?_)))
  all_goals simp
theorem c_number (hb : x_hb h g (x_rc g by_ kd fi cn nu nr at_ ln od)) (hi : xin x1 cn.length) (hi2 : xin x1 fi.length) (hi3 : x2 < xg cn x1 → xin (xg fi x1 + x2) nu.length) : xK 147 [.ref g, .int x1, .int x2] h (some (.int (if x2 < xg cn x1 then xg nu (xg fi x1 + x2) else -1))) h := by
  refine xK_X3_number (hb 0 _ rfl) ?_
  (repeat' (first | (simp only [xb_X3_number_0, xb_X3_number_26, xb_X3_number_27, xs_nil, Nat.reduceAdd, true_implies, not_true_eq_false, not_false_eq_true, false_implies, and_true, true_and, x_10, xs_iload_n_2, xs_aload_n_0, xs_iload_n_1, xs_icmp_ge, xs_iadd, xs_goto, xs_iconst_m1, xs_ireturn]) | (refine ⟨fun _ => ?_, fun _ => ?_⟩) | refine xe_X3_number_0 ?_ | refine xe_X3_number_26 ?_ | refine xe_X3_number_27 ?_ | (refine xr_getf (hb 0 _ rfl) (by rfl) ?_) | (refine xr_iaload (hb 4 _ rfl) hi ?_) | (refine xr_iaload (hb 3 _ rfl) hi2 ?_) | (refine xr_iaload (hb 5 _ rfl) (hi3 (by simp_all [Int32.not_le])) ?_)))
  all_goals first | (simp_all [Int32.not_le]; done) | (simp_all [Int32.lt_iff_toInt_lt, Int32.le_iff_toInt_le]; omega)
theorem c_here (hb : x_hb h g (x_rc g by_ kd fi cn nu nr at_ ln od)) (hi : at_ < ln → xin at_ by_.length) : xK 138 [.ref g] h (some (.int (if at_ < ln then xg by_ at_ else -1))) h := by
  refine xK_X3_here (hb 0 _ rfl) ?_
  (repeat' (first | (simp only [xb_X3_here_0, xb_X3_here_23, xb_X3_here_24, xs_nil, Nat.reduceAdd, true_implies, not_true_eq_false, not_false_eq_true, false_implies, and_true, true_and, x_10, xs_aload_n_0, xs_icmp_ge, xs_goto, xs_iconst_m1, xs_ireturn]) | (refine ⟨fun _ => ?_, fun _ => ?_⟩) | refine xe_X3_here_0 ?_ | refine xe_X3_here_23 ?_ | refine xe_X3_here_24 ?_ | (refine xr_getf (hb 0 _ rfl) (by rfl) ?_) | (refine xr_iaload (hb 1 _ rfl) (hi (by simp_all [Int32.not_le])) ?_)))
  all_goals first | (simp_all [Int32.not_le]; done) | (simp_all [Int32.lt_iff_toInt_lt, Int32.le_iff_toInt_le]; omega)
theorem c_isFigureHere (hb : x_hb h g (x_rc g by_ kd fi cn nu nr at_ ln od)) (hi : at_ < ln → xin at_ by_.length) : xK 140 [.ref g] h (some (.int (if 48 ≤ (if at_ < ln then xg by_ at_ else -1) ∧ (if at_ < ln then xg by_ at_ else -1) ≤ 57 then 1 else 0))) h := by
  refine xK_X3_isFigureHere (hb 0 _ rfl) ?_
  generalize hq : (if at_ < ln then xg by_ at_ else -1) = q
  (repeat' (first | (simp only [xb_X3_isFigureHere_0, xb_X3_isFigureHere_21, xb_X3_isFigureHere_22, xs_nil, Nat.reduceAdd, true_implies, not_true_eq_false, not_false_eq_true, false_implies, and_true, true_and, x_10, xs_aload_n_0, xs_istore_n_1_i, xs_istore_n_1_a, xs_istore_n_1_n, xs_istore_n_1_l, xs_iload_n_1, xs_bipush_48, xs_icmp_lt, xs_bipush_57, xs_icmp_gt, xs_iconst_1, xs_goto, xs_iconst_0, xs_ireturn]) | (refine ⟨fun _ => ?_, fun _ => ?_⟩) | refine xe_X3_isFigureHere_0 ?_ | refine xe_X3_isFigureHere_21 ?_ | refine xe_X3_isFigureHere_22 ?_ | refine xc_v1_1 (hq ▸ c_here hb hi) (Nat.le_of_ble_eq_true rfl) ?_))
  all_goals (first | (simp_all [x_bit, x_ite0, Int32.not_lt, Int32.not_le]; done) | ((try simp only [x_ite0] at *) <;> simp [x_bit, Int32.lt_iff_toInt_lt, Int32.le_iff_toInt_le] at * <;> omega))
end SR
