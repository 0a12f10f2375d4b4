/-! the reference: loops over words -/
theorem nI_mul (a b : Nat) : nI a * nI b = nI (a * b) := (Int32.ofNat_mul a b).symm
/-- digits of a code, the last word's lowest, laid into a row -/
def xlay (hd : List Int32) (b : Nat) : Nat → Nat → List Int32
  | _, 0 => hd
  | c, w + 1 => xlay (hd.set (w + 1) (nI (c % b))) b (c / b) w
theorem xlay_len {b : Nat} : ∀ {w c : Nat} {hd : List Int32}, (xlay hd b c w).length = hd.length
  | 0, _, _ => rfl
  | w + 1, c, hd => by
    show (xlay (hd.set (w + 1) _) b (c / b) w).length = _
    rw [xlay_len, List.length_set]
/-- from word to word by heads: at most k steps, until 'to' or 0 -/
def xcome (hd : List Int32) (to : Int32) : Nat → Int32 → Int32
  | 0, a => a
  | k + 1, a => if a = to ∨ a = 0 then a else xcome hd to k (xg hd a)
/-- the number that readings and heads spell to the base of fourteen -/
def xcode (rd hd : List Int32) : Nat → Int32
  | 0 => 0
  | k + 1 => 14 * xcode rd hd k + 7 * rd.getD (k + 1) 0 + hd.getD (k + 1) 0
def xsumw (nw : List Int32) (x : Int32) : Nat → Int32
  | 0 => 0
  | k + 1 => xsumw nw x k + xg nw (119 + 5 * (nI (k + 1) - 1) + x)
section MO2
variable {m : Nat} {nw asd pa rf tx hd rd so ah ar tr bg le fr nu : List Int32} {sts byt fo bc br bk od sp wr : Int32} {ha : Int64} {x1 x2 x3 x4 : Int32} {h h0 : xH} {n : Nat}
theorem l_laysHeads (h2 : 2 ≤ m) (hn : n < 100) : ∀ (w c : Nat) (hd : List Int32) (h : xH) (_ : x_hb h m (x_mc m nw asd pa sts rf tx byt hd rd so ah ar tr bg fo bc br bk le fr nu od sp wr ha)) (_ : x_wr h0 m (x_mc m nw asd pa sts rf tx byt hd rd so ah ar tr bg fo bc br bk le fr nu od sp wr ha) = h) (_ : m + (x_mc m nw asd pa sts rf tx byt hd rd so ah ar tr bg fo bc br bk le fr nu od sp wr ha).length ≤ h0.length), w < hd.length → hd.length < 2 ^ 31 → c < 2 ^ 31 → x_EV 8 5 [some (.ref m), some (.int x1), some (.int (nI n)), some (.int (nI c)), some (.int (nI w))] [] h none (x_wr h0 m (x_mc m nw asd pa sts rf tx byt (xlay hd (n + 1) c w) rd so ah ar tr bg fo bc br bk le fr nu od sp wr ha)) := by
  intro w
  induction w with
  | zero =>
    intro c hd h hb e hl hw hs hc
    refine xe_X8_laysHeads_5 ?_
    (repeat (first | (simp only [xb_X8_laysHeads_0, xb_X8_laysHeads_5, xb_X8_laysHeads_35, xs_nil, Nat.reduceAdd, true_implies, not_true_eq_false, not_false_eq_true, false_implies, and_true, true_and, x_10, xs_iload_n_1, xs_istore_n_3_i, xs_istore_n_3_a, xs_istore_n_3_n, xs_istore_n_3_l, xs_iload_n_2, xs_istore_4_i, xs_istore_4_a, xs_istore_4_n, xs_istore_4_l, xs_iload_4, xs_iconst_1, xs_icmp_lt, xs_aload_n_0, xs_iload_n_3, xs_iadd, xs_irem, xs_idiv, xs_iinc_4_m1_i, xs_iinc_4_m1_a, xs_iinc_4_m1_n, xs_goto, xs_return]) ))
    refine ⟨fun q => ?_, fun q => absurd (by decide) q⟩
    refine xe_X8_laysHeads_35 ?_
    (repeat (first | (simp only [xb_X8_laysHeads_0, xb_X8_laysHeads_5, xb_X8_laysHeads_35, xs_nil, Nat.reduceAdd, true_implies, not_true_eq_false, not_false_eq_true, false_implies, and_true, true_and, x_10, xs_iload_n_1, xs_istore_n_3_i, xs_istore_n_3_a, xs_istore_n_3_n, xs_istore_n_3_l, xs_iload_n_2, xs_istore_4_i, xs_istore_4_a, xs_istore_4_n, xs_istore_4_l, xs_iload_4, xs_iconst_1, xs_icmp_lt, xs_aload_n_0, xs_iload_n_3, xs_iadd, xs_irem, xs_idiv, xs_iinc_4_m1_i, xs_iinc_4_m1_a, xs_iinc_4_m1_n, xs_goto, xs_return]) ))
    exact e
  | succ w ih =>
    intro c hd h hb e hl hw hs hc
    have e1 : nI n + 1 = nI (n + 1) := nI_1 n
    have e2 : ¬ nI (n + 1) = 0 := nI_ne0 (by omega) (by omega)
    have e3 := pk_rem (a := c) (d := n + 1) hc (by omega) (by omega)
    have e4 := pk_div (a := c) (d := n + 1) hc (by omega) (by omega)
    have e5 : nI (w + 1) + -1 = nI w := by rw [← Int32.sub_eq_add_neg]; exact nI_pred w
    refine xe_X8_laysHeads_5 ?_
    (repeat (first | (simp only [xb_X8_laysHeads_0, xb_X8_laysHeads_5, xb_X8_laysHeads_35, xs_nil, Nat.reduceAdd, true_implies, not_true_eq_false, not_false_eq_true, false_implies, and_true, true_and, x_10, xs_iload_n_1, xs_istore_n_3_i, xs_istore_n_3_a, xs_istore_n_3_n, xs_istore_n_3_l, xs_iload_n_2, xs_istore_4_i, xs_istore_4_a, xs_istore_4_n, xs_istore_4_l, xs_iload_4, xs_iconst_1, xs_icmp_lt, xs_aload_n_0, xs_iload_n_3, xs_iadd, xs_irem, xs_idiv, xs_iinc_4_m1_i, xs_iinc_4_m1_a, xs_iinc_4_m1_n, xs_goto, xs_return]) ))
    refine ⟨fun q => absurd q (nI_nlt (a := w + 1) (b := 1) (by omega) (by omega)), fun q => ?_⟩
    (repeat (first | (simp only [xb_X8_laysHeads_0, xb_X8_laysHeads_5, xb_X8_laysHeads_35, xs_nil, Nat.reduceAdd, true_implies, not_true_eq_false, not_false_eq_true, false_implies, and_true, true_and, x_10, xs_iload_n_1, xs_istore_n_3_i, xs_istore_n_3_a, xs_istore_n_3_n, xs_istore_n_3_l, xs_iload_n_2, xs_istore_4_i, xs_istore_4_a, xs_istore_4_n, xs_istore_4_l, xs_iload_4, xs_iconst_1, xs_icmp_lt, xs_aload_n_0, xs_iload_n_3, xs_iadd, xs_irem, xs_idiv, xs_iinc_4_m1_i, xs_iinc_4_m1_a, xs_iinc_4_m1_n, xs_goto, xs_return]) | (refine xr_getf (hb 0 _ rfl) (by rfl) ?_)))
    rw [e1]
    refine ⟨e2, ?_⟩
    rw [e3]
    refine xv_iastore hl e hb 6 (by rfl) h2 (x_in (by omega) hs) (fun h1 hb e hl => ?_)
    (repeat (first | (simp only [xb_X8_laysHeads_0, xb_X8_laysHeads_5, xb_X8_laysHeads_35, xs_nil, Nat.reduceAdd, true_implies, not_true_eq_false, not_false_eq_true, false_implies, and_true, true_and, x_10, xs_iload_n_1, xs_istore_n_3_i, xs_istore_n_3_a, xs_istore_n_3_n, xs_istore_n_3_l, xs_iload_n_2, xs_istore_4_i, xs_istore_4_a, xs_istore_4_n, xs_istore_4_l, xs_iload_4, xs_iconst_1, xs_icmp_lt, xs_aload_n_0, xs_iload_n_3, xs_iadd, xs_irem, xs_idiv, xs_iinc_4_m1_i, xs_iinc_4_m1_a, xs_iinc_4_m1_n, xs_goto, xs_return]) ))
    rw [e1]
    refine ⟨e2, ?_⟩
    rw [e4]
    (repeat (first | (simp only [xb_X8_laysHeads_0, xb_X8_laysHeads_5, xb_X8_laysHeads_35, xs_nil, Nat.reduceAdd, true_implies, not_true_eq_false, not_false_eq_true, false_implies, and_true, true_and, x_10, xs_iload_n_1, xs_istore_n_3_i, xs_istore_n_3_a, xs_istore_n_3_n, xs_istore_n_3_l, xs_iload_n_2, xs_istore_4_i, xs_istore_4_a, xs_istore_4_n, xs_istore_4_l, xs_iload_4, xs_iconst_1, xs_icmp_lt, xs_aload_n_0, xs_iload_n_3, xs_iadd, xs_irem, xs_idiv, xs_iinc_4_m1_i, xs_iinc_4_m1_a, xs_iinc_4_m1_n, xs_goto, xs_return]) ))
    rw [e5]
    rw [xu_n (by omega)] at hb e hl
    exact ih (c / (n + 1)) (hd.set (w + 1) (nI (c % (n + 1)))) h1 hb e hl (by rw [List.length_set]; omega) (by rw [List.length_set]; exact hs) (Nat.lt_of_le_of_lt (Nat.div_le_self _ _) hc)
theorem c_laysHeads {c : Nat} (hb : x_hb h m (x_mc m nw asd pa sts rf tx byt hd rd so ah ar tr bg fo bc br bk le fr nu od sp wr ha)) (h2 : 2 ≤ m) (hn : n < 100) (hnl : n < hd.length) (hs : hd.length < 2 ^ 31) (hc : c < 2 ^ 31) : xK 8 [.ref m, .int (nI c), .int (nI n)] h none (x_wr h m (x_mc m nw asd pa sts rf tx byt (xlay hd (n + 1) c n) rd so ah ar tr bg fo bc br bk le fr nu od sp wr ha)) := by
  have hl := hb.fit (Nat.zero_lt_succ _)
  have e := hb.wr hl
  refine xK_X8_laysHeads (hb 0 _ rfl) (xe_X8_laysHeads_0 ?_)
  (repeat (first | (simp only [xb_X8_laysHeads_0, xb_X8_laysHeads_5, xb_X8_laysHeads_35, xs_nil, Nat.reduceAdd, true_implies, not_true_eq_false, not_false_eq_true, false_implies, and_true, true_and, x_10, xs_iload_n_1, xs_istore_n_3_i, xs_istore_n_3_a, xs_istore_n_3_n, xs_istore_n_3_l, xs_iload_n_2, xs_istore_4_i, xs_istore_4_a, xs_istore_4_n, xs_istore_4_l, xs_iload_4, xs_iconst_1, xs_icmp_lt, xs_aload_n_0, xs_iload_n_3, xs_iadd, xs_irem, xs_idiv, xs_iinc_4_m1_i, xs_iinc_4_m1_a, xs_iinc_4_m1_n, xs_goto, xs_return]) ))
  exact l_laysHeads h2 hn n c hd h hb e hl hnl hs hc
theorem l_comesTo (hb : x_hb h m (x_mc m nw asd pa sts rf tx byt hd rd so ah ar tr bg fo bc br bk le fr nu od sp wr ha)) (hin : ∀ a : Int32, xin a hd.length → xin (xg hd a) hd.length) : ∀ (d k : Nat) (a : Int32), k + d = 7 → xin a hd.length → x_EV 9 5 [some (.ref m), some (.int x1), some (.int x2), some (.int a), some (.int (nI k))] [] h (some (.int (if xcome hd x2 d a = x2 then 1 else 0))) h := by
  intro d
  induction d with
  | zero =>
    intro k a hk ha
    refine xe_X8_comesTo_5 ?_
    (repeat (first | (simp only [xb_X8_comesTo_0, xb_X8_comesTo_5, xb_X8_comesTo_34, xb_X8_comesTo_43, xb_X8_comesTo_44, xs_nil, Nat.reduceAdd, true_implies, not_true_eq_false, not_false_eq_true, false_implies, and_true, true_and, x_10, xs_iload_n_1, xs_istore_n_3_i, xs_istore_n_3_a, xs_istore_n_3_n, xs_istore_n_3_l, xs_iconst_0, xs_istore_4_i, xs_istore_4_a, xs_istore_4_n, xs_istore_4_l, xs_iload_4, xs_bipush_7, xs_icmp_ge, xs_iload_n_3, xs_iload_n_2, xs_icmp_eq, xs_if_eq, xs_aload_n_0, xs_iinc_4_1_i, xs_iinc_4_1_a, xs_iinc_4_1_n, xs_goto, xs_icmp_ne, xs_iconst_1, xs_ireturn]) ))
    refine ⟨fun q => ?_, fun q => absurd (nI_le (a := 7) (b := k) (by omega) (by omega)) q⟩
    (repeat' (first | (simp only [xb_X8_comesTo_0, xb_X8_comesTo_5, xb_X8_comesTo_34, xb_X8_comesTo_43, xb_X8_comesTo_44, xs_nil, Nat.reduceAdd, true_implies, not_true_eq_false, not_false_eq_true, false_implies, and_true, true_and, x_10, xs_iload_n_1, xs_istore_n_3_i, xs_istore_n_3_a, xs_istore_n_3_n, xs_istore_n_3_l, xs_iconst_0, xs_istore_4_i, xs_istore_4_a, xs_istore_4_n, xs_istore_4_l, xs_iload_4, xs_bipush_7, xs_icmp_ge, xs_iload_n_3, xs_iload_n_2, xs_icmp_eq, xs_if_eq, xs_aload_n_0, xs_iinc_4_1_i, xs_iinc_4_1_a, xs_iinc_4_1_n, xs_goto, xs_icmp_ne, xs_iconst_1, xs_ireturn]) | (refine ⟨fun _ => ?_, fun _ => ?_⟩) | refine xe_X8_comesTo_0 ?_ | refine xe_X8_comesTo_34 ?_ | refine xe_X8_comesTo_43 ?_ | refine xe_X8_comesTo_44 ?_ ))
    all_goals simp_all [xcome]
  | succ d ih =>
    intro k a hk ha
    have e7 : ¬ (7 : Int32) ≤ nI k := nI_ge (a := k) (b := 7) (by omega) (by omega)
    refine xe_X8_comesTo_5 ?_
    (repeat (first | (simp only [xb_X8_comesTo_0, xb_X8_comesTo_5, xb_X8_comesTo_34, xb_X8_comesTo_43, xb_X8_comesTo_44, xs_nil, Nat.reduceAdd, true_implies, not_true_eq_false, not_false_eq_true, false_implies, and_true, true_and, x_10, xs_iload_n_1, xs_istore_n_3_i, xs_istore_n_3_a, xs_istore_n_3_n, xs_istore_n_3_l, xs_iconst_0, xs_istore_4_i, xs_istore_4_a, xs_istore_4_n, xs_istore_4_l, xs_iload_4, xs_bipush_7, xs_icmp_ge, xs_iload_n_3, xs_iload_n_2, xs_icmp_eq, xs_if_eq, xs_aload_n_0, xs_iinc_4_1_i, xs_iinc_4_1_a, xs_iinc_4_1_n, xs_goto, xs_icmp_ne, xs_iconst_1, xs_ireturn]) ))
    refine ⟨fun q => absurd q e7, fun q => ⟨fun q2 => ?_, fun q2 => ⟨fun q3 => ?_, fun q3 => ?_⟩⟩⟩
    · (repeat' (first | (simp only [xb_X8_comesTo_0, xb_X8_comesTo_5, xb_X8_comesTo_34, xb_X8_comesTo_43, xb_X8_comesTo_44, xs_nil, Nat.reduceAdd, true_implies, not_true_eq_false, not_false_eq_true, false_implies, and_true, true_and, x_10, xs_iload_n_1, xs_istore_n_3_i, xs_istore_n_3_a, xs_istore_n_3_n, xs_istore_n_3_l, xs_iconst_0, xs_istore_4_i, xs_istore_4_a, xs_istore_4_n, xs_istore_4_l, xs_iload_4, xs_bipush_7, xs_icmp_ge, xs_iload_n_3, xs_iload_n_2, xs_icmp_eq, xs_if_eq, xs_aload_n_0, xs_iinc_4_1_i, xs_iinc_4_1_a, xs_iinc_4_1_n, xs_goto, xs_icmp_ne, xs_iconst_1, xs_ireturn]) | (refine ⟨fun _ => ?_, fun _ => ?_⟩) | refine xe_X8_comesTo_0 ?_ | refine xe_X8_comesTo_34 ?_ | refine xe_X8_comesTo_43 ?_ | refine xe_X8_comesTo_44 ?_ ))
      all_goals simp_all [xcome]
    · (repeat' (first | (simp only [xb_X8_comesTo_0, xb_X8_comesTo_5, xb_X8_comesTo_34, xb_X8_comesTo_43, xb_X8_comesTo_44, xs_nil, Nat.reduceAdd, true_implies, not_true_eq_false, not_false_eq_true, false_implies, and_true, true_and, x_10, xs_iload_n_1, xs_istore_n_3_i, xs_istore_n_3_a, xs_istore_n_3_n, xs_istore_n_3_l, xs_iconst_0, xs_istore_4_i, xs_istore_4_a, xs_istore_4_n, xs_istore_4_l, xs_iload_4, xs_bipush_7, xs_icmp_ge, xs_iload_n_3, xs_iload_n_2, xs_icmp_eq, xs_if_eq, xs_aload_n_0, xs_iinc_4_1_i, xs_iinc_4_1_a, xs_iinc_4_1_n, xs_goto, xs_icmp_ne, xs_iconst_1, xs_ireturn]) | (refine ⟨fun _ => ?_, fun _ => ?_⟩) | refine xe_X8_comesTo_0 ?_ | refine xe_X8_comesTo_34 ?_ | refine xe_X8_comesTo_43 ?_ | refine xe_X8_comesTo_44 ?_ ))
      all_goals simp_all [xcome]
    · (repeat (first | (simp only [xb_X8_comesTo_0, xb_X8_comesTo_5, xb_X8_comesTo_34, xb_X8_comesTo_43, xb_X8_comesTo_44, xs_nil, Nat.reduceAdd, true_implies, not_true_eq_false, not_false_eq_true, false_implies, and_true, true_and, x_10, xs_iload_n_1, xs_istore_n_3_i, xs_istore_n_3_a, xs_istore_n_3_n, xs_istore_n_3_l, xs_iconst_0, xs_istore_4_i, xs_istore_4_a, xs_istore_4_n, xs_istore_4_l, xs_iload_4, xs_bipush_7, xs_icmp_ge, xs_iload_n_3, xs_iload_n_2, xs_icmp_eq, xs_if_eq, xs_aload_n_0, xs_iinc_4_1_i, xs_iinc_4_1_a, xs_iinc_4_1_n, xs_goto, xs_icmp_ne, xs_iconst_1, xs_ireturn]) | (refine xr_getf (hb 0 _ rfl) (by rfl) ?_) | (refine xr_iaload (hb 6 _ rfl) ha ?_)))
      have := ih (k + 1) (xg hd a) (by omega) (hin a ha)
      rw [nI_1]
      have e8 : xcome hd x2 (d + 1) a = xcome hd x2 d (xg hd a) := by simp [xcome, q2, q3]
      rw [e8]
      exact this
theorem c_comesTo (hb : x_hb h m (x_mc m nw asd pa sts rf tx byt hd rd so ah ar tr bg fo bc br bk le fr nu od sp wr ha)) (hin : ∀ a : Int32, xin a hd.length → xin (xg hd a) hd.length) (ha : xin x1 hd.length) : xK 9 [.ref m, .int x1, .int x2] h (some (.int (if xcome hd x2 7 x1 = x2 then 1 else 0))) h := by
  refine xK_X8_comesTo (hb 0 _ rfl) (xe_X8_comesTo_0 ?_)
  (repeat (first | (simp only [xb_X8_comesTo_0, xb_X8_comesTo_5, xb_X8_comesTo_34, xb_X8_comesTo_43, xb_X8_comesTo_44, xs_nil, Nat.reduceAdd, true_implies, not_true_eq_false, not_false_eq_true, false_implies, and_true, true_and, x_10, xs_iload_n_1, xs_istore_n_3_i, xs_istore_n_3_a, xs_istore_n_3_n, xs_istore_n_3_l, xs_iconst_0, xs_istore_4_i, xs_istore_4_a, xs_istore_4_n, xs_istore_4_l, xs_iload_4, xs_bipush_7, xs_icmp_ge, xs_iload_n_3, xs_iload_n_2, xs_icmp_eq, xs_if_eq, xs_aload_n_0, xs_iinc_4_1_i, xs_iinc_4_1_a, xs_iinc_4_1_n, xs_goto, xs_icmp_ne, xs_iconst_1, xs_ireturn]) ))
  exact l_comesTo hb hin 7 0 x1 rfl ha
theorem l_codeOf (hb : x_hb h m (x_mc m nw asd pa sts rf tx byt hd rd so ah ar tr bg fo bc br bk le fr nu od sp wr ha)) (h1 : n < rd.length) (h2 : n < hd.length) (s1 : rd.length < 2 ^ 31) (s2 : hd.length < 2 ^ 31) : ∀ d k : Nat, k + d = n → x_EV 91 4 [some (.ref m), some (.int (nI n)), some (.int (xcode rd hd k)), some (.int (nI (k + 1)))] [] h (some (.int (xcode rd hd n))) h := by
  intro d
  induction d with
  | zero =>
    intro k hk
    refine xe_X8_codeOf_4 ?_
    (repeat (first | (simp only [xb_X8_codeOf_0, xb_X8_codeOf_4, xb_X8_codeOf_37, xs_nil, Nat.reduceAdd, true_implies, not_true_eq_false, not_false_eq_true, false_implies, and_true, true_and, x_10, xs_iconst_0, xs_istore_n_2_i, xs_istore_n_2_a, xs_istore_n_2_n, xs_istore_n_2_l, xs_iconst_1, xs_istore_n_3_i, xs_istore_n_3_a, xs_istore_n_3_n, xs_istore_n_3_l, xs_iload_n_3, xs_iload_n_1, xs_icmp_gt, xs_bipush_14, xs_iload_n_2, xs_imul, xs_bipush_7, xs_aload_n_0, xs_iadd, xs_iinc_3_1_i, xs_iinc_3_1_a, xs_iinc_3_1_n, xs_goto, xs_ireturn]) ))
    refine ⟨fun q => ?_, fun q => absurd (nI_lt (by omega) (by omega)) q⟩
    refine xe_X8_codeOf_37 ?_
    (repeat (first | (simp only [xb_X8_codeOf_0, xb_X8_codeOf_4, xb_X8_codeOf_37, xs_nil, Nat.reduceAdd, true_implies, not_true_eq_false, not_false_eq_true, false_implies, and_true, true_and, x_10, xs_iconst_0, xs_istore_n_2_i, xs_istore_n_2_a, xs_istore_n_2_n, xs_istore_n_2_l, xs_iconst_1, xs_istore_n_3_i, xs_istore_n_3_a, xs_istore_n_3_n, xs_istore_n_3_l, xs_iload_n_3, xs_iload_n_1, xs_icmp_gt, xs_bipush_14, xs_iload_n_2, xs_imul, xs_bipush_7, xs_aload_n_0, xs_iadd, xs_iinc_3_1_i, xs_iinc_3_1_a, xs_iinc_3_1_n, xs_goto, xs_ireturn]) ))
    rw [show k = n by omega]
    simp
  | succ d ih =>
    intro k hk
    refine xe_X8_codeOf_4 ?_
    (repeat (first | (simp only [xb_X8_codeOf_0, xb_X8_codeOf_4, xb_X8_codeOf_37, xs_nil, Nat.reduceAdd, true_implies, not_true_eq_false, not_false_eq_true, false_implies, and_true, true_and, x_10, xs_iconst_0, xs_istore_n_2_i, xs_istore_n_2_a, xs_istore_n_2_n, xs_istore_n_2_l, xs_iconst_1, xs_istore_n_3_i, xs_istore_n_3_a, xs_istore_n_3_n, xs_istore_n_3_l, xs_iload_n_3, xs_iload_n_1, xs_icmp_gt, xs_bipush_14, xs_iload_n_2, xs_imul, xs_bipush_7, xs_aload_n_0, xs_iadd, xs_iinc_3_1_i, xs_iinc_3_1_a, xs_iinc_3_1_n, xs_goto, xs_ireturn]) ))
    refine ⟨fun q => absurd q (nI_nlt (by omega) (by omega)), fun q => ?_⟩
    (repeat (first | (simp only [xb_X8_codeOf_0, xb_X8_codeOf_4, xb_X8_codeOf_37, xs_nil, Nat.reduceAdd, true_implies, not_true_eq_false, not_false_eq_true, false_implies, and_true, true_and, x_10, xs_iconst_0, xs_istore_n_2_i, xs_istore_n_2_a, xs_istore_n_2_n, xs_istore_n_2_l, xs_iconst_1, xs_istore_n_3_i, xs_istore_n_3_a, xs_istore_n_3_n, xs_istore_n_3_l, xs_iload_n_3, xs_iload_n_1, xs_icmp_gt, xs_bipush_14, xs_iload_n_2, xs_imul, xs_bipush_7, xs_aload_n_0, xs_iadd, xs_iinc_3_1_i, xs_iinc_3_1_a, xs_iinc_3_1_n, xs_goto, xs_ireturn]) | (refine xr_getf (hb 0 _ rfl) (by rfl) ?_) | (refine xr_iaload (hb 7 _ rfl) (x_in (by omega) s1) ?_) | (refine xr_iaload (hb 6 _ rfl) (x_in (by omega) s2) ?_)))
    have := ih (k + 1) (by omega)
    rw [nI_1, xg_n (by omega), xg_n (by omega)]
    exact this
theorem c_codeOf (hb : x_hb h m (x_mc m nw asd pa sts rf tx byt hd rd so ah ar tr bg fo bc br bk le fr nu od sp wr ha)) (h1 : n < rd.length) (h2 : n < hd.length) (s1 : rd.length < 2 ^ 31) (s2 : hd.length < 2 ^ 31) : xK 91 [.ref m, .int (nI n)] h (some (.int (xcode rd hd n))) h := by
  refine xK_X8_codeOf (hb 0 _ rfl) (xe_X8_codeOf_0 ?_)
  (repeat (first | (simp only [xb_X8_codeOf_0, xb_X8_codeOf_4, xb_X8_codeOf_37, xs_nil, Nat.reduceAdd, true_implies, not_true_eq_false, not_false_eq_true, false_implies, and_true, true_and, x_10, xs_iconst_0, xs_istore_n_2_i, xs_istore_n_2_a, xs_istore_n_2_n, xs_istore_n_2_l, xs_iconst_1, xs_istore_n_3_i, xs_istore_n_3_a, xs_istore_n_3_n, xs_istore_n_3_l, xs_iload_n_3, xs_iload_n_1, xs_icmp_gt, xs_bipush_14, xs_iload_n_2, xs_imul, xs_bipush_7, xs_aload_n_0, xs_iadd, xs_iinc_3_1_i, xs_iinc_3_1_a, xs_iinc_3_1_n, xs_goto, xs_ireturn]) ))
  exact l_codeOf hb h1 h2 s1 s2 n 0 (by omega)
theorem l_sumOf (hb : x_hb h m (x_mc m nw asd pa sts rf tx byt hd rd so ah ar tr bg fo bc br bk le fr nu od sp wr ha)) (hi : xin 118 nw.length) (hn : xg nw 118 = nI n) (hn2 : n < 2 ^ 30) (hin : ∀ k : Nat, k < n → xin (119 + 5 * (nI (k + 1) - 1) + x1) nw.length) : ∀ d k : Nat, k + d = n → x_EV 106 4 [some (.ref m), some (.int x1), some (.int (xsumw nw x1 k)), some (.int (nI (k + 1)))] [] h (some (.int (xsumw nw x1 n))) h := by
  intro d
  induction d with
  | zero =>
    intro k hk
    refine xe_X8_sumOf_4 ?_
    (repeat (first | (simp only [xb_X8_sumOf_0, xb_X8_sumOf_4, xb_X8_sumOf_36, xs_nil, Nat.reduceAdd, true_implies, not_true_eq_false, not_false_eq_true, false_implies, and_true, true_and, x_10, xs_iconst_0, xs_istore_n_2_i, xs_istore_n_2_a, xs_istore_n_2_n, xs_istore_n_2_l, xs_iconst_1, xs_istore_n_3_i, xs_istore_n_3_a, xs_istore_n_3_n, xs_istore_n_3_l, xs_iload_n_3, xs_aload_n_0, xs_bipush_118, xs_icmp_gt, xs_iload_n_2, xs_iload_n_1, xs_iadd, xs_iinc_3_1_i, xs_iinc_3_1_a, xs_iinc_3_1_n, xs_goto, xs_ireturn]) | (refine xr_getf (hb 0 _ rfl) (by rfl) ?_) | (refine xr_iaload (hb 1 _ rfl) hi ?_)))
    rw [hn]
    refine ⟨fun q => ?_, fun q => absurd (nI_lt (by omega) (by omega)) q⟩
    refine xe_X8_sumOf_36 ?_
    (repeat (first | (simp only [xb_X8_sumOf_0, xb_X8_sumOf_4, xb_X8_sumOf_36, xs_nil, Nat.reduceAdd, true_implies, not_true_eq_false, not_false_eq_true, false_implies, and_true, true_and, x_10, xs_iconst_0, xs_istore_n_2_i, xs_istore_n_2_a, xs_istore_n_2_n, xs_istore_n_2_l, xs_iconst_1, xs_istore_n_3_i, xs_istore_n_3_a, xs_istore_n_3_n, xs_istore_n_3_l, xs_iload_n_3, xs_aload_n_0, xs_bipush_118, xs_icmp_gt, xs_iload_n_2, xs_iload_n_1, xs_iadd, xs_iinc_3_1_i, xs_iinc_3_1_a, xs_iinc_3_1_n, xs_goto, xs_ireturn]) ))
    rw [show k = n by omega]
    simp
  | succ d ih =>
    intro k hk
    refine xe_X8_sumOf_4 ?_
    (repeat (first | (simp only [xb_X8_sumOf_0, xb_X8_sumOf_4, xb_X8_sumOf_36, xs_nil, Nat.reduceAdd, true_implies, not_true_eq_false, not_false_eq_true, false_implies, and_true, true_and, x_10, xs_iconst_0, xs_istore_n_2_i, xs_istore_n_2_a, xs_istore_n_2_n, xs_istore_n_2_l, xs_iconst_1, xs_istore_n_3_i, xs_istore_n_3_a, xs_istore_n_3_n, xs_istore_n_3_l, xs_iload_n_3, xs_aload_n_0, xs_bipush_118, xs_icmp_gt, xs_iload_n_2, xs_iload_n_1, xs_iadd, xs_iinc_3_1_i, xs_iinc_3_1_a, xs_iinc_3_1_n, xs_goto, xs_ireturn]) | (refine xr_getf (hb 0 _ rfl) (by rfl) ?_) | (refine xr_iaload (hb 1 _ rfl) hi ?_)))
    rw [hn]
    refine ⟨fun q => absurd q (nI_nlt (by omega) (by omega)), fun q => ?_⟩
    (repeat (first | (simp only [xb_X8_sumOf_0, xb_X8_sumOf_4, xb_X8_sumOf_36, xs_nil, Nat.reduceAdd, true_implies, not_true_eq_false, not_false_eq_true, false_implies, and_true, true_and, x_10, xs_iconst_0, xs_istore_n_2_i, xs_istore_n_2_a, xs_istore_n_2_n, xs_istore_n_2_l, xs_iconst_1, xs_istore_n_3_i, xs_istore_n_3_a, xs_istore_n_3_n, xs_istore_n_3_l, xs_iload_n_3, xs_aload_n_0, xs_bipush_118, xs_icmp_gt, xs_iload_n_2, xs_iload_n_1, xs_iadd, xs_iinc_3_1_i, xs_iinc_3_1_a, xs_iinc_3_1_n, xs_goto, xs_ireturn]) | (refine xr_getf (hb 0 _ rfl) (by rfl) ?_) | (refine xr_iaload (hb 1 _ rfl) (hin k (by omega)) ?_) | refine xc_v2_1 (c_wordAt (hb 0 _ rfl)) (Nat.le_of_ble_eq_true rfl) ?_))
    have := ih (k + 1) (by omega)
    rw [nI_1]
    exact this
theorem c_sumOf (hb : x_hb h m (x_mc m nw asd pa sts rf tx byt hd rd so ah ar tr bg fo bc br bk le fr nu od sp wr ha)) (hi : xin 118 nw.length) (hn : xg nw 118 = nI n) (hn2 : n < 2 ^ 30) (hin : ∀ k : Nat, k < n → xin (119 + 5 * (nI (k + 1) - 1) + x1) nw.length) : xK 106 [.ref m, .int x1] h (some (.int (xsumw nw x1 n))) h := by
  refine xK_X8_sumOf (hb 0 _ rfl) (xe_X8_sumOf_0 ?_)
  (repeat (first | (simp only [xb_X8_sumOf_0, xb_X8_sumOf_4, xb_X8_sumOf_36, xs_nil, Nat.reduceAdd, true_implies, not_true_eq_false, not_false_eq_true, false_implies, and_true, true_and, x_10, xs_iconst_0, xs_istore_n_2_i, xs_istore_n_2_a, xs_istore_n_2_n, xs_istore_n_2_l, xs_iconst_1, xs_istore_n_3_i, xs_istore_n_3_a, xs_istore_n_3_n, xs_istore_n_3_l, xs_iload_n_3, xs_aload_n_0, xs_bipush_118, xs_icmp_gt, xs_iload_n_2, xs_iload_n_1, xs_iadd, xs_iinc_3_1_i, xs_iinc_3_1_a, xs_iinc_3_1_n, xs_goto, xs_ireturn]) ))
  exact l_sumOf hb hi hn hn2 hin n 0 (by omega)
end MO2
