/-! the reference: what is held laid by words, readings laid, one analysis tried -/
def mheld (hd rd : List Int32) : Nat → Nat → List Int32 × List Int32
  | _, 0 => (hd, rd)
  | c, w + 1 => mheld (hd.set (w + 1) (nI (c % 14 % 7))) (rd.set (w + 1) (nI (c % 14 / 7))) (c / 14) w
theorem x_bits : ∀ b, b < 64 → ∀ k, k < 7 → (nI b >>> (nI k &&& 31)) &&& 1 = nI (b / 2 ^ k % 2) := by decide +kernel
/-- readings by bits, the sorts by them; whether all words have them -/
def mread (nw : List Int32) (b n : Nat) (rd so : List Int32) : Nat → (List Int32 × List Int32) × Bool
  | 0 => ((rd, so), true)
  | k + 1 => (((mread nw b n rd so k).1.1.set (k + 1) (nI (b / 2 ^ (n - (k + 1)) % 2)), (mread nw b n rd so k).1.2.set (k + 1) (xg nw (mentry nw (nI (k + 1)) + nI (b / 2 ^ (n - (k + 1)) % 2)))), (mread nw b n rd so k).2 && decide (0 ≤ xg nw (mentry nw (nI (k + 1)) + nI (b / 2 ^ (n - (k + 1)) % 2))))
theorem mread_len {nw : List Int32} {b n : Nat} {rd so : List Int32} : ∀ k, (mread nw b n rd so k).1.1.length = rd.length ∧ (mread nw b n rd so k).1.2.length = so.length
  | 0 => ⟨rfl, rfl⟩
  | k + 1 => ⟨by show (List.set _ _ _).length = _; rw [List.length_set]; exact (mread_len k).1, by show (List.set _ _ _).length = _; rw [List.length_set]; exact (mread_len k).2⟩
section MO8
variable {m : Nat} {nw asd pa rf tx hd rd so ah ar tr bg le fr nu : List Int32} {sts byt fo bc br bk od sp wr : Int32} {ha : Int64} {x1 x2 x3 x4 : Int32} {h h0 : xH} {n : Nat}
theorem l_laysHeld (h2 : 2 ≤ m) : ∀ (w c : Nat) (hd rd : List Int32) (h : xH) (_ : x_hb h m (x_mc m nw asd pa sts rf tx byt hd rd so ah ar tr bg fo bc br bk le fr nu od sp wr ha)) (_ : x_wr h0 m (x_mc m nw asd pa sts rf tx byt hd rd so ah ar tr bg fo bc br bk le fr nu od sp wr ha) = h) (_ : m + 16 ≤ h0.length) (y4 : Option Int32), w < 7 → hd.length = 7 → rd.length = 7 → c < 2 ^ 31 → x_EV 83 15 [some (.ref m), some (.int x1), some (.int (nI c)), some (.int (nI w)), y4.map Value.int] [] h none (x_wr h0 m (x_mc m nw asd pa sts rf tx byt ((mheld hd rd c w).1) ((mheld hd rd c w).2) so ah ar tr bg fo bc br bk le fr nu od sp wr ha)) := by
  intro w
  induction w with
  | zero =>
    intro c hd rd h hb e hl y4 hw l1 l2 hc
    refine xe_X8_laysHeld_15 ?_
    (repeat (first | (simp only [xb_X8_laysHeld_0, xb_X8_laysHeld_15, xb_X8_laysHeld_59, xs_nil, Nat.reduceAdd, true_implies, not_true_eq_false, not_false_eq_true, false_implies, and_true, true_and, x_10, xs_aload_n_0, xs_iload_n_1, xs_iconst_4, xs_iadd, xs_istore_n_2_i, xs_istore_n_2_a, xs_istore_n_2_n, xs_istore_n_2_l, xs_istore_n_3_i, xs_istore_n_3_a, xs_istore_n_3_n, xs_istore_n_3_l, xs_iload_n_3, xs_iconst_1, xs_icmp_lt, xs_iload_n_2, xs_bipush_14, xs_irem, xs_istore_4_i, xs_istore_4_a, xs_istore_4_n, xs_istore_4_l, xs_idiv, xs_iload_4, xs_bipush_7, xs_iinc_3_m1_i, xs_iinc_3_m1_a, xs_iinc_3_m1_n, xs_goto, xs_return]) ))
    refine ⟨fun q => ?_, fun q => absurd (by decide) q⟩
    refine xe_X8_laysHeld_59 ?_
    (repeat (first | (simp only [xb_X8_laysHeld_0, xb_X8_laysHeld_15, xb_X8_laysHeld_59, xs_nil, Nat.reduceAdd, true_implies, not_true_eq_false, not_false_eq_true, false_implies, and_true, true_and, x_10, xs_aload_n_0, xs_iload_n_1, xs_iconst_4, xs_iadd, xs_istore_n_2_i, xs_istore_n_2_a, xs_istore_n_2_n, xs_istore_n_2_l, xs_istore_n_3_i, xs_istore_n_3_a, xs_istore_n_3_n, xs_istore_n_3_l, xs_iload_n_3, xs_iconst_1, xs_icmp_lt, xs_iload_n_2, xs_bipush_14, xs_irem, xs_istore_4_i, xs_istore_4_a, xs_istore_4_n, xs_istore_4_l, xs_idiv, xs_iload_4, xs_bipush_7, xs_iinc_3_m1_i, xs_iinc_3_m1_a, xs_iinc_3_m1_n, xs_goto, xs_return]) ))
    exact e
  | succ w ih =>
    intro c hd rd h hb e hl y4 hw l1 l2 hc
    have hl2 : m + (x_mc m nw asd pa sts rf tx byt hd rd so ah ar tr bg fo bc br bk le fr nu od sp wr ha).length ≤ h0.length := hl
    have n14 : ¬ (14 : Int32) = 0 := by decide
    have n7 : ¬ (7 : Int32) = 0 := by decide
    have e3 : nI c - nI c / 14 * 14 = nI (c % 14) := pk_rem (d := 14) hc (by omega) (by omega)
    have e4 : nI c / 14 = nI (c / 14) := pk_div (d := 14) hc (by omega) (by omega)
    have hlt := Nat.mod_lt c (show 0 < 14 by omega)
    have e5 : nI (c % 14) - nI (c % 14) / 7 * 7 = nI (c % 14 % 7) := pk_rem (d := 7) (by omega) (by omega) (by omega)
    have e6 : nI (c % 14) / 7 = nI (c % 14 / 7) := pk_div (d := 7) (by omega) (by omega) (by omega)
    have e7 : nI (w + 1) + -1 = nI w := pk_m1 w
    have v1 : xin (nI (w + 1)) hd.length := x_in (by rw [l1]; omega) (by rw [l1]; decide)
    have v2 : xin (nI (w + 1)) rd.length := x_in (by rw [l2]; omega) (by rw [l2]; decide)
    have go : x_EV 83 15 [some (.ref m), some (.int x1), some (.int (nI c)), some (.int (nI (w + 1))), some (.int 0)] [] h none (x_wr h0 m (x_mc m nw asd pa sts rf tx byt ((mheld hd rd c (w + 1)).1) ((mheld hd rd c (w + 1)).2) so ah ar tr bg fo bc br bk le fr nu od sp wr ha)) ∧ x_EV 83 15 [some (.ref m), some (.int x1), some (.int (nI c)), some (.int (nI (w + 1))), none] [] h none (x_wr h0 m (x_mc m nw asd pa sts rf tx byt ((mheld hd rd c (w + 1)).1) ((mheld hd rd c (w + 1)).2) so ah ar tr bg fo bc br bk le fr nu od sp wr ha)) ∧ ∀ y : Int32, x_EV 83 15 [some (.ref m), some (.int x1), some (.int (nI c)), some (.int (nI (w + 1))), some (.int y)] [] h none (x_wr h0 m (x_mc m nw asd pa sts rf tx byt ((mheld hd rd c (w + 1)).1) ((mheld hd rd c (w + 1)).2) so ah ar tr bg fo bc br bk le fr nu od sp wr ha)) := by
      have body : x_ev x_nm x_tf x_fn x_Pg x_EV 83 none none (x_wr h0 m (x_mc m nw asd pa sts rf tx byt ((mheld hd rd c (w + 1)).1) ((mheld hd rd c (w + 1)).2) so ah ar tr bg fo bc br bk le fr nu od sp wr ha)) [(.getfield 25, 3, 7, 7), (.iload_n 3, 1, 0, 0), (.iload 4, 2, 0, 0), (.bipush 7, 2, 0, 0), (.irem, 1, 0, 0), (.iastore, 1, 0, 0), (.aload_n 0, 1, 0, 0), (.getfield 28, 3, 7, 8), (.iload_n 3, 1, 0, 0), (.iload 4, 2, 0, 0), (.bipush 7, 2, 0, 0), (.idiv, 1, 0, 0), (.iastore, 1, 0, 0), (.iinc 3 (-1), 3, 0, 0), (.goto (-41), 3, 15, 0)] 32 [some (.ref m), some (.int x1), some (.int (nI (c / 14))), some (.int (nI (w + 1))), some (.int (nI (c % 14)))] [.ref m] h := by
        (repeat (first | (simp only [xb_X8_laysHeld_0, xb_X8_laysHeld_15, xb_X8_laysHeld_59, xs_nil, Nat.reduceAdd, true_implies, not_true_eq_false, not_false_eq_true, false_implies, and_true, true_and, x_10, xs_aload_n_0, xs_iload_n_1, xs_iconst_4, xs_iadd, xs_istore_n_2_i, xs_istore_n_2_a, xs_istore_n_2_n, xs_istore_n_2_l, xs_istore_n_3_i, xs_istore_n_3_a, xs_istore_n_3_n, xs_istore_n_3_l, xs_iload_n_3, xs_iconst_1, xs_icmp_lt, xs_iload_n_2, xs_bipush_14, xs_irem, xs_istore_4_i, xs_istore_4_a, xs_istore_4_n, xs_istore_4_l, xs_idiv, xs_iload_4, xs_bipush_7, xs_iinc_3_m1_i, xs_iinc_3_m1_a, xs_iinc_3_m1_n, xs_goto, xs_return]) | (refine xr_getf (hb 0 _ rfl) (by rfl) ?_)))
        refine ⟨n7, ?_⟩
        rw [e5]
        refine xv_iastore hl2 e hb 6 (by rfl) h2 v1 (fun h1 hb e hl3 => ?_)
        rw [xu_n (by omega)] at hb e
        (repeat (first | (simp only [xb_X8_laysHeld_0, xb_X8_laysHeld_15, xb_X8_laysHeld_59, xs_nil, Nat.reduceAdd, true_implies, not_true_eq_false, not_false_eq_true, false_implies, and_true, true_and, x_10, xs_aload_n_0, xs_iload_n_1, xs_iconst_4, xs_iadd, xs_istore_n_2_i, xs_istore_n_2_a, xs_istore_n_2_n, xs_istore_n_2_l, xs_istore_n_3_i, xs_istore_n_3_a, xs_istore_n_3_n, xs_istore_n_3_l, xs_iload_n_3, xs_iconst_1, xs_icmp_lt, xs_iload_n_2, xs_bipush_14, xs_irem, xs_istore_4_i, xs_istore_4_a, xs_istore_4_n, xs_istore_4_l, xs_idiv, xs_iload_4, xs_bipush_7, xs_iinc_3_m1_i, xs_iinc_3_m1_a, xs_iinc_3_m1_n, xs_goto, xs_return]) | (refine xr_getf (hb 0 _ rfl) (by rfl) ?_)))
        refine ⟨n7, ?_⟩
        rw [e6]
        refine xv_iastore (show m + (x_mc m nw asd pa sts rf tx byt (hd.set (w + 1) (nI (c % 14 % 7))) rd so ah ar tr bg fo bc br bk le fr nu od sp wr ha).length ≤ h0.length from hl) e hb 7 (by rfl) h2 v2 (fun h1 hb e hl3 => ?_)
        rw [xu_n (by omega)] at hb e
        (repeat (first | (simp only [xb_X8_laysHeld_0, xb_X8_laysHeld_15, xb_X8_laysHeld_59, xs_nil, Nat.reduceAdd, true_implies, not_true_eq_false, not_false_eq_true, false_implies, and_true, true_and, x_10, xs_aload_n_0, xs_iload_n_1, xs_iconst_4, xs_iadd, xs_istore_n_2_i, xs_istore_n_2_a, xs_istore_n_2_n, xs_istore_n_2_l, xs_istore_n_3_i, xs_istore_n_3_a, xs_istore_n_3_n, xs_istore_n_3_l, xs_iload_n_3, xs_iconst_1, xs_icmp_lt, xs_iload_n_2, xs_bipush_14, xs_irem, xs_istore_4_i, xs_istore_4_a, xs_istore_4_n, xs_istore_4_l, xs_idiv, xs_iload_4, xs_bipush_7, xs_iinc_3_m1_i, xs_iinc_3_m1_a, xs_iinc_3_m1_n, xs_goto, xs_return]) ))
        rw [e7]
        exact ih (c / 14) (hd.set (w + 1) (nI (c % 14 % 7))) (rd.set (w + 1) (nI (c % 14 / 7))) h1 hb e hl (some _) (by omega) (by rw [List.length_set]; exact l1) (by rw [List.length_set]; exact l2) (Nat.lt_of_le_of_lt (Nat.div_le_self _ _) hc)
      have one : ∀ y4 : Option Int32, x_EV 83 15 [some (.ref m), some (.int x1), some (.int (nI c)), some (.int (nI (w + 1))), y4.map Value.int] [] h none (x_wr h0 m (x_mc m nw asd pa sts rf tx byt ((mheld hd rd c (w + 1)).1) ((mheld hd rd c (w + 1)).2) so ah ar tr bg fo bc br bk le fr nu od sp wr ha)) := by
        intro y4
        refine xe_X8_laysHeld_15 ?_
        cases y4 <;> (simp only [Option.map_some, Option.map_none]; (repeat (first | (simp only [xb_X8_laysHeld_0, xb_X8_laysHeld_15, xb_X8_laysHeld_59, xs_nil, Nat.reduceAdd, true_implies, not_true_eq_false, not_false_eq_true, false_implies, and_true, true_and, x_10, xs_aload_n_0, xs_iload_n_1, xs_iconst_4, xs_iadd, xs_istore_n_2_i, xs_istore_n_2_a, xs_istore_n_2_n, xs_istore_n_2_l, xs_istore_n_3_i, xs_istore_n_3_a, xs_istore_n_3_n, xs_istore_n_3_l, xs_iload_n_3, xs_iconst_1, xs_icmp_lt, xs_iload_n_2, xs_bipush_14, xs_irem, xs_istore_4_i, xs_istore_4_a, xs_istore_4_n, xs_istore_4_l, xs_idiv, xs_iload_4, xs_bipush_7, xs_iinc_3_m1_i, xs_iinc_3_m1_a, xs_iinc_3_m1_n, xs_goto, xs_return]) )); refine ⟨fun q => absurd q (nI_nlt (a := w + 1) (b := 1) (by omega) (by omega)), fun q => ?_⟩; refine ⟨n14, n14, ?_⟩; rw [e3, e4]; exact body)
      exact ⟨one (some 0), one none, fun y => one (some y)⟩
    cases y4 with
    | none => exact go.2.1
    | some y => exact go.2.2 y
theorem c_laysHeld {c : Nat} (hb : x_hb h m (x_mc m nw asd pa sts rf tx byt hd rd so ah ar tr bg fo bc br bk le fr nu od sp wr ha)) (h2 : 2 ≤ m) (hn : n < 7) (l1 : hd.length = 7) (l2 : rd.length = 7) (hc : c < 2 ^ 31) (hi : xin (119 + 5 * (nI n - 1) + 4) nw.length) (hC : xg nw (119 + 5 * (nI n - 1) + 4) = nI c) : xK 83 [.ref m, .int (nI n)] h none (x_wr h m (x_mc m nw asd pa sts rf tx byt ((mheld hd rd c n).1) ((mheld hd rd c n).2) so ah ar tr bg fo bc br bk le fr nu od sp wr ha)) := by
  have hl := hb.fit (Nat.zero_lt_succ _)
  have e := hb.wr hl
  refine xK_X8_laysHeld (hb 0 _ rfl) (xe_X8_laysHeld_0 ?_)
  (repeat (first | (simp only [xb_X8_laysHeld_0, xb_X8_laysHeld_15, xb_X8_laysHeld_59, xs_nil, Nat.reduceAdd, true_implies, not_true_eq_false, not_false_eq_true, false_implies, and_true, true_and, x_10, xs_aload_n_0, xs_iload_n_1, xs_iconst_4, xs_iadd, xs_istore_n_2_i, xs_istore_n_2_a, xs_istore_n_2_n, xs_istore_n_2_l, xs_istore_n_3_i, xs_istore_n_3_a, xs_istore_n_3_n, xs_istore_n_3_l, xs_iload_n_3, xs_iconst_1, xs_icmp_lt, xs_iload_n_2, xs_bipush_14, xs_irem, xs_istore_4_i, xs_istore_4_a, xs_istore_4_n, xs_istore_4_l, xs_idiv, xs_iload_4, xs_bipush_7, xs_iinc_3_m1_i, xs_iinc_3_m1_a, xs_iinc_3_m1_n, xs_goto, xs_return]) | (refine xr_getf (hb 0 _ rfl) (by rfl) ?_) | refine xc_v2_1 (c_wordAt (hb 0 _ rfl)) (Nat.le_of_ble_eq_true rfl) ?_ | (refine xr_iaload (hb 1 _ rfl) hi ?_)))
  rw [hC]
  exact l_laysHeld h2 n c hd rd h hb e hl none hn l1 l2 hc
theorem l_laysReadings {b : Nat} (h2 : 2 ≤ m) (hn : n < 7) (hb64 : b < 64) (l1 : rd.length = 7) (l2 : so.length = 7) (hv : ∀ w, w < n → xin (119 + 5 * (nI (w + 1) - 1)) nw.length ∧ ∀ z, z < 2 → xin (mentry nw (nI (w + 1)) + nI z) nw.length) : ∀ (d k : Nat) (h : xH) (_ : x_hb h m (x_mc m nw asd pa sts rf tx byt hd ((mread nw b n rd so k).1.1) ((mread nw b n rd so k).1.2) ah ar tr bg fo bc br bk le fr nu od sp wr ha)) (_ : x_wr h0 m (x_mc m nw asd pa sts rf tx byt hd ((mread nw b n rd so k).1.1) ((mread nw b n rd so k).1.2) ah ar tr bg fo bc br bk le fr nu od sp wr ha) = h) (_ : m + 16 ≤ h0.length), k + d = n → x_EV 86 5 [some (.ref m), some (.int (nI b)), some (.int (nI n)), some (.int (if (mread nw b n rd so k).2 = true then 1 else 0)), some (.int (nI (k + 1)))] [] h (some (.int (if (mread nw b n rd so n).2 = true then 1 else 0))) (x_wr h0 m (x_mc m nw asd pa sts rf tx byt hd ((mread nw b n rd so n).1.1) ((mread nw b n rd so n).1.2) ah ar tr bg fo bc br bk le fr nu od sp wr ha)) := by
  intro d
  induction d with
  | zero =>
    intro k h hb e hl hk
    have ek : k = n := by omega
    subst ek
    refine xe_X8_laysReadings_5 ?_
    (repeat (first | (simp only [xb_X8_laysReadings_0, xb_X8_laysReadings_5, xb_X8_laysReadings_70, xb_X8_laysReadings_71, xb_X8_laysReadings_78, xs_nil, Nat.reduceAdd, true_implies, not_true_eq_false, not_false_eq_true, false_implies, and_true, true_and, x_10, xs_iconst_1, xs_istore_n_3_i, xs_istore_n_3_a, xs_istore_n_3_n, xs_istore_n_3_l, xs_istore_4_i, xs_istore_4_a, xs_istore_4_n, xs_istore_4_l, xs_iload_4, xs_iload_n_2, xs_icmp_gt, xs_aload_n_0, xs_iload_n_1, xs_isub, xs_ishr, xs_iand, xs_iadd, xs_iload_n_3, xs_if_eq, xs_if_lt, xs_goto, xs_iconst_0, xs_iinc_4_1_i, xs_iinc_4_1_a, xs_iinc_4_1_n, xs_ireturn]) ))
    refine ⟨fun q => ?_, fun q => absurd (nI_lt (by omega) (by omega)) q⟩
    refine xe_X8_laysReadings_78 ?_
    (repeat (first | (simp only [xb_X8_laysReadings_0, xb_X8_laysReadings_5, xb_X8_laysReadings_70, xb_X8_laysReadings_71, xb_X8_laysReadings_78, xs_nil, Nat.reduceAdd, true_implies, not_true_eq_false, not_false_eq_true, false_implies, and_true, true_and, x_10, xs_iconst_1, xs_istore_n_3_i, xs_istore_n_3_a, xs_istore_n_3_n, xs_istore_n_3_l, xs_istore_4_i, xs_istore_4_a, xs_istore_4_n, xs_istore_4_l, xs_iload_4, xs_iload_n_2, xs_icmp_gt, xs_aload_n_0, xs_iload_n_1, xs_isub, xs_ishr, xs_iand, xs_iadd, xs_iload_n_3, xs_if_eq, xs_if_lt, xs_goto, xs_iconst_0, xs_iinc_4_1_i, xs_iinc_4_1_a, xs_iinc_4_1_n, xs_ireturn]) ))
    refine ⟨Or.inr ?_, e⟩
    exact x_bit _
  | succ d ih =>
    intro k h hb e hl hk
    obtain ⟨v1, v2⟩ := hv k (by omega)
    have ihT := ih (k + 1)
    have gl := mread_len (nw := nw) (b := b) (n := n) (rd := rd) (so := so) k
    have eN : mread nw b n rd so (k + 1) = (((mread nw b n rd so k).1.1.set (k + 1) (nI (b / 2 ^ (n - (k + 1)) % 2)), (mread nw b n rd so k).1.2.set (k + 1) (xg nw (mentry nw (nI (k + 1)) + nI (b / 2 ^ (n - (k + 1)) % 2)))), (mread nw b n rd so k).2 && decide (0 ≤ xg nw (mentry nw (nI (k + 1)) + nI (b / 2 ^ (n - (k + 1)) % 2)))) := rfl
    rw [eN] at ihT
    generalize mread nw b n rd so k = t at gl ihT hb e ⊢
    obtain ⟨⟨rd1, so1⟩, F⟩ := t
    dsimp only at gl ihT hb e ⊢
    have ebit := x_bits b hb64 (n - (k + 1)) (by omega)
    have esub : nI n - nI (k + 1) = nI (n - (k + 1)) := pk_sub (by omega)
    have hz := v2 (b / 2 ^ (n - (k + 1)) % 2) (Nat.mod_lt _ (by omega))
    have w1 : xin (nI (k + 1)) rd1.length := x_in (by rw [gl.1, l1]; omega) (by rw [gl.1, l1]; decide)
    have w2 : xin (nI (k + 1)) so1.length := x_in (by rw [gl.2, l2]; omega) (by rw [gl.2, l2]; decide)
    generalize b / 2 ^ (n - (k + 1)) % 2 = z at ebit hz ihT
    have hl2 : m + (x_mc m nw asd pa sts rf tx byt hd (rd1) (so1) ah ar tr bg fo bc br bk le fr nu od sp wr ha).length ≤ h0.length := hl
    refine xe_X8_laysReadings_5 ?_
    (repeat (first | (simp only [xb_X8_laysReadings_0, xb_X8_laysReadings_5, xb_X8_laysReadings_70, xb_X8_laysReadings_71, xb_X8_laysReadings_78, xs_nil, Nat.reduceAdd, true_implies, not_true_eq_false, not_false_eq_true, false_implies, and_true, true_and, x_10, xs_iconst_1, xs_istore_n_3_i, xs_istore_n_3_a, xs_istore_n_3_n, xs_istore_n_3_l, xs_istore_4_i, xs_istore_4_a, xs_istore_4_n, xs_istore_4_l, xs_iload_4, xs_iload_n_2, xs_icmp_gt, xs_aload_n_0, xs_iload_n_1, xs_isub, xs_ishr, xs_iand, xs_iadd, xs_iload_n_3, xs_if_eq, xs_if_lt, xs_goto, xs_iconst_0, xs_iinc_4_1_i, xs_iinc_4_1_a, xs_iinc_4_1_n, xs_ireturn]) ))
    refine ⟨fun q => absurd q (nI_nlt (by omega) (by omega)), fun q => ?_⟩
    (repeat (first | (simp only [xb_X8_laysReadings_0, xb_X8_laysReadings_5, xb_X8_laysReadings_70, xb_X8_laysReadings_71, xb_X8_laysReadings_78, xs_nil, Nat.reduceAdd, true_implies, not_true_eq_false, not_false_eq_true, false_implies, and_true, true_and, x_10, xs_iconst_1, xs_istore_n_3_i, xs_istore_n_3_a, xs_istore_n_3_n, xs_istore_n_3_l, xs_istore_4_i, xs_istore_4_a, xs_istore_4_n, xs_istore_4_l, xs_iload_4, xs_iload_n_2, xs_icmp_gt, xs_aload_n_0, xs_iload_n_1, xs_isub, xs_ishr, xs_iand, xs_iadd, xs_iload_n_3, xs_if_eq, xs_if_lt, xs_goto, xs_iconst_0, xs_iinc_4_1_i, xs_iinc_4_1_a, xs_iinc_4_1_n, xs_ireturn]) | (refine xr_getf (hb 0 _ rfl) (by rfl) ?_)))
    rw [esub, ebit]
    refine xv_iastore hl2 e hb 7 (by rfl) h2 w1 (fun h1 hb e hl3 => ?_)
    rw [xu_n (by omega)] at hb e
    have hb' : x_hb h1 m (x_mc m nw asd pa sts rf tx byt hd (rd1.set (k + 1) (nI z)) (so1) ah ar tr bg fo bc br bk le fr nu od sp wr ha) := hb
    have er : xg (rd1.set (k + 1) (nI z)) (nI (k + 1)) = nI z := by
      rw [xg_n (by omega), List.getD_eq_getElem?_getD, List.getElem?_set_self (by rw [gl.1, l1]; omega)]
      rfl
    (repeat (first | (simp only [xb_X8_laysReadings_0, xb_X8_laysReadings_5, xb_X8_laysReadings_70, xb_X8_laysReadings_71, xb_X8_laysReadings_78, xs_nil, Nat.reduceAdd, true_implies, not_true_eq_false, not_false_eq_true, false_implies, and_true, true_and, x_10, xs_iconst_1, xs_istore_n_3_i, xs_istore_n_3_a, xs_istore_n_3_n, xs_istore_n_3_l, xs_istore_4_i, xs_istore_4_a, xs_istore_4_n, xs_istore_4_l, xs_iload_4, xs_iload_n_2, xs_icmp_gt, xs_aload_n_0, xs_iload_n_1, xs_isub, xs_ishr, xs_iand, xs_iadd, xs_iload_n_3, xs_if_eq, xs_if_lt, xs_goto, xs_iconst_0, xs_iinc_4_1_i, xs_iinc_4_1_a, xs_iinc_4_1_n, xs_ireturn]) | (refine xr_getf (hb' 0 _ rfl) (by rfl) ?_) | refine xc_v2_1 (c_entryAt hb' v1) (Nat.le_of_ble_eq_true rfl) ?_ | (refine xr_iaload (hb' 7 _ rfl) (by rw [List.length_set]; exact w1) ?_)))
    rw [er]
    refine xr_iaload (hb' 1 _ rfl) hz ?_
    (repeat (first | (simp only [xb_X8_laysReadings_0, xb_X8_laysReadings_5, xb_X8_laysReadings_70, xb_X8_laysReadings_71, xb_X8_laysReadings_78, xs_nil, Nat.reduceAdd, true_implies, not_true_eq_false, not_false_eq_true, false_implies, and_true, true_and, x_10, xs_iconst_1, xs_istore_n_3_i, xs_istore_n_3_a, xs_istore_n_3_n, xs_istore_n_3_l, xs_istore_4_i, xs_istore_4_a, xs_istore_4_n, xs_istore_4_l, xs_iload_4, xs_iload_n_2, xs_icmp_gt, xs_aload_n_0, xs_iload_n_1, xs_isub, xs_ishr, xs_iand, xs_iadd, xs_iload_n_3, xs_if_eq, xs_if_lt, xs_goto, xs_iconst_0, xs_iinc_4_1_i, xs_iinc_4_1_a, xs_iinc_4_1_n, xs_ireturn]) ))
    refine xv_iastore (show m + (x_mc m nw asd pa sts rf tx byt hd (rd1.set (k + 1) (nI z)) (so1) ah ar tr bg fo bc br bk le fr nu od sp wr ha).length ≤ h0.length from hl) e hb' 8 (by rfl) h2 w2 (fun h1 hb e hl3 => ?_)
    rw [xu_n (by omega)] at hb e
    have hb2 : x_hb h1 m (x_mc m nw asd pa sts rf tx byt hd (rd1.set (k + 1) (nI z)) (so1.set (k + 1) (xg nw (mentry nw (nI (k + 1)) + nI z))) ah ar tr bg fo bc br bk le fr nu od sp wr ha) := hb
    have es : xg (so1.set (k + 1) (xg nw (mentry nw (nI (k + 1)) + nI z))) (nI (k + 1)) = xg nw (mentry nw (nI (k + 1)) + nI z) := by
      rw [xg_n (by omega), List.getD_eq_getElem?_getD, List.getElem?_set_self (by rw [gl.2, l2]; omega)]
      rfl
    (repeat (first | (simp only [xb_X8_laysReadings_0, xb_X8_laysReadings_5, xb_X8_laysReadings_70, xb_X8_laysReadings_71, xb_X8_laysReadings_78, xs_nil, Nat.reduceAdd, true_implies, not_true_eq_false, not_false_eq_true, false_implies, and_true, true_and, x_10, xs_iconst_1, xs_istore_n_3_i, xs_istore_n_3_a, xs_istore_n_3_n, xs_istore_n_3_l, xs_istore_4_i, xs_istore_4_a, xs_istore_4_n, xs_istore_4_l, xs_iload_4, xs_iload_n_2, xs_icmp_gt, xs_aload_n_0, xs_iload_n_1, xs_isub, xs_ishr, xs_iand, xs_iadd, xs_iload_n_3, xs_if_eq, xs_if_lt, xs_goto, xs_iconst_0, xs_iinc_4_1_i, xs_iinc_4_1_a, xs_iinc_4_1_n, xs_ireturn]) ))
    refine ⟨fun q2 => ?_, fun q2 => ?_⟩
    · rw [x_ite0, Bool.not_eq_true] at q2
      refine xe_X8_laysReadings_70 ?_
      (repeat (first | (simp only [xb_X8_laysReadings_0, xb_X8_laysReadings_5, xb_X8_laysReadings_70, xb_X8_laysReadings_71, xb_X8_laysReadings_78, xs_nil, Nat.reduceAdd, true_implies, not_true_eq_false, not_false_eq_true, false_implies, and_true, true_and, x_10, xs_iconst_1, xs_istore_n_3_i, xs_istore_n_3_a, xs_istore_n_3_n, xs_istore_n_3_l, xs_istore_4_i, xs_istore_4_a, xs_istore_4_n, xs_istore_4_l, xs_iload_4, xs_iload_n_2, xs_icmp_gt, xs_aload_n_0, xs_iload_n_1, xs_isub, xs_ishr, xs_iand, xs_iadd, xs_iload_n_3, xs_if_eq, xs_if_lt, xs_goto, xs_iconst_0, xs_iinc_4_1_i, xs_iinc_4_1_a, xs_iinc_4_1_n, xs_ireturn]) ))
      refine xe_X8_laysReadings_71 ?_
      (repeat (first | (simp only [xb_X8_laysReadings_0, xb_X8_laysReadings_5, xb_X8_laysReadings_70, xb_X8_laysReadings_71, xb_X8_laysReadings_78, xs_nil, Nat.reduceAdd, true_implies, not_true_eq_false, not_false_eq_true, false_implies, and_true, true_and, x_10, xs_iconst_1, xs_istore_n_3_i, xs_istore_n_3_a, xs_istore_n_3_n, xs_istore_n_3_l, xs_istore_4_i, xs_istore_4_a, xs_istore_4_n, xs_istore_4_l, xs_iload_4, xs_iload_n_2, xs_icmp_gt, xs_aload_n_0, xs_iload_n_1, xs_isub, xs_ishr, xs_iand, xs_iadd, xs_iload_n_3, xs_if_eq, xs_if_lt, xs_goto, xs_iconst_0, xs_iinc_4_1_i, xs_iinc_4_1_a, xs_iinc_4_1_n, xs_ireturn]) ))
      rw [q2, Bool.false_and] at ihT
      rw [nI_1]
      exact ihT h1 hb2 e hl (by omega)
    · rw [x_ite0, Classical.not_not] at q2
      rw [q2, Bool.true_and] at ihT
      (repeat (first | (simp only [xb_X8_laysReadings_0, xb_X8_laysReadings_5, xb_X8_laysReadings_70, xb_X8_laysReadings_71, xb_X8_laysReadings_78, xs_nil, Nat.reduceAdd, true_implies, not_true_eq_false, not_false_eq_true, false_implies, and_true, true_and, x_10, xs_iconst_1, xs_istore_n_3_i, xs_istore_n_3_a, xs_istore_n_3_n, xs_istore_n_3_l, xs_istore_4_i, xs_istore_4_a, xs_istore_4_n, xs_istore_4_l, xs_iload_4, xs_iload_n_2, xs_icmp_gt, xs_aload_n_0, xs_iload_n_1, xs_isub, xs_ishr, xs_iand, xs_iadd, xs_iload_n_3, xs_if_eq, xs_if_lt, xs_goto, xs_iconst_0, xs_iinc_4_1_i, xs_iinc_4_1_a, xs_iinc_4_1_n, xs_ireturn]) | (refine xr_getf (hb2 0 _ rfl) (by rfl) ?_) | (refine xr_iaload (hb2 8 _ rfl) (by rw [List.length_set]; exact w2) ?_)))
      rw [es]
      refine ⟨fun q3 => ?_, fun q3 => ?_⟩
      · refine xe_X8_laysReadings_70 ?_
        (repeat (first | (simp only [xb_X8_laysReadings_0, xb_X8_laysReadings_5, xb_X8_laysReadings_70, xb_X8_laysReadings_71, xb_X8_laysReadings_78, xs_nil, Nat.reduceAdd, true_implies, not_true_eq_false, not_false_eq_true, false_implies, and_true, true_and, x_10, xs_iconst_1, xs_istore_n_3_i, xs_istore_n_3_a, xs_istore_n_3_n, xs_istore_n_3_l, xs_istore_4_i, xs_istore_4_a, xs_istore_4_n, xs_istore_4_l, xs_iload_4, xs_iload_n_2, xs_icmp_gt, xs_aload_n_0, xs_iload_n_1, xs_isub, xs_ishr, xs_iand, xs_iadd, xs_iload_n_3, xs_if_eq, xs_if_lt, xs_goto, xs_iconst_0, xs_iinc_4_1_i, xs_iinc_4_1_a, xs_iinc_4_1_n, xs_ireturn]) ))
        refine xe_X8_laysReadings_71 ?_
        (repeat (first | (simp only [xb_X8_laysReadings_0, xb_X8_laysReadings_5, xb_X8_laysReadings_70, xb_X8_laysReadings_71, xb_X8_laysReadings_78, xs_nil, Nat.reduceAdd, true_implies, not_true_eq_false, not_false_eq_true, false_implies, and_true, true_and, x_10, xs_iconst_1, xs_istore_n_3_i, xs_istore_n_3_a, xs_istore_n_3_n, xs_istore_n_3_l, xs_istore_4_i, xs_istore_4_a, xs_istore_4_n, xs_istore_4_l, xs_iload_4, xs_iload_n_2, xs_icmp_gt, xs_aload_n_0, xs_iload_n_1, xs_isub, xs_ishr, xs_iand, xs_iadd, xs_iload_n_3, xs_if_eq, xs_if_lt, xs_goto, xs_iconst_0, xs_iinc_4_1_i, xs_iinc_4_1_a, xs_iinc_4_1_n, xs_ireturn]) ))
        rw [decide_eq_false (Int32.not_le.mpr q3)] at ihT
        rw [nI_1]
        exact ihT h1 hb2 e hl (by omega)
      · (repeat (first | (simp only [xb_X8_laysReadings_0, xb_X8_laysReadings_5, xb_X8_laysReadings_70, xb_X8_laysReadings_71, xb_X8_laysReadings_78, xs_nil, Nat.reduceAdd, true_implies, not_true_eq_false, not_false_eq_true, false_implies, and_true, true_and, x_10, xs_iconst_1, xs_istore_n_3_i, xs_istore_n_3_a, xs_istore_n_3_n, xs_istore_n_3_l, xs_istore_4_i, xs_istore_4_a, xs_istore_4_n, xs_istore_4_l, xs_iload_4, xs_iload_n_2, xs_icmp_gt, xs_aload_n_0, xs_iload_n_1, xs_isub, xs_ishr, xs_iand, xs_iadd, xs_iload_n_3, xs_if_eq, xs_if_lt, xs_goto, xs_iconst_0, xs_iinc_4_1_i, xs_iinc_4_1_a, xs_iinc_4_1_n, xs_ireturn]) ))
        refine xe_X8_laysReadings_71 ?_
        (repeat (first | (simp only [xb_X8_laysReadings_0, xb_X8_laysReadings_5, xb_X8_laysReadings_70, xb_X8_laysReadings_71, xb_X8_laysReadings_78, xs_nil, Nat.reduceAdd, true_implies, not_true_eq_false, not_false_eq_true, false_implies, and_true, true_and, x_10, xs_iconst_1, xs_istore_n_3_i, xs_istore_n_3_a, xs_istore_n_3_n, xs_istore_n_3_l, xs_istore_4_i, xs_istore_4_a, xs_istore_4_n, xs_istore_4_l, xs_iload_4, xs_iload_n_2, xs_icmp_gt, xs_aload_n_0, xs_iload_n_1, xs_isub, xs_ishr, xs_iand, xs_iadd, xs_iload_n_3, xs_if_eq, xs_if_lt, xs_goto, xs_iconst_0, xs_iinc_4_1_i, xs_iinc_4_1_a, xs_iinc_4_1_n, xs_ireturn]) ))
        rw [decide_eq_true (Int32.not_lt.mp q3)] at ihT
        rw [nI_1]
        exact ihT h1 hb2 e hl (by omega)
theorem c_laysReadings {b : Nat} (hb : x_hb h m (x_mc m nw asd pa sts rf tx byt hd rd so ah ar tr bg fo bc br bk le fr nu od sp wr ha)) (h2 : 2 ≤ m) (hn : n < 7) (hb64 : b < 64) (l1 : rd.length = 7) (l2 : so.length = 7) (hv : ∀ w, w < n → xin (119 + 5 * (nI (w + 1) - 1)) nw.length ∧ ∀ z, z < 2 → xin (mentry nw (nI (w + 1)) + nI z) nw.length) : xK 86 [.ref m, .int (nI b), .int (nI n)] h (some (.int (if (mread nw b n rd so n).2 = true then 1 else 0))) (x_wr h m (x_mc m nw asd pa sts rf tx byt hd ((mread nw b n rd so n).1.1) ((mread nw b n rd so n).1.2) ah ar tr bg fo bc br bk le fr nu od sp wr ha)) := by
  have hl := hb.fit (Nat.zero_lt_succ _)
  have e := hb.wr hl
  refine xK_X8_laysReadings (hb 0 _ rfl) (xe_X8_laysReadings_0 ?_)
  (repeat (first | (simp only [xb_X8_laysReadings_0, xb_X8_laysReadings_5, xb_X8_laysReadings_70, xb_X8_laysReadings_71, xb_X8_laysReadings_78, xs_nil, Nat.reduceAdd, true_implies, not_true_eq_false, not_false_eq_true, false_implies, and_true, true_and, x_10, xs_iconst_1, xs_istore_n_3_i, xs_istore_n_3_a, xs_istore_n_3_n, xs_istore_n_3_l, xs_istore_4_i, xs_istore_4_a, xs_istore_4_n, xs_istore_4_l, xs_iload_4, xs_iload_n_2, xs_icmp_gt, xs_aload_n_0, xs_iload_n_1, xs_isub, xs_ishr, xs_iand, xs_iadd, xs_iload_n_3, xs_if_eq, xs_if_lt, xs_goto, xs_iconst_0, xs_iinc_4_1_i, xs_iinc_4_1_a, xs_iinc_4_1_n, xs_ireturn]) ))
  exact l_laysReadings h2 hn hb64 l1 l2 hv n 0 h hb e hl (by omega)
end MO8
