/-! the reference: what was held laid ahead -/
def mah (src dst : List Int32) : Nat → List Int32
  | 0 => dst
  | k + 1 => (mah src dst k).set (k + 1) (src.getD (k + 1) 0)
theorem mah_len {src dst : List Int32} : ∀ k, (mah src dst k).length = dst.length
  | 0 => rfl
  | k + 1 => by
    show (List.set _ _ _).length = _
    rw [List.length_set, mah_len k]
theorem mah_get {src dst : List Int32} (hl : dst.length = 7) : ∀ k, k < 7 → ∀ w, 1 ≤ w → w ≤ k → (mah src dst k).getD w 0 = src.getD w 0
  | 0, _, w, h1, h2 => by omega
  | k + 1, hk, w, h1, h2 => by
    show (List.set (mah src dst k) (k + 1) (src.getD (k + 1) 0)).getD w 0 = _
    by_cases hw : w = k + 1
    · subst hw
      rw [gs_eq (by rw [mah_len, hl]; exact hk)]
    · rw [gs_ne (Ne.symm hw)]
      exact mah_get hl k (by omega) w h1 (by omega)
theorem mheld_get : ∀ (w c : Nat) (hd rd : List Int32), w < 7 → hd.length = 7 → rd.length = 7 → ∀ k, 1 ≤ k → (mheld hd rd c w).1.getD k 0 = (if k ≤ w then nI (c / 14 ^ (w - k) % 14 % 7) else hd.getD k 0) ∧ (mheld hd rd c w).2.getD k 0 = (if k ≤ w then nI (c / 14 ^ (w - k) % 14 / 7) else rd.getD k 0)
  | 0, c, hd, rd, _, _, _, k, hk => by
    rw [if_neg (by omega), if_neg (by omega)]
    exact ⟨rfl, rfl⟩
  | w + 1, c, hd, rd, hw, l1, l2, k, hk => by
    show (mheld (hd.set (w + 1) (nI (c % 14 % 7))) (rd.set (w + 1) (nI (c % 14 / 7))) (c / 14) w).1.getD k 0 = _ ∧ (mheld (hd.set (w + 1) (nI (c % 14 % 7))) (rd.set (w + 1) (nI (c % 14 / 7))) (c / 14) w).2.getD k 0 = _
    obtain ⟨i1, i2⟩ := mheld_get w (c / 14) (hd.set (w + 1) (nI (c % 14 % 7))) (rd.set (w + 1) (nI (c % 14 / 7))) (by omega) (by rw [List.length_set]; exact l1) (by rw [List.length_set]; exact l2) k hk
    rw [i1, i2]
    by_cases h1 : k ≤ w
    · rw [if_pos h1, if_pos h1, if_pos (by omega), if_pos (by omega), Nat.div_div_eq_div_mul, show w + 1 - k = (w - k) + 1 by omega, Nat.pow_succ']
      exact ⟨rfl, rfl⟩
    · rw [if_neg h1, if_neg h1]
      by_cases h2 : k = w + 1
      · subst h2
        rw [if_pos (Nat.le_refl _), if_pos (Nat.le_refl _), gs_eq (by rw [l1]; exact hw), gs_eq (by rw [l2]; exact hw), Nat.sub_self, Nat.pow_zero, Nat.div_one]
        exact ⟨rfl, rfl⟩
      · rw [if_neg (by omega), if_neg (by omega), gs_ne (Ne.symm h2), gs_ne (Ne.symm h2)]
        exact ⟨rfl, rfl⟩
theorem mheld_ok : ∀ (w c : Nat) (hs : List Nat) (rd : List Int32), nok hs → rd.length = 7 → (∃ hs', (mheld (hs.map nI) rd c w).1 = hs'.map nI ∧ nok hs') ∧ (mheld (hs.map nI) rd c w).2.length = 7
  | 0, c, hs, rd, hk, hl => ⟨⟨hs, rfl, hk⟩, hl⟩
  | w + 1, c, hs, rd, hk, hl => by
    show (∃ hs', (mheld ((hs.map nI).set (w + 1) (nI (c % 14 % 7))) (rd.set (w + 1) (nI (c % 14 / 7))) (c / 14) w).1 = hs'.map nI ∧ nok hs') ∧ (mheld ((hs.map nI).set (w + 1) (nI (c % 14 % 7))) (rd.set (w + 1) (nI (c % 14 / 7))) (c / 14) w).2.length = 7
    rw [← List.map_set]
    exact mheld_ok w (c / 14) (hs.set (w + 1) (c % 14 % 7)) _ (nok_set hk (Nat.mod_lt _ (by decide))) (by rw [List.length_set]; exact hl)
/-- the digits of a code -/
theorem codN_at {n : Nat} (hn : n ≤ 6) (b c : Nat) {w : Nat} (h1 : 1 ≤ w) (hw : w ≤ n) : codN n b c / 14 ^ (n - w) % 14 % 7 = hdg n c w ∧ codN n b c / 14 ^ (n - w) % 14 / 7 = rho n b w := by
  have e : codN n b c / 14 ^ (n - w) = hor 14 (codD n b c) w := by
    have := hor_div (B := 14) (D := codD n b c) (by decide) (n - w) w (fun k _ => codD_lt hn b c k)
    rw [show w + (n - w) = n by omega] at this
    exact this
  obtain ⟨k, rfl⟩ : ∃ k, w = k + 1 := ⟨w - 1, by omega⟩
  have m := hor_mod (B := 14) (D := codD n b c) (k := k) (codD_lt hn b c k)
  rw [e, m]
  have := rho_lt n b (k + 1)
  have := hdg_lt n c (k + 1)
  unfold codD
  omega
theorem held_get {n : Nat} (hn : n ≤ 6) (b c : Nat) {hd rd : List Int32} (l1 : hd.length = 7) (l2 : rd.length = 7) {w : Nat} (h1 : 1 ≤ w) (hw : w ≤ n) : (mheld hd rd (codN n b c) n).1.getD w 0 = nI (hdg n c w) ∧ (mheld hd rd (codN n b c) n).2.getD w 0 = nI (rho n b w) := by
  obtain ⟨a1, a2⟩ := mheld_get n (codN n b c) hd rd (by omega) l1 l2 w h1
  obtain ⟨d1, d2⟩ := codN_at hn b c h1 hw
  rw [a1, a2, if_pos hw, if_pos hw, d1, d2]
  exact ⟨rfl, rfl⟩
section MO12
variable {m : Nat} {nw asd pa rf tx hd rd so ah ar tr bg le fr nu : List Int32} {sts byt fo bc br bk od sp wr : Int32} {ha : Int64} {x1 x2 x3 x4 : Int32} {h h0 : xH} {n : Nat} {hs : List Nat}
theorem l_laysAhead (h2 : 2 ≤ m) (hn : n < 7) (l1 : hd.length = 7) (l2 : rd.length = 7) (l3 : ah.length = 7) (l4 : ar.length = 7) : ∀ (d k : Nat) (h : xH), xA h0 m (x_mc m nw asd pa sts rf tx byt hd rd so (mah hd ah k) (mah rd ar k) tr bg fo bc br bk le fr nu od sp wr ha) h → k + d = n → x_EV 84 11 [some (.ref m), some (.int (nI n)), some (.int (nI (k + 1)))] [] h none (x_wr h0 m (x_mc m nw asd pa sts rf tx byt hd rd so (mah hd ah n) (mah rd ar n) tr bg fo bc br bk le fr nu od sp wr ha)) := by
  intro d
  induction d with
  | zero =>
    intro k h A hk
    have ek : k = n := by omega
    subst ek
    refine xe_X8_laysAhead_11 ?_
    (repeat (first | (simp only [xb_X8_laysAhead_0, xb_X8_laysAhead_9, xb_X8_laysAhead_11, xb_X8_laysAhead_46, xs_nil, Nat.reduceAdd, true_implies, not_true_eq_false, not_false_eq_true, false_implies, and_true, true_and, x_10, xs_iload_n_1, xs_if_le, xs_aload_n_0, xs_iconst_1, xs_istore_n_2_i, xs_istore_n_2_a, xs_istore_n_2_n, xs_istore_n_2_l, xs_iload_n_2, xs_icmp_gt, xs_iinc_2_1_i, xs_iinc_2_1_a, xs_iinc_2_1_n, xs_goto, xs_return]) ))
    refine ⟨fun q => ?_, fun q => absurd (nI_lt (by omega) (by omega)) q⟩
    refine xe_X8_laysAhead_46 ?_
    (repeat (first | (simp only [xb_X8_laysAhead_0, xb_X8_laysAhead_9, xb_X8_laysAhead_11, xb_X8_laysAhead_46, xs_nil, Nat.reduceAdd, true_implies, not_true_eq_false, not_false_eq_true, false_implies, and_true, true_and, x_10, xs_iload_n_1, xs_if_le, xs_aload_n_0, xs_iconst_1, xs_istore_n_2_i, xs_istore_n_2_a, xs_istore_n_2_n, xs_istore_n_2_l, xs_iload_n_2, xs_icmp_gt, xs_iinc_2_1_i, xs_iinc_2_1_a, xs_iinc_2_1_n, xs_goto, xs_return]) ))
    exact A.e
  | succ d ih =>
    intro k h A hk
    have hb := A.hb
    have ihT := ih (k + 1)
    refine xe_X8_laysAhead_11 ?_
    (repeat (first | (simp only [xb_X8_laysAhead_0, xb_X8_laysAhead_9, xb_X8_laysAhead_11, xb_X8_laysAhead_46, xs_nil, Nat.reduceAdd, true_implies, not_true_eq_false, not_false_eq_true, false_implies, and_true, true_and, x_10, xs_iload_n_1, xs_if_le, xs_aload_n_0, xs_iconst_1, xs_istore_n_2_i, xs_istore_n_2_a, xs_istore_n_2_n, xs_istore_n_2_l, xs_iload_n_2, xs_icmp_gt, xs_iinc_2_1_i, xs_iinc_2_1_a, xs_iinc_2_1_n, xs_goto, xs_return]) ))
    refine ⟨fun q => absurd q (nI_nlt (by omega) (by omega)), fun q => ?_⟩
    (repeat (first | (simp only [xb_X8_laysAhead_0, xb_X8_laysAhead_9, xb_X8_laysAhead_11, xb_X8_laysAhead_46, xs_nil, Nat.reduceAdd, true_implies, not_true_eq_false, not_false_eq_true, false_implies, and_true, true_and, x_10, xs_iload_n_1, xs_if_le, xs_aload_n_0, xs_iconst_1, xs_istore_n_2_i, xs_istore_n_2_a, xs_istore_n_2_n, xs_istore_n_2_l, xs_iload_n_2, xs_icmp_gt, xs_iinc_2_1_i, xs_iinc_2_1_a, xs_iinc_2_1_n, xs_goto, xs_return]) | (refine xr_getf (hb 0 _ rfl) (by rfl) ?_) | (refine xr_iaload (hb 6 _ rfl) (x_in (by rw [l1]; omega) (by rw [l1]; decide)) ?_)))
    refine xa_iastore A 9 (by rfl) h2 (x_in (by rw [mah_len, l3]; omega) (by rw [mah_len, l3]; decide)) (fun h1 A => ?_)
    rw [xu_n (by omega), xg_n (by omega)] at A
    have hb := A.hb
    (repeat (first | (simp only [xb_X8_laysAhead_0, xb_X8_laysAhead_9, xb_X8_laysAhead_11, xb_X8_laysAhead_46, xs_nil, Nat.reduceAdd, true_implies, not_true_eq_false, not_false_eq_true, false_implies, and_true, true_and, x_10, xs_iload_n_1, xs_if_le, xs_aload_n_0, xs_iconst_1, xs_istore_n_2_i, xs_istore_n_2_a, xs_istore_n_2_n, xs_istore_n_2_l, xs_iload_n_2, xs_icmp_gt, xs_iinc_2_1_i, xs_iinc_2_1_a, xs_iinc_2_1_n, xs_goto, xs_return]) | (refine xr_getf (hb 0 _ rfl) (by rfl) ?_) | (refine xr_iaload (hb 7 _ rfl) (x_in (by rw [l2]; omega) (by rw [l2]; decide)) ?_)))
    refine xa_iastore A 10 (by rfl) h2 (x_in (by rw [mah_len, l4]; omega) (by rw [mah_len, l4]; decide)) (fun h1 A => ?_)
    rw [xu_n (by omega), xg_n (by omega)] at A
    (repeat (first | (simp only [xb_X8_laysAhead_0, xb_X8_laysAhead_9, xb_X8_laysAhead_11, xb_X8_laysAhead_46, xs_nil, Nat.reduceAdd, true_implies, not_true_eq_false, not_false_eq_true, false_implies, and_true, true_and, x_10, xs_iload_n_1, xs_if_le, xs_aload_n_0, xs_iconst_1, xs_istore_n_2_i, xs_istore_n_2_a, xs_istore_n_2_n, xs_istore_n_2_l, xs_iload_n_2, xs_icmp_gt, xs_iinc_2_1_i, xs_iinc_2_1_a, xs_iinc_2_1_n, xs_goto, xs_return]) ))
    rw [nI_1]
    exact ihT h1 A (by omega)
theorem c_laysAhead {b c : Nat} (hb : x_hb h m (x_mc m nw asd pa sts rf tx byt (hs.map nI) rd so ah ar tr bg fo bc br bk le fr nu od sp wr ha)) (h2 : 2 ≤ m) (hn : n < 7) (hk : nok hs) (l2 : rd.length = 7) (l3 : ah.length = 7) (l4 : ar.length = 7) (hC : 0 < n → xin (119 + 5 * (nI n - 1) + 4) nw.length ∧ xg nw (119 + 5 * (nI n - 1) + 4) = nI (codN n b c)) :
    ∃ (hs' : List Nat) (rd' ah' ar' : List Int32), (nok hs' ∧ rd'.length = 7 ∧ ah'.length = 7 ∧ ar'.length = 7 ∧ ∀ w, 1 ≤ w → w ≤ n → ah'.getD w 0 = nI (hdg n c w) ∧ ar'.getD w 0 = nI (rho n b w)) ∧ xK 84 [.ref m, .int (nI n)] h none (x_wr h m (x_mc m nw asd pa sts rf tx byt (hs'.map nI) (rd') so (ah') (ar') tr bg fo bc br bk le fr nu od sp wr ha)) := by
  have A := xA.of hb (Nat.zero_lt_succ _)
  have fin : ∀ (hd1 rd1 : List Int32) (h1 : xH), xA h m (x_mc m nw asd pa sts rf tx byt (hd1) (rd1) so ah ar tr bg fo bc br bk le fr nu od sp wr ha) h1 → hd1.length = 7 → rd1.length = 7 → x_EV 84 9 [some (.ref m), some (.int (nI n)), none] [] h1 none (x_wr h m (x_mc m nw asd pa sts rf tx byt (hd1) (rd1) so (mah hd1 ah n) (mah rd1 ar n) tr bg fo bc br bk le fr nu od sp wr ha)) := by
    intro hd1 rd1 h1 A1 q1 q2
    refine xe_X8_laysAhead_9 ?_
    (repeat (first | (simp only [xb_X8_laysAhead_0, xb_X8_laysAhead_9, xb_X8_laysAhead_11, xb_X8_laysAhead_46, xs_nil, Nat.reduceAdd, true_implies, not_true_eq_false, not_false_eq_true, false_implies, and_true, true_and, x_10, xs_iload_n_1, xs_if_le, xs_aload_n_0, xs_iconst_1, xs_istore_n_2_i, xs_istore_n_2_a, xs_istore_n_2_n, xs_istore_n_2_l, xs_iload_n_2, xs_icmp_gt, xs_iinc_2_1_i, xs_iinc_2_1_a, xs_iinc_2_1_n, xs_goto, xs_return]) ))
    exact l_laysAhead h2 hn q1 q2 l3 l4 n 0 h1 A1 (by omega)
  by_cases h0 : 0 < n
  · obtain ⟨c1, c2⟩ := hC h0
    have cl := codN_lt (show n ≤ 6 by omega) b c
    have hl : (hs.map nI).length = 7 := by rw [List.length_map]; exact hk.1
    have cH := c_laysHeld (c := codN n b c) hb h2 hn hl l2 (by omega) c1 c2
    obtain ⟨⟨hs', e1, hk'⟩, lr⟩ := mheld_ok n (codN n b c) hs rd hk l2
    have get := fun w (a : 1 ≤ w) (b' : w ≤ n) => held_get (show n ≤ 6 by omega) b c hl l2 a b'
    rw [e1] at cH get
    generalize (mheld (hs.map nI) rd (codN n b c) n).2 = rd' at cH lr get
    have hl' : (hs'.map nI).length = 7 := by rw [List.length_map]; exact hk'.1
    have A1 : xA h m (x_mc m nw asd pa sts rf tx byt (hs'.map nI) (rd') so ah ar tr bg fo bc br bk le fr nu od sp wr ha) _ := A.on rfl
    refine ⟨hs', rd', mah (hs'.map nI) ah n, mah rd' ar n, ⟨hk', lr, by rw [mah_len]; exact l3, by rw [mah_len]; exact l4, fun w a b' => ?_⟩, ?_⟩
    · rw [mah_get l3 n hn w a b', mah_get l4 n hn w a b']
      exact get w a b'
    · refine xK_X8_laysAhead (hb 0 _ rfl) (xe_X8_laysAhead_0 ?_)
      (repeat (first | (simp only [xb_X8_laysAhead_0, xb_X8_laysAhead_9, xb_X8_laysAhead_11, xb_X8_laysAhead_46, xs_nil, Nat.reduceAdd, true_implies, not_true_eq_false, not_false_eq_true, false_implies, and_true, true_and, x_10, xs_iload_n_1, xs_if_le, xs_aload_n_0, xs_iconst_1, xs_istore_n_2_i, xs_istore_n_2_a, xs_istore_n_2_n, xs_istore_n_2_l, xs_iload_n_2, xs_icmp_gt, xs_iinc_2_1_i, xs_iinc_2_1_a, xs_iinc_2_1_n, xs_goto, xs_return]) ))
      refine ⟨fun q => absurd q (nI_nle h0 (by omega)), fun _ => ?_⟩
      refine xc_v2_0 cH (Nat.le_of_ble_eq_true rfl) ?_
      (repeat (first | (simp only [xb_X8_laysAhead_0, xb_X8_laysAhead_9, xb_X8_laysAhead_11, xb_X8_laysAhead_46, xs_nil, Nat.reduceAdd, true_implies, not_true_eq_false, not_false_eq_true, false_implies, and_true, true_and, x_10, xs_iload_n_1, xs_if_le, xs_aload_n_0, xs_iconst_1, xs_istore_n_2_i, xs_istore_n_2_a, xs_istore_n_2_n, xs_istore_n_2_l, xs_iload_n_2, xs_icmp_gt, xs_iinc_2_1_i, xs_iinc_2_1_a, xs_iinc_2_1_n, xs_goto, xs_return]) ))
      exact fin _ _ _ A1 hl' lr
  · have hn0 : n = 0 := by omega
    have hl : (hs.map nI).length = 7 := by rw [List.length_map]; exact hk.1
    refine ⟨hs, rd, mah (hs.map nI) ah n, mah rd ar n, ⟨hk, l2, by rw [mah_len]; exact l3, by rw [mah_len]; exact l4, fun w a b' => by omega⟩, ?_⟩
    refine xK_X8_laysAhead (hb 0 _ rfl) (xe_X8_laysAhead_0 ?_)
    (repeat (first | (simp only [xb_X8_laysAhead_0, xb_X8_laysAhead_9, xb_X8_laysAhead_11, xb_X8_laysAhead_46, xs_nil, Nat.reduceAdd, true_implies, not_true_eq_false, not_false_eq_true, false_implies, and_true, true_and, x_10, xs_iload_n_1, xs_if_le, xs_aload_n_0, xs_iconst_1, xs_istore_n_2_i, xs_istore_n_2_a, xs_istore_n_2_n, xs_istore_n_2_l, xs_iload_n_2, xs_icmp_gt, xs_iinc_2_1_i, xs_iinc_2_1_a, xs_iinc_2_1_n, xs_goto, xs_return]) ))
    refine ⟨fun _ => fin _ _ _ A hl l2, fun q => absurd (by rw [hn0]; decide) q⟩
end MO12
