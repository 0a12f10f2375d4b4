/-! the reference's trees: heads as numbers -/
def ncome (hs : List Nat) (t : Nat) : Nat → Nat → Nat
  | 0, a => a
  | k + 1, a => if a = t ∨ a = 0 then a else ncome hs t k (hs.getD a 0)
/-- all from k on, d of them, come to t -/
def nbr (hs : List Nat) (t : Nat) : Nat → Nat → Bool
  | _, 0 => true
  | k, d + 1 => decide (ncome hs t 7 k = t) && nbr hs t (k + 1) d
def nbridged (hs : List Nat) (w : Nat) : Bool := nbr hs (hs.getD w 0) (min (hs.getD w 0) w + 1) (max (hs.getD w 0) w - (min (hs.getD w 0) w + 1))
def nroots (hs : List Nat) : Nat → Nat
  | 0 => 0
  | k + 1 => nroots hs k + (if hs.getD (k + 1) 0 = 0 then 1 else 0)
def nfine (hs : List Nat) : Nat → Bool
  | 0 => true
  | k + 1 => nfine hs k && (!decide (hs.getD (k + 1) 0 = k + 1) && decide (ncome hs 0 7 (k + 1) = 0))
def nspan (hs : List Nat) : Nat → Bool
  | 0 => true
  | k + 1 => nspan hs k && (decide (hs.getD (k + 1) 0 = 0) || nbridged hs (k + 1))
def ntree (hs : List Nat) (n : Nat) : Bool := nfine hs n && nspan hs n && decide (nroots hs n = 1)
/-- seven heads, each a word's number or 0 -/
def nok (hs : List Nat) : Prop := hs.length = 7 ∧ ∀ k, hs.getD k 0 < 7
theorem xg_map {hs : List Nat} {k : Nat} (hk : k < hs.length) (hs2 : hs.length < 2 ^ 31) : xg (hs.map nI) (nI k) = nI (hs.getD k 0) := by
  rw [xg_n (by omega), List.getD_eq_getElem?_getD, List.getElem?_map, List.getElem?_eq_getElem hk, List.getD_eq_getElem?_getD, List.getElem?_eq_getElem hk]
  rfl
theorem ncome_lt {hs : List Nat} (hk : nok hs) {t : Nat} : ∀ (d a : Nat), a < 7 → ncome hs t d a < 7
  | 0, a, ha => ha
  | d + 1, a, ha => by
    unfold ncome
    split
    · exact ha
    · exact ncome_lt hk d _ (hk.2 a)
theorem xcome_n {hs : List Nat} (hk : nok hs) {t : Nat} (ht : t < 7) : ∀ (d a : Nat), a < 7 → xcome (hs.map nI) (nI t) d (nI a) = nI (ncome hs t d a)
  | 0, a, ha => rfl
  | d + 1, a, ha => by
    have e0 : (0 : Int32) = nI 0 := rfl
    unfold xcome ncome
    rw [e0, xg_map (by rw [hk.1]; exact ha) (by rw [hk.1]; decide)]
    have hi : (nI a = nI t ∨ nI a = nI 0) ↔ (a = t ∨ a = 0) := by rw [nI_eq (by omega) (by omega), nI_eq (by omega) (by omega)]
    by_cases hc : a = t ∨ a = 0
    · rw [if_pos (hi.mpr hc), if_pos hc]
    · rw [if_neg (fun z => hc (hi.mp z)), if_neg hc]
      exact xcome_n hk ht d _ (hk.2 a)
theorem x_band {a b : Bool} : (if (if a = true then (1 : Int32) else 0) = 0 then (0 : Int32) else (if b = true then 1 else 0)) = (if (a && b) = true then 1 else 0) := by
  cases a <;> cases b <;> simp
section MO3
variable {m : Nat} {nw asd pa rf tx rd so ah ar tr bg le fr nu : List Int32} {hs : List Nat} {sts byt fo bc br bk od sp wr : Int32} {ha : Int64} {x1 x2 x3 x4 : Int32} {h h0 : xH} {n : Nat}
theorem c_ncomesTo {w t : Nat} (hb : x_hb h m (x_mc m nw asd pa sts rf tx byt (hs.map nI) rd so ah ar tr bg fo bc br bk le fr nu od sp wr ha)) (hk : nok hs) (hw : w < 7) (ht : t < 7) : xK 9 [.ref m, .int (nI w), .int (nI t)] h (some (.int (if ncome hs t 7 w = t then 1 else 0))) h := by
  have hlen : (hs.map nI).length = 7 := by rw [List.length_map]; exact hk.1
  have := c_comesTo (x1 := nI w) (x2 := nI t) hb (fun a ha => ?_) (x_in (by rw [hlen]; exact hw) (by rw [hlen]; decide))
  · rw [xcome_n hk ht 7 w hw] at this
    have e : (nI (ncome hs t 7 w) = nI t) = (ncome hs t 7 w = t) := propext (nI_eq (by have := ncome_lt hk (t := t) 7 w hw; omega) (by omega))
    simp only [e] at this
    exact this
  · obtain ⟨j, hj, rfl⟩ := nI_of ha.1
    have h1 := ha.2
    rw [nI_clamp hj, hlen] at h1
    rw [xg_map (by rw [hk.1]; exact h1) (by rw [hk.1]; decide), hlen]
    exact x_in (hk.2 j) (by decide)
theorem l_isBridged {w H : Nat} (hb : x_hb h m (x_mc m nw asd pa sts rf tx byt (hs.map nI) rd so ah ar tr bg fo bc br bk le fr nu od sp wr ha)) (hk : nok hs) (hw : w < 7) (hH : H < 7) : ∀ (d k : Nat) (acc : Bool), H - k = d → k < 9 → x_EV 10 50 [some (.ref m), some (.int (nI w)), some (.int x1), some (.int (nI H)), some (.int (if acc = true then 1 else 0)), some (.int (nI k))] [] h (some (.int (if (acc && nbr hs (hs.getD w 0) k d) = true then 1 else 0))) h := by
  have hlen : (hs.map nI).length = 7 := by rw [List.length_map]; exact hk.1
  have ew : xg (hs.map nI) (nI w) = nI (hs.getD w 0) := xg_map (by rw [hk.1]; exact hw) (by rw [hk.1]; decide)
  intro d
  induction d with
  | zero =>
    intro k acc hd hk9
    refine xe_X8_isBridged_50 ?_
    (repeat (first | (simp only [xb_X8_isBridged_0, xb_X8_isBridged_19, xb_X8_isBridged_20, xb_X8_isBridged_35, xb_X8_isBridged_41, xb_X8_isBridged_50, xb_X8_isBridged_80, xb_X8_isBridged_81, xb_X8_isBridged_89, xs_nil, Nat.reduceAdd, true_implies, not_true_eq_false, not_false_eq_true, false_implies, and_true, true_and, x_10, xs_aload_n_0, xs_iload_n_1, xs_icmp_ge, xs_goto, xs_istore_n_2_i, xs_istore_n_2_a, xs_istore_n_2_n, xs_istore_n_2_l, xs_istore_n_3_i, xs_istore_n_3_a, xs_istore_n_3_n, xs_istore_n_3_l, xs_iconst_1, xs_istore_4_i, xs_istore_4_a, xs_istore_4_n, xs_istore_4_l, xs_iload_n_2, xs_iadd, xs_istore_5_i, xs_istore_5_a, xs_istore_5_n, xs_istore_5_l, xs_iload_5, xs_iload_n_3, xs_iload_4, xs_if_eq, xs_iconst_0, xs_iinc_5_1_i, xs_iinc_5_1_a, xs_iinc_5_1_n, xs_ireturn]) ))
    refine ⟨fun q => ?_, fun q => absurd (nI_le (by omega) (by omega)) q⟩
    refine xe_X8_isBridged_89 ?_
    (repeat (first | (simp only [xb_X8_isBridged_0, xb_X8_isBridged_19, xb_X8_isBridged_20, xb_X8_isBridged_35, xb_X8_isBridged_41, xb_X8_isBridged_50, xb_X8_isBridged_80, xb_X8_isBridged_81, xb_X8_isBridged_89, xs_nil, Nat.reduceAdd, true_implies, not_true_eq_false, not_false_eq_true, false_implies, and_true, true_and, x_10, xs_aload_n_0, xs_iload_n_1, xs_icmp_ge, xs_goto, xs_istore_n_2_i, xs_istore_n_2_a, xs_istore_n_2_n, xs_istore_n_2_l, xs_istore_n_3_i, xs_istore_n_3_a, xs_istore_n_3_n, xs_istore_n_3_l, xs_iconst_1, xs_istore_4_i, xs_istore_4_a, xs_istore_4_n, xs_istore_4_l, xs_iload_n_2, xs_iadd, xs_istore_5_i, xs_istore_5_a, xs_istore_5_n, xs_istore_5_l, xs_iload_5, xs_iload_n_3, xs_iload_4, xs_if_eq, xs_iconst_0, xs_iinc_5_1_i, xs_iinc_5_1_a, xs_iinc_5_1_n, xs_ireturn]) ))
    cases acc <;> simp [nbr]
  | succ d ih =>
    intro k acc hd hk9
    have ihT := ih (k + 1) (acc && decide (ncome hs (hs.getD w 0) 7 k = hs.getD w 0)) (by omega) (by omega)
    have e9 : (acc && nbr hs (hs.getD w 0) k (d + 1)) = ((acc && decide (ncome hs (hs.getD w 0) 7 k = hs.getD w 0)) && nbr hs (hs.getD w 0) (k + 1) d) := by
      show (acc && (decide (ncome hs (hs.getD w 0) 7 k = hs.getD w 0) && nbr hs (hs.getD w 0) (k + 1) d)) = _
      rw [Bool.and_assoc]
    rw [e9]
    refine xe_X8_isBridged_50 ?_
    (repeat (first | (simp only [xb_X8_isBridged_0, xb_X8_isBridged_19, xb_X8_isBridged_20, xb_X8_isBridged_35, xb_X8_isBridged_41, xb_X8_isBridged_50, xb_X8_isBridged_80, xb_X8_isBridged_81, xb_X8_isBridged_89, xs_nil, Nat.reduceAdd, true_implies, not_true_eq_false, not_false_eq_true, false_implies, and_true, true_and, x_10, xs_aload_n_0, xs_iload_n_1, xs_icmp_ge, xs_goto, xs_istore_n_2_i, xs_istore_n_2_a, xs_istore_n_2_n, xs_istore_n_2_l, xs_istore_n_3_i, xs_istore_n_3_a, xs_istore_n_3_n, xs_istore_n_3_l, xs_iconst_1, xs_istore_4_i, xs_istore_4_a, xs_istore_4_n, xs_istore_4_l, xs_iload_n_2, xs_iadd, xs_istore_5_i, xs_istore_5_a, xs_istore_5_n, xs_istore_5_l, xs_iload_5, xs_iload_n_3, xs_iload_4, xs_if_eq, xs_iconst_0, xs_iinc_5_1_i, xs_iinc_5_1_a, xs_iinc_5_1_n, xs_ireturn]) ))
    refine ⟨fun q => absurd q (nI_ge (by omega) (by omega)), fun q => ⟨fun q2 => ?_, fun q2 => ?_⟩⟩
    · refine xe_X8_isBridged_80 ?_
      (repeat (first | (simp only [xb_X8_isBridged_0, xb_X8_isBridged_19, xb_X8_isBridged_20, xb_X8_isBridged_35, xb_X8_isBridged_41, xb_X8_isBridged_50, xb_X8_isBridged_80, xb_X8_isBridged_81, xb_X8_isBridged_89, xs_nil, Nat.reduceAdd, true_implies, not_true_eq_false, not_false_eq_true, false_implies, and_true, true_and, x_10, xs_aload_n_0, xs_iload_n_1, xs_icmp_ge, xs_goto, xs_istore_n_2_i, xs_istore_n_2_a, xs_istore_n_2_n, xs_istore_n_2_l, xs_istore_n_3_i, xs_istore_n_3_a, xs_istore_n_3_n, xs_istore_n_3_l, xs_iconst_1, xs_istore_4_i, xs_istore_4_a, xs_istore_4_n, xs_istore_4_l, xs_iload_n_2, xs_iadd, xs_istore_5_i, xs_istore_5_a, xs_istore_5_n, xs_istore_5_l, xs_iload_5, xs_iload_n_3, xs_iload_4, xs_if_eq, xs_iconst_0, xs_iinc_5_1_i, xs_iinc_5_1_a, xs_iinc_5_1_n, xs_ireturn]) ))
      refine xe_X8_isBridged_81 ?_
      (repeat (first | (simp only [xb_X8_isBridged_0, xb_X8_isBridged_19, xb_X8_isBridged_20, xb_X8_isBridged_35, xb_X8_isBridged_41, xb_X8_isBridged_50, xb_X8_isBridged_80, xb_X8_isBridged_81, xb_X8_isBridged_89, xs_nil, Nat.reduceAdd, true_implies, not_true_eq_false, not_false_eq_true, false_implies, and_true, true_and, x_10, xs_aload_n_0, xs_iload_n_1, xs_icmp_ge, xs_goto, xs_istore_n_2_i, xs_istore_n_2_a, xs_istore_n_2_n, xs_istore_n_2_l, xs_istore_n_3_i, xs_istore_n_3_a, xs_istore_n_3_n, xs_istore_n_3_l, xs_iconst_1, xs_istore_4_i, xs_istore_4_a, xs_istore_4_n, xs_istore_4_l, xs_iload_n_2, xs_iadd, xs_istore_5_i, xs_istore_5_a, xs_istore_5_n, xs_istore_5_l, xs_iload_5, xs_iload_n_3, xs_iload_4, xs_if_eq, xs_iconst_0, xs_iinc_5_1_i, xs_iinc_5_1_a, xs_iinc_5_1_n, xs_ireturn]) ))
      have : acc = false := by cases acc <;> simp_all
      subst this
      rw [nI_1]
      exact ihT
    · have : acc = true := by cases acc <;> simp_all
      subst this
      (repeat (first | (simp only [xb_X8_isBridged_0, xb_X8_isBridged_19, xb_X8_isBridged_20, xb_X8_isBridged_35, xb_X8_isBridged_41, xb_X8_isBridged_50, xb_X8_isBridged_80, xb_X8_isBridged_81, xb_X8_isBridged_89, xs_nil, Nat.reduceAdd, true_implies, not_true_eq_false, not_false_eq_true, false_implies, and_true, true_and, x_10, xs_aload_n_0, xs_iload_n_1, xs_icmp_ge, xs_goto, xs_istore_n_2_i, xs_istore_n_2_a, xs_istore_n_2_n, xs_istore_n_2_l, xs_istore_n_3_i, xs_istore_n_3_a, xs_istore_n_3_n, xs_istore_n_3_l, xs_iconst_1, xs_istore_4_i, xs_istore_4_a, xs_istore_4_n, xs_istore_4_l, xs_iload_n_2, xs_iadd, xs_istore_5_i, xs_istore_5_a, xs_istore_5_n, xs_istore_5_l, xs_iload_5, xs_iload_n_3, xs_iload_4, xs_if_eq, xs_iconst_0, xs_iinc_5_1_i, xs_iinc_5_1_a, xs_iinc_5_1_n, xs_ireturn]) | (refine xr_getf (hb 0 _ rfl) (by rfl) ?_) | (refine xr_iaload (hb 6 _ rfl) (x_in (by rw [hlen]; exact hw) (by rw [hlen]; decide)) ?_)))
      rw [ew]
      refine xc_v3_1 (c_ncomesTo hb hk (by omega) (hk.2 w)) (Nat.le_of_ble_eq_true rfl) ?_
      (repeat (first | (simp only [xb_X8_isBridged_0, xb_X8_isBridged_19, xb_X8_isBridged_20, xb_X8_isBridged_35, xb_X8_isBridged_41, xb_X8_isBridged_50, xb_X8_isBridged_80, xb_X8_isBridged_81, xb_X8_isBridged_89, xs_nil, Nat.reduceAdd, true_implies, not_true_eq_false, not_false_eq_true, false_implies, and_true, true_and, x_10, xs_aload_n_0, xs_iload_n_1, xs_icmp_ge, xs_goto, xs_istore_n_2_i, xs_istore_n_2_a, xs_istore_n_2_n, xs_istore_n_2_l, xs_istore_n_3_i, xs_istore_n_3_a, xs_istore_n_3_n, xs_istore_n_3_l, xs_iconst_1, xs_istore_4_i, xs_istore_4_a, xs_istore_4_n, xs_istore_4_l, xs_iload_n_2, xs_iadd, xs_istore_5_i, xs_istore_5_a, xs_istore_5_n, xs_istore_5_l, xs_iload_5, xs_iload_n_3, xs_iload_4, xs_if_eq, xs_iconst_0, xs_iinc_5_1_i, xs_iinc_5_1_a, xs_iinc_5_1_n, xs_ireturn]) ))
      refine ⟨fun q3 => ?_, fun q3 => ?_⟩
      · refine xe_X8_isBridged_80 ?_
        (repeat (first | (simp only [xb_X8_isBridged_0, xb_X8_isBridged_19, xb_X8_isBridged_20, xb_X8_isBridged_35, xb_X8_isBridged_41, xb_X8_isBridged_50, xb_X8_isBridged_80, xb_X8_isBridged_81, xb_X8_isBridged_89, xs_nil, Nat.reduceAdd, true_implies, not_true_eq_false, not_false_eq_true, false_implies, and_true, true_and, x_10, xs_aload_n_0, xs_iload_n_1, xs_icmp_ge, xs_goto, xs_istore_n_2_i, xs_istore_n_2_a, xs_istore_n_2_n, xs_istore_n_2_l, xs_istore_n_3_i, xs_istore_n_3_a, xs_istore_n_3_n, xs_istore_n_3_l, xs_iconst_1, xs_istore_4_i, xs_istore_4_a, xs_istore_4_n, xs_istore_4_l, xs_iload_n_2, xs_iadd, xs_istore_5_i, xs_istore_5_a, xs_istore_5_n, xs_istore_5_l, xs_iload_5, xs_iload_n_3, xs_iload_4, xs_if_eq, xs_iconst_0, xs_iinc_5_1_i, xs_iinc_5_1_a, xs_iinc_5_1_n, xs_ireturn]) ))
        refine xe_X8_isBridged_81 ?_
        (repeat (first | (simp only [xb_X8_isBridged_0, xb_X8_isBridged_19, xb_X8_isBridged_20, xb_X8_isBridged_35, xb_X8_isBridged_41, xb_X8_isBridged_50, xb_X8_isBridged_80, xb_X8_isBridged_81, xb_X8_isBridged_89, xs_nil, Nat.reduceAdd, true_implies, not_true_eq_false, not_false_eq_true, false_implies, and_true, true_and, x_10, xs_aload_n_0, xs_iload_n_1, xs_icmp_ge, xs_goto, xs_istore_n_2_i, xs_istore_n_2_a, xs_istore_n_2_n, xs_istore_n_2_l, xs_istore_n_3_i, xs_istore_n_3_a, xs_istore_n_3_n, xs_istore_n_3_l, xs_iconst_1, xs_istore_4_i, xs_istore_4_a, xs_istore_4_n, xs_istore_4_l, xs_iload_n_2, xs_iadd, xs_istore_5_i, xs_istore_5_a, xs_istore_5_n, xs_istore_5_l, xs_iload_5, xs_iload_n_3, xs_iload_4, xs_if_eq, xs_iconst_0, xs_iinc_5_1_i, xs_iinc_5_1_a, xs_iinc_5_1_n, xs_ireturn]) ))
        rw [x_ite0] at q3
        rw [decide_eq_false q3] at ihT ⊢
        rw [nI_1]
        exact ihT
      · (repeat (first | (simp only [xb_X8_isBridged_0, xb_X8_isBridged_19, xb_X8_isBridged_20, xb_X8_isBridged_35, xb_X8_isBridged_41, xb_X8_isBridged_50, xb_X8_isBridged_80, xb_X8_isBridged_81, xb_X8_isBridged_89, xs_nil, Nat.reduceAdd, true_implies, not_true_eq_false, not_false_eq_true, false_implies, and_true, true_and, x_10, xs_aload_n_0, xs_iload_n_1, xs_icmp_ge, xs_goto, xs_istore_n_2_i, xs_istore_n_2_a, xs_istore_n_2_n, xs_istore_n_2_l, xs_istore_n_3_i, xs_istore_n_3_a, xs_istore_n_3_n, xs_istore_n_3_l, xs_iconst_1, xs_istore_4_i, xs_istore_4_a, xs_istore_4_n, xs_istore_4_l, xs_iload_n_2, xs_iadd, xs_istore_5_i, xs_istore_5_a, xs_istore_5_n, xs_istore_5_l, xs_iload_5, xs_iload_n_3, xs_iload_4, xs_if_eq, xs_iconst_0, xs_iinc_5_1_i, xs_iinc_5_1_a, xs_iinc_5_1_n, xs_ireturn]) ))
        refine xe_X8_isBridged_81 ?_
        (repeat (first | (simp only [xb_X8_isBridged_0, xb_X8_isBridged_19, xb_X8_isBridged_20, xb_X8_isBridged_35, xb_X8_isBridged_41, xb_X8_isBridged_50, xb_X8_isBridged_80, xb_X8_isBridged_81, xb_X8_isBridged_89, xs_nil, Nat.reduceAdd, true_implies, not_true_eq_false, not_false_eq_true, false_implies, and_true, true_and, x_10, xs_aload_n_0, xs_iload_n_1, xs_icmp_ge, xs_goto, xs_istore_n_2_i, xs_istore_n_2_a, xs_istore_n_2_n, xs_istore_n_2_l, xs_istore_n_3_i, xs_istore_n_3_a, xs_istore_n_3_n, xs_istore_n_3_l, xs_iconst_1, xs_istore_4_i, xs_istore_4_a, xs_istore_4_n, xs_istore_4_l, xs_iload_n_2, xs_iadd, xs_istore_5_i, xs_istore_5_a, xs_istore_5_n, xs_istore_5_l, xs_iload_5, xs_iload_n_3, xs_iload_4, xs_if_eq, xs_iconst_0, xs_iinc_5_1_i, xs_iinc_5_1_a, xs_iinc_5_1_n, xs_ireturn]) ))
        rw [x_ite0, Classical.not_not] at q3
        rw [decide_eq_true q3] at ihT ⊢
        rw [nI_1]
        exact ihT
theorem c_isBridged {w : Nat} (hb : x_hb h m (x_mc m nw asd pa sts rf tx byt (hs.map nI) rd so ah ar tr bg fo bc br bk le fr nu od sp wr ha)) (hk : nok hs) (hw : w < 7) : xK 10 [.ref m, .int (nI w)] h (some (.int (if nbridged hs w = true then 1 else 0))) h := by
  have hlen : (hs.map nI).length = 7 := by rw [List.length_map]; exact hk.1
  have ew : xg (hs.map nI) (nI w) = nI (hs.getD w 0) := xg_map (by rw [hk.1]; exact hw) (by rw [hk.1]; decide)
  have hq := hk.2 w
  have hin : xin (nI w) (hs.map nI).length := x_in (by rw [hlen]; exact hw) (by rw [hlen]; decide)
  have fin : ∀ (x1 : Int32) (H k : Nat), H < 7 → k < 8 → H = max (hs.getD w 0) w → k = min (hs.getD w 0) w + 1 → x_EV 10 50 [some (.ref m), some (.int (nI w)), some (.int x1), some (.int (nI H)), some (.int 1), some (.int (nI k))] [] h (some (.int (if nbridged hs w = true then 1 else 0))) h := by
    intro x1 H k h1 h2 h3 h4
    have := l_isBridged (x1 := x1) hb hk hw h1 (H - k) k true rfl (by omega)
    rw [Bool.true_and] at this
    unfold nbridged
    rw [← h3, ← h4]
    exact this
  refine xK_X8_isBridged (hb 0 _ rfl) (xe_X8_isBridged_0 ?_)
  (repeat (first | (simp only [xb_X8_isBridged_0, xb_X8_isBridged_19, xb_X8_isBridged_20, xb_X8_isBridged_35, xb_X8_isBridged_41, xb_X8_isBridged_50, xb_X8_isBridged_80, xb_X8_isBridged_81, xb_X8_isBridged_89, xs_nil, Nat.reduceAdd, true_implies, not_true_eq_false, not_false_eq_true, false_implies, and_true, true_and, x_10, xs_aload_n_0, xs_iload_n_1, xs_icmp_ge, xs_goto, xs_istore_n_2_i, xs_istore_n_2_a, xs_istore_n_2_n, xs_istore_n_2_l, xs_istore_n_3_i, xs_istore_n_3_a, xs_istore_n_3_n, xs_istore_n_3_l, xs_iconst_1, xs_istore_4_i, xs_istore_4_a, xs_istore_4_n, xs_istore_4_l, xs_iload_n_2, xs_iadd, xs_istore_5_i, xs_istore_5_a, xs_istore_5_n, xs_istore_5_l, xs_iload_5, xs_iload_n_3, xs_iload_4, xs_if_eq, xs_iconst_0, xs_iinc_5_1_i, xs_iinc_5_1_a, xs_iinc_5_1_n, xs_ireturn]) | (refine xr_getf (hb 0 _ rfl) (by rfl) ?_) | (refine xr_iaload (hb 6 _ rfl) hin ?_)))
  rw [ew]
  refine ⟨fun q => ?_, fun q => ?_⟩
  · have hle : w ≤ hs.getD w 0 := (nI_leI (by omega) (by omega)).mp q
    refine xe_X8_isBridged_19 ?_
    (repeat (first | (simp only [xb_X8_isBridged_0, xb_X8_isBridged_19, xb_X8_isBridged_20, xb_X8_isBridged_35, xb_X8_isBridged_41, xb_X8_isBridged_50, xb_X8_isBridged_80, xb_X8_isBridged_81, xb_X8_isBridged_89, xs_nil, Nat.reduceAdd, true_implies, not_true_eq_false, not_false_eq_true, false_implies, and_true, true_and, x_10, xs_aload_n_0, xs_iload_n_1, xs_icmp_ge, xs_goto, xs_istore_n_2_i, xs_istore_n_2_a, xs_istore_n_2_n, xs_istore_n_2_l, xs_istore_n_3_i, xs_istore_n_3_a, xs_istore_n_3_n, xs_istore_n_3_l, xs_iconst_1, xs_istore_4_i, xs_istore_4_a, xs_istore_4_n, xs_istore_4_l, xs_iload_n_2, xs_iadd, xs_istore_5_i, xs_istore_5_a, xs_istore_5_n, xs_istore_5_l, xs_iload_5, xs_iload_n_3, xs_iload_4, xs_if_eq, xs_iconst_0, xs_iinc_5_1_i, xs_iinc_5_1_a, xs_iinc_5_1_n, xs_ireturn]) ))
    refine xe_X8_isBridged_20 ?_
    (repeat (first | (simp only [xb_X8_isBridged_0, xb_X8_isBridged_19, xb_X8_isBridged_20, xb_X8_isBridged_35, xb_X8_isBridged_41, xb_X8_isBridged_50, xb_X8_isBridged_80, xb_X8_isBridged_81, xb_X8_isBridged_89, xs_nil, Nat.reduceAdd, true_implies, not_true_eq_false, not_false_eq_true, false_implies, and_true, true_and, x_10, xs_aload_n_0, xs_iload_n_1, xs_icmp_ge, xs_goto, xs_istore_n_2_i, xs_istore_n_2_a, xs_istore_n_2_n, xs_istore_n_2_l, xs_istore_n_3_i, xs_istore_n_3_a, xs_istore_n_3_n, xs_istore_n_3_l, xs_iconst_1, xs_istore_4_i, xs_istore_4_a, xs_istore_4_n, xs_istore_4_l, xs_iload_n_2, xs_iadd, xs_istore_5_i, xs_istore_5_a, xs_istore_5_n, xs_istore_5_l, xs_iload_5, xs_iload_n_3, xs_iload_4, xs_if_eq, xs_iconst_0, xs_iinc_5_1_i, xs_iinc_5_1_a, xs_iinc_5_1_n, xs_ireturn]) | (refine xr_getf (hb 0 _ rfl) (by rfl) ?_) | (refine xr_iaload (hb 6 _ rfl) hin ?_)))
    rw [ew]
    refine ⟨fun q2 => ?_, fun q2 => absurd q q2⟩
    refine xe_X8_isBridged_35 ?_
    (repeat (first | (simp only [xb_X8_isBridged_0, xb_X8_isBridged_19, xb_X8_isBridged_20, xb_X8_isBridged_35, xb_X8_isBridged_41, xb_X8_isBridged_50, xb_X8_isBridged_80, xb_X8_isBridged_81, xb_X8_isBridged_89, xs_nil, Nat.reduceAdd, true_implies, not_true_eq_false, not_false_eq_true, false_implies, and_true, true_and, x_10, xs_aload_n_0, xs_iload_n_1, xs_icmp_ge, xs_goto, xs_istore_n_2_i, xs_istore_n_2_a, xs_istore_n_2_n, xs_istore_n_2_l, xs_istore_n_3_i, xs_istore_n_3_a, xs_istore_n_3_n, xs_istore_n_3_l, xs_iconst_1, xs_istore_4_i, xs_istore_4_a, xs_istore_4_n, xs_istore_4_l, xs_iload_n_2, xs_iadd, xs_istore_5_i, xs_istore_5_a, xs_istore_5_n, xs_istore_5_l, xs_iload_5, xs_iload_n_3, xs_iload_4, xs_if_eq, xs_iconst_0, xs_iinc_5_1_i, xs_iinc_5_1_a, xs_iinc_5_1_n, xs_ireturn]) | (refine xr_getf (hb 0 _ rfl) (by rfl) ?_) | (refine xr_iaload (hb 6 _ rfl) hin ?_)))
    rw [ew]
    refine xe_X8_isBridged_41 ?_
    (repeat (first | (simp only [xb_X8_isBridged_0, xb_X8_isBridged_19, xb_X8_isBridged_20, xb_X8_isBridged_35, xb_X8_isBridged_41, xb_X8_isBridged_50, xb_X8_isBridged_80, xb_X8_isBridged_81, xb_X8_isBridged_89, xs_nil, Nat.reduceAdd, true_implies, not_true_eq_false, not_false_eq_true, false_implies, and_true, true_and, x_10, xs_aload_n_0, xs_iload_n_1, xs_icmp_ge, xs_goto, xs_istore_n_2_i, xs_istore_n_2_a, xs_istore_n_2_n, xs_istore_n_2_l, xs_istore_n_3_i, xs_istore_n_3_a, xs_istore_n_3_n, xs_istore_n_3_l, xs_iconst_1, xs_istore_4_i, xs_istore_4_a, xs_istore_4_n, xs_istore_4_l, xs_iload_n_2, xs_iadd, xs_istore_5_i, xs_istore_5_a, xs_istore_5_n, xs_istore_5_l, xs_iload_5, xs_iload_n_3, xs_iload_4, xs_if_eq, xs_iconst_0, xs_iinc_5_1_i, xs_iinc_5_1_a, xs_iinc_5_1_n, xs_ireturn]) ))
    rw [nI_1]
    exact fin _ _ _ (by omega) (by omega) (by omega) (by omega)
  · have hle : ¬ w ≤ hs.getD w 0 := fun z => q ((nI_leI (by omega) (by omega)).mpr z)
    (repeat (first | (simp only [xb_X8_isBridged_0, xb_X8_isBridged_19, xb_X8_isBridged_20, xb_X8_isBridged_35, xb_X8_isBridged_41, xb_X8_isBridged_50, xb_X8_isBridged_80, xb_X8_isBridged_81, xb_X8_isBridged_89, xs_nil, Nat.reduceAdd, true_implies, not_true_eq_false, not_false_eq_true, false_implies, and_true, true_and, x_10, xs_aload_n_0, xs_iload_n_1, xs_icmp_ge, xs_goto, xs_istore_n_2_i, xs_istore_n_2_a, xs_istore_n_2_n, xs_istore_n_2_l, xs_istore_n_3_i, xs_istore_n_3_a, xs_istore_n_3_n, xs_istore_n_3_l, xs_iconst_1, xs_istore_4_i, xs_istore_4_a, xs_istore_4_n, xs_istore_4_l, xs_iload_n_2, xs_iadd, xs_istore_5_i, xs_istore_5_a, xs_istore_5_n, xs_istore_5_l, xs_iload_5, xs_iload_n_3, xs_iload_4, xs_if_eq, xs_iconst_0, xs_iinc_5_1_i, xs_iinc_5_1_a, xs_iinc_5_1_n, xs_ireturn]) | (refine xr_getf (hb 0 _ rfl) (by rfl) ?_) | (refine xr_iaload (hb 6 _ rfl) hin ?_)))
    rw [ew]
    refine xe_X8_isBridged_20 ?_
    (repeat (first | (simp only [xb_X8_isBridged_0, xb_X8_isBridged_19, xb_X8_isBridged_20, xb_X8_isBridged_35, xb_X8_isBridged_41, xb_X8_isBridged_50, xb_X8_isBridged_80, xb_X8_isBridged_81, xb_X8_isBridged_89, xs_nil, Nat.reduceAdd, true_implies, not_true_eq_false, not_false_eq_true, false_implies, and_true, true_and, x_10, xs_aload_n_0, xs_iload_n_1, xs_icmp_ge, xs_goto, xs_istore_n_2_i, xs_istore_n_2_a, xs_istore_n_2_n, xs_istore_n_2_l, xs_istore_n_3_i, xs_istore_n_3_a, xs_istore_n_3_n, xs_istore_n_3_l, xs_iconst_1, xs_istore_4_i, xs_istore_4_a, xs_istore_4_n, xs_istore_4_l, xs_iload_n_2, xs_iadd, xs_istore_5_i, xs_istore_5_a, xs_istore_5_n, xs_istore_5_l, xs_iload_5, xs_iload_n_3, xs_iload_4, xs_if_eq, xs_iconst_0, xs_iinc_5_1_i, xs_iinc_5_1_a, xs_iinc_5_1_n, xs_ireturn]) | (refine xr_getf (hb 0 _ rfl) (by rfl) ?_) | (refine xr_iaload (hb 6 _ rfl) hin ?_)))
    rw [ew]
    refine ⟨fun q2 => absurd q2 q, fun q2 => ?_⟩
    (repeat (first | (simp only [xb_X8_isBridged_0, xb_X8_isBridged_19, xb_X8_isBridged_20, xb_X8_isBridged_35, xb_X8_isBridged_41, xb_X8_isBridged_50, xb_X8_isBridged_80, xb_X8_isBridged_81, xb_X8_isBridged_89, xs_nil, Nat.reduceAdd, true_implies, not_true_eq_false, not_false_eq_true, false_implies, and_true, true_and, x_10, xs_aload_n_0, xs_iload_n_1, xs_icmp_ge, xs_goto, xs_istore_n_2_i, xs_istore_n_2_a, xs_istore_n_2_n, xs_istore_n_2_l, xs_istore_n_3_i, xs_istore_n_3_a, xs_istore_n_3_n, xs_istore_n_3_l, xs_iconst_1, xs_istore_4_i, xs_istore_4_a, xs_istore_4_n, xs_istore_4_l, xs_iload_n_2, xs_iadd, xs_istore_5_i, xs_istore_5_a, xs_istore_5_n, xs_istore_5_l, xs_iload_5, xs_iload_n_3, xs_iload_4, xs_if_eq, xs_iconst_0, xs_iinc_5_1_i, xs_iinc_5_1_a, xs_iinc_5_1_n, xs_ireturn]) ))
    refine xe_X8_isBridged_41 ?_
    (repeat (first | (simp only [xb_X8_isBridged_0, xb_X8_isBridged_19, xb_X8_isBridged_20, xb_X8_isBridged_35, xb_X8_isBridged_41, xb_X8_isBridged_50, xb_X8_isBridged_80, xb_X8_isBridged_81, xb_X8_isBridged_89, xs_nil, Nat.reduceAdd, true_implies, not_true_eq_false, not_false_eq_true, false_implies, and_true, true_and, x_10, xs_aload_n_0, xs_iload_n_1, xs_icmp_ge, xs_goto, xs_istore_n_2_i, xs_istore_n_2_a, xs_istore_n_2_n, xs_istore_n_2_l, xs_istore_n_3_i, xs_istore_n_3_a, xs_istore_n_3_n, xs_istore_n_3_l, xs_iconst_1, xs_istore_4_i, xs_istore_4_a, xs_istore_4_n, xs_istore_4_l, xs_iload_n_2, xs_iadd, xs_istore_5_i, xs_istore_5_a, xs_istore_5_n, xs_istore_5_l, xs_iload_5, xs_iload_n_3, xs_iload_4, xs_if_eq, xs_iconst_0, xs_iinc_5_1_i, xs_iinc_5_1_a, xs_iinc_5_1_n, xs_ireturn]) ))
    rw [nI_1]
    exact fin _ _ _ (by omega) (by omega) (by omega) (by omega)
/-- its second loop: stops where a word isn't bridged -/
theorem l_isTree2 (hb : x_hb h m (x_mc m nw asd pa sts rf tx byt (hs.map nI) rd so ah ar tr bg fo bc br bk le fr nu od sp wr ha)) (hk : nok hs) (hn : n < 7) {R : Int32} {F : Bool} (fin : ∀ x4 : Int32, x_EV 11 113 [some (.ref m), some (.int (nI n)), some (.int R), some (.int (if (F && nspan hs n) = true then 1 else 0)), some (.int x4)] [] h (some (.int x1)) h) : ∀ (d k : Nat), k + d = n → x_EV 11 72 [some (.ref m), some (.int (nI n)), some (.int R), some (.int (if (F && nspan hs k) = true then 1 else 0)), some (.int (nI (k + 1)))] [] h (some (.int x1)) h := by
  have hlen : (hs.map nI).length = 7 := by rw [List.length_map]; exact hk.1
  have mono : ∀ d k : Nat, k + d = n → (F && nspan hs k) = false → (F && nspan hs n) = false := by
    intro d
    induction d with
    | zero => intro k hk2 hf; rw [← show k = n by omega]; exact hf
    | succ d ih =>
      intro k hk2 hf
      refine ih (k + 1) (by omega) ?_
      unfold nspan
      rw [← Bool.and_assoc, hf, Bool.false_and]
  intro d
  induction d with
  | zero =>
    intro k hk2
    refine xe_X8_isTree_72 ?_
    (repeat (first | (simp only [xb_X8_isTree_0, xb_X8_isTree_7, xb_X8_isTree_28, xb_X8_isTree_29, xb_X8_isTree_61, xb_X8_isTree_62, xb_X8_isTree_69, xb_X8_isTree_72, xb_X8_isTree_101, xb_X8_isTree_105, xb_X8_isTree_106, xb_X8_isTree_113, xb_X8_isTree_126, xb_X8_isTree_127, xs_nil, Nat.reduceAdd, true_implies, not_true_eq_false, not_false_eq_true, false_implies, and_true, true_and, x_10, xs_iconst_0, xs_istore_n_2_i, xs_istore_n_2_a, xs_istore_n_2_n, xs_istore_n_2_l, xs_iconst_1, xs_istore_n_3_i, xs_istore_n_3_a, xs_istore_n_3_n, xs_istore_n_3_l, xs_istore_4_i, xs_istore_4_a, xs_istore_4_n, xs_istore_4_l, xs_iload_4, xs_iload_n_1, xs_icmp_gt, xs_iload_n_2, xs_aload_n_0, xs_if_ne, xs_goto, xs_iadd, xs_iload_n_3, xs_if_eq, xs_icmp_eq, xs_iinc_4_1_i, xs_iinc_4_1_a, xs_iinc_4_1_n, xs_icmp_ne, xs_ireturn]) ))
    refine ⟨fun q => ?_, fun q => absurd (nI_lt (by omega) (by omega)) q⟩
    have := fin (nI (k + 1))
    rw [← show k = n by omega] at this ⊢
    exact this
  | succ d ih =>
    intro k hk2
    have hin : xin (nI (k + 1)) (hs.map nI).length := x_in (by rw [hlen]; omega) (by rw [hlen]; decide)
    have ew : xg (hs.map nI) (nI (k + 1)) = nI (hs.getD (k + 1) 0) := xg_map (by rw [hk.1]; omega) (by rw [hk.1]; decide)
    have hq := hk.2 (k + 1)
    have e0 : (nI (hs.getD (k + 1) 0) = 0) = (hs.getD (k + 1) 0 = 0) := propext (nI_eq (b := 0) (by omega) (by omega))
    have ihT := ih (k + 1) (by omega)
    refine xe_X8_isTree_72 ?_
    (repeat (first | (simp only [xb_X8_isTree_0, xb_X8_isTree_7, xb_X8_isTree_28, xb_X8_isTree_29, xb_X8_isTree_61, xb_X8_isTree_62, xb_X8_isTree_69, xb_X8_isTree_72, xb_X8_isTree_101, xb_X8_isTree_105, xb_X8_isTree_106, xb_X8_isTree_113, xb_X8_isTree_126, xb_X8_isTree_127, xs_nil, Nat.reduceAdd, true_implies, not_true_eq_false, not_false_eq_true, false_implies, and_true, true_and, x_10, xs_iconst_0, xs_istore_n_2_i, xs_istore_n_2_a, xs_istore_n_2_n, xs_istore_n_2_l, xs_iconst_1, xs_istore_n_3_i, xs_istore_n_3_a, xs_istore_n_3_n, xs_istore_n_3_l, xs_istore_4_i, xs_istore_4_a, xs_istore_4_n, xs_istore_4_l, xs_iload_4, xs_iload_n_1, xs_icmp_gt, xs_iload_n_2, xs_aload_n_0, xs_if_ne, xs_goto, xs_iadd, xs_iload_n_3, xs_if_eq, xs_icmp_eq, xs_iinc_4_1_i, xs_iinc_4_1_a, xs_iinc_4_1_n, xs_icmp_ne, xs_ireturn]) ))
    refine ⟨fun q => absurd q (nI_nlt (by omega) (by omega)), fun q => ⟨fun q2 => ?_, fun q2 => ?_⟩⟩
    · rw [x_ite0, Bool.not_eq_true] at q2
      have := fin (nI (k + 1))
      rw [mono (d + 1) k hk2 q2] at this
      rw [q2]
      exact this
    · rw [x_ite0, Classical.not_not] at q2
      have eT : nspan hs (k + 1) = (nspan hs k && (decide (hs.getD (k + 1) 0 = 0) || nbridged hs (k + 1))) := rfl
      rw [eT, ← Bool.and_assoc, q2, Bool.true_and] at ihT
      (repeat (first | (simp only [xb_X8_isTree_0, xb_X8_isTree_7, xb_X8_isTree_28, xb_X8_isTree_29, xb_X8_isTree_61, xb_X8_isTree_62, xb_X8_isTree_69, xb_X8_isTree_72, xb_X8_isTree_101, xb_X8_isTree_105, xb_X8_isTree_106, xb_X8_isTree_113, xb_X8_isTree_126, xb_X8_isTree_127, xs_nil, Nat.reduceAdd, true_implies, not_true_eq_false, not_false_eq_true, false_implies, and_true, true_and, x_10, xs_iconst_0, xs_istore_n_2_i, xs_istore_n_2_a, xs_istore_n_2_n, xs_istore_n_2_l, xs_iconst_1, xs_istore_n_3_i, xs_istore_n_3_a, xs_istore_n_3_n, xs_istore_n_3_l, xs_istore_4_i, xs_istore_4_a, xs_istore_4_n, xs_istore_4_l, xs_iload_4, xs_iload_n_1, xs_icmp_gt, xs_iload_n_2, xs_aload_n_0, xs_if_ne, xs_goto, xs_iadd, xs_iload_n_3, xs_if_eq, xs_icmp_eq, xs_iinc_4_1_i, xs_iinc_4_1_a, xs_iinc_4_1_n, xs_icmp_ne, xs_ireturn]) | (refine xr_getf (hb 0 _ rfl) (by rfl) ?_) | (refine xr_iaload (hb 6 _ rfl) hin ?_)))
      rw [ew, e0]
      refine ⟨fun q3 => ?_, fun q3 => ?_⟩
      · refine xe_X8_isTree_101 ?_
        (repeat (first | (simp only [xb_X8_isTree_0, xb_X8_isTree_7, xb_X8_isTree_28, xb_X8_isTree_29, xb_X8_isTree_61, xb_X8_isTree_62, xb_X8_isTree_69, xb_X8_isTree_72, xb_X8_isTree_101, xb_X8_isTree_105, xb_X8_isTree_106, xb_X8_isTree_113, xb_X8_isTree_126, xb_X8_isTree_127, xs_nil, Nat.reduceAdd, true_implies, not_true_eq_false, not_false_eq_true, false_implies, and_true, true_and, x_10, xs_iconst_0, xs_istore_n_2_i, xs_istore_n_2_a, xs_istore_n_2_n, xs_istore_n_2_l, xs_iconst_1, xs_istore_n_3_i, xs_istore_n_3_a, xs_istore_n_3_n, xs_istore_n_3_l, xs_istore_4_i, xs_istore_4_a, xs_istore_4_n, xs_istore_4_l, xs_iload_4, xs_iload_n_1, xs_icmp_gt, xs_iload_n_2, xs_aload_n_0, xs_if_ne, xs_goto, xs_iadd, xs_iload_n_3, xs_if_eq, xs_icmp_eq, xs_iinc_4_1_i, xs_iinc_4_1_a, xs_iinc_4_1_n, xs_icmp_ne, xs_ireturn]) ))
        refine xe_X8_isTree_106 ?_
        (repeat (first | (simp only [xb_X8_isTree_0, xb_X8_isTree_7, xb_X8_isTree_28, xb_X8_isTree_29, xb_X8_isTree_61, xb_X8_isTree_62, xb_X8_isTree_69, xb_X8_isTree_72, xb_X8_isTree_101, xb_X8_isTree_105, xb_X8_isTree_106, xb_X8_isTree_113, xb_X8_isTree_126, xb_X8_isTree_127, xs_nil, Nat.reduceAdd, true_implies, not_true_eq_false, not_false_eq_true, false_implies, and_true, true_and, x_10, xs_iconst_0, xs_istore_n_2_i, xs_istore_n_2_a, xs_istore_n_2_n, xs_istore_n_2_l, xs_iconst_1, xs_istore_n_3_i, xs_istore_n_3_a, xs_istore_n_3_n, xs_istore_n_3_l, xs_istore_4_i, xs_istore_4_a, xs_istore_4_n, xs_istore_4_l, xs_iload_4, xs_iload_n_1, xs_icmp_gt, xs_iload_n_2, xs_aload_n_0, xs_if_ne, xs_goto, xs_iadd, xs_iload_n_3, xs_if_eq, xs_icmp_eq, xs_iinc_4_1_i, xs_iinc_4_1_a, xs_iinc_4_1_n, xs_icmp_ne, xs_ireturn]) ))
        rw [decide_eq_true q3] at ihT
        rw [nI_1]
        exact ihT
      · (repeat (first | (simp only [xb_X8_isTree_0, xb_X8_isTree_7, xb_X8_isTree_28, xb_X8_isTree_29, xb_X8_isTree_61, xb_X8_isTree_62, xb_X8_isTree_69, xb_X8_isTree_72, xb_X8_isTree_101, xb_X8_isTree_105, xb_X8_isTree_106, xb_X8_isTree_113, xb_X8_isTree_126, xb_X8_isTree_127, xs_nil, Nat.reduceAdd, true_implies, not_true_eq_false, not_false_eq_true, false_implies, and_true, true_and, x_10, xs_iconst_0, xs_istore_n_2_i, xs_istore_n_2_a, xs_istore_n_2_n, xs_istore_n_2_l, xs_iconst_1, xs_istore_n_3_i, xs_istore_n_3_a, xs_istore_n_3_n, xs_istore_n_3_l, xs_istore_4_i, xs_istore_4_a, xs_istore_4_n, xs_istore_4_l, xs_iload_4, xs_iload_n_1, xs_icmp_gt, xs_iload_n_2, xs_aload_n_0, xs_if_ne, xs_goto, xs_iadd, xs_iload_n_3, xs_if_eq, xs_icmp_eq, xs_iinc_4_1_i, xs_iinc_4_1_a, xs_iinc_4_1_n, xs_icmp_ne, xs_ireturn]) | refine xc_v2_1 (c_isBridged hb hk (by omega)) (Nat.le_of_ble_eq_true rfl) ?_))
        rw [decide_eq_false q3, Bool.false_or] at ihT
        refine ⟨fun q4 => ?_, fun q4 => ?_⟩
        · refine xe_X8_isTree_105 ?_
          (repeat (first | (simp only [xb_X8_isTree_0, xb_X8_isTree_7, xb_X8_isTree_28, xb_X8_isTree_29, xb_X8_isTree_61, xb_X8_isTree_62, xb_X8_isTree_69, xb_X8_isTree_72, xb_X8_isTree_101, xb_X8_isTree_105, xb_X8_isTree_106, xb_X8_isTree_113, xb_X8_isTree_126, xb_X8_isTree_127, xs_nil, Nat.reduceAdd, true_implies, not_true_eq_false, not_false_eq_true, false_implies, and_true, true_and, x_10, xs_iconst_0, xs_istore_n_2_i, xs_istore_n_2_a, xs_istore_n_2_n, xs_istore_n_2_l, xs_iconst_1, xs_istore_n_3_i, xs_istore_n_3_a, xs_istore_n_3_n, xs_istore_n_3_l, xs_istore_4_i, xs_istore_4_a, xs_istore_4_n, xs_istore_4_l, xs_iload_4, xs_iload_n_1, xs_icmp_gt, xs_iload_n_2, xs_aload_n_0, xs_if_ne, xs_goto, xs_iadd, xs_iload_n_3, xs_if_eq, xs_icmp_eq, xs_iinc_4_1_i, xs_iinc_4_1_a, xs_iinc_4_1_n, xs_icmp_ne, xs_ireturn]) ))
          refine xe_X8_isTree_106 ?_
          (repeat (first | (simp only [xb_X8_isTree_0, xb_X8_isTree_7, xb_X8_isTree_28, xb_X8_isTree_29, xb_X8_isTree_61, xb_X8_isTree_62, xb_X8_isTree_69, xb_X8_isTree_72, xb_X8_isTree_101, xb_X8_isTree_105, xb_X8_isTree_106, xb_X8_isTree_113, xb_X8_isTree_126, xb_X8_isTree_127, xs_nil, Nat.reduceAdd, true_implies, not_true_eq_false, not_false_eq_true, false_implies, and_true, true_and, x_10, xs_iconst_0, xs_istore_n_2_i, xs_istore_n_2_a, xs_istore_n_2_n, xs_istore_n_2_l, xs_iconst_1, xs_istore_n_3_i, xs_istore_n_3_a, xs_istore_n_3_n, xs_istore_n_3_l, xs_istore_4_i, xs_istore_4_a, xs_istore_4_n, xs_istore_4_l, xs_iload_4, xs_iload_n_1, xs_icmp_gt, xs_iload_n_2, xs_aload_n_0, xs_if_ne, xs_goto, xs_iadd, xs_iload_n_3, xs_if_eq, xs_icmp_eq, xs_iinc_4_1_i, xs_iinc_4_1_a, xs_iinc_4_1_n, xs_icmp_ne, xs_ireturn]) ))
          rw [x_ite0, Bool.not_eq_true] at q4
          rw [q4] at ihT
          rw [nI_1]
          exact ihT
        · (repeat (first | (simp only [xb_X8_isTree_0, xb_X8_isTree_7, xb_X8_isTree_28, xb_X8_isTree_29, xb_X8_isTree_61, xb_X8_isTree_62, xb_X8_isTree_69, xb_X8_isTree_72, xb_X8_isTree_101, xb_X8_isTree_105, xb_X8_isTree_106, xb_X8_isTree_113, xb_X8_isTree_126, xb_X8_isTree_127, xs_nil, Nat.reduceAdd, true_implies, not_true_eq_false, not_false_eq_true, false_implies, and_true, true_and, x_10, xs_iconst_0, xs_istore_n_2_i, xs_istore_n_2_a, xs_istore_n_2_n, xs_istore_n_2_l, xs_iconst_1, xs_istore_n_3_i, xs_istore_n_3_a, xs_istore_n_3_n, xs_istore_n_3_l, xs_istore_4_i, xs_istore_4_a, xs_istore_4_n, xs_istore_4_l, xs_iload_4, xs_iload_n_1, xs_icmp_gt, xs_iload_n_2, xs_aload_n_0, xs_if_ne, xs_goto, xs_iadd, xs_iload_n_3, xs_if_eq, xs_icmp_eq, xs_iinc_4_1_i, xs_iinc_4_1_a, xs_iinc_4_1_n, xs_icmp_ne, xs_ireturn]) ))
          refine xe_X8_isTree_101 ?_
          (repeat (first | (simp only [xb_X8_isTree_0, xb_X8_isTree_7, xb_X8_isTree_28, xb_X8_isTree_29, xb_X8_isTree_61, xb_X8_isTree_62, xb_X8_isTree_69, xb_X8_isTree_72, xb_X8_isTree_101, xb_X8_isTree_105, xb_X8_isTree_106, xb_X8_isTree_113, xb_X8_isTree_126, xb_X8_isTree_127, xs_nil, Nat.reduceAdd, true_implies, not_true_eq_false, not_false_eq_true, false_implies, and_true, true_and, x_10, xs_iconst_0, xs_istore_n_2_i, xs_istore_n_2_a, xs_istore_n_2_n, xs_istore_n_2_l, xs_iconst_1, xs_istore_n_3_i, xs_istore_n_3_a, xs_istore_n_3_n, xs_istore_n_3_l, xs_istore_4_i, xs_istore_4_a, xs_istore_4_n, xs_istore_4_l, xs_iload_4, xs_iload_n_1, xs_icmp_gt, xs_iload_n_2, xs_aload_n_0, xs_if_ne, xs_goto, xs_iadd, xs_iload_n_3, xs_if_eq, xs_icmp_eq, xs_iinc_4_1_i, xs_iinc_4_1_a, xs_iinc_4_1_n, xs_icmp_ne, xs_ireturn]) ))
          refine xe_X8_isTree_106 ?_
          (repeat (first | (simp only [xb_X8_isTree_0, xb_X8_isTree_7, xb_X8_isTree_28, xb_X8_isTree_29, xb_X8_isTree_61, xb_X8_isTree_62, xb_X8_isTree_69, xb_X8_isTree_72, xb_X8_isTree_101, xb_X8_isTree_105, xb_X8_isTree_106, xb_X8_isTree_113, xb_X8_isTree_126, xb_X8_isTree_127, xs_nil, Nat.reduceAdd, true_implies, not_true_eq_false, not_false_eq_true, false_implies, and_true, true_and, x_10, xs_iconst_0, xs_istore_n_2_i, xs_istore_n_2_a, xs_istore_n_2_n, xs_istore_n_2_l, xs_iconst_1, xs_istore_n_3_i, xs_istore_n_3_a, xs_istore_n_3_n, xs_istore_n_3_l, xs_istore_4_i, xs_istore_4_a, xs_istore_4_n, xs_istore_4_l, xs_iload_4, xs_iload_n_1, xs_icmp_gt, xs_iload_n_2, xs_aload_n_0, xs_if_ne, xs_goto, xs_iadd, xs_iload_n_3, xs_if_eq, xs_icmp_eq, xs_iinc_4_1_i, xs_iinc_4_1_a, xs_iinc_4_1_n, xs_icmp_ne, xs_ireturn]) ))
          rw [x_ite0, Classical.not_not] at q4
          rw [q4] at ihT
          rw [nI_1]
          exact ihT
end MO3
