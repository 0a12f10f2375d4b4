/-! orders done: what they do -/
theorem sv_prc {s : kS} (hv : sv s) {i : Nat} (hi : i < 72) {v : Int32} (hv9 : v = -1 ∨ ∃ j, j ≤ 9 ∧ v = nI j) : sv (sprc s i v) := by
  have hlP := hv.lP
  refine ⟨⟨⟨?_, hv.1.1.2⟩, hv.1.2⟩, fun k => ?_, hv.2.2⟩
  · show (List.set _ _ _).length = _
    rw [List.length_set]
    exact hlP
  · show ((sP s).set i v).getD k 0 = -1 ∨ ∃ j, j ≤ 9 ∧ ((sP s).set i v).getD k 0 = nI j
    rw [sg (by omega)]
    split
    · exact hv9
    · exact hv.vP k
theorem sv_rtp {s : kS} (hv : sv s) {i : Nat} (hi : i < 6) {v : Int32} (hv9 : v = -1 ∨ ∃ j, j ≤ 9 ∧ v = nI j) : sv (srtp s i v) := by
  have hlP := hv.lR
  refine ⟨⟨⟨hv.1.1.1, ?_, hv.1.1.2.2⟩, hv.1.2⟩, hv.2.1, fun k => ?_, hv.2.2.2⟩
  · show (List.set _ _ _).length = _
    rw [List.length_set]
    exact hlP
  · show ((sR s).set i v).getD k 0 = -1 ∨ ∃ j, j ≤ 9 ∧ ((sR s).set i v).getD k 0 = nI j
    rw [sg (by omega)]
    split
    · exact hv9
    · exact hv.vR k
theorem sv_add {s : kS} (hv : sv s) (hn : sne s < 12) {a b c : Int32} (ha : ∃ j, j < 6 ∧ a = nI j) (hb : b = -1 ∨ ∃ j, j < 6 ∧ b = nI j) (hc : ∃ j, j ≤ 9 ∧ c = nI j) : sv (sadd s a b c) := by
  have hlS := hv.lS
  have hlX := hv.lX
  have hse : sne (sadd s a b c) = sne s + 1 := nI_clamp (by omega)
  refine ⟨⟨⟨hv.1.1.1, hv.1.1.2.1, ?_, ?_, hv.1.1.2.2.2.2⟩, hv.1.2⟩, hv.2.1, hv.2.2.1, fun k => ?_, fun k => ?_, hv.2.2.2.2.2.1, hv.2.2.2.2.2.2.1, hv.2.2.2.2.2.2.2.1, ?_⟩
  · show (List.set (List.set _ _ _) _ _).length = _
    rw [List.length_set, List.length_set]
    exact hlS
  · show (List.set _ _ _).length = _
    rw [List.length_set]
    exact hlX
  · show (((sS s).set (2 * sne s) a).set (2 * sne s + 1) b).getD k 0 = -1 ∨ ∃ j, j < 6 ∧ (((sS s).set (2 * sne s) a).set (2 * sne s + 1) b).getD k 0 = nI j
    rw [sg (by rw [List.length_set]; omega), sg (by omega)]
    split
    · exact hb
    · split
      · exact Or.inr ha
      · exact hv.vS k
  · show ∃ j, j ≤ 9 ∧ ((sX s).set (sne s) c).getD k 0 = nI j
    rw [sg (by omega)]
    split
    · exact hc
    · exact hv.vX k
  · rw [hse]
    exact ⟨rfl, by omega⟩
/-- an entry told -/
def oE (x1 x2 x3 : Int32) (s : kS) (b : Bool) (s' : kS) : Prop := (b = true ∧ entC x1 x2 x3 ∧ sne s < 12 ∧ s' = sadd s x1 x2 x3) ∨ (b = false ∧ ¬ (entC x1 x2 x3 ∧ sne s < 12) ∧ s' = s)
def rulC (x1 x2 x3 x4 : Int32) : Prop := ((0 ≤ x1 ∧ x1 < 6) ∧ (0 ≤ x2 ∧ x2 < 6) ∧ 0 ≤ x3 ∧ x3 < 2) ∧ -1 ≤ x4 ∧ x4 ≤ 9
/-- a rule's price told -/
def oR (x1 x2 x3 x4 : Int32) (s : kS) (b : Bool) (s' : kS) : Prop := (b = true ∧ ∃ p q d, p < 6 ∧ q < 6 ∧ d < 2 ∧ x1 = nI p ∧ x2 = nI q ∧ x3 = nI d ∧ -1 ≤ x4 ∧ x4 ≤ 9 ∧ s' = sprc s (12 * p + 2 * q + d) x4) ∨ (b = false ∧ ¬ rulC x1 x2 x3 x4 ∧ s' = s)
/-- a root's price told -/
def oO (x1 x2 : Int32) (s : kS) (b : Bool) (s' : kS) : Prop := (b = true ∧ ∃ p, p < 6 ∧ x1 = nI p ∧ -1 ≤ x2 ∧ x2 ≤ 9 ∧ s' = srtp s p x2) ∨ (b = false ∧ ¬ ((0 ≤ x1 ∧ x1 < 6) ∧ -1 ≤ x2 ∧ x2 ≤ 9) ∧ s' = s)
/-- words told: so many, the first's place -/
def oW (F : List Int32) : Nat → Nat → kS → kC → Bool → kS → kC → Prop
  | 0, _, s, k, b, s', k' => b = true ∧ s' = s ∧ k' = k
  | n + 1, f, s, k, b, s', k' => (∃ j, j < sne s ∧ sn s < 6 ∧ F.getD f 0 = nI j ∧ oW F n (f + 1) (khear s k (nI j)).1 (khear s k (nI j)).2 b s' k') ∨ (b = false ∧ ¬ ((0 ≤ F.getD f 0 ∧ F.getD f 0 < nI (sne s)) ∧ sn s < 6) ∧ s' = s ∧ k' = k)
/-- an order: its kind, its numbers' place, how many -/
def oS (c : Int32) (F : List Int32) (f n : Nat) (s : kS) (k : kC) (b : Bool) (s' : kS) (k' : kC) : Prop := (c = 119 ∧ oW F n f s k b s' k') ∨ (k' = k ∧ ((c = 101 ∧ oE (F.getD f 0) (-1) 0 s b s') ∨ (c = 102 ∧ oE (F.getD f 0) (F.getD (f + 1) 0) (F.getD (f + 2) 0) s b s') ∨ (c = 114 ∧ oR (F.getD f 0) (F.getD (f + 1) 0) (F.getD (f + 2) 0) (F.getD (f + 3) 0) s b s') ∨ (c = 111 ∧ oO (F.getD f 0) (F.getD (f + 1) 0) s b s')))
/-- orders from the i-th on, so many; r: which failed -/
def oA (O : oT) : Nat → Nat → kS → kC → Nat → Bool → kS → kC → Prop
  | 0, _, s, k, _, b, s', k' => b = true ∧ s' = s ∧ k' = k
  | d + 1, i, s, k, r, b, s', k' => ∃ b1 s1 k1, oS (O.1.getD i 0) O.2.2 (O.2.1.getD i 0) (O.2.1.getD (i + 1) 0 - O.2.1.getD i 0) s k b1 s1 k1 ∧ ((b1 = true ∧ oA O d (i + 1) s1 k1 r b s' k') ∨ (b1 = false ∧ b = false ∧ r = i ∧ s' = s1 ∧ k' = k1))
/-- the class's cells, with the State ahead and what was read -/
def cX (h : xH) (s a : kS) (k : kC) (sh : Nat → kS) (nx ct : Nat) (tx kd fi cn nu : List Int32) (nr at_ ln od : Int32) (rf : List Int32) : Prop := cW h s k sh nx ct tx ln rf ∧ x_hb h 16 (x_ts 16 a) ∧ x_hb h 115 (x_rc 115 tx kd fi cn nu nr at_ ln od)
section CX
variable {h : xH} {s a : kS} {k : kC} {sh : Nat → kS} {nx ct : Nat} {tx kd fi cn nu F : List Int32} {nr at_ ln od : Int32} {rf : List Int32} {x1 x2 x3 x4 : Int32} {i j f n : Nat}
theorem cX.now (B : cX h s a k sh nx ct tx kd fi cn nu nr at_ ln od rf) (s' : kS) : cX (x_wr h 3 (x_ts 3 s')) s' a k sh nx ct tx kd fi cn nu nr at_ ln od rf ∧ cF h (x_wr h 3 (x_ts 3 s')) := by
  obtain ⟨b1, b2, b3⟩ := B
  have hl : 3 + (x_ts 3 s').length ≤ h.length := b1.hs.fit (Nat.zero_lt_succ _)
  exact ⟨⟨(b1.now s').1, b2.off hl (Or.inr (Nat.le_of_ble_eq_true rfl)), b3.off hl (Or.inr (Nat.le_of_ble_eq_true rfl))⟩, (b1.now s').2⟩
theorem cX.chart (B : cX h s a k sh nx ct tx kd fi cn nu nr at_ ln od rf) (k' : kC) : cX (x_wr h 109 (x_hs 109 k')) s a k' sh nx ct tx kd fi cn nu nr at_ ln od rf ∧ cF h (x_wr h 109 (x_hs 109 k')) := by
  obtain ⟨b1, b2, b3⟩ := B
  have hl : 109 + (x_hs 109 k').length ≤ h.length := b1.hk.fit (Nat.zero_lt_succ _)
  exact ⟨⟨(b1.chart k').1, b2.off hl (Or.inl (Nat.le_of_ble_eq_true rfl)), b3.off hl (Or.inr (Nat.le_of_ble_eq_true rfl))⟩, (b1.chart k').2⟩
theorem cX_doEntry (X : cX h s a k sh nx ct tx kd fi cn nu nr at_ ln od rf) (hv : sv s) : ∃ b s' h1, oE x1 x2 x3 s b s' ∧ xK 149 [.ref 2, .int x1, .int x2, .int x3] h (some (.int (if b = true then 1 else 0))) h1 ∧ cX h1 s' a k sh nx ct tx kd fi cn nu nr at_ ln od rf ∧ cF h h1 ∧ sv s' := by
  have B := X.1
  have hne := hv.ne
  have c1 := c_whyNoEntry (x1 := x1) (x2 := x2) (x3 := x3) (x_tc_g B.hs)
  by_cases hc : entC x1 x2 x3
  · rw [if_pos hc, hv.ec] at c1
    by_cases hn : sne s < 12
    · rw [if_neg (show ¬ (12 : Int32) ≤ nI (sne s) from nI_ge (b := 12) hn (by decide))] at c1
      have c2 := e7_addEntry (x1 := x1) (x2 := x2) (x3 := x3) B hv hn
      obtain ⟨B2, F2⟩ := X.now (sadd s x1 x2 x3)
      obtain ⟨v1, v2, v3⟩ := ent_vals hc
      refine ⟨true, _, _, Or.inl ⟨rfl, hc, hn, rfl⟩, ?_, B2, F2, sv_add hv hn v1 v2 v3⟩
      refine xK_X7_doEntry (B.hp 0 _ rfl) (xe_X7_doEntry_0 ?_)
      (repeat (first | (simp only [xb_X7_doEntry_0, xb_X7_doEntry_18, xs_nil, Nat.reduceAdd, true_implies, not_true_eq_false, not_false_eq_true, false_implies, and_true, true_and, x_10, xs_aload_n_0, xs_iload_n_1, xs_iload_n_2, xs_iload_n_3, xs_if_eq, xs_iconst_0, xs_ireturn, xs_pop_i, xs_pop_a, xs_iconst_1]) | (refine xr_getf (B.hp 0 _ rfl) (by rfl) ?_) | (refine xr_getf (B.hs 0 _ rfl) (by rfl) ?_) | (refine xr_getf (B.hs 1 _ rfl) (by rfl) ?_) | (refine xr_getf (B.hs 7 _ rfl) (by rfl) ?_) | refine xc_v4_1 (c1) (Nat.le_of_ble_eq_true rfl) ?_))
      refine xe_X7_doEntry_18 ?_
      (repeat (first | (simp only [xb_X7_doEntry_0, xb_X7_doEntry_18, xs_nil, Nat.reduceAdd, true_implies, not_true_eq_false, not_false_eq_true, false_implies, and_true, true_and, x_10, xs_aload_n_0, xs_iload_n_1, xs_iload_n_2, xs_iload_n_3, xs_if_eq, xs_iconst_0, xs_ireturn, xs_pop_i, xs_pop_a, xs_iconst_1]) | (refine xr_getf (B.hp 0 _ rfl) (by rfl) ?_) | (refine xr_getf (B.hs 0 _ rfl) (by rfl) ?_) | (refine xr_getf (B.hs 1 _ rfl) (by rfl) ?_) | (refine xr_getf (B.hs 7 _ rfl) (by rfl) ?_) | refine xc_v4_1 (c2) (Nat.le_of_ble_eq_true rfl) ?_))
      (first | exact ⟨Or.inl trivial, rfl⟩ | exact ⟨Or.inl trivial, rfl, rfl⟩ | (simp; done) | exact ⟨by simp, rfl⟩ | exact ⟨by simp, rfl, rfl⟩ | rfl)
    · rw [if_pos (show (12 : Int32) ≤ nI (sne s) by rw [show sne s = 12 by omega]; decide)] at c1
      refine ⟨false, s, h, Or.inr ⟨rfl, fun z => hn z.2, rfl⟩, ?_, X, cF.refl h, hv⟩
      refine xK_X7_doEntry (B.hp 0 _ rfl) (xe_X7_doEntry_0 ?_)
      (repeat (first | (simp only [xb_X7_doEntry_0, xb_X7_doEntry_18, xs_nil, Nat.reduceAdd, true_implies, not_true_eq_false, not_false_eq_true, false_implies, and_true, true_and, x_10, xs_aload_n_0, xs_iload_n_1, xs_iload_n_2, xs_iload_n_3, xs_if_eq, xs_iconst_0, xs_ireturn, xs_pop_i, xs_pop_a, xs_iconst_1]) | (refine xr_getf (B.hp 0 _ rfl) (by rfl) ?_) | (refine xr_getf (B.hs 0 _ rfl) (by rfl) ?_) | (refine xr_getf (B.hs 1 _ rfl) (by rfl) ?_) | (refine xr_getf (B.hs 7 _ rfl) (by rfl) ?_) | refine xc_v4_1 (c1) (Nat.le_of_ble_eq_true rfl) ?_))
      refine ⟨fun z => absurd z (by decide), fun _ => ?_⟩
      (repeat (first | (simp only [xb_X7_doEntry_0, xb_X7_doEntry_18, xs_nil, Nat.reduceAdd, true_implies, not_true_eq_false, not_false_eq_true, false_implies, and_true, true_and, x_10, xs_aload_n_0, xs_iload_n_1, xs_iload_n_2, xs_iload_n_3, xs_if_eq, xs_iconst_0, xs_ireturn, xs_pop_i, xs_pop_a, xs_iconst_1]) ))
      (first | exact ⟨Or.inl trivial, rfl⟩ | exact ⟨Or.inl trivial, rfl, rfl⟩ | (simp; done) | exact ⟨by simp, rfl⟩ | exact ⟨by simp, rfl, rfl⟩ | rfl)
  · rw [if_neg hc] at c1
    refine ⟨false, s, h, Or.inr ⟨rfl, fun z => hc z.1, rfl⟩, ?_, X, cF.refl h, hv⟩
    refine xK_X7_doEntry (B.hp 0 _ rfl) (xe_X7_doEntry_0 ?_)
    (repeat (first | (simp only [xb_X7_doEntry_0, xb_X7_doEntry_18, xs_nil, Nat.reduceAdd, true_implies, not_true_eq_false, not_false_eq_true, false_implies, and_true, true_and, x_10, xs_aload_n_0, xs_iload_n_1, xs_iload_n_2, xs_iload_n_3, xs_if_eq, xs_iconst_0, xs_ireturn, xs_pop_i, xs_pop_a, xs_iconst_1]) | (refine xr_getf (B.hp 0 _ rfl) (by rfl) ?_) | (refine xr_getf (B.hs 0 _ rfl) (by rfl) ?_) | (refine xr_getf (B.hs 1 _ rfl) (by rfl) ?_) | (refine xr_getf (B.hs 7 _ rfl) (by rfl) ?_) | refine xc_v4_1 (c1) (Nat.le_of_ble_eq_true rfl) ?_))
    refine ⟨fun z => absurd z (by decide), fun _ => ?_⟩
    (repeat (first | (simp only [xb_X7_doEntry_0, xb_X7_doEntry_18, xs_nil, Nat.reduceAdd, true_implies, not_true_eq_false, not_false_eq_true, false_implies, and_true, true_and, x_10, xs_aload_n_0, xs_iload_n_1, xs_iload_n_2, xs_iload_n_3, xs_if_eq, xs_iconst_0, xs_ireturn, xs_pop_i, xs_pop_a, xs_iconst_1]) ))
    (first | exact ⟨Or.inl trivial, rfl⟩ | exact ⟨Or.inl trivial, rfl, rfl⟩ | (simp; done) | exact ⟨by simp, rfl⟩ | exact ⟨by simp, rfl, rfl⟩ | rfl)
theorem cX_num (X : cX h s a k sh nx ct tx kd fi cn nu nr at_ ln od rf) (q1 : fi.length = 120) (q2 : cn.length = 120) (hi : i < 120) (hcn : cn.getD i 0 = nI n) (hfi : fi.getD i 0 = nI f) (hag : agr nu F) (hfn : f + n ≤ F.length) (hj : j < 7) (hn : n ≤ 6) : xK 147 [.ref 115, .int (nI i), .int (nI j)] h (some (.int (if j < n then F.getD (f + j) 0 else -1))) h := by
  have hF := hag.2.1
  have c := c_number (x1 := nI i) (x2 := nI j) X.2.2 (by rw [q2]; exact x_in hi (by decide)) (by rw [q1]; exact x_in hi (by decide)) (by
    rw [xg_n (by omega), xg_n (by omega), hcn, hfi, nI_add, hag.1]
    intro z
    have := (nI_ltI (by omega) (by omega)).mp z
    exact x_in (by omega) (by decide))
  have e : (if nI j < xg cn (nI i) then xg nu (xg fi (nI i) + nI j) else -1) = (if j < n then F.getD (f + j) 0 else -1) := by
    rw [xg_n (by omega), xg_n (by omega), hcn, hfi, nI_add, xg_n (by omega)]
    by_cases hjn : j < n
    · rw [if_pos hjn, if_pos ((nI_ltI (by omega) (by omega)).mpr hjn), hag.2.2 _ (by omega)]
    · rw [if_neg hjn, if_neg (fun z => hjn ((nI_ltI (by omega) (by omega)).mp z))]
  rw [e] at c
  exact c
end CX
