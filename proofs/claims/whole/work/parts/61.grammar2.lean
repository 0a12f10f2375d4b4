/-! roots, sets, entry, rule, of -/
section PC
variable {ys : List Int32} {h : xH} {s : kS} {k : kC} {sh : Nat → kS} {nx ct : Nat} {tx : List Int32} {ln : Int32} {rf : List Int32} {nw pa : List Int32} {sts byt : Int32} {x1 x2 x3 x4 : Int32}
theorem c7_roots_ok (B : cW h s k sh nx ct tx ln rf) (hv : sv s) (hnx : nx < 6) (hct : ct ≤ 6) {a : Nat} (ha : a < 6) (h4 : -1 ≤ x2) (h9 : x2 ≤ 9) : ∃ h1, xK 36 [.ref 2, .int (nI a), .int x2] h (some (.int ((sR s).getD a 0))) h1 ∧ cW h1 (srtp s a x2) k (shp sh nx s) ((nx + 1) % 6) (min (ct + 1) 6) tx ln rf ∧ cF h h1 := by
  obtain ⟨h1, p1, B1, F1⟩ := c7_push B hnx hct hv.1
  have c1 := c_whyNoRootPrice (x1 := nI a) (x2 := x2) (x_tc_g B.hs)
  rw [if_pos ⟨⟨nI_pos' (by omega), nI_lt (b := 6) ha (by decide)⟩, h4, h9⟩] at c1
  have c2 := c_putRootPrice (x1 := nI a) (x2 := x2) (x_tc_g B1.hs) (by decide) (by rw [hv.lR]; exact x_in (by omega) (by decide))
  rw [xu_n (by omega), xg_n (by omega), x_tc_gw B1.hs] at c2
  obtain ⟨B2, F2⟩ := B1.now (srtp s a x2)
  refine ⟨_, ?_, B2, F1.trans F2⟩
  refine xK_X7_roots (B.hp 0 _ rfl) (xe_X7_roots_0 ?_)
  (repeat (first | (simp only [xb_X7_roots_0, xb_X7_roots_23, xs_nil, Nat.reduceAdd, true_implies, not_true_eq_false, not_false_eq_true, false_implies, and_true, true_and, x_10, xs_aload_n_0, xs_iload_n_1, xs_iload_n_2, xs_istore_n_3_i, xs_istore_n_3_a, xs_istore_n_3_n, xs_istore_n_3_l, xs_iload_n_3, xs_if_eq, xs_ireturn]) | (refine xr_getf (B.hp 0 _ rfl) (by rfl) ?_) | (refine xr_getf (B.hs 0 _ rfl) (by rfl) ?_) | (refine xr_getf (B.hs 1 _ rfl) (by rfl) ?_) | (refine xr_getf (B.hs 7 _ rfl) (by rfl) ?_) | refine xc_v3_1 (c1) (Nat.le_of_ble_eq_true rfl) ?_))
  refine xe_X7_roots_23 ?_
  (repeat (first | (simp only [xb_X7_roots_0, xb_X7_roots_23, xs_nil, Nat.reduceAdd, true_implies, not_true_eq_false, not_false_eq_true, false_implies, and_true, true_and, x_10, xs_aload_n_0, xs_iload_n_1, xs_iload_n_2, xs_istore_n_3_i, xs_istore_n_3_a, xs_istore_n_3_n, xs_istore_n_3_l, xs_iload_n_3, xs_if_eq, xs_ireturn]) | (refine xr_getf (B.hp 0 _ rfl) (by rfl) ?_) | (refine xr_getf (B.hs 0 _ rfl) (by rfl) ?_) | (refine xr_getf (B.hs 1 _ rfl) (by rfl) ?_) | (refine xr_getf (B.hs 7 _ rfl) (by rfl) ?_) | refine xc_v2_0 (p1) (Nat.le_of_ble_eq_true rfl) ?_ | (refine xr_getf (B1.hp 0 _ rfl) (by rfl) ?_) | (refine xr_getf (B1.hs 0 _ rfl) (by rfl) ?_) | refine xc_v3_1 (c2) (Nat.le_of_ble_eq_true rfl) ?_))
  (first | exact ⟨Or.inl trivial, rfl⟩ | exact ⟨Or.inl trivial, rfl, rfl⟩ | (simp; done) | exact ⟨by simp, rfl⟩ | exact ⟨by simp, rfl, rfl⟩ | rfl)
theorem c7_roots_bad (B : cW h s k sh nx ct tx ln rf) (hl : rf.length = 3) (hc : ¬ ((0 ≤ x1 ∧ x1 < 6) ∧ -1 ≤ x2 ∧ x2 ≤ 9)) : ∃ h1, xK 36 [.ref 2, .int x1, .int x2] h (some (.int (-2))) h1 ∧ cW h1 s k sh nx ct tx ln (rfi rf 0) ∧ cF h h1 := by
  obtain ⟨h1, p1, B1, F1⟩ := c7_bad B hl
  have c1 := c_whyNoRootPrice (x1 := x1) (x2 := x2) (x_tc_g B.hs)
  rw [if_neg hc] at c1
  refine ⟨h1, ?_, B1, F1⟩
  refine xK_X7_roots (B.hp 0 _ rfl) (xe_X7_roots_0 ?_)
  (repeat (first | (simp only [xb_X7_roots_0, xb_X7_roots_23, xs_nil, Nat.reduceAdd, true_implies, not_true_eq_false, not_false_eq_true, false_implies, and_true, true_and, x_10, xs_aload_n_0, xs_iload_n_1, xs_iload_n_2, xs_istore_n_3_i, xs_istore_n_3_a, xs_istore_n_3_n, xs_istore_n_3_l, xs_iload_n_3, xs_if_eq, xs_ireturn]) | (refine xr_getf (B.hp 0 _ rfl) (by rfl) ?_) | (refine xr_getf (B.hs 0 _ rfl) (by rfl) ?_) | (refine xr_getf (B.hs 1 _ rfl) (by rfl) ?_) | (refine xr_getf (B.hs 7 _ rfl) (by rfl) ?_) | refine xc_v3_1 (c1) (Nat.le_of_ble_eq_true rfl) ?_))
  refine ⟨fun z => absurd z (by decide), fun _ => ?_⟩
  (repeat (first | (simp only [xb_X7_roots_0, xb_X7_roots_23, xs_nil, Nat.reduceAdd, true_implies, not_true_eq_false, not_false_eq_true, false_implies, and_true, true_and, x_10, xs_aload_n_0, xs_iload_n_1, xs_iload_n_2, xs_istore_n_3_i, xs_istore_n_3_a, xs_istore_n_3_n, xs_istore_n_3_l, xs_iload_n_3, xs_if_eq, xs_ireturn]) | refine xc_v2_1 (p1) (Nat.le_of_ble_eq_true rfl) ?_))
  (first | exact ⟨Or.inl trivial, rfl⟩ | exact ⟨Or.inl trivial, rfl, rfl⟩ | (simp; done) | exact ⟨by simp, rfl⟩ | exact ⟨by simp, rfl, rfl⟩ | rfl)
theorem m8_roots_ok (M : mW h nw pa (nI ct) rf tx byt) (hct : ct ≤ 6) (lp : pa.length = 894) (ln : nw.length = 149) {a : Nat} (ha : a < 6) (h4 : -1 ≤ x2) (h9 : x2 ≤ 9) : ∃ h2, xK 37 [.ref 122, .int (nI a), .int x2] h (some (.int (nw.getD (72 + a) 0))) h2 ∧ mW h2 (nw.set (72 + a) x2) (remem pa nw ct) (nI (min (ct + 1) 6)) rf tx byt ∧ mF h h2 := by
  obtain ⟨fs, h0⟩ := M.h0
  obtain ⟨h1, p1, M1, F1⟩ := m8_remembers M hct lp ln
  have ei : (72 : Int32) + nI a = nI (72 + a) := nI_add 72 a
  obtain ⟨h2, p2, M2, F2⟩ := m8_exchanges (x1 := nI (72 + a)) (x2 := x2) M1 (by rw [ln]; exact x_in (by omega) (by decide))
  rw [xg_n (by omega)] at p2
  rw [xu_n (by omega)] at M2
  have cP := c_isPrice (x1 := x2) (h := h)
  rw [if_pos ⟨h4, h9⟩] at cP
  have cR := c_isSort (x1 := nI a) (h := h)
  rw [if_pos ⟨nI_pos' (by omega), nI_le (b := 5) (by omega) (by decide)⟩] at cR
  refine ⟨h2, ?_, M2, F1.trans F2⟩
  refine xK_X8_roots h0 (xe_X8_roots_0 ?_)
  (repeat (first | (simp only [xb_X8_roots_0, xb_X8_roots_14, xb_X8_roots_19, xs_nil, Nat.reduceAdd, true_implies, not_true_eq_false, not_false_eq_true, false_implies, and_true, true_and, x_10, xs_iload_n_1, xs_if_eq, xs_iload_n_2, xs_if_ne, xs_aload_n_0, xs_ireturn, xs_bipush_72, xs_iadd]) | refine xc_s1_1 (by decide) (cR) (Nat.le_of_ble_eq_true rfl) ?_ | refine xc_s1_1 (by decide) (cP) (Nat.le_of_ble_eq_true rfl) ?_))
  refine xe_X8_roots_19 ?_
  (repeat (first | (simp only [xb_X8_roots_0, xb_X8_roots_14, xb_X8_roots_19, xs_nil, Nat.reduceAdd, true_implies, not_true_eq_false, not_false_eq_true, false_implies, and_true, true_and, x_10, xs_iload_n_1, xs_if_eq, xs_iload_n_2, xs_if_ne, xs_aload_n_0, xs_ireturn, xs_bipush_72, xs_iadd]) | refine xc_v1_0 (p1) (Nat.le_of_ble_eq_true rfl) ?_))
  rw [ei]
  (repeat (first | (simp only [xb_X8_roots_0, xb_X8_roots_14, xb_X8_roots_19, xs_nil, Nat.reduceAdd, true_implies, not_true_eq_false, not_false_eq_true, false_implies, and_true, true_and, x_10, xs_iload_n_1, xs_if_eq, xs_iload_n_2, xs_if_ne, xs_aload_n_0, xs_ireturn, xs_bipush_72, xs_iadd]) | refine xc_v3_1 (p2) (Nat.le_of_ble_eq_true rfl) ?_))
  (first | exact ⟨Or.inl trivial, rfl⟩ | exact ⟨Or.inl trivial, rfl, rfl⟩ | (simp; done) | exact ⟨by simp, rfl⟩ | exact ⟨by simp, rfl, rfl⟩ | rfl)
theorem m8_roots_bad (M : mW h nw pa sts rf tx byt) (hr : rf.length = 3) (hc : ¬ ((0 ≤ x1 ∧ x1 < 6) ∧ -1 ≤ x2 ∧ x2 ≤ 9)) : ∃ h2, xK 37 [.ref 122, .int x1, .int x2] h (some (.int (-2))) h2 ∧ mW h2 nw pa sts (rfi rf 0) tx byt ∧ mF h h2 := by
  obtain ⟨fs, h0⟩ := M.h0
  obtain ⟨h1, p1, M1, F1⟩ := m8_bad M hr
  rw [lt_le6] at hc
  have cP := c_isPrice (x1 := x2) (h := h)
  have cR := c_isSort (x1 := x1) (h := h)
  refine ⟨h1, ?_, M1, F1⟩
  have fin : x_EV 37 14 [some (.ref 122), some (.int x1), some (.int x2)] [] h (some (.int (-2))) h1 := by
    refine xe_X8_roots_14 ?_
    (repeat (first | (simp only [xb_X8_roots_0, xb_X8_roots_14, xb_X8_roots_19, xs_nil, Nat.reduceAdd, true_implies, not_true_eq_false, not_false_eq_true, false_implies, and_true, true_and, x_10, xs_iload_n_1, xs_if_eq, xs_iload_n_2, xs_if_ne, xs_aload_n_0, xs_ireturn, xs_bipush_72, xs_iadd]) | refine xc_v1_1 (p1) (Nat.le_of_ble_eq_true rfl) ?_))
    (first | exact ⟨Or.inl trivial, rfl⟩ | exact ⟨Or.inl trivial, rfl, rfl⟩ | (simp; done) | exact ⟨by simp, rfl⟩ | exact ⟨by simp, rfl, rfl⟩ | rfl)
  refine xK_X8_roots h0 (xe_X8_roots_0 ?_)
  (repeat (first | (simp only [xb_X8_roots_0, xb_X8_roots_14, xb_X8_roots_19, xs_nil, Nat.reduceAdd, true_implies, not_true_eq_false, not_false_eq_true, false_implies, and_true, true_and, x_10, xs_iload_n_1, xs_if_eq, xs_iload_n_2, xs_if_ne, xs_aload_n_0, xs_ireturn, xs_bipush_72, xs_iadd]) | refine xc_s1_1 (by decide) (cR) (Nat.le_of_ble_eq_true rfl) ?_))
  simp only [x_ite0, Classical.not_not]
  refine ⟨fun _ => fin, fun z => ?_⟩
  (repeat (first | (simp only [xb_X8_roots_0, xb_X8_roots_14, xb_X8_roots_19, xs_nil, Nat.reduceAdd, true_implies, not_true_eq_false, not_false_eq_true, false_implies, and_true, true_and, x_10, xs_iload_n_1, xs_if_eq, xs_iload_n_2, xs_if_ne, xs_aload_n_0, xs_ireturn, xs_bipush_72, xs_iadd]) | refine xc_s1_1 (by decide) (cP) (Nat.le_of_ble_eq_true rfl) ?_))
  simp only [x_ite0, Classical.not_not]
  exact ⟨fun z2 => absurd ⟨z, z2⟩ hc, fun _ => fin⟩
theorem t_roots (B : BR ys h) : TC ys h 36 37 [.int x1, .int x2] := by
  obtain ⟨s, k, sh, nx, ct, tx, ln, rf, nw, pa, L, C, M, I⟩ := B
  obtain ⟨i1, i2, ⟨i3, i4, i5⟩, i6, i7, i8, i9⟩ := id I
  by_cases hc : (0 ≤ x1 ∧ x1 < 6) ∧ -1 ≤ x2 ∧ x2 ≤ 9
  · obtain ⟨⟨a1, a2⟩, v1, v2⟩ := hc
    obtain ⟨a, ha, rfl⟩ := nI_rng (n := 6) rfl (by decide) a1 a2
    have e : nw.getD (72 + a) 0 = (sR s).getD a 0 := i1.2.1.2.2.1 _ (by omega)
    refine TC_mk L (c7_roots_ok C i1.1 i3 i4 ha v1 v2) (fun h1 F => ?_) (INV_push I i1 (Rl_root i1 ha (price_of v1 v2)) i2)
    rw [← e]
    exact m8_roots_ok (M.cF F) i4 i6 i1.2.1.1 ha v1 v2
  · exact TC_mk L (c7_roots_bad C i9 hc) (fun h1 F => m8_roots_bad (M.cF F) i9 hc) (INV_rf I)
/-- sets -/
def smax (i : Nat) : Nat := if i = 0 then 3 else if i = 1 then 9 else 99
theorem smax_x {i : Nat} (hi : i < 3) : xg [3, 9, 99] (nI i) = nI (smax i) := by
  rcases (show i = 0 ∨ i = 1 ∨ i = 2 by omega) with rfl | rfl | rfl <;> rfl
theorem c7_sets_ok (B : cW h s k sh nx ct tx ln rf) (hS : h[1]? = some (xi [3, 9, 99])) (hv : sv s) (hnx : nx < 6) (hct : ct ≤ 6) {a v : Nat} (ha : a < 3) (hj : v ≤ smax a) : ∃ h1, xK 46 [.ref 2, .int (nI a), .int (nI v)] h (some (.int ((sT s).getD a 0))) h1 ∧ cW h1 (sset s a (nI v)) k (shp sh nx s) ((nx + 1) % 6) (min (ct + 1) 6) tx ln rf ∧ cF h h1 := by
  obtain ⟨h1, p1, B1, F1⟩ := c7_push B hnx hct hv.1
  have hv99 : smax a ≤ 99 := by unfold smax; split; omega; split <;> omega
  have c1 := c_isBelow (x1 := nI a) (x2 := nI [(3 : Int32), 9, 99].length) (h := h)
  rw [if_pos ⟨nI_pos' (by omega), nI_lt (b := 3) ha (by decide)⟩] at c1
  have c2 := c_putSetting (x1 := nI a) (x2 := nI v) (x_tc_g B1.hs) (by decide) (by rw [hv.lT]; exact x_in (by omega) (by decide))
  rw [xu_n (by omega), xg_n (by omega), x_tc_gw B1.hs] at c2
  obtain ⟨B2, F2⟩ := B1.now (sset s a (nI v))
  refine ⟨_, ?_, B2, F1.trans F2⟩
  refine xK_X7_sets (B.hp 0 _ rfl) (xe_X7_sets_0 ?_)
  (repeat (first | (simp only [xb_X7_sets_0, xb_X7_sets_24, xb_X7_sets_31, xs_nil, Nat.reduceAdd, true_implies, not_true_eq_false, not_false_eq_true, false_implies, and_true, true_and, x_10, xs_iload_n_1, xs_getstatic, xs_if_eq, xs_iload_n_2, xs_if_lt, xs_icmp_le, xs_aload_n_0, xs_bipush_m2, xs_ireturn]) | (refine xr_alen hS ?_) | refine xc_s2_1 (by decide) (c1) (Nat.le_of_ble_eq_true rfl) ?_))
  refine ⟨fun z => absurd z (nI_pos (by omega)), fun _ => ?_⟩
  (repeat (first | (simp only [xb_X7_sets_0, xb_X7_sets_24, xb_X7_sets_31, xs_nil, Nat.reduceAdd, true_implies, not_true_eq_false, not_false_eq_true, false_implies, and_true, true_and, x_10, xs_iload_n_1, xs_getstatic, xs_if_eq, xs_iload_n_2, xs_if_lt, xs_icmp_le, xs_aload_n_0, xs_bipush_m2, xs_ireturn]) | (refine xr_iaload hS (x_in (by exact ha) (by decide)) ?_)))
  rw [smax_x ha]
  refine ⟨fun _ => ?_, fun z => absurd (nI_le hj (by omega)) z⟩
  refine xe_X7_sets_31 ?_
  (repeat (first | (simp only [xb_X7_sets_0, xb_X7_sets_24, xb_X7_sets_31, xs_nil, Nat.reduceAdd, true_implies, not_true_eq_false, not_false_eq_true, false_implies, and_true, true_and, x_10, xs_iload_n_1, xs_getstatic, xs_if_eq, xs_iload_n_2, xs_if_lt, xs_icmp_le, xs_aload_n_0, xs_bipush_m2, xs_ireturn]) | (refine xr_getf (B.hp 0 _ rfl) (by rfl) ?_) | (refine xr_getf (B.hs 0 _ rfl) (by rfl) ?_) | (refine xr_getf (B.hs 1 _ rfl) (by rfl) ?_) | (refine xr_getf (B.hs 7 _ rfl) (by rfl) ?_) | refine xc_v2_0 (p1) (Nat.le_of_ble_eq_true rfl) ?_ | (refine xr_getf (B1.hp 0 _ rfl) (by rfl) ?_) | (refine xr_getf (B1.hs 0 _ rfl) (by rfl) ?_) | refine xc_v3_1 (c2) (Nat.le_of_ble_eq_true rfl) ?_))
  (first | exact ⟨Or.inl trivial, rfl⟩ | exact ⟨Or.inl trivial, rfl, rfl⟩ | (simp; done) | exact ⟨by simp, rfl⟩ | exact ⟨by simp, rfl, rfl⟩ | rfl)
theorem c7_sets_bad (B : cW h s k sh nx ct tx ln rf) (hS : h[1]? = some (xi [3, 9, 99])) (hl : rf.length = 3) (hc : ¬ ∃ a v, a < 3 ∧ v ≤ smax a ∧ x1 = nI a ∧ x2 = nI v) : ∃ h1, xK 46 [.ref 2, .int x1, .int x2] h (some (.int (-2))) h1 ∧ cW h1 s k sh nx ct tx ln (rfi rf 0) ∧ cF h h1 := by
  obtain ⟨h1, p1, B1, F1⟩ := c7_bad B hl
  have c1 := c_isBelow (x1 := x1) (x2 := nI [(3 : Int32), 9, 99].length) (h := h)
  refine ⟨h1, ?_, B1, F1⟩
  have fin : x_EV 46 24 [some (.ref 2), some (.int x1), some (.int x2)] [] h (some (.int (-2))) h1 := by
    refine xe_X7_sets_24 ?_
    (repeat (first | (simp only [xb_X7_sets_0, xb_X7_sets_24, xb_X7_sets_31, xs_nil, Nat.reduceAdd, true_implies, not_true_eq_false, not_false_eq_true, false_implies, and_true, true_and, x_10, xs_iload_n_1, xs_getstatic, xs_if_eq, xs_iload_n_2, xs_if_lt, xs_icmp_le, xs_aload_n_0, xs_bipush_m2, xs_ireturn]) | refine xc_v2_1 (p1) (Nat.le_of_ble_eq_true rfl) ?_))
    (first | exact ⟨Or.inl trivial, rfl⟩ | exact ⟨Or.inl trivial, rfl, rfl⟩ | (simp; done) | exact ⟨by simp, rfl⟩ | exact ⟨by simp, rfl, rfl⟩ | rfl)
  refine xK_X7_sets (B.hp 0 _ rfl) (xe_X7_sets_0 ?_)
  (repeat (first | (simp only [xb_X7_sets_0, xb_X7_sets_24, xb_X7_sets_31, xs_nil, Nat.reduceAdd, true_implies, not_true_eq_false, not_false_eq_true, false_implies, and_true, true_and, x_10, xs_iload_n_1, xs_getstatic, xs_if_eq, xs_iload_n_2, xs_if_lt, xs_icmp_le, xs_aload_n_0, xs_bipush_m2, xs_ireturn]) | (refine xr_alen hS ?_) | refine xc_s2_1 (by decide) (c1) (Nat.le_of_ble_eq_true rfl) ?_))
  simp only [x_ite0, Classical.not_not]
  refine ⟨fun _ => fin, fun z => ?_⟩
  obtain ⟨a, ha, rfl⟩ := nI_rng (n := 3) rfl (by decide) z.1 z.2
  (repeat (first | (simp only [xb_X7_sets_0, xb_X7_sets_24, xb_X7_sets_31, xs_nil, Nat.reduceAdd, true_implies, not_true_eq_false, not_false_eq_true, false_implies, and_true, true_and, x_10, xs_iload_n_1, xs_getstatic, xs_if_eq, xs_iload_n_2, xs_if_lt, xs_icmp_le, xs_aload_n_0, xs_bipush_m2, xs_ireturn]) ))
  refine ⟨fun _ => fin, fun z2 => ?_⟩
  (repeat (first | (simp only [xb_X7_sets_0, xb_X7_sets_24, xb_X7_sets_31, xs_nil, Nat.reduceAdd, true_implies, not_true_eq_false, not_false_eq_true, false_implies, and_true, true_and, x_10, xs_iload_n_1, xs_getstatic, xs_if_eq, xs_iload_n_2, xs_if_lt, xs_icmp_le, xs_aload_n_0, xs_bipush_m2, xs_ireturn]) | (refine xr_iaload hS (x_in (by exact ha) (by decide)) ?_)))
  rw [smax_x ha]
  refine ⟨fun z3 => ?_, fun _ => fin⟩
  have hv99 : smax a ≤ 99 := by unfold smax; split; omega; split <;> omega
  obtain ⟨v, hvv, rfl⟩ := nI_rngle (n := smax a) rfl (by omega) (Int32.not_lt.mp z2) z3
  exact absurd ⟨a, v, ha, hvv, rfl, rfl⟩ hc
theorem m8_sets_ok (M : mW h nw pa (nI ct) rf tx byt) (hct : ct ≤ 6) (lp : pa.length = 894) (ln : nw.length = 149) {a v : Nat} (ha : a < 3) (hj : v ≤ smax a) : ∃ h2, xK 47 [.ref 122, .int (nI a), .int (nI v)] h (some (.int (nw.getD (115 + a) 0))) h2 ∧ mW h2 (nw.set (115 + a) (nI v)) (remem pa nw ct) (nI (min (ct + 1) 6)) rf tx byt ∧ mF h h2 := by
  obtain ⟨fs, h0⟩ := M.h0
  obtain ⟨h1, p1, M1, F1⟩ := m8_remembers M hct lp ln
  have hv99 : smax a ≤ 99 := by unfold smax; split; omega; split <;> omega
  have ei : (115 : Int32) + nI a = nI (115 + a) := nI_add 115 a
  obtain ⟨h2, p2, M2, F2⟩ := m8_exchanges (x1 := nI (115 + a)) (x2 := nI v) M1 (by rw [ln]; exact x_in (by omega) (by decide))
  rw [xg_n (by omega)] at p2
  rw [xu_n (by omega)] at M2
  have c1 := c_in (x1 := nI a) (x2 := 0) (x3 := 2) (h := h)
  rw [if_pos ⟨nI_pos' (by omega), nI_le (b := 2) (by omega) (by decide)⟩] at c1
  have c2 := c_in (x1 := nI v) (x2 := 0) (x3 := nI (smax a)) (h := h)
  rw [if_pos ⟨nI_pos' (by omega), nI_le hj (by omega)⟩] at c2
  have fin : ∀ x : Int32, x = nI (smax a) → x_EV 47 31 [some (.ref 122), some (.int (nI a)), some (.int (nI v))] [.int x, .int 0, .int (nI v)] h (some (.int (nw.getD (115 + a) 0))) h2 := by
    intro x hx
    subst hx
    refine xe_X8_sets_31 ?_
    (repeat (first | (simp only [xb_X8_sets_0, xb_X8_sets_19, xb_X8_sets_29, xb_X8_sets_31, xb_X8_sets_37, xb_X8_sets_42, xs_nil, Nat.reduceAdd, true_implies, not_true_eq_false, not_false_eq_true, false_implies, and_true, true_and, x_10, xs_iload_n_1, xs_iconst_0, xs_iconst_2, xs_if_eq, xs_iload_n_2, xs_if_ne, xs_iconst_3, xs_goto, xs_iconst_1, xs_icmp_ne, xs_bipush_9, xs_bipush_99, xs_aload_n_0, xs_ireturn, xs_bipush_115, xs_iadd]) | refine xc_s3_1 (by decide) (c2) (Nat.le_of_ble_eq_true rfl) ?_))
    refine xe_X8_sets_42 ?_
    (repeat (first | (simp only [xb_X8_sets_0, xb_X8_sets_19, xb_X8_sets_29, xb_X8_sets_31, xb_X8_sets_37, xb_X8_sets_42, xs_nil, Nat.reduceAdd, true_implies, not_true_eq_false, not_false_eq_true, false_implies, and_true, true_and, x_10, xs_iload_n_1, xs_iconst_0, xs_iconst_2, xs_if_eq, xs_iload_n_2, xs_if_ne, xs_iconst_3, xs_goto, xs_iconst_1, xs_icmp_ne, xs_bipush_9, xs_bipush_99, xs_aload_n_0, xs_ireturn, xs_bipush_115, xs_iadd]) | refine xc_v1_0 (p1) (Nat.le_of_ble_eq_true rfl) ?_))
    rw [ei]
    (repeat (first | (simp only [xb_X8_sets_0, xb_X8_sets_19, xb_X8_sets_29, xb_X8_sets_31, xb_X8_sets_37, xb_X8_sets_42, xs_nil, Nat.reduceAdd, true_implies, not_true_eq_false, not_false_eq_true, false_implies, and_true, true_and, x_10, xs_iload_n_1, xs_iconst_0, xs_iconst_2, xs_if_eq, xs_iload_n_2, xs_if_ne, xs_iconst_3, xs_goto, xs_iconst_1, xs_icmp_ne, xs_bipush_9, xs_bipush_99, xs_aload_n_0, xs_ireturn, xs_bipush_115, xs_iadd]) | refine xc_v3_1 (p2) (Nat.le_of_ble_eq_true rfl) ?_))
    (first | exact ⟨Or.inl trivial, rfl⟩ | exact ⟨Or.inl trivial, rfl, rfl⟩ | (simp; done) | exact ⟨by simp, rfl⟩ | exact ⟨by simp, rfl, rfl⟩ | rfl)
  refine ⟨h2, ?_, M2, F1.trans F2⟩
  refine xK_X8_sets h0 (xe_X8_sets_0 ?_)
  (repeat (first | (simp only [xb_X8_sets_0, xb_X8_sets_19, xb_X8_sets_29, xb_X8_sets_31, xb_X8_sets_37, xb_X8_sets_42, xs_nil, Nat.reduceAdd, true_implies, not_true_eq_false, not_false_eq_true, false_implies, and_true, true_and, x_10, xs_iload_n_1, xs_iconst_0, xs_iconst_2, xs_if_eq, xs_iload_n_2, xs_if_ne, xs_iconst_3, xs_goto, xs_iconst_1, xs_icmp_ne, xs_bipush_9, xs_bipush_99, xs_aload_n_0, xs_ireturn, xs_bipush_115, xs_iadd]) | refine xc_s3_1 (by decide) (c1) (Nat.le_of_ble_eq_true rfl) ?_))
  rcases (show a = 0 ∨ a = 1 ∨ a = 2 by omega) with rfl | rfl | rfl
  · refine ⟨fun z => absurd rfl z, fun _ => ?_⟩
    (repeat (first | (simp only [xb_X8_sets_0, xb_X8_sets_19, xb_X8_sets_29, xb_X8_sets_31, xb_X8_sets_37, xb_X8_sets_42, xs_nil, Nat.reduceAdd, true_implies, not_true_eq_false, not_false_eq_true, false_implies, and_true, true_and, x_10, xs_iload_n_1, xs_iconst_0, xs_iconst_2, xs_if_eq, xs_iload_n_2, xs_if_ne, xs_iconst_3, xs_goto, xs_iconst_1, xs_icmp_ne, xs_bipush_9, xs_bipush_99, xs_aload_n_0, xs_ireturn, xs_bipush_115, xs_iadd]) ))
    exact fin 3 rfl
  · refine ⟨fun _ => ?_, fun z => absurd (by decide) z⟩
    refine xe_X8_sets_19 ?_
    (repeat (first | (simp only [xb_X8_sets_0, xb_X8_sets_19, xb_X8_sets_29, xb_X8_sets_31, xb_X8_sets_37, xb_X8_sets_42, xs_nil, Nat.reduceAdd, true_implies, not_true_eq_false, not_false_eq_true, false_implies, and_true, true_and, x_10, xs_iload_n_1, xs_iconst_0, xs_iconst_2, xs_if_eq, xs_iload_n_2, xs_if_ne, xs_iconst_3, xs_goto, xs_iconst_1, xs_icmp_ne, xs_bipush_9, xs_bipush_99, xs_aload_n_0, xs_ireturn, xs_bipush_115, xs_iadd]) ))
    refine ⟨fun z => absurd rfl z, fun _ => ?_⟩
    (repeat (first | (simp only [xb_X8_sets_0, xb_X8_sets_19, xb_X8_sets_29, xb_X8_sets_31, xb_X8_sets_37, xb_X8_sets_42, xs_nil, Nat.reduceAdd, true_implies, not_true_eq_false, not_false_eq_true, false_implies, and_true, true_and, x_10, xs_iload_n_1, xs_iconst_0, xs_iconst_2, xs_if_eq, xs_iload_n_2, xs_if_ne, xs_iconst_3, xs_goto, xs_iconst_1, xs_icmp_ne, xs_bipush_9, xs_bipush_99, xs_aload_n_0, xs_ireturn, xs_bipush_115, xs_iadd]) ))
    exact fin 9 rfl
  · refine ⟨fun _ => ?_, fun z => absurd (by decide) z⟩
    refine xe_X8_sets_19 ?_
    (repeat (first | (simp only [xb_X8_sets_0, xb_X8_sets_19, xb_X8_sets_29, xb_X8_sets_31, xb_X8_sets_37, xb_X8_sets_42, xs_nil, Nat.reduceAdd, true_implies, not_true_eq_false, not_false_eq_true, false_implies, and_true, true_and, x_10, xs_iload_n_1, xs_iconst_0, xs_iconst_2, xs_if_eq, xs_iload_n_2, xs_if_ne, xs_iconst_3, xs_goto, xs_iconst_1, xs_icmp_ne, xs_bipush_9, xs_bipush_99, xs_aload_n_0, xs_ireturn, xs_bipush_115, xs_iadd]) ))
    refine ⟨fun _ => ?_, fun z => absurd (by decide) z⟩
    refine xe_X8_sets_29 ?_
    (repeat (first | (simp only [xb_X8_sets_0, xb_X8_sets_19, xb_X8_sets_29, xb_X8_sets_31, xb_X8_sets_37, xb_X8_sets_42, xs_nil, Nat.reduceAdd, true_implies, not_true_eq_false, not_false_eq_true, false_implies, and_true, true_and, x_10, xs_iload_n_1, xs_iconst_0, xs_iconst_2, xs_if_eq, xs_iload_n_2, xs_if_ne, xs_iconst_3, xs_goto, xs_iconst_1, xs_icmp_ne, xs_bipush_9, xs_bipush_99, xs_aload_n_0, xs_ireturn, xs_bipush_115, xs_iadd]) ))
    exact fin 99 rfl
theorem m8_sets_bad (M : mW h nw pa sts rf tx byt) (hr : rf.length = 3) (hc : ¬ ∃ a v, a < 3 ∧ v ≤ smax a ∧ x1 = nI a ∧ x2 = nI v) : ∃ h2, xK 47 [.ref 122, .int x1, .int x2] h (some (.int (-2))) h2 ∧ mW h2 nw pa sts (rfi rf 0) tx byt ∧ mF h h2 := by
  obtain ⟨fs, h0⟩ := M.h0
  obtain ⟨h1, p1, M1, F1⟩ := m8_bad M hr
  have c1 := c_in (x1 := x1) (x2 := 0) (x3 := 2) (h := h)
  refine ⟨h1, ?_, M1, F1⟩
  have fin : ∀ l : List (Option Value), l.length = 2 → x_EV 47 37 (some (.ref 122) :: l) [] h (some (.int (-2))) h1 := by
    intro l hl
    refine xe_X8_sets_37 ?_
    (repeat (first | (simp only [xb_X8_sets_0, xb_X8_sets_19, xb_X8_sets_29, xb_X8_sets_31, xb_X8_sets_37, xb_X8_sets_42, xs_nil, Nat.reduceAdd, true_implies, not_true_eq_false, not_false_eq_true, false_implies, and_true, true_and, x_10, xs_iload_n_1, xs_iconst_0, xs_iconst_2, xs_if_eq, xs_iload_n_2, xs_if_ne, xs_iconst_3, xs_goto, xs_iconst_1, xs_icmp_ne, xs_bipush_9, xs_bipush_99, xs_aload_n_0, xs_ireturn, xs_bipush_115, xs_iadd]) | refine xc_v1_1 (p1) (Nat.le_of_ble_eq_true rfl) ?_))
    (first | exact ⟨Or.inl trivial, rfl⟩ | exact ⟨Or.inl trivial, rfl, rfl⟩ | (simp; done) | exact ⟨by simp, rfl⟩ | exact ⟨by simp, rfl, rfl⟩ | rfl)
  have fin2 : ∀ (a : Nat) (x : Int32), a < 3 → x = nI (smax a) → x1 = nI a → x_EV 47 31 [some (.ref 122), some (.int (nI a)), some (.int x2)] [.int x, .int 0, .int x2] h (some (.int (-2))) h1 := by
    intro a x ha hx e1
    subst hx
    have hv99 : smax a ≤ 99 := by unfold smax; split; omega; split <;> omega
    have c2 := c_in (x1 := x2) (x2 := 0) (x3 := nI (smax a)) (h := h)
    refine xe_X8_sets_31 ?_
    (repeat (first | (simp only [xb_X8_sets_0, xb_X8_sets_19, xb_X8_sets_29, xb_X8_sets_31, xb_X8_sets_37, xb_X8_sets_42, xs_nil, Nat.reduceAdd, true_implies, not_true_eq_false, not_false_eq_true, false_implies, and_true, true_and, x_10, xs_iload_n_1, xs_iconst_0, xs_iconst_2, xs_if_eq, xs_iload_n_2, xs_if_ne, xs_iconst_3, xs_goto, xs_iconst_1, xs_icmp_ne, xs_bipush_9, xs_bipush_99, xs_aload_n_0, xs_ireturn, xs_bipush_115, xs_iadd]) | refine xc_s3_1 (by decide) (c2) (Nat.le_of_ble_eq_true rfl) ?_))
    simp only [x_ite0, Classical.not_not]
    refine ⟨fun z => ?_, fun _ => fin _ rfl⟩
    obtain ⟨v, hvv, e2⟩ := nI_rngle (n := smax a) rfl (by omega) z.1 z.2
    exact absurd ⟨a, v, ha, hvv, e1, e2⟩ hc
  refine xK_X8_sets h0 (xe_X8_sets_0 ?_)
  (repeat (first | (simp only [xb_X8_sets_0, xb_X8_sets_19, xb_X8_sets_29, xb_X8_sets_31, xb_X8_sets_37, xb_X8_sets_42, xs_nil, Nat.reduceAdd, true_implies, not_true_eq_false, not_false_eq_true, false_implies, and_true, true_and, x_10, xs_iload_n_1, xs_iconst_0, xs_iconst_2, xs_if_eq, xs_iload_n_2, xs_if_ne, xs_iconst_3, xs_goto, xs_iconst_1, xs_icmp_ne, xs_bipush_9, xs_bipush_99, xs_aload_n_0, xs_ireturn, xs_bipush_115, xs_iadd]) | refine xc_s3_1 (by decide) (c1) (Nat.le_of_ble_eq_true rfl) ?_))
  simp only [x_ite0, Classical.not_not]
  refine ⟨fun _ => fin _ rfl, fun z => ?_⟩
  obtain ⟨a, ha, rfl⟩ := nI_rngle (n := 2) rfl (by decide) z.1 z.2
  (repeat (first | (simp only [xb_X8_sets_0, xb_X8_sets_19, xb_X8_sets_29, xb_X8_sets_31, xb_X8_sets_37, xb_X8_sets_42, xs_nil, Nat.reduceAdd, true_implies, not_true_eq_false, not_false_eq_true, false_implies, and_true, true_and, x_10, xs_iload_n_1, xs_iconst_0, xs_iconst_2, xs_if_eq, xs_iload_n_2, xs_if_ne, xs_iconst_3, xs_goto, xs_iconst_1, xs_icmp_ne, xs_bipush_9, xs_bipush_99, xs_aload_n_0, xs_ireturn, xs_bipush_115, xs_iadd]) ))
  rcases (show a = 0 ∨ a = 1 ∨ a = 2 by omega) with rfl | rfl | rfl
  · refine ⟨fun z => absurd rfl z, fun _ => ?_⟩
    (repeat (first | (simp only [xb_X8_sets_0, xb_X8_sets_19, xb_X8_sets_29, xb_X8_sets_31, xb_X8_sets_37, xb_X8_sets_42, xs_nil, Nat.reduceAdd, true_implies, not_true_eq_false, not_false_eq_true, false_implies, and_true, true_and, x_10, xs_iload_n_1, xs_iconst_0, xs_iconst_2, xs_if_eq, xs_iload_n_2, xs_if_ne, xs_iconst_3, xs_goto, xs_iconst_1, xs_icmp_ne, xs_bipush_9, xs_bipush_99, xs_aload_n_0, xs_ireturn, xs_bipush_115, xs_iadd]) ))
    exact fin2 0 3 (by decide) rfl rfl
  · refine ⟨fun _ => ?_, fun z => absurd z (by decide)⟩
    refine xe_X8_sets_19 ?_
    (repeat (first | (simp only [xb_X8_sets_0, xb_X8_sets_19, xb_X8_sets_29, xb_X8_sets_31, xb_X8_sets_37, xb_X8_sets_42, xs_nil, Nat.reduceAdd, true_implies, not_true_eq_false, not_false_eq_true, false_implies, and_true, true_and, x_10, xs_iload_n_1, xs_iconst_0, xs_iconst_2, xs_if_eq, xs_iload_n_2, xs_if_ne, xs_iconst_3, xs_goto, xs_iconst_1, xs_icmp_ne, xs_bipush_9, xs_bipush_99, xs_aload_n_0, xs_ireturn, xs_bipush_115, xs_iadd]) ))
    refine ⟨fun z => absurd rfl z, fun _ => ?_⟩
    (repeat (first | (simp only [xb_X8_sets_0, xb_X8_sets_19, xb_X8_sets_29, xb_X8_sets_31, xb_X8_sets_37, xb_X8_sets_42, xs_nil, Nat.reduceAdd, true_implies, not_true_eq_false, not_false_eq_true, false_implies, and_true, true_and, x_10, xs_iload_n_1, xs_iconst_0, xs_iconst_2, xs_if_eq, xs_iload_n_2, xs_if_ne, xs_iconst_3, xs_goto, xs_iconst_1, xs_icmp_ne, xs_bipush_9, xs_bipush_99, xs_aload_n_0, xs_ireturn, xs_bipush_115, xs_iadd]) ))
    exact fin2 1 9 (by decide) rfl rfl
  · refine ⟨fun _ => ?_, fun z => absurd z (by decide)⟩
    refine xe_X8_sets_19 ?_
    (repeat (first | (simp only [xb_X8_sets_0, xb_X8_sets_19, xb_X8_sets_29, xb_X8_sets_31, xb_X8_sets_37, xb_X8_sets_42, xs_nil, Nat.reduceAdd, true_implies, not_true_eq_false, not_false_eq_true, false_implies, and_true, true_and, x_10, xs_iload_n_1, xs_iconst_0, xs_iconst_2, xs_if_eq, xs_iload_n_2, xs_if_ne, xs_iconst_3, xs_goto, xs_iconst_1, xs_icmp_ne, xs_bipush_9, xs_bipush_99, xs_aload_n_0, xs_ireturn, xs_bipush_115, xs_iadd]) ))
    refine ⟨fun _ => ?_, fun z => absurd (by decide) z⟩
    refine xe_X8_sets_29 ?_
    (repeat (first | (simp only [xb_X8_sets_0, xb_X8_sets_19, xb_X8_sets_29, xb_X8_sets_31, xb_X8_sets_37, xb_X8_sets_42, xs_nil, Nat.reduceAdd, true_implies, not_true_eq_false, not_false_eq_true, false_implies, and_true, true_and, x_10, xs_iload_n_1, xs_iconst_0, xs_iconst_2, xs_if_eq, xs_iload_n_2, xs_if_ne, xs_iconst_3, xs_goto, xs_iconst_1, xs_icmp_ne, xs_bipush_9, xs_bipush_99, xs_aload_n_0, xs_ireturn, xs_bipush_115, xs_iadd]) ))
    exact fin2 2 99 (by decide) rfl rfl
theorem t_sets (B : BR ys h) : TC ys h 46 47 [.int x1, .int x2] := by
  obtain ⟨s, k, sh, nx, ct, tx, ln, rf, nw, pa, L, C, M, I⟩ := B
  obtain ⟨i1, i2, ⟨i3, i4, i5⟩, i6, i7, i8, i9⟩ := id I
  by_cases hc : ∃ a v, a < 3 ∧ v ≤ smax a ∧ x1 = nI a ∧ x2 = nI v
  · obtain ⟨a, v, ha, hj, rfl, rfl⟩ := hc
    have e : nw.getD (115 + a) 0 = (sT s).getD a 0 := i1.2.1.2.2.2.2.2.1 _ ha
    refine TC_mk L (c7_sets_ok C L.2.2 i1.1 i3 i4 ha hj) (fun h1 F => ?_) (INV_push I i1 (Rl_set i1 ha hj rfl) i2)
    rw [← e]
    exact m8_sets_ok (M.cF F) i4 i6 i1.2.1.1 ha hj
  · exact TC_mk L (c7_sets_bad C L.2.2 i9 hc) (fun h1 F => m8_sets_bad (M.cF F) i9 hc) (INV_rf I)
end PC
