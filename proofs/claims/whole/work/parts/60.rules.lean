/-! rules, roots, sets, entry -/
theorem mW_A {h h' : xH} {nw' pa' : List Int32} {sts' : Int32} {rf' tx' : List Int32} {byt' : Int32} {z' : mZ} (hz : okZ z') (A : xA h 122 (x_m nw' pa' sts' rf' tx' byt' z') h') : mW h' nw' pa' sts' rf' tx' byt' ∧ mF h h' := ⟨⟨z', hz, A.hb⟩, A.len, fun i hi => by rw [← A.e]; exact x_wr_out A.hl (Or.inl hi)⟩
theorem lt_le6 {x : Int32} : x < 6 ↔ x ≤ 5 := by
  simp only [Int32.lt_iff_toInt_lt, Int32.le_iff_toInt_le]
  have e1 : (6 : Int32).toInt = 6 := by decide
  have e2 : (5 : Int32).toInt = 5 := by decide
  omega
theorem lt_le2 {x : Int32} : x < 2 ↔ x ≤ 1 := by
  simp only [Int32.lt_iff_toInt_lt, Int32.le_iff_toInt_le]
  have e1 : (2 : Int32).toInt = 2 := by decide
  have e2 : (1 : Int32).toInt = 1 := by decide
  omega
theorem lt_le3 {x : Int32} : x < 3 ↔ x ≤ 2 := by
  simp only [Int32.lt_iff_toInt_lt, Int32.le_iff_toInt_le]
  have e1 : (3 : Int32).toInt = 3 := by decide
  have e2 : (2 : Int32).toInt = 2 := by decide
  omega
section PB
variable {ys : List Int32} {h : xH} {s : kS} {k : kC} {sh : Nat → kS} {nx ct : Nat} {tx : List Int32} {ln : Int32} {rf : List Int32} {nw pa : List Int32} {sts byt : Int32} {x1 x2 x3 x4 : Int32}
theorem m8_bad (M : mW h nw pa sts rf tx byt) (hr : rf.length = 3) : ∃ h2, xK 29 [.ref 122] h (some (.int (-2))) h2 ∧ mW h2 nw pa sts (rfi rf 0) tx byt ∧ mF h h2 := by
  obtain ⟨⟨asd, hs, rd, so, ah, ar, tr, bg, fo, bc, br, bk, le, fr, nu, od, sp, wr, ha⟩, hz, hb⟩ := M
  have hb : x_hb h 122 (x_mc 122 nw asd pa sts rf tx byt (hs.map nI) rd so ah ar tr bg fo bc br bk le fr nu od sp wr ha) := hb
  have A := xA.of hb (Nat.zero_lt_succ _)
  exact ⟨_, c_bad hb (by decide) (by rw [hr]; exact x_in (k := 0) (by decide) (by decide)), mW_A (z' := ((asd, hs, rd, so, ah, ar, tr, bg, fo, bc, br, bk, le, fr, nu, od, sp, wr, ha) : mZ)) hz (A.on rfl)⟩
theorem m8_no (M : mW h nw pa sts rf tx byt) (hr : rf.length = 3) : ∃ h2, xK 98 [.ref 122] h (some (.int (-3))) h2 ∧ mW h2 nw pa sts (rfi rf 1) tx byt ∧ mF h h2 := by
  obtain ⟨⟨asd, hs, rd, so, ah, ar, tr, bg, fo, bc, br, bk, le, fr, nu, od, sp, wr, ha⟩, hz, hb⟩ := M
  have hb : x_hb h 122 (x_mc 122 nw asd pa sts rf tx byt (hs.map nI) rd so ah ar tr bg fo bc br bk le fr nu od sp wr ha) := hb
  have A := xA.of hb (Nat.zero_lt_succ _)
  exact ⟨_, c_no hb (by decide) (by rw [hr]; exact x_in (k := 1) (by decide) (by decide)), mW_A (z' := ((asd, hs, rd, so, ah, ar, tr, bg, fo, bc, br, bk, le, fr, nu, od, sp, wr, ha) : mZ)) hz (A.on rfl)⟩
theorem m8_full (M : mW h nw pa sts rf tx byt) (hr : rf.length = 3) : ∃ h2, xK 42 [.ref 122] h (some (.int (-4))) h2 ∧ mW h2 nw pa sts (rfi rf 2) tx byt ∧ mF h h2 := by
  obtain ⟨⟨asd, hs, rd, so, ah, ar, tr, bg, fo, bc, br, bk, le, fr, nu, od, sp, wr, ha⟩, hz, hb⟩ := M
  have hb : x_hb h 122 (x_mc 122 nw asd pa sts rf tx byt (hs.map nI) rd so ah ar tr bg fo bc br bk le fr nu od sp wr ha) := hb
  have A := xA.of hb (Nat.zero_lt_succ _)
  exact ⟨_, c_full hb (by decide) (by rw [hr]; exact x_in (k := 2) (by decide) (by decide)), mW_A (z' := ((asd, hs, rd, so, ah, ar, tr, bg, fo, bc, br, bk, le, fr, nu, od, sp, wr, ha) : mZ)) hz (A.on rfl)⟩
theorem m8_remembers (M : mW h nw pa (nI ct) rf tx byt) (hct : ct ≤ 6) (lp : pa.length = 894) (ln : nw.length = 149) : ∃ h2, xK 30 [.ref 122] h none h2 ∧ mW h2 nw (remem pa nw ct) (nI (min (ct + 1) 6)) rf tx byt ∧ mF h h2 := by
  obtain ⟨⟨asd, hs, rd, so, ah, ar, tr, bg, fo, bc, br, bk, le, fr, nu, od, sp, wr, ha⟩, hz, hb⟩ := M
  have hb : x_hb h 122 (x_mc 122 nw asd pa (nI ct) rf tx byt (hs.map nI) rd so ah ar tr bg fo bc br bk le fr nu od sp wr ha) := hb
  have A := xA.of hb (Nat.zero_lt_succ _)
  exact ⟨_, c_remembers hb (by decide) hct lp ln, mW_A (z' := ((asd, hs, rd, so, ah, ar, tr, bg, fo, bc, br, bk, le, fr, nu, od, sp, wr, ha) : mZ)) hz (A.on rfl)⟩
theorem m8_exchanges (M : mW h nw pa sts rf tx byt) (hi : xin x1 nw.length) : ∃ h2, xK 32 [.ref 122, .int x1, .int x2] h (some (.int (xg nw x1))) h2 ∧ mW h2 (xu nw x1 x2) pa sts rf tx byt ∧ mF h h2 := by
  obtain ⟨⟨asd, hs, rd, so, ah, ar, tr, bg, fo, bc, br, bk, le, fr, nu, od, sp, wr, ha⟩, hz, hb⟩ := M
  have hb : x_hb h 122 (x_mc 122 nw asd pa sts rf tx byt (hs.map nI) rd so ah ar tr bg fo bc br bk le fr nu od sp wr ha) := hb
  have A := xA.of hb (Nat.zero_lt_succ _)
  exact ⟨_, c_exchanges hb (by decide) hi, mW_A (z' := ((asd, hs, rd, so, ah, ar, tr, bg, fo, bc, br, bk, le, fr, nu, od, sp, wr, ha) : mZ)) hz (A.on rfl)⟩
theorem mW.h0 (M : mW h nw pa sts rf tx byt) : ∃ fs, h[122]? = some (.inr (7, fs)) := by
  obtain ⟨⟨asd, hs, rd, so, ah, ar, tr, bg, fo, bc, br, bk, le, fr, nu, od, sp, wr, ha⟩, hz, hb⟩ := M
  have hb : x_hb h 122 (x_mc 122 nw asd pa sts rf tx byt (hs.map nI) rd so ah ar tr bg fo bc br bk le fr nu od sp wr ha) := hb
  have A := xA.of hb (Nat.zero_lt_succ _)
  exact ⟨_, hb 0 _ rfl⟩
/-- rules -/
theorem c7_rules_ok (B : cW h s k sh nx ct tx ln rf) (hv : sv s) (hnx : nx < 6) (hct : ct ≤ 6) {a b d : Nat} (ha : a < 6) (hb : b < 6) (hd : d < 2) (h4 : -1 ≤ x4) (h9 : x4 ≤ 9) : ∃ h1, xK 24 [.ref 2, .int (nI a), .int (nI b), .int (nI d), .int x4] h (some (.int ((sP s).getD (12 * a + 2 * b + d) 0))) h1 ∧ cW h1 (sprc s (12 * a + 2 * b + d) x4) k (shp sh nx s) ((nx + 1) % 6) (min (ct + 1) 6) tx ln rf ∧ cF h h1 := by
  obtain ⟨h1, p1, B1, F1⟩ := c7_push B hnx hct hv.1
  have ei : (nI a * 6 + nI b) * 2 + nI d = nI (12 * a + 2 * b + d) := by
    rw [show (6 : Int32) = nI 6 from rfl, show (2 : Int32) = nI 2 from rfl, pk_mul, nI_add, pk_mul, nI_add]
    congr 1
    omega
  have c1 := c_whyNoPrice (x1 := nI a) (x2 := nI b) (x3 := nI d) (x4 := x4) (x_tc_g B.hs)
  rw [if_pos ⟨⟨⟨nI_pos' (by omega), nI_lt (b := 6) ha (by decide)⟩, ⟨nI_pos' (by omega), nI_lt (b := 6) hb (by decide)⟩, nI_pos' (by omega), nI_lt (b := 2) hd (by decide)⟩, h4, h9⟩] at c1
  have c2 := c_putPrice (x1 := nI a) (x2 := nI b) (x3 := nI d) (x4 := x4) (x_tc_g B1.hs) (by decide) (by rw [ei, hv.lP]; exact x_in (by omega) (by decide))
  rw [ei, xu_n (by omega), xg_n (by omega), x_tc_gw B1.hs] at c2
  obtain ⟨B2, F2⟩ := B1.now (sprc s (12 * a + 2 * b + d) x4)
  refine ⟨_, ?_, B2, F1.trans F2⟩
  refine xK_X7_rules (B.hp 0 _ rfl) (xe_X7_rules_0 ?_)
  (repeat (first | (simp only [xb_X7_rules_0, xb_X7_rules_29, xs_nil, Nat.reduceAdd, true_implies, not_true_eq_false, not_false_eq_true, false_implies, and_true, true_and, x_10, xs_aload_n_0, xs_iload_n_1, xs_iload_n_2, xs_iload_n_3, xs_iload_4, xs_istore_5_i, xs_istore_5_a, xs_istore_5_n, xs_istore_5_l, xs_iload_5, xs_if_eq, xs_ireturn]) | (refine xr_getf (B.hp 0 _ rfl) (by rfl) ?_) | (refine xr_getf (B.hs 0 _ rfl) (by rfl) ?_) | (refine xr_getf (B.hs 1 _ rfl) (by rfl) ?_) | (refine xr_getf (B.hs 7 _ rfl) (by rfl) ?_) | refine xc_v5_1 (c1) (Nat.le_of_ble_eq_true rfl) ?_))
  refine xe_X7_rules_29 ?_
  (repeat (first | (simp only [xb_X7_rules_0, xb_X7_rules_29, xs_nil, Nat.reduceAdd, true_implies, not_true_eq_false, not_false_eq_true, false_implies, and_true, true_and, x_10, xs_aload_n_0, xs_iload_n_1, xs_iload_n_2, xs_iload_n_3, xs_iload_4, xs_istore_5_i, xs_istore_5_a, xs_istore_5_n, xs_istore_5_l, xs_iload_5, xs_if_eq, xs_ireturn]) | (refine xr_getf (B.hp 0 _ rfl) (by rfl) ?_) | (refine xr_getf (B.hs 0 _ rfl) (by rfl) ?_) | (refine xr_getf (B.hs 1 _ rfl) (by rfl) ?_) | (refine xr_getf (B.hs 7 _ rfl) (by rfl) ?_) | refine xc_v2_0 (p1) (Nat.le_of_ble_eq_true rfl) ?_ | (refine xr_getf (B1.hp 0 _ rfl) (by rfl) ?_) | (refine xr_getf (B1.hs 0 _ rfl) (by rfl) ?_) | refine xc_v5_1 (c2) (Nat.le_of_ble_eq_true rfl) ?_))
  (first | exact ⟨Or.inl trivial, rfl⟩ | exact ⟨Or.inl trivial, rfl, rfl⟩ | (simp; done) | exact ⟨by simp, rfl⟩ | exact ⟨by simp, rfl, rfl⟩ | rfl)
theorem c7_rules_bad (B : cW h s k sh nx ct tx ln rf) (hl : rf.length = 3) (hc : ¬ (((0 ≤ x1 ∧ x1 < 6) ∧ (0 ≤ x2 ∧ x2 < 6) ∧ 0 ≤ x3 ∧ x3 < 2) ∧ -1 ≤ x4 ∧ x4 ≤ 9)) : ∃ h1, xK 24 [.ref 2, .int x1, .int x2, .int x3, .int x4] h (some (.int (-2))) h1 ∧ cW h1 s k sh nx ct tx ln (rfi rf 0) ∧ cF h h1 := by
  obtain ⟨h1, p1, B1, F1⟩ := c7_bad B hl
  have c1 := c_whyNoPrice (x1 := x1) (x2 := x2) (x3 := x3) (x4 := x4) (x_tc_g B.hs)
  rw [if_neg hc] at c1
  refine ⟨h1, ?_, B1, F1⟩
  refine xK_X7_rules (B.hp 0 _ rfl) (xe_X7_rules_0 ?_)
  (repeat (first | (simp only [xb_X7_rules_0, xb_X7_rules_29, xs_nil, Nat.reduceAdd, true_implies, not_true_eq_false, not_false_eq_true, false_implies, and_true, true_and, x_10, xs_aload_n_0, xs_iload_n_1, xs_iload_n_2, xs_iload_n_3, xs_iload_4, xs_istore_5_i, xs_istore_5_a, xs_istore_5_n, xs_istore_5_l, xs_iload_5, xs_if_eq, xs_ireturn]) | (refine xr_getf (B.hp 0 _ rfl) (by rfl) ?_) | (refine xr_getf (B.hs 0 _ rfl) (by rfl) ?_) | (refine xr_getf (B.hs 1 _ rfl) (by rfl) ?_) | (refine xr_getf (B.hs 7 _ rfl) (by rfl) ?_) | refine xc_v5_1 (c1) (Nat.le_of_ble_eq_true rfl) ?_))
  refine ⟨fun z => absurd z (by decide), fun _ => ?_⟩
  (repeat (first | (simp only [xb_X7_rules_0, xb_X7_rules_29, xs_nil, Nat.reduceAdd, true_implies, not_true_eq_false, not_false_eq_true, false_implies, and_true, true_and, x_10, xs_aload_n_0, xs_iload_n_1, xs_iload_n_2, xs_iload_n_3, xs_iload_4, xs_istore_5_i, xs_istore_5_a, xs_istore_5_n, xs_istore_5_l, xs_iload_5, xs_if_eq, xs_ireturn]) | refine xc_v2_1 (p1) (Nat.le_of_ble_eq_true rfl) ?_))
  (first | exact ⟨Or.inl trivial, rfl⟩ | exact ⟨Or.inl trivial, rfl, rfl⟩ | (simp; done) | exact ⟨by simp, rfl⟩ | exact ⟨by simp, rfl, rfl⟩ | rfl)
theorem m8_rules_ok (M : mW h nw pa (nI ct) rf tx byt) (hct : ct ≤ 6) (lp : pa.length = 894) (ln : nw.length = 149) {a b d : Nat} (ha : a < 6) (hb : b < 6) (hd : d < 2) (h4 : -1 ≤ x4) (h9 : x4 ≤ 9) : ∃ h2, xK 33 [.ref 122, .int (nI a), .int (nI b), .int (nI d), .int x4] h (some (.int (nw.getD (12 * a + 2 * b + d) 0))) h2 ∧ mW h2 (nw.set (12 * a + 2 * b + d) x4) (remem pa nw ct) (nI (min (ct + 1) 6)) rf tx byt ∧ mF h h2 := by
  obtain ⟨fs, h0⟩ := M.h0
  obtain ⟨h1, p1, M1, F1⟩ := m8_remembers M hct lp ln
  have ei : (0 : Int32) + 12 * nI a + 2 * nI b + nI d = nI (12 * a + 2 * b + d) := by
    rw [Int32.zero_add, show (12 : Int32) = nI 12 from rfl, show (2 : Int32) = nI 2 from rfl, pk_mul, pk_mul, nI_add, nI_add]
  obtain ⟨h2, p2, M2, F2⟩ := m8_exchanges (x1 := nI (12 * a + 2 * b + d)) (x2 := x4) M1 (by rw [ln]; exact x_in (by omega) (by decide))
  rw [xg_n (by omega)] at p2
  rw [xu_n (by omega)] at M2
  have cP := c_isPrice (x1 := x4) (h := h)
  rw [if_pos ⟨h4, h9⟩] at cP
  have cR := c_isRule (x1 := nI a) (x2 := nI b) (x3 := nI d) (h := h)
  rw [if_pos ⟨⟨nI_pos' (by omega), nI_le (b := 5) (by omega) (by decide)⟩, ⟨nI_pos' (by omega), nI_le (b := 5) (by omega) (by decide)⟩, nI_pos' (by omega), nI_le (b := 1) (by omega) (by decide)⟩] at cR
  have cA := c_ruleAt (x1 := nI a) (x2 := nI b) (x3 := nI d) (h := h1)
  rw [ei] at cA
  refine ⟨h2, ?_, M2, F1.trans F2⟩
  refine xK_X8_rules h0 (xe_X8_rules_0 ?_)
  (repeat (first | (simp only [xb_X8_rules_0, xb_X8_rules_17, xb_X8_rules_22, xs_nil, Nat.reduceAdd, true_implies, not_true_eq_false, not_false_eq_true, false_implies, and_true, true_and, x_10, xs_iload_n_1, xs_iload_n_2, xs_iload_n_3, xs_if_eq, xs_iload_4, xs_if_ne, xs_aload_n_0, xs_ireturn]) | refine xc_s3_1 (by decide) (cR) (Nat.le_of_ble_eq_true rfl) ?_ | refine xc_s1_1 (by decide) (cP) (Nat.le_of_ble_eq_true rfl) ?_))
  refine xe_X8_rules_22 ?_
  (repeat (first | (simp only [xb_X8_rules_0, xb_X8_rules_17, xb_X8_rules_22, xs_nil, Nat.reduceAdd, true_implies, not_true_eq_false, not_false_eq_true, false_implies, and_true, true_and, x_10, xs_iload_n_1, xs_iload_n_2, xs_iload_n_3, xs_if_eq, xs_iload_4, xs_if_ne, xs_aload_n_0, xs_ireturn]) | refine xc_v1_0 (p1) (Nat.le_of_ble_eq_true rfl) ?_ | refine xc_s3_1 (by decide) (cA) (Nat.le_of_ble_eq_true rfl) ?_ | refine xc_v3_1 (p2) (Nat.le_of_ble_eq_true rfl) ?_))
  (first | exact ⟨Or.inl trivial, rfl⟩ | exact ⟨Or.inl trivial, rfl, rfl⟩ | (simp; done) | exact ⟨by simp, rfl⟩ | exact ⟨by simp, rfl, rfl⟩ | rfl)
theorem m8_rules_bad (M : mW h nw pa sts rf tx byt) (hr : rf.length = 3) (hc : ¬ (((0 ≤ x1 ∧ x1 < 6) ∧ (0 ≤ x2 ∧ x2 < 6) ∧ 0 ≤ x3 ∧ x3 < 2) ∧ -1 ≤ x4 ∧ x4 ≤ 9)) : ∃ h2, xK 33 [.ref 122, .int x1, .int x2, .int x3, .int x4] h (some (.int (-2))) h2 ∧ mW h2 nw pa sts (rfi rf 0) tx byt ∧ mF h h2 := by
  obtain ⟨fs, h0⟩ := M.h0
  obtain ⟨h1, p1, M1, F1⟩ := m8_bad M hr
  rw [lt_le6, lt_le6, lt_le2] at hc
  have cP := c_isPrice (x1 := x4) (h := h)
  have cR := c_isRule (x1 := x1) (x2 := x2) (x3 := x3) (h := h)
  refine ⟨h1, ?_, M1, F1⟩
  have fin : x_EV 33 17 [some (.ref 122), some (.int x1), some (.int x2), some (.int x3), some (.int x4)] [] h (some (.int (-2))) h1 := by
    refine xe_X8_rules_17 ?_
    (repeat (first | (simp only [xb_X8_rules_0, xb_X8_rules_17, xb_X8_rules_22, xs_nil, Nat.reduceAdd, true_implies, not_true_eq_false, not_false_eq_true, false_implies, and_true, true_and, x_10, xs_iload_n_1, xs_iload_n_2, xs_iload_n_3, xs_if_eq, xs_iload_4, xs_if_ne, xs_aload_n_0, xs_ireturn]) | refine xc_v1_1 (p1) (Nat.le_of_ble_eq_true rfl) ?_))
    (first | exact ⟨Or.inl trivial, rfl⟩ | exact ⟨Or.inl trivial, rfl, rfl⟩ | (simp; done) | exact ⟨by simp, rfl⟩ | exact ⟨by simp, rfl, rfl⟩ | rfl)
  refine xK_X8_rules h0 (xe_X8_rules_0 ?_)
  (repeat (first | (simp only [xb_X8_rules_0, xb_X8_rules_17, xb_X8_rules_22, xs_nil, Nat.reduceAdd, true_implies, not_true_eq_false, not_false_eq_true, false_implies, and_true, true_and, x_10, xs_iload_n_1, xs_iload_n_2, xs_iload_n_3, xs_if_eq, xs_iload_4, xs_if_ne, xs_aload_n_0, xs_ireturn]) | refine xc_s3_1 (by decide) (cR) (Nat.le_of_ble_eq_true rfl) ?_))
  simp only [x_ite0, Classical.not_not]
  refine ⟨fun _ => fin, fun z => ?_⟩
  (repeat (first | (simp only [xb_X8_rules_0, xb_X8_rules_17, xb_X8_rules_22, xs_nil, Nat.reduceAdd, true_implies, not_true_eq_false, not_false_eq_true, false_implies, and_true, true_and, x_10, xs_iload_n_1, xs_iload_n_2, xs_iload_n_3, xs_if_eq, xs_iload_4, xs_if_ne, xs_aload_n_0, xs_ireturn]) | refine xc_s1_1 (by decide) (cP) (Nat.le_of_ble_eq_true rfl) ?_))
  simp only [x_ite0, Classical.not_not]
  exact ⟨fun z2 => absurd ⟨z, z2⟩ hc, fun _ => fin⟩
theorem t_rules (B : BR ys h) : TC ys h 24 33 [.int x1, .int x2, .int x3, .int x4] := by
  obtain ⟨s, k, sh, nx, ct, tx, ln, rf, nw, pa, L, C, M, I⟩ := B
  obtain ⟨i1, i2, ⟨i3, i4, i5⟩, i6, i7, i8, i9⟩ := id I
  by_cases hc : ((0 ≤ x1 ∧ x1 < 6) ∧ (0 ≤ x2 ∧ x2 < 6) ∧ 0 ≤ x3 ∧ x3 < 2) ∧ -1 ≤ x4 ∧ x4 ≤ 9
  · obtain ⟨⟨⟨a1, a2⟩, ⟨b1, b2⟩, d1, d2⟩, v1, v2⟩ := hc
    obtain ⟨a, ha, rfl⟩ := nI_rng (n := 6) rfl (by decide) a1 a2
    obtain ⟨b, hb, rfl⟩ := nI_rng (n := 6) rfl (by decide) b1 b2
    obtain ⟨d, hd, rfl⟩ := nI_rng (n := 2) rfl (by decide) d1 d2
    have e : nw.getD (12 * a + 2 * b + d) 0 = (sP s).getD (12 * a + 2 * b + d) 0 := i1.2.1.2.1 _ (by omega)
    refine TC_mk L (c7_rules_ok C i1.1 i3 i4 ha hb hd v1 v2) (fun h1 F => ?_) (INV_push I i1 (Rl_price i1 (by omega) (price_of v1 v2)) i2)
    rw [← e]
    exact m8_rules_ok (M.cF F) i4 i6 i1.2.1.1 ha hb hd v1 v2
  · exact TC_mk L (c7_rules_bad C i9 hc) (fun h1 F => m8_rules_bad (M.cF F) i9 hc) (INV_rf I)
end PB
