/-! hears, unhears, silence, rereads -/
theorem TC_mk2 {ys : List Int32} {h : xH} {a b : Nat} {vs : List Value} {r : Value} {s' : kS} {k' : kC} {sh' : Nat → kS} {nx' ct' : Nat} {tx' : List Int32} {ln' : Nat} {rf' : List Int32} (L : lW ys h)
    (C : ∃ h1, xK a (.ref 2 :: vs) h (some r) h1 ∧ cW h1 s' k' sh' nx' ct' tx' (nI ln') rf' ∧ cF h h1)
    (M : ∀ h1, cF h h1 → ∃ h2 nw' pa', xK b (.ref 122 :: vs) h1 (some r) h2 ∧ mW h2 nw' pa' (nI ct') rf' tx' (nI ln') ∧ mF h1 h2 ∧ INV s' k' sh' nx' ct' tx' ln' rf' nw' pa') (hr : ∃ v : Int32, r = .int v := by exact ⟨_, rfl⟩) : TC ys h a b vs := by
  obtain ⟨h1, c1, c2, c3⟩ := C
  obtain ⟨h2, nw', pa', m1, m2, m3, I⟩ := M h1 c3
  obtain ⟨v, rfl⟩ := hr
  exact ⟨v, h1, h2, c1, m1, L.cF c3, s', k', sh', nx', ct', tx', ln', rf', nw', pa', (L.cF c3).mF m3, c2.mF m3, m2, I⟩
section PF
variable {ys : List Int32} {h : xH} {s : kS} {k : kC} {sh : Nat → kS} {nx ct : Nat} {tx : List Int32} {ln : Int32} {rf : List Int32} {nw pa : List Int32} {sts byt : Int32} {x1 x2 x3 x4 : Int32} {j : Nat}
theorem c7_hear (B : cW h s k sh nx ct tx ln rf) (hv : sv s) (hc : kcok k) (hj : j < 12) (hn : sn s < 6) : ∃ h1, xK 79 [.ref 3, .int (nI j), .ref 109] h none h1 ∧ cW h1 (khear s k (nI j)).1 (khear s k (nI j)).2 sh nx ct tx ln rf ∧ cF h h1 := by
  have c := c_hear B.hs B.hk (Or.inl (by decide)) (by decide) (by decide) hv hc hj hn
  obtain ⟨B1, F1⟩ := B.now (khear s k (nI j)).1
  obtain ⟨B2, F2⟩ := B1.chart (khear s k (nI j)).2
  exact ⟨_, c, B2, F1.trans F2⟩
theorem c7_anew (B : cW h s k sh nx ct tx ln rf) (hv : sv s) (hc : kcok k) : ∃ h1, xK 102 [.ref 3, .ref 109] h none h1 ∧ cW h1 (kanew s k (sn s)).1 (kanew s k (sn s)).2 sh nx ct tx ln rf ∧ cF h h1 := by
  have c := c_hearAllAnew B.hs B.hk (Or.inl (by decide)) (by decide) (by decide) hv hc
  obtain ⟨B1, F1⟩ := B.now (kanew s k (sn s)).1
  obtain ⟨B2, F2⟩ := B1.chart (kanew s k (sn s)).2
  exact ⟨_, c, B2, F1.trans F2⟩
theorem c7_hears_ok (B : cW h s k sh nx ct tx ln rf) (hv : sv s) (hc : kcok k) (hnx : nx < 6) (hct : ct ≤ 6) (hj : j < sne s) (hn : sn s < 6) : ∃ h1, xK 80 [.ref 2, .int (nI j)] h (some (.int (if kstuck (khear s k (nI j)).1 = true then -1 else (sre (khear s k (nI j)).1).getD (sn (khear s k (nI j)).1) 0))) h1 ∧ cW h1 (khear s k (nI j)).1 (khear s k (nI j)).2 (shp sh nx s) ((nx + 1) % 6) (min (ct + 1) 6) tx ln rf ∧ cF h h1 := by
  have hne := hv.ne
  obtain ⟨h1, p1, B1, F1⟩ := c7_push B hnx hct hv.1
  obtain ⟨h2, p2, B2, F2⟩ := c7_hear (j := j) B1 hv hc (by omega) hn
  have hv2 : sv (khear s k (nI j)).1 := sv_hear hv (by omega) hn
  generalize khear s k (nI j) = s2 at p2 B2 hv2 ⊢
  have h6 := hv2.n6
  have c1 := c_whyNoWord (x1 := nI j) B.hs
  rw [hv.ec, if_pos ⟨nI_pos' (by omega), nI_lt hj (by omega)⟩, hv.ct, if_neg (show ¬ (6 : Int32) ≤ nI (sn s) from nI_ge (b := 6) hn (by decide))] at c1
  have c2 := c7_isStuck B2 hv2
  refine ⟨h2, ?_, B2, F1.trans F2⟩
  refine xK_X7_hears (B.hp 0 _ rfl) (xe_X7_hears_0 ?_)
  (repeat (first | (simp only [xb_X7_hears_0, xb_X7_hears_19, xb_X7_hears_61, xb_X7_hears_70, xs_nil, Nat.reduceAdd, true_implies, not_true_eq_false, not_false_eq_true, false_implies, and_true, true_and, x_10, xs_aload_n_0, xs_iload_n_1, xs_istore_n_2_i, xs_istore_n_2_a, xs_istore_n_2_n, xs_istore_n_2_l, xs_iload_n_2, xs_if_eq, xs_ireturn, xs_astore_n_3_i, xs_astore_n_3_a, xs_astore_n_3_n, xs_astore_n_3_l, xs_aload_n_3, xs_iconst_m1, xs_goto]) | (refine xr_getf (B.hp 0 _ rfl) (by rfl) ?_) | (refine xr_getf (B.hs 0 _ rfl) (by rfl) ?_) | (refine xr_getf (B.hs 1 _ rfl) (by rfl) ?_) | (refine xr_getf (B.hs 7 _ rfl) (by rfl) ?_) | refine xc_v2_1 (c1) (Nat.le_of_ble_eq_true rfl) ?_))
  refine xe_X7_hears_19 ?_
  (repeat (first | (simp only [xb_X7_hears_0, xb_X7_hears_19, xb_X7_hears_61, xb_X7_hears_70, xs_nil, Nat.reduceAdd, true_implies, not_true_eq_false, not_false_eq_true, false_implies, and_true, true_and, x_10, xs_aload_n_0, xs_iload_n_1, xs_istore_n_2_i, xs_istore_n_2_a, xs_istore_n_2_n, xs_istore_n_2_l, xs_iload_n_2, xs_if_eq, xs_ireturn, xs_astore_n_3_i, xs_astore_n_3_a, xs_astore_n_3_n, xs_astore_n_3_l, xs_aload_n_3, xs_iconst_m1, xs_goto]) | (refine xr_getf (B.hp 0 _ rfl) (by rfl) ?_) | (refine xr_getf (B.hs 0 _ rfl) (by rfl) ?_) | (refine xr_getf (B.hs 1 _ rfl) (by rfl) ?_) | (refine xr_getf (B.hs 7 _ rfl) (by rfl) ?_) | refine xc_v2_0 (p1) (Nat.le_of_ble_eq_true rfl) ?_ | (refine xr_getf (B1.hp 0 _ rfl) (by rfl) ?_) | refine xc_v3_0 (p2) (Nat.le_of_ble_eq_true rfl) ?_ | (refine xr_getf (B2.hp 0 _ rfl) (by rfl) ?_) | (refine xr_getf (B2.hs 0 _ rfl) (by rfl) ?_) | refine xc_v1_1 (c2) (Nat.le_of_ble_eq_true rfl) ?_))
  by_cases hs : kstuck s2.1 = true
  · rw [if_pos hs, if_pos hs]
    (repeat (first | (simp only [xb_X7_hears_0, xb_X7_hears_19, xb_X7_hears_61, xb_X7_hears_70, xs_nil, Nat.reduceAdd, true_implies, not_true_eq_false, not_false_eq_true, false_implies, and_true, true_and, x_10, xs_aload_n_0, xs_iload_n_1, xs_istore_n_2_i, xs_istore_n_2_a, xs_istore_n_2_n, xs_istore_n_2_l, xs_iload_n_2, xs_if_eq, xs_ireturn, xs_astore_n_3_i, xs_astore_n_3_a, xs_astore_n_3_n, xs_astore_n_3_l, xs_aload_n_3, xs_iconst_m1, xs_goto]) ))
    refine xe_X7_hears_70 ?_
    (repeat (first | (simp only [xb_X7_hears_0, xb_X7_hears_19, xb_X7_hears_61, xb_X7_hears_70, xs_nil, Nat.reduceAdd, true_implies, not_true_eq_false, not_false_eq_true, false_implies, and_true, true_and, x_10, xs_aload_n_0, xs_iload_n_1, xs_istore_n_2_i, xs_istore_n_2_a, xs_istore_n_2_n, xs_istore_n_2_l, xs_iload_n_2, xs_if_eq, xs_ireturn, xs_astore_n_3_i, xs_astore_n_3_a, xs_astore_n_3_n, xs_astore_n_3_l, xs_aload_n_3, xs_iconst_m1, xs_goto]) ))
    (first | exact ⟨Or.inl trivial, rfl⟩ | exact ⟨Or.inl trivial, rfl, rfl⟩ | (simp; done) | exact ⟨by simp, rfl⟩ | exact ⟨by simp, rfl, rfl⟩ | rfl)
  · rw [if_neg hs, if_neg hs]
    (repeat (first | (simp only [xb_X7_hears_0, xb_X7_hears_19, xb_X7_hears_61, xb_X7_hears_70, xs_nil, Nat.reduceAdd, true_implies, not_true_eq_false, not_false_eq_true, false_implies, and_true, true_and, x_10, xs_aload_n_0, xs_iload_n_1, xs_istore_n_2_i, xs_istore_n_2_a, xs_istore_n_2_n, xs_istore_n_2_l, xs_iload_n_2, xs_if_eq, xs_ireturn, xs_astore_n_3_i, xs_astore_n_3_a, xs_astore_n_3_n, xs_astore_n_3_l, xs_aload_n_3, xs_iconst_m1, xs_goto]) ))
    refine xe_X7_hears_61 ?_
    (repeat (first | (simp only [xb_X7_hears_0, xb_X7_hears_19, xb_X7_hears_61, xb_X7_hears_70, xs_nil, Nat.reduceAdd, true_implies, not_true_eq_false, not_false_eq_true, false_implies, and_true, true_and, x_10, xs_aload_n_0, xs_iload_n_1, xs_istore_n_2_i, xs_istore_n_2_a, xs_istore_n_2_n, xs_istore_n_2_l, xs_iload_n_2, xs_if_eq, xs_ireturn, xs_astore_n_3_i, xs_astore_n_3_a, xs_astore_n_3_n, xs_astore_n_3_l, xs_aload_n_3, xs_iconst_m1, xs_goto]) | (refine xr_getf (B2.hs 7 _ rfl) (by rfl) ?_) | (refine xr_iaload (B2.hs 11 _ rfl) (by rw [hv2.lre]; exact hv2.in7) ?_)))
    refine xe_X7_hears_70 ?_
    (repeat (first | (simp only [xb_X7_hears_0, xb_X7_hears_19, xb_X7_hears_61, xb_X7_hears_70, xs_nil, Nat.reduceAdd, true_implies, not_true_eq_false, not_false_eq_true, false_implies, and_true, true_and, x_10, xs_aload_n_0, xs_iload_n_1, xs_istore_n_2_i, xs_istore_n_2_a, xs_istore_n_2_n, xs_istore_n_2_l, xs_iload_n_2, xs_if_eq, xs_ireturn, xs_astore_n_3_i, xs_astore_n_3_a, xs_astore_n_3_n, xs_astore_n_3_l, xs_aload_n_3, xs_iconst_m1, xs_goto]) ))
    rw [hv2.ct, xg_n (by omega)]
    (first | exact ⟨Or.inl trivial, rfl⟩ | exact ⟨Or.inl trivial, rfl, rfl⟩ | (simp; done) | exact ⟨by simp, rfl⟩ | exact ⟨by simp, rfl, rfl⟩ | rfl)
theorem c7_hears_no (B : cW h s k sh nx ct tx ln rf) (hl : rf.length = 3) (hv : sv s) {r : Int32} {i : Int32} (hr : (¬ (0 ≤ x1 ∧ x1 < nI (sne s)) ∧ r = -2 ∧ i = 0) ∨ ((0 ≤ x1 ∧ x1 < nI (sne s)) ∧ sn s = 6 ∧ r = -4 ∧ i = 2)) : ∃ h1, xK 80 [.ref 2, .int x1] h (some (.int r)) h1 ∧ cW h1 s k sh nx ct tx ln (rfi rf i) ∧ cF h h1 := by
  have c1 := c_whyNoWord (x1 := x1) B.hs
  rw [hv.ec] at c1
  rcases hr with ⟨q1, rfl, rfl⟩ | ⟨q1, q2, rfl, rfl⟩
  · obtain ⟨h1, p1, B1, F1⟩ := c7_bad B hl
    rw [if_neg q1] at c1
    refine ⟨h1, ?_, B1, F1⟩
    refine xK_X7_hears (B.hp 0 _ rfl) (xe_X7_hears_0 ?_)
    (repeat (first | (simp only [xb_X7_hears_0, xb_X7_hears_19, xb_X7_hears_61, xb_X7_hears_70, xs_nil, Nat.reduceAdd, true_implies, not_true_eq_false, not_false_eq_true, false_implies, and_true, true_and, x_10, xs_aload_n_0, xs_iload_n_1, xs_istore_n_2_i, xs_istore_n_2_a, xs_istore_n_2_n, xs_istore_n_2_l, xs_iload_n_2, xs_if_eq, xs_ireturn, xs_astore_n_3_i, xs_astore_n_3_a, xs_astore_n_3_n, xs_astore_n_3_l, xs_aload_n_3, xs_iconst_m1, xs_goto]) | (refine xr_getf (B.hp 0 _ rfl) (by rfl) ?_) | (refine xr_getf (B.hs 0 _ rfl) (by rfl) ?_) | (refine xr_getf (B.hs 1 _ rfl) (by rfl) ?_) | (refine xr_getf (B.hs 7 _ rfl) (by rfl) ?_) | refine xc_v2_1 (c1) (Nat.le_of_ble_eq_true rfl) ?_))
    refine ⟨fun z => absurd z (by decide), fun _ => ?_⟩
    (repeat (first | (simp only [xb_X7_hears_0, xb_X7_hears_19, xb_X7_hears_61, xb_X7_hears_70, xs_nil, Nat.reduceAdd, true_implies, not_true_eq_false, not_false_eq_true, false_implies, and_true, true_and, x_10, xs_aload_n_0, xs_iload_n_1, xs_istore_n_2_i, xs_istore_n_2_a, xs_istore_n_2_n, xs_istore_n_2_l, xs_iload_n_2, xs_if_eq, xs_ireturn, xs_astore_n_3_i, xs_astore_n_3_a, xs_astore_n_3_n, xs_astore_n_3_l, xs_aload_n_3, xs_iconst_m1, xs_goto]) | refine xc_v2_1 (p1) (Nat.le_of_ble_eq_true rfl) ?_))
    (first | exact ⟨Or.inl trivial, rfl⟩ | exact ⟨Or.inl trivial, rfl, rfl⟩ | (simp; done) | exact ⟨by simp, rfl⟩ | exact ⟨by simp, rfl, rfl⟩ | rfl)
  · obtain ⟨h1, p1, B1, F1⟩ := c7_full B hl
    rw [if_pos q1, hv.ct, q2, if_pos (by decide)] at c1
    refine ⟨h1, ?_, B1, F1⟩
    refine xK_X7_hears (B.hp 0 _ rfl) (xe_X7_hears_0 ?_)
    (repeat (first | (simp only [xb_X7_hears_0, xb_X7_hears_19, xb_X7_hears_61, xb_X7_hears_70, xs_nil, Nat.reduceAdd, true_implies, not_true_eq_false, not_false_eq_true, false_implies, and_true, true_and, x_10, xs_aload_n_0, xs_iload_n_1, xs_istore_n_2_i, xs_istore_n_2_a, xs_istore_n_2_n, xs_istore_n_2_l, xs_iload_n_2, xs_if_eq, xs_ireturn, xs_astore_n_3_i, xs_astore_n_3_a, xs_astore_n_3_n, xs_astore_n_3_l, xs_aload_n_3, xs_iconst_m1, xs_goto]) | (refine xr_getf (B.hp 0 _ rfl) (by rfl) ?_) | (refine xr_getf (B.hs 0 _ rfl) (by rfl) ?_) | (refine xr_getf (B.hs 1 _ rfl) (by rfl) ?_) | (refine xr_getf (B.hs 7 _ rfl) (by rfl) ?_) | refine xc_v2_1 (c1) (Nat.le_of_ble_eq_true rfl) ?_))
    refine ⟨fun z => absurd z (by decide), fun _ => ?_⟩
    (repeat (first | (simp only [xb_X7_hears_0, xb_X7_hears_19, xb_X7_hears_61, xb_X7_hears_70, xs_nil, Nat.reduceAdd, true_implies, not_true_eq_false, not_false_eq_true, false_implies, and_true, true_and, x_10, xs_aload_n_0, xs_iload_n_1, xs_istore_n_2_i, xs_istore_n_2_a, xs_istore_n_2_n, xs_istore_n_2_l, xs_iload_n_2, xs_if_eq, xs_ireturn, xs_astore_n_3_i, xs_astore_n_3_a, xs_astore_n_3_n, xs_astore_n_3_l, xs_aload_n_3, xs_iconst_m1, xs_goto]) | refine xc_v2_1 (p1) (Nat.le_of_ble_eq_true rfl) ?_))
    (first | exact ⟨Or.inl trivial, rfl⟩ | exact ⟨Or.inl trivial, rfl, rfl⟩ | (simp; done) | exact ⟨by simp, rfl⟩ | exact ⟨by simp, rfl, rfl⟩ | rfl)
theorem m8_hears_ok (M : mW h nw pa (nI ct) rf tx byt) (hR : Rl s nw) (hc : kcok k) (h0c : ch0 k.2.1) (hct : ct ≤ 6) (lp : pa.length = 894) (hj : j < sne s) (hn : sn s < 6) : ∃ h2 nw', xK 96 [.ref 122, .int (nI j)] h (some (.int (if kstuck (khear s k (nI j)).1 = true then -1 else (sre (khear s k (nI j)).1).getD (sn (khear s k (nI j)).1) 0))) h2 ∧ mW h2 nw' (remem pa nw ct) (nI (min (ct + 1) 6)) rf tx byt ∧ mF h h2 ∧ Rl (khear s k (nI j)).1 nw' ∧ ch0 (khear s k (nI j)).2.2.1 := by
  have hne := hR.1.ne
  have hl := hR.2.1.1
  obtain ⟨h1, p1, M1, F1⟩ := m8_remembers M hct lp hl
  obtain ⟨nw', h2, p2, M2, F2, R2, K2⟩ := m8_listens (j := j) M1 hR hc h0c hj hn
  have hsn : 0 < sn (khear s k (nI j)).1 := by rw [sn_hear hR.1]; omega
  generalize khear s k (nI j) = s2 at R2 K2 hsn ⊢
  have h6 := R2.1.n6
  have cH := m8_holds M2 R2
  have e118 := R2.e118
  have i118 := R2.i118
  refine ⟨h2, nw', ?_, M2, F1.trans F2, R2, K2⟩
  have e1 := hR.e78
  obtain ⟨z, hz, hb⟩ := M
  obtain ⟨z2, hz2, hb2⟩ := M2
  have c1 := c_isEntry (x1 := nI j) hb (by rw [hl]; exact x_in (k := 78) (by decide) (by decide))
  rw [e1, if_pos ((le_pred hne).mpr ⟨nI_pos' (by omega), nI_lt hj (by omega)⟩)] at c1
  refine xK_X8_hears (hb 0 _ rfl) (xe_X8_hears_0 ?_)
  (repeat (first | (simp only [xb_X8_hears_0, xb_X8_hears_13, xb_X8_hears_30, xb_X8_hears_74, xb_X8_hears_75, xs_nil, Nat.reduceAdd, true_implies, not_true_eq_false, not_false_eq_true, false_implies, and_true, true_and, x_10, xs_aload_n_0, xs_iload_n_1, xs_if_ne, xs_ireturn, xs_bipush_118, xs_bipush_6, xs_icmp_ne, xs_if_eq, xs_iconst_1, xs_iadd, xs_goto, xs_iconst_m1]) | refine xc_v2_1 (c1) (Nat.le_of_ble_eq_true rfl) ?_))
  refine xe_X8_hears_13 ?_
  (repeat (first | (simp only [xb_X8_hears_0, xb_X8_hears_13, xb_X8_hears_30, xb_X8_hears_74, xb_X8_hears_75, xs_nil, Nat.reduceAdd, true_implies, not_true_eq_false, not_false_eq_true, false_implies, and_true, true_and, x_10, xs_aload_n_0, xs_iload_n_1, xs_if_ne, xs_ireturn, xs_bipush_118, xs_bipush_6, xs_icmp_ne, xs_if_eq, xs_iconst_1, xs_iadd, xs_goto, xs_iconst_m1]) | (refine xr_getf (hb 0 _ rfl) (by rfl) ?_) | (refine xr_iaload (hb 1 _ rfl) hR.i118 ?_)))
  rw [hR.e118]
  refine ⟨fun _ => ?_, fun z => absurd (fun e => absurd ((nI_eq (b := 6) (by omega) (by decide)).mp e) (by omega)) z⟩
  refine xe_X8_hears_30 ?_
  (repeat (first | (simp only [xb_X8_hears_0, xb_X8_hears_13, xb_X8_hears_30, xb_X8_hears_74, xb_X8_hears_75, xs_nil, Nat.reduceAdd, true_implies, not_true_eq_false, not_false_eq_true, false_implies, and_true, true_and, x_10, xs_aload_n_0, xs_iload_n_1, xs_if_ne, xs_ireturn, xs_bipush_118, xs_bipush_6, xs_icmp_ne, xs_if_eq, xs_iconst_1, xs_iadd, xs_goto, xs_iconst_m1]) | refine xc_v1_0 (p1) (Nat.le_of_ble_eq_true rfl) ?_ | refine xc_v2_0 (p2) (Nat.le_of_ble_eq_true rfl) ?_ | (refine xr_getf (hb2 0 _ rfl) (by rfl) ?_) | (refine xr_iaload (hb2 1 _ rfl) i118 ?_)))
  rw [e118]
  (repeat (first | (simp only [xb_X8_hears_0, xb_X8_hears_13, xb_X8_hears_30, xb_X8_hears_74, xb_X8_hears_75, xs_nil, Nat.reduceAdd, true_implies, not_true_eq_false, not_false_eq_true, false_implies, and_true, true_and, x_10, xs_aload_n_0, xs_iload_n_1, xs_if_ne, xs_ireturn, xs_bipush_118, xs_bipush_6, xs_icmp_ne, xs_if_eq, xs_iconst_1, xs_iadd, xs_goto, xs_iconst_m1]) | refine xc_v2_1 (cH) (Nat.le_of_ble_eq_true rfl) ?_))
  by_cases hs : kstuck s2.1 = true
  · rw [if_neg (fun z => z.2 hs), if_pos hs]
    (repeat (first | (simp only [xb_X8_hears_0, xb_X8_hears_13, xb_X8_hears_30, xb_X8_hears_74, xb_X8_hears_75, xs_nil, Nat.reduceAdd, true_implies, not_true_eq_false, not_false_eq_true, false_implies, and_true, true_and, x_10, xs_aload_n_0, xs_iload_n_1, xs_if_ne, xs_ireturn, xs_bipush_118, xs_bipush_6, xs_icmp_ne, xs_if_eq, xs_iconst_1, xs_iadd, xs_goto, xs_iconst_m1]) ))
    refine xe_X8_hears_74 ?_
    (repeat (first | (simp only [xb_X8_hears_0, xb_X8_hears_13, xb_X8_hears_30, xb_X8_hears_74, xb_X8_hears_75, xs_nil, Nat.reduceAdd, true_implies, not_true_eq_false, not_false_eq_true, false_implies, and_true, true_and, x_10, xs_aload_n_0, xs_iload_n_1, xs_if_ne, xs_ireturn, xs_bipush_118, xs_bipush_6, xs_icmp_ne, xs_if_eq, xs_iconst_1, xs_iadd, xs_goto, xs_iconst_m1]) ))
    refine xe_X8_hears_75 ?_
    (repeat (first | (simp only [xb_X8_hears_0, xb_X8_hears_13, xb_X8_hears_30, xb_X8_hears_74, xb_X8_hears_75, xs_nil, Nat.reduceAdd, true_implies, not_true_eq_false, not_false_eq_true, false_implies, and_true, true_and, x_10, xs_aload_n_0, xs_iload_n_1, xs_if_ne, xs_ireturn, xs_bipush_118, xs_bipush_6, xs_icmp_ne, xs_if_eq, xs_iconst_1, xs_iadd, xs_goto, xs_iconst_m1]) ))
    (first | exact ⟨Or.inl trivial, rfl⟩ | exact ⟨Or.inl trivial, rfl, rfl⟩ | (simp; done) | exact ⟨by simp, rfl⟩ | exact ⟨by simp, rfl, rfl⟩ | rfl)
  · have ei : (119 : Int32) + 5 * (nI (sn s2.1) - 1) + 1 = nI (119 + 5 * (sn s2.1 - 1) + 1) := by rw [wp_n (by omega)]; exact nI_1 _
    rw [if_pos ⟨hsn, hs⟩, if_neg hs]
    (repeat (first | (simp only [xb_X8_hears_0, xb_X8_hears_13, xb_X8_hears_30, xb_X8_hears_74, xb_X8_hears_75, xs_nil, Nat.reduceAdd, true_implies, not_true_eq_false, not_false_eq_true, false_implies, and_true, true_and, x_10, xs_aload_n_0, xs_iload_n_1, xs_if_ne, xs_ireturn, xs_bipush_118, xs_bipush_6, xs_icmp_ne, xs_if_eq, xs_iconst_1, xs_iadd, xs_goto, xs_iconst_m1]) | (refine xr_getf (hb2 0 _ rfl) (by rfl) ?_) | (refine xr_iaload (hb2 1 _ rfl) i118 ?_)))
    rw [e118]
    (repeat (first | (simp only [xb_X8_hears_0, xb_X8_hears_13, xb_X8_hears_30, xb_X8_hears_74, xb_X8_hears_75, xs_nil, Nat.reduceAdd, true_implies, not_true_eq_false, not_false_eq_true, false_implies, and_true, true_and, x_10, xs_aload_n_0, xs_iload_n_1, xs_if_ne, xs_ireturn, xs_bipush_118, xs_bipush_6, xs_icmp_ne, xs_if_eq, xs_iconst_1, xs_iadd, xs_goto, xs_iconst_m1]) | refine xc_v2_1 (c_wordAt (hb2 0 _ rfl)) (Nat.le_of_ble_eq_true rfl) ?_))
    rw [ei]
    (repeat (first | (simp only [xb_X8_hears_0, xb_X8_hears_13, xb_X8_hears_30, xb_X8_hears_74, xb_X8_hears_75, xs_nil, Nat.reduceAdd, true_implies, not_true_eq_false, not_false_eq_true, false_implies, and_true, true_and, x_10, xs_aload_n_0, xs_iload_n_1, xs_if_ne, xs_ireturn, xs_bipush_118, xs_bipush_6, xs_icmp_ne, xs_if_eq, xs_iconst_1, xs_iadd, xs_goto, xs_iconst_m1]) | (refine xr_iaload (hb2 1 _ rfl) (by rw [R2.2.1.1]; exact x_in (by omega) (by decide)) ?_)))
    refine xe_X8_hears_75 ?_
    (repeat (first | (simp only [xb_X8_hears_0, xb_X8_hears_13, xb_X8_hears_30, xb_X8_hears_74, xb_X8_hears_75, xs_nil, Nat.reduceAdd, true_implies, not_true_eq_false, not_false_eq_true, false_implies, and_true, true_and, x_10, xs_aload_n_0, xs_iload_n_1, xs_if_ne, xs_ireturn, xs_bipush_118, xs_bipush_6, xs_icmp_ne, xs_if_eq, xs_iconst_1, xs_iadd, xs_goto, xs_iconst_m1]) ))
    rw [xg_n (by omega), (R2.2.2.2.2 (sn s2.1) hsn (Nat.le_refl _)).1]
    (first | exact ⟨Or.inl trivial, rfl⟩ | exact ⟨Or.inl trivial, rfl, rfl⟩ | (simp; done) | exact ⟨by simp, rfl⟩ | exact ⟨by simp, rfl, rfl⟩ | rfl)
theorem m8_hears_no (M : mW h nw pa sts rf tx byt) (hR : Rl s nw) (hrl : rf.length = 3) {r : Int32} {i : Int32} (hr : (¬ (0 ≤ x1 ∧ x1 < nI (sne s)) ∧ r = -2 ∧ i = 0) ∨ ((0 ≤ x1 ∧ x1 < nI (sne s)) ∧ sn s = 6 ∧ r = -4 ∧ i = 2)) : ∃ h2, xK 96 [.ref 122, .int x1] h (some (.int r)) h2 ∧ mW h2 nw pa sts (rfi rf i) tx byt ∧ mF h h2 := by
  have hne := hR.1.ne
  have hl := hR.2.1.1
  have e1 := hR.e78
  obtain ⟨z, hz, hb⟩ := id M
  have c1 := c_isEntry (x1 := x1) hb (by rw [hl]; exact x_in (k := 78) (by decide) (by decide))
  rw [e1, ite_iff (le_pred hne)] at c1
  rcases hr with ⟨q1, rfl, rfl⟩ | ⟨q1, q2, rfl, rfl⟩
  · obtain ⟨h1, p1, M1, F1⟩ := m8_bad M hrl
    rw [if_neg q1] at c1
    refine ⟨h1, ?_, M1, F1⟩
    refine xK_X8_hears (hb 0 _ rfl) (xe_X8_hears_0 ?_)
    (repeat (first | (simp only [xb_X8_hears_0, xb_X8_hears_13, xb_X8_hears_30, xb_X8_hears_74, xb_X8_hears_75, xs_nil, Nat.reduceAdd, true_implies, not_true_eq_false, not_false_eq_true, false_implies, and_true, true_and, x_10, xs_aload_n_0, xs_iload_n_1, xs_if_ne, xs_ireturn, xs_bipush_118, xs_bipush_6, xs_icmp_ne, xs_if_eq, xs_iconst_1, xs_iadd, xs_goto, xs_iconst_m1]) | refine xc_v2_1 (c1) (Nat.le_of_ble_eq_true rfl) ?_ | refine xc_v1_1 (p1) (Nat.le_of_ble_eq_true rfl) ?_))
    (first | exact ⟨Or.inl trivial, rfl⟩ | exact ⟨Or.inl trivial, rfl, rfl⟩ | (simp; done) | exact ⟨by simp, rfl⟩ | exact ⟨by simp, rfl, rfl⟩ | rfl)
  · obtain ⟨h1, p1, M1, F1⟩ := m8_full M hrl
    rw [if_pos q1] at c1
    refine ⟨h1, ?_, M1, F1⟩
    refine xK_X8_hears (hb 0 _ rfl) (xe_X8_hears_0 ?_)
    (repeat (first | (simp only [xb_X8_hears_0, xb_X8_hears_13, xb_X8_hears_30, xb_X8_hears_74, xb_X8_hears_75, xs_nil, Nat.reduceAdd, true_implies, not_true_eq_false, not_false_eq_true, false_implies, and_true, true_and, x_10, xs_aload_n_0, xs_iload_n_1, xs_if_ne, xs_ireturn, xs_bipush_118, xs_bipush_6, xs_icmp_ne, xs_if_eq, xs_iconst_1, xs_iadd, xs_goto, xs_iconst_m1]) | refine xc_v2_1 (c1) (Nat.le_of_ble_eq_true rfl) ?_))
    refine xe_X8_hears_13 ?_
    (repeat (first | (simp only [xb_X8_hears_0, xb_X8_hears_13, xb_X8_hears_30, xb_X8_hears_74, xb_X8_hears_75, xs_nil, Nat.reduceAdd, true_implies, not_true_eq_false, not_false_eq_true, false_implies, and_true, true_and, x_10, xs_aload_n_0, xs_iload_n_1, xs_if_ne, xs_ireturn, xs_bipush_118, xs_bipush_6, xs_icmp_ne, xs_if_eq, xs_iconst_1, xs_iadd, xs_goto, xs_iconst_m1]) | (refine xr_getf (hb 0 _ rfl) (by rfl) ?_) | (refine xr_iaload (hb 1 _ rfl) hR.i118 ?_)))
    rw [hR.e118, q2]
    refine ⟨fun z => absurd rfl z, fun _ => ?_⟩
    (repeat (first | (simp only [xb_X8_hears_0, xb_X8_hears_13, xb_X8_hears_30, xb_X8_hears_74, xb_X8_hears_75, xs_nil, Nat.reduceAdd, true_implies, not_true_eq_false, not_false_eq_true, false_implies, and_true, true_and, x_10, xs_aload_n_0, xs_iload_n_1, xs_if_ne, xs_ireturn, xs_bipush_118, xs_bipush_6, xs_icmp_ne, xs_if_eq, xs_iconst_1, xs_iadd, xs_goto, xs_iconst_m1]) | refine xc_v1_1 (p1) (Nat.le_of_ble_eq_true rfl) ?_))
    (first | exact ⟨Or.inl trivial, rfl⟩ | exact ⟨Or.inl trivial, rfl, rfl⟩ | (simp; done) | exact ⟨by simp, rfl⟩ | exact ⟨by simp, rfl, rfl⟩ | rfl)
theorem t_hears (B : BR ys h) : TC ys h 80 96 [.int x1] := by
  obtain ⟨s, k, sh, nx, ct, tx, ln, rf, nw, pa, L, C, M, I⟩ := B
  obtain ⟨i1, i2, ⟨i3, i4, i5⟩, i6, i7, i8, i9⟩ := id I
  have h6 := i1.1.n6
  have hne := i1.1.ne
  by_cases hc : 0 ≤ x1 ∧ x1 < nI (sne s)
  · obtain ⟨j, hj, rfl⟩ := nI_rng (n := sne s) rfl (by omega) hc.1 hc.2
    by_cases hn : sn s < 6
    · refine TC_mk2 L (c7_hears_ok C i1.1 i2.1 i3 i4 hj hn) (fun h1 F => ?_)
      obtain ⟨h2, nw', p, M2, F2, R2, K2⟩ := m8_hears_ok (M.cF F) i1 i2.1 i2.2 i4 i6 hj hn
      exact ⟨h2, nw', _, p, M2, F2, INV_push I i1 R2 ⟨khear_ok i2.1, K2⟩⟩
    · have hr := (Or.inr ⟨hc, show sn s = 6 by omega, rfl, rfl⟩ : (¬ (0 ≤ nI j ∧ nI j < nI (sne s)) ∧ (-4 : Int32) = -2 ∧ (2 : Int32) = 0) ∨ ((0 ≤ nI j ∧ nI j < nI (sne s)) ∧ sn s = 6 ∧ (-4 : Int32) = -4 ∧ (2 : Int32) = 2))
      exact TC_mk L (c7_hears_no C i9 i1.1 hr) (fun h1 F => m8_hears_no (M.cF F) i1 i9 hr) (INV_rf I)
  · have hr := (Or.inl ⟨hc, rfl, rfl⟩ : (¬ (0 ≤ x1 ∧ x1 < nI (sne s)) ∧ (-2 : Int32) = -2 ∧ (0 : Int32) = 0) ∨ ((0 ≤ x1 ∧ x1 < nI (sne s)) ∧ sn s = 6 ∧ (-2 : Int32) = -4 ∧ (0 : Int32) = 2))
    exact TC_mk L (c7_hears_no C i9 i1.1 hr) (fun h1 F => m8_hears_no (M.cF F) i1 i9 hr) (INV_rf I)
end PF
