/-! of; words heard, taken away -/
theorem ite_iff {P Q : Prop} [Decidable P] [Decidable Q] (h : P ↔ Q) {a b : Int32} : (if P then a else b) = (if Q then a else b) := by
  by_cases hp : P
  · rw [if_pos hp, if_pos (h.mp hp)]
  · rw [if_neg hp, if_neg (fun z => hp (h.mpr z))]
section PE
variable {ys : List Int32} {h : xH} {s : kS} {k : kC} {sh : Nat → kS} {nx ct : Nat} {tx : List Int32} {ln : Int32} {rf : List Int32} {nw pa : List Int32} {sts byt : Int32} {x1 x2 x3 x4 : Int32} {j : Nat}
theorem m8_listens (M : mW h nw pa sts rf tx byt) (hR : Rl s nw) (hc : kcok k) (h0c : ch0 k.2.1) (hj : j < sne s) (hn : sn s < 6) : ∃ nw' h2, xK 95 [.ref 122, .int (nI j)] h none h2 ∧ mW h2 nw' pa sts rf tx byt ∧ mF h h2 ∧ Rl (khear s k (nI j)).1 nw' ∧ ch0 (khear s k (nI j)).2.2.1 := by
  obtain ⟨⟨asd, hs, rd, so, ah, ar, tr, bg, fo, bc, br, bk, le, fr, nu, od, sp, wr, ha⟩, hz, hb⟩ := M
  have hb : x_hb h 122 (x_mc 122 nw asd pa sts rf tx byt (hs.map nI) rd so ah ar tr bg fo bc br bk le fr nu od sp wr ha) := hb
  have A := xA.of hb (Nat.zero_lt_succ _)
  obtain ⟨z1, z2, z3, z4, z5, z6, z7, z8⟩ := hz
  obtain ⟨nw', hs', rd', so', ah', ar', fo', bc', br', bk', ⟨o1, o2, o3, o4, o5, o6, o7⟩, c⟩ := c_listens hb (by decide) z2 z3 z4 z5 z6 z7 hR hc h0c hj hn
  obtain ⟨M1, F1⟩ := mW_A (nw' := nw') (pa' := pa) (sts' := sts) (rf' := rf) (tx' := tx) (byt' := byt) (z' := ((asd, (hs'), (rd'), (so'), (ah'), (ar'), tr, bg, (fo'), (bc'), (br'), (bk'), le, fr, nu, od, sp, wr, ha) : mZ)) ⟨z1, o1, o2, o3, o4, o5, z7, z8⟩ (A.on rfl)
  exact ⟨nw', _, c, M1, F1, o6, o7⟩
theorem Rl.e118 (hR : Rl s nw) : xg nw 118 = nI (sn s) := by
  have e := hR.2.1.2.2.2.2.2.2.1
  rw [hR.1.ct] at e
  exact e
theorem Rl.i118 (hR : Rl s nw) : xin 118 nw.length := by
  rw [hR.2.1.1]
  exact x_in (k := 118) (by decide) (by decide)
theorem m8_holds (M : mW h nw pa sts rf tx byt) (hR : Rl s nw) : xK 82 [.ref 122, .int (nI (sn s))] h (some (.int (if 0 < sn s ∧ ¬ kstuck s = true then 1 else 0))) h := by
  obtain ⟨⟨asd, hs, rd, so, ah, ar, tr, bg, fo, bc, br, bk, le, fr, nu, od, sp, wr, ha⟩, hz, hb⟩ := M
  have hb : x_hb h 122 (x_mc 122 nw asd pa sts rf tx byt (hs.map nI) rd so ah ar tr bg fo bc br bk le fr nu od sp wr ha) := hb
  have A := xA.of hb (Nat.zero_lt_succ _)
  have h6 := hR.1.n6
  obtain ⟨st1, st2⟩ := Rl_stuck hR
  have key : (0 < sn s) → (119 : Int32) + 5 * (nI (sn s) - 1) + 3 = nI (119 + 5 * (sn s - 1) + 3) := fun z => by rw [wp_n (by omega)]; exact nI_k _ 3 rfl
  have c := c_holds (x1 := nI (sn s)) hb (fun z => by rw [key ((nI0_lt (by omega)).mp z), hR.2.1.1]; exact x_in (by omega) (by decide))
  have e : (0 < nI (sn s) ∧ 0 ≤ xg nw (119 + 5 * (nI (sn s) - 1) + 3)) ↔ (0 < sn s ∧ ¬ kstuck s = true) := by
    rw [nI0_lt (by omega)]
    refine ⟨fun z => ⟨z.1, fun q => ?_⟩, fun z => ⟨z.1, ?_⟩⟩
    · have := z.2
      rw [key z.1, xg_n (by omega)] at this
      exact (st1 q).2 this
    · rw [key z.1, xg_n (by omega)]
      exact Classical.byContradiction fun q => (st2 z.2).1 ⟨z.1, q⟩
  rw [ite_iff e] at c
  exact c
theorem m8_isStuck (M : mW h nw pa sts rf tx byt) (hR : Rl s nw) : xK 105 [.ref 122] h (some (.int (if kstuck s = true then 1 else 0))) h := by
  have cH := m8_holds M hR
  have h6 := hR.1.n6
  obtain ⟨⟨asd, hs, rd, so, ah, ar, tr, bg, fo, bc, br, bk, le, fr, nu, od, sp, wr, ha⟩, hz, hb⟩ := M
  have hb : x_hb h 122 (x_mc 122 nw asd pa sts rf tx byt (hs.map nI) rd so ah ar tr bg fo bc br bk le fr nu od sp wr ha) := hb
  have A := xA.of hb (Nat.zero_lt_succ _)
  refine xK_X8_isStuck (hb 0 _ rfl) (xe_X8_isStuck_0 ?_)
  (repeat (first | (simp only [xb_X8_isStuck_0, xb_X8_isStuck_28, xb_X8_isStuck_29, xs_nil, Nat.reduceAdd, true_implies, not_true_eq_false, not_false_eq_true, false_implies, and_true, true_and, x_10, xs_aload_n_0, xs_bipush_118, xs_if_le, xs_if_ne, xs_iconst_1, xs_goto, xs_iconst_0, xs_ireturn]) | (refine xr_getf (hb 0 _ rfl) (by rfl) ?_) | (refine xr_iaload (hb 1 _ rfl) hR.i118 ?_)))
  rw [hR.e118]
  obtain ⟨st1, st2⟩ := Rl_stuck hR
  by_cases h0 : 0 < sn s
  · refine ⟨fun z => absurd z (nI_nle h0 (by omega)), fun _ => ?_⟩
    (repeat (first | (simp only [xb_X8_isStuck_0, xb_X8_isStuck_28, xb_X8_isStuck_29, xs_nil, Nat.reduceAdd, true_implies, not_true_eq_false, not_false_eq_true, false_implies, and_true, true_and, x_10, xs_aload_n_0, xs_bipush_118, xs_if_le, xs_if_ne, xs_iconst_1, xs_goto, xs_iconst_0, xs_ireturn]) | (refine xr_getf (hb 0 _ rfl) (by rfl) ?_) | (refine xr_iaload (hb 1 _ rfl) hR.i118 ?_)))
    rw [hR.e118]
    (repeat (first | (simp only [xb_X8_isStuck_0, xb_X8_isStuck_28, xb_X8_isStuck_29, xs_nil, Nat.reduceAdd, true_implies, not_true_eq_false, not_false_eq_true, false_implies, and_true, true_and, x_10, xs_aload_n_0, xs_bipush_118, xs_if_le, xs_if_ne, xs_iconst_1, xs_goto, xs_iconst_0, xs_ireturn]) | refine xc_v2_1 (cH) (Nat.le_of_ble_eq_true rfl) ?_))
    by_cases hs : kstuck s = true
    · rw [if_neg (fun z => z.2 hs), if_pos hs]
      (repeat' (first | (simp only [xb_X8_isStuck_0, xb_X8_isStuck_28, xb_X8_isStuck_29, xs_nil, Nat.reduceAdd, true_implies, not_true_eq_false, not_false_eq_true, false_implies, and_true, true_and, x_10, xs_aload_n_0, xs_bipush_118, xs_if_le, xs_if_ne, xs_iconst_1, xs_goto, xs_iconst_0, xs_ireturn]) | (refine ⟨fun _ => ?_, fun _ => ?_⟩) | refine xe_X8_isStuck_0 ?_ | refine xe_X8_isStuck_28 ?_ | refine xe_X8_isStuck_29 ?_ ))
      all_goals first | (first | exact ⟨Or.inl trivial, rfl⟩ | exact ⟨Or.inl trivial, rfl, rfl⟩ | (simp; done) | exact ⟨by simp, rfl⟩ | exact ⟨by simp, rfl, rfl⟩ | rfl) | (simp; done)
    · rw [if_pos ⟨h0, hs⟩, if_neg hs]
      (repeat' (first | (simp only [xb_X8_isStuck_0, xb_X8_isStuck_28, xb_X8_isStuck_29, xs_nil, Nat.reduceAdd, true_implies, not_true_eq_false, not_false_eq_true, false_implies, and_true, true_and, x_10, xs_aload_n_0, xs_bipush_118, xs_if_le, xs_if_ne, xs_iconst_1, xs_goto, xs_iconst_0, xs_ireturn]) | (refine ⟨fun _ => ?_, fun _ => ?_⟩) | refine xe_X8_isStuck_0 ?_ | refine xe_X8_isStuck_28 ?_ | refine xe_X8_isStuck_29 ?_ ))
      all_goals first | (first | exact ⟨Or.inl trivial, rfl⟩ | exact ⟨Or.inl trivial, rfl, rfl⟩ | (simp; done) | exact ⟨by simp, rfl⟩ | exact ⟨by simp, rfl, rfl⟩ | rfl) | (simp; done)
  · have hs : ¬ kstuck s = true := fun z => h0 (st1 z).1
    refine ⟨fun _ => ?_, fun z => absurd (by rw [show sn s = 0 by omega]; decide) z⟩
    rw [if_neg hs]
    (repeat' (first | (simp only [xb_X8_isStuck_0, xb_X8_isStuck_28, xb_X8_isStuck_29, xs_nil, Nat.reduceAdd, true_implies, not_true_eq_false, not_false_eq_true, false_implies, and_true, true_and, x_10, xs_aload_n_0, xs_bipush_118, xs_if_le, xs_if_ne, xs_iconst_1, xs_goto, xs_iconst_0, xs_ireturn]) | (refine ⟨fun _ => ?_, fun _ => ?_⟩) | refine xe_X8_isStuck_0 ?_ | refine xe_X8_isStuck_28 ?_ | refine xe_X8_isStuck_29 ?_ ))
    all_goals first | (first | exact ⟨Or.inl trivial, rfl⟩ | exact ⟨Or.inl trivial, rfl, rfl⟩ | (simp; done) | exact ⟨by simp, rfl⟩ | exact ⟨by simp, rfl, rfl⟩ | rfl) | (simp; done)
theorem c7_isStuck (B : cW h s k sh nx ct tx ln rf) (hv : sv s) : xK 59 [.ref 10] h (some (.int (if kstuck s = true then 1 else 0))) h := by
  have c := c_isStuck (x_tc_s B.hs) (by rw [hv.lro]; exact hv.in7)
  have e : (0 < sct s ∧ xg (sro s) (sct s) = -1) ↔ kstuck s = true := by
    unfold kstuck
    rw [decide_eq_true_iff]
  rw [ite_iff e] at c
  exact c
/-- of -/
theorem t_of (B : BR ys h) : TC ys h 54 56 [.int x1, .int x2] := by
  obtain ⟨s, k, sh, nx, ct, tx, ln, rf, nw, pa, L, C, M, I⟩ := B
  obtain ⟨i1, i2, ⟨i3, i4, i5⟩, i6, i7, i8, i9⟩ := id I
  have hl := i1.2.1.1
  have hne := i1.1.ne
  have hv := i1.1
  have eS := i1.e78
  have i78 : xin 78 nw.length := by rw [hl]; exact x_in (k := 78) (by decide) (by decide)
  have B := C
  by_cases hc : (0 ≤ x1 ∧ x1 < nI (sne s)) ∧ (0 ≤ x2 ∧ x2 < 3)
  · obtain ⟨a, ha, rfl⟩ := nI_rng (n := sne s) rfl (by omega) hc.1.1 hc.1.2
    obtain ⟨b, hb, rfl⟩ := nI_rng (n := 3) rfl (by decide) hc.2.1 hc.2.2
    have ei : (79 : Int32) + 3 * nI a + nI b = nI (79 + 3 * a + b) := by
      rw [show (79 : Int32) = nI 79 from rfl, show (3 : Int32) = nI 3 from rfl, pk_mul, nI_add, nI_add]
    obtain ⟨g1, g2, g3⟩ := i1.2.1.2.2.2.2.1 a (by omega)
    refine TC_mk (r := .int (nw.getD (79 + 3 * a + b) 0)) L ⟨h, ?_, C, cF.refl h⟩ (fun h1 F => ⟨h1, ?_, M.cF F, mF.refl h1⟩) I
    · have c1 := c_hasEntry (x1 := nI a) (x_tc_g C.hs)
      rw [hv.ec, if_pos hc.1] at c1
      have c2 := c_isBelow (x1 := nI b) (x2 := 3) (h := h)
      rw [if_pos hc.2] at c2
      have es : nI a * 2 + nI b = nI (2 * a + b) := by rw [show (2 : Int32) = nI 2 from rfl, pk_mul, nI_add, Nat.mul_comm]
      have c4 := c_extraOf (x1 := nI a) (x2 := 1) (x_tc_g C.hs) (fun _ => by rw [hv.lX]; exact x_in (by omega) (by decide))
      rw [if_pos rfl, xg_n (by omega)] at c4
      refine xK_X7_of (B.hp 0 _ rfl) (xe_X7_of_0 ?_)
      (repeat (first | (simp only [xb_X7_of_0, xb_X7_of_22, xb_X7_of_29, xb_X7_of_49, xb_X7_of_61, xs_nil, Nat.reduceAdd, true_implies, not_true_eq_false, not_false_eq_true, false_implies, and_true, true_and, x_10, xs_aload_n_0, xs_iload_n_1, xs_if_eq, xs_iload_n_2, xs_iconst_3, xs_if_ne, xs_bipush_m2, xs_ireturn, xs_iconst_2, xs_icmp_ge, xs_goto, xs_iconst_1]) | (refine xr_getf (B.hp 0 _ rfl) (by rfl) ?_) | (refine xr_getf (B.hs 0 _ rfl) (by rfl) ?_) | (refine xr_getf (B.hs 1 _ rfl) (by rfl) ?_) | (refine xr_getf (B.hs 7 _ rfl) (by rfl) ?_) | refine xc_v2_1 (c1) (Nat.le_of_ble_eq_true rfl) ?_ | refine xc_s2_1 (by decide) (c2) (Nat.le_of_ble_eq_true rfl) ?_))
      refine xe_X7_of_29 ?_
      (repeat (first | (simp only [xb_X7_of_0, xb_X7_of_22, xb_X7_of_29, xb_X7_of_49, xb_X7_of_61, xs_nil, Nat.reduceAdd, true_implies, not_true_eq_false, not_false_eq_true, false_implies, and_true, true_and, x_10, xs_aload_n_0, xs_iload_n_1, xs_if_eq, xs_iload_n_2, xs_iconst_3, xs_if_ne, xs_bipush_m2, xs_ireturn, xs_iconst_2, xs_icmp_ge, xs_goto, xs_iconst_1]) ))
      by_cases hb2 : b < 2
      · have c3 := c_sortOf (x1 := nI a) (x2 := nI b) (x_tc_g C.hs) (by rw [es, hv.lS]; exact x_in (by omega) (by decide))
        rw [es, xg_n (by omega)] at c3
        refine ⟨fun z => absurd z (nI_ge (b := 2) hb2 (by decide)), fun _ => ?_⟩
        (repeat (first | (simp only [xb_X7_of_0, xb_X7_of_22, xb_X7_of_29, xb_X7_of_49, xb_X7_of_61, xs_nil, Nat.reduceAdd, true_implies, not_true_eq_false, not_false_eq_true, false_implies, and_true, true_and, x_10, xs_aload_n_0, xs_iload_n_1, xs_if_eq, xs_iload_n_2, xs_iconst_3, xs_if_ne, xs_bipush_m2, xs_ireturn, xs_iconst_2, xs_icmp_ge, xs_goto, xs_iconst_1]) | (refine xr_getf (B.hp 0 _ rfl) (by rfl) ?_) | (refine xr_getf (B.hs 0 _ rfl) (by rfl) ?_) | (refine xr_getf (B.hs 1 _ rfl) (by rfl) ?_) | (refine xr_getf (B.hs 7 _ rfl) (by rfl) ?_) | refine xc_v3_1 (c3) (Nat.le_of_ble_eq_true rfl) ?_))
        refine xe_X7_of_61 ?_
        (repeat (first | (simp only [xb_X7_of_0, xb_X7_of_22, xb_X7_of_29, xb_X7_of_49, xb_X7_of_61, xs_nil, Nat.reduceAdd, true_implies, not_true_eq_false, not_false_eq_true, false_implies, and_true, true_and, x_10, xs_aload_n_0, xs_iload_n_1, xs_if_eq, xs_iload_n_2, xs_iconst_3, xs_if_ne, xs_bipush_m2, xs_ireturn, xs_iconst_2, xs_icmp_ge, xs_goto, xs_iconst_1]) ))
        rcases (show b = 0 ∨ b = 1 by omega) with rfl | rfl
        · have e : (sS s).getD (2 * a + 0) 0 = nw.getD (79 + 3 * a + 0) 0 := g1.symm
          rw [e]
          (first | exact ⟨Or.inl trivial, rfl⟩ | exact ⟨Or.inl trivial, rfl, rfl⟩ | (simp; done) | exact ⟨by simp, rfl⟩ | exact ⟨by simp, rfl, rfl⟩ | rfl)
        · rw [← g2]
          (first | exact ⟨Or.inl trivial, rfl⟩ | exact ⟨Or.inl trivial, rfl, rfl⟩ | (simp; done) | exact ⟨by simp, rfl⟩ | exact ⟨by simp, rfl, rfl⟩ | rfl)
      · have hb3 : b = 2 := by omega
        subst hb3
        refine ⟨fun _ => ?_, fun z => absurd (by decide) z⟩
        refine xe_X7_of_49 ?_
        (repeat (first | (simp only [xb_X7_of_0, xb_X7_of_22, xb_X7_of_29, xb_X7_of_49, xb_X7_of_61, xs_nil, Nat.reduceAdd, true_implies, not_true_eq_false, not_false_eq_true, false_implies, and_true, true_and, x_10, xs_aload_n_0, xs_iload_n_1, xs_if_eq, xs_iload_n_2, xs_iconst_3, xs_if_ne, xs_bipush_m2, xs_ireturn, xs_iconst_2, xs_icmp_ge, xs_goto, xs_iconst_1]) | (refine xr_getf (B.hp 0 _ rfl) (by rfl) ?_) | (refine xr_getf (B.hs 0 _ rfl) (by rfl) ?_) | (refine xr_getf (B.hs 1 _ rfl) (by rfl) ?_) | (refine xr_getf (B.hs 7 _ rfl) (by rfl) ?_) | refine xc_v3_1 (c4) (Nat.le_of_ble_eq_true rfl) ?_))
        refine xe_X7_of_61 ?_
        (repeat (first | (simp only [xb_X7_of_0, xb_X7_of_22, xb_X7_of_29, xb_X7_of_49, xb_X7_of_61, xs_nil, Nat.reduceAdd, true_implies, not_true_eq_false, not_false_eq_true, false_implies, and_true, true_and, x_10, xs_aload_n_0, xs_iload_n_1, xs_if_eq, xs_iload_n_2, xs_iconst_3, xs_if_ne, xs_bipush_m2, xs_ireturn, xs_iconst_2, xs_icmp_ge, xs_goto, xs_iconst_1]) ))
        rw [← g3]
        (first | exact ⟨Or.inl trivial, rfl⟩ | exact ⟨Or.inl trivial, rfl, rfl⟩ | (simp; done) | exact ⟨by simp, rfl⟩ | exact ⟨by simp, rfl, rfl⟩ | rfl)
    · have M := M.cF F
      obtain ⟨z, hz, hb2⟩ := M
      have hc2 := hc.2
      rw [lt_le3] at hc2
      have c1 := c_isEntry (x1 := nI a) hb2 i78
      rw [eS, if_pos ((le_pred hne).mpr hc.1)] at c1
      have c2 := c_in (x1 := nI b) (x2 := 0) (x3 := 2) (h := h1)
      rw [if_pos hc2] at c2
      refine xK_X8_of (hb2 0 _ rfl) (xe_X8_of_0 ?_)
      (repeat (first | (simp only [xb_X8_of_0, xb_X8_of_33, xb_X8_of_37, xs_nil, Nat.reduceAdd, true_implies, not_true_eq_false, not_false_eq_true, false_implies, and_true, true_and, x_10, xs_aload_n_0, xs_iload_n_1, xs_if_eq, xs_iload_n_2, xs_iconst_0, xs_iconst_2, xs_bipush_79, xs_iconst_3, xs_imul, xs_iadd, xs_goto, xs_ireturn]) | refine xc_v2_1 (c1) (Nat.le_of_ble_eq_true rfl) ?_ | refine xc_s3_1 (by decide) (c2) (Nat.le_of_ble_eq_true rfl) ?_ | (refine xr_getf (hb2 0 _ rfl) (by rfl) ?_)))
      rw [ei]
      (repeat (first | (simp only [xb_X8_of_0, xb_X8_of_33, xb_X8_of_37, xs_nil, Nat.reduceAdd, true_implies, not_true_eq_false, not_false_eq_true, false_implies, and_true, true_and, x_10, xs_aload_n_0, xs_iload_n_1, xs_if_eq, xs_iload_n_2, xs_iconst_0, xs_iconst_2, xs_bipush_79, xs_iconst_3, xs_imul, xs_iadd, xs_goto, xs_ireturn]) | (refine xr_iaload (hb2 1 _ rfl) (by rw [hl]; exact x_in (by omega) (by decide)) ?_)))
      refine xe_X8_of_37 ?_
      (repeat (first | (simp only [xb_X8_of_0, xb_X8_of_33, xb_X8_of_37, xs_nil, Nat.reduceAdd, true_implies, not_true_eq_false, not_false_eq_true, false_implies, and_true, true_and, x_10, xs_aload_n_0, xs_iload_n_1, xs_if_eq, xs_iload_n_2, xs_iconst_0, xs_iconst_2, xs_bipush_79, xs_iconst_3, xs_imul, xs_iadd, xs_goto, xs_ireturn]) ))
      rw [xg_n (by omega)]
      (first | exact ⟨Or.inl trivial, rfl⟩ | exact ⟨Or.inl trivial, rfl, rfl⟩ | (simp; done) | exact ⟨by simp, rfl⟩ | exact ⟨by simp, rfl, rfl⟩ | rfl)
  · refine TC_mk (r := .int (-2)) L ?_ (fun h1 F => ?_) (INV_rf (i := 0) I)
    · obtain ⟨h1, p1, B1, F1⟩ := c7_bad C i9
      have c1 := c_hasEntry (x1 := x1) (x_tc_g C.hs)
      rw [hv.ec] at c1
      have c2 := c_isBelow (x1 := x2) (x2 := 3) (h := h)
      refine ⟨h1, ?_, B1, F1⟩
      have fin : x_EV 54 22 [some (.ref 2), some (.int x1), some (.int x2)] [] h (some (.int (-2))) h1 := by
        refine xe_X7_of_22 ?_
        (repeat (first | (simp only [xb_X7_of_0, xb_X7_of_22, xb_X7_of_29, xb_X7_of_49, xb_X7_of_61, xs_nil, Nat.reduceAdd, true_implies, not_true_eq_false, not_false_eq_true, false_implies, and_true, true_and, x_10, xs_aload_n_0, xs_iload_n_1, xs_if_eq, xs_iload_n_2, xs_iconst_3, xs_if_ne, xs_bipush_m2, xs_ireturn, xs_iconst_2, xs_icmp_ge, xs_goto, xs_iconst_1]) | refine xc_v2_1 (p1) (Nat.le_of_ble_eq_true rfl) ?_))
        (first | exact ⟨Or.inl trivial, rfl⟩ | exact ⟨Or.inl trivial, rfl, rfl⟩ | (simp; done) | exact ⟨by simp, rfl⟩ | exact ⟨by simp, rfl, rfl⟩ | rfl)
      refine xK_X7_of (C.hp 0 _ rfl) (xe_X7_of_0 ?_)
      (repeat (first | (simp only [xb_X7_of_0, xb_X7_of_22, xb_X7_of_29, xb_X7_of_49, xb_X7_of_61, xs_nil, Nat.reduceAdd, true_implies, not_true_eq_false, not_false_eq_true, false_implies, and_true, true_and, x_10, xs_aload_n_0, xs_iload_n_1, xs_if_eq, xs_iload_n_2, xs_iconst_3, xs_if_ne, xs_bipush_m2, xs_ireturn, xs_iconst_2, xs_icmp_ge, xs_goto, xs_iconst_1]) | (refine xr_getf (B.hp 0 _ rfl) (by rfl) ?_) | (refine xr_getf (B.hs 0 _ rfl) (by rfl) ?_) | (refine xr_getf (B.hs 1 _ rfl) (by rfl) ?_) | (refine xr_getf (B.hs 7 _ rfl) (by rfl) ?_) | refine xc_v2_1 (c1) (Nat.le_of_ble_eq_true rfl) ?_))
      simp only [x_ite0, Classical.not_not]
      refine ⟨fun _ => fin, fun z => ?_⟩
      (repeat (first | (simp only [xb_X7_of_0, xb_X7_of_22, xb_X7_of_29, xb_X7_of_49, xb_X7_of_61, xs_nil, Nat.reduceAdd, true_implies, not_true_eq_false, not_false_eq_true, false_implies, and_true, true_and, x_10, xs_aload_n_0, xs_iload_n_1, xs_if_eq, xs_iload_n_2, xs_iconst_3, xs_if_ne, xs_bipush_m2, xs_ireturn, xs_iconst_2, xs_icmp_ge, xs_goto, xs_iconst_1]) | refine xc_s2_1 (by decide) (c2) (Nat.le_of_ble_eq_true rfl) ?_))
      simp only [x_ite0, Classical.not_not]
      exact ⟨fun z2 => absurd ⟨z, z2⟩ hc, fun _ => fin⟩
    · have M := M.cF F
      obtain ⟨h2, p1, M1, F1⟩ := m8_bad M i9
      refine ⟨h2, ?_, M1, F1⟩
      obtain ⟨z, hz, hb2⟩ := M
      have c1 := c_isEntry (x1 := x1) hb2 i78
      rw [eS, ite_iff (le_pred hne)] at c1
      rw [lt_le3] at hc
      have c2 := c_in (x1 := x2) (x2 := 0) (x3 := 2) (h := h1)
      have fin : x_EV 56 33 [some (.ref 122), some (.int x1), some (.int x2)] [] h1 (some (.int (-2))) h2 := by
        refine xe_X8_of_33 ?_
        (repeat (first | (simp only [xb_X8_of_0, xb_X8_of_33, xb_X8_of_37, xs_nil, Nat.reduceAdd, true_implies, not_true_eq_false, not_false_eq_true, false_implies, and_true, true_and, x_10, xs_aload_n_0, xs_iload_n_1, xs_if_eq, xs_iload_n_2, xs_iconst_0, xs_iconst_2, xs_bipush_79, xs_iconst_3, xs_imul, xs_iadd, xs_goto, xs_ireturn]) | refine xc_v1_1 (p1) (Nat.le_of_ble_eq_true rfl) ?_))
        refine xe_X8_of_37 ?_
        (repeat (first | (simp only [xb_X8_of_0, xb_X8_of_33, xb_X8_of_37, xs_nil, Nat.reduceAdd, true_implies, not_true_eq_false, not_false_eq_true, false_implies, and_true, true_and, x_10, xs_aload_n_0, xs_iload_n_1, xs_if_eq, xs_iload_n_2, xs_iconst_0, xs_iconst_2, xs_bipush_79, xs_iconst_3, xs_imul, xs_iadd, xs_goto, xs_ireturn]) ))
        (first | exact ⟨Or.inl trivial, rfl⟩ | exact ⟨Or.inl trivial, rfl, rfl⟩ | (simp; done) | exact ⟨by simp, rfl⟩ | exact ⟨by simp, rfl, rfl⟩ | rfl)
      refine xK_X8_of (hb2 0 _ rfl) (xe_X8_of_0 ?_)
      (repeat (first | (simp only [xb_X8_of_0, xb_X8_of_33, xb_X8_of_37, xs_nil, Nat.reduceAdd, true_implies, not_true_eq_false, not_false_eq_true, false_implies, and_true, true_and, x_10, xs_aload_n_0, xs_iload_n_1, xs_if_eq, xs_iload_n_2, xs_iconst_0, xs_iconst_2, xs_bipush_79, xs_iconst_3, xs_imul, xs_iadd, xs_goto, xs_ireturn]) | refine xc_v2_1 (c1) (Nat.le_of_ble_eq_true rfl) ?_))
      simp only [x_ite0, Classical.not_not]
      refine ⟨fun _ => fin, fun z => ?_⟩
      (repeat (first | (simp only [xb_X8_of_0, xb_X8_of_33, xb_X8_of_37, xs_nil, Nat.reduceAdd, true_implies, not_true_eq_false, not_false_eq_true, false_implies, and_true, true_and, x_10, xs_aload_n_0, xs_iload_n_1, xs_if_eq, xs_iload_n_2, xs_iconst_0, xs_iconst_2, xs_bipush_79, xs_iconst_3, xs_imul, xs_iadd, xs_goto, xs_ireturn]) | refine xc_s3_1 (by decide) (c2) (Nat.le_of_ble_eq_true rfl) ?_))
      simp only [x_ite0, Classical.not_not]
      exact ⟨fun _ => fin, fun z2 => absurd ⟨z, z2⟩ hc⟩
end PE
