/-! best -/
section PI
variable {ys : List Int32} {h : xH} {x1 x2 : Int32}
theorem t_best (B : BR ys h) : TC ys h 120 122 [.int x1, .int x2] := by
  obtain ⟨s, k, sh, nx, ct, tx, ln, rf, nw, pa, L, C, M, I⟩ := B
  obtain ⟨i1, i2, i3, i6, i7, i8, i9⟩ := id I
  have h6 := i1.1.n6
  have e118 := i1.e118
  have i118 := i1.i118
  have hct := i1.1.ct
  by_cases hc : (0 ≤ x1 ∧ x1 ≤ nI (sn s)) ∧ (x2 = 0 ∨ x2 = 1)
  · obtain ⟨i, hi, rfl⟩ := nI_rngle (n := sn s) rfl (by omega) hc.1.1 hc.1.2
    obtain ⟨w, hw, rfl⟩ : ∃ w, w < 2 ∧ x2 = nI w := by
      rcases hc.2 with e | e
      · exact ⟨0, by decide, e⟩
      · exact ⟨1, by decide, e⟩
    -- what is found, by the reference's side
    obtain ⟨_, _, _, _, _, N0, bc0, br0, bk0, _, _, _, _, _, _, _, _, _, _, bs0, _⟩ := m8_found M i1 i2.1 i2.2
    obtain ⟨n1, n2, n3, n4⟩ := bs0
    refine TC_mk2 (r := .int (if 0 < N0 then (if i = 0 then kleastCost (kreck s 0 k) else if w = 0 then kread (kleastRow (kreck s 0 k)) (nI i) else khead (kleastRow (kreck s 0 k)) (nI i)) else -1)) (s' := s) (k' := kreck s 0 k) (sh' := sh) (nx' := nx) (ct' := ct) (tx' := tx) (ln' := ln) (rf' := rf) L ?_ (fun h1 F => ?_)
    · have B := C
      obtain ⟨h1, p1, B1, F1⟩ := c7_reck B i1.1 i2.1
      refine ⟨h1, ?_, B1, F1⟩
      have cA := c_hasAnalysis B1.hk
      have cC := c_leastCost B1.hk
      have cR := c_leastRow B1.hk
      rw [n2] at cA
      have cr : xK 61 [.int (kleastRow (kreck s 0 k)), .int (nI i)] h1 (some (.int (kread (kleastRow (kreck s 0 k)) (nI i)))) h1 := c_readingOf
      have ch : xK 60 [.int (kleastRow (kreck s 0 k)), .int (nI i)] h1 (some (.int (khead (kleastRow (kreck s 0 k)) (nI i)))) h1 := c_headOf
      have go : x_EV 120 34 [some (.ref 2), some (.int (nI i)), some (.int (nI w)), none] [] h (some (.int (if 0 < N0 then (if i = 0 then kleastCost (kreck s 0 k) else if w = 0 then kread (kleastRow (kreck s 0 k)) (nI i) else khead (kleastRow (kreck s 0 k)) (nI i)) else -1))) h1 := by
        refine xe_X7_best_34 ?_
        (repeat (first | (simp only [xb_X7_best_0, xb_X7_best_27, xb_X7_best_34, xb_X7_best_58, xb_X7_best_70, xb_X7_best_90, xb_X7_best_95, xs_nil, Nat.reduceAdd, true_implies, not_true_eq_false, not_false_eq_true, false_implies, and_true, true_and, x_10, xs_iload_n_1, xs_if_lt, xs_aload_n_0, xs_icmp_gt, xs_iload_n_2, xs_if_eq, xs_iconst_1, xs_icmp_eq, xs_bipush_m2, xs_ireturn, xs_iconst_0, xs_if_ne, xs_iconst_m1, xs_istore_n_3_i, xs_istore_n_3_a, xs_istore_n_3_n, xs_istore_n_3_l, xs_iload_n_3, xs_goto]) | (refine xr_getf (B.hp 0 _ rfl) (by rfl) ?_) | (refine xr_getf (B.hs 0 _ rfl) (by rfl) ?_) | (refine xr_getf (B.hs 1 _ rfl) (by rfl) ?_) | (refine xr_getf (B.hs 7 _ rfl) (by rfl) ?_) | refine xc_v3_0 (p1) (Nat.le_of_ble_eq_true rfl) ?_ | (refine xr_getf (B1.hp 0 _ rfl) (by rfl) ?_) | refine xc_v1_1 (cA) (Nat.le_of_ble_eq_true rfl) ?_))
        by_cases hN : 0 < N0
        · rw [if_pos ((nI0_lt n1).mpr hN), if_pos hN]
          (repeat (first | (simp only [xb_X7_best_0, xb_X7_best_27, xb_X7_best_34, xb_X7_best_58, xb_X7_best_70, xb_X7_best_90, xb_X7_best_95, xs_nil, Nat.reduceAdd, true_implies, not_true_eq_false, not_false_eq_true, false_implies, and_true, true_and, x_10, xs_iload_n_1, xs_if_lt, xs_aload_n_0, xs_icmp_gt, xs_iload_n_2, xs_if_eq, xs_iconst_1, xs_icmp_eq, xs_bipush_m2, xs_ireturn, xs_iconst_0, xs_if_ne, xs_iconst_m1, xs_istore_n_3_i, xs_istore_n_3_a, xs_istore_n_3_n, xs_istore_n_3_l, xs_iload_n_3, xs_goto]) ))
          refine xe_X7_best_58 ?_
          (repeat (first | (simp only [xb_X7_best_0, xb_X7_best_27, xb_X7_best_34, xb_X7_best_58, xb_X7_best_70, xb_X7_best_90, xb_X7_best_95, xs_nil, Nat.reduceAdd, true_implies, not_true_eq_false, not_false_eq_true, false_implies, and_true, true_and, x_10, xs_iload_n_1, xs_if_lt, xs_aload_n_0, xs_icmp_gt, xs_iload_n_2, xs_if_eq, xs_iconst_1, xs_icmp_eq, xs_bipush_m2, xs_ireturn, xs_iconst_0, xs_if_ne, xs_iconst_m1, xs_istore_n_3_i, xs_istore_n_3_a, xs_istore_n_3_n, xs_istore_n_3_l, xs_iload_n_3, xs_goto]) ))
          by_cases hi0 : i = 0
          · subst hi0
            rw [if_pos rfl]
            refine ⟨fun z => absurd rfl z, fun _ => ?_⟩
            (repeat (first | (simp only [xb_X7_best_0, xb_X7_best_27, xb_X7_best_34, xb_X7_best_58, xb_X7_best_70, xb_X7_best_90, xb_X7_best_95, xs_nil, Nat.reduceAdd, true_implies, not_true_eq_false, not_false_eq_true, false_implies, and_true, true_and, x_10, xs_iload_n_1, xs_if_lt, xs_aload_n_0, xs_icmp_gt, xs_iload_n_2, xs_if_eq, xs_iconst_1, xs_icmp_eq, xs_bipush_m2, xs_ireturn, xs_iconst_0, xs_if_ne, xs_iconst_m1, xs_istore_n_3_i, xs_istore_n_3_a, xs_istore_n_3_n, xs_istore_n_3_l, xs_iload_n_3, xs_goto]) | (refine xr_getf (B1.hp 0 _ rfl) (by rfl) ?_) | refine xc_v1_1 (cC) (Nat.le_of_ble_eq_true rfl) ?_))
            (first | exact ⟨Or.inl trivial, rfl⟩ | exact ⟨Or.inl trivial, rfl, rfl⟩ | (simp; done) | exact ⟨by simp, rfl⟩ | exact ⟨by simp, rfl, rfl⟩ | rfl)
          · rw [if_neg hi0]
            refine ⟨fun _ => ?_, fun z => absurd (nI_ne0 (by omega) (by omega)) z⟩
            refine xe_X7_best_70 ?_
            (repeat (first | (simp only [xb_X7_best_0, xb_X7_best_27, xb_X7_best_34, xb_X7_best_58, xb_X7_best_70, xb_X7_best_90, xb_X7_best_95, xs_nil, Nat.reduceAdd, true_implies, not_true_eq_false, not_false_eq_true, false_implies, and_true, true_and, x_10, xs_iload_n_1, xs_if_lt, xs_aload_n_0, xs_icmp_gt, xs_iload_n_2, xs_if_eq, xs_iconst_1, xs_icmp_eq, xs_bipush_m2, xs_ireturn, xs_iconst_0, xs_if_ne, xs_iconst_m1, xs_istore_n_3_i, xs_istore_n_3_a, xs_istore_n_3_n, xs_istore_n_3_l, xs_iload_n_3, xs_goto]) | (refine xr_getf (B1.hp 0 _ rfl) (by rfl) ?_) | refine xc_v1_1 (cR) (Nat.le_of_ble_eq_true rfl) ?_))
            rcases (show w = 0 ∨ w = 1 by omega) with rfl | rfl
            · rw [if_pos rfl]
              refine ⟨fun z => absurd rfl z, fun _ => ?_⟩
              (repeat (first | (simp only [xb_X7_best_0, xb_X7_best_27, xb_X7_best_34, xb_X7_best_58, xb_X7_best_70, xb_X7_best_90, xb_X7_best_95, xs_nil, Nat.reduceAdd, true_implies, not_true_eq_false, not_false_eq_true, false_implies, and_true, true_and, x_10, xs_iload_n_1, xs_if_lt, xs_aload_n_0, xs_icmp_gt, xs_iload_n_2, xs_if_eq, xs_iconst_1, xs_icmp_eq, xs_bipush_m2, xs_ireturn, xs_iconst_0, xs_if_ne, xs_iconst_m1, xs_istore_n_3_i, xs_istore_n_3_a, xs_istore_n_3_n, xs_istore_n_3_l, xs_iload_n_3, xs_goto]) | refine xc_s2_1 (by decide) (cr) (Nat.le_of_ble_eq_true rfl) ?_))
              refine xe_X7_best_95 ?_
              (repeat (first | (simp only [xb_X7_best_0, xb_X7_best_27, xb_X7_best_34, xb_X7_best_58, xb_X7_best_70, xb_X7_best_90, xb_X7_best_95, xs_nil, Nat.reduceAdd, true_implies, not_true_eq_false, not_false_eq_true, false_implies, and_true, true_and, x_10, xs_iload_n_1, xs_if_lt, xs_aload_n_0, xs_icmp_gt, xs_iload_n_2, xs_if_eq, xs_iconst_1, xs_icmp_eq, xs_bipush_m2, xs_ireturn, xs_iconst_0, xs_if_ne, xs_iconst_m1, xs_istore_n_3_i, xs_istore_n_3_a, xs_istore_n_3_n, xs_istore_n_3_l, xs_iload_n_3, xs_goto]) ))
              (first | exact ⟨Or.inl trivial, rfl⟩ | exact ⟨Or.inl trivial, rfl, rfl⟩ | (simp; done) | exact ⟨by simp, rfl⟩ | exact ⟨by simp, rfl, rfl⟩ | rfl)
            · rw [if_neg (by decide)]
              refine ⟨fun _ => ?_, fun z => absurd (by decide) z⟩
              refine xe_X7_best_90 ?_
              (repeat (first | (simp only [xb_X7_best_0, xb_X7_best_27, xb_X7_best_34, xb_X7_best_58, xb_X7_best_70, xb_X7_best_90, xb_X7_best_95, xs_nil, Nat.reduceAdd, true_implies, not_true_eq_false, not_false_eq_true, false_implies, and_true, true_and, x_10, xs_iload_n_1, xs_if_lt, xs_aload_n_0, xs_icmp_gt, xs_iload_n_2, xs_if_eq, xs_iconst_1, xs_icmp_eq, xs_bipush_m2, xs_ireturn, xs_iconst_0, xs_if_ne, xs_iconst_m1, xs_istore_n_3_i, xs_istore_n_3_a, xs_istore_n_3_n, xs_istore_n_3_l, xs_iload_n_3, xs_goto]) | refine xc_s2_1 (by decide) (ch) (Nat.le_of_ble_eq_true rfl) ?_))
              refine xe_X7_best_95 ?_
              (repeat (first | (simp only [xb_X7_best_0, xb_X7_best_27, xb_X7_best_34, xb_X7_best_58, xb_X7_best_70, xb_X7_best_90, xb_X7_best_95, xs_nil, Nat.reduceAdd, true_implies, not_true_eq_false, not_false_eq_true, false_implies, and_true, true_and, x_10, xs_iload_n_1, xs_if_lt, xs_aload_n_0, xs_icmp_gt, xs_iload_n_2, xs_if_eq, xs_iconst_1, xs_icmp_eq, xs_bipush_m2, xs_ireturn, xs_iconst_0, xs_if_ne, xs_iconst_m1, xs_istore_n_3_i, xs_istore_n_3_a, xs_istore_n_3_n, xs_istore_n_3_l, xs_iload_n_3, xs_goto]) ))
              (first | exact ⟨Or.inl trivial, rfl⟩ | exact ⟨Or.inl trivial, rfl, rfl⟩ | (simp; done) | exact ⟨by simp, rfl⟩ | exact ⟨by simp, rfl, rfl⟩ | rfl)
        · rw [if_neg (fun z => hN ((nI0_lt n1).mp z)), if_neg hN]
          (repeat (first | (simp only [xb_X7_best_0, xb_X7_best_27, xb_X7_best_34, xb_X7_best_58, xb_X7_best_70, xb_X7_best_90, xb_X7_best_95, xs_nil, Nat.reduceAdd, true_implies, not_true_eq_false, not_false_eq_true, false_implies, and_true, true_and, x_10, xs_iload_n_1, xs_if_lt, xs_aload_n_0, xs_icmp_gt, xs_iload_n_2, xs_if_eq, xs_iconst_1, xs_icmp_eq, xs_bipush_m2, xs_ireturn, xs_iconst_0, xs_if_ne, xs_iconst_m1, xs_istore_n_3_i, xs_istore_n_3_a, xs_istore_n_3_n, xs_istore_n_3_l, xs_iload_n_3, xs_goto]) ))
          (first | exact ⟨Or.inl trivial, rfl⟩ | exact ⟨Or.inl trivial, rfl, rfl⟩ | (simp; done) | exact ⟨by simp, rfl⟩ | exact ⟨by simp, rfl, rfl⟩ | rfl)
      refine xK_X7_best (B.hp 0 _ rfl) (xe_X7_best_0 ?_)
      (repeat (first | (simp only [xb_X7_best_0, xb_X7_best_27, xb_X7_best_34, xb_X7_best_58, xb_X7_best_70, xb_X7_best_90, xb_X7_best_95, xs_nil, Nat.reduceAdd, true_implies, not_true_eq_false, not_false_eq_true, false_implies, and_true, true_and, x_10, xs_iload_n_1, xs_if_lt, xs_aload_n_0, xs_icmp_gt, xs_iload_n_2, xs_if_eq, xs_iconst_1, xs_icmp_eq, xs_bipush_m2, xs_ireturn, xs_iconst_0, xs_if_ne, xs_iconst_m1, xs_istore_n_3_i, xs_istore_n_3_a, xs_istore_n_3_n, xs_istore_n_3_l, xs_iload_n_3, xs_goto]) ))
      refine ⟨fun z => absurd z (nI_pos (by omega)), fun _ => ?_⟩
      (repeat (first | (simp only [xb_X7_best_0, xb_X7_best_27, xb_X7_best_34, xb_X7_best_58, xb_X7_best_70, xb_X7_best_90, xb_X7_best_95, xs_nil, Nat.reduceAdd, true_implies, not_true_eq_false, not_false_eq_true, false_implies, and_true, true_and, x_10, xs_iload_n_1, xs_if_lt, xs_aload_n_0, xs_icmp_gt, xs_iload_n_2, xs_if_eq, xs_iconst_1, xs_icmp_eq, xs_bipush_m2, xs_ireturn, xs_iconst_0, xs_if_ne, xs_iconst_m1, xs_istore_n_3_i, xs_istore_n_3_a, xs_istore_n_3_n, xs_istore_n_3_l, xs_iload_n_3, xs_goto]) | (refine xr_getf (B.hp 0 _ rfl) (by rfl) ?_) | (refine xr_getf (B.hs 0 _ rfl) (by rfl) ?_) | (refine xr_getf (B.hs 1 _ rfl) (by rfl) ?_) | (refine xr_getf (B.hs 7 _ rfl) (by rfl) ?_)))
      rw [hct]
      refine ⟨fun z => absurd z (nI_nlt hi (by omega)), fun _ => ?_⟩
      (repeat (first | (simp only [xb_X7_best_0, xb_X7_best_27, xb_X7_best_34, xb_X7_best_58, xb_X7_best_70, xb_X7_best_90, xb_X7_best_95, xs_nil, Nat.reduceAdd, true_implies, not_true_eq_false, not_false_eq_true, false_implies, and_true, true_and, x_10, xs_iload_n_1, xs_if_lt, xs_aload_n_0, xs_icmp_gt, xs_iload_n_2, xs_if_eq, xs_iconst_1, xs_icmp_eq, xs_bipush_m2, xs_ireturn, xs_iconst_0, xs_if_ne, xs_iconst_m1, xs_istore_n_3_i, xs_istore_n_3_a, xs_istore_n_3_n, xs_istore_n_3_l, xs_iload_n_3, xs_goto]) ))
      rcases (show w = 0 ∨ w = 1 by omega) with rfl | rfl
      · exact ⟨fun _ => go, fun z => absurd rfl z⟩
      · refine ⟨fun z => absurd z (by decide), fun _ => ?_⟩
        (repeat (first | (simp only [xb_X7_best_0, xb_X7_best_27, xb_X7_best_34, xb_X7_best_58, xb_X7_best_70, xb_X7_best_90, xb_X7_best_95, xs_nil, Nat.reduceAdd, true_implies, not_true_eq_false, not_false_eq_true, false_implies, and_true, true_and, x_10, xs_iload_n_1, xs_if_lt, xs_aload_n_0, xs_icmp_gt, xs_iload_n_2, xs_if_eq, xs_iconst_1, xs_icmp_eq, xs_bipush_m2, xs_ireturn, xs_iconst_0, xs_if_ne, xs_iconst_m1, xs_istore_n_3_i, xs_istore_n_3_a, xs_istore_n_3_n, xs_istore_n_3_l, xs_iload_n_3, xs_goto]) ))
        exact ⟨fun _ => go, fun z => absurd rfl z⟩
    · have M := M.cF F
      obtain ⟨fs, h2, h3, z1, z2, N, bc', br', bk', q1, q2, q3, q4, q5, q6, q7, q8, q9, ⟨q10, q10b, q10c⟩, ⟨q11, q12, q13, q13b⟩, q14⟩ := m8_found M i1 i2.1 i2.2
      have eN : N0 = N := (nI_eq n1 q11).mp (by rw [← n2, ← q12])
      subst eN
      refine ⟨h3, nw, pa, ?_, ⟨z2, q9, q8⟩, q14, ⟨i1, ⟨kreck_ok i2.1, q13⟩, i3, i6, i7, i8, i9⟩⟩
      have c1 := c_in (x1 := nI w) (x2 := 0) (x3 := 1) (h := h1)
      rw [if_pos ⟨nI_pos' (by omega), nI_le (b := 1) (by omega) (by decide)⟩] at c1
      have c2 := c_in (x1 := nI i) (x2 := 0) (x3 := nI (sn s)) (h := h1)
      rw [if_pos ⟨nI_pos' (by omega), nI_le hi (by omega)⟩] at c2
      have fin : ∀ a : Option Value, x_EV 122 46 [some (.ref 122), some (.int (nI i)), some (.int (nI w)), some (.int (nI (sn s))), a] [] h3 (some (.int (if 0 < N0 then (if i = 0 then kleastCost (kreck s 0 k) else if w = 0 then kread (kleastRow (kreck s 0 k)) (nI i) else khead (kleastRow (kreck s 0 k)) (nI i)) else -1))) h3 := by
        intro a
        refine xe_X8_best_46 ?_
        (repeat (first | (simp only [xb_X8_best_0, xb_X8_best_26, xb_X8_best_31, xb_X8_best_46, xb_X8_best_57, xb_X8_best_68, xb_X8_best_72, xb_X8_best_73, xb_X8_best_97, xb_X8_best_102, xs_nil, Nat.reduceAdd, true_implies, not_true_eq_false, not_false_eq_true, false_implies, and_true, true_and, x_10, xs_aload_n_0, xs_bipush_118, xs_istore_n_3_i, xs_istore_n_3_a, xs_istore_n_3_n, xs_istore_n_3_l, xs_iload_n_2, xs_iconst_0, xs_iconst_1, xs_if_eq, xs_iload_n_1, xs_iload_n_3, xs_if_ne, xs_ireturn, xs_if_le, xs_iconst_m1, xs_goto, xs_istore_4_i, xs_istore_4_a, xs_istore_4_n, xs_istore_4_l, xs_iload_4, xs_bipush_7, xs_idiv, xs_irem]) | (refine xr_getf (q8 0 _ rfl) (by rfl) ?_)))
        rw [q10]
        by_cases hN : 0 < N0
        · obtain ⟨m1, b, c, C', m2, m3, m4, m5, m6, m7, m8⟩ := q13b hN
          rw [if_pos hN]
          refine ⟨fun z => absurd z (nI_ne0 hN q11), fun _ => ?_⟩
          (repeat (first | (simp only [xb_X8_best_0, xb_X8_best_26, xb_X8_best_31, xb_X8_best_46, xb_X8_best_57, xb_X8_best_68, xb_X8_best_72, xb_X8_best_73, xb_X8_best_97, xb_X8_best_102, xs_nil, Nat.reduceAdd, true_implies, not_true_eq_false, not_false_eq_true, false_implies, and_true, true_and, x_10, xs_aload_n_0, xs_bipush_118, xs_istore_n_3_i, xs_istore_n_3_a, xs_istore_n_3_n, xs_istore_n_3_l, xs_iload_n_2, xs_iconst_0, xs_iconst_1, xs_if_eq, xs_iload_n_1, xs_iload_n_3, xs_if_ne, xs_ireturn, xs_if_le, xs_iconst_m1, xs_goto, xs_istore_4_i, xs_istore_4_a, xs_istore_4_n, xs_istore_4_l, xs_iload_4, xs_bipush_7, xs_idiv, xs_irem]) ))
          by_cases hi0 : i = 0
          · subst hi0
            rw [if_pos rfl]
            refine ⟨fun z => absurd rfl z, fun _ => ?_⟩
            (repeat (first | (simp only [xb_X8_best_0, xb_X8_best_26, xb_X8_best_31, xb_X8_best_46, xb_X8_best_57, xb_X8_best_68, xb_X8_best_72, xb_X8_best_73, xb_X8_best_97, xb_X8_best_102, xs_nil, Nat.reduceAdd, true_implies, not_true_eq_false, not_false_eq_true, false_implies, and_true, true_and, x_10, xs_aload_n_0, xs_bipush_118, xs_istore_n_3_i, xs_istore_n_3_a, xs_istore_n_3_n, xs_istore_n_3_l, xs_iload_n_2, xs_iconst_0, xs_iconst_1, xs_if_eq, xs_iload_n_1, xs_iload_n_3, xs_if_ne, xs_ireturn, xs_if_le, xs_iconst_m1, xs_goto, xs_istore_4_i, xs_istore_4_a, xs_istore_4_n, xs_istore_4_l, xs_iload_4, xs_bipush_7, xs_idiv, xs_irem]) ))
            refine xe_X8_best_57 ?_
            (repeat (first | (simp only [xb_X8_best_0, xb_X8_best_26, xb_X8_best_31, xb_X8_best_46, xb_X8_best_57, xb_X8_best_68, xb_X8_best_72, xb_X8_best_73, xb_X8_best_97, xb_X8_best_102, xs_nil, Nat.reduceAdd, true_implies, not_true_eq_false, not_false_eq_true, false_implies, and_true, true_and, x_10, xs_aload_n_0, xs_bipush_118, xs_istore_n_3_i, xs_istore_n_3_a, xs_istore_n_3_n, xs_istore_n_3_l, xs_iload_n_2, xs_iconst_0, xs_iconst_1, xs_if_eq, xs_iload_n_1, xs_iload_n_3, xs_if_ne, xs_ireturn, xs_if_le, xs_iconst_m1, xs_goto, xs_istore_4_i, xs_istore_4_a, xs_istore_4_n, xs_istore_4_l, xs_iload_4, xs_bipush_7, xs_idiv, xs_irem]) | (refine xr_getf (q8 0 _ rfl) (by rfl) ?_)))
            rw [q10]
            refine ⟨fun _ => ?_, fun z => absurd (nI_ne0 hN q11) z⟩
            refine xe_X8_best_68 ?_
            (repeat (first | (simp only [xb_X8_best_0, xb_X8_best_26, xb_X8_best_31, xb_X8_best_46, xb_X8_best_57, xb_X8_best_68, xb_X8_best_72, xb_X8_best_73, xb_X8_best_97, xb_X8_best_102, xs_nil, Nat.reduceAdd, true_implies, not_true_eq_false, not_false_eq_true, false_implies, and_true, true_and, x_10, xs_aload_n_0, xs_bipush_118, xs_istore_n_3_i, xs_istore_n_3_a, xs_istore_n_3_n, xs_istore_n_3_l, xs_iload_n_2, xs_iconst_0, xs_iconst_1, xs_if_eq, xs_iload_n_1, xs_iload_n_3, xs_if_ne, xs_ireturn, xs_if_le, xs_iconst_m1, xs_goto, xs_istore_4_i, xs_istore_4_a, xs_istore_4_n, xs_istore_4_l, xs_iload_4, xs_bipush_7, xs_idiv, xs_irem]) | (refine xr_getf (q8 0 _ rfl) (by rfl) ?_)))
            refine xe_X8_best_72 ?_
            (repeat (first | (simp only [xb_X8_best_0, xb_X8_best_26, xb_X8_best_31, xb_X8_best_46, xb_X8_best_57, xb_X8_best_68, xb_X8_best_72, xb_X8_best_73, xb_X8_best_97, xb_X8_best_102, xs_nil, Nat.reduceAdd, true_implies, not_true_eq_false, not_false_eq_true, false_implies, and_true, true_and, x_10, xs_aload_n_0, xs_bipush_118, xs_istore_n_3_i, xs_istore_n_3_a, xs_istore_n_3_n, xs_istore_n_3_l, xs_iload_n_2, xs_iconst_0, xs_iconst_1, xs_if_eq, xs_iload_n_1, xs_iload_n_3, xs_if_ne, xs_ireturn, xs_if_le, xs_iconst_m1, xs_goto, xs_istore_4_i, xs_istore_4_a, xs_istore_4_n, xs_istore_4_l, xs_iload_4, xs_bipush_7, xs_idiv, xs_irem]) ))
            rw [q10b, m6, m7]
            (first | exact ⟨Or.inl trivial, rfl⟩ | exact ⟨Or.inl trivial, rfl, rfl⟩ | (simp; done) | exact ⟨by simp, rfl⟩ | exact ⟨by simp, rfl, rfl⟩ | rfl)
          · have cl := codN_lt h6 b c
            obtain ⟨d1, d2⟩ := codN_at h6 b c (w := i) (by omega) hi
            have cD := c_digitOf (m := 122) (c := codN (sn s) b c) (w := i) (n := sn s) (q8 0 _ rfl) (by omega) hi (by omega)
            have hdl : codN (sn s) b c / 14 ^ (sn s - i) % 14 < 14 := Nat.mod_lt _ (by decide)
            have n7 : ¬ (7 : Int32) = 0 := by decide
            rw [if_neg hi0]
            refine ⟨fun _ => ?_, fun z => absurd (nI_ne0 (by omega) (by omega)) z⟩
            refine xe_X8_best_73 ?_
            (repeat (first | (simp only [xb_X8_best_0, xb_X8_best_26, xb_X8_best_31, xb_X8_best_46, xb_X8_best_57, xb_X8_best_68, xb_X8_best_72, xb_X8_best_73, xb_X8_best_97, xb_X8_best_102, xs_nil, Nat.reduceAdd, true_implies, not_true_eq_false, not_false_eq_true, false_implies, and_true, true_and, x_10, xs_aload_n_0, xs_bipush_118, xs_istore_n_3_i, xs_istore_n_3_a, xs_istore_n_3_n, xs_istore_n_3_l, xs_iload_n_2, xs_iconst_0, xs_iconst_1, xs_if_eq, xs_iload_n_1, xs_iload_n_3, xs_if_ne, xs_ireturn, xs_if_le, xs_iconst_m1, xs_goto, xs_istore_4_i, xs_istore_4_a, xs_istore_4_n, xs_istore_4_l, xs_iload_4, xs_bipush_7, xs_idiv, xs_irem]) | (refine xr_getf (q8 0 _ rfl) (by rfl) ?_)))
            rw [q10c, m8]
            (repeat (first | (simp only [xb_X8_best_0, xb_X8_best_26, xb_X8_best_31, xb_X8_best_46, xb_X8_best_57, xb_X8_best_68, xb_X8_best_72, xb_X8_best_73, xb_X8_best_97, xb_X8_best_102, xs_nil, Nat.reduceAdd, true_implies, not_true_eq_false, not_false_eq_true, false_implies, and_true, true_and, x_10, xs_aload_n_0, xs_bipush_118, xs_istore_n_3_i, xs_istore_n_3_a, xs_istore_n_3_n, xs_istore_n_3_l, xs_iload_n_2, xs_iconst_0, xs_iconst_1, xs_if_eq, xs_iload_n_1, xs_iload_n_3, xs_if_ne, xs_ireturn, xs_if_le, xs_iconst_m1, xs_goto, xs_istore_4_i, xs_istore_4_a, xs_istore_4_n, xs_istore_4_l, xs_iload_4, xs_bipush_7, xs_idiv, xs_irem]) | refine xc_v4_1 (cD) (Nat.le_of_ble_eq_true rfl) ?_))
            rcases (show w = 0 ∨ w = 1 by omega) with rfl | rfl
            · have e4 : nI (codN (sn s) b c / 14 ^ (sn s - i) % 14) / 7 = nI (codN (sn s) b c / 14 ^ (sn s - i) % 14 / 7) := pk_div (d := 7) (by omega) (by omega) (by omega)
              rw [if_pos rfl]
              refine ⟨fun z => absurd rfl z, fun _ => ?_⟩
              (repeat (first | (simp only [xb_X8_best_0, xb_X8_best_26, xb_X8_best_31, xb_X8_best_46, xb_X8_best_57, xb_X8_best_68, xb_X8_best_72, xb_X8_best_73, xb_X8_best_97, xb_X8_best_102, xs_nil, Nat.reduceAdd, true_implies, not_true_eq_false, not_false_eq_true, false_implies, and_true, true_and, x_10, xs_aload_n_0, xs_bipush_118, xs_istore_n_3_i, xs_istore_n_3_a, xs_istore_n_3_n, xs_istore_n_3_l, xs_iload_n_2, xs_iconst_0, xs_iconst_1, xs_if_eq, xs_iload_n_1, xs_iload_n_3, xs_if_ne, xs_ireturn, xs_if_le, xs_iconst_m1, xs_goto, xs_istore_4_i, xs_istore_4_a, xs_istore_4_n, xs_istore_4_l, xs_iload_4, xs_bipush_7, xs_idiv, xs_irem]) ))
              refine ⟨n7, ?_⟩
              rw [e4, d2, m5, kread_at h6 b c (by omega) hi]
              (repeat (first | (simp only [xb_X8_best_0, xb_X8_best_26, xb_X8_best_31, xb_X8_best_46, xb_X8_best_57, xb_X8_best_68, xb_X8_best_72, xb_X8_best_73, xb_X8_best_97, xb_X8_best_102, xs_nil, Nat.reduceAdd, true_implies, not_true_eq_false, not_false_eq_true, false_implies, and_true, true_and, x_10, xs_aload_n_0, xs_bipush_118, xs_istore_n_3_i, xs_istore_n_3_a, xs_istore_n_3_n, xs_istore_n_3_l, xs_iload_n_2, xs_iconst_0, xs_iconst_1, xs_if_eq, xs_iload_n_1, xs_iload_n_3, xs_if_ne, xs_ireturn, xs_if_le, xs_iconst_m1, xs_goto, xs_istore_4_i, xs_istore_4_a, xs_istore_4_n, xs_istore_4_l, xs_iload_4, xs_bipush_7, xs_idiv, xs_irem]) ))
              refine xe_X8_best_102 ?_
              (repeat (first | (simp only [xb_X8_best_0, xb_X8_best_26, xb_X8_best_31, xb_X8_best_46, xb_X8_best_57, xb_X8_best_68, xb_X8_best_72, xb_X8_best_73, xb_X8_best_97, xb_X8_best_102, xs_nil, Nat.reduceAdd, true_implies, not_true_eq_false, not_false_eq_true, false_implies, and_true, true_and, x_10, xs_aload_n_0, xs_bipush_118, xs_istore_n_3_i, xs_istore_n_3_a, xs_istore_n_3_n, xs_istore_n_3_l, xs_iload_n_2, xs_iconst_0, xs_iconst_1, xs_if_eq, xs_iload_n_1, xs_iload_n_3, xs_if_ne, xs_ireturn, xs_if_le, xs_iconst_m1, xs_goto, xs_istore_4_i, xs_istore_4_a, xs_istore_4_n, xs_istore_4_l, xs_iload_4, xs_bipush_7, xs_idiv, xs_irem]) ))
              (first | exact ⟨Or.inl trivial, rfl⟩ | exact ⟨Or.inl trivial, rfl, rfl⟩ | (simp; done) | exact ⟨by simp, rfl⟩ | exact ⟨by simp, rfl, rfl⟩ | rfl)
            · have e4 : nI (codN (sn s) b c / 14 ^ (sn s - i) % 14) - nI (codN (sn s) b c / 14 ^ (sn s - i) % 14) / 7 * 7 = nI (codN (sn s) b c / 14 ^ (sn s - i) % 14 % 7) := pk_rem (d := 7) (by omega) (by omega) (by omega)
              rw [if_neg (by decide)]
              refine ⟨fun _ => ?_, fun z => absurd (by decide) z⟩
              refine xe_X8_best_97 ?_
              (repeat (first | (simp only [xb_X8_best_0, xb_X8_best_26, xb_X8_best_31, xb_X8_best_46, xb_X8_best_57, xb_X8_best_68, xb_X8_best_72, xb_X8_best_73, xb_X8_best_97, xb_X8_best_102, xs_nil, Nat.reduceAdd, true_implies, not_true_eq_false, not_false_eq_true, false_implies, and_true, true_and, x_10, xs_aload_n_0, xs_bipush_118, xs_istore_n_3_i, xs_istore_n_3_a, xs_istore_n_3_n, xs_istore_n_3_l, xs_iload_n_2, xs_iconst_0, xs_iconst_1, xs_if_eq, xs_iload_n_1, xs_iload_n_3, xs_if_ne, xs_ireturn, xs_if_le, xs_iconst_m1, xs_goto, xs_istore_4_i, xs_istore_4_a, xs_istore_4_n, xs_istore_4_l, xs_iload_4, xs_bipush_7, xs_idiv, xs_irem]) ))
              refine ⟨n7, ?_⟩
              rw [e4, d1, m5, khead_at h6 b c (by omega) hi]
              (repeat (first | (simp only [xb_X8_best_0, xb_X8_best_26, xb_X8_best_31, xb_X8_best_46, xb_X8_best_57, xb_X8_best_68, xb_X8_best_72, xb_X8_best_73, xb_X8_best_97, xb_X8_best_102, xs_nil, Nat.reduceAdd, true_implies, not_true_eq_false, not_false_eq_true, false_implies, and_true, true_and, x_10, xs_aload_n_0, xs_bipush_118, xs_istore_n_3_i, xs_istore_n_3_a, xs_istore_n_3_n, xs_istore_n_3_l, xs_iload_n_2, xs_iconst_0, xs_iconst_1, xs_if_eq, xs_iload_n_1, xs_iload_n_3, xs_if_ne, xs_ireturn, xs_if_le, xs_iconst_m1, xs_goto, xs_istore_4_i, xs_istore_4_a, xs_istore_4_n, xs_istore_4_l, xs_iload_4, xs_bipush_7, xs_idiv, xs_irem]) ))
              refine xe_X8_best_102 ?_
              (repeat (first | (simp only [xb_X8_best_0, xb_X8_best_26, xb_X8_best_31, xb_X8_best_46, xb_X8_best_57, xb_X8_best_68, xb_X8_best_72, xb_X8_best_73, xb_X8_best_97, xb_X8_best_102, xs_nil, Nat.reduceAdd, true_implies, not_true_eq_false, not_false_eq_true, false_implies, and_true, true_and, x_10, xs_aload_n_0, xs_bipush_118, xs_istore_n_3_i, xs_istore_n_3_a, xs_istore_n_3_n, xs_istore_n_3_l, xs_iload_n_2, xs_iconst_0, xs_iconst_1, xs_if_eq, xs_iload_n_1, xs_iload_n_3, xs_if_ne, xs_ireturn, xs_if_le, xs_iconst_m1, xs_goto, xs_istore_4_i, xs_istore_4_a, xs_istore_4_n, xs_istore_4_l, xs_iload_4, xs_bipush_7, xs_idiv, xs_irem]) ))
              (first | exact ⟨Or.inl trivial, rfl⟩ | exact ⟨Or.inl trivial, rfl, rfl⟩ | (simp; done) | exact ⟨by simp, rfl⟩ | exact ⟨by simp, rfl, rfl⟩ | rfl)
        · have hN0 : N0 = 0 := by omega
          rw [if_neg hN, hN0]
          refine ⟨fun _ => ?_, fun z => absurd rfl z⟩
          refine xe_X8_best_57 ?_
          (repeat (first | (simp only [xb_X8_best_0, xb_X8_best_26, xb_X8_best_31, xb_X8_best_46, xb_X8_best_57, xb_X8_best_68, xb_X8_best_72, xb_X8_best_73, xb_X8_best_97, xb_X8_best_102, xs_nil, Nat.reduceAdd, true_implies, not_true_eq_false, not_false_eq_true, false_implies, and_true, true_and, x_10, xs_aload_n_0, xs_bipush_118, xs_istore_n_3_i, xs_istore_n_3_a, xs_istore_n_3_n, xs_istore_n_3_l, xs_iload_n_2, xs_iconst_0, xs_iconst_1, xs_if_eq, xs_iload_n_1, xs_iload_n_3, xs_if_ne, xs_ireturn, xs_if_le, xs_iconst_m1, xs_goto, xs_istore_4_i, xs_istore_4_a, xs_istore_4_n, xs_istore_4_l, xs_iload_4, xs_bipush_7, xs_idiv, xs_irem]) | (refine xr_getf (q8 0 _ rfl) (by rfl) ?_)))
          rw [q10, hN0]
          refine ⟨fun z => absurd rfl z, fun _ => ?_⟩
          (repeat (first | (simp only [xb_X8_best_0, xb_X8_best_26, xb_X8_best_31, xb_X8_best_46, xb_X8_best_57, xb_X8_best_68, xb_X8_best_72, xb_X8_best_73, xb_X8_best_97, xb_X8_best_102, xs_nil, Nat.reduceAdd, true_implies, not_true_eq_false, not_false_eq_true, false_implies, and_true, true_and, x_10, xs_aload_n_0, xs_bipush_118, xs_istore_n_3_i, xs_istore_n_3_a, xs_istore_n_3_n, xs_istore_n_3_l, xs_iload_n_2, xs_iconst_0, xs_iconst_1, xs_if_eq, xs_iload_n_1, xs_iload_n_3, xs_if_ne, xs_ireturn, xs_if_le, xs_iconst_m1, xs_goto, xs_istore_4_i, xs_istore_4_a, xs_istore_4_n, xs_istore_4_l, xs_iload_4, xs_bipush_7, xs_idiv, xs_irem]) ))
          refine xe_X8_best_72 ?_
          (repeat (first | (simp only [xb_X8_best_0, xb_X8_best_26, xb_X8_best_31, xb_X8_best_46, xb_X8_best_57, xb_X8_best_68, xb_X8_best_72, xb_X8_best_73, xb_X8_best_97, xb_X8_best_102, xs_nil, Nat.reduceAdd, true_implies, not_true_eq_false, not_false_eq_true, false_implies, and_true, true_and, x_10, xs_aload_n_0, xs_bipush_118, xs_istore_n_3_i, xs_istore_n_3_a, xs_istore_n_3_n, xs_istore_n_3_l, xs_iload_n_2, xs_iconst_0, xs_iconst_1, xs_if_eq, xs_iload_n_1, xs_iload_n_3, xs_if_ne, xs_ireturn, xs_if_le, xs_iconst_m1, xs_goto, xs_istore_4_i, xs_istore_4_a, xs_istore_4_n, xs_istore_4_l, xs_iload_4, xs_bipush_7, xs_idiv, xs_irem]) ))
          (first | exact ⟨Or.inl trivial, rfl⟩ | exact ⟨Or.inl trivial, rfl, rfl⟩ | (simp; done) | exact ⟨by simp, rfl⟩ | exact ⟨by simp, rfl, rfl⟩ | rfl)
      refine xK_X8_best q1 (xe_X8_best_0 ?_)
      (repeat (first | (simp only [xb_X8_best_0, xb_X8_best_26, xb_X8_best_31, xb_X8_best_46, xb_X8_best_57, xb_X8_best_68, xb_X8_best_72, xb_X8_best_73, xb_X8_best_97, xb_X8_best_102, xs_nil, Nat.reduceAdd, true_implies, not_true_eq_false, not_false_eq_true, false_implies, and_true, true_and, x_10, xs_aload_n_0, xs_bipush_118, xs_istore_n_3_i, xs_istore_n_3_a, xs_istore_n_3_n, xs_istore_n_3_l, xs_iload_n_2, xs_iconst_0, xs_iconst_1, xs_if_eq, xs_iload_n_1, xs_iload_n_3, xs_if_ne, xs_ireturn, xs_if_le, xs_iconst_m1, xs_goto, xs_istore_4_i, xs_istore_4_a, xs_istore_4_n, xs_istore_4_l, xs_iload_4, xs_bipush_7, xs_idiv, xs_irem]) | (refine xr_getf (q4 0 _ rfl) (by rfl) ?_) | (refine xr_iaload (q4 1 _ rfl) i118 ?_) | refine xc_s3_1 (by decide) (c1) (Nat.le_of_ble_eq_true rfl) ?_))
      rw [e118]
      (repeat (first | (simp only [xb_X8_best_0, xb_X8_best_26, xb_X8_best_31, xb_X8_best_46, xb_X8_best_57, xb_X8_best_68, xb_X8_best_72, xb_X8_best_73, xb_X8_best_97, xb_X8_best_102, xs_nil, Nat.reduceAdd, true_implies, not_true_eq_false, not_false_eq_true, false_implies, and_true, true_and, x_10, xs_aload_n_0, xs_bipush_118, xs_istore_n_3_i, xs_istore_n_3_a, xs_istore_n_3_n, xs_istore_n_3_l, xs_iload_n_2, xs_iconst_0, xs_iconst_1, xs_if_eq, xs_iload_n_1, xs_iload_n_3, xs_if_ne, xs_ireturn, xs_if_le, xs_iconst_m1, xs_goto, xs_istore_4_i, xs_istore_4_a, xs_istore_4_n, xs_istore_4_l, xs_iload_4, xs_bipush_7, xs_idiv, xs_irem]) | refine xc_s3_1 (by decide) (c2) (Nat.le_of_ble_eq_true rfl) ?_))
      refine xe_X8_best_31 ?_
      (repeat (first | (simp only [xb_X8_best_0, xb_X8_best_26, xb_X8_best_31, xb_X8_best_46, xb_X8_best_57, xb_X8_best_68, xb_X8_best_72, xb_X8_best_73, xb_X8_best_97, xb_X8_best_102, xs_nil, Nat.reduceAdd, true_implies, not_true_eq_false, not_false_eq_true, false_implies, and_true, true_and, x_10, xs_aload_n_0, xs_bipush_118, xs_istore_n_3_i, xs_istore_n_3_a, xs_istore_n_3_n, xs_istore_n_3_l, xs_iload_n_2, xs_iconst_0, xs_iconst_1, xs_if_eq, xs_iload_n_1, xs_iload_n_3, xs_if_ne, xs_ireturn, xs_if_le, xs_iconst_m1, xs_goto, xs_istore_4_i, xs_istore_4_a, xs_istore_4_n, xs_istore_4_l, xs_iload_4, xs_bipush_7, xs_idiv, xs_irem]) ))
      refine xr_putf q1 (by decide) q2 (x_fit_int _) ?_
      rw [← q3]
      (repeat (first | (simp only [xb_X8_best_0, xb_X8_best_26, xb_X8_best_31, xb_X8_best_46, xb_X8_best_57, xb_X8_best_68, xb_X8_best_72, xb_X8_best_73, xb_X8_best_97, xb_X8_best_102, xs_nil, Nat.reduceAdd, true_implies, not_true_eq_false, not_false_eq_true, false_implies, and_true, true_and, x_10, xs_aload_n_0, xs_bipush_118, xs_istore_n_3_i, xs_istore_n_3_a, xs_istore_n_3_n, xs_istore_n_3_l, xs_iload_n_2, xs_iconst_0, xs_iconst_1, xs_if_eq, xs_iload_n_1, xs_iload_n_3, xs_if_ne, xs_ireturn, xs_if_le, xs_iconst_m1, xs_goto, xs_istore_4_i, xs_istore_4_a, xs_istore_4_n, xs_istore_4_l, xs_iload_4, xs_bipush_7, xs_idiv, xs_irem]) ))
      by_cases h0 : 0 < sn s
      · refine ⟨fun z => absurd z (nI_nle h0 (by omega)), fun _ => ?_⟩
        (repeat (first | (simp only [xb_X8_best_0, xb_X8_best_26, xb_X8_best_31, xb_X8_best_46, xb_X8_best_57, xb_X8_best_68, xb_X8_best_72, xb_X8_best_73, xb_X8_best_97, xb_X8_best_102, xs_nil, Nat.reduceAdd, true_implies, not_true_eq_false, not_false_eq_true, false_implies, and_true, true_and, x_10, xs_aload_n_0, xs_bipush_118, xs_istore_n_3_i, xs_istore_n_3_a, xs_istore_n_3_n, xs_istore_n_3_l, xs_iload_n_2, xs_iconst_0, xs_iconst_1, xs_if_eq, xs_iload_n_1, xs_iload_n_3, xs_if_ne, xs_ireturn, xs_if_le, xs_iconst_m1, xs_goto, xs_istore_4_i, xs_istore_4_a, xs_istore_4_n, xs_istore_4_l, xs_iload_4, xs_bipush_7, xs_idiv, xs_irem]) | refine xc_v3_0 (q6 h0) (Nat.le_of_ble_eq_true rfl) ?_))
        exact fin _
      · have hn0 : sn s = 0 := by omega
        have e := q7 hn0
        refine ⟨fun _ => ?_, fun z => absurd (by rw [hn0]; decide) z⟩
        rw [← e]
        exact fin _
  · refine TC_mk (r := .int (-2)) L ?_ (fun h1 F => ?_) (INV_rf (i := 0) I)
    · have B := C
      obtain ⟨h1, p1, B1, F1⟩ := c7_bad C i9
      refine ⟨h1, ?_, B1, F1⟩
      have fin : x_EV 120 27 [some (.ref 2), some (.int x1), some (.int x2), none] [] h (some (.int (-2))) h1 := by
        refine xe_X7_best_27 ?_
        (repeat (first | (simp only [xb_X7_best_0, xb_X7_best_27, xb_X7_best_34, xb_X7_best_58, xb_X7_best_70, xb_X7_best_90, xb_X7_best_95, xs_nil, Nat.reduceAdd, true_implies, not_true_eq_false, not_false_eq_true, false_implies, and_true, true_and, x_10, xs_iload_n_1, xs_if_lt, xs_aload_n_0, xs_icmp_gt, xs_iload_n_2, xs_if_eq, xs_iconst_1, xs_icmp_eq, xs_bipush_m2, xs_ireturn, xs_iconst_0, xs_if_ne, xs_iconst_m1, xs_istore_n_3_i, xs_istore_n_3_a, xs_istore_n_3_n, xs_istore_n_3_l, xs_iload_n_3, xs_goto]) | refine xc_v2_1 (p1) (Nat.le_of_ble_eq_true rfl) ?_))
        (first | exact ⟨Or.inl trivial, rfl⟩ | exact ⟨Or.inl trivial, rfl, rfl⟩ | (simp; done) | exact ⟨by simp, rfl⟩ | exact ⟨by simp, rfl, rfl⟩ | rfl)
      refine xK_X7_best (B.hp 0 _ rfl) (xe_X7_best_0 ?_)
      (repeat (first | (simp only [xb_X7_best_0, xb_X7_best_27, xb_X7_best_34, xb_X7_best_58, xb_X7_best_70, xb_X7_best_90, xb_X7_best_95, xs_nil, Nat.reduceAdd, true_implies, not_true_eq_false, not_false_eq_true, false_implies, and_true, true_and, x_10, xs_iload_n_1, xs_if_lt, xs_aload_n_0, xs_icmp_gt, xs_iload_n_2, xs_if_eq, xs_iconst_1, xs_icmp_eq, xs_bipush_m2, xs_ireturn, xs_iconst_0, xs_if_ne, xs_iconst_m1, xs_istore_n_3_i, xs_istore_n_3_a, xs_istore_n_3_n, xs_istore_n_3_l, xs_iload_n_3, xs_goto]) ))
      refine ⟨fun _ => fin, fun a1 => ?_⟩
      (repeat (first | (simp only [xb_X7_best_0, xb_X7_best_27, xb_X7_best_34, xb_X7_best_58, xb_X7_best_70, xb_X7_best_90, xb_X7_best_95, xs_nil, Nat.reduceAdd, true_implies, not_true_eq_false, not_false_eq_true, false_implies, and_true, true_and, x_10, xs_iload_n_1, xs_if_lt, xs_aload_n_0, xs_icmp_gt, xs_iload_n_2, xs_if_eq, xs_iconst_1, xs_icmp_eq, xs_bipush_m2, xs_ireturn, xs_iconst_0, xs_if_ne, xs_iconst_m1, xs_istore_n_3_i, xs_istore_n_3_a, xs_istore_n_3_n, xs_istore_n_3_l, xs_iload_n_3, xs_goto]) | (refine xr_getf (B.hp 0 _ rfl) (by rfl) ?_) | (refine xr_getf (B.hs 0 _ rfl) (by rfl) ?_) | (refine xr_getf (B.hs 1 _ rfl) (by rfl) ?_) | (refine xr_getf (B.hs 7 _ rfl) (by rfl) ?_)))
      rw [hct]
      refine ⟨fun _ => fin, fun a2 => ?_⟩
      (repeat (first | (simp only [xb_X7_best_0, xb_X7_best_27, xb_X7_best_34, xb_X7_best_58, xb_X7_best_70, xb_X7_best_90, xb_X7_best_95, xs_nil, Nat.reduceAdd, true_implies, not_true_eq_false, not_false_eq_true, false_implies, and_true, true_and, x_10, xs_iload_n_1, xs_if_lt, xs_aload_n_0, xs_icmp_gt, xs_iload_n_2, xs_if_eq, xs_iconst_1, xs_icmp_eq, xs_bipush_m2, xs_ireturn, xs_iconst_0, xs_if_ne, xs_iconst_m1, xs_istore_n_3_i, xs_istore_n_3_a, xs_istore_n_3_n, xs_istore_n_3_l, xs_iload_n_3, xs_goto]) ))
      refine ⟨fun a3 => absurd ⟨⟨Int32.not_lt.mp a1, Int32.not_lt.mp a2⟩, Or.inl a3⟩ hc, fun a3 => ?_⟩
      (repeat (first | (simp only [xb_X7_best_0, xb_X7_best_27, xb_X7_best_34, xb_X7_best_58, xb_X7_best_70, xb_X7_best_90, xb_X7_best_95, xs_nil, Nat.reduceAdd, true_implies, not_true_eq_false, not_false_eq_true, false_implies, and_true, true_and, x_10, xs_iload_n_1, xs_if_lt, xs_aload_n_0, xs_icmp_gt, xs_iload_n_2, xs_if_eq, xs_iconst_1, xs_icmp_eq, xs_bipush_m2, xs_ireturn, xs_iconst_0, xs_if_ne, xs_iconst_m1, xs_istore_n_3_i, xs_istore_n_3_a, xs_istore_n_3_n, xs_istore_n_3_l, xs_iload_n_3, xs_goto]) ))
      exact ⟨fun a4 => absurd ⟨⟨Int32.not_lt.mp a1, Int32.not_lt.mp a2⟩, Or.inr a4⟩ hc, fun _ => fin⟩
    · have M := M.cF F
      obtain ⟨h2, p1, M1, F1⟩ := m8_bad M i9
      refine ⟨h2, ?_, M1, F1⟩
      obtain ⟨z, hz, hb⟩ := M
      have c1 := c_in (x1 := x2) (x2 := 0) (x3 := 1) (h := h1)
      have c2 := c_in (x1 := x1) (x2 := 0) (x3 := nI (sn s)) (h := h1)
      have fin : ∀ a : Option Value, x_EV 122 26 [some (.ref 122), some (.int x1), some (.int x2), some (.int (nI (sn s))), a] [] h1 (some (.int (-2))) h2 := by
        intro a
        refine xe_X8_best_26 ?_
        (repeat (first | (simp only [xb_X8_best_0, xb_X8_best_26, xb_X8_best_31, xb_X8_best_46, xb_X8_best_57, xb_X8_best_68, xb_X8_best_72, xb_X8_best_73, xb_X8_best_97, xb_X8_best_102, xs_nil, Nat.reduceAdd, true_implies, not_true_eq_false, not_false_eq_true, false_implies, and_true, true_and, x_10, xs_aload_n_0, xs_bipush_118, xs_istore_n_3_i, xs_istore_n_3_a, xs_istore_n_3_n, xs_istore_n_3_l, xs_iload_n_2, xs_iconst_0, xs_iconst_1, xs_if_eq, xs_iload_n_1, xs_iload_n_3, xs_if_ne, xs_ireturn, xs_if_le, xs_iconst_m1, xs_goto, xs_istore_4_i, xs_istore_4_a, xs_istore_4_n, xs_istore_4_l, xs_iload_4, xs_bipush_7, xs_idiv, xs_irem]) | refine xc_v1_1 (p1) (Nat.le_of_ble_eq_true rfl) ?_))
        (first | exact ⟨Or.inl trivial, rfl⟩ | exact ⟨Or.inl trivial, rfl, rfl⟩ | (simp; done) | exact ⟨by simp, rfl⟩ | exact ⟨by simp, rfl, rfl⟩ | rfl)
      refine xK_X8_best (hb 0 _ rfl) (xe_X8_best_0 ?_)
      (repeat (first | (simp only [xb_X8_best_0, xb_X8_best_26, xb_X8_best_31, xb_X8_best_46, xb_X8_best_57, xb_X8_best_68, xb_X8_best_72, xb_X8_best_73, xb_X8_best_97, xb_X8_best_102, xs_nil, Nat.reduceAdd, true_implies, not_true_eq_false, not_false_eq_true, false_implies, and_true, true_and, x_10, xs_aload_n_0, xs_bipush_118, xs_istore_n_3_i, xs_istore_n_3_a, xs_istore_n_3_n, xs_istore_n_3_l, xs_iload_n_2, xs_iconst_0, xs_iconst_1, xs_if_eq, xs_iload_n_1, xs_iload_n_3, xs_if_ne, xs_ireturn, xs_if_le, xs_iconst_m1, xs_goto, xs_istore_4_i, xs_istore_4_a, xs_istore_4_n, xs_istore_4_l, xs_iload_4, xs_bipush_7, xs_idiv, xs_irem]) | (refine xr_getf (hb 0 _ rfl) (by rfl) ?_) | (refine xr_iaload (hb 1 _ rfl) i118 ?_) | refine xc_s3_1 (by decide) (c1) (Nat.le_of_ble_eq_true rfl) ?_))
      rw [e118]
      simp only [x_ite0, Classical.not_not]
      refine ⟨fun _ => fin _, fun z => ?_⟩
      (repeat (first | (simp only [xb_X8_best_0, xb_X8_best_26, xb_X8_best_31, xb_X8_best_46, xb_X8_best_57, xb_X8_best_68, xb_X8_best_72, xb_X8_best_73, xb_X8_best_97, xb_X8_best_102, xs_nil, Nat.reduceAdd, true_implies, not_true_eq_false, not_false_eq_true, false_implies, and_true, true_and, x_10, xs_aload_n_0, xs_bipush_118, xs_istore_n_3_i, xs_istore_n_3_a, xs_istore_n_3_n, xs_istore_n_3_l, xs_iload_n_2, xs_iconst_0, xs_iconst_1, xs_if_eq, xs_iload_n_1, xs_iload_n_3, xs_if_ne, xs_ireturn, xs_if_le, xs_iconst_m1, xs_goto, xs_istore_4_i, xs_istore_4_a, xs_istore_4_n, xs_istore_4_l, xs_iload_4, xs_bipush_7, xs_idiv, xs_irem]) | refine xc_s3_1 (by decide) (c2) (Nat.le_of_ble_eq_true rfl) ?_))
      simp only [x_ite0, Classical.not_not]
      refine ⟨fun z2 => absurd ⟨z2, ?_⟩ hc, fun _ => fin _⟩
      obtain ⟨w, hw, rfl⟩ := nI_rngle (n := 1) rfl (by decide) z.1 z.2
      rcases (show w = 0 ∨ w = 1 by omega) with rfl | rfl
      · exact Or.inl rfl
      · exact Or.inr rfl
end PI
