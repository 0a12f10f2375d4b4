/-! unhears, silence, rereads -/
theorem Rl_sum {s : kS} {nw : List Int32} (hR : Rl s nw) : ∀ k, k ≤ sn s → xsumw nw 2 k = xsum (ssu s) k ∧ xsumw nw 1 k = xsum (sre s) k
  | 0, _ => ⟨rfl, rfl⟩
  | k + 1, hk => by
    obtain ⟨i1, i2⟩ := Rl_sum hR k (by omega)
    obtain ⟨a1, a2, _⟩ := hR.2.2.2.2 (k + 1) (by omega) hk
    have h6 := hR.1.n6
    have e1 : (119 : Int32) + 5 * (nI (k + 1) - 1) + 1 = nI (119 + 5 * (k + 1 - 1) + 1) := by rw [wp_n (by omega)]; exact nI_1 _
    have e2 : (119 : Int32) + 5 * (nI (k + 1) - 1) + 2 = nI (119 + 5 * (k + 1 - 1) + 2) := by rw [wp_n (by omega)]; exact nI_k _ 2 rfl
    refine ⟨?_, ?_⟩
    · show xsumw nw 2 k + xg nw (119 + 5 * (nI (k + 1) - 1) + 2) = xsum (ssu s) k + (ssu s).getD (k + 1) 0
      rw [i1, e2, xg_n (by omega), a2]
    · show xsumw nw 1 k + xg nw (119 + 5 * (nI (k + 1) - 1) + 1) = xsum (sre s) k + (sre s).getD (k + 1) 0
      rw [i2, e1, xg_n (by omega), a1]
section PG
variable {ys : List Int32} {h : xH} {s : kS} {k : kC} {sh : Nat → kS} {nx ct : Nat} {tx : List Int32} {ln : Int32} {rf : List Int32} {nw pa : List Int32} {sts byt : Int32} {x1 x2 x3 x4 : Int32} {j : Nat}
theorem m8_sumOf (M : mW h nw pa sts rf tx byt) (hR : Rl s nw) {x : Nat} (hx : x = 1 ∨ x = 2) : xK 106 [.ref 122, .int (nI x)] h (some (.int (xsumw nw (nI x) (sn s)))) h := by
  obtain ⟨z, hz, hb⟩ := M
  have h6 := hR.1.n6
  refine c_sumOf hb hR.i118 hR.e118 (by omega) (fun k hk => ?_)
  rw [wp_n (by omega), nI_add, hR.2.1.1]
  exact x_in (by omega) (by decide)
/-- the count of words written -/
theorem c7_cnt (B : cW h s k sh nx ct tx ln rf) (n : Nat) : cW (h.set 10 (.inr (3, [.ref (10 + 1), .ref (10 + 2), .ref (10 + 3), .ref (10 + 4), .ref (10 + 5), .int (nI n)]))) (scnt s n) k sh nx ct tx ln rf ∧ cF h (h.set 10 (.inr (3, [.ref (10 + 1), .ref (10 + 2), .ref (10 + 3), .ref (10 + 4), .ref (10 + 5), .int (nI n)]))) := by
  have A := xA.of B.hs (Nat.zero_lt_succ _)
  have A1 := A.set (k := 7) (e1 := .inr (3, [.ref (10 + 1), .ref (10 + 2), .ref (10 + 3), .ref (10 + 4), .ref (10 + 5), .int (nI n)])) (Nat.le_of_ble_eq_true rfl)
  obtain ⟨B1, F1⟩ := B.now (scnt s n)
  have e : x_wr h 3 (x_ts 3 (scnt s n)) = h.set 10 (.inr (3, [.ref (10 + 1), .ref (10 + 2), .ref (10 + 3), .ref (10 + 4), .ref (10 + 5), .int (nI n)])) := A1.e
  rw [← e]
  exact ⟨B1, F1⟩
theorem m8_cnt (M : mW h nw pa sts rf tx byt) (hl : nw.length = 149) (n : Nat) : ∃ z', okZ z' ∧ xA h 122 (x_m (nw.set 118 (nI n)) pa sts rf tx byt z') (h.set 123 (xi (nw.set 118 (nI n)))) := by
  obtain ⟨z, hz, hb⟩ := M
  have A := xA.of hb (Nat.zero_lt_succ _)
  exact ⟨z, hz, A.set (k := 1) (e1 := xi (nw.set 118 (nI n))) (Nat.le_of_ble_eq_true rfl)⟩
theorem t_unhears (B : BR ys h) : TC ys h 97 99 [] := by
  obtain ⟨s, k, sh, nx, ct, tx, ln, rf, nw, pa, L, C, M, I⟩ := B
  obtain ⟨i1, i2, ⟨i3, i4, i5⟩, i6, i7, i8, i9⟩ := id I
  have h6 := i1.1.n6
  have hl := i1.2.1.1
  have hv := i1.1
  have hct := hv.ct
  have e118 := i1.e118
  have i118 := i1.i118
  by_cases h0 : 0 < sn s
  · have em : nI (sn s) - 1 = nI (sn s - 1) := nI_m h0
    refine TC_mk (r := .int (nI (sn s - 1))) L ?_ (fun h1 F => ?_) (INV_push I i1 (Rl_cnt (n := sn s - 1) i1 (by omega)) i2)
    · have B := C
      obtain ⟨h1, p1, B1, F1⟩ := c7_push B i3 i4 hv.1
      obtain ⟨B2, F2⟩ := c7_cnt B1 (sn s - 1)
      refine ⟨_, ?_, B2, F1.trans F2⟩
      refine xK_X7_unhears (B.hp 0 _ rfl) (xe_X7_unhears_0 ?_)
      (repeat (first | (simp only [xb_X7_unhears_0, xb_X7_unhears_20, xs_nil, Nat.reduceAdd, true_implies, not_true_eq_false, not_false_eq_true, false_implies, and_true, true_and, x_10, xs_aload_n_0, xs_if_ne, xs_bipush_m3, xs_ireturn, xs_dup_i, xs_dup_a, xs_iconst_1, xs_isub]) | (refine xr_getf (B.hp 0 _ rfl) (by rfl) ?_) | (refine xr_getf (B.hs 0 _ rfl) (by rfl) ?_) | (refine xr_getf (B.hs 1 _ rfl) (by rfl) ?_) | (refine xr_getf (B.hs 7 _ rfl) (by rfl) ?_)))
      rw [hct]
      refine ⟨fun _ => ?_, fun z => absurd (nI_ne0 h0 (by omega)) z⟩
      refine xe_X7_unhears_20 ?_
      (repeat (first | (simp only [xb_X7_unhears_0, xb_X7_unhears_20, xs_nil, Nat.reduceAdd, true_implies, not_true_eq_false, not_false_eq_true, false_implies, and_true, true_and, x_10, xs_aload_n_0, xs_if_ne, xs_bipush_m3, xs_ireturn, xs_dup_i, xs_dup_a, xs_iconst_1, xs_isub]) | (refine xr_getf (B.hp 0 _ rfl) (by rfl) ?_) | (refine xr_getf (B.hs 0 _ rfl) (by rfl) ?_) | (refine xr_getf (B.hs 1 _ rfl) (by rfl) ?_) | (refine xr_getf (B.hs 7 _ rfl) (by rfl) ?_) | refine xc_v2_0 (p1) (Nat.le_of_ble_eq_true rfl) ?_ | (refine xr_getf (B1.hp 0 _ rfl) (by rfl) ?_) | (refine xr_getf (B1.hs 0 _ rfl) (by rfl) ?_) | (refine xr_getf (B1.hs 7 _ rfl) (by rfl) ?_)))
      rw [hct, em]
      refine xr_putf (B1.hs 7 _ rfl) (by decide) (by exact Nat.le_of_ble_eq_true rfl) (x_fit_int _) ?_
      (repeat (first | (simp only [xb_X7_unhears_0, xb_X7_unhears_20, xs_nil, Nat.reduceAdd, true_implies, not_true_eq_false, not_false_eq_true, false_implies, and_true, true_and, x_10, xs_aload_n_0, xs_if_ne, xs_bipush_m3, xs_ireturn, xs_dup_i, xs_dup_a, xs_iconst_1, xs_isub]) | (refine xr_getf (B2.hp 0 _ rfl) (by rfl) ?_) | (refine xr_getf (B2.hs 0 _ rfl) (by rfl) ?_) | (refine xr_getf (B2.hs 7 _ rfl) (by rfl) ?_)))
      (first | exact ⟨Or.inl trivial, rfl⟩ | exact ⟨Or.inl trivial, rfl, rfl⟩ | (simp; done) | exact ⟨by simp, rfl⟩ | exact ⟨by simp, rfl, rfl⟩ | rfl)
    · have M := M.cF F
      obtain ⟨h2, p1, M1, F1⟩ := m8_remembers M i4 i6 hl
      obtain ⟨z2, hz2, A2⟩ := m8_cnt M1 hl (sn s - 1)
      obtain ⟨M3, F3⟩ := mW_A hz2 A2
      refine ⟨_, ?_, M3, F1.trans F3⟩
      obtain ⟨z, hz, hb⟩ := M
      obtain ⟨z1, hz1, hb1⟩ := M1
      have hb2 := A2.hb
      have g3 : xg (nw.set 118 (nI (sn s - 1))) 118 = nI (sn s - 1) := by
        rw [show (118 : Int32) = nI 118 from rfl, xg_n (by omega), gs_eq (by omega)]
      refine xK_X8_unhears (hb 0 _ rfl) (xe_X8_unhears_0 ?_)
      (repeat (first | (simp only [xb_X8_unhears_0, xb_X8_unhears_15, xs_nil, Nat.reduceAdd, true_implies, not_true_eq_false, not_false_eq_true, false_implies, and_true, true_and, x_10, xs_aload_n_0, xs_bipush_118, xs_if_ne, xs_ireturn, xs_dup2, xs_iconst_1, xs_isub]) | (refine xr_getf (hb 0 _ rfl) (by rfl) ?_) | (refine xr_iaload (hb 1 _ rfl) i118 ?_)))
      rw [e118]
      refine ⟨fun _ => ?_, fun z => absurd (nI_ne0 h0 (by omega)) z⟩
      refine xe_X8_unhears_15 ?_
      (repeat (first | (simp only [xb_X8_unhears_0, xb_X8_unhears_15, xs_nil, Nat.reduceAdd, true_implies, not_true_eq_false, not_false_eq_true, false_implies, and_true, true_and, x_10, xs_aload_n_0, xs_bipush_118, xs_if_ne, xs_ireturn, xs_dup2, xs_iconst_1, xs_isub]) | refine xc_v1_0 (p1) (Nat.le_of_ble_eq_true rfl) ?_ | (refine xr_getf (hb1 0 _ rfl) (by rfl) ?_) | (refine xr_iaload (hb1 1 _ rfl) i118 ?_)))
      rw [e118, em]
      refine xr_iastore (hb1 1 _ rfl) (by decide) i118 ?_
      rw [show (118 : Int32) = nI 118 from rfl, xu_n (by omega)]
      (repeat (first | (simp only [xb_X8_unhears_0, xb_X8_unhears_15, xs_nil, Nat.reduceAdd, true_implies, not_true_eq_false, not_false_eq_true, false_implies, and_true, true_and, x_10, xs_aload_n_0, xs_bipush_118, xs_if_ne, xs_ireturn, xs_dup2, xs_iconst_1, xs_isub]) | (refine xr_getf (hb2 0 _ rfl) (by rfl) ?_) | (refine xr_iaload (hb2 1 _ rfl) (by rw [List.length_set]; exact i118) ?_)))
      rw [g3]
      (first | exact ⟨Or.inl trivial, rfl⟩ | exact ⟨Or.inl trivial, rfl, rfl⟩ | (simp; done) | exact ⟨by simp, rfl⟩ | exact ⟨by simp, rfl, rfl⟩ | rfl)
  · have hn0 : sn s = 0 := by omega
    refine TC_mk (r := .int (-3)) L ?_ (fun h1 F => ?_) (INV_rf (i := 1) I)
    · have B := C
      obtain ⟨h1, p1, B1, F1⟩ := c7_no C i9
      refine ⟨h1, ?_, B1, F1⟩
      refine xK_X7_unhears (B.hp 0 _ rfl) (xe_X7_unhears_0 ?_)
      (repeat (first | (simp only [xb_X7_unhears_0, xb_X7_unhears_20, xs_nil, Nat.reduceAdd, true_implies, not_true_eq_false, not_false_eq_true, false_implies, and_true, true_and, x_10, xs_aload_n_0, xs_if_ne, xs_bipush_m3, xs_ireturn, xs_dup_i, xs_dup_a, xs_iconst_1, xs_isub]) | (refine xr_getf (B.hp 0 _ rfl) (by rfl) ?_) | (refine xr_getf (B.hs 0 _ rfl) (by rfl) ?_) | (refine xr_getf (B.hs 1 _ rfl) (by rfl) ?_) | (refine xr_getf (B.hs 7 _ rfl) (by rfl) ?_)))
      rw [hct, hn0]
      refine ⟨fun z => absurd rfl z, fun _ => ?_⟩
      (repeat (first | (simp only [xb_X7_unhears_0, xb_X7_unhears_20, xs_nil, Nat.reduceAdd, true_implies, not_true_eq_false, not_false_eq_true, false_implies, and_true, true_and, x_10, xs_aload_n_0, xs_if_ne, xs_bipush_m3, xs_ireturn, xs_dup_i, xs_dup_a, xs_iconst_1, xs_isub]) | refine xc_v2_1 (p1) (Nat.le_of_ble_eq_true rfl) ?_))
      (first | exact ⟨Or.inl trivial, rfl⟩ | exact ⟨Or.inl trivial, rfl, rfl⟩ | (simp; done) | exact ⟨by simp, rfl⟩ | exact ⟨by simp, rfl, rfl⟩ | rfl)
    · have M := M.cF F
      obtain ⟨h2, p1, M1, F1⟩ := m8_no M i9
      refine ⟨h2, ?_, M1, F1⟩
      obtain ⟨z, hz, hb⟩ := M
      refine xK_X8_unhears (hb 0 _ rfl) (xe_X8_unhears_0 ?_)
      (repeat (first | (simp only [xb_X8_unhears_0, xb_X8_unhears_15, xs_nil, Nat.reduceAdd, true_implies, not_true_eq_false, not_false_eq_true, false_implies, and_true, true_and, x_10, xs_aload_n_0, xs_bipush_118, xs_if_ne, xs_ireturn, xs_dup2, xs_iconst_1, xs_isub]) | (refine xr_getf (hb 0 _ rfl) (by rfl) ?_) | (refine xr_iaload (hb 1 _ rfl) i118 ?_)))
      rw [e118, hn0]
      refine ⟨fun z => absurd rfl z, fun _ => ?_⟩
      (repeat (first | (simp only [xb_X8_unhears_0, xb_X8_unhears_15, xs_nil, Nat.reduceAdd, true_implies, not_true_eq_false, not_false_eq_true, false_implies, and_true, true_and, x_10, xs_aload_n_0, xs_bipush_118, xs_if_ne, xs_ireturn, xs_dup2, xs_iconst_1, xs_isub]) | refine xc_v1_1 (p1) (Nat.le_of_ble_eq_true rfl) ?_))
      (first | exact ⟨Or.inl trivial, rfl⟩ | exact ⟨Or.inl trivial, rfl, rfl⟩ | (simp; done) | exact ⟨by simp, rfl⟩ | exact ⟨by simp, rfl, rfl⟩ | rfl)
theorem t_silence (B : BR ys h) : TC ys h 100 101 [] := by
  obtain ⟨s, k, sh, nx, ct, tx, ln, rf, nw, pa, L, C, M, I⟩ := B
  obtain ⟨i1, i2, ⟨i3, i4, i5⟩, i6, i7, i8, i9⟩ := id I
  have h6 := i1.1.n6
  have hl := i1.2.1.1
  have hv := i1.1
  have hct := hv.ct
  have e118 := i1.e118
  have i118 := i1.i118
  refine TC_mk (r := .int (nI (sn s))) L ?_ (fun h1 F => ?_) (INV_push I i1 (Rl_cnt (n := 0) i1 (by omega)) i2)
  · have B := C
    obtain ⟨h1, p1, B1, F1⟩ := c7_push B i3 i4 hv.1
    obtain ⟨B2, F2⟩ := c7_cnt B1 0
    refine ⟨_, ?_, B2, F1.trans F2⟩
    refine xK_X7_silence (B.hp 0 _ rfl) (xe_X7_silence_0 ?_)
    (repeat (first | (simp only [xb_X7_silence_0, xs_nil, Nat.reduceAdd, true_implies, not_true_eq_false, not_false_eq_true, false_implies, and_true, true_and, x_10, xs_aload_n_0, xs_istore_n_1_i, xs_istore_n_1_a, xs_istore_n_1_n, xs_istore_n_1_l, xs_iconst_0, xs_iload_n_1, xs_ireturn]) | (refine xr_getf (B.hp 0 _ rfl) (by rfl) ?_) | (refine xr_getf (B.hs 0 _ rfl) (by rfl) ?_) | (refine xr_getf (B.hs 1 _ rfl) (by rfl) ?_) | (refine xr_getf (B.hs 7 _ rfl) (by rfl) ?_) | refine xc_v2_0 (p1) (Nat.le_of_ble_eq_true rfl) ?_ | (refine xr_getf (B1.hp 0 _ rfl) (by rfl) ?_) | (refine xr_getf (B1.hs 0 _ rfl) (by rfl) ?_) | (refine xr_getf (B1.hs 7 _ rfl) (by rfl) ?_)))
    refine xr_putf (B1.hs 7 _ rfl) (by decide) (by exact Nat.le_of_ble_eq_true rfl) (x_fit_int _) ?_
    (repeat (first | (simp only [xb_X7_silence_0, xs_nil, Nat.reduceAdd, true_implies, not_true_eq_false, not_false_eq_true, false_implies, and_true, true_and, x_10, xs_aload_n_0, xs_istore_n_1_i, xs_istore_n_1_a, xs_istore_n_1_n, xs_istore_n_1_l, xs_iconst_0, xs_iload_n_1, xs_ireturn]) ))
    rw [hct]
    (first | exact ⟨Or.inl trivial, rfl⟩ | exact ⟨Or.inl trivial, rfl, rfl⟩ | (simp; done) | exact ⟨by simp, rfl⟩ | exact ⟨by simp, rfl, rfl⟩ | rfl)
  · have M := M.cF F
    obtain ⟨h2, p1, M1, F1⟩ := m8_remembers M i4 i6 hl
    obtain ⟨z2, hz2, A2⟩ := m8_cnt M1 hl 0
    obtain ⟨M3, F3⟩ := mW_A hz2 A2
    refine ⟨_, ?_, M3, F1.trans F3⟩
    obtain ⟨z, hz, hb⟩ := M
    obtain ⟨z1, hz1, hb1⟩ := M1
    refine xK_X8_silence (hb 0 _ rfl) (xe_X8_silence_0 ?_)
    (repeat (first | (simp only [xb_X8_silence_0, xs_nil, Nat.reduceAdd, true_implies, not_true_eq_false, not_false_eq_true, false_implies, and_true, true_and, x_10, xs_aload_n_0, xs_bipush_118, xs_istore_n_1_i, xs_istore_n_1_a, xs_istore_n_1_n, xs_istore_n_1_l, xs_iconst_0, xs_iload_n_1, xs_ireturn]) | refine xc_v1_0 (p1) (Nat.le_of_ble_eq_true rfl) ?_ | (refine xr_getf (hb1 0 _ rfl) (by rfl) ?_) | (refine xr_iaload (hb1 1 _ rfl) i118 ?_)))
    rw [e118]
    refine xr_iastore (hb1 1 _ rfl) (by decide) i118 ?_
    rw [show (118 : Int32) = nI 118 from rfl, xu_n (by omega)]
    (repeat (first | (simp only [xb_X8_silence_0, xs_nil, Nat.reduceAdd, true_implies, not_true_eq_false, not_false_eq_true, false_implies, and_true, true_and, x_10, xs_aload_n_0, xs_bipush_118, xs_istore_n_1_i, xs_istore_n_1_a, xs_istore_n_1_n, xs_istore_n_1_l, xs_iconst_0, xs_iload_n_1, xs_ireturn]) ))
    (first | exact ⟨Or.inl trivial, rfl⟩ | exact ⟨Or.inl trivial, rfl, rfl⟩ | (simp; done) | exact ⟨by simp, rfl⟩ | exact ⟨by simp, rfl, rfl⟩ | rfl)
theorem en_hear {s : kS} {k : kC} {e : Int32} : sen (khear s k e).1 = xu (sen s) (sct s + 1) e ∧ sne (khear s k e).1 = sne s := by
  unfold khear kheard
  split
  · exact ⟨rfl, rfl⟩
  · dsimp only
    split <;> exact ⟨rfl, rfl⟩
theorem kanew_en {s : kS} {k : kC} (hv : sv s) (hc : kcok k) : ∀ q, q ≤ 6 → sen (kanew s k q).1 = sen s ∧ sne (kanew s k q).1 = sne s
  | 0, _ => ⟨rfl, rfl⟩
  | q + 1, hq => by
    obtain ⟨i1, i2⟩ := kanew_en hv hc q (by omega)
    obtain ⟨q1, q2, q3⟩ := kanew_ok hv hc q (by omega)
    have e : kanew s k (q + 1) = khear (kanew s k q).1 (kanew s k q).2 ((sen (kanew s k q).1).getD (q + 1) 0) := rfl
    rw [e]
    obtain ⟨a, b⟩ := en_hear (s := (kanew s k q).1) (k := (kanew s k q).2) (e := (sen (kanew s k q).1).getD (q + 1) 0)
    refine ⟨?_, by rw [b, i2]⟩
    rw [a, q1.ct, nI_1, q2, xu_n (by omega), i1]
    apply List.ext_getElem?
    intro i
    by_cases hi : i = q + 1
    · subst hi
      rw [List.getElem?_set_self (by rw [hv.len]; omega), List.getD_eq_getElem?_getD, List.getElem?_eq_getElem (by rw [hv.len]; omega)]
      rfl
    · rw [List.getElem?_set_ne (Ne.symm hi)]
/-- the reference hears all anew -/
theorem l_rereads (hv : sv s) (hc : kcok k) (hE : ∀ w, 1 ≤ w → w ≤ sn s → ∃ e, e < sne s ∧ (sen s).getD w 0 = nI e) :
    ∀ (d q : Nat) (h : xH) (nw' : List Int32), mW h nw' pa sts rf tx byt → Rl (kanew s k q).1 nw' → ch0 (kanew s k q).2.2.1 → q + d = sn s → ∃ h2 nw2, mW h2 nw2 pa sts rf tx byt ∧ Rl (kanew s k (sn s)).1 nw2 ∧ ch0 (kanew s k (sn s)).2.2.1 ∧ mF h h2 ∧ ∀ (rr : Option Value) (hh : xH), x_EV 107 47 [some (.ref 122), some (.int (nI (sn s))), some (.int (nI (sn s + 1)))] [] h2 rr hh → x_EV 107 22 [some (.ref 122), some (.int (nI (sn s))), some (.int (nI (q + 1)))] [] h rr hh := by
  have h6 := hv.n6
  intro d
  induction d with
  | zero =>
    intro q h nw' M hR hk hq
    have eq : q = sn s := by omega
    subst eq
    refine ⟨h, nw', M, hR, hk, mF.refl h, fun rr hh H => ?_⟩
    refine xe_X8_rereads_22 ?_
    (repeat (first | (simp only [xb_X8_rereads_0, xb_X8_rereads_22, xb_X8_rereads_47, xb_X8_rereads_58, xb_X8_rereads_63, xs_nil, Nat.reduceAdd, true_implies, not_true_eq_false, not_false_eq_true, false_implies, and_true, true_and, x_10, xs_aload_n_0, xs_bipush_118, xs_istore_n_1_i, xs_istore_n_1_a, xs_istore_n_1_n, xs_istore_n_1_l, xs_iconst_0, xs_iconst_1, xs_istore_n_2_i, xs_istore_n_2_a, xs_istore_n_2_n, xs_istore_n_2_l, xs_iload_n_2, xs_iload_n_1, xs_icmp_gt, xs_iinc_2_1_i, xs_iinc_2_1_a, xs_iinc_2_1_n, xs_goto, xs_if_eq, xs_iconst_m1, xs_iconst_2, xs_ireturn]) ))
    exact ⟨fun _ => H, fun z => absurd (nI_lt (by omega) (by omega)) z⟩
  | succ d ih =>
    intro q h nw' M hR hk hq
    obtain ⟨q1, q2, q3⟩ := kanew_ok hv hc q (by omega)
    obtain ⟨j, hj, ej⟩ := hE (q + 1) (by omega) (by omega)
    obtain ⟨n1, n2⟩ := kanew_en hv hc q (by omega)
    rw [← n1] at ej
    rw [← n2] at hj
    have eK : kanew s k (q + 1) = khear (kanew s k q).1 (kanew s k q).2 (nI j) := by
      have e : kanew s k (q + 1) = khear (kanew s k q).1 (kanew s k q).2 ((sen (kanew s k q).1).getD (q + 1) 0) := rfl
      rw [ej] at e
      exact e
    obtain ⟨nw2, h2, p, M2, F2, R2, K2⟩ := m8_listens (j := j) M hR q3 hk hj (by omega)
    rw [← eK] at R2 K2
    obtain ⟨h3, nw3, M3, R3, K3, F3, H3⟩ := ih (q + 1) h2 nw2 M2 R2 K2 (by omega)
    refine ⟨h3, nw3, M3, R3, K3, F2.trans F3, fun rr hh H => ?_⟩
    have := H3 rr hh H
    obtain ⟨z, hz, hb⟩ := M
    have ew : xg nw' (119 + 5 * (nI (q + 1) - 1)) = nI j := by
      rw [wp_n (by omega), xg_n (by omega), show q + 1 - 1 = q by omega, hR.2.1.2.2.2.2.2.2.2 q (by omega)]
      exact ej
    refine xe_X8_rereads_22 ?_
    (repeat (first | (simp only [xb_X8_rereads_0, xb_X8_rereads_22, xb_X8_rereads_47, xb_X8_rereads_58, xb_X8_rereads_63, xs_nil, Nat.reduceAdd, true_implies, not_true_eq_false, not_false_eq_true, false_implies, and_true, true_and, x_10, xs_aload_n_0, xs_bipush_118, xs_istore_n_1_i, xs_istore_n_1_a, xs_istore_n_1_n, xs_istore_n_1_l, xs_iconst_0, xs_iconst_1, xs_istore_n_2_i, xs_istore_n_2_a, xs_istore_n_2_n, xs_istore_n_2_l, xs_iload_n_2, xs_iload_n_1, xs_icmp_gt, xs_iinc_2_1_i, xs_iinc_2_1_a, xs_iinc_2_1_n, xs_goto, xs_if_eq, xs_iconst_m1, xs_iconst_2, xs_ireturn]) ))
    refine ⟨fun z => absurd z (nI_nlt (by omega) (by omega)), fun _ => ?_⟩
    (repeat (first | (simp only [xb_X8_rereads_0, xb_X8_rereads_22, xb_X8_rereads_47, xb_X8_rereads_58, xb_X8_rereads_63, xs_nil, Nat.reduceAdd, true_implies, not_true_eq_false, not_false_eq_true, false_implies, and_true, true_and, x_10, xs_aload_n_0, xs_bipush_118, xs_istore_n_1_i, xs_istore_n_1_a, xs_istore_n_1_n, xs_istore_n_1_l, xs_iconst_0, xs_iconst_1, xs_istore_n_2_i, xs_istore_n_2_a, xs_istore_n_2_n, xs_istore_n_2_l, xs_iload_n_2, xs_iload_n_1, xs_icmp_gt, xs_iinc_2_1_i, xs_iinc_2_1_a, xs_iinc_2_1_n, xs_goto, xs_if_eq, xs_iconst_m1, xs_iconst_2, xs_ireturn]) | (refine xr_getf (hb 0 _ rfl) (by rfl) ?_) | refine xc_v2_1 (c_wordAt (hb 0 _ rfl)) (Nat.le_of_ble_eq_true rfl) ?_ | (refine xr_iaload (hb 1 _ rfl) (by rw [wp_n (by omega), hR.2.1.1]; exact x_in (by omega) (by decide)) ?_)))
    rw [ew]
    (repeat (first | (simp only [xb_X8_rereads_0, xb_X8_rereads_22, xb_X8_rereads_47, xb_X8_rereads_58, xb_X8_rereads_63, xs_nil, Nat.reduceAdd, true_implies, not_true_eq_false, not_false_eq_true, false_implies, and_true, true_and, x_10, xs_aload_n_0, xs_bipush_118, xs_istore_n_1_i, xs_istore_n_1_a, xs_istore_n_1_n, xs_istore_n_1_l, xs_iconst_0, xs_iconst_1, xs_istore_n_2_i, xs_istore_n_2_a, xs_istore_n_2_n, xs_istore_n_2_l, xs_iload_n_2, xs_iload_n_1, xs_icmp_gt, xs_iinc_2_1_i, xs_iinc_2_1_a, xs_iinc_2_1_n, xs_goto, xs_if_eq, xs_iconst_m1, xs_iconst_2, xs_ireturn]) | refine xc_v2_0 (p) (Nat.le_of_ble_eq_true rfl) ?_))
    rw [nI_1]
    exact this
theorem t_rereads (B : BR ys h) : TC ys h 104 107 [] := by
  obtain ⟨s, k, sh, nx, ct, tx, ln, rf, nw, pa, L, C, M, I⟩ := B
  obtain ⟨i1, i2, ⟨i3, i4, i5⟩, i6, i7, i8, i9⟩ := id I
  have h6 := i1.1.n6
  have hl := i1.2.1.1
  have hv := i1.1
  have hct := hv.ct
  have e118 := i1.e118
  have i118 := i1.i118
  obtain ⟨q1, q2, q3⟩ := kanew_ok hv i2.1 (sn s) h6
  refine TC_mk2 (r := .int (if kstuck (kanew s k (sn s)).1 = true then -1 else xsum (ssu (kanew s k (sn s)).1) (sn s))) (s' := (kanew s k (sn s)).1) (k' := (kanew s k (sn s)).2) (sh' := shp sh nx s) (nx' := (nx + 1) % 6) (ct' := min (ct + 1) 6) (tx' := tx) (ln' := ln) (rf' := rf) L ?_ (fun h1 F => ?_)
  · have B := C
    obtain ⟨h1, p1, B1, F1⟩ := c7_push B i3 i4 hv.1
    obtain ⟨h2, p2, B2, F2⟩ := c7_anew B1 hv i2.1
    have c2 := c7_isStuck B2 q1
    have c3 := c_sumOfStumbles (x_tc_s B2.hs) (by rw [q1.ct, q2]) (by rw [q1.lsu]; omega) (by rw [q1.lsu]; decide)
    refine ⟨h2, ?_, B2, F1.trans F2⟩
    refine xK_X7_rereads (B.hp 0 _ rfl) (xe_X7_rereads_0 ?_)
    (repeat (first | (simp only [xb_X7_rereads_0, xb_X7_rereads_39, xb_X7_rereads_49, xs_nil, Nat.reduceAdd, true_implies, not_true_eq_false, not_false_eq_true, false_implies, and_true, true_and, x_10, xs_aload_n_0, xs_if_eq, xs_iconst_m1, xs_goto, xs_ireturn]) | (refine xr_getf (B.hp 0 _ rfl) (by rfl) ?_) | (refine xr_getf (B.hs 0 _ rfl) (by rfl) ?_) | (refine xr_getf (B.hs 1 _ rfl) (by rfl) ?_) | (refine xr_getf (B.hs 7 _ rfl) (by rfl) ?_) | refine xc_v2_0 (p1) (Nat.le_of_ble_eq_true rfl) ?_ | (refine xr_getf (B1.hp 0 _ rfl) (by rfl) ?_) | refine xc_v2_0 (p2) (Nat.le_of_ble_eq_true rfl) ?_ | (refine xr_getf (B2.hp 0 _ rfl) (by rfl) ?_) | (refine xr_getf (B2.hs 0 _ rfl) (by rfl) ?_) | refine xc_v1_1 (c2) (Nat.le_of_ble_eq_true rfl) ?_))
    by_cases hs : kstuck (kanew s k (sn s)).1 = true
    · rw [if_pos hs, if_pos hs]
      (repeat (first | (simp only [xb_X7_rereads_0, xb_X7_rereads_39, xb_X7_rereads_49, xs_nil, Nat.reduceAdd, true_implies, not_true_eq_false, not_false_eq_true, false_implies, and_true, true_and, x_10, xs_aload_n_0, xs_if_eq, xs_iconst_m1, xs_goto, xs_ireturn]) ))
      refine xe_X7_rereads_49 ?_
      (repeat (first | (simp only [xb_X7_rereads_0, xb_X7_rereads_39, xb_X7_rereads_49, xs_nil, Nat.reduceAdd, true_implies, not_true_eq_false, not_false_eq_true, false_implies, and_true, true_and, x_10, xs_aload_n_0, xs_if_eq, xs_iconst_m1, xs_goto, xs_ireturn]) ))
      (first | exact ⟨Or.inl trivial, rfl⟩ | exact ⟨Or.inl trivial, rfl, rfl⟩ | (simp; done) | exact ⟨by simp, rfl⟩ | exact ⟨by simp, rfl, rfl⟩ | rfl)
    · rw [if_neg hs, if_neg hs]
      (repeat (first | (simp only [xb_X7_rereads_0, xb_X7_rereads_39, xb_X7_rereads_49, xs_nil, Nat.reduceAdd, true_implies, not_true_eq_false, not_false_eq_true, false_implies, and_true, true_and, x_10, xs_aload_n_0, xs_if_eq, xs_iconst_m1, xs_goto, xs_ireturn]) ))
      refine xe_X7_rereads_39 ?_
      (repeat (first | (simp only [xb_X7_rereads_0, xb_X7_rereads_39, xb_X7_rereads_49, xs_nil, Nat.reduceAdd, true_implies, not_true_eq_false, not_false_eq_true, false_implies, and_true, true_and, x_10, xs_aload_n_0, xs_if_eq, xs_iconst_m1, xs_goto, xs_ireturn]) | (refine xr_getf (B2.hp 0 _ rfl) (by rfl) ?_) | (refine xr_getf (B2.hs 0 _ rfl) (by rfl) ?_) | refine xc_v1_1 (c3) (Nat.le_of_ble_eq_true rfl) ?_))
      refine xe_X7_rereads_49 ?_
      (repeat (first | (simp only [xb_X7_rereads_0, xb_X7_rereads_39, xb_X7_rereads_49, xs_nil, Nat.reduceAdd, true_implies, not_true_eq_false, not_false_eq_true, false_implies, and_true, true_and, x_10, xs_aload_n_0, xs_if_eq, xs_iconst_m1, xs_goto, xs_ireturn]) ))
      (first | exact ⟨Or.inl trivial, rfl⟩ | exact ⟨Or.inl trivial, rfl, rfl⟩ | (simp; done) | exact ⟨by simp, rfl⟩ | exact ⟨by simp, rfl, rfl⟩ | rfl)
  · have M := M.cF F
    obtain ⟨h2, p1, M1, F1⟩ := m8_remembers M i4 i6 hl
    obtain ⟨z2, hz2, A2⟩ := m8_cnt M1 hl 0
    obtain ⟨M3, F3⟩ := mW_A hz2 A2
    have R0 : Rl (kanew s k 0).1 (nw.set 118 (nI 0)) := Rl_cnt (n := 0) i1 (by omega)
    obtain ⟨h4, nw4, M4, R4, K4, F4, H4⟩ := l_rereads hv i2.1 (fun w a b => (i1.2.2.2.2 w a b).2.2.2.2) (sn s) 0 _ _ M3 R0 i2.2 (by omega)
    have c2 := m8_isStuck M4 R4
    have c3 := m8_sumOf (x := 2) M4 R4 (Or.inr rfl)
    rw [q2] at c3
    have c3' : xK 106 [.ref 122, .int 2] h4 (some (.int (xsum (ssu (kanew s k (sn s)).1) (sn s)))) h4 := by
      rw [← (Rl_sum R4 (sn s) (by omega)).1]
      exact c3
    refine ⟨h4, nw4, remem pa nw ct, ?_, M4, (F1.trans F3).trans F4, INV_push I i1 R4 ⟨q3, K4⟩⟩
    obtain ⟨z, hz, hb⟩ := M
    obtain ⟨z1, hz1, hb1⟩ := M1
    refine xK_X8_rereads (hb 0 _ rfl) (xe_X8_rereads_0 ?_)
    (repeat (first | (simp only [xb_X8_rereads_0, xb_X8_rereads_22, xb_X8_rereads_47, xb_X8_rereads_58, xb_X8_rereads_63, xs_nil, Nat.reduceAdd, true_implies, not_true_eq_false, not_false_eq_true, false_implies, and_true, true_and, x_10, xs_aload_n_0, xs_bipush_118, xs_istore_n_1_i, xs_istore_n_1_a, xs_istore_n_1_n, xs_istore_n_1_l, xs_iconst_0, xs_iconst_1, xs_istore_n_2_i, xs_istore_n_2_a, xs_istore_n_2_n, xs_istore_n_2_l, xs_iload_n_2, xs_iload_n_1, xs_icmp_gt, xs_iinc_2_1_i, xs_iinc_2_1_a, xs_iinc_2_1_n, xs_goto, xs_if_eq, xs_iconst_m1, xs_iconst_2, xs_ireturn]) | refine xc_v1_0 (p1) (Nat.le_of_ble_eq_true rfl) ?_ | (refine xr_getf (hb1 0 _ rfl) (by rfl) ?_) | (refine xr_iaload (hb1 1 _ rfl) i118 ?_)))
    rw [e118]
    refine xr_iastore (hb1 1 _ rfl) (by decide) i118 ?_
    rw [show (118 : Int32) = nI 118 from rfl, xu_n (by omega)]
    (repeat (first | (simp only [xb_X8_rereads_0, xb_X8_rereads_22, xb_X8_rereads_47, xb_X8_rereads_58, xb_X8_rereads_63, xs_nil, Nat.reduceAdd, true_implies, not_true_eq_false, not_false_eq_true, false_implies, and_true, true_and, x_10, xs_aload_n_0, xs_bipush_118, xs_istore_n_1_i, xs_istore_n_1_a, xs_istore_n_1_n, xs_istore_n_1_l, xs_iconst_0, xs_iconst_1, xs_istore_n_2_i, xs_istore_n_2_a, xs_istore_n_2_n, xs_istore_n_2_l, xs_iload_n_2, xs_iload_n_1, xs_icmp_gt, xs_iinc_2_1_i, xs_iinc_2_1_a, xs_iinc_2_1_n, xs_goto, xs_if_eq, xs_iconst_m1, xs_iconst_2, xs_ireturn]) ))
    refine H4 _ _ ?_
    refine xe_X8_rereads_47 ?_
    (repeat (first | (simp only [xb_X8_rereads_0, xb_X8_rereads_22, xb_X8_rereads_47, xb_X8_rereads_58, xb_X8_rereads_63, xs_nil, Nat.reduceAdd, true_implies, not_true_eq_false, not_false_eq_true, false_implies, and_true, true_and, x_10, xs_aload_n_0, xs_bipush_118, xs_istore_n_1_i, xs_istore_n_1_a, xs_istore_n_1_n, xs_istore_n_1_l, xs_iconst_0, xs_iconst_1, xs_istore_n_2_i, xs_istore_n_2_a, xs_istore_n_2_n, xs_istore_n_2_l, xs_iload_n_2, xs_iload_n_1, xs_icmp_gt, xs_iinc_2_1_i, xs_iinc_2_1_a, xs_iinc_2_1_n, xs_goto, xs_if_eq, xs_iconst_m1, xs_iconst_2, xs_ireturn]) | refine xc_v1_1 (c2) (Nat.le_of_ble_eq_true rfl) ?_))
    by_cases hs : kstuck (kanew s k (sn s)).1 = true
    · rw [if_pos hs, if_pos hs]
      (repeat (first | (simp only [xb_X8_rereads_0, xb_X8_rereads_22, xb_X8_rereads_47, xb_X8_rereads_58, xb_X8_rereads_63, xs_nil, Nat.reduceAdd, true_implies, not_true_eq_false, not_false_eq_true, false_implies, and_true, true_and, x_10, xs_aload_n_0, xs_bipush_118, xs_istore_n_1_i, xs_istore_n_1_a, xs_istore_n_1_n, xs_istore_n_1_l, xs_iconst_0, xs_iconst_1, xs_istore_n_2_i, xs_istore_n_2_a, xs_istore_n_2_n, xs_istore_n_2_l, xs_iload_n_2, xs_iload_n_1, xs_icmp_gt, xs_iinc_2_1_i, xs_iinc_2_1_a, xs_iinc_2_1_n, xs_goto, xs_if_eq, xs_iconst_m1, xs_iconst_2, xs_ireturn]) ))
      refine xe_X8_rereads_63 ?_
      (repeat (first | (simp only [xb_X8_rereads_0, xb_X8_rereads_22, xb_X8_rereads_47, xb_X8_rereads_58, xb_X8_rereads_63, xs_nil, Nat.reduceAdd, true_implies, not_true_eq_false, not_false_eq_true, false_implies, and_true, true_and, x_10, xs_aload_n_0, xs_bipush_118, xs_istore_n_1_i, xs_istore_n_1_a, xs_istore_n_1_n, xs_istore_n_1_l, xs_iconst_0, xs_iconst_1, xs_istore_n_2_i, xs_istore_n_2_a, xs_istore_n_2_n, xs_istore_n_2_l, xs_iload_n_2, xs_iload_n_1, xs_icmp_gt, xs_iinc_2_1_i, xs_iinc_2_1_a, xs_iinc_2_1_n, xs_goto, xs_if_eq, xs_iconst_m1, xs_iconst_2, xs_ireturn]) ))
      (first | exact ⟨Or.inl trivial, rfl⟩ | exact ⟨Or.inl trivial, rfl, rfl⟩ | (simp; done) | exact ⟨by simp, rfl⟩ | exact ⟨by simp, rfl, rfl⟩ | rfl)
    · rw [if_neg hs, if_neg hs]
      (repeat (first | (simp only [xb_X8_rereads_0, xb_X8_rereads_22, xb_X8_rereads_47, xb_X8_rereads_58, xb_X8_rereads_63, xs_nil, Nat.reduceAdd, true_implies, not_true_eq_false, not_false_eq_true, false_implies, and_true, true_and, x_10, xs_aload_n_0, xs_bipush_118, xs_istore_n_1_i, xs_istore_n_1_a, xs_istore_n_1_n, xs_istore_n_1_l, xs_iconst_0, xs_iconst_1, xs_istore_n_2_i, xs_istore_n_2_a, xs_istore_n_2_n, xs_istore_n_2_l, xs_iload_n_2, xs_iload_n_1, xs_icmp_gt, xs_iinc_2_1_i, xs_iinc_2_1_a, xs_iinc_2_1_n, xs_goto, xs_if_eq, xs_iconst_m1, xs_iconst_2, xs_ireturn]) ))
      refine xe_X8_rereads_58 ?_
      (repeat (first | (simp only [xb_X8_rereads_0, xb_X8_rereads_22, xb_X8_rereads_47, xb_X8_rereads_58, xb_X8_rereads_63, xs_nil, Nat.reduceAdd, true_implies, not_true_eq_false, not_false_eq_true, false_implies, and_true, true_and, x_10, xs_aload_n_0, xs_bipush_118, xs_istore_n_1_i, xs_istore_n_1_a, xs_istore_n_1_n, xs_istore_n_1_l, xs_iconst_0, xs_iconst_1, xs_istore_n_2_i, xs_istore_n_2_a, xs_istore_n_2_n, xs_istore_n_2_l, xs_iload_n_2, xs_iload_n_1, xs_icmp_gt, xs_iinc_2_1_i, xs_iinc_2_1_a, xs_iinc_2_1_n, xs_goto, xs_if_eq, xs_iconst_m1, xs_iconst_2, xs_ireturn]) | refine xc_v2_1 (c3') (Nat.le_of_ble_eq_true rfl) ?_))
      refine xe_X8_rereads_63 ?_
      (repeat (first | (simp only [xb_X8_rereads_0, xb_X8_rereads_22, xb_X8_rereads_47, xb_X8_rereads_58, xb_X8_rereads_63, xs_nil, Nat.reduceAdd, true_implies, not_true_eq_false, not_false_eq_true, false_implies, and_true, true_and, x_10, xs_aload_n_0, xs_bipush_118, xs_istore_n_1_i, xs_istore_n_1_a, xs_istore_n_1_n, xs_istore_n_1_l, xs_iconst_0, xs_iconst_1, xs_istore_n_2_i, xs_istore_n_2_a, xs_istore_n_2_n, xs_istore_n_2_l, xs_iload_n_2, xs_iload_n_1, xs_icmp_gt, xs_iinc_2_1_i, xs_iinc_2_1_a, xs_iinc_2_1_n, xs_goto, xs_if_eq, xs_iconst_m1, xs_iconst_2, xs_ireturn]) ))
      (first | exact ⟨Or.inl trivial, rfl⟩ | exact ⟨Or.inl trivial, rfl, rfl⟩ | (simp; done) | exact ⟨by simp, rfl⟩ | exact ⟨by simp, rfl, rfl⟩ | rfl)
end PG
