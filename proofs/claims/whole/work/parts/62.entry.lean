/-! entry, rule, of -/
theorem le_pred {x : Int32} {n : Nat} (hn : n ≤ 12) : (0 ≤ x ∧ x ≤ nI n - 1) ↔ (0 ≤ x ∧ x < nI n) := by
  by_cases h0 : n = 0
  · subst h0
    have e1 : (nI 0 - 1 : Int32) = -1 := by decide
    have e2 : nI 0 = 0 := rfl
    rw [e1, e2]
    simp only [Int32.lt_iff_toInt_lt, Int32.le_iff_toInt_le]
    have e3 : (-1 : Int32).toInt = -1 := by decide
    have e4 : (0 : Int32).toInt = 0 := by decide
    omega
  · rw [nI_m (by omega)]
    refine ⟨fun h => ⟨h.1, ?_⟩, fun h => ⟨h.1, ?_⟩⟩
    · obtain ⟨j, hj, rfl⟩ := nI_rngle (n := n - 1) rfl (by omega) h.1 h.2
      exact nI_lt (by omega) (by omega)
    · obtain ⟨j, hj, rfl⟩ := nI_rng (n := n) rfl (by omega) h.1 h.2
      exact nI_le (by omega) (by omega)
abbrev entC (x1 x2 x3 : Int32) : Prop := ((0 ≤ x1 ∧ x1 < 6) ∧ (x2 = -1 ∨ 0 ≤ x2 ∧ x2 < 6) ∧ ¬ x2 = x1) ∧ (if x2 = -1 then x3 = 0 else 0 ≤ x3 ∧ x3 ≤ 9)
theorem ent_iff {x1 x2 x3 : Int32} : ((0 ≤ x1 ∧ x1 ≤ 5) ∧ (0 ≤ x3 ∧ x3 ≤ 9) ∧ (((0 ≤ x2 ∧ x2 ≤ 5) ∧ ¬ x2 = x1) ∨ x2 = -1 ∧ x3 = 0)) ↔ entC x1 x2 x3 := by
  unfold entC
  rw [lt_le6, lt_le6]
  by_cases h : x2 = -1
  · subst h
    rw [if_pos rfl]
    refine ⟨fun z => ⟨⟨z.1, Or.inl rfl, fun e => ?_⟩, ?_⟩, fun z => ⟨z.1.1, ?_, Or.inr ⟨rfl, z.2⟩⟩⟩
    · rw [← e] at z
      exact absurd z.1.1 (by decide)
    · rcases z.2.2 with y | y
      · exact absurd y.1.1 (by decide)
      · exact y.2
    · rw [z.2]
      exact ⟨by decide, by decide⟩
  · rw [if_neg h]
    refine ⟨fun z => ?_, fun z => ⟨z.1.1, z.2, Or.inl ⟨z.1.2.1.resolve_left h, z.1.2.2⟩⟩⟩
    rcases z.2.2 with y | y
    · exact ⟨⟨z.1, Or.inr y.1, y.2⟩, z.2.1⟩
    · exact absurd y.1 h
theorem ent_vals {x1 x2 x3 : Int32} (h : entC x1 x2 x3) : (∃ j, j < 6 ∧ x1 = nI j) ∧ (x2 = -1 ∨ ∃ j, j < 6 ∧ x2 = nI j) ∧ ∃ j, j ≤ 9 ∧ x3 = nI j := by
  obtain ⟨⟨a, b, _⟩, c⟩ := h
  refine ⟨nI_rng rfl (by decide) a.1 a.2, b.imp id (fun z => nI_rng rfl (by decide) z.1 z.2), ?_⟩
  split at c
  · exact ⟨0, by omega, c⟩
  · exact nI_rngle rfl (by decide) c.1 c.2
section PD
variable {ys : List Int32} {h : xH} {s : kS} {k : kC} {sh : Nat → kS} {nx ct : Nat} {tx : List Int32} {ln : Int32} {rf : List Int32} {nw pa : List Int32} {sts byt : Int32} {x1 x2 x3 x4 : Int32}
theorem e7_addEntry (B : cW h s k sh nx ct tx ln rf) (hv : sv s) (hn : sne s < 12) : xK 39 [.ref 4, .int x1, .int x2, .int x3] h (some (.int (nI (sne s)))) (x_wr h 3 (x_ts 3 (sadd s x1 x2 x3))) := by
  have e1 : sec s * 2 = nI (2 * sne s) := by rw [hv.ec, show (2 : Int32) = nI 2 from rfl, pk_mul, Nat.mul_comm]
  have e2 : sec s * 2 + 1 = nI (2 * sne s + 1) := by rw [e1, nI_1]
  have e3 : sec s + 1 = nI (sne s + 1) := by rw [hv.ec, nI_1]
  have c2 := c_addEntry (x1 := x1) (x2 := x2) (x3 := x3) (x_tc_g B.hs) (by decide) (by rw [e1, hv.lS]; exact x_in (by omega) (by decide)) (by rw [e2, hv.lS]; exact x_in (by omega) (by decide)) (by rw [hv.ec, hv.lX]; exact x_in (by omega) (by decide))
  rw [e2, e1, e3, xu_n (by omega), xu_n (by omega), hv.ec, xu_n (by omega), x_tc_gw B.hs] at c2
  exact c2
theorem c7_entry_ok (B : cW h s k sh nx ct tx ln rf) (hv : sv s) (hnx : nx < 6) (hct : ct ≤ 6) (hc : entC x1 x2 x3) (hn : sne s < 12) : ∃ h1, xK 40 [.ref 2, .int x1, .int x2, .int x3] h (some (.int (nI (sne s)))) h1 ∧ cW h1 (sadd s x1 x2 x3) k (shp sh nx s) ((nx + 1) % 6) (min (ct + 1) 6) tx ln rf ∧ cF h h1 := by
  obtain ⟨h1, p1, B1, F1⟩ := c7_push B hnx hct hv.1
  have c1 := c_whyNoEntry (x1 := x1) (x2 := x2) (x3 := x3) (x_tc_g B.hs)
  rw [if_pos hc, hv.ec, if_neg (show ¬ (12 : Int32) ≤ nI (sne s) from nI_ge (b := 12) hn (by decide))] at c1
  have c2 := e7_addEntry (x1 := x1) (x2 := x2) (x3 := x3) B1 hv hn
  obtain ⟨B2, F2⟩ := B1.now (sadd s x1 x2 x3)
  refine ⟨_, ?_, B2, F1.trans F2⟩
  refine xK_X7_entry (B.hp 0 _ rfl) (xe_X7_entry_0 ?_)
  (repeat (first | (simp only [xb_X7_entry_0, xb_X7_entry_27, xs_nil, Nat.reduceAdd, true_implies, not_true_eq_false, not_false_eq_true, false_implies, and_true, true_and, x_10, xs_aload_n_0, xs_iload_n_1, xs_iload_n_2, xs_iload_n_3, xs_istore_4_i, xs_istore_4_a, xs_istore_4_n, xs_istore_4_l, xs_iload_4, xs_if_eq, xs_ireturn]) | (refine xr_getf (B.hp 0 _ rfl) (by rfl) ?_) | (refine xr_getf (B.hs 0 _ rfl) (by rfl) ?_) | (refine xr_getf (B.hs 1 _ rfl) (by rfl) ?_) | (refine xr_getf (B.hs 7 _ rfl) (by rfl) ?_) | refine xc_v4_1 (c1) (Nat.le_of_ble_eq_true rfl) ?_))
  refine xe_X7_entry_27 ?_
  (repeat (first | (simp only [xb_X7_entry_0, xb_X7_entry_27, xs_nil, Nat.reduceAdd, true_implies, not_true_eq_false, not_false_eq_true, false_implies, and_true, true_and, x_10, xs_aload_n_0, xs_iload_n_1, xs_iload_n_2, xs_iload_n_3, xs_istore_4_i, xs_istore_4_a, xs_istore_4_n, xs_istore_4_l, xs_iload_4, xs_if_eq, xs_ireturn]) | (refine xr_getf (B.hp 0 _ rfl) (by rfl) ?_) | (refine xr_getf (B.hs 0 _ rfl) (by rfl) ?_) | (refine xr_getf (B.hs 1 _ rfl) (by rfl) ?_) | (refine xr_getf (B.hs 7 _ rfl) (by rfl) ?_) | refine xc_v2_0 (p1) (Nat.le_of_ble_eq_true rfl) ?_ | (refine xr_getf (B1.hp 0 _ rfl) (by rfl) ?_) | (refine xr_getf (B1.hs 0 _ rfl) (by rfl) ?_) | refine xc_v4_1 (c2) (Nat.le_of_ble_eq_true rfl) ?_))
  (first | exact ⟨Or.inl trivial, rfl⟩ | exact ⟨Or.inl trivial, rfl, rfl⟩ | (simp; done) | exact ⟨by simp, rfl⟩ | exact ⟨by simp, rfl, rfl⟩ | rfl)
theorem c7_entry_bad (B : cW h s k sh nx ct tx ln rf) (hl : rf.length = 3) (hc : ¬ entC x1 x2 x3) : ∃ h1, xK 40 [.ref 2, .int x1, .int x2, .int x3] h (some (.int (-2))) h1 ∧ cW h1 s k sh nx ct tx ln (rfi rf 0) ∧ cF h h1 := by
  obtain ⟨h1, p1, B1, F1⟩ := c7_bad B hl
  have c1 := c_whyNoEntry (x1 := x1) (x2 := x2) (x3 := x3) (x_tc_g B.hs)
  rw [if_neg hc] at c1
  refine ⟨h1, ?_, B1, F1⟩
  refine xK_X7_entry (B.hp 0 _ rfl) (xe_X7_entry_0 ?_)
  (repeat (first | (simp only [xb_X7_entry_0, xb_X7_entry_27, xs_nil, Nat.reduceAdd, true_implies, not_true_eq_false, not_false_eq_true, false_implies, and_true, true_and, x_10, xs_aload_n_0, xs_iload_n_1, xs_iload_n_2, xs_iload_n_3, xs_istore_4_i, xs_istore_4_a, xs_istore_4_n, xs_istore_4_l, xs_iload_4, xs_if_eq, xs_ireturn]) | (refine xr_getf (B.hp 0 _ rfl) (by rfl) ?_) | (refine xr_getf (B.hs 0 _ rfl) (by rfl) ?_) | (refine xr_getf (B.hs 1 _ rfl) (by rfl) ?_) | (refine xr_getf (B.hs 7 _ rfl) (by rfl) ?_) | refine xc_v4_1 (c1) (Nat.le_of_ble_eq_true rfl) ?_))
  refine ⟨fun z => absurd z (by decide), fun _ => ?_⟩
  (repeat (first | (simp only [xb_X7_entry_0, xb_X7_entry_27, xs_nil, Nat.reduceAdd, true_implies, not_true_eq_false, not_false_eq_true, false_implies, and_true, true_and, x_10, xs_aload_n_0, xs_iload_n_1, xs_iload_n_2, xs_iload_n_3, xs_istore_4_i, xs_istore_4_a, xs_istore_4_n, xs_istore_4_l, xs_iload_4, xs_if_eq, xs_ireturn]) | refine xc_v2_1 (p1) (Nat.le_of_ble_eq_true rfl) ?_))
  (first | exact ⟨Or.inl trivial, rfl⟩ | exact ⟨Or.inl trivial, rfl, rfl⟩ | (simp; done) | exact ⟨by simp, rfl⟩ | exact ⟨by simp, rfl, rfl⟩ | rfl)
theorem c7_entry_full (B : cW h s k sh nx ct tx ln rf) (hl : rf.length = 3) (hc : entC x1 x2 x3) (hn : sec s = 12) : ∃ h1, xK 40 [.ref 2, .int x1, .int x2, .int x3] h (some (.int (-4))) h1 ∧ cW h1 s k sh nx ct tx ln (rfi rf 2) ∧ cF h h1 := by
  obtain ⟨h1, p1, B1, F1⟩ := c7_full B hl
  have c1 := c_whyNoEntry (x1 := x1) (x2 := x2) (x3 := x3) (x_tc_g B.hs)
  rw [if_pos hc, hn, if_pos (by decide)] at c1
  refine ⟨h1, ?_, B1, F1⟩
  refine xK_X7_entry (B.hp 0 _ rfl) (xe_X7_entry_0 ?_)
  (repeat (first | (simp only [xb_X7_entry_0, xb_X7_entry_27, xs_nil, Nat.reduceAdd, true_implies, not_true_eq_false, not_false_eq_true, false_implies, and_true, true_and, x_10, xs_aload_n_0, xs_iload_n_1, xs_iload_n_2, xs_iload_n_3, xs_istore_4_i, xs_istore_4_a, xs_istore_4_n, xs_istore_4_l, xs_iload_4, xs_if_eq, xs_ireturn]) | (refine xr_getf (B.hp 0 _ rfl) (by rfl) ?_) | (refine xr_getf (B.hs 0 _ rfl) (by rfl) ?_) | (refine xr_getf (B.hs 1 _ rfl) (by rfl) ?_) | (refine xr_getf (B.hs 7 _ rfl) (by rfl) ?_) | refine xc_v4_1 (c1) (Nat.le_of_ble_eq_true rfl) ?_))
  refine ⟨fun z => absurd z (by decide), fun _ => ?_⟩
  (repeat (first | (simp only [xb_X7_entry_0, xb_X7_entry_27, xs_nil, Nat.reduceAdd, true_implies, not_true_eq_false, not_false_eq_true, false_implies, and_true, true_and, x_10, xs_aload_n_0, xs_iload_n_1, xs_iload_n_2, xs_iload_n_3, xs_istore_4_i, xs_istore_4_a, xs_istore_4_n, xs_istore_4_l, xs_iload_4, xs_if_eq, xs_ireturn]) | refine xc_v2_1 (p1) (Nat.le_of_ble_eq_true rfl) ?_))
  (first | exact ⟨Or.inl trivial, rfl⟩ | exact ⟨Or.inl trivial, rfl, rfl⟩ | (simp; done) | exact ⟨by simp, rfl⟩ | exact ⟨by simp, rfl, rfl⟩ | rfl)
end PD
section PD2
variable {m : Nat} {nw asd pa rf tx hd rd so ah ar tr bg le fr nu : List Int32} {sts byt fo bc br bk od sp wr : Int32} {ha : Int64} {x1 x2 x3 x4 : Int32} {h h0 : xH} {e : Nat}
theorem c_enters (hb : x_hb h m (x_mc m nw asd pa sts rf tx byt hd rd so ah ar tr bg fo bc br bk le fr nu od sp wr ha)) (h2 : 2 ≤ m) (hl : nw.length = 149) (he : xg nw 78 = nI e) (h12 : e < 12) : xK 43 [.ref m, .int x1, .int x2, .int x3] h (some (.int (nI e))) (x_wr h m (x_mc m ((((nw.set (79 + 3 * e) x1).set (79 + 3 * e + 1) x2).set (79 + 3 * e + 2) x3).set 78 (nI (e + 1))) asd pa sts rf tx byt hd rd so ah ar tr bg fo bc br bk le fr nu od sp wr ha)) := by
  have A := xA.of hb (Nat.zero_lt_succ _)
  have ei : (79 : Int32) + 3 * nI e = nI (79 + 3 * e) := by rw [show (79 : Int32) = nI 79 from rfl, show (3 : Int32) = nI 3 from rfl, pk_mul, nI_add]
  have e1 : nI (79 + 3 * e) + 1 = nI (79 + 3 * e + 1) := nI_1 _
  have e2 : nI (79 + 3 * e) + 2 = nI (79 + 3 * e + 2) := nI_k _ 2 rfl
  have i78 : ∀ l : List Int32, l.length = 149 → xin 78 l.length := fun l q => by rw [q]; exact x_in (k := 78) (by decide) (by decide)
  have l1 : (nw.set (79 + 3 * e) x1).length = 149 := by rw [List.length_set, hl]
  have l2 : ((nw.set (79 + 3 * e) x1).set (79 + 3 * e + 1) x2).length = 149 := by rw [List.length_set, l1]
  have l3 : (((nw.set (79 + 3 * e) x1).set (79 + 3 * e + 1) x2).set (79 + 3 * e + 2) x3).length = 149 := by rw [List.length_set, l2]
  have l4 : ((((nw.set (79 + 3 * e) x1).set (79 + 3 * e + 1) x2).set (79 + 3 * e + 2) x3).set 78 (nI (e + 1))).length = 149 := by rw [List.length_set, l3]
  have g3 : xg (((nw.set (79 + 3 * e) x1).set (79 + 3 * e + 1) x2).set (79 + 3 * e + 2) x3) 78 = nI e := by
    rw [show (78 : Int32) = nI 78 from rfl, xg_n (by omega), gs_ne (by omega), gs_ne (by omega), gs_ne (by omega), ← xg_n (by omega)]
    exact he
  have g4 : xg ((((nw.set (79 + 3 * e) x1).set (79 + 3 * e + 1) x2).set (79 + 3 * e + 2) x3).set 78 (nI (e + 1))) 78 = nI (e + 1) := by
    rw [show (78 : Int32) = nI 78 from rfl, xg_n (by omega), gs_eq (by rw [l3]; decide)]
  refine xK_X8_enters (hb 0 _ rfl) (xe_X8_enters_0 ?_)
  (repeat (first | (simp only [xb_X8_enters_0, xs_nil, Nat.reduceAdd, true_implies, not_true_eq_false, not_false_eq_true, false_implies, and_true, true_and, x_10, xs_bipush_79, xs_iconst_3, xs_aload_n_0, xs_bipush_78, xs_imul, xs_iadd, xs_istore_4_i, xs_istore_4_a, xs_istore_4_n, xs_istore_4_l, xs_iload_4, xs_iload_n_1, xs_iconst_1, xs_iload_n_2, xs_iconst_2, xs_iload_n_3, xs_dup2, xs_isub, xs_ireturn]) | (refine xr_getf (hb 0 _ rfl) (by rfl) ?_) | (refine xr_iaload (hb 1 _ rfl) (i78 _ hl) ?_)))
  rw [he, ei]
  refine xa_iastore A 1 (by rfl) h2 (x_in (by rw [hl]; omega) (by rw [hl]; decide)) (fun h1 A => ?_)
  rw [xu_n (by omega)] at A
  have hb := A.hb
  (repeat (first | (simp only [xb_X8_enters_0, xs_nil, Nat.reduceAdd, true_implies, not_true_eq_false, not_false_eq_true, false_implies, and_true, true_and, x_10, xs_bipush_79, xs_iconst_3, xs_aload_n_0, xs_bipush_78, xs_imul, xs_iadd, xs_istore_4_i, xs_istore_4_a, xs_istore_4_n, xs_istore_4_l, xs_iload_4, xs_iload_n_1, xs_iconst_1, xs_iload_n_2, xs_iconst_2, xs_iload_n_3, xs_dup2, xs_isub, xs_ireturn]) | (refine xr_getf (hb 0 _ rfl) (by rfl) ?_)))
  rw [e1]
  refine xa_iastore A 1 (by rfl) h2 (x_in (by rw [l1]; omega) (by rw [l1]; decide)) (fun h1 A => ?_)
  rw [xu_n (by omega)] at A
  have hb := A.hb
  (repeat (first | (simp only [xb_X8_enters_0, xs_nil, Nat.reduceAdd, true_implies, not_true_eq_false, not_false_eq_true, false_implies, and_true, true_and, x_10, xs_bipush_79, xs_iconst_3, xs_aload_n_0, xs_bipush_78, xs_imul, xs_iadd, xs_istore_4_i, xs_istore_4_a, xs_istore_4_n, xs_istore_4_l, xs_iload_4, xs_iload_n_1, xs_iconst_1, xs_iload_n_2, xs_iconst_2, xs_iload_n_3, xs_dup2, xs_isub, xs_ireturn]) | (refine xr_getf (hb 0 _ rfl) (by rfl) ?_)))
  rw [e2]
  refine xa_iastore A 1 (by rfl) h2 (x_in (by rw [l2]; omega) (by rw [l2]; decide)) (fun h1 A => ?_)
  rw [xu_n (by omega)] at A
  have hb := A.hb
  (repeat (first | (simp only [xb_X8_enters_0, xs_nil, Nat.reduceAdd, true_implies, not_true_eq_false, not_false_eq_true, false_implies, and_true, true_and, x_10, xs_bipush_79, xs_iconst_3, xs_aload_n_0, xs_bipush_78, xs_imul, xs_iadd, xs_istore_4_i, xs_istore_4_a, xs_istore_4_n, xs_istore_4_l, xs_iload_4, xs_iload_n_1, xs_iconst_1, xs_iload_n_2, xs_iconst_2, xs_iload_n_3, xs_dup2, xs_isub, xs_ireturn]) | (refine xr_getf (hb 0 _ rfl) (by rfl) ?_) | (refine xr_iaload (hb 1 _ rfl) (i78 _ l3) ?_)))
  rw [g3, nI_1]
  refine xa_iastore A 1 (by rfl) h2 (i78 _ l3) (fun h1 A => ?_)
  rw [show (78 : Int32) = nI 78 from rfl, xu_n (by omega)] at A
  have hb := A.hb
  (repeat (first | (simp only [xb_X8_enters_0, xs_nil, Nat.reduceAdd, true_implies, not_true_eq_false, not_false_eq_true, false_implies, and_true, true_and, x_10, xs_bipush_79, xs_iconst_3, xs_aload_n_0, xs_bipush_78, xs_imul, xs_iadd, xs_istore_4_i, xs_istore_4_a, xs_istore_4_n, xs_istore_4_l, xs_iload_4, xs_iload_n_1, xs_iconst_1, xs_iload_n_2, xs_iconst_2, xs_iload_n_3, xs_dup2, xs_isub, xs_ireturn]) | (refine xr_getf (hb 0 _ rfl) (by rfl) ?_) | (refine xr_iaload (hb 1 _ rfl) (i78 _ l4) ?_)))
  rw [g4, nI_pred]
  have e := A.e
  all_goals first | exact ⟨by simp, e⟩ | exact e | exact ⟨by simp, by simp, e⟩ | exact ⟨by simp, by simp_all, e⟩
end PD2
section PD3
variable {ys : List Int32} {h : xH} {s : kS} {k : kC} {sh : Nat → kS} {nx ct : Nat} {tx : List Int32} {ln : Int32} {rf : List Int32} {nw pa : List Int32} {sts byt : Int32} {x1 x2 x3 x4 : Int32}
theorem m8_enters (M : mW h nw pa sts rf tx byt) (hl : nw.length = 149) (he : xg nw 78 = nI (sne s)) (h12 : sne s < 12) : ∃ h2, xK 43 [.ref 122, .int x1, .int x2, .int x3] h (some (.int (nI (sne s)))) h2 ∧ mW h2 (nadd s nw x1 x2 x3) pa sts rf tx byt ∧ mF h h2 := by
  obtain ⟨⟨asd, hs, rd, so, ah, ar, tr, bg, fo, bc, br, bk, le, fr, nu, od, sp, wr, ha⟩, hz, hb⟩ := M
  have hb : x_hb h 122 (x_mc 122 nw asd pa sts rf tx byt (hs.map nI) rd so ah ar tr bg fo bc br bk le fr nu od sp wr ha) := hb
  have A := xA.of hb (Nat.zero_lt_succ _)
  exact ⟨_, c_enters hb (by decide) hl he h12, mW_A (z' := ((asd, hs, rd, so, ah, ar, tr, bg, fo, bc, br, bk, le, fr, nu, od, sp, wr, ha) : mZ)) hz (A.on rfl)⟩
theorem m8_entry_ok (M : mW h nw pa (nI ct) rf tx byt) (hct : ct ≤ 6) (lp : pa.length = 894) (ln : nw.length = 149) (he : xg nw 78 = nI (sne s)) (h12 : sne s < 12) (hc : entC x1 x2 x3) : ∃ h2, xK 44 [.ref 122, .int x1, .int x2, .int x3] h (some (.int (nI (sne s)))) h2 ∧ mW h2 (nadd s nw x1 x2 x3) (remem pa nw ct) (nI (min (ct + 1) 6)) rf tx byt ∧ mF h h2 := by
  obtain ⟨h1, p1, M1, F1⟩ := m8_remembers M hct lp ln
  obtain ⟨h2, p2, M2, F2⟩ := m8_enters (x1 := x1) (x2 := x2) (x3 := x3) M1 ln he h12
  have c1 := c_canEnter (x1 := x1) (x2 := x2) (x3 := x3) (h := h)
  rw [if_pos (ent_iff.mpr hc)] at c1
  refine ⟨h2, ?_, M2, F1.trans F2⟩
  obtain ⟨⟨asd, hs, rd, so, ah, ar, tr, bg, fo, bc, br, bk, le, fr, nu, od, sp, wr, ha⟩, hz, hb⟩ := M
  have hb : x_hb h 122 (x_mc 122 nw asd pa (nI ct) rf tx byt (hs.map nI) rd so ah ar tr bg fo bc br bk le fr nu od sp wr ha) := hb
  have A := xA.of hb (Nat.zero_lt_succ _)
  refine xK_X8_entry (hb 0 _ rfl) (xe_X8_entry_0 ?_)
  (repeat (first | (simp only [xb_X8_entry_0, xb_X8_entry_14, xb_X8_entry_31, xs_nil, Nat.reduceAdd, true_implies, not_true_eq_false, not_false_eq_true, false_implies, and_true, true_and, x_10, xs_iload_n_1, xs_iload_n_2, xs_iload_n_3, xs_if_ne, xs_aload_n_0, xs_ireturn, xs_bipush_78, xs_bipush_12, xs_icmp_ne]) | refine xc_s3_1 (by decide) (c1) (Nat.le_of_ble_eq_true rfl) ?_))
  refine xe_X8_entry_14 ?_
  (repeat (first | (simp only [xb_X8_entry_0, xb_X8_entry_14, xb_X8_entry_31, xs_nil, Nat.reduceAdd, true_implies, not_true_eq_false, not_false_eq_true, false_implies, and_true, true_and, x_10, xs_iload_n_1, xs_iload_n_2, xs_iload_n_3, xs_if_ne, xs_aload_n_0, xs_ireturn, xs_bipush_78, xs_bipush_12, xs_icmp_ne]) | (refine xr_getf (hb 0 _ rfl) (by rfl) ?_) | (refine xr_iaload (hb 1 _ rfl) (by rw [ln]; exact x_in (k := 78) (by decide) (by decide)) ?_)))
  rw [he]
  refine ⟨fun _ => ?_, fun z => absurd (fun e => absurd ((nI_eq (b := 12) (by omega) (by decide)).mp e) (by omega)) z⟩
  refine xe_X8_entry_31 ?_
  (repeat (first | (simp only [xb_X8_entry_0, xb_X8_entry_14, xb_X8_entry_31, xs_nil, Nat.reduceAdd, true_implies, not_true_eq_false, not_false_eq_true, false_implies, and_true, true_and, x_10, xs_iload_n_1, xs_iload_n_2, xs_iload_n_3, xs_if_ne, xs_aload_n_0, xs_ireturn, xs_bipush_78, xs_bipush_12, xs_icmp_ne]) | refine xc_v1_0 (p1) (Nat.le_of_ble_eq_true rfl) ?_ | refine xc_v4_1 (p2) (Nat.le_of_ble_eq_true rfl) ?_))
  (first | exact ⟨Or.inl trivial, rfl⟩ | exact ⟨Or.inl trivial, rfl, rfl⟩ | (simp; done) | exact ⟨by simp, rfl⟩ | exact ⟨by simp, rfl, rfl⟩ | rfl)
theorem m8_entry_bad (M : mW h nw pa sts rf tx byt) (hr : rf.length = 3) (hc : ¬ entC x1 x2 x3) : ∃ h2, xK 44 [.ref 122, .int x1, .int x2, .int x3] h (some (.int (-2))) h2 ∧ mW h2 nw pa sts (rfi rf 0) tx byt ∧ mF h h2 := by
  obtain ⟨fs, h0⟩ := M.h0
  obtain ⟨h1, p1, M1, F1⟩ := m8_bad M hr
  have c1 := c_canEnter (x1 := x1) (x2 := x2) (x3 := x3) (h := h)
  rw [if_neg (fun z => hc (ent_iff.mp z))] at c1
  refine ⟨h1, ?_, M1, F1⟩
  refine xK_X8_entry h0 (xe_X8_entry_0 ?_)
  (repeat (first | (simp only [xb_X8_entry_0, xb_X8_entry_14, xb_X8_entry_31, xs_nil, Nat.reduceAdd, true_implies, not_true_eq_false, not_false_eq_true, false_implies, and_true, true_and, x_10, xs_iload_n_1, xs_iload_n_2, xs_iload_n_3, xs_if_ne, xs_aload_n_0, xs_ireturn, xs_bipush_78, xs_bipush_12, xs_icmp_ne]) | refine xc_s3_1 (by decide) (c1) (Nat.le_of_ble_eq_true rfl) ?_ | refine xc_v1_1 (p1) (Nat.le_of_ble_eq_true rfl) ?_))
  (first | exact ⟨Or.inl trivial, rfl⟩ | exact ⟨Or.inl trivial, rfl, rfl⟩ | (simp; done) | exact ⟨by simp, rfl⟩ | exact ⟨by simp, rfl, rfl⟩ | rfl)
theorem m8_entry_full (M : mW h nw pa sts rf tx byt) (ln : nw.length = 149) (hr : rf.length = 3) (he : xg nw 78 = 12) (hc : entC x1 x2 x3) : ∃ h2, xK 44 [.ref 122, .int x1, .int x2, .int x3] h (some (.int (-4))) h2 ∧ mW h2 nw pa sts (rfi rf 2) tx byt ∧ mF h h2 := by
  obtain ⟨h1, p1, M1, F1⟩ := m8_full M hr
  have c1 := c_canEnter (x1 := x1) (x2 := x2) (x3 := x3) (h := h)
  rw [if_pos (ent_iff.mpr hc)] at c1
  refine ⟨h1, ?_, M1, F1⟩
  obtain ⟨⟨asd, hs, rd, so, ah, ar, tr, bg, fo, bc, br, bk, le, fr, nu, od, sp, wr, ha⟩, hz, hb⟩ := M
  have hb : x_hb h 122 (x_mc 122 nw asd pa sts rf tx byt (hs.map nI) rd so ah ar tr bg fo bc br bk le fr nu od sp wr ha) := hb
  have A := xA.of hb (Nat.zero_lt_succ _)
  refine xK_X8_entry (hb 0 _ rfl) (xe_X8_entry_0 ?_)
  (repeat (first | (simp only [xb_X8_entry_0, xb_X8_entry_14, xb_X8_entry_31, xs_nil, Nat.reduceAdd, true_implies, not_true_eq_false, not_false_eq_true, false_implies, and_true, true_and, x_10, xs_iload_n_1, xs_iload_n_2, xs_iload_n_3, xs_if_ne, xs_aload_n_0, xs_ireturn, xs_bipush_78, xs_bipush_12, xs_icmp_ne]) | refine xc_s3_1 (by decide) (c1) (Nat.le_of_ble_eq_true rfl) ?_))
  refine xe_X8_entry_14 ?_
  (repeat (first | (simp only [xb_X8_entry_0, xb_X8_entry_14, xb_X8_entry_31, xs_nil, Nat.reduceAdd, true_implies, not_true_eq_false, not_false_eq_true, false_implies, and_true, true_and, x_10, xs_iload_n_1, xs_iload_n_2, xs_iload_n_3, xs_if_ne, xs_aload_n_0, xs_ireturn, xs_bipush_78, xs_bipush_12, xs_icmp_ne]) | (refine xr_getf (hb 0 _ rfl) (by rfl) ?_) | (refine xr_iaload (hb 1 _ rfl) (by rw [ln]; exact x_in (k := 78) (by decide) (by decide)) ?_)))
  rw [he]
  (repeat (first | (simp only [xb_X8_entry_0, xb_X8_entry_14, xb_X8_entry_31, xs_nil, Nat.reduceAdd, true_implies, not_true_eq_false, not_false_eq_true, false_implies, and_true, true_and, x_10, xs_iload_n_1, xs_iload_n_2, xs_iload_n_3, xs_if_ne, xs_aload_n_0, xs_ireturn, xs_bipush_78, xs_bipush_12, xs_icmp_ne]) | refine xc_v1_1 (p1) (Nat.le_of_ble_eq_true rfl) ?_))
  (first | exact ⟨Or.inl trivial, rfl⟩ | exact ⟨Or.inl trivial, rfl, rfl⟩ | (simp; done) | exact ⟨by simp, rfl⟩ | exact ⟨by simp, rfl, rfl⟩ | rfl)
theorem Rl.e78 (hR : Rl s nw) : xg nw 78 = nI (sne s) := by
  have e := hR.2.1.2.2.2.1
  rw [hR.1.ec] at e
  exact e
theorem t_entry (B : BR ys h) : TC ys h 40 44 [.int x1, .int x2, .int x3] := by
  obtain ⟨s, k, sh, nx, ct, tx, ln, rf, nw, pa, L, C, M, I⟩ := B
  obtain ⟨i1, i2, ⟨i3, i4, i5⟩, i6, i7, i8, i9⟩ := id I
  have e := i1.e78
  by_cases hc : entC x1 x2 x3
  · by_cases hn : sne s < 12
    · obtain ⟨v1, v2, v3⟩ := ent_vals hc
      exact TC_mk L (c7_entry_ok C i1.1 i3 i4 hc hn) (fun h1 F => m8_entry_ok (M.cF F) i4 i6 i1.2.1.1 e hn hc) (INV_push I i1 (Rl_add i1 hn v1 v2 v3) i2)
    · have h12 : sne s = 12 := by have := i1.1.ne; omega
      have e1 : sec s = 12 := by rw [i1.1.ec, h12]; rfl
      exact TC_mk L (c7_entry_full C i9 hc e1) (fun h1 F => m8_entry_full (M.cF F) i1.2.1.1 i9 (by rw [e, h12]; rfl) hc) (INV_rf I)
  · exact TC_mk L (c7_entry_bad C i9 hc) (fun h1 F => m8_entry_bad (M.cF F) i9 hc) (INV_rf I)
/-- rule -/
theorem t_rule (B : BR ys h) : TC ys h 49 50 [.int x1, .int x2, .int x3] := by
  obtain ⟨s, k, sh, nx, ct, tx, ln, rf, nw, pa, L, C, M, I⟩ := B
  obtain ⟨i1, i2, ⟨i3, i4, i5⟩, i6, i7, i8, i9⟩ := id I
  have hl := i1.2.1.1
  by_cases hc : (0 ≤ x1 ∧ x1 < 6) ∧ (0 ≤ x2 ∧ x2 < 6) ∧ 0 ≤ x3 ∧ x3 < 2
  · obtain ⟨a, ha, rfl⟩ := nI_rng (n := 6) rfl (by decide) hc.1.1 hc.1.2
    obtain ⟨b, hb, rfl⟩ := nI_rng (n := 6) rfl (by decide) hc.2.1.1 hc.2.1.2
    obtain ⟨d, hd, rfl⟩ := nI_rng (n := 2) rfl (by decide) hc.2.2.1 hc.2.2.2
    have e : nw.getD (12 * a + 2 * b + d) 0 = (sP s).getD (12 * a + 2 * b + d) 0 := i1.2.1.2.1 _ (by omega)
    have ei : (nI a * 6 + nI b) * 2 + nI d = nI (12 * a + 2 * b + d) := by
      rw [show (6 : Int32) = nI 6 from rfl, show (2 : Int32) = nI 2 from rfl, pk_mul, nI_add, pk_mul, nI_add]
      congr 1
      omega
    have ei2 : (0 : Int32) + 12 * nI a + 2 * nI b + nI d = nI (12 * a + 2 * b + d) := by
      rw [Int32.zero_add, show (12 : Int32) = nI 12 from rfl, show (2 : Int32) = nI 2 from rfl, pk_mul, pk_mul, nI_add, nI_add]
    refine TC_mk (r := .int ((sP s).getD (12 * a + 2 * b + d) 0)) L ⟨h, ?_, C, cF.refl h⟩ (fun h1 F => ⟨h1, ?_, M.cF F, mF.refl h1⟩) I
    · have c1 := c_isRulePlace (x1 := nI a) (x2 := nI b) (x3 := nI d) (h := h)
      rw [if_pos hc] at c1
      have c2 := c_price (x1 := nI a) (x2 := nI b) (x3 := nI d) (x_tc_g C.hs) (by rw [ei, i1.1.lP]; exact x_in (by omega) (by decide))
      rw [ei, xg_n (by omega)] at c2
      have B := C
      refine xK_X7_rule (B.hp 0 _ rfl) (xe_X7_rule_0 ?_)
      (repeat (first | (simp only [xb_X7_rule_0, xb_X7_rule_16, xs_nil, Nat.reduceAdd, true_implies, not_true_eq_false, not_false_eq_true, false_implies, and_true, true_and, x_10, xs_iload_n_1, xs_iload_n_2, xs_iload_n_3, xs_if_ne, xs_aload_n_0, xs_bipush_m2, xs_ireturn]) | refine xc_s3_1 (by decide) (c1) (Nat.le_of_ble_eq_true rfl) ?_))
      refine xe_X7_rule_16 ?_
      (repeat (first | (simp only [xb_X7_rule_0, xb_X7_rule_16, xs_nil, Nat.reduceAdd, true_implies, not_true_eq_false, not_false_eq_true, false_implies, and_true, true_and, x_10, xs_iload_n_1, xs_iload_n_2, xs_iload_n_3, xs_if_ne, xs_aload_n_0, xs_bipush_m2, xs_ireturn]) | (refine xr_getf (B.hp 0 _ rfl) (by rfl) ?_) | (refine xr_getf (B.hs 0 _ rfl) (by rfl) ?_) | (refine xr_getf (B.hs 1 _ rfl) (by rfl) ?_) | (refine xr_getf (B.hs 7 _ rfl) (by rfl) ?_) | refine xc_v4_1 (c2) (Nat.le_of_ble_eq_true rfl) ?_))
      (first | exact ⟨Or.inl trivial, rfl⟩ | exact ⟨Or.inl trivial, rfl, rfl⟩ | (simp; done) | exact ⟨by simp, rfl⟩ | exact ⟨by simp, rfl, rfl⟩ | rfl)
    · have M := M.cF F
      have h := h1
      rw [lt_le6, lt_le6, lt_le2] at hc
      have c1 := c_isRule (x1 := nI a) (x2 := nI b) (x3 := nI d) (h := h1)
      rw [if_pos hc] at c1
      have c2 := c_ruleAt (x1 := nI a) (x2 := nI b) (x3 := nI d) (h := h1)
      rw [ei2] at c2
      obtain ⟨z, hz, hb⟩ := M
      refine xK_X8_rule (hb 0 _ rfl) (xe_X8_rule_0 ?_)
      (repeat (first | (simp only [xb_X8_rule_0, xb_X8_rule_23, xb_X8_rule_27, xs_nil, Nat.reduceAdd, true_implies, not_true_eq_false, not_false_eq_true, false_implies, and_true, true_and, x_10, xs_iload_n_1, xs_iload_n_2, xs_iload_n_3, xs_if_eq, xs_aload_n_0, xs_goto, xs_ireturn]) | refine xc_s3_1 (by decide) (c1) (Nat.le_of_ble_eq_true rfl) ?_ | (refine xr_getf (hb 0 _ rfl) (by rfl) ?_) | refine xc_s3_1 (by decide) (c2) (Nat.le_of_ble_eq_true rfl) ?_ | (refine xr_iaload (hb 1 _ rfl) (by rw [hl]; exact x_in (by omega) (by decide)) ?_)))
      refine xe_X8_rule_27 ?_
      (repeat (first | (simp only [xb_X8_rule_0, xb_X8_rule_23, xb_X8_rule_27, xs_nil, Nat.reduceAdd, true_implies, not_true_eq_false, not_false_eq_true, false_implies, and_true, true_and, x_10, xs_iload_n_1, xs_iload_n_2, xs_iload_n_3, xs_if_eq, xs_aload_n_0, xs_goto, xs_ireturn]) ))
      rw [xg_n (by omega), e]
      (first | exact ⟨Or.inl trivial, rfl⟩ | exact ⟨Or.inl trivial, rfl, rfl⟩ | (simp; done) | exact ⟨by simp, rfl⟩ | exact ⟨by simp, rfl, rfl⟩ | rfl)
  · refine TC_mk (r := .int (-2)) L ?_ (fun h1 F => ?_) (INV_rf (i := 0) I)
    · obtain ⟨h1, p1, B1, F1⟩ := c7_bad C i9
      have c1 := c_isRulePlace (x1 := x1) (x2 := x2) (x3 := x3) (h := h)
      rw [if_neg hc] at c1
      refine ⟨h1, ?_, B1, F1⟩
      refine xK_X7_rule (C.hp 0 _ rfl) (xe_X7_rule_0 ?_)
      (repeat (first | (simp only [xb_X7_rule_0, xb_X7_rule_16, xs_nil, Nat.reduceAdd, true_implies, not_true_eq_false, not_false_eq_true, false_implies, and_true, true_and, x_10, xs_iload_n_1, xs_iload_n_2, xs_iload_n_3, xs_if_ne, xs_aload_n_0, xs_bipush_m2, xs_ireturn]) | refine xc_s3_1 (by decide) (c1) (Nat.le_of_ble_eq_true rfl) ?_ | refine xc_v2_1 (p1) (Nat.le_of_ble_eq_true rfl) ?_))
      (first | exact ⟨Or.inl trivial, rfl⟩ | exact ⟨Or.inl trivial, rfl, rfl⟩ | (simp; done) | exact ⟨by simp, rfl⟩ | exact ⟨by simp, rfl, rfl⟩ | rfl)
    · have M := M.cF F
      obtain ⟨fs, h0⟩ := M.h0
      obtain ⟨h2, p1, M1, F1⟩ := m8_bad M i9
      rw [lt_le6, lt_le6, lt_le2] at hc
      have c1 := c_isRule (x1 := x1) (x2 := x2) (x3 := x3) (h := h1)
      rw [if_neg hc] at c1
      refine ⟨h2, ?_, M1, F1⟩
      refine xK_X8_rule h0 (xe_X8_rule_0 ?_)
      (repeat (first | (simp only [xb_X8_rule_0, xb_X8_rule_23, xb_X8_rule_27, xs_nil, Nat.reduceAdd, true_implies, not_true_eq_false, not_false_eq_true, false_implies, and_true, true_and, x_10, xs_iload_n_1, xs_iload_n_2, xs_iload_n_3, xs_if_eq, xs_aload_n_0, xs_goto, xs_ireturn]) | refine xc_s3_1 (by decide) (c1) (Nat.le_of_ble_eq_true rfl) ?_))
      refine xe_X8_rule_23 ?_
      (repeat (first | (simp only [xb_X8_rule_0, xb_X8_rule_23, xb_X8_rule_27, xs_nil, Nat.reduceAdd, true_implies, not_true_eq_false, not_false_eq_true, false_implies, and_true, true_and, x_10, xs_iload_n_1, xs_iload_n_2, xs_iload_n_3, xs_if_eq, xs_aload_n_0, xs_goto, xs_ireturn]) | refine xc_v1_1 (p1) (Nat.le_of_ble_eq_true rfl) ?_))
      refine xe_X8_rule_27 ?_
      (repeat (first | (simp only [xb_X8_rule_0, xb_X8_rule_23, xb_X8_rule_27, xs_nil, Nat.reduceAdd, true_implies, not_true_eq_false, not_false_eq_true, false_implies, and_true, true_and, x_10, xs_iload_n_1, xs_iload_n_2, xs_iload_n_3, xs_if_eq, xs_aload_n_0, xs_goto, xs_ireturn]) ))
      (first | exact ⟨Or.inl trivial, rfl⟩ | exact ⟨Or.inl trivial, rfl, rfl⟩ | (simp; done) | exact ⟨by simp, rfl⟩ | exact ⟨by simp, rfl, rfl⟩ | rfl)
end PD3
