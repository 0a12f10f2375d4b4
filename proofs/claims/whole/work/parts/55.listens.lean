/-! the reference hears a word -/
theorem nI_k (a : Nat) (k : Nat) {x : Int32} (hx : x = nI k) : nI a + x = nI (a + k) := by rw [hx, nI_add]
section MO13
variable {m : Nat} {nw asd pa rf tx rd so ah ar tr bg le fr nu : List Int32} {sts byt fo bc br bk od sp wr : Int32} {ha : Int64} {h h0 : xH} {hs : List Nat} {s : kS} {k : kC} {j : Nat}
/-- its first stretch: the word is put down -/
theorem p_listens (hb : x_hb h m (x_mc m nw asd pa sts rf tx byt (hs.map nI) rd so ah ar tr bg fo bc br bk le fr nu od sp wr ha)) (h2 : 2 ≤ m) (hv : sv s) (hg : gr s nw) (hn : sn s < 6) {hf : xH}
    (H : ∀ h1, xA h m (x_mc m (nword s nw (nI j) 0 0 (-1) 0) asd pa sts rf tx byt (hs.map nI) rd so ah ar tr bg fo bc br bk le fr nu od sp wr ha) h1 → (¬ (0 < sn s ∧ ¬ 0 ≤ nw.getD (119 + 5 * (sn s - 1) + 3) 0) → x_EV 95 91 [some (.ref m), some (.int (nI j)), some (.int (nI (sn s))), some (.int (nI (sn s + 1))), some (.int (nI (119 + 5 * sn s)))] [] h1 none hf) ∧ ((0 < sn s ∧ ¬ 0 ≤ nw.getD (119 + 5 * (sn s - 1) + 3) 0) → hf = h1)) :
    xK 95 [.ref m, .int (nI j)] h none hf := by
  have A := xA.of hb (Nat.zero_lt_succ _)
  have hl := hg.1
  have e118 : xg nw 118 = nI (sn s) := by
    have e := hg.2.2.2.2.2.2.1
    rw [hv.ct] at e
    exact e
  have i118 : xin 118 nw.length := by rw [hl]; exact x_in (k := 118) (by decide) (by decide)
  have e1 : nI (119 + 5 * sn s) + 1 = nI (119 + 5 * sn s + 1) := nI_1 _
  have e2 : nI (119 + 5 * sn s) + 2 = nI (119 + 5 * sn s + 2) := nI_k _ 2 rfl
  have e3 : nI (119 + 5 * sn s) + 3 = nI (119 + 5 * sn s + 3) := nI_k _ 3 rfl
  have e4 : nI (119 + 5 * sn s) + 4 = nI (119 + 5 * sn s + 4) := nI_k _ 4 rfl
  have eat : (119 : Int32) + 5 * (nI (sn s + 1) - 1) = nI (119 + 5 * sn s) := by
    rw [wp_n (by omega)]
    congr 1
  refine xK_X8_listens (hb 0 _ rfl) (xe_X8_listens_0 ?_)
  (repeat (first | (simp only [xb_X8_listens_0, xb_X8_listens_91, xb_X8_listens_148, xb_X8_listens_149, xb_X8_listens_176, xs_nil, Nat.reduceAdd, true_implies, not_true_eq_false, not_false_eq_true, false_implies, and_true, true_and, x_10, xs_aload_n_0, xs_bipush_118, xs_istore_n_2_i, xs_istore_n_2_a, xs_istore_n_2_n, xs_istore_n_2_l, xs_dup2, xs_iconst_1, xs_iadd, xs_iload_n_2, xs_istore_n_3_i, xs_istore_n_3_a, xs_istore_n_3_n, xs_istore_n_3_l, xs_iload_n_3, xs_istore_4_i, xs_istore_4_a, xs_istore_4_n, xs_istore_4_l, xs_iload_4, xs_iload_n_1, xs_iconst_0, xs_iconst_2, xs_iconst_3, xs_iconst_m1, xs_iconst_4, xs_if_le, xs_if_ne, xs_return, xs_bipush_117, xs_icmp_le, xs_goto]) | (refine xr_getf (hb 0 _ rfl) (by rfl) ?_) | (refine xr_iaload (hb 1 _ rfl) i118 ?_)))
  rw [e118, nI_1]
  refine xa_iastore A 1 (by rfl) h2 i118 (fun h1 A => ?_)
  rw [show (118 : Int32) = nI 118 from rfl, xu_n (by omega)] at A
  have hb := A.hb
  (repeat (first | (simp only [xb_X8_listens_0, xb_X8_listens_91, xb_X8_listens_148, xb_X8_listens_149, xb_X8_listens_176, xs_nil, Nat.reduceAdd, true_implies, not_true_eq_false, not_false_eq_true, false_implies, and_true, true_and, x_10, xs_aload_n_0, xs_bipush_118, xs_istore_n_2_i, xs_istore_n_2_a, xs_istore_n_2_n, xs_istore_n_2_l, xs_dup2, xs_iconst_1, xs_iadd, xs_iload_n_2, xs_istore_n_3_i, xs_istore_n_3_a, xs_istore_n_3_n, xs_istore_n_3_l, xs_iload_n_3, xs_istore_4_i, xs_istore_4_a, xs_istore_4_n, xs_istore_4_l, xs_iload_4, xs_iload_n_1, xs_iconst_0, xs_iconst_2, xs_iconst_3, xs_iconst_m1, xs_iconst_4, xs_if_le, xs_if_ne, xs_return, xs_bipush_117, xs_icmp_le, xs_goto]) | refine xc_v2_1 (c_wordAt (hb 0 _ rfl)) (Nat.le_of_ble_eq_true rfl) ?_ | (refine xr_getf (hb 0 _ rfl) (by rfl) ?_)))
  rw [nI_1, eat]
  refine xa_iastore A 1 (by rfl) h2 (x_in (by rw [List.length_set, hl]; omega) (by rw [List.length_set, hl]; decide)) (fun h1 A => ?_)
  rw [xu_n (by omega)] at A
  have hb := A.hb
  (repeat (first | (simp only [xb_X8_listens_0, xb_X8_listens_91, xb_X8_listens_148, xb_X8_listens_149, xb_X8_listens_176, xs_nil, Nat.reduceAdd, true_implies, not_true_eq_false, not_false_eq_true, false_implies, and_true, true_and, x_10, xs_aload_n_0, xs_bipush_118, xs_istore_n_2_i, xs_istore_n_2_a, xs_istore_n_2_n, xs_istore_n_2_l, xs_dup2, xs_iconst_1, xs_iadd, xs_iload_n_2, xs_istore_n_3_i, xs_istore_n_3_a, xs_istore_n_3_n, xs_istore_n_3_l, xs_iload_n_3, xs_istore_4_i, xs_istore_4_a, xs_istore_4_n, xs_istore_4_l, xs_iload_4, xs_iload_n_1, xs_iconst_0, xs_iconst_2, xs_iconst_3, xs_iconst_m1, xs_iconst_4, xs_if_le, xs_if_ne, xs_return, xs_bipush_117, xs_icmp_le, xs_goto]) | (refine xr_getf (hb 0 _ rfl) (by rfl) ?_)))
  rw [e1]
  refine xa_iastore A 1 (by rfl) h2 (x_in (by rw [List.length_set, List.length_set, hl]; omega) (by rw [List.length_set, List.length_set, hl]; decide)) (fun h1 A => ?_)
  rw [xu_n (by omega)] at A
  have hb := A.hb
  (repeat (first | (simp only [xb_X8_listens_0, xb_X8_listens_91, xb_X8_listens_148, xb_X8_listens_149, xb_X8_listens_176, xs_nil, Nat.reduceAdd, true_implies, not_true_eq_false, not_false_eq_true, false_implies, and_true, true_and, x_10, xs_aload_n_0, xs_bipush_118, xs_istore_n_2_i, xs_istore_n_2_a, xs_istore_n_2_n, xs_istore_n_2_l, xs_dup2, xs_iconst_1, xs_iadd, xs_iload_n_2, xs_istore_n_3_i, xs_istore_n_3_a, xs_istore_n_3_n, xs_istore_n_3_l, xs_iload_n_3, xs_istore_4_i, xs_istore_4_a, xs_istore_4_n, xs_istore_4_l, xs_iload_4, xs_iload_n_1, xs_iconst_0, xs_iconst_2, xs_iconst_3, xs_iconst_m1, xs_iconst_4, xs_if_le, xs_if_ne, xs_return, xs_bipush_117, xs_icmp_le, xs_goto]) | (refine xr_getf (hb 0 _ rfl) (by rfl) ?_)))
  rw [e2]
  refine xa_iastore A 1 (by rfl) h2 (x_in (by rw [List.length_set, List.length_set, List.length_set, hl]; omega) (by rw [List.length_set, List.length_set, List.length_set, hl]; decide)) (fun h1 A => ?_)
  rw [xu_n (by omega)] at A
  have hb := A.hb
  (repeat (first | (simp only [xb_X8_listens_0, xb_X8_listens_91, xb_X8_listens_148, xb_X8_listens_149, xb_X8_listens_176, xs_nil, Nat.reduceAdd, true_implies, not_true_eq_false, not_false_eq_true, false_implies, and_true, true_and, x_10, xs_aload_n_0, xs_bipush_118, xs_istore_n_2_i, xs_istore_n_2_a, xs_istore_n_2_n, xs_istore_n_2_l, xs_dup2, xs_iconst_1, xs_iadd, xs_iload_n_2, xs_istore_n_3_i, xs_istore_n_3_a, xs_istore_n_3_n, xs_istore_n_3_l, xs_iload_n_3, xs_istore_4_i, xs_istore_4_a, xs_istore_4_n, xs_istore_4_l, xs_iload_4, xs_iload_n_1, xs_iconst_0, xs_iconst_2, xs_iconst_3, xs_iconst_m1, xs_iconst_4, xs_if_le, xs_if_ne, xs_return, xs_bipush_117, xs_icmp_le, xs_goto]) | (refine xr_getf (hb 0 _ rfl) (by rfl) ?_)))
  rw [e3]
  refine xa_iastore A 1 (by rfl) h2 (x_in (by rw [List.length_set, List.length_set, List.length_set, List.length_set, hl]; omega) (by rw [List.length_set, List.length_set, List.length_set, List.length_set, hl]; decide)) (fun h1 A => ?_)
  rw [xu_n (by omega)] at A
  have hb := A.hb
  (repeat (first | (simp only [xb_X8_listens_0, xb_X8_listens_91, xb_X8_listens_148, xb_X8_listens_149, xb_X8_listens_176, xs_nil, Nat.reduceAdd, true_implies, not_true_eq_false, not_false_eq_true, false_implies, and_true, true_and, x_10, xs_aload_n_0, xs_bipush_118, xs_istore_n_2_i, xs_istore_n_2_a, xs_istore_n_2_n, xs_istore_n_2_l, xs_dup2, xs_iconst_1, xs_iadd, xs_iload_n_2, xs_istore_n_3_i, xs_istore_n_3_a, xs_istore_n_3_n, xs_istore_n_3_l, xs_iload_n_3, xs_istore_4_i, xs_istore_4_a, xs_istore_4_n, xs_istore_4_l, xs_iload_4, xs_iload_n_1, xs_iconst_0, xs_iconst_2, xs_iconst_3, xs_iconst_m1, xs_iconst_4, xs_if_le, xs_if_ne, xs_return, xs_bipush_117, xs_icmp_le, xs_goto]) | (refine xr_getf (hb 0 _ rfl) (by rfl) ?_)))
  rw [e4]
  refine xa_iastore A 1 (by rfl) h2 (x_in (by rw [List.length_set, List.length_set, List.length_set, List.length_set, List.length_set, hl]; omega) (by rw [List.length_set, List.length_set, List.length_set, List.length_set, List.length_set, hl]; decide)) (fun h1 A => ?_)
  rw [xu_n (by omega)] at A
  have A : xA h m (x_mc m (nword s nw (nI j) 0 0 (-1) 0) asd pa sts rf tx byt (hs.map nI) rd so ah ar tr bg fo bc br bk le fr nu od sp wr ha) h1 := A
  have hb := A.hb
  obtain ⟨H1, H2⟩ := H h1 A
  obtain ⟨w0, _, _, _, _, _, _, w7⟩ := nword_get (s := s) (e := nI j) (r := 0) (t := 0) (c := -1) (d := 0) hl hn
  (repeat (first | (simp only [xb_X8_listens_0, xb_X8_listens_91, xb_X8_listens_148, xb_X8_listens_149, xb_X8_listens_176, xs_nil, Nat.reduceAdd, true_implies, not_true_eq_false, not_false_eq_true, false_implies, and_true, true_and, x_10, xs_aload_n_0, xs_bipush_118, xs_istore_n_2_i, xs_istore_n_2_a, xs_istore_n_2_n, xs_istore_n_2_l, xs_dup2, xs_iconst_1, xs_iadd, xs_iload_n_2, xs_istore_n_3_i, xs_istore_n_3_a, xs_istore_n_3_n, xs_istore_n_3_l, xs_iload_n_3, xs_istore_4_i, xs_istore_4_a, xs_istore_4_n, xs_istore_4_l, xs_iload_4, xs_iload_n_1, xs_iconst_0, xs_iconst_2, xs_iconst_3, xs_iconst_m1, xs_iconst_4, xs_if_le, xs_if_ne, xs_return, xs_bipush_117, xs_icmp_le, xs_goto]) ))
  refine ⟨fun q => H1 (fun z => absurd q (nI_nle z.1 (by omega))), fun q => ?_⟩
  have hpos : 0 < sn s := Nat.pos_of_ne_zero fun z => q (by rw [z]; decide)
  have eix : (119 : Int32) + 5 * (nI (sn s) - 1) + 3 = nI (119 + 5 * (sn s - 1) + 3) := by rw [wp_n (by omega)]; exact nI_k _ 3 rfl
  have cH := c_holds (x1 := nI (sn s)) hb (fun _ => by rw [eix, w0]; exact x_in (by omega) (by decide))
  rw [eix, xg_n (by omega), w7 _ (by omega) (Or.inl (by omega))] at cH
  (repeat (first | (simp only [xb_X8_listens_0, xb_X8_listens_91, xb_X8_listens_148, xb_X8_listens_149, xb_X8_listens_176, xs_nil, Nat.reduceAdd, true_implies, not_true_eq_false, not_false_eq_true, false_implies, and_true, true_and, x_10, xs_aload_n_0, xs_bipush_118, xs_istore_n_2_i, xs_istore_n_2_a, xs_istore_n_2_n, xs_istore_n_2_l, xs_dup2, xs_iconst_1, xs_iadd, xs_iload_n_2, xs_istore_n_3_i, xs_istore_n_3_a, xs_istore_n_3_n, xs_istore_n_3_l, xs_iload_n_3, xs_istore_4_i, xs_istore_4_a, xs_istore_4_n, xs_istore_4_l, xs_iload_4, xs_iload_n_1, xs_iconst_0, xs_iconst_2, xs_iconst_3, xs_iconst_m1, xs_iconst_4, xs_if_le, xs_if_ne, xs_return, xs_bipush_117, xs_icmp_le, xs_goto]) | refine xc_v2_1 (cH) (Nat.le_of_ble_eq_true rfl) ?_))
  have hp0 : 0 < nI (sn s) := nI_lt (a := 0) hpos (by omega)
  by_cases hz : 0 ≤ nw.getD (119 + 5 * (sn s - 1) + 3) 0
  · rw [if_pos ⟨hp0, hz⟩]
    exact ⟨fun _ => H1 (fun z => z.2 hz), fun z => absurd (by decide) z⟩
  · rw [if_neg (fun z => hz z.2)]
    refine ⟨fun z => absurd rfl z, fun _ => ?_⟩
    (repeat (first | (simp only [xb_X8_listens_0, xb_X8_listens_91, xb_X8_listens_148, xb_X8_listens_149, xb_X8_listens_176, xs_nil, Nat.reduceAdd, true_implies, not_true_eq_false, not_false_eq_true, false_implies, and_true, true_and, x_10, xs_aload_n_0, xs_bipush_118, xs_istore_n_2_i, xs_istore_n_2_a, xs_istore_n_2_n, xs_istore_n_2_l, xs_dup2, xs_iconst_1, xs_iadd, xs_iload_n_2, xs_istore_n_3_i, xs_istore_n_3_a, xs_istore_n_3_n, xs_istore_n_3_l, xs_iload_n_3, xs_istore_4_i, xs_istore_4_a, xs_istore_4_n, xs_istore_4_l, xs_iload_4, xs_iload_n_1, xs_iconst_0, xs_iconst_2, xs_iconst_3, xs_iconst_m1, xs_iconst_4, xs_if_le, xs_if_ne, xs_return, xs_bipush_117, xs_icmp_le, xs_goto]) ))
    exact (H2 ⟨hpos, hz⟩)
end MO13
