/-! constructors: PathReader; the reference's table of trees -/
abbrev z120 : List Int32 := List.replicate 120 0
def bPR (g : Nat) : List xE := [.inr (6, [.ref (g + 1), .ref (g + 14), .ref (g + 27), .ref (g + 107), .ref (g + 113), .ref (g + 119)])] ++ (x_ts (g + 1) s0 ++ (x_ts (g + 14) s0 ++ (bSh (g + 27) ++ (x_hs (g + 107) k0 ++ (x_rc (g + 113) z120 z120 z120 z120 z120 0 0 0 0 ++ [xi (List.replicate 3 0)])))))
theorem i_reader (h0 : xH) (h2 : 2 ≤ h0.length) : xK 7 [.ref h0.length] (h0 ++ [.inr (6, xdef x_tf x_fn 6)]) none (h0 ++ bPR h0.length) := by
  rw [xd6]
  have N : xN h0 [.inr (6, [.null, .null, .null, .null, .null, .null])] (h0 ++ [.inr (6, [.null, .null, .null, .null, .null, .null])]) := rfl
  generalize h0 ++ [.inr (6, [.null, .null, .null, .null, .null, .null])] = h at N
  generalize hg : h0.length = g at *
  refine xK_X7_init (xe_X7_init_0 ?_)
  (repeat (first | (simp only [xb_X7_init_0, xs_nil, Nat.reduceAdd, true_implies, not_true_eq_false, not_false_eq_true, false_implies, and_true, true_and, x_10, xs_aload_n_0, xs_dup_i, xs_dup_a, xs_iconst_3, xs_return]) | (rw [xs_obj (Nat.le_of_ble_eq_true rfl)])))
  subst hg
  refine xn_new N 1 (by rfl) (fun h1 N => ?_)
  obtain ⟨h3, N3, c1⟩ : ∃ h3, xN h0 (([.inr (6, [.null, .null, .null, .null, .null, .null])] : List xE) ++ x_ts (h0.length + 1) s0) h3 ∧ xK 2 [.ref (h0.length + 1)] h1 none h3 := ⟨_, xN.mk, xN_call (F := fun g => x_ts g s0) N (by rfl) h2 i_state⟩
  (repeat (first | (simp only [xb_X7_init_0, xs_nil, Nat.reduceAdd, true_implies, not_true_eq_false, not_false_eq_true, false_implies, and_true, true_and, x_10, xs_aload_n_0, xs_dup_i, xs_dup_a, xs_iconst_3, xs_return]) | (rw [xn_dup]) | refine xc_i1_0 (by decide) (c1) (Nat.le_of_ble_eq_true rfl) ?_))
  refine xn_putf N3 h2 (k := 0) (by rfl) (by exact Nat.le_of_ble_eq_true rfl) (x_fit_obj _ _) (fun h1 N => ?_)
  (repeat (first | (simp only [xb_X7_init_0, xs_nil, Nat.reduceAdd, true_implies, not_true_eq_false, not_false_eq_true, false_implies, and_true, true_and, x_10, xs_aload_n_0, xs_dup_i, xs_dup_a, xs_iconst_3, xs_return]) ))
  refine xn_new N 14 (by rfl) (fun h1 N => ?_)
  obtain ⟨h3, N3, c1⟩ : ∃ h3, xN h0 (([.inr (6, [.ref (h0.length + 1), .null, .null, .null, .null, .null])] : List xE) ++ (x_ts (h0.length + 1) s0 ++ x_ts (h0.length + 14) s0)) h3 ∧ xK 2 [.ref (h0.length + 14)] h1 none h3 := ⟨_, xN.mk, xN_call (F := fun g => x_ts g s0) N (by rfl) h2 i_state⟩
  (repeat (first | (simp only [xb_X7_init_0, xs_nil, Nat.reduceAdd, true_implies, not_true_eq_false, not_false_eq_true, false_implies, and_true, true_and, x_10, xs_aload_n_0, xs_dup_i, xs_dup_a, xs_iconst_3, xs_return]) | (rw [xn_dup]) | refine xc_i1_0 (by decide) (c1) (Nat.le_of_ble_eq_true rfl) ?_))
  refine xn_putf N3 h2 (k := 0) (by rfl) (by exact Nat.le_of_ble_eq_true rfl) (x_fit_obj _ _) (fun h1 N => ?_)
  (repeat (first | (simp only [xb_X7_init_0, xs_nil, Nat.reduceAdd, true_implies, not_true_eq_false, not_false_eq_true, false_implies, and_true, true_and, x_10, xs_aload_n_0, xs_dup_i, xs_dup_a, xs_iconst_3, xs_return]) ))
  refine xn_new N 27 (by rfl) (fun h1 N => ?_)
  obtain ⟨h3, N3, c1⟩ : ∃ h3, xN h0 (([.inr (6, [.ref (h0.length + 1), .ref (h0.length + 14), .null, .null, .null, .null])] : List xE) ++ (x_ts (h0.length + 1) s0 ++ (x_ts (h0.length + 14) s0 ++ bSh (h0.length + 27)))) h3 ∧ xK 3 [.ref (h0.length + 27)] h1 none h3 := ⟨_, xN.mk, xN_call (F := fun g => bSh g) N (by rfl) h2 i_shelf⟩
  (repeat (first | (simp only [xb_X7_init_0, xs_nil, Nat.reduceAdd, true_implies, not_true_eq_false, not_false_eq_true, false_implies, and_true, true_and, x_10, xs_aload_n_0, xs_dup_i, xs_dup_a, xs_iconst_3, xs_return]) | (rw [xn_dup]) | refine xc_i1_0 (by decide) (c1) (Nat.le_of_ble_eq_true rfl) ?_))
  refine xn_putf N3 h2 (k := 0) (by rfl) (by exact Nat.le_of_ble_eq_true rfl) (x_fit_obj _ _) (fun h1 N => ?_)
  (repeat (first | (simp only [xb_X7_init_0, xs_nil, Nat.reduceAdd, true_implies, not_true_eq_false, not_false_eq_true, false_implies, and_true, true_and, x_10, xs_aload_n_0, xs_dup_i, xs_dup_a, xs_iconst_3, xs_return]) ))
  refine xn_new N 107 (by rfl) (fun h1 N => ?_)
  obtain ⟨h3, N3, c1⟩ : ∃ h3, xN h0 (([.inr (6, [.ref (h0.length + 1), .ref (h0.length + 14), .ref (h0.length + 27), .null, .null, .null])] : List xE) ++ (x_ts (h0.length + 1) s0 ++ (x_ts (h0.length + 14) s0 ++ (bSh (h0.length + 27) ++ x_hs (h0.length + 107) k0)))) h3 ∧ xK 5 [.ref (h0.length + 107)] h1 none h3 := ⟨_, xN.mk, xN_call (F := fun g => x_hs g k0) N (by rfl) h2 i_chart⟩
  (repeat (first | (simp only [xb_X7_init_0, xs_nil, Nat.reduceAdd, true_implies, not_true_eq_false, not_false_eq_true, false_implies, and_true, true_and, x_10, xs_aload_n_0, xs_dup_i, xs_dup_a, xs_iconst_3, xs_return]) | (rw [xn_dup]) | refine xc_i1_0 (by decide) (c1) (Nat.le_of_ble_eq_true rfl) ?_))
  refine xn_putf N3 h2 (k := 0) (by rfl) (by exact Nat.le_of_ble_eq_true rfl) (x_fit_obj _ _) (fun h1 N => ?_)
  (repeat (first | (simp only [xb_X7_init_0, xs_nil, Nat.reduceAdd, true_implies, not_true_eq_false, not_false_eq_true, false_implies, and_true, true_and, x_10, xs_aload_n_0, xs_dup_i, xs_dup_a, xs_iconst_3, xs_return]) ))
  refine xn_new N 113 (by rfl) (fun h1 N => ?_)
  obtain ⟨h3, N3, c1⟩ : ∃ h3, xN h0 (([.inr (6, [.ref (h0.length + 1), .ref (h0.length + 14), .ref (h0.length + 27), .ref (h0.length + 107), .null, .null])] : List xE) ++ (x_ts (h0.length + 1) s0 ++ (x_ts (h0.length + 14) s0 ++ (bSh (h0.length + 27) ++ (x_hs (h0.length + 107) k0 ++ x_rc (h0.length + 113) z120 z120 z120 z120 z120 0 0 0 0))))) h3 ∧ xK 6 [.ref (h0.length + 113)] h1 none h3 := ⟨_, xN.mk, xN_call (F := fun g => x_rc g z120 z120 z120 z120 z120 0 0 0 0) N (by rfl) h2 i_script⟩
  (repeat (first | (simp only [xb_X7_init_0, xs_nil, Nat.reduceAdd, true_implies, not_true_eq_false, not_false_eq_true, false_implies, and_true, true_and, x_10, xs_aload_n_0, xs_dup_i, xs_dup_a, xs_iconst_3, xs_return]) | (rw [xn_dup]) | refine xc_i1_0 (by decide) (c1) (Nat.le_of_ble_eq_true rfl) ?_))
  refine xn_putf N3 h2 (k := 0) (by rfl) (by exact Nat.le_of_ble_eq_true rfl) (x_fit_obj _ _) (fun h1 N => ?_)
  (repeat (first | (simp only [xb_X7_init_0, xs_nil, Nat.reduceAdd, true_implies, not_true_eq_false, not_false_eq_true, false_implies, and_true, true_and, x_10, xs_aload_n_0, xs_dup_i, xs_dup_a, xs_iconst_3, xs_return]) ))
  refine xn_newi N 3 119 rfl (by decide) (by rfl) (fun h1 N => ?_)
  refine xn_putf N h2 (k := 0) (by rfl) (by exact Nat.le_of_ble_eq_true rfl) (x_fit_arr _ _) (fun h1 N => ?_)
  (repeat (first | (simp only [xb_X7_init_0, xs_nil, Nat.reduceAdd, true_implies, not_true_eq_false, not_false_eq_true, false_implies, and_true, true_and, x_10, xs_aload_n_0, xs_dup_i, xs_dup_a, xs_iconst_3, xs_return]) ))
  exact N.symm
/-! which codes the reference lays -/
def nz (hs : List Nat) (n : Nat) : Prop := hs.length = 7 ∧ hs.getD 0 0 = 0 ∧ ∀ k, n < k → hs.getD k 0 = 0
theorem nlay_len {b : Nat} : ∀ (w c : Nat) (hs : List Nat), (nlay hs b c w).length = hs.length
  | 0, _, _ => rfl
  | w + 1, c, hs => by
    show (nlay (hs.set (w + 1) _) b _ w).length = _
    rw [nlay_len w, List.length_set]
theorem hs0_get (k : Nat) : hs0.getD k 0 = 0 := by
  unfold hs0
  rcases (show k = 0 ∨ k = 1 ∨ k = 2 ∨ k = 3 ∨ k = 4 ∨ k = 5 ∨ k = 6 ∨ 7 ≤ k by omega) with rfl | rfl | rfl | rfl | rfl | rfl | rfl | h
  all_goals first | rfl | skip
  rw [List.getD_eq_getElem?_getD, List.getElem?_eq_none (by simpa using h)]
  rfl
theorem nlay_hs0 {hs : List Nat} {n c : Nat} (h6 : n ≤ 6) (hz : nz hs n) : nlay hs (n + 1) c n = nlay hs0 (n + 1) c n := by
  apply List.ext_getElem?
  intro k
  have l1 : (nlay hs (n + 1) c n).length = 7 := by rw [nlay_len]; exact hz.1
  have l2 : (nlay hs0 (n + 1) c n).length = 7 := by rw [nlay_len]; rfl
  by_cases hk : k < 7
  · have e : (nlay hs (n + 1) c n).getD k 0 = (nlay hs0 (n + 1) c n).getD k 0 := by
      rw [nlay_get n c hs k (by rw [hz.1]; omega), nlay_get n c hs0 k (by show n < 7; omega)]
      by_cases h1 : 1 ≤ k ∧ k ≤ n
      · rw [if_pos h1, if_pos h1]
      · rw [if_neg h1, if_neg h1, hs0_get]
        by_cases hk0 : k = 0
        · rw [hk0]
          exact hz.2.1
        · exact hz.2.2 k (by omega)
    rw [List.getD_eq_getElem?_getD, List.getD_eq_getElem?_getD, List.getElem?_eq_getElem (by omega), List.getElem?_eq_getElem (by omega)] at e
    rw [List.getElem?_eq_getElem (by omega), List.getElem?_eq_getElem (by omega)]
    exact congrArg some e
  · rw [List.getElem?_eq_none (by omega), List.getElem?_eq_none (by omega)]
theorem nz_lay {hs : List Nat} {n c : Nat} (h6 : n ≤ 6) (hz : nz hs n) : nz (nlay hs (n + 1) c n) n := by
  refine ⟨by rw [nlay_len]; exact hz.1, ?_, fun k hk => ?_⟩
  · rw [nlay_get n c hs 0 (by rw [hz.1]; omega), if_neg (by omega)]
    exact hz.2.1
  · rw [nlay_get n c hs k (by rw [hz.1]; omega), if_neg (by omega)]
    exact hz.2.2 k hk
theorem ncodes_eq {n : Nat} {s : List Nat × List Nat} (h6 : n ≤ 6) (hz : nz s.1 n) : ∀ C, s.2.length + ((List.range C).filter (isT n)).length ≤ 911 → (ncodes n s C).2 = s.2 ++ (List.range C).filter (isT n) ∧ nz (ncodes n s C).1 n
  | 0, _ => ⟨by show s.2 = s.2 ++ []; rw [List.append_nil], hz⟩
  | C + 1, hb => by
    rw [List.range_succ, List.filter_append, List.length_append] at hb
    obtain ⟨i1, i2⟩ := ncodes_eq h6 hz C (by omega)
    show (nstep n (ncodes n s C) C).2 = _ ∧ nz (nstep n (ncodes n s C) C).1 n
    unfold nstep
    refine ⟨?_, nz_lay h6 i2⟩
    dsimp only
    rw [nlay_hs0 h6 i2, i1, List.range_succ, List.filter_append]
    by_cases ht : isT n C = true
    · have e : [C].filter (isT n) = [C] := by rw [List.filter_cons_of_pos ht]; rfl
      rw [e, List.length_cons, List.length_nil] at hb
      rw [if_pos ⟨by rw [List.length_append]; omega, ht⟩, e, List.append_assoc]
    · have e : [C].filter (isT n) = [] := by rw [List.filter_cons_of_neg ht]; rfl
      rw [if_neg (fun z => ht z.2), e, List.append_nil]
def tA : Nat → List Nat
  | 0 => []
  | k + 1 => tA k ++ tT (k + 1)
theorem tA_len : ∀ k, k ≤ 6 → (tA k).length ≤ 911 := by
  intro k hk
  rcases (show k = 0 ∨ k = 1 ∨ k = 2 ∨ k = 3 ∨ k = 4 ∨ k = 5 ∨ k = 6 by omega) with rfl | rfl | rfl | rfl | rfl | rfl | rfl
  all_goals exact Nat.le_of_ble_eq_true (by decide +kernel)
theorem nall_eq {bg : List Int32} (hbg : bg.length = 8) : ∀ k, k ≤ 6 → (nall hs0 bg k).1.2 = tA k ∧ nz (nall hs0 bg k).1.1 (k + 1) ∧ (nall hs0 bg k).2.length = 8 ∧ ∀ j, 1 ≤ j → j ≤ k → (nall hs0 bg k).2.getD j 0 = nI (tA (j - 1)).length
  | 0, _ => ⟨rfl, ⟨rfl, rfl, fun k _ => hs0_get k⟩, hbg, fun j h1 h2 => by omega⟩
  | k + 1, hk => by
    obtain ⟨i1, i2, i3, i4⟩ := nall_eq hbg k (by omega)
    have hT := tT_eq (k + 1) (by omega) hk
    have hl := tA_len (k + 1) hk
    have e : (tA (k + 1)).length = (tA k).length + (tT (k + 1)).length := by
      show (tA k ++ tT (k + 1)).length = _
      rw [List.length_append]
    obtain ⟨c1, c2⟩ := ncodes_eq (s := (nall hs0 bg k).1) hk i2 ((k + 1 + 1) ^ (k + 1)) (by rw [i1, hT]; omega)
    refine ⟨?_, ?_, ?_, fun j h1 h2 => ?_⟩
    · show (ncodes (k + 1) (nall hs0 bg k).1 ((k + 2) ^ (k + 1))).2 = _
      rw [c1, i1, hT]
      rfl
    · obtain ⟨d1, d2, d3⟩ := c2
      exact ⟨d1, d2, fun q hq => d3 q (by omega)⟩
    · show (List.set _ _ _).length = _
      rw [List.length_set]
      exact i3
    · show ((nall hs0 bg k).2.set (k + 1) (nI (nall hs0 bg k).1.2.length)).getD j 0 = _
      rw [sg (by rw [i3]; omega), i1]
      by_cases hj : j = k + 1
      · rw [if_pos hj, hj, Nat.add_sub_cancel]
      · rw [if_neg hj]
        exact i4 j h1 (by omega)
theorem tA_get {n : Nat} (h1 : 1 ≤ n) (h6 : n ≤ 6) {j : Nat} (hj : j < (tT n).length) : (tA 6).getD ((tA (n - 1)).length + j) 0 = (tT n).getD j 0 ∧ (tA (n - 1)).length + (tT n).length ≤ (tA 6).length := by
  have key : ∀ m, n ≤ m → ∃ R, tA m = tA (n - 1) ++ (tT n ++ R) := by
    intro m
    induction m with
    | zero => intro h; omega
    | succ m ih =>
      intro h
      by_cases hm : n = m + 1
      · subst hm
        exact ⟨[], by rw [List.append_nil]; rfl⟩
      · obtain ⟨R, e⟩ := ih (by omega)
        refine ⟨R ++ tT (m + 1), ?_⟩
        show tA m ++ tT (m + 1) = _
        rw [e, List.append_assoc, List.append_assoc]
  obtain ⟨R, e⟩ := key 6 h6
  rw [e]
  refine ⟨?_, by rw [List.length_append, List.length_append]; omega⟩
  rw [List.getD_eq_getElem?_getD, List.getElem?_append_right (by omega), Nat.add_sub_cancel_left, List.getElem?_append_left hj, List.getD_eq_getElem?_getD]
theorem tOK_0 {bg tr0 : List Int32} (hbg : bg.length = 8) (htr : tr0.length = 911) : tOK (ntrs tr0 (nall hs0 bg 6).1.2) ((nall hs0 bg 6).2.set 7 (nI (nall hs0 bg 6).1.2.length)) := by
  obtain ⟨i1, i2, i3, i4⟩ := nall_eq hbg 6 (Nat.le_refl _)
  have hl := tA_len 6 (Nat.le_refl _)
  rw [i1]
  refine ⟨by rw [ntrs_len (by omega)]; exact htr, by rw [List.length_set]; exact i3, fun n h1 h6 => ⟨(tA (n - 1)).length, (tA n).length, tA_len n h6, ?_, ?_, ?_, fun j hj => ⟨?_, ?_⟩⟩⟩
  · rw [xg_n (by omega), gs_ne (by omega)]
    exact i4 n h1 h6
  · rw [xg_n (by omega), sg (by rw [i3]; omega)]
    by_cases hn : n + 1 = 7
    · rw [if_pos hn, show n = 6 by omega]
    · rw [if_neg hn, i4 (n + 1) (by omega) (by omega), Nat.add_sub_cancel]
  · obtain ⟨k, rfl⟩ : ∃ k, n = k + 1 := ⟨n - 1, by omega⟩
    show (tA (k + 1 - 1)).length + _ = (tA k ++ tT (k + 1)).length
    rw [List.length_append, Nat.add_sub_cancel]
  · obtain ⟨g1, g2⟩ := tA_get h1 h6 hj
    unfold ntrs
    rw [List.getD_eq_getElem?_getD, List.getElem?_append_left (by rw [List.length_map]; omega), List.getElem?_map]
    rw [List.getD_eq_getElem?_getD] at g1
    rw [List.getElem?_eq_getElem (by omega)] at g1 ⊢
    show nI _ = _
    rw [← g1]
    rfl
  · have hm := tT_mem h1 h6 (List.getElem_mem hj)
    rw [List.getD_eq_getElem?_getD, List.getElem?_eq_getElem hj]
    have hp : (n + 1) ^ n ≤ 7 ^ 6 := Nat.le_trans (Nat.pow_le_pow_left (by omega) n) (Nat.pow_le_pow_right (by decide) h6)
    have : 7 ^ 6 < 2 ^ 31 := by decide
    show (tT n)[j] < _
    omega
