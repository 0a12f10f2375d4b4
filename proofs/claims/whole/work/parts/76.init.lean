/-! constructors: Grammar, Sentence, State, Script -/
theorem xN.mk {h0 cs : List xE} : xN h0 cs (h0 ++ cs) := rfl
theorem xd1 : xdef x_tf x_fn 1 = [.null, .null, .null, .null, .null, .int 0] := by rfl
theorem xd2 : xdef x_tf x_fn 2 = [.null, .null, .null, .null, .null, .int 0, .int 0, .int 0, .int 0] := by rfl
theorem xd3 : xdef x_tf x_fn 3 = [.null, .null, .null, .null, .null, .int 0] := by rfl
theorem xd4 : xdef x_tf x_fn 4 = [.null, .int 0, .int 0] := by rfl
theorem xd5 : xdef x_tf x_fn 5 = [.null, .null] := by rfl
theorem xd0 : xdef x_tf x_fn 0 = [.null, .null, .null, .null, .null, .long 0, .int 0] := by rfl
theorem xd6 : xdef x_tf x_fn 6 = [.null, .null, .null, .null, .null, .null] := by rfl
section INI2
variable {h0 h h' : xH} {r : Option Value}
theorem i_grammar (h0 : xH) (h2 : 2 ≤ h0.length) : xK 0 [.ref h0.length] (h0 ++ [.inr (1, xdef x_tf x_fn 1)]) none (h0 ++ x_gc h0.length gP0 gR0 (List.replicate 24 0) (List.replicate 12 0) gT0 0) := by
  rw [xd1]
  have N : xN h0 [.inr (1, [.null, .null, .null, .null, .null, .int 0])] (h0 ++ [.inr (1, [.null, .null, .null, .null, .null, .int 0])]) := rfl
  generalize h0 ++ [.inr (1, [.null, .null, .null, .null, .null, .int 0])] = h at N
  refine xK_X1_init (xe_X1_init_0 ?_)
  (repeat (first | (simp only [xb_X1_init_0, xb_X1_init_63, xb_X1_init_85, xb_X1_init_87, xb_X1_init_106, xs_nil, Nat.reduceAdd, true_implies, not_true_eq_false, not_false_eq_true, false_implies, and_true, true_and, x_10, xs_aload_n_0, xs_bipush_72, xs_bipush_6, xs_bipush_24, xs_bipush_12, xs_iconst_3, xs_dup_i, xs_dup_a, xs_iconst_0, xs_iconst_1, xs_iconst_2, xs_istore_n_1_i, xs_istore_n_1_a, xs_istore_n_1_n, xs_istore_n_1_l, xs_iload_n_1, xs_icmp_ge, xs_iconst_m1, xs_iinc_1_1_i, xs_iinc_1_1_a, xs_iinc_1_1_n, xs_goto, xs_return]) | (rw [xs_obj (Nat.le_of_ble_eq_true rfl)])))
  refine xn_newi N 72 1 rfl (by decide) (by rfl) (fun h1 N => ?_)
  refine xn_putf N h2 (k := 0) (by rfl) (by exact Nat.le_of_ble_eq_true rfl) (x_fit_arr _ _) (fun h1 N => ?_)
  (repeat (first | (simp only [xb_X1_init_0, xb_X1_init_63, xb_X1_init_85, xb_X1_init_87, xb_X1_init_106, xs_nil, Nat.reduceAdd, true_implies, not_true_eq_false, not_false_eq_true, false_implies, and_true, true_and, x_10, xs_aload_n_0, xs_bipush_72, xs_bipush_6, xs_bipush_24, xs_bipush_12, xs_iconst_3, xs_dup_i, xs_dup_a, xs_iconst_0, xs_iconst_1, xs_iconst_2, xs_istore_n_1_i, xs_istore_n_1_a, xs_istore_n_1_n, xs_istore_n_1_l, xs_iload_n_1, xs_icmp_ge, xs_iconst_m1, xs_iinc_1_1_i, xs_iinc_1_1_a, xs_iinc_1_1_n, xs_goto, xs_return]) ))
  refine xn_newi N 6 2 rfl (by decide) (by rfl) (fun h1 N => ?_)
  refine xn_putf N h2 (k := 0) (by rfl) (by exact Nat.le_of_ble_eq_true rfl) (x_fit_arr _ _) (fun h1 N => ?_)
  (repeat (first | (simp only [xb_X1_init_0, xb_X1_init_63, xb_X1_init_85, xb_X1_init_87, xb_X1_init_106, xs_nil, Nat.reduceAdd, true_implies, not_true_eq_false, not_false_eq_true, false_implies, and_true, true_and, x_10, xs_aload_n_0, xs_bipush_72, xs_bipush_6, xs_bipush_24, xs_bipush_12, xs_iconst_3, xs_dup_i, xs_dup_a, xs_iconst_0, xs_iconst_1, xs_iconst_2, xs_istore_n_1_i, xs_istore_n_1_a, xs_istore_n_1_n, xs_istore_n_1_l, xs_iload_n_1, xs_icmp_ge, xs_iconst_m1, xs_iinc_1_1_i, xs_iinc_1_1_a, xs_iinc_1_1_n, xs_goto, xs_return]) ))
  refine xn_newi N 24 3 rfl (by decide) (by rfl) (fun h1 N => ?_)
  refine xn_putf N h2 (k := 0) (by rfl) (by exact Nat.le_of_ble_eq_true rfl) (x_fit_arr _ _) (fun h1 N => ?_)
  (repeat (first | (simp only [xb_X1_init_0, xb_X1_init_63, xb_X1_init_85, xb_X1_init_87, xb_X1_init_106, xs_nil, Nat.reduceAdd, true_implies, not_true_eq_false, not_false_eq_true, false_implies, and_true, true_and, x_10, xs_aload_n_0, xs_bipush_72, xs_bipush_6, xs_bipush_24, xs_bipush_12, xs_iconst_3, xs_dup_i, xs_dup_a, xs_iconst_0, xs_iconst_1, xs_iconst_2, xs_istore_n_1_i, xs_istore_n_1_a, xs_istore_n_1_n, xs_istore_n_1_l, xs_iload_n_1, xs_icmp_ge, xs_iconst_m1, xs_iinc_1_1_i, xs_iinc_1_1_a, xs_iinc_1_1_n, xs_goto, xs_return]) ))
  refine xn_newi N 12 4 rfl (by decide) (by rfl) (fun h1 N => ?_)
  refine xn_putf N h2 (k := 0) (by rfl) (by exact Nat.le_of_ble_eq_true rfl) (x_fit_arr _ _) (fun h1 N => ?_)
  (repeat (first | (simp only [xb_X1_init_0, xb_X1_init_63, xb_X1_init_85, xb_X1_init_87, xb_X1_init_106, xs_nil, Nat.reduceAdd, true_implies, not_true_eq_false, not_false_eq_true, false_implies, and_true, true_and, x_10, xs_aload_n_0, xs_bipush_72, xs_bipush_6, xs_bipush_24, xs_bipush_12, xs_iconst_3, xs_dup_i, xs_dup_a, xs_iconst_0, xs_iconst_1, xs_iconst_2, xs_istore_n_1_i, xs_istore_n_1_a, xs_istore_n_1_n, xs_istore_n_1_l, xs_iload_n_1, xs_icmp_ge, xs_iconst_m1, xs_iinc_1_1_i, xs_iinc_1_1_a, xs_iinc_1_1_n, xs_goto, xs_return]) ))
  refine xn_newi N 3 5 rfl (by decide) (by rfl) (fun h1 N => ?_)
  (repeat (first | (simp only [xb_X1_init_0, xb_X1_init_63, xb_X1_init_85, xb_X1_init_87, xb_X1_init_106, xs_nil, Nat.reduceAdd, true_implies, not_true_eq_false, not_false_eq_true, false_implies, and_true, true_and, x_10, xs_aload_n_0, xs_bipush_72, xs_bipush_6, xs_bipush_24, xs_bipush_12, xs_iconst_3, xs_dup_i, xs_dup_a, xs_iconst_0, xs_iconst_1, xs_iconst_2, xs_istore_n_1_i, xs_istore_n_1_a, xs_istore_n_1_n, xs_istore_n_1_l, xs_iload_n_1, xs_icmp_ge, xs_iconst_m1, xs_iinc_1_1_i, xs_iinc_1_1_a, xs_iinc_1_1_n, xs_goto, xs_return]) | (rw [xn_dup])))
  refine xn_iastore N h2 (k := 5) (by rfl) (x_in (k := 0) (by decide) (by decide)) (fun h1 N => ?_)
  (repeat (first | (simp only [xb_X1_init_0, xb_X1_init_63, xb_X1_init_85, xb_X1_init_87, xb_X1_init_106, xs_nil, Nat.reduceAdd, true_implies, not_true_eq_false, not_false_eq_true, false_implies, and_true, true_and, x_10, xs_aload_n_0, xs_bipush_72, xs_bipush_6, xs_bipush_24, xs_bipush_12, xs_iconst_3, xs_dup_i, xs_dup_a, xs_iconst_0, xs_iconst_1, xs_iconst_2, xs_istore_n_1_i, xs_istore_n_1_a, xs_istore_n_1_n, xs_istore_n_1_l, xs_iload_n_1, xs_icmp_ge, xs_iconst_m1, xs_iinc_1_1_i, xs_iinc_1_1_a, xs_iinc_1_1_n, xs_goto, xs_return]) | (rw [xn_dup])))
  refine xn_iastore N h2 (k := 5) (by rfl) (x_in (k := 1) (by decide) (by decide)) (fun h1 N => ?_)
  (repeat (first | (simp only [xb_X1_init_0, xb_X1_init_63, xb_X1_init_85, xb_X1_init_87, xb_X1_init_106, xs_nil, Nat.reduceAdd, true_implies, not_true_eq_false, not_false_eq_true, false_implies, and_true, true_and, x_10, xs_aload_n_0, xs_bipush_72, xs_bipush_6, xs_bipush_24, xs_bipush_12, xs_iconst_3, xs_dup_i, xs_dup_a, xs_iconst_0, xs_iconst_1, xs_iconst_2, xs_istore_n_1_i, xs_istore_n_1_a, xs_istore_n_1_n, xs_istore_n_1_l, xs_iload_n_1, xs_icmp_ge, xs_iconst_m1, xs_iinc_1_1_i, xs_iinc_1_1_a, xs_iinc_1_1_n, xs_goto, xs_return]) | (rw [xn_dup])))
  refine xn_iastore N h2 (k := 5) (by rfl) (x_in (k := 2) (by decide) (by decide)) (fun h1 N => ?_)
  refine xn_putf N h2 (k := 0) (by rfl) (by exact Nat.le_of_ble_eq_true rfl) (x_fit_arr _ _) (fun h1 N => ?_)
  (repeat (first | (simp only [xb_X1_init_0, xb_X1_init_63, xb_X1_init_85, xb_X1_init_87, xb_X1_init_106, xs_nil, Nat.reduceAdd, true_implies, not_true_eq_false, not_false_eq_true, false_implies, and_true, true_and, x_10, xs_aload_n_0, xs_bipush_72, xs_bipush_6, xs_bipush_24, xs_bipush_12, xs_iconst_3, xs_dup_i, xs_dup_a, xs_iconst_0, xs_iconst_1, xs_iconst_2, xs_istore_n_1_i, xs_istore_n_1_a, xs_istore_n_1_n, xs_istore_n_1_l, xs_iload_n_1, xs_icmp_ge, xs_iconst_m1, xs_iinc_1_1_i, xs_iinc_1_1_a, xs_iinc_1_1_n, xs_goto, xs_return]) ))
  refine xn_putf N h2 (k := 0) (by rfl) (by exact Nat.le_of_ble_eq_true rfl) (x_fit_int _) (fun h1 N => ?_)
  (repeat (first | (simp only [xb_X1_init_0, xb_X1_init_63, xb_X1_init_85, xb_X1_init_87, xb_X1_init_106, xs_nil, Nat.reduceAdd, true_implies, not_true_eq_false, not_false_eq_true, false_implies, and_true, true_and, x_10, xs_aload_n_0, xs_bipush_72, xs_bipush_6, xs_bipush_24, xs_bipush_12, xs_iconst_3, xs_dup_i, xs_dup_a, xs_iconst_0, xs_iconst_1, xs_iconst_2, xs_istore_n_1_i, xs_istore_n_1_a, xs_istore_n_1_n, xs_istore_n_1_l, xs_iload_n_1, xs_icmp_ge, xs_iconst_m1, xs_iinc_1_1_i, xs_iinc_1_1_a, xs_iinc_1_1_n, xs_goto, xs_return]) ))
  have N : xN h0 (x_gc h0.length (fillm (List.replicate 72 0) 0 0) (List.replicate 6 0) (List.replicate 24 0) (List.replicate 12 0) gT0 0) h1 := N
  refine l_ginit1 h2 (fin := fun h2' a N2 => ?_) 72 0 h1 N (by omega)
  refine xe_X1_init_85 ?_
  (repeat (first | (simp only [xb_X1_init_0, xb_X1_init_63, xb_X1_init_85, xb_X1_init_87, xb_X1_init_106, xs_nil, Nat.reduceAdd, true_implies, not_true_eq_false, not_false_eq_true, false_implies, and_true, true_and, x_10, xs_aload_n_0, xs_bipush_72, xs_bipush_6, xs_bipush_24, xs_bipush_12, xs_iconst_3, xs_dup_i, xs_dup_a, xs_iconst_0, xs_iconst_1, xs_iconst_2, xs_istore_n_1_i, xs_istore_n_1_a, xs_istore_n_1_n, xs_istore_n_1_l, xs_iload_n_1, xs_icmp_ge, xs_iconst_m1, xs_iinc_1_1_i, xs_iinc_1_1_a, xs_iinc_1_1_n, xs_goto, xs_return]) ))
  exact l_ginit2 h2 5 0 h2' N2 (by omega)
theorem i_sentence (h0 : xH) (h2 : 2 ≤ h0.length) : xK 1 [.ref h0.length] (h0 ++ [.inr (3, xdef x_tf x_fn 3)]) none (h0 ++ x_sc h0.length (List.replicate 7 0) r70 r70 (List.replicate 7 0) (List.replicate 7 0) 0) := by
  rw [xd3]
  have N : xN h0 [.inr (3, [.null, .null, .null, .null, .null, .int 0])] (h0 ++ [.inr (3, [.null, .null, .null, .null, .null, .int 0])]) := rfl
  generalize h0 ++ [.inr (3, [.null, .null, .null, .null, .null, .int 0])] = h at N
  refine xK_X4_init (xe_X4_init_0 ?_)
  (repeat (first | (simp only [xb_X4_init_0, xs_nil, Nat.reduceAdd, true_implies, not_true_eq_false, not_false_eq_true, false_implies, and_true, true_and, x_10, xs_aload_n_0, xs_bipush_7, xs_iconst_0, xs_iconst_m1, xs_return]) | (rw [xs_obj (Nat.le_of_ble_eq_true rfl)])))
  refine xn_newi N 7 1 rfl (by decide) (by rfl) (fun h1 N => ?_)
  refine xn_putf N h2 (k := 0) (by rfl) (by exact Nat.le_of_ble_eq_true rfl) (x_fit_arr _ _) (fun h1 N => ?_)
  (repeat (first | (simp only [xb_X4_init_0, xs_nil, Nat.reduceAdd, true_implies, not_true_eq_false, not_false_eq_true, false_implies, and_true, true_and, x_10, xs_aload_n_0, xs_bipush_7, xs_iconst_0, xs_iconst_m1, xs_return]) ))
  refine xn_newi N 7 2 rfl (by decide) (by rfl) (fun h1 N => ?_)
  refine xn_putf N h2 (k := 0) (by rfl) (by exact Nat.le_of_ble_eq_true rfl) (x_fit_arr _ _) (fun h1 N => ?_)
  (repeat (first | (simp only [xb_X4_init_0, xs_nil, Nat.reduceAdd, true_implies, not_true_eq_false, not_false_eq_true, false_implies, and_true, true_and, x_10, xs_aload_n_0, xs_bipush_7, xs_iconst_0, xs_iconst_m1, xs_return]) ))
  refine xn_newi N 7 3 rfl (by decide) (by rfl) (fun h1 N => ?_)
  refine xn_putf N h2 (k := 0) (by rfl) (by exact Nat.le_of_ble_eq_true rfl) (x_fit_arr _ _) (fun h1 N => ?_)
  (repeat (first | (simp only [xb_X4_init_0, xs_nil, Nat.reduceAdd, true_implies, not_true_eq_false, not_false_eq_true, false_implies, and_true, true_and, x_10, xs_aload_n_0, xs_bipush_7, xs_iconst_0, xs_iconst_m1, xs_return]) ))
  refine xn_newi N 7 4 rfl (by decide) (by rfl) (fun h1 N => ?_)
  refine xn_putf N h2 (k := 0) (by rfl) (by exact Nat.le_of_ble_eq_true rfl) (x_fit_arr _ _) (fun h1 N => ?_)
  (repeat (first | (simp only [xb_X4_init_0, xs_nil, Nat.reduceAdd, true_implies, not_true_eq_false, not_false_eq_true, false_implies, and_true, true_and, x_10, xs_aload_n_0, xs_bipush_7, xs_iconst_0, xs_iconst_m1, xs_return]) ))
  refine xn_newi N 7 5 rfl (by decide) (by rfl) (fun h1 N => ?_)
  refine xn_putf N h2 (k := 0) (by rfl) (by exact Nat.le_of_ble_eq_true rfl) (x_fit_arr _ _) (fun h1 N => ?_)
  (repeat (first | (simp only [xb_X4_init_0, xs_nil, Nat.reduceAdd, true_implies, not_true_eq_false, not_false_eq_true, false_implies, and_true, true_and, x_10, xs_aload_n_0, xs_bipush_7, xs_iconst_0, xs_iconst_m1, xs_return]) ))
  refine xn_putf N h2 (k := 0) (by rfl) (by exact Nat.le_of_ble_eq_true rfl) (x_fit_int _) (fun h1 N => ?_)
  have N : xN h0 (x_sc h0.length (List.replicate 7 0) (List.replicate 7 0) (List.replicate 7 0) (List.replicate 7 0) (List.replicate 7 0) 0) h1 := N
  have hb := N.hb
  (repeat (first | (simp only [xb_X4_init_0, xs_nil, Nat.reduceAdd, true_implies, not_true_eq_false, not_false_eq_true, false_implies, and_true, true_and, x_10, xs_aload_n_0, xs_bipush_7, xs_iconst_0, xs_iconst_m1, xs_return]) | (refine xr_getf (hb 0 _ rfl) (by rfl) ?_)))
  refine xn_iastore N h2 (k := 2) (by rfl) (x_in (k := 0) (by decide) (by decide)) (fun h1 N => ?_)
  have hb := N.hb
  (repeat (first | (simp only [xb_X4_init_0, xs_nil, Nat.reduceAdd, true_implies, not_true_eq_false, not_false_eq_true, false_implies, and_true, true_and, x_10, xs_aload_n_0, xs_bipush_7, xs_iconst_0, xs_iconst_m1, xs_return]) | (refine xr_getf (hb 0 _ rfl) (by rfl) ?_)))
  refine xn_iastore N h2 (k := 3) (by rfl) (x_in (k := 0) (by decide) (by decide)) (fun h1 N => ?_)
  (repeat (first | (simp only [xb_X4_init_0, xs_nil, Nat.reduceAdd, true_implies, not_true_eq_false, not_false_eq_true, false_implies, and_true, true_and, x_10, xs_aload_n_0, xs_bipush_7, xs_iconst_0, xs_iconst_m1, xs_return]) ))
  exact N.symm
theorem i_state (h0 : xH) (h2 : 2 ≤ h0.length) : xK 2 [.ref h0.length] (h0 ++ [.inr (5, xdef x_tf x_fn 5)]) none (h0 ++ x_ts h0.length s0) := by
  rw [xd5]
  have N : xN h0 [.inr (5, [.null, .null])] (h0 ++ [.inr (5, [.null, .null])]) := rfl
  generalize h0 ++ [.inr (5, [.null, .null])] = h at N
  refine xK_X6_init (xe_X6_init_0 ?_)
  (repeat (first | (simp only [xb_X6_init_0, xs_nil, Nat.reduceAdd, true_implies, not_true_eq_false, not_false_eq_true, false_implies, and_true, true_and, x_10, xs_aload_n_0, xs_dup_i, xs_dup_a, xs_return]) | (rw [xs_obj (Nat.le_of_ble_eq_true rfl)])))
  refine xn_new N 1 (by rfl) (fun h1 N => ?_)
  obtain ⟨h3, N3, c1⟩ : ∃ h3, xN h0 (([.inr (5, [.null, .null])] : List xE) ++ x_gc (h0.length + 1) gP0 gR0 (List.replicate 24 0) (List.replicate 12 0) gT0 0) h3 ∧ xK 0 [.ref (h0.length + 1)] h1 none h3 := ⟨_, xN.mk, xN_call (F := fun g => x_gc g gP0 gR0 (List.replicate 24 0) (List.replicate 12 0) gT0 0) N (by rfl) h2 i_grammar⟩
  (repeat (first | (simp only [xb_X6_init_0, xs_nil, Nat.reduceAdd, true_implies, not_true_eq_false, not_false_eq_true, false_implies, and_true, true_and, x_10, xs_aload_n_0, xs_dup_i, xs_dup_a, xs_return]) | (rw [xn_dup]) | refine xc_i1_0 (by decide) (c1) (Nat.le_of_ble_eq_true rfl) ?_))
  refine xn_putf N3 h2 (k := 0) (by rfl) (by exact Nat.le_of_ble_eq_true rfl) (x_fit_obj _ _) (fun h1 N => ?_)
  (repeat (first | (simp only [xb_X6_init_0, xs_nil, Nat.reduceAdd, true_implies, not_true_eq_false, not_false_eq_true, false_implies, and_true, true_and, x_10, xs_aload_n_0, xs_dup_i, xs_dup_a, xs_return]) ))
  refine xn_new N 7 (by rfl) (fun h1 N => ?_)
  obtain ⟨h3, N3, c1⟩ : ∃ h3, xN h0 (([.inr (5, [.ref (h0.length + 1), .null])] : List xE) ++ x_gc (h0.length + 1) gP0 gR0 (List.replicate 24 0) (List.replicate 12 0) gT0 0 ++ x_sc (h0.length + 7) (List.replicate 7 0) r70 r70 (List.replicate 7 0) (List.replicate 7 0) 0) h3 ∧ xK 1 [.ref (h0.length + 7)] h1 none h3 := ⟨_, xN.mk, xN_call (F := fun g => x_sc g (List.replicate 7 0) r70 r70 (List.replicate 7 0) (List.replicate 7 0) 0) N (by rfl) h2 i_sentence⟩
  (repeat (first | (simp only [xb_X6_init_0, xs_nil, Nat.reduceAdd, true_implies, not_true_eq_false, not_false_eq_true, false_implies, and_true, true_and, x_10, xs_aload_n_0, xs_dup_i, xs_dup_a, xs_return]) | (rw [xn_dup]) | refine xc_i1_0 (by decide) (c1) (Nat.le_of_ble_eq_true rfl) ?_))
  refine xn_putf N3 h2 (k := 0) (by rfl) (by exact Nat.le_of_ble_eq_true rfl) (x_fit_obj _ _) (fun h1 N => ?_)
  (repeat (first | (simp only [xb_X6_init_0, xs_nil, Nat.reduceAdd, true_implies, not_true_eq_false, not_false_eq_true, false_implies, and_true, true_and, x_10, xs_aload_n_0, xs_dup_i, xs_dup_a, xs_return]) ))
  exact N.symm
theorem i_script (h0 : xH) (h2 : 2 ≤ h0.length) : xK 6 [.ref h0.length] (h0 ++ [.inr (2, xdef x_tf x_fn 2)]) none (h0 ++ x_rc h0.length (List.replicate 120 0) (List.replicate 120 0) (List.replicate 120 0) (List.replicate 120 0) (List.replicate 120 0) 0 0 0 0) := by
  rw [xd2]
  have N : xN h0 [.inr (2, [.null, .null, .null, .null, .null, .int 0, .int 0, .int 0, .int 0])] (h0 ++ [.inr (2, [.null, .null, .null, .null, .null, .int 0, .int 0, .int 0, .int 0])]) := rfl
  generalize h0 ++ [.inr (2, [.null, .null, .null, .null, .null, .int 0, .int 0, .int 0, .int 0])] = h at N
  refine xK_X3_init (xe_X3_init_0 ?_)
  (repeat (first | (simp only [xb_X3_init_0, xs_nil, Nat.reduceAdd, true_implies, not_true_eq_false, not_false_eq_true, false_implies, and_true, true_and, x_10, xs_aload_n_0, xs_bipush_120, xs_iconst_0, xs_return]) | (rw [xs_obj (Nat.le_of_ble_eq_true rfl)])))
  refine xn_newi N 120 1 rfl (by decide) (by rfl) (fun h1 N => ?_)
  refine xn_putf N h2 (k := 0) (by rfl) (by exact Nat.le_of_ble_eq_true rfl) (x_fit_arr _ _) (fun h1 N => ?_)
  (repeat (first | (simp only [xb_X3_init_0, xs_nil, Nat.reduceAdd, true_implies, not_true_eq_false, not_false_eq_true, false_implies, and_true, true_and, x_10, xs_aload_n_0, xs_bipush_120, xs_iconst_0, xs_return]) ))
  refine xn_newi N 120 2 rfl (by decide) (by rfl) (fun h1 N => ?_)
  refine xn_putf N h2 (k := 0) (by rfl) (by exact Nat.le_of_ble_eq_true rfl) (x_fit_arr _ _) (fun h1 N => ?_)
  (repeat (first | (simp only [xb_X3_init_0, xs_nil, Nat.reduceAdd, true_implies, not_true_eq_false, not_false_eq_true, false_implies, and_true, true_and, x_10, xs_aload_n_0, xs_bipush_120, xs_iconst_0, xs_return]) ))
  refine xn_newi N 120 3 rfl (by decide) (by rfl) (fun h1 N => ?_)
  refine xn_putf N h2 (k := 0) (by rfl) (by exact Nat.le_of_ble_eq_true rfl) (x_fit_arr _ _) (fun h1 N => ?_)
  (repeat (first | (simp only [xb_X3_init_0, xs_nil, Nat.reduceAdd, true_implies, not_true_eq_false, not_false_eq_true, false_implies, and_true, true_and, x_10, xs_aload_n_0, xs_bipush_120, xs_iconst_0, xs_return]) ))
  refine xn_newi N 120 4 rfl (by decide) (by rfl) (fun h1 N => ?_)
  refine xn_putf N h2 (k := 0) (by rfl) (by exact Nat.le_of_ble_eq_true rfl) (x_fit_arr _ _) (fun h1 N => ?_)
  (repeat (first | (simp only [xb_X3_init_0, xs_nil, Nat.reduceAdd, true_implies, not_true_eq_false, not_false_eq_true, false_implies, and_true, true_and, x_10, xs_aload_n_0, xs_bipush_120, xs_iconst_0, xs_return]) ))
  refine xn_newi N 120 5 rfl (by decide) (by rfl) (fun h1 N => ?_)
  refine xn_putf N h2 (k := 0) (by rfl) (by exact Nat.le_of_ble_eq_true rfl) (x_fit_arr _ _) (fun h1 N => ?_)
  (repeat (first | (simp only [xb_X3_init_0, xs_nil, Nat.reduceAdd, true_implies, not_true_eq_false, not_false_eq_true, false_implies, and_true, true_and, x_10, xs_aload_n_0, xs_bipush_120, xs_iconst_0, xs_return]) ))
  refine xn_putf N h2 (k := 0) (by rfl) (by exact Nat.le_of_ble_eq_true rfl) (x_fit_int _) (fun h1 N => ?_)
  (repeat (first | (simp only [xb_X3_init_0, xs_nil, Nat.reduceAdd, true_implies, not_true_eq_false, not_false_eq_true, false_implies, and_true, true_and, x_10, xs_aload_n_0, xs_bipush_120, xs_iconst_0, xs_return]) ))
  refine xn_putf N h2 (k := 0) (by rfl) (by exact Nat.le_of_ble_eq_true rfl) (x_fit_int _) (fun h1 N => ?_)
  (repeat (first | (simp only [xb_X3_init_0, xs_nil, Nat.reduceAdd, true_implies, not_true_eq_false, not_false_eq_true, false_implies, and_true, true_and, x_10, xs_aload_n_0, xs_bipush_120, xs_iconst_0, xs_return]) ))
  refine xn_putf N h2 (k := 0) (by rfl) (by exact Nat.le_of_ble_eq_true rfl) (x_fit_int _) (fun h1 N => ?_)
  (repeat (first | (simp only [xb_X3_init_0, xs_nil, Nat.reduceAdd, true_implies, not_true_eq_false, not_false_eq_true, false_implies, and_true, true_and, x_10, xs_aload_n_0, xs_bipush_120, xs_iconst_0, xs_return]) ))
  refine xn_putf N h2 (k := 0) (by rfl) (by exact Nat.le_of_ble_eq_true rfl) (x_fit_int _) (fun h1 N => ?_)
  (repeat (first | (simp only [xb_X3_init_0, xs_nil, Nat.reduceAdd, true_implies, not_true_eq_false, not_false_eq_true, false_implies, and_true, true_and, x_10, xs_aload_n_0, xs_bipush_120, xs_iconst_0, xs_return]) ))
  exact N.symm
end INI2
