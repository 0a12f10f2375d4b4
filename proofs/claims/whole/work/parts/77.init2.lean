/-! constructors: Chart, Shelf, PathReader -/
def kf3 (l : List Int32) (f d : Nat) : Nat → List Int32
  | 0 => l
  | q + 1 => (kf3 l f d q).set (nsp f (f - 1) d q) 1
def kf2 (l : List Int32) (f : Nat) : Nat → List Int32
  | 0 => l
  | d + 1 => kf3 (kf2 l f d) f d 2
def kf1 (l : List Int32) : Nat → List Int32
  | 0 => l
  | f + 1 => kf2 (kf1 l f) (f + 1) 8
theorem kf3_len {l : List Int32} {f d : Nat} : ∀ q, (kf3 l f d q).length = l.length
  | 0 => rfl
  | q + 1 => by
    show (List.set _ _ _).length = _
    rw [List.length_set, kf3_len q]
theorem kf2_len {l : List Int32} {f : Nat} : ∀ d, (kf2 l f d).length = l.length
  | 0 => rfl
  | d + 1 => by
    show (kf3 (kf2 l f d) f d 2).length = _
    rw [kf3_len, kf2_len d]
theorem kf1_len {l : List Int32} : ∀ f, (kf1 l f).length = l.length
  | 0 => rfl
  | f + 1 => by
    show (kf2 (kf1 l f) (f + 1) 8).length = _
    rw [kf2_len, kf1_len f]
def cc0 : List Int32 := kf1 (List.replicate 1024 0) 7
/-- a new Chart -/
def k0 : kC := (List.replicate 256 0, (List.replicate 1024 0, List.replicate 1024 0, List.replicate 1024 0, cc0), Int64.ofNat 288230376151711744, 0)
section INI3
variable {h0 h h' : xH} {r : Option Value}
abbrev bC (g : Nat) (C : List Int32) : List xE := x_hc g (List.replicate 256 0) (List.replicate 1024 0) (List.replicate 1024 0) (List.replicate 1024 0) C (Int64.ofNat 288230376151711744) 0
theorem l_cinit3 (h2 : 2 ≤ h0.length) {L : List Int32} (hL : L.length = 1024) {f d : Nat} (h1 : 1 ≤ f) (hf : f < 8) (hd : d < 8) (fin : ∀ h (a : Option Value), xN h0 (bC h0.length (kf3 L f d 2)) h → x_EV 5 105 [some (.ref h0.length), some (.int (nI f)), some (.int (nI d)), a] [] h r h') : ∀ (dd q : Nat) (h : xH), xN h0 (bC h0.length (kf3 L f d q)) h → q + dd = 2 → x_EV 5 79 [some (.ref h0.length), some (.int (nI f)), some (.int (nI d)), some (.int (nI q))] [] h r h' := by
  intro dd
  induction dd with
  | zero =>
    intro q h N hq
    have eq : q = 2 := by omega
    subst eq
    refine xe_X0_init_79 ?_
    (repeat (first | (simp only [xb_X0_init_0, xb_X0_init_63, xb_X0_init_71, xb_X0_init_79, xb_X0_init_105, xb_X0_init_111, xb_X0_init_117, xs_nil, Nat.reduceAdd, true_implies, not_true_eq_false, not_false_eq_true, false_implies, and_true, true_and, x_10, xs_aload_n_0, xs_sipush_256, xs_sipush_1024, xs_ldc2, xs_iconst_0, xs_iconst_1, xs_istore_n_1_i, xs_istore_n_1_a, xs_istore_n_1_n, xs_istore_n_1_l, xs_iload_n_1, xs_bipush_8, xs_icmp_ge, xs_istore_n_2_i, xs_istore_n_2_a, xs_istore_n_2_n, xs_istore_n_2_l, xs_iload_n_2, xs_istore_n_3_i, xs_istore_n_3_a, xs_istore_n_3_n, xs_istore_n_3_l, xs_iload_n_3, xs_iconst_2, xs_isub, xs_iinc_3_1_i, xs_iinc_3_1_a, xs_iinc_3_1_n, xs_goto, xs_iinc_2_1_i, xs_iinc_2_1_a, xs_iinc_2_1_n, xs_iinc_1_1_i, xs_iinc_1_1_a, xs_iinc_1_1_n, xs_return]) ))
    exact ⟨fun _ => fin h _ N, fun z => absurd (nI_le (a := 2) (b := 2) (by decide) (by decide)) z⟩
  | succ dd ih =>
    intro q h N hq
    have ihT := ih (q + 1)
    have hb := N.hb
    have cS := c_nspan (f := f) (t := f - 1) (d := d) (q := q) (h := h)
    have a1 : nsp f (f - 1) d q < 1024 := nsp_lt hf (by omega) hd (by omega)
    refine xe_X0_init_79 ?_
    (repeat (first | (simp only [xb_X0_init_0, xb_X0_init_63, xb_X0_init_71, xb_X0_init_79, xb_X0_init_105, xb_X0_init_111, xb_X0_init_117, xs_nil, Nat.reduceAdd, true_implies, not_true_eq_false, not_false_eq_true, false_implies, and_true, true_and, x_10, xs_aload_n_0, xs_sipush_256, xs_sipush_1024, xs_ldc2, xs_iconst_0, xs_iconst_1, xs_istore_n_1_i, xs_istore_n_1_a, xs_istore_n_1_n, xs_istore_n_1_l, xs_iload_n_1, xs_bipush_8, xs_icmp_ge, xs_istore_n_2_i, xs_istore_n_2_a, xs_istore_n_2_n, xs_istore_n_2_l, xs_iload_n_2, xs_istore_n_3_i, xs_istore_n_3_a, xs_istore_n_3_n, xs_istore_n_3_l, xs_iload_n_3, xs_iconst_2, xs_isub, xs_iinc_3_1_i, xs_iinc_3_1_a, xs_iinc_3_1_n, xs_goto, xs_iinc_2_1_i, xs_iinc_2_1_a, xs_iinc_2_1_n, xs_iinc_1_1_i, xs_iinc_1_1_a, xs_iinc_1_1_n, xs_return]) ))
    refine ⟨fun z => absurd z (nI_ge (b := 2) (by omega) (by decide)), fun _ => ?_⟩
    (repeat (first | (simp only [xb_X0_init_0, xb_X0_init_63, xb_X0_init_71, xb_X0_init_79, xb_X0_init_105, xb_X0_init_111, xb_X0_init_117, xs_nil, Nat.reduceAdd, true_implies, not_true_eq_false, not_false_eq_true, false_implies, and_true, true_and, x_10, xs_aload_n_0, xs_sipush_256, xs_sipush_1024, xs_ldc2, xs_iconst_0, xs_iconst_1, xs_istore_n_1_i, xs_istore_n_1_a, xs_istore_n_1_n, xs_istore_n_1_l, xs_iload_n_1, xs_bipush_8, xs_icmp_ge, xs_istore_n_2_i, xs_istore_n_2_a, xs_istore_n_2_n, xs_istore_n_2_l, xs_iload_n_2, xs_istore_n_3_i, xs_istore_n_3_a, xs_istore_n_3_n, xs_istore_n_3_l, xs_iload_n_3, xs_iconst_2, xs_isub, xs_iinc_3_1_i, xs_iinc_3_1_a, xs_iinc_3_1_n, xs_goto, xs_iinc_2_1_i, xs_iinc_2_1_a, xs_iinc_2_1_n, xs_iinc_1_1_i, xs_iinc_1_1_a, xs_iinc_1_1_n, xs_return]) | (refine xr_getf (hb 0 _ rfl) (by rfl) ?_)))
    rw [nI_m h1]
    (repeat (first | (simp only [xb_X0_init_0, xb_X0_init_63, xb_X0_init_71, xb_X0_init_79, xb_X0_init_105, xb_X0_init_111, xb_X0_init_117, xs_nil, Nat.reduceAdd, true_implies, not_true_eq_false, not_false_eq_true, false_implies, and_true, true_and, x_10, xs_aload_n_0, xs_sipush_256, xs_sipush_1024, xs_ldc2, xs_iconst_0, xs_iconst_1, xs_istore_n_1_i, xs_istore_n_1_a, xs_istore_n_1_n, xs_istore_n_1_l, xs_iload_n_1, xs_bipush_8, xs_icmp_ge, xs_istore_n_2_i, xs_istore_n_2_a, xs_istore_n_2_n, xs_istore_n_2_l, xs_iload_n_2, xs_istore_n_3_i, xs_istore_n_3_a, xs_istore_n_3_n, xs_istore_n_3_l, xs_iload_n_3, xs_iconst_2, xs_isub, xs_iinc_3_1_i, xs_iinc_3_1_a, xs_iinc_3_1_n, xs_goto, xs_iinc_2_1_i, xs_iinc_2_1_a, xs_iinc_2_1_n, xs_iinc_1_1_i, xs_iinc_1_1_a, xs_iinc_1_1_n, xs_return]) | refine xc_s4_1 (by decide) (cS) (Nat.le_of_ble_eq_true rfl) ?_))
    refine xn_iastore N h2 (k := 5) (by rfl) (x_in (by rw [kf3_len, hL]; exact a1) (by rw [kf3_len, hL]; decide)) (fun h1 N1 => ?_)
    rw [xu_n (by omega)] at N1
    (repeat (first | (simp only [xb_X0_init_0, xb_X0_init_63, xb_X0_init_71, xb_X0_init_79, xb_X0_init_105, xb_X0_init_111, xb_X0_init_117, xs_nil, Nat.reduceAdd, true_implies, not_true_eq_false, not_false_eq_true, false_implies, and_true, true_and, x_10, xs_aload_n_0, xs_sipush_256, xs_sipush_1024, xs_ldc2, xs_iconst_0, xs_iconst_1, xs_istore_n_1_i, xs_istore_n_1_a, xs_istore_n_1_n, xs_istore_n_1_l, xs_iload_n_1, xs_bipush_8, xs_icmp_ge, xs_istore_n_2_i, xs_istore_n_2_a, xs_istore_n_2_n, xs_istore_n_2_l, xs_iload_n_2, xs_istore_n_3_i, xs_istore_n_3_a, xs_istore_n_3_n, xs_istore_n_3_l, xs_iload_n_3, xs_iconst_2, xs_isub, xs_iinc_3_1_i, xs_iinc_3_1_a, xs_iinc_3_1_n, xs_goto, xs_iinc_2_1_i, xs_iinc_2_1_a, xs_iinc_2_1_n, xs_iinc_1_1_i, xs_iinc_1_1_a, xs_iinc_1_1_n, xs_return]) ))
    rw [nI_1]
    exact ihT h1 N1 (by omega)
theorem l_cinit2 (h2 : 2 ≤ h0.length) {L : List Int32} (hL : L.length = 1024) {f : Nat} (h1 : 1 ≤ f) (hf : f < 8) (fin : ∀ h (a b : Option Value), xN h0 (bC h0.length (kf2 L f 8)) h → x_EV 5 111 [some (.ref h0.length), some (.int (nI f)), a, b] [] h r h') : ∀ (dd q : Nat) (h : xH) (b : Option Value), xN h0 (bC h0.length (kf2 L f q)) h → q + dd = 8 → x_EV 5 71 [some (.ref h0.length), some (.int (nI f)), some (.int (nI q)), b] [] h r h' := by
  intro dd
  induction dd with
  | zero =>
    intro q h b N hq
    have eq : q = 8 := by omega
    subst eq
    refine xe_X0_init_71 ?_
    (repeat (first | (simp only [xb_X0_init_0, xb_X0_init_63, xb_X0_init_71, xb_X0_init_79, xb_X0_init_105, xb_X0_init_111, xb_X0_init_117, xs_nil, Nat.reduceAdd, true_implies, not_true_eq_false, not_false_eq_true, false_implies, and_true, true_and, x_10, xs_aload_n_0, xs_sipush_256, xs_sipush_1024, xs_ldc2, xs_iconst_0, xs_iconst_1, xs_istore_n_1_i, xs_istore_n_1_a, xs_istore_n_1_n, xs_istore_n_1_l, xs_iload_n_1, xs_bipush_8, xs_icmp_ge, xs_istore_n_2_i, xs_istore_n_2_a, xs_istore_n_2_n, xs_istore_n_2_l, xs_iload_n_2, xs_istore_n_3_i, xs_istore_n_3_a, xs_istore_n_3_n, xs_istore_n_3_l, xs_iload_n_3, xs_iconst_2, xs_isub, xs_iinc_3_1_i, xs_iinc_3_1_a, xs_iinc_3_1_n, xs_goto, xs_iinc_2_1_i, xs_iinc_2_1_a, xs_iinc_2_1_n, xs_iinc_1_1_i, xs_iinc_1_1_a, xs_iinc_1_1_n, xs_return]) ))
    exact ⟨fun _ => fin h _ _ N, fun z => absurd (nI_le (a := 8) (b := 8) (by decide) (by decide)) z⟩
  | succ dd ih =>
    intro q h b N hq
    have ihT := ih (q + 1)
    refine xe_X0_init_71 ?_
    (repeat (first | (simp only [xb_X0_init_0, xb_X0_init_63, xb_X0_init_71, xb_X0_init_79, xb_X0_init_105, xb_X0_init_111, xb_X0_init_117, xs_nil, Nat.reduceAdd, true_implies, not_true_eq_false, not_false_eq_true, false_implies, and_true, true_and, x_10, xs_aload_n_0, xs_sipush_256, xs_sipush_1024, xs_ldc2, xs_iconst_0, xs_iconst_1, xs_istore_n_1_i, xs_istore_n_1_a, xs_istore_n_1_n, xs_istore_n_1_l, xs_iload_n_1, xs_bipush_8, xs_icmp_ge, xs_istore_n_2_i, xs_istore_n_2_a, xs_istore_n_2_n, xs_istore_n_2_l, xs_iload_n_2, xs_istore_n_3_i, xs_istore_n_3_a, xs_istore_n_3_n, xs_istore_n_3_l, xs_iload_n_3, xs_iconst_2, xs_isub, xs_iinc_3_1_i, xs_iinc_3_1_a, xs_iinc_3_1_n, xs_goto, xs_iinc_2_1_i, xs_iinc_2_1_a, xs_iinc_2_1_n, xs_iinc_1_1_i, xs_iinc_1_1_a, xs_iinc_1_1_n, xs_return]) ))
    refine ⟨fun z => absurd z (nI_ge (b := 8) (by omega) (by decide)), fun _ => ?_⟩
    (repeat (first | (simp only [xb_X0_init_0, xb_X0_init_63, xb_X0_init_71, xb_X0_init_79, xb_X0_init_105, xb_X0_init_111, xb_X0_init_117, xs_nil, Nat.reduceAdd, true_implies, not_true_eq_false, not_false_eq_true, false_implies, and_true, true_and, x_10, xs_aload_n_0, xs_sipush_256, xs_sipush_1024, xs_ldc2, xs_iconst_0, xs_iconst_1, xs_istore_n_1_i, xs_istore_n_1_a, xs_istore_n_1_n, xs_istore_n_1_l, xs_iload_n_1, xs_bipush_8, xs_icmp_ge, xs_istore_n_2_i, xs_istore_n_2_a, xs_istore_n_2_n, xs_istore_n_2_l, xs_iload_n_2, xs_istore_n_3_i, xs_istore_n_3_a, xs_istore_n_3_n, xs_istore_n_3_l, xs_iload_n_3, xs_iconst_2, xs_isub, xs_iinc_3_1_i, xs_iinc_3_1_a, xs_iinc_3_1_n, xs_goto, xs_iinc_2_1_i, xs_iinc_2_1_a, xs_iinc_2_1_n, xs_iinc_1_1_i, xs_iinc_1_1_a, xs_iinc_1_1_n, xs_return]) ))
    refine l_cinit3 h2 (by rw [kf2_len]; exact hL) h1 hf (d := q) (by omega) (fun h1 a N1 => ?_) 2 0 h N (by omega)
    refine xe_X0_init_105 ?_
    (repeat (first | (simp only [xb_X0_init_0, xb_X0_init_63, xb_X0_init_71, xb_X0_init_79, xb_X0_init_105, xb_X0_init_111, xb_X0_init_117, xs_nil, Nat.reduceAdd, true_implies, not_true_eq_false, not_false_eq_true, false_implies, and_true, true_and, x_10, xs_aload_n_0, xs_sipush_256, xs_sipush_1024, xs_ldc2, xs_iconst_0, xs_iconst_1, xs_istore_n_1_i, xs_istore_n_1_a, xs_istore_n_1_n, xs_istore_n_1_l, xs_iload_n_1, xs_bipush_8, xs_icmp_ge, xs_istore_n_2_i, xs_istore_n_2_a, xs_istore_n_2_n, xs_istore_n_2_l, xs_iload_n_2, xs_istore_n_3_i, xs_istore_n_3_a, xs_istore_n_3_n, xs_istore_n_3_l, xs_iload_n_3, xs_iconst_2, xs_isub, xs_iinc_3_1_i, xs_iinc_3_1_a, xs_iinc_3_1_n, xs_goto, xs_iinc_2_1_i, xs_iinc_2_1_a, xs_iinc_2_1_n, xs_iinc_1_1_i, xs_iinc_1_1_a, xs_iinc_1_1_n, xs_return]) ))
    rw [nI_1]
    exact ihT h1 _ N1 (by omega)
theorem l_cinit1 (h2 : 2 ≤ h0.length) : ∀ (dd q : Nat) (h : xH) (a b : Option Value), xN h0 (bC h0.length (kf1 (List.replicate 1024 0) q)) h → q + dd = 7 → x_EV 5 63 [some (.ref h0.length), some (.int (nI (q + 1))), a, b] [] h none (h0 ++ x_hs h0.length k0) := by
  intro dd
  induction dd with
  | zero =>
    intro q h a b N hq
    have eq : q = 7 := by omega
    subst eq
    refine xe_X0_init_63 ?_
    (repeat (first | (simp only [xb_X0_init_0, xb_X0_init_63, xb_X0_init_71, xb_X0_init_79, xb_X0_init_105, xb_X0_init_111, xb_X0_init_117, xs_nil, Nat.reduceAdd, true_implies, not_true_eq_false, not_false_eq_true, false_implies, and_true, true_and, x_10, xs_aload_n_0, xs_sipush_256, xs_sipush_1024, xs_ldc2, xs_iconst_0, xs_iconst_1, xs_istore_n_1_i, xs_istore_n_1_a, xs_istore_n_1_n, xs_istore_n_1_l, xs_iload_n_1, xs_bipush_8, xs_icmp_ge, xs_istore_n_2_i, xs_istore_n_2_a, xs_istore_n_2_n, xs_istore_n_2_l, xs_iload_n_2, xs_istore_n_3_i, xs_istore_n_3_a, xs_istore_n_3_n, xs_istore_n_3_l, xs_iload_n_3, xs_iconst_2, xs_isub, xs_iinc_3_1_i, xs_iinc_3_1_a, xs_iinc_3_1_n, xs_goto, xs_iinc_2_1_i, xs_iinc_2_1_a, xs_iinc_2_1_n, xs_iinc_1_1_i, xs_iinc_1_1_a, xs_iinc_1_1_n, xs_return]) ))
    refine ⟨fun _ => ?_, fun z => absurd (nI_le (a := 8) (b := 8) (by decide) (by decide)) z⟩
    refine xe_X0_init_117 ?_
    (repeat (first | (simp only [xb_X0_init_0, xb_X0_init_63, xb_X0_init_71, xb_X0_init_79, xb_X0_init_105, xb_X0_init_111, xb_X0_init_117, xs_nil, Nat.reduceAdd, true_implies, not_true_eq_false, not_false_eq_true, false_implies, and_true, true_and, x_10, xs_aload_n_0, xs_sipush_256, xs_sipush_1024, xs_ldc2, xs_iconst_0, xs_iconst_1, xs_istore_n_1_i, xs_istore_n_1_a, xs_istore_n_1_n, xs_istore_n_1_l, xs_iload_n_1, xs_bipush_8, xs_icmp_ge, xs_istore_n_2_i, xs_istore_n_2_a, xs_istore_n_2_n, xs_istore_n_2_l, xs_iload_n_2, xs_istore_n_3_i, xs_istore_n_3_a, xs_istore_n_3_n, xs_istore_n_3_l, xs_iload_n_3, xs_iconst_2, xs_isub, xs_iinc_3_1_i, xs_iinc_3_1_a, xs_iinc_3_1_n, xs_goto, xs_iinc_2_1_i, xs_iinc_2_1_a, xs_iinc_2_1_n, xs_iinc_1_1_i, xs_iinc_1_1_a, xs_iinc_1_1_n, xs_return]) ))
    exact N.symm
  | succ dd ih =>
    intro q h a b N hq
    have ihT := ih (q + 1)
    refine xe_X0_init_63 ?_
    (repeat (first | (simp only [xb_X0_init_0, xb_X0_init_63, xb_X0_init_71, xb_X0_init_79, xb_X0_init_105, xb_X0_init_111, xb_X0_init_117, xs_nil, Nat.reduceAdd, true_implies, not_true_eq_false, not_false_eq_true, false_implies, and_true, true_and, x_10, xs_aload_n_0, xs_sipush_256, xs_sipush_1024, xs_ldc2, xs_iconst_0, xs_iconst_1, xs_istore_n_1_i, xs_istore_n_1_a, xs_istore_n_1_n, xs_istore_n_1_l, xs_iload_n_1, xs_bipush_8, xs_icmp_ge, xs_istore_n_2_i, xs_istore_n_2_a, xs_istore_n_2_n, xs_istore_n_2_l, xs_iload_n_2, xs_istore_n_3_i, xs_istore_n_3_a, xs_istore_n_3_n, xs_istore_n_3_l, xs_iload_n_3, xs_iconst_2, xs_isub, xs_iinc_3_1_i, xs_iinc_3_1_a, xs_iinc_3_1_n, xs_goto, xs_iinc_2_1_i, xs_iinc_2_1_a, xs_iinc_2_1_n, xs_iinc_1_1_i, xs_iinc_1_1_a, xs_iinc_1_1_n, xs_return]) ))
    refine ⟨fun z => absurd z (nI_ge (b := 8) (by omega) (by decide)), fun _ => ?_⟩
    (repeat (first | (simp only [xb_X0_init_0, xb_X0_init_63, xb_X0_init_71, xb_X0_init_79, xb_X0_init_105, xb_X0_init_111, xb_X0_init_117, xs_nil, Nat.reduceAdd, true_implies, not_true_eq_false, not_false_eq_true, false_implies, and_true, true_and, x_10, xs_aload_n_0, xs_sipush_256, xs_sipush_1024, xs_ldc2, xs_iconst_0, xs_iconst_1, xs_istore_n_1_i, xs_istore_n_1_a, xs_istore_n_1_n, xs_istore_n_1_l, xs_iload_n_1, xs_bipush_8, xs_icmp_ge, xs_istore_n_2_i, xs_istore_n_2_a, xs_istore_n_2_n, xs_istore_n_2_l, xs_iload_n_2, xs_istore_n_3_i, xs_istore_n_3_a, xs_istore_n_3_n, xs_istore_n_3_l, xs_iload_n_3, xs_iconst_2, xs_isub, xs_iinc_3_1_i, xs_iinc_3_1_a, xs_iinc_3_1_n, xs_goto, xs_iinc_2_1_i, xs_iinc_2_1_a, xs_iinc_2_1_n, xs_iinc_1_1_i, xs_iinc_1_1_a, xs_iinc_1_1_n, xs_return]) ))
    refine l_cinit2 h2 (by rw [kf1_len, List.length_replicate]) (f := q + 1) (by omega) (by omega) (fun h1 a b N1 => ?_) 8 0 h _ N (by omega)
    refine xe_X0_init_111 ?_
    (repeat (first | (simp only [xb_X0_init_0, xb_X0_init_63, xb_X0_init_71, xb_X0_init_79, xb_X0_init_105, xb_X0_init_111, xb_X0_init_117, xs_nil, Nat.reduceAdd, true_implies, not_true_eq_false, not_false_eq_true, false_implies, and_true, true_and, x_10, xs_aload_n_0, xs_sipush_256, xs_sipush_1024, xs_ldc2, xs_iconst_0, xs_iconst_1, xs_istore_n_1_i, xs_istore_n_1_a, xs_istore_n_1_n, xs_istore_n_1_l, xs_iload_n_1, xs_bipush_8, xs_icmp_ge, xs_istore_n_2_i, xs_istore_n_2_a, xs_istore_n_2_n, xs_istore_n_2_l, xs_iload_n_2, xs_istore_n_3_i, xs_istore_n_3_a, xs_istore_n_3_n, xs_istore_n_3_l, xs_iload_n_3, xs_iconst_2, xs_isub, xs_iinc_3_1_i, xs_iinc_3_1_a, xs_iinc_3_1_n, xs_goto, xs_iinc_2_1_i, xs_iinc_2_1_a, xs_iinc_2_1_n, xs_iinc_1_1_i, xs_iinc_1_1_a, xs_iinc_1_1_n, xs_return]) ))
    rw [nI_1]
    exact ihT h1 _ _ N1 (by omega)
theorem i_chart (h0 : xH) (h2 : 2 ≤ h0.length) : xK 5 [.ref h0.length] (h0 ++ [.inr (0, xdef x_tf x_fn 0)]) none (h0 ++ x_hs h0.length k0) := by
  rw [xd0]
  have N : xN h0 [.inr (0, [.null, .null, .null, .null, .null, .long 0, .int 0])] (h0 ++ [.inr (0, [.null, .null, .null, .null, .null, .long 0, .int 0])]) := rfl
  generalize h0 ++ [.inr (0, [.null, .null, .null, .null, .null, .long 0, .int 0])] = h at N
  refine xK_X0_init (xe_X0_init_0 ?_)
  (repeat (first | (simp only [xb_X0_init_0, xb_X0_init_63, xb_X0_init_71, xb_X0_init_79, xb_X0_init_105, xb_X0_init_111, xb_X0_init_117, xs_nil, Nat.reduceAdd, true_implies, not_true_eq_false, not_false_eq_true, false_implies, and_true, true_and, x_10, xs_aload_n_0, xs_sipush_256, xs_sipush_1024, xs_ldc2, xs_iconst_0, xs_iconst_1, xs_istore_n_1_i, xs_istore_n_1_a, xs_istore_n_1_n, xs_istore_n_1_l, xs_iload_n_1, xs_bipush_8, xs_icmp_ge, xs_istore_n_2_i, xs_istore_n_2_a, xs_istore_n_2_n, xs_istore_n_2_l, xs_iload_n_2, xs_istore_n_3_i, xs_istore_n_3_a, xs_istore_n_3_n, xs_istore_n_3_l, xs_iload_n_3, xs_iconst_2, xs_isub, xs_iinc_3_1_i, xs_iinc_3_1_a, xs_iinc_3_1_n, xs_goto, xs_iinc_2_1_i, xs_iinc_2_1_a, xs_iinc_2_1_n, xs_iinc_1_1_i, xs_iinc_1_1_a, xs_iinc_1_1_n, xs_return]) | (rw [xs_obj (Nat.le_of_ble_eq_true rfl)])))
  refine xn_newl N 256 1 rfl (by decide) (by rfl) (fun h1 N => ?_)
  refine xn_putf N h2 (k := 0) (by rfl) (by exact Nat.le_of_ble_eq_true rfl) (x_fit_arr _ _) (fun h1 N => ?_)
  (repeat (first | (simp only [xb_X0_init_0, xb_X0_init_63, xb_X0_init_71, xb_X0_init_79, xb_X0_init_105, xb_X0_init_111, xb_X0_init_117, xs_nil, Nat.reduceAdd, true_implies, not_true_eq_false, not_false_eq_true, false_implies, and_true, true_and, x_10, xs_aload_n_0, xs_sipush_256, xs_sipush_1024, xs_ldc2, xs_iconst_0, xs_iconst_1, xs_istore_n_1_i, xs_istore_n_1_a, xs_istore_n_1_n, xs_istore_n_1_l, xs_iload_n_1, xs_bipush_8, xs_icmp_ge, xs_istore_n_2_i, xs_istore_n_2_a, xs_istore_n_2_n, xs_istore_n_2_l, xs_iload_n_2, xs_istore_n_3_i, xs_istore_n_3_a, xs_istore_n_3_n, xs_istore_n_3_l, xs_iload_n_3, xs_iconst_2, xs_isub, xs_iinc_3_1_i, xs_iinc_3_1_a, xs_iinc_3_1_n, xs_goto, xs_iinc_2_1_i, xs_iinc_2_1_a, xs_iinc_2_1_n, xs_iinc_1_1_i, xs_iinc_1_1_a, xs_iinc_1_1_n, xs_return]) ))
  refine xn_newl N 1024 2 rfl (by decide) (by rfl) (fun h1 N => ?_)
  refine xn_putf N h2 (k := 0) (by rfl) (by exact Nat.le_of_ble_eq_true rfl) (x_fit_arr _ _) (fun h1 N => ?_)
  (repeat (first | (simp only [xb_X0_init_0, xb_X0_init_63, xb_X0_init_71, xb_X0_init_79, xb_X0_init_105, xb_X0_init_111, xb_X0_init_117, xs_nil, Nat.reduceAdd, true_implies, not_true_eq_false, not_false_eq_true, false_implies, and_true, true_and, x_10, xs_aload_n_0, xs_sipush_256, xs_sipush_1024, xs_ldc2, xs_iconst_0, xs_iconst_1, xs_istore_n_1_i, xs_istore_n_1_a, xs_istore_n_1_n, xs_istore_n_1_l, xs_iload_n_1, xs_bipush_8, xs_icmp_ge, xs_istore_n_2_i, xs_istore_n_2_a, xs_istore_n_2_n, xs_istore_n_2_l, xs_iload_n_2, xs_istore_n_3_i, xs_istore_n_3_a, xs_istore_n_3_n, xs_istore_n_3_l, xs_iload_n_3, xs_iconst_2, xs_isub, xs_iinc_3_1_i, xs_iinc_3_1_a, xs_iinc_3_1_n, xs_goto, xs_iinc_2_1_i, xs_iinc_2_1_a, xs_iinc_2_1_n, xs_iinc_1_1_i, xs_iinc_1_1_a, xs_iinc_1_1_n, xs_return]) ))
  refine xn_newl N 1024 3 rfl (by decide) (by rfl) (fun h1 N => ?_)
  refine xn_putf N h2 (k := 0) (by rfl) (by exact Nat.le_of_ble_eq_true rfl) (x_fit_arr _ _) (fun h1 N => ?_)
  (repeat (first | (simp only [xb_X0_init_0, xb_X0_init_63, xb_X0_init_71, xb_X0_init_79, xb_X0_init_105, xb_X0_init_111, xb_X0_init_117, xs_nil, Nat.reduceAdd, true_implies, not_true_eq_false, not_false_eq_true, false_implies, and_true, true_and, x_10, xs_aload_n_0, xs_sipush_256, xs_sipush_1024, xs_ldc2, xs_iconst_0, xs_iconst_1, xs_istore_n_1_i, xs_istore_n_1_a, xs_istore_n_1_n, xs_istore_n_1_l, xs_iload_n_1, xs_bipush_8, xs_icmp_ge, xs_istore_n_2_i, xs_istore_n_2_a, xs_istore_n_2_n, xs_istore_n_2_l, xs_iload_n_2, xs_istore_n_3_i, xs_istore_n_3_a, xs_istore_n_3_n, xs_istore_n_3_l, xs_iload_n_3, xs_iconst_2, xs_isub, xs_iinc_3_1_i, xs_iinc_3_1_a, xs_iinc_3_1_n, xs_goto, xs_iinc_2_1_i, xs_iinc_2_1_a, xs_iinc_2_1_n, xs_iinc_1_1_i, xs_iinc_1_1_a, xs_iinc_1_1_n, xs_return]) ))
  refine xn_newi N 1024 4 rfl (by decide) (by rfl) (fun h1 N => ?_)
  refine xn_putf N h2 (k := 0) (by rfl) (by exact Nat.le_of_ble_eq_true rfl) (x_fit_arr _ _) (fun h1 N => ?_)
  (repeat (first | (simp only [xb_X0_init_0, xb_X0_init_63, xb_X0_init_71, xb_X0_init_79, xb_X0_init_105, xb_X0_init_111, xb_X0_init_117, xs_nil, Nat.reduceAdd, true_implies, not_true_eq_false, not_false_eq_true, false_implies, and_true, true_and, x_10, xs_aload_n_0, xs_sipush_256, xs_sipush_1024, xs_ldc2, xs_iconst_0, xs_iconst_1, xs_istore_n_1_i, xs_istore_n_1_a, xs_istore_n_1_n, xs_istore_n_1_l, xs_iload_n_1, xs_bipush_8, xs_icmp_ge, xs_istore_n_2_i, xs_istore_n_2_a, xs_istore_n_2_n, xs_istore_n_2_l, xs_iload_n_2, xs_istore_n_3_i, xs_istore_n_3_a, xs_istore_n_3_n, xs_istore_n_3_l, xs_iload_n_3, xs_iconst_2, xs_isub, xs_iinc_3_1_i, xs_iinc_3_1_a, xs_iinc_3_1_n, xs_goto, xs_iinc_2_1_i, xs_iinc_2_1_a, xs_iinc_2_1_n, xs_iinc_1_1_i, xs_iinc_1_1_a, xs_iinc_1_1_n, xs_return]) ))
  refine xn_newi N 1024 5 rfl (by decide) (by rfl) (fun h1 N => ?_)
  refine xn_putf N h2 (k := 0) (by rfl) (by exact Nat.le_of_ble_eq_true rfl) (x_fit_arr _ _) (fun h1 N => ?_)
  (repeat (first | (simp only [xb_X0_init_0, xb_X0_init_63, xb_X0_init_71, xb_X0_init_79, xb_X0_init_105, xb_X0_init_111, xb_X0_init_117, xs_nil, Nat.reduceAdd, true_implies, not_true_eq_false, not_false_eq_true, false_implies, and_true, true_and, x_10, xs_aload_n_0, xs_sipush_256, xs_sipush_1024, xs_ldc2, xs_iconst_0, xs_iconst_1, xs_istore_n_1_i, xs_istore_n_1_a, xs_istore_n_1_n, xs_istore_n_1_l, xs_iload_n_1, xs_bipush_8, xs_icmp_ge, xs_istore_n_2_i, xs_istore_n_2_a, xs_istore_n_2_n, xs_istore_n_2_l, xs_iload_n_2, xs_istore_n_3_i, xs_istore_n_3_a, xs_istore_n_3_n, xs_istore_n_3_l, xs_iload_n_3, xs_iconst_2, xs_isub, xs_iinc_3_1_i, xs_iinc_3_1_a, xs_iinc_3_1_n, xs_goto, xs_iinc_2_1_i, xs_iinc_2_1_a, xs_iinc_2_1_n, xs_iinc_1_1_i, xs_iinc_1_1_a, xs_iinc_1_1_n, xs_return]) ))
  refine xn_putf N h2 (k := 0) (by rfl) (by exact Nat.le_of_ble_eq_true rfl) (x_fit_long _) (fun h1 N => ?_)
  (repeat (first | (simp only [xb_X0_init_0, xb_X0_init_63, xb_X0_init_71, xb_X0_init_79, xb_X0_init_105, xb_X0_init_111, xb_X0_init_117, xs_nil, Nat.reduceAdd, true_implies, not_true_eq_false, not_false_eq_true, false_implies, and_true, true_and, x_10, xs_aload_n_0, xs_sipush_256, xs_sipush_1024, xs_ldc2, xs_iconst_0, xs_iconst_1, xs_istore_n_1_i, xs_istore_n_1_a, xs_istore_n_1_n, xs_istore_n_1_l, xs_iload_n_1, xs_bipush_8, xs_icmp_ge, xs_istore_n_2_i, xs_istore_n_2_a, xs_istore_n_2_n, xs_istore_n_2_l, xs_iload_n_2, xs_istore_n_3_i, xs_istore_n_3_a, xs_istore_n_3_n, xs_istore_n_3_l, xs_iload_n_3, xs_iconst_2, xs_isub, xs_iinc_3_1_i, xs_iinc_3_1_a, xs_iinc_3_1_n, xs_goto, xs_iinc_2_1_i, xs_iinc_2_1_a, xs_iinc_2_1_n, xs_iinc_1_1_i, xs_iinc_1_1_a, xs_iinc_1_1_n, xs_return]) ))
  refine xn_putf N h2 (k := 0) (by rfl) (by exact Nat.le_of_ble_eq_true rfl) (x_fit_int _) (fun h1 N => ?_)
  (repeat (first | (simp only [xb_X0_init_0, xb_X0_init_63, xb_X0_init_71, xb_X0_init_79, xb_X0_init_105, xb_X0_init_111, xb_X0_init_117, xs_nil, Nat.reduceAdd, true_implies, not_true_eq_false, not_false_eq_true, false_implies, and_true, true_and, x_10, xs_aload_n_0, xs_sipush_256, xs_sipush_1024, xs_ldc2, xs_iconst_0, xs_iconst_1, xs_istore_n_1_i, xs_istore_n_1_a, xs_istore_n_1_n, xs_istore_n_1_l, xs_iload_n_1, xs_bipush_8, xs_icmp_ge, xs_istore_n_2_i, xs_istore_n_2_a, xs_istore_n_2_n, xs_istore_n_2_l, xs_iload_n_2, xs_istore_n_3_i, xs_istore_n_3_a, xs_istore_n_3_n, xs_istore_n_3_l, xs_iload_n_3, xs_iconst_2, xs_isub, xs_iinc_3_1_i, xs_iinc_3_1_a, xs_iinc_3_1_n, xs_goto, xs_iinc_2_1_i, xs_iinc_2_1_a, xs_iinc_2_1_n, xs_iinc_1_1_i, xs_iinc_1_1_a, xs_iinc_1_1_n, xs_return]) ))
  exact l_cinit1 h2 7 0 h1 _ _ N (by omega)
/-- one State more on a new shelf -/
theorem s_shelf (h2 : 2 ≤ h0.length) {cs : List xE} {vs : List Value} {i : Nat} (hi : i < 6) (N : xN h0 cs h) (e0 : cs[0]? = some (.inr (4, [.ref (h0.length + 1), .int 0, .int 0]))) (e1 : cs[1]? = some (.inl (.object (x_nm 5), vs))) (hv : vs.length = 6) (hl : cs.length = 2 + 13 * i)
    (kk : ∀ h1, xN h0 ((cs ++ x_ts (h0.length + (2 + 13 * i)) s0).set 1 (.inl (.object (x_nm 5), vs.set i (.ref (h0.length + (2 + 13 * i)))))) h1 → x_EV 3 25 [some (.ref h0.length), some (.int (nI (i + 1)))] [] h1 r h') : x_EV 3 25 [some (.ref h0.length), some (.int (nI i))] [] h r h' := by
  have hb := N.hb
  refine xe_X5_init_25 ?_
  (repeat (first | (simp only [xb_X5_init_0, xb_X5_init_25, xb_X5_init_50, xs_nil, Nat.reduceAdd, true_implies, not_true_eq_false, not_false_eq_true, false_implies, and_true, true_and, x_10, xs_aload_n_0, xs_bipush_6, xs_iconst_0, xs_istore_n_1_i, xs_istore_n_1_a, xs_istore_n_1_n, xs_istore_n_1_l, xs_iload_n_1, xs_icmp_ge, xs_dup_i, xs_dup_a, xs_iinc_1_1_i, xs_iinc_1_1_a, xs_iinc_1_1_n, xs_goto, xs_return]) ))
  refine ⟨fun z => absurd z (nI_ge (b := 6) hi (by decide)), fun _ => ?_⟩
  (repeat (first | (simp only [xb_X5_init_0, xb_X5_init_25, xb_X5_init_50, xs_nil, Nat.reduceAdd, true_implies, not_true_eq_false, not_false_eq_true, false_implies, and_true, true_and, x_10, xs_aload_n_0, xs_bipush_6, xs_iconst_0, xs_istore_n_1_i, xs_istore_n_1_a, xs_istore_n_1_n, xs_istore_n_1_l, xs_iload_n_1, xs_icmp_ge, xs_dup_i, xs_dup_a, xs_iinc_1_1_i, xs_iinc_1_1_a, xs_iinc_1_1_n, xs_goto, xs_return]) | (refine xr_getf (hb 0 _ e0) (by rfl) ?_)))
  refine xn_new N (2 + 13 * i) hl (fun h1 N => ?_)
  obtain ⟨h3, N3, c1⟩ : ∃ h3, xN h0 (cs ++ x_ts (h0.length + (2 + 13 * i)) s0) h3 ∧ xK 2 [.ref (h0.length + (2 + 13 * i))] h1 none h3 := ⟨_, xN.mk, xN_call (F := fun g => x_ts g s0) N hl h2 i_state⟩
  have hy : h3[h0.length + (2 + 13 * i)]? = some (.inr (5, [.ref (h0.length + (2 + 13 * i) + 1), .ref (h0.length + (2 + 13 * i) + 7)])) := by
    refine N3.hb (2 + 13 * i) _ ?_
    rw [List.getElem?_append_right (by omega), hl, Nat.sub_self]
    rfl
  have e1' : (cs ++ x_ts (h0.length + (2 + 13 * i)) s0)[1]? = some (.inl (.object (x_nm 5), vs)) := by
    rw [List.getElem?_append_left (by omega)]
    exact e1
  (repeat (first | (simp only [xb_X5_init_0, xb_X5_init_25, xb_X5_init_50, xs_nil, Nat.reduceAdd, true_implies, not_true_eq_false, not_false_eq_true, false_implies, and_true, true_and, x_10, xs_aload_n_0, xs_bipush_6, xs_iconst_0, xs_istore_n_1_i, xs_istore_n_1_a, xs_istore_n_1_n, xs_istore_n_1_l, xs_iload_n_1, xs_icmp_ge, xs_dup_i, xs_dup_a, xs_iinc_1_1_i, xs_iinc_1_1_a, xs_iinc_1_1_n, xs_goto, xs_return]) | (rw [xn_dup]) | refine xc_i1_0 (by decide) (c1) (Nat.le_of_ble_eq_true rfl) ?_))
  refine xn_aastore N3 h2 (k := 1) e1' hy rfl (by omega) (by omega) (fun h4 N4 => ?_)
  (repeat (first | (simp only [xb_X5_init_0, xb_X5_init_25, xb_X5_init_50, xs_nil, Nat.reduceAdd, true_implies, not_true_eq_false, not_false_eq_true, false_implies, and_true, true_and, x_10, xs_aload_n_0, xs_bipush_6, xs_iconst_0, xs_istore_n_1_i, xs_istore_n_1_a, xs_istore_n_1_n, xs_istore_n_1_l, xs_iload_n_1, xs_icmp_ge, xs_dup_i, xs_dup_a, xs_iinc_1_1_i, xs_iinc_1_1_a, xs_iinc_1_1_n, xs_goto, xs_return]) ))
  rw [nI_1]
  exact kk h4 N4
def bSh (g : Nat) : List xE := x_sh g 0 0 ++ (x_ts (g + 2) s0 ++ (x_ts (g + 2 + 13) s0 ++ (x_ts (g + 2 + 26) s0 ++ (x_ts (g + 2 + 39) s0 ++ (x_ts (g + 2 + 52) s0 ++ x_ts (g + 2 + 65) s0)))))
theorem i_shelf (h0 : xH) (h2 : 2 ≤ h0.length) : xK 3 [.ref h0.length] (h0 ++ [.inr (4, xdef x_tf x_fn 4)]) none (h0 ++ bSh h0.length) := by
  rw [xd4]
  have N : xN h0 [.inr (4, [.null, .int 0, .int 0])] (h0 ++ [.inr (4, [.null, .int 0, .int 0])]) := rfl
  generalize h0 ++ [.inr (4, [.null, .int 0, .int 0])] = h at N
  refine xK_X5_init (xe_X5_init_0 ?_)
  (repeat (first | (simp only [xb_X5_init_0, xb_X5_init_25, xb_X5_init_50, xs_nil, Nat.reduceAdd, true_implies, not_true_eq_false, not_false_eq_true, false_implies, and_true, true_and, x_10, xs_aload_n_0, xs_bipush_6, xs_iconst_0, xs_istore_n_1_i, xs_istore_n_1_a, xs_istore_n_1_n, xs_istore_n_1_l, xs_iload_n_1, xs_icmp_ge, xs_dup_i, xs_dup_a, xs_iinc_1_1_i, xs_iinc_1_1_a, xs_iinc_1_1_n, xs_goto, xs_return]) | (rw [xs_obj (Nat.le_of_ble_eq_true rfl)])))
  refine xn_anew N 6 1 rfl (by decide) (by rfl) (fun h1 N => ?_)
  refine xn_putf N h2 (k := 0) (by rfl) (by exact Nat.le_of_ble_eq_true rfl) (x_fit_arr _ _) (fun h1 N => ?_)
  (repeat (first | (simp only [xb_X5_init_0, xb_X5_init_25, xb_X5_init_50, xs_nil, Nat.reduceAdd, true_implies, not_true_eq_false, not_false_eq_true, false_implies, and_true, true_and, x_10, xs_aload_n_0, xs_bipush_6, xs_iconst_0, xs_istore_n_1_i, xs_istore_n_1_a, xs_istore_n_1_n, xs_istore_n_1_l, xs_iload_n_1, xs_icmp_ge, xs_dup_i, xs_dup_a, xs_iinc_1_1_i, xs_iinc_1_1_a, xs_iinc_1_1_n, xs_goto, xs_return]) ))
  refine xn_putf N h2 (k := 0) (by rfl) (by exact Nat.le_of_ble_eq_true rfl) (x_fit_int _) (fun h1 N => ?_)
  (repeat (first | (simp only [xb_X5_init_0, xb_X5_init_25, xb_X5_init_50, xs_nil, Nat.reduceAdd, true_implies, not_true_eq_false, not_false_eq_true, false_implies, and_true, true_and, x_10, xs_aload_n_0, xs_bipush_6, xs_iconst_0, xs_istore_n_1_i, xs_istore_n_1_a, xs_istore_n_1_n, xs_istore_n_1_l, xs_iload_n_1, xs_icmp_ge, xs_dup_i, xs_dup_a, xs_iinc_1_1_i, xs_iinc_1_1_a, xs_iinc_1_1_n, xs_goto, xs_return]) ))
  refine xn_putf N h2 (k := 0) (by rfl) (by exact Nat.le_of_ble_eq_true rfl) (x_fit_int _) (fun h1 N => ?_)
  (repeat (first | (simp only [xb_X5_init_0, xb_X5_init_25, xb_X5_init_50, xs_nil, Nat.reduceAdd, true_implies, not_true_eq_false, not_false_eq_true, false_implies, and_true, true_and, x_10, xs_aload_n_0, xs_bipush_6, xs_iconst_0, xs_istore_n_1_i, xs_istore_n_1_a, xs_istore_n_1_n, xs_istore_n_1_l, xs_iload_n_1, xs_icmp_ge, xs_dup_i, xs_dup_a, xs_iinc_1_1_i, xs_iinc_1_1_a, xs_iinc_1_1_n, xs_goto, xs_return]) ))
  refine s_shelf h2 (i := 0) (by decide) N (by rfl) (by rfl) (by rfl) (by rfl) (fun h1 N => ?_)
  refine s_shelf h2 (i := 1) (by decide) N (by rfl) (by rfl) (by rfl) (by rfl) (fun h1 N => ?_)
  refine s_shelf h2 (i := 2) (by decide) N (by rfl) (by rfl) (by rfl) (by rfl) (fun h1 N => ?_)
  refine s_shelf h2 (i := 3) (by decide) N (by rfl) (by rfl) (by rfl) (by rfl) (fun h1 N => ?_)
  refine s_shelf h2 (i := 4) (by decide) N (by rfl) (by rfl) (by rfl) (by rfl) (fun h1 N => ?_)
  refine s_shelf h2 (i := 5) (by decide) N (by rfl) (by rfl) (by rfl) (by rfl) (fun h1 N => ?_)
  refine xe_X5_init_25 ?_
  (repeat (first | (simp only [xb_X5_init_0, xb_X5_init_25, xb_X5_init_50, xs_nil, Nat.reduceAdd, true_implies, not_true_eq_false, not_false_eq_true, false_implies, and_true, true_and, x_10, xs_aload_n_0, xs_bipush_6, xs_iconst_0, xs_istore_n_1_i, xs_istore_n_1_a, xs_istore_n_1_n, xs_istore_n_1_l, xs_iload_n_1, xs_icmp_ge, xs_dup_i, xs_dup_a, xs_iinc_1_1_i, xs_iinc_1_1_a, xs_iinc_1_1_n, xs_goto, xs_return]) ))
  refine ⟨fun _ => ?_, fun z => absurd (nI_le (a := 6) (b := 6) (by decide) (by decide)) z⟩
  refine xe_X5_init_50 ?_
  (repeat (first | (simp only [xb_X5_init_0, xb_X5_init_25, xb_X5_init_50, xs_nil, Nat.reduceAdd, true_implies, not_true_eq_false, not_false_eq_true, false_implies, and_true, true_and, x_10, xs_aload_n_0, xs_bipush_6, xs_iconst_0, xs_istore_n_1_i, xs_istore_n_1_a, xs_istore_n_1_n, xs_istore_n_1_l, xs_iload_n_1, xs_icmp_ge, xs_dup_i, xs_dup_a, xs_iinc_1_1_i, xs_iinc_1_1_a, xs_iinc_1_1_n, xs_goto, xs_return]) ))
  exact N.symm
end INI3
