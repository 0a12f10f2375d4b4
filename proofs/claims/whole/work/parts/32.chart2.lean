/-! Chart: one span -/
def x_hc (g : Nat) (lk lt lts : List Int64) (ctr ctrs : List Int32) (le : Int64) (an : Int32) : List xE := [.inr (0, [.ref (g + 1), .ref (g + 2), .ref (g + 3), .ref (g + 4), .ref (g + 5), .long le, .int an]), xl lk, xl lt, xl lts, xi ctr, xi ctrs]
def kIMP : Int64 := Int64.ofNat 288230376151711744
def nsp (f t d q : Nat) : Nat := ((f * 8 + t) * 8 + d) * 2 + q
def nlp (i r d q : Nat) : Nat := ((i * 2 + r) * 8 + d) * 2 + q
theorem nsp_lt {f t d q : Nat} (h1 : f < 8) (h2 : t < 8) (h3 : d < 8) (h4 : q < 2) : nsp f t d q < 1024 := by unfold nsp; omega
theorem nlp_lt {i r d q : Nat} (h1 : i < 8) (h2 : r < 2) (h3 : d < 8) (h4 : q < 2) : nlp i r d q < 256 := by unfold nlp; omega
theorem c_nspan {f t d q : Nat} {h : xH} : xK 4 [.int (nI f), .int (nI t), .int (nI d), .int (nI q)] h (some (.int (nI (nsp f t d q)))) h := by
  have := c_spanPlace (x1 := nI f) (x2 := nI t) (x3 := nI d) (x4 := nI q) (h := h)
  have e : ((nI f * 8 + nI t) * 8 + nI d) * 2 + nI q = nI (nsp f t d q) := by
    rw [show (8 : Int32) = nI 8 from rfl, show (2 : Int32) = nI 2 from rfl, pk_mul, nI_add, pk_mul, nI_add, pk_mul, nI_add]
    rfl
  rw [e] at this
  exact this
theorem c_nlink {i r d q : Nat} {h : xH} : xK 65 [.int (nI i), .int (nI r), .int (nI d), .int (nI q)] h (some (.int (nI (nlp i r d q)))) h := by
  have := c_linkPlace (x1 := nI i) (x2 := nI r) (x3 := nI d) (x4 := nI q) (h := h)
  have e : ((nI i * 2 + nI r) * 8 + nI d) * 2 + nI q = nI (nlp i r d q) := by
    rw [show (8 : Int32) = nI 8 from rfl, show (2 : Int32) = nI 2 from rfl, pk_mul, nI_add, pk_mul, nI_add, pk_mul, nI_add]
    rfl
  rw [e] at this
  exact this
theorem xgl_n {l : List Int64} {k : Nat} (hk : k < 2 ^ 31) : xgl l (nI k) = l.getD k 0 := by unfold xgl; rw [nI_clamp hk]
theorem xul_n {l : List Int64} {k : Nat} {v : Int64} (hk : k < 2 ^ 31) : xul l (nI k) v = l.set k v := by unfold xul; rw [nI_clamp hk]
def kmin (a b : Int64) : Int64 := if b < a then b else a
/-- trees side by side: the first ends at f, f + 1, .. -/
def ktrees (lt lts : List Int64) (ctr ctrs : List Int32) (f t d q : Nat) : Nat → Int64 × Int32
  | 0 => (kIMP, 0)
  | k + 1 => (kmin (ktrees lt lts ctr ctrs f t d q k).1 (lt.getD (nsp f (f + k) d q) 0 + lts.getD (nsp (f + k + 1) t d q) 0), (ktrees lt lts ctr ctrs f t d q k).2 + ctr.getD (nsp f (f + k) d q) 0 * ctrs.getD (nsp (f + k + 1) t d q) 0)
section CH2
variable {g : Nat} {lk lt lts : List Int64} {ctr ctrs : List Int32} {le : Int64} {an : Int32} {h : xH} {f t d q : Nat}
theorem l_reckonTrees (hb : x_hb h g (x_hc g lk lt lts ctr ctrs le an)) (hf : f < 7) (ht : t < 7) (hd : d < 8) (hq : q < 2) (l1 : lt.length = 1024) (l2 : lts.length = 1024) (l3 : ctr.length = 1024) (l4 : ctrs.length = 1024) {r : Option Value} {h' : xH}
    (fin : ∀ a b c : Option Value, x_EV 69 89 [some (.ref g), some (.int (nI f)), some (.int (nI t)), some (.int (nI d)), some (.int (nI q)), some (.long (ktrees lt lts ctr ctrs f t d q (t + 1 - f)).1), none, some (.int (ktrees lt lts ctr ctrs f t d q (t + 1 - f)).2), a, b, c] [] h r h') :
    ∀ (z k : Nat) (y1 y2 : Option Int32), k + z = t + 1 - f → x_EV 69 11 [some (.ref g), some (.int (nI f)), some (.int (nI t)), some (.int (nI d)), some (.int (nI q)), some (.long (ktrees lt lts ctr ctrs f t d q k).1), none, some (.int (ktrees lt lts ctr ctrs f t d q k).2), some (.int (nI (f + k))), y1.map Value.int, y2.map Value.int] [] h r h' := by
  intro z
  induction z with
  | zero =>
    intro k y1 y2 hk
    refine xe_X0_reckonTrees_11 ?_
    (repeat (first | (simp only [xb_X0_reckonTrees_0, xb_X0_reckonTrees_11, xb_X0_reckonTrees_89, xs_nil, Nat.reduceAdd, true_implies, not_true_eq_false, not_false_eq_true, false_implies, and_true, true_and, x_10, xs_ldc2, xs_lstore_5_i, xs_lstore_5_a, xs_lstore_5_n, xs_lstore_5_l, xs_iconst_0, xs_istore_7_i, xs_istore_7_a, xs_istore_7_n, xs_istore_7_l, xs_iload_n_1, xs_istore_8_i, xs_istore_8_a, xs_istore_8_n, xs_istore_8_l, xs_iload_8, xs_iload_n_2, xs_icmp_gt, xs_iload_n_3, xs_iload_4, xs_istore_9_i, xs_istore_9_a, xs_istore_9_n, xs_istore_9_l, xs_iconst_1, xs_iadd, xs_istore_10_i, xs_istore_10_a, xs_istore_10_n, xs_istore_10_l, xs_lload_5, xs_aload_n_0, xs_iload_9, xs_iload_10, xs_ladd, xs_iload_7, xs_imul, xs_iinc_8_1_i, xs_iinc_8_1_a, xs_iinc_8_1_n, xs_goto, xs_return]) ))
    refine ⟨fun q => ?_, fun q => absurd (nI_lt (by omega) (by omega)) q⟩
    rw [show k = t + 1 - f by omega]
    exact fin _ _ _
  | succ z ih =>
    intro k y1 y2 hk
    have a1 : nsp f (f + k) d q < 1024 := nsp_lt (by omega) (by omega) hd hq
    have a2 : nsp (f + k + 1) t d q < 1024 := nsp_lt (by omega) (by omega) hd hq
    have ihT := ih (k + 1) (some (nI (nsp f (f + k) d q))) (some (nI (nsp (f + k + 1) t d q))) (by omega)
    have cS1 := c_nspan (f := f) (t := f + k) (d := d) (q := q) (h := h)
    have cS2 := c_nspan (f := f + k + 1) (t := t) (d := d) (q := q) (h := h)
    rw [← nI_1] at cS2
    refine xe_X0_reckonTrees_11 ?_
    cases y1 <;> cases y2 <;> (simp only [Option.map_some, Option.map_none]; (repeat (first | (simp only [xb_X0_reckonTrees_0, xb_X0_reckonTrees_11, xb_X0_reckonTrees_89, xs_nil, Nat.reduceAdd, true_implies, not_true_eq_false, not_false_eq_true, false_implies, and_true, true_and, x_10, xs_ldc2, xs_lstore_5_i, xs_lstore_5_a, xs_lstore_5_n, xs_lstore_5_l, xs_iconst_0, xs_istore_7_i, xs_istore_7_a, xs_istore_7_n, xs_istore_7_l, xs_iload_n_1, xs_istore_8_i, xs_istore_8_a, xs_istore_8_n, xs_istore_8_l, xs_iload_8, xs_iload_n_2, xs_icmp_gt, xs_iload_n_3, xs_iload_4, xs_istore_9_i, xs_istore_9_a, xs_istore_9_n, xs_istore_9_l, xs_iconst_1, xs_iadd, xs_istore_10_i, xs_istore_10_a, xs_istore_10_n, xs_istore_10_l, xs_lload_5, xs_aload_n_0, xs_iload_9, xs_iload_10, xs_ladd, xs_iload_7, xs_imul, xs_iinc_8_1_i, xs_iinc_8_1_a, xs_iinc_8_1_n, xs_goto, xs_return]) )); refine ⟨fun w => absurd w (nI_nlt (by omega) (by omega)), fun w => ?_⟩; (repeat (first | (simp only [xb_X0_reckonTrees_0, xb_X0_reckonTrees_11, xb_X0_reckonTrees_89, xs_nil, Nat.reduceAdd, true_implies, not_true_eq_false, not_false_eq_true, false_implies, and_true, true_and, x_10, xs_ldc2, xs_lstore_5_i, xs_lstore_5_a, xs_lstore_5_n, xs_lstore_5_l, xs_iconst_0, xs_istore_7_i, xs_istore_7_a, xs_istore_7_n, xs_istore_7_l, xs_iload_n_1, xs_istore_8_i, xs_istore_8_a, xs_istore_8_n, xs_istore_8_l, xs_iload_8, xs_iload_n_2, xs_icmp_gt, xs_iload_n_3, xs_iload_4, xs_istore_9_i, xs_istore_9_a, xs_istore_9_n, xs_istore_9_l, xs_iconst_1, xs_iadd, xs_istore_10_i, xs_istore_10_a, xs_istore_10_n, xs_istore_10_l, xs_lload_5, xs_aload_n_0, xs_iload_9, xs_iload_10, xs_ladd, xs_iload_7, xs_imul, xs_iinc_8_1_i, xs_iinc_8_1_a, xs_iinc_8_1_n, xs_goto, xs_return]) | refine xc_s4_1 (by decide) (cS1) (Nat.le_of_ble_eq_true rfl) ?_ | refine xc_s4_1 (by decide) (cS2) (Nat.le_of_ble_eq_true rfl) ?_ | (rw [xs_math_1005 (Nat.le_of_ble_eq_true rfl)]) | (refine xr_getf (hb 0 _ rfl) (by rfl) ?_) | (refine xr_laload (hb 2 _ rfl) (x_in (by rw [l1]; exact a1) (by rw [l1]; decide)) ?_) | (refine xr_laload (hb 3 _ rfl) (x_in (by rw [l2]; exact a2) (by rw [l2]; decide)) ?_) | (refine xr_iaload (hb 4 _ rfl) (x_in (by rw [l3]; exact a1) (by rw [l3]; decide)) ?_) | (refine xr_iaload (hb 5 _ rfl) (x_in (by rw [l4]; exact a2) (by rw [l4]; decide)) ?_))); rw [nI_1, xg_n (by omega), xg_n (by omega), xgl_n (by omega), xgl_n (by omega)]; exact ihT)
theorem c_reckonTrees (hb : x_hb h g (x_hc g lk lt lts ctr ctrs le an)) (h2 : 2 ≤ g) (hf : f < 7) (ht : t < 7) (hd : d < 8) (hq : q < 2) (l1 : lt.length = 1024) (l2 : lts.length = 1024) (l3 : ctr.length = 1024) (l4 : ctrs.length = 1024) (hft : f ≤ t) : xK 69 [.ref g, .int (nI f), .int (nI t), .int (nI d), .int (nI q)] h none (x_wr h g (x_hc g lk lt (lts.set (nsp f t d q) (ktrees lt lts ctr ctrs f t d q (t + 1 - f)).1) ctr (ctrs.set (nsp f t d q) (ktrees lt lts ctr ctrs f t d q (t + 1 - f)).2) le an)) := by
  have hl := hb.fit (Nat.zero_lt_succ _)
  have e := hb.wr hl
  have a1 : nsp f t d q < 1024 := nsp_lt (by omega) (by omega) hd hq
  refine xK_X0_reckonTrees (hb 0 _ rfl) (xe_X0_reckonTrees_0 ?_)
  (repeat (first | (simp only [xb_X0_reckonTrees_0, xb_X0_reckonTrees_11, xb_X0_reckonTrees_89, xs_nil, Nat.reduceAdd, true_implies, not_true_eq_false, not_false_eq_true, false_implies, and_true, true_and, x_10, xs_ldc2, xs_lstore_5_i, xs_lstore_5_a, xs_lstore_5_n, xs_lstore_5_l, xs_iconst_0, xs_istore_7_i, xs_istore_7_a, xs_istore_7_n, xs_istore_7_l, xs_iload_n_1, xs_istore_8_i, xs_istore_8_a, xs_istore_8_n, xs_istore_8_l, xs_iload_8, xs_iload_n_2, xs_icmp_gt, xs_iload_n_3, xs_iload_4, xs_istore_9_i, xs_istore_9_a, xs_istore_9_n, xs_istore_9_l, xs_iconst_1, xs_iadd, xs_istore_10_i, xs_istore_10_a, xs_istore_10_n, xs_istore_10_l, xs_lload_5, xs_aload_n_0, xs_iload_9, xs_iload_10, xs_ladd, xs_iload_7, xs_imul, xs_iinc_8_1_i, xs_iinc_8_1_a, xs_iinc_8_1_n, xs_goto, xs_return]) ))
  refine l_reckonTrees hb hf ht hd hq l1 l2 l3 l4 (fun a b c => ?_) (t + 1 - f) 0 none none (by omega)
  refine xe_X0_reckonTrees_89 ?_
  (repeat (first | (simp only [xb_X0_reckonTrees_0, xb_X0_reckonTrees_11, xb_X0_reckonTrees_89, xs_nil, Nat.reduceAdd, true_implies, not_true_eq_false, not_false_eq_true, false_implies, and_true, true_and, x_10, xs_ldc2, xs_lstore_5_i, xs_lstore_5_a, xs_lstore_5_n, xs_lstore_5_l, xs_iconst_0, xs_istore_7_i, xs_istore_7_a, xs_istore_7_n, xs_istore_7_l, xs_iload_n_1, xs_istore_8_i, xs_istore_8_a, xs_istore_8_n, xs_istore_8_l, xs_iload_8, xs_iload_n_2, xs_icmp_gt, xs_iload_n_3, xs_iload_4, xs_istore_9_i, xs_istore_9_a, xs_istore_9_n, xs_istore_9_l, xs_iconst_1, xs_iadd, xs_istore_10_i, xs_istore_10_a, xs_istore_10_n, xs_istore_10_l, xs_lload_5, xs_aload_n_0, xs_iload_9, xs_iload_10, xs_ladd, xs_iload_7, xs_imul, xs_iinc_8_1_i, xs_iinc_8_1_a, xs_iinc_8_1_n, xs_goto, xs_return]) | refine xc_s4_1 (by decide) (c_nspan) (Nat.le_of_ble_eq_true rfl) ?_ | (refine xr_getf (hb 0 _ rfl) (by rfl) ?_)))
  refine xv_lastore hl e hb 3 (by rfl) h2 (x_in (by rw [l2]; exact a1) (by rw [l2]; decide)) (fun h1 hb e hl => ?_)
  rw [xul_n (by omega)] at hb e hl
  (repeat (first | (simp only [xb_X0_reckonTrees_0, xb_X0_reckonTrees_11, xb_X0_reckonTrees_89, xs_nil, Nat.reduceAdd, true_implies, not_true_eq_false, not_false_eq_true, false_implies, and_true, true_and, x_10, xs_ldc2, xs_lstore_5_i, xs_lstore_5_a, xs_lstore_5_n, xs_lstore_5_l, xs_iconst_0, xs_istore_7_i, xs_istore_7_a, xs_istore_7_n, xs_istore_7_l, xs_iload_n_1, xs_istore_8_i, xs_istore_8_a, xs_istore_8_n, xs_istore_8_l, xs_iload_8, xs_iload_n_2, xs_icmp_gt, xs_iload_n_3, xs_iload_4, xs_istore_9_i, xs_istore_9_a, xs_istore_9_n, xs_istore_9_l, xs_iconst_1, xs_iadd, xs_istore_10_i, xs_istore_10_a, xs_istore_10_n, xs_istore_10_l, xs_lload_5, xs_aload_n_0, xs_iload_9, xs_iload_10, xs_ladd, xs_iload_7, xs_imul, xs_iinc_8_1_i, xs_iinc_8_1_a, xs_iinc_8_1_n, xs_goto, xs_return]) | refine xc_s4_1 (by decide) (c_nspan) (Nat.le_of_ble_eq_true rfl) ?_ | (refine xr_getf (hb 0 _ rfl) (by rfl) ?_)))
  refine xv_iastore hl e hb 5 (by rfl) h2 (x_in (by rw [l4]; exact a1) (by rw [l4]; decide)) (fun h1 hb e hl => ?_)
  rw [xu_n (by omega)] at hb e hl
  (repeat (first | (simp only [xb_X0_reckonTrees_0, xb_X0_reckonTrees_11, xb_X0_reckonTrees_89, xs_nil, Nat.reduceAdd, true_implies, not_true_eq_false, not_false_eq_true, false_implies, and_true, true_and, x_10, xs_ldc2, xs_lstore_5_i, xs_lstore_5_a, xs_lstore_5_n, xs_lstore_5_l, xs_iconst_0, xs_istore_7_i, xs_istore_7_a, xs_istore_7_n, xs_istore_7_l, xs_iload_n_1, xs_istore_8_i, xs_istore_8_a, xs_istore_8_n, xs_istore_8_l, xs_iload_8, xs_iload_n_2, xs_icmp_gt, xs_iload_n_3, xs_iload_4, xs_istore_9_i, xs_istore_9_a, xs_istore_9_n, xs_istore_9_l, xs_iconst_1, xs_iadd, xs_istore_10_i, xs_istore_10_a, xs_istore_10_n, xs_istore_10_l, xs_lload_5, xs_aload_n_0, xs_iload_9, xs_iload_10, xs_ladd, xs_iload_7, xs_imul, xs_iinc_8_1_i, xs_iinc_8_1_a, xs_iinc_8_1_n, xs_goto, xs_return]) ))
  exact e
end CH2
