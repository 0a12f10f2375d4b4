/-! Chart: all; State: a word is heard -/
/-- links; trees; the least sum; how many -/
abbrev kC : Type := List Int64 × kA × Int64 × Int32
abbrev x_hs (g : Nat) (c : kC) : List xE := x_ha g c.1 c.2.1 c.2.2.1 c.2.2.2
def kcok (c : kC) : Prop := c.1.length = 256 ∧ kaok c.2.1
def kreckA (s : kS) (W : Int32) (c : kC) : kA := ksizes (klinksA s W (sn s) c.1 (sn s)) (sn s) c.2.1 (sn s - 1)
def kreck (s : kS) (W : Int32) (c : kC) : kC := (klinksA s W (sn s) c.1 (sn s), kreckA s W c, kroots s W (kreckA s W c).2.1 (kreckA s W c).2.2.2 (sn s) (sn s))
theorem kreck_ok {s : kS} {W : Int32} {c : kC} (h : kcok c) : kcok (kreck s W c) := ⟨by show (klinksA _ _ _ _ _).length = _; rw [klinksA_len]; exact h.1, ksizes_ok h.2 _⟩
theorem x_wr_comm {h : xH} {g p : Nat} {a b : List xE} (hg : g + a.length ≤ h.length) (hp : p + b.length ≤ h.length) (hd : p + b.length ≤ g ∨ g + a.length ≤ p) : x_wr (x_wr h g a) p b = x_wr (x_wr h p b) g a := by
  apply x_ext
  intro i
  rw [x_wr_at (by rw [x_wr_len]; exact hp), x_wr_at hg, x_wr_at (g := g) (by rw [x_wr_len]; exact hg), x_wr_at hp]
  by_cases h1 : p ≤ i ∧ i < p + b.length
  · rw [if_pos h1, if_neg (by omega), if_pos h1]
  · rw [if_neg h1, if_neg h1]
section CH8
variable {g p : Nat} {lk : List Int64} {A : kA} {le : Int64} {an W : Int32} {h h0 : xH} {f t n i d r q : Nat} {s : kS} {c : kC}
theorem l1_reckon (hp : x_hb h0 p (x_ts p s)) (hdj : p + 13 ≤ g ∨ g + 6 ≤ p) (hv : sv s) (l0 : lk.length = 256) (h2 : 2 ≤ g) (hn : sct s = nI n) (hn6 : n < 7) {rr : Option Value} {h' : xH}
    (fin : ∀ h1 a b, xA h0 g (x_ha g (klinksA s W n lk n) A le an) h1 → x_EV 73 31 [some (.ref g), some (.ref p), some (.int W), some (.int (nI n)), a, b] [] h1 rr h') :
    ∀ (z k : Nat) (h : xH) (a : Option Value), xA h0 g (x_ha g (klinksA s W n lk k) A le an) h → k + z = n → x_EV 73 11 [some (.ref g), some (.ref p), some (.int W), some (.int (nI n)), some (.int (nI (k + 1))), a] [] h rr h' := by
  intro z
  induction z with
  | zero =>
    intro k h a hB hkz
    have ek : k = n := by omega
    subst ek
    refine xe_X0_reckon_11 ?_
    (repeat (first | (simp only [xb_X0_reckon_0, xb_X0_reckon_11, xb_X0_reckon_31, xb_X0_reckon_34, xb_X0_reckon_43, xb_X0_reckon_74, xb_X0_reckon_80, xs_nil, Nat.reduceAdd, true_implies, not_true_eq_false, not_false_eq_true, false_implies, and_true, true_and, x_10, xs_aload_n_1, xs_istore_n_3_i, xs_istore_n_3_a, xs_istore_n_3_n, xs_istore_n_3_l, xs_iconst_1, xs_istore_4_i, xs_istore_4_a, xs_istore_4_n, xs_istore_4_l, xs_iload_4, xs_iload_n_3, xs_icmp_gt, xs_aload_n_0, xs_iload_n_2, xs_iinc_4_1_i, xs_iinc_4_1_a, xs_iinc_4_1_n, xs_goto, xs_icmp_ge, xs_istore_5_i, xs_istore_5_a, xs_istore_5_n, xs_istore_5_l, xs_iload_5, xs_iadd, xs_isub, xs_iinc_5_1_i, xs_iinc_5_1_a, xs_iinc_5_1_n, xs_return]) ))
    exact ⟨fun q => fin h _ _ hB, fun q => absurd (nI_lt (by omega) (by omega)) q⟩
  | succ z ih =>
    intro k h a hB hkz
    have hp1 : x_hb h p (x_ts p s) := hB.off hp hdj
    have ihT := ih (k + 1)
    have c1 := c_reckonLinks (W := W) (i := k + 1) hB.hb hp1 hdj hv (by rw [klinksA_len]; exact l0) h2 (by omega) hn hn6
    have B1 := hB.on (cs2 := x_ha g (klinksA s W n lk (k + 1)) A le an) rfl
    refine xe_X0_reckon_11 ?_
    (repeat (first | (simp only [xb_X0_reckon_0, xb_X0_reckon_11, xb_X0_reckon_31, xb_X0_reckon_34, xb_X0_reckon_43, xb_X0_reckon_74, xb_X0_reckon_80, xs_nil, Nat.reduceAdd, true_implies, not_true_eq_false, not_false_eq_true, false_implies, and_true, true_and, x_10, xs_aload_n_1, xs_istore_n_3_i, xs_istore_n_3_a, xs_istore_n_3_n, xs_istore_n_3_l, xs_iconst_1, xs_istore_4_i, xs_istore_4_a, xs_istore_4_n, xs_istore_4_l, xs_iload_4, xs_iload_n_3, xs_icmp_gt, xs_aload_n_0, xs_iload_n_2, xs_iinc_4_1_i, xs_iinc_4_1_a, xs_iinc_4_1_n, xs_goto, xs_icmp_ge, xs_istore_5_i, xs_istore_5_a, xs_istore_5_n, xs_istore_5_l, xs_iload_5, xs_iadd, xs_isub, xs_iinc_5_1_i, xs_iinc_5_1_a, xs_iinc_5_1_n, xs_return]) ))
    refine ⟨fun w => absurd w (nI_nlt (by omega) (by omega)), fun w => ?_⟩
    (repeat (first | (simp only [xb_X0_reckon_0, xb_X0_reckon_11, xb_X0_reckon_31, xb_X0_reckon_34, xb_X0_reckon_43, xb_X0_reckon_74, xb_X0_reckon_80, xs_nil, Nat.reduceAdd, true_implies, not_true_eq_false, not_false_eq_true, false_implies, and_true, true_and, x_10, xs_aload_n_1, xs_istore_n_3_i, xs_istore_n_3_a, xs_istore_n_3_n, xs_istore_n_3_l, xs_iconst_1, xs_istore_4_i, xs_istore_4_a, xs_istore_4_n, xs_istore_4_l, xs_iload_4, xs_iload_n_3, xs_icmp_gt, xs_aload_n_0, xs_iload_n_2, xs_iinc_4_1_i, xs_iinc_4_1_a, xs_iinc_4_1_n, xs_goto, xs_icmp_ge, xs_istore_5_i, xs_istore_5_a, xs_istore_5_n, xs_istore_5_l, xs_iload_5, xs_iadd, xs_isub, xs_iinc_5_1_i, xs_iinc_5_1_a, xs_iinc_5_1_n, xs_return]) ))
    refine xc_v4_0 c1 (Nat.le_of_ble_eq_true rfl) ?_
    (repeat (first | (simp only [xb_X0_reckon_0, xb_X0_reckon_11, xb_X0_reckon_31, xb_X0_reckon_34, xb_X0_reckon_43, xb_X0_reckon_74, xb_X0_reckon_80, xs_nil, Nat.reduceAdd, true_implies, not_true_eq_false, not_false_eq_true, false_implies, and_true, true_and, x_10, xs_aload_n_1, xs_istore_n_3_i, xs_istore_n_3_a, xs_istore_n_3_n, xs_istore_n_3_l, xs_iconst_1, xs_istore_4_i, xs_istore_4_a, xs_istore_4_n, xs_istore_4_l, xs_iload_4, xs_iload_n_3, xs_icmp_gt, xs_aload_n_0, xs_iload_n_2, xs_iinc_4_1_i, xs_iinc_4_1_a, xs_iinc_4_1_n, xs_goto, xs_icmp_ge, xs_istore_5_i, xs_istore_5_a, xs_istore_5_n, xs_istore_5_l, xs_iload_5, xs_iadd, xs_isub, xs_iinc_5_1_i, xs_iinc_5_1_a, xs_iinc_5_1_n, xs_return]) ))
    rw [nI_1]
    exact ihT _ _ B1 (by omega)
theorem l2_reckon (l0 : lk.length = 256) (h2 : 2 ≤ g) (hn6 : n < 7) (hk : kaok A) {z : Nat} (hz : 1 ≤ z) (hzn : z ≤ n) {rr : Option Value} {h' : xH} {x1 x2 : Option Value}
    (fin : ∀ h1 a, xA h0 g (x_ha g lk (kspans lk n z A (n + 1 - z)) le an) h1 → x_EV 73 74 [some (.ref g), x1, x2, some (.int (nI n)), some (.int (nI z)), a] [] h1 rr h') :
    ∀ (y k : Nat) (h : xH), xA h0 g (x_ha g lk (kspans lk n z A k) le an) h → k + y = n + 1 - z → x_EV 73 43 [some (.ref g), x1, x2, some (.int (nI n)), some (.int (nI z)), some (.int (nI (k + 1)))] [] h rr h' := by
  have ez : ∀ k : Nat, nI (k + 1) + nI z - 1 = nI (k + 1 + z - 1) := fun k => by
    rw [nI_add, show k + 1 + z = (k + 1 + z - 1) + 1 by omega, nI_pred]
    rfl
  intro y
  induction y with
  | zero =>
    intro k h hB hkz
    have ek : k = n + 1 - z := by omega
    subst ek
    refine xe_X0_reckon_43 ?_
    (repeat (first | (simp only [xb_X0_reckon_0, xb_X0_reckon_11, xb_X0_reckon_31, xb_X0_reckon_34, xb_X0_reckon_43, xb_X0_reckon_74, xb_X0_reckon_80, xs_nil, Nat.reduceAdd, true_implies, not_true_eq_false, not_false_eq_true, false_implies, and_true, true_and, x_10, xs_aload_n_1, xs_istore_n_3_i, xs_istore_n_3_a, xs_istore_n_3_n, xs_istore_n_3_l, xs_iconst_1, xs_istore_4_i, xs_istore_4_a, xs_istore_4_n, xs_istore_4_l, xs_iload_4, xs_iload_n_3, xs_icmp_gt, xs_aload_n_0, xs_iload_n_2, xs_iinc_4_1_i, xs_iinc_4_1_a, xs_iinc_4_1_n, xs_goto, xs_icmp_ge, xs_istore_5_i, xs_istore_5_a, xs_istore_5_n, xs_istore_5_l, xs_iload_5, xs_iadd, xs_isub, xs_iinc_5_1_i, xs_iinc_5_1_a, xs_iinc_5_1_n, xs_return]) ))
    rw [ez]
    exact ⟨fun q => fin h _ hB, fun q => absurd (nI_lt (by omega) (by omega)) q⟩
  | succ y ih =>
    intro k h hB hkz
    have ihT := ih (k + 1)
    have c1 := c_reckonSpan (f := k + 1) (t := k + 1 + z - 1) (n := n) hB.hb (kspans_ok hk k) l0 h2 (by omega) (by omega) (by omega) hn6
    have B1 := hB.on (cs2 := x_ha g lk (kspans lk n z A (k + 1)) le an) rfl
    refine xe_X0_reckon_43 ?_
    (repeat (first | (simp only [xb_X0_reckon_0, xb_X0_reckon_11, xb_X0_reckon_31, xb_X0_reckon_34, xb_X0_reckon_43, xb_X0_reckon_74, xb_X0_reckon_80, xs_nil, Nat.reduceAdd, true_implies, not_true_eq_false, not_false_eq_true, false_implies, and_true, true_and, x_10, xs_aload_n_1, xs_istore_n_3_i, xs_istore_n_3_a, xs_istore_n_3_n, xs_istore_n_3_l, xs_iconst_1, xs_istore_4_i, xs_istore_4_a, xs_istore_4_n, xs_istore_4_l, xs_iload_4, xs_iload_n_3, xs_icmp_gt, xs_aload_n_0, xs_iload_n_2, xs_iinc_4_1_i, xs_iinc_4_1_a, xs_iinc_4_1_n, xs_goto, xs_icmp_ge, xs_istore_5_i, xs_istore_5_a, xs_istore_5_n, xs_istore_5_l, xs_iload_5, xs_iadd, xs_isub, xs_iinc_5_1_i, xs_iinc_5_1_a, xs_iinc_5_1_n, xs_return]) ))
    rw [ez]
    refine ⟨fun w => absurd w (nI_nlt (by omega) (by omega)), fun w => ?_⟩
    refine xc_v4_0 c1 (Nat.le_of_ble_eq_true rfl) ?_
    (repeat (first | (simp only [xb_X0_reckon_0, xb_X0_reckon_11, xb_X0_reckon_31, xb_X0_reckon_34, xb_X0_reckon_43, xb_X0_reckon_74, xb_X0_reckon_80, xs_nil, Nat.reduceAdd, true_implies, not_true_eq_false, not_false_eq_true, false_implies, and_true, true_and, x_10, xs_aload_n_1, xs_istore_n_3_i, xs_istore_n_3_a, xs_istore_n_3_n, xs_istore_n_3_l, xs_iconst_1, xs_istore_4_i, xs_istore_4_a, xs_istore_4_n, xs_istore_4_l, xs_iload_4, xs_iload_n_3, xs_icmp_gt, xs_aload_n_0, xs_iload_n_2, xs_iinc_4_1_i, xs_iinc_4_1_a, xs_iinc_4_1_n, xs_goto, xs_icmp_ge, xs_istore_5_i, xs_istore_5_a, xs_istore_5_n, xs_istore_5_l, xs_iload_5, xs_iadd, xs_isub, xs_iinc_5_1_i, xs_iinc_5_1_a, xs_iinc_5_1_n, xs_return]) ))
    rw [nI_1]
    exact ihT _ B1 (by omega)
theorem l3_reckon (l0 : lk.length = 256) (h2 : 2 ≤ g) (hn6 : n < 7) (hk : kaok A) {rr : Option Value} {h' : xH} {x1 x2 : Option Value}
    (fin : ∀ h1 a b, xA h0 g (x_ha g lk (ksizes lk n A (n - 1)) le an) h1 → x_EV 73 80 [some (.ref g), x1, x2, some (.int (nI n)), a, b] [] h1 rr h') :
    ∀ (y k : Nat) (h : xH) (a : Option Value), xA h0 g (x_ha g lk (ksizes lk n A k) le an) h → k + y = n - 1 → x_EV 73 34 [some (.ref g), x1, x2, some (.int (nI n)), some (.int (nI (k + 1))), a] [] h rr h' := by
  intro y
  induction y with
  | zero =>
    intro k h a hB hkz
    have ek : k = n - 1 := by omega
    subst ek
    refine xe_X0_reckon_34 ?_
    (repeat (first | (simp only [xb_X0_reckon_0, xb_X0_reckon_11, xb_X0_reckon_31, xb_X0_reckon_34, xb_X0_reckon_43, xb_X0_reckon_74, xb_X0_reckon_80, xs_nil, Nat.reduceAdd, true_implies, not_true_eq_false, not_false_eq_true, false_implies, and_true, true_and, x_10, xs_aload_n_1, xs_istore_n_3_i, xs_istore_n_3_a, xs_istore_n_3_n, xs_istore_n_3_l, xs_iconst_1, xs_istore_4_i, xs_istore_4_a, xs_istore_4_n, xs_istore_4_l, xs_iload_4, xs_iload_n_3, xs_icmp_gt, xs_aload_n_0, xs_iload_n_2, xs_iinc_4_1_i, xs_iinc_4_1_a, xs_iinc_4_1_n, xs_goto, xs_icmp_ge, xs_istore_5_i, xs_istore_5_a, xs_istore_5_n, xs_istore_5_l, xs_iload_5, xs_iadd, xs_isub, xs_iinc_5_1_i, xs_iinc_5_1_a, xs_iinc_5_1_n, xs_return]) ))
    exact ⟨fun q => fin h _ _ hB, fun q => absurd (nI_le (by omega) (by omega)) q⟩
  | succ y ih =>
    intro k h a hB hkz
    have ihT := ih (k + 1)
    refine xe_X0_reckon_34 ?_
    (repeat (first | (simp only [xb_X0_reckon_0, xb_X0_reckon_11, xb_X0_reckon_31, xb_X0_reckon_34, xb_X0_reckon_43, xb_X0_reckon_74, xb_X0_reckon_80, xs_nil, Nat.reduceAdd, true_implies, not_true_eq_false, not_false_eq_true, false_implies, and_true, true_and, x_10, xs_aload_n_1, xs_istore_n_3_i, xs_istore_n_3_a, xs_istore_n_3_n, xs_istore_n_3_l, xs_iconst_1, xs_istore_4_i, xs_istore_4_a, xs_istore_4_n, xs_istore_4_l, xs_iload_4, xs_iload_n_3, xs_icmp_gt, xs_aload_n_0, xs_iload_n_2, xs_iinc_4_1_i, xs_iinc_4_1_a, xs_iinc_4_1_n, xs_goto, xs_icmp_ge, xs_istore_5_i, xs_istore_5_a, xs_istore_5_n, xs_istore_5_l, xs_iload_5, xs_iadd, xs_isub, xs_iinc_5_1_i, xs_iinc_5_1_a, xs_iinc_5_1_n, xs_return]) ))
    refine ⟨fun w => absurd w (nI_ge (by omega) (by omega)), fun w => ?_⟩
    (repeat (first | (simp only [xb_X0_reckon_0, xb_X0_reckon_11, xb_X0_reckon_31, xb_X0_reckon_34, xb_X0_reckon_43, xb_X0_reckon_74, xb_X0_reckon_80, xs_nil, Nat.reduceAdd, true_implies, not_true_eq_false, not_false_eq_true, false_implies, and_true, true_and, x_10, xs_aload_n_1, xs_istore_n_3_i, xs_istore_n_3_a, xs_istore_n_3_n, xs_istore_n_3_l, xs_iconst_1, xs_istore_4_i, xs_istore_4_a, xs_istore_4_n, xs_istore_4_l, xs_iload_4, xs_iload_n_3, xs_icmp_gt, xs_aload_n_0, xs_iload_n_2, xs_iinc_4_1_i, xs_iinc_4_1_a, xs_iinc_4_1_n, xs_goto, xs_icmp_ge, xs_istore_5_i, xs_istore_5_a, xs_istore_5_n, xs_istore_5_l, xs_iload_5, xs_iadd, xs_isub, xs_iinc_5_1_i, xs_iinc_5_1_a, xs_iinc_5_1_n, xs_return]) ))
    refine l2_reckon (z := k + 1) l0 h2 hn6 (ksizes_ok hk k) (by omega) (by omega) (fun h1 a B1 => ?_) (n + 1 - (k + 1)) 0 h hB (by omega)
    refine xe_X0_reckon_74 ?_
    (repeat (first | (simp only [xb_X0_reckon_0, xb_X0_reckon_11, xb_X0_reckon_31, xb_X0_reckon_34, xb_X0_reckon_43, xb_X0_reckon_74, xb_X0_reckon_80, xs_nil, Nat.reduceAdd, true_implies, not_true_eq_false, not_false_eq_true, false_implies, and_true, true_and, x_10, xs_aload_n_1, xs_istore_n_3_i, xs_istore_n_3_a, xs_istore_n_3_n, xs_istore_n_3_l, xs_iconst_1, xs_istore_4_i, xs_istore_4_a, xs_istore_4_n, xs_istore_4_l, xs_iload_4, xs_iload_n_3, xs_icmp_gt, xs_aload_n_0, xs_iload_n_2, xs_iinc_4_1_i, xs_iinc_4_1_a, xs_iinc_4_1_n, xs_goto, xs_icmp_ge, xs_istore_5_i, xs_istore_5_a, xs_istore_5_n, xs_istore_5_l, xs_iload_5, xs_iadd, xs_isub, xs_iinc_5_1_i, xs_iinc_5_1_a, xs_iinc_5_1_n, xs_return]) ))
    rw [nI_1]
    exact ihT h1 _ B1 (by omega)
theorem c_reckon (hb : x_hb h g (x_hs g c)) (hp : x_hb h p (x_ts p s)) (hdj : p + 13 ≤ g ∨ g + 6 ≤ p) (hv : sv s) (hc : kcok c) (h2 : 2 ≤ g) : xK 73 [.ref g, .ref p, .int W] h none (x_wr h g (x_hs g (kreck s W c))) := by
  have B := xA.of hb (Nat.zero_lt_succ _)
  have hn := hv.ct
  have hn6 := hv.n6
  refine xK_X0_reckon (hb 0 _ rfl) (xe_X0_reckon_0 ?_)
  (repeat (first | (simp only [xb_X0_reckon_0, xb_X0_reckon_11, xb_X0_reckon_31, xb_X0_reckon_34, xb_X0_reckon_43, xb_X0_reckon_74, xb_X0_reckon_80, xs_nil, Nat.reduceAdd, true_implies, not_true_eq_false, not_false_eq_true, false_implies, and_true, true_and, x_10, xs_aload_n_1, xs_istore_n_3_i, xs_istore_n_3_a, xs_istore_n_3_n, xs_istore_n_3_l, xs_iconst_1, xs_istore_4_i, xs_istore_4_a, xs_istore_4_n, xs_istore_4_l, xs_iload_4, xs_iload_n_3, xs_icmp_gt, xs_aload_n_0, xs_iload_n_2, xs_iinc_4_1_i, xs_iinc_4_1_a, xs_iinc_4_1_n, xs_goto, xs_icmp_ge, xs_istore_5_i, xs_istore_5_a, xs_istore_5_n, xs_istore_5_l, xs_iload_5, xs_iadd, xs_isub, xs_iinc_5_1_i, xs_iinc_5_1_a, xs_iinc_5_1_n, xs_return]) | (refine xr_getf (hp 0 _ rfl) (by rfl) ?_) | (refine xr_getf (hp 7 _ rfl) (by rfl) ?_)))
  rw [hn]
  refine l1_reckon (n := sn s) hp hdj hv hc.1 h2 hn (by omega) (fun h1 a b B1 => ?_) (sn s) 0 h none B (by omega)
  refine xe_X0_reckon_31 ?_
  (repeat (first | (simp only [xb_X0_reckon_0, xb_X0_reckon_11, xb_X0_reckon_31, xb_X0_reckon_34, xb_X0_reckon_43, xb_X0_reckon_74, xb_X0_reckon_80, xs_nil, Nat.reduceAdd, true_implies, not_true_eq_false, not_false_eq_true, false_implies, and_true, true_and, x_10, xs_aload_n_1, xs_istore_n_3_i, xs_istore_n_3_a, xs_istore_n_3_n, xs_istore_n_3_l, xs_iconst_1, xs_istore_4_i, xs_istore_4_a, xs_istore_4_n, xs_istore_4_l, xs_iload_4, xs_iload_n_3, xs_icmp_gt, xs_aload_n_0, xs_iload_n_2, xs_iinc_4_1_i, xs_iinc_4_1_a, xs_iinc_4_1_n, xs_goto, xs_icmp_ge, xs_istore_5_i, xs_istore_5_a, xs_istore_5_n, xs_istore_5_l, xs_iload_5, xs_iadd, xs_isub, xs_iinc_5_1_i, xs_iinc_5_1_a, xs_iinc_5_1_n, xs_return]) ))
  refine l3_reckon (n := sn s) (by rw [klinksA_len]; exact hc.1) h2 (by omega) hc.2 (fun h1 a b B1 => ?_) (sn s - 1) 0 h1 _ B1 (by omega)
  have hp1 : x_hb h1 p (x_ts p s) := B1.off hp hdj
  have c1 := c_reckonRoots (W := W) B1.hb hp1 hdj hv (ksizes_ok hc.2 _) h2 hn (by omega)
  have B2 := B1.on (cs2 := x_hs g (kreck s W c)) rfl
  refine xe_X0_reckon_80 ?_
  (repeat (first | (simp only [xb_X0_reckon_0, xb_X0_reckon_11, xb_X0_reckon_31, xb_X0_reckon_34, xb_X0_reckon_43, xb_X0_reckon_74, xb_X0_reckon_80, xs_nil, Nat.reduceAdd, true_implies, not_true_eq_false, not_false_eq_true, false_implies, and_true, true_and, x_10, xs_aload_n_1, xs_istore_n_3_i, xs_istore_n_3_a, xs_istore_n_3_n, xs_istore_n_3_l, xs_iconst_1, xs_istore_4_i, xs_istore_4_a, xs_istore_4_n, xs_istore_4_l, xs_iload_4, xs_iload_n_3, xs_icmp_gt, xs_aload_n_0, xs_iload_n_2, xs_iinc_4_1_i, xs_iinc_4_1_a, xs_iinc_4_1_n, xs_goto, xs_icmp_ge, xs_istore_5_i, xs_istore_5_a, xs_istore_5_n, xs_istore_5_l, xs_iload_5, xs_iadd, xs_isub, xs_iinc_5_1_i, xs_iinc_5_1_a, xs_iinc_5_1_n, xs_return]) ))
  refine xc_v3_0 c1 (Nat.le_of_ble_eq_true rfl) ?_
  (repeat (first | (simp only [xb_X0_reckon_0, xb_X0_reckon_11, xb_X0_reckon_31, xb_X0_reckon_34, xb_X0_reckon_43, xb_X0_reckon_74, xb_X0_reckon_80, xs_nil, Nat.reduceAdd, true_implies, not_true_eq_false, not_false_eq_true, false_implies, and_true, true_and, x_10, xs_aload_n_1, xs_istore_n_3_i, xs_istore_n_3_a, xs_istore_n_3_n, xs_istore_n_3_l, xs_iconst_1, xs_istore_4_i, xs_istore_4_a, xs_istore_4_n, xs_istore_4_l, xs_iload_4, xs_iload_n_3, xs_icmp_gt, xs_aload_n_0, xs_iload_n_2, xs_iinc_4_1_i, xs_iinc_4_1_a, xs_iinc_4_1_n, xs_goto, xs_icmp_ge, xs_istore_5_i, xs_istore_5_a, xs_istore_5_n, xs_istore_5_l, xs_iload_5, xs_iadd, xs_isub, xs_iinc_5_1_i, xs_iinc_5_1_a, xs_iinc_5_1_n, xs_return]) ))
  exact B2.e
end CH8
def kleastRow (c : kC) : Int32 := (c.2.2.1 &&& Int64.ofNat 16777215).toInt32
def kleastRep (c : kC) : Int32 := (c.2.2.1 >>> ((24 : Int32).toInt64 &&& 63)).toInt32 &&& 4095
def kleastCost (c : kC) : Int32 := (c.2.2.1 >>> ((36 : Int32).toInt64 &&& 63)).toInt32 - kleastRep c
section CH9
variable {g : Nat} {c : kC} {h : xH}
theorem c_hasAnalysis (hb : x_hb h g (x_hs g c)) : xK 74 [.ref g] h (some (.int (if 0 < c.2.2.2 then 1 else 0))) h := by
  refine xK_X0_hasAnalysis (hb 0 _ rfl) ?_
  (repeat' (first | (simp only [xb_X0_hasAnalysis_0, xb_X0_hasAnalysis_11, xb_X0_hasAnalysis_12, xs_nil, Nat.reduceAdd, true_implies, not_true_eq_false, not_false_eq_true, false_implies, and_true, true_and, x_10, xs_aload_n_0, xs_if_le, xs_iconst_1, xs_goto, xs_iconst_0, xs_ireturn]) | (refine ⟨fun _ => ?_, fun _ => ?_⟩) | refine xe_X0_hasAnalysis_0 ?_ | refine xe_X0_hasAnalysis_11 ?_ | refine xe_X0_hasAnalysis_12 ?_ | (refine xr_getf (hb 0 _ rfl) (by rfl) ?_)))
  all_goals (first | (simp_all [x_bit, x_ite0, Int32.not_lt, Int32.not_le]; done) | ((try simp only [x_ite0] at *) <;> simp [x_bit, Int32.lt_iff_toInt_lt, Int32.le_iff_toInt_le] at * <;> omega))
theorem c_countOfAnalyses (hb : x_hb h g (x_hs g c)) : xK 123 [.ref g] h (some (.int c.2.2.2)) h := by
  refine xK_X0_countOfAnalyses (hb 0 _ rfl) ?_
  (repeat' (first | (simp only [xb_X0_countOfAnalyses_0, xs_nil, Nat.reduceAdd, true_implies, not_true_eq_false, not_false_eq_true, false_implies, and_true, true_and, x_10, xs_aload_n_0, xs_ireturn]) | (refine ⟨fun _ => ?_, fun _ => ?_⟩) | refine xe_X0_countOfAnalyses_0 ?_ | (refine xr_getf (hb 0 _ rfl) (by rfl) ?_)))
  all_goals simp
theorem c_leastRow (hb : x_hb h g (x_hs g c)) : xK 77 [.ref g] h (some (.int (kleastRow c))) h := by
  refine xK_X0_leastRow (hb 0 _ rfl) ?_
  (repeat' (first | (simp only [xb_X0_leastRow_0, xs_nil, Nat.reduceAdd, true_implies, not_true_eq_false, not_false_eq_true, false_implies, and_true, true_and, x_10, xs_aload_n_0, xs_ldc2, xs_land, xs_l2i, xs_ireturn]) | (refine ⟨fun _ => ?_, fun _ => ?_⟩) | refine xe_X0_leastRow_0 ?_ | (refine xr_getf (hb 0 _ rfl) (by rfl) ?_)))
  all_goals simp [kleastRow]
theorem c_leastRepair (hb : x_hb h g (x_hs g c)) : xK 76 [.ref g] h (some (.int (kleastRep c))) h := by
  refine xK_X0_leastRepair (hb 0 _ rfl) ?_
  (repeat' (first | (simp only [xb_X0_leastRepair_0, xs_nil, Nat.reduceAdd, true_implies, not_true_eq_false, not_false_eq_true, false_implies, and_true, true_and, x_10, xs_aload_n_0, xs_bipush_24, xs_lshr, xs_l2i, xs_sipush_4095, xs_iand, xs_ireturn]) | (refine ⟨fun _ => ?_, fun _ => ?_⟩) | refine xe_X0_leastRepair_0 ?_ | (refine xr_getf (hb 0 _ rfl) (by rfl) ?_)))
  exact ⟨Or.inl trivial, rfl⟩
theorem c_leastCost (hb : x_hb h g (x_hs g c)) : xK 78 [.ref g] h (some (.int (kleastCost c))) h := by
  refine xK_X0_leastCost (hb 0 _ rfl) ?_
  (repeat' (first | (simp only [xb_X0_leastCost_0, xs_nil, Nat.reduceAdd, true_implies, not_true_eq_false, not_false_eq_true, false_implies, and_true, true_and, x_10, xs_aload_n_0, xs_bipush_36, xs_lshr, xs_l2i, xs_isub, xs_ireturn]) | (refine ⟨fun _ => ?_, fun _ => ?_⟩) | refine xe_X0_leastCost_0 ?_ | (refine xr_getf (hb 0 _ rfl) (by rfl) ?_) | refine xc_v1_1 (c_leastRepair hb) (Nat.le_of_ble_eq_true rfl) ?_))
  exact ⟨Or.inl trivial, rfl⟩
end CH9
