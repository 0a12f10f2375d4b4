/-! Chart: links, spans, roots -/
/-- trees' least sums, those of trees side by side, and how many -/
abbrev kA : Type := List Int64 × List Int64 × List Int32 × List Int32
abbrev x_ha (g : Nat) (lk : List Int64) (A : kA) (le : Int64) (an : Int32) : List xE := x_hc g lk A.1 A.2.1 A.2.2.1 A.2.2.2 le an
def kaok (A : kA) : Prop := A.1.length = 1024 ∧ A.2.1.length = 1024 ∧ A.2.2.1.length = 1024 ∧ A.2.2.2.length = 1024
def kone1 (lk : List Int64) (f t d q : Nat) (A : kA) : kA := (A.1.set (nsp f t d q) (ktree lk A.2.1 A.2.2.2 f t d q (t + 1 - f)).1, A.2.1, A.2.2.1.set (nsp f t d q) (ktree lk A.2.1 A.2.2.2 f t d q (t + 1 - f)).2, A.2.2.2)
def kone2 (f t d q : Nat) (A : kA) : kA := (A.1, A.2.1.set (nsp f t d q) (ktrees A.1 A.2.1 A.2.2.1 A.2.2.2 f t d q (t + 1 - f)).1, A.2.2.1, A.2.2.2.set (nsp f t d q) (ktrees A.1 A.2.1 A.2.2.1 A.2.2.2 f t d q (t + 1 - f)).2)
def kone (lk : List Int64) (f t d q : Nat) (A : kA) : kA := kone2 f t d q (kone1 lk f t d q A)
theorem kone1_ok {lk : List Int64} {f t d q : Nat} {A : kA} (h : kaok A) : kaok (kone1 lk f t d q A) := ⟨by show (List.set _ _ _).length = _; rw [List.length_set]; exact h.1, h.2.1, by show (List.set _ _ _).length = _; rw [List.length_set]; exact h.2.2.1, h.2.2.2⟩
theorem kone2_ok {f t d q : Nat} {A : kA} (h : kaok A) : kaok (kone2 f t d q A) := ⟨h.1, by show (List.set _ _ _).length = _; rw [List.length_set]; exact h.2.1, h.2.2.1, by show (List.set _ _ _).length = _; rw [List.length_set]; exact h.2.2.2⟩
theorem kone_ok {lk : List Int64} {f t d q : Nat} {A : kA} (h : kaok A) : kaok (kone lk f t d q A) := kone2_ok (kone1_ok h)
/-- a span under the first k heads -/
def kspan (lk : List Int64) (f t : Nat) (A : kA) : Nat → kA
  | 0 => A
  | k + 1 => if f ≤ k + 1 ∧ k + 1 ≤ t then kspan lk f t A k else kone lk f t (k + 1) 1 (kone lk f t (k + 1) 0 (kspan lk f t A k))
theorem kspan_ok {lk : List Int64} {f t : Nat} {A : kA} (h : kaok A) : ∀ k, kaok (kspan lk f t A k)
  | 0 => h
  | k + 1 => by
    unfold kspan
    split
    · exact kspan_ok h k
    · exact kone_ok (kone_ok (kspan_ok h k))
/-- the first k spans of a size -/
def kspans (lk : List Int64) (n z : Nat) (A : kA) : Nat → kA
  | 0 => A
  | k + 1 => kspan lk (k + 1) (k + 1 + z - 1) (kspans lk n z A k) n
theorem kspans_ok {lk : List Int64} {n z : Nat} {A : kA} (h : kaok A) : ∀ k, kaok (kspans lk n z A k)
  | 0 => h
  | k + 1 => kspan_ok (kspans_ok h k) n
/-- the sizes 1 to k -/
def ksizes (lk : List Int64) (n : Nat) (A : kA) : Nat → kA
  | 0 => A
  | k + 1 => kspans lk n (k + 1) (ksizes lk n A k) (n + 1 - (k + 1))
theorem ksizes_ok {lk : List Int64} {n : Nat} {A : kA} (h : kaok A) : ∀ k, kaok (ksizes lk n A k)
  | 0 => h
  | k + 1 => kspans_ok (ksizes_ok h k) _
section CH5
variable {g : Nat} {lk : List Int64} {A : kA} {le : Int64} {an : Int32} {h h0 : xH} {f t n : Nat}
theorem s_reckonSpan (hB : xA h0 g (x_ha g lk A le an) h) (hk : kaok A) (l0 : lk.length = 256) (h2 : 2 ≤ g) (h1f : 1 ≤ f) (hft : f ≤ t) (ht : t < 7) {d q : Nat} (hd : d < 8) (hq : q < 2) {rr : Option Value} {h' : xH} {x3 : Option Value}
    (nx : ∀ h1, xA h0 g (x_ha g lk (kone lk f t d q A) le an) h1 → x_EV 70 27 [some (.ref g), some (.int (nI f)), some (.int (nI t)), x3, some (.int (nI d)), some (.int (nI (q + 1)))] [] h1 rr h') :
    x_EV 70 27 [some (.ref g), some (.int (nI f)), some (.int (nI t)), x3, some (.int (nI d)), some (.int (nI q))] [] h rr h' := by
  have hk1 := kone1_ok (lk := lk) (f := f) (t := t) (d := d) (q := q) hk
  have c1 := c_reckonTree hB.hb h2 h1f (by omega) ht hd hq l0 hk.1 hk.2.1 hk.2.2.1 hk.2.2.2 hft
  have B1 : xA h0 g (x_ha g lk (kone1 lk f t d q A) le an) _ := hB.on rfl
  have c2 := c_reckonTrees B1.hb h2 (by omega) ht hd hq hk1.1 hk1.2.1 hk1.2.2.1 hk1.2.2.2 hft
  have B2 : xA h0 g (x_ha g lk (kone lk f t d q A) le an) _ := B1.on rfl
  refine xe_X0_reckonSpan_27 ?_
  (repeat (first | (simp only [xb_X0_reckonSpan_0, xb_X0_reckonSpan_3, xb_X0_reckonSpan_24, xb_X0_reckonSpan_27, xb_X0_reckonSpan_59, xb_X0_reckonSpan_65, xs_nil, Nat.reduceAdd, true_implies, not_true_eq_false, not_false_eq_true, false_implies, and_true, true_and, x_10, xs_iconst_1, xs_istore_4_i, xs_istore_4_a, xs_istore_4_n, xs_istore_4_l, xs_iload_4, xs_iload_n_3, xs_icmp_gt, xs_iload_n_1, xs_icmp_lt, xs_iload_n_2, xs_goto, xs_iconst_0, xs_istore_5_i, xs_istore_5_a, xs_istore_5_n, xs_istore_5_l, xs_iload_5, xs_iconst_2, xs_icmp_ge, xs_aload_n_0, xs_iinc_5_1_i, xs_iinc_5_1_a, xs_iinc_5_1_n, xs_iinc_4_1_i, xs_iinc_4_1_a, xs_iinc_4_1_n, xs_return]) ))
  refine ⟨fun w => absurd w (nI_ge (b := 2) (by omega) (by omega)), fun _ => ?_⟩
  (repeat (first | (simp only [xb_X0_reckonSpan_0, xb_X0_reckonSpan_3, xb_X0_reckonSpan_24, xb_X0_reckonSpan_27, xb_X0_reckonSpan_59, xb_X0_reckonSpan_65, xs_nil, Nat.reduceAdd, true_implies, not_true_eq_false, not_false_eq_true, false_implies, and_true, true_and, x_10, xs_iconst_1, xs_istore_4_i, xs_istore_4_a, xs_istore_4_n, xs_istore_4_l, xs_iload_4, xs_iload_n_3, xs_icmp_gt, xs_iload_n_1, xs_icmp_lt, xs_iload_n_2, xs_goto, xs_iconst_0, xs_istore_5_i, xs_istore_5_a, xs_istore_5_n, xs_istore_5_l, xs_iload_5, xs_iconst_2, xs_icmp_ge, xs_aload_n_0, xs_iinc_5_1_i, xs_iinc_5_1_a, xs_iinc_5_1_n, xs_iinc_4_1_i, xs_iinc_4_1_a, xs_iinc_4_1_n, xs_return]) ))
  refine xc_v5_0 c1 (Nat.le_of_ble_eq_true rfl) ?_
  (repeat (first | (simp only [xb_X0_reckonSpan_0, xb_X0_reckonSpan_3, xb_X0_reckonSpan_24, xb_X0_reckonSpan_27, xb_X0_reckonSpan_59, xb_X0_reckonSpan_65, xs_nil, Nat.reduceAdd, true_implies, not_true_eq_false, not_false_eq_true, false_implies, and_true, true_and, x_10, xs_iconst_1, xs_istore_4_i, xs_istore_4_a, xs_istore_4_n, xs_istore_4_l, xs_iload_4, xs_iload_n_3, xs_icmp_gt, xs_iload_n_1, xs_icmp_lt, xs_iload_n_2, xs_goto, xs_iconst_0, xs_istore_5_i, xs_istore_5_a, xs_istore_5_n, xs_istore_5_l, xs_iload_5, xs_iconst_2, xs_icmp_ge, xs_aload_n_0, xs_iinc_5_1_i, xs_iinc_5_1_a, xs_iinc_5_1_n, xs_iinc_4_1_i, xs_iinc_4_1_a, xs_iinc_4_1_n, xs_return]) ))
  refine xc_v5_0 c2 (Nat.le_of_ble_eq_true rfl) ?_
  (repeat (first | (simp only [xb_X0_reckonSpan_0, xb_X0_reckonSpan_3, xb_X0_reckonSpan_24, xb_X0_reckonSpan_27, xb_X0_reckonSpan_59, xb_X0_reckonSpan_65, xs_nil, Nat.reduceAdd, true_implies, not_true_eq_false, not_false_eq_true, false_implies, and_true, true_and, x_10, xs_iconst_1, xs_istore_4_i, xs_istore_4_a, xs_istore_4_n, xs_istore_4_l, xs_iload_4, xs_iload_n_3, xs_icmp_gt, xs_iload_n_1, xs_icmp_lt, xs_iload_n_2, xs_goto, xs_iconst_0, xs_istore_5_i, xs_istore_5_a, xs_istore_5_n, xs_istore_5_l, xs_iload_5, xs_iconst_2, xs_icmp_ge, xs_aload_n_0, xs_iinc_5_1_i, xs_iinc_5_1_a, xs_iinc_5_1_n, xs_iinc_4_1_i, xs_iinc_4_1_a, xs_iinc_4_1_n, xs_return]) ))
  rw [nI_1]
  exact nx _ B2
theorem l_reckonSpan (l0 : lk.length = 256) (h2 : 2 ≤ g) (h1f : 1 ≤ f) (hft : f ≤ t) (ht : t < 7) (hn : n < 7) (hk : kaok A) :
    ∀ (z k : Nat) (h : xH) (a : Option Value), xA h0 g (x_ha g lk (kspan lk f t A k) le an) h → k + z = n → x_EV 70 3 [some (.ref g), some (.int (nI f)), some (.int (nI t)), some (.int (nI n)), some (.int (nI (k + 1))), a] [] h none (x_wr h0 g (x_ha g lk (kspan lk f t A n) le an)) := by
  intro z
  induction z with
  | zero =>
    intro k h a hB hkz
    have ek : k = n := by omega
    subst ek
    refine xe_X0_reckonSpan_3 ?_
    (repeat (first | (simp only [xb_X0_reckonSpan_0, xb_X0_reckonSpan_3, xb_X0_reckonSpan_24, xb_X0_reckonSpan_27, xb_X0_reckonSpan_59, xb_X0_reckonSpan_65, xs_nil, Nat.reduceAdd, true_implies, not_true_eq_false, not_false_eq_true, false_implies, and_true, true_and, x_10, xs_iconst_1, xs_istore_4_i, xs_istore_4_a, xs_istore_4_n, xs_istore_4_l, xs_iload_4, xs_iload_n_3, xs_icmp_gt, xs_iload_n_1, xs_icmp_lt, xs_iload_n_2, xs_goto, xs_iconst_0, xs_istore_5_i, xs_istore_5_a, xs_istore_5_n, xs_istore_5_l, xs_iload_5, xs_iconst_2, xs_icmp_ge, xs_aload_n_0, xs_iinc_5_1_i, xs_iinc_5_1_a, xs_iinc_5_1_n, xs_iinc_4_1_i, xs_iinc_4_1_a, xs_iinc_4_1_n, xs_return]) ))
    refine ⟨fun q => ?_, fun q => absurd (nI_lt (by omega) (by omega)) q⟩
    refine xe_X0_reckonSpan_65 ?_
    (repeat (first | (simp only [xb_X0_reckonSpan_0, xb_X0_reckonSpan_3, xb_X0_reckonSpan_24, xb_X0_reckonSpan_27, xb_X0_reckonSpan_59, xb_X0_reckonSpan_65, xs_nil, Nat.reduceAdd, true_implies, not_true_eq_false, not_false_eq_true, false_implies, and_true, true_and, x_10, xs_iconst_1, xs_istore_4_i, xs_istore_4_a, xs_istore_4_n, xs_istore_4_l, xs_iload_4, xs_iload_n_3, xs_icmp_gt, xs_iload_n_1, xs_icmp_lt, xs_iload_n_2, xs_goto, xs_iconst_0, xs_istore_5_i, xs_istore_5_a, xs_istore_5_n, xs_istore_5_l, xs_iload_5, xs_iconst_2, xs_icmp_ge, xs_aload_n_0, xs_iinc_5_1_i, xs_iinc_5_1_a, xs_iinc_5_1_n, xs_iinc_4_1_i, xs_iinc_4_1_a, xs_iinc_4_1_n, xs_return]) ))
    exact hB.e
  | succ z ih =>
    intro k h a hB hkz
    have hks := kspan_ok (lk := lk) (f := f) (t := t) hk k
    have ihT := ih (k + 1)
    refine xe_X0_reckonSpan_3 ?_
    (repeat (first | (simp only [xb_X0_reckonSpan_0, xb_X0_reckonSpan_3, xb_X0_reckonSpan_24, xb_X0_reckonSpan_27, xb_X0_reckonSpan_59, xb_X0_reckonSpan_65, xs_nil, Nat.reduceAdd, true_implies, not_true_eq_false, not_false_eq_true, false_implies, and_true, true_and, x_10, xs_iconst_1, xs_istore_4_i, xs_istore_4_a, xs_istore_4_n, xs_istore_4_l, xs_iload_4, xs_iload_n_3, xs_icmp_gt, xs_iload_n_1, xs_icmp_lt, xs_iload_n_2, xs_goto, xs_iconst_0, xs_istore_5_i, xs_istore_5_a, xs_istore_5_n, xs_istore_5_l, xs_iload_5, xs_iconst_2, xs_icmp_ge, xs_aload_n_0, xs_iinc_5_1_i, xs_iinc_5_1_a, xs_iinc_5_1_n, xs_iinc_4_1_i, xs_iinc_4_1_a, xs_iinc_4_1_n, xs_return]) ))
    refine ⟨fun w => absurd w (nI_nlt (by omega) (by omega)), fun w => ?_⟩
    have skip : (f ≤ k + 1 ∧ k + 1 ≤ t) → ∀ a : Option Value, x_EV 70 59 [some (.ref g), some (.int (nI f)), some (.int (nI t)), some (.int (nI n)), some (.int (nI (k + 1))), a] [] h none (x_wr h0 g (x_ha g lk (kspan lk f t A n) le an)) := by
      intro hc a
      have eN : kspan lk f t A (k + 1) = kspan lk f t A k := by
        show (if _ then _ else _) = _
        rw [if_pos hc]
      rw [eN] at ihT
      refine xe_X0_reckonSpan_59 ?_
      (repeat (first | (simp only [xb_X0_reckonSpan_0, xb_X0_reckonSpan_3, xb_X0_reckonSpan_24, xb_X0_reckonSpan_27, xb_X0_reckonSpan_59, xb_X0_reckonSpan_65, xs_nil, Nat.reduceAdd, true_implies, not_true_eq_false, not_false_eq_true, false_implies, and_true, true_and, x_10, xs_iconst_1, xs_istore_4_i, xs_istore_4_a, xs_istore_4_n, xs_istore_4_l, xs_iload_4, xs_iload_n_3, xs_icmp_gt, xs_iload_n_1, xs_icmp_lt, xs_iload_n_2, xs_goto, xs_iconst_0, xs_istore_5_i, xs_istore_5_a, xs_istore_5_n, xs_istore_5_l, xs_iload_5, xs_iconst_2, xs_icmp_ge, xs_aload_n_0, xs_iinc_5_1_i, xs_iinc_5_1_a, xs_iinc_5_1_n, xs_iinc_4_1_i, xs_iinc_4_1_a, xs_iinc_4_1_n, xs_return]) ))
      rw [nI_1]
      exact ihT h _ hB (by omega)
    have go : ¬ (f ≤ k + 1 ∧ k + 1 ≤ t) → ∀ a : Option Value, x_EV 70 24 [some (.ref g), some (.int (nI f)), some (.int (nI t)), some (.int (nI n)), some (.int (nI (k + 1))), a] [] h none (x_wr h0 g (x_ha g lk (kspan lk f t A n) le an)) := by
      intro hc a
      have eN : kspan lk f t A (k + 1) = kone lk f t (k + 1) 1 (kone lk f t (k + 1) 0 (kspan lk f t A k)) := by
        show (if _ then _ else _) = _
        rw [if_neg hc]
      rw [eN] at ihT
      refine xe_X0_reckonSpan_24 ?_
      (repeat (first | (simp only [xb_X0_reckonSpan_0, xb_X0_reckonSpan_3, xb_X0_reckonSpan_24, xb_X0_reckonSpan_27, xb_X0_reckonSpan_59, xb_X0_reckonSpan_65, xs_nil, Nat.reduceAdd, true_implies, not_true_eq_false, not_false_eq_true, false_implies, and_true, true_and, x_10, xs_iconst_1, xs_istore_4_i, xs_istore_4_a, xs_istore_4_n, xs_istore_4_l, xs_iload_4, xs_iload_n_3, xs_icmp_gt, xs_iload_n_1, xs_icmp_lt, xs_iload_n_2, xs_goto, xs_iconst_0, xs_istore_5_i, xs_istore_5_a, xs_istore_5_n, xs_istore_5_l, xs_iload_5, xs_iconst_2, xs_icmp_ge, xs_aload_n_0, xs_iinc_5_1_i, xs_iinc_5_1_a, xs_iinc_5_1_n, xs_iinc_4_1_i, xs_iinc_4_1_a, xs_iinc_4_1_n, xs_return]) ))
      refine s_reckonSpan (q := 0) hB hks l0 h2 h1f hft ht (by omega) (by omega) (fun h1 B1 => ?_)
      refine s_reckonSpan (q := 1) B1 (kone_ok hks) l0 h2 h1f hft ht (by omega) (by omega) (fun h1 B1 => ?_)
      refine xe_X0_reckonSpan_27 ?_
      (repeat (first | (simp only [xb_X0_reckonSpan_0, xb_X0_reckonSpan_3, xb_X0_reckonSpan_24, xb_X0_reckonSpan_27, xb_X0_reckonSpan_59, xb_X0_reckonSpan_65, xs_nil, Nat.reduceAdd, true_implies, not_true_eq_false, not_false_eq_true, false_implies, and_true, true_and, x_10, xs_iconst_1, xs_istore_4_i, xs_istore_4_a, xs_istore_4_n, xs_istore_4_l, xs_iload_4, xs_iload_n_3, xs_icmp_gt, xs_iload_n_1, xs_icmp_lt, xs_iload_n_2, xs_goto, xs_iconst_0, xs_istore_5_i, xs_istore_5_a, xs_istore_5_n, xs_istore_5_l, xs_iload_5, xs_iconst_2, xs_icmp_ge, xs_aload_n_0, xs_iinc_5_1_i, xs_iinc_5_1_a, xs_iinc_5_1_n, xs_iinc_4_1_i, xs_iinc_4_1_a, xs_iinc_4_1_n, xs_return]) ))
      refine ⟨fun w => ?_, fun w => absurd (by decide) w⟩
      refine xe_X0_reckonSpan_59 ?_
      (repeat (first | (simp only [xb_X0_reckonSpan_0, xb_X0_reckonSpan_3, xb_X0_reckonSpan_24, xb_X0_reckonSpan_27, xb_X0_reckonSpan_59, xb_X0_reckonSpan_65, xs_nil, Nat.reduceAdd, true_implies, not_true_eq_false, not_false_eq_true, false_implies, and_true, true_and, x_10, xs_iconst_1, xs_istore_4_i, xs_istore_4_a, xs_istore_4_n, xs_istore_4_l, xs_iload_4, xs_iload_n_3, xs_icmp_gt, xs_iload_n_1, xs_icmp_lt, xs_iload_n_2, xs_goto, xs_iconst_0, xs_istore_5_i, xs_istore_5_a, xs_istore_5_n, xs_istore_5_l, xs_iload_5, xs_iconst_2, xs_icmp_ge, xs_aload_n_0, xs_iinc_5_1_i, xs_iinc_5_1_a, xs_iinc_5_1_n, xs_iinc_4_1_i, xs_iinc_4_1_a, xs_iinc_4_1_n, xs_return]) ))
      rw [nI_1]
      exact ihT h1 _ B1 (by omega)
    by_cases hc1 : k + 1 < f
    · exact ⟨fun _ => go (by omega) _, fun z => absurd (nI_lt hc1 (by omega)) z⟩
    · refine ⟨fun z => absurd z (nI_nlt (by omega) (by omega)), fun _ => ?_⟩
      by_cases hc2 : t < k + 1
      · exact ⟨fun _ => go (by omega) _, fun z => absurd (nI_lt hc2 (by omega)) z⟩
      · exact ⟨fun z => absurd z (nI_nlt (by omega) (by omega)), fun _ => skip (by omega) _⟩
theorem c_reckonSpan (hb : x_hb h g (x_ha g lk A le an)) (hk : kaok A) (l0 : lk.length = 256) (h2 : 2 ≤ g) (h1f : 1 ≤ f) (hft : f ≤ t) (ht : t < 7) (hn : n < 7) : xK 70 [.ref g, .int (nI f), .int (nI t), .int (nI n)] h none (x_wr h g (x_ha g lk (kspan lk f t A n) le an)) := by
  have B := xA.of hb (Nat.zero_lt_succ _)
  refine xK_X0_reckonSpan (hb 0 _ rfl) (xe_X0_reckonSpan_0 ?_)
  (repeat (first | (simp only [xb_X0_reckonSpan_0, xb_X0_reckonSpan_3, xb_X0_reckonSpan_24, xb_X0_reckonSpan_27, xb_X0_reckonSpan_59, xb_X0_reckonSpan_65, xs_nil, Nat.reduceAdd, true_implies, not_true_eq_false, not_false_eq_true, false_implies, and_true, true_and, x_10, xs_iconst_1, xs_istore_4_i, xs_istore_4_a, xs_istore_4_n, xs_istore_4_l, xs_iload_4, xs_iload_n_3, xs_icmp_gt, xs_iload_n_1, xs_icmp_lt, xs_iload_n_2, xs_goto, xs_iconst_0, xs_istore_5_i, xs_istore_5_a, xs_istore_5_n, xs_istore_5_l, xs_iload_5, xs_iconst_2, xs_icmp_ge, xs_aload_n_0, xs_iinc_5_1_i, xs_iinc_5_1_a, xs_iinc_5_1_n, xs_iinc_4_1_i, xs_iinc_4_1_a, xs_iinc_4_1_n, xs_return]) ))
  exact l_reckonSpan l0 h2 h1f hft ht hn hk n 0 h none B (by omega)
end CH5
