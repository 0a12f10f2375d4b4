/-! roots and levels of trees; what is held, in both -/
theorem nroots_0 {hs : List Nat} : ∀ k, nroots hs k = 0 → ∀ w, 1 ≤ w → w ≤ k → ¬ hs.getD w 0 = 0
  | 0, _, w, h1, h2 => by omega
  | k + 1, h, w, h1, h2 => by
    have h' : nroots hs k + (if hs.getD (k + 1) 0 = 0 then 1 else 0) = 0 := h
    by_cases hw : w = k + 1
    · subst hw
      intro e
      rw [if_pos e] at h'
      omega
    · exact nroots_0 k (by omega) w h1 (by omega)
theorem nroots_1 {hs : List Nat} : ∀ k, nroots hs k = 1 → ∃ r, 1 ≤ r ∧ r ≤ k ∧ hs.getD r 0 = 0 ∧ ∀ w, 1 ≤ w → w ≤ k → hs.getD w 0 = 0 → w = r
  | 0, h => by cases h
  | k + 1, h => by
    have h' : nroots hs k + (if hs.getD (k + 1) 0 = 0 then 1 else 0) = 1 := h
    by_cases e : hs.getD (k + 1) 0 = 0
    · rw [if_pos e] at h'
      refine ⟨k + 1, by omega, Nat.le_refl _, e, fun w h1 h2 e2 => ?_⟩
      refine Classical.byContradiction fun hw => nroots_0 k (by omega) w h1 (by omega) e2
    · rw [if_neg e] at h'
      obtain ⟨r, r1, r2, r3, r4⟩ := nroots_1 k (by omega)
      refine ⟨r, r1, by omega, r3, fun w h1 h2 e2 => ?_⟩
      by_cases hw : w = k + 1
      · subst hw
        exact absurd e2 e
      · exact r4 w h1 (by omega) e2
def rch (n c : Nat) : Nat → Nat → Prop
  | 0, a => hdg n c a = 0
  | d + 1, a => hdg n c a = 0 ∨ rch n c d (hdg n c a)
theorem rch_of {n c : Nat} (h6 : n ≤ 6) : ∀ d a, 1 ≤ a → a ≤ n → ncome (nlay hs0 (n + 1) c n) 0 (d + 1) a = 0 → rch n c d a
  | 0, a, h1, h2, h => by
    have e : ncome (nlay hs0 (n + 1) c n) 0 (0 + 1) a = (nlay hs0 (n + 1) c n).getD a 0 := by
      show (if a = 0 ∨ a = 0 then a else (nlay hs0 (n + 1) c n).getD a 0) = _
      rw [if_neg (by omega)]
    rw [e, lay_hdg h6 h1 h2] at h
    exact h
  | d + 1, a, h1, h2, h => by
    have e : ncome (nlay hs0 (n + 1) c n) 0 (d + 1 + 1) a = ncome (nlay hs0 (n + 1) c n) 0 (d + 1) ((nlay hs0 (n + 1) c n).getD a 0) := by
      show (if a = 0 ∨ a = 0 then a else _) = _
      rw [if_neg (by omega)]
    rw [e, lay_hdg h6 h1 h2] at h
    by_cases hz : hdg n c a = 0
    · exact Or.inl hz
    · have := hdg_lt n c a
      exact Or.inr (rch_of h6 d _ (by omega) (by omega) h)
theorem tree_rch {n c w : Nat} (h1 : 1 ≤ n) (h6 : n ≤ 6) (h : c ∈ tT n) (hw1 : 1 ≤ w) (hw : w ≤ n) : rch n c 6 w := by
  have h2 := (tT_mem h1 h6 h).2
  unfold ntree at h2
  rw [Bool.and_eq_true, Bool.and_eq_true] at h2
  exact rch_of h6 6 w hw1 hw (nfine_at n h2.1.1 w hw1 hw).2
theorem tree_root {n c : Nat} (h1 : 1 ≤ n) (h6 : n ≤ 6) (h : c ∈ tT n) : ∃ r, 1 ≤ r ∧ r ≤ n ∧ hdg n c r = 0 ∧ ∀ w, 1 ≤ w → w ≤ n → hdg n c w = 0 → w = r := by
  have h2 := (tT_mem h1 h6 h).2
  unfold ntree at h2
  rw [Bool.and_eq_true, Bool.and_eq_true, decide_eq_true_iff] at h2
  obtain ⟨r, r1, r2, r3, r4⟩ := nroots_1 n h2.2
  refine ⟨r, r1, r2, by rw [← lay_hdg h6 r1 r2]; exact r3, fun w w1 w2 e => r4 w w1 w2 (by rw [lay_hdg h6 w1 w2]; exact e)⟩
/-- levels -/
def nlv (n c : Nat) : Nat → Nat → Nat → Nat
  | 0, _, l => l
  | d + 1, a, l => if hdg n c a = 0 then l else nlv n c d (hdg n c a) (l + 1)
theorem nlv_le {n c : Nat} : ∀ d a l, nlv n c d a l ≤ l + d
  | 0, _, l => Nat.le_refl l
  | d + 1, a, l => by
    unfold nlv
    split
    · omega
    · have := nlv_le (n := n) (c := c) d (hdg n c a) (l + 1)
      omega
theorem klev_nlv {n b c : Nat} (h6 : n ≤ 6) : ∀ d a l, 1 ≤ a → a ≤ n → klev (nI (rowN n b c)) d (khead (nI (rowN n b c)) (nI a)) l = nlv n c d a l
  | 0, _, _, _, _ => rfl
  | d + 1, a, l, h1, h2 => by
    have hd := hdg_lt n c a
    rw [khead_at h6 b c h1 h2]
    unfold klev nlv
    by_cases hz : hdg n c a = 0
    · rw [if_pos (by rw [hz]; rfl), if_pos hz]
    · rw [if_neg (nI_ne0 (by omega) (by omega)), if_neg hz]
      exact klev_nlv h6 d _ _ (by omega) (by omega)
def ndeep (n c : Nat) : Nat → Nat
  | 0 => 0
  | k + 1 => max (ndeep n c k) (nlv n c 6 (k + 1) 0)
theorem kdeep_n {n b c : Nat} (h6 : n ≤ 6) : ∀ k, k ≤ n → kdeep (nI (rowN n b c)) k = ndeep n c k
  | 0, _ => rfl
  | k + 1, hk => by
    show max (kdeep _ k) (klev _ 6 (khead _ (nI (k + 1))) 0) = max (ndeep n c k) (nlv n c 6 (k + 1) 0)
    rw [kdeep_n h6 k (by omega), klev_nlv h6 6 (k + 1) 0 (by omega) hk]
theorem ndeep_le {n c : Nat} : ∀ k, ndeep n c k ≤ 6
  | 0 => by simp [ndeep]
  | k + 1 => by
    have := ndeep_le (n := n) (c := c) k
    have := nlv_le (n := n) (c := c) 6 (k + 1) 0
    show max _ _ ≤ 6
    omega
theorem krt_n {n b c r : Nat} (h6 : n ≤ 6) (r2 : r ≤ n) (r3 : hdg n c r = 0) (r4 : ∀ w, 1 ≤ w → w ≤ n → hdg n c w = 0 → w = r) : ∀ d i, 1 ≤ i → i + d = n + 1 → i ≤ r → krt (nI (rowN n b c)) d i = nI r
  | 0, i, h1, h2, h3 => by omega
  | d + 1, i, h1, h2, h3 => by
    have hd := hdg_lt n c i
    unfold krt
    rw [khead_at h6 b c h1 (by omega)]
    by_cases hz : hdg n c i = 0
    · rw [if_pos (by rw [hz]; rfl), r4 i h1 (by omega) hz]
    · rw [if_neg (nI_ne0 (by omega) (by omega))]
      exact krt_n h6 r2 r3 r4 d (i + 1) (by omega) (by omega) (by
        by_cases hir : i = r
        · subst hir
          exact absurd r3 hz
        · omega)
/-- the last root -/
def nrt (n c : Nat) : Nat → Int32
  | 0 => -1
  | k + 1 => if hdg n c (k + 1) = 0 then nI (k + 1) else nrt n c k
theorem nrt_r {n c r : Nat} (r1 : 1 ≤ r) (r3 : hdg n c r = 0) (r4 : ∀ w, 1 ≤ w → w ≤ n → hdg n c w = 0 → w = r) : ∀ k, k ≤ n → r ≤ k → nrt n c k = nI r
  | 0, _, h => by omega
  | k + 1, hk, h => by
    unfold nrt
    by_cases hz : hdg n c (k + 1) = 0
    · rw [if_pos hz, r4 (k + 1) (by omega) hk hz]
    · rw [if_neg hz]
      refine nrt_r r1 r3 r4 k (by omega) ?_
      by_cases hr : r = k + 1
      · subst hr
        exact absurd r3 hz
      · omega
section LV
variable {m : Nat} {nw asd pa rf tx rd so ah ar tr bg le fr nu : List Int32} {sts byt fo bc br bk od sp wr : Int32} {ha : Int64} {x1 x2 x3 x4 : Int32} {h h0 : xH} {n c : Nat} {hs : List Nat}
/-- heads as a code has them -/
def hdok (hs : List Nat) (n c : Nat) : Prop := nok hs ∧ ∀ w, 1 ≤ w → w ≤ n → hs.getD w 0 = hdg n c w
theorem l_levelOfM (hb : x_hb h m (x_mc m nw asd pa sts rf tx byt (hs.map nI) rd so ah ar tr bg fo bc br bk le fr nu od sp wr ha)) (hk : hdok hs n c) (h6 : n ≤ 6) : ∀ (d a l : Nat), 1 ≤ a → a ≤ n → l + d ≤ 6 → rch n c d a → x_EV 116 4 [some (.ref m), some (.int x1), some (.int (nI l)), some (.int (nI a))] [] h (some (.int (nI (nlv n c d a l)))) h := by
  have ix : ∀ a, a ≤ n → xin (nI a) (hs.map nI).length := fun a ha => by rw [List.length_map, hk.1.1]; exact x_in (by omega) (by decide)
  have ex : ∀ a, 1 ≤ a → a ≤ n → xg (hs.map nI) (nI a) = nI (hdg n c a) := fun a h1 h2 => by
    rw [xg_map (by rw [hk.1.1]; omega) (by rw [hk.1.1]; decide), hk.2 a h1 h2]
  intro d
  induction d with
  | zero =>
    intro a l h1 h2 hl hr
    have hr' : hdg n c a = 0 := hr
    refine xe_X8_levelOf_4 ?_
    (repeat (first | (simp only [xb_X8_levelOf_0, xb_X8_levelOf_4, xb_X8_levelOf_26, xs_nil, Nat.reduceAdd, true_implies, not_true_eq_false, not_false_eq_true, false_implies, and_true, true_and, x_10, xs_iconst_0, xs_istore_n_2_i, xs_istore_n_2_a, xs_istore_n_2_n, xs_istore_n_2_l, xs_iload_n_1, xs_istore_n_3_i, xs_istore_n_3_a, xs_istore_n_3_n, xs_istore_n_3_l, xs_aload_n_0, xs_iload_n_3, xs_if_eq, xs_iinc_2_1_i, xs_iinc_2_1_a, xs_iinc_2_1_n, xs_goto, xs_iload_n_2, xs_ireturn]) | (refine xr_getf (hb 0 _ rfl) (by rfl) ?_) | (refine xr_iaload (hb 6 _ rfl) (ix a h2) ?_)))
    rw [ex a h1 h2, hr']
    refine ⟨fun _ => ?_, fun z => absurd rfl z⟩
    refine xe_X8_levelOf_26 ?_
    (repeat (first | (simp only [xb_X8_levelOf_0, xb_X8_levelOf_4, xb_X8_levelOf_26, xs_nil, Nat.reduceAdd, true_implies, not_true_eq_false, not_false_eq_true, false_implies, and_true, true_and, x_10, xs_iconst_0, xs_istore_n_2_i, xs_istore_n_2_a, xs_istore_n_2_n, xs_istore_n_2_l, xs_iload_n_1, xs_istore_n_3_i, xs_istore_n_3_a, xs_istore_n_3_n, xs_istore_n_3_l, xs_aload_n_0, xs_iload_n_3, xs_if_eq, xs_iinc_2_1_i, xs_iinc_2_1_a, xs_iinc_2_1_n, xs_goto, xs_iload_n_2, xs_ireturn]) ))
    (first | exact ⟨Or.inl trivial, rfl⟩ | exact ⟨Or.inl trivial, rfl, rfl⟩ | (simp; done) | exact ⟨by simp, rfl⟩ | exact ⟨by simp, rfl, rfl⟩ | rfl)
  | succ d ih =>
    intro a l h1 h2 hl hr
    have hd := hdg_lt n c a
    refine xe_X8_levelOf_4 ?_
    (repeat (first | (simp only [xb_X8_levelOf_0, xb_X8_levelOf_4, xb_X8_levelOf_26, xs_nil, Nat.reduceAdd, true_implies, not_true_eq_false, not_false_eq_true, false_implies, and_true, true_and, x_10, xs_iconst_0, xs_istore_n_2_i, xs_istore_n_2_a, xs_istore_n_2_n, xs_istore_n_2_l, xs_iload_n_1, xs_istore_n_3_i, xs_istore_n_3_a, xs_istore_n_3_n, xs_istore_n_3_l, xs_aload_n_0, xs_iload_n_3, xs_if_eq, xs_iinc_2_1_i, xs_iinc_2_1_a, xs_iinc_2_1_n, xs_goto, xs_iload_n_2, xs_ireturn]) | (refine xr_getf (hb 0 _ rfl) (by rfl) ?_) | (refine xr_iaload (hb 6 _ rfl) (ix a h2) ?_)))
    rw [ex a h1 h2]
    unfold nlv
    by_cases hz : hdg n c a = 0
    · rw [if_pos hz, hz]
      refine ⟨fun _ => ?_, fun z => absurd rfl z⟩
      refine xe_X8_levelOf_26 ?_
      (repeat (first | (simp only [xb_X8_levelOf_0, xb_X8_levelOf_4, xb_X8_levelOf_26, xs_nil, Nat.reduceAdd, true_implies, not_true_eq_false, not_false_eq_true, false_implies, and_true, true_and, x_10, xs_iconst_0, xs_istore_n_2_i, xs_istore_n_2_a, xs_istore_n_2_n, xs_istore_n_2_l, xs_iload_n_1, xs_istore_n_3_i, xs_istore_n_3_a, xs_istore_n_3_n, xs_istore_n_3_l, xs_aload_n_0, xs_iload_n_3, xs_if_eq, xs_iinc_2_1_i, xs_iinc_2_1_a, xs_iinc_2_1_n, xs_goto, xs_iload_n_2, xs_ireturn]) ))
      (first | exact ⟨Or.inl trivial, rfl⟩ | exact ⟨Or.inl trivial, rfl, rfl⟩ | (simp; done) | exact ⟨by simp, rfl⟩ | exact ⟨by simp, rfl, rfl⟩ | rfl)
    · rw [if_neg hz]
      have hr' : rch n c d (hdg n c a) := Or.resolve_left hr hz
      have ihT := ih (hdg n c a) (l + 1) (by omega) (by omega) (by omega) hr'
      refine ⟨fun z => absurd z (nI_ne0 (by omega) (by omega)), fun _ => ?_⟩
      (repeat (first | (simp only [xb_X8_levelOf_0, xb_X8_levelOf_4, xb_X8_levelOf_26, xs_nil, Nat.reduceAdd, true_implies, not_true_eq_false, not_false_eq_true, false_implies, and_true, true_and, x_10, xs_iconst_0, xs_istore_n_2_i, xs_istore_n_2_a, xs_istore_n_2_n, xs_istore_n_2_l, xs_iload_n_1, xs_istore_n_3_i, xs_istore_n_3_a, xs_istore_n_3_n, xs_istore_n_3_l, xs_aload_n_0, xs_iload_n_3, xs_if_eq, xs_iinc_2_1_i, xs_iinc_2_1_a, xs_iinc_2_1_n, xs_goto, xs_iload_n_2, xs_ireturn]) | (refine xr_getf (hb 0 _ rfl) (by rfl) ?_) | (refine xr_iaload (hb 6 _ rfl) (ix a h2) ?_)))
      rw [ex a h1 h2, nI_1]
      exact ihT
theorem c_levelOfM {a : Nat} (hb : x_hb h m (x_mc m nw asd pa sts rf tx byt (hs.map nI) rd so ah ar tr bg fo bc br bk le fr nu od sp wr ha)) (hk : hdok hs n c) (h6 : n ≤ 6) (h1 : 1 ≤ a) (h2 : a ≤ n) (hr : rch n c 6 a) : xK 116 [.ref m, .int (nI a)] h (some (.int (nI (nlv n c 6 a 0)))) h := by
  refine xK_X8_levelOf (hb 0 _ rfl) (xe_X8_levelOf_0 ?_)
  (repeat (first | (simp only [xb_X8_levelOf_0, xb_X8_levelOf_4, xb_X8_levelOf_26, xs_nil, Nat.reduceAdd, true_implies, not_true_eq_false, not_false_eq_true, false_implies, and_true, true_and, x_10, xs_iconst_0, xs_istore_n_2_i, xs_istore_n_2_a, xs_istore_n_2_n, xs_istore_n_2_l, xs_iload_n_1, xs_istore_n_3_i, xs_istore_n_3_a, xs_istore_n_3_n, xs_istore_n_3_l, xs_aload_n_0, xs_iload_n_3, xs_if_eq, xs_iinc_2_1_i, xs_iinc_2_1_a, xs_iinc_2_1_n, xs_goto, xs_iload_n_2, xs_ireturn]) ))
  exact l_levelOfM hb hk h6 6 a 0 h1 h2 (by decide) hr
theorem l_heldOf (hb : x_hb h m (x_mc m nw asd pa sts rf tx byt (hs.map nI) rd so ah ar tr bg fo bc br bk le fr nu od sp wr ha)) (hk : hdok hs n c) (h6 : n ≤ 6) (hr : ∀ a, 1 ≤ a → a ≤ n → rch n c 6 a) {r : Option Value} {h' : xH}
    (fin : ∀ a : Option Value, x_EV 117 74 [some (.ref m), some (.int x1), some (.int (nI n)), some (.int (nrt n c n)), some (.int (nI (ndeep n c n))), a] [] h r h') : ∀ d q : Nat, q + d = n → x_EV 117 21 [some (.ref m), some (.int x1), some (.int (nI n)), some (.int (nrt n c q)), some (.int (nI (ndeep n c q))), some (.int (nI (q + 1)))] [] h r h' := by
  have ix : ∀ a, a ≤ n → xin (nI a) (hs.map nI).length := fun a ha => by rw [List.length_map, hk.1.1]; exact x_in (by omega) (by decide)
  have ex : ∀ a, 1 ≤ a → a ≤ n → xg (hs.map nI) (nI a) = nI (hdg n c a) := fun a h1 h2 => by
    rw [xg_map (by rw [hk.1.1]; omega) (by rw [hk.1.1]; decide), hk.2 a h1 h2]
  intro d
  induction d with
  | zero =>
    intro q hq
    have eq : q = n := by omega
    subst eq
    refine xe_X8_heldOf_21 ?_
    (repeat (first | (simp only [xb_X8_heldOf_0, xb_X8_heldOf_21, xb_X8_heldOf_42, xb_X8_heldOf_43, xb_X8_heldOf_64, xb_X8_heldOf_66, xb_X8_heldOf_74, xb_X8_heldOf_83, xb_X8_heldOf_85, xs_nil, Nat.reduceAdd, true_implies, not_true_eq_false, not_false_eq_true, false_implies, and_true, true_and, x_10, xs_aload_n_0, xs_bipush_118, xs_istore_n_2_i, xs_istore_n_2_a, xs_istore_n_2_n, xs_istore_n_2_l, xs_iload_n_2, xs_iconst_m1, xs_istore_n_3_i, xs_istore_n_3_a, xs_istore_n_3_n, xs_istore_n_3_l, xs_iconst_0, xs_istore_4_i, xs_istore_4_a, xs_istore_4_n, xs_istore_4_l, xs_iconst_1, xs_istore_5_i, xs_istore_5_a, xs_istore_5_n, xs_istore_5_l, xs_iload_5, xs_icmp_gt, xs_if_ne, xs_goto, xs_iload_n_3, xs_iload_4, xs_icmp_le, xs_iinc_5_1_i, xs_iinc_5_1_a, xs_iinc_5_1_n, xs_iload_n_1, xs_iconst_5, xs_icmp_ne, xs_ireturn]) ))
    exact ⟨fun _ => fin _, fun z => absurd (nI_lt (by omega) (by omega)) z⟩
  | succ d ih =>
    intro q hq
    have ihT := ih (q + 1) (by omega)
    have hd := hdg_lt n c (q + 1)
    have cL := c_levelOfM (a := q + 1) hb hk h6 (by omega) (by omega) (hr _ (by omega) (by omega))
    have nl := nlv_le (n := n) (c := c) 6 (q + 1) 0
    have nd := ndeep_le (n := n) (c := c) q
    refine xe_X8_heldOf_21 ?_
    (repeat (first | (simp only [xb_X8_heldOf_0, xb_X8_heldOf_21, xb_X8_heldOf_42, xb_X8_heldOf_43, xb_X8_heldOf_64, xb_X8_heldOf_66, xb_X8_heldOf_74, xb_X8_heldOf_83, xb_X8_heldOf_85, xs_nil, Nat.reduceAdd, true_implies, not_true_eq_false, not_false_eq_true, false_implies, and_true, true_and, x_10, xs_aload_n_0, xs_bipush_118, xs_istore_n_2_i, xs_istore_n_2_a, xs_istore_n_2_n, xs_istore_n_2_l, xs_iload_n_2, xs_iconst_m1, xs_istore_n_3_i, xs_istore_n_3_a, xs_istore_n_3_n, xs_istore_n_3_l, xs_iconst_0, xs_istore_4_i, xs_istore_4_a, xs_istore_4_n, xs_istore_4_l, xs_iconst_1, xs_istore_5_i, xs_istore_5_a, xs_istore_5_n, xs_istore_5_l, xs_iload_5, xs_icmp_gt, xs_if_ne, xs_goto, xs_iload_n_3, xs_iload_4, xs_icmp_le, xs_iinc_5_1_i, xs_iinc_5_1_a, xs_iinc_5_1_n, xs_iload_n_1, xs_iconst_5, xs_icmp_ne, xs_ireturn]) ))
    refine ⟨fun z => absurd z (nI_nlt (by omega) (by omega)), fun _ => ?_⟩
    (repeat (first | (simp only [xb_X8_heldOf_0, xb_X8_heldOf_21, xb_X8_heldOf_42, xb_X8_heldOf_43, xb_X8_heldOf_64, xb_X8_heldOf_66, xb_X8_heldOf_74, xb_X8_heldOf_83, xb_X8_heldOf_85, xs_nil, Nat.reduceAdd, true_implies, not_true_eq_false, not_false_eq_true, false_implies, and_true, true_and, x_10, xs_aload_n_0, xs_bipush_118, xs_istore_n_2_i, xs_istore_n_2_a, xs_istore_n_2_n, xs_istore_n_2_l, xs_iload_n_2, xs_iconst_m1, xs_istore_n_3_i, xs_istore_n_3_a, xs_istore_n_3_n, xs_istore_n_3_l, xs_iconst_0, xs_istore_4_i, xs_istore_4_a, xs_istore_4_n, xs_istore_4_l, xs_iconst_1, xs_istore_5_i, xs_istore_5_a, xs_istore_5_n, xs_istore_5_l, xs_iload_5, xs_icmp_gt, xs_if_ne, xs_goto, xs_iload_n_3, xs_iload_4, xs_icmp_le, xs_iinc_5_1_i, xs_iinc_5_1_a, xs_iinc_5_1_n, xs_iload_n_1, xs_iconst_5, xs_icmp_ne, xs_ireturn]) | (refine xr_getf (hb 0 _ rfl) (by rfl) ?_) | (refine xr_iaload (hb 6 _ rfl) (ix (q + 1) (by omega)) ?_)))
    rw [ex (q + 1) (by omega) (by omega)]
    -- behind the deepest
    have go2 : ∀ (rr v : Int32), rr = nrt n c (q + 1) → v = nI (ndeep n c (q + 1)) → x_EV 117 66 [some (.ref m), some (.int x1), some (.int (nI n)), some (.int rr), some (.int (nI (ndeep n c q))), some (.int (nI (q + 1)))] [.int v] h r h' := by
      intro rr v e1 e2
      subst e1 e2
      refine xe_X8_heldOf_66 ?_
      (repeat (first | (simp only [xb_X8_heldOf_0, xb_X8_heldOf_21, xb_X8_heldOf_42, xb_X8_heldOf_43, xb_X8_heldOf_64, xb_X8_heldOf_66, xb_X8_heldOf_74, xb_X8_heldOf_83, xb_X8_heldOf_85, xs_nil, Nat.reduceAdd, true_implies, not_true_eq_false, not_false_eq_true, false_implies, and_true, true_and, x_10, xs_aload_n_0, xs_bipush_118, xs_istore_n_2_i, xs_istore_n_2_a, xs_istore_n_2_n, xs_istore_n_2_l, xs_iload_n_2, xs_iconst_m1, xs_istore_n_3_i, xs_istore_n_3_a, xs_istore_n_3_n, xs_istore_n_3_l, xs_iconst_0, xs_istore_4_i, xs_istore_4_a, xs_istore_4_n, xs_istore_4_l, xs_iconst_1, xs_istore_5_i, xs_istore_5_a, xs_istore_5_n, xs_istore_5_l, xs_iload_5, xs_icmp_gt, xs_if_ne, xs_goto, xs_iload_n_3, xs_iload_4, xs_icmp_le, xs_iinc_5_1_i, xs_iinc_5_1_a, xs_iinc_5_1_n, xs_iload_n_1, xs_iconst_5, xs_icmp_ne, xs_ireturn]) ))
      rw [nI_1]
      exact ihT
    have go : ∀ rr : Int32, rr = nrt n c (q + 1) → x_EV 117 43 [some (.ref m), some (.int x1), some (.int (nI n)), some (.int (nrt n c q)), some (.int (nI (ndeep n c q))), some (.int (nI (q + 1)))] [.int rr] h r h' := by
      intro rr e1
      refine xe_X8_heldOf_43 ?_
      (repeat (first | (simp only [xb_X8_heldOf_0, xb_X8_heldOf_21, xb_X8_heldOf_42, xb_X8_heldOf_43, xb_X8_heldOf_64, xb_X8_heldOf_66, xb_X8_heldOf_74, xb_X8_heldOf_83, xb_X8_heldOf_85, xs_nil, Nat.reduceAdd, true_implies, not_true_eq_false, not_false_eq_true, false_implies, and_true, true_and, x_10, xs_aload_n_0, xs_bipush_118, xs_istore_n_2_i, xs_istore_n_2_a, xs_istore_n_2_n, xs_istore_n_2_l, xs_iload_n_2, xs_iconst_m1, xs_istore_n_3_i, xs_istore_n_3_a, xs_istore_n_3_n, xs_istore_n_3_l, xs_iconst_0, xs_istore_4_i, xs_istore_4_a, xs_istore_4_n, xs_istore_4_l, xs_iconst_1, xs_istore_5_i, xs_istore_5_a, xs_istore_5_n, xs_istore_5_l, xs_iload_5, xs_icmp_gt, xs_if_ne, xs_goto, xs_iload_n_3, xs_iload_4, xs_icmp_le, xs_iinc_5_1_i, xs_iinc_5_1_a, xs_iinc_5_1_n, xs_iload_n_1, xs_iconst_5, xs_icmp_ne, xs_ireturn]) | refine xc_v2_1 (cL) (Nat.le_of_ble_eq_true rfl) ?_))
      refine ⟨fun z => ?_, fun z => ?_⟩
      · refine xe_X8_heldOf_64 ?_
        (repeat (first | (simp only [xb_X8_heldOf_0, xb_X8_heldOf_21, xb_X8_heldOf_42, xb_X8_heldOf_43, xb_X8_heldOf_64, xb_X8_heldOf_66, xb_X8_heldOf_74, xb_X8_heldOf_83, xb_X8_heldOf_85, xs_nil, Nat.reduceAdd, true_implies, not_true_eq_false, not_false_eq_true, false_implies, and_true, true_and, x_10, xs_aload_n_0, xs_bipush_118, xs_istore_n_2_i, xs_istore_n_2_a, xs_istore_n_2_n, xs_istore_n_2_l, xs_iload_n_2, xs_iconst_m1, xs_istore_n_3_i, xs_istore_n_3_a, xs_istore_n_3_n, xs_istore_n_3_l, xs_iconst_0, xs_istore_4_i, xs_istore_4_a, xs_istore_4_n, xs_istore_4_l, xs_iconst_1, xs_istore_5_i, xs_istore_5_a, xs_istore_5_n, xs_istore_5_l, xs_iload_5, xs_icmp_gt, xs_if_ne, xs_goto, xs_iload_n_3, xs_iload_4, xs_icmp_le, xs_iinc_5_1_i, xs_iinc_5_1_a, xs_iinc_5_1_n, xs_iload_n_1, xs_iconst_5, xs_icmp_ne, xs_ireturn]) ))
        refine go2 rr _ e1 ?_
        have := (nI_leI (by omega) (by omega)).mp z
        congr 1
        show _ = max _ _
        omega
      · (repeat (first | (simp only [xb_X8_heldOf_0, xb_X8_heldOf_21, xb_X8_heldOf_42, xb_X8_heldOf_43, xb_X8_heldOf_64, xb_X8_heldOf_66, xb_X8_heldOf_74, xb_X8_heldOf_83, xb_X8_heldOf_85, xs_nil, Nat.reduceAdd, true_implies, not_true_eq_false, not_false_eq_true, false_implies, and_true, true_and, x_10, xs_aload_n_0, xs_bipush_118, xs_istore_n_2_i, xs_istore_n_2_a, xs_istore_n_2_n, xs_istore_n_2_l, xs_iload_n_2, xs_iconst_m1, xs_istore_n_3_i, xs_istore_n_3_a, xs_istore_n_3_n, xs_istore_n_3_l, xs_iconst_0, xs_istore_4_i, xs_istore_4_a, xs_istore_4_n, xs_istore_4_l, xs_iconst_1, xs_istore_5_i, xs_istore_5_a, xs_istore_5_n, xs_istore_5_l, xs_iload_5, xs_icmp_gt, xs_if_ne, xs_goto, xs_iload_n_3, xs_iload_4, xs_icmp_le, xs_iinc_5_1_i, xs_iinc_5_1_a, xs_iinc_5_1_n, xs_iload_n_1, xs_iconst_5, xs_icmp_ne, xs_ireturn]) | refine xc_v2_1 (cL) (Nat.le_of_ble_eq_true rfl) ?_))
        refine go2 rr _ e1 ?_
        have : ¬ nlv n c 6 (q + 1) 0 ≤ ndeep n c q := fun y => z (nI_le y (by omega))
        congr 1
        show _ = max _ _
        omega
    by_cases hz : hdg n c (q + 1) = 0
    · rw [hz]
      refine ⟨fun z => absurd rfl z, fun _ => ?_⟩
      (repeat (first | (simp only [xb_X8_heldOf_0, xb_X8_heldOf_21, xb_X8_heldOf_42, xb_X8_heldOf_43, xb_X8_heldOf_64, xb_X8_heldOf_66, xb_X8_heldOf_74, xb_X8_heldOf_83, xb_X8_heldOf_85, xs_nil, Nat.reduceAdd, true_implies, not_true_eq_false, not_false_eq_true, false_implies, and_true, true_and, x_10, xs_aload_n_0, xs_bipush_118, xs_istore_n_2_i, xs_istore_n_2_a, xs_istore_n_2_n, xs_istore_n_2_l, xs_iload_n_2, xs_iconst_m1, xs_istore_n_3_i, xs_istore_n_3_a, xs_istore_n_3_n, xs_istore_n_3_l, xs_iconst_0, xs_istore_4_i, xs_istore_4_a, xs_istore_4_n, xs_istore_4_l, xs_iconst_1, xs_istore_5_i, xs_istore_5_a, xs_istore_5_n, xs_istore_5_l, xs_iload_5, xs_icmp_gt, xs_if_ne, xs_goto, xs_iload_n_3, xs_iload_4, xs_icmp_le, xs_iinc_5_1_i, xs_iinc_5_1_a, xs_iinc_5_1_n, xs_iload_n_1, xs_iconst_5, xs_icmp_ne, xs_ireturn]) ))
      exact go _ (by unfold nrt; rw [if_pos hz])
    · refine ⟨fun _ => ?_, fun z => absurd (nI_ne0 (by omega) (by omega)) z⟩
      refine xe_X8_heldOf_42 ?_
      (repeat (first | (simp only [xb_X8_heldOf_0, xb_X8_heldOf_21, xb_X8_heldOf_42, xb_X8_heldOf_43, xb_X8_heldOf_64, xb_X8_heldOf_66, xb_X8_heldOf_74, xb_X8_heldOf_83, xb_X8_heldOf_85, xs_nil, Nat.reduceAdd, true_implies, not_true_eq_false, not_false_eq_true, false_implies, and_true, true_and, x_10, xs_aload_n_0, xs_bipush_118, xs_istore_n_2_i, xs_istore_n_2_a, xs_istore_n_2_n, xs_istore_n_2_l, xs_iload_n_2, xs_iconst_m1, xs_istore_n_3_i, xs_istore_n_3_a, xs_istore_n_3_n, xs_istore_n_3_l, xs_iconst_0, xs_istore_4_i, xs_istore_4_a, xs_istore_4_n, xs_istore_4_l, xs_iconst_1, xs_istore_5_i, xs_istore_5_a, xs_istore_5_n, xs_istore_5_l, xs_iload_5, xs_icmp_gt, xs_if_ne, xs_goto, xs_iload_n_3, xs_iload_4, xs_icmp_le, xs_iinc_5_1_i, xs_iinc_5_1_a, xs_iinc_5_1_n, xs_iload_n_1, xs_iconst_5, xs_icmp_ne, xs_ireturn]) ))
      exact go _ (by
        have e : nrt n c (q + 1) = if hdg n c (q + 1) = 0 then nI (q + 1) else nrt n c q := rfl
        rw [e, if_neg hz])
end LV
