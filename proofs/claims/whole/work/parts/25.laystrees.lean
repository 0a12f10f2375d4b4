/-! the reference lays its trees once -/
def nlay (hs : List Nat) (b : Nat) : Nat → Nat → List Nat
  | _, 0 => hs
  | c, w + 1 => nlay (hs.set (w + 1) (c % b)) b (c / b) w
theorem xlay_n {b : Nat} : ∀ {w c : Nat} {hs : List Nat}, xlay (hs.map nI) b c w = (nlay hs b c w).map nI
  | 0, _, _ => rfl
  | w + 1, c, hs => by
    show xlay ((hs.map nI).set (w + 1) (nI (c % b))) b (c / b) w = (nlay (hs.set (w + 1) (c % b)) b (c / b) w).map nI
    rw [← xlay_n, List.map_set]
theorem nok_set {hs : List Nat} (hk : nok hs) {i v : Nat} (hv : v < 7) : nok (hs.set i v) := by
  refine ⟨by rw [List.length_set]; exact hk.1, fun k => ?_⟩
  have := hk.2 k
  rw [List.getD_eq_getElem?_getD] at this ⊢
  by_cases hik : i = k
  · subst hik
    by_cases hl : i < hs.length
    · rw [List.getElem?_set_self hl]
      exact hv
    · rw [List.getElem?_eq_none (by rw [List.length_set]; omega)]
      exact Nat.zero_lt_succ _
  · rw [List.getElem?_set_ne hik]
    exact this
theorem nok_lay {b : Nat} (hb : 0 < b) (hb7 : b ≤ 7) : ∀ {w c : Nat} {hs : List Nat}, nok hs → nok (nlay hs b c w)
  | 0, _, _, hk => hk
  | w + 1, c, hs, hk => by
    show nok (nlay (hs.set (w + 1) (c % b)) b (c / b) w)
    exact nok_lay hb hb7 (nok_set hk (Nat.lt_of_lt_of_le (Nat.mod_lt _ hb) hb7))
/-- heads, and the codes found so far, behind one code more -/
def nstep (n : Nat) (s : List Nat × List Nat) (c : Nat) : List Nat × List Nat := (nlay s.1 (n + 1) c n, if s.2.length < 911 ∧ ntree (nlay s.1 (n + 1) c n) n = true then s.2 ++ [c] else s.2)
def ncodes (n : Nat) (s : List Nat × List Nat) : Nat → List Nat × List Nat
  | 0 => s
  | c + 1 => nstep n (ncodes n s c) c
def ntrs (tr0 : List Int32) (L : List Nat) : List Int32 := L.map nI ++ tr0.drop L.length
theorem ntrs_len {tr0 : List Int32} {L : List Nat} (h : L.length ≤ tr0.length) : (ntrs tr0 L).length = tr0.length := by
  unfold ntrs
  simp
  omega
theorem ntrs_push {tr0 : List Int32} {L : List Nat} {c : Nat} (h : L.length < tr0.length) : (ntrs tr0 L).set L.length (nI c) = ntrs tr0 (L ++ [c]) := by
  unfold ntrs
  rw [List.set_append_right _ _ (by simp)]
  simp only [List.length_map, Nat.sub_self, List.map_append, List.map_cons, List.map_nil, List.append_assoc, List.length_append, List.length_cons, List.length_nil]
  congr 1
  rw [List.drop_eq_getElem_cons h]
  rfl
theorem nstep_le {n : Nat} {s : List Nat × List Nat} {c : Nat} (h : s.2.length ≤ 911) : (nstep n s c).2.length ≤ 911 := by
  unfold nstep
  dsimp only
  split
  · rename_i q
    simp
    omega
  · exact h
theorem ncodes_le {n : Nat} {s : List Nat × List Nat} (h : s.2.length ≤ 911) : ∀ c, (ncodes n s c).2.length ≤ 911
  | 0 => h
  | c + 1 => nstep_le (ncodes_le h c)
theorem ncodes_ok {n : Nat} {s : List Nat × List Nat} (hn : n < 7) (h : nok s.1) : ∀ c, nok (ncodes n s c).1
  | 0 => h
  | c + 1 => nok_lay (by omega) (by omega) (ncodes_ok hn h c)
section MO5
variable {m : Nat} {nw asd pa rf tx rd so ah ar tr bg le fr nu : List Int32} {hs : List Nat} {sts byt fo bc br bk od sp wr : Int32} {ha : Int64} {x1 x2 x3 x4 : Int32} {h h0 : xH} {n : Nat}
theorem c_nlaysHeads {c : Nat} (hb : x_hb h m (x_mc m nw asd pa sts rf tx byt (hs.map nI) rd so ah ar tr bg fo bc br bk le fr nu od sp wr ha)) (h2 : 2 ≤ m) (hk : nok hs) (hn : n < 7) (hc : c < 2 ^ 31) : xK 8 [.ref m, .int (nI c), .int (nI n)] h none (x_wr h m (x_mc m nw asd pa sts rf tx byt ((nlay hs (n + 1) c n).map nI) rd so ah ar tr bg fo bc br bk le fr nu od sp wr ha)) := by
  have hlen : (hs.map nI).length = 7 := by rw [List.length_map]; exact hk.1
  have := c_laysHeads (n := n) (c := c) hb h2 (by omega) (by rw [hlen]; exact hn) (by rw [hlen]; decide) hc
  rw [xlay_n] at this
  exact this
theorem l_codes {tr0 : List Int32} {s : List Nat × List Nat} {C : Nat} {r : Option Value} {h' : xH} (h2 : 2 ≤ m) (hn : n < 7) (hs : nok s.1) (hL : s.2.length ≤ 911) (htr : tr0.length = 911) (hC : C < 2 ^ 31) (fin : ∀ (h : xH) (_ : x_hb h m (x_mc m nw asd pa sts rf tx byt ((ncodes n s C).1.map nI) rd so ah ar (ntrs tr0 (ncodes n s C).2) bg fo bc br bk le fr nu od sp wr ha)) (_ : x_wr h0 m (x_mc m nw asd pa sts rf tx byt ((ncodes n s C).1.map nI) rd so ah ar (ntrs tr0 (ncodes n s C).2) bg fo bc br bk le fr nu od sp wr ha) = h) (_ : m + 16 ≤ h0.length), x_EV 12 88 [some (.ref m), some (.int (nI (ncodes n s C).2.length)), some (.int (nI n)), some (.int (nI C)), some (.int (nI C))] [] h r h') :
    ∀ (d c : Nat) (h : xH) (_ : x_hb h m (x_mc m nw asd pa sts rf tx byt ((ncodes n s c).1.map nI) rd so ah ar (ntrs tr0 (ncodes n s c).2) bg fo bc br bk le fr nu od sp wr ha)) (_ : x_wr h0 m (x_mc m nw asd pa sts rf tx byt ((ncodes n s c).1.map nI) rd so ah ar (ntrs tr0 (ncodes n s c).2) bg fo bc br bk le fr nu od sp wr ha) = h) (_ : m + 16 ≤ h0.length), c + d = C → x_EV 12 43 [some (.ref m), some (.int (nI (ncodes n s c).2.length)), some (.int (nI n)), some (.int (nI C)), some (.int (nI c))] [] h r h' := by
  intro d
  induction d with
  | zero =>
    intro c h hb e hl hc
    refine xe_X8_laysTrees_43 ?_
    (repeat (first | (simp only [xb_X8_laysTrees_0, xb_X8_laysTrees_4, xb_X8_laysTrees_22, xb_X8_laysTrees_40, xb_X8_laysTrees_43, xb_X8_laysTrees_82, xb_X8_laysTrees_88, xb_X8_laysTrees_94, xs_nil, Nat.reduceAdd, true_implies, not_true_eq_false, not_false_eq_true, false_implies, and_true, true_and, x_10, xs_iconst_0, xs_istore_n_1_i, xs_istore_n_1_a, xs_istore_n_1_n, xs_istore_n_1_l, xs_iconst_1, xs_istore_n_2_i, xs_istore_n_2_a, xs_istore_n_2_n, xs_istore_n_2_l, xs_iload_n_2, xs_bipush_6, xs_icmp_gt, xs_aload_n_0, xs_iload_n_1, xs_istore_n_3_i, xs_istore_n_3_a, xs_istore_n_3_n, xs_istore_n_3_l, xs_istore_4_i, xs_istore_4_a, xs_istore_4_n, xs_istore_4_l, xs_iload_4, xs_icmp_ge, xs_iload_n_3, xs_iadd, xs_imul, xs_iinc_4_1_i, xs_iinc_4_1_a, xs_iinc_4_1_n, xs_goto, xs_sipush_911, xs_if_eq, xs_iinc_1_1_i, xs_iinc_1_1_a, xs_iinc_1_1_n, xs_iinc_2_1_i, xs_iinc_2_1_a, xs_iinc_2_1_n, xs_bipush_7, xs_return]) ))
    refine ⟨fun q => ?_, fun q => absurd (nI_le (by omega) (by omega)) q⟩
    have := fin h
    rw [← show c = C by omega] at this ⊢
    exact this hb e hl
  | succ d ih =>
    intro c h hb e hl hc
    have hk1 := ncodes_ok hn hs c
    have hL1 := ncodes_le (n := n) hL c
    have ihT := ih (c + 1)
    have eN : ncodes n s (c + 1) = nstep n (ncodes n s c) c := rfl
    rw [eN] at ihT
    generalize ncodes n s c = t at hk1 hL1 ihT hb e ⊢
    obtain ⟨hs1, L⟩ := t
    dsimp only at hk1 hL1 hb e ⊢
    have hk2 : nok (nlay hs1 (n + 1) c n) := nok_lay (by omega) (by omega) hk1
    have htl : (ntrs tr0 L).length = 911 := by rw [ntrs_len (by omega)]; exact htr
    refine xe_X8_laysTrees_43 ?_
    (repeat (first | (simp only [xb_X8_laysTrees_0, xb_X8_laysTrees_4, xb_X8_laysTrees_22, xb_X8_laysTrees_40, xb_X8_laysTrees_43, xb_X8_laysTrees_82, xb_X8_laysTrees_88, xb_X8_laysTrees_94, xs_nil, Nat.reduceAdd, true_implies, not_true_eq_false, not_false_eq_true, false_implies, and_true, true_and, x_10, xs_iconst_0, xs_istore_n_1_i, xs_istore_n_1_a, xs_istore_n_1_n, xs_istore_n_1_l, xs_iconst_1, xs_istore_n_2_i, xs_istore_n_2_a, xs_istore_n_2_n, xs_istore_n_2_l, xs_iload_n_2, xs_bipush_6, xs_icmp_gt, xs_aload_n_0, xs_iload_n_1, xs_istore_n_3_i, xs_istore_n_3_a, xs_istore_n_3_n, xs_istore_n_3_l, xs_istore_4_i, xs_istore_4_a, xs_istore_4_n, xs_istore_4_l, xs_iload_4, xs_icmp_ge, xs_iload_n_3, xs_iadd, xs_imul, xs_iinc_4_1_i, xs_iinc_4_1_a, xs_iinc_4_1_n, xs_goto, xs_sipush_911, xs_if_eq, xs_iinc_1_1_i, xs_iinc_1_1_a, xs_iinc_1_1_n, xs_iinc_2_1_i, xs_iinc_2_1_a, xs_iinc_2_1_n, xs_bipush_7, xs_return]) ))
    refine ⟨fun q => absurd q (nI_ge (by omega) (by omega)), fun q => ?_⟩
    (repeat (first | (simp only [xb_X8_laysTrees_0, xb_X8_laysTrees_4, xb_X8_laysTrees_22, xb_X8_laysTrees_40, xb_X8_laysTrees_43, xb_X8_laysTrees_82, xb_X8_laysTrees_88, xb_X8_laysTrees_94, xs_nil, Nat.reduceAdd, true_implies, not_true_eq_false, not_false_eq_true, false_implies, and_true, true_and, x_10, xs_iconst_0, xs_istore_n_1_i, xs_istore_n_1_a, xs_istore_n_1_n, xs_istore_n_1_l, xs_iconst_1, xs_istore_n_2_i, xs_istore_n_2_a, xs_istore_n_2_n, xs_istore_n_2_l, xs_iload_n_2, xs_bipush_6, xs_icmp_gt, xs_aload_n_0, xs_iload_n_1, xs_istore_n_3_i, xs_istore_n_3_a, xs_istore_n_3_n, xs_istore_n_3_l, xs_istore_4_i, xs_istore_4_a, xs_istore_4_n, xs_istore_4_l, xs_iload_4, xs_icmp_ge, xs_iload_n_3, xs_iadd, xs_imul, xs_iinc_4_1_i, xs_iinc_4_1_a, xs_iinc_4_1_n, xs_goto, xs_sipush_911, xs_if_eq, xs_iinc_1_1_i, xs_iinc_1_1_a, xs_iinc_1_1_n, xs_iinc_2_1_i, xs_iinc_2_1_a, xs_iinc_2_1_n, xs_bipush_7, xs_return]) ))
    refine xc_v3_0 (c_nlaysHeads hb h2 hk1 hn (by omega)) (Nat.le_of_ble_eq_true rfl) ?_
    have hl2 : m + (x_mc m nw asd pa sts rf tx byt (hs1.map nI) rd so ah ar (ntrs tr0 L) bg fo bc br bk le fr nu od sp wr ha).length ≤ h0.length := hl
    have hl3 : m + (x_mc m nw asd pa sts rf tx byt (hs1.map nI) rd so ah ar (ntrs tr0 L) bg fo bc br bk le fr nu od sp wr ha).length ≤ h.length := hb.fit (Nat.zero_lt_succ _)
    have e3 : x_wr h m (x_mc m nw asd pa sts rf tx byt ((nlay hs1 (n + 1) c n).map nI) rd so ah ar (ntrs tr0 L) bg fo bc br bk le fr nu od sp wr ha) = x_wr h0 m (x_mc m nw asd pa sts rf tx byt ((nlay hs1 (n + 1) c n).map nI) rd so ah ar (ntrs tr0 L) bg fo bc br bk le fr nu od sp wr ha) := by
      rw [← e]
      exact x_wr_wr hl2 rfl
    have hb3 : x_hb (x_wr h m (x_mc m nw asd pa sts rf tx byt ((nlay hs1 (n + 1) c n).map nI) rd so ah ar (ntrs tr0 L) bg fo bc br bk le fr nu od sp wr ha)) m (x_mc m nw asd pa sts rf tx byt ((nlay hs1 (n + 1) c n).map nI) rd so ah ar (ntrs tr0 L) bg fo bc br bk le fr nu od sp wr ha) := x_hb_wr hl3
    generalize x_wr h m (x_mc m nw asd pa sts rf tx byt ((nlay hs1 (n + 1) c n).map nI) rd so ah ar (ntrs tr0 L) bg fo bc br bk le fr nu od sp wr ha) = h1 at e3 hb3 ⊢
    have skip : (nstep n (hs1, L) c).2 = L → x_EV 12 82 [some (.ref m), some (.int (nI L.length)), some (.int (nI n)), some (.int (nI C)), some (.int (nI c))] [] h1 r h' := by
      intro hz
      have h5 := ihT h1
      rw [hz] at h5
      refine xe_X8_laysTrees_82 ?_
      (repeat (first | (simp only [xb_X8_laysTrees_0, xb_X8_laysTrees_4, xb_X8_laysTrees_22, xb_X8_laysTrees_40, xb_X8_laysTrees_43, xb_X8_laysTrees_82, xb_X8_laysTrees_88, xb_X8_laysTrees_94, xs_nil, Nat.reduceAdd, true_implies, not_true_eq_false, not_false_eq_true, false_implies, and_true, true_and, x_10, xs_iconst_0, xs_istore_n_1_i, xs_istore_n_1_a, xs_istore_n_1_n, xs_istore_n_1_l, xs_iconst_1, xs_istore_n_2_i, xs_istore_n_2_a, xs_istore_n_2_n, xs_istore_n_2_l, xs_iload_n_2, xs_bipush_6, xs_icmp_gt, xs_aload_n_0, xs_iload_n_1, xs_istore_n_3_i, xs_istore_n_3_a, xs_istore_n_3_n, xs_istore_n_3_l, xs_istore_4_i, xs_istore_4_a, xs_istore_4_n, xs_istore_4_l, xs_iload_4, xs_icmp_ge, xs_iload_n_3, xs_iadd, xs_imul, xs_iinc_4_1_i, xs_iinc_4_1_a, xs_iinc_4_1_n, xs_goto, xs_sipush_911, xs_if_eq, xs_iinc_1_1_i, xs_iinc_1_1_a, xs_iinc_1_1_n, xs_iinc_2_1_i, xs_iinc_2_1_a, xs_iinc_2_1_n, xs_bipush_7, xs_return]) ))
      rw [nI_1]
      exact h5 hb3 e3.symm hl (by omega)
    (repeat (first | (simp only [xb_X8_laysTrees_0, xb_X8_laysTrees_4, xb_X8_laysTrees_22, xb_X8_laysTrees_40, xb_X8_laysTrees_43, xb_X8_laysTrees_82, xb_X8_laysTrees_88, xb_X8_laysTrees_94, xs_nil, Nat.reduceAdd, true_implies, not_true_eq_false, not_false_eq_true, false_implies, and_true, true_and, x_10, xs_iconst_0, xs_istore_n_1_i, xs_istore_n_1_a, xs_istore_n_1_n, xs_istore_n_1_l, xs_iconst_1, xs_istore_n_2_i, xs_istore_n_2_a, xs_istore_n_2_n, xs_istore_n_2_l, xs_iload_n_2, xs_bipush_6, xs_icmp_gt, xs_aload_n_0, xs_iload_n_1, xs_istore_n_3_i, xs_istore_n_3_a, xs_istore_n_3_n, xs_istore_n_3_l, xs_istore_4_i, xs_istore_4_a, xs_istore_4_n, xs_istore_4_l, xs_iload_4, xs_icmp_ge, xs_iload_n_3, xs_iadd, xs_imul, xs_iinc_4_1_i, xs_iinc_4_1_a, xs_iinc_4_1_n, xs_goto, xs_sipush_911, xs_if_eq, xs_iinc_1_1_i, xs_iinc_1_1_a, xs_iinc_1_1_n, xs_iinc_2_1_i, xs_iinc_2_1_a, xs_iinc_2_1_n, xs_bipush_7, xs_return]) ))
    refine ⟨fun q2 => ?_, fun q2 => ?_⟩
    · have hge : ¬ L.length < 911 := fun z => nI_ge (a := L.length) (b := 911) z (by omega) q2
      exact skip (by unfold nstep; dsimp only; rw [if_neg (fun z => hge z.1)])
    · have hlt : L.length < 911 := by
        refine Nat.lt_of_not_le fun z => q2 (nI_le (a := 911) (b := L.length) z (by omega))
      (repeat (first | (simp only [xb_X8_laysTrees_0, xb_X8_laysTrees_4, xb_X8_laysTrees_22, xb_X8_laysTrees_40, xb_X8_laysTrees_43, xb_X8_laysTrees_82, xb_X8_laysTrees_88, xb_X8_laysTrees_94, xs_nil, Nat.reduceAdd, true_implies, not_true_eq_false, not_false_eq_true, false_implies, and_true, true_and, x_10, xs_iconst_0, xs_istore_n_1_i, xs_istore_n_1_a, xs_istore_n_1_n, xs_istore_n_1_l, xs_iconst_1, xs_istore_n_2_i, xs_istore_n_2_a, xs_istore_n_2_n, xs_istore_n_2_l, xs_iload_n_2, xs_bipush_6, xs_icmp_gt, xs_aload_n_0, xs_iload_n_1, xs_istore_n_3_i, xs_istore_n_3_a, xs_istore_n_3_n, xs_istore_n_3_l, xs_istore_4_i, xs_istore_4_a, xs_istore_4_n, xs_istore_4_l, xs_iload_4, xs_icmp_ge, xs_iload_n_3, xs_iadd, xs_imul, xs_iinc_4_1_i, xs_iinc_4_1_a, xs_iinc_4_1_n, xs_goto, xs_sipush_911, xs_if_eq, xs_iinc_1_1_i, xs_iinc_1_1_a, xs_iinc_1_1_n, xs_iinc_2_1_i, xs_iinc_2_1_a, xs_iinc_2_1_n, xs_bipush_7, xs_return]) | refine xc_v2_1 (c_isTree hb3 hk2 hn) (Nat.le_of_ble_eq_true rfl) ?_))
      refine ⟨fun q3 => ?_, fun q3 => ?_⟩
      · rw [x_ite0] at q3
        exact skip (by unfold nstep; dsimp only; rw [if_neg (fun z => q3 z.2)])
      · rw [x_ite0, Classical.not_not] at q3
        have hz : (nstep n (hs1, L) c).2 = L ++ [c] := by unfold nstep; dsimp only; rw [if_pos ⟨hlt, q3⟩]
        rw [hz] at ihT
        (repeat (first | (simp only [xb_X8_laysTrees_0, xb_X8_laysTrees_4, xb_X8_laysTrees_22, xb_X8_laysTrees_40, xb_X8_laysTrees_43, xb_X8_laysTrees_82, xb_X8_laysTrees_88, xb_X8_laysTrees_94, xs_nil, Nat.reduceAdd, true_implies, not_true_eq_false, not_false_eq_true, false_implies, and_true, true_and, x_10, xs_iconst_0, xs_istore_n_1_i, xs_istore_n_1_a, xs_istore_n_1_n, xs_istore_n_1_l, xs_iconst_1, xs_istore_n_2_i, xs_istore_n_2_a, xs_istore_n_2_n, xs_istore_n_2_l, xs_iload_n_2, xs_bipush_6, xs_icmp_gt, xs_aload_n_0, xs_iload_n_1, xs_istore_n_3_i, xs_istore_n_3_a, xs_istore_n_3_n, xs_istore_n_3_l, xs_istore_4_i, xs_istore_4_a, xs_istore_4_n, xs_istore_4_l, xs_iload_4, xs_icmp_ge, xs_iload_n_3, xs_iadd, xs_imul, xs_iinc_4_1_i, xs_iinc_4_1_a, xs_iinc_4_1_n, xs_goto, xs_sipush_911, xs_if_eq, xs_iinc_1_1_i, xs_iinc_1_1_a, xs_iinc_1_1_n, xs_iinc_2_1_i, xs_iinc_2_1_a, xs_iinc_2_1_n, xs_bipush_7, xs_return]) | (refine xr_getf (hb3 0 _ rfl) (by rfl) ?_)))
        have hl5 : m + (x_mc m nw asd pa sts rf tx byt ((nlay hs1 (n + 1) c n).map nI) rd so ah ar (ntrs tr0 L) bg fo bc br bk le fr nu od sp wr ha).length ≤ h0.length := hl
        refine xv_iastore (h0 := h0) hl5 e3.symm hb3 11 (by rfl) h2 (x_in (by rw [htl]; exact hlt) (by rw [htl]; decide)) (fun h4 hb4 e4 hl4 => ?_)
        rw [xu_n (by omega), ntrs_push (by omega)] at hb4 e4
        (repeat (first | (simp only [xb_X8_laysTrees_0, xb_X8_laysTrees_4, xb_X8_laysTrees_22, xb_X8_laysTrees_40, xb_X8_laysTrees_43, xb_X8_laysTrees_82, xb_X8_laysTrees_88, xb_X8_laysTrees_94, xs_nil, Nat.reduceAdd, true_implies, not_true_eq_false, not_false_eq_true, false_implies, and_true, true_and, x_10, xs_iconst_0, xs_istore_n_1_i, xs_istore_n_1_a, xs_istore_n_1_n, xs_istore_n_1_l, xs_iconst_1, xs_istore_n_2_i, xs_istore_n_2_a, xs_istore_n_2_n, xs_istore_n_2_l, xs_iload_n_2, xs_bipush_6, xs_icmp_gt, xs_aload_n_0, xs_iload_n_1, xs_istore_n_3_i, xs_istore_n_3_a, xs_istore_n_3_n, xs_istore_n_3_l, xs_istore_4_i, xs_istore_4_a, xs_istore_4_n, xs_istore_4_l, xs_iload_4, xs_icmp_ge, xs_iload_n_3, xs_iadd, xs_imul, xs_iinc_4_1_i, xs_iinc_4_1_a, xs_iinc_4_1_n, xs_goto, xs_sipush_911, xs_if_eq, xs_iinc_1_1_i, xs_iinc_1_1_a, xs_iinc_1_1_n, xs_iinc_2_1_i, xs_iinc_2_1_a, xs_iinc_2_1_n, xs_bipush_7, xs_return]) ))
        refine xe_X8_laysTrees_82 ?_
        (repeat (first | (simp only [xb_X8_laysTrees_0, xb_X8_laysTrees_4, xb_X8_laysTrees_22, xb_X8_laysTrees_40, xb_X8_laysTrees_43, xb_X8_laysTrees_82, xb_X8_laysTrees_88, xb_X8_laysTrees_94, xs_nil, Nat.reduceAdd, true_implies, not_true_eq_false, not_false_eq_true, false_implies, and_true, true_and, x_10, xs_iconst_0, xs_istore_n_1_i, xs_istore_n_1_a, xs_istore_n_1_n, xs_istore_n_1_l, xs_iconst_1, xs_istore_n_2_i, xs_istore_n_2_a, xs_istore_n_2_n, xs_istore_n_2_l, xs_iload_n_2, xs_bipush_6, xs_icmp_gt, xs_aload_n_0, xs_iload_n_1, xs_istore_n_3_i, xs_istore_n_3_a, xs_istore_n_3_n, xs_istore_n_3_l, xs_istore_4_i, xs_istore_4_a, xs_istore_4_n, xs_istore_4_l, xs_iload_4, xs_icmp_ge, xs_iload_n_3, xs_iadd, xs_imul, xs_iinc_4_1_i, xs_iinc_4_1_a, xs_iinc_4_1_n, xs_goto, xs_sipush_911, xs_if_eq, xs_iinc_1_1_i, xs_iinc_1_1_a, xs_iinc_1_1_n, xs_iinc_2_1_i, xs_iinc_2_1_a, xs_iinc_2_1_n, xs_bipush_7, xs_return]) ))
        rw [nI_1, nI_1]
        have h6 := ihT h4 hb4 e4 hl (by omega)
        rw [List.length_append] at h6
        exact h6
end MO5
