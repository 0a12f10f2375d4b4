/-! State: heard anew; what is still allowed -/
/-- the first k words heard anew -/
def kanew (s : kS) (c : kC) : Nat → kS × kC
  | 0 => (sput s (sen s) (sro s) (sco s) (sre s) (ssu s) 0, c)
  | k + 1 => khear (kanew s c k).1 (kanew s c k).2 ((kanew s c k).1.2.2.2.2.2.2.1.getD (k + 1) 0)
theorem sct_hear {s : kS} {c : kC} {e : Int32} : sct (khear s c e).1 = sct s + 1 := by
  unfold khear kheard
  split
  · rfl
  · dsimp only
    split <;> rfl
theorem sn_hear {s : kS} (h : sv s) {c : kC} {e : Int32} : sn (khear s c e).1 = sn s + 1 := by
  have := h.n6
  unfold sn
  rw [sct_hear]
  show (sct s + 1).toNatClampNeg = _
  rw [h.ct, nI_1, nI_clamp (by omega), nI_clamp (by omega)]
theorem kanew_ok {s : kS} {c : kC} (hv : sv s) (hc : kcok c) : ∀ k, k ≤ 6 → sv (kanew s c k).1 ∧ sn (kanew s c k).1 = k ∧ kcok (kanew s c k).2
  | 0, _ => ⟨sv_put (n := 0) hv hv.len hv.lro hv.lco hv.lre hv.lsu hv.ven rfl (by omega), rfl, hc⟩
  | k + 1, hk => by
    obtain ⟨h1, h2, h3⟩ := kanew_ok hv hc k (by omega)
    obtain ⟨j, hj, e⟩ := h1.ven (k + 1)
    unfold kanew
    refine ⟨?_, ?_, khear_ok h3⟩
    · rw [e]
      exact sv_hear h1 hj (by omega)
    · rw [sn_hear h1, h2]
section ST3
variable {g p : Nat} {h h0 : xH} {s : kS} {c : kC} {n : Nat} {x1 x2 : Int32}
theorem l_hearAllAnew (hp0 : p + 13 ≤ h0.length) (hg0 : g + 6 ≤ h0.length) (hdj : p + 13 ≤ g ∨ g + 6 ≤ p) (h2 : 2 ≤ p) (h2g : 2 ≤ g) (hv : sv s) (hc : kcok c) (hn : n ≤ 6) :
    ∀ (z k : Nat) (h : xH), h = x_wr (x_wr h0 p (x_ts p (kanew s c k).1)) g (x_hs g (kanew s c k).2) → k + z = n → x_EV 102 18 [some (.ref p), some (.ref g), some (.int (nI n)), some (.int (nI (k + 1)))] [] h none (x_wr (x_wr h0 p (x_ts p (kanew s c n).1)) g (x_hs g (kanew s c n).2)) := by
  intro z
  induction z with
  | zero =>
    intro k h hh hkz
    have ek : k = n := by omega
    subst ek
    refine xe_X6_hearAllAnew_18 ?_
    (repeat (first | (simp only [xb_X6_hearAllAnew_0, xb_X6_hearAllAnew_18, xb_X6_hearAllAnew_43, xs_nil, Nat.reduceAdd, true_implies, not_true_eq_false, not_false_eq_true, false_implies, and_true, true_and, x_10, xs_aload_n_0, xs_istore_n_2_i, xs_istore_n_2_a, xs_istore_n_2_n, xs_istore_n_2_l, xs_iconst_0, xs_iconst_1, xs_istore_n_3_i, xs_istore_n_3_a, xs_istore_n_3_n, xs_istore_n_3_l, xs_iload_n_3, xs_iload_n_2, xs_icmp_gt, xs_aload_n_1, xs_iinc_3_1_i, xs_iinc_3_1_a, xs_iinc_3_1_n, xs_goto, xs_return]) ))
    refine ⟨fun q => ?_, fun q => absurd (nI_lt (by omega) (by omega)) q⟩
    refine xe_X6_hearAllAnew_43 ?_
    (repeat (first | (simp only [xb_X6_hearAllAnew_0, xb_X6_hearAllAnew_18, xb_X6_hearAllAnew_43, xs_nil, Nat.reduceAdd, true_implies, not_true_eq_false, not_false_eq_true, false_implies, and_true, true_and, x_10, xs_aload_n_0, xs_istore_n_2_i, xs_istore_n_2_a, xs_istore_n_2_n, xs_istore_n_2_l, xs_iconst_0, xs_iconst_1, xs_istore_n_3_i, xs_istore_n_3_a, xs_istore_n_3_n, xs_istore_n_3_l, xs_iload_n_3, xs_iload_n_2, xs_icmp_gt, xs_aload_n_1, xs_iinc_3_1_i, xs_iinc_3_1_a, xs_iinc_3_1_n, xs_goto, xs_return]) ))
    exact hh.symm
  | succ z ih =>
    intro k h hh hkz
    have ihT := ih (k + 1)
    obtain ⟨q1, q2, q3⟩ := kanew_ok hv hc k (by omega)
    obtain ⟨j, hj, ej⟩ := q1.ven (k + 1)
    have eK : kanew s c (k + 1) = khear (kanew s c k).1 (kanew s c k).2 ((kanew s c k).1.2.2.2.2.2.2.1.getD (k + 1) 0) := rfl
    rw [ej] at eK
    rw [eK] at ihT
    generalize kanew s c k = sc at hh q1 q2 q3 ej ihT
    have l1 : g + (x_hs g sc.2).length ≤ (x_wr h0 p (x_ts p sc.1)).length := by rw [x_wr_len, x_hs_len]; exact hg0
    have l2 : p + (x_ts p sc.1).length ≤ h0.length := by rw [x_ts_len]; exact hp0
    have hg : x_hb h g (x_hs g sc.2) := hh ▸ x_hb_wr l1
    have hp : x_hb h p (x_ts p sc.1) := hh ▸ (x_hb_wr l2).off l1 hdj
    have c1 := c_hear (j := j) hp hg hdj h2 h2g q1 q3 hj (by omega)
    have eH : x_wr (x_wr h p (x_ts p (khear sc.1 sc.2 (nI j)).1)) g (x_hs g (khear sc.1 sc.2 (nI j)).2) = x_wr (x_wr h0 p (x_ts p (khear sc.1 sc.2 (nI j)).1)) g (x_hs g (khear sc.1 sc.2 (nI j)).2) := by
      rw [hh]
      generalize khear sc.1 sc.2 (nI j) = sc2
      have l3 : p + (x_ts p sc2.1).length ≤ (x_wr h0 p (x_ts p sc.1)).length := by rw [x_wr_len, x_ts_len]; exact hp0
      have l4 : g + (x_hs g sc.2).length ≤ (x_wr h0 p (x_ts p sc2.1)).length := by rw [x_wr_len, x_hs_len]; exact hg0
      rw [x_wr_comm l1 l3 hdj, x_wr_wr l2 (x_ts_ll _ _ _), x_wr_wr l4 (x_hs_ll _ _ _)]
    refine xe_X6_hearAllAnew_18 ?_
    (repeat (first | (simp only [xb_X6_hearAllAnew_0, xb_X6_hearAllAnew_18, xb_X6_hearAllAnew_43, xs_nil, Nat.reduceAdd, true_implies, not_true_eq_false, not_false_eq_true, false_implies, and_true, true_and, x_10, xs_aload_n_0, xs_istore_n_2_i, xs_istore_n_2_a, xs_istore_n_2_n, xs_istore_n_2_l, xs_iconst_0, xs_iconst_1, xs_istore_n_3_i, xs_istore_n_3_a, xs_istore_n_3_n, xs_istore_n_3_l, xs_iload_n_3, xs_iload_n_2, xs_icmp_gt, xs_aload_n_1, xs_iinc_3_1_i, xs_iinc_3_1_a, xs_iinc_3_1_n, xs_goto, xs_return]) ))
    refine ⟨fun w => absurd w (nI_nlt (by omega) (by omega)), fun w => ?_⟩
    (repeat (first | (simp only [xb_X6_hearAllAnew_0, xb_X6_hearAllAnew_18, xb_X6_hearAllAnew_43, xs_nil, Nat.reduceAdd, true_implies, not_true_eq_false, not_false_eq_true, false_implies, and_true, true_and, x_10, xs_aload_n_0, xs_istore_n_2_i, xs_istore_n_2_a, xs_istore_n_2_n, xs_istore_n_2_l, xs_iconst_0, xs_iconst_1, xs_istore_n_3_i, xs_istore_n_3_a, xs_istore_n_3_n, xs_istore_n_3_l, xs_iload_n_3, xs_iload_n_2, xs_icmp_gt, xs_aload_n_1, xs_iinc_3_1_i, xs_iinc_3_1_a, xs_iinc_3_1_n, xs_goto, xs_return]) | (refine xr_getf (hp 0 _ rfl) (by rfl) ?_) | (refine xr_getf (hp 7 _ rfl) (by rfl) ?_) | (refine xr_iaload (hp 8 _ rfl) (q1.i1 (i := k + 1) (by omega)) ?_)))
    rw [xg_n (by omega), show (sen sc.1).getD (k + 1) 0 = nI j from ej]
    refine xc_v3_0 c1 (Nat.le_of_ble_eq_true rfl) ?_
    rw [eH]
    (repeat (first | (simp only [xb_X6_hearAllAnew_0, xb_X6_hearAllAnew_18, xb_X6_hearAllAnew_43, xs_nil, Nat.reduceAdd, true_implies, not_true_eq_false, not_false_eq_true, false_implies, and_true, true_and, x_10, xs_aload_n_0, xs_istore_n_2_i, xs_istore_n_2_a, xs_istore_n_2_n, xs_istore_n_2_l, xs_iconst_0, xs_iconst_1, xs_istore_n_3_i, xs_istore_n_3_a, xs_istore_n_3_n, xs_istore_n_3_l, xs_iload_n_3, xs_iload_n_2, xs_icmp_gt, xs_aload_n_1, xs_iinc_3_1_i, xs_iinc_3_1_a, xs_iinc_3_1_n, xs_goto, xs_return]) ))
    rw [nI_1]
    exact ihT _ rfl (by omega)
theorem c_hearAllAnew (hp : x_hb h p (x_ts p s)) (hg : x_hb h g (x_hs g c)) (hdj : p + 13 ≤ g ∨ g + 6 ≤ p) (h2 : 2 ≤ p) (h2g : 2 ≤ g) (hv : sv s) (hc : kcok c) : xK 102 [.ref p, .ref g] h none (x_wr (x_wr h p (x_ts p (kanew s c (sn s)).1)) g (x_hs g (kanew s c (sn s)).2)) := by
  have A := xA.of hp (Nat.zero_lt_succ _)
  have hn := hv.ct
  have h6 := hv.n6
  have hlg : g + (x_hs g c).length ≤ h.length := hg.fit (Nat.zero_lt_succ _)
  refine xK_X6_hearAllAnew (hp 0 _ rfl) (xe_X6_hearAllAnew_0 ?_)
  (repeat (first | (simp only [xb_X6_hearAllAnew_0, xb_X6_hearAllAnew_18, xb_X6_hearAllAnew_43, xs_nil, Nat.reduceAdd, true_implies, not_true_eq_false, not_false_eq_true, false_implies, and_true, true_and, x_10, xs_aload_n_0, xs_istore_n_2_i, xs_istore_n_2_a, xs_istore_n_2_n, xs_istore_n_2_l, xs_iconst_0, xs_iconst_1, xs_istore_n_3_i, xs_istore_n_3_a, xs_istore_n_3_n, xs_istore_n_3_l, xs_iload_n_3, xs_iload_n_2, xs_icmp_gt, xs_aload_n_1, xs_iinc_3_1_i, xs_iinc_3_1_a, xs_iinc_3_1_n, xs_goto, xs_return]) | (refine xr_getf (hp 0 _ rfl) (by rfl) ?_) | (refine xr_getf (hp 7 _ rfl) (by rfl) ?_)))
  refine xa_putf A 7 (by rfl) h2 (by exact Nat.le_of_ble_eq_true rfl) (x_fit_int _) (fun h1 A1 => ?_)
  have A1 : xA h p (x_ts p (kanew s c 0).1) h1 := A1
  have hg1 : x_hb h1 g (x_hs g c) := A1.off hg (by rcases hdj with hdj | hdj; exact Or.inr hdj; exact Or.inl hdj)
  (repeat (first | (simp only [xb_X6_hearAllAnew_0, xb_X6_hearAllAnew_18, xb_X6_hearAllAnew_43, xs_nil, Nat.reduceAdd, true_implies, not_true_eq_false, not_false_eq_true, false_implies, and_true, true_and, x_10, xs_aload_n_0, xs_istore_n_2_i, xs_istore_n_2_a, xs_istore_n_2_n, xs_istore_n_2_l, xs_iconst_0, xs_iconst_1, xs_istore_n_3_i, xs_istore_n_3_a, xs_istore_n_3_n, xs_istore_n_3_l, xs_iload_n_3, xs_iload_n_2, xs_icmp_gt, xs_aload_n_1, xs_iinc_3_1_i, xs_iinc_3_1_a, xs_iinc_3_1_n, xs_goto, xs_return]) ))
  rw [hn]
  refine l_hearAllAnew A.hl hlg hdj h2 h2g hv hc h6 (sn s) 0 h1 ?_ (by omega)
  rw [A1.e]
  exact (hg1.wr (by rw [A1.len]; exact hlg)).symm
theorem c_whyNoWord (hp : x_hb h p (x_ts p s)) : xK 57 [.ref p, .int x1] h (some (.int (if 0 ≤ x1 ∧ x1 < sec s then (if 6 ≤ sct s then -4 else 0) else -2))) h := by
  have hg := x_tc_g hp
  refine xK_X6_whyNoWord (hp 0 _ rfl) ?_
  (repeat' (first | (simp only [xb_X6_whyNoWord_0, xb_X6_whyNoWord_14, xb_X6_whyNoWord_31, xb_X6_whyNoWord_32, xs_nil, Nat.reduceAdd, true_implies, not_true_eq_false, not_false_eq_true, false_implies, and_true, true_and, x_10, xs_aload_n_0, xs_iload_n_1, xs_if_ne, xs_bipush_m2, xs_ireturn, xs_bipush_6, xs_icmp_lt, xs_bipush_m4, xs_goto, xs_iconst_0]) | (refine ⟨fun _ => ?_, fun _ => ?_⟩) | refine xe_X6_whyNoWord_0 ?_ | refine xe_X6_whyNoWord_14 ?_ | refine xe_X6_whyNoWord_31 ?_ | refine xe_X6_whyNoWord_32 ?_ | (refine xr_getf (hp 0 _ rfl) (by rfl) ?_) | (refine xr_getf (hp 7 _ rfl) (by rfl) ?_) | refine xc_v2_1 (c_hasEntry hg) (Nat.le_of_ble_eq_true rfl) ?_))
  all_goals (try simp only [x_ite0, Classical.not_not] at *)
  all_goals first | (simp_all; done) | (simp_all [Int32.lt_iff_toInt_lt, Int32.le_iff_toInt_le]; omega)
theorem c_sortIn (hp : x_hb h p (x_ts p s)) (i1 : xin x2 (sen s).length) (i2 : xin (xg (sen s) x2 * 2 + kread x1 x2) (sS s).length) : xK 126 [.ref p, .int x1, .int x2] h (some (.int (ksort (sS s) (sen s) x2 (kread x1 x2)))) h := by
  have hg := x_tc_g hp
  have c1 := c_sortOf (x1 := xg (sen s) x2) (x2 := kread x1 x2) hg i2
  have c2 : xK 61 [.int x1, .int x2] h (some (.int (kread x1 x2))) h := c_readingOf
  refine xK_X6_sortIn (hp 0 _ rfl) ?_
  (repeat' (first | (simp only [xb_X6_sortIn_0, xs_nil, Nat.reduceAdd, true_implies, not_true_eq_false, not_false_eq_true, false_implies, and_true, true_and, x_10, xs_aload_n_0, xs_iload_n_2, xs_iload_n_1, xs_ireturn]) | (refine ⟨fun _ => ?_, fun _ => ?_⟩) | refine xe_X6_sortIn_0 ?_ | (refine xr_getf (hp 0 _ rfl) (by rfl) ?_) | (refine xr_getf (hp 7 _ rfl) (by rfl) ?_) | (refine xr_iaload (hp 8 _ rfl) i1 ?_) | refine xc_s2_1 (by decide) (c2) (Nat.le_of_ble_eq_true rfl) ?_ | refine xc_v3_1 (c1) (Nat.le_of_ble_eq_true rfl) ?_))
  all_goals simp [ksort]
end ST3
