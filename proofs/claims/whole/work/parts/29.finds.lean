/-! the reference: one analysis tried, all of them -/
abbrev mR : Type := Int32 × Int32 × Int32 × Int32
def mval (nw hd rd so : List Int32) (n : Nat) : Int32 := if mcan nw hd so n = true then mcost nw hd rd so n else -1
def mbetter (s : mR) (x1 x2 x3 : Int32) : Prop := if s.1 = 0 ∨ ¬ x1 + x2 = s.2.1 + s.2.2.1 then s.1 = 0 ∨ x1 + x2 < s.2.1 + s.2.2.1 else x2 < s.2.2.1 ∨ x2 = s.2.2.1 ∧ x3 < s.2.2.2
noncomputable def mtry (nw hd rd so ah ar : List Int32) (n : Nat) (rep : Bool) (s : mR) : mR :=
  if mval nw hd rd so n < 0 then s else
  (s.1 + 1, if (if s.1 = 0 ∨ ¬ mval nw hd rd so n + (if rep = true then mrep nw hd rd ah ar n (n - 1) else 0) = s.2.1 + s.2.2.1 then s.1 = 0 ∨ mval nw hd rd so n + (if rep = true then mrep nw hd rd ah ar n (n - 1) else 0) < s.2.1 + s.2.2.1 else (if rep = true then mrep nw hd rd ah ar n (n - 1) else 0) < s.2.2.1 ∨ (if rep = true then mrep nw hd rd ah ar n (n - 1) else 0) = s.2.2.1 ∧ xcode rd hd n < s.2.2.2) then (mval nw hd rd so n, (if rep = true then mrep nw hd rd ah ar n (n - 1) else 0), xcode rd hd n) else s.2)
section MO9
variable {m : Nat} {nw asd pa rf tx hd rd so ah ar tr bg le fr nu : List Int32} {sts byt od sp wr : Int32} {rc : mR} {ha : Int64} {x1 x2 x3 x4 : Int32} {h h0 : xH} {n : Nat} {rep : Bool}
theorem c_tries (hb : x_hb h m (x_mc m nw asd pa sts rf tx byt hd rd so ah ar tr bg (rc.1) (rc.2.1) (rc.2.2.1) (rc.2.2.2) le fr nu od sp wr ha)) (h2 : 2 ≤ m) (hn : n < 7) (h0n : 0 < n) (hi : xin 115 nw.length) (hi2 : xin 116 nw.length) (l1 : hd.length = 7) (l2 : rd.length = 7) (l3 : ah.length = 7) (l4 : ar.length = 7) (hv : ∀ w, w < n → mwell nw hd rd so (nI (w + 1))) : xK 93 [.ref m, .int (nI n), .int (if rep = true then 1 else 0)] h none (x_wr h m (x_mc m nw asd pa sts rf tx byt hd rd so ah ar tr bg ((mtry nw hd rd so ah ar n rep rc).1) ((mtry nw hd rd so ah ar n rep rc).2.1) ((mtry nw hd rd so ah ar n rep rc).2.2.1) ((mtry nw hd rd so ah ar n rep rc).2.2.2) le fr nu od sp wr ha)) := by
  have hl := hb.fit (Nat.zero_lt_succ _)
  have e := hb.wr hl
  have cC := c_costOf hb hn hi hv
  have cR := c_mrepairOf hb hn h0n hi2 l1 l2 l3 l4
  have cK := c_codeOf hb (show n < rd.length by omega) (show n < hd.length by omega) (by rw [l2]; decide) (by rw [l1]; decide)
  refine xK_X8_tries (hb 0 _ rfl) (xe_X8_tries_0 ?_)
  (repeat (first | (simp only [xb_X8_tries_0, xb_X8_tries_11, xb_X8_tries_23, xb_X8_tries_24, xb_X8_tries_62, xs_nil, Nat.reduceAdd, true_implies, not_true_eq_false, not_false_eq_true, false_implies, and_true, true_and, x_10, xs_aload_n_0, xs_iload_n_1, xs_istore_n_3_i, xs_istore_n_3_a, xs_istore_n_3_n, xs_istore_n_3_l, xs_iload_n_3, xs_if_ge, xs_return, xs_iload_n_2, xs_if_eq, xs_goto, xs_iconst_0, xs_istore_4_i, xs_istore_4_a, xs_istore_4_n, xs_istore_4_l, xs_istore_5_i, xs_istore_5_a, xs_istore_5_n, xs_istore_5_l, xs_iload_4, xs_iload_5, xs_dup_i, xs_dup_a, xs_iconst_1, xs_iadd]) | refine xc_v2_1 (cC) (Nat.le_of_ble_eq_true rfl) ?_))
  rw [show (if mcan nw hd so n = true then mcost nw hd rd so n else -1) = mval nw hd rd so n from rfl]
  refine ⟨fun q => ?_, fun q => ?_⟩
  · have tail : ∀ R : Int32, R = (if rep = true then mrep nw hd rd ah ar n (n - 1) else 0) → x_EV 93 24 [some (.ref m), some (.int (nI n)), some (.int (if rep = true then 1 else 0)), some (.int (mval nw hd rd so n)), none, none] [.int R] h none (x_wr h m (x_mc m nw asd pa sts rf tx byt hd rd so ah ar tr bg ((mtry nw hd rd so ah ar n rep rc).1) ((mtry nw hd rd so ah ar n rep rc).2.1) ((mtry nw hd rd so ah ar n rep rc).2.2.1) ((mtry nw hd rd so ah ar n rep rc).2.2.2) le fr nu od sp wr ha)) := by
      intro R hR
      have cB := c_isBetter (x1 := mval nw hd rd so n) (x2 := R) (x3 := xcode rd hd n) hb
      have eT : mtry nw hd rd so ah ar n rep rc = (rc.1 + 1, if (if rc.1 = 0 ∨ ¬ mval nw hd rd so n + R = rc.2.1 + rc.2.2.1 then rc.1 = 0 ∨ mval nw hd rd so n + R < rc.2.1 + rc.2.2.1 else R < rc.2.2.1 ∨ R = rc.2.2.1 ∧ xcode rd hd n < rc.2.2.2) then (mval nw hd rd so n, R, xcode rd hd n) else rc.2) := by
        unfold mtry
        rw [if_neg (Int32.not_lt.mpr q), hR]
      rw [eT]
      refine xe_X8_tries_24 ?_
      (repeat (first | (simp only [xb_X8_tries_0, xb_X8_tries_11, xb_X8_tries_23, xb_X8_tries_24, xb_X8_tries_62, xs_nil, Nat.reduceAdd, true_implies, not_true_eq_false, not_false_eq_true, false_implies, and_true, true_and, x_10, xs_aload_n_0, xs_iload_n_1, xs_istore_n_3_i, xs_istore_n_3_a, xs_istore_n_3_n, xs_istore_n_3_l, xs_iload_n_3, xs_if_ge, xs_return, xs_iload_n_2, xs_if_eq, xs_goto, xs_iconst_0, xs_istore_4_i, xs_istore_4_a, xs_istore_4_n, xs_istore_4_l, xs_istore_5_i, xs_istore_5_a, xs_istore_5_n, xs_istore_5_l, xs_iload_4, xs_iload_5, xs_dup_i, xs_dup_a, xs_iconst_1, xs_iadd]) | refine xc_v2_1 (cK) (Nat.le_of_ble_eq_true rfl) ?_ | refine xc_v4_1 (cB) (Nat.le_of_ble_eq_true rfl) ?_))
      refine ⟨fun q2 => ?_, fun q2 => ?_⟩
      · rw [x_ite0] at q2
        rw [if_neg q2]
        refine xe_X8_tries_62 ?_
        (repeat (first | (simp only [xb_X8_tries_0, xb_X8_tries_11, xb_X8_tries_23, xb_X8_tries_24, xb_X8_tries_62, xs_nil, Nat.reduceAdd, true_implies, not_true_eq_false, not_false_eq_true, false_implies, and_true, true_and, x_10, xs_aload_n_0, xs_iload_n_1, xs_istore_n_3_i, xs_istore_n_3_a, xs_istore_n_3_n, xs_istore_n_3_l, xs_iload_n_3, xs_if_ge, xs_return, xs_iload_n_2, xs_if_eq, xs_goto, xs_iconst_0, xs_istore_4_i, xs_istore_4_a, xs_istore_4_n, xs_istore_4_l, xs_istore_5_i, xs_istore_5_a, xs_istore_5_n, xs_istore_5_l, xs_iload_4, xs_iload_5, xs_dup_i, xs_dup_a, xs_iconst_1, xs_iadd]) | (refine xr_getf (hb 0 _ rfl) (by rfl) ?_) | (refine xv_putf hl e hb 0 (by rfl) h2 (by exact Nat.le_of_ble_eq_true rfl) (by first | exact x_fit_int _ | exact x_fit_long _) (fun h1 hb e hl => ?_))))
        exact e
      · rw [x_ite0, Classical.not_not] at q2
        rw [if_pos q2]
        (repeat (first | (simp only [xb_X8_tries_0, xb_X8_tries_11, xb_X8_tries_23, xb_X8_tries_24, xb_X8_tries_62, xs_nil, Nat.reduceAdd, true_implies, not_true_eq_false, not_false_eq_true, false_implies, and_true, true_and, x_10, xs_aload_n_0, xs_iload_n_1, xs_istore_n_3_i, xs_istore_n_3_a, xs_istore_n_3_n, xs_istore_n_3_l, xs_iload_n_3, xs_if_ge, xs_return, xs_iload_n_2, xs_if_eq, xs_goto, xs_iconst_0, xs_istore_4_i, xs_istore_4_a, xs_istore_4_n, xs_istore_4_l, xs_istore_5_i, xs_istore_5_a, xs_istore_5_n, xs_istore_5_l, xs_iload_4, xs_iload_5, xs_dup_i, xs_dup_a, xs_iconst_1, xs_iadd]) | (refine xr_getf (hb 0 _ rfl) (by rfl) ?_) | (refine xv_putf hl e hb 0 (by rfl) h2 (by exact Nat.le_of_ble_eq_true rfl) (by first | exact x_fit_int _ | exact x_fit_long _) (fun h1 hb e hl => ?_))))
        refine xe_X8_tries_62 ?_
        (repeat (first | (simp only [xb_X8_tries_0, xb_X8_tries_11, xb_X8_tries_23, xb_X8_tries_24, xb_X8_tries_62, xs_nil, Nat.reduceAdd, true_implies, not_true_eq_false, not_false_eq_true, false_implies, and_true, true_and, x_10, xs_aload_n_0, xs_iload_n_1, xs_istore_n_3_i, xs_istore_n_3_a, xs_istore_n_3_n, xs_istore_n_3_l, xs_iload_n_3, xs_if_ge, xs_return, xs_iload_n_2, xs_if_eq, xs_goto, xs_iconst_0, xs_istore_4_i, xs_istore_4_a, xs_istore_4_n, xs_istore_4_l, xs_istore_5_i, xs_istore_5_a, xs_istore_5_n, xs_istore_5_l, xs_iload_4, xs_iload_5, xs_dup_i, xs_dup_a, xs_iconst_1, xs_iadd]) | (refine xr_getf (hb 0 _ rfl) (by rfl) ?_) | (refine xv_putf hl e hb 0 (by rfl) h2 (by exact Nat.le_of_ble_eq_true rfl) (by first | exact x_fit_int _ | exact x_fit_long _) (fun h1 hb e hl => ?_))))
        exact e
    refine xe_X8_tries_11 ?_
    (repeat (first | (simp only [xb_X8_tries_0, xb_X8_tries_11, xb_X8_tries_23, xb_X8_tries_24, xb_X8_tries_62, xs_nil, Nat.reduceAdd, true_implies, not_true_eq_false, not_false_eq_true, false_implies, and_true, true_and, x_10, xs_aload_n_0, xs_iload_n_1, xs_istore_n_3_i, xs_istore_n_3_a, xs_istore_n_3_n, xs_istore_n_3_l, xs_iload_n_3, xs_if_ge, xs_return, xs_iload_n_2, xs_if_eq, xs_goto, xs_iconst_0, xs_istore_4_i, xs_istore_4_a, xs_istore_4_n, xs_istore_4_l, xs_istore_5_i, xs_istore_5_a, xs_istore_5_n, xs_istore_5_l, xs_iload_4, xs_iload_5, xs_dup_i, xs_dup_a, xs_iconst_1, xs_iadd]) ))
    refine ⟨fun q2 => ?_, fun q2 => ?_⟩
    · rw [x_ite0] at q2
      refine xe_X8_tries_23 ?_
      (repeat (first | (simp only [xb_X8_tries_0, xb_X8_tries_11, xb_X8_tries_23, xb_X8_tries_24, xb_X8_tries_62, xs_nil, Nat.reduceAdd, true_implies, not_true_eq_false, not_false_eq_true, false_implies, and_true, true_and, x_10, xs_aload_n_0, xs_iload_n_1, xs_istore_n_3_i, xs_istore_n_3_a, xs_istore_n_3_n, xs_istore_n_3_l, xs_iload_n_3, xs_if_ge, xs_return, xs_iload_n_2, xs_if_eq, xs_goto, xs_iconst_0, xs_istore_4_i, xs_istore_4_a, xs_istore_4_n, xs_istore_4_l, xs_istore_5_i, xs_istore_5_a, xs_istore_5_n, xs_istore_5_l, xs_iload_4, xs_iload_5, xs_dup_i, xs_dup_a, xs_iconst_1, xs_iadd]) ))
      exact tail 0 (by rw [if_neg q2])
    · rw [x_ite0, Classical.not_not] at q2
      (repeat (first | (simp only [xb_X8_tries_0, xb_X8_tries_11, xb_X8_tries_23, xb_X8_tries_24, xb_X8_tries_62, xs_nil, Nat.reduceAdd, true_implies, not_true_eq_false, not_false_eq_true, false_implies, and_true, true_and, x_10, xs_aload_n_0, xs_iload_n_1, xs_istore_n_3_i, xs_istore_n_3_a, xs_istore_n_3_n, xs_istore_n_3_l, xs_iload_n_3, xs_if_ge, xs_return, xs_iload_n_2, xs_if_eq, xs_goto, xs_iconst_0, xs_istore_4_i, xs_istore_4_a, xs_istore_4_n, xs_istore_4_l, xs_istore_5_i, xs_istore_5_a, xs_istore_5_n, xs_istore_5_l, xs_iload_4, xs_iload_5, xs_dup_i, xs_dup_a, xs_iconst_1, xs_iadd]) | refine xc_v2_1 (cR) (Nat.le_of_ble_eq_true rfl) ?_))
      exact tail _ (by rw [if_pos q2])
  · (repeat (first | (simp only [xb_X8_tries_0, xb_X8_tries_11, xb_X8_tries_23, xb_X8_tries_24, xb_X8_tries_62, xs_nil, Nat.reduceAdd, true_implies, not_true_eq_false, not_false_eq_true, false_implies, and_true, true_and, x_10, xs_aload_n_0, xs_iload_n_1, xs_istore_n_3_i, xs_istore_n_3_a, xs_istore_n_3_n, xs_istore_n_3_l, xs_iload_n_3, xs_if_ge, xs_return, xs_iload_n_2, xs_if_eq, xs_goto, xs_iconst_0, xs_istore_4_i, xs_istore_4_a, xs_istore_4_n, xs_istore_4_l, xs_istore_5_i, xs_istore_5_a, xs_istore_5_n, xs_istore_5_l, xs_iload_4, xs_iload_5, xs_dup_i, xs_dup_a, xs_iconst_1, xs_iadd]) ))
    have eT : mtry nw hd rd so ah ar n rep rc = rc := by unfold mtry; rw [if_pos (Int32.not_le.mp q)]
    rw [eT]
    exact e
end MO9
/-- all these codes, one by one -/
noncomputable def mcodes (nw rd so ah ar : List Int32) (n : Nat) (rep : Bool) : List Nat → List Nat × mR → List Nat × mR
  | [], s => s
  | c :: cs, s => mcodes nw rd so ah ar n rep cs (nlay s.1 (n + 1) c n, mtry nw ((nlay s.1 (n + 1) c n).map nI) rd so ah ar n rep s.2)
noncomputable def mfinds (nw ah ar : List Int32) (n : Nat) (rep : Bool) (cs : List Nat) (hs : List Nat) (rd so : List Int32) (rc : mR) : Nat → (List Int32 × List Int32) × (List Nat × mR)
  | 0 => ((rd, so), (hs, (0, rc.2)))
  | b + 1 => ((mread nw b n (mfinds nw ah ar n rep cs hs rd so rc b).1.1 (mfinds nw ah ar n rep cs hs rd so rc b).1.2 n).1, if (mread nw b n (mfinds nw ah ar n rep cs hs rd so rc b).1.1 (mfinds nw ah ar n rep cs hs rd so rc b).1.2 n).2 = true then mcodes nw (mread nw b n (mfinds nw ah ar n rep cs hs rd so rc b).1.1 (mfinds nw ah ar n rep cs hs rd so rc b).1.2 n).1.1 (mread nw b n (mfinds nw ah ar n rep cs hs rd so rc b).1.1 (mfinds nw ah ar n rep cs hs rd so rc b).1.2 n).1.2 ah ar n rep cs (mfinds nw ah ar n rep cs hs rd so rc b).2 else (mfinds nw ah ar n rep cs hs rd so rc b).2)
section MO10
variable {m : Nat} {nw asd pa rf tx hd rd so ah ar tr bg le fr nu : List Int32} {sts byt od sp wr : Int32} {rc : mR} {ha : Int64} {x1 x2 x3 x4 : Int32} {h h0 : xH} {n : Nat} {rep : Bool}
theorem nlay_le {b : Nat} (hb : 0 < b) : ∀ (w c : Nat) (hs : List Nat), hs.length = 7 → w < 7 → (∀ k, w < k → k < 7 → hs.getD k 0 < b ∨ True) → ∀ k, 0 < k → k ≤ w → (nlay hs b c w).getD k 0 < b := by
  have keep : ∀ (w c : Nat) (hs : List Nat) (k : Nat), w < k → (nlay hs b c w).getD k 0 = hs.getD k 0 := by
    intro w
    induction w with
    | zero => intro c hs k hk; rfl
    | succ w ih =>
      intro c hs k hk
      show (nlay (hs.set (w + 1) (c % b)) b (c / b) w).getD k 0 = _
      rw [ih _ _ k (by omega), List.getD_eq_getElem?_getD, List.getElem?_set_ne (by omega), ← List.getD_eq_getElem?_getD]
  intro w
  induction w with
  | zero => intro c hs h7 hw _ k h1 h2; omega
  | succ w ih =>
    intro c hs h7 hw _ k h1 h2
    show (nlay (hs.set (w + 1) (c % b)) b (c / b) w).getD k 0 < b
    by_cases hk : k = w + 1
    · subst hk
      rw [keep _ _ _ _ (by omega), List.getD_eq_getElem?_getD, List.getElem?_set_self (by omega)]
      exact Nat.mod_lt _ hb
    · exact ih (c / b) _ (by rw [List.length_set]; exact h7) (by omega) (fun _ _ _ => Or.inr trivial) k h1 (by omega)
/-- the inner loop: the codes from t on -/
theorem l_trees {hi : Nat} {bits : Int32} {r : Option Value} {h' : xH} (h2 : 2 ≤ m) (hn : n < 7) (h0n : 0 < n) (i1 : xin 115 nw.length) (i2 : xin 116 nw.length) (l2 : rd.length = 7) (l3 : ah.length = 7) (l4 : ar.length = 7) (hbg : bg.length = 8) (htr : tr.length = 911) (hhi : hi ≤ 911) (ehi : xg bg (nI (n + 1)) = nI hi)
    (hv : ∀ hs : List Nat, nok hs → (∀ w, w < n → hs.getD (w + 1) 0 ≤ n) → ∀ w, w < n → mwell nw (hs.map nI) rd so (nI (w + 1))) :
    ∀ (cs : List Nat) (t : Nat) (s : List Nat × mR) (h : xH) (_ : x_hb h m (x_mc m nw asd pa sts rf tx byt (s.1.map nI) rd so ah ar tr bg (s.2.1) (s.2.2.1) (s.2.2.2.1) (s.2.2.2.2) le fr nu od sp wr ha)) (_ : x_wr h0 m (x_mc m nw asd pa sts rf tx byt (s.1.map nI) rd so ah ar tr bg (s.2.1) (s.2.2.1) (s.2.2.2.1) (s.2.2.2.2) le fr nu od sp wr ha) = h) (_ : m + 16 ≤ h0.length), nok s.1 → t + cs.length = hi → (∀ j, j < cs.length → tr.getD (t + j) 0 = nI (cs.getD j 0) ∧ cs.getD j 0 < 2 ^ 31) →
      (∀ (h : xH) (_ : x_hb h m (x_mc m nw asd pa sts rf tx byt ((mcodes nw rd so ah ar n rep cs s).1.map nI) rd so ah ar tr bg ((mcodes nw rd so ah ar n rep cs s).2.1) ((mcodes nw rd so ah ar n rep cs s).2.2.1) ((mcodes nw rd so ah ar n rep cs s).2.2.2.1) ((mcodes nw rd so ah ar n rep cs s).2.2.2.2) le fr nu od sp wr ha)) (_ : x_wr h0 m (x_mc m nw asd pa sts rf tx byt ((mcodes nw rd so ah ar n rep cs s).1.map nI) rd so ah ar tr bg ((mcodes nw rd so ah ar n rep cs s).2.1) ((mcodes nw rd so ah ar n rep cs s).2.2.1) ((mcodes nw rd so ah ar n rep cs s).2.2.2.1) ((mcodes nw rd so ah ar n rep cs s).2.2.2.2) le fr nu od sp wr ha) = h), nok (mcodes nw rd so ah ar n rep cs s).1 → x_EV 94 72 [some (.ref m), some (.int (nI n)), some (.int (if rep = true then 1 else 0)), some (.int bits), some (.int 1), some (.int (nI hi))] [] h r h') →
      x_EV 94 30 [some (.ref m), some (.int (nI n)), some (.int (if rep = true then 1 else 0)), some (.int bits), some (.int 1), some (.int (nI t))] [] h r h' := by
  have vb : xin (nI (n + 1)) bg.length := x_in (by rw [hbg]; omega) (by rw [hbg]; decide)
  intro cs
  induction cs with
  | nil =>
    intro t s h hb e hl hk ht hcs fin
    have et : t = hi := by simpa using ht
    subst et
    refine xe_X8_finds_30 ?_
    (repeat (first | (simp only [xb_X8_finds_0, xb_X8_finds_7, xb_X8_finds_30, xb_X8_finds_72, xb_X8_finds_78, xs_nil, Nat.reduceAdd, true_implies, not_true_eq_false, not_false_eq_true, false_implies, and_true, true_and, x_10, xs_aload_n_0, xs_iconst_0, xs_istore_n_3_i, xs_istore_n_3_a, xs_istore_n_3_n, xs_istore_n_3_l, xs_iload_n_3, xs_iconst_1, xs_iload_n_1, xs_ishl, xs_icmp_ge, xs_istore_4_i, xs_istore_4_a, xs_istore_4_n, xs_istore_4_l, xs_istore_5_i, xs_istore_5_a, xs_istore_5_n, xs_istore_5_l, xs_iload_5, xs_iadd, xs_iload_4, xs_if_eq, xs_iload_n_2, xs_iinc_5_1_i, xs_iinc_5_1_a, xs_iinc_5_1_n, xs_goto, xs_iinc_3_1_i, xs_iinc_3_1_a, xs_iinc_3_1_n, xs_return]) | (refine xr_getf (hb 0 _ rfl) (by rfl) ?_)))
    rw [nI_1]
    refine xr_iaload (hb 12 _ rfl) vb ?_
    rw [ehi]
    (repeat (first | (simp only [xb_X8_finds_0, xb_X8_finds_7, xb_X8_finds_30, xb_X8_finds_72, xb_X8_finds_78, xs_nil, Nat.reduceAdd, true_implies, not_true_eq_false, not_false_eq_true, false_implies, and_true, true_and, x_10, xs_aload_n_0, xs_iconst_0, xs_istore_n_3_i, xs_istore_n_3_a, xs_istore_n_3_n, xs_istore_n_3_l, xs_iload_n_3, xs_iconst_1, xs_iload_n_1, xs_ishl, xs_icmp_ge, xs_istore_4_i, xs_istore_4_a, xs_istore_4_n, xs_istore_4_l, xs_istore_5_i, xs_istore_5_a, xs_istore_5_n, xs_istore_5_l, xs_iload_5, xs_iadd, xs_iload_4, xs_if_eq, xs_iload_n_2, xs_iinc_5_1_i, xs_iinc_5_1_a, xs_iinc_5_1_n, xs_goto, xs_iinc_3_1_i, xs_iinc_3_1_a, xs_iinc_3_1_n, xs_return]) ))
    refine ⟨fun q => fin h hb e hk, fun q => absurd (nI_le (Nat.le_refl _) (by omega)) q⟩
  | cons c cs ih =>
    intro t s h hb e hl hk ht hcs fin
    simp only [List.length_cons] at ht
    obtain ⟨c1, c2⟩ := hcs 0 (by simp)
    have c1 : tr.getD t 0 = nI c := c1
    have c2 : c < 2 ^ 31 := c2
    have vt : xin (nI t) tr.length := x_in (by rw [htr]; omega) (by rw [htr]; decide)
    have et : xg tr (nI t) = nI c := by rw [xg_n (by omega)]; exact c1
    have hk2 : nok (nlay s.1 (n + 1) c n) := nok_lay (by omega) (by omega) hk
    have hle : ∀ w, w < n → (nlay s.1 (n + 1) c n).getD (w + 1) 0 ≤ n := fun w hw => Nat.le_of_lt_succ (nlay_le (Nat.zero_lt_succ n) n c s.1 hk.1 hn (fun _ _ _ => Or.inr trivial) (w + 1) (by omega) (by omega))
    refine xe_X8_finds_30 ?_
    (repeat (first | (simp only [xb_X8_finds_0, xb_X8_finds_7, xb_X8_finds_30, xb_X8_finds_72, xb_X8_finds_78, xs_nil, Nat.reduceAdd, true_implies, not_true_eq_false, not_false_eq_true, false_implies, and_true, true_and, x_10, xs_aload_n_0, xs_iconst_0, xs_istore_n_3_i, xs_istore_n_3_a, xs_istore_n_3_n, xs_istore_n_3_l, xs_iload_n_3, xs_iconst_1, xs_iload_n_1, xs_ishl, xs_icmp_ge, xs_istore_4_i, xs_istore_4_a, xs_istore_4_n, xs_istore_4_l, xs_istore_5_i, xs_istore_5_a, xs_istore_5_n, xs_istore_5_l, xs_iload_5, xs_iadd, xs_iload_4, xs_if_eq, xs_iload_n_2, xs_iinc_5_1_i, xs_iinc_5_1_a, xs_iinc_5_1_n, xs_goto, xs_iinc_3_1_i, xs_iinc_3_1_a, xs_iinc_3_1_n, xs_return]) | (refine xr_getf (hb 0 _ rfl) (by rfl) ?_)))
    rw [nI_1]
    refine xr_iaload (hb 12 _ rfl) vb ?_
    rw [ehi]
    (repeat (first | (simp only [xb_X8_finds_0, xb_X8_finds_7, xb_X8_finds_30, xb_X8_finds_72, xb_X8_finds_78, xs_nil, Nat.reduceAdd, true_implies, not_true_eq_false, not_false_eq_true, false_implies, and_true, true_and, x_10, xs_aload_n_0, xs_iconst_0, xs_istore_n_3_i, xs_istore_n_3_a, xs_istore_n_3_n, xs_istore_n_3_l, xs_iload_n_3, xs_iconst_1, xs_iload_n_1, xs_ishl, xs_icmp_ge, xs_istore_4_i, xs_istore_4_a, xs_istore_4_n, xs_istore_4_l, xs_istore_5_i, xs_istore_5_a, xs_istore_5_n, xs_istore_5_l, xs_iload_5, xs_iadd, xs_iload_4, xs_if_eq, xs_iload_n_2, xs_iinc_5_1_i, xs_iinc_5_1_a, xs_iinc_5_1_n, xs_goto, xs_iinc_3_1_i, xs_iinc_3_1_a, xs_iinc_3_1_n, xs_return]) ))
    refine ⟨fun q => absurd q (nI_ge (by omega) (by omega)), fun q => ?_⟩
    (repeat (first | (simp only [xb_X8_finds_0, xb_X8_finds_7, xb_X8_finds_30, xb_X8_finds_72, xb_X8_finds_78, xs_nil, Nat.reduceAdd, true_implies, not_true_eq_false, not_false_eq_true, false_implies, and_true, true_and, x_10, xs_aload_n_0, xs_iconst_0, xs_istore_n_3_i, xs_istore_n_3_a, xs_istore_n_3_n, xs_istore_n_3_l, xs_iload_n_3, xs_iconst_1, xs_iload_n_1, xs_ishl, xs_icmp_ge, xs_istore_4_i, xs_istore_4_a, xs_istore_4_n, xs_istore_4_l, xs_istore_5_i, xs_istore_5_a, xs_istore_5_n, xs_istore_5_l, xs_iload_5, xs_iadd, xs_iload_4, xs_if_eq, xs_iload_n_2, xs_iinc_5_1_i, xs_iinc_5_1_a, xs_iinc_5_1_n, xs_goto, xs_iinc_3_1_i, xs_iinc_3_1_a, xs_iinc_3_1_n, xs_return]) | (refine xr_getf (hb 0 _ rfl) (by rfl) ?_) | (refine xr_iaload (hb 11 _ rfl) vt ?_)))
    rw [et]
    refine xc_v3_0 (c_nlaysHeads hb h2 hk hn c2) (Nat.le_of_ble_eq_true rfl) ?_
    have hl3 : m + 16 ≤ h.length := hb.fit (Nat.zero_lt_succ _)
    have e3 : x_wr h m (x_mc m nw asd pa sts rf tx byt ((nlay s.1 (n + 1) c n).map nI) rd so ah ar tr bg (s.2.1) (s.2.2.1) (s.2.2.2.1) (s.2.2.2.2) le fr nu od sp wr ha) = x_wr h0 m (x_mc m nw asd pa sts rf tx byt ((nlay s.1 (n + 1) c n).map nI) rd so ah ar tr bg (s.2.1) (s.2.2.1) (s.2.2.2.1) (s.2.2.2.2) le fr nu od sp wr ha) := by
      rw [← e]
      exact x_wr_wr hl rfl
    have hb3 : x_hb (x_wr h m (x_mc m nw asd pa sts rf tx byt ((nlay s.1 (n + 1) c n).map nI) rd so ah ar tr bg (s.2.1) (s.2.2.1) (s.2.2.2.1) (s.2.2.2.2) le fr nu od sp wr ha)) m (x_mc m nw asd pa sts rf tx byt ((nlay s.1 (n + 1) c n).map nI) rd so ah ar tr bg (s.2.1) (s.2.2.1) (s.2.2.2.1) (s.2.2.2.2) le fr nu od sp wr ha) := x_hb_wr hl3
    generalize x_wr h m (x_mc m nw asd pa sts rf tx byt ((nlay s.1 (n + 1) c n).map nI) rd so ah ar tr bg (s.2.1) (s.2.2.1) (s.2.2.2.1) (s.2.2.2.2) le fr nu od sp wr ha) = h1 at e3 hb3 ⊢
    (repeat (first | (simp only [xb_X8_finds_0, xb_X8_finds_7, xb_X8_finds_30, xb_X8_finds_72, xb_X8_finds_78, xs_nil, Nat.reduceAdd, true_implies, not_true_eq_false, not_false_eq_true, false_implies, and_true, true_and, x_10, xs_aload_n_0, xs_iconst_0, xs_istore_n_3_i, xs_istore_n_3_a, xs_istore_n_3_n, xs_istore_n_3_l, xs_iload_n_3, xs_iconst_1, xs_iload_n_1, xs_ishl, xs_icmp_ge, xs_istore_4_i, xs_istore_4_a, xs_istore_4_n, xs_istore_4_l, xs_istore_5_i, xs_istore_5_a, xs_istore_5_n, xs_istore_5_l, xs_iload_5, xs_iadd, xs_iload_4, xs_if_eq, xs_iload_n_2, xs_iinc_5_1_i, xs_iinc_5_1_a, xs_iinc_5_1_n, xs_goto, xs_iinc_3_1_i, xs_iinc_3_1_a, xs_iinc_3_1_n, xs_return]) ))
    refine xc_v3_0 (c_tries (rc := s.2) (rep := rep) hb3 h2 hn h0n i1 i2 (by rw [List.length_map]; exact hk2.1) l2 l3 l4 (hv _ hk2 hle)) (Nat.le_of_ble_eq_true rfl) ?_
    have hl4 : m + 16 ≤ h1.length := hb3.fit (Nat.zero_lt_succ _)
    generalize eS : mtry nw ((nlay s.1 (n + 1) c n).map nI) rd so ah ar n rep s.2 = s2
    have e5 : x_wr h1 m (x_mc m nw asd pa sts rf tx byt ((nlay s.1 (n + 1) c n).map nI) rd so ah ar tr bg (s2.1) (s2.2.1) (s2.2.2.1) (s2.2.2.2) le fr nu od sp wr ha) = x_wr h0 m (x_mc m nw asd pa sts rf tx byt ((nlay s.1 (n + 1) c n).map nI) rd so ah ar tr bg (s2.1) (s2.2.1) (s2.2.2.1) (s2.2.2.2) le fr nu od sp wr ha) := by
      rw [e3]
      exact x_wr_wr hl rfl
    have hb5 : x_hb (x_wr h1 m (x_mc m nw asd pa sts rf tx byt ((nlay s.1 (n + 1) c n).map nI) rd so ah ar tr bg (s2.1) (s2.2.1) (s2.2.2.1) (s2.2.2.2) le fr nu od sp wr ha)) m (x_mc m nw asd pa sts rf tx byt ((nlay s.1 (n + 1) c n).map nI) rd so ah ar tr bg (s2.1) (s2.2.1) (s2.2.2.1) (s2.2.2.2) le fr nu od sp wr ha) := x_hb_wr hl4
    generalize x_wr h1 m (x_mc m nw asd pa sts rf tx byt ((nlay s.1 (n + 1) c n).map nI) rd so ah ar tr bg (s2.1) (s2.2.1) (s2.2.2.1) (s2.2.2.2) le fr nu od sp wr ha) = h6 at e5 hb5 ⊢
    (repeat (first | (simp only [xb_X8_finds_0, xb_X8_finds_7, xb_X8_finds_30, xb_X8_finds_72, xb_X8_finds_78, xs_nil, Nat.reduceAdd, true_implies, not_true_eq_false, not_false_eq_true, false_implies, and_true, true_and, x_10, xs_aload_n_0, xs_iconst_0, xs_istore_n_3_i, xs_istore_n_3_a, xs_istore_n_3_n, xs_istore_n_3_l, xs_iload_n_3, xs_iconst_1, xs_iload_n_1, xs_ishl, xs_icmp_ge, xs_istore_4_i, xs_istore_4_a, xs_istore_4_n, xs_istore_4_l, xs_istore_5_i, xs_istore_5_a, xs_istore_5_n, xs_istore_5_l, xs_iload_5, xs_iadd, xs_iload_4, xs_if_eq, xs_iload_n_2, xs_iinc_5_1_i, xs_iinc_5_1_a, xs_iinc_5_1_n, xs_goto, xs_iinc_3_1_i, xs_iinc_3_1_a, xs_iinc_3_1_n, xs_return]) ))
    rw [nI_1]
    refine ih (t + 1) (nlay s.1 (n + 1) c n, s2) h6 hb5 e5.symm hl hk2 (by omega) (fun j hj => ?_) ?_
    · have := hcs (j + 1) (by simp; omega)
      rw [show t + 1 + j = t + (j + 1) by omega]
      exact this
    · have eM : mcodes nw rd so ah ar n rep (c :: cs) s = mcodes nw rd so ah ar n rep cs (nlay s.1 (n + 1) c n, s2) := by rw [← eS]; rfl
      rw [eM] at fin
      exact fin
end MO10
