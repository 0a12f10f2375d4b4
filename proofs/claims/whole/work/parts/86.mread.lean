/-! the reference reads -/
section MR
variable {m : Nat} {nw asd pa rf tx hd rd so ah ar tr bg le fr nu : List Int32} {sts fo bc br bk od wr : Int32} {ha : Int64} {h h0 : xH} {N p q : Nat}
theorem c_isAtP {a b : Int32} (hb : x_hb h m (x_mc m nw asd pa sts rf tx (nI N) hd rd so ah ar tr bg fo bc br bk le fr nu od (nI p) wr ha)) (hl : tx.length = 120) (hN : N ≤ 120) (hp : p ≤ N + 3) (hm : ¬ (a ≤ -1 ∧ -1 ≤ b)) : xK 152 [.ref m, .int a, .int b] h (some (.int (if a ≤ pB tx N p ∧ pB tx N p ≤ b then 1 else 0))) h := by
  have c := c_isAt (x1 := a) (x2 := b) hb (fun z => by
    have := (nI_ltI (by omega) (by omega)).mp z
    rw [hl]
    exact x_in (by omega) (by decide))
  have e : (if nI p < nI N ∧ a ≤ xg tx (nI p) ∧ xg tx (nI p) ≤ b then (1 : Int32) else 0) = if a ≤ pB tx N p ∧ pB tx N p ≤ b then 1 else 0 := by
    rw [xg_n (by omega)]
    unfold pB
    by_cases hpN : p < N
    · rw [if_pos hpN]
      exact ite_iff ⟨fun z => z.2, fun z => ⟨(nI_ltI (by omega) (by omega)).mpr hpN, z⟩⟩
    · rw [if_neg hpN, if_neg hm, if_neg (fun z => hpN ((nI_ltI (by omega) (by omega)).mp z.1))]
  rw [e] at c
  exact c
theorem c_isC {a : Int32} (hb : x_hb h m (x_mc m nw asd pa sts rf tx (nI N) hd rd so ah ar tr bg fo bc br bk le fr nu od (nI p) wr ha)) (hl : tx.length = 120) (hN : N ≤ 120) (hp : p ≤ N + 3) (hm : ¬ a = -1) : xK 152 [.ref m, .int a, .int a] h (some (.int (if pB tx N p = a then 1 else 0))) h := by
  have key : ∀ x : Int32, (a ≤ x ∧ x ≤ a ↔ x = a) := by
    intro x
    rw [Int32.le_iff_toInt_le, Int32.le_iff_toInt_le, ← Int32.toInt_inj]
    omega
  have c := c_isAtP (a := a) (b := a) hb hl hN hp (fun z => hm ((key _).mp z).symm)
  rw [ite_iff (key _)] at c
  exact c
theorem c_isF (hb : x_hb h m (x_mc m nw asd pa sts rf tx (nI N) hd rd so ah ar tr bg fo bc br bk le fr nu od (nI p) wr ha)) (hl : tx.length = 120) (hN : N ≤ 120) (hp : p ≤ N + 3) : xK 152 [.ref m, .int 48, .int 57] h (some (.int (if figB (pB tx N p) = true then 1 else 0))) h := by
  have c := c_isAtP (a := 48) (b := 57) hb hl hN hp (by decide)
  rw [ite_iff (show (48 ≤ pB tx N p ∧ pB tx N p ≤ 57) ↔ figB (pB tx N p) = true by unfold figB; exact decide_eq_true_iff.symm)] at c
  exact c
theorem l_blanks (h2 : 2 ≤ m) (hl : tx.length = 120) (hN : N ≤ 120) : ∀ (d p : Nat) (h : xH), xA h0 m (x_mc m nw asd pa sts rf tx (nI N) hd rd so ah ar tr bg fo bc br bk le fr nu od (nI p) wr ha) h → p + d = N → x_EV 153 0 [some (.ref m)] [] h none (x_wr h0 m (x_mc m nw asd pa sts rf tx (nI N) hd rd so ah ar tr bg fo bc br bk le fr nu od (nI (skf tx N d p)) wr ha)) := by
  intro d
  induction d with
  | zero =>
    intro p h A hp
    have hb := A.hb
    have c := c_isC (a := 32) hb hl hN (by omega) (by decide)
    rw [if_neg (by unfold pB; rw [if_neg (by omega)]; decide)] at c
    refine xe_X8_blanks_0 ?_
    (repeat (first | (simp only [xb_X8_blanks_0, xb_X8_blanks_24, xs_nil, Nat.reduceAdd, true_implies, not_true_eq_false, not_false_eq_true, false_implies, and_true, true_and, x_10, xs_aload_n_0, xs_bipush_32, xs_if_eq, xs_dup_i, xs_dup_a, xs_iconst_1, xs_iadd, xs_goto, xs_return]) | refine xc_v3_1 (c) (Nat.le_of_ble_eq_true rfl) ?_))
    refine xe_X8_blanks_24 ?_
    (repeat (first | (simp only [xb_X8_blanks_0, xb_X8_blanks_24, xs_nil, Nat.reduceAdd, true_implies, not_true_eq_false, not_false_eq_true, false_implies, and_true, true_and, x_10, xs_aload_n_0, xs_bipush_32, xs_if_eq, xs_dup_i, xs_dup_a, xs_iconst_1, xs_iadd, xs_goto, xs_return]) ))
    exact A.e
  | succ d ih =>
    intro p h A hp
    have hb := A.hb
    have ihT := ih (p + 1)
    have c := c_isC (a := 32) hb hl hN (by omega) (by decide)
    have ep : pB tx N p = tx.getD p 0 := by unfold pB; rw [if_pos (by omega)]
    rw [ep] at c
    unfold skf
    by_cases hz : tx.getD p 0 = 32
    · rw [if_pos ⟨by omega, hz⟩]
      rw [if_pos hz] at c
      refine xe_X8_blanks_0 ?_
      (repeat (first | (simp only [xb_X8_blanks_0, xb_X8_blanks_24, xs_nil, Nat.reduceAdd, true_implies, not_true_eq_false, not_false_eq_true, false_implies, and_true, true_and, x_10, xs_aload_n_0, xs_bipush_32, xs_if_eq, xs_dup_i, xs_dup_a, xs_iconst_1, xs_iadd, xs_goto, xs_return]) | refine xc_v3_1 (c) (Nat.le_of_ble_eq_true rfl) ?_ | (rw [xn_dup]) | (refine xr_getf (hb 0 _ rfl) (by rfl) ?_)))
      rw [nI_1]
      refine xa_putf A 0 (by rfl) h2 (by exact Nat.le_of_ble_eq_true rfl) (x_fit_int _) (fun h1 A1 => ?_)
      (repeat (first | (simp only [xb_X8_blanks_0, xb_X8_blanks_24, xs_nil, Nat.reduceAdd, true_implies, not_true_eq_false, not_false_eq_true, false_implies, and_true, true_and, x_10, xs_aload_n_0, xs_bipush_32, xs_if_eq, xs_dup_i, xs_dup_a, xs_iconst_1, xs_iadd, xs_goto, xs_return]) ))
      exact ihT h1 A1 (by omega)
    · rw [if_neg (fun z => hz z.2)]
      rw [if_neg hz] at c
      refine xe_X8_blanks_0 ?_
      (repeat (first | (simp only [xb_X8_blanks_0, xb_X8_blanks_24, xs_nil, Nat.reduceAdd, true_implies, not_true_eq_false, not_false_eq_true, false_implies, and_true, true_and, x_10, xs_aload_n_0, xs_bipush_32, xs_if_eq, xs_dup_i, xs_dup_a, xs_iconst_1, xs_iadd, xs_goto, xs_return]) | refine xc_v3_1 (c) (Nat.le_of_ble_eq_true rfl) ?_))
      refine xe_X8_blanks_24 ?_
      (repeat (first | (simp only [xb_X8_blanks_0, xb_X8_blanks_24, xs_nil, Nat.reduceAdd, true_implies, not_true_eq_false, not_false_eq_true, false_implies, and_true, true_and, x_10, xs_aload_n_0, xs_bipush_32, xs_if_eq, xs_dup_i, xs_dup_a, xs_iconst_1, xs_iadd, xs_goto, xs_return]) ))
      exact A.e
theorem c_blanks (hb : x_hb h m (x_mc m nw asd pa sts rf tx (nI N) hd rd so ah ar tr bg fo bc br bk le fr nu od (nI p) wr ha)) (h2 : 2 ≤ m) (hl : tx.length = 120) (hN : N ≤ 120) (hp : p ≤ N) : xK 153 [.ref m] h none (x_wr h m (x_mc m nw asd pa sts rf tx (nI N) hd rd so ah ar tr bg fo bc br bk le fr nu od (nI (sk tx N p)) wr ha)) :=
  xK_X8_blanks (hb 0 _ rfl) (l_blanks h2 hl hN (N - p) p h (xA.of hb (Nat.zero_lt_succ _)) (by omega))
theorem c_leastOf {x : Int32} : xK 154 [.int x] h (some (.int (if mostN x = 0 then -1 else if x = 119 then 1 else nI (mostN x)))) h := by
  have e : (if mostN x = 0 then (-1 : Int32) else if x = 119 then 1 else nI (mostN x)) = if x = 101 ∨ x = 119 then 1 else if x = 111 then 2 else if x = 102 then 3 else if x = 114 then 4 else -1 := by
    unfold mostN
    by_cases h1 : x = 101
    · subst h1; decide
    by_cases h2 : x = 119
    · subst h2; decide
    by_cases h3 : x = 111
    · subst h3; decide
    by_cases h4 : x = 102
    · subst h4; decide
    by_cases h5 : x = 114
    · subst h5; decide
    rw [if_neg h1, if_neg h4, if_neg h3, if_neg h5, if_neg h2, if_pos rfl, if_neg (fun z => z.elim h1 h2), if_neg h3, if_neg h4, if_neg h5]
  rw [e]
  refine xK_X8_leastOf ?_
  (repeat' (first | (simp only [xb_X8_leastOf_0, xb_X8_leastOf_12, xb_X8_leastOf_16, xb_X8_leastOf_26, xb_X8_leastOf_36, xb_X8_leastOf_46, xb_X8_leastOf_47, xs_nil, Nat.reduceAdd, true_implies, not_true_eq_false, not_false_eq_true, false_implies, and_true, true_and, x_10, xs_iload_n_0, xs_bipush_101, xs_icmp_eq, xs_bipush_119, xs_icmp_ne, xs_iconst_1, xs_goto, xs_bipush_111, xs_iconst_2, xs_bipush_102, xs_iconst_3, xs_bipush_114, xs_iconst_4, xs_iconst_m1, xs_ireturn]) | (refine ⟨fun _ => ?_, fun _ => ?_⟩) | refine xe_X8_leastOf_0 ?_ | refine xe_X8_leastOf_12 ?_ | refine xe_X8_leastOf_16 ?_ | refine xe_X8_leastOf_26 ?_ | refine xe_X8_leastOf_36 ?_ | refine xe_X8_leastOf_46 ?_ | refine xe_X8_leastOf_47 ?_ ))
  all_goals (first | (simp_all [x_bit, x_ite0, Int32.not_lt, Int32.not_le]; done) | ((try simp only [x_ite0] at *) <;> simp [x_bit, Int32.lt_iff_toInt_lt, Int32.le_iff_toInt_le] at * <;> omega))
theorem c_mostOf {x : Int32} (hx : ¬ mostN x = 0) : xK 156 [.int x] h (some (.int (nI (mostN x)))) h := by
  have c := c_leastOf (x := x) (h := h)
  rw [if_neg hx] at c
  refine xK_X8_mostOf ?_
  by_cases h1 : x = 119
  · subst h1
    (repeat' (first | (simp only [xb_X8_mostOf_0, xb_X8_mostOf_11, xb_X8_mostOf_15, xs_nil, Nat.reduceAdd, true_implies, not_true_eq_false, not_false_eq_true, false_implies, and_true, true_and, x_10, xs_iload_n_0, xs_bipush_119, xs_icmp_ne, xs_bipush_6, xs_goto, xs_ireturn]) | (refine ⟨fun _ => ?_, fun _ => ?_⟩) | refine xe_X8_mostOf_0 ?_ | refine xe_X8_mostOf_11 ?_ | refine xe_X8_mostOf_15 ?_ | refine xc_s1_1 (by decide) (c) (Nat.le_of_ble_eq_true rfl) ?_))
    all_goals first | (first | exact ⟨Or.inl trivial, rfl⟩ | exact ⟨Or.inl trivial, rfl, rfl⟩ | (simp; done) | exact ⟨by simp, rfl⟩ | exact ⟨by simp, rfl, rfl⟩ | rfl) | (simp; done) | contradiction
  · rw [if_neg h1] at c
    (repeat' (first | (simp only [xb_X8_mostOf_0, xb_X8_mostOf_11, xb_X8_mostOf_15, xs_nil, Nat.reduceAdd, true_implies, not_true_eq_false, not_false_eq_true, false_implies, and_true, true_and, x_10, xs_iload_n_0, xs_bipush_119, xs_icmp_ne, xs_bipush_6, xs_goto, xs_ireturn]) | (refine ⟨fun _ => ?_, fun _ => ?_⟩) | refine xe_X8_mostOf_0 ?_ | refine xe_X8_mostOf_11 ?_ | refine xe_X8_mostOf_15 ?_ | refine xc_s1_1 (by decide) (c) (Nat.le_of_ble_eq_true rfl) ?_))
    all_goals first | contradiction | (first | exact ⟨Or.inl trivial, rfl⟩ | exact ⟨Or.inl trivial, rfl, rfl⟩ | (simp; done) | exact ⟨by simp, rfl⟩ | exact ⟨by simp, rfl, rfl⟩ | rfl) | (simp; done)
end MR
