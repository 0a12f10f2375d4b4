/-! the class does another order -/
section CZ
variable {a : kS} {sh : Nat → kS} {nx ct : Nat} {tx kd fi cn nu F : List Int32} {nr at_ ln od c : Int32} {rf : List Int32} {i f n : Nat} {s : kS} {k : kC} {h : xH}
/-- to the switch -/
theorem cX_switch (X : cX h s a k sh nx ct tx kd fi cn nu nr at_ ln od rf) (q0 : kd.length = 120) (q1 : fi.length = 120) (q2 : cn.length = 120) (hi : i < 120) (hkd : kd.getD i 0 = c) (hcn : cn.getD i 0 = nI n) (hfi : fi.getD i 0 = nI f) (hag : agr nu F) (hfn : f + n ≤ F.length) (hn : n ≤ 6) {r : Option Value} {h' : xH} (t : Nat) (ht : ((59 : Int) + Op.lookupswitch.offset [(101, 41), (102, 49), (111, 89), (114, 59)] 111 c.toInt).toNat = t)
    (H : x_EV 150 t [some (.ref 2), some (.int (nI i)), some (.ref 4), some (.int (if 0 < n then F.getD (f + 0) 0 else -1)), some (.int (if 1 < n then F.getD (f + 1) 0 else -1)), some (.int (if 2 < n then F.getD (f + 2) 0 else -1)), some (.int (if 3 < n then F.getD (f + 3) 0 else -1))] [] h r h') : xK 150 [.ref 2, .int (nI i)] h r h' := by
  have B := X.1
  have c0 := cX_num (j := 0) X q1 q2 hi hcn hfi hag hfn (by decide) hn
  have c1 := cX_num (j := 1) X q1 q2 hi hcn hfi hag hfn (by decide) hn
  have c2 := cX_num (j := 2) X q1 q2 hi hcn hfi hag hfn (by decide) hn
  have c3 := cX_num (j := 3) X q1 q2 hi hcn hfi hag hfn (by decide) hn
  generalize (if 0 < n then F.getD (f + 0) 0 else -1) = v0 at c0 H
  generalize (if 1 < n then F.getD (f + 1) 0 else -1) = v1 at c1 H
  generalize (if 2 < n then F.getD (f + 2) 0 else -1) = v2 at c2 H
  generalize (if 3 < n then F.getD (f + 3) 0 else -1) = v3 at c3 H
  have ck := c_kind (x1 := nI i) X.2.2 (by rw [q0]; exact x_in hi (by decide))
  rw [xg_n (by omega), hkd] at ck
  have c0 : xK 147 [.ref 115, .int (nI i), .int 0] h (some (.int v0)) h := c0
  have c1 : xK 147 [.ref 115, .int (nI i), .int 1] h (some (.int v1)) h := c1
  have c2 : xK 147 [.ref 115, .int (nI i), .int 2] h (some (.int v2)) h := c2
  have c3 : xK 147 [.ref 115, .int (nI i), .int 3] h (some (.int v3)) h := c3
  refine xK_X7_doOrder (B.hp 0 _ rfl) (xe_X7_doOrder_0 ?_)
  (repeat (first | (simp only [xb_X7_doOrder_0, xb_X7_doOrder_100, xb_X7_doOrder_108, xb_X7_doOrder_118, xb_X7_doOrder_134, xb_X7_doOrder_148, xb_X7_doOrder_160, xb_X7_doOrder_170, xs_nil, Nat.reduceAdd, true_implies, not_true_eq_false, not_false_eq_true, false_implies, and_true, true_and, x_10, xs_aload_n_0, xs_astore_n_2_i, xs_astore_n_2_a, xs_astore_n_2_n, xs_astore_n_2_l, xs_iload_n_1, xs_iconst_0, xs_istore_n_3_i, xs_istore_n_3_a, xs_istore_n_3_n, xs_istore_n_3_l, xs_iconst_1, xs_istore_4_i, xs_istore_4_a, xs_istore_4_n, xs_istore_4_l, xs_iconst_2, xs_istore_5_i, xs_istore_5_a, xs_istore_5_n, xs_istore_5_l, xs_iconst_3, xs_istore_6_i, xs_istore_6_a, xs_istore_6_n, xs_istore_6_l, xs_iload_n_3, xs_iconst_m1, xs_ireturn, xs_iload_4, xs_iload_5, xs_aload_n_2, xs_iload_6, xs_if_eq, xs_pop_i, xs_pop_a]) | (refine xr_getf (B.hp 0 _ rfl) (by rfl) ?_) | (refine xr_getf (B.hs 0 _ rfl) (by rfl) ?_) | (refine xr_getf (B.hs 1 _ rfl) (by rfl) ?_) | (refine xr_getf (B.hs 7 _ rfl) (by rfl) ?_) | refine xc_v3_1 (c0) (Nat.le_of_ble_eq_true rfl) ?_ | refine xc_v3_1 (c1) (Nat.le_of_ble_eq_true rfl) ?_ | refine xc_v3_1 (c2) (Nat.le_of_ble_eq_true rfl) ?_ | refine xc_v3_1 (c3) (Nat.le_of_ble_eq_true rfl) ?_ | refine xc_v2_1 (ck) (Nat.le_of_ble_eq_true rfl) ?_))
  exact xr_look t ht H
theorem cX_doOrder (X : cX h s a k sh nx ct tx kd fi cn nu nr at_ ln od rf) (hv : sv s) (q0 : kd.length = 120) (q1 : fi.length = 120) (q2 : cn.length = 120) (hi : i < 120) (hkd : kd.getD i 0 = c) (hcn : cn.getD i 0 = nI n) (hfi : fi.getD i 0 = nI f) (hag : agr nu F) (hfn : f + n ≤ F.length) (hn : n = mostN c) (hm : ¬ mostN c = 0) (hw : ¬ c = 119) : ∃ b s' h1, oS c F f n s k b s' k ∧ xK 150 [.ref 2, .int (nI i)] h (some (.int (if b = true then 1 else 0))) h1 ∧ cX h1 s' a k sh nx ct tx kd fi cn nu nr at_ ln od rf ∧ cF h h1 ∧ sv s' := by
  have B := X.1
  have hn6 : n ≤ 6 := by rw [hn]; exact mostN_le c
  have sw := fun r h' t ht H => cX_switch (r := r) (h' := h') X q0 q1 q2 hi hkd hcn hfi hag hfn hn6 t ht H
  by_cases z1 : c = 101
  · have e : n = 1 := by rw [hn, z1]; rfl
    subst e
    have sw := fun r h' H => sw r h' 100 (by rw [z1]; decide) H
    rw [if_pos (by decide), Nat.add_zero] at sw
    obtain ⟨b, s', h1, w1, w2, w3, w4, w5⟩ := cX_doEntry (x1 := F.getD f 0) (x2 := -1) (x3 := 0) X hv
    refine ⟨b, s', h1, Or.inr ⟨rfl, Or.inl ⟨z1, w1⟩⟩, ?_, w3, w4, w5⟩
    cases b
    · have w2 : xK 149 [.ref 2, .int (F.getD f 0), .int (-1), .int 0] h (some (.int 0)) h1 := w2
      refine sw _ _ (xe_X7_doOrder_100 ?_)
      (repeat (first | (simp only [xb_X7_doOrder_0, xb_X7_doOrder_100, xb_X7_doOrder_108, xb_X7_doOrder_118, xb_X7_doOrder_134, xb_X7_doOrder_148, xb_X7_doOrder_160, xb_X7_doOrder_170, xs_nil, Nat.reduceAdd, true_implies, not_true_eq_false, not_false_eq_true, false_implies, and_true, true_and, x_10, xs_aload_n_0, xs_astore_n_2_i, xs_astore_n_2_a, xs_astore_n_2_n, xs_astore_n_2_l, xs_iload_n_1, xs_iconst_0, xs_istore_n_3_i, xs_istore_n_3_a, xs_istore_n_3_n, xs_istore_n_3_l, xs_iconst_1, xs_istore_4_i, xs_istore_4_a, xs_istore_4_n, xs_istore_4_l, xs_iconst_2, xs_istore_5_i, xs_istore_5_a, xs_istore_5_n, xs_istore_5_l, xs_iconst_3, xs_istore_6_i, xs_istore_6_a, xs_istore_6_n, xs_istore_6_l, xs_iload_n_3, xs_iconst_m1, xs_ireturn, xs_iload_4, xs_iload_5, xs_aload_n_2, xs_iload_6, xs_if_eq, xs_pop_i, xs_pop_a]) | refine xc_v4_1 (w2) (Nat.le_of_ble_eq_true rfl) ?_))
      (first | exact ⟨Or.inl trivial, rfl⟩ | exact ⟨Or.inl trivial, rfl, rfl⟩ | (simp; done) | exact ⟨by simp, rfl⟩ | exact ⟨by simp, rfl, rfl⟩ | rfl)
    · have w2 : xK 149 [.ref 2, .int (F.getD f 0), .int (-1), .int 0] h (some (.int 1)) h1 := w2
      refine sw _ _ (xe_X7_doOrder_100 ?_)
      (repeat (first | (simp only [xb_X7_doOrder_0, xb_X7_doOrder_100, xb_X7_doOrder_108, xb_X7_doOrder_118, xb_X7_doOrder_134, xb_X7_doOrder_148, xb_X7_doOrder_160, xb_X7_doOrder_170, xs_nil, Nat.reduceAdd, true_implies, not_true_eq_false, not_false_eq_true, false_implies, and_true, true_and, x_10, xs_aload_n_0, xs_astore_n_2_i, xs_astore_n_2_a, xs_astore_n_2_n, xs_astore_n_2_l, xs_iload_n_1, xs_iconst_0, xs_istore_n_3_i, xs_istore_n_3_a, xs_istore_n_3_n, xs_istore_n_3_l, xs_iconst_1, xs_istore_4_i, xs_istore_4_a, xs_istore_4_n, xs_istore_4_l, xs_iconst_2, xs_istore_5_i, xs_istore_5_a, xs_istore_5_n, xs_istore_5_l, xs_iconst_3, xs_istore_6_i, xs_istore_6_a, xs_istore_6_n, xs_istore_6_l, xs_iload_n_3, xs_iconst_m1, xs_ireturn, xs_iload_4, xs_iload_5, xs_aload_n_2, xs_iload_6, xs_if_eq, xs_pop_i, xs_pop_a]) | refine xc_v4_1 (w2) (Nat.le_of_ble_eq_true rfl) ?_))
      (first | exact ⟨Or.inl trivial, rfl⟩ | exact ⟨Or.inl trivial, rfl, rfl⟩ | (simp; done) | exact ⟨by simp, rfl⟩ | exact ⟨by simp, rfl, rfl⟩ | rfl)
  by_cases z2 : c = 102
  · have e : n = 3 := by rw [hn, z2]; rfl
    subst e
    have sw := fun r h' H => sw r h' 108 (by rw [z2]; decide) H
    rw [if_pos (by decide), if_pos (by decide), if_pos (by decide), Nat.add_zero] at sw
    obtain ⟨b, s', h1, w1, w2, w3, w4, w5⟩ := cX_doEntry (x1 := F.getD f 0) (x2 := F.getD (f + 1) 0) (x3 := F.getD (f + 2) 0) X hv
    refine ⟨b, s', h1, Or.inr ⟨rfl, Or.inr (Or.inl ⟨z2, w1⟩)⟩, ?_, w3, w4, w5⟩
    cases b
    · have w2 : xK 149 [.ref 2, .int (F.getD f 0), .int (F.getD (f + 1) 0), .int (F.getD (f + 2) 0)] h (some (.int 0)) h1 := w2
      refine sw _ _ (xe_X7_doOrder_108 ?_)
      (repeat (first | (simp only [xb_X7_doOrder_0, xb_X7_doOrder_100, xb_X7_doOrder_108, xb_X7_doOrder_118, xb_X7_doOrder_134, xb_X7_doOrder_148, xb_X7_doOrder_160, xb_X7_doOrder_170, xs_nil, Nat.reduceAdd, true_implies, not_true_eq_false, not_false_eq_true, false_implies, and_true, true_and, x_10, xs_aload_n_0, xs_astore_n_2_i, xs_astore_n_2_a, xs_astore_n_2_n, xs_astore_n_2_l, xs_iload_n_1, xs_iconst_0, xs_istore_n_3_i, xs_istore_n_3_a, xs_istore_n_3_n, xs_istore_n_3_l, xs_iconst_1, xs_istore_4_i, xs_istore_4_a, xs_istore_4_n, xs_istore_4_l, xs_iconst_2, xs_istore_5_i, xs_istore_5_a, xs_istore_5_n, xs_istore_5_l, xs_iconst_3, xs_istore_6_i, xs_istore_6_a, xs_istore_6_n, xs_istore_6_l, xs_iload_n_3, xs_iconst_m1, xs_ireturn, xs_iload_4, xs_iload_5, xs_aload_n_2, xs_iload_6, xs_if_eq, xs_pop_i, xs_pop_a]) | refine xc_v4_1 (w2) (Nat.le_of_ble_eq_true rfl) ?_))
      (first | exact ⟨Or.inl trivial, rfl⟩ | exact ⟨Or.inl trivial, rfl, rfl⟩ | (simp; done) | exact ⟨by simp, rfl⟩ | exact ⟨by simp, rfl, rfl⟩ | rfl)
    · have w2 : xK 149 [.ref 2, .int (F.getD f 0), .int (F.getD (f + 1) 0), .int (F.getD (f + 2) 0)] h (some (.int 1)) h1 := w2
      refine sw _ _ (xe_X7_doOrder_108 ?_)
      (repeat (first | (simp only [xb_X7_doOrder_0, xb_X7_doOrder_100, xb_X7_doOrder_108, xb_X7_doOrder_118, xb_X7_doOrder_134, xb_X7_doOrder_148, xb_X7_doOrder_160, xb_X7_doOrder_170, xs_nil, Nat.reduceAdd, true_implies, not_true_eq_false, not_false_eq_true, false_implies, and_true, true_and, x_10, xs_aload_n_0, xs_astore_n_2_i, xs_astore_n_2_a, xs_astore_n_2_n, xs_astore_n_2_l, xs_iload_n_1, xs_iconst_0, xs_istore_n_3_i, xs_istore_n_3_a, xs_istore_n_3_n, xs_istore_n_3_l, xs_iconst_1, xs_istore_4_i, xs_istore_4_a, xs_istore_4_n, xs_istore_4_l, xs_iconst_2, xs_istore_5_i, xs_istore_5_a, xs_istore_5_n, xs_istore_5_l, xs_iconst_3, xs_istore_6_i, xs_istore_6_a, xs_istore_6_n, xs_istore_6_l, xs_iload_n_3, xs_iconst_m1, xs_ireturn, xs_iload_4, xs_iload_5, xs_aload_n_2, xs_iload_6, xs_if_eq, xs_pop_i, xs_pop_a]) | refine xc_v4_1 (w2) (Nat.le_of_ble_eq_true rfl) ?_))
      (first | exact ⟨Or.inl trivial, rfl⟩ | exact ⟨Or.inl trivial, rfl, rfl⟩ | (simp; done) | exact ⟨by simp, rfl⟩ | exact ⟨by simp, rfl, rfl⟩ | rfl)
  by_cases z3 : c = 114
  · have e : n = 4 := by rw [hn, z3]; rfl
    subst e
    have sw := fun r h' H => sw r h' 118 (by rw [z3]; decide) H
    rw [if_pos (by decide), if_pos (by decide), if_pos (by decide), if_pos (by decide), Nat.add_zero] at sw
    generalize e1 : F.getD f 0 = x1 at sw
    generalize e2 : F.getD (f + 1) 0 = x2 at sw
    generalize e3 : F.getD (f + 2) 0 = x3 at sw
    generalize e4 : F.getD (f + 3) 0 = x4 at sw
    have c1 := c_whyNoPrice (x1 := x1) (x2 := x2) (x3 := x3) (x4 := x4) (x_tc_g B.hs)
    by_cases hc : ((0 ≤ x1 ∧ x1 < 6) ∧ (0 ≤ x2 ∧ x2 < 6) ∧ 0 ≤ x3 ∧ x3 < 2) ∧ -1 ≤ x4 ∧ x4 ≤ 9
    · obtain ⟨⟨⟨a1, a2⟩, ⟨b1, b2⟩, d1, d2⟩, v1, v2⟩ := id hc
      rw [if_pos hc] at c1
      obtain ⟨p, hp, rfl⟩ := nI_rng (n := 6) rfl (by decide) a1 a2
      obtain ⟨q, hq, rfl⟩ := nI_rng (n := 6) rfl (by decide) b1 b2
      obtain ⟨d, hd, rfl⟩ := nI_rng (n := 2) rfl (by decide) d1 d2
      have ei : (nI p * 6 + nI q) * 2 + nI d = nI (12 * p + 2 * q + d) := by
        rw [show (6 : Int32) = nI 6 from rfl, show (2 : Int32) = nI 2 from rfl, pk_mul, nI_add, pk_mul, nI_add]
        congr 1
        omega
      have c2 := c_putPrice (x1 := nI p) (x2 := nI q) (x3 := nI d) (x4 := x4) (x_tc_g B.hs) (by decide) (by rw [ei, hv.lP]; exact x_in (by omega) (by decide))
      rw [ei, xu_n (by omega), xg_n (by omega), x_tc_gw B.hs] at c2
      obtain ⟨B2, F2⟩ := X.now (sprc s (12 * p + 2 * q + d) x4)
      refine ⟨true, _, _, Or.inr ⟨rfl, Or.inr (Or.inr (Or.inl ⟨z3, Or.inl ⟨rfl, p, q, d, hp, hq, hd, e1, e2, e3, by rw [e4]; exact v1, by rw [e4]; exact v2, by rw [e4]⟩⟩))⟩, ?_, B2, F2, sv_prc hv (by omega) (price_of v1 v2)⟩
      refine sw _ _ (xe_X7_doOrder_118 ?_)
      (repeat (first | (simp only [xb_X7_doOrder_0, xb_X7_doOrder_100, xb_X7_doOrder_108, xb_X7_doOrder_118, xb_X7_doOrder_134, xb_X7_doOrder_148, xb_X7_doOrder_160, xb_X7_doOrder_170, xs_nil, Nat.reduceAdd, true_implies, not_true_eq_false, not_false_eq_true, false_implies, and_true, true_and, x_10, xs_aload_n_0, xs_astore_n_2_i, xs_astore_n_2_a, xs_astore_n_2_n, xs_astore_n_2_l, xs_iload_n_1, xs_iconst_0, xs_istore_n_3_i, xs_istore_n_3_a, xs_istore_n_3_n, xs_istore_n_3_l, xs_iconst_1, xs_istore_4_i, xs_istore_4_a, xs_istore_4_n, xs_istore_4_l, xs_iconst_2, xs_istore_5_i, xs_istore_5_a, xs_istore_5_n, xs_istore_5_l, xs_iconst_3, xs_istore_6_i, xs_istore_6_a, xs_istore_6_n, xs_istore_6_l, xs_iload_n_3, xs_iconst_m1, xs_ireturn, xs_iload_4, xs_iload_5, xs_aload_n_2, xs_iload_6, xs_if_eq, xs_pop_i, xs_pop_a]) | refine xc_v5_1 (c1) (Nat.le_of_ble_eq_true rfl) ?_))
      refine xe_X7_doOrder_134 ?_
      (repeat (first | (simp only [xb_X7_doOrder_0, xb_X7_doOrder_100, xb_X7_doOrder_108, xb_X7_doOrder_118, xb_X7_doOrder_134, xb_X7_doOrder_148, xb_X7_doOrder_160, xb_X7_doOrder_170, xs_nil, Nat.reduceAdd, true_implies, not_true_eq_false, not_false_eq_true, false_implies, and_true, true_and, x_10, xs_aload_n_0, xs_astore_n_2_i, xs_astore_n_2_a, xs_astore_n_2_n, xs_astore_n_2_l, xs_iload_n_1, xs_iconst_0, xs_istore_n_3_i, xs_istore_n_3_a, xs_istore_n_3_n, xs_istore_n_3_l, xs_iconst_1, xs_istore_4_i, xs_istore_4_a, xs_istore_4_n, xs_istore_4_l, xs_iconst_2, xs_istore_5_i, xs_istore_5_a, xs_istore_5_n, xs_istore_5_l, xs_iconst_3, xs_istore_6_i, xs_istore_6_a, xs_istore_6_n, xs_istore_6_l, xs_iload_n_3, xs_iconst_m1, xs_ireturn, xs_iload_4, xs_iload_5, xs_aload_n_2, xs_iload_6, xs_if_eq, xs_pop_i, xs_pop_a]) | refine xc_v5_1 (c2) (Nat.le_of_ble_eq_true rfl) ?_))
      (first | exact ⟨Or.inl trivial, rfl⟩ | exact ⟨Or.inl trivial, rfl, rfl⟩ | (simp; done) | exact ⟨by simp, rfl⟩ | exact ⟨by simp, rfl, rfl⟩ | rfl)
    · rw [if_neg hc] at c1
      refine ⟨false, s, h, Or.inr ⟨rfl, Or.inr (Or.inr (Or.inl ⟨z3, Or.inr ⟨rfl, by rw [e1, e2, e3, e4]; exact hc, rfl⟩⟩))⟩, ?_, X, cF.refl h, hv⟩
      refine sw _ _ (xe_X7_doOrder_118 ?_)
      (repeat (first | (simp only [xb_X7_doOrder_0, xb_X7_doOrder_100, xb_X7_doOrder_108, xb_X7_doOrder_118, xb_X7_doOrder_134, xb_X7_doOrder_148, xb_X7_doOrder_160, xb_X7_doOrder_170, xs_nil, Nat.reduceAdd, true_implies, not_true_eq_false, not_false_eq_true, false_implies, and_true, true_and, x_10, xs_aload_n_0, xs_astore_n_2_i, xs_astore_n_2_a, xs_astore_n_2_n, xs_astore_n_2_l, xs_iload_n_1, xs_iconst_0, xs_istore_n_3_i, xs_istore_n_3_a, xs_istore_n_3_n, xs_istore_n_3_l, xs_iconst_1, xs_istore_4_i, xs_istore_4_a, xs_istore_4_n, xs_istore_4_l, xs_iconst_2, xs_istore_5_i, xs_istore_5_a, xs_istore_5_n, xs_istore_5_l, xs_iconst_3, xs_istore_6_i, xs_istore_6_a, xs_istore_6_n, xs_istore_6_l, xs_iload_n_3, xs_iconst_m1, xs_ireturn, xs_iload_4, xs_iload_5, xs_aload_n_2, xs_iload_6, xs_if_eq, xs_pop_i, xs_pop_a]) | refine xc_v5_1 (c1) (Nat.le_of_ble_eq_true rfl) ?_))
      refine ⟨fun z => absurd z (by decide), fun _ => ?_⟩
      (repeat (first | (simp only [xb_X7_doOrder_0, xb_X7_doOrder_100, xb_X7_doOrder_108, xb_X7_doOrder_118, xb_X7_doOrder_134, xb_X7_doOrder_148, xb_X7_doOrder_160, xb_X7_doOrder_170, xs_nil, Nat.reduceAdd, true_implies, not_true_eq_false, not_false_eq_true, false_implies, and_true, true_and, x_10, xs_aload_n_0, xs_astore_n_2_i, xs_astore_n_2_a, xs_astore_n_2_n, xs_astore_n_2_l, xs_iload_n_1, xs_iconst_0, xs_istore_n_3_i, xs_istore_n_3_a, xs_istore_n_3_n, xs_istore_n_3_l, xs_iconst_1, xs_istore_4_i, xs_istore_4_a, xs_istore_4_n, xs_istore_4_l, xs_iconst_2, xs_istore_5_i, xs_istore_5_a, xs_istore_5_n, xs_istore_5_l, xs_iconst_3, xs_istore_6_i, xs_istore_6_a, xs_istore_6_n, xs_istore_6_l, xs_iload_n_3, xs_iconst_m1, xs_ireturn, xs_iload_4, xs_iload_5, xs_aload_n_2, xs_iload_6, xs_if_eq, xs_pop_i, xs_pop_a]) ))
      (first | exact ⟨Or.inl trivial, rfl⟩ | exact ⟨Or.inl trivial, rfl, rfl⟩ | (simp; done) | exact ⟨by simp, rfl⟩ | exact ⟨by simp, rfl, rfl⟩ | rfl)
  by_cases z4 : c = 111
  · have e : n = 2 := by rw [hn, z4]; rfl
    subst e
    have sw := fun r h' H => sw r h' 148 (by rw [z4]; decide) H
    rw [if_pos (by decide), if_pos (by decide), Nat.add_zero] at sw
    generalize e1 : F.getD f 0 = x1 at sw
    generalize e2 : F.getD (f + 1) 0 = x2 at sw
    have c1 := c_whyNoRootPrice (x1 := x1) (x2 := x2) (x_tc_g B.hs)
    by_cases hc : (0 ≤ x1 ∧ x1 < 6) ∧ -1 ≤ x2 ∧ x2 ≤ 9
    · obtain ⟨⟨a1, a2⟩, v1, v2⟩ := id hc
      rw [if_pos hc] at c1
      obtain ⟨p, hp, rfl⟩ := nI_rng (n := 6) rfl (by decide) a1 a2
      have c2 := c_putRootPrice (x1 := nI p) (x2 := x2) (x_tc_g B.hs) (by decide) (by rw [hv.lR]; exact x_in (by omega) (by decide))
      rw [xu_n (by omega), xg_n (by omega), x_tc_gw B.hs] at c2
      obtain ⟨B2, F2⟩ := X.now (srtp s p x2)
      refine ⟨true, _, _, Or.inr ⟨rfl, Or.inr (Or.inr (Or.inr ⟨z4, Or.inl ⟨rfl, p, hp, e1, by rw [e2]; exact v1, by rw [e2]; exact v2, by rw [e2]⟩⟩))⟩, ?_, B2, F2, sv_rtp hv (by omega) (price_of v1 v2)⟩
      refine sw _ _ (xe_X7_doOrder_148 ?_)
      (repeat (first | (simp only [xb_X7_doOrder_0, xb_X7_doOrder_100, xb_X7_doOrder_108, xb_X7_doOrder_118, xb_X7_doOrder_134, xb_X7_doOrder_148, xb_X7_doOrder_160, xb_X7_doOrder_170, xs_nil, Nat.reduceAdd, true_implies, not_true_eq_false, not_false_eq_true, false_implies, and_true, true_and, x_10, xs_aload_n_0, xs_astore_n_2_i, xs_astore_n_2_a, xs_astore_n_2_n, xs_astore_n_2_l, xs_iload_n_1, xs_iconst_0, xs_istore_n_3_i, xs_istore_n_3_a, xs_istore_n_3_n, xs_istore_n_3_l, xs_iconst_1, xs_istore_4_i, xs_istore_4_a, xs_istore_4_n, xs_istore_4_l, xs_iconst_2, xs_istore_5_i, xs_istore_5_a, xs_istore_5_n, xs_istore_5_l, xs_iconst_3, xs_istore_6_i, xs_istore_6_a, xs_istore_6_n, xs_istore_6_l, xs_iload_n_3, xs_iconst_m1, xs_ireturn, xs_iload_4, xs_iload_5, xs_aload_n_2, xs_iload_6, xs_if_eq, xs_pop_i, xs_pop_a]) | refine xc_v3_1 (c1) (Nat.le_of_ble_eq_true rfl) ?_))
      refine xe_X7_doOrder_160 ?_
      (repeat (first | (simp only [xb_X7_doOrder_0, xb_X7_doOrder_100, xb_X7_doOrder_108, xb_X7_doOrder_118, xb_X7_doOrder_134, xb_X7_doOrder_148, xb_X7_doOrder_160, xb_X7_doOrder_170, xs_nil, Nat.reduceAdd, true_implies, not_true_eq_false, not_false_eq_true, false_implies, and_true, true_and, x_10, xs_aload_n_0, xs_astore_n_2_i, xs_astore_n_2_a, xs_astore_n_2_n, xs_astore_n_2_l, xs_iload_n_1, xs_iconst_0, xs_istore_n_3_i, xs_istore_n_3_a, xs_istore_n_3_n, xs_istore_n_3_l, xs_iconst_1, xs_istore_4_i, xs_istore_4_a, xs_istore_4_n, xs_istore_4_l, xs_iconst_2, xs_istore_5_i, xs_istore_5_a, xs_istore_5_n, xs_istore_5_l, xs_iconst_3, xs_istore_6_i, xs_istore_6_a, xs_istore_6_n, xs_istore_6_l, xs_iload_n_3, xs_iconst_m1, xs_ireturn, xs_iload_4, xs_iload_5, xs_aload_n_2, xs_iload_6, xs_if_eq, xs_pop_i, xs_pop_a]) | refine xc_v3_1 (c2) (Nat.le_of_ble_eq_true rfl) ?_))
      (first | exact ⟨Or.inl trivial, rfl⟩ | exact ⟨Or.inl trivial, rfl, rfl⟩ | (simp; done) | exact ⟨by simp, rfl⟩ | exact ⟨by simp, rfl, rfl⟩ | rfl)
    · rw [if_neg hc] at c1
      refine ⟨false, s, h, Or.inr ⟨rfl, Or.inr (Or.inr (Or.inr ⟨z4, Or.inr ⟨rfl, by rw [e1, e2]; exact hc, rfl⟩⟩))⟩, ?_, X, cF.refl h, hv⟩
      refine sw _ _ (xe_X7_doOrder_148 ?_)
      (repeat (first | (simp only [xb_X7_doOrder_0, xb_X7_doOrder_100, xb_X7_doOrder_108, xb_X7_doOrder_118, xb_X7_doOrder_134, xb_X7_doOrder_148, xb_X7_doOrder_160, xb_X7_doOrder_170, xs_nil, Nat.reduceAdd, true_implies, not_true_eq_false, not_false_eq_true, false_implies, and_true, true_and, x_10, xs_aload_n_0, xs_astore_n_2_i, xs_astore_n_2_a, xs_astore_n_2_n, xs_astore_n_2_l, xs_iload_n_1, xs_iconst_0, xs_istore_n_3_i, xs_istore_n_3_a, xs_istore_n_3_n, xs_istore_n_3_l, xs_iconst_1, xs_istore_4_i, xs_istore_4_a, xs_istore_4_n, xs_istore_4_l, xs_iconst_2, xs_istore_5_i, xs_istore_5_a, xs_istore_5_n, xs_istore_5_l, xs_iconst_3, xs_istore_6_i, xs_istore_6_a, xs_istore_6_n, xs_istore_6_l, xs_iload_n_3, xs_iconst_m1, xs_ireturn, xs_iload_4, xs_iload_5, xs_aload_n_2, xs_iload_6, xs_if_eq, xs_pop_i, xs_pop_a]) | refine xc_v3_1 (c1) (Nat.le_of_ble_eq_true rfl) ?_))
      refine ⟨fun z => absurd z (by decide), fun _ => ?_⟩
      (repeat (first | (simp only [xb_X7_doOrder_0, xb_X7_doOrder_100, xb_X7_doOrder_108, xb_X7_doOrder_118, xb_X7_doOrder_134, xb_X7_doOrder_148, xb_X7_doOrder_160, xb_X7_doOrder_170, xs_nil, Nat.reduceAdd, true_implies, not_true_eq_false, not_false_eq_true, false_implies, and_true, true_and, x_10, xs_aload_n_0, xs_astore_n_2_i, xs_astore_n_2_a, xs_astore_n_2_n, xs_astore_n_2_l, xs_iload_n_1, xs_iconst_0, xs_istore_n_3_i, xs_istore_n_3_a, xs_istore_n_3_n, xs_istore_n_3_l, xs_iconst_1, xs_istore_4_i, xs_istore_4_a, xs_istore_4_n, xs_istore_4_l, xs_iconst_2, xs_istore_5_i, xs_istore_5_a, xs_istore_5_n, xs_istore_5_l, xs_iconst_3, xs_istore_6_i, xs_istore_6_a, xs_istore_6_n, xs_istore_6_l, xs_iload_n_3, xs_iconst_m1, xs_ireturn, xs_iload_4, xs_iload_5, xs_aload_n_2, xs_iload_6, xs_if_eq, xs_pop_i, xs_pop_a]) ))
      (first | exact ⟨Or.inl trivial, rfl⟩ | exact ⟨Or.inl trivial, rfl, rfl⟩ | (simp; done) | exact ⟨by simp, rfl⟩ | exact ⟨by simp, rfl, rfl⟩ | rfl)
  · exact absurd (by unfold mostN; rw [if_neg z1, if_neg z2, if_neg z4, if_neg z3, if_neg hw]) hm
end CZ
