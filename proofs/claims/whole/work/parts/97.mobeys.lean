/-! the reference obeys an order -/
section MO2
variable {nw asd pa rf tx le fr nu F : List Int32} {sts byt od : Int32} {s s' : kS} {k k' : kC} {b : Bool} {x1 x2 x3 x4 c : Int32}
theorem mX_prices1 {h : xH} {p : Nat} {v : Int32} (M : mX h nw asd pa sts rf tx byt le fr nu od) (ln : nw.length = 149) (hp : p < 149) (h1 : -1 ≤ v) (h9 : v ≤ 9) : ∃ h1, xK 161 [.ref 122, .int (nI p), .int 1, .int v] h (some (.int 1)) h1 ∧ mX h1 (nw.set p v) asd pa sts rf tx byt le fr nu od ∧ mF h h1 := by
  obtain ⟨hs, rd, so, ah, ar, tr, bg, fo, bc, br, bk, sp, wr, ha, hz, hb⟩ := M
  have A := xA.of hb (Nat.zero_lt_succ _)
  obtain ⟨M1, F1⟩ := mX_A (nw := nw.set p v) hz (A.on rfl)
  refine ⟨_, ?_, M1, F1⟩
  have A1 := A.on (cs2 := (x_mc 122 (nw.set p v) asd pa sts rf tx byt (hs.map nI) rd so ah ar tr bg fo bc br bk le fr nu od sp wr ha)) rfl
  have c1 := fun h => c_isPrice (x1 := v) (h := h)
  rw [if_pos ⟨h1, h9⟩] at c1
  refine xK_X8_prices (hb 0 _ rfl) (xe_X8_prices_0 ?_)
  (repeat (first | (simp only [xb_X8_prices_0, xb_X8_prices_18, xb_X8_prices_33, xb_X8_prices_34, xs_nil, Nat.reduceAdd, true_implies, not_true_eq_false, not_false_eq_true, false_implies, and_true, true_and, x_10, xs_iload_n_2, xs_if_eq, xs_iload_n_3, xs_aload_n_0, xs_iload_n_1, xs_iconst_1, xs_goto, xs_iconst_0, xs_ireturn]) | refine xc_s1_1 (by decide) (c1 _) (Nat.le_of_ble_eq_true rfl) ?_ | (refine xr_getf (hb 0 _ rfl) (by rfl) ?_)))
  refine xa_iastore A 1 (by rfl) (by decide) (x_in (by rw [ln]; omega) (by rw [ln]; decide)) (fun h4 A4 => ?_)
  rw [xu_n (by omega)] at A4
  have e4 : x_wr h 122 (x_mc 122 (nw.set p v) asd pa sts rf tx byt (hs.map nI) rd so ah ar tr bg fo bc br bk le fr nu od sp wr ha) = h4 := A4.e
  rw [e4]
  (repeat (first | (simp only [xb_X8_prices_0, xb_X8_prices_18, xb_X8_prices_33, xb_X8_prices_34, xs_nil, Nat.reduceAdd, true_implies, not_true_eq_false, not_false_eq_true, false_implies, and_true, true_and, x_10, xs_iload_n_2, xs_if_eq, xs_iload_n_3, xs_aload_n_0, xs_iload_n_1, xs_iconst_1, xs_goto, xs_iconst_0, xs_ireturn]) ))
  refine xe_X8_prices_18 ?_
  (repeat (first | (simp only [xb_X8_prices_0, xb_X8_prices_18, xb_X8_prices_33, xb_X8_prices_34, xs_nil, Nat.reduceAdd, true_implies, not_true_eq_false, not_false_eq_true, false_implies, and_true, true_and, x_10, xs_iload_n_2, xs_if_eq, xs_iload_n_3, xs_aload_n_0, xs_iload_n_1, xs_iconst_1, xs_goto, xs_iconst_0, xs_ireturn]) | refine xc_s1_1 (by decide) (c1 _) (Nat.le_of_ble_eq_true rfl) ?_))
  refine xe_X8_prices_34 ?_
  (repeat (first | (simp only [xb_X8_prices_0, xb_X8_prices_18, xb_X8_prices_33, xb_X8_prices_34, xs_nil, Nat.reduceAdd, true_implies, not_true_eq_false, not_false_eq_true, false_implies, and_true, true_and, x_10, xs_iload_n_2, xs_if_eq, xs_iload_n_3, xs_aload_n_0, xs_iload_n_1, xs_iconst_1, xs_goto, xs_iconst_0, xs_ireturn]) ))
  (first | exact ⟨Or.inl trivial, rfl⟩ | exact ⟨Or.inl trivial, rfl, rfl⟩ | (simp; done) | exact ⟨by simp, rfl⟩ | exact ⟨by simp, rfl, rfl⟩ | rfl)
theorem mX_prices0 {h : xH} {at_ is v : Int32} (M : mX h nw asd pa sts rf tx byt le fr nu od) (hbad : is = 0 ∨ (is = 1 ∧ ¬ (-1 ≤ v ∧ v ≤ 9))) : xK 161 [.ref 122, .int at_, .int is, .int v] h (some (.int 0)) h := by
  obtain ⟨hs, rd, so, ah, ar, tr, bg, fo, bc, br, bk, sp, wr, ha, hz, hb⟩ := M
  have c1 := c_isPrice (x1 := v) (h := h)
  rcases hbad with rfl | ⟨rfl, hv⟩
  · refine xK_X8_prices (hb 0 _ rfl) (xe_X8_prices_0 ?_)
    (repeat (first | (simp only [xb_X8_prices_0, xb_X8_prices_18, xb_X8_prices_33, xb_X8_prices_34, xs_nil, Nat.reduceAdd, true_implies, not_true_eq_false, not_false_eq_true, false_implies, and_true, true_and, x_10, xs_iload_n_2, xs_if_eq, xs_iload_n_3, xs_aload_n_0, xs_iload_n_1, xs_iconst_1, xs_goto, xs_iconst_0, xs_ireturn]) ))
    refine xe_X8_prices_18 ?_
    (repeat (first | (simp only [xb_X8_prices_0, xb_X8_prices_18, xb_X8_prices_33, xb_X8_prices_34, xs_nil, Nat.reduceAdd, true_implies, not_true_eq_false, not_false_eq_true, false_implies, and_true, true_and, x_10, xs_iload_n_2, xs_if_eq, xs_iload_n_3, xs_aload_n_0, xs_iload_n_1, xs_iconst_1, xs_goto, xs_iconst_0, xs_ireturn]) ))
    refine xe_X8_prices_33 ?_
    (repeat (first | (simp only [xb_X8_prices_0, xb_X8_prices_18, xb_X8_prices_33, xb_X8_prices_34, xs_nil, Nat.reduceAdd, true_implies, not_true_eq_false, not_false_eq_true, false_implies, and_true, true_and, x_10, xs_iload_n_2, xs_if_eq, xs_iload_n_3, xs_aload_n_0, xs_iload_n_1, xs_iconst_1, xs_goto, xs_iconst_0, xs_ireturn]) ))
    refine xe_X8_prices_34 ?_
    (repeat (first | (simp only [xb_X8_prices_0, xb_X8_prices_18, xb_X8_prices_33, xb_X8_prices_34, xs_nil, Nat.reduceAdd, true_implies, not_true_eq_false, not_false_eq_true, false_implies, and_true, true_and, x_10, xs_iload_n_2, xs_if_eq, xs_iload_n_3, xs_aload_n_0, xs_iload_n_1, xs_iconst_1, xs_goto, xs_iconst_0, xs_ireturn]) ))
    (first | exact ⟨Or.inl trivial, rfl⟩ | exact ⟨Or.inl trivial, rfl, rfl⟩ | (simp; done) | exact ⟨by simp, rfl⟩ | exact ⟨by simp, rfl, rfl⟩ | rfl)
  · rw [if_neg hv] at c1
    refine xK_X8_prices (hb 0 _ rfl) (xe_X8_prices_0 ?_)
    (repeat (first | (simp only [xb_X8_prices_0, xb_X8_prices_18, xb_X8_prices_33, xb_X8_prices_34, xs_nil, Nat.reduceAdd, true_implies, not_true_eq_false, not_false_eq_true, false_implies, and_true, true_and, x_10, xs_iload_n_2, xs_if_eq, xs_iload_n_3, xs_aload_n_0, xs_iload_n_1, xs_iconst_1, xs_goto, xs_iconst_0, xs_ireturn]) | refine xc_s1_1 (by decide) (c1) (Nat.le_of_ble_eq_true rfl) ?_))
    refine xe_X8_prices_18 ?_
    (repeat (first | (simp only [xb_X8_prices_0, xb_X8_prices_18, xb_X8_prices_33, xb_X8_prices_34, xs_nil, Nat.reduceAdd, true_implies, not_true_eq_false, not_false_eq_true, false_implies, and_true, true_and, x_10, xs_iload_n_2, xs_if_eq, xs_iload_n_3, xs_aload_n_0, xs_iload_n_1, xs_iconst_1, xs_goto, xs_iconst_0, xs_ireturn]) | refine xc_s1_1 (by decide) (c1) (Nat.le_of_ble_eq_true rfl) ?_))
    refine xe_X8_prices_33 ?_
    (repeat (first | (simp only [xb_X8_prices_0, xb_X8_prices_18, xb_X8_prices_33, xb_X8_prices_34, xs_nil, Nat.reduceAdd, true_implies, not_true_eq_false, not_false_eq_true, false_implies, and_true, true_and, x_10, xs_iload_n_2, xs_if_eq, xs_iload_n_3, xs_aload_n_0, xs_iload_n_1, xs_iconst_1, xs_goto, xs_iconst_0, xs_ireturn]) ))
    refine xe_X8_prices_34 ?_
    (repeat (first | (simp only [xb_X8_prices_0, xb_X8_prices_18, xb_X8_prices_33, xb_X8_prices_34, xs_nil, Nat.reduceAdd, true_implies, not_true_eq_false, not_false_eq_true, false_implies, and_true, true_and, x_10, xs_iload_n_2, xs_if_eq, xs_iload_n_3, xs_aload_n_0, xs_iload_n_1, xs_iconst_1, xs_goto, xs_iconst_0, xs_ireturn]) ))
    (first | exact ⟨Or.inl trivial, rfl⟩ | exact ⟨Or.inl trivial, rfl, rfl⟩ | (simp; done) | exact ⟨by simp, rfl⟩ | exact ⟨by simp, rfl, rfl⟩ | rfl)
theorem l_listensAll {i e : Nat} (hi : i < 40) (hfl : fr.length = 41) (hfe : fr.getD (i + 1) 0 = nI e) (hag : agr nu F) (he : e ≤ F.length) : ∀ (d f : Nat) (s : kS) (k : kC) (nw : List Int32) (h : xH), mX h nw asd pa sts rf tx byt le fr nu od → Rl s nw → kcok k → ch0 k.2.1 → f + d = e → oW F d f s k b s' k' → ∃ nw' h1, mX h1 nw' asd pa sts rf tx byt le fr nu od ∧ mF h h1 ∧ Rl s' nw' ∧ kcok k' ∧ ch0 k'.2.1 ∧ x_EV 162 7 [some (.ref 122), some (.int (nI i)), some (.int (nI f))] [] h (some (.int (if b = true then 1 else 0))) h1 := by
  intro d
  have hF := hag.2.1
  have ei : nI i + 1 = nI (i + 1) := nI_1 i
  induction d with
  | zero =>
    intro f s k nw h M hR hk h0 hf S
    obtain ⟨rfl, rfl, rfl⟩ := S
    refine ⟨nw, h, M, mF.refl h, hR, hk, h0, ?_⟩
    obtain ⟨hs, rd, so, ah, ar, tr, bg, fo, bc, br, bk, sp, wr, ha, hz, hb⟩ := M
    refine xe_X8_listensAll_7 ?_
    (repeat (first | (simp only [xb_X8_listensAll_0, xb_X8_listensAll_7, xb_X8_listensAll_44, xb_X8_listensAll_46, xb_X8_listensAll_62, xs_nil, Nat.reduceAdd, true_implies, not_true_eq_false, not_false_eq_true, false_implies, and_true, true_and, x_10, xs_aload_n_0, xs_iload_n_1, xs_istore_n_2_i, xs_istore_n_2_a, xs_istore_n_2_n, xs_istore_n_2_l, xs_iload_n_2, xs_iconst_1, xs_iadd, xs_icmp_ge, xs_if_eq, xs_bipush_118, xs_bipush_6, xs_icmp_ne, xs_iconst_0, xs_ireturn, xs_iinc_2_1_i, xs_iinc_2_1_a, xs_iinc_2_1_n, xs_goto]) | (refine xr_getf (hb 0 _ rfl) (by rfl) ?_) | (rw [ei]) | (refine xr_iaload (hb 14 _ rfl) (x_in (by rw [hfl]; omega) (by rw [hfl]; decide)) ?_)))
    rw [xg_n (by omega), hfe]
    refine ⟨fun _ => ?_, fun z => absurd (nI_le (by omega) (by omega)) z⟩
    refine xe_X8_listensAll_62 ?_
    (repeat (first | (simp only [xb_X8_listensAll_0, xb_X8_listensAll_7, xb_X8_listensAll_44, xb_X8_listensAll_46, xb_X8_listensAll_62, xs_nil, Nat.reduceAdd, true_implies, not_true_eq_false, not_false_eq_true, false_implies, and_true, true_and, x_10, xs_aload_n_0, xs_iload_n_1, xs_istore_n_2_i, xs_istore_n_2_a, xs_istore_n_2_n, xs_istore_n_2_l, xs_iload_n_2, xs_iconst_1, xs_iadd, xs_icmp_ge, xs_if_eq, xs_bipush_118, xs_bipush_6, xs_icmp_ne, xs_iconst_0, xs_ireturn, xs_iinc_2_1_i, xs_iinc_2_1_a, xs_iinc_2_1_n, xs_goto]) ))
    (first | exact ⟨Or.inl trivial, rfl⟩ | exact ⟨Or.inl trivial, rfl, rfl⟩ | (simp; done) | exact ⟨by simp, rfl⟩ | exact ⟨by simp, rfl, rfl⟩ | rfl)
  | succ d ih =>
    intro f s k nw h M hR hk h0 hf S
    have ln := hR.2.1.1
    have he2 := hR.e78
    have e118 := hR.e118
    have hne := hR.1.ne
    have h6 := hR.1.n6
    have hx : nu.getD f 0 = F.getD f 0 := hag.2.2 _ (by omega)
    have lead : ∀ (r : Option Value) (h' : xH), ((0 ≤ F.getD f 0 ∧ F.getD f 0 < nI (sne s)) ∧ sn s < 6 → x_EV 162 46 [some (.ref 122), some (.int (nI i)), some (.int (nI f))] [] h r h') → (¬ ((0 ≤ F.getD f 0 ∧ F.getD f 0 < nI (sne s)) ∧ sn s < 6) → r = some (.int 0) ∧ h' = h) → x_EV 162 7 [some (.ref 122), some (.int (nI i)), some (.int (nI f))] [] h r h' := by
      intro r h' H1 H0
      obtain ⟨hs, rd, so, ah, ar, tr, bg, fo, bc, br, bk, sp, wr, ha, hz, hb⟩ := M
      have c1 := c_isEntry (x1 := F.getD f 0) hb (by rw [ln]; exact x_in (k := 78) (by decide) (by decide))
      rw [he2, ite_iff (le_pred hne)] at c1
      have z44 : ¬ ((0 ≤ F.getD f 0 ∧ F.getD f 0 < nI (sne s)) ∧ sn s < 6) → x_EV 162 44 [some (.ref 122), some (.int (nI i)), some (.int (nI f))] [] h r h' := by
        intro z
        obtain ⟨e1, e2⟩ := H0 z
        subst e1 e2
        refine xe_X8_listensAll_44 ?_
        (repeat (first | (simp only [xb_X8_listensAll_0, xb_X8_listensAll_7, xb_X8_listensAll_44, xb_X8_listensAll_46, xb_X8_listensAll_62, xs_nil, Nat.reduceAdd, true_implies, not_true_eq_false, not_false_eq_true, false_implies, and_true, true_and, x_10, xs_aload_n_0, xs_iload_n_1, xs_istore_n_2_i, xs_istore_n_2_a, xs_istore_n_2_n, xs_istore_n_2_l, xs_iload_n_2, xs_iconst_1, xs_iadd, xs_icmp_ge, xs_if_eq, xs_bipush_118, xs_bipush_6, xs_icmp_ne, xs_iconst_0, xs_ireturn, xs_iinc_2_1_i, xs_iinc_2_1_a, xs_iinc_2_1_n, xs_goto]) ))
        (first | exact ⟨Or.inl trivial, rfl⟩ | exact ⟨Or.inl trivial, rfl, rfl⟩ | (simp; done) | exact ⟨by simp, rfl⟩ | exact ⟨by simp, rfl, rfl⟩ | rfl)
      refine xe_X8_listensAll_7 ?_
      (repeat (first | (simp only [xb_X8_listensAll_0, xb_X8_listensAll_7, xb_X8_listensAll_44, xb_X8_listensAll_46, xb_X8_listensAll_62, xs_nil, Nat.reduceAdd, true_implies, not_true_eq_false, not_false_eq_true, false_implies, and_true, true_and, x_10, xs_aload_n_0, xs_iload_n_1, xs_istore_n_2_i, xs_istore_n_2_a, xs_istore_n_2_n, xs_istore_n_2_l, xs_iload_n_2, xs_iconst_1, xs_iadd, xs_icmp_ge, xs_if_eq, xs_bipush_118, xs_bipush_6, xs_icmp_ne, xs_iconst_0, xs_ireturn, xs_iinc_2_1_i, xs_iinc_2_1_a, xs_iinc_2_1_n, xs_goto]) | (refine xr_getf (hb 0 _ rfl) (by rfl) ?_) | (rw [ei]) | (refine xr_iaload (hb 14 _ rfl) (x_in (by rw [hfl]; omega) (by rw [hfl]; decide)) ?_)))
      rw [xg_n (by omega), hfe]
      refine ⟨fun z => absurd z (nI_ge (by omega) (by omega)), fun _ => ?_⟩
      (repeat (first | (simp only [xb_X8_listensAll_0, xb_X8_listensAll_7, xb_X8_listensAll_44, xb_X8_listensAll_46, xb_X8_listensAll_62, xs_nil, Nat.reduceAdd, true_implies, not_true_eq_false, not_false_eq_true, false_implies, and_true, true_and, x_10, xs_aload_n_0, xs_iload_n_1, xs_istore_n_2_i, xs_istore_n_2_a, xs_istore_n_2_n, xs_istore_n_2_l, xs_iload_n_2, xs_iconst_1, xs_iadd, xs_icmp_ge, xs_if_eq, xs_bipush_118, xs_bipush_6, xs_icmp_ne, xs_iconst_0, xs_ireturn, xs_iinc_2_1_i, xs_iinc_2_1_a, xs_iinc_2_1_n, xs_goto]) | (refine xr_getf (hb 0 _ rfl) (by rfl) ?_) | (refine xr_iaload (hb 15 _ rfl) (x_in (by rw [hag.1]; omega) (by rw [hag.1]; decide)) ?_)))
      rw [xg_n (by omega), hx]
      (repeat (first | (simp only [xb_X8_listensAll_0, xb_X8_listensAll_7, xb_X8_listensAll_44, xb_X8_listensAll_46, xb_X8_listensAll_62, xs_nil, Nat.reduceAdd, true_implies, not_true_eq_false, not_false_eq_true, false_implies, and_true, true_and, x_10, xs_aload_n_0, xs_iload_n_1, xs_istore_n_2_i, xs_istore_n_2_a, xs_istore_n_2_n, xs_istore_n_2_l, xs_iload_n_2, xs_iconst_1, xs_iadd, xs_icmp_ge, xs_if_eq, xs_bipush_118, xs_bipush_6, xs_icmp_ne, xs_iconst_0, xs_ireturn, xs_iinc_2_1_i, xs_iinc_2_1_a, xs_iinc_2_1_n, xs_goto]) | refine xc_v2_1 (c1) (Nat.le_of_ble_eq_true rfl) ?_))
      by_cases hc : 0 ≤ F.getD f 0 ∧ F.getD f 0 < nI (sne s)
      · rw [if_pos hc]
        (repeat (first | (simp only [xb_X8_listensAll_0, xb_X8_listensAll_7, xb_X8_listensAll_44, xb_X8_listensAll_46, xb_X8_listensAll_62, xs_nil, Nat.reduceAdd, true_implies, not_true_eq_false, not_false_eq_true, false_implies, and_true, true_and, x_10, xs_aload_n_0, xs_iload_n_1, xs_istore_n_2_i, xs_istore_n_2_a, xs_istore_n_2_n, xs_istore_n_2_l, xs_iload_n_2, xs_iconst_1, xs_iadd, xs_icmp_ge, xs_if_eq, xs_bipush_118, xs_bipush_6, xs_icmp_ne, xs_iconst_0, xs_ireturn, xs_iinc_2_1_i, xs_iinc_2_1_a, xs_iinc_2_1_n, xs_goto]) | (refine xr_getf (hb 0 _ rfl) (by rfl) ?_) | (refine xr_iaload (hb 1 _ rfl) (by rw [ln]; exact x_in (k := 118) (by decide) (by decide)) ?_)))
        rw [e118]
        by_cases hs6 : sn s < 6
        · exact ⟨fun _ => H1 ⟨hc, hs6⟩, fun z => absurd (fun e => absurd ((nI_eq (b := 6) (by omega) (by decide)).mp e) (by omega)) z⟩
        · refine ⟨fun z => absurd (by rw [show sn s = 6 by omega]; rfl) z, fun _ => ?_⟩
          exact z44 (fun z => hs6 z.2)
      · rw [if_neg hc]
        (repeat (first | (simp only [xb_X8_listensAll_0, xb_X8_listensAll_7, xb_X8_listensAll_44, xb_X8_listensAll_46, xb_X8_listensAll_62, xs_nil, Nat.reduceAdd, true_implies, not_true_eq_false, not_false_eq_true, false_implies, and_true, true_and, x_10, xs_aload_n_0, xs_iload_n_1, xs_istore_n_2_i, xs_istore_n_2_a, xs_istore_n_2_n, xs_istore_n_2_l, xs_iload_n_2, xs_iconst_1, xs_iadd, xs_icmp_ge, xs_if_eq, xs_bipush_118, xs_bipush_6, xs_icmp_ne, xs_iconst_0, xs_ireturn, xs_iinc_2_1_i, xs_iinc_2_1_a, xs_iinc_2_1_n, xs_goto]) ))
        exact z44 (fun z => hc z.1)
    rcases S with ⟨j, hj, hs6, hv, S⟩ | ⟨rfl, hno, rfl, rfl⟩
    · obtain ⟨nw1, h1, p1, M1, F1, R1, C1⟩ := mX_listens M hR hk h0 hj hs6
      obtain ⟨nw2, h2, M2, F2, R2, K2, C2, w⟩ := ih (f + 1) _ _ nw1 h1 M1 R1 (khear_ok hk) C1 (by omega) S
      refine ⟨nw2, h2, M2, F1.trans F2, R2, K2, C2, ?_⟩
      refine lead _ _ (fun _ => ?_) (fun z => absurd ⟨by rw [hv]; exact ⟨nI_pos' (by omega), nI_lt hj (by omega)⟩, hs6⟩ z)
      obtain ⟨hs, rd, so, ah, ar, tr, bg, fo, bc, br, bk, sp, wr, ha, hz, hb⟩ := M
      refine xe_X8_listensAll_46 ?_
      (repeat (first | (simp only [xb_X8_listensAll_0, xb_X8_listensAll_7, xb_X8_listensAll_44, xb_X8_listensAll_46, xb_X8_listensAll_62, xs_nil, Nat.reduceAdd, true_implies, not_true_eq_false, not_false_eq_true, false_implies, and_true, true_and, x_10, xs_aload_n_0, xs_iload_n_1, xs_istore_n_2_i, xs_istore_n_2_a, xs_istore_n_2_n, xs_istore_n_2_l, xs_iload_n_2, xs_iconst_1, xs_iadd, xs_icmp_ge, xs_if_eq, xs_bipush_118, xs_bipush_6, xs_icmp_ne, xs_iconst_0, xs_ireturn, xs_iinc_2_1_i, xs_iinc_2_1_a, xs_iinc_2_1_n, xs_goto]) | (refine xr_getf (hb 0 _ rfl) (by rfl) ?_) | (refine xr_iaload (hb 15 _ rfl) (x_in (by rw [hag.1]; omega) (by rw [hag.1]; decide)) ?_)))
      rw [xg_n (by omega), hx, hv]
      (repeat (first | (simp only [xb_X8_listensAll_0, xb_X8_listensAll_7, xb_X8_listensAll_44, xb_X8_listensAll_46, xb_X8_listensAll_62, xs_nil, Nat.reduceAdd, true_implies, not_true_eq_false, not_false_eq_true, false_implies, and_true, true_and, x_10, xs_aload_n_0, xs_iload_n_1, xs_istore_n_2_i, xs_istore_n_2_a, xs_istore_n_2_n, xs_istore_n_2_l, xs_iload_n_2, xs_iconst_1, xs_iadd, xs_icmp_ge, xs_if_eq, xs_bipush_118, xs_bipush_6, xs_icmp_ne, xs_iconst_0, xs_ireturn, xs_iinc_2_1_i, xs_iinc_2_1_a, xs_iinc_2_1_n, xs_goto]) | refine xc_v2_0 (p1) (Nat.le_of_ble_eq_true rfl) ?_))
      rw [nI_1]
      exact w
    · refine ⟨nw, h, M, mF.refl h, hR, hk, h0, ?_⟩
      exact lead _ _ (fun z => absurd z hno) (fun _ => ⟨rfl, rfl⟩)
end MO2
