section MO3
variable {nw asd pa rf tx le fr nu F : List Int32} {sts byt od : Int32} {s s' : kS} {k k' : kC} {b : Bool} {c : Int32} {h : xH} {i f n : Nat}
theorem mX_switch (M : mX h nw asd pa sts rf tx byt le fr nu od) (hi : i < 40) (q1 : le.length = 40) (q2 : fr.length = 41) (hle : le.getD i 0 = c) (hf : fr.getD i 0 = nI f) (hag : agr nu F) (hfn : f + 1 ≤ F.length) {r : Option Value} {h' : xH} (t : Nat) (ht : ((20 : Int) + Op.lookupswitch.offset [(101, 44), (102, 52), (111, 140), (114, 74)] 172 c.toInt).toNat = t)
    (H : x_EV 163 t [some (.ref 122), some (.int (nI i)), some (.int (nI f)), some (.int (F.getD f 0)), none] [] h r h') : xK 163 [.ref 122, .int (nI i)] h r h' := by
  obtain ⟨hs, rd, so, ah, ar, tr, bg, fo, bc, br, bk, sp, wr, ha, hz, hb⟩ := M
  have hF := hag.2.1
  have y1 : xg fr (nI i) = nI f := by rw [xg_n (by omega), hf]
  have y2 : xg nu (nI f) = F.getD f 0 := by rw [xg_n (by omega), hag.2.2 _ (by omega)]
  have y3 : xg le (nI i) = c := by rw [xg_n (by omega), hle]
  refine xK_X8_obeys (hb 0 _ rfl) (xe_X8_obeys_0 ?_)
  (repeat (first | (simp only [xb_X8_obeys_0, xb_X8_obeys_64, xb_X8_obeys_72, xb_X8_obeys_94, xb_X8_obeys_145, xb_X8_obeys_146, xb_X8_obeys_160, xb_X8_obeys_174, xb_X8_obeys_175, xb_X8_obeys_192, xs_nil, Nat.reduceAdd, true_implies, not_true_eq_false, not_false_eq_true, false_implies, and_true, true_and, x_10, xs_aload_n_0, xs_iload_n_1, xs_istore_n_2_i, xs_istore_n_2_a, xs_istore_n_2_n, xs_istore_n_2_l, xs_iload_n_2, xs_istore_n_3_i, xs_istore_n_3_a, xs_istore_n_3_n, xs_istore_n_3_l, xs_iload_n_3, xs_iconst_m1, xs_iconst_0, xs_ireturn, xs_iconst_1, xs_iadd, xs_iconst_2, xs_istore_4_i, xs_istore_4_a, xs_istore_4_n, xs_istore_4_l, xs_iload_4, xs_if_eq, xs_goto, xs_iconst_3, xs_bipush_72]) | (refine xr_getf (hb 0 _ rfl) (by rfl) ?_) | (refine xr_iaload (hb 14 _ rfl) (x_in (by rw [q2]; omega) (by rw [q2]; decide)) ?_) | (rw [y1]) | (refine xr_iaload (hb 15 _ rfl) (x_in (by rw [hag.1]; omega) (by rw [hag.1]; decide)) ?_) | (rw [y2]) | (refine xr_iaload (hb 13 _ rfl) (x_in (by rw [q1]; omega) (by rw [q1]; decide)) ?_) | (rw [y3])))
  exact xr_look t ht H
theorem mX_obeys (M : mX h nw asd pa sts rf tx byt le fr nu od) (hR : Rl s nw) (hk : kcok k) (h0 : ch0 k.2.1) (hi : i < 40) (q1 : le.length = 40) (q2 : fr.length = 41) (hle : le.getD i 0 = c) (hf : fr.getD i 0 = nI f) (hfe : fr.getD (i + 1) 0 = nI (f + n)) (hag : agr nu F) (hfn : f + n ≤ F.length) (hn : ¬ c = 119 → n = mostN c) (hm : ¬ mostN c = 0) (hw : c = 119 → 1 ≤ n) (S : oS c F f n s k b s' k') : ∃ nw' h1, xK 163 [.ref 122, .int (nI i)] h (some (.int (if b = true then 1 else 0))) h1 ∧ mX h1 nw' asd pa sts rf tx byt le fr nu od ∧ mF h h1 ∧ Rl s' nw' ∧ kcok k' ∧ ch0 k'.2.1 := by
  have hF := hag.2.1
  have ln := hR.2.1.1
  have hn1 : 1 ≤ n := by
    by_cases z : c = 119
    · exact hw z
    · have := hn z
      omega
  have sw := fun r h' t ht H => mX_switch (r := r) (h' := h') M hi q1 q2 hle hf hag (by omega) t ht H
  have hnu : ∀ j, f + j < f + n → xg nu (nI (f + j)) = F.getD (f + j) 0 := fun j hj => by rw [xg_n (by omega), hag.2.2 _ (by omega)]
  have hin : ∀ j, f + j < f + n → xin (nI (f + j)) nu.length := fun j hj => by rw [hag.1]; exact x_in (by omega) (by decide)
  have f1 : nI f + 1 = nI (f + 1) := nI_1 f
  have f2 : nI f + 2 = nI (f + 2) := nI_k f 2 rfl
  have f3 : nI f + 3 = nI (f + 3) := nI_k f 3 rfl
  rcases S with ⟨z, S⟩ | ⟨rfl, S⟩
  · -- words
    obtain ⟨nw', h1, w1, w2, w3, w4, w5, w6⟩ := l_listensAll hi q2 hfe hag hfn n f s k nw h M hR hk h0 rfl S
    refine ⟨nw', h1, ?_, w1, w2, w3, w4, w5⟩
    have p1 : xK 162 [.ref 122, .int (nI i)] h (some (.int (if b = true then 1 else 0))) h1 := by
      obtain ⟨hs, rd, so, ah, ar, tr, bg, fo, bc, br, bk, sp, wr, ha, hz, hb⟩ := M
      refine xK_X8_listensAll (hb 0 _ rfl) (xe_X8_listensAll_0 ?_)
      (repeat (first | (simp only [xb_X8_listensAll_0, xb_X8_listensAll_7, xb_X8_listensAll_44, xb_X8_listensAll_46, xb_X8_listensAll_62, xs_nil, Nat.reduceAdd, true_implies, not_true_eq_false, not_false_eq_true, false_implies, and_true, true_and, x_10, xs_aload_n_0, xs_iload_n_1, xs_istore_n_2_i, xs_istore_n_2_a, xs_istore_n_2_n, xs_istore_n_2_l, xs_iload_n_2, xs_iconst_1, xs_iadd, xs_icmp_ge, xs_if_eq, xs_bipush_118, xs_bipush_6, xs_icmp_ne, xs_iconst_0, xs_ireturn, xs_iinc_2_1_i, xs_iinc_2_1_a, xs_iinc_2_1_n, xs_goto]) | (refine xr_getf (hb 0 _ rfl) (by rfl) ?_) | (refine xr_iaload (hb 14 _ rfl) (x_in (by rw [q2]; omega) (by rw [q2]; decide)) ?_)))
      rw [xg_n (by omega), hf]
      exact w6
    refine sw _ _ 192 (by rw [z]; decide) (xe_X8_obeys_192 ?_)
    cases b
    · have p1 : xK 162 [.ref 122, .int (nI i)] h (some (.int 0)) h1 := p1
      (repeat (first | (simp only [xb_X8_obeys_0, xb_X8_obeys_64, xb_X8_obeys_72, xb_X8_obeys_94, xb_X8_obeys_145, xb_X8_obeys_146, xb_X8_obeys_160, xb_X8_obeys_174, xb_X8_obeys_175, xb_X8_obeys_192, xs_nil, Nat.reduceAdd, true_implies, not_true_eq_false, not_false_eq_true, false_implies, and_true, true_and, x_10, xs_aload_n_0, xs_iload_n_1, xs_istore_n_2_i, xs_istore_n_2_a, xs_istore_n_2_n, xs_istore_n_2_l, xs_iload_n_2, xs_istore_n_3_i, xs_istore_n_3_a, xs_istore_n_3_n, xs_istore_n_3_l, xs_iload_n_3, xs_iconst_m1, xs_iconst_0, xs_ireturn, xs_iconst_1, xs_iadd, xs_iconst_2, xs_istore_4_i, xs_istore_4_a, xs_istore_4_n, xs_istore_4_l, xs_iload_4, xs_if_eq, xs_goto, xs_iconst_3, xs_bipush_72]) | refine xc_v2_1 (p1) (Nat.le_of_ble_eq_true rfl) ?_))
      (first | exact ⟨Or.inl trivial, rfl⟩ | exact ⟨Or.inl trivial, rfl, rfl⟩ | (simp; done) | exact ⟨by simp, rfl⟩ | exact ⟨by simp, rfl, rfl⟩ | rfl)
    · have p1 : xK 162 [.ref 122, .int (nI i)] h (some (.int 1)) h1 := p1
      (repeat (first | (simp only [xb_X8_obeys_0, xb_X8_obeys_64, xb_X8_obeys_72, xb_X8_obeys_94, xb_X8_obeys_145, xb_X8_obeys_146, xb_X8_obeys_160, xb_X8_obeys_174, xb_X8_obeys_175, xb_X8_obeys_192, xs_nil, Nat.reduceAdd, true_implies, not_true_eq_false, not_false_eq_true, false_implies, and_true, true_and, x_10, xs_aload_n_0, xs_iload_n_1, xs_istore_n_2_i, xs_istore_n_2_a, xs_istore_n_2_n, xs_istore_n_2_l, xs_iload_n_2, xs_istore_n_3_i, xs_istore_n_3_a, xs_istore_n_3_n, xs_istore_n_3_l, xs_iload_n_3, xs_iconst_m1, xs_iconst_0, xs_ireturn, xs_iconst_1, xs_iadd, xs_iconst_2, xs_istore_4_i, xs_istore_4_a, xs_istore_4_n, xs_istore_4_l, xs_iload_4, xs_if_eq, xs_goto, xs_iconst_3, xs_bipush_72]) | refine xc_v2_1 (p1) (Nat.le_of_ble_eq_true rfl) ?_))
      (first | exact ⟨Or.inl trivial, rfl⟩ | exact ⟨Or.inl trivial, rfl, rfl⟩ | (simp; done) | exact ⟨by simp, rfl⟩ | exact ⟨by simp, rfl, rfl⟩ | rfl)
  rcases S with ⟨z, S⟩ | ⟨z, S⟩ | ⟨z, S⟩ | ⟨z, S⟩
  · obtain ⟨nw', h1, p1, w1, w2, w3⟩ := mX_entersTold M hR S
    refine ⟨nw', h1, ?_, w1, w2, w3, hk, h0⟩
    refine sw _ _ 64 (by rw [z]; decide) (xe_X8_obeys_64 ?_)
    cases b
    · have p1 : xK 160 [.ref 122, .int (F.getD f 0), .int (-1), .int 0] h (some (.int 0)) h1 := p1
      (repeat (first | (simp only [xb_X8_obeys_0, xb_X8_obeys_64, xb_X8_obeys_72, xb_X8_obeys_94, xb_X8_obeys_145, xb_X8_obeys_146, xb_X8_obeys_160, xb_X8_obeys_174, xb_X8_obeys_175, xb_X8_obeys_192, xs_nil, Nat.reduceAdd, true_implies, not_true_eq_false, not_false_eq_true, false_implies, and_true, true_and, x_10, xs_aload_n_0, xs_iload_n_1, xs_istore_n_2_i, xs_istore_n_2_a, xs_istore_n_2_n, xs_istore_n_2_l, xs_iload_n_2, xs_istore_n_3_i, xs_istore_n_3_a, xs_istore_n_3_n, xs_istore_n_3_l, xs_iload_n_3, xs_iconst_m1, xs_iconst_0, xs_ireturn, xs_iconst_1, xs_iadd, xs_iconst_2, xs_istore_4_i, xs_istore_4_a, xs_istore_4_n, xs_istore_4_l, xs_iload_4, xs_if_eq, xs_goto, xs_iconst_3, xs_bipush_72]) | refine xc_v4_1 (p1) (Nat.le_of_ble_eq_true rfl) ?_))
      (first | exact ⟨Or.inl trivial, rfl⟩ | exact ⟨Or.inl trivial, rfl, rfl⟩ | (simp; done) | exact ⟨by simp, rfl⟩ | exact ⟨by simp, rfl, rfl⟩ | rfl)
    · have p1 : xK 160 [.ref 122, .int (F.getD f 0), .int (-1), .int 0] h (some (.int 1)) h1 := p1
      (repeat (first | (simp only [xb_X8_obeys_0, xb_X8_obeys_64, xb_X8_obeys_72, xb_X8_obeys_94, xb_X8_obeys_145, xb_X8_obeys_146, xb_X8_obeys_160, xb_X8_obeys_174, xb_X8_obeys_175, xb_X8_obeys_192, xs_nil, Nat.reduceAdd, true_implies, not_true_eq_false, not_false_eq_true, false_implies, and_true, true_and, x_10, xs_aload_n_0, xs_iload_n_1, xs_istore_n_2_i, xs_istore_n_2_a, xs_istore_n_2_n, xs_istore_n_2_l, xs_iload_n_2, xs_istore_n_3_i, xs_istore_n_3_a, xs_istore_n_3_n, xs_istore_n_3_l, xs_iload_n_3, xs_iconst_m1, xs_iconst_0, xs_ireturn, xs_iconst_1, xs_iadd, xs_iconst_2, xs_istore_4_i, xs_istore_4_a, xs_istore_4_n, xs_istore_4_l, xs_iload_4, xs_if_eq, xs_goto, xs_iconst_3, xs_bipush_72]) | refine xc_v4_1 (p1) (Nat.le_of_ble_eq_true rfl) ?_))
      (first | exact ⟨Or.inl trivial, rfl⟩ | exact ⟨Or.inl trivial, rfl, rfl⟩ | (simp; done) | exact ⟨by simp, rfl⟩ | exact ⟨by simp, rfl, rfl⟩ | rfl)
  · have e : n = 3 := by rw [hn (by rw [z]; decide), z]; rfl
    subst e
    have y1 := hnu 1 (by omega)
    have y2 := hnu 2 (by omega)
    obtain ⟨nw', h1, p1, w1, w2, w3⟩ := mX_entersTold M hR S
    refine ⟨nw', h1, ?_, w1, w2, w3, hk, h0⟩
    refine sw _ _ 72 (by rw [z]; decide) (xe_X8_obeys_72 ?_)
    obtain ⟨hs, rd, so, ah, ar, tr, bg, fo, bc, br, bk, sp, wr, ha, hz, hb⟩ := M
    cases b
    · have p1 : xK 160 [.ref 122, .int (F.getD f 0), .int (F.getD (f + 1) 0), .int (F.getD (f + 2) 0)] h (some (.int 0)) h1 := p1
      (repeat (first | (simp only [xb_X8_obeys_0, xb_X8_obeys_64, xb_X8_obeys_72, xb_X8_obeys_94, xb_X8_obeys_145, xb_X8_obeys_146, xb_X8_obeys_160, xb_X8_obeys_174, xb_X8_obeys_175, xb_X8_obeys_192, xs_nil, Nat.reduceAdd, true_implies, not_true_eq_false, not_false_eq_true, false_implies, and_true, true_and, x_10, xs_aload_n_0, xs_iload_n_1, xs_istore_n_2_i, xs_istore_n_2_a, xs_istore_n_2_n, xs_istore_n_2_l, xs_iload_n_2, xs_istore_n_3_i, xs_istore_n_3_a, xs_istore_n_3_n, xs_istore_n_3_l, xs_iload_n_3, xs_iconst_m1, xs_iconst_0, xs_ireturn, xs_iconst_1, xs_iadd, xs_iconst_2, xs_istore_4_i, xs_istore_4_a, xs_istore_4_n, xs_istore_4_l, xs_iload_4, xs_if_eq, xs_goto, xs_iconst_3, xs_bipush_72]) | (refine xr_getf (hb 0 _ rfl) (by rfl) ?_) | (rw [f1]) | (rw [f2]) | (refine xr_iaload (hb 15 _ rfl) (hin 1 (by omega)) ?_) | (refine xr_iaload (hb 15 _ rfl) (hin 2 (by omega)) ?_) | (rw [y1]) | (rw [y2]) | refine xc_v4_1 (p1) (Nat.le_of_ble_eq_true rfl) ?_))
      (first | exact ⟨Or.inl trivial, rfl⟩ | exact ⟨Or.inl trivial, rfl, rfl⟩ | (simp; done) | exact ⟨by simp, rfl⟩ | exact ⟨by simp, rfl, rfl⟩ | rfl)
    · have p1 : xK 160 [.ref 122, .int (F.getD f 0), .int (F.getD (f + 1) 0), .int (F.getD (f + 2) 0)] h (some (.int 1)) h1 := p1
      (repeat (first | (simp only [xb_X8_obeys_0, xb_X8_obeys_64, xb_X8_obeys_72, xb_X8_obeys_94, xb_X8_obeys_145, xb_X8_obeys_146, xb_X8_obeys_160, xb_X8_obeys_174, xb_X8_obeys_175, xb_X8_obeys_192, xs_nil, Nat.reduceAdd, true_implies, not_true_eq_false, not_false_eq_true, false_implies, and_true, true_and, x_10, xs_aload_n_0, xs_iload_n_1, xs_istore_n_2_i, xs_istore_n_2_a, xs_istore_n_2_n, xs_istore_n_2_l, xs_iload_n_2, xs_istore_n_3_i, xs_istore_n_3_a, xs_istore_n_3_n, xs_istore_n_3_l, xs_iload_n_3, xs_iconst_m1, xs_iconst_0, xs_ireturn, xs_iconst_1, xs_iadd, xs_iconst_2, xs_istore_4_i, xs_istore_4_a, xs_istore_4_n, xs_istore_4_l, xs_iload_4, xs_if_eq, xs_goto, xs_iconst_3, xs_bipush_72]) | (refine xr_getf (hb 0 _ rfl) (by rfl) ?_) | (rw [f1]) | (rw [f2]) | (refine xr_iaload (hb 15 _ rfl) (hin 1 (by omega)) ?_) | (refine xr_iaload (hb 15 _ rfl) (hin 2 (by omega)) ?_) | (rw [y1]) | (rw [y2]) | refine xc_v4_1 (p1) (Nat.le_of_ble_eq_true rfl) ?_))
      (first | exact ⟨Or.inl trivial, rfl⟩ | exact ⟨Or.inl trivial, rfl, rfl⟩ | (simp; done) | exact ⟨by simp, rfl⟩ | exact ⟨by simp, rfl, rfl⟩ | rfl)
  · have e : n = 4 := by rw [hn (by rw [z]; decide), z]; rfl
    subst e
    have y1 := hnu 1 (by omega)
    have y2 := hnu 2 (by omega)
    have y3 := hnu 3 (by omega)
    have sw := fun r h' H => sw r h' 94 (by rw [z]; decide) H
    generalize F.getD f 0 = x1 at S sw
    generalize F.getD (f + 1) 0 = x2 at S y1
    generalize F.getD (f + 2) 0 = x3 at S y2
    generalize F.getD (f + 3) 0 = x4 at S y3
    have cR := c_isRule (x1 := x1) (x2 := x2) (x3 := x3) (h := h)
    have cA := c_ruleAt (x1 := x1) (x2 := x2) (x3 := x3) (h := h)
    rcases S with ⟨rfl, p, q, d, hp, hq, hd, rfl, rfl, rfl, v1, v2, rfl⟩ | ⟨rfl, hc, rfl⟩
    · obtain ⟨h1, p1, w1, w2⟩ := mX_prices1 (p := 12 * p + 2 * q + d) (v := x4) M ln (by omega) v1 v2
      refine ⟨_, h1, ?_, w1, w2, Rl_price hR (by omega) (price_of v1 v2), hk, h0⟩
      have ei : (0 : Int32) + 12 * nI p + 2 * nI q + nI d = nI (12 * p + 2 * q + d) := by
        rw [Int32.zero_add, show (12 : Int32) = nI 12 from rfl, show (2 : Int32) = nI 2 from rfl, pk_mul, pk_mul, nI_add, nI_add]
      rw [ei] at cA
      rw [if_pos ⟨⟨nI_pos' (by omega), nI_le (b := 5) (by omega) (by decide)⟩, ⟨nI_pos' (by omega), nI_le (b := 5) (by omega) (by decide)⟩, nI_pos' (by omega), nI_le (b := 1) (by omega) (by decide)⟩] at cR
      refine sw _ _ (xe_X8_obeys_94 ?_)
      obtain ⟨hs, rd, so, ah, ar, tr, bg, fo, bc, br, bk, sp, wr, ha, hz, hb⟩ := M
      (repeat (first | (simp only [xb_X8_obeys_0, xb_X8_obeys_64, xb_X8_obeys_72, xb_X8_obeys_94, xb_X8_obeys_145, xb_X8_obeys_146, xb_X8_obeys_160, xb_X8_obeys_174, xb_X8_obeys_175, xb_X8_obeys_192, xs_nil, Nat.reduceAdd, true_implies, not_true_eq_false, not_false_eq_true, false_implies, and_true, true_and, x_10, xs_aload_n_0, xs_iload_n_1, xs_istore_n_2_i, xs_istore_n_2_a, xs_istore_n_2_n, xs_istore_n_2_l, xs_iload_n_2, xs_istore_n_3_i, xs_istore_n_3_a, xs_istore_n_3_n, xs_istore_n_3_l, xs_iload_n_3, xs_iconst_m1, xs_iconst_0, xs_ireturn, xs_iconst_1, xs_iadd, xs_iconst_2, xs_istore_4_i, xs_istore_4_a, xs_istore_4_n, xs_istore_4_l, xs_iload_4, xs_if_eq, xs_goto, xs_iconst_3, xs_bipush_72]) | (refine xr_getf (hb 0 _ rfl) (by rfl) ?_) | (rw [f1]) | (rw [f2]) | (rw [f3]) | (refine xr_iaload (hb 15 _ rfl) (hin 1 (by omega)) ?_) | (refine xr_iaload (hb 15 _ rfl) (hin 2 (by omega)) ?_) | (refine xr_iaload (hb 15 _ rfl) (hin 3 (by omega)) ?_) | (rw [y1]) | (rw [y2]) | (rw [y3]) | refine xc_s3_1 (by decide) (cR) (Nat.le_of_ble_eq_true rfl) ?_ | refine xc_s3_1 (by decide) (cA) (Nat.le_of_ble_eq_true rfl) ?_))
      refine xe_X8_obeys_146 ?_
      (repeat (first | (simp only [xb_X8_obeys_0, xb_X8_obeys_64, xb_X8_obeys_72, xb_X8_obeys_94, xb_X8_obeys_145, xb_X8_obeys_146, xb_X8_obeys_160, xb_X8_obeys_174, xb_X8_obeys_175, xb_X8_obeys_192, xs_nil, Nat.reduceAdd, true_implies, not_true_eq_false, not_false_eq_true, false_implies, and_true, true_and, x_10, xs_aload_n_0, xs_iload_n_1, xs_istore_n_2_i, xs_istore_n_2_a, xs_istore_n_2_n, xs_istore_n_2_l, xs_iload_n_2, xs_istore_n_3_i, xs_istore_n_3_a, xs_istore_n_3_n, xs_istore_n_3_l, xs_iload_n_3, xs_iconst_m1, xs_iconst_0, xs_ireturn, xs_iconst_1, xs_iadd, xs_iconst_2, xs_istore_4_i, xs_istore_4_a, xs_istore_4_n, xs_istore_4_l, xs_iload_4, xs_if_eq, xs_goto, xs_iconst_3, xs_bipush_72]) | (refine xr_getf (hb 0 _ rfl) (by rfl) ?_) | (rw [f1]) | (rw [f2]) | (rw [f3]) | (refine xr_iaload (hb 15 _ rfl) (hin 1 (by omega)) ?_) | (refine xr_iaload (hb 15 _ rfl) (hin 2 (by omega)) ?_) | (refine xr_iaload (hb 15 _ rfl) (hin 3 (by omega)) ?_) | (rw [y1]) | (rw [y2]) | (rw [y3]) | refine xc_v4_1 (p1) (Nat.le_of_ble_eq_true rfl) ?_))
      (first | exact ⟨Or.inl trivial, rfl⟩ | exact ⟨Or.inl trivial, rfl, rfl⟩ | (simp; done) | exact ⟨by simp, rfl⟩ | exact ⟨by simp, rfl, rfl⟩ | rfl)
    · refine ⟨nw, h, ?_, M, mF.refl h, hR, hk, h0⟩
      refine sw _ _ (xe_X8_obeys_94 ?_)
      by_cases hr : (0 ≤ x1 ∧ x1 ≤ 5) ∧ (0 ≤ x2 ∧ x2 ≤ 5) ∧ 0 ≤ x3 ∧ x3 ≤ 1
      · rw [if_pos hr] at cR
        have p1 := mX_prices0 (at_ := 0 + 12 * x1 + 2 * x2 + x3) (is := 1) (v := x4) M (Or.inr ⟨rfl, fun zz => hc ⟨⟨⟨hr.1.1, lt_le6.mpr hr.1.2⟩, ⟨hr.2.1.1, lt_le6.mpr hr.2.1.2⟩, hr.2.2.1, lt_le2.mpr hr.2.2.2⟩, zz⟩⟩)
        obtain ⟨hs, rd, so, ah, ar, tr, bg, fo, bc, br, bk, sp, wr, ha, hz, hb⟩ := M
        (repeat (first | (simp only [xb_X8_obeys_0, xb_X8_obeys_64, xb_X8_obeys_72, xb_X8_obeys_94, xb_X8_obeys_145, xb_X8_obeys_146, xb_X8_obeys_160, xb_X8_obeys_174, xb_X8_obeys_175, xb_X8_obeys_192, xs_nil, Nat.reduceAdd, true_implies, not_true_eq_false, not_false_eq_true, false_implies, and_true, true_and, x_10, xs_aload_n_0, xs_iload_n_1, xs_istore_n_2_i, xs_istore_n_2_a, xs_istore_n_2_n, xs_istore_n_2_l, xs_iload_n_2, xs_istore_n_3_i, xs_istore_n_3_a, xs_istore_n_3_n, xs_istore_n_3_l, xs_iload_n_3, xs_iconst_m1, xs_iconst_0, xs_ireturn, xs_iconst_1, xs_iadd, xs_iconst_2, xs_istore_4_i, xs_istore_4_a, xs_istore_4_n, xs_istore_4_l, xs_iload_4, xs_if_eq, xs_goto, xs_iconst_3, xs_bipush_72]) | (refine xr_getf (hb 0 _ rfl) (by rfl) ?_) | (rw [f1]) | (rw [f2]) | (rw [f3]) | (refine xr_iaload (hb 15 _ rfl) (hin 1 (by omega)) ?_) | (refine xr_iaload (hb 15 _ rfl) (hin 2 (by omega)) ?_) | (refine xr_iaload (hb 15 _ rfl) (hin 3 (by omega)) ?_) | (rw [y1]) | (rw [y2]) | (rw [y3]) | refine xc_s3_1 (by decide) (cR) (Nat.le_of_ble_eq_true rfl) ?_ | refine xc_s3_1 (by decide) (cA) (Nat.le_of_ble_eq_true rfl) ?_))
        refine xe_X8_obeys_146 ?_
        (repeat (first | (simp only [xb_X8_obeys_0, xb_X8_obeys_64, xb_X8_obeys_72, xb_X8_obeys_94, xb_X8_obeys_145, xb_X8_obeys_146, xb_X8_obeys_160, xb_X8_obeys_174, xb_X8_obeys_175, xb_X8_obeys_192, xs_nil, Nat.reduceAdd, true_implies, not_true_eq_false, not_false_eq_true, false_implies, and_true, true_and, x_10, xs_aload_n_0, xs_iload_n_1, xs_istore_n_2_i, xs_istore_n_2_a, xs_istore_n_2_n, xs_istore_n_2_l, xs_iload_n_2, xs_istore_n_3_i, xs_istore_n_3_a, xs_istore_n_3_n, xs_istore_n_3_l, xs_iload_n_3, xs_iconst_m1, xs_iconst_0, xs_ireturn, xs_iconst_1, xs_iadd, xs_iconst_2, xs_istore_4_i, xs_istore_4_a, xs_istore_4_n, xs_istore_4_l, xs_iload_4, xs_if_eq, xs_goto, xs_iconst_3, xs_bipush_72]) | (refine xr_getf (hb 0 _ rfl) (by rfl) ?_) | (rw [f1]) | (rw [f2]) | (rw [f3]) | (refine xr_iaload (hb 15 _ rfl) (hin 1 (by omega)) ?_) | (refine xr_iaload (hb 15 _ rfl) (hin 2 (by omega)) ?_) | (refine xr_iaload (hb 15 _ rfl) (hin 3 (by omega)) ?_) | (rw [y1]) | (rw [y2]) | (rw [y3]) | refine xc_v4_1 (p1) (Nat.le_of_ble_eq_true rfl) ?_))
        (first | exact ⟨Or.inl trivial, rfl⟩ | exact ⟨Or.inl trivial, rfl, rfl⟩ | (simp; done) | exact ⟨by simp, rfl⟩ | exact ⟨by simp, rfl, rfl⟩ | rfl)
      · rw [if_neg hr] at cR
        have p1 := mX_prices0 (at_ := 0) (is := 0) (v := x4) M (Or.inl rfl)
        obtain ⟨hs, rd, so, ah, ar, tr, bg, fo, bc, br, bk, sp, wr, ha, hz, hb⟩ := M
        (repeat (first | (simp only [xb_X8_obeys_0, xb_X8_obeys_64, xb_X8_obeys_72, xb_X8_obeys_94, xb_X8_obeys_145, xb_X8_obeys_146, xb_X8_obeys_160, xb_X8_obeys_174, xb_X8_obeys_175, xb_X8_obeys_192, xs_nil, Nat.reduceAdd, true_implies, not_true_eq_false, not_false_eq_true, false_implies, and_true, true_and, x_10, xs_aload_n_0, xs_iload_n_1, xs_istore_n_2_i, xs_istore_n_2_a, xs_istore_n_2_n, xs_istore_n_2_l, xs_iload_n_2, xs_istore_n_3_i, xs_istore_n_3_a, xs_istore_n_3_n, xs_istore_n_3_l, xs_iload_n_3, xs_iconst_m1, xs_iconst_0, xs_ireturn, xs_iconst_1, xs_iadd, xs_iconst_2, xs_istore_4_i, xs_istore_4_a, xs_istore_4_n, xs_istore_4_l, xs_iload_4, xs_if_eq, xs_goto, xs_iconst_3, xs_bipush_72]) | (refine xr_getf (hb 0 _ rfl) (by rfl) ?_) | (rw [f1]) | (rw [f2]) | (rw [f3]) | (refine xr_iaload (hb 15 _ rfl) (hin 1 (by omega)) ?_) | (refine xr_iaload (hb 15 _ rfl) (hin 2 (by omega)) ?_) | (refine xr_iaload (hb 15 _ rfl) (hin 3 (by omega)) ?_) | (rw [y1]) | (rw [y2]) | (rw [y3]) | refine xc_s3_1 (by decide) (cR) (Nat.le_of_ble_eq_true rfl) ?_))
        refine xe_X8_obeys_145 ?_
        (repeat (first | (simp only [xb_X8_obeys_0, xb_X8_obeys_64, xb_X8_obeys_72, xb_X8_obeys_94, xb_X8_obeys_145, xb_X8_obeys_146, xb_X8_obeys_160, xb_X8_obeys_174, xb_X8_obeys_175, xb_X8_obeys_192, xs_nil, Nat.reduceAdd, true_implies, not_true_eq_false, not_false_eq_true, false_implies, and_true, true_and, x_10, xs_aload_n_0, xs_iload_n_1, xs_istore_n_2_i, xs_istore_n_2_a, xs_istore_n_2_n, xs_istore_n_2_l, xs_iload_n_2, xs_istore_n_3_i, xs_istore_n_3_a, xs_istore_n_3_n, xs_istore_n_3_l, xs_iload_n_3, xs_iconst_m1, xs_iconst_0, xs_ireturn, xs_iconst_1, xs_iadd, xs_iconst_2, xs_istore_4_i, xs_istore_4_a, xs_istore_4_n, xs_istore_4_l, xs_iload_4, xs_if_eq, xs_goto, xs_iconst_3, xs_bipush_72]) ))
        refine xe_X8_obeys_146 ?_
        (repeat (first | (simp only [xb_X8_obeys_0, xb_X8_obeys_64, xb_X8_obeys_72, xb_X8_obeys_94, xb_X8_obeys_145, xb_X8_obeys_146, xb_X8_obeys_160, xb_X8_obeys_174, xb_X8_obeys_175, xb_X8_obeys_192, xs_nil, Nat.reduceAdd, true_implies, not_true_eq_false, not_false_eq_true, false_implies, and_true, true_and, x_10, xs_aload_n_0, xs_iload_n_1, xs_istore_n_2_i, xs_istore_n_2_a, xs_istore_n_2_n, xs_istore_n_2_l, xs_iload_n_2, xs_istore_n_3_i, xs_istore_n_3_a, xs_istore_n_3_n, xs_istore_n_3_l, xs_iload_n_3, xs_iconst_m1, xs_iconst_0, xs_ireturn, xs_iconst_1, xs_iadd, xs_iconst_2, xs_istore_4_i, xs_istore_4_a, xs_istore_4_n, xs_istore_4_l, xs_iload_4, xs_if_eq, xs_goto, xs_iconst_3, xs_bipush_72]) | (refine xr_getf (hb 0 _ rfl) (by rfl) ?_) | (rw [f1]) | (rw [f2]) | (rw [f3]) | (refine xr_iaload (hb 15 _ rfl) (hin 1 (by omega)) ?_) | (refine xr_iaload (hb 15 _ rfl) (hin 2 (by omega)) ?_) | (refine xr_iaload (hb 15 _ rfl) (hin 3 (by omega)) ?_) | (rw [y1]) | (rw [y2]) | (rw [y3]) | refine xc_v4_1 (p1) (Nat.le_of_ble_eq_true rfl) ?_))
        (first | exact ⟨Or.inl trivial, rfl⟩ | exact ⟨Or.inl trivial, rfl, rfl⟩ | (simp; done) | exact ⟨by simp, rfl⟩ | exact ⟨by simp, rfl, rfl⟩ | rfl)
  · have e : n = 2 := by rw [hn (by rw [z]; decide), z]; rfl
    subst e
    have y1 := hnu 1 (by omega)
    have sw := fun r h' H => sw r h' 160 (by rw [z]; decide) H
    generalize F.getD f 0 = x1 at S sw
    generalize F.getD (f + 1) 0 = x2 at S y1
    have cS := c_isSort (x1 := x1) (h := h)
    rcases S with ⟨rfl, p, hp, rfl, v1, v2, rfl⟩ | ⟨rfl, hc, rfl⟩
    · obtain ⟨h1, p1, w1, w2⟩ := mX_prices1 (p := 72 + p) (v := x2) M ln (by omega) v1 v2
      refine ⟨_, h1, ?_, w1, w2, Rl_root hR (by omega) (price_of v1 v2), hk, h0⟩
      have ei : (72 : Int32) + nI p = nI (72 + p) := by rw [show (72 : Int32) = nI 72 from rfl, nI_add]
      rw [if_pos ⟨nI_pos' (by omega), nI_le (b := 5) (by omega) (by decide)⟩] at cS
      refine sw _ _ (xe_X8_obeys_160 ?_)
      obtain ⟨hs, rd, so, ah, ar, tr, bg, fo, bc, br, bk, sp, wr, ha, hz, hb⟩ := M
      (repeat (first | (simp only [xb_X8_obeys_0, xb_X8_obeys_64, xb_X8_obeys_72, xb_X8_obeys_94, xb_X8_obeys_145, xb_X8_obeys_146, xb_X8_obeys_160, xb_X8_obeys_174, xb_X8_obeys_175, xb_X8_obeys_192, xs_nil, Nat.reduceAdd, true_implies, not_true_eq_false, not_false_eq_true, false_implies, and_true, true_and, x_10, xs_aload_n_0, xs_iload_n_1, xs_istore_n_2_i, xs_istore_n_2_a, xs_istore_n_2_n, xs_istore_n_2_l, xs_iload_n_2, xs_istore_n_3_i, xs_istore_n_3_a, xs_istore_n_3_n, xs_istore_n_3_l, xs_iload_n_3, xs_iconst_m1, xs_iconst_0, xs_ireturn, xs_iconst_1, xs_iadd, xs_iconst_2, xs_istore_4_i, xs_istore_4_a, xs_istore_4_n, xs_istore_4_l, xs_iload_4, xs_if_eq, xs_goto, xs_iconst_3, xs_bipush_72]) | refine xc_s1_1 (by decide) (cS) (Nat.le_of_ble_eq_true rfl) ?_))
      refine xe_X8_obeys_175 ?_
      (repeat (first | (simp only [xb_X8_obeys_0, xb_X8_obeys_64, xb_X8_obeys_72, xb_X8_obeys_94, xb_X8_obeys_145, xb_X8_obeys_146, xb_X8_obeys_160, xb_X8_obeys_174, xb_X8_obeys_175, xb_X8_obeys_192, xs_nil, Nat.reduceAdd, true_implies, not_true_eq_false, not_false_eq_true, false_implies, and_true, true_and, x_10, xs_aload_n_0, xs_iload_n_1, xs_istore_n_2_i, xs_istore_n_2_a, xs_istore_n_2_n, xs_istore_n_2_l, xs_iload_n_2, xs_istore_n_3_i, xs_istore_n_3_a, xs_istore_n_3_n, xs_istore_n_3_l, xs_iload_n_3, xs_iconst_m1, xs_iconst_0, xs_ireturn, xs_iconst_1, xs_iadd, xs_iconst_2, xs_istore_4_i, xs_istore_4_a, xs_istore_4_n, xs_istore_4_l, xs_iload_4, xs_if_eq, xs_goto, xs_iconst_3, xs_bipush_72]) | (rw [ei]) | refine xc_s1_1 (by decide) (cS) (Nat.le_of_ble_eq_true rfl) ?_ | (refine xr_getf (hb 0 _ rfl) (by rfl) ?_) | (rw [f1]) | (refine xr_iaload (hb 15 _ rfl) (hin 1 (by omega)) ?_) | (rw [y1]) | refine xc_v4_1 (p1) (Nat.le_of_ble_eq_true rfl) ?_))
      (first | exact ⟨Or.inl trivial, rfl⟩ | exact ⟨Or.inl trivial, rfl, rfl⟩ | (simp; done) | exact ⟨by simp, rfl⟩ | exact ⟨by simp, rfl, rfl⟩ | rfl)
    · refine ⟨nw, h, ?_, M, mF.refl h, hR, hk, h0⟩
      refine sw _ _ (xe_X8_obeys_160 ?_)
      by_cases hr : 0 ≤ x1 ∧ x1 ≤ 5
      · rw [if_pos hr] at cS
        have p1 := mX_prices0 (at_ := 72 + x1) (is := 1) (v := x2) M (Or.inr ⟨rfl, fun zz => hc ⟨⟨hr.1, lt_le6.mpr hr.2⟩, zz⟩⟩)
        obtain ⟨hs, rd, so, ah, ar, tr, bg, fo, bc, br, bk, sp, wr, ha, hz, hb⟩ := M
        (repeat (first | (simp only [xb_X8_obeys_0, xb_X8_obeys_64, xb_X8_obeys_72, xb_X8_obeys_94, xb_X8_obeys_145, xb_X8_obeys_146, xb_X8_obeys_160, xb_X8_obeys_174, xb_X8_obeys_175, xb_X8_obeys_192, xs_nil, Nat.reduceAdd, true_implies, not_true_eq_false, not_false_eq_true, false_implies, and_true, true_and, x_10, xs_aload_n_0, xs_iload_n_1, xs_istore_n_2_i, xs_istore_n_2_a, xs_istore_n_2_n, xs_istore_n_2_l, xs_iload_n_2, xs_istore_n_3_i, xs_istore_n_3_a, xs_istore_n_3_n, xs_istore_n_3_l, xs_iload_n_3, xs_iconst_m1, xs_iconst_0, xs_ireturn, xs_iconst_1, xs_iadd, xs_iconst_2, xs_istore_4_i, xs_istore_4_a, xs_istore_4_n, xs_istore_4_l, xs_iload_4, xs_if_eq, xs_goto, xs_iconst_3, xs_bipush_72]) | refine xc_s1_1 (by decide) (cS) (Nat.le_of_ble_eq_true rfl) ?_))
        refine xe_X8_obeys_175 ?_
        (repeat (first | (simp only [xb_X8_obeys_0, xb_X8_obeys_64, xb_X8_obeys_72, xb_X8_obeys_94, xb_X8_obeys_145, xb_X8_obeys_146, xb_X8_obeys_160, xb_X8_obeys_174, xb_X8_obeys_175, xb_X8_obeys_192, xs_nil, Nat.reduceAdd, true_implies, not_true_eq_false, not_false_eq_true, false_implies, and_true, true_and, x_10, xs_aload_n_0, xs_iload_n_1, xs_istore_n_2_i, xs_istore_n_2_a, xs_istore_n_2_n, xs_istore_n_2_l, xs_iload_n_2, xs_istore_n_3_i, xs_istore_n_3_a, xs_istore_n_3_n, xs_istore_n_3_l, xs_iload_n_3, xs_iconst_m1, xs_iconst_0, xs_ireturn, xs_iconst_1, xs_iadd, xs_iconst_2, xs_istore_4_i, xs_istore_4_a, xs_istore_4_n, xs_istore_4_l, xs_iload_4, xs_if_eq, xs_goto, xs_iconst_3, xs_bipush_72]) | refine xc_s1_1 (by decide) (cS) (Nat.le_of_ble_eq_true rfl) ?_ | (refine xr_getf (hb 0 _ rfl) (by rfl) ?_) | (rw [f1]) | (refine xr_iaload (hb 15 _ rfl) (hin 1 (by omega)) ?_) | (rw [y1]) | refine xc_v4_1 (p1) (Nat.le_of_ble_eq_true rfl) ?_))
        (first | exact ⟨Or.inl trivial, rfl⟩ | exact ⟨Or.inl trivial, rfl, rfl⟩ | (simp; done) | exact ⟨by simp, rfl⟩ | exact ⟨by simp, rfl, rfl⟩ | rfl)
      · rw [if_neg hr] at cS
        have p1 := mX_prices0 (at_ := 72 + 0) (is := 0) (v := x2) M (Or.inl rfl)
        obtain ⟨hs, rd, so, ah, ar, tr, bg, fo, bc, br, bk, sp, wr, ha, hz, hb⟩ := M
        (repeat (first | (simp only [xb_X8_obeys_0, xb_X8_obeys_64, xb_X8_obeys_72, xb_X8_obeys_94, xb_X8_obeys_145, xb_X8_obeys_146, xb_X8_obeys_160, xb_X8_obeys_174, xb_X8_obeys_175, xb_X8_obeys_192, xs_nil, Nat.reduceAdd, true_implies, not_true_eq_false, not_false_eq_true, false_implies, and_true, true_and, x_10, xs_aload_n_0, xs_iload_n_1, xs_istore_n_2_i, xs_istore_n_2_a, xs_istore_n_2_n, xs_istore_n_2_l, xs_iload_n_2, xs_istore_n_3_i, xs_istore_n_3_a, xs_istore_n_3_n, xs_istore_n_3_l, xs_iload_n_3, xs_iconst_m1, xs_iconst_0, xs_ireturn, xs_iconst_1, xs_iadd, xs_iconst_2, xs_istore_4_i, xs_istore_4_a, xs_istore_4_n, xs_istore_4_l, xs_iload_4, xs_if_eq, xs_goto, xs_iconst_3, xs_bipush_72]) | refine xc_s1_1 (by decide) (cS) (Nat.le_of_ble_eq_true rfl) ?_))
        refine xe_X8_obeys_174 ?_
        (repeat (first | (simp only [xb_X8_obeys_0, xb_X8_obeys_64, xb_X8_obeys_72, xb_X8_obeys_94, xb_X8_obeys_145, xb_X8_obeys_146, xb_X8_obeys_160, xb_X8_obeys_174, xb_X8_obeys_175, xb_X8_obeys_192, xs_nil, Nat.reduceAdd, true_implies, not_true_eq_false, not_false_eq_true, false_implies, and_true, true_and, x_10, xs_aload_n_0, xs_iload_n_1, xs_istore_n_2_i, xs_istore_n_2_a, xs_istore_n_2_n, xs_istore_n_2_l, xs_iload_n_2, xs_istore_n_3_i, xs_istore_n_3_a, xs_istore_n_3_n, xs_istore_n_3_l, xs_iload_n_3, xs_iconst_m1, xs_iconst_0, xs_ireturn, xs_iconst_1, xs_iadd, xs_iconst_2, xs_istore_4_i, xs_istore_4_a, xs_istore_4_n, xs_istore_4_l, xs_iload_4, xs_if_eq, xs_goto, xs_iconst_3, xs_bipush_72]) ))
        refine xe_X8_obeys_175 ?_
        (repeat (first | (simp only [xb_X8_obeys_0, xb_X8_obeys_64, xb_X8_obeys_72, xb_X8_obeys_94, xb_X8_obeys_145, xb_X8_obeys_146, xb_X8_obeys_160, xb_X8_obeys_174, xb_X8_obeys_175, xb_X8_obeys_192, xs_nil, Nat.reduceAdd, true_implies, not_true_eq_false, not_false_eq_true, false_implies, and_true, true_and, x_10, xs_aload_n_0, xs_iload_n_1, xs_istore_n_2_i, xs_istore_n_2_a, xs_istore_n_2_n, xs_istore_n_2_l, xs_iload_n_2, xs_istore_n_3_i, xs_istore_n_3_a, xs_istore_n_3_n, xs_istore_n_3_l, xs_iload_n_3, xs_iconst_m1, xs_iconst_0, xs_ireturn, xs_iconst_1, xs_iadd, xs_iconst_2, xs_istore_4_i, xs_istore_4_a, xs_istore_4_n, xs_istore_4_l, xs_iload_4, xs_if_eq, xs_goto, xs_iconst_3, xs_bipush_72]) | refine xc_s1_1 (by decide) (cS) (Nat.le_of_ble_eq_true rfl) ?_ | (refine xr_getf (hb 0 _ rfl) (by rfl) ?_) | (rw [f1]) | (refine xr_iaload (hb 15 _ rfl) (hin 1 (by omega)) ?_) | (rw [y1]) | refine xc_v4_1 (p1) (Nat.le_of_ble_eq_true rfl) ?_))
        (first | exact ⟨Or.inl trivial, rfl⟩ | exact ⟨Or.inl trivial, rfl, rfl⟩ | (simp; done) | exact ⟨by simp, rfl⟩ | exact ⟨by simp, rfl, rfl⟩ | rfl)
end MO3
