/-! the reference does an order -/
/-- the reference's cells, with the row aside and what was read -/
def mX (h : xH) (nw asd pa : List Int32) (sts : Int32) (rf tx : List Int32) (byt : Int32) (le fr nu : List Int32) (od : Int32) : Prop := ∃ (hs : List Nat) (rd so ah ar tr bg : List Int32) (fo bc br bk sp wr : Int32) (ha : Int64), okZ ((asd, hs, rd, so, ah, ar, tr, bg, fo, bc, br, bk, le, fr, nu, od, sp, wr, ha) : mZ) ∧ x_hb h 122 (x_mc 122 nw asd pa sts rf tx byt (hs.map nI) rd so ah ar tr bg fo bc br bk le fr nu od sp wr ha)
theorem mX_A {h h' : xH} {nw asd pa rf tx le fr nu : List Int32} {sts byt od : Int32} {hs : List Nat} {rd so ah ar tr bg : List Int32} {fo bc br bk sp wr : Int32} {ha : Int64} (hz : okZ ((asd, hs, rd, so, ah, ar, tr, bg, fo, bc, br, bk, le, fr, nu, od, sp, wr, ha) : mZ)) (A : xA h 122 (x_mc 122 nw asd pa sts rf tx byt (hs.map nI) rd so ah ar tr bg fo bc br bk le fr nu od sp wr ha) h') : mX h' nw asd pa sts rf tx byt le fr nu od ∧ mF h h' := ⟨⟨hs, rd, so, ah, ar, tr, bg, fo, bc, br, bk, sp, wr, ha, hz, A.hb⟩, A.len, fun i hi => by rw [← A.e]; exact x_wr_out A.hl (Or.inl hi)⟩
section MX
variable {h : xH} {nw asd pa rf tx le fr nu F : List Int32} {sts byt od : Int32} {s s' : kS} {k k' : kC} {b : Bool} {x1 x2 x3 x4 : Int32}
theorem mX_enters (M : mX h nw asd pa sts rf tx byt le fr nu od) (hl : nw.length = 149) (he : xg nw 78 = nI (sne s)) (h12 : sne s < 12) : ∃ h2, xK 43 [.ref 122, .int x1, .int x2, .int x3] h (some (.int (nI (sne s)))) h2 ∧ mX h2 (nadd s nw x1 x2 x3) asd pa sts rf tx byt le fr nu od ∧ mF h h2 := by
  obtain ⟨hs, rd, so, ah, ar, tr, bg, fo, bc, br, bk, sp, wr, ha, hz, hb⟩ := M
  have A := xA.of hb (Nat.zero_lt_succ _)
  exact ⟨_, c_enters hb (by decide) hl he h12, mX_A hz (A.on rfl)⟩
theorem mX_listens {j : Nat} (M : mX h nw asd pa sts rf tx byt le fr nu od) (hR : Rl s nw) (hc : kcok k) (h0c : ch0 k.2.1) (hj : j < sne s) (hn : sn s < 6) : ∃ nw' h2, xK 95 [.ref 122, .int (nI j)] h none h2 ∧ mX h2 nw' asd pa sts rf tx byt le fr nu od ∧ mF h h2 ∧ Rl (khear s k (nI j)).1 nw' ∧ ch0 (khear s k (nI j)).2.2.1 := by
  obtain ⟨hs, rd, so, ah, ar, tr, bg, fo, bc, br, bk, sp, wr, ha, hz, hb⟩ := M
  have A := xA.of hb (Nat.zero_lt_succ _)
  obtain ⟨z1, z2, z3, z4, z5, z6, z7, z8⟩ := hz
  obtain ⟨nw', hs', rd', so', ah', ar', fo', bc', br', bk', ⟨o1, o2, o3, o4, o5, o6, o7⟩, c⟩ := c_listens hb (by decide) z2 z3 z4 z5 z6 z7 hR hc h0c hj hn
  obtain ⟨M1, F1⟩ := mX_A (nw := nw') (hs := hs') (rd := rd') (so := so') (ah := ah') (ar := ar') (fo := fo') (bc := bc') (br := br') (bk := bk') (sts := sts) (byt := byt) (od := od) (asd := asd) (pa := pa) (rf := rf) (tx := tx) (le := le) (fr := fr) (nu := nu) (tr := tr) (bg := bg) (sp := sp) (wr := wr) (ha := ha) ⟨z1, o1, o2, o3, o4, o5, z7, z8⟩ (A.on rfl)
  exact ⟨nw', _, c, M1, F1, o6, o7⟩
theorem mX_entersTold (M : mX h nw asd pa sts rf tx byt le fr nu od) (hR : Rl s nw) (S : oE x1 x2 x3 s b s') : ∃ nw' h1, xK 160 [.ref 122, .int x1, .int x2, .int x3] h (some (.int (if b = true then 1 else 0))) h1 ∧ mX h1 nw' asd pa sts rf tx byt le fr nu od ∧ mF h h1 ∧ Rl s' nw' := by
  have c1 := c_canEnter (x1 := x1) (x2 := x2) (x3 := x3) (h := h)
  have ln := hR.2.1.1
  have he := hR.e78
  have hne := hR.1.ne
  rcases S with ⟨rfl, hc, hn, rfl⟩ | ⟨rfl, hc, rfl⟩
  · obtain ⟨v1, v2, v3⟩ := ent_vals hc
    obtain ⟨h2, p2, M2, F2⟩ := mX_enters (x1 := x1) (x2 := x2) (x3 := x3) M ln he hn
    rw [if_pos (ent_iff.mpr hc)] at c1
    refine ⟨_, h2, ?_, M2, F2, Rl_add hR hn v1 v2 v3⟩
    obtain ⟨hs, rd, so, ah, ar, tr, bg, fo, bc, br, bk, sp, wr, ha, hz, hb⟩ := M
    refine xK_X8_entersTold (hb 0 _ rfl) (xe_X8_entersTold_0 ?_)
    (repeat (first | (simp only [xb_X8_entersTold_0, xb_X8_entersTold_21, xb_X8_entersTold_23, xs_nil, Nat.reduceAdd, true_implies, not_true_eq_false, not_false_eq_true, false_implies, and_true, true_and, x_10, xs_iload_n_1, xs_iload_n_2, xs_iload_n_3, xs_if_eq, xs_aload_n_0, xs_bipush_78, xs_bipush_12, xs_icmp_ne, xs_iconst_0, xs_ireturn, xs_pop_i, xs_pop_a, xs_iconst_1]) | refine xc_s3_1 (by decide) (c1) (Nat.le_of_ble_eq_true rfl) ?_ | (refine xr_getf (hb 0 _ rfl) (by rfl) ?_) | (refine xr_iaload (hb 1 _ rfl) (by rw [ln]; exact x_in (k := 78) (by decide) (by decide)) ?_)))
    rw [he]
    refine ⟨fun _ => ?_, fun z => absurd (fun e => absurd ((nI_eq (b := 12) (by omega) (by decide)).mp e) (by omega)) z⟩
    refine xe_X8_entersTold_23 ?_
    (repeat (first | (simp only [xb_X8_entersTold_0, xb_X8_entersTold_21, xb_X8_entersTold_23, xs_nil, Nat.reduceAdd, true_implies, not_true_eq_false, not_false_eq_true, false_implies, and_true, true_and, x_10, xs_iload_n_1, xs_iload_n_2, xs_iload_n_3, xs_if_eq, xs_aload_n_0, xs_bipush_78, xs_bipush_12, xs_icmp_ne, xs_iconst_0, xs_ireturn, xs_pop_i, xs_pop_a, xs_iconst_1]) | refine xc_v4_1 (p2) (Nat.le_of_ble_eq_true rfl) ?_))
    (first | exact ⟨Or.inl trivial, rfl⟩ | exact ⟨Or.inl trivial, rfl, rfl⟩ | (simp; done) | exact ⟨by simp, rfl⟩ | exact ⟨by simp, rfl, rfl⟩ | rfl)
  · refine ⟨nw, h, ?_, M, mF.refl h, hR⟩
    obtain ⟨hs, rd, so, ah, ar, tr, bg, fo, bc, br, bk, sp, wr, ha, hz, hb⟩ := M
    refine xK_X8_entersTold (hb 0 _ rfl) (xe_X8_entersTold_0 ?_)
    have fin : x_EV 160 21 [some (.ref 122), some (.int x1), some (.int x2), some (.int x3)] [] h (some (.int 0)) h := by
      refine xe_X8_entersTold_21 ?_
      (repeat (first | (simp only [xb_X8_entersTold_0, xb_X8_entersTold_21, xb_X8_entersTold_23, xs_nil, Nat.reduceAdd, true_implies, not_true_eq_false, not_false_eq_true, false_implies, and_true, true_and, x_10, xs_iload_n_1, xs_iload_n_2, xs_iload_n_3, xs_if_eq, xs_aload_n_0, xs_bipush_78, xs_bipush_12, xs_icmp_ne, xs_iconst_0, xs_ireturn, xs_pop_i, xs_pop_a, xs_iconst_1]) ))
      (first | exact ⟨Or.inl trivial, rfl⟩ | exact ⟨Or.inl trivial, rfl, rfl⟩ | (simp; done) | exact ⟨by simp, rfl⟩ | exact ⟨by simp, rfl, rfl⟩ | rfl)
    by_cases he2 : entC x1 x2 x3
    · rw [if_pos (ent_iff.mpr he2)] at c1
      have h12 : sne s' = 12 := by
        have : ¬ sne s' < 12 := fun z => hc ⟨he2, z⟩
        omega
      (repeat (first | (simp only [xb_X8_entersTold_0, xb_X8_entersTold_21, xb_X8_entersTold_23, xs_nil, Nat.reduceAdd, true_implies, not_true_eq_false, not_false_eq_true, false_implies, and_true, true_and, x_10, xs_iload_n_1, xs_iload_n_2, xs_iload_n_3, xs_if_eq, xs_aload_n_0, xs_bipush_78, xs_bipush_12, xs_icmp_ne, xs_iconst_0, xs_ireturn, xs_pop_i, xs_pop_a, xs_iconst_1]) | refine xc_s3_1 (by decide) (c1) (Nat.le_of_ble_eq_true rfl) ?_ | (refine xr_getf (hb 0 _ rfl) (by rfl) ?_) | (refine xr_iaload (hb 1 _ rfl) (by rw [ln]; exact x_in (k := 78) (by decide) (by decide)) ?_)))
      rw [he, h12]
      refine ⟨fun z => absurd rfl z, fun _ => ?_⟩
      exact fin
    · rw [if_neg (fun z => he2 (ent_iff.mp z))] at c1
      (repeat (first | (simp only [xb_X8_entersTold_0, xb_X8_entersTold_21, xb_X8_entersTold_23, xs_nil, Nat.reduceAdd, true_implies, not_true_eq_false, not_false_eq_true, false_implies, and_true, true_and, x_10, xs_iload_n_1, xs_iload_n_2, xs_iload_n_3, xs_if_eq, xs_aload_n_0, xs_bipush_78, xs_bipush_12, xs_icmp_ne, xs_iconst_0, xs_ireturn, xs_pop_i, xs_pop_a, xs_iconst_1]) | refine xc_s3_1 (by decide) (c1) (Nat.le_of_ble_eq_true rfl) ?_))
      exact fin
end MX
