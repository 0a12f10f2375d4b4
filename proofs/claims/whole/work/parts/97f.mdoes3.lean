/-! the reference: does -/
section MG
variable {nw pa rf tx : List Int32} {sts byt : Int32} {h : xH} {ct N : Nat} {s s' : kS} {k k' : kC} {b : Bool} {q : Nat}
theorem m8_does_no (M : mW h nw pa sts rf tx (nI N)) (hl : tx.length = 120) (hN : N ≤ 120) (hp : (pR tx N).1 = false) : ∃ h2, xK 165 [.ref 122] h (some (.int (-10 - nI (pR tx N).2.1))) h2 ∧ mW h2 nw pa sts rf tx (nI N) ∧ mF h h2 := by
  obtain ⟨⟨asd, hs, rd, so, ah, ar, tr, bg, fo, bc, br, bk, le, fr, nu, od, sp, wr, ha⟩, hz, hb⟩ := M
  have hb : x_hb h 122 (x_mc 122 nw asd pa sts rf tx (nI N) (hs.map nI) rd so ah ar tr bg fo bc br bk le fr nu od sp wr ha) := hb
  have A := xA.of hb (Nat.zero_lt_succ _)
  obtain ⟨z1, z2, z3, z4, z5, z6, z7, z8, z9, z10⟩ := hz
  obtain ⟨le', fr', nu', sp', od', wr', ⟨w1, w2, w3, _, w5⟩, c⟩ := c_isRead hb (by decide) hl hN z8 z9 z10
  have w6 := w5 hp
  rw [if_neg (by rw [hp]; decide)] at c
  clear w5
  generalize (pR tx N).2.1 = p at w6 ⊢
  have A1 := A.on (cs2 := (x_mc 122 nw asd pa sts rf tx (nI N) (hs.map nI) rd so ah ar tr bg fo bc br bk (le') (fr') (nu') (od') (sp') (wr') ha)) rfl
  obtain ⟨M1, F1⟩ := mX_A (nw := nw) (asd := asd) (le := le') (fr := fr') (nu := nu') (od := od') (sp := sp') (wr := wr') ⟨z1, z2, z3, z4, z5, z6, z7, w1, w2, w3⟩ A1
  have hb1 := A1.hb
  clear A1
  generalize x_wr h 122 (x_mc 122 nw asd pa sts rf tx (nI N) (hs.map nI) rd so ah ar tr bg fo bc br bk (le') (fr') (nu') (od') (sp') (wr') ha) = h1 at c M1 F1 hb1
  refine ⟨h1, ?_, M1.w, F1⟩
  rw [← w6]
  refine xK_X8_does (hb 0 _ rfl) (xe_X8_does_0 ?_)
  (repeat (first | (simp only [xb_X8_does_0, xb_X8_does_15, xb_X8_does_17, xb_X8_does_42, xb_X8_does_44, xb_X8_does_70, xb_X8_does_76, xs_nil, Nat.reduceAdd, true_implies, not_true_eq_false, not_false_eq_true, false_implies, and_true, true_and, x_10, xs_aload_n_0, xs_if_ne, xs_bipush_m10, xs_isub, xs_ireturn, xs_iconst_0, xs_istore_n_1_i, xs_istore_n_1_a, xs_istore_n_1_n, xs_istore_n_1_l, xs_iload_n_1, xs_sipush_149, xs_icmp_ge, xs_iinc_1_1_i, xs_iinc_1_1_a, xs_iinc_1_1_n, xs_goto, xs_sipush_m1000]) | refine xc_v1_1 (c) (Nat.le_of_ble_eq_true rfl) ?_ | (refine xr_getf (hb1 0 _ rfl) (by rfl) ?_)))
  (first | exact ⟨Or.inl trivial, rfl⟩ | exact ⟨Or.inl trivial, rfl, rfl⟩ | (simp; done) | exact ⟨by simp, rfl⟩ | exact ⟨by simp, rfl, rfl⟩ | rfl)
theorem m8_does_ok (M : mW h nw pa (nI ct) rf tx (nI N)) (hR : Rl s nw) (hk : kcok k) (h0c : ch0 k.2.1) (hct : ct ≤ 6) (lp : pa.length = 894) (hl : tx.length = 120) (hN : N ≤ 120) (hp : (pR tx N).1 = true) (S : oA (pR tx N).2.2 (pR tx N).2.2.1.length 0 s k q b s' k') : (b = false → ∃ h2, xK 165 [.ref 122] h (some (.int (-1000 - nI q))) h2 ∧ mW h2 nw pa (nI ct) rf tx (nI N) ∧ mF h h2 ∧ ch0 k'.2.1) ∧ (b = true → ∃ nw' h2, xK 165 [.ref 122] h (some (.int (nI (pR tx N).2.2.1.length))) h2 ∧ mW h2 nw' (remem pa nw ct) (nI (min (ct + 1) 6)) rf tx (nI N) ∧ mF h h2 ∧ Rl s' nw' ∧ ch0 k'.2.1) := by
  have ln := hR.2.1.1
  obtain ⟨⟨asd, hs, rd, so, ah, ar, tr, bg, fo, bc, br, bk, le, fr, nu, od, sp, wr, ha⟩, hz, hb⟩ := M
  have hb : x_hb h 122 (x_mc 122 nw asd pa (nI ct) rf tx (nI N) (hs.map nI) rd so ah ar tr bg fo bc br bk le fr nu od sp wr ha) := hb
  have A := xA.of hb (Nat.zero_lt_succ _)
  obtain ⟨z1, z2, z3, z4, z5, z6, z7, z8, z9, z10⟩ := hz
  obtain ⟨le', fr', nu', sp', od', wr', ⟨w1, w2, w3, w4, _⟩, c⟩ := c_isRead hb (by decide) hl hN z8 z9 z10
  obtain ⟨e5, w6, w7⟩ := w4 hp
  obtain ⟨hO, h3⟩ := pR_ok hp
  rw [if_pos hp] at c
  have A1 := A.on (cs2 := (x_mc 122 nw asd pa (nI ct) rf tx (nI N) (hs.map nI) rd so ah ar tr bg fo bc br bk (le') (fr') (nu') (od') (sp') (wr') ha)) rfl
  obtain ⟨M1, F1⟩ := mX_A (nw := nw) (asd := asd) (le := le') (fr := fr') (nu := nu') (od := od') (sp := sp') (wr := wr') ⟨z1, z2, z3, z4, z5, z6, z7, w1, w2, w3⟩ A1
  clear A1
  generalize x_wr h 122 (x_mc 122 nw asd pa (nI ct) rf tx (nI N) (hs.map nI) rd so ah ar tr bg fo bc br bk (le') (fr') (nu') (od') (sp') (wr') ha) = h1 at c M1 F1
  clear w4
  generalize (pR tx N).2.2 = O at e5 w6 w7 hO h3 S ⊢
  subst e5
  obtain ⟨h2, M2, F2, p2⟩ := l_aside2 ln 149 0 asd h1 M1 F1 (fun m hm => absurd hm (Nat.not_lt_zero _)) (by omega)
  obtain ⟨nw3, h3', M3, F3, R3, K3, C3, w⟩ := l_does8 hO (by omega) w6 w7 O.1.length 0 s k nw h2 M2 F2 hR hk h0c (by omega) S
  have lead : ∀ (r : Option Value) (h' : xH), x_EV 165 44 [some (.ref 122), some (.int (nI 0))] [] h2 r h' → xK 165 [.ref 122] h r h' := by
    intro r h' H
    refine xK_X8_does (hb 0 _ rfl) (xe_X8_does_0 ?_)
    (repeat (first | (simp only [xb_X8_does_0, xb_X8_does_15, xb_X8_does_17, xb_X8_does_42, xb_X8_does_44, xb_X8_does_70, xb_X8_does_76, xs_nil, Nat.reduceAdd, true_implies, not_true_eq_false, not_false_eq_true, false_implies, and_true, true_and, x_10, xs_aload_n_0, xs_if_ne, xs_bipush_m10, xs_isub, xs_ireturn, xs_iconst_0, xs_istore_n_1_i, xs_istore_n_1_a, xs_istore_n_1_n, xs_istore_n_1_l, xs_iload_n_1, xs_sipush_149, xs_icmp_ge, xs_iinc_1_1_i, xs_iinc_1_1_a, xs_iinc_1_1_n, xs_goto, xs_sipush_m1000]) | refine xc_v1_1 (c) (Nat.le_of_ble_eq_true rfl) ?_))
    refine xe_X8_does_15 ?_
    (repeat (first | (simp only [xb_X8_does_0, xb_X8_does_15, xb_X8_does_17, xb_X8_does_42, xb_X8_does_44, xb_X8_does_70, xb_X8_does_76, xs_nil, Nat.reduceAdd, true_implies, not_true_eq_false, not_false_eq_true, false_implies, and_true, true_and, x_10, xs_aload_n_0, xs_if_ne, xs_bipush_m10, xs_isub, xs_ireturn, xs_iconst_0, xs_istore_n_1_i, xs_istore_n_1_a, xs_istore_n_1_n, xs_istore_n_1_l, xs_iload_n_1, xs_sipush_149, xs_icmp_ge, xs_iinc_1_1_i, xs_iinc_1_1_a, xs_iinc_1_1_n, xs_goto, xs_sipush_m1000]) ))
    refine p2 r h' (xe_X8_does_42 ?_)
    (repeat (first | (simp only [xb_X8_does_0, xb_X8_does_15, xb_X8_does_17, xb_X8_does_42, xb_X8_does_44, xb_X8_does_70, xb_X8_does_76, xs_nil, Nat.reduceAdd, true_implies, not_true_eq_false, not_false_eq_true, false_implies, and_true, true_and, x_10, xs_aload_n_0, xs_if_ne, xs_bipush_m10, xs_isub, xs_ireturn, xs_iconst_0, xs_istore_n_1_i, xs_istore_n_1_a, xs_istore_n_1_n, xs_istore_n_1_l, xs_iload_n_1, xs_sipush_149, xs_icmp_ge, xs_iinc_1_1_i, xs_iinc_1_1_a, xs_iinc_1_1_n, xs_goto, xs_sipush_m1000]) ))
    exact H
  obtain ⟨h4, p4, M4, F4⟩ := mX_turns M3 R3.2.1.1
  refine ⟨fun hbf => ?_, fun hbt => ?_⟩
  · exact ⟨h4, lead _ _ (w _ _ (fun z => absurd (hbf.symm.trans z) (by decide)) (fun _ => ⟨p4, rfl⟩)), M4.w, F3.trans F4, C3⟩
  · obtain ⟨h5, p5, M5, F5⟩ := mX_remembers M4 hct lp ln
    obtain ⟨h6, p6, M6, F6⟩ := mX_turns M5 ln
    refine ⟨nw3, h6, lead _ _ (w _ _ (fun _ => ?_) (fun z => absurd (hbt.symm.trans z) (by decide))), M6.w, ((F3.trans F4).trans F5).trans F6, R3, C3⟩
    obtain ⟨hs, rd, so, ah, ar, tr, bg, fo, bc, br, bk, sp, wr, ha, hz, hb6⟩ := M6
    refine xe_X8_does_76 ?_
    (repeat (first | (simp only [xb_X8_does_0, xb_X8_does_15, xb_X8_does_17, xb_X8_does_42, xb_X8_does_44, xb_X8_does_70, xb_X8_does_76, xs_nil, Nat.reduceAdd, true_implies, not_true_eq_false, not_false_eq_true, false_implies, and_true, true_and, x_10, xs_aload_n_0, xs_if_ne, xs_bipush_m10, xs_isub, xs_ireturn, xs_iconst_0, xs_istore_n_1_i, xs_istore_n_1_a, xs_istore_n_1_n, xs_istore_n_1_l, xs_iload_n_1, xs_sipush_149, xs_icmp_ge, xs_iinc_1_1_i, xs_iinc_1_1_a, xs_iinc_1_1_n, xs_goto, xs_sipush_m1000]) | refine xc_v1_0 (p4) (Nat.le_of_ble_eq_true rfl) ?_ | refine xc_v1_0 (p5) (Nat.le_of_ble_eq_true rfl) ?_ | refine xc_v1_0 (p6) (Nat.le_of_ble_eq_true rfl) ?_ | (refine xr_getf (hb6 0 _ rfl) (by rfl) ?_)))
    (first | exact ⟨Or.inl trivial, rfl⟩ | exact ⟨Or.inl trivial, rfl, rfl⟩ | (simp; done) | exact ⟨by simp, rfl⟩ | exact ⟨by simp, rfl, rfl⟩ | rfl)
end MG
