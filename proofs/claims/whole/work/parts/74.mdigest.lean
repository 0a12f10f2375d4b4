/-! digest: the reference -/
section MD
variable {ys : List Int32} {h : xH} {s : kS} {k : kC} {sh : Nat → kS} {nx ct : Nat} {tx : List Int32} {ln byt sts : Int32} {rf : List Int32} {nw pa : List Int32} {D a y : Int64}
theorem m8_mix (M : mWh h nw pa sts rf tx byt a) : ∃ h2, xK 175 [.ref 122, .long y] h none h2 ∧ mWh h2 nw pa sts rf tx byt (Int64.ofNat 31 * a + y) ∧ mF h h2 := by
  obtain ⟨⟨asd, hs, rd, so, ah, ar, tr, bg, fo, bc, br, bk, le, fr, nu, od, sp, wr, ha⟩, hz, ea, hb⟩ := M
  have hb : x_hb h 122 (x_mc 122 nw asd pa sts rf tx byt (hs.map nI) rd so ah ar tr bg fo bc br bk le fr nu od sp wr ha) := hb
  have A := xA.of hb (Nat.zero_lt_succ _)
  have c := c_mix (y1 := y) hb (by decide)
  have ea : ha = a := ea
  subst ea
  generalize Int64.ofNat 31 * ha + y = v at c ⊢
  obtain ⟨z1, z2, z3, z4, z5, z6, z7, z8, z9, z10⟩ := hz
  exact ⟨_, c, mWh_A (z' := ((asd, hs, rd, so, ah, ar, tr, bg, fo, bc, br, bk, le, fr, nu, od, sp, wr, (v)) : mZ)) ⟨z1, z2, z3, z4, z5, z6, z7, z8, z9, z10⟩ rfl (A.on rfl)⟩
theorem lm_told (hR : Rl s nw) (hr : rf.length = 3) : ∀ (d q : Nat) (h : xH), mWh h nw pa (nI ct) rf tx byt (dg (tv s ct byt rf) D q) → q + d = 9 → ∃ h2, mWh h2 nw pa (nI ct) rf tx byt (dg (tv s ct byt rf) D 9) ∧ mF h h2 ∧ ∀ (b rr : Option Value) (hh : xH), (∀ a : Option Value, x_EV 176 31 [some (.ref 122), a, b] [] h2 rr hh) → x_EV 176 9 [some (.ref 122), some (.int (nI q)), b] [] h rr hh := by
  intro d
  induction d with
  | zero =>
    intro q h M hq
    have eq : q = 9 := by omega
    subst eq
    refine ⟨h, M, mF.refl h, fun b rr hh H => ?_⟩
    refine xe_X8_digest_9 ?_
    (repeat (first | (simp only [xb_X8_digest_0, xb_X8_digest_9, xb_X8_digest_31, xb_X8_digest_33, xb_X8_digest_55, xb_X8_digest_57, xb_X8_digest_70, xb_X8_digest_93, xb_X8_digest_99, xb_X8_digest_101, xb_X8_digest_134, xb_X8_digest_136, xb_X8_digest_162, xb_X8_digest_164, xb_X8_digest_189, xs_nil, Nat.reduceAdd, true_implies, not_true_eq_false, not_false_eq_true, false_implies, and_true, true_and, x_10, xs_aload_n_0, xs_ldc2, xs_iconst_0, xs_istore_n_1_i, xs_istore_n_1_a, xs_istore_n_1_n, xs_istore_n_1_l, xs_iload_n_1, xs_bipush_9, xs_icmp_ge, xs_i2l, xs_iinc_1_1_i, xs_iinc_1_1_a, xs_iinc_1_1_n, xs_goto, xs_bipush_7, xs_iconst_1, xs_bipush_118, xs_icmp_gt, xs_istore_n_2_i, xs_istore_n_2_a, xs_istore_n_2_n, xs_istore_n_2_l, xs_iload_n_2, xs_bipush_6, xs_iinc_2_1_i, xs_iinc_2_1_a, xs_iinc_2_1_n, xs_iconst_3, xs_bipush_78, xs_imul, xs_bipush_79, xs_iadd, xs_bipush_72, xs_lreturn]) ))
    exact ⟨fun _ => H _, fun z => absurd (nI_le (a := 9) (b := 9) (by decide) (by decide)) z⟩
  | succ d ih =>
    intro q h M hq
    have c := m8_toldOf M.mW hR hr (i := q) (by omega)
    obtain ⟨h1, p1, M1, F1⟩ := m8_mix (y := (tv s ct byt rf q).toInt64) M
    obtain ⟨h2, M2, F2, H2⟩ := ih (q + 1) h1 M1 (by omega)
    refine ⟨h2, M2, F1.trans F2, fun b rr hh H => ?_⟩
    have := H2 b rr hh H
    refine xe_X8_digest_9 ?_
    (repeat (first | (simp only [xb_X8_digest_0, xb_X8_digest_9, xb_X8_digest_31, xb_X8_digest_33, xb_X8_digest_55, xb_X8_digest_57, xb_X8_digest_70, xb_X8_digest_93, xb_X8_digest_99, xb_X8_digest_101, xb_X8_digest_134, xb_X8_digest_136, xb_X8_digest_162, xb_X8_digest_164, xb_X8_digest_189, xs_nil, Nat.reduceAdd, true_implies, not_true_eq_false, not_false_eq_true, false_implies, and_true, true_and, x_10, xs_aload_n_0, xs_ldc2, xs_iconst_0, xs_istore_n_1_i, xs_istore_n_1_a, xs_istore_n_1_n, xs_istore_n_1_l, xs_iload_n_1, xs_bipush_9, xs_icmp_ge, xs_i2l, xs_iinc_1_1_i, xs_iinc_1_1_a, xs_iinc_1_1_n, xs_goto, xs_bipush_7, xs_iconst_1, xs_bipush_118, xs_icmp_gt, xs_istore_n_2_i, xs_istore_n_2_a, xs_istore_n_2_n, xs_istore_n_2_l, xs_iload_n_2, xs_bipush_6, xs_iinc_2_1_i, xs_iinc_2_1_a, xs_iinc_2_1_n, xs_iconst_3, xs_bipush_78, xs_imul, xs_bipush_79, xs_iadd, xs_bipush_72, xs_lreturn]) ))
    refine ⟨fun z => absurd z (nI_ge (b := 9) (by omega) (by decide)), fun _ => ?_⟩
    (repeat (first | (simp only [xb_X8_digest_0, xb_X8_digest_9, xb_X8_digest_31, xb_X8_digest_33, xb_X8_digest_55, xb_X8_digest_57, xb_X8_digest_70, xb_X8_digest_93, xb_X8_digest_99, xb_X8_digest_101, xb_X8_digest_134, xb_X8_digest_136, xb_X8_digest_162, xb_X8_digest_164, xb_X8_digest_189, xs_nil, Nat.reduceAdd, true_implies, not_true_eq_false, not_false_eq_true, false_implies, and_true, true_and, x_10, xs_aload_n_0, xs_ldc2, xs_iconst_0, xs_istore_n_1_i, xs_istore_n_1_a, xs_istore_n_1_n, xs_istore_n_1_l, xs_iload_n_1, xs_bipush_9, xs_icmp_ge, xs_i2l, xs_iinc_1_1_i, xs_iinc_1_1_a, xs_iinc_1_1_n, xs_goto, xs_bipush_7, xs_iconst_1, xs_bipush_118, xs_icmp_gt, xs_istore_n_2_i, xs_istore_n_2_a, xs_istore_n_2_n, xs_istore_n_2_l, xs_iload_n_2, xs_bipush_6, xs_iinc_2_1_i, xs_iinc_2_1_a, xs_iinc_2_1_n, xs_iconst_3, xs_bipush_78, xs_imul, xs_bipush_79, xs_iadd, xs_bipush_72, xs_lreturn]) | refine xc_v2_1 (c) (Nat.le_of_ble_eq_true rfl) ?_ | refine xc_v2_0 (p1) (Nat.le_of_ble_eq_true rfl) ?_))
    rw [nI_1]
    exact this
theorem lm_held (hR : Rl s nw) : ∀ (d q : Nat) (h : xH), mWh h nw pa sts rf tx byt (dg (hval s) D q) → q + d = 7 → ∃ h2, mWh h2 nw pa sts rf tx byt (dg (hval s) D 7) ∧ mF h h2 ∧ ∀ (b rr : Option Value) (hh : xH), (∀ a : Option Value, x_EV 176 55 [some (.ref 122), a, b] [] h2 rr hh) → x_EV 176 33 [some (.ref 122), some (.int (nI q)), b] [] h rr hh := by
  intro d
  induction d with
  | zero =>
    intro q h M hq
    have eq : q = 7 := by omega
    subst eq
    refine ⟨h, M, mF.refl h, fun b rr hh H => ?_⟩
    refine xe_X8_digest_33 ?_
    (repeat (first | (simp only [xb_X8_digest_0, xb_X8_digest_9, xb_X8_digest_31, xb_X8_digest_33, xb_X8_digest_55, xb_X8_digest_57, xb_X8_digest_70, xb_X8_digest_93, xb_X8_digest_99, xb_X8_digest_101, xb_X8_digest_134, xb_X8_digest_136, xb_X8_digest_162, xb_X8_digest_164, xb_X8_digest_189, xs_nil, Nat.reduceAdd, true_implies, not_true_eq_false, not_false_eq_true, false_implies, and_true, true_and, x_10, xs_aload_n_0, xs_ldc2, xs_iconst_0, xs_istore_n_1_i, xs_istore_n_1_a, xs_istore_n_1_n, xs_istore_n_1_l, xs_iload_n_1, xs_bipush_9, xs_icmp_ge, xs_i2l, xs_iinc_1_1_i, xs_iinc_1_1_a, xs_iinc_1_1_n, xs_goto, xs_bipush_7, xs_iconst_1, xs_bipush_118, xs_icmp_gt, xs_istore_n_2_i, xs_istore_n_2_a, xs_istore_n_2_n, xs_istore_n_2_l, xs_iload_n_2, xs_bipush_6, xs_iinc_2_1_i, xs_iinc_2_1_a, xs_iinc_2_1_n, xs_iconst_3, xs_bipush_78, xs_imul, xs_bipush_79, xs_iadd, xs_bipush_72, xs_lreturn]) ))
    exact ⟨fun _ => H _, fun z => absurd (nI_le (a := 7) (b := 7) (by decide) (by decide)) z⟩
  | succ d ih =>
    intro q h M hq
    obtain ⟨h0, c, M0, F0⟩ := m8_aboutHeld M hR (i := q) (by omega)
    obtain ⟨h1, p1, M1, F1⟩ := m8_mix (y := (hval s q).toInt64) M0
    obtain ⟨h2, M2, F2, H2⟩ := ih (q + 1) h1 M1 (by omega)
    refine ⟨h2, M2, (F0.trans F1).trans F2, fun b rr hh H => ?_⟩
    have := H2 b rr hh H
    refine xe_X8_digest_33 ?_
    (repeat (first | (simp only [xb_X8_digest_0, xb_X8_digest_9, xb_X8_digest_31, xb_X8_digest_33, xb_X8_digest_55, xb_X8_digest_57, xb_X8_digest_70, xb_X8_digest_93, xb_X8_digest_99, xb_X8_digest_101, xb_X8_digest_134, xb_X8_digest_136, xb_X8_digest_162, xb_X8_digest_164, xb_X8_digest_189, xs_nil, Nat.reduceAdd, true_implies, not_true_eq_false, not_false_eq_true, false_implies, and_true, true_and, x_10, xs_aload_n_0, xs_ldc2, xs_iconst_0, xs_istore_n_1_i, xs_istore_n_1_a, xs_istore_n_1_n, xs_istore_n_1_l, xs_iload_n_1, xs_bipush_9, xs_icmp_ge, xs_i2l, xs_iinc_1_1_i, xs_iinc_1_1_a, xs_iinc_1_1_n, xs_goto, xs_bipush_7, xs_iconst_1, xs_bipush_118, xs_icmp_gt, xs_istore_n_2_i, xs_istore_n_2_a, xs_istore_n_2_n, xs_istore_n_2_l, xs_iload_n_2, xs_bipush_6, xs_iinc_2_1_i, xs_iinc_2_1_a, xs_iinc_2_1_n, xs_iconst_3, xs_bipush_78, xs_imul, xs_bipush_79, xs_iadd, xs_bipush_72, xs_lreturn]) ))
    refine ⟨fun z => absurd z (nI_ge (b := 7) (by omega) (by decide)), fun _ => ?_⟩
    (repeat (first | (simp only [xb_X8_digest_0, xb_X8_digest_9, xb_X8_digest_31, xb_X8_digest_33, xb_X8_digest_55, xb_X8_digest_57, xb_X8_digest_70, xb_X8_digest_93, xb_X8_digest_99, xb_X8_digest_101, xb_X8_digest_134, xb_X8_digest_136, xb_X8_digest_162, xb_X8_digest_164, xb_X8_digest_189, xs_nil, Nat.reduceAdd, true_implies, not_true_eq_false, not_false_eq_true, false_implies, and_true, true_and, x_10, xs_aload_n_0, xs_ldc2, xs_iconst_0, xs_istore_n_1_i, xs_istore_n_1_a, xs_istore_n_1_n, xs_istore_n_1_l, xs_iload_n_1, xs_bipush_9, xs_icmp_ge, xs_i2l, xs_iinc_1_1_i, xs_iinc_1_1_a, xs_iinc_1_1_n, xs_goto, xs_bipush_7, xs_iconst_1, xs_bipush_118, xs_icmp_gt, xs_istore_n_2_i, xs_istore_n_2_a, xs_istore_n_2_n, xs_istore_n_2_l, xs_iload_n_2, xs_bipush_6, xs_iinc_2_1_i, xs_iinc_2_1_a, xs_iinc_2_1_n, xs_iconst_3, xs_bipush_78, xs_imul, xs_bipush_79, xs_iadd, xs_bipush_72, xs_lreturn]) | refine xc_v2_1 (c) (Nat.le_of_ble_eq_true rfl) ?_ | refine xc_v2_0 (p1) (Nat.le_of_ble_eq_true rfl) ?_))
    rw [nI_1]
    exact this
theorem lm_word (hR : Rl s nw) {w : Nat} (h1 : 1 ≤ w) (hw : w ≤ sn s) : ∀ (d q : Nat) (h : xH), mWh h nw pa sts rf tx byt (dg (wval s w) D q) → q + d = 6 → ∃ h2, mWh h2 nw pa sts rf tx byt (dg (wval s w) D 6) ∧ mF h h2 ∧ ∀ (rr : Option Value) (hh : xH), (∀ a : Option Value, x_EV 176 93 [some (.ref 122), some (.int (nI w)), a] [] h2 rr hh) → x_EV 176 70 [some (.ref 122), some (.int (nI w)), some (.int (nI q))] [] h rr hh := by
  intro d
  induction d with
  | zero =>
    intro q h M hq
    have eq : q = 6 := by omega
    subst eq
    refine ⟨h, M, mF.refl h, fun rr hh H => ?_⟩
    refine xe_X8_digest_70 ?_
    (repeat (first | (simp only [xb_X8_digest_0, xb_X8_digest_9, xb_X8_digest_31, xb_X8_digest_33, xb_X8_digest_55, xb_X8_digest_57, xb_X8_digest_70, xb_X8_digest_93, xb_X8_digest_99, xb_X8_digest_101, xb_X8_digest_134, xb_X8_digest_136, xb_X8_digest_162, xb_X8_digest_164, xb_X8_digest_189, xs_nil, Nat.reduceAdd, true_implies, not_true_eq_false, not_false_eq_true, false_implies, and_true, true_and, x_10, xs_aload_n_0, xs_ldc2, xs_iconst_0, xs_istore_n_1_i, xs_istore_n_1_a, xs_istore_n_1_n, xs_istore_n_1_l, xs_iload_n_1, xs_bipush_9, xs_icmp_ge, xs_i2l, xs_iinc_1_1_i, xs_iinc_1_1_a, xs_iinc_1_1_n, xs_goto, xs_bipush_7, xs_iconst_1, xs_bipush_118, xs_icmp_gt, xs_istore_n_2_i, xs_istore_n_2_a, xs_istore_n_2_n, xs_istore_n_2_l, xs_iload_n_2, xs_bipush_6, xs_iinc_2_1_i, xs_iinc_2_1_a, xs_iinc_2_1_n, xs_iconst_3, xs_bipush_78, xs_imul, xs_bipush_79, xs_iadd, xs_bipush_72, xs_lreturn]) ))
    exact ⟨fun _ => H _, fun z => absurd (nI_le (a := 6) (b := 6) (by decide) (by decide)) z⟩
  | succ d ih =>
    intro q h M hq
    obtain ⟨h0, c, M0, F0⟩ := m8_wordOf M hR h1 hw (i := q) (by omega)
    obtain ⟨h1', p1, M1, F1⟩ := m8_mix (y := (wval s w q).toInt64) M0
    obtain ⟨h2, M2, F2, H2⟩ := ih (q + 1) h1' M1 (by omega)
    refine ⟨h2, M2, (F0.trans F1).trans F2, fun rr hh H => ?_⟩
    have := H2 rr hh H
    refine xe_X8_digest_70 ?_
    (repeat (first | (simp only [xb_X8_digest_0, xb_X8_digest_9, xb_X8_digest_31, xb_X8_digest_33, xb_X8_digest_55, xb_X8_digest_57, xb_X8_digest_70, xb_X8_digest_93, xb_X8_digest_99, xb_X8_digest_101, xb_X8_digest_134, xb_X8_digest_136, xb_X8_digest_162, xb_X8_digest_164, xb_X8_digest_189, xs_nil, Nat.reduceAdd, true_implies, not_true_eq_false, not_false_eq_true, false_implies, and_true, true_and, x_10, xs_aload_n_0, xs_ldc2, xs_iconst_0, xs_istore_n_1_i, xs_istore_n_1_a, xs_istore_n_1_n, xs_istore_n_1_l, xs_iload_n_1, xs_bipush_9, xs_icmp_ge, xs_i2l, xs_iinc_1_1_i, xs_iinc_1_1_a, xs_iinc_1_1_n, xs_goto, xs_bipush_7, xs_iconst_1, xs_bipush_118, xs_icmp_gt, xs_istore_n_2_i, xs_istore_n_2_a, xs_istore_n_2_n, xs_istore_n_2_l, xs_iload_n_2, xs_bipush_6, xs_iinc_2_1_i, xs_iinc_2_1_a, xs_iinc_2_1_n, xs_iconst_3, xs_bipush_78, xs_imul, xs_bipush_79, xs_iadd, xs_bipush_72, xs_lreturn]) ))
    refine ⟨fun z => absurd z (nI_ge (b := 6) (by omega) (by decide)), fun _ => ?_⟩
    (repeat (first | (simp only [xb_X8_digest_0, xb_X8_digest_9, xb_X8_digest_31, xb_X8_digest_33, xb_X8_digest_55, xb_X8_digest_57, xb_X8_digest_70, xb_X8_digest_93, xb_X8_digest_99, xb_X8_digest_101, xb_X8_digest_134, xb_X8_digest_136, xb_X8_digest_162, xb_X8_digest_164, xb_X8_digest_189, xs_nil, Nat.reduceAdd, true_implies, not_true_eq_false, not_false_eq_true, false_implies, and_true, true_and, x_10, xs_aload_n_0, xs_ldc2, xs_iconst_0, xs_istore_n_1_i, xs_istore_n_1_a, xs_istore_n_1_n, xs_istore_n_1_l, xs_iload_n_1, xs_bipush_9, xs_icmp_ge, xs_i2l, xs_iinc_1_1_i, xs_iinc_1_1_a, xs_iinc_1_1_n, xs_goto, xs_bipush_7, xs_iconst_1, xs_bipush_118, xs_icmp_gt, xs_istore_n_2_i, xs_istore_n_2_a, xs_istore_n_2_n, xs_istore_n_2_l, xs_iload_n_2, xs_bipush_6, xs_iinc_2_1_i, xs_iinc_2_1_a, xs_iinc_2_1_n, xs_iconst_3, xs_bipush_78, xs_imul, xs_bipush_79, xs_iadd, xs_bipush_72, xs_lreturn]) | refine xc_v3_1 (c) (Nat.le_of_ble_eq_true rfl) ?_ | refine xc_v2_0 (p1) (Nat.le_of_ble_eq_true rfl) ?_))
    rw [nI_1]
    exact this
theorem lm_words (hR : Rl s nw) : ∀ (d q : Nat) (h : xH), mWh h nw pa sts rf tx byt (dgw s D q) → q + d = sn s → ∃ h2, mWh h2 nw pa sts rf tx byt (dgw s D (sn s)) ∧ mF h h2 ∧ ∀ (b rr : Option Value) (hh : xH), (∀ a b : Option Value, x_EV 176 99 [some (.ref 122), a, b] [] h2 rr hh) → x_EV 176 57 [some (.ref 122), some (.int (nI (q + 1))), b] [] h rr hh := by
  have h6 := hR.1.n6
  have e118 := hR.e118
  have i118 := hR.i118
  intro d
  induction d with
  | zero =>
    intro q h M hq
    have eq : q = sn s := by omega
    rw [eq] at M
    refine ⟨h, M, mF.refl h, fun b rr hh H => ?_⟩
    obtain ⟨z, _, _, hb⟩ := M
    refine xe_X8_digest_57 ?_
    (repeat (first | (simp only [xb_X8_digest_0, xb_X8_digest_9, xb_X8_digest_31, xb_X8_digest_33, xb_X8_digest_55, xb_X8_digest_57, xb_X8_digest_70, xb_X8_digest_93, xb_X8_digest_99, xb_X8_digest_101, xb_X8_digest_134, xb_X8_digest_136, xb_X8_digest_162, xb_X8_digest_164, xb_X8_digest_189, xs_nil, Nat.reduceAdd, true_implies, not_true_eq_false, not_false_eq_true, false_implies, and_true, true_and, x_10, xs_aload_n_0, xs_ldc2, xs_iconst_0, xs_istore_n_1_i, xs_istore_n_1_a, xs_istore_n_1_n, xs_istore_n_1_l, xs_iload_n_1, xs_bipush_9, xs_icmp_ge, xs_i2l, xs_iinc_1_1_i, xs_iinc_1_1_a, xs_iinc_1_1_n, xs_goto, xs_bipush_7, xs_iconst_1, xs_bipush_118, xs_icmp_gt, xs_istore_n_2_i, xs_istore_n_2_a, xs_istore_n_2_n, xs_istore_n_2_l, xs_iload_n_2, xs_bipush_6, xs_iinc_2_1_i, xs_iinc_2_1_a, xs_iinc_2_1_n, xs_iconst_3, xs_bipush_78, xs_imul, xs_bipush_79, xs_iadd, xs_bipush_72, xs_lreturn]) | (refine xr_getf (hb 0 _ rfl) (by rfl) ?_) | (refine xr_iaload (hb 1 _ rfl) i118 ?_)))
    rw [e118]
    exact ⟨fun _ => H _ _, fun z => absurd (nI_lt (by omega) (by omega)) z⟩
  | succ d ih =>
    intro q h M hq
    obtain ⟨h1, M1, F1, H1⟩ := lm_word hR (w := q + 1) (by omega) (by omega) (D := dgw s D q) 6 0 h M (by omega)
    obtain ⟨z, _, _, hb⟩ := M
    have M1' : mWh h1 nw pa sts rf tx byt (dgw s D (q + 1)) := M1
    obtain ⟨h2, M2, F2, H2⟩ := ih (q + 1) h1 M1' (by omega)
    refine ⟨h2, M2, F1.trans F2, fun b rr hh H => ?_⟩
    refine xe_X8_digest_57 ?_
    (repeat (first | (simp only [xb_X8_digest_0, xb_X8_digest_9, xb_X8_digest_31, xb_X8_digest_33, xb_X8_digest_55, xb_X8_digest_57, xb_X8_digest_70, xb_X8_digest_93, xb_X8_digest_99, xb_X8_digest_101, xb_X8_digest_134, xb_X8_digest_136, xb_X8_digest_162, xb_X8_digest_164, xb_X8_digest_189, xs_nil, Nat.reduceAdd, true_implies, not_true_eq_false, not_false_eq_true, false_implies, and_true, true_and, x_10, xs_aload_n_0, xs_ldc2, xs_iconst_0, xs_istore_n_1_i, xs_istore_n_1_a, xs_istore_n_1_n, xs_istore_n_1_l, xs_iload_n_1, xs_bipush_9, xs_icmp_ge, xs_i2l, xs_iinc_1_1_i, xs_iinc_1_1_a, xs_iinc_1_1_n, xs_goto, xs_bipush_7, xs_iconst_1, xs_bipush_118, xs_icmp_gt, xs_istore_n_2_i, xs_istore_n_2_a, xs_istore_n_2_n, xs_istore_n_2_l, xs_iload_n_2, xs_bipush_6, xs_iinc_2_1_i, xs_iinc_2_1_a, xs_iinc_2_1_n, xs_iconst_3, xs_bipush_78, xs_imul, xs_bipush_79, xs_iadd, xs_bipush_72, xs_lreturn]) | (refine xr_getf (hb 0 _ rfl) (by rfl) ?_) | (refine xr_iaload (hb 1 _ rfl) i118 ?_)))
    rw [e118]
    refine ⟨fun z => absurd z (nI_nlt (by omega) (by omega)), fun _ => ?_⟩
    (repeat (first | (simp only [xb_X8_digest_0, xb_X8_digest_9, xb_X8_digest_31, xb_X8_digest_33, xb_X8_digest_55, xb_X8_digest_57, xb_X8_digest_70, xb_X8_digest_93, xb_X8_digest_99, xb_X8_digest_101, xb_X8_digest_134, xb_X8_digest_136, xb_X8_digest_162, xb_X8_digest_164, xb_X8_digest_189, xs_nil, Nat.reduceAdd, true_implies, not_true_eq_false, not_false_eq_true, false_implies, and_true, true_and, x_10, xs_aload_n_0, xs_ldc2, xs_iconst_0, xs_istore_n_1_i, xs_istore_n_1_a, xs_istore_n_1_n, xs_istore_n_1_l, xs_iload_n_1, xs_bipush_9, xs_icmp_ge, xs_i2l, xs_iinc_1_1_i, xs_iinc_1_1_a, xs_iinc_1_1_n, xs_goto, xs_bipush_7, xs_iconst_1, xs_bipush_118, xs_icmp_gt, xs_istore_n_2_i, xs_istore_n_2_a, xs_istore_n_2_n, xs_istore_n_2_l, xs_iload_n_2, xs_bipush_6, xs_iinc_2_1_i, xs_iinc_2_1_a, xs_iinc_2_1_n, xs_iconst_3, xs_bipush_78, xs_imul, xs_bipush_79, xs_iadd, xs_bipush_72, xs_lreturn]) ))
    refine H1 _ _ (fun a => ?_)
    refine xe_X8_digest_93 ?_
    (repeat (first | (simp only [xb_X8_digest_0, xb_X8_digest_9, xb_X8_digest_31, xb_X8_digest_33, xb_X8_digest_55, xb_X8_digest_57, xb_X8_digest_70, xb_X8_digest_93, xb_X8_digest_99, xb_X8_digest_101, xb_X8_digest_134, xb_X8_digest_136, xb_X8_digest_162, xb_X8_digest_164, xb_X8_digest_189, xs_nil, Nat.reduceAdd, true_implies, not_true_eq_false, not_false_eq_true, false_implies, and_true, true_and, x_10, xs_aload_n_0, xs_ldc2, xs_iconst_0, xs_istore_n_1_i, xs_istore_n_1_a, xs_istore_n_1_n, xs_istore_n_1_l, xs_iload_n_1, xs_bipush_9, xs_icmp_ge, xs_i2l, xs_iinc_1_1_i, xs_iinc_1_1_a, xs_iinc_1_1_n, xs_goto, xs_bipush_7, xs_iconst_1, xs_bipush_118, xs_icmp_gt, xs_istore_n_2_i, xs_istore_n_2_a, xs_istore_n_2_n, xs_istore_n_2_l, xs_iload_n_2, xs_bipush_6, xs_iinc_2_1_i, xs_iinc_2_1_a, xs_iinc_2_1_n, xs_iconst_3, xs_bipush_78, xs_imul, xs_bipush_79, xs_iadd, xs_bipush_72, xs_lreturn]) ))
    rw [nI_1]
    exact H2 a rr hh H
theorem lm_ent (hR : Rl s nw) : ∀ (d q : Nat) (h : xH), mWh h nw pa sts rf tx byt (dg (fun i => nw.getD (79 + i) 0) D q) → q + d = 3 * sne s → ∃ h2, mWh h2 nw pa sts rf tx byt (dg (fun i => nw.getD (79 + i) 0) D (3 * sne s)) ∧ mF h h2 ∧ ∀ (b rr : Option Value) (hh : xH), (∀ a : Option Value, x_EV 176 134 [some (.ref 122), a, b] [] h2 rr hh) → x_EV 176 101 [some (.ref 122), some (.int (nI q)), b] [] h rr hh := by
  have hne := hR.1.ne
  have hl := hR.2.1.1
  have e78 := hR.e78
  have i78 : xin 78 nw.length := by rw [hl]; exact x_in (k := 78) (by decide) (by decide)
  have e3 : (3 : Int32) * nI (sne s) = nI (3 * sne s) := pk_mul 3 (sne s)
  intro d
  induction d with
  | zero =>
    intro q h M hq
    have eq : q = 3 * sne s := by omega
    rw [eq] at M
    refine ⟨h, M, mF.refl h, fun b rr hh H => ?_⟩
    obtain ⟨z, _, _, hb⟩ := M
    refine xe_X8_digest_101 ?_
    (repeat (first | (simp only [xb_X8_digest_0, xb_X8_digest_9, xb_X8_digest_31, xb_X8_digest_33, xb_X8_digest_55, xb_X8_digest_57, xb_X8_digest_70, xb_X8_digest_93, xb_X8_digest_99, xb_X8_digest_101, xb_X8_digest_134, xb_X8_digest_136, xb_X8_digest_162, xb_X8_digest_164, xb_X8_digest_189, xs_nil, Nat.reduceAdd, true_implies, not_true_eq_false, not_false_eq_true, false_implies, and_true, true_and, x_10, xs_aload_n_0, xs_ldc2, xs_iconst_0, xs_istore_n_1_i, xs_istore_n_1_a, xs_istore_n_1_n, xs_istore_n_1_l, xs_iload_n_1, xs_bipush_9, xs_icmp_ge, xs_i2l, xs_iinc_1_1_i, xs_iinc_1_1_a, xs_iinc_1_1_n, xs_goto, xs_bipush_7, xs_iconst_1, xs_bipush_118, xs_icmp_gt, xs_istore_n_2_i, xs_istore_n_2_a, xs_istore_n_2_n, xs_istore_n_2_l, xs_iload_n_2, xs_bipush_6, xs_iinc_2_1_i, xs_iinc_2_1_a, xs_iinc_2_1_n, xs_iconst_3, xs_bipush_78, xs_imul, xs_bipush_79, xs_iadd, xs_bipush_72, xs_lreturn]) | (refine xr_getf (hb 0 _ rfl) (by rfl) ?_) | (refine xr_iaload (hb 1 _ rfl) i78 ?_)))
    rw [e78, e3]
    exact ⟨fun _ => H _, fun z => absurd (nI_le (by omega) (by omega)) z⟩
  | succ d ih =>
    intro q h M hq
    obtain ⟨h1, p1, M1, F1⟩ := m8_mix (y := (nw.getD (79 + q) 0).toInt64) M
    obtain ⟨h2, M2, F2, H2⟩ := ih (q + 1) h1 M1 (by omega)
    refine ⟨h2, M2, F1.trans F2, fun b rr hh H => ?_⟩
    have := H2 b rr hh H
    obtain ⟨z, _, _, hb⟩ := M
    have ei : (79 : Int32) + nI q = nI (79 + q) := nI_add 79 q
    refine xe_X8_digest_101 ?_
    (repeat (first | (simp only [xb_X8_digest_0, xb_X8_digest_9, xb_X8_digest_31, xb_X8_digest_33, xb_X8_digest_55, xb_X8_digest_57, xb_X8_digest_70, xb_X8_digest_93, xb_X8_digest_99, xb_X8_digest_101, xb_X8_digest_134, xb_X8_digest_136, xb_X8_digest_162, xb_X8_digest_164, xb_X8_digest_189, xs_nil, Nat.reduceAdd, true_implies, not_true_eq_false, not_false_eq_true, false_implies, and_true, true_and, x_10, xs_aload_n_0, xs_ldc2, xs_iconst_0, xs_istore_n_1_i, xs_istore_n_1_a, xs_istore_n_1_n, xs_istore_n_1_l, xs_iload_n_1, xs_bipush_9, xs_icmp_ge, xs_i2l, xs_iinc_1_1_i, xs_iinc_1_1_a, xs_iinc_1_1_n, xs_goto, xs_bipush_7, xs_iconst_1, xs_bipush_118, xs_icmp_gt, xs_istore_n_2_i, xs_istore_n_2_a, xs_istore_n_2_n, xs_istore_n_2_l, xs_iload_n_2, xs_bipush_6, xs_iinc_2_1_i, xs_iinc_2_1_a, xs_iinc_2_1_n, xs_iconst_3, xs_bipush_78, xs_imul, xs_bipush_79, xs_iadd, xs_bipush_72, xs_lreturn]) | (refine xr_getf (hb 0 _ rfl) (by rfl) ?_) | (refine xr_iaload (hb 1 _ rfl) i78 ?_)))
    rw [e78, e3]
    refine ⟨fun z => absurd z (nI_ge (by omega) (by omega)), fun _ => ?_⟩
    (repeat (first | (simp only [xb_X8_digest_0, xb_X8_digest_9, xb_X8_digest_31, xb_X8_digest_33, xb_X8_digest_55, xb_X8_digest_57, xb_X8_digest_70, xb_X8_digest_93, xb_X8_digest_99, xb_X8_digest_101, xb_X8_digest_134, xb_X8_digest_136, xb_X8_digest_162, xb_X8_digest_164, xb_X8_digest_189, xs_nil, Nat.reduceAdd, true_implies, not_true_eq_false, not_false_eq_true, false_implies, and_true, true_and, x_10, xs_aload_n_0, xs_ldc2, xs_iconst_0, xs_istore_n_1_i, xs_istore_n_1_a, xs_istore_n_1_n, xs_istore_n_1_l, xs_iload_n_1, xs_bipush_9, xs_icmp_ge, xs_i2l, xs_iinc_1_1_i, xs_iinc_1_1_a, xs_iinc_1_1_n, xs_goto, xs_bipush_7, xs_iconst_1, xs_bipush_118, xs_icmp_gt, xs_istore_n_2_i, xs_istore_n_2_a, xs_istore_n_2_n, xs_istore_n_2_l, xs_iload_n_2, xs_bipush_6, xs_iinc_2_1_i, xs_iinc_2_1_a, xs_iinc_2_1_n, xs_iconst_3, xs_bipush_78, xs_imul, xs_bipush_79, xs_iadd, xs_bipush_72, xs_lreturn]) | (refine xr_getf (hb 0 _ rfl) (by rfl) ?_)))
    rw [ei]
    (repeat (first | (simp only [xb_X8_digest_0, xb_X8_digest_9, xb_X8_digest_31, xb_X8_digest_33, xb_X8_digest_55, xb_X8_digest_57, xb_X8_digest_70, xb_X8_digest_93, xb_X8_digest_99, xb_X8_digest_101, xb_X8_digest_134, xb_X8_digest_136, xb_X8_digest_162, xb_X8_digest_164, xb_X8_digest_189, xs_nil, Nat.reduceAdd, true_implies, not_true_eq_false, not_false_eq_true, false_implies, and_true, true_and, x_10, xs_aload_n_0, xs_ldc2, xs_iconst_0, xs_istore_n_1_i, xs_istore_n_1_a, xs_istore_n_1_n, xs_istore_n_1_l, xs_iload_n_1, xs_bipush_9, xs_icmp_ge, xs_i2l, xs_iinc_1_1_i, xs_iinc_1_1_a, xs_iinc_1_1_n, xs_goto, xs_bipush_7, xs_iconst_1, xs_bipush_118, xs_icmp_gt, xs_istore_n_2_i, xs_istore_n_2_a, xs_istore_n_2_n, xs_istore_n_2_l, xs_iload_n_2, xs_bipush_6, xs_iinc_2_1_i, xs_iinc_2_1_a, xs_iinc_2_1_n, xs_iconst_3, xs_bipush_78, xs_imul, xs_bipush_79, xs_iadd, xs_bipush_72, xs_lreturn]) | (refine xr_iaload (hb 1 _ rfl) (by rw [hl]; exact x_in (by omega) (by decide)) ?_)))
    rw [xg_n (by omega)]
    (repeat (first | (simp only [xb_X8_digest_0, xb_X8_digest_9, xb_X8_digest_31, xb_X8_digest_33, xb_X8_digest_55, xb_X8_digest_57, xb_X8_digest_70, xb_X8_digest_93, xb_X8_digest_99, xb_X8_digest_101, xb_X8_digest_134, xb_X8_digest_136, xb_X8_digest_162, xb_X8_digest_164, xb_X8_digest_189, xs_nil, Nat.reduceAdd, true_implies, not_true_eq_false, not_false_eq_true, false_implies, and_true, true_and, x_10, xs_aload_n_0, xs_ldc2, xs_iconst_0, xs_istore_n_1_i, xs_istore_n_1_a, xs_istore_n_1_n, xs_istore_n_1_l, xs_iload_n_1, xs_bipush_9, xs_icmp_ge, xs_i2l, xs_iinc_1_1_i, xs_iinc_1_1_a, xs_iinc_1_1_n, xs_goto, xs_bipush_7, xs_iconst_1, xs_bipush_118, xs_icmp_gt, xs_istore_n_2_i, xs_istore_n_2_a, xs_istore_n_2_n, xs_istore_n_2_l, xs_iload_n_2, xs_bipush_6, xs_iinc_2_1_i, xs_iinc_2_1_a, xs_iinc_2_1_n, xs_iconst_3, xs_bipush_78, xs_imul, xs_bipush_79, xs_iadd, xs_bipush_72, xs_lreturn]) | refine xc_v2_0 (p1) (Nat.le_of_ble_eq_true rfl) ?_))
    rw [nI_1]
    exact this
theorem lm_root (hR : Rl s nw) : ∀ (d q : Nat) (h : xH), mWh h nw pa sts rf tx byt (dg (fun i => nw.getD (72 + i) 0) D q) → q + d = 6 → ∃ h2, mWh h2 nw pa sts rf tx byt (dg (fun i => nw.getD (72 + i) 0) D 6) ∧ mF h h2 ∧ ∀ (b rr : Option Value) (hh : xH), (∀ a : Option Value, x_EV 176 162 [some (.ref 122), a, b] [] h2 rr hh) → x_EV 176 136 [some (.ref 122), some (.int (nI q)), b] [] h rr hh := by
  have hl := hR.2.1.1
  intro d
  induction d with
  | zero =>
    intro q h M hq
    have eq : q = 6 := by omega
    subst eq
    refine ⟨h, M, mF.refl h, fun b rr hh H => ?_⟩
    refine xe_X8_digest_136 ?_
    (repeat (first | (simp only [xb_X8_digest_0, xb_X8_digest_9, xb_X8_digest_31, xb_X8_digest_33, xb_X8_digest_55, xb_X8_digest_57, xb_X8_digest_70, xb_X8_digest_93, xb_X8_digest_99, xb_X8_digest_101, xb_X8_digest_134, xb_X8_digest_136, xb_X8_digest_162, xb_X8_digest_164, xb_X8_digest_189, xs_nil, Nat.reduceAdd, true_implies, not_true_eq_false, not_false_eq_true, false_implies, and_true, true_and, x_10, xs_aload_n_0, xs_ldc2, xs_iconst_0, xs_istore_n_1_i, xs_istore_n_1_a, xs_istore_n_1_n, xs_istore_n_1_l, xs_iload_n_1, xs_bipush_9, xs_icmp_ge, xs_i2l, xs_iinc_1_1_i, xs_iinc_1_1_a, xs_iinc_1_1_n, xs_goto, xs_bipush_7, xs_iconst_1, xs_bipush_118, xs_icmp_gt, xs_istore_n_2_i, xs_istore_n_2_a, xs_istore_n_2_n, xs_istore_n_2_l, xs_iload_n_2, xs_bipush_6, xs_iinc_2_1_i, xs_iinc_2_1_a, xs_iinc_2_1_n, xs_iconst_3, xs_bipush_78, xs_imul, xs_bipush_79, xs_iadd, xs_bipush_72, xs_lreturn]) ))
    exact ⟨fun _ => H _, fun z => absurd (nI_le (a := 6) (b := 6) (by decide) (by decide)) z⟩
  | succ d ih =>
    intro q h M hq
    obtain ⟨h1, p1, M1, F1⟩ := m8_mix (y := (nw.getD (72 + q) 0).toInt64) M
    obtain ⟨h2, M2, F2, H2⟩ := ih (q + 1) h1 M1 (by omega)
    refine ⟨h2, M2, F1.trans F2, fun b rr hh H => ?_⟩
    have := H2 b rr hh H
    obtain ⟨z, _, _, hb⟩ := M
    have ei : (72 : Int32) + nI q = nI (72 + q) := nI_add 72 q
    refine xe_X8_digest_136 ?_
    (repeat (first | (simp only [xb_X8_digest_0, xb_X8_digest_9, xb_X8_digest_31, xb_X8_digest_33, xb_X8_digest_55, xb_X8_digest_57, xb_X8_digest_70, xb_X8_digest_93, xb_X8_digest_99, xb_X8_digest_101, xb_X8_digest_134, xb_X8_digest_136, xb_X8_digest_162, xb_X8_digest_164, xb_X8_digest_189, xs_nil, Nat.reduceAdd, true_implies, not_true_eq_false, not_false_eq_true, false_implies, and_true, true_and, x_10, xs_aload_n_0, xs_ldc2, xs_iconst_0, xs_istore_n_1_i, xs_istore_n_1_a, xs_istore_n_1_n, xs_istore_n_1_l, xs_iload_n_1, xs_bipush_9, xs_icmp_ge, xs_i2l, xs_iinc_1_1_i, xs_iinc_1_1_a, xs_iinc_1_1_n, xs_goto, xs_bipush_7, xs_iconst_1, xs_bipush_118, xs_icmp_gt, xs_istore_n_2_i, xs_istore_n_2_a, xs_istore_n_2_n, xs_istore_n_2_l, xs_iload_n_2, xs_bipush_6, xs_iinc_2_1_i, xs_iinc_2_1_a, xs_iinc_2_1_n, xs_iconst_3, xs_bipush_78, xs_imul, xs_bipush_79, xs_iadd, xs_bipush_72, xs_lreturn]) ))
    refine ⟨fun z => absurd z (nI_ge (b := 6) (by omega) (by decide)), fun _ => ?_⟩
    (repeat (first | (simp only [xb_X8_digest_0, xb_X8_digest_9, xb_X8_digest_31, xb_X8_digest_33, xb_X8_digest_55, xb_X8_digest_57, xb_X8_digest_70, xb_X8_digest_93, xb_X8_digest_99, xb_X8_digest_101, xb_X8_digest_134, xb_X8_digest_136, xb_X8_digest_162, xb_X8_digest_164, xb_X8_digest_189, xs_nil, Nat.reduceAdd, true_implies, not_true_eq_false, not_false_eq_true, false_implies, and_true, true_and, x_10, xs_aload_n_0, xs_ldc2, xs_iconst_0, xs_istore_n_1_i, xs_istore_n_1_a, xs_istore_n_1_n, xs_istore_n_1_l, xs_iload_n_1, xs_bipush_9, xs_icmp_ge, xs_i2l, xs_iinc_1_1_i, xs_iinc_1_1_a, xs_iinc_1_1_n, xs_goto, xs_bipush_7, xs_iconst_1, xs_bipush_118, xs_icmp_gt, xs_istore_n_2_i, xs_istore_n_2_a, xs_istore_n_2_n, xs_istore_n_2_l, xs_iload_n_2, xs_bipush_6, xs_iinc_2_1_i, xs_iinc_2_1_a, xs_iinc_2_1_n, xs_iconst_3, xs_bipush_78, xs_imul, xs_bipush_79, xs_iadd, xs_bipush_72, xs_lreturn]) | (refine xr_getf (hb 0 _ rfl) (by rfl) ?_)))
    rw [ei]
    (repeat (first | (simp only [xb_X8_digest_0, xb_X8_digest_9, xb_X8_digest_31, xb_X8_digest_33, xb_X8_digest_55, xb_X8_digest_57, xb_X8_digest_70, xb_X8_digest_93, xb_X8_digest_99, xb_X8_digest_101, xb_X8_digest_134, xb_X8_digest_136, xb_X8_digest_162, xb_X8_digest_164, xb_X8_digest_189, xs_nil, Nat.reduceAdd, true_implies, not_true_eq_false, not_false_eq_true, false_implies, and_true, true_and, x_10, xs_aload_n_0, xs_ldc2, xs_iconst_0, xs_istore_n_1_i, xs_istore_n_1_a, xs_istore_n_1_n, xs_istore_n_1_l, xs_iload_n_1, xs_bipush_9, xs_icmp_ge, xs_i2l, xs_iinc_1_1_i, xs_iinc_1_1_a, xs_iinc_1_1_n, xs_goto, xs_bipush_7, xs_iconst_1, xs_bipush_118, xs_icmp_gt, xs_istore_n_2_i, xs_istore_n_2_a, xs_istore_n_2_n, xs_istore_n_2_l, xs_iload_n_2, xs_bipush_6, xs_iinc_2_1_i, xs_iinc_2_1_a, xs_iinc_2_1_n, xs_iconst_3, xs_bipush_78, xs_imul, xs_bipush_79, xs_iadd, xs_bipush_72, xs_lreturn]) | (refine xr_iaload (hb 1 _ rfl) (by rw [hl]; exact x_in (by omega) (by decide)) ?_)))
    rw [xg_n (by omega)]
    (repeat (first | (simp only [xb_X8_digest_0, xb_X8_digest_9, xb_X8_digest_31, xb_X8_digest_33, xb_X8_digest_55, xb_X8_digest_57, xb_X8_digest_70, xb_X8_digest_93, xb_X8_digest_99, xb_X8_digest_101, xb_X8_digest_134, xb_X8_digest_136, xb_X8_digest_162, xb_X8_digest_164, xb_X8_digest_189, xs_nil, Nat.reduceAdd, true_implies, not_true_eq_false, not_false_eq_true, false_implies, and_true, true_and, x_10, xs_aload_n_0, xs_ldc2, xs_iconst_0, xs_istore_n_1_i, xs_istore_n_1_a, xs_istore_n_1_n, xs_istore_n_1_l, xs_iload_n_1, xs_bipush_9, xs_icmp_ge, xs_i2l, xs_iinc_1_1_i, xs_iinc_1_1_a, xs_iinc_1_1_n, xs_goto, xs_bipush_7, xs_iconst_1, xs_bipush_118, xs_icmp_gt, xs_istore_n_2_i, xs_istore_n_2_a, xs_istore_n_2_n, xs_istore_n_2_l, xs_iload_n_2, xs_bipush_6, xs_iinc_2_1_i, xs_iinc_2_1_a, xs_iinc_2_1_n, xs_iconst_3, xs_bipush_78, xs_imul, xs_bipush_79, xs_iadd, xs_bipush_72, xs_lreturn]) | refine xc_v2_0 (p1) (Nat.le_of_ble_eq_true rfl) ?_))
    rw [nI_1]
    exact this
theorem lm_rule (hR : Rl s nw) : ∀ (d q : Nat) (h : xH), mWh h nw pa sts rf tx byt (dg (fun i => nw.getD i 0) D q) → q + d = 72 → ∃ h2, mWh h2 nw pa sts rf tx byt (dg (fun i => nw.getD i 0) D 72) ∧ mF h h2 ∧ ∀ (b rr : Option Value) (hh : xH), (∀ a : Option Value, x_EV 176 189 [some (.ref 122), a, b] [] h2 rr hh) → x_EV 176 164 [some (.ref 122), some (.int (nI q)), b] [] h rr hh := by
  have hl := hR.2.1.1
  intro d
  induction d with
  | zero =>
    intro q h M hq
    have eq : q = 72 := by omega
    subst eq
    refine ⟨h, M, mF.refl h, fun b rr hh H => ?_⟩
    refine xe_X8_digest_164 ?_
    (repeat (first | (simp only [xb_X8_digest_0, xb_X8_digest_9, xb_X8_digest_31, xb_X8_digest_33, xb_X8_digest_55, xb_X8_digest_57, xb_X8_digest_70, xb_X8_digest_93, xb_X8_digest_99, xb_X8_digest_101, xb_X8_digest_134, xb_X8_digest_136, xb_X8_digest_162, xb_X8_digest_164, xb_X8_digest_189, xs_nil, Nat.reduceAdd, true_implies, not_true_eq_false, not_false_eq_true, false_implies, and_true, true_and, x_10, xs_aload_n_0, xs_ldc2, xs_iconst_0, xs_istore_n_1_i, xs_istore_n_1_a, xs_istore_n_1_n, xs_istore_n_1_l, xs_iload_n_1, xs_bipush_9, xs_icmp_ge, xs_i2l, xs_iinc_1_1_i, xs_iinc_1_1_a, xs_iinc_1_1_n, xs_goto, xs_bipush_7, xs_iconst_1, xs_bipush_118, xs_icmp_gt, xs_istore_n_2_i, xs_istore_n_2_a, xs_istore_n_2_n, xs_istore_n_2_l, xs_iload_n_2, xs_bipush_6, xs_iinc_2_1_i, xs_iinc_2_1_a, xs_iinc_2_1_n, xs_iconst_3, xs_bipush_78, xs_imul, xs_bipush_79, xs_iadd, xs_bipush_72, xs_lreturn]) ))
    exact ⟨fun _ => H _, fun z => absurd (nI_le (a := 72) (b := 72) (by decide) (by decide)) z⟩
  | succ d ih =>
    intro q h M hq
    obtain ⟨h1, p1, M1, F1⟩ := m8_mix (y := (nw.getD q 0).toInt64) M
    obtain ⟨h2, M2, F2, H2⟩ := ih (q + 1) h1 M1 (by omega)
    refine ⟨h2, M2, F1.trans F2, fun b rr hh H => ?_⟩
    have := H2 b rr hh H
    obtain ⟨z, _, _, hb⟩ := M
    have ei : (0 : Int32) + nI q = nI q := Int32.zero_add _
    refine xe_X8_digest_164 ?_
    (repeat (first | (simp only [xb_X8_digest_0, xb_X8_digest_9, xb_X8_digest_31, xb_X8_digest_33, xb_X8_digest_55, xb_X8_digest_57, xb_X8_digest_70, xb_X8_digest_93, xb_X8_digest_99, xb_X8_digest_101, xb_X8_digest_134, xb_X8_digest_136, xb_X8_digest_162, xb_X8_digest_164, xb_X8_digest_189, xs_nil, Nat.reduceAdd, true_implies, not_true_eq_false, not_false_eq_true, false_implies, and_true, true_and, x_10, xs_aload_n_0, xs_ldc2, xs_iconst_0, xs_istore_n_1_i, xs_istore_n_1_a, xs_istore_n_1_n, xs_istore_n_1_l, xs_iload_n_1, xs_bipush_9, xs_icmp_ge, xs_i2l, xs_iinc_1_1_i, xs_iinc_1_1_a, xs_iinc_1_1_n, xs_goto, xs_bipush_7, xs_iconst_1, xs_bipush_118, xs_icmp_gt, xs_istore_n_2_i, xs_istore_n_2_a, xs_istore_n_2_n, xs_istore_n_2_l, xs_iload_n_2, xs_bipush_6, xs_iinc_2_1_i, xs_iinc_2_1_a, xs_iinc_2_1_n, xs_iconst_3, xs_bipush_78, xs_imul, xs_bipush_79, xs_iadd, xs_bipush_72, xs_lreturn]) ))
    refine ⟨fun z => absurd z (nI_ge (b := 72) (by omega) (by decide)), fun _ => ?_⟩
    (repeat (first | (simp only [xb_X8_digest_0, xb_X8_digest_9, xb_X8_digest_31, xb_X8_digest_33, xb_X8_digest_55, xb_X8_digest_57, xb_X8_digest_70, xb_X8_digest_93, xb_X8_digest_99, xb_X8_digest_101, xb_X8_digest_134, xb_X8_digest_136, xb_X8_digest_162, xb_X8_digest_164, xb_X8_digest_189, xs_nil, Nat.reduceAdd, true_implies, not_true_eq_false, not_false_eq_true, false_implies, and_true, true_and, x_10, xs_aload_n_0, xs_ldc2, xs_iconst_0, xs_istore_n_1_i, xs_istore_n_1_a, xs_istore_n_1_n, xs_istore_n_1_l, xs_iload_n_1, xs_bipush_9, xs_icmp_ge, xs_i2l, xs_iinc_1_1_i, xs_iinc_1_1_a, xs_iinc_1_1_n, xs_goto, xs_bipush_7, xs_iconst_1, xs_bipush_118, xs_icmp_gt, xs_istore_n_2_i, xs_istore_n_2_a, xs_istore_n_2_n, xs_istore_n_2_l, xs_iload_n_2, xs_bipush_6, xs_iinc_2_1_i, xs_iinc_2_1_a, xs_iinc_2_1_n, xs_iconst_3, xs_bipush_78, xs_imul, xs_bipush_79, xs_iadd, xs_bipush_72, xs_lreturn]) | (refine xr_getf (hb 0 _ rfl) (by rfl) ?_)))
    rw [ei]
    (repeat (first | (simp only [xb_X8_digest_0, xb_X8_digest_9, xb_X8_digest_31, xb_X8_digest_33, xb_X8_digest_55, xb_X8_digest_57, xb_X8_digest_70, xb_X8_digest_93, xb_X8_digest_99, xb_X8_digest_101, xb_X8_digest_134, xb_X8_digest_136, xb_X8_digest_162, xb_X8_digest_164, xb_X8_digest_189, xs_nil, Nat.reduceAdd, true_implies, not_true_eq_false, not_false_eq_true, false_implies, and_true, true_and, x_10, xs_aload_n_0, xs_ldc2, xs_iconst_0, xs_istore_n_1_i, xs_istore_n_1_a, xs_istore_n_1_n, xs_istore_n_1_l, xs_iload_n_1, xs_bipush_9, xs_icmp_ge, xs_i2l, xs_iinc_1_1_i, xs_iinc_1_1_a, xs_iinc_1_1_n, xs_goto, xs_bipush_7, xs_iconst_1, xs_bipush_118, xs_icmp_gt, xs_istore_n_2_i, xs_istore_n_2_a, xs_istore_n_2_n, xs_istore_n_2_l, xs_iload_n_2, xs_bipush_6, xs_iinc_2_1_i, xs_iinc_2_1_a, xs_iinc_2_1_n, xs_iconst_3, xs_bipush_78, xs_imul, xs_bipush_79, xs_iadd, xs_bipush_72, xs_lreturn]) | (refine xr_iaload (hb 1 _ rfl) (by rw [hl]; exact x_in (by omega) (by decide)) ?_)))
    rw [xg_n (by omega)]
    (repeat (first | (simp only [xb_X8_digest_0, xb_X8_digest_9, xb_X8_digest_31, xb_X8_digest_33, xb_X8_digest_55, xb_X8_digest_57, xb_X8_digest_70, xb_X8_digest_93, xb_X8_digest_99, xb_X8_digest_101, xb_X8_digest_134, xb_X8_digest_136, xb_X8_digest_162, xb_X8_digest_164, xb_X8_digest_189, xs_nil, Nat.reduceAdd, true_implies, not_true_eq_false, not_false_eq_true, false_implies, and_true, true_and, x_10, xs_aload_n_0, xs_ldc2, xs_iconst_0, xs_istore_n_1_i, xs_istore_n_1_a, xs_istore_n_1_n, xs_istore_n_1_l, xs_iload_n_1, xs_bipush_9, xs_icmp_ge, xs_i2l, xs_iinc_1_1_i, xs_iinc_1_1_a, xs_iinc_1_1_n, xs_goto, xs_bipush_7, xs_iconst_1, xs_bipush_118, xs_icmp_gt, xs_istore_n_2_i, xs_istore_n_2_a, xs_istore_n_2_n, xs_istore_n_2_l, xs_iload_n_2, xs_bipush_6, xs_iinc_2_1_i, xs_iinc_2_1_a, xs_iinc_2_1_n, xs_iconst_3, xs_bipush_78, xs_imul, xs_bipush_79, xs_iadd, xs_bipush_72, xs_lreturn]) | refine xc_v2_0 (p1) (Nat.le_of_ble_eq_true rfl) ?_))
    rw [nI_1]
    exact this
theorem dge_eq (hR : Rl s nw) : ∀ q, q ≤ sne s → dg (fun i => nw.getD (79 + i) 0) D (3 * q) = dge s D q
  | 0, _ => rfl
  | q + 1, hq => by
    have hne := hR.1.ne
    show dg (fun i => nw.getD (79 + i) 0) D (3 * q + 3) = dg (oval s q) (dge s D q) 3
    rw [dg_add (a := 3 * q) 3, dge_eq hR q (by omega)]
    refine dg_congr 3 (fun i hi => ?_)
    obtain ⟨a, b, c⟩ := hR.2.1.2.2.2.2.1 q (by omega)
    rcases (show i = 0 ∨ i = 1 ∨ i = 2 by omega) with rfl | rfl | rfl
    · exact a
    · rw [show 79 + (3 * q + 1) = 79 + 3 * q + 1 by omega]
      exact b
    · rw [show 79 + (3 * q + 2) = 79 + 3 * q + 2 by omega]
      exact c
theorem m8_digest (M : mW h nw pa (nI ct) rf tx byt) (hR : Rl s nw) (hr : rf.length = 3) : ∃ h2, xK 176 [.ref 122] h (some (.long (dig s ct byt rf))) h2 ∧ mW h2 nw pa (nI ct) rf tx byt ∧ mF h h2 := by
  obtain ⟨⟨asd, hs, rd, so, ah, ar, tr, bg, fo, bc, br, bk, le, fr, nu, od, sp, wr, ha⟩, hz, hb⟩ := M
  have hb : x_hb h 122 (x_mc 122 nw asd pa (nI ct) rf tx byt (hs.map nI) rd so ah ar tr bg fo bc br bk le fr nu od sp wr ha) := hb
  have A := xA.of hb (Nat.zero_lt_succ _)
  obtain ⟨z1, z2, z3, z4, z5, z6, z7, z8, z9, z10⟩ := id hz
  have A0 : xA h 122 (x_mc 122 nw asd pa (nI ct) rf tx byt (hs.map nI) rd so ah ar tr bg fo bc br bk le fr nu od sp wr (Int64.ofNat 2605)) _ := A.set (k := 0) (e1 := .inr (7, [.ref (122 + 1), .ref (122 + 2), .ref (122 + 3), .int (nI ct), .ref (122 + 4), .ref (122 + 5), .int byt, .ref (122 + 6), .ref (122 + 7), .ref (122 + 8), .ref (122 + 9), .ref (122 + 10), .ref (122 + 11), .ref (122 + 12), .int fo, .int bc, .int br, .int bk, .ref (122 + 13), .ref (122 + 14), .ref (122 + 15), .int od, .int sp, .int wr, .long (Int64.ofNat 2605)])) (Nat.zero_lt_succ _)
  obtain ⟨M0, F0⟩ := mWh_A (nw' := nw) (pa' := pa) (sts' := nI ct) (rf' := rf) (tx' := tx) (byt' := byt) (z' := ((asd, hs, rd, so, ah, ar, tr, bg, fo, bc, br, bk, le, fr, nu, od, sp, wr, (Int64.ofNat 2605)) : mZ)) (a := Int64.ofNat 2605) ⟨z1, z2, z3, z4, z5, z6, z7, z8, z9, z10⟩ rfl A0
  obtain ⟨h1, M1, F1, H1⟩ := lm_told hR hr (D := Int64.ofNat 2605) 9 0 _ M0 (by omega)
  obtain ⟨h2, M2, F2, H2⟩ := lm_held hR (D := dg (tv s ct byt rf) (Int64.ofNat 2605) 9) 7 0 _ M1 (by omega)
  obtain ⟨h3, M3, F3, H3⟩ := lm_words hR (D := dg (hval s) (dg (tv s ct byt rf) (Int64.ofNat 2605) 9) 7) (sn s) 0 _ M2 (by omega)
  obtain ⟨h4, M4, F4, H4⟩ := lm_ent hR (D := dgw s (dg (hval s) (dg (tv s ct byt rf) (Int64.ofNat 2605) 9) 7) (sn s)) (3 * sne s) 0 _ M3 (by omega)
  rw [dge_eq hR (sne s) (Nat.le_refl _)] at M4
  obtain ⟨h5, M5, F5, H5⟩ := lm_root hR (D := dge s (dgw s (dg (hval s) (dg (tv s ct byt rf) (Int64.ofNat 2605) 9) 7) (sn s)) (sne s)) 6 0 _ M4 (by omega)
  rw [dg_congr (g := fun i => (sR s).getD i 0) 6 (fun q hq => hR.2.1.2.2.1 q hq)] at M5
  obtain ⟨h6, M6, F6, H6⟩ := lm_rule hR (D := dg (fun i => (sR s).getD i 0) (dge s (dgw s (dg (hval s) (dg (tv s ct byt rf) (Int64.ofNat 2605) 9) 7) (sn s)) (sne s)) 6) 72 0 _ M5 (by omega)
  have e6 : dg (fun i => nw.getD i 0) (dg (fun i => (sR s).getD i 0) (dge s (dgw s (dg (hval s) (dg (tv s ct byt rf) (Int64.ofNat 2605) 9) 7) (sn s)) (sne s)) 6) 72 = dgr (sP s) (dg (fun i => (sR s).getD i 0) (dge s (dgw s (dg (hval s) (dg (tv s ct byt rf) (Int64.ofNat 2605) 9) 7) (sn s)) (sne s)) 6) 6 := by
    rw [dgr_eq 6]
    exact dg_congr 72 (fun q hq => hR.2.1.2.1 q hq)
  rw [e6] at M6
  obtain ⟨h7, p7, M7, F7⟩ := m8_soundOf M6 hR
  obtain ⟨h8, p8, M8, F8⟩ := m8_mix (y := (if sndB s = true then (1 : Int32) else 0).toInt64) M7
  have hM8 : mWh h8 nw pa (nI ct) rf tx byt (dig s ct byt rf) := M8
  refine ⟨h8, ?_, M8.mW, ((((((F0.trans F1).trans F2).trans F3).trans F4).trans F5).trans F6).trans (F7.trans F8)⟩
  obtain ⟨z8, _, ez8, hb8⟩ := hM8
  refine xK_X8_digest (hb 0 _ rfl) (xe_X8_digest_0 ?_)
  (repeat (first | (simp only [xb_X8_digest_0, xb_X8_digest_9, xb_X8_digest_31, xb_X8_digest_33, xb_X8_digest_55, xb_X8_digest_57, xb_X8_digest_70, xb_X8_digest_93, xb_X8_digest_99, xb_X8_digest_101, xb_X8_digest_134, xb_X8_digest_136, xb_X8_digest_162, xb_X8_digest_164, xb_X8_digest_189, xs_nil, Nat.reduceAdd, true_implies, not_true_eq_false, not_false_eq_true, false_implies, and_true, true_and, x_10, xs_aload_n_0, xs_ldc2, xs_iconst_0, xs_istore_n_1_i, xs_istore_n_1_a, xs_istore_n_1_n, xs_istore_n_1_l, xs_iload_n_1, xs_bipush_9, xs_icmp_ge, xs_i2l, xs_iinc_1_1_i, xs_iinc_1_1_a, xs_iinc_1_1_n, xs_goto, xs_bipush_7, xs_iconst_1, xs_bipush_118, xs_icmp_gt, xs_istore_n_2_i, xs_istore_n_2_a, xs_istore_n_2_n, xs_istore_n_2_l, xs_iload_n_2, xs_bipush_6, xs_iinc_2_1_i, xs_iinc_2_1_a, xs_iinc_2_1_n, xs_iconst_3, xs_bipush_78, xs_imul, xs_bipush_79, xs_iadd, xs_bipush_72, xs_lreturn]) ))
  refine xr_putf (hb 0 _ rfl) (by decide) (by exact Nat.le_of_ble_eq_true rfl) (x_fit_long _) ?_
  (repeat (first | (simp only [xb_X8_digest_0, xb_X8_digest_9, xb_X8_digest_31, xb_X8_digest_33, xb_X8_digest_55, xb_X8_digest_57, xb_X8_digest_70, xb_X8_digest_93, xb_X8_digest_99, xb_X8_digest_101, xb_X8_digest_134, xb_X8_digest_136, xb_X8_digest_162, xb_X8_digest_164, xb_X8_digest_189, xs_nil, Nat.reduceAdd, true_implies, not_true_eq_false, not_false_eq_true, false_implies, and_true, true_and, x_10, xs_aload_n_0, xs_ldc2, xs_iconst_0, xs_istore_n_1_i, xs_istore_n_1_a, xs_istore_n_1_n, xs_istore_n_1_l, xs_iload_n_1, xs_bipush_9, xs_icmp_ge, xs_i2l, xs_iinc_1_1_i, xs_iinc_1_1_a, xs_iinc_1_1_n, xs_goto, xs_bipush_7, xs_iconst_1, xs_bipush_118, xs_icmp_gt, xs_istore_n_2_i, xs_istore_n_2_a, xs_istore_n_2_n, xs_istore_n_2_l, xs_iload_n_2, xs_bipush_6, xs_iinc_2_1_i, xs_iinc_2_1_a, xs_iinc_2_1_n, xs_iconst_3, xs_bipush_78, xs_imul, xs_bipush_79, xs_iadd, xs_bipush_72, xs_lreturn]) ))
  refine H1 _ _ _ (fun a => ?_)
  refine xe_X8_digest_31 ?_
  (repeat (first | (simp only [xb_X8_digest_0, xb_X8_digest_9, xb_X8_digest_31, xb_X8_digest_33, xb_X8_digest_55, xb_X8_digest_57, xb_X8_digest_70, xb_X8_digest_93, xb_X8_digest_99, xb_X8_digest_101, xb_X8_digest_134, xb_X8_digest_136, xb_X8_digest_162, xb_X8_digest_164, xb_X8_digest_189, xs_nil, Nat.reduceAdd, true_implies, not_true_eq_false, not_false_eq_true, false_implies, and_true, true_and, x_10, xs_aload_n_0, xs_ldc2, xs_iconst_0, xs_istore_n_1_i, xs_istore_n_1_a, xs_istore_n_1_n, xs_istore_n_1_l, xs_iload_n_1, xs_bipush_9, xs_icmp_ge, xs_i2l, xs_iinc_1_1_i, xs_iinc_1_1_a, xs_iinc_1_1_n, xs_goto, xs_bipush_7, xs_iconst_1, xs_bipush_118, xs_icmp_gt, xs_istore_n_2_i, xs_istore_n_2_a, xs_istore_n_2_n, xs_istore_n_2_l, xs_iload_n_2, xs_bipush_6, xs_iinc_2_1_i, xs_iinc_2_1_a, xs_iinc_2_1_n, xs_iconst_3, xs_bipush_78, xs_imul, xs_bipush_79, xs_iadd, xs_bipush_72, xs_lreturn]) ))
  refine H2 _ _ _ (fun a => ?_)
  refine xe_X8_digest_55 ?_
  (repeat (first | (simp only [xb_X8_digest_0, xb_X8_digest_9, xb_X8_digest_31, xb_X8_digest_33, xb_X8_digest_55, xb_X8_digest_57, xb_X8_digest_70, xb_X8_digest_93, xb_X8_digest_99, xb_X8_digest_101, xb_X8_digest_134, xb_X8_digest_136, xb_X8_digest_162, xb_X8_digest_164, xb_X8_digest_189, xs_nil, Nat.reduceAdd, true_implies, not_true_eq_false, not_false_eq_true, false_implies, and_true, true_and, x_10, xs_aload_n_0, xs_ldc2, xs_iconst_0, xs_istore_n_1_i, xs_istore_n_1_a, xs_istore_n_1_n, xs_istore_n_1_l, xs_iload_n_1, xs_bipush_9, xs_icmp_ge, xs_i2l, xs_iinc_1_1_i, xs_iinc_1_1_a, xs_iinc_1_1_n, xs_goto, xs_bipush_7, xs_iconst_1, xs_bipush_118, xs_icmp_gt, xs_istore_n_2_i, xs_istore_n_2_a, xs_istore_n_2_n, xs_istore_n_2_l, xs_iload_n_2, xs_bipush_6, xs_iinc_2_1_i, xs_iinc_2_1_a, xs_iinc_2_1_n, xs_iconst_3, xs_bipush_78, xs_imul, xs_bipush_79, xs_iadd, xs_bipush_72, xs_lreturn]) ))
  refine H3 _ _ _ (fun a b => ?_)
  refine xe_X8_digest_99 ?_
  (repeat (first | (simp only [xb_X8_digest_0, xb_X8_digest_9, xb_X8_digest_31, xb_X8_digest_33, xb_X8_digest_55, xb_X8_digest_57, xb_X8_digest_70, xb_X8_digest_93, xb_X8_digest_99, xb_X8_digest_101, xb_X8_digest_134, xb_X8_digest_136, xb_X8_digest_162, xb_X8_digest_164, xb_X8_digest_189, xs_nil, Nat.reduceAdd, true_implies, not_true_eq_false, not_false_eq_true, false_implies, and_true, true_and, x_10, xs_aload_n_0, xs_ldc2, xs_iconst_0, xs_istore_n_1_i, xs_istore_n_1_a, xs_istore_n_1_n, xs_istore_n_1_l, xs_iload_n_1, xs_bipush_9, xs_icmp_ge, xs_i2l, xs_iinc_1_1_i, xs_iinc_1_1_a, xs_iinc_1_1_n, xs_goto, xs_bipush_7, xs_iconst_1, xs_bipush_118, xs_icmp_gt, xs_istore_n_2_i, xs_istore_n_2_a, xs_istore_n_2_n, xs_istore_n_2_l, xs_iload_n_2, xs_bipush_6, xs_iinc_2_1_i, xs_iinc_2_1_a, xs_iinc_2_1_n, xs_iconst_3, xs_bipush_78, xs_imul, xs_bipush_79, xs_iadd, xs_bipush_72, xs_lreturn]) ))
  refine H4 _ _ _ (fun a => ?_)
  refine xe_X8_digest_134 ?_
  (repeat (first | (simp only [xb_X8_digest_0, xb_X8_digest_9, xb_X8_digest_31, xb_X8_digest_33, xb_X8_digest_55, xb_X8_digest_57, xb_X8_digest_70, xb_X8_digest_93, xb_X8_digest_99, xb_X8_digest_101, xb_X8_digest_134, xb_X8_digest_136, xb_X8_digest_162, xb_X8_digest_164, xb_X8_digest_189, xs_nil, Nat.reduceAdd, true_implies, not_true_eq_false, not_false_eq_true, false_implies, and_true, true_and, x_10, xs_aload_n_0, xs_ldc2, xs_iconst_0, xs_istore_n_1_i, xs_istore_n_1_a, xs_istore_n_1_n, xs_istore_n_1_l, xs_iload_n_1, xs_bipush_9, xs_icmp_ge, xs_i2l, xs_iinc_1_1_i, xs_iinc_1_1_a, xs_iinc_1_1_n, xs_goto, xs_bipush_7, xs_iconst_1, xs_bipush_118, xs_icmp_gt, xs_istore_n_2_i, xs_istore_n_2_a, xs_istore_n_2_n, xs_istore_n_2_l, xs_iload_n_2, xs_bipush_6, xs_iinc_2_1_i, xs_iinc_2_1_a, xs_iinc_2_1_n, xs_iconst_3, xs_bipush_78, xs_imul, xs_bipush_79, xs_iadd, xs_bipush_72, xs_lreturn]) ))
  refine H5 _ _ _ (fun a => ?_)
  refine xe_X8_digest_162 ?_
  (repeat (first | (simp only [xb_X8_digest_0, xb_X8_digest_9, xb_X8_digest_31, xb_X8_digest_33, xb_X8_digest_55, xb_X8_digest_57, xb_X8_digest_70, xb_X8_digest_93, xb_X8_digest_99, xb_X8_digest_101, xb_X8_digest_134, xb_X8_digest_136, xb_X8_digest_162, xb_X8_digest_164, xb_X8_digest_189, xs_nil, Nat.reduceAdd, true_implies, not_true_eq_false, not_false_eq_true, false_implies, and_true, true_and, x_10, xs_aload_n_0, xs_ldc2, xs_iconst_0, xs_istore_n_1_i, xs_istore_n_1_a, xs_istore_n_1_n, xs_istore_n_1_l, xs_iload_n_1, xs_bipush_9, xs_icmp_ge, xs_i2l, xs_iinc_1_1_i, xs_iinc_1_1_a, xs_iinc_1_1_n, xs_goto, xs_bipush_7, xs_iconst_1, xs_bipush_118, xs_icmp_gt, xs_istore_n_2_i, xs_istore_n_2_a, xs_istore_n_2_n, xs_istore_n_2_l, xs_iload_n_2, xs_bipush_6, xs_iinc_2_1_i, xs_iinc_2_1_a, xs_iinc_2_1_n, xs_iconst_3, xs_bipush_78, xs_imul, xs_bipush_79, xs_iadd, xs_bipush_72, xs_lreturn]) ))
  refine H6 _ _ _ (fun a => ?_)
  refine xe_X8_digest_189 ?_
  (repeat (first | (simp only [xb_X8_digest_0, xb_X8_digest_9, xb_X8_digest_31, xb_X8_digest_33, xb_X8_digest_55, xb_X8_digest_57, xb_X8_digest_70, xb_X8_digest_93, xb_X8_digest_99, xb_X8_digest_101, xb_X8_digest_134, xb_X8_digest_136, xb_X8_digest_162, xb_X8_digest_164, xb_X8_digest_189, xs_nil, Nat.reduceAdd, true_implies, not_true_eq_false, not_false_eq_true, false_implies, and_true, true_and, x_10, xs_aload_n_0, xs_ldc2, xs_iconst_0, xs_istore_n_1_i, xs_istore_n_1_a, xs_istore_n_1_n, xs_istore_n_1_l, xs_iload_n_1, xs_bipush_9, xs_icmp_ge, xs_i2l, xs_iinc_1_1_i, xs_iinc_1_1_a, xs_iinc_1_1_n, xs_goto, xs_bipush_7, xs_iconst_1, xs_bipush_118, xs_icmp_gt, xs_istore_n_2_i, xs_istore_n_2_a, xs_istore_n_2_n, xs_istore_n_2_l, xs_iload_n_2, xs_bipush_6, xs_iinc_2_1_i, xs_iinc_2_1_a, xs_iinc_2_1_n, xs_iconst_3, xs_bipush_78, xs_imul, xs_bipush_79, xs_iadd, xs_bipush_72, xs_lreturn]) | refine xc_v1_1 (p7) (Nat.le_of_ble_eq_true rfl) ?_ | refine xc_v2_0 (p8) (Nat.le_of_ble_eq_true rfl) ?_ | (refine xr_getf (hb8 0 _ rfl) (by rfl) ?_)))
  rw [← ez8]
  (first | exact ⟨Or.inl trivial, rfl⟩ | exact ⟨Or.inl trivial, rfl, rfl⟩ | (simp; done) | exact ⟨by simp, rfl⟩ | exact ⟨by simp, rfl, rfl⟩ | rfl)
theorem t_digest (B : BR ys h) : ∃ (r : Int64) (h1 h2 : xH), xK 174 [.ref 2] h (some (.long r)) h1 ∧ xK 176 [.ref 122] h1 (some (.long r)) h2 ∧ lW ys h1 ∧ BR ys h2 := by
  obtain ⟨s, k, sh, nx, ct, tx, ln, rf, nw, pa, L, C, M, I⟩ := B
  obtain ⟨i1, i2, i3, i6, i7, i8, i9⟩ := id I
  obtain ⟨h2, p, M2, F2⟩ := m8_digest M i1 i9
  exact ⟨_, h, h2, c7_digest C i1 i9, p, L, s, k, sh, nx, ct, tx, ln, rf, nw, pa, L.mF F2, C.mF F2, M2, I⟩
end MD
