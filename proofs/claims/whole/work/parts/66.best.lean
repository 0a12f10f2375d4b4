/-! best, ways -/
section PH0
variable {m : Nat} {nw asd pa rf tx hd rd so ah ar tr bg le fr nu : List Int32} {sts byt fo bc br bk od sp wr : Int32} {ha : Int64} {x1 x2 x3 x4 : Int32} {h h0 : xH} {n : Nat} {hs : List Nat} {s : kS} {k : kC}
/-- what the chart has of all words, with no repairs -/
def bst (s : kS) (k : kC) (N : Nat) (bc bk : Int32) : Prop := N < 2 ^ 31 ∧ (kreck s 0 k).2.2.2 = nI N ∧ ch0 (kreck s 0 k).2.1 ∧ (0 < N → 0 < sn s ∧ ∃ b c C, b < 2 ^ sn s ∧ c ∈ tT (sn s) ∧ C ≤ 6000 ∧ kleastRow (kreck s 0 k) = nI (rowN (sn s) b c) ∧ kleastCost (kreck s 0 k) = nI C ∧ bc = nI C ∧ bk = nI (codN (sn s) b c))
theorem e_finds (hb : x_hb h m (x_mc m nw asd pa sts rf tx byt (hs.map nI) rd so ah ar tr bg fo bc br bk le fr nu od sp wr ha)) (h2 : 2 ≤ m) (hk : nok hs) (l1 : rd.length = 7) (l2 : so.length = 7) (l3 : ah.length = 7) (l4 : ar.length = 7) (ht : tOK tr bg) (hR : Rl s nw) (hc : kcok k) (h0c : ch0 k.2.1) (h0 : 0 < sn s) :
    ∃ (hs' : List Nat) (rd' so' : List Int32) (N : Nat) (bc' br' bk' : Int32), (nok hs' ∧ rd'.length = 7 ∧ so'.length = 7 ∧ bst s k N bc' bk') ∧ xK 94 [.ref m, .int (nI (sn s)), .int 0] h none (x_wr h m (x_mc m nw asd pa sts rf tx byt (hs'.map nI) (rd') (so') ah ar tr bg (nI N) (bc') (br') (bk') le fr nu od sp wr ha)) := by
  obtain ⟨hv, hg, r0, c0, hh⟩ := id hR
  have h6 := hv.n6
  obtain ⟨ht1, ht2, ht3⟩ := ht
  obtain ⟨lo, hi, t1, t2, t3, t4, t5⟩ := ht3 (sn s) h0 h6
  have hl := hg.1
  have FR := finds_reck (k := k) (rc := (fo, bc, br, bk)) (rd := rd) (so := so) (ah := ah) (ar := ar) (rep := false) (wt := 0) hg hv hc h0c (by omega) h0 (Or.inr ⟨rfl, rfl⟩) hk l1 l2
  have FO := mfinds_ok (nw := nw) (ah := ah) (ar := ar) (rep := false) (cs := tT (sn s)) (rc := (fo, bc, br, bk)) (show sn s < 7 by omega) hk l1 l2 (2 ^ sn s)
  have cF := c_finds (rep := false) (rc := (fo, bc, br, bk)) (n := sn s) (cs := tT (sn s)) hb h2 (by omega) h0 (by rw [hl]; exact x_in (k := 115) (by decide) (by decide)) (by rw [hl]; exact x_in (k := 116) (by decide) (by decide)) hk l1 l2 l3 l4 ht2 ht1 t1 t2 t3 t4 t5 (gr_in hg hv h6) (gr_well hg hv h6)
  rw [if_neg (by decide)] at cF
  generalize mfinds nw ah ar (sn s) false (tT (sn s)) hs rd so (fo, bc, br, bk) (2 ^ sn s) = F at FR FO cF
  obtain ⟨o1, o2, o3⟩ := FO
  obtain ⟨FR0, N, n1, n2, n3, n4⟩ := FR
  rw [n3] at cF
  refine ⟨F.2.1, F.1.1, F.1.2, N, F.2.2.2.1, F.2.2.2.2.1, F.2.2.2.2.2, ⟨o1, o2, o3, n1, n2, FR0, fun hN => ⟨h0, ?_⟩⟩, cF⟩
  obtain ⟨b, c, y1, y2, y3, y4, y5, y6, y7⟩ := n4 hN
  obtain ⟨z1, z2, z3⟩ := least_row y4 y5 (rowN_lt h6 b c) y6
  exact ⟨b, c, _, y1, y2, y4, z1, z3, by rw [y7], by rw [y7]⟩
theorem l_digitOf (hn : n < 7) : ∀ (d c w : Nat), c < 2 ^ 31 → w + d = n → x_EV 121 6 [some (.ref m), some (.int x1), some (.int x2), some (.int (nI n)), some (.int (nI c)), some (.int (nI w))] [] h (some (.int (nI (c / 14 ^ d % 14)))) h := by
  have n14 : ¬ (14 : Int32) = 0 := by decide
  intro d
  induction d with
  | zero =>
    intro c w hc hw
    have e3 : nI c - nI c / 14 * 14 = nI (c % 14) := pk_rem (d := 14) hc (by omega) (by omega)
    refine xe_X8_digitOf_6 ?_
    (repeat (first | (simp only [xb_X8_digitOf_0, xb_X8_digitOf_6, xb_X8_digitOf_25, xs_nil, Nat.reduceAdd, true_implies, not_true_eq_false, not_false_eq_true, false_implies, and_true, true_and, x_10, xs_iload_n_1, xs_istore_4_i, xs_istore_4_a, xs_istore_4_n, xs_istore_4_l, xs_iload_n_2, xs_istore_5_i, xs_istore_5_a, xs_istore_5_n, xs_istore_5_l, xs_iload_5, xs_iload_n_3, xs_icmp_ge, xs_iload_4, xs_bipush_14, xs_idiv, xs_iinc_5_1_i, xs_iinc_5_1_a, xs_iinc_5_1_n, xs_goto, xs_irem, xs_ireturn]) ))
    refine ⟨fun _ => ?_, fun z => absurd (nI_le (by omega) (by omega)) z⟩
    refine xe_X8_digitOf_25 ?_
    (repeat (first | (simp only [xb_X8_digitOf_0, xb_X8_digitOf_6, xb_X8_digitOf_25, xs_nil, Nat.reduceAdd, true_implies, not_true_eq_false, not_false_eq_true, false_implies, and_true, true_and, x_10, xs_iload_n_1, xs_istore_4_i, xs_istore_4_a, xs_istore_4_n, xs_istore_4_l, xs_iload_n_2, xs_istore_5_i, xs_istore_5_a, xs_istore_5_n, xs_istore_5_l, xs_iload_5, xs_iload_n_3, xs_icmp_ge, xs_iload_4, xs_bipush_14, xs_idiv, xs_iinc_5_1_i, xs_iinc_5_1_a, xs_iinc_5_1_n, xs_goto, xs_irem, xs_ireturn]) ))
    refine ⟨n14, ?_⟩
    rw [e3, Nat.pow_zero, Nat.div_one]
    (repeat (first | (simp only [xb_X8_digitOf_0, xb_X8_digitOf_6, xb_X8_digitOf_25, xs_nil, Nat.reduceAdd, true_implies, not_true_eq_false, not_false_eq_true, false_implies, and_true, true_and, x_10, xs_iload_n_1, xs_istore_4_i, xs_istore_4_a, xs_istore_4_n, xs_istore_4_l, xs_iload_n_2, xs_istore_5_i, xs_istore_5_a, xs_istore_5_n, xs_istore_5_l, xs_iload_5, xs_iload_n_3, xs_icmp_ge, xs_iload_4, xs_bipush_14, xs_idiv, xs_iinc_5_1_i, xs_iinc_5_1_a, xs_iinc_5_1_n, xs_goto, xs_irem, xs_ireturn]) ))
    (first | exact ⟨Or.inl trivial, rfl⟩ | exact ⟨Or.inl trivial, rfl, rfl⟩ | (simp; done) | exact ⟨by simp, rfl⟩ | exact ⟨by simp, rfl, rfl⟩ | rfl)
  | succ d ih =>
    intro c w hc hw
    have e4 : nI c / 14 = nI (c / 14) := pk_div (d := 14) hc (by omega) (by omega)
    have ihT := ih (c / 14) (w + 1) (Nat.lt_of_le_of_lt (Nat.div_le_self _ _) hc) (by omega)
    refine xe_X8_digitOf_6 ?_
    (repeat (first | (simp only [xb_X8_digitOf_0, xb_X8_digitOf_6, xb_X8_digitOf_25, xs_nil, Nat.reduceAdd, true_implies, not_true_eq_false, not_false_eq_true, false_implies, and_true, true_and, x_10, xs_iload_n_1, xs_istore_4_i, xs_istore_4_a, xs_istore_4_n, xs_istore_4_l, xs_iload_n_2, xs_istore_5_i, xs_istore_5_a, xs_istore_5_n, xs_istore_5_l, xs_iload_5, xs_iload_n_3, xs_icmp_ge, xs_iload_4, xs_bipush_14, xs_idiv, xs_iinc_5_1_i, xs_iinc_5_1_a, xs_iinc_5_1_n, xs_goto, xs_irem, xs_ireturn]) ))
    refine ⟨fun z => absurd z (nI_ge (by omega) (by omega)), fun _ => ?_⟩
    (repeat (first | (simp only [xb_X8_digitOf_0, xb_X8_digitOf_6, xb_X8_digitOf_25, xs_nil, Nat.reduceAdd, true_implies, not_true_eq_false, not_false_eq_true, false_implies, and_true, true_and, x_10, xs_iload_n_1, xs_istore_4_i, xs_istore_4_a, xs_istore_4_n, xs_istore_4_l, xs_iload_n_2, xs_istore_5_i, xs_istore_5_a, xs_istore_5_n, xs_istore_5_l, xs_iload_5, xs_iload_n_3, xs_icmp_ge, xs_iload_4, xs_bipush_14, xs_idiv, xs_iinc_5_1_i, xs_iinc_5_1_a, xs_iinc_5_1_n, xs_goto, xs_irem, xs_ireturn]) ))
    refine ⟨n14, ?_⟩
    rw [e4]
    (repeat (first | (simp only [xb_X8_digitOf_0, xb_X8_digitOf_6, xb_X8_digitOf_25, xs_nil, Nat.reduceAdd, true_implies, not_true_eq_false, not_false_eq_true, false_implies, and_true, true_and, x_10, xs_iload_n_1, xs_istore_4_i, xs_istore_4_a, xs_istore_4_n, xs_istore_4_l, xs_iload_n_2, xs_istore_5_i, xs_istore_5_a, xs_istore_5_n, xs_istore_5_l, xs_iload_5, xs_iload_n_3, xs_icmp_ge, xs_iload_4, xs_bipush_14, xs_idiv, xs_iinc_5_1_i, xs_iinc_5_1_a, xs_iinc_5_1_n, xs_goto, xs_irem, xs_ireturn]) ))
    rw [nI_1, Nat.pow_succ', ← Nat.div_div_eq_div_mul]
    exact ihT
theorem c_digitOf {c w : Nat} {fs : List Value} (h0 : h[m]? = some (.inr (7, fs))) (hc : c < 2 ^ 31) (hw : w ≤ n) (hn : n < 7) : xK 121 [.ref m, .int (nI c), .int (nI w), .int (nI n)] h (some (.int (nI (c / 14 ^ (n - w) % 14)))) h := by
  refine xK_X8_digitOf h0 (xe_X8_digitOf_0 ?_)
  (repeat (first | (simp only [xb_X8_digitOf_0, xb_X8_digitOf_6, xb_X8_digitOf_25, xs_nil, Nat.reduceAdd, true_implies, not_true_eq_false, not_false_eq_true, false_implies, and_true, true_and, x_10, xs_iload_n_1, xs_istore_4_i, xs_istore_4_a, xs_istore_4_n, xs_istore_4_l, xs_iload_n_2, xs_istore_5_i, xs_istore_5_a, xs_istore_5_n, xs_istore_5_l, xs_iload_5, xs_iload_n_3, xs_icmp_ge, xs_iload_4, xs_bipush_14, xs_idiv, xs_iinc_5_1_i, xs_iinc_5_1_a, xs_iinc_5_1_n, xs_goto, xs_irem, xs_ireturn]) ))
  exact l_digitOf hn (n - w) c w hc (by omega)
end PH0
section PH
variable {ys : List Int32} {h : xH} {s : kS} {k : kC} {sh : Nat → kS} {nx ct : Nat} {tx : List Int32} {ln : Int32} {rf : List Int32} {nw pa : List Int32} {sts byt : Int32} {x1 x2 x3 x4 : Int32} {j : Nat}
/-- found set to 0; then, if there are words, all tried -/
theorem m8_found (M : mW h nw pa sts rf tx byt) (hR : Rl s nw) (hc : kcok k) (h0c : ch0 k.2.1) : ∃ (fs : List Value) (h1 h2 : xH) (z1 z2 : mZ) (N : Nat) (bc' br' bk' : Int32), h[122]? = some (.inr (7, fs)) ∧ 14 < fs.length ∧ h1 = h.set 122 (.inr (7, fs.set 14 (.int 0))) ∧ x_hb h 122 (x_m nw pa sts rf tx byt z1) ∧ x_hb h1 122 (x_m nw pa sts rf tx byt (z1.1, z1.2.1, z1.2.2.1, z1.2.2.2.1, z1.2.2.2.2.1, z1.2.2.2.2.2.1, z1.2.2.2.2.2.2.1, z1.2.2.2.2.2.2.2.1, 0, z1.2.2.2.2.2.2.2.2.2)) ∧ (0 < sn s → xK 94 [.ref 122, .int (nI (sn s)), .int 0] h1 none h2) ∧ (sn s = 0 → h2 = h1) ∧ x_hb h2 122 (x_m nw pa sts rf tx byt z2) ∧ okZ z2 ∧ (z2.2.2.2.2.2.2.2.2.1 = nI N ∧ z2.2.2.2.2.2.2.2.2.2.1 = bc' ∧ z2.2.2.2.2.2.2.2.2.2.2.2.1 = bk') ∧ bst s k N bc' bk' ∧ mF h h2 := by
  obtain ⟨⟨asd, hs, rd, so, ah, ar, tr, bg, fo, bc, br, bk, le, fr, nu, od, sp, wr, ha⟩, hz, hb⟩ := M
  have hb : x_hb h 122 (x_mc 122 nw asd pa sts rf tx byt (hs.map nI) rd so ah ar tr bg fo bc br bk le fr nu od sp wr ha) := hb
  have A := xA.of hb (Nat.zero_lt_succ _)
  obtain ⟨z1, z2, z3, z4, z5, z6, z7, z8⟩ := id hz
  have A1 := A.set (k := 0) (e1 := .inr (7, [.ref (122 + 1), .ref (122 + 2), .ref (122 + 3), .int sts, .ref (122 + 4), .ref (122 + 5), .int byt, .ref (122 + 6), .ref (122 + 7), .ref (122 + 8), .ref (122 + 9), .ref (122 + 10), .ref (122 + 11), .ref (122 + 12), .int 0, .int bc, .int br, .int bk, .ref (122 + 13), .ref (122 + 14), .ref (122 + 15), .int od, .int sp, .int wr, .long ha])) (Nat.zero_lt_succ _)
  have A1 : xA h 122 (x_mc 122 nw asd pa sts rf tx byt (hs.map nI) rd so ah ar tr bg (0) bc br bk le fr nu od sp wr ha) _ := A1
  by_cases h0 : 0 < sn s
  · obtain ⟨hs', rd', so', N, bc', br', bk', ⟨o1, o2, o3, o4⟩, c⟩ := e_finds A1.hb (by decide) z2 z3 z4 z5 z6 z7 hR hc h0c h0
    obtain ⟨M2, F2⟩ := mW_A (nw' := nw) (pa' := pa) (sts' := sts) (rf' := rf) (tx' := tx) (byt' := byt) (z' := ((asd, (hs'), (rd'), (so'), ah, ar, tr, bg, (nI N), (bc'), (br'), (bk'), le, fr, nu, od, sp, wr, ha) : mZ)) ⟨z1, o1, o2, o3, z5, z6, z7, z8⟩ (A1.on rfl)
    refine ⟨_, _, _, ((asd, hs, rd, so, ah, ar, tr, bg, fo, bc, br, bk, le, fr, nu, od, sp, wr, ha) : mZ), ((asd, (hs'), (rd'), (so'), ah, ar, tr, bg, (nI N), (bc'), (br'), (bk'), le, fr, nu, od, sp, wr, ha) : mZ), N, bc', br', bk', hb 0 _ rfl, Nat.le_of_ble_eq_true rfl, rfl, hb, A1.hb, fun _ => c, fun z => absurd h0 (by omega), ?_, ⟨z1, o1, o2, o3, z5, z6, z7, z8⟩, ⟨rfl, rfl, rfl⟩, o4, F2⟩
    exact (A1.on (cs2 := (x_mc 122 nw asd pa sts rf tx byt ((hs').map nI) (rd') (so') ah ar tr bg (nI N) (bc') (br') (bk') le fr nu od sp wr ha)) rfl).hb
  · obtain ⟨M2, F2⟩ := mW_A (nw' := nw) (pa' := pa) (sts' := sts) (rf' := rf) (tx' := tx) (byt' := byt) (z' := ((asd, hs, rd, so, ah, ar, tr, bg, (0), bc, br, bk, le, fr, nu, od, sp, wr, ha) : mZ)) ⟨z1, z2, z3, z4, z5, z6, z7, z8⟩ A1
    have hn0 : sn s = 0 := by omega
    refine ⟨_, _, _, ((asd, hs, rd, so, ah, ar, tr, bg, fo, bc, br, bk, le, fr, nu, od, sp, wr, ha) : mZ), ((asd, hs, rd, so, ah, ar, tr, bg, (0), bc, br, bk, le, fr, nu, od, sp, wr, ha) : mZ), 0, bc, br, bk, hb 0 _ rfl, Nat.le_of_ble_eq_true rfl, rfl, hb, A1.hb, fun z => absurd z h0, fun _ => rfl, A1.hb, ⟨z1, z2, z3, z4, z5, z6, z7, z8⟩, ⟨rfl, rfl, rfl⟩, ⟨by decide, ?_, ?_, fun z => absurd z (by decide)⟩, F2⟩
    · show (kroots s 0 _ _ (sn s) (sn s)).2 = nI 0
      rw [hn0]
      rfl
    · show ch0 (ksizes _ (sn s) k.2.1 (sn s - 1))
      rw [hn0]
      exact h0c
theorem c7_reck (B : cW h s k sh nx ct tx ln rf) (hv : sv s) (hc : kcok k) : ∃ h1, xK 73 [.ref 109, .ref 3, .int 0] h none h1 ∧ cW h1 s (kreck s 0 k) sh nx ct tx ln rf ∧ cF h h1 := ⟨_, c_reckon B.hk B.hs (Or.inl (by decide)) hv hc (by decide), (B.chart _).1, (B.chart _).2⟩
theorem t_ways (B : BR ys h) : TC ys h 124 125 [] := by
  obtain ⟨s, k, sh, nx, ct, tx, ln, rf, nw, pa, L, C, M, I⟩ := B
  obtain ⟨i1, i2, i3, i6, i7, i8, i9⟩ := id I
  have h6 := i1.1.n6
  have e118 := i1.e118
  have i118 := i1.i118
  refine TC_mk2 (r := .int (kreck s 0 k).2.2.2) (s' := s) (k' := kreck s 0 k) (sh' := sh) (nx' := nx) (ct' := ct) (tx' := tx) (ln' := ln) (rf' := rf) L ?_ (fun h1 F => ?_)
  · have B := C
    obtain ⟨h1, p1, B1, F1⟩ := c7_reck B i1.1 i2.1
    refine ⟨h1, ?_, B1, F1⟩
    refine xK_X7_ways (B.hp 0 _ rfl) (xe_X7_ways_0 ?_)
    (repeat (first | (simp only [xb_X7_ways_0, xs_nil, Nat.reduceAdd, true_implies, not_true_eq_false, not_false_eq_true, false_implies, and_true, true_and, x_10, xs_aload_n_0, xs_iconst_0, xs_ireturn]) | (refine xr_getf (B.hp 0 _ rfl) (by rfl) ?_) | (refine xr_getf (B.hs 0 _ rfl) (by rfl) ?_) | (refine xr_getf (B.hs 1 _ rfl) (by rfl) ?_) | (refine xr_getf (B.hs 7 _ rfl) (by rfl) ?_) | refine xc_v3_0 (p1) (Nat.le_of_ble_eq_true rfl) ?_ | (refine xr_getf (B1.hp 0 _ rfl) (by rfl) ?_) | refine xc_v1_1 (c_countOfAnalyses B1.hk) (Nat.le_of_ble_eq_true rfl) ?_))
    (first | exact ⟨Or.inl trivial, rfl⟩ | exact ⟨Or.inl trivial, rfl, rfl⟩ | (simp; done) | exact ⟨by simp, rfl⟩ | exact ⟨by simp, rfl, rfl⟩ | rfl)
  · have M := M.cF F
    obtain ⟨fs, h2, h3, z1, z2, N, bc', br', bk', q1, q2, q3, q4, q5, q6, q7, q8, q9, ⟨q10, _, _⟩, ⟨q11, q12, q13, _⟩, q14⟩ := m8_found M i1 i2.1 i2.2
    refine ⟨h3, nw, pa, ?_, ⟨z2, q9, q8⟩, q14, ⟨i1, ⟨kreck_ok i2.1, q13⟩, i3, i6, i7, i8, i9⟩⟩
    have fin : x_EV 125 27 [some (.ref 122)] [] h3 (some (.int (kreck s 0 k).2.2.2)) h3 := by
      refine xe_X8_ways_27 ?_
      (repeat (first | (simp only [xb_X8_ways_0, xb_X8_ways_27, xs_nil, Nat.reduceAdd, true_implies, not_true_eq_false, not_false_eq_true, false_implies, and_true, true_and, x_10, xs_aload_n_0, xs_iconst_0, xs_bipush_118, xs_if_le, xs_ireturn]) | (refine xr_getf (q8 0 _ rfl) (by rfl) ?_)))
      rw [q12, ← q10]
      (first | exact ⟨Or.inl trivial, rfl⟩ | exact ⟨Or.inl trivial, rfl, rfl⟩ | (simp; done) | exact ⟨by simp, rfl⟩ | exact ⟨by simp, rfl, rfl⟩ | rfl)
    refine xK_X8_ways q1 (xe_X8_ways_0 ?_)
    (repeat (first | (simp only [xb_X8_ways_0, xb_X8_ways_27, xs_nil, Nat.reduceAdd, true_implies, not_true_eq_false, not_false_eq_true, false_implies, and_true, true_and, x_10, xs_aload_n_0, xs_iconst_0, xs_bipush_118, xs_if_le, xs_ireturn]) ))
    refine xr_putf q1 (by decide) q2 (x_fit_int _) ?_
    rw [← q3]
    (repeat (first | (simp only [xb_X8_ways_0, xb_X8_ways_27, xs_nil, Nat.reduceAdd, true_implies, not_true_eq_false, not_false_eq_true, false_implies, and_true, true_and, x_10, xs_aload_n_0, xs_iconst_0, xs_bipush_118, xs_if_le, xs_ireturn]) | (refine xr_getf (q5 0 _ rfl) (by rfl) ?_) | (refine xr_iaload (q5 1 _ rfl) i118 ?_)))
    rw [e118]
    by_cases h0 : 0 < sn s
    · refine ⟨fun z => absurd z (nI_nle h0 (by omega)), fun _ => ?_⟩
      (repeat (first | (simp only [xb_X8_ways_0, xb_X8_ways_27, xs_nil, Nat.reduceAdd, true_implies, not_true_eq_false, not_false_eq_true, false_implies, and_true, true_and, x_10, xs_aload_n_0, xs_iconst_0, xs_bipush_118, xs_if_le, xs_ireturn]) | (refine xr_getf (q5 0 _ rfl) (by rfl) ?_) | (refine xr_iaload (q5 1 _ rfl) i118 ?_)))
      rw [e118]
      (repeat (first | (simp only [xb_X8_ways_0, xb_X8_ways_27, xs_nil, Nat.reduceAdd, true_implies, not_true_eq_false, not_false_eq_true, false_implies, and_true, true_and, x_10, xs_aload_n_0, xs_iconst_0, xs_bipush_118, xs_if_le, xs_ireturn]) | refine xc_v3_0 (q6 h0) (Nat.le_of_ble_eq_true rfl) ?_))
      exact fin
    · have hn0 : sn s = 0 := by omega
      have e := q7 hn0
      refine ⟨fun _ => ?_, fun z => absurd (by rw [hn0]; decide) z⟩
      rw [← e]
      exact fin
end PH
