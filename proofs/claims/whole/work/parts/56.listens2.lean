/-! the reference hears a word: both hear the same -/
theorem nI0_lt {N : Nat} (h : N < 2 ^ 31) : 0 < nI N ↔ 0 < N := nI_ltI (a := 0) (by omega) h
theorem lok_at {f : Nat → Int32} : ∀ n, lok f n = true → ∀ k, k < n → ¬ f k = -1
  | 0, _, k, h => by omega
  | n + 1, hl, k, h => fun e => by
    rw [lok_no (n + 1) k h e] at hl
    cases hl
theorem okA_sort {s : kS} {n b c : Nat} (h : okA s n b c = true) : hsrt s n b := by
  intro w h1 h2 e
  refine lok_at n h (w - 1) (by omega) ?_
  show kap s n b c (w - 1 + 1) = -1
  rw [show w - 1 + 1 = w by omega]
  exact kap_no e
/-- whether one is stuck, in both -/
theorem Rl_stuck {s : kS} {nw : List Int32} (hR : Rl s nw) : (kstuck s = true → 0 < sn s ∧ ¬ 0 ≤ nw.getD (119 + 5 * (sn s - 1) + 3) 0) ∧ (¬ kstuck s = true → ¬ (0 < sn s ∧ ¬ 0 ≤ nw.getD (119 + 5 * (sn s - 1) + 3) 0) ∧ (0 < sn s → ∃ b c, (b < 2 ^ sn s ∧ hsrt s (sn s) b) ∧ c ∈ tT (sn s) ∧ (sro s).getD (sn s) 0 = nI (rowN (sn s) b c) ∧ nw.getD (119 + 5 * (sn s - 1) + 4) 0 = nI (codN (sn s) b c))) := by
  obtain ⟨hv, hg, r0, c0, hh⟩ := hR
  have h6 := hv.n6
  have e : xg (sro s) (sct s) = (sro s).getD (sn s) 0 := by rw [hv.ct, xg_n (by omega)]
  have ek : kstuck s = decide (0 < sct s ∧ xg (sro s) (sct s) = -1) := rfl
  have hp : 0 < sct s ↔ 0 < sn s := by rw [hv.ct]; exact nI0_lt (by omega)
  rw [ek, decide_eq_true_iff, e, hp]
  refine ⟨fun h => ⟨h.1, ?_⟩, fun h => ?_⟩
  · obtain ⟨_, _, z3, z4, _⟩ := hh (sn s) h.1 (Nat.le_refl _)
    rw [z3]
    rcases z4 with z4 | ⟨b, c, C, _, _, _, y, _⟩
    · rw [z4.2]
      decide
    · rw [h.2] at y
      have := rowN_lt h6 b c
      exact absurd y.symm (nI_m1 (by omega))
  · by_cases h0 : 0 < sn s
    · obtain ⟨_, _, z3, z4, _⟩ := hh (sn s) h0 (Nat.le_refl _)
      rw [z3]
      rcases z4 with z4 | ⟨b, c, C, y1, y2, y3, y4, y5, y6⟩
      · exact absurd ⟨h0, z4.1⟩ h
      · refine ⟨fun z => z.2 ?_, fun _ => ⟨b, c, y1, y2, y4, y6⟩⟩
        rw [y5]
        exact nI_pos' (by omega)
    · exact ⟨fun z => h0 z.1, fun z => absurd z h0⟩
section MO14
variable {m : Nat} {nw asd pa rf tx rd so ah ar tr bg le fr nu : List Int32} {sts byt fo bc br bk od sp wr : Int32} {ha : Int64} {h h0 : xH} {hs : List Nat} {s : kS} {k : kC} {j : Nat}
theorem c_listens (hb : x_hb h m (x_mc m nw asd pa sts rf tx byt (hs.map nI) rd so ah ar tr bg fo bc br bk le fr nu od sp wr ha)) (h2 : 2 ≤ m) (hk : nok hs) (l1 : rd.length = 7) (l2 : so.length = 7) (l3 : ah.length = 7) (l4 : ar.length = 7) (ht : tOK tr bg) (hR : Rl s nw) (hc : kcok k) (h0c : ch0 k.2.1) (hje : j < sne s) (hn : sn s < 6) :
    ∃ (nw' : List Int32) (hs' : List Nat) (rd' so' ah' ar' : List Int32) (fo' bc' br' bk' : Int32), (nok hs' ∧ rd'.length = 7 ∧ so'.length = 7 ∧ ah'.length = 7 ∧ ar'.length = 7 ∧ Rl (khear s k (nI j)).1 nw' ∧ ch0 (khear s k (nI j)).2.2.1) ∧ xK 95 [.ref m, .int (nI j)] h none (x_wr h m (x_mc m (nw') asd pa sts rf tx byt (hs'.map nI) (rd') (so') (ah') (ar') tr bg (fo') (bc') (br') (bk') le fr nu od sp wr ha)) := by
  obtain ⟨hv, hg, r0, c0, hh⟩ := id hR
  have h6 := hv.n6
  have hj : j < 12 := by have := hv.ne; omega
  obtain ⟨st1, st2⟩ := Rl_stuck hR
  by_cases hst : kstuck s = true
  · have e1 : khear s k (nI j) = (srec (sword s (nI j)) (-1) (-1) 0 0, k) := by unfold khear; rw [if_pos hst]
    have hS := st1 hst
    rw [e1]
    refine ⟨nword s nw (nI j) 0 0 (-1) 0, hs, rd, so, ah, ar, fo, bc, br, bk, ⟨hk, l1, l2, l3, l4, Rl_word hR hje hn (Or.inl ⟨rfl, rfl⟩), h0c⟩, ?_⟩
    exact p_listens hb h2 hv hg hn (fun h1 A1 => ⟨fun z => absurd hS z, fun _ => A1.e⟩)
  · obtain ⟨hS, hex⟩ := st2 hst
    have hv1 := sv_word hv hj hn
    have hg1 := gr_word (r := 0) (t := 0) (c := -1) (d := 0) hv hg hj hn
    have hsn : sn (sword s (nI j)) = sn s + 1 := sn_word hv
    obtain ⟨w0, w1, w2, w3, w4, w5, w6, w7⟩ := nword_get (s := s) (nw := nw) (e := nI j) (r := 0) (t := 0) (c := -1) (d := 0) hg.1 hn
    obtain ⟨b0, c0', ex⟩ : ∃ b c, 0 < sn s → c ∈ tT (sn s) ∧ (sro s).getD (sn s) 0 = nI (rowN (sn s) b c) ∧ nw.getD (119 + 5 * (sn s - 1) + 4) 0 = nI (codN (sn s) b c) := by
      by_cases hz : 0 < sn s
      · obtain ⟨b, c, _, y2, y3, y4⟩ := hex hz
        exact ⟨b, c, fun _ => ⟨y2, y3, y4⟩⟩
      · exact ⟨0, 0, fun z => absurd z hz⟩
    obtain ⟨wt, hw9, ewt⟩ := hv.vT1
    have ewt' : xg (sT s) 1 = nI wt := ewt
    obtain ⟨ht1, ht2, ht3⟩ := ht
    obtain ⟨lo, hi, t1, t2, t3, t4, t5⟩ := ht3 (sn s + 1) (by omega) (by omega)
    -- the heap behind the word put down
    have A := xA.of hb (Nat.zero_lt_succ _)
    have A1 : xA h m (x_mc m (nword s nw (nI j) 0 0 (-1) 0) asd pa sts rf tx byt (hs.map nI) rd so ah ar tr bg fo bc br bk le fr nu od sp wr ha) _ := A.on rfl
    have i4 : (119 : Int32) + 5 * (nI (sn s) - 1) + 4 = nI (119 + 5 * (sn s - 1) + 4) ∨ sn s = 0 := by
      by_cases hz : sn s = 0
      · exact Or.inr hz
      · exact Or.inl (by rw [wp_n (by omega)]; exact nI_k _ 4 rfl)
    obtain ⟨hs1, rd1, ah1, ar1, ⟨q1, q2, q3, q4, q5⟩, cA⟩ := c_laysAhead (n := sn s) (b := b0) (c := c0') A1.hb h2 (by omega) hk l1 l3 l4 (fun hz => by
      rcases i4 with i4 | i4
      · rw [i4, w0, xg_n (by omega), w7 _ (by omega) (Or.inl (by omega))]
        exact ⟨x_in (by omega) (by decide), (ex hz).2.2⟩
      · omega)
    have A2 : xA h m (x_mc m (nword s nw (nI j) 0 0 (-1) 0) asd pa sts rf tx byt (hs1.map nI) (rd1) so (ah1) (ar1) tr bg fo bc br bk le fr nu od sp wr ha) _ := A1.on rfl
    have eW : xg (nword s nw (nI j) 0 0 (-1) 0) 116 = nI wt := by
      have e1 : xg (nword s nw (nI j) 0 0 (-1) 0) 116 = xg (sT (sword s (nI j))) 1 := hg1.T (k := 1) (by omega)
      rw [e1]
      exact ewt'
    have hA : hAh (sword s (nI j)) (nword s nw (nI j) 0 0 (-1) 0) ah1 ar1 (sn s + 1) wt true := by
      refine Or.inl ⟨rfl, eW, fun w a b => ?_⟩
      have hrow : xg (sro (sword s (nI j))) (sct (sword s (nI j)) - 1) = nI (rowN (sn s) b0 c0') := by
        show xg (sro s) (sct s + 1 - 1) = _
        rw [hv.ct, nI_1, nI_pred, xg_n (by omega)]
        exact (ex (by omega)).2.1
      rw [hrow, khead_at h6 b0 c0' a (by omega), kread_at h6 b0 c0' a (by omega), xg_n (by omega), xg_n (by omega)]
      exact q5 w a (by omega)
    have FR := finds_reck (k := k) (rc := (fo, bc, br, bk)) (rd := rd1) (so := so) hg1 hv1 hc h0c hw9 (by rw [hsn]; omega) (by rw [hsn]; exact hA) q1 q2 l2
    have FO := mfinds_ok (nw := nword s nw (nI j) 0 0 (-1) 0) (ah := ah1) (ar := ar1) (rep := true) (cs := tT (sn s + 1)) (rc := (fo, bc, br, bk)) (show sn s + 1 < 7 by omega) q1 q2 l2 (2 ^ (sn s + 1))
    have cF := c_finds (rep := true) (rc := (fo, bc, br, bk)) (n := sn s + 1) (cs := tT (sn s + 1)) A2.hb h2 (by omega) (by omega) (by rw [w0]; exact x_in (k := 115) (by decide) (by decide)) (by rw [w0]; exact x_in (k := 116) (by decide) (by decide)) q1 q2 l2 q3 q4 ht2 ht1 t1 t2 t3 t4 t5 (gr_in hg1 hv1 (by omega)) (gr_well hg1 hv1 (by omega))
    rw [if_pos rfl] at cF
    rw [hsn] at FR
    generalize mfinds (nword s nw (nI j) 0 0 (-1) 0) ah1 ar1 (sn s + 1) true (tT (sn s + 1)) hs1 rd1 so (fo, bc, br, bk) (2 ^ (sn s + 1)) = F at FR FO cF
    obtain ⟨o1, o2, o3⟩ := FO
    obtain ⟨FR0, N, n1, n2, n3, n4⟩ := FR
    have e1 : khear s k (nI j) = (kheard (sword s (nI j)) (kreck (sword s (nI j)) (nI wt) k), kreck (sword s (nI j)) (nI wt) k) := by unfold khear; rw [if_neg hst, ewt']
    rw [e1]
    generalize kreck (sword s (nI j)) (nI wt) k = c1 at FR0 n2 n4 ⊢
    have A3 : xA h m (x_mc m (nword s nw (nI j) 0 0 (-1) 0) asd pa sts rf tx byt (F.2.1.map nI) (F.1.1) (F.1.2) (ah1) (ar1) tr bg (F.2.2.1) (F.2.2.2.1) (F.2.2.2.2.1) (F.2.2.2.2.2) le fr nu od sp wr ha) _ := A2.on rfl
    have e2 : nI (119 + 5 * sn s) + 2 = nI (119 + 5 * sn s + 2) := nI_k _ 2 rfl
    have e3 : nI (119 + 5 * sn s) + 3 = nI (119 + 5 * sn s + 3) := nI_k _ 3 rfl
    have e4 : nI (119 + 5 * sn s) + 4 = nI (119 + 5 * sn s + 4) := nI_k _ 4 rfl
    by_cases hN : 0 < N
    · obtain ⟨b, c, y1, y2, y3, y4, y5, y6, y7⟩ := n4 hN
      obtain ⟨z1, z2, z3⟩ := least_row y4 y5 (rowN_lt (by omega) b c) y6
      have f1 : F.2.2.2.1 = nI (CA (sword s (nI j)) (sn s + 1) b c) := by rw [y7]
      have f2 : F.2.2.2.2.1 = nI (RA (sword s (nI j)) (nI wt) (sn s + 1) b c) := by rw [y7]
      have f3 : F.2.2.2.2.2 = nI (codN (sn s + 1) b c) := by rw [y7]
      have eB : xg (nword s nw (nI j) 0 0 (-1) 0) 117 = xg (sT s) 2 := hg1.T (k := 2) (by omega)
      have hK : kheard (sword s (nI j)) c1 = srec (sword s (nI j)) (nI (rowN (sn s + 1) b c)) F.2.2.2.1 F.2.2.2.2.1 (if F.2.2.2.2.1 ≤ xg (sT s) 2 then 0 else 1) := by
        unfold kheard
        rw [n2, if_pos ((nI0_lt n1).mpr hN), z1, z2, z3, f1, f2]
        rfl
      rw [hK]
      refine ⟨nword s nw (nI j) F.2.2.2.2.1 (if F.2.2.2.2.1 ≤ xg (sT s) 2 then 0 else 1) F.2.2.2.1 F.2.2.2.2.2, F.2.1, F.1.1, F.1.2, ah1, ar1, F.2.2.1, F.2.2.2.1, F.2.2.2.2.1, F.2.2.2.2.2, ⟨o1, o2, o3, q3, q4, Rl_word hR hje hn (Or.inr ⟨b, c, _, ⟨y1, okA_sort y3⟩, y2, y4, rfl, f1, f3⟩), FR0⟩, ?_⟩
      refine p_listens hb h2 hv hg hn (fun h1 B1 => ⟨fun _ => ?_, fun z => absurd z hS⟩)
      have eh1 : x_wr h m (x_mc m (nword s nw (nI j) 0 0 (-1) 0) asd pa sts rf tx byt (hs.map nI) rd so ah ar tr bg fo bc br bk le fr nu od sp wr ha) = h1 := B1.e
      rw [eh1] at cA cF A3
      have hb3 := A3.hb
      refine xe_X8_listens_91 ?_
      (repeat (first | (simp only [xb_X8_listens_0, xb_X8_listens_91, xb_X8_listens_148, xb_X8_listens_149, xb_X8_listens_176, xs_nil, Nat.reduceAdd, true_implies, not_true_eq_false, not_false_eq_true, false_implies, and_true, true_and, x_10, xs_aload_n_0, xs_bipush_118, xs_istore_n_2_i, xs_istore_n_2_a, xs_istore_n_2_n, xs_istore_n_2_l, xs_dup2, xs_iconst_1, xs_iadd, xs_iload_n_2, xs_istore_n_3_i, xs_istore_n_3_a, xs_istore_n_3_n, xs_istore_n_3_l, xs_iload_n_3, xs_istore_4_i, xs_istore_4_a, xs_istore_4_n, xs_istore_4_l, xs_iload_4, xs_iload_n_1, xs_iconst_0, xs_iconst_2, xs_iconst_3, xs_iconst_m1, xs_iconst_4, xs_if_le, xs_if_ne, xs_return, xs_bipush_117, xs_icmp_le, xs_goto]) | refine xc_v2_0 (cA) (Nat.le_of_ble_eq_true rfl) ?_))
      refine xc_v3_0 cF (Nat.le_of_ble_eq_true rfl) ?_
      generalize x_wr (x_wr h1 m (x_mc m (nword s nw (nI j) 0 0 (-1) 0) asd pa sts rf tx byt (hs1.map nI) (rd1) so (ah1) (ar1) tr bg fo bc br bk le fr nu od sp wr ha)) m (x_mc m (nword s nw (nI j) 0 0 (-1) 0) asd pa sts rf tx byt (F.2.1.map nI) (F.1.1) (F.1.2) (ah1) (ar1) tr bg (F.2.2.1) (F.2.2.2.1) (F.2.2.2.2.1) (F.2.2.2.2.2) le fr nu od sp wr ha) = h3 at A3 hb3 ⊢
      (repeat (first | (simp only [xb_X8_listens_0, xb_X8_listens_91, xb_X8_listens_148, xb_X8_listens_149, xb_X8_listens_176, xs_nil, Nat.reduceAdd, true_implies, not_true_eq_false, not_false_eq_true, false_implies, and_true, true_and, x_10, xs_aload_n_0, xs_bipush_118, xs_istore_n_2_i, xs_istore_n_2_a, xs_istore_n_2_n, xs_istore_n_2_l, xs_dup2, xs_iconst_1, xs_iadd, xs_iload_n_2, xs_istore_n_3_i, xs_istore_n_3_a, xs_istore_n_3_n, xs_istore_n_3_l, xs_iload_n_3, xs_istore_4_i, xs_istore_4_a, xs_istore_4_n, xs_istore_4_l, xs_iload_4, xs_iload_n_1, xs_iconst_0, xs_iconst_2, xs_iconst_3, xs_iconst_m1, xs_iconst_4, xs_if_le, xs_if_ne, xs_return, xs_bipush_117, xs_icmp_le, xs_goto]) | (refine xr_getf (hb3 0 _ rfl) (by rfl) ?_)))
      refine ⟨fun z => absurd (n3 ▸ z) (nI_nle hN n1), fun _ => ?_⟩
      (repeat (first | (simp only [xb_X8_listens_0, xb_X8_listens_91, xb_X8_listens_148, xb_X8_listens_149, xb_X8_listens_176, xs_nil, Nat.reduceAdd, true_implies, not_true_eq_false, not_false_eq_true, false_implies, and_true, true_and, x_10, xs_aload_n_0, xs_bipush_118, xs_istore_n_2_i, xs_istore_n_2_a, xs_istore_n_2_n, xs_istore_n_2_l, xs_dup2, xs_iconst_1, xs_iadd, xs_iload_n_2, xs_istore_n_3_i, xs_istore_n_3_a, xs_istore_n_3_n, xs_istore_n_3_l, xs_iload_n_3, xs_istore_4_i, xs_istore_4_a, xs_istore_4_n, xs_istore_4_l, xs_iload_4, xs_iload_n_1, xs_iconst_0, xs_iconst_2, xs_iconst_3, xs_iconst_m1, xs_iconst_4, xs_if_le, xs_if_ne, xs_return, xs_bipush_117, xs_icmp_le, xs_goto]) | (refine xr_getf (hb3 0 _ rfl) (by rfl) ?_)))
      rw [nI_1]
      refine xa_iastore A3 1 (by rfl) h2 (x_in (by rw [w0]; omega) (by rw [w0]; decide)) (fun h4 A4 => ?_)
      rw [xu_n (by omega)] at A4
      have hb4 := A4.hb
      have go : ∀ v : Int32, v = (if F.2.2.2.2.1 ≤ xg (sT s) 2 then 0 else 1) → x_EV 95 149 [some (.ref m), some (.int (nI j)), some (.int (nI (sn s))), some (.int (nI (sn s + 1))), some (.int (nI (119 + 5 * sn s)))] [.int v, .int (nI (119 + 5 * sn s + 2)), .ref (m + 1)] h4 none (x_wr h m (x_mc m (nword s nw (nI j) F.2.2.2.2.1 (if F.2.2.2.2.1 ≤ xg (sT s) 2 then 0 else 1) F.2.2.2.1 F.2.2.2.2.2) asd pa sts rf tx byt (F.2.1.map nI) (F.1.1) (F.1.2) (ah1) (ar1) tr bg (F.2.2.1) (F.2.2.2.1) (F.2.2.2.2.1) (F.2.2.2.2.2) le fr nu od sp wr ha)) := by
        intro v hvv
        rw [← hvv]
        refine xe_X8_listens_149 ?_
        refine xa_iastore A4 1 (by rfl) h2 (x_in (by rw [List.length_set, w0]; omega) (by rw [List.length_set, w0]; decide)) (fun h5 A5 => ?_)
        rw [xu_n (by omega)] at A5
        have hb5 := A5.hb
        (repeat (first | (simp only [xb_X8_listens_0, xb_X8_listens_91, xb_X8_listens_148, xb_X8_listens_149, xb_X8_listens_176, xs_nil, Nat.reduceAdd, true_implies, not_true_eq_false, not_false_eq_true, false_implies, and_true, true_and, x_10, xs_aload_n_0, xs_bipush_118, xs_istore_n_2_i, xs_istore_n_2_a, xs_istore_n_2_n, xs_istore_n_2_l, xs_dup2, xs_iconst_1, xs_iadd, xs_iload_n_2, xs_istore_n_3_i, xs_istore_n_3_a, xs_istore_n_3_n, xs_istore_n_3_l, xs_iload_n_3, xs_istore_4_i, xs_istore_4_a, xs_istore_4_n, xs_istore_4_l, xs_iload_4, xs_iload_n_1, xs_iconst_0, xs_iconst_2, xs_iconst_3, xs_iconst_m1, xs_iconst_4, xs_if_le, xs_if_ne, xs_return, xs_bipush_117, xs_icmp_le, xs_goto]) | (refine xr_getf (hb5 0 _ rfl) (by rfl) ?_)))
        rw [e3]
        refine xa_iastore A5 1 (by rfl) h2 (x_in (by rw [List.length_set, List.length_set, w0]; omega) (by rw [List.length_set, List.length_set, w0]; decide)) (fun h6 A6 => ?_)
        rw [xu_n (by omega)] at A6
        have hb6 := A6.hb
        (repeat (first | (simp only [xb_X8_listens_0, xb_X8_listens_91, xb_X8_listens_148, xb_X8_listens_149, xb_X8_listens_176, xs_nil, Nat.reduceAdd, true_implies, not_true_eq_false, not_false_eq_true, false_implies, and_true, true_and, x_10, xs_aload_n_0, xs_bipush_118, xs_istore_n_2_i, xs_istore_n_2_a, xs_istore_n_2_n, xs_istore_n_2_l, xs_dup2, xs_iconst_1, xs_iadd, xs_iload_n_2, xs_istore_n_3_i, xs_istore_n_3_a, xs_istore_n_3_n, xs_istore_n_3_l, xs_iload_n_3, xs_istore_4_i, xs_istore_4_a, xs_istore_4_n, xs_istore_4_l, xs_iload_4, xs_iload_n_1, xs_iconst_0, xs_iconst_2, xs_iconst_3, xs_iconst_m1, xs_iconst_4, xs_if_le, xs_if_ne, xs_return, xs_bipush_117, xs_icmp_le, xs_goto]) | (refine xr_getf (hb6 0 _ rfl) (by rfl) ?_)))
        rw [e4]
        refine xa_iastore A6 1 (by rfl) h2 (x_in (by rw [List.length_set, List.length_set, List.length_set, w0]; omega) (by rw [List.length_set, List.length_set, List.length_set, w0]; decide)) (fun h7 A7 => ?_)
        rw [xu_n (by omega)] at A7
        (repeat (first | (simp only [xb_X8_listens_0, xb_X8_listens_91, xb_X8_listens_148, xb_X8_listens_149, xb_X8_listens_176, xs_nil, Nat.reduceAdd, true_implies, not_true_eq_false, not_false_eq_true, false_implies, and_true, true_and, x_10, xs_aload_n_0, xs_bipush_118, xs_istore_n_2_i, xs_istore_n_2_a, xs_istore_n_2_n, xs_istore_n_2_l, xs_dup2, xs_iconst_1, xs_iadd, xs_iload_n_2, xs_istore_n_3_i, xs_istore_n_3_a, xs_istore_n_3_n, xs_istore_n_3_l, xs_iload_n_3, xs_istore_4_i, xs_istore_4_a, xs_istore_4_n, xs_istore_4_l, xs_iload_4, xs_iload_n_1, xs_iconst_0, xs_iconst_2, xs_iconst_3, xs_iconst_m1, xs_iconst_4, xs_if_le, xs_if_ne, xs_return, xs_bipush_117, xs_icmp_le, xs_goto]) ))
        refine xe_X8_listens_176 ?_
        (repeat (first | (simp only [xb_X8_listens_0, xb_X8_listens_91, xb_X8_listens_148, xb_X8_listens_149, xb_X8_listens_176, xs_nil, Nat.reduceAdd, true_implies, not_true_eq_false, not_false_eq_true, false_implies, and_true, true_and, x_10, xs_aload_n_0, xs_bipush_118, xs_istore_n_2_i, xs_istore_n_2_a, xs_istore_n_2_n, xs_istore_n_2_l, xs_dup2, xs_iconst_1, xs_iadd, xs_iload_n_2, xs_istore_n_3_i, xs_istore_n_3_a, xs_istore_n_3_n, xs_istore_n_3_l, xs_iload_n_3, xs_istore_4_i, xs_istore_4_a, xs_istore_4_n, xs_istore_4_l, xs_iload_4, xs_iload_n_1, xs_iconst_0, xs_iconst_2, xs_iconst_3, xs_iconst_m1, xs_iconst_4, xs_if_le, xs_if_ne, xs_return, xs_bipush_117, xs_icmp_le, xs_goto]) ))
        have e7 := A7.e
        have e8 : ((((nword s nw (nI j) 0 0 (-1) 0).set (119 + 5 * sn s + 1) F.2.2.2.2.1).set (119 + 5 * sn s + 2) v).set (119 + 5 * sn s + 3) F.2.2.2.1).set (119 + 5 * sn s + 4) F.2.2.2.2.2 = nword s nw (nI j) F.2.2.2.2.1 v F.2.2.2.1 F.2.2.2.2.2 := upd5_2
        rw [← e8]
        exact e7
      have eB4 : xg ((nword s nw (nI j) 0 0 (-1) 0).set (119 + 5 * sn s + 1) F.2.2.2.2.1) 117 = xg (sT s) 2 := by
        rw [← eB, show (117 : Int32) = nI 117 from rfl, xg_n (by omega), xg_n (by omega), gs_ne (by omega)]
      have i4' : xin 117 ((nword s nw (nI j) 0 0 (-1) 0).set (119 + 5 * sn s + 1) F.2.2.2.2.1).length := by
        rw [List.length_set, w0]
        exact x_in (k := 117) (by decide) (by decide)
      (repeat (first | (simp only [xb_X8_listens_0, xb_X8_listens_91, xb_X8_listens_148, xb_X8_listens_149, xb_X8_listens_176, xs_nil, Nat.reduceAdd, true_implies, not_true_eq_false, not_false_eq_true, false_implies, and_true, true_and, x_10, xs_aload_n_0, xs_bipush_118, xs_istore_n_2_i, xs_istore_n_2_a, xs_istore_n_2_n, xs_istore_n_2_l, xs_dup2, xs_iconst_1, xs_iadd, xs_iload_n_2, xs_istore_n_3_i, xs_istore_n_3_a, xs_istore_n_3_n, xs_istore_n_3_l, xs_iload_n_3, xs_istore_4_i, xs_istore_4_a, xs_istore_4_n, xs_istore_4_l, xs_iload_4, xs_iload_n_1, xs_iconst_0, xs_iconst_2, xs_iconst_3, xs_iconst_m1, xs_iconst_4, xs_if_le, xs_if_ne, xs_return, xs_bipush_117, xs_icmp_le, xs_goto]) | (refine xr_getf (hb4 0 _ rfl) (by rfl) ?_) | (refine xr_iaload (hb4 1 _ rfl) i4' ?_)))
      rw [eB4, e2]
      refine ⟨fun z => ?_, fun z => ?_⟩
      · refine xe_X8_listens_148 ?_
        (repeat (first | (simp only [xb_X8_listens_0, xb_X8_listens_91, xb_X8_listens_148, xb_X8_listens_149, xb_X8_listens_176, xs_nil, Nat.reduceAdd, true_implies, not_true_eq_false, not_false_eq_true, false_implies, and_true, true_and, x_10, xs_aload_n_0, xs_bipush_118, xs_istore_n_2_i, xs_istore_n_2_a, xs_istore_n_2_n, xs_istore_n_2_l, xs_dup2, xs_iconst_1, xs_iadd, xs_iload_n_2, xs_istore_n_3_i, xs_istore_n_3_a, xs_istore_n_3_n, xs_istore_n_3_l, xs_iload_n_3, xs_istore_4_i, xs_istore_4_a, xs_istore_4_n, xs_istore_4_l, xs_iload_4, xs_iload_n_1, xs_iconst_0, xs_iconst_2, xs_iconst_3, xs_iconst_m1, xs_iconst_4, xs_if_le, xs_if_ne, xs_return, xs_bipush_117, xs_icmp_le, xs_goto]) ))
        exact go 0 (if_pos z).symm
      · (repeat (first | (simp only [xb_X8_listens_0, xb_X8_listens_91, xb_X8_listens_148, xb_X8_listens_149, xb_X8_listens_176, xs_nil, Nat.reduceAdd, true_implies, not_true_eq_false, not_false_eq_true, false_implies, and_true, true_and, x_10, xs_aload_n_0, xs_bipush_118, xs_istore_n_2_i, xs_istore_n_2_a, xs_istore_n_2_n, xs_istore_n_2_l, xs_dup2, xs_iconst_1, xs_iadd, xs_iload_n_2, xs_istore_n_3_i, xs_istore_n_3_a, xs_istore_n_3_n, xs_istore_n_3_l, xs_iload_n_3, xs_istore_4_i, xs_istore_4_a, xs_istore_4_n, xs_istore_4_l, xs_iload_4, xs_iload_n_1, xs_iconst_0, xs_iconst_2, xs_iconst_3, xs_iconst_m1, xs_iconst_4, xs_if_le, xs_if_ne, xs_return, xs_bipush_117, xs_icmp_le, xs_goto]) ))
        exact go 1 (if_neg z).symm
    · have hN0 : N = 0 := by omega
      have hK : kheard (sword s (nI j)) c1 = srec (sword s (nI j)) (-1) (-1) 0 0 := by
        unfold kheard
        rw [n2, if_neg (fun z => hN ((nI0_lt n1).mp z))]
      rw [hK]
      refine ⟨nword s nw (nI j) 0 0 (-1) 0, F.2.1, F.1.1, F.1.2, ah1, ar1, F.2.2.1, F.2.2.2.1, F.2.2.2.2.1, F.2.2.2.2.2, ⟨o1, o2, o3, q3, q4, Rl_word hR hje hn (Or.inl ⟨rfl, rfl⟩), FR0⟩, ?_⟩
      refine p_listens hb h2 hv hg hn (fun h1 B1 => ⟨fun _ => ?_, fun z => absurd z hS⟩)
      have eh1 : x_wr h m (x_mc m (nword s nw (nI j) 0 0 (-1) 0) asd pa sts rf tx byt (hs.map nI) rd so ah ar tr bg fo bc br bk le fr nu od sp wr ha) = h1 := B1.e
      rw [eh1] at cA cF A3
      have hb3 := A3.hb
      refine xe_X8_listens_91 ?_
      (repeat (first | (simp only [xb_X8_listens_0, xb_X8_listens_91, xb_X8_listens_148, xb_X8_listens_149, xb_X8_listens_176, xs_nil, Nat.reduceAdd, true_implies, not_true_eq_false, not_false_eq_true, false_implies, and_true, true_and, x_10, xs_aload_n_0, xs_bipush_118, xs_istore_n_2_i, xs_istore_n_2_a, xs_istore_n_2_n, xs_istore_n_2_l, xs_dup2, xs_iconst_1, xs_iadd, xs_iload_n_2, xs_istore_n_3_i, xs_istore_n_3_a, xs_istore_n_3_n, xs_istore_n_3_l, xs_iload_n_3, xs_istore_4_i, xs_istore_4_a, xs_istore_4_n, xs_istore_4_l, xs_iload_4, xs_iload_n_1, xs_iconst_0, xs_iconst_2, xs_iconst_3, xs_iconst_m1, xs_iconst_4, xs_if_le, xs_if_ne, xs_return, xs_bipush_117, xs_icmp_le, xs_goto]) | refine xc_v2_0 (cA) (Nat.le_of_ble_eq_true rfl) ?_))
      refine xc_v3_0 cF (Nat.le_of_ble_eq_true rfl) ?_
      generalize x_wr (x_wr h1 m (x_mc m (nword s nw (nI j) 0 0 (-1) 0) asd pa sts rf tx byt (hs1.map nI) (rd1) so (ah1) (ar1) tr bg fo bc br bk le fr nu od sp wr ha)) m (x_mc m (nword s nw (nI j) 0 0 (-1) 0) asd pa sts rf tx byt (F.2.1.map nI) (F.1.1) (F.1.2) (ah1) (ar1) tr bg (F.2.2.1) (F.2.2.2.1) (F.2.2.2.2.1) (F.2.2.2.2.2) le fr nu od sp wr ha) = h3 at A3 hb3 ⊢
      (repeat (first | (simp only [xb_X8_listens_0, xb_X8_listens_91, xb_X8_listens_148, xb_X8_listens_149, xb_X8_listens_176, xs_nil, Nat.reduceAdd, true_implies, not_true_eq_false, not_false_eq_true, false_implies, and_true, true_and, x_10, xs_aload_n_0, xs_bipush_118, xs_istore_n_2_i, xs_istore_n_2_a, xs_istore_n_2_n, xs_istore_n_2_l, xs_dup2, xs_iconst_1, xs_iadd, xs_iload_n_2, xs_istore_n_3_i, xs_istore_n_3_a, xs_istore_n_3_n, xs_istore_n_3_l, xs_iload_n_3, xs_istore_4_i, xs_istore_4_a, xs_istore_4_n, xs_istore_4_l, xs_iload_4, xs_iload_n_1, xs_iconst_0, xs_iconst_2, xs_iconst_3, xs_iconst_m1, xs_iconst_4, xs_if_le, xs_if_ne, xs_return, xs_bipush_117, xs_icmp_le, xs_goto]) | (refine xr_getf (hb3 0 _ rfl) (by rfl) ?_)))
      refine ⟨fun _ => ?_, fun z => absurd (by rw [n3, hN0]; decide) z⟩
      refine xe_X8_listens_176 ?_
      (repeat (first | (simp only [xb_X8_listens_0, xb_X8_listens_91, xb_X8_listens_148, xb_X8_listens_149, xb_X8_listens_176, xs_nil, Nat.reduceAdd, true_implies, not_true_eq_false, not_false_eq_true, false_implies, and_true, true_and, x_10, xs_aload_n_0, xs_bipush_118, xs_istore_n_2_i, xs_istore_n_2_a, xs_istore_n_2_n, xs_istore_n_2_l, xs_dup2, xs_iconst_1, xs_iadd, xs_iload_n_2, xs_istore_n_3_i, xs_istore_n_3_a, xs_istore_n_3_n, xs_istore_n_3_l, xs_iload_n_3, xs_istore_4_i, xs_istore_4_a, xs_istore_4_n, xs_istore_4_l, xs_iload_4, xs_iload_n_1, xs_iconst_0, xs_iconst_2, xs_iconst_3, xs_iconst_m1, xs_iconst_4, xs_if_le, xs_if_ne, xs_return, xs_bipush_117, xs_icmp_le, xs_goto]) ))
      exact A3.e
end MO14
