/-! word, held -/
def zha (z : mZ) : Int64 := z.2.2.2.2.2.2.2.2.2.2.2.2.2.2.2.2.2.2
/-- the reference's cells, with the hash -/
def mWh (h : xH) (nw pa : List Int32) (sts : Int32) (rf tx : List Int32) (byt : Int32) (a : Int64) : Prop := ∃ z, okZ z ∧ zha z = a ∧ x_hb h 122 (x_m nw pa sts rf tx byt z)
theorem mWh.mW {h : xH} {nw pa : List Int32} {sts : Int32} {rf tx : List Int32} {byt : Int32} {a : Int64} (M : mWh h nw pa sts rf tx byt a) : mW h nw pa sts rf tx byt := by
  obtain ⟨z, h1, _, h3⟩ := M
  exact ⟨z, h1, h3⟩
theorem mW.mWh {h : xH} {nw pa : List Int32} {sts : Int32} {rf tx : List Int32} {byt : Int32} (M : mW h nw pa sts rf tx byt) : ∃ a, mWh h nw pa sts rf tx byt a := by
  obtain ⟨z, h1, h3⟩ := M
  exact ⟨_, z, h1, rfl, h3⟩
theorem mWh_A {h h' : xH} {nw' pa' : List Int32} {sts' : Int32} {rf' tx' : List Int32} {byt' : Int32} {z' : mZ} {a : Int64} (hz : okZ z') (ea : zha z' = a) (A : xA h 122 (x_m nw' pa' sts' rf' tx' byt' z') h') : mWh h' nw' pa' sts' rf' tx' byt' a ∧ mF h h' := ⟨⟨z', hz, ea, A.hb⟩, A.len, fun i hi => by rw [← A.e]; exact x_wr_out A.hl (Or.inl hi)⟩
/-- the row that is held -/
def srow (s : kS) : Int32 := xg (sro s) (sct s)
def wval (s : kS) (w i : Nat) : Int32 := if i = 0 then (sen s).getD w 0 else if i = 1 then (if srow s = -1 then -1 else kread (srow s) (nI w)) else if i = 2 then (if srow s = -1 then -1 else khead (srow s) (nI w)) else if i = 3 then (sre s).getD w 0 else if i = 4 then (ssu s).getD w 0 else (sco s).getD w 0
def hval (s : kS) (i : Nat) : Int32 := if i = 0 then sct s else if i = 1 then (if kstuck s = true then 1 else 0) else if i = 2 then xsum (ssu s) (sn s) else if i = 3 then xsum (sre s) (sn s) else if i = 4 then (sco s).getD (sn s) 0 else if i = 5 then (if srow s = -1 then -1 else krt (srow s) (sn s) 1) else (if srow s = -1 then -1 else nI (kdeep (srow s) (sn s)))
theorem srow_n {s : kS} (hv : sv s) : srow s = (sro s).getD (sn s) 0 := by
  have h6 := hv.n6
  unfold srow
  rw [hv.ct, xg_n (by omega)]
/-- holding, in both -/
theorem Rl_held {s : kS} {nw : List Int32} (hR : Rl s nw) : (¬ (0 < sn s ∧ ¬ kstuck s = true) → srow s = -1 ∧ (sco s).getD (sn s) 0 = -1) ∧ ((0 < sn s ∧ ¬ kstuck s = true) → ∃ b c, (b < 2 ^ sn s ∧ hsrt s (sn s) b) ∧ c ∈ tT (sn s) ∧ srow s = nI (rowN (sn s) b c) ∧ nw.getD (119 + 5 * (sn s - 1) + 4) 0 = nI (codN (sn s) b c)) := by
  have hv := hR.1
  have h6 := hv.n6
  have es := srow_n hv
  refine ⟨fun h => ?_, fun h => ?_⟩
  · by_cases h0 : 0 < sn s
    · have hst : kstuck s = true := Classical.byContradiction fun z => h ⟨h0, z⟩
      have e2 : 0 < sct s ∧ xg (sro s) (sct s) = -1 := of_decide_eq_true hst
      have e3 : srow s = -1 := e2.2
      refine ⟨e3, ?_⟩
      obtain ⟨_, _, z3, z4, _⟩ := hR.2.2.2.2 (sn s) h0 (Nat.le_refl _)
      rcases z4 with z4 | ⟨b, c, C, _, _, _, y, _⟩
      · exact z4.2
      · have := rowN_lt h6 b c
        rw [← es, e3] at y
        exact absurd y.symm (nI_m1 (by omega))
    · rw [es, show sn s = 0 by omega]
      exact ⟨hR.2.2.1, hR.2.2.2.1⟩
  · obtain ⟨b, c, y1, y2, y3, y4⟩ := ((Rl_stuck hR).2 h.2).2 h.1
    exact ⟨b, c, y1, y2, by rw [es]; exact y3, y4⟩
section HE0
variable {m : Nat} {nw asd pa rf tx rd so ah ar tr bg le fr nu : List Int32} {sts byt fo bc br bk od sp wr : Int32} {ha : Int64} {x1 x2 x3 x4 : Int32} {h h0 : xH} {hs : List Nat} {s : kS} {b c : Nat}
/-- what is held laid by words -/
theorem e_held (hb : x_hb h m (x_mc m nw asd pa sts rf tx byt (hs.map nI) rd so ah ar tr bg fo bc br bk le fr nu od sp wr ha)) (h2 : 2 ≤ m) (hk : nok hs) (l1 : rd.length = 7) (hR : Rl s nw) (h0 : 0 < sn s) (hC : nw.getD (119 + 5 * (sn s - 1) + 4) 0 = nI (codN (sn s) b c)) : ∃ (hs' : List Nat) (rd' : List Int32), (hdok hs' (sn s) c ∧ rd'.length = 7 ∧ ∀ w, 1 ≤ w → w ≤ sn s → rd'.getD w 0 = nI (rho (sn s) b w)) ∧ xK 83 [.ref m, .int (nI (sn s))] h none (x_wr h m (x_mc m nw asd pa sts rf tx byt (hs'.map nI) (rd') so ah ar tr bg fo bc br bk le fr nu od sp wr ha)) := by
  have h6 := hR.1.n6
  have cl := codN_lt h6 b c
  have hl : (hs.map nI).length = 7 := by rw [List.length_map]; exact hk.1
  have e4 : (119 : Int32) + 5 * (nI (sn s) - 1) + 4 = nI (119 + 5 * (sn s - 1) + 4) := by rw [wp_n (by omega)]; exact nI_k _ 4 rfl
  have cH := c_laysHeld (n := sn s) (c := codN (sn s) b c) hb h2 (by omega) hl l1 (by omega) (by rw [e4, hR.2.1.1]; exact x_in (by omega) (by decide)) (by rw [e4, xg_n (by omega)]; exact hC)
  obtain ⟨⟨hs', e1, hk'⟩, lr⟩ := mheld_ok (sn s) (codN (sn s) b c) hs rd hk l1
  have get := fun w (a : 1 ≤ w) (b' : w ≤ sn s) => held_get h6 b c hl l1 a b'
  rw [e1] at cH get
  refine ⟨hs', _, ⟨⟨hk', fun w a b' => ?_⟩, lr, fun w a b' => (get w a b').2⟩, cH⟩
  have hd := hdg_lt (sn s) c w
  have := (get w a b').1
  rw [← xg_n (by omega), xg_map (by rw [hk'.1]; omega) (by rw [hk'.1]; decide)] at this
  exact (nI_eq (by have := hk'.2 w; omega) (by omega)).mp this
end HE0
section HE
variable {ys : List Int32} {h : xH} {s : kS} {k : kC} {sh : Nat → kS} {nx ct : Nat} {tx : List Int32} {ln : Int32} {rf : List Int32} {nw pa : List Int32} {sts byt : Int32} {x1 x2 x3 x4 : Int32} {j : Nat} {a : Int64}
theorem c7_word (B : cW h s k sh nx ct tx ln rf) (hv : sv s) {w i : Nat} (h1 : 1 ≤ w) (hw : w ≤ sn s) (hi : i < 6) : xK 108 [.ref 2, .int (nI w), .int (nI i)] h (some (.int (wval s w i))) h := by
  have h6 := hv.n6
  have hct := hv.ct
  have cR := c_heldRow (x_tc_s B.hs) (by rw [hv.lro]; exact hv.in7)
  have cR : xK 58 [.ref (3 + 7)] h (some (.int (srow s))) h := cR
  have cr : xK 61 [.int (srow s), .int (nI w)] h (some (.int (kread (srow s) (nI w)))) h := c_readingOf
  have ch : xK 60 [.int (srow s), .int (nI w)] h (some (.int (khead (srow s) (nI w)))) h := c_headOf
  have i7 : xin (nI w) 7 := x_in (by omega) (by decide)
  refine xK_X7_word (B.hp 0 _ rfl) (xe_X7_word_0 ?_)
  (repeat (first | (simp only [xb_X7_word_0, xb_X7_word_21, xb_X7_word_28, xb_X7_word_72, xb_X7_word_79, xb_X7_word_89, xb_X7_word_95, xb_X7_word_96, xb_X7_word_106, xb_X7_word_112, xb_X7_word_113, xb_X7_word_120, xb_X7_word_127, xb_X7_word_134, xs_nil, Nat.reduceAdd, true_implies, not_true_eq_false, not_false_eq_true, false_implies, and_true, true_and, x_10, xs_aload_n_0, xs_astore_n_3_i, xs_astore_n_3_a, xs_astore_n_3_n, xs_astore_n_3_l, xs_iload_n_1, xs_iconst_1, xs_icmp_lt, xs_aload_n_3, xs_icmp_le, xs_bipush_m2, xs_ireturn, xs_istore_4_i, xs_istore_4_a, xs_istore_4_n, xs_istore_4_l, xs_iload_n_2, xs_iload_4, xs_iconst_m1, xs_icmp_ne, xs_goto]) | (refine xr_getf (B.hp 0 _ rfl) (by rfl) ?_) | (refine xr_getf (B.hs 0 _ rfl) (by rfl) ?_) | (refine xr_getf (B.hs 1 _ rfl) (by rfl) ?_) | (refine xr_getf (B.hs 7 _ rfl) (by rfl) ?_)))
  refine ⟨fun z => absurd z (nI_nlt (b := 1) h1 (by omega)), fun _ => ?_⟩
  (repeat (first | (simp only [xb_X7_word_0, xb_X7_word_21, xb_X7_word_28, xb_X7_word_72, xb_X7_word_79, xb_X7_word_89, xb_X7_word_95, xb_X7_word_96, xb_X7_word_106, xb_X7_word_112, xb_X7_word_113, xb_X7_word_120, xb_X7_word_127, xb_X7_word_134, xs_nil, Nat.reduceAdd, true_implies, not_true_eq_false, not_false_eq_true, false_implies, and_true, true_and, x_10, xs_aload_n_0, xs_astore_n_3_i, xs_astore_n_3_a, xs_astore_n_3_n, xs_astore_n_3_l, xs_iload_n_1, xs_iconst_1, xs_icmp_lt, xs_aload_n_3, xs_icmp_le, xs_bipush_m2, xs_ireturn, xs_istore_4_i, xs_istore_4_a, xs_istore_4_n, xs_istore_4_l, xs_iload_n_2, xs_iload_4, xs_iconst_m1, xs_icmp_ne, xs_goto]) | (refine xr_getf (B.hp 0 _ rfl) (by rfl) ?_) | (refine xr_getf (B.hs 0 _ rfl) (by rfl) ?_) | (refine xr_getf (B.hs 1 _ rfl) (by rfl) ?_) | (refine xr_getf (B.hs 7 _ rfl) (by rfl) ?_)))
  rw [hct]
  refine ⟨fun _ => ?_, fun z => absurd (nI_le hw (by omega)) z⟩
  refine xe_X7_word_28 ?_
  (repeat (first | (simp only [xb_X7_word_0, xb_X7_word_21, xb_X7_word_28, xb_X7_word_72, xb_X7_word_79, xb_X7_word_89, xb_X7_word_95, xb_X7_word_96, xb_X7_word_106, xb_X7_word_112, xb_X7_word_113, xb_X7_word_120, xb_X7_word_127, xb_X7_word_134, xs_nil, Nat.reduceAdd, true_implies, not_true_eq_false, not_false_eq_true, false_implies, and_true, true_and, x_10, xs_aload_n_0, xs_astore_n_3_i, xs_astore_n_3_a, xs_astore_n_3_n, xs_astore_n_3_l, xs_iload_n_1, xs_iconst_1, xs_icmp_lt, xs_aload_n_3, xs_icmp_le, xs_bipush_m2, xs_ireturn, xs_istore_4_i, xs_istore_4_a, xs_istore_4_n, xs_istore_4_l, xs_iload_n_2, xs_iload_4, xs_iconst_m1, xs_icmp_ne, xs_goto]) | refine xc_v1_1 (cR) (Nat.le_of_ble_eq_true rfl) ?_))
  rcases (show i = 0 ∨ i = 1 ∨ i = 2 ∨ i = 3 ∨ i = 4 ∨ i = 5 by omega) with rfl | rfl | rfl | rfl | rfl | rfl
  · refine xr_tabin 0 37 72 (by decide) (by decide) rfl rfl (xe_X7_word_72 ?_)
    (repeat (first | (simp only [xb_X7_word_0, xb_X7_word_21, xb_X7_word_28, xb_X7_word_72, xb_X7_word_79, xb_X7_word_89, xb_X7_word_95, xb_X7_word_96, xb_X7_word_106, xb_X7_word_112, xb_X7_word_113, xb_X7_word_120, xb_X7_word_127, xb_X7_word_134, xs_nil, Nat.reduceAdd, true_implies, not_true_eq_false, not_false_eq_true, false_implies, and_true, true_and, x_10, xs_aload_n_0, xs_astore_n_3_i, xs_astore_n_3_a, xs_astore_n_3_n, xs_astore_n_3_l, xs_iload_n_1, xs_iconst_1, xs_icmp_lt, xs_aload_n_3, xs_icmp_le, xs_bipush_m2, xs_ireturn, xs_istore_4_i, xs_istore_4_a, xs_istore_4_n, xs_istore_4_l, xs_iload_n_2, xs_iload_4, xs_iconst_m1, xs_icmp_ne, xs_goto]) | (refine xr_getf (B.hp 0 _ rfl) (by rfl) ?_) | (refine xr_getf (B.hs 0 _ rfl) (by rfl) ?_) | (refine xr_getf (B.hs 1 _ rfl) (by rfl) ?_) | (refine xr_getf (B.hs 7 _ rfl) (by rfl) ?_) | (refine xr_iaload (B.hs 8 _ rfl) (by rw [hv.len]; exact i7) ?_)))
    rw [xg_n (by omega)]
    (first | exact ⟨Or.inl trivial, rfl⟩ | exact ⟨Or.inl trivial, rfl, rfl⟩ | (simp; done) | exact ⟨by simp, rfl⟩ | exact ⟨by simp, rfl, rfl⟩ | rfl)
  · refine xr_tabin 1 44 79 (by decide) (by decide) rfl rfl (xe_X7_word_79 ?_)
    (repeat (first | (simp only [xb_X7_word_0, xb_X7_word_21, xb_X7_word_28, xb_X7_word_72, xb_X7_word_79, xb_X7_word_89, xb_X7_word_95, xb_X7_word_96, xb_X7_word_106, xb_X7_word_112, xb_X7_word_113, xb_X7_word_120, xb_X7_word_127, xb_X7_word_134, xs_nil, Nat.reduceAdd, true_implies, not_true_eq_false, not_false_eq_true, false_implies, and_true, true_and, x_10, xs_aload_n_0, xs_astore_n_3_i, xs_astore_n_3_a, xs_astore_n_3_n, xs_astore_n_3_l, xs_iload_n_1, xs_iconst_1, xs_icmp_lt, xs_aload_n_3, xs_icmp_le, xs_bipush_m2, xs_ireturn, xs_istore_4_i, xs_istore_4_a, xs_istore_4_n, xs_istore_4_l, xs_iload_n_2, xs_iload_4, xs_iconst_m1, xs_icmp_ne, xs_goto]) ))
    have e : wval s w 1 = (if srow s = -1 then -1 else kread (srow s) (nI w)) := rfl
    rw [e]
    by_cases hz : srow s = -1
    · rw [if_pos hz]
      refine ⟨fun z => absurd hz z, fun _ => ?_⟩
      (repeat (first | (simp only [xb_X7_word_0, xb_X7_word_21, xb_X7_word_28, xb_X7_word_72, xb_X7_word_79, xb_X7_word_89, xb_X7_word_95, xb_X7_word_96, xb_X7_word_106, xb_X7_word_112, xb_X7_word_113, xb_X7_word_120, xb_X7_word_127, xb_X7_word_134, xs_nil, Nat.reduceAdd, true_implies, not_true_eq_false, not_false_eq_true, false_implies, and_true, true_and, x_10, xs_aload_n_0, xs_astore_n_3_i, xs_astore_n_3_a, xs_astore_n_3_n, xs_astore_n_3_l, xs_iload_n_1, xs_iconst_1, xs_icmp_lt, xs_aload_n_3, xs_icmp_le, xs_bipush_m2, xs_ireturn, xs_istore_4_i, xs_istore_4_a, xs_istore_4_n, xs_istore_4_l, xs_iload_n_2, xs_iload_4, xs_iconst_m1, xs_icmp_ne, xs_goto]) ))
      refine xe_X7_word_95 ?_
      (repeat (first | (simp only [xb_X7_word_0, xb_X7_word_21, xb_X7_word_28, xb_X7_word_72, xb_X7_word_79, xb_X7_word_89, xb_X7_word_95, xb_X7_word_96, xb_X7_word_106, xb_X7_word_112, xb_X7_word_113, xb_X7_word_120, xb_X7_word_127, xb_X7_word_134, xs_nil, Nat.reduceAdd, true_implies, not_true_eq_false, not_false_eq_true, false_implies, and_true, true_and, x_10, xs_aload_n_0, xs_astore_n_3_i, xs_astore_n_3_a, xs_astore_n_3_n, xs_astore_n_3_l, xs_iload_n_1, xs_iconst_1, xs_icmp_lt, xs_aload_n_3, xs_icmp_le, xs_bipush_m2, xs_ireturn, xs_istore_4_i, xs_istore_4_a, xs_istore_4_n, xs_istore_4_l, xs_iload_n_2, xs_iload_4, xs_iconst_m1, xs_icmp_ne, xs_goto]) ))
      (first | exact ⟨Or.inl trivial, rfl⟩ | exact ⟨Or.inl trivial, rfl, rfl⟩ | (simp; done) | exact ⟨by simp, rfl⟩ | exact ⟨by simp, rfl, rfl⟩ | rfl)
    · rw [if_neg hz]
      refine ⟨fun _ => ?_, fun z => absurd hz z⟩
      refine xe_X7_word_89 ?_
      (repeat (first | (simp only [xb_X7_word_0, xb_X7_word_21, xb_X7_word_28, xb_X7_word_72, xb_X7_word_79, xb_X7_word_89, xb_X7_word_95, xb_X7_word_96, xb_X7_word_106, xb_X7_word_112, xb_X7_word_113, xb_X7_word_120, xb_X7_word_127, xb_X7_word_134, xs_nil, Nat.reduceAdd, true_implies, not_true_eq_false, not_false_eq_true, false_implies, and_true, true_and, x_10, xs_aload_n_0, xs_astore_n_3_i, xs_astore_n_3_a, xs_astore_n_3_n, xs_astore_n_3_l, xs_iload_n_1, xs_iconst_1, xs_icmp_lt, xs_aload_n_3, xs_icmp_le, xs_bipush_m2, xs_ireturn, xs_istore_4_i, xs_istore_4_a, xs_istore_4_n, xs_istore_4_l, xs_iload_n_2, xs_iload_4, xs_iconst_m1, xs_icmp_ne, xs_goto]) | refine xc_s2_1 (by decide) (cr) (Nat.le_of_ble_eq_true rfl) ?_))
      refine xe_X7_word_95 ?_
      (repeat (first | (simp only [xb_X7_word_0, xb_X7_word_21, xb_X7_word_28, xb_X7_word_72, xb_X7_word_79, xb_X7_word_89, xb_X7_word_95, xb_X7_word_96, xb_X7_word_106, xb_X7_word_112, xb_X7_word_113, xb_X7_word_120, xb_X7_word_127, xb_X7_word_134, xs_nil, Nat.reduceAdd, true_implies, not_true_eq_false, not_false_eq_true, false_implies, and_true, true_and, x_10, xs_aload_n_0, xs_astore_n_3_i, xs_astore_n_3_a, xs_astore_n_3_n, xs_astore_n_3_l, xs_iload_n_1, xs_iconst_1, xs_icmp_lt, xs_aload_n_3, xs_icmp_le, xs_bipush_m2, xs_ireturn, xs_istore_4_i, xs_istore_4_a, xs_istore_4_n, xs_istore_4_l, xs_iload_n_2, xs_iload_4, xs_iconst_m1, xs_icmp_ne, xs_goto]) ))
      (first | exact ⟨Or.inl trivial, rfl⟩ | exact ⟨Or.inl trivial, rfl, rfl⟩ | (simp; done) | exact ⟨by simp, rfl⟩ | exact ⟨by simp, rfl, rfl⟩ | rfl)
  · refine xr_tabin 2 61 96 (by decide) (by decide) rfl rfl (xe_X7_word_96 ?_)
    (repeat (first | (simp only [xb_X7_word_0, xb_X7_word_21, xb_X7_word_28, xb_X7_word_72, xb_X7_word_79, xb_X7_word_89, xb_X7_word_95, xb_X7_word_96, xb_X7_word_106, xb_X7_word_112, xb_X7_word_113, xb_X7_word_120, xb_X7_word_127, xb_X7_word_134, xs_nil, Nat.reduceAdd, true_implies, not_true_eq_false, not_false_eq_true, false_implies, and_true, true_and, x_10, xs_aload_n_0, xs_astore_n_3_i, xs_astore_n_3_a, xs_astore_n_3_n, xs_astore_n_3_l, xs_iload_n_1, xs_iconst_1, xs_icmp_lt, xs_aload_n_3, xs_icmp_le, xs_bipush_m2, xs_ireturn, xs_istore_4_i, xs_istore_4_a, xs_istore_4_n, xs_istore_4_l, xs_iload_n_2, xs_iload_4, xs_iconst_m1, xs_icmp_ne, xs_goto]) ))
    have e : wval s w 2 = (if srow s = -1 then -1 else khead (srow s) (nI w)) := rfl
    rw [e]
    by_cases hz : srow s = -1
    · rw [if_pos hz]
      refine ⟨fun z => absurd hz z, fun _ => ?_⟩
      (repeat (first | (simp only [xb_X7_word_0, xb_X7_word_21, xb_X7_word_28, xb_X7_word_72, xb_X7_word_79, xb_X7_word_89, xb_X7_word_95, xb_X7_word_96, xb_X7_word_106, xb_X7_word_112, xb_X7_word_113, xb_X7_word_120, xb_X7_word_127, xb_X7_word_134, xs_nil, Nat.reduceAdd, true_implies, not_true_eq_false, not_false_eq_true, false_implies, and_true, true_and, x_10, xs_aload_n_0, xs_astore_n_3_i, xs_astore_n_3_a, xs_astore_n_3_n, xs_astore_n_3_l, xs_iload_n_1, xs_iconst_1, xs_icmp_lt, xs_aload_n_3, xs_icmp_le, xs_bipush_m2, xs_ireturn, xs_istore_4_i, xs_istore_4_a, xs_istore_4_n, xs_istore_4_l, xs_iload_n_2, xs_iload_4, xs_iconst_m1, xs_icmp_ne, xs_goto]) ))
      refine xe_X7_word_112 ?_
      (repeat (first | (simp only [xb_X7_word_0, xb_X7_word_21, xb_X7_word_28, xb_X7_word_72, xb_X7_word_79, xb_X7_word_89, xb_X7_word_95, xb_X7_word_96, xb_X7_word_106, xb_X7_word_112, xb_X7_word_113, xb_X7_word_120, xb_X7_word_127, xb_X7_word_134, xs_nil, Nat.reduceAdd, true_implies, not_true_eq_false, not_false_eq_true, false_implies, and_true, true_and, x_10, xs_aload_n_0, xs_astore_n_3_i, xs_astore_n_3_a, xs_astore_n_3_n, xs_astore_n_3_l, xs_iload_n_1, xs_iconst_1, xs_icmp_lt, xs_aload_n_3, xs_icmp_le, xs_bipush_m2, xs_ireturn, xs_istore_4_i, xs_istore_4_a, xs_istore_4_n, xs_istore_4_l, xs_iload_n_2, xs_iload_4, xs_iconst_m1, xs_icmp_ne, xs_goto]) ))
      (first | exact ⟨Or.inl trivial, rfl⟩ | exact ⟨Or.inl trivial, rfl, rfl⟩ | (simp; done) | exact ⟨by simp, rfl⟩ | exact ⟨by simp, rfl, rfl⟩ | rfl)
    · rw [if_neg hz]
      refine ⟨fun _ => ?_, fun z => absurd hz z⟩
      refine xe_X7_word_106 ?_
      (repeat (first | (simp only [xb_X7_word_0, xb_X7_word_21, xb_X7_word_28, xb_X7_word_72, xb_X7_word_79, xb_X7_word_89, xb_X7_word_95, xb_X7_word_96, xb_X7_word_106, xb_X7_word_112, xb_X7_word_113, xb_X7_word_120, xb_X7_word_127, xb_X7_word_134, xs_nil, Nat.reduceAdd, true_implies, not_true_eq_false, not_false_eq_true, false_implies, and_true, true_and, x_10, xs_aload_n_0, xs_astore_n_3_i, xs_astore_n_3_a, xs_astore_n_3_n, xs_astore_n_3_l, xs_iload_n_1, xs_iconst_1, xs_icmp_lt, xs_aload_n_3, xs_icmp_le, xs_bipush_m2, xs_ireturn, xs_istore_4_i, xs_istore_4_a, xs_istore_4_n, xs_istore_4_l, xs_iload_n_2, xs_iload_4, xs_iconst_m1, xs_icmp_ne, xs_goto]) | refine xc_s2_1 (by decide) (ch) (Nat.le_of_ble_eq_true rfl) ?_))
      refine xe_X7_word_112 ?_
      (repeat (first | (simp only [xb_X7_word_0, xb_X7_word_21, xb_X7_word_28, xb_X7_word_72, xb_X7_word_79, xb_X7_word_89, xb_X7_word_95, xb_X7_word_96, xb_X7_word_106, xb_X7_word_112, xb_X7_word_113, xb_X7_word_120, xb_X7_word_127, xb_X7_word_134, xs_nil, Nat.reduceAdd, true_implies, not_true_eq_false, not_false_eq_true, false_implies, and_true, true_and, x_10, xs_aload_n_0, xs_astore_n_3_i, xs_astore_n_3_a, xs_astore_n_3_n, xs_astore_n_3_l, xs_iload_n_1, xs_iconst_1, xs_icmp_lt, xs_aload_n_3, xs_icmp_le, xs_bipush_m2, xs_ireturn, xs_istore_4_i, xs_istore_4_a, xs_istore_4_n, xs_istore_4_l, xs_iload_n_2, xs_iload_4, xs_iconst_m1, xs_icmp_ne, xs_goto]) ))
      (first | exact ⟨Or.inl trivial, rfl⟩ | exact ⟨Or.inl trivial, rfl, rfl⟩ | (simp; done) | exact ⟨by simp, rfl⟩ | exact ⟨by simp, rfl, rfl⟩ | rfl)
  · refine xr_tabin 3 78 113 (by decide) (by decide) rfl rfl (xe_X7_word_113 ?_)
    (repeat (first | (simp only [xb_X7_word_0, xb_X7_word_21, xb_X7_word_28, xb_X7_word_72, xb_X7_word_79, xb_X7_word_89, xb_X7_word_95, xb_X7_word_96, xb_X7_word_106, xb_X7_word_112, xb_X7_word_113, xb_X7_word_120, xb_X7_word_127, xb_X7_word_134, xs_nil, Nat.reduceAdd, true_implies, not_true_eq_false, not_false_eq_true, false_implies, and_true, true_and, x_10, xs_aload_n_0, xs_astore_n_3_i, xs_astore_n_3_a, xs_astore_n_3_n, xs_astore_n_3_l, xs_iload_n_1, xs_iconst_1, xs_icmp_lt, xs_aload_n_3, xs_icmp_le, xs_bipush_m2, xs_ireturn, xs_istore_4_i, xs_istore_4_a, xs_istore_4_n, xs_istore_4_l, xs_iload_n_2, xs_iload_4, xs_iconst_m1, xs_icmp_ne, xs_goto]) | (refine xr_getf (B.hp 0 _ rfl) (by rfl) ?_) | (refine xr_getf (B.hs 0 _ rfl) (by rfl) ?_) | (refine xr_getf (B.hs 1 _ rfl) (by rfl) ?_) | (refine xr_getf (B.hs 7 _ rfl) (by rfl) ?_) | (refine xr_iaload (B.hs 11 _ rfl) (by rw [hv.lre]; exact i7) ?_)))
    rw [xg_n (by omega)]
    (first | exact ⟨Or.inl trivial, rfl⟩ | exact ⟨Or.inl trivial, rfl, rfl⟩ | (simp; done) | exact ⟨by simp, rfl⟩ | exact ⟨by simp, rfl, rfl⟩ | rfl)
  · refine xr_tabin 4 85 120 (by decide) (by decide) rfl rfl (xe_X7_word_120 ?_)
    (repeat (first | (simp only [xb_X7_word_0, xb_X7_word_21, xb_X7_word_28, xb_X7_word_72, xb_X7_word_79, xb_X7_word_89, xb_X7_word_95, xb_X7_word_96, xb_X7_word_106, xb_X7_word_112, xb_X7_word_113, xb_X7_word_120, xb_X7_word_127, xb_X7_word_134, xs_nil, Nat.reduceAdd, true_implies, not_true_eq_false, not_false_eq_true, false_implies, and_true, true_and, x_10, xs_aload_n_0, xs_astore_n_3_i, xs_astore_n_3_a, xs_astore_n_3_n, xs_astore_n_3_l, xs_iload_n_1, xs_iconst_1, xs_icmp_lt, xs_aload_n_3, xs_icmp_le, xs_bipush_m2, xs_ireturn, xs_istore_4_i, xs_istore_4_a, xs_istore_4_n, xs_istore_4_l, xs_iload_n_2, xs_iload_4, xs_iconst_m1, xs_icmp_ne, xs_goto]) | (refine xr_getf (B.hp 0 _ rfl) (by rfl) ?_) | (refine xr_getf (B.hs 0 _ rfl) (by rfl) ?_) | (refine xr_getf (B.hs 1 _ rfl) (by rfl) ?_) | (refine xr_getf (B.hs 7 _ rfl) (by rfl) ?_) | (refine xr_iaload (B.hs 12 _ rfl) (by rw [hv.lsu]; exact i7) ?_)))
    rw [xg_n (by omega)]
    (first | exact ⟨Or.inl trivial, rfl⟩ | exact ⟨Or.inl trivial, rfl, rfl⟩ | (simp; done) | exact ⟨by simp, rfl⟩ | exact ⟨by simp, rfl, rfl⟩ | rfl)
  · refine xr_tabin 5 92 127 (by decide) (by decide) rfl rfl (xe_X7_word_127 ?_)
    (repeat (first | (simp only [xb_X7_word_0, xb_X7_word_21, xb_X7_word_28, xb_X7_word_72, xb_X7_word_79, xb_X7_word_89, xb_X7_word_95, xb_X7_word_96, xb_X7_word_106, xb_X7_word_112, xb_X7_word_113, xb_X7_word_120, xb_X7_word_127, xb_X7_word_134, xs_nil, Nat.reduceAdd, true_implies, not_true_eq_false, not_false_eq_true, false_implies, and_true, true_and, x_10, xs_aload_n_0, xs_astore_n_3_i, xs_astore_n_3_a, xs_astore_n_3_n, xs_astore_n_3_l, xs_iload_n_1, xs_iconst_1, xs_icmp_lt, xs_aload_n_3, xs_icmp_le, xs_bipush_m2, xs_ireturn, xs_istore_4_i, xs_istore_4_a, xs_istore_4_n, xs_istore_4_l, xs_iload_n_2, xs_iload_4, xs_iconst_m1, xs_icmp_ne, xs_goto]) | (refine xr_getf (B.hp 0 _ rfl) (by rfl) ?_) | (refine xr_getf (B.hs 0 _ rfl) (by rfl) ?_) | (refine xr_getf (B.hs 1 _ rfl) (by rfl) ?_) | (refine xr_getf (B.hs 7 _ rfl) (by rfl) ?_) | (refine xr_iaload (B.hs 10 _ rfl) (by rw [hv.lco]; exact i7) ?_)))
    rw [xg_n (by omega)]
    (first | exact ⟨Or.inl trivial, rfl⟩ | exact ⟨Or.inl trivial, rfl, rfl⟩ | (simp; done) | exact ⟨by simp, rfl⟩ | exact ⟨by simp, rfl, rfl⟩ | rfl)
theorem m8_wordOf (M : mWh h nw pa sts rf tx byt a) (hR : Rl s nw) {w i : Nat} (h1 : 1 ≤ w) (hw : w ≤ sn s) (hi : i < 6) : ∃ h2, xK 109 [.ref 122, .int (nI w), .int (nI i)] h (some (.int (wval s w i))) h2 ∧ mWh h2 nw pa sts rf tx byt a ∧ mF h h2 := by
  have hl := hR.2.1.1
  have h6 := hR.1.n6
  have cH := m8_holds M.mW hR
  have e118 := hR.e118
  have i118 := hR.i118
  obtain ⟨⟨asd, hs, rd, so, ah, ar, tr, bg, fo, bc, br, bk, le, fr, nu, od, sp, wr, ha⟩, hz, ea, hb⟩ := id M
  have hb : x_hb h 122 (x_mc 122 nw asd pa sts rf tx byt (hs.map nI) rd so ah ar tr bg fo bc br bk le fr nu od sp wr ha) := hb
  have A := xA.of hb (Nat.zero_lt_succ _)
  obtain ⟨z1, z2, z3, z4⟩ := id hz
  by_cases hi12 : i = 1 ∨ i = 2
  · -- what is held
    obtain ⟨hh1, hh2⟩ := Rl_held hR
    by_cases hhd : 0 < sn s ∧ ¬ kstuck s = true
    · obtain ⟨b, c, y1, y2, y3, y4⟩ := hh2 hhd
      rw [if_pos hhd] at cH
      obtain ⟨hs', rd', ⟨o1, o2, o3⟩, cL⟩ := e_held hb (by decide) z2 z3 hR hhd.1 y4
      have A1 : xA h 122 (x_mc 122 nw asd pa sts rf tx byt ((hs').map nI) (rd') so ah ar tr bg fo bc br bk le fr nu od sp wr ha) _ := A.on rfl
      have hb1 := A1.hb
      obtain ⟨M1, F1⟩ := mWh_A (nw' := nw) (pa' := pa) (sts' := sts) (rf' := rf) (tx' := tx) (byt' := byt) (z' := ((asd, (hs'), (rd'), so, ah, ar, tr, bg, fo, bc, br, bk, le, fr, nu, od, sp, wr, ha) : mZ)) ⟨z1, o1.1, o2, z4⟩ ea A1
      refine ⟨_, ?_, M1, F1⟩
      have hrow := rowN_lt h6 b c
      have hne : ¬ srow s = -1 := by rw [y3]; exact nI_m1 (by omega)
      have go : x_EV 109 32 [some (.ref 122), some (.int (nI w)), some (.int (nI i))] [] h (some (.int (wval s w i))) (x_wr h 122 (x_mc 122 nw asd pa sts rf tx byt ((hs').map nI) (rd') so ah ar tr bg fo bc br bk le fr nu od sp wr ha)) := by
        refine xe_X8_wordOf_32 ?_
        (repeat (first | (simp only [xb_X8_wordOf_0, xb_X8_wordOf_9, xb_X8_wordOf_26, xb_X8_wordOf_29, xb_X8_wordOf_32, xb_X8_wordOf_48, xb_X8_wordOf_73, xb_X8_wordOf_79, xs_nil, Nat.reduceAdd, true_implies, not_true_eq_false, not_false_eq_true, false_implies, and_true, true_and, x_10, xs_iload_n_2, xs_if_eq, xs_iconst_2, xs_icmp_le, xs_aload_n_0, xs_iload_n_1, xs_if_ne, xs_iconst_0, xs_goto, xs_isub, xs_iadd, xs_ireturn, xs_bipush_118, xs_iconst_m1, xs_iconst_1, xs_icmp_ne]) | (refine xr_getf (hb 0 _ rfl) (by rfl) ?_) | (refine xr_iaload (hb 1 _ rfl) i118 ?_)))
        rw [e118]
        (repeat (first | (simp only [xb_X8_wordOf_0, xb_X8_wordOf_9, xb_X8_wordOf_26, xb_X8_wordOf_29, xb_X8_wordOf_32, xb_X8_wordOf_48, xb_X8_wordOf_73, xb_X8_wordOf_79, xs_nil, Nat.reduceAdd, true_implies, not_true_eq_false, not_false_eq_true, false_implies, and_true, true_and, x_10, xs_iload_n_2, xs_if_eq, xs_iconst_2, xs_icmp_le, xs_aload_n_0, xs_iload_n_1, xs_if_ne, xs_iconst_0, xs_goto, xs_isub, xs_iadd, xs_ireturn, xs_bipush_118, xs_iconst_m1, xs_iconst_1, xs_icmp_ne]) | refine xc_v2_1 (cH) (Nat.le_of_ble_eq_true rfl) ?_))
        refine xe_X8_wordOf_48 ?_
        (repeat (first | (simp only [xb_X8_wordOf_0, xb_X8_wordOf_9, xb_X8_wordOf_26, xb_X8_wordOf_29, xb_X8_wordOf_32, xb_X8_wordOf_48, xb_X8_wordOf_73, xb_X8_wordOf_79, xs_nil, Nat.reduceAdd, true_implies, not_true_eq_false, not_false_eq_true, false_implies, and_true, true_and, x_10, xs_iload_n_2, xs_if_eq, xs_iconst_2, xs_icmp_le, xs_aload_n_0, xs_iload_n_1, xs_if_ne, xs_iconst_0, xs_goto, xs_isub, xs_iadd, xs_ireturn, xs_bipush_118, xs_iconst_m1, xs_iconst_1, xs_icmp_ne]) | (refine xr_getf (hb 0 _ rfl) (by rfl) ?_) | (refine xr_iaload (hb 1 _ rfl) i118 ?_)))
        rw [e118]
        (repeat (first | (simp only [xb_X8_wordOf_0, xb_X8_wordOf_9, xb_X8_wordOf_26, xb_X8_wordOf_29, xb_X8_wordOf_32, xb_X8_wordOf_48, xb_X8_wordOf_73, xb_X8_wordOf_79, xs_nil, Nat.reduceAdd, true_implies, not_true_eq_false, not_false_eq_true, false_implies, and_true, true_and, x_10, xs_iload_n_2, xs_if_eq, xs_iconst_2, xs_icmp_le, xs_aload_n_0, xs_iload_n_1, xs_if_ne, xs_iconst_0, xs_goto, xs_isub, xs_iadd, xs_ireturn, xs_bipush_118, xs_iconst_m1, xs_iconst_1, xs_icmp_ne]) | refine xc_v2_0 (cL) (Nat.le_of_ble_eq_true rfl) ?_))
        generalize x_wr h 122 (x_mc 122 nw asd pa sts rf tx byt ((hs').map nI) (rd') so ah ar tr bg fo bc br bk le fr nu od sp wr ha) = h1' at hb1 ⊢
        rcases hi12 with rfl | rfl
        · have e : wval s w 1 = nI (rho (sn s) b w) := by
            show (if srow s = -1 then -1 else kread (srow s) (nI w)) = _
            rw [if_neg hne, y3, kread_at h6 b c h1 hw]
          refine ⟨fun z => absurd rfl z, fun _ => ?_⟩
          (repeat (first | (simp only [xb_X8_wordOf_0, xb_X8_wordOf_9, xb_X8_wordOf_26, xb_X8_wordOf_29, xb_X8_wordOf_32, xb_X8_wordOf_48, xb_X8_wordOf_73, xb_X8_wordOf_79, xs_nil, Nat.reduceAdd, true_implies, not_true_eq_false, not_false_eq_true, false_implies, and_true, true_and, x_10, xs_iload_n_2, xs_if_eq, xs_iconst_2, xs_icmp_le, xs_aload_n_0, xs_iload_n_1, xs_if_ne, xs_iconst_0, xs_goto, xs_isub, xs_iadd, xs_ireturn, xs_bipush_118, xs_iconst_m1, xs_iconst_1, xs_icmp_ne]) | (refine xr_getf (hb1 0 _ rfl) (by rfl) ?_) | (refine xr_iaload (hb1 7 _ rfl) (by rw [o2]; exact x_in (by omega) (by decide)) ?_)))
          refine xe_X8_wordOf_79 ?_
          (repeat (first | (simp only [xb_X8_wordOf_0, xb_X8_wordOf_9, xb_X8_wordOf_26, xb_X8_wordOf_29, xb_X8_wordOf_32, xb_X8_wordOf_48, xb_X8_wordOf_73, xb_X8_wordOf_79, xs_nil, Nat.reduceAdd, true_implies, not_true_eq_false, not_false_eq_true, false_implies, and_true, true_and, x_10, xs_iload_n_2, xs_if_eq, xs_iconst_2, xs_icmp_le, xs_aload_n_0, xs_iload_n_1, xs_if_ne, xs_iconst_0, xs_goto, xs_isub, xs_iadd, xs_ireturn, xs_bipush_118, xs_iconst_m1, xs_iconst_1, xs_icmp_ne]) ))
          rw [xg_n (by omega), o3 w h1 hw, e]
          (first | exact ⟨Or.inl trivial, rfl⟩ | exact ⟨Or.inl trivial, rfl, rfl⟩ | (simp; done) | exact ⟨by simp, rfl⟩ | exact ⟨by simp, rfl, rfl⟩ | rfl)
        · have e : wval s w 2 = nI (hdg (sn s) c w) := by
            show (if srow s = -1 then -1 else khead (srow s) (nI w)) = _
            rw [if_neg hne, y3, khead_at h6 b c h1 hw]
          refine ⟨fun _ => ?_, fun z => absurd (by decide) z⟩
          refine xe_X8_wordOf_73 ?_
          (repeat (first | (simp only [xb_X8_wordOf_0, xb_X8_wordOf_9, xb_X8_wordOf_26, xb_X8_wordOf_29, xb_X8_wordOf_32, xb_X8_wordOf_48, xb_X8_wordOf_73, xb_X8_wordOf_79, xs_nil, Nat.reduceAdd, true_implies, not_true_eq_false, not_false_eq_true, false_implies, and_true, true_and, x_10, xs_iload_n_2, xs_if_eq, xs_iconst_2, xs_icmp_le, xs_aload_n_0, xs_iload_n_1, xs_if_ne, xs_iconst_0, xs_goto, xs_isub, xs_iadd, xs_ireturn, xs_bipush_118, xs_iconst_m1, xs_iconst_1, xs_icmp_ne]) | (refine xr_getf (hb1 0 _ rfl) (by rfl) ?_) | (refine xr_iaload (hb1 6 _ rfl) (by rw [List.length_map, o1.1.1]; exact x_in (by omega) (by decide)) ?_)))
          refine xe_X8_wordOf_79 ?_
          (repeat (first | (simp only [xb_X8_wordOf_0, xb_X8_wordOf_9, xb_X8_wordOf_26, xb_X8_wordOf_29, xb_X8_wordOf_32, xb_X8_wordOf_48, xb_X8_wordOf_73, xb_X8_wordOf_79, xs_nil, Nat.reduceAdd, true_implies, not_true_eq_false, not_false_eq_true, false_implies, and_true, true_and, x_10, xs_iload_n_2, xs_if_eq, xs_iconst_2, xs_icmp_le, xs_aload_n_0, xs_iload_n_1, xs_if_ne, xs_iconst_0, xs_goto, xs_isub, xs_iadd, xs_ireturn, xs_bipush_118, xs_iconst_m1, xs_iconst_1, xs_icmp_ne]) ))
          rw [xg_map (by rw [o1.1.1]; omega) (by rw [o1.1.1]; decide), o1.2 w h1 hw, e]
          (first | exact ⟨Or.inl trivial, rfl⟩ | exact ⟨Or.inl trivial, rfl, rfl⟩ | (simp; done) | exact ⟨by simp, rfl⟩ | exact ⟨by simp, rfl, rfl⟩ | rfl)
      refine xK_X8_wordOf (hb 0 _ rfl) (xe_X8_wordOf_0 ?_)
      (repeat (first | (simp only [xb_X8_wordOf_0, xb_X8_wordOf_9, xb_X8_wordOf_26, xb_X8_wordOf_29, xb_X8_wordOf_32, xb_X8_wordOf_48, xb_X8_wordOf_73, xb_X8_wordOf_79, xs_nil, Nat.reduceAdd, true_implies, not_true_eq_false, not_false_eq_true, false_implies, and_true, true_and, x_10, xs_iload_n_2, xs_if_eq, xs_iconst_2, xs_icmp_le, xs_aload_n_0, xs_iload_n_1, xs_if_ne, xs_iconst_0, xs_goto, xs_isub, xs_iadd, xs_ireturn, xs_bipush_118, xs_iconst_m1, xs_iconst_1, xs_icmp_ne]) ))
      refine ⟨fun z => absurd z (nI_ne0 (by omega) (by omega)), fun _ => ?_⟩
      (repeat (first | (simp only [xb_X8_wordOf_0, xb_X8_wordOf_9, xb_X8_wordOf_26, xb_X8_wordOf_29, xb_X8_wordOf_32, xb_X8_wordOf_48, xb_X8_wordOf_73, xb_X8_wordOf_79, xs_nil, Nat.reduceAdd, true_implies, not_true_eq_false, not_false_eq_true, false_implies, and_true, true_and, x_10, xs_iload_n_2, xs_if_eq, xs_iconst_2, xs_icmp_le, xs_aload_n_0, xs_iload_n_1, xs_if_ne, xs_iconst_0, xs_goto, xs_isub, xs_iadd, xs_ireturn, xs_bipush_118, xs_iconst_m1, xs_iconst_1, xs_icmp_ne]) ))
      exact ⟨fun _ => go, fun z => absurd (nI_le (b := 2) (by omega) (by decide)) z⟩
    · obtain ⟨e1, e2⟩ := hh1 hhd
      rw [if_neg hhd] at cH
      refine ⟨h, ?_, M, mF.refl h⟩
      have e : wval s w i = -1 := by
        rcases hi12 with rfl | rfl
        · show (if srow s = -1 then -1 else kread (srow s) (nI w)) = _
          rw [if_pos e1]
        · show (if srow s = -1 then -1 else khead (srow s) (nI w)) = _
          rw [if_pos e1]
      have go : x_EV 109 32 [some (.ref 122), some (.int (nI w)), some (.int (nI i))] [] h (some (.int (wval s w i))) h := by
        refine xe_X8_wordOf_32 ?_
        (repeat (first | (simp only [xb_X8_wordOf_0, xb_X8_wordOf_9, xb_X8_wordOf_26, xb_X8_wordOf_29, xb_X8_wordOf_32, xb_X8_wordOf_48, xb_X8_wordOf_73, xb_X8_wordOf_79, xs_nil, Nat.reduceAdd, true_implies, not_true_eq_false, not_false_eq_true, false_implies, and_true, true_and, x_10, xs_iload_n_2, xs_if_eq, xs_iconst_2, xs_icmp_le, xs_aload_n_0, xs_iload_n_1, xs_if_ne, xs_iconst_0, xs_goto, xs_isub, xs_iadd, xs_ireturn, xs_bipush_118, xs_iconst_m1, xs_iconst_1, xs_icmp_ne]) | (refine xr_getf (hb 0 _ rfl) (by rfl) ?_) | (refine xr_iaload (hb 1 _ rfl) i118 ?_)))
        rw [e118]
        (repeat (first | (simp only [xb_X8_wordOf_0, xb_X8_wordOf_9, xb_X8_wordOf_26, xb_X8_wordOf_29, xb_X8_wordOf_32, xb_X8_wordOf_48, xb_X8_wordOf_73, xb_X8_wordOf_79, xs_nil, Nat.reduceAdd, true_implies, not_true_eq_false, not_false_eq_true, false_implies, and_true, true_and, x_10, xs_iload_n_2, xs_if_eq, xs_iconst_2, xs_icmp_le, xs_aload_n_0, xs_iload_n_1, xs_if_ne, xs_iconst_0, xs_goto, xs_isub, xs_iadd, xs_ireturn, xs_bipush_118, xs_iconst_m1, xs_iconst_1, xs_icmp_ne]) | refine xc_v2_1 (cH) (Nat.le_of_ble_eq_true rfl) ?_))
        rw [e]
        (first | exact ⟨Or.inl trivial, rfl⟩ | exact ⟨Or.inl trivial, rfl, rfl⟩ | (simp; done) | exact ⟨by simp, rfl⟩ | exact ⟨by simp, rfl, rfl⟩ | rfl)
      refine xK_X8_wordOf (hb 0 _ rfl) (xe_X8_wordOf_0 ?_)
      (repeat (first | (simp only [xb_X8_wordOf_0, xb_X8_wordOf_9, xb_X8_wordOf_26, xb_X8_wordOf_29, xb_X8_wordOf_32, xb_X8_wordOf_48, xb_X8_wordOf_73, xb_X8_wordOf_79, xs_nil, Nat.reduceAdd, true_implies, not_true_eq_false, not_false_eq_true, false_implies, and_true, true_and, x_10, xs_iload_n_2, xs_if_eq, xs_iconst_2, xs_icmp_le, xs_aload_n_0, xs_iload_n_1, xs_if_ne, xs_iconst_0, xs_goto, xs_isub, xs_iadd, xs_ireturn, xs_bipush_118, xs_iconst_m1, xs_iconst_1, xs_icmp_ne]) ))
      refine ⟨fun z => absurd z (nI_ne0 (by omega) (by omega)), fun _ => ?_⟩
      (repeat (first | (simp only [xb_X8_wordOf_0, xb_X8_wordOf_9, xb_X8_wordOf_26, xb_X8_wordOf_29, xb_X8_wordOf_32, xb_X8_wordOf_48, xb_X8_wordOf_73, xb_X8_wordOf_79, xs_nil, Nat.reduceAdd, true_implies, not_true_eq_false, not_false_eq_true, false_implies, and_true, true_and, x_10, xs_iload_n_2, xs_if_eq, xs_iconst_2, xs_icmp_le, xs_aload_n_0, xs_iload_n_1, xs_if_ne, xs_iconst_0, xs_goto, xs_isub, xs_iadd, xs_ireturn, xs_bipush_118, xs_iconst_m1, xs_iconst_1, xs_icmp_ne]) ))
      exact ⟨fun _ => go, fun z => absurd (nI_le (b := 2) (by omega) (by decide)) z⟩
  · obtain ⟨a1, a2, a3, _⟩ := hR.2.2.2.2 w h1 hw
    have a0 := hR.2.1.2.2.2.2.2.2.2 (w - 1) (by omega)
    rw [show w - 1 + 1 = w by omega] at a0
    refine ⟨h, ?_, M, mF.refl h⟩
    have cW := c_wordAt (x1 := nI w) (hb 0 _ rfl)
    rw [wp_n h1] at cW
    have go2 : ∀ (q : Nat) (x : Int32), q < 5 → x = nI q → nw.getD (119 + 5 * (w - 1) + q) 0 = wval s w i → x_EV 109 29 [some (.ref 122), some (.int (nI w)), some (.int (nI i))] [.int x, .int (nI (119 + 5 * (w - 1))), .ref 123] h (some (.int (wval s w i))) h := by
      intro q x hq hx e
      subst hx
      refine xe_X8_wordOf_29 ?_
      (repeat (first | (simp only [xb_X8_wordOf_0, xb_X8_wordOf_9, xb_X8_wordOf_26, xb_X8_wordOf_29, xb_X8_wordOf_32, xb_X8_wordOf_48, xb_X8_wordOf_73, xb_X8_wordOf_79, xs_nil, Nat.reduceAdd, true_implies, not_true_eq_false, not_false_eq_true, false_implies, and_true, true_and, x_10, xs_iload_n_2, xs_if_eq, xs_iconst_2, xs_icmp_le, xs_aload_n_0, xs_iload_n_1, xs_if_ne, xs_iconst_0, xs_goto, xs_isub, xs_iadd, xs_ireturn, xs_bipush_118, xs_iconst_m1, xs_iconst_1, xs_icmp_ne]) ))
      rw [nI_add]
      (repeat (first | (simp only [xb_X8_wordOf_0, xb_X8_wordOf_9, xb_X8_wordOf_26, xb_X8_wordOf_29, xb_X8_wordOf_32, xb_X8_wordOf_48, xb_X8_wordOf_73, xb_X8_wordOf_79, xs_nil, Nat.reduceAdd, true_implies, not_true_eq_false, not_false_eq_true, false_implies, and_true, true_and, x_10, xs_iload_n_2, xs_if_eq, xs_iconst_2, xs_icmp_le, xs_aload_n_0, xs_iload_n_1, xs_if_ne, xs_iconst_0, xs_goto, xs_isub, xs_iadd, xs_ireturn, xs_bipush_118, xs_iconst_m1, xs_iconst_1, xs_icmp_ne]) | (refine xr_iaload (hb 1 _ rfl) (by rw [hl]; exact x_in (by omega) (by decide)) ?_)))
      rw [xg_n (by omega), e]
      (first | exact ⟨Or.inl trivial, rfl⟩ | exact ⟨Or.inl trivial, rfl, rfl⟩ | (simp; done) | exact ⟨by simp, rfl⟩ | exact ⟨by simp, rfl, rfl⟩ | rfl)
    have go : x_EV 109 9 [some (.ref 122), some (.int (nI w)), some (.int (nI i))] [] h (some (.int (wval s w i))) h := by
      refine xe_X8_wordOf_9 ?_
      (repeat (first | (simp only [xb_X8_wordOf_0, xb_X8_wordOf_9, xb_X8_wordOf_26, xb_X8_wordOf_29, xb_X8_wordOf_32, xb_X8_wordOf_48, xb_X8_wordOf_73, xb_X8_wordOf_79, xs_nil, Nat.reduceAdd, true_implies, not_true_eq_false, not_false_eq_true, false_implies, and_true, true_and, x_10, xs_iload_n_2, xs_if_eq, xs_iconst_2, xs_icmp_le, xs_aload_n_0, xs_iload_n_1, xs_if_ne, xs_iconst_0, xs_goto, xs_isub, xs_iadd, xs_ireturn, xs_bipush_118, xs_iconst_m1, xs_iconst_1, xs_icmp_ne]) | (refine xr_getf (hb 0 _ rfl) (by rfl) ?_) | refine xc_v2_1 (cW) (Nat.le_of_ble_eq_true rfl) ?_))
      by_cases hi0 : i = 0
      · subst hi0
        refine ⟨fun z => absurd rfl z, fun _ => ?_⟩
        (repeat (first | (simp only [xb_X8_wordOf_0, xb_X8_wordOf_9, xb_X8_wordOf_26, xb_X8_wordOf_29, xb_X8_wordOf_32, xb_X8_wordOf_48, xb_X8_wordOf_73, xb_X8_wordOf_79, xs_nil, Nat.reduceAdd, true_implies, not_true_eq_false, not_false_eq_true, false_implies, and_true, true_and, x_10, xs_iload_n_2, xs_if_eq, xs_iconst_2, xs_icmp_le, xs_aload_n_0, xs_iload_n_1, xs_if_ne, xs_iconst_0, xs_goto, xs_isub, xs_iadd, xs_ireturn, xs_bipush_118, xs_iconst_m1, xs_iconst_1, xs_icmp_ne]) ))
        exact go2 0 0 (by decide) rfl a0
      · refine ⟨fun _ => ?_, fun z => absurd (nI_ne0 (by omega) (by omega)) z⟩
        refine xe_X8_wordOf_26 ?_
        (repeat (first | (simp only [xb_X8_wordOf_0, xb_X8_wordOf_9, xb_X8_wordOf_26, xb_X8_wordOf_29, xb_X8_wordOf_32, xb_X8_wordOf_48, xb_X8_wordOf_73, xb_X8_wordOf_79, xs_nil, Nat.reduceAdd, true_implies, not_true_eq_false, not_false_eq_true, false_implies, and_true, true_and, x_10, xs_iload_n_2, xs_if_eq, xs_iconst_2, xs_icmp_le, xs_aload_n_0, xs_iload_n_1, xs_if_ne, xs_iconst_0, xs_goto, xs_isub, xs_iadd, xs_ireturn, xs_bipush_118, xs_iconst_m1, xs_iconst_1, xs_icmp_ne]) ))
        rw [show nI i - 2 = nI (i - 2) from pk_sub (b := 2) (by omega)]
        refine go2 (i - 2) _ (by omega) rfl ?_
        rcases (show i = 3 ∨ i = 4 ∨ i = 5 by omega) with rfl | rfl | rfl
        · exact a1
        · exact a2
        · exact a3
    refine xK_X8_wordOf (hb 0 _ rfl) (xe_X8_wordOf_0 ?_)
    (repeat (first | (simp only [xb_X8_wordOf_0, xb_X8_wordOf_9, xb_X8_wordOf_26, xb_X8_wordOf_29, xb_X8_wordOf_32, xb_X8_wordOf_48, xb_X8_wordOf_73, xb_X8_wordOf_79, xs_nil, Nat.reduceAdd, true_implies, not_true_eq_false, not_false_eq_true, false_implies, and_true, true_and, x_10, xs_iload_n_2, xs_if_eq, xs_iconst_2, xs_icmp_le, xs_aload_n_0, xs_iload_n_1, xs_if_ne, xs_iconst_0, xs_goto, xs_isub, xs_iadd, xs_ireturn, xs_bipush_118, xs_iconst_m1, xs_iconst_1, xs_icmp_ne]) ))
    by_cases hi0 : i = 0
    · subst hi0
      exact ⟨fun _ => go, fun z => absurd rfl z⟩
    · refine ⟨fun z => absurd z (nI_ne0 (by omega) (by omega)), fun _ => ?_⟩
      (repeat (first | (simp only [xb_X8_wordOf_0, xb_X8_wordOf_9, xb_X8_wordOf_26, xb_X8_wordOf_29, xb_X8_wordOf_32, xb_X8_wordOf_48, xb_X8_wordOf_73, xb_X8_wordOf_79, xs_nil, Nat.reduceAdd, true_implies, not_true_eq_false, not_false_eq_true, false_implies, and_true, true_and, x_10, xs_iload_n_2, xs_if_eq, xs_iconst_2, xs_icmp_le, xs_aload_n_0, xs_iload_n_1, xs_if_ne, xs_iconst_0, xs_goto, xs_isub, xs_iadd, xs_ireturn, xs_bipush_118, xs_iconst_m1, xs_iconst_1, xs_icmp_ne]) ))
      refine ⟨fun z => absurd z (nI_ge (a := 2) (by omega) (by omega)), fun _ => ?_⟩
      (repeat (first | (simp only [xb_X8_wordOf_0, xb_X8_wordOf_9, xb_X8_wordOf_26, xb_X8_wordOf_29, xb_X8_wordOf_32, xb_X8_wordOf_48, xb_X8_wordOf_73, xb_X8_wordOf_79, xs_nil, Nat.reduceAdd, true_implies, not_true_eq_false, not_false_eq_true, false_implies, and_true, true_and, x_10, xs_iload_n_2, xs_if_eq, xs_iconst_2, xs_icmp_le, xs_aload_n_0, xs_iload_n_1, xs_if_ne, xs_iconst_0, xs_goto, xs_isub, xs_iadd, xs_ireturn, xs_bipush_118, xs_iconst_m1, xs_iconst_1, xs_icmp_ne]) ))
      exact go
theorem t_word (B : BR ys h) : TC ys h 108 110 [.int x1, .int x2] := by
  obtain ⟨s, k, sh, nx, ct, tx, ln, rf, nw, pa, L, C, M, I⟩ := B
  obtain ⟨i1, i2, i3, i6, i7, i8, i9⟩ := id I
  have h6 := i1.1.n6
  have hct := i1.1.ct
  have e118 := i1.e118
  have i118 := i1.i118
  by_cases hc : (1 ≤ x1 ∧ x1 ≤ nI (sn s)) ∧ (0 ≤ x2 ∧ x2 ≤ 5)
  · obtain ⟨w, hw, rfl⟩ := nI_rngle (n := sn s) rfl (by omega) (show 0 ≤ x1 from Int32.le_trans (by decide) hc.1.1) hc.1.2
    have h1 : 1 ≤ w := (nI_leI (a := 1) (by decide) (by omega)).mp hc.1.1
    obtain ⟨i, hi, rfl⟩ := nI_rngle (n := 5) rfl (by decide) hc.2.1 hc.2.2
    refine TC_mk L ⟨h, c7_word C i1.1 h1 hw (by omega), C, cF.refl h⟩ (fun h1' F => ?_) I
    have M := M.cF F
    obtain ⟨a, Mh⟩ := M.mWh
    obtain ⟨h2, p, M2, F2⟩ := m8_wordOf Mh i1 h1 hw (i := i) (by omega)
    refine ⟨h2, ?_, M2.mW, F2⟩
    obtain ⟨z, hz, hb⟩ := M
    have c1 := c_in (x1 := nI w) (x2 := 1) (x3 := nI (sn s)) (h := h1')
    rw [if_pos hc.1] at c1
    have c2 := c_in (x1 := nI i) (x2 := 0) (x3 := 5) (h := h1')
    rw [if_pos hc.2] at c2
    refine xK_X8_word (hb 0 _ rfl) (xe_X8_word_0 ?_)
    (repeat (first | (simp only [xb_X8_word_0, xb_X8_word_33, xb_X8_word_37, xs_nil, Nat.reduceAdd, true_implies, not_true_eq_false, not_false_eq_true, false_implies, and_true, true_and, x_10, xs_iload_n_1, xs_iconst_1, xs_aload_n_0, xs_bipush_118, xs_if_eq, xs_iload_n_2, xs_iconst_0, xs_iconst_5, xs_goto, xs_ireturn]) | (refine xr_getf (hb 0 _ rfl) (by rfl) ?_) | (refine xr_iaload (hb 1 _ rfl) i118 ?_)))
    rw [e118]
    (repeat (first | (simp only [xb_X8_word_0, xb_X8_word_33, xb_X8_word_37, xs_nil, Nat.reduceAdd, true_implies, not_true_eq_false, not_false_eq_true, false_implies, and_true, true_and, x_10, xs_iload_n_1, xs_iconst_1, xs_aload_n_0, xs_bipush_118, xs_if_eq, xs_iload_n_2, xs_iconst_0, xs_iconst_5, xs_goto, xs_ireturn]) | refine xc_s3_1 (by decide) (c1) (Nat.le_of_ble_eq_true rfl) ?_ | refine xc_s3_1 (by decide) (c2) (Nat.le_of_ble_eq_true rfl) ?_ | refine xc_v3_1 (p) (Nat.le_of_ble_eq_true rfl) ?_))
    refine xe_X8_word_37 ?_
    (repeat (first | (simp only [xb_X8_word_0, xb_X8_word_33, xb_X8_word_37, xs_nil, Nat.reduceAdd, true_implies, not_true_eq_false, not_false_eq_true, false_implies, and_true, true_and, x_10, xs_iload_n_1, xs_iconst_1, xs_aload_n_0, xs_bipush_118, xs_if_eq, xs_iload_n_2, xs_iconst_0, xs_iconst_5, xs_goto, xs_ireturn]) ))
    (first | exact ⟨Or.inl trivial, rfl⟩ | exact ⟨Or.inl trivial, rfl, rfl⟩ | (simp; done) | exact ⟨by simp, rfl⟩ | exact ⟨by simp, rfl, rfl⟩ | rfl)
  · refine TC_mk (r := .int (-2)) L ?_ (fun h1 F => ?_) (INV_rf (i := 0) I)
    · have B := C
      obtain ⟨h1, p1, B1, F1⟩ := c7_bad C i9
      refine ⟨h1, ?_, B1, F1⟩
      have cR := c_heldRow (x_tc_s B.hs) (by rw [i1.1.lro]; exact i1.1.in7)
      have fin : ∀ a : Option Value, x_EV 108 21 [some (.ref 2), some (.int x1), some (.int x2), some (.ref 10), a] [] h (some (.int (-2))) h1 := by
        intro a
        refine xe_X7_word_21 ?_
        (repeat (first | (simp only [xb_X7_word_0, xb_X7_word_21, xb_X7_word_28, xb_X7_word_72, xb_X7_word_79, xb_X7_word_89, xb_X7_word_95, xb_X7_word_96, xb_X7_word_106, xb_X7_word_112, xb_X7_word_113, xb_X7_word_120, xb_X7_word_127, xb_X7_word_134, xs_nil, Nat.reduceAdd, true_implies, not_true_eq_false, not_false_eq_true, false_implies, and_true, true_and, x_10, xs_aload_n_0, xs_astore_n_3_i, xs_astore_n_3_a, xs_astore_n_3_n, xs_astore_n_3_l, xs_iload_n_1, xs_iconst_1, xs_icmp_lt, xs_aload_n_3, xs_icmp_le, xs_bipush_m2, xs_ireturn, xs_istore_4_i, xs_istore_4_a, xs_istore_4_n, xs_istore_4_l, xs_iload_n_2, xs_iload_4, xs_iconst_m1, xs_icmp_ne, xs_goto]) | refine xc_v2_1 (p1) (Nat.le_of_ble_eq_true rfl) ?_))
        (first | exact ⟨Or.inl trivial, rfl⟩ | exact ⟨Or.inl trivial, rfl, rfl⟩ | (simp; done) | exact ⟨by simp, rfl⟩ | exact ⟨by simp, rfl, rfl⟩ | rfl)
      refine xK_X7_word (B.hp 0 _ rfl) (xe_X7_word_0 ?_)
      (repeat (first | (simp only [xb_X7_word_0, xb_X7_word_21, xb_X7_word_28, xb_X7_word_72, xb_X7_word_79, xb_X7_word_89, xb_X7_word_95, xb_X7_word_96, xb_X7_word_106, xb_X7_word_112, xb_X7_word_113, xb_X7_word_120, xb_X7_word_127, xb_X7_word_134, xs_nil, Nat.reduceAdd, true_implies, not_true_eq_false, not_false_eq_true, false_implies, and_true, true_and, x_10, xs_aload_n_0, xs_astore_n_3_i, xs_astore_n_3_a, xs_astore_n_3_n, xs_astore_n_3_l, xs_iload_n_1, xs_iconst_1, xs_icmp_lt, xs_aload_n_3, xs_icmp_le, xs_bipush_m2, xs_ireturn, xs_istore_4_i, xs_istore_4_a, xs_istore_4_n, xs_istore_4_l, xs_iload_n_2, xs_iload_4, xs_iconst_m1, xs_icmp_ne, xs_goto]) | (refine xr_getf (B.hp 0 _ rfl) (by rfl) ?_) | (refine xr_getf (B.hs 0 _ rfl) (by rfl) ?_) | (refine xr_getf (B.hs 1 _ rfl) (by rfl) ?_) | (refine xr_getf (B.hs 7 _ rfl) (by rfl) ?_)))
      refine ⟨fun _ => fin _, fun z1 => ?_⟩
      (repeat (first | (simp only [xb_X7_word_0, xb_X7_word_21, xb_X7_word_28, xb_X7_word_72, xb_X7_word_79, xb_X7_word_89, xb_X7_word_95, xb_X7_word_96, xb_X7_word_106, xb_X7_word_112, xb_X7_word_113, xb_X7_word_120, xb_X7_word_127, xb_X7_word_134, xs_nil, Nat.reduceAdd, true_implies, not_true_eq_false, not_false_eq_true, false_implies, and_true, true_and, x_10, xs_aload_n_0, xs_astore_n_3_i, xs_astore_n_3_a, xs_astore_n_3_n, xs_astore_n_3_l, xs_iload_n_1, xs_iconst_1, xs_icmp_lt, xs_aload_n_3, xs_icmp_le, xs_bipush_m2, xs_ireturn, xs_istore_4_i, xs_istore_4_a, xs_istore_4_n, xs_istore_4_l, xs_iload_n_2, xs_iload_4, xs_iconst_m1, xs_icmp_ne, xs_goto]) | (refine xr_getf (B.hp 0 _ rfl) (by rfl) ?_) | (refine xr_getf (B.hs 0 _ rfl) (by rfl) ?_) | (refine xr_getf (B.hs 1 _ rfl) (by rfl) ?_) | (refine xr_getf (B.hs 7 _ rfl) (by rfl) ?_)))
      rw [hct]
      refine ⟨fun z2 => ?_, fun _ => fin _⟩
      refine xe_X7_word_28 ?_
      (repeat (first | (simp only [xb_X7_word_0, xb_X7_word_21, xb_X7_word_28, xb_X7_word_72, xb_X7_word_79, xb_X7_word_89, xb_X7_word_95, xb_X7_word_96, xb_X7_word_106, xb_X7_word_112, xb_X7_word_113, xb_X7_word_120, xb_X7_word_127, xb_X7_word_134, xs_nil, Nat.reduceAdd, true_implies, not_true_eq_false, not_false_eq_true, false_implies, and_true, true_and, x_10, xs_aload_n_0, xs_astore_n_3_i, xs_astore_n_3_a, xs_astore_n_3_n, xs_astore_n_3_l, xs_iload_n_1, xs_iconst_1, xs_icmp_lt, xs_aload_n_3, xs_icmp_le, xs_bipush_m2, xs_ireturn, xs_istore_4_i, xs_istore_4_a, xs_istore_4_n, xs_istore_4_l, xs_iload_n_2, xs_iload_4, xs_iconst_m1, xs_icmp_ne, xs_goto]) | refine xc_v1_1 (cR) (Nat.le_of_ble_eq_true rfl) ?_))
      refine xr_tabout 134 (notin_toInt (n := 5) rfl (by decide) (fun z3 => hc ⟨⟨Int32.not_lt.mp z1, z2⟩, z3⟩)) rfl (xe_X7_word_134 ?_)
      (repeat (first | (simp only [xb_X7_word_0, xb_X7_word_21, xb_X7_word_28, xb_X7_word_72, xb_X7_word_79, xb_X7_word_89, xb_X7_word_95, xb_X7_word_96, xb_X7_word_106, xb_X7_word_112, xb_X7_word_113, xb_X7_word_120, xb_X7_word_127, xb_X7_word_134, xs_nil, Nat.reduceAdd, true_implies, not_true_eq_false, not_false_eq_true, false_implies, and_true, true_and, x_10, xs_aload_n_0, xs_astore_n_3_i, xs_astore_n_3_a, xs_astore_n_3_n, xs_astore_n_3_l, xs_iload_n_1, xs_iconst_1, xs_icmp_lt, xs_aload_n_3, xs_icmp_le, xs_bipush_m2, xs_ireturn, xs_istore_4_i, xs_istore_4_a, xs_istore_4_n, xs_istore_4_l, xs_iload_n_2, xs_iload_4, xs_iconst_m1, xs_icmp_ne, xs_goto]) | refine xc_v2_1 (p1) (Nat.le_of_ble_eq_true rfl) ?_))
      (first | exact ⟨Or.inl trivial, rfl⟩ | exact ⟨Or.inl trivial, rfl, rfl⟩ | (simp; done) | exact ⟨by simp, rfl⟩ | exact ⟨by simp, rfl, rfl⟩ | rfl)
    · have M := M.cF F
      obtain ⟨h2, p1, M1, F1⟩ := m8_bad M i9
      refine ⟨h2, ?_, M1, F1⟩
      obtain ⟨z, hz, hb⟩ := M
      have c1 := c_in (x1 := x1) (x2 := 1) (x3 := nI (sn s)) (h := h1)
      have c2 := c_in (x1 := x2) (x2 := 0) (x3 := 5) (h := h1)
      have fin : x_EV 110 33 [some (.ref 122), some (.int x1), some (.int x2)] [] h1 (some (.int (-2))) h2 := by
        refine xe_X8_word_33 ?_
        (repeat (first | (simp only [xb_X8_word_0, xb_X8_word_33, xb_X8_word_37, xs_nil, Nat.reduceAdd, true_implies, not_true_eq_false, not_false_eq_true, false_implies, and_true, true_and, x_10, xs_iload_n_1, xs_iconst_1, xs_aload_n_0, xs_bipush_118, xs_if_eq, xs_iload_n_2, xs_iconst_0, xs_iconst_5, xs_goto, xs_ireturn]) | refine xc_v1_1 (p1) (Nat.le_of_ble_eq_true rfl) ?_))
        refine xe_X8_word_37 ?_
        (repeat (first | (simp only [xb_X8_word_0, xb_X8_word_33, xb_X8_word_37, xs_nil, Nat.reduceAdd, true_implies, not_true_eq_false, not_false_eq_true, false_implies, and_true, true_and, x_10, xs_iload_n_1, xs_iconst_1, xs_aload_n_0, xs_bipush_118, xs_if_eq, xs_iload_n_2, xs_iconst_0, xs_iconst_5, xs_goto, xs_ireturn]) ))
        (first | exact ⟨Or.inl trivial, rfl⟩ | exact ⟨Or.inl trivial, rfl, rfl⟩ | (simp; done) | exact ⟨by simp, rfl⟩ | exact ⟨by simp, rfl, rfl⟩ | rfl)
      refine xK_X8_word (hb 0 _ rfl) (xe_X8_word_0 ?_)
      (repeat (first | (simp only [xb_X8_word_0, xb_X8_word_33, xb_X8_word_37, xs_nil, Nat.reduceAdd, true_implies, not_true_eq_false, not_false_eq_true, false_implies, and_true, true_and, x_10, xs_iload_n_1, xs_iconst_1, xs_aload_n_0, xs_bipush_118, xs_if_eq, xs_iload_n_2, xs_iconst_0, xs_iconst_5, xs_goto, xs_ireturn]) | (refine xr_getf (hb 0 _ rfl) (by rfl) ?_) | (refine xr_iaload (hb 1 _ rfl) i118 ?_)))
      rw [e118]
      (repeat (first | (simp only [xb_X8_word_0, xb_X8_word_33, xb_X8_word_37, xs_nil, Nat.reduceAdd, true_implies, not_true_eq_false, not_false_eq_true, false_implies, and_true, true_and, x_10, xs_iload_n_1, xs_iconst_1, xs_aload_n_0, xs_bipush_118, xs_if_eq, xs_iload_n_2, xs_iconst_0, xs_iconst_5, xs_goto, xs_ireturn]) | refine xc_s3_1 (by decide) (c1) (Nat.le_of_ble_eq_true rfl) ?_))
      simp only [x_ite0, Classical.not_not]
      refine ⟨fun _ => fin, fun z => ?_⟩
      (repeat (first | (simp only [xb_X8_word_0, xb_X8_word_33, xb_X8_word_37, xs_nil, Nat.reduceAdd, true_implies, not_true_eq_false, not_false_eq_true, false_implies, and_true, true_and, x_10, xs_iload_n_1, xs_iconst_1, xs_aload_n_0, xs_bipush_118, xs_if_eq, xs_iload_n_2, xs_iconst_0, xs_iconst_5, xs_goto, xs_ireturn]) | refine xc_s3_1 (by decide) (c2) (Nat.le_of_ble_eq_true rfl) ?_))
      simp only [x_ite0, Classical.not_not]
      exact ⟨fun _ => fin, fun z2 => absurd ⟨z, z2⟩ hc⟩
end HE
