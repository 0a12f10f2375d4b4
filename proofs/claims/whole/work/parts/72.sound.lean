/-! sound -/
theorem kroot_m1 {s : kS} (hv : sv s) {i r : Nat} : kroot (sR s) (sS s) (sX s) (sen s) (nI i) (nI r) = -1 ↔ (ksort (sS s) (sen s) (nI i) (nI r) = -1 ∨ xg (sR s) (ksort (sS s) (sen s) (nI i) (nI r)) = -1) := by
  unfold kroot
  by_cases h1 : ksort (sS s) (sen s) (nI i) (nI r) = -1 ∨ xg (sR s) (ksort (sS s) (sen s) (nI i) (nI r)) = -1
  · rw [if_pos h1]
    exact ⟨fun _ => h1, fun _ => rfl⟩
  · rw [if_neg h1]
    refine ⟨fun e => absurd e ?_, fun e => absurd e h1⟩
    obtain ⟨a, ha, ea⟩ := (hv.vR (ksort (sS s) (sen s) (nI i) (nI r)).toNatClampNeg).resolve_left (fun z => h1 (Or.inr z))
    have ea' : xg (sR s) (ksort (sS s) (sen s) (nI i) (nI r)) = nI a := ea
    have e2 : ∃ a, a ≤ 9 ∧ kextra (sX s) (sen s) (nI i) (nI r) = nI a := by
      unfold kextra
      split
      · exact hv.vX _
      · exact ⟨0, by omega, rfl⟩
    obtain ⟨b, hb, eb⟩ := e2
    rw [ea', eb, nI_add]
    exact nI_m1 (by omega)
theorem klink_m1 {s : kS} (hv : sv s) {i r d q : Nat} (hi : i < 7) (hd : d < 7) (hne : ¬ i = d) : klink (sP s) (sS s) (sX s) (sT s) (sen s) (nI i) (nI r) (nI d) (nI q) = -1 ↔ (ksort (sS s) (sen s) (nI i) (nI r) = -1 ∨ ksort (sS s) (sen s) (nI d) (nI q) = -1) ∨ kprice (sP s) (sS s) (sen s) (nI i) (nI r) (nI d) (nI q) = -1 := by
  unfold klink
  by_cases h1 : ksort (sS s) (sen s) (nI i) (nI r) = -1 ∨ ksort (sS s) (sen s) (nI d) (nI q) = -1
  · rw [if_pos h1]
    exact ⟨fun _ => Or.inl h1, fun _ => rfl⟩
  · rw [if_neg h1]
    by_cases h2 : kprice (sP s) (sS s) (sen s) (nI i) (nI r) (nI d) (nI q) = -1
    · rw [if_pos h2]
      exact ⟨fun _ => Or.inr h2, fun _ => rfl⟩
    · rw [if_neg h2]
      refine ⟨fun e => absurd e ?_, fun e => absurd e (fun z => z.elim h1 h2)⟩
      have eR : kprice (sP s) (sS s) (sen s) (nI i) (nI r) (nI d) (nI q) = -1 ∨ ∃ j, j ≤ 9 ∧ kprice (sP s) (sS s) (sen s) (nI i) (nI r) (nI d) (nI q) = nI j := hv.vP _
      obtain ⟨a, ha, ea⟩ := eR.resolve_left h2
      have e2 : ∃ a, a ≤ 9 ∧ kextra (sX s) (sen s) (nI i) (nI r) = nI a := by
        unfold kextra
        split
        · exact hv.vX _
        · exact ⟨0, by omega, rfl⟩
      obtain ⟨b, hb, eb⟩ := e2
      obtain ⟨t, ht, et⟩ := hv.vT0
      have et' : xg (sT s) 0 = nI t := et
      have hm : max i d - min i d - 1 ≤ 5 := by omega
      have hmm : t * (max i d - min i d - 1) ≤ 3 * 5 := Nat.mul_le_mul ht hm
      rw [ea, eb, et', kfar_n i hi d hd hne, pk_mul, nI_add, nI_add]
      exact nI_m1 (by omega)
theorem khang_kap {s : kS} (hv : sv s) {n b c w : Nat} (h6 : n ≤ 6) (hne : ¬ hdg n c w = w) (h1 : 1 ≤ w) (hw : w ≤ n) : khang s (nI (rowN n b c)) (nI w) = true ↔ ¬ kap s n b c w = -1 := by
  have hd := hdg_lt n c w
  unfold khang kap kc
  rw [kread_at h6 b c h1 hw, khead_at h6 b c h1 hw]
  by_cases hz : hdg n c w = 0
  · rw [if_pos (show nI (hdg n c w) = 0 by rw [hz]; rfl), if_pos hz, kroot_m1 hv, Bool.and_eq_true, Bool.not_eq_true', Bool.not_eq_true', decide_eq_false_iff_not, decide_eq_false_iff_not]
    exact ⟨fun z y => y.elim z.1 z.2, fun z => ⟨fun y => z (Or.inl y), fun y => z (Or.inr y)⟩⟩
  · rw [if_neg (nI_ne0 (by omega) (by omega)), if_neg hz, klink_m1 hv (by omega) (by omega) (fun z => hne z.symm), kread_at h6 b c (by omega) (by omega), Bool.and_eq_true, Bool.and_eq_true, Bool.not_eq_true', Bool.not_eq_true', Bool.not_eq_true', decide_eq_false_iff_not, decide_eq_false_iff_not, decide_eq_false_iff_not]
    exact ⟨fun z y => y.elim (fun y => y.elim z.1 z.2.1) z.2.2, fun z => ⟨fun y => z (Or.inl (Or.inl y)), fun y => z (Or.inl (Or.inr y)), fun y => z (Or.inr y)⟩⟩
theorem khangs_iff {s : kS} {row : Int32} : ∀ d i, khangs s row d i = true ↔ ∀ w, i ≤ w → w < i + d → khang s row (nI w) = true
  | 0, i => ⟨fun _ w h1 h2 => by omega, fun _ => rfl⟩
  | d + 1, i => by
    show (khang s row (nI i) && khangs s row d (i + 1)) = true ↔ _
    rw [Bool.and_eq_true, khangs_iff d (i + 1)]
    refine ⟨fun h w h1 h2 => ?_, fun h => ⟨h i (Nat.le_refl _) (by omega), fun w h1 h2 => h w (by omega) (by omega)⟩⟩
    by_cases hw : w = i
    · subst hw
      exact h.1
    · exact h.2 w (by omega) (by omega)
theorem lok_iff {f : Nat → Int32} : ∀ n, lok f n = true ↔ ∀ k, k < n → ¬ f k = -1
  | 0 => ⟨fun _ k h => by omega, fun _ => rfl⟩
  | n + 1 => by
    show (lok f n && !decide (f n = -1)) = true ↔ _
    rw [Bool.and_eq_true, lok_iff n, Bool.not_eq_true', decide_eq_false_iff_not]
    refine ⟨fun h k hk => ?_, fun h => ⟨fun k hk => h k (by omega), h n (by omega)⟩⟩
    by_cases hkn : k = n
    · subst hkn
      exact h.2
    · exact h.1 k (by omega)
theorem khangs_ok {s : kS} (hv : sv s) {n b c : Nat} (h1 : 1 ≤ n) (h6 : n ≤ 6) (hc : c ∈ tT n) : khangs s (nI (rowN n b c)) n 1 = true ↔ okA s n b c = true := by
  unfold okA
  rw [khangs_iff, lok_iff]
  refine ⟨fun h k hk => ?_, fun h w w1 w2 => ?_⟩
  · exact (khang_kap hv h6 (tree_ne h1 h6 hc (by omega) (by omega)) (by omega) (by omega)).mp (h (k + 1) (by omega) (by omega))
  · have := h (w - 1) (by omega)
    rw [show w - 1 + 1 = w by omega] at this
    exact (khang_kap hv h6 (tree_ne h1 h6 hc (by omega) (by omega)) (by omega) (by omega)).mpr this
/-- sorts by what is held -/
def msrt (nw rd so : List Int32) : Nat → List Int32
  | 0 => so
  | k + 1 => (msrt nw rd so k).set (k + 1) (xg nw (mentry nw (nI (k + 1)) + xg rd (nI (k + 1))))
theorem msrt_len {nw rd so : List Int32} : ∀ k, (msrt nw rd so k).length = so.length
  | 0 => rfl
  | k + 1 => by
    show (List.set _ _ _).length = _
    rw [List.length_set, msrt_len k]
theorem msrt_get {nw rd so : List Int32} (hl : so.length = 7) : ∀ k, k < 7 → ∀ w, 1 ≤ w → w ≤ k → (msrt nw rd so k).getD w 0 = xg nw (mentry nw (nI w) + xg rd (nI w))
  | 0, _, w, h1, h2 => by omega
  | k + 1, hk, w, h1, h2 => by
    show (List.set (msrt nw rd so k) (k + 1) _).getD w 0 = _
    by_cases hw : w = k + 1
    · subst hw
      rw [gs_eq (by rw [msrt_len, hl]; exact hk)]
    · rw [gs_ne (Ne.symm hw)]
      exact msrt_get hl k (by omega) w h1 (by omega)
section SO0
variable {m : Nat} {nw asd pa rf tx rd so ah ar tr bg le fr nu : List Int32} {sts byt fo bc br bk od sp wr : Int32} {ha : Int64} {x1 x2 x3 x4 : Int32} {h h0 : xH} {n : Nat} {hs : List Nat}
theorem l_soundOf (h2 : 2 ≤ m) (hn : n < 7) (l1 : rd.length = 7) (l2 : so.length = 7) (hi : ∀ w, 1 ≤ w → w ≤ n → xin (119 + 5 * (nI w - 1)) nw.length ∧ xin (mentry nw (nI w) + xg rd (nI w)) nw.length) {r : Option Value} {h' : xH}
    (fin : ∀ (h : xH) (a : Option Value), xA h0 m (x_mc m nw asd pa sts rf tx byt (hs.map nI) rd (msrt nw rd so n) ah ar tr bg fo bc br bk le fr nu od sp wr ha) h → x_EV 130 59 [some (.ref m), some (.int (nI n)), a] [] h r h') : ∀ (d q : Nat) (h : xH), xA h0 m (x_mc m nw asd pa sts rf tx byt (hs.map nI) rd (msrt nw rd so q) ah ar tr bg fo bc br bk le fr nu od sp wr ha) h → q + d = n → x_EV 130 25 [some (.ref m), some (.int (nI n)), some (.int (nI (q + 1)))] [] h r h' := by
  intro d
  induction d with
  | zero =>
    intro q h A hq
    have eq : q = n := by omega
    subst eq
    refine xe_X8_soundOf_25 ?_
    (repeat (first | (simp only [xb_X8_soundOf_0, xb_X8_soundOf_18, xb_X8_soundOf_25, xb_X8_soundOf_59, xb_X8_soundOf_71, xb_X8_soundOf_72, xs_nil, Nat.reduceAdd, true_implies, not_true_eq_false, not_false_eq_true, false_implies, and_true, true_and, x_10, xs_aload_n_0, xs_bipush_118, xs_istore_n_1_i, xs_istore_n_1_a, xs_istore_n_1_n, xs_istore_n_1_l, xs_iload_n_1, xs_if_ne, xs_iconst_0, xs_ireturn, xs_iconst_1, xs_istore_n_2_i, xs_istore_n_2_a, xs_istore_n_2_n, xs_istore_n_2_l, xs_iload_n_2, xs_icmp_gt, xs_iadd, xs_iinc_2_1_i, xs_iinc_2_1_a, xs_iinc_2_1_n, xs_goto, xs_if_lt]) ))
    exact ⟨fun _ => fin h _ A, fun z => absurd (nI_lt (by omega) (by omega)) z⟩
  | succ d ih =>
    intro q h A hq
    have ihT := ih (q + 1)
    have hb := A.hb
    obtain ⟨j1, j2⟩ := hi (q + 1) (by omega) (by omega)
    have cE := c_entryAt (x1 := nI (q + 1)) hb j1
    have cE : xK 85 [.ref m, .int (nI (q + 1))] h (some (.int (mentry nw (nI (q + 1))))) h := cE
    refine xe_X8_soundOf_25 ?_
    (repeat (first | (simp only [xb_X8_soundOf_0, xb_X8_soundOf_18, xb_X8_soundOf_25, xb_X8_soundOf_59, xb_X8_soundOf_71, xb_X8_soundOf_72, xs_nil, Nat.reduceAdd, true_implies, not_true_eq_false, not_false_eq_true, false_implies, and_true, true_and, x_10, xs_aload_n_0, xs_bipush_118, xs_istore_n_1_i, xs_istore_n_1_a, xs_istore_n_1_n, xs_istore_n_1_l, xs_iload_n_1, xs_if_ne, xs_iconst_0, xs_ireturn, xs_iconst_1, xs_istore_n_2_i, xs_istore_n_2_a, xs_istore_n_2_n, xs_istore_n_2_l, xs_iload_n_2, xs_icmp_gt, xs_iadd, xs_iinc_2_1_i, xs_iinc_2_1_a, xs_iinc_2_1_n, xs_goto, xs_if_lt]) ))
    refine ⟨fun z => absurd z (nI_nlt (by omega) (by omega)), fun _ => ?_⟩
    (repeat (first | (simp only [xb_X8_soundOf_0, xb_X8_soundOf_18, xb_X8_soundOf_25, xb_X8_soundOf_59, xb_X8_soundOf_71, xb_X8_soundOf_72, xs_nil, Nat.reduceAdd, true_implies, not_true_eq_false, not_false_eq_true, false_implies, and_true, true_and, x_10, xs_aload_n_0, xs_bipush_118, xs_istore_n_1_i, xs_istore_n_1_a, xs_istore_n_1_n, xs_istore_n_1_l, xs_iload_n_1, xs_if_ne, xs_iconst_0, xs_ireturn, xs_iconst_1, xs_istore_n_2_i, xs_istore_n_2_a, xs_istore_n_2_n, xs_istore_n_2_l, xs_iload_n_2, xs_icmp_gt, xs_iadd, xs_iinc_2_1_i, xs_iinc_2_1_a, xs_iinc_2_1_n, xs_goto, xs_if_lt]) | (refine xr_getf (hb 0 _ rfl) (by rfl) ?_) | refine xc_v2_1 (cE) (Nat.le_of_ble_eq_true rfl) ?_ | (refine xr_iaload (hb 7 _ rfl) (x_in (by rw [l1]; omega) (by rw [l1]; decide)) ?_) | (refine xr_iaload (hb 1 _ rfl) j2 ?_)))
    refine xa_iastore A 8 (by rfl) h2 (x_in (by rw [msrt_len, l2]; omega) (by rw [msrt_len, l2]; decide)) (fun h1 A => ?_)
    rw [xu_n (by omega)] at A
    (repeat (first | (simp only [xb_X8_soundOf_0, xb_X8_soundOf_18, xb_X8_soundOf_25, xb_X8_soundOf_59, xb_X8_soundOf_71, xb_X8_soundOf_72, xs_nil, Nat.reduceAdd, true_implies, not_true_eq_false, not_false_eq_true, false_implies, and_true, true_and, x_10, xs_aload_n_0, xs_bipush_118, xs_istore_n_1_i, xs_istore_n_1_a, xs_istore_n_1_n, xs_istore_n_1_l, xs_iload_n_1, xs_if_ne, xs_iconst_0, xs_ireturn, xs_iconst_1, xs_istore_n_2_i, xs_istore_n_2_a, xs_istore_n_2_n, xs_istore_n_2_l, xs_iload_n_2, xs_icmp_gt, xs_iadd, xs_iinc_2_1_i, xs_iinc_2_1_a, xs_iinc_2_1_n, xs_goto, xs_if_lt]) ))
    rw [nI_1]
    exact ihT h1 A (by omega)
end SO0
section SO
variable {ys : List Int32} {h : xH} {s : kS} {k : kC} {sh : Nat → kS} {nx ct : Nat} {tx : List Int32} {ln : Int32} {rf : List Int32} {nw pa : List Int32} {sts byt : Int32} {a : Int64}
def sndB (s : kS) : Bool := !decide (srow s = -1) && khangs s (srow s) (sn s) 1
theorem c7_sound (B : cW h s k sh nx ct tx ln rf) (hR : Rl s nw) : xK 129 [.ref 2] h (some (.int (if sndB s = true then 1 else 0))) h := by
  have hv := hR.1
  have h6 := hv.n6
  have c := c_isHeldStillAllowed B.hs hv (fun hn i a b => by
    have hh : 0 < sn s ∧ ¬ kstuck s = true := Classical.byContradiction fun z => hn ((Rl_held hR).1 z).1
    obtain ⟨b', c', y1, y2, y3, y4⟩ := (Rl_held hR).2 hh
    have hd := hdg_lt (sn s) c' i
    refine ⟨hdg (sn s) c' i, by omega, ?_⟩
    have y3' : xg (sro s) (sct s) = nI (rowN (sn s) b' c') := y3
    rw [y3', khead_at h6 b' c' a b])
  have c : xK 128 [.ref 3] h (some (.int (if sndB s = true then 1 else 0))) h := c
  refine xK_X7_sound (B.hp 0 _ rfl) (xe_X7_sound_0 ?_)
  (repeat (first | (simp only [xb_X7_sound_0, xb_X7_sound_14, xb_X7_sound_15, xs_nil, Nat.reduceAdd, true_implies, not_true_eq_false, not_false_eq_true, false_implies, and_true, true_and, x_10, xs_aload_n_0, xs_if_eq, xs_iconst_1, xs_goto, xs_iconst_0, xs_ireturn]) | (refine xr_getf (B.hp 0 _ rfl) (by rfl) ?_) | (refine xr_getf (B.hs 0 _ rfl) (by rfl) ?_) | (refine xr_getf (B.hs 1 _ rfl) (by rfl) ?_) | (refine xr_getf (B.hs 7 _ rfl) (by rfl) ?_) | refine xc_v1_1 (c) (Nat.le_of_ble_eq_true rfl) ?_))
  by_cases hz : sndB s = true
  · rw [if_pos hz]
    (repeat (first | (simp only [xb_X7_sound_0, xb_X7_sound_14, xb_X7_sound_15, xs_nil, Nat.reduceAdd, true_implies, not_true_eq_false, not_false_eq_true, false_implies, and_true, true_and, x_10, xs_aload_n_0, xs_if_eq, xs_iconst_1, xs_goto, xs_iconst_0, xs_ireturn]) ))
    refine xe_X7_sound_15 ?_
    (repeat (first | (simp only [xb_X7_sound_0, xb_X7_sound_14, xb_X7_sound_15, xs_nil, Nat.reduceAdd, true_implies, not_true_eq_false, not_false_eq_true, false_implies, and_true, true_and, x_10, xs_aload_n_0, xs_if_eq, xs_iconst_1, xs_goto, xs_iconst_0, xs_ireturn]) ))
    (first | exact ⟨Or.inl trivial, rfl⟩ | exact ⟨Or.inl trivial, rfl, rfl⟩ | (simp; done) | exact ⟨by simp, rfl⟩ | exact ⟨by simp, rfl, rfl⟩ | rfl)
  · rw [if_neg hz]
    (repeat (first | (simp only [xb_X7_sound_0, xb_X7_sound_14, xb_X7_sound_15, xs_nil, Nat.reduceAdd, true_implies, not_true_eq_false, not_false_eq_true, false_implies, and_true, true_and, x_10, xs_aload_n_0, xs_if_eq, xs_iconst_1, xs_goto, xs_iconst_0, xs_ireturn]) ))
    refine xe_X7_sound_14 ?_
    (repeat (first | (simp only [xb_X7_sound_0, xb_X7_sound_14, xb_X7_sound_15, xs_nil, Nat.reduceAdd, true_implies, not_true_eq_false, not_false_eq_true, false_implies, and_true, true_and, x_10, xs_aload_n_0, xs_if_eq, xs_iconst_1, xs_goto, xs_iconst_0, xs_ireturn]) ))
    refine xe_X7_sound_15 ?_
    (repeat (first | (simp only [xb_X7_sound_0, xb_X7_sound_14, xb_X7_sound_15, xs_nil, Nat.reduceAdd, true_implies, not_true_eq_false, not_false_eq_true, false_implies, and_true, true_and, x_10, xs_aload_n_0, xs_if_eq, xs_iconst_1, xs_goto, xs_iconst_0, xs_ireturn]) ))
    (first | exact ⟨Or.inl trivial, rfl⟩ | exact ⟨Or.inl trivial, rfl, rfl⟩ | (simp; done) | exact ⟨by simp, rfl⟩ | exact ⟨by simp, rfl, rfl⟩ | rfl)
theorem m8_soundOf (M : mWh h nw pa sts rf tx byt a) (hR : Rl s nw) : ∃ h2, xK 130 [.ref 122] h (some (.int (if sndB s = true then 1 else 0))) h2 ∧ mWh h2 nw pa sts rf tx byt a ∧ mF h h2 := by
  have hv := hR.1
  have hg := hR.2.1
  have h6 := hv.n6
  have hl := hg.1
  have e118 := hR.e118
  have i118 := hR.i118
  have cH := m8_holds M.mW hR
  obtain ⟨hh1, hh2⟩ := Rl_held hR
  obtain ⟨⟨asd, hs, rd, so, ah, ar, tr, bg, fo, bc, br, bk, le, fr, nu, od, sp, wr, ha⟩, hz, ea, hb⟩ := id M
  have hb : x_hb h 122 (x_mc 122 nw asd pa sts rf tx byt (hs.map nI) rd so ah ar tr bg fo bc br bk le fr nu od sp wr ha) := hb
  have A := xA.of hb (Nat.zero_lt_succ _)
  obtain ⟨z1, z2, z3, z4, z5⟩ := id hz
  by_cases hhd : 0 < sn s ∧ ¬ kstuck s = true
  · obtain ⟨b, c, y1, y2, y3, y4⟩ := hh2 hhd
    rw [if_pos hhd] at cH
    obtain ⟨hs', rd', ⟨o1, o2, o3⟩, cL⟩ := e_held hb (by decide) z2 z3 hR hhd.1 y4
    have A1 : xA h 122 (x_mc 122 nw asd pa sts rf tx byt ((hs').map nI) (rd') so ah ar tr bg fo bc br bk le fr nu od sp wr ha) _ := A.on rfl
    have A2 : xA h 122 (x_mc 122 nw asd pa sts rf tx byt ((hs').map nI) (rd') (msrt nw rd' so (sn s)) ah ar tr bg fo bc br bk le fr nu od sp wr ha) _ := A.on rfl
    obtain ⟨M2, F2⟩ := mWh_A (nw' := nw) (pa' := pa) (sts' := sts) (rf' := rf) (tx' := tx) (byt' := byt) (z' := ((asd, (hs'), (rd'), (msrt nw rd' so (sn s)), ah, ar, tr, bg, fo, bc, br, bk, le, fr, nu, od, sp, wr, ha) : mZ)) ⟨z1, o1.1, o2, by show (msrt nw rd' so (sn s)).length = 7; rw [msrt_len]; exact z4, z5⟩ ea A2
    refine ⟨_, ?_, M2, F2⟩
    have hrow := rowN_lt h6 b c
    have hne : ¬ srow s = -1 := by rw [y3]; exact nI_m1 (by omega)
    have eB : sndB s = true ↔ okA s (sn s) b c = true := by
      unfold sndB
      rw [decide_eq_false hne, y3]
      show (true && khangs s (nI (rowN (sn s) b c)) (sn s) 1) = true ↔ _
      rw [Bool.true_and]
      exact khangs_ok hv hhd.1 h6 y2
    -- one analysis as all is now
    have hlm : (hs'.map nI).length = 7 := by rw [List.length_map]; exact o1.1.1
    have H1 : ∀ w, 1 ≤ w → w ≤ sn s → xg (hs'.map nI) (nI w) = nI (hdg (sn s) c w) := fun w p q => by
      rw [xg_map (by rw [o1.1.1]; omega) (by rw [o1.1.1]; decide), o1.2 w p q]
    have H2 : ∀ w, 1 ≤ w → w ≤ sn s → xg rd' (nI w) = nI (rho (sn s) b w) := fun w p q => by rw [xg_n (by omega)]; exact o3 w p q
    have H3 : ∀ w, 1 ≤ w → w ≤ sn s → xg (msrt nw rd' so (sn s)) (nI w) = ksort (sS s) (sen s) (nI w) (nI (rho (sn s) b w)) := fun w p q => by
      rw [xg_n (by omega), msrt_get z4 (sn s) (by omega) w p q, H2 w p q]
      exact hg.sort hv p (by omega) (rho_lt _ _ _)
    have H4 := y1.2
    have hne' : ∀ w, 1 ≤ w → w ≤ sn s → ¬ hdg (sn s) c w = w := fun w p q => tree_ne hhd.1 h6 y2 p q
    obtain ⟨s1, s2⟩ := an_sum hg hv h6 hne' H1 H2 H3 H4 (sn s) (Nat.le_refl _)
    have hsr : ∀ w, 1 ≤ w → w ≤ sn s → ∃ a, a < 6 ∧ xg (msrt nw rd' so (sn s)) (nI w) = nI a := fun w p q => by
      obtain ⟨a, ha, ea⟩ := (hv.sort (i := w) (r := rho (sn s) b w) (by omega) (rho_lt _ _ _)).resolve_left (H4 w p q)
      exact ⟨a, ha, by rw [H3 w p q, ea]⟩
    have hwell : ∀ w, w < sn s → mwell nw (hs'.map nI) rd' (msrt nw rd' so (sn s)) (nI (w + 1)) := by
      intro w hw
      obtain ⟨a, ha, ea⟩ := hsr (w + 1) (by omega) (by omega)
      obtain ⟨j, hj, _, ej⟩ := hg.en hv (w := w + 1) (by omega) (by omega)
      have hd := hdg_lt (sn s) c (w + 1)
      have i7 : xin (nI (w + 1)) 7 := x_in (by omega) (by decide)
      refine ⟨by rw [hlm]; exact i7, by rw [msrt_len, z4]; exact i7, by rw [o2]; exact i7, fun _ => ?_, fun h0 => ?_, by rw [wp_n (by omega), hl]; exact x_in (by omega) (by decide), fun _ => ?_⟩
      · rw [ea, show (72 : Int32) = nI 72 from rfl, nI_add, hl]
        exact x_in (by omega) (by decide)
      · rw [H1 (w + 1) (by omega) (by omega)] at h0 ⊢
        have hd0 : ¬ hdg (sn s) c (w + 1) = 0 := fun z => h0 (by rw [z]; rfl)
        obtain ⟨a2, ha2, ea2⟩ := hsr (hdg (sn s) c (w + 1)) (by omega) (by omega)
        rw [ea2, ea, msrt_len, z4, hl]
        refine ⟨x_in (by omega) (by decide), ?_⟩
        have key : ∀ z : Nat, z < 2 → xin (0 + 12 * nI a2 + 2 * nI a + nI z) 149 := by
          intro z hz
          rw [Int32.zero_add, show (12 : Int32) = nI 12 from rfl, show (2 : Int32) = nI 2 from rfl, pk_mul, pk_mul, nI_add, nI_add]
          exact x_in (by omega) (by decide)
        split
        · exact key 1 (by omega)
        · exact key 0 (by omega)
      · rw [ej, show (2 : Int32) = nI 2 from rfl, nI_add, hl]
        exact x_in (by omega) (by decide)
    have hi : ∀ w, 1 ≤ w → w ≤ sn s → xin (119 + 5 * (nI w - 1)) nw.length ∧ xin (mentry nw (nI w) + xg rd' (nI w)) nw.length := by
      intro w p q
      obtain ⟨g1, g2⟩ := gr_in hg hv h6 (w - 1) (by omega)
      rw [show w - 1 + 1 = w by omega] at g1 g2
      rw [H2 w p q]
      exact ⟨g1, g2 _ (rho_lt _ _ _)⟩
    refine xK_X8_soundOf (hb 0 _ rfl) (xe_X8_soundOf_0 ?_)
    (repeat (first | (simp only [xb_X8_soundOf_0, xb_X8_soundOf_18, xb_X8_soundOf_25, xb_X8_soundOf_59, xb_X8_soundOf_71, xb_X8_soundOf_72, xs_nil, Nat.reduceAdd, true_implies, not_true_eq_false, not_false_eq_true, false_implies, and_true, true_and, x_10, xs_aload_n_0, xs_bipush_118, xs_istore_n_1_i, xs_istore_n_1_a, xs_istore_n_1_n, xs_istore_n_1_l, xs_iload_n_1, xs_if_ne, xs_iconst_0, xs_ireturn, xs_iconst_1, xs_istore_n_2_i, xs_istore_n_2_a, xs_istore_n_2_n, xs_istore_n_2_l, xs_iload_n_2, xs_icmp_gt, xs_iadd, xs_iinc_2_1_i, xs_iinc_2_1_a, xs_iinc_2_1_n, xs_goto, xs_if_lt]) | (refine xr_getf (hb 0 _ rfl) (by rfl) ?_) | (refine xr_iaload (hb 1 _ rfl) i118 ?_)))
    rw [e118]
    (repeat (first | (simp only [xb_X8_soundOf_0, xb_X8_soundOf_18, xb_X8_soundOf_25, xb_X8_soundOf_59, xb_X8_soundOf_71, xb_X8_soundOf_72, xs_nil, Nat.reduceAdd, true_implies, not_true_eq_false, not_false_eq_true, false_implies, and_true, true_and, x_10, xs_aload_n_0, xs_bipush_118, xs_istore_n_1_i, xs_istore_n_1_a, xs_istore_n_1_n, xs_istore_n_1_l, xs_iload_n_1, xs_if_ne, xs_iconst_0, xs_ireturn, xs_iconst_1, xs_istore_n_2_i, xs_istore_n_2_a, xs_istore_n_2_n, xs_istore_n_2_l, xs_iload_n_2, xs_icmp_gt, xs_iadd, xs_iinc_2_1_i, xs_iinc_2_1_a, xs_iinc_2_1_n, xs_goto, xs_if_lt]) | refine xc_v2_1 (cH) (Nat.le_of_ble_eq_true rfl) ?_))
    refine xe_X8_soundOf_18 ?_
    (repeat (first | (simp only [xb_X8_soundOf_0, xb_X8_soundOf_18, xb_X8_soundOf_25, xb_X8_soundOf_59, xb_X8_soundOf_71, xb_X8_soundOf_72, xs_nil, Nat.reduceAdd, true_implies, not_true_eq_false, not_false_eq_true, false_implies, and_true, true_and, x_10, xs_aload_n_0, xs_bipush_118, xs_istore_n_1_i, xs_istore_n_1_a, xs_istore_n_1_n, xs_istore_n_1_l, xs_iload_n_1, xs_if_ne, xs_iconst_0, xs_ireturn, xs_iconst_1, xs_istore_n_2_i, xs_istore_n_2_a, xs_istore_n_2_n, xs_istore_n_2_l, xs_iload_n_2, xs_icmp_gt, xs_iadd, xs_iinc_2_1_i, xs_iinc_2_1_a, xs_iinc_2_1_n, xs_goto, xs_if_lt]) | refine xc_v2_0 (cL) (Nat.le_of_ble_eq_true rfl) ?_))
    have e0 := A2.e
    generalize x_wr h 122 (x_mc 122 nw asd pa sts rf tx byt ((hs').map nI) (rd') so ah ar tr bg fo bc br bk le fr nu od sp wr ha) = h1' at A1 ⊢
    refine l_soundOf (by decide) (by omega) o2 z4 hi (fun h3 q A3 => ?_) (sn s) 0 h1' A1 (by omega)
    have e3 : x_wr h 122 (x_mc 122 nw asd pa sts rf tx byt ((hs').map nI) (rd') (msrt nw rd' so (sn s)) ah ar tr bg fo bc br bk le fr nu od sp wr ha) = h3 := A3.e
    rw [e3]
    have cC := c_costOf (n := sn s) A3.hb (by omega) (by rw [hl]; exact x_in (k := 115) (by decide) (by decide)) hwell
    rw [s1, show lok (fun k => kap s (sn s) b c (k + 1)) (sn s) = okA s (sn s) b c from rfl] at cC
    refine xe_X8_soundOf_59 ?_
    (repeat (first | (simp only [xb_X8_soundOf_0, xb_X8_soundOf_18, xb_X8_soundOf_25, xb_X8_soundOf_59, xb_X8_soundOf_71, xb_X8_soundOf_72, xs_nil, Nat.reduceAdd, true_implies, not_true_eq_false, not_false_eq_true, false_implies, and_true, true_and, x_10, xs_aload_n_0, xs_bipush_118, xs_istore_n_1_i, xs_istore_n_1_a, xs_istore_n_1_n, xs_istore_n_1_l, xs_iload_n_1, xs_if_ne, xs_iconst_0, xs_ireturn, xs_iconst_1, xs_istore_n_2_i, xs_istore_n_2_a, xs_istore_n_2_n, xs_istore_n_2_l, xs_iload_n_2, xs_icmp_gt, xs_iadd, xs_iinc_2_1_i, xs_iinc_2_1_a, xs_iinc_2_1_n, xs_goto, xs_if_lt]) | refine xc_v2_1 (cC) (Nat.le_of_ble_eq_true rfl) ?_))
    have hCA := CA_le (b := b) hv h6 hne'
    by_cases ok : okA s (sn s) b c = true
    · have hcost : mcost nw (hs'.map nI) rd' (msrt nw rd' so (sn s)) (sn s) = nI (CA s (sn s) b c) := s2 ok
      rw [if_pos ok, if_pos (eB.mpr ok), hcost]
      refine ⟨fun z => absurd z (nI_pos (by omega)), fun _ => ?_⟩
      (repeat (first | (simp only [xb_X8_soundOf_0, xb_X8_soundOf_18, xb_X8_soundOf_25, xb_X8_soundOf_59, xb_X8_soundOf_71, xb_X8_soundOf_72, xs_nil, Nat.reduceAdd, true_implies, not_true_eq_false, not_false_eq_true, false_implies, and_true, true_and, x_10, xs_aload_n_0, xs_bipush_118, xs_istore_n_1_i, xs_istore_n_1_a, xs_istore_n_1_n, xs_istore_n_1_l, xs_iload_n_1, xs_if_ne, xs_iconst_0, xs_ireturn, xs_iconst_1, xs_istore_n_2_i, xs_istore_n_2_a, xs_istore_n_2_n, xs_istore_n_2_l, xs_iload_n_2, xs_icmp_gt, xs_iadd, xs_iinc_2_1_i, xs_iinc_2_1_a, xs_iinc_2_1_n, xs_goto, xs_if_lt]) ))
      refine xe_X8_soundOf_72 ?_
      (repeat (first | (simp only [xb_X8_soundOf_0, xb_X8_soundOf_18, xb_X8_soundOf_25, xb_X8_soundOf_59, xb_X8_soundOf_71, xb_X8_soundOf_72, xs_nil, Nat.reduceAdd, true_implies, not_true_eq_false, not_false_eq_true, false_implies, and_true, true_and, x_10, xs_aload_n_0, xs_bipush_118, xs_istore_n_1_i, xs_istore_n_1_a, xs_istore_n_1_n, xs_istore_n_1_l, xs_iload_n_1, xs_if_ne, xs_iconst_0, xs_ireturn, xs_iconst_1, xs_istore_n_2_i, xs_istore_n_2_a, xs_istore_n_2_n, xs_istore_n_2_l, xs_iload_n_2, xs_icmp_gt, xs_iadd, xs_iinc_2_1_i, xs_iinc_2_1_a, xs_iinc_2_1_n, xs_goto, xs_if_lt]) ))
      (first | exact ⟨Or.inl trivial, rfl⟩ | exact ⟨Or.inl trivial, rfl, rfl⟩ | (simp; done) | exact ⟨by simp, rfl⟩ | exact ⟨by simp, rfl, rfl⟩ | rfl)
    · rw [if_neg ok, if_neg (fun z => ok (eB.mp z))]
      refine ⟨fun _ => ?_, fun z => absurd (by decide) z⟩
      refine xe_X8_soundOf_71 ?_
      (repeat (first | (simp only [xb_X8_soundOf_0, xb_X8_soundOf_18, xb_X8_soundOf_25, xb_X8_soundOf_59, xb_X8_soundOf_71, xb_X8_soundOf_72, xs_nil, Nat.reduceAdd, true_implies, not_true_eq_false, not_false_eq_true, false_implies, and_true, true_and, x_10, xs_aload_n_0, xs_bipush_118, xs_istore_n_1_i, xs_istore_n_1_a, xs_istore_n_1_n, xs_istore_n_1_l, xs_iload_n_1, xs_if_ne, xs_iconst_0, xs_ireturn, xs_iconst_1, xs_istore_n_2_i, xs_istore_n_2_a, xs_istore_n_2_n, xs_istore_n_2_l, xs_iload_n_2, xs_icmp_gt, xs_iadd, xs_iinc_2_1_i, xs_iinc_2_1_a, xs_iinc_2_1_n, xs_goto, xs_if_lt]) ))
      refine xe_X8_soundOf_72 ?_
      (repeat (first | (simp only [xb_X8_soundOf_0, xb_X8_soundOf_18, xb_X8_soundOf_25, xb_X8_soundOf_59, xb_X8_soundOf_71, xb_X8_soundOf_72, xs_nil, Nat.reduceAdd, true_implies, not_true_eq_false, not_false_eq_true, false_implies, and_true, true_and, x_10, xs_aload_n_0, xs_bipush_118, xs_istore_n_1_i, xs_istore_n_1_a, xs_istore_n_1_n, xs_istore_n_1_l, xs_iload_n_1, xs_if_ne, xs_iconst_0, xs_ireturn, xs_iconst_1, xs_istore_n_2_i, xs_istore_n_2_a, xs_istore_n_2_n, xs_istore_n_2_l, xs_iload_n_2, xs_icmp_gt, xs_iadd, xs_iinc_2_1_i, xs_iinc_2_1_a, xs_iinc_2_1_n, xs_goto, xs_if_lt]) ))
      (first | exact ⟨Or.inl trivial, rfl⟩ | exact ⟨Or.inl trivial, rfl, rfl⟩ | (simp; done) | exact ⟨by simp, rfl⟩ | exact ⟨by simp, rfl, rfl⟩ | rfl)
  · obtain ⟨e1, _⟩ := hh1 hhd
    rw [if_neg hhd] at cH
    have eB : ¬ sndB s = true := by
      unfold sndB
      rw [decide_eq_true e1]
      simp
    refine ⟨h, ?_, M, mF.refl h⟩
    refine xK_X8_soundOf (hb 0 _ rfl) (xe_X8_soundOf_0 ?_)
    (repeat (first | (simp only [xb_X8_soundOf_0, xb_X8_soundOf_18, xb_X8_soundOf_25, xb_X8_soundOf_59, xb_X8_soundOf_71, xb_X8_soundOf_72, xs_nil, Nat.reduceAdd, true_implies, not_true_eq_false, not_false_eq_true, false_implies, and_true, true_and, x_10, xs_aload_n_0, xs_bipush_118, xs_istore_n_1_i, xs_istore_n_1_a, xs_istore_n_1_n, xs_istore_n_1_l, xs_iload_n_1, xs_if_ne, xs_iconst_0, xs_ireturn, xs_iconst_1, xs_istore_n_2_i, xs_istore_n_2_a, xs_istore_n_2_n, xs_istore_n_2_l, xs_iload_n_2, xs_icmp_gt, xs_iadd, xs_iinc_2_1_i, xs_iinc_2_1_a, xs_iinc_2_1_n, xs_goto, xs_if_lt]) | (refine xr_getf (hb 0 _ rfl) (by rfl) ?_) | (refine xr_iaload (hb 1 _ rfl) i118 ?_)))
    rw [e118]
    (repeat (first | (simp only [xb_X8_soundOf_0, xb_X8_soundOf_18, xb_X8_soundOf_25, xb_X8_soundOf_59, xb_X8_soundOf_71, xb_X8_soundOf_72, xs_nil, Nat.reduceAdd, true_implies, not_true_eq_false, not_false_eq_true, false_implies, and_true, true_and, x_10, xs_aload_n_0, xs_bipush_118, xs_istore_n_1_i, xs_istore_n_1_a, xs_istore_n_1_n, xs_istore_n_1_l, xs_iload_n_1, xs_if_ne, xs_iconst_0, xs_ireturn, xs_iconst_1, xs_istore_n_2_i, xs_istore_n_2_a, xs_istore_n_2_n, xs_istore_n_2_l, xs_iload_n_2, xs_icmp_gt, xs_iadd, xs_iinc_2_1_i, xs_iinc_2_1_a, xs_iinc_2_1_n, xs_goto, xs_if_lt]) | refine xc_v2_1 (cH) (Nat.le_of_ble_eq_true rfl) ?_))
    rw [if_neg eB]
    (first | exact ⟨Or.inl trivial, rfl⟩ | exact ⟨Or.inl trivial, rfl, rfl⟩ | (simp; done) | exact ⟨by simp, rfl⟩ | exact ⟨by simp, rfl, rfl⟩ | rfl)
theorem t_sound (B : BR ys h) : TC ys h 129 131 [] := by
  obtain ⟨s, k, sh, nx, ct, tx, ln, rf, nw, pa, L, C, M, I⟩ := B
  obtain ⟨i1, i2, i3, i6, i7, i8, i9⟩ := id I
  refine TC_mk L ⟨h, c7_sound C i1, C, cF.refl h⟩ (fun h1' F => ?_) I
  have M := M.cF F
  obtain ⟨a, Mh⟩ := M.mWh
  obtain ⟨h2, p, M2, F2⟩ := m8_soundOf Mh i1
  refine ⟨h2, ?_, M2.mW, F2⟩
  obtain ⟨fs, h0⟩ := M.h0
  refine xK_X8_sound h0 (xe_X8_sound_0 ?_)
  (repeat (first | (simp only [xb_X8_sound_0, xs_nil, Nat.reduceAdd, true_implies, not_true_eq_false, not_false_eq_true, false_implies, and_true, true_and, x_10, xs_aload_n_0, xs_ireturn]) | refine xc_v1_1 (p) (Nat.le_of_ble_eq_true rfl) ?_))
  (first | exact ⟨Or.inl trivial, rfl⟩ | exact ⟨Or.inl trivial, rfl, rfl⟩ | (simp; done) | exact ⟨by simp, rfl⟩ | exact ⟨by simp, rfl, rfl⟩ | rfl)
end SO
