/-! the class: refused; a State left -/
def rfi (rf : List Int32) (i : Int32) : List Int32 := xu rf i (xg rf i + 1)
theorem rfi_len {rf : List Int32} {i : Int32} : (rfi rf i).length = rf.length := xu_len
section CL1
variable {h : xH} {s : kS} {k : kC} {sh : Nat → kS} {nx ct : Nat} {tx : List Int32} {ln : Int32} {rf : List Int32}
theorem c_refuse_bad (hp : x_hb h 2 wP) (hr : x_hb h 121 [xi rf]) (hl : rf.length = 3) : xK 18 [.ref 2, .int (-2)] h (some (.int (-2))) (x_wr h 121 [xi (rfi rf 0)]) := by
  have A := xA.of hr (Nat.zero_lt_succ _)
  have i0 : xin 0 rf.length := by rw [hl]; exact x_in (k := 0) (by decide) (by decide)
  refine xK_X7_refuse (hp 0 _ rfl) (xe_X7_refuse_0 ?_)
  (repeat (first | (simp only [xb_X7_refuse_0, xb_X7_refuse_19, xb_X7_refuse_38, xb_X7_refuse_48, xs_nil, Nat.reduceAdd, true_implies, not_true_eq_false, not_false_eq_true, false_implies, and_true, true_and, x_10, xs_iload_n_1, xs_bipush_m2, xs_icmp_ne, xs_aload_n_0, xs_iconst_0, xs_dup2, xs_iconst_1, xs_iadd, xs_goto, xs_bipush_m3, xs_iconst_2, xs_ireturn]) | (refine xr_getf (hp 0 _ rfl) (by rfl) ?_) | (refine xr_iaload (hr 0 _ rfl) i0 ?_)))
  refine xa_iastore A 0 (by rfl) (by decide) i0 (fun h1 A => ?_)
  (repeat (first | (simp only [xb_X7_refuse_0, xb_X7_refuse_19, xb_X7_refuse_38, xb_X7_refuse_48, xs_nil, Nat.reduceAdd, true_implies, not_true_eq_false, not_false_eq_true, false_implies, and_true, true_and, x_10, xs_iload_n_1, xs_bipush_m2, xs_icmp_ne, xs_aload_n_0, xs_iconst_0, xs_dup2, xs_iconst_1, xs_iadd, xs_goto, xs_bipush_m3, xs_iconst_2, xs_ireturn]) ))
  refine xe_X7_refuse_48 ?_
  (repeat (first | (simp only [xb_X7_refuse_0, xb_X7_refuse_19, xb_X7_refuse_38, xb_X7_refuse_48, xs_nil, Nat.reduceAdd, true_implies, not_true_eq_false, not_false_eq_true, false_implies, and_true, true_and, x_10, xs_iload_n_1, xs_bipush_m2, xs_icmp_ne, xs_aload_n_0, xs_iconst_0, xs_dup2, xs_iconst_1, xs_iadd, xs_goto, xs_bipush_m3, xs_iconst_2, xs_ireturn]) ))
  have e := A.e
  all_goals first | exact ⟨by simp, e⟩ | exact e | exact ⟨by simp, by simp, e⟩ | exact ⟨by simp, by simp_all, e⟩
theorem c_refuse_no (hp : x_hb h 2 wP) (hr : x_hb h 121 [xi rf]) (hl : rf.length = 3) : xK 18 [.ref 2, .int (-3)] h (some (.int (-3))) (x_wr h 121 [xi (rfi rf 1)]) := by
  have A := xA.of hr (Nat.zero_lt_succ _)
  have i0 : xin 1 rf.length := by rw [hl]; exact x_in (k := 1) (by decide) (by decide)
  refine xK_X7_refuse (hp 0 _ rfl) (xe_X7_refuse_0 ?_)
  (repeat (first | (simp only [xb_X7_refuse_0, xb_X7_refuse_19, xb_X7_refuse_38, xb_X7_refuse_48, xs_nil, Nat.reduceAdd, true_implies, not_true_eq_false, not_false_eq_true, false_implies, and_true, true_and, x_10, xs_iload_n_1, xs_bipush_m2, xs_icmp_ne, xs_aload_n_0, xs_iconst_0, xs_dup2, xs_iconst_1, xs_iadd, xs_goto, xs_bipush_m3, xs_iconst_2, xs_ireturn]) ))
  refine ⟨fun _ => ?_, fun z => absurd (by decide) z⟩
  refine xe_X7_refuse_19 ?_
  (repeat (first | (simp only [xb_X7_refuse_0, xb_X7_refuse_19, xb_X7_refuse_38, xb_X7_refuse_48, xs_nil, Nat.reduceAdd, true_implies, not_true_eq_false, not_false_eq_true, false_implies, and_true, true_and, x_10, xs_iload_n_1, xs_bipush_m2, xs_icmp_ne, xs_aload_n_0, xs_iconst_0, xs_dup2, xs_iconst_1, xs_iadd, xs_goto, xs_bipush_m3, xs_iconst_2, xs_ireturn]) | (refine xr_getf (hp 0 _ rfl) (by rfl) ?_) | (refine xr_iaload (hr 0 _ rfl) i0 ?_)))
  refine xa_iastore A 0 (by rfl) (by decide) i0 (fun h1 A => ?_)
  (repeat (first | (simp only [xb_X7_refuse_0, xb_X7_refuse_19, xb_X7_refuse_38, xb_X7_refuse_48, xs_nil, Nat.reduceAdd, true_implies, not_true_eq_false, not_false_eq_true, false_implies, and_true, true_and, x_10, xs_iload_n_1, xs_bipush_m2, xs_icmp_ne, xs_aload_n_0, xs_iconst_0, xs_dup2, xs_iconst_1, xs_iadd, xs_goto, xs_bipush_m3, xs_iconst_2, xs_ireturn]) ))
  refine xe_X7_refuse_48 ?_
  (repeat (first | (simp only [xb_X7_refuse_0, xb_X7_refuse_19, xb_X7_refuse_38, xb_X7_refuse_48, xs_nil, Nat.reduceAdd, true_implies, not_true_eq_false, not_false_eq_true, false_implies, and_true, true_and, x_10, xs_iload_n_1, xs_bipush_m2, xs_icmp_ne, xs_aload_n_0, xs_iconst_0, xs_dup2, xs_iconst_1, xs_iadd, xs_goto, xs_bipush_m3, xs_iconst_2, xs_ireturn]) ))
  have e := A.e
  all_goals first | exact ⟨by simp, e⟩ | exact e | exact ⟨by simp, by simp, e⟩ | exact ⟨by simp, by simp_all, e⟩
theorem c_refuse_full (hp : x_hb h 2 wP) (hr : x_hb h 121 [xi rf]) (hl : rf.length = 3) : xK 18 [.ref 2, .int (-4)] h (some (.int (-4))) (x_wr h 121 [xi (rfi rf 2)]) := by
  have A := xA.of hr (Nat.zero_lt_succ _)
  have i0 : xin 2 rf.length := by rw [hl]; exact x_in (k := 2) (by decide) (by decide)
  refine xK_X7_refuse (hp 0 _ rfl) (xe_X7_refuse_0 ?_)
  (repeat (first | (simp only [xb_X7_refuse_0, xb_X7_refuse_19, xb_X7_refuse_38, xb_X7_refuse_48, xs_nil, Nat.reduceAdd, true_implies, not_true_eq_false, not_false_eq_true, false_implies, and_true, true_and, x_10, xs_iload_n_1, xs_bipush_m2, xs_icmp_ne, xs_aload_n_0, xs_iconst_0, xs_dup2, xs_iconst_1, xs_iadd, xs_goto, xs_bipush_m3, xs_iconst_2, xs_ireturn]) ))
  refine ⟨fun _ => ?_, fun z => absurd (by decide) z⟩
  refine xe_X7_refuse_19 ?_
  (repeat (first | (simp only [xb_X7_refuse_0, xb_X7_refuse_19, xb_X7_refuse_38, xb_X7_refuse_48, xs_nil, Nat.reduceAdd, true_implies, not_true_eq_false, not_false_eq_true, false_implies, and_true, true_and, x_10, xs_iload_n_1, xs_bipush_m2, xs_icmp_ne, xs_aload_n_0, xs_iconst_0, xs_dup2, xs_iconst_1, xs_iadd, xs_goto, xs_bipush_m3, xs_iconst_2, xs_ireturn]) ))
  refine ⟨fun _ => ?_, fun z => absurd (by decide) z⟩
  refine xe_X7_refuse_38 ?_
  (repeat (first | (simp only [xb_X7_refuse_0, xb_X7_refuse_19, xb_X7_refuse_38, xb_X7_refuse_48, xs_nil, Nat.reduceAdd, true_implies, not_true_eq_false, not_false_eq_true, false_implies, and_true, true_and, x_10, xs_iload_n_1, xs_bipush_m2, xs_icmp_ne, xs_aload_n_0, xs_iconst_0, xs_dup2, xs_iconst_1, xs_iadd, xs_goto, xs_bipush_m3, xs_iconst_2, xs_ireturn]) | (refine xr_getf (hp 0 _ rfl) (by rfl) ?_) | (refine xr_iaload (hr 0 _ rfl) i0 ?_)))
  refine xa_iastore A 0 (by rfl) (by decide) i0 (fun h1 A => ?_)
  (repeat (first | (simp only [xb_X7_refuse_0, xb_X7_refuse_19, xb_X7_refuse_38, xb_X7_refuse_48, xs_nil, Nat.reduceAdd, true_implies, not_true_eq_false, not_false_eq_true, false_implies, and_true, true_and, x_10, xs_iload_n_1, xs_bipush_m2, xs_icmp_ne, xs_aload_n_0, xs_iconst_0, xs_dup2, xs_iconst_1, xs_iadd, xs_goto, xs_bipush_m3, xs_iconst_2, xs_ireturn]) ))
  refine xe_X7_refuse_48 ?_
  (repeat (first | (simp only [xb_X7_refuse_0, xb_X7_refuse_19, xb_X7_refuse_38, xb_X7_refuse_48, xs_nil, Nat.reduceAdd, true_implies, not_true_eq_false, not_false_eq_true, false_implies, and_true, true_and, x_10, xs_iload_n_1, xs_bipush_m2, xs_icmp_ne, xs_aload_n_0, xs_iconst_0, xs_dup2, xs_iconst_1, xs_iadd, xs_goto, xs_bipush_m3, xs_iconst_2, xs_ireturn]) ))
  have e := A.e
  all_goals first | exact ⟨by simp, e⟩ | exact e | exact ⟨by simp, by simp, e⟩ | exact ⟨by simp, by simp_all, e⟩
/-- refusals of the class -/
theorem c7_bad (B : cW h s k sh nx ct tx ln rf) (hl : rf.length = 3) : ∃ h1, xK 18 [.ref 2, .int (-2)] h (some (.int (-2))) h1 ∧ cW h1 s k sh nx ct tx ln (rfi rf 0) ∧ cF h h1 := ⟨_, c_refuse_bad B.hp B.hrf hl, (B.refs _).1, (B.refs _).2⟩
theorem c7_no (B : cW h s k sh nx ct tx ln rf) (hl : rf.length = 3) : ∃ h1, xK 18 [.ref 2, .int (-3)] h (some (.int (-3))) h1 ∧ cW h1 s k sh nx ct tx ln (rfi rf 1) ∧ cF h h1 := ⟨_, c_refuse_no B.hp B.hrf hl, (B.refs _).1, (B.refs _).2⟩
theorem c7_full (B : cW h s k sh nx ct tx ln rf) (hl : rf.length = 3) : ∃ h1, xK 18 [.ref 2, .int (-4)] h (some (.int (-4))) h1 ∧ cW h1 s k sh nx ct tx ln (rfi rf 2) ∧ cF h h1 := ⟨_, c_refuse_full B.hp B.hrf hl, (B.refs _).1, (B.refs _).2⟩
/-- the shelf behind a State put on it -/
def shp (sh : Nat → kS) (nx : Nat) (s : kS) : Nat → kS := fun i => if i = nx then s else sh i
theorem c7_pushA (B : cW h s k sh nx ct tx ln rf) (hnx : nx < 6) (hct : ct ≤ 6) {p : Nat} {a : kS} (hp : x_hb h p (x_ts p a)) (hpp : p + 13 ≤ 29) (ha : svl a) : ∃ h1, xK 22 [.ref 29, .ref p] h none h1 ∧ cW h1 s k (shp sh nx a) ((nx + 1) % 6) (min (ct + 1) 6) tx ln rf ∧ cF h h1 := by
  have c1 := c_push (q := 29) B.hsh hnx hct (B.hsl hnx).2 hp (Or.inl hpp) (by decide) (B.hsl hnx).1 ha
  obtain ⟨B1, F1⟩ := B.slot hnx a ha
  obtain ⟨B2, F2⟩ := B1.shelf ((nx + 1) % 6) (min (ct + 1) 6)
  exact ⟨_, c1, B2, F1.trans F2⟩
theorem c7_push (B : cW h s k sh nx ct tx ln rf) (hnx : nx < 6) (hct : ct ≤ 6) (hs : svl s) : ∃ h1, xK 22 [.ref 29, .ref 3] h none h1 ∧ cW h1 s k (shp sh nx s) ((nx + 1) % 6) (min (ct + 1) 6) tx ln rf ∧ cF h h1 := c7_pushA B hnx hct B.hs (by decide) hs
end CL1
/-! numbers in their bounds -/
theorem nI_rng {x M : Int32} {n : Nat} (hM : M = nI n) (hn : n < 2 ^ 31) (h0 : 0 ≤ x) (h1 : x < M) : ∃ j, j < n ∧ x = nI j := by
  obtain ⟨j, hj, e⟩ := nI_of (x := x) (Int32.not_lt.mpr h0)
  refine ⟨j, ?_, e⟩
  rw [hM, e] at h1
  exact (nI_ltI hj hn).mp h1
theorem nI_rngle {x M : Int32} {n : Nat} (hM : M = nI n) (hn : n < 2 ^ 31) (h0 : 0 ≤ x) (h1 : x ≤ M) : ∃ j, j ≤ n ∧ x = nI j := by
  obtain ⟨j, hj, e⟩ := nI_of (x := x) (Int32.not_lt.mpr h0)
  refine ⟨j, ?_, e⟩
  rw [hM, e] at h1
  exact (nI_leI hj hn).mp h1
theorem price_of {x : Int32} (h0 : -1 ≤ x) (h1 : x ≤ 9) : x = -1 ∨ ∃ j, j ≤ 9 ∧ x = nI j := by
  by_cases h : 0 ≤ x
  · exact Or.inr (nI_rngle (n := 9) rfl (by decide) h h1)
  · refine Or.inl ?_
    simp only [Int32.le_iff_toInt_le, ← Int32.toInt_inj] at *
    have e1 : (-1 : Int32).toInt = -1 := by decide
    have e0 : (0 : Int32).toInt = 0 := by decide
    omega
theorem sg {α : Type} {l : List α} {i k : Nat} {v d : α} (h : i < l.length) : (l.set i v).getD k d = if k = i then v else l.getD k d := by
  by_cases hk : k = i
  · rw [if_pos hk, hk, gs_eq h]
  · rw [if_neg hk, gs_ne (Ne.symm hk)]
/-! both change in the same way -/
section RLU
variable {s s' : kS} {nw nw' : List Int32}
theorem Rl_of (hR : Rl s nw) (hv' : sv s') (hg' : gr s' nw') (e1 : sro s' = sro s) (e2 : sco s' = sco s) (e3 : sre s' = sre s) (e4 : ssu s' = ssu s) (hn : sn s' ≤ sn s) (ho : ∀ i, 119 ≤ i → nw'.getD i 0 = nw.getD i 0) (e5 : sen s' = sen s) (hne : sne s ≤ sne s') (eS : ∀ i, i < 2 * sne s → (sS s').getD i 0 = (sS s).getD i 0) : Rl s' nw' := by
  obtain ⟨hv, hg, r0, c0, hh⟩ := hR
  refine ⟨hv', hg', by rw [e1]; exact r0, by rw [e2]; exact c0, fun k h1 h2 => ?_⟩
  have := hh k h1 (by omega)
  unfold hw at this ⊢
  rw [e1, e2, e3, e4, e5, ho _ (by omega), ho _ (by omega), ho _ (by omega), ho _ (by omega)]
  obtain ⟨y1, y2, y3, y4, e, he, ee⟩ := this
  refine ⟨y1, y2, y3, y4.imp id (fun ⟨b', c', C, z1, z2⟩ => ⟨b', c', C, ⟨z1.1, fun w w1 w2 => ?_⟩, z2⟩), e, by omega, ee⟩
  have q := z1.2 w w1 w2
  obtain ⟨_, _, _, _, e', he', ee'⟩ := hh w w1 (by omega)
  have h6 := hv.n6
  have hr := rho_lt k b' w
  have h12 := hv.ne
  unfold ksort at q ⊢
  rw [e5]
  rw [xg_n (by omega), ee', show (2 : Int32) = nI 2 from rfl, pk_mul, nI_add, xg_n (by omega)] at q ⊢
  rw [eS _ (by omega)]
  exact q
/-- prices -/
def sprc (s : kS) (i : Nat) (v : Int32) : kS := ((sP s).set i v, s.2)
theorem Rl_price (hR : Rl s nw) {i : Nat} (hi : i < 72) {v : Int32} (hv9 : v = -1 ∨ ∃ j, j ≤ 9 ∧ v = nI j) : Rl (sprc s i v) (nw.set i v) := by
  obtain ⟨hv, hg, _⟩ := id hR
  have hl := hg.1
  have hlP := hv.lP
  refine Rl_of hR ⟨⟨⟨?_, hv.1.1.2⟩, hv.1.2⟩, fun k => ?_, hv.2.2⟩ ?_ rfl rfl rfl rfl (Nat.le_refl _) (fun k hk => ?_) rfl (Nat.le_refl _) (fun _ _ => rfl)
  · show (List.set _ _ _).length = _
    rw [List.length_set]
    exact hlP
  · show ((sP s).set i v).getD k 0 = -1 ∨ ∃ j, j ≤ 9 ∧ ((sP s).set i v).getD k 0 = nI j
    rw [sg (by omega)]
    split
    · exact hv9
    · exact hv.vP k
  · obtain ⟨g0, g1, g2, g3, g4, g5, g6, g7⟩ := hg
    refine ⟨by rw [List.length_set]; exact hl, fun k hk => ?_, fun k hk => ?_, ?_, fun e he => ?_, fun k hk => ?_, ?_, fun k hk => ?_⟩
    · show _ = ((sP s).set i v).getD k 0
      rw [sg (by omega), sg (by omega), g1 k hk]
    · rw [gs_ne (by omega)]
      exact g2 k hk
    · rw [gs_ne (by omega)]
      exact g3
    · rw [gs_ne (by omega), gs_ne (by omega), gs_ne (by omega)]
      exact g4 e he
    · rw [gs_ne (by omega)]
      exact g5 k hk
    · rw [gs_ne (by omega)]
      exact g6
    · rw [gs_ne (by omega)]
      exact g7 k hk
  · rw [gs_ne (by omega)]
def srtp (s : kS) (i : Nat) (v : Int32) : kS := (sP s, (sR s).set i v, s.2.2)
theorem Rl_root (hR : Rl s nw) {i : Nat} (hi : i < 6) {v : Int32} (hv9 : v = -1 ∨ ∃ j, j ≤ 9 ∧ v = nI j) : Rl (srtp s i v) (nw.set (72 + i) v) := by
  obtain ⟨hv, hg, _⟩ := id hR
  have hl := hg.1
  have hlP := hv.lR
  refine Rl_of hR ⟨⟨⟨hv.1.1.1, ?_, hv.1.1.2.2⟩, hv.1.2⟩, hv.2.1, fun k => ?_, hv.2.2.2⟩ ?_ rfl rfl rfl rfl (Nat.le_refl _) (fun k hk => ?_) rfl (Nat.le_refl _) (fun _ _ => rfl)
  · show (List.set _ _ _).length = _
    rw [List.length_set]
    exact hlP
  · show ((sR s).set i v).getD k 0 = -1 ∨ ∃ j, j ≤ 9 ∧ ((sR s).set i v).getD k 0 = nI j
    rw [sg (by omega)]
    split
    · exact hv9
    · exact hv.vR k
  · obtain ⟨g0, g1, g2, g3, g4, g5, g6, g7⟩ := hg
    refine ⟨by rw [List.length_set]; exact hl, fun k hk => ?_, fun k hk => ?_, ?_, fun e he => ?_, fun k hk => ?_, ?_, fun k hk => ?_⟩
    · rw [gs_ne (by omega)]
      exact g1 k hk
    · show _ = ((sR s).set i v).getD k 0
      rw [sg (by omega), sg (by omega), g2 k hk]
      by_cases hk2 : k = i
      · rw [if_pos (by omega), if_pos hk2]
      · rw [if_neg (by omega), if_neg hk2]
    · rw [gs_ne (by omega)]
      exact g3
    · rw [gs_ne (by omega), gs_ne (by omega), gs_ne (by omega)]
      exact g4 e he
    · rw [gs_ne (by omega)]
      exact g5 k hk
    · rw [gs_ne (by omega)]
      exact g6
    · rw [gs_ne (by omega)]
      exact g7 k hk
  · rw [gs_ne (by omega)]
def sset (s : kS) (i : Nat) (v : Int32) : kS := (sP s, sR s, sS s, sX s, (sT s).set i v, s.2.2.2.2.2)
theorem Rl_set (hR : Rl s nw) {i : Nat} (hi : i < 3) {v : Int32} {j : Nat} (hj : j ≤ (if i = 0 then 3 else if i = 1 then 9 else 99)) (ej : v = nI j) : Rl (sset s i v) (nw.set (115 + i) v) := by
  obtain ⟨hv, hg, _⟩ := id hR
  have hl := hg.1
  have hlT := hv.lT
  refine Rl_of hR ⟨⟨⟨hv.1.1.1, hv.1.1.2.1, hv.1.1.2.2.1, hv.1.1.2.2.2.1, ?_⟩, hv.1.2⟩, hv.2.1, hv.2.2.1, hv.2.2.2.1, hv.2.2.2.2.1, ⟨?_, ?_, ?_⟩, hv.2.2.2.2.2.2⟩ ?_ rfl rfl rfl rfl (Nat.le_refl _) (fun k hk => ?_) rfl (Nat.le_refl _) (fun _ _ => rfl)
  · show (List.set _ _ _).length = _
    rw [List.length_set]
    exact hlT
  · show ∃ j, j ≤ 3 ∧ ((sT s).set i v).getD 0 0 = nI j
    rw [sg (by omega)]
    split
    · rename_i z
      rw [if_pos z.symm] at hj
      exact ⟨j, hj, ej⟩
    · exact hv.vT0
  · show ∃ j, j ≤ 9 ∧ ((sT s).set i v).getD 1 0 = nI j
    rw [sg (by omega)]
    split
    · rename_i z
      rw [if_neg (by omega), if_pos z.symm] at hj
      exact ⟨j, hj, ej⟩
    · exact hv.vT1
  · show ∃ j, j ≤ 99 ∧ ((sT s).set i v).getD 2 0 = nI j
    rw [sg (by omega)]
    split
    · rename_i z
      rw [if_neg (by omega), if_neg (by omega)] at hj
      exact ⟨j, hj, ej⟩
    · exact hv.vT2
  · obtain ⟨g0, g1, g2, g3, g4, g5, g6, g7⟩ := hg
    refine ⟨by rw [List.length_set]; exact hl, fun k hk => ?_, fun k hk => ?_, ?_, fun e he => ?_, fun k hk => ?_, ?_, fun k hk => ?_⟩
    · rw [gs_ne (by omega)]
      exact g1 k hk
    · rw [gs_ne (by omega)]
      exact g2 k hk
    · rw [gs_ne (by omega)]
      exact g3
    · rw [gs_ne (by omega), gs_ne (by omega), gs_ne (by omega)]
      exact g4 e he
    · show _ = ((sT s).set i v).getD k 0
      rw [sg (by omega), sg (by omega), g5 k hk]
      by_cases hk2 : k = i
      · rw [if_pos (by omega), if_pos hk2]
      · rw [if_neg (by omega), if_neg hk2]
    · rw [gs_ne (by omega)]
      exact g6
    · rw [gs_ne (by omega)]
      exact g7 k hk
  · rw [gs_ne (by omega)]
/-- an entry more -/
def sadd (s : kS) (a b c : Int32) : kS := (sP s, sR s, ((sS s).set (2 * sne s) a).set (2 * sne s + 1) b, (sX s).set (sne s) c, sT s, nI (sne s + 1), s.2.2.2.2.2.2)
def nadd (s : kS) (nw : List Int32) (a b c : Int32) : List Int32 := (((nw.set (79 + 3 * sne s) a).set (79 + 3 * sne s + 1) b).set (79 + 3 * sne s + 2) c).set 78 (nI (sne s + 1))
theorem Rl_add (hR : Rl s nw) (hn : sne s < 12) {a b c : Int32} (ha : ∃ j, j < 6 ∧ a = nI j) (hb : b = -1 ∨ ∃ j, j < 6 ∧ b = nI j) (hc : ∃ j, j ≤ 9 ∧ c = nI j) : Rl (sadd s a b c) (nadd s nw a b c) := by
  obtain ⟨hv, hg, _⟩ := id hR
  have hl := hg.1
  have hlS := hv.lS
  have hlX := hv.lX
  have hse : sne (sadd s a b c) = sne s + 1 := nI_clamp (by omega)
  refine Rl_of hR ⟨⟨⟨hv.1.1.1, hv.1.1.2.1, ?_, ?_, hv.1.1.2.2.2.2⟩, hv.1.2⟩, hv.2.1, hv.2.2.1, fun k => ?_, fun k => ?_, hv.2.2.2.2.2.1, hv.2.2.2.2.2.2.1, hv.2.2.2.2.2.2.2.1, ?_⟩ ?_ rfl rfl rfl rfl (Nat.le_refl _) (fun k hk => ?_) rfl (by rw [hse]; omega) (fun i hi => by show (((sS s).set (2 * sne s) a).set (2 * sne s + 1) b).getD i 0 = _; rw [gs_ne (by omega), gs_ne (by omega)])
  · show (List.set (List.set _ _ _) _ _).length = _
    rw [List.length_set, List.length_set]
    exact hlS
  · show (List.set _ _ _).length = _
    rw [List.length_set]
    exact hlX
  · show (((sS s).set (2 * sne s) a).set (2 * sne s + 1) b).getD k 0 = -1 ∨ ∃ j, j < 6 ∧ (((sS s).set (2 * sne s) a).set (2 * sne s + 1) b).getD k 0 = nI j
    rw [sg (by rw [List.length_set]; omega), sg (by omega)]
    split
    · exact hb
    · split
      · exact Or.inr ha
      · exact hv.vS k
  · show ∃ j, j ≤ 9 ∧ ((sX s).set (sne s) c).getD k 0 = nI j
    rw [sg (by omega)]
    split
    · exact hc
    · exact hv.vX k
  · rw [hse]
    exact ⟨rfl, by omega⟩
  · obtain ⟨g0, g1, g2, g3, g4, g5, g6, g7⟩ := hg
    unfold nadd
    refine ⟨by simp only [List.length_set]; exact hl, fun k hk => ?_, fun k hk => ?_, ?_, fun e he => ⟨?_, ?_, ?_⟩, fun k hk => ?_, ?_, fun k hk => ?_⟩
    · rw [gs_ne (by omega), gs_ne (by omega), gs_ne (by omega), gs_ne (by omega)]
      exact g1 k hk
    · rw [gs_ne (by omega), gs_ne (by omega), gs_ne (by omega), gs_ne (by omega)]
      exact g2 k hk
    · rw [gs_eq (by simp only [List.length_set]; omega)]
      rfl
    · show _ = (((sS s).set (2 * sne s) a).set (2 * sne s + 1) b).getD (2 * e) 0
      rw [gs_ne (by omega), gs_ne (by omega), gs_ne (by omega), sg (by omega), gs_ne (by omega), sg (by omega), (g4 e he).1]
      by_cases h : e = sne s
      · rw [if_pos (by omega), if_pos (by omega)]
      · rw [if_neg (by omega), if_neg (by omega)]
    · show _ = (((sS s).set (2 * sne s) a).set (2 * sne s + 1) b).getD (2 * e + 1) 0
      rw [gs_ne (by omega), gs_ne (by omega), sg (by rw [List.length_set]; omega), gs_ne (by omega), sg (by rw [List.length_set]; omega), gs_ne (by omega), (g4 e he).2.1]
      by_cases h : e = sne s
      · rw [if_pos (by omega), if_pos (by omega)]
      · rw [if_neg (by omega), if_neg (by omega)]
    · show _ = ((sX s).set (sne s) c).getD e 0
      rw [gs_ne (by omega), sg (by simp only [List.length_set]; omega), gs_ne (by omega), gs_ne (by omega), sg (by omega), (g4 e he).2.2]
      by_cases h : e = sne s
      · rw [if_pos (by omega), if_pos h]
      · rw [if_neg (by omega), if_neg h]
    · rw [gs_ne (by omega), gs_ne (by omega), gs_ne (by omega), gs_ne (by omega)]
      exact g5 k hk
    · rw [gs_ne (by omega), gs_ne (by omega), gs_ne (by omega), gs_ne (by omega)]
      exact g6
    · rw [gs_ne (by omega), gs_ne (by omega), gs_ne (by omega), gs_ne (by omega)]
      exact g7 k hk
  · unfold nadd
    rw [gs_ne (by omega), gs_ne (by omega), gs_ne (by omega), gs_ne (by omega)]
/-- fewer words -/
def scnt (s : kS) (n : Nat) : kS := sput s (sen s) (sro s) (sco s) (sre s) (ssu s) (nI n)
theorem sn_cnt {n : Nat} (h : n ≤ 6) : sn (scnt s n) = n := nI_clamp (by omega)
theorem Rl_cnt (hR : Rl s nw) {n : Nat} (hn : n ≤ sn s) : Rl (scnt s n) (nw.set 118 (nI n)) := by
  obtain ⟨hv, hg, _⟩ := id hR
  have hl := hg.1
  have h6 := hv.n6
  refine Rl_of hR (sv_put (n := n) hv hv.len hv.lro hv.lco hv.lre hv.lsu hv.ven rfl (by omega)) ?_ rfl rfl rfl rfl (by rw [sn_cnt (by omega)]; exact hn) (fun k hk => ?_) rfl (Nat.le_refl _) (fun _ _ => rfl)
  · obtain ⟨g0, g1, g2, g3, g4, g5, g6, g7⟩ := hg
    refine ⟨by rw [List.length_set]; exact hl, fun k hk => ?_, fun k hk => ?_, ?_, fun e he => ?_, fun k hk => ?_, ?_, fun k hk => ?_⟩
    · rw [gs_ne (by omega)]
      exact g1 k hk
    · rw [gs_ne (by omega)]
      exact g2 k hk
    · rw [gs_ne (by omega)]
      exact g3
    · rw [gs_ne (by omega), gs_ne (by omega), gs_ne (by omega)]
      exact g4 e he
    · rw [gs_ne (by omega)]
      exact g5 k hk
    · rw [gs_eq (by omega)]
      rfl
    · rw [gs_ne (by omega)]
      exact g7 k hk
  · rw [gs_ne (by omega)]
end RLU
