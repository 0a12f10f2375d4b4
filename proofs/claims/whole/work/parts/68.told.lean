/-! type, clear, back, told -/
section SWI
variable {nm : Nat → String} {tf : Nat → Nat → FieldType} {fn : Nat → Nat} {Pg : List xM} {X : xR} {j : Nat} {rt : Option FieldType} {r : Option Value} {h' : xH} {is : List xI} {n a b pc : Nat} {ls : xL} {st : List Value} {h : xH}
theorem xr_tabin {d lo hi : Int} {offs : Array Int} {x : Int32} (v off : Int) (t : Nat) (hv : x.toInt = v) (h1 : ¬ (v < lo ∨ hi < v)) (ho : offs[(v - lo).toNat]? = some off) (ht : ((pc : Int) + off).toNat = t) (k : X j t ls st h r h') : x_ev nm tf fn Pg X j rt r h' ((.tableswitch d lo hi offs, n, a, b) :: is) pc ls (.int x :: st) h := by
  show (x.toInt < lo ∨ hi < x.toInt → X j ((pc : Int) + d).toNat ls st h r h') ∧ (¬ (x.toInt < lo ∨ hi < x.toInt) → ∃ off, offs[(x.toInt - lo).toNat]? = some off ∧ X j ((pc : Int) + off).toNat ls st h r h')
  rw [hv]
  exact ⟨fun z => absurd z h1, fun _ => ⟨off, ho, by rw [ht]; exact k⟩⟩
theorem xr_tabout {d lo hi : Int} {offs : Array Int} {x : Int32} (t : Nat) (h1 : x.toInt < lo ∨ hi < x.toInt) (ht : ((pc : Int) + d).toNat = t) (k : X j t ls st h r h') : x_ev nm tf fn Pg X j rt r h' ((.tableswitch d lo hi offs, n, a, b) :: is) pc ls (.int x :: st) h := by
  show (x.toInt < lo ∨ hi < x.toInt → X j ((pc : Int) + d).toNat ls st h r h') ∧ (¬ (x.toInt < lo ∨ hi < x.toInt) → ∃ off, offs[(x.toInt - lo).toNat]? = some off ∧ X j ((pc : Int) + off).toNat ls st h r h')
  exact ⟨fun _ => by rw [ht]; exact k, fun z => absurd h1 z⟩
theorem xr_look {d : Int} {ps : Array (Int × Int)} {x : Int32} (t : Nat) (ht : ((pc : Int) + Op.lookupswitch.offset ps.toList d x.toInt).toNat = t) (k : X j t ls st h r h') : x_ev nm tf fn Pg X j rt r h' ((.lookupswitch d ps, n, a, b) :: is) pc ls (.int x :: st) h := by
  show X j ((pc : Int) + Op.lookupswitch.offset ps.toList d x.toInt).toNat ls st h r h'
  rw [ht]
  exact k
end SWI
theorem notin_toInt {x M : Int32} {n : Nat} (hM : M = nI n) (hn : n < 2 ^ 31) (h : ¬ (0 ≤ x ∧ x ≤ M)) : x.toInt < 0 ∨ (n : Int) < x.toInt := by
  rw [hM, Int32.le_iff_toInt_le, Int32.le_iff_toInt_le, nI_toInt hn] at h
  have e0 : (0 : Int32).toInt = 0 := by decide
  omega
section PJ
variable {ys : List Int32} {h : xH} {s : kS} {k : kC} {sh : Nat → kS} {nx ct : Nat} {tx : List Int32} {ln : Int32} {rf : List Int32} {nw pa : List Int32} {sts byt : Int32} {x1 x2 x3 x4 : Int32} {j : Nat}
theorem cW.hsc (B : cW h s k sh nx ct tx ln rf) : ∃ kd fi cn nu : List Int32, ∃ nr at_ od : Int32, (kd.length = 120 ∧ fi.length = 120 ∧ cn.length = 120 ∧ nu.length = 120) ∧ x_hb h 115 (x_rc 115 tx kd fi cn nu nr at_ ln od) := B.2.2.2.2.2.2.1
/-- told -/
def tv (s : kS) (ct : Nat) (ln : Int32) (rf : List Int32) (i : Nat) : Int32 := if i < 3 then rf.getD i 0 else if i = 3 then sec s else if i < 7 then (sT s).getD (i - 4) 0 else if i = 7 then ln else nI ct
theorem c7_told (B : cW h s k sh nx ct tx ln rf) (hv : sv s) (hr : rf.length = 3) {i : Nat} (hi : i < 9) : xK 169 [.ref 2, .int (nI i)] h (some (.int (tv s ct ln rf i))) h := by
  obtain ⟨kd, fi, cn, nu, nr, at_, od, q, b7⟩ := B.hsc
  have iT : ∀ q, q < 3 → xin (nI q) (sT s).length := fun q hq => by rw [hv.lT]; exact x_in hq (by decide)
  have iR : ∀ q, q < 3 → xin (nI q) rf.length := fun q hq => by rw [hr]; exact x_in hq (by decide)
  refine xK_X7_told (B.hp 0 _ rfl) (xe_X7_told_0 ?_)
  (repeat (first | (simp only [xb_X7_told_0, xb_X7_told_52, xb_X7_told_59, xb_X7_told_66, xb_X7_told_73, xb_X7_told_84, xb_X7_told_97, xb_X7_told_110, xb_X7_told_123, xb_X7_told_131, xb_X7_told_139, xs_nil, Nat.reduceAdd, true_implies, not_true_eq_false, not_false_eq_true, false_implies, and_true, true_and, x_10, xs_iload_n_1, xs_aload_n_0, xs_iconst_0, xs_ireturn, xs_iconst_1, xs_iconst_2, xs_bipush_m2]) ))
  rcases (show i = 0 ∨ i = 1 ∨ i = 2 ∨ i = 3 ∨ i = 4 ∨ i = 5 ∨ i = 6 ∨ i = 7 ∨ i = 8 by omega) with rfl | rfl | rfl | rfl | rfl | rfl | rfl | rfl | rfl
  · refine xr_tabin 0 51 52 (by decide) (by decide) rfl rfl (xe_X7_told_52 ?_)
    (repeat (first | (simp only [xb_X7_told_0, xb_X7_told_52, xb_X7_told_59, xb_X7_told_66, xb_X7_told_73, xb_X7_told_84, xb_X7_told_97, xb_X7_told_110, xb_X7_told_123, xb_X7_told_131, xb_X7_told_139, xs_nil, Nat.reduceAdd, true_implies, not_true_eq_false, not_false_eq_true, false_implies, and_true, true_and, x_10, xs_iload_n_1, xs_aload_n_0, xs_iconst_0, xs_ireturn, xs_iconst_1, xs_iconst_2, xs_bipush_m2]) | (refine xr_getf (B.hp 0 _ rfl) (by rfl) ?_) | (refine xr_getf (B.hs 0 _ rfl) (by rfl) ?_) | (refine xr_getf (B.hs 1 _ rfl) (by rfl) ?_) | (refine xr_getf (B.hs 7 _ rfl) (by rfl) ?_) | (refine xr_iaload (B.hrf 0 _ rfl) (iR 0 (by decide)) ?_)))
    (first | exact ⟨Or.inl trivial, rfl⟩ | exact ⟨Or.inl trivial, rfl, rfl⟩ | (simp; done) | exact ⟨by simp, rfl⟩ | exact ⟨by simp, rfl, rfl⟩ | rfl)
  · refine xr_tabin 1 58 59 (by decide) (by decide) rfl rfl (xe_X7_told_59 ?_)
    (repeat (first | (simp only [xb_X7_told_0, xb_X7_told_52, xb_X7_told_59, xb_X7_told_66, xb_X7_told_73, xb_X7_told_84, xb_X7_told_97, xb_X7_told_110, xb_X7_told_123, xb_X7_told_131, xb_X7_told_139, xs_nil, Nat.reduceAdd, true_implies, not_true_eq_false, not_false_eq_true, false_implies, and_true, true_and, x_10, xs_iload_n_1, xs_aload_n_0, xs_iconst_0, xs_ireturn, xs_iconst_1, xs_iconst_2, xs_bipush_m2]) | (refine xr_getf (B.hp 0 _ rfl) (by rfl) ?_) | (refine xr_getf (B.hs 0 _ rfl) (by rfl) ?_) | (refine xr_getf (B.hs 1 _ rfl) (by rfl) ?_) | (refine xr_getf (B.hs 7 _ rfl) (by rfl) ?_) | (refine xr_iaload (B.hrf 0 _ rfl) (iR 1 (by decide)) ?_)))
    (first | exact ⟨Or.inl trivial, rfl⟩ | exact ⟨Or.inl trivial, rfl, rfl⟩ | (simp; done) | exact ⟨by simp, rfl⟩ | exact ⟨by simp, rfl, rfl⟩ | rfl)
  · refine xr_tabin 2 65 66 (by decide) (by decide) rfl rfl (xe_X7_told_66 ?_)
    (repeat (first | (simp only [xb_X7_told_0, xb_X7_told_52, xb_X7_told_59, xb_X7_told_66, xb_X7_told_73, xb_X7_told_84, xb_X7_told_97, xb_X7_told_110, xb_X7_told_123, xb_X7_told_131, xb_X7_told_139, xs_nil, Nat.reduceAdd, true_implies, not_true_eq_false, not_false_eq_true, false_implies, and_true, true_and, x_10, xs_iload_n_1, xs_aload_n_0, xs_iconst_0, xs_ireturn, xs_iconst_1, xs_iconst_2, xs_bipush_m2]) | (refine xr_getf (B.hp 0 _ rfl) (by rfl) ?_) | (refine xr_getf (B.hs 0 _ rfl) (by rfl) ?_) | (refine xr_getf (B.hs 1 _ rfl) (by rfl) ?_) | (refine xr_getf (B.hs 7 _ rfl) (by rfl) ?_) | (refine xr_iaload (B.hrf 0 _ rfl) (iR 2 (by decide)) ?_)))
    (first | exact ⟨Or.inl trivial, rfl⟩ | exact ⟨Or.inl trivial, rfl, rfl⟩ | (simp; done) | exact ⟨by simp, rfl⟩ | exact ⟨by simp, rfl, rfl⟩ | rfl)
  · refine xr_tabin 3 72 73 (by decide) (by decide) rfl rfl (xe_X7_told_73 ?_)
    (repeat (first | (simp only [xb_X7_told_0, xb_X7_told_52, xb_X7_told_59, xb_X7_told_66, xb_X7_told_73, xb_X7_told_84, xb_X7_told_97, xb_X7_told_110, xb_X7_told_123, xb_X7_told_131, xb_X7_told_139, xs_nil, Nat.reduceAdd, true_implies, not_true_eq_false, not_false_eq_true, false_implies, and_true, true_and, x_10, xs_iload_n_1, xs_aload_n_0, xs_iconst_0, xs_ireturn, xs_iconst_1, xs_iconst_2, xs_bipush_m2]) | (refine xr_getf (B.hp 0 _ rfl) (by rfl) ?_) | (refine xr_getf (B.hs 0 _ rfl) (by rfl) ?_) | (refine xr_getf (B.hs 1 _ rfl) (by rfl) ?_) | (refine xr_getf (B.hs 7 _ rfl) (by rfl) ?_)))
    (first | exact ⟨Or.inl trivial, rfl⟩ | exact ⟨Or.inl trivial, rfl, rfl⟩ | (simp; done) | exact ⟨by simp, rfl⟩ | exact ⟨by simp, rfl, rfl⟩ | rfl)
  · refine xr_tabin 4 83 84 (by decide) (by decide) rfl rfl (xe_X7_told_84 ?_)
    (repeat (first | (simp only [xb_X7_told_0, xb_X7_told_52, xb_X7_told_59, xb_X7_told_66, xb_X7_told_73, xb_X7_told_84, xb_X7_told_97, xb_X7_told_110, xb_X7_told_123, xb_X7_told_131, xb_X7_told_139, xs_nil, Nat.reduceAdd, true_implies, not_true_eq_false, not_false_eq_true, false_implies, and_true, true_and, x_10, xs_iload_n_1, xs_aload_n_0, xs_iconst_0, xs_ireturn, xs_iconst_1, xs_iconst_2, xs_bipush_m2]) | (refine xr_getf (B.hp 0 _ rfl) (by rfl) ?_) | (refine xr_getf (B.hs 0 _ rfl) (by rfl) ?_) | (refine xr_getf (B.hs 1 _ rfl) (by rfl) ?_) | (refine xr_getf (B.hs 7 _ rfl) (by rfl) ?_) | (refine xr_iaload (B.hs 6 _ rfl) (iT 0 (by decide)) ?_)))
    (first | exact ⟨Or.inl trivial, rfl⟩ | exact ⟨Or.inl trivial, rfl, rfl⟩ | (simp; done) | exact ⟨by simp, rfl⟩ | exact ⟨by simp, rfl, rfl⟩ | rfl)
  · refine xr_tabin 5 96 97 (by decide) (by decide) rfl rfl (xe_X7_told_97 ?_)
    (repeat (first | (simp only [xb_X7_told_0, xb_X7_told_52, xb_X7_told_59, xb_X7_told_66, xb_X7_told_73, xb_X7_told_84, xb_X7_told_97, xb_X7_told_110, xb_X7_told_123, xb_X7_told_131, xb_X7_told_139, xs_nil, Nat.reduceAdd, true_implies, not_true_eq_false, not_false_eq_true, false_implies, and_true, true_and, x_10, xs_iload_n_1, xs_aload_n_0, xs_iconst_0, xs_ireturn, xs_iconst_1, xs_iconst_2, xs_bipush_m2]) | (refine xr_getf (B.hp 0 _ rfl) (by rfl) ?_) | (refine xr_getf (B.hs 0 _ rfl) (by rfl) ?_) | (refine xr_getf (B.hs 1 _ rfl) (by rfl) ?_) | (refine xr_getf (B.hs 7 _ rfl) (by rfl) ?_) | (refine xr_iaload (B.hs 6 _ rfl) (iT 1 (by decide)) ?_)))
    (first | exact ⟨Or.inl trivial, rfl⟩ | exact ⟨Or.inl trivial, rfl, rfl⟩ | (simp; done) | exact ⟨by simp, rfl⟩ | exact ⟨by simp, rfl, rfl⟩ | rfl)
  · refine xr_tabin 6 109 110 (by decide) (by decide) rfl rfl (xe_X7_told_110 ?_)
    (repeat (first | (simp only [xb_X7_told_0, xb_X7_told_52, xb_X7_told_59, xb_X7_told_66, xb_X7_told_73, xb_X7_told_84, xb_X7_told_97, xb_X7_told_110, xb_X7_told_123, xb_X7_told_131, xb_X7_told_139, xs_nil, Nat.reduceAdd, true_implies, not_true_eq_false, not_false_eq_true, false_implies, and_true, true_and, x_10, xs_iload_n_1, xs_aload_n_0, xs_iconst_0, xs_ireturn, xs_iconst_1, xs_iconst_2, xs_bipush_m2]) | (refine xr_getf (B.hp 0 _ rfl) (by rfl) ?_) | (refine xr_getf (B.hs 0 _ rfl) (by rfl) ?_) | (refine xr_getf (B.hs 1 _ rfl) (by rfl) ?_) | (refine xr_getf (B.hs 7 _ rfl) (by rfl) ?_) | (refine xr_iaload (B.hs 6 _ rfl) (iT 2 (by decide)) ?_)))
    (first | exact ⟨Or.inl trivial, rfl⟩ | exact ⟨Or.inl trivial, rfl, rfl⟩ | (simp; done) | exact ⟨by simp, rfl⟩ | exact ⟨by simp, rfl, rfl⟩ | rfl)
  · refine xr_tabin 7 122 123 (by decide) (by decide) rfl rfl (xe_X7_told_123 ?_)
    (repeat (first | (simp only [xb_X7_told_0, xb_X7_told_52, xb_X7_told_59, xb_X7_told_66, xb_X7_told_73, xb_X7_told_84, xb_X7_told_97, xb_X7_told_110, xb_X7_told_123, xb_X7_told_131, xb_X7_told_139, xs_nil, Nat.reduceAdd, true_implies, not_true_eq_false, not_false_eq_true, false_implies, and_true, true_and, x_10, xs_iload_n_1, xs_aload_n_0, xs_iconst_0, xs_ireturn, xs_iconst_1, xs_iconst_2, xs_bipush_m2]) | (refine xr_getf (B.hp 0 _ rfl) (by rfl) ?_) | (refine xr_getf (B.hs 0 _ rfl) (by rfl) ?_) | (refine xr_getf (B.hs 1 _ rfl) (by rfl) ?_) | (refine xr_getf (B.hs 7 _ rfl) (by rfl) ?_) | (refine xr_getf (b7 0 _ rfl) (by rfl) ?_)))
    (first | exact ⟨Or.inl trivial, rfl⟩ | exact ⟨Or.inl trivial, rfl, rfl⟩ | (simp; done) | exact ⟨by simp, rfl⟩ | exact ⟨by simp, rfl, rfl⟩ | rfl)
  · refine xr_tabin 8 130 131 (by decide) (by decide) rfl rfl (xe_X7_told_131 ?_)
    (repeat (first | (simp only [xb_X7_told_0, xb_X7_told_52, xb_X7_told_59, xb_X7_told_66, xb_X7_told_73, xb_X7_told_84, xb_X7_told_97, xb_X7_told_110, xb_X7_told_123, xb_X7_told_131, xb_X7_told_139, xs_nil, Nat.reduceAdd, true_implies, not_true_eq_false, not_false_eq_true, false_implies, and_true, true_and, x_10, xs_iload_n_1, xs_aload_n_0, xs_iconst_0, xs_ireturn, xs_iconst_1, xs_iconst_2, xs_bipush_m2]) | (refine xr_getf (B.hp 0 _ rfl) (by rfl) ?_) | (refine xr_getf (B.hs 0 _ rfl) (by rfl) ?_) | (refine xr_getf (B.hs 1 _ rfl) (by rfl) ?_) | (refine xr_getf (B.hs 7 _ rfl) (by rfl) ?_) | (refine xr_getf (B.hsh 0 _ rfl) (by rfl) ?_)))
    (first | exact ⟨Or.inl trivial, rfl⟩ | exact ⟨Or.inl trivial, rfl, rfl⟩ | (simp; done) | exact ⟨by simp, rfl⟩ | exact ⟨by simp, rfl, rfl⟩ | rfl)
theorem m8_toldOf (M : mW h nw pa (nI ct) rf tx byt) (hR : Rl s nw) (hr : rf.length = 3) {i : Nat} (hi : i < 9) : xK 170 [.ref 122, .int (nI i)] h (some (.int (tv s ct byt rf i))) h := by
  obtain ⟨z, hz, hb⟩ := M
  have hl := hR.2.1.1
  have c := c_toldOf (x1 := nI i) hb (fun z => by
      have := (nI_ltI (a := i) (b := 3) (by omega) (by decide)).mp z
      rw [hr]
      exact x_in this (by decide)) (by rw [hl]; exact x_in (k := 78) (by decide) (by decide)) (fun a b c => by
      have h1 : ¬ i < 3 := fun z => a ((nI_ltI (a := i) (b := 3) (by omega) (by decide)).mpr z)
      have h2 := (nI_ltI (a := i) (b := 7) (by omega) (by decide)).mp c
      have e : (115 : Int32) + nI i - 4 = nI (111 + i) := by
        rw [show (115 : Int32) = nI 115 from rfl, nI_add, show (4 : Int32) = nI 4 from rfl, pk_sub (by omega)]
        congr 1
        omega
      rw [e, hl]
      exact x_in (by omega) (by decide))
  have eq : (if 3 ≤ nI i then (if nI i = 3 then xg nw 78 else if 7 ≤ nI i then (if nI i = 7 then byt else nI ct) else xg nw (115 + nI i - 4)) else xg rf (nI i)) = tv s ct byt rf i := by
    have gT := hR.2.1.2.2.2.2.2.1
    rw [hR.e78, ← hR.1.ec]
    rcases (show i = 0 ∨ i = 1 ∨ i = 2 ∨ i = 3 ∨ i = 4 ∨ i = 5 ∨ i = 6 ∨ i = 7 ∨ i = 8 by omega) with rfl | rfl | rfl | rfl | rfl | rfl | rfl | rfl | rfl
    · rfl
    · rfl
    · rfl
    · rfl
    · exact gT 0 (by decide)
    · exact gT 1 (by decide)
    · exact gT 2 (by decide)
    · rfl
    · rfl
  rw [eq] at c
  exact c
theorem t_told (B : BR ys h) : TC ys h 169 171 [.int x1] := by
  obtain ⟨s, k, sh, nx, ct, tx, ln, rf, nw, pa, L, C, M, I⟩ := B
  obtain ⟨i1, i2, i3, i6, i7, i8, i9⟩ := id I
  by_cases hc : 0 ≤ x1 ∧ x1 ≤ 8
  · obtain ⟨i, hi, rfl⟩ := nI_rngle (n := 8) rfl (by decide) hc.1 hc.2
    refine TC_mk L ⟨h, c7_told C i1.1 i9 (by omega), C, cF.refl h⟩ (fun h1 F => ⟨h1, ?_, M.cF F, mF.refl h1⟩) I
    have c := m8_toldOf (M.cF F) i1 i9 (i := i) (by omega)
    obtain ⟨fs, h0⟩ := (M.cF F).h0
    have c1 := c_in (x1 := nI i) (x2 := 0) (x3 := 8) (h := h1)
    rw [if_pos hc] at c1
    refine xK_X8_told h0 (xe_X8_told_0 ?_)
    (repeat (first | (simp only [xb_X8_told_0, xb_X8_told_18, xb_X8_told_22, xs_nil, Nat.reduceAdd, true_implies, not_true_eq_false, not_false_eq_true, false_implies, and_true, true_and, x_10, xs_iload_n_1, xs_iconst_0, xs_bipush_8, xs_if_eq, xs_aload_n_0, xs_goto, xs_ireturn]) | refine xc_s3_1 (by decide) (c1) (Nat.le_of_ble_eq_true rfl) ?_ | refine xc_v2_1 (c) (Nat.le_of_ble_eq_true rfl) ?_))
    refine xe_X8_told_22 ?_
    (repeat (first | (simp only [xb_X8_told_0, xb_X8_told_18, xb_X8_told_22, xs_nil, Nat.reduceAdd, true_implies, not_true_eq_false, not_false_eq_true, false_implies, and_true, true_and, x_10, xs_iload_n_1, xs_iconst_0, xs_bipush_8, xs_if_eq, xs_aload_n_0, xs_goto, xs_ireturn]) ))
    (first | exact ⟨Or.inl trivial, rfl⟩ | exact ⟨Or.inl trivial, rfl, rfl⟩ | (simp; done) | exact ⟨by simp, rfl⟩ | exact ⟨by simp, rfl, rfl⟩ | rfl)
  · refine TC_mk (r := .int (-2)) L ?_ (fun h1 F => ?_) (INV_rf (i := 0) I)
    · obtain ⟨h1, p1, B1, F1⟩ := c7_bad C i9
      refine ⟨h1, ?_, B1, F1⟩
      refine xK_X7_told (C.hp 0 _ rfl) (xe_X7_told_0 ?_)
      (repeat (first | (simp only [xb_X7_told_0, xb_X7_told_52, xb_X7_told_59, xb_X7_told_66, xb_X7_told_73, xb_X7_told_84, xb_X7_told_97, xb_X7_told_110, xb_X7_told_123, xb_X7_told_131, xb_X7_told_139, xs_nil, Nat.reduceAdd, true_implies, not_true_eq_false, not_false_eq_true, false_implies, and_true, true_and, x_10, xs_iload_n_1, xs_aload_n_0, xs_iconst_0, xs_ireturn, xs_iconst_1, xs_iconst_2, xs_bipush_m2]) ))
      refine xr_tabout 139 (notin_toInt (n := 8) rfl (by decide) hc) rfl (xe_X7_told_139 ?_)
      (repeat (first | (simp only [xb_X7_told_0, xb_X7_told_52, xb_X7_told_59, xb_X7_told_66, xb_X7_told_73, xb_X7_told_84, xb_X7_told_97, xb_X7_told_110, xb_X7_told_123, xb_X7_told_131, xb_X7_told_139, xs_nil, Nat.reduceAdd, true_implies, not_true_eq_false, not_false_eq_true, false_implies, and_true, true_and, x_10, xs_iload_n_1, xs_aload_n_0, xs_iconst_0, xs_ireturn, xs_iconst_1, xs_iconst_2, xs_bipush_m2]) | refine xc_v2_1 (p1) (Nat.le_of_ble_eq_true rfl) ?_))
      (first | exact ⟨Or.inl trivial, rfl⟩ | exact ⟨Or.inl trivial, rfl, rfl⟩ | (simp; done) | exact ⟨by simp, rfl⟩ | exact ⟨by simp, rfl, rfl⟩ | rfl)
    · have M := M.cF F
      obtain ⟨fs, h0⟩ := M.h0
      obtain ⟨h2, p1, M1, F1⟩ := m8_bad M i9
      refine ⟨h2, ?_, M1, F1⟩
      have c1 := c_in (x1 := x1) (x2 := 0) (x3 := 8) (h := h1)
      rw [if_neg hc] at c1
      refine xK_X8_told h0 (xe_X8_told_0 ?_)
      (repeat (first | (simp only [xb_X8_told_0, xb_X8_told_18, xb_X8_told_22, xs_nil, Nat.reduceAdd, true_implies, not_true_eq_false, not_false_eq_true, false_implies, and_true, true_and, x_10, xs_iload_n_1, xs_iconst_0, xs_bipush_8, xs_if_eq, xs_aload_n_0, xs_goto, xs_ireturn]) | refine xc_s3_1 (by decide) (c1) (Nat.le_of_ble_eq_true rfl) ?_))
      refine xe_X8_told_18 ?_
      (repeat (first | (simp only [xb_X8_told_0, xb_X8_told_18, xb_X8_told_22, xs_nil, Nat.reduceAdd, true_implies, not_true_eq_false, not_false_eq_true, false_implies, and_true, true_and, x_10, xs_iload_n_1, xs_iconst_0, xs_bipush_8, xs_if_eq, xs_aload_n_0, xs_goto, xs_ireturn]) | refine xc_v1_1 (p1) (Nat.le_of_ble_eq_true rfl) ?_))
      refine xe_X8_told_22 ?_
      (repeat (first | (simp only [xb_X8_told_0, xb_X8_told_18, xb_X8_told_22, xs_nil, Nat.reduceAdd, true_implies, not_true_eq_false, not_false_eq_true, false_implies, and_true, true_and, x_10, xs_iload_n_1, xs_iconst_0, xs_bipush_8, xs_if_eq, xs_aload_n_0, xs_goto, xs_ireturn]) ))
      (first | exact ⟨Or.inl trivial, rfl⟩ | exact ⟨Or.inl trivial, rfl, rfl⟩ | (simp; done) | exact ⟨by simp, rfl⟩ | exact ⟨by simp, rfl, rfl⟩ | rfl)
/-- back -/
theorem c7_pop {c : Nat} (B : cW h s k sh nx (c + 1) tx ln rf) (hnx : nx < 6) (hct : c + 1 ≤ 6) (hs : svl s) : ∃ h1, xK 166 [.ref 29, .ref 3] h none h1 ∧ cW h1 (sh ((nx + 5) % 6)) k sh ((nx + 5) % 6) c tx ln rf ∧ cF h h1 := by
  have hm := Nat.mod_lt (nx + 5) (show 0 < 6 by decide)
  have p1 := c_pop (q := 29) (p := 3) (s := s) (o := sh ((nx + 5) % 6)) B.hsh hnx (by omega) hct (B.hsl hm).2 B.hs (Or.inl (by decide)) (by decide) (by decide) (B.hsl hm).1 hs
  rw [Nat.add_sub_cancel] at p1
  obtain ⟨B1, F1⟩ := B.shelf ((nx + 5) % 6) c
  obtain ⟨B2, F2⟩ := B1.now (sh ((nx + 5) % 6))
  exact ⟨_, p1, B2, F1.trans F2⟩
theorem t_back (B : BR ys h) : TC ys h 167 168 [] := by
  obtain ⟨s, k, sh, nx, ct, tx, ln, rf, nw, pa, L, C, M, I⟩ := B
  obtain ⟨i1, i2, ⟨i3, i4, i5⟩, i6, i7, i8, i9⟩ := id I
  have hl := i1.2.1.1
  have B := C
  by_cases h0 : ct = 0
  · subst h0
    refine TC_mk (r := .int (-3)) L ?_ (fun h1 F => ?_) (INV_rf (i := 1) I)
    · obtain ⟨h1, p1, B1, F1⟩ := c7_no C i9
      refine ⟨h1, ?_, B1, F1⟩
      refine xK_X7_back (B.hp 0 _ rfl) (xe_X7_back_0 ?_)
      (repeat (first | (simp only [xb_X7_back_0, xb_X7_back_17, xs_nil, Nat.reduceAdd, true_implies, not_true_eq_false, not_false_eq_true, false_implies, and_true, true_and, x_10, xs_aload_n_0, xs_if_ne, xs_bipush_m3, xs_ireturn]) | (refine xr_getf (B.hp 0 _ rfl) (by rfl) ?_) | (refine xr_getf (B.hs 0 _ rfl) (by rfl) ?_) | (refine xr_getf (B.hs 1 _ rfl) (by rfl) ?_) | (refine xr_getf (B.hs 7 _ rfl) (by rfl) ?_) | (refine xr_getf (B.hsh 0 _ rfl) (by rfl) ?_)))
      refine ⟨fun z => absurd rfl z, fun _ => ?_⟩
      (repeat (first | (simp only [xb_X7_back_0, xb_X7_back_17, xs_nil, Nat.reduceAdd, true_implies, not_true_eq_false, not_false_eq_true, false_implies, and_true, true_and, x_10, xs_aload_n_0, xs_if_ne, xs_bipush_m3, xs_ireturn]) | refine xc_v2_1 (p1) (Nat.le_of_ble_eq_true rfl) ?_))
      (first | exact ⟨Or.inl trivial, rfl⟩ | exact ⟨Or.inl trivial, rfl, rfl⟩ | (simp; done) | exact ⟨by simp, rfl⟩ | exact ⟨by simp, rfl, rfl⟩ | rfl)
    · have M := M.cF F
      have h := h1
      obtain ⟨z, hz, hb⟩ := M
      have A := xA.of hb (Nat.zero_lt_succ _)
      have c := c_mback0 hb (by decide) i9
      obtain ⟨M1, F1⟩ := mW_A (nw' := nw) (pa' := pa) (sts' := 0) (rf' := rfi rf 1) (tx' := tx) (byt' := nI ln) (z' := z) hz (A.on rfl)
      exact ⟨_, c, M1, F1⟩
  · obtain ⟨c, rfl⟩ : ∃ c, ct = c + 1 := ⟨ct - 1, by omega⟩
    refine TC_mk (r := .int (nI c)) L ?_ (fun h1 F => ?_) (INV_pop I)
    · obtain ⟨h1, p1, B2, F2⟩ := c7_pop B i3 i4 i1.1.1
      refine ⟨h1, ?_, B2, F2⟩
      refine xK_X7_back (B.hp 0 _ rfl) (xe_X7_back_0 ?_)
      (repeat (first | (simp only [xb_X7_back_0, xb_X7_back_17, xs_nil, Nat.reduceAdd, true_implies, not_true_eq_false, not_false_eq_true, false_implies, and_true, true_and, x_10, xs_aload_n_0, xs_if_ne, xs_bipush_m3, xs_ireturn]) | (refine xr_getf (B.hp 0 _ rfl) (by rfl) ?_) | (refine xr_getf (B.hs 0 _ rfl) (by rfl) ?_) | (refine xr_getf (B.hs 1 _ rfl) (by rfl) ?_) | (refine xr_getf (B.hs 7 _ rfl) (by rfl) ?_) | (refine xr_getf (B.hsh 0 _ rfl) (by rfl) ?_)))
      refine ⟨fun _ => ?_, fun z => absurd (nI_ne0 (by omega) (by omega)) z⟩
      refine xe_X7_back_17 ?_
      (repeat (first | (simp only [xb_X7_back_0, xb_X7_back_17, xs_nil, Nat.reduceAdd, true_implies, not_true_eq_false, not_false_eq_true, false_implies, and_true, true_and, x_10, xs_aload_n_0, xs_if_ne, xs_bipush_m3, xs_ireturn]) | (refine xr_getf (B.hp 0 _ rfl) (by rfl) ?_) | (refine xr_getf (B.hs 0 _ rfl) (by rfl) ?_) | (refine xr_getf (B.hs 1 _ rfl) (by rfl) ?_) | (refine xr_getf (B.hs 7 _ rfl) (by rfl) ?_) | refine xc_v2_0 (p1) (Nat.le_of_ble_eq_true rfl) ?_ | (refine xr_getf (B2.hp 0 _ rfl) (by rfl) ?_) | (refine xr_getf (B2.hsh 0 _ rfl) (by rfl) ?_)))
      (first | exact ⟨Or.inl trivial, rfl⟩ | exact ⟨Or.inl trivial, rfl, rfl⟩ | (simp; done) | exact ⟨by simp, rfl⟩ | exact ⟨by simp, rfl, rfl⟩ | rfl)
    · have M := M.cF F
      obtain ⟨z, hz, hb⟩ := M
      have A := xA.of hb (Nat.zero_lt_succ _)
      have c2 := c_mback (c := c) hb (by decide) (by omega) i6 hl
      obtain ⟨M1, F1⟩ := mW_A (nw' := prow pa c) (pa' := pa) (sts' := nI c) (rf' := rf) (tx' := tx) (byt' := nI ln) (z' := z) hz (A.on rfl)
      exact ⟨_, c2, M1, F1⟩
/-- type -/
theorem INV_tx {s : kS} {k : kC} {sh : Nat → kS} {nx ct : Nat} {tx : List Int32} {ln : Nat} {rf nw pa : List Int32} (I : INV s k sh nx ct tx ln rf nw pa) {tx' : List Int32} {ln' : Nat} (h1 : tx'.length = 120) (h2 : ln' ≤ 120) : INV s k sh nx ct tx' ln' rf nw pa := by
  obtain ⟨i1, i2, i3, i6, i7, i8, i9⟩ := I
  exact ⟨i1, i2, i3, i6, h1, h2, i9⟩
theorem t_type (B : BR ys h) : TC ys h 133 134 [.int x1] := by
  obtain ⟨s, k, sh, nx, ct, tx, ln, rf, nw, pa, L, C, M, I⟩ := B
  obtain ⟨i1, i2, i3, i6, i7, i8, i9⟩ := id I
  have B := C
  obtain ⟨kd, fi, cn, nu, nr, at_, od, q, b7⟩ := B.hsc
  by_cases hc : 0 ≤ x1 ∧ x1 ≤ 127
  · by_cases hln : ln < 120
    · refine TC_mk (r := .int (nI (ln + 1))) (tx' := tx.set ln x1) (ln' := ln + 1) L ?_ (fun h1 F => ?_) (INV_tx I (by rw [List.length_set]; exact i7) (by omega))
      · have p1 := c_append (x1 := x1) b7 (by decide) (by rw [i7]; exact x_in hln (by decide)) (nI_lt (b := 120) hln (by decide))
        rw [xu_n (by omega), nI_1] at p1
        obtain ⟨B1, F1⟩ := B.script (tx' := tx.set ln x1) (nr' := nr) (at' := at_) (ln' := nI (ln + 1)) (od' := od) q
        have hb1 := x_hb_wr (h := h) (g := 115) (cs := x_rc 115 (tx.set ln x1) kd fi cn nu nr at_ (nI (ln + 1)) od) (b7.fit (Nat.zero_lt_succ _))
        refine ⟨_, ?_, B1, F1⟩
        refine xK_X7_type (B.hp 0 _ rfl) (xe_X7_type_0 ?_)
        (repeat (first | (simp only [xb_X7_type_0, xb_X7_type_10, xb_X7_type_17, xb_X7_type_36, xs_nil, Nat.reduceAdd, true_implies, not_true_eq_false, not_false_eq_true, false_implies, and_true, true_and, x_10, xs_iload_n_1, xs_if_lt, xs_bipush_127, xs_icmp_le, xs_aload_n_0, xs_bipush_m2, xs_ireturn, xs_bipush_120, xs_icmp_lt, xs_bipush_m4]) ))
        refine ⟨fun z => absurd z (Int32.not_lt.mpr hc.1), fun _ => ?_⟩
        (repeat (first | (simp only [xb_X7_type_0, xb_X7_type_10, xb_X7_type_17, xb_X7_type_36, xs_nil, Nat.reduceAdd, true_implies, not_true_eq_false, not_false_eq_true, false_implies, and_true, true_and, x_10, xs_iload_n_1, xs_if_lt, xs_bipush_127, xs_icmp_le, xs_aload_n_0, xs_bipush_m2, xs_ireturn, xs_bipush_120, xs_icmp_lt, xs_bipush_m4]) ))
        refine ⟨fun _ => ?_, fun z => absurd hc.2 z⟩
        refine xe_X7_type_17 ?_
        (repeat (first | (simp only [xb_X7_type_0, xb_X7_type_10, xb_X7_type_17, xb_X7_type_36, xs_nil, Nat.reduceAdd, true_implies, not_true_eq_false, not_false_eq_true, false_implies, and_true, true_and, x_10, xs_iload_n_1, xs_if_lt, xs_bipush_127, xs_icmp_le, xs_aload_n_0, xs_bipush_m2, xs_ireturn, xs_bipush_120, xs_icmp_lt, xs_bipush_m4]) | (refine xr_getf (B.hp 0 _ rfl) (by rfl) ?_) | (refine xr_getf (B.hs 0 _ rfl) (by rfl) ?_) | (refine xr_getf (B.hs 1 _ rfl) (by rfl) ?_) | (refine xr_getf (B.hs 7 _ rfl) (by rfl) ?_) | (refine xr_getf (b7 0 _ rfl) (by rfl) ?_)))
        refine ⟨fun _ => ?_, fun z => absurd (nI_lt (b := 120) hln (by decide)) z⟩
        refine xe_X7_type_36 ?_
        (repeat (first | (simp only [xb_X7_type_0, xb_X7_type_10, xb_X7_type_17, xb_X7_type_36, xs_nil, Nat.reduceAdd, true_implies, not_true_eq_false, not_false_eq_true, false_implies, and_true, true_and, x_10, xs_iload_n_1, xs_if_lt, xs_bipush_127, xs_icmp_le, xs_aload_n_0, xs_bipush_m2, xs_ireturn, xs_bipush_120, xs_icmp_lt, xs_bipush_m4]) | (refine xr_getf (B.hp 0 _ rfl) (by rfl) ?_) | (refine xr_getf (B.hs 0 _ rfl) (by rfl) ?_) | (refine xr_getf (B.hs 1 _ rfl) (by rfl) ?_) | (refine xr_getf (B.hs 7 _ rfl) (by rfl) ?_) | refine xc_v2_0 (p1) (Nat.le_of_ble_eq_true rfl) ?_ | (refine xr_getf (B1.hp 0 _ rfl) (by rfl) ?_) | (refine xr_getf (hb1 0 _ rfl) (by rfl) ?_)))
        (first | exact ⟨Or.inl trivial, rfl⟩ | exact ⟨Or.inl trivial, rfl, rfl⟩ | (simp; done) | exact ⟨by simp, rfl⟩ | exact ⟨by simp, rfl, rfl⟩ | rfl)
      · have M := M.cF F
        obtain ⟨z, hz, hb⟩ := M
        have A := xA.of hb (Nat.zero_lt_succ _)
        have c := c_mtype_ok (x1 := x1) hb (by decide) (by rw [i7]; exact x_in hln (by decide)) hc (fun e => absurd ((nI_eq (b := 120) (by omega) (by decide)).mp e) (by omega))
        rw [xu_n (by omega), nI_1] at c
        obtain ⟨M1, F1⟩ := mW_A (nw' := nw) (pa' := pa) (sts' := nI ct) (rf' := rf) (tx' := tx.set ln x1) (byt' := nI (ln + 1)) (z' := z) hz (A.on rfl)
        exact ⟨_, c, M1, F1⟩
    · have hln : ln = 120 := by omega
      subst hln
      refine TC_mk (r := .int (-4)) L ?_ (fun h1 F => ?_) (INV_rf (i := 2) I)
      · obtain ⟨h1, p1, B1, F1⟩ := c7_full C i9
        refine ⟨h1, ?_, B1, F1⟩
        refine xK_X7_type (B.hp 0 _ rfl) (xe_X7_type_0 ?_)
        (repeat (first | (simp only [xb_X7_type_0, xb_X7_type_10, xb_X7_type_17, xb_X7_type_36, xs_nil, Nat.reduceAdd, true_implies, not_true_eq_false, not_false_eq_true, false_implies, and_true, true_and, x_10, xs_iload_n_1, xs_if_lt, xs_bipush_127, xs_icmp_le, xs_aload_n_0, xs_bipush_m2, xs_ireturn, xs_bipush_120, xs_icmp_lt, xs_bipush_m4]) ))
        refine ⟨fun z => absurd z (Int32.not_lt.mpr hc.1), fun _ => ?_⟩
        (repeat (first | (simp only [xb_X7_type_0, xb_X7_type_10, xb_X7_type_17, xb_X7_type_36, xs_nil, Nat.reduceAdd, true_implies, not_true_eq_false, not_false_eq_true, false_implies, and_true, true_and, x_10, xs_iload_n_1, xs_if_lt, xs_bipush_127, xs_icmp_le, xs_aload_n_0, xs_bipush_m2, xs_ireturn, xs_bipush_120, xs_icmp_lt, xs_bipush_m4]) ))
        refine ⟨fun _ => ?_, fun z => absurd hc.2 z⟩
        refine xe_X7_type_17 ?_
        (repeat (first | (simp only [xb_X7_type_0, xb_X7_type_10, xb_X7_type_17, xb_X7_type_36, xs_nil, Nat.reduceAdd, true_implies, not_true_eq_false, not_false_eq_true, false_implies, and_true, true_and, x_10, xs_iload_n_1, xs_if_lt, xs_bipush_127, xs_icmp_le, xs_aload_n_0, xs_bipush_m2, xs_ireturn, xs_bipush_120, xs_icmp_lt, xs_bipush_m4]) | (refine xr_getf (B.hp 0 _ rfl) (by rfl) ?_) | (refine xr_getf (B.hs 0 _ rfl) (by rfl) ?_) | (refine xr_getf (B.hs 1 _ rfl) (by rfl) ?_) | (refine xr_getf (B.hs 7 _ rfl) (by rfl) ?_) | (refine xr_getf (b7 0 _ rfl) (by rfl) ?_)))
        refine ⟨fun z => absurd z (by decide), fun _ => ?_⟩
        (repeat (first | (simp only [xb_X7_type_0, xb_X7_type_10, xb_X7_type_17, xb_X7_type_36, xs_nil, Nat.reduceAdd, true_implies, not_true_eq_false, not_false_eq_true, false_implies, and_true, true_and, x_10, xs_iload_n_1, xs_if_lt, xs_bipush_127, xs_icmp_le, xs_aload_n_0, xs_bipush_m2, xs_ireturn, xs_bipush_120, xs_icmp_lt, xs_bipush_m4]) | refine xc_v2_1 (p1) (Nat.le_of_ble_eq_true rfl) ?_))
        (first | exact ⟨Or.inl trivial, rfl⟩ | exact ⟨Or.inl trivial, rfl, rfl⟩ | (simp; done) | exact ⟨by simp, rfl⟩ | exact ⟨by simp, rfl, rfl⟩ | rfl)
      · have M := M.cF F
        obtain ⟨z, hz, hb⟩ := M
        have A := xA.of hb (Nat.zero_lt_succ _)
        have c := c_mtype_full (x1 := x1) hb (by decide) (by rw [i9]; exact x_in (k := 2) (by decide) (by decide)) hc rfl
        obtain ⟨M1, F1⟩ := mW_A (nw' := nw) (pa' := pa) (sts' := nI ct) (rf' := rfi rf 2) (tx' := tx) (byt' := nI 120) (z' := z) hz (A.on rfl)
        exact ⟨_, c, M1, F1⟩
  · refine TC_mk (r := .int (-2)) L ?_ (fun h1 F => ?_) (INV_rf (i := 0) I)
    · obtain ⟨h1, p1, B1, F1⟩ := c7_bad C i9
      refine ⟨h1, ?_, B1, F1⟩
      have fin : x_EV 133 10 [some (.ref 2), some (.int x1)] [] h (some (.int (-2))) h1 := by
        refine xe_X7_type_10 ?_
        (repeat (first | (simp only [xb_X7_type_0, xb_X7_type_10, xb_X7_type_17, xb_X7_type_36, xs_nil, Nat.reduceAdd, true_implies, not_true_eq_false, not_false_eq_true, false_implies, and_true, true_and, x_10, xs_iload_n_1, xs_if_lt, xs_bipush_127, xs_icmp_le, xs_aload_n_0, xs_bipush_m2, xs_ireturn, xs_bipush_120, xs_icmp_lt, xs_bipush_m4]) | refine xc_v2_1 (p1) (Nat.le_of_ble_eq_true rfl) ?_))
        (first | exact ⟨Or.inl trivial, rfl⟩ | exact ⟨Or.inl trivial, rfl, rfl⟩ | (simp; done) | exact ⟨by simp, rfl⟩ | exact ⟨by simp, rfl, rfl⟩ | rfl)
      refine xK_X7_type (B.hp 0 _ rfl) (xe_X7_type_0 ?_)
      (repeat (first | (simp only [xb_X7_type_0, xb_X7_type_10, xb_X7_type_17, xb_X7_type_36, xs_nil, Nat.reduceAdd, true_implies, not_true_eq_false, not_false_eq_true, false_implies, and_true, true_and, x_10, xs_iload_n_1, xs_if_lt, xs_bipush_127, xs_icmp_le, xs_aload_n_0, xs_bipush_m2, xs_ireturn, xs_bipush_120, xs_icmp_lt, xs_bipush_m4]) ))
      refine ⟨fun _ => fin, fun z => ?_⟩
      (repeat (first | (simp only [xb_X7_type_0, xb_X7_type_10, xb_X7_type_17, xb_X7_type_36, xs_nil, Nat.reduceAdd, true_implies, not_true_eq_false, not_false_eq_true, false_implies, and_true, true_and, x_10, xs_iload_n_1, xs_if_lt, xs_bipush_127, xs_icmp_le, xs_aload_n_0, xs_bipush_m2, xs_ireturn, xs_bipush_120, xs_icmp_lt, xs_bipush_m4]) ))
      exact ⟨fun z2 => absurd ⟨Int32.not_lt.mp z, z2⟩ hc, fun _ => fin⟩
    · have M := M.cF F
      obtain ⟨z, hz, hb⟩ := M
      have A := xA.of hb (Nat.zero_lt_succ _)
      have c := c_mtype_bad (x1 := x1) hb (by decide) (by rw [i9]; exact x_in (k := 0) (by decide) (by decide)) hc
      obtain ⟨M1, F1⟩ := mW_A (nw' := nw) (pa' := pa) (sts' := nI ct) (rf' := rfi rf 0) (tx' := tx) (byt' := nI ln) (z' := z) hz (A.on rfl)
      exact ⟨_, c, M1, F1⟩
/-- clear -/
theorem t_clear (B : BR ys h) : TC ys h 135 136 [] := by
  obtain ⟨s, k, sh, nx, ct, tx, ln, rf, nw, pa, L, C, M, I⟩ := B
  obtain ⟨i1, i2, i3, i6, i7, i8, i9⟩ := id I
  have B := C
  obtain ⟨kd, fi, cn, nu, nr, at_, od, q, b7⟩ := B.hsc
  refine TC_mk (r := .int (nI ln)) (tx' := tx) (ln' := 0) L ?_ (fun h1 F => ?_) (INV_tx I i7 (by omega))
  · obtain ⟨B1, F1⟩ := B.script (tx' := tx) (nr' := nr) (at' := at_) (ln' := nI 0) (od' := od) q
    have A := xA.of b7 (Nat.zero_lt_succ _)
    refine ⟨_, ?_, B1, F1⟩
    refine xK_X7_clear (B.hp 0 _ rfl) (xe_X7_clear_0 ?_)
    (repeat (first | (simp only [xb_X7_clear_0, xs_nil, Nat.reduceAdd, true_implies, not_true_eq_false, not_false_eq_true, false_implies, and_true, true_and, x_10, xs_aload_n_0, xs_istore_n_1_i, xs_istore_n_1_a, xs_istore_n_1_n, xs_istore_n_1_l, xs_iconst_0, xs_iload_n_1, xs_ireturn]) | (refine xr_getf (B.hp 0 _ rfl) (by rfl) ?_) | (refine xr_getf (B.hs 0 _ rfl) (by rfl) ?_) | (refine xr_getf (B.hs 1 _ rfl) (by rfl) ?_) | (refine xr_getf (B.hs 7 _ rfl) (by rfl) ?_) | (refine xr_getf (b7 0 _ rfl) (by rfl) ?_)))
    refine xa_putf A 0 (by rfl) (by decide) (by exact Nat.le_of_ble_eq_true rfl) (x_fit_int _) (fun h1 A1 => ?_)
    (repeat (first | (simp only [xb_X7_clear_0, xs_nil, Nat.reduceAdd, true_implies, not_true_eq_false, not_false_eq_true, false_implies, and_true, true_and, x_10, xs_aload_n_0, xs_istore_n_1_i, xs_istore_n_1_a, xs_istore_n_1_n, xs_istore_n_1_l, xs_iconst_0, xs_iload_n_1, xs_ireturn]) ))
    have e : x_wr h 115 (x_rc 115 tx kd fi cn nu nr at_ (nI 0) od) = h1 := A1.e
    rw [e]
    (first | exact ⟨Or.inl trivial, rfl⟩ | exact ⟨Or.inl trivial, rfl, rfl⟩ | (simp; done) | exact ⟨by simp, rfl⟩ | exact ⟨by simp, rfl, rfl⟩ | rfl)
  · have M := M.cF F
    obtain ⟨z, hz, hb⟩ := M
    have A := xA.of hb (Nat.zero_lt_succ _)
    have c := c_mclear hb (by decide)
    obtain ⟨M1, F1⟩ := mW_A (nw' := nw) (pa' := pa) (sts' := nI ct) (rf' := rf) (tx' := tx) (byt' := nI 0) (z' := z) hz (A.on rfl)
    exact ⟨_, c, M1, F1⟩
end PJ
