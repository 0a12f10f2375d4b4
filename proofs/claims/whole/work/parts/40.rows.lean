/-! Row: root, levels; what is still allowed -/
theorem x_and7 (x : Int32) : ∃ d, d < 8 ∧ x &&& 7 = nI d := by
  refine ⟨x.toBitVec.toNat % 8, Nat.mod_lt _ (by decide), ?_⟩
  apply Int32.toBitVec_inj.mp
  apply BitVec.eq_of_toNat_eq
  have e1 : (x &&& 7).toBitVec = x.toBitVec &&& 7#32 := rfl
  have e2 : (nI (x.toBitVec.toNat % 8)).toBitVec = BitVec.ofNat 32 (x.toBitVec.toNat % 8) := rfl
  rw [e1, e2, BitVec.toNat_and, BitVec.toNat_ofNat, BitVec.toNat_ofNat]
  have h7 : 7 % 2 ^ 32 = 2 ^ 3 - 1 := by decide
  rw [h7, Nat.and_two_pow_sub_one_eq_mod, Nat.mod_eq_of_lt (a := _ % 8) (by have := Nat.mod_lt x.toBitVec.toNat (show 0 < 8 by decide); omega)]
theorem x_and1 (x : Int32) : ∃ d, d < 2 ∧ x &&& 1 = nI d := by
  refine ⟨x.toBitVec.toNat % 2, Nat.mod_lt _ (by decide), ?_⟩
  apply Int32.toBitVec_inj.mp
  apply BitVec.eq_of_toNat_eq
  have e1 : (x &&& 1).toBitVec = x.toBitVec &&& 1#32 := rfl
  have e2 : (nI (x.toBitVec.toNat % 2)).toBitVec = BitVec.ofNat 32 (x.toBitVec.toNat % 2) := rfl
  rw [e1, e2, BitVec.toNat_and, BitVec.toNat_ofNat, BitVec.toNat_ofNat]
  have h7 : 1 % 2 ^ 32 = 2 ^ 1 - 1 := by decide
  rw [h7, Nat.and_two_pow_sub_one_eq_mod, Nat.mod_eq_of_lt (a := _ % 2) (by have := Nat.mod_lt x.toBitVec.toNat (show 0 < 2 by decide); omega)]
theorem kread_n (row i : Int32) : ∃ r, r < 2 ∧ kread row i = nI r := x_and1 _
def khang (s : kS) (row i : Int32) : Bool := !decide (ksort (sS s) (sen s) i (kread row i) = -1) && (if khead row i = 0 then !decide (xg (sR s) (ksort (sS s) (sen s) i (kread row i)) = -1) else !decide (ksort (sS s) (sen s) (khead row i) (kread row (khead row i)) = -1) && !decide (kprice (sP s) (sS s) (sen s) i (kread row i) (khead row i) (kread row (khead row i)) = -1))
def khangs (s : kS) (row : Int32) : Nat → Nat → Bool
  | 0, _ => true
  | d + 1, i => khang s row (nI i) && khangs s row d (i + 1)
section RW
variable {g p : Nat} {h h0 : xH} {s : kS} {c : kC} {n i : Nat} {x1 x2 row : Int32}
theorem c_isHangingAllowed (hp : x_hb h p (x_ts p s)) (hv : sv s) (hi : i < 7) (hd : ∃ d, d < 7 ∧ khead row (nI i) = nI d) : xK 127 [.ref p, .int row, .int (nI i)] h (some (.int (if khang s row (nI i) = true then 1 else 0))) h := by
  have hg := x_tc_g hp
  obtain ⟨d, hd7, ed⟩ := hd
  obtain ⟨r, hr, er⟩ := kread_n row (nI i)
  obtain ⟨q, hq, eq⟩ := kread_n row (nI d)
  have c1 := c_sortIn (x1 := row) (x2 := nI i) hp (hv.i1 hi) (by rw [er]; exact hv.i3 hi hr)
  have c2 := c_sortIn (x1 := row) (x2 := nI d) hp (hv.i1 hd7) (by rw [eq]; exact hv.i3 hd7 hq)
  have c3 : xK 60 [.int row, .int (nI i)] h (some (.int (khead row (nI i)))) h := c_headOf
  rw [ed] at c3
  rw [er] at c1
  rw [eq] at c2
  unfold khang
  rw [ed, er, eq]
  refine xK_X6_isHangingAllowed (hp 0 _ rfl) (xe_X6_isHangingAllowed_0 ?_)
  (repeat (first | (simp only [xb_X6_isHangingAllowed_0, xb_X6_isHangingAllowed_22, xb_X6_isHangingAllowed_44, xb_X6_isHangingAllowed_45, xb_X6_isHangingAllowed_46, xb_X6_isHangingAllowed_77, xb_X6_isHangingAllowed_78, xb_X6_isHangingAllowed_89, xb_X6_isHangingAllowed_90, xs_nil, Nat.reduceAdd, true_implies, not_true_eq_false, not_false_eq_true, false_implies, and_true, true_and, x_10, xs_iload_n_1, xs_iload_n_2, xs_istore_n_3_i, xs_istore_n_3_a, xs_istore_n_3_n, xs_istore_n_3_l, xs_aload_n_0, xs_istore_4_i, xs_istore_4_a, xs_istore_4_n, xs_istore_4_l, xs_iload_4, xs_iconst_m1, xs_icmp_ne, xs_iconst_0, xs_ireturn, xs_iload_n_3, xs_if_ne, xs_icmp_eq, xs_iconst_1, xs_goto, xs_istore_5_i, xs_istore_5_a, xs_istore_5_n, xs_istore_5_l, xs_iload_5, xs_icmp_ge]) | refine xc_s2_1 (by decide) (c3) (Nat.le_of_ble_eq_true rfl) ?_ | refine xc_v3_1 (c1) (Nat.le_of_ble_eq_true rfl) ?_))
  refine ⟨fun z1 => ?_, fun z1 => ?_⟩
  · have i5r := hv.i5r hi hr z1
    refine xe_X6_isHangingAllowed_22 ?_
    (repeat (first | (simp only [xb_X6_isHangingAllowed_0, xb_X6_isHangingAllowed_22, xb_X6_isHangingAllowed_44, xb_X6_isHangingAllowed_45, xb_X6_isHangingAllowed_46, xb_X6_isHangingAllowed_77, xb_X6_isHangingAllowed_78, xb_X6_isHangingAllowed_89, xb_X6_isHangingAllowed_90, xs_nil, Nat.reduceAdd, true_implies, not_true_eq_false, not_false_eq_true, false_implies, and_true, true_and, x_10, xs_iload_n_1, xs_iload_n_2, xs_istore_n_3_i, xs_istore_n_3_a, xs_istore_n_3_n, xs_istore_n_3_l, xs_aload_n_0, xs_istore_4_i, xs_istore_4_a, xs_istore_4_n, xs_istore_4_l, xs_iload_4, xs_iconst_m1, xs_icmp_ne, xs_iconst_0, xs_ireturn, xs_iload_n_3, xs_if_ne, xs_icmp_eq, xs_iconst_1, xs_goto, xs_istore_5_i, xs_istore_5_a, xs_istore_5_n, xs_istore_5_l, xs_iload_5, xs_icmp_ge]) ))
    refine ⟨fun z2 => ?_, fun z2 => ?_⟩
    · refine xe_X6_isHangingAllowed_46 ?_
      (repeat (first | (simp only [xb_X6_isHangingAllowed_0, xb_X6_isHangingAllowed_22, xb_X6_isHangingAllowed_44, xb_X6_isHangingAllowed_45, xb_X6_isHangingAllowed_46, xb_X6_isHangingAllowed_77, xb_X6_isHangingAllowed_78, xb_X6_isHangingAllowed_89, xb_X6_isHangingAllowed_90, xs_nil, Nat.reduceAdd, true_implies, not_true_eq_false, not_false_eq_true, false_implies, and_true, true_and, x_10, xs_iload_n_1, xs_iload_n_2, xs_istore_n_3_i, xs_istore_n_3_a, xs_istore_n_3_n, xs_istore_n_3_l, xs_aload_n_0, xs_istore_4_i, xs_istore_4_a, xs_istore_4_n, xs_istore_4_l, xs_iload_4, xs_iconst_m1, xs_icmp_ne, xs_iconst_0, xs_ireturn, xs_iload_n_3, xs_if_ne, xs_icmp_eq, xs_iconst_1, xs_goto, xs_istore_5_i, xs_istore_5_a, xs_istore_5_n, xs_istore_5_l, xs_iload_5, xs_icmp_ge]) | refine xc_v3_1 (c2) (Nat.le_of_ble_eq_true rfl) ?_))
      have i5 := hv.i5 (i := i) (d := d) hi hr hd7 hq z1
      refine ⟨fun z3 => ?_, fun z3 => ?_⟩
      · refine xe_X6_isHangingAllowed_89 ?_
        (repeat (first | (simp only [xb_X6_isHangingAllowed_0, xb_X6_isHangingAllowed_22, xb_X6_isHangingAllowed_44, xb_X6_isHangingAllowed_45, xb_X6_isHangingAllowed_46, xb_X6_isHangingAllowed_77, xb_X6_isHangingAllowed_78, xb_X6_isHangingAllowed_89, xb_X6_isHangingAllowed_90, xs_nil, Nat.reduceAdd, true_implies, not_true_eq_false, not_false_eq_true, false_implies, and_true, true_and, x_10, xs_iload_n_1, xs_iload_n_2, xs_istore_n_3_i, xs_istore_n_3_a, xs_istore_n_3_n, xs_istore_n_3_l, xs_aload_n_0, xs_istore_4_i, xs_istore_4_a, xs_istore_4_n, xs_istore_4_l, xs_iload_4, xs_iconst_m1, xs_icmp_ne, xs_iconst_0, xs_ireturn, xs_iload_n_3, xs_if_ne, xs_icmp_eq, xs_iconst_1, xs_goto, xs_istore_5_i, xs_istore_5_a, xs_istore_5_n, xs_istore_5_l, xs_iload_5, xs_icmp_ge]) ))
        refine xe_X6_isHangingAllowed_90 ?_
        (repeat (first | (simp only [xb_X6_isHangingAllowed_0, xb_X6_isHangingAllowed_22, xb_X6_isHangingAllowed_44, xb_X6_isHangingAllowed_45, xb_X6_isHangingAllowed_46, xb_X6_isHangingAllowed_77, xb_X6_isHangingAllowed_78, xb_X6_isHangingAllowed_89, xb_X6_isHangingAllowed_90, xs_nil, Nat.reduceAdd, true_implies, not_true_eq_false, not_false_eq_true, false_implies, and_true, true_and, x_10, xs_iload_n_1, xs_iload_n_2, xs_istore_n_3_i, xs_istore_n_3_a, xs_istore_n_3_n, xs_istore_n_3_l, xs_aload_n_0, xs_istore_4_i, xs_istore_4_a, xs_istore_4_n, xs_istore_4_l, xs_iload_4, xs_iconst_m1, xs_icmp_ne, xs_iconst_0, xs_ireturn, xs_iload_n_3, xs_if_ne, xs_icmp_eq, xs_iconst_1, xs_goto, xs_istore_5_i, xs_istore_5_a, xs_istore_5_n, xs_istore_5_l, xs_iload_5, xs_icmp_ge]) ))
        simp [z3, z2]
      · have c4 := c_price (x1 := ksort (sS s) (sen s) (nI d) (nI q)) (x2 := ksort (sS s) (sen s) (nI i) (nI r)) (x3 := if nI d ≤ nI i then 1 else 0) hg (i5 z3)
        have go : ∀ v : Int32, v = (if nI d ≤ nI i then 1 else 0) → ∀ ls : xL, x_EV 127 78 ls [.int v, .int (ksort (sS s) (sen s) (nI i) (nI r)), .int (ksort (sS s) (sen s) (nI d) (nI q)), .ref (p + 1)] h (some (.int (if (!decide (ksort (sS s) (sen s) (nI i) (nI r) = -1) && (if nI d = 0 then !decide (xg (sR s) (ksort (sS s) (sen s) (nI i) (nI r)) = -1) else !decide (ksort (sS s) (sen s) (nI d) (nI q) = -1) && !decide (kprice (sP s) (sS s) (sen s) (nI i) (nI r) (nI d) (nI q) = -1))) = true then 1 else 0))) h := by
          intro v hvv ls
          subst hvv
          refine xe_X6_isHangingAllowed_78 ?_
          (repeat (first | (simp only [xb_X6_isHangingAllowed_0, xb_X6_isHangingAllowed_22, xb_X6_isHangingAllowed_44, xb_X6_isHangingAllowed_45, xb_X6_isHangingAllowed_46, xb_X6_isHangingAllowed_77, xb_X6_isHangingAllowed_78, xb_X6_isHangingAllowed_89, xb_X6_isHangingAllowed_90, xs_nil, Nat.reduceAdd, true_implies, not_true_eq_false, not_false_eq_true, false_implies, and_true, true_and, x_10, xs_iload_n_1, xs_iload_n_2, xs_istore_n_3_i, xs_istore_n_3_a, xs_istore_n_3_n, xs_istore_n_3_l, xs_aload_n_0, xs_istore_4_i, xs_istore_4_a, xs_istore_4_n, xs_istore_4_l, xs_iload_4, xs_iconst_m1, xs_icmp_ne, xs_iconst_0, xs_ireturn, xs_iload_n_3, xs_if_ne, xs_icmp_eq, xs_iconst_1, xs_goto, xs_istore_5_i, xs_istore_5_a, xs_istore_5_n, xs_istore_5_l, xs_iload_5, xs_icmp_ge]) | refine xc_v4_1 (c4) (Nat.le_of_ble_eq_true rfl) ?_))
          have eP : xg (sP s) ((ksort (sS s) (sen s) (nI d) (nI q) * 6 + ksort (sS s) (sen s) (nI i) (nI r)) * 2 + (if nI d ≤ nI i then 1 else 0)) = kprice (sP s) (sS s) (sen s) (nI i) (nI r) (nI d) (nI q) := rfl
          rw [eP]
          refine ⟨fun z4 => ?_, fun z4 => ?_⟩
          · refine xe_X6_isHangingAllowed_89 ?_
            (repeat (first | (simp only [xb_X6_isHangingAllowed_0, xb_X6_isHangingAllowed_22, xb_X6_isHangingAllowed_44, xb_X6_isHangingAllowed_45, xb_X6_isHangingAllowed_46, xb_X6_isHangingAllowed_77, xb_X6_isHangingAllowed_78, xb_X6_isHangingAllowed_89, xb_X6_isHangingAllowed_90, xs_nil, Nat.reduceAdd, true_implies, not_true_eq_false, not_false_eq_true, false_implies, and_true, true_and, x_10, xs_iload_n_1, xs_iload_n_2, xs_istore_n_3_i, xs_istore_n_3_a, xs_istore_n_3_n, xs_istore_n_3_l, xs_aload_n_0, xs_istore_4_i, xs_istore_4_a, xs_istore_4_n, xs_istore_4_l, xs_iload_4, xs_iconst_m1, xs_icmp_ne, xs_iconst_0, xs_ireturn, xs_iload_n_3, xs_if_ne, xs_icmp_eq, xs_iconst_1, xs_goto, xs_istore_5_i, xs_istore_5_a, xs_istore_5_n, xs_istore_5_l, xs_iload_5, xs_icmp_ge]) ))
            refine xe_X6_isHangingAllowed_90 ?_
            (repeat (first | (simp only [xb_X6_isHangingAllowed_0, xb_X6_isHangingAllowed_22, xb_X6_isHangingAllowed_44, xb_X6_isHangingAllowed_45, xb_X6_isHangingAllowed_46, xb_X6_isHangingAllowed_77, xb_X6_isHangingAllowed_78, xb_X6_isHangingAllowed_89, xb_X6_isHangingAllowed_90, xs_nil, Nat.reduceAdd, true_implies, not_true_eq_false, not_false_eq_true, false_implies, and_true, true_and, x_10, xs_iload_n_1, xs_iload_n_2, xs_istore_n_3_i, xs_istore_n_3_a, xs_istore_n_3_n, xs_istore_n_3_l, xs_aload_n_0, xs_istore_4_i, xs_istore_4_a, xs_istore_4_n, xs_istore_4_l, xs_iload_4, xs_iconst_m1, xs_icmp_ne, xs_iconst_0, xs_ireturn, xs_iload_n_3, xs_if_ne, xs_icmp_eq, xs_iconst_1, xs_goto, xs_istore_5_i, xs_istore_5_a, xs_istore_5_n, xs_istore_5_l, xs_iload_5, xs_icmp_ge]) ))
            simp [z4, z2]
          · (repeat (first | (simp only [xb_X6_isHangingAllowed_0, xb_X6_isHangingAllowed_22, xb_X6_isHangingAllowed_44, xb_X6_isHangingAllowed_45, xb_X6_isHangingAllowed_46, xb_X6_isHangingAllowed_77, xb_X6_isHangingAllowed_78, xb_X6_isHangingAllowed_89, xb_X6_isHangingAllowed_90, xs_nil, Nat.reduceAdd, true_implies, not_true_eq_false, not_false_eq_true, false_implies, and_true, true_and, x_10, xs_iload_n_1, xs_iload_n_2, xs_istore_n_3_i, xs_istore_n_3_a, xs_istore_n_3_n, xs_istore_n_3_l, xs_aload_n_0, xs_istore_4_i, xs_istore_4_a, xs_istore_4_n, xs_istore_4_l, xs_iload_4, xs_iconst_m1, xs_icmp_ne, xs_iconst_0, xs_ireturn, xs_iload_n_3, xs_if_ne, xs_icmp_eq, xs_iconst_1, xs_goto, xs_istore_5_i, xs_istore_5_a, xs_istore_5_n, xs_istore_5_l, xs_iload_5, xs_icmp_ge]) ))
            refine xe_X6_isHangingAllowed_90 ?_
            (repeat (first | (simp only [xb_X6_isHangingAllowed_0, xb_X6_isHangingAllowed_22, xb_X6_isHangingAllowed_44, xb_X6_isHangingAllowed_45, xb_X6_isHangingAllowed_46, xb_X6_isHangingAllowed_77, xb_X6_isHangingAllowed_78, xb_X6_isHangingAllowed_89, xb_X6_isHangingAllowed_90, xs_nil, Nat.reduceAdd, true_implies, not_true_eq_false, not_false_eq_true, false_implies, and_true, true_and, x_10, xs_iload_n_1, xs_iload_n_2, xs_istore_n_3_i, xs_istore_n_3_a, xs_istore_n_3_n, xs_istore_n_3_l, xs_aload_n_0, xs_istore_4_i, xs_istore_4_a, xs_istore_4_n, xs_istore_4_l, xs_iload_4, xs_iconst_m1, xs_icmp_ne, xs_iconst_0, xs_ireturn, xs_iload_n_3, xs_if_ne, xs_icmp_eq, xs_iconst_1, xs_goto, xs_istore_5_i, xs_istore_5_a, xs_istore_5_n, xs_istore_5_l, xs_iload_5, xs_icmp_ge]) ))
            simp [z4, z2, z1, z3]
        (repeat (first | (simp only [xb_X6_isHangingAllowed_0, xb_X6_isHangingAllowed_22, xb_X6_isHangingAllowed_44, xb_X6_isHangingAllowed_45, xb_X6_isHangingAllowed_46, xb_X6_isHangingAllowed_77, xb_X6_isHangingAllowed_78, xb_X6_isHangingAllowed_89, xb_X6_isHangingAllowed_90, xs_nil, Nat.reduceAdd, true_implies, not_true_eq_false, not_false_eq_true, false_implies, and_true, true_and, x_10, xs_iload_n_1, xs_iload_n_2, xs_istore_n_3_i, xs_istore_n_3_a, xs_istore_n_3_n, xs_istore_n_3_l, xs_aload_n_0, xs_istore_4_i, xs_istore_4_a, xs_istore_4_n, xs_istore_4_l, xs_iload_4, xs_iconst_m1, xs_icmp_ne, xs_iconst_0, xs_ireturn, xs_iload_n_3, xs_if_ne, xs_icmp_eq, xs_iconst_1, xs_goto, xs_istore_5_i, xs_istore_5_a, xs_istore_5_n, xs_istore_5_l, xs_iload_5, xs_icmp_ge]) | (refine xr_getf (hp 0 _ rfl) (by rfl) ?_)))
        refine ⟨fun z4 => ?_, fun z4 => ?_⟩
        · refine xe_X6_isHangingAllowed_77 ?_
          (repeat (first | (simp only [xb_X6_isHangingAllowed_0, xb_X6_isHangingAllowed_22, xb_X6_isHangingAllowed_44, xb_X6_isHangingAllowed_45, xb_X6_isHangingAllowed_46, xb_X6_isHangingAllowed_77, xb_X6_isHangingAllowed_78, xb_X6_isHangingAllowed_89, xb_X6_isHangingAllowed_90, xs_nil, Nat.reduceAdd, true_implies, not_true_eq_false, not_false_eq_true, false_implies, and_true, true_and, x_10, xs_iload_n_1, xs_iload_n_2, xs_istore_n_3_i, xs_istore_n_3_a, xs_istore_n_3_n, xs_istore_n_3_l, xs_aload_n_0, xs_istore_4_i, xs_istore_4_a, xs_istore_4_n, xs_istore_4_l, xs_iload_4, xs_iconst_m1, xs_icmp_ne, xs_iconst_0, xs_ireturn, xs_iload_n_3, xs_if_ne, xs_icmp_eq, xs_iconst_1, xs_goto, xs_istore_5_i, xs_istore_5_a, xs_istore_5_n, xs_istore_5_l, xs_iload_5, xs_icmp_ge]) ))
          exact go 1 (if_pos z4).symm _
        · (repeat (first | (simp only [xb_X6_isHangingAllowed_0, xb_X6_isHangingAllowed_22, xb_X6_isHangingAllowed_44, xb_X6_isHangingAllowed_45, xb_X6_isHangingAllowed_46, xb_X6_isHangingAllowed_77, xb_X6_isHangingAllowed_78, xb_X6_isHangingAllowed_89, xb_X6_isHangingAllowed_90, xs_nil, Nat.reduceAdd, true_implies, not_true_eq_false, not_false_eq_true, false_implies, and_true, true_and, x_10, xs_iload_n_1, xs_iload_n_2, xs_istore_n_3_i, xs_istore_n_3_a, xs_istore_n_3_n, xs_istore_n_3_l, xs_aload_n_0, xs_istore_4_i, xs_istore_4_a, xs_istore_4_n, xs_istore_4_l, xs_iload_4, xs_iconst_m1, xs_icmp_ne, xs_iconst_0, xs_ireturn, xs_iload_n_3, xs_if_ne, xs_icmp_eq, xs_iconst_1, xs_goto, xs_istore_5_i, xs_istore_5_a, xs_istore_5_n, xs_istore_5_l, xs_iload_5, xs_icmp_ge]) ))
          exact go 0 (if_neg z4).symm _
    · have z2' := Classical.not_not.mp z2
      (repeat (first | (simp only [xb_X6_isHangingAllowed_0, xb_X6_isHangingAllowed_22, xb_X6_isHangingAllowed_44, xb_X6_isHangingAllowed_45, xb_X6_isHangingAllowed_46, xb_X6_isHangingAllowed_77, xb_X6_isHangingAllowed_78, xb_X6_isHangingAllowed_89, xb_X6_isHangingAllowed_90, xs_nil, Nat.reduceAdd, true_implies, not_true_eq_false, not_false_eq_true, false_implies, and_true, true_and, x_10, xs_iload_n_1, xs_iload_n_2, xs_istore_n_3_i, xs_istore_n_3_a, xs_istore_n_3_n, xs_istore_n_3_l, xs_aload_n_0, xs_istore_4_i, xs_istore_4_a, xs_istore_4_n, xs_istore_4_l, xs_iload_4, xs_iconst_m1, xs_icmp_ne, xs_iconst_0, xs_ireturn, xs_iload_n_3, xs_if_ne, xs_icmp_eq, xs_iconst_1, xs_goto, xs_istore_5_i, xs_istore_5_a, xs_istore_5_n, xs_istore_5_l, xs_iload_5, xs_icmp_ge]) | (refine xr_getf (hp 0 _ rfl) (by rfl) ?_) | (refine xr_getf (hp 1 _ rfl) (by rfl) ?_) | (refine xr_iaload (hp 3 _ rfl) i5r ?_)))
      refine ⟨fun z3 => ?_, fun z3 => ?_⟩
      · refine xe_X6_isHangingAllowed_44 ?_
        (repeat (first | (simp only [xb_X6_isHangingAllowed_0, xb_X6_isHangingAllowed_22, xb_X6_isHangingAllowed_44, xb_X6_isHangingAllowed_45, xb_X6_isHangingAllowed_46, xb_X6_isHangingAllowed_77, xb_X6_isHangingAllowed_78, xb_X6_isHangingAllowed_89, xb_X6_isHangingAllowed_90, xs_nil, Nat.reduceAdd, true_implies, not_true_eq_false, not_false_eq_true, false_implies, and_true, true_and, x_10, xs_iload_n_1, xs_iload_n_2, xs_istore_n_3_i, xs_istore_n_3_a, xs_istore_n_3_n, xs_istore_n_3_l, xs_aload_n_0, xs_istore_4_i, xs_istore_4_a, xs_istore_4_n, xs_istore_4_l, xs_iload_4, xs_iconst_m1, xs_icmp_ne, xs_iconst_0, xs_ireturn, xs_iload_n_3, xs_if_ne, xs_icmp_eq, xs_iconst_1, xs_goto, xs_istore_5_i, xs_istore_5_a, xs_istore_5_n, xs_istore_5_l, xs_iload_5, xs_icmp_ge]) ))
        refine xe_X6_isHangingAllowed_45 ?_
        (repeat (first | (simp only [xb_X6_isHangingAllowed_0, xb_X6_isHangingAllowed_22, xb_X6_isHangingAllowed_44, xb_X6_isHangingAllowed_45, xb_X6_isHangingAllowed_46, xb_X6_isHangingAllowed_77, xb_X6_isHangingAllowed_78, xb_X6_isHangingAllowed_89, xb_X6_isHangingAllowed_90, xs_nil, Nat.reduceAdd, true_implies, not_true_eq_false, not_false_eq_true, false_implies, and_true, true_and, x_10, xs_iload_n_1, xs_iload_n_2, xs_istore_n_3_i, xs_istore_n_3_a, xs_istore_n_3_n, xs_istore_n_3_l, xs_aload_n_0, xs_istore_4_i, xs_istore_4_a, xs_istore_4_n, xs_istore_4_l, xs_iload_4, xs_iconst_m1, xs_icmp_ne, xs_iconst_0, xs_ireturn, xs_iload_n_3, xs_if_ne, xs_icmp_eq, xs_iconst_1, xs_goto, xs_istore_5_i, xs_istore_5_a, xs_istore_5_n, xs_istore_5_l, xs_iload_5, xs_icmp_ge]) ))
        simp [z3, z2']
      · (repeat (first | (simp only [xb_X6_isHangingAllowed_0, xb_X6_isHangingAllowed_22, xb_X6_isHangingAllowed_44, xb_X6_isHangingAllowed_45, xb_X6_isHangingAllowed_46, xb_X6_isHangingAllowed_77, xb_X6_isHangingAllowed_78, xb_X6_isHangingAllowed_89, xb_X6_isHangingAllowed_90, xs_nil, Nat.reduceAdd, true_implies, not_true_eq_false, not_false_eq_true, false_implies, and_true, true_and, x_10, xs_iload_n_1, xs_iload_n_2, xs_istore_n_3_i, xs_istore_n_3_a, xs_istore_n_3_n, xs_istore_n_3_l, xs_aload_n_0, xs_istore_4_i, xs_istore_4_a, xs_istore_4_n, xs_istore_4_l, xs_iload_4, xs_iconst_m1, xs_icmp_ne, xs_iconst_0, xs_ireturn, xs_iload_n_3, xs_if_ne, xs_icmp_eq, xs_iconst_1, xs_goto, xs_istore_5_i, xs_istore_5_a, xs_istore_5_n, xs_istore_5_l, xs_iload_5, xs_icmp_ge]) ))
        refine xe_X6_isHangingAllowed_45 ?_
        (repeat (first | (simp only [xb_X6_isHangingAllowed_0, xb_X6_isHangingAllowed_22, xb_X6_isHangingAllowed_44, xb_X6_isHangingAllowed_45, xb_X6_isHangingAllowed_46, xb_X6_isHangingAllowed_77, xb_X6_isHangingAllowed_78, xb_X6_isHangingAllowed_89, xb_X6_isHangingAllowed_90, xs_nil, Nat.reduceAdd, true_implies, not_true_eq_false, not_false_eq_true, false_implies, and_true, true_and, x_10, xs_iload_n_1, xs_iload_n_2, xs_istore_n_3_i, xs_istore_n_3_a, xs_istore_n_3_n, xs_istore_n_3_l, xs_aload_n_0, xs_istore_4_i, xs_istore_4_a, xs_istore_4_n, xs_istore_4_l, xs_iload_4, xs_iconst_m1, xs_icmp_ne, xs_iconst_0, xs_ireturn, xs_iload_n_3, xs_if_ne, xs_icmp_eq, xs_iconst_1, xs_goto, xs_istore_5_i, xs_istore_5_a, xs_istore_5_n, xs_istore_5_l, xs_iload_5, xs_icmp_ge]) ))
        simp [z3, z2', z1]
  · (repeat (first | (simp only [xb_X6_isHangingAllowed_0, xb_X6_isHangingAllowed_22, xb_X6_isHangingAllowed_44, xb_X6_isHangingAllowed_45, xb_X6_isHangingAllowed_46, xb_X6_isHangingAllowed_77, xb_X6_isHangingAllowed_78, xb_X6_isHangingAllowed_89, xb_X6_isHangingAllowed_90, xs_nil, Nat.reduceAdd, true_implies, not_true_eq_false, not_false_eq_true, false_implies, and_true, true_and, x_10, xs_iload_n_1, xs_iload_n_2, xs_istore_n_3_i, xs_istore_n_3_a, xs_istore_n_3_n, xs_istore_n_3_l, xs_aload_n_0, xs_istore_4_i, xs_istore_4_a, xs_istore_4_n, xs_istore_4_l, xs_iload_4, xs_iconst_m1, xs_icmp_ne, xs_iconst_0, xs_ireturn, xs_iload_n_3, xs_if_ne, xs_icmp_eq, xs_iconst_1, xs_goto, xs_istore_5_i, xs_istore_5_a, xs_istore_5_n, xs_istore_5_l, xs_iload_5, xs_icmp_ge]) ))
    simp [Classical.not_not.mp z1]
theorem l_isHeldStillAllowed (hp : x_hb h p (x_ts p s)) (hv : sv s) (hd : ∀ i, 1 ≤ i → i ≤ sn s → ∃ d, d < 7 ∧ khead row (nI i) = nI d) : ∀ d i : Nat, i + d = sn s + 1 → 1 ≤ i → x_EV 128 17 [some (.ref p), some (.int row), some (.int (nI i))] [] h (some (.int (if khangs s row d i = true then 1 else 0))) h := by
  have h6 := hv.n6
  have hn := hv.ct
  intro d
  induction d with
  | zero =>
    intro i hi h1
    refine xe_X6_isHeldStillAllowed_17 ?_
    (repeat (first | (simp only [xb_X6_isHeldStillAllowed_0, xb_X6_isHeldStillAllowed_15, xb_X6_isHeldStillAllowed_17, xb_X6_isHeldStillAllowed_39, xb_X6_isHeldStillAllowed_45, xs_nil, Nat.reduceAdd, true_implies, not_true_eq_false, not_false_eq_true, false_implies, and_true, true_and, x_10, xs_aload_n_0, xs_istore_n_1_i, xs_istore_n_1_a, xs_istore_n_1_n, xs_istore_n_1_l, xs_iload_n_1, xs_iconst_m1, xs_icmp_ne, xs_iconst_0, xs_ireturn, xs_iconst_1, xs_istore_n_2_i, xs_istore_n_2_a, xs_istore_n_2_n, xs_istore_n_2_l, xs_iload_n_2, xs_icmp_gt, xs_if_ne, xs_iinc_2_1_i, xs_iinc_2_1_a, xs_iinc_2_1_n, xs_goto]) | (refine xr_getf (hp 0 _ rfl) (by rfl) ?_) | (refine xr_getf (hp 7 _ rfl) (by rfl) ?_)))
    rw [hn]
    refine ⟨fun q => ?_, fun q => absurd (nI_lt (by omega) (by omega)) q⟩
    refine xe_X6_isHeldStillAllowed_45 ?_
    (repeat (first | (simp only [xb_X6_isHeldStillAllowed_0, xb_X6_isHeldStillAllowed_15, xb_X6_isHeldStillAllowed_17, xb_X6_isHeldStillAllowed_39, xb_X6_isHeldStillAllowed_45, xs_nil, Nat.reduceAdd, true_implies, not_true_eq_false, not_false_eq_true, false_implies, and_true, true_and, x_10, xs_aload_n_0, xs_istore_n_1_i, xs_istore_n_1_a, xs_istore_n_1_n, xs_istore_n_1_l, xs_iload_n_1, xs_iconst_m1, xs_icmp_ne, xs_iconst_0, xs_ireturn, xs_iconst_1, xs_istore_n_2_i, xs_istore_n_2_a, xs_istore_n_2_n, xs_istore_n_2_l, xs_iload_n_2, xs_icmp_gt, xs_if_ne, xs_iinc_2_1_i, xs_iinc_2_1_a, xs_iinc_2_1_n, xs_goto]) ))
    simp [khangs]
  | succ d ih =>
    intro i hi h1
    have ihT := ih (i + 1) (by omega) (by omega)
    refine xe_X6_isHeldStillAllowed_17 ?_
    (repeat (first | (simp only [xb_X6_isHeldStillAllowed_0, xb_X6_isHeldStillAllowed_15, xb_X6_isHeldStillAllowed_17, xb_X6_isHeldStillAllowed_39, xb_X6_isHeldStillAllowed_45, xs_nil, Nat.reduceAdd, true_implies, not_true_eq_false, not_false_eq_true, false_implies, and_true, true_and, x_10, xs_aload_n_0, xs_istore_n_1_i, xs_istore_n_1_a, xs_istore_n_1_n, xs_istore_n_1_l, xs_iload_n_1, xs_iconst_m1, xs_icmp_ne, xs_iconst_0, xs_ireturn, xs_iconst_1, xs_istore_n_2_i, xs_istore_n_2_a, xs_istore_n_2_n, xs_istore_n_2_l, xs_iload_n_2, xs_icmp_gt, xs_if_ne, xs_iinc_2_1_i, xs_iinc_2_1_a, xs_iinc_2_1_n, xs_goto]) | (refine xr_getf (hp 0 _ rfl) (by rfl) ?_) | (refine xr_getf (hp 7 _ rfl) (by rfl) ?_)))
    rw [hn]
    refine ⟨fun w => absurd w (nI_nlt (by omega) (by omega)), fun w => ?_⟩
    (repeat (first | (simp only [xb_X6_isHeldStillAllowed_0, xb_X6_isHeldStillAllowed_15, xb_X6_isHeldStillAllowed_17, xb_X6_isHeldStillAllowed_39, xb_X6_isHeldStillAllowed_45, xs_nil, Nat.reduceAdd, true_implies, not_true_eq_false, not_false_eq_true, false_implies, and_true, true_and, x_10, xs_aload_n_0, xs_istore_n_1_i, xs_istore_n_1_a, xs_istore_n_1_n, xs_istore_n_1_l, xs_iload_n_1, xs_iconst_m1, xs_icmp_ne, xs_iconst_0, xs_ireturn, xs_iconst_1, xs_istore_n_2_i, xs_istore_n_2_a, xs_istore_n_2_n, xs_istore_n_2_l, xs_iload_n_2, xs_icmp_gt, xs_if_ne, xs_iinc_2_1_i, xs_iinc_2_1_a, xs_iinc_2_1_n, xs_goto]) | refine xc_v3_1 (c_isHangingAllowed hp hv (by omega) (hd i h1 (by omega))) (Nat.le_of_ble_eq_true rfl) ?_))
    have e : khangs s row (d + 1) i = (khang s row (nI i) && khangs s row d (i + 1)) := rfl
    rw [e]
    cases hk : khang s row (nI i) with
    | true =>
      rw [Bool.true_and]
      refine ⟨fun _ => ?_, fun z => absurd (by decide) z⟩
      refine xe_X6_isHeldStillAllowed_39 ?_
      (repeat (first | (simp only [xb_X6_isHeldStillAllowed_0, xb_X6_isHeldStillAllowed_15, xb_X6_isHeldStillAllowed_17, xb_X6_isHeldStillAllowed_39, xb_X6_isHeldStillAllowed_45, xs_nil, Nat.reduceAdd, true_implies, not_true_eq_false, not_false_eq_true, false_implies, and_true, true_and, x_10, xs_aload_n_0, xs_istore_n_1_i, xs_istore_n_1_a, xs_istore_n_1_n, xs_istore_n_1_l, xs_iload_n_1, xs_iconst_m1, xs_icmp_ne, xs_iconst_0, xs_ireturn, xs_iconst_1, xs_istore_n_2_i, xs_istore_n_2_a, xs_istore_n_2_n, xs_istore_n_2_l, xs_iload_n_2, xs_icmp_gt, xs_if_ne, xs_iinc_2_1_i, xs_iinc_2_1_a, xs_iinc_2_1_n, xs_goto]) ))
      rw [nI_1]
      exact ihT
    | false =>
      rw [Bool.false_and]
      refine ⟨fun z => absurd (by simp) z, fun _ => ?_⟩
      (repeat (first | (simp only [xb_X6_isHeldStillAllowed_0, xb_X6_isHeldStillAllowed_15, xb_X6_isHeldStillAllowed_17, xb_X6_isHeldStillAllowed_39, xb_X6_isHeldStillAllowed_45, xs_nil, Nat.reduceAdd, true_implies, not_true_eq_false, not_false_eq_true, false_implies, and_true, true_and, x_10, xs_aload_n_0, xs_istore_n_1_i, xs_istore_n_1_a, xs_istore_n_1_n, xs_istore_n_1_l, xs_iload_n_1, xs_iconst_m1, xs_icmp_ne, xs_iconst_0, xs_ireturn, xs_iconst_1, xs_istore_n_2_i, xs_istore_n_2_a, xs_istore_n_2_n, xs_istore_n_2_l, xs_iload_n_2, xs_icmp_gt, xs_if_ne, xs_iinc_2_1_i, xs_iinc_2_1_a, xs_iinc_2_1_n, xs_goto]) ))
      simp
theorem c_isHeldStillAllowed (hp : x_hb h p (x_ts p s)) (hv : sv s) (hd : ¬ xg (sro s) (sct s) = -1 → ∀ i, 1 ≤ i → i ≤ sn s → ∃ d, d < 7 ∧ khead (xg (sro s) (sct s)) (nI i) = nI d) : xK 128 [.ref p] h (some (.int (if (!decide (xg (sro s) (sct s) = -1) && khangs s (xg (sro s) (sct s)) (sn s) 1) = true then 1 else 0))) h := by
  have c1 := c_heldRow (x_tc_s hp) (by rw [hv.lro]; exact hv.in7)
  refine xK_X6_isHeldStillAllowed (hp 0 _ rfl) (xe_X6_isHeldStillAllowed_0 ?_)
  (repeat (first | (simp only [xb_X6_isHeldStillAllowed_0, xb_X6_isHeldStillAllowed_15, xb_X6_isHeldStillAllowed_17, xb_X6_isHeldStillAllowed_39, xb_X6_isHeldStillAllowed_45, xs_nil, Nat.reduceAdd, true_implies, not_true_eq_false, not_false_eq_true, false_implies, and_true, true_and, x_10, xs_aload_n_0, xs_istore_n_1_i, xs_istore_n_1_a, xs_istore_n_1_n, xs_istore_n_1_l, xs_iload_n_1, xs_iconst_m1, xs_icmp_ne, xs_iconst_0, xs_ireturn, xs_iconst_1, xs_istore_n_2_i, xs_istore_n_2_a, xs_istore_n_2_n, xs_istore_n_2_l, xs_iload_n_2, xs_icmp_gt, xs_if_ne, xs_iinc_2_1_i, xs_iinc_2_1_a, xs_iinc_2_1_n, xs_goto]) | (refine xr_getf (hp 0 _ rfl) (by rfl) ?_) | refine xc_v1_1 (c1) (Nat.le_of_ble_eq_true rfl) ?_))
  refine ⟨fun z => ?_, fun z => ?_⟩
  · refine xe_X6_isHeldStillAllowed_15 ?_
    (repeat (first | (simp only [xb_X6_isHeldStillAllowed_0, xb_X6_isHeldStillAllowed_15, xb_X6_isHeldStillAllowed_17, xb_X6_isHeldStillAllowed_39, xb_X6_isHeldStillAllowed_45, xs_nil, Nat.reduceAdd, true_implies, not_true_eq_false, not_false_eq_true, false_implies, and_true, true_and, x_10, xs_aload_n_0, xs_istore_n_1_i, xs_istore_n_1_a, xs_istore_n_1_n, xs_istore_n_1_l, xs_iload_n_1, xs_iconst_m1, xs_icmp_ne, xs_iconst_0, xs_ireturn, xs_iconst_1, xs_istore_n_2_i, xs_istore_n_2_a, xs_istore_n_2_n, xs_istore_n_2_l, xs_iload_n_2, xs_icmp_gt, xs_if_ne, xs_iinc_2_1_i, xs_iinc_2_1_a, xs_iinc_2_1_n, xs_goto]) ))
    have := l_isHeldStillAllowed (row := xg (sro s) (sct s)) hp hv (hd z) (sn s) 1 (by omega) (by omega)
    rw [decide_eq_false z, Bool.not_false, Bool.true_and]
    exact this
  · (repeat (first | (simp only [xb_X6_isHeldStillAllowed_0, xb_X6_isHeldStillAllowed_15, xb_X6_isHeldStillAllowed_17, xb_X6_isHeldStillAllowed_39, xb_X6_isHeldStillAllowed_45, xs_nil, Nat.reduceAdd, true_implies, not_true_eq_false, not_false_eq_true, false_implies, and_true, true_and, x_10, xs_aload_n_0, xs_istore_n_1_i, xs_istore_n_1_a, xs_istore_n_1_n, xs_istore_n_1_l, xs_iload_n_1, xs_iconst_m1, xs_icmp_ne, xs_iconst_0, xs_ireturn, xs_iconst_1, xs_istore_n_2_i, xs_istore_n_2_a, xs_istore_n_2_n, xs_istore_n_2_l, xs_iload_n_2, xs_icmp_gt, xs_if_ne, xs_iinc_2_1_i, xs_iinc_2_1_a, xs_iinc_2_1_n, xs_goto]) ))
    rw [decide_eq_true (Classical.not_not.mp z)]
    simp
/-- the first word from i on, of d, that hangs on none -/
def krt (row : Int32) : Nat → Nat → Int32
  | 0, _ => -1
  | d + 1, i => if khead row (nI i) = 0 then nI i else krt row d (i + 1)
theorem l_rootOf (hn : n < 7) : ∀ d i : Nat, i + d = n + 1 → x_EV 112 2 [some (.int row), some (.int (nI n)), some (.int (nI i))] [] h (some (.int (krt row d i))) h := by
  intro d
  induction d with
  | zero =>
    intro i hi
    refine xe_X2_rootOf_2 ?_
    (repeat (first | (simp only [xb_X2_rootOf_0, xb_X2_rootOf_2, xb_X2_rootOf_17, xb_X2_rootOf_23, xs_nil, Nat.reduceAdd, true_implies, not_true_eq_false, not_false_eq_true, false_implies, and_true, true_and, x_10, xs_iconst_1, xs_istore_n_2_i, xs_istore_n_2_a, xs_istore_n_2_n, xs_istore_n_2_l, xs_iload_n_2, xs_iload_n_1, xs_icmp_gt, xs_iload_n_0, xs_if_ne, xs_ireturn, xs_iinc_2_1_i, xs_iinc_2_1_a, xs_iinc_2_1_n, xs_goto, xs_iconst_m1]) ))
    refine ⟨fun q => ?_, fun q => absurd (nI_lt (by omega) (by omega)) q⟩
    refine xe_X2_rootOf_23 ?_
    (repeat (first | (simp only [xb_X2_rootOf_0, xb_X2_rootOf_2, xb_X2_rootOf_17, xb_X2_rootOf_23, xs_nil, Nat.reduceAdd, true_implies, not_true_eq_false, not_false_eq_true, false_implies, and_true, true_and, x_10, xs_iconst_1, xs_istore_n_2_i, xs_istore_n_2_a, xs_istore_n_2_n, xs_istore_n_2_l, xs_iload_n_2, xs_iload_n_1, xs_icmp_gt, xs_iload_n_0, xs_if_ne, xs_ireturn, xs_iinc_2_1_i, xs_iinc_2_1_a, xs_iinc_2_1_n, xs_goto, xs_iconst_m1]) ))
    simp [krt]
  | succ d ih =>
    intro i hi
    have ihT := ih (i + 1) (by omega)
    have c3 : xK 60 [.int row, .int (nI i)] h (some (.int (khead row (nI i)))) h := c_headOf
    refine xe_X2_rootOf_2 ?_
    (repeat (first | (simp only [xb_X2_rootOf_0, xb_X2_rootOf_2, xb_X2_rootOf_17, xb_X2_rootOf_23, xs_nil, Nat.reduceAdd, true_implies, not_true_eq_false, not_false_eq_true, false_implies, and_true, true_and, x_10, xs_iconst_1, xs_istore_n_2_i, xs_istore_n_2_a, xs_istore_n_2_n, xs_istore_n_2_l, xs_iload_n_2, xs_iload_n_1, xs_icmp_gt, xs_iload_n_0, xs_if_ne, xs_ireturn, xs_iinc_2_1_i, xs_iinc_2_1_a, xs_iinc_2_1_n, xs_goto, xs_iconst_m1]) ))
    refine ⟨fun w => absurd w (nI_nlt (by omega) (by omega)), fun w => ?_⟩
    (repeat (first | (simp only [xb_X2_rootOf_0, xb_X2_rootOf_2, xb_X2_rootOf_17, xb_X2_rootOf_23, xs_nil, Nat.reduceAdd, true_implies, not_true_eq_false, not_false_eq_true, false_implies, and_true, true_and, x_10, xs_iconst_1, xs_istore_n_2_i, xs_istore_n_2_a, xs_istore_n_2_n, xs_istore_n_2_l, xs_iload_n_2, xs_iload_n_1, xs_icmp_gt, xs_iload_n_0, xs_if_ne, xs_ireturn, xs_iinc_2_1_i, xs_iinc_2_1_a, xs_iinc_2_1_n, xs_goto, xs_iconst_m1]) | refine xc_s2_1 (by decide) (c3) (Nat.le_of_ble_eq_true rfl) ?_))
    unfold krt
    refine ⟨fun z => ?_, fun z => ?_⟩
    · refine xe_X2_rootOf_17 ?_
      (repeat (first | (simp only [xb_X2_rootOf_0, xb_X2_rootOf_2, xb_X2_rootOf_17, xb_X2_rootOf_23, xs_nil, Nat.reduceAdd, true_implies, not_true_eq_false, not_false_eq_true, false_implies, and_true, true_and, x_10, xs_iconst_1, xs_istore_n_2_i, xs_istore_n_2_a, xs_istore_n_2_n, xs_istore_n_2_l, xs_iload_n_2, xs_iload_n_1, xs_icmp_gt, xs_iload_n_0, xs_if_ne, xs_ireturn, xs_iinc_2_1_i, xs_iinc_2_1_a, xs_iinc_2_1_n, xs_goto, xs_iconst_m1]) ))
      rw [nI_1, if_neg z]
      exact ihT
    · (repeat (first | (simp only [xb_X2_rootOf_0, xb_X2_rootOf_2, xb_X2_rootOf_17, xb_X2_rootOf_23, xs_nil, Nat.reduceAdd, true_implies, not_true_eq_false, not_false_eq_true, false_implies, and_true, true_and, x_10, xs_iconst_1, xs_istore_n_2_i, xs_istore_n_2_a, xs_istore_n_2_n, xs_istore_n_2_l, xs_iload_n_2, xs_iload_n_1, xs_icmp_gt, xs_iload_n_0, xs_if_ne, xs_ireturn, xs_iinc_2_1_i, xs_iinc_2_1_a, xs_iinc_2_1_n, xs_goto, xs_iconst_m1]) ))
      rw [if_pos (Classical.not_not.mp z)]
      simp
theorem c_rootOf (hn : n < 7) : xK 112 [.int row, .int (nI n)] h (some (.int (krt row n 1))) h := by
  refine xK_X2_rootOf (xe_X2_rootOf_0 ?_)
  (repeat (first | (simp only [xb_X2_rootOf_0, xb_X2_rootOf_2, xb_X2_rootOf_17, xb_X2_rootOf_23, xs_nil, Nat.reduceAdd, true_implies, not_true_eq_false, not_false_eq_true, false_implies, and_true, true_and, x_10, xs_iconst_1, xs_istore_n_2_i, xs_istore_n_2_a, xs_istore_n_2_n, xs_istore_n_2_l, xs_iload_n_2, xs_iload_n_1, xs_icmp_gt, xs_iload_n_0, xs_if_ne, xs_ireturn, xs_iinc_2_1_i, xs_iinc_2_1_a, xs_iinc_2_1_n, xs_goto, xs_iconst_m1]) ))
  exact l_rootOf hn n 1 (by omega)
def klev (row : Int32) : Nat → Int32 → Nat → Nat
  | 0, _, l => l
  | d + 1, a, l => if a = 0 then l else klev row d (khead row a) (l + 1)
theorem l_levelOf : ∀ (d l : Nat) (a : Int32), l + d = 6 → x_EV 113 8 [some (.int row), some (.int x1), some (.int (nI l)), some (.int a)] [] h (some (.int (nI (klev row d a l)))) h := by
  intro d
  induction d with
  | zero =>
    intro l a hi
    refine xe_X2_levelOf_8 ?_
    have fin : x_EV 113 30 [some (.int row), some (.int x1), some (.int (nI l)), some (.int a)] [] h (some (.int (nI (klev row 0 a l)))) h := by
      refine xe_X2_levelOf_30 ?_
      (repeat (first | (simp only [xb_X2_levelOf_0, xb_X2_levelOf_8, xb_X2_levelOf_30, xs_nil, Nat.reduceAdd, true_implies, not_true_eq_false, not_false_eq_true, false_implies, and_true, true_and, x_10, xs_iconst_0, xs_istore_n_2_i, xs_istore_n_2_a, xs_istore_n_2_n, xs_istore_n_2_l, xs_iload_n_0, xs_iload_n_1, xs_istore_n_3_i, xs_istore_n_3_a, xs_istore_n_3_n, xs_istore_n_3_l, xs_iload_n_3, xs_if_eq, xs_iload_n_2, xs_bipush_6, xs_icmp_ge, xs_iinc_2_1_i, xs_iinc_2_1_a, xs_iinc_2_1_n, xs_goto, xs_ireturn]) ))
      simp [klev]
    (repeat (first | (simp only [xb_X2_levelOf_0, xb_X2_levelOf_8, xb_X2_levelOf_30, xs_nil, Nat.reduceAdd, true_implies, not_true_eq_false, not_false_eq_true, false_implies, and_true, true_and, x_10, xs_iconst_0, xs_istore_n_2_i, xs_istore_n_2_a, xs_istore_n_2_n, xs_istore_n_2_l, xs_iload_n_0, xs_iload_n_1, xs_istore_n_3_i, xs_istore_n_3_a, xs_istore_n_3_n, xs_istore_n_3_l, xs_iload_n_3, xs_if_eq, xs_iload_n_2, xs_bipush_6, xs_icmp_ge, xs_iinc_2_1_i, xs_iinc_2_1_a, xs_iinc_2_1_n, xs_goto, xs_ireturn]) ))
    refine ⟨fun q => fin, fun q => ⟨fun _ => fin, fun q2 => absurd (nI_le (a := 6) (b := l) (by omega) (by omega)) q2⟩⟩
  | succ d ih =>
    intro l a hi
    have ihT := ih (l + 1) (khead row a) (by omega)
    have c3 : xK 60 [.int row, .int a] h (some (.int (khead row a))) h := c_headOf
    refine xe_X2_levelOf_8 ?_
    (repeat (first | (simp only [xb_X2_levelOf_0, xb_X2_levelOf_8, xb_X2_levelOf_30, xs_nil, Nat.reduceAdd, true_implies, not_true_eq_false, not_false_eq_true, false_implies, and_true, true_and, x_10, xs_iconst_0, xs_istore_n_2_i, xs_istore_n_2_a, xs_istore_n_2_n, xs_istore_n_2_l, xs_iload_n_0, xs_iload_n_1, xs_istore_n_3_i, xs_istore_n_3_a, xs_istore_n_3_n, xs_istore_n_3_l, xs_iload_n_3, xs_if_eq, xs_iload_n_2, xs_bipush_6, xs_icmp_ge, xs_iinc_2_1_i, xs_iinc_2_1_a, xs_iinc_2_1_n, xs_goto, xs_ireturn]) ))
    unfold klev
    refine ⟨fun q => ?_, fun q => ⟨fun w => absurd w (nI_ge (a := l) (b := 6) (by omega) (by omega)), fun _ => ?_⟩⟩
    · rw [if_pos q]
      refine xe_X2_levelOf_30 ?_
      (repeat (first | (simp only [xb_X2_levelOf_0, xb_X2_levelOf_8, xb_X2_levelOf_30, xs_nil, Nat.reduceAdd, true_implies, not_true_eq_false, not_false_eq_true, false_implies, and_true, true_and, x_10, xs_iconst_0, xs_istore_n_2_i, xs_istore_n_2_a, xs_istore_n_2_n, xs_istore_n_2_l, xs_iload_n_0, xs_iload_n_1, xs_istore_n_3_i, xs_istore_n_3_a, xs_istore_n_3_n, xs_istore_n_3_l, xs_iload_n_3, xs_if_eq, xs_iload_n_2, xs_bipush_6, xs_icmp_ge, xs_iinc_2_1_i, xs_iinc_2_1_a, xs_iinc_2_1_n, xs_goto, xs_ireturn]) ))
      simp
    · rw [if_neg q]
      (repeat (first | (simp only [xb_X2_levelOf_0, xb_X2_levelOf_8, xb_X2_levelOf_30, xs_nil, Nat.reduceAdd, true_implies, not_true_eq_false, not_false_eq_true, false_implies, and_true, true_and, x_10, xs_iconst_0, xs_istore_n_2_i, xs_istore_n_2_a, xs_istore_n_2_n, xs_istore_n_2_l, xs_iload_n_0, xs_iload_n_1, xs_istore_n_3_i, xs_istore_n_3_a, xs_istore_n_3_n, xs_istore_n_3_l, xs_iload_n_3, xs_if_eq, xs_iload_n_2, xs_bipush_6, xs_icmp_ge, xs_iinc_2_1_i, xs_iinc_2_1_a, xs_iinc_2_1_n, xs_goto, xs_ireturn]) | refine xc_s2_1 (by decide) (c3) (Nat.le_of_ble_eq_true rfl) ?_))
      rw [nI_1]
      exact ihT
theorem c_levelOf : xK 113 [.int row, .int x1] h (some (.int (nI (klev row 6 (khead row x1) 0)))) h := by
  have c3 : xK 60 [.int row, .int x1] h (some (.int (khead row x1))) h := c_headOf
  refine xK_X2_levelOf (xe_X2_levelOf_0 ?_)
  (repeat (first | (simp only [xb_X2_levelOf_0, xb_X2_levelOf_8, xb_X2_levelOf_30, xs_nil, Nat.reduceAdd, true_implies, not_true_eq_false, not_false_eq_true, false_implies, and_true, true_and, x_10, xs_iconst_0, xs_istore_n_2_i, xs_istore_n_2_a, xs_istore_n_2_n, xs_istore_n_2_l, xs_iload_n_0, xs_iload_n_1, xs_istore_n_3_i, xs_istore_n_3_a, xs_istore_n_3_n, xs_istore_n_3_l, xs_iload_n_3, xs_if_eq, xs_iload_n_2, xs_bipush_6, xs_icmp_ge, xs_iinc_2_1_i, xs_iinc_2_1_a, xs_iinc_2_1_n, xs_goto, xs_ireturn]) | refine xc_s2_1 (by decide) (c3) (Nat.le_of_ble_eq_true rfl) ?_))
  exact l_levelOf 6 0 _ rfl
theorem klev_le (row : Int32) : ∀ (d : Nat) (a : Int32) (l : Nat), klev row d a l ≤ l + d
  | 0, _, l => Nat.le_refl l
  | d + 1, a, l => by
    unfold klev
    split
    · omega
    · have := klev_le row d (khead row a) (l + 1)
      omega
def kdeep (row : Int32) : Nat → Nat
  | 0 => 0
  | k + 1 => max (kdeep row k) (klev row 6 (khead row (nI (k + 1))) 0)
theorem kdeep_le (row : Int32) : ∀ k, kdeep row k ≤ 6
  | 0 => by simp [kdeep]
  | k + 1 => by
    have := kdeep_le row k
    have := klev_le row 6 (khead row (nI (k + 1))) 0
    unfold kdeep
    omega
theorem l_deepestLevel (hn : n < 7) : ∀ d k : Nat, k + d = n → x_EV 114 4 [some (.int row), some (.int (nI n)), some (.int (nI (kdeep row k))), some (.int (nI (k + 1)))] [] h (some (.int (nI (kdeep row n)))) h := by
  intro d
  induction d with
  | zero =>
    intro k hk
    have ek : k = n := by omega
    subst ek
    refine xe_X2_deepestLevel_4 ?_
    (repeat (first | (simp only [xb_X2_deepestLevel_0, xb_X2_deepestLevel_4, xb_X2_deepestLevel_25, xs_nil, Nat.reduceAdd, true_implies, not_true_eq_false, not_false_eq_true, false_implies, and_true, true_and, x_10, xs_iconst_0, xs_istore_n_2_i, xs_istore_n_2_a, xs_istore_n_2_n, xs_istore_n_2_l, xs_iconst_1, xs_istore_n_3_i, xs_istore_n_3_a, xs_istore_n_3_n, xs_istore_n_3_l, xs_iload_n_3, xs_iload_n_1, xs_icmp_gt, xs_iload_n_2, xs_iload_n_0, xs_iinc_3_1_i, xs_iinc_3_1_a, xs_iinc_3_1_n, xs_goto, xs_ireturn]) ))
    refine ⟨fun q => ?_, fun q => absurd (nI_lt (by omega) (by omega)) q⟩
    refine xe_X2_deepestLevel_25 ?_
    (repeat (first | (simp only [xb_X2_deepestLevel_0, xb_X2_deepestLevel_4, xb_X2_deepestLevel_25, xs_nil, Nat.reduceAdd, true_implies, not_true_eq_false, not_false_eq_true, false_implies, and_true, true_and, x_10, xs_iconst_0, xs_istore_n_2_i, xs_istore_n_2_a, xs_istore_n_2_n, xs_istore_n_2_l, xs_iconst_1, xs_istore_n_3_i, xs_istore_n_3_a, xs_istore_n_3_n, xs_istore_n_3_l, xs_iload_n_3, xs_iload_n_1, xs_icmp_gt, xs_iload_n_2, xs_iload_n_0, xs_iinc_3_1_i, xs_iinc_3_1_a, xs_iinc_3_1_n, xs_goto, xs_ireturn]) ))
    simp
  | succ d ih =>
    intro k hk
    have ihT := ih (k + 1) (by omega)
    have q1 := kdeep_le row k
    have q2 := klev_le row 6 (khead row (nI (k + 1))) 0
    have e : kdeep row (k + 1) = max (kdeep row k) (klev row 6 (khead row (nI (k + 1))) 0) := rfl
    rw [e] at ihT
    refine xe_X2_deepestLevel_4 ?_
    (repeat (first | (simp only [xb_X2_deepestLevel_0, xb_X2_deepestLevel_4, xb_X2_deepestLevel_25, xs_nil, Nat.reduceAdd, true_implies, not_true_eq_false, not_false_eq_true, false_implies, and_true, true_and, x_10, xs_iconst_0, xs_istore_n_2_i, xs_istore_n_2_a, xs_istore_n_2_n, xs_istore_n_2_l, xs_iconst_1, xs_istore_n_3_i, xs_istore_n_3_a, xs_istore_n_3_n, xs_istore_n_3_l, xs_iload_n_3, xs_iload_n_1, xs_icmp_gt, xs_iload_n_2, xs_iload_n_0, xs_iinc_3_1_i, xs_iinc_3_1_a, xs_iinc_3_1_n, xs_goto, xs_ireturn]) ))
    refine ⟨fun w => absurd w (nI_nlt (by omega) (by omega)), fun w => ?_⟩
    (repeat (first | (simp only [xb_X2_deepestLevel_0, xb_X2_deepestLevel_4, xb_X2_deepestLevel_25, xs_nil, Nat.reduceAdd, true_implies, not_true_eq_false, not_false_eq_true, false_implies, and_true, true_and, x_10, xs_iconst_0, xs_istore_n_2_i, xs_istore_n_2_a, xs_istore_n_2_n, xs_istore_n_2_l, xs_iconst_1, xs_istore_n_3_i, xs_istore_n_3_a, xs_istore_n_3_n, xs_istore_n_3_l, xs_iload_n_3, xs_iload_n_1, xs_icmp_gt, xs_iload_n_2, xs_iload_n_0, xs_iinc_3_1_i, xs_iinc_3_1_a, xs_iinc_3_1_n, xs_goto, xs_ireturn]) | refine xc_s2_1 (by decide) (c_levelOf) (Nat.le_of_ble_eq_true rfl) ?_ | (rw [xs_math_1002 (Nat.le_of_ble_eq_true rfl)])))
    rw [nI_1]
    generalize klev row 6 (khead row (nI (k + 1))) 0 = a at q2 ihT ⊢
    generalize kdeep row k = b at q1 ihT ⊢
    have e2 : (if nI b < nI a then nI a else nI b) = nI (max b a) := by
      by_cases hc : b < a
      · rw [if_pos (nI_lt hc (by omega)), Nat.max_eq_right (by omega)]
      · rw [if_neg (nI_nlt (by omega) (by omega)), Nat.max_eq_left (by omega)]
    rw [e2]
    exact ihT
theorem c_deepestLevel (hn : n < 7) : xK 114 [.int row, .int (nI n)] h (some (.int (nI (kdeep row n)))) h := by
  refine xK_X2_deepestLevel (xe_X2_deepestLevel_0 ?_)
  (repeat (first | (simp only [xb_X2_deepestLevel_0, xb_X2_deepestLevel_4, xb_X2_deepestLevel_25, xs_nil, Nat.reduceAdd, true_implies, not_true_eq_false, not_false_eq_true, false_implies, and_true, true_and, x_10, xs_iconst_0, xs_istore_n_2_i, xs_istore_n_2_a, xs_istore_n_2_n, xs_istore_n_2_l, xs_iconst_1, xs_istore_n_3_i, xs_istore_n_3_a, xs_istore_n_3_n, xs_istore_n_3_l, xs_iload_n_3, xs_iload_n_1, xs_icmp_gt, xs_iload_n_2, xs_iload_n_0, xs_iinc_3_1_i, xs_iinc_3_1_a, xs_iinc_3_1_n, xs_goto, xs_ireturn]) ))
  exact l_deepestLevel hn n 0 (by omega)
end RW
