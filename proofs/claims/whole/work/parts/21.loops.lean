/-! numbers, loops -/
theorem x_in {k n : Nat} (h : k < n) (hn : n < 2 ^ 31) : xin (nI k) n := ⟨nI_pos (by omega), by rw [nI_clamp (by omega)]; exact h⟩
theorem xg_n {l : List Int32} {k : Nat} (hk : k < 2 ^ 31) : xg l (nI k) = l.getD k 0 := by unfold xg; rw [nI_clamp hk]
theorem xu_n {l : List Int32} {k : Nat} {v : Int32} (hk : k < 2 ^ 31) : xu l (nI k) v = l.set k v := by unfold xu; rw [nI_clamp hk]
def xsum (l : List Int32) : Nat → Int32
  | 0 => 0
  | k + 1 => xsum l k + l.getD (k + 1) 0
section SE2
variable {g : Nat} {en ro co re su : List Int32} {ct x1 x2 x3 x4 : Int32} {h : xH} {n : Nat}
theorem l_sumOfRepairs (hb : x_hb h g (x_sc g en ro co re su ct)) (hct : ct = nI n) (hn : n < re.length) (hre : re.length < 2 ^ 31) : ∀ d k : Nat, k + d = n → x_EV 111 4 [some (.ref g), some (.int (xsum re k)), some (.int (nI (k + 1)))] [] h (some (.int (xsum re n))) h := by
  intro d
  induction d with
  | zero =>
    intro k hk
    refine xe_X4_sumOfRepairs_4 ?_
    (repeat (first | (simp only [xb_X4_sumOfRepairs_0, xb_X4_sumOfRepairs_4, xb_X4_sumOfRepairs_27, xs_nil, Nat.reduceAdd, true_implies, not_true_eq_false, not_false_eq_true, false_implies, and_true, true_and, x_10, xs_iconst_0, xs_istore_n_1_i, xs_istore_n_1_a, xs_istore_n_1_n, xs_istore_n_1_l, xs_iconst_1, xs_istore_n_2_i, xs_istore_n_2_a, xs_istore_n_2_n, xs_istore_n_2_l, xs_iload_n_2, xs_aload_n_0, xs_icmp_gt, xs_iload_n_1, xs_iadd, xs_iinc_2_1_i, xs_iinc_2_1_a, xs_iinc_2_1_n, xs_goto, xs_ireturn]) | (refine xr_getf (hb 0 _ rfl) (by rfl) ?_)))
    refine ⟨fun q => ?_, fun q => absurd (by rw [hct]; exact nI_lt (by omega) (by omega)) q⟩
    refine xe_X4_sumOfRepairs_27 ?_
    (repeat (first | (simp only [xb_X4_sumOfRepairs_0, xb_X4_sumOfRepairs_4, xb_X4_sumOfRepairs_27, xs_nil, Nat.reduceAdd, true_implies, not_true_eq_false, not_false_eq_true, false_implies, and_true, true_and, x_10, xs_iconst_0, xs_istore_n_1_i, xs_istore_n_1_a, xs_istore_n_1_n, xs_istore_n_1_l, xs_iconst_1, xs_istore_n_2_i, xs_istore_n_2_a, xs_istore_n_2_n, xs_istore_n_2_l, xs_iload_n_2, xs_aload_n_0, xs_icmp_gt, xs_iload_n_1, xs_iadd, xs_iinc_2_1_i, xs_iinc_2_1_a, xs_iinc_2_1_n, xs_goto, xs_ireturn]) ))
    rw [show k = n by omega]
    simp
  | succ d ih =>
    intro k hk
    refine xe_X4_sumOfRepairs_4 ?_
    (repeat' (first | (simp only [xb_X4_sumOfRepairs_0, xb_X4_sumOfRepairs_4, xb_X4_sumOfRepairs_27, xs_nil, Nat.reduceAdd, true_implies, not_true_eq_false, not_false_eq_true, false_implies, and_true, true_and, x_10, xs_iconst_0, xs_istore_n_1_i, xs_istore_n_1_a, xs_istore_n_1_n, xs_istore_n_1_l, xs_iconst_1, xs_istore_n_2_i, xs_istore_n_2_a, xs_istore_n_2_n, xs_istore_n_2_l, xs_iload_n_2, xs_aload_n_0, xs_icmp_gt, xs_iload_n_1, xs_iadd, xs_iinc_2_1_i, xs_iinc_2_1_a, xs_iinc_2_1_n, xs_goto, xs_ireturn]) | (refine ⟨fun _ => ?_, fun _ => ?_⟩) | refine xe_X4_sumOfRepairs_0 ?_ | refine xe_X4_sumOfRepairs_27 ?_ | (refine xr_getf (hb 0 _ rfl) (by rfl) ?_) | (refine xr_iaload (hb 4 _ rfl) (x_in (by omega) hre) ?_)))
    · rename_i q
      exact absurd q (by rw [hct]; exact nI_nlt (by omega) (by omega))
    · have := ih (k + 1) (by omega)
      rw [nI_1, xg_n (by omega)]
      exact this
theorem c_sumOfRepairs (hb : x_hb h g (x_sc g en ro co re su ct)) (hct : ct = nI n) (hn : n < re.length) (hre : re.length < 2 ^ 31) : xK 111 [.ref g] h (some (.int (xsum re n))) h := by
  refine xK_X4_sumOfRepairs (hb 0 _ rfl) (xe_X4_sumOfRepairs_0 ?_)
  simp only [xb_X4_sumOfRepairs_0, xb_X4_sumOfRepairs_4, xb_X4_sumOfRepairs_27, xs_nil, Nat.reduceAdd, true_implies, not_true_eq_false, not_false_eq_true, false_implies, and_true, true_and, x_10, xs_iconst_0, xs_istore_n_1_i, xs_istore_n_1_a, xs_istore_n_1_n, xs_istore_n_1_l, xs_iconst_1, xs_istore_n_2_i, xs_istore_n_2_a, xs_istore_n_2_n, xs_istore_n_2_l, xs_iload_n_2, xs_aload_n_0, xs_icmp_gt, xs_iload_n_1, xs_iadd, xs_iinc_2_1_i, xs_iinc_2_1_a, xs_iinc_2_1_n, xs_goto, xs_ireturn]
  exact l_sumOfRepairs hb hct hn hre n 0 (by omega)
theorem l_sumOfStumbles (hb : x_hb h g (x_sc g en ro co re su ct)) (hct : ct = nI n) (hn : n < su.length) (hre : su.length < 2 ^ 31) : ∀ d k : Nat, k + d = n → x_EV 103 4 [some (.ref g), some (.int (xsum su k)), some (.int (nI (k + 1)))] [] h (some (.int (xsum su n))) h := by
  intro d
  induction d with
  | zero =>
    intro k hk
    refine xe_X4_sumOfStumbles_4 ?_
    (repeat (first | (simp only [xb_X4_sumOfStumbles_0, xb_X4_sumOfStumbles_4, xb_X4_sumOfStumbles_27, xs_nil, Nat.reduceAdd, true_implies, not_true_eq_false, not_false_eq_true, false_implies, and_true, true_and, x_10, xs_iconst_0, xs_istore_n_1_i, xs_istore_n_1_a, xs_istore_n_1_n, xs_istore_n_1_l, xs_iconst_1, xs_istore_n_2_i, xs_istore_n_2_a, xs_istore_n_2_n, xs_istore_n_2_l, xs_iload_n_2, xs_aload_n_0, xs_icmp_gt, xs_iload_n_1, xs_iadd, xs_iinc_2_1_i, xs_iinc_2_1_a, xs_iinc_2_1_n, xs_goto, xs_ireturn]) | (refine xr_getf (hb 0 _ rfl) (by rfl) ?_)))
    refine ⟨fun q => ?_, fun q => absurd (by rw [hct]; exact nI_lt (by omega) (by omega)) q⟩
    refine xe_X4_sumOfStumbles_27 ?_
    (repeat (first | (simp only [xb_X4_sumOfStumbles_0, xb_X4_sumOfStumbles_4, xb_X4_sumOfStumbles_27, xs_nil, Nat.reduceAdd, true_implies, not_true_eq_false, not_false_eq_true, false_implies, and_true, true_and, x_10, xs_iconst_0, xs_istore_n_1_i, xs_istore_n_1_a, xs_istore_n_1_n, xs_istore_n_1_l, xs_iconst_1, xs_istore_n_2_i, xs_istore_n_2_a, xs_istore_n_2_n, xs_istore_n_2_l, xs_iload_n_2, xs_aload_n_0, xs_icmp_gt, xs_iload_n_1, xs_iadd, xs_iinc_2_1_i, xs_iinc_2_1_a, xs_iinc_2_1_n, xs_goto, xs_ireturn]) ))
    rw [show k = n by omega]
    simp
  | succ d ih =>
    intro k hk
    refine xe_X4_sumOfStumbles_4 ?_
    (repeat' (first | (simp only [xb_X4_sumOfStumbles_0, xb_X4_sumOfStumbles_4, xb_X4_sumOfStumbles_27, xs_nil, Nat.reduceAdd, true_implies, not_true_eq_false, not_false_eq_true, false_implies, and_true, true_and, x_10, xs_iconst_0, xs_istore_n_1_i, xs_istore_n_1_a, xs_istore_n_1_n, xs_istore_n_1_l, xs_iconst_1, xs_istore_n_2_i, xs_istore_n_2_a, xs_istore_n_2_n, xs_istore_n_2_l, xs_iload_n_2, xs_aload_n_0, xs_icmp_gt, xs_iload_n_1, xs_iadd, xs_iinc_2_1_i, xs_iinc_2_1_a, xs_iinc_2_1_n, xs_goto, xs_ireturn]) | (refine ⟨fun _ => ?_, fun _ => ?_⟩) | refine xe_X4_sumOfStumbles_0 ?_ | refine xe_X4_sumOfStumbles_27 ?_ | (refine xr_getf (hb 0 _ rfl) (by rfl) ?_) | (refine xr_iaload (hb 5 _ rfl) (x_in (by omega) hre) ?_)))
    · rename_i q
      exact absurd q (by rw [hct]; exact nI_nlt (by omega) (by omega))
    · have := ih (k + 1) (by omega)
      rw [nI_1, xg_n (by omega)]
      exact this
theorem c_sumOfStumbles (hb : x_hb h g (x_sc g en ro co re su ct)) (hct : ct = nI n) (hn : n < su.length) (hre : su.length < 2 ^ 31) : xK 103 [.ref g] h (some (.int (xsum su n))) h := by
  refine xK_X4_sumOfStumbles (hb 0 _ rfl) (xe_X4_sumOfStumbles_0 ?_)
  simp only [xb_X4_sumOfStumbles_0, xb_X4_sumOfStumbles_4, xb_X4_sumOfStumbles_27, xs_nil, Nat.reduceAdd, true_implies, not_true_eq_false, not_false_eq_true, false_implies, and_true, true_and, x_10, xs_iconst_0, xs_istore_n_1_i, xs_istore_n_1_a, xs_istore_n_1_n, xs_istore_n_1_l, xs_iconst_1, xs_istore_n_2_i, xs_istore_n_2_a, xs_istore_n_2_n, xs_istore_n_2_l, xs_iload_n_2, xs_aload_n_0, xs_icmp_gt, xs_iload_n_1, xs_iadd, xs_iinc_2_1_i, xs_iinc_2_1_a, xs_iinc_2_1_n, xs_goto, xs_ireturn]
  exact l_sumOfStumbles hb hct hn hre n 0 (by omega)
end SE2
section CP
/-- one block written in a heap that another block stays in -/
theorem xr_copy {nm : Nat → String} {tf : Nat → Nat → FieldType} {fn : Nat → Nat} {Pg : List xM} {X : xR} {j : Nat} {rt : Option FieldType} {r : Option Value} {h' : xH} {is : List xI} {n b pc : Nat} {ls : xL} {st : List Value} {h h0 : xH} {i g g2 : Nat} {cs cs2 : List xE} {l l2 : List Int32} {mm : Int32} (hl : g + cs.length ≤ h0.length) (e : x_wr h0 g cs = h) (hb : x_hb h g cs) (hb2 : x_hb h g2 cs2) (hd : g2 + cs2.length ≤ g ∨ g + cs.length ≤ g2) (k : Nat) (hk : cs[k]? = some (xi l)) (k2 : Nat) (hk2 : cs2[k2]? = some (xi l2)) (h2 : 2 ≤ g) (hll : l2.length = l.length) (hmm : mm = nI l.length) (hsm : l.length < 2 ^ 31) (h8 : (st.map Value.category).sum ≤ 8)
    (kk : ∀ h1 : xH, x_hb h1 g (cs.set k (xi l2)) → x_wr h0 g (cs.set k (xi l2)) = h1 → g + (cs.set k (xi l2)).length ≤ h0.length → x_hb h1 g2 cs2 → (g2 + cs2.length ≤ g ∨ g + (cs.set k (xi l2)).length ≤ g2) → x_ev nm tf fn Pg X j rt r h' is (pc + n) ls st h1) :
    x_ev nm tf fn Pg X j rt r h' ((.invokestatic i, n, 1001, b) :: is) pc ls (.int mm :: .int 0 :: .ref (g + k) :: .int 0 :: .ref (g2 + k2) :: st) h := by
  have hk' := (List.getElem?_eq_some_iff.mp hk).1
  obtain ⟨q1, q2⟩ := x_set_hb (e1 := xi l2) hl e hk'
  rw [xs_copy (by omega) (hb2 k2 _ hk2) (hb k _ hk) (by rw [hmm]; exact nI_pos hsm) (by rw [hmm, nI_clamp hsm, hll]) hll.symm h8]
  refine kk _ q1 q2 (by rw [List.length_set]; exact hl) (fun z e1 hz => ?_) (by rw [List.length_set]; exact hd)
  have hzl := (List.getElem?_eq_some_iff.mp hz).1
  rw [List.getElem?_set_ne (by omega)]
  exact hb2 z e1 hz
theorem xr_alen {nm : Nat → String} {tf : Nat → Nat → FieldType} {fn : Nat → Nat} {Pg : List xM} {X : xR} {j : Nat} {rt : Option FieldType} {r : Option Value} {h' : xH} {is : List xI} {n a b pc : Nat} {ls : xL} {st : List Value} {h : xH} {o : Nat} {l : List Int32} (ho : h[o]? = some (xi l)) (k : x_ev nm tf fn Pg X j rt r h' is (pc + n) ls (.int (nI l.length) :: st) h) : x_ev nm tf fn Pg X j rt r h' ((.arraylength, n, a, b) :: is) pc ls (.ref o :: st) h := by
  rw [xs_alen ho]
  exact k
variable {g g2 : Nat} {P R S X T P2 R2 S2 X2 T2 en ro co re su en2 ro2 co2 re2 su2 : List Int32} {ec ec2 ct ct2 : Int32} {h : xH}
theorem c_gcopy (hb : x_hb h g (x_gc g P R S X T ec)) (hb2 : x_hb h g2 (x_gc g2 P2 R2 S2 X2 T2 ec2)) (h2 : 2 ≤ g) (hd : g2 + 6 ≤ g ∨ g + 6 ≤ g2) (l1 : P2.length = P.length) (l2 : R2.length = R.length) (l3 : S2.length = S.length) (l4 : X2.length = X.length) (l5 : T2.length = T.length) (s1 : P.length < 2 ^ 31) (s2 : R.length < 2 ^ 31) (s3 : S.length < 2 ^ 31) (s4 : X.length < 2 ^ 31) (s5 : T.length < 2 ^ 31) : xK 19 [.ref g, .ref g2] h none (x_wr h g (x_gc g P2 R2 S2 X2 T2 ec2)) := by
  have hl := hb.fit (Nat.zero_lt_succ _)
  have e := hb.wr hl
  refine xK_X1_copyFrom (hb 0 _ rfl) (xe_X1_copyFrom_0 ?_)
  (repeat (first | (simp only [xb_X1_copyFrom_0, xs_nil, Nat.reduceAdd, true_implies, not_true_eq_false, not_false_eq_true, false_implies, and_true, true_and, x_10, xs_aload_n_1, xs_iconst_0, xs_aload_n_0, xs_return]) | (refine xr_getf (hb 0 _ rfl) (by rfl) ?_) | (refine xr_getf (hb2 0 _ rfl) (by rfl) ?_) | (refine xr_alen (hb 1 _ rfl) ?_) | (refine xr_alen (hb 2 _ rfl) ?_) | (refine xr_alen (hb 3 _ rfl) ?_) | (refine xr_alen (hb 4 _ rfl) ?_) | (refine xr_alen (hb 5 _ rfl) ?_) | (refine xr_copy hl e hb hb2 hd 1 (by rfl) 1 (by rfl) h2 l1 rfl s1 (Nat.le_of_ble_eq_true rfl) (fun h1 hb e hl hb2 hd => ?_)) | (refine xr_copy hl e hb hb2 hd 2 (by rfl) 2 (by rfl) h2 l2 rfl s2 (Nat.le_of_ble_eq_true rfl) (fun h1 hb e hl hb2 hd => ?_)) | (refine xr_copy hl e hb hb2 hd 3 (by rfl) 3 (by rfl) h2 l3 rfl s3 (Nat.le_of_ble_eq_true rfl) (fun h1 hb e hl hb2 hd => ?_)) | (refine xr_copy hl e hb hb2 hd 4 (by rfl) 4 (by rfl) h2 l4 rfl s4 (Nat.le_of_ble_eq_true rfl) (fun h1 hb e hl hb2 hd => ?_)) | (refine xr_copy hl e hb hb2 hd 5 (by rfl) 5 (by rfl) h2 l5 rfl s5 (Nat.le_of_ble_eq_true rfl) (fun h1 hb e hl hb2 hd => ?_)) | (refine xv_putf hl e hb 0 (by rfl) h2 (by exact Nat.le_of_ble_eq_true rfl) (by first | exact x_fit_int _ | exact x_fit_long _) (fun h1 hb e hl => ?_))))
  all_goals first | exact ⟨by simp, e⟩ | exact e | exact ⟨by simp, by simp, e⟩ | exact ⟨by simp, by simp_all, e⟩
theorem c_scopy (hb : x_hb h g (x_sc g en ro co re su ct)) (hb2 : x_hb h g2 (x_sc g2 en2 ro2 co2 re2 su2 ct2)) (h2 : 2 ≤ g) (hd : g2 + 6 ≤ g ∨ g + 6 ≤ g2) (l1 : en2.length = en.length) (l2 : ro2.length = ro.length) (l3 : co2.length = co.length) (l4 : re2.length = re.length) (l5 : su2.length = su.length) (s1 : en.length < 2 ^ 31) (s2 : ro.length < 2 ^ 31) (s3 : co.length < 2 ^ 31) (s4 : re.length < 2 ^ 31) (s5 : su.length < 2 ^ 31) : xK 20 [.ref g, .ref g2] h none (x_wr h g (x_sc g en2 ro2 co2 re2 su2 ct2)) := by
  have hl := hb.fit (Nat.zero_lt_succ _)
  have e := hb.wr hl
  refine xK_X4_copyFrom (hb 0 _ rfl) (xe_X4_copyFrom_0 ?_)
  (repeat (first | (simp only [xb_X4_copyFrom_0, xs_nil, Nat.reduceAdd, true_implies, not_true_eq_false, not_false_eq_true, false_implies, and_true, true_and, x_10, xs_aload_n_1, xs_iconst_0, xs_aload_n_0, xs_return]) | (refine xr_getf (hb 0 _ rfl) (by rfl) ?_) | (refine xr_getf (hb2 0 _ rfl) (by rfl) ?_) | (refine xr_alen (hb 1 _ rfl) ?_) | (refine xr_alen (hb 2 _ rfl) ?_) | (refine xr_alen (hb 3 _ rfl) ?_) | (refine xr_alen (hb 4 _ rfl) ?_) | (refine xr_alen (hb 5 _ rfl) ?_) | (refine xr_copy hl e hb hb2 hd 1 (by rfl) 1 (by rfl) h2 l1 rfl s1 (Nat.le_of_ble_eq_true rfl) (fun h1 hb e hl hb2 hd => ?_)) | (refine xr_copy hl e hb hb2 hd 2 (by rfl) 2 (by rfl) h2 l2 rfl s2 (Nat.le_of_ble_eq_true rfl) (fun h1 hb e hl hb2 hd => ?_)) | (refine xr_copy hl e hb hb2 hd 3 (by rfl) 3 (by rfl) h2 l3 rfl s3 (Nat.le_of_ble_eq_true rfl) (fun h1 hb e hl hb2 hd => ?_)) | (refine xr_copy hl e hb hb2 hd 4 (by rfl) 4 (by rfl) h2 l4 rfl s4 (Nat.le_of_ble_eq_true rfl) (fun h1 hb e hl hb2 hd => ?_)) | (refine xr_copy hl e hb hb2 hd 5 (by rfl) 5 (by rfl) h2 l5 rfl s5 (Nat.le_of_ble_eq_true rfl) (fun h1 hb e hl hb2 hd => ?_)) | (refine xv_putf hl e hb 0 (by rfl) h2 (by exact Nat.le_of_ble_eq_true rfl) (by first | exact x_fit_int _ | exact x_fit_long _) (fun h1 hb e hl => ?_))))
  all_goals first | exact ⟨by simp, e⟩ | exact e | exact ⟨by simp, by simp, e⟩ | exact ⟨by simp, by simp_all, e⟩
end CP
/-! State: a Grammar and a Sentence -/
def x_tc (p : Nat) (P R S X T : List Int32) (ec : Int32) (en ro co re su : List Int32) (ct : Int32) : List xE := [.inr (5, [.ref (p + 1), .ref (p + 7)])] ++ x_gc (p + 1) P R S X T ec ++ x_sc (p + 7) en ro co re su ct
section ST
variable {p p2 : Nat} {P R S X T P2 R2 S2 X2 T2 en ro co re su en2 ro2 co2 re2 su2 : List Int32} {ec ec2 ct ct2 : Int32} {h : xH}
theorem x_tc_g (hb : x_hb h p (x_tc p P R S X T ec en ro co re su ct)) : x_hb h (p + 1) (x_gc (p + 1) P R S X T ec) := x_hb.part (a := [.inr (5, [.ref (p + 1), .ref (p + 7)])]) hb
theorem x_tc_s (hb : x_hb h p (x_tc p P R S X T ec en ro co re su ct)) : x_hb h (p + 7) (x_sc (p + 7) en ro co re su ct) := by
  have : x_hb h p (([.inr (5, [.ref (p + 1), .ref (p + 7)])] ++ x_gc (p + 1) P R S X T ec) ++ x_sc (p + 7) en ro co re su ct ++ []) := by
    rw [List.append_nil]
    exact hb
  exact x_hb.part this
theorem x_tc_gw (hb : x_hb h p (x_tc p P R S X T ec en ro co re su ct)) : x_wr h (p + 1) (x_gc (p + 1) P2 R2 S2 X2 T2 ec2) = x_wr h p (x_tc p P2 R2 S2 X2 T2 ec2 en ro co re su ct) :=
  x_wr_part (a := [.inr (5, [.ref (p + 1), .ref (p + 7)])]) (b := x_gc (p + 1) P R S X T ec) hb (hb.fit (Nat.zero_lt_succ _)) rfl
theorem x_tc_sw (hb : x_hb h p (x_tc p P R S X T ec en ro co re su ct)) : x_wr h (p + 7) (x_sc (p + 7) en2 ro2 co2 re2 su2 ct2) = x_wr h p (x_tc p P R S X T ec en2 ro2 co2 re2 su2 ct2) := by
  have hb' : x_hb h p (([.inr (5, [.ref (p + 1), .ref (p + 7)])] ++ x_gc (p + 1) P R S X T ec) ++ x_sc (p + 7) en ro co re su ct ++ []) := by
    rw [List.append_nil]
    exact hb
  have := x_wr_part (b2 := x_sc (p + 7) en2 ro2 co2 re2 su2 ct2) hb' (hb'.fit (Nat.zero_lt_succ _)) rfl
  rw [List.append_nil] at this
  exact this
theorem c_tcopy (hb : x_hb h p (x_tc p P R S X T ec en ro co re su ct)) (hb2 : x_hb h p2 (x_tc p2 P2 R2 S2 X2 T2 ec2 en2 ro2 co2 re2 su2 ct2)) (h2 : 2 ≤ p) (hd : p2 + 13 ≤ p ∨ p + 13 ≤ p2) (l1 : P2.length = P.length) (l2 : R2.length = R.length) (l3 : S2.length = S.length) (l4 : X2.length = X.length) (l5 : T2.length = T.length) (s1 : P.length < 2 ^ 31) (s2 : R.length < 2 ^ 31) (s3 : S.length < 2 ^ 31) (s4 : X.length < 2 ^ 31) (s5 : T.length < 2 ^ 31) (l6 : en2.length = en.length) (l7 : ro2.length = ro.length) (l8 : co2.length = co.length) (l9 : re2.length = re.length) (l10 : su2.length = su.length) (s6 : en.length < 2 ^ 31) (s7 : ro.length < 2 ^ 31) (s8 : co.length < 2 ^ 31) (s9 : re.length < 2 ^ 31) (s10 : su.length < 2 ^ 31) : xK 21 [.ref p, .ref p2] h none (x_wr h p (x_tc p P2 R2 S2 X2 T2 ec2 en2 ro2 co2 re2 su2 ct2)) := by
  have hl := hb.fit (Nat.zero_lt_succ _)
  have hl2 := hb2.fit (Nat.zero_lt_succ _)
  have w1 := x_tc_gw (P2 := P2) (R2 := R2) (S2 := S2) (X2 := X2) (T2 := T2) (ec2 := ec2) hb
  have hb3 : x_hb (x_wr h p (x_tc p P2 R2 S2 X2 T2 ec2 en ro co re su ct)) p (x_tc p P2 R2 S2 X2 T2 ec2 en ro co re su ct) := x_hb_wr hl
  have hb4 : x_hb (x_wr h p (x_tc p P2 R2 S2 X2 T2 ec2 en ro co re su ct)) p2 (x_tc p2 P2 R2 S2 X2 T2 ec2 en2 ro2 co2 re2 su2 ct2) := hb2.off hl hd
  have w2 := x_tc_sw (en2 := en2) (ro2 := ro2) (co2 := co2) (re2 := re2) (su2 := su2) (ct2 := ct2) hb3
  have w3 : x_wr (x_wr h p (x_tc p P2 R2 S2 X2 T2 ec2 en ro co re su ct)) p (x_tc p P2 R2 S2 X2 T2 ec2 en2 ro2 co2 re2 su2 ct2) = x_wr h p (x_tc p P2 R2 S2 X2 T2 ec2 en2 ro2 co2 re2 su2 ct2) := x_wr_wr (a := x_tc p P2 R2 S2 X2 T2 ec2 en ro co re su ct) hl rfl
  refine xK_X6_copyFrom (hb 0 _ rfl) (xe_X6_copyFrom_0 ?_)
  (repeat (first | (simp only [xb_X6_copyFrom_0, xs_nil, Nat.reduceAdd, true_implies, not_true_eq_false, not_false_eq_true, false_implies, and_true, true_and, x_10, xs_aload_n_0, xs_aload_n_1, xs_return]) | (refine xr_getf (hb 0 _ rfl) (by rfl) ?_) | (refine xr_getf (hb2 0 _ rfl) (by rfl) ?_)))
  refine xc_v2_0 (h1 := x_wr h p (x_tc p P2 R2 S2 X2 T2 ec2 en ro co re su ct)) (w1 ▸ c_gcopy (x_tc_g hb) (x_tc_g hb2) (by omega) (by omega) l1 l2 l3 l4 l5 s1 s2 s3 s4 s5) (Nat.le_of_ble_eq_true rfl) ?_
  generalize hq : x_wr h p (x_tc p P2 R2 S2 X2 T2 ec2 en ro co re su ct) = q at hb3 hb4 w2 w3 ⊢
  (repeat (first | (simp only [xb_X6_copyFrom_0, xs_nil, Nat.reduceAdd, true_implies, not_true_eq_false, not_false_eq_true, false_implies, and_true, true_and, x_10, xs_aload_n_0, xs_aload_n_1, xs_return]) | (refine xr_getf (hb3 0 _ rfl) (by rfl) ?_) | (refine xr_getf (hb4 0 _ rfl) (by rfl) ?_)))
  refine xc_v2_0 (h1 := x_wr h p (x_tc p P2 R2 S2 X2 T2 ec2 en2 ro2 co2 re2 su2 ct2)) (w3 ▸ w2 ▸ c_scopy (x_tc_s hb3) (x_tc_s hb4) (by omega) (by omega) l6 l7 l8 l9 l10 s6 s7 s8 s9 s10) (Nat.le_of_ble_eq_true rfl) ?_
  (repeat (first | (simp only [xb_X6_copyFrom_0, xs_nil, Nat.reduceAdd, true_implies, not_true_eq_false, not_false_eq_true, false_implies, and_true, true_and, x_10, xs_aload_n_0, xs_aload_n_1, xs_return]) ))
  all_goals simp
end ST
