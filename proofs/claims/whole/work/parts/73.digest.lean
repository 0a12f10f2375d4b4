/-! digest: the class -/
def dg (f : Nat → Int32) (D : Int64) : Nat → Int64
  | 0 => D
  | q + 1 => Int64.ofNat 31 * dg f D q + (f q).toInt64
theorem dg_add {f : Nat → Int32} {D : Int64} {a : Nat} : ∀ b, dg f D (a + b) = dg (fun i => f (a + i)) (dg f D a) b
  | 0 => rfl
  | b + 1 => by
    show Int64.ofNat 31 * dg f D (a + b) + (f (a + b)).toInt64 = Int64.ofNat 31 * dg (fun i => f (a + i)) (dg f D a) b + (f (a + b)).toInt64
    rw [dg_add b]
theorem dg_congr {f g : Nat → Int32} {D : Int64} : ∀ n, (∀ q, q < n → f q = g q) → dg f D n = dg g D n
  | 0, _ => rfl
  | n + 1, h => by
    show Int64.ofNat 31 * dg f D n + (f n).toInt64 = Int64.ofNat 31 * dg g D n + (g n).toInt64
    rw [dg_congr n (fun q hq => h q (by omega)), h n (by omega)]
/-- the words' -/
def dgw (s : kS) (D : Int64) : Nat → Int64
  | 0 => D
  | q + 1 => dg (wval s (q + 1)) (dgw s D q) 6
def oval (s : kS) (e i : Nat) : Int32 := if i = 2 then (sX s).getD e 0 else (sS s).getD (2 * e + i) 0
/-- the entries' -/
def dge (s : kS) (D : Int64) : Nat → Int64
  | 0 => D
  | q + 1 => dg (oval s q) (dge s D q) 3
/-- the rules' of one sort -/
def dgr1 (P : List Int32) (a : Nat) (D : Int64) : Nat → Int64
  | 0 => D
  | q + 1 => dg (fun i => P.getD (12 * a + 2 * q + i) 0) (dgr1 P a D q) 2
def dgr (P : List Int32) (D : Int64) : Nat → Int64
  | 0 => D
  | q + 1 => dgr1 P q (dgr P D q) 6
theorem dgr1_eq {P : List Int32} {D : Int64} {a : Nat} : ∀ q, dgr1 P a D q = dg (fun i => P.getD (12 * a + i) 0) D (2 * q)
  | 0 => rfl
  | q + 1 => by
    show dg (fun i => P.getD (12 * a + 2 * q + i) 0) (dgr1 P a D q) 2 = dg (fun i => P.getD (12 * a + i) 0) D (2 * q + 2)
    rw [dg_add (a := 2 * q) 2, dgr1_eq q]
    refine dg_congr 2 (fun i _ => ?_)
    rw [Nat.add_assoc]
theorem dgr_eq {P : List Int32} {D : Int64} : ∀ q, dgr P D q = dg (fun i => P.getD i 0) D (12 * q)
  | 0 => rfl
  | q + 1 => by
    show dgr1 P q (dgr P D q) 6 = dg (fun i => P.getD i 0) D (12 * q + 12)
    rw [dgr1_eq, dg_add (a := 12 * q) 12, dgr_eq q]
def dig (s : kS) (ct : Nat) (ln : Int32) (rf : List Int32) : Int64 := Int64.ofNat 31 * dgr (sP s) (dg (fun i => (sR s).getD i 0) (dge s (dgw s (dg (hval s) (dg (tv s ct ln rf) (Int64.ofNat 2605) 9) 7) (sn s)) (sne s)) 6) 6 + (if sndB s = true then (1 : Int32) else 0).toInt64
section DG
variable {h : xH} {s : kS} {k : kC} {sh : Nat → kS} {nx ct : Nat} {tx : List Int32} {ln : Int32} {rf : List Int32} {nw pa : List Int32} {D : Int64} {r : Option Value} {h' : xH}
theorem c7_of (B : cW h s k sh nx ct tx ln rf) (hv : sv s) {e i : Nat} (he : e < sne s) (hi : i < 3) : xK 54 [.ref 2, .int (nI e), .int (nI i)] h (some (.int (oval s e i))) h := by
  have hne := hv.ne
  have c1 := c_hasEntry (x1 := nI e) (x_tc_g B.hs)
  rw [hv.ec, if_pos ⟨nI_pos' (by omega), nI_lt he (by omega)⟩] at c1
  have c2 := c_isBelow (x1 := nI i) (x2 := 3) (h := h)
  rw [if_pos ⟨nI_pos' (by omega), nI_lt (b := 3) hi (by decide)⟩] at c2
  have es : nI e * 2 + nI i = nI (2 * e + i) := by rw [show (2 : Int32) = nI 2 from rfl, pk_mul, nI_add, Nat.mul_comm]
  have c4 := c_extraOf (x1 := nI e) (x2 := 1) (x_tc_g B.hs) (fun _ => by rw [hv.lX]; exact x_in (by omega) (by decide))
  rw [if_pos rfl, xg_n (by omega)] at c4
  refine xK_X7_of (B.hp 0 _ rfl) (xe_X7_of_0 ?_)
  (repeat (first | (simp only [xb_X7_of_0, xb_X7_of_22, xb_X7_of_29, xb_X7_of_49, xb_X7_of_61, xs_nil, Nat.reduceAdd, true_implies, not_true_eq_false, not_false_eq_true, false_implies, and_true, true_and, x_10, xs_aload_n_0, xs_iload_n_1, xs_if_eq, xs_iload_n_2, xs_iconst_3, xs_if_ne, xs_bipush_m2, xs_ireturn, xs_iconst_2, xs_icmp_ge, xs_goto, xs_iconst_1]) | (refine xr_getf (B.hp 0 _ rfl) (by rfl) ?_) | (refine xr_getf (B.hs 0 _ rfl) (by rfl) ?_) | (refine xr_getf (B.hs 1 _ rfl) (by rfl) ?_) | (refine xr_getf (B.hs 7 _ rfl) (by rfl) ?_) | refine xc_v2_1 (c1) (Nat.le_of_ble_eq_true rfl) ?_ | refine xc_s2_1 (by decide) (c2) (Nat.le_of_ble_eq_true rfl) ?_))
  refine xe_X7_of_29 ?_
  (repeat (first | (simp only [xb_X7_of_0, xb_X7_of_22, xb_X7_of_29, xb_X7_of_49, xb_X7_of_61, xs_nil, Nat.reduceAdd, true_implies, not_true_eq_false, not_false_eq_true, false_implies, and_true, true_and, x_10, xs_aload_n_0, xs_iload_n_1, xs_if_eq, xs_iload_n_2, xs_iconst_3, xs_if_ne, xs_bipush_m2, xs_ireturn, xs_iconst_2, xs_icmp_ge, xs_goto, xs_iconst_1]) ))
  by_cases hb2 : i < 2
  · have c3 := c_sortOf (x1 := nI e) (x2 := nI i) (x_tc_g B.hs) (by rw [es, hv.lS]; exact x_in (by omega) (by decide))
    rw [es, xg_n (by omega)] at c3
    refine ⟨fun z => absurd z (nI_ge (b := 2) hb2 (by decide)), fun _ => ?_⟩
    (repeat (first | (simp only [xb_X7_of_0, xb_X7_of_22, xb_X7_of_29, xb_X7_of_49, xb_X7_of_61, xs_nil, Nat.reduceAdd, true_implies, not_true_eq_false, not_false_eq_true, false_implies, and_true, true_and, x_10, xs_aload_n_0, xs_iload_n_1, xs_if_eq, xs_iload_n_2, xs_iconst_3, xs_if_ne, xs_bipush_m2, xs_ireturn, xs_iconst_2, xs_icmp_ge, xs_goto, xs_iconst_1]) | (refine xr_getf (B.hp 0 _ rfl) (by rfl) ?_) | (refine xr_getf (B.hs 0 _ rfl) (by rfl) ?_) | (refine xr_getf (B.hs 1 _ rfl) (by rfl) ?_) | (refine xr_getf (B.hs 7 _ rfl) (by rfl) ?_) | refine xc_v3_1 (c3) (Nat.le_of_ble_eq_true rfl) ?_))
    refine xe_X7_of_61 ?_
    (repeat (first | (simp only [xb_X7_of_0, xb_X7_of_22, xb_X7_of_29, xb_X7_of_49, xb_X7_of_61, xs_nil, Nat.reduceAdd, true_implies, not_true_eq_false, not_false_eq_true, false_implies, and_true, true_and, x_10, xs_aload_n_0, xs_iload_n_1, xs_if_eq, xs_iload_n_2, xs_iconst_3, xs_if_ne, xs_bipush_m2, xs_ireturn, xs_iconst_2, xs_icmp_ge, xs_goto, xs_iconst_1]) ))
    have eo : oval s e i = (sS s).getD (2 * e + i) 0 := if_neg (by omega)
    rw [eo]
    (first | exact ⟨Or.inl trivial, rfl⟩ | exact ⟨Or.inl trivial, rfl, rfl⟩ | (simp; done) | exact ⟨by simp, rfl⟩ | exact ⟨by simp, rfl, rfl⟩ | rfl)
  · have hb3 : i = 2 := by omega
    subst hb3
    refine ⟨fun _ => ?_, fun z => absurd (by decide) z⟩
    refine xe_X7_of_49 ?_
    (repeat (first | (simp only [xb_X7_of_0, xb_X7_of_22, xb_X7_of_29, xb_X7_of_49, xb_X7_of_61, xs_nil, Nat.reduceAdd, true_implies, not_true_eq_false, not_false_eq_true, false_implies, and_true, true_and, x_10, xs_aload_n_0, xs_iload_n_1, xs_if_eq, xs_iload_n_2, xs_iconst_3, xs_if_ne, xs_bipush_m2, xs_ireturn, xs_iconst_2, xs_icmp_ge, xs_goto, xs_iconst_1]) | (refine xr_getf (B.hp 0 _ rfl) (by rfl) ?_) | (refine xr_getf (B.hs 0 _ rfl) (by rfl) ?_) | (refine xr_getf (B.hs 1 _ rfl) (by rfl) ?_) | (refine xr_getf (B.hs 7 _ rfl) (by rfl) ?_) | refine xc_v3_1 (c4) (Nat.le_of_ble_eq_true rfl) ?_))
    refine xe_X7_of_61 ?_
    (repeat (first | (simp only [xb_X7_of_0, xb_X7_of_22, xb_X7_of_29, xb_X7_of_49, xb_X7_of_61, xs_nil, Nat.reduceAdd, true_implies, not_true_eq_false, not_false_eq_true, false_implies, and_true, true_and, x_10, xs_aload_n_0, xs_iload_n_1, xs_if_eq, xs_iload_n_2, xs_iconst_3, xs_if_ne, xs_bipush_m2, xs_ireturn, xs_iconst_2, xs_icmp_ge, xs_goto, xs_iconst_1]) ))
    have eo : oval s e 2 = (sX s).getD e 0 := rfl
    rw [eo]
    (first | exact ⟨Or.inl trivial, rfl⟩ | exact ⟨Or.inl trivial, rfl, rfl⟩ | (simp; done) | exact ⟨by simp, rfl⟩ | exact ⟨by simp, rfl, rfl⟩ | rfl)
theorem c7_rule (B : cW h s k sh nx ct tx ln rf) (hv : sv s) {a b d : Nat} (ha : a < 6) (hb : b < 6) (hd : d < 2) : xK 49 [.ref 2, .int (nI a), .int (nI b), .int (nI d)] h (some (.int ((sP s).getD (12 * a + 2 * b + d) 0))) h := by
  have ei : (nI a * 6 + nI b) * 2 + nI d = nI (12 * a + 2 * b + d) := by
    rw [show (6 : Int32) = nI 6 from rfl, show (2 : Int32) = nI 2 from rfl, pk_mul, nI_add, pk_mul, nI_add]
    congr 1
    omega
  have c1 := c_isRulePlace (x1 := nI a) (x2 := nI b) (x3 := nI d) (h := h)
  rw [if_pos ⟨⟨nI_pos' (by omega), nI_lt (b := 6) ha (by decide)⟩, ⟨nI_pos' (by omega), nI_lt (b := 6) hb (by decide)⟩, nI_pos' (by omega), nI_lt (b := 2) hd (by decide)⟩] at c1
  have c2 := c_price (x1 := nI a) (x2 := nI b) (x3 := nI d) (x_tc_g B.hs) (by rw [ei, hv.lP]; exact x_in (by omega) (by decide))
  rw [ei, xg_n (by omega)] at c2
  refine xK_X7_rule (B.hp 0 _ rfl) (xe_X7_rule_0 ?_)
  (repeat (first | (simp only [xb_X7_rule_0, xb_X7_rule_16, xs_nil, Nat.reduceAdd, true_implies, not_true_eq_false, not_false_eq_true, false_implies, and_true, true_and, x_10, xs_iload_n_1, xs_iload_n_2, xs_iload_n_3, xs_if_ne, xs_aload_n_0, xs_bipush_m2, xs_ireturn]) | refine xc_s3_1 (by decide) (c1) (Nat.le_of_ble_eq_true rfl) ?_))
  refine xe_X7_rule_16 ?_
  (repeat (first | (simp only [xb_X7_rule_0, xb_X7_rule_16, xs_nil, Nat.reduceAdd, true_implies, not_true_eq_false, not_false_eq_true, false_implies, and_true, true_and, x_10, xs_iload_n_1, xs_iload_n_2, xs_iload_n_3, xs_if_ne, xs_aload_n_0, xs_bipush_m2, xs_ireturn]) | (refine xr_getf (B.hp 0 _ rfl) (by rfl) ?_) | (refine xr_getf (B.hs 0 _ rfl) (by rfl) ?_) | (refine xr_getf (B.hs 1 _ rfl) (by rfl) ?_) | (refine xr_getf (B.hs 7 _ rfl) (by rfl) ?_) | refine xc_v4_1 (c2) (Nat.le_of_ble_eq_true rfl) ?_))
  (first | exact ⟨Or.inl trivial, rfl⟩ | exact ⟨Or.inl trivial, rfl, rfl⟩ | (simp; done) | exact ⟨by simp, rfl⟩ | exact ⟨by simp, rfl, rfl⟩ | rfl)
/-- held, then the words -/
theorem l7_heldD (B : cW h s k sh nx ct tx ln rf) (hv : sv s) {x : Int64} (fin : ∀ a b : Option Value, x_EV 172 32 [some (.ref 2), some (.long x), none, some (.long (dg (hval s) D 7)), none, a, b] [] h r h') : ∀ (d q : Nat) (b : Option Value), q + d = 7 → x_EV 172 5 [some (.ref 2), some (.long x), none, some (.long (dg (hval s) D q)), none, some (.int (nI q)), b] [] h r h' := by
  intro d
  induction d with
  | zero =>
    intro q b hq
    have eq : q = 7 := by omega
    subst eq
    refine xe_X7_digestOfSentence_5 ?_
    (repeat (first | (simp only [xb_X7_digestOfSentence_0, xb_X7_digestOfSentence_5, xb_X7_digestOfSentence_32, xb_X7_digestOfSentence_35, xb_X7_digestOfSentence_53, xb_X7_digestOfSentence_81, xb_X7_digestOfSentence_87, xs_nil, Nat.reduceAdd, true_implies, not_true_eq_false, not_false_eq_true, false_implies, and_true, true_and, x_10, xs_lload_n_1, xs_lstore_n_3_i, xs_lstore_n_3_a, xs_lstore_n_3_n, xs_lstore_n_3_l, xs_iconst_0, xs_istore_5_i, xs_istore_5_a, xs_istore_5_n, xs_istore_5_l, xs_iload_5, xs_bipush_6, xs_icmp_gt, xs_ldc2, xs_lload_n_3, xs_lmul, xs_aload_n_0, xs_i2l, xs_ladd, xs_iinc_5_1_i, xs_iinc_5_1_a, xs_iinc_5_1_n, xs_goto, xs_iconst_1, xs_istore_6_i, xs_istore_6_a, xs_istore_6_n, xs_istore_6_l, xs_iload_6, xs_iconst_5, xs_iinc_6_1_i, xs_iinc_6_1_a, xs_iinc_6_1_n, xs_lreturn]) ))
    exact ⟨fun _ => fin _ _, fun z => absurd (nI_lt (a := 6) (b := 7) (by decide) (by decide)) z⟩
  | succ d ih =>
    intro q b hq
    have ihT := ih (q + 1) b (by omega)
    have c := c7_held B hv (i := q) (by omega)
    refine xe_X7_digestOfSentence_5 ?_
    (repeat (first | (simp only [xb_X7_digestOfSentence_0, xb_X7_digestOfSentence_5, xb_X7_digestOfSentence_32, xb_X7_digestOfSentence_35, xb_X7_digestOfSentence_53, xb_X7_digestOfSentence_81, xb_X7_digestOfSentence_87, xs_nil, Nat.reduceAdd, true_implies, not_true_eq_false, not_false_eq_true, false_implies, and_true, true_and, x_10, xs_lload_n_1, xs_lstore_n_3_i, xs_lstore_n_3_a, xs_lstore_n_3_n, xs_lstore_n_3_l, xs_iconst_0, xs_istore_5_i, xs_istore_5_a, xs_istore_5_n, xs_istore_5_l, xs_iload_5, xs_bipush_6, xs_icmp_gt, xs_ldc2, xs_lload_n_3, xs_lmul, xs_aload_n_0, xs_i2l, xs_ladd, xs_iinc_5_1_i, xs_iinc_5_1_a, xs_iinc_5_1_n, xs_goto, xs_iconst_1, xs_istore_6_i, xs_istore_6_a, xs_istore_6_n, xs_istore_6_l, xs_iload_6, xs_iconst_5, xs_iinc_6_1_i, xs_iinc_6_1_a, xs_iinc_6_1_n, xs_lreturn]) ))
    refine ⟨fun z => absurd z (nI_nlt (a := 6) (by omega) (by decide)), fun _ => ?_⟩
    (repeat (first | (simp only [xb_X7_digestOfSentence_0, xb_X7_digestOfSentence_5, xb_X7_digestOfSentence_32, xb_X7_digestOfSentence_35, xb_X7_digestOfSentence_53, xb_X7_digestOfSentence_81, xb_X7_digestOfSentence_87, xs_nil, Nat.reduceAdd, true_implies, not_true_eq_false, not_false_eq_true, false_implies, and_true, true_and, x_10, xs_lload_n_1, xs_lstore_n_3_i, xs_lstore_n_3_a, xs_lstore_n_3_n, xs_lstore_n_3_l, xs_iconst_0, xs_istore_5_i, xs_istore_5_a, xs_istore_5_n, xs_istore_5_l, xs_iload_5, xs_bipush_6, xs_icmp_gt, xs_ldc2, xs_lload_n_3, xs_lmul, xs_aload_n_0, xs_i2l, xs_ladd, xs_iinc_5_1_i, xs_iinc_5_1_a, xs_iinc_5_1_n, xs_goto, xs_iconst_1, xs_istore_6_i, xs_istore_6_a, xs_istore_6_n, xs_istore_6_l, xs_iload_6, xs_iconst_5, xs_iinc_6_1_i, xs_iinc_6_1_a, xs_iinc_6_1_n, xs_lreturn]) | refine xc_v2_1 (c) (Nat.le_of_ble_eq_true rfl) ?_))
    rw [nI_1]
    exact ihT
theorem l7_wordD (B : cW h s k sh nx ct tx ln rf) (hv : sv s) {x : Int64} {w : Nat} (h1 : 1 ≤ w) (hw : w ≤ sn s) (fin : ∀ b : Option Value, x_EV 172 81 [some (.ref 2), some (.long x), none, some (.long (dg (wval s w) D 6)), none, some (.int (nI w)), b] [] h r h') : ∀ (d q : Nat), q + d = 6 → x_EV 172 53 [some (.ref 2), some (.long x), none, some (.long (dg (wval s w) D q)), none, some (.int (nI w)), some (.int (nI q))] [] h r h' := by
  intro d
  induction d with
  | zero =>
    intro q hq
    have eq : q = 6 := by omega
    subst eq
    refine xe_X7_digestOfSentence_53 ?_
    (repeat (first | (simp only [xb_X7_digestOfSentence_0, xb_X7_digestOfSentence_5, xb_X7_digestOfSentence_32, xb_X7_digestOfSentence_35, xb_X7_digestOfSentence_53, xb_X7_digestOfSentence_81, xb_X7_digestOfSentence_87, xs_nil, Nat.reduceAdd, true_implies, not_true_eq_false, not_false_eq_true, false_implies, and_true, true_and, x_10, xs_lload_n_1, xs_lstore_n_3_i, xs_lstore_n_3_a, xs_lstore_n_3_n, xs_lstore_n_3_l, xs_iconst_0, xs_istore_5_i, xs_istore_5_a, xs_istore_5_n, xs_istore_5_l, xs_iload_5, xs_bipush_6, xs_icmp_gt, xs_ldc2, xs_lload_n_3, xs_lmul, xs_aload_n_0, xs_i2l, xs_ladd, xs_iinc_5_1_i, xs_iinc_5_1_a, xs_iinc_5_1_n, xs_goto, xs_iconst_1, xs_istore_6_i, xs_istore_6_a, xs_istore_6_n, xs_istore_6_l, xs_iload_6, xs_iconst_5, xs_iinc_6_1_i, xs_iinc_6_1_a, xs_iinc_6_1_n, xs_lreturn]) ))
    exact ⟨fun _ => fin _, fun z => absurd (nI_lt (a := 5) (b := 6) (by decide) (by decide)) z⟩
  | succ d ih =>
    intro q hq
    have ihT := ih (q + 1) (by omega)
    have c := c7_word B hv h1 hw (i := q) (by omega)
    refine xe_X7_digestOfSentence_53 ?_
    (repeat (first | (simp only [xb_X7_digestOfSentence_0, xb_X7_digestOfSentence_5, xb_X7_digestOfSentence_32, xb_X7_digestOfSentence_35, xb_X7_digestOfSentence_53, xb_X7_digestOfSentence_81, xb_X7_digestOfSentence_87, xs_nil, Nat.reduceAdd, true_implies, not_true_eq_false, not_false_eq_true, false_implies, and_true, true_and, x_10, xs_lload_n_1, xs_lstore_n_3_i, xs_lstore_n_3_a, xs_lstore_n_3_n, xs_lstore_n_3_l, xs_iconst_0, xs_istore_5_i, xs_istore_5_a, xs_istore_5_n, xs_istore_5_l, xs_iload_5, xs_bipush_6, xs_icmp_gt, xs_ldc2, xs_lload_n_3, xs_lmul, xs_aload_n_0, xs_i2l, xs_ladd, xs_iinc_5_1_i, xs_iinc_5_1_a, xs_iinc_5_1_n, xs_goto, xs_iconst_1, xs_istore_6_i, xs_istore_6_a, xs_istore_6_n, xs_istore_6_l, xs_iload_6, xs_iconst_5, xs_iinc_6_1_i, xs_iinc_6_1_a, xs_iinc_6_1_n, xs_lreturn]) ))
    refine ⟨fun z => absurd z (nI_nlt (a := 5) (by omega) (by decide)), fun _ => ?_⟩
    (repeat (first | (simp only [xb_X7_digestOfSentence_0, xb_X7_digestOfSentence_5, xb_X7_digestOfSentence_32, xb_X7_digestOfSentence_35, xb_X7_digestOfSentence_53, xb_X7_digestOfSentence_81, xb_X7_digestOfSentence_87, xs_nil, Nat.reduceAdd, true_implies, not_true_eq_false, not_false_eq_true, false_implies, and_true, true_and, x_10, xs_lload_n_1, xs_lstore_n_3_i, xs_lstore_n_3_a, xs_lstore_n_3_n, xs_lstore_n_3_l, xs_iconst_0, xs_istore_5_i, xs_istore_5_a, xs_istore_5_n, xs_istore_5_l, xs_iload_5, xs_bipush_6, xs_icmp_gt, xs_ldc2, xs_lload_n_3, xs_lmul, xs_aload_n_0, xs_i2l, xs_ladd, xs_iinc_5_1_i, xs_iinc_5_1_a, xs_iinc_5_1_n, xs_goto, xs_iconst_1, xs_istore_6_i, xs_istore_6_a, xs_istore_6_n, xs_istore_6_l, xs_iload_6, xs_iconst_5, xs_iinc_6_1_i, xs_iinc_6_1_a, xs_iinc_6_1_n, xs_lreturn]) | refine xc_v3_1 (c) (Nat.le_of_ble_eq_true rfl) ?_))
    rw [nI_1]
    exact ihT
theorem l7_wordsD (B : cW h s k sh nx ct tx ln rf) (hv : sv s) {x : Int64} (fin : ∀ a b : Option Value, x_EV 172 87 [some (.ref 2), some (.long x), none, some (.long (dgw s D (sn s))), none, a, b] [] h r h') : ∀ (d q : Nat) (b : Option Value), q + d = sn s → x_EV 172 35 [some (.ref 2), some (.long x), none, some (.long (dgw s D q)), none, some (.int (nI (q + 1))), b] [] h r h' := by
  have h6 := hv.n6
  have hct := hv.ct
  intro d
  induction d with
  | zero =>
    intro q b hq
    have eq : q = sn s := by omega
    refine xe_X7_digestOfSentence_35 ?_
    (repeat (first | (simp only [xb_X7_digestOfSentence_0, xb_X7_digestOfSentence_5, xb_X7_digestOfSentence_32, xb_X7_digestOfSentence_35, xb_X7_digestOfSentence_53, xb_X7_digestOfSentence_81, xb_X7_digestOfSentence_87, xs_nil, Nat.reduceAdd, true_implies, not_true_eq_false, not_false_eq_true, false_implies, and_true, true_and, x_10, xs_lload_n_1, xs_lstore_n_3_i, xs_lstore_n_3_a, xs_lstore_n_3_n, xs_lstore_n_3_l, xs_iconst_0, xs_istore_5_i, xs_istore_5_a, xs_istore_5_n, xs_istore_5_l, xs_iload_5, xs_bipush_6, xs_icmp_gt, xs_ldc2, xs_lload_n_3, xs_lmul, xs_aload_n_0, xs_i2l, xs_ladd, xs_iinc_5_1_i, xs_iinc_5_1_a, xs_iinc_5_1_n, xs_goto, xs_iconst_1, xs_istore_6_i, xs_istore_6_a, xs_istore_6_n, xs_istore_6_l, xs_iload_6, xs_iconst_5, xs_iinc_6_1_i, xs_iinc_6_1_a, xs_iinc_6_1_n, xs_lreturn]) | (refine xr_getf (B.hp 0 _ rfl) (by rfl) ?_) | (refine xr_getf (B.hs 0 _ rfl) (by rfl) ?_) | (refine xr_getf (B.hs 1 _ rfl) (by rfl) ?_) | (refine xr_getf (B.hs 7 _ rfl) (by rfl) ?_)))
    rw [hct]
    refine ⟨fun _ => ?_, fun z => absurd (nI_lt (by omega) (by omega)) z⟩
    rw [eq]
    exact fin _ _
  | succ d ih =>
    intro q b hq
    have ihT := fun b => ih (q + 1) b (by omega)
    refine xe_X7_digestOfSentence_35 ?_
    (repeat (first | (simp only [xb_X7_digestOfSentence_0, xb_X7_digestOfSentence_5, xb_X7_digestOfSentence_32, xb_X7_digestOfSentence_35, xb_X7_digestOfSentence_53, xb_X7_digestOfSentence_81, xb_X7_digestOfSentence_87, xs_nil, Nat.reduceAdd, true_implies, not_true_eq_false, not_false_eq_true, false_implies, and_true, true_and, x_10, xs_lload_n_1, xs_lstore_n_3_i, xs_lstore_n_3_a, xs_lstore_n_3_n, xs_lstore_n_3_l, xs_iconst_0, xs_istore_5_i, xs_istore_5_a, xs_istore_5_n, xs_istore_5_l, xs_iload_5, xs_bipush_6, xs_icmp_gt, xs_ldc2, xs_lload_n_3, xs_lmul, xs_aload_n_0, xs_i2l, xs_ladd, xs_iinc_5_1_i, xs_iinc_5_1_a, xs_iinc_5_1_n, xs_goto, xs_iconst_1, xs_istore_6_i, xs_istore_6_a, xs_istore_6_n, xs_istore_6_l, xs_iload_6, xs_iconst_5, xs_iinc_6_1_i, xs_iinc_6_1_a, xs_iinc_6_1_n, xs_lreturn]) | (refine xr_getf (B.hp 0 _ rfl) (by rfl) ?_) | (refine xr_getf (B.hs 0 _ rfl) (by rfl) ?_) | (refine xr_getf (B.hs 1 _ rfl) (by rfl) ?_) | (refine xr_getf (B.hs 7 _ rfl) (by rfl) ?_)))
    rw [hct]
    refine ⟨fun z => absurd z (nI_nlt (by omega) (by omega)), fun _ => ?_⟩
    (repeat (first | (simp only [xb_X7_digestOfSentence_0, xb_X7_digestOfSentence_5, xb_X7_digestOfSentence_32, xb_X7_digestOfSentence_35, xb_X7_digestOfSentence_53, xb_X7_digestOfSentence_81, xb_X7_digestOfSentence_87, xs_nil, Nat.reduceAdd, true_implies, not_true_eq_false, not_false_eq_true, false_implies, and_true, true_and, x_10, xs_lload_n_1, xs_lstore_n_3_i, xs_lstore_n_3_a, xs_lstore_n_3_n, xs_lstore_n_3_l, xs_iconst_0, xs_istore_5_i, xs_istore_5_a, xs_istore_5_n, xs_istore_5_l, xs_iload_5, xs_bipush_6, xs_icmp_gt, xs_ldc2, xs_lload_n_3, xs_lmul, xs_aload_n_0, xs_i2l, xs_ladd, xs_iinc_5_1_i, xs_iinc_5_1_a, xs_iinc_5_1_n, xs_goto, xs_iconst_1, xs_istore_6_i, xs_istore_6_a, xs_istore_6_n, xs_istore_6_l, xs_iload_6, xs_iconst_5, xs_iinc_6_1_i, xs_iinc_6_1_a, xs_iinc_6_1_n, xs_lreturn]) ))
    refine l7_wordD B hv (w := q + 1) (by omega) (by omega) (fun b => ?_) 6 0 (by omega)
    refine xe_X7_digestOfSentence_81 ?_
    (repeat (first | (simp only [xb_X7_digestOfSentence_0, xb_X7_digestOfSentence_5, xb_X7_digestOfSentence_32, xb_X7_digestOfSentence_35, xb_X7_digestOfSentence_53, xb_X7_digestOfSentence_81, xb_X7_digestOfSentence_87, xs_nil, Nat.reduceAdd, true_implies, not_true_eq_false, not_false_eq_true, false_implies, and_true, true_and, x_10, xs_lload_n_1, xs_lstore_n_3_i, xs_lstore_n_3_a, xs_lstore_n_3_n, xs_lstore_n_3_l, xs_iconst_0, xs_istore_5_i, xs_istore_5_a, xs_istore_5_n, xs_istore_5_l, xs_iload_5, xs_bipush_6, xs_icmp_gt, xs_ldc2, xs_lload_n_3, xs_lmul, xs_aload_n_0, xs_i2l, xs_ladd, xs_iinc_5_1_i, xs_iinc_5_1_a, xs_iinc_5_1_n, xs_goto, xs_iconst_1, xs_istore_6_i, xs_istore_6_a, xs_istore_6_n, xs_istore_6_l, xs_iload_6, xs_iconst_5, xs_iinc_6_1_i, xs_iinc_6_1_a, xs_iinc_6_1_n, xs_lreturn]) ))
    rw [nI_1]
    exact ihT _
theorem c7_digestS (B : cW h s k sh nx ct tx ln rf) (hv : sv s) : xK 172 [.ref 2, .long D] h (some (.long (dgw s (dg (hval s) D 7) (sn s)))) h := by
  refine xK_X7_digestOfSentence (B.hp 0 _ rfl) (xe_X7_digestOfSentence_0 ?_)
  (repeat (first | (simp only [xb_X7_digestOfSentence_0, xb_X7_digestOfSentence_5, xb_X7_digestOfSentence_32, xb_X7_digestOfSentence_35, xb_X7_digestOfSentence_53, xb_X7_digestOfSentence_81, xb_X7_digestOfSentence_87, xs_nil, Nat.reduceAdd, true_implies, not_true_eq_false, not_false_eq_true, false_implies, and_true, true_and, x_10, xs_lload_n_1, xs_lstore_n_3_i, xs_lstore_n_3_a, xs_lstore_n_3_n, xs_lstore_n_3_l, xs_iconst_0, xs_istore_5_i, xs_istore_5_a, xs_istore_5_n, xs_istore_5_l, xs_iload_5, xs_bipush_6, xs_icmp_gt, xs_ldc2, xs_lload_n_3, xs_lmul, xs_aload_n_0, xs_i2l, xs_ladd, xs_iinc_5_1_i, xs_iinc_5_1_a, xs_iinc_5_1_n, xs_goto, xs_iconst_1, xs_istore_6_i, xs_istore_6_a, xs_istore_6_n, xs_istore_6_l, xs_iload_6, xs_iconst_5, xs_iinc_6_1_i, xs_iinc_6_1_a, xs_iinc_6_1_n, xs_lreturn]) ))
  refine l7_heldD B hv (fun a b => ?_) 7 0 _ (by omega)
  refine xe_X7_digestOfSentence_32 ?_
  (repeat (first | (simp only [xb_X7_digestOfSentence_0, xb_X7_digestOfSentence_5, xb_X7_digestOfSentence_32, xb_X7_digestOfSentence_35, xb_X7_digestOfSentence_53, xb_X7_digestOfSentence_81, xb_X7_digestOfSentence_87, xs_nil, Nat.reduceAdd, true_implies, not_true_eq_false, not_false_eq_true, false_implies, and_true, true_and, x_10, xs_lload_n_1, xs_lstore_n_3_i, xs_lstore_n_3_a, xs_lstore_n_3_n, xs_lstore_n_3_l, xs_iconst_0, xs_istore_5_i, xs_istore_5_a, xs_istore_5_n, xs_istore_5_l, xs_iload_5, xs_bipush_6, xs_icmp_gt, xs_ldc2, xs_lload_n_3, xs_lmul, xs_aload_n_0, xs_i2l, xs_ladd, xs_iinc_5_1_i, xs_iinc_5_1_a, xs_iinc_5_1_n, xs_goto, xs_iconst_1, xs_istore_6_i, xs_istore_6_a, xs_istore_6_n, xs_istore_6_l, xs_iload_6, xs_iconst_5, xs_iinc_6_1_i, xs_iinc_6_1_a, xs_iinc_6_1_n, xs_lreturn]) ))
  refine l7_wordsD B hv (fun a b => ?_) (sn s) 0 _ (by omega)
  refine xe_X7_digestOfSentence_87 ?_
  (repeat (first | (simp only [xb_X7_digestOfSentence_0, xb_X7_digestOfSentence_5, xb_X7_digestOfSentence_32, xb_X7_digestOfSentence_35, xb_X7_digestOfSentence_53, xb_X7_digestOfSentence_81, xb_X7_digestOfSentence_87, xs_nil, Nat.reduceAdd, true_implies, not_true_eq_false, not_false_eq_true, false_implies, and_true, true_and, x_10, xs_lload_n_1, xs_lstore_n_3_i, xs_lstore_n_3_a, xs_lstore_n_3_n, xs_lstore_n_3_l, xs_iconst_0, xs_istore_5_i, xs_istore_5_a, xs_istore_5_n, xs_istore_5_l, xs_iload_5, xs_bipush_6, xs_icmp_gt, xs_ldc2, xs_lload_n_3, xs_lmul, xs_aload_n_0, xs_i2l, xs_ladd, xs_iinc_5_1_i, xs_iinc_5_1_a, xs_iinc_5_1_n, xs_goto, xs_iconst_1, xs_istore_6_i, xs_istore_6_a, xs_istore_6_n, xs_istore_6_l, xs_iload_6, xs_iconst_5, xs_iinc_6_1_i, xs_iinc_6_1_a, xs_iinc_6_1_n, xs_lreturn]) ))
  (first | exact ⟨Or.inl trivial, rfl⟩ | exact ⟨Or.inl trivial, rfl, rfl⟩ | (simp; done) | exact ⟨by simp, rfl⟩ | exact ⟨by simp, rfl, rfl⟩ | rfl)
/-- entries, root prices, rules -/
theorem l7_entD (B : cW h s k sh nx ct tx ln rf) (hv : sv s) {x : Int64} {e : Nat} (he : e < sne s) {y : Option Value} (fin : ∀ b : Option Value, x_EV 173 51 [some (.ref 2), some (.long x), none, some (.long (dg (oval s e) D 3)), none, some (.int (nI e)), b, y] [] h r h') : ∀ (d q : Nat), q + d = 3 → x_EV 173 23 [some (.ref 2), some (.long x), none, some (.long (dg (oval s e) D q)), none, some (.int (nI e)), some (.int (nI q)), y] [] h r h' := by
  intro d
  induction d with
  | zero =>
    intro q hq
    have eq : q = 3 := by omega
    subst eq
    refine xe_X7_digestOfGrammar_23 ?_
    (repeat (first | (simp only [xb_X7_digestOfGrammar_0, xb_X7_digestOfGrammar_5, xb_X7_digestOfGrammar_23, xb_X7_digestOfGrammar_51, xb_X7_digestOfGrammar_57, xb_X7_digestOfGrammar_60, xb_X7_digestOfGrammar_94, xb_X7_digestOfGrammar_97, xb_X7_digestOfGrammar_107, xb_X7_digestOfGrammar_117, xb_X7_digestOfGrammar_147, xb_X7_digestOfGrammar_153, xb_X7_digestOfGrammar_159, xs_nil, Nat.reduceAdd, true_implies, not_true_eq_false, not_false_eq_true, false_implies, and_true, true_and, x_10, xs_lload_n_1, xs_lstore_n_3_i, xs_lstore_n_3_a, xs_lstore_n_3_n, xs_lstore_n_3_l, xs_iconst_0, xs_istore_5_i, xs_istore_5_a, xs_istore_5_n, xs_istore_5_l, xs_iload_5, xs_aload_n_0, xs_icmp_ge, xs_istore_6_i, xs_istore_6_a, xs_istore_6_n, xs_istore_6_l, xs_iload_6, xs_iconst_2, xs_icmp_gt, xs_ldc2, xs_lload_n_3, xs_lmul, xs_i2l, xs_ladd, xs_iinc_6_1_i, xs_iinc_6_1_a, xs_iinc_6_1_n, xs_goto, xs_iinc_5_1_i, xs_iinc_5_1_a, xs_iinc_5_1_n, xs_bipush_6, xs_istore_7_i, xs_istore_7_a, xs_istore_7_n, xs_istore_7_l, xs_iload_7, xs_iinc_7_1_i, xs_iinc_7_1_a, xs_iinc_7_1_n, xs_lreturn]) ))
    exact ⟨fun _ => fin _, fun z => absurd (nI_lt (a := 2) (b := 3) (by decide) (by decide)) z⟩
  | succ d ih =>
    intro q hq
    have ihT := ih (q + 1) (by omega)
    have c := c7_of B hv he (i := q) (by omega)
    refine xe_X7_digestOfGrammar_23 ?_
    (repeat (first | (simp only [xb_X7_digestOfGrammar_0, xb_X7_digestOfGrammar_5, xb_X7_digestOfGrammar_23, xb_X7_digestOfGrammar_51, xb_X7_digestOfGrammar_57, xb_X7_digestOfGrammar_60, xb_X7_digestOfGrammar_94, xb_X7_digestOfGrammar_97, xb_X7_digestOfGrammar_107, xb_X7_digestOfGrammar_117, xb_X7_digestOfGrammar_147, xb_X7_digestOfGrammar_153, xb_X7_digestOfGrammar_159, xs_nil, Nat.reduceAdd, true_implies, not_true_eq_false, not_false_eq_true, false_implies, and_true, true_and, x_10, xs_lload_n_1, xs_lstore_n_3_i, xs_lstore_n_3_a, xs_lstore_n_3_n, xs_lstore_n_3_l, xs_iconst_0, xs_istore_5_i, xs_istore_5_a, xs_istore_5_n, xs_istore_5_l, xs_iload_5, xs_aload_n_0, xs_icmp_ge, xs_istore_6_i, xs_istore_6_a, xs_istore_6_n, xs_istore_6_l, xs_iload_6, xs_iconst_2, xs_icmp_gt, xs_ldc2, xs_lload_n_3, xs_lmul, xs_i2l, xs_ladd, xs_iinc_6_1_i, xs_iinc_6_1_a, xs_iinc_6_1_n, xs_goto, xs_iinc_5_1_i, xs_iinc_5_1_a, xs_iinc_5_1_n, xs_bipush_6, xs_istore_7_i, xs_istore_7_a, xs_istore_7_n, xs_istore_7_l, xs_iload_7, xs_iinc_7_1_i, xs_iinc_7_1_a, xs_iinc_7_1_n, xs_lreturn]) ))
    refine ⟨fun z => absurd z (nI_nlt (a := 2) (by omega) (by decide)), fun _ => ?_⟩
    (repeat (first | (simp only [xb_X7_digestOfGrammar_0, xb_X7_digestOfGrammar_5, xb_X7_digestOfGrammar_23, xb_X7_digestOfGrammar_51, xb_X7_digestOfGrammar_57, xb_X7_digestOfGrammar_60, xb_X7_digestOfGrammar_94, xb_X7_digestOfGrammar_97, xb_X7_digestOfGrammar_107, xb_X7_digestOfGrammar_117, xb_X7_digestOfGrammar_147, xb_X7_digestOfGrammar_153, xb_X7_digestOfGrammar_159, xs_nil, Nat.reduceAdd, true_implies, not_true_eq_false, not_false_eq_true, false_implies, and_true, true_and, x_10, xs_lload_n_1, xs_lstore_n_3_i, xs_lstore_n_3_a, xs_lstore_n_3_n, xs_lstore_n_3_l, xs_iconst_0, xs_istore_5_i, xs_istore_5_a, xs_istore_5_n, xs_istore_5_l, xs_iload_5, xs_aload_n_0, xs_icmp_ge, xs_istore_6_i, xs_istore_6_a, xs_istore_6_n, xs_istore_6_l, xs_iload_6, xs_iconst_2, xs_icmp_gt, xs_ldc2, xs_lload_n_3, xs_lmul, xs_i2l, xs_ladd, xs_iinc_6_1_i, xs_iinc_6_1_a, xs_iinc_6_1_n, xs_goto, xs_iinc_5_1_i, xs_iinc_5_1_a, xs_iinc_5_1_n, xs_bipush_6, xs_istore_7_i, xs_istore_7_a, xs_istore_7_n, xs_istore_7_l, xs_iload_7, xs_iinc_7_1_i, xs_iinc_7_1_a, xs_iinc_7_1_n, xs_lreturn]) | refine xc_v3_1 (c) (Nat.le_of_ble_eq_true rfl) ?_))
    rw [nI_1]
    exact ihT
theorem l7_entsD (B : cW h s k sh nx ct tx ln rf) (hv : sv s) {x : Int64} {y : Option Value} (fin : ∀ a b : Option Value, x_EV 173 57 [some (.ref 2), some (.long x), none, some (.long (dge s D (sne s))), none, a, b, y] [] h r h') : ∀ (d q : Nat) (b : Option Value), q + d = sne s → x_EV 173 5 [some (.ref 2), some (.long x), none, some (.long (dge s D q)), none, some (.int (nI q)), b, y] [] h r h' := by
  have hne := hv.ne
  have hec := hv.ec
  intro d
  induction d with
  | zero =>
    intro q b hq
    have eq : q = sne s := by omega
    refine xe_X7_digestOfGrammar_5 ?_
    (repeat (first | (simp only [xb_X7_digestOfGrammar_0, xb_X7_digestOfGrammar_5, xb_X7_digestOfGrammar_23, xb_X7_digestOfGrammar_51, xb_X7_digestOfGrammar_57, xb_X7_digestOfGrammar_60, xb_X7_digestOfGrammar_94, xb_X7_digestOfGrammar_97, xb_X7_digestOfGrammar_107, xb_X7_digestOfGrammar_117, xb_X7_digestOfGrammar_147, xb_X7_digestOfGrammar_153, xb_X7_digestOfGrammar_159, xs_nil, Nat.reduceAdd, true_implies, not_true_eq_false, not_false_eq_true, false_implies, and_true, true_and, x_10, xs_lload_n_1, xs_lstore_n_3_i, xs_lstore_n_3_a, xs_lstore_n_3_n, xs_lstore_n_3_l, xs_iconst_0, xs_istore_5_i, xs_istore_5_a, xs_istore_5_n, xs_istore_5_l, xs_iload_5, xs_aload_n_0, xs_icmp_ge, xs_istore_6_i, xs_istore_6_a, xs_istore_6_n, xs_istore_6_l, xs_iload_6, xs_iconst_2, xs_icmp_gt, xs_ldc2, xs_lload_n_3, xs_lmul, xs_i2l, xs_ladd, xs_iinc_6_1_i, xs_iinc_6_1_a, xs_iinc_6_1_n, xs_goto, xs_iinc_5_1_i, xs_iinc_5_1_a, xs_iinc_5_1_n, xs_bipush_6, xs_istore_7_i, xs_istore_7_a, xs_istore_7_n, xs_istore_7_l, xs_iload_7, xs_iinc_7_1_i, xs_iinc_7_1_a, xs_iinc_7_1_n, xs_lreturn]) | (refine xr_getf (B.hp 0 _ rfl) (by rfl) ?_) | (refine xr_getf (B.hs 0 _ rfl) (by rfl) ?_) | (refine xr_getf (B.hs 1 _ rfl) (by rfl) ?_) | (refine xr_getf (B.hs 7 _ rfl) (by rfl) ?_)))
    rw [hec]
    refine ⟨fun _ => ?_, fun z => absurd (nI_le (by omega) (by omega)) z⟩
    rw [eq]
    exact fin _ _
  | succ d ih =>
    intro q b hq
    have ihT := fun b => ih (q + 1) b (by omega)
    refine xe_X7_digestOfGrammar_5 ?_
    (repeat (first | (simp only [xb_X7_digestOfGrammar_0, xb_X7_digestOfGrammar_5, xb_X7_digestOfGrammar_23, xb_X7_digestOfGrammar_51, xb_X7_digestOfGrammar_57, xb_X7_digestOfGrammar_60, xb_X7_digestOfGrammar_94, xb_X7_digestOfGrammar_97, xb_X7_digestOfGrammar_107, xb_X7_digestOfGrammar_117, xb_X7_digestOfGrammar_147, xb_X7_digestOfGrammar_153, xb_X7_digestOfGrammar_159, xs_nil, Nat.reduceAdd, true_implies, not_true_eq_false, not_false_eq_true, false_implies, and_true, true_and, x_10, xs_lload_n_1, xs_lstore_n_3_i, xs_lstore_n_3_a, xs_lstore_n_3_n, xs_lstore_n_3_l, xs_iconst_0, xs_istore_5_i, xs_istore_5_a, xs_istore_5_n, xs_istore_5_l, xs_iload_5, xs_aload_n_0, xs_icmp_ge, xs_istore_6_i, xs_istore_6_a, xs_istore_6_n, xs_istore_6_l, xs_iload_6, xs_iconst_2, xs_icmp_gt, xs_ldc2, xs_lload_n_3, xs_lmul, xs_i2l, xs_ladd, xs_iinc_6_1_i, xs_iinc_6_1_a, xs_iinc_6_1_n, xs_goto, xs_iinc_5_1_i, xs_iinc_5_1_a, xs_iinc_5_1_n, xs_bipush_6, xs_istore_7_i, xs_istore_7_a, xs_istore_7_n, xs_istore_7_l, xs_iload_7, xs_iinc_7_1_i, xs_iinc_7_1_a, xs_iinc_7_1_n, xs_lreturn]) | (refine xr_getf (B.hp 0 _ rfl) (by rfl) ?_) | (refine xr_getf (B.hs 0 _ rfl) (by rfl) ?_) | (refine xr_getf (B.hs 1 _ rfl) (by rfl) ?_) | (refine xr_getf (B.hs 7 _ rfl) (by rfl) ?_)))
    rw [hec]
    refine ⟨fun z => absurd z (nI_ge (by omega) (by omega)), fun _ => ?_⟩
    (repeat (first | (simp only [xb_X7_digestOfGrammar_0, xb_X7_digestOfGrammar_5, xb_X7_digestOfGrammar_23, xb_X7_digestOfGrammar_51, xb_X7_digestOfGrammar_57, xb_X7_digestOfGrammar_60, xb_X7_digestOfGrammar_94, xb_X7_digestOfGrammar_97, xb_X7_digestOfGrammar_107, xb_X7_digestOfGrammar_117, xb_X7_digestOfGrammar_147, xb_X7_digestOfGrammar_153, xb_X7_digestOfGrammar_159, xs_nil, Nat.reduceAdd, true_implies, not_true_eq_false, not_false_eq_true, false_implies, and_true, true_and, x_10, xs_lload_n_1, xs_lstore_n_3_i, xs_lstore_n_3_a, xs_lstore_n_3_n, xs_lstore_n_3_l, xs_iconst_0, xs_istore_5_i, xs_istore_5_a, xs_istore_5_n, xs_istore_5_l, xs_iload_5, xs_aload_n_0, xs_icmp_ge, xs_istore_6_i, xs_istore_6_a, xs_istore_6_n, xs_istore_6_l, xs_iload_6, xs_iconst_2, xs_icmp_gt, xs_ldc2, xs_lload_n_3, xs_lmul, xs_i2l, xs_ladd, xs_iinc_6_1_i, xs_iinc_6_1_a, xs_iinc_6_1_n, xs_goto, xs_iinc_5_1_i, xs_iinc_5_1_a, xs_iinc_5_1_n, xs_bipush_6, xs_istore_7_i, xs_istore_7_a, xs_istore_7_n, xs_istore_7_l, xs_iload_7, xs_iinc_7_1_i, xs_iinc_7_1_a, xs_iinc_7_1_n, xs_lreturn]) ))
    refine l7_entD B hv (e := q) (by omega) (fun b => ?_) 3 0 (by omega)
    refine xe_X7_digestOfGrammar_51 ?_
    (repeat (first | (simp only [xb_X7_digestOfGrammar_0, xb_X7_digestOfGrammar_5, xb_X7_digestOfGrammar_23, xb_X7_digestOfGrammar_51, xb_X7_digestOfGrammar_57, xb_X7_digestOfGrammar_60, xb_X7_digestOfGrammar_94, xb_X7_digestOfGrammar_97, xb_X7_digestOfGrammar_107, xb_X7_digestOfGrammar_117, xb_X7_digestOfGrammar_147, xb_X7_digestOfGrammar_153, xb_X7_digestOfGrammar_159, xs_nil, Nat.reduceAdd, true_implies, not_true_eq_false, not_false_eq_true, false_implies, and_true, true_and, x_10, xs_lload_n_1, xs_lstore_n_3_i, xs_lstore_n_3_a, xs_lstore_n_3_n, xs_lstore_n_3_l, xs_iconst_0, xs_istore_5_i, xs_istore_5_a, xs_istore_5_n, xs_istore_5_l, xs_iload_5, xs_aload_n_0, xs_icmp_ge, xs_istore_6_i, xs_istore_6_a, xs_istore_6_n, xs_istore_6_l, xs_iload_6, xs_iconst_2, xs_icmp_gt, xs_ldc2, xs_lload_n_3, xs_lmul, xs_i2l, xs_ladd, xs_iinc_6_1_i, xs_iinc_6_1_a, xs_iinc_6_1_n, xs_goto, xs_iinc_5_1_i, xs_iinc_5_1_a, xs_iinc_5_1_n, xs_bipush_6, xs_istore_7_i, xs_istore_7_a, xs_istore_7_n, xs_istore_7_l, xs_iload_7, xs_iinc_7_1_i, xs_iinc_7_1_a, xs_iinc_7_1_n, xs_lreturn]) ))
    rw [nI_1]
    exact ihT _
theorem l7_rootD (B : cW h s k sh nx ct tx ln rf) (hv : sv s) {x : Int64} {y z : Option Value} (fin : ∀ a : Option Value, x_EV 173 94 [some (.ref 2), some (.long x), none, some (.long (dg (fun i => (sR s).getD i 0) D 6)), none, a, y, z] [] h r h') : ∀ (d q : Nat), q + d = 6 → x_EV 173 60 [some (.ref 2), some (.long x), none, some (.long (dg (fun i => (sR s).getD i 0) D q)), none, some (.int (nI q)), y, z] [] h r h' := by
  intro d
  induction d with
  | zero =>
    intro q hq
    have eq : q = 6 := by omega
    subst eq
    refine xe_X7_digestOfGrammar_60 ?_
    (repeat (first | (simp only [xb_X7_digestOfGrammar_0, xb_X7_digestOfGrammar_5, xb_X7_digestOfGrammar_23, xb_X7_digestOfGrammar_51, xb_X7_digestOfGrammar_57, xb_X7_digestOfGrammar_60, xb_X7_digestOfGrammar_94, xb_X7_digestOfGrammar_97, xb_X7_digestOfGrammar_107, xb_X7_digestOfGrammar_117, xb_X7_digestOfGrammar_147, xb_X7_digestOfGrammar_153, xb_X7_digestOfGrammar_159, xs_nil, Nat.reduceAdd, true_implies, not_true_eq_false, not_false_eq_true, false_implies, and_true, true_and, x_10, xs_lload_n_1, xs_lstore_n_3_i, xs_lstore_n_3_a, xs_lstore_n_3_n, xs_lstore_n_3_l, xs_iconst_0, xs_istore_5_i, xs_istore_5_a, xs_istore_5_n, xs_istore_5_l, xs_iload_5, xs_aload_n_0, xs_icmp_ge, xs_istore_6_i, xs_istore_6_a, xs_istore_6_n, xs_istore_6_l, xs_iload_6, xs_iconst_2, xs_icmp_gt, xs_ldc2, xs_lload_n_3, xs_lmul, xs_i2l, xs_ladd, xs_iinc_6_1_i, xs_iinc_6_1_a, xs_iinc_6_1_n, xs_goto, xs_iinc_5_1_i, xs_iinc_5_1_a, xs_iinc_5_1_n, xs_bipush_6, xs_istore_7_i, xs_istore_7_a, xs_istore_7_n, xs_istore_7_l, xs_iload_7, xs_iinc_7_1_i, xs_iinc_7_1_a, xs_iinc_7_1_n, xs_lreturn]) ))
    exact ⟨fun _ => fin _, fun z => absurd (nI_le (a := 6) (b := 6) (by decide) (by decide)) z⟩
  | succ d ih =>
    intro q hq
    have ihT := ih (q + 1) (by omega)
    refine xe_X7_digestOfGrammar_60 ?_
    (repeat (first | (simp only [xb_X7_digestOfGrammar_0, xb_X7_digestOfGrammar_5, xb_X7_digestOfGrammar_23, xb_X7_digestOfGrammar_51, xb_X7_digestOfGrammar_57, xb_X7_digestOfGrammar_60, xb_X7_digestOfGrammar_94, xb_X7_digestOfGrammar_97, xb_X7_digestOfGrammar_107, xb_X7_digestOfGrammar_117, xb_X7_digestOfGrammar_147, xb_X7_digestOfGrammar_153, xb_X7_digestOfGrammar_159, xs_nil, Nat.reduceAdd, true_implies, not_true_eq_false, not_false_eq_true, false_implies, and_true, true_and, x_10, xs_lload_n_1, xs_lstore_n_3_i, xs_lstore_n_3_a, xs_lstore_n_3_n, xs_lstore_n_3_l, xs_iconst_0, xs_istore_5_i, xs_istore_5_a, xs_istore_5_n, xs_istore_5_l, xs_iload_5, xs_aload_n_0, xs_icmp_ge, xs_istore_6_i, xs_istore_6_a, xs_istore_6_n, xs_istore_6_l, xs_iload_6, xs_iconst_2, xs_icmp_gt, xs_ldc2, xs_lload_n_3, xs_lmul, xs_i2l, xs_ladd, xs_iinc_6_1_i, xs_iinc_6_1_a, xs_iinc_6_1_n, xs_goto, xs_iinc_5_1_i, xs_iinc_5_1_a, xs_iinc_5_1_n, xs_bipush_6, xs_istore_7_i, xs_istore_7_a, xs_istore_7_n, xs_istore_7_l, xs_iload_7, xs_iinc_7_1_i, xs_iinc_7_1_a, xs_iinc_7_1_n, xs_lreturn]) ))
    refine ⟨fun z => absurd z (nI_ge (b := 6) (by omega) (by decide)), fun _ => ?_⟩
    (repeat (first | (simp only [xb_X7_digestOfGrammar_0, xb_X7_digestOfGrammar_5, xb_X7_digestOfGrammar_23, xb_X7_digestOfGrammar_51, xb_X7_digestOfGrammar_57, xb_X7_digestOfGrammar_60, xb_X7_digestOfGrammar_94, xb_X7_digestOfGrammar_97, xb_X7_digestOfGrammar_107, xb_X7_digestOfGrammar_117, xb_X7_digestOfGrammar_147, xb_X7_digestOfGrammar_153, xb_X7_digestOfGrammar_159, xs_nil, Nat.reduceAdd, true_implies, not_true_eq_false, not_false_eq_true, false_implies, and_true, true_and, x_10, xs_lload_n_1, xs_lstore_n_3_i, xs_lstore_n_3_a, xs_lstore_n_3_n, xs_lstore_n_3_l, xs_iconst_0, xs_istore_5_i, xs_istore_5_a, xs_istore_5_n, xs_istore_5_l, xs_iload_5, xs_aload_n_0, xs_icmp_ge, xs_istore_6_i, xs_istore_6_a, xs_istore_6_n, xs_istore_6_l, xs_iload_6, xs_iconst_2, xs_icmp_gt, xs_ldc2, xs_lload_n_3, xs_lmul, xs_i2l, xs_ladd, xs_iinc_6_1_i, xs_iinc_6_1_a, xs_iinc_6_1_n, xs_goto, xs_iinc_5_1_i, xs_iinc_5_1_a, xs_iinc_5_1_n, xs_bipush_6, xs_istore_7_i, xs_istore_7_a, xs_istore_7_n, xs_istore_7_l, xs_iload_7, xs_iinc_7_1_i, xs_iinc_7_1_a, xs_iinc_7_1_n, xs_lreturn]) | (refine xr_getf (B.hp 0 _ rfl) (by rfl) ?_) | (refine xr_getf (B.hs 0 _ rfl) (by rfl) ?_) | (refine xr_getf (B.hs 1 _ rfl) (by rfl) ?_) | (refine xr_getf (B.hs 7 _ rfl) (by rfl) ?_) | (refine xr_iaload (B.hs 3 _ rfl) (by rw [hv.lR]; exact x_in (by omega) (by decide)) ?_)))
    rw [nI_1, xg_n (by omega)]
    exact ihT
theorem l7_sideD (B : cW h s k sh nx ct tx ln rf) (hv : sv s) {x : Int64} {a b : Nat} (ha : a < 6) (hb : b < 6) (fin : ∀ c : Option Value, x_EV 173 147 [some (.ref 2), some (.long x), none, some (.long (dg (fun i => (sP s).getD (12 * a + 2 * b + i) 0) D 2)), none, some (.int (nI a)), some (.int (nI b)), c] [] h r h') : ∀ (d q : Nat), q + d = 2 → x_EV 173 117 [some (.ref 2), some (.long x), none, some (.long (dg (fun i => (sP s).getD (12 * a + 2 * b + i) 0) D q)), none, some (.int (nI a)), some (.int (nI b)), some (.int (nI q))] [] h r h' := by
  intro d
  induction d with
  | zero =>
    intro q hq
    have eq : q = 2 := by omega
    subst eq
    refine xe_X7_digestOfGrammar_117 ?_
    (repeat (first | (simp only [xb_X7_digestOfGrammar_0, xb_X7_digestOfGrammar_5, xb_X7_digestOfGrammar_23, xb_X7_digestOfGrammar_51, xb_X7_digestOfGrammar_57, xb_X7_digestOfGrammar_60, xb_X7_digestOfGrammar_94, xb_X7_digestOfGrammar_97, xb_X7_digestOfGrammar_107, xb_X7_digestOfGrammar_117, xb_X7_digestOfGrammar_147, xb_X7_digestOfGrammar_153, xb_X7_digestOfGrammar_159, xs_nil, Nat.reduceAdd, true_implies, not_true_eq_false, not_false_eq_true, false_implies, and_true, true_and, x_10, xs_lload_n_1, xs_lstore_n_3_i, xs_lstore_n_3_a, xs_lstore_n_3_n, xs_lstore_n_3_l, xs_iconst_0, xs_istore_5_i, xs_istore_5_a, xs_istore_5_n, xs_istore_5_l, xs_iload_5, xs_aload_n_0, xs_icmp_ge, xs_istore_6_i, xs_istore_6_a, xs_istore_6_n, xs_istore_6_l, xs_iload_6, xs_iconst_2, xs_icmp_gt, xs_ldc2, xs_lload_n_3, xs_lmul, xs_i2l, xs_ladd, xs_iinc_6_1_i, xs_iinc_6_1_a, xs_iinc_6_1_n, xs_goto, xs_iinc_5_1_i, xs_iinc_5_1_a, xs_iinc_5_1_n, xs_bipush_6, xs_istore_7_i, xs_istore_7_a, xs_istore_7_n, xs_istore_7_l, xs_iload_7, xs_iinc_7_1_i, xs_iinc_7_1_a, xs_iinc_7_1_n, xs_lreturn]) ))
    exact ⟨fun _ => fin _, fun z => absurd (nI_le (a := 2) (b := 2) (by decide) (by decide)) z⟩
  | succ d ih =>
    intro q hq
    have ihT := ih (q + 1) (by omega)
    have c := c7_rule B hv ha hb (d := q) (by omega)
    refine xe_X7_digestOfGrammar_117 ?_
    (repeat (first | (simp only [xb_X7_digestOfGrammar_0, xb_X7_digestOfGrammar_5, xb_X7_digestOfGrammar_23, xb_X7_digestOfGrammar_51, xb_X7_digestOfGrammar_57, xb_X7_digestOfGrammar_60, xb_X7_digestOfGrammar_94, xb_X7_digestOfGrammar_97, xb_X7_digestOfGrammar_107, xb_X7_digestOfGrammar_117, xb_X7_digestOfGrammar_147, xb_X7_digestOfGrammar_153, xb_X7_digestOfGrammar_159, xs_nil, Nat.reduceAdd, true_implies, not_true_eq_false, not_false_eq_true, false_implies, and_true, true_and, x_10, xs_lload_n_1, xs_lstore_n_3_i, xs_lstore_n_3_a, xs_lstore_n_3_n, xs_lstore_n_3_l, xs_iconst_0, xs_istore_5_i, xs_istore_5_a, xs_istore_5_n, xs_istore_5_l, xs_iload_5, xs_aload_n_0, xs_icmp_ge, xs_istore_6_i, xs_istore_6_a, xs_istore_6_n, xs_istore_6_l, xs_iload_6, xs_iconst_2, xs_icmp_gt, xs_ldc2, xs_lload_n_3, xs_lmul, xs_i2l, xs_ladd, xs_iinc_6_1_i, xs_iinc_6_1_a, xs_iinc_6_1_n, xs_goto, xs_iinc_5_1_i, xs_iinc_5_1_a, xs_iinc_5_1_n, xs_bipush_6, xs_istore_7_i, xs_istore_7_a, xs_istore_7_n, xs_istore_7_l, xs_iload_7, xs_iinc_7_1_i, xs_iinc_7_1_a, xs_iinc_7_1_n, xs_lreturn]) ))
    refine ⟨fun z => absurd z (nI_ge (b := 2) (by omega) (by decide)), fun _ => ?_⟩
    (repeat (first | (simp only [xb_X7_digestOfGrammar_0, xb_X7_digestOfGrammar_5, xb_X7_digestOfGrammar_23, xb_X7_digestOfGrammar_51, xb_X7_digestOfGrammar_57, xb_X7_digestOfGrammar_60, xb_X7_digestOfGrammar_94, xb_X7_digestOfGrammar_97, xb_X7_digestOfGrammar_107, xb_X7_digestOfGrammar_117, xb_X7_digestOfGrammar_147, xb_X7_digestOfGrammar_153, xb_X7_digestOfGrammar_159, xs_nil, Nat.reduceAdd, true_implies, not_true_eq_false, not_false_eq_true, false_implies, and_true, true_and, x_10, xs_lload_n_1, xs_lstore_n_3_i, xs_lstore_n_3_a, xs_lstore_n_3_n, xs_lstore_n_3_l, xs_iconst_0, xs_istore_5_i, xs_istore_5_a, xs_istore_5_n, xs_istore_5_l, xs_iload_5, xs_aload_n_0, xs_icmp_ge, xs_istore_6_i, xs_istore_6_a, xs_istore_6_n, xs_istore_6_l, xs_iload_6, xs_iconst_2, xs_icmp_gt, xs_ldc2, xs_lload_n_3, xs_lmul, xs_i2l, xs_ladd, xs_iinc_6_1_i, xs_iinc_6_1_a, xs_iinc_6_1_n, xs_goto, xs_iinc_5_1_i, xs_iinc_5_1_a, xs_iinc_5_1_n, xs_bipush_6, xs_istore_7_i, xs_istore_7_a, xs_istore_7_n, xs_istore_7_l, xs_iload_7, xs_iinc_7_1_i, xs_iinc_7_1_a, xs_iinc_7_1_n, xs_lreturn]) | refine xc_v4_1 (c) (Nat.le_of_ble_eq_true rfl) ?_))
    rw [nI_1]
    exact ihT
theorem l7_depD (B : cW h s k sh nx ct tx ln rf) (hv : sv s) {x : Int64} {a : Nat} (ha : a < 6) (fin : ∀ b c : Option Value, x_EV 173 153 [some (.ref 2), some (.long x), none, some (.long (dgr1 (sP s) a D 6)), none, some (.int (nI a)), b, c] [] h r h') : ∀ (d q : Nat) (c : Option Value), q + d = 6 → x_EV 173 107 [some (.ref 2), some (.long x), none, some (.long (dgr1 (sP s) a D q)), none, some (.int (nI a)), some (.int (nI q)), c] [] h r h' := by
  intro d
  induction d with
  | zero =>
    intro q c hq
    have eq : q = 6 := by omega
    subst eq
    refine xe_X7_digestOfGrammar_107 ?_
    (repeat (first | (simp only [xb_X7_digestOfGrammar_0, xb_X7_digestOfGrammar_5, xb_X7_digestOfGrammar_23, xb_X7_digestOfGrammar_51, xb_X7_digestOfGrammar_57, xb_X7_digestOfGrammar_60, xb_X7_digestOfGrammar_94, xb_X7_digestOfGrammar_97, xb_X7_digestOfGrammar_107, xb_X7_digestOfGrammar_117, xb_X7_digestOfGrammar_147, xb_X7_digestOfGrammar_153, xb_X7_digestOfGrammar_159, xs_nil, Nat.reduceAdd, true_implies, not_true_eq_false, not_false_eq_true, false_implies, and_true, true_and, x_10, xs_lload_n_1, xs_lstore_n_3_i, xs_lstore_n_3_a, xs_lstore_n_3_n, xs_lstore_n_3_l, xs_iconst_0, xs_istore_5_i, xs_istore_5_a, xs_istore_5_n, xs_istore_5_l, xs_iload_5, xs_aload_n_0, xs_icmp_ge, xs_istore_6_i, xs_istore_6_a, xs_istore_6_n, xs_istore_6_l, xs_iload_6, xs_iconst_2, xs_icmp_gt, xs_ldc2, xs_lload_n_3, xs_lmul, xs_i2l, xs_ladd, xs_iinc_6_1_i, xs_iinc_6_1_a, xs_iinc_6_1_n, xs_goto, xs_iinc_5_1_i, xs_iinc_5_1_a, xs_iinc_5_1_n, xs_bipush_6, xs_istore_7_i, xs_istore_7_a, xs_istore_7_n, xs_istore_7_l, xs_iload_7, xs_iinc_7_1_i, xs_iinc_7_1_a, xs_iinc_7_1_n, xs_lreturn]) ))
    exact ⟨fun _ => fin _ _, fun z => absurd (nI_le (a := 6) (b := 6) (by decide) (by decide)) z⟩
  | succ d ih =>
    intro q c hq
    have ihT := fun c => ih (q + 1) c (by omega)
    refine xe_X7_digestOfGrammar_107 ?_
    (repeat (first | (simp only [xb_X7_digestOfGrammar_0, xb_X7_digestOfGrammar_5, xb_X7_digestOfGrammar_23, xb_X7_digestOfGrammar_51, xb_X7_digestOfGrammar_57, xb_X7_digestOfGrammar_60, xb_X7_digestOfGrammar_94, xb_X7_digestOfGrammar_97, xb_X7_digestOfGrammar_107, xb_X7_digestOfGrammar_117, xb_X7_digestOfGrammar_147, xb_X7_digestOfGrammar_153, xb_X7_digestOfGrammar_159, xs_nil, Nat.reduceAdd, true_implies, not_true_eq_false, not_false_eq_true, false_implies, and_true, true_and, x_10, xs_lload_n_1, xs_lstore_n_3_i, xs_lstore_n_3_a, xs_lstore_n_3_n, xs_lstore_n_3_l, xs_iconst_0, xs_istore_5_i, xs_istore_5_a, xs_istore_5_n, xs_istore_5_l, xs_iload_5, xs_aload_n_0, xs_icmp_ge, xs_istore_6_i, xs_istore_6_a, xs_istore_6_n, xs_istore_6_l, xs_iload_6, xs_iconst_2, xs_icmp_gt, xs_ldc2, xs_lload_n_3, xs_lmul, xs_i2l, xs_ladd, xs_iinc_6_1_i, xs_iinc_6_1_a, xs_iinc_6_1_n, xs_goto, xs_iinc_5_1_i, xs_iinc_5_1_a, xs_iinc_5_1_n, xs_bipush_6, xs_istore_7_i, xs_istore_7_a, xs_istore_7_n, xs_istore_7_l, xs_iload_7, xs_iinc_7_1_i, xs_iinc_7_1_a, xs_iinc_7_1_n, xs_lreturn]) ))
    refine ⟨fun z => absurd z (nI_ge (b := 6) (by omega) (by decide)), fun _ => ?_⟩
    (repeat (first | (simp only [xb_X7_digestOfGrammar_0, xb_X7_digestOfGrammar_5, xb_X7_digestOfGrammar_23, xb_X7_digestOfGrammar_51, xb_X7_digestOfGrammar_57, xb_X7_digestOfGrammar_60, xb_X7_digestOfGrammar_94, xb_X7_digestOfGrammar_97, xb_X7_digestOfGrammar_107, xb_X7_digestOfGrammar_117, xb_X7_digestOfGrammar_147, xb_X7_digestOfGrammar_153, xb_X7_digestOfGrammar_159, xs_nil, Nat.reduceAdd, true_implies, not_true_eq_false, not_false_eq_true, false_implies, and_true, true_and, x_10, xs_lload_n_1, xs_lstore_n_3_i, xs_lstore_n_3_a, xs_lstore_n_3_n, xs_lstore_n_3_l, xs_iconst_0, xs_istore_5_i, xs_istore_5_a, xs_istore_5_n, xs_istore_5_l, xs_iload_5, xs_aload_n_0, xs_icmp_ge, xs_istore_6_i, xs_istore_6_a, xs_istore_6_n, xs_istore_6_l, xs_iload_6, xs_iconst_2, xs_icmp_gt, xs_ldc2, xs_lload_n_3, xs_lmul, xs_i2l, xs_ladd, xs_iinc_6_1_i, xs_iinc_6_1_a, xs_iinc_6_1_n, xs_goto, xs_iinc_5_1_i, xs_iinc_5_1_a, xs_iinc_5_1_n, xs_bipush_6, xs_istore_7_i, xs_istore_7_a, xs_istore_7_n, xs_istore_7_l, xs_iload_7, xs_iinc_7_1_i, xs_iinc_7_1_a, xs_iinc_7_1_n, xs_lreturn]) ))
    refine l7_sideD B hv ha (b := q) (by omega) (fun c => ?_) 2 0 (by omega)
    refine xe_X7_digestOfGrammar_147 ?_
    (repeat (first | (simp only [xb_X7_digestOfGrammar_0, xb_X7_digestOfGrammar_5, xb_X7_digestOfGrammar_23, xb_X7_digestOfGrammar_51, xb_X7_digestOfGrammar_57, xb_X7_digestOfGrammar_60, xb_X7_digestOfGrammar_94, xb_X7_digestOfGrammar_97, xb_X7_digestOfGrammar_107, xb_X7_digestOfGrammar_117, xb_X7_digestOfGrammar_147, xb_X7_digestOfGrammar_153, xb_X7_digestOfGrammar_159, xs_nil, Nat.reduceAdd, true_implies, not_true_eq_false, not_false_eq_true, false_implies, and_true, true_and, x_10, xs_lload_n_1, xs_lstore_n_3_i, xs_lstore_n_3_a, xs_lstore_n_3_n, xs_lstore_n_3_l, xs_iconst_0, xs_istore_5_i, xs_istore_5_a, xs_istore_5_n, xs_istore_5_l, xs_iload_5, xs_aload_n_0, xs_icmp_ge, xs_istore_6_i, xs_istore_6_a, xs_istore_6_n, xs_istore_6_l, xs_iload_6, xs_iconst_2, xs_icmp_gt, xs_ldc2, xs_lload_n_3, xs_lmul, xs_i2l, xs_ladd, xs_iinc_6_1_i, xs_iinc_6_1_a, xs_iinc_6_1_n, xs_goto, xs_iinc_5_1_i, xs_iinc_5_1_a, xs_iinc_5_1_n, xs_bipush_6, xs_istore_7_i, xs_istore_7_a, xs_istore_7_n, xs_istore_7_l, xs_iload_7, xs_iinc_7_1_i, xs_iinc_7_1_a, xs_iinc_7_1_n, xs_lreturn]) ))
    rw [nI_1]
    exact ihT _
theorem l7_rulesD (B : cW h s k sh nx ct tx ln rf) (hv : sv s) {x : Int64} (fin : ∀ a b c : Option Value, x_EV 173 159 [some (.ref 2), some (.long x), none, some (.long (dgr (sP s) D 6)), none, a, b, c] [] h r h') : ∀ (d q : Nat) (b c : Option Value), q + d = 6 → x_EV 173 97 [some (.ref 2), some (.long x), none, some (.long (dgr (sP s) D q)), none, some (.int (nI q)), b, c] [] h r h' := by
  intro d
  induction d with
  | zero =>
    intro q b c hq
    have eq : q = 6 := by omega
    subst eq
    refine xe_X7_digestOfGrammar_97 ?_
    (repeat (first | (simp only [xb_X7_digestOfGrammar_0, xb_X7_digestOfGrammar_5, xb_X7_digestOfGrammar_23, xb_X7_digestOfGrammar_51, xb_X7_digestOfGrammar_57, xb_X7_digestOfGrammar_60, xb_X7_digestOfGrammar_94, xb_X7_digestOfGrammar_97, xb_X7_digestOfGrammar_107, xb_X7_digestOfGrammar_117, xb_X7_digestOfGrammar_147, xb_X7_digestOfGrammar_153, xb_X7_digestOfGrammar_159, xs_nil, Nat.reduceAdd, true_implies, not_true_eq_false, not_false_eq_true, false_implies, and_true, true_and, x_10, xs_lload_n_1, xs_lstore_n_3_i, xs_lstore_n_3_a, xs_lstore_n_3_n, xs_lstore_n_3_l, xs_iconst_0, xs_istore_5_i, xs_istore_5_a, xs_istore_5_n, xs_istore_5_l, xs_iload_5, xs_aload_n_0, xs_icmp_ge, xs_istore_6_i, xs_istore_6_a, xs_istore_6_n, xs_istore_6_l, xs_iload_6, xs_iconst_2, xs_icmp_gt, xs_ldc2, xs_lload_n_3, xs_lmul, xs_i2l, xs_ladd, xs_iinc_6_1_i, xs_iinc_6_1_a, xs_iinc_6_1_n, xs_goto, xs_iinc_5_1_i, xs_iinc_5_1_a, xs_iinc_5_1_n, xs_bipush_6, xs_istore_7_i, xs_istore_7_a, xs_istore_7_n, xs_istore_7_l, xs_iload_7, xs_iinc_7_1_i, xs_iinc_7_1_a, xs_iinc_7_1_n, xs_lreturn]) ))
    exact ⟨fun _ => fin _ _ _, fun z => absurd (nI_le (a := 6) (b := 6) (by decide) (by decide)) z⟩
  | succ d ih =>
    intro q b c hq
    have ihT := fun b c => ih (q + 1) b c (by omega)
    refine xe_X7_digestOfGrammar_97 ?_
    (repeat (first | (simp only [xb_X7_digestOfGrammar_0, xb_X7_digestOfGrammar_5, xb_X7_digestOfGrammar_23, xb_X7_digestOfGrammar_51, xb_X7_digestOfGrammar_57, xb_X7_digestOfGrammar_60, xb_X7_digestOfGrammar_94, xb_X7_digestOfGrammar_97, xb_X7_digestOfGrammar_107, xb_X7_digestOfGrammar_117, xb_X7_digestOfGrammar_147, xb_X7_digestOfGrammar_153, xb_X7_digestOfGrammar_159, xs_nil, Nat.reduceAdd, true_implies, not_true_eq_false, not_false_eq_true, false_implies, and_true, true_and, x_10, xs_lload_n_1, xs_lstore_n_3_i, xs_lstore_n_3_a, xs_lstore_n_3_n, xs_lstore_n_3_l, xs_iconst_0, xs_istore_5_i, xs_istore_5_a, xs_istore_5_n, xs_istore_5_l, xs_iload_5, xs_aload_n_0, xs_icmp_ge, xs_istore_6_i, xs_istore_6_a, xs_istore_6_n, xs_istore_6_l, xs_iload_6, xs_iconst_2, xs_icmp_gt, xs_ldc2, xs_lload_n_3, xs_lmul, xs_i2l, xs_ladd, xs_iinc_6_1_i, xs_iinc_6_1_a, xs_iinc_6_1_n, xs_goto, xs_iinc_5_1_i, xs_iinc_5_1_a, xs_iinc_5_1_n, xs_bipush_6, xs_istore_7_i, xs_istore_7_a, xs_istore_7_n, xs_istore_7_l, xs_iload_7, xs_iinc_7_1_i, xs_iinc_7_1_a, xs_iinc_7_1_n, xs_lreturn]) ))
    refine ⟨fun z => absurd z (nI_ge (b := 6) (by omega) (by decide)), fun _ => ?_⟩
    (repeat (first | (simp only [xb_X7_digestOfGrammar_0, xb_X7_digestOfGrammar_5, xb_X7_digestOfGrammar_23, xb_X7_digestOfGrammar_51, xb_X7_digestOfGrammar_57, xb_X7_digestOfGrammar_60, xb_X7_digestOfGrammar_94, xb_X7_digestOfGrammar_97, xb_X7_digestOfGrammar_107, xb_X7_digestOfGrammar_117, xb_X7_digestOfGrammar_147, xb_X7_digestOfGrammar_153, xb_X7_digestOfGrammar_159, xs_nil, Nat.reduceAdd, true_implies, not_true_eq_false, not_false_eq_true, false_implies, and_true, true_and, x_10, xs_lload_n_1, xs_lstore_n_3_i, xs_lstore_n_3_a, xs_lstore_n_3_n, xs_lstore_n_3_l, xs_iconst_0, xs_istore_5_i, xs_istore_5_a, xs_istore_5_n, xs_istore_5_l, xs_iload_5, xs_aload_n_0, xs_icmp_ge, xs_istore_6_i, xs_istore_6_a, xs_istore_6_n, xs_istore_6_l, xs_iload_6, xs_iconst_2, xs_icmp_gt, xs_ldc2, xs_lload_n_3, xs_lmul, xs_i2l, xs_ladd, xs_iinc_6_1_i, xs_iinc_6_1_a, xs_iinc_6_1_n, xs_goto, xs_iinc_5_1_i, xs_iinc_5_1_a, xs_iinc_5_1_n, xs_bipush_6, xs_istore_7_i, xs_istore_7_a, xs_istore_7_n, xs_istore_7_l, xs_iload_7, xs_iinc_7_1_i, xs_iinc_7_1_a, xs_iinc_7_1_n, xs_lreturn]) ))
    refine l7_depD B hv (a := q) (by omega) (fun b c => ?_) 6 0 _ (by omega)
    refine xe_X7_digestOfGrammar_153 ?_
    (repeat (first | (simp only [xb_X7_digestOfGrammar_0, xb_X7_digestOfGrammar_5, xb_X7_digestOfGrammar_23, xb_X7_digestOfGrammar_51, xb_X7_digestOfGrammar_57, xb_X7_digestOfGrammar_60, xb_X7_digestOfGrammar_94, xb_X7_digestOfGrammar_97, xb_X7_digestOfGrammar_107, xb_X7_digestOfGrammar_117, xb_X7_digestOfGrammar_147, xb_X7_digestOfGrammar_153, xb_X7_digestOfGrammar_159, xs_nil, Nat.reduceAdd, true_implies, not_true_eq_false, not_false_eq_true, false_implies, and_true, true_and, x_10, xs_lload_n_1, xs_lstore_n_3_i, xs_lstore_n_3_a, xs_lstore_n_3_n, xs_lstore_n_3_l, xs_iconst_0, xs_istore_5_i, xs_istore_5_a, xs_istore_5_n, xs_istore_5_l, xs_iload_5, xs_aload_n_0, xs_icmp_ge, xs_istore_6_i, xs_istore_6_a, xs_istore_6_n, xs_istore_6_l, xs_iload_6, xs_iconst_2, xs_icmp_gt, xs_ldc2, xs_lload_n_3, xs_lmul, xs_i2l, xs_ladd, xs_iinc_6_1_i, xs_iinc_6_1_a, xs_iinc_6_1_n, xs_goto, xs_iinc_5_1_i, xs_iinc_5_1_a, xs_iinc_5_1_n, xs_bipush_6, xs_istore_7_i, xs_istore_7_a, xs_istore_7_n, xs_istore_7_l, xs_iload_7, xs_iinc_7_1_i, xs_iinc_7_1_a, xs_iinc_7_1_n, xs_lreturn]) ))
    rw [nI_1]
    exact ihT _ _
theorem c7_digestG (B : cW h s k sh nx ct tx ln rf) (hv : sv s) : xK 173 [.ref 2, .long D] h (some (.long (dgr (sP s) (dg (fun i => (sR s).getD i 0) (dge s D (sne s)) 6) 6))) h := by
  refine xK_X7_digestOfGrammar (B.hp 0 _ rfl) (xe_X7_digestOfGrammar_0 ?_)
  (repeat (first | (simp only [xb_X7_digestOfGrammar_0, xb_X7_digestOfGrammar_5, xb_X7_digestOfGrammar_23, xb_X7_digestOfGrammar_51, xb_X7_digestOfGrammar_57, xb_X7_digestOfGrammar_60, xb_X7_digestOfGrammar_94, xb_X7_digestOfGrammar_97, xb_X7_digestOfGrammar_107, xb_X7_digestOfGrammar_117, xb_X7_digestOfGrammar_147, xb_X7_digestOfGrammar_153, xb_X7_digestOfGrammar_159, xs_nil, Nat.reduceAdd, true_implies, not_true_eq_false, not_false_eq_true, false_implies, and_true, true_and, x_10, xs_lload_n_1, xs_lstore_n_3_i, xs_lstore_n_3_a, xs_lstore_n_3_n, xs_lstore_n_3_l, xs_iconst_0, xs_istore_5_i, xs_istore_5_a, xs_istore_5_n, xs_istore_5_l, xs_iload_5, xs_aload_n_0, xs_icmp_ge, xs_istore_6_i, xs_istore_6_a, xs_istore_6_n, xs_istore_6_l, xs_iload_6, xs_iconst_2, xs_icmp_gt, xs_ldc2, xs_lload_n_3, xs_lmul, xs_i2l, xs_ladd, xs_iinc_6_1_i, xs_iinc_6_1_a, xs_iinc_6_1_n, xs_goto, xs_iinc_5_1_i, xs_iinc_5_1_a, xs_iinc_5_1_n, xs_bipush_6, xs_istore_7_i, xs_istore_7_a, xs_istore_7_n, xs_istore_7_l, xs_iload_7, xs_iinc_7_1_i, xs_iinc_7_1_a, xs_iinc_7_1_n, xs_lreturn]) ))
  refine l7_entsD B hv (fun a b => ?_) (sne s) 0 _ (by omega)
  refine xe_X7_digestOfGrammar_57 ?_
  (repeat (first | (simp only [xb_X7_digestOfGrammar_0, xb_X7_digestOfGrammar_5, xb_X7_digestOfGrammar_23, xb_X7_digestOfGrammar_51, xb_X7_digestOfGrammar_57, xb_X7_digestOfGrammar_60, xb_X7_digestOfGrammar_94, xb_X7_digestOfGrammar_97, xb_X7_digestOfGrammar_107, xb_X7_digestOfGrammar_117, xb_X7_digestOfGrammar_147, xb_X7_digestOfGrammar_153, xb_X7_digestOfGrammar_159, xs_nil, Nat.reduceAdd, true_implies, not_true_eq_false, not_false_eq_true, false_implies, and_true, true_and, x_10, xs_lload_n_1, xs_lstore_n_3_i, xs_lstore_n_3_a, xs_lstore_n_3_n, xs_lstore_n_3_l, xs_iconst_0, xs_istore_5_i, xs_istore_5_a, xs_istore_5_n, xs_istore_5_l, xs_iload_5, xs_aload_n_0, xs_icmp_ge, xs_istore_6_i, xs_istore_6_a, xs_istore_6_n, xs_istore_6_l, xs_iload_6, xs_iconst_2, xs_icmp_gt, xs_ldc2, xs_lload_n_3, xs_lmul, xs_i2l, xs_ladd, xs_iinc_6_1_i, xs_iinc_6_1_a, xs_iinc_6_1_n, xs_goto, xs_iinc_5_1_i, xs_iinc_5_1_a, xs_iinc_5_1_n, xs_bipush_6, xs_istore_7_i, xs_istore_7_a, xs_istore_7_n, xs_istore_7_l, xs_iload_7, xs_iinc_7_1_i, xs_iinc_7_1_a, xs_iinc_7_1_n, xs_lreturn]) ))
  refine l7_rootD B hv (fun a => ?_) 6 0 (by omega)
  refine xe_X7_digestOfGrammar_94 ?_
  (repeat (first | (simp only [xb_X7_digestOfGrammar_0, xb_X7_digestOfGrammar_5, xb_X7_digestOfGrammar_23, xb_X7_digestOfGrammar_51, xb_X7_digestOfGrammar_57, xb_X7_digestOfGrammar_60, xb_X7_digestOfGrammar_94, xb_X7_digestOfGrammar_97, xb_X7_digestOfGrammar_107, xb_X7_digestOfGrammar_117, xb_X7_digestOfGrammar_147, xb_X7_digestOfGrammar_153, xb_X7_digestOfGrammar_159, xs_nil, Nat.reduceAdd, true_implies, not_true_eq_false, not_false_eq_true, false_implies, and_true, true_and, x_10, xs_lload_n_1, xs_lstore_n_3_i, xs_lstore_n_3_a, xs_lstore_n_3_n, xs_lstore_n_3_l, xs_iconst_0, xs_istore_5_i, xs_istore_5_a, xs_istore_5_n, xs_istore_5_l, xs_iload_5, xs_aload_n_0, xs_icmp_ge, xs_istore_6_i, xs_istore_6_a, xs_istore_6_n, xs_istore_6_l, xs_iload_6, xs_iconst_2, xs_icmp_gt, xs_ldc2, xs_lload_n_3, xs_lmul, xs_i2l, xs_ladd, xs_iinc_6_1_i, xs_iinc_6_1_a, xs_iinc_6_1_n, xs_goto, xs_iinc_5_1_i, xs_iinc_5_1_a, xs_iinc_5_1_n, xs_bipush_6, xs_istore_7_i, xs_istore_7_a, xs_istore_7_n, xs_istore_7_l, xs_iload_7, xs_iinc_7_1_i, xs_iinc_7_1_a, xs_iinc_7_1_n, xs_lreturn]) ))
  refine l7_rulesD B hv (fun a b c => ?_) 6 0 _ _ (by omega)
  refine xe_X7_digestOfGrammar_159 ?_
  (repeat (first | (simp only [xb_X7_digestOfGrammar_0, xb_X7_digestOfGrammar_5, xb_X7_digestOfGrammar_23, xb_X7_digestOfGrammar_51, xb_X7_digestOfGrammar_57, xb_X7_digestOfGrammar_60, xb_X7_digestOfGrammar_94, xb_X7_digestOfGrammar_97, xb_X7_digestOfGrammar_107, xb_X7_digestOfGrammar_117, xb_X7_digestOfGrammar_147, xb_X7_digestOfGrammar_153, xb_X7_digestOfGrammar_159, xs_nil, Nat.reduceAdd, true_implies, not_true_eq_false, not_false_eq_true, false_implies, and_true, true_and, x_10, xs_lload_n_1, xs_lstore_n_3_i, xs_lstore_n_3_a, xs_lstore_n_3_n, xs_lstore_n_3_l, xs_iconst_0, xs_istore_5_i, xs_istore_5_a, xs_istore_5_n, xs_istore_5_l, xs_iload_5, xs_aload_n_0, xs_icmp_ge, xs_istore_6_i, xs_istore_6_a, xs_istore_6_n, xs_istore_6_l, xs_iload_6, xs_iconst_2, xs_icmp_gt, xs_ldc2, xs_lload_n_3, xs_lmul, xs_i2l, xs_ladd, xs_iinc_6_1_i, xs_iinc_6_1_a, xs_iinc_6_1_n, xs_goto, xs_iinc_5_1_i, xs_iinc_5_1_a, xs_iinc_5_1_n, xs_bipush_6, xs_istore_7_i, xs_istore_7_a, xs_istore_7_n, xs_istore_7_l, xs_iload_7, xs_iinc_7_1_i, xs_iinc_7_1_a, xs_iinc_7_1_n, xs_lreturn]) ))
  (first | exact ⟨Or.inl trivial, rfl⟩ | exact ⟨Or.inl trivial, rfl, rfl⟩ | (simp; done) | exact ⟨by simp, rfl⟩ | exact ⟨by simp, rfl, rfl⟩ | rfl)
theorem l7_toldD (B : cW h s k sh nx ct tx ln rf) (hv : sv s) (hr : rf.length = 3) (fin : ∀ a : Option Value, x_EV 174 31 [some (.ref 2), some (.long (dg (tv s ct ln rf) D 9)), none, a] [] h r h') : ∀ (d q : Nat), q + d = 9 → x_EV 174 6 [some (.ref 2), some (.long (dg (tv s ct ln rf) D q)), none, some (.int (nI q))] [] h r h' := by
  intro d
  induction d with
  | zero =>
    intro q hq
    have eq : q = 9 := by omega
    subst eq
    refine xe_X7_digest_6 ?_
    (repeat (first | (simp only [xb_X7_digest_0, xb_X7_digest_6, xb_X7_digest_31, xs_nil, Nat.reduceAdd, true_implies, not_true_eq_false, not_false_eq_true, false_implies, and_true, true_and, x_10, xs_ldc2, xs_lstore_n_1_i, xs_lstore_n_1_a, xs_lstore_n_1_n, xs_lstore_n_1_l, xs_iconst_0, xs_istore_n_3_i, xs_istore_n_3_a, xs_istore_n_3_n, xs_istore_n_3_l, xs_iload_n_3, xs_bipush_8, xs_icmp_gt, xs_lload_n_1, xs_lmul, xs_aload_n_0, xs_i2l, xs_ladd, xs_iinc_3_1_i, xs_iinc_3_1_a, xs_iinc_3_1_n, xs_goto, xs_lreturn]) ))
    exact ⟨fun _ => fin _, fun z => absurd (nI_lt (a := 8) (b := 9) (by decide) (by decide)) z⟩
  | succ d ih =>
    intro q hq
    have ihT := ih (q + 1) (by omega)
    have c := c7_told B hv hr (i := q) (by omega)
    refine xe_X7_digest_6 ?_
    (repeat (first | (simp only [xb_X7_digest_0, xb_X7_digest_6, xb_X7_digest_31, xs_nil, Nat.reduceAdd, true_implies, not_true_eq_false, not_false_eq_true, false_implies, and_true, true_and, x_10, xs_ldc2, xs_lstore_n_1_i, xs_lstore_n_1_a, xs_lstore_n_1_n, xs_lstore_n_1_l, xs_iconst_0, xs_istore_n_3_i, xs_istore_n_3_a, xs_istore_n_3_n, xs_istore_n_3_l, xs_iload_n_3, xs_bipush_8, xs_icmp_gt, xs_lload_n_1, xs_lmul, xs_aload_n_0, xs_i2l, xs_ladd, xs_iinc_3_1_i, xs_iinc_3_1_a, xs_iinc_3_1_n, xs_goto, xs_lreturn]) ))
    refine ⟨fun z => absurd z (nI_nlt (a := 8) (by omega) (by decide)), fun _ => ?_⟩
    (repeat (first | (simp only [xb_X7_digest_0, xb_X7_digest_6, xb_X7_digest_31, xs_nil, Nat.reduceAdd, true_implies, not_true_eq_false, not_false_eq_true, false_implies, and_true, true_and, x_10, xs_ldc2, xs_lstore_n_1_i, xs_lstore_n_1_a, xs_lstore_n_1_n, xs_lstore_n_1_l, xs_iconst_0, xs_istore_n_3_i, xs_istore_n_3_a, xs_istore_n_3_n, xs_istore_n_3_l, xs_iload_n_3, xs_bipush_8, xs_icmp_gt, xs_lload_n_1, xs_lmul, xs_aload_n_0, xs_i2l, xs_ladd, xs_iinc_3_1_i, xs_iinc_3_1_a, xs_iinc_3_1_n, xs_goto, xs_lreturn]) | refine xc_v2_1 (c) (Nat.le_of_ble_eq_true rfl) ?_))
    rw [nI_1]
    exact ihT
theorem c7_digest (B : cW h s k sh nx ct tx ln rf) (hR : Rl s nw) (hr : rf.length = 3) : xK 174 [.ref 2] h (some (.long (dig s ct ln rf))) h := by
  have hv := hR.1
  have cS := c7_sound B hR
  refine xK_X7_digest (B.hp 0 _ rfl) (xe_X7_digest_0 ?_)
  (repeat (first | (simp only [xb_X7_digest_0, xb_X7_digest_6, xb_X7_digest_31, xs_nil, Nat.reduceAdd, true_implies, not_true_eq_false, not_false_eq_true, false_implies, and_true, true_and, x_10, xs_ldc2, xs_lstore_n_1_i, xs_lstore_n_1_a, xs_lstore_n_1_n, xs_lstore_n_1_l, xs_iconst_0, xs_istore_n_3_i, xs_istore_n_3_a, xs_istore_n_3_n, xs_istore_n_3_l, xs_iload_n_3, xs_bipush_8, xs_icmp_gt, xs_lload_n_1, xs_lmul, xs_aload_n_0, xs_i2l, xs_ladd, xs_iinc_3_1_i, xs_iinc_3_1_a, xs_iinc_3_1_n, xs_goto, xs_lreturn]) ))
  refine l7_toldD B hv hr (fun a => ?_) 9 0 (by omega)
  refine xe_X7_digest_31 ?_
  (repeat (first | (simp only [xb_X7_digest_0, xb_X7_digest_6, xb_X7_digest_31, xs_nil, Nat.reduceAdd, true_implies, not_true_eq_false, not_false_eq_true, false_implies, and_true, true_and, x_10, xs_ldc2, xs_lstore_n_1_i, xs_lstore_n_1_a, xs_lstore_n_1_n, xs_lstore_n_1_l, xs_iconst_0, xs_istore_n_3_i, xs_istore_n_3_a, xs_istore_n_3_n, xs_istore_n_3_l, xs_iload_n_3, xs_bipush_8, xs_icmp_gt, xs_lload_n_1, xs_lmul, xs_aload_n_0, xs_i2l, xs_ladd, xs_iinc_3_1_i, xs_iinc_3_1_a, xs_iinc_3_1_n, xs_goto, xs_lreturn]) | refine xc_v2_1 (c7_digestS B hv) (Nat.le_of_ble_eq_true rfl) ?_ | refine xc_v2_1 (c7_digestG B hv) (Nat.le_of_ble_eq_true rfl) ?_ | refine xc_v1_1 (cS) (Nat.le_of_ble_eq_true rfl) ?_))
  (first | exact ⟨Or.inl trivial, rfl⟩ | exact ⟨Or.inl trivial, rfl, rfl⟩ | (simp; done) | exact ⟨by simp, rfl⟩ | exact ⟨by simp, rfl, rfl⟩ | rfl)
end DG
