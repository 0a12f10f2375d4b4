/-! the reference reads an order -/
section MR4
variable {m : Nat} {nw asd pa rf tx hd rd so ah ar tr bg le fr : List Int32} {sts fo bc br bk c : Int32} {ha : Int64} {h0 : xH} {N f0 K k s n : Nat} {nu : List Int32} {wr : Int32} {h : xH}
theorem x_mc_l {m : Nat} {nw asd pa rf tx hd rd so ah ar tr bg le fr nu : List Int32} {sts byt fo bc br bk od sp wr : Int32} {ha : Int64} : (x_mc m nw asd pa sts rf tx byt hd rd so ah ar tr bg fo bc br bk le fr nu od sp wr ha).length = 16 := rfl
theorem mc_ex {sp' : Int32} {nu' : List Int32} {wr' : Int32} (A : xA h0 m (x_mc m nw asd pa sts rf tx (nI N) hd rd so ah ar tr bg fo bc br bk le fr nu (nI K) (nI s) wr ha) h) : ∃ h3, xA h0 m (x_mc m nw asd pa sts rf tx (nI N) hd rd so ah ar tr bg fo bc br bk le fr (nu') (nI K) (sp') (wr') ha) h3 := ⟨_, A.on rfl⟩
theorem lstN_le (c : Int32) : lstN c ≤ 6 := by
  have := mostN_le c
  unfold lstN
  split <;> omega
theorem tk_fig (h2 : 2 ≤ m) (hl : tx.length = 120) (hN : N ≤ 120) (hs : s ≤ N) (hfl : fr.length = 41) (hK : K < 40) (hfr : fr.getD K 0 = nI f0) (hm0 : ¬ mostN c = 0) (hk : k < mostN c) (hz : ¬ pB tx N s = 59) (hf : figB (pB tx N s) = true) (A : xA h0 m (x_mc m nw asd pa sts rf tx (nI N) hd rd so ah ar tr bg fo bc br bk le fr nu (nI K) (nI s) wr ha) h) (hln : nu.length = 120) (hn : n = f0 + k) (hn2 : n < 120) {R : Bool × Nat × Int32} (hR : pnum tx N s false = R) :
    ∃ (nu' : List Int32) (wr' : Int32), (nu'.length = 120 ∧ (R.1 = true → nu' = nu.set n R.2.2) ∧ (R.1 = false → wr' = nI R.2.1)) ∧ ∀ (r : Option Value) (h' : xH) (a3 a4 a5 : Option Value), (R.1 = true → ∀ h3, xA h0 m (x_mc m nw asd pa sts rf tx (nI N) hd rd so ah ar tr bg fo bc br bk le fr (nu') (nI K) (nI (sk tx N R.2.1)) (wr') ha) h3 → ∀ a3 a4 a5 : Option Value, x_EV 158 14 [some (.ref m), some (.int c), some (.int (nI (n + 1))), a3, a4, a5] [] h3 r h') → (R.1 = false → r = some (.int 0) ∧ h' = x_wr h0 m (x_mc m nw asd pa sts rf tx (nI N) hd rd so ah ar tr bg fo bc br bk le fr (nu') (nI K) (nI R.2.1) (wr') ha)) → x_EV 158 14 [some (.ref m), some (.int c), some (.int (nI n)), a3, a4, a5] [] h r h' := by
  have hb := A.hb
  have hm6 := mostN_le c
  obtain ⟨n1, n2, n3⟩ := pnum_pos (tx := tx) (p := s) hs (nb := false)
  obtain ⟨nu', wr', ⟨ln', hok, hno⟩, cN⟩ := c_takesNumber hb h2 hl hN hln (q := n) hn2 hf
  rw [hR] at n1 n2 n3 hok hno cN
  obtain ⟨h1, cN, A1⟩ : ∃ h1, xK 157 [.ref m, .int (nI n)] h (some (.int (if R.1 = true then 1 else 0))) h1 ∧ xA h0 m (x_mc m nw asd pa sts rf tx (nI N) hd rd so ah ar tr bg fo bc br bk le fr (nu') (nI K) (nI R.2.1) (wr') ha) h1 := ⟨_, cN, A.on rfl⟩
  have cF := c_isF hb hl hN (by omega)
  rw [if_pos hf] at cF
  refine ⟨nu', wr', ⟨ln', hok, hno⟩, ?_⟩
  intro r h' a3 a4 a5 H1 H2
  subst hn
  refine tk_mid hl hN hs hfl hK hfr hm0 (by omega) hz A (fun v w hv hw => ?_)
  rw [if_pos hk] at hv
  subst hv
  refine xe_X8_takesNumbers_84 ?_
  (repeat (first | (simp only [xb_X8_takesNumbers_0, xb_X8_takesNumbers_14, xb_X8_takesNumbers_49, xb_X8_takesNumbers_50, xb_X8_takesNumbers_69, xb_X8_takesNumbers_83, xb_X8_takesNumbers_84, xb_X8_takesNumbers_112, xb_X8_takesNumbers_148, xb_X8_takesNumbers_157, xb_X8_takesNumbers_167, xb_X8_takesNumbers_194, xs_nil, Nat.reduceAdd, true_implies, not_true_eq_false, not_false_eq_true, false_implies, and_true, true_and, x_10, xs_aload_n_0, xs_istore_n_2_i, xs_istore_n_2_a, xs_istore_n_2_n, xs_istore_n_2_l, xs_bipush_59, xs_if_ne, xs_iload_n_2, xs_isub, xs_istore_n_3_i, xs_istore_n_3_a, xs_istore_n_3_n, xs_istore_n_3_l, xs_iload_n_3, xs_iload_n_1, xs_icmp_ge, xs_iconst_1, xs_goto, xs_iconst_0, xs_istore_4_i, xs_istore_4_a, xs_istore_4_n, xs_istore_4_l, xs_iload_4, xs_if_eq, xs_bipush_114, xs_icmp_eq, xs_bipush_111, xs_icmp_ne, xs_istore_5_i, xs_istore_5_a, xs_istore_5_n, xs_istore_5_l, xs_bipush_48, xs_bipush_57, xs_ireturn, xs_iload_5, xs_bipush_45, xs_iconst_m1, xs_dup_i, xs_dup_a, xs_iadd, xs_iinc_2_1_i, xs_iinc_2_1_a, xs_iinc_2_1_n]) | refine xc_v3_1 (cF) (Nat.le_of_ble_eq_true rfl) ?_ | refine xc_v2_1 (cN) (Nat.le_of_ble_eq_true rfl) ?_))
  by_cases hr : R.1 = true
  · rw [if_pos hr]
    (repeat (first | (simp only [xb_X8_takesNumbers_0, xb_X8_takesNumbers_14, xb_X8_takesNumbers_49, xb_X8_takesNumbers_50, xb_X8_takesNumbers_69, xb_X8_takesNumbers_83, xb_X8_takesNumbers_84, xb_X8_takesNumbers_112, xb_X8_takesNumbers_148, xb_X8_takesNumbers_157, xb_X8_takesNumbers_167, xb_X8_takesNumbers_194, xs_nil, Nat.reduceAdd, true_implies, not_true_eq_false, not_false_eq_true, false_implies, and_true, true_and, x_10, xs_aload_n_0, xs_istore_n_2_i, xs_istore_n_2_a, xs_istore_n_2_n, xs_istore_n_2_l, xs_bipush_59, xs_if_ne, xs_iload_n_2, xs_isub, xs_istore_n_3_i, xs_istore_n_3_a, xs_istore_n_3_n, xs_istore_n_3_l, xs_iload_n_3, xs_iload_n_1, xs_icmp_ge, xs_iconst_1, xs_goto, xs_iconst_0, xs_istore_4_i, xs_istore_4_a, xs_istore_4_n, xs_istore_4_l, xs_iload_4, xs_if_eq, xs_bipush_114, xs_icmp_eq, xs_bipush_111, xs_icmp_ne, xs_istore_5_i, xs_istore_5_a, xs_istore_5_n, xs_istore_5_l, xs_bipush_48, xs_bipush_57, xs_ireturn, xs_iload_5, xs_bipush_45, xs_iconst_m1, xs_dup_i, xs_dup_a, xs_iadd, xs_iinc_2_1_i, xs_iinc_2_1_a, xs_iinc_2_1_n]) ))
    exact tk_157 h2 hl hN n1 A1 (fun h3 A3 => H1 hr h3 A3 _ _ _)
  · obtain ⟨q1, q2⟩ := H2 (by rw [Bool.not_eq_true] at hr; exact hr)
    rw [if_neg hr]
    have e := A1.e
    rw [e] at q2
    subst q1 q2
    (repeat (first | (simp only [xb_X8_takesNumbers_0, xb_X8_takesNumbers_14, xb_X8_takesNumbers_49, xb_X8_takesNumbers_50, xb_X8_takesNumbers_69, xb_X8_takesNumbers_83, xb_X8_takesNumbers_84, xb_X8_takesNumbers_112, xb_X8_takesNumbers_148, xb_X8_takesNumbers_157, xb_X8_takesNumbers_167, xb_X8_takesNumbers_194, xs_nil, Nat.reduceAdd, true_implies, not_true_eq_false, not_false_eq_true, false_implies, and_true, true_and, x_10, xs_aload_n_0, xs_istore_n_2_i, xs_istore_n_2_a, xs_istore_n_2_n, xs_istore_n_2_l, xs_bipush_59, xs_if_ne, xs_iload_n_2, xs_isub, xs_istore_n_3_i, xs_istore_n_3_a, xs_istore_n_3_n, xs_istore_n_3_l, xs_iload_n_3, xs_iload_n_1, xs_icmp_ge, xs_iconst_1, xs_goto, xs_iconst_0, xs_istore_4_i, xs_istore_4_a, xs_istore_4_n, xs_istore_4_l, xs_iload_4, xs_if_eq, xs_bipush_114, xs_icmp_eq, xs_bipush_111, xs_icmp_ne, xs_istore_5_i, xs_istore_5_a, xs_istore_5_n, xs_istore_5_l, xs_bipush_48, xs_bipush_57, xs_ireturn, xs_iload_5, xs_bipush_45, xs_iconst_m1, xs_dup_i, xs_dup_a, xs_iadd, xs_iinc_2_1_i, xs_iinc_2_1_a, xs_iinc_2_1_n]) ))
    first | (first | exact ⟨Or.inl trivial, rfl⟩ | exact ⟨Or.inl trivial, rfl, rfl⟩ | (simp; done) | exact ⟨by simp, rfl⟩ | exact ⟨by simp, rfl, rfl⟩ | rfl) | (simp; done)
theorem tk_none (h2 : 2 ≤ m) (hl : tx.length = 120) (hN : N ≤ 120) (hs : s < N) (hfl : fr.length = 41) (hK : K < 40) (hfr : fr.getD K 0 = nI f0) (hm0 : ¬ mostN c = 0) (hx : (c = 114 ∨ c = 111) ∧ k + 1 = mostN c) (h45 : pB tx N s = 45) (A : xA h0 m (x_mc m nw asd pa sts rf tx (nI N) hd rd so ah ar tr bg fo bc br bk le fr nu (nI K) (nI s) wr ha) h) (hln : nu.length = 120) (hn : n = f0 + k) (hn2 : n < 120) {r : Option Value} {h' : xH} {a3 a4 a5 : Option Value}
    (H : ∀ h3, xA h0 m (x_mc m nw asd pa sts rf tx (nI N) hd rd so ah ar tr bg fo bc br bk le fr (nu.set n (-1)) (nI K) (nI (sk tx N (s + 1))) wr ha) h3 → ∀ a3 a4 a5 : Option Value, x_EV 158 14 [some (.ref m), some (.int c), some (.int (nI (n + 1))), a3, a4, a5] [] h3 r h') : x_EV 158 14 [some (.ref m), some (.int c), some (.int (nI n)), a3, a4, a5] [] h r h' := by
  have hb := A.hb
  have hm6 := mostN_le c
  have cF := c_isF hb hl hN (by omega)
  rw [if_neg (by rw [h45]; decide)] at cF
  have c45 := c_isC (a := 45) hb hl hN (by omega) (by decide)
  rw [if_pos h45] at c45
  subst hn
  refine tk_mid hl hN (by omega) hfl hK hfr hm0 (by omega) (by rw [h45]; decide) A (fun v w hv hw => ?_)
  rw [if_pos (by omega)] at hv
  rw [if_pos hx] at hw
  subst hv hw
  refine xe_X8_takesNumbers_84 ?_
  (repeat (first | (simp only [xb_X8_takesNumbers_0, xb_X8_takesNumbers_14, xb_X8_takesNumbers_49, xb_X8_takesNumbers_50, xb_X8_takesNumbers_69, xb_X8_takesNumbers_83, xb_X8_takesNumbers_84, xb_X8_takesNumbers_112, xb_X8_takesNumbers_148, xb_X8_takesNumbers_157, xb_X8_takesNumbers_167, xb_X8_takesNumbers_194, xs_nil, Nat.reduceAdd, true_implies, not_true_eq_false, not_false_eq_true, false_implies, and_true, true_and, x_10, xs_aload_n_0, xs_istore_n_2_i, xs_istore_n_2_a, xs_istore_n_2_n, xs_istore_n_2_l, xs_bipush_59, xs_if_ne, xs_iload_n_2, xs_isub, xs_istore_n_3_i, xs_istore_n_3_a, xs_istore_n_3_n, xs_istore_n_3_l, xs_iload_n_3, xs_iload_n_1, xs_icmp_ge, xs_iconst_1, xs_goto, xs_iconst_0, xs_istore_4_i, xs_istore_4_a, xs_istore_4_n, xs_istore_4_l, xs_iload_4, xs_if_eq, xs_bipush_114, xs_icmp_eq, xs_bipush_111, xs_icmp_ne, xs_istore_5_i, xs_istore_5_a, xs_istore_5_n, xs_istore_5_l, xs_bipush_48, xs_bipush_57, xs_ireturn, xs_iload_5, xs_bipush_45, xs_iconst_m1, xs_dup_i, xs_dup_a, xs_iadd, xs_iinc_2_1_i, xs_iinc_2_1_a, xs_iinc_2_1_n]) | refine xc_v3_1 (cF) (Nat.le_of_ble_eq_true rfl) ?_))
  refine xe_X8_takesNumbers_112 ?_
  (repeat (first | (simp only [xb_X8_takesNumbers_0, xb_X8_takesNumbers_14, xb_X8_takesNumbers_49, xb_X8_takesNumbers_50, xb_X8_takesNumbers_69, xb_X8_takesNumbers_83, xb_X8_takesNumbers_84, xb_X8_takesNumbers_112, xb_X8_takesNumbers_148, xb_X8_takesNumbers_157, xb_X8_takesNumbers_167, xb_X8_takesNumbers_194, xs_nil, Nat.reduceAdd, true_implies, not_true_eq_false, not_false_eq_true, false_implies, and_true, true_and, x_10, xs_aload_n_0, xs_istore_n_2_i, xs_istore_n_2_a, xs_istore_n_2_n, xs_istore_n_2_l, xs_bipush_59, xs_if_ne, xs_iload_n_2, xs_isub, xs_istore_n_3_i, xs_istore_n_3_a, xs_istore_n_3_n, xs_istore_n_3_l, xs_iload_n_3, xs_iload_n_1, xs_icmp_ge, xs_iconst_1, xs_goto, xs_iconst_0, xs_istore_4_i, xs_istore_4_a, xs_istore_4_n, xs_istore_4_l, xs_iload_4, xs_if_eq, xs_bipush_114, xs_icmp_eq, xs_bipush_111, xs_icmp_ne, xs_istore_5_i, xs_istore_5_a, xs_istore_5_n, xs_istore_5_l, xs_bipush_48, xs_bipush_57, xs_ireturn, xs_iload_5, xs_bipush_45, xs_iconst_m1, xs_dup_i, xs_dup_a, xs_iadd, xs_iinc_2_1_i, xs_iinc_2_1_a, xs_iinc_2_1_n]) | refine xc_v3_1 (c45) (Nat.le_of_ble_eq_true rfl) ?_ | (refine xr_getf (hb 0 _ rfl) (by rfl) ?_)))
  refine xa_iastore A 15 (by rfl) h2 (x_in (by rw [hln]; omega) (by rw [hln]; decide)) (fun h4 A4 => ?_)
  rw [xu_n (by omega)] at A4
  have A4 : xA h0 m (x_mc m nw asd pa sts rf tx (nI N) hd rd so ah ar tr bg fo bc br bk le fr (nu.set (f0 + k) (-1)) (nI K) (nI s) wr ha) h4 := A4
  have hb4 := A4.hb
  (repeat (first | (simp only [xb_X8_takesNumbers_0, xb_X8_takesNumbers_14, xb_X8_takesNumbers_49, xb_X8_takesNumbers_50, xb_X8_takesNumbers_69, xb_X8_takesNumbers_83, xb_X8_takesNumbers_84, xb_X8_takesNumbers_112, xb_X8_takesNumbers_148, xb_X8_takesNumbers_157, xb_X8_takesNumbers_167, xb_X8_takesNumbers_194, xs_nil, Nat.reduceAdd, true_implies, not_true_eq_false, not_false_eq_true, false_implies, and_true, true_and, x_10, xs_aload_n_0, xs_istore_n_2_i, xs_istore_n_2_a, xs_istore_n_2_n, xs_istore_n_2_l, xs_bipush_59, xs_if_ne, xs_iload_n_2, xs_isub, xs_istore_n_3_i, xs_istore_n_3_a, xs_istore_n_3_n, xs_istore_n_3_l, xs_iload_n_3, xs_iload_n_1, xs_icmp_ge, xs_iconst_1, xs_goto, xs_iconst_0, xs_istore_4_i, xs_istore_4_a, xs_istore_4_n, xs_istore_4_l, xs_iload_4, xs_if_eq, xs_bipush_114, xs_icmp_eq, xs_bipush_111, xs_icmp_ne, xs_istore_5_i, xs_istore_5_a, xs_istore_5_n, xs_istore_5_l, xs_bipush_48, xs_bipush_57, xs_ireturn, xs_iload_5, xs_bipush_45, xs_iconst_m1, xs_dup_i, xs_dup_a, xs_iadd, xs_iinc_2_1_i, xs_iinc_2_1_a, xs_iinc_2_1_n]) | (rw [xn_dup]) | (refine xr_getf (hb4 0 _ rfl) (by rfl) ?_)))
  rw [nI_1]
  refine xa_putf A4 0 (by rfl) h2 (by exact Nat.le_of_ble_eq_true rfl) (x_fit_int _) (fun h5 A5 => ?_)
  have A5 : xA h0 m (x_mc m nw asd pa sts rf tx (nI N) hd rd so ah ar tr bg fo bc br bk le fr (nu.set (f0 + k) (-1)) (nI K) (nI (s + 1)) wr ha) h5 := A5
  (repeat (first | (simp only [xb_X8_takesNumbers_0, xb_X8_takesNumbers_14, xb_X8_takesNumbers_49, xb_X8_takesNumbers_50, xb_X8_takesNumbers_69, xb_X8_takesNumbers_83, xb_X8_takesNumbers_84, xb_X8_takesNumbers_112, xb_X8_takesNumbers_148, xb_X8_takesNumbers_157, xb_X8_takesNumbers_167, xb_X8_takesNumbers_194, xs_nil, Nat.reduceAdd, true_implies, not_true_eq_false, not_false_eq_true, false_implies, and_true, true_and, x_10, xs_aload_n_0, xs_istore_n_2_i, xs_istore_n_2_a, xs_istore_n_2_n, xs_istore_n_2_l, xs_bipush_59, xs_if_ne, xs_iload_n_2, xs_isub, xs_istore_n_3_i, xs_istore_n_3_a, xs_istore_n_3_n, xs_istore_n_3_l, xs_iload_n_3, xs_iload_n_1, xs_icmp_ge, xs_iconst_1, xs_goto, xs_iconst_0, xs_istore_4_i, xs_istore_4_a, xs_istore_4_n, xs_istore_4_l, xs_iload_4, xs_if_eq, xs_bipush_114, xs_icmp_eq, xs_bipush_111, xs_icmp_ne, xs_istore_5_i, xs_istore_5_a, xs_istore_5_n, xs_istore_5_l, xs_bipush_48, xs_bipush_57, xs_ireturn, xs_iload_5, xs_bipush_45, xs_iconst_m1, xs_dup_i, xs_dup_a, xs_iadd, xs_iinc_2_1_i, xs_iinc_2_1_a, xs_iinc_2_1_n]) ))
  exact tk_157 h2 hl hN (by omega) A5 (fun h3 A3 => H h3 A3 _ _ _)
theorem tk_atEnd {p : Nat} {F : List Int32} {R : Bool × Nat × List Int32} (h2 : 2 ≤ m) (hl : tx.length = 120) (hN : N ≤ 120) (hfl : fr.length = 41) (hK : K < 40) (hfr : fr.getD K 0 = nI f0) (hm0 : ¬ mostN c = 0) (A : xA h0 m (x_mc m nw asd pa sts rf tx (nI N) hd rd so ah ar tr bg fo bc br bk le fr nu (nI K) (nI (sk tx N p)) wr ha) h) (hk : k ≤ mostN c) (hp : p ≤ N) (hag : agr nu F) (hF : F.length = f0 + k) (hc : (pB tx N (sk tx N p) = 59 ∧ lstN c ≤ k ∧ R = (true, sk tx N p + 1, F)) ∨ (pB tx N (sk tx N p) = 59 ∧ k < lstN c ∧ R = (false, sk tx N p, F)) ∨ (¬ pB tx N (sk tx N p) = 59 ∧ ¬ (k < mostN c ∧ figB (pB tx N (sk tx N p)) = true) ∧ ¬ (((c = 114 ∨ c = 111) ∧ k + 1 = mostN c) ∧ pB tx N (sk tx N p) = 45) ∧ R = (false, sk tx N p, F))) : ∃ (fr' nu' : List Int32) (od' wr' : Int32), (nu'.length = 120 ∧ (R.1 = true → agr nu' R.2.2 ∧ fr' = fr.set (K + 1) (nI R.2.2.length) ∧ od' = nI (K + 1)) ∧ (R.1 = false → fr' = fr ∧ wr' = nI R.2.1)) ∧ ∀ a3 a4 a5 : Option Value, x_EV 158 14 [some (.ref m), some (.int c), some (.int (nI F.length)), a3, a4, a5] [] h (some (.int (if R.1 = true then 1 else 0))) (x_wr h0 m (x_mc m nw asd pa sts rf tx (nI N) hd rd so ah ar tr bg fo bc br bk le (fr') (nu') (od') (nI R.2.1) (wr') ha)) := by
  have hm6 := mostN_le c
  have hl6 := lstN_le c
  have hs := sk_le (tx := tx) hp
  rcases hc with ⟨c1, c2, rfl⟩ | ⟨c1, c2, rfl⟩ | ⟨c1, c2, c3, rfl⟩
  · refine ⟨fr.set (K + 1) (nI F.length), nu, nI (K + 1), wr, ⟨hag.1, fun _ => ⟨hag, rfl, rfl⟩, fun z => by cases z⟩, fun a3 a4 a5 => ?_⟩
    rw [hF]
    exact tk_end h2 hl hN hs.2 hfl hK hfr hm0 (by omega) c1 A c2
  · refine ⟨fr, nu, nI K, nI (sk tx N p), ⟨hag.1, (fun z => by cases z), fun _ => ⟨rfl, rfl⟩⟩, fun a3 a4 a5 => ?_⟩
    rw [hF]
    exact tk_few h2 hl hN hs.2 hfl hK hfr hm0 c1 A c2 hl6
  · refine ⟨fr, nu, nI K, nI (sk tx N p), ⟨hag.1, (fun z => by cases z), fun _ => ⟨rfl, rfl⟩⟩, fun a3 a4 a5 => ?_⟩
    rw [hF]
    exact tk_no h2 hl hN hs.2 hfl hK hfr hm0 (by omega) c1 A c2 c3
theorem l_numbers (h2 : 2 ≤ m) (hl : tx.length = 120) (hN : N ≤ 120) (hfl : fr.length = 41) (hK : K < 40) (hfr : fr.getD K 0 = nI f0) (hm0 : ¬ mostN c = 0) : ∀ (d k p : Nat) (F nu : List Int32) (wr : Int32) (h : xH), xA h0 m (x_mc m nw asd pa sts rf tx (nI N) hd rd so ah ar tr bg fo bc br bk le fr nu (nI K) (nI (sk tx N p)) wr ha) h → k + d = mostN c → p ≤ N → F.length ≤ p → agr nu F → F.length = f0 + k → ∀ R, pord tx N c d k p F = R → ∃ (fr' nu' : List Int32) (od' wr' : Int32), (nu'.length = 120 ∧ (R.1 = true → agr nu' R.2.2 ∧ fr' = fr.set (K + 1) (nI R.2.2.length) ∧ od' = nI (K + 1)) ∧ (R.1 = false → fr' = fr ∧ wr' = nI R.2.1)) ∧ ∀ a3 a4 a5 : Option Value, x_EV 158 14 [some (.ref m), some (.int c), some (.int (nI F.length)), a3, a4, a5] [] h (some (.int (if R.1 = true then 1 else 0))) (x_wr h0 m (x_mc m nw asd pa sts rf tx (nI N) hd rd so ah ar tr bg fo bc br bk le (fr') (nu') (od') (nI R.2.1) (wr') ha)) := by
  intro d
  have hm6 := mostN_le c
  induction d with
  | zero =>
    intro k p F nu wr h A hk hp hF hag hF0 R hR
    refine tk_atEnd h2 hl hN hfl hK hfr hm0 A (by omega) hp hag hF0 ?_
    subst hR
    have e : pord tx N c 0 k p F = pend tx N p F := rfl
    rw [e]
    unfold pend
    by_cases hz : pB tx N (sk tx N p) = 59
    · rw [if_pos hz]
      refine Or.inl ⟨hz, ?_, rfl⟩
      unfold lstN
      split <;> omega
    · rw [if_neg hz]
      exact Or.inr (Or.inr ⟨hz, fun z => by omega, fun z => by omega, rfl⟩)
  | succ d ih =>
    intro k p F nu wr h A hk hp hF hag hF0 R hR
    have hs := sk_le (tx := tx) hp
    by_cases hz : pB tx N (sk tx N p) = 59
    · -- the end's sign
      have f59 : figB (pB tx N (sk tx N p)) = false := by rw [hz]; decide
      refine tk_atEnd h2 hl hN hfl hK hfr hm0 A (by omega) hp hag hF0 ?_
      subst hR
      unfold pord
      by_cases hw : c = 119 ∧ 0 < k
      · rw [if_pos ⟨hw, f59⟩]
        unfold pend
        rw [sk_sk hp, if_pos hz]
        exact Or.inl ⟨hz, by unfold lstN; rw [if_pos hw.1]; exact hw.2, rfl⟩
      · rw [if_neg (fun z => hw z.1)]
        have e : pnum tx N (sk tx N p) (decide ((c = 114 ∨ c = 111) ∧ d = 0)) = (false, sk tx N p, 0) := by
          unfold pnum
          rw [if_neg (fun z => by rw [hz] at z; exact absurd z.2 (by decide)), if_pos f59]
        rw [e]
        refine Or.inr (Or.inl ⟨hz, ?_, rfl⟩)
        unfold lstN
        by_cases hc : c = 119
        · rw [if_pos hc]
          have : ¬ 0 < k := fun z => hw ⟨hc, z⟩
          omega
        · rw [if_neg hc]
          omega
    · by_cases hf : figB (pB tx N (sk tx N p)) = true
      · -- figures
        have n45 : ¬ pB tx N (sk tx N p) = 45 := fun z => by rw [z] at hf; exact absurd hf (by decide)
        have eb : ∀ nb, pnum tx N (sk tx N p) nb = pnum tx N (sk tx N p) false := by
          intro nb
          have i1 : ∀ nb : Bool, ¬ (nb = true ∧ pB tx N (sk tx N p) = 45) := fun nb z => n45 z.2
          unfold pnum
          rw [if_neg (i1 nb), if_neg (i1 false)]
        unfold pord at hR
        rw [if_neg (fun z => by rw [hf] at z; cases z.2), eb] at hR
        obtain ⟨n1, n2, n3⟩ := pnum_pos (tx := tx) (p := sk tx N p) hs.2 (nb := false)
        have hlt := fig_lt (tx := tx) hf
        generalize hQ : pnum tx N (sk tx N p) false = Q at n1 n2 n3 hR
        obtain ⟨nu', wr', ⟨ln', hok, hno⟩, lead⟩ := tk_fig h2 hl hN hs.2 hfl hK hfr hm0 (by omega) hz hf A hag.1 hF0 (by omega) hQ
        by_cases hr : Q.1 = true
        · obtain ⟨m1, m2⟩ := n3 hr
          have hl2 : (F ++ [Q.2.2]).length = F.length + 1 := by rw [List.length_append]; rfl
          have hag2 : agr nu' (F ++ [Q.2.2]) := by rw [hok hr]; exact agr_push hag (by omega)
          rw [if_pos hr] at hR
          obtain ⟨h3, A3⟩ := mc_ex (sp' := nI (sk tx N Q.2.1)) (nu' := nu') (wr' := wr') A
          obtain ⟨fr', nu2, od', wr2, w1, w2⟩ := ih (k + 1) Q.2.1 (F ++ [Q.2.2]) nu' wr' h3 A3 (by omega) n1 (by omega) hag2 (by omega) R hR
          rw [hl2] at w2
          refine ⟨fr', nu2, od', wr2, w1, fun a3 a4 a5 => lead _ _ a3 a4 a5 (fun _ h4 A4 => ?_) (fun z => by rw [hr] at z; cases z)⟩
          have e3 := A3.e
          have e4 := A4.e
          rw [e3] at e4
          rw [← e4]
          exact w2
        · have hr' : Q.1 = false := by rw [Bool.not_eq_true] at hr; exact hr
          rw [if_neg hr] at hR
          subst hR
          refine ⟨fr, nu', nI K, wr', ⟨ln', (fun z => by cases z), fun _ => ⟨rfl, hno hr'⟩⟩, ?_⟩
          exact fun a3 a4 a5 => lead _ _ a3 a4 a5 (fun z => absurd z hr) (fun _ => ⟨rfl, rfl⟩)
      · have hf' : figB (pB tx N (sk tx N p)) = false := by rw [Bool.not_eq_true] at hf; exact hf
        by_cases hx : ((c = 114 ∨ c = 111) ∧ k + 1 = mostN c) ∧ pB tx N (sk tx N p) = 45
        · -- none
          have hlt : sk tx N p < N := pB_lt (tx := tx) (by rw [hx.2]; decide)
          have hd0 : d = 0 := by omega
          have e : pnum tx N (sk tx N p) (decide ((c = 114 ∨ c = 111) ∧ d = 0)) = (true, sk tx N p + 1, -1) := by
            unfold pnum
            rw [if_pos ⟨decide_eq_true ⟨hx.1.1, hd0⟩, hx.2⟩]
          unfold pord at hR
          rw [if_neg (fun z => by rcases hx.1.1 with e | e <;> (rw [e] at z; exact absurd z.1.1 (by decide))), e, if_pos rfl] at hR
          have hl2 : (F ++ [(-1 : Int32)]).length = F.length + 1 := by rw [List.length_append]; rfl
          obtain ⟨h3, A3⟩ := mc_ex (sp' := nI (sk tx N (sk tx N p + 1))) (nu' := nu.set F.length (-1)) (wr' := wr) A
          obtain ⟨fr', nu2, od', wr2, w1, w2⟩ := ih (k + 1) (sk tx N p + 1) (F ++ [-1]) (nu.set F.length (-1)) wr h3 A3 (by omega) (by omega) (by omega) (agr_push hag (by omega)) (by omega) R hR
          rw [hl2] at w2
          refine ⟨fr', nu2, od', wr2, w1, fun a3 a4 a5 => ?_⟩
          refine tk_none h2 hl hN hlt hfl hK hfr hm0 hx.1 hx.2 A hag.1 hF0 (by omega) (fun h4 A4 => ?_)
          have e3 := A3.e
          have e4 := A4.e
          rw [e3] at e4
          rw [← e4]
          exact w2
        · refine tk_atEnd h2 hl hN hfl hK hfr hm0 A (by omega) hp hag hF0 (Or.inr (Or.inr ⟨hz, fun z => hf z.2, hx, ?_⟩))
          subst hR
          unfold pord
          by_cases hw : c = 119 ∧ 0 < k
          · rw [if_pos ⟨hw, hf'⟩]
            unfold pend
            rw [sk_sk hp, if_neg hz]
          · rw [if_neg (fun z => hw z.1)]
            have e : pnum tx N (sk tx N p) (decide ((c = 114 ∨ c = 111) ∧ d = 0)) = (false, sk tx N p, 0) := by
              unfold pnum
              rw [if_neg (fun z => hx ⟨⟨(of_decide_eq_true z.1).1, by have := (of_decide_eq_true z.1).2; omega⟩, z.2⟩), if_pos hf']
            rw [e]
            rfl
end MR4
