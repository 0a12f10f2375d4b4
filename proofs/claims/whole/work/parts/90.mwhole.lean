/-! the reference reads all -/
/-- what the reference has of the orders -/
def repM (le fr : List Int32) (O : oT) : Prop := le.length = 40 ∧ fr.length = 41 ∧ O.2.1.length = O.1.length + 1 ∧ O.2.1.getD O.1.length 0 = O.2.2.length ∧ (∀ k, k < O.1.length → le.getD k 0 = O.1.getD k 0) ∧ ∀ k, k ≤ O.1.length → fr.getD k 0 = nI (O.2.1.getD k 0)
theorem repM_push {le fr : List Int32} {O : oT} {c : Int32} {F' : List Int32} (h : repM le fr O) (ho : O.1.length < 40) : repM (le.set O.1.length c) (fr.set (O.1.length + 1) (nI F'.length)) (O.1 ++ [c], O.2.1 ++ [F'.length], F') := by
  obtain ⟨a1, a2, a3, a4, a5, a6⟩ := h
  have l1 : (O.1 ++ [c]).length = O.1.length + 1 := by rw [List.length_append]; rfl
  refine ⟨by rw [List.length_set]; exact a1, by rw [List.length_set]; exact a2, ?_, ?_, fun k hk => ?_, fun k hk => ?_⟩
  · show (O.2.1 ++ [F'.length]).length = (O.1 ++ [c]).length + 1
    rw [List.length_append, l1, a3]
    rfl
  · show (O.2.1 ++ [F'.length]).getD (O.1 ++ [c]).length 0 = F'.length
    rw [l1, ap_get, if_pos a3.symm]
  · have hk : k < O.1.length + 1 := by rw [← l1]; exact hk
    show (le.set O.1.length c).getD k 0 = (O.1 ++ [c]).getD k 0
    rw [sg (by omega), ap_get]
    by_cases e : k = O.1.length
    · rw [if_pos e, if_pos e]
    · rw [if_neg e, if_neg e]
      exact a5 k (by omega)
  · have hk : k ≤ O.1.length + 1 := by rw [← l1]; exact hk
    show (fr.set (O.1.length + 1) (nI F'.length)).getD k 0 = nI ((O.2.1 ++ [F'.length]).getD k 0)
    rw [sg (by omega), ap_get, a3]
    by_cases e : k = O.1.length + 1
    · rw [if_pos e, if_pos e]
    · rw [if_neg e, if_neg e]
      exact a6 k (by omega)
section MR5
variable {m : Nat} {nw asd pa rf tx hd rd so ah ar tr bg : List Int32} {sts fo bc br bk : Int32} {ha : Int64} {h0 : xH} {N : Nat}
theorem c_takesNumbers {le fr nu F : List Int32} {wr c : Int32} {h : xH} {p K : Nat} (hb : x_hb h m (x_mc m nw asd pa sts rf tx (nI N) hd rd so ah ar tr bg fo bc br bk le fr nu (nI K) (nI p) wr ha)) (h2 : 2 ≤ m) (hl : tx.length = 120) (hN : N ≤ 120) (hfl : fr.length = 41) (hK : K < 40) (hfr : fr.getD K 0 = nI F.length) (hm0 : ¬ mostN c = 0) (hp : p ≤ N) (hF : F.length ≤ p) (hag : agr nu F) {R : Bool × Nat × List Int32} (hR : pord tx N c (mostN c) 0 p F = R) :
    ∃ (fr' nu' : List Int32) (od' wr' : Int32), (nu'.length = 120 ∧ (R.1 = true → agr nu' R.2.2 ∧ fr' = fr.set (K + 1) (nI R.2.2.length) ∧ od' = nI (K + 1)) ∧ (R.1 = false → fr' = fr ∧ wr' = nI R.2.1)) ∧ xK 158 [.ref m, .int c] h (some (.int (if R.1 = true then 1 else 0))) (x_wr h m (x_mc m nw asd pa sts rf tx (nI N) hd rd so ah ar tr bg fo bc br bk le (fr') (nu') (od') (nI R.2.1) (wr') ha)) := by
  have A := xA.of hb (Nat.zero_lt_succ _)
  obtain ⟨h1, cS, A1⟩ : ∃ h1, xK 153 [.ref m] h none h1 ∧ xA h m (x_mc m nw asd pa sts rf tx (nI N) hd rd so ah ar tr bg fo bc br bk le fr nu (nI K) (nI (sk tx N p)) wr ha) h1 := ⟨_, c_blanks hb h2 hl hN hp, A.on rfl⟩
  obtain ⟨fr', nu', od', wr', w1, w2⟩ := l_numbers h2 hl hN hfl hK hfr hm0 (mostN c) 0 p F nu wr h1 A1 (by omega) hp hF hag rfl R hR
  refine ⟨fr', nu', od', wr', w1, ?_⟩
  refine xK_X8_takesNumbers (hb 0 _ rfl) (xe_X8_takesNumbers_0 ?_)
  (repeat (first | (simp only [xb_X8_takesNumbers_0, xb_X8_takesNumbers_14, xb_X8_takesNumbers_49, xb_X8_takesNumbers_50, xb_X8_takesNumbers_69, xb_X8_takesNumbers_83, xb_X8_takesNumbers_84, xb_X8_takesNumbers_112, xb_X8_takesNumbers_148, xb_X8_takesNumbers_157, xb_X8_takesNumbers_167, xb_X8_takesNumbers_194, xs_nil, Nat.reduceAdd, true_implies, not_true_eq_false, not_false_eq_true, false_implies, and_true, true_and, x_10, xs_aload_n_0, xs_istore_n_2_i, xs_istore_n_2_a, xs_istore_n_2_n, xs_istore_n_2_l, xs_bipush_59, xs_if_ne, xs_iload_n_2, xs_isub, xs_istore_n_3_i, xs_istore_n_3_a, xs_istore_n_3_n, xs_istore_n_3_l, xs_iload_n_3, xs_iload_n_1, xs_icmp_ge, xs_iconst_1, xs_goto, xs_iconst_0, xs_istore_4_i, xs_istore_4_a, xs_istore_4_n, xs_istore_4_l, xs_iload_4, xs_if_eq, xs_bipush_114, xs_icmp_eq, xs_bipush_111, xs_icmp_ne, xs_istore_5_i, xs_istore_5_a, xs_istore_5_n, xs_istore_5_l, xs_bipush_48, xs_bipush_57, xs_ireturn, xs_iload_5, xs_bipush_45, xs_iconst_m1, xs_dup_i, xs_dup_a, xs_iadd, xs_iinc_2_1_i, xs_iinc_2_1_a, xs_iinc_2_1_n]) | (refine xr_getf (hb 0 _ rfl) (by rfl) ?_) | (refine xr_iaload (hb 14 _ rfl) (x_in (by rw [hfl]; omega) (by rw [hfl]; decide)) ?_) | refine xc_v1_0 (cS) (Nat.le_of_ble_eq_true rfl) ?_))
  rw [xg_n (by omega), hfr]
  exact w2 _ _ _
theorem mc_ex2 {le fr nu : List Int32} {od sp wr : Int32} {h : xH} {sp' od' wr' : Int32} {le' fr' nu' : List Int32} (A : xA h0 m (x_mc m nw asd pa sts rf tx (nI N) hd rd so ah ar tr bg fo bc br bk le fr nu od sp wr ha) h) : ∃ h3, xA h0 m (x_mc m nw asd pa sts rf tx (nI N) hd rd so ah ar tr bg fo bc br bk (le') (fr') (nu') (od') (sp') (wr') ha) h3 := ⟨_, A.on rfl⟩
theorem ir_58 {le fr nu : List Int32} {wr c : Int32} {h : xH} {p K : Nat} {r : Option Value} {h' : xH} {a1 : Option Value} (h2 : 2 ≤ m) (hl : tx.length = 120) (hN : N ≤ 120) (hp : p < N) (hle : le.length = 40) (hK : K < 40) (ep : tx.getD p 0 = c) (hm : ¬ mostN c = 0) (A : xA h0 m (x_mc m nw asd pa sts rf tx (nI N) hd rd so ah ar tr bg fo bc br bk le fr nu (nI K) (nI p) wr ha) h) {b : Int32} {h3 : xH}
    (cT : ∀ h1, xA h0 m (x_mc m nw asd pa sts rf tx (nI N) hd rd so ah ar tr bg fo bc br bk (le.set K c) fr nu (nI K) (nI (p + 1)) wr ha) h1 → xK 158 [.ref m, .int c] h1 (some (.int b)) h3) (H1 : b = 1 → x_EV 159 88 [some (.ref m), some (.int c)] [] h3 r h') (H0 : b = 0 → r = some (.int 0) ∧ h' = h3) (hb01 : b = 1 ∨ b = 0) : x_EV 159 21 [some (.ref m), a1] [] h r h' := by
  have hb := A.hb
  have cL := c_least2 (h := h) hm
  have hl6 := lstN_le c
  refine xe_X8_isRead_21 ?_
  (repeat (first | (simp only [xb_X8_isRead_0, xb_X8_isRead_21, xb_X8_isRead_58, xb_X8_isRead_88, xb_X8_isRead_95, xb_X8_isRead_113, xb_X8_isRead_117, xb_X8_isRead_118, xs_nil, Nat.reduceAdd, true_implies, not_true_eq_false, not_false_eq_true, false_implies, and_true, true_and, x_10, xs_aload_n_0, xs_iconst_0, xs_icmp_ge, xs_istore_n_1_i, xs_istore_n_1_a, xs_istore_n_1_n, xs_istore_n_1_l, xs_iload_n_1, xs_if_ge, xs_ireturn, xs_dup_i, xs_dup_a, xs_iconst_1, xs_iadd, xs_if_ne, xs_goto, xs_if_gt, xs_if_eq]) | (refine xr_getf (hb 0 _ rfl) (by rfl) ?_)))
  refine ⟨fun z => absurd z (nI_ge hp (by omega)), fun _ => ?_⟩
  (repeat (first | (simp only [xb_X8_isRead_0, xb_X8_isRead_21, xb_X8_isRead_58, xb_X8_isRead_88, xb_X8_isRead_95, xb_X8_isRead_113, xb_X8_isRead_117, xb_X8_isRead_118, xs_nil, Nat.reduceAdd, true_implies, not_true_eq_false, not_false_eq_true, false_implies, and_true, true_and, x_10, xs_aload_n_0, xs_iconst_0, xs_icmp_ge, xs_istore_n_1_i, xs_istore_n_1_a, xs_istore_n_1_n, xs_istore_n_1_l, xs_iload_n_1, xs_if_ge, xs_ireturn, xs_dup_i, xs_dup_a, xs_iconst_1, xs_iadd, xs_if_ne, xs_goto, xs_if_gt, xs_if_eq]) | (refine xr_getf (hb 0 _ rfl) (by rfl) ?_) | (refine xr_iaload (hb 5 _ rfl) (x_in (by rw [hl]; omega) (by rw [hl]; decide)) ?_)))
  rw [xg_n (by omega), ep]
  (repeat (first | (simp only [xb_X8_isRead_0, xb_X8_isRead_21, xb_X8_isRead_58, xb_X8_isRead_88, xb_X8_isRead_95, xb_X8_isRead_113, xb_X8_isRead_117, xb_X8_isRead_118, xs_nil, Nat.reduceAdd, true_implies, not_true_eq_false, not_false_eq_true, false_implies, and_true, true_and, x_10, xs_aload_n_0, xs_iconst_0, xs_icmp_ge, xs_istore_n_1_i, xs_istore_n_1_a, xs_istore_n_1_n, xs_istore_n_1_l, xs_iload_n_1, xs_if_ge, xs_ireturn, xs_dup_i, xs_dup_a, xs_iconst_1, xs_iadd, xs_if_ne, xs_goto, xs_if_gt, xs_if_eq]) | refine xc_s1_1 (by decide) (cL) (Nat.le_of_ble_eq_true rfl) ?_))
  refine ⟨fun _ => ?_, fun z => absurd (Int32.not_lt.mp (nI_pos (by omega))) z⟩
  refine xe_X8_isRead_58 ?_
  (repeat (first | (simp only [xb_X8_isRead_0, xb_X8_isRead_21, xb_X8_isRead_58, xb_X8_isRead_88, xb_X8_isRead_95, xb_X8_isRead_113, xb_X8_isRead_117, xb_X8_isRead_118, xs_nil, Nat.reduceAdd, true_implies, not_true_eq_false, not_false_eq_true, false_implies, and_true, true_and, x_10, xs_aload_n_0, xs_iconst_0, xs_icmp_ge, xs_istore_n_1_i, xs_istore_n_1_a, xs_istore_n_1_n, xs_istore_n_1_l, xs_iload_n_1, xs_if_ge, xs_ireturn, xs_dup_i, xs_dup_a, xs_iconst_1, xs_iadd, xs_if_ne, xs_goto, xs_if_gt, xs_if_eq]) | (refine xr_getf (hb 0 _ rfl) (by rfl) ?_)))
  refine xa_iastore A 13 (by rfl) h2 (x_in (by rw [hle]; omega) (by rw [hle]; decide)) (fun h4 A4 => ?_)
  rw [xu_n (by omega)] at A4
  have A4 : xA h0 m (x_mc m nw asd pa sts rf tx (nI N) hd rd so ah ar tr bg fo bc br bk (le.set K c) fr nu (nI K) (nI p) wr ha) h4 := A4
  have hb4 := A4.hb
  (repeat (first | (simp only [xb_X8_isRead_0, xb_X8_isRead_21, xb_X8_isRead_58, xb_X8_isRead_88, xb_X8_isRead_95, xb_X8_isRead_113, xb_X8_isRead_117, xb_X8_isRead_118, xs_nil, Nat.reduceAdd, true_implies, not_true_eq_false, not_false_eq_true, false_implies, and_true, true_and, x_10, xs_aload_n_0, xs_iconst_0, xs_icmp_ge, xs_istore_n_1_i, xs_istore_n_1_a, xs_istore_n_1_n, xs_istore_n_1_l, xs_iload_n_1, xs_if_ge, xs_ireturn, xs_dup_i, xs_dup_a, xs_iconst_1, xs_iadd, xs_if_ne, xs_goto, xs_if_gt, xs_if_eq]) | (rw [xn_dup]) | (refine xr_getf (hb4 0 _ rfl) (by rfl) ?_)))
  rw [nI_1]
  refine xa_putf A4 0 (by rfl) h2 (by exact Nat.le_of_ble_eq_true rfl) (x_fit_int _) (fun h5 A5 => ?_)
  have cT := cT h5 A5
  (repeat (first | (simp only [xb_X8_isRead_0, xb_X8_isRead_21, xb_X8_isRead_58, xb_X8_isRead_88, xb_X8_isRead_95, xb_X8_isRead_113, xb_X8_isRead_117, xb_X8_isRead_118, xs_nil, Nat.reduceAdd, true_implies, not_true_eq_false, not_false_eq_true, false_implies, and_true, true_and, x_10, xs_aload_n_0, xs_iconst_0, xs_icmp_ge, xs_istore_n_1_i, xs_istore_n_1_a, xs_istore_n_1_n, xs_istore_n_1_l, xs_iload_n_1, xs_if_ge, xs_ireturn, xs_dup_i, xs_dup_a, xs_iconst_1, xs_iadd, xs_if_ne, xs_goto, xs_if_gt, xs_if_eq]) | refine xc_v2_1 (cT) (Nat.le_of_ble_eq_true rfl) ?_))
  rcases hb01 with rfl | rfl
  · (repeat (first | (simp only [xb_X8_isRead_0, xb_X8_isRead_21, xb_X8_isRead_58, xb_X8_isRead_88, xb_X8_isRead_95, xb_X8_isRead_113, xb_X8_isRead_117, xb_X8_isRead_118, xs_nil, Nat.reduceAdd, true_implies, not_true_eq_false, not_false_eq_true, false_implies, and_true, true_and, x_10, xs_aload_n_0, xs_iconst_0, xs_icmp_ge, xs_istore_n_1_i, xs_istore_n_1_a, xs_istore_n_1_n, xs_istore_n_1_l, xs_iload_n_1, xs_if_ge, xs_ireturn, xs_dup_i, xs_dup_a, xs_iconst_1, xs_iadd, xs_if_ne, xs_goto, xs_if_gt, xs_if_eq]) ))
    exact H1 rfl
  · obtain ⟨q1, q2⟩ := H0 rfl
    subst q1 q2
    (repeat (first | (simp only [xb_X8_isRead_0, xb_X8_isRead_21, xb_X8_isRead_58, xb_X8_isRead_88, xb_X8_isRead_95, xb_X8_isRead_113, xb_X8_isRead_117, xb_X8_isRead_118, xs_nil, Nat.reduceAdd, true_implies, not_true_eq_false, not_false_eq_true, false_implies, and_true, true_and, x_10, xs_aload_n_0, xs_iconst_0, xs_icmp_ge, xs_istore_n_1_i, xs_istore_n_1_a, xs_istore_n_1_n, xs_istore_n_1_l, xs_iload_n_1, xs_if_ge, xs_ireturn, xs_dup_i, xs_dup_a, xs_iconst_1, xs_iadd, xs_if_ne, xs_goto, xs_if_gt, xs_if_eq]) ))
    first | (first | exact ⟨Or.inl trivial, rfl⟩ | exact ⟨Or.inl trivial, rfl, rfl⟩ | (simp; done) | exact ⟨by simp, rfl⟩ | exact ⟨by simp, rfl, rfl⟩ | rfl) | (simp; done)
theorem l_isRead (h2 : 2 ≤ m) (hl : tx.length = 120) (hN : N ≤ 120) : ∀ (fu p : Nat) (O : oT) (le fr nu : List Int32) (wr : Int32) (h : xH), xA h0 m (x_mc m nw asd pa sts rf tx (nI N) hd rd so ah ar tr bg fo bc br bk le fr nu (nI O.1.length) (nI p) wr ha) h → p ≤ N → N < p + fu → O.2.2.length ≤ p → 3 * O.1.length ≤ p → agr nu O.2.2 → repM le fr O → ∀ R, pall tx N fu p O = R →
    ∃ (le' fr' nu' : List Int32) (sp' od' wr' : Int32), (le'.length = 40 ∧ fr'.length = 41 ∧ nu'.length = 120 ∧ (R.1 = true → od' = nI R.2.2.1.length ∧ repM le' fr' R.2.2 ∧ agr nu' R.2.2.2.2) ∧ (R.1 = false → wr' = nI R.2.1)) ∧ ∀ a1 : Option Value, x_EV 159 21 [some (.ref m), a1] [] h (some (.int (if R.1 = true then 1 else 0))) (x_wr h0 m (x_mc m nw asd pa sts rf tx (nI N) hd rd so ah ar tr bg fo bc br bk (le') (fr') (nu') (od') (sp') (wr') ha)) := by
  intro fu
  induction fu with
  | zero =>
    intro p O le fr nu wr h A hp hfu
    omega
  | succ fu ih =>
    intro p O le fr nu wr h A hp hfu hF h3 hag hrep R hR
    have hb := A.hb
    unfold pall at hR
    by_cases hpN : p < N
    · rw [if_pos hpN] at hR
      have ep : tx.getD p 0 = pB tx N p := by unfold pB; rw [if_pos hpN]
      generalize pB tx N p = c at ep hR
      have cL := c_leastOf (x := c) (h := h)
      by_cases hm : mostN c = 0
      · rw [if_pos hm] at hR cL
        subst hR
        obtain ⟨h1, cf, A1⟩ : ∃ h1, xK 155 [.ref m, .int (nI p)] h (some (.int 0)) h1 ∧ xA h0 m (x_mc m nw asd pa sts rf tx (nI N) hd rd so ah ar tr bg fo bc br bk le fr nu (nI O.1.length) (nI p) (nI p) ha) h1 := ⟨_, c_fails hb h2, A.on rfl⟩
        refine ⟨le, fr, nu, nI p, nI O.1.length, nI p, ⟨hrep.1, hrep.2.1, hag.1, (fun z => by cases z), fun _ => rfl⟩, fun a1 => ?_⟩
        refine xe_X8_isRead_21 ?_
        (repeat (first | (simp only [xb_X8_isRead_0, xb_X8_isRead_21, xb_X8_isRead_58, xb_X8_isRead_88, xb_X8_isRead_95, xb_X8_isRead_113, xb_X8_isRead_117, xb_X8_isRead_118, xs_nil, Nat.reduceAdd, true_implies, not_true_eq_false, not_false_eq_true, false_implies, and_true, true_and, x_10, xs_aload_n_0, xs_iconst_0, xs_icmp_ge, xs_istore_n_1_i, xs_istore_n_1_a, xs_istore_n_1_n, xs_istore_n_1_l, xs_iload_n_1, xs_if_ge, xs_ireturn, xs_dup_i, xs_dup_a, xs_iconst_1, xs_iadd, xs_if_ne, xs_goto, xs_if_gt, xs_if_eq]) | (refine xr_getf (hb 0 _ rfl) (by rfl) ?_)))
        refine ⟨fun z => absurd z (nI_ge hpN (by omega)), fun _ => ?_⟩
        (repeat (first | (simp only [xb_X8_isRead_0, xb_X8_isRead_21, xb_X8_isRead_58, xb_X8_isRead_88, xb_X8_isRead_95, xb_X8_isRead_113, xb_X8_isRead_117, xb_X8_isRead_118, xs_nil, Nat.reduceAdd, true_implies, not_true_eq_false, not_false_eq_true, false_implies, and_true, true_and, x_10, xs_aload_n_0, xs_iconst_0, xs_icmp_ge, xs_istore_n_1_i, xs_istore_n_1_a, xs_istore_n_1_n, xs_istore_n_1_l, xs_iload_n_1, xs_if_ge, xs_ireturn, xs_dup_i, xs_dup_a, xs_iconst_1, xs_iadd, xs_if_ne, xs_goto, xs_if_gt, xs_if_eq]) | (refine xr_getf (hb 0 _ rfl) (by rfl) ?_) | (refine xr_iaload (hb 5 _ rfl) (x_in (by rw [hl]; omega) (by rw [hl]; decide)) ?_)))
        rw [xg_n (by omega), ep]
        (repeat (first | (simp only [xb_X8_isRead_0, xb_X8_isRead_21, xb_X8_isRead_58, xb_X8_isRead_88, xb_X8_isRead_95, xb_X8_isRead_113, xb_X8_isRead_117, xb_X8_isRead_118, xs_nil, Nat.reduceAdd, true_implies, not_true_eq_false, not_false_eq_true, false_implies, and_true, true_and, x_10, xs_aload_n_0, xs_iconst_0, xs_icmp_ge, xs_istore_n_1_i, xs_istore_n_1_a, xs_istore_n_1_n, xs_istore_n_1_l, xs_iload_n_1, xs_if_ge, xs_ireturn, xs_dup_i, xs_dup_a, xs_iconst_1, xs_iadd, xs_if_ne, xs_goto, xs_if_gt, xs_if_eq]) | refine xc_s1_1 (by decide) (cL) (Nat.le_of_ble_eq_true rfl) ?_))
        refine ⟨fun z => absurd z (by decide), fun _ => ?_⟩
        (repeat (first | (simp only [xb_X8_isRead_0, xb_X8_isRead_21, xb_X8_isRead_58, xb_X8_isRead_88, xb_X8_isRead_95, xb_X8_isRead_113, xb_X8_isRead_117, xb_X8_isRead_118, xs_nil, Nat.reduceAdd, true_implies, not_true_eq_false, not_false_eq_true, false_implies, and_true, true_and, x_10, xs_aload_n_0, xs_iconst_0, xs_icmp_ge, xs_istore_n_1_i, xs_istore_n_1_a, xs_istore_n_1_n, xs_istore_n_1_l, xs_iload_n_1, xs_if_ge, xs_ireturn, xs_dup_i, xs_dup_a, xs_iconst_1, xs_iadd, xs_if_ne, xs_goto, xs_if_gt, xs_if_eq]) | (refine xr_getf (hb 0 _ rfl) (by rfl) ?_) | refine xc_v2_1 (cf) (Nat.le_of_ble_eq_true rfl) ?_))
        have e := A1.e
        rw [e]
        first | (first | exact ⟨Or.inl trivial, rfl⟩ | exact ⟨Or.inl trivial, rfl, rfl⟩ | (simp; done) | exact ⟨by simp, rfl⟩ | exact ⟨by simp, rfl, rfl⟩ | rfl) | (simp; done)
      · rw [if_neg hm] at hR
        obtain ⟨r1, r2⟩ := pord_pos (tx := tx) (c := c) (mostN c) 0 (p + 1) O.2.2 (N := N) (by omega) (by omega)
        have hm0 : 0 < mostN c := Nat.pos_of_ne_zero hm
        generalize hQ : pord tx N c (mostN c) 0 (p + 1) O.2.2 = Q at hR r1 r2
        obtain ⟨a1, a2, a3, a4, a5, a6⟩ := hrep
        have hfr : fr.getD O.1.length 0 = nI O.2.2.length := by rw [a6 _ (Nat.le_refl _), a4]
        obtain ⟨h1, A1⟩ := mc_ex2 (sp' := nI (p + 1)) (od' := nI O.1.length) (wr' := wr) (le' := le.set O.1.length c) (fr' := fr) (nu' := nu) A
        obtain ⟨fr', nu', od', wr', ⟨w1, w2, w3⟩, cT⟩ := c_takesNumbers A1.hb h2 hl hN a2 (by omega) hfr hm (by omega) (by omega) hag hQ
        have cT2 : ∀ h4, xA h0 m (x_mc m nw asd pa sts rf tx (nI N) hd rd so ah ar tr bg fo bc br bk (le.set O.1.length c) fr nu (nI O.1.length) (nI (p + 1)) wr ha) h4 → h4 = h1 := by
          intro h4 A4
          have e1 := A1.e
          have e4 := A4.e
          rw [e1] at e4
          exact e4.symm
        obtain ⟨h3', cT, A3⟩ : ∃ h3', xK 158 [.ref m, .int c] h1 (some (.int (if Q.1 = true then 1 else 0))) h3' ∧ xA h0 m (x_mc m nw asd pa sts rf tx (nI N) hd rd so ah ar tr bg fo bc br bk (le.set O.1.length c) (fr') (nu') (od') (nI Q.2.1) (wr') ha) h3' := ⟨_, cT, A1.on rfl⟩
        by_cases hr : Q.1 = true
        · rw [if_pos hr] at hR cT
          obtain ⟨e1, e2, e3⟩ := w2 hr
          obtain ⟨b1, b2, b3, b4, b5, b6, b7⟩ := r2 hr
          have b2' := b2 hm0 rfl
          have hs := sk_le (tx := tx) (p := Q.2.1) r1
          have hrep2 := repM_push (c := c) (F' := Q.2.2) ⟨a1, a2, a3, a4, a5, a6⟩ (by omega)
          rw [← e2] at hrep2
          have l1 : (O.1 ++ [c]).length = O.1.length + 1 := by rw [List.length_append]; rfl
          obtain ⟨h4, cS, A4⟩ : ∃ h4, xK 153 [.ref m] h3' none h4 ∧ xA h0 m (x_mc m nw asd pa sts rf tx (nI N) hd rd so ah ar tr bg fo bc br bk (le.set O.1.length c) (fr') (nu') (nI (O.1 ++ [c]).length) (nI (sk tx N Q.2.1)) (wr') ha) h4 := by
            rw [e3] at A3
            rw [l1]
            exact ⟨_, c_blanks A3.hb h2 hl hN r1, A3.on rfl⟩
          obtain ⟨le2, fr2, nu2, sp2, od2, wr2, v1, v2⟩ := ih (sk tx N Q.2.1) (O.1 ++ [c], O.2.1 ++ [Q.2.2.length], Q.2.2) (le.set O.1.length c) fr' nu' wr' h4 A4 hs.2 (by omega) (by show Q.2.2.length ≤ _; omega) (by show 3 * (O.1 ++ [c]).length ≤ _; rw [l1]; omega) e1 hrep2 R hR
          refine ⟨le2, fr2, nu2, sp2, od2, wr2, v1, fun b1 => ?_⟩
          refine ir_58 h2 hl hN hpN a1 (by omega) ep hm A (fun h5 A5 => by rw [cT2 h5 A5]; exact cT) (fun _ => ?_) (fun z => absurd z (by decide)) (Or.inl rfl)
          refine xe_X8_isRead_88 ?_
          (repeat (first | (simp only [xb_X8_isRead_0, xb_X8_isRead_21, xb_X8_isRead_58, xb_X8_isRead_88, xb_X8_isRead_95, xb_X8_isRead_113, xb_X8_isRead_117, xb_X8_isRead_118, xs_nil, Nat.reduceAdd, true_implies, not_true_eq_false, not_false_eq_true, false_implies, and_true, true_and, x_10, xs_aload_n_0, xs_iconst_0, xs_icmp_ge, xs_istore_n_1_i, xs_istore_n_1_a, xs_istore_n_1_n, xs_istore_n_1_l, xs_iload_n_1, xs_if_ge, xs_ireturn, xs_dup_i, xs_dup_a, xs_iconst_1, xs_iadd, xs_if_ne, xs_goto, xs_if_gt, xs_if_eq]) | refine xc_v1_0 (cS) (Nat.le_of_ble_eq_true rfl) ?_))
          exact v2 _
        · have hr' : Q.1 = false := by rw [Bool.not_eq_true] at hr; exact hr
          rw [if_neg hr] at hR cT
          subst hR
          obtain ⟨e1, e2⟩ := w3 hr'
          refine ⟨le.set O.1.length c, fr', nu', nI Q.2.1, od', wr', ⟨by rw [List.length_set]; exact a1, by rw [e1]; exact a2, w1, (fun z => by cases z), fun _ => e2⟩, fun b1 => ?_⟩
          refine ir_58 h2 hl hN hpN a1 (by omega) ep hm A (fun h5 A5 => by rw [cT2 h5 A5]; exact cT) (fun z => absurd z (by decide)) (fun _ => ⟨rfl, A3.e⟩) (Or.inr rfl)
    · rw [if_neg hpN] at hR
      have hpe : p = N := by omega
      subst hR
      by_cases hK : 0 < O.1.length
      · rw [decide_eq_true hK]
        refine ⟨le, fr, nu, nI p, nI O.1.length, wr, ⟨hrep.1, hrep.2.1, hag.1, fun _ => ⟨rfl, hrep, hag⟩, fun z => by cases z⟩, fun a1 => ?_⟩
        refine xe_X8_isRead_21 ?_
        (repeat (first | (simp only [xb_X8_isRead_0, xb_X8_isRead_21, xb_X8_isRead_58, xb_X8_isRead_88, xb_X8_isRead_95, xb_X8_isRead_113, xb_X8_isRead_117, xb_X8_isRead_118, xs_nil, Nat.reduceAdd, true_implies, not_true_eq_false, not_false_eq_true, false_implies, and_true, true_and, x_10, xs_aload_n_0, xs_iconst_0, xs_icmp_ge, xs_istore_n_1_i, xs_istore_n_1_a, xs_istore_n_1_n, xs_istore_n_1_l, xs_iload_n_1, xs_if_ge, xs_ireturn, xs_dup_i, xs_dup_a, xs_iconst_1, xs_iadd, xs_if_ne, xs_goto, xs_if_gt, xs_if_eq]) | (refine xr_getf (hb 0 _ rfl) (by rfl) ?_)))
        refine ⟨fun _ => ?_, fun z => absurd (nI_le (by omega) (by omega)) z⟩
        refine xe_X8_isRead_95 ?_
        (repeat (first | (simp only [xb_X8_isRead_0, xb_X8_isRead_21, xb_X8_isRead_58, xb_X8_isRead_88, xb_X8_isRead_95, xb_X8_isRead_113, xb_X8_isRead_117, xb_X8_isRead_118, xs_nil, Nat.reduceAdd, true_implies, not_true_eq_false, not_false_eq_true, false_implies, and_true, true_and, x_10, xs_aload_n_0, xs_iconst_0, xs_icmp_ge, xs_istore_n_1_i, xs_istore_n_1_a, xs_istore_n_1_n, xs_istore_n_1_l, xs_iload_n_1, xs_if_ge, xs_ireturn, xs_dup_i, xs_dup_a, xs_iconst_1, xs_iadd, xs_if_ne, xs_goto, xs_if_gt, xs_if_eq]) | (refine xr_getf (hb 0 _ rfl) (by rfl) ?_)))
        refine ⟨fun _ => ?_, fun z => absurd ((nI0_lt (by omega)).mpr hK) z⟩
        refine xe_X8_isRead_113 ?_
        (repeat (first | (simp only [xb_X8_isRead_0, xb_X8_isRead_21, xb_X8_isRead_58, xb_X8_isRead_88, xb_X8_isRead_95, xb_X8_isRead_113, xb_X8_isRead_117, xb_X8_isRead_118, xs_nil, Nat.reduceAdd, true_implies, not_true_eq_false, not_false_eq_true, false_implies, and_true, true_and, x_10, xs_aload_n_0, xs_iconst_0, xs_icmp_ge, xs_istore_n_1_i, xs_istore_n_1_a, xs_istore_n_1_n, xs_istore_n_1_l, xs_iload_n_1, xs_if_ge, xs_ireturn, xs_dup_i, xs_dup_a, xs_iconst_1, xs_iadd, xs_if_ne, xs_goto, xs_if_gt, xs_if_eq]) ))
        refine xe_X8_isRead_118 ?_
        have e := A.e
        rw [e]
        (repeat (first | (simp only [xb_X8_isRead_0, xb_X8_isRead_21, xb_X8_isRead_58, xb_X8_isRead_88, xb_X8_isRead_95, xb_X8_isRead_113, xb_X8_isRead_117, xb_X8_isRead_118, xs_nil, Nat.reduceAdd, true_implies, not_true_eq_false, not_false_eq_true, false_implies, and_true, true_and, x_10, xs_aload_n_0, xs_iconst_0, xs_icmp_ge, xs_istore_n_1_i, xs_istore_n_1_a, xs_istore_n_1_n, xs_istore_n_1_l, xs_iload_n_1, xs_if_ge, xs_ireturn, xs_dup_i, xs_dup_a, xs_iconst_1, xs_iadd, xs_if_ne, xs_goto, xs_if_gt, xs_if_eq]) ))
        first | (first | exact ⟨Or.inl trivial, rfl⟩ | exact ⟨Or.inl trivial, rfl, rfl⟩ | (simp; done) | exact ⟨by simp, rfl⟩ | exact ⟨by simp, rfl, rfl⟩ | rfl) | (simp; done)
      · rw [decide_eq_false hK]
        obtain ⟨h1, cf, A1⟩ : ∃ h1, xK 155 [.ref m, .int (nI N)] h (some (.int 0)) h1 ∧ xA h0 m (x_mc m nw asd pa sts rf tx (nI N) hd rd so ah ar tr bg fo bc br bk le fr nu (nI O.1.length) (nI p) (nI N) ha) h1 := ⟨_, c_fails hb h2, A.on rfl⟩
        refine ⟨le, fr, nu, nI p, nI O.1.length, nI N, ⟨hrep.1, hrep.2.1, hag.1, (fun z => by cases z), fun _ => by rw [hpe]⟩, fun a1 => ?_⟩
        refine xe_X8_isRead_21 ?_
        (repeat (first | (simp only [xb_X8_isRead_0, xb_X8_isRead_21, xb_X8_isRead_58, xb_X8_isRead_88, xb_X8_isRead_95, xb_X8_isRead_113, xb_X8_isRead_117, xb_X8_isRead_118, xs_nil, Nat.reduceAdd, true_implies, not_true_eq_false, not_false_eq_true, false_implies, and_true, true_and, x_10, xs_aload_n_0, xs_iconst_0, xs_icmp_ge, xs_istore_n_1_i, xs_istore_n_1_a, xs_istore_n_1_n, xs_istore_n_1_l, xs_iload_n_1, xs_if_ge, xs_ireturn, xs_dup_i, xs_dup_a, xs_iconst_1, xs_iadd, xs_if_ne, xs_goto, xs_if_gt, xs_if_eq]) | (refine xr_getf (hb 0 _ rfl) (by rfl) ?_)))
        refine ⟨fun _ => ?_, fun z => absurd (nI_le (by omega) (by omega)) z⟩
        refine xe_X8_isRead_95 ?_
        (repeat (first | (simp only [xb_X8_isRead_0, xb_X8_isRead_21, xb_X8_isRead_58, xb_X8_isRead_88, xb_X8_isRead_95, xb_X8_isRead_113, xb_X8_isRead_117, xb_X8_isRead_118, xs_nil, Nat.reduceAdd, true_implies, not_true_eq_false, not_false_eq_true, false_implies, and_true, true_and, x_10, xs_aload_n_0, xs_iconst_0, xs_icmp_ge, xs_istore_n_1_i, xs_istore_n_1_a, xs_istore_n_1_n, xs_istore_n_1_l, xs_iload_n_1, xs_if_ge, xs_ireturn, xs_dup_i, xs_dup_a, xs_iconst_1, xs_iadd, xs_if_ne, xs_goto, xs_if_gt, xs_if_eq]) | (refine xr_getf (hb 0 _ rfl) (by rfl) ?_)))
        refine ⟨fun z => absurd z (by rw [show O.1.length = 0 by omega]; decide), fun _ => ?_⟩
        (repeat (first | (simp only [xb_X8_isRead_0, xb_X8_isRead_21, xb_X8_isRead_58, xb_X8_isRead_88, xb_X8_isRead_95, xb_X8_isRead_113, xb_X8_isRead_117, xb_X8_isRead_118, xs_nil, Nat.reduceAdd, true_implies, not_true_eq_false, not_false_eq_true, false_implies, and_true, true_and, x_10, xs_aload_n_0, xs_iconst_0, xs_icmp_ge, xs_istore_n_1_i, xs_istore_n_1_a, xs_istore_n_1_n, xs_istore_n_1_l, xs_iload_n_1, xs_if_ge, xs_ireturn, xs_dup_i, xs_dup_a, xs_iconst_1, xs_iadd, xs_if_ne, xs_goto, xs_if_gt, xs_if_eq]) | (refine xr_getf (hb 0 _ rfl) (by rfl) ?_) | refine xc_v2_1 (cf) (Nat.le_of_ble_eq_true rfl) ?_))
        refine xe_X8_isRead_117 ?_
        (repeat (first | (simp only [xb_X8_isRead_0, xb_X8_isRead_21, xb_X8_isRead_58, xb_X8_isRead_88, xb_X8_isRead_95, xb_X8_isRead_113, xb_X8_isRead_117, xb_X8_isRead_118, xs_nil, Nat.reduceAdd, true_implies, not_true_eq_false, not_false_eq_true, false_implies, and_true, true_and, x_10, xs_aload_n_0, xs_iconst_0, xs_icmp_ge, xs_istore_n_1_i, xs_istore_n_1_a, xs_istore_n_1_n, xs_istore_n_1_l, xs_iload_n_1, xs_if_ge, xs_ireturn, xs_dup_i, xs_dup_a, xs_iconst_1, xs_iadd, xs_if_ne, xs_goto, xs_if_gt, xs_if_eq]) ))
        refine xe_X8_isRead_118 ?_
        have e := A1.e
        rw [e]
        (repeat (first | (simp only [xb_X8_isRead_0, xb_X8_isRead_21, xb_X8_isRead_58, xb_X8_isRead_88, xb_X8_isRead_95, xb_X8_isRead_113, xb_X8_isRead_117, xb_X8_isRead_118, xs_nil, Nat.reduceAdd, true_implies, not_true_eq_false, not_false_eq_true, false_implies, and_true, true_and, x_10, xs_aload_n_0, xs_iconst_0, xs_icmp_ge, xs_istore_n_1_i, xs_istore_n_1_a, xs_istore_n_1_n, xs_istore_n_1_l, xs_iload_n_1, xs_if_ge, xs_ireturn, xs_dup_i, xs_dup_a, xs_iconst_1, xs_iadd, xs_if_ne, xs_goto, xs_if_gt, xs_if_eq]) ))
        first | (first | exact ⟨Or.inl trivial, rfl⟩ | exact ⟨Or.inl trivial, rfl, rfl⟩ | (simp; done) | exact ⟨by simp, rfl⟩ | exact ⟨by simp, rfl, rfl⟩ | rfl) | (simp; done)
theorem c_isRead {le fr nu : List Int32} {od sp wr : Int32} {h : xH} (hb : x_hb h m (x_mc m nw asd pa sts rf tx (nI N) hd rd so ah ar tr bg fo bc br bk le fr nu od sp wr ha)) (h2 : 2 ≤ m) (hl : tx.length = 120) (hN : N ≤ 120) (q1 : le.length = 40) (q2 : fr.length = 41) (q3 : nu.length = 120) :
    ∃ (le' fr' nu' : List Int32) (sp' od' wr' : Int32), (le'.length = 40 ∧ fr'.length = 41 ∧ nu'.length = 120 ∧ ((pR tx N).1 = true → od' = nI (pR tx N).2.2.1.length ∧ repM le' fr' (pR tx N).2.2 ∧ agr nu' (pR tx N).2.2.2.2) ∧ ((pR tx N).1 = false → wr' = nI (pR tx N).2.1)) ∧ xK 159 [.ref m] h (some (.int (if (pR tx N).1 = true then 1 else 0))) (x_wr h m (x_mc m nw asd pa sts rf tx (nI N) hd rd so ah ar tr bg fo bc br bk (le') (fr') (nu') (od') (sp') (wr') ha)) := by
  have A := xA.of hb (Nat.zero_lt_succ _)
  have hs := sk_le (tx := tx) (N := N) (p := 0) (by omega)
  obtain ⟨h1, A1⟩ := mc_ex2 (sp' := nI 0) (od' := nI 0) (wr' := wr) (le' := le) (fr' := fr.set 0 (nI 0)) (nu' := nu) A
  obtain ⟨h4, cS, A4⟩ : ∃ h4, xK 153 [.ref m] h1 none h4 ∧ xA h m (x_mc m nw asd pa sts rf tx (nI N) hd rd so ah ar tr bg fo bc br bk le (fr.set 0 (nI 0)) nu (nI 0) (nI (sk tx N 0)) wr ha) h4 := ⟨_, c_blanks A1.hb h2 hl hN (Nat.zero_le _), A1.on rfl⟩
  obtain ⟨le2, fr2, nu2, sp2, od2, wr2, v1, v2⟩ := l_isRead h2 hl hN 121 (sk tx N 0) ([], [0], []) le (fr.set 0 (nI 0)) nu wr h4 A4 hs.2 (by omega) (by show 0 ≤ _; omega) (by show 3 * 0 ≤ _; omega) ⟨q3, by show 0 ≤ 120; omega, fun j hj => by cases hj⟩ ⟨q1, by rw [List.length_set]; exact q2, rfl, rfl, (fun k hk => by cases hk), fun k hk => by
    have : k = 0 := Nat.le_zero.mp hk
    rw [this, gs_eq (by rw [q2]; decide)]
    rfl⟩ (pR tx N) rfl
  refine ⟨le2, fr2, nu2, sp2, od2, wr2, v1, ?_⟩
  refine xK_X8_isRead (hb 0 _ rfl) (xe_X8_isRead_0 ?_)
  (repeat (first | (simp only [xb_X8_isRead_0, xb_X8_isRead_21, xb_X8_isRead_58, xb_X8_isRead_88, xb_X8_isRead_95, xb_X8_isRead_113, xb_X8_isRead_117, xb_X8_isRead_118, xs_nil, Nat.reduceAdd, true_implies, not_true_eq_false, not_false_eq_true, false_implies, and_true, true_and, x_10, xs_aload_n_0, xs_iconst_0, xs_icmp_ge, xs_istore_n_1_i, xs_istore_n_1_a, xs_istore_n_1_n, xs_istore_n_1_l, xs_iload_n_1, xs_if_ge, xs_ireturn, xs_dup_i, xs_dup_a, xs_iconst_1, xs_iadd, xs_if_ne, xs_goto, xs_if_gt, xs_if_eq]) ))
  refine xa_putf A 0 (by rfl) h2 (by exact Nat.le_of_ble_eq_true rfl) (x_fit_int _) (fun h5 A5 => ?_)
  (repeat (first | (simp only [xb_X8_isRead_0, xb_X8_isRead_21, xb_X8_isRead_58, xb_X8_isRead_88, xb_X8_isRead_95, xb_X8_isRead_113, xb_X8_isRead_117, xb_X8_isRead_118, xs_nil, Nat.reduceAdd, true_implies, not_true_eq_false, not_false_eq_true, false_implies, and_true, true_and, x_10, xs_aload_n_0, xs_iconst_0, xs_icmp_ge, xs_istore_n_1_i, xs_istore_n_1_a, xs_istore_n_1_n, xs_istore_n_1_l, xs_iload_n_1, xs_if_ge, xs_ireturn, xs_dup_i, xs_dup_a, xs_iconst_1, xs_iadd, xs_if_ne, xs_goto, xs_if_gt, xs_if_eq]) ))
  refine xa_putf A5 0 (by rfl) h2 (by exact Nat.le_of_ble_eq_true rfl) (x_fit_int _) (fun h6 A6 => ?_)
  have A6 : xA h m (x_mc m nw asd pa sts rf tx (nI N) hd rd so ah ar tr bg fo bc br bk le fr nu (nI 0) (nI 0) wr ha) h6 := A6
  have hb6 := A6.hb
  (repeat (first | (simp only [xb_X8_isRead_0, xb_X8_isRead_21, xb_X8_isRead_58, xb_X8_isRead_88, xb_X8_isRead_95, xb_X8_isRead_113, xb_X8_isRead_117, xb_X8_isRead_118, xs_nil, Nat.reduceAdd, true_implies, not_true_eq_false, not_false_eq_true, false_implies, and_true, true_and, x_10, xs_aload_n_0, xs_iconst_0, xs_icmp_ge, xs_istore_n_1_i, xs_istore_n_1_a, xs_istore_n_1_n, xs_istore_n_1_l, xs_iload_n_1, xs_if_ge, xs_ireturn, xs_dup_i, xs_dup_a, xs_iconst_1, xs_iadd, xs_if_ne, xs_goto, xs_if_gt, xs_if_eq]) | (refine xr_getf (hb6 0 _ rfl) (by rfl) ?_)))
  refine xa_iastore A6 14 (by rfl) h2 (x_in (k := 0) (by rw [q2]; decide) (by rw [q2]; decide)) (fun h7 A7 => ?_)
  have A7 : xA h m (x_mc m nw asd pa sts rf tx (nI N) hd rd so ah ar tr bg fo bc br bk le (xu fr (nI 0) (nI 0)) nu (nI 0) (nI 0) wr ha) h7 := A7
  rw [xu_n (by decide)] at A7
  have e1 := A1.e
  have e7 := A7.e
  rw [e1] at e7
  subst e7
  (repeat (first | (simp only [xb_X8_isRead_0, xb_X8_isRead_21, xb_X8_isRead_58, xb_X8_isRead_88, xb_X8_isRead_95, xb_X8_isRead_113, xb_X8_isRead_117, xb_X8_isRead_118, xs_nil, Nat.reduceAdd, true_implies, not_true_eq_false, not_false_eq_true, false_implies, and_true, true_and, x_10, xs_aload_n_0, xs_iconst_0, xs_icmp_ge, xs_istore_n_1_i, xs_istore_n_1_a, xs_istore_n_1_n, xs_istore_n_1_l, xs_iload_n_1, xs_if_ge, xs_ireturn, xs_dup_i, xs_dup_a, xs_iconst_1, xs_iadd, xs_if_ne, xs_goto, xs_if_gt, xs_if_eq]) | refine xc_v1_0 (cS) (Nat.le_of_ble_eq_true rfl) ?_))
  exact v2 _
end MR5
