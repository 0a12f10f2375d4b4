/-! the class reads all -/
section CR4
variable {g : Nat} {by_ : List Int32} {h h0 : xH} {N : Nat}
theorem l_readWhole (h2 : 2 ≤ g) (hl : by_.length = 120) (hN : N ≤ 120) : ∀ (fu p : Nat) (O : oT) (kd fi cn nu : List Int32) (h : xH), xA h0 g (x_rc g by_ kd fi cn nu (nI O.2.2.length) (nI p) (nI N) (nI O.1.length)) h → p ≤ N → N < p + fu → O.2.2.length ≤ p → 3 * O.1.length ≤ p → agr nu O.2.2 → repC kd fi cn O →
    ∃ (kd' fi' cn' nu' : List Int32) (nr' at' od' : Int32), (kd'.length = 120 ∧ fi'.length = 120 ∧ cn'.length = 120 ∧ nu'.length = 120 ∧ ((pall by_ N fu p O).1 = true → od' = nI (pall by_ N fu p O).2.2.1.length ∧ repC kd' fi' cn' (pall by_ N fu p O).2.2 ∧ agr nu' (pall by_ N fu p O).2.2.2.2)) ∧ x_EV 144 19 [some (.ref g)] [] h (some (.int (if (pall by_ N fu p O).1 = true then -1 else nI (pall by_ N fu p O).2.1))) (x_wr h0 g (x_rc g by_ kd' fi' cn' nu' nr' at' (nI N) od')) := by
  intro fu
  induction fu with
  | zero =>
    intro p O kd fi cn nu h A hp hfu
    omega
  | succ fu ih =>
    intro p O kd fi cn nu h A hp hfu hF h3 hag hrep
    have hb := A.hb
    unfold pall
    by_cases hpN : p < N
    · rw [if_pos hpN]
      by_cases hm : mostN (pB by_ N p) = 0
      · rw [if_pos hm]
        have cO := c_readOrder0 hb hl hN hpN hm
        refine ⟨kd, fi, cn, nu, nI O.2.2.length, nI p, nI O.1.length, ⟨hrep.1, hrep.2.1, hrep.2.2.1, hag.1, fun z => by cases z⟩, ?_⟩
        refine xe_X3_readWhole_19 ?_
        (repeat (first | (simp only [xb_X3_readWhole_0, xb_X3_readWhole_19, xb_X3_readWhole_51, xb_X3_readWhole_68, xb_X3_readWhole_82, xb_X3_readWhole_83, xs_nil, Nat.reduceAdd, true_implies, not_true_eq_false, not_false_eq_true, false_implies, and_true, true_and, x_10, xs_aload_n_0, xs_iconst_0, xs_icmp_ge, xs_bipush_120, xs_if_ne, xs_ireturn, xs_dup_i, xs_dup_a, xs_iconst_1, xs_iadd, xs_goto, xs_iconst_m1]) | (refine xr_getf (hb 0 _ rfl) (by rfl) ?_)))
        refine ⟨fun z => absurd z (nI_ge hpN (by omega)), fun _ => ?_⟩
        (repeat (first | (simp only [xb_X3_readWhole_0, xb_X3_readWhole_19, xb_X3_readWhole_51, xb_X3_readWhole_68, xb_X3_readWhole_82, xb_X3_readWhole_83, xs_nil, Nat.reduceAdd, true_implies, not_true_eq_false, not_false_eq_true, false_implies, and_true, true_and, x_10, xs_aload_n_0, xs_iconst_0, xs_icmp_ge, xs_bipush_120, xs_if_ne, xs_ireturn, xs_dup_i, xs_dup_a, xs_iconst_1, xs_iadd, xs_goto, xs_iconst_m1]) | (refine xr_getf (hb 0 _ rfl) (by rfl) ?_)))
        refine ⟨fun z => absurd z (nI_ge (b := 120) (by omega) (by decide)), fun _ => ?_⟩
        (repeat (first | (simp only [xb_X3_readWhole_0, xb_X3_readWhole_19, xb_X3_readWhole_51, xb_X3_readWhole_68, xb_X3_readWhole_82, xb_X3_readWhole_83, xs_nil, Nat.reduceAdd, true_implies, not_true_eq_false, not_false_eq_true, false_implies, and_true, true_and, x_10, xs_aload_n_0, xs_iconst_0, xs_icmp_ge, xs_bipush_120, xs_if_ne, xs_ireturn, xs_dup_i, xs_dup_a, xs_iconst_1, xs_iadd, xs_goto, xs_iconst_m1]) | refine xc_v1_1 (cO) (Nat.le_of_ble_eq_true rfl) ?_ | (refine xr_getf (hb 0 _ rfl) (by rfl) ?_)))
        have e := A.e
        rw [e]
        first | (first | exact ⟨Or.inl trivial, rfl⟩ | exact ⟨Or.inl trivial, rfl, rfl⟩ | (simp; done) | exact ⟨by simp, rfl⟩ | exact ⟨by simp, rfl, rfl⟩ | rfl) | (simp; done)
      · rw [if_neg hm]
        obtain ⟨cn', nu', nr', ⟨w1, w2, w3⟩, cO⟩ := c_readOrder hb h2 hl hN hrep.1 hrep.2.1 hrep.2.2.1 (by omega) hpN hF hag hm
        obtain ⟨r1, r2⟩ := pord_pos (tx := by_) (c := pB by_ N p) (mostN (pB by_ N p)) 0 (p + 1) O.2.2 (N := N) (by omega) (by omega)
        have hm0 : 0 < mostN (pB by_ N p) := Nat.pos_of_ne_zero hm
        generalize hR : pord by_ N (pB by_ N p) (mostN (pB by_ N p)) 0 (p + 1) O.2.2 = R at w3 cO r1 r2
        obtain ⟨h1, cO, A1⟩ : ∃ h1, xK 143 [.ref g] h (some (.int (if R.1 = true then 1 else 0))) h1 ∧ xA h0 g (x_rc g by_ (kd.set O.1.length (pB by_ N p)) (fi.set O.1.length (nI O.2.2.length)) cn' nu' nr' (nI R.2.1) (nI N) (nI O.1.length)) h1 := ⟨_, cO, A.on rfl⟩
        have hb1 := A1.hb
        by_cases hr : R.1 = true
        · rw [if_pos hr]
          obtain ⟨e1, e2, e3⟩ := w3 hr
          obtain ⟨b1, b2, b3, b4, b5, b6, b7⟩ := r2 hr
          have b2' := b2 hm0 rfl
          have hs := sk_le (tx := by_) (p := R.2.1) r1
          have hrep2 := repC_push (c := pB by_ N p) (F' := R.2.2) hrep (by omega)
          rw [← e1] at hrep2
          obtain ⟨h3', A3⟩ : ∃ h3', xA h0 g (x_rc g by_ (kd.set O.1.length (pB by_ N p)) (fi.set O.1.length (nI O.2.2.length)) cn' nu' (nI R.2.2.length) (nI R.2.1) (nI N) (nI (O.1.length + 1))) h3' ∧ h3' = h1.set (g + 0) (.inr (2, [.ref (g + 1), .ref (g + 2), .ref (g + 3), .ref (g + 4), .ref (g + 5), .int nr', .int (nI R.2.1), .int (nI N), .int (nI (O.1.length + 1))])) := by
            rw [← e2]
            exact ⟨_, A1.set (k := 0) (Nat.zero_lt_succ _), rfl⟩
          obtain ⟨A3, e3'⟩ := A3
          obtain ⟨h4, cS, A4⟩ : ∃ h4, xK 137 [.ref g] h3' none h4 ∧ xA h0 g (x_rc g by_ (kd.set O.1.length (pB by_ N p)) (fi.set O.1.length (nI O.2.2.length)) cn' nu' (nI R.2.2.length) (nI (sk by_ N R.2.1)) (nI N) (nI (O.1.length + 1))) h4 := ⟨_, c_skip A3.hb h2 hl hN r1, A3.on rfl⟩
          have l1 : (O.1 ++ [pB by_ N p]).length = O.1.length + 1 := by rw [List.length_append]; rfl
          obtain ⟨kd', fi', cn2, nu2, nr2, at2, od2, w4, w5⟩ := ih (sk by_ N R.2.1) (O.1 ++ [pB by_ N p], O.2.1 ++ [R.2.2.length], R.2.2) _ _ cn' nu' h4 (by show xA h0 g (x_rc g by_ _ _ cn' nu' (nI R.2.2.length) (nI (sk by_ N R.2.1)) (nI N) (nI (O.1 ++ [pB by_ N p]).length)) h4; rw [l1]; exact A4) hs.2 (by omega) (by show R.2.2.length ≤ _; omega) (by show 3 * (O.1 ++ [pB by_ N p]).length ≤ _; rw [l1]; omega) e3 hrep2
          refine ⟨kd', fi', cn2, nu2, nr2, at2, od2, w4, ?_⟩
          refine xe_X3_readWhole_19 ?_
          (repeat (first | (simp only [xb_X3_readWhole_0, xb_X3_readWhole_19, xb_X3_readWhole_51, xb_X3_readWhole_68, xb_X3_readWhole_82, xb_X3_readWhole_83, xs_nil, Nat.reduceAdd, true_implies, not_true_eq_false, not_false_eq_true, false_implies, and_true, true_and, x_10, xs_aload_n_0, xs_iconst_0, xs_icmp_ge, xs_bipush_120, xs_if_ne, xs_ireturn, xs_dup_i, xs_dup_a, xs_iconst_1, xs_iadd, xs_goto, xs_iconst_m1]) | (refine xr_getf (hb 0 _ rfl) (by rfl) ?_)))
          refine ⟨fun z => absurd z (nI_ge hpN (by omega)), fun _ => ?_⟩
          (repeat (first | (simp only [xb_X3_readWhole_0, xb_X3_readWhole_19, xb_X3_readWhole_51, xb_X3_readWhole_68, xb_X3_readWhole_82, xb_X3_readWhole_83, xs_nil, Nat.reduceAdd, true_implies, not_true_eq_false, not_false_eq_true, false_implies, and_true, true_and, x_10, xs_aload_n_0, xs_iconst_0, xs_icmp_ge, xs_bipush_120, xs_if_ne, xs_ireturn, xs_dup_i, xs_dup_a, xs_iconst_1, xs_iadd, xs_goto, xs_iconst_m1]) | (refine xr_getf (hb 0 _ rfl) (by rfl) ?_)))
          refine ⟨fun z => absurd z (nI_ge (b := 120) (by omega) (by decide)), fun _ => ?_⟩
          (repeat (first | (simp only [xb_X3_readWhole_0, xb_X3_readWhole_19, xb_X3_readWhole_51, xb_X3_readWhole_68, xb_X3_readWhole_82, xb_X3_readWhole_83, xs_nil, Nat.reduceAdd, true_implies, not_true_eq_false, not_false_eq_true, false_implies, and_true, true_and, x_10, xs_aload_n_0, xs_iconst_0, xs_icmp_ge, xs_bipush_120, xs_if_ne, xs_ireturn, xs_dup_i, xs_dup_a, xs_iconst_1, xs_iadd, xs_goto, xs_iconst_m1]) | refine xc_v1_1 (cO) (Nat.le_of_ble_eq_true rfl) ?_))
          rw [if_pos hr]
          (repeat (first | (simp only [xb_X3_readWhole_0, xb_X3_readWhole_19, xb_X3_readWhole_51, xb_X3_readWhole_68, xb_X3_readWhole_82, xb_X3_readWhole_83, xs_nil, Nat.reduceAdd, true_implies, not_true_eq_false, not_false_eq_true, false_implies, and_true, true_and, x_10, xs_aload_n_0, xs_iconst_0, xs_icmp_ge, xs_bipush_120, xs_if_ne, xs_ireturn, xs_dup_i, xs_dup_a, xs_iconst_1, xs_iadd, xs_goto, xs_iconst_m1]) ))
          refine xe_X3_readWhole_51 ?_
          (repeat (first | (simp only [xb_X3_readWhole_0, xb_X3_readWhole_19, xb_X3_readWhole_51, xb_X3_readWhole_68, xb_X3_readWhole_82, xb_X3_readWhole_83, xs_nil, Nat.reduceAdd, true_implies, not_true_eq_false, not_false_eq_true, false_implies, and_true, true_and, x_10, xs_aload_n_0, xs_iconst_0, xs_icmp_ge, xs_bipush_120, xs_if_ne, xs_ireturn, xs_dup_i, xs_dup_a, xs_iconst_1, xs_iadd, xs_goto, xs_iconst_m1]) | (rw [xn_dup]) | (refine xr_getf (hb1 0 _ rfl) (by rfl) ?_)))
          rw [nI_1]
          refine xr_putf (hb1 0 _ rfl) (by omega) (by exact Nat.le_of_ble_eq_true rfl) (x_fit_int _) ?_
          have e4 : h1.set (g + 0) (.inr (2, List.set [.ref (g + 1), .ref (g + 2), .ref (g + 3), .ref (g + 4), .ref (g + 5), .int nr', .int (nI R.2.1), .int (nI N), .int (nI O.1.length)] 8 (.int (nI (O.1.length + 1))))) = h3' := e3'.symm
          rw [show (g + 0) = g from rfl] at e4
          rw [e4]
          (repeat (first | (simp only [xb_X3_readWhole_0, xb_X3_readWhole_19, xb_X3_readWhole_51, xb_X3_readWhole_68, xb_X3_readWhole_82, xb_X3_readWhole_83, xs_nil, Nat.reduceAdd, true_implies, not_true_eq_false, not_false_eq_true, false_implies, and_true, true_and, x_10, xs_aload_n_0, xs_iconst_0, xs_icmp_ge, xs_bipush_120, xs_if_ne, xs_ireturn, xs_dup_i, xs_dup_a, xs_iconst_1, xs_iadd, xs_goto, xs_iconst_m1]) | refine xc_v1_0 (cS) (Nat.le_of_ble_eq_true rfl) ?_))
          exact w5
        · rw [if_neg hr]
          refine ⟨kd.set O.1.length (pB by_ N p), fi.set O.1.length (nI O.2.2.length), cn', nu', nr', nI R.2.1, nI O.1.length, ⟨by rw [List.length_set]; exact hrep.1, by rw [List.length_set]; exact hrep.2.1, w1, w2, fun z => by cases z⟩, ?_⟩
          refine xe_X3_readWhole_19 ?_
          (repeat (first | (simp only [xb_X3_readWhole_0, xb_X3_readWhole_19, xb_X3_readWhole_51, xb_X3_readWhole_68, xb_X3_readWhole_82, xb_X3_readWhole_83, xs_nil, Nat.reduceAdd, true_implies, not_true_eq_false, not_false_eq_true, false_implies, and_true, true_and, x_10, xs_aload_n_0, xs_iconst_0, xs_icmp_ge, xs_bipush_120, xs_if_ne, xs_ireturn, xs_dup_i, xs_dup_a, xs_iconst_1, xs_iadd, xs_goto, xs_iconst_m1]) | (refine xr_getf (hb 0 _ rfl) (by rfl) ?_)))
          refine ⟨fun z => absurd z (nI_ge hpN (by omega)), fun _ => ?_⟩
          (repeat (first | (simp only [xb_X3_readWhole_0, xb_X3_readWhole_19, xb_X3_readWhole_51, xb_X3_readWhole_68, xb_X3_readWhole_82, xb_X3_readWhole_83, xs_nil, Nat.reduceAdd, true_implies, not_true_eq_false, not_false_eq_true, false_implies, and_true, true_and, x_10, xs_aload_n_0, xs_iconst_0, xs_icmp_ge, xs_bipush_120, xs_if_ne, xs_ireturn, xs_dup_i, xs_dup_a, xs_iconst_1, xs_iadd, xs_goto, xs_iconst_m1]) | (refine xr_getf (hb 0 _ rfl) (by rfl) ?_)))
          refine ⟨fun z => absurd z (nI_ge (b := 120) (by omega) (by decide)), fun _ => ?_⟩
          (repeat (first | (simp only [xb_X3_readWhole_0, xb_X3_readWhole_19, xb_X3_readWhole_51, xb_X3_readWhole_68, xb_X3_readWhole_82, xb_X3_readWhole_83, xs_nil, Nat.reduceAdd, true_implies, not_true_eq_false, not_false_eq_true, false_implies, and_true, true_and, x_10, xs_aload_n_0, xs_iconst_0, xs_icmp_ge, xs_bipush_120, xs_if_ne, xs_ireturn, xs_dup_i, xs_dup_a, xs_iconst_1, xs_iadd, xs_goto, xs_iconst_m1]) | refine xc_v1_1 (cO) (Nat.le_of_ble_eq_true rfl) ?_))
          rw [if_neg hr]
          (repeat (first | (simp only [xb_X3_readWhole_0, xb_X3_readWhole_19, xb_X3_readWhole_51, xb_X3_readWhole_68, xb_X3_readWhole_82, xb_X3_readWhole_83, xs_nil, Nat.reduceAdd, true_implies, not_true_eq_false, not_false_eq_true, false_implies, and_true, true_and, x_10, xs_aload_n_0, xs_iconst_0, xs_icmp_ge, xs_bipush_120, xs_if_ne, xs_ireturn, xs_dup_i, xs_dup_a, xs_iconst_1, xs_iadd, xs_goto, xs_iconst_m1]) | (refine xr_getf (hb1 0 _ rfl) (by rfl) ?_)))
          have e := A1.e
          rw [e]
          first | (first | exact ⟨Or.inl trivial, rfl⟩ | exact ⟨Or.inl trivial, rfl, rfl⟩ | (simp; done) | exact ⟨by simp, rfl⟩ | exact ⟨by simp, rfl, rfl⟩ | rfl) | (simp; done)
    · rw [if_neg hpN]
      refine ⟨kd, fi, cn, nu, nI O.2.2.length, nI p, nI O.1.length, ⟨hrep.1, hrep.2.1, hrep.2.2.1, hag.1, fun _ => ⟨rfl, hrep, hag⟩⟩, ?_⟩
      refine xe_X3_readWhole_19 ?_
      (repeat (first | (simp only [xb_X3_readWhole_0, xb_X3_readWhole_19, xb_X3_readWhole_51, xb_X3_readWhole_68, xb_X3_readWhole_82, xb_X3_readWhole_83, xs_nil, Nat.reduceAdd, true_implies, not_true_eq_false, not_false_eq_true, false_implies, and_true, true_and, x_10, xs_aload_n_0, xs_iconst_0, xs_icmp_ge, xs_bipush_120, xs_if_ne, xs_ireturn, xs_dup_i, xs_dup_a, xs_iconst_1, xs_iadd, xs_goto, xs_iconst_m1]) | (refine xr_getf (hb 0 _ rfl) (by rfl) ?_)))
      refine ⟨fun _ => ?_, fun z => absurd (nI_le (by omega) (by omega)) z⟩
      refine xe_X3_readWhole_68 ?_
      (repeat (first | (simp only [xb_X3_readWhole_0, xb_X3_readWhole_19, xb_X3_readWhole_51, xb_X3_readWhole_68, xb_X3_readWhole_82, xb_X3_readWhole_83, xs_nil, Nat.reduceAdd, true_implies, not_true_eq_false, not_false_eq_true, false_implies, and_true, true_and, x_10, xs_aload_n_0, xs_iconst_0, xs_icmp_ge, xs_bipush_120, xs_if_ne, xs_ireturn, xs_dup_i, xs_dup_a, xs_iconst_1, xs_iadd, xs_goto, xs_iconst_m1]) | (refine xr_getf (hb 0 _ rfl) (by rfl) ?_)))
      have e := A.e
      rw [e]
      by_cases hK : 0 < O.1.length
      · rw [decide_eq_true hK]
        refine ⟨fun _ => ?_, fun z => absurd (nI_ne0 hK (by omega)) z⟩
        refine xe_X3_readWhole_82 ?_
        (repeat (first | (simp only [xb_X3_readWhole_0, xb_X3_readWhole_19, xb_X3_readWhole_51, xb_X3_readWhole_68, xb_X3_readWhole_82, xb_X3_readWhole_83, xs_nil, Nat.reduceAdd, true_implies, not_true_eq_false, not_false_eq_true, false_implies, and_true, true_and, x_10, xs_aload_n_0, xs_iconst_0, xs_icmp_ge, xs_bipush_120, xs_if_ne, xs_ireturn, xs_dup_i, xs_dup_a, xs_iconst_1, xs_iadd, xs_goto, xs_iconst_m1]) ))
        refine xe_X3_readWhole_83 ?_
        (repeat (first | (simp only [xb_X3_readWhole_0, xb_X3_readWhole_19, xb_X3_readWhole_51, xb_X3_readWhole_68, xb_X3_readWhole_82, xb_X3_readWhole_83, xs_nil, Nat.reduceAdd, true_implies, not_true_eq_false, not_false_eq_true, false_implies, and_true, true_and, x_10, xs_aload_n_0, xs_iconst_0, xs_icmp_ge, xs_bipush_120, xs_if_ne, xs_ireturn, xs_dup_i, xs_dup_a, xs_iconst_1, xs_iadd, xs_goto, xs_iconst_m1]) ))
        first | (first | exact ⟨Or.inl trivial, rfl⟩ | exact ⟨Or.inl trivial, rfl, rfl⟩ | (simp; done) | exact ⟨by simp, rfl⟩ | exact ⟨by simp, rfl, rfl⟩ | rfl) | (simp; done)
      · rw [decide_eq_false hK]
        refine ⟨fun z => absurd (by rw [show O.1.length = 0 by omega]; rfl) z, fun _ => ?_⟩
        (repeat (first | (simp only [xb_X3_readWhole_0, xb_X3_readWhole_19, xb_X3_readWhole_51, xb_X3_readWhole_68, xb_X3_readWhole_82, xb_X3_readWhole_83, xs_nil, Nat.reduceAdd, true_implies, not_true_eq_false, not_false_eq_true, false_implies, and_true, true_and, x_10, xs_aload_n_0, xs_iconst_0, xs_icmp_ge, xs_bipush_120, xs_if_ne, xs_ireturn, xs_dup_i, xs_dup_a, xs_iconst_1, xs_iadd, xs_goto, xs_iconst_m1]) | (refine xr_getf (hb 0 _ rfl) (by rfl) ?_)))
        refine xe_X3_readWhole_83 ?_
        (repeat (first | (simp only [xb_X3_readWhole_0, xb_X3_readWhole_19, xb_X3_readWhole_51, xb_X3_readWhole_68, xb_X3_readWhole_82, xb_X3_readWhole_83, xs_nil, Nat.reduceAdd, true_implies, not_true_eq_false, not_false_eq_true, false_implies, and_true, true_and, x_10, xs_aload_n_0, xs_iconst_0, xs_icmp_ge, xs_bipush_120, xs_if_ne, xs_ireturn, xs_dup_i, xs_dup_a, xs_iconst_1, xs_iadd, xs_goto, xs_iconst_m1]) ))
        first | (first | exact ⟨Or.inl trivial, rfl⟩ | exact ⟨Or.inl trivial, rfl, rfl⟩ | (simp; done) | exact ⟨by simp, rfl⟩ | exact ⟨by simp, rfl, rfl⟩ | rfl) | (simp; done)
/-- all read -/
def pR (tx : List Int32) (N : Nat) : Bool × Nat × oT := pall tx N 121 (sk tx N 0) ([], [0], [])
theorem c_readWhole {kd fi cn nu : List Int32} {nr at_ od : Int32} (hb : x_hb h g (x_rc g by_ kd fi cn nu nr at_ (nI N) od)) (h2 : 2 ≤ g) (hl : by_.length = 120) (hN : N ≤ 120) (q1 : kd.length = 120) (q2 : fi.length = 120) (q3 : cn.length = 120) (q4 : nu.length = 120) :
    ∃ (kd' fi' cn' nu' : List Int32) (nr' at' od' : Int32), (kd'.length = 120 ∧ fi'.length = 120 ∧ cn'.length = 120 ∧ nu'.length = 120 ∧ ((pR by_ N).1 = true → od' = nI (pR by_ N).2.2.1.length ∧ repC kd' fi' cn' (pR by_ N).2.2 ∧ agr nu' (pR by_ N).2.2.2.2)) ∧ xK 144 [.ref g] h (some (.int (if (pR by_ N).1 = true then -1 else nI (pR by_ N).2.1))) (x_wr h g (x_rc g by_ kd' fi' cn' nu' nr' at' (nI N) od')) := by
  have A := xA.of hb (Nat.zero_lt_succ _)
  have hs := sk_le (tx := by_) (N := N) (p := 0) (by omega)
  have A3 := A.set (k := 0) (e1 := .inr (2, [.ref (g + 1), .ref (g + 2), .ref (g + 3), .ref (g + 4), .ref (g + 5), .int (nI 0), .int (nI 0), .int (nI N), .int (nI 0)])) (Nat.zero_lt_succ _)
  have A3 : xA h g (x_rc g by_ kd fi cn nu (nI 0) (nI 0) (nI N) (nI 0)) _ := A3
  have A4 : xA h g (x_rc g by_ kd fi cn nu (nI 0) (nI (sk by_ N 0)) (nI N) (nI 0)) _ := A3.on rfl
  obtain ⟨kd', fi', cn2, nu2, nr2, at2, od2, w4, w5⟩ := l_readWhole h2 hl hN 121 (sk by_ N 0) ([], [0], []) kd fi cn nu _ A4 hs.2 (by omega) (by show 0 ≤ _; omega) (by show 3 * 0 ≤ _; omega) ⟨q4, by show 0 ≤ 120; omega, fun j hj => by cases hj⟩ ⟨q1, q2, q3, rfl, rfl, fun k hk => by cases hk⟩
  refine ⟨kd', fi', cn2, nu2, nr2, at2, od2, w4, ?_⟩
  refine xK_X3_readWhole (hb 0 _ rfl) (xe_X3_readWhole_0 ?_)
  (repeat (first | (simp only [xb_X3_readWhole_0, xb_X3_readWhole_19, xb_X3_readWhole_51, xb_X3_readWhole_68, xb_X3_readWhole_82, xb_X3_readWhole_83, xs_nil, Nat.reduceAdd, true_implies, not_true_eq_false, not_false_eq_true, false_implies, and_true, true_and, x_10, xs_aload_n_0, xs_iconst_0, xs_icmp_ge, xs_bipush_120, xs_if_ne, xs_ireturn, xs_dup_i, xs_dup_a, xs_iconst_1, xs_iadd, xs_goto, xs_iconst_m1]) ))
  refine xa_putf A 0 (by rfl) h2 (by exact Nat.le_of_ble_eq_true rfl) (x_fit_int _) (fun h1 A1 => ?_)
  (repeat (first | (simp only [xb_X3_readWhole_0, xb_X3_readWhole_19, xb_X3_readWhole_51, xb_X3_readWhole_68, xb_X3_readWhole_82, xb_X3_readWhole_83, xs_nil, Nat.reduceAdd, true_implies, not_true_eq_false, not_false_eq_true, false_implies, and_true, true_and, x_10, xs_aload_n_0, xs_iconst_0, xs_icmp_ge, xs_bipush_120, xs_if_ne, xs_ireturn, xs_dup_i, xs_dup_a, xs_iconst_1, xs_iadd, xs_goto, xs_iconst_m1]) ))
  refine xa_putf A1 0 (by rfl) h2 (by exact Nat.le_of_ble_eq_true rfl) (x_fit_int _) (fun h1 A1 => ?_)
  (repeat (first | (simp only [xb_X3_readWhole_0, xb_X3_readWhole_19, xb_X3_readWhole_51, xb_X3_readWhole_68, xb_X3_readWhole_82, xb_X3_readWhole_83, xs_nil, Nat.reduceAdd, true_implies, not_true_eq_false, not_false_eq_true, false_implies, and_true, true_and, x_10, xs_aload_n_0, xs_iconst_0, xs_icmp_ge, xs_bipush_120, xs_if_ne, xs_ireturn, xs_dup_i, xs_dup_a, xs_iconst_1, xs_iadd, xs_goto, xs_iconst_m1]) ))
  refine xa_putf A1 0 (by rfl) h2 (by exact Nat.le_of_ble_eq_true rfl) (x_fit_int _) (fun h1 A1 => ?_)
  have A1 : xA h g (x_rc g by_ kd fi cn nu (nI 0) (nI 0) (nI N) (nI 0)) h1 := A1
  have cS := c_skip A1.hb h2 hl hN (Nat.zero_le _)
  have e : x_wr h1 g (x_rc g by_ kd fi cn nu (nI 0) (nI (sk by_ N 0)) (nI N) (nI 0)) = x_wr h g (x_rc g by_ kd fi cn nu (nI 0) (nI (sk by_ N 0)) (nI N) (nI 0)) := by
    rw [← A1.e]
    exact x_wr_wr A1.hl rfl
  rw [e] at cS
  have e2 := A4.e
  rw [← e2] at w5
  (repeat (first | (simp only [xb_X3_readWhole_0, xb_X3_readWhole_19, xb_X3_readWhole_51, xb_X3_readWhole_68, xb_X3_readWhole_82, xb_X3_readWhole_83, xs_nil, Nat.reduceAdd, true_implies, not_true_eq_false, not_false_eq_true, false_implies, and_true, true_and, x_10, xs_aload_n_0, xs_iconst_0, xs_icmp_ge, xs_bipush_120, xs_if_ne, xs_ireturn, xs_dup_i, xs_dup_a, xs_iconst_1, xs_iadd, xs_goto, xs_iconst_m1]) | refine xc_v1_0 (cS) (Nat.le_of_ble_eq_true rfl) ?_))
  exact w5
end CR4
