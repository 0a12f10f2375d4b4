/-! the class: does -/
theorem pall_le {tx : List Int32} {N : Nat} : ∀ (fu p : Nat) (O : oT), p ≤ N → O.2.2.length ≤ p → (pall tx N fu p O).2.1 ≤ N := by
  intro fu
  induction fu with
  | zero =>
    intro p O hp _
    exact hp
  | succ fu ih =>
    intro p O hp hF
    unfold pall
    by_cases hpN : p < N
    · rw [if_pos hpN]
      generalize pB tx N p = c
      by_cases hm : mostN c = 0
      · rw [if_pos hm]
        exact hp
      · rw [if_neg hm]
        obtain ⟨r1, r2⟩ := pord_pos (tx := tx) (c := c) (mostN c) 0 (p + 1) O.2.2 (N := N) (by omega) (by omega)
        generalize pord tx N c (mostN c) 0 (p + 1) O.2.2 = Q at r1 r2
        by_cases hr : Q.1 = true
        · rw [if_pos hr]
          obtain ⟨b1, b2, b3, b4, b5, b6, b7⟩ := r2 hr
          have hs := sk_le (tx := tx) (p := Q.2.1) r1
          exact ih _ (O.1 ++ [c], O.2.1 ++ [Q.2.2.length], Q.2.2) hs.2 (by show Q.2.2.length ≤ _; omega)
        · rw [if_neg hr]
          exact r1
    · rw [if_neg hpN]
      exact hp
theorem pR_le {tx : List Int32} {N : Nat} : (pR tx N).2.1 ≤ N := by
  have hs := sk_le (tx := tx) (N := N) (p := 0) (by omega)
  exact pall_le 121 (sk tx N 0) ([], [0], []) hs.2 (by show 0 ≤ _; omega)
section CD
variable {h : xH} {s : kS} {k : kC} {sh : Nat → kS} {nx ct : Nat} {tx : List Int32} {N : Nat} {rf : List Int32}
theorem cX_push {a : kS} {kd fi cn nu : List Int32} {nr at_ ln od : Int32} (X : cX h s a k sh nx ct tx kd fi cn nu nr at_ ln od rf) (hnx : nx < 6) (hct : ct ≤ 6) (ha : svl a) : ∃ h1, xK 22 [.ref 29, .ref 16] h none h1 ∧ cW h1 s k (shp sh nx a) ((nx + 1) % 6) (min (ct + 1) 6) tx ln rf ∧ cF h h1 ∧ x_hb h1 115 (x_rc 115 tx kd fi cn nu nr at_ ln od) := by
  have B := X.1
  have c1 := c_push (q := 29) B.hsh hnx hct (B.hsl hnx).2 X.2.1 (Or.inl (by decide)) (by decide) (B.hsl hnx).1 ha
  have o1 := X.2.2.off (g2 := 31 + 13 * nx) (cs2 := x_ts (31 + 13 * nx) a) ((B.hsl hnx).2.fit (Nat.zero_lt_succ _)) (Or.inr (by rw [x_ts_len]; omega))
  obtain ⟨B1, F1⟩ := B.slot hnx a ha
  have o2 := o1.off (g2 := 29) (cs2 := x_sh 29 (nI ((nx + 1) % 6)) (nI (min (ct + 1) 6))) (B1.hsh.fit (Nat.zero_lt_succ _)) (Or.inr (Nat.le_of_ble_eq_true rfl))
  obtain ⟨B2, F2⟩ := B1.shelf ((nx + 1) % 6) (min (ct + 1) 6)
  exact ⟨_, c1, B2, F1.trans F2, o2⟩
theorem c7_does_no (B : cW h s k sh nx ct tx (nI N) rf) (hl : tx.length = 120) (hN : N ≤ 120) (hp : (pR tx N).1 = false) : ∃ h1, xK 151 [.ref 2] h (some (.int (-10 - nI (pR tx N).2.1))) h1 ∧ cW h1 s k sh nx ct tx (nI N) rf ∧ cF h h1 := by
  obtain ⟨kd, fi, cn, nu, nr, at_, od, ⟨q1, q2, q3, q4⟩, hb⟩ := B.hsc
  obtain ⟨kd', fi', cn', nu', nr', at', od', ⟨w1, w2, w3, w4, _⟩, c⟩ := c_readWhole hb (by decide) hl hN q1 q2 q3 q4
  obtain ⟨B1, F1⟩ := B.script (tx' := tx) (ln' := nI N) (nr' := nr') (at' := at') (od' := od') ⟨w1, w2, w3, w4⟩
  have hle := pR_le (tx := tx) (N := N)
  rw [hp, if_neg (by decide)] at c
  refine ⟨_, ?_, B1, F1⟩
  generalize (pR tx N).2.1 = p at c hle
  refine xK_X7_does (B.hp 0 _ rfl) (xe_X7_does_0 ?_)
  (repeat (first | (simp only [xb_X7_does_0, xb_X7_does_18, xb_X7_does_31, xb_X7_does_63, xb_X7_does_68, xb_X7_does_90, xb_X7_does_96, xs_nil, Nat.reduceAdd, true_implies, not_true_eq_false, not_false_eq_true, false_implies, and_true, true_and, x_10, xs_aload_n_0, xs_istore_n_1_i, xs_istore_n_1_a, xs_istore_n_1_n, xs_istore_n_1_l, xs_iload_n_1, xs_iconst_m1, xs_icmp_eq, xs_bipush_m10, xs_isub, xs_ireturn, xs_iconst_0, xs_istore_n_2_i, xs_istore_n_2_a, xs_istore_n_2_n, xs_istore_n_2_l, xs_iload_n_2, xs_icmp_ge, xs_bipush_119, xs_icmp_ne, xs_goto, xs_istore_n_3_i, xs_istore_n_3_a, xs_istore_n_3_n, xs_istore_n_3_l, xs_iload_n_3, xs_if_ne, xs_sipush_m1000, xs_iinc_2_1_i, xs_iinc_2_1_a, xs_iinc_2_1_n]) | (refine xr_getf (B.hp 0 _ rfl) (by rfl) ?_) | (refine xr_getf (B.hs 0 _ rfl) (by rfl) ?_) | (refine xr_getf (B.hs 1 _ rfl) (by rfl) ?_) | (refine xr_getf (B.hs 7 _ rfl) (by rfl) ?_) | refine xc_v1_1 (c) (Nat.le_of_ble_eq_true rfl) ?_))
  refine ⟨fun z => absurd z (nI_m1 (by omega)), fun _ => ?_⟩
  (repeat (first | (simp only [xb_X7_does_0, xb_X7_does_18, xb_X7_does_31, xb_X7_does_63, xb_X7_does_68, xb_X7_does_90, xb_X7_does_96, xs_nil, Nat.reduceAdd, true_implies, not_true_eq_false, not_false_eq_true, false_implies, and_true, true_and, x_10, xs_aload_n_0, xs_istore_n_1_i, xs_istore_n_1_a, xs_istore_n_1_n, xs_istore_n_1_l, xs_iload_n_1, xs_iconst_m1, xs_icmp_eq, xs_bipush_m10, xs_isub, xs_ireturn, xs_iconst_0, xs_istore_n_2_i, xs_istore_n_2_a, xs_istore_n_2_n, xs_istore_n_2_l, xs_iload_n_2, xs_icmp_ge, xs_bipush_119, xs_icmp_ne, xs_goto, xs_istore_n_3_i, xs_istore_n_3_a, xs_istore_n_3_n, xs_istore_n_3_l, xs_iload_n_3, xs_if_ne, xs_sipush_m1000, xs_iinc_2_1_i, xs_iinc_2_1_a, xs_iinc_2_1_n]) ))
  (first | exact ⟨Or.inl trivial, rfl⟩ | exact ⟨Or.inl trivial, rfl, rfl⟩ | (simp; done) | exact ⟨by simp, rfl⟩ | exact ⟨by simp, rfl, rfl⟩ | rfl)
theorem c7_does_ok (B : cW h s k sh nx ct tx (nI N) rf) (hl : tx.length = 120) (hN : N ≤ 120) (hv : sv s) (hk : kcok k) (hnx : nx < 6) (hct : ct ≤ 6) (hp : (pR tx N).1 = true) : ∃ q b s' k', oA (pR tx N).2.2 (pR tx N).2.2.1.length 0 s k q b s' k' ∧ kcok k' ∧ (b = false → ∃ h1, xK 151 [.ref 2] h (some (.int (-1000 - nI q))) h1 ∧ cW h1 s k' sh nx ct tx (nI N) rf ∧ cF h h1) ∧ (b = true → ∃ h1, xK 151 [.ref 2] h (some (.int (nI (pR tx N).2.2.1.length))) h1 ∧ cW h1 s' k' (shp sh nx s) ((nx + 1) % 6) (min (ct + 1) 6) tx (nI N) rf ∧ cF h h1) := by
  obtain ⟨kd, fi, cn, nu, nr, at_, od, ⟨q1, q2, q3, q4⟩, hb⟩ := B.hsc
  obtain ⟨kd', fi', cn', nu', nr', at', od', ⟨w1, w2, w3, w4, w5⟩, c⟩ := c_readWhole hb (by decide) hl hN q1 q2 q3 q4
  obtain ⟨rfl, w6, w7⟩ := w5 hp
  obtain ⟨hO, h3⟩ := pR_ok hp
  rw [if_pos hp] at c
  generalize (pR tx N).2.2 = O at c w6 w7 hO h3
  obtain ⟨B1, F1⟩ := B.script (tx' := tx) (ln' := nI N) (nr' := nr') (at' := at') (od' := nI O.1.length) ⟨w1, w2, w3, w4⟩
  have hb1 : x_hb (x_wr h 115 (x_rc 115 tx kd' fi' cn' nu' nr' at' (nI N) (nI O.1.length))) 115 (x_rc 115 tx kd' fi' cn' nu' nr' at' (nI N) (nI O.1.length)) := x_hb_wr (hb.fit (Nat.zero_lt_succ _))
  generalize x_wr h 115 (x_rc 115 tx kd' fi' cn' nu' nr' at' (nI N) (nI O.1.length)) = h1 at c B1 F1 hb1
  obtain ⟨a, a1, a2⟩ := B1.2.2.1
  have cc := c_scopyS (a := 16) (b := 3) a2 B1.hs (by decide) (Or.inl (by decide)) a1 hv.1
  obtain ⟨B2, F2, a3⟩ := B1.ahead s hv.1
  have hb2 : x_hb (x_wr h1 16 (x_ts 16 s)) 115 (x_rc 115 tx kd' fi' cn' nu' nr' at' (nI N) (nI O.1.length)) := hb1.off (a2.fit (Nat.zero_lt_succ _)) (Or.inr (Nat.le_of_ble_eq_true rfl))
  generalize x_wr h1 16 (x_ts 16 s) = h2 at cc B2 F2 a3 hb2
  obtain ⟨q, b, s', k', h3', v1, v2, v3, v4, v5, v6⟩ := l_does7 (a := s) hv.1 hO (by omega) w6 w7 O.1.length 0 s k h2 ⟨B2, a3, hb2⟩ hv hk (by omega)
  have lead : ∀ (r : Option Value) (h' : xH), (∀ a3 : Option Value, x_EV 151 31 [some (.ref 2), some (.int (-1)), some (.int (nI 0)), a3] [] h2 r h') → xK 151 [.ref 2] h r h' := by
    intro r h' H
    refine xK_X7_does (B.hp 0 _ rfl) (xe_X7_does_0 ?_)
    (repeat (first | (simp only [xb_X7_does_0, xb_X7_does_18, xb_X7_does_31, xb_X7_does_63, xb_X7_does_68, xb_X7_does_90, xb_X7_does_96, xs_nil, Nat.reduceAdd, true_implies, not_true_eq_false, not_false_eq_true, false_implies, and_true, true_and, x_10, xs_aload_n_0, xs_istore_n_1_i, xs_istore_n_1_a, xs_istore_n_1_n, xs_istore_n_1_l, xs_iload_n_1, xs_iconst_m1, xs_icmp_eq, xs_bipush_m10, xs_isub, xs_ireturn, xs_iconst_0, xs_istore_n_2_i, xs_istore_n_2_a, xs_istore_n_2_n, xs_istore_n_2_l, xs_iload_n_2, xs_icmp_ge, xs_bipush_119, xs_icmp_ne, xs_goto, xs_istore_n_3_i, xs_istore_n_3_a, xs_istore_n_3_n, xs_istore_n_3_l, xs_iload_n_3, xs_if_ne, xs_sipush_m1000, xs_iinc_2_1_i, xs_iinc_2_1_a, xs_iinc_2_1_n]) | (refine xr_getf (B.hp 0 _ rfl) (by rfl) ?_) | (refine xr_getf (B.hs 0 _ rfl) (by rfl) ?_) | (refine xr_getf (B.hs 1 _ rfl) (by rfl) ?_) | (refine xr_getf (B.hs 7 _ rfl) (by rfl) ?_) | refine xc_v1_1 (c) (Nat.le_of_ble_eq_true rfl) ?_))
    refine xe_X7_does_18 ?_
    (repeat (first | (simp only [xb_X7_does_0, xb_X7_does_18, xb_X7_does_31, xb_X7_does_63, xb_X7_does_68, xb_X7_does_90, xb_X7_does_96, xs_nil, Nat.reduceAdd, true_implies, not_true_eq_false, not_false_eq_true, false_implies, and_true, true_and, x_10, xs_aload_n_0, xs_istore_n_1_i, xs_istore_n_1_a, xs_istore_n_1_n, xs_istore_n_1_l, xs_iload_n_1, xs_iconst_m1, xs_icmp_eq, xs_bipush_m10, xs_isub, xs_ireturn, xs_iconst_0, xs_istore_n_2_i, xs_istore_n_2_a, xs_istore_n_2_n, xs_istore_n_2_l, xs_iload_n_2, xs_icmp_ge, xs_bipush_119, xs_icmp_ne, xs_goto, xs_istore_n_3_i, xs_istore_n_3_a, xs_istore_n_3_n, xs_istore_n_3_l, xs_iload_n_3, xs_if_ne, xs_sipush_m1000, xs_iinc_2_1_i, xs_iinc_2_1_a, xs_iinc_2_1_n]) | (refine xr_getf (B1.hp 0 _ rfl) (by rfl) ?_) | refine xc_v2_0 (cc) (Nat.le_of_ble_eq_true rfl) ?_))
    exact H _
  refine ⟨q, b, s', k', v1, v5, fun hbf => ?_, fun hbt => ?_⟩
  · obtain ⟨B4, F4⟩ := v2.1.now s
    refine ⟨_, lead _ _ (fun a3 => v6 _ _ (-1) a3 (fun z => by rw [hbf] at z; cases z) (fun _ => ⟨rfl, rfl⟩)), B4, ((F1.trans F2).trans v3).trans F4⟩
  · obtain ⟨h4, p4, B4, F4, b4⟩ := cX_push v2 hnx hct hv.1
    refine ⟨h4, lead _ _ (fun a3 => v6 _ _ (-1) a3 (fun _ a3 => ?_) (fun z => by rw [hbt] at z; cases z)), B4, ((F1.trans F2).trans v3).trans F4⟩
    refine xe_X7_does_96 ?_
    (repeat (first | (simp only [xb_X7_does_0, xb_X7_does_18, xb_X7_does_31, xb_X7_does_63, xb_X7_does_68, xb_X7_does_90, xb_X7_does_96, xs_nil, Nat.reduceAdd, true_implies, not_true_eq_false, not_false_eq_true, false_implies, and_true, true_and, x_10, xs_aload_n_0, xs_istore_n_1_i, xs_istore_n_1_a, xs_istore_n_1_n, xs_istore_n_1_l, xs_iload_n_1, xs_iconst_m1, xs_icmp_eq, xs_bipush_m10, xs_isub, xs_ireturn, xs_iconst_0, xs_istore_n_2_i, xs_istore_n_2_a, xs_istore_n_2_n, xs_istore_n_2_l, xs_iload_n_2, xs_icmp_ge, xs_bipush_119, xs_icmp_ne, xs_goto, xs_istore_n_3_i, xs_istore_n_3_a, xs_istore_n_3_n, xs_istore_n_3_l, xs_iload_n_3, xs_if_ne, xs_sipush_m1000, xs_iinc_2_1_i, xs_iinc_2_1_a, xs_iinc_2_1_n]) | (refine xr_getf (v2.1.hp 0 _ rfl) (by rfl) ?_) | refine xc_v2_0 (p4) (Nat.le_of_ble_eq_true rfl) ?_ | (refine xr_getf (B4.hp 0 _ rfl) (by rfl) ?_) | (refine xr_getf (b4 0 _ rfl) (by rfl) ?_)))
    (first | exact ⟨Or.inl trivial, rfl⟩ | exact ⟨Or.inl trivial, rfl, rfl⟩ | (simp; done) | exact ⟨by simp, rfl⟩ | exact ⟨by simp, rfl, rfl⟩ | rfl)
end CD
