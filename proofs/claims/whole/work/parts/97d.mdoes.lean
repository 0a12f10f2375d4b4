/-! the reference: does -/
section MD
variable {asd pa rf tx le fr nu : List Int32} {sts byt : Int32} {O : oT} {s' : kS} {k' : kC} {b : Bool} {q : Nat}
theorem l_does8 (hO : wO O) (hK : O.1.length ≤ 40) (hrep : repM le fr O) (hag : agr nu O.2.2) {h0 : xH} : ∀ (d i : Nat) (s : kS) (k : kC) (nw : List Int32) (h : xH), mX h nw asd pa sts rf tx byt le fr nu (nI O.1.length) → mF h0 h → Rl s nw → kcok k → ch0 k.2.1 → i + d = O.1.length → oA O d i s k q b s' k' → ∃ nw' h1, mX h1 nw' asd pa sts rf tx byt le fr nu (nI O.1.length) ∧ mF h0 h1 ∧ Rl s' nw' ∧ kcok k' ∧ ch0 k'.2.1 ∧ ∀ (r : Option Value) (h' : xH), (b = true → x_EV 165 76 [some (.ref 122), some (.int (nI O.1.length))] [] h1 r h') → (b = false → xK 164 [.ref 122] h1 none h' ∧ r = some (.int (-1000 - nI q))) → x_EV 165 44 [some (.ref 122), some (.int (nI i))] [] h r h' := by
  intro d
  induction d with
  | zero =>
    intro i s k nw h M F hR hk h0c hi S
    obtain ⟨rfl, rfl, rfl⟩ := S
    refine ⟨nw, h, M, F, hR, hk, h0c, fun r h' H1 _ => ?_⟩
    have e : i = O.1.length := by omega
    obtain ⟨hs, rd, so, ah, ar, tr, bg, fo, bc, br, bk, sp, wr, ha, hz, hb⟩ := M
    refine xe_X8_does_44 ?_
    (repeat (first | (simp only [xb_X8_does_0, xb_X8_does_15, xb_X8_does_17, xb_X8_does_42, xb_X8_does_44, xb_X8_does_70, xb_X8_does_76, xs_nil, Nat.reduceAdd, true_implies, not_true_eq_false, not_false_eq_true, false_implies, and_true, true_and, x_10, xs_aload_n_0, xs_if_ne, xs_bipush_m10, xs_isub, xs_ireturn, xs_iconst_0, xs_istore_n_1_i, xs_istore_n_1_a, xs_istore_n_1_n, xs_istore_n_1_l, xs_iload_n_1, xs_sipush_149, xs_icmp_ge, xs_iinc_1_1_i, xs_iinc_1_1_a, xs_iinc_1_1_n, xs_goto, xs_sipush_m1000]) | (refine xr_getf (hb 0 _ rfl) (by rfl) ?_)))
    refine ⟨fun _ => ?_, fun z => absurd (nI_le (by omega) (by omega)) z⟩
    rw [e]
    exact H1 rfl
  | succ d ih =>
    intro i s k nw h M F hR hk h0c hi S
    obtain ⟨b1, s1, k1, S1, S2⟩ := S
    obtain ⟨o1, o2, o3, o4, o5⟩ := hO.2.2 i (by omega)
    obtain ⟨g1, g2, g3, g4, g5, g6⟩ := hrep
    have g7 : fr.getD (i + 1) 0 = nI (O.2.1.getD i 0 + (O.2.1.getD (i + 1) 0 - O.2.1.getD i 0)) := by
      rw [g6 (i + 1) (by omega), Nat.add_sub_cancel' o2]
    have g8 : O.2.1.getD i 0 + (O.2.1.getD (i + 1) 0 - O.2.1.getD i 0) ≤ O.2.2.length := by omega
    have hi40 : i < 40 := by omega
    have g9 := g5 i (by omega)
    have g10 := g6 i (by omega)
    obtain ⟨nw1, h1, p1, M1, F1, R1, K1, C1⟩ := mX_obeys (i := i) (c := O.1.getD i 0) (F := O.2.2) (f := O.2.1.getD i 0) (n := O.2.1.getD (i + 1) 0 - O.2.1.getD i 0) M hR hk h0c hi40 g1 g2 g9 g10 g7 hag g8 o4 o1 (fun z => (o5 z).1) S1
    rcases S2 with ⟨e1, S2⟩ | ⟨e1, rfl, rfl, rfl, rfl⟩
    · obtain ⟨nw2, h2, M2, F2, R2, K2, C2, w⟩ := ih (i + 1) s1 k1 nw1 h1 M1 (F.trans F1) R1 K1 C1 (by omega) S2
      refine ⟨nw2, h2, M2, F2, R2, K2, C2, fun r h' H1 H0 => ?_⟩
      obtain ⟨hs, rd, so, ah, ar, tr, bg, fo, bc, br, bk, sp, wr, ha, hz, hb⟩ := M
      rw [if_pos e1] at p1
      refine xe_X8_does_44 ?_
      (repeat (first | (simp only [xb_X8_does_0, xb_X8_does_15, xb_X8_does_17, xb_X8_does_42, xb_X8_does_44, xb_X8_does_70, xb_X8_does_76, xs_nil, Nat.reduceAdd, true_implies, not_true_eq_false, not_false_eq_true, false_implies, and_true, true_and, x_10, xs_aload_n_0, xs_if_ne, xs_bipush_m10, xs_isub, xs_ireturn, xs_iconst_0, xs_istore_n_1_i, xs_istore_n_1_a, xs_istore_n_1_n, xs_istore_n_1_l, xs_iload_n_1, xs_sipush_149, xs_icmp_ge, xs_iinc_1_1_i, xs_iinc_1_1_a, xs_iinc_1_1_n, xs_goto, xs_sipush_m1000]) | (refine xr_getf (hb 0 _ rfl) (by rfl) ?_)))
      refine ⟨fun z => absurd z (nI_ge (by omega) (by omega)), fun _ => ?_⟩
      (repeat (first | (simp only [xb_X8_does_0, xb_X8_does_15, xb_X8_does_17, xb_X8_does_42, xb_X8_does_44, xb_X8_does_70, xb_X8_does_76, xs_nil, Nat.reduceAdd, true_implies, not_true_eq_false, not_false_eq_true, false_implies, and_true, true_and, x_10, xs_aload_n_0, xs_if_ne, xs_bipush_m10, xs_isub, xs_ireturn, xs_iconst_0, xs_istore_n_1_i, xs_istore_n_1_a, xs_istore_n_1_n, xs_istore_n_1_l, xs_iload_n_1, xs_sipush_149, xs_icmp_ge, xs_iinc_1_1_i, xs_iinc_1_1_a, xs_iinc_1_1_n, xs_goto, xs_sipush_m1000]) | refine xc_v2_1 (p1) (Nat.le_of_ble_eq_true rfl) ?_))
      refine xe_X8_does_70 ?_
      (repeat (first | (simp only [xb_X8_does_0, xb_X8_does_15, xb_X8_does_17, xb_X8_does_42, xb_X8_does_44, xb_X8_does_70, xb_X8_does_76, xs_nil, Nat.reduceAdd, true_implies, not_true_eq_false, not_false_eq_true, false_implies, and_true, true_and, x_10, xs_aload_n_0, xs_if_ne, xs_bipush_m10, xs_isub, xs_ireturn, xs_iconst_0, xs_istore_n_1_i, xs_istore_n_1_a, xs_istore_n_1_n, xs_istore_n_1_l, xs_iload_n_1, xs_sipush_149, xs_icmp_ge, xs_iinc_1_1_i, xs_iinc_1_1_a, xs_iinc_1_1_n, xs_goto, xs_sipush_m1000]) ))
      rw [nI_1]
      exact w r h' H1 H0
    · refine ⟨nw1, h1, M1, F.trans F1, R1, K1, C1, fun r h' _ H0 => ?_⟩
      obtain ⟨hs, rd, so, ah, ar, tr, bg, fo, bc, br, bk, sp, wr, ha, hz, hb⟩ := M
      rw [if_neg (by rw [e1]; decide)] at p1
      obtain ⟨p2, e2⟩ := H0 rfl
      subst e2
      refine xe_X8_does_44 ?_
      (repeat (first | (simp only [xb_X8_does_0, xb_X8_does_15, xb_X8_does_17, xb_X8_does_42, xb_X8_does_44, xb_X8_does_70, xb_X8_does_76, xs_nil, Nat.reduceAdd, true_implies, not_true_eq_false, not_false_eq_true, false_implies, and_true, true_and, x_10, xs_aload_n_0, xs_if_ne, xs_bipush_m10, xs_isub, xs_ireturn, xs_iconst_0, xs_istore_n_1_i, xs_istore_n_1_a, xs_istore_n_1_n, xs_istore_n_1_l, xs_iload_n_1, xs_sipush_149, xs_icmp_ge, xs_iinc_1_1_i, xs_iinc_1_1_a, xs_iinc_1_1_n, xs_goto, xs_sipush_m1000]) | (refine xr_getf (hb 0 _ rfl) (by rfl) ?_)))
      refine ⟨fun z => absurd z (nI_ge (by omega) (by omega)), fun _ => ?_⟩
      (repeat (first | (simp only [xb_X8_does_0, xb_X8_does_15, xb_X8_does_17, xb_X8_does_42, xb_X8_does_44, xb_X8_does_70, xb_X8_does_76, xs_nil, Nat.reduceAdd, true_implies, not_true_eq_false, not_false_eq_true, false_implies, and_true, true_and, x_10, xs_aload_n_0, xs_if_ne, xs_bipush_m10, xs_isub, xs_ireturn, xs_iconst_0, xs_istore_n_1_i, xs_istore_n_1_a, xs_istore_n_1_n, xs_istore_n_1_l, xs_iload_n_1, xs_sipush_149, xs_icmp_ge, xs_iinc_1_1_i, xs_iinc_1_1_a, xs_iinc_1_1_n, xs_goto, xs_sipush_m1000]) | refine xc_v2_1 (p1) (Nat.le_of_ble_eq_true rfl) ?_ | refine xc_v1_0 (p2) (Nat.le_of_ble_eq_true rfl) ?_))
      (first | exact ⟨Or.inl trivial, rfl⟩ | exact ⟨Or.inl trivial, rfl, rfl⟩ | (simp; done) | exact ⟨by simp, rfl⟩ | exact ⟨by simp, rfl, rfl⟩ | rfl)
end MD
