/-! Shelf -/
def x_srefs (q : Nat) : List Value := [.ref (q + 2), .ref (q + 2 + 13), .ref (q + 2 + 26), .ref (q + 2 + 39), .ref (q + 2 + 52), .ref (q + 2 + 65)]
def x_sh (q : Nat) (nx ct : Int32) : List xE := [.inr (4, [.ref (q + 1), .int nx, .int ct]), .inl (.object (x_nm 5), x_srefs q)]
theorem x_srefs_at {q k : Nat} (hk : k < 6) : (x_srefs q)[k]? = some (.ref (q + 2 + 13 * k)) := by
  rcases (show k = 0 ∨ k = 1 ∨ k = 2 ∨ k = 3 ∨ k = 4 ∨ k = 5 by omega) with rfl | rfl | rfl | rfl | rfl | rfl <;> rfl
theorem xr_aaload {nm : Nat → String} {tf : Nat → Nat → FieldType} {fn : Nat → Nat} {Pg : List xM} {X : xR} {j : Nat} {rt : Option FieldType} {r : Option Value} {h' : xH} {is : List xI} {n a b pc : Nat} {ls : xL} {st : List Value} {h : xH} {o : Nat} {i : Int32} {t : FieldType} {vs : List Value} {v : Value} (ho : h[o]? = some (.inl (t, vs))) (ht : t.isReference = true) (hi : ¬ i < 0) (hv : vs[i.toNatClampNeg]? = some v) (k : x_ev nm tf fn Pg X j rt r h' is (pc + n) ls (v :: st) h) : x_ev nm tf fn Pg X j rt r h' ((.aaload, n, a, b) :: is) pc ls (.int i :: .ref o :: st) h := by
  rw [x_ev_op rfl]
  have e : x_op nm tf fn (.aaload, n, a, b) ls (.int i :: .ref o :: st) h = some (ls, v :: st, h) := by
    show x_aald ls (.int i :: .ref o :: st) h = _
    simp only [x_aald, ho]
    rw [if_pos ⟨ht, hi⟩, hv]
  rw [e]
  exact k
section SH
variable {q p k c : Nat} {h : xH} {s o : kS}
theorem c_scopyS {a b : Nat} (ha : x_hb h a (x_ts a o)) (hb : x_hb h b (x_ts b s)) (h2 : 2 ≤ a) (hd : b + 13 ≤ a ∨ a + 13 ≤ b) (h3 : svl o) (h4 : svl s) : xK 21 [.ref a, .ref b] h none (x_wr h a (x_ts a s)) := by
  obtain ⟨⟨a1, a2, a3, a4, a5⟩, a6, a7, a8, a9, a10⟩ := h3
  obtain ⟨⟨b1, b2, b3, b4, b5⟩, b6, b7, b8, b9, b10⟩ := h4
  exact c_tcopy ha hb h2 hd (by rw [a1, b1]) (by rw [a2, b2]) (by rw [a3, b3]) (by rw [a4, b4]) (by rw [a5, b5]) (by rw [a1]; decide) (by rw [a2]; decide) (by rw [a3]; decide) (by rw [a4]; decide) (by rw [a5]; decide) (by rw [a6, b6]) (by rw [a7, b7]) (by rw [a8, b8]) (by rw [a9, b9]) (by rw [a10, b10]) (by rw [a6]; decide) (by rw [a7]; decide) (by rw [a8]; decide) (by rw [a9]; decide) (by rw [a10]; decide)
theorem c_push (hs : x_hb h q (x_sh q (nI k) (nI c))) (hk : k < 6) (hc : c ≤ 6) (ho : x_hb h (q + 2 + 13 * k) (x_ts (q + 2 + 13 * k) o)) (hp : x_hb h p (x_ts p s)) (hd : p + 13 ≤ q ∨ q + 80 ≤ p) (h2 : 2 ≤ q) (h3 : svl o) (h4 : svl s) : xK 22 [.ref q, .ref p] h none (x_wr (x_wr h (q + 2 + 13 * k) (x_ts (q + 2 + 13 * k) s)) q (x_sh q (nI ((k + 1) % 6)) (nI (min (c + 1) 6)))) := by
  have c1 := c_scopyS ho hp (by omega) (by omega) h3 h4
  have lo : (q + 2 + 13 * k) + (x_ts (q + 2 + 13 * k) s).length ≤ h.length := ho.fit (Nat.zero_lt_succ _)
  have hs1 : x_hb (x_wr h (q + 2 + 13 * k) (x_ts (q + 2 + 13 * k) s)) q (x_sh q (nI k) (nI c)) := hs.off lo (Or.inl (by show q + 2 ≤ _; omega))
  have A := xA.of hs1 (Nat.zero_lt_succ _)
  have hi : ¬ nI k < 0 := nI_pos (by omega)
  have hv : (x_srefs q)[(nI k).toNatClampNeg]? = some (.ref (q + 2 + 13 * k)) := by rw [nI_clamp (by omega)]; exact x_srefs_at hk
  have n6 : ¬ (6 : Int32) = 0 := by decide
  have e6 : nI (k + 1) - nI (k + 1) / 6 * 6 = nI ((k + 1) % 6) := pk_rem (d := 6) (by omega) (by omega) (by omega)
  have em : (if (6 : Int32) < nI (c + 1) then 6 else nI (c + 1)) = nI (min (c + 1) 6) := by
    show (if nI 6 < nI (c + 1) then nI 6 else nI (c + 1)) = nI (min (c + 1) 6)
    by_cases hc6 : c + 1 ≤ 6
    · rw [if_neg (nI_nlt hc6 (by omega)), Nat.min_eq_left hc6]
    · rw [if_pos (nI_lt (by omega) (by omega)), Nat.min_eq_right (by omega)]
  refine xK_X5_push (hs 0 _ rfl) (xe_X5_push_0 ?_)
  (repeat (first | (simp only [xb_X5_push_0, xs_nil, Nat.reduceAdd, true_implies, not_true_eq_false, not_false_eq_true, false_implies, and_true, true_and, x_10, xs_aload_n_0, xs_aload_n_1, xs_iconst_1, xs_iadd, xs_bipush_6, xs_irem, xs_return]) | (refine xr_getf (hs 0 _ rfl) (by rfl) ?_) | (refine xr_aaload (hs 1 _ rfl) (by rfl) hi hv ?_)))
  refine xc_v2_0 c1 (Nat.le_of_ble_eq_true rfl) ?_
  generalize x_wr h (q + 2 + 13 * k) (x_ts (q + 2 + 13 * k) s) = h1 at hs1 A ⊢
  (repeat (first | (simp only [xb_X5_push_0, xs_nil, Nat.reduceAdd, true_implies, not_true_eq_false, not_false_eq_true, false_implies, and_true, true_and, x_10, xs_aload_n_0, xs_aload_n_1, xs_iconst_1, xs_iadd, xs_bipush_6, xs_irem, xs_return]) | (refine xr_getf (hs1 0 _ rfl) (by rfl) ?_)))
  rw [nI_1]
  refine ⟨n6, ?_⟩
  rw [e6]
  refine xa_putf A 0 (by rfl) h2 (by exact Nat.le_of_ble_eq_true rfl) (x_fit_int _) (fun h1 A => ?_)
  have hs1 := A.hb
  (repeat (first | (simp only [xb_X5_push_0, xs_nil, Nat.reduceAdd, true_implies, not_true_eq_false, not_false_eq_true, false_implies, and_true, true_and, x_10, xs_aload_n_0, xs_aload_n_1, xs_iconst_1, xs_iadd, xs_bipush_6, xs_irem, xs_return]) | (refine xr_getf (hs1 0 _ rfl) (by rfl) ?_) | (rw [xs_math_1003 (Nat.le_of_ble_eq_true rfl)])))
  rw [nI_1, em]
  refine xa_putf A 0 (by rfl) h2 (by exact Nat.le_of_ble_eq_true rfl) (x_fit_int _) (fun h1 A => ?_)
  (repeat (first | (simp only [xb_X5_push_0, xs_nil, Nat.reduceAdd, true_implies, not_true_eq_false, not_false_eq_true, false_implies, and_true, true_and, x_10, xs_aload_n_0, xs_aload_n_1, xs_iconst_1, xs_iadd, xs_bipush_6, xs_irem, xs_return]) ))
  exact A.e
theorem c_pop (hs : x_hb h q (x_sh q (nI k) (nI c))) (hk : k < 6) (h0 : 0 < c) (hc : c ≤ 6) (ho : x_hb h (q + 2 + 13 * ((k + 5) % 6)) (x_ts (q + 2 + 13 * ((k + 5) % 6)) o)) (hp : x_hb h p (x_ts p s)) (hd : p + 13 ≤ q ∨ q + 80 ≤ p) (h2 : 2 ≤ q) (h2p : 2 ≤ p) (h3 : svl o) (h4 : svl s) : xK 166 [.ref q, .ref p] h none (x_wr (x_wr h q (x_sh q (nI ((k + 5) % 6)) (nI (c - 1)))) p (x_ts p o)) := by
  have hm := Nat.mod_lt (k + 5) (show 0 < 6 by decide)
  have A := xA.of hs (Nat.zero_lt_succ _)
  have hi : ¬ nI ((k + 5) % 6) < 0 := nI_pos (by omega)
  have hv : (x_srefs q)[(nI ((k + 5) % 6)).toNatClampNeg]? = some (.ref (q + 2 + 13 * ((k + 5) % 6))) := by rw [nI_clamp (by omega)]; exact x_srefs_at hm
  have n6 : ¬ (6 : Int32) = 0 := by decide
  have e5 : nI k + 6 - 1 = nI (k + 5) := by rw [show (6 : Int32) = nI 6 from rfl, nI_add, show k + 6 = (k + 5) + 1 by omega, nI_pred]
  have e6 : nI (k + 5) - nI (k + 5) / 6 * 6 = nI ((k + 5) % 6) := pk_rem (d := 6) (by omega) (by omega) (by omega)
  have e7 : nI c - 1 = nI (c - 1) := by rw [show c = (c - 1) + 1 by omega]; exact nI_pred _
  refine xK_X5_pop (hs 0 _ rfl) (xe_X5_pop_0 ?_)
  (repeat (first | (simp only [xb_X5_pop_0, xb_X5_pop_46, xs_nil, Nat.reduceAdd, true_implies, not_true_eq_false, not_false_eq_true, false_implies, and_true, true_and, x_10, xs_aload_n_0, xs_if_le, xs_bipush_6, xs_iadd, xs_iconst_1, xs_isub, xs_irem, xs_dup_i, xs_dup_a, xs_aload_n_1, xs_return]) | (refine xr_getf (hs 0 _ rfl) (by rfl) ?_)))
  refine ⟨fun z => absurd z (nI_ge (a := 0) (b := c) (by omega) (by omega)), fun _ => ?_⟩
  (repeat (first | (simp only [xb_X5_pop_0, xb_X5_pop_46, xs_nil, Nat.reduceAdd, true_implies, not_true_eq_false, not_false_eq_true, false_implies, and_true, true_and, x_10, xs_aload_n_0, xs_if_le, xs_bipush_6, xs_iadd, xs_iconst_1, xs_isub, xs_irem, xs_dup_i, xs_dup_a, xs_aload_n_1, xs_return]) | (refine xr_getf (hs 0 _ rfl) (by rfl) ?_)))
  rw [e5]
  refine ⟨n6, ?_⟩
  rw [e6]
  refine xa_putf A 0 (by rfl) h2 (by exact Nat.le_of_ble_eq_true rfl) (x_fit_int _) (fun h1 A => ?_)
  have hs1 := A.hb
  (repeat (first | (simp only [xb_X5_pop_0, xb_X5_pop_46, xs_nil, Nat.reduceAdd, true_implies, not_true_eq_false, not_false_eq_true, false_implies, and_true, true_and, x_10, xs_aload_n_0, xs_if_le, xs_bipush_6, xs_iadd, xs_iconst_1, xs_isub, xs_irem, xs_dup_i, xs_dup_a, xs_aload_n_1, xs_return]) | (refine xr_getf (hs1 0 _ rfl) (by rfl) ?_)))
  rw [e7]
  refine xa_putf A 0 (by rfl) h2 (by exact Nat.le_of_ble_eq_true rfl) (x_fit_int _) (fun h1 A => ?_)
  have A : xA h q (x_sh q (nI ((k + 5) % 6)) (nI (c - 1))) h1 := A
  have hs1 := A.hb
  have ho1 := A.off ho (Or.inr (by show q + 2 ≤ _; omega))
  have hp1 := A.off hp (by rw [x_ts_len]; show _ ∨ q + 2 ≤ _; omega)
  have c1 := c_scopyS hp1 ho1 h2p (by omega) h4 h3
  (repeat (first | (simp only [xb_X5_pop_0, xb_X5_pop_46, xs_nil, Nat.reduceAdd, true_implies, not_true_eq_false, not_false_eq_true, false_implies, and_true, true_and, x_10, xs_aload_n_0, xs_if_le, xs_bipush_6, xs_iadd, xs_iconst_1, xs_isub, xs_irem, xs_dup_i, xs_dup_a, xs_aload_n_1, xs_return]) | (refine xr_getf (hs1 0 _ rfl) (by rfl) ?_) | (refine xr_aaload (hs1 1 _ rfl) (by rfl) hi hv ?_)))
  refine xc_v2_0 c1 (Nat.le_of_ble_eq_true rfl) ?_
  (repeat (first | (simp only [xb_X5_pop_0, xb_X5_pop_46, xs_nil, Nat.reduceAdd, true_implies, not_true_eq_false, not_false_eq_true, false_implies, and_true, true_and, x_10, xs_aload_n_0, xs_if_le, xs_bipush_6, xs_iadd, xs_iconst_1, xs_isub, xs_irem, xs_dup_i, xs_dup_a, xs_aload_n_1, xs_return]) ))
  refine xe_X5_pop_46 ?_
  (repeat (first | (simp only [xb_X5_pop_0, xb_X5_pop_46, xs_nil, Nat.reduceAdd, true_implies, not_true_eq_false, not_false_eq_true, false_implies, and_true, true_and, x_10, xs_aload_n_0, xs_if_le, xs_bipush_6, xs_iadd, xs_iconst_1, xs_isub, xs_irem, xs_dup_i, xs_dup_a, xs_aload_n_1, xs_return]) ))
  rw [A.e]
end SH
