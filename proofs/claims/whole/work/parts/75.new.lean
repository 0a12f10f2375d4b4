/-! cells made: the heap's tail -/
def xN (h0 cs h : List xE) : Prop := h = h0 ++ cs
theorem xN.hb {h0 cs h : List xE} (N : xN h0 cs h) : x_hb h h0.length cs := by
  intro k e hk
  rw [N, List.getElem?_append_right (by omega), show h0.length + k - h0.length = k by omega]
  exact hk
theorem xN.set {h0 cs h : List xE} (N : xN h0 cs h) (k : Nat) (e : xE) : xN h0 (cs.set k e) (h.set (h0.length + k) e) := by
  unfold xN at *
  rw [N, List.set_append_right _ _ (by omega), show h0.length + k - h0.length = k by omega]
theorem xN.app {h0 cs h : List xE} (N : xN h0 cs h) (e : List xE) : xN h0 (cs ++ e) (h ++ e) := by
  unfold xN at *
  rw [N, List.append_assoc]
theorem xN.len {h0 cs h : List xE} (N : xN h0 cs h) {q : Nat} (hq : cs.length = q) : h.length = h0.length + q := by
  rw [N, List.length_append, hq]
def xdef (tf : Nat → Nat → FieldType) (fn : Nat → Nat) (a : Nat) : List Value := (List.range (fn a)).map (fun k => defaultValue (tf a k))
section XNR
variable {nm : Nat → String} {tf : Nat → Nat → FieldType} {fn : Nat → Nat} {Pg : List xM} {X : xR} {j : Nat} {rt : Option FieldType} {r : Option Value} {h' : xH} {is : List xI} {n a b pc : Nat} {ls : xL} {st : List Value} {h h0 cs : xH}
theorem xn_newi {m : Int32} (N : xN h0 cs h) (q c : Nat) (hm : m = nI q) (hq : q ≤ 10000) (hc : cs.length = c) (kk : ∀ h1, xN h0 (cs ++ [xi (List.replicate q 0)]) h1 → x_ev nm tf fn Pg X j rt r h' is (pc + n) ls (.ref (h0.length + c) :: st) h1) : x_ev nm tf fn Pg X j rt r h' ((.newarray .int, n, a, b) :: is) pc ls (.int m :: st) h := by
  rw [x_ev_op rfl]
  have e : x_op nm tf fn (.newarray .int, n, a, b) ls (.int m :: st) h = some (ls, .ref (h0.length + c) :: st, h ++ [xi (List.replicate q 0)]) := by
    show x_newa .int ls (.int m :: st) h = _
    unfold x_newa
    dsimp only
    rw [hm, nI_clamp (by omega), if_pos ⟨nI_pos (by omega), hq⟩, N.len hc]
    unfold xi
    rw [List.map_replicate]
    rfl
  rw [e]
  exact kk _ (N.app _)
theorem xn_newl {m : Int32} (N : xN h0 cs h) (q c : Nat) (hm : m = nI q) (hq : q ≤ 10000) (hc : cs.length = c) (kk : ∀ h1, xN h0 (cs ++ [xl (List.replicate q 0)]) h1 → x_ev nm tf fn Pg X j rt r h' is (pc + n) ls (.ref (h0.length + c) :: st) h1) : x_ev nm tf fn Pg X j rt r h' ((.newarray .long, n, a, b) :: is) pc ls (.int m :: st) h := by
  rw [x_ev_op rfl]
  have e : x_op nm tf fn (.newarray .long, n, a, b) ls (.int m :: st) h = some (ls, .ref (h0.length + c) :: st, h ++ [xl (List.replicate q 0)]) := by
    show x_newa .long ls (.int m :: st) h = _
    unfold x_newa
    dsimp only
    rw [hm, nI_clamp (by omega), if_pos ⟨nI_pos (by omega), hq⟩, N.len hc]
    unfold xl
    rw [List.map_replicate]
    rfl
  rw [e]
  exact kk _ (N.app _)
theorem xn_anew {i : Nat} {m : Int32} (N : xN h0 cs h) (q c : Nat) (hm : m = nI q) (hq : q ≤ 10000) (hc : cs.length = c) (kk : ∀ h1, xN h0 (cs ++ [.inl (.object (nm a), List.replicate q .null)]) h1 → x_ev nm tf fn Pg X j rt r h' is (pc + n) ls (.ref (h0.length + c) :: st) h1) : x_ev nm tf fn Pg X j rt r h' ((.anewarray i, n, a, b) :: is) pc ls (.int m :: st) h := by
  rw [x_ev_op rfl]
  have e : x_op nm tf fn (.anewarray i, n, a, b) ls (.int m :: st) h = some (ls, .ref (h0.length + c) :: st, h ++ [.inl (.object (nm a), List.replicate q .null)]) := by
    show x_newa (.object (nm a)) ls (.int m :: st) h = _
    unfold x_newa
    dsimp only
    rw [hm, nI_clamp (by omega), if_pos ⟨nI_pos (by omega), hq⟩, N.len hc]
    rfl
  rw [e]
  exact kk _ (N.app _)
theorem xn_new {i : Nat} (N : xN h0 cs h) (c : Nat) (hc : cs.length = c) (kk : ∀ h1, xN h0 (cs ++ [.inr (a, xdef tf fn a)]) h1 → x_ev nm tf fn Pg X j rt r h' is (pc + n) ls (.ref (h0.length + c) :: st) h1) : x_ev nm tf fn Pg X j rt r h' ((.new i, n, a, b) :: is) pc ls st h := by
  rw [x_ev_op rfl]
  have e : x_op nm tf fn (.new i, n, a, b) ls st h = some (ls, .ref (h0.length + c) :: st, h ++ [.inr (a, xdef tf fn a)]) := by
    show some (ls, .ref h.length :: st, h ++ _) = _
    rw [N.len hc]
    rfl
  rw [e]
  exact kk _ (N.app _)
theorem xn_dup {o : Nat} : x_ev nm tf fn Pg X j rt r h' ((.dup, n, a, b) :: is) pc ls (.ref o :: st) h = x_ev nm tf fn Pg X j rt r h' is (pc + n) ls (.ref o :: .ref o :: st) h := by
  rw [x_ev_op rfl]
  rfl
theorem xn_putf {i k : Nat} {fs : List Value} {v : Value} (N : xN h0 cs h) (h2 : 2 ≤ h0.length) (hk : cs[k]? = some (.inr (a, fs))) (hb : b < fs.length) (hf : x_fit (tf a b) v = true) (kk : ∀ h1, xN h0 (cs.set k (.inr (a, fs.set b v))) h1 → x_ev nm tf fn Pg X j rt r h' is (pc + n) ls st h1) : x_ev nm tf fn Pg X j rt r h' ((.putfield i, n, a, b) :: is) pc ls (v :: .ref (h0.length + k) :: st) h :=
  xr_putf (N.hb k _ hk) (by omega) hb hf (kk _ (N.set k _))
theorem xn_iastore {k : Nat} {i x : Int32} {l : List Int32} (N : xN h0 cs h) (h2 : 2 ≤ h0.length) (hk : cs[k]? = some (xi l)) (hi : xin i l.length) (kk : ∀ h1, xN h0 (cs.set k (xi (xu l i x))) h1 → x_ev nm tf fn Pg X j rt r h' is (pc + n) ls st h1) : x_ev nm tf fn Pg X j rt r h' ((.iastore, n, a, b) :: is) pc ls (.int x :: .int i :: .ref (h0.length + k) :: st) h :=
  xr_iastore (N.hb k _ hk) (by omega) hi (kk _ (N.set k _))
theorem xn_aastore {k y ci : Nat} {i : Int32} {q : Nat} {vs fs : List Value} (N : xN h0 cs h) (h2 : 2 ≤ h0.length) (hk : cs[k]? = some (.inl (.object (nm ci), vs))) (hy : h[y]? = some (.inr (ci, fs))) (hi : i = nI q) (hq : q < vs.length) (hv : vs.length < 2 ^ 31) (kk : ∀ h1, xN h0 (cs.set k (.inl (.object (nm ci), vs.set q (.ref y)))) h1 → x_ev nm tf fn Pg X j rt r h' is (pc + n) ls st h1) : x_ev nm tf fn Pg X j rt r h' ((.aastore, n, a, b) :: is) pc ls (.ref y :: .int i :: .ref (h0.length + k) :: st) h := by
  rw [x_ev_op rfl]
  have e : x_op nm tf fn (.aastore, n, a, b) ls (.ref y :: .int i :: .ref (h0.length + k) :: st) h = some (ls, st, h.set (h0.length + k) (.inl (.object (nm ci), vs.set q (.ref y)))) := by
    show x_aast nm ls (.ref y :: .int i :: .ref (h0.length + k) :: st) h = _
    unfold x_aast
    dsimp only
    rw [N.hb k _ hk, hy]
    dsimp only
    rw [hi, nI_clamp (by omega), if_pos ⟨Nat.le_trans h2 (Nat.le_add_right _ _), rfl, nI_pos (by omega), hq⟩]
  rw [e]
  exact kk _ (N.set k _)
end XNR
/-- a constructor called on the cell just made -/
theorem xN_call {m q : Nat} {o : xE} {F : Nat → List xE} {h0 cs h : xH} (N : xN h0 (cs ++ [o]) h) (hq : cs.length = q) (h2 : 2 ≤ h0.length) (C : ∀ h0 : xH, 2 ≤ h0.length → xK m [.ref h0.length] (h0 ++ [o]) none (h0 ++ F h0.length)) : xK m [.ref (h0.length + q)] h none (h0 ++ (cs ++ F (h0.length + q))) := by
  have := C (h0 ++ cs) (by rw [List.length_append]; omega)
  rw [List.length_append, hq, List.append_assoc, List.append_assoc] at this
  rw [N]
  exact this
/-! Grammar, Sentence, State -/
def fillm (l : List Int32) (a : Nat) : Nat → List Int32
  | 0 => l
  | k + 1 => (fillm l a k).set (a + k) (-1)
theorem fillm_len {l : List Int32} {a : Nat} : ∀ k, (fillm l a k).length = l.length
  | 0 => rfl
  | k + 1 => by
    show (List.set _ _ _).length = _
    rw [List.length_set, fillm_len k]
def gP0 : List Int32 := fillm (List.replicate 72 0) 0 72
def gR0 : List Int32 := fillm (List.replicate 6 0) 1 5
def gT0 : List Int32 := [1, 2, 6]
def r70 : List Int32 := (List.replicate 7 0).set 0 (-1)
/-- a new State -/
def s0 : kS := (gP0, gR0, List.replicate 24 0, List.replicate 12 0, gT0, 0, List.replicate 7 0, r70, r70, List.replicate 7 0, List.replicate 7 0, 0)
section INI
variable {h0 h h' : xH} {r : Option Value}
theorem l_ginit1 (h2 : 2 ≤ h0.length) {R S X T : List Int32} {fin : ∀ h (a : Option Value), xN h0 (x_gc h0.length gP0 R S X T 0) h → x_EV 0 85 [some (.ref h0.length), a] [] h r h'} : ∀ (d q : Nat) (h : xH), xN h0 (x_gc h0.length (fillm (List.replicate 72 0) 0 q) R S X T 0) h → q + d = 72 → x_EV 0 63 [some (.ref h0.length), some (.int (nI q))] [] h r h' := by
  intro d
  induction d with
  | zero =>
    intro q h N hq
    have eq : q = 72 := by omega
    subst eq
    have hb := N.hb
    refine xe_X1_init_63 ?_
    (repeat (first | (simp only [xb_X1_init_0, xb_X1_init_63, xb_X1_init_85, xb_X1_init_87, xb_X1_init_106, xs_nil, Nat.reduceAdd, true_implies, not_true_eq_false, not_false_eq_true, false_implies, and_true, true_and, x_10, xs_aload_n_0, xs_bipush_72, xs_bipush_6, xs_bipush_24, xs_bipush_12, xs_iconst_3, xs_dup_i, xs_dup_a, xs_iconst_0, xs_iconst_1, xs_iconst_2, xs_istore_n_1_i, xs_istore_n_1_a, xs_istore_n_1_n, xs_istore_n_1_l, xs_iload_n_1, xs_icmp_ge, xs_iconst_m1, xs_iinc_1_1_i, xs_iinc_1_1_a, xs_iinc_1_1_n, xs_goto, xs_return]) | (refine xr_getf (hb 0 _ rfl) (by rfl) ?_) | (refine xr_alen (hb 1 _ rfl) ?_)))
    rw [fillm_len, List.length_replicate]
    exact ⟨fun _ => fin h _ N, fun z => absurd (nI_le (a := 72) (b := 72) (by decide) (by decide)) z⟩
  | succ d ih =>
    intro q h N hq
    have ihT := ih (q + 1)
    have hb := N.hb
    refine xe_X1_init_63 ?_
    (repeat (first | (simp only [xb_X1_init_0, xb_X1_init_63, xb_X1_init_85, xb_X1_init_87, xb_X1_init_106, xs_nil, Nat.reduceAdd, true_implies, not_true_eq_false, not_false_eq_true, false_implies, and_true, true_and, x_10, xs_aload_n_0, xs_bipush_72, xs_bipush_6, xs_bipush_24, xs_bipush_12, xs_iconst_3, xs_dup_i, xs_dup_a, xs_iconst_0, xs_iconst_1, xs_iconst_2, xs_istore_n_1_i, xs_istore_n_1_a, xs_istore_n_1_n, xs_istore_n_1_l, xs_iload_n_1, xs_icmp_ge, xs_iconst_m1, xs_iinc_1_1_i, xs_iinc_1_1_a, xs_iinc_1_1_n, xs_goto, xs_return]) | (refine xr_getf (hb 0 _ rfl) (by rfl) ?_) | (refine xr_alen (hb 1 _ rfl) ?_)))
    rw [fillm_len, List.length_replicate]
    refine ⟨fun z => absurd z (nI_ge (b := 72) (by omega) (by decide)), fun _ => ?_⟩
    (repeat (first | (simp only [xb_X1_init_0, xb_X1_init_63, xb_X1_init_85, xb_X1_init_87, xb_X1_init_106, xs_nil, Nat.reduceAdd, true_implies, not_true_eq_false, not_false_eq_true, false_implies, and_true, true_and, x_10, xs_aload_n_0, xs_bipush_72, xs_bipush_6, xs_bipush_24, xs_bipush_12, xs_iconst_3, xs_dup_i, xs_dup_a, xs_iconst_0, xs_iconst_1, xs_iconst_2, xs_istore_n_1_i, xs_istore_n_1_a, xs_istore_n_1_n, xs_istore_n_1_l, xs_iload_n_1, xs_icmp_ge, xs_iconst_m1, xs_iinc_1_1_i, xs_iinc_1_1_a, xs_iinc_1_1_n, xs_goto, xs_return]) | (refine xr_getf (hb 0 _ rfl) (by rfl) ?_)))
    refine xn_iastore N h2 (k := 1) (by rfl) (x_in (by rw [fillm_len, List.length_replicate]; omega) (by rw [fillm_len, List.length_replicate]; decide)) (fun h1 N1 => ?_)
    rw [xu_n (by omega)] at N1
    (repeat (first | (simp only [xb_X1_init_0, xb_X1_init_63, xb_X1_init_85, xb_X1_init_87, xb_X1_init_106, xs_nil, Nat.reduceAdd, true_implies, not_true_eq_false, not_false_eq_true, false_implies, and_true, true_and, x_10, xs_aload_n_0, xs_bipush_72, xs_bipush_6, xs_bipush_24, xs_bipush_12, xs_iconst_3, xs_dup_i, xs_dup_a, xs_iconst_0, xs_iconst_1, xs_iconst_2, xs_istore_n_1_i, xs_istore_n_1_a, xs_istore_n_1_n, xs_istore_n_1_l, xs_iload_n_1, xs_icmp_ge, xs_iconst_m1, xs_iinc_1_1_i, xs_iinc_1_1_a, xs_iinc_1_1_n, xs_goto, xs_return]) ))
    rw [nI_1]
    refine ihT h1 ?_ (by omega)
    have e : fillm (List.replicate 72 0) 0 (q + 1) = (fillm (List.replicate 72 0) 0 q).set q (-1) := by
      show (fillm (List.replicate 72 0) 0 q).set (0 + q) (-1) = _
      rw [Nat.zero_add]
    rw [e]
    exact N1
theorem l_ginit2 (h2 : 2 ≤ h0.length) {P S X T : List Int32} : ∀ (d q : Nat) (h : xH), xN h0 (x_gc h0.length P (fillm (List.replicate 6 0) 1 q) S X T 0) h → q + d = 5 → x_EV 0 87 [some (.ref h0.length), some (.int (nI (1 + q)))] [] h none (h0 ++ x_gc h0.length P gR0 S X T 0) := by
  intro d
  induction d with
  | zero =>
    intro q h N hq
    have eq : q = 5 := by omega
    subst eq
    refine xe_X1_init_87 ?_
    (repeat (first | (simp only [xb_X1_init_0, xb_X1_init_63, xb_X1_init_85, xb_X1_init_87, xb_X1_init_106, xs_nil, Nat.reduceAdd, true_implies, not_true_eq_false, not_false_eq_true, false_implies, and_true, true_and, x_10, xs_aload_n_0, xs_bipush_72, xs_bipush_6, xs_bipush_24, xs_bipush_12, xs_iconst_3, xs_dup_i, xs_dup_a, xs_iconst_0, xs_iconst_1, xs_iconst_2, xs_istore_n_1_i, xs_istore_n_1_a, xs_istore_n_1_n, xs_istore_n_1_l, xs_iload_n_1, xs_icmp_ge, xs_iconst_m1, xs_iinc_1_1_i, xs_iinc_1_1_a, xs_iinc_1_1_n, xs_goto, xs_return]) ))
    refine ⟨fun _ => ?_, fun z => absurd (nI_le (a := 6) (b := 6) (by decide) (by decide)) z⟩
    refine xe_X1_init_106 ?_
    (repeat (first | (simp only [xb_X1_init_0, xb_X1_init_63, xb_X1_init_85, xb_X1_init_87, xb_X1_init_106, xs_nil, Nat.reduceAdd, true_implies, not_true_eq_false, not_false_eq_true, false_implies, and_true, true_and, x_10, xs_aload_n_0, xs_bipush_72, xs_bipush_6, xs_bipush_24, xs_bipush_12, xs_iconst_3, xs_dup_i, xs_dup_a, xs_iconst_0, xs_iconst_1, xs_iconst_2, xs_istore_n_1_i, xs_istore_n_1_a, xs_istore_n_1_n, xs_istore_n_1_l, xs_iload_n_1, xs_icmp_ge, xs_iconst_m1, xs_iinc_1_1_i, xs_iinc_1_1_a, xs_iinc_1_1_n, xs_goto, xs_return]) ))
    exact N.symm
  | succ d ih =>
    intro q h N hq
    have ihT := ih (q + 1)
    have hb := N.hb
    refine xe_X1_init_87 ?_
    (repeat (first | (simp only [xb_X1_init_0, xb_X1_init_63, xb_X1_init_85, xb_X1_init_87, xb_X1_init_106, xs_nil, Nat.reduceAdd, true_implies, not_true_eq_false, not_false_eq_true, false_implies, and_true, true_and, x_10, xs_aload_n_0, xs_bipush_72, xs_bipush_6, xs_bipush_24, xs_bipush_12, xs_iconst_3, xs_dup_i, xs_dup_a, xs_iconst_0, xs_iconst_1, xs_iconst_2, xs_istore_n_1_i, xs_istore_n_1_a, xs_istore_n_1_n, xs_istore_n_1_l, xs_iload_n_1, xs_icmp_ge, xs_iconst_m1, xs_iinc_1_1_i, xs_iinc_1_1_a, xs_iinc_1_1_n, xs_goto, xs_return]) ))
    refine ⟨fun z => absurd z (nI_ge (b := 6) (by omega) (by decide)), fun _ => ?_⟩
    (repeat (first | (simp only [xb_X1_init_0, xb_X1_init_63, xb_X1_init_85, xb_X1_init_87, xb_X1_init_106, xs_nil, Nat.reduceAdd, true_implies, not_true_eq_false, not_false_eq_true, false_implies, and_true, true_and, x_10, xs_aload_n_0, xs_bipush_72, xs_bipush_6, xs_bipush_24, xs_bipush_12, xs_iconst_3, xs_dup_i, xs_dup_a, xs_iconst_0, xs_iconst_1, xs_iconst_2, xs_istore_n_1_i, xs_istore_n_1_a, xs_istore_n_1_n, xs_istore_n_1_l, xs_iload_n_1, xs_icmp_ge, xs_iconst_m1, xs_iinc_1_1_i, xs_iinc_1_1_a, xs_iinc_1_1_n, xs_goto, xs_return]) | (refine xr_getf (hb 0 _ rfl) (by rfl) ?_)))
    refine xn_iastore N h2 (k := 2) (by rfl) (x_in (by rw [fillm_len, List.length_replicate]; omega) (by rw [fillm_len, List.length_replicate]; decide)) (fun h1 N1 => ?_)
    rw [xu_n (by omega)] at N1
    (repeat (first | (simp only [xb_X1_init_0, xb_X1_init_63, xb_X1_init_85, xb_X1_init_87, xb_X1_init_106, xs_nil, Nat.reduceAdd, true_implies, not_true_eq_false, not_false_eq_true, false_implies, and_true, true_and, x_10, xs_aload_n_0, xs_bipush_72, xs_bipush_6, xs_bipush_24, xs_bipush_12, xs_iconst_3, xs_dup_i, xs_dup_a, xs_iconst_0, xs_iconst_1, xs_iconst_2, xs_istore_n_1_i, xs_istore_n_1_a, xs_istore_n_1_n, xs_istore_n_1_l, xs_iload_n_1, xs_icmp_ge, xs_iconst_m1, xs_iinc_1_1_i, xs_iinc_1_1_a, xs_iinc_1_1_n, xs_goto, xs_return]) ))
    rw [nI_1]
    exact ihT h1 N1 (by omega)
end INI
