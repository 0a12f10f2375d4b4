/-! the reference: States left, gone back to -/
def psh (pa : List Int32) : Nat → List Int32
  | 0 => pa
  | k + 1 => (psh pa k).set k ((psh pa k).getD (k + 149) 0)
theorem psh_len {pa : List Int32} : ∀ k, (psh pa k).length = pa.length
  | 0 => rfl
  | k + 1 => by
    show (List.set _ _ _).length = _
    rw [List.length_set, psh_len k]
theorem psh_get {pa : List Int32} (hl : pa.length = 894) : ∀ k, k ≤ 745 → ∀ i, (psh pa k).getD i 0 = if i < k then pa.getD (i + 149) 0 else pa.getD i 0
  | 0, _, i => by rw [if_neg (by omega)]; rfl
  | k + 1, hk, i => by
    have ih := psh_get hl k (by omega)
    show (List.set (psh pa k) k ((psh pa k).getD (k + 149) 0)).getD i 0 = _
    have e := ih (k + 149)
    rw [if_neg (by omega)] at e
    rw [sg (by rw [psh_len, hl]; omega), e, ih i]
    by_cases h1 : i = k
    · rw [if_pos h1, if_pos (by omega), h1]
    · rw [if_neg h1]
      by_cases h2 : i < k
      · rw [if_pos h2, if_pos (by omega)]
      · rw [if_neg h2, if_neg (by omega)]
def pput (pa nw : List Int32) (c : Nat) : Nat → List Int32
  | 0 => pa
  | k + 1 => (pput pa nw c k).set (149 * c + k) (nw.getD k 0)
theorem pput_len {pa nw : List Int32} {c : Nat} : ∀ k, (pput pa nw c k).length = pa.length
  | 0 => rfl
  | k + 1 => by
    show (List.set _ _ _).length = _
    rw [List.length_set, pput_len k]
theorem pput_get {pa nw : List Int32} {c : Nat} (hl : pa.length = 894) (hc : c < 6) : ∀ k, k ≤ 149 → ∀ i, (pput pa nw c k).getD i 0 = if 149 * c ≤ i ∧ i < 149 * c + k then nw.getD (i - 149 * c) 0 else pa.getD i 0
  | 0, _, i => by rw [if_neg (by omega)]; rfl
  | k + 1, hk, i => by
    have ih := pput_get (nw := nw) hl hc k (by omega)
    show (List.set (pput pa nw c k) (149 * c + k) (nw.getD k 0)).getD i 0 = _
    rw [sg (by rw [pput_len, hl]; omega), ih]
    by_cases h1 : i = 149 * c + k
    · rw [if_pos h1, if_pos (by omega), h1, Nat.add_sub_cancel_left]
    · rw [if_neg h1]
      by_cases h2 : 149 * c ≤ i ∧ i < 149 * c + k
      · rw [if_pos h2, if_pos (by omega)]
      · rw [if_neg h2, if_neg (by omega)]
def remem (pa nw : List Int32) (c : Nat) : List Int32 := if c = 6 then pput (psh pa 745) nw 5 149 else pput pa nw c 149
theorem prow_len {pa : List Int32} {i : Nat} : (prow pa i).length = 149 := by unfold prow; rw [List.length_map, List.length_range]
theorem prow_get {pa : List Int32} {i k : Nat} (hk : k < 149) : (prow pa i).getD k 0 = pa.getD (149 * i + k) 0 := by
  unfold prow
  rw [List.getD_eq_getElem?_getD, List.getElem?_map, List.getElem?_range hk]
  rfl
theorem row_ext {a b : List Int32} (ha : a.length = 149) (hb : b.length = 149) (h : ∀ k, k < 149 → a.getD k 0 = b.getD k 0) : a = b := by
  apply List.ext_getElem?
  intro k
  by_cases hk : k < 149
  · have := h k hk
    rw [List.getD_eq_getElem?_getD, List.getD_eq_getElem?_getD, List.getElem?_eq_getElem (by omega), List.getElem?_eq_getElem (by omega)] at this
    rw [List.getElem?_eq_getElem (by omega), List.getElem?_eq_getElem (by omega)]
    exact congrArg some this
  · rw [List.getElem?_eq_none (by omega), List.getElem?_eq_none (by omega)]
theorem remem_len {pa nw : List Int32} {c : Nat} : (remem pa nw c).length = pa.length := by
  unfold remem
  split
  · rw [pput_len, psh_len]
  · rw [pput_len]
theorem remem_row {pa nw : List Int32} {c : Nat} (hl : pa.length = 894) (hn : nw.length = 149) (hc : c ≤ 6) : (c < 6 → (∀ i, i < c → prow (remem pa nw c) i = prow pa i) ∧ prow (remem pa nw c) c = nw) ∧ (c = 6 → (∀ i, i < 5 → prow (remem pa nw c) i = prow pa (i + 1)) ∧ prow (remem pa nw c) 5 = nw) := by
  unfold remem
  refine ⟨fun h => ?_, fun h => ?_⟩
  · rw [if_neg (by omega)]
    refine ⟨fun i hi => row_ext prow_len prow_len (fun k hk => ?_), row_ext prow_len hn (fun k hk => ?_)⟩
    · rw [prow_get hk, prow_get hk, pput_get hl h 149 (Nat.le_refl _), if_neg (by omega)]
    · rw [prow_get hk, pput_get hl h 149 (Nat.le_refl _), if_pos (by omega), Nat.add_sub_cancel_left]
  · rw [if_pos h]
    have hl2 : (psh pa 745).length = 894 := by rw [psh_len, hl]
    refine ⟨fun i hi => row_ext prow_len prow_len (fun k hk => ?_), row_ext prow_len hn (fun k hk => ?_)⟩
    · rw [prow_get hk, prow_get hk, pput_get hl2 (by omega) 149 (Nat.le_refl _), if_neg (by omega), psh_get hl 745 (Nat.le_refl _), if_pos (by omega), show 149 * (i + 1) + k = 149 * i + k + 149 by omega]
    · rw [prow_get hk, pput_get hl2 (by omega) 149 (Nat.le_refl _), if_pos (by omega), Nat.add_sub_cancel_left]
def pback (nw pa : List Int32) (c : Nat) : Nat → List Int32
  | 0 => nw
  | k + 1 => (pback nw pa c k).set k (pa.getD (149 * c + k) 0)
theorem pback_len {nw pa : List Int32} {c : Nat} : ∀ k, (pback nw pa c k).length = nw.length
  | 0 => rfl
  | k + 1 => by
    show (List.set _ _ _).length = _
    rw [List.length_set, pback_len k]
theorem pback_get {nw pa : List Int32} {c : Nat} (hn : nw.length = 149) : ∀ k, k ≤ 149 → ∀ i, i < k → (pback nw pa c k).getD i 0 = pa.getD (149 * c + i) 0
  | 0, _, i, h => by omega
  | k + 1, hk, i, h => by
    show (List.set (pback nw pa c k) k (pa.getD (149 * c + k) 0)).getD i 0 = _
    rw [sg (by rw [pback_len, hn]; omega)]
    by_cases h1 : i = k
    · rw [if_pos h1, h1]
    · rw [if_neg h1]
      exact pback_get hn k (by omega) i (by omega)
theorem pback_row {nw pa : List Int32} {c : Nat} (hn : nw.length = 149) : pback nw pa c 149 = prow pa c := row_ext (by rw [pback_len, hn]) prow_len (fun k hk => by rw [prow_get hk, pback_get hn 149 (Nat.le_refl _) k hk])
section MP
variable {m : Nat} {nw asd pa rf tx hd rd so ah ar tr bg le fr nu : List Int32} {sts byt fo bc br bk od sp wr : Int32} {ha : Int64} {h h0 : xH} {c : Nat}
theorem l_remem1 (h2 : 2 ≤ m) (lp : pa.length = 894) {r : Option Value} {h' : xH} (fin : ∀ h, xA h0 m (x_mc m nw asd (psh pa 745) sts rf tx byt hd rd so ah ar tr bg fo bc br bk le fr nu od sp wr ha) h → x_EV 30 40 [some (.ref m), some (.int (nI 745))] [] h r h') : ∀ (d k : Nat) (h : xH), xA h0 m (x_mc m nw asd (psh pa k) sts rf tx byt hd rd so ah ar tr bg fo bc br bk le fr nu od sp wr ha) h → k + d = 745 → x_EV 30 11 [some (.ref m), some (.int (nI k))] [] h r h' := by
  intro d
  induction d with
  | zero =>
    intro k h A hk
    have ek : k = 745 := by omega
    subst ek
    refine xe_X8_remembers_11 ?_
    (repeat (first | (simp only [xb_X8_remembers_0, xb_X8_remembers_11, xb_X8_remembers_40, xb_X8_remembers_50, xb_X8_remembers_52, xb_X8_remembers_86, xs_nil, Nat.reduceAdd, true_implies, not_true_eq_false, not_false_eq_true, false_implies, and_true, true_and, x_10, xs_aload_n_0, xs_bipush_6, xs_icmp_ne, xs_iconst_0, xs_istore_n_1_i, xs_istore_n_1_a, xs_istore_n_1_n, xs_istore_n_1_l, xs_iload_n_1, xs_sipush_745, xs_icmp_ge, xs_sipush_149, xs_iadd, xs_iinc_1_1_i, xs_iinc_1_1_a, xs_iinc_1_1_n, xs_goto, xs_dup_i, xs_dup_a, xs_iconst_1, xs_isub, xs_imul, xs_return]) ))
    exact ⟨fun _ => fin h A, fun q => absurd (nI_le (a := 745) (b := 745) (by omega) (by omega)) q⟩
  | succ d ih =>
    intro k h A hk
    have hb := A.hb
    have ihT := ih (k + 1)
    refine xe_X8_remembers_11 ?_
    (repeat (first | (simp only [xb_X8_remembers_0, xb_X8_remembers_11, xb_X8_remembers_40, xb_X8_remembers_50, xb_X8_remembers_52, xb_X8_remembers_86, xs_nil, Nat.reduceAdd, true_implies, not_true_eq_false, not_false_eq_true, false_implies, and_true, true_and, x_10, xs_aload_n_0, xs_bipush_6, xs_icmp_ne, xs_iconst_0, xs_istore_n_1_i, xs_istore_n_1_a, xs_istore_n_1_n, xs_istore_n_1_l, xs_iload_n_1, xs_sipush_745, xs_icmp_ge, xs_sipush_149, xs_iadd, xs_iinc_1_1_i, xs_iinc_1_1_a, xs_iinc_1_1_n, xs_goto, xs_dup_i, xs_dup_a, xs_iconst_1, xs_isub, xs_imul, xs_return]) ))
    refine ⟨fun q => absurd q (nI_ge (b := 745) (by omega) (by omega)), fun q => ?_⟩
    have e1 : nI k + 149 = nI (k + 149) := nI_k _ 149 rfl
    (repeat (first | (simp only [xb_X8_remembers_0, xb_X8_remembers_11, xb_X8_remembers_40, xb_X8_remembers_50, xb_X8_remembers_52, xb_X8_remembers_86, xs_nil, Nat.reduceAdd, true_implies, not_true_eq_false, not_false_eq_true, false_implies, and_true, true_and, x_10, xs_aload_n_0, xs_bipush_6, xs_icmp_ne, xs_iconst_0, xs_istore_n_1_i, xs_istore_n_1_a, xs_istore_n_1_n, xs_istore_n_1_l, xs_iload_n_1, xs_sipush_745, xs_icmp_ge, xs_sipush_149, xs_iadd, xs_iinc_1_1_i, xs_iinc_1_1_a, xs_iinc_1_1_n, xs_goto, xs_dup_i, xs_dup_a, xs_iconst_1, xs_isub, xs_imul, xs_return]) | (refine xr_getf (hb 0 _ rfl) (by rfl) ?_)))
    rw [e1]
    refine xr_iaload (hb 3 _ rfl) (x_in (by rw [psh_len, lp]; omega) (by rw [psh_len, lp]; decide)) ?_
    refine xa_iastore A 3 (by rfl) h2 (x_in (by rw [psh_len, lp]; omega) (by rw [psh_len, lp]; decide)) (fun h1 A => ?_)
    rw [xu_n (by omega), xg_n (by omega)] at A
    (repeat (first | (simp only [xb_X8_remembers_0, xb_X8_remembers_11, xb_X8_remembers_40, xb_X8_remembers_50, xb_X8_remembers_52, xb_X8_remembers_86, xs_nil, Nat.reduceAdd, true_implies, not_true_eq_false, not_false_eq_true, false_implies, and_true, true_and, x_10, xs_aload_n_0, xs_bipush_6, xs_icmp_ne, xs_iconst_0, xs_istore_n_1_i, xs_istore_n_1_a, xs_istore_n_1_n, xs_istore_n_1_l, xs_iload_n_1, xs_sipush_745, xs_icmp_ge, xs_sipush_149, xs_iadd, xs_iinc_1_1_i, xs_iinc_1_1_a, xs_iinc_1_1_n, xs_goto, xs_dup_i, xs_dup_a, xs_iconst_1, xs_isub, xs_imul, xs_return]) ))
    rw [nI_1]
    exact ihT h1 A (by omega)
theorem l_remem2 (h2 : 2 ≤ m) (lp : pa.length = 894) (ln : nw.length = 149) (hc : c < 6) : ∀ (d k : Nat) (h : xH), xA h0 m (x_mc m nw asd (pput pa nw c k) (nI c) rf tx byt hd rd so ah ar tr bg fo bc br bk le fr nu od sp wr ha) h → k + d = 149 → x_EV 30 52 [some (.ref m), some (.int (nI k))] [] h none (x_wr h0 m (x_mc m nw asd (pput pa nw c 149) (nI (c + 1)) rf tx byt hd rd so ah ar tr bg fo bc br bk le fr nu od sp wr ha)) := by
  intro d
  induction d with
  | zero =>
    intro k h A hk
    have ek : k = 149 := by omega
    subst ek
    have hb := A.hb
    refine xe_X8_remembers_52 ?_
    (repeat (first | (simp only [xb_X8_remembers_0, xb_X8_remembers_11, xb_X8_remembers_40, xb_X8_remembers_50, xb_X8_remembers_52, xb_X8_remembers_86, xs_nil, Nat.reduceAdd, true_implies, not_true_eq_false, not_false_eq_true, false_implies, and_true, true_and, x_10, xs_aload_n_0, xs_bipush_6, xs_icmp_ne, xs_iconst_0, xs_istore_n_1_i, xs_istore_n_1_a, xs_istore_n_1_n, xs_istore_n_1_l, xs_iload_n_1, xs_sipush_745, xs_icmp_ge, xs_sipush_149, xs_iadd, xs_iinc_1_1_i, xs_iinc_1_1_a, xs_iinc_1_1_n, xs_goto, xs_dup_i, xs_dup_a, xs_iconst_1, xs_isub, xs_imul, xs_return]) ))
    refine ⟨fun _ => ?_, fun q => absurd (nI_le (a := 149) (b := 149) (by omega) (by omega)) q⟩
    refine xe_X8_remembers_86 ?_
    (repeat (first | (simp only [xb_X8_remembers_0, xb_X8_remembers_11, xb_X8_remembers_40, xb_X8_remembers_50, xb_X8_remembers_52, xb_X8_remembers_86, xs_nil, Nat.reduceAdd, true_implies, not_true_eq_false, not_false_eq_true, false_implies, and_true, true_and, x_10, xs_aload_n_0, xs_bipush_6, xs_icmp_ne, xs_iconst_0, xs_istore_n_1_i, xs_istore_n_1_a, xs_istore_n_1_n, xs_istore_n_1_l, xs_iload_n_1, xs_sipush_745, xs_icmp_ge, xs_sipush_149, xs_iadd, xs_iinc_1_1_i, xs_iinc_1_1_a, xs_iinc_1_1_n, xs_goto, xs_dup_i, xs_dup_a, xs_iconst_1, xs_isub, xs_imul, xs_return]) | (refine xr_getf (hb 0 _ rfl) (by rfl) ?_)))
    rw [nI_1]
    refine xa_putf A 0 (by rfl) h2 (by exact Nat.le_of_ble_eq_true rfl) (x_fit_int _) (fun h1 A1 => ?_)
    (repeat (first | (simp only [xb_X8_remembers_0, xb_X8_remembers_11, xb_X8_remembers_40, xb_X8_remembers_50, xb_X8_remembers_52, xb_X8_remembers_86, xs_nil, Nat.reduceAdd, true_implies, not_true_eq_false, not_false_eq_true, false_implies, and_true, true_and, x_10, xs_aload_n_0, xs_bipush_6, xs_icmp_ne, xs_iconst_0, xs_istore_n_1_i, xs_istore_n_1_a, xs_istore_n_1_n, xs_istore_n_1_l, xs_iload_n_1, xs_sipush_745, xs_icmp_ge, xs_sipush_149, xs_iadd, xs_iinc_1_1_i, xs_iinc_1_1_a, xs_iinc_1_1_n, xs_goto, xs_dup_i, xs_dup_a, xs_iconst_1, xs_isub, xs_imul, xs_return]) ))
    exact A1.e
  | succ d ih =>
    intro k h A hk
    have hb := A.hb
    have ihT := ih (k + 1)
    refine xe_X8_remembers_52 ?_
    (repeat (first | (simp only [xb_X8_remembers_0, xb_X8_remembers_11, xb_X8_remembers_40, xb_X8_remembers_50, xb_X8_remembers_52, xb_X8_remembers_86, xs_nil, Nat.reduceAdd, true_implies, not_true_eq_false, not_false_eq_true, false_implies, and_true, true_and, x_10, xs_aload_n_0, xs_bipush_6, xs_icmp_ne, xs_iconst_0, xs_istore_n_1_i, xs_istore_n_1_a, xs_istore_n_1_n, xs_istore_n_1_l, xs_iload_n_1, xs_sipush_745, xs_icmp_ge, xs_sipush_149, xs_iadd, xs_iinc_1_1_i, xs_iinc_1_1_a, xs_iinc_1_1_n, xs_goto, xs_dup_i, xs_dup_a, xs_iconst_1, xs_isub, xs_imul, xs_return]) ))
    refine ⟨fun q => absurd q (nI_ge (b := 149) (by omega) (by omega)), fun q => ?_⟩
    have e1 : (149 : Int32) * nI c + nI k = nI (149 * c + k) := by rw [show (149 : Int32) = nI 149 from rfl, pk_mul, nI_add]
    (repeat (first | (simp only [xb_X8_remembers_0, xb_X8_remembers_11, xb_X8_remembers_40, xb_X8_remembers_50, xb_X8_remembers_52, xb_X8_remembers_86, xs_nil, Nat.reduceAdd, true_implies, not_true_eq_false, not_false_eq_true, false_implies, and_true, true_and, x_10, xs_aload_n_0, xs_bipush_6, xs_icmp_ne, xs_iconst_0, xs_istore_n_1_i, xs_istore_n_1_a, xs_istore_n_1_n, xs_istore_n_1_l, xs_iload_n_1, xs_sipush_745, xs_icmp_ge, xs_sipush_149, xs_iadd, xs_iinc_1_1_i, xs_iinc_1_1_a, xs_iinc_1_1_n, xs_goto, xs_dup_i, xs_dup_a, xs_iconst_1, xs_isub, xs_imul, xs_return]) | (refine xr_getf (hb 0 _ rfl) (by rfl) ?_) | (refine xr_iaload (hb 1 _ rfl) (x_in (by rw [ln]; omega) (by rw [ln]; decide)) ?_)))
    rw [e1]
    refine xa_iastore A 3 (by rfl) h2 (x_in (by rw [pput_len, lp]; omega) (by rw [pput_len, lp]; decide)) (fun h1 A => ?_)
    rw [xu_n (by omega), xg_n (by omega)] at A
    (repeat (first | (simp only [xb_X8_remembers_0, xb_X8_remembers_11, xb_X8_remembers_40, xb_X8_remembers_50, xb_X8_remembers_52, xb_X8_remembers_86, xs_nil, Nat.reduceAdd, true_implies, not_true_eq_false, not_false_eq_true, false_implies, and_true, true_and, x_10, xs_aload_n_0, xs_bipush_6, xs_icmp_ne, xs_iconst_0, xs_istore_n_1_i, xs_istore_n_1_a, xs_istore_n_1_n, xs_istore_n_1_l, xs_iload_n_1, xs_sipush_745, xs_icmp_ge, xs_sipush_149, xs_iadd, xs_iinc_1_1_i, xs_iinc_1_1_a, xs_iinc_1_1_n, xs_goto, xs_dup_i, xs_dup_a, xs_iconst_1, xs_isub, xs_imul, xs_return]) ))
    rw [nI_1]
    exact ihT h1 A (by omega)
theorem c_remembers (hb : x_hb h m (x_mc m nw asd pa (nI c) rf tx byt hd rd so ah ar tr bg fo bc br bk le fr nu od sp wr ha)) (h2 : 2 ≤ m) (hc : c ≤ 6) (lp : pa.length = 894) (ln : nw.length = 149) : xK 30 [.ref m] h none (x_wr h m (x_mc m nw asd (remem pa nw c) (nI (min (c + 1) 6)) rf tx byt hd rd so ah ar tr bg fo bc br bk le fr nu od sp wr ha)) := by
  have A := xA.of hb (Nat.zero_lt_succ _)
  refine xK_X8_remembers (hb 0 _ rfl) (xe_X8_remembers_0 ?_)
  (repeat (first | (simp only [xb_X8_remembers_0, xb_X8_remembers_11, xb_X8_remembers_40, xb_X8_remembers_50, xb_X8_remembers_52, xb_X8_remembers_86, xs_nil, Nat.reduceAdd, true_implies, not_true_eq_false, not_false_eq_true, false_implies, and_true, true_and, x_10, xs_aload_n_0, xs_bipush_6, xs_icmp_ne, xs_iconst_0, xs_istore_n_1_i, xs_istore_n_1_a, xs_istore_n_1_n, xs_istore_n_1_l, xs_iload_n_1, xs_sipush_745, xs_icmp_ge, xs_sipush_149, xs_iadd, xs_iinc_1_1_i, xs_iinc_1_1_a, xs_iinc_1_1_n, xs_goto, xs_dup_i, xs_dup_a, xs_iconst_1, xs_isub, xs_imul, xs_return]) | (refine xr_getf (hb 0 _ rfl) (by rfl) ?_)))
  have rest : ∀ (pa1 : List Int32) (c1 : Nat) (h1 : xH) (a : Option Value), c1 < 6 → pa1.length = 894 → xA h m (x_mc m nw asd (pa1) (nI c1) rf tx byt hd rd so ah ar tr bg fo bc br bk le fr nu od sp wr ha) h1 → x_EV 30 50 [some (.ref m), a] [] h1 none (x_wr h m (x_mc m nw asd (pput pa1 nw c1 149) (nI (c1 + 1)) rf tx byt hd rd so ah ar tr bg fo bc br bk le fr nu od sp wr ha)) := by
    intro pa1 c1 h1 a q1 q2 A1
    refine xe_X8_remembers_50 ?_
    (repeat (first | (simp only [xb_X8_remembers_0, xb_X8_remembers_11, xb_X8_remembers_40, xb_X8_remembers_50, xb_X8_remembers_52, xb_X8_remembers_86, xs_nil, Nat.reduceAdd, true_implies, not_true_eq_false, not_false_eq_true, false_implies, and_true, true_and, x_10, xs_aload_n_0, xs_bipush_6, xs_icmp_ne, xs_iconst_0, xs_istore_n_1_i, xs_istore_n_1_a, xs_istore_n_1_n, xs_istore_n_1_l, xs_iload_n_1, xs_sipush_745, xs_icmp_ge, xs_sipush_149, xs_iadd, xs_iinc_1_1_i, xs_iinc_1_1_a, xs_iinc_1_1_n, xs_goto, xs_dup_i, xs_dup_a, xs_iconst_1, xs_isub, xs_imul, xs_return]) ))
    exact l_remem2 h2 q2 ln q1 149 0 h1 A1 (by omega)
  by_cases h6 : c = 6
  · subst h6
    refine ⟨fun q => absurd rfl q, fun _ => ?_⟩
    (repeat (first | (simp only [xb_X8_remembers_0, xb_X8_remembers_11, xb_X8_remembers_40, xb_X8_remembers_50, xb_X8_remembers_52, xb_X8_remembers_86, xs_nil, Nat.reduceAdd, true_implies, not_true_eq_false, not_false_eq_true, false_implies, and_true, true_and, x_10, xs_aload_n_0, xs_bipush_6, xs_icmp_ne, xs_iconst_0, xs_istore_n_1_i, xs_istore_n_1_a, xs_istore_n_1_n, xs_istore_n_1_l, xs_iload_n_1, xs_sipush_745, xs_icmp_ge, xs_sipush_149, xs_iadd, xs_iinc_1_1_i, xs_iinc_1_1_a, xs_iinc_1_1_n, xs_goto, xs_dup_i, xs_dup_a, xs_iconst_1, xs_isub, xs_imul, xs_return]) ))
    refine l_remem1 h2 lp (fun h1 A1 => ?_) 745 0 h A (by omega)
    have hb1 := A1.hb
    refine xe_X8_remembers_40 ?_
    (repeat (first | (simp only [xb_X8_remembers_0, xb_X8_remembers_11, xb_X8_remembers_40, xb_X8_remembers_50, xb_X8_remembers_52, xb_X8_remembers_86, xs_nil, Nat.reduceAdd, true_implies, not_true_eq_false, not_false_eq_true, false_implies, and_true, true_and, x_10, xs_aload_n_0, xs_bipush_6, xs_icmp_ne, xs_iconst_0, xs_istore_n_1_i, xs_istore_n_1_a, xs_istore_n_1_n, xs_istore_n_1_l, xs_iload_n_1, xs_sipush_745, xs_icmp_ge, xs_sipush_149, xs_iadd, xs_iinc_1_1_i, xs_iinc_1_1_a, xs_iinc_1_1_n, xs_goto, xs_dup_i, xs_dup_a, xs_iconst_1, xs_isub, xs_imul, xs_return]) | (refine xr_getf (hb1 0 _ rfl) (by rfl) ?_)))
    rw [show nI 6 - 1 = nI 5 from nI_pred 5]
    refine xa_putf A1 0 (by rfl) h2 (by exact Nat.le_of_ble_eq_true rfl) (x_fit_int _) (fun h1 A1 => ?_)
    (repeat (first | (simp only [xb_X8_remembers_0, xb_X8_remembers_11, xb_X8_remembers_40, xb_X8_remembers_50, xb_X8_remembers_52, xb_X8_remembers_86, xs_nil, Nat.reduceAdd, true_implies, not_true_eq_false, not_false_eq_true, false_implies, and_true, true_and, x_10, xs_aload_n_0, xs_bipush_6, xs_icmp_ne, xs_iconst_0, xs_istore_n_1_i, xs_istore_n_1_a, xs_istore_n_1_n, xs_istore_n_1_l, xs_iload_n_1, xs_sipush_745, xs_icmp_ge, xs_sipush_149, xs_iadd, xs_iinc_1_1_i, xs_iinc_1_1_a, xs_iinc_1_1_n, xs_goto, xs_dup_i, xs_dup_a, xs_iconst_1, xs_isub, xs_imul, xs_return]) ))
    exact rest (psh pa 745) 5 h1 _ (by decide) (by rw [psh_len, lp]) A1
  · refine ⟨fun _ => ?_, fun q => absurd (fun z => h6 ((nI_eq (a := c) (b := 6) (by omega) (by omega)).mp z)) q⟩
    have e1 : remem pa nw c = pput pa nw c 149 := by unfold remem; rw [if_neg h6]
    rw [e1, show min (c + 1) 6 = c + 1 by omega]
    exact rest pa c h _ (by omega) lp A
theorem l_back (h2 : 2 ≤ m) (lp : pa.length = 894) (ln : nw.length = 149) (hc : c < 6) : ∀ (d k : Nat) (h : xH), xA h0 m (x_mc m (pback nw pa c k) asd pa (nI c) rf tx byt hd rd so ah ar tr bg fo bc br bk le fr nu od sp wr ha) h → k + d = 149 → x_EV 168 24 [some (.ref m), some (.int (nI k))] [] h (some (.int (nI c))) (x_wr h0 m (x_mc m (pback nw pa c 149) asd pa (nI c) rf tx byt hd rd so ah ar tr bg fo bc br bk le fr nu od sp wr ha)) := by
  intro d
  induction d with
  | zero =>
    intro k h A hk
    have ek : k = 149 := by omega
    subst ek
    have hb := A.hb
    refine xe_X8_back_24 ?_
    (repeat (first | (simp only [xb_X8_back_0, xb_X8_back_12, xb_X8_back_24, xb_X8_back_58, xs_nil, Nat.reduceAdd, true_implies, not_true_eq_false, not_false_eq_true, false_implies, and_true, true_and, x_10, xs_aload_n_0, xs_if_ne, xs_ireturn, xs_dup_i, xs_dup_a, xs_iconst_1, xs_isub, xs_iconst_0, xs_istore_n_1_i, xs_istore_n_1_a, xs_istore_n_1_n, xs_istore_n_1_l, xs_iload_n_1, xs_sipush_149, xs_icmp_ge, xs_imul, xs_iadd, xs_iinc_1_1_i, xs_iinc_1_1_a, xs_iinc_1_1_n, xs_goto]) ))
    refine ⟨fun _ => ?_, fun q => absurd (nI_le (a := 149) (b := 149) (by omega) (by omega)) q⟩
    refine xe_X8_back_58 ?_
    (repeat (first | (simp only [xb_X8_back_0, xb_X8_back_12, xb_X8_back_24, xb_X8_back_58, xs_nil, Nat.reduceAdd, true_implies, not_true_eq_false, not_false_eq_true, false_implies, and_true, true_and, x_10, xs_aload_n_0, xs_if_ne, xs_ireturn, xs_dup_i, xs_dup_a, xs_iconst_1, xs_isub, xs_iconst_0, xs_istore_n_1_i, xs_istore_n_1_a, xs_istore_n_1_n, xs_istore_n_1_l, xs_iload_n_1, xs_sipush_149, xs_icmp_ge, xs_imul, xs_iadd, xs_iinc_1_1_i, xs_iinc_1_1_a, xs_iinc_1_1_n, xs_goto]) | (refine xr_getf (hb 0 _ rfl) (by rfl) ?_)))
    have e := A.e
    all_goals first | exact ⟨by simp, e⟩ | exact e | exact ⟨by simp, by simp, e⟩ | exact ⟨by simp, by simp_all, e⟩
  | succ d ih =>
    intro k h A hk
    have hb := A.hb
    have ihT := ih (k + 1)
    refine xe_X8_back_24 ?_
    (repeat (first | (simp only [xb_X8_back_0, xb_X8_back_12, xb_X8_back_24, xb_X8_back_58, xs_nil, Nat.reduceAdd, true_implies, not_true_eq_false, not_false_eq_true, false_implies, and_true, true_and, x_10, xs_aload_n_0, xs_if_ne, xs_ireturn, xs_dup_i, xs_dup_a, xs_iconst_1, xs_isub, xs_iconst_0, xs_istore_n_1_i, xs_istore_n_1_a, xs_istore_n_1_n, xs_istore_n_1_l, xs_iload_n_1, xs_sipush_149, xs_icmp_ge, xs_imul, xs_iadd, xs_iinc_1_1_i, xs_iinc_1_1_a, xs_iinc_1_1_n, xs_goto]) ))
    refine ⟨fun q => absurd q (nI_ge (b := 149) (by omega) (by omega)), fun q => ?_⟩
    have e1 : (149 : Int32) * nI c + nI k = nI (149 * c + k) := by rw [show (149 : Int32) = nI 149 from rfl, pk_mul, nI_add]
    (repeat (first | (simp only [xb_X8_back_0, xb_X8_back_12, xb_X8_back_24, xb_X8_back_58, xs_nil, Nat.reduceAdd, true_implies, not_true_eq_false, not_false_eq_true, false_implies, and_true, true_and, x_10, xs_aload_n_0, xs_if_ne, xs_ireturn, xs_dup_i, xs_dup_a, xs_iconst_1, xs_isub, xs_iconst_0, xs_istore_n_1_i, xs_istore_n_1_a, xs_istore_n_1_n, xs_istore_n_1_l, xs_iload_n_1, xs_sipush_149, xs_icmp_ge, xs_imul, xs_iadd, xs_iinc_1_1_i, xs_iinc_1_1_a, xs_iinc_1_1_n, xs_goto]) | (refine xr_getf (hb 0 _ rfl) (by rfl) ?_)))
    rw [e1]
    refine xr_iaload (hb 3 _ rfl) (x_in (by rw [lp]; omega) (by rw [lp]; decide)) ?_
    refine xa_iastore A 1 (by rfl) h2 (x_in (by rw [pback_len, ln]; omega) (by rw [pback_len, ln]; decide)) (fun h1 A => ?_)
    rw [xu_n (by omega), xg_n (by omega)] at A
    (repeat (first | (simp only [xb_X8_back_0, xb_X8_back_12, xb_X8_back_24, xb_X8_back_58, xs_nil, Nat.reduceAdd, true_implies, not_true_eq_false, not_false_eq_true, false_implies, and_true, true_and, x_10, xs_aload_n_0, xs_if_ne, xs_ireturn, xs_dup_i, xs_dup_a, xs_iconst_1, xs_isub, xs_iconst_0, xs_istore_n_1_i, xs_istore_n_1_a, xs_istore_n_1_n, xs_istore_n_1_l, xs_iload_n_1, xs_sipush_149, xs_icmp_ge, xs_imul, xs_iadd, xs_iinc_1_1_i, xs_iinc_1_1_a, xs_iinc_1_1_n, xs_goto]) ))
    rw [nI_1]
    exact ihT h1 A (by omega)
theorem c_mback (hb : x_hb h m (x_mc m nw asd pa (nI (c + 1)) rf tx byt hd rd so ah ar tr bg fo bc br bk le fr nu od sp wr ha)) (h2 : 2 ≤ m) (hc : c < 6) (lp : pa.length = 894) (ln : nw.length = 149) : xK 168 [.ref m] h (some (.int (nI c))) (x_wr h m (x_mc m (prow pa c) asd pa (nI c) rf tx byt hd rd so ah ar tr bg fo bc br bk le fr nu od sp wr ha)) := by
  have A := xA.of hb (Nat.zero_lt_succ _)
  refine xK_X8_back (hb 0 _ rfl) (xe_X8_back_0 ?_)
  (repeat (first | (simp only [xb_X8_back_0, xb_X8_back_12, xb_X8_back_24, xb_X8_back_58, xs_nil, Nat.reduceAdd, true_implies, not_true_eq_false, not_false_eq_true, false_implies, and_true, true_and, x_10, xs_aload_n_0, xs_if_ne, xs_ireturn, xs_dup_i, xs_dup_a, xs_iconst_1, xs_isub, xs_iconst_0, xs_istore_n_1_i, xs_istore_n_1_a, xs_istore_n_1_n, xs_istore_n_1_l, xs_iload_n_1, xs_sipush_149, xs_icmp_ge, xs_imul, xs_iadd, xs_iinc_1_1_i, xs_iinc_1_1_a, xs_iinc_1_1_n, xs_goto]) | (refine xr_getf (hb 0 _ rfl) (by rfl) ?_)))
  refine ⟨fun _ => ?_, fun q => absurd (nI_ne0 (by omega) (by omega)) q⟩
  refine xe_X8_back_12 ?_
  (repeat (first | (simp only [xb_X8_back_0, xb_X8_back_12, xb_X8_back_24, xb_X8_back_58, xs_nil, Nat.reduceAdd, true_implies, not_true_eq_false, not_false_eq_true, false_implies, and_true, true_and, x_10, xs_aload_n_0, xs_if_ne, xs_ireturn, xs_dup_i, xs_dup_a, xs_iconst_1, xs_isub, xs_iconst_0, xs_istore_n_1_i, xs_istore_n_1_a, xs_istore_n_1_n, xs_istore_n_1_l, xs_iload_n_1, xs_sipush_149, xs_icmp_ge, xs_imul, xs_iadd, xs_iinc_1_1_i, xs_iinc_1_1_a, xs_iinc_1_1_n, xs_goto]) | (refine xr_getf (hb 0 _ rfl) (by rfl) ?_)))
  rw [nI_pred]
  refine xa_putf A 0 (by rfl) h2 (by exact Nat.le_of_ble_eq_true rfl) (x_fit_int _) (fun h1 A1 => ?_)
  (repeat (first | (simp only [xb_X8_back_0, xb_X8_back_12, xb_X8_back_24, xb_X8_back_58, xs_nil, Nat.reduceAdd, true_implies, not_true_eq_false, not_false_eq_true, false_implies, and_true, true_and, x_10, xs_aload_n_0, xs_if_ne, xs_ireturn, xs_dup_i, xs_dup_a, xs_iconst_1, xs_isub, xs_iconst_0, xs_istore_n_1_i, xs_istore_n_1_a, xs_istore_n_1_n, xs_istore_n_1_l, xs_iload_n_1, xs_sipush_149, xs_icmp_ge, xs_imul, xs_iadd, xs_iinc_1_1_i, xs_iinc_1_1_a, xs_iinc_1_1_n, xs_goto]) ))
  rw [← pback_row ln]
  exact l_back h2 lp ln hc 149 0 h1 A1 (by omega)
theorem c_mback0 (hb : x_hb h m (x_mc m nw asd pa (0) rf tx byt hd rd so ah ar tr bg fo bc br bk le fr nu od sp wr ha)) (h2 : 2 ≤ m) (hr : rf.length = 3) : xK 168 [.ref m] h (some (.int (-3))) (x_wr h m (x_mc m nw asd pa (0) (rfi rf 1) tx byt hd rd so ah ar tr bg fo bc br bk le fr nu od sp wr ha)) := by
  have A := xA.of hb (Nat.zero_lt_succ _)
  refine xK_X8_back (hb 0 _ rfl) (xe_X8_back_0 ?_)
  (repeat (first | (simp only [xb_X8_back_0, xb_X8_back_12, xb_X8_back_24, xb_X8_back_58, xs_nil, Nat.reduceAdd, true_implies, not_true_eq_false, not_false_eq_true, false_implies, and_true, true_and, x_10, xs_aload_n_0, xs_if_ne, xs_ireturn, xs_dup_i, xs_dup_a, xs_iconst_1, xs_isub, xs_iconst_0, xs_istore_n_1_i, xs_istore_n_1_a, xs_istore_n_1_n, xs_istore_n_1_l, xs_iload_n_1, xs_sipush_149, xs_icmp_ge, xs_imul, xs_iadd, xs_iinc_1_1_i, xs_iinc_1_1_a, xs_iinc_1_1_n, xs_goto]) | (refine xr_getf (hb 0 _ rfl) (by rfl) ?_) | refine xc_v1_1 (c_no hb h2 (by rw [hr]; exact x_in (k := 1) (by decide) (by decide))) (Nat.le_of_ble_eq_true rfl) ?_))
  simp [rfi]
end MP
/-! the shelf and the past -/
theorem INV_push {s : kS} {k : kC} {sh : Nat → kS} {nx ct : Nat} {tx : List Int32} {ln : Nat} {rf nw pa : List Int32} (I : INV s k sh nx ct tx ln rf nw pa) {s0 : kS} {nw0 : List Int32} (hR : Rl s0 nw0) : ∀ {s1 : kS} {nw1 : List Int32} {k1 : kC}, Rl s1 nw1 → kcok k1 ∧ ch0 k1.2.1 → INV s1 k1 (shp sh nx s0) ((nx + 1) % 6) (min (ct + 1) 6) tx ln rf nw1 (remem pa nw0 ct) := by
  intro s1 nw1 k1 hR1 hk1
  obtain ⟨i1, i2, ⟨i3, i4, i5⟩, i6, i7⟩ := I
  obtain ⟨r1, r2⟩ := remem_row (c := ct) i6 hR.2.1.1 i4
  refine ⟨hR1, hk1, ⟨Nat.mod_lt _ (by decide), by omega, fun i hi => ?_⟩, by rw [remem_len]; exact i6, i7⟩
  unfold shp
  by_cases h6 : ct = 6
  · obtain ⟨p1, p2⟩ := r2 h6
    by_cases hi5 : i = 5
    · rw [if_pos (by omega), hi5, p2]
      exact hR
    · rw [if_neg (by omega), p1 i (by omega), show ((nx + 1) % 6 + 6 - min (ct + 1) 6 + i) % 6 = (nx + 6 - ct + (i + 1)) % 6 by omega]
      exact i5 (i + 1) (by omega)
  · obtain ⟨p1, p2⟩ := r1 (by omega)
    by_cases hi5 : i = ct
    · rw [if_pos (by omega), hi5, p2]
      exact hR
    · rw [if_neg (by omega), p1 i (by omega), show ((nx + 1) % 6 + 6 - min (ct + 1) 6 + i) % 6 = (nx + 6 - ct + i) % 6 by omega]
      exact i5 i (by omega)
theorem INV_pop {s : kS} {k : kC} {sh : Nat → kS} {nx c : Nat} {tx : List Int32} {ln : Nat} {rf nw pa : List Int32} (I : INV s k sh nx (c + 1) tx ln rf nw pa) : INV (sh ((nx + 5) % 6)) k sh ((nx + 5) % 6) c tx ln rf (prow pa c) pa := by
  obtain ⟨i1, i2, ⟨i3, i4, i5⟩, i6, i7⟩ := I
  refine ⟨?_, i2, ⟨Nat.mod_lt _ (by decide), by omega, fun i hi => ?_⟩, i6, i7⟩
  · have := i5 c (by omega)
    rw [show (nx + 6 - (c + 1) + c) % 6 = (nx + 5) % 6 by omega] at this
    exact this
  · rw [show ((nx + 5) % 6 + 6 - c + i) % 6 = (nx + 6 - (c + 1) + i) % 6 by omega]
    exact i5 i (by omega)
theorem INV_rf {s : kS} {k : kC} {sh : Nat → kS} {nx ct : Nat} {tx : List Int32} {ln : Nat} {rf nw pa : List Int32} (I : INV s k sh nx ct tx ln rf nw pa) {i : Int32} : INV s k sh nx ct tx ln (rfi rf i) nw pa := by
  obtain ⟨i1, i2, i3, i6, i7, i8, i9⟩ := I
  exact ⟨i1, i2, i3, i6, i7, i8, by rw [rfi_len]; exact i9⟩
