/-! a text read: as a function -/
def pB (tx : List Int32) (N p : Nat) : Int32 := if p < N then tx.getD p 0 else -1
def figB (c : Int32) : Bool := decide (48 ≤ c ∧ c ≤ 57)
def skf (tx : List Int32) (N : Nat) : Nat → Nat → Nat
  | 0, p => p
  | d + 1, p => if p < N ∧ tx.getD p 0 = 32 then skf tx N d (p + 1) else p
/-- behind blanks -/
def sk (tx : List Int32) (N p : Nat) : Nat := skf tx N (N - p) p
/-- a number: whether it is one, where one is then, which -/
def pnum (tx : List Int32) (N p : Nat) (nb : Bool) : Bool × Nat × Int32 := if nb = true ∧ pB tx N p = 45 then (true, p + 1, -1) else if figB (pB tx N p) = false then (false, p, 0) else if figB (pB tx N (p + 1)) = false then (true, p + 1, pB tx N p - 48) else if figB (pB tx N (p + 2)) = false then (true, p + 2, 10 * (pB tx N p - 48) + pB tx N (p + 1) - 48) else (false, p + 2, 0)
def pend (tx : List Int32) (N p : Nat) (F : List Int32) : Bool × Nat × List Int32 := if pB tx N (sk tx N p) = 59 then (true, sk tx N p + 1, F) else (false, sk tx N p, F)
/-- numbers of an order of kind c, so many yet at most, so many had -/
def pord (tx : List Int32) (N : Nat) (c : Int32) : Nat → Nat → Nat → List Int32 → Bool × Nat × List Int32
  | 0, _, p, F => pend tx N p F
  | d + 1, k, p, F => if (c = 119 ∧ 0 < k) ∧ figB (pB tx N (sk tx N p)) = false then pend tx N (sk tx N p) F else if (pnum tx N (sk tx N p) (decide ((c = 114 ∨ c = 111) ∧ d = 0))).1 = true then pord tx N c d (k + 1) (pnum tx N (sk tx N p) (decide ((c = 114 ∨ c = 111) ∧ d = 0))).2.1 (F ++ [(pnum tx N (sk tx N p) (decide ((c = 114 ∨ c = 111) ∧ d = 0))).2.2]) else (false, (pnum tx N (sk tx N p) (decide ((c = 114 ∨ c = 111) ∧ d = 0))).2.1, F)
def mostN (c : Int32) : Nat := if c = 101 then 1 else if c = 102 then 3 else if c = 111 then 2 else if c = 114 then 4 else if c = 119 then 6 else 0
/-- all orders: kinds, where each one's numbers begin, numbers -/
abbrev oT : Type := List Int32 × List Nat × List Int32
def pall (tx : List Int32) (N : Nat) : Nat → Nat → oT → Bool × Nat × oT
  | 0, p, o => (false, p, o)
  | fu + 1, p, o => if p < N then (if mostN (pB tx N p) = 0 then (false, p, o) else if (pord tx N (pB tx N p) (mostN (pB tx N p)) 0 (p + 1) o.2.2).1 = true then pall tx N fu (sk tx N (pord tx N (pB tx N p) (mostN (pB tx N p)) 0 (p + 1) o.2.2).2.1) (o.1 ++ [pB tx N p], o.2.1 ++ [(pord tx N (pB tx N p) (mostN (pB tx N p)) 0 (p + 1) o.2.2).2.2.length], (pord tx N (pB tx N p) (mostN (pB tx N p)) 0 (p + 1) o.2.2).2.2) else (false, (pord tx N (pB tx N p) (mostN (pB tx N p)) 0 (p + 1) o.2.2).2.1, o)) else (decide (0 < o.1.length), p, o)
section PU
variable {tx : List Int32} {N : Nat}
theorem skf_le : ∀ d p, p ≤ skf tx N d p ∧ skf tx N d p ≤ p + d
  | 0, p => ⟨Nat.le_refl p, Nat.le_refl p⟩
  | d + 1, p => by
    unfold skf
    split
    · have := skf_le d (p + 1)
      omega
    · omega
theorem sk_le {p : Nat} (hp : p ≤ N) : p ≤ sk tx N p ∧ sk tx N p ≤ N := by
  have := skf_le (tx := tx) (N := N) (N - p) p
  unfold sk
  omega
theorem skf_stop : ∀ d p, p + d = N → ¬ (skf tx N d p < N ∧ tx.getD (skf tx N d p) 0 = 32)
  | 0, p, h => fun z => by
    have : skf tx N 0 p = p := rfl
    omega
  | d + 1, p, h => by
    unfold skf
    split
    · exact skf_stop d (p + 1) (by omega)
    · rename_i z
      exact z
theorem skf_at : ∀ d q, ¬ (q < N ∧ tx.getD q 0 = 32) → skf tx N d q = q
  | 0, _, _ => rfl
  | d + 1, q, h => by
    unfold skf
    rw [if_neg h]
theorem sk_sk {p : Nat} (hp : p ≤ N) : sk tx N (sk tx N p) = sk tx N p := skf_at _ _ (skf_stop (N - p) p (by omega))
theorem fig_m1 : figB (-1) = false := by decide
theorem pB_lt {q : Nat} (h : ¬ pB tx N q = -1) : q < N := by
  refine Classical.byContradiction fun z => h ?_
  unfold pB
  rw [if_neg z]
theorem fig_lt {q : Nat} (h : figB (pB tx N q) = true) : q < N := by
  refine pB_lt (tx := tx) (fun e => ?_)
  rw [e, fig_m1] at h
  cases h
theorem pnum_pos {p : Nat} (hp : p ≤ N) {nb : Bool} : (pnum tx N p nb).2.1 ≤ N ∧ p ≤ (pnum tx N p nb).2.1 ∧ ((pnum tx N p nb).1 = true → p + 1 ≤ (pnum tx N p nb).2.1 ∧ p < N) := by
  unfold pnum
  by_cases h1 : nb = true ∧ pB tx N p = 45
  · have hlt : p < N := pB_lt (by rw [h1.2]; decide)
    rw [if_pos h1]
    exact ⟨hlt, Nat.le_succ _, fun _ => ⟨Nat.le_refl _, hlt⟩⟩
  · rw [if_neg h1]
    by_cases h2 : figB (pB tx N p) = false
    · rw [if_pos h2]
      exact ⟨hp, Nat.le_refl _, fun z => by cases z⟩
    · have hlt : p < N := fig_lt (by rw [Bool.not_eq_false] at h2; exact h2)
      rw [if_neg h2]
      by_cases h3 : figB (pB tx N (p + 1)) = false
      · rw [if_pos h3]
        exact ⟨hlt, Nat.le_succ _, fun _ => ⟨Nat.le_refl _, hlt⟩⟩
      · have hlt1 : p + 1 < N := fig_lt (by rw [Bool.not_eq_false] at h3; exact h3)
        rw [if_neg h3]
        by_cases h4 : figB (pB tx N (p + 2)) = false
        · rw [if_pos h4]
          exact ⟨hlt1, by show p ≤ p + 2; omega, fun _ => ⟨by show p + 1 ≤ p + 2; omega, hlt⟩⟩
        · have hlt2 : p + 2 < N := fig_lt (by rw [Bool.not_eq_false] at h4; exact h4)
          rw [if_neg h4]
          exact ⟨by show p + 2 ≤ N; omega, by show p ≤ p + 2; omega, fun z => by cases z⟩
theorem pend_pos {p : Nat} {F : List Int32} (hp : p ≤ N) : (pend tx N p F).2.1 ≤ N ∧ ((pend tx N p F).1 = true → p + 1 ≤ (pend tx N p F).2.1) ∧ (pend tx N p F).2.2 = F := by
  have := sk_le (tx := tx) hp
  unfold pend
  by_cases h : pB tx N (sk tx N p) = 59
  · have hlt : sk tx N p < N := pB_lt (by rw [h]; decide)
    rw [if_pos h]
    exact ⟨hlt, fun _ => by show p + 1 ≤ sk tx N p + 1; omega, rfl⟩
  · rw [if_neg h]
    exact ⟨this.2, (fun z => by cases z), rfl⟩
theorem pord_pos {c : Int32} : ∀ (d k p : Nat) (F : List Int32), p ≤ N → F.length ≤ p → (pord tx N c d k p F).2.1 ≤ N ∧ ((pord tx N c d k p F).1 = true → p + 1 ≤ (pord tx N c d k p F).2.1 ∧ (0 < d → k = 0 → p + 2 ≤ (pord tx N c d k p F).2.1) ∧ (pord tx N c d k p F).2.2.length ≤ (pord tx N c d k p F).2.1 ∧ F.length ≤ (pord tx N c d k p F).2.2.length ∧ (¬ c = 119 → (pord tx N c d k p F).2.2.length = F.length + d) ∧ (c = 119 → (pord tx N c d k p F).2.2.length ≤ F.length + d ∧ (0 < d → k = 0 → F.length + 1 ≤ (pord tx N c d k p F).2.2.length)) ∧ ∀ j, j < F.length → (pord tx N c d k p F).2.2.getD j 0 = F.getD j 0)
  | 0, k, p, F, hp, hF => by
    obtain ⟨a, b, c⟩ := pend_pos (tx := tx) (F := F) hp
    show (pend tx N p F).2.1 ≤ N ∧ ((pend tx N p F).1 = true → p + 1 ≤ (pend tx N p F).2.1 ∧ (0 < 0 → k = 0 → _) ∧ (pend tx N p F).2.2.length ≤ (pend tx N p F).2.1 ∧ F.length ≤ (pend tx N p F).2.2.length ∧ (_ → (pend tx N p F).2.2.length = F.length + 0) ∧ (_ → (pend tx N p F).2.2.length ≤ F.length + 0 ∧ (0 < 0 → k = 0 → _)) ∧ ∀ j, j < F.length → (pend tx N p F).2.2.getD j 0 = F.getD j 0)
    refine ⟨a, fun h => ?_⟩
    have := b h
    rw [c]
    exact ⟨this, fun z => absurd z (Nat.lt_irrefl 0), by omega, Nat.le_refl _, fun _ => rfl, fun _ => ⟨Nat.le_refl _, fun z => absurd z (Nat.lt_irrefl 0)⟩, fun j _ => rfl⟩
  | d + 1, k, p, F, hp, hF => by
    have hs := sk_le (tx := tx) hp
    unfold pord
    by_cases h1 : (c = 119 ∧ 0 < k) ∧ figB (pB tx N (sk tx N p)) = false
    · rw [if_pos h1]
      obtain ⟨a, b, e⟩ := pend_pos (tx := tx) (F := F) hs.2
      refine ⟨a, fun h => ?_⟩
      have := b h
      rw [e]
      exact ⟨by omega, fun _ z => by omega, by omega, Nat.le_refl _, fun z => absurd h1.1.1 z, fun _ => ⟨by omega, fun _ z => by omega⟩, fun j _ => rfl⟩
    · rw [if_neg h1]
      obtain ⟨n1, n2, n3⟩ := pnum_pos (tx := tx) (p := sk tx N p) hs.2 (nb := decide ((c = 114 ∨ c = 111) ∧ d = 0))
      generalize pnum tx N (sk tx N p) (decide ((c = 114 ∨ c = 111) ∧ d = 0)) = r at n1 n2 n3
      by_cases h2 : r.1 = true
      · rw [if_pos h2]
        obtain ⟨m1, m2⟩ := n3 h2
        have hl : (F ++ [r.2.2]).length = F.length + 1 := by rw [List.length_append]; rfl
        obtain ⟨a, b⟩ := pord_pos (c := c) d (k + 1) r.2.1 (F ++ [r.2.2]) n1 (by omega)
        refine ⟨a, fun h => ?_⟩
        obtain ⟨b1, b2, b3, b4, b5, b6, b7⟩ := b h
        refine ⟨by omega, fun _ _ => by omega, b3, by omega, fun z => by have := b5 z; omega, fun z => by have := b6 z; exact ⟨by omega, fun _ _ => by omega⟩, fun j hj => ?_⟩
        rw [b7 j (by omega), List.getD_eq_getElem?_getD, List.getElem?_append_left hj, List.getD_eq_getElem?_getD]
      · rw [if_neg h2]
        exact ⟨n1, fun z => by cases z⟩
end PU
/-! the class reads -/
/-- numbers kept -/
def agr (nu F : List Int32) : Prop := nu.length = 120 ∧ F.length ≤ 120 ∧ ∀ j, j < F.length → nu.getD j 0 = F.getD j 0
theorem agr_push {nu F : List Int32} {v : Int32} (h : agr nu F) (hl : F.length < 120) : agr (nu.set F.length v) (F ++ [v]) := by
  obtain ⟨h1, h2, h3⟩ := h
  refine ⟨by rw [List.length_set]; exact h1, by rw [List.length_append]; show F.length + 1 ≤ 120; omega, fun j hj => ?_⟩
  rw [List.length_append] at hj
  have hj : j < F.length + 1 := hj
  rw [sg (by omega)]
  by_cases e : j = F.length
  · rw [if_pos e, e, List.getD_eq_getElem?_getD, List.getElem?_append_right (Nat.le_refl _), Nat.sub_self]
    rfl
  · rw [if_neg e, h3 j (by omega), List.getD_eq_getElem?_getD, List.getD_eq_getElem?_getD, List.getElem?_append_left (by omega)]
section CR
variable {g : Nat} {by_ kd fi cn nu F : List Int32} {nr at_ ln od : Int32} {h h0 : xH} {N p q : Nat}
theorem l_skip (h2 : 2 ≤ g) (hl : by_.length = 120) (hN : N ≤ 120) : ∀ (d p : Nat) (h : xH), xA h0 g (x_rc g by_ kd fi cn nu nr (nI p) (nI N) od) h → p + d = N → x_EV 137 0 [some (.ref g)] [] h none (x_wr h0 g (x_rc g by_ kd fi cn nu nr (nI (skf by_ N d p)) (nI N) od)) := by
  intro d
  induction d with
  | zero =>
    intro p h A hp
    have hb := A.hb
    refine xe_X3_skipBlanks_0 ?_
    (repeat (first | (simp only [xb_X3_skipBlanks_0, xb_X3_skipBlanks_38, xs_nil, Nat.reduceAdd, true_implies, not_true_eq_false, not_false_eq_true, false_implies, and_true, true_and, x_10, xs_aload_n_0, xs_icmp_ge, xs_bipush_32, xs_icmp_ne, xs_dup_i, xs_dup_a, xs_iconst_1, xs_iadd, xs_goto, xs_return]) | (refine xr_getf (hb 0 _ rfl) (by rfl) ?_)))
    refine ⟨fun _ => ?_, fun z => absurd (nI_le (by omega) (by omega)) z⟩
    refine xe_X3_skipBlanks_38 ?_
    (repeat (first | (simp only [xb_X3_skipBlanks_0, xb_X3_skipBlanks_38, xs_nil, Nat.reduceAdd, true_implies, not_true_eq_false, not_false_eq_true, false_implies, and_true, true_and, x_10, xs_aload_n_0, xs_icmp_ge, xs_bipush_32, xs_icmp_ne, xs_dup_i, xs_dup_a, xs_iconst_1, xs_iadd, xs_goto, xs_return]) ))
    exact A.e
  | succ d ih =>
    intro p h A hp
    have hb := A.hb
    have ihT := ih (p + 1)
    refine xe_X3_skipBlanks_0 ?_
    (repeat (first | (simp only [xb_X3_skipBlanks_0, xb_X3_skipBlanks_38, xs_nil, Nat.reduceAdd, true_implies, not_true_eq_false, not_false_eq_true, false_implies, and_true, true_and, x_10, xs_aload_n_0, xs_icmp_ge, xs_bipush_32, xs_icmp_ne, xs_dup_i, xs_dup_a, xs_iconst_1, xs_iadd, xs_goto, xs_return]) | (refine xr_getf (hb 0 _ rfl) (by rfl) ?_)))
    refine ⟨fun z => absurd z (nI_ge (by omega) (by omega)), fun _ => ?_⟩
    (repeat (first | (simp only [xb_X3_skipBlanks_0, xb_X3_skipBlanks_38, xs_nil, Nat.reduceAdd, true_implies, not_true_eq_false, not_false_eq_true, false_implies, and_true, true_and, x_10, xs_aload_n_0, xs_icmp_ge, xs_bipush_32, xs_icmp_ne, xs_dup_i, xs_dup_a, xs_iconst_1, xs_iadd, xs_goto, xs_return]) | (refine xr_getf (hb 0 _ rfl) (by rfl) ?_) | (refine xr_iaload (hb 1 _ rfl) (x_in (by rw [hl]; omega) (by rw [hl]; decide)) ?_)))
    rw [xg_n (by omega)]
    unfold skf
    by_cases hz : by_.getD p 0 = 32
    · rw [if_pos ⟨by omega, hz⟩]
      refine ⟨fun z => absurd hz z, fun _ => ?_⟩
      (repeat (first | (simp only [xb_X3_skipBlanks_0, xb_X3_skipBlanks_38, xs_nil, Nat.reduceAdd, true_implies, not_true_eq_false, not_false_eq_true, false_implies, and_true, true_and, x_10, xs_aload_n_0, xs_icmp_ge, xs_bipush_32, xs_icmp_ne, xs_dup_i, xs_dup_a, xs_iconst_1, xs_iadd, xs_goto, xs_return]) | (rw [xn_dup]) | (refine xr_getf (hb 0 _ rfl) (by rfl) ?_)))
      rw [nI_1]
      refine xa_putf A 0 (by rfl) h2 (by exact Nat.le_of_ble_eq_true rfl) (x_fit_int _) (fun h1 A1 => ?_)
      (repeat (first | (simp only [xb_X3_skipBlanks_0, xb_X3_skipBlanks_38, xs_nil, Nat.reduceAdd, true_implies, not_true_eq_false, not_false_eq_true, false_implies, and_true, true_and, x_10, xs_aload_n_0, xs_icmp_ge, xs_bipush_32, xs_icmp_ne, xs_dup_i, xs_dup_a, xs_iconst_1, xs_iadd, xs_goto, xs_return]) ))
      exact ihT h1 A1 (by omega)
    · rw [if_neg (fun z => hz z.2)]
      refine ⟨fun _ => ?_, fun z => absurd hz z⟩
      refine xe_X3_skipBlanks_38 ?_
      (repeat (first | (simp only [xb_X3_skipBlanks_0, xb_X3_skipBlanks_38, xs_nil, Nat.reduceAdd, true_implies, not_true_eq_false, not_false_eq_true, false_implies, and_true, true_and, x_10, xs_aload_n_0, xs_icmp_ge, xs_bipush_32, xs_icmp_ne, xs_dup_i, xs_dup_a, xs_iconst_1, xs_iadd, xs_goto, xs_return]) ))
      exact A.e
theorem c_skip (hb : x_hb h g (x_rc g by_ kd fi cn nu nr (nI p) (nI N) od)) (h2 : 2 ≤ g) (hl : by_.length = 120) (hN : N ≤ 120) (hp : p ≤ N) : xK 137 [.ref g] h none (x_wr h g (x_rc g by_ kd fi cn nu nr (nI (sk by_ N p)) (nI N) od)) :=
  xK_X3_skipBlanks (hb 0 _ rfl) (l_skip h2 hl hN (N - p) p h (xA.of hb (Nat.zero_lt_succ _)) (by omega))
theorem c_hereP (hb : x_hb h g (x_rc g by_ kd fi cn nu nr (nI p) (nI N) od)) (hl : by_.length = 120) (hN : N ≤ 120) (hp : p ≤ N + 3) : xK 138 [.ref g] h (some (.int (pB by_ N p))) h := by
  have c := c_here hb (fun z => by
    have := (nI_ltI (by omega) (by omega)).mp z
    rw [hl]
    exact x_in (by omega) (by decide))
  have e : (if nI p < nI N then xg by_ (nI p) else -1) = pB by_ N p := by
    unfold pB
    rw [xg_n (by omega)]
    exact ite_iff (nI_ltI (by omega) (by omega))
  rw [e] at c
  exact c
theorem c_figP (hb : x_hb h g (x_rc g by_ kd fi cn nu nr (nI p) (nI N) od)) (hl : by_.length = 120) (hN : N ≤ 120) (hp : p ≤ N + 3) : xK 140 [.ref g] h (some (.int (if figB (pB by_ N p) = true then 1 else 0))) h := by
  have c := c_hereP hb hl hN hp
  refine xK_X3_isFigureHere (hb 0 _ rfl) ?_
  generalize pB by_ N p = q at c
  have e : (if figB q = true then (1 : Int32) else 0) = (if 48 ≤ q ∧ q ≤ 57 then 1 else 0) := ite_iff (by unfold figB; exact decide_eq_true_iff)
  rw [e]
  (repeat' (first | (simp only [xb_X3_isFigureHere_0, xb_X3_isFigureHere_21, xb_X3_isFigureHere_22, xs_nil, Nat.reduceAdd, true_implies, not_true_eq_false, not_false_eq_true, false_implies, and_true, true_and, x_10, xs_aload_n_0, xs_istore_n_1_i, xs_istore_n_1_a, xs_istore_n_1_n, xs_istore_n_1_l, xs_iload_n_1, xs_bipush_48, xs_icmp_lt, xs_bipush_57, xs_icmp_gt, xs_iconst_1, xs_goto, xs_iconst_0, xs_ireturn]) | (refine ⟨fun _ => ?_, fun _ => ?_⟩) | refine xe_X3_isFigureHere_0 ?_ | refine xe_X3_isFigureHere_21 ?_ | refine xe_X3_isFigureHere_22 ?_ | refine xc_v1_1 (c) (Nat.le_of_ble_eq_true rfl) ?_))
  all_goals (first | (simp_all [x_bit, x_ite0, Int32.not_lt, Int32.not_le]; done) | ((try simp only [x_ite0] at *) <;> simp [x_bit, Int32.lt_iff_toInt_lt, Int32.le_iff_toInt_le] at * <;> omega))
theorem c_keep {x : Int32} (hb : x_hb h g (x_rc g by_ kd fi cn nu (nI q) at_ ln od)) (h2 : 2 ≤ g) (hl : nu.length = 120) (hq : q < 120) : xK 141 [.ref g, .int x] h none (x_wr h g (x_rc g by_ kd fi cn (nu.set q x) (nI (q + 1)) at_ ln od)) := by
  have A := xA.of hb (Nat.zero_lt_succ _)
  refine xK_X3_keepNumber (hb 0 _ rfl) (xe_X3_keepNumber_0 ?_)
  (repeat (first | (simp only [xb_X3_keepNumber_0, xb_X3_keepNumber_29, xs_nil, Nat.reduceAdd, true_implies, not_true_eq_false, not_false_eq_true, false_implies, and_true, true_and, x_10, xs_aload_n_0, xs_bipush_120, xs_icmp_ge, xs_iload_n_1, xs_dup_i, xs_dup_a, xs_iconst_1, xs_iadd, xs_return]) | (refine xr_getf (hb 0 _ rfl) (by rfl) ?_)))
  refine ⟨fun z => absurd z (nI_ge (b := 120) hq (by decide)), fun _ => ?_⟩
  (repeat (first | (simp only [xb_X3_keepNumber_0, xb_X3_keepNumber_29, xs_nil, Nat.reduceAdd, true_implies, not_true_eq_false, not_false_eq_true, false_implies, and_true, true_and, x_10, xs_aload_n_0, xs_bipush_120, xs_icmp_ge, xs_iload_n_1, xs_dup_i, xs_dup_a, xs_iconst_1, xs_iadd, xs_return]) | (refine xr_getf (hb 0 _ rfl) (by rfl) ?_)))
  refine xa_iastore A 5 (by rfl) h2 (x_in (by rw [hl]; exact hq) (by rw [hl]; decide)) (fun h1 A => ?_)
  rw [xu_n (by omega)] at A
  have hb := A.hb
  (repeat (first | (simp only [xb_X3_keepNumber_0, xb_X3_keepNumber_29, xs_nil, Nat.reduceAdd, true_implies, not_true_eq_false, not_false_eq_true, false_implies, and_true, true_and, x_10, xs_aload_n_0, xs_bipush_120, xs_icmp_ge, xs_iload_n_1, xs_dup_i, xs_dup_a, xs_iconst_1, xs_iadd, xs_return]) | (rw [xn_dup]) | (refine xr_getf (hb 0 _ rfl) (by rfl) ?_)))
  rw [nI_1]
  refine xa_putf A 0 (by rfl) h2 (by exact Nat.le_of_ble_eq_true rfl) (x_fit_int _) (fun h1 A => ?_)
  (repeat (first | (simp only [xb_X3_keepNumber_0, xb_X3_keepNumber_29, xs_nil, Nat.reduceAdd, true_implies, not_true_eq_false, not_false_eq_true, false_implies, and_true, true_and, x_10, xs_aload_n_0, xs_bipush_120, xs_icmp_ge, xs_iload_n_1, xs_dup_i, xs_dup_a, xs_iconst_1, xs_iadd, xs_return]) ))
  refine xe_X3_keepNumber_29 ?_
  (repeat (first | (simp only [xb_X3_keepNumber_0, xb_X3_keepNumber_29, xs_nil, Nat.reduceAdd, true_implies, not_true_eq_false, not_false_eq_true, false_implies, and_true, true_and, x_10, xs_aload_n_0, xs_bipush_120, xs_icmp_ge, xs_iload_n_1, xs_dup_i, xs_dup_a, xs_iconst_1, xs_iadd, xs_return]) ))
  exact A.e
theorem c_mostN {x : Int32} : xK 139 [.int x] h (some (.int (nI (mostN x)))) h := by
  refine xK_X3_mostNumbers (xe_X3_mostNumbers_0 ?_)
  (repeat (first | (simp only [xb_X3_mostNumbers_0, xb_X3_mostNumbers_52, xb_X3_mostNumbers_54, xb_X3_mostNumbers_56, xb_X3_mostNumbers_58, xb_X3_mostNumbers_60, xb_X3_mostNumbers_63, xs_nil, Nat.reduceAdd, true_implies, not_true_eq_false, not_false_eq_true, false_implies, and_true, true_and, x_10, xs_iload_n_0, xs_iconst_1, xs_ireturn, xs_iconst_3, xs_iconst_4, xs_iconst_2, xs_bipush_6, xs_iconst_0]) ))
  unfold mostN
  have key : ∀ (n : Nat) (a : Int32), a = nI n → n < 2 ^ 31 → (x = a ↔ x.toInt = (n : Int)) := by
    intro n a ha hn
    rw [← Int32.toInt_inj, ha, nI_toInt hn]
  by_cases h1 : x = 101
  · subst h1
    refine xr_look 52 (by decide) (xe_X3_mostNumbers_52 ?_)
    (repeat (first | (simp only [xb_X3_mostNumbers_0, xb_X3_mostNumbers_52, xb_X3_mostNumbers_54, xb_X3_mostNumbers_56, xb_X3_mostNumbers_58, xb_X3_mostNumbers_60, xb_X3_mostNumbers_63, xs_nil, Nat.reduceAdd, true_implies, not_true_eq_false, not_false_eq_true, false_implies, and_true, true_and, x_10, xs_iload_n_0, xs_iconst_1, xs_ireturn, xs_iconst_3, xs_iconst_4, xs_iconst_2, xs_bipush_6, xs_iconst_0]) ))
    (first | exact ⟨Or.inl trivial, rfl⟩ | exact ⟨Or.inl trivial, rfl, rfl⟩ | (simp; done) | exact ⟨by simp, rfl⟩ | exact ⟨by simp, rfl, rfl⟩ | rfl)
  by_cases h2 : x = 102
  · subst h2
    refine xr_look 54 (by decide) (xe_X3_mostNumbers_54 ?_)
    (repeat (first | (simp only [xb_X3_mostNumbers_0, xb_X3_mostNumbers_52, xb_X3_mostNumbers_54, xb_X3_mostNumbers_56, xb_X3_mostNumbers_58, xb_X3_mostNumbers_60, xb_X3_mostNumbers_63, xs_nil, Nat.reduceAdd, true_implies, not_true_eq_false, not_false_eq_true, false_implies, and_true, true_and, x_10, xs_iload_n_0, xs_iconst_1, xs_ireturn, xs_iconst_3, xs_iconst_4, xs_iconst_2, xs_bipush_6, xs_iconst_0]) ))
    (first | exact ⟨Or.inl trivial, rfl⟩ | exact ⟨Or.inl trivial, rfl, rfl⟩ | (simp; done) | exact ⟨by simp, rfl⟩ | exact ⟨by simp, rfl, rfl⟩ | rfl)
  by_cases h3 : x = 111
  · subst h3
    refine xr_look 58 (by decide) (xe_X3_mostNumbers_58 ?_)
    (repeat (first | (simp only [xb_X3_mostNumbers_0, xb_X3_mostNumbers_52, xb_X3_mostNumbers_54, xb_X3_mostNumbers_56, xb_X3_mostNumbers_58, xb_X3_mostNumbers_60, xb_X3_mostNumbers_63, xs_nil, Nat.reduceAdd, true_implies, not_true_eq_false, not_false_eq_true, false_implies, and_true, true_and, x_10, xs_iload_n_0, xs_iconst_1, xs_ireturn, xs_iconst_3, xs_iconst_4, xs_iconst_2, xs_bipush_6, xs_iconst_0]) ))
    (first | exact ⟨Or.inl trivial, rfl⟩ | exact ⟨Or.inl trivial, rfl, rfl⟩ | (simp; done) | exact ⟨by simp, rfl⟩ | exact ⟨by simp, rfl, rfl⟩ | rfl)
  by_cases h4 : x = 114
  · subst h4
    refine xr_look 56 (by decide) (xe_X3_mostNumbers_56 ?_)
    (repeat (first | (simp only [xb_X3_mostNumbers_0, xb_X3_mostNumbers_52, xb_X3_mostNumbers_54, xb_X3_mostNumbers_56, xb_X3_mostNumbers_58, xb_X3_mostNumbers_60, xb_X3_mostNumbers_63, xs_nil, Nat.reduceAdd, true_implies, not_true_eq_false, not_false_eq_true, false_implies, and_true, true_and, x_10, xs_iload_n_0, xs_iconst_1, xs_ireturn, xs_iconst_3, xs_iconst_4, xs_iconst_2, xs_bipush_6, xs_iconst_0]) ))
    (first | exact ⟨Or.inl trivial, rfl⟩ | exact ⟨Or.inl trivial, rfl, rfl⟩ | (simp; done) | exact ⟨by simp, rfl⟩ | exact ⟨by simp, rfl, rfl⟩ | rfl)
  by_cases h5 : x = 119
  · subst h5
    refine xr_look 60 (by decide) (xe_X3_mostNumbers_60 ?_)
    (repeat (first | (simp only [xb_X3_mostNumbers_0, xb_X3_mostNumbers_52, xb_X3_mostNumbers_54, xb_X3_mostNumbers_56, xb_X3_mostNumbers_58, xb_X3_mostNumbers_60, xb_X3_mostNumbers_63, xs_nil, Nat.reduceAdd, true_implies, not_true_eq_false, not_false_eq_true, false_implies, and_true, true_and, x_10, xs_iload_n_0, xs_iconst_1, xs_ireturn, xs_iconst_3, xs_iconst_4, xs_iconst_2, xs_bipush_6, xs_iconst_0]) ))
    (first | exact ⟨Or.inl trivial, rfl⟩ | exact ⟨Or.inl trivial, rfl, rfl⟩ | (simp; done) | exact ⟨by simp, rfl⟩ | exact ⟨by simp, rfl, rfl⟩ | rfl)
  rw [if_neg h1, if_neg h2, if_neg h3, if_neg h4, if_neg h5]
  have e1 := fun z => h1 ((key 101 101 rfl (by decide)).mpr z)
  have e2 := fun z => h2 ((key 102 102 rfl (by decide)).mpr z)
  have e3 := fun z => h3 ((key 111 111 rfl (by decide)).mpr z)
  have e4 := fun z => h4 ((key 114 114 rfl (by decide)).mpr z)
  have e5 := fun z => h5 ((key 119 119 rfl (by decide)).mpr z)
  refine xr_look 63 ?_ (xe_X3_mostNumbers_63 ?_)
  · show ((1 : Int) + Op.lookupswitch.offset [(101, 51), (102, 53), (111, 57), (114, 55), (119, 59)] 62 x.toInt).toNat = 63
    rw [Op.lookupswitch.offset_cons, if_neg (fun z => e1 z.symm), Op.lookupswitch.offset_cons, if_neg (fun z => e2 z.symm), Op.lookupswitch.offset_cons, if_neg (fun z => e3 z.symm), Op.lookupswitch.offset_cons, if_neg (fun z => e4 z.symm), Op.lookupswitch.offset_cons, if_neg (fun z => e5 z.symm), Op.lookupswitch.offset_nil]
    rfl
  · (repeat (first | (simp only [xb_X3_mostNumbers_0, xb_X3_mostNumbers_52, xb_X3_mostNumbers_54, xb_X3_mostNumbers_56, xb_X3_mostNumbers_58, xb_X3_mostNumbers_60, xb_X3_mostNumbers_63, xs_nil, Nat.reduceAdd, true_implies, not_true_eq_false, not_false_eq_true, false_implies, and_true, true_and, x_10, xs_iload_n_0, xs_iconst_1, xs_ireturn, xs_iconst_3, xs_iconst_4, xs_iconst_2, xs_bipush_6, xs_iconst_0]) ))
    (first | exact ⟨Or.inl trivial, rfl⟩ | exact ⟨Or.inl trivial, rfl, rfl⟩ | (simp; done) | exact ⟨by simp, rfl⟩ | exact ⟨by simp, rfl, rfl⟩ | rfl)
end CR
