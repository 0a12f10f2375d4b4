/-! a State as one thing -/
/-- prices, root prices, sorts, extras, settings, entries; entries of words, rows, costs, repairs, stumbles, words -/
abbrev kS : Type := List Int32 × List Int32 × List Int32 × List Int32 × List Int32 × Int32 × List Int32 × List Int32 × List Int32 × List Int32 × List Int32 × Int32
abbrev sP (s : kS) : List Int32 := s.1
abbrev sR (s : kS) : List Int32 := s.2.1
abbrev sS (s : kS) : List Int32 := s.2.2.1
abbrev sX (s : kS) : List Int32 := s.2.2.2.1
abbrev sT (s : kS) : List Int32 := s.2.2.2.2.1
abbrev sec (s : kS) : Int32 := s.2.2.2.2.2.1
abbrev sen (s : kS) : List Int32 := s.2.2.2.2.2.2.1
abbrev sro (s : kS) : List Int32 := s.2.2.2.2.2.2.2.1
abbrev sco (s : kS) : List Int32 := s.2.2.2.2.2.2.2.2.1
abbrev sre (s : kS) : List Int32 := s.2.2.2.2.2.2.2.2.2.1
abbrev ssu (s : kS) : List Int32 := s.2.2.2.2.2.2.2.2.2.2.1
abbrev sct (s : kS) : Int32 := s.2.2.2.2.2.2.2.2.2.2.2
abbrev x_ts (p : Nat) (s : kS) : List xE := x_tc p (sP s) (sR s) (sS s) (sX s) (sT s) (sec s) (sen s) (sro s) (sco s) (sre s) (ssu s) (sct s)
/-- the number of words -/
def sn (s : kS) : Nat := (sct s).toNatClampNeg
def sne (s : kS) : Nat := (sec s).toNatClampNeg
/-- lengths -/
def svl (s : kS) : Prop := ((sP s).length = 72 ∧ (sR s).length = 6 ∧ (sS s).length = 24 ∧ (sX s).length = 12 ∧ (sT s).length = 3) ∧ (sen s).length = 7 ∧ (sro s).length = 7 ∧ (sco s).length = 7 ∧ (sre s).length = 7 ∧ (ssu s).length = 7
/-- what may stand where -/
def svv (s : kS) : Prop := (∀ k, (sP s).getD k 0 = -1 ∨ ∃ j, j ≤ 9 ∧ (sP s).getD k 0 = nI j) ∧ (∀ k, (sR s).getD k 0 = -1 ∨ ∃ j, j ≤ 9 ∧ (sR s).getD k 0 = nI j) ∧ (∀ k, (sS s).getD k 0 = -1 ∨ ∃ j, j < 6 ∧ (sS s).getD k 0 = nI j) ∧ (∀ k, ∃ j, j ≤ 9 ∧ (sX s).getD k 0 = nI j) ∧ ((∃ j, j ≤ 3 ∧ (sT s).getD 0 0 = nI j) ∧ (∃ j, j ≤ 9 ∧ (sT s).getD 1 0 = nI j) ∧ (∃ j, j ≤ 99 ∧ (sT s).getD 2 0 = nI j)) ∧ (∀ k, ∃ j, j < 12 ∧ (sen s).getD k 0 = nI j) ∧ (sct s = nI (sn s) ∧ sn s ≤ 6) ∧ (sec s = nI (sne s) ∧ sne s ≤ 12)
def sv (s : kS) : Prop := svl s ∧ svv s
section SV
variable {s : kS}
theorem sv.lP (h : sv s) : (sP s).length = 72 := h.1.1.1
theorem sv.lR (h : sv s) : (sR s).length = 6 := h.1.1.2.1
theorem sv.lS (h : sv s) : (sS s).length = 24 := h.1.1.2.2.1
theorem sv.lX (h : sv s) : (sX s).length = 12 := h.1.1.2.2.2.1
theorem sv.lT (h : sv s) : (sT s).length = 3 := h.1.1.2.2.2.2
theorem sv.len (h : sv s) : (sen s).length = 7 := h.1.2.1
theorem sv.lro (h : sv s) : (sro s).length = 7 := h.1.2.2.1
theorem sv.lco (h : sv s) : (sco s).length = 7 := h.1.2.2.2.1
theorem sv.lre (h : sv s) : (sre s).length = 7 := h.1.2.2.2.2.1
theorem sv.lsu (h : sv s) : (ssu s).length = 7 := h.1.2.2.2.2.2
theorem sv.vP (h : sv s) (k : Nat) : (sP s).getD k 0 = -1 ∨ ∃ j, j ≤ 9 ∧ (sP s).getD k 0 = nI j := h.2.1 k
theorem sv.vR (h : sv s) (k : Nat) : (sR s).getD k 0 = -1 ∨ ∃ j, j ≤ 9 ∧ (sR s).getD k 0 = nI j := h.2.2.1 k
theorem sv.vS (h : sv s) (k : Nat) : (sS s).getD k 0 = -1 ∨ ∃ j, j < 6 ∧ (sS s).getD k 0 = nI j := h.2.2.2.1 k
theorem sv.vX (h : sv s) (k : Nat) : ∃ j, j ≤ 9 ∧ (sX s).getD k 0 = nI j := h.2.2.2.2.1 k
theorem sv.vT0 (h : sv s) : ∃ j, j ≤ 3 ∧ (sT s).getD 0 0 = nI j := h.2.2.2.2.2.1.1
theorem sv.vT1 (h : sv s) : ∃ j, j ≤ 9 ∧ (sT s).getD 1 0 = nI j := h.2.2.2.2.2.1.2.1
theorem sv.vT2 (h : sv s) : ∃ j, j ≤ 99 ∧ (sT s).getD 2 0 = nI j := h.2.2.2.2.2.1.2.2
theorem sv.ven (h : sv s) (k : Nat) : ∃ j, j < 12 ∧ (sen s).getD k 0 = nI j := h.2.2.2.2.2.2.1 k
theorem sv.ct (h : sv s) : sct s = nI (sn s) := h.2.2.2.2.2.2.2.1.1
theorem sv.n6 (h : sv s) : sn s ≤ 6 := h.2.2.2.2.2.2.2.1.2
theorem sv.ec (h : sv s) : sec s = nI (sne s) := h.2.2.2.2.2.2.2.2.1
theorem sv.ne (h : sv s) : sne s ≤ 12 := h.2.2.2.2.2.2.2.2.2
/-- entry of word i -/
theorem sv.i1 (h : sv s) {i : Nat} (hi : i < 7) : xin (nI i) (sen s).length := x_in (by rw [h.len]; exact hi) (by rw [h.len]; decide)
theorem sv.e (h : sv s) (i : Nat) (hi : i < 7) : ∃ j, j < 12 ∧ xg (sen s) (nI i) = nI j := by
  rw [xg_n (by omega)]
  exact h.ven i
theorem sv.i3 (h : sv s) {i r : Nat} (hi : i < 7) (hr : r < 2) : xin (xg (sen s) (nI i) * 2 + nI r) (sS s).length := by
  obtain ⟨j, h1, h2⟩ := h.e i hi
  rw [h2, show (2 : Int32) = nI 2 from rfl, pk_mul, nI_add, h.lS]
  exact x_in (by omega) (by decide)
theorem sv.i6 (h : sv s) {i : Nat} (hi : i < 7) : xin (xg (sen s) (nI i)) (sX s).length := by
  obtain ⟨j, h1, h2⟩ := h.e i hi
  rw [h2, h.lX]
  exact x_in (by omega) (by decide)
/-- the sort of word i in reading r -/
theorem sv.sort (h : sv s) {i r : Nat} (hi : i < 7) (hr : r < 2) : ksort (sS s) (sen s) (nI i) (nI r) = -1 ∨ ∃ j, j < 6 ∧ ksort (sS s) (sen s) (nI i) (nI r) = nI j := by
  obtain ⟨j, h1, h2⟩ := h.e i hi
  unfold ksort
  rw [h2, show (2 : Int32) = nI 2 from rfl, pk_mul, nI_add, xg_n (by omega)]
  exact h.vS _
theorem sv.i5 (h : sv s) {i r d q : Nat} (hi : i < 7) (hr : r < 2) (hd : d < 7) (hq : q < 2) (h1 : ¬ ksort (sS s) (sen s) (nI i) (nI r) = -1) (h2 : ¬ ksort (sS s) (sen s) (nI d) (nI q) = -1) : xin ((ksort (sS s) (sen s) (nI d) (nI q) * 6 + ksort (sS s) (sen s) (nI i) (nI r)) * 2 + (if nI d ≤ nI i then 1 else 0)) (sP s).length := by
  obtain ⟨a, a1, a2⟩ := (h.sort hi hr).resolve_left h1
  obtain ⟨b, b1, b2⟩ := (h.sort hd hq).resolve_left h2
  rw [a2, b2, h.lP]
  have : (if nI d ≤ nI i then (1 : Int32) else 0) = nI (if nI d ≤ nI i then 1 else 0) := by split <;> rfl
  rw [this, show (2 : Int32) = nI 2 from rfl, show (6 : Int32) = nI 6 from rfl, pk_mul, nI_add, pk_mul, nI_add]
  refine x_in ?_ (by decide)
  split <;> omega
theorem sv.i5r (h : sv s) {i r : Nat} (hi : i < 7) (hr : r < 2) (h1 : ¬ ksort (sS s) (sen s) (nI i) (nI r) = -1) : xin (ksort (sS s) (sen s) (nI i) (nI r)) (sR s).length := by
  obtain ⟨a, a1, a2⟩ := (h.sort hi hr).resolve_left h1
  rw [a2, h.lR]
  exact x_in (by omega) (by decide)
theorem sv.i7 (h : sv s) : xin 0 (sT s).length := by
  rw [h.lT]
  exact x_in (k := 0) (by decide) (by decide)
theorem sv.iro (h : sv s) {i : Nat} (hi : i < 7) (hlt : nI i < sct s) : xin (sct s - 1) (sro s).length := by
  have h6 := h.n6
  rw [h.ct] at hlt ⊢
  have : 0 < sn s := by
    refine Nat.pos_of_ne_zero fun z => ?_
    rw [z] at hlt
    exact nI_nlt (by omega) (by omega) hlt
  rw [show sn s = (sn s - 1) + 1 by omega, nI_pred, h.lro]
  exact x_in (by omega) (by decide)
end SV
