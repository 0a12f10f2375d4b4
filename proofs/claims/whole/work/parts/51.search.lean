/-! all analyses: the chart's sum beside the reference's search -/
section SE1
variable {s : kS} {n b c wt : Nat}
theorem lok_no {f : Nat → Int32} : ∀ (n k : Nat), k < n → f k = -1 → lok f n = false
  | 0, k, h, _ => by omega
  | n + 1, k, h, e => by
    show (lok f n && !decide (f n = -1)) = false
    by_cases hk : k = n
    · subst hk
      rw [decide_eq_true e]
      simp
    · rw [lok_no n k (by omega) e]
      rfl
theorem kap_cl (hv : sv s) (hn : n ≤ 6) (hne : ∀ w, 1 ≤ w → w ≤ n → ¬ hdg n c w = w) {w : Nat} (h1 : 1 ≤ w) (hw : w ≤ n) : (kap s n b c w = -1 ∨ ∃ a, a < 1000 ∧ kap s n b c w = nI a) ∧ (kap s n b c w).toNatClampNeg ≤ 1000 := by
  have hd := hdg_lt n c w
  have h := kc_n hv (i := w) (r := rho n b w) (d := hdg n c w) (q := rho n b (hdg n c w)) (by omega) (by omega) (fun z => hne w h1 hw z.symm)
  refine ⟨h, ?_⟩
  have h' : kap s n b c w = -1 ∨ ∃ a, a < 1000 ∧ kap s n b c w = nI a := h
  rcases h' with h' | ⟨a, ha, h'⟩
  · rw [h']
    decide
  · rw [h', nI_clamp (by omega)]
    omega
theorem kqp_cl (hv : sv s) (hw9 : wt ≤ 9) {w : Nat} (hw : w < 7) : kqp s (nI wt) n b c w = nI (kqp s (nI wt) n b c w).toNatClampNeg ∧ (kqp s (nI wt) n b c w).toNatClampNeg ≤ 100 := by
  obtain ⟨x, hx, e⟩ := krep_n hv (wt := wt) (i := w) (r := nI (rho n b w)) (d := nI (hdg n c w)) hw9 hw
  have e' : kqp s (nI wt) n b c w = nI x := e
  rw [e', nI_clamp (by omega)]
  exact ⟨rfl, by omega⟩
theorem CA_le (hv : sv s) (hn : n ≤ 6) (hne : ∀ w, 1 ≤ w → w ≤ n → ¬ hdg n c w = w) : CA s n b c ≤ 6000 := by
  have h := nsum_le (F := fun k => (kap s n b c (k + 1)).toNatClampNeg) (B := 1000) n (fun k hk => (kap_cl hv hn hne (by omega) (by omega)).2)
  have h2 : n * 1000 ≤ 6 * 1000 := Nat.mul_le_mul_right _ hn
  exact Nat.le_trans h h2
theorem RA_le (hv : sv s) (hw9 : wt ≤ 9) (hn : n ≤ 6) : RA s (nI wt) n b c ≤ 600 := by
  have h := nsum_le (F := fun k => (kqp s (nI wt) n b c (k + 1)).toNatClampNeg) (B := 100) n (fun k hk => (kqp_cl hv hw9 (by omega)).2)
  have h2 : n * 100 ≤ 6 * 100 := Nat.mul_le_mul_right _ hn
  exact Nat.le_trans h h2
def prA (s : kS) (W : Int32) (n b c : Nat) : vV := bs vmu vo (fun k => lkv s W (k + 1) (rho n b (k + 1)) (hdg n c (k + 1)) (rho n b (hdg n c (k + 1)))) n
theorem prA_eq (hv : sv s) (hw9 : wt ≤ 9) (hn : n ≤ 6) (hne : ∀ w, 1 ≤ w → w ≤ n → ¬ hdg n c w = w) : (okA s n b c = true → (prA s (nI wt) n b c).1.1 = vkey (CA s n b c) (RA s (nI wt) n b c) (rowN n b c) ∧ (prA s (nI wt) n b c).2 = 1) ∧ (¬ okA s n b c = true → prA s (nI wt) n b c = vz) := by
  have e1 : prA s (nI wt) n b c = bs vmu vo (fun k => lv (kap s n b c (k + 1)) (nI (kqp s (nI wt) n b c (k + 1)).toNatClampNeg) (nI ((8 * rho n b (k + 1) + hdg n c (k + 1)) * 16 ^ (6 - (k + 1))))) n := by
    refine bs_congr n (fun k hk => ?_)
    have hd := hdg_lt n c (k + 1)
    have hr := rho_lt n b (k + 1)
    show lv (kap s n b c (k + 1)) (kqp s (nI wt) n b c (k + 1)) (kpart (nI (k + 1)) (nI (rho n b (k + 1))) (nI (hdg n c (k + 1)))) = _
    rw [kpart_n (k + 1) (by omega) _ hr _ (by omega), ← (kqp_cl hv hw9 (w := k + 1) (by omega)).1]
  have e2 := lv_prod (c := fun k => kap s n b c (k + 1)) (Q := fun k => (kqp s (nI wt) n b c (k + 1)).toNatClampNeg) (P := fun k => (8 * rho n b (k + 1) + hdg n c (k + 1)) * 16 ^ (6 - (k + 1))) n hn (fun k hk => by
    have hd := hdg_lt n c (k + 1)
    have hq := (kqp_cl hv hw9 (n := n) (b := b) (c := c) (w := k + 1) (by omega)).2
    exact ⟨(kap_cl hv hn hne (by omega) (by omega)).1, by show (kqp s (nI wt) n b c (k + 1)).toNatClampNeg < 1000; omega, part_lt (by omega) (rho_lt n b (k + 1)) (by omega)⟩)
  rw [rowN_sum b c n hn] at e2
  have hC := CA_le (b := b) hv hn hne
  have hR := RA_le (b := b) (c := c) hv hw9 hn
  have hrw := rowN_lt hn b c
  refine ⟨fun h => ?_, fun h => ?_⟩
  · have h' : lok (fun k => kap s n b c (k + 1)) n = true := h
    rw [e1, e2, if_pos h']
    exact ⟨Nat.min_eq_left (Nat.le_of_lt (vkey_lt (a := CA s n b c) (b := RA s (nI wt) n b c) (c := rowN n b c) (by omega) (by omega) (by omega))), rfl⟩
  · have h' : ¬ lok (fun k => kap s n b c (k + 1)) n = true := h
    rw [e1, e2, if_neg h']
theorem vkey_ord {C R w C' R' w' : Nat} (h1 : R < 4096) (h2 : R' < 4096) (h3 : w < 16777216) (h4 : w' < 16777216) : (vkey C' R' w' < vkey C R w ↔ (C' + R' < C + R ∨ C' + R' = C + R ∧ (R' < R ∨ R' = R ∧ w' < w))) ∧ (vkey C' R' w' = vkey C R w → C' = C ∧ R' = R ∧ w' = w) := by
  unfold vkey
  omega
theorem better_iff {q C R k C' R' k' : Nat} (h0 : 0 < q) (hq : q < 2 ^ 31) (h1 : C < 10000) (h2 : R < 10000) (h3 : k < 100000000) (h4 : C' < 10000) (h5 : R' < 10000) (h6 : k' < 100000000) : (if nI q = 0 ∨ ¬ nI C' + nI R' = nI C + nI R then nI q = 0 ∨ nI C' + nI R' < nI C + nI R else nI R' < nI R ∨ nI R' = nI R ∧ nI k' < nI k) ↔ (C' + R' < C + R ∨ C' + R' = C + R ∧ (R' < R ∨ R' = R ∧ k' < k)) := by
  have q0 : ¬ nI q = 0 := nI_ne0 h0 hq
  rw [nI_add, nI_add]
  by_cases e : C' + R' = C + R
  · rw [if_neg (fun z => z.elim q0 (fun y => y (by rw [e]))), nI_ltI (by omega) (by omega), nI_eq (by omega) (by omega), nI_ltI (by omega) (by omega)]
    omega
  · rw [if_pos (Or.inr (fun z => e ((nI_eq (by omega) (by omega)).mp z))), nI_ltI (by omega) (by omega)]
    refine ⟨fun z => z.elim (fun y => absurd y q0) Or.inl, fun z => z.elim Or.inr (fun y => absurd y.1 e)⟩
/-- what both have found so far: how many, and the best -/
def accR (s : kS) (W : Int32) (n K : Nat) (v : vV) (m : mR) : Prop := m.1 = nI v.2 ∧ v.2 ≤ K ∧ ((v.2 = 0 ∧ v.1.1 = 288230376151711744) ∨ (0 < v.2 ∧ ∃ b c, b < 2 ^ n ∧ c ∈ tT n ∧ okA s n b c = true ∧ v.1.1 = vkey (CA s n b c) (RA s W n b c) (rowN n b c) ∧ m.2 = (nI (CA s n b c), nI (RA s W n b c), nI (codN n b c))))
theorem acc_step {nw hd rd so ah ar : List Int32} {rep : Bool} {K : Nat} {v : vV} {m : mR} (hv : sv s) (hw9 : wt ≤ 9) (h1n : 1 ≤ n) (hn : n ≤ 6) (hb : b < 2 ^ n) (hc : c ∈ tT n) (hK : K < 2 ^ 31) (h : accR s (nI wt) n K v m)
    (hV : mval nw hd rd so n = if okA s n b c = true then nI (CA s n b c) else -1) (hR : (if rep = true then mrep nw hd rd ah ar n (n - 1) else 0) = nI (RA s (nI wt) n b c)) (hX : xcode rd hd n = nI (codN n b c)) :
    accR s (nI wt) n (K + 1) (vad v (prA s (nI wt) n b c)) (mtry nw hd rd so ah ar n rep m) := by
  have hne : ∀ {c : Nat}, c ∈ tT n → ∀ w, 1 ≤ w → w ≤ n → ¬ hdg n c w = w := fun hc w a b => tree_ne h1n hn hc a b
  obtain ⟨p1, p2⟩ := prA_eq (b := b) hv hw9 hn (hne hc)
  obtain ⟨a1, a2, a3⟩ := h
  have hC := CA_le (b := b) hv hn (hne hc)
  have hRA := RA_le (b := b) (c := c) hv hw9 hn
  have hrw := rowN_lt hn b c
  have hcd := codN_lt hn b c
  unfold mtry
  rw [hV, hR, hX]
  by_cases ok : okA s n b c = true
  · obtain ⟨q1, q2⟩ := p1 ok
    have hlt := vkey_lt (a := CA s n b c) (b := RA s (nI wt) n b c) (c := rowN n b c) (by omega) (by omega) (by omega)
    rw [if_pos ok, if_neg (nI_pos (by omega))]
    have e1 : (vad v (prA s (nI wt) n b c)).1.1 = min v.1.1 (vkey (CA s n b c) (RA s (nI wt) n b c) (rowN n b c)) := by
      show min v.1.1 (prA s (nI wt) n b c).1.1 = _
      rw [q1]
    have e2 : (vad v (prA s (nI wt) n b c)).2 = v.2 + 1 := by
      show v.2 + (prA s (nI wt) n b c).2 = _
      rw [q2]
    refine ⟨?_, ?_, Or.inr ⟨?_, ?_⟩⟩
    · rw [e2, a1]
      exact nI_1 _
    · rw [e2]
      omega
    · rw [e2]
      omega
    · rw [e1]
      rcases a3 with ⟨z1, z2⟩ | ⟨z1, b0, c0, y1, y2, y3, y4, y5⟩
      · refine ⟨b, c, hb, hc, ok, ?_, ?_⟩
        · rw [z2]
          exact Nat.min_eq_right (Nat.le_of_lt hlt)
        · have m0 : m.1 = 0 := by rw [a1, z1]; rfl
          rw [if_pos (show (if m.1 = 0 ∨ ¬ nI (CA s n b c) + nI (RA s (nI wt) n b c) = m.2.1 + m.2.2.1 then m.1 = 0 ∨ nI (CA s n b c) + nI (RA s (nI wt) n b c) < m.2.1 + m.2.2.1 else nI (RA s (nI wt) n b c) < m.2.2.1 ∨ nI (RA s (nI wt) n b c) = m.2.2.1 ∧ nI (codN n b c) < m.2.2.2) by rw [if_pos (Or.inl m0)]; exact Or.inl m0)]
      · have hC0 := CA_le (b := b0) hv hn (hne y2)
        have hRA0 := RA_le (b := b0) (c := c0) hv hw9 hn
        have hrw0 := rowN_lt hn b0 c0
        have hcd0 := codN_lt hn b0 c0
        have bi := better_iff (q := v.2) (C := CA s n b0 c0) (R := RA s (nI wt) n b0 c0) (k := codN n b0 c0) (C' := CA s n b c) (R' := RA s (nI wt) n b c) (k' := codN n b c) z1 (by omega) (by omega) (by omega) (by omega) (by omega) (by omega) (by omega)
        have vo := (vkey_ord (C := CA s n b0 c0) (R := RA s (nI wt) n b0 c0) (w := rowN n b0 c0) (C' := CA s n b c) (R' := RA s (nI wt) n b c) (w' := rowN n b c) (by omega) (by omega) hrw0 hrw).1
        have rc := (row_cod hn b c b0 c0).1
        rw [rc] at vo
        have iff2 := bi.trans vo.symm
        rw [y4]
        have f1 : m.1 = nI v.2 := a1
        have f2 : m.2.1 = nI (CA s n b0 c0) := by rw [y5]
        have f3 : m.2.2.1 = nI (RA s (nI wt) n b0 c0) := by rw [y5]
        have f4 : m.2.2.2 = nI (codN n b0 c0) := by rw [y5]
        by_cases hlt2 : vkey (CA s n b c) (RA s (nI wt) n b c) (rowN n b c) < vkey (CA s n b0 c0) (RA s (nI wt) n b0 c0) (rowN n b0 c0)
        · refine ⟨b, c, hb, hc, ok, Nat.min_eq_right (Nat.le_of_lt hlt2), ?_⟩
          have hcnd := iff2.mpr hlt2
          rw [← f1, ← f2, ← f3, ← f4] at hcnd
          dsimp only
          rw [if_pos hcnd]
        · refine ⟨b0, c0, y1, y2, y3, Nat.min_eq_left (Nat.le_of_not_lt hlt2), ?_⟩
          have hcnd : ¬ _ := fun z => hlt2 (iff2.mp z)
          rw [← f1, ← f2, ← f3, ← f4] at hcnd
          dsimp only
          rw [if_neg hcnd]
          exact y5
  · rw [if_neg ok, if_pos (by decide), p2 ok, vsr.ad_z]
    exact ⟨a1, by omega, a3⟩
end SE1
