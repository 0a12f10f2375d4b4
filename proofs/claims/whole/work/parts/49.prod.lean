/-! one analysis: its sum in the chart; its row, its code -/
/-- the sum of an analysis -/
def vkey (C R row : Nat) : Nat := (C + R) * 68719476736 + R * 16777216 + row
theorem vkey_add {a b c a' b' c' : Nat} : vkey a b c + vkey a' b' c' = vkey (a + a') (b + b') (c + c') := by
  unfold vkey
  omega
theorem vkey_lt {a b c : Nat} (ha : a < 10000) (hb : b < 10000) (hc : c < 1000000000) : vkey a b c < 288230376151711744 := by
  unfold vkey
  omega
def lv (c q p : Int32) : vV := if c = -1 then vz else (⟨min (vkey c.toNatClampNeg q.toNatClampNeg p.toNatClampNeg) 288230376151711744, Nat.min_le_right _ _⟩, 1)
def kc (s : kS) (i r d q : Nat) : Int32 := if d = 0 then kroot (sR s) (sS s) (sX s) (sen s) (nI i) (nI r) else klink (sP s) (sS s) (sX s) (sT s) (sen s) (nI i) (nI r) (nI d) (nI q)
def kq (s : kS) (W : Int32) (i r d : Nat) : Int32 := krep (sro s) (sct s) W (nI i) (nI r) (nI d)
def lkv (s : kS) (W : Int32) : Nat → Nat → Nat → Nat → vV := fun i r d q => lv (kc s i r d q) (kq s W i r d) (kpart (nI i) (nI r) (nI d))
theorem lv_n {c q p : Nat} (hc : c < 1000) (hq : q < 1000) (hp : p < 16777216) : (lv (nI c) (nI q) (nI p)).1.1 = vkey c q p ∧ (lv (nI c) (nI q) (nI p)).2 = 1 := by
  have e : lv (nI c) (nI q) (nI p) = (⟨min (vkey (nI c).toNatClampNeg (nI q).toNatClampNeg (nI p).toNatClampNeg) 288230376151711744, Nat.min_le_right _ _⟩, 1) := if_neg (nI_m1 (by omega))
  have e1 : (nI c).toNatClampNeg = c := nI_clamp (by omega)
  have e2 : (nI q).toNatClampNeg = q := nI_clamp (by omega)
  have e3 : (nI p).toNatClampNeg = p := nI_clamp (by omega)
  have h := vkey_lt (a := c) (b := q) (c := p) (by omega) (by omega) (by omega)
  refine ⟨?_, by rw [e]⟩
  have e4 : (lv (nI c) (nI q) (nI p)).1.1 = min (vkey (nI c).toNatClampNeg (nI q).toNatClampNeg (nI p).toNatClampNeg) 288230376151711744 := by rw [e]
  rw [e4, e1, e2, e3]
  exact Nat.min_eq_left (Nat.le_of_lt h)
theorem kshare_v {c q p : Nat} (hc : c < 1000) (hq : q < 1000) (hp : p < 16777216) : kshare (nI c) (nI q) (nI p) = lN (vkey c q p) := kshare_n hc hq hp
theorem lv_m1 {q p : Int32} : lv (-1) q p = vz := if_pos rfl
theorem part_lt {i r d : Nat} (hi : 1 ≤ i) (hr : r < 2) (hd : d < 8) : (8 * r + d) * 16 ^ (6 - i) < 16777216 := by
  have h1 : 8 * r + d < 16 := by omega
  have h2 : 16 ^ (6 - i) ≤ 16 ^ 5 := Nat.pow_le_pow_right (by decide) (by omega)
  have h3 : (8 * r + d) * 16 ^ (6 - i) < 16 * 16 ^ (6 - i) := Nat.mul_lt_mul_of_pos_right h1 (Nat.pow_pos (by decide))
  have h4 : 16 * 16 ^ (6 - i) ≤ 16 * 16 ^ 5 := Nat.mul_le_mul_left 16 h2
  have h5 : 16 * 16 ^ 5 = 16777216 := by decide
  omega
section LK
variable {s : kS} {wt : Nat}
theorem lkv_link (hv : sv s) (hw : wt ≤ 9) {i r d q : Nat} (h1 : 1 ≤ i) (hi : i < 7) (hd1 : 1 ≤ d) (hd : d < 7) (hne : ¬ i = d) (hr : r < 2) : vL (kcell s (nI wt) i r d q) (lkv s (nI wt) i r d q) := by
  obtain ⟨b, hb, eb⟩ := krep_n hv (r := nI r) (d := nI d) hw hi
  have ep := kpart_n i hi r hr d (by omega)
  have hp := part_lt (d := d) h1 hr (by omega)
  have e0 : kc s i r d q = klink (sP s) (sS s) (sX s) (sT s) (sen s) (nI i) (nI r) (nI d) (nI q) := if_neg (by omega)
  unfold lkv kcell kq
  rw [e0, eb, ep]
  rcases klink_n hv (r := r) (q := q) hi hd hne with h | ⟨a, ha, h⟩
  · rw [h, lv_m1]
    exact ⟨rfl, rfl⟩
  · rw [h, kshare_v ha (by omega) hp]
    obtain ⟨x, y⟩ := lv_n ha (show b < 1000 by omega) hp
    refine ⟨by rw [x], ?_⟩
    rw [y, x, if_pos (vkey_lt (by omega) (by omega) (by omega))]
theorem lkv_root (hv : sv s) (hw : wt ≤ 9) {i r : Nat} (h1 : 1 ≤ i) (hi : i < 7) (hr : r < 2) : vRt s (nI wt) i r (lkv s (nI wt) i r 0 0) := by
  obtain ⟨b, hb, eb⟩ := krep_n hv (r := nI r) (d := nI 0) hw hi
  have ep := kpart_n i hi r hr 0 (by omega)
  have hp := part_lt (d := 0) h1 hr (by omega)
  have e0 : kc s i r 0 0 = kroot (sR s) (sS s) (sX s) (sen s) (nI i) (nI r) := if_pos rfl
  unfold lkv kq vRt
  rw [e0, eb, ep]
  have eb' : krep (sro s) (sct s) (nI wt) (nI i) (nI r) 0 = nI b := eb
  have ep' : kpart (nI i) (nI r) 0 = nI ((8 * r + 0) * 16 ^ (6 - i)) := ep
  rw [eb', ep']
  rcases kroot_n hv (i := i) (r := r) with h | ⟨a, ha, h⟩
  · rw [h, lv_m1]
    exact Or.inl ⟨rfl, rfl⟩
  · rw [h, kshare_v ha (by omega) hp]
    obtain ⟨x, y⟩ := lv_n ha (show b < 1000 by omega) hp
    exact Or.inr ⟨nI_m1 (by omega), by rw [x], y⟩
end LK
def nsum (F : Nat → Nat) : Nat → Nat
  | 0 => 0
  | k + 1 => nsum F k + F k
theorem nsum_le {F : Nat → Nat} {B : Nat} : ∀ n, (∀ k, k < n → F k ≤ B) → nsum F n ≤ n * B
  | 0, _ => by rw [Nat.zero_mul]; exact Nat.le_refl 0
  | n + 1, h => by
    have h1 := nsum_le n (fun k hk => h k (by omega))
    have h2 := h n (by omega)
    rw [Nat.succ_mul]
    show nsum F n + F n ≤ _
    omega
theorem nsum_congr {F G : Nat → Nat} : ∀ n, (∀ k, k < n → F k = G k) → nsum F n = nsum G n
  | 0, _ => rfl
  | n + 1, h => by
    show nsum F n + F n = nsum G n + G n
    rw [nsum_congr n (fun k hk => h k (by omega)), h n (by omega)]
/-- whether none of the first n lacks -/
def lok (c : Nat → Int32) : Nat → Bool
  | 0 => true
  | k + 1 => lok c k && !decide (c k = -1)
theorem lv_prod {c : Nat → Int32} {Q P : Nat → Nat} : ∀ n, n ≤ 6 → (∀ k, k < n → (c k = -1 ∨ ∃ a, a < 1000 ∧ c k = nI a) ∧ Q k < 1000 ∧ P k < 16777216) → bs vmu vo (fun k => lv (c k) (nI (Q k)) (nI (P k))) n = if lok c n = true then (⟨min (vkey (nsum (fun k => (c k).toNatClampNeg) n) (nsum Q n) (nsum P n)) 288230376151711744, Nat.min_le_right _ _⟩, 1) else vz
  | 0, _, _ => by
    have e0 : lok c 0 = true := rfl
    rw [if_pos e0]
    refine vV_ext ?_ rfl
    show 0 = min (vkey 0 0 0) _
    rw [show vkey 0 0 0 = 0 from rfl, Nat.zero_min]
  | n + 1, hn, h => by
    have ih := lv_prod (c := c) (Q := Q) (P := P) n (by omega) (fun k hk => h k (by omega))
    obtain ⟨h1, h2, h3⟩ := h n (by omega)
    show vmu (bs vmu vo (fun k => lv (c k) (nI (Q k)) (nI (P k))) n) (lv (c n) (nI (Q n)) (nI (P n))) = _
    rw [ih]
    rcases h1 with h1 | ⟨a, ha, h1⟩
    · have e : lok c (n + 1) = false := by
        show (lok c n && !decide (c n = -1)) = false
        rw [h1]
        simp
      rw [e, h1, lv_m1, vsr.mu_z]
      rfl
    · have e : lok c (n + 1) = lok c n := by
        show (lok c n && !decide (c n = -1)) = lok c n
        rw [h1, decide_eq_false (nI_m1 (by omega))]
        simp
      rw [e]
      by_cases hl : lok c n = true
      · rw [if_pos hl, if_pos hl]
        obtain ⟨x, y⟩ := lv_n ha h2 h3
        rw [h1]
        refine vV_ext ?_ ?_
        · have ee : min (min (vkey (nsum (fun k => (c k).toNatClampNeg) n) (nsum Q n) (nsum P n)) 288230376151711744 + (lv (nI a) (nI (Q n)) (nI (P n))).1.1) 288230376151711744 = min (vkey (nsum (fun k => (c k).toNatClampNeg) n + (c n).toNatClampNeg) (nsum Q n + Q n) (nsum P n + P n)) 288230376151711744 := by
            rw [x, h1, nI_clamp (by omega), ← vkey_add]
            generalize vkey (nsum (fun k => (c k).toNatClampNeg) n) (nsum Q n) (nsum P n) = A
            generalize vkey a (Q n) (P n) = B
            omega
          exact ee
        · show 1 * (lv (nI a) (nI (Q n)) (nI (P n))).2 = 1
          rw [y]
      · rw [if_neg hl, if_neg hl, vsr.z_mu]
/-! rows and codes of an analysis: bits b, code of heads c -/
/-- to a base, the first word's digit highest -/
def hor (B : Nat) (D : Nat → Nat) : Nat → Nat
  | 0 => 0
  | k + 1 => hor B D k * B + D k
theorem hor_lt {B : Nat} {D : Nat → Nat} : ∀ n, (∀ k, k < n → D k < B) → hor B D n < B ^ n
  | 0, _ => by rw [Nat.pow_zero]; exact Nat.zero_lt_one
  | n + 1, h => by
    have h1 := hor_lt n (fun k hk => h k (by omega))
    have h2 := h n (by omega)
    rw [Nat.pow_succ]
    show hor B D n * B + D n < B ^ n * B
    have h3 : (hor B D n + 1) * B ≤ B ^ n * B := Nat.mul_le_mul_right B h1
    rw [Nat.add_mul, Nat.one_mul] at h3
    omega
theorem hor_div {B : Nat} {D : Nat → Nat} (hB : 0 < B) : ∀ j i, (∀ k, k < i + j → D k < B) → hor B D (i + j) / B ^ j = hor B D i
  | 0, i, _ => by rw [Nat.pow_zero, Nat.div_one]; rfl
  | j + 1, i, h => by
    rw [Nat.pow_succ, Nat.mul_comm, ← Nat.div_div_eq_div_mul]
    show (hor B D (i + j) * B + D (i + j)) / B / B ^ j = _
    rw [Nat.mul_comm, Nat.mul_add_div hB, Nat.div_eq_of_lt (h (i + j) (by omega)), Nat.add_zero, hor_div hB j i (fun k hk => h k (by omega))]
theorem hor_mod {B : Nat} {D : Nat → Nat} {k : Nat} (h : D k < B) : hor B D (k + 1) % B = D k := by
  show (hor B D k * B + D k) % B = D k
  rw [Nat.mul_comm, Nat.mul_add_mod, Nat.mod_eq_of_lt h]
/-- the same order in both bases -/
theorem hor_cmp {B B' : Nat} {D D' E E' : Nat → Nat} : ∀ n, (∀ k, k < n → D k < B ∧ E k < B ∧ D' k < B' ∧ E' k < B' ∧ (D k < E k ↔ D' k < E' k) ∧ (D k = E k ↔ D' k = E' k)) → ((hor B D n < hor B E n ↔ hor B' D' n < hor B' E' n) ∧ (hor B D n = hor B E n ↔ hor B' D' n = hor B' E' n))
  | 0, _ => ⟨⟨fun h => absurd h (Nat.lt_irrefl _), fun h => absurd h (Nat.lt_irrefl _)⟩, ⟨fun _ => rfl, fun _ => rfl⟩⟩
  | n + 1, h => by
    obtain ⟨i1, i2⟩ := hor_cmp (B := B) (B' := B') (D := D) (D' := D') (E := E) (E' := E') n (fun k hk => h k (by omega))
    obtain ⟨a1, a2, a3, a4, a5, a6⟩ := h n (by omega)
    have key : ∀ {B x y d e : Nat}, d < B → e < B → ((x * B + d < y * B + e ↔ x < y ∨ x = y ∧ d < e) ∧ (x * B + d = y * B + e ↔ x = y ∧ d = e)) := by
      intro B x y d e hd he
      rcases Nat.lt_trichotomy x y with h | h | h
      · have : (x + 1) * B ≤ y * B := Nat.mul_le_mul_right B h
        rw [Nat.add_mul, Nat.one_mul] at this
        exact ⟨by omega, by omega⟩
      · subst h
        exact ⟨by omega, by omega⟩
      · have : (y + 1) * B ≤ x * B := Nat.mul_le_mul_right B h
        rw [Nat.add_mul, Nat.one_mul] at this
        exact ⟨by omega, by omega⟩
    show (hor B D n * B + D n < hor B E n * B + E n ↔ hor B' D' n * B' + D' n < hor B' E' n * B' + E' n) ∧ (hor B D n * B + D n = hor B E n * B + E n ↔ hor B' D' n * B' + D' n = hor B' E' n * B' + E' n)
    rw [(key a1 a2).1, (key a1 a2).2, (key a3 a4).1, (key a3 a4).2, i1, i2, a5, a6]
    exact ⟨Iff.rfl, Iff.rfl⟩
def rowD (n b c k : Nat) : Nat := 8 * rho n b (k + 1) + hdg n c (k + 1)
def codD (n b c k : Nat) : Nat := 7 * rho n b (k + 1) + hdg n c (k + 1)
def rowN (n b c : Nat) : Nat := hor 16 (rowD n b c) n * 16 ^ (6 - n)
def codN (n b c : Nat) : Nat := hor 14 (codD n b c) n
theorem rho_lt (n b w : Nat) : rho n b w < 2 := Nat.mod_lt _ (by decide)
theorem hdg_lt (n c w : Nat) : hdg n c w < n + 1 := Nat.mod_lt _ (by omega)
theorem rowD_lt {n : Nat} (hn : n ≤ 6) (b c k : Nat) : rowD n b c k < 16 := by
  have := rho_lt n b (k + 1)
  have := hdg_lt n c (k + 1)
  unfold rowD
  omega
theorem codD_lt {n : Nat} (hn : n ≤ 6) (b c k : Nat) : codD n b c k < 14 := by
  have := rho_lt n b (k + 1)
  have := hdg_lt n c (k + 1)
  unfold codD
  omega
theorem rowN_lt {n : Nat} (hn : n ≤ 6) (b c : Nat) : rowN n b c < 16777216 := by
  have h1 := hor_lt (B := 16) (D := rowD n b c) n (fun k _ => rowD_lt hn b c k)
  have h2 : hor 16 (rowD n b c) n * 16 ^ (6 - n) < 16 ^ n * 16 ^ (6 - n) := Nat.mul_lt_mul_of_pos_right h1 (Nat.pow_pos (by decide))
  rw [← Nat.pow_add, show n + (6 - n) = 6 by omega] at h2
  exact h2
theorem codN_lt {n : Nat} (hn : n ≤ 6) (b c : Nat) : codN n b c < 7529536 := by
  have h1 := hor_lt (B := 14) (D := codD n b c) n (fun k _ => codD_lt hn b c k)
  have h2 : 14 ^ n ≤ 14 ^ 6 := Nat.pow_le_pow_right (by decide) hn
  have h3 : 14 ^ 6 = 7529536 := by decide
  unfold codN
  omega
theorem rowN_sum {n : Nat} (b c : Nat) : ∀ k, k ≤ 6 → nsum (fun k => (8 * rho n b (k + 1) + hdg n c (k + 1)) * 16 ^ (6 - (k + 1))) k = hor 16 (rowD n b c) k * 16 ^ (6 - k)
  | 0, _ => by
    show 0 = 0 * _
    rw [Nat.zero_mul]
  | k + 1, hk => by
    show nsum _ k + rowD n b c k * 16 ^ (6 - (k + 1)) = (hor 16 (rowD n b c) k * 16 + rowD n b c k) * 16 ^ (6 - (k + 1))
    rw [rowN_sum b c k (by omega), Nat.add_mul, show 6 - k = 6 - (k + 1) + 1 by omega, Nat.pow_succ, Nat.mul_assoc, Nat.mul_comm 16 (16 ^ (6 - (k + 1)))]
/-- words of a row read -/
theorem rowN_at {n : Nat} (hn : n ≤ 6) (b c : Nat) {w : Nat} (h1 : 1 ≤ w) (hw : w ≤ n) : rowN n b c / 16 ^ (6 - w) % 8 = hdg n c w ∧ rowN n b c / 16 ^ (6 - w) / 8 % 2 = rho n b w := by
  have e : rowN n b c / 16 ^ (6 - w) = hor 16 (rowD n b c) w := by
    unfold rowN
    rw [show 6 - w = (n - w) + (6 - n) by omega, Nat.pow_add, Nat.mul_comm (16 ^ (n - w)), ← Nat.div_div_eq_div_mul, Nat.mul_div_cancel _ (Nat.pow_pos (by decide))]
    have := hor_div (B := 16) (D := rowD n b c) (by decide) (n - w) w (fun k _ => rowD_lt hn b c k)
    rw [show w + (n - w) = n by omega] at this
    exact this
  obtain ⟨k, rfl⟩ : ∃ k, w = k + 1 := ⟨w - 1, by omega⟩
  have m := hor_mod (B := 16) (D := rowD n b c) (k := k) (rowD_lt hn b c k)
  rw [e]
  generalize hor 16 (rowD n b c) (k + 1) = x at m
  unfold rowD at m
  have := rho_lt n b (k + 1)
  have := hdg_lt n c (k + 1)
  omega
theorem khead_at {n : Nat} (hn : n ≤ 6) (b c : Nat) {w : Nat} (h1 : 1 ≤ w) (hw : w ≤ n) : khead (nI (rowN n b c)) (nI w) = nI (hdg n c w) := by
  rw [khead_n (rowN_lt hn b c) (by omega), (rowN_at hn b c h1 hw).1]
theorem kread_at {n : Nat} (hn : n ≤ 6) (b c : Nat) {w : Nat} (h1 : 1 ≤ w) (hw : w ≤ n) : kread (nI (rowN n b c)) (nI w) = nI (rho n b w) := by
  rw [kread_nn (rowN_lt hn b c) (by omega), (rowN_at hn b c h1 hw).2]
theorem row_cod {n : Nat} (hn : n ≤ 6) (b c b' c' : Nat) : (rowN n b c < rowN n b' c' ↔ codN n b c < codN n b' c') ∧ (rowN n b c = rowN n b' c' ↔ codN n b c = codN n b' c') := by
  have h := hor_cmp (B := 16) (B' := 14) (D := rowD n b c) (E := rowD n b' c') (D' := codD n b c) (E' := codD n b' c') n (fun k _ => by
    refine ⟨rowD_lt hn _ _ _, rowD_lt hn _ _ _, codD_lt hn _ _ _, codD_lt hn _ _ _, ?_⟩
    have := rho_lt n b (k + 1)
    have := hdg_lt n c (k + 1)
    have := rho_lt n b' (k + 1)
    have := hdg_lt n c' (k + 1)
    unfold rowD codD
    omega)
  have hp : 0 < 16 ^ (6 - n) := Nat.pow_pos (by decide)
  refine ⟨?_, ?_⟩
  · rw [show (codN n b c < codN n b' c') = (hor 14 (codD n b c) n < hor 14 (codD n b' c') n) from rfl, ← h.1]
    exact Nat.mul_lt_mul_right hp
  · rw [show (codN n b c = codN n b' c') = (hor 14 (codD n b c) n = hor 14 (codD n b' c') n) from rfl, ← h.2]
    exact ⟨fun e => Nat.eq_of_mul_eq_mul_right hp e, fun e => by unfold rowN; rw [e]⟩
