/-! sums and products: a chart over spans, in any commutative semiring -/
def srL {α : Type} (ad mu : α → α → α) (z o : α) : Prop := (∀ a b c, ad (ad a b) c = ad a (ad b c)) ∧ (∀ a b, ad a b = ad b a) ∧ (∀ a, ad a z = a) ∧ (∀ a b c, mu (mu a b) c = mu a (mu b c)) ∧ (∀ a b, mu a b = mu b a) ∧ (∀ a, mu a o = a) ∧ (∀ a b c, mu (ad a b) c = ad (mu a c) (mu b c)) ∧ (∀ a, mu z a = z)
def bs {α : Type} (ad : α → α → α) (z : α) (F : Nat → α) : Nat → α
  | 0 => z
  | k + 1 => ad (bs ad z F k) (F k)
/-- one tree over a span of l words from f on, hanging on d of reading q; g: trees side by side over shorter spans -/
def cT {α : Type} (ad mu : α → α → α) (z : α) (ℓ g : Nat → Nat → Nat → Nat → α) (f l d q : Nat) : α :=
  bs ad z (fun k => ad (mu (mu (g f k (f + k) 0) (ℓ (f + k) 0 d q)) (g (f + k + 1) (l - k - 1) (f + k) 0)) (mu (mu (g f k (f + k) 1) (ℓ (f + k) 1 d q)) (g (f + k + 1) (l - k - 1) (f + k) 1))) l
def cS {α : Type} (ad mu : α → α → α) (z o : α) (ℓ : Nat → Nat → Nat → Nat → α) : Nat → Nat → Nat → Nat → Nat → α
  | 0, _, _, _, _ => o
  | n + 1, f, l, d, q => if l = 0 then o else bs ad z (fun e => mu (cT ad mu z ℓ (cS ad mu z o ℓ n) f (e + 1) d q) (cS ad mu z o ℓ n (f + e + 1) (l - e - 1) d q)) l
section SMR
variable {α β γ : Type} {ad mu : α → α → α} {z o : α} {ad2 mu2 : β → β → β} {z2 o2 : β}
theorem srL.z_ad (H : srL ad mu z o) (a : α) : ad z a = a := by rw [H.2.1]; exact H.2.2.1 a
theorem srL.ad_z (H : srL ad mu z o) (a : α) : ad a z = a := H.2.2.1 a
theorem srL.mu_z (H : srL ad mu z o) (a : α) : mu a z = z := by rw [H.2.2.2.2.1]; exact H.2.2.2.2.2.2.2 a
theorem srL.z_mu (H : srL ad mu z o) (a : α) : mu z a = z := H.2.2.2.2.2.2.2 a
theorem srL.mu_o (H : srL ad mu z o) (a : α) : mu a o = a := H.2.2.2.2.2.1 a
theorem srL.o_mu (H : srL ad mu z o) (a : α) : mu o a = a := by rw [H.2.2.2.2.1]; exact H.mu_o a
theorem srL.dl (H : srL ad mu z o) (a b c : α) : mu (ad a b) c = ad (mu a c) (mu b c) := H.2.2.2.2.2.2.1 a b c
theorem srL.dr (H : srL ad mu z o) (a b c : α) : mu c (ad a b) = ad (mu c a) (mu c b) := by
  rw [H.2.2.2.2.1, H.dl, H.2.2.2.2.1 a, H.2.2.2.2.1 b]
theorem srL.aa (H : srL ad mu z o) (a b c : α) : ad (ad a b) c = ad a (ad b c) := H.1 a b c
theorem srL.mm (H : srL ad mu z o) (a b c : α) : mu (mu a b) c = mu a (mu b c) := H.2.2.2.1 a b c
theorem srL.ac (H : srL ad mu z o) (a b : α) : ad a b = ad b a := H.2.1 a b
theorem srL.mc (H : srL ad mu z o) (a b : α) : mu a b = mu b a := H.2.2.2.2.1 a b
theorem srL.a4 (H : srL ad mu z o) (a b c d : α) : ad (ad a b) (ad c d) = ad (ad a c) (ad b d) := by
  rw [H.aa, H.aa, ← H.aa b c d, H.ac b c, H.aa c b d]
theorem bs_congr {F G : Nat → α} : ∀ k, (∀ i, i < k → F i = G i) → bs ad z F k = bs ad z G k
  | 0, _ => rfl
  | k + 1, h => by
    show ad (bs ad z F k) (F k) = ad (bs ad z G k) (G k)
    rw [bs_congr k (fun i hi => h i (by omega)), h k (by omega)]
theorem bs_add (H : srL ad mu z o) {F G : Nat → α} : ∀ k, bs ad z (fun i => ad (F i) (G i)) k = ad (bs ad z F k) (bs ad z G k)
  | 0 => (H.ad_z z).symm
  | k + 1 => by
    show ad (bs ad z (fun i => ad (F i) (G i)) k) (ad (F k) (G k)) = ad (ad (bs ad z F k) (F k)) (ad (bs ad z G k) (G k))
    rw [bs_add H k, H.a4]
theorem bs_double (H : srL ad mu z o) {G : Nat → α} : ∀ k, bs ad z G (2 * k) = bs ad z (fun b => ad (G (2 * b)) (G (2 * b + 1))) k
  | 0 => rfl
  | k + 1 => by
    show ad (ad (bs ad z G (2 * k)) (G (2 * k))) (G (2 * k + 1)) = ad (bs ad z (fun b => ad (G (2 * b)) (G (2 * b + 1))) k) (ad (G (2 * k)) (G (2 * k + 1)))
    rw [bs_double H k, H.aa]
theorem bs_hom {φ : α → β} (hz : φ z = z2) (ha : ∀ a b, φ (ad a b) = ad2 (φ a) (φ b)) {F : Nat → α} : ∀ k, φ (bs ad z F k) = bs ad2 z2 (fun i => φ (F i)) k
  | 0 => hz
  | k + 1 => by
    show φ (ad (bs ad z F k) (F k)) = ad2 (bs ad2 z2 (fun i => φ (F i)) k) (φ (F k))
    rw [ha, bs_hom hz ha k]
theorem cT_congr {ℓ ℓ' g g' : Nat → Nat → Nat → Nat → α} {f l d q : Nat} (h1 : ∀ k r, k < l → ℓ (f + k) r d q = ℓ' (f + k) r d q) (h2 : ∀ f' l' d' q', f ≤ f' → f' + l' ≤ f + l → l' < l → g f' l' d' q' = g' f' l' d' q') : cT ad mu z ℓ g f l d q = cT ad mu z ℓ' g' f l d q := by
  refine bs_congr l (fun k hk => ?_)
  rw [h1 k 0 hk, h1 k 1 hk, h2 f k (f + k) 0 (by omega) (by omega) hk, h2 f k (f + k) 1 (by omega) (by omega) hk, h2 (f + k + 1) (l - k - 1) (f + k) 0 (by omega) (by omega) (by omega), h2 (f + k + 1) (l - k - 1) (f + k) 1 (by omega) (by omega) (by omega)]
theorem cS_0 {ℓ : Nat → Nat → Nat → Nat → α} : ∀ {n f d q : Nat}, cS ad mu z o ℓ n f 0 d q = o
  | 0, _, _, _ => rfl
  | _ + 1, _, _, _ => if_pos rfl
theorem cS_fuel {ℓ : Nat → Nat → Nat → Nat → α} : ∀ (n m f l d q : Nat), l ≤ n → l ≤ m → cS ad mu z o ℓ n f l d q = cS ad mu z o ℓ m f l d q
  | 0, m, f, l, d, q, h, _ => by
    rw [show l = 0 by omega, cS_0, cS_0]
  | n + 1, 0, f, l, d, q, _, h => by
    rw [show l = 0 by omega, cS_0, cS_0]
  | n + 1, m + 1, f, l, d, q, h1, h2 => by
    unfold cS
    by_cases hl : l = 0
    · rw [if_pos hl, if_pos hl]
    · rw [if_neg hl, if_neg hl]
      refine bs_congr l (fun e he => ?_)
      rw [cS_fuel n m (f + e + 1) (l - e - 1) d q (by omega) (by omega)]
      congr 1
      exact cT_congr (fun k r _ => rfl) (fun f' l' d' q' _ _ hl' => cS_fuel n m f' l' d' q' (by omega) (by omega))
theorem cT_hom {φ : α → β} (hz : φ z = z2) (ha : ∀ a b, φ (ad a b) = ad2 (φ a) (φ b)) (hm : ∀ a b, φ (mu a b) = mu2 (φ a) (φ b)) {ℓ g : Nat → Nat → Nat → Nat → α} {f l d q : Nat} : φ (cT ad mu z ℓ g f l d q) = cT ad2 mu2 z2 (fun w r d q => φ (ℓ w r d q)) (fun f l d q => φ (g f l d q)) f l d q := by
  unfold cT
  rw [bs_hom hz ha]
  refine bs_congr l (fun k _ => ?_)
  rw [ha, hm, hm, hm, hm]
theorem cS_hom {φ : α → β} (hz : φ z = z2) (ho : φ o = o2) (ha : ∀ a b, φ (ad a b) = ad2 (φ a) (φ b)) (hm : ∀ a b, φ (mu a b) = mu2 (φ a) (φ b)) {ℓ : Nat → Nat → Nat → Nat → α} : ∀ (n f l d q : Nat), φ (cS ad mu z o ℓ n f l d q) = cS ad2 mu2 z2 o2 (fun w r d q => φ (ℓ w r d q)) n f l d q
  | 0, _, _, _, _ => ho
  | n + 1, f, l, d, q => by
    unfold cS
    by_cases hl : l = 0
    · rw [if_pos hl, if_pos hl]
      exact ho
    · rw [if_neg hl, if_neg hl, bs_hom hz ha]
      refine bs_congr l (fun e _ => ?_)
      rw [hm, cT_hom hz ha hm, cS_hom hz ho ha hm n]
      congr 1
      exact cT_congr (fun _ _ _ => rfl) (fun f' l' d' q' _ _ _ => cS_hom hz ho ha hm n f' l' d' q')
/-- the reading of word i held to r0 -/
def frc (z : α) (i r0 : Nat) (ℓ : Nat → Nat → Nat → Nat → α) : Nat → Nat → Nat → Nat → α := fun w r d q => if w = i ∧ ¬ r = r0 then z else ℓ w r d q
theorem frc_ne {i r0 : Nat} {ℓ : Nat → Nat → Nat → Nat → α} {w r d q : Nat} (h : ¬ w = i) : frc z i r0 ℓ w r d q = ℓ w r d q := if_neg (fun c => h c.1)
theorem frc_out {i r0 : Nat} {ℓ : Nat → Nat → Nat → Nat → α} : ∀ (n f l d q : Nat), ¬ (f ≤ i ∧ i < f + l) → cS ad mu z o (frc z i r0 ℓ) n f l d q = cS ad mu z o ℓ n f l d q
  | 0, _, _, _, _, _ => rfl
  | n + 1, f, l, d, q, h => by
    unfold cS
    by_cases hl : l = 0
    · rw [if_pos hl, if_pos hl]
    · rw [if_neg hl, if_neg hl]
      refine bs_congr l (fun e he => ?_)
      rw [frc_out n (f + e + 1) (l - e - 1) d q (by omega)]
      congr 1
      exact cT_congr (fun k r hk => frc_ne (by omega)) (fun f' l' d' q' _ _ _ => frc_out n f' l' d' q' (by omega))
theorem frc_T_out {i r0 : Nat} {ℓ : Nat → Nat → Nat → Nat → α} (n f l d q : Nat) (h : ¬ (f ≤ i ∧ i < f + l)) : cT ad mu z (frc z i r0 ℓ) (cS ad mu z o (frc z i r0 ℓ) n) f l d q = cT ad mu z ℓ (cS ad mu z o ℓ n) f l d q :=
  cT_congr (fun k r hk => frc_ne (by omega)) (fun f' l' d' q' _ _ _ => frc_out n f' l' d' q' (by omega))
theorem frc_T (H : srL ad mu z o) {i : Nat} {ℓ : Nat → Nat → Nat → Nat → α} (n f l d q : Nat) (hf : f ≤ i) (hi : i < f + l)
    (ih : ∀ f' l' d' q', f' ≤ i → i < f' + l' → l' < l → cS ad mu z o ℓ n f' l' d' q' = ad (cS ad mu z o (frc z i 0 ℓ) n f' l' d' q') (cS ad mu z o (frc z i 1 ℓ) n f' l' d' q')) :
    cT ad mu z ℓ (cS ad mu z o ℓ n) f l d q = ad (cT ad mu z (frc z i 0 ℓ) (cS ad mu z o (frc z i 0 ℓ) n) f l d q) (cT ad mu z (frc z i 1 ℓ) (cS ad mu z o (frc z i 1 ℓ) n) f l d q) := by
  unfold cT
  rw [← bs_add H]
  refine bs_congr l (fun k hk => ?_)
  have out : ∀ r0 f' l' d' q', ¬ (f' ≤ i ∧ i < f' + l') → cS ad mu z o (frc z i r0 ℓ) n f' l' d' q' = cS ad mu z o ℓ n f' l' d' q' := fun r0 f' l' d' q' h => frc_out n f' l' d' q' h
  rcases Nat.lt_trichotomy (f + k) i with h | h | h
  · rw [ih (f + k + 1) (l - k - 1) (f + k) 0 (by omega) (by omega) (by omega), ih (f + k + 1) (l - k - 1) (f + k) 1 (by omega) (by omega) (by omega)]
    rw [out 0 f k (f + k) 0 (by omega), out 1 f k (f + k) 0 (by omega), out 0 f k (f + k) 1 (by omega), out 1 f k (f + k) 1 (by omega)]
    rw [frc_ne (r0 := 0) (by omega), frc_ne (r0 := 0) (by omega), frc_ne (r0 := 1) (by omega), frc_ne (r0 := 1) (by omega)]
    rw [H.dr, H.dr, H.a4]
  · rw [out 0 f k (f + k) 0 (by omega), out 1 f k (f + k) 0 (by omega), out 0 f k (f + k) 1 (by omega), out 1 f k (f + k) 1 (by omega)]
    rw [out 0 (f + k + 1) (l - k - 1) (f + k) 0 (by omega), out 1 (f + k + 1) (l - k - 1) (f + k) 0 (by omega), out 0 (f + k + 1) (l - k - 1) (f + k) 1 (by omega), out 1 (f + k + 1) (l - k - 1) (f + k) 1 (by omega)]
    have e00 : frc z i 0 ℓ (f + k) 0 d q = ℓ (f + k) 0 d q := if_neg (fun c => c.2 rfl)
    have e01 : frc z i 0 ℓ (f + k) 1 d q = z := if_pos ⟨h, by decide⟩
    have e10 : frc z i 1 ℓ (f + k) 0 d q = z := if_pos ⟨h, by decide⟩
    have e11 : frc z i 1 ℓ (f + k) 1 d q = ℓ (f + k) 1 d q := if_neg (fun c => c.2 rfl)
    rw [e00, e01, e10, e11, H.mu_z, H.z_mu, H.mu_z, H.z_mu, H.ad_z, H.z_ad]
  · rw [ih f k (f + k) 0 (by omega) (by omega) (by omega), ih f k (f + k) 1 (by omega) (by omega) (by omega)]
    rw [out 0 (f + k + 1) (l - k - 1) (f + k) 0 (by omega), out 1 (f + k + 1) (l - k - 1) (f + k) 0 (by omega), out 0 (f + k + 1) (l - k - 1) (f + k) 1 (by omega), out 1 (f + k + 1) (l - k - 1) (f + k) 1 (by omega)]
    rw [frc_ne (r0 := 0) (by omega), frc_ne (r0 := 0) (by omega), frc_ne (r0 := 1) (by omega), frc_ne (r0 := 1) (by omega)]
    rw [H.dl, H.dl, H.dl, H.dl, H.a4]
theorem frc_in (H : srL ad mu z o) {i : Nat} {ℓ : Nat → Nat → Nat → Nat → α} : ∀ (n f l d q : Nat), f ≤ i → i < f + l → l ≤ n → cS ad mu z o ℓ n f l d q = ad (cS ad mu z o (frc z i 0 ℓ) n f l d q) (cS ad mu z o (frc z i 1 ℓ) n f l d q)
  | 0, f, l, d, q, h1, h2, h3 => by omega
  | n + 1, f, l, d, q, h1, h2, h3 => by
    have ih := fun f' l' d' q' => frc_in H (i := i) (ℓ := ℓ) n f' l' d' q'
    unfold cS
    have hl : ¬ l = 0 := by omega
    rw [if_neg hl, if_neg hl, if_neg hl, ← bs_add H]
    refine bs_congr l (fun e he => ?_)
    by_cases hc : i < f + e + 1
    · rw [frc_T H n f (e + 1) d q h1 (by omega) (fun f' l' d' q' a b c => ih f' l' d' q' a b (by omega)), frc_out n (f + e + 1) (l - e - 1) d q (by omega), frc_out n (f + e + 1) (l - e - 1) d q (by omega), H.dl]
    · rw [ih (f + e + 1) (l - e - 1) d q (by omega) (by omega) (by omega), frc_T_out n f (e + 1) d q (by omega), frc_T_out n f (e + 1) d q (by omega), H.dr]
/-- the readings of the first m words held to the bits of b -/
def frb (z : α) (m b : Nat) (ℓ : Nat → Nat → Nat → Nat → α) : Nat → Nat → Nat → Nat → α := fun w r d q => if 1 ≤ w ∧ w ≤ m ∧ ¬ r = b / 2 ^ (m - w) % 2 then z else ℓ w r d q
theorem frb_0 {b : Nat} {ℓ : Nat → Nat → Nat → Nat → α} : frb z 0 b ℓ = ℓ := by
  funext w r d q
  exact if_neg (by omega)
theorem frb_1 {m b r0 : Nat} (hr : r0 < 2) {ℓ : Nat → Nat → Nat → Nat → α} : frc z (m + 1) r0 (frb z m b ℓ) = frb z (m + 1) (2 * b + r0) ℓ := by
  funext w r d q
  unfold frc frb
  by_cases h : w = m + 1
  · subst h
    have e : (2 * b + r0) / 2 ^ (m + 1 - (m + 1)) % 2 = r0 := by
      rw [Nat.sub_self, Nat.pow_zero, Nat.div_one]
      omega
    rw [e, if_neg (show ¬ (1 ≤ m + 1 ∧ m + 1 ≤ m ∧ ¬ r = b / 2 ^ (m - (m + 1)) % 2) by omega)]
    by_cases hr2 : r = r0
    · rw [if_neg (fun c => c.2 hr2), if_neg (fun c => c.2.2 hr2)]
    · rw [if_pos ⟨rfl, hr2⟩, if_pos ⟨by omega, Nat.le_refl _, hr2⟩]
  · rw [if_neg (fun c => h c.1)]
    by_cases hw : w ≤ m
    · have e : (2 * b + r0) / 2 ^ (m + 1 - w) = b / 2 ^ (m - w) := by
        rw [show m + 1 - w = 1 + (m - w) by omega, Nat.pow_add, ← Nat.div_div_eq_div_mul]
        congr 1
        omega
      rw [e]
      by_cases hc : 1 ≤ w ∧ w ≤ m ∧ ¬ r = b / 2 ^ (m - w) % 2
      · rw [if_pos hc, if_pos ⟨hc.1, by omega, hc.2.2⟩]
      · rw [if_neg hc, if_neg (fun c => hc ⟨c.1, hw, c.2.2⟩)]
    · rw [if_neg (by omega), if_neg (by omega)]
theorem frb_all (H : srL ad mu z o) {n : Nat} {ℓ : Nat → Nat → Nat → Nat → α} : ∀ m, m ≤ n → cT ad mu z ℓ (cS ad mu z o ℓ n) 1 n 0 0 = bs ad z (fun b => cT ad mu z (frb z m b ℓ) (cS ad mu z o (frb z m b ℓ) n) 1 n 0 0) (2 ^ m)
  | 0, _ => by
    show _ = ad z (cT ad mu z (frb z 0 0 ℓ) (cS ad mu z o (frb z 0 0 ℓ) n) 1 n 0 0)
    rw [frb_0, H.z_ad]
  | m + 1, hm => by
    rw [Nat.pow_succ, Nat.mul_comm, bs_double H, frb_all H m (by omega)]
    refine bs_congr _ (fun b _ => ?_)
    rw [← frb_1 (by decide : 1 < 2)]
    have e : frc z (m + 1) 0 (frb z m b ℓ) = frb z (m + 1) (2 * b) ℓ := frb_1 (r0 := 0) (by decide)
    rw [← e]
    exact frc_T H n 1 n 0 0 (by omega) (by omega) (fun f' l' d' q' a b c => frc_in H n f' l' d' q' a b (by omega))
/-- one reading a word: heads alone are left -/
def hx (z : α) (ρ : Nat → Nat) (ℓ : Nat → Nat → Nat → Nat → α) : Nat → Nat → Nat → Nat → α := fun w r d _ => if r = 0 then ℓ w (ρ w) d (ρ d) else z
def rho (n b w : Nat) : Nat := b / 2 ^ (n - w) % 2
theorem hx_T (H : srL ad mu z o) {n b : Nat} {ℓ g g' : Nat → Nat → Nat → Nat → α} (f l d : Nat) (hf : 1 ≤ f) (hl : f + l ≤ n + 1)
    (ih : ∀ f' l' d', 1 ≤ f' → f' + l' ≤ n + 1 → l' < l → g f' l' d' (rho n b d') = g' f' l' d' 0) :
    cT ad mu z (frb z n b ℓ) g f l d (rho n b d) = cT ad mu z (hx z (rho n b) ℓ) g' f l d 0 := by
  refine bs_congr l (fun k hk => ?_)
  have hr : rho n b (f + k) = 0 ∨ rho n b (f + k) = 1 := by
    have := Nat.mod_lt (b / 2 ^ (n - (f + k))) (show 0 < 2 by decide)
    unfold rho
    omega
  have i1 := ih f k (f + k) hf (by omega) hk
  have i2 := ih (f + k + 1) (l - k - 1) (f + k) (by omega) (by omega) (by omega)
  have e1 : hx z (rho n b) ℓ (f + k) 1 d 0 = z := rfl
  have e0 : hx z (rho n b) ℓ (f + k) 0 d 0 = ℓ (f + k) (rho n b (f + k)) d (rho n b d) := rfl
  rw [e0, e1, H.mu_z, H.z_mu, H.ad_z]
  rcases hr with hr | hr
  · rw [hr] at i1 i2 ⊢
    have c0 : frb z n b ℓ (f + k) 0 d (rho n b d) = ℓ (f + k) 0 d (rho n b d) := if_neg (fun c => c.2.2 hr.symm)
    have c1 : frb z n b ℓ (f + k) 1 d (rho n b d) = z := if_pos ⟨by omega, by omega, fun c => by unfold rho at hr; omega⟩
    rw [c0, c1, H.mu_z, H.z_mu, H.ad_z, i1, i2]
  · rw [hr] at i1 i2 ⊢
    have c1 : frb z n b ℓ (f + k) 1 d (rho n b d) = ℓ (f + k) 1 d (rho n b d) := if_neg (fun c => c.2.2 hr.symm)
    have c0 : frb z n b ℓ (f + k) 0 d (rho n b d) = z := if_pos ⟨by omega, by omega, fun c => by unfold rho at hr; omega⟩
    rw [c0, c1, H.mu_z, H.z_mu, H.z_ad, i1, i2]
theorem hx_S (H : srL ad mu z o) {n b : Nat} {ℓ : Nat → Nat → Nat → Nat → α} : ∀ (m f l d : Nat), 1 ≤ f → f + l ≤ n + 1 → cS ad mu z o (frb z n b ℓ) m f l d (rho n b d) = cS ad mu z o (hx z (rho n b) ℓ) m f l d 0
  | 0, _, _, _, _, _ => rfl
  | m + 1, f, l, d, hf, hl => by
    unfold cS
    by_cases h0 : l = 0
    · rw [if_pos h0, if_pos h0]
    · rw [if_neg h0, if_neg h0]
      refine bs_congr l (fun e he => ?_)
      rw [hx_S H m (f + e + 1) (l - e - 1) d (by omega) (by omega)]
      congr 1
      exact hx_T H f (e + 1) d hf (by omega) (fun f' l' d' a b _ => hx_S H m f' l' d' a b)
/-! heads alone: the trees by name -/
def lsm (ad : α → α → α) (z : α) (F : γ → α) : List γ → α
  | [] => z
  | a :: l => ad (F a) (lsm ad z F l)
theorem lsm_app (H : srL ad mu z o) {F : γ → α} : ∀ (a b : List γ), lsm ad z F (a ++ b) = ad (lsm ad z F a) (lsm ad z F b)
  | [], b => (H.z_ad _).symm
  | x :: a, b => by
    show ad (F x) (lsm ad z F (a ++ b)) = ad (ad (F x) (lsm ad z F a)) (lsm ad z F b)
    rw [lsm_app H a b, H.aa]
theorem lsm_perm (H : srL ad mu z o) {F : γ → α} {a b : List γ} (h : a.Perm b) : lsm ad z F a = lsm ad z F b := by
  induction h with
  | nil => rfl
  | cons x _ ih =>
    show ad (F x) _ = ad (F x) _
    rw [ih]
  | swap x y l =>
    show ad (F y) (ad (F x) _) = ad (F x) (ad (F y) _)
    rw [← H.aa, ← H.aa, H.ac (F y)]
  | trans _ _ i1 i2 => rw [i1, i2]
theorem lsm_congr {F G : γ → α} : ∀ (l : List γ), (∀ x, x ∈ l → F x = G x) → lsm ad z F l = lsm ad z G l
  | [], _ => rfl
  | a :: l, h => by
    show ad (F a) _ = ad (G a) _
    rw [h a List.mem_cons_self, lsm_congr l (fun x hx => h x (List.mem_cons_of_mem _ hx))]
theorem lsm_map {δ : Type} {F : γ → α} {f : δ → γ} : ∀ (l : List δ), lsm ad z F (l.map f) = lsm ad z (fun x => F (f x)) l
  | [] => rfl
  | a :: l => by
    show ad _ _ = ad _ _
    rw [lsm_map l]
/-- all of one beside all of the other -/
def pm (a b : List (List γ)) : List (List γ) := a.flatMap (fun m => b.map (fun k => m ++ k))
theorem lsm_mul (H : srL ad mu z o) {F G : γ → α} {c : α} : ∀ (l : List γ), (∀ x, F x = mu c (G x)) → lsm ad z F l = mu c (lsm ad z G l)
  | [], _ => (H.mu_z c).symm
  | a :: l, h => by
    show ad (F a) (lsm ad z F l) = mu c (ad (G a) (lsm ad z G l))
    rw [H.dr, ← h a, lsm_mul H l h]
theorem lsm_pm (H : srL ad mu z o) {F : γ → α} (a b : List (List γ)) : lsm ad z (lsm mu o F) (pm a b) = mu (lsm ad z (lsm mu o F) a) (lsm ad z (lsm mu o F) b) := by
  have Hm : ∀ x y : List γ, lsm mu o F (x ++ y) = mu (lsm mu o F x) (lsm mu o F y) := by
    intro x y
    induction x with
    | nil => exact (H.o_mu _).symm
    | cons v x ih =>
      show mu (F v) (lsm mu o F (x ++ y)) = mu (mu (F v) (lsm mu o F x)) (lsm mu o F y)
      rw [ih, H.mm]
  induction a with
  | nil => exact (H.z_mu _).symm
  | cons m a ih =>
    show lsm ad z (lsm mu o F) (b.map (fun k => m ++ k) ++ pm a b) = mu (ad (lsm mu o F m) (lsm ad z (lsm mu o F) a)) (lsm ad z (lsm mu o F) b)
    rw [lsm_app H, ih, H.dl, lsm_map]
    congr 1
    exact lsm_mul H b (fun k => Hm m k)
/-- a link by name -/
def sy : Nat → Nat → Nat → Nat → List (List (Nat × Nat)) := fun w r d _ => if r = 0 then [[(w, d)]] else []
def sTT (n : Nat) : List (List (Nat × Nat)) := cT (· ++ ·) pm [] sy (cS (· ++ ·) pm [] [[]] sy n) 1 n 0 0
theorem hx_sy (H : srL ad mu z o) {ρ : Nat → Nat} {ℓ : Nat → Nat → Nat → Nat → α} (w r d q : Nat) : lsm ad z (lsm mu o (fun p => ℓ p.1 (ρ p.1) p.2 (ρ p.2))) (sy w r d q) = hx z ρ ℓ w r d q := by
  unfold sy hx
  by_cases h : r = 0
  · rw [if_pos h, if_pos h]
    show ad (mu _ o) z = _
    rw [H.ad_z, H.mu_o]
  · rw [if_neg h, if_neg h]
    rfl
theorem hx_sym (H : srL ad mu z o) {n : Nat} {ρ : Nat → Nat} {ℓ : Nat → Nat → Nat → Nat → α} : cT ad mu z (hx z ρ ℓ) (cS ad mu z o (hx z ρ ℓ) n) 1 n 0 0 = lsm ad z (lsm mu o (fun p => ℓ p.1 (ρ p.1) p.2 (ρ p.2))) (sTT n) := by
  have e : hx z ρ ℓ = fun w r d q => lsm ad z (lsm mu o (fun p => ℓ p.1 (ρ p.1) p.2 (ρ p.2))) (sy w r d q) := by
    funext w r d q
    exact (hx_sy H w r d q).symm
  have h1 := fun a b => lsm_app H (F := lsm mu o (fun p : Nat × Nat => ℓ p.1 (ρ p.1) p.2 (ρ p.2))) a b
  have h2 := fun a b => lsm_pm H (F := fun p : Nat × Nat => ℓ p.1 (ρ p.1) p.2 (ρ p.2)) a b
  have h3 : lsm ad z (lsm mu o (fun p : Nat × Nat => ℓ p.1 (ρ p.1) p.2 (ρ p.2))) [[]] = o := by
    show ad o z = o
    exact H.ad_z o
  unfold sTT
  rw [cT_hom (ad2 := ad) (mu2 := mu) (z2 := z) rfl h1 h2, ← e]
  refine cT_congr (fun _ _ _ => rfl) (fun f' l' d' q' _ _ _ => ?_)
  rw [cS_hom (ad2 := ad) (mu2 := mu) (z2 := z) (o2 := o) rfl h3 h1 h2, ← e]
/-- the heads that a code spells, each beside its word -/
def mono (n c : Nat) : List (Nat × Nat) := (List.range n).map (fun k => (k + 1, c / (n + 1) ^ (n - (k + 1)) % (n + 1)))
/-- the code that heads spell -/
def ucode (n : Nat) : List (Nat × Nat) → Nat → Nat
  | [], a => a
  | p :: m, a => ucode n m (a * (n + 1) + p.2)
theorem lsm_range (H : srL ad mu z o) {F : Nat → α} : ∀ n, lsm mu o F (List.range n) = bs mu o F n
  | 0 => rfl
  | n + 1 => by
    have Hm : ∀ x y : List Nat, lsm mu o F (x ++ y) = mu (lsm mu o F x) (lsm mu o F y) := by
      intro x y
      induction x with
      | nil => exact (H.o_mu _).symm
      | cons v x ih =>
        show mu (F v) (lsm mu o F (x ++ y)) = mu (mu (F v) (lsm mu o F x)) (lsm mu o F y)
        rw [ih, H.mm]
    rw [List.range_succ, Hm, lsm_range H n]
    show mu _ (mu (F n) o) = mu _ (F n)
    rw [H.mu_o]
def hdg (n c w : Nat) : Nat := c / (n + 1) ^ (n - w) % (n + 1)
/-- all analyses one by one: readings by bits, heads by codes of trees -/
theorem chart_sum (H : srL ad mu z o) {n : Nat} {L : List Nat} (hp : ((sTT n).map (fun m => ucode n m 0)).Perm L) (hm : ∀ m, m ∈ sTT n → mono n (ucode n m 0) = m) {ℓ : Nat → Nat → Nat → Nat → α} :
    cT ad mu z ℓ (cS ad mu z o ℓ n) 1 n 0 0 = bs ad z (fun b => lsm ad z (fun c => bs mu o (fun k => ℓ (k + 1) (rho n b (k + 1)) (hdg n c (k + 1)) (rho n b (hdg n c (k + 1)))) n) L) (2 ^ n) := by
  rw [frb_all H n (Nat.le_refl n)]
  refine bs_congr _ (fun b hb => ?_)
  have r0 : rho n b 0 = 0 := by
    unfold rho
    rw [Nat.sub_zero, Nat.div_eq_of_lt hb]
  have e1 := hx_T H (n := n) (b := b) (ℓ := ℓ) (g := cS ad mu z o (frb z n b ℓ) n) (g' := cS ad mu z o (hx z (rho n b) ℓ) n) 1 n 0 (Nat.le_refl 1) (by omega) (fun f' l' d' a b _ => hx_S H n f' l' d' a b)
  rw [r0] at e1
  rw [e1, hx_sym H, ← lsm_perm H hp, lsm_map]
  refine lsm_congr _ (fun m hmm => ?_)
  show lsm mu o _ m = _
  conv => lhs; rw [← hm m hmm]
  unfold mono
  rw [lsm_map, lsm_range H]
  rfl
end SMR
