/-! least sums and counts: the chart's numbers are those of a semiring -/
abbrev cN : Type := {a : Nat // a ≤ 288230376151711744}
abbrev vV : Type := cN × Nat
def vad (a b : vV) : vV := (⟨min a.1.1 b.1.1, by have := a.1.2; omega⟩, a.2 + b.2)
def vmu (a b : vV) : vV := (⟨min (a.1.1 + b.1.1) 288230376151711744, Nat.min_le_right _ _⟩, a.2 * b.2)
def vz : vV := (⟨288230376151711744, Nat.le_refl _⟩, 0)
def vo : vV := (⟨0, Nat.zero_le _⟩, 1)
theorem vV_ext {a b : vV} (h1 : a.1.1 = b.1.1) (h2 : a.2 = b.2) : a = b := Prod.ext (Subtype.ext h1) h2
theorem vsr : srL vad vmu vz vo := by
  refine ⟨fun a b c => vV_ext ?_ (Nat.add_assoc _ _ _), fun a b => vV_ext ?_ (Nat.add_comm _ _), fun a => vV_ext ?_ (Nat.add_zero _), fun a b c => vV_ext ?_ (Nat.mul_assoc _ _ _), fun a b => vV_ext ?_ (Nat.mul_comm _ _), fun a => vV_ext ?_ (Nat.mul_one _), fun a b c => vV_ext ?_ (Nat.add_mul _ _ _), fun a => vV_ext ?_ (Nat.zero_mul _)⟩
  · show min (min a.1.1 b.1.1) c.1.1 = min a.1.1 (min b.1.1 c.1.1)
    omega
  · show min a.1.1 b.1.1 = min b.1.1 a.1.1
    omega
  · have := a.1.2
    show min a.1.1 288230376151711744 = a.1.1
    omega
  · show min (min (a.1.1 + b.1.1) 288230376151711744 + c.1.1) 288230376151711744 = min (a.1.1 + min (b.1.1 + c.1.1) 288230376151711744) 288230376151711744
    omega
  · show min (a.1.1 + b.1.1) 288230376151711744 = min (b.1.1 + a.1.1) 288230376151711744
    omega
  · have := a.1.2
    show min (a.1.1 + 0) 288230376151711744 = a.1.1
    omega
  · have := c.1.2
    show min (min a.1.1 b.1.1 + c.1.1) 288230376151711744 = min (min (a.1.1 + c.1.1) 288230376151711744) (min (b.1.1 + c.1.1) 288230376151711744)
    omega
  · show min (288230376151711744 + a.1.1) 288230376151711744 = 288230376151711744
    omega
/-- a number and a count as the class holds them -/
def vR (x : Int64) (y : Int32) (v : vV) : Prop := x = lN v.1.1 ∧ y = nI v.2
/-- a link's -/
def vL (x : Int64) (v : vV) : Prop := x = lN v.1.1 ∧ v.2 = (if v.1.1 < 288230376151711744 then 1 else 0)
theorem kIMP_l : kIMP = lN 288230376151711744 := rfl
theorem kmin_l {a b : Nat} (ha : a < 2 ^ 63) (hb : b < 2 ^ 63) : kmin (lN a) (lN b) = lN (min a b) := by
  unfold kmin
  by_cases h : b < a
  · rw [if_pos ((pk_lLT hb ha).mpr h), show min a b = b by omega]
  · rw [if_neg (fun c => h ((pk_lLT hb ha).mp c)), show min a b = a by omega]
theorem gs_eq {α : Type} {l : List α} {i : Nat} {v d : α} (h : i < l.length) : (l.set i v).getD i d = v := by
  rw [List.getD_eq_getElem?_getD, List.getElem?_set_self h]
  rfl
theorem gs_ne {α : Type} {l : List α} {i j : Nat} {v d : α} (h : ¬ i = j) : (l.set i v).getD j d = l.getD j d := by
  rw [List.getD_eq_getElem?_getD, List.getElem?_set_ne h, List.getD_eq_getElem?_getD]
theorem nsp_inj {f t d q f' t' d' q' : Nat} (h1 : t < 8) (h2 : d < 8) (h3 : q < 2) (h4 : t' < 8) (h5 : d' < 8) (h6 : q' < 2) (h : nsp f t d q = nsp f' t' d' q') : f = f' ∧ t = t' ∧ d = d' ∧ q = q' := by
  unfold nsp at h
  omega
theorem nlp_inj {i r d q i' r' d' q' : Nat} (h1 : r < 2) (h2 : d < 8) (h3 : q < 2) (h4 : r' < 2) (h5 : d' < 8) (h6 : q' < 2) (h : nlp i r d q = nlp i' r' d' q') : i = i' ∧ r = r' ∧ d = d' ∧ q = q' := by
  unfold nlp at h
  omega
theorem vstep {s : Int64} {c : Int32} {v a b : vV} (h : vR s c v) {x y : Int64} {m k : Int32} (ha : vR x m a) (hb : vR y k b) : vR (kmin s (x + y)) (c + m * k) (vad v (vmu a b)) := by
  obtain ⟨rfl, rfl⟩ := h
  obtain ⟨rfl, rfl⟩ := ha
  obtain ⟨rfl, rfl⟩ := hb
  have h1 := v.1.2
  have h2 := a.1.2
  have h3 := b.1.2
  refine ⟨?_, ?_⟩
  · rw [lN_add, kmin_l (by omega) (by omega)]
    show _ = lN (min v.1.1 (min (a.1.1 + b.1.1) 288230376151711744))
    congr 1
    omega
  · rw [pk_mul, nI_add]
    rfl
theorem ktrees_v {lt lts : List Int64} {ctr ctrs : List Int32} {f t d q : Nat} {T S : Nat → vV} : ∀ k, (∀ e, e < k → vR (lt.getD (nsp f (f + e) d q) 0) (ctr.getD (nsp f (f + e) d q) 0) (T e) ∧ vR (lts.getD (nsp (f + e + 1) t d q) 0) (ctrs.getD (nsp (f + e + 1) t d q) 0) (S e)) → vR (ktrees lt lts ctr ctrs f t d q k).1 (ktrees lt lts ctr ctrs f t d q k).2 (bs vad vz (fun e => vmu (T e) (S e)) k)
  | 0, _ => ⟨rfl, rfl⟩
  | k + 1, h => vstep (ktrees_v k (fun e he => h e (by omega))) (h k (by omega)).1 (h k (by omega)).2
theorem ktstep_v {lk lts : List Int64} {ctrs : List Int32} {f t d q w r : Nat} {s : Int64 × Int32} {v A L B : vV} (h : vR s.1 s.2 v) (hL : vL (lk.getD (nlp w r d q) 0) L) (hA : vR (lts.getD (nsp f (w - 1) w r) 0) (ctrs.getD (nsp f (w - 1) w r) 0) A) (hB : vR (lts.getD (nsp (w + 1) t w r) 0) (ctrs.getD (nsp (w + 1) t w r) 0) B) : vR (ktstep lk lts ctrs f t d q s w r).1 (ktstep lk lts ctrs f t d q s w r).2 (vad v (vmu (vmu A L) B)) := by
  unfold ktstep
  have h2 := A.1.2
  have h3 := B.1.2
  have h4 := L.1.2
  have h5 := v.1.2
  rw [hL.1, kIMP_l]
  by_cases hc : L.1.1 < 288230376151711744
  · rw [if_pos ((pk_lLT (by omega) (by omega)).mpr hc)]
    have hl2 := hL.2
    rw [if_pos hc] at hl2
    refine ⟨?_, ?_⟩
    · show kmin s.1 _ = _
      rw [h.1, hA.1, hB.1, lN_add, lN_add, kmin_l (by omega) (by omega)]
      show _ = lN (min v.1.1 (min (min (A.1.1 + L.1.1) 288230376151711744 + B.1.1) 288230376151711744))
      congr 1
      omega
    · show s.2 + _ = nI (v.2 + A.2 * L.2 * B.2)
      rw [h.2, hA.2, hB.2, hl2, Nat.mul_one, pk_mul, nI_add]
  · rw [if_neg (fun c => hc ((pk_lLT (by omega) (by omega)).mp c))]
    have hl2 := hL.2
    rw [if_neg hc] at hl2
    refine ⟨?_, ?_⟩
    · rw [h.1]
      show _ = lN (min v.1.1 (min (min (A.1.1 + L.1.1) 288230376151711744 + B.1.1) 288230376151711744))
      congr 1
      omega
    · rw [h.2]
      show nI v.2 = nI (v.2 + A.2 * L.2 * B.2)
      rw [hl2, Nat.mul_zero, Nat.zero_mul, Nat.add_zero]
theorem ktree_v {lk lts : List Int64} {ctrs : List Int32} {f l d q : Nat} {ℓ g : Nat → Nat → Nat → Nat → vV} (hf : 1 ≤ f) (hl : ∀ k r, k < l → r < 2 → vL (lk.getD (nlp (f + k) r d q) 0) (ℓ (f + k) r d q)) (hA : ∀ k r, k < l → r < 2 → vR (lts.getD (nsp f (f + k - 1) (f + k) r) 0) (ctrs.getD (nsp f (f + k - 1) (f + k) r) 0) (g f k (f + k) r)) (hB : ∀ k r, k < l → r < 2 → vR (lts.getD (nsp (f + k + 1) (f + l - 1) (f + k) r) 0) (ctrs.getD (nsp (f + k + 1) (f + l - 1) (f + k) r) 0) (g (f + k + 1) (l - k - 1) (f + k) r)) :
    vR (ktree lk lts ctrs f (f + l - 1) d q l).1 (ktree lk lts ctrs f (f + l - 1) d q l).2 (cT vad vmu vz ℓ g f l d q) := by
  have key : ∀ k, k ≤ l → vR (ktree lk lts ctrs f (f + l - 1) d q k).1 (ktree lk lts ctrs f (f + l - 1) d q k).2 (bs vad vz (fun k => vad (vmu (vmu (g f k (f + k) 0) (ℓ (f + k) 0 d q)) (g (f + k + 1) (l - k - 1) (f + k) 0)) (vmu (vmu (g f k (f + k) 1) (ℓ (f + k) 1 d q)) (g (f + k + 1) (l - k - 1) (f + k) 1))) k) := by
    intro k
    induction k with
    | zero => intro _; exact ⟨rfl, rfl⟩
    | succ k ih =>
      intro hk
      have i1 := ktstep_v (ih (by omega)) (hl k 0 (by omega) (by omega)) (hA k 0 (by omega) (by omega)) (hB k 0 (by omega) (by omega))
      have i2 := ktstep_v i1 (hl k 1 (by omega) (by omega)) (hA k 1 (by omega) (by omega)) (hB k 1 (by omega) (by omega))
      rw [vsr.aa] at i2
      exact i2
  exact key l (Nat.le_refl l)
theorem cS_eq {α : Type} {ad mu : α → α → α} {z o : α} {ℓ : Nat → Nat → Nat → Nat → α} {n f l d q : Nat} (h0 : 0 < l) (hl : l ≤ n) : cS ad mu z o ℓ n f l d q = bs ad z (fun e => mu (cT ad mu z ℓ (cS ad mu z o ℓ n) f (e + 1) d q) (cS ad mu z o ℓ n (f + e + 1) (l - e - 1) d q)) l := by
  rw [cS_fuel n (n + 1) f l d q hl (by omega)]
  show (if l = 0 then o else _) = _
  rw [if_neg (by omega)]
section GI
variable {n z : Nat} {ℓ : Nat → Nat → Nat → Nat → vV} {lk : List Int64} {A : kA}
/-- the cells of a span are right -/
def gC (n : Nat) (ℓ : Nat → Nat → Nat → Nat → vV) (A : kA) (f l d q : Nat) : Prop := vR (A.2.1.getD (nsp f (f + l - 1) d q) 0) (A.2.2.2.getD (nsp f (f + l - 1) d q) 0) (cS vad vmu vz vo ℓ n f l d q) ∧ (0 < l → vR (A.1.getD (nsp f (f + l - 1) d q) 0) (A.2.2.1.getD (nsp f (f + l - 1) d q) 0) (cT vad vmu vz ℓ (cS vad vmu vz vo ℓ n) f l d q))
def gV (n f l d q : Nat) : Prop := 1 ≤ f ∧ f + l ≤ n + 1 ∧ 1 ≤ d ∧ d ≤ n ∧ (d < f ∨ f + l ≤ d) ∧ q < 2
def gI (n : Nat) (ℓ : Nat → Nat → Nat → Nat → vV) (z : Nat) (D : Nat → Nat → Nat → Prop) (A : kA) : Prop := ∀ f l d q, gV n f l d q → (l ≤ z ∨ l = z + 1 ∧ D f d q) → gC n ℓ A f l d q
theorem gI_mono {D D' : Nat → Nat → Nat → Prop} (h : gI n ℓ z D A) (hD : ∀ f d q, gV n f (z + 1) d q → D' f d q → D f d q) : gI n ℓ z D' A := by
  intro f l d q hv hl
  refine h f l d q hv ?_
  rcases hl with hl | ⟨rfl, hl⟩
  · exact Or.inl hl
  · exact Or.inr ⟨rfl, hD f d q hv hl⟩
theorem kone_v {D : Nat → Nat → Nat → Prop} {f d q : Nat} (hn : n ≤ 6) (hk : kaok A) (h : gI n ℓ z D A) (hv : gV n f (z + 1) d q) (hl : ∀ i r d q, 1 ≤ i → i ≤ n → 1 ≤ d → d ≤ n → ¬ i = d → r < 2 → q < 2 → vL (lk.getD (nlp i r d q) 0) (ℓ i r d q)) : gI n ℓ z (fun f' d' q' => D f' d' q' ∨ (f' = f ∧ d' = d ∧ q' = q)) (kone lk f (f + z) d q A) := by
  obtain ⟨v1, v2, v3, v4, v5, v6⟩ := hv
  have e1 : f + (z + 1) - 1 = f + z := by omega
  have e2 : f + z + 1 - f = z + 1 := by omega
  have hlt : nsp f (f + z) d q < 1024 := nsp_lt (by omega) (by omega) (by omega) v6
  -- the tree
  have t1 := ktree_v (lk := lk) (lts := A.2.1) (ctrs := A.2.2.2) (f := f) (l := z + 1) (d := d) (q := q) (ℓ := ℓ) (g := cS vad vmu vz vo ℓ n) v1 (fun k r hk hr => hl (f + k) r d q (by omega) (by omega) v3 v4 (by omega) hr v6)
    (fun k r hk hr => (h f k (f + k) r ⟨v1, by omega, by omega, by omega, Or.inr (by omega), hr⟩ (Or.inl (by omega))).1)
    (fun k r hk hr => by
      have := (h (f + k + 1) (z + 1 - k - 1) (f + k) r ⟨by omega, by omega, by omega, by omega, Or.inl (by omega), hr⟩ (Or.inl (by omega))).1
      rw [show f + k + 1 + (z + 1 - k - 1) - 1 = f + (z + 1) - 1 by omega] at this
      exact this)
  rw [e1] at t1
  -- A behind the tree
  have hk1 := kone1_ok (lk := lk) (f := f) (t := f + z) (d := d) (q := q) hk
  have g1 : gI n ℓ z D (kone1 lk f (f + z) d q A) := by
    intro f' l' d' q' hv' hl'
    have old := h f' l' d' q' hv' hl'
    obtain ⟨w1, w2, w3, w4, w5, w6⟩ := hv'
    refine ⟨old.1, fun h0 => ?_⟩
    unfold kone1
    dsimp only
    by_cases hc : nsp f (f + z) d q = nsp f' (f' + l' - 1) d' q'
    · obtain ⟨c1, c2, c3, c4⟩ := nsp_inj (by omega) (by omega) v6 (by omega) (by omega) w6 hc
      subst c1 c3 c4
      have : l' = z + 1 := by omega
      subst this
      rw [e1, gs_eq (by rw [hk.1]; exact hlt), gs_eq (by rw [hk.2.2.1]; exact hlt), e2]
      exact t1
    · rw [gs_ne hc, gs_ne hc]
      exact old.2 h0
  have g1' : vR ((kone1 lk f (f + z) d q A).1.getD (nsp f (f + z) d q) 0) ((kone1 lk f (f + z) d q A).2.2.1.getD (nsp f (f + z) d q) 0) (cT vad vmu vz ℓ (cS vad vmu vz vo ℓ n) f (z + 1) d q) := by
    unfold kone1
    dsimp only
    rw [gs_eq (by rw [hk.1]; exact hlt), gs_eq (by rw [hk.2.2.1]; exact hlt), e2]
    exact t1
  show gI n ℓ z _ (kone2 f (f + z) d q (kone1 lk f (f + z) d q A))
  generalize kone1 lk f (f + z) d q A = B at g1 g1' hk1
  have t2 := ktrees_v (lt := B.1) (lts := B.2.1) (ctr := B.2.2.1) (ctrs := B.2.2.2) (f := f) (t := f + z) (d := d) (q := q) (T := fun e => cT vad vmu vz ℓ (cS vad vmu vz vo ℓ n) f (e + 1) d q) (S := fun e => cS vad vmu vz vo ℓ n (f + e + 1) (z + 1 - e - 1) d q) (z + 1) (fun e he => by
    refine ⟨?_, ?_⟩
    · by_cases hez : e = z
      · subst hez
        exact g1'
      · have := (g1 f (e + 1) d q ⟨v1, by omega, v3, v4, by omega, v6⟩ (Or.inl (by omega))).2 (by omega)
        rw [show f + (e + 1) - 1 = f + e by omega] at this
        exact this
    · have := (g1 (f + e + 1) (z + 1 - e - 1) d q ⟨by omega, by omega, v3, v4, by omega, v6⟩ (Or.inl (by omega))).1
      rw [show f + e + 1 + (z + 1 - e - 1) - 1 = f + z by omega] at this
      exact this)
  rw [← cS_eq (by omega) (by omega)] at t2
  intro f' l' d' q' hv' hl'
  obtain ⟨w1, w2, w3, w4, w5, w6⟩ := hv'
  by_cases hc : nsp f (f + z) d q = nsp f' (f' + l' - 1) d' q'
  · obtain ⟨c1, c2, c3, c4⟩ := nsp_inj (by omega) (by omega) v6 (by omega) (by omega) w6 hc
    subst c1 c3 c4
    have : l' = z + 1 := by omega
    subst this
    unfold gC kone2
    dsimp only
    rw [e1, gs_eq (by rw [hk1.2.1]; exact hlt), gs_eq (by rw [hk1.2.2.2]; exact hlt), e2]
    exact ⟨t2, fun _ => g1'⟩
  · have old := g1 f' l' d' q' ⟨w1, w2, w3, w4, w5, w6⟩ (by
      rcases hl' with hl' | ⟨rfl, hl' | ⟨rfl, rfl, rfl⟩⟩
      · exact Or.inl hl'
      · exact Or.inr ⟨rfl, hl'⟩
      · exact absurd (by rw [e1]) hc)
    unfold gC kone2
    dsimp only
    rw [gs_ne hc, gs_ne hc]
    exact old
theorem kspan_v {D : Nat → Nat → Nat → Prop} {f : Nat} (hn : n ≤ 6) (hk : kaok A) (h : gI n ℓ z D A) (h1 : 1 ≤ f) (h2 : f + z ≤ n) (hl : ∀ i r d q, 1 ≤ i → i ≤ n → 1 ≤ d → d ≤ n → ¬ i = d → r < 2 → q < 2 → vL (lk.getD (nlp i r d q) 0) (ℓ i r d q)) : ∀ k, k ≤ n → gI n ℓ z (fun f' d' q' => D f' d' q' ∨ (f' = f ∧ d' ≤ k)) (kspan lk f (f + z) A k)
  | 0, _ => gI_mono h (fun f' d' q' hv hd => by
      rcases hd with hd | ⟨_, hd⟩
      · exact hd
      · have := hv.2.2.1
        omega)
  | k + 1, hkn => by
    have ih := kspan_v hn hk h h1 h2 hl k (by omega)
    have ihk := kspan_ok (lk := lk) (f := f) (t := f + z) hk k
    unfold kspan
    by_cases hc : f ≤ k + 1 ∧ k + 1 ≤ f + z
    · rw [if_pos hc]
      refine gI_mono ih (fun f' d' q' hv hd => ?_)
      rcases hd with hd | ⟨rfl, hd⟩
      · exact Or.inl hd
      · have h5 := hv.2.2.2.2.1
        exact Or.inr ⟨rfl, by omega⟩
    · rw [if_neg hc]
      have a0 := kone_v (f := f) (d := k + 1) (q := 0) hn ihk ih ⟨h1, by omega, by omega, by omega, by omega, by omega⟩ hl
      have a1 := kone_v (f := f) (d := k + 1) (q := 1) hn (kone_ok ihk) a0 ⟨h1, by omega, by omega, by omega, by omega, by omega⟩ hl
      refine gI_mono a1 (fun f' d' q' hv hd => ?_)
      rcases hd with hd | ⟨rfl, hd⟩
      · exact Or.inl (Or.inl (Or.inl hd))
      · have hq := hv.2.2.2.2.2
        by_cases hdk : d' ≤ k
        · exact Or.inl (Or.inl (Or.inr ⟨rfl, hdk⟩))
        · have : d' = k + 1 := by omega
          rcases (show q' = 0 ∨ q' = 1 by omega) with rfl | rfl
          · exact Or.inl (Or.inr ⟨rfl, this, rfl⟩)
          · exact Or.inr ⟨rfl, this, rfl⟩
theorem kspans_v (hn : n ≤ 6) (hk : kaok A) (h : gI n ℓ z (fun _ _ _ => False) A) (hl : ∀ i r d q, 1 ≤ i → i ≤ n → 1 ≤ d → d ≤ n → ¬ i = d → r < 2 → q < 2 → vL (lk.getD (nlp i r d q) 0) (ℓ i r d q)) : ∀ k, k + z ≤ n → gI n ℓ z (fun f' _ _ => f' ≤ k) (kspans lk n (z + 1) A k)
  | 0, _ => gI_mono h (fun f' d' q' hv hd => by
      have := hv.1
      omega)
  | k + 1, hkn => by
    have ih := kspans_v hn hk h hl k (by omega)
    have ihk := kspans_ok (lk := lk) (n := n) (z := z + 1) hk k
    have := kspan_v (f := k + 1) hn ihk ih (by omega) (by omega) hl n (Nat.le_refl n)
    unfold kspans
    rw [show k + 1 + (z + 1) - 1 = k + 1 + z by omega]
    refine gI_mono this (fun f' d' q' hv hd => ?_)
    by_cases hf : f' ≤ k
    · exact Or.inl hf
    · exact Or.inr ⟨by omega, hv.2.2.2.1⟩
theorem ksizes_v (hn : n ≤ 6) (hk : kaok A) (h : gI n ℓ 0 (fun _ _ _ => False) A) (hl : ∀ i r d q, 1 ≤ i → i ≤ n → 1 ≤ d → d ≤ n → ¬ i = d → r < 2 → q < 2 → vL (lk.getD (nlp i r d q) 0) (ℓ i r d q)) : ∀ k, k < n → gI n ℓ k (fun _ _ _ => False) (ksizes lk n A k)
  | 0, _ => h
  | k + 1, hkn => by
    have ih := ksizes_v hn hk h hl k (by omega)
    have ihk := ksizes_ok (lk := lk) (n := n) hk k
    have := kspans_v hn ihk ih hl (n + 1 - (k + 1)) (by omega)
    show gI n ℓ (k + 1) _ (kspans lk n (k + 1) (ksizes lk n A k) (n + 1 - (k + 1)))
    intro f l d q hv hl'
    refine this f l d q hv ?_
    rcases hl' with hl' | ⟨_, hf⟩
    · by_cases hlk : l ≤ k
      · exact Or.inl hlk
      · have h2 := hv.2.1
        exact Or.inr ⟨by omega, by omega⟩
    · exact hf.elim
/-- spans of no words -/
def ch0 (A : kA) : Prop := ∀ f d q, 1 ≤ f → f < 8 → d < 8 → q < 2 → A.2.1.getD (nsp f (f - 1) d q) 0 = 0 ∧ A.2.2.2.getD (nsp f (f - 1) d q) 0 = 1
theorem ch0_one {f t d q : Nat} (h : ch0 A) (ht : t < 8) (hd : d < 8) (hq : q < 2) (hft : f ≤ t) : ch0 (kone lk f t d q A) := by
  intro f' d' q' a b c e
  have hc : ¬ nsp f t d q = nsp f' (f' - 1) d' q' := fun hc => by
    have := nsp_inj ht hd hq (by omega) c e hc
    omega
  show (List.set _ _ _).getD _ _ = _ ∧ (List.set _ _ _).getD _ _ = _
  rw [gs_ne hc, gs_ne hc]
  exact h f' d' q' a b c e
theorem ch0_span {f t : Nat} (h : ch0 A) (ht : t < 8) (hft : f ≤ t) : ∀ k, k < 8 → ch0 (kspan lk f t A k)
  | 0, _ => h
  | k + 1, hk => by
    unfold kspan
    split
    · exact ch0_span h ht hft k (by omega)
    · exact ch0_one (ch0_one (ch0_span h ht hft k (by omega)) ht hk (by omega) hft) ht hk (by omega) hft
theorem ch0_spans (h : ch0 A) (hn : n ≤ 6) (hz : 1 ≤ z) : ∀ k, k + z ≤ n + 1 → ch0 (kspans lk n z A k)
  | 0, _ => h
  | k + 1, hk => by
    unfold kspans
    exact ch0_span (ch0_spans h hn hz k (by omega)) (by omega) (by omega) n (by omega)
theorem ch0_sizes (h : ch0 A) (hn : n ≤ 6) : ∀ k, k ≤ n → ch0 (ksizes lk n A k)
  | 0, _ => h
  | k + 1, hk => by
    unfold ksizes
    exact ch0_spans (ch0_sizes h hn k (by omega)) hn (by omega) _ (by omega)
theorem ch0_gI (h : ch0 A) (hn : n ≤ 6) : gI n ℓ 0 (fun _ _ _ => False) A := by
  intro f l d q hv hl
  have : l = 0 := by
    rcases hl with hl | ⟨_, hl⟩
    · omega
    · exact hl.elim
  subst this
  obtain ⟨v1, v2, v3, v4, v5, v6⟩ := hv
  obtain ⟨a, b⟩ := h f d q v1 (by omega) (by omega) v6
  refine ⟨?_, fun c => by omega⟩
  show vR (A.2.1.getD (nsp f (f - 1) d q) 0) (A.2.2.2.getD (nsp f (f - 1) d q) 0) _
  rw [a, b, cS_0]
  exact ⟨rfl, rfl⟩
end GI
