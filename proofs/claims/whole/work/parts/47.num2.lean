/-! links, roots: the chart's answer by the semiring -/
section GL
variable {s : kS} {W : Int32} {n : Nat} {lk : List Int64}
theorem kset_get {i r d q i' r' d' q' : Nat} (hl : lk.length = 256) (hi : i < 8) (hr : r < 2) (hd : d < 8) (hq : q < 2) (hr' : r' < 2) (hd' : d' < 8) (hq' : q' < 2) : (kset s W i r d q lk).getD (nlp i' r' d' q') 0 = if i' = i ∧ r' = r ∧ d' = d ∧ q' = q then kcell s W i r d q else lk.getD (nlp i' r' d' q') 0 := by
  unfold kset
  by_cases hc : i' = i ∧ r' = r ∧ d' = d ∧ q' = q
  · rw [if_pos hc]
    obtain ⟨rfl, rfl, rfl, rfl⟩ := hc
    exact gs_eq (by rw [hl]; exact nlp_lt hi hr hd hq)
  · rw [if_neg hc]
    refine gs_ne (fun e => hc ?_)
    obtain ⟨a, b, c, d⟩ := nlp_inj hr hd hq hr' hd' hq' e
    exact ⟨a.symm, b.symm, c.symm, d.symm⟩
theorem kset4_get {i d i' r' d' q' : Nat} (hl : lk.length = 256) (hi : i < 8) (hd : d < 8) (hr' : r' < 2) (hd' : d' < 8) (hq' : q' < 2) : (kset4 s W i d lk).getD (nlp i' r' d' q') 0 = if i' = i ∧ d' = d then kcell s W i r' d q' else lk.getD (nlp i' r' d' q') 0 := by
  unfold kset4
  rw [kset_get (by rw [kset_len, kset_len, kset_len]; exact hl) hi (by omega) hd (by omega) hr' hd' hq', kset_get (by rw [kset_len, kset_len]; exact hl) hi (by omega) hd (by omega) hr' hd' hq', kset_get (by rw [kset_len]; exact hl) hi (by omega) hd (by omega) hr' hd' hq', kset_get hl hi (by omega) hd (by omega) hr' hd' hq']
  by_cases hc : i' = i ∧ d' = d
  · rw [if_pos hc]
    obtain ⟨rfl, rfl⟩ := hc
    rcases (show r' = 0 ∨ r' = 1 by omega) with rfl | rfl <;> rcases (show q' = 0 ∨ q' = 1 by omega) with rfl | rfl <;> simp
  · rw [if_neg hc, if_neg (fun c => hc ⟨c.1, c.2.2.1⟩), if_neg (fun c => hc ⟨c.1, c.2.2.1⟩), if_neg (fun c => hc ⟨c.1, c.2.2.1⟩), if_neg (fun c => hc ⟨c.1, c.2.2.1⟩)]
theorem klinks_get {i i' r' d' q' : Nat} (hl : lk.length = 256) (hi : i < 8) (hr' : r' < 2) (hd' : d' < 8) (hq' : q' < 2) : ∀ k, k < 8 → (klinks s W i lk k).getD (nlp i' r' d' q') 0 = if i' = i ∧ 1 ≤ d' ∧ d' ≤ k ∧ ¬ d' = i then kcell s W i r' d' q' else lk.getD (nlp i' r' d' q') 0
  | 0, _ => by rw [if_neg (by omega)]; rfl
  | k + 1, hk => by
    have ih := klinks_get (i := i) (i' := i') hl hi hr' hd' hq' k (by omega)
    unfold klinks
    by_cases hc : k + 1 = i
    · rw [if_pos hc, ih]
      by_cases hx : i' = i ∧ 1 ≤ d' ∧ d' ≤ k ∧ ¬ d' = i
      · rw [if_pos hx, if_pos (by omega)]
      · rw [if_neg hx, if_neg (by omega)]
    · rw [if_neg hc, kset4_get (by rw [klinks_len]; exact hl) hi hk hr' hd' hq', ih]
      by_cases hx : i' = i ∧ d' = k + 1
      · rw [if_pos hx, if_pos (by omega), hx.2]
      · rw [if_neg hx]
        by_cases hy : i' = i ∧ 1 ≤ d' ∧ d' ≤ k ∧ ¬ d' = i
        · rw [if_pos hy, if_pos (by omega)]
        · rw [if_neg hy, if_neg (by omega)]
theorem klinksA_get {i' r' d' q' : Nat} (hl : lk.length = 256) (hn : n < 8) (hr' : r' < 2) (hd' : d' < 8) (hq' : q' < 2) : ∀ k, k < 8 → (klinksA s W n lk k).getD (nlp i' r' d' q') 0 = if 1 ≤ i' ∧ i' ≤ k ∧ 1 ≤ d' ∧ d' ≤ n ∧ ¬ d' = i' then kcell s W i' r' d' q' else lk.getD (nlp i' r' d' q') 0
  | 0, _ => by rw [if_neg (by omega)]; rfl
  | k + 1, hk => by
    have ih := klinksA_get (i' := i') hl hn hr' hd' hq' k (by omega)
    unfold klinksA
    rw [klinks_get (by rw [klinksA_len]; exact hl) hk hr' hd' hq' n hn, ih]
    by_cases hx : i' = k + 1 ∧ 1 ≤ d' ∧ d' ≤ n ∧ ¬ d' = k + 1
    · rw [if_pos hx, if_pos (by omega), hx.1]
    · rw [if_neg hx]
      by_cases hy : 1 ≤ i' ∧ i' ≤ k ∧ 1 ≤ d' ∧ d' ≤ n ∧ ¬ d' = i'
      · rw [if_pos hy, if_pos (by omega)]
      · rw [if_neg hy, if_neg (by omega)]
/-- what a root's share is -/
def vRt (s : kS) (W : Int32) (w r : Nat) (v : vV) : Prop := (kroot (sR s) (sS s) (sX s) (sen s) (nI w) (nI r) = -1 ∧ v = vz) ∨ (¬ kroot (sR s) (sS s) (sX s) (sen s) (nI w) (nI r) = -1 ∧ kshare (kroot (sR s) (sS s) (sX s) (sen s) (nI w) (nI r)) (krep (sro s) (sct s) W (nI w) (nI r) 0) (kpart (nI w) (nI r) 0) = lN v.1.1 ∧ v.2 = 1)
theorem krstep_v {lts : List Int64} {ctrs : List Int32} {w r : Nat} {u : Int64 × Int32} {v A L B : vV} (h : vR u.1 u.2 v) (hL : vRt s W w r L) (hA : vR (lts.getD (nsp 1 (w - 1) w r) 0) (ctrs.getD (nsp 1 (w - 1) w r) 0) A) (hB : vR (lts.getD (nsp (w + 1) n w r) 0) (ctrs.getD (nsp (w + 1) n w r) 0) B) : vR (krstep s W lts ctrs n u w r).1 (krstep s W lts ctrs n u w r).2 (vad v (vmu (vmu A L) B)) := by
  unfold krstep
  have h2 := A.1.2
  have h3 := B.1.2
  have h4 := L.1.2
  have h5 := v.1.2
  rcases hL with ⟨a, rfl⟩ | ⟨a, b, c⟩
  · rw [if_pos a, vsr.mu_z, vsr.z_mu, vsr.ad_z]
    exact h
  · rw [if_neg a, b]
    refine ⟨?_, ?_⟩
    · show kmin u.1 _ = _
      rw [h.1, hA.1, hB.1, lN_add, lN_add, kmin_l (by omega) (by omega)]
      show _ = lN (min v.1.1 (min (min (A.1.1 + L.1.1) 288230376151711744 + B.1.1) 288230376151711744))
      congr 1
      omega
    · show u.2 + _ = nI (v.2 + A.2 * L.2 * B.2)
      rw [h.2, hA.2, hB.2, c, Nat.mul_one, pk_mul, nI_add]
theorem kreck_v {c : kC} {ℓ : Nat → Nat → Nat → Nat → vV} (hv : sv s) (hc : kcok c) (h0 : ch0 c.2.1)
    (hl : ∀ i r d q, 1 ≤ i → i ≤ sn s → 1 ≤ d → d ≤ sn s → ¬ i = d → r < 2 → q < 2 → vL (kcell s W i r d q) (ℓ i r d q))
    (hr : ∀ w r, 1 ≤ w → w ≤ sn s → r < 2 → vRt s W w r (ℓ w r 0 0)) :
    vR (kreck s W c).2.2.1 (kreck s W c).2.2.2 (cT vad vmu vz ℓ (cS vad vmu vz vo ℓ (sn s)) 1 (sn s) 0 0) ∧ ch0 (kreck s W c).2.1 := by
  have hn := hv.n6
  have hch : ch0 (kreckA s W c) := ch0_sizes h0 hn _ (by omega)
  refine ⟨?_, hch⟩
  show vR (kroots s W (kreckA s W c).2.1 (kreckA s W c).2.2.2 (sn s) (sn s)).1 (kroots s W (kreckA s W c).2.1 (kreckA s W c).2.2.2 (sn s) (sn s)).2 _
  by_cases hn0 : sn s = 0
  · rw [hn0]
    exact ⟨rfl, rfl⟩
  have hg : gI (sn s) ℓ (sn s - 1) (fun _ _ _ => False) (kreckA s W c) := by
    refine ksizes_v hn hc.2 (ch0_gI h0 hn) (fun i r d q a1 a2 a3 a4 a5 a6 a7 => ?_) (sn s - 1) (by omega)
    rw [klinksA_get hc.1 (by omega) a6 (by omega) a7 (sn s) (by omega), if_pos ⟨a1, a2, a3, a4, fun e => a5 e.symm⟩]
    exact hl i r d q a1 a2 a3 a4 a5 a6 a7
  generalize kreckA s W c = A at hg
  generalize hN : sn s = N at hg hr hn hn0 ⊢
  have key : ∀ k, k ≤ N → vR (kroots s W A.2.1 A.2.2.2 N k).1 (kroots s W A.2.1 A.2.2.2 N k).2 (bs vad vz (fun k => vad (vmu (vmu (cS vad vmu vz vo ℓ N 1 k (1 + k) 0) (ℓ (1 + k) 0 0 0)) (cS vad vmu vz vo ℓ N (1 + k + 1) (N - k - 1) (1 + k) 0)) (vmu (vmu (cS vad vmu vz vo ℓ N 1 k (1 + k) 1) (ℓ (1 + k) 1 0 0)) (cS vad vmu vz vo ℓ N (1 + k + 1) (N - k - 1) (1 + k) 1))) k) := by
    intro k
    induction k with
    | zero => intro _; exact ⟨rfl, rfl⟩
    | succ k ih =>
      intro hk
      have cl : ∀ r, r < 2 → vR (A.2.1.getD (nsp 1 (k + 1 - 1) (k + 1) r) 0) (A.2.2.2.getD (nsp 1 (k + 1 - 1) (k + 1) r) 0) (cS vad vmu vz vo ℓ N 1 k (1 + k) r) := by
        intro r hr2
        have := (hg 1 k (1 + k) r ⟨Nat.le_refl 1, by omega, by omega, by omega, Or.inr (by omega), hr2⟩ (Or.inl (by omega))).1
        rw [show 1 + k - 1 = k + 1 - 1 by omega, show nsp 1 (k + 1 - 1) (1 + k) r = nsp 1 (k + 1 - 1) (k + 1) r by rw [Nat.add_comm 1 k]] at this
        exact this
      have cr : ∀ r, r < 2 → vR (A.2.1.getD (nsp (k + 1 + 1) N (k + 1) r) 0) (A.2.2.2.getD (nsp (k + 1 + 1) N (k + 1) r) 0) (cS vad vmu vz vo ℓ N (1 + k + 1) (N - k - 1) (1 + k) r) := by
        intro r hr2
        have := (hg (1 + k + 1) (N - k - 1) (1 + k) r ⟨by omega, by omega, by omega, by omega, Or.inl (by omega), hr2⟩ (Or.inl (by omega))).1
        rw [show 1 + k + 1 + (N - k - 1) - 1 = N by omega, show nsp (1 + k + 1) N (1 + k) r = nsp (k + 1 + 1) N (k + 1) r by rw [Nat.add_comm 1 k]] at this
        exact this
      have r0 := hr (k + 1) 0 (by omega) hk (by omega)
      have r1 := hr (k + 1) 1 (by omega) hk (by omega)
      have i1 := krstep_v (ih (by omega)) r0 (cl 0 (by omega)) (cr 0 (by omega))
      have i2 := krstep_v i1 r1 (cl 1 (by omega)) (cr 1 (by omega))
      rw [vsr.aa] at i2
      rw [show ℓ (k + 1) 0 0 0 = ℓ (1 + k) 0 0 0 by rw [Nat.add_comm 1 k], show ℓ (k + 1) 1 0 0 = ℓ (1 + k) 1 0 0 by rw [Nat.add_comm 1 k]] at i2
      exact i2
  exact key N (Nat.le_refl N)
end GL
