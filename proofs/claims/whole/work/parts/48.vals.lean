/-! what links cost, as numbers; rows and codes -/
theorem nI_m1 {c : Nat} (h : c < 2 ^ 31) : ¬ nI c = -1 := by
  intro e
  have := congrArg Int32.toInt e
  rw [nI_toInt h] at this
  have e1 : (-1 : Int32).toInt = -1 := by decide
  omega
theorem kshare_n {c q p : Nat} (hc : c < 1000) (hq : q < 1000) (hp : p < 16777216) : kshare (nI c) (nI q) (nI p) = lN ((c + q) * 68719476736 + q * 16777216 + p) := by
  unfold kshare
  rw [if_neg (nI_m1 (by omega)), nI_add, nI_l (by omega), nI_l (by omega), nI_l (by omega), show (36 : Int32) = nI 36 from rfl, show (24 : Int32) = nI 24 from rfl, wb_shl _ (by omega), wb_shl _ (by omega), lN_add, lN_add]
theorem kpart_n : ∀ i, i < 7 → ∀ r, r < 2 → ∀ d, d < 8 → kpart (nI i) (nI r) (nI d) = nI ((8 * r + d) * 16 ^ (6 - i)) := by decide +kernel
theorem kfar_n : ∀ i, i < 7 → ∀ d, d < 7 → ¬ i = d → kfar (nI i) (nI d) = nI (max i d - min i d - 1) := by decide +kernel
theorem k_sh : ∀ i, i < 7 → (((4 * (6 - nI i)) &&& 31).toBitVec.smod 32).toNat = 4 * (6 - i) ∧ (((4 * (6 - nI i) + 3) &&& 31).toBitVec.smod 32).toNat = 4 * (6 - i) + 3 := by decide +kernel
theorem khead_n {row i : Nat} (hr : row < 16777216) (hi : i < 7) : khead (nI row) (nI i) = nI (row / 16 ^ (6 - i) % 8) := by
  unfold khead
  rw [pk_shrN (by omega) _ _ (k_sh i hi).1, pk_andN (Nat.lt_of_le_of_lt (Nat.div_le_self _ _) (by omega)) 3 (by decide)]
  congr 1
  rw [Nat.pow_mul]
theorem kread_nn {row i : Nat} (hr : row < 16777216) (hi : i < 7) : kread (nI row) (nI i) = nI (row / 16 ^ (6 - i) / 8 % 2) := by
  unfold kread
  rw [pk_shrN (by omega) _ _ (k_sh i hi).2, pk_andN (Nat.lt_of_le_of_lt (Nat.div_le_self _ _) (by omega)) 1 (by decide)]
  congr 1
  rw [Nat.pow_add, ← Nat.div_div_eq_div_mul, Nat.pow_mul]
section VL
variable {s : kS} {W : Int32}
theorem klink_n (hv : sv s) {i r d q : Nat} (hi : i < 7) (hd : d < 7) (hne : ¬ i = d) : klink (sP s) (sS s) (sX s) (sT s) (sen s) (nI i) (nI r) (nI d) (nI q) = -1 ∨ ∃ a, a < 1000 ∧ klink (sP s) (sS s) (sX s) (sT s) (sen s) (nI i) (nI r) (nI d) (nI q) = nI a := by
  unfold klink
  by_cases h1 : ksort (sS s) (sen s) (nI i) (nI r) = -1 ∨ ksort (sS s) (sen s) (nI d) (nI q) = -1
  · rw [if_pos h1]
    exact Or.inl rfl
  · rw [if_neg h1]
    by_cases h2 : kprice (sP s) (sS s) (sen s) (nI i) (nI r) (nI d) (nI q) = -1
    · rw [if_pos h2]
      exact Or.inl rfl
    · rw [if_neg h2]
      refine Or.inr ?_
      have e1 : ∃ a, a ≤ 9 ∧ kprice (sP s) (sS s) (sen s) (nI i) (nI r) (nI d) (nI q) = nI a := by
        rcases hv.vP ((ksort (sS s) (sen s) (nI d) (nI q) * 6 + ksort (sS s) (sen s) (nI i) (nI r)) * 2 + (if nI d ≤ nI i then 1 else 0)).toNatClampNeg with h | h
        · exact absurd h h2
        · exact h
      have e2 : ∃ a, a ≤ 9 ∧ kextra (sX s) (sen s) (nI i) (nI r) = nI a := by
        unfold kextra
        split
        · exact hv.vX _
        · exact ⟨0, by omega, rfl⟩
      obtain ⟨a, ha, ea⟩ := e1
      obtain ⟨b, hb, eb⟩ := e2
      obtain ⟨t, ht, et⟩ := hv.vT0
      have et' : xg (sT s) 0 = nI t := et
      have hm : max i d - min i d - 1 ≤ 5 := by omega
      have hmm : t * (max i d - min i d - 1) ≤ 3 * 5 := Nat.mul_le_mul ht hm
      exact ⟨a + b + t * (max i d - min i d - 1), by omega, by rw [ea, eb, et', kfar_n i hi d hd hne, pk_mul, nI_add, nI_add]⟩
theorem kroot_n (hv : sv s) {i r : Nat} : kroot (sR s) (sS s) (sX s) (sen s) (nI i) (nI r) = -1 ∨ ∃ a, a < 1000 ∧ kroot (sR s) (sS s) (sX s) (sen s) (nI i) (nI r) = nI a := by
  unfold kroot
  by_cases h1 : ksort (sS s) (sen s) (nI i) (nI r) = -1 ∨ xg (sR s) (ksort (sS s) (sen s) (nI i) (nI r)) = -1
  · rw [if_pos h1]
    exact Or.inl rfl
  · rw [if_neg h1]
    refine Or.inr ?_
    have e1 : ∃ a, a ≤ 9 ∧ xg (sR s) (ksort (sS s) (sen s) (nI i) (nI r)) = nI a := by
      rcases hv.vR (ksort (sS s) (sen s) (nI i) (nI r)).toNatClampNeg with h | h
      · exact absurd (Or.inr h) h1
      · exact h
    have e2 : ∃ a, a ≤ 9 ∧ kextra (sX s) (sen s) (nI i) (nI r) = nI a := by
      unfold kextra
      split
      · exact hv.vX _
      · exact ⟨0, by omega, rfl⟩
    obtain ⟨a, ha, ea⟩ := e1
    obtain ⟨b, hb, eb⟩ := e2
    exact ⟨a + b, by omega, by rw [ea, eb, nI_add]⟩
theorem krep_n (hv : sv s) {wt i : Nat} (hw : wt ≤ 9) (hi : i < 7) {r d : Int32} : ∃ a, a < 100 ∧ krep (sro s) (sct s) (nI wt) (nI i) r d = nI a := by
  unfold krep
  split
  · exact ⟨0, by omega, rfl⟩
  · rename_i h
    split
    · have h6 := hv.n6
      rw [hv.ct] at h ⊢
      have hlt : i < sn s := Nat.lt_of_not_le fun c => h (Or.inr (nI_le c (by omega)))
      have : wt * (sn s - i) ≤ 9 * 6 := Nat.mul_le_mul hw (by omega)
      exact ⟨wt * (sn s - i), by omega, by rw [pk_sub (by omega), pk_mul]⟩
    · exact ⟨0, by omega, rfl⟩
end VL
