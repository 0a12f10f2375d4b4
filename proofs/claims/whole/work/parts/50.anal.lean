/-! the reference's row of numbers beside a State; what one analysis costs in both -/
def gr (s : kS) (nw : List Int32) : Prop := nw.length = 149 ∧ (∀ k, k < 72 → nw.getD k 0 = (sP s).getD k 0) ∧ (∀ k, k < 6 → nw.getD (72 + k) 0 = (sR s).getD k 0) ∧ nw.getD 78 0 = sec s ∧ (∀ e, e < 12 → nw.getD (79 + 3 * e) 0 = (sS s).getD (2 * e) 0 ∧ nw.getD (79 + 3 * e + 1) 0 = (sS s).getD (2 * e + 1) 0 ∧ nw.getD (79 + 3 * e + 2) 0 = (sX s).getD e 0) ∧ (∀ k, k < 3 → nw.getD (115 + k) 0 = (sT s).getD k 0) ∧ nw.getD 118 0 = sct s ∧ (∀ k, k < 6 → nw.getD (119 + 5 * k) 0 = (sen s).getD (k + 1) 0)
theorem nI_m {w : Nat} (h : 1 ≤ w) : nI w - 1 = nI (w - 1) := by
  obtain ⟨k, rfl⟩ : ∃ k, w = k + 1 := ⟨w - 1, by omega⟩
  exact nI_pred k
theorem wp_n {w : Nat} (h : 1 ≤ w) : (119 : Int32) + 5 * (nI w - 1) = nI (119 + 5 * (w - 1)) := by
  rw [nI_m h, show (119 : Int32) = nI 119 from rfl, show (5 : Int32) = nI 5 from rfl, pk_mul, nI_add]
section GRR
variable {s : kS} {nw : List Int32}
theorem gr.l (hg : gr s nw) : nw.length = 149 := hg.1
theorem gr.en (hg : gr s nw) (hv : sv s) {w : Nat} (h1 : 1 ≤ w) (h6 : w ≤ 6) : ∃ j, j < 12 ∧ xg (sen s) (nI w) = nI j ∧ mentry nw (nI w) = nI (79 + 3 * j) := by
  obtain ⟨j, hj, e⟩ := hv.e w (by omega)
  refine ⟨j, hj, e, ?_⟩
  have e2 := hg.2.2.2.2.2.2.2 (w - 1) (by omega)
  rw [show w - 1 + 1 = w by omega] at e2
  unfold mentry
  rw [wp_n h1, xg_n (by omega), e2, ← xg_n (by omega), e, show (79 : Int32) = nI 79 from rfl, show (3 : Int32) = nI 3 from rfl, pk_mul, nI_add]
theorem gr.sort (hg : gr s nw) (hv : sv s) {w r : Nat} (h1 : 1 ≤ w) (h6 : w ≤ 6) (hr : r < 2) : xg nw (mentry nw (nI w) + nI r) = ksort (sS s) (sen s) (nI w) (nI r) := by
  obtain ⟨j, hj, e1, e2⟩ := hg.en hv h1 h6
  obtain ⟨a, b, _⟩ := hg.2.2.2.2.1 j hj
  unfold ksort
  rw [e1, e2, nI_add, show (2 : Int32) = nI 2 from rfl, pk_mul, nI_add, xg_n (by omega), xg_n (by omega), Nat.mul_comm j 2]
  rcases (show r = 0 ∨ r = 1 by omega) with rfl | rfl
  · exact a
  · exact b
theorem gr.extra (hg : gr s nw) (hv : sv s) {w : Nat} (h1 : 1 ≤ w) (h6 : w ≤ 6) : xg nw (mentry nw (nI w) + 2) = xg (sX s) (xg (sen s) (nI w)) := by
  obtain ⟨j, hj, e1, e2⟩ := hg.en hv h1 h6
  obtain ⟨_, _, a⟩ := hg.2.2.2.2.1 j hj
  rw [e1, e2, show (2 : Int32) = nI 2 from rfl, nI_add, xg_n (by omega), xg_n (by omega)]
  exact a
theorem gr.price (hg : gr s nw) {a b : Nat} (ha : a < 6) (hb : b < 6) {x y : Int32} : xg nw (0 + 12 * nI a + 2 * nI b + (if x ≤ y then 1 else 0)) = xg (sP s) ((nI a * 6 + nI b) * 2 + (if x ≤ y then 1 else 0)) := by
  have key : ∀ z : Nat, z < 2 → xg nw (0 + 12 * nI a + 2 * nI b + nI z) = xg (sP s) ((nI a * 6 + nI b) * 2 + nI z) := by
    intro z hz
    have e1 : (0 : Int32) + 12 * nI a + 2 * nI b + nI z = nI (12 * a + 2 * b + z) := by
      rw [Int32.zero_add, show (12 : Int32) = nI 12 from rfl, show (2 : Int32) = nI 2 from rfl, pk_mul, pk_mul, nI_add, nI_add]
    have e2 : (nI a * 6 + nI b) * 2 + nI z = nI (12 * a + 2 * b + z) := by
      rw [show (6 : Int32) = nI 6 from rfl, show (2 : Int32) = nI 2 from rfl, pk_mul, nI_add, pk_mul, nI_add]
      congr 1
      omega
    rw [e1, e2, xg_n (by omega), xg_n (by omega)]
    exact hg.2.1 _ (by omega)
  split
  · exact key 1 (by omega)
  · exact key 0 (by omega)
theorem gr.root (hg : gr s nw) {a : Nat} (ha : a < 6) : xg nw (72 + nI a) = xg (sR s) (nI a) := by
  rw [show (72 : Int32) = nI 72 from rfl, nI_add, xg_n (by omega), xg_n (by omega)]
  exact hg.2.2.1 a ha
theorem gr.T (hg : gr s nw) {k : Nat} (hk : k < 3) : xg nw (nI (115 + k)) = xg (sT s) (nI k) := by
  rw [xg_n (by omega), xg_n (by omega)]
  exact hg.2.2.2.2.2.1 k hk
end GRR
/-! codes of heads laid; readings laid -/
theorem nlay_get {b : Nat} : ∀ (w c : Nat) (hs : List Nat) (k : Nat), w < hs.length → (nlay hs b c w).getD k 0 = if 1 ≤ k ∧ k ≤ w then c / b ^ (w - k) % b else hs.getD k 0
  | 0, c, hs, k, _ => by rw [if_neg (by omega)]; rfl
  | w + 1, c, hs, k, h => by
    show (nlay (hs.set (w + 1) (c % b)) b (c / b) w).getD k 0 = _
    rw [nlay_get w (c / b) _ k (by rw [List.length_set]; omega)]
    by_cases h1 : 1 ≤ k ∧ k ≤ w
    · rw [if_pos h1, if_pos (by omega), Nat.div_div_eq_div_mul, show w + 1 - k = (w - k) + 1 by omega, Nat.pow_succ']
    · rw [if_neg h1]
      by_cases h2 : k = w + 1
      · subst h2
        rw [if_pos (by omega), gs_eq h, Nat.sub_self, Nat.pow_zero, Nat.div_one]
      · rw [if_neg (by omega), gs_ne (Ne.symm h2)]
section MRD
variable {nw : List Int32} {b n : Nat} {rd so : List Int32}
theorem mread_get (l1 : rd.length = 7) (l2 : so.length = 7) : ∀ k, k < 7 → ∀ w, 1 ≤ w → w ≤ k → (mread nw b n rd so k).1.1.getD w 0 = nI (rho n b w) ∧ (mread nw b n rd so k).1.2.getD w 0 = xg nw (mentry nw (nI w) + nI (rho n b w))
  | 0, _, w, h1, h2 => by omega
  | k + 1, hk, w, h1, h2 => by
    have ml := mread_len (nw := nw) (b := b) (n := n) (rd := rd) (so := so) k
    show (List.set (mread nw b n rd so k).1.1 (k + 1) (nI (rho n b (k + 1)))).getD w 0 = _ ∧ (List.set (mread nw b n rd so k).1.2 (k + 1) (xg nw (mentry nw (nI (k + 1)) + nI (rho n b (k + 1))))).getD w 0 = _
    by_cases hw : w = k + 1
    · subst hw
      rw [gs_eq (by rw [ml.1, l1]; exact hk), gs_eq (by rw [ml.2, l2]; exact hk)]
      exact ⟨rfl, rfl⟩
    · rw [gs_ne (Ne.symm hw), gs_ne (Ne.symm hw)]
      exact mread_get l1 l2 k (by omega) w h1 (by omega)
theorem mread_are : ∀ k, (mread nw b n rd so k).2 = true ↔ ∀ w, 1 ≤ w → w ≤ k → 0 ≤ xg nw (mentry nw (nI w) + nI (rho n b w))
  | 0 => ⟨fun _ w h1 h2 => by omega, fun _ => rfl⟩
  | k + 1 => by
    show ((mread nw b n rd so k).2 && decide (0 ≤ xg nw (mentry nw (nI (k + 1)) + nI (rho n b (k + 1))))) = true ↔ _
    rw [Bool.and_eq_true, mread_are k, decide_eq_true_iff]
    refine ⟨fun h w h1 h2 => ?_, fun h => ⟨fun w h1 h2 => h w h1 (by omega), h (k + 1) (by omega) (Nat.le_refl _)⟩⟩
    by_cases hw : w = k + 1
    · subst hw
      exact h.2
    · exact h.1 w h1 (by omega)
end MRD
/-! trees: what is used of them -/
theorem tT_mem {n c : Nat} (h1 : 1 ≤ n) (h6 : n ≤ 6) (h : c ∈ tT n) : c < (n + 1) ^ n ∧ ntree (nlay hs0 (n + 1) c n) n = true := by
  rw [← tT_eq n h1 h6] at h
  obtain ⟨a, b⟩ := List.mem_filter.mp h
  exact ⟨List.mem_range.mp a, b⟩
theorem lay_hdg {n c w : Nat} (h6 : n ≤ 6) (h1 : 1 ≤ w) (hw : w ≤ n) : (nlay hs0 (n + 1) c n).getD w 0 = hdg n c w := by
  rw [nlay_get n c hs0 w (by show n < 7; omega), if_pos ⟨h1, hw⟩]
  rfl
theorem nfine_at {hs : List Nat} : ∀ k, nfine hs k = true → ∀ w, 1 ≤ w → w ≤ k → ¬ hs.getD w 0 = w ∧ ncome hs 0 7 w = 0
  | 0, _, w, h1, h2 => by omega
  | k + 1, h, w, h1, h2 => by
    have h' : (nfine hs k && (!decide (hs.getD (k + 1) 0 = k + 1) && decide (ncome hs 0 7 (k + 1) = 0))) = true := h
    rw [Bool.and_eq_true, Bool.and_eq_true, Bool.not_eq_true', decide_eq_false_iff_not, decide_eq_true_iff] at h'
    by_cases hw : w = k + 1
    · subst hw
      exact h'.2
    · exact nfine_at k h'.1 w h1 (by omega)
theorem tree_ne {n c w : Nat} (h1 : 1 ≤ n) (h6 : n ≤ 6) (h : c ∈ tT n) (hw1 : 1 ≤ w) (hw : w ≤ n) : ¬ hdg n c w = w := by
  have h2 := (tT_mem h1 h6 h).2
  unfold ntree at h2
  rw [Bool.and_eq_true, Bool.and_eq_true] at h2
  rw [← lay_hdg h6 hw1 hw]
  exact (nfine_at n h2.1.1 w hw1 hw).1
/-! one analysis: word by word -/
theorem betw_n : ∀ w, w < 7 → ∀ d, d < 7 → ¬ d = 0 → ¬ d = w → (if nI d < nI w then nI w - nI d - 1 else nI d - nI w - 1) = kfar (nI w) (nI d) := by decide +kernel
theorem kc_n {s : kS} (hv : sv s) {i r d q : Nat} (hi : i < 7) (hd : d < 7) (hne : ¬ i = d) : kc s i r d q = -1 ∨ ∃ a, a < 1000 ∧ kc s i r d q = nI a := by
  unfold kc
  split
  · exact kroot_n hv
  · exact klink_n hv hi hd hne
def kap (s : kS) (n b c w : Nat) : Int32 := kc s w (rho n b w) (hdg n c w) (rho n b (hdg n c w))
def kqp (s : kS) (W : Int32) (n b c w : Nat) : Int32 := kq s W w (rho n b w) (hdg n c w)
def okA (s : kS) (n b c : Nat) : Bool := lok (fun k => kap s n b c (k + 1)) n
def CA (s : kS) (n b c : Nat) : Nat := nsum (fun k => (kap s n b c (k + 1)).toNatClampNeg) n
def RA (s : kS) (W : Int32) (n b c : Nat) : Nat := nsum (fun k => (kqp s W n b c (k + 1)).toNatClampNeg) n
section AN
variable {s : kS} {nw hd rd so ah ar : List Int32} {n b c : Nat}
theorem price_or {x : Int32} (h : x = -1 ∨ ∃ j, j ≤ 9 ∧ x = nI j) : 0 ≤ x ↔ ¬ x = -1 := by
  rcases h with rfl | ⟨j, hj, rfl⟩
  · decide
  · exact ⟨fun _ => nI_m1 (by omega), fun _ => nI_pos' (by omega)⟩
theorem an_word (hg : gr s nw) (hv : sv s) (hn : n ≤ 6) (hne : ∀ w, 1 ≤ w → w ≤ n → ¬ hdg n c w = w)
    (H1 : ∀ w, 1 ≤ w → w ≤ n → xg hd (nI w) = nI (hdg n c w)) (H2 : ∀ w, 1 ≤ w → w ≤ n → xg rd (nI w) = nI (rho n b w))
    (H3 : ∀ w, 1 ≤ w → w ≤ n → xg so (nI w) = ksort (sS s) (sen s) (nI w) (nI (rho n b w))) (H4 : ∀ w, 1 ≤ w → w ≤ n → ¬ ksort (sS s) (sen s) (nI w) (nI (rho n b w)) = -1)
    {w : Nat} (h1 : 1 ≤ w) (hw : w ≤ n) : (0 ≤ mprice nw hd so (nI w) ↔ ¬ kap s n b c w = -1) ∧ (¬ kap s n b c w = -1 → mprice nw hd so (nI w) + xg nw 115 * mbetw hd (nI w) + mextra nw rd (nI w) = kap s n b c w) := by
  have eX : mextra nw rd (nI w) = kextra (sX s) (sen s) (nI w) (nI (rho n b w)) := by
    unfold mextra kextra
    rw [H2 w h1 hw, hg.extra hv h1 (by omega)]
  have eT : xg nw 115 = xg (sT s) 0 := hg.T (k := 0) (by omega)
  obtain ⟨a, ha, ea⟩ := (hv.sort (i := w) (r := rho n b w) (by omega) (rho_lt n b w)).resolve_left (H4 w h1 hw)
  have hs1 := H3 w h1 hw
  have hs4 := H4 w h1 hw
  rw [eX, eT]
  unfold kap kc
  by_cases hd0 : hdg n c w = 0
  · have eh : xg hd (nI w) = 0 := by rw [H1 w h1 hw, hd0]; rfl
    have eP : mprice nw hd so (nI w) = xg (sR s) (ksort (sS s) (sen s) (nI w) (nI (rho n b w))) := by
      unfold mprice
      rw [if_pos eh, hs1, ea]
      exact hg.root ha
    have eB : mbetw hd (nI w) = 0 := by unfold mbetw; rw [if_pos eh]
    have eR := hv.vR (ksort (sS s) (sen s) (nI w) (nI (rho n b w))).toNatClampNeg
    rw [eP, eB, if_pos hd0]
    unfold kroot
    by_cases hp : xg (sR s) (ksort (sS s) (sen s) (nI w) (nI (rho n b w))) = -1
    · rw [if_pos (Or.inr hp), hp]
      exact ⟨⟨fun z => absurd z (by decide), fun z => absurd rfl z⟩, fun z => absurd rfl z⟩
    · rw [if_neg (fun z => z.elim hs4 hp)]
      obtain ⟨p, hp9, ep⟩ := eR.resolve_left hp
      have ep' : xg (sR s) (ksort (sS s) (sen s) (nI w) (nI (rho n b w))) = nI p := ep
      have ex : ∃ x, x ≤ 9 ∧ kextra (sX s) (sen s) (nI w) (nI (rho n b w)) = nI x := by
        unfold kextra
        split
        · exact hv.vX _
        · exact ⟨0, by omega, rfl⟩
      obtain ⟨x, hx9, ex⟩ := ex
      rw [ep', ex, Int32.mul_zero, Int32.add_zero, nI_add]
      exact ⟨⟨fun _ => nI_m1 (by omega), fun _ => nI_pos' (by omega)⟩, fun _ => rfl⟩
  · have hdn := hdg_lt n c w
    have hne' := hne w h1 hw
    have eh : xg hd (nI w) = nI (hdg n c w) := H1 w h1 hw
    have eh0 : ¬ xg hd (nI w) = 0 := by rw [eh]; exact nI_ne0 (by omega) (by omega)
    obtain ⟨a2, ha2, ea2⟩ := (hv.sort (i := hdg n c w) (r := rho n b (hdg n c w)) (by omega) (rho_lt n b _)).resolve_left (H4 _ (by omega) (by omega))
    have hs2 := H3 (hdg n c w) (by omega) (by omega)
    have hs5 := H4 (hdg n c w) (by omega) (by omega)
    have eP : mprice nw hd so (nI w) = kprice (sP s) (sS s) (sen s) (nI w) (nI (rho n b w)) (nI (hdg n c w)) (nI (rho n b (hdg n c w))) := by
      unfold mprice kprice
      rw [if_neg eh0, eh, hs1, hs2, ea, ea2]
      exact hg.price ha2 ha
    have eB : mbetw hd (nI w) = kfar (nI w) (nI (hdg n c w)) := by
      unfold mbetw
      rw [if_neg eh0, eh]
      exact betw_n w (by omega) _ (by omega) hd0 hne'
    have eR : kprice (sP s) (sS s) (sen s) (nI w) (nI (rho n b w)) (nI (hdg n c w)) (nI (rho n b (hdg n c w))) = -1 ∨ ∃ j, j ≤ 9 ∧ kprice (sP s) (sS s) (sen s) (nI w) (nI (rho n b w)) (nI (hdg n c w)) (nI (rho n b (hdg n c w))) = nI j := hv.vP _
    rw [eP, eB, if_neg hd0]
    unfold klink
    rw [if_neg (fun z => z.elim hs4 hs5)]
    generalize kprice (sP s) (sS s) (sen s) (nI w) (nI (rho n b w)) (nI (hdg n c w)) (nI (rho n b (hdg n c w))) = P at eR
    by_cases hp : P = -1
    · rw [if_pos hp, hp]
      exact ⟨⟨fun z => absurd z (by decide), fun z => absurd rfl z⟩, fun z => absurd rfl z⟩
    · rw [if_neg hp]
      have hkn := klink_n hv (i := w) (r := rho n b w) (d := hdg n c w) (q := rho n b (hdg n c w)) (by omega) (by omega) (fun z => hne' z.symm)
      refine ⟨⟨fun _ => ?_, fun _ => (price_or eR).mpr hp⟩, fun _ => ?_⟩
      · obtain ⟨j, hj, ej⟩ := eR.resolve_left hp
        have ex : ∃ x, x ≤ 9 ∧ kextra (sX s) (sen s) (nI w) (nI (rho n b w)) = nI x := by
          unfold kextra
          split
          · exact hv.vX _
          · exact ⟨0, by omega, rfl⟩
        obtain ⟨x, hx9, ex⟩ := ex
        obtain ⟨t, ht, et⟩ := hv.vT0
        have et' : xg (sT s) 0 = nI t := et
        have hm : max w (hdg n c w) - min w (hdg n c w) - 1 ≤ 5 := by omega
        have hmm : t * (max w (hdg n c w) - min w (hdg n c w) - 1) ≤ 3 * 5 := Nat.mul_le_mul ht hm
        rw [ej, ex, et', kfar_n w (by omega) (hdg n c w) (by omega) (fun z => hne' z.symm), pk_mul, nI_add, nI_add]
        exact nI_m1 (by omega)
      · rw [Int32.add_assoc, Int32.add_comm (xg (sT s) 0 * _), ← Int32.add_assoc]
theorem an_sum (hg : gr s nw) (hv : sv s) (hn : n ≤ 6) (hne : ∀ w, 1 ≤ w → w ≤ n → ¬ hdg n c w = w)
    (H1 : ∀ w, 1 ≤ w → w ≤ n → xg hd (nI w) = nI (hdg n c w)) (H2 : ∀ w, 1 ≤ w → w ≤ n → xg rd (nI w) = nI (rho n b w))
    (H3 : ∀ w, 1 ≤ w → w ≤ n → xg so (nI w) = ksort (sS s) (sen s) (nI w) (nI (rho n b w))) (H4 : ∀ w, 1 ≤ w → w ≤ n → ¬ ksort (sS s) (sen s) (nI w) (nI (rho n b w)) = -1) :
    ∀ k, k ≤ n → mcan nw hd so k = lok (fun k => kap s n b c (k + 1)) k ∧ (lok (fun k => kap s n b c (k + 1)) k = true → mcost nw hd rd so k = nI (nsum (fun k => (kap s n b c (k + 1)).toNatClampNeg) k))
  | 0, _ => ⟨rfl, fun _ => rfl⟩
  | k + 1, hk => by
    obtain ⟨i1, i2⟩ := an_sum hg hv hn hne H1 H2 H3 H4 k (by omega)
    obtain ⟨w1, w2⟩ := an_word hg hv hn hne H1 H2 H3 H4 (w := k + 1) (by omega) hk
    refine ⟨?_, fun h => ?_⟩
    · show (mcan nw hd so k && decide (0 ≤ mprice nw hd so (nI (k + 1)))) = (lok (fun k => kap s n b c (k + 1)) k && !decide (kap s n b c (k + 1) = -1))
      rw [i1]
      congr 1
      by_cases hz : kap s n b c (k + 1) = -1
      · rw [decide_eq_true hz, decide_eq_false (fun z => w1.mp z hz)]
        rfl
      · rw [decide_eq_false hz, decide_eq_true (w1.mpr hz)]
        rfl
    · have h' : (lok (fun k => kap s n b c (k + 1)) k && !decide (kap s n b c (k + 1) = -1)) = true := h
      rw [Bool.and_eq_true, Bool.not_eq_true', decide_eq_false_iff_not] at h'
      have e2 := w2 h'.2
      have hdn := hdg_lt n c (k + 1)
      have hne' := hne (k + 1) (by omega) hk
      obtain ⟨a, ha, ea⟩ := (kc_n hv (i := k + 1) (r := rho n b (k + 1)) (d := hdg n c (k + 1)) (q := rho n b (hdg n c (k + 1))) (by omega) (by omega) (fun z => hne' z.symm)).resolve_left h'.2
      have ea' : kap s n b c (k + 1) = nI a := ea
      show mcost nw hd rd so k + (mprice nw hd so (nI (k + 1)) + xg nw 115 * mbetw hd (nI (k + 1))) + mextra nw rd (nI (k + 1)) = nI (nsum (fun k => (kap s n b c (k + 1)).toNatClampNeg) k + (kap s n b c (k + 1)).toNatClampNeg)
      rw [Int32.add_assoc, e2, i2 h'.1, ea', nI_clamp (by omega), nI_add]
theorem an_code (hn : n ≤ 6) (H1 : ∀ w, 1 ≤ w → w ≤ n → xg hd (nI w) = nI (hdg n c w)) (H2 : ∀ w, 1 ≤ w → w ≤ n → xg rd (nI w) = nI (rho n b w)) : ∀ k, k ≤ n → xcode rd hd k = nI (hor 14 (codD n b c) k)
  | 0, _ => rfl
  | k + 1, hk => by
    have e1 := H1 (k + 1) (by omega) hk
    have e2 := H2 (k + 1) (by omega) hk
    rw [xg_n (by omega)] at e1 e2
    show 14 * xcode rd hd k + 7 * rd.getD (k + 1) 0 + hd.getD (k + 1) 0 = nI (hor 14 (codD n b c) k * 14 + codD n b c k)
    rw [an_code hn H1 H2 k (by omega), e1, e2, show (14 : Int32) = nI 14 from rfl, show (7 : Int32) = nI 7 from rfl, pk_mul, pk_mul, nI_add, nI_add]
    congr 1
    unfold codD
    omega
theorem an_rep {wt : Nat} (hv : sv s) (hw : wt ≤ 9) (hn : n ≤ 6) (h0 : 0 < n) (hct : sct s = nI n) (eW : xg nw 116 = nI wt) (H1 : ∀ w, 1 ≤ w → w ≤ n → xg hd (nI w) = nI (hdg n c w)) (H2 : ∀ w, 1 ≤ w → w ≤ n → xg rd (nI w) = nI (rho n b w))
    (HA : ∀ w, 1 ≤ w → w < n → xg ah (nI w) = khead (xg (sro s) (sct s - 1)) (nI w) ∧ xg ar (nI w) = kread (xg (sro s) (sct s - 1)) (nI w)) :
    ∀ k, k < n → mrep nw hd rd ah ar n k = nI (nsum (fun k => (kqp s (nI wt) n b c (k + 1)).toNatClampNeg) k)
  | 0, _ => rfl
  | k + 1, hk => by
    obtain ⟨a1, a2⟩ := HA (k + 1) (by omega) hk
    obtain ⟨x, hx, ex⟩ := krep_n hv (wt := wt) (i := k + 1) (r := nI (rho n b (k + 1))) (d := nI (hdg n c (k + 1))) hw (by omega)
    have ex' : kqp s (nI wt) n b c (k + 1) = nI x := ex
    show mrep nw hd rd ah ar n k + (if ((¬ xg hd (nI (k + 1)) = xg ah (nI (k + 1)) ∧ ¬ xg ah (nI (k + 1)) = 0) ∨ ¬ xg rd (nI (k + 1)) = xg ar (nI (k + 1))) then xg nw 116 * (nI n - nI (k + 1)) else 0) = nI (nsum (fun k => (kqp s (nI wt) n b c (k + 1)).toNatClampNeg) k + (kqp s (nI wt) n b c (k + 1)).toNatClampNeg)
    rw [an_rep hv hw hn h0 hct eW H1 H2 HA k (by omega), ex', nI_clamp (by omega), ← nI_add _ x, ← ex, H1 _ (by omega) (by omega), H2 _ (by omega) (by omega), a1, a2, eW]
    congr 1
    unfold krep
    rw [hct]
    generalize xg (sro s) (nI n - 1) = row
    have hlt : ¬ nI n ≤ nI (k + 1) := nI_ge (by omega) (by omega)
    by_cases hz : nI wt = 0
    · rw [if_pos (Or.inl hz), hz, Int32.zero_mul]
      split <;> rfl
    · have hz' : ¬ (nI wt = 0 ∨ nI n ≤ nI (k + 1)) := fun z => z.elim hz hlt
      rw [if_neg hz']
      by_cases hc : ¬ nI (rho n b (k + 1)) = kread row (nI (k + 1)) ∨ (¬ khead row (nI (k + 1)) = 0 ∧ ¬ khead row (nI (k + 1)) = nI (hdg n c (k + 1)))
      · rw [if_pos hc, if_pos (hc.elim Or.inr (fun z => Or.inl ⟨fun y => z.2 y.symm, z.1⟩))]
      · rw [if_neg hc, if_neg (fun z => hc (z.elim (fun y => Or.inr ⟨y.2, fun x => y.1 x.symm⟩) Or.inl))]
theorem kqp_last {W : Int32} (hct : sct s = nI n) (hn : n ≤ 6) : kqp s W n b c n = 0 := by
  unfold kqp kq krep
  rw [hct, if_pos (Or.inr (nI_le (Nat.le_refl n) (by omega)))]
theorem kqp_0 {w : Nat} : kqp s 0 n b c w = 0 := by
  unfold kqp kq krep
  rw [if_pos (Or.inl rfl)]
end AN
