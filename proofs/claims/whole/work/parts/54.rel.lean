/-! a State and the reference's numbers: they say the same -/
/-- word k: repair, stumble, cost; nothing held, or one analysis in both -/
def hsrt (s : kS) (k b : Nat) : Prop := ∀ w, 1 ≤ w → w ≤ k → ¬ ksort (sS s) (sen s) (nI w) (nI (rho k b w)) = -1
def hw (s : kS) (nw : List Int32) (k : Nat) : Prop := nw.getD (119 + 5 * (k - 1) + 1) 0 = (sre s).getD k 0 ∧ nw.getD (119 + 5 * (k - 1) + 2) 0 = (ssu s).getD k 0 ∧ nw.getD (119 + 5 * (k - 1) + 3) 0 = (sco s).getD k 0 ∧ (((sro s).getD k 0 = -1 ∧ (sco s).getD k 0 = -1) ∨ ∃ b c C, (b < 2 ^ k ∧ hsrt s k b) ∧ c ∈ tT k ∧ C ≤ 6000 ∧ (sro s).getD k 0 = nI (rowN k b c) ∧ (sco s).getD k 0 = nI C ∧ nw.getD (119 + 5 * (k - 1) + 4) 0 = nI (codN k b c)) ∧ ∃ e, e < sne s ∧ (sen s).getD k 0 = nI e
def Rl (s : kS) (nw : List Int32) : Prop := sv s ∧ gr s nw ∧ (sro s).getD 0 0 = -1 ∧ (sco s).getD 0 0 = -1 ∧ ∀ k, 1 ≤ k → k ≤ sn s → hw s nw k
/-- the numbers of a word written -/
def upd5 (l : List Int32) (A : Nat) (e r t c d : Int32) : List Int32 := ((((l.set A e).set (A + 1) r).set (A + 2) t).set (A + 3) c).set (A + 4) d
theorem upd5_get {l : List Int32} {A : Nat} {e r t c d : Int32} (h : A + 5 ≤ l.length) : (upd5 l A e r t c d).length = l.length ∧ (upd5 l A e r t c d).getD A 0 = e ∧ (upd5 l A e r t c d).getD (A + 1) 0 = r ∧ (upd5 l A e r t c d).getD (A + 2) 0 = t ∧ (upd5 l A e r t c d).getD (A + 3) 0 = c ∧ (upd5 l A e r t c d).getD (A + 4) 0 = d ∧ ∀ k, k < A ∨ A + 5 ≤ k → (upd5 l A e r t c d).getD k 0 = l.getD k 0 := by
  unfold upd5
  refine ⟨by simp, ?_, ?_, ?_, ?_, ?_, fun k hk => ?_⟩
  · rw [gs_ne (by omega), gs_ne (by omega), gs_ne (by omega), gs_ne (by omega), gs_eq (by omega)]
  · rw [gs_ne (by omega), gs_ne (by omega), gs_ne (by omega), gs_eq (by simp; omega)]
  · rw [gs_ne (by omega), gs_ne (by omega), gs_eq (by simp; omega)]
  · rw [gs_ne (by omega), gs_eq (by simp; omega)]
  · rw [gs_eq (by simp; omega)]
  · rw [gs_ne (by omega), gs_ne (by omega), gs_ne (by omega), gs_ne (by omega), gs_ne (by omega)]
theorem upd5_2 {l : List Int32} {A : Nat} {e r t c d r' t' c' d' : Int32} : ((((upd5 l A e r t c d).set (A + 1) r').set (A + 2) t').set (A + 3) c').set (A + 4) d' = upd5 l A e r' t' c' d' := by
  unfold upd5
  apply List.ext_getElem?
  intro i
  simp only [List.getElem?_set, List.length_set]
  by_cases h1 : A + 4 = i
  · simp [h1]
  · by_cases h2 : A + 3 = i
    · simp [h2, h1]
    · by_cases h3 : A + 2 = i
      · simp [h3, h1, h2]
      · by_cases h4 : A + 1 = i
        · simp [h4, h1, h2, h3]
        · simp [h1, h2, h3, h4]
section RLS
variable {s : kS} {nw : List Int32}
/-- one word more, of which that was found -/
def nword (s : kS) (nw : List Int32) (e r t c d : Int32) : List Int32 := upd5 (nw.set 118 (nI (sn s + 1))) (119 + 5 * sn s) e r t c d
theorem nword_get {e r t c d : Int32} (hl : nw.length = 149) (hn : sn s < 6) : (nword s nw e r t c d).length = 149 ∧ (nword s nw e r t c d).getD 118 0 = nI (sn s + 1) ∧ (nword s nw e r t c d).getD (119 + 5 * sn s) 0 = e ∧ (nword s nw e r t c d).getD (119 + 5 * sn s + 1) 0 = r ∧ (nword s nw e r t c d).getD (119 + 5 * sn s + 2) 0 = t ∧ (nword s nw e r t c d).getD (119 + 5 * sn s + 3) 0 = c ∧ (nword s nw e r t c d).getD (119 + 5 * sn s + 4) 0 = d ∧ ∀ k, ¬ k = 118 → k < 119 + 5 * sn s ∨ 119 + 5 * sn s + 5 ≤ k → (nword s nw e r t c d).getD k 0 = nw.getD k 0 := by
  obtain ⟨a0, a1, a2, a3, a4, a5, a6⟩ := upd5_get (l := nw.set 118 (nI (sn s + 1))) (A := 119 + 5 * sn s) (e := e) (r := r) (t := t) (c := c) (d := d) (by rw [List.length_set]; omega)
  unfold nword
  refine ⟨by rw [a0, List.length_set, hl], ?_, a1, a2, a3, a4, a5, fun k h1 h2 => ?_⟩
  · rw [a6 118 (Or.inl (by omega)), gs_eq (by omega)]
  · rw [a6 k h2, gs_ne (Ne.symm h1)]
theorem gr_word (hv : sv s) (hg : gr s nw) {j : Nat} (hj : j < 12) (hn : sn s < 6) {r t c d : Int32} : gr (sword s (nI j)) (nword s nw (nI j) r t c d) := by
  obtain ⟨a0, a1, a2, a3, a4, a5, a6, a7⟩ := nword_get (e := nI j) (r := r) (t := t) (c := c) (d := d) hg.1 hn
  obtain ⟨g0, g1, g2, g3, g4, g5, g6, g7⟩ := hg
  have hct : sct s + 1 = nI (sn s + 1) := by rw [hv.ct, nI_1]
  refine ⟨a0, fun k hk => ?_, fun k hk => ?_, ?_, fun e he => ⟨?_, ?_, ?_⟩, fun k hk => ?_, ?_, fun k hk => ?_⟩
  · rw [a7 k (by omega) (Or.inl (by omega))]
    exact g1 k hk
  · rw [a7 _ (by omega) (Or.inl (by omega))]
    exact g2 k hk
  · rw [a7 _ (by omega) (Or.inl (by omega))]
    exact g3
  · rw [a7 _ (by omega) (Or.inl (by omega))]
    exact (g4 e he).1
  · rw [a7 _ (by omega) (Or.inl (by omega))]
    exact (g4 e he).2.1
  · rw [a7 _ (by omega) (Or.inl (by omega))]
    exact (g4 e he).2.2
  · rw [a7 _ (by omega) (Or.inl (by omega))]
    exact g5 k hk
  · rw [a1]
    exact hct.symm
  · show _ = (xu (sen s) (sct s + 1) (nI j)).getD (k + 1) 0
    rw [hct, xu_get, nI_clamp (by omega), hv.len]
    by_cases hk2 : k = sn s
    · subst hk2
      rw [if_pos ⟨rfl, by omega⟩]
      exact a2
    · rw [if_neg (by omega), a7 _ (by omega) (by omega)]
      exact g7 k hk
theorem gr_rec (hg : gr s nw) {a b c d : Int32} : gr (srec s a b c d) nw := hg
theorem Rl_word (hR : Rl s nw) {j : Nat} (hje : j < sne s) (hn : sn s < 6) {a b c d x : Int32} (hW : (a = -1 ∧ b = -1) ∨ ∃ b' c' C, (b' < 2 ^ (sn s + 1) ∧ hsrt (sword s (nI j)) (sn s + 1) b') ∧ c' ∈ tT (sn s + 1) ∧ C ≤ 6000 ∧ a = nI (rowN (sn s + 1) b' c') ∧ b = nI C ∧ x = nI (codN (sn s + 1) b' c')) : Rl (srec (sword s (nI j)) a b c d) (nword s nw (nI j) c d b x) := by
  obtain ⟨hv, hg, r0, c0, hh⟩ := hR
  have h6 := hv.n6
  have hj : j < 12 := by have := hv.ne; omega
  have hv1 := sv_word hv hj hn
  have hg1 := gr_word (r := c) (t := d) (c := b) (d := x) hv hg hj hn
  obtain ⟨a0, a1, a2, a3, a4, a5, a6, a7⟩ := nword_get (e := nI j) (r := c) (t := d) (c := b) (d := x) hg.1 hn
  have hct : sct s + 1 = nI (sn s + 1) := by rw [hv.ct, nI_1]
  have key : ∀ (l : List Int32) (v : Int32) (k : Nat), l.length = 7 → (xu l (sct s + 1) v).getD k 0 = if k = sn s + 1 then v else l.getD k 0 := by
    intro l v k hl
    rw [hct, xu_get, nI_clamp (by omega), hl]
    by_cases hk : k = sn s + 1
    · rw [if_pos ⟨hk.symm, by omega⟩, if_pos hk]
    · rw [if_neg (fun z => hk z.1.symm), if_neg hk]
  have k1 : ∀ k, (sro (srec (sword s (nI j)) a b c d)).getD k 0 = if k = sn s + 1 then a else (sro s).getD k 0 := fun k => key _ _ k hv.lro
  have k2 : ∀ k, (sco (srec (sword s (nI j)) a b c d)).getD k 0 = if k = sn s + 1 then b else (sco s).getD k 0 := fun k => key _ _ k hv.lco
  have k3 : ∀ k, (sre (srec (sword s (nI j)) a b c d)).getD k 0 = if k = sn s + 1 then c else (sre s).getD k 0 := fun k => key _ _ k hv.lre
  have k4 : ∀ k, (ssu (srec (sword s (nI j)) a b c d)).getD k 0 = if k = sn s + 1 then d else (ssu s).getD k 0 := fun k => key _ _ k hv.lsu
  have k5 : ∀ k, (sen (srec (sword s (nI j)) a b c d)).getD k 0 = if k = sn s + 1 then nI j else (sen s).getD k 0 := fun k => key _ _ k hv.len
  have hsn : sn (srec (sword s (nI j)) a b c d) = sn s + 1 := sn_word (e := nI j) hv
  refine ⟨sv_rec hv1, hg1, ?_, ?_, fun k hk1 hk2 => ?_⟩
  · rw [k1, if_neg (by omega)]
    exact r0
  · rw [k2, if_neg (by omega)]
    exact c0
  · rw [hsn] at hk2
    unfold hw
    rw [k1, k2, k3, k4]
    by_cases hk : k = sn s + 1
    · subst hk
      rw [if_pos rfl, if_pos rfl, if_pos rfl, if_pos rfl, show sn s + 1 - 1 = sn s by omega]
      refine ⟨a3, a4, a5, hW.imp id (fun ⟨b', c', C, z1, z2, z3, z4, z5, z6⟩ => ⟨b', c', C, z1, z2, z3, z4, z5, by rw [a6]; exact z6⟩), j, hje, ?_⟩
      rw [k5, if_pos rfl]
    · rw [if_neg hk, if_neg hk, if_neg hk, if_neg hk, a7 _ (by omega) (Or.inl (by omega)), a7 _ (by omega) (Or.inl (by omega)), a7 _ (by omega) (Or.inl (by omega)), a7 _ (by omega) (Or.inl (by omega))]
      obtain ⟨y1, y2, y3, y4, e, he, ee⟩ := hh k hk1 (by omega)
      refine ⟨y1, y2, y3, y4.imp id (fun ⟨b', c', C, z1, z2⟩ => ⟨b', c', C, ⟨z1.1, fun w w1 w2 => ?_⟩, z2⟩), e, he, by rw [k5, if_neg hk]; exact ee⟩
      have := z1.2 w w1 w2
      unfold ksort at this ⊢
      have e2 : xg (sen (srec (sword s (nI j)) a b c d)) (nI w) = xg (sen s) (nI w) := by rw [xg_n (by omega), xg_n (by omega), k5, if_neg (by omega)]
      rw [e2]
      exact this
/-- what the reference's search asks of its places -/
theorem gr_in (hg : gr s nw) (hv : sv s) {n : Nat} (hn : n ≤ 6) : ∀ w, w < n → xin (119 + 5 * (nI (w + 1) - 1)) nw.length ∧ ∀ z, z < 2 → xin (mentry nw (nI (w + 1)) + nI z) nw.length := by
  intro w hw
  obtain ⟨j, hj, _, e⟩ := hg.en hv (w := w + 1) (by omega) (by omega)
  rw [wp_n (by omega), hg.1]
  refine ⟨x_in (by omega) (by decide), fun z hz => ?_⟩
  rw [e, nI_add]
  exact x_in (by omega) (by decide)
theorem gr_well (hg : gr s nw) (hv : sv s) {n : Nat} (hn : n ≤ 6) : ∀ (b : Nat) (rd so : List Int32), b < 64 → rd.length = 7 → so.length = 7 → (mread nw b n rd so n).2 = true → ∀ hs : List Nat, nok hs → (∀ w, w < n → hs.getD (w + 1) 0 ≤ n) → ∀ w, w < n → mwell nw (hs.map nI) (mread nw b n rd so n).1.1 (mread nw b n rd so n).1.2 (nI (w + 1)) := by
  intro b rd so hb l1 l2 are hs hk hle w hw
  have are' := (mread_are n).mp are
  have get := mread_get (nw := nw) (b := b) (n := n) l1 l2 n (by omega)
  have ml := mread_len (nw := nw) (b := b) (n := n) (rd := rd) (so := so) n
  have sr : ∀ w, 1 ≤ w → w ≤ n → ∃ a, a < 6 ∧ xg (mread nw b n rd so n).1.2 (nI w) = nI a := by
    intro w h1 h2
    have q := are' w h1 h2
    rw [hg.sort hv h1 (by omega) (rho_lt n b w)] at q
    obtain ⟨a, ha, ea⟩ := (hv.sort (i := w) (r := rho n b w) (by omega) (rho_lt n b w)).resolve_left ((sort_or hv (by omega) (rho_lt n b w)).mp q)
    exact ⟨a, ha, by rw [xg_n (by omega), (get w h1 h2).2, hg.sort hv h1 (by omega) (rho_lt n b w), ea]⟩
  have eh : xg (hs.map nI) (nI (w + 1)) = nI (hs.getD (w + 1) 0) := xg_map (by rw [hk.1]; omega) (by rw [hk.1]; decide)
  obtain ⟨a, ha, ea⟩ := sr (w + 1) (by omega) (by omega)
  obtain ⟨j, hj, _, ej⟩ := hg.en hv (w := w + 1) (by omega) (by omega)
  have i7 : xin (nI (w + 1)) 7 := x_in (by omega) (by decide)
  have hle' := hle w hw
  generalize hs.getD (w + 1) 0 = d at eh hle'
  refine ⟨by rw [List.length_map, hk.1]; exact i7, by rw [ml.2, l2]; exact i7, by rw [ml.1, l1]; exact i7, fun _ => ?_, fun h0 => ?_, (gr_in hg hv hn w hw).1, fun _ => ?_⟩
  · rw [ea, show (72 : Int32) = nI 72 from rfl, nI_add, hg.1]
    exact x_in (by omega) (by decide)
  · have hd0 : ¬ d = 0 := fun z => h0 (by rw [eh, z]; rfl)
    obtain ⟨a2, ha2, ea2⟩ := sr d (by omega) hle'
    rw [eh, ea2, ea, ml.2, l2, hg.1]
    refine ⟨x_in (by omega) (by decide), ?_⟩
    have key : ∀ z : Nat, z < 2 → xin (0 + 12 * nI a2 + 2 * nI a + nI z) 149 := by
      intro z hz
      rw [Int32.zero_add, show (12 : Int32) = nI 12 from rfl, show (2 : Int32) = nI 2 from rfl, pk_mul, pk_mul, nI_add, nI_add]
      exact x_in (by omega) (by decide)
    split
    · exact key 1 (by omega)
    · exact key 0 (by omega)
  · rw [ej, show (2 : Int32) = nI 2 from rfl, nI_add, hg.1]
    exact x_in (by omega) (by decide)
end RLS
/-- the table of trees -/
def tOK (tr bg : List Int32) : Prop := tr.length = 911 ∧ bg.length = 8 ∧ ∀ n, 1 ≤ n → n ≤ 6 → ∃ lo hi, hi ≤ 911 ∧ xg bg (nI n) = nI lo ∧ xg bg (nI (n + 1)) = nI hi ∧ lo + (tT n).length = hi ∧ ∀ j, j < (tT n).length → tr.getD (lo + j) 0 = nI ((tT n).getD j 0) ∧ (tT n).getD j 0 < 2 ^ 31
