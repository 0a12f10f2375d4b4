/-! blocks of cells -/
/-- from g on the heap holds these cells -/
def x_hb (h : xH) (g : Nat) (cs : List xE) : Prop := ∀ (k : Nat) (e : xE), cs[k]? = some e → h[g + k]? = some e
/-- the heap with these cells from g on -/
def x_wr (h : xH) : Nat → List xE → xH
  | _, [] => h
  | g, e :: cs => (x_wr h (g + 1) cs).set g e
theorem x_wr_len {h : xH} : ∀ {g : Nat} {cs : List xE}, (x_wr h g cs).length = h.length
  | _, [] => rfl
  | g, e :: cs => by
    show ((x_wr h (g + 1) cs).set g e).length = _
    rw [List.length_set]
    exact x_wr_len
theorem x_wr_at {h : xH} : ∀ {g : Nat} {cs : List xE}, g + cs.length ≤ h.length → ∀ k : Nat, (x_wr h g cs)[k]? = if g ≤ k ∧ k < g + cs.length then cs[k - g]? else h[k]?
  | g, [], _, k => by
    rw [if_neg (by simp only [List.length_nil]; omega)]
    rfl
  | g, e :: cs, hl, k => by
    simp only [List.length_cons] at hl ⊢
    have ih := x_wr_at (h := h) (g := g + 1) (cs := cs) (by omega) k
    show ((x_wr h (g + 1) cs).set g e)[k]? = _
    by_cases hk : k = g
    · subst hk
      rw [List.getElem?_set_self (by rw [x_wr_len]; omega), if_pos (by omega), Nat.sub_self]
      rfl
    · rw [List.getElem?_set_ne (Ne.symm hk), ih]
      by_cases h1 : g + 1 ≤ k ∧ k < g + 1 + cs.length
      · rw [if_pos h1, if_pos (by omega), show k - g = (k - (g + 1)) + 1 by omega, List.getElem?_cons_succ]
      · rw [if_neg h1, if_neg (by omega)]
theorem x_wr_get {h : xH} {g k : Nat} {cs : List xE} (hl : g + cs.length ≤ h.length) (hk : k < cs.length) : (x_wr h g cs)[g + k]? = cs[k]? := by
  rw [x_wr_at hl, if_pos (by omega), show g + k - g = k by omega]
theorem x_wr_out {h : xH} {g k : Nat} {cs : List xE} (hl : g + cs.length ≤ h.length) (hk : k < g ∨ g + cs.length ≤ k) : (x_wr h g cs)[k]? = h[k]? := by
  rw [x_wr_at hl, if_neg (by omega)]
theorem x_ext {a b : xH} (h : ∀ k : Nat, a[k]? = b[k]?) : a = b := List.ext_getElem? h
theorem x_wr_set {h : xH} {g k : Nat} {cs : List xE} {e : xE} (hl : g + cs.length ≤ h.length) (hk : k < cs.length) : (x_wr h g cs).set (g + k) e = x_wr h g (cs.set k e) := by
  apply x_ext
  intro i
  rw [x_wr_at (by rw [List.length_set]; exact hl), List.length_set]
  by_cases hi : i = g + k
  · subst hi
    rw [List.getElem?_set_self (by rw [x_wr_len]; omega), if_pos (by omega), show g + k - g = k by omega, List.getElem?_set_self hk]
  · rw [List.getElem?_set_ne (Ne.symm hi), x_wr_at hl]
    by_cases h1 : g ≤ i ∧ i < g + cs.length
    · rw [if_pos h1, if_pos h1, List.getElem?_set_ne (by omega)]
    · rw [if_neg h1, if_neg h1]
theorem x_wr_wr {h : xH} {g : Nat} {a b : List xE} (hl : g + a.length ≤ h.length) (hab : b.length = a.length) : x_wr (x_wr h g a) g b = x_wr h g b := by
  apply x_ext
  intro i
  rw [x_wr_at (by rw [x_wr_len, hab]; exact hl), x_wr_at (h := h) (cs := b) (by rw [hab]; exact hl), x_wr_at hl, hab]
  by_cases h1 : g ≤ i ∧ i < g + a.length
  · rw [if_pos h1, if_pos h1]
  · rw [if_neg h1, if_neg h1, if_neg h1]
theorem x_hb.fit {h : xH} {g : Nat} {cs : List xE} (hb : x_hb h g cs) (h0 : 0 < cs.length) : g + cs.length ≤ h.length := by
  have h1 := hb (cs.length - 1) _ (List.getElem?_eq_getElem (by omega))
  have h2 := (List.getElem?_eq_some_iff.mp h1).1
  omega
theorem x_hb.wr {h : xH} {g : Nat} {cs : List xE} (hb : x_hb h g cs) (hl : g + cs.length ≤ h.length) : x_wr h g cs = h := by
  apply x_ext
  intro i
  rw [x_wr_at hl]
  by_cases h1 : g ≤ i ∧ i < g + cs.length
  · rw [if_pos h1, List.getElem?_eq_getElem (by omega), ← hb (i - g) _ (List.getElem?_eq_getElem (by omega)), show g + (i - g) = i by omega]
  · rw [if_neg h1]
theorem x_hb_wr {h : xH} {g : Nat} {cs : List xE} (hl : g + cs.length ≤ h.length) : x_hb (x_wr h g cs) g cs := by
  intro k e hk
  rw [x_wr_get hl (List.getElem?_eq_some_iff.mp hk).1]
  exact hk
theorem x_hb.off {h : xH} {g g2 : Nat} {cs cs2 : List xE} (hb : x_hb h g cs) (hl : g2 + cs2.length ≤ h.length) (hd : g + cs.length ≤ g2 ∨ g2 + cs2.length ≤ g) : x_hb (x_wr h g2 cs2) g cs := by
  intro k e hk
  have hkl := (List.getElem?_eq_some_iff.mp hk).1
  rw [x_wr_out hl (by omega)]
  exact hb k e hk
/-- a part of a block -/
theorem x_hb.part {h : xH} {g : Nat} {a b c : List xE} (hb : x_hb h g (a ++ b ++ c)) : x_hb h (g + a.length) b := by
  intro k e hk
  have hkl := (List.getElem?_eq_some_iff.mp hk).1
  have := hb (a.length + k) e (by rw [List.append_assoc, List.getElem?_append_right (by omega), show a.length + k - a.length = k by omega, List.getElem?_append_left hkl]; exact hk)
  rw [← Nat.add_assoc] at this
  exact this
theorem x_wr_part {h : xH} {g : Nat} {a b b2 c : List xE} (hb : x_hb h g (a ++ b ++ c)) (hl : g + (a ++ b ++ c).length ≤ h.length) (h2 : b2.length = b.length) : x_wr h (g + a.length) b2 = x_wr h g (a ++ b2 ++ c) := by
  apply x_ext
  intro i
  have hl' : g + a.length + b.length + c.length ≤ h.length := by simp at hl; omega
  rw [x_wr_at (by omega), x_wr_at (by simp; omega)]
  simp only [List.length_append]
  by_cases h1 : g + a.length ≤ i ∧ i < g + a.length + b2.length
  · rw [if_pos h1, if_pos (by omega), List.append_assoc, List.getElem?_append_right (by omega), List.getElem?_append_left (by omega), show i - (g + a.length) = i - g - a.length by omega]
  · rw [if_neg h1]
    by_cases h3 : g ≤ i ∧ i < g + (a.length + b2.length + c.length)
    · rw [if_pos h3]
      have key : ∀ e, (a ++ b ++ c)[i - g]? = some e → h[i]? = some e := fun e he => by
        have := hb (i - g) e he
        rwa [show g + (i - g) = i by omega] at this
      have hin : i - g < (a ++ b ++ c).length := by simp; omega
      rw [key _ (List.getElem?_eq_getElem hin), ← List.getElem?_eq_getElem hin]
      by_cases h4 : i - g < a.length
      · rw [List.append_assoc, List.getElem?_append_left h4, List.append_assoc, List.getElem?_append_left h4]
      · rw [List.getElem?_append_right (by simp; omega), List.getElem?_append_right (by simp; omega)]
        simp only [List.length_append, h2]
    · rw [if_neg h3]
/-! numbers as places -/
def xg (l : List Int32) (i : Int32) : Int32 := l.getD i.toNatClampNeg 0
def xu (l : List Int32) (i v : Int32) : List Int32 := l.set i.toNatClampNeg v
def xgl (l : List Int64) (i : Int32) : Int64 := l.getD i.toNatClampNeg 0
def xul (l : List Int64) (i : Int32) (v : Int64) : List Int64 := l.set i.toNatClampNeg v
def xin (i : Int32) (n : Nat) : Prop := ¬ i < 0 ∧ i.toNatClampNeg < n
theorem xu_len {l : List Int32} {i v : Int32} : (xu l i v).length = l.length := List.length_set
theorem xul_len {l : List Int64} {i : Int32} {v : Int64} : (xul l i v).length = l.length := List.length_set
/-- a place of an int array read, written: what the rules say of the heap -/
def x_ai (h : xH) (o : Nat) (i : Int32) (k : Int32 → Prop) : Prop := ∃ l, h[o]? = some (xi l) ∧ xin i l.length ∧ k (xg l i)
def x_al_ (h : xH) (o : Nat) (i : Int32) (k : Int64 → Prop) : Prop := ∃ l, h[o]? = some (xl l) ∧ xin i l.length ∧ k (xgl l i)
section XHR
variable {nm : Nat → String} {tf : Nat → Nat → FieldType} {fn : Nat → Nat} {Pg : List xM} {X : xR} {j : Nat} {rt : Option FieldType} {r : Option Value} {h' : xH} {is : List xI} {n a b pc : Nat} {ls : xL} {st : List Value} {h : xH}
theorem xr_iaload {o : Nat} {i : Int32} {l : List Int32} (ho : h[o]? = some (xi l)) (hi : xin i l.length) (k : x_ev nm tf fn Pg X j rt r h' is (pc + n) ls (.int (xg l i) :: st) h) : x_ev nm tf fn Pg X j rt r h' ((.iaload, n, a, b) :: is) pc ls (.int i :: .ref o :: st) h := by
  rw [xs_iaload (v := xg l i) ho hi.1 (by unfold xg; rw [List.getD_eq_getElem?_getD, List.getElem?_eq_getElem hi.2]; rfl)]
  exact k
theorem xr_laload {o : Nat} {i : Int32} {l : List Int64} (ho : h[o]? = some (xl l)) (hi : xin i l.length) (k : x_ev nm tf fn Pg X j rt r h' is (pc + n) ls (.long (xgl l i) :: st) h) : x_ev nm tf fn Pg X j rt r h' ((.laload, n, a, b) :: is) pc ls (.int i :: .ref o :: st) h := by
  rw [xs_laload (v := xgl l i) ho hi.1 (by unfold xgl; rw [List.getD_eq_getElem?_getD, List.getElem?_eq_getElem hi.2]; rfl)]
  exact k
theorem xr_iastore {o : Nat} {i x : Int32} {l : List Int32} (ho : h[o]? = some (xi l)) (h2 : 2 ≤ o) (hi : xin i l.length) (k : x_ev nm tf fn Pg X j rt r h' is (pc + n) ls st (h.set o (xi (xu l i x)))) : x_ev nm tf fn Pg X j rt r h' ((.iastore, n, a, b) :: is) pc ls (.int x :: .int i :: .ref o :: st) h := by
  rw [xs_iastore h2 ho hi.1 hi.2]
  exact k
theorem xr_lastore {o : Nat} {i : Int32} {x : Int64} {l : List Int64} (ho : h[o]? = some (xl l)) (h2 : 2 ≤ o) (hi : xin i l.length) (k : x_ev nm tf fn Pg X j rt r h' is (pc + n) ls st (h.set o (xl (xul l i x)))) : x_ev nm tf fn Pg X j rt r h' ((.lastore, n, a, b) :: is) pc ls (.long x :: .int i :: .ref o :: st) h := by
  rw [xs_lastore h2 ho hi.1 hi.2]
  exact k
theorem xr_getf {i oo : Nat} {fs : List Value} {v : Value} (ho : h[oo]? = some (.inr (a, fs))) (hv : fs[b]? = some v) (k : x_ev nm tf fn Pg X j rt r h' is (pc + n) ls (v :: st) h) : x_ev nm tf fn Pg X j rt r h' ((.getfield i, n, a, b) :: is) pc ls (.ref oo :: st) h := by
  rw [xs_getfield]
  unfold x_gf
  rw [ho]
  dsimp only
  rw [hv]
  exact ⟨rfl, k⟩
theorem xr_putf {i oo : Nat} {fs : List Value} {v : Value} (ho : h[oo]? = some (.inr (a, fs))) (h2 : 2 ≤ oo) (hb : b < fs.length) (hf : x_fit (tf a b) v = true) (k : x_ev nm tf fn Pg X j rt r h' is (pc + n) ls st (h.set oo (.inr (a, fs.set b v)))) : x_ev nm tf fn Pg X j rt r h' ((.putfield i, n, a, b) :: is) pc ls (v :: .ref oo :: st) h := by
  rw [xs_putfield]
  unfold x_pf
  rw [ho]
  exact ⟨⟨h2, rfl, hb, hf⟩, k⟩
variable {h0 : xH} {g : Nat} {cs : List xE}
theorem xw_getf {i : Nat} {fs : List Value} {v : Value} {N : Nat} (hl : g + N ≤ h0.length) (hN : cs.length = N) (k : Nat) (hk : cs[k]? = some (.inr (a, fs))) (hv : fs[b]? = some v) (kk : x_ev nm tf fn Pg X j rt r h' is (pc + n) ls (v :: st) (x_wr h0 g cs)) : x_ev nm tf fn Pg X j rt r h' ((.getfield i, n, a, b) :: is) pc ls (.ref (g + k) :: st) (x_wr h0 g cs) :=
  xr_getf (by rw [x_wr_get (hN ▸ hl) (List.getElem?_eq_some_iff.mp hk).1]; exact hk) hv kk
theorem xw_putf {i : Nat} {fs : List Value} {v : Value} {cs' : List xE} {N : Nat} (hl : g + N ≤ h0.length) (hN : cs.length = N) (k : Nat) (hk : cs[k]? = some (.inr (a, fs))) (h2 : 2 ≤ g) (hb : b < fs.length) (hf : x_fit (tf a b) v = true) (hcs : cs.set k (.inr (a, fs.set b v)) = cs') (kk : x_ev nm tf fn Pg X j rt r h' is (pc + n) ls st (x_wr h0 g cs')) : x_ev nm tf fn Pg X j rt r h' ((.putfield i, n, a, b) :: is) pc ls (v :: .ref (g + k) :: st) (x_wr h0 g cs) :=
  xr_putf (by rw [x_wr_get (hN ▸ hl) (List.getElem?_eq_some_iff.mp hk).1]; exact hk) (by omega) hb hf (by rw [x_wr_set (hN ▸ hl) (List.getElem?_eq_some_iff.mp hk).1, hcs]; exact kk)
theorem xw_iaload {i : Int32} {l : List Int32} {N : Nat} (hl : g + N ≤ h0.length) (hN : cs.length = N) (k : Nat) (hk : cs[k]? = some (xi l)) (hi : xin i l.length) (kk : x_ev nm tf fn Pg X j rt r h' is (pc + n) ls (.int (xg l i) :: st) (x_wr h0 g cs)) : x_ev nm tf fn Pg X j rt r h' ((.iaload, n, a, b) :: is) pc ls (.int i :: .ref (g + k) :: st) (x_wr h0 g cs) :=
  xr_iaload (by rw [x_wr_get (hN ▸ hl) (List.getElem?_eq_some_iff.mp hk).1]; exact hk) hi kk
theorem xw_iastore {i x : Int32} {l : List Int32} {cs' : List xE} {N : Nat} (hl : g + N ≤ h0.length) (hN : cs.length = N) (k : Nat) (hk : cs[k]? = some (xi l)) (h2 : 2 ≤ g) (hi : xin i l.length) (hcs : cs.set k (xi (xu l i x)) = cs') (kk : x_ev nm tf fn Pg X j rt r h' is (pc + n) ls st (x_wr h0 g cs')) : x_ev nm tf fn Pg X j rt r h' ((.iastore, n, a, b) :: is) pc ls (.int x :: .int i :: .ref (g + k) :: st) (x_wr h0 g cs) :=
  xr_iastore (by rw [x_wr_get (hN ▸ hl) (List.getElem?_eq_some_iff.mp hk).1]; exact hk) (by omega) hi (by rw [x_wr_set (hN ▸ hl) (List.getElem?_eq_some_iff.mp hk).1, hcs]; exact kk)
theorem xw_laload {i : Int32} {l : List Int64} {N : Nat} (hl : g + N ≤ h0.length) (hN : cs.length = N) (k : Nat) (hk : cs[k]? = some (xl l)) (hi : xin i l.length) (kk : x_ev nm tf fn Pg X j rt r h' is (pc + n) ls (.long (xgl l i) :: st) (x_wr h0 g cs)) : x_ev nm tf fn Pg X j rt r h' ((.laload, n, a, b) :: is) pc ls (.int i :: .ref (g + k) :: st) (x_wr h0 g cs) :=
  xr_laload (by rw [x_wr_get (hN ▸ hl) (List.getElem?_eq_some_iff.mp hk).1]; exact hk) hi kk
theorem xw_lastore {i : Int32} {x : Int64} {l : List Int64} {cs' : List xE} {N : Nat} (hl : g + N ≤ h0.length) (hN : cs.length = N) (k : Nat) (hk : cs[k]? = some (xl l)) (h2 : 2 ≤ g) (hi : xin i l.length) (hcs : cs.set k (xl (xul l i x)) = cs') (kk : x_ev nm tf fn Pg X j rt r h' is (pc + n) ls st (x_wr h0 g cs')) : x_ev nm tf fn Pg X j rt r h' ((.lastore, n, a, b) :: is) pc ls (.long x :: .int i :: .ref (g + k) :: st) (x_wr h0 g cs) :=
  xr_lastore (by rw [x_wr_get (hN ▸ hl) (List.getElem?_eq_some_iff.mp hk).1]; exact hk) (by omega) hi (by rw [x_wr_set (hN ▸ hl) (List.getElem?_eq_some_iff.mp hk).1, hcs]; exact kk)
theorem x_set_hb {h0 h : xH} {g k : Nat} {cs : List xE} {e1 : xE} (hl : g + cs.length ≤ h0.length) (e : x_wr h0 g cs = h) (hk : k < cs.length) : x_hb (h.set (g + k) e1) g (cs.set k e1) ∧ x_wr h0 g (cs.set k e1) = h.set (g + k) e1 := by
  subst e
  have e2 : (x_wr h0 g cs).set (g + k) e1 = x_wr h0 g (cs.set k e1) := x_wr_set hl hk
  exact ⟨by rw [e2]; exact x_hb_wr (by rw [List.length_set]; exact hl), e2.symm⟩
theorem xv_iastore {i x : Int32} {l : List Int32} (hl : g + cs.length ≤ h0.length) (e : x_wr h0 g cs = h) (hb : x_hb h g cs) (k : Nat) (hk : cs[k]? = some (xi l)) (h2 : 2 ≤ g) (hi : xin i l.length) (kk : ∀ h1 : xH, x_hb h1 g (cs.set k (xi (xu l i x))) → x_wr h0 g (cs.set k (xi (xu l i x))) = h1 → g + (cs.set k (xi (xu l i x))).length ≤ h0.length → x_ev nm tf fn Pg X j rt r h' is (pc + n) ls st h1) : x_ev nm tf fn Pg X j rt r h' ((.iastore, n, a, b) :: is) pc ls (.int x :: .int i :: .ref (g + k) :: st) h := by
  obtain ⟨q1, q2⟩ := x_set_hb (e1 := xi (xu l i x)) hl e (List.getElem?_eq_some_iff.mp hk).1
  exact xr_iastore (hb k _ hk) (by omega) hi (kk _ q1 q2 (by rw [List.length_set]; exact hl))
theorem xv_lastore {i : Int32} {x : Int64} {l : List Int64} (hl : g + cs.length ≤ h0.length) (e : x_wr h0 g cs = h) (hb : x_hb h g cs) (k : Nat) (hk : cs[k]? = some (xl l)) (h2 : 2 ≤ g) (hi : xin i l.length) (kk : ∀ h1 : xH, x_hb h1 g (cs.set k (xl (xul l i x))) → x_wr h0 g (cs.set k (xl (xul l i x))) = h1 → g + (cs.set k (xl (xul l i x))).length ≤ h0.length → x_ev nm tf fn Pg X j rt r h' is (pc + n) ls st h1) : x_ev nm tf fn Pg X j rt r h' ((.lastore, n, a, b) :: is) pc ls (.long x :: .int i :: .ref (g + k) :: st) h := by
  obtain ⟨q1, q2⟩ := x_set_hb (e1 := xl (xul l i x)) hl e (List.getElem?_eq_some_iff.mp hk).1
  exact xr_lastore (hb k _ hk) (by omega) hi (kk _ q1 q2 (by rw [List.length_set]; exact hl))
theorem xv_putf {i : Nat} {fs : List Value} {v : Value} (hl : g + cs.length ≤ h0.length) (e : x_wr h0 g cs = h) (hb : x_hb h g cs) (k : Nat) (hk : cs[k]? = some (.inr (a, fs))) (h2 : 2 ≤ g) (hbl : b < fs.length) (hf : x_fit (tf a b) v = true) (kk : ∀ h1 : xH, x_hb h1 g (cs.set k (.inr (a, fs.set b v))) → x_wr h0 g (cs.set k (.inr (a, fs.set b v))) = h1 → g + (cs.set k (.inr (a, fs.set b v))).length ≤ h0.length → x_ev nm tf fn Pg X j rt r h' is (pc + n) ls st h1) : x_ev nm tf fn Pg X j rt r h' ((.putfield i, n, a, b) :: is) pc ls (v :: .ref (g + k) :: st) h := by
  obtain ⟨q1, q2⟩ := x_set_hb (e1 := .inr (a, fs.set b v)) hl e (List.getElem?_eq_some_iff.mp hk).1
  exact xr_putf (hb k _ hk) (by omega) hbl hf (kk _ q1 q2 (by rw [List.length_set]; exact hl))
end XHR
theorem x_KB {h h1 : xH} {g a N : Nat} {cs : List xE} {vs : List Value} {r : Option Value} (hb : x_hb h g cs) (hl : g + N ≤ h.length) (hN : cs.length = N) (H : xK a vs (x_wr h g cs) r h1) : xK a vs h r h1 := by
  rw [hb.wr (hN ▸ hl)] at H
  exact H
theorem x_wr0 {h : xH} {g N : Nat} {cs : List xE} (hl : g + N ≤ h.length) (hN : cs.length = N) (k : Nat) {e : xE} (hk : cs[k]? = some e) : (x_wr h g cs)[g + k]? = some e := by
  rw [x_wr_get (hN ▸ hl) (List.getElem?_eq_some_iff.mp hk).1]
  exact hk
theorem x_fit_int (x : Int32) : x_fit .int (.int x) = true := by simp [x_fit, narrow, fits]
theorem x_fit_long (x : Int64) : x_fit .long (.long x) = true := by simp [x_fit, narrow, fits]
theorem x_fit_arr (t : FieldType) (x : Nat) : x_fit (.array t) (.ref x) = true := by simp [x_fit, narrow, fits]
theorem x_fit_obj (t : String) (x : Nat) : x_fit (.object t) (.ref x) = true := by simp [x_fit, narrow, fits]
theorem x_10 : ((1 : Int32) = 0) = False := by simp
theorem x_ite0 {P : Prop} [Decidable P] : ((if P then (1 : Int32) else 0) = 0) = ¬ P := by
  by_cases h : P <;> simp [h]
theorem x_bit (P : Prop) [Decidable P] : (if P then (1 : Int32) else 0) &&& 1 = (if P then (1 : Int32) else 0) := by
  by_cases h : P <;> simp [h]
