/-! the world: the class's cells from 2 on, the reference's from 122 on -/
def wP : List xE := [.inr (6, [.ref 3, .ref 16, .ref 29, .ref 109, .ref 115, .ref 121])]
/-- the class: State now; chart; shelf; text, its length; refusals -/
def cW (h : xH) (s : kS) (k : kC) (sh : Nat → kS) (nx ct : Nat) (tx : List Int32) (ln : Int32) (rf : List Int32) : Prop :=
  x_hb h 2 wP ∧ x_hb h 3 (x_ts 3 s) ∧ (∃ a, svl a ∧ x_hb h 16 (x_ts 16 a)) ∧ x_hb h 29 (x_sh 29 (nI nx) (nI ct)) ∧ (∀ i, i < 6 → svl (sh i) ∧ x_hb h (31 + 13 * i) (x_ts (31 + 13 * i) (sh i))) ∧ x_hb h 109 (x_hs 109 k) ∧ (∃ kd fi cn nu : List Int32, ∃ nr at_ od : Int32, (kd.length = 120 ∧ fi.length = 120 ∧ cn.length = 120 ∧ nu.length = 120) ∧ x_hb h 115 (x_rc 115 tx kd fi cn nu nr at_ ln od)) ∧ x_hb h 121 [xi rf]
def cF (h h' : xH) : Prop := h'.length = h.length ∧ ∀ i, i < 2 ∨ 122 ≤ i → h'[i]? = h[i]?
theorem cF.refl (h : xH) : cF h h := ⟨rfl, fun _ _ => rfl⟩
theorem cF.trans {a b c : xH} (h1 : cF a b) (h2 : cF b c) : cF a c := ⟨h2.1.trans h1.1, fun i hi => (h2.2 i hi).trans (h1.2 i hi)⟩
theorem cF_wr {h : xH} {g : Nat} {cs : List xE} (h1 : 2 ≤ g) (h2 : g + cs.length ≤ 122) (hl : g + cs.length ≤ h.length) : cF h (x_wr h g cs) := ⟨x_wr_len, fun i hi => x_wr_out hl (by omega)⟩
theorem cF.hb {h h' : xH} (F : cF h h') {g : Nat} {cs : List xE} (hg : 122 ≤ g) (hb : x_hb h g cs) : x_hb h' g cs := fun k e hk => by
  rw [F.2 _ (Or.inr (by omega))]
  exact hb k e hk
section CWU
variable {h : xH} {s : kS} {k : kC} {sh : Nat → kS} {nx ct : Nat} {tx : List Int32} {ln : Int32} {rf : List Int32}
theorem cW.hp (B : cW h s k sh nx ct tx ln rf) : x_hb h 2 wP := B.1
theorem cW.hs (B : cW h s k sh nx ct tx ln rf) : x_hb h 3 (x_ts 3 s) := B.2.1
theorem cW.hsh (B : cW h s k sh nx ct tx ln rf) : x_hb h 29 (x_sh 29 (nI nx) (nI ct)) := B.2.2.2.1
theorem cW.hsl (B : cW h s k sh nx ct tx ln rf) {i : Nat} (hi : i < 6) : svl (sh i) ∧ x_hb h (31 + 13 * i) (x_ts (31 + 13 * i) (sh i)) := B.2.2.2.2.1 i hi
theorem cW.hk (B : cW h s k sh nx ct tx ln rf) : x_hb h 109 (x_hs 109 k) := B.2.2.2.2.2.1
theorem cW.hrf (B : cW h s k sh nx ct tx ln rf) : x_hb h 121 [xi rf] := B.2.2.2.2.2.2.2
theorem cW.now (B : cW h s k sh nx ct tx ln rf) (s' : kS) : cW (x_wr h 3 (x_ts 3 s')) s' k sh nx ct tx ln rf ∧ cF h (x_wr h 3 (x_ts 3 s')) := by
  obtain ⟨b1, b2, ⟨a, a1, b3⟩, b4, b5, b6, ⟨kd, fi, cn, nu, nr, at_, od, q, b7⟩, b8⟩ := B
  have hl : 3 + (x_ts 3 s').length ≤ h.length := b2.fit (Nat.zero_lt_succ _)
  exact ⟨⟨b1.off hl (Or.inl (Nat.le_of_ble_eq_true rfl)), x_hb_wr hl, ⟨a, a1, b3.off hl (Or.inr (Nat.le_of_ble_eq_true rfl))⟩, b4.off hl (Or.inr (Nat.le_of_ble_eq_true rfl)), fun i hi => ⟨(b5 i hi).1, (b5 i hi).2.off hl (Or.inr (by rw [x_ts_len]; omega))⟩, b6.off hl (Or.inr (Nat.le_of_ble_eq_true rfl)), ⟨kd, fi, cn, nu, nr, at_, od, q, b7.off hl (Or.inr (Nat.le_of_ble_eq_true rfl))⟩, b8.off hl (Or.inr (Nat.le_of_ble_eq_true rfl))⟩, cF_wr (by decide) (Nat.le_of_ble_eq_true rfl) hl⟩
theorem cW.ahead (B : cW h s k sh nx ct tx ln rf) (a' : kS) (ha : svl a') : cW (x_wr h 16 (x_ts 16 a')) s k sh nx ct tx ln rf ∧ cF h (x_wr h 16 (x_ts 16 a')) ∧ x_hb (x_wr h 16 (x_ts 16 a')) 16 (x_ts 16 a') := by
  obtain ⟨b1, b2, ⟨a, a1, b3⟩, b4, b5, b6, ⟨kd, fi, cn, nu, nr, at_, od, q, b7⟩, b8⟩ := B
  have hl : 16 + (x_ts 16 a').length ≤ h.length := b3.fit (Nat.zero_lt_succ _)
  exact ⟨⟨b1.off hl (Or.inl (Nat.le_of_ble_eq_true rfl)), b2.off hl (Or.inl (Nat.le_of_ble_eq_true rfl)), ⟨a', ha, x_hb_wr hl⟩, b4.off hl (Or.inr (Nat.le_of_ble_eq_true rfl)), fun i hi => ⟨(b5 i hi).1, (b5 i hi).2.off hl (Or.inr (by rw [x_ts_len]; omega))⟩, b6.off hl (Or.inr (Nat.le_of_ble_eq_true rfl)), ⟨kd, fi, cn, nu, nr, at_, od, q, b7.off hl (Or.inr (Nat.le_of_ble_eq_true rfl))⟩, b8.off hl (Or.inr (Nat.le_of_ble_eq_true rfl))⟩, cF_wr (by decide) (Nat.le_of_ble_eq_true rfl) hl, x_hb_wr hl⟩
theorem cW.shelf (B : cW h s k sh nx ct tx ln rf) (nx' ct' : Nat) : cW (x_wr h 29 (x_sh 29 (nI nx') (nI ct'))) s k sh nx' ct' tx ln rf ∧ cF h (x_wr h 29 (x_sh 29 (nI nx') (nI ct'))) := by
  obtain ⟨b1, b2, ⟨a, a1, b3⟩, b4, b5, b6, ⟨kd, fi, cn, nu, nr, at_, od, q, b7⟩, b8⟩ := B
  have hl : 29 + (x_sh 29 (nI nx') (nI ct')).length ≤ h.length := b4.fit (Nat.zero_lt_succ _)
  exact ⟨⟨b1.off hl (Or.inl (Nat.le_of_ble_eq_true rfl)), b2.off hl (Or.inl (Nat.le_of_ble_eq_true rfl)), ⟨a, a1, b3.off hl (Or.inl (Nat.le_of_ble_eq_true rfl))⟩, x_hb_wr hl, fun i hi => ⟨(b5 i hi).1, (b5 i hi).2.off hl (Or.inr (by show 29 + 2 ≤ _; omega))⟩, b6.off hl (Or.inr (Nat.le_of_ble_eq_true rfl)), ⟨kd, fi, cn, nu, nr, at_, od, q, b7.off hl (Or.inr (Nat.le_of_ble_eq_true rfl))⟩, b8.off hl (Or.inr (Nat.le_of_ble_eq_true rfl))⟩, cF_wr (by decide) (Nat.le_of_ble_eq_true rfl) hl⟩
theorem cW.slot (B : cW h s k sh nx ct tx ln rf) {j : Nat} (hj : j < 6) (s' : kS) (hs' : svl s') : cW (x_wr h (31 + 13 * j) (x_ts (31 + 13 * j) s')) s k (fun i => if i = j then s' else sh i) nx ct tx ln rf ∧ cF h (x_wr h (31 + 13 * j) (x_ts (31 + 13 * j) s')) := by
  obtain ⟨b1, b2, ⟨a, a1, b3⟩, b4, b5, b6, ⟨kd, fi, cn, nu, nr, at_, od, q, b7⟩, b8⟩ := B
  have hl : 31 + 13 * j + (x_ts (31 + 13 * j) s').length ≤ h.length := (b5 j hj).2.fit (Nat.zero_lt_succ _)
  refine ⟨⟨b1.off hl (Or.inl (by show 2 + 1 ≤ _; omega)), b2.off hl (Or.inl (by rw [x_ts_len]; omega)), ⟨a, a1, b3.off hl (Or.inl (by rw [x_ts_len]; omega))⟩, b4.off hl (Or.inl (by show 29 + 2 ≤ _; omega)), fun i hi => ?_, b6.off hl (Or.inr (by rw [x_ts_len]; omega)), ⟨kd, fi, cn, nu, nr, at_, od, q, b7.off hl (Or.inr (by rw [x_ts_len]; omega))⟩, b8.off hl (Or.inr (by rw [x_ts_len]; omega))⟩, cF_wr (by omega) (by rw [x_ts_len]; omega) hl⟩
  by_cases hi2 : i = j
  · subst hi2
    dsimp only
    rw [if_pos rfl]
    exact ⟨hs', x_hb_wr hl⟩
  · dsimp only
    rw [if_neg hi2]
    exact ⟨(b5 i hi).1, (b5 i hi).2.off hl (by rw [x_ts_len, x_ts_len]; omega)⟩
theorem cW.chart (B : cW h s k sh nx ct tx ln rf) (k' : kC) : cW (x_wr h 109 (x_hs 109 k')) s k' sh nx ct tx ln rf ∧ cF h (x_wr h 109 (x_hs 109 k')) := by
  obtain ⟨b1, b2, ⟨a, a1, b3⟩, b4, b5, b6, ⟨kd, fi, cn, nu, nr, at_, od, q, b7⟩, b8⟩ := B
  have hl : 109 + (x_hs 109 k').length ≤ h.length := b6.fit (Nat.zero_lt_succ _)
  exact ⟨⟨b1.off hl (Or.inl (Nat.le_of_ble_eq_true rfl)), b2.off hl (Or.inl (Nat.le_of_ble_eq_true rfl)), ⟨a, a1, b3.off hl (Or.inl (Nat.le_of_ble_eq_true rfl))⟩, b4.off hl (Or.inl (Nat.le_of_ble_eq_true rfl)), fun i hi => ⟨(b5 i hi).1, (b5 i hi).2.off hl (Or.inl (by rw [x_ts_len]; omega))⟩, x_hb_wr hl, ⟨kd, fi, cn, nu, nr, at_, od, q, b7.off hl (Or.inr (Nat.le_of_ble_eq_true rfl))⟩, b8.off hl (Or.inr (Nat.le_of_ble_eq_true rfl))⟩, cF_wr (by decide) (Nat.le_of_ble_eq_true rfl) hl⟩
theorem cW.script (B : cW h s k sh nx ct tx ln rf) {tx' kd' fi' cn' nu' : List Int32} {nr' at' ln' od' : Int32} (hq : kd'.length = 120 ∧ fi'.length = 120 ∧ cn'.length = 120 ∧ nu'.length = 120) : cW (x_wr h 115 (x_rc 115 tx' kd' fi' cn' nu' nr' at' ln' od')) s k sh nx ct tx' ln' rf ∧ cF h (x_wr h 115 (x_rc 115 tx' kd' fi' cn' nu' nr' at' ln' od')) := by
  obtain ⟨b1, b2, ⟨a, a1, b3⟩, b4, b5, b6, ⟨kd, fi, cn, nu, nr, at_, od, q, b7⟩, b8⟩ := B
  have hl : 115 + (x_rc 115 tx' kd' fi' cn' nu' nr' at' ln' od').length ≤ h.length := b7.fit (Nat.zero_lt_succ _)
  exact ⟨⟨b1.off hl (Or.inl (Nat.le_of_ble_eq_true rfl)), b2.off hl (Or.inl (Nat.le_of_ble_eq_true rfl)), ⟨a, a1, b3.off hl (Or.inl (Nat.le_of_ble_eq_true rfl))⟩, b4.off hl (Or.inl (Nat.le_of_ble_eq_true rfl)), fun i hi => ⟨(b5 i hi).1, (b5 i hi).2.off hl (Or.inl (by rw [x_ts_len]; omega))⟩, b6.off hl (Or.inl (Nat.le_of_ble_eq_true rfl)), ⟨kd', fi', cn', nu', nr', at', od', hq, x_hb_wr hl⟩, b8.off hl (Or.inr (Nat.le_of_ble_eq_true rfl))⟩, cF_wr (by decide) (Nat.le_of_ble_eq_true rfl) hl⟩
theorem cW.refs (B : cW h s k sh nx ct tx ln rf) (rf' : List Int32) : cW (x_wr h 121 [xi rf']) s k sh nx ct tx ln rf' ∧ cF h (x_wr h 121 [xi rf']) := by
  obtain ⟨b1, b2, ⟨a, a1, b3⟩, b4, b5, b6, ⟨kd, fi, cn, nu, nr, at_, od, q, b7⟩, b8⟩ := B
  have hl : 121 + [xi rf'].length ≤ h.length := b8.fit (Nat.zero_lt_succ _)
  exact ⟨⟨b1.off hl (Or.inl (Nat.le_of_ble_eq_true rfl)), b2.off hl (Or.inl (Nat.le_of_ble_eq_true rfl)), ⟨a, a1, b3.off hl (Or.inl (Nat.le_of_ble_eq_true rfl))⟩, b4.off hl (Or.inl (Nat.le_of_ble_eq_true rfl)), fun i hi => ⟨(b5 i hi).1, (b5 i hi).2.off hl (Or.inl (by rw [x_ts_len]; omega))⟩, b6.off hl (Or.inl (Nat.le_of_ble_eq_true rfl)), ⟨kd, fi, cn, nu, nr, at_, od, q, b7.off hl (Or.inl (Nat.le_of_ble_eq_true rfl))⟩, x_hb_wr hl⟩, cF_wr (by decide) (Nat.le_of_ble_eq_true rfl) hl⟩
theorem cW.same (B : cW h s k sh nx ct tx ln rf) {h' : xH} (F : ∀ i, 2 ≤ i → i < 122 → h'[i]? = h[i]?) : cW h' s k sh nx ct tx ln rf := by
  obtain ⟨b1, b2, ⟨a, a1, b3⟩, b4, b5, b6, ⟨kd, fi, cn, nu, nr, at_, od, q, b7⟩, b8⟩ := B
  have key : ∀ {g N : Nat} {cs : List xE}, x_hb h g cs → 2 ≤ g → cs.length = N → g + N ≤ 122 → x_hb h' g cs := by
    intro g N cs hb h1 h2 h3 j e hj
    have := (List.getElem?_eq_some_iff.mp hj).1
    rw [F _ (by omega) (by omega)]
    exact hb j e hj
  exact ⟨key (N := 1) b1 (by decide) rfl (by decide), key (N := 13) b2 (by decide) rfl (by decide), ⟨a, a1, key (N := 13) b3 (by decide) rfl (by decide)⟩, key (N := 2) b4 (by decide) rfl (by decide), fun i hi => ⟨(b5 i hi).1, key (N := 13) (b5 i hi).2 (by omega) rfl (by omega)⟩, key (N := 6) b6 (by decide) rfl (by decide), ⟨kd, fi, cn, nu, nr, at_, od, q, key (N := 6) b7 (by decide) rfl (by decide)⟩, key (N := 1) b8 (by decide) rfl (by decide)⟩
end CWU
/-- the reference's rows that only serve: aside; heads, readings, sorts, ahead, ahead's readings; trees, where they begin; found, best; letters, from, numbers, orders, spot, wrong; hash -/
abbrev mZ : Type := List Int32 × List Nat × List Int32 × List Int32 × List Int32 × List Int32 × List Int32 × List Int32 × Int32 × Int32 × Int32 × Int32 × List Int32 × List Int32 × List Int32 × Int32 × Int32 × Int32 × Int64
def x_m (nw pa : List Int32) (sts : Int32) (rf tx : List Int32) (byt : Int32) (z : mZ) : List xE := x_mc 122 nw z.1 pa sts rf tx byt (z.2.1.map nI) z.2.2.1 z.2.2.2.1 z.2.2.2.2.1 z.2.2.2.2.2.1 z.2.2.2.2.2.2.1 z.2.2.2.2.2.2.2.1 z.2.2.2.2.2.2.2.2.1 z.2.2.2.2.2.2.2.2.2.1 z.2.2.2.2.2.2.2.2.2.2.1 z.2.2.2.2.2.2.2.2.2.2.2.1 z.2.2.2.2.2.2.2.2.2.2.2.2.1 z.2.2.2.2.2.2.2.2.2.2.2.2.2.1 z.2.2.2.2.2.2.2.2.2.2.2.2.2.2.1 z.2.2.2.2.2.2.2.2.2.2.2.2.2.2.2.1 z.2.2.2.2.2.2.2.2.2.2.2.2.2.2.2.2.1 z.2.2.2.2.2.2.2.2.2.2.2.2.2.2.2.2.2.1 z.2.2.2.2.2.2.2.2.2.2.2.2.2.2.2.2.2.2
def okZ (z : mZ) : Prop := z.1.length = 149 ∧ nok z.2.1 ∧ z.2.2.1.length = 7 ∧ z.2.2.2.1.length = 7 ∧ z.2.2.2.2.1.length = 7 ∧ z.2.2.2.2.2.1.length = 7 ∧ tOK z.2.2.2.2.2.2.1 z.2.2.2.2.2.2.2.1 ∧ z.2.2.2.2.2.2.2.2.2.2.2.2.1.length = 40 ∧ z.2.2.2.2.2.2.2.2.2.2.2.2.2.1.length = 41 ∧ z.2.2.2.2.2.2.2.2.2.2.2.2.2.2.1.length = 120
/-- the reference's cells -/
def mW (h : xH) (nw pa : List Int32) (sts : Int32) (rf tx : List Int32) (byt : Int32) : Prop := ∃ z, okZ z ∧ x_hb h 122 (x_m nw pa sts rf tx byt z)
def mF (h h' : xH) : Prop := h'.length = h.length ∧ ∀ i, i < 122 → h'[i]? = h[i]?
theorem mF.refl (h : xH) : mF h h := ⟨rfl, fun _ _ => rfl⟩
theorem mF.trans {a b c : xH} (h1 : mF a b) (h2 : mF b c) : mF a c := ⟨h2.1.trans h1.1, fun i hi => (h2.2 i hi).trans (h1.2 i hi)⟩
theorem cW.mF {h h' : xH} {s : kS} {k : kC} {sh : Nat → kS} {nx ct : Nat} {tx : List Int32} {ln : Int32} {rf : List Int32} (B : cW h s k sh nx ct tx ln rf) (F : mF h h') : cW h' s k sh nx ct tx ln rf := B.same (fun i _ h2 => F.2 i h2)
theorem mW.cF {h h' : xH} {nw pa : List Int32} {sts : Int32} {rf tx : List Int32} {byt : Int32} (B : mW h nw pa sts rf tx byt) (F : cF h h') : mW h' nw pa sts rf tx byt := by
  obtain ⟨z, hz, hb⟩ := B
  exact ⟨z, hz, F.hb (Nat.le_refl _) hb⟩
/-- a call that wrote the reference's cells anew -/
theorem mW_wr {h : xH} {nw pa nw' pa' : List Int32} {sts sts' : Int32} {rf tx rf' tx' : List Int32} {byt byt' : Int32} {z z' : mZ} (hb : x_hb h 122 (x_m nw pa sts rf tx byt z)) (hz : okZ z') : mW (x_wr h 122 (x_m nw' pa' sts' rf' tx' byt' z')) nw' pa' sts' rf' tx' byt' ∧ mF h (x_wr h 122 (x_m nw' pa' sts' rf' tx' byt' z')) := by
  have hl : 122 + (x_m nw' pa' sts' rf' tx' byt' z').length ≤ h.length := hb.fit (Nat.zero_lt_succ _)
  exact ⟨⟨z', hz, x_hb_wr hl⟩, x_wr_len, fun i hi => x_wr_out hl (Or.inl hi)⟩
/-- a row of the past -/
def prow (pa : List Int32) (i : Nat) : List Int32 := (List.range 149).map (fun k => pa.getD (149 * i + k) 0)
/-- what holds of both between two calls -/
def INV (s : kS) (k : kC) (sh : Nat → kS) (nx ct : Nat) (tx : List Int32) (ln : Nat) (rf nw pa : List Int32) : Prop := Rl s nw ∧ (kcok k ∧ ch0 k.2.1) ∧ (nx < 6 ∧ ct ≤ 6 ∧ ∀ i, i < ct → Rl (sh ((nx + 6 - ct + i) % 6)) (prow pa i)) ∧ pa.length = 894 ∧ tx.length = 120 ∧ ln ≤ 120 ∧ rf.length = 3
/-- the law's own cells: the script, the settings' bounds -/
def lW (ys : List Int32) (h : xH) : Prop := h.length = 138 ∧ h[0]? = some (xi ys) ∧ h[1]? = some (xi [3, 9, 99])
def BR (ys : List Int32) (h : xH) : Prop := ∃ s k sh nx ct tx ln rf nw pa, lW ys h ∧ cW h s k sh nx ct tx (nI ln) rf ∧ mW h nw pa (nI ct) rf tx (nI ln) ∧ INV s k sh nx ct tx ln rf nw pa
theorem lW.cF {ys : List Int32} {h h' : xH} (B : lW ys h) (F : cF h h') : lW ys h' := ⟨F.1.trans B.1, (F.2 0 (Or.inl (by decide))).trans B.2.1, (F.2 1 (Or.inl (by decide))).trans B.2.2⟩
theorem lW.mF {ys : List Int32} {h h' : xH} (B : lW ys h) (F : mF h h') : lW ys h' := ⟨F.1.trans B.1, (F.2 0 (by decide)).trans B.2.1, (F.2 1 (by decide)).trans B.2.2⟩
/-- one call of each: the class's, then the reference's; both answer alike -/
def TC (ys : List Int32) (h : xH) (a b : Nat) (vs : List Value) : Prop := ∃ (r : Int32) (h1 h2 : xH), xK a (.ref 2 :: vs) h (some (.int r)) h1 ∧ xK b (.ref 122 :: vs) h1 (some (.int r)) h2 ∧ lW ys h1 ∧ BR ys h2
/-- both calls put together -/
theorem TC_mk {ys : List Int32} {h : xH} {a b : Nat} {vs : List Value} {r : Value} {s' : kS} {k' : kC} {sh' : Nat → kS} {nx' ct' : Nat} {tx' : List Int32} {ln' : Nat} {rf' : List Int32} {nw' pa' : List Int32} (L : lW ys h)
    (C : ∃ h1, xK a (.ref 2 :: vs) h (some r) h1 ∧ cW h1 s' k' sh' nx' ct' tx' (nI ln') rf' ∧ cF h h1)
    (M : ∀ h1, cF h h1 → ∃ h2, xK b (.ref 122 :: vs) h1 (some r) h2 ∧ mW h2 nw' pa' (nI ct') rf' tx' (nI ln') ∧ mF h1 h2) (I : INV s' k' sh' nx' ct' tx' ln' rf' nw' pa') (hr : ∃ v : Int32, r = .int v := by exact ⟨_, rfl⟩) : TC ys h a b vs := by
  obtain ⟨h1, c1, c2, c3⟩ := C
  obtain ⟨h2, m1, m2, m3⟩ := M h1 c3
  obtain ⟨v, rfl⟩ := hr
  exact ⟨v, h1, h2, c1, m1, L.cF c3, s', k', sh', nx', ct', tx', ln', rf', nw', pa', (L.cF c3).mF m3, c2.mF m3, m2, I⟩
