/-! how our heap, locals and values lie in the real machine's -/
def x_ad (b q base : Nat) : Nat → Nat
  | 0 => b
  | 1 => q
  | k + 2 => base + k
def x_cv (ad : Nat → Nat) : Value → Value
  | .ref k => .ref (ad k)
  | v => v
theorem x_cv_cat (ad : Nat → Nat) (v : Value) : (x_cv ad v).category = v.category := by cases v <;> rfl
/-- an array holds these values, and says that it is so long -/
def x_cel (ad : Nat → Nat) (vs : List Value) (cell : Cell) : Prop := vs.length ≤ cell.slots.size ∧ cell.slots.size.toInt32 = Int32.ofNat vs.length ∧ ∀ (j : Nat) (v : Value), vs[j]? = some v → cell.slots[j]? = some (x_cv ad v)
def x_at (D : va_G) (ad : Nat → Nat) (U : State) (H : Heap) (a : Nat) (e : xE) : Prop := match e with
  | .inl (ty, vs) => ∃ cell : Cell, H[a]? = some cell ∧ U.isArrayOf cell ty ∧ cell.vm ≠ .unknown ∧ x_cel ad vs cell ∧ ∀ C, ty = .object C → va_RA U cell.cls ty
  | .inr (ci, fs) => ∃ r : vw_C, vwCl[ci]? = some r ∧ fs.length = r.2.2 ∧ t_OB a (D.1 ci) r.2.2 (D.2 ci) H (vp_V (fs.map (x_cv ad)))
def x_K (D : va_G) (U : State) : Prop := ∀ (ci : Nat) (q : vw_C), vwCl[ci]? = some q → u_Kn U q.1 q.2.1 q.2.2 (D.1 ci) (D.2 ci)
def x_GW (U : State) : Prop := ∀ w ∈ x_TB, w.before #[] U = true
def x_Rel (D : va_G) (b q base : Nat) (h : xH) (U : State) (H : Heap) : Prop :=
  b < base ∧ q < base ∧ 2 ≤ h.length ∧ H.size + 2 = base + h.length ∧ x_K D U ∧ va_Z x_sC x_sN x_sD (.ref q) (fun a => base ≤ a) U H ∧ ∀ (k : Nat) (e : xE), h[k]? = some e → x_at D (x_ad b q base) U H (x_ad b q base k) e
def x_lv (ad : Nat → Nat) (L : Nat) (ls : xL) (lsr : Array Slot) : Prop := lsr.size = L ∧ lv_wf lsr ∧ ∀ (k : Nat) (v : Value), ls[k]? = some (some v) → lsr[k]? = some (.val (x_cv ad v))
def x_size (e : xE) : Nat := match e with
  | .inl (_, vs) => vs.length
  | .inr (_, fs) => fs.length
def x_sz (h : xH) : Nat := (h.map x_size).sum
theorem x_GW.at {s U : State} (h : x_GW s) (hW : s.WarmedH U.vm) {w : Jvm.Cond} (hw : w ∈ x_TB) (a' : Array Value) : w.before a' U = true := by
  have h1 := h w hw
  have h2 := (List.mem_filter.mp hw).2
  unfold x_mv at h2
  rw [Bool.or_eq_true] at h2
  rcases h2 with h2 | h2
  · exact word_at hW (good_of_word h2) h1
  · split at h2
    · exact va_Nw.use rfl (va_Nw.warmM hW h1)
    · exact va_AO.use (va_AO.moved hW.alike h1)
    · cases h2
theorem x_GW.use {s : State} (h : x_GW s) {w : Jvm.Cond} (hw : w ∈ x_TB) (a' : Array Value) : w.before a' s = true := h.at (State.WarmedH.refl s) hw a'
theorem x_GW.warm {s U : State} (h : x_GW s) (hW : s.WarmedH U.vm) : x_GW U := fun _ hw => h.at hW hw _
theorem x_K.moved {D : va_G} {u U : State} (hvm : u.vm.Alike U.vm) (h : x_K D u) : x_K D U := fun ci q hq => u_Kn_moved hvm (h ci q hq)
theorem x_at.moved {D : va_G} {ad : Nat → Nat} {u U : State} {H : Heap} {a : Nat} {e : xE} (hvm : u.vm.Alike U.vm) (h : x_at D ad u H a e) : x_at D ad U H a e := by
  cases e with
  | inl x =>
    obtain ⟨cell, h1, h2, h3, h4, h5⟩ := h
    exact ⟨cell, h1, State.isArrayOf_alike hvm h2, h3, h4, fun C hC => (h5 C hC).moved hvm⟩
  | inr x => exact h
theorem x_Rel.moved {D : va_G} {b q base : Nat} {h : xH} {u U : State} {H : Heap} (hvm : u.vm.Alike U.vm) (hr : x_Rel D b q base h u H) : x_Rel D b q base h U H := by
  obtain ⟨h1, h2, h3, h4, h5, h6, h7⟩ := hr
  exact ⟨h1, h2, h3, h4, h5.moved hvm, h6.moved hvm, fun k e hk => (h7 k e hk).moved hvm⟩
theorem x_at.kept {D : va_G} {ad : Nat → Nat} {U : State} {H H1 : Heap} {a : Nat} {e : xE} (hq : H1[a]? = H[a]?) (h : x_at D ad U H a e) : x_at D ad U H1 a e := by
  cases e with
  | inl x =>
    obtain ⟨cell, h1, h2⟩ := h
    exact ⟨cell, hq.trans h1, h2⟩
  | inr x =>
    obtain ⟨r, h1, h2, h3⟩ := h
    exact ⟨r, h1, h2, h3.kept hq⟩
theorem x_ad_ge {b q base k : Nat} (hk : 2 ≤ k) : base ≤ x_ad b q base k := by
  match k, hk with
  | k + 2, _ => exact Nat.le_add_right _ _
theorem x_ad_ne {b q base j k : Nat} (hb : b < base) (hq : q < base) (hk : 2 ≤ k) (hjk : j ≠ k) : x_ad b q base j ≠ x_ad b q base k := by
  match k, hk with
  | k + 2, _ =>
    match j with
    | 0 => show b ≠ base + k; omega
    | 1 => show q ≠ base + k; omega
    | j + 2 => show base + j ≠ base + k; omega
theorem x_Rel.lt {D : va_G} {b q base : Nat} {h : xH} {U : State} {H : Heap} (hr : x_Rel D b q base h U H) {k : Nat} {e : xE} (hk : h[k]? = some e) : x_ad b q base k < H.size := by
  have h1 := hr.2.2.2.2.2.2 k e hk
  cases e with
  | inl x =>
    obtain ⟨cell, h1, -⟩ := h1
    exact (Array.getElem?_eq_some_iff.mp h1).1
  | inr x =>
    obtain ⟨r, -, -, cell, h1, -⟩ := h1
    exact (Array.getElem?_eq_some_iff.mp h1).1
theorem x_Rel.set {D : va_G} {b q base : Nat} {h : xH} {U : State} {H H1 : Heap} (hr : x_Rel D b q base h U H) {k : Nat} {e0 e : xE} (hk : h[k]? = some e0) (h2 : 2 ≤ k) (he : x_at D (x_ad b q base) U H1 (x_ad b q base k) e) (hz : H1.size = H.size) (oq : ∀ z, z ≠ x_ad b q base k → H1[z]? = H[z]?) : x_Rel D b q base (h.set k e) U H1 := by
  obtain ⟨hb, hq, hl, hs, hK, hZ, hc⟩ := hr
  have hkl := (List.getElem?_eq_some_iff.mp hk).1
  refine ⟨hb, hq, by rw [List.length_set]; exact hl, by rw [List.length_set, hz]; exact hs, hK, hZ.kept (fun a _ ha => oq a (fun z => ha (by rw [z]; exact x_ad_ge h2))), fun j x hj => ?_⟩
  by_cases hjk : j = k
  · subst hjk
    rw [List.getElem?_set_self hkl] at hj
    cases hj
    exact he
  · rw [List.getElem?_set_ne (Ne.symm hjk)] at hj
    exact (hc j x hj).kept (oq _ (x_ad_ne hb hq h2 hjk))
theorem x_ad_len {b q base : Nat} {h : xH} {H : Heap} (hl : 2 ≤ h.length) (hs : H.size + 2 = base + h.length) : x_ad b q base h.length = H.size := by
  match hn : h.length, hl with
  | k + 2, _ =>
    show base + k = H.size
    omega
theorem x_Rel.push {D : va_G} {b q base : Nat} {h : xH} {U : State} {H H1 : Heap} (hr : x_Rel D b q base h U H) {e : xE} (he : x_at D (x_ad b q base) U H1 H.size e) (hz : H1.size = H.size + 1) (oq : ∀ z, z < H.size → H1[z]? = H[z]?) : x_Rel D b q base (h ++ [e]) U H1 := by
  have hlt := fun (k : Nat) (e : xE) (hk : h[k]? = some e) => hr.lt hk
  obtain ⟨hb, hq, hl, hs, hK, hZ, hc⟩ := hr
  refine ⟨hb, hq, by simp; omega, by simp; omega, hK, hZ.kept (fun a ha _ => oq a ha), fun j x hj => ?_⟩
  by_cases hjl : j < h.length
  · rw [List.getElem?_append_left hjl] at hj
    exact (hc j x hj).kept (oq _ (hlt j x hj))
  · rw [List.getElem?_append_right (by omega)] at hj
    have hz2 : j - h.length < 1 := (List.getElem?_eq_some_iff.mp hj).1
    have hj0 : j = h.length := by omega
    subst hj0
    rw [Nat.sub_self] at hj
    cases hj
    rw [x_ad_len hl hs]
    exact he
theorem x_sz_set {h : xH} {k : Nat} {e0 e : xE} (hk : h[k]? = some e0) (hs : x_size e = x_size e0) : x_sz (h.set k e) = x_sz h := by
  unfold x_sz
  rw [List.map_set]
  congr 1
  apply List.ext_getElem?
  intro i
  by_cases hi : i = k
  · subst hi
    have hl := (List.getElem?_eq_some_iff.mp hk).1
    rw [List.getElem?_set_self (by simpa using hl), List.getElem?_map, hk, hs]
    rfl
  · rw [List.getElem?_set_ne (Ne.symm hi)]
theorem x_sz_push (h : xH) (e : xE) : x_sz (h ++ [e]) = x_sz h + x_size e := by
  unfold x_sz
  simp
/-! locals -/
def x_al (ad : Nat → Nat) (ls : xL) : List (Nat × Value) := (List.range ls.length).filterMap (fun k => (ls[k]?.bind id).map (fun v => (k, x_cv ad v)))
theorem x_al_mem {ad : Nat → Nat} {ls : xL} {k : Nat} {v : Value} (h : ls[k]? = some (some v)) : (k, x_cv ad v) ∈ x_al ad ls := by
  refine List.mem_filterMap.mpr ⟨k, List.mem_range.mpr (List.getElem?_eq_some_iff.mp h).1, ?_⟩
  rw [h]
  rfl
theorem x_lv.has {ad : Nat → Nat} {L : Nat} {ls : xL} {lsr : Array Slot} (h : x_lv ad L ls lsr) : lv_has lsr L (x_al ad ls) := by
  refine ⟨h.1, h.2.1, fun q hq => ?_⟩
  obtain ⟨k, -, hk⟩ := List.mem_filterMap.mp hq
  cases hz : ls[k]? with
  | none => rw [hz] at hk; simp at hk
  | some o =>
    cases o with
    | none => rw [hz] at hk; simp at hk
    | some v =>
      rw [hz] at hk
      simp at hk
      rw [← hk]
      exact h.2.2 k v hz
theorem x_put_len (ls : xL) (i : Nat) (v : Value) : (x_put ls i v).length = ls.length := by
  unfold x_put
  split
  · simp
  · split <;> simp
theorem x_put_at {ls : xL} {i : Nat} {v : Value} {k : Nat} {w : Value} (h : (x_put ls i v)[k]? = some (some w)) : (k = i ∧ w = v) ∨ (k ≠ i ∧ ls[k]? = some (some w) ∧ ¬ (k + 1 = i ∧ w.category = 2)) := by
  unfold x_put at h
  split at h
  · by_cases hk : k = 0
    · subst hk
      have hl : 0 < ls.length := by
        have := (List.getElem?_eq_some_iff.mp h).1
        simpa using this
      rw [List.getElem?_set_self hl] at h
      exact Or.inl ⟨rfl, by cases h; rfl⟩
    · rw [List.getElem?_set_ne (Ne.symm hk)] at h
      exact Or.inr ⟨hk, h, fun z => by omega⟩
  · rename_i i
    have key : ∀ ls2 : xL, (∀ z : Nat, z ≠ i → ls2[z]? = ls[z]?) → (ls2[i]? = some none ∨ (ls2[i]? = ls[i]? ∧ ∀ w, ls[i]? = some (some w) → ¬ w.category = 2)) → (ls2.set (i + 1) (some v))[k]? = some (some w) → (k = i + 1 ∧ w = v) ∨ (k ≠ i + 1 ∧ ls[k]? = some (some w) ∧ ¬ (k + 1 = i + 1 ∧ w.category = 2)) := by
      intro ls2 h1 h2 h3
      by_cases hk : k = i + 1
      · subst hk
        have hl : i + 1 < ls2.length := by
          have := (List.getElem?_eq_some_iff.mp h3).1
          simpa using this
        rw [List.getElem?_set_self hl] at h3
        exact Or.inl ⟨rfl, by cases h3; rfl⟩
      · rw [List.getElem?_set_ne (Ne.symm hk)] at h3
        by_cases hki : k = i
        · subst hki
          rcases h2 with h2 | ⟨h2, h4⟩
          · rw [h2] at h3; cases h3
          · rw [h2] at h3
            exact Or.inr ⟨hk, h3, fun z => h4 w h3 z.2⟩
        · rw [h1 k hki] at h3
          exact Or.inr ⟨hk, h3, fun z => by omega⟩
    split at h
    · rename_i x hx
      have hl := (List.getElem?_eq_some_iff.mp hx).1
      exact key _ (fun z hz => List.getElem?_set_ne (Ne.symm hz)) (Or.inl (List.getElem?_set_self hl)) h
    · rename_i x hx
      have hl := (List.getElem?_eq_some_iff.mp hx).1
      exact key _ (fun z hz => List.getElem?_set_ne (Ne.symm hz)) (Or.inl (List.getElem?_set_self hl)) h
    · rename_i n1 n2
      refine key _ (fun z _ => rfl) (Or.inr ⟨rfl, fun u hu => ?_⟩) h
      cases u with
      | long x => exact absurd hu (n1 x)
      | double x => exact absurd hu (n2 x)
      | _ => simp [Value.category]
theorem x_lv.put {ad : Nat → Nat} {L : Nat} {ls : xL} {lsr : Array Slot} {i : Nat} {v : Value} (h : lv_has lsr L ((i, x_cv ad v) :: (x_al ad ls).filter (fun q => !(q.1 == i) && !(q.1 + 1 == i && q.2.category == 2)))) : x_lv ad L (x_put ls i v) lsr := by
  refine ⟨h.1, h.2.1, fun k w hk => ?_⟩
  rcases x_put_at hk with ⟨rfl, rfl⟩ | ⟨h1, h2, h3⟩
  · exact h.2.2 _ List.mem_cons_self
  · refine h.2.2 _ (List.mem_cons_of_mem _ (List.mem_filter.mpr ⟨x_al_mem h2, ?_⟩))
    simp only [x_cv_cat, Bool.and_eq_true, Bool.not_eq_true', beq_eq_false_iff_ne, ne_eq, Bool.and_eq_false_iff]
    refine ⟨h1, ?_⟩
    by_cases hz : k + 1 = i
    · exact Or.inr (fun z => h3 ⟨hz, z⟩)
    · exact Or.inl hz
theorem x_lv.put2 {ad : Nat → Nat} {L : Nat} {ls : xL} {lsr : Array Slot} {i : Nat} {v : Value} (h : lv_has lsr L ((i, x_cv ad v) :: (x_al ad ls).filter (fun q => !(q.1 == i) && (!(q.1 == i + 1) && !(q.1 + 1 == i && q.2.category == 2))))) : x_lv ad L (x_put2 ls i v) lsr := by
  refine ⟨h.1, h.2.1, fun k w hk => ?_⟩
  unfold x_put2 at hk
  by_cases hki : k = i + 1
  · subst hki
    by_cases hl : i + 1 < (x_put ls i v).length
    · rw [List.getElem?_set_self hl] at hk; cases hk
    · rw [List.getElem?_eq_none (by simpa using hl)] at hk; cases hk
  · rw [List.getElem?_set_ne (Ne.symm hki)] at hk
    rcases x_put_at hk with ⟨rfl, rfl⟩ | ⟨h1, h2, h3⟩
    · exact h.2.2 _ List.mem_cons_self
    · refine h.2.2 _ (List.mem_cons_of_mem _ (List.mem_filter.mpr ⟨x_al_mem h2, ?_⟩))
      simp only [x_cv_cat, Bool.and_eq_true, Bool.not_eq_true', beq_eq_false_iff_ne, ne_eq, Bool.and_eq_false_iff]
      refine ⟨h1, hki, ?_⟩
      by_cases hz : k + 1 = i
      · exact Or.inr (fun z => h3 ⟨hz, z⟩)
      · exact Or.inl hz
theorem x_args_at (ad : Nat → Nat) : ∀ (vs : List Value) (i k : Nat) (v : Value), (x_args vs)[k]? = some (some v) → (i + k, x_cv ad v) ∈ lv_args i (vs.map (x_cv ad))
  | [], i, k, v, h => by simp [x_args] at h
  | w :: vs, i, k, v, h => by
    have ih := x_args_at ad vs
    have hcat := x_cv_cat ad w
    show (i + k, x_cv ad v) ∈ (i, x_cv ad w) :: lv_args (if (x_cv ad w).category = 2 then i + 2 else i + 1) (vs.map (x_cv ad))
    rw [hcat]
    have one : ∀ (hc : ¬ w.category = 2), x_args (w :: vs) = some w :: x_args vs → (i + k, x_cv ad v) ∈ (i, x_cv ad w) :: lv_args (if w.category = 2 then i + 2 else i + 1) (vs.map (x_cv ad)) := by
      intro hc he
      rw [he] at h
      rw [if_neg hc]
      cases k with
      | zero => cases h; exact List.mem_cons_self
      | succ k =>
        rw [List.getElem?_cons_succ] at h
        have := ih (i + 1) k v h
        rw [show i + 1 + k = i + (k + 1) by omega] at this
        exact List.mem_cons_of_mem _ this
    have two : ∀ (hc : w.category = 2), x_args (w :: vs) = some w :: none :: x_args vs → (i + k, x_cv ad v) ∈ (i, x_cv ad w) :: lv_args (if w.category = 2 then i + 2 else i + 1) (vs.map (x_cv ad)) := by
      intro hc he
      rw [he] at h
      rw [if_pos hc]
      match k, h with
      | 0, h => cases h; exact List.mem_cons_self
      | 1, h => cases h
      | k + 2, h =>
        rw [List.getElem?_cons_succ, List.getElem?_cons_succ] at h
        have := ih (i + 2) k v h
        rw [show i + 2 + k = i + (k + 2) by omega] at this
        exact List.mem_cons_of_mem _ this
    cases w with
    | long x => exact two rfl rfl
    | double x => exact two rfl rfl
    | int x => exact one (fun z => by simp [Value.category] at z) rfl
    | float x => exact one (fun z => by simp [Value.category] at z) rfl
    | null => exact one (fun z => by simp [Value.category] at z) rfl
    | ref x => exact one (fun z => by simp [Value.category] at z) rfl
    | retAddr x => exact one (fun z => by simp [Value.category] at z) rfl
theorem x_args_len (ad : Nat → Nat) : ∀ vs : List Value, (x_args vs).length = (lg_sl (vs.map (x_cv ad))).length
  | [] => rfl
  | w :: vs => by
    have ih := x_args_len ad vs
    unfold x_args lg_sl at ih ⊢
    cases w <;> simp [x_cv, Value.category] at ih ⊢ <;> omega
theorem x_lv_entry {ad : Nat → Nat} {L : Nat} {vs : List Value} (h : (x_args vs).length ≤ L) : x_lv ad L (x_entry L vs) ((lg_sl (vs.map (x_cv ad)) ++ List.replicate (L - (lg_sl (vs.map (x_cv ad))).length) Slot.unset).toArray) := by
  rw [x_args_len ad] at h
  have h1 := lv_entry (vs.map (x_cv ad)) (n := L) h
  refine ⟨h1.1, h1.2.1, fun k v hk => ?_⟩
  unfold x_entry at hk
  by_cases hl : k < (x_args vs).length
  · rw [List.getElem?_append_left hl] at hk
    have := x_args_at ad vs 0 k v hk
    rw [Nat.zero_add] at this
    exact h1.2.2 _ this
  · rw [List.getElem?_append_right (by omega)] at hk
    have := List.mem_of_getElem? hk
    have := List.eq_of_mem_replicate this
    cases this
theorem x_entry_len {L : Nat} {vs : List Value} (h : (x_args vs).length ≤ L) : (x_entry L vs).length = L := by
  unfold x_entry
  simp
  omega
