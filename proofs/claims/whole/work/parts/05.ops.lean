/-! one instruction of ours is one of the real machine's -/
/-- the real machine, at that place, with any heap and locals that hold ours, comes to Qf -/
def x_Wn (p : Program) (l : Launch) (e : Env) (R : Room) (s : State) (m : MethodId) (args : Array Value) (below : List Frame) (meth : Method) (c : Code) (Qf : State → Prop) (D : va_G) (b q base L mc ms n' z' : Nat) (pc : Nat) (ls : xL) (st : List Value) (h : xH) : Prop :=
  ∀ (H : Heap) (locs : List Loc) (cells slots : Nat) (lsr : Array Slot), cells + (n' - h.length) ≤ mc → slots + (z' - x_sz h) ≤ ms → x_Rel D b q base h s H → x_lv (x_ad b q base) L ls lsr → (∀ z ∈ locs, base ≤ z.base) → W p l e R s m args below meth c H locs cells slots Qf (F0 m pc lsr (st.map (x_cv (x_ad b q base))))
abbrev x_Cx (p : Program) (s : State) (m : MethodId) (c : Code) (R : Room) (mc ms : Nat) (cc : ByteArray) (own : String) (L : Nat) : Prop :=
  p.tables.exec = Jvm.exec ∧ c.code = cc ∧ c.maxLocals = L ∧ s.vm.findClass own = some m.cls ∧ x_GW s ∧ mc ≤ R.cells ∧ ms ≤ R.slots
section XO
variable {p : Program} {l : Launch} {e : Env} {R : Room} {s : State} {m : MethodId} {args : Array Value} {below : List Frame} {meth : Method} {c : Code} {Qf : State → Prop} {D : va_G} {b q base L mc ms n' z' : Nat} {cc : ByteArray} {own : String}
variable {pc pc' : Nat} {ls ls2 : xL} {st st2 : List Value} {h h2 : xH}
theorem x_Wn_s (k : x_Wn p l e R s m args below meth c Qf D b q base L mc ms n' z' pc' ls st2 h)
    (f : ∀ (H : Heap) (locs : List Loc) (cells slots : Nat) (lsr : Array Slot), x_Rel D b q base h s H → x_lv (x_ad b q base) L ls lsr → W p l e R s m args below meth c H locs cells slots Qf (F0 m pc' lsr (st2.map (x_cv (x_ad b q base)))) → W p l e R s m args below meth c H locs cells slots Qf (F0 m pc lsr (st.map (x_cv (x_ad b q base))))) :
    x_Wn p l e R s m args below meth c Qf D b q base L mc ms n' z' pc ls st h := fun H locs cells slots lsr h1 h2 h3 h4 h5 => f H locs cells slots lsr h3 h4 (k H locs cells slots lsr h1 h2 h3 h4 h5)
theorem x_inb {i : Int32} {n : Nat} (h0 : ¬ i < 0) (h1 : i.toNatClampNeg < n) : ¬ (i < 0 ∨ n ≤ i.toNatClampNeg) := fun z => z.elim h0 (fun y => Nat.not_le.mpr h1 y)
theorem x_s_iload (C : x_Cx p s m c R mc ms cc own L) {i n : Nat} {ins : Instr} (hd : decode cc pc = .ok (ins, n)) (hi : (∃ k : Fin 4, (k : Nat) = i ∧ ins = .iload_n k ∧ n = 1) ∨ (ins = .iload i ∧ n = 2)) (ho : x_ldi ls i st h = some (ls2, st2, h2)) (k : x_Wn p l e R s m args below meth c Qf D b q base L mc ms n' z' (pc + n) ls2 st2 h2) : x_Wn p l e R s m args below meth c Qf D b q base L mc ms n' z' pc ls st h := by
  unfold x_ldi at ho
  split at ho
  · rename_i x hx
    cases ho
    refine x_Wn_s k fun H locs cells slots lsr hr hl kk => ?_
    rcases hi with ⟨k4, hk, rfl, rfl⟩ | ⟨rfl, rfl⟩
    · exact lv_iload_n C.1 C.2.1 hd hk (hl.2.2 i _ hx) kk
    · exact lv_iload C.1 C.2.1 hd (hl.2.2 i _ hx) kk
  · cases ho
theorem x_s_lload (C : x_Cx p s m c R mc ms cc own L) {i n : Nat} {ins : Instr} (hd : decode cc pc = .ok (ins, n)) (hi : (∃ k : Fin 4, (k : Nat) = i ∧ ins = .lload_n k ∧ n = 1) ∨ (ins = .lload i ∧ n = 2)) (ho : x_ldl ls i st h = some (ls2, st2, h2)) (k : x_Wn p l e R s m args below meth c Qf D b q base L mc ms n' z' (pc + n) ls2 st2 h2) : x_Wn p l e R s m args below meth c Qf D b q base L mc ms n' z' pc ls st h := by
  unfold x_ldl at ho
  split at ho
  · rename_i x hx
    cases ho
    refine x_Wn_s k fun H locs cells slots lsr hr hl kk => ?_
    rcases hi with ⟨k4, hk, rfl, rfl⟩ | ⟨rfl, rfl⟩
    · exact lv_lload_n C.1 C.2.1 hd hk (hl.2.2 i _ hx) kk
    · exact lv_lload C.1 C.2.1 hd (hl.2.2 i _ hx) kk
  · cases ho
theorem x_s_aload (C : x_Cx p s m c R mc ms cc own L) {i n : Nat} {ins : Instr} (hd : decode cc pc = .ok (ins, n)) (hi : (∃ k : Fin 4, (k : Nat) = i ∧ ins = .aload_n k ∧ n = 1) ∨ (ins = .aload i ∧ n = 2)) (ho : x_lda ls i st h = some (ls2, st2, h2)) (k : x_Wn p l e R s m args below meth c Qf D b q base L mc ms n' z' (pc + n) ls2 st2 h2) : x_Wn p l e R s m args below meth c Qf D b q base L mc ms n' z' pc ls st h := by
  unfold x_lda at ho
  split at ho
  · rename_i x hx
    cases ho
    refine x_Wn_s k fun H locs cells slots lsr hr hl kk => ?_
    rcases hi with ⟨k4, hk, rfl, rfl⟩ | ⟨rfl, rfl⟩
    · exact lv_aload_n C.1 C.2.1 hd hk (hl.2.2 i _ hx) kk
    · exact lv_aload C.1 C.2.1 hd (hl.2.2 i _ hx) kk
  · cases ho
theorem x_s_istore (C : x_Cx p s m c R mc ms cc own L) (hL : ls.length = L) {i n : Nat} {ins : Instr} (hd : decode cc pc = .ok (ins, n)) (hi : (∃ k : Fin 4, (k : Nat) = i ∧ ins = .istore_n k ∧ n = 1) ∨ (ins = .istore i ∧ n = 2)) (ho : x_sti ls i st h = some (ls2, st2, h2)) (k : x_Wn p l e R s m args below meth c Qf D b q base L mc ms n' z' (pc + n) ls2 st2 h2) : x_Wn p l e R s m args below meth c Qf D b q base L mc ms n' z' pc ls st h := by
  unfold x_sti at ho
  split at ho
  · rename_i x st
    split at ho
    · rename_i hlt
      cases ho
      intro H locs cells slots lsr h1 h2 h3 h4 h5
      rcases hi with ⟨k4, hk, rfl, rfl⟩ | ⟨rfl, rfl⟩
      · exact lv_istore_n C.1 C.2.1 hd hk h4.has (hL ▸ hlt) rfl fun ls' h' => k H locs cells slots ls' h1 h2 h3 (x_lv.put (v := .int x) h') h5
      · exact lv_istore C.1 C.2.1 hd h4.has (hL ▸ hlt) rfl fun ls' h' => k H locs cells slots ls' h1 h2 h3 (x_lv.put (v := .int x) h') h5
    · cases ho
  · cases ho
theorem x_s_astore (C : x_Cx p s m c R mc ms cc own L) (hL : ls.length = L) {i n : Nat} {ins : Instr} (hd : decode cc pc = .ok (ins, n)) (hi : (∃ k : Fin 4, (k : Nat) = i ∧ ins = .astore_n k ∧ n = 1) ∨ (ins = .astore i ∧ n = 2)) (ho : x_sta ls i st h = some (ls2, st2, h2)) (k : x_Wn p l e R s m args below meth c Qf D b q base L mc ms n' z' (pc + n) ls2 st2 h2) : x_Wn p l e R s m args below meth c Qf D b q base L mc ms n' z' pc ls st h := by
  unfold x_sta at ho
  split at ho
  · rename_i x st
    split at ho
    · rename_i hlt
      cases ho
      intro H locs cells slots lsr h1 h2 h3 h4 h5
      rcases hi with ⟨k4, hk, rfl, rfl⟩ | ⟨rfl, rfl⟩
      · exact lv_astore_n C.1 C.2.1 hd hk h4.has (hL ▸ hlt) rfl fun ls' h' => k H locs cells slots ls' h1 h2 h3 (x_lv.put (v := .ref x) h') h5
      · exact lv_astore C.1 C.2.1 hd h4.has (hL ▸ hlt) rfl fun ls' h' => k H locs cells slots ls' h1 h2 h3 (x_lv.put (v := .ref x) h') h5
    · cases ho
  · cases ho
theorem x_s_lstore (C : x_Cx p s m c R mc ms cc own L) (hL : ls.length = L) {i n : Nat} {ins : Instr} (hd : decode cc pc = .ok (ins, n)) (hi : (∃ k : Fin 4, (k : Nat) = i ∧ ins = .lstore_n k ∧ n = 1) ∨ (ins = .lstore i ∧ n = 2)) (ho : x_stl ls i st h = some (ls2, st2, h2)) (k : x_Wn p l e R s m args below meth c Qf D b q base L mc ms n' z' (pc + n) ls2 st2 h2) : x_Wn p l e R s m args below meth c Qf D b q base L mc ms n' z' pc ls st h := by
  unfold x_stl at ho
  split at ho
  · rename_i x st
    split at ho
    · rename_i hlt
      cases ho
      intro H locs cells slots lsr h1 h2 h3 h4 h5
      rcases hi with ⟨k4, hk, rfl, rfl⟩ | ⟨rfl, rfl⟩
      · exact lv_lstore_n C.1 C.2.1 hd hk h4.has (hL ▸ hlt) rfl fun ls' h' => k H locs cells slots ls' h1 h2 h3 (x_lv.put2 (v := .long x) h') h5
      · exact lv_lstore C.1 C.2.1 hd h4.has (hL ▸ hlt) rfl fun ls' h' => k H locs cells slots ls' h1 h2 h3 (x_lv.put2 (v := .long x) h') h5
    · cases ho
  · cases ho
theorem x_s_iinc (C : x_Cx p s m c R mc ms cc own L) (hL : ls.length = L) {i : Nat} {n : Int} (hd : decode cc pc = .ok (.iinc i n, 3)) (ho : x_inc ls i n st h = some (ls2, st2, h2)) (k : x_Wn p l e R s m args below meth c Qf D b q base L mc ms n' z' (pc + 3) ls2 st2 h2) : x_Wn p l e R s m args below meth c Qf D b q base L mc ms n' z' pc ls st h := by
  unfold x_inc at ho
  split at ho
  · rename_i x hx
    cases ho
    intro H locs cells slots lsr h1 h2 h3 h4 h5
    obtain ⟨kk, hk⟩ := List.getElem?_of_mem (x_al_mem (ad := x_ad b q base) hx)
    exact lv_iinc C.1 C.2.1 hd h4.has hk rfl (hL ▸ (List.getElem?_eq_some_iff.mp hx).1) rfl fun ls' h' => k H locs cells slots ls' h1 h2 h3 (x_lv.put (v := .int (x + Int32.ofInt n)) h') h5
  · cases ho
theorem x_s_getf (C : x_Cx p s m c R mc ms cc own L) {a k0 idx : Nat} {r : vw_C} (hc : vwCl[a]? = some r) (hk0 : k0 < r.2.2) (hlink : Jvm.Cond.fieldLink own idx (r.2.1 k0).1 (r.2.1 k0).2.1 (r.2.1 k0).2.2.1 ∈ x_TB) (hin : ∀ w ∈ u_ws r.1 r.2.1 r.2.2, w ∈ x_TB) (hd : decode cc pc = .ok (.getfield idx, 3)) (ho : x_getf a k0 ls st h = some (ls2, st2, h2)) (k : x_Wn p l e R s m args below meth c Qf D b q base L mc ms n' z' (pc + 3) ls2 st2 h2) : x_Wn p l e R s m args below meth c Qf D b q base L mc ms n' z' pc ls st h := by
  unfold x_getf at ho
  split at ho
  · rename_i o st
    split at ho
    · rename_i ci fs hh
      split at ho
      · rename_i hci
        subst hci
        split at ho
        · rename_i v hv
          cases ho
          refine x_Wn_s k fun H locs cells slots lsr hr hl kk => ?_
          obtain ⟨r', h1, h2, cell, q1, q2, q3, q4⟩ := hr.2.2.2.2.2.2 o _ hh
          cases hc.symm.trans h1
          obtain ⟨hS, hfc, kC, hkC, hkind⟩ := hr.2.2.2.2.1 _ _ hc
          obtain ⟨cf, kf, fi, f, hi, hsl⟩ := hS k0 hk0
          refine W.getf C.1 C.2.1 C.2.2.2.1 (C.2.2.2.2.1.use hlink _) hi (u_facts hfc hkC (u_lays (args := args) (fun w hw => C.2.2.2.2.1.use hw args) hin hk0) hi).1 q1 (by rw [q3]; exact fun h => by cases h) (v := x_cv (x_ad b q base) v) ?_ rfl rfl hd kk
          rw [hsl, q4 k0 hk0]
          simp [vp_V, hv]
        · cases ho
      · cases ho
    · cases ho
  · cases ho
theorem x_s_ald {ty : FieldType} (C : x_Cx p s m c R mc ms cc own L) (hd : (ty = .int ∧ decode cc pc = .ok (.iaload, 1)) ∨ (ty = .long ∧ decode cc pc = .ok (.laload, 1))) (ho : x_ald ty ls st h = some (ls2, st2, h2)) (k : x_Wn p l e R s m args below meth c Qf D b q base L mc ms n' z' (pc + 1) ls2 st2 h2) : x_Wn p l e R s m args below meth c Qf D b q base L mc ms n' z' pc ls st h := by
  unfold x_ald at ho
  split at ho
  · rename_i i o st
    split at ho
    · rename_i t vs hh
      split at ho
      · rename_i hci
        obtain ⟨rfl, hi0⟩ := hci
        split at ho
        · rename_i v hv
          cases ho
          refine x_Wn_s k fun H locs cells slots lsr hr hl kk => ?_
          obtain ⟨cell, q1, q2, q3, q4, -⟩ := hr.2.2.2.2.2.2 o _ hh
          have hlt : i.toNatClampNeg < vs.length := (List.getElem?_eq_some_iff.mp hv).1
          have hvv := q4.2.2 _ _ hv
          rcases hd with ⟨rfl, hd⟩ | ⟨rfl, hd⟩
          · exact W.iald C.1 C.2.1 q1 q2 q3 (x_inb hi0 (Nat.lt_of_lt_of_le hlt q4.1)) hvv rfl rfl hd kk
          · exact W.lald C.1 C.2.1 q1 q2 q3 (x_inb hi0 (Nat.lt_of_lt_of_le hlt q4.1)) hvv rfl rfl hd kk
        · cases ho
      · cases ho
    · cases ho
  · cases ho
theorem x_s_aald (C : x_Cx p s m c R mc ms cc own L) (hd : decode cc pc = .ok (.aaload, 1)) (ho : x_aald ls st h = some (ls2, st2, h2)) (k : x_Wn p l e R s m args below meth c Qf D b q base L mc ms n' z' (pc + 1) ls2 st2 h2) : x_Wn p l e R s m args below meth c Qf D b q base L mc ms n' z' pc ls st h := by
  unfold x_aald at ho
  split at ho
  · rename_i i o st
    split at ho
    · rename_i t vs hh
      split at ho
      · rename_i hci
        obtain ⟨ht, hi0⟩ := hci
        split at ho
        · rename_i v hv
          cases ho
          refine x_Wn_s k fun H locs cells slots lsr hr hl kk => ?_
          obtain ⟨cell, q1, q2, q3, q4, -⟩ := hr.2.2.2.2.2.2 o _ hh
          have hlt : i.toNatClampNeg < vs.length := (List.getElem?_eq_some_iff.mp hv).1
          have hvv := q4.2.2 _ _ hv
          exact W.aald C.1 C.2.1 q1 q2 ht q3 (x_inb hi0 (Nat.lt_of_lt_of_le hlt q4.1)) hvv rfl rfl hd kk
        · cases ho
      · cases ho
    · cases ho
  · cases ho
theorem x_s_alen (C : x_Cx p s m c R mc ms cc own L) (hd : decode cc pc = .ok (.arraylength, 1)) (ho : x_alen ls st h = some (ls2, st2, h2)) (k : x_Wn p l e R s m args below meth c Qf D b q base L mc ms n' z' (pc + 1) ls2 st2 h2) : x_Wn p l e R s m args below meth c Qf D b q base L mc ms n' z' pc ls st h := by
  unfold x_alen at ho
  split at ho
  · rename_i o st
    split at ho
    · rename_i t vs hh
      cases ho
      refine x_Wn_s k fun H locs cells slots lsr hr hl kk => ?_
      obtain ⟨cell, q1, q2, q3, q4, -⟩ := hr.2.2.2.2.2.2 o _ hh
      exact W.alen C.1 C.2.1 q1 q2 q4.2.1 rfl rfl hd kk
    · cases ho
  · cases ho
/-- a store into an array: the cell behind it -/
theorem x_at_store {ad : Nat → Nat} {H1 : Heap} {a : Nat} {t : FieldType} {vs : List Value} {cell : Cell} {i : Nat} {v : Value} (e1 : H1[a]? = some (cell.setSlot i (x_cv ad v))) (q2 : s.isArrayOf cell t) (q3 : cell.vm ≠ .unknown) (q4 : x_cel ad vs cell) (q5 : ∀ C, t = .object C → va_RA s cell.cls t) : x_at D ad s H1 a (.inl (t, vs.set i v)) := by
  refine ⟨_, e1, q2, q3, ⟨?_, ?_, ?_⟩, q5⟩
  · rw [k2_slotsz, List.length_set]; exact q4.1
  · rw [k2_slotsz, List.length_set]; exact q4.2.1
  · intro j w hj
    show (cell.slots.setIfInBounds i (x_cv ad v))[j]? = some (x_cv ad w)
    by_cases hji : j = i
    · subst hji
      have hl : j < vs.length := by
        have := (List.getElem?_eq_some_iff.mp hj).1
        simpa using this
      rw [List.getElem?_set_self hl] at hj
      cases hj
      rw [Array.getElem?_setIfInBounds_self_of_lt (Nat.lt_of_lt_of_le hl q4.1)]
    · rw [List.getElem?_set_ne (Ne.symm hji)] at hj
      rw [Array.getElem?_setIfInBounds_ne (Ne.symm hji)]
      exact q4.2.2 j w hj
theorem x_s_iast (C : x_Cx p s m c R mc ms cc own L) (hd : decode cc pc = .ok (.iastore, 1)) (ho : x_iast ls st h = some (ls2, st2, h2)) (k : x_Wn p l e R s m args below meth c Qf D b q base L mc ms n' z' (pc + 1) ls2 st2 h2) : x_Wn p l e R s m args below meth c Qf D b q base L mc ms n' z' pc ls st h := by
  unfold x_iast at ho
  split at ho
  · rename_i x i o st
    split at ho
    · rename_i t vs hh
      split at ho
      · rename_i hci
        obtain ⟨ho2, rfl, hi0, hlt⟩ := hci
        cases ho
        intro H locs cells slots lsr h1 h2 hr hl h5
        obtain ⟨cell, q1, q2, q3, q4, q5⟩ := hr.2.2.2.2.2.2 o _ hh
        refine W.iast C.1 C.2.1 q1 q2 q3 (x_inb hi0 (Nat.lt_of_lt_of_le hlt q4.1)) rfl rfl hd fun H1 e1 e2 e3 => ?_
        refine k H1 _ cells slots lsr (by rw [List.length_set]; exact h1) (by rw [x_sz_set hh (by simp [x_size])]; exact h2) (hr.set hh ho2 (x_at_store (v := .int x) e1 q2 q3 q4 q5) e2 e3) hl ?_
        intro z hz
        rcases List.mem_append.mp hz with hz | hz
        · exact h5 z hz
        · rw [List.mem_singleton.mp hz]; exact x_ad_ge ho2
      · cases ho
    · cases ho
  · cases ho
theorem x_s_last (C : x_Cx p s m c R mc ms cc own L) (hd : decode cc pc = .ok (.lastore, 1)) (ho : x_last ls st h = some (ls2, st2, h2)) (k : x_Wn p l e R s m args below meth c Qf D b q base L mc ms n' z' (pc + 1) ls2 st2 h2) : x_Wn p l e R s m args below meth c Qf D b q base L mc ms n' z' pc ls st h := by
  unfold x_last at ho
  split at ho
  · rename_i x i o st
    split at ho
    · rename_i t vs hh
      split at ho
      · rename_i hci
        obtain ⟨ho2, rfl, hi0, hlt⟩ := hci
        cases ho
        intro H locs cells slots lsr h1 h2 hr hl h5
        obtain ⟨cell, q1, q2, q3, q4, q5⟩ := hr.2.2.2.2.2.2 o _ hh
        refine W.last C.1 C.2.1 q1 q2 q3 (x_inb hi0 (Nat.lt_of_lt_of_le hlt q4.1)) rfl rfl hd fun H1 e1 e2 e3 => ?_
        refine k H1 _ cells slots lsr (by rw [List.length_set]; exact h1) (by rw [x_sz_set hh (by simp [x_size])]; exact h2) (hr.set hh ho2 (x_at_store (v := .long x) e1 q2 q3 q4 q5) e2 e3) hl ?_
        intro z hz
        rcases List.mem_append.mp hz with hz | hz
        · exact h5 z hz
        · rw [List.mem_singleton.mp hz]; exact x_ad_ge ho2
      · cases ho
    · cases ho
  · cases ho
theorem x_nm_of {ci : Nat} {r : vw_C} (hc : vwCl[ci]? = some r) : x_nm ci = r.1 := by
  unfold x_nm
  rw [hc]
theorem x_s_aast (C : x_Cx p s m c R mc ms cc own L) (hd : decode cc pc = .ok (.aastore, 1)) (ho : x_aast x_nm ls st h = some (ls2, st2, h2)) (k : x_Wn p l e R s m args below meth c Qf D b q base L mc ms n' z' (pc + 1) ls2 st2 h2) : x_Wn p l e R s m args below meth c Qf D b q base L mc ms n' z' pc ls st h := by
  unfold x_aast at ho
  split at ho
  · rename_i x i o st
    split at ho
    · rename_i t vs ci fs hh hx
      split at ho
      · rename_i hci
        obtain ⟨ho2, ht, hi0, hlt⟩ := hci
        cases ho
        intro H locs cells slots lsr h1 h2 hr hl h5
        obtain ⟨cell, q1, q2, q3, q4, q5⟩ := hr.2.2.2.2.2.2 o _ hh
        obtain ⟨r, hc, -, cellV, g1, g2, g3, -⟩ := hr.2.2.2.2.2.2 x _ hx
        have hra := q5 _ ht
        rw [ht, x_nm_of hc] at hra
        obtain ⟨kA, comp, k1, k2, k3, -⟩ := hra
        have hcls := (hr.2.2.2.2.1 ci r hc).2
        have hcomp : comp = D.1 ci := Option.some.inj (k3.symm.trans hcls.1)
        subst hcomp
        obtain ⟨kC, hkC, -⟩ := hcls.2
        refine W.aast C.1 C.2.1 q1 q2.1 q3 k1 k2 rfl hkC ⟨hi0, Nat.lt_of_lt_of_le hlt q4.1⟩ g1 (fun z hz => by rw [g3] at hz; cases hz) (by rw [g2]; exact hkC) (by rw [g2]; exact va_assign hcls) rfl rfl hd fun H1 e1 e2 e3 => ?_
        refine k H1 _ cells slots lsr (by rw [List.length_set]; exact h1) (by rw [x_sz_set hh (by simp [x_size])]; exact h2) (hr.set hh ho2 (x_at_store (v := .ref x) e1 q2 q3 q4 q5) e2 e3) hl ?_
        intro z hz
        rcases List.mem_append.mp hz with hz | hz
        · exact h5 z hz
        · rw [List.mem_singleton.mp hz]; exact x_ad_ge ho2
      · cases ho
    · cases ho
  · cases ho
end XO
