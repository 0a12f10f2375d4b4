def R_law : String := "PathReaderLaw"
def lw_P (b : Addr) (xs : List Int32) (args : Array Value) (s : State) : Prop := args = #[.ref b] ∧ s.IntsAt b xs ∧ xs.length ≤ 2560 ∧ (Jvm.Cond.and given_1 narrow_1).before args s = true
def lw_Q (_ : Array Value) (s : State) (o : Outcome) (t : State) : Prop := o = .returned (some (.int 1)) ∧ Framed s o t [] 600000 7302250
def lw_Z (below : List Frame) (a : Array Value) (s : State) : State → Prop := fun t => ∃ o, t.status = .running ∧ Ended t below o ∧ lw_Q a s o t
/-- the law's own end, with 1 on the stack, nothing written that was there before, its room as the claim has it -/
theorem lw_ret {p : Program} {l : Launch} {e : Env} {s : State} {m : MethodId} {below : List Frame} {meth : Method} {c : Code} {b : Nat} (hx : p.tables.exec = Jvm.exec) (hb : c.code = code) (hr : meth.sig.returnType = ret) (hlocks : meth.locks = false) {pc : Nat} {H : Heap} {ls : Array Slot} (hdg : decode code pc = .ok (.ireturn, 1)) : W p l e room_1 s m #[Value.ref b] below meth c H [] 600000 7302250 (lw_Z below #[Value.ref b] s) (F0 m pc ls [.int 1]) := by
  intro T hT X
  obtain ⟨fs, hret, hrun, hended, hW, hframe⟩ := X.leave (v := some (.int 1)) (hlocks := hlocks) (fun h => by rw [hr] at h; cases h)
  have hmeth' : T.vm.method? m = some meth := X.method'
  refine ⟨T.setFrames fs, ?_, .returned (some (.int 1)), hrun, hended, rfl, ⟨_, rfl⟩, hW, hframe⟩
  jvm_step X.here [X.here.top, hx, hb, hdg, hmeth', hr, ret, narrow_b1]
  (try refine ⟨rfl, ?_⟩); (try refine ⟨rfl, ?_⟩)
  first | (intro acts; rw [hret _ acts rfl rfl rfl]) | rw [hret _ _ rfl rfl rfl]
  exact Steps.refl _
/-- what holds at the law's entry: the machine, the code, the tables' words (any of lw_tbl by 'hts w (by decide +kernel)'), the script of L ints xs at the cell b, what the Statement gives of the start (any of its parts by flat_of_before) -/
def lw_At (p : Program) (s : State) (m : MethodId) (meth : Method) (c : Code) (b L : Nat) (xs : Nat → Int32) : Prop :=
  p.tables.exec = Jvm.exec ∧ c.code = code ∧ meth.sig.returnType = ret ∧ c.maxLocals = 4 ∧ s.vm.findClass R_law = some m.cls ∧ (∀ w ∈ lw_tbl, w.before #[Value.ref b] s = true) ∧ va_X b L xs s s.heap ∧ b < s.heap.size ∧ meth.locks = false ∧ (Jvm.Cond.and given_1 narrow_1).before #[Value.ref b] s = true

theorem x_GW_of {s : State} {args : Array Value} (hts : ∀ w ∈ lw_tbl, w.before args s = true) : x_GW s := by
  intro w hw
  obtain ⟨h1, h2⟩ := List.mem_filter.mp hw
  have h3 := hts w h1
  unfold x_mv at h2
  rw [Bool.or_eq_true] at h2
  rcases h2 with h2 | h2
  · exact word_at (State.WarmedH.refl s) (good_of_word h2) h3
  · split at h2
    · exact va_Nw.of rfl h3
    · exact h3
    · cases h2
/-- our heap at the law's entry: the script, the settings' bounds -/
def x_h0 (ys : List Int32) : xH := [.inl (.int, ys.map Value.int), .inl (.int, [.int 3, .int 9, .int 99])]
/-- what is left to show: our machine, from there, answers 1 -/
def x_Law : Prop := ∀ ys : List Int32, ys.length ≤ 2560 → ∃ h' : xH, x_Ev x_nm x_tf x_fn x_Pg 177 0 (x_entry 4 [.ref 0]) [] (x_h0 ys) (some (.int 1)) h' ∧ h'.length ≤ 600000 ∧ x_sz h' ≤ 7302250
set_option maxHeartbeats 4000000 in
set_option maxRecDepth 100000 in
theorem x_start (hlaw : x_Law) {p : Program} {e : Env} {s : State} {m : MethodId} {below : List Frame} {meth : Method} {c : Code} (l : Launch) (hmn : meth.name = "law") {b L : Nat} {xs : Nat → Int32} (hL : L ≤ 2560) (C0 : lw_At p s m meth c b L xs) : W p l e room_1 s m #[Value.ref b] below meth c s.heap [] 0 0 (lw_Z below #[Value.ref b] s) (entryFrame m ([Value.ref b] : List Value).toArray 4) := by
  obtain ⟨hx, hb, hr, hml, hown, hts, hX, hbl, hlocks, hgv⟩ := C0
  have hG : x_GW s := x_GW_of hts
  have hK : ∀ ci : Nat, ∃ (cC : ClassId) (iS : Nat → Nat), ∀ r : vw_C, vwCl[ci]? = some r → u_Kn s r.1 r.2.1 r.2.2 cC iS := by
    intro ci
    cases h : vwCl[ci]? with
    | none => exact ⟨0, fun _ => 0, fun r hr => by cases hr⟩
    | some r =>
      obtain ⟨cC, iS, hk⟩ := u_known (C := r.1) (T := r.2.1) (N := r.2.2) (n := r.2.2) (fun w hw => hG.use hw #[Value.ref b]) (x_clF h).2.2.1 (hG.use (x_clF h).1 _)
      exact ⟨cC, iS, fun r' hr' => by cases hr'; exact hk⟩
  obtain ⟨dC, hdC⟩ := Classical.axiomOfChoice hK
  obtain ⟨dI, hdI⟩ := Classical.axiomOfChoice hdC
  have hKD : x_K (dC, dI) s := fun ci r hc => hdI ci r hc
  have hs := flat_of_before _ hgv
  have hA : ∀ a : Nat, a < s.heap.size → ¬ (fun a => s.heap.size ≤ a) a := fun a ha => Nat.not_le.mpr ha
  obtain ⟨q, hq, hT⟩ := va_Tof (tm := .static x_sC x_sN x_sD) (ty := .int) (N := 3) (f := fun j => if j = 0 then .int 3 else if j = 1 then .int 9 else .int 99) (by decide) (hs (Cond.arrayOf (.static x_sC x_sN x_sD) .int) (by decide +kernel)) (va_eqt (hs (Cond.eq (.length (.static x_sC x_sN x_sD)) (.int 3)) (by decide +kernel)))
    (fun j hj => by
      rcases (show j = 0 ∨ j = 1 ∨ j = 2 by omega) with rfl | rfl | rfl
      · exact va_eqt (hs (Cond.eq (.elem (.static x_sC x_sN x_sD) (.int 0)) (.int 3)) (by decide +kernel))
      · exact va_eqt (hs (Cond.eq (.elem (.static x_sC x_sN x_sD) (.int 1)) (.int 9)) (by decide +kernel))
      · exact va_eqt (hs (Cond.eq (.elem (.static x_sC x_sN x_sD) (.int 2)) (.int 99)) (by decide +kernel))) hA
  have hZ : va_Z x_sC x_sN x_sD (.ref q) (fun a => s.heap.size ≤ a) s s.heap := va_Zof (hts _ (List.mem_of_getElem? (i := 358) (by decide +kernel))) (hts _ (List.mem_of_getElem? (i := 68) (by decide +kernel))) hq hA
  obtain ⟨tc, t1, t2, t3, t4, t5, t6, -⟩ := hT
  obtain ⟨scr, c1, c2, c3, c4, c5⟩ := hX
  have hql : q < s.heap.size := (Array.getElem?_eq_some_iff.mp t1).1
  have hlen : ((List.range L).map xs).length ≤ 2560 := by simpa using hL
  obtain ⟨h', hE, hl', hz'⟩ := hlaw ((List.range L).map xs) hlen
  have hRel : x_Rel (dC, dI) b q s.heap.size (x_h0 ((List.range L).map xs)) s s.heap := by
    refine ⟨hbl, hql, Nat.le_refl 2, rfl, hKD, hZ, fun k e0 hk => ?_⟩
    match k, hk with
    | 0, hk =>
      cases hk
      refine ⟨scr, c1, c2, c3, ⟨by simp [c4], by simp [c4], fun j v hj => ?_⟩, fun C hC => by cases hC⟩
      have hjl : j < L := by
        have := (List.getElem?_eq_some_iff.mp hj).1
        simpa using this
      rw [List.getElem?_map, List.getElem?_map, List.getElem?_range hjl] at hj
      cases hj
      exact c5 j hjl
    | 1, hk =>
      cases hk
      refine ⟨tc, t1, t2, t3, ⟨t4, t5, fun j v hj => ?_⟩, fun C hC => by cases hC⟩
      match j, hj with
      | 0, hj => cases hj; exact t6 0 (by decide)
      | 1, hj => cases hj; exact t6 1 (by decide)
      | 2, hj => cases hj; exact t6 2 (by decide)
      | n + 3, hj => simp at hj
    | n + 2, hk => simp [x_h0] at hk
  have hS := x_followed (l := l) (D := (dC, dI)) (b := b) (q := q) (base := s.heap.size) x_HL x_HB hE
  rw [lg_entry_eq]
  refine hS.2.2 xm_law rfl rfl p e room_1 s m #[Value.ref b] below meth c (lw_Z below #[Value.ref b] s) 600000 7302250 ⟨hx, hb, hml, hown, hG, Nat.le_refl _, Nat.le_refl _⟩ hmn rfl rfl ?_ s.heap [] 0 0 _ (by omega) (by omega) hRel (x_lv_entry (vs := [.ref 0]) (Nat.le_of_ble_eq_true rfl)) (fun z hz => by cases hz)
  intro H locs cells slots pc lsr ins h1 h2 hR2 hlocs hd hrok
  rcases hrok with ⟨rfl, v, hv, -⟩ | ⟨-, hrt, -⟩ | ⟨-, hrt, -⟩
  · cases hv
    exact va_forget hlocs (W.widen h1 h2 (lw_ret hx hb hr hlocks hd))
  · cases hrt
  · cases hrt
