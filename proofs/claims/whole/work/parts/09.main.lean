section XO5
variable {Pg : List xM} {LM : List (Nat × Nat × Nat)} {l : Launch} {D : va_G} {b q base : Nat}
abbrev x_Pc (D : va_G) (b q base : Nat) (vs : List Value) (h : xH) : Array Value → State → Prop := fun a U => a = (vs.map (x_cv (x_ad b q base))).toArray ∧ x_GW U ∧ x_Rel D b q base h U U.heap
abbrev x_Qc (D : va_G) (b q base : Nat) (r : Option Value) (h' : xH) : Array Value → State → Outcome → State → Prop := fun _ _ o t => o = .returned (r.map (x_cv (x_ad b q base))) ∧ x_Rel D b q base h' t t.heap
theorem x_blind {vs : List Value} {h : xH} : FrameBlind (x_Pc D b q base vs h) := fun a U g mk hq => ⟨hq.1, hq.2.1.warm (U := U.calling g mk a) (State.WarmedH.refl U), hq.2.2.moved (U := U.calling g mk a) (Vm.Alike.refl U.vm)⟩
/-- a run of our method is a contract of the real one -/
theorem x_met {j : Nat} {K : xM} {vs : List Value} {h h' : xH} {r : Option Value} (hP : Pg[j]? = some K) (hK : x_MOK K) (hargs : (x_args vs).length ≤ xm_L K) (hs : x_Sim Pg l D b q base j 0 (x_entry (xm_L K) vs) [] h r h') :
    Met l (xm_y K) [Jvm.Cond.code (xm_y K) (xm_cc K) (xm_L K) (xm_rt K)] { frames := xm_fr K, cells := h'.length - h.length, slots := x_sz h' - x_sz h, locals := xm_lo K } (x_Pc D b q base vs h) (x_Qc D b q base r h') (h'.length - h.length) (x_sz h' - x_sz h) (fun a => base ≤ a) := by
  refine Met.ofW (cc := xm_cc K) (maxL := xm_L K) (ret := xm_rt K) hK.1 rfl ?_
  intro p e s m args below meth c s₁ B hml hv
  obtain ⟨rfl, hG, hR⟩ := hv
  have hx := B.exec
  have hb := B.bytes
  have hr := B.returns
  have hown : s.vm.findClass (xm_y K).cls = some m.cls := findClass_of_methodNamed B.named
  have hlocks := B.notSynchronized
  have hin : meth.name = (xm_y K).name := (name_of_methodNamed B.named B.method).1
  rw [lg_entry_eq]
  rw [hK.2.2.2.2.1] at hown
  refine hs.2.2 K hP (x_entry_len hargs) p e _ s m _ below meth c _ (h'.length - h.length) (x_sz h' - x_sz h) ⟨hx, hb, hml, hown, hG, Nat.le_refl _, Nat.le_refl _⟩ hin rfl rfl ?_ s.heap [] 0 0 _ (by omega) (by omega) hR (x_lv_entry hargs) (fun z hz => by cases hz)
  intro H locs cells slots pc lsr ins h1 h2 hR2 hlocs hd hrok
  refine W.widen h1 h2 ?_
  rcases hrok with ⟨rfl, v, rfl, hrt | ⟨hrt, hv1⟩⟩ | ⟨rfl, hrt, v, rfl⟩ | ⟨rfl, hrt, rfl⟩
  · exact W.iret (v := v) hx hb (by rw [hr]; exact hrt) (fun t ht hW => ⟨rfl, by rw [ht]; exact hR2.moved hW.alike⟩) hlocs hd hlocks
  · exact W.zret (v := v) (ty := .boolean) hx hb (by rw [hr]; exact hrt) (by show Value.int (v &&& 1) = _; rw [hv1]) (fun t ht hW => ⟨rfl, by rw [ht]; exact hR2.moved hW.alike⟩) hlocs hd hlocks
  · exact W.lret (v := v) hx hb (by rw [hr]; exact hrt) (fun t ht hW => ⟨rfl, by rw [ht]; exact hR2.moved hW.alike⟩) hlocs hd hlocks
  · exact W.vret hx hb (by rw [hr]; exact hrt) (fun t ht hW => ⟨rfl, by rw [ht]; exact hR2.moved hW.alike⟩) hlocs hd hlocks
variable {p : Program} {e : Env} {R : Room} {s : State} {m : MethodId} {args : Array Value} {below : List Frame} {meth : Method} {c : Code} {Qf : State → Prop} {mc ms n' z' : Nat}
variable {M K : xM} {pc : Nat} {ls : xL} {st rest vs : List Value} {h h1 : xH} {r : Option Value}
theorem x_catsum (ad : Nat → Nat) (st : List Value) : ((st.map (x_cv ad)).map fun v => v.category).sum = (st.map Value.category).sum := by
  rw [List.map_map]
  congr 1
  exact List.map_congr_left (fun v _ => x_cv_cat _ v)
/-- behind a call -/
theorem x_after {cells slots : Nat} {H : Heap} {locs : List Loc} {lsr : Array Slot} {st0 : List Value} {aa : Array Value} (hrun : va_Run p l e R s m args below meth c H locs cells slots (h1.length - h.length) (x_sz h1 - x_sz h) (F0 m pc lsr st0) (rest.map (x_cv (x_ad b q base))) (x_Qc D b q base r h1 aa) (fun a => base ≤ a))
    (hc : cells + (n' - h.length) ≤ mc) (hsl : slots + (z' - x_sz h) ≤ ms) (hl1 : h.length ≤ h1.length) (hl2 : h1.length ≤ n') (hz1 : x_sz h ≤ x_sz h1) (hz2 : x_sz h1 ≤ z') (hlv : x_lv (x_ad b q base) (xm_L M) ls lsr) (hlocs : ∀ z ∈ locs, base ≤ z.base)
    (k : x_Wn p l e R s m args below meth c Qf D b q base (xm_L M) mc ms n' z' (pc + 3) ls (r.toList ++ rest) h1) : W p l e R s m args below meth c H locs cells slots Qf (F0 m pc lsr st0) := by
  intro T hT X
  obtain ⟨v, st₀, t, T', L', h0, X', hL, e1, e2, ⟨hv, hR⟩, stp⟩ := hrun T hT X
  cases hv
  have hR' : x_Rel D b q base h1 s T'.heap := by
    rw [e1]
    exact hR.moved (by rw [← e2]; exact X'.warmed.alike.symm)
  obtain ⟨t2, a1, b1⟩ := k T'.heap (locs ++ L') (cells + (h1.length - h.length)) (slots + (x_sz h1 - x_sz h)) lsr (by omega) (by omega) hR' hlv (fun z hz => (List.mem_append.mp hz).elim (hlocs z) (hL z)) T' rfl X'
  refine ⟨t2, stp t2 ?_, b1⟩
  have e3 : (r.map (x_cv (x_ad b q base))).toList ++ rest.map (x_cv (x_ad b q base)) = (r.toList ++ rest).map (x_cv (x_ad b q base)) := by
    cases r <;> rfl
  show Steps p.tables e below (T'.setTop (F0 m (pc + 3) lsr ((r.map (x_cv (x_ad b q base))).toList ++ rest.map (x_cv (x_ad b q base))))) t2
  rw [e3]
  exact a1
theorem x_recv_v (hk : xm_k K = 1) (H : x_recv K vs h) : ∃ (o : Nat) (As fs : List Value), vs = .ref o :: As ∧ h[o]? = some (.inr (xm_ci K, fs)) := by
  unfold x_recv at H
  split at H
  · rename_i z
    rw [hk] at z
    cases z
  · split at H
    · rename_i o As
      split at H
      · rename_i ci fs hh
        subst H
        exact ⟨o, As, fs, rfl, hh⟩
      · cases H
    · cases H
  · rename_i z1 z2
    exact absurd hk z2
theorem x_recv_i (hk : xm_k K = 2) (H : x_recv K vs h) : ∃ (o : Nat) (As : List Value), vs = .ref o :: As := by
  unfold x_recv at H
  split at H
  · rename_i z
    rw [hk] at z
    cases z
  · rename_i z
    rw [hk] at z
    cases z
  · split at H
    · rename_i o As
      exact ⟨o, As, rfl⟩
    · cases H
theorem x_call_sim {a idx : Nat} {ins : Instr} (C : x_Cx p s m c R mc ms (xm_cc M) (x_on (xm_o M)) (xm_L M)) (hfr : R.frames = xm_fr M) (hlo : R.locals = xm_lo M) (hPg : Pg[a]? = some K) (hK : x_MOK K) (hlink : x_Link (xm_o M) idx K) (hroom : xm_fr K + 1 ≤ xm_fr M ∧ 8 + (xm_L K + 11) + xm_lo K ≤ xm_lo M)
    (hkind : (ins = .invokevirtual idx ∧ xm_k K = 1) ∨ (ins = .invokestatic idx ∧ xm_k K = 0) ∨ (ins = .invokespecial idx ∧ xm_k K = 2)) (hn : vs.length = xm_np K + (if xm_k K = 0 then 0 else 1)) (hd : decode (xm_cc M) pc = .ok (ins, 3)) (hst : st = vs.reverse ++ rest) (h8 : (rest.map Value.category).sum ≤ 8)
    (hrecv : x_recv K vs h) (hargs : (x_args vs).length ≤ xm_L K) (hs : x_Sim Pg l D b q base a 0 (x_entry (xm_L K) vs) [] h r h1) (hl2 : h1.length ≤ n') (hz2 : x_sz h1 ≤ z')
    (k : x_Wn p l e R s m args below meth c Qf D b q base (xm_L M) mc ms n' z' (pc + 3) ls (r.toList ++ rest) h1) : x_Wn p l e R s m args below meth c Qf D b q base (xm_L M) mc ms n' z' pc ls st h := by
  intro H locs cells slots lsr hc hsl hr hlv hlocs
  have hM := x_met hPg hK hargs hs
  have hl1 := hs.1
  have hz1 := hs.2.1
  have hG := C.2.2.2.2.1
  have hmc := C.2.2.2.2.2.1
  have hms := C.2.2.2.2.2.2
  obtain ⟨hpl, hcode, hini, ⟨hy1, hy2, hnp⟩, hyo, hkd⟩ := hK
  have hnp' : ∀ sig, parseMethodDescriptor (xm_y K).desc = some sig → xm_np K = sig.parameters.length := fun sig hsig => by
    rw [hsig] at hnp
    exact (Option.some.inj hnp).symm
  have hws : ∀ w ∈ [Jvm.Cond.code (xm_y K) (xm_cc K) (xm_L K) (xm_rt K)], ∀ (a' : Array Value) (U : State), s.WarmedH U.vm → w.before a' U = true := fun w hw a' U hW => by
    rw [List.mem_singleton.mp hw]
    exact hG.at hW hcode a'
  have S : CallFix p m c (xm_cc M) (xm_L M) s args x_TB (x_on (xm_o M)) := ⟨C.1, C.2.1, C.2.2.1, C.2.2.2.1, fun w hw => hG.use hw args⟩
  have hpre : ∀ U : State, U.heap = H → s.WarmedH U.vm → x_Pc D b q base vs h (vs.map (x_cv (x_ad b q base))).toArray U := fun U hU hW => ⟨rfl, hG.warm hW, by rw [hU]; exact hr.moved hW.alike⟩
  have hf : cells + (h1.length - h.length) ≤ R.cells ∧ slots + (x_sz h1 - x_sz h) ≤ R.slots := ⟨by omega, by omega⟩
  have hW8 : 2 * (F0 m pc lsr (st.map (x_cv (x_ad b q base)))).monitorRoom + ((rest.map (x_cv (x_ad b q base))).map fun v => v.category).sum ≤ 8 := by
    rw [x_catsum]
    show 2 * 0 + _ ≤ 8
    omega
  have hR1 : xm_fr K + 1 ≤ R.frames := by rw [hfr]; exact hroom.1
  have hR2 : 8 + (xm_L K + 11) + xm_lo K ≤ R.locals := by rw [hlo]; exact hroom.2
  rcases hkind with ⟨rfl, hk1⟩ | ⟨rfl, hk0⟩ | ⟨rfl, hk2⟩
  · rw [hk1] at hkd hn
    rcases hkd with ⟨z, -⟩ | ⟨-, hinst, hsel, T0, N0, hcl⟩ | ⟨z, -⟩
    · cases z
    · obtain ⟨o, As, fs, rfl, hh⟩ := x_recv_v hk1 hrecv
      obtain ⟨r2, hc2, -, cell, g1, g2, g3, -⟩ := hr.2.2.2.2.2.2 o _ hh
      cases hcl.symm.trans hc2
      have hcB := (hr.2.2.2.2.1 _ _ hcl).2.1
      have hstk : st.map (x_cv (x_ad b q base)) = (As.map (x_cv (x_ad b q base))).reverse ++ .ref (x_ad b q base o) :: rest.map (x_cv (x_ad b q base)) := by
        rw [hst]
        simp [x_cv]
      have hlenA : (As.map (x_cv (x_ad b q base))).length = xm_np K := by simpa using hn
      have hp : PreV s H (xm_y K).cls (x_ad b q base o) (x_Pc D b q base (.ref o :: As) h) (As.map (x_cv (x_ad b q base))) := ⟨x_blind, ⟨cell, g1, by rw [g3]; rfl, by rw [g2]; exact hcB⟩, fun U hU hW => hpre U hU hW⟩
      rcases hlink with hlink | ⟨host, hlink⟩
      · exact x_after (va_runV (n := xm_np K) S hM ⟨⟨rfl, rfl, hR1, hR2, hws, List.mem_singleton.mpr rfl, hG.use hcode _, hG.use hini _, ⟨hy1, hy2⟩, hnp', hG.use hlink _⟩, hG.use hinst _, hG.use hsel _⟩ hp rfl hlenA hlv.1 hstk hW8 hd hf) hc hsl hl1 hl2 hz1 hz2 hlv hlocs k
      · exact x_after (va_runVN (n := xm_np K) S hM ⟨⟨⟨rfl, rfl, hR1, hR2, hws, List.mem_singleton.mpr rfl⟩, hG.use hcode _, hG.use hini _, ⟨hy1, hy2⟩, hnp', hG.use hlink _⟩, hG.use hinst _, hG.use hsel _⟩ hp rfl hlenA hlv.1 hstk hW8 hd hf) hc hsl hl1 hl2 hz1 hz2 hlv hlocs k
    · cases z
  · rw [hk0] at hkd hn
    rcases hkd with ⟨-, hstat⟩ | ⟨z, -⟩ | ⟨z, -⟩
    · have hstk : st.map (x_cv (x_ad b q base)) = (vs.map (x_cv (x_ad b q base))).reverse ++ rest.map (x_cv (x_ad b q base)) := by
        rw [hst]
        simp
      have hlenA : (vs.map (x_cv (x_ad b q base))).length = xm_np K := by simpa using hn
      have hp : PreS s H (x_Pc D b q base vs h) (vs.map (x_cv (x_ad b q base))) := ⟨x_blind, hpre⟩
      rcases hlink with hlink | ⟨host, hlink⟩
      · exact x_after (va_runS (n := xm_np K) S hM ⟨⟨rfl, rfl, hR1, hR2, hws, List.mem_singleton.mpr rfl, hG.use hcode _, hG.use hini _, ⟨hy1, hy2⟩, hnp', hG.use hlink _⟩, hG.use hstat _⟩ hp rfl hlenA hlv.1 hstk hW8 hd hf) hc hsl hl1 hl2 hz1 hz2 hlv hlocs k
      · exact x_after (va_runSN (n := xm_np K) S hM ⟨⟨⟨rfl, rfl, hR1, hR2, hws, List.mem_singleton.mpr rfl⟩, hG.use hcode _, hG.use hini _, ⟨hy1, hy2⟩, hnp', hG.use hlink _⟩, hG.use hstat _, trivial⟩ hp rfl hlenA hlv.1 hstk hW8 hd hf) hc hsl hl1 hl2 hz1 hz2 hlv hlocs k
    · cases z
    · cases z
  · rw [hk2] at hkd hn
    rcases hkd with ⟨z, -⟩ | ⟨z, -⟩ | ⟨-, hname, hinst, hrt⟩
    · cases z
    · cases z
    · obtain ⟨o, As, rfl⟩ := x_recv_i hk2 hrecv
      have hstk : st.map (x_cv (x_ad b q base)) = (As.map (x_cv (x_ad b q base))).reverse ++ .ref (x_ad b q base o) :: rest.map (x_cv (x_ad b q base)) := by
        rw [hst]
        simp [x_cv]
      have hlenA : (As.map (x_cv (x_ad b q base))).length = xm_np K := by simpa using hn
      rw [hrt] at hM hws hcode
      have hp : PreS s H (x_Pc D b q base (.ref o :: As) h) (.ref (x_ad b q base o) :: As.map (x_cv (x_ad b q base))) := ⟨x_blind, fun U hU hW => hpre U hU hW⟩
      rcases hlink with hlink | ⟨host, hlink⟩
      · exact x_after (va_runI (n := xm_np K) S hM ⟨⟨rfl, rfl, hR1, hR2, hws, List.mem_singleton.mpr rfl, hG.use hcode _, hG.use hini _, ⟨hy1, hy2⟩, hnp', hG.use hlink _⟩, hname, hG.use hinst _⟩ hp rfl hlenA hlv.1 hstk hW8 hd hf) hc hsl hl1 hl2 hz1 hz2 hlv hlocs k
      · exact x_after (va_runIN (n := xm_np K) S hM ⟨⟨⟨rfl, rfl, hR1, hR2, hws, List.mem_singleton.mpr rfl⟩, hG.use hcode _, hG.use hini _, ⟨hy1, hy2⟩, hnp', hG.use hlink _⟩, hname, hG.use hinst _⟩ hp rfl hlenA hlv.1 hstk hW8 hd hf) hc hsl hl1 hl2 hz1 hz2 hlv hlocs k
end XO5
