section XO6
variable {Pg : List xM} {LM : List (Nat × Nat × Nat)} {l : Launch} {D : va_G} {b q base : Nat}
def x_SimM (l : Launch) (D : va_G) (b q base : Nat) (M : xM) (pc : Nat) (ls : xL) (st : List Value) (h : xH) (r : Option Value) (h' : xH) : Prop :=
  h.length ≤ h'.length ∧ x_sz h ≤ x_sz h' ∧ (ls.length = xm_L M → ∀ (p : Program) (e : Env) (R : Room) (s : State) (m : MethodId) (args : Array Value) (below : List Frame) (meth : Method) (c : Code) (Qf : State → Prop) (mc ms : Nat), x_Cx p s m c R mc ms (xm_cc M) (x_on (xm_o M)) (xm_L M) → meth.name = (xm_y M).name → R.frames = xm_fr M → R.locals = xm_lo M → x_End p l e R s m args below meth c Qf D b q base mc ms M r h' → x_Wn p l e R s m args below meth c Qf D b q base (xm_L M) mc ms h'.length (x_sz h') pc ls st h)
theorem x_Sim_M {j : Nat} {M : xM} (hM : Pg[j]? = some M) {pc : Nat} {ls : xL} {st : List Value} {h h' : xH} {r : Option Value} (H : x_Sim Pg l D b q base j pc ls st h r h') : x_SimM l D b q base M pc ls st h r h' := ⟨H.1, H.2.1, H.2.2 M hM⟩
theorem x_icmp_W {p : Program} {e : Env} {R : Room} {s : State} {m : MethodId} {args : Array Value} {below : List Frame} {meth : Method} {c : Code} {H : Heap} {locs : List Loc} {cells slots : Nat} {Q : State → Prop} {cc : ByteArray} {pc : Nat} {ls : Array Slot} {rest : List Value} (hexec : p.tables.exec = Jvm.exec) (hb : c.code = cc) {cd : Jvm.ClassFile.Cond} {x y : Int32} {off : Int} {tgt : Nat} (hd : decode cc pc = .ok (.if_icmp cd off, 3)) (ht : (pc : Int) + off = (tgt : Int))
    (kt : x_c cd x y → W p l e R s m args below meth c H locs cells slots Q (F0 m tgt ls rest)) (kf : ¬ x_c cd x y → W p l e R s m args below meth c H locs cells slots Q (F0 m (pc + 3) ls rest)) : W p l e R s m args below meth c H locs cells slots Q (F0 m pc ls (.int y :: .int x :: rest)) := by
  cases cd with
  | eq => exact lv_icmp_eq hexec hb hd ht kt kf
  | ne => exact lv_icmp_ne hexec hb hd ht kt (fun z => kf (fun w => w z))
  | lt => exact lv_icmp_lt hexec hb hd ht kt kf
  | ge => exact lv_icmp_ge hexec hb hd ht kt kf
  | gt => exact lv_icmp_gt hexec hb hd ht kt kf
  | le => exact lv_icmp_le hexec hb hd ht kt kf
theorem x_if_W {p : Program} {e : Env} {R : Room} {s : State} {m : MethodId} {args : Array Value} {below : List Frame} {meth : Method} {c : Code} {H : Heap} {locs : List Loc} {cells slots : Nat} {Q : State → Prop} {cc : ByteArray} {pc : Nat} {ls : Array Slot} {rest : List Value} (hexec : p.tables.exec = Jvm.exec) (hb : c.code = cc) {cd : Jvm.ClassFile.Cond} {x : Int32} {off : Int} {tgt : Nat} (hd : decode cc pc = .ok (.ifCond cd off, 3)) (ht : (pc : Int) + off = (tgt : Int))
    (kt : x_c cd x 0 → W p l e R s m args below meth c H locs cells slots Q (F0 m tgt ls rest)) (kf : ¬ x_c cd x 0 → W p l e R s m args below meth c H locs cells slots Q (F0 m (pc + 3) ls rest)) : W p l e R s m args below meth c H locs cells slots Q (F0 m pc ls (.int x :: rest)) := by
  cases cd with
  | eq => exact lv_if_eq hexec hb hd ht kt kf
  | ne => exact lv_if_ne hexec hb hd ht kt (fun z => kf (fun w => w z))
  | lt => exact lv_if_lt hexec hb hd ht kt kf
  | ge => exact lv_if_ge hexec hb hd ht kt kf
  | gt => exact lv_if_gt hexec hb hd ht kt kf
  | le => exact lv_if_le hexec hb hd ht kt kf
/-- both ways of a branch: lengths from the one that is taken -/
theorem x_both {P : Prop} {A : Prop} (h1 : P → A) (h2 : ¬ P → A) : A := (Classical.em P).elim h1 h2
theorem x_lookup_in (ps : List (Int × Int)) (d x : Int) : Op.lookupswitch.offset ps d x = d ∨ ∃ o ∈ ps, Op.lookupswitch.offset ps d x = o.2 := by
  induction ps with
  | nil => exact Or.inl rfl
  | cons a t ih =>
    rw [Op.lookupswitch.offset_cons]
    by_cases hx : x = a.1
    · exact Or.inr ⟨a, List.mem_cons_self, by simp [hx]⟩
    · have hx' : ¬ a.1 = x := fun z => hx z.symm
      rcases ih with ih | ⟨o, ho, ih⟩
      · exact Or.inl (by simp [hx, hx', ih])
      · exact Or.inr ⟨o, List.mem_cons_of_mem _ ho, by simp [hx, hx', ih]⟩
theorem x_callM (HL : ∀ z ∈ LM, ∃ K, Pg[z.2.2]? = some K ∧ x_MOK K ∧ x_Link z.1 z.2.1 K) {M : xM} {r : Option Value} {h' : xH} {ins : Instr} {a b0 idx kd pc : Nat} {ls : xL} {st : List Value} {h : xH} {kn : Nat → xL → List Value → xH → Prop} (hd : decode (xm_cc M) pc = .ok (ins, 3)) (hx : x_okCall Pg LM M kd idx a b0 = true) (hkd : (ins = .invokevirtual idx ∧ kd = 1) ∨ (ins = .invokestatic idx ∧ kd = 0) ∨ (ins = .invokespecial idx ∧ kd = 2))
    (H : x_call Pg (x_Sim Pg l D b q base) kn (ins, 3, a, b0) pc ls st h) (ih : ∀ (ls : xL) (st : List Value) (h : xH), kn (pc + 3) ls st h → x_SimM l D b q base M (pc + 3) ls st h r h') : x_SimM l D b q base M pc ls st h r h' := by
  obtain ⟨h1, h2, r1, hh1, hcal, hk⟩ := H
  dsimp only at h1 h2 hcal hk
  have ih2 := ih _ _ _ hk
  unfold x_calX at hcal
  split at hcal
  · rename_i K hK
    obtain ⟨hrecv, hargs, hs⟩ := hcal
    unfold x_okCall at hx
    rw [hK] at hx
    simp only [Bool.and_eq_true, decide_eq_true_eq] at hx
    obtain ⟨hin, ⟨⟨hf1, hf2⟩, hf3⟩, hf4⟩ := hx
    obtain ⟨K', hK', hMOK, hlink⟩ := HL _ hin
    cases hK.symm.trans hK'
    refine ⟨Nat.le_trans hs.1 ih2.1, Nat.le_trans hs.2.1 ih2.2.1, fun hL p e R s m args below meth c Qf mc ms C hmn hfr hlo hE => ?_⟩
    refine x_call_sim C hfr hlo hK hMOK hlink ⟨hf1, hf2⟩ (hf3 ▸ hkd) (by rw [hf3, ← hf4]; simp; omega) hd (rest := st.drop b0) (vs := (st.take b0).reverse) (by rw [List.reverse_reverse, List.take_append_drop]) h2 hrecv hargs hs ih2.1 ih2.2.1 (ih2.2.2 hL p e R s m args below meth c Qf mc ms C hmn hfr hlo hE)
  · exact hcal.elim
set_option maxHeartbeats 4000000 in
theorem x_sim_list (HL : ∀ z ∈ LM, ∃ K, Pg[z.2.2]? = some K ∧ x_MOK K ∧ x_Link z.1 z.2.1 K) {j : Nat} {M : xM} (hM : Pg[j]? = some M) {r : Option Value} {h' : xH} : ∀ (is : List xI) (pc : Nat) (ls : xL) (st : List Value) (h : xH), x_okB Pg LM M pc is = true → x_ev x_nm x_tf x_fn Pg (x_Sim Pg l D b q base) j (xm_rt M) r h' is pc ls st h → x_SimM l D b q base M pc ls st h r h'
  | [], pc, ls, st, h, _, H => x_Sim_M hM H
  | i :: is, pc, ls, st, h, hok, H => by
    have ih := x_sim_list HL hM (r := r) (h' := h') is
    obtain ⟨ins, n, a, b0⟩ := i
    unfold x_okB at hok
    rw [Bool.and_eq_true] at hok
    obtain ⟨hok, hrest⟩ := hok
    dsimp only at hrest
    replace H : x_one x_nm x_tf x_fn Pg (x_Sim Pg l D b q base) j (xm_rt M) r h' (x_ev x_nm x_tf x_fn Pg (x_Sim Pg l D b q base) j (xm_rt M) r h' is) (ins, n, a, b0) pc ls st h := H
    unfold x_one at H
    by_cases hc : x_ctl (ins, n, a, b0) = false
    · rw [if_pos hc] at H
      split at H
      · rename_i z hz
        obtain ⟨ls2, st2, h2⟩ := z
        have ih := ih (pc + n) ls2 st2 h2 hrest H
        obtain ⟨e1, e2, e3⟩ := x_op_len hz
        refine ⟨Nat.le_trans e2 ih.1, Nat.le_trans e3 ih.2.1, fun hL p e R s m args below meth c Qf mc ms C hmn hfr hlo hE => ?_⟩
        exact x_op_sim C hmn hfr hlo hok hL hc hz ih.1 ih.2.1 (ih.2.2 (e1.trans hL) p e R s m args below meth c Qf mc ms C hmn hfr hlo hE)
      · exact H.elim
    · rw [if_neg hc] at H
      dsimp only at H
      unfold x_okI at hok
      simp only [Bool.and_eq_true, decide_eq_true_eq] at hok
      obtain ⟨⟨hd, hn⟩, hx⟩ := hok
      try dsimp only at hd hn hx
      split at H
      · obtain rfl := hn.resolve_left (by simp [x_len])
        have HX := x_Sim_M hM H
        refine ⟨HX.1, HX.2.1, fun hL p e R s m args below meth c Qf mc ms C hmn hfr hlo hE => ?_⟩
        have kk := HX.2.2 hL p e R s m args below meth c Qf mc ms C hmn hfr hlo hE
        exact x_Wn_s kk fun H locs cells slots lsr hr hl k => lv_goto C.1 C.2.1 hd (of_decide_eq_true hx) k
      · obtain rfl := hn.resolve_left (by simp [x_len])
        split at H
        · rename_i cd off x st
          refine ⟨x_both (fun z => (H.1 z).1) (fun z => (ih _ _ _ _ hrest (H.2 z)).1), x_both (fun z => (H.1 z).2.1) (fun z => (ih _ _ _ _ hrest (H.2 z)).2.1), fun hL p e R s m args below meth c Qf mc ms C hmn hfr hlo hE => ?_⟩
          intro Hh locs cells slots lsr u1 u2 u3 u4 u5
          exact x_if_W C.1 C.2.1 hd (of_decide_eq_true hx) (fun z => (x_Sim_M hM (H.1 z)).2.2 hL p e R s m args below meth c Qf mc ms C hmn hfr hlo hE Hh locs cells slots lsr u1 u2 u3 u4 u5) (fun z => (ih _ _ _ _ hrest (H.2 z)).2.2 hL p e R s m args below meth c Qf mc ms C hmn hfr hlo hE Hh locs cells slots lsr u1 u2 u3 u4 u5)
        · exact H.elim
      · obtain rfl := hn.resolve_left (by simp [x_len])
        split at H
        · rename_i cd off y x st
          refine ⟨x_both (fun z => (H.1 z).1) (fun z => (ih _ _ _ _ hrest (H.2 z)).1), x_both (fun z => (H.1 z).2.1) (fun z => (ih _ _ _ _ hrest (H.2 z)).2.1), fun hL p e R s m args below meth c Qf mc ms C hmn hfr hlo hE => ?_⟩
          intro Hh locs cells slots lsr u1 u2 u3 u4 u5
          exact x_icmp_W C.1 C.2.1 hd (of_decide_eq_true hx) (fun z => (x_Sim_M hM (H.1 z)).2.2 hL p e R s m args below meth c Qf mc ms C hmn hfr hlo hE Hh locs cells slots lsr u1 u2 u3 u4 u5) (fun z => (ih _ _ _ _ hrest (H.2 z)).2.2 hL p e R s m args below meth c Qf mc ms C hmn hfr hlo hE Hh locs cells slots lsr u1 u2 u3 u4 u5)
        · exact H.elim
      · split at H
        · rename_i d lo hi offs _ x st
          dsimp only at hx
          simp only [Bool.and_eq_true, decide_eq_true_eq, List.all_eq_true] at hx
          refine ⟨x_both (fun z => (H.1 z).1) (fun z => by obtain ⟨o, -, ho⟩ := H.2 z; exact ho.1), x_both (fun z => (H.1 z).2.1) (fun z => by obtain ⟨o, -, ho⟩ := H.2 z; exact ho.2.1), fun hL p e R s m args below meth c Qf mc ms C hmn hfr hlo hE => ?_⟩
          intro Hh locs cells slots lsr u1 u2 u3 u4 u5
          by_cases hz : x.toInt < lo ∨ hi < x.toInt
          · exact lv_tableOut C.1 C.2.1 hd hz (Int.toNat_of_nonneg hx.1).symm ((x_Sim_M hM (H.1 hz)).2.2 hL p e R s m args below meth c Qf mc ms C hmn hfr hlo hE Hh locs cells slots lsr u1 u2 u3 u4 u5)
          · obtain ⟨o, ho, HX⟩ := H.2 hz
            have ho2 : 0 ≤ (pc : Int) + o := hx.2 o (Array.mem_toList_iff.mpr (Array.mem_of_getElem? ho))
            exact lv_tableIn C.1 C.2.1 hd (fun z => hz (Or.inl z)) (fun z => hz (Or.inr z)) ho (Int.toNat_of_nonneg ho2).symm ((x_Sim_M hM HX).2.2 hL p e R s m args below meth c Qf mc ms C hmn hfr hlo hE Hh locs cells slots lsr u1 u2 u3 u4 u5)
        · exact H.elim
      · split at H
        · rename_i d ps _ x st
          dsimp only at hx
          simp only [Bool.and_eq_true, decide_eq_true_eq] at hx
          have HX := x_Sim_M hM H
          refine ⟨HX.1, HX.2.1, fun hL p e R s m args below meth c Qf mc ms C hmn hfr hlo hE => ?_⟩
          intro Hh locs cells slots lsr u1 u2 u3 u4 u5
          have hnn : 0 ≤ (pc : Int) + Op.lookupswitch.offset ps.toList d x.toInt := by
            rcases x_lookup_in ps.toList d x.toInt with z | ⟨o, ho, z⟩
            · rw [z]; exact hx.1.2
            · rw [z]; exact of_decide_eq_true (List.all_eq_true.mp hx.2 o ho)
          exact lv_lookup C.1 C.2.1 hd hx.1.1 rfl (Int.toNat_of_nonneg hnn).symm (HX.2.2 hL p e R s m args below meth c Qf mc ms C hmn hfr hlo hE Hh locs cells slots lsr u1 u2 u3 u4 u5)
        · exact H.elim
      · obtain rfl := hn.resolve_left (by simp [x_len])
        split at H
        · rename_i v
          obtain ⟨hrt, rfl, rfl⟩ := H
          refine ⟨Nat.le_refl _, Nat.le_refl _, fun hL p e R s m args below meth c Qf mc ms C hmn hfr hlo hE => ?_⟩
          intro Hh locs cells slots lsr u1 u2 u3 u4 u5
          exact hE Hh locs cells slots pc lsr .ireturn (by omega) (by omega) u3 u5 hd (Or.inl ⟨rfl, v, rfl, hrt⟩)
        · exact H.elim
      · obtain rfl := hn.resolve_left (by simp [x_len])
        split at H
        · rename_i v
          obtain ⟨hrt, rfl, rfl⟩ := H
          refine ⟨Nat.le_refl _, Nat.le_refl _, fun hL p e R s m args below meth c Qf mc ms C hmn hfr hlo hE => ?_⟩
          intro Hh locs cells slots lsr u1 u2 u3 u4 u5
          exact hE Hh locs cells slots pc lsr .lreturn (by omega) (by omega) u3 u5 hd (Or.inr (Or.inl ⟨rfl, hrt, v, rfl⟩))
        · exact H.elim
      · obtain rfl := hn.resolve_left (by simp [x_len])
        obtain ⟨rfl, hrt, rfl, rfl⟩ := H
        refine ⟨Nat.le_refl _, Nat.le_refl _, fun hL p e R s m args below meth c Qf mc ms C hmn hfr hlo hE => ?_⟩
        intro Hh locs cells slots lsr u1 u2 u3 u4 u5
        exact hE Hh locs cells slots pc lsr .return_ (by omega) (by omega) u3 u5 hd (Or.inr (Or.inr ⟨rfl, hrt, rfl⟩))
      · obtain rfl := hn.resolve_left (by simp [x_len])
        exact x_callM HL hd hx (Or.inl ⟨rfl, rfl⟩) H (fun ls st h hk => ih _ ls st h hrest hk)
      · obtain rfl := hn.resolve_left (by simp [x_len])
        have ha : a < 1000 := by simpa [x_ctl] using hc
        dsimp only at hx
        rw [if_pos ha] at hx
        exact x_callM HL hd hx (Or.inr (Or.inl ⟨rfl, rfl⟩)) H (fun ls st h hk => ih _ ls st h hrest hk)
      · obtain rfl := hn.resolve_left (by simp [x_len])
        have ha : a < 1000 := by simpa [x_ctl] using hc
        dsimp only at hx
        rw [if_pos ha] at hx
        exact x_callM HL hd hx (Or.inr (Or.inr ⟨rfl, rfl⟩)) H (fun ls st h hk => ih _ ls st h hrest hk)
      · exact H.elim
/-- OUR MACHINE IS FOLLOWED -/
theorem x_followed (HL : ∀ z ∈ LM, ∃ K, Pg[z.2.2]? = some K ∧ x_MOK K ∧ x_Link z.1 z.2.1 K) (HB : ∀ (j : Nat) (M : xM), Pg[j]? = some M → ∀ z ∈ xm_bl M, x_okB Pg LM M z.1 z.2 = true) {j pc : Nat} {ls : xL} {st : List Value} {h h' : xH} {r : Option Value} (H : x_Ev x_nm x_tf x_fn Pg j pc ls st h r h') : x_Sim Pg l D b q base j pc ls st h r h' := by
  refine H _ (fun j pc ls st h r h' HX => ?_)
  obtain ⟨M, is, hM, hf, HX⟩ := HX
  unfold x_find at hf
  cases hz : (xm_bl M).find? (fun q => q.1 == pc) with
  | none => rw [hz] at hf; cases hf
  | some z =>
    rw [hz] at hf
    cases hf
    have h1 := List.mem_of_find?_eq_some hz
    have h2 := List.find?_some hz
    have h3 : z.1 = pc := by simpa using h2
    have h4 := HB j M hM z h1
    rw [h3] at h4
    have h5 := x_sim_list HL hM _ _ _ _ _ h4 HX
    refine ⟨h5.1, h5.2.1, fun M' hM' => ?_⟩
    cases hM.symm.trans hM'
    exact h5.2.2
end XO6
