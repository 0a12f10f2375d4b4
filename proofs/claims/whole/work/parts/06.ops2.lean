/-! fields written, cells made, rows copied -/
theorem x_clF {ci : Nat} {r : vw_C} (hc : vwCl[ci]? = some r) : Jvm.Cond.instantiable r.1 r.2.2 ∈ x_TB ∧ Jvm.Cond.initialized r.1 ∈ x_TB ∧ (∀ w ∈ u_ws r.1 r.2.1 r.2.2, w ∈ x_TB) ∧ ∀ k, k < r.2.2 → parseFieldDescriptor (r.2.1 k).2.2.1 = some (x_tf ci k) := by
  have hl := (List.getElem?_eq_some_iff.mp hc).1
  have h1 : ci ∈ xLVp.map (fun q => q.1) := by rw [xLV_nums]; exact List.mem_range.mpr hl
  obtain ⟨q, hq, hqc⟩ := List.mem_map.mp h1
  have h2 := List.all_eq_true.mp xLV_ok q hq
  unfold x_okV at h2
  rw [hqc, hc] at h2
  simp only [Bool.and_eq_true, List.all_eq_true, List.mem_range, decide_eq_true_eq] at h2
  refine ⟨x_has_in h2.1.1.1, x_has_in h2.1.1.2, fun w hw => ?_, fun k hk => (h2.2 k hk).2⟩
  obtain ⟨k, hk, hkw⟩ := List.mem_map.mp hw
  rw [← hkw]
  exact x_has_in (h2.2 k (List.mem_range.mp hk)).1
theorem x_narrow_cv (ad : Nat → Nat) {ty : FieldType} {v : Value} (h : x_fit ty v = true) : narrow ty (x_cv ad v) = x_cv ad v ∧ fits ty (x_cv ad v) = true := by
  unfold x_fit at h
  simp only [Bool.and_eq_true, decide_eq_true_eq] at h
  cases v with
  | ref k =>
    refine ⟨?_, ?_⟩
    · cases ty <;> rfl
    · cases ty <;> first | rfl | (have := h.2; simp [fits] at this)
  | _ => exact h
section XO2
variable {p : Program} {l : Launch} {e : Env} {R : Room} {s : State} {m : MethodId} {args : Array Value} {below : List Frame} {meth : Method} {c : Code} {Qf : State → Prop} {D : va_G} {b q base L mc ms n' z' : Nat} {cc : ByteArray} {own : String}
variable {pc pc' : Nat} {ls ls2 : xL} {st st2 : List Value} {h h2 : xH}
theorem x_apart (hG : x_GW s) (hK : x_K D s) {ci : Nat} {r : vw_C} (hc : vwCl[ci]? = some r) : ∀ x y, x < r.2.2 → y < r.2.2 → x ≠ y → (D.2 ci) x ≠ (D.2 ci) y := by
  intro x y hx hy hne
  obtain ⟨hS, -⟩ := hK ci _ hc
  obtain ⟨-, -, hin, hty⟩ := x_clF hc
  have hts : ∀ w ∈ x_TB, w.before #[] s = true := hG
  obtain ⟨_, _, _, fa, hia, ea⟩ := hS x hx
  obtain ⟨_, _, _, fb, hib, eb⟩ := hS y hy
  rw [← ea, ← eb]
  refine u_apart (u_lays hts hin hx) (u_lays hts hin hy) hia hib ?_
  rw [(State.fieldFound?_type hia (hty x hx)).1, (State.fieldFound?_type hib (hty y hy)).1]
  exact x_nmd ci r hc x hx y hy hne
theorem x_s_putf (C : x_Cx p s m c R mc ms cc own L) {a k0 idx : Nat} {r : vw_C} (hc : vwCl[a]? = some r) (hk0 : k0 < r.2.2) (hlink : Jvm.Cond.fieldLink own idx (r.2.1 k0).1 (r.2.1 k0).2.1 (r.2.1 k0).2.2.1 ∈ x_TB) (hfin : (r.2.1 k0).2.2.2 = false ∨ (meth.name = "<init>" ∧ (r.2.1 k0).1 = own)) (hd : decode cc pc = .ok (.putfield idx, 3)) (ho : x_putf x_tf a k0 ls st h = some (ls2, st2, h2)) (k : x_Wn p l e R s m args below meth c Qf D b q base L mc ms n' z' (pc + 3) ls2 st2 h2) : x_Wn p l e R s m args below meth c Qf D b q base L mc ms n' z' pc ls st h := by
  unfold x_putf at ho
  split at ho
  · rename_i v o st
    split at ho
    · rename_i ho2
      split at ho
      · rename_i ci fs hh
        split at ho
        · rename_i hci
          obtain ⟨rfl, hkl, hfit⟩ := hci
          cases ho
          intro H locs cells slots lsr h1 h2 hr hl h5
          obtain ⟨-, -, hin, hty⟩ := x_clF hc
          have hts : ∀ w ∈ x_TB, w.before args s = true := fun w hw => C.2.2.2.2.1.use hw args
          have hap := x_apart C.2.2.2.2.1 hr.2.2.2.2.1 hc
          obtain ⟨r', h1', hlen, cell, q1, q2, q3, q4⟩ := hr.2.2.2.2.2.2 o _ hh
          cases hc.symm.trans h1'
          obtain ⟨hS, hfc, kC, hkC, hkind⟩ := hr.2.2.2.2.1 _ _ hc
          obtain ⟨cf, kf, fi, f, hi, hsl⟩ := hS k0 hk0
          have hlay := hts _ (hin _ (u_in_lay hk0))
          have hst := (u_facts hfc hkC (u_lays hts hin hk0) hi).1
          obtain ⟨hn, hft⟩ := x_narrow_cv (x_ad b q base) hfit
          have key : ∀ H' : Heap, H'[x_ad b q base o]? = some (cell.setSlot f.slot (x_cv (x_ad b q base) v)) → H'.size = H.size → (∀ z, z ≠ x_ad b q base o → H'[z]? = H[z]?) → W p l e R s m args below meth c H' (locs ++ [⟨x_ad b q base o, f.slot⟩]) cells slots Qf (F0 m (pc + 3) lsr (st2.map (x_cv (x_ad b q base)))) := by
            intro H' e1 e2 e3
            rw [hsl] at e1
            refine k H' _ cells slots lsr (by rw [List.length_set]; exact h1) (by rw [x_sz_set hh (by simp [x_size])]; exact h2) (hr.set hh ho2 ⟨r, hc, by rw [List.length_set]; exact hlen, ?_⟩ e2 e3) hl ?_
            · rw [List.map_set]
              exact t_OB.to (V := updV (vp_V (fs.map (x_cv (x_ad b q base)))) k0 (x_cv (x_ad b q base) v)) ⟨_, e1, q2, q3, t_set q4 hap hk0 _⟩ (fun j _ => vp_updV_set (by simpa using hkl) _ j)
            · intro z hz
              rcases List.mem_append.mp hz with hz | hz
              · exact h5 z hz
              · rw [List.mem_singleton.mp hz]; exact x_ad_ge ho2
          by_cases hff : (r.2.1 k0).2.2.2 = true
          · unfold u_lay at hlay
            rw [if_pos hff] at hlay
            rcases hfin with hfin | ⟨hin2, hdecl⟩
            · rw [hfin] at hff; cases hff
            have hcf : m.cls = cf := by
              obtain ⟨_, _, c', _, _, _, -, -, hf', -, -, -, hown2, -⟩ := Cond.laysFinal_spec hlay
              have e1 : c' = cf := by have := hi.symm.trans hf'; simp at this; exact this.1.symm
              rw [hdecl] at hown2
              rw [← e1]; exact Option.some.inj (C.2.2.2.1.symm.trans hown2)
            have h6 := u_fits hfc hkC hkind (Or.inr hlay) hi (hty k0 hk0) hn hft
            exact W.putFinK C.1 C.2.1 C.2.2.2.1 (hts _ hlink) hi hst hcf hin2 (by rw [q2]; exact h6) q1 q3 (by rw [hsl]; exact k2_hasslot (q4 k0 hk0)) rfl rfl hd key
          · unfold u_lay at hlay
            rw [if_neg hff] at hlay
            have h6 := u_store hfc hkC hkind hlay hi (hty k0 hk0) hn hft
            exact W.putK C.1 C.2.1 (f := f) ⟨C.2.2.2.1, hts _ hlink, ⟨_, _, _, hi⟩, hst⟩ (by rw [q2]; exact h6) q1 q3 (by rw [hsl]; exact k2_hasslot (q4 k0 hk0)) rfl rfl hd key
        · cases ho
      · cases ho
    · cases ho
  · cases ho
theorem x_s_new (C : x_Cx p s m c R mc ms cc own L) {a idx : Nat} {r : vw_C} (hc : vwCl[a]? = some r) (hlink : Jvm.Cond.classLink own idx r.1 ∈ x_TB) (hn' : h.length + 1 ≤ n') (hz' : x_sz h + x_fn a ≤ z') (hd : decode cc pc = .ok (.new idx, 3)) (k : x_Wn p l e R s m args below meth c Qf D b q base L mc ms n' z' (pc + 3) ls (.ref h.length :: st) (h ++ [.inr (a, (List.range (x_fn a)).map (fun k => defaultValue (x_tf a k)))])) : x_Wn p l e R s m args below meth c Qf D b q base L mc ms n' z' pc ls st h := by
  intro H locs cells slots lsr h1 h2 hr hl h5
  obtain ⟨hins, hini, hin, hty⟩ := x_clF hc
  have hfn : x_fn a = r.2.2 := by unfold x_fn; rw [hc]
  rw [hfn] at hz' k
  have hts : ∀ w ∈ x_TB, w.before args s = true := fun w hw => C.2.2.2.2.1.use hw args
  have hKn := hr.2.2.2.2.1 _ _ hc
  have hmc := C.2.2.2.2.2.1
  have hms := C.2.2.2.2.2.2
  refine W.newcK C.1 C.2.1 C.2.2.2.1 (hts _ hlink) (hts _ hins) (hts _ hini) rfl hd (by omega) (by omega) hKn.2.1 rfl fun H1 kC hkC e1 z1 o1 => ?_
  have hsz := x_sz_push h (.inr (a, (List.range r.2.2).map (fun k => defaultValue (x_tf a k))))
  have hsz1 : x_size (.inr (a, (List.range r.2.2).map (fun k => defaultValue (x_tf a k)))) = r.2.2 := by simp [x_size]
  have hlen : (h ++ [(.inr (a, (List.range r.2.2).map (fun k => defaultValue (x_tf a k))) : xE)]).length = h.length + 1 := by simp
  have := k H1 locs (cells + 1) (slots + r.2.2) lsr (by rw [hlen]; omega) (by rw [hsz, hsz1]; omega) (hr.push ⟨r, hc, by simp, (u_born (x_tf a) hts hin hKn hkC e1 hty).to (fun j hj => ?_)⟩ z1 o1) hl h5
  · have e2 : x_cv (x_ad b q base) (.ref h.length) = .ref H.size := by
      show Value.ref (x_ad b q base h.length) = _
      rw [x_ad_len hr.2.2.1 hr.2.2.2.1]
    rw [List.map_cons, e2] at this
    exact this
  · simp only [vp_V, List.map_map, List.getD_eq_getElem?_getD, List.getElem?_map, List.getElem?_range hj, Option.map_some, Option.getD_some, Function.comp]
    cases x_tf a j <;> rfl
theorem x_cv_default (ad : Nat → Nat) (ty : FieldType) : x_cv ad (defaultValue ty) = defaultValue ty := by cases ty <;> rfl
theorem x_s_newa (C : x_Cx p s m c R mc ms cc own L) {t : ArrayType} (hw : Jvm.Cond.arrayClass (newarray.typeOf t) ∈ x_TB) (ht : t = .int ∨ t = .long) (hn' : h2.length ≤ n') (hz' : x_sz h2 ≤ z') (hd : decode cc pc = .ok (.newarray t, 2)) (ho : x_newa (newarray.typeOf t) ls st h = some (ls2, st2, h2)) (k : x_Wn p l e R s m args below meth c Qf D b q base L mc ms n' z' (pc + 2) ls2 st2 h2) : x_Wn p l e R s m args below meth c Qf D b q base L mc ms n' z' pc ls st h := by
  unfold x_newa at ho
  split at ho
  · rename_i n st
    split at ho
    · rename_i hci
      obtain ⟨hn0, hn1⟩ := hci
      cases ho
      intro H locs cells slots lsr h1 h2 hr hl h5
      have hmc := C.2.2.2.2.2.1
      have hms := C.2.2.2.2.2.2
      rw [x_sz_push] at hz'
      rw [List.length_append] at hn'
      have hsz1 : x_size (.inl (newarray.typeOf t, List.replicate n.toNatClampNeg (defaultValue (newarray.typeOf t))) : xE) = n.toNatClampNeg := by simp [x_size]
      rw [hsz1] at hz'
      simp only [List.length_cons, List.length_nil] at hn'
      refine W.newaK C.1 C.2.1 (C.2.2.2.2.1.use hw _) rfl hd rfl hn0 rfl (by rcases ht with rfl | rfl <;> simp only [newarray.typeOf, componentBytes] <;> omega) (by omega) (by omega) rfl fun H1 cA e1 z1 o1 hA => ?_
      have := k H1 locs (cells + 1) (slots + n.toNatClampNeg) lsr (by simp only [List.length_append, List.length_cons, List.length_nil]; omega) (by rw [x_sz_push, hsz1]; omega) (hr.push ⟨_, e1, hA _ _, (fun z => by cases z), ?_, ?_⟩ z1 o1) hl h5
      · have e2 : x_cv (x_ad b q base) (.ref h.length) = .ref H.size := by
          show Value.ref (x_ad b q base h.length) = _
          rw [x_ad_len hr.2.2.1 hr.2.2.2.1]
        rw [List.map_cons, e2] at this
        exact this
      · refine ⟨by rw [arrV_size, List.length_replicate]; exact Nat.le_refl _, by rw [arrV_size, List.length_replicate], fun j v hj => ?_⟩
        have hl := (List.getElem?_eq_some_iff.mp hj).1
        rw [List.length_replicate] at hl
        rw [List.getElem?_replicate, if_pos hl] at hj
        cases hj
        rw [arrV_read _ _ hl, x_cv_default]
      · intro Cn hC
        rcases ht with rfl | rfl <;> cases hC
    · cases ho
  · cases ho
theorem x_s_anew (C : x_Cx p s m c R mc ms cc own L) {Cn : String} {idx : Nat} (hlink : Jvm.Cond.classLink own idx Cn ∈ x_TB) (hover : Jvm.Cond.arrayOver (.object Cn) ∈ x_TB) (hn' : h2.length ≤ n') (hz' : x_sz h2 ≤ z') (hd : decode cc pc = .ok (.anewarray idx, 3)) (ho : x_newa (.object Cn) ls st h = some (ls2, st2, h2)) (k : x_Wn p l e R s m args below meth c Qf D b q base L mc ms n' z' (pc + 3) ls2 st2 h2) : x_Wn p l e R s m args below meth c Qf D b q base L mc ms n' z' pc ls st h := by
  unfold x_newa at ho
  split at ho
  · rename_i n st
    split at ho
    · rename_i hci
      obtain ⟨hn0, hn1⟩ := hci
      cases ho
      intro H locs cells slots lsr h1 h2 hr hl h5
      have hmc := C.2.2.2.2.2.1
      have hms := C.2.2.2.2.2.2
      rw [x_sz_push] at hz'
      rw [List.length_append] at hn'
      have hsz1 : x_size (.inl (.object Cn, List.replicate n.toNatClampNeg (defaultValue (.object Cn))) : xE) = n.toNatClampNeg := by simp [x_size]
      rw [hsz1] at hz'
      simp only [List.length_cons, List.length_nil] at hn'
      refine W.anew C.1 C.2.1 C.2.2.2.1 (C.2.2.2.2.1.use hlink _) (C.2.2.2.2.1.use hover _) rfl hd rfl hn0 (by omega) (by omega) (by omega) fun cA kA comp f1 f2 f3 f4 => ?_
      have := k (H.push ({ cls := cA, slots := Array.replicate n.toNatClampNeg .null, vm := .none } : Cell)) locs (cells + 1) (slots + n.toNatClampNeg) lsr (by simp only [List.length_append, List.length_cons, List.length_nil]; omega) (by rw [x_sz_push, hsz1]; omega) (hr.push ⟨_, Array.getElem?_push_size, ⟨(fun k hk => by cases hk), kA, f2, comp, f3⟩, (fun z => by cases z), ?_, ?_⟩ (by rw [Array.size_push]) (fun z hz => by rw [Array.getElem?_push, if_neg (Nat.ne_of_lt hz)])) hl h5
      · have e2 : x_cv (x_ad b q base) (.ref h.length) = .ref H.size := by
          show Value.ref (x_ad b q base h.length) = _
          rw [x_ad_len hr.2.2.1 hr.2.2.2.1]
        rw [List.map_cons, e2] at this
        exact this
      · refine ⟨by simp, by simp, fun j v hj => ?_⟩
        have hl := (List.getElem?_eq_some_iff.mp hj).1
        rw [List.length_replicate] at hl
        rw [List.getElem?_replicate, if_pos hl] at hj
        cases hj
        simp [hl, defaultValue, x_cv]
      · intro C2 hC
        cases hC
        exact ⟨kA, comp, f2, f3, f4, f1⟩
    · cases ho
  · cases ho
theorem x_s_obj (C : x_Cx p s m c R mc ms cc own L) {idx : Nat} (hlink : Jvm.Cond.methodLink own idx objectInit ∈ x_TB) (hfr : 1 ≤ R.frames) (hlo : 20 ≤ R.locals) (hd : decode cc pc = .ok (.invokespecial idx, 3)) (ho : x_obj ls st h = some (ls2, st2, h2)) (k : x_Wn p l e R s m args below meth c Qf D b q base L mc ms n' z' (pc + 3) ls2 st2 h2) : x_Wn p l e R s m args below meth c Qf D b q base L mc ms n' z' pc ls st h := by
  unfold x_obj at ho
  split at ho
  · rename_i o st
    split at ho
    · rename_i hs
      cases ho
      refine x_Wn_s k fun H locs cells slots lsr hr hl kk => ?_
      have hcat : ((st2.map (x_cv (x_ad b q base))).map fun v => v.category).sum = (st2.map Value.category).sum := by
        rw [List.map_map]
        congr 1
        exact List.map_congr_left (fun v _ => x_cv_cat _ v)
      exact W.objInit C.1 C.2.1 C.2.2.2.1 (C.2.2.2.2.1.use hlink _) (C.2.2.2.2.1.use xW_obj.1 _) (C.2.2.2.2.1.use xW_obj.2 _) rfl (by rw [C.2.2.1]; exact hl.1) rfl hd hfr (by rw [hcat]; show 2 * 0 + _ + 12 ≤ _; omega) kk
    · cases ho
  · cases ho
theorem x_s_copy (C : x_Cx p s m c R mc ms cc own L) {idx : Nat} (hlink : Jvm.Cond.methodLink own idx arraycopyName ∈ x_TB) (hfr : 1 ≤ R.frames) (hlo : 26 ≤ R.locals) (hd : decode cc pc = .ok (.invokestatic idx, 3)) (ho : x_copy ls st h = some (ls2, st2, h2)) (k : x_Wn p l e R s m args below meth c Qf D b q base L mc ms n' z' (pc + 3) ls2 st2 h2) : x_Wn p l e R s m args below meth c Qf D b q base L mc ms n' z' pc ls st h := by
  unfold x_copy at ho
  split at ho
  · rename_i n dp d sp sr st
    split at ho
    · rename_i t vs t' ws hs hdd
      split at ho
      · rename_i hci
        obtain ⟨hd2, rfl, rfl, rfl, rfl, hn0, hnv, hwv, hfit, hst⟩ := hci
        cases ho
        intro H locs cells slots lsr h1 h2 hr hl h5
        have hcat : ((st2.map (x_cv (x_ad b q base))).map fun v => v.category).sum = (st2.map Value.category).sum := by
          rw [List.map_map]
          congr 1
          exact List.map_congr_left (fun v _ => x_cv_cat _ v)
        obtain ⟨cs, a1, a2, a3, a4, -⟩ := hr.2.2.2.2.2.2 sr _ hs
        obtain ⟨cd, b1, b2, b3, b4, b5⟩ := hr.2.2.2.2.2.2 d _ hdd
        have szs := a4.1
        have szd := b4.1
        rw [hwv] at szd
        obtain ⟨ao, ks, hks, sC, hsk⟩ := a2
        obtain ⟨bo, kd, hkd, dC, hdk⟩ := b2
        have hG := C.2.2.2.2.1
        have nn : n.toInt = (n.toNatClampNeg : Int) := (toNatClampNeg_of_not_neg32 n hn0).symm
        have hz0 : (0 : Int32).toInt = 0 := rfl
        have hz1 : (0 : Int32).toNatClampNeg = 0 := rfl
        intro T hT X
        obtain ⟨vm', X', step⟩ := X.arraycopy C.1 C.2.2.2.1 (hG.use hlink _) (hG.use xW_cpy.1 _) (hG.use xW_cpy.2.1 _) (hG.use xW_cpy.2.2 _) (src := x_ad b q base sr) (dst := x_ad b q base d) (cs := cs) (cd := cd) (srcPos := 0) (destPos := 0) (n := n) (by rw [hT]; exact a1) (by rw [hT]; exact b1) ao bo a3 b3 hks hkd hsk hdk (by simp [refKind]) (by decide) (by decide) hn0
          (by rw [hz0, nn]; omega) (by rw [hz0, nn]; omega)
          (fun vm₁ _ i hi => by
            have hi2 : i < vs.length := by omega
            have e1 : cs.slots.getD ((0 : Int32).toNatClampNeg + i) .null = x_cv (x_ad b q base) vs[i] := by
              rw [hz1, Nat.zero_add, Array.getD_eq_getD_getElem?, a4.2.2 i _ (List.getElem?_eq_getElem hi2)]
              rfl
            have e2 : fits .int vs[i] = true := List.all_eq_true.mp hfit _ (List.getElem_mem hi2)
            rw [e1]
            cases hv : vs[i] <;> rw [hv] at e2 <;> first | exact ⟨rfl, trivial⟩ | simp [fits] at e2)
          (g := F0 m pc lsr (.int n :: .int 0 :: .ref (x_ad b q base d) :: .int 0 :: .ref (x_ad b q base sr) :: st2.map (x_cv (x_ad b q base)))) rfl (by rw [C.2.2.1]; exact hl.1) (rest := st2.map (x_cv (x_ad b q base))) rfl (by rw [C.2.1]; exact hd) hfr (by rw [hcat]; show 2 * 0 + _ + (7 + 11) ≤ _; omega)
        have hheap : ((T.setVm vm').setCell (x_ad b q base d) (copied cs cd 0 0 n)).heap = H.setIfInBounds (x_ad b q base d) (copied cs cd 0 0 n) := by rw [← hT]; rfl
        have hlt : x_ad b q base d < H.size := (Array.getElem?_eq_some_iff.mp b1).1
        have hcp : copied cs cd 0 0 n = cd.storeRun 0 (cs.stretch 0 n.toNatClampNeg) := rfl
        have hfacts := Cell.storeRun_facts cd 0 (cs.stretch 0 n.toNatClampNeg)
        have hsl : x_cel (x_ad b q base) vs (cd.storeRun 0 (cs.stretch 0 n.toNatClampNeg)) := by
          refine ⟨by rw [hfacts.2.2.1]; exact szd, by rw [hfacts.2.2.1, b4.2.1, hwv], fun i v hi => ?_⟩
          have hl := (List.getElem?_eq_some_iff.mp hi).1
          rw [Cell.storeRun_get _ _ _ _ (by rw [Cell.stretch_length]; omega), Cell.stretch_length, if_pos (by omega)]
          unfold Cell.stretch
          rw [List.getElem?_map, List.getElem?_range (by omega)]
          simp only [Nat.sub_zero, Nat.zero_add, Option.map_some]
          rw [Array.getD_eq_getD_getElem?, a4.2.2 i v hi]
          rfl
        obtain ⟨t, x1, x2⟩ := k (H.setIfInBounds (x_ad b q base d) (copied cs cd 0 0 n)) _ cells slots lsr (by rw [List.length_set]; exact h1) (by rw [x_sz_set hdd (by simp [x_size, hwv])]; exact h2)
          (hr.set hdd hd2 ⟨copied cs cd 0 0 n, by simp [Array.getElem?_setIfInBounds, hlt], ⟨by rw [hcp, hfacts.2.1]; exact bo, by rw [hcp, hfacts.1]; exact ⟨kd, hkd, dC, hdk⟩⟩, by rw [hcp, hfacts.2.1]; exact b3, by rw [hcp]; exact hsl, fun _ z => by cases z⟩ (by simp) (fun z hz => by simp [Array.getElem?_setIfInBounds, Ne.symm hz])) hl (by
            intro z hz
            rcases List.mem_append.mp hz with hz | hz
            · exact h5 z hz
            · obtain ⟨y, -, hy⟩ := List.mem_map.mp hz
              rw [← hy]
              exact x_ad_ge hd2) _ hheap X'
        exact ⟨t, step t x1, x2⟩
      · cases ho
    · cases ho
  · cases ho
theorem x_s_math (C : x_Cx p s m c R mc ms cc own L) {a idx : Nat} (hlink : Jvm.Cond.methodLink own idx (x_mnm a) ∈ x_TB) (hfr : 1 ≤ R.frames) (hlo : 30 ≤ R.locals) (hd : decode cc pc = .ok (.invokestatic idx, 3)) (ho : x_math a ls st h = some (ls2, st2, h2)) (k : x_Wn p l e R s m args below meth c Qf D b q base L mc ms n' z' (pc + 3) ls2 st2 h2) : x_Wn p l e R s m args below meth c Qf D b q base L mc ms n' z' pc ls st h := by
  have hcat : ∀ st : List Value, ((st.map (x_cv (x_ad b q base))).map fun v => v.category).sum = (st.map Value.category).sum := by
    intro st
    rw [List.map_map]
    congr 1
    exact List.map_congr_left (fun v _ => x_cv_cat _ v)
  have hG := C.2.2.2.2.1
  have hmc := C.2.2.2.2.2.1
  have hms := C.2.2.2.2.2.2
  have hini : (Jvm.Cond.initialized "java/lang/Math").before args s = true := hG.use xW_mth.1 _
  obtain ⟨-, m1, m2, m3, m4, m5, m6, m7, m8⟩ := xW_mth
  unfold x_math at ho
  split at ho
  · rename_i ha
    subst ha
    split at ho
    · split at ho
      · rename_i hs
        cases ho
        intro H locs cells slots lsr u1 u2 u3 u4 u5
        exact va_mmax C.1 C.2.1 (by rw [C.2.2.1]; exact u4.1.symm) C.2.2.2.1 (hG.use hlink _) (hG.use m1 _) hini (hG.use m2 _) hfr (by rw [hcat]; omega) (by omega) (by omega) hd (k H locs cells slots lsr u1 u2 u3 u4 u5)
      · cases ho
    · cases ho
  · split at ho
    · rename_i ha
      subst ha
      split at ho
      · split at ho
        · rename_i hs
          cases ho
          intro H locs cells slots lsr u1 u2 u3 u4 u5
          exact va_mmin C.1 C.2.1 (by rw [C.2.2.1]; exact u4.1.symm) C.2.2.2.1 (hG.use hlink _) (hG.use m3 _) hini (hG.use m4 _) hfr (by rw [hcat]; omega) (by omega) (by omega) hd (k H locs cells slots lsr u1 u2 u3 u4 u5)
        · cases ho
      · cases ho
    · split at ho
      · rename_i ha
        subst ha
        split at ho
        · split at ho
          · rename_i hs
            cases ho
            intro H locs cells slots lsr u1 u2 u3 u4 u5
            exact va_mabs C.1 C.2.1 (by rw [C.2.2.1]; exact u4.1.symm) C.2.2.2.1 (hG.use hlink _) (hG.use m5 _) hini (hG.use m6 _) hfr (by rw [hcat]; omega) (by omega) (by omega) hd (k H locs cells slots lsr u1 u2 u3 u4 u5)
          · cases ho
        · cases ho
      · split at ho
        · rename_i ha
          subst ha
          split at ho
          · split at ho
            · rename_i hs
              cases ho
              intro H locs cells slots lsr u1 u2 u3 u4 u5
              exact va_mmin_long C.1 C.2.1 (by rw [C.2.2.1]; exact u4.1.symm) C.2.2.2.1 (hG.use hlink _) (hG.use m7 _) hini (hG.use m8 _) hfr (by rw [hcat]; omega) (by omega) (by omega) hd (k H locs cells slots lsr u1 u2 u3 u4 u5)
            · cases ho
          · cases ho
        · cases ho
end XO2
