/-! what our machine does, the real one does -/
def x_len (i : Instr) : Nat := match i with
  | .tableswitch _ _ _ _ => 0
  | .lookupswitch _ _ => 0
  | .bipush _ => 2
  | .sipush _ => 3
  | .ldc2_w _ => 3
  | .iload _ => 2
  | .lload _ => 2
  | .aload _ => 2
  | .istore _ => 2
  | .lstore _ => 2
  | .astore _ => 2
  | .iinc _ _ => 3
  | .goto _ => 3
  | .ifCond _ _ => 3
  | .if_icmp _ _ => 3
  | .getfield _ => 3
  | .putfield _ => 3
  | .getstatic _ => 3
  | .newarray _ => 2
  | .anewarray _ => 3
  | .new _ => 3
  | .invokevirtual _ => 3
  | .invokestatic _ => 3
  | .invokespecial _ => 3
  | _ => 1
def x_okT (pc : Nat) (off : Int) (t : Nat) : Bool := decide ((pc : Int) + off = (t : Int))
def x_okL1 (o idx a b : Nat) : Bool := xLFp.any (fun q => decide (q.1 = o) && decide (q.2.1 = idx) && decide (q.2.2.1 = a) && decide (q.2.2.2.1 = b))
def x_okCall (Pg : List xM) (LM : List (Nat × Nat × Nat)) (M : xM) (kd idx a b : Nat) : Bool := decide ((xm_o M, idx, a) ∈ LM) && (match Pg[a]? with
  | some K => decide (xm_fr K + 1 ≤ xm_fr M) && decide (8 + (xm_L K + 11) + xm_lo K ≤ xm_lo M) && decide (xm_k K = kd) && decide (b = xm_np K + (if kd = 0 then 0 else 1))
  | none => false)
def x_okI (Pg : List xM) (LM : List (Nat × Nat × Nat)) (M : xM) (pc : Nat) (i : xI) : Bool :=
  decide (decode (xm_cc M) pc = .ok (i.1, i.2.1)) && decide (x_len i.1 = 0 ∨ i.2.1 = x_len i.1) && (match i.1 with
  | .goto off => x_okT pc off i.2.2.1
  | .ifCond _ off => x_okT pc off i.2.2.1
  | .if_icmp _ off => x_okT pc off i.2.2.1
  | .tableswitch d _ _ offs => decide (0 ≤ (pc : Int) + d) && offs.toList.all (fun o => decide (0 ≤ (pc : Int) + o))
  | .lookupswitch d ps => (ps.toList.zip (ps.toList.drop 1)).all (fun (a, next) => a.1 < next.1) && decide (0 ≤ (pc : Int) + d) && ps.toList.all (fun o => decide (0 ≤ (pc : Int) + o.2))
  | .getfield idx => x_okL1 (xm_o M) idx i.2.2.1 i.2.2.2
  | .putfield idx => x_okL1 (xm_o M) idx i.2.2.1 i.2.2.2 && (match vwCl[i.2.2.1]? with
    | some r => !(r.2.1 i.2.2.2).2.2.2 || (decide ((xm_y M).name = "<init>") && decide ((r.2.1 i.2.2.2).1 = x_on (xm_o M)))
    | none => false)
  | .getstatic idx => xLSp.any (fun q => decide (q.1 = xm_o M) && decide (q.2.1 = idx))
  | .ldc2_w idx => xLJp.any (fun q => decide (q.1 = xm_o M) && decide (q.2.1 = idx) && decide (q.2.2.1 = i.2.2.1))
  | .new idx => xLCp.any (fun q => decide (q.1 = xm_o M) && decide (q.2.1 = idx) && decide (q.2.2.1 = i.2.2.1))
  | .anewarray idx => xLCp.any (fun q => decide (q.1 = xm_o M) && decide (q.2.1 = idx) && decide (q.2.2.1 = i.2.2.1)) && decide (i.2.2.1 = x_ao)
  | .newarray t => decide (t = .int) || decide (t = .long)
  | .invokevirtual idx => x_okCall Pg LM M 1 idx i.2.2.1 i.2.2.2
  | .invokestatic idx => if i.2.2.1 < 1000 then x_okCall Pg LM M 0 idx i.2.2.1 i.2.2.2 else if i.2.2.1 = 1001 then xLYp.any (fun q => decide (q.1 = xm_o M) && decide (q.2.1 = idx)) && decide (1 ≤ xm_fr M) && decide (26 ≤ xm_lo M) else xLTp.any (fun q => decide (q.1 = xm_o M) && decide (q.2.1 = idx) && decide (q.2.2.1 = i.2.2.1)) && decide (1 ≤ xm_fr M) && decide (30 ≤ xm_lo M)
  | .invokespecial idx => if i.2.2.1 < 1000 then x_okCall Pg LM M 2 idx i.2.2.1 i.2.2.2 else xLOp.any (fun q => decide (q.1 = xm_o M) && decide (q.2.1 = idx)) && decide (1 ≤ xm_fr M) && decide (20 ≤ xm_lo M)
  | _ => true)
def x_okB (Pg : List xM) (LM : List (Nat × Nat × Nat)) (M : xM) : Nat → List xI → Bool
  | _, [] => true
  | pc, i :: is => x_okI Pg LM M pc i && x_okB Pg LM M (pc + i.2.1) is
def x_MOK (K : xM) : Prop :=
  plainName (xm_y K).cls = true ∧ Jvm.Cond.code (xm_y K) (xm_cc K) (xm_L K) (xm_rt K) ∈ x_TB ∧ Jvm.Cond.initialized (xm_y K).cls ∈ x_TB ∧ ((xm_y K).cls ≠ "java/lang/invoke/MethodHandle" ∧ (xm_y K).cls ≠ "java/lang/invoke/VarHandle" ∧ (parseMethodDescriptor (xm_y K).desc).map (fun d => d.parameters.length) = some (xm_np K)) ∧ (xm_y K).cls = x_on (xm_o K) ∧
  ((xm_k K = 0 ∧ Jvm.Cond.static (xm_y K) ∈ x_TB) ∨ (xm_k K = 1 ∧ Jvm.Cond.instanceMethod (xm_y K) ∈ x_TB ∧ Jvm.Cond.selects (xm_y K).cls (xm_y K) (xm_y K) ∈ x_TB ∧ ∃ (T : u_T) (N : Nat), vwCl[xm_ci K]? = some ((xm_y K).cls, T, N)) ∨ (xm_k K = 2 ∧ (xm_y K).name = "<init>" ∧ Jvm.Cond.instanceMethod (xm_y K) ∈ x_TB ∧ xm_rt K = none))
def x_Link (o idx : Nat) (K : xM) : Prop := Jvm.Cond.methodLink (x_on o) idx (xm_y K) ∈ x_TB ∨ ∃ host, Jvm.Cond.methodLinkNest (x_on o) idx (xm_y K) host ∈ x_TB
def x_rok (ins : Instr) (rt : Option FieldType) (r : Option Value) : Prop :=
  (ins = .ireturn ∧ ∃ v, r = some (.int v) ∧ (rt = some .int ∨ rt = some .boolean ∧ v &&& 1 = v)) ∨ (ins = .lreturn ∧ rt = some .long ∧ ∃ v, r = some (.long v)) ∨ (ins = .return_ ∧ rt = none ∧ r = none)
def x_End (p : Program) (l : Launch) (e : Env) (R : Room) (s : State) (m : MethodId) (args : Array Value) (below : List Frame) (meth : Method) (c : Code) (Qf : State → Prop) (D : va_G) (b q base mc ms : Nat) (M : xM) (r : Option Value) (h' : xH) : Prop :=
  ∀ (H : Heap) (locs : List Loc) (cells slots pc : Nat) (lsr : Array Slot) (ins : Instr), cells ≤ mc → slots ≤ ms → x_Rel D b q base h' s H → (∀ z ∈ locs, base ≤ z.base) → decode (xm_cc M) pc = .ok (ins, 1) → x_rok ins (xm_rt M) r → W p l e R s m args below meth c H locs cells slots Qf (F0 m pc lsr (r.toList.map (x_cv (x_ad b q base))))
def x_Sim (Pg : List xM) (l : Launch) (D : va_G) (b q base : Nat) : xR := fun j pc ls st h r h' =>
  h.length ≤ h'.length ∧ x_sz h ≤ x_sz h' ∧ ∀ M : xM, Pg[j]? = some M → ls.length = xm_L M → ∀ (p : Program) (e : Env) (R : Room) (s : State) (m : MethodId) (args : Array Value) (below : List Frame) (meth : Method) (c : Code) (Qf : State → Prop) (mc ms : Nat), x_Cx p s m c R mc ms (xm_cc M) (x_on (xm_o M)) (xm_L M) → meth.name = (xm_y M).name → R.frames = xm_fr M → R.locals = xm_lo M → x_End p l e R s m args below meth c Qf D b q base mc ms M r h' → x_Wn p l e R s m args below meth c Qf D b q base (xm_L M) mc ms h'.length (x_sz h') pc ls st h
section XO3
variable {p : Program} {l : Launch} {e : Env} {R : Room} {s : State} {m : MethodId} {args : Array Value} {below : List Frame} {meth : Method} {c : Code} {Qf : State → Prop} {D : va_G} {b q base L mc ms n' z' : Nat} {cc : ByteArray} {own : String}
variable {pc pc' : Nat} {ls ls2 : xL} {st st2 : List Value} {h h2 : xH}
theorem x_s_ii {f : Int32 → Int32 → Int32} (row : ∀ (x y : Int32) (rest : List Value) (H : Heap) (locs : List Loc) (cells slots : Nat) (lsr : Array Slot), W p l e R s m args below meth c H locs cells slots Qf (F0 m (pc + 1) lsr (.int (f x y) :: rest)) → W p l e R s m args below meth c H locs cells slots Qf (F0 m pc lsr (.int y :: .int x :: rest))) (ho : x_ii f ls st h = some (ls2, st2, h2)) (k : x_Wn p l e R s m args below meth c Qf D b q base L mc ms n' z' (pc + 1) ls2 st2 h2) : x_Wn p l e R s m args below meth c Qf D b q base L mc ms n' z' pc ls st h := by
  unfold x_ii at ho
  split at ho
  · cases ho
    exact x_Wn_s k fun H locs cells slots lsr hr hl kk => row _ _ _ H locs cells slots lsr kk
  · cases ho
theorem x_s_iz {f : Int32 → Int32 → Int32} (row : ∀ (x y : Int32) (rest : List Value) (H : Heap) (locs : List Loc) (cells slots : Nat) (lsr : Array Slot), ¬ y = 0 → W p l e R s m args below meth c H locs cells slots Qf (F0 m (pc + 1) lsr (.int (f x y) :: rest)) → W p l e R s m args below meth c H locs cells slots Qf (F0 m pc lsr (.int y :: .int x :: rest))) (ho : x_iz f ls st h = some (ls2, st2, h2)) (k : x_Wn p l e R s m args below meth c Qf D b q base L mc ms n' z' (pc + 1) ls2 st2 h2) : x_Wn p l e R s m args below meth c Qf D b q base L mc ms n' z' pc ls st h := by
  unfold x_iz at ho
  split at ho
  · split at ho
    · cases ho
    · rename_i hy
      cases ho
      exact x_Wn_s k fun H locs cells slots lsr hr hl kk => row _ _ _ H locs cells slots lsr hy kk
  · cases ho
theorem x_s_ll {f : Int64 → Int64 → Int64} (row : ∀ (x y : Int64) (rest : List Value) (H : Heap) (locs : List Loc) (cells slots : Nat) (lsr : Array Slot), W p l e R s m args below meth c H locs cells slots Qf (F0 m (pc + 1) lsr (.long (f x y) :: rest)) → W p l e R s m args below meth c H locs cells slots Qf (F0 m pc lsr (.long y :: .long x :: rest))) (ho : x_ll f ls st h = some (ls2, st2, h2)) (k : x_Wn p l e R s m args below meth c Qf D b q base L mc ms n' z' (pc + 1) ls2 st2 h2) : x_Wn p l e R s m args below meth c Qf D b q base L mc ms n' z' pc ls st h := by
  unfold x_ll at ho
  split at ho
  · cases ho
    exact x_Wn_s k fun H locs cells slots lsr hr hl kk => row _ _ _ H locs cells slots lsr kk
  · cases ho
theorem x_s_li {f : Int64 → Int32 → Int64} (row : ∀ (x : Int64) (y : Int32) (rest : List Value) (H : Heap) (locs : List Loc) (cells slots : Nat) (lsr : Array Slot), W p l e R s m args below meth c H locs cells slots Qf (F0 m (pc + 1) lsr (.long (f x y) :: rest)) → W p l e R s m args below meth c H locs cells slots Qf (F0 m pc lsr (.int y :: .long x :: rest))) (ho : x_li f ls st h = some (ls2, st2, h2)) (k : x_Wn p l e R s m args below meth c Qf D b q base L mc ms n' z' (pc + 1) ls2 st2 h2) : x_Wn p l e R s m args below meth c Qf D b q base L mc ms n' z' pc ls st h := by
  unfold x_li at ho
  split at ho
  · cases ho
    exact x_Wn_s k fun H locs cells slots lsr hr hl kk => row _ _ _ H locs cells slots lsr kk
  · cases ho
theorem x_okL1_in {o idx a b : Nat} (h : x_okL1 o idx a b = true) : ∃ r : vw_C, vwCl[a]? = some r ∧ b < r.2.2 ∧ Jvm.Cond.fieldLink (x_on o) idx (r.2.1 b).1 (r.2.1 b).2.1 (r.2.1 b).2.2.1 ∈ x_TB := by
  unfold x_okL1 at h
  obtain ⟨z, hz, h⟩ := List.any_eq_true.mp h
  simp only [Bool.and_eq_true, decide_eq_true_eq] at h
  obtain ⟨⟨⟨rfl, rfl⟩, rfl⟩, rfl⟩ := h
  have h2 := List.all_eq_true.mp xLF_ok z hz
  unfold x_okF at h2
  split at h2
  · rename_i r hr
    simp only [Bool.and_eq_true, decide_eq_true_eq] at h2
    exact ⟨r, hr, h2.1, x_has_in h2.2⟩
  · cases h2
theorem x_okC1_in {o idx a : Nat} (h : xLCp.any (fun q => decide (q.1 = o) && decide (q.2.1 = idx) && decide (q.2.2.1 = a)) = true) : ∃ r : vw_C, vwCl[a]? = some r ∧ Jvm.Cond.classLink (x_on o) idx r.1 ∈ x_TB := by
  obtain ⟨z, hz, h⟩ := List.any_eq_true.mp h
  simp only [Bool.and_eq_true, decide_eq_true_eq] at h
  obtain ⟨⟨rfl, rfl⟩, rfl⟩ := h
  have h2 := List.all_eq_true.mp xLC_ok z hz
  unfold x_okC at h2
  split at h2
  · rename_i r hr
    exact ⟨r, hr, x_has_in h2⟩
  · cases h2
end XO3
