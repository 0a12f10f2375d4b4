/-! A small machine of our own beside the kit's: numbered cells, numbered methods, big steps. Part 04 shows that the real machine follows it. -/
abbrev xE : Type := (FieldType × List Value) ⊕ (Nat × List Value)
abbrev xH : Type := List xE
abbrev xL : Type := List (Option Value)
/-- instruction, its length, two numbers: a jump's target; a field's class and place; a call's method and how many values it takes; a class; a long -/
abbrev xI : Type := Instr × Nat × Nat × Nat
abbrev xB : Type := List (Nat × List xI)
/-- name; own class's number; bytes; locals; answer; frames; words; kind (0 static, 1 virtual, 2 constructor); class of the receiver; parameters; blocks -/
abbrev xM : Type := MethodName × Nat × ByteArray × Nat × Option FieldType × Nat × Nat × Nat × Nat × Nat × xB
abbrev xm_y (M : xM) : MethodName := M.1
abbrev xm_o (M : xM) : Nat := M.2.1
abbrev xm_cc (M : xM) : ByteArray := M.2.2.1
abbrev xm_L (M : xM) : Nat := M.2.2.2.1
abbrev xm_rt (M : xM) : Option FieldType := M.2.2.2.2.1
abbrev xm_fr (M : xM) : Nat := M.2.2.2.2.2.1
abbrev xm_lo (M : xM) : Nat := M.2.2.2.2.2.2.1
abbrev xm_k (M : xM) : Nat := M.2.2.2.2.2.2.2.1
abbrev xm_ci (M : xM) : Nat := M.2.2.2.2.2.2.2.2.1
abbrev xm_np (M : xM) : Nat := M.2.2.2.2.2.2.2.2.2.1
abbrev xm_bl (M : xM) : xB := M.2.2.2.2.2.2.2.2.2.2
abbrev xR : Type := Nat → Nat → xL → List Value → xH → Option Value → xH → Prop
def x_put (ls : xL) (i : Nat) (v : Value) : xL :=
  match i with
  | 0 => ls.set 0 (some v)
  | k + 1 => match ls[k]? with
    | some (some (.long _)) => (ls.set k none).set (k + 1) (some v)
    | some (some (.double _)) => (ls.set k none).set (k + 1) (some v)
    | _ => ls.set (k + 1) (some v)
def x_put2 (ls : xL) (i : Nat) (v : Value) : xL := (x_put ls i v).set (i + 1) none
def x_c (c : Jvm.ClassFile.Cond) (x y : Int32) : Prop := match c with
  | .eq => x = y
  | .ne => ¬ x = y
  | .lt => x < y
  | .ge => y ≤ x
  | .gt => y < x
  | .le => x ≤ y
def x_ldi (ls : xL) (i : Nat) (st : List Value) (h : xH) : Option (xL × List Value × xH) := match ls[i]? with
  | some (some (.int x)) => some (ls, .int x :: st, h)
  | _ => none
def x_ldl (ls : xL) (i : Nat) (st : List Value) (h : xH) : Option (xL × List Value × xH) := match ls[i]? with
  | some (some (.long x)) => some (ls, .long x :: st, h)
  | _ => none
def x_lda (ls : xL) (i : Nat) (st : List Value) (h : xH) : Option (xL × List Value × xH) := match ls[i]? with
  | some (some (.ref x)) => some (ls, .ref x :: st, h)
  | _ => none
def x_sti (ls : xL) (i : Nat) (st : List Value) (h : xH) : Option (xL × List Value × xH) := match st with
  | .int x :: st => if i < ls.length then some (x_put ls i (.int x), st, h) else none
  | _ => none
def x_stl (ls : xL) (i : Nat) (st : List Value) (h : xH) : Option (xL × List Value × xH) := match st with
  | .long x :: st => if i + 1 < ls.length then some (x_put2 ls i (.long x), st, h) else none
  | _ => none
def x_sta (ls : xL) (i : Nat) (st : List Value) (h : xH) : Option (xL × List Value × xH) := match st with
  | .ref x :: st => if i < ls.length then some (x_put ls i (.ref x), st, h) else none
  | _ => none
def x_inc (ls : xL) (i : Nat) (n : Int) (st : List Value) (h : xH) : Option (xL × List Value × xH) := match ls[i]? with
  | some (some (.int x)) => some (x_put ls i (.int (x + Int32.ofInt n)), st, h)
  | _ => none
def x_ii (f : Int32 → Int32 → Int32) (ls : xL) (st : List Value) (h : xH) : Option (xL × List Value × xH) := match st with
  | .int y :: .int x :: st => some (ls, .int (f x y) :: st, h)
  | _ => none
def x_iz (f : Int32 → Int32 → Int32) (ls : xL) (st : List Value) (h : xH) : Option (xL × List Value × xH) := match st with
  | .int y :: .int x :: st => if y = 0 then none else some (ls, .int (f x y) :: st, h)
  | _ => none
def x_ll (f : Int64 → Int64 → Int64) (ls : xL) (st : List Value) (h : xH) : Option (xL × List Value × xH) := match st with
  | .long y :: .long x :: st => some (ls, .long (f x y) :: st, h)
  | _ => none
def x_li (f : Int64 → Int32 → Int64) (ls : xL) (st : List Value) (h : xH) : Option (xL × List Value × xH) := match st with
  | .int y :: .long x :: st => some (ls, .long (f x y) :: st, h)
  | _ => none
def x_getf (a b : Nat) (ls : xL) (st : List Value) (h : xH) : Option (xL × List Value × xH) := match st with
  | .ref o :: st => match h[o]? with
    | some (.inr (ci, fs)) => if ci = a then (match fs[b]? with
      | some v => some (ls, v :: st, h)
      | none => none) else none
    | _ => none
  | _ => none
/-- what may lie in a field of that type -/
def x_fit (ty : FieldType) (v : Value) : Bool := decide (narrow ty v = v) && fits ty v
def x_putf (tf : Nat → Nat → FieldType) (a b : Nat) (ls : xL) (st : List Value) (h : xH) : Option (xL × List Value × xH) := match st with
  | v :: .ref o :: st => if 2 ≤ o then (match h[o]? with
    | some (.inr (ci, fs)) => if ci = a ∧ b < fs.length ∧ x_fit (tf a b) v = true then some (ls, st, h.set o (.inr (ci, fs.set b v))) else none
    | _ => none) else none
  | _ => none
def x_ald (ty : FieldType) (ls : xL) (st : List Value) (h : xH) : Option (xL × List Value × xH) := match st with
  | .int i :: .ref o :: st => match h[o]? with
    | some (.inl (t, vs)) => if t = ty ∧ ¬ i < 0 then (match vs[i.toNatClampNeg]? with
      | some v => some (ls, v :: st, h)
      | none => none) else none
    | _ => none
  | _ => none
def x_aald (ls : xL) (st : List Value) (h : xH) : Option (xL × List Value × xH) := match st with
  | .int i :: .ref o :: st => match h[o]? with
    | some (.inl (t, vs)) => if t.isReference = true ∧ ¬ i < 0 then (match vs[i.toNatClampNeg]? with
      | some v => some (ls, v :: st, h)
      | none => none) else none
    | _ => none
  | _ => none
def x_iast (ls : xL) (st : List Value) (h : xH) : Option (xL × List Value × xH) := match st with
  | .int x :: .int i :: .ref o :: st => match h[o]? with
    | some (.inl (t, vs)) => if 2 ≤ o ∧ t = .int ∧ ¬ i < 0 ∧ i.toNatClampNeg < vs.length then some (ls, st, h.set o (.inl (t, vs.set i.toNatClampNeg (.int x)))) else none
    | _ => none
  | _ => none
def x_last (ls : xL) (st : List Value) (h : xH) : Option (xL × List Value × xH) := match st with
  | .long x :: .int i :: .ref o :: st => match h[o]? with
    | some (.inl (t, vs)) => if 2 ≤ o ∧ t = .long ∧ ¬ i < 0 ∧ i.toNatClampNeg < vs.length then some (ls, st, h.set o (.inl (t, vs.set i.toNatClampNeg (.long x)))) else none
    | _ => none
  | _ => none
/-- a cell of class a goes into an array of that class's objects -/
def x_aast (nm : Nat → String) (ls : xL) (st : List Value) (h : xH) : Option (xL × List Value × xH) := match st with
  | .ref x :: .int i :: .ref o :: st => match h[o]?, h[x]? with
    | some (.inl (t, vs)), some (.inr (ci, _)) => if 2 ≤ o ∧ t = .object (nm ci) ∧ ¬ i < 0 ∧ i.toNatClampNeg < vs.length then some (ls, st, h.set o (.inl (t, vs.set i.toNatClampNeg (.ref x)))) else none
    | _, _ => none
  | _ => none
def x_alen (ls : xL) (st : List Value) (h : xH) : Option (xL × List Value × xH) := match st with
  | .ref o :: st => match h[o]? with
    | some (.inl (_, vs)) => some (ls, .int (Int32.ofNat vs.length) :: st, h)
    | _ => none
  | _ => none
def x_newa (ty : FieldType) (ls : xL) (st : List Value) (h : xH) : Option (xL × List Value × xH) := match st with
  | .int n :: st => if ¬ n < 0 ∧ n.toNatClampNeg ≤ 10000 then some (ls, .ref h.length :: st, h ++ [.inl (ty, List.replicate n.toNatClampNeg (defaultValue ty))]) else none
  | _ => none
def x_copy (ls : xL) (st : List Value) (h : xH) : Option (xL × List Value × xH) := match st with
  | .int n :: .int dp :: .ref d :: .int sp :: .ref s :: st => match h[s]?, h[d]? with
    | some (.inl (t, vs)), some (.inl (t', ws)) => if 2 ≤ d ∧ t = .int ∧ t' = .int ∧ sp = 0 ∧ dp = 0 ∧ ¬ n < 0 ∧ n.toNatClampNeg = vs.length ∧ ws.length = vs.length ∧ vs.all (fits .int) = true ∧ (st.map Value.category).sum ≤ 8 then some (ls, st, h.set d (.inl (t, vs))) else none
    | _, _ => none
  | _ => none
def x_obj (ls : xL) (st : List Value) (h : xH) : Option (xL × List Value × xH) := match st with
  | .ref _ :: st => if (st.map Value.category).sum ≤ 8 then some (ls, st, h) else none
  | _ => none
/-- Math's own: max, min, abs, min of longs -/
def x_math (a : Nat) (ls : xL) (st : List Value) (h : xH) : Option (xL × List Value × xH) :=
  if a = 1002 then (match st with
    | .int y :: .int x :: st => if (st.map Value.category).sum ≤ 8 then some (ls, .int (if x < y then y else x) :: st, h) else none
    | _ => none)
  else if a = 1003 then (match st with
    | .int y :: .int x :: st => if (st.map Value.category).sum ≤ 8 then some (ls, .int (if y < x then y else x) :: st, h) else none
    | _ => none)
  else if a = 1004 then (match st with
    | .int x :: st => if (st.map Value.category).sum ≤ 8 then some (ls, .int (if 0 ≤ x then x else 0 - x) :: st, h) else none
    | _ => none)
  else if a = 1005 then (match st with
    | .long y :: .long x :: st => if (st.map Value.category).sum ≤ 8 then some (ls, .long (if y < x then y else x) :: st, h) else none
    | _ => none)
  else none
/-- the classes of objects, their fields' types and numbers: nm, tf, fn -/
def x_op (nm : Nat → String) (tf : Nat → Nat → FieldType) (fn : Nat → Nat) (i : xI) (ls : xL) (st : List Value) (h : xH) : Option (xL × List Value × xH) :=
  match i.1 with
  | .iconst n => some (ls, .int (Int32.ofInt n) :: st, h)
  | .bipush n => some (ls, .int (Int8.ofInt n).toInt32 :: st, h)
  | .sipush n => some (ls, .int (Int16.ofInt n).toInt32 :: st, h)
  | .lconst n => some (ls, .long (Int64.ofNat (n : Nat)) :: st, h)
  | .ldc2_w _ => some (ls, .long (Int64.ofNat i.2.2.1) :: st, h)
  | .iload_n k => x_ldi ls k st h
  | .iload k => x_ldi ls k st h
  | .lload_n k => x_ldl ls k st h
  | .lload k => x_ldl ls k st h
  | .aload_n k => x_lda ls k st h
  | .aload k => x_lda ls k st h
  | .istore_n k => x_sti ls k st h
  | .istore k => x_sti ls k st h
  | .lstore_n k => x_stl ls k st h
  | .lstore k => x_stl ls k st h
  | .astore_n k => x_sta ls k st h
  | .astore k => x_sta ls k st h
  | .iinc k n => x_inc ls k n st h
  | .iadd => x_ii (fun x y => x + y) ls st h
  | .isub => x_ii (fun x y => x - y) ls st h
  | .imul => x_ii (fun x y => x * y) ls st h
  | .iand => x_ii (fun x y => x &&& y) ls st h
  | .ior => x_ii (fun x y => x ||| y) ls st h
  | .ishl => x_ii (fun x y => x <<< (y &&& 31)) ls st h
  | .ishr => x_ii (fun x y => x >>> (y &&& 31)) ls st h
  | .idiv => x_iz (fun x y => x / y) ls st h
  | .irem => x_iz (fun x y => x - x / y * y) ls st h
  | .ladd => x_ll (fun x y => x + y) ls st h
  | .lmul => x_ll (fun x y => x * y) ls st h
  | .land => x_ll (fun x y => x &&& y) ls st h
  | .lshl => x_li (fun x y => x <<< (y.toInt64 &&& 63)) ls st h
  | .lshr => x_li (fun x y => x >>> (y.toInt64 &&& 63)) ls st h
  | .i2l => match st with
    | .int x :: st => some (ls, .long x.toInt64 :: st, h)
    | _ => none
  | .l2i => match st with
    | .long x :: st => some (ls, .int x.toInt32 :: st, h)
    | _ => none
  | .lcmp => match st with
    | .long y :: .long x :: st => some (ls, .int (lg_cmp x y) :: st, h)
    | _ => none
  | .dup => match st with
    | v :: st => if v.category = 1 then some (ls, v :: v :: st, h) else none
    | _ => none
  | .dup2 => match st with
    | v :: w :: st => if v.category = 1 ∧ w.category = 1 then some (ls, v :: w :: v :: w :: st, h) else none
    | _ => none
  | .pop => match st with
    | v :: st => if v.category = 1 then some (ls, st, h) else none
    | _ => none
  | .getfield _ => x_getf i.2.2.1 i.2.2.2 ls st h
  | .putfield _ => x_putf tf i.2.2.1 i.2.2.2 ls st h
  | .getstatic _ => some (ls, .ref 1 :: st, h)
  | .iaload => x_ald .int ls st h
  | .laload => x_ald .long ls st h
  | .aaload => x_aald ls st h
  | .iastore => x_iast ls st h
  | .lastore => x_last ls st h
  | .aastore => x_aast nm ls st h
  | .arraylength => x_alen ls st h
  | .newarray t => x_newa (newarray.typeOf t) ls st h
  | .anewarray _ => x_newa (.object (nm i.2.2.1)) ls st h
  | .new _ => some (ls, .ref h.length :: st, h ++ [.inr (i.2.2.1, (List.range (fn i.2.2.1)).map (fun k => defaultValue (tf i.2.2.1 k)))])
  | .invokestatic _ => if i.2.2.1 = 1001 then x_copy ls st h else x_math i.2.2.1 ls st h
  | .invokespecial _ => x_obj ls st h
  | _ => none
/-- jumps, calls, ends -/
def x_ctl (i : xI) : Bool := match i.1 with
  | .goto _ => true
  | .ifCond _ _ => true
  | .if_icmp _ _ => true
  | .tableswitch _ _ _ _ => true
  | .lookupswitch _ _ => true
  | .ireturn => true
  | .lreturn => true
  | .return_ => true
  | .invokevirtual _ => true
  | .invokestatic _ => decide (i.2.2.1 < 1000)
  | .invokespecial _ => decide (i.2.2.1 < 1000)
  | _ => false
def x_args (vs : List Value) : xL := vs.flatMap fun v => match v with
  | .long _ => [some v, none]
  | .double _ => [some v, none]
  | _ => [some v]
def x_entry (n : Nat) (vs : List Value) : xL := x_args vs ++ List.replicate (n - (x_args vs).length) none
def x_recv (K : xM) (vs : List Value) (h : xH) : Prop := match xm_k K with
  | 0 => True
  | 1 => match vs with
    | .ref o :: _ => (match h[o]? with
      | some (.inr (ci, _)) => ci = xm_ci K
      | _ => False)
    | _ => False
  | _ => match vs with
    | .ref _ :: _ => True
    | _ => False
/-- a call of method a: answer r, the heap h1 behind it -/
def x_calX (Pg : List xM) (X : xR) (a : Nat) (vs : List Value) (h : xH) (r : Option Value) (h1 : xH) : Prop := match Pg[a]? with
  | some K => x_recv K vs h ∧ (x_args vs).length ≤ xm_L K ∧ X a 0 (x_entry (xm_L K) vs) [] h r h1
  | none => False
def x_call (Pg : List xM) (X : xR) (k : Nat → xL → List Value → xH → Prop) (i : xI) (pc : Nat) (ls : xL) (st : List Value) (h : xH) : Prop :=
  i.2.2.2 ≤ st.length ∧ ((st.drop i.2.2.2).map Value.category).sum ≤ 8 ∧ ∃ (r : Option Value) (h1 : xH), x_calX Pg X i.2.2.1 (st.take i.2.2.2).reverse h r h1 ∧ k (pc + i.2.1) ls (r.toList ++ st.drop i.2.2.2) h1
def x_one (nm : Nat → String) (tf : Nat → Nat → FieldType) (fn : Nat → Nat) (Pg : List xM) (X : xR) (j : Nat) (rt : Option FieldType) (r : Option Value) (h' : xH) (k : Nat → xL → List Value → xH → Prop) (i : xI) (pc : Nat) (ls : xL) (st : List Value) (h : xH) : Prop :=
  if x_ctl i = false then (match x_op nm tf fn i ls st h with
    | some q => k (pc + i.2.1) q.1 q.2.1 q.2.2
    | none => False)
  else match i.1 with
  | .goto _ => X j i.2.2.1 ls st h r h'
  | .ifCond c _ => (match st with
    | .int x :: st => (x_c c x 0 → X j i.2.2.1 ls st h r h') ∧ (¬ x_c c x 0 → k (pc + i.2.1) ls st h)
    | _ => False)
  | .if_icmp c _ => (match st with
    | .int y :: .int x :: st => (x_c c x y → X j i.2.2.1 ls st h r h') ∧ (¬ x_c c x y → k (pc + i.2.1) ls st h)
    | _ => False)
  | .tableswitch d lo hi offs => (match st with
    | .int x :: st => (x.toInt < lo ∨ hi < x.toInt → X j ((pc : Int) + d).toNat ls st h r h') ∧ (¬ (x.toInt < lo ∨ hi < x.toInt) → ∃ off, offs[(x.toInt - lo).toNat]? = some off ∧ X j ((pc : Int) + off).toNat ls st h r h')
    | _ => False)
  | .lookupswitch d ps => (match st with
    | .int x :: st => X j ((pc : Int) + Op.lookupswitch.offset ps.toList d x.toInt).toNat ls st h r h'
    | _ => False)
  | .ireturn => (match st with
    | [.int v] => (rt = some .int ∨ rt = some .boolean ∧ v &&& 1 = v) ∧ r = some (.int v) ∧ h' = h
    | _ => False)
  | .lreturn => (match st with
    | [.long v] => rt = some .long ∧ r = some (.long v) ∧ h' = h
    | _ => False)
  | .return_ => st = [] ∧ rt = none ∧ r = none ∧ h' = h
  | .invokevirtual _ => x_call Pg X k i pc ls st h
  | .invokestatic _ => x_call Pg X k i pc ls st h
  | .invokespecial _ => x_call Pg X k i pc ls st h
  | _ => False
def x_ev (nm : Nat → String) (tf : Nat → Nat → FieldType) (fn : Nat → Nat) (Pg : List xM) (X : xR) (j : Nat) (rt : Option FieldType) (r : Option Value) (h' : xH) : List xI → Nat → xL → List Value → xH → Prop
  | [] => fun pc ls st h => X j pc ls st h r h'
  | i :: is => fun pc ls st h => x_one nm tf fn Pg X j rt r h' (x_ev nm tf fn Pg X j rt r h' is) i pc ls st h
def x_find (B : xB) (pc : Nat) : Option (List xI) := (B.find? (fun q => q.1 == pc)).map (fun q => q.2)
def x_blk (nm : Nat → String) (tf : Nat → Nat → FieldType) (fn : Nat → Nat) (Pg : List xM) (X : xR) : xR := fun j pc ls st h r h' => ∃ (M : xM) (is : List xI), Pg[j]? = some M ∧ x_find (xm_bl M) pc = some is ∧ x_ev nm tf fn Pg X j (xm_rt M) r h' is pc ls st h
/-- the least relation that is closed under the steps -/
def x_Ev (nm : Nat → String) (tf : Nat → Nat → FieldType) (fn : Nat → Nat) (Pg : List xM) : xR := fun j pc ls st h r h' => ∀ X : xR, (∀ j pc ls st h r h', x_blk nm tf fn Pg X j pc ls st h r h' → X j pc ls st h r h') → X j pc ls st h r h'
section XM
variable {nm : Nat → String} {tf : Nat → Nat → FieldType} {fn : Nat → Nat} {Pg : List xM} {X Y : xR} {j : Nat} {rt : Option FieldType} {r : Option Value} {h' : xH}
theorem x_calX_mono (hXY : ∀ j pc ls st h r h', X j pc ls st h r h' → Y j pc ls st h r h') {a : Nat} {vs : List Value} {h h1 : xH} (H : x_calX Pg X a vs h r h1) : x_calX Pg Y a vs h r h1 := by
  unfold x_calX at H ⊢
  split at H
  · rename_i K hK
    exact ⟨H.1, H.2.1, hXY _ _ _ _ _ _ _ H.2.2⟩
  · exact H
theorem x_call_mono (hXY : ∀ j pc ls st h r h', X j pc ls st h r h' → Y j pc ls st h r h') {k k' : Nat → xL → List Value → xH → Prop} (hk : ∀ pc ls st h, k pc ls st h → k' pc ls st h) {i : xI} {pc : Nat} {ls : xL} {st : List Value} {h : xH} (H : x_call Pg X k i pc ls st h) : x_call Pg Y k' i pc ls st h := by
  obtain ⟨h1, h2, r1, hh, h3, h4⟩ := H
  exact ⟨h1, h2, r1, hh, x_calX_mono hXY h3, hk _ _ _ _ h4⟩
theorem x_one_mono (hXY : ∀ j pc ls st h r h', X j pc ls st h r h' → Y j pc ls st h r h') {k k' : Nat → xL → List Value → xH → Prop} (hk : ∀ pc ls st h, k pc ls st h → k' pc ls st h) {i : xI} {pc : Nat} {ls : xL} {st : List Value} {h : xH} (H : x_one nm tf fn Pg X j rt r h' k i pc ls st h) : x_one nm tf fn Pg Y j rt r h' k' i pc ls st h := by
  obtain ⟨ins, n, a, b⟩ := i
  unfold x_one at H ⊢
  by_cases hc : x_ctl (ins, n, a, b) = false
  · rw [if_pos hc] at H ⊢
    split at H
    · rename_i q hq
      exact hk _ _ _ _ H
    · exact H
  · rw [if_neg hc] at H ⊢
    dsimp only at H ⊢
    split at H
    · exact hXY _ _ _ _ _ _ _ H
    · split at H
      · exact ⟨fun c => hXY _ _ _ _ _ _ _ (H.1 c), fun c => hk _ _ _ _ (H.2 c)⟩
      · exact H
    · split at H
      · exact ⟨fun c => hXY _ _ _ _ _ _ _ (H.1 c), fun c => hk _ _ _ _ (H.2 c)⟩
      · exact H
    · split at H
      · exact ⟨fun c => hXY _ _ _ _ _ _ _ (H.1 c), fun c => (H.2 c).elim fun o ho => ⟨o, ho.1, hXY _ _ _ _ _ _ _ ho.2⟩⟩
      · exact H
    · split at H
      · exact hXY _ _ _ _ _ _ _ H
      · exact H
    · exact H
    · exact H
    · exact H
    · exact x_call_mono hXY hk H
    · exact x_call_mono hXY hk H
    · exact x_call_mono hXY hk H
    · exact H.elim
theorem x_ev_mono (hXY : ∀ j pc ls st h r h', X j pc ls st h r h' → Y j pc ls st h r h') : ∀ (is : List xI) (pc : Nat) (ls : xL) (st : List Value) (h : xH), x_ev nm tf fn Pg X j rt r h' is pc ls st h → x_ev nm tf fn Pg Y j rt r h' is pc ls st h
  | [], _, _, _, _, H => hXY _ _ _ _ _ _ _ H
  | i :: is, pc, ls, st, h, H => x_one_mono hXY (fun pc ls st h => x_ev_mono hXY is pc ls st h) H
theorem x_blk_mono (hXY : ∀ j pc ls st h r h', X j pc ls st h r h' → Y j pc ls st h r h') {pc : Nat} {ls : xL} {st : List Value} {h : xH} (H : x_blk nm tf fn Pg X j pc ls st h r h') : x_blk nm tf fn Pg Y j pc ls st h r h' := by
  obtain ⟨M, is, h1, h2, h3⟩ := H
  exact ⟨M, is, h1, h2, x_ev_mono hXY _ _ _ _ _ h3⟩
theorem x_Ev_in {pc : Nat} {ls : xL} {st : List Value} {h : xH} (H : x_blk nm tf fn Pg (x_Ev nm tf fn Pg) j pc ls st h r h') : x_Ev nm tf fn Pg j pc ls st h r h' := by
  intro X hX
  exact hX _ _ _ _ _ _ _ (x_blk_mono (fun j pc ls st h r h' HE => HE X hX) H)
theorem x_Ev_to {M : xM} {is : List xI} {pc : Nat} {ls : xL} {st : List Value} {h : xH} (hM : Pg[j]? = some M) (hf : x_find (xm_bl M) pc = some is) (H : x_ev nm tf fn Pg (x_Ev nm tf fn Pg) j (xm_rt M) r h' is pc ls st h) : x_Ev nm tf fn Pg j pc ls st h r h' := x_Ev_in ⟨M, is, hM, hf, H⟩
end XM
