/-! step rules of our machine: rewrite rules, by program (wip/whole/gen14.py) -/
/-- a field read -/
def x_gf (h : xH) (o a b : Nat) (k : Value → Prop) : Prop := match h[o]? with
  | some (.inr (ci, fs)) => ci = a ∧ (match fs[b]? with
    | some v => k v
    | none => False)
  | _ => False
/-- a field written -/
def x_pf (tf : Nat → Nat → FieldType) (h : xH) (o a b : Nat) (v : Value) (k : xH → Prop) : Prop := match h[o]? with
  | some (.inr (ci, fs)) => (2 ≤ o ∧ ci = a ∧ b < fs.length ∧ x_fit (tf a b) v = true) ∧ k (h.set o (.inr (ci, fs.set b v)))
  | _ => False
/-- an int array -/
def xi (l : List Int32) : xE := .inl (.int, l.map Value.int)
def xl (l : List Int64) : xE := .inl (.long, l.map Value.long)
section XSR
variable {nm : Nat → String} {tf : Nat → Nat → FieldType} {fn : Nat → Nat} {Pg : List xM} {X : xR} {j : Nat} {rt : Option FieldType} {r : Option Value} {h' : xH} {is : List xI} {n a b pc : Nat} {ls : xL} {st : List Value} {h : xH}
def x_bind (q : Option (xL × List Value × xH)) (k : xL → List Value → xH → Prop) : Prop := match q with
  | some q => k q.1 q.2.1 q.2.2
  | none => False
theorem x_ev_op {ins : Instr} (hc : x_ctl (ins, n, a, b) = false) : x_ev nm tf fn Pg X j rt r h' ((ins, n, a, b) :: is) pc ls st h = x_bind (x_op nm tf fn (ins, n, a, b) ls st h) (fun ls st h => x_ev nm tf fn Pg X j rt r h' is (pc + n) ls st h) := by
  show x_one _ _ _ _ _ _ _ _ _ _ _ _ _ _ _ = _
  unfold x_one x_bind
  rw [if_pos hc]
  cases x_op nm tf fn (ins, n, a, b) ls st h <;> rfl
theorem xs_nil : x_ev nm tf fn Pg X j rt r h' [] pc ls st h = X j pc ls st h r h' := rfl
theorem xs_iconst_m1 : x_ev nm tf fn Pg X j rt r h' ((.iconst (-1), n, a, b) :: is) pc ls st h = x_ev nm tf fn Pg X j rt r h' is (pc + n) ls (.int (-1) :: st) h := by
  have e : Int32.ofInt (-1) = -1 := by decide
  rw [x_ev_op rfl]
  show x_ev nm tf fn Pg X j rt r h' is (pc + n) ls (.int (Int32.ofInt (-1)) :: st) h = _
  rw [e]
theorem xs_iconst_0 : x_ev nm tf fn Pg X j rt r h' ((.iconst 0, n, a, b) :: is) pc ls st h = x_ev nm tf fn Pg X j rt r h' is (pc + n) ls (.int (0) :: st) h := by
  have e : Int32.ofInt (0) = 0 := by decide
  rw [x_ev_op rfl]
  show x_ev nm tf fn Pg X j rt r h' is (pc + n) ls (.int (Int32.ofInt (0)) :: st) h = _
  rw [e]
theorem xs_iconst_1 : x_ev nm tf fn Pg X j rt r h' ((.iconst 1, n, a, b) :: is) pc ls st h = x_ev nm tf fn Pg X j rt r h' is (pc + n) ls (.int (1) :: st) h := by
  have e : Int32.ofInt (1) = 1 := by decide
  rw [x_ev_op rfl]
  show x_ev nm tf fn Pg X j rt r h' is (pc + n) ls (.int (Int32.ofInt (1)) :: st) h = _
  rw [e]
theorem xs_iconst_2 : x_ev nm tf fn Pg X j rt r h' ((.iconst 2, n, a, b) :: is) pc ls st h = x_ev nm tf fn Pg X j rt r h' is (pc + n) ls (.int (2) :: st) h := by
  have e : Int32.ofInt (2) = 2 := by decide
  rw [x_ev_op rfl]
  show x_ev nm tf fn Pg X j rt r h' is (pc + n) ls (.int (Int32.ofInt (2)) :: st) h = _
  rw [e]
theorem xs_iconst_3 : x_ev nm tf fn Pg X j rt r h' ((.iconst 3, n, a, b) :: is) pc ls st h = x_ev nm tf fn Pg X j rt r h' is (pc + n) ls (.int (3) :: st) h := by
  have e : Int32.ofInt (3) = 3 := by decide
  rw [x_ev_op rfl]
  show x_ev nm tf fn Pg X j rt r h' is (pc + n) ls (.int (Int32.ofInt (3)) :: st) h = _
  rw [e]
theorem xs_iconst_4 : x_ev nm tf fn Pg X j rt r h' ((.iconst 4, n, a, b) :: is) pc ls st h = x_ev nm tf fn Pg X j rt r h' is (pc + n) ls (.int (4) :: st) h := by
  have e : Int32.ofInt (4) = 4 := by decide
  rw [x_ev_op rfl]
  show x_ev nm tf fn Pg X j rt r h' is (pc + n) ls (.int (Int32.ofInt (4)) :: st) h = _
  rw [e]
theorem xs_iconst_5 : x_ev nm tf fn Pg X j rt r h' ((.iconst 5, n, a, b) :: is) pc ls st h = x_ev nm tf fn Pg X j rt r h' is (pc + n) ls (.int (5) :: st) h := by
  have e : Int32.ofInt (5) = 5 := by decide
  rw [x_ev_op rfl]
  show x_ev nm tf fn Pg X j rt r h' is (pc + n) ls (.int (Int32.ofInt (5)) :: st) h = _
  rw [e]
theorem xs_bipush_m10 : x_ev nm tf fn Pg X j rt r h' ((.bipush (-10), n, a, b) :: is) pc ls st h = x_ev nm tf fn Pg X j rt r h' is (pc + n) ls (.int (-10) :: st) h := by
  have e : (Int8.ofInt (-10)).toInt32 = -10 := by decide
  rw [x_ev_op rfl]
  show x_ev nm tf fn Pg X j rt r h' is (pc + n) ls (.int ((Int8.ofInt (-10)).toInt32) :: st) h = _
  rw [e]
theorem xs_bipush_m2 : x_ev nm tf fn Pg X j rt r h' ((.bipush (-2), n, a, b) :: is) pc ls st h = x_ev nm tf fn Pg X j rt r h' is (pc + n) ls (.int (-2) :: st) h := by
  have e : (Int8.ofInt (-2)).toInt32 = -2 := by decide
  rw [x_ev_op rfl]
  show x_ev nm tf fn Pg X j rt r h' is (pc + n) ls (.int ((Int8.ofInt (-2)).toInt32) :: st) h = _
  rw [e]
theorem xs_bipush_m3 : x_ev nm tf fn Pg X j rt r h' ((.bipush (-3), n, a, b) :: is) pc ls st h = x_ev nm tf fn Pg X j rt r h' is (pc + n) ls (.int (-3) :: st) h := by
  have e : (Int8.ofInt (-3)).toInt32 = -3 := by decide
  rw [x_ev_op rfl]
  show x_ev nm tf fn Pg X j rt r h' is (pc + n) ls (.int ((Int8.ofInt (-3)).toInt32) :: st) h = _
  rw [e]
theorem xs_bipush_m4 : x_ev nm tf fn Pg X j rt r h' ((.bipush (-4), n, a, b) :: is) pc ls st h = x_ev nm tf fn Pg X j rt r h' is (pc + n) ls (.int (-4) :: st) h := by
  have e : (Int8.ofInt (-4)).toInt32 = -4 := by decide
  rw [x_ev_op rfl]
  show x_ev nm tf fn Pg X j rt r h' is (pc + n) ls (.int ((Int8.ofInt (-4)).toInt32) :: st) h = _
  rw [e]
theorem xs_bipush_10 : x_ev nm tf fn Pg X j rt r h' ((.bipush 10, n, a, b) :: is) pc ls st h = x_ev nm tf fn Pg X j rt r h' is (pc + n) ls (.int (10) :: st) h := by
  have e : (Int8.ofInt (10)).toInt32 = 10 := by decide
  rw [x_ev_op rfl]
  show x_ev nm tf fn Pg X j rt r h' is (pc + n) ls (.int ((Int8.ofInt (10)).toInt32) :: st) h = _
  rw [e]
theorem xs_bipush_101 : x_ev nm tf fn Pg X j rt r h' ((.bipush 101, n, a, b) :: is) pc ls st h = x_ev nm tf fn Pg X j rt r h' is (pc + n) ls (.int (101) :: st) h := by
  have e : (Int8.ofInt (101)).toInt32 = 101 := by decide
  rw [x_ev_op rfl]
  show x_ev nm tf fn Pg X j rt r h' is (pc + n) ls (.int ((Int8.ofInt (101)).toInt32) :: st) h = _
  rw [e]
theorem xs_bipush_102 : x_ev nm tf fn Pg X j rt r h' ((.bipush 102, n, a, b) :: is) pc ls st h = x_ev nm tf fn Pg X j rt r h' is (pc + n) ls (.int (102) :: st) h := by
  have e : (Int8.ofInt (102)).toInt32 = 102 := by decide
  rw [x_ev_op rfl]
  show x_ev nm tf fn Pg X j rt r h' is (pc + n) ls (.int ((Int8.ofInt (102)).toInt32) :: st) h = _
  rw [e]
theorem xs_bipush_111 : x_ev nm tf fn Pg X j rt r h' ((.bipush 111, n, a, b) :: is) pc ls st h = x_ev nm tf fn Pg X j rt r h' is (pc + n) ls (.int (111) :: st) h := by
  have e : (Int8.ofInt (111)).toInt32 = 111 := by decide
  rw [x_ev_op rfl]
  show x_ev nm tf fn Pg X j rt r h' is (pc + n) ls (.int ((Int8.ofInt (111)).toInt32) :: st) h = _
  rw [e]
theorem xs_bipush_114 : x_ev nm tf fn Pg X j rt r h' ((.bipush 114, n, a, b) :: is) pc ls st h = x_ev nm tf fn Pg X j rt r h' is (pc + n) ls (.int (114) :: st) h := by
  have e : (Int8.ofInt (114)).toInt32 = 114 := by decide
  rw [x_ev_op rfl]
  show x_ev nm tf fn Pg X j rt r h' is (pc + n) ls (.int ((Int8.ofInt (114)).toInt32) :: st) h = _
  rw [e]
theorem xs_bipush_115 : x_ev nm tf fn Pg X j rt r h' ((.bipush 115, n, a, b) :: is) pc ls st h = x_ev nm tf fn Pg X j rt r h' is (pc + n) ls (.int (115) :: st) h := by
  have e : (Int8.ofInt (115)).toInt32 = 115 := by decide
  rw [x_ev_op rfl]
  show x_ev nm tf fn Pg X j rt r h' is (pc + n) ls (.int ((Int8.ofInt (115)).toInt32) :: st) h = _
  rw [e]
theorem xs_bipush_116 : x_ev nm tf fn Pg X j rt r h' ((.bipush 116, n, a, b) :: is) pc ls st h = x_ev nm tf fn Pg X j rt r h' is (pc + n) ls (.int (116) :: st) h := by
  have e : (Int8.ofInt (116)).toInt32 = 116 := by decide
  rw [x_ev_op rfl]
  show x_ev nm tf fn Pg X j rt r h' is (pc + n) ls (.int ((Int8.ofInt (116)).toInt32) :: st) h = _
  rw [e]
theorem xs_bipush_117 : x_ev nm tf fn Pg X j rt r h' ((.bipush 117, n, a, b) :: is) pc ls st h = x_ev nm tf fn Pg X j rt r h' is (pc + n) ls (.int (117) :: st) h := by
  have e : (Int8.ofInt (117)).toInt32 = 117 := by decide
  rw [x_ev_op rfl]
  show x_ev nm tf fn Pg X j rt r h' is (pc + n) ls (.int ((Int8.ofInt (117)).toInt32) :: st) h = _
  rw [e]
theorem xs_bipush_118 : x_ev nm tf fn Pg X j rt r h' ((.bipush 118, n, a, b) :: is) pc ls st h = x_ev nm tf fn Pg X j rt r h' is (pc + n) ls (.int (118) :: st) h := by
  have e : (Int8.ofInt (118)).toInt32 = 118 := by decide
  rw [x_ev_op rfl]
  show x_ev nm tf fn Pg X j rt r h' is (pc + n) ls (.int ((Int8.ofInt (118)).toInt32) :: st) h = _
  rw [e]
theorem xs_bipush_119 : x_ev nm tf fn Pg X j rt r h' ((.bipush 119, n, a, b) :: is) pc ls st h = x_ev nm tf fn Pg X j rt r h' is (pc + n) ls (.int (119) :: st) h := by
  have e : (Int8.ofInt (119)).toInt32 = 119 := by decide
  rw [x_ev_op rfl]
  show x_ev nm tf fn Pg X j rt r h' is (pc + n) ls (.int ((Int8.ofInt (119)).toInt32) :: st) h = _
  rw [e]
theorem xs_bipush_12 : x_ev nm tf fn Pg X j rt r h' ((.bipush 12, n, a, b) :: is) pc ls st h = x_ev nm tf fn Pg X j rt r h' is (pc + n) ls (.int (12) :: st) h := by
  have e : (Int8.ofInt (12)).toInt32 = 12 := by decide
  rw [x_ev_op rfl]
  show x_ev nm tf fn Pg X j rt r h' is (pc + n) ls (.int ((Int8.ofInt (12)).toInt32) :: st) h = _
  rw [e]
theorem xs_bipush_120 : x_ev nm tf fn Pg X j rt r h' ((.bipush 120, n, a, b) :: is) pc ls st h = x_ev nm tf fn Pg X j rt r h' is (pc + n) ls (.int (120) :: st) h := by
  have e : (Int8.ofInt (120)).toInt32 = 120 := by decide
  rw [x_ev_op rfl]
  show x_ev nm tf fn Pg X j rt r h' is (pc + n) ls (.int ((Int8.ofInt (120)).toInt32) :: st) h = _
  rw [e]
theorem xs_bipush_127 : x_ev nm tf fn Pg X j rt r h' ((.bipush 127, n, a, b) :: is) pc ls st h = x_ev nm tf fn Pg X j rt r h' is (pc + n) ls (.int (127) :: st) h := by
  have e : (Int8.ofInt (127)).toInt32 = 127 := by decide
  rw [x_ev_op rfl]
  show x_ev nm tf fn Pg X j rt r h' is (pc + n) ls (.int ((Int8.ofInt (127)).toInt32) :: st) h = _
  rw [e]
theorem xs_bipush_14 : x_ev nm tf fn Pg X j rt r h' ((.bipush 14, n, a, b) :: is) pc ls st h = x_ev nm tf fn Pg X j rt r h' is (pc + n) ls (.int (14) :: st) h := by
  have e : (Int8.ofInt (14)).toInt32 = 14 := by decide
  rw [x_ev_op rfl]
  show x_ev nm tf fn Pg X j rt r h' is (pc + n) ls (.int ((Int8.ofInt (14)).toInt32) :: st) h = _
  rw [e]
theorem xs_bipush_24 : x_ev nm tf fn Pg X j rt r h' ((.bipush 24, n, a, b) :: is) pc ls st h = x_ev nm tf fn Pg X j rt r h' is (pc + n) ls (.int (24) :: st) h := by
  have e : (Int8.ofInt (24)).toInt32 = 24 := by decide
  rw [x_ev_op rfl]
  show x_ev nm tf fn Pg X j rt r h' is (pc + n) ls (.int ((Int8.ofInt (24)).toInt32) :: st) h = _
  rw [e]
theorem xs_bipush_31 : x_ev nm tf fn Pg X j rt r h' ((.bipush 31, n, a, b) :: is) pc ls st h = x_ev nm tf fn Pg X j rt r h' is (pc + n) ls (.int (31) :: st) h := by
  have e : (Int8.ofInt (31)).toInt32 = 31 := by decide
  rw [x_ev_op rfl]
  show x_ev nm tf fn Pg X j rt r h' is (pc + n) ls (.int ((Int8.ofInt (31)).toInt32) :: st) h = _
  rw [e]
theorem xs_bipush_32 : x_ev nm tf fn Pg X j rt r h' ((.bipush 32, n, a, b) :: is) pc ls st h = x_ev nm tf fn Pg X j rt r h' is (pc + n) ls (.int (32) :: st) h := by
  have e : (Int8.ofInt (32)).toInt32 = 32 := by decide
  rw [x_ev_op rfl]
  show x_ev nm tf fn Pg X j rt r h' is (pc + n) ls (.int ((Int8.ofInt (32)).toInt32) :: st) h = _
  rw [e]
theorem xs_bipush_36 : x_ev nm tf fn Pg X j rt r h' ((.bipush 36, n, a, b) :: is) pc ls st h = x_ev nm tf fn Pg X j rt r h' is (pc + n) ls (.int (36) :: st) h := by
  have e : (Int8.ofInt (36)).toInt32 = 36 := by decide
  rw [x_ev_op rfl]
  show x_ev nm tf fn Pg X j rt r h' is (pc + n) ls (.int ((Int8.ofInt (36)).toInt32) :: st) h = _
  rw [e]
theorem xs_bipush_40 : x_ev nm tf fn Pg X j rt r h' ((.bipush 40, n, a, b) :: is) pc ls st h = x_ev nm tf fn Pg X j rt r h' is (pc + n) ls (.int (40) :: st) h := by
  have e : (Int8.ofInt (40)).toInt32 = 40 := by decide
  rw [x_ev_op rfl]
  show x_ev nm tf fn Pg X j rt r h' is (pc + n) ls (.int ((Int8.ofInt (40)).toInt32) :: st) h = _
  rw [e]
theorem xs_bipush_41 : x_ev nm tf fn Pg X j rt r h' ((.bipush 41, n, a, b) :: is) pc ls st h = x_ev nm tf fn Pg X j rt r h' is (pc + n) ls (.int (41) :: st) h := by
  have e : (Int8.ofInt (41)).toInt32 = 41 := by decide
  rw [x_ev_op rfl]
  show x_ev nm tf fn Pg X j rt r h' is (pc + n) ls (.int ((Int8.ofInt (41)).toInt32) :: st) h = _
  rw [e]
theorem xs_bipush_45 : x_ev nm tf fn Pg X j rt r h' ((.bipush 45, n, a, b) :: is) pc ls st h = x_ev nm tf fn Pg X j rt r h' is (pc + n) ls (.int (45) :: st) h := by
  have e : (Int8.ofInt (45)).toInt32 = 45 := by decide
  rw [x_ev_op rfl]
  show x_ev nm tf fn Pg X j rt r h' is (pc + n) ls (.int ((Int8.ofInt (45)).toInt32) :: st) h = _
  rw [e]
theorem xs_bipush_48 : x_ev nm tf fn Pg X j rt r h' ((.bipush 48, n, a, b) :: is) pc ls st h = x_ev nm tf fn Pg X j rt r h' is (pc + n) ls (.int (48) :: st) h := by
  have e : (Int8.ofInt (48)).toInt32 = 48 := by decide
  rw [x_ev_op rfl]
  show x_ev nm tf fn Pg X j rt r h' is (pc + n) ls (.int ((Int8.ofInt (48)).toInt32) :: st) h = _
  rw [e]
theorem xs_bipush_57 : x_ev nm tf fn Pg X j rt r h' ((.bipush 57, n, a, b) :: is) pc ls st h = x_ev nm tf fn Pg X j rt r h' is (pc + n) ls (.int (57) :: st) h := by
  have e : (Int8.ofInt (57)).toInt32 = 57 := by decide
  rw [x_ev_op rfl]
  show x_ev nm tf fn Pg X j rt r h' is (pc + n) ls (.int ((Int8.ofInt (57)).toInt32) :: st) h = _
  rw [e]
theorem xs_bipush_59 : x_ev nm tf fn Pg X j rt r h' ((.bipush 59, n, a, b) :: is) pc ls st h = x_ev nm tf fn Pg X j rt r h' is (pc + n) ls (.int (59) :: st) h := by
  have e : (Int8.ofInt (59)).toInt32 = 59 := by decide
  rw [x_ev_op rfl]
  show x_ev nm tf fn Pg X j rt r h' is (pc + n) ls (.int ((Int8.ofInt (59)).toInt32) :: st) h = _
  rw [e]
theorem xs_bipush_6 : x_ev nm tf fn Pg X j rt r h' ((.bipush 6, n, a, b) :: is) pc ls st h = x_ev nm tf fn Pg X j rt r h' is (pc + n) ls (.int (6) :: st) h := by
  have e : (Int8.ofInt (6)).toInt32 = 6 := by decide
  rw [x_ev_op rfl]
  show x_ev nm tf fn Pg X j rt r h' is (pc + n) ls (.int ((Int8.ofInt (6)).toInt32) :: st) h = _
  rw [e]
theorem xs_bipush_7 : x_ev nm tf fn Pg X j rt r h' ((.bipush 7, n, a, b) :: is) pc ls st h = x_ev nm tf fn Pg X j rt r h' is (pc + n) ls (.int (7) :: st) h := by
  have e : (Int8.ofInt (7)).toInt32 = 7 := by decide
  rw [x_ev_op rfl]
  show x_ev nm tf fn Pg X j rt r h' is (pc + n) ls (.int ((Int8.ofInt (7)).toInt32) :: st) h = _
  rw [e]
theorem xs_bipush_72 : x_ev nm tf fn Pg X j rt r h' ((.bipush 72, n, a, b) :: is) pc ls st h = x_ev nm tf fn Pg X j rt r h' is (pc + n) ls (.int (72) :: st) h := by
  have e : (Int8.ofInt (72)).toInt32 = 72 := by decide
  rw [x_ev_op rfl]
  show x_ev nm tf fn Pg X j rt r h' is (pc + n) ls (.int ((Int8.ofInt (72)).toInt32) :: st) h = _
  rw [e]
theorem xs_bipush_78 : x_ev nm tf fn Pg X j rt r h' ((.bipush 78, n, a, b) :: is) pc ls st h = x_ev nm tf fn Pg X j rt r h' is (pc + n) ls (.int (78) :: st) h := by
  have e : (Int8.ofInt (78)).toInt32 = 78 := by decide
  rw [x_ev_op rfl]
  show x_ev nm tf fn Pg X j rt r h' is (pc + n) ls (.int ((Int8.ofInt (78)).toInt32) :: st) h = _
  rw [e]
theorem xs_bipush_79 : x_ev nm tf fn Pg X j rt r h' ((.bipush 79, n, a, b) :: is) pc ls st h = x_ev nm tf fn Pg X j rt r h' is (pc + n) ls (.int (79) :: st) h := by
  have e : (Int8.ofInt (79)).toInt32 = 79 := by decide
  rw [x_ev_op rfl]
  show x_ev nm tf fn Pg X j rt r h' is (pc + n) ls (.int ((Int8.ofInt (79)).toInt32) :: st) h = _
  rw [e]
theorem xs_bipush_8 : x_ev nm tf fn Pg X j rt r h' ((.bipush 8, n, a, b) :: is) pc ls st h = x_ev nm tf fn Pg X j rt r h' is (pc + n) ls (.int (8) :: st) h := by
  have e : (Int8.ofInt (8)).toInt32 = 8 := by decide
  rw [x_ev_op rfl]
  show x_ev nm tf fn Pg X j rt r h' is (pc + n) ls (.int ((Int8.ofInt (8)).toInt32) :: st) h = _
  rw [e]
theorem xs_bipush_9 : x_ev nm tf fn Pg X j rt r h' ((.bipush 9, n, a, b) :: is) pc ls st h = x_ev nm tf fn Pg X j rt r h' is (pc + n) ls (.int (9) :: st) h := by
  have e : (Int8.ofInt (9)).toInt32 = 9 := by decide
  rw [x_ev_op rfl]
  show x_ev nm tf fn Pg X j rt r h' is (pc + n) ls (.int ((Int8.ofInt (9)).toInt32) :: st) h = _
  rw [e]
theorem xs_bipush_99 : x_ev nm tf fn Pg X j rt r h' ((.bipush 99, n, a, b) :: is) pc ls st h = x_ev nm tf fn Pg X j rt r h' is (pc + n) ls (.int (99) :: st) h := by
  have e : (Int8.ofInt (99)).toInt32 = 99 := by decide
  rw [x_ev_op rfl]
  show x_ev nm tf fn Pg X j rt r h' is (pc + n) ls (.int ((Int8.ofInt (99)).toInt32) :: st) h = _
  rw [e]
theorem xs_sipush_m1000 : x_ev nm tf fn Pg X j rt r h' ((.sipush (-1000), n, a, b) :: is) pc ls st h = x_ev nm tf fn Pg X j rt r h' is (pc + n) ls (.int (-1000) :: st) h := by
  have e : (Int16.ofInt (-1000)).toInt32 = -1000 := by decide
  rw [x_ev_op rfl]
  show x_ev nm tf fn Pg X j rt r h' is (pc + n) ls (.int ((Int16.ofInt (-1000)).toInt32) :: st) h = _
  rw [e]
theorem xs_sipush_1024 : x_ev nm tf fn Pg X j rt r h' ((.sipush 1024, n, a, b) :: is) pc ls st h = x_ev nm tf fn Pg X j rt r h' is (pc + n) ls (.int (1024) :: st) h := by
  have e : (Int16.ofInt (1024)).toInt32 = 1024 := by decide
  rw [x_ev_op rfl]
  show x_ev nm tf fn Pg X j rt r h' is (pc + n) ls (.int ((Int16.ofInt (1024)).toInt32) :: st) h = _
  rw [e]
theorem xs_sipush_149 : x_ev nm tf fn Pg X j rt r h' ((.sipush 149, n, a, b) :: is) pc ls st h = x_ev nm tf fn Pg X j rt r h' is (pc + n) ls (.int (149) :: st) h := by
  have e : (Int16.ofInt (149)).toInt32 = 149 := by decide
  rw [x_ev_op rfl]
  show x_ev nm tf fn Pg X j rt r h' is (pc + n) ls (.int ((Int16.ofInt (149)).toInt32) :: st) h = _
  rw [e]
theorem xs_sipush_256 : x_ev nm tf fn Pg X j rt r h' ((.sipush 256, n, a, b) :: is) pc ls st h = x_ev nm tf fn Pg X j rt r h' is (pc + n) ls (.int (256) :: st) h := by
  have e : (Int16.ofInt (256)).toInt32 = 256 := by decide
  rw [x_ev_op rfl]
  show x_ev nm tf fn Pg X j rt r h' is (pc + n) ls (.int ((Int16.ofInt (256)).toInt32) :: st) h = _
  rw [e]
theorem xs_sipush_4095 : x_ev nm tf fn Pg X j rt r h' ((.sipush 4095, n, a, b) :: is) pc ls st h = x_ev nm tf fn Pg X j rt r h' is (pc + n) ls (.int (4095) :: st) h := by
  have e : (Int16.ofInt (4095)).toInt32 = 4095 := by decide
  rw [x_ev_op rfl]
  show x_ev nm tf fn Pg X j rt r h' is (pc + n) ls (.int ((Int16.ofInt (4095)).toInt32) :: st) h = _
  rw [e]
theorem xs_sipush_745 : x_ev nm tf fn Pg X j rt r h' ((.sipush 745, n, a, b) :: is) pc ls st h = x_ev nm tf fn Pg X j rt r h' is (pc + n) ls (.int (745) :: st) h := by
  have e : (Int16.ofInt (745)).toInt32 = 745 := by decide
  rw [x_ev_op rfl]
  show x_ev nm tf fn Pg X j rt r h' is (pc + n) ls (.int ((Int16.ofInt (745)).toInt32) :: st) h = _
  rw [e]
theorem xs_sipush_894 : x_ev nm tf fn Pg X j rt r h' ((.sipush 894, n, a, b) :: is) pc ls st h = x_ev nm tf fn Pg X j rt r h' is (pc + n) ls (.int (894) :: st) h := by
  have e : (Int16.ofInt (894)).toInt32 = 894 := by decide
  rw [x_ev_op rfl]
  show x_ev nm tf fn Pg X j rt r h' is (pc + n) ls (.int ((Int16.ofInt (894)).toInt32) :: st) h = _
  rw [e]
theorem xs_sipush_911 : x_ev nm tf fn Pg X j rt r h' ((.sipush 911, n, a, b) :: is) pc ls st h = x_ev nm tf fn Pg X j rt r h' is (pc + n) ls (.int (911) :: st) h := by
  have e : (Int16.ofInt (911)).toInt32 = 911 := by decide
  rw [x_ev_op rfl]
  show x_ev nm tf fn Pg X j rt r h' is (pc + n) ls (.int ((Int16.ofInt (911)).toInt32) :: st) h = _
  rw [e]
theorem xs_ldc2 {i : Nat} : x_ev nm tf fn Pg X j rt r h' ((.ldc2_w i, n, a, b) :: is) pc ls st h = x_ev nm tf fn Pg X j rt r h' is (pc + n) ls (.long (Int64.ofNat a) :: st) h := by
  rw [x_ev_op rfl]
  rfl
theorem xs_iload_n_0 {x : Int32} : x_ev nm tf fn Pg X j rt r h' ((.iload_n 0, n, a, b) :: is) pc (some (.int x) :: ls) st h = x_ev nm tf fn Pg X j rt r h' is (pc + n) (some (.int x) :: ls) (.int x :: st) h := by
  rw [x_ev_op rfl]
  rfl
theorem xs_iload_n_1 {l0 : Option Value} {x : Int32} : x_ev nm tf fn Pg X j rt r h' ((.iload_n 1, n, a, b) :: is) pc (l0 :: some (.int x) :: ls) st h = x_ev nm tf fn Pg X j rt r h' is (pc + n) (l0 :: some (.int x) :: ls) (.int x :: st) h := by
  rw [x_ev_op rfl]
  rfl
theorem xs_iload_n_2 {l0 l1 : Option Value} {x : Int32} : x_ev nm tf fn Pg X j rt r h' ((.iload_n 2, n, a, b) :: is) pc (l0 :: l1 :: some (.int x) :: ls) st h = x_ev nm tf fn Pg X j rt r h' is (pc + n) (l0 :: l1 :: some (.int x) :: ls) (.int x :: st) h := by
  rw [x_ev_op rfl]
  rfl
theorem xs_iload_n_3 {l0 l1 l2 : Option Value} {x : Int32} : x_ev nm tf fn Pg X j rt r h' ((.iload_n 3, n, a, b) :: is) pc (l0 :: l1 :: l2 :: some (.int x) :: ls) st h = x_ev nm tf fn Pg X j rt r h' is (pc + n) (l0 :: l1 :: l2 :: some (.int x) :: ls) (.int x :: st) h := by
  rw [x_ev_op rfl]
  rfl
theorem xs_iload_10 {l0 l1 l2 l3 l4 l5 l6 l7 l8 l9 : Option Value} {x : Int32} : x_ev nm tf fn Pg X j rt r h' ((.iload 10, n, a, b) :: is) pc (l0 :: l1 :: l2 :: l3 :: l4 :: l5 :: l6 :: l7 :: l8 :: l9 :: some (.int x) :: ls) st h = x_ev nm tf fn Pg X j rt r h' is (pc + n) (l0 :: l1 :: l2 :: l3 :: l4 :: l5 :: l6 :: l7 :: l8 :: l9 :: some (.int x) :: ls) (.int x :: st) h := by
  rw [x_ev_op rfl]
  rfl
theorem xs_iload_12 {l0 l1 l2 l3 l4 l5 l6 l7 l8 l9 l10 l11 : Option Value} {x : Int32} : x_ev nm tf fn Pg X j rt r h' ((.iload 12, n, a, b) :: is) pc (l0 :: l1 :: l2 :: l3 :: l4 :: l5 :: l6 :: l7 :: l8 :: l9 :: l10 :: l11 :: some (.int x) :: ls) st h = x_ev nm tf fn Pg X j rt r h' is (pc + n) (l0 :: l1 :: l2 :: l3 :: l4 :: l5 :: l6 :: l7 :: l8 :: l9 :: l10 :: l11 :: some (.int x) :: ls) (.int x :: st) h := by
  rw [x_ev_op rfl]
  rfl
theorem xs_iload_13 {l0 l1 l2 l3 l4 l5 l6 l7 l8 l9 l10 l11 l12 : Option Value} {x : Int32} : x_ev nm tf fn Pg X j rt r h' ((.iload 13, n, a, b) :: is) pc (l0 :: l1 :: l2 :: l3 :: l4 :: l5 :: l6 :: l7 :: l8 :: l9 :: l10 :: l11 :: l12 :: some (.int x) :: ls) st h = x_ev nm tf fn Pg X j rt r h' is (pc + n) (l0 :: l1 :: l2 :: l3 :: l4 :: l5 :: l6 :: l7 :: l8 :: l9 :: l10 :: l11 :: l12 :: some (.int x) :: ls) (.int x :: st) h := by
  rw [x_ev_op rfl]
  rfl
theorem xs_iload_4 {l0 l1 l2 l3 : Option Value} {x : Int32} : x_ev nm tf fn Pg X j rt r h' ((.iload 4, n, a, b) :: is) pc (l0 :: l1 :: l2 :: l3 :: some (.int x) :: ls) st h = x_ev nm tf fn Pg X j rt r h' is (pc + n) (l0 :: l1 :: l2 :: l3 :: some (.int x) :: ls) (.int x :: st) h := by
  rw [x_ev_op rfl]
  rfl
theorem xs_iload_5 {l0 l1 l2 l3 l4 : Option Value} {x : Int32} : x_ev nm tf fn Pg X j rt r h' ((.iload 5, n, a, b) :: is) pc (l0 :: l1 :: l2 :: l3 :: l4 :: some (.int x) :: ls) st h = x_ev nm tf fn Pg X j rt r h' is (pc + n) (l0 :: l1 :: l2 :: l3 :: l4 :: some (.int x) :: ls) (.int x :: st) h := by
  rw [x_ev_op rfl]
  rfl
theorem xs_iload_6 {l0 l1 l2 l3 l4 l5 : Option Value} {x : Int32} : x_ev nm tf fn Pg X j rt r h' ((.iload 6, n, a, b) :: is) pc (l0 :: l1 :: l2 :: l3 :: l4 :: l5 :: some (.int x) :: ls) st h = x_ev nm tf fn Pg X j rt r h' is (pc + n) (l0 :: l1 :: l2 :: l3 :: l4 :: l5 :: some (.int x) :: ls) (.int x :: st) h := by
  rw [x_ev_op rfl]
  rfl
theorem xs_iload_7 {l0 l1 l2 l3 l4 l5 l6 : Option Value} {x : Int32} : x_ev nm tf fn Pg X j rt r h' ((.iload 7, n, a, b) :: is) pc (l0 :: l1 :: l2 :: l3 :: l4 :: l5 :: l6 :: some (.int x) :: ls) st h = x_ev nm tf fn Pg X j rt r h' is (pc + n) (l0 :: l1 :: l2 :: l3 :: l4 :: l5 :: l6 :: some (.int x) :: ls) (.int x :: st) h := by
  rw [x_ev_op rfl]
  rfl
theorem xs_iload_8 {l0 l1 l2 l3 l4 l5 l6 l7 : Option Value} {x : Int32} : x_ev nm tf fn Pg X j rt r h' ((.iload 8, n, a, b) :: is) pc (l0 :: l1 :: l2 :: l3 :: l4 :: l5 :: l6 :: l7 :: some (.int x) :: ls) st h = x_ev nm tf fn Pg X j rt r h' is (pc + n) (l0 :: l1 :: l2 :: l3 :: l4 :: l5 :: l6 :: l7 :: some (.int x) :: ls) (.int x :: st) h := by
  rw [x_ev_op rfl]
  rfl
theorem xs_iload_9 {l0 l1 l2 l3 l4 l5 l6 l7 l8 : Option Value} {x : Int32} : x_ev nm tf fn Pg X j rt r h' ((.iload 9, n, a, b) :: is) pc (l0 :: l1 :: l2 :: l3 :: l4 :: l5 :: l6 :: l7 :: l8 :: some (.int x) :: ls) st h = x_ev nm tf fn Pg X j rt r h' is (pc + n) (l0 :: l1 :: l2 :: l3 :: l4 :: l5 :: l6 :: l7 :: l8 :: some (.int x) :: ls) (.int x :: st) h := by
  rw [x_ev_op rfl]
  rfl
theorem xs_lload_n_1 {l0 : Option Value} {x : Int64} : x_ev nm tf fn Pg X j rt r h' ((.lload_n 1, n, a, b) :: is) pc (l0 :: some (.long x) :: ls) st h = x_ev nm tf fn Pg X j rt r h' is (pc + n) (l0 :: some (.long x) :: ls) (.long x :: st) h := by
  rw [x_ev_op rfl]
  rfl
theorem xs_lload_n_3 {l0 l1 l2 : Option Value} {x : Int64} : x_ev nm tf fn Pg X j rt r h' ((.lload_n 3, n, a, b) :: is) pc (l0 :: l1 :: l2 :: some (.long x) :: ls) st h = x_ev nm tf fn Pg X j rt r h' is (pc + n) (l0 :: l1 :: l2 :: some (.long x) :: ls) (.long x :: st) h := by
  rw [x_ev_op rfl]
  rfl
theorem xs_lload_10 {l0 l1 l2 l3 l4 l5 l6 l7 l8 l9 : Option Value} {x : Int64} : x_ev nm tf fn Pg X j rt r h' ((.lload 10, n, a, b) :: is) pc (l0 :: l1 :: l2 :: l3 :: l4 :: l5 :: l6 :: l7 :: l8 :: l9 :: some (.long x) :: ls) st h = x_ev nm tf fn Pg X j rt r h' is (pc + n) (l0 :: l1 :: l2 :: l3 :: l4 :: l5 :: l6 :: l7 :: l8 :: l9 :: some (.long x) :: ls) (.long x :: st) h := by
  rw [x_ev_op rfl]
  rfl
theorem xs_lload_5 {l0 l1 l2 l3 l4 : Option Value} {x : Int64} : x_ev nm tf fn Pg X j rt r h' ((.lload 5, n, a, b) :: is) pc (l0 :: l1 :: l2 :: l3 :: l4 :: some (.long x) :: ls) st h = x_ev nm tf fn Pg X j rt r h' is (pc + n) (l0 :: l1 :: l2 :: l3 :: l4 :: some (.long x) :: ls) (.long x :: st) h := by
  rw [x_ev_op rfl]
  rfl
theorem xs_aload_n_0 {x : Nat} : x_ev nm tf fn Pg X j rt r h' ((.aload_n 0, n, a, b) :: is) pc (some (.ref x) :: ls) st h = x_ev nm tf fn Pg X j rt r h' is (pc + n) (some (.ref x) :: ls) (.ref x :: st) h := by
  rw [x_ev_op rfl]
  rfl
theorem xs_aload_n_1 {l0 : Option Value} {x : Nat} : x_ev nm tf fn Pg X j rt r h' ((.aload_n 1, n, a, b) :: is) pc (l0 :: some (.ref x) :: ls) st h = x_ev nm tf fn Pg X j rt r h' is (pc + n) (l0 :: some (.ref x) :: ls) (.ref x :: st) h := by
  rw [x_ev_op rfl]
  rfl
theorem xs_aload_n_2 {l0 l1 : Option Value} {x : Nat} : x_ev nm tf fn Pg X j rt r h' ((.aload_n 2, n, a, b) :: is) pc (l0 :: l1 :: some (.ref x) :: ls) st h = x_ev nm tf fn Pg X j rt r h' is (pc + n) (l0 :: l1 :: some (.ref x) :: ls) (.ref x :: st) h := by
  rw [x_ev_op rfl]
  rfl
theorem xs_aload_n_3 {l0 l1 l2 : Option Value} {x : Nat} : x_ev nm tf fn Pg X j rt r h' ((.aload_n 3, n, a, b) :: is) pc (l0 :: l1 :: l2 :: some (.ref x) :: ls) st h = x_ev nm tf fn Pg X j rt r h' is (pc + n) (l0 :: l1 :: l2 :: some (.ref x) :: ls) (.ref x :: st) h := by
  rw [x_ev_op rfl]
  rfl
theorem xs_aload_5 {l0 l1 l2 l3 l4 : Option Value} {x : Nat} : x_ev nm tf fn Pg X j rt r h' ((.aload 5, n, a, b) :: is) pc (l0 :: l1 :: l2 :: l3 :: l4 :: some (.ref x) :: ls) st h = x_ev nm tf fn Pg X j rt r h' is (pc + n) (l0 :: l1 :: l2 :: l3 :: l4 :: some (.ref x) :: ls) (.ref x :: st) h := by
  rw [x_ev_op rfl]
  rfl
theorem x_sti_at {i : Nat} {x : Int32} (hi : i < ls.length) : x_sti ls i (.int x :: st) h = some (x_put ls i (.int x), st, h) := by
  simp [x_sti, hi]
theorem x_sta_at {i : Nat} {x : Nat} (hi : i < ls.length) : x_sta ls i (.ref x :: st) h = some (x_put ls i (.ref x), st, h) := by
  simp [x_sta, hi]
theorem x_stl_at {i : Nat} {x : Int64} (hi : i + 1 < ls.length) : x_stl ls i (.long x :: st) h = some (x_put2 ls i (.long x), st, h) := by
  simp [x_stl, hi]
theorem xs_istore_n_1_i {lz : Option Value} {y : Int32} {x : Int32} : x_ev nm tf fn Pg X j rt r h' ((.istore_n 1, n, a, b) :: is) pc (some (.int y) :: lz :: ls) (.int x :: st) h = x_ev nm tf fn Pg X j rt r h' is (pc + n) (some (.int y) :: some (.int x) :: ls) st h := by
  rw [x_ev_op rfl]
  show x_bind (x_sti (some (.int y) :: lz :: ls) 1 (.int x :: st) h) _ = _
  rw [x_sti_at (by simp)]
  rfl
theorem xs_istore_n_1_a {lz : Option Value} {y : Nat} {x : Int32} : x_ev nm tf fn Pg X j rt r h' ((.istore_n 1, n, a, b) :: is) pc (some (.ref y) :: lz :: ls) (.int x :: st) h = x_ev nm tf fn Pg X j rt r h' is (pc + n) (some (.ref y) :: some (.int x) :: ls) st h := by
  rw [x_ev_op rfl]
  show x_bind (x_sti (some (.ref y) :: lz :: ls) 1 (.int x :: st) h) _ = _
  rw [x_sti_at (by simp)]
  rfl
theorem xs_istore_n_1_n {lz : Option Value} {x : Int32} : x_ev nm tf fn Pg X j rt r h' ((.istore_n 1, n, a, b) :: is) pc (none :: lz :: ls) (.int x :: st) h = x_ev nm tf fn Pg X j rt r h' is (pc + n) (none :: some (.int x) :: ls) st h := by
  rw [x_ev_op rfl]
  show x_bind (x_sti (none :: lz :: ls) 1 (.int x :: st) h) _ = _
  rw [x_sti_at (by simp)]
  rfl
theorem xs_istore_n_1_l {lz : Option Value} {y : Int64} {x : Int32} : x_ev nm tf fn Pg X j rt r h' ((.istore_n 1, n, a, b) :: is) pc (some (.long y) :: lz :: ls) (.int x :: st) h = x_ev nm tf fn Pg X j rt r h' is (pc + n) (none :: some (.int x) :: ls) st h := by
  rw [x_ev_op rfl]
  show x_bind (x_sti (some (.long y) :: lz :: ls) 1 (.int x :: st) h) _ = _
  rw [x_sti_at (by simp)]
  rfl
theorem xs_istore_n_2_i {l0 lz : Option Value} {y : Int32} {x : Int32} : x_ev nm tf fn Pg X j rt r h' ((.istore_n 2, n, a, b) :: is) pc (l0 :: some (.int y) :: lz :: ls) (.int x :: st) h = x_ev nm tf fn Pg X j rt r h' is (pc + n) (l0 :: some (.int y) :: some (.int x) :: ls) st h := by
  rw [x_ev_op rfl]
  show x_bind (x_sti (l0 :: some (.int y) :: lz :: ls) 2 (.int x :: st) h) _ = _
  rw [x_sti_at (by simp)]
  rfl
theorem xs_istore_n_2_a {l0 lz : Option Value} {y : Nat} {x : Int32} : x_ev nm tf fn Pg X j rt r h' ((.istore_n 2, n, a, b) :: is) pc (l0 :: some (.ref y) :: lz :: ls) (.int x :: st) h = x_ev nm tf fn Pg X j rt r h' is (pc + n) (l0 :: some (.ref y) :: some (.int x) :: ls) st h := by
  rw [x_ev_op rfl]
  show x_bind (x_sti (l0 :: some (.ref y) :: lz :: ls) 2 (.int x :: st) h) _ = _
  rw [x_sti_at (by simp)]
  rfl
theorem xs_istore_n_2_n {l0 lz : Option Value} {x : Int32} : x_ev nm tf fn Pg X j rt r h' ((.istore_n 2, n, a, b) :: is) pc (l0 :: none :: lz :: ls) (.int x :: st) h = x_ev nm tf fn Pg X j rt r h' is (pc + n) (l0 :: none :: some (.int x) :: ls) st h := by
  rw [x_ev_op rfl]
  show x_bind (x_sti (l0 :: none :: lz :: ls) 2 (.int x :: st) h) _ = _
  rw [x_sti_at (by simp)]
  rfl
theorem xs_istore_n_2_l {l0 lz : Option Value} {y : Int64} {x : Int32} : x_ev nm tf fn Pg X j rt r h' ((.istore_n 2, n, a, b) :: is) pc (l0 :: some (.long y) :: lz :: ls) (.int x :: st) h = x_ev nm tf fn Pg X j rt r h' is (pc + n) (l0 :: none :: some (.int x) :: ls) st h := by
  rw [x_ev_op rfl]
  show x_bind (x_sti (l0 :: some (.long y) :: lz :: ls) 2 (.int x :: st) h) _ = _
  rw [x_sti_at (by simp)]
  rfl
theorem xs_istore_n_3_i {l0 l1 lz : Option Value} {y : Int32} {x : Int32} : x_ev nm tf fn Pg X j rt r h' ((.istore_n 3, n, a, b) :: is) pc (l0 :: l1 :: some (.int y) :: lz :: ls) (.int x :: st) h = x_ev nm tf fn Pg X j rt r h' is (pc + n) (l0 :: l1 :: some (.int y) :: some (.int x) :: ls) st h := by
  rw [x_ev_op rfl]
  show x_bind (x_sti (l0 :: l1 :: some (.int y) :: lz :: ls) 3 (.int x :: st) h) _ = _
  rw [x_sti_at (by simp)]
  rfl
theorem xs_istore_n_3_a {l0 l1 lz : Option Value} {y : Nat} {x : Int32} : x_ev nm tf fn Pg X j rt r h' ((.istore_n 3, n, a, b) :: is) pc (l0 :: l1 :: some (.ref y) :: lz :: ls) (.int x :: st) h = x_ev nm tf fn Pg X j rt r h' is (pc + n) (l0 :: l1 :: some (.ref y) :: some (.int x) :: ls) st h := by
  rw [x_ev_op rfl]
  show x_bind (x_sti (l0 :: l1 :: some (.ref y) :: lz :: ls) 3 (.int x :: st) h) _ = _
  rw [x_sti_at (by simp)]
  rfl
theorem xs_istore_n_3_n {l0 l1 lz : Option Value} {x : Int32} : x_ev nm tf fn Pg X j rt r h' ((.istore_n 3, n, a, b) :: is) pc (l0 :: l1 :: none :: lz :: ls) (.int x :: st) h = x_ev nm tf fn Pg X j rt r h' is (pc + n) (l0 :: l1 :: none :: some (.int x) :: ls) st h := by
  rw [x_ev_op rfl]
  show x_bind (x_sti (l0 :: l1 :: none :: lz :: ls) 3 (.int x :: st) h) _ = _
  rw [x_sti_at (by simp)]
  rfl
theorem xs_istore_n_3_l {l0 l1 lz : Option Value} {y : Int64} {x : Int32} : x_ev nm tf fn Pg X j rt r h' ((.istore_n 3, n, a, b) :: is) pc (l0 :: l1 :: some (.long y) :: lz :: ls) (.int x :: st) h = x_ev nm tf fn Pg X j rt r h' is (pc + n) (l0 :: l1 :: none :: some (.int x) :: ls) st h := by
  rw [x_ev_op rfl]
  show x_bind (x_sti (l0 :: l1 :: some (.long y) :: lz :: ls) 3 (.int x :: st) h) _ = _
  rw [x_sti_at (by simp)]
  rfl
theorem xs_istore_10_i {l0 l1 l2 l3 l4 l5 l6 l7 l8 lz : Option Value} {y : Int32} {x : Int32} : x_ev nm tf fn Pg X j rt r h' ((.istore 10, n, a, b) :: is) pc (l0 :: l1 :: l2 :: l3 :: l4 :: l5 :: l6 :: l7 :: l8 :: some (.int y) :: lz :: ls) (.int x :: st) h = x_ev nm tf fn Pg X j rt r h' is (pc + n) (l0 :: l1 :: l2 :: l3 :: l4 :: l5 :: l6 :: l7 :: l8 :: some (.int y) :: some (.int x) :: ls) st h := by
  rw [x_ev_op rfl]
  show x_bind (x_sti (l0 :: l1 :: l2 :: l3 :: l4 :: l5 :: l6 :: l7 :: l8 :: some (.int y) :: lz :: ls) 10 (.int x :: st) h) _ = _
  rw [x_sti_at (by simp)]
  rfl
theorem xs_istore_10_a {l0 l1 l2 l3 l4 l5 l6 l7 l8 lz : Option Value} {y : Nat} {x : Int32} : x_ev nm tf fn Pg X j rt r h' ((.istore 10, n, a, b) :: is) pc (l0 :: l1 :: l2 :: l3 :: l4 :: l5 :: l6 :: l7 :: l8 :: some (.ref y) :: lz :: ls) (.int x :: st) h = x_ev nm tf fn Pg X j rt r h' is (pc + n) (l0 :: l1 :: l2 :: l3 :: l4 :: l5 :: l6 :: l7 :: l8 :: some (.ref y) :: some (.int x) :: ls) st h := by
  rw [x_ev_op rfl]
  show x_bind (x_sti (l0 :: l1 :: l2 :: l3 :: l4 :: l5 :: l6 :: l7 :: l8 :: some (.ref y) :: lz :: ls) 10 (.int x :: st) h) _ = _
  rw [x_sti_at (by simp)]
  rfl
theorem xs_istore_10_n {l0 l1 l2 l3 l4 l5 l6 l7 l8 lz : Option Value} {x : Int32} : x_ev nm tf fn Pg X j rt r h' ((.istore 10, n, a, b) :: is) pc (l0 :: l1 :: l2 :: l3 :: l4 :: l5 :: l6 :: l7 :: l8 :: none :: lz :: ls) (.int x :: st) h = x_ev nm tf fn Pg X j rt r h' is (pc + n) (l0 :: l1 :: l2 :: l3 :: l4 :: l5 :: l6 :: l7 :: l8 :: none :: some (.int x) :: ls) st h := by
  rw [x_ev_op rfl]
  show x_bind (x_sti (l0 :: l1 :: l2 :: l3 :: l4 :: l5 :: l6 :: l7 :: l8 :: none :: lz :: ls) 10 (.int x :: st) h) _ = _
  rw [x_sti_at (by simp)]
  rfl
theorem xs_istore_10_l {l0 l1 l2 l3 l4 l5 l6 l7 l8 lz : Option Value} {y : Int64} {x : Int32} : x_ev nm tf fn Pg X j rt r h' ((.istore 10, n, a, b) :: is) pc (l0 :: l1 :: l2 :: l3 :: l4 :: l5 :: l6 :: l7 :: l8 :: some (.long y) :: lz :: ls) (.int x :: st) h = x_ev nm tf fn Pg X j rt r h' is (pc + n) (l0 :: l1 :: l2 :: l3 :: l4 :: l5 :: l6 :: l7 :: l8 :: none :: some (.int x) :: ls) st h := by
  rw [x_ev_op rfl]
  show x_bind (x_sti (l0 :: l1 :: l2 :: l3 :: l4 :: l5 :: l6 :: l7 :: l8 :: some (.long y) :: lz :: ls) 10 (.int x :: st) h) _ = _
  rw [x_sti_at (by simp)]
  rfl
theorem xs_istore_12_i {l0 l1 l2 l3 l4 l5 l6 l7 l8 l9 l10 lz : Option Value} {y : Int32} {x : Int32} : x_ev nm tf fn Pg X j rt r h' ((.istore 12, n, a, b) :: is) pc (l0 :: l1 :: l2 :: l3 :: l4 :: l5 :: l6 :: l7 :: l8 :: l9 :: l10 :: some (.int y) :: lz :: ls) (.int x :: st) h = x_ev nm tf fn Pg X j rt r h' is (pc + n) (l0 :: l1 :: l2 :: l3 :: l4 :: l5 :: l6 :: l7 :: l8 :: l9 :: l10 :: some (.int y) :: some (.int x) :: ls) st h := by
  rw [x_ev_op rfl]
  show x_bind (x_sti (l0 :: l1 :: l2 :: l3 :: l4 :: l5 :: l6 :: l7 :: l8 :: l9 :: l10 :: some (.int y) :: lz :: ls) 12 (.int x :: st) h) _ = _
  rw [x_sti_at (by simp)]
  rfl
theorem xs_istore_12_a {l0 l1 l2 l3 l4 l5 l6 l7 l8 l9 l10 lz : Option Value} {y : Nat} {x : Int32} : x_ev nm tf fn Pg X j rt r h' ((.istore 12, n, a, b) :: is) pc (l0 :: l1 :: l2 :: l3 :: l4 :: l5 :: l6 :: l7 :: l8 :: l9 :: l10 :: some (.ref y) :: lz :: ls) (.int x :: st) h = x_ev nm tf fn Pg X j rt r h' is (pc + n) (l0 :: l1 :: l2 :: l3 :: l4 :: l5 :: l6 :: l7 :: l8 :: l9 :: l10 :: some (.ref y) :: some (.int x) :: ls) st h := by
  rw [x_ev_op rfl]
  show x_bind (x_sti (l0 :: l1 :: l2 :: l3 :: l4 :: l5 :: l6 :: l7 :: l8 :: l9 :: l10 :: some (.ref y) :: lz :: ls) 12 (.int x :: st) h) _ = _
  rw [x_sti_at (by simp)]
  rfl
theorem xs_istore_12_n {l0 l1 l2 l3 l4 l5 l6 l7 l8 l9 l10 lz : Option Value} {x : Int32} : x_ev nm tf fn Pg X j rt r h' ((.istore 12, n, a, b) :: is) pc (l0 :: l1 :: l2 :: l3 :: l4 :: l5 :: l6 :: l7 :: l8 :: l9 :: l10 :: none :: lz :: ls) (.int x :: st) h = x_ev nm tf fn Pg X j rt r h' is (pc + n) (l0 :: l1 :: l2 :: l3 :: l4 :: l5 :: l6 :: l7 :: l8 :: l9 :: l10 :: none :: some (.int x) :: ls) st h := by
  rw [x_ev_op rfl]
  show x_bind (x_sti (l0 :: l1 :: l2 :: l3 :: l4 :: l5 :: l6 :: l7 :: l8 :: l9 :: l10 :: none :: lz :: ls) 12 (.int x :: st) h) _ = _
  rw [x_sti_at (by simp)]
  rfl
theorem xs_istore_12_l {l0 l1 l2 l3 l4 l5 l6 l7 l8 l9 l10 lz : Option Value} {y : Int64} {x : Int32} : x_ev nm tf fn Pg X j rt r h' ((.istore 12, n, a, b) :: is) pc (l0 :: l1 :: l2 :: l3 :: l4 :: l5 :: l6 :: l7 :: l8 :: l9 :: l10 :: some (.long y) :: lz :: ls) (.int x :: st) h = x_ev nm tf fn Pg X j rt r h' is (pc + n) (l0 :: l1 :: l2 :: l3 :: l4 :: l5 :: l6 :: l7 :: l8 :: l9 :: l10 :: none :: some (.int x) :: ls) st h := by
  rw [x_ev_op rfl]
  show x_bind (x_sti (l0 :: l1 :: l2 :: l3 :: l4 :: l5 :: l6 :: l7 :: l8 :: l9 :: l10 :: some (.long y) :: lz :: ls) 12 (.int x :: st) h) _ = _
  rw [x_sti_at (by simp)]
  rfl
theorem xs_istore_13_i {l0 l1 l2 l3 l4 l5 l6 l7 l8 l9 l10 l11 lz : Option Value} {y : Int32} {x : Int32} : x_ev nm tf fn Pg X j rt r h' ((.istore 13, n, a, b) :: is) pc (l0 :: l1 :: l2 :: l3 :: l4 :: l5 :: l6 :: l7 :: l8 :: l9 :: l10 :: l11 :: some (.int y) :: lz :: ls) (.int x :: st) h = x_ev nm tf fn Pg X j rt r h' is (pc + n) (l0 :: l1 :: l2 :: l3 :: l4 :: l5 :: l6 :: l7 :: l8 :: l9 :: l10 :: l11 :: some (.int y) :: some (.int x) :: ls) st h := by
  rw [x_ev_op rfl]
  show x_bind (x_sti (l0 :: l1 :: l2 :: l3 :: l4 :: l5 :: l6 :: l7 :: l8 :: l9 :: l10 :: l11 :: some (.int y) :: lz :: ls) 13 (.int x :: st) h) _ = _
  rw [x_sti_at (by simp)]
  rfl
theorem xs_istore_13_a {l0 l1 l2 l3 l4 l5 l6 l7 l8 l9 l10 l11 lz : Option Value} {y : Nat} {x : Int32} : x_ev nm tf fn Pg X j rt r h' ((.istore 13, n, a, b) :: is) pc (l0 :: l1 :: l2 :: l3 :: l4 :: l5 :: l6 :: l7 :: l8 :: l9 :: l10 :: l11 :: some (.ref y) :: lz :: ls) (.int x :: st) h = x_ev nm tf fn Pg X j rt r h' is (pc + n) (l0 :: l1 :: l2 :: l3 :: l4 :: l5 :: l6 :: l7 :: l8 :: l9 :: l10 :: l11 :: some (.ref y) :: some (.int x) :: ls) st h := by
  rw [x_ev_op rfl]
  show x_bind (x_sti (l0 :: l1 :: l2 :: l3 :: l4 :: l5 :: l6 :: l7 :: l8 :: l9 :: l10 :: l11 :: some (.ref y) :: lz :: ls) 13 (.int x :: st) h) _ = _
  rw [x_sti_at (by simp)]
  rfl
theorem xs_istore_13_n {l0 l1 l2 l3 l4 l5 l6 l7 l8 l9 l10 l11 lz : Option Value} {x : Int32} : x_ev nm tf fn Pg X j rt r h' ((.istore 13, n, a, b) :: is) pc (l0 :: l1 :: l2 :: l3 :: l4 :: l5 :: l6 :: l7 :: l8 :: l9 :: l10 :: l11 :: none :: lz :: ls) (.int x :: st) h = x_ev nm tf fn Pg X j rt r h' is (pc + n) (l0 :: l1 :: l2 :: l3 :: l4 :: l5 :: l6 :: l7 :: l8 :: l9 :: l10 :: l11 :: none :: some (.int x) :: ls) st h := by
  rw [x_ev_op rfl]
  show x_bind (x_sti (l0 :: l1 :: l2 :: l3 :: l4 :: l5 :: l6 :: l7 :: l8 :: l9 :: l10 :: l11 :: none :: lz :: ls) 13 (.int x :: st) h) _ = _
  rw [x_sti_at (by simp)]
  rfl
theorem xs_istore_13_l {l0 l1 l2 l3 l4 l5 l6 l7 l8 l9 l10 l11 lz : Option Value} {y : Int64} {x : Int32} : x_ev nm tf fn Pg X j rt r h' ((.istore 13, n, a, b) :: is) pc (l0 :: l1 :: l2 :: l3 :: l4 :: l5 :: l6 :: l7 :: l8 :: l9 :: l10 :: l11 :: some (.long y) :: lz :: ls) (.int x :: st) h = x_ev nm tf fn Pg X j rt r h' is (pc + n) (l0 :: l1 :: l2 :: l3 :: l4 :: l5 :: l6 :: l7 :: l8 :: l9 :: l10 :: l11 :: none :: some (.int x) :: ls) st h := by
  rw [x_ev_op rfl]
  show x_bind (x_sti (l0 :: l1 :: l2 :: l3 :: l4 :: l5 :: l6 :: l7 :: l8 :: l9 :: l10 :: l11 :: some (.long y) :: lz :: ls) 13 (.int x :: st) h) _ = _
  rw [x_sti_at (by simp)]
  rfl
theorem xs_istore_4_i {l0 l1 l2 lz : Option Value} {y : Int32} {x : Int32} : x_ev nm tf fn Pg X j rt r h' ((.istore 4, n, a, b) :: is) pc (l0 :: l1 :: l2 :: some (.int y) :: lz :: ls) (.int x :: st) h = x_ev nm tf fn Pg X j rt r h' is (pc + n) (l0 :: l1 :: l2 :: some (.int y) :: some (.int x) :: ls) st h := by
  rw [x_ev_op rfl]
  show x_bind (x_sti (l0 :: l1 :: l2 :: some (.int y) :: lz :: ls) 4 (.int x :: st) h) _ = _
  rw [x_sti_at (by simp)]
  rfl
theorem xs_istore_4_a {l0 l1 l2 lz : Option Value} {y : Nat} {x : Int32} : x_ev nm tf fn Pg X j rt r h' ((.istore 4, n, a, b) :: is) pc (l0 :: l1 :: l2 :: some (.ref y) :: lz :: ls) (.int x :: st) h = x_ev nm tf fn Pg X j rt r h' is (pc + n) (l0 :: l1 :: l2 :: some (.ref y) :: some (.int x) :: ls) st h := by
  rw [x_ev_op rfl]
  show x_bind (x_sti (l0 :: l1 :: l2 :: some (.ref y) :: lz :: ls) 4 (.int x :: st) h) _ = _
  rw [x_sti_at (by simp)]
  rfl
theorem xs_istore_4_n {l0 l1 l2 lz : Option Value} {x : Int32} : x_ev nm tf fn Pg X j rt r h' ((.istore 4, n, a, b) :: is) pc (l0 :: l1 :: l2 :: none :: lz :: ls) (.int x :: st) h = x_ev nm tf fn Pg X j rt r h' is (pc + n) (l0 :: l1 :: l2 :: none :: some (.int x) :: ls) st h := by
  rw [x_ev_op rfl]
  show x_bind (x_sti (l0 :: l1 :: l2 :: none :: lz :: ls) 4 (.int x :: st) h) _ = _
  rw [x_sti_at (by simp)]
  rfl
theorem xs_istore_4_l {l0 l1 l2 lz : Option Value} {y : Int64} {x : Int32} : x_ev nm tf fn Pg X j rt r h' ((.istore 4, n, a, b) :: is) pc (l0 :: l1 :: l2 :: some (.long y) :: lz :: ls) (.int x :: st) h = x_ev nm tf fn Pg X j rt r h' is (pc + n) (l0 :: l1 :: l2 :: none :: some (.int x) :: ls) st h := by
  rw [x_ev_op rfl]
  show x_bind (x_sti (l0 :: l1 :: l2 :: some (.long y) :: lz :: ls) 4 (.int x :: st) h) _ = _
  rw [x_sti_at (by simp)]
  rfl
theorem xs_istore_5_i {l0 l1 l2 l3 lz : Option Value} {y : Int32} {x : Int32} : x_ev nm tf fn Pg X j rt r h' ((.istore 5, n, a, b) :: is) pc (l0 :: l1 :: l2 :: l3 :: some (.int y) :: lz :: ls) (.int x :: st) h = x_ev nm tf fn Pg X j rt r h' is (pc + n) (l0 :: l1 :: l2 :: l3 :: some (.int y) :: some (.int x) :: ls) st h := by
  rw [x_ev_op rfl]
  show x_bind (x_sti (l0 :: l1 :: l2 :: l3 :: some (.int y) :: lz :: ls) 5 (.int x :: st) h) _ = _
  rw [x_sti_at (by simp)]
  rfl
theorem xs_istore_5_a {l0 l1 l2 l3 lz : Option Value} {y : Nat} {x : Int32} : x_ev nm tf fn Pg X j rt r h' ((.istore 5, n, a, b) :: is) pc (l0 :: l1 :: l2 :: l3 :: some (.ref y) :: lz :: ls) (.int x :: st) h = x_ev nm tf fn Pg X j rt r h' is (pc + n) (l0 :: l1 :: l2 :: l3 :: some (.ref y) :: some (.int x) :: ls) st h := by
  rw [x_ev_op rfl]
  show x_bind (x_sti (l0 :: l1 :: l2 :: l3 :: some (.ref y) :: lz :: ls) 5 (.int x :: st) h) _ = _
  rw [x_sti_at (by simp)]
  rfl
theorem xs_istore_5_n {l0 l1 l2 l3 lz : Option Value} {x : Int32} : x_ev nm tf fn Pg X j rt r h' ((.istore 5, n, a, b) :: is) pc (l0 :: l1 :: l2 :: l3 :: none :: lz :: ls) (.int x :: st) h = x_ev nm tf fn Pg X j rt r h' is (pc + n) (l0 :: l1 :: l2 :: l3 :: none :: some (.int x) :: ls) st h := by
  rw [x_ev_op rfl]
  show x_bind (x_sti (l0 :: l1 :: l2 :: l3 :: none :: lz :: ls) 5 (.int x :: st) h) _ = _
  rw [x_sti_at (by simp)]
  rfl
theorem xs_istore_5_l {l0 l1 l2 l3 lz : Option Value} {y : Int64} {x : Int32} : x_ev nm tf fn Pg X j rt r h' ((.istore 5, n, a, b) :: is) pc (l0 :: l1 :: l2 :: l3 :: some (.long y) :: lz :: ls) (.int x :: st) h = x_ev nm tf fn Pg X j rt r h' is (pc + n) (l0 :: l1 :: l2 :: l3 :: none :: some (.int x) :: ls) st h := by
  rw [x_ev_op rfl]
  show x_bind (x_sti (l0 :: l1 :: l2 :: l3 :: some (.long y) :: lz :: ls) 5 (.int x :: st) h) _ = _
  rw [x_sti_at (by simp)]
  rfl
theorem xs_istore_6_i {l0 l1 l2 l3 l4 lz : Option Value} {y : Int32} {x : Int32} : x_ev nm tf fn Pg X j rt r h' ((.istore 6, n, a, b) :: is) pc (l0 :: l1 :: l2 :: l3 :: l4 :: some (.int y) :: lz :: ls) (.int x :: st) h = x_ev nm tf fn Pg X j rt r h' is (pc + n) (l0 :: l1 :: l2 :: l3 :: l4 :: some (.int y) :: some (.int x) :: ls) st h := by
  rw [x_ev_op rfl]
  show x_bind (x_sti (l0 :: l1 :: l2 :: l3 :: l4 :: some (.int y) :: lz :: ls) 6 (.int x :: st) h) _ = _
  rw [x_sti_at (by simp)]
  rfl
theorem xs_istore_6_a {l0 l1 l2 l3 l4 lz : Option Value} {y : Nat} {x : Int32} : x_ev nm tf fn Pg X j rt r h' ((.istore 6, n, a, b) :: is) pc (l0 :: l1 :: l2 :: l3 :: l4 :: some (.ref y) :: lz :: ls) (.int x :: st) h = x_ev nm tf fn Pg X j rt r h' is (pc + n) (l0 :: l1 :: l2 :: l3 :: l4 :: some (.ref y) :: some (.int x) :: ls) st h := by
  rw [x_ev_op rfl]
  show x_bind (x_sti (l0 :: l1 :: l2 :: l3 :: l4 :: some (.ref y) :: lz :: ls) 6 (.int x :: st) h) _ = _
  rw [x_sti_at (by simp)]
  rfl
theorem xs_istore_6_n {l0 l1 l2 l3 l4 lz : Option Value} {x : Int32} : x_ev nm tf fn Pg X j rt r h' ((.istore 6, n, a, b) :: is) pc (l0 :: l1 :: l2 :: l3 :: l4 :: none :: lz :: ls) (.int x :: st) h = x_ev nm tf fn Pg X j rt r h' is (pc + n) (l0 :: l1 :: l2 :: l3 :: l4 :: none :: some (.int x) :: ls) st h := by
  rw [x_ev_op rfl]
  show x_bind (x_sti (l0 :: l1 :: l2 :: l3 :: l4 :: none :: lz :: ls) 6 (.int x :: st) h) _ = _
  rw [x_sti_at (by simp)]
  rfl
theorem xs_istore_6_l {l0 l1 l2 l3 l4 lz : Option Value} {y : Int64} {x : Int32} : x_ev nm tf fn Pg X j rt r h' ((.istore 6, n, a, b) :: is) pc (l0 :: l1 :: l2 :: l3 :: l4 :: some (.long y) :: lz :: ls) (.int x :: st) h = x_ev nm tf fn Pg X j rt r h' is (pc + n) (l0 :: l1 :: l2 :: l3 :: l4 :: none :: some (.int x) :: ls) st h := by
  rw [x_ev_op rfl]
  show x_bind (x_sti (l0 :: l1 :: l2 :: l3 :: l4 :: some (.long y) :: lz :: ls) 6 (.int x :: st) h) _ = _
  rw [x_sti_at (by simp)]
  rfl
theorem xs_istore_7_i {l0 l1 l2 l3 l4 l5 lz : Option Value} {y : Int32} {x : Int32} : x_ev nm tf fn Pg X j rt r h' ((.istore 7, n, a, b) :: is) pc (l0 :: l1 :: l2 :: l3 :: l4 :: l5 :: some (.int y) :: lz :: ls) (.int x :: st) h = x_ev nm tf fn Pg X j rt r h' is (pc + n) (l0 :: l1 :: l2 :: l3 :: l4 :: l5 :: some (.int y) :: some (.int x) :: ls) st h := by
  rw [x_ev_op rfl]
  show x_bind (x_sti (l0 :: l1 :: l2 :: l3 :: l4 :: l5 :: some (.int y) :: lz :: ls) 7 (.int x :: st) h) _ = _
  rw [x_sti_at (by simp)]
  rfl
theorem xs_istore_7_a {l0 l1 l2 l3 l4 l5 lz : Option Value} {y : Nat} {x : Int32} : x_ev nm tf fn Pg X j rt r h' ((.istore 7, n, a, b) :: is) pc (l0 :: l1 :: l2 :: l3 :: l4 :: l5 :: some (.ref y) :: lz :: ls) (.int x :: st) h = x_ev nm tf fn Pg X j rt r h' is (pc + n) (l0 :: l1 :: l2 :: l3 :: l4 :: l5 :: some (.ref y) :: some (.int x) :: ls) st h := by
  rw [x_ev_op rfl]
  show x_bind (x_sti (l0 :: l1 :: l2 :: l3 :: l4 :: l5 :: some (.ref y) :: lz :: ls) 7 (.int x :: st) h) _ = _
  rw [x_sti_at (by simp)]
  rfl
theorem xs_istore_7_n {l0 l1 l2 l3 l4 l5 lz : Option Value} {x : Int32} : x_ev nm tf fn Pg X j rt r h' ((.istore 7, n, a, b) :: is) pc (l0 :: l1 :: l2 :: l3 :: l4 :: l5 :: none :: lz :: ls) (.int x :: st) h = x_ev nm tf fn Pg X j rt r h' is (pc + n) (l0 :: l1 :: l2 :: l3 :: l4 :: l5 :: none :: some (.int x) :: ls) st h := by
  rw [x_ev_op rfl]
  show x_bind (x_sti (l0 :: l1 :: l2 :: l3 :: l4 :: l5 :: none :: lz :: ls) 7 (.int x :: st) h) _ = _
  rw [x_sti_at (by simp)]
  rfl
theorem xs_istore_7_l {l0 l1 l2 l3 l4 l5 lz : Option Value} {y : Int64} {x : Int32} : x_ev nm tf fn Pg X j rt r h' ((.istore 7, n, a, b) :: is) pc (l0 :: l1 :: l2 :: l3 :: l4 :: l5 :: some (.long y) :: lz :: ls) (.int x :: st) h = x_ev nm tf fn Pg X j rt r h' is (pc + n) (l0 :: l1 :: l2 :: l3 :: l4 :: l5 :: none :: some (.int x) :: ls) st h := by
  rw [x_ev_op rfl]
  show x_bind (x_sti (l0 :: l1 :: l2 :: l3 :: l4 :: l5 :: some (.long y) :: lz :: ls) 7 (.int x :: st) h) _ = _
  rw [x_sti_at (by simp)]
  rfl
theorem xs_istore_8_i {l0 l1 l2 l3 l4 l5 l6 lz : Option Value} {y : Int32} {x : Int32} : x_ev nm tf fn Pg X j rt r h' ((.istore 8, n, a, b) :: is) pc (l0 :: l1 :: l2 :: l3 :: l4 :: l5 :: l6 :: some (.int y) :: lz :: ls) (.int x :: st) h = x_ev nm tf fn Pg X j rt r h' is (pc + n) (l0 :: l1 :: l2 :: l3 :: l4 :: l5 :: l6 :: some (.int y) :: some (.int x) :: ls) st h := by
  rw [x_ev_op rfl]
  show x_bind (x_sti (l0 :: l1 :: l2 :: l3 :: l4 :: l5 :: l6 :: some (.int y) :: lz :: ls) 8 (.int x :: st) h) _ = _
  rw [x_sti_at (by simp)]
  rfl
theorem xs_istore_8_a {l0 l1 l2 l3 l4 l5 l6 lz : Option Value} {y : Nat} {x : Int32} : x_ev nm tf fn Pg X j rt r h' ((.istore 8, n, a, b) :: is) pc (l0 :: l1 :: l2 :: l3 :: l4 :: l5 :: l6 :: some (.ref y) :: lz :: ls) (.int x :: st) h = x_ev nm tf fn Pg X j rt r h' is (pc + n) (l0 :: l1 :: l2 :: l3 :: l4 :: l5 :: l6 :: some (.ref y) :: some (.int x) :: ls) st h := by
  rw [x_ev_op rfl]
  show x_bind (x_sti (l0 :: l1 :: l2 :: l3 :: l4 :: l5 :: l6 :: some (.ref y) :: lz :: ls) 8 (.int x :: st) h) _ = _
  rw [x_sti_at (by simp)]
  rfl
theorem xs_istore_8_n {l0 l1 l2 l3 l4 l5 l6 lz : Option Value} {x : Int32} : x_ev nm tf fn Pg X j rt r h' ((.istore 8, n, a, b) :: is) pc (l0 :: l1 :: l2 :: l3 :: l4 :: l5 :: l6 :: none :: lz :: ls) (.int x :: st) h = x_ev nm tf fn Pg X j rt r h' is (pc + n) (l0 :: l1 :: l2 :: l3 :: l4 :: l5 :: l6 :: none :: some (.int x) :: ls) st h := by
  rw [x_ev_op rfl]
  show x_bind (x_sti (l0 :: l1 :: l2 :: l3 :: l4 :: l5 :: l6 :: none :: lz :: ls) 8 (.int x :: st) h) _ = _
  rw [x_sti_at (by simp)]
  rfl
theorem xs_istore_8_l {l0 l1 l2 l3 l4 l5 l6 lz : Option Value} {y : Int64} {x : Int32} : x_ev nm tf fn Pg X j rt r h' ((.istore 8, n, a, b) :: is) pc (l0 :: l1 :: l2 :: l3 :: l4 :: l5 :: l6 :: some (.long y) :: lz :: ls) (.int x :: st) h = x_ev nm tf fn Pg X j rt r h' is (pc + n) (l0 :: l1 :: l2 :: l3 :: l4 :: l5 :: l6 :: none :: some (.int x) :: ls) st h := by
  rw [x_ev_op rfl]
  show x_bind (x_sti (l0 :: l1 :: l2 :: l3 :: l4 :: l5 :: l6 :: some (.long y) :: lz :: ls) 8 (.int x :: st) h) _ = _
  rw [x_sti_at (by simp)]
  rfl
theorem xs_istore_9_i {l0 l1 l2 l3 l4 l5 l6 l7 lz : Option Value} {y : Int32} {x : Int32} : x_ev nm tf fn Pg X j rt r h' ((.istore 9, n, a, b) :: is) pc (l0 :: l1 :: l2 :: l3 :: l4 :: l5 :: l6 :: l7 :: some (.int y) :: lz :: ls) (.int x :: st) h = x_ev nm tf fn Pg X j rt r h' is (pc + n) (l0 :: l1 :: l2 :: l3 :: l4 :: l5 :: l6 :: l7 :: some (.int y) :: some (.int x) :: ls) st h := by
  rw [x_ev_op rfl]
  show x_bind (x_sti (l0 :: l1 :: l2 :: l3 :: l4 :: l5 :: l6 :: l7 :: some (.int y) :: lz :: ls) 9 (.int x :: st) h) _ = _
  rw [x_sti_at (by simp)]
  rfl
theorem xs_istore_9_a {l0 l1 l2 l3 l4 l5 l6 l7 lz : Option Value} {y : Nat} {x : Int32} : x_ev nm tf fn Pg X j rt r h' ((.istore 9, n, a, b) :: is) pc (l0 :: l1 :: l2 :: l3 :: l4 :: l5 :: l6 :: l7 :: some (.ref y) :: lz :: ls) (.int x :: st) h = x_ev nm tf fn Pg X j rt r h' is (pc + n) (l0 :: l1 :: l2 :: l3 :: l4 :: l5 :: l6 :: l7 :: some (.ref y) :: some (.int x) :: ls) st h := by
  rw [x_ev_op rfl]
  show x_bind (x_sti (l0 :: l1 :: l2 :: l3 :: l4 :: l5 :: l6 :: l7 :: some (.ref y) :: lz :: ls) 9 (.int x :: st) h) _ = _
  rw [x_sti_at (by simp)]
  rfl
theorem xs_istore_9_n {l0 l1 l2 l3 l4 l5 l6 l7 lz : Option Value} {x : Int32} : x_ev nm tf fn Pg X j rt r h' ((.istore 9, n, a, b) :: is) pc (l0 :: l1 :: l2 :: l3 :: l4 :: l5 :: l6 :: l7 :: none :: lz :: ls) (.int x :: st) h = x_ev nm tf fn Pg X j rt r h' is (pc + n) (l0 :: l1 :: l2 :: l3 :: l4 :: l5 :: l6 :: l7 :: none :: some (.int x) :: ls) st h := by
  rw [x_ev_op rfl]
  show x_bind (x_sti (l0 :: l1 :: l2 :: l3 :: l4 :: l5 :: l6 :: l7 :: none :: lz :: ls) 9 (.int x :: st) h) _ = _
  rw [x_sti_at (by simp)]
  rfl
theorem xs_istore_9_l {l0 l1 l2 l3 l4 l5 l6 l7 lz : Option Value} {y : Int64} {x : Int32} : x_ev nm tf fn Pg X j rt r h' ((.istore 9, n, a, b) :: is) pc (l0 :: l1 :: l2 :: l3 :: l4 :: l5 :: l6 :: l7 :: some (.long y) :: lz :: ls) (.int x :: st) h = x_ev nm tf fn Pg X j rt r h' is (pc + n) (l0 :: l1 :: l2 :: l3 :: l4 :: l5 :: l6 :: l7 :: none :: some (.int x) :: ls) st h := by
  rw [x_ev_op rfl]
  show x_bind (x_sti (l0 :: l1 :: l2 :: l3 :: l4 :: l5 :: l6 :: l7 :: some (.long y) :: lz :: ls) 9 (.int x :: st) h) _ = _
  rw [x_sti_at (by simp)]
  rfl
theorem xs_lstore_n_1_i {lz ly : Option Value} {y : Int32} {x : Int64} : x_ev nm tf fn Pg X j rt r h' ((.lstore_n 1, n, a, b) :: is) pc (some (.int y) :: lz :: ly :: ls) (.long x :: st) h = x_ev nm tf fn Pg X j rt r h' is (pc + n) (some (.int y) :: some (.long x) :: none :: ls) st h := by
  rw [x_ev_op rfl]
  show x_bind (x_stl (some (.int y) :: lz :: ly :: ls) 1 (.long x :: st) h) _ = _
  rw [x_stl_at (by simp)]
  rfl
theorem xs_lstore_n_1_a {lz ly : Option Value} {y : Nat} {x : Int64} : x_ev nm tf fn Pg X j rt r h' ((.lstore_n 1, n, a, b) :: is) pc (some (.ref y) :: lz :: ly :: ls) (.long x :: st) h = x_ev nm tf fn Pg X j rt r h' is (pc + n) (some (.ref y) :: some (.long x) :: none :: ls) st h := by
  rw [x_ev_op rfl]
  show x_bind (x_stl (some (.ref y) :: lz :: ly :: ls) 1 (.long x :: st) h) _ = _
  rw [x_stl_at (by simp)]
  rfl
theorem xs_lstore_n_1_n {lz ly : Option Value} {x : Int64} : x_ev nm tf fn Pg X j rt r h' ((.lstore_n 1, n, a, b) :: is) pc (none :: lz :: ly :: ls) (.long x :: st) h = x_ev nm tf fn Pg X j rt r h' is (pc + n) (none :: some (.long x) :: none :: ls) st h := by
  rw [x_ev_op rfl]
  show x_bind (x_stl (none :: lz :: ly :: ls) 1 (.long x :: st) h) _ = _
  rw [x_stl_at (by simp)]
  rfl
theorem xs_lstore_n_1_l {lz ly : Option Value} {y : Int64} {x : Int64} : x_ev nm tf fn Pg X j rt r h' ((.lstore_n 1, n, a, b) :: is) pc (some (.long y) :: lz :: ly :: ls) (.long x :: st) h = x_ev nm tf fn Pg X j rt r h' is (pc + n) (none :: some (.long x) :: none :: ls) st h := by
  rw [x_ev_op rfl]
  show x_bind (x_stl (some (.long y) :: lz :: ly :: ls) 1 (.long x :: st) h) _ = _
  rw [x_stl_at (by simp)]
  rfl
theorem xs_lstore_n_3_i {l0 l1 lz ly : Option Value} {y : Int32} {x : Int64} : x_ev nm tf fn Pg X j rt r h' ((.lstore_n 3, n, a, b) :: is) pc (l0 :: l1 :: some (.int y) :: lz :: ly :: ls) (.long x :: st) h = x_ev nm tf fn Pg X j rt r h' is (pc + n) (l0 :: l1 :: some (.int y) :: some (.long x) :: none :: ls) st h := by
  rw [x_ev_op rfl]
  show x_bind (x_stl (l0 :: l1 :: some (.int y) :: lz :: ly :: ls) 3 (.long x :: st) h) _ = _
  rw [x_stl_at (by simp)]
  rfl
theorem xs_lstore_n_3_a {l0 l1 lz ly : Option Value} {y : Nat} {x : Int64} : x_ev nm tf fn Pg X j rt r h' ((.lstore_n 3, n, a, b) :: is) pc (l0 :: l1 :: some (.ref y) :: lz :: ly :: ls) (.long x :: st) h = x_ev nm tf fn Pg X j rt r h' is (pc + n) (l0 :: l1 :: some (.ref y) :: some (.long x) :: none :: ls) st h := by
  rw [x_ev_op rfl]
  show x_bind (x_stl (l0 :: l1 :: some (.ref y) :: lz :: ly :: ls) 3 (.long x :: st) h) _ = _
  rw [x_stl_at (by simp)]
  rfl
theorem xs_lstore_n_3_n {l0 l1 lz ly : Option Value} {x : Int64} : x_ev nm tf fn Pg X j rt r h' ((.lstore_n 3, n, a, b) :: is) pc (l0 :: l1 :: none :: lz :: ly :: ls) (.long x :: st) h = x_ev nm tf fn Pg X j rt r h' is (pc + n) (l0 :: l1 :: none :: some (.long x) :: none :: ls) st h := by
  rw [x_ev_op rfl]
  show x_bind (x_stl (l0 :: l1 :: none :: lz :: ly :: ls) 3 (.long x :: st) h) _ = _
  rw [x_stl_at (by simp)]
  rfl
theorem xs_lstore_n_3_l {l0 l1 lz ly : Option Value} {y : Int64} {x : Int64} : x_ev nm tf fn Pg X j rt r h' ((.lstore_n 3, n, a, b) :: is) pc (l0 :: l1 :: some (.long y) :: lz :: ly :: ls) (.long x :: st) h = x_ev nm tf fn Pg X j rt r h' is (pc + n) (l0 :: l1 :: none :: some (.long x) :: none :: ls) st h := by
  rw [x_ev_op rfl]
  show x_bind (x_stl (l0 :: l1 :: some (.long y) :: lz :: ly :: ls) 3 (.long x :: st) h) _ = _
  rw [x_stl_at (by simp)]
  rfl
theorem xs_lstore_10_i {l0 l1 l2 l3 l4 l5 l6 l7 l8 lz ly : Option Value} {y : Int32} {x : Int64} : x_ev nm tf fn Pg X j rt r h' ((.lstore 10, n, a, b) :: is) pc (l0 :: l1 :: l2 :: l3 :: l4 :: l5 :: l6 :: l7 :: l8 :: some (.int y) :: lz :: ly :: ls) (.long x :: st) h = x_ev nm tf fn Pg X j rt r h' is (pc + n) (l0 :: l1 :: l2 :: l3 :: l4 :: l5 :: l6 :: l7 :: l8 :: some (.int y) :: some (.long x) :: none :: ls) st h := by
  rw [x_ev_op rfl]
  show x_bind (x_stl (l0 :: l1 :: l2 :: l3 :: l4 :: l5 :: l6 :: l7 :: l8 :: some (.int y) :: lz :: ly :: ls) 10 (.long x :: st) h) _ = _
  rw [x_stl_at (by simp)]
  rfl
theorem xs_lstore_10_a {l0 l1 l2 l3 l4 l5 l6 l7 l8 lz ly : Option Value} {y : Nat} {x : Int64} : x_ev nm tf fn Pg X j rt r h' ((.lstore 10, n, a, b) :: is) pc (l0 :: l1 :: l2 :: l3 :: l4 :: l5 :: l6 :: l7 :: l8 :: some (.ref y) :: lz :: ly :: ls) (.long x :: st) h = x_ev nm tf fn Pg X j rt r h' is (pc + n) (l0 :: l1 :: l2 :: l3 :: l4 :: l5 :: l6 :: l7 :: l8 :: some (.ref y) :: some (.long x) :: none :: ls) st h := by
  rw [x_ev_op rfl]
  show x_bind (x_stl (l0 :: l1 :: l2 :: l3 :: l4 :: l5 :: l6 :: l7 :: l8 :: some (.ref y) :: lz :: ly :: ls) 10 (.long x :: st) h) _ = _
  rw [x_stl_at (by simp)]
  rfl
theorem xs_lstore_10_n {l0 l1 l2 l3 l4 l5 l6 l7 l8 lz ly : Option Value} {x : Int64} : x_ev nm tf fn Pg X j rt r h' ((.lstore 10, n, a, b) :: is) pc (l0 :: l1 :: l2 :: l3 :: l4 :: l5 :: l6 :: l7 :: l8 :: none :: lz :: ly :: ls) (.long x :: st) h = x_ev nm tf fn Pg X j rt r h' is (pc + n) (l0 :: l1 :: l2 :: l3 :: l4 :: l5 :: l6 :: l7 :: l8 :: none :: some (.long x) :: none :: ls) st h := by
  rw [x_ev_op rfl]
  show x_bind (x_stl (l0 :: l1 :: l2 :: l3 :: l4 :: l5 :: l6 :: l7 :: l8 :: none :: lz :: ly :: ls) 10 (.long x :: st) h) _ = _
  rw [x_stl_at (by simp)]
  rfl
theorem xs_lstore_10_l {l0 l1 l2 l3 l4 l5 l6 l7 l8 lz ly : Option Value} {y : Int64} {x : Int64} : x_ev nm tf fn Pg X j rt r h' ((.lstore 10, n, a, b) :: is) pc (l0 :: l1 :: l2 :: l3 :: l4 :: l5 :: l6 :: l7 :: l8 :: some (.long y) :: lz :: ly :: ls) (.long x :: st) h = x_ev nm tf fn Pg X j rt r h' is (pc + n) (l0 :: l1 :: l2 :: l3 :: l4 :: l5 :: l6 :: l7 :: l8 :: none :: some (.long x) :: none :: ls) st h := by
  rw [x_ev_op rfl]
  show x_bind (x_stl (l0 :: l1 :: l2 :: l3 :: l4 :: l5 :: l6 :: l7 :: l8 :: some (.long y) :: lz :: ly :: ls) 10 (.long x :: st) h) _ = _
  rw [x_stl_at (by simp)]
  rfl
theorem xs_lstore_5_i {l0 l1 l2 l3 lz ly : Option Value} {y : Int32} {x : Int64} : x_ev nm tf fn Pg X j rt r h' ((.lstore 5, n, a, b) :: is) pc (l0 :: l1 :: l2 :: l3 :: some (.int y) :: lz :: ly :: ls) (.long x :: st) h = x_ev nm tf fn Pg X j rt r h' is (pc + n) (l0 :: l1 :: l2 :: l3 :: some (.int y) :: some (.long x) :: none :: ls) st h := by
  rw [x_ev_op rfl]
  show x_bind (x_stl (l0 :: l1 :: l2 :: l3 :: some (.int y) :: lz :: ly :: ls) 5 (.long x :: st) h) _ = _
  rw [x_stl_at (by simp)]
  rfl
theorem xs_lstore_5_a {l0 l1 l2 l3 lz ly : Option Value} {y : Nat} {x : Int64} : x_ev nm tf fn Pg X j rt r h' ((.lstore 5, n, a, b) :: is) pc (l0 :: l1 :: l2 :: l3 :: some (.ref y) :: lz :: ly :: ls) (.long x :: st) h = x_ev nm tf fn Pg X j rt r h' is (pc + n) (l0 :: l1 :: l2 :: l3 :: some (.ref y) :: some (.long x) :: none :: ls) st h := by
  rw [x_ev_op rfl]
  show x_bind (x_stl (l0 :: l1 :: l2 :: l3 :: some (.ref y) :: lz :: ly :: ls) 5 (.long x :: st) h) _ = _
  rw [x_stl_at (by simp)]
  rfl
theorem xs_lstore_5_n {l0 l1 l2 l3 lz ly : Option Value} {x : Int64} : x_ev nm tf fn Pg X j rt r h' ((.lstore 5, n, a, b) :: is) pc (l0 :: l1 :: l2 :: l3 :: none :: lz :: ly :: ls) (.long x :: st) h = x_ev nm tf fn Pg X j rt r h' is (pc + n) (l0 :: l1 :: l2 :: l3 :: none :: some (.long x) :: none :: ls) st h := by
  rw [x_ev_op rfl]
  show x_bind (x_stl (l0 :: l1 :: l2 :: l3 :: none :: lz :: ly :: ls) 5 (.long x :: st) h) _ = _
  rw [x_stl_at (by simp)]
  rfl
theorem xs_lstore_5_l {l0 l1 l2 l3 lz ly : Option Value} {y : Int64} {x : Int64} : x_ev nm tf fn Pg X j rt r h' ((.lstore 5, n, a, b) :: is) pc (l0 :: l1 :: l2 :: l3 :: some (.long y) :: lz :: ly :: ls) (.long x :: st) h = x_ev nm tf fn Pg X j rt r h' is (pc + n) (l0 :: l1 :: l2 :: l3 :: none :: some (.long x) :: none :: ls) st h := by
  rw [x_ev_op rfl]
  show x_bind (x_stl (l0 :: l1 :: l2 :: l3 :: some (.long y) :: lz :: ly :: ls) 5 (.long x :: st) h) _ = _
  rw [x_stl_at (by simp)]
  rfl
theorem xs_astore_n_1_i {lz : Option Value} {y : Int32} {x : Nat} : x_ev nm tf fn Pg X j rt r h' ((.astore_n 1, n, a, b) :: is) pc (some (.int y) :: lz :: ls) (.ref x :: st) h = x_ev nm tf fn Pg X j rt r h' is (pc + n) (some (.int y) :: some (.ref x) :: ls) st h := by
  rw [x_ev_op rfl]
  show x_bind (x_sta (some (.int y) :: lz :: ls) 1 (.ref x :: st) h) _ = _
  rw [x_sta_at (by simp)]
  rfl
theorem xs_astore_n_1_a {lz : Option Value} {y : Nat} {x : Nat} : x_ev nm tf fn Pg X j rt r h' ((.astore_n 1, n, a, b) :: is) pc (some (.ref y) :: lz :: ls) (.ref x :: st) h = x_ev nm tf fn Pg X j rt r h' is (pc + n) (some (.ref y) :: some (.ref x) :: ls) st h := by
  rw [x_ev_op rfl]
  show x_bind (x_sta (some (.ref y) :: lz :: ls) 1 (.ref x :: st) h) _ = _
  rw [x_sta_at (by simp)]
  rfl
theorem xs_astore_n_1_n {lz : Option Value} {x : Nat} : x_ev nm tf fn Pg X j rt r h' ((.astore_n 1, n, a, b) :: is) pc (none :: lz :: ls) (.ref x :: st) h = x_ev nm tf fn Pg X j rt r h' is (pc + n) (none :: some (.ref x) :: ls) st h := by
  rw [x_ev_op rfl]
  show x_bind (x_sta (none :: lz :: ls) 1 (.ref x :: st) h) _ = _
  rw [x_sta_at (by simp)]
  rfl
theorem xs_astore_n_1_l {lz : Option Value} {y : Int64} {x : Nat} : x_ev nm tf fn Pg X j rt r h' ((.astore_n 1, n, a, b) :: is) pc (some (.long y) :: lz :: ls) (.ref x :: st) h = x_ev nm tf fn Pg X j rt r h' is (pc + n) (none :: some (.ref x) :: ls) st h := by
  rw [x_ev_op rfl]
  show x_bind (x_sta (some (.long y) :: lz :: ls) 1 (.ref x :: st) h) _ = _
  rw [x_sta_at (by simp)]
  rfl
theorem xs_astore_n_2_i {l0 lz : Option Value} {y : Int32} {x : Nat} : x_ev nm tf fn Pg X j rt r h' ((.astore_n 2, n, a, b) :: is) pc (l0 :: some (.int y) :: lz :: ls) (.ref x :: st) h = x_ev nm tf fn Pg X j rt r h' is (pc + n) (l0 :: some (.int y) :: some (.ref x) :: ls) st h := by
  rw [x_ev_op rfl]
  show x_bind (x_sta (l0 :: some (.int y) :: lz :: ls) 2 (.ref x :: st) h) _ = _
  rw [x_sta_at (by simp)]
  rfl
theorem xs_astore_n_2_a {l0 lz : Option Value} {y : Nat} {x : Nat} : x_ev nm tf fn Pg X j rt r h' ((.astore_n 2, n, a, b) :: is) pc (l0 :: some (.ref y) :: lz :: ls) (.ref x :: st) h = x_ev nm tf fn Pg X j rt r h' is (pc + n) (l0 :: some (.ref y) :: some (.ref x) :: ls) st h := by
  rw [x_ev_op rfl]
  show x_bind (x_sta (l0 :: some (.ref y) :: lz :: ls) 2 (.ref x :: st) h) _ = _
  rw [x_sta_at (by simp)]
  rfl
theorem xs_astore_n_2_n {l0 lz : Option Value} {x : Nat} : x_ev nm tf fn Pg X j rt r h' ((.astore_n 2, n, a, b) :: is) pc (l0 :: none :: lz :: ls) (.ref x :: st) h = x_ev nm tf fn Pg X j rt r h' is (pc + n) (l0 :: none :: some (.ref x) :: ls) st h := by
  rw [x_ev_op rfl]
  show x_bind (x_sta (l0 :: none :: lz :: ls) 2 (.ref x :: st) h) _ = _
  rw [x_sta_at (by simp)]
  rfl
theorem xs_astore_n_2_l {l0 lz : Option Value} {y : Int64} {x : Nat} : x_ev nm tf fn Pg X j rt r h' ((.astore_n 2, n, a, b) :: is) pc (l0 :: some (.long y) :: lz :: ls) (.ref x :: st) h = x_ev nm tf fn Pg X j rt r h' is (pc + n) (l0 :: none :: some (.ref x) :: ls) st h := by
  rw [x_ev_op rfl]
  show x_bind (x_sta (l0 :: some (.long y) :: lz :: ls) 2 (.ref x :: st) h) _ = _
  rw [x_sta_at (by simp)]
  rfl
theorem xs_astore_n_3_i {l0 l1 lz : Option Value} {y : Int32} {x : Nat} : x_ev nm tf fn Pg X j rt r h' ((.astore_n 3, n, a, b) :: is) pc (l0 :: l1 :: some (.int y) :: lz :: ls) (.ref x :: st) h = x_ev nm tf fn Pg X j rt r h' is (pc + n) (l0 :: l1 :: some (.int y) :: some (.ref x) :: ls) st h := by
  rw [x_ev_op rfl]
  show x_bind (x_sta (l0 :: l1 :: some (.int y) :: lz :: ls) 3 (.ref x :: st) h) _ = _
  rw [x_sta_at (by simp)]
  rfl
theorem xs_astore_n_3_a {l0 l1 lz : Option Value} {y : Nat} {x : Nat} : x_ev nm tf fn Pg X j rt r h' ((.astore_n 3, n, a, b) :: is) pc (l0 :: l1 :: some (.ref y) :: lz :: ls) (.ref x :: st) h = x_ev nm tf fn Pg X j rt r h' is (pc + n) (l0 :: l1 :: some (.ref y) :: some (.ref x) :: ls) st h := by
  rw [x_ev_op rfl]
  show x_bind (x_sta (l0 :: l1 :: some (.ref y) :: lz :: ls) 3 (.ref x :: st) h) _ = _
  rw [x_sta_at (by simp)]
  rfl
theorem xs_astore_n_3_n {l0 l1 lz : Option Value} {x : Nat} : x_ev nm tf fn Pg X j rt r h' ((.astore_n 3, n, a, b) :: is) pc (l0 :: l1 :: none :: lz :: ls) (.ref x :: st) h = x_ev nm tf fn Pg X j rt r h' is (pc + n) (l0 :: l1 :: none :: some (.ref x) :: ls) st h := by
  rw [x_ev_op rfl]
  show x_bind (x_sta (l0 :: l1 :: none :: lz :: ls) 3 (.ref x :: st) h) _ = _
  rw [x_sta_at (by simp)]
  rfl
theorem xs_astore_n_3_l {l0 l1 lz : Option Value} {y : Int64} {x : Nat} : x_ev nm tf fn Pg X j rt r h' ((.astore_n 3, n, a, b) :: is) pc (l0 :: l1 :: some (.long y) :: lz :: ls) (.ref x :: st) h = x_ev nm tf fn Pg X j rt r h' is (pc + n) (l0 :: l1 :: none :: some (.ref x) :: ls) st h := by
  rw [x_ev_op rfl]
  show x_bind (x_sta (l0 :: l1 :: some (.long y) :: lz :: ls) 3 (.ref x :: st) h) _ = _
  rw [x_sta_at (by simp)]
  rfl
theorem xs_astore_5_i {l0 l1 l2 l3 lz : Option Value} {y : Int32} {x : Nat} : x_ev nm tf fn Pg X j rt r h' ((.astore 5, n, a, b) :: is) pc (l0 :: l1 :: l2 :: l3 :: some (.int y) :: lz :: ls) (.ref x :: st) h = x_ev nm tf fn Pg X j rt r h' is (pc + n) (l0 :: l1 :: l2 :: l3 :: some (.int y) :: some (.ref x) :: ls) st h := by
  rw [x_ev_op rfl]
  show x_bind (x_sta (l0 :: l1 :: l2 :: l3 :: some (.int y) :: lz :: ls) 5 (.ref x :: st) h) _ = _
  rw [x_sta_at (by simp)]
  rfl
theorem xs_astore_5_a {l0 l1 l2 l3 lz : Option Value} {y : Nat} {x : Nat} : x_ev nm tf fn Pg X j rt r h' ((.astore 5, n, a, b) :: is) pc (l0 :: l1 :: l2 :: l3 :: some (.ref y) :: lz :: ls) (.ref x :: st) h = x_ev nm tf fn Pg X j rt r h' is (pc + n) (l0 :: l1 :: l2 :: l3 :: some (.ref y) :: some (.ref x) :: ls) st h := by
  rw [x_ev_op rfl]
  show x_bind (x_sta (l0 :: l1 :: l2 :: l3 :: some (.ref y) :: lz :: ls) 5 (.ref x :: st) h) _ = _
  rw [x_sta_at (by simp)]
  rfl
theorem xs_astore_5_n {l0 l1 l2 l3 lz : Option Value} {x : Nat} : x_ev nm tf fn Pg X j rt r h' ((.astore 5, n, a, b) :: is) pc (l0 :: l1 :: l2 :: l3 :: none :: lz :: ls) (.ref x :: st) h = x_ev nm tf fn Pg X j rt r h' is (pc + n) (l0 :: l1 :: l2 :: l3 :: none :: some (.ref x) :: ls) st h := by
  rw [x_ev_op rfl]
  show x_bind (x_sta (l0 :: l1 :: l2 :: l3 :: none :: lz :: ls) 5 (.ref x :: st) h) _ = _
  rw [x_sta_at (by simp)]
  rfl
theorem xs_astore_5_l {l0 l1 l2 l3 lz : Option Value} {y : Int64} {x : Nat} : x_ev nm tf fn Pg X j rt r h' ((.astore 5, n, a, b) :: is) pc (l0 :: l1 :: l2 :: l3 :: some (.long y) :: lz :: ls) (.ref x :: st) h = x_ev nm tf fn Pg X j rt r h' is (pc + n) (l0 :: l1 :: l2 :: l3 :: none :: some (.ref x) :: ls) st h := by
  rw [x_ev_op rfl]
  show x_bind (x_sta (l0 :: l1 :: l2 :: l3 :: some (.long y) :: lz :: ls) 5 (.ref x :: st) h) _ = _
  rw [x_sta_at (by simp)]
  rfl
theorem xs_iinc_1_1_i {y : Int32} {x : Int32} : x_ev nm tf fn Pg X j rt r h' ((.iinc 1 1, n, a, b) :: is) pc (some (.int y) :: some (.int x) :: ls) st h = x_ev nm tf fn Pg X j rt r h' is (pc + n) (some (.int y) :: some (.int (x + (1))) :: ls) st h := by
  have e : Int32.ofInt (1) = 1 := by decide
  rw [x_ev_op rfl]
  show x_ev nm tf fn Pg X j rt r h' is (pc + n) (some (.int y) :: some (.int (x + Int32.ofInt (1))) :: ls) st h = _
  rw [e]
theorem xs_iinc_1_1_a {y : Nat} {x : Int32} : x_ev nm tf fn Pg X j rt r h' ((.iinc 1 1, n, a, b) :: is) pc (some (.ref y) :: some (.int x) :: ls) st h = x_ev nm tf fn Pg X j rt r h' is (pc + n) (some (.ref y) :: some (.int (x + (1))) :: ls) st h := by
  have e : Int32.ofInt (1) = 1 := by decide
  rw [x_ev_op rfl]
  show x_ev nm tf fn Pg X j rt r h' is (pc + n) (some (.ref y) :: some (.int (x + Int32.ofInt (1))) :: ls) st h = _
  rw [e]
theorem xs_iinc_1_1_n {x : Int32} : x_ev nm tf fn Pg X j rt r h' ((.iinc 1 1, n, a, b) :: is) pc (none :: some (.int x) :: ls) st h = x_ev nm tf fn Pg X j rt r h' is (pc + n) (none :: some (.int (x + (1))) :: ls) st h := by
  have e : Int32.ofInt (1) = 1 := by decide
  rw [x_ev_op rfl]
  show x_ev nm tf fn Pg X j rt r h' is (pc + n) (none :: some (.int (x + Int32.ofInt (1))) :: ls) st h = _
  rw [e]
theorem xs_iinc_2_1_i {l0 : Option Value} {y : Int32} {x : Int32} : x_ev nm tf fn Pg X j rt r h' ((.iinc 2 1, n, a, b) :: is) pc (l0 :: some (.int y) :: some (.int x) :: ls) st h = x_ev nm tf fn Pg X j rt r h' is (pc + n) (l0 :: some (.int y) :: some (.int (x + (1))) :: ls) st h := by
  have e : Int32.ofInt (1) = 1 := by decide
  rw [x_ev_op rfl]
  show x_ev nm tf fn Pg X j rt r h' is (pc + n) (l0 :: some (.int y) :: some (.int (x + Int32.ofInt (1))) :: ls) st h = _
  rw [e]
theorem xs_iinc_2_1_a {l0 : Option Value} {y : Nat} {x : Int32} : x_ev nm tf fn Pg X j rt r h' ((.iinc 2 1, n, a, b) :: is) pc (l0 :: some (.ref y) :: some (.int x) :: ls) st h = x_ev nm tf fn Pg X j rt r h' is (pc + n) (l0 :: some (.ref y) :: some (.int (x + (1))) :: ls) st h := by
  have e : Int32.ofInt (1) = 1 := by decide
  rw [x_ev_op rfl]
  show x_ev nm tf fn Pg X j rt r h' is (pc + n) (l0 :: some (.ref y) :: some (.int (x + Int32.ofInt (1))) :: ls) st h = _
  rw [e]
theorem xs_iinc_2_1_n {l0 : Option Value} {x : Int32} : x_ev nm tf fn Pg X j rt r h' ((.iinc 2 1, n, a, b) :: is) pc (l0 :: none :: some (.int x) :: ls) st h = x_ev nm tf fn Pg X j rt r h' is (pc + n) (l0 :: none :: some (.int (x + (1))) :: ls) st h := by
  have e : Int32.ofInt (1) = 1 := by decide
  rw [x_ev_op rfl]
  show x_ev nm tf fn Pg X j rt r h' is (pc + n) (l0 :: none :: some (.int (x + Int32.ofInt (1))) :: ls) st h = _
  rw [e]
theorem xs_iinc_3_m1_i {l0 l1 : Option Value} {y : Int32} {x : Int32} : x_ev nm tf fn Pg X j rt r h' ((.iinc 3 (-1), n, a, b) :: is) pc (l0 :: l1 :: some (.int y) :: some (.int x) :: ls) st h = x_ev nm tf fn Pg X j rt r h' is (pc + n) (l0 :: l1 :: some (.int y) :: some (.int (x + (-1))) :: ls) st h := by
  have e : Int32.ofInt (-1) = -1 := by decide
  rw [x_ev_op rfl]
  show x_ev nm tf fn Pg X j rt r h' is (pc + n) (l0 :: l1 :: some (.int y) :: some (.int (x + Int32.ofInt (-1))) :: ls) st h = _
  rw [e]
theorem xs_iinc_3_m1_a {l0 l1 : Option Value} {y : Nat} {x : Int32} : x_ev nm tf fn Pg X j rt r h' ((.iinc 3 (-1), n, a, b) :: is) pc (l0 :: l1 :: some (.ref y) :: some (.int x) :: ls) st h = x_ev nm tf fn Pg X j rt r h' is (pc + n) (l0 :: l1 :: some (.ref y) :: some (.int (x + (-1))) :: ls) st h := by
  have e : Int32.ofInt (-1) = -1 := by decide
  rw [x_ev_op rfl]
  show x_ev nm tf fn Pg X j rt r h' is (pc + n) (l0 :: l1 :: some (.ref y) :: some (.int (x + Int32.ofInt (-1))) :: ls) st h = _
  rw [e]
theorem xs_iinc_3_m1_n {l0 l1 : Option Value} {x : Int32} : x_ev nm tf fn Pg X j rt r h' ((.iinc 3 (-1), n, a, b) :: is) pc (l0 :: l1 :: none :: some (.int x) :: ls) st h = x_ev nm tf fn Pg X j rt r h' is (pc + n) (l0 :: l1 :: none :: some (.int (x + (-1))) :: ls) st h := by
  have e : Int32.ofInt (-1) = -1 := by decide
  rw [x_ev_op rfl]
  show x_ev nm tf fn Pg X j rt r h' is (pc + n) (l0 :: l1 :: none :: some (.int (x + Int32.ofInt (-1))) :: ls) st h = _
  rw [e]
theorem xs_iinc_3_1_i {l0 l1 : Option Value} {y : Int32} {x : Int32} : x_ev nm tf fn Pg X j rt r h' ((.iinc 3 1, n, a, b) :: is) pc (l0 :: l1 :: some (.int y) :: some (.int x) :: ls) st h = x_ev nm tf fn Pg X j rt r h' is (pc + n) (l0 :: l1 :: some (.int y) :: some (.int (x + (1))) :: ls) st h := by
  have e : Int32.ofInt (1) = 1 := by decide
  rw [x_ev_op rfl]
  show x_ev nm tf fn Pg X j rt r h' is (pc + n) (l0 :: l1 :: some (.int y) :: some (.int (x + Int32.ofInt (1))) :: ls) st h = _
  rw [e]
theorem xs_iinc_3_1_a {l0 l1 : Option Value} {y : Nat} {x : Int32} : x_ev nm tf fn Pg X j rt r h' ((.iinc 3 1, n, a, b) :: is) pc (l0 :: l1 :: some (.ref y) :: some (.int x) :: ls) st h = x_ev nm tf fn Pg X j rt r h' is (pc + n) (l0 :: l1 :: some (.ref y) :: some (.int (x + (1))) :: ls) st h := by
  have e : Int32.ofInt (1) = 1 := by decide
  rw [x_ev_op rfl]
  show x_ev nm tf fn Pg X j rt r h' is (pc + n) (l0 :: l1 :: some (.ref y) :: some (.int (x + Int32.ofInt (1))) :: ls) st h = _
  rw [e]
theorem xs_iinc_3_1_n {l0 l1 : Option Value} {x : Int32} : x_ev nm tf fn Pg X j rt r h' ((.iinc 3 1, n, a, b) :: is) pc (l0 :: l1 :: none :: some (.int x) :: ls) st h = x_ev nm tf fn Pg X j rt r h' is (pc + n) (l0 :: l1 :: none :: some (.int (x + (1))) :: ls) st h := by
  have e : Int32.ofInt (1) = 1 := by decide
  rw [x_ev_op rfl]
  show x_ev nm tf fn Pg X j rt r h' is (pc + n) (l0 :: l1 :: none :: some (.int (x + Int32.ofInt (1))) :: ls) st h = _
  rw [e]
theorem xs_iinc_3_5_i {l0 l1 : Option Value} {y : Int32} {x : Int32} : x_ev nm tf fn Pg X j rt r h' ((.iinc 3 5, n, a, b) :: is) pc (l0 :: l1 :: some (.int y) :: some (.int x) :: ls) st h = x_ev nm tf fn Pg X j rt r h' is (pc + n) (l0 :: l1 :: some (.int y) :: some (.int (x + (5))) :: ls) st h := by
  have e : Int32.ofInt (5) = 5 := by decide
  rw [x_ev_op rfl]
  show x_ev nm tf fn Pg X j rt r h' is (pc + n) (l0 :: l1 :: some (.int y) :: some (.int (x + Int32.ofInt (5))) :: ls) st h = _
  rw [e]
theorem xs_iinc_3_5_a {l0 l1 : Option Value} {y : Nat} {x : Int32} : x_ev nm tf fn Pg X j rt r h' ((.iinc 3 5, n, a, b) :: is) pc (l0 :: l1 :: some (.ref y) :: some (.int x) :: ls) st h = x_ev nm tf fn Pg X j rt r h' is (pc + n) (l0 :: l1 :: some (.ref y) :: some (.int (x + (5))) :: ls) st h := by
  have e : Int32.ofInt (5) = 5 := by decide
  rw [x_ev_op rfl]
  show x_ev nm tf fn Pg X j rt r h' is (pc + n) (l0 :: l1 :: some (.ref y) :: some (.int (x + Int32.ofInt (5))) :: ls) st h = _
  rw [e]
theorem xs_iinc_3_5_n {l0 l1 : Option Value} {x : Int32} : x_ev nm tf fn Pg X j rt r h' ((.iinc 3 5, n, a, b) :: is) pc (l0 :: l1 :: none :: some (.int x) :: ls) st h = x_ev nm tf fn Pg X j rt r h' is (pc + n) (l0 :: l1 :: none :: some (.int (x + (5))) :: ls) st h := by
  have e : Int32.ofInt (5) = 5 := by decide
  rw [x_ev_op rfl]
  show x_ev nm tf fn Pg X j rt r h' is (pc + n) (l0 :: l1 :: none :: some (.int (x + Int32.ofInt (5))) :: ls) st h = _
  rw [e]
theorem xs_iinc_4_m1_i {l0 l1 l2 : Option Value} {y : Int32} {x : Int32} : x_ev nm tf fn Pg X j rt r h' ((.iinc 4 (-1), n, a, b) :: is) pc (l0 :: l1 :: l2 :: some (.int y) :: some (.int x) :: ls) st h = x_ev nm tf fn Pg X j rt r h' is (pc + n) (l0 :: l1 :: l2 :: some (.int y) :: some (.int (x + (-1))) :: ls) st h := by
  have e : Int32.ofInt (-1) = -1 := by decide
  rw [x_ev_op rfl]
  show x_ev nm tf fn Pg X j rt r h' is (pc + n) (l0 :: l1 :: l2 :: some (.int y) :: some (.int (x + Int32.ofInt (-1))) :: ls) st h = _
  rw [e]
theorem xs_iinc_4_m1_a {l0 l1 l2 : Option Value} {y : Nat} {x : Int32} : x_ev nm tf fn Pg X j rt r h' ((.iinc 4 (-1), n, a, b) :: is) pc (l0 :: l1 :: l2 :: some (.ref y) :: some (.int x) :: ls) st h = x_ev nm tf fn Pg X j rt r h' is (pc + n) (l0 :: l1 :: l2 :: some (.ref y) :: some (.int (x + (-1))) :: ls) st h := by
  have e : Int32.ofInt (-1) = -1 := by decide
  rw [x_ev_op rfl]
  show x_ev nm tf fn Pg X j rt r h' is (pc + n) (l0 :: l1 :: l2 :: some (.ref y) :: some (.int (x + Int32.ofInt (-1))) :: ls) st h = _
  rw [e]
theorem xs_iinc_4_m1_n {l0 l1 l2 : Option Value} {x : Int32} : x_ev nm tf fn Pg X j rt r h' ((.iinc 4 (-1), n, a, b) :: is) pc (l0 :: l1 :: l2 :: none :: some (.int x) :: ls) st h = x_ev nm tf fn Pg X j rt r h' is (pc + n) (l0 :: l1 :: l2 :: none :: some (.int (x + (-1))) :: ls) st h := by
  have e : Int32.ofInt (-1) = -1 := by decide
  rw [x_ev_op rfl]
  show x_ev nm tf fn Pg X j rt r h' is (pc + n) (l0 :: l1 :: l2 :: none :: some (.int (x + Int32.ofInt (-1))) :: ls) st h = _
  rw [e]
theorem xs_iinc_4_1_i {l0 l1 l2 : Option Value} {y : Int32} {x : Int32} : x_ev nm tf fn Pg X j rt r h' ((.iinc 4 1, n, a, b) :: is) pc (l0 :: l1 :: l2 :: some (.int y) :: some (.int x) :: ls) st h = x_ev nm tf fn Pg X j rt r h' is (pc + n) (l0 :: l1 :: l2 :: some (.int y) :: some (.int (x + (1))) :: ls) st h := by
  have e : Int32.ofInt (1) = 1 := by decide
  rw [x_ev_op rfl]
  show x_ev nm tf fn Pg X j rt r h' is (pc + n) (l0 :: l1 :: l2 :: some (.int y) :: some (.int (x + Int32.ofInt (1))) :: ls) st h = _
  rw [e]
theorem xs_iinc_4_1_a {l0 l1 l2 : Option Value} {y : Nat} {x : Int32} : x_ev nm tf fn Pg X j rt r h' ((.iinc 4 1, n, a, b) :: is) pc (l0 :: l1 :: l2 :: some (.ref y) :: some (.int x) :: ls) st h = x_ev nm tf fn Pg X j rt r h' is (pc + n) (l0 :: l1 :: l2 :: some (.ref y) :: some (.int (x + (1))) :: ls) st h := by
  have e : Int32.ofInt (1) = 1 := by decide
  rw [x_ev_op rfl]
  show x_ev nm tf fn Pg X j rt r h' is (pc + n) (l0 :: l1 :: l2 :: some (.ref y) :: some (.int (x + Int32.ofInt (1))) :: ls) st h = _
  rw [e]
theorem xs_iinc_4_1_n {l0 l1 l2 : Option Value} {x : Int32} : x_ev nm tf fn Pg X j rt r h' ((.iinc 4 1, n, a, b) :: is) pc (l0 :: l1 :: l2 :: none :: some (.int x) :: ls) st h = x_ev nm tf fn Pg X j rt r h' is (pc + n) (l0 :: l1 :: l2 :: none :: some (.int (x + (1))) :: ls) st h := by
  have e : Int32.ofInt (1) = 1 := by decide
  rw [x_ev_op rfl]
  show x_ev nm tf fn Pg X j rt r h' is (pc + n) (l0 :: l1 :: l2 :: none :: some (.int (x + Int32.ofInt (1))) :: ls) st h = _
  rw [e]
theorem xs_iinc_5_1_i {l0 l1 l2 l3 : Option Value} {y : Int32} {x : Int32} : x_ev nm tf fn Pg X j rt r h' ((.iinc 5 1, n, a, b) :: is) pc (l0 :: l1 :: l2 :: l3 :: some (.int y) :: some (.int x) :: ls) st h = x_ev nm tf fn Pg X j rt r h' is (pc + n) (l0 :: l1 :: l2 :: l3 :: some (.int y) :: some (.int (x + (1))) :: ls) st h := by
  have e : Int32.ofInt (1) = 1 := by decide
  rw [x_ev_op rfl]
  show x_ev nm tf fn Pg X j rt r h' is (pc + n) (l0 :: l1 :: l2 :: l3 :: some (.int y) :: some (.int (x + Int32.ofInt (1))) :: ls) st h = _
  rw [e]
theorem xs_iinc_5_1_a {l0 l1 l2 l3 : Option Value} {y : Nat} {x : Int32} : x_ev nm tf fn Pg X j rt r h' ((.iinc 5 1, n, a, b) :: is) pc (l0 :: l1 :: l2 :: l3 :: some (.ref y) :: some (.int x) :: ls) st h = x_ev nm tf fn Pg X j rt r h' is (pc + n) (l0 :: l1 :: l2 :: l3 :: some (.ref y) :: some (.int (x + (1))) :: ls) st h := by
  have e : Int32.ofInt (1) = 1 := by decide
  rw [x_ev_op rfl]
  show x_ev nm tf fn Pg X j rt r h' is (pc + n) (l0 :: l1 :: l2 :: l3 :: some (.ref y) :: some (.int (x + Int32.ofInt (1))) :: ls) st h = _
  rw [e]
theorem xs_iinc_5_1_n {l0 l1 l2 l3 : Option Value} {x : Int32} : x_ev nm tf fn Pg X j rt r h' ((.iinc 5 1, n, a, b) :: is) pc (l0 :: l1 :: l2 :: l3 :: none :: some (.int x) :: ls) st h = x_ev nm tf fn Pg X j rt r h' is (pc + n) (l0 :: l1 :: l2 :: l3 :: none :: some (.int (x + (1))) :: ls) st h := by
  have e : Int32.ofInt (1) = 1 := by decide
  rw [x_ev_op rfl]
  show x_ev nm tf fn Pg X j rt r h' is (pc + n) (l0 :: l1 :: l2 :: l3 :: none :: some (.int (x + Int32.ofInt (1))) :: ls) st h = _
  rw [e]
theorem xs_iinc_6_1_i {l0 l1 l2 l3 l4 : Option Value} {y : Int32} {x : Int32} : x_ev nm tf fn Pg X j rt r h' ((.iinc 6 1, n, a, b) :: is) pc (l0 :: l1 :: l2 :: l3 :: l4 :: some (.int y) :: some (.int x) :: ls) st h = x_ev nm tf fn Pg X j rt r h' is (pc + n) (l0 :: l1 :: l2 :: l3 :: l4 :: some (.int y) :: some (.int (x + (1))) :: ls) st h := by
  have e : Int32.ofInt (1) = 1 := by decide
  rw [x_ev_op rfl]
  show x_ev nm tf fn Pg X j rt r h' is (pc + n) (l0 :: l1 :: l2 :: l3 :: l4 :: some (.int y) :: some (.int (x + Int32.ofInt (1))) :: ls) st h = _
  rw [e]
theorem xs_iinc_6_1_a {l0 l1 l2 l3 l4 : Option Value} {y : Nat} {x : Int32} : x_ev nm tf fn Pg X j rt r h' ((.iinc 6 1, n, a, b) :: is) pc (l0 :: l1 :: l2 :: l3 :: l4 :: some (.ref y) :: some (.int x) :: ls) st h = x_ev nm tf fn Pg X j rt r h' is (pc + n) (l0 :: l1 :: l2 :: l3 :: l4 :: some (.ref y) :: some (.int (x + (1))) :: ls) st h := by
  have e : Int32.ofInt (1) = 1 := by decide
  rw [x_ev_op rfl]
  show x_ev nm tf fn Pg X j rt r h' is (pc + n) (l0 :: l1 :: l2 :: l3 :: l4 :: some (.ref y) :: some (.int (x + Int32.ofInt (1))) :: ls) st h = _
  rw [e]
theorem xs_iinc_6_1_n {l0 l1 l2 l3 l4 : Option Value} {x : Int32} : x_ev nm tf fn Pg X j rt r h' ((.iinc 6 1, n, a, b) :: is) pc (l0 :: l1 :: l2 :: l3 :: l4 :: none :: some (.int x) :: ls) st h = x_ev nm tf fn Pg X j rt r h' is (pc + n) (l0 :: l1 :: l2 :: l3 :: l4 :: none :: some (.int (x + (1))) :: ls) st h := by
  have e : Int32.ofInt (1) = 1 := by decide
  rw [x_ev_op rfl]
  show x_ev nm tf fn Pg X j rt r h' is (pc + n) (l0 :: l1 :: l2 :: l3 :: l4 :: none :: some (.int (x + Int32.ofInt (1))) :: ls) st h = _
  rw [e]
theorem xs_iinc_7_1_i {l0 l1 l2 l3 l4 l5 : Option Value} {y : Int32} {x : Int32} : x_ev nm tf fn Pg X j rt r h' ((.iinc 7 1, n, a, b) :: is) pc (l0 :: l1 :: l2 :: l3 :: l4 :: l5 :: some (.int y) :: some (.int x) :: ls) st h = x_ev nm tf fn Pg X j rt r h' is (pc + n) (l0 :: l1 :: l2 :: l3 :: l4 :: l5 :: some (.int y) :: some (.int (x + (1))) :: ls) st h := by
  have e : Int32.ofInt (1) = 1 := by decide
  rw [x_ev_op rfl]
  show x_ev nm tf fn Pg X j rt r h' is (pc + n) (l0 :: l1 :: l2 :: l3 :: l4 :: l5 :: some (.int y) :: some (.int (x + Int32.ofInt (1))) :: ls) st h = _
  rw [e]
theorem xs_iinc_7_1_a {l0 l1 l2 l3 l4 l5 : Option Value} {y : Nat} {x : Int32} : x_ev nm tf fn Pg X j rt r h' ((.iinc 7 1, n, a, b) :: is) pc (l0 :: l1 :: l2 :: l3 :: l4 :: l5 :: some (.ref y) :: some (.int x) :: ls) st h = x_ev nm tf fn Pg X j rt r h' is (pc + n) (l0 :: l1 :: l2 :: l3 :: l4 :: l5 :: some (.ref y) :: some (.int (x + (1))) :: ls) st h := by
  have e : Int32.ofInt (1) = 1 := by decide
  rw [x_ev_op rfl]
  show x_ev nm tf fn Pg X j rt r h' is (pc + n) (l0 :: l1 :: l2 :: l3 :: l4 :: l5 :: some (.ref y) :: some (.int (x + Int32.ofInt (1))) :: ls) st h = _
  rw [e]
theorem xs_iinc_7_1_n {l0 l1 l2 l3 l4 l5 : Option Value} {x : Int32} : x_ev nm tf fn Pg X j rt r h' ((.iinc 7 1, n, a, b) :: is) pc (l0 :: l1 :: l2 :: l3 :: l4 :: l5 :: none :: some (.int x) :: ls) st h = x_ev nm tf fn Pg X j rt r h' is (pc + n) (l0 :: l1 :: l2 :: l3 :: l4 :: l5 :: none :: some (.int (x + (1))) :: ls) st h := by
  have e : Int32.ofInt (1) = 1 := by decide
  rw [x_ev_op rfl]
  show x_ev nm tf fn Pg X j rt r h' is (pc + n) (l0 :: l1 :: l2 :: l3 :: l4 :: l5 :: none :: some (.int (x + Int32.ofInt (1))) :: ls) st h = _
  rw [e]
theorem xs_iinc_8_1_i {l0 l1 l2 l3 l4 l5 l6 : Option Value} {y : Int32} {x : Int32} : x_ev nm tf fn Pg X j rt r h' ((.iinc 8 1, n, a, b) :: is) pc (l0 :: l1 :: l2 :: l3 :: l4 :: l5 :: l6 :: some (.int y) :: some (.int x) :: ls) st h = x_ev nm tf fn Pg X j rt r h' is (pc + n) (l0 :: l1 :: l2 :: l3 :: l4 :: l5 :: l6 :: some (.int y) :: some (.int (x + (1))) :: ls) st h := by
  have e : Int32.ofInt (1) = 1 := by decide
  rw [x_ev_op rfl]
  show x_ev nm tf fn Pg X j rt r h' is (pc + n) (l0 :: l1 :: l2 :: l3 :: l4 :: l5 :: l6 :: some (.int y) :: some (.int (x + Int32.ofInt (1))) :: ls) st h = _
  rw [e]
theorem xs_iinc_8_1_a {l0 l1 l2 l3 l4 l5 l6 : Option Value} {y : Nat} {x : Int32} : x_ev nm tf fn Pg X j rt r h' ((.iinc 8 1, n, a, b) :: is) pc (l0 :: l1 :: l2 :: l3 :: l4 :: l5 :: l6 :: some (.ref y) :: some (.int x) :: ls) st h = x_ev nm tf fn Pg X j rt r h' is (pc + n) (l0 :: l1 :: l2 :: l3 :: l4 :: l5 :: l6 :: some (.ref y) :: some (.int (x + (1))) :: ls) st h := by
  have e : Int32.ofInt (1) = 1 := by decide
  rw [x_ev_op rfl]
  show x_ev nm tf fn Pg X j rt r h' is (pc + n) (l0 :: l1 :: l2 :: l3 :: l4 :: l5 :: l6 :: some (.ref y) :: some (.int (x + Int32.ofInt (1))) :: ls) st h = _
  rw [e]
theorem xs_iinc_8_1_n {l0 l1 l2 l3 l4 l5 l6 : Option Value} {x : Int32} : x_ev nm tf fn Pg X j rt r h' ((.iinc 8 1, n, a, b) :: is) pc (l0 :: l1 :: l2 :: l3 :: l4 :: l5 :: l6 :: none :: some (.int x) :: ls) st h = x_ev nm tf fn Pg X j rt r h' is (pc + n) (l0 :: l1 :: l2 :: l3 :: l4 :: l5 :: l6 :: none :: some (.int (x + (1))) :: ls) st h := by
  have e : Int32.ofInt (1) = 1 := by decide
  rw [x_ev_op rfl]
  show x_ev nm tf fn Pg X j rt r h' is (pc + n) (l0 :: l1 :: l2 :: l3 :: l4 :: l5 :: l6 :: none :: some (.int (x + Int32.ofInt (1))) :: ls) st h = _
  rw [e]
theorem xs_iinc_9_1_i {l0 l1 l2 l3 l4 l5 l6 l7 : Option Value} {y : Int32} {x : Int32} : x_ev nm tf fn Pg X j rt r h' ((.iinc 9 1, n, a, b) :: is) pc (l0 :: l1 :: l2 :: l3 :: l4 :: l5 :: l6 :: l7 :: some (.int y) :: some (.int x) :: ls) st h = x_ev nm tf fn Pg X j rt r h' is (pc + n) (l0 :: l1 :: l2 :: l3 :: l4 :: l5 :: l6 :: l7 :: some (.int y) :: some (.int (x + (1))) :: ls) st h := by
  have e : Int32.ofInt (1) = 1 := by decide
  rw [x_ev_op rfl]
  show x_ev nm tf fn Pg X j rt r h' is (pc + n) (l0 :: l1 :: l2 :: l3 :: l4 :: l5 :: l6 :: l7 :: some (.int y) :: some (.int (x + Int32.ofInt (1))) :: ls) st h = _
  rw [e]
theorem xs_iinc_9_1_a {l0 l1 l2 l3 l4 l5 l6 l7 : Option Value} {y : Nat} {x : Int32} : x_ev nm tf fn Pg X j rt r h' ((.iinc 9 1, n, a, b) :: is) pc (l0 :: l1 :: l2 :: l3 :: l4 :: l5 :: l6 :: l7 :: some (.ref y) :: some (.int x) :: ls) st h = x_ev nm tf fn Pg X j rt r h' is (pc + n) (l0 :: l1 :: l2 :: l3 :: l4 :: l5 :: l6 :: l7 :: some (.ref y) :: some (.int (x + (1))) :: ls) st h := by
  have e : Int32.ofInt (1) = 1 := by decide
  rw [x_ev_op rfl]
  show x_ev nm tf fn Pg X j rt r h' is (pc + n) (l0 :: l1 :: l2 :: l3 :: l4 :: l5 :: l6 :: l7 :: some (.ref y) :: some (.int (x + Int32.ofInt (1))) :: ls) st h = _
  rw [e]
theorem xs_iinc_9_1_n {l0 l1 l2 l3 l4 l5 l6 l7 : Option Value} {x : Int32} : x_ev nm tf fn Pg X j rt r h' ((.iinc 9 1, n, a, b) :: is) pc (l0 :: l1 :: l2 :: l3 :: l4 :: l5 :: l6 :: l7 :: none :: some (.int x) :: ls) st h = x_ev nm tf fn Pg X j rt r h' is (pc + n) (l0 :: l1 :: l2 :: l3 :: l4 :: l5 :: l6 :: l7 :: none :: some (.int (x + (1))) :: ls) st h := by
  have e : Int32.ofInt (1) = 1 := by decide
  rw [x_ev_op rfl]
  show x_ev nm tf fn Pg X j rt r h' is (pc + n) (l0 :: l1 :: l2 :: l3 :: l4 :: l5 :: l6 :: l7 :: none :: some (.int (x + Int32.ofInt (1))) :: ls) st h = _
  rw [e]
theorem xs_iadd {x y : Int32} : x_ev nm tf fn Pg X j rt r h' ((.iadd, n, a, b) :: is) pc ls (.int y :: .int x :: st) h = x_ev nm tf fn Pg X j rt r h' is (pc + n) ls (.int (x + y) :: st) h := by
  rw [x_ev_op rfl]
  rfl
theorem xs_isub {x y : Int32} : x_ev nm tf fn Pg X j rt r h' ((.isub, n, a, b) :: is) pc ls (.int y :: .int x :: st) h = x_ev nm tf fn Pg X j rt r h' is (pc + n) ls (.int (x - y) :: st) h := by
  rw [x_ev_op rfl]
  rfl
theorem xs_imul {x y : Int32} : x_ev nm tf fn Pg X j rt r h' ((.imul, n, a, b) :: is) pc ls (.int y :: .int x :: st) h = x_ev nm tf fn Pg X j rt r h' is (pc + n) ls (.int (x * y) :: st) h := by
  rw [x_ev_op rfl]
  rfl
theorem xs_iand {x y : Int32} : x_ev nm tf fn Pg X j rt r h' ((.iand, n, a, b) :: is) pc ls (.int y :: .int x :: st) h = x_ev nm tf fn Pg X j rt r h' is (pc + n) ls (.int (x &&& y) :: st) h := by
  rw [x_ev_op rfl]
  rfl
theorem xs_ior {x y : Int32} : x_ev nm tf fn Pg X j rt r h' ((.ior, n, a, b) :: is) pc ls (.int y :: .int x :: st) h = x_ev nm tf fn Pg X j rt r h' is (pc + n) ls (.int (x ||| y) :: st) h := by
  rw [x_ev_op rfl]
  rfl
theorem xs_ishl {x y : Int32} : x_ev nm tf fn Pg X j rt r h' ((.ishl, n, a, b) :: is) pc ls (.int y :: .int x :: st) h = x_ev nm tf fn Pg X j rt r h' is (pc + n) ls (.int (x <<< (y &&& 31)) :: st) h := by
  rw [x_ev_op rfl]
  rfl
theorem xs_ishr {x y : Int32} : x_ev nm tf fn Pg X j rt r h' ((.ishr, n, a, b) :: is) pc ls (.int y :: .int x :: st) h = x_ev nm tf fn Pg X j rt r h' is (pc + n) ls (.int (x >>> (y &&& 31)) :: st) h := by
  rw [x_ev_op rfl]
  rfl
theorem xs_idiv {x y : Int32} : x_ev nm tf fn Pg X j rt r h' ((.idiv, n, a, b) :: is) pc ls (.int y :: .int x :: st) h = (¬ y = 0 ∧ x_ev nm tf fn Pg X j rt r h' is (pc + n) ls (.int (x / y) :: st) h) := by
  rw [x_ev_op rfl]
  show x_bind (x_iz (fun x y => x / y) ls (.int y :: .int x :: st) h) _ = _
  unfold x_iz x_bind
  by_cases hy : y = 0
  · simp [hy]
  · simp [hy]
theorem xs_irem {x y : Int32} : x_ev nm tf fn Pg X j rt r h' ((.irem, n, a, b) :: is) pc ls (.int y :: .int x :: st) h = (¬ y = 0 ∧ x_ev nm tf fn Pg X j rt r h' is (pc + n) ls (.int (x - x / y * y) :: st) h) := by
  rw [x_ev_op rfl]
  show x_bind (x_iz (fun x y => x - x / y * y) ls (.int y :: .int x :: st) h) _ = _
  unfold x_iz x_bind
  by_cases hy : y = 0
  · simp [hy]
  · simp [hy]
theorem xs_ladd {x y : Int64} : x_ev nm tf fn Pg X j rt r h' ((.ladd, n, a, b) :: is) pc ls (.long y :: .long x :: st) h = x_ev nm tf fn Pg X j rt r h' is (pc + n) ls (.long (x + y) :: st) h := by
  rw [x_ev_op rfl]
  rfl
theorem xs_lmul {x y : Int64} : x_ev nm tf fn Pg X j rt r h' ((.lmul, n, a, b) :: is) pc ls (.long y :: .long x :: st) h = x_ev nm tf fn Pg X j rt r h' is (pc + n) ls (.long (x * y) :: st) h := by
  rw [x_ev_op rfl]
  rfl
theorem xs_land {x y : Int64} : x_ev nm tf fn Pg X j rt r h' ((.land, n, a, b) :: is) pc ls (.long y :: .long x :: st) h = x_ev nm tf fn Pg X j rt r h' is (pc + n) ls (.long (x &&& y) :: st) h := by
  rw [x_ev_op rfl]
  rfl
theorem xs_lshl {x : Int64} {y : Int32} : x_ev nm tf fn Pg X j rt r h' ((.lshl, n, a, b) :: is) pc ls (.int y :: .long x :: st) h = x_ev nm tf fn Pg X j rt r h' is (pc + n) ls (.long (x <<< (y.toInt64 &&& 63)) :: st) h := by
  rw [x_ev_op rfl]
  rfl
theorem xs_lshr {x : Int64} {y : Int32} : x_ev nm tf fn Pg X j rt r h' ((.lshr, n, a, b) :: is) pc ls (.int y :: .long x :: st) h = x_ev nm tf fn Pg X j rt r h' is (pc + n) ls (.long (x >>> (y.toInt64 &&& 63)) :: st) h := by
  rw [x_ev_op rfl]
  rfl
theorem xs_i2l {x : Int32} : x_ev nm tf fn Pg X j rt r h' ((.i2l, n, a, b) :: is) pc ls (.int x :: st) h = x_ev nm tf fn Pg X j rt r h' is (pc + n) ls (.long x.toInt64 :: st) h := by
  rw [x_ev_op rfl]
  rfl
theorem xs_l2i {x : Int64} : x_ev nm tf fn Pg X j rt r h' ((.l2i, n, a, b) :: is) pc ls (.long x :: st) h = x_ev nm tf fn Pg X j rt r h' is (pc + n) ls (.int x.toInt32 :: st) h := by
  rw [x_ev_op rfl]
  rfl
theorem xs_lcmp {x y : Int64} : x_ev nm tf fn Pg X j rt r h' ((.lcmp, n, a, b) :: is) pc ls (.long y :: .long x :: st) h = x_ev nm tf fn Pg X j rt r h' is (pc + n) ls (.int (lg_cmp x y) :: st) h := by
  rw [x_ev_op rfl]
  rfl
theorem xs_dup_i {x : Int32} : x_ev nm tf fn Pg X j rt r h' ((.dup, n, a, b) :: is) pc ls (.int x :: st) h = x_ev nm tf fn Pg X j rt r h' is (pc + n) ls (.int x :: .int x :: st) h := by
  rw [x_ev_op rfl]
  rfl
theorem xs_pop_i {x : Int32} : x_ev nm tf fn Pg X j rt r h' ((.pop, n, a, b) :: is) pc ls (.int x :: st) h = x_ev nm tf fn Pg X j rt r h' is (pc + n) ls st h := by
  rw [x_ev_op rfl]
  rfl
theorem xs_dup_a {x : Nat} : x_ev nm tf fn Pg X j rt r h' ((.dup, n, a, b) :: is) pc ls (.ref x :: st) h = x_ev nm tf fn Pg X j rt r h' is (pc + n) ls (.ref x :: .ref x :: st) h := by
  rw [x_ev_op rfl]
  rfl
theorem xs_pop_a {x : Nat} : x_ev nm tf fn Pg X j rt r h' ((.pop, n, a, b) :: is) pc ls (.ref x :: st) h = x_ev nm tf fn Pg X j rt r h' is (pc + n) ls st h := by
  rw [x_ev_op rfl]
  rfl
theorem xs_dup2 {x : Int32} {y : Nat} : x_ev nm tf fn Pg X j rt r h' ((.dup2, n, a, b) :: is) pc ls (.int x :: .ref y :: st) h = x_ev nm tf fn Pg X j rt r h' is (pc + n) ls (.int x :: .ref y :: .int x :: .ref y :: st) h := by
  rw [x_ev_op rfl]
  rfl
theorem xs_getfield {i oo : Nat} : x_ev nm tf fn Pg X j rt r h' ((.getfield i, n, a, b) :: is) pc ls (.ref oo :: st) h = x_gf h oo a b (fun v => x_ev nm tf fn Pg X j rt r h' is (pc + n) ls (v :: st) h) := by
  rw [x_ev_op rfl]
  show x_bind (x_getf a b ls (.ref oo :: st) h) _ = _
  unfold x_bind x_getf x_gf
  dsimp only
  cases h[oo]? with
  | none => rfl
  | some c0 =>
    cases c0 with
    | inl z => rfl
    | inr z =>
      obtain ⟨ci, fs⟩ := z
      dsimp only
      by_cases hc : ci = a
      · rw [if_pos hc]
        cases fs[b]? <;> simp [hc]
      · rw [if_neg hc]
        simp [hc]
theorem xs_putfield {i oo : Nat} {v : Value} : x_ev nm tf fn Pg X j rt r h' ((.putfield i, n, a, b) :: is) pc ls (v :: .ref oo :: st) h = x_pf tf h oo a b v (fun h2 => x_ev nm tf fn Pg X j rt r h' is (pc + n) ls st h2) := by
  rw [x_ev_op rfl]
  show x_bind (x_putf tf a b ls (v :: .ref oo :: st) h) _ = _
  unfold x_bind x_putf x_pf
  dsimp only
  by_cases h2 : 2 ≤ oo
  · rw [if_pos h2]
    cases h[oo]? with
    | none => rfl
    | some c0 =>
      cases c0 with
      | inl z => rfl
      | inr z =>
        obtain ⟨ci, fs⟩ := z
        dsimp only
        by_cases hc : ci = a ∧ b < fs.length ∧ x_fit (tf a b) v = true
        · rw [if_pos hc]
          simp [hc, h2]
        · rw [if_neg hc]
          simp [h2, hc]
  · rw [if_neg h2]
    cases h[oo]? with
    | none => rfl
    | some c0 =>
      cases c0 with
      | inl z => rfl
      | inr z => simp [h2]
theorem xs_getstatic {i : Nat} : x_ev nm tf fn Pg X j rt r h' ((.getstatic i, n, a, b) :: is) pc ls st h = x_ev nm tf fn Pg X j rt r h' is (pc + n) ls (.ref 1 :: st) h := by
  rw [x_ev_op rfl]
  rfl
theorem xs_if_eq {off : Int} {x : Int32} : x_ev nm tf fn Pg X j rt r h' ((.ifCond .eq off, n, a, b) :: is) pc ls (.int x :: st) h = ((x = 0 → X j a ls st h r h') ∧ (¬ (x = 0) → x_ev nm tf fn Pg X j rt r h' is (pc + n) ls st h)) := rfl
theorem xs_icmp_eq {off : Int} {x y : Int32} : x_ev nm tf fn Pg X j rt r h' ((.if_icmp .eq off, n, a, b) :: is) pc ls (.int y :: .int x :: st) h = ((x = y → X j a ls st h r h') ∧ (¬ (x = y) → x_ev nm tf fn Pg X j rt r h' is (pc + n) ls st h)) := rfl
theorem xs_if_ne {off : Int} {x : Int32} : x_ev nm tf fn Pg X j rt r h' ((.ifCond .ne off, n, a, b) :: is) pc ls (.int x :: st) h = ((¬ x = 0 → X j a ls st h r h') ∧ (¬ (¬ x = 0) → x_ev nm tf fn Pg X j rt r h' is (pc + n) ls st h)) := rfl
theorem xs_icmp_ne {off : Int} {x y : Int32} : x_ev nm tf fn Pg X j rt r h' ((.if_icmp .ne off, n, a, b) :: is) pc ls (.int y :: .int x :: st) h = ((¬ x = y → X j a ls st h r h') ∧ (¬ (¬ x = y) → x_ev nm tf fn Pg X j rt r h' is (pc + n) ls st h)) := rfl
theorem xs_if_lt {off : Int} {x : Int32} : x_ev nm tf fn Pg X j rt r h' ((.ifCond .lt off, n, a, b) :: is) pc ls (.int x :: st) h = ((x < 0 → X j a ls st h r h') ∧ (¬ (x < 0) → x_ev nm tf fn Pg X j rt r h' is (pc + n) ls st h)) := rfl
theorem xs_icmp_lt {off : Int} {x y : Int32} : x_ev nm tf fn Pg X j rt r h' ((.if_icmp .lt off, n, a, b) :: is) pc ls (.int y :: .int x :: st) h = ((x < y → X j a ls st h r h') ∧ (¬ (x < y) → x_ev nm tf fn Pg X j rt r h' is (pc + n) ls st h)) := rfl
theorem xs_if_ge {off : Int} {x : Int32} : x_ev nm tf fn Pg X j rt r h' ((.ifCond .ge off, n, a, b) :: is) pc ls (.int x :: st) h = ((0 ≤ x → X j a ls st h r h') ∧ (¬ (0 ≤ x) → x_ev nm tf fn Pg X j rt r h' is (pc + n) ls st h)) := rfl
theorem xs_icmp_ge {off : Int} {x y : Int32} : x_ev nm tf fn Pg X j rt r h' ((.if_icmp .ge off, n, a, b) :: is) pc ls (.int y :: .int x :: st) h = ((y ≤ x → X j a ls st h r h') ∧ (¬ (y ≤ x) → x_ev nm tf fn Pg X j rt r h' is (pc + n) ls st h)) := rfl
theorem xs_if_gt {off : Int} {x : Int32} : x_ev nm tf fn Pg X j rt r h' ((.ifCond .gt off, n, a, b) :: is) pc ls (.int x :: st) h = ((0 < x → X j a ls st h r h') ∧ (¬ (0 < x) → x_ev nm tf fn Pg X j rt r h' is (pc + n) ls st h)) := rfl
theorem xs_icmp_gt {off : Int} {x y : Int32} : x_ev nm tf fn Pg X j rt r h' ((.if_icmp .gt off, n, a, b) :: is) pc ls (.int y :: .int x :: st) h = ((y < x → X j a ls st h r h') ∧ (¬ (y < x) → x_ev nm tf fn Pg X j rt r h' is (pc + n) ls st h)) := rfl
theorem xs_if_le {off : Int} {x : Int32} : x_ev nm tf fn Pg X j rt r h' ((.ifCond .le off, n, a, b) :: is) pc ls (.int x :: st) h = ((x ≤ 0 → X j a ls st h r h') ∧ (¬ (x ≤ 0) → x_ev nm tf fn Pg X j rt r h' is (pc + n) ls st h)) := rfl
theorem xs_icmp_le {off : Int} {x y : Int32} : x_ev nm tf fn Pg X j rt r h' ((.if_icmp .le off, n, a, b) :: is) pc ls (.int y :: .int x :: st) h = ((x ≤ y → X j a ls st h r h') ∧ (¬ (x ≤ y) → x_ev nm tf fn Pg X j rt r h' is (pc + n) ls st h)) := rfl
theorem xs_goto {off : Int} : x_ev nm tf fn Pg X j rt r h' ((.goto off, n, a, b) :: is) pc ls st h = X j a ls st h r h' := rfl
theorem xs_ireturn {v : Int32} : x_ev nm tf fn Pg X j rt r h' ((.ireturn, n, a, b) :: is) pc ls [.int v] h = ((rt = some .int ∨ rt = some .boolean ∧ v &&& 1 = v) ∧ r = some (.int v) ∧ h' = h) := rfl
theorem xs_lreturn {v : Int64} : x_ev nm tf fn Pg X j rt r h' ((.lreturn, n, a, b) :: is) pc ls [.long v] h = (rt = some .long ∧ r = some (.long v) ∧ h' = h) := rfl
theorem xs_return : x_ev nm tf fn Pg X j rt r h' ((.return_, n, a, b) :: is) pc ls [] h = (([] : List Value) = [] ∧ rt = none ∧ r = none ∧ h' = h) := rfl
/-- a place of an int array read -/
theorem xs_iaload {o : Nat} {i v : Int32} {l : List Int32} (ho : h[o]? = some (xi l)) (hi : ¬ i < 0) (hv : l[i.toNatClampNeg]? = some v) : x_ev nm tf fn Pg X j rt r h' ((.iaload, n, a, b) :: is) pc ls (.int i :: .ref o :: st) h = x_ev nm tf fn Pg X j rt r h' is (pc + n) ls (.int v :: st) h := by
  rw [x_ev_op rfl]
  show x_bind (x_ald .int ls (.int i :: .ref o :: st) h) _ = _
  simp [x_bind, x_ald, ho, xi, hi, hv]
theorem xs_laload {o : Nat} {i : Int32} {v : Int64} {l : List Int64} (ho : h[o]? = some (xl l)) (hi : ¬ i < 0) (hv : l[i.toNatClampNeg]? = some v) : x_ev nm tf fn Pg X j rt r h' ((.laload, n, a, b) :: is) pc ls (.int i :: .ref o :: st) h = x_ev nm tf fn Pg X j rt r h' is (pc + n) ls (.long v :: st) h := by
  rw [x_ev_op rfl]
  show x_bind (x_ald .long ls (.int i :: .ref o :: st) h) _ = _
  simp [x_bind, x_ald, ho, xl, hi, hv]
theorem xs_iastore {o : Nat} {i x : Int32} {l : List Int32} (h2 : 2 ≤ o) (ho : h[o]? = some (xi l)) (hi : ¬ i < 0) (hl : i.toNatClampNeg < l.length) : x_ev nm tf fn Pg X j rt r h' ((.iastore, n, a, b) :: is) pc ls (.int x :: .int i :: .ref o :: st) h = x_ev nm tf fn Pg X j rt r h' is (pc + n) ls st (h.set o (xi (l.set i.toNatClampNeg x))) := by
  rw [x_ev_op rfl]
  show x_bind (x_iast ls (.int x :: .int i :: .ref o :: st) h) _ = _
  simp [x_bind, x_iast, ho, xi, hi, hl, h2, List.map_set]
theorem xs_lastore {o : Nat} {i : Int32} {x : Int64} {l : List Int64} (h2 : 2 ≤ o) (ho : h[o]? = some (xl l)) (hi : ¬ i < 0) (hl : i.toNatClampNeg < l.length) : x_ev nm tf fn Pg X j rt r h' ((.lastore, n, a, b) :: is) pc ls (.long x :: .int i :: .ref o :: st) h = x_ev nm tf fn Pg X j rt r h' is (pc + n) ls st (h.set o (xl (l.set i.toNatClampNeg x))) := by
  rw [x_ev_op rfl]
  show x_bind (x_last ls (.long x :: .int i :: .ref o :: st) h) _ = _
  simp [x_bind, x_last, ho, xl, hi, hl, h2, List.map_set]
theorem xs_alen {o : Nat} {l : List Int32} (ho : h[o]? = some (xi l)) : x_ev nm tf fn Pg X j rt r h' ((.arraylength, n, a, b) :: is) pc ls (.ref o :: st) h = x_ev nm tf fn Pg X j rt r h' is (pc + n) ls (.int (Int32.ofNat l.length) :: st) h := by
  rw [x_ev_op rfl]
  show x_bind (x_alen ls (.ref o :: st) h) _ = _
  simp [x_bind, x_alen, ho, xi]
theorem xs_copy {i s d : Nat} {m : Int32} {l l2 : List Int32} (h2 : 2 ≤ d) (hs : h[s]? = some (xi l)) (hd : h[d]? = some (xi l2)) (hm : ¬ m < 0) (hl : m.toNatClampNeg = l.length) (hl2 : l2.length = l.length) (h8 : (st.map Value.category).sum ≤ 8) : x_ev nm tf fn Pg X j rt r h' ((.invokestatic i, n, 1001, b) :: is) pc ls (.int m :: .int 0 :: .ref d :: .int 0 :: .ref s :: st) h = x_ev nm tf fn Pg X j rt r h' is (pc + n) ls st (h.set d (xi l)) := by
  rw [x_ev_op (by simp [x_ctl])]
  have e : x_op nm tf fn (.invokestatic i, n, 1001, b) ls (.int m :: .int 0 :: .ref d :: .int 0 :: .ref s :: st) h = x_copy ls (.int m :: .int 0 :: .ref d :: .int 0 :: .ref s :: st) h := by simp [x_op]
  rw [e]
  have hall : (l.map Value.int).all (fits .int) = true := by simp [fits]
  simp only [x_bind, x_copy, hs, hd, xi]
  rw [if_pos ⟨h2, trivial, trivial, trivial, trivial, hm, by simpa using hl, by simpa using hl2, hall, h8⟩]
theorem xs_math_1002 {i : Nat} {x y : Int32} (h8 : (st.map Value.category).sum ≤ 8) : x_ev nm tf fn Pg X j rt r h' ((.invokestatic i, n, 1002, b) :: is) pc ls (.int y :: .int x :: st) h = x_ev nm tf fn Pg X j rt r h' is (pc + n) ls (.int (if x < y then y else x) :: st) h := by
  rw [x_ev_op (by simp [x_ctl])]
  have e : x_op nm tf fn (.invokestatic i, n, 1002, b) ls (.int y :: .int x :: st) h = x_math 1002 ls (.int y :: .int x :: st) h := by simp [x_op]
  rw [e]
  simp [x_bind, x_math, h8]
theorem xs_math_1003 {i : Nat} {x y : Int32} (h8 : (st.map Value.category).sum ≤ 8) : x_ev nm tf fn Pg X j rt r h' ((.invokestatic i, n, 1003, b) :: is) pc ls (.int y :: .int x :: st) h = x_ev nm tf fn Pg X j rt r h' is (pc + n) ls (.int (if y < x then y else x) :: st) h := by
  rw [x_ev_op (by simp [x_ctl])]
  have e : x_op nm tf fn (.invokestatic i, n, 1003, b) ls (.int y :: .int x :: st) h = x_math 1003 ls (.int y :: .int x :: st) h := by simp [x_op]
  rw [e]
  simp [x_bind, x_math, h8]
theorem xs_math_1004 {i : Nat} {x : Int32} (h8 : (st.map Value.category).sum ≤ 8) : x_ev nm tf fn Pg X j rt r h' ((.invokestatic i, n, 1004, b) :: is) pc ls (.int x :: st) h = x_ev nm tf fn Pg X j rt r h' is (pc + n) ls (.int (if 0 ≤ x then x else 0 - x) :: st) h := by
  rw [x_ev_op (by simp [x_ctl])]
  have e : x_op nm tf fn (.invokestatic i, n, 1004, b) ls (.int x :: st) h = x_math 1004 ls (.int x :: st) h := by simp [x_op]
  rw [e]
  simp [x_bind, x_math, h8]
theorem xs_math_1005 {i : Nat} {x y : Int64} (h8 : (st.map Value.category).sum ≤ 8) : x_ev nm tf fn Pg X j rt r h' ((.invokestatic i, n, 1005, b) :: is) pc ls (.long y :: .long x :: st) h = x_ev nm tf fn Pg X j rt r h' is (pc + n) ls (.long (if y < x then y else x) :: st) h := by
  rw [x_ev_op (by simp [x_ctl])]
  have e : x_op nm tf fn (.invokestatic i, n, 1005, b) ls (.long y :: .long x :: st) h = x_math 1005 ls (.long y :: .long x :: st) h := by simp [x_op]
  rw [e]
  simp [x_bind, x_math, h8]
theorem xs_obj {i x : Nat} (h8 : (st.map Value.category).sum ≤ 8) : x_ev nm tf fn Pg X j rt r h' ((.invokespecial i, n, 1000, b) :: is) pc ls (.ref x :: st) h = x_ev nm tf fn Pg X j rt r h' is (pc + n) ls st h := by
  rw [x_ev_op (by simp [x_ctl])]
  show x_bind (x_obj ls (.ref x :: st) h) _ = _
  simp [x_bind, x_obj, h8]
theorem x_ev_call {ins : Instr} (hc : (∃ i, ins = .invokevirtual i) ∨ (a < 1000 ∧ ((∃ i, ins = .invokestatic i) ∨ ∃ i, ins = .invokespecial i))) : x_ev nm tf fn Pg X j rt r h' ((ins, n, a, b) :: is) pc ls st h = x_call Pg X (x_ev nm tf fn Pg X j rt r h' is) (ins, n, a, b) pc ls st h := by
  show x_one _ _ _ _ _ _ _ _ _ _ _ _ _ _ _ = _
  unfold x_one
  rcases hc with ⟨i, rfl⟩ | ⟨ha, ⟨i, rfl⟩ | ⟨i, rfl⟩⟩
  · rfl
  · rw [if_neg (by simp [x_ctl, ha])]
  · rw [if_neg (by simp [x_ctl, ha])]
theorem xc_v0_1 {i : Nat} {w : Value} {h1 : xH} (hK : x_calX Pg X a [] h (some w) h1) (h8 : (st.map Value.category).sum ≤ 8) (k : x_ev nm tf fn Pg X j rt r h' is (pc + n) ls (w :: st) h1) : x_ev nm tf fn Pg X j rt r h' ((.invokevirtual i, n, a, 0) :: is) pc ls (st) h := by
  rw [x_ev_call (Or.inl ⟨i, rfl⟩)]
  exact ⟨by simp, by simpa using h8, _, h1, by simpa using hK, by simpa using k⟩
theorem xc_v0_0 {i : Nat} {h1 : xH} (hK : x_calX Pg X a [] h (none) h1) (h8 : (st.map Value.category).sum ≤ 8) (k : x_ev nm tf fn Pg X j rt r h' is (pc + n) ls (st) h1) : x_ev nm tf fn Pg X j rt r h' ((.invokevirtual i, n, a, 0) :: is) pc ls (st) h := by
  rw [x_ev_call (Or.inl ⟨i, rfl⟩)]
  exact ⟨by simp, by simpa using h8, _, h1, by simpa using hK, by simpa using k⟩
theorem xc_s0_1 {i : Nat} {w : Value} {h1 : xH} (ha : a < 1000) (hK : x_calX Pg X a [] h (some w) h1) (h8 : (st.map Value.category).sum ≤ 8) (k : x_ev nm tf fn Pg X j rt r h' is (pc + n) ls (w :: st) h1) : x_ev nm tf fn Pg X j rt r h' ((.invokestatic i, n, a, 0) :: is) pc ls (st) h := by
  rw [x_ev_call (Or.inr ⟨ha, Or.inl ⟨i, rfl⟩⟩)]
  exact ⟨by simp, by simpa using h8, _, h1, by simpa using hK, by simpa using k⟩
theorem xc_s0_0 {i : Nat} {h1 : xH} (ha : a < 1000) (hK : x_calX Pg X a [] h (none) h1) (h8 : (st.map Value.category).sum ≤ 8) (k : x_ev nm tf fn Pg X j rt r h' is (pc + n) ls (st) h1) : x_ev nm tf fn Pg X j rt r h' ((.invokestatic i, n, a, 0) :: is) pc ls (st) h := by
  rw [x_ev_call (Or.inr ⟨ha, Or.inl ⟨i, rfl⟩⟩)]
  exact ⟨by simp, by simpa using h8, _, h1, by simpa using hK, by simpa using k⟩
theorem xc_i0_1 {i : Nat} {w : Value} {h1 : xH} (ha : a < 1000) (hK : x_calX Pg X a [] h (some w) h1) (h8 : (st.map Value.category).sum ≤ 8) (k : x_ev nm tf fn Pg X j rt r h' is (pc + n) ls (w :: st) h1) : x_ev nm tf fn Pg X j rt r h' ((.invokespecial i, n, a, 0) :: is) pc ls (st) h := by
  rw [x_ev_call (Or.inr ⟨ha, Or.inr ⟨i, rfl⟩⟩)]
  exact ⟨by simp, by simpa using h8, _, h1, by simpa using hK, by simpa using k⟩
theorem xc_i0_0 {i : Nat} {h1 : xH} (ha : a < 1000) (hK : x_calX Pg X a [] h (none) h1) (h8 : (st.map Value.category).sum ≤ 8) (k : x_ev nm tf fn Pg X j rt r h' is (pc + n) ls (st) h1) : x_ev nm tf fn Pg X j rt r h' ((.invokespecial i, n, a, 0) :: is) pc ls (st) h := by
  rw [x_ev_call (Or.inr ⟨ha, Or.inr ⟨i, rfl⟩⟩)]
  exact ⟨by simp, by simpa using h8, _, h1, by simpa using hK, by simpa using k⟩
theorem xc_v1_1 {i : Nat} {v0 : Value} {w : Value} {h1 : xH} (hK : x_calX Pg X a [v0] h (some w) h1) (h8 : (st.map Value.category).sum ≤ 8) (k : x_ev nm tf fn Pg X j rt r h' is (pc + n) ls (w :: st) h1) : x_ev nm tf fn Pg X j rt r h' ((.invokevirtual i, n, a, 1) :: is) pc ls (v0 :: st) h := by
  rw [x_ev_call (Or.inl ⟨i, rfl⟩)]
  exact ⟨by simp, by simpa using h8, _, h1, by simpa using hK, by simpa using k⟩
theorem xc_v1_0 {i : Nat} {v0 : Value} {h1 : xH} (hK : x_calX Pg X a [v0] h (none) h1) (h8 : (st.map Value.category).sum ≤ 8) (k : x_ev nm tf fn Pg X j rt r h' is (pc + n) ls (st) h1) : x_ev nm tf fn Pg X j rt r h' ((.invokevirtual i, n, a, 1) :: is) pc ls (v0 :: st) h := by
  rw [x_ev_call (Or.inl ⟨i, rfl⟩)]
  exact ⟨by simp, by simpa using h8, _, h1, by simpa using hK, by simpa using k⟩
theorem xc_s1_1 {i : Nat} {v0 : Value} {w : Value} {h1 : xH} (ha : a < 1000) (hK : x_calX Pg X a [v0] h (some w) h1) (h8 : (st.map Value.category).sum ≤ 8) (k : x_ev nm tf fn Pg X j rt r h' is (pc + n) ls (w :: st) h1) : x_ev nm tf fn Pg X j rt r h' ((.invokestatic i, n, a, 1) :: is) pc ls (v0 :: st) h := by
  rw [x_ev_call (Or.inr ⟨ha, Or.inl ⟨i, rfl⟩⟩)]
  exact ⟨by simp, by simpa using h8, _, h1, by simpa using hK, by simpa using k⟩
theorem xc_s1_0 {i : Nat} {v0 : Value} {h1 : xH} (ha : a < 1000) (hK : x_calX Pg X a [v0] h (none) h1) (h8 : (st.map Value.category).sum ≤ 8) (k : x_ev nm tf fn Pg X j rt r h' is (pc + n) ls (st) h1) : x_ev nm tf fn Pg X j rt r h' ((.invokestatic i, n, a, 1) :: is) pc ls (v0 :: st) h := by
  rw [x_ev_call (Or.inr ⟨ha, Or.inl ⟨i, rfl⟩⟩)]
  exact ⟨by simp, by simpa using h8, _, h1, by simpa using hK, by simpa using k⟩
theorem xc_i1_1 {i : Nat} {v0 : Value} {w : Value} {h1 : xH} (ha : a < 1000) (hK : x_calX Pg X a [v0] h (some w) h1) (h8 : (st.map Value.category).sum ≤ 8) (k : x_ev nm tf fn Pg X j rt r h' is (pc + n) ls (w :: st) h1) : x_ev nm tf fn Pg X j rt r h' ((.invokespecial i, n, a, 1) :: is) pc ls (v0 :: st) h := by
  rw [x_ev_call (Or.inr ⟨ha, Or.inr ⟨i, rfl⟩⟩)]
  exact ⟨by simp, by simpa using h8, _, h1, by simpa using hK, by simpa using k⟩
theorem xc_i1_0 {i : Nat} {v0 : Value} {h1 : xH} (ha : a < 1000) (hK : x_calX Pg X a [v0] h (none) h1) (h8 : (st.map Value.category).sum ≤ 8) (k : x_ev nm tf fn Pg X j rt r h' is (pc + n) ls (st) h1) : x_ev nm tf fn Pg X j rt r h' ((.invokespecial i, n, a, 1) :: is) pc ls (v0 :: st) h := by
  rw [x_ev_call (Or.inr ⟨ha, Or.inr ⟨i, rfl⟩⟩)]
  exact ⟨by simp, by simpa using h8, _, h1, by simpa using hK, by simpa using k⟩
theorem xc_v2_1 {i : Nat} {v0 v1 : Value} {w : Value} {h1 : xH} (hK : x_calX Pg X a [v0, v1] h (some w) h1) (h8 : (st.map Value.category).sum ≤ 8) (k : x_ev nm tf fn Pg X j rt r h' is (pc + n) ls (w :: st) h1) : x_ev nm tf fn Pg X j rt r h' ((.invokevirtual i, n, a, 2) :: is) pc ls (v1 :: v0 :: st) h := by
  rw [x_ev_call (Or.inl ⟨i, rfl⟩)]
  exact ⟨by simp, by simpa using h8, _, h1, by simpa using hK, by simpa using k⟩
theorem xc_v2_0 {i : Nat} {v0 v1 : Value} {h1 : xH} (hK : x_calX Pg X a [v0, v1] h (none) h1) (h8 : (st.map Value.category).sum ≤ 8) (k : x_ev nm tf fn Pg X j rt r h' is (pc + n) ls (st) h1) : x_ev nm tf fn Pg X j rt r h' ((.invokevirtual i, n, a, 2) :: is) pc ls (v1 :: v0 :: st) h := by
  rw [x_ev_call (Or.inl ⟨i, rfl⟩)]
  exact ⟨by simp, by simpa using h8, _, h1, by simpa using hK, by simpa using k⟩
theorem xc_s2_1 {i : Nat} {v0 v1 : Value} {w : Value} {h1 : xH} (ha : a < 1000) (hK : x_calX Pg X a [v0, v1] h (some w) h1) (h8 : (st.map Value.category).sum ≤ 8) (k : x_ev nm tf fn Pg X j rt r h' is (pc + n) ls (w :: st) h1) : x_ev nm tf fn Pg X j rt r h' ((.invokestatic i, n, a, 2) :: is) pc ls (v1 :: v0 :: st) h := by
  rw [x_ev_call (Or.inr ⟨ha, Or.inl ⟨i, rfl⟩⟩)]
  exact ⟨by simp, by simpa using h8, _, h1, by simpa using hK, by simpa using k⟩
theorem xc_s2_0 {i : Nat} {v0 v1 : Value} {h1 : xH} (ha : a < 1000) (hK : x_calX Pg X a [v0, v1] h (none) h1) (h8 : (st.map Value.category).sum ≤ 8) (k : x_ev nm tf fn Pg X j rt r h' is (pc + n) ls (st) h1) : x_ev nm tf fn Pg X j rt r h' ((.invokestatic i, n, a, 2) :: is) pc ls (v1 :: v0 :: st) h := by
  rw [x_ev_call (Or.inr ⟨ha, Or.inl ⟨i, rfl⟩⟩)]
  exact ⟨by simp, by simpa using h8, _, h1, by simpa using hK, by simpa using k⟩
theorem xc_i2_1 {i : Nat} {v0 v1 : Value} {w : Value} {h1 : xH} (ha : a < 1000) (hK : x_calX Pg X a [v0, v1] h (some w) h1) (h8 : (st.map Value.category).sum ≤ 8) (k : x_ev nm tf fn Pg X j rt r h' is (pc + n) ls (w :: st) h1) : x_ev nm tf fn Pg X j rt r h' ((.invokespecial i, n, a, 2) :: is) pc ls (v1 :: v0 :: st) h := by
  rw [x_ev_call (Or.inr ⟨ha, Or.inr ⟨i, rfl⟩⟩)]
  exact ⟨by simp, by simpa using h8, _, h1, by simpa using hK, by simpa using k⟩
theorem xc_i2_0 {i : Nat} {v0 v1 : Value} {h1 : xH} (ha : a < 1000) (hK : x_calX Pg X a [v0, v1] h (none) h1) (h8 : (st.map Value.category).sum ≤ 8) (k : x_ev nm tf fn Pg X j rt r h' is (pc + n) ls (st) h1) : x_ev nm tf fn Pg X j rt r h' ((.invokespecial i, n, a, 2) :: is) pc ls (v1 :: v0 :: st) h := by
  rw [x_ev_call (Or.inr ⟨ha, Or.inr ⟨i, rfl⟩⟩)]
  exact ⟨by simp, by simpa using h8, _, h1, by simpa using hK, by simpa using k⟩
theorem xc_v3_1 {i : Nat} {v0 v1 v2 : Value} {w : Value} {h1 : xH} (hK : x_calX Pg X a [v0, v1, v2] h (some w) h1) (h8 : (st.map Value.category).sum ≤ 8) (k : x_ev nm tf fn Pg X j rt r h' is (pc + n) ls (w :: st) h1) : x_ev nm tf fn Pg X j rt r h' ((.invokevirtual i, n, a, 3) :: is) pc ls (v2 :: v1 :: v0 :: st) h := by
  rw [x_ev_call (Or.inl ⟨i, rfl⟩)]
  exact ⟨by simp, by simpa using h8, _, h1, by simpa using hK, by simpa using k⟩
theorem xc_v3_0 {i : Nat} {v0 v1 v2 : Value} {h1 : xH} (hK : x_calX Pg X a [v0, v1, v2] h (none) h1) (h8 : (st.map Value.category).sum ≤ 8) (k : x_ev nm tf fn Pg X j rt r h' is (pc + n) ls (st) h1) : x_ev nm tf fn Pg X j rt r h' ((.invokevirtual i, n, a, 3) :: is) pc ls (v2 :: v1 :: v0 :: st) h := by
  rw [x_ev_call (Or.inl ⟨i, rfl⟩)]
  exact ⟨by simp, by simpa using h8, _, h1, by simpa using hK, by simpa using k⟩
theorem xc_s3_1 {i : Nat} {v0 v1 v2 : Value} {w : Value} {h1 : xH} (ha : a < 1000) (hK : x_calX Pg X a [v0, v1, v2] h (some w) h1) (h8 : (st.map Value.category).sum ≤ 8) (k : x_ev nm tf fn Pg X j rt r h' is (pc + n) ls (w :: st) h1) : x_ev nm tf fn Pg X j rt r h' ((.invokestatic i, n, a, 3) :: is) pc ls (v2 :: v1 :: v0 :: st) h := by
  rw [x_ev_call (Or.inr ⟨ha, Or.inl ⟨i, rfl⟩⟩)]
  exact ⟨by simp, by simpa using h8, _, h1, by simpa using hK, by simpa using k⟩
theorem xc_s3_0 {i : Nat} {v0 v1 v2 : Value} {h1 : xH} (ha : a < 1000) (hK : x_calX Pg X a [v0, v1, v2] h (none) h1) (h8 : (st.map Value.category).sum ≤ 8) (k : x_ev nm tf fn Pg X j rt r h' is (pc + n) ls (st) h1) : x_ev nm tf fn Pg X j rt r h' ((.invokestatic i, n, a, 3) :: is) pc ls (v2 :: v1 :: v0 :: st) h := by
  rw [x_ev_call (Or.inr ⟨ha, Or.inl ⟨i, rfl⟩⟩)]
  exact ⟨by simp, by simpa using h8, _, h1, by simpa using hK, by simpa using k⟩
theorem xc_i3_1 {i : Nat} {v0 v1 v2 : Value} {w : Value} {h1 : xH} (ha : a < 1000) (hK : x_calX Pg X a [v0, v1, v2] h (some w) h1) (h8 : (st.map Value.category).sum ≤ 8) (k : x_ev nm tf fn Pg X j rt r h' is (pc + n) ls (w :: st) h1) : x_ev nm tf fn Pg X j rt r h' ((.invokespecial i, n, a, 3) :: is) pc ls (v2 :: v1 :: v0 :: st) h := by
  rw [x_ev_call (Or.inr ⟨ha, Or.inr ⟨i, rfl⟩⟩)]
  exact ⟨by simp, by simpa using h8, _, h1, by simpa using hK, by simpa using k⟩
theorem xc_i3_0 {i : Nat} {v0 v1 v2 : Value} {h1 : xH} (ha : a < 1000) (hK : x_calX Pg X a [v0, v1, v2] h (none) h1) (h8 : (st.map Value.category).sum ≤ 8) (k : x_ev nm tf fn Pg X j rt r h' is (pc + n) ls (st) h1) : x_ev nm tf fn Pg X j rt r h' ((.invokespecial i, n, a, 3) :: is) pc ls (v2 :: v1 :: v0 :: st) h := by
  rw [x_ev_call (Or.inr ⟨ha, Or.inr ⟨i, rfl⟩⟩)]
  exact ⟨by simp, by simpa using h8, _, h1, by simpa using hK, by simpa using k⟩
theorem xc_v4_1 {i : Nat} {v0 v1 v2 v3 : Value} {w : Value} {h1 : xH} (hK : x_calX Pg X a [v0, v1, v2, v3] h (some w) h1) (h8 : (st.map Value.category).sum ≤ 8) (k : x_ev nm tf fn Pg X j rt r h' is (pc + n) ls (w :: st) h1) : x_ev nm tf fn Pg X j rt r h' ((.invokevirtual i, n, a, 4) :: is) pc ls (v3 :: v2 :: v1 :: v0 :: st) h := by
  rw [x_ev_call (Or.inl ⟨i, rfl⟩)]
  exact ⟨by simp, by simpa using h8, _, h1, by simpa using hK, by simpa using k⟩
theorem xc_v4_0 {i : Nat} {v0 v1 v2 v3 : Value} {h1 : xH} (hK : x_calX Pg X a [v0, v1, v2, v3] h (none) h1) (h8 : (st.map Value.category).sum ≤ 8) (k : x_ev nm tf fn Pg X j rt r h' is (pc + n) ls (st) h1) : x_ev nm tf fn Pg X j rt r h' ((.invokevirtual i, n, a, 4) :: is) pc ls (v3 :: v2 :: v1 :: v0 :: st) h := by
  rw [x_ev_call (Or.inl ⟨i, rfl⟩)]
  exact ⟨by simp, by simpa using h8, _, h1, by simpa using hK, by simpa using k⟩
theorem xc_s4_1 {i : Nat} {v0 v1 v2 v3 : Value} {w : Value} {h1 : xH} (ha : a < 1000) (hK : x_calX Pg X a [v0, v1, v2, v3] h (some w) h1) (h8 : (st.map Value.category).sum ≤ 8) (k : x_ev nm tf fn Pg X j rt r h' is (pc + n) ls (w :: st) h1) : x_ev nm tf fn Pg X j rt r h' ((.invokestatic i, n, a, 4) :: is) pc ls (v3 :: v2 :: v1 :: v0 :: st) h := by
  rw [x_ev_call (Or.inr ⟨ha, Or.inl ⟨i, rfl⟩⟩)]
  exact ⟨by simp, by simpa using h8, _, h1, by simpa using hK, by simpa using k⟩
theorem xc_s4_0 {i : Nat} {v0 v1 v2 v3 : Value} {h1 : xH} (ha : a < 1000) (hK : x_calX Pg X a [v0, v1, v2, v3] h (none) h1) (h8 : (st.map Value.category).sum ≤ 8) (k : x_ev nm tf fn Pg X j rt r h' is (pc + n) ls (st) h1) : x_ev nm tf fn Pg X j rt r h' ((.invokestatic i, n, a, 4) :: is) pc ls (v3 :: v2 :: v1 :: v0 :: st) h := by
  rw [x_ev_call (Or.inr ⟨ha, Or.inl ⟨i, rfl⟩⟩)]
  exact ⟨by simp, by simpa using h8, _, h1, by simpa using hK, by simpa using k⟩
theorem xc_i4_1 {i : Nat} {v0 v1 v2 v3 : Value} {w : Value} {h1 : xH} (ha : a < 1000) (hK : x_calX Pg X a [v0, v1, v2, v3] h (some w) h1) (h8 : (st.map Value.category).sum ≤ 8) (k : x_ev nm tf fn Pg X j rt r h' is (pc + n) ls (w :: st) h1) : x_ev nm tf fn Pg X j rt r h' ((.invokespecial i, n, a, 4) :: is) pc ls (v3 :: v2 :: v1 :: v0 :: st) h := by
  rw [x_ev_call (Or.inr ⟨ha, Or.inr ⟨i, rfl⟩⟩)]
  exact ⟨by simp, by simpa using h8, _, h1, by simpa using hK, by simpa using k⟩
theorem xc_i4_0 {i : Nat} {v0 v1 v2 v3 : Value} {h1 : xH} (ha : a < 1000) (hK : x_calX Pg X a [v0, v1, v2, v3] h (none) h1) (h8 : (st.map Value.category).sum ≤ 8) (k : x_ev nm tf fn Pg X j rt r h' is (pc + n) ls (st) h1) : x_ev nm tf fn Pg X j rt r h' ((.invokespecial i, n, a, 4) :: is) pc ls (v3 :: v2 :: v1 :: v0 :: st) h := by
  rw [x_ev_call (Or.inr ⟨ha, Or.inr ⟨i, rfl⟩⟩)]
  exact ⟨by simp, by simpa using h8, _, h1, by simpa using hK, by simpa using k⟩
theorem xc_v5_1 {i : Nat} {v0 v1 v2 v3 v4 : Value} {w : Value} {h1 : xH} (hK : x_calX Pg X a [v0, v1, v2, v3, v4] h (some w) h1) (h8 : (st.map Value.category).sum ≤ 8) (k : x_ev nm tf fn Pg X j rt r h' is (pc + n) ls (w :: st) h1) : x_ev nm tf fn Pg X j rt r h' ((.invokevirtual i, n, a, 5) :: is) pc ls (v4 :: v3 :: v2 :: v1 :: v0 :: st) h := by
  rw [x_ev_call (Or.inl ⟨i, rfl⟩)]
  exact ⟨by simp, by simpa using h8, _, h1, by simpa using hK, by simpa using k⟩
theorem xc_v5_0 {i : Nat} {v0 v1 v2 v3 v4 : Value} {h1 : xH} (hK : x_calX Pg X a [v0, v1, v2, v3, v4] h (none) h1) (h8 : (st.map Value.category).sum ≤ 8) (k : x_ev nm tf fn Pg X j rt r h' is (pc + n) ls (st) h1) : x_ev nm tf fn Pg X j rt r h' ((.invokevirtual i, n, a, 5) :: is) pc ls (v4 :: v3 :: v2 :: v1 :: v0 :: st) h := by
  rw [x_ev_call (Or.inl ⟨i, rfl⟩)]
  exact ⟨by simp, by simpa using h8, _, h1, by simpa using hK, by simpa using k⟩
theorem xc_s5_1 {i : Nat} {v0 v1 v2 v3 v4 : Value} {w : Value} {h1 : xH} (ha : a < 1000) (hK : x_calX Pg X a [v0, v1, v2, v3, v4] h (some w) h1) (h8 : (st.map Value.category).sum ≤ 8) (k : x_ev nm tf fn Pg X j rt r h' is (pc + n) ls (w :: st) h1) : x_ev nm tf fn Pg X j rt r h' ((.invokestatic i, n, a, 5) :: is) pc ls (v4 :: v3 :: v2 :: v1 :: v0 :: st) h := by
  rw [x_ev_call (Or.inr ⟨ha, Or.inl ⟨i, rfl⟩⟩)]
  exact ⟨by simp, by simpa using h8, _, h1, by simpa using hK, by simpa using k⟩
theorem xc_s5_0 {i : Nat} {v0 v1 v2 v3 v4 : Value} {h1 : xH} (ha : a < 1000) (hK : x_calX Pg X a [v0, v1, v2, v3, v4] h (none) h1) (h8 : (st.map Value.category).sum ≤ 8) (k : x_ev nm tf fn Pg X j rt r h' is (pc + n) ls (st) h1) : x_ev nm tf fn Pg X j rt r h' ((.invokestatic i, n, a, 5) :: is) pc ls (v4 :: v3 :: v2 :: v1 :: v0 :: st) h := by
  rw [x_ev_call (Or.inr ⟨ha, Or.inl ⟨i, rfl⟩⟩)]
  exact ⟨by simp, by simpa using h8, _, h1, by simpa using hK, by simpa using k⟩
theorem xc_i5_1 {i : Nat} {v0 v1 v2 v3 v4 : Value} {w : Value} {h1 : xH} (ha : a < 1000) (hK : x_calX Pg X a [v0, v1, v2, v3, v4] h (some w) h1) (h8 : (st.map Value.category).sum ≤ 8) (k : x_ev nm tf fn Pg X j rt r h' is (pc + n) ls (w :: st) h1) : x_ev nm tf fn Pg X j rt r h' ((.invokespecial i, n, a, 5) :: is) pc ls (v4 :: v3 :: v2 :: v1 :: v0 :: st) h := by
  rw [x_ev_call (Or.inr ⟨ha, Or.inr ⟨i, rfl⟩⟩)]
  exact ⟨by simp, by simpa using h8, _, h1, by simpa using hK, by simpa using k⟩
theorem xc_i5_0 {i : Nat} {v0 v1 v2 v3 v4 : Value} {h1 : xH} (ha : a < 1000) (hK : x_calX Pg X a [v0, v1, v2, v3, v4] h (none) h1) (h8 : (st.map Value.category).sum ≤ 8) (k : x_ev nm tf fn Pg X j rt r h' is (pc + n) ls (st) h1) : x_ev nm tf fn Pg X j rt r h' ((.invokespecial i, n, a, 5) :: is) pc ls (v4 :: v3 :: v2 :: v1 :: v0 :: st) h := by
  rw [x_ev_call (Or.inr ⟨ha, Or.inr ⟨i, rfl⟩⟩)]
  exact ⟨by simp, by simpa using h8, _, h1, by simpa using hK, by simpa using k⟩
theorem xc_v6_1 {i : Nat} {v0 v1 v2 v3 v4 v5 : Value} {w : Value} {h1 : xH} (hK : x_calX Pg X a [v0, v1, v2, v3, v4, v5] h (some w) h1) (h8 : (st.map Value.category).sum ≤ 8) (k : x_ev nm tf fn Pg X j rt r h' is (pc + n) ls (w :: st) h1) : x_ev nm tf fn Pg X j rt r h' ((.invokevirtual i, n, a, 6) :: is) pc ls (v5 :: v4 :: v3 :: v2 :: v1 :: v0 :: st) h := by
  rw [x_ev_call (Or.inl ⟨i, rfl⟩)]
  exact ⟨by simp, by simpa using h8, _, h1, by simpa using hK, by simpa using k⟩
theorem xc_v6_0 {i : Nat} {v0 v1 v2 v3 v4 v5 : Value} {h1 : xH} (hK : x_calX Pg X a [v0, v1, v2, v3, v4, v5] h (none) h1) (h8 : (st.map Value.category).sum ≤ 8) (k : x_ev nm tf fn Pg X j rt r h' is (pc + n) ls (st) h1) : x_ev nm tf fn Pg X j rt r h' ((.invokevirtual i, n, a, 6) :: is) pc ls (v5 :: v4 :: v3 :: v2 :: v1 :: v0 :: st) h := by
  rw [x_ev_call (Or.inl ⟨i, rfl⟩)]
  exact ⟨by simp, by simpa using h8, _, h1, by simpa using hK, by simpa using k⟩
theorem xc_s6_1 {i : Nat} {v0 v1 v2 v3 v4 v5 : Value} {w : Value} {h1 : xH} (ha : a < 1000) (hK : x_calX Pg X a [v0, v1, v2, v3, v4, v5] h (some w) h1) (h8 : (st.map Value.category).sum ≤ 8) (k : x_ev nm tf fn Pg X j rt r h' is (pc + n) ls (w :: st) h1) : x_ev nm tf fn Pg X j rt r h' ((.invokestatic i, n, a, 6) :: is) pc ls (v5 :: v4 :: v3 :: v2 :: v1 :: v0 :: st) h := by
  rw [x_ev_call (Or.inr ⟨ha, Or.inl ⟨i, rfl⟩⟩)]
  exact ⟨by simp, by simpa using h8, _, h1, by simpa using hK, by simpa using k⟩
theorem xc_s6_0 {i : Nat} {v0 v1 v2 v3 v4 v5 : Value} {h1 : xH} (ha : a < 1000) (hK : x_calX Pg X a [v0, v1, v2, v3, v4, v5] h (none) h1) (h8 : (st.map Value.category).sum ≤ 8) (k : x_ev nm tf fn Pg X j rt r h' is (pc + n) ls (st) h1) : x_ev nm tf fn Pg X j rt r h' ((.invokestatic i, n, a, 6) :: is) pc ls (v5 :: v4 :: v3 :: v2 :: v1 :: v0 :: st) h := by
  rw [x_ev_call (Or.inr ⟨ha, Or.inl ⟨i, rfl⟩⟩)]
  exact ⟨by simp, by simpa using h8, _, h1, by simpa using hK, by simpa using k⟩
theorem xc_i6_1 {i : Nat} {v0 v1 v2 v3 v4 v5 : Value} {w : Value} {h1 : xH} (ha : a < 1000) (hK : x_calX Pg X a [v0, v1, v2, v3, v4, v5] h (some w) h1) (h8 : (st.map Value.category).sum ≤ 8) (k : x_ev nm tf fn Pg X j rt r h' is (pc + n) ls (w :: st) h1) : x_ev nm tf fn Pg X j rt r h' ((.invokespecial i, n, a, 6) :: is) pc ls (v5 :: v4 :: v3 :: v2 :: v1 :: v0 :: st) h := by
  rw [x_ev_call (Or.inr ⟨ha, Or.inr ⟨i, rfl⟩⟩)]
  exact ⟨by simp, by simpa using h8, _, h1, by simpa using hK, by simpa using k⟩
theorem xc_i6_0 {i : Nat} {v0 v1 v2 v3 v4 v5 : Value} {h1 : xH} (ha : a < 1000) (hK : x_calX Pg X a [v0, v1, v2, v3, v4, v5] h (none) h1) (h8 : (st.map Value.category).sum ≤ 8) (k : x_ev nm tf fn Pg X j rt r h' is (pc + n) ls (st) h1) : x_ev nm tf fn Pg X j rt r h' ((.invokespecial i, n, a, 6) :: is) pc ls (v5 :: v4 :: v3 :: v2 :: v1 :: v0 :: st) h := by
  rw [x_ev_call (Or.inr ⟨ha, Or.inr ⟨i, rfl⟩⟩)]
  exact ⟨by simp, by simpa using h8, _, h1, by simpa using hK, by simpa using k⟩
end XSR
