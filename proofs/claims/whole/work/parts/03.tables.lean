/-! the words that travel with a state, and the links of the instructions: by program (wip/whole/gen03.py) -/
def x_mv (w : Jvm.Cond) : Bool := goodWord w || (match w with
  | .methodLinkNest _ _ _ _ => true
  | .arrayOver (.object _) => true
  | _ => false)
def x_TB : List Jvm.Cond := lw_tbl.filter x_mv
def x_has (pos : Nat) (w : Jvm.Cond) : Bool := decide (lw_tbl[pos]? = some w) && x_mv w
theorem x_has_in {pos : Nat} {w : Jvm.Cond} (h : x_has pos w = true) : w ∈ x_TB := by
  simp only [x_has, Bool.and_eq_true, decide_eq_true_eq] at h
  exact List.mem_filter.mpr ⟨List.mem_of_getElem? h.1, h.2⟩
def x_on (k : Nat) : String := match k with
  | 0 => "PathReader$Chart"
  | 1 => "PathReader$Grammar"
  | 2 => "PathReader$Script"
  | 3 => "PathReader$Sentence"
  | 4 => "PathReader$Shelf"
  | 5 => "PathReader$State"
  | 6 => "PathReader"
  | 7 => "PathReaderModel"
  | 8 => "PathReader$Row"
  | 9 => "PathReaderLaw"
  | _ => "java/lang/Math"
def x_nm (k : Nat) : String := match vwCl[k]? with
  | some q => q.1
  | none => ""
def x_fn (k : Nat) : Nat := match vwCl[k]? with
  | some q => q.2.2
  | none => 0
def x_tf (k : Nat) : Nat → FieldType := match k with
  | 0 => tyX0
  | 1 => tyX1
  | 2 => tyX3
  | 3 => tyX4
  | 4 => tyX5
  | 5 => tyX6
  | 6 => tyX7
  | _ => tyX8
def x_sC : String := "PathReader"
def x_sN : String := "MOST_OF_SETTING"
def x_sD : String := "[I"
def xLFp : List (Nat × Nat × Nat × Nat × Nat) := [(1, 9, 1, 0, 99), (1, 15, 1, 1, 100), (5, 94, 1, 1, 101), (0, 120, 1, 1, 102), (6, 247, 1, 1, 103), (1, 18, 1, 2, 104), (1, 21, 1, 3, 105), (1, 24, 1, 4, 106), (5, 48, 1, 4, 107), (0, 117, 1, 4, 108), (6, 218, 1, 4, 109), (1, 27, 1, 5, 110), (6, 215, 1, 5, 111), (3, 9, 3, 0, 132), (5, 44, 3, 0, 133), (0, 96, 3, 0, 134), (6, 141, 3, 0, 135), (3, 15, 3, 1, 136), (0, 123, 3, 1, 137), (3, 18, 3, 2, 138), (6, 155, 3, 2, 139), (3, 21, 3, 3, 140), (6, 123, 3, 3, 141), (3, 24, 3, 4, 142), (6, 152, 3, 4, 143), (3, 27, 3, 5, 144), (5, 36, 3, 5, 145), (0, 56, 3, 5, 146), (6, 126, 3, 5, 147), (5, 12, 5, 0, 161), (6, 44, 5, 0, 162), (0, 92, 5, 0, 163), (5, 21, 5, 1, 164), (0, 50, 5, 1, 165), (6, 113, 5, 1, 166), (4, 11, 4, 0, 181), (4, 17, 4, 1, 182), (4, 21, 4, 2, 183), (6, 211, 4, 2, 184), (0, 13, 0, 0, 202), (0, 17, 0, 1, 203), (0, 20, 0, 2, 204), (0, 23, 0, 3, 205), (0, 27, 0, 4, 206), (0, 32, 0, 5, 207), (0, 36, 0, 6, 208), (2, 9, 2, 0, 231), (2, 15, 2, 1, 232), (2, 18, 2, 2, 233), (2, 21, 2, 3, 234), (2, 24, 2, 4, 235), (2, 27, 2, 5, 236), (2, 31, 2, 6, 237), (2, 34, 2, 7, 238), (6, 186, 2, 7, 239), (2, 37, 2, 8, 240), (6, 199, 2, 8, 241), (6, 10, 6, 0, 261), (6, 16, 6, 1, 262), (6, 22, 6, 2, 263), (6, 29, 6, 3, 264), (6, 36, 6, 4, 265), (6, 40, 6, 5, 266), (7, 7, 7, 0, 705), (7, 13, 7, 1, 706), (7, 16, 7, 2, 707), (7, 58, 7, 3, 708), (7, 19, 7, 4, 709), (7, 22, 7, 5, 710), (7, 205, 7, 6, 711), (7, 25, 7, 7, 712), (7, 28, 7, 8, 713), (7, 31, 7, 9, 714), (7, 34, 7, 10, 715), (7, 37, 7, 11, 716), (7, 40, 7, 12, 717), (7, 43, 7, 13, 718), (7, 139, 7, 14, 719), (7, 133, 7, 15, 720), (7, 136, 7, 16, 721), (7, 142, 7, 17, 722), (7, 46, 7, 18, 723), (7, 49, 7, 19, 724), (7, 52, 7, 20, 725), (7, 223, 7, 21, 726), (7, 208, 7, 22, 727), (7, 214, 7, 23, 728), (7, 262, 7, 24, 729)]
def xLSp : List (Nat × Nat × Nat) := [(6, 79, 357)]
def xLCp : List (Nat × Nat × Nat × Nat) := [(9, 7, 6, 79), (6, 7, 5, 87), (5, 9, 1, 93), (5, 18, 3, 126), (6, 19, 4, 172), (4, 9, 5, 178), (6, 26, 0, 192), (6, 33, 2, 225), (9, 10, 7, 679)]
def xLJp : List (Nat × Nat × Nat × Nat) := [(0, 30, 288230376151711744, 198), (0, 44, 16777215, 482), (6, 221, 2605, 663), (6, 223, 31, 664), (7, 266, 2605, 1057), (7, 260, 31, 1062)]
def xLOp : List (Nat × Nat × Nat) := [(6, 1, 84), (5, 3, 92), (1, 3, 98), (3, 3, 131), (4, 3, 177), (0, 7, 197), (2, 3, 230), (7, 1, 684)]
def xLYp : List (Nat × Nat × Nat) := [(1, 31, 313), (3, 31, 320)]
def x_okF (q : Nat × Nat × Nat × Nat × Nat) : Bool := match vwCl[q.2.2.1]? with
  | some r => decide (q.2.2.2.1 < r.2.2) && x_has q.2.2.2.2 (.fieldLink (x_on q.1) q.2.1 (r.2.1 q.2.2.2.1).1 (r.2.1 q.2.2.2.1).2.1 (r.2.1 q.2.2.2.1).2.2.1)
  | none => false
theorem xLF_ok : xLFp.all x_okF = true := by decide +kernel
theorem xLS_ok : xLSp.all (fun q => x_has q.2.2 (.fieldLink (x_on q.1) q.2.1 x_sC x_sN x_sD)) = true := by decide +kernel
def x_okC (q : Nat × Nat × Nat × Nat) : Bool := match vwCl[q.2.2.1]? with
  | some r => x_has q.2.2.2 (.classLink (x_on q.1) q.2.1 r.1)
  | none => false
theorem xLC_ok : xLCp.all x_okC = true := by decide +kernel
theorem xLJ_ok : xLJp.all (fun q => x_has q.2.2.2 (.constantLong (x_on q.1) q.2.1 (Int64.ofNat q.2.2.1))) = true := by decide +kernel
theorem xLO_ok : xLOp.all (fun q => x_has q.2.2 (.methodLink (x_on q.1) q.2.1 objectInit)) = true := by decide +kernel
theorem xLY_ok : xLYp.all (fun q => x_has q.2.2 (.methodLink (x_on q.1) q.2.1 arraycopyName)) = true := by decide +kernel
def xLVp : List (Nat × Nat × Nat × List Nat) := [(0, 193, 73, [209, 211, 213, 215, 217, 219, 221]), (1, 94, 70, [112, 114, 116, 118, 120, 122]), (2, 226, 74, [242, 244, 246, 248, 250, 252, 254, 256, 258]), (3, 127, 71, [148, 150, 152, 154, 156, 158]), (4, 173, 72, [185, 187, 189]), (5, 88, 69, [167, 169]), (6, 80, 68, [267, 269, 271, 273, 275, 277]), (7, 680, 75, [730, 732, 734, 736, 738, 740, 742, 744, 746, 748, 750, 752, 754, 756, 758, 760, 762, 764, 766, 768, 770, 772, 774, 776, 778])]
def x_okV (q : Nat × Nat × Nat × List Nat) : Bool := match vwCl[q.1]? with
  | some r => x_has q.2.1 (.instantiable r.1 r.2.2) && x_has q.2.2.1 (.initialized r.1) && decide (q.2.2.2.length = r.2.2) && (List.range r.2.2).all (fun k => x_has (q.2.2.2.getD k 0) (u_lay r.1 r.2.1 k) && decide (parseFieldDescriptor (r.2.1 k).2.2.1 = some (x_tf q.1 k)))
  | none => false
theorem xLV_ok : xLVp.all x_okV = true := by decide +kernel
theorem xLV_nums : xLVp.map (fun q => q.1) = List.range vwCl.length := by decide +kernel
theorem x_nmd : ∀ (ci : Nat) (r : vw_C), vwCl[ci]? = some r → ∀ a, a < r.2.2 → ∀ b, b < r.2.2 → a ≠ b → (r.2.1 a).2.1 ≠ (r.2.1 b).2.1 := by
  intro ci r h
  match ci, h with
  | 0, h => cases h; exact nmX0
  | 1, h => cases h; exact nmX1
  | 2, h => cases h; exact nmX3
  | 3, h => cases h; exact nmX4
  | 4, h => cases h; exact nmX5
  | 5, h => cases h; exact nmX6
  | 6, h => cases h; exact nmX7
  | 7, h => cases h; exact nmX8
  | n + 8, h => simp at h
theorem xW_obj : Jvm.Cond.instanceMethod objectInit ∈ x_TB ∧ Jvm.Cond.code objectInit ⟨#[0xb1]⟩ 1 none ∈ x_TB := ⟨x_has_in (pos := 85) (by decide +kernel), x_has_in (pos := 86) (by decide +kernel)⟩
theorem xW_cpy : Jvm.Cond.native arraycopyName ∈ x_TB ∧ Jvm.Cond.static arraycopyName ∈ x_TB ∧ Jvm.Cond.initialized "java/lang/System" ∈ x_TB := ⟨x_has_in (pos := 315) (by decide +kernel), x_has_in (pos := 314) (by decide +kernel), x_has_in (pos := 76) (by decide +kernel)⟩
theorem xW_arr : Jvm.Cond.arrayClass .int ∈ x_TB ∧ Jvm.Cond.arrayClass .long ∈ x_TB ∧ Jvm.Cond.arrayOver (.object (x_nm 5)) ∈ x_TB := ⟨x_has_in (pos := 125) (by decide +kernel), x_has_in (pos := 224) (by decide +kernel), x_has_in (pos := 179) (by decide +kernel)⟩
def xLTp : List (Nat × Nat × Nat × Nat) := [(4, 29, 1003, 321), (0, 108, 1004, 434), (0, 139, 1005, 452), (8, 18, 1002, 535)]
def x_mnm (a : Nat) : MethodName := if a = 1002 then Lib.Math.max.name else if a = 1003 then Lib.Math.min.name else if a = 1004 then Lib.Math.abs.name else Lib.MathLoose.min_long.x
theorem xLT_ok : xLTp.all (fun q => x_has q.2.2.2 (.methodLink (x_on q.1) q.2.1 (x_mnm q.2.2.1))) = true := by decide +kernel
theorem xW_mth : Jvm.Cond.initialized "java/lang/Math" ∈ x_TB ∧ Jvm.Cond.static Lib.Math.max.name ∈ x_TB ∧ Jvm.Cond.code Lib.Math.max.name Lib.Math.max.code 2 (some .int) ∈ x_TB ∧ Jvm.Cond.static Lib.Math.min.name ∈ x_TB ∧ Jvm.Cond.code Lib.Math.min.name Lib.Math.min.code 2 (some .int) ∈ x_TB ∧ Jvm.Cond.static Lib.Math.abs.name ∈ x_TB ∧ Jvm.Cond.code Lib.Math.abs.name Lib.Math.abs.code 1 (some .int) ∈ x_TB ∧ Jvm.Cond.static Lib.MathLoose.min_long.x ∈ x_TB ∧ Jvm.Cond.code Lib.MathLoose.min_long.x Lib.MathLoose.min_long.code 4 (some .long) ∈ x_TB := ⟨x_has_in (pos := 77) (by decide +kernel), x_has_in (pos := 536) (by decide +kernel), x_has_in (pos := 537) (by decide +kernel), x_has_in (pos := 322) (by decide +kernel), x_has_in (pos := 323) (by decide +kernel), x_has_in (pos := 435) (by decide +kernel), x_has_in (pos := 436) (by decide +kernel), x_has_in (pos := 453) (by decide +kernel), x_has_in (pos := 454) (by decide +kernel)⟩
def x_ao : Nat := 5
