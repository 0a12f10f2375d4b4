/-! what holds at first, in both -/
theorem x_hb.hd {h : xH} {g : Nat} {a b : List xE} (hb : x_hb h g (a ++ b)) : x_hb h g a := fun k e hk => hb k e (by rw [List.getElem?_append_left (List.getElem?_eq_some_iff.mp hk).1]; exact hk)
theorem x_hb.tl {h : xH} {g : Nat} {a b : List xE} (hb : x_hb h g (a ++ b)) : x_hb h (g + a.length) b := fun k e hk => by
  rw [Nat.add_assoc]
  exact hb (a.length + k) e (by rw [List.getElem?_append_right (by omega), Nat.add_sub_cancel_left]; exact hk)
theorem x_hb.app {h c : xH} {g : Nat} {a : List xE} (hb : x_hb h g a) : x_hb (h ++ c) g a := fun k e hk => by
  have := hb k e hk
  rw [List.getElem?_append_left (List.getElem?_eq_some_iff.mp this).1]
  exact this
theorem rep_get {n k : Nat} {v : Int32} : (List.replicate n v).getD k 0 = if k < n then v else 0 := by
  rw [List.getD_eq_getElem?_getD, List.getElem?_replicate]
  split <;> rfl
theorem gP0_e : gP0 = List.replicate 72 (-1) := by decide +kernel
theorem gR0_e : gR0 = [0, -1, -1, -1, -1, -1] := by decide +kernel
theorem svl0 : svl s0 := by
  refine ⟨⟨?_, ?_, ?_, ?_, rfl⟩, ?_, ?_, ?_, ?_, ?_⟩
  · show gP0.length = 72
    rw [gP0_e, List.length_replicate]
  · show gR0.length = 6
    rw [gR0_e]
    rfl
  · show (List.replicate 24 (0 : Int32)).length = 24
    rw [List.length_replicate]
  · show (List.replicate 12 (0 : Int32)).length = 12
    rw [List.length_replicate]
  all_goals rfl
theorem sv0 : sv s0 := by
  refine ⟨svl0, fun k => ?_, fun k => ?_, fun k => ?_, fun k => ?_, ⟨⟨1, by decide, rfl⟩, ⟨2, by decide, rfl⟩, ⟨6, by decide, rfl⟩⟩, fun k => ?_, ⟨rfl, by decide⟩, ⟨rfl, by decide⟩⟩
  · show gP0.getD k 0 = -1 ∨ ∃ j, j ≤ 9 ∧ gP0.getD k 0 = nI j
    rw [gP0_e, rep_get]
    split
    · exact Or.inl rfl
    · exact Or.inr ⟨0, by decide, rfl⟩
  · show gR0.getD k 0 = -1 ∨ ∃ j, j ≤ 9 ∧ gR0.getD k 0 = nI j
    rw [gR0_e]
    rcases (show k = 0 ∨ k = 1 ∨ k = 2 ∨ k = 3 ∨ k = 4 ∨ k = 5 ∨ 6 ≤ k by omega) with rfl | rfl | rfl | rfl | rfl | rfl | hk
    · exact Or.inr ⟨0, by decide, rfl⟩
    · exact Or.inl rfl
    · exact Or.inl rfl
    · exact Or.inl rfl
    · exact Or.inl rfl
    · exact Or.inl rfl
    · refine Or.inr ⟨0, by decide, ?_⟩
      rw [List.getD_eq_getElem?_getD, List.getElem?_eq_none (by simpa using hk)]
      rfl
  · show (List.replicate 24 (0 : Int32)).getD k 0 = -1 ∨ ∃ j, j < 6 ∧ (List.replicate 24 (0 : Int32)).getD k 0 = nI j
    refine Or.inr ⟨0, by decide, ?_⟩
    rw [rep_get]
    split <;> rfl
  · show ∃ j, j ≤ 9 ∧ (List.replicate 12 (0 : Int32)).getD k 0 = nI j
    refine ⟨0, by decide, ?_⟩
    rw [rep_get]
    split <;> rfl
  · show ∃ j, j < 12 ∧ (List.replicate 7 (0 : Int32)).getD k 0 = nI j
    refine ⟨0, by decide, ?_⟩
    rw [rep_get]
    split <;> rfl
theorem nw0_e : nw0 = List.replicate 72 (-1) ++ (0 :: List.replicate 5 (-1)) ++ List.replicate 37 0 ++ [1, 2, 6] ++ List.replicate 31 0 := by decide +kernel
theorem gr0 : gr s0 nw0 := by
  refine ⟨?_, ?_, ?_, ?_, ?_, ?_, ?_, ?_⟩
  · rw [nw0_e]
    decide +kernel
  · show ∀ k, k < 72 → nw0.getD k 0 = gP0.getD k 0
    rw [nw0_e, gP0_e]
    decide +kernel
  · show ∀ k, k < 6 → nw0.getD (72 + k) 0 = gR0.getD k 0
    rw [nw0_e, gR0_e]
    decide +kernel
  · show nw0.getD 78 0 = 0
    rw [nw0_e]
    decide +kernel
  · show ∀ e, e < 12 → nw0.getD (79 + 3 * e) 0 = (List.replicate 24 (0 : Int32)).getD (2 * e) 0 ∧ nw0.getD (79 + 3 * e + 1) 0 = (List.replicate 24 (0 : Int32)).getD (2 * e + 1) 0 ∧ nw0.getD (79 + 3 * e + 2) 0 = (List.replicate 12 (0 : Int32)).getD e 0
    rw [nw0_e]
    decide +kernel
  · show ∀ k, k < 3 → nw0.getD (115 + k) 0 = gT0.getD k 0
    rw [nw0_e]
    decide +kernel
  · show nw0.getD 118 0 = 0
    rw [nw0_e]
    decide +kernel
  · show ∀ k, k < 6 → nw0.getD (119 + 5 * k) 0 = (List.replicate 7 (0 : Int32)).getD (k + 1) 0
    rw [nw0_e]
    decide +kernel
theorem Rl0 : Rl s0 nw0 := ⟨sv0, gr0, rfl, rfl, fun k h1 h2 => by
  have : sn s0 = 0 := rfl
  omega⟩
theorem ch00 : ch0 k0.2.1 := by
  have key : ∀ f, f < 8 → 1 ≤ f → ∀ d, d < 8 → ∀ q, q < 2 → cc0.getD (nsp f (f - 1) d q) 0 = 1 := by decide +kernel
  intro f d q h1 h2 h3 h4
  refine ⟨?_, key f h2 h1 d h3 q h4⟩
  show (List.replicate 1024 (0 : Int64)).getD _ 0 = 0
  rw [List.getD_eq_getElem?_getD, List.getElem?_replicate]
  split <;> rfl
theorem kcok0 : kcok k0 := ⟨List.length_replicate, List.length_replicate, List.length_replicate, List.length_replicate, by
  show (kf1 (List.replicate 1024 0) 7).length = 1024
  rw [kf1_len, List.length_replicate]⟩
theorem INV0 : INV s0 k0 (fun _ => s0) 0 0 z120 0 (List.replicate 3 0) nw0 (List.replicate 894 0) := ⟨Rl0, ⟨kcok0, ch00⟩, ⟨by decide, by decide, fun i hi => by omega⟩, List.length_replicate, List.length_replicate, by decide, rfl⟩
/-- the heap behind both constructors -/
def hS (ys : List Int32) : xH := (x_h0 ys ++ bPR 2) ++ bM 122
theorem BR0 (ys : List Int32) : BR ys (hS ys) := by
  have hP : x_hb (hS ys) 2 (bPR 2) := x_hb.app (xN.hb (h0 := x_h0 ys) xN.mk)
  have hM : x_hb (hS ys) 122 (bM 122) := xN.hb (h0 := x_h0 ys ++ bPR 2) (cs := bM 122) xN.mk
  have L : lW ys (hS ys) := ⟨rfl, rfl, rfl⟩
  generalize hS ys = h at hP hM L
  have p0 : x_hb h 2 wP := x_hb.hd hP
  have t0 : x_hb h 3 _ := x_hb.tl hP
  have p1 : x_hb h 3 (x_ts 3 s0) := x_hb.hd t0
  have t1 : x_hb h 16 _ := x_hb.tl t0
  have p2 : x_hb h 16 (x_ts 16 s0) := x_hb.hd t1
  have t2 : x_hb h 29 _ := x_hb.tl t1
  have p3 : x_hb h 29 (bSh 29) := x_hb.hd t2
  have t3 : x_hb h 109 _ := x_hb.tl t2
  have p4 : x_hb h 109 (x_hs 109 k0) := x_hb.hd t3
  have t4 : x_hb h 115 _ := x_hb.tl t3
  have p5 : x_hb h 115 (x_rc 115 z120 z120 z120 z120 z120 0 0 0 0) := x_hb.hd t4
  have p6 : x_hb h 121 [xi (List.replicate 3 0)] := x_hb.tl t4
  have q0 : x_hb h 29 (x_sh 29 (nI 0) (nI 0)) := x_hb.hd p3
  have u0 : x_hb h 31 _ := x_hb.tl p3
  have q1 : x_hb h 31 (x_ts 31 s0) := x_hb.hd u0
  have u1 : x_hb h 44 _ := x_hb.tl u0
  have q2 : x_hb h 44 (x_ts 44 s0) := x_hb.hd u1
  have u2 : x_hb h 57 _ := x_hb.tl u1
  have q3 : x_hb h 57 (x_ts 57 s0) := x_hb.hd u2
  have u3 : x_hb h 70 _ := x_hb.tl u2
  have q4 : x_hb h 70 (x_ts 70 s0) := x_hb.hd u3
  have u4 : x_hb h 83 _ := x_hb.tl u3
  have q5 : x_hb h 83 (x_ts 83 s0) := x_hb.hd u4
  have q6 : x_hb h 96 (x_ts 96 s0) := x_hb.tl u4
  refine ⟨s0, k0, fun _ => s0, 0, 0, z120, 0, List.replicate 3 0, nw0, List.replicate 894 0, L, ⟨p0, p1, ⟨s0, svl0, p2⟩, q0, fun i hi => ⟨svl0, ?_⟩, p4, ⟨z120, z120, z120, z120, 0, 0, 0, ⟨List.length_replicate, List.length_replicate, List.length_replicate, List.length_replicate⟩, p5⟩, p6⟩, ?_, INV0⟩
  · rcases (show i = 0 ∨ i = 1 ∨ i = 2 ∨ i = 3 ∨ i = 4 ∨ i = 5 by omega) with rfl | rfl | rfl | rfl | rfl | rfl
    · exact q1
    · exact q2
    · exact q3
    · exact q4
    · exact q5
    · exact q6
  · have hT := tOK_0 (bg := List.replicate 8 0) (tr0 := List.replicate 911 0) List.length_replicate List.length_replicate
    have hk := (nall_ok (hs := hs0) (bg := List.replicate 8 0) ⟨rfl, fun k => by rw [hs0_get]; decide⟩ List.length_replicate 6 (by decide)).1
    unfold bM at hM
    generalize nall hs0 (List.replicate 8 0) 6 = F at hM hT hk
    generalize ntrs (List.replicate 911 0) F.1.2 = tr at hM hT
    generalize F.2.set 7 (nI F.1.2.length) = bg at hM hT
    exact ⟨(List.replicate 149 0, F.1.1, z7, z7, z7, z7, tr, bg, 0, 0, 0, 0, List.replicate 40 0, List.replicate 41 0, z120, 0, 0, 0, 0), ⟨List.length_replicate, hk, List.length_replicate, List.length_replicate, List.length_replicate, List.length_replicate, hT, List.length_replicate, List.length_replicate, List.length_replicate⟩, hM⟩
