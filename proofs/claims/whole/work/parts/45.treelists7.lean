/-! the chart's trees by name are these -/
set_option maxRecDepth 100000 in
theorem sp1 : (((sTT 1).map (fun m => ucode 1 m 0)).isPerm tT1 && (sTT 1).all (fun m => decide (mono 1 (ucode 1 m 0) = m))) = true := by decide +kernel
set_option maxRecDepth 100000 in
theorem sp2 : (((sTT 2).map (fun m => ucode 2 m 0)).isPerm tT2 && (sTT 2).all (fun m => decide (mono 2 (ucode 2 m 0) = m))) = true := by decide +kernel
set_option maxRecDepth 100000 in
theorem sp3 : (((sTT 3).map (fun m => ucode 3 m 0)).isPerm tT3 && (sTT 3).all (fun m => decide (mono 3 (ucode 3 m 0) = m))) = true := by decide +kernel
set_option maxRecDepth 100000 in
theorem sp4 : (((sTT 4).map (fun m => ucode 4 m 0)).isPerm tT4 && (sTT 4).all (fun m => decide (mono 4 (ucode 4 m 0) = m))) = true := by decide +kernel
set_option maxRecDepth 100000 in
theorem sp5 : (((sTT 5).map (fun m => ucode 5 m 0)).isPerm tT5 && (sTT 5).all (fun m => decide (mono 5 (ucode 5 m 0) = m))) = true := by decide +kernel
set_option maxRecDepth 100000 in
theorem sp6 : (((sTT 6).map (fun m => ucode 6 m 0)).isPerm tT6 && (sTT 6).all (fun m => decide (mono 6 (ucode 6 m 0) = m))) = true := by decide +kernel
theorem sp_all : ∀ n, 1 ≤ n → n ≤ 6 → ((sTT n).map (fun m => ucode n m 0)).Perm (tT n) ∧ ∀ m, m ∈ sTT n → mono n (ucode n m 0) = m := by
  intro n h1 h6
  have key : ∀ {n : Nat} {L : List Nat}, (((sTT n).map (fun m => ucode n m 0)).isPerm L && (sTT n).all (fun m => decide (mono n (ucode n m 0) = m))) = true → ((sTT n).map (fun m => ucode n m 0)).Perm L ∧ ∀ m, m ∈ sTT n → mono n (ucode n m 0) = m := by
    intro n L h
    rw [Bool.and_eq_true] at h
    exact ⟨List.isPerm_iff.mp h.1, fun m hm => of_decide_eq_true (List.all_eq_true.mp h.2 m hm)⟩
  rcases (show n = 1 ∨ n = 2 ∨ n = 3 ∨ n = 4 ∨ n = 5 ∨ n = 6 by omega) with rfl | rfl | rfl | rfl | rfl | rfl
  · exact key sp1
  · exact key sp2
  · exact key sp3
  · exact key sp4
  · exact key sp5
  · exact key sp6
