section XO4
variable {p : Program} {l : Launch} {e : Env} {R : Room} {s : State} {m : MethodId} {args : Array Value} {below : List Frame} {meth : Method} {c : Code} {Qf : State → Prop} {D : va_G} {b q base mc ms n' z' : Nat}
variable {Pg : List xM} {LM : List (Nat × Nat × Nat)} {M : xM} {pc : Nat} {ls ls2 : xL} {st st2 : List Value} {h h2 : xH}
set_option maxHeartbeats 4000000 in
theorem x_op_sim {ins : Instr} {n a b0 : Nat} (C : x_Cx p s m c R mc ms (xm_cc M) (x_on (xm_o M)) (xm_L M)) (hmn : meth.name = (xm_y M).name) (hfr : R.frames = xm_fr M) (hlo : R.locals = xm_lo M) (hok : x_okI Pg LM M pc (ins, n, a, b0) = true) (hL : ls.length = xm_L M) (hnc : x_ctl (ins, n, a, b0) = false) (ho : x_op x_nm x_tf x_fn (ins, n, a, b0) ls st h = some (ls2, st2, h2)) (hn' : h2.length ≤ n') (hz' : x_sz h2 ≤ z') (k : x_Wn p l e R s m args below meth c Qf D b q base (xm_L M) mc ms n' z' (pc + n) ls2 st2 h2) : x_Wn p l e R s m args below meth c Qf D b q base (xm_L M) mc ms n' z' pc ls st h := by
  unfold x_okI at hok
  simp only [Bool.and_eq_true, decide_eq_true_eq] at hok
  obtain ⟨⟨hd, hn⟩, hx⟩ := hok
  unfold x_op at ho
  dsimp only at ho hx
  split at ho
  · obtain rfl := hn.resolve_left (by simp [x_len])
    cases ho
    exact x_Wn_s k fun H locs cells slots lsr hr hl kk => lv_iconst C.1 C.2.1 hd rfl kk
  · obtain rfl := hn.resolve_left (by simp [x_len])
    cases ho
    exact x_Wn_s k fun H locs cells slots lsr hr hl kk => lv_bipush C.1 C.2.1 hd rfl kk
  · obtain rfl := hn.resolve_left (by simp [x_len])
    cases ho
    exact x_Wn_s k fun H locs cells slots lsr hr hl kk => lv_sipush C.1 C.2.1 hd rfl kk
  · obtain rfl := hn.resolve_left (by simp [x_len])
    cases ho
    exact x_Wn_s k fun H locs cells slots lsr hr hl kk => lv_lconst C.1 C.2.1 hd rfl kk
  · obtain rfl := hn.resolve_left (by simp [x_len])
    cases ho
    obtain ⟨z, hz, hx⟩ := List.any_eq_true.mp hx
    simp only [Bool.and_eq_true, decide_eq_true_eq] at hx
    obtain ⟨⟨hx1, rfl⟩, rfl⟩ := hx
    have h2 := x_has_in (List.all_eq_true.mp xLJ_ok z hz)
    rw [hx1] at h2
    exact x_Wn_s k fun H locs cells slots lsr hr hl kk => lv_ldc2 C.1 C.2.1 C.2.2.2.1 (C.2.2.2.2.1.use h2 _) hd kk
  · obtain rfl := hn.resolve_left (by simp [x_len])
    exact x_s_iload C hd (Or.inl ⟨_, rfl, rfl, rfl⟩) ho k
  · obtain rfl := hn.resolve_left (by simp [x_len])
    exact x_s_iload C hd (Or.inr ⟨rfl, rfl⟩) ho k
  · obtain rfl := hn.resolve_left (by simp [x_len])
    exact x_s_lload C hd (Or.inl ⟨_, rfl, rfl, rfl⟩) ho k
  · obtain rfl := hn.resolve_left (by simp [x_len])
    exact x_s_lload C hd (Or.inr ⟨rfl, rfl⟩) ho k
  · obtain rfl := hn.resolve_left (by simp [x_len])
    exact x_s_aload C hd (Or.inl ⟨_, rfl, rfl, rfl⟩) ho k
  · obtain rfl := hn.resolve_left (by simp [x_len])
    exact x_s_aload C hd (Or.inr ⟨rfl, rfl⟩) ho k
  · obtain rfl := hn.resolve_left (by simp [x_len])
    exact x_s_istore C hL hd (Or.inl ⟨_, rfl, rfl, rfl⟩) ho k
  · obtain rfl := hn.resolve_left (by simp [x_len])
    exact x_s_istore C hL hd (Or.inr ⟨rfl, rfl⟩) ho k
  · obtain rfl := hn.resolve_left (by simp [x_len])
    exact x_s_lstore C hL hd (Or.inl ⟨_, rfl, rfl, rfl⟩) ho k
  · obtain rfl := hn.resolve_left (by simp [x_len])
    exact x_s_lstore C hL hd (Or.inr ⟨rfl, rfl⟩) ho k
  · obtain rfl := hn.resolve_left (by simp [x_len])
    exact x_s_astore C hL hd (Or.inl ⟨_, rfl, rfl, rfl⟩) ho k
  · obtain rfl := hn.resolve_left (by simp [x_len])
    exact x_s_astore C hL hd (Or.inr ⟨rfl, rfl⟩) ho k
  · obtain rfl := hn.resolve_left (by simp [x_len])
    exact x_s_iinc C hL hd ho k
  · obtain rfl := hn.resolve_left (by simp [x_len])
    exact x_s_ii (fun x y rest H locs cells slots lsr kk => lv_iadd C.1 C.2.1 hd kk) ho k
  · obtain rfl := hn.resolve_left (by simp [x_len])
    exact x_s_ii (fun x y rest H locs cells slots lsr kk => lv_isub C.1 C.2.1 hd kk) ho k
  · obtain rfl := hn.resolve_left (by simp [x_len])
    exact x_s_ii (fun x y rest H locs cells slots lsr kk => lv_imul C.1 C.2.1 hd kk) ho k
  · obtain rfl := hn.resolve_left (by simp [x_len])
    exact x_s_ii (fun x y rest H locs cells slots lsr kk => lv_iand C.1 C.2.1 hd kk) ho k
  · obtain rfl := hn.resolve_left (by simp [x_len])
    exact x_s_ii (fun x y rest H locs cells slots lsr kk => lv_ior C.1 C.2.1 hd kk) ho k
  · obtain rfl := hn.resolve_left (by simp [x_len])
    exact x_s_ii (fun x y rest H locs cells slots lsr kk => lv_ishl C.1 C.2.1 hd kk) ho k
  · obtain rfl := hn.resolve_left (by simp [x_len])
    exact x_s_ii (fun x y rest H locs cells slots lsr kk => lv_ishr C.1 C.2.1 hd kk) ho k
  · obtain rfl := hn.resolve_left (by simp [x_len])
    exact x_s_iz (fun x y rest H locs cells slots lsr hy kk => lv_idiv C.1 C.2.1 hd hy kk) ho k
  · obtain rfl := hn.resolve_left (by simp [x_len])
    exact x_s_iz (fun x y rest H locs cells slots lsr hy kk => lv_irem C.1 C.2.1 hd hy kk) ho k
  · obtain rfl := hn.resolve_left (by simp [x_len])
    exact x_s_ll (fun x y rest H locs cells slots lsr kk => lv_ladd C.1 C.2.1 hd kk) ho k
  · obtain rfl := hn.resolve_left (by simp [x_len])
    exact x_s_ll (fun x y rest H locs cells slots lsr kk => lv_lmul C.1 C.2.1 hd kk) ho k
  · obtain rfl := hn.resolve_left (by simp [x_len])
    exact x_s_ll (fun x y rest H locs cells slots lsr kk => lv_land C.1 C.2.1 hd kk) ho k
  · obtain rfl := hn.resolve_left (by simp [x_len])
    exact x_s_li (fun x y rest H locs cells slots lsr kk => lv_lshl C.1 C.2.1 hd rfl kk) ho k
  · obtain rfl := hn.resolve_left (by simp [x_len])
    exact x_s_li (fun x y rest H locs cells slots lsr kk => lv_lshr C.1 C.2.1 hd rfl kk) ho k
  · obtain rfl := hn.resolve_left (by simp [x_len])
    split at ho
    · cases ho
      exact x_Wn_s k fun H locs cells slots lsr hr hl kk => lv_i2l C.1 C.2.1 hd rfl kk
    · cases ho
  · obtain rfl := hn.resolve_left (by simp [x_len])
    split at ho
    · cases ho
      exact x_Wn_s k fun H locs cells slots lsr hr hl kk => lv_l2i C.1 C.2.1 hd rfl kk
    · cases ho
  · obtain rfl := hn.resolve_left (by simp [x_len])
    split at ho
    · cases ho
      exact x_Wn_s k fun H locs cells slots lsr hr hl kk => W.lcmp C.1 C.2.1 hd kk
    · cases ho
  · obtain rfl := hn.resolve_left (by simp [x_len])
    split at ho
    · split at ho
      · rename_i hv
        cases ho
        exact x_Wn_s k fun H locs cells slots lsr hr hl kk => lv_dup C.1 C.2.1 hd ((x_cv_cat _ _).trans hv) kk
      · cases ho
    · cases ho
  · obtain rfl := hn.resolve_left (by simp [x_len])
    split at ho
    · split at ho
      · rename_i hv
        cases ho
        exact x_Wn_s k fun H locs cells slots lsr hr hl kk => lv_dup2_11 C.1 C.2.1 hd ((x_cv_cat _ _).trans hv.1) ((x_cv_cat _ _).trans hv.2) kk
      · cases ho
    · cases ho
  · obtain rfl := hn.resolve_left (by simp [x_len])
    split at ho
    · split at ho
      · rename_i hv
        cases ho
        exact x_Wn_s k fun H locs cells slots lsr hr hl kk => lv_pop C.1 C.2.1 hd ((x_cv_cat _ _).trans hv) kk
      · cases ho
    · cases ho
  · obtain rfl := hn.resolve_left (by simp [x_len])
    obtain ⟨r, h1, h2, h3⟩ := x_okL1_in hx
    exact x_s_getf C h1 h2 h3 (x_clF h1).2.2.1 hd ho k
  · obtain rfl := hn.resolve_left (by simp [x_len])
    simp only [Bool.and_eq_true] at hx
    obtain ⟨r, h1, h2, h3⟩ := x_okL1_in hx.1
    have h4 := hx.2
    rw [h1] at h4
    simp only [Bool.or_eq_true, Bool.and_eq_true, decide_eq_true_eq, Bool.not_eq_true'] at h4
    exact x_s_putf C h1 h2 h3 (h4.imp id (fun z => ⟨hmn.trans z.1, z.2⟩)) hd ho k
  · obtain rfl := hn.resolve_left (by simp [x_len])
    cases ho
    obtain ⟨z, hz, hx⟩ := List.any_eq_true.mp hx
    simp only [Bool.and_eq_true, decide_eq_true_eq] at hx
    obtain ⟨hx1, rfl⟩ := hx
    have h2 := x_has_in (List.all_eq_true.mp xLS_ok z hz)
    rw [hx1] at h2
    refine x_Wn_s k fun H locs cells slots lsr hr hl kk => ?_
    obtain ⟨cf, kf, fi, f, a, cell, h1, h2', h3, h4, h5, h6, h7, h8⟩ := hr.2.2.2.2.2.1
    exact W.gets C.1 C.2.1 C.2.2.2.1 (C.2.2.2.2.1.use h2 _) h1 h2' h3 h4 h5 (fun e => by rw [e] at h6; cases h6) h7 rfl hd kk
  · obtain rfl := hn.resolve_left (by simp [x_len])
    exact x_s_ald C (Or.inl ⟨rfl, hd⟩) ho k
  · obtain rfl := hn.resolve_left (by simp [x_len])
    exact x_s_ald C (Or.inr ⟨rfl, hd⟩) ho k
  · obtain rfl := hn.resolve_left (by simp [x_len])
    exact x_s_aald C hd ho k
  · obtain rfl := hn.resolve_left (by simp [x_len])
    exact x_s_iast C hd ho k
  · obtain rfl := hn.resolve_left (by simp [x_len])
    exact x_s_last C hd ho k
  · obtain rfl := hn.resolve_left (by simp [x_len])
    exact x_s_aast C hd ho k
  · obtain rfl := hn.resolve_left (by simp [x_len])
    exact x_s_alen C hd ho k
  · obtain rfl := hn.resolve_left (by simp [x_len])
    rename_i t
    simp only [Bool.or_eq_true, decide_eq_true_eq] at hx
    exact x_s_newa C (by rcases hx with rfl | rfl; exact xW_arr.1; exact xW_arr.2.1) hx hn' hz' hd ho k
  · obtain rfl := hn.resolve_left (by simp [x_len])
    simp only [Bool.and_eq_true, decide_eq_true_eq] at hx
    obtain ⟨hx, rfl⟩ := hx
    obtain ⟨r, h1, h2⟩ := x_okC1_in hx
    rw [← x_nm_of h1] at h2
    exact x_s_anew C h2 xW_arr.2.2 hn' hz' hd ho k
  · obtain rfl := hn.resolve_left (by simp [x_len])
    obtain ⟨r, h1, h2⟩ := x_okC1_in hx
    cases ho
    have hsz := x_sz_push h (.inr (a, (List.range (x_fn a)).map (fun k => defaultValue (x_tf a k))))
    have hsz1 : x_size (.inr (a, (List.range (x_fn a)).map (fun k => defaultValue (x_tf a k)))) = x_fn a := by simp [x_size]
    exact x_s_new C h1 h2 (by simpa using hn') (by rw [hsz, hsz1] at hz'; exact hz') hd k
  · obtain rfl := hn.resolve_left (by simp [x_len])
    have ha : ¬ a < 1000 := by simpa [x_ctl] using hnc
    dsimp only at hx
    rw [if_neg ha] at hx
    split at ho
    · rename_i ha1
      rw [if_pos ha1] at hx
      simp only [Bool.and_eq_true, decide_eq_true_eq] at hx
      obtain ⟨⟨hx, h1⟩, h2⟩ := hx
      obtain ⟨z, hz, hx⟩ := List.any_eq_true.mp hx
      simp only [Bool.and_eq_true, decide_eq_true_eq] at hx
      obtain ⟨hx1, rfl⟩ := hx
      have h3 := x_has_in (List.all_eq_true.mp xLY_ok z hz)
      rw [hx1] at h3
      exact x_s_copy C h3 (hfr ▸ h1) (hlo ▸ h2) hd ho k
    · rename_i ha1
      rw [if_neg ha1] at hx
      simp only [Bool.and_eq_true, decide_eq_true_eq] at hx
      obtain ⟨⟨hx, h1⟩, h2⟩ := hx
      obtain ⟨z, hz, hx⟩ := List.any_eq_true.mp hx
      simp only [Bool.and_eq_true, decide_eq_true_eq] at hx
      obtain ⟨⟨hx1, rfl⟩, hx2⟩ := hx
      have h3 := x_has_in (List.all_eq_true.mp xLT_ok z hz)
      rw [hx1, hx2] at h3
      exact x_s_math C h3 (hfr ▸ h1) (hlo ▸ h2) hd ho k
  · obtain rfl := hn.resolve_left (by simp [x_len])
    have ha : ¬ a < 1000 := by simpa [x_ctl] using hnc
    dsimp only at hx
    rw [if_neg ha] at hx
    simp only [Bool.and_eq_true, decide_eq_true_eq] at hx
    obtain ⟨⟨hx, h1⟩, h2⟩ := hx
    obtain ⟨z, hz, hx⟩ := List.any_eq_true.mp hx
    simp only [Bool.and_eq_true, decide_eq_true_eq] at hx
    obtain ⟨hx1, rfl⟩ := hx
    have h3 := x_has_in (List.all_eq_true.mp xLO_ok z hz)
    rw [hx1] at h3
    exact x_s_obj C h3 (hfr ▸ h1) (hlo ▸ h2) hd ho k
  · cases ho
end XO4
/-! what an instruction keeps -/
theorem x_copy_len {ls ls2 : xL} {st st2 : List Value} {h h2 : xH} (ho : x_copy ls st h = some (ls2, st2, h2)) : ls2.length = ls.length ∧ h.length ≤ h2.length ∧ x_sz h ≤ x_sz h2 := by
  unfold x_copy at ho
  split at ho
  · split at ho
    · rename_i hs hh
      split at ho
      · rename_i hc
        cases ho
        exact ⟨rfl, by simp, Nat.le_of_eq (x_sz_set hh (by simp [x_size, hc.2.2.2.2.2.2.2.1])).symm⟩
      · cases ho
    · cases ho
  · cases ho
theorem x_math_len {a : Nat} {ls ls2 : xL} {st st2 : List Value} {h h2 : xH} (ho : x_math a ls st h = some (ls2, st2, h2)) : ls2.length = ls.length ∧ h.length ≤ h2.length ∧ x_sz h ≤ x_sz h2 := by
  have same : ls.length = ls.length ∧ h.length ≤ h.length ∧ x_sz h ≤ x_sz h := ⟨rfl, Nat.le_refl _, Nat.le_refl _⟩
  unfold x_math at ho
  (repeat' (split at ho)) <;> first | (cases ho; done) | (cases ho; exact same)
theorem x_op_len {i : xI} {ls ls2 : xL} {st st2 : List Value} {h h2 : xH} (ho : x_op x_nm x_tf x_fn i ls st h = some (ls2, st2, h2)) : ls2.length = ls.length ∧ h.length ≤ h2.length ∧ x_sz h ≤ x_sz h2 := by
  have same : ls.length = ls.length ∧ h.length ≤ h.length ∧ x_sz h ≤ x_sz h := ⟨rfl, Nat.le_refl _, Nat.le_refl _⟩
  unfold x_op at ho
  split at ho <;> first
    | (cases ho; done)
    | (cases ho; exact same)
    | (split at ho <;> first | exact x_copy_len ho | exact x_math_len ho)
    | (unfold x_ldi at ho; (repeat' (split at ho)) <;> first | (cases ho; done) | (cases ho; exact same))
    | (unfold x_ldl at ho; (repeat' (split at ho)) <;> first | (cases ho; done) | (cases ho; exact same))
    | (unfold x_lda at ho; (repeat' (split at ho)) <;> first | (cases ho; done) | (cases ho; exact same))
    | (unfold x_sti at ho; (repeat' (split at ho)) <;> first | (cases ho; done) | (cases ho; exact ⟨x_put_len _ _ _, same.2⟩))
    | (unfold x_sta at ho; (repeat' (split at ho)) <;> first | (cases ho; done) | (cases ho; exact ⟨x_put_len _ _ _, same.2⟩))
    | (unfold x_stl at ho; (repeat' (split at ho)) <;> first | (cases ho; done) | (cases ho; exact ⟨by rw [x_put2, List.length_set, x_put_len], same.2⟩))
    | (unfold x_inc at ho; (repeat' (split at ho)) <;> first | (cases ho; done) | (cases ho; exact ⟨x_put_len _ _ _, same.2⟩))
    | (unfold x_ii at ho; (repeat' (split at ho)) <;> first | (cases ho; done) | (cases ho; exact same))
    | (unfold x_iz at ho; (repeat' (split at ho)) <;> first | (cases ho; done) | (cases ho; exact same))
    | (unfold x_ll at ho; (repeat' (split at ho)) <;> first | (cases ho; done) | (cases ho; exact same))
    | (unfold x_li at ho; (repeat' (split at ho)) <;> first | (cases ho; done) | (cases ho; exact same))
    | (unfold x_getf at ho; (repeat' (split at ho)) <;> first | (cases ho; done) | (cases ho; exact same))
    | (unfold x_ald at ho; (repeat' (split at ho)) <;> first | (cases ho; done) | (cases ho; exact same))
    | (unfold x_aald at ho; (repeat' (split at ho)) <;> first | (cases ho; done) | (cases ho; exact same))
    | (unfold x_alen at ho; (repeat' (split at ho)) <;> first | (cases ho; done) | (cases ho; exact same))
    | (unfold x_obj at ho; (repeat' (split at ho)) <;> first | (cases ho; done) | (cases ho; exact same))
    | (unfold x_putf at ho; (repeat' (split at ho)) <;> first | (cases ho; done) | (cases ho; exact ⟨rfl, by simp, Nat.le_of_eq (x_sz_set (by assumption) (by simp [x_size])).symm⟩))
    | (unfold x_iast at ho; (repeat' (split at ho)) <;> first | (cases ho; done) | (cases ho; exact ⟨rfl, by simp, Nat.le_of_eq (x_sz_set (by assumption) (by simp [x_size])).symm⟩))
    | (unfold x_last at ho; (repeat' (split at ho)) <;> first | (cases ho; done) | (cases ho; exact ⟨rfl, by simp, Nat.le_of_eq (x_sz_set (by assumption) (by simp [x_size])).symm⟩))
    | (unfold x_aast at ho; (repeat' (split at ho)) <;> first | (cases ho; done) | (cases ho; exact ⟨rfl, by simp, Nat.le_of_eq (x_sz_set (by assumption) (by simp [x_size])).symm⟩))
    | (unfold x_newa at ho; (repeat' (split at ho)) <;> first | (cases ho; done) | (cases ho; exact ⟨rfl, by simp, by rw [x_sz_push]; omega⟩))
    | ((repeat' (split at ho)) <;> first | (cases ho; done) | (cases ho; exact same))
    | (cases ho; exact ⟨rfl, by simp, by rw [x_sz_push]; omega⟩)
