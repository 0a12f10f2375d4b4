/-! does: both; the law -/
theorem t_does {ys : List Int32} {h : xH} (B : BR ys h) : TC ys h 151 165 [] := by
  obtain ⟨s, k, sh, nx, ct, tx, ln, rf, nw, pa, L, C, M, I⟩ := B
  obtain ⟨i1, i2, ⟨i3, i4, i5⟩, i6, i7, i8, i9⟩ := id I
  cases hp : (pR tx ln).1
  · exact TC_mk L (c7_does_no C i7 i8 hp) (fun h1 F => m8_does_no (M.cF F) i7 i8 hp) I
  · obtain ⟨q, b, s', k', S, K1, H0, H1⟩ := c7_does_ok C i7 i8 i1.1 i2.1 i3 i4 hp
    cases b
    · refine TC_mk2 L (H0 rfl) (fun h1 F => ?_)
      obtain ⟨h2, p, M2, F2, C2⟩ := (m8_does_ok (M.cF F) i1 i2.1 i2.2 i4 i6 i7 i8 hp S).1 rfl
      exact ⟨h2, nw, pa, p, M2, F2, i1, ⟨K1, C2⟩, ⟨i3, i4, i5⟩, i6, i7, i8, i9⟩
    · refine TC_mk2 L (H1 rfl) (fun h1 F => ?_)
      obtain ⟨nw', h2, p, M2, F2, R2, C2⟩ := (m8_does_ok (M.cF F) i1 i2.1 i2.2 i4 i6 i7 i8 hp S).2 rfl
      exact ⟨h2, nw', _, p, M2, F2, INV_push I i1 R2 ⟨K1, C2⟩⟩
theorem x_law : x_Law := law_open (fun _ _ B => t_does B)
