theorem x_shl1 : ∀ k, k < 7 → (1 : Int32) <<< (nI k &&& 31) = nI (2 ^ k) := by decide +kernel
theorem mcodes_ok {nw rd so ah ar : List Int32} {n : Nat} {rep : Bool} (hn : n < 7) : ∀ {cs : List Nat} {s : List Nat × mR}, nok s.1 → nok (mcodes nw rd so ah ar n rep cs s).1
  | [], _, h => h
  | c :: cs, s, h => mcodes_ok (cs := cs) hn (nok_lay (by omega) (by omega) h)
theorem mfinds_ok {nw ah ar : List Int32} {n : Nat} {rep : Bool} {cs hs : List Nat} {rd so : List Int32} {rc : mR} (hn : n < 7) (hk : nok hs) (l1 : rd.length = 7) (l2 : so.length = 7) : ∀ b, nok (mfinds nw ah ar n rep cs hs rd so rc b).2.1 ∧ (mfinds nw ah ar n rep cs hs rd so rc b).1.1.length = 7 ∧ (mfinds nw ah ar n rep cs hs rd so rc b).1.2.length = 7
  | 0 => ⟨hk, l1, l2⟩
  | b + 1 => by
    obtain ⟨h1, h2, h3⟩ := mfinds_ok (nw := nw) (ah := ah) (ar := ar) (rep := rep) (cs := cs) (rc := rc) hn hk l1 l2 b
    refine ⟨?_, ?_, ?_⟩
    · unfold mfinds
      dsimp only
      split
      · exact mcodes_ok hn h1
      · exact h1
    · unfold mfinds
      dsimp only
      rw [(mread_len n).1]
      exact h2
    · unfold mfinds
      dsimp only
      rw [(mread_len n).2]
      exact h3
section MO11
variable {m : Nat} {nw asd pa rf tx hd rd so ah ar tr bg le fr nu : List Int32} {sts byt od sp wr : Int32} {rc : mR} {ha : Int64} {x1 x2 x3 x4 : Int32} {h h0 : xH} {n : Nat} {rep : Bool} {hs : List Nat}
theorem l_finds {lo hi : Nat} {cs : List Nat} (h2 : 2 ≤ m) (hn : n < 7) (h0n : 0 < n) (i1 : xin 115 nw.length) (i2 : xin 116 nw.length) (hk : nok hs) (l1 : rd.length = 7) (l2 : so.length = 7) (l3 : ah.length = 7) (l4 : ar.length = 7) (hbg : bg.length = 8) (htr : tr.length = 911) (hhi : hi ≤ 911) (elo : xg bg (nI n) = nI lo) (ehi : xg bg (nI (n + 1)) = nI hi) (hlen : lo + cs.length = hi) (hcs : ∀ j, j < cs.length → tr.getD (lo + j) 0 = nI (cs.getD j 0) ∧ cs.getD j 0 < 2 ^ 31)
    (hr : ∀ w, w < n → xin (119 + 5 * (nI (w + 1) - 1)) nw.length ∧ ∀ z, z < 2 → xin (mentry nw (nI (w + 1)) + nI z) nw.length)
    (hv : ∀ (b : Nat) (rd so : List Int32), b < 64 → rd.length = 7 → so.length = 7 → (mread nw b n rd so n).2 = true → ∀ hs : List Nat, nok hs → (∀ w, w < n → hs.getD (w + 1) 0 ≤ n) → ∀ w, w < n → mwell nw (hs.map nI) (mread nw b n rd so n).1.1 (mread nw b n rd so n).1.2 (nI (w + 1))) :
    ∀ (d b : Nat) (h : xH) (_ : x_hb h m (x_mc m nw asd pa sts rf tx byt ((mfinds nw ah ar n rep cs hs rd so rc b).2.1.map nI) ((mfinds nw ah ar n rep cs hs rd so rc b).1.1) ((mfinds nw ah ar n rep cs hs rd so rc b).1.2) ah ar tr bg ((mfinds nw ah ar n rep cs hs rd so rc b).2.2.1) ((mfinds nw ah ar n rep cs hs rd so rc b).2.2.2.1) ((mfinds nw ah ar n rep cs hs rd so rc b).2.2.2.2.1) ((mfinds nw ah ar n rep cs hs rd so rc b).2.2.2.2.2) le fr nu od sp wr ha)) (_ : x_wr h0 m (x_mc m nw asd pa sts rf tx byt ((mfinds nw ah ar n rep cs hs rd so rc b).2.1.map nI) ((mfinds nw ah ar n rep cs hs rd so rc b).1.1) ((mfinds nw ah ar n rep cs hs rd so rc b).1.2) ah ar tr bg ((mfinds nw ah ar n rep cs hs rd so rc b).2.2.1) ((mfinds nw ah ar n rep cs hs rd so rc b).2.2.2.1) ((mfinds nw ah ar n rep cs hs rd so rc b).2.2.2.2.1) ((mfinds nw ah ar n rep cs hs rd so rc b).2.2.2.2.2) le fr nu od sp wr ha) = h) (_ : m + 16 ≤ h0.length) (y4 y5 : Option Int32), b + d = 2 ^ n →
      x_EV 94 7 [some (.ref m), some (.int (nI n)), some (.int (if rep = true then 1 else 0)), some (.int (nI b)), y4.map Value.int, y5.map Value.int] [] h none (x_wr h0 m (x_mc m nw asd pa sts rf tx byt ((mfinds nw ah ar n rep cs hs rd so rc (2 ^ n)).2.1.map nI) ((mfinds nw ah ar n rep cs hs rd so rc (2 ^ n)).1.1) ((mfinds nw ah ar n rep cs hs rd so rc (2 ^ n)).1.2) ah ar tr bg ((mfinds nw ah ar n rep cs hs rd so rc (2 ^ n)).2.2.1) ((mfinds nw ah ar n rep cs hs rd so rc (2 ^ n)).2.2.2.1) ((mfinds nw ah ar n rep cs hs rd so rc (2 ^ n)).2.2.2.2.1) ((mfinds nw ah ar n rep cs hs rd so rc (2 ^ n)).2.2.2.2.2) le fr nu od sp wr ha)) := by
  have vb : xin (nI n) bg.length := x_in (by rw [hbg]; omega) (by rw [hbg]; decide)
  have vb1 : xin (nI (n + 1)) bg.length := x_in (by rw [hbg]; omega) (by rw [hbg]; decide)
  have p64 : 2 ^ n ≤ 64 := Nat.pow_le_pow_right (by omega) (show n ≤ 6 by omega)
  intro d
  induction d with
  | zero =>
    intro b h hb e hl y4 y5 hd
    have eb : b = 2 ^ n := by omega
    refine xe_X8_finds_7 ?_
    have fin : x_EV 94 78 [some (.ref m), some (.int (nI n)), some (.int (if rep = true then 1 else 0)), some (.int (nI b)), y4.map Value.int, y5.map Value.int] [] h none (x_wr h0 m (x_mc m nw asd pa sts rf tx byt ((mfinds nw ah ar n rep cs hs rd so rc (2 ^ n)).2.1.map nI) ((mfinds nw ah ar n rep cs hs rd so rc (2 ^ n)).1.1) ((mfinds nw ah ar n rep cs hs rd so rc (2 ^ n)).1.2) ah ar tr bg ((mfinds nw ah ar n rep cs hs rd so rc (2 ^ n)).2.2.1) ((mfinds nw ah ar n rep cs hs rd so rc (2 ^ n)).2.2.2.1) ((mfinds nw ah ar n rep cs hs rd so rc (2 ^ n)).2.2.2.2.1) ((mfinds nw ah ar n rep cs hs rd so rc (2 ^ n)).2.2.2.2.2) le fr nu od sp wr ha)) := by
      refine xe_X8_finds_78 ?_
      (repeat (first | (simp only [xb_X8_finds_0, xb_X8_finds_7, xb_X8_finds_30, xb_X8_finds_72, xb_X8_finds_78, xs_nil, Nat.reduceAdd, true_implies, not_true_eq_false, not_false_eq_true, false_implies, and_true, true_and, x_10, xs_aload_n_0, xs_iconst_0, xs_istore_n_3_i, xs_istore_n_3_a, xs_istore_n_3_n, xs_istore_n_3_l, xs_iload_n_3, xs_iconst_1, xs_iload_n_1, xs_ishl, xs_icmp_ge, xs_istore_4_i, xs_istore_4_a, xs_istore_4_n, xs_istore_4_l, xs_istore_5_i, xs_istore_5_a, xs_istore_5_n, xs_istore_5_l, xs_iload_5, xs_iadd, xs_iload_4, xs_if_eq, xs_iload_n_2, xs_iinc_5_1_i, xs_iinc_5_1_a, xs_iinc_5_1_n, xs_goto, xs_iinc_3_1_i, xs_iinc_3_1_a, xs_iinc_3_1_n, xs_return]) ))
      rw [← eb]
      exact e
    (repeat (first | (simp only [xb_X8_finds_0, xb_X8_finds_7, xb_X8_finds_30, xb_X8_finds_72, xb_X8_finds_78, xs_nil, Nat.reduceAdd, true_implies, not_true_eq_false, not_false_eq_true, false_implies, and_true, true_and, x_10, xs_aload_n_0, xs_iconst_0, xs_istore_n_3_i, xs_istore_n_3_a, xs_istore_n_3_n, xs_istore_n_3_l, xs_iload_n_3, xs_iconst_1, xs_iload_n_1, xs_ishl, xs_icmp_ge, xs_istore_4_i, xs_istore_4_a, xs_istore_4_n, xs_istore_4_l, xs_istore_5_i, xs_istore_5_a, xs_istore_5_n, xs_istore_5_l, xs_iload_5, xs_iadd, xs_iload_4, xs_if_eq, xs_iload_n_2, xs_iinc_5_1_i, xs_iinc_5_1_a, xs_iinc_5_1_n, xs_goto, xs_iinc_3_1_i, xs_iinc_3_1_a, xs_iinc_3_1_n, xs_return]) ))
    rw [x_shl1 n hn]
    refine ⟨fun q => fin, fun q => absurd (nI_le (by omega) (by omega)) q⟩
  | succ d ih =>
    intro b h hb e hl y4 y5 hd
    obtain ⟨g1, g2, g3⟩ := mfinds_ok (nw := nw) (ah := ah) (ar := ar) (rep := rep) (cs := cs) (rc := rc) hn hk l1 l2 b
    have ihT := ih (b + 1)
    have eN : mfinds nw ah ar n rep cs hs rd so rc (b + 1) = ((mread nw b n (mfinds nw ah ar n rep cs hs rd so rc b).1.1 (mfinds nw ah ar n rep cs hs rd so rc b).1.2 n).1, if (mread nw b n (mfinds nw ah ar n rep cs hs rd so rc b).1.1 (mfinds nw ah ar n rep cs hs rd so rc b).1.2 n).2 = true then mcodes nw (mread nw b n (mfinds nw ah ar n rep cs hs rd so rc b).1.1 (mfinds nw ah ar n rep cs hs rd so rc b).1.2 n).1.1 (mread nw b n (mfinds nw ah ar n rep cs hs rd so rc b).1.1 (mfinds nw ah ar n rep cs hs rd so rc b).1.2 n).1.2 ah ar n rep cs (mfinds nw ah ar n rep cs hs rd so rc b).2 else (mfinds nw ah ar n rep cs hs rd so rc b).2) := rfl
    rw [eN] at ihT
    generalize h' : x_wr h0 m (x_mc m nw asd pa sts rf tx byt ((mfinds nw ah ar n rep cs hs rd so rc (2 ^ n)).2.1.map nI) ((mfinds nw ah ar n rep cs hs rd so rc (2 ^ n)).1.1) ((mfinds nw ah ar n rep cs hs rd so rc (2 ^ n)).1.2) ah ar tr bg ((mfinds nw ah ar n rep cs hs rd so rc (2 ^ n)).2.2.1) ((mfinds nw ah ar n rep cs hs rd so rc (2 ^ n)).2.2.2.1) ((mfinds nw ah ar n rep cs hs rd so rc (2 ^ n)).2.2.2.2.1) ((mfinds nw ah ar n rep cs hs rd so rc (2 ^ n)).2.2.2.2.2) le fr nu od sp wr ha) = hE at ihT ⊢
    generalize mfinds nw ah ar n rep cs hs rd so rc b = t at g1 g2 g3 ihT hb e ⊢
    obtain ⟨⟨rd1, so1⟩, s1⟩ := t
    dsimp only at g1 g2 g3 ihT hb e ⊢
    have vr := mread_len (nw := nw) (b := b) (n := n) (rd := rd1) (so := so1) n
    have vv := hv b rd1 so1 (by omega) g2 g3
    have cR := c_laysReadings (b := b) hb h2 hn (by omega) g2 g3 hr
    have hl3 : m + 16 ≤ h.length := hb.fit (Nat.zero_lt_succ _)
    generalize eQ : mread nw b n rd1 so1 n = q at vr vv cR ihT
    obtain ⟨⟨rd2, so2⟩, F⟩ := q
    dsimp only at vr vv cR ihT
    have e3 : x_wr h m (x_mc m nw asd pa sts rf tx byt (s1.1.map nI) (rd2) (so2) ah ar tr bg (s1.2.1) (s1.2.2.1) (s1.2.2.2.1) (s1.2.2.2.2) le fr nu od sp wr ha) = x_wr h0 m (x_mc m nw asd pa sts rf tx byt (s1.1.map nI) (rd2) (so2) ah ar tr bg (s1.2.1) (s1.2.2.1) (s1.2.2.2.1) (s1.2.2.2.2) le fr nu od sp wr ha) := by
      rw [← e]
      exact x_wr_wr hl rfl
    have hb3 : x_hb (x_wr h m (x_mc m nw asd pa sts rf tx byt (s1.1.map nI) (rd2) (so2) ah ar tr bg (s1.2.1) (s1.2.2.1) (s1.2.2.2.1) (s1.2.2.2.2) le fr nu od sp wr ha)) m (x_mc m nw asd pa sts rf tx byt (s1.1.map nI) (rd2) (so2) ah ar tr bg (s1.2.1) (s1.2.2.1) (s1.2.2.2.1) (s1.2.2.2.2) le fr nu od sp wr ha) := x_hb_wr hl3
    generalize x_wr h m (x_mc m nw asd pa sts rf tx byt (s1.1.map nI) (rd2) (so2) ah ar tr bg (s1.2.1) (s1.2.2.1) (s1.2.2.2.1) (s1.2.2.2.2) le fr nu od sp wr ha) = h1 at e3 hb3 cR
    -- behind the readings: the trees, or none
    have mid : x_EV 94 30 [some (.ref m), some (.int (nI n)), some (.int (if rep = true then 1 else 0)), some (.int (nI b)), some (.int (if F = true then 1 else 0)), some (.int (nI lo))] [] h1 none hE := by
      by_cases hF : F = true
      · subst hF
        rw [show (if true = true then (1 : Int32) else 0) = 1 from rfl]
        rw [if_pos (show true = true from rfl)] at ihT
        refine l_trees (hi := hi) h2 hn h0n i1 i2 (by rw [vr.1]; exact g2) l3 l4 hbg htr hhi ehi (vv rfl) cs lo s1 h1 hb3 e3.symm hl g1 hlen hcs (fun h5 hb5 e5 hk5 => ?_)
        refine xe_X8_finds_72 ?_
        (repeat (first | (simp only [xb_X8_finds_0, xb_X8_finds_7, xb_X8_finds_30, xb_X8_finds_72, xb_X8_finds_78, xs_nil, Nat.reduceAdd, true_implies, not_true_eq_false, not_false_eq_true, false_implies, and_true, true_and, x_10, xs_aload_n_0, xs_iconst_0, xs_istore_n_3_i, xs_istore_n_3_a, xs_istore_n_3_n, xs_istore_n_3_l, xs_iload_n_3, xs_iconst_1, xs_iload_n_1, xs_ishl, xs_icmp_ge, xs_istore_4_i, xs_istore_4_a, xs_istore_4_n, xs_istore_4_l, xs_istore_5_i, xs_istore_5_a, xs_istore_5_n, xs_istore_5_l, xs_iload_5, xs_iadd, xs_iload_4, xs_if_eq, xs_iload_n_2, xs_iinc_5_1_i, xs_iinc_5_1_a, xs_iinc_5_1_n, xs_goto, xs_iinc_3_1_i, xs_iinc_3_1_a, xs_iinc_3_1_n, xs_return]) ))
        rw [nI_1]
        exact ihT h5 hb5 e5 hl (some 1) (some _) (by omega)
      · have hF2 : F = false := by simpa using hF
        subst hF2
        rw [show (if false = true then (1 : Int32) else 0) = 0 from rfl]
        rw [if_neg (show ¬ false = true by simp)] at ihT
        have out : x_EV 94 72 [some (.ref m), some (.int (nI n)), some (.int (if rep = true then 1 else 0)), some (.int (nI b)), some (.int 0), some (.int (nI lo))] [] h1 none hE := by
          refine xe_X8_finds_72 ?_
          (repeat (first | (simp only [xb_X8_finds_0, xb_X8_finds_7, xb_X8_finds_30, xb_X8_finds_72, xb_X8_finds_78, xs_nil, Nat.reduceAdd, true_implies, not_true_eq_false, not_false_eq_true, false_implies, and_true, true_and, x_10, xs_aload_n_0, xs_iconst_0, xs_istore_n_3_i, xs_istore_n_3_a, xs_istore_n_3_n, xs_istore_n_3_l, xs_iload_n_3, xs_iconst_1, xs_iload_n_1, xs_ishl, xs_icmp_ge, xs_istore_4_i, xs_istore_4_a, xs_istore_4_n, xs_istore_4_l, xs_istore_5_i, xs_istore_5_a, xs_istore_5_n, xs_istore_5_l, xs_iload_5, xs_iadd, xs_iload_4, xs_if_eq, xs_iload_n_2, xs_iinc_5_1_i, xs_iinc_5_1_a, xs_iinc_5_1_n, xs_goto, xs_iinc_3_1_i, xs_iinc_3_1_a, xs_iinc_3_1_n, xs_return]) ))
          rw [nI_1]
          exact ihT h1 hb3 e3.symm hl (some 0) (some _) (by omega)
        refine xe_X8_finds_30 ?_
        (repeat (first | (simp only [xb_X8_finds_0, xb_X8_finds_7, xb_X8_finds_30, xb_X8_finds_72, xb_X8_finds_78, xs_nil, Nat.reduceAdd, true_implies, not_true_eq_false, not_false_eq_true, false_implies, and_true, true_and, x_10, xs_aload_n_0, xs_iconst_0, xs_istore_n_3_i, xs_istore_n_3_a, xs_istore_n_3_n, xs_istore_n_3_l, xs_iload_n_3, xs_iconst_1, xs_iload_n_1, xs_ishl, xs_icmp_ge, xs_istore_4_i, xs_istore_4_a, xs_istore_4_n, xs_istore_4_l, xs_istore_5_i, xs_istore_5_a, xs_istore_5_n, xs_istore_5_l, xs_iload_5, xs_iadd, xs_iload_4, xs_if_eq, xs_iload_n_2, xs_iinc_5_1_i, xs_iinc_5_1_a, xs_iinc_5_1_n, xs_goto, xs_iinc_3_1_i, xs_iinc_3_1_a, xs_iinc_3_1_n, xs_return]) | (refine xr_getf (hb3 0 _ rfl) (by rfl) ?_)))
        rw [nI_1]
        refine xr_iaload (hb3 12 _ rfl) vb1 ?_
        (repeat (first | (simp only [xb_X8_finds_0, xb_X8_finds_7, xb_X8_finds_30, xb_X8_finds_72, xb_X8_finds_78, xs_nil, Nat.reduceAdd, true_implies, not_true_eq_false, not_false_eq_true, false_implies, and_true, true_and, x_10, xs_aload_n_0, xs_iconst_0, xs_istore_n_3_i, xs_istore_n_3_a, xs_istore_n_3_n, xs_istore_n_3_l, xs_iload_n_3, xs_iconst_1, xs_iload_n_1, xs_ishl, xs_icmp_ge, xs_istore_4_i, xs_istore_4_a, xs_istore_4_n, xs_istore_4_l, xs_istore_5_i, xs_istore_5_a, xs_istore_5_n, xs_istore_5_l, xs_iload_5, xs_iadd, xs_iload_4, xs_if_eq, xs_iload_n_2, xs_iinc_5_1_i, xs_iinc_5_1_a, xs_iinc_5_1_n, xs_goto, xs_iinc_3_1_i, xs_iinc_3_1_a, xs_iinc_3_1_n, xs_return]) ))
        exact ⟨fun q => out, fun q => out⟩
    have e1 : (if F = true then (1 : Int32) else 0) = (if F = true then 1 else 0) := rfl
    refine xe_X8_finds_7 ?_
    cases y4 <;> cases y5 <;> (simp only [Option.map_some, Option.map_none]; (repeat (first | (simp only [xb_X8_finds_0, xb_X8_finds_7, xb_X8_finds_30, xb_X8_finds_72, xb_X8_finds_78, xs_nil, Nat.reduceAdd, true_implies, not_true_eq_false, not_false_eq_true, false_implies, and_true, true_and, x_10, xs_aload_n_0, xs_iconst_0, xs_istore_n_3_i, xs_istore_n_3_a, xs_istore_n_3_n, xs_istore_n_3_l, xs_iload_n_3, xs_iconst_1, xs_iload_n_1, xs_ishl, xs_icmp_ge, xs_istore_4_i, xs_istore_4_a, xs_istore_4_n, xs_istore_4_l, xs_istore_5_i, xs_istore_5_a, xs_istore_5_n, xs_istore_5_l, xs_iload_5, xs_iadd, xs_iload_4, xs_if_eq, xs_iload_n_2, xs_iinc_5_1_i, xs_iinc_5_1_a, xs_iinc_5_1_n, xs_goto, xs_iinc_3_1_i, xs_iinc_3_1_a, xs_iinc_3_1_n, xs_return]) )); rw [x_shl1 n hn]; refine ⟨fun q => absurd q (nI_ge (by omega) (by omega)), fun q => ?_⟩; refine xc_v3_1 cR (Nat.le_of_ble_eq_true rfl) ?_; (repeat (first | (simp only [xb_X8_finds_0, xb_X8_finds_7, xb_X8_finds_30, xb_X8_finds_72, xb_X8_finds_78, xs_nil, Nat.reduceAdd, true_implies, not_true_eq_false, not_false_eq_true, false_implies, and_true, true_and, x_10, xs_aload_n_0, xs_iconst_0, xs_istore_n_3_i, xs_istore_n_3_a, xs_istore_n_3_n, xs_istore_n_3_l, xs_iload_n_3, xs_iconst_1, xs_iload_n_1, xs_ishl, xs_icmp_ge, xs_istore_4_i, xs_istore_4_a, xs_istore_4_n, xs_istore_4_l, xs_istore_5_i, xs_istore_5_a, xs_istore_5_n, xs_istore_5_l, xs_iload_5, xs_iadd, xs_iload_4, xs_if_eq, xs_iload_n_2, xs_iinc_5_1_i, xs_iinc_5_1_a, xs_iinc_5_1_n, xs_goto, xs_iinc_3_1_i, xs_iinc_3_1_a, xs_iinc_3_1_n, xs_return]) | (refine xr_getf (hb3 0 _ rfl) (by rfl) ?_) | (refine xr_iaload (hb3 12 _ rfl) vb ?_))); rw [elo]; exact mid)
theorem c_finds {lo hi : Nat} {cs : List Nat} (hb : x_hb h m (x_mc m nw asd pa sts rf tx byt (hs.map nI) rd so ah ar tr bg (rc.1) (rc.2.1) (rc.2.2.1) (rc.2.2.2) le fr nu od sp wr ha)) (h2 : 2 ≤ m) (hn : n < 7) (h0n : 0 < n) (i1 : xin 115 nw.length) (i2 : xin 116 nw.length) (hk : nok hs) (l1 : rd.length = 7) (l2 : so.length = 7) (l3 : ah.length = 7) (l4 : ar.length = 7) (hbg : bg.length = 8) (htr : tr.length = 911) (hhi : hi ≤ 911) (elo : xg bg (nI n) = nI lo) (ehi : xg bg (nI (n + 1)) = nI hi) (hlen : lo + cs.length = hi) (hcs : ∀ j, j < cs.length → tr.getD (lo + j) 0 = nI (cs.getD j 0) ∧ cs.getD j 0 < 2 ^ 31)
    (hr : ∀ w, w < n → xin (119 + 5 * (nI (w + 1) - 1)) nw.length ∧ ∀ z, z < 2 → xin (mentry nw (nI (w + 1)) + nI z) nw.length)
    (hv : ∀ (b : Nat) (rd so : List Int32), b < 64 → rd.length = 7 → so.length = 7 → (mread nw b n rd so n).2 = true → ∀ hs : List Nat, nok hs → (∀ w, w < n → hs.getD (w + 1) 0 ≤ n) → ∀ w, w < n → mwell nw (hs.map nI) (mread nw b n rd so n).1.1 (mread nw b n rd so n).1.2 (nI (w + 1))) :
    xK 94 [.ref m, .int (nI n), .int (if rep = true then 1 else 0)] h none (x_wr h m (x_mc m nw asd pa sts rf tx byt ((mfinds nw ah ar n rep cs hs rd so rc (2 ^ n)).2.1.map nI) ((mfinds nw ah ar n rep cs hs rd so rc (2 ^ n)).1.1) ((mfinds nw ah ar n rep cs hs rd so rc (2 ^ n)).1.2) ah ar tr bg ((mfinds nw ah ar n rep cs hs rd so rc (2 ^ n)).2.2.1) ((mfinds nw ah ar n rep cs hs rd so rc (2 ^ n)).2.2.2.1) ((mfinds nw ah ar n rep cs hs rd so rc (2 ^ n)).2.2.2.2.1) ((mfinds nw ah ar n rep cs hs rd so rc (2 ^ n)).2.2.2.2.2) le fr nu od sp wr ha)) := by
  have hl := hb.fit (Nat.zero_lt_succ _)
  have e := hb.wr hl
  refine xK_X8_finds (hb 0 _ rfl) (xe_X8_finds_0 ?_)
  (repeat (first | (simp only [xb_X8_finds_0, xb_X8_finds_7, xb_X8_finds_30, xb_X8_finds_72, xb_X8_finds_78, xs_nil, Nat.reduceAdd, true_implies, not_true_eq_false, not_false_eq_true, false_implies, and_true, true_and, x_10, xs_aload_n_0, xs_iconst_0, xs_istore_n_3_i, xs_istore_n_3_a, xs_istore_n_3_n, xs_istore_n_3_l, xs_iload_n_3, xs_iconst_1, xs_iload_n_1, xs_ishl, xs_icmp_ge, xs_istore_4_i, xs_istore_4_a, xs_istore_4_n, xs_istore_4_l, xs_istore_5_i, xs_istore_5_a, xs_istore_5_n, xs_istore_5_l, xs_iload_5, xs_iadd, xs_iload_4, xs_if_eq, xs_iload_n_2, xs_iinc_5_1_i, xs_iinc_5_1_a, xs_iinc_5_1_n, xs_goto, xs_iinc_3_1_i, xs_iinc_3_1_a, xs_iinc_3_1_n, xs_return]) | (refine xv_putf hl e hb 0 (by rfl) h2 (by exact Nat.le_of_ble_eq_true rfl) (by first | exact x_fit_int _ | exact x_fit_long _) (fun h1 hb e hl => ?_))))
  exact l_finds h2 hn h0n i1 i2 hk l1 l2 l3 l4 hbg htr hhi elo ehi hlen hcs hr hv (2 ^ n) 0 _ hb e hl none none (Nat.zero_add _)
end MO11
