/-! State: a word is heard -/
theorem x_ts_len (p : Nat) (s : kS) : (x_ts p s).length = 13 := rfl
theorem x_hs_len (g : Nat) (c : kC) : (x_hs g c).length = 6 := rfl
theorem x_ts_ll (p : Nat) (s s2 : kS) : (x_ts p s).length = (x_ts p s2).length := (x_ts_len p s).trans (x_ts_len p s2).symm
theorem x_hs_ll (g : Nat) (s s2 : kC) : (x_hs g s).length = (x_hs g s2).length := (x_hs_len g s).trans (x_hs_len g s2).symm
def sput (s : kS) (en ro co re su : List Int32) (ct : Int32) : kS := (sP s, sR s, sS s, sX s, sT s, sec s, en, ro, co, re, su, ct)
/-- one word more -/
def sword (s : kS) (e : Int32) : kS := sput s (xu (sen s) (sct s + 1) e) (sro s) (sco s) (sre s) (ssu s) (sct s + 1)
/-- what is found of the last word -/
def srec (s : kS) (a b c d : Int32) : kS := sput s (sen s) (xu (sro s) (sct s) a) (xu (sco s) (sct s) b) (xu (sre s) (sct s) c) (xu (ssu s) (sct s) d) (sct s)
def kstuck (s : kS) : Bool := decide (0 < sct s ∧ xg (sro s) (sct s) = -1)
def kheard (s1 : kS) (c1 : kC) : kS := if 0 < c1.2.2.2 then srec s1 (kleastRow c1) (kleastCost c1) (kleastRep c1) (if kleastRep c1 ≤ xg (sT s1) 2 then 0 else 1) else srec s1 (-1) (-1) 0 0
def khear (s : kS) (c : kC) (e : Int32) : kS × kC := if kstuck s = true then (srec (sword s e) (-1) (-1) 0 0, c) else (kheard (sword s e) (kreck (sword s e) (xg (sT s) 1) c), kreck (sword s e) (xg (sT s) 1) c)
theorem xu_get {l : List Int32} {i v : Int32} {k : Nat} : (xu l i v).getD k 0 = (if i.toNatClampNeg = k ∧ k < l.length then v else l.getD k 0) := by
  unfold xu
  rw [List.getD_eq_getElem?_getD, List.getD_eq_getElem?_getD]
  by_cases h1 : i.toNatClampNeg = k
  · subst h1
    by_cases h2 : i.toNatClampNeg < l.length
    · rw [List.getElem?_set_self h2, if_pos ⟨rfl, h2⟩]
      rfl
    · rw [if_neg (fun z => h2 z.2), List.getElem?_eq_none (by rw [List.length_set]; omega), List.getElem?_eq_none (by omega)]
  · rw [List.getElem?_set_ne h1, if_neg (fun z => h1 z.1)]
theorem sv_put {s : kS} (h : sv s) {en ro co re su : List Int32} {ct : Int32} {n : Nat} (h1 : en.length = 7) (h2 : ro.length = 7) (h3 : co.length = 7) (h4 : re.length = 7) (h5 : su.length = 7) (h6 : ∀ k, ∃ j, j < 12 ∧ en.getD k 0 = nI j) (h7 : ct = nI n) (h8 : n ≤ 6) : sv (sput s en ro co re su ct) := by
  have e : sn (sput s en ro co re su ct) = n := by
    show ct.toNatClampNeg = n
    rw [h7, nI_clamp (by omega)]
  refine ⟨⟨h.1.1, h1, h2, h3, h4, h5⟩, h.2.1, h.2.2.1, h.2.2.2.1, h.2.2.2.2.1, h.2.2.2.2.2.1, h6, ?_, h.2.2.2.2.2.2.2.2⟩
  rw [e]
  exact ⟨h7, h8⟩
theorem sv_word {s : kS} (h : sv s) {j : Nat} (hj : j < 12) (hn : sn s < 6) : sv (sword s (nI j)) := by
  refine sv_put (n := sn s + 1) h (by rw [xu_len]; exact h.len) h.lro h.lco h.lre h.lsu (fun k => ?_) ?_ (by omega)
  · rw [xu_get]
    split
    · exact ⟨j, hj, rfl⟩
    · exact h.ven k
  · rw [h.ct, nI_1]
theorem sn_word {s : kS} (h : sv s) {e : Int32} : sn (sword s e) = sn s + 1 := by
  have := h.n6
  show (sct s + 1).toNatClampNeg = _
  rw [h.ct, nI_1, nI_clamp (by omega)]
theorem sv_rec {s : kS} (h : sv s) {a b c d : Int32} : sv (srec s a b c d) := sv_put (n := sn s) h h.len (by rw [xu_len]; exact h.lro) (by rw [xu_len]; exact h.lco) (by rw [xu_len]; exact h.lre) (by rw [xu_len]; exact h.lsu) h.ven h.ct h.n6
theorem sv_heard {s : kS} (h : sv s) {c : kC} : sv (kheard s c) := by
  unfold kheard
  split
  · exact sv_rec h
  · exact sv_rec h
theorem sv_hear {s : kS} (h : sv s) {c : kC} {j : Nat} (hj : j < 12) (hn : sn s < 6) : sv (khear s c (nI j)).1 := by
  unfold khear
  split
  · exact sv_rec (sv_word h hj hn)
  · exact sv_heard (sv_word h hj hn)
theorem khear_ok {s : kS} {c : kC} {e : Int32} (hc : kcok c) : kcok (khear s c e).2 := by
  unfold khear
  split
  · exact hc
  · exact kreck_ok hc
theorem sv.in7 {s : kS} (h : sv s) : xin (sct s) 7 := by
  rw [h.ct]
  have := h.n6
  exact x_in (by omega) (by decide)
section ST2
variable {g p : Nat} {h : xH} {s : kS} {c : kC} {j : Nat}
theorem c_srec {a b c d : Int32} (hp : x_hb h p (x_ts p s)) (h2 : 2 ≤ p) (hv : sv s) : xK 75 [.ref (p + 7), .int a, .int b, .int c, .int d] h none (x_wr h p (x_ts p (srec s a b c d))) := by
  have := c_putReckoned (x1 := a) (x2 := b) (x3 := c) (x4 := d) (x_tc_s hp) (by omega) (by rw [hv.lro]; exact hv.in7) (by rw [hv.lco]; exact hv.in7) (by rw [hv.lre]; exact hv.in7) (by rw [hv.lsu]; exact hv.in7)
  rw [x_tc_sw hp] at this
  exact this
theorem c_hear (hp : x_hb h p (x_ts p s)) (hg : x_hb h g (x_hs g c)) (hdj : p + 13 ≤ g ∨ g + 6 ≤ p) (h2 : 2 ≤ p) (h2g : 2 ≤ g) (hv : sv s) (hc : kcok c) (hj : j < 12) (hn : sn s < 6) : xK 79 [.ref p, .int (nI j), .ref g] h none (x_wr (x_wr h p (x_ts p (khear s c (nI j)).1)) g (x_hs g (khear s c (nI j)).2)) := by
  have A := xA.of hp (Nat.zero_lt_succ _)
  have hlg := hg.fit (Nat.zero_lt_succ _)
  have hv1 := sv_word hv hj hn
  have hST : kstuck s = decide (0 < sct s ∧ xg (sro s) (sct s) = -1) := rfl
  have cT := c_isStuck (x_tc_s hp) (by rw [hv.lro]; exact hv.in7)
  have i1 : xin (sct s + 1) (sen s).length := by
    rw [hv.ct, nI_1, hv.len]
    exact x_in (by omega) (by decide)
  have iW : xin 1 (sT s).length := by rw [hv.lT]; exact x_in (k := 1) (by decide) (by decide)
  have iB : xin 2 (sT s).length := by rw [hv.lT]; exact x_in (k := 2) (by decide) (by decide)
  refine xK_X6_hear (hp 0 _ rfl) (xe_X6_hear_0 ?_)
  (repeat (first | (simp only [xb_X6_hear_0, xb_X6_hear_55, xb_X6_hear_66, xb_X6_hear_78, xb_X6_hear_102, xb_X6_hear_103, xs_nil, Nat.reduceAdd, true_implies, not_true_eq_false, not_false_eq_true, false_implies, and_true, true_and, x_10, xs_aload_n_0, xs_istore_n_3_i, xs_istore_n_3_a, xs_istore_n_3_n, xs_istore_n_3_l, xs_dup_i, xs_dup_a, xs_iconst_1, xs_iadd, xs_iload_n_1, xs_iload_n_3, xs_if_ne, xs_aload_n_2, xs_iconst_m1, xs_iconst_0, xs_return, xs_istore_4_i, xs_istore_4_a, xs_istore_4_n, xs_istore_4_l, xs_iload_4, xs_iconst_2, xs_icmp_le, xs_goto, xs_istore_5_i, xs_istore_5_a, xs_istore_5_n, xs_istore_5_l, xs_iload_5]) | (refine xr_getf (hp 0 _ rfl) (by rfl) ?_) | (refine xr_getf (hp 7 _ rfl) (by rfl) ?_) | refine xc_v1_1 (cT) (Nat.le_of_ble_eq_true rfl) ?_))
  refine xa_putf A 7 (by rfl) h2 (by exact Nat.le_of_ble_eq_true rfl) (x_fit_int _) (fun h1 A1 => ?_)
  have hp1 := A1.hb
  (repeat (first | (simp only [xb_X6_hear_0, xb_X6_hear_55, xb_X6_hear_66, xb_X6_hear_78, xb_X6_hear_102, xb_X6_hear_103, xs_nil, Nat.reduceAdd, true_implies, not_true_eq_false, not_false_eq_true, false_implies, and_true, true_and, x_10, xs_aload_n_0, xs_istore_n_3_i, xs_istore_n_3_a, xs_istore_n_3_n, xs_istore_n_3_l, xs_dup_i, xs_dup_a, xs_iconst_1, xs_iadd, xs_iload_n_1, xs_iload_n_3, xs_if_ne, xs_aload_n_2, xs_iconst_m1, xs_iconst_0, xs_return, xs_istore_4_i, xs_istore_4_a, xs_istore_4_n, xs_istore_4_l, xs_iload_4, xs_iconst_2, xs_icmp_le, xs_goto, xs_istore_5_i, xs_istore_5_a, xs_istore_5_n, xs_istore_5_l, xs_iload_5]) | (refine xr_getf (hp1 0 _ rfl) (by rfl) ?_) | (refine xr_getf (hp1 7 _ rfl) (by rfl) ?_)))
  refine xa_iastore A1 8 (by rfl) h2 i1 (fun h1 A1 => ?_)
  have A1 : xA h p (x_ts p (sword s (nI j))) h1 := A1
  have hp1 := A1.hb
  have hg1 : x_hb h1 g (x_hs g c) := A1.off hg (by rcases hdj with hdj | hdj; exact Or.inr hdj; exact Or.inl hdj)
  (repeat (first | (simp only [xb_X6_hear_0, xb_X6_hear_55, xb_X6_hear_66, xb_X6_hear_78, xb_X6_hear_102, xb_X6_hear_103, xs_nil, Nat.reduceAdd, true_implies, not_true_eq_false, not_false_eq_true, false_implies, and_true, true_and, x_10, xs_aload_n_0, xs_istore_n_3_i, xs_istore_n_3_a, xs_istore_n_3_n, xs_istore_n_3_l, xs_dup_i, xs_dup_a, xs_iconst_1, xs_iadd, xs_iload_n_1, xs_iload_n_3, xs_if_ne, xs_aload_n_2, xs_iconst_m1, xs_iconst_0, xs_return, xs_istore_4_i, xs_istore_4_a, xs_istore_4_n, xs_istore_4_l, xs_iload_4, xs_iconst_2, xs_icmp_le, xs_goto, xs_istore_5_i, xs_istore_5_a, xs_istore_5_n, xs_istore_5_l, xs_iload_5]) ))
  by_cases hs : kstuck s = true
  · have hs' : 0 < sct s ∧ xg (sro s) (sct s) = -1 := of_decide_eq_true (hST ▸ hs)
    rw [if_pos hs']
    refine ⟨fun _ => ?_, fun z => absurd (by decide) z⟩
    refine xe_X6_hear_55 ?_
    (repeat (first | (simp only [xb_X6_hear_0, xb_X6_hear_55, xb_X6_hear_66, xb_X6_hear_78, xb_X6_hear_102, xb_X6_hear_103, xs_nil, Nat.reduceAdd, true_implies, not_true_eq_false, not_false_eq_true, false_implies, and_true, true_and, x_10, xs_aload_n_0, xs_istore_n_3_i, xs_istore_n_3_a, xs_istore_n_3_n, xs_istore_n_3_l, xs_dup_i, xs_dup_a, xs_iconst_1, xs_iadd, xs_iload_n_1, xs_iload_n_3, xs_if_ne, xs_aload_n_2, xs_iconst_m1, xs_iconst_0, xs_return, xs_istore_4_i, xs_istore_4_a, xs_istore_4_n, xs_istore_4_l, xs_iload_4, xs_iconst_2, xs_icmp_le, xs_goto, xs_istore_5_i, xs_istore_5_a, xs_istore_5_n, xs_istore_5_l, xs_iload_5]) ))
    refine xe_X6_hear_66 ?_
    (repeat (first | (simp only [xb_X6_hear_0, xb_X6_hear_55, xb_X6_hear_66, xb_X6_hear_78, xb_X6_hear_102, xb_X6_hear_103, xs_nil, Nat.reduceAdd, true_implies, not_true_eq_false, not_false_eq_true, false_implies, and_true, true_and, x_10, xs_aload_n_0, xs_istore_n_3_i, xs_istore_n_3_a, xs_istore_n_3_n, xs_istore_n_3_l, xs_dup_i, xs_dup_a, xs_iconst_1, xs_iadd, xs_iload_n_1, xs_iload_n_3, xs_if_ne, xs_aload_n_2, xs_iconst_m1, xs_iconst_0, xs_return, xs_istore_4_i, xs_istore_4_a, xs_istore_4_n, xs_istore_4_l, xs_iload_4, xs_iconst_2, xs_icmp_le, xs_goto, xs_istore_5_i, xs_istore_5_a, xs_istore_5_n, xs_istore_5_l, xs_iload_5]) | (refine xr_getf (hp1 0 _ rfl) (by rfl) ?_)))
    have e1 : khear s c (nI j) = (srec (sword s (nI j)) (-1) (-1) 0 0, c) := by unfold khear; rw [if_pos hs]
    have A2 := A1.on (cs2 := x_ts p (srec (sword s (nI j)) (-1) (-1) 0 0)) (x_ts_ll _ _ _)
    refine xc_v5_0 (c_srec hp1 h2 hv1) (Nat.le_of_ble_eq_true rfl) ?_
    (repeat (first | (simp only [xb_X6_hear_0, xb_X6_hear_55, xb_X6_hear_66, xb_X6_hear_78, xb_X6_hear_102, xb_X6_hear_103, xs_nil, Nat.reduceAdd, true_implies, not_true_eq_false, not_false_eq_true, false_implies, and_true, true_and, x_10, xs_aload_n_0, xs_istore_n_3_i, xs_istore_n_3_a, xs_istore_n_3_n, xs_istore_n_3_l, xs_dup_i, xs_dup_a, xs_iconst_1, xs_iadd, xs_iload_n_1, xs_iload_n_3, xs_if_ne, xs_aload_n_2, xs_iconst_m1, xs_iconst_0, xs_return, xs_istore_4_i, xs_istore_4_a, xs_istore_4_n, xs_istore_4_l, xs_iload_4, xs_iconst_2, xs_icmp_le, xs_goto, xs_istore_5_i, xs_istore_5_a, xs_istore_5_n, xs_istore_5_l, xs_iload_5]) ))
    rw [e1]
    rw [← A2.e]
    exact (A2.e ▸ A2.off hg (by rcases hdj with hdj | hdj; exact Or.inr hdj; exact Or.inl hdj) : x_hb (x_wr h p (x_ts p (srec (sword s (nI j)) (-1) (-1) 0 0))) g (x_hs g c)).wr (by rw [x_wr_len]; exact hlg)
  · have hs' : ¬ (0 < sct s ∧ xg (sro s) (sct s) = -1) := of_decide_eq_false (by rw [← hST]; exact Bool.not_eq_true _ ▸ hs)
    rw [if_neg hs']
    refine ⟨fun z => absurd rfl z, fun _ => ?_⟩
    have e1 : khear s c (nI j) = (kheard (sword s (nI j)) (kreck (sword s (nI j)) (xg (sT s) 1) c), kreck (sword s (nI j)) (xg (sT s) 1) c) := by unfold khear; rw [if_neg hs]
    rw [e1]
    (repeat (first | (simp only [xb_X6_hear_0, xb_X6_hear_55, xb_X6_hear_66, xb_X6_hear_78, xb_X6_hear_102, xb_X6_hear_103, xs_nil, Nat.reduceAdd, true_implies, not_true_eq_false, not_false_eq_true, false_implies, and_true, true_and, x_10, xs_aload_n_0, xs_istore_n_3_i, xs_istore_n_3_a, xs_istore_n_3_n, xs_istore_n_3_l, xs_dup_i, xs_dup_a, xs_iconst_1, xs_iadd, xs_iload_n_1, xs_iload_n_3, xs_if_ne, xs_aload_n_2, xs_iconst_m1, xs_iconst_0, xs_return, xs_istore_4_i, xs_istore_4_a, xs_istore_4_n, xs_istore_4_l, xs_iload_4, xs_iconst_2, xs_icmp_le, xs_goto, xs_istore_5_i, xs_istore_5_a, xs_istore_5_n, xs_istore_5_l, xs_iload_5]) | (refine xr_getf (hp1 0 _ rfl) (by rfl) ?_) | (refine xr_getf (hp1 1 _ rfl) (by rfl) ?_) | (refine xr_iaload (hp1 6 _ rfl) iW ?_)))
    refine xc_v3_0 (c_reckon (W := xg (sT s) 1) hg1 hp1 hdj hv1 hc h2g) (Nat.le_of_ble_eq_true rfl) ?_
    generalize hC : kreck (sword s (nI j)) (xg (sT s) 1) c = c1
    have G1 : xA h1 g (x_hs g c1) _ := (xA.of hg1 (Nat.zero_lt_succ _)).on (x_hs_ll _ _ _)
    have hp2 : x_hb (x_wr h1 g (x_hs g c1)) p (x_ts p (sword s (nI j))) := G1.off hp1 hdj
    have hg2 := G1.hb
    have fin : ∀ s2 : kS, x_wr (x_wr h1 g (x_hs g c1)) p (x_ts p s2) = x_wr (x_wr h p (x_ts p s2)) g (x_hs g c1) := by
      intro s2
      have q1 : g + (x_hs g c1).length ≤ h1.length := hg1.fit (Nat.zero_lt_succ _)
      have q2 : p + (x_ts p s2).length ≤ h1.length := hp1.fit (Nat.zero_lt_succ _)
      rw [x_wr_comm q1 q2 hdj, ← A1.e, x_wr_wr A1.hl (x_ts_ll _ _ _)]
    generalize x_wr h1 g (x_hs g c1) = h2' at G1 hp2 hg2 fin ⊢
    (repeat (first | (simp only [xb_X6_hear_0, xb_X6_hear_55, xb_X6_hear_66, xb_X6_hear_78, xb_X6_hear_102, xb_X6_hear_103, xs_nil, Nat.reduceAdd, true_implies, not_true_eq_false, not_false_eq_true, false_implies, and_true, true_and, x_10, xs_aload_n_0, xs_istore_n_3_i, xs_istore_n_3_a, xs_istore_n_3_n, xs_istore_n_3_l, xs_dup_i, xs_dup_a, xs_iconst_1, xs_iadd, xs_iload_n_1, xs_iload_n_3, xs_if_ne, xs_aload_n_2, xs_iconst_m1, xs_iconst_0, xs_return, xs_istore_4_i, xs_istore_4_a, xs_istore_4_n, xs_istore_4_l, xs_iload_4, xs_iconst_2, xs_icmp_le, xs_goto, xs_istore_5_i, xs_istore_5_a, xs_istore_5_n, xs_istore_5_l, xs_iload_5]) ))
    refine xe_X6_hear_55 ?_
    (repeat (first | (simp only [xb_X6_hear_0, xb_X6_hear_55, xb_X6_hear_66, xb_X6_hear_78, xb_X6_hear_102, xb_X6_hear_103, xs_nil, Nat.reduceAdd, true_implies, not_true_eq_false, not_false_eq_true, false_implies, and_true, true_and, x_10, xs_aload_n_0, xs_istore_n_3_i, xs_istore_n_3_a, xs_istore_n_3_n, xs_istore_n_3_l, xs_dup_i, xs_dup_a, xs_iconst_1, xs_iadd, xs_iload_n_1, xs_iload_n_3, xs_if_ne, xs_aload_n_2, xs_iconst_m1, xs_iconst_0, xs_return, xs_istore_4_i, xs_istore_4_a, xs_istore_4_n, xs_istore_4_l, xs_iload_4, xs_iconst_2, xs_icmp_le, xs_goto, xs_istore_5_i, xs_istore_5_a, xs_istore_5_n, xs_istore_5_l, xs_iload_5]) | refine xc_v1_1 (c_hasAnalysis hg2) (Nat.le_of_ble_eq_true rfl) ?_))
    by_cases ha : 0 < c1.2.2.2
    · rw [if_pos ha]
      refine ⟨fun _ => ?_, fun z => absurd (by decide) z⟩
      have e2 : kheard (sword s (nI j)) c1 = srec (sword s (nI j)) (kleastRow c1) (kleastCost c1) (kleastRep c1) (if kleastRep c1 ≤ xg (sT s) 2 then 0 else 1) := by unfold kheard; rw [if_pos ha]; rfl
      rw [e2]
      have go : ∀ v : Int32, v = (if kleastRep c1 ≤ xg (sT s) 2 then 0 else 1) → ∀ a : Option Value, ∀ b : Int32, x_EV 79 103 [some (.ref p), some (.int (nI j)), some (.ref g), some (.int b), some (.int (kleastRep c1)), a] [.int v] h2' none (x_wr (x_wr h p (x_ts p (srec (sword s (nI j)) (kleastRow c1) (kleastCost c1) (kleastRep c1) (if kleastRep c1 ≤ xg (sT s) 2 then 0 else 1)))) g (x_hs g c1)) := by
        intro v hvv a b
        subst hvv
        refine xe_X6_hear_103 ?_
        (repeat (first | (simp only [xb_X6_hear_0, xb_X6_hear_55, xb_X6_hear_66, xb_X6_hear_78, xb_X6_hear_102, xb_X6_hear_103, xs_nil, Nat.reduceAdd, true_implies, not_true_eq_false, not_false_eq_true, false_implies, and_true, true_and, x_10, xs_aload_n_0, xs_istore_n_3_i, xs_istore_n_3_a, xs_istore_n_3_n, xs_istore_n_3_l, xs_dup_i, xs_dup_a, xs_iconst_1, xs_iadd, xs_iload_n_1, xs_iload_n_3, xs_if_ne, xs_aload_n_2, xs_iconst_m1, xs_iconst_0, xs_return, xs_istore_4_i, xs_istore_4_a, xs_istore_4_n, xs_istore_4_l, xs_iload_4, xs_iconst_2, xs_icmp_le, xs_goto, xs_istore_5_i, xs_istore_5_a, xs_istore_5_n, xs_istore_5_l, xs_iload_5]) | (refine xr_getf (hp2 0 _ rfl) (by rfl) ?_) | refine xc_v1_1 (c_leastRow hg2) (Nat.le_of_ble_eq_true rfl) ?_ | refine xc_v1_1 (c_leastCost hg2) (Nat.le_of_ble_eq_true rfl) ?_))
        refine xc_v5_0 (c_srec hp2 h2 hv1) (Nat.le_of_ble_eq_true rfl) ?_
        (repeat (first | (simp only [xb_X6_hear_0, xb_X6_hear_55, xb_X6_hear_66, xb_X6_hear_78, xb_X6_hear_102, xb_X6_hear_103, xs_nil, Nat.reduceAdd, true_implies, not_true_eq_false, not_false_eq_true, false_implies, and_true, true_and, x_10, xs_aload_n_0, xs_istore_n_3_i, xs_istore_n_3_a, xs_istore_n_3_n, xs_istore_n_3_l, xs_dup_i, xs_dup_a, xs_iconst_1, xs_iadd, xs_iload_n_1, xs_iload_n_3, xs_if_ne, xs_aload_n_2, xs_iconst_m1, xs_iconst_0, xs_return, xs_istore_4_i, xs_istore_4_a, xs_istore_4_n, xs_istore_4_l, xs_iload_4, xs_iconst_2, xs_icmp_le, xs_goto, xs_istore_5_i, xs_istore_5_a, xs_istore_5_n, xs_istore_5_l, xs_iload_5]) ))
        exact (fin _).symm
      refine xe_X6_hear_78 ?_
      (repeat (first | (simp only [xb_X6_hear_0, xb_X6_hear_55, xb_X6_hear_66, xb_X6_hear_78, xb_X6_hear_102, xb_X6_hear_103, xs_nil, Nat.reduceAdd, true_implies, not_true_eq_false, not_false_eq_true, false_implies, and_true, true_and, x_10, xs_aload_n_0, xs_istore_n_3_i, xs_istore_n_3_a, xs_istore_n_3_n, xs_istore_n_3_l, xs_dup_i, xs_dup_a, xs_iconst_1, xs_iadd, xs_iload_n_1, xs_iload_n_3, xs_if_ne, xs_aload_n_2, xs_iconst_m1, xs_iconst_0, xs_return, xs_istore_4_i, xs_istore_4_a, xs_istore_4_n, xs_istore_4_l, xs_iload_4, xs_iconst_2, xs_icmp_le, xs_goto, xs_istore_5_i, xs_istore_5_a, xs_istore_5_n, xs_istore_5_l, xs_iload_5]) | refine xc_v1_1 (c_leastRepair hg2) (Nat.le_of_ble_eq_true rfl) ?_ | (refine xr_getf (hp2 0 _ rfl) (by rfl) ?_) | (refine xr_getf (hp2 1 _ rfl) (by rfl) ?_) | (refine xr_iaload (hp2 6 _ rfl) iB ?_)))
      refine ⟨fun z => ?_, fun z => ?_⟩
      · refine xe_X6_hear_102 ?_
        (repeat (first | (simp only [xb_X6_hear_0, xb_X6_hear_55, xb_X6_hear_66, xb_X6_hear_78, xb_X6_hear_102, xb_X6_hear_103, xs_nil, Nat.reduceAdd, true_implies, not_true_eq_false, not_false_eq_true, false_implies, and_true, true_and, x_10, xs_aload_n_0, xs_istore_n_3_i, xs_istore_n_3_a, xs_istore_n_3_n, xs_istore_n_3_l, xs_dup_i, xs_dup_a, xs_iconst_1, xs_iadd, xs_iload_n_1, xs_iload_n_3, xs_if_ne, xs_aload_n_2, xs_iconst_m1, xs_iconst_0, xs_return, xs_istore_4_i, xs_istore_4_a, xs_istore_4_n, xs_istore_4_l, xs_iload_4, xs_iconst_2, xs_icmp_le, xs_goto, xs_istore_5_i, xs_istore_5_a, xs_istore_5_n, xs_istore_5_l, xs_iload_5]) ))
        exact go 0 (if_pos z).symm _ _
      · (repeat (first | (simp only [xb_X6_hear_0, xb_X6_hear_55, xb_X6_hear_66, xb_X6_hear_78, xb_X6_hear_102, xb_X6_hear_103, xs_nil, Nat.reduceAdd, true_implies, not_true_eq_false, not_false_eq_true, false_implies, and_true, true_and, x_10, xs_aload_n_0, xs_istore_n_3_i, xs_istore_n_3_a, xs_istore_n_3_n, xs_istore_n_3_l, xs_dup_i, xs_dup_a, xs_iconst_1, xs_iadd, xs_iload_n_1, xs_iload_n_3, xs_if_ne, xs_aload_n_2, xs_iconst_m1, xs_iconst_0, xs_return, xs_istore_4_i, xs_istore_4_a, xs_istore_4_n, xs_istore_4_l, xs_iload_4, xs_iconst_2, xs_icmp_le, xs_goto, xs_istore_5_i, xs_istore_5_a, xs_istore_5_n, xs_istore_5_l, xs_iload_5]) ))
        exact go 1 (if_neg z).symm _ _
    · rw [if_neg ha]
      refine ⟨fun z => absurd rfl z, fun _ => ?_⟩
      have e2 : kheard (sword s (nI j)) c1 = srec (sword s (nI j)) (-1) (-1) 0 0 := by unfold kheard; rw [if_neg ha]
      rw [e2]
      refine xe_X6_hear_66 ?_
      (repeat (first | (simp only [xb_X6_hear_0, xb_X6_hear_55, xb_X6_hear_66, xb_X6_hear_78, xb_X6_hear_102, xb_X6_hear_103, xs_nil, Nat.reduceAdd, true_implies, not_true_eq_false, not_false_eq_true, false_implies, and_true, true_and, x_10, xs_aload_n_0, xs_istore_n_3_i, xs_istore_n_3_a, xs_istore_n_3_n, xs_istore_n_3_l, xs_dup_i, xs_dup_a, xs_iconst_1, xs_iadd, xs_iload_n_1, xs_iload_n_3, xs_if_ne, xs_aload_n_2, xs_iconst_m1, xs_iconst_0, xs_return, xs_istore_4_i, xs_istore_4_a, xs_istore_4_n, xs_istore_4_l, xs_iload_4, xs_iconst_2, xs_icmp_le, xs_goto, xs_istore_5_i, xs_istore_5_a, xs_istore_5_n, xs_istore_5_l, xs_iload_5]) | (refine xr_getf (hp2 0 _ rfl) (by rfl) ?_)))
      refine xc_v5_0 (c_srec hp2 h2 hv1) (Nat.le_of_ble_eq_true rfl) ?_
      (repeat (first | (simp only [xb_X6_hear_0, xb_X6_hear_55, xb_X6_hear_66, xb_X6_hear_78, xb_X6_hear_102, xb_X6_hear_103, xs_nil, Nat.reduceAdd, true_implies, not_true_eq_false, not_false_eq_true, false_implies, and_true, true_and, x_10, xs_aload_n_0, xs_istore_n_3_i, xs_istore_n_3_a, xs_istore_n_3_n, xs_istore_n_3_l, xs_dup_i, xs_dup_a, xs_iconst_1, xs_iadd, xs_iload_n_1, xs_iload_n_3, xs_if_ne, xs_aload_n_2, xs_iconst_m1, xs_iconst_0, xs_return, xs_istore_4_i, xs_istore_4_a, xs_istore_4_n, xs_istore_4_l, xs_iload_4, xs_iconst_2, xs_icmp_le, xs_goto, xs_istore_5_i, xs_istore_5_a, xs_istore_5_n, xs_istore_5_l, xs_iload_5]) ))
      exact (fin _).symm
end ST2
