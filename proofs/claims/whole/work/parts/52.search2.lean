/-! all codes, all bits -/
section SE2
variable {s : kS} {n b c wt : Nat} {nw rd so ah ar : List Int32} {rep : Bool}
/-- what repairs are held against -/
def hAh (s : kS) (nw ah ar : List Int32) (n wt : Nat) (rep : Bool) : Prop := (rep = true ∧ xg nw 116 = nI wt ∧ ∀ w, 1 ≤ w → w < n → xg ah (nI w) = khead (xg (sro s) (sct s - 1)) (nI w) ∧ xg ar (nI w) = kread (xg (sro s) (sct s - 1)) (nI w)) ∨ (rep = false ∧ wt = 0)
theorem nsum_0 {F : Nat → Nat} : ∀ n, (∀ k, k < n → F k = 0) → nsum F n = 0
  | 0, _ => rfl
  | n + 1, h => by
    show nsum F n + F n = 0
    rw [nsum_0 n (fun k hk => h k (by omega)), h n (by omega)]
theorem acc_code (hg : gr s nw) (hv : sv s) (hw9 : wt ≤ 9) (h1n : 1 ≤ n) (hn : n ≤ 6) (hct : sct s = nI n) (hA : hAh s nw ah ar n wt rep) (hb : b < 2 ^ n) (hc : c ∈ tT n)
    (H2 : ∀ w, 1 ≤ w → w ≤ n → xg rd (nI w) = nI (rho n b w))
    (H3 : ∀ w, 1 ≤ w → w ≤ n → xg so (nI w) = ksort (sS s) (sen s) (nI w) (nI (rho n b w))) (H4 : ∀ w, 1 ≤ w → w ≤ n → ¬ ksort (sS s) (sen s) (nI w) (nI (rho n b w)) = -1)
    {hs : List Nat} (hk : hs.length = 7) {K : Nat} {v : vV} {m : mR} (hK : K < 2 ^ 31) (h : accR s (nI wt) n K v m) :
    accR s (nI wt) n (K + 1) (vad v (prA s (nI wt) n b c)) (mtry nw ((nlay hs (n + 1) c n).map nI) rd so ah ar n rep m) := by
  have hne : ∀ w, 1 ≤ w → w ≤ n → ¬ hdg n c w = w := fun w a b => tree_ne h1n hn hc a b
  have hl : (nlay hs (n + 1) c n).length = 7 := by
    have key : ∀ (w c : Nat) (hs : List Nat), (nlay hs (n + 1) c w).length = hs.length := by
      intro w
      induction w with
      | zero => intro c hs; rfl
      | succ w ih =>
        intro c hs
        show (nlay (hs.set (w + 1) _) (n + 1) _ w).length = _
        rw [ih, List.length_set]
    rw [key, hk]
  have H1 : ∀ w, 1 ≤ w → w ≤ n → xg ((nlay hs (n + 1) c n).map nI) (nI w) = nI (hdg n c w) := by
    intro w a b
    rw [xg_map (by rw [hl]; omega) (by rw [hl]; decide), nlay_get n c hs w (by rw [hk]; omega), if_pos ⟨a, b⟩]
    rfl
  obtain ⟨s1, s2⟩ := an_sum hg hv hn hne H1 H2 H3 H4 n (Nat.le_refl n)
  refine acc_step hv hw9 h1n hn hb hc hK h ?_ ?_ (an_code hn H1 H2 n (Nat.le_refl n))
  · unfold mval
    rw [s1, show lok (fun k => kap s n b c (k + 1)) n = okA s n b c from rfl]
    by_cases ok : okA s n b c = true
    · rw [if_pos ok, if_pos ok]
      exact s2 ok
    · rw [if_neg ok, if_neg ok]
  · rcases hA with ⟨r1, r2, r3⟩ | ⟨r1, r2⟩
    · rw [if_pos r1, an_rep hv hw9 hn (by omega) hct r2 H1 H2 r3 (n - 1) (by omega)]
      have e : RA s (nI wt) n b c = nsum (fun k => (kqp s (nI wt) n b c (k + 1)).toNatClampNeg) (n - 1 + 1) := by
        rw [show n - 1 + 1 = n by omega]
        rfl
      have e2 : (kqp s (nI wt) n b c (n - 1 + 1)).toNatClampNeg = 0 := by
        rw [show n - 1 + 1 = n by omega, kqp_last hct hn]
        rfl
      rw [e]
      show _ = nI (nsum (fun k => (kqp s (nI wt) n b c (k + 1)).toNatClampNeg) (n - 1) + (kqp s (nI wt) n b c (n - 1 + 1)).toNatClampNeg)
      rw [e2, Nat.add_zero]
    · subst r2
      rw [r1]
      have e : RA s (nI 0) n b c = 0 := nsum_0 n (fun k _ => by
        have e0 : kqp s (nI 0) n b c (k + 1) = 0 := kqp_0
        rw [e0]
        rfl)
      rw [e]
      rfl
theorem acc_list (hg : gr s nw) (hv : sv s) (hw9 : wt ≤ 9) (h1n : 1 ≤ n) (hn : n ≤ 6) (hct : sct s = nI n) (hA : hAh s nw ah ar n wt rep) (hb : b < 2 ^ n)
    (H2 : ∀ w, 1 ≤ w → w ≤ n → xg rd (nI w) = nI (rho n b w))
    (H3 : ∀ w, 1 ≤ w → w ≤ n → xg so (nI w) = ksort (sS s) (sen s) (nI w) (nI (rho n b w))) (H4 : ∀ w, 1 ≤ w → w ≤ n → ¬ ksort (sS s) (sen s) (nI w) (nI (rho n b w)) = -1) :
    ∀ (cs : List Nat), (∀ c, c ∈ cs → c ∈ tT n) → ∀ (K : Nat) (v : vV) (hs : List Nat) (m : mR), nok hs → K + cs.length < 2 ^ 31 → accR s (nI wt) n K v m → accR s (nI wt) n (K + cs.length) (vad v (lsm vad vz (fun c => prA s (nI wt) n b c) cs)) (mcodes nw rd so ah ar n rep cs (hs, m)).2
  | [], _, K, v, hs, m, _, _, h => by
    show accR s (nI wt) n K (vad v vz) m
    rw [vsr.ad_z]
    exact h
  | c :: cs, hm, K, v, hs, m, hk, hK, h => by
    rw [List.length_cons] at hK ⊢
    have h1 := acc_code hg hv hw9 h1n hn hct hA hb (hm c List.mem_cons_self) H2 H3 H4 hk.1 (by omega) h
    have h2 := acc_list hg hv hw9 h1n hn hct hA hb H2 H3 H4 cs (fun x hx => hm x (List.mem_cons_of_mem _ hx)) (K + 1) _ (nlay hs (n + 1) c n) _ (nok_lay (by omega) (by omega) hk) (by omega) h1
    rw [vsr.aa, show K + 1 + cs.length = K + (cs.length + 1) by omega] at h2
    exact h2
theorem lsm_vz {F : Nat → vV} : ∀ (l : List Nat), (∀ x, x ∈ l → F x = vz) → lsm vad vz F l = vz
  | [], _ => rfl
  | a :: l, h => by
    show vad (F a) (lsm vad vz F l) = vz
    rw [h a List.mem_cons_self, lsm_vz l (fun x hx => h x (List.mem_cons_of_mem _ hx)), vsr.ad_z]
theorem sort_or (hv : sv s) {w r : Nat} (hw : w < 7) (hr : r < 2) : 0 ≤ ksort (sS s) (sen s) (nI w) (nI r) ↔ ¬ ksort (sS s) (sen s) (nI w) (nI r) = -1 := by
  rcases hv.sort hw hr with h | ⟨j, hj, h⟩
  · rw [h]
    decide
  · rw [h]
    exact ⟨fun _ => nI_m1 (by omega), fun _ => nI_pos' (by omega)⟩
theorem kap_no {w : Nat} (h : ksort (sS s) (sen s) (nI w) (nI (rho n b w)) = -1) : kap s n b c w = -1 := by
  unfold kap kc
  split
  · unfold kroot
    rw [if_pos (Or.inl h)]
  · unfold klink
    rw [if_pos (Or.inl h)]
theorem acc_all (hg : gr s nw) (hv : sv s) (hw9 : wt ≤ 9) (h1n : 1 ≤ n) (hn : n ≤ 6) (hct : sct s = nI n) (hA : hAh s nw ah ar n wt rep) {hs : List Nat} (hk : nok hs) (l1 : rd.length = 7) (l2 : so.length = 7) {rc : mR} {L : Nat} (hL : (tT n).length = L) (hL9 : L ≤ 911) :
    ∀ b, b ≤ 2 ^ n → accR s (nI wt) n (b * L) (bs vad vz (fun b => lsm vad vz (fun c => prA s (nI wt) n b c) (tT n)) b) (mfinds nw ah ar n rep (tT n) hs rd so rc b).2.2
  | 0, _ => ⟨rfl, Nat.zero_le _, Or.inl ⟨rfl, rfl⟩⟩
  | b + 1, hb => by
    have ih := acc_all hg hv hw9 h1n hn hct hA hk l1 l2 (rc := rc) hL hL9 b (by omega)
    obtain ⟨o1, o2, o3⟩ := mfinds_ok (nw := nw) (ah := ah) (ar := ar) (rep := rep) (cs := tT n) (rc := rc) (show n < 7 by omega) hk l1 l2 b
    have h64 : 2 ^ n ≤ 2 ^ 6 := Nat.pow_le_pow_right (by decide) hn
    have hbl : b * L ≤ 64 * 911 := Nat.mul_le_mul (by omega) hL9
    show accR s (nI wt) n ((b + 1) * L) (vad (bs vad vz (fun b => lsm vad vz (fun c => prA s (nI wt) n b c) (tT n)) b) (lsm vad vz (fun c => prA s (nI wt) n b c) (tT n))) (if (mread nw b n (mfinds nw ah ar n rep (tT n) hs rd so rc b).1.1 (mfinds nw ah ar n rep (tT n) hs rd so rc b).1.2 n).2 = true then mcodes nw (mread nw b n (mfinds nw ah ar n rep (tT n) hs rd so rc b).1.1 (mfinds nw ah ar n rep (tT n) hs rd so rc b).1.2 n).1.1 (mread nw b n (mfinds nw ah ar n rep (tT n) hs rd so rc b).1.1 (mfinds nw ah ar n rep (tT n) hs rd so rc b).1.2 n).1.2 ah ar n rep (tT n) (mfinds nw ah ar n rep (tT n) hs rd so rc b).2 else (mfinds nw ah ar n rep (tT n) hs rd so rc b).2).2
    rw [Nat.add_mul, Nat.one_mul]
    generalize (mfinds nw ah ar n rep (tT n) hs rd so rc b) = F at ih o1 o2 o3
    have are := mread_are (nw := nw) (b := b) (n := n) (rd := F.1.1) (so := F.1.2) n
    have get := mread_get (nw := nw) (b := b) (n := n) o2 o3 n (by omega)
    by_cases ha : (mread nw b n F.1.1 F.1.2 n).2 = true
    · rw [if_pos ha]
      have H4 : ∀ w, 1 ≤ w → w ≤ n → ¬ ksort (sS s) (sen s) (nI w) (nI (rho n b w)) = -1 := fun w a c => by
        have := are.mp ha w a c
        rw [hg.sort hv a (by omega) (rho_lt n b w)] at this
        exact (sort_or hv (by omega) (rho_lt n b w)).mp this
      have := acc_list hg hv hw9 h1n hn hct hA (by omega) (fun w a c => by rw [xg_n (by omega)]; exact (get w a c).1) (fun w a c => by rw [xg_n (by omega), (get w a c).2]; exact hg.sort hv a (by omega) (rho_lt n b w)) H4 (tT n) (fun _ h => h) (b * L) _ F.2.1 F.2.2 o1 (by rw [hL]; omega) ih
      rw [hL] at this
      exact this
    · rw [if_neg ha]
      have hex : ∃ w, 1 ≤ w ∧ w ≤ n ∧ ksort (sS s) (sen s) (nI w) (nI (rho n b w)) = -1 := by
        refine Classical.byContradiction fun hno => ha (are.mpr fun w a c => ?_)
        rw [hg.sort hv a (by omega) (rho_lt n b w)]
        exact (sort_or hv (by omega) (rho_lt n b w)).mpr (fun e => hno ⟨w, a, c, e⟩)
      obtain ⟨w, w1, w2, ew⟩ := hex
      have hz : lsm vad vz (fun c => prA s (nI wt) n b c) (tT n) = vz := lsm_vz _ (fun c hc => by
        refine (prA_eq hv hw9 hn (fun w a b => tree_ne h1n hn hc a b)).2 (fun hok => ?_)
        have := lok_no (f := fun k => kap s n b c (k + 1)) n (w - 1) (by omega) (by show kap s n b c (w - 1 + 1) = -1; rw [show w - 1 + 1 = w by omega]; exact kap_no ew)
        unfold okA at hok
        rw [this] at hok
        cases hok)
      rw [hz, vsr.ad_z]
      exact ⟨ih.1, by have := ih.2.1; omega, ih.2.2⟩
theorem tT_len : ∀ n, 1 ≤ n → n ≤ 6 → (tT n).length ≤ 911 := by
  intro n h1 h6
  rcases (show n = 1 ∨ n = 2 ∨ n = 3 ∨ n = 4 ∨ n = 5 ∨ n = 6 by omega) with rfl | rfl | rfl | rfl | rfl | rfl
  all_goals exact Nat.le_of_ble_eq_true (by decide +kernel)
/-- the chart and the search find the same -/
theorem finds_reck {k : kC} (hg : gr s nw) (hv : sv s) (hc : kcok k) (h0 : ch0 k.2.1) (hw9 : wt ≤ 9) (h1n : 1 ≤ sn s) (hA : hAh s nw ah ar (sn s) wt rep) {hs : List Nat} (hk : nok hs) (l1 : rd.length = 7) (l2 : so.length = 7) {rc : mR} :
    ch0 (kreck s (nI wt) k).2.1 ∧ ∃ N, N < 2 ^ 31 ∧ (kreck s (nI wt) k).2.2.2 = nI N ∧ (mfinds nw ah ar (sn s) rep (tT (sn s)) hs rd so rc (2 ^ sn s)).2.2.1 = nI N ∧ (0 < N → ∃ b c, b < 2 ^ sn s ∧ c ∈ tT (sn s) ∧ okA s (sn s) b c = true ∧ CA s (sn s) b c ≤ 6000 ∧ RA s (nI wt) (sn s) b c ≤ 600 ∧ (kreck s (nI wt) k).2.2.1 = lN (vkey (CA s (sn s) b c) (RA s (nI wt) (sn s) b c) (rowN (sn s) b c)) ∧ (mfinds nw ah ar (sn s) rep (tT (sn s)) hs rd so rc (2 ^ sn s)).2.2.2 = (nI (CA s (sn s) b c), nI (RA s (nI wt) (sn s) b c), nI (codN (sn s) b c))) := by
  have h6 := hv.n6
  obtain ⟨r1, r2⟩ := kreck_v (W := nI wt) (c := k) (ℓ := lkv s (nI wt)) hv hc h0 (fun i r d q a1 a2 a3 a4 a5 a6 a7 => lkv_link hv hw9 a1 (by omega) a3 (by omega) a5 a6) (fun w r a1 a2 a3 => lkv_root hv hw9 a1 (by omega) a3)
  refine ⟨r2, ?_⟩
  obtain ⟨p1, p2⟩ := sp_all (sn s) h1n h6
  rw [chart_sum vsr p1 p2] at r1
  have h64 : 2 ^ sn s ≤ 2 ^ 6 := Nat.pow_le_pow_right (by decide) h6
  have hbl : 2 ^ sn s * (tT (sn s)).length ≤ 64 * 911 := Nat.mul_le_mul (by omega) (tT_len _ h1n h6)
  have h := acc_all hg hv hw9 h1n h6 hv.ct hA hk l1 l2 (rc := rc) rfl (tT_len _ h1n h6) (2 ^ sn s) (Nat.le_refl _)
  have e : (bs vad vz (fun b => lsm vad vz (fun c => bs vmu vo (fun k => lkv s (nI wt) (k + 1) (rho (sn s) b (k + 1)) (hdg (sn s) c (k + 1)) (rho (sn s) b (hdg (sn s) c (k + 1)))) (sn s)) (tT (sn s))) (2 ^ sn s)) = bs vad vz (fun b => lsm vad vz (fun c => prA s (nI wt) (sn s) b c) (tT (sn s))) (2 ^ sn s) := rfl
  rw [e] at r1
  generalize bs vad vz (fun b => lsm vad vz (fun c => prA s (nI wt) (sn s) b c) (tT (sn s))) (2 ^ sn s) = v at r1 h
  obtain ⟨a1, a2, a3⟩ := h
  refine ⟨v.2, by omega, r1.2, a1, fun hp => ?_⟩
  rcases a3 with ⟨z, _⟩ | ⟨_, b, c, y1, y2, y3, y4, y5⟩
  · omega
  · refine ⟨b, c, y1, y2, y3, CA_le hv h6 (fun w a b => tree_ne h1n h6 y2 a b), RA_le hv hw9 h6, ?_, y5⟩
    rw [r1.1, y4]
end SE2
/-! the least sum taken apart -/
theorem least_row {k : kC} {C R w : Nat} (hC : C ≤ 6000) (hR : R ≤ 600) (hw : w < 16777216) (h : k.2.2.1 = lN (vkey C R w)) : kleastRow k = nI w ∧ kleastRep k = nI R ∧ kleastCost k = nI C := by
  have hlt := vkey_lt (a := C) (b := R) (c := w) (by omega) (by omega) (by omega)
  have e24 : ((24 : Int32).toInt64 &&& 63).toBitVec.smod 64 = 24#64 := by decide
  have e36 : ((36 : Int32).toInt64 &&& 63).toBitVec.smod 64 = 36#64 := by decide
  have a1 : kleastRow k = nI w := by
    unfold kleastRow
    rw [h, show Int64.ofNat 16777215 = lN (2 ^ 24 - 1) from rfl, wb_mask (by omega) (by omega)]
    have : vkey C R w % 2 ^ 24 = w := by unfold vkey; omega
    rw [this]
    exact Int64.toInt32_ofNat'
  have a2 : kleastRep k = nI R := by
    unfold kleastRep
    rw [h, pf_shr (d := 24) (by rw [e24]; rfl) (by omega)]
    have e1 : (lN (vkey C R w / 2 ^ 24)).toInt32 = nI ((C + R) * 4096 + R) := by
      have : vkey C R w / 2 ^ 24 = (C + R) * 4096 + R := by unfold vkey; omega
      rw [this]
      exact Int64.toInt32_ofNat'
    rw [e1, pk_andN (by omega) 12 (by decide)]
    congr 1
    omega
  refine ⟨a1, a2, ?_⟩
  unfold kleastCost
  rw [a2, h, pf_shr (d := 36) (by rw [e36]; rfl) (by omega)]
  have e1 : (lN (vkey C R w / 2 ^ 36)).toInt32 = nI (C + R) := by
    have : vkey C R w / 2 ^ 36 = C + R := by unfold vkey; omega
    rw [this]
    exact Int64.toInt32_ofNat'
  rw [e1, pk_sub (by omega)]
  congr 1
  omega
