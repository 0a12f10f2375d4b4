/-! which codes are trees: reckoned in the kernel (wip/whole/gen43.py) -/
/-- all rows of k digits below b -/
def catN (b : Nat) : Nat → (List Nat → List Nat) → List Nat
  | 0, F => F []
  | k + 1, F => (List.range b).flatMap (fun h => catN b k (fun t => F (h :: t)))
def vl (b : Nat) : List Nat → Nat → Nat
  | [], a => a
  | h :: t, a => vl b t (a * b + h)
theorem fm_congr {α β : Type} {f g : α → List β} : ∀ (l : List α), (∀ x, x ∈ l → f x = g x) → l.flatMap f = l.flatMap g
  | [], _ => rfl
  | a :: l, h => by
    rw [List.flatMap_cons, List.flatMap_cons, h a List.mem_cons_self, fm_congr l (fun x hx => h x (List.mem_cons_of_mem _ hx))]
theorem fm_range {G : Nat → List Nat} {m : Nat} : ∀ b, (List.range (b * m)).flatMap G = (List.range b).flatMap (fun h => (List.range m).flatMap (fun c => G (h * m + c)))
  | 0 => by rw [Nat.zero_mul]; rfl
  | b + 1 => by
    rw [Nat.succ_mul, List.range_add, List.flatMap_append, fm_range b, List.range_succ, List.flatMap_append]
    congr 1
    rw [List.flatMap_cons, List.flatMap_nil, List.append_nil, List.flatMap_map]
theorem catN_range {b : Nat} : ∀ (k a : Nat) (G : Nat → List Nat), (List.range (b ^ k)).flatMap (fun c => G (a * b ^ k + c)) = catN b k (fun t => G (vl b t a))
  | 0, a, G => by
    show (List.range 1).flatMap (fun c => G (a * 1 + c)) = G a
    rw [Nat.mul_one, show List.range 1 = [0] from rfl, List.flatMap_cons, List.flatMap_nil, List.append_nil, Nat.add_zero]
  | k + 1, a, G => by
    rw [Nat.pow_succ, Nat.mul_comm (b ^ k) b, fm_range]
    refine fm_congr _ (fun h _ => ?_)
    show _ = catN b k (fun t => G (vl b t (a * b + h)))
    rw [← catN_range k (a * b + h) G]
    refine fm_congr _ (fun c _ => ?_)
    rw [← Nat.add_assoc, Nat.add_mul, Nat.mul_assoc]
theorem catN_congr {b : Nat} : ∀ (k : Nat) (F G : List Nat → List Nat), (∀ t, t.length = k → (∀ x, x ∈ t → x < b) → F t = G t) → catN b k F = catN b k G
  | 0, F, G, h => h [] rfl (fun x hx => by cases hx)
  | k + 1, F, G, h => by
    refine fm_congr _ (fun x hx => catN_congr k _ _ (fun t ht hd => h (x :: t) (by rw [List.length_cons, ht]) (fun y hy => ?_)))
    rcases List.mem_cons.mp hy with rfl | hy
    · exact List.mem_range.mp hx
    · exact hd y hy
theorem filter_fm {p : Nat → Bool} : ∀ l : List Nat, l.filter p = l.flatMap (fun c => if p c = true then [c] else [])
  | [] => rfl
  | a :: l => by
    rw [List.flatMap_cons, ← filter_fm l]
    by_cases h : p a = true
    · rw [List.filter_cons_of_pos h, if_pos h]
      rfl
    · rw [List.filter_cons_of_neg h, if_neg h]
      rfl
def hs0 : List Nat := [0, 0, 0, 0, 0, 0, 0]
def isT (n c : Nat) : Bool := ntree (nlay hs0 (n + 1) c n) n
/-- by digits -/
def fT (n : Nat) (t : List Nat) : List Nat := if ntree (0 :: (t ++ List.replicate (6 - n) 0)) n = true then [vl (n + 1) t 0] else []
theorem filter_T {n : Nat} (h : ∀ t, t.length = n → (∀ x, x ∈ t → x < n + 1) → nlay hs0 (n + 1) (vl (n + 1) t 0) n = 0 :: (t ++ List.replicate (6 - n) 0)) : (List.range ((n + 1) ^ n)).filter (isT n) = catN (n + 1) n (fT n) := by
  rw [filter_fm]
  have e := catN_range (b := n + 1) n 0 (fun c => if isT n c = true then [c] else [])
  simp only [Nat.zero_mul, Nat.zero_add] at e
  rw [e]
  refine catN_congr _ _ _ (fun t ht hd => ?_)
  unfold isT fT
  rw [h t ht hd]
theorem lay_1 : ∀ t : List Nat, t.length = 1 → (∀ x, x ∈ t → x < 2) → nlay hs0 (1 + 1) (vl (1 + 1) t 0) 1 = 0 :: (t ++ List.replicate (6 - 1) 0) := by
  intro t ht hd
  match t, ht with
  | [a1], _ =>
    have h1 : a1 < 2 := hd a1 (by simp)
    have e : vl (1 + 1) [a1] 0 = (0 * 2 + a1) := rfl
    have ex : ∀ c : Nat, nlay hs0 (1 + 1) c 1 = [0, c % 2, 0, 0, 0, 0, 0] := fun c => rfl
    rw [ex, e]
    show _ = [0, a1, 0, 0, 0, 0, 0]
    generalize hc : (0 * 2 + a1) = c
    have q1 : c % 2 = a1 := by omega
    have d1 : c / 2 = 0 := by omega
    rw [q1]
theorem lay_2 : ∀ t : List Nat, t.length = 2 → (∀ x, x ∈ t → x < 3) → nlay hs0 (2 + 1) (vl (2 + 1) t 0) 2 = 0 :: (t ++ List.replicate (6 - 2) 0) := by
  intro t ht hd
  match t, ht with
  | [a1, a2], _ =>
    have h1 : a1 < 3 := hd a1 (by simp)
    have h2 : a2 < 3 := hd a2 (by simp)
    have e : vl (2 + 1) [a1, a2] 0 = ((0 * 3 + a1) * 3 + a2) := rfl
    have ex : ∀ c : Nat, nlay hs0 (2 + 1) c 2 = [0, (c / 3) % 3, c % 3, 0, 0, 0, 0] := fun c => rfl
    rw [ex, e]
    show _ = [0, a1, a2, 0, 0, 0, 0]
    generalize hc : ((0 * 3 + a1) * 3 + a2) = c
    have q2 : c % 3 = a2 := by omega
    have d2 : c / 3 = (0 * 3 + a1) := by omega
    rw [q2, d2]
    have q1 : (0 * 3 + a1) % 3 = a1 := by omega
    have d1 : (0 * 3 + a1) / 3 = 0 := by omega
    rw [q1]
theorem lay_3 : ∀ t : List Nat, t.length = 3 → (∀ x, x ∈ t → x < 4) → nlay hs0 (3 + 1) (vl (3 + 1) t 0) 3 = 0 :: (t ++ List.replicate (6 - 3) 0) := by
  intro t ht hd
  match t, ht with
  | [a1, a2, a3], _ =>
    have h1 : a1 < 4 := hd a1 (by simp)
    have h2 : a2 < 4 := hd a2 (by simp)
    have h3 : a3 < 4 := hd a3 (by simp)
    have e : vl (3 + 1) [a1, a2, a3] 0 = (((0 * 4 + a1) * 4 + a2) * 4 + a3) := rfl
    have ex : ∀ c : Nat, nlay hs0 (3 + 1) c 3 = [0, ((c / 4) / 4) % 4, (c / 4) % 4, c % 4, 0, 0, 0] := fun c => rfl
    rw [ex, e]
    show _ = [0, a1, a2, a3, 0, 0, 0]
    generalize hc : (((0 * 4 + a1) * 4 + a2) * 4 + a3) = c
    have q3 : c % 4 = a3 := by omega
    have d3 : c / 4 = ((0 * 4 + a1) * 4 + a2) := by omega
    rw [q3, d3]
    have q2 : ((0 * 4 + a1) * 4 + a2) % 4 = a2 := by omega
    have d2 : ((0 * 4 + a1) * 4 + a2) / 4 = (0 * 4 + a1) := by omega
    rw [q2, d2]
    have q1 : (0 * 4 + a1) % 4 = a1 := by omega
    have d1 : (0 * 4 + a1) / 4 = 0 := by omega
    rw [q1]
theorem lay_4 : ∀ t : List Nat, t.length = 4 → (∀ x, x ∈ t → x < 5) → nlay hs0 (4 + 1) (vl (4 + 1) t 0) 4 = 0 :: (t ++ List.replicate (6 - 4) 0) := by
  intro t ht hd
  match t, ht with
  | [a1, a2, a3, a4], _ =>
    have h1 : a1 < 5 := hd a1 (by simp)
    have h2 : a2 < 5 := hd a2 (by simp)
    have h3 : a3 < 5 := hd a3 (by simp)
    have h4 : a4 < 5 := hd a4 (by simp)
    have e : vl (4 + 1) [a1, a2, a3, a4] 0 = ((((0 * 5 + a1) * 5 + a2) * 5 + a3) * 5 + a4) := rfl
    have ex : ∀ c : Nat, nlay hs0 (4 + 1) c 4 = [0, (((c / 5) / 5) / 5) % 5, ((c / 5) / 5) % 5, (c / 5) % 5, c % 5, 0, 0] := fun c => rfl
    rw [ex, e]
    show _ = [0, a1, a2, a3, a4, 0, 0]
    generalize hc : ((((0 * 5 + a1) * 5 + a2) * 5 + a3) * 5 + a4) = c
    have q4 : c % 5 = a4 := by omega
    have d4 : c / 5 = (((0 * 5 + a1) * 5 + a2) * 5 + a3) := by omega
    rw [q4, d4]
    have q3 : (((0 * 5 + a1) * 5 + a2) * 5 + a3) % 5 = a3 := by omega
    have d3 : (((0 * 5 + a1) * 5 + a2) * 5 + a3) / 5 = ((0 * 5 + a1) * 5 + a2) := by omega
    rw [q3, d3]
    have q2 : ((0 * 5 + a1) * 5 + a2) % 5 = a2 := by omega
    have d2 : ((0 * 5 + a1) * 5 + a2) / 5 = (0 * 5 + a1) := by omega
    rw [q2, d2]
    have q1 : (0 * 5 + a1) % 5 = a1 := by omega
    have d1 : (0 * 5 + a1) / 5 = 0 := by omega
    rw [q1]
theorem lay_5 : ∀ t : List Nat, t.length = 5 → (∀ x, x ∈ t → x < 6) → nlay hs0 (5 + 1) (vl (5 + 1) t 0) 5 = 0 :: (t ++ List.replicate (6 - 5) 0) := by
  intro t ht hd
  match t, ht with
  | [a1, a2, a3, a4, a5], _ =>
    have h1 : a1 < 6 := hd a1 (by simp)
    have h2 : a2 < 6 := hd a2 (by simp)
    have h3 : a3 < 6 := hd a3 (by simp)
    have h4 : a4 < 6 := hd a4 (by simp)
    have h5 : a5 < 6 := hd a5 (by simp)
    have e : vl (5 + 1) [a1, a2, a3, a4, a5] 0 = (((((0 * 6 + a1) * 6 + a2) * 6 + a3) * 6 + a4) * 6 + a5) := rfl
    have ex : ∀ c : Nat, nlay hs0 (5 + 1) c 5 = [0, ((((c / 6) / 6) / 6) / 6) % 6, (((c / 6) / 6) / 6) % 6, ((c / 6) / 6) % 6, (c / 6) % 6, c % 6, 0] := fun c => rfl
    rw [ex, e]
    show _ = [0, a1, a2, a3, a4, a5, 0]
    generalize hc : (((((0 * 6 + a1) * 6 + a2) * 6 + a3) * 6 + a4) * 6 + a5) = c
    have q5 : c % 6 = a5 := by omega
    have d5 : c / 6 = ((((0 * 6 + a1) * 6 + a2) * 6 + a3) * 6 + a4) := by omega
    rw [q5, d5]
    have q4 : ((((0 * 6 + a1) * 6 + a2) * 6 + a3) * 6 + a4) % 6 = a4 := by omega
    have d4 : ((((0 * 6 + a1) * 6 + a2) * 6 + a3) * 6 + a4) / 6 = (((0 * 6 + a1) * 6 + a2) * 6 + a3) := by omega
    rw [q4, d4]
    have q3 : (((0 * 6 + a1) * 6 + a2) * 6 + a3) % 6 = a3 := by omega
    have d3 : (((0 * 6 + a1) * 6 + a2) * 6 + a3) / 6 = ((0 * 6 + a1) * 6 + a2) := by omega
    rw [q3, d3]
    have q2 : ((0 * 6 + a1) * 6 + a2) % 6 = a2 := by omega
    have d2 : ((0 * 6 + a1) * 6 + a2) / 6 = (0 * 6 + a1) := by omega
    rw [q2, d2]
    have q1 : (0 * 6 + a1) % 6 = a1 := by omega
    have d1 : (0 * 6 + a1) / 6 = 0 := by omega
    rw [q1]
theorem lay_6 : ∀ t : List Nat, t.length = 6 → (∀ x, x ∈ t → x < 7) → nlay hs0 (6 + 1) (vl (6 + 1) t 0) 6 = 0 :: (t ++ List.replicate (6 - 6) 0) := by
  intro t ht hd
  match t, ht with
  | [a1, a2, a3, a4, a5, a6], _ =>
    have h1 : a1 < 7 := hd a1 (by simp)
    have h2 : a2 < 7 := hd a2 (by simp)
    have h3 : a3 < 7 := hd a3 (by simp)
    have h4 : a4 < 7 := hd a4 (by simp)
    have h5 : a5 < 7 := hd a5 (by simp)
    have h6 : a6 < 7 := hd a6 (by simp)
    have e : vl (6 + 1) [a1, a2, a3, a4, a5, a6] 0 = ((((((0 * 7 + a1) * 7 + a2) * 7 + a3) * 7 + a4) * 7 + a5) * 7 + a6) := rfl
    have ex : ∀ c : Nat, nlay hs0 (6 + 1) c 6 = [0, (((((c / 7) / 7) / 7) / 7) / 7) % 7, ((((c / 7) / 7) / 7) / 7) % 7, (((c / 7) / 7) / 7) % 7, ((c / 7) / 7) % 7, (c / 7) % 7, c % 7] := fun c => rfl
    rw [ex, e]
    show _ = [0, a1, a2, a3, a4, a5, a6]
    generalize hc : ((((((0 * 7 + a1) * 7 + a2) * 7 + a3) * 7 + a4) * 7 + a5) * 7 + a6) = c
    have q6 : c % 7 = a6 := by omega
    have d6 : c / 7 = (((((0 * 7 + a1) * 7 + a2) * 7 + a3) * 7 + a4) * 7 + a5) := by omega
    rw [q6, d6]
    have q5 : (((((0 * 7 + a1) * 7 + a2) * 7 + a3) * 7 + a4) * 7 + a5) % 7 = a5 := by omega
    have d5 : (((((0 * 7 + a1) * 7 + a2) * 7 + a3) * 7 + a4) * 7 + a5) / 7 = ((((0 * 7 + a1) * 7 + a2) * 7 + a3) * 7 + a4) := by omega
    rw [q5, d5]
    have q4 : ((((0 * 7 + a1) * 7 + a2) * 7 + a3) * 7 + a4) % 7 = a4 := by omega
    have d4 : ((((0 * 7 + a1) * 7 + a2) * 7 + a3) * 7 + a4) / 7 = (((0 * 7 + a1) * 7 + a2) * 7 + a3) := by omega
    rw [q4, d4]
    have q3 : (((0 * 7 + a1) * 7 + a2) * 7 + a3) % 7 = a3 := by omega
    have d3 : (((0 * 7 + a1) * 7 + a2) * 7 + a3) / 7 = ((0 * 7 + a1) * 7 + a2) := by omega
    rw [q3, d3]
    have q2 : ((0 * 7 + a1) * 7 + a2) % 7 = a2 := by omega
    have d2 : ((0 * 7 + a1) * 7 + a2) / 7 = (0 * 7 + a1) := by omega
    rw [q2, d2]
    have q1 : (0 * 7 + a1) % 7 = a1 := by omega
    have d1 : (0 * 7 + a1) / 7 = 0 := by omega
    rw [q1]
def tT1 : List Nat := [0]
set_option maxRecDepth 100000 in
theorem tr1 : catN 2 1 (fT 1) = tT1 := by decide +kernel
def tT2 : List Nat := [1, 6]
set_option maxRecDepth 100000 in
theorem tr2 : catN 3 2 (fT 2) = tT2 := by decide +kernel
def tT3 : List Nat := [5, 6, 13, 34, 44, 52, 60]
set_option maxRecDepth 100000 in
theorem tr3 : catN 4 3 (fT 3) = tT3 := by decide +kernel
def tT4 : List Nat := [31, 33, 36, 37, 38, 46, 47, 81, 83, 96, 111, 121, 262, 263, 272, 328, 345, 360, 370, 403, 420, 453, 470, 530, 535, 545, 580, 595, 610, 620]
set_option maxRecDepth 100000 in
theorem tr4 : catN 5 4 (fT 4) = tT4 := by decide +kernel
def tT5 : List Nat := [259, 262, 271, 273, 274, 283, 285, 295, 298, 301, 302, 304, 307, 308, 309, 310, 319, 320, 321, 367, 370, 373, 374, 376, 391, 392, 415, 416, 427, 428, 691, 694, 703, 705, 706, 715, 717, 799, 802, 823, 847, 859, 943, 946, 967, 1015, 1018, 1039, 1165, 1171, 1183, 1237, 1255, 1279, 1291, 2678, 2680, 2684, 2685, 2686, 2696, 2697, 2750, 2752, 2768, 2792, 2804, 3261, 3262, 3273, 3388, 3414, 3438, 3450, 3532, 3558, 3604, 3630, 3756, 3762, 3774, 3828, 3846, 3870, 3882, 4125, 4126, 4137, 4252, 4278, 4302, 4314, 4557, 4558, 4569, 4684, 4710, 4734, 4746, 5440, 5466, 5476, 5502, 5548, 5574, 5872, 5898, 5980, 6006, 6124, 6150, 6196, 6222, 6738, 6750, 6762, 6774, 6780, 6786, 6798, 6846, 6852, 6870, 6894, 6906, 7170, 7182, 7194, 7278, 7302, 7326, 7338, 7422, 7446, 7494, 7518, 7644, 7650, 7662, 7716, 7734, 7758, 7770]
set_option maxRecDepth 100000 in
theorem tr5 : catN 6 5 (fT 5) = tT5 := by decide +kernel
