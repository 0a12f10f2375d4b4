/-! block rules and entries of the methods: by program (wip/whole/gen15.py) -/
abbrev x_EV : xR := x_Ev x_nm x_tf x_fn x_Pg
/-- method a, called with these values on that heap, answers r and leaves h1 -/
abbrev xK (a : Nat) (vs : List Value) (h : xH) (r : Option Value) (h1 : xH) : Prop := x_calX x_Pg x_EV a vs h r h1
section XKE
variable {Pg : List xM} {X : xR} {K : xM} {a o ci : Nat} {vs fs : List Value} {h h1 : xH} {r : Option Value} {ls : xL}
theorem x_calX_v (hK : Pg[a]? = some K) (hk : xm_k K = 1) (hci : xm_ci K = ci) (hl : (x_args (.ref o :: vs)).length ≤ xm_L K) (he : x_entry (xm_L K) (.ref o :: vs) = ls) (ho : h[o]? = some (.inr (ci, fs))) (H : X a 0 ls [] h r h1) : x_calX Pg X a (.ref o :: vs) h r h1 := by
  unfold x_calX
  rw [hK]
  refine ⟨?_, hl, by rw [he]; exact H⟩
  unfold x_recv
  split
  · trivial
  · dsimp only
    rw [ho]
    exact hci.symm
  · rename_i z1 z2
    exact absurd hk z2
theorem x_calX_s (hK : Pg[a]? = some K) (hk : xm_k K = 0) (hl : (x_args vs).length ≤ xm_L K) (he : x_entry (xm_L K) vs = ls) (H : X a 0 ls [] h r h1) : x_calX Pg X a vs h r h1 := by
  unfold x_calX
  rw [hK]
  refine ⟨?_, hl, by rw [he]; exact H⟩
  unfold x_recv
  split
  · trivial
  · rename_i z
    rw [hk] at z
    cases z
  · rename_i z1 z2
    exact absurd hk z1
theorem x_calX_i (hK : Pg[a]? = some K) (hk : xm_k K = 2) (hl : (x_args (.ref o :: vs)).length ≤ xm_L K) (he : x_entry (xm_L K) (.ref o :: vs) = ls) (H : X a 0 ls [] h r h1) : x_calX Pg X a (.ref o :: vs) h r h1 := by
  unfold x_calX
  rw [hK]
  refine ⟨?_, hl, by rw [he]; exact H⟩
  unfold x_recv
  split
  · trivial
  · rename_i z
    rw [hk] at z
    cases z
  · trivial
end XKE
theorem pg_X1_init : x_Pg[0]? = some xm_X1_init := by
  unfold x_Pg
  rfl
theorem xe_X1_init_0 {ls : xL} {st : List Value} {h h' : xH} {r : Option Value} (H : x_ev x_nm x_tf x_fn x_Pg x_EV 0 none r h' xb_X1_init_0 0 ls st h) : x_EV 0 0 ls st h r h' := x_Ev_to (M := xm_X1_init) (is := xb_X1_init_0) pg_X1_init (by rfl) H
theorem xe_X1_init_63 {ls : xL} {st : List Value} {h h' : xH} {r : Option Value} (H : x_ev x_nm x_tf x_fn x_Pg x_EV 0 none r h' xb_X1_init_63 63 ls st h) : x_EV 0 63 ls st h r h' := x_Ev_to (M := xm_X1_init) (is := xb_X1_init_63) pg_X1_init (by rfl) H
theorem xe_X1_init_85 {ls : xL} {st : List Value} {h h' : xH} {r : Option Value} (H : x_ev x_nm x_tf x_fn x_Pg x_EV 0 none r h' xb_X1_init_85 85 ls st h) : x_EV 0 85 ls st h r h' := x_Ev_to (M := xm_X1_init) (is := xb_X1_init_85) pg_X1_init (by rfl) H
theorem xe_X1_init_87 {ls : xL} {st : List Value} {h h' : xH} {r : Option Value} (H : x_ev x_nm x_tf x_fn x_Pg x_EV 0 none r h' xb_X1_init_87 87 ls st h) : x_EV 0 87 ls st h r h' := x_Ev_to (M := xm_X1_init) (is := xb_X1_init_87) pg_X1_init (by rfl) H
theorem xe_X1_init_106 {ls : xL} {st : List Value} {h h' : xH} {r : Option Value} (H : x_ev x_nm x_tf x_fn x_Pg x_EV 0 none r h' xb_X1_init_106 106 ls st h) : x_EV 0 106 ls st h r h' := x_Ev_to (M := xm_X1_init) (is := xb_X1_init_106) pg_X1_init (by rfl) H
theorem xK_X1_init {o : Nat}  {h h1 : xH} {r : Option Value} (H : x_EV 0 0 [some (.ref o), none] [] h r h1) : xK 0 [.ref o] h r h1 := x_calX_i pg_X1_init rfl (Nat.le_of_ble_eq_true rfl) rfl H
theorem pg_X4_init : x_Pg[1]? = some xm_X4_init := by
  unfold x_Pg
  rfl
theorem xe_X4_init_0 {ls : xL} {st : List Value} {h h' : xH} {r : Option Value} (H : x_ev x_nm x_tf x_fn x_Pg x_EV 1 none r h' xb_X4_init_0 0 ls st h) : x_EV 1 0 ls st h r h' := x_Ev_to (M := xm_X4_init) (is := xb_X4_init_0) pg_X4_init (by rfl) H
theorem xK_X4_init {o : Nat}  {h h1 : xH} {r : Option Value} (H : x_EV 1 0 [some (.ref o)] [] h r h1) : xK 1 [.ref o] h r h1 := x_calX_i pg_X4_init rfl (Nat.le_of_ble_eq_true rfl) rfl H
theorem pg_X6_init : x_Pg[2]? = some xm_X6_init := by
  unfold x_Pg
  rfl
theorem xe_X6_init_0 {ls : xL} {st : List Value} {h h' : xH} {r : Option Value} (H : x_ev x_nm x_tf x_fn x_Pg x_EV 2 none r h' xb_X6_init_0 0 ls st h) : x_EV 2 0 ls st h r h' := x_Ev_to (M := xm_X6_init) (is := xb_X6_init_0) pg_X6_init (by rfl) H
theorem xK_X6_init {o : Nat}  {h h1 : xH} {r : Option Value} (H : x_EV 2 0 [some (.ref o)] [] h r h1) : xK 2 [.ref o] h r h1 := x_calX_i pg_X6_init rfl (Nat.le_of_ble_eq_true rfl) rfl H
theorem pg_X5_init : x_Pg[3]? = some xm_X5_init := by
  unfold x_Pg
  rfl
theorem xe_X5_init_0 {ls : xL} {st : List Value} {h h' : xH} {r : Option Value} (H : x_ev x_nm x_tf x_fn x_Pg x_EV 3 none r h' xb_X5_init_0 0 ls st h) : x_EV 3 0 ls st h r h' := x_Ev_to (M := xm_X5_init) (is := xb_X5_init_0) pg_X5_init (by rfl) H
theorem xe_X5_init_25 {ls : xL} {st : List Value} {h h' : xH} {r : Option Value} (H : x_ev x_nm x_tf x_fn x_Pg x_EV 3 none r h' xb_X5_init_25 25 ls st h) : x_EV 3 25 ls st h r h' := x_Ev_to (M := xm_X5_init) (is := xb_X5_init_25) pg_X5_init (by rfl) H
theorem xe_X5_init_50 {ls : xL} {st : List Value} {h h' : xH} {r : Option Value} (H : x_ev x_nm x_tf x_fn x_Pg x_EV 3 none r h' xb_X5_init_50 50 ls st h) : x_EV 3 50 ls st h r h' := x_Ev_to (M := xm_X5_init) (is := xb_X5_init_50) pg_X5_init (by rfl) H
theorem xK_X5_init {o : Nat}  {h h1 : xH} {r : Option Value} (H : x_EV 3 0 [some (.ref o), none] [] h r h1) : xK 3 [.ref o] h r h1 := x_calX_i pg_X5_init rfl (Nat.le_of_ble_eq_true rfl) rfl H
theorem pg_X0_spanPlace : x_Pg[4]? = some xm_X0_spanPlace := by
  unfold x_Pg
  rfl
theorem xe_X0_spanPlace_0 {ls : xL} {st : List Value} {h h' : xH} {r : Option Value} (H : x_ev x_nm x_tf x_fn x_Pg x_EV 4 (some .int) r h' xb_X0_spanPlace_0 0 ls st h) : x_EV 4 0 ls st h r h' := x_Ev_to (M := xm_X0_spanPlace) (is := xb_X0_spanPlace_0) pg_X0_spanPlace (by rfl) H
theorem xK_X0_spanPlace {x1 : Int32} {x2 : Int32} {x3 : Int32} {x4 : Int32} {h h1 : xH} {r : Option Value} (H : x_EV 4 0 [some (.int x1), some (.int x2), some (.int x3), some (.int x4)] [] h r h1) : xK 4 [.int x1, .int x2, .int x3, .int x4] h r h1 := x_calX_s pg_X0_spanPlace rfl (Nat.le_of_ble_eq_true rfl) rfl H
theorem pg_X0_init : x_Pg[5]? = some xm_X0_init := by
  unfold x_Pg
  rfl
theorem xe_X0_init_0 {ls : xL} {st : List Value} {h h' : xH} {r : Option Value} (H : x_ev x_nm x_tf x_fn x_Pg x_EV 5 none r h' xb_X0_init_0 0 ls st h) : x_EV 5 0 ls st h r h' := x_Ev_to (M := xm_X0_init) (is := xb_X0_init_0) pg_X0_init (by rfl) H
theorem xe_X0_init_63 {ls : xL} {st : List Value} {h h' : xH} {r : Option Value} (H : x_ev x_nm x_tf x_fn x_Pg x_EV 5 none r h' xb_X0_init_63 63 ls st h) : x_EV 5 63 ls st h r h' := x_Ev_to (M := xm_X0_init) (is := xb_X0_init_63) pg_X0_init (by rfl) H
theorem xe_X0_init_71 {ls : xL} {st : List Value} {h h' : xH} {r : Option Value} (H : x_ev x_nm x_tf x_fn x_Pg x_EV 5 none r h' xb_X0_init_71 71 ls st h) : x_EV 5 71 ls st h r h' := x_Ev_to (M := xm_X0_init) (is := xb_X0_init_71) pg_X0_init (by rfl) H
theorem xe_X0_init_79 {ls : xL} {st : List Value} {h h' : xH} {r : Option Value} (H : x_ev x_nm x_tf x_fn x_Pg x_EV 5 none r h' xb_X0_init_79 79 ls st h) : x_EV 5 79 ls st h r h' := x_Ev_to (M := xm_X0_init) (is := xb_X0_init_79) pg_X0_init (by rfl) H
theorem xe_X0_init_105 {ls : xL} {st : List Value} {h h' : xH} {r : Option Value} (H : x_ev x_nm x_tf x_fn x_Pg x_EV 5 none r h' xb_X0_init_105 105 ls st h) : x_EV 5 105 ls st h r h' := x_Ev_to (M := xm_X0_init) (is := xb_X0_init_105) pg_X0_init (by rfl) H
theorem xe_X0_init_111 {ls : xL} {st : List Value} {h h' : xH} {r : Option Value} (H : x_ev x_nm x_tf x_fn x_Pg x_EV 5 none r h' xb_X0_init_111 111 ls st h) : x_EV 5 111 ls st h r h' := x_Ev_to (M := xm_X0_init) (is := xb_X0_init_111) pg_X0_init (by rfl) H
theorem xe_X0_init_117 {ls : xL} {st : List Value} {h h' : xH} {r : Option Value} (H : x_ev x_nm x_tf x_fn x_Pg x_EV 5 none r h' xb_X0_init_117 117 ls st h) : x_EV 5 117 ls st h r h' := x_Ev_to (M := xm_X0_init) (is := xb_X0_init_117) pg_X0_init (by rfl) H
theorem xK_X0_init {o : Nat}  {h h1 : xH} {r : Option Value} (H : x_EV 5 0 [some (.ref o), none, none, none] [] h r h1) : xK 5 [.ref o] h r h1 := x_calX_i pg_X0_init rfl (Nat.le_of_ble_eq_true rfl) rfl H
theorem pg_X3_init : x_Pg[6]? = some xm_X3_init := by
  unfold x_Pg
  rfl
theorem xe_X3_init_0 {ls : xL} {st : List Value} {h h' : xH} {r : Option Value} (H : x_ev x_nm x_tf x_fn x_Pg x_EV 6 none r h' xb_X3_init_0 0 ls st h) : x_EV 6 0 ls st h r h' := x_Ev_to (M := xm_X3_init) (is := xb_X3_init_0) pg_X3_init (by rfl) H
theorem xK_X3_init {o : Nat}  {h h1 : xH} {r : Option Value} (H : x_EV 6 0 [some (.ref o)] [] h r h1) : xK 6 [.ref o] h r h1 := x_calX_i pg_X3_init rfl (Nat.le_of_ble_eq_true rfl) rfl H
theorem pg_X7_init : x_Pg[7]? = some xm_X7_init := by
  unfold x_Pg
  rfl
theorem xe_X7_init_0 {ls : xL} {st : List Value} {h h' : xH} {r : Option Value} (H : x_ev x_nm x_tf x_fn x_Pg x_EV 7 none r h' xb_X7_init_0 0 ls st h) : x_EV 7 0 ls st h r h' := x_Ev_to (M := xm_X7_init) (is := xb_X7_init_0) pg_X7_init (by rfl) H
theorem xK_X7_init {o : Nat}  {h h1 : xH} {r : Option Value} (H : x_EV 7 0 [some (.ref o)] [] h r h1) : xK 7 [.ref o] h r h1 := x_calX_i pg_X7_init rfl (Nat.le_of_ble_eq_true rfl) rfl H
theorem pg_X8_laysHeads : x_Pg[8]? = some xm_X8_laysHeads := by
  unfold x_Pg
  rfl
theorem xe_X8_laysHeads_0 {ls : xL} {st : List Value} {h h' : xH} {r : Option Value} (H : x_ev x_nm x_tf x_fn x_Pg x_EV 8 none r h' xb_X8_laysHeads_0 0 ls st h) : x_EV 8 0 ls st h r h' := x_Ev_to (M := xm_X8_laysHeads) (is := xb_X8_laysHeads_0) pg_X8_laysHeads (by rfl) H
theorem xe_X8_laysHeads_5 {ls : xL} {st : List Value} {h h' : xH} {r : Option Value} (H : x_ev x_nm x_tf x_fn x_Pg x_EV 8 none r h' xb_X8_laysHeads_5 5 ls st h) : x_EV 8 5 ls st h r h' := x_Ev_to (M := xm_X8_laysHeads) (is := xb_X8_laysHeads_5) pg_X8_laysHeads (by rfl) H
theorem xe_X8_laysHeads_35 {ls : xL} {st : List Value} {h h' : xH} {r : Option Value} (H : x_ev x_nm x_tf x_fn x_Pg x_EV 8 none r h' xb_X8_laysHeads_35 35 ls st h) : x_EV 8 35 ls st h r h' := x_Ev_to (M := xm_X8_laysHeads) (is := xb_X8_laysHeads_35) pg_X8_laysHeads (by rfl) H
theorem xK_X8_laysHeads {o : Nat} {x1 : Int32} {x2 : Int32} {h h1 : xH} {r : Option Value} {fs : List Value} (ho : h[o]? = some (.inr (7, fs))) (H : x_EV 8 0 [some (.ref o), some (.int x1), some (.int x2), none, none] [] h r h1) : xK 8 [.ref o, .int x1, .int x2] h r h1 := x_calX_v pg_X8_laysHeads rfl rfl (Nat.le_of_ble_eq_true rfl) rfl ho H
theorem pg_X8_comesTo : x_Pg[9]? = some xm_X8_comesTo := by
  unfold x_Pg
  rfl
theorem xe_X8_comesTo_0 {ls : xL} {st : List Value} {h h' : xH} {r : Option Value} (H : x_ev x_nm x_tf x_fn x_Pg x_EV 9 (some .boolean) r h' xb_X8_comesTo_0 0 ls st h) : x_EV 9 0 ls st h r h' := x_Ev_to (M := xm_X8_comesTo) (is := xb_X8_comesTo_0) pg_X8_comesTo (by rfl) H
theorem xe_X8_comesTo_5 {ls : xL} {st : List Value} {h h' : xH} {r : Option Value} (H : x_ev x_nm x_tf x_fn x_Pg x_EV 9 (some .boolean) r h' xb_X8_comesTo_5 5 ls st h) : x_EV 9 5 ls st h r h' := x_Ev_to (M := xm_X8_comesTo) (is := xb_X8_comesTo_5) pg_X8_comesTo (by rfl) H
theorem xe_X8_comesTo_34 {ls : xL} {st : List Value} {h h' : xH} {r : Option Value} (H : x_ev x_nm x_tf x_fn x_Pg x_EV 9 (some .boolean) r h' xb_X8_comesTo_34 34 ls st h) : x_EV 9 34 ls st h r h' := x_Ev_to (M := xm_X8_comesTo) (is := xb_X8_comesTo_34) pg_X8_comesTo (by rfl) H
theorem xe_X8_comesTo_43 {ls : xL} {st : List Value} {h h' : xH} {r : Option Value} (H : x_ev x_nm x_tf x_fn x_Pg x_EV 9 (some .boolean) r h' xb_X8_comesTo_43 43 ls st h) : x_EV 9 43 ls st h r h' := x_Ev_to (M := xm_X8_comesTo) (is := xb_X8_comesTo_43) pg_X8_comesTo (by rfl) H
theorem xe_X8_comesTo_44 {ls : xL} {st : List Value} {h h' : xH} {r : Option Value} (H : x_ev x_nm x_tf x_fn x_Pg x_EV 9 (some .boolean) r h' xb_X8_comesTo_44 44 ls st h) : x_EV 9 44 ls st h r h' := x_Ev_to (M := xm_X8_comesTo) (is := xb_X8_comesTo_44) pg_X8_comesTo (by rfl) H
theorem xK_X8_comesTo {o : Nat} {x1 : Int32} {x2 : Int32} {h h1 : xH} {r : Option Value} {fs : List Value} (ho : h[o]? = some (.inr (7, fs))) (H : x_EV 9 0 [some (.ref o), some (.int x1), some (.int x2), none, none] [] h r h1) : xK 9 [.ref o, .int x1, .int x2] h r h1 := x_calX_v pg_X8_comesTo rfl rfl (Nat.le_of_ble_eq_true rfl) rfl ho H
theorem pg_X8_isBridged : x_Pg[10]? = some xm_X8_isBridged := by
  unfold x_Pg
  rfl
theorem xe_X8_isBridged_0 {ls : xL} {st : List Value} {h h' : xH} {r : Option Value} (H : x_ev x_nm x_tf x_fn x_Pg x_EV 10 (some .boolean) r h' xb_X8_isBridged_0 0 ls st h) : x_EV 10 0 ls st h r h' := x_Ev_to (M := xm_X8_isBridged) (is := xb_X8_isBridged_0) pg_X8_isBridged (by rfl) H
theorem xe_X8_isBridged_19 {ls : xL} {st : List Value} {h h' : xH} {r : Option Value} (H : x_ev x_nm x_tf x_fn x_Pg x_EV 10 (some .boolean) r h' xb_X8_isBridged_19 19 ls st h) : x_EV 10 19 ls st h r h' := x_Ev_to (M := xm_X8_isBridged) (is := xb_X8_isBridged_19) pg_X8_isBridged (by rfl) H
theorem xe_X8_isBridged_20 {ls : xL} {st : List Value} {h h' : xH} {r : Option Value} (H : x_ev x_nm x_tf x_fn x_Pg x_EV 10 (some .boolean) r h' xb_X8_isBridged_20 20 ls st h) : x_EV 10 20 ls st h r h' := x_Ev_to (M := xm_X8_isBridged) (is := xb_X8_isBridged_20) pg_X8_isBridged (by rfl) H
theorem xe_X8_isBridged_35 {ls : xL} {st : List Value} {h h' : xH} {r : Option Value} (H : x_ev x_nm x_tf x_fn x_Pg x_EV 10 (some .boolean) r h' xb_X8_isBridged_35 35 ls st h) : x_EV 10 35 ls st h r h' := x_Ev_to (M := xm_X8_isBridged) (is := xb_X8_isBridged_35) pg_X8_isBridged (by rfl) H
theorem xe_X8_isBridged_41 {ls : xL} {st : List Value} {h h' : xH} {r : Option Value} (H : x_ev x_nm x_tf x_fn x_Pg x_EV 10 (some .boolean) r h' xb_X8_isBridged_41 41 ls st h) : x_EV 10 41 ls st h r h' := x_Ev_to (M := xm_X8_isBridged) (is := xb_X8_isBridged_41) pg_X8_isBridged (by rfl) H
theorem xe_X8_isBridged_50 {ls : xL} {st : List Value} {h h' : xH} {r : Option Value} (H : x_ev x_nm x_tf x_fn x_Pg x_EV 10 (some .boolean) r h' xb_X8_isBridged_50 50 ls st h) : x_EV 10 50 ls st h r h' := x_Ev_to (M := xm_X8_isBridged) (is := xb_X8_isBridged_50) pg_X8_isBridged (by rfl) H
theorem xe_X8_isBridged_80 {ls : xL} {st : List Value} {h h' : xH} {r : Option Value} (H : x_ev x_nm x_tf x_fn x_Pg x_EV 10 (some .boolean) r h' xb_X8_isBridged_80 80 ls st h) : x_EV 10 80 ls st h r h' := x_Ev_to (M := xm_X8_isBridged) (is := xb_X8_isBridged_80) pg_X8_isBridged (by rfl) H
theorem xe_X8_isBridged_81 {ls : xL} {st : List Value} {h h' : xH} {r : Option Value} (H : x_ev x_nm x_tf x_fn x_Pg x_EV 10 (some .boolean) r h' xb_X8_isBridged_81 81 ls st h) : x_EV 10 81 ls st h r h' := x_Ev_to (M := xm_X8_isBridged) (is := xb_X8_isBridged_81) pg_X8_isBridged (by rfl) H
theorem xe_X8_isBridged_89 {ls : xL} {st : List Value} {h h' : xH} {r : Option Value} (H : x_ev x_nm x_tf x_fn x_Pg x_EV 10 (some .boolean) r h' xb_X8_isBridged_89 89 ls st h) : x_EV 10 89 ls st h r h' := x_Ev_to (M := xm_X8_isBridged) (is := xb_X8_isBridged_89) pg_X8_isBridged (by rfl) H
theorem xK_X8_isBridged {o : Nat} {x1 : Int32} {h h1 : xH} {r : Option Value} {fs : List Value} (ho : h[o]? = some (.inr (7, fs))) (H : x_EV 10 0 [some (.ref o), some (.int x1), none, none, none, none] [] h r h1) : xK 10 [.ref o, .int x1] h r h1 := x_calX_v pg_X8_isBridged rfl rfl (Nat.le_of_ble_eq_true rfl) rfl ho H
theorem pg_X8_isTree : x_Pg[11]? = some xm_X8_isTree := by
  unfold x_Pg
  rfl
theorem xe_X8_isTree_0 {ls : xL} {st : List Value} {h h' : xH} {r : Option Value} (H : x_ev x_nm x_tf x_fn x_Pg x_EV 11 (some .boolean) r h' xb_X8_isTree_0 0 ls st h) : x_EV 11 0 ls st h r h' := x_Ev_to (M := xm_X8_isTree) (is := xb_X8_isTree_0) pg_X8_isTree (by rfl) H
theorem xe_X8_isTree_7 {ls : xL} {st : List Value} {h h' : xH} {r : Option Value} (H : x_ev x_nm x_tf x_fn x_Pg x_EV 11 (some .boolean) r h' xb_X8_isTree_7 7 ls st h) : x_EV 11 7 ls st h r h' := x_Ev_to (M := xm_X8_isTree) (is := xb_X8_isTree_7) pg_X8_isTree (by rfl) H
theorem xe_X8_isTree_28 {ls : xL} {st : List Value} {h h' : xH} {r : Option Value} (H : x_ev x_nm x_tf x_fn x_Pg x_EV 11 (some .boolean) r h' xb_X8_isTree_28 28 ls st h) : x_EV 11 28 ls st h r h' := x_Ev_to (M := xm_X8_isTree) (is := xb_X8_isTree_28) pg_X8_isTree (by rfl) H
theorem xe_X8_isTree_29 {ls : xL} {st : List Value} {h h' : xH} {r : Option Value} (H : x_ev x_nm x_tf x_fn x_Pg x_EV 11 (some .boolean) r h' xb_X8_isTree_29 29 ls st h) : x_EV 11 29 ls st h r h' := x_Ev_to (M := xm_X8_isTree) (is := xb_X8_isTree_29) pg_X8_isTree (by rfl) H
theorem xe_X8_isTree_61 {ls : xL} {st : List Value} {h h' : xH} {r : Option Value} (H : x_ev x_nm x_tf x_fn x_Pg x_EV 11 (some .boolean) r h' xb_X8_isTree_61 61 ls st h) : x_EV 11 61 ls st h r h' := x_Ev_to (M := xm_X8_isTree) (is := xb_X8_isTree_61) pg_X8_isTree (by rfl) H
theorem xe_X8_isTree_62 {ls : xL} {st : List Value} {h h' : xH} {r : Option Value} (H : x_ev x_nm x_tf x_fn x_Pg x_EV 11 (some .boolean) r h' xb_X8_isTree_62 62 ls st h) : x_EV 11 62 ls st h r h' := x_Ev_to (M := xm_X8_isTree) (is := xb_X8_isTree_62) pg_X8_isTree (by rfl) H
theorem xe_X8_isTree_69 {ls : xL} {st : List Value} {h h' : xH} {r : Option Value} (H : x_ev x_nm x_tf x_fn x_Pg x_EV 11 (some .boolean) r h' xb_X8_isTree_69 69 ls st h) : x_EV 11 69 ls st h r h' := x_Ev_to (M := xm_X8_isTree) (is := xb_X8_isTree_69) pg_X8_isTree (by rfl) H
theorem xe_X8_isTree_72 {ls : xL} {st : List Value} {h h' : xH} {r : Option Value} (H : x_ev x_nm x_tf x_fn x_Pg x_EV 11 (some .boolean) r h' xb_X8_isTree_72 72 ls st h) : x_EV 11 72 ls st h r h' := x_Ev_to (M := xm_X8_isTree) (is := xb_X8_isTree_72) pg_X8_isTree (by rfl) H
theorem xe_X8_isTree_101 {ls : xL} {st : List Value} {h h' : xH} {r : Option Value} (H : x_ev x_nm x_tf x_fn x_Pg x_EV 11 (some .boolean) r h' xb_X8_isTree_101 101 ls st h) : x_EV 11 101 ls st h r h' := x_Ev_to (M := xm_X8_isTree) (is := xb_X8_isTree_101) pg_X8_isTree (by rfl) H
theorem xe_X8_isTree_105 {ls : xL} {st : List Value} {h h' : xH} {r : Option Value} (H : x_ev x_nm x_tf x_fn x_Pg x_EV 11 (some .boolean) r h' xb_X8_isTree_105 105 ls st h) : x_EV 11 105 ls st h r h' := x_Ev_to (M := xm_X8_isTree) (is := xb_X8_isTree_105) pg_X8_isTree (by rfl) H
theorem xe_X8_isTree_106 {ls : xL} {st : List Value} {h h' : xH} {r : Option Value} (H : x_ev x_nm x_tf x_fn x_Pg x_EV 11 (some .boolean) r h' xb_X8_isTree_106 106 ls st h) : x_EV 11 106 ls st h r h' := x_Ev_to (M := xm_X8_isTree) (is := xb_X8_isTree_106) pg_X8_isTree (by rfl) H
theorem xe_X8_isTree_113 {ls : xL} {st : List Value} {h h' : xH} {r : Option Value} (H : x_ev x_nm x_tf x_fn x_Pg x_EV 11 (some .boolean) r h' xb_X8_isTree_113 113 ls st h) : x_EV 11 113 ls st h r h' := x_Ev_to (M := xm_X8_isTree) (is := xb_X8_isTree_113) pg_X8_isTree (by rfl) H
theorem xe_X8_isTree_126 {ls : xL} {st : List Value} {h h' : xH} {r : Option Value} (H : x_ev x_nm x_tf x_fn x_Pg x_EV 11 (some .boolean) r h' xb_X8_isTree_126 126 ls st h) : x_EV 11 126 ls st h r h' := x_Ev_to (M := xm_X8_isTree) (is := xb_X8_isTree_126) pg_X8_isTree (by rfl) H
theorem xe_X8_isTree_127 {ls : xL} {st : List Value} {h h' : xH} {r : Option Value} (H : x_ev x_nm x_tf x_fn x_Pg x_EV 11 (some .boolean) r h' xb_X8_isTree_127 127 ls st h) : x_EV 11 127 ls st h r h' := x_Ev_to (M := xm_X8_isTree) (is := xb_X8_isTree_127) pg_X8_isTree (by rfl) H
theorem xK_X8_isTree {o : Nat} {x1 : Int32} {h h1 : xH} {r : Option Value} {fs : List Value} (ho : h[o]? = some (.inr (7, fs))) (H : x_EV 11 0 [some (.ref o), some (.int x1), none, none, none] [] h r h1) : xK 11 [.ref o, .int x1] h r h1 := x_calX_v pg_X8_isTree rfl rfl (Nat.le_of_ble_eq_true rfl) rfl ho H
theorem pg_X8_laysTrees : x_Pg[12]? = some xm_X8_laysTrees := by
  unfold x_Pg
  rfl
theorem xe_X8_laysTrees_0 {ls : xL} {st : List Value} {h h' : xH} {r : Option Value} (H : x_ev x_nm x_tf x_fn x_Pg x_EV 12 none r h' xb_X8_laysTrees_0 0 ls st h) : x_EV 12 0 ls st h r h' := x_Ev_to (M := xm_X8_laysTrees) (is := xb_X8_laysTrees_0) pg_X8_laysTrees (by rfl) H
theorem xe_X8_laysTrees_4 {ls : xL} {st : List Value} {h h' : xH} {r : Option Value} (H : x_ev x_nm x_tf x_fn x_Pg x_EV 12 none r h' xb_X8_laysTrees_4 4 ls st h) : x_EV 12 4 ls st h r h' := x_Ev_to (M := xm_X8_laysTrees) (is := xb_X8_laysTrees_4) pg_X8_laysTrees (by rfl) H
theorem xe_X8_laysTrees_22 {ls : xL} {st : List Value} {h h' : xH} {r : Option Value} (H : x_ev x_nm x_tf x_fn x_Pg x_EV 12 none r h' xb_X8_laysTrees_22 22 ls st h) : x_EV 12 22 ls st h r h' := x_Ev_to (M := xm_X8_laysTrees) (is := xb_X8_laysTrees_22) pg_X8_laysTrees (by rfl) H
theorem xe_X8_laysTrees_40 {ls : xL} {st : List Value} {h h' : xH} {r : Option Value} (H : x_ev x_nm x_tf x_fn x_Pg x_EV 12 none r h' xb_X8_laysTrees_40 40 ls st h) : x_EV 12 40 ls st h r h' := x_Ev_to (M := xm_X8_laysTrees) (is := xb_X8_laysTrees_40) pg_X8_laysTrees (by rfl) H
theorem xe_X8_laysTrees_43 {ls : xL} {st : List Value} {h h' : xH} {r : Option Value} (H : x_ev x_nm x_tf x_fn x_Pg x_EV 12 none r h' xb_X8_laysTrees_43 43 ls st h) : x_EV 12 43 ls st h r h' := x_Ev_to (M := xm_X8_laysTrees) (is := xb_X8_laysTrees_43) pg_X8_laysTrees (by rfl) H
theorem xe_X8_laysTrees_82 {ls : xL} {st : List Value} {h h' : xH} {r : Option Value} (H : x_ev x_nm x_tf x_fn x_Pg x_EV 12 none r h' xb_X8_laysTrees_82 82 ls st h) : x_EV 12 82 ls st h r h' := x_Ev_to (M := xm_X8_laysTrees) (is := xb_X8_laysTrees_82) pg_X8_laysTrees (by rfl) H
theorem xe_X8_laysTrees_88 {ls : xL} {st : List Value} {h h' : xH} {r : Option Value} (H : x_ev x_nm x_tf x_fn x_Pg x_EV 12 none r h' xb_X8_laysTrees_88 88 ls st h) : x_EV 12 88 ls st h r h' := x_Ev_to (M := xm_X8_laysTrees) (is := xb_X8_laysTrees_88) pg_X8_laysTrees (by rfl) H
theorem xe_X8_laysTrees_94 {ls : xL} {st : List Value} {h h' : xH} {r : Option Value} (H : x_ev x_nm x_tf x_fn x_Pg x_EV 12 none r h' xb_X8_laysTrees_94 94 ls st h) : x_EV 12 94 ls st h r h' := x_Ev_to (M := xm_X8_laysTrees) (is := xb_X8_laysTrees_94) pg_X8_laysTrees (by rfl) H
theorem xK_X8_laysTrees {o : Nat}  {h h1 : xH} {r : Option Value} {fs : List Value} (ho : h[o]? = some (.inr (7, fs))) (H : x_EV 12 0 [some (.ref o), none, none, none, none] [] h r h1) : xK 12 [.ref o] h r h1 := x_calX_v pg_X8_laysTrees rfl rfl (Nat.le_of_ble_eq_true rfl) rfl ho H
theorem pg_X8_init : x_Pg[13]? = some xm_X8_init := by
  unfold x_Pg
  rfl
theorem xe_X8_init_0 {ls : xL} {st : List Value} {h h' : xH} {r : Option Value} (H : x_ev x_nm x_tf x_fn x_Pg x_EV 13 none r h' xb_X8_init_0 0 ls st h) : x_EV 13 0 ls st h r h' := x_Ev_to (M := xm_X8_init) (is := xb_X8_init_0) pg_X8_init (by rfl) H
theorem xe_X8_init_129 {ls : xL} {st : List Value} {h h' : xH} {r : Option Value} (H : x_ev x_nm x_tf x_fn x_Pg x_EV 13 none r h' xb_X8_init_129 129 ls st h) : x_EV 13 129 ls st h r h' := x_Ev_to (M := xm_X8_init) (is := xb_X8_init_129) pg_X8_init (by rfl) H
theorem xe_X8_init_148 {ls : xL} {st : List Value} {h h' : xH} {r : Option Value} (H : x_ev x_nm x_tf x_fn x_Pg x_EV 13 none r h' xb_X8_init_148 148 ls st h) : x_EV 13 148 ls st h r h' := x_Ev_to (M := xm_X8_init) (is := xb_X8_init_148) pg_X8_init (by rfl) H
theorem xK_X8_init {o : Nat}  {h h1 : xH} {r : Option Value} (H : x_EV 13 0 [some (.ref o), none] [] h r h1) : xK 13 [.ref o] h r h1 := x_calX_i pg_X8_init rfl (Nat.le_of_ble_eq_true rfl) rfl H
theorem pg_X7_isBelow : x_Pg[14]? = some xm_X7_isBelow := by
  unfold x_Pg
  rfl
theorem xe_X7_isBelow_0 {ls : xL} {st : List Value} {h h' : xH} {r : Option Value} (H : x_ev x_nm x_tf x_fn x_Pg x_EV 14 (some .boolean) r h' xb_X7_isBelow_0 0 ls st h) : x_EV 14 0 ls st h r h' := x_Ev_to (M := xm_X7_isBelow) (is := xb_X7_isBelow_0) pg_X7_isBelow (by rfl) H
theorem xe_X7_isBelow_13 {ls : xL} {st : List Value} {h h' : xH} {r : Option Value} (H : x_ev x_nm x_tf x_fn x_Pg x_EV 14 (some .boolean) r h' xb_X7_isBelow_13 13 ls st h) : x_EV 14 13 ls st h r h' := x_Ev_to (M := xm_X7_isBelow) (is := xb_X7_isBelow_13) pg_X7_isBelow (by rfl) H
theorem xe_X7_isBelow_14 {ls : xL} {st : List Value} {h h' : xH} {r : Option Value} (H : x_ev x_nm x_tf x_fn x_Pg x_EV 14 (some .boolean) r h' xb_X7_isBelow_14 14 ls st h) : x_EV 14 14 ls st h r h' := x_Ev_to (M := xm_X7_isBelow) (is := xb_X7_isBelow_14) pg_X7_isBelow (by rfl) H
theorem xK_X7_isBelow {x1 : Int32} {x2 : Int32} {h h1 : xH} {r : Option Value} (H : x_EV 14 0 [some (.int x1), some (.int x2)] [] h r h1) : xK 14 [.int x1, .int x2] h r h1 := x_calX_s pg_X7_isBelow rfl (Nat.le_of_ble_eq_true rfl) rfl H
theorem pg_X7_isRulePlace : x_Pg[15]? = some xm_X7_isRulePlace := by
  unfold x_Pg
  rfl
theorem xe_X7_isRulePlace_0 {ls : xL} {st : List Value} {h h' : xH} {r : Option Value} (H : x_ev x_nm x_tf x_fn x_Pg x_EV 15 (some .boolean) r h' xb_X7_isRulePlace_0 0 ls st h) : x_EV 15 0 ls st h r h' := x_Ev_to (M := xm_X7_isRulePlace) (is := xb_X7_isRulePlace_0) pg_X7_isRulePlace (by rfl) H
theorem xe_X7_isRulePlace_30 {ls : xL} {st : List Value} {h h' : xH} {r : Option Value} (H : x_ev x_nm x_tf x_fn x_Pg x_EV 15 (some .boolean) r h' xb_X7_isRulePlace_30 30 ls st h) : x_EV 15 30 ls st h r h' := x_Ev_to (M := xm_X7_isRulePlace) (is := xb_X7_isRulePlace_30) pg_X7_isRulePlace (by rfl) H
theorem xe_X7_isRulePlace_31 {ls : xL} {st : List Value} {h h' : xH} {r : Option Value} (H : x_ev x_nm x_tf x_fn x_Pg x_EV 15 (some .boolean) r h' xb_X7_isRulePlace_31 31 ls st h) : x_EV 15 31 ls st h r h' := x_Ev_to (M := xm_X7_isRulePlace) (is := xb_X7_isRulePlace_31) pg_X7_isRulePlace (by rfl) H
theorem xK_X7_isRulePlace {x1 : Int32} {x2 : Int32} {x3 : Int32} {h h1 : xH} {r : Option Value} (H : x_EV 15 0 [some (.int x1), some (.int x2), some (.int x3)] [] h r h1) : xK 15 [.int x1, .int x2, .int x3] h r h1 := x_calX_s pg_X7_isRulePlace rfl (Nat.le_of_ble_eq_true rfl) rfl H
theorem pg_X7_isPriceOrNone : x_Pg[16]? = some xm_X7_isPriceOrNone := by
  unfold x_Pg
  rfl
theorem xe_X7_isPriceOrNone_0 {ls : xL} {st : List Value} {h h' : xH} {r : Option Value} (H : x_ev x_nm x_tf x_fn x_Pg x_EV 16 (some .boolean) r h' xb_X7_isPriceOrNone_0 0 ls st h) : x_EV 16 0 ls st h r h' := x_Ev_to (M := xm_X7_isPriceOrNone) (is := xb_X7_isPriceOrNone_0) pg_X7_isPriceOrNone (by rfl) H
theorem xe_X7_isPriceOrNone_15 {ls : xL} {st : List Value} {h h' : xH} {r : Option Value} (H : x_ev x_nm x_tf x_fn x_Pg x_EV 16 (some .boolean) r h' xb_X7_isPriceOrNone_15 15 ls st h) : x_EV 16 15 ls st h r h' := x_Ev_to (M := xm_X7_isPriceOrNone) (is := xb_X7_isPriceOrNone_15) pg_X7_isPriceOrNone (by rfl) H
theorem xe_X7_isPriceOrNone_16 {ls : xL} {st : List Value} {h h' : xH} {r : Option Value} (H : x_ev x_nm x_tf x_fn x_Pg x_EV 16 (some .boolean) r h' xb_X7_isPriceOrNone_16 16 ls st h) : x_EV 16 16 ls st h r h' := x_Ev_to (M := xm_X7_isPriceOrNone) (is := xb_X7_isPriceOrNone_16) pg_X7_isPriceOrNone (by rfl) H
theorem xK_X7_isPriceOrNone {x1 : Int32} {h h1 : xH} {r : Option Value} (H : x_EV 16 0 [some (.int x1)] [] h r h1) : xK 16 [.int x1] h r h1 := x_calX_s pg_X7_isPriceOrNone rfl (Nat.le_of_ble_eq_true rfl) rfl H
theorem pg_X1_whyNoPrice : x_Pg[17]? = some xm_X1_whyNoPrice := by
  unfold x_Pg
  rfl
theorem xe_X1_whyNoPrice_0 {ls : xL} {st : List Value} {h h' : xH} {r : Option Value} (H : x_ev x_nm x_tf x_fn x_Pg x_EV 17 (some .int) r h' xb_X1_whyNoPrice_0 0 ls st h) : x_EV 17 0 ls st h r h' := x_Ev_to (M := xm_X1_whyNoPrice) (is := xb_X1_whyNoPrice_0) pg_X1_whyNoPrice (by rfl) H
theorem xe_X1_whyNoPrice_21 {ls : xL} {st : List Value} {h h' : xH} {r : Option Value} (H : x_ev x_nm x_tf x_fn x_Pg x_EV 17 (some .int) r h' xb_X1_whyNoPrice_21 21 ls st h) : x_EV 17 21 ls st h r h' := x_Ev_to (M := xm_X1_whyNoPrice) (is := xb_X1_whyNoPrice_21) pg_X1_whyNoPrice (by rfl) H
theorem xe_X1_whyNoPrice_23 {ls : xL} {st : List Value} {h h' : xH} {r : Option Value} (H : x_ev x_nm x_tf x_fn x_Pg x_EV 17 (some .int) r h' xb_X1_whyNoPrice_23 23 ls st h) : x_EV 17 23 ls st h r h' := x_Ev_to (M := xm_X1_whyNoPrice) (is := xb_X1_whyNoPrice_23) pg_X1_whyNoPrice (by rfl) H
theorem xK_X1_whyNoPrice {o : Nat} {x1 : Int32} {x2 : Int32} {x3 : Int32} {x4 : Int32} {h h1 : xH} {r : Option Value} {fs : List Value} (ho : h[o]? = some (.inr (1, fs))) (H : x_EV 17 0 [some (.ref o), some (.int x1), some (.int x2), some (.int x3), some (.int x4)] [] h r h1) : xK 17 [.ref o, .int x1, .int x2, .int x3, .int x4] h r h1 := x_calX_v pg_X1_whyNoPrice rfl rfl (Nat.le_of_ble_eq_true rfl) rfl ho H
theorem pg_X7_refuse : x_Pg[18]? = some xm_X7_refuse := by
  unfold x_Pg
  rfl
theorem xe_X7_refuse_0 {ls : xL} {st : List Value} {h h' : xH} {r : Option Value} (H : x_ev x_nm x_tf x_fn x_Pg x_EV 18 (some .int) r h' xb_X7_refuse_0 0 ls st h) : x_EV 18 0 ls st h r h' := x_Ev_to (M := xm_X7_refuse) (is := xb_X7_refuse_0) pg_X7_refuse (by rfl) H
theorem xe_X7_refuse_19 {ls : xL} {st : List Value} {h h' : xH} {r : Option Value} (H : x_ev x_nm x_tf x_fn x_Pg x_EV 18 (some .int) r h' xb_X7_refuse_19 19 ls st h) : x_EV 18 19 ls st h r h' := x_Ev_to (M := xm_X7_refuse) (is := xb_X7_refuse_19) pg_X7_refuse (by rfl) H
theorem xe_X7_refuse_38 {ls : xL} {st : List Value} {h h' : xH} {r : Option Value} (H : x_ev x_nm x_tf x_fn x_Pg x_EV 18 (some .int) r h' xb_X7_refuse_38 38 ls st h) : x_EV 18 38 ls st h r h' := x_Ev_to (M := xm_X7_refuse) (is := xb_X7_refuse_38) pg_X7_refuse (by rfl) H
theorem xe_X7_refuse_48 {ls : xL} {st : List Value} {h h' : xH} {r : Option Value} (H : x_ev x_nm x_tf x_fn x_Pg x_EV 18 (some .int) r h' xb_X7_refuse_48 48 ls st h) : x_EV 18 48 ls st h r h' := x_Ev_to (M := xm_X7_refuse) (is := xb_X7_refuse_48) pg_X7_refuse (by rfl) H
theorem xK_X7_refuse {o : Nat} {x1 : Int32} {h h1 : xH} {r : Option Value} {fs : List Value} (ho : h[o]? = some (.inr (6, fs))) (H : x_EV 18 0 [some (.ref o), some (.int x1)] [] h r h1) : xK 18 [.ref o, .int x1] h r h1 := x_calX_v pg_X7_refuse rfl rfl (Nat.le_of_ble_eq_true rfl) rfl ho H
theorem pg_X1_copyFrom : x_Pg[19]? = some xm_X1_copyFrom := by
  unfold x_Pg
  rfl
theorem xe_X1_copyFrom_0 {ls : xL} {st : List Value} {h h' : xH} {r : Option Value} (H : x_ev x_nm x_tf x_fn x_Pg x_EV 19 none r h' xb_X1_copyFrom_0 0 ls st h) : x_EV 19 0 ls st h r h' := x_Ev_to (M := xm_X1_copyFrom) (is := xb_X1_copyFrom_0) pg_X1_copyFrom (by rfl) H
theorem xK_X1_copyFrom {o : Nat} {x1 : Nat} {h h1 : xH} {r : Option Value} {fs : List Value} (ho : h[o]? = some (.inr (1, fs))) (H : x_EV 19 0 [some (.ref o), some (.ref x1)] [] h r h1) : xK 19 [.ref o, .ref x1] h r h1 := x_calX_v pg_X1_copyFrom rfl rfl (Nat.le_of_ble_eq_true rfl) rfl ho H
theorem pg_X4_copyFrom : x_Pg[20]? = some xm_X4_copyFrom := by
  unfold x_Pg
  rfl
theorem xe_X4_copyFrom_0 {ls : xL} {st : List Value} {h h' : xH} {r : Option Value} (H : x_ev x_nm x_tf x_fn x_Pg x_EV 20 none r h' xb_X4_copyFrom_0 0 ls st h) : x_EV 20 0 ls st h r h' := x_Ev_to (M := xm_X4_copyFrom) (is := xb_X4_copyFrom_0) pg_X4_copyFrom (by rfl) H
theorem xK_X4_copyFrom {o : Nat} {x1 : Nat} {h h1 : xH} {r : Option Value} {fs : List Value} (ho : h[o]? = some (.inr (3, fs))) (H : x_EV 20 0 [some (.ref o), some (.ref x1)] [] h r h1) : xK 20 [.ref o, .ref x1] h r h1 := x_calX_v pg_X4_copyFrom rfl rfl (Nat.le_of_ble_eq_true rfl) rfl ho H
theorem pg_X6_copyFrom : x_Pg[21]? = some xm_X6_copyFrom := by
  unfold x_Pg
  rfl
theorem xe_X6_copyFrom_0 {ls : xL} {st : List Value} {h h' : xH} {r : Option Value} (H : x_ev x_nm x_tf x_fn x_Pg x_EV 21 none r h' xb_X6_copyFrom_0 0 ls st h) : x_EV 21 0 ls st h r h' := x_Ev_to (M := xm_X6_copyFrom) (is := xb_X6_copyFrom_0) pg_X6_copyFrom (by rfl) H
theorem xK_X6_copyFrom {o : Nat} {x1 : Nat} {h h1 : xH} {r : Option Value} {fs : List Value} (ho : h[o]? = some (.inr (5, fs))) (H : x_EV 21 0 [some (.ref o), some (.ref x1)] [] h r h1) : xK 21 [.ref o, .ref x1] h r h1 := x_calX_v pg_X6_copyFrom rfl rfl (Nat.le_of_ble_eq_true rfl) rfl ho H
theorem pg_X5_push : x_Pg[22]? = some xm_X5_push := by
  unfold x_Pg
  rfl
theorem xe_X5_push_0 {ls : xL} {st : List Value} {h h' : xH} {r : Option Value} (H : x_ev x_nm x_tf x_fn x_Pg x_EV 22 none r h' xb_X5_push_0 0 ls st h) : x_EV 22 0 ls st h r h' := x_Ev_to (M := xm_X5_push) (is := xb_X5_push_0) pg_X5_push (by rfl) H
theorem xK_X5_push {o : Nat} {x1 : Nat} {h h1 : xH} {r : Option Value} {fs : List Value} (ho : h[o]? = some (.inr (4, fs))) (H : x_EV 22 0 [some (.ref o), some (.ref x1)] [] h r h1) : xK 22 [.ref o, .ref x1] h r h1 := x_calX_v pg_X5_push rfl rfl (Nat.le_of_ble_eq_true rfl) rfl ho H
theorem pg_X1_putPrice : x_Pg[23]? = some xm_X1_putPrice := by
  unfold x_Pg
  rfl
theorem xe_X1_putPrice_0 {ls : xL} {st : List Value} {h h' : xH} {r : Option Value} (H : x_ev x_nm x_tf x_fn x_Pg x_EV 23 (some .int) r h' xb_X1_putPrice_0 0 ls st h) : x_EV 23 0 ls st h r h' := x_Ev_to (M := xm_X1_putPrice) (is := xb_X1_putPrice_0) pg_X1_putPrice (by rfl) H
theorem xK_X1_putPrice {o : Nat} {x1 : Int32} {x2 : Int32} {x3 : Int32} {x4 : Int32} {h h1 : xH} {r : Option Value} {fs : List Value} (ho : h[o]? = some (.inr (1, fs))) (H : x_EV 23 0 [some (.ref o), some (.int x1), some (.int x2), some (.int x3), some (.int x4), none, none] [] h r h1) : xK 23 [.ref o, .int x1, .int x2, .int x3, .int x4] h r h1 := x_calX_v pg_X1_putPrice rfl rfl (Nat.le_of_ble_eq_true rfl) rfl ho H
theorem pg_X7_rules : x_Pg[24]? = some xm_X7_rules := by
  unfold x_Pg
  rfl
theorem xe_X7_rules_0 {ls : xL} {st : List Value} {h h' : xH} {r : Option Value} (H : x_ev x_nm x_tf x_fn x_Pg x_EV 24 (some .int) r h' xb_X7_rules_0 0 ls st h) : x_EV 24 0 ls st h r h' := x_Ev_to (M := xm_X7_rules) (is := xb_X7_rules_0) pg_X7_rules (by rfl) H
theorem xe_X7_rules_29 {ls : xL} {st : List Value} {h h' : xH} {r : Option Value} (H : x_ev x_nm x_tf x_fn x_Pg x_EV 24 (some .int) r h' xb_X7_rules_29 29 ls st h) : x_EV 24 29 ls st h r h' := x_Ev_to (M := xm_X7_rules) (is := xb_X7_rules_29) pg_X7_rules (by rfl) H
theorem xK_X7_rules {o : Nat} {x1 : Int32} {x2 : Int32} {x3 : Int32} {x4 : Int32} {h h1 : xH} {r : Option Value} {fs : List Value} (ho : h[o]? = some (.inr (6, fs))) (H : x_EV 24 0 [some (.ref o), some (.int x1), some (.int x2), some (.int x3), some (.int x4), none] [] h r h1) : xK 24 [.ref o, .int x1, .int x2, .int x3, .int x4] h r h1 := x_calX_v pg_X7_rules rfl rfl (Nat.le_of_ble_eq_true rfl) rfl ho H
theorem pg_X8_in : x_Pg[25]? = some xm_X8_in := by
  unfold x_Pg
  rfl
theorem xe_X8_in_0 {ls : xL} {st : List Value} {h h' : xH} {r : Option Value} (H : x_ev x_nm x_tf x_fn x_Pg x_EV 25 (some .boolean) r h' xb_X8_in_0 0 ls st h) : x_EV 25 0 ls st h r h' := x_Ev_to (M := xm_X8_in) (is := xb_X8_in_0) pg_X8_in (by rfl) H
theorem xe_X8_in_14 {ls : xL} {st : List Value} {h h' : xH} {r : Option Value} (H : x_ev x_nm x_tf x_fn x_Pg x_EV 25 (some .boolean) r h' xb_X8_in_14 14 ls st h) : x_EV 25 14 ls st h r h' := x_Ev_to (M := xm_X8_in) (is := xb_X8_in_14) pg_X8_in (by rfl) H
theorem xe_X8_in_15 {ls : xL} {st : List Value} {h h' : xH} {r : Option Value} (H : x_ev x_nm x_tf x_fn x_Pg x_EV 25 (some .boolean) r h' xb_X8_in_15 15 ls st h) : x_EV 25 15 ls st h r h' := x_Ev_to (M := xm_X8_in) (is := xb_X8_in_15) pg_X8_in (by rfl) H
theorem xK_X8_in {x1 : Int32} {x2 : Int32} {x3 : Int32} {h h1 : xH} {r : Option Value} (H : x_EV 25 0 [some (.int x1), some (.int x2), some (.int x3)] [] h r h1) : xK 25 [.int x1, .int x2, .int x3] h r h1 := x_calX_s pg_X8_in rfl (Nat.le_of_ble_eq_true rfl) rfl H
theorem pg_X8_isSort : x_Pg[26]? = some xm_X8_isSort := by
  unfold x_Pg
  rfl
theorem xe_X8_isSort_0 {ls : xL} {st : List Value} {h h' : xH} {r : Option Value} (H : x_ev x_nm x_tf x_fn x_Pg x_EV 26 (some .boolean) r h' xb_X8_isSort_0 0 ls st h) : x_EV 26 0 ls st h r h' := x_Ev_to (M := xm_X8_isSort) (is := xb_X8_isSort_0) pg_X8_isSort (by rfl) H
theorem xK_X8_isSort {x1 : Int32} {h h1 : xH} {r : Option Value} (H : x_EV 26 0 [some (.int x1)] [] h r h1) : xK 26 [.int x1] h r h1 := x_calX_s pg_X8_isSort rfl (Nat.le_of_ble_eq_true rfl) rfl H
theorem pg_X8_isRule : x_Pg[27]? = some xm_X8_isRule := by
  unfold x_Pg
  rfl
theorem xe_X8_isRule_0 {ls : xL} {st : List Value} {h h' : xH} {r : Option Value} (H : x_ev x_nm x_tf x_fn x_Pg x_EV 27 (some .boolean) r h' xb_X8_isRule_0 0 ls st h) : x_EV 27 0 ls st h r h' := x_Ev_to (M := xm_X8_isRule) (is := xb_X8_isRule_0) pg_X8_isRule (by rfl) H
theorem xe_X8_isRule_27 {ls : xL} {st : List Value} {h h' : xH} {r : Option Value} (H : x_ev x_nm x_tf x_fn x_Pg x_EV 27 (some .boolean) r h' xb_X8_isRule_27 27 ls st h) : x_EV 27 27 ls st h r h' := x_Ev_to (M := xm_X8_isRule) (is := xb_X8_isRule_27) pg_X8_isRule (by rfl) H
theorem xe_X8_isRule_28 {ls : xL} {st : List Value} {h h' : xH} {r : Option Value} (H : x_ev x_nm x_tf x_fn x_Pg x_EV 27 (some .boolean) r h' xb_X8_isRule_28 28 ls st h) : x_EV 27 28 ls st h r h' := x_Ev_to (M := xm_X8_isRule) (is := xb_X8_isRule_28) pg_X8_isRule (by rfl) H
theorem xK_X8_isRule {x1 : Int32} {x2 : Int32} {x3 : Int32} {h h1 : xH} {r : Option Value} (H : x_EV 27 0 [some (.int x1), some (.int x2), some (.int x3)] [] h r h1) : xK 27 [.int x1, .int x2, .int x3] h r h1 := x_calX_s pg_X8_isRule rfl (Nat.le_of_ble_eq_true rfl) rfl H
theorem pg_X8_isPrice : x_Pg[28]? = some xm_X8_isPrice := by
  unfold x_Pg
  rfl
theorem xe_X8_isPrice_0 {ls : xL} {st : List Value} {h h' : xH} {r : Option Value} (H : x_ev x_nm x_tf x_fn x_Pg x_EV 28 (some .boolean) r h' xb_X8_isPrice_0 0 ls st h) : x_EV 28 0 ls st h r h' := x_Ev_to (M := xm_X8_isPrice) (is := xb_X8_isPrice_0) pg_X8_isPrice (by rfl) H
theorem xK_X8_isPrice {x1 : Int32} {h h1 : xH} {r : Option Value} (H : x_EV 28 0 [some (.int x1)] [] h r h1) : xK 28 [.int x1] h r h1 := x_calX_s pg_X8_isPrice rfl (Nat.le_of_ble_eq_true rfl) rfl H
theorem pg_X8_bad : x_Pg[29]? = some xm_X8_bad := by
  unfold x_Pg
  rfl
theorem xe_X8_bad_0 {ls : xL} {st : List Value} {h h' : xH} {r : Option Value} (H : x_ev x_nm x_tf x_fn x_Pg x_EV 29 (some .int) r h' xb_X8_bad_0 0 ls st h) : x_EV 29 0 ls st h r h' := x_Ev_to (M := xm_X8_bad) (is := xb_X8_bad_0) pg_X8_bad (by rfl) H
theorem xK_X8_bad {o : Nat}  {h h1 : xH} {r : Option Value} {fs : List Value} (ho : h[o]? = some (.inr (7, fs))) (H : x_EV 29 0 [some (.ref o)] [] h r h1) : xK 29 [.ref o] h r h1 := x_calX_v pg_X8_bad rfl rfl (Nat.le_of_ble_eq_true rfl) rfl ho H
theorem pg_X8_remembers : x_Pg[30]? = some xm_X8_remembers := by
  unfold x_Pg
  rfl
theorem xe_X8_remembers_0 {ls : xL} {st : List Value} {h h' : xH} {r : Option Value} (H : x_ev x_nm x_tf x_fn x_Pg x_EV 30 none r h' xb_X8_remembers_0 0 ls st h) : x_EV 30 0 ls st h r h' := x_Ev_to (M := xm_X8_remembers) (is := xb_X8_remembers_0) pg_X8_remembers (by rfl) H
theorem xe_X8_remembers_11 {ls : xL} {st : List Value} {h h' : xH} {r : Option Value} (H : x_ev x_nm x_tf x_fn x_Pg x_EV 30 none r h' xb_X8_remembers_11 11 ls st h) : x_EV 30 11 ls st h r h' := x_Ev_to (M := xm_X8_remembers) (is := xb_X8_remembers_11) pg_X8_remembers (by rfl) H
theorem xe_X8_remembers_40 {ls : xL} {st : List Value} {h h' : xH} {r : Option Value} (H : x_ev x_nm x_tf x_fn x_Pg x_EV 30 none r h' xb_X8_remembers_40 40 ls st h) : x_EV 30 40 ls st h r h' := x_Ev_to (M := xm_X8_remembers) (is := xb_X8_remembers_40) pg_X8_remembers (by rfl) H
theorem xe_X8_remembers_50 {ls : xL} {st : List Value} {h h' : xH} {r : Option Value} (H : x_ev x_nm x_tf x_fn x_Pg x_EV 30 none r h' xb_X8_remembers_50 50 ls st h) : x_EV 30 50 ls st h r h' := x_Ev_to (M := xm_X8_remembers) (is := xb_X8_remembers_50) pg_X8_remembers (by rfl) H
theorem xe_X8_remembers_52 {ls : xL} {st : List Value} {h h' : xH} {r : Option Value} (H : x_ev x_nm x_tf x_fn x_Pg x_EV 30 none r h' xb_X8_remembers_52 52 ls st h) : x_EV 30 52 ls st h r h' := x_Ev_to (M := xm_X8_remembers) (is := xb_X8_remembers_52) pg_X8_remembers (by rfl) H
theorem xe_X8_remembers_86 {ls : xL} {st : List Value} {h h' : xH} {r : Option Value} (H : x_ev x_nm x_tf x_fn x_Pg x_EV 30 none r h' xb_X8_remembers_86 86 ls st h) : x_EV 30 86 ls st h r h' := x_Ev_to (M := xm_X8_remembers) (is := xb_X8_remembers_86) pg_X8_remembers (by rfl) H
theorem xK_X8_remembers {o : Nat}  {h h1 : xH} {r : Option Value} {fs : List Value} (ho : h[o]? = some (.inr (7, fs))) (H : x_EV 30 0 [some (.ref o), none] [] h r h1) : xK 30 [.ref o] h r h1 := x_calX_v pg_X8_remembers rfl rfl (Nat.le_of_ble_eq_true rfl) rfl ho H
theorem pg_X8_ruleAt : x_Pg[31]? = some xm_X8_ruleAt := by
  unfold x_Pg
  rfl
theorem xe_X8_ruleAt_0 {ls : xL} {st : List Value} {h h' : xH} {r : Option Value} (H : x_ev x_nm x_tf x_fn x_Pg x_EV 31 (some .int) r h' xb_X8_ruleAt_0 0 ls st h) : x_EV 31 0 ls st h r h' := x_Ev_to (M := xm_X8_ruleAt) (is := xb_X8_ruleAt_0) pg_X8_ruleAt (by rfl) H
theorem xK_X8_ruleAt {x1 : Int32} {x2 : Int32} {x3 : Int32} {h h1 : xH} {r : Option Value} (H : x_EV 31 0 [some (.int x1), some (.int x2), some (.int x3)] [] h r h1) : xK 31 [.int x1, .int x2, .int x3] h r h1 := x_calX_s pg_X8_ruleAt rfl (Nat.le_of_ble_eq_true rfl) rfl H
theorem pg_X8_exchanges : x_Pg[32]? = some xm_X8_exchanges := by
  unfold x_Pg
  rfl
theorem xe_X8_exchanges_0 {ls : xL} {st : List Value} {h h' : xH} {r : Option Value} (H : x_ev x_nm x_tf x_fn x_Pg x_EV 32 (some .int) r h' xb_X8_exchanges_0 0 ls st h) : x_EV 32 0 ls st h r h' := x_Ev_to (M := xm_X8_exchanges) (is := xb_X8_exchanges_0) pg_X8_exchanges (by rfl) H
theorem xK_X8_exchanges {o : Nat} {x1 : Int32} {x2 : Int32} {h h1 : xH} {r : Option Value} {fs : List Value} (ho : h[o]? = some (.inr (7, fs))) (H : x_EV 32 0 [some (.ref o), some (.int x1), some (.int x2), none] [] h r h1) : xK 32 [.ref o, .int x1, .int x2] h r h1 := x_calX_v pg_X8_exchanges rfl rfl (Nat.le_of_ble_eq_true rfl) rfl ho H
theorem pg_X8_rules : x_Pg[33]? = some xm_X8_rules := by
  unfold x_Pg
  rfl
theorem xe_X8_rules_0 {ls : xL} {st : List Value} {h h' : xH} {r : Option Value} (H : x_ev x_nm x_tf x_fn x_Pg x_EV 33 (some .int) r h' xb_X8_rules_0 0 ls st h) : x_EV 33 0 ls st h r h' := x_Ev_to (M := xm_X8_rules) (is := xb_X8_rules_0) pg_X8_rules (by rfl) H
theorem xe_X8_rules_17 {ls : xL} {st : List Value} {h h' : xH} {r : Option Value} (H : x_ev x_nm x_tf x_fn x_Pg x_EV 33 (some .int) r h' xb_X8_rules_17 17 ls st h) : x_EV 33 17 ls st h r h' := x_Ev_to (M := xm_X8_rules) (is := xb_X8_rules_17) pg_X8_rules (by rfl) H
theorem xe_X8_rules_22 {ls : xL} {st : List Value} {h h' : xH} {r : Option Value} (H : x_ev x_nm x_tf x_fn x_Pg x_EV 33 (some .int) r h' xb_X8_rules_22 22 ls st h) : x_EV 33 22 ls st h r h' := x_Ev_to (M := xm_X8_rules) (is := xb_X8_rules_22) pg_X8_rules (by rfl) H
theorem xK_X8_rules {o : Nat} {x1 : Int32} {x2 : Int32} {x3 : Int32} {x4 : Int32} {h h1 : xH} {r : Option Value} {fs : List Value} (ho : h[o]? = some (.inr (7, fs))) (H : x_EV 33 0 [some (.ref o), some (.int x1), some (.int x2), some (.int x3), some (.int x4)] [] h r h1) : xK 33 [.ref o, .int x1, .int x2, .int x3, .int x4] h r h1 := x_calX_v pg_X8_rules rfl rfl (Nat.le_of_ble_eq_true rfl) rfl ho H
theorem pg_X1_whyNoRootPrice : x_Pg[34]? = some xm_X1_whyNoRootPrice := by
  unfold x_Pg
  rfl
theorem xe_X1_whyNoRootPrice_0 {ls : xL} {st : List Value} {h h' : xH} {r : Option Value} (H : x_ev x_nm x_tf x_fn x_Pg x_EV 34 (some .int) r h' xb_X1_whyNoRootPrice_0 0 ls st h) : x_EV 34 0 ls st h r h' := x_Ev_to (M := xm_X1_whyNoRootPrice) (is := xb_X1_whyNoRootPrice_0) pg_X1_whyNoRootPrice (by rfl) H
theorem xe_X1_whyNoRootPrice_20 {ls : xL} {st : List Value} {h h' : xH} {r : Option Value} (H : x_ev x_nm x_tf x_fn x_Pg x_EV 34 (some .int) r h' xb_X1_whyNoRootPrice_20 20 ls st h) : x_EV 34 20 ls st h r h' := x_Ev_to (M := xm_X1_whyNoRootPrice) (is := xb_X1_whyNoRootPrice_20) pg_X1_whyNoRootPrice (by rfl) H
theorem xe_X1_whyNoRootPrice_22 {ls : xL} {st : List Value} {h h' : xH} {r : Option Value} (H : x_ev x_nm x_tf x_fn x_Pg x_EV 34 (some .int) r h' xb_X1_whyNoRootPrice_22 22 ls st h) : x_EV 34 22 ls st h r h' := x_Ev_to (M := xm_X1_whyNoRootPrice) (is := xb_X1_whyNoRootPrice_22) pg_X1_whyNoRootPrice (by rfl) H
theorem xK_X1_whyNoRootPrice {o : Nat} {x1 : Int32} {x2 : Int32} {h h1 : xH} {r : Option Value} {fs : List Value} (ho : h[o]? = some (.inr (1, fs))) (H : x_EV 34 0 [some (.ref o), some (.int x1), some (.int x2)] [] h r h1) : xK 34 [.ref o, .int x1, .int x2] h r h1 := x_calX_v pg_X1_whyNoRootPrice rfl rfl (Nat.le_of_ble_eq_true rfl) rfl ho H
theorem pg_X1_putRootPrice : x_Pg[35]? = some xm_X1_putRootPrice := by
  unfold x_Pg
  rfl
theorem xe_X1_putRootPrice_0 {ls : xL} {st : List Value} {h h' : xH} {r : Option Value} (H : x_ev x_nm x_tf x_fn x_Pg x_EV 35 (some .int) r h' xb_X1_putRootPrice_0 0 ls st h) : x_EV 35 0 ls st h r h' := x_Ev_to (M := xm_X1_putRootPrice) (is := xb_X1_putRootPrice_0) pg_X1_putRootPrice (by rfl) H
theorem xK_X1_putRootPrice {o : Nat} {x1 : Int32} {x2 : Int32} {h h1 : xH} {r : Option Value} {fs : List Value} (ho : h[o]? = some (.inr (1, fs))) (H : x_EV 35 0 [some (.ref o), some (.int x1), some (.int x2), none] [] h r h1) : xK 35 [.ref o, .int x1, .int x2] h r h1 := x_calX_v pg_X1_putRootPrice rfl rfl (Nat.le_of_ble_eq_true rfl) rfl ho H
theorem pg_X7_roots : x_Pg[36]? = some xm_X7_roots := by
  unfold x_Pg
  rfl
theorem xe_X7_roots_0 {ls : xL} {st : List Value} {h h' : xH} {r : Option Value} (H : x_ev x_nm x_tf x_fn x_Pg x_EV 36 (some .int) r h' xb_X7_roots_0 0 ls st h) : x_EV 36 0 ls st h r h' := x_Ev_to (M := xm_X7_roots) (is := xb_X7_roots_0) pg_X7_roots (by rfl) H
theorem xe_X7_roots_23 {ls : xL} {st : List Value} {h h' : xH} {r : Option Value} (H : x_ev x_nm x_tf x_fn x_Pg x_EV 36 (some .int) r h' xb_X7_roots_23 23 ls st h) : x_EV 36 23 ls st h r h' := x_Ev_to (M := xm_X7_roots) (is := xb_X7_roots_23) pg_X7_roots (by rfl) H
theorem xK_X7_roots {o : Nat} {x1 : Int32} {x2 : Int32} {h h1 : xH} {r : Option Value} {fs : List Value} (ho : h[o]? = some (.inr (6, fs))) (H : x_EV 36 0 [some (.ref o), some (.int x1), some (.int x2), none] [] h r h1) : xK 36 [.ref o, .int x1, .int x2] h r h1 := x_calX_v pg_X7_roots rfl rfl (Nat.le_of_ble_eq_true rfl) rfl ho H
theorem pg_X8_roots : x_Pg[37]? = some xm_X8_roots := by
  unfold x_Pg
  rfl
theorem xe_X8_roots_0 {ls : xL} {st : List Value} {h h' : xH} {r : Option Value} (H : x_ev x_nm x_tf x_fn x_Pg x_EV 37 (some .int) r h' xb_X8_roots_0 0 ls st h) : x_EV 37 0 ls st h r h' := x_Ev_to (M := xm_X8_roots) (is := xb_X8_roots_0) pg_X8_roots (by rfl) H
theorem xe_X8_roots_14 {ls : xL} {st : List Value} {h h' : xH} {r : Option Value} (H : x_ev x_nm x_tf x_fn x_Pg x_EV 37 (some .int) r h' xb_X8_roots_14 14 ls st h) : x_EV 37 14 ls st h r h' := x_Ev_to (M := xm_X8_roots) (is := xb_X8_roots_14) pg_X8_roots (by rfl) H
theorem xe_X8_roots_19 {ls : xL} {st : List Value} {h h' : xH} {r : Option Value} (H : x_ev x_nm x_tf x_fn x_Pg x_EV 37 (some .int) r h' xb_X8_roots_19 19 ls st h) : x_EV 37 19 ls st h r h' := x_Ev_to (M := xm_X8_roots) (is := xb_X8_roots_19) pg_X8_roots (by rfl) H
theorem xK_X8_roots {o : Nat} {x1 : Int32} {x2 : Int32} {h h1 : xH} {r : Option Value} {fs : List Value} (ho : h[o]? = some (.inr (7, fs))) (H : x_EV 37 0 [some (.ref o), some (.int x1), some (.int x2)] [] h r h1) : xK 37 [.ref o, .int x1, .int x2] h r h1 := x_calX_v pg_X8_roots rfl rfl (Nat.le_of_ble_eq_true rfl) rfl ho H
theorem pg_X1_whyNoEntry : x_Pg[38]? = some xm_X1_whyNoEntry := by
  unfold x_Pg
  rfl
theorem xe_X1_whyNoEntry_0 {ls : xL} {st : List Value} {h h' : xH} {r : Option Value} (H : x_ev x_nm x_tf x_fn x_Pg x_EV 38 (some .int) r h' xb_X1_whyNoEntry_0 0 ls st h) : x_EV 38 0 ls st h r h' := x_Ev_to (M := xm_X1_whyNoEntry) (is := xb_X1_whyNoEntry_0) pg_X1_whyNoEntry (by rfl) H
theorem xe_X1_whyNoEntry_23 {ls : xL} {st : List Value} {h h' : xH} {r : Option Value} (H : x_ev x_nm x_tf x_fn x_Pg x_EV 38 (some .int) r h' xb_X1_whyNoEntry_23 23 ls st h) : x_EV 38 23 ls st h r h' := x_Ev_to (M := xm_X1_whyNoEntry) (is := xb_X1_whyNoEntry_23) pg_X1_whyNoEntry (by rfl) H
theorem xe_X1_whyNoEntry_32 {ls : xL} {st : List Value} {h h' : xH} {r : Option Value} (H : x_ev x_nm x_tf x_fn x_Pg x_EV 38 (some .int) r h' xb_X1_whyNoEntry_32 32 ls st h) : x_EV 38 32 ls st h r h' := x_Ev_to (M := xm_X1_whyNoEntry) (is := xb_X1_whyNoEntry_32) pg_X1_whyNoEntry (by rfl) H
theorem xe_X1_whyNoEntry_33 {ls : xL} {st : List Value} {h h' : xH} {r : Option Value} (H : x_ev x_nm x_tf x_fn x_Pg x_EV 38 (some .int) r h' xb_X1_whyNoEntry_33 33 ls st h) : x_EV 38 33 ls st h r h' := x_Ev_to (M := xm_X1_whyNoEntry) (is := xb_X1_whyNoEntry_33) pg_X1_whyNoEntry (by rfl) H
theorem xe_X1_whyNoEntry_48 {ls : xL} {st : List Value} {h h' : xH} {r : Option Value} (H : x_ev x_nm x_tf x_fn x_Pg x_EV 38 (some .int) r h' xb_X1_whyNoEntry_48 48 ls st h) : x_EV 38 48 ls st h r h' := x_Ev_to (M := xm_X1_whyNoEntry) (is := xb_X1_whyNoEntry_48) pg_X1_whyNoEntry (by rfl) H
theorem xe_X1_whyNoEntry_52 {ls : xL} {st : List Value} {h h' : xH} {r : Option Value} (H : x_ev x_nm x_tf x_fn x_Pg x_EV 38 (some .int) r h' xb_X1_whyNoEntry_52 52 ls st h) : x_EV 38 52 ls st h r h' := x_Ev_to (M := xm_X1_whyNoEntry) (is := xb_X1_whyNoEntry_52) pg_X1_whyNoEntry (by rfl) H
theorem xe_X1_whyNoEntry_66 {ls : xL} {st : List Value} {h h' : xH} {r : Option Value} (H : x_ev x_nm x_tf x_fn x_Pg x_EV 38 (some .int) r h' xb_X1_whyNoEntry_66 66 ls st h) : x_EV 38 66 ls st h r h' := x_Ev_to (M := xm_X1_whyNoEntry) (is := xb_X1_whyNoEntry_66) pg_X1_whyNoEntry (by rfl) H
theorem xe_X1_whyNoEntry_67 {ls : xL} {st : List Value} {h h' : xH} {r : Option Value} (H : x_ev x_nm x_tf x_fn x_Pg x_EV 38 (some .int) r h' xb_X1_whyNoEntry_67 67 ls st h) : x_EV 38 67 ls st h r h' := x_Ev_to (M := xm_X1_whyNoEntry) (is := xb_X1_whyNoEntry_67) pg_X1_whyNoEntry (by rfl) H
theorem xe_X1_whyNoEntry_79 {ls : xL} {st : List Value} {h h' : xH} {r : Option Value} (H : x_ev x_nm x_tf x_fn x_Pg x_EV 38 (some .int) r h' xb_X1_whyNoEntry_79 79 ls st h) : x_EV 38 79 ls st h r h' := x_Ev_to (M := xm_X1_whyNoEntry) (is := xb_X1_whyNoEntry_79) pg_X1_whyNoEntry (by rfl) H
theorem xe_X1_whyNoEntry_82 {ls : xL} {st : List Value} {h h' : xH} {r : Option Value} (H : x_ev x_nm x_tf x_fn x_Pg x_EV 38 (some .int) r h' xb_X1_whyNoEntry_82 82 ls st h) : x_EV 38 82 ls st h r h' := x_Ev_to (M := xm_X1_whyNoEntry) (is := xb_X1_whyNoEntry_82) pg_X1_whyNoEntry (by rfl) H
theorem xe_X1_whyNoEntry_96 {ls : xL} {st : List Value} {h h' : xH} {r : Option Value} (H : x_ev x_nm x_tf x_fn x_Pg x_EV 38 (some .int) r h' xb_X1_whyNoEntry_96 96 ls st h) : x_EV 38 96 ls st h r h' := x_Ev_to (M := xm_X1_whyNoEntry) (is := xb_X1_whyNoEntry_96) pg_X1_whyNoEntry (by rfl) H
theorem xe_X1_whyNoEntry_97 {ls : xL} {st : List Value} {h h' : xH} {r : Option Value} (H : x_ev x_nm x_tf x_fn x_Pg x_EV 38 (some .int) r h' xb_X1_whyNoEntry_97 97 ls st h) : x_EV 38 97 ls st h r h' := x_Ev_to (M := xm_X1_whyNoEntry) (is := xb_X1_whyNoEntry_97) pg_X1_whyNoEntry (by rfl) H
theorem xK_X1_whyNoEntry {o : Nat} {x1 : Int32} {x2 : Int32} {x3 : Int32} {h h1 : xH} {r : Option Value} {fs : List Value} (ho : h[o]? = some (.inr (1, fs))) (H : x_EV 38 0 [some (.ref o), some (.int x1), some (.int x2), some (.int x3), none, none] [] h r h1) : xK 38 [.ref o, .int x1, .int x2, .int x3] h r h1 := x_calX_v pg_X1_whyNoEntry rfl rfl (Nat.le_of_ble_eq_true rfl) rfl ho H
theorem pg_X1_addEntry : x_Pg[39]? = some xm_X1_addEntry := by
  unfold x_Pg
  rfl
theorem xe_X1_addEntry_0 {ls : xL} {st : List Value} {h h' : xH} {r : Option Value} (H : x_ev x_nm x_tf x_fn x_Pg x_EV 39 (some .int) r h' xb_X1_addEntry_0 0 ls st h) : x_EV 39 0 ls st h r h' := x_Ev_to (M := xm_X1_addEntry) (is := xb_X1_addEntry_0) pg_X1_addEntry (by rfl) H
theorem xK_X1_addEntry {o : Nat} {x1 : Int32} {x2 : Int32} {x3 : Int32} {h h1 : xH} {r : Option Value} {fs : List Value} (ho : h[o]? = some (.inr (1, fs))) (H : x_EV 39 0 [some (.ref o), some (.int x1), some (.int x2), some (.int x3), none] [] h r h1) : xK 39 [.ref o, .int x1, .int x2, .int x3] h r h1 := x_calX_v pg_X1_addEntry rfl rfl (Nat.le_of_ble_eq_true rfl) rfl ho H
theorem pg_X7_entry : x_Pg[40]? = some xm_X7_entry := by
  unfold x_Pg
  rfl
theorem xe_X7_entry_0 {ls : xL} {st : List Value} {h h' : xH} {r : Option Value} (H : x_ev x_nm x_tf x_fn x_Pg x_EV 40 (some .int) r h' xb_X7_entry_0 0 ls st h) : x_EV 40 0 ls st h r h' := x_Ev_to (M := xm_X7_entry) (is := xb_X7_entry_0) pg_X7_entry (by rfl) H
theorem xe_X7_entry_27 {ls : xL} {st : List Value} {h h' : xH} {r : Option Value} (H : x_ev x_nm x_tf x_fn x_Pg x_EV 40 (some .int) r h' xb_X7_entry_27 27 ls st h) : x_EV 40 27 ls st h r h' := x_Ev_to (M := xm_X7_entry) (is := xb_X7_entry_27) pg_X7_entry (by rfl) H
theorem xK_X7_entry {o : Nat} {x1 : Int32} {x2 : Int32} {x3 : Int32} {h h1 : xH} {r : Option Value} {fs : List Value} (ho : h[o]? = some (.inr (6, fs))) (H : x_EV 40 0 [some (.ref o), some (.int x1), some (.int x2), some (.int x3), none] [] h r h1) : xK 40 [.ref o, .int x1, .int x2, .int x3] h r h1 := x_calX_v pg_X7_entry rfl rfl (Nat.le_of_ble_eq_true rfl) rfl ho H
theorem pg_X8_canEnter : x_Pg[41]? = some xm_X8_canEnter := by
  unfold x_Pg
  rfl
theorem xe_X8_canEnter_0 {ls : xL} {st : List Value} {h h' : xH} {r : Option Value} (H : x_ev x_nm x_tf x_fn x_Pg x_EV 41 (some .boolean) r h' xb_X8_canEnter_0 0 ls st h) : x_EV 41 0 ls st h r h' := x_Ev_to (M := xm_X8_canEnter) (is := xb_X8_canEnter_0) pg_X8_canEnter (by rfl) H
theorem xe_X8_canEnter_16 {ls : xL} {st : List Value} {h h' : xH} {r : Option Value} (H : x_ev x_nm x_tf x_fn x_Pg x_EV 41 (some .boolean) r h' xb_X8_canEnter_16 16 ls st h) : x_EV 41 16 ls st h r h' := x_Ev_to (M := xm_X8_canEnter) (is := xb_X8_canEnter_16) pg_X8_canEnter (by rfl) H
theorem xe_X8_canEnter_17 {ls : xL} {st : List Value} {h h' : xH} {r : Option Value} (H : x_ev x_nm x_tf x_fn x_Pg x_EV 41 (some .boolean) r h' xb_X8_canEnter_17 17 ls st h) : x_EV 41 17 ls st h r h' := x_Ev_to (M := xm_X8_canEnter) (is := xb_X8_canEnter_17) pg_X8_canEnter (by rfl) H
theorem xe_X8_canEnter_48 {ls : xL} {st : List Value} {h h' : xH} {r : Option Value} (H : x_ev x_nm x_tf x_fn x_Pg x_EV 41 (some .boolean) r h' xb_X8_canEnter_48 48 ls st h) : x_EV 41 48 ls st h r h' := x_Ev_to (M := xm_X8_canEnter) (is := xb_X8_canEnter_48) pg_X8_canEnter (by rfl) H
theorem xe_X8_canEnter_52 {ls : xL} {st : List Value} {h h' : xH} {r : Option Value} (H : x_ev x_nm x_tf x_fn x_Pg x_EV 41 (some .boolean) r h' xb_X8_canEnter_52 52 ls st h) : x_EV 41 52 ls st h r h' := x_Ev_to (M := xm_X8_canEnter) (is := xb_X8_canEnter_52) pg_X8_canEnter (by rfl) H
theorem xe_X8_canEnter_53 {ls : xL} {st : List Value} {h h' : xH} {r : Option Value} (H : x_ev x_nm x_tf x_fn x_Pg x_EV 41 (some .boolean) r h' xb_X8_canEnter_53 53 ls st h) : x_EV 41 53 ls st h r h' := x_Ev_to (M := xm_X8_canEnter) (is := xb_X8_canEnter_53) pg_X8_canEnter (by rfl) H
theorem xK_X8_canEnter {x1 : Int32} {x2 : Int32} {x3 : Int32} {h h1 : xH} {r : Option Value} (H : x_EV 41 0 [some (.int x1), some (.int x2), some (.int x3), none] [] h r h1) : xK 41 [.int x1, .int x2, .int x3] h r h1 := x_calX_s pg_X8_canEnter rfl (Nat.le_of_ble_eq_true rfl) rfl H
theorem pg_X8_full : x_Pg[42]? = some xm_X8_full := by
  unfold x_Pg
  rfl
theorem xe_X8_full_0 {ls : xL} {st : List Value} {h h' : xH} {r : Option Value} (H : x_ev x_nm x_tf x_fn x_Pg x_EV 42 (some .int) r h' xb_X8_full_0 0 ls st h) : x_EV 42 0 ls st h r h' := x_Ev_to (M := xm_X8_full) (is := xb_X8_full_0) pg_X8_full (by rfl) H
theorem xK_X8_full {o : Nat}  {h h1 : xH} {r : Option Value} {fs : List Value} (ho : h[o]? = some (.inr (7, fs))) (H : x_EV 42 0 [some (.ref o)] [] h r h1) : xK 42 [.ref o] h r h1 := x_calX_v pg_X8_full rfl rfl (Nat.le_of_ble_eq_true rfl) rfl ho H
theorem pg_X8_enters : x_Pg[43]? = some xm_X8_enters := by
  unfold x_Pg
  rfl
theorem xe_X8_enters_0 {ls : xL} {st : List Value} {h h' : xH} {r : Option Value} (H : x_ev x_nm x_tf x_fn x_Pg x_EV 43 (some .int) r h' xb_X8_enters_0 0 ls st h) : x_EV 43 0 ls st h r h' := x_Ev_to (M := xm_X8_enters) (is := xb_X8_enters_0) pg_X8_enters (by rfl) H
theorem xK_X8_enters {o : Nat} {x1 : Int32} {x2 : Int32} {x3 : Int32} {h h1 : xH} {r : Option Value} {fs : List Value} (ho : h[o]? = some (.inr (7, fs))) (H : x_EV 43 0 [some (.ref o), some (.int x1), some (.int x2), some (.int x3), none] [] h r h1) : xK 43 [.ref o, .int x1, .int x2, .int x3] h r h1 := x_calX_v pg_X8_enters rfl rfl (Nat.le_of_ble_eq_true rfl) rfl ho H
theorem pg_X8_entry : x_Pg[44]? = some xm_X8_entry := by
  unfold x_Pg
  rfl
theorem xe_X8_entry_0 {ls : xL} {st : List Value} {h h' : xH} {r : Option Value} (H : x_ev x_nm x_tf x_fn x_Pg x_EV 44 (some .int) r h' xb_X8_entry_0 0 ls st h) : x_EV 44 0 ls st h r h' := x_Ev_to (M := xm_X8_entry) (is := xb_X8_entry_0) pg_X8_entry (by rfl) H
theorem xe_X8_entry_14 {ls : xL} {st : List Value} {h h' : xH} {r : Option Value} (H : x_ev x_nm x_tf x_fn x_Pg x_EV 44 (some .int) r h' xb_X8_entry_14 14 ls st h) : x_EV 44 14 ls st h r h' := x_Ev_to (M := xm_X8_entry) (is := xb_X8_entry_14) pg_X8_entry (by rfl) H
theorem xe_X8_entry_31 {ls : xL} {st : List Value} {h h' : xH} {r : Option Value} (H : x_ev x_nm x_tf x_fn x_Pg x_EV 44 (some .int) r h' xb_X8_entry_31 31 ls st h) : x_EV 44 31 ls st h r h' := x_Ev_to (M := xm_X8_entry) (is := xb_X8_entry_31) pg_X8_entry (by rfl) H
theorem xK_X8_entry {o : Nat} {x1 : Int32} {x2 : Int32} {x3 : Int32} {h h1 : xH} {r : Option Value} {fs : List Value} (ho : h[o]? = some (.inr (7, fs))) (H : x_EV 44 0 [some (.ref o), some (.int x1), some (.int x2), some (.int x3)] [] h r h1) : xK 44 [.ref o, .int x1, .int x2, .int x3] h r h1 := x_calX_v pg_X8_entry rfl rfl (Nat.le_of_ble_eq_true rfl) rfl ho H
theorem pg_X1_putSetting : x_Pg[45]? = some xm_X1_putSetting := by
  unfold x_Pg
  rfl
theorem xe_X1_putSetting_0 {ls : xL} {st : List Value} {h h' : xH} {r : Option Value} (H : x_ev x_nm x_tf x_fn x_Pg x_EV 45 (some .int) r h' xb_X1_putSetting_0 0 ls st h) : x_EV 45 0 ls st h r h' := x_Ev_to (M := xm_X1_putSetting) (is := xb_X1_putSetting_0) pg_X1_putSetting (by rfl) H
theorem xK_X1_putSetting {o : Nat} {x1 : Int32} {x2 : Int32} {h h1 : xH} {r : Option Value} {fs : List Value} (ho : h[o]? = some (.inr (1, fs))) (H : x_EV 45 0 [some (.ref o), some (.int x1), some (.int x2), none] [] h r h1) : xK 45 [.ref o, .int x1, .int x2] h r h1 := x_calX_v pg_X1_putSetting rfl rfl (Nat.le_of_ble_eq_true rfl) rfl ho H
theorem pg_X7_sets : x_Pg[46]? = some xm_X7_sets := by
  unfold x_Pg
  rfl
theorem xe_X7_sets_0 {ls : xL} {st : List Value} {h h' : xH} {r : Option Value} (H : x_ev x_nm x_tf x_fn x_Pg x_EV 46 (some .int) r h' xb_X7_sets_0 0 ls st h) : x_EV 46 0 ls st h r h' := x_Ev_to (M := xm_X7_sets) (is := xb_X7_sets_0) pg_X7_sets (by rfl) H
theorem xe_X7_sets_24 {ls : xL} {st : List Value} {h h' : xH} {r : Option Value} (H : x_ev x_nm x_tf x_fn x_Pg x_EV 46 (some .int) r h' xb_X7_sets_24 24 ls st h) : x_EV 46 24 ls st h r h' := x_Ev_to (M := xm_X7_sets) (is := xb_X7_sets_24) pg_X7_sets (by rfl) H
theorem xe_X7_sets_31 {ls : xL} {st : List Value} {h h' : xH} {r : Option Value} (H : x_ev x_nm x_tf x_fn x_Pg x_EV 46 (some .int) r h' xb_X7_sets_31 31 ls st h) : x_EV 46 31 ls st h r h' := x_Ev_to (M := xm_X7_sets) (is := xb_X7_sets_31) pg_X7_sets (by rfl) H
theorem xK_X7_sets {o : Nat} {x1 : Int32} {x2 : Int32} {h h1 : xH} {r : Option Value} {fs : List Value} (ho : h[o]? = some (.inr (6, fs))) (H : x_EV 46 0 [some (.ref o), some (.int x1), some (.int x2)] [] h r h1) : xK 46 [.ref o, .int x1, .int x2] h r h1 := x_calX_v pg_X7_sets rfl rfl (Nat.le_of_ble_eq_true rfl) rfl ho H
theorem pg_X8_sets : x_Pg[47]? = some xm_X8_sets := by
  unfold x_Pg
  rfl
theorem xe_X8_sets_0 {ls : xL} {st : List Value} {h h' : xH} {r : Option Value} (H : x_ev x_nm x_tf x_fn x_Pg x_EV 47 (some .int) r h' xb_X8_sets_0 0 ls st h) : x_EV 47 0 ls st h r h' := x_Ev_to (M := xm_X8_sets) (is := xb_X8_sets_0) pg_X8_sets (by rfl) H
theorem xe_X8_sets_19 {ls : xL} {st : List Value} {h h' : xH} {r : Option Value} (H : x_ev x_nm x_tf x_fn x_Pg x_EV 47 (some .int) r h' xb_X8_sets_19 19 ls st h) : x_EV 47 19 ls st h r h' := x_Ev_to (M := xm_X8_sets) (is := xb_X8_sets_19) pg_X8_sets (by rfl) H
theorem xe_X8_sets_29 {ls : xL} {st : List Value} {h h' : xH} {r : Option Value} (H : x_ev x_nm x_tf x_fn x_Pg x_EV 47 (some .int) r h' xb_X8_sets_29 29 ls st h) : x_EV 47 29 ls st h r h' := x_Ev_to (M := xm_X8_sets) (is := xb_X8_sets_29) pg_X8_sets (by rfl) H
theorem xe_X8_sets_31 {ls : xL} {st : List Value} {h h' : xH} {r : Option Value} (H : x_ev x_nm x_tf x_fn x_Pg x_EV 47 (some .int) r h' xb_X8_sets_31 31 ls st h) : x_EV 47 31 ls st h r h' := x_Ev_to (M := xm_X8_sets) (is := xb_X8_sets_31) pg_X8_sets (by rfl) H
theorem xe_X8_sets_37 {ls : xL} {st : List Value} {h h' : xH} {r : Option Value} (H : x_ev x_nm x_tf x_fn x_Pg x_EV 47 (some .int) r h' xb_X8_sets_37 37 ls st h) : x_EV 47 37 ls st h r h' := x_Ev_to (M := xm_X8_sets) (is := xb_X8_sets_37) pg_X8_sets (by rfl) H
theorem xe_X8_sets_42 {ls : xL} {st : List Value} {h h' : xH} {r : Option Value} (H : x_ev x_nm x_tf x_fn x_Pg x_EV 47 (some .int) r h' xb_X8_sets_42 42 ls st h) : x_EV 47 42 ls st h r h' := x_Ev_to (M := xm_X8_sets) (is := xb_X8_sets_42) pg_X8_sets (by rfl) H
theorem xK_X8_sets {o : Nat} {x1 : Int32} {x2 : Int32} {h h1 : xH} {r : Option Value} {fs : List Value} (ho : h[o]? = some (.inr (7, fs))) (H : x_EV 47 0 [some (.ref o), some (.int x1), some (.int x2)] [] h r h1) : xK 47 [.ref o, .int x1, .int x2] h r h1 := x_calX_v pg_X8_sets rfl rfl (Nat.le_of_ble_eq_true rfl) rfl ho H
theorem pg_X1_price : x_Pg[48]? = some xm_X1_price := by
  unfold x_Pg
  rfl
theorem xe_X1_price_0 {ls : xL} {st : List Value} {h h' : xH} {r : Option Value} (H : x_ev x_nm x_tf x_fn x_Pg x_EV 48 (some .int) r h' xb_X1_price_0 0 ls st h) : x_EV 48 0 ls st h r h' := x_Ev_to (M := xm_X1_price) (is := xb_X1_price_0) pg_X1_price (by rfl) H
theorem xK_X1_price {o : Nat} {x1 : Int32} {x2 : Int32} {x3 : Int32} {h h1 : xH} {r : Option Value} {fs : List Value} (ho : h[o]? = some (.inr (1, fs))) (H : x_EV 48 0 [some (.ref o), some (.int x1), some (.int x2), some (.int x3)] [] h r h1) : xK 48 [.ref o, .int x1, .int x2, .int x3] h r h1 := x_calX_v pg_X1_price rfl rfl (Nat.le_of_ble_eq_true rfl) rfl ho H
theorem pg_X7_rule : x_Pg[49]? = some xm_X7_rule := by
  unfold x_Pg
  rfl
theorem xe_X7_rule_0 {ls : xL} {st : List Value} {h h' : xH} {r : Option Value} (H : x_ev x_nm x_tf x_fn x_Pg x_EV 49 (some .int) r h' xb_X7_rule_0 0 ls st h) : x_EV 49 0 ls st h r h' := x_Ev_to (M := xm_X7_rule) (is := xb_X7_rule_0) pg_X7_rule (by rfl) H
theorem xe_X7_rule_16 {ls : xL} {st : List Value} {h h' : xH} {r : Option Value} (H : x_ev x_nm x_tf x_fn x_Pg x_EV 49 (some .int) r h' xb_X7_rule_16 16 ls st h) : x_EV 49 16 ls st h r h' := x_Ev_to (M := xm_X7_rule) (is := xb_X7_rule_16) pg_X7_rule (by rfl) H
theorem xK_X7_rule {o : Nat} {x1 : Int32} {x2 : Int32} {x3 : Int32} {h h1 : xH} {r : Option Value} {fs : List Value} (ho : h[o]? = some (.inr (6, fs))) (H : x_EV 49 0 [some (.ref o), some (.int x1), some (.int x2), some (.int x3)] [] h r h1) : xK 49 [.ref o, .int x1, .int x2, .int x3] h r h1 := x_calX_v pg_X7_rule rfl rfl (Nat.le_of_ble_eq_true rfl) rfl ho H
theorem pg_X8_rule : x_Pg[50]? = some xm_X8_rule := by
  unfold x_Pg
  rfl
theorem xe_X8_rule_0 {ls : xL} {st : List Value} {h h' : xH} {r : Option Value} (H : x_ev x_nm x_tf x_fn x_Pg x_EV 50 (some .int) r h' xb_X8_rule_0 0 ls st h) : x_EV 50 0 ls st h r h' := x_Ev_to (M := xm_X8_rule) (is := xb_X8_rule_0) pg_X8_rule (by rfl) H
theorem xe_X8_rule_23 {ls : xL} {st : List Value} {h h' : xH} {r : Option Value} (H : x_ev x_nm x_tf x_fn x_Pg x_EV 50 (some .int) r h' xb_X8_rule_23 23 ls st h) : x_EV 50 23 ls st h r h' := x_Ev_to (M := xm_X8_rule) (is := xb_X8_rule_23) pg_X8_rule (by rfl) H
theorem xe_X8_rule_27 {ls : xL} {st : List Value} {h h' : xH} {r : Option Value} (H : x_ev x_nm x_tf x_fn x_Pg x_EV 50 (some .int) r h' xb_X8_rule_27 27 ls st h) : x_EV 50 27 ls st h r h' := x_Ev_to (M := xm_X8_rule) (is := xb_X8_rule_27) pg_X8_rule (by rfl) H
theorem xK_X8_rule {o : Nat} {x1 : Int32} {x2 : Int32} {x3 : Int32} {h h1 : xH} {r : Option Value} {fs : List Value} (ho : h[o]? = some (.inr (7, fs))) (H : x_EV 50 0 [some (.ref o), some (.int x1), some (.int x2), some (.int x3)] [] h r h1) : xK 50 [.ref o, .int x1, .int x2, .int x3] h r h1 := x_calX_v pg_X8_rule rfl rfl (Nat.le_of_ble_eq_true rfl) rfl ho H
theorem pg_X1_hasEntry : x_Pg[51]? = some xm_X1_hasEntry := by
  unfold x_Pg
  rfl
theorem xe_X1_hasEntry_0 {ls : xL} {st : List Value} {h h' : xH} {r : Option Value} (H : x_ev x_nm x_tf x_fn x_Pg x_EV 51 (some .boolean) r h' xb_X1_hasEntry_0 0 ls st h) : x_EV 51 0 ls st h r h' := x_Ev_to (M := xm_X1_hasEntry) (is := xb_X1_hasEntry_0) pg_X1_hasEntry (by rfl) H
theorem xK_X1_hasEntry {o : Nat} {x1 : Int32} {h h1 : xH} {r : Option Value} {fs : List Value} (ho : h[o]? = some (.inr (1, fs))) (H : x_EV 51 0 [some (.ref o), some (.int x1)] [] h r h1) : xK 51 [.ref o, .int x1] h r h1 := x_calX_v pg_X1_hasEntry rfl rfl (Nat.le_of_ble_eq_true rfl) rfl ho H
theorem pg_X1_sortOf : x_Pg[52]? = some xm_X1_sortOf := by
  unfold x_Pg
  rfl
theorem xe_X1_sortOf_0 {ls : xL} {st : List Value} {h h' : xH} {r : Option Value} (H : x_ev x_nm x_tf x_fn x_Pg x_EV 52 (some .int) r h' xb_X1_sortOf_0 0 ls st h) : x_EV 52 0 ls st h r h' := x_Ev_to (M := xm_X1_sortOf) (is := xb_X1_sortOf_0) pg_X1_sortOf (by rfl) H
theorem xK_X1_sortOf {o : Nat} {x1 : Int32} {x2 : Int32} {h h1 : xH} {r : Option Value} {fs : List Value} (ho : h[o]? = some (.inr (1, fs))) (H : x_EV 52 0 [some (.ref o), some (.int x1), some (.int x2)] [] h r h1) : xK 52 [.ref o, .int x1, .int x2] h r h1 := x_calX_v pg_X1_sortOf rfl rfl (Nat.le_of_ble_eq_true rfl) rfl ho H
theorem pg_X1_extraOf : x_Pg[53]? = some xm_X1_extraOf := by
  unfold x_Pg
  rfl
theorem xe_X1_extraOf_0 {ls : xL} {st : List Value} {h h' : xH} {r : Option Value} (H : x_ev x_nm x_tf x_fn x_Pg x_EV 53 (some .int) r h' xb_X1_extraOf_0 0 ls st h) : x_EV 53 0 ls st h r h' := x_Ev_to (M := xm_X1_extraOf) (is := xb_X1_extraOf_0) pg_X1_extraOf (by rfl) H
theorem xe_X1_extraOf_14 {ls : xL} {st : List Value} {h h' : xH} {r : Option Value} (H : x_ev x_nm x_tf x_fn x_Pg x_EV 53 (some .int) r h' xb_X1_extraOf_14 14 ls st h) : x_EV 53 14 ls st h r h' := x_Ev_to (M := xm_X1_extraOf) (is := xb_X1_extraOf_14) pg_X1_extraOf (by rfl) H
theorem xe_X1_extraOf_15 {ls : xL} {st : List Value} {h h' : xH} {r : Option Value} (H : x_ev x_nm x_tf x_fn x_Pg x_EV 53 (some .int) r h' xb_X1_extraOf_15 15 ls st h) : x_EV 53 15 ls st h r h' := x_Ev_to (M := xm_X1_extraOf) (is := xb_X1_extraOf_15) pg_X1_extraOf (by rfl) H
theorem xK_X1_extraOf {o : Nat} {x1 : Int32} {x2 : Int32} {h h1 : xH} {r : Option Value} {fs : List Value} (ho : h[o]? = some (.inr (1, fs))) (H : x_EV 53 0 [some (.ref o), some (.int x1), some (.int x2)] [] h r h1) : xK 53 [.ref o, .int x1, .int x2] h r h1 := x_calX_v pg_X1_extraOf rfl rfl (Nat.le_of_ble_eq_true rfl) rfl ho H
theorem pg_X7_of : x_Pg[54]? = some xm_X7_of := by
  unfold x_Pg
  rfl
theorem xe_X7_of_0 {ls : xL} {st : List Value} {h h' : xH} {r : Option Value} (H : x_ev x_nm x_tf x_fn x_Pg x_EV 54 (some .int) r h' xb_X7_of_0 0 ls st h) : x_EV 54 0 ls st h r h' := x_Ev_to (M := xm_X7_of) (is := xb_X7_of_0) pg_X7_of (by rfl) H
theorem xe_X7_of_22 {ls : xL} {st : List Value} {h h' : xH} {r : Option Value} (H : x_ev x_nm x_tf x_fn x_Pg x_EV 54 (some .int) r h' xb_X7_of_22 22 ls st h) : x_EV 54 22 ls st h r h' := x_Ev_to (M := xm_X7_of) (is := xb_X7_of_22) pg_X7_of (by rfl) H
theorem xe_X7_of_29 {ls : xL} {st : List Value} {h h' : xH} {r : Option Value} (H : x_ev x_nm x_tf x_fn x_Pg x_EV 54 (some .int) r h' xb_X7_of_29 29 ls st h) : x_EV 54 29 ls st h r h' := x_Ev_to (M := xm_X7_of) (is := xb_X7_of_29) pg_X7_of (by rfl) H
theorem xe_X7_of_49 {ls : xL} {st : List Value} {h h' : xH} {r : Option Value} (H : x_ev x_nm x_tf x_fn x_Pg x_EV 54 (some .int) r h' xb_X7_of_49 49 ls st h) : x_EV 54 49 ls st h r h' := x_Ev_to (M := xm_X7_of) (is := xb_X7_of_49) pg_X7_of (by rfl) H
theorem xe_X7_of_61 {ls : xL} {st : List Value} {h h' : xH} {r : Option Value} (H : x_ev x_nm x_tf x_fn x_Pg x_EV 54 (some .int) r h' xb_X7_of_61 61 ls st h) : x_EV 54 61 ls st h r h' := x_Ev_to (M := xm_X7_of) (is := xb_X7_of_61) pg_X7_of (by rfl) H
theorem xK_X7_of {o : Nat} {x1 : Int32} {x2 : Int32} {h h1 : xH} {r : Option Value} {fs : List Value} (ho : h[o]? = some (.inr (6, fs))) (H : x_EV 54 0 [some (.ref o), some (.int x1), some (.int x2)] [] h r h1) : xK 54 [.ref o, .int x1, .int x2] h r h1 := x_calX_v pg_X7_of rfl rfl (Nat.le_of_ble_eq_true rfl) rfl ho H
theorem pg_X8_isEntry : x_Pg[55]? = some xm_X8_isEntry := by
  unfold x_Pg
  rfl
theorem xe_X8_isEntry_0 {ls : xL} {st : List Value} {h h' : xH} {r : Option Value} (H : x_ev x_nm x_tf x_fn x_Pg x_EV 55 (some .boolean) r h' xb_X8_isEntry_0 0 ls st h) : x_EV 55 0 ls st h r h' := x_Ev_to (M := xm_X8_isEntry) (is := xb_X8_isEntry_0) pg_X8_isEntry (by rfl) H
theorem xK_X8_isEntry {o : Nat} {x1 : Int32} {h h1 : xH} {r : Option Value} {fs : List Value} (ho : h[o]? = some (.inr (7, fs))) (H : x_EV 55 0 [some (.ref o), some (.int x1)] [] h r h1) : xK 55 [.ref o, .int x1] h r h1 := x_calX_v pg_X8_isEntry rfl rfl (Nat.le_of_ble_eq_true rfl) rfl ho H
theorem pg_X8_of : x_Pg[56]? = some xm_X8_of := by
  unfold x_Pg
  rfl
theorem xe_X8_of_0 {ls : xL} {st : List Value} {h h' : xH} {r : Option Value} (H : x_ev x_nm x_tf x_fn x_Pg x_EV 56 (some .int) r h' xb_X8_of_0 0 ls st h) : x_EV 56 0 ls st h r h' := x_Ev_to (M := xm_X8_of) (is := xb_X8_of_0) pg_X8_of (by rfl) H
theorem xe_X8_of_33 {ls : xL} {st : List Value} {h h' : xH} {r : Option Value} (H : x_ev x_nm x_tf x_fn x_Pg x_EV 56 (some .int) r h' xb_X8_of_33 33 ls st h) : x_EV 56 33 ls st h r h' := x_Ev_to (M := xm_X8_of) (is := xb_X8_of_33) pg_X8_of (by rfl) H
theorem xe_X8_of_37 {ls : xL} {st : List Value} {h h' : xH} {r : Option Value} (H : x_ev x_nm x_tf x_fn x_Pg x_EV 56 (some .int) r h' xb_X8_of_37 37 ls st h) : x_EV 56 37 ls st h r h' := x_Ev_to (M := xm_X8_of) (is := xb_X8_of_37) pg_X8_of (by rfl) H
theorem xK_X8_of {o : Nat} {x1 : Int32} {x2 : Int32} {h h1 : xH} {r : Option Value} {fs : List Value} (ho : h[o]? = some (.inr (7, fs))) (H : x_EV 56 0 [some (.ref o), some (.int x1), some (.int x2)] [] h r h1) : xK 56 [.ref o, .int x1, .int x2] h r h1 := x_calX_v pg_X8_of rfl rfl (Nat.le_of_ble_eq_true rfl) rfl ho H
theorem pg_X6_whyNoWord : x_Pg[57]? = some xm_X6_whyNoWord := by
  unfold x_Pg
  rfl
theorem xe_X6_whyNoWord_0 {ls : xL} {st : List Value} {h h' : xH} {r : Option Value} (H : x_ev x_nm x_tf x_fn x_Pg x_EV 57 (some .int) r h' xb_X6_whyNoWord_0 0 ls st h) : x_EV 57 0 ls st h r h' := x_Ev_to (M := xm_X6_whyNoWord) (is := xb_X6_whyNoWord_0) pg_X6_whyNoWord (by rfl) H
theorem xe_X6_whyNoWord_14 {ls : xL} {st : List Value} {h h' : xH} {r : Option Value} (H : x_ev x_nm x_tf x_fn x_Pg x_EV 57 (some .int) r h' xb_X6_whyNoWord_14 14 ls st h) : x_EV 57 14 ls st h r h' := x_Ev_to (M := xm_X6_whyNoWord) (is := xb_X6_whyNoWord_14) pg_X6_whyNoWord (by rfl) H
theorem xe_X6_whyNoWord_31 {ls : xL} {st : List Value} {h h' : xH} {r : Option Value} (H : x_ev x_nm x_tf x_fn x_Pg x_EV 57 (some .int) r h' xb_X6_whyNoWord_31 31 ls st h) : x_EV 57 31 ls st h r h' := x_Ev_to (M := xm_X6_whyNoWord) (is := xb_X6_whyNoWord_31) pg_X6_whyNoWord (by rfl) H
theorem xe_X6_whyNoWord_32 {ls : xL} {st : List Value} {h h' : xH} {r : Option Value} (H : x_ev x_nm x_tf x_fn x_Pg x_EV 57 (some .int) r h' xb_X6_whyNoWord_32 32 ls st h) : x_EV 57 32 ls st h r h' := x_Ev_to (M := xm_X6_whyNoWord) (is := xb_X6_whyNoWord_32) pg_X6_whyNoWord (by rfl) H
theorem xK_X6_whyNoWord {o : Nat} {x1 : Int32} {h h1 : xH} {r : Option Value} {fs : List Value} (ho : h[o]? = some (.inr (5, fs))) (H : x_EV 57 0 [some (.ref o), some (.int x1)] [] h r h1) : xK 57 [.ref o, .int x1] h r h1 := x_calX_v pg_X6_whyNoWord rfl rfl (Nat.le_of_ble_eq_true rfl) rfl ho H
theorem pg_X4_heldRow : x_Pg[58]? = some xm_X4_heldRow := by
  unfold x_Pg
  rfl
theorem xe_X4_heldRow_0 {ls : xL} {st : List Value} {h h' : xH} {r : Option Value} (H : x_ev x_nm x_tf x_fn x_Pg x_EV 58 (some .int) r h' xb_X4_heldRow_0 0 ls st h) : x_EV 58 0 ls st h r h' := x_Ev_to (M := xm_X4_heldRow) (is := xb_X4_heldRow_0) pg_X4_heldRow (by rfl) H
theorem xK_X4_heldRow {o : Nat}  {h h1 : xH} {r : Option Value} {fs : List Value} (ho : h[o]? = some (.inr (3, fs))) (H : x_EV 58 0 [some (.ref o)] [] h r h1) : xK 58 [.ref o] h r h1 := x_calX_v pg_X4_heldRow rfl rfl (Nat.le_of_ble_eq_true rfl) rfl ho H
theorem pg_X4_isStuck : x_Pg[59]? = some xm_X4_isStuck := by
  unfold x_Pg
  rfl
theorem xe_X4_isStuck_0 {ls : xL} {st : List Value} {h h' : xH} {r : Option Value} (H : x_ev x_nm x_tf x_fn x_Pg x_EV 59 (some .boolean) r h' xb_X4_isStuck_0 0 ls st h) : x_EV 59 0 ls st h r h' := x_Ev_to (M := xm_X4_isStuck) (is := xb_X4_isStuck_0) pg_X4_isStuck (by rfl) H
theorem xe_X4_isStuck_19 {ls : xL} {st : List Value} {h h' : xH} {r : Option Value} (H : x_ev x_nm x_tf x_fn x_Pg x_EV 59 (some .boolean) r h' xb_X4_isStuck_19 19 ls st h) : x_EV 59 19 ls st h r h' := x_Ev_to (M := xm_X4_isStuck) (is := xb_X4_isStuck_19) pg_X4_isStuck (by rfl) H
theorem xe_X4_isStuck_20 {ls : xL} {st : List Value} {h h' : xH} {r : Option Value} (H : x_ev x_nm x_tf x_fn x_Pg x_EV 59 (some .boolean) r h' xb_X4_isStuck_20 20 ls st h) : x_EV 59 20 ls st h r h' := x_Ev_to (M := xm_X4_isStuck) (is := xb_X4_isStuck_20) pg_X4_isStuck (by rfl) H
theorem xK_X4_isStuck {o : Nat}  {h h1 : xH} {r : Option Value} {fs : List Value} (ho : h[o]? = some (.inr (3, fs))) (H : x_EV 59 0 [some (.ref o)] [] h r h1) : xK 59 [.ref o] h r h1 := x_calX_v pg_X4_isStuck rfl rfl (Nat.le_of_ble_eq_true rfl) rfl ho H
theorem pg_X2_headOf : x_Pg[60]? = some xm_X2_headOf := by
  unfold x_Pg
  rfl
theorem xe_X2_headOf_0 {ls : xL} {st : List Value} {h h' : xH} {r : Option Value} (H : x_ev x_nm x_tf x_fn x_Pg x_EV 60 (some .int) r h' xb_X2_headOf_0 0 ls st h) : x_EV 60 0 ls st h r h' := x_Ev_to (M := xm_X2_headOf) (is := xb_X2_headOf_0) pg_X2_headOf (by rfl) H
theorem xK_X2_headOf {x1 : Int32} {x2 : Int32} {h h1 : xH} {r : Option Value} (H : x_EV 60 0 [some (.int x1), some (.int x2)] [] h r h1) : xK 60 [.int x1, .int x2] h r h1 := x_calX_s pg_X2_headOf rfl (Nat.le_of_ble_eq_true rfl) rfl H
theorem pg_X2_readingOf : x_Pg[61]? = some xm_X2_readingOf := by
  unfold x_Pg
  rfl
theorem xe_X2_readingOf_0 {ls : xL} {st : List Value} {h h' : xH} {r : Option Value} (H : x_ev x_nm x_tf x_fn x_Pg x_EV 61 (some .int) r h' xb_X2_readingOf_0 0 ls st h) : x_EV 61 0 ls st h r h' := x_Ev_to (M := xm_X2_readingOf) (is := xb_X2_readingOf_0) pg_X2_readingOf (by rfl) H
theorem xK_X2_readingOf {x1 : Int32} {x2 : Int32} {h h1 : xH} {r : Option Value} (H : x_EV 61 0 [some (.int x1), some (.int x2)] [] h r h1) : xK 61 [.int x1, .int x2] h r h1 := x_calX_s pg_X2_readingOf rfl (Nat.le_of_ble_eq_true rfl) rfl H
theorem pg_X0_repairOf : x_Pg[62]? = some xm_X0_repairOf := by
  unfold x_Pg
  rfl
theorem xe_X0_repairOf_0 {ls : xL} {st : List Value} {h h' : xH} {r : Option Value} (H : x_ev x_nm x_tf x_fn x_Pg x_EV 62 (some .int) r h' xb_X0_repairOf_0 0 ls st h) : x_EV 62 0 ls st h r h' := x_Ev_to (M := xm_X0_repairOf) (is := xb_X0_repairOf_0) pg_X0_repairOf (by rfl) H
theorem xe_X0_repairOf_16 {ls : xL} {st : List Value} {h h' : xH} {r : Option Value} (H : x_ev x_nm x_tf x_fn x_Pg x_EV 62 (some .int) r h' xb_X0_repairOf_16 16 ls st h) : x_EV 62 16 ls st h r h' := x_Ev_to (M := xm_X0_repairOf) (is := xb_X0_repairOf_16) pg_X0_repairOf (by rfl) H
theorem xe_X0_repairOf_18 {ls : xL} {st : List Value} {h h' : xH} {r : Option Value} (H : x_ev x_nm x_tf x_fn x_Pg x_EV 62 (some .int) r h' xb_X0_repairOf_18 18 ls st h) : x_EV 62 18 ls st h r h' := x_Ev_to (M := xm_X0_repairOf) (is := xb_X0_repairOf_18) pg_X0_repairOf (by rfl) H
theorem xe_X0_repairOf_59 {ls : xL} {st : List Value} {h h' : xH} {r : Option Value} (H : x_ev x_nm x_tf x_fn x_Pg x_EV 62 (some .int) r h' xb_X0_repairOf_59 59 ls st h) : x_EV 62 59 ls st h r h' := x_Ev_to (M := xm_X0_repairOf) (is := xb_X0_repairOf_59) pg_X0_repairOf (by rfl) H
theorem xe_X0_repairOf_63 {ls : xL} {st : List Value} {h h' : xH} {r : Option Value} (H : x_ev x_nm x_tf x_fn x_Pg x_EV 62 (some .int) r h' xb_X0_repairOf_63 63 ls st h) : x_EV 62 63 ls st h r h' := x_Ev_to (M := xm_X0_repairOf) (is := xb_X0_repairOf_63) pg_X0_repairOf (by rfl) H
theorem xe_X0_repairOf_64 {ls : xL} {st : List Value} {h h' : xH} {r : Option Value} (H : x_ev x_nm x_tf x_fn x_Pg x_EV 62 (some .int) r h' xb_X0_repairOf_64 64 ls st h) : x_EV 62 64 ls st h r h' := x_Ev_to (M := xm_X0_repairOf) (is := xb_X0_repairOf_64) pg_X0_repairOf (by rfl) H
theorem xe_X0_repairOf_80 {ls : xL} {st : List Value} {h h' : xH} {r : Option Value} (H : x_ev x_nm x_tf x_fn x_Pg x_EV 62 (some .int) r h' xb_X0_repairOf_80 80 ls st h) : x_EV 62 80 ls st h r h' := x_Ev_to (M := xm_X0_repairOf) (is := xb_X0_repairOf_80) pg_X0_repairOf (by rfl) H
theorem xe_X0_repairOf_81 {ls : xL} {st : List Value} {h h' : xH} {r : Option Value} (H : x_ev x_nm x_tf x_fn x_Pg x_EV 62 (some .int) r h' xb_X0_repairOf_81 81 ls st h) : x_EV 62 81 ls st h r h' := x_Ev_to (M := xm_X0_repairOf) (is := xb_X0_repairOf_81) pg_X0_repairOf (by rfl) H
theorem xK_X0_repairOf {x1 : Nat} {x2 : Int32} {x3 : Int32} {x4 : Int32} {x5 : Int32} {h h1 : xH} {r : Option Value} (H : x_EV 62 0 [some (.ref x1), some (.int x2), some (.int x3), some (.int x4), some (.int x5), none, none, none, none] [] h r h1) : xK 62 [.ref x1, .int x2, .int x3, .int x4, .int x5] h r h1 := x_calX_s pg_X0_repairOf rfl (Nat.le_of_ble_eq_true rfl) rfl H
theorem pg_X2_part : x_Pg[63]? = some xm_X2_part := by
  unfold x_Pg
  rfl
theorem xe_X2_part_0 {ls : xL} {st : List Value} {h h' : xH} {r : Option Value} (H : x_ev x_nm x_tf x_fn x_Pg x_EV 63 (some .int) r h' xb_X2_part_0 0 ls st h) : x_EV 63 0 ls st h r h' := x_Ev_to (M := xm_X2_part) (is := xb_X2_part_0) pg_X2_part (by rfl) H
theorem xK_X2_part {x1 : Int32} {x2 : Int32} {x3 : Int32} {h h1 : xH} {r : Option Value} (H : x_EV 63 0 [some (.int x1), some (.int x2), some (.int x3)] [] h r h1) : xK 63 [.int x1, .int x2, .int x3] h r h1 := x_calX_s pg_X2_part rfl (Nat.le_of_ble_eq_true rfl) rfl H
theorem pg_X0_costOfLink : x_Pg[64]? = some xm_X0_costOfLink := by
  unfold x_Pg
  rfl
theorem xe_X0_costOfLink_0 {ls : xL} {st : List Value} {h h' : xH} {r : Option Value} (H : x_ev x_nm x_tf x_fn x_Pg x_EV 64 (some .int) r h' xb_X0_costOfLink_0 0 ls st h) : x_EV 64 0 ls st h r h' := x_Ev_to (M := xm_X0_costOfLink) (is := xb_X0_costOfLink_0) pg_X0_costOfLink (by rfl) H
theorem xe_X0_costOfLink_57 {ls : xL} {st : List Value} {h h' : xH} {r : Option Value} (H : x_ev x_nm x_tf x_fn x_Pg x_EV 64 (some .int) r h' xb_X0_costOfLink_57 57 ls st h) : x_EV 64 57 ls st h r h' := x_Ev_to (M := xm_X0_costOfLink) (is := xb_X0_costOfLink_57) pg_X0_costOfLink (by rfl) H
theorem xe_X0_costOfLink_59 {ls : xL} {st : List Value} {h h' : xH} {r : Option Value} (H : x_ev x_nm x_tf x_fn x_Pg x_EV 64 (some .int) r h' xb_X0_costOfLink_59 59 ls st h) : x_EV 64 59 ls st h r h' := x_Ev_to (M := xm_X0_costOfLink) (is := xb_X0_costOfLink_59) pg_X0_costOfLink (by rfl) H
theorem xe_X0_costOfLink_74 {ls : xL} {st : List Value} {h h' : xH} {r : Option Value} (H : x_ev x_nm x_tf x_fn x_Pg x_EV 64 (some .int) r h' xb_X0_costOfLink_74 74 ls st h) : x_EV 64 74 ls st h r h' := x_Ev_to (M := xm_X0_costOfLink) (is := xb_X0_costOfLink_74) pg_X0_costOfLink (by rfl) H
theorem xe_X0_costOfLink_75 {ls : xL} {st : List Value} {h h' : xH} {r : Option Value} (H : x_ev x_nm x_tf x_fn x_Pg x_EV 64 (some .int) r h' xb_X0_costOfLink_75 75 ls st h) : x_EV 64 75 ls st h r h' := x_Ev_to (M := xm_X0_costOfLink) (is := xb_X0_costOfLink_75) pg_X0_costOfLink (by rfl) H
theorem xe_X0_costOfLink_88 {ls : xL} {st : List Value} {h h' : xH} {r : Option Value} (H : x_ev x_nm x_tf x_fn x_Pg x_EV 64 (some .int) r h' xb_X0_costOfLink_88 88 ls st h) : x_EV 64 88 ls st h r h' := x_Ev_to (M := xm_X0_costOfLink) (is := xb_X0_costOfLink_88) pg_X0_costOfLink (by rfl) H
theorem xK_X0_costOfLink {x1 : Nat} {x2 : Int32} {x3 : Int32} {x4 : Int32} {x5 : Int32} {h h1 : xH} {r : Option Value} (H : x_EV 64 0 [some (.ref x1), some (.int x2), some (.int x3), some (.int x4), some (.int x5), none, none, none, none, none, none] [] h r h1) : xK 64 [.ref x1, .int x2, .int x3, .int x4, .int x5] h r h1 := x_calX_s pg_X0_costOfLink rfl (Nat.le_of_ble_eq_true rfl) rfl H
theorem pg_X0_linkPlace : x_Pg[65]? = some xm_X0_linkPlace := by
  unfold x_Pg
  rfl
theorem xe_X0_linkPlace_0 {ls : xL} {st : List Value} {h h' : xH} {r : Option Value} (H : x_ev x_nm x_tf x_fn x_Pg x_EV 65 (some .int) r h' xb_X0_linkPlace_0 0 ls st h) : x_EV 65 0 ls st h r h' := x_Ev_to (M := xm_X0_linkPlace) (is := xb_X0_linkPlace_0) pg_X0_linkPlace (by rfl) H
theorem xK_X0_linkPlace {x1 : Int32} {x2 : Int32} {x3 : Int32} {x4 : Int32} {h h1 : xH} {r : Option Value} (H : x_EV 65 0 [some (.int x1), some (.int x2), some (.int x3), some (.int x4)] [] h r h1) : xK 65 [.int x1, .int x2, .int x3, .int x4] h r h1 := x_calX_s pg_X0_linkPlace rfl (Nat.le_of_ble_eq_true rfl) rfl H
theorem pg_X0_share : x_Pg[66]? = some xm_X0_share := by
  unfold x_Pg
  rfl
theorem xe_X0_share_0 {ls : xL} {st : List Value} {h h' : xH} {r : Option Value} (H : x_ev x_nm x_tf x_fn x_Pg x_EV 66 (some .long) r h' xb_X0_share_0 0 ls st h) : x_EV 66 0 ls st h r h' := x_Ev_to (M := xm_X0_share) (is := xb_X0_share_0) pg_X0_share (by rfl) H
theorem xe_X0_share_9 {ls : xL} {st : List Value} {h h' : xH} {r : Option Value} (H : x_ev x_nm x_tf x_fn x_Pg x_EV 66 (some .long) r h' xb_X0_share_9 9 ls st h) : x_EV 66 9 ls st h r h' := x_Ev_to (M := xm_X0_share) (is := xb_X0_share_9) pg_X0_share (by rfl) H
theorem xK_X0_share {x1 : Int32} {x2 : Int32} {x3 : Int32} {h h1 : xH} {r : Option Value} (H : x_EV 66 0 [some (.int x1), some (.int x2), some (.int x3)] [] h r h1) : xK 66 [.int x1, .int x2, .int x3] h r h1 := x_calX_s pg_X0_share rfl (Nat.le_of_ble_eq_true rfl) rfl H
theorem pg_X0_reckonLinks : x_Pg[67]? = some xm_X0_reckonLinks := by
  unfold x_Pg
  rfl
theorem xe_X0_reckonLinks_0 {ls : xL} {st : List Value} {h h' : xH} {r : Option Value} (H : x_ev x_nm x_tf x_fn x_Pg x_EV 67 none r h' xb_X0_reckonLinks_0 0 ls st h) : x_EV 67 0 ls st h r h' := x_Ev_to (M := xm_X0_reckonLinks) (is := xb_X0_reckonLinks_0) pg_X0_reckonLinks (by rfl) H
theorem xe_X0_reckonLinks_3 {ls : xL} {st : List Value} {h h' : xH} {r : Option Value} (H : x_ev x_nm x_tf x_fn x_Pg x_EV 67 none r h' xb_X0_reckonLinks_3 3 ls st h) : x_EV 67 3 ls st h r h' := x_Ev_to (M := xm_X0_reckonLinks) (is := xb_X0_reckonLinks_3) pg_X0_reckonLinks (by rfl) H
theorem xe_X0_reckonLinks_24 {ls : xL} {st : List Value} {h h' : xH} {r : Option Value} (H : x_ev x_nm x_tf x_fn x_Pg x_EV 67 none r h' xb_X0_reckonLinks_24 24 ls st h) : x_EV 67 24 ls st h r h' := x_Ev_to (M := xm_X0_reckonLinks) (is := xb_X0_reckonLinks_24) pg_X0_reckonLinks (by rfl) H
theorem xe_X0_reckonLinks_27 {ls : xL} {st : List Value} {h h' : xH} {r : Option Value} (H : x_ev x_nm x_tf x_fn x_Pg x_EV 67 none r h' xb_X0_reckonLinks_27 27 ls st h) : x_EV 67 27 ls st h r h' := x_Ev_to (M := xm_X0_reckonLinks) (is := xb_X0_reckonLinks_27) pg_X0_reckonLinks (by rfl) H
theorem xe_X0_reckonLinks_61 {ls : xL} {st : List Value} {h h' : xH} {r : Option Value} (H : x_ev x_nm x_tf x_fn x_Pg x_EV 67 none r h' xb_X0_reckonLinks_61 61 ls st h) : x_EV 67 61 ls st h r h' := x_Ev_to (M := xm_X0_reckonLinks) (is := xb_X0_reckonLinks_61) pg_X0_reckonLinks (by rfl) H
theorem xe_X0_reckonLinks_110 {ls : xL} {st : List Value} {h h' : xH} {r : Option Value} (H : x_ev x_nm x_tf x_fn x_Pg x_EV 67 none r h' xb_X0_reckonLinks_110 110 ls st h) : x_EV 67 110 ls st h r h' := x_Ev_to (M := xm_X0_reckonLinks) (is := xb_X0_reckonLinks_110) pg_X0_reckonLinks (by rfl) H
theorem xe_X0_reckonLinks_116 {ls : xL} {st : List Value} {h h' : xH} {r : Option Value} (H : x_ev x_nm x_tf x_fn x_Pg x_EV 67 none r h' xb_X0_reckonLinks_116 116 ls st h) : x_EV 67 116 ls st h r h' := x_Ev_to (M := xm_X0_reckonLinks) (is := xb_X0_reckonLinks_116) pg_X0_reckonLinks (by rfl) H
theorem xe_X0_reckonLinks_122 {ls : xL} {st : List Value} {h h' : xH} {r : Option Value} (H : x_ev x_nm x_tf x_fn x_Pg x_EV 67 none r h' xb_X0_reckonLinks_122 122 ls st h) : x_EV 67 122 ls st h r h' := x_Ev_to (M := xm_X0_reckonLinks) (is := xb_X0_reckonLinks_122) pg_X0_reckonLinks (by rfl) H
theorem xK_X0_reckonLinks {o : Nat} {x1 : Nat} {x2 : Int32} {x3 : Int32} {h h1 : xH} {r : Option Value} {fs : List Value} (ho : h[o]? = some (.inr (0, fs))) (H : x_EV 67 0 [some (.ref o), some (.ref x1), some (.int x2), some (.int x3), none, none, none, none, none, none] [] h r h1) : xK 67 [.ref o, .ref x1, .int x2, .int x3] h r h1 := x_calX_v pg_X0_reckonLinks rfl rfl (Nat.le_of_ble_eq_true rfl) rfl ho H
theorem pg_X0_reckonTree : x_Pg[68]? = some xm_X0_reckonTree := by
  unfold x_Pg
  rfl
theorem xe_X0_reckonTree_0 {ls : xL} {st : List Value} {h h' : xH} {r : Option Value} (H : x_ev x_nm x_tf x_fn x_Pg x_EV 68 none r h' xb_X0_reckonTree_0 0 ls st h) : x_EV 68 0 ls st h r h' := x_Ev_to (M := xm_X0_reckonTree) (is := xb_X0_reckonTree_0) pg_X0_reckonTree (by rfl) H
theorem xe_X0_reckonTree_11 {ls : xL} {st : List Value} {h h' : xH} {r : Option Value} (H : x_ev x_nm x_tf x_fn x_Pg x_EV 68 none r h' xb_X0_reckonTree_11 11 ls st h) : x_EV 68 11 ls st h r h' := x_Ev_to (M := xm_X0_reckonTree) (is := xb_X0_reckonTree_11) pg_X0_reckonTree (by rfl) H
theorem xe_X0_reckonTree_20 {ls : xL} {st : List Value} {h h' : xH} {r : Option Value} (H : x_ev x_nm x_tf x_fn x_Pg x_EV 68 none r h' xb_X0_reckonTree_20 20 ls st h) : x_EV 68 20 ls st h r h' := x_Ev_to (M := xm_X0_reckonTree) (is := xb_X0_reckonTree_20) pg_X0_reckonTree (by rfl) H
theorem xe_X0_reckonTree_125 {ls : xL} {st : List Value} {h h' : xH} {r : Option Value} (H : x_ev x_nm x_tf x_fn x_Pg x_EV 68 none r h' xb_X0_reckonTree_125 125 ls st h) : x_EV 68 125 ls st h r h' := x_Ev_to (M := xm_X0_reckonTree) (is := xb_X0_reckonTree_125) pg_X0_reckonTree (by rfl) H
theorem xe_X0_reckonTree_131 {ls : xL} {st : List Value} {h h' : xH} {r : Option Value} (H : x_ev x_nm x_tf x_fn x_Pg x_EV 68 none r h' xb_X0_reckonTree_131 131 ls st h) : x_EV 68 131 ls st h r h' := x_Ev_to (M := xm_X0_reckonTree) (is := xb_X0_reckonTree_131) pg_X0_reckonTree (by rfl) H
theorem xe_X0_reckonTree_137 {ls : xL} {st : List Value} {h h' : xH} {r : Option Value} (H : x_ev x_nm x_tf x_fn x_Pg x_EV 68 none r h' xb_X0_reckonTree_137 137 ls st h) : x_EV 68 137 ls st h r h' := x_Ev_to (M := xm_X0_reckonTree) (is := xb_X0_reckonTree_137) pg_X0_reckonTree (by rfl) H
theorem xK_X0_reckonTree {o : Nat} {x1 : Int32} {x2 : Int32} {x3 : Int32} {x4 : Int32} {h h1 : xH} {r : Option Value} {fs : List Value} (ho : h[o]? = some (.inr (0, fs))) (H : x_EV 68 0 [some (.ref o), some (.int x1), some (.int x2), some (.int x3), some (.int x4), none, none, none, none, none, none, none, none, none] [] h r h1) : xK 68 [.ref o, .int x1, .int x2, .int x3, .int x4] h r h1 := x_calX_v pg_X0_reckonTree rfl rfl (Nat.le_of_ble_eq_true rfl) rfl ho H
theorem pg_X0_reckonTrees : x_Pg[69]? = some xm_X0_reckonTrees := by
  unfold x_Pg
  rfl
theorem xe_X0_reckonTrees_0 {ls : xL} {st : List Value} {h h' : xH} {r : Option Value} (H : x_ev x_nm x_tf x_fn x_Pg x_EV 69 none r h' xb_X0_reckonTrees_0 0 ls st h) : x_EV 69 0 ls st h r h' := x_Ev_to (M := xm_X0_reckonTrees) (is := xb_X0_reckonTrees_0) pg_X0_reckonTrees (by rfl) H
theorem xe_X0_reckonTrees_11 {ls : xL} {st : List Value} {h h' : xH} {r : Option Value} (H : x_ev x_nm x_tf x_fn x_Pg x_EV 69 none r h' xb_X0_reckonTrees_11 11 ls st h) : x_EV 69 11 ls st h r h' := x_Ev_to (M := xm_X0_reckonTrees) (is := xb_X0_reckonTrees_11) pg_X0_reckonTrees (by rfl) H
theorem xe_X0_reckonTrees_89 {ls : xL} {st : List Value} {h h' : xH} {r : Option Value} (H : x_ev x_nm x_tf x_fn x_Pg x_EV 69 none r h' xb_X0_reckonTrees_89 89 ls st h) : x_EV 69 89 ls st h r h' := x_Ev_to (M := xm_X0_reckonTrees) (is := xb_X0_reckonTrees_89) pg_X0_reckonTrees (by rfl) H
theorem xK_X0_reckonTrees {o : Nat} {x1 : Int32} {x2 : Int32} {x3 : Int32} {x4 : Int32} {h h1 : xH} {r : Option Value} {fs : List Value} (ho : h[o]? = some (.inr (0, fs))) (H : x_EV 69 0 [some (.ref o), some (.int x1), some (.int x2), some (.int x3), some (.int x4), none, none, none, none, none, none] [] h r h1) : xK 69 [.ref o, .int x1, .int x2, .int x3, .int x4] h r h1 := x_calX_v pg_X0_reckonTrees rfl rfl (Nat.le_of_ble_eq_true rfl) rfl ho H
theorem pg_X0_reckonSpan : x_Pg[70]? = some xm_X0_reckonSpan := by
  unfold x_Pg
  rfl
theorem xe_X0_reckonSpan_0 {ls : xL} {st : List Value} {h h' : xH} {r : Option Value} (H : x_ev x_nm x_tf x_fn x_Pg x_EV 70 none r h' xb_X0_reckonSpan_0 0 ls st h) : x_EV 70 0 ls st h r h' := x_Ev_to (M := xm_X0_reckonSpan) (is := xb_X0_reckonSpan_0) pg_X0_reckonSpan (by rfl) H
theorem xe_X0_reckonSpan_3 {ls : xL} {st : List Value} {h h' : xH} {r : Option Value} (H : x_ev x_nm x_tf x_fn x_Pg x_EV 70 none r h' xb_X0_reckonSpan_3 3 ls st h) : x_EV 70 3 ls st h r h' := x_Ev_to (M := xm_X0_reckonSpan) (is := xb_X0_reckonSpan_3) pg_X0_reckonSpan (by rfl) H
theorem xe_X0_reckonSpan_24 {ls : xL} {st : List Value} {h h' : xH} {r : Option Value} (H : x_ev x_nm x_tf x_fn x_Pg x_EV 70 none r h' xb_X0_reckonSpan_24 24 ls st h) : x_EV 70 24 ls st h r h' := x_Ev_to (M := xm_X0_reckonSpan) (is := xb_X0_reckonSpan_24) pg_X0_reckonSpan (by rfl) H
theorem xe_X0_reckonSpan_27 {ls : xL} {st : List Value} {h h' : xH} {r : Option Value} (H : x_ev x_nm x_tf x_fn x_Pg x_EV 70 none r h' xb_X0_reckonSpan_27 27 ls st h) : x_EV 70 27 ls st h r h' := x_Ev_to (M := xm_X0_reckonSpan) (is := xb_X0_reckonSpan_27) pg_X0_reckonSpan (by rfl) H
theorem xe_X0_reckonSpan_59 {ls : xL} {st : List Value} {h h' : xH} {r : Option Value} (H : x_ev x_nm x_tf x_fn x_Pg x_EV 70 none r h' xb_X0_reckonSpan_59 59 ls st h) : x_EV 70 59 ls st h r h' := x_Ev_to (M := xm_X0_reckonSpan) (is := xb_X0_reckonSpan_59) pg_X0_reckonSpan (by rfl) H
theorem xe_X0_reckonSpan_65 {ls : xL} {st : List Value} {h h' : xH} {r : Option Value} (H : x_ev x_nm x_tf x_fn x_Pg x_EV 70 none r h' xb_X0_reckonSpan_65 65 ls st h) : x_EV 70 65 ls st h r h' := x_Ev_to (M := xm_X0_reckonSpan) (is := xb_X0_reckonSpan_65) pg_X0_reckonSpan (by rfl) H
theorem xK_X0_reckonSpan {o : Nat} {x1 : Int32} {x2 : Int32} {x3 : Int32} {h h1 : xH} {r : Option Value} {fs : List Value} (ho : h[o]? = some (.inr (0, fs))) (H : x_EV 70 0 [some (.ref o), some (.int x1), some (.int x2), some (.int x3), none, none] [] h r h1) : xK 70 [.ref o, .int x1, .int x2, .int x3] h r h1 := x_calX_v pg_X0_reckonSpan rfl rfl (Nat.le_of_ble_eq_true rfl) rfl ho H
theorem pg_X0_costOfRoot : x_Pg[71]? = some xm_X0_costOfRoot := by
  unfold x_Pg
  rfl
theorem xe_X0_costOfRoot_0 {ls : xL} {st : List Value} {h h' : xH} {r : Option Value} (H : x_ev x_nm x_tf x_fn x_Pg x_EV 71 (some .int) r h' xb_X0_costOfRoot_0 0 ls st h) : x_EV 71 0 ls st h r h' := x_Ev_to (M := xm_X0_costOfRoot) (is := xb_X0_costOfRoot_0) pg_X0_costOfRoot (by rfl) H
theorem xe_X0_costOfRoot_41 {ls : xL} {st : List Value} {h h' : xH} {r : Option Value} (H : x_ev x_nm x_tf x_fn x_Pg x_EV 71 (some .int) r h' xb_X0_costOfRoot_41 41 ls st h) : x_EV 71 41 ls st h r h' := x_Ev_to (M := xm_X0_costOfRoot) (is := xb_X0_costOfRoot_41) pg_X0_costOfRoot (by rfl) H
theorem xe_X0_costOfRoot_43 {ls : xL} {st : List Value} {h h' : xH} {r : Option Value} (H : x_ev x_nm x_tf x_fn x_Pg x_EV 71 (some .int) r h' xb_X0_costOfRoot_43 43 ls st h) : x_EV 71 43 ls st h r h' := x_Ev_to (M := xm_X0_costOfRoot) (is := xb_X0_costOfRoot_43) pg_X0_costOfRoot (by rfl) H
theorem xK_X0_costOfRoot {x1 : Nat} {x2 : Int32} {x3 : Int32} {h h1 : xH} {r : Option Value} (H : x_EV 71 0 [some (.ref x1), some (.int x2), some (.int x3), none, none] [] h r h1) : xK 71 [.ref x1, .int x2, .int x3] h r h1 := x_calX_s pg_X0_costOfRoot rfl (Nat.le_of_ble_eq_true rfl) rfl H
theorem pg_X0_reckonRoots : x_Pg[72]? = some xm_X0_reckonRoots := by
  unfold x_Pg
  rfl
theorem xe_X0_reckonRoots_0 {ls : xL} {st : List Value} {h h' : xH} {r : Option Value} (H : x_ev x_nm x_tf x_fn x_Pg x_EV 72 none r h' xb_X0_reckonRoots_0 0 ls st h) : x_EV 72 0 ls st h r h' := x_Ev_to (M := xm_X0_reckonRoots) (is := xb_X0_reckonRoots_0) pg_X0_reckonRoots (by rfl) H
theorem xe_X0_reckonRoots_23 {ls : xL} {st : List Value} {h h' : xH} {r : Option Value} (H : x_ev x_nm x_tf x_fn x_Pg x_EV 72 none r h' xb_X0_reckonRoots_23 23 ls st h) : x_EV 72 23 ls st h r h' := x_Ev_to (M := xm_X0_reckonRoots) (is := xb_X0_reckonRoots_23) pg_X0_reckonRoots (by rfl) H
theorem xe_X0_reckonRoots_32 {ls : xL} {st : List Value} {h h' : xH} {r : Option Value} (H : x_ev x_nm x_tf x_fn x_Pg x_EV 72 none r h' xb_X0_reckonRoots_32 32 ls st h) : x_EV 72 32 ls st h r h' := x_Ev_to (M := xm_X0_reckonRoots) (is := xb_X0_reckonRoots_32) pg_X0_reckonRoots (by rfl) H
theorem xe_X0_reckonRoots_167 {ls : xL} {st : List Value} {h h' : xH} {r : Option Value} (H : x_ev x_nm x_tf x_fn x_Pg x_EV 72 none r h' xb_X0_reckonRoots_167 167 ls st h) : x_EV 72 167 ls st h r h' := x_Ev_to (M := xm_X0_reckonRoots) (is := xb_X0_reckonRoots_167) pg_X0_reckonRoots (by rfl) H
theorem xe_X0_reckonRoots_173 {ls : xL} {st : List Value} {h h' : xH} {r : Option Value} (H : x_ev x_nm x_tf x_fn x_Pg x_EV 72 none r h' xb_X0_reckonRoots_173 173 ls st h) : x_EV 72 173 ls st h r h' := x_Ev_to (M := xm_X0_reckonRoots) (is := xb_X0_reckonRoots_173) pg_X0_reckonRoots (by rfl) H
theorem xe_X0_reckonRoots_179 {ls : xL} {st : List Value} {h h' : xH} {r : Option Value} (H : x_ev x_nm x_tf x_fn x_Pg x_EV 72 none r h' xb_X0_reckonRoots_179 179 ls st h) : x_EV 72 179 ls st h r h' := x_Ev_to (M := xm_X0_reckonRoots) (is := xb_X0_reckonRoots_179) pg_X0_reckonRoots (by rfl) H
theorem xK_X0_reckonRoots {o : Nat} {x1 : Nat} {x2 : Int32} {h h1 : xH} {r : Option Value} {fs : List Value} (ho : h[o]? = some (.inr (0, fs))) (H : x_EV 72 0 [some (.ref o), some (.ref x1), some (.int x2), none, none, none, none, none, none, none, none, none] [] h r h1) : xK 72 [.ref o, .ref x1, .int x2] h r h1 := x_calX_v pg_X0_reckonRoots rfl rfl (Nat.le_of_ble_eq_true rfl) rfl ho H
theorem pg_X0_reckon : x_Pg[73]? = some xm_X0_reckon := by
  unfold x_Pg
  rfl
theorem xe_X0_reckon_0 {ls : xL} {st : List Value} {h h' : xH} {r : Option Value} (H : x_ev x_nm x_tf x_fn x_Pg x_EV 73 none r h' xb_X0_reckon_0 0 ls st h) : x_EV 73 0 ls st h r h' := x_Ev_to (M := xm_X0_reckon) (is := xb_X0_reckon_0) pg_X0_reckon (by rfl) H
theorem xe_X0_reckon_11 {ls : xL} {st : List Value} {h h' : xH} {r : Option Value} (H : x_ev x_nm x_tf x_fn x_Pg x_EV 73 none r h' xb_X0_reckon_11 11 ls st h) : x_EV 73 11 ls st h r h' := x_Ev_to (M := xm_X0_reckon) (is := xb_X0_reckon_11) pg_X0_reckon (by rfl) H
theorem xe_X0_reckon_31 {ls : xL} {st : List Value} {h h' : xH} {r : Option Value} (H : x_ev x_nm x_tf x_fn x_Pg x_EV 73 none r h' xb_X0_reckon_31 31 ls st h) : x_EV 73 31 ls st h r h' := x_Ev_to (M := xm_X0_reckon) (is := xb_X0_reckon_31) pg_X0_reckon (by rfl) H
theorem xe_X0_reckon_34 {ls : xL} {st : List Value} {h h' : xH} {r : Option Value} (H : x_ev x_nm x_tf x_fn x_Pg x_EV 73 none r h' xb_X0_reckon_34 34 ls st h) : x_EV 73 34 ls st h r h' := x_Ev_to (M := xm_X0_reckon) (is := xb_X0_reckon_34) pg_X0_reckon (by rfl) H
theorem xe_X0_reckon_43 {ls : xL} {st : List Value} {h h' : xH} {r : Option Value} (H : x_ev x_nm x_tf x_fn x_Pg x_EV 73 none r h' xb_X0_reckon_43 43 ls st h) : x_EV 73 43 ls st h r h' := x_Ev_to (M := xm_X0_reckon) (is := xb_X0_reckon_43) pg_X0_reckon (by rfl) H
theorem xe_X0_reckon_74 {ls : xL} {st : List Value} {h h' : xH} {r : Option Value} (H : x_ev x_nm x_tf x_fn x_Pg x_EV 73 none r h' xb_X0_reckon_74 74 ls st h) : x_EV 73 74 ls st h r h' := x_Ev_to (M := xm_X0_reckon) (is := xb_X0_reckon_74) pg_X0_reckon (by rfl) H
theorem xe_X0_reckon_80 {ls : xL} {st : List Value} {h h' : xH} {r : Option Value} (H : x_ev x_nm x_tf x_fn x_Pg x_EV 73 none r h' xb_X0_reckon_80 80 ls st h) : x_EV 73 80 ls st h r h' := x_Ev_to (M := xm_X0_reckon) (is := xb_X0_reckon_80) pg_X0_reckon (by rfl) H
theorem xK_X0_reckon {o : Nat} {x1 : Nat} {x2 : Int32} {h h1 : xH} {r : Option Value} {fs : List Value} (ho : h[o]? = some (.inr (0, fs))) (H : x_EV 73 0 [some (.ref o), some (.ref x1), some (.int x2), none, none, none] [] h r h1) : xK 73 [.ref o, .ref x1, .int x2] h r h1 := x_calX_v pg_X0_reckon rfl rfl (Nat.le_of_ble_eq_true rfl) rfl ho H
theorem pg_X0_hasAnalysis : x_Pg[74]? = some xm_X0_hasAnalysis := by
  unfold x_Pg
  rfl
theorem xe_X0_hasAnalysis_0 {ls : xL} {st : List Value} {h h' : xH} {r : Option Value} (H : x_ev x_nm x_tf x_fn x_Pg x_EV 74 (some .boolean) r h' xb_X0_hasAnalysis_0 0 ls st h) : x_EV 74 0 ls st h r h' := x_Ev_to (M := xm_X0_hasAnalysis) (is := xb_X0_hasAnalysis_0) pg_X0_hasAnalysis (by rfl) H
theorem xe_X0_hasAnalysis_11 {ls : xL} {st : List Value} {h h' : xH} {r : Option Value} (H : x_ev x_nm x_tf x_fn x_Pg x_EV 74 (some .boolean) r h' xb_X0_hasAnalysis_11 11 ls st h) : x_EV 74 11 ls st h r h' := x_Ev_to (M := xm_X0_hasAnalysis) (is := xb_X0_hasAnalysis_11) pg_X0_hasAnalysis (by rfl) H
theorem xe_X0_hasAnalysis_12 {ls : xL} {st : List Value} {h h' : xH} {r : Option Value} (H : x_ev x_nm x_tf x_fn x_Pg x_EV 74 (some .boolean) r h' xb_X0_hasAnalysis_12 12 ls st h) : x_EV 74 12 ls st h r h' := x_Ev_to (M := xm_X0_hasAnalysis) (is := xb_X0_hasAnalysis_12) pg_X0_hasAnalysis (by rfl) H
theorem xK_X0_hasAnalysis {o : Nat}  {h h1 : xH} {r : Option Value} {fs : List Value} (ho : h[o]? = some (.inr (0, fs))) (H : x_EV 74 0 [some (.ref o)] [] h r h1) : xK 74 [.ref o] h r h1 := x_calX_v pg_X0_hasAnalysis rfl rfl (Nat.le_of_ble_eq_true rfl) rfl ho H
theorem pg_X4_putReckoned : x_Pg[75]? = some xm_X4_putReckoned := by
  unfold x_Pg
  rfl
theorem xe_X4_putReckoned_0 {ls : xL} {st : List Value} {h h' : xH} {r : Option Value} (H : x_ev x_nm x_tf x_fn x_Pg x_EV 75 none r h' xb_X4_putReckoned_0 0 ls st h) : x_EV 75 0 ls st h r h' := x_Ev_to (M := xm_X4_putReckoned) (is := xb_X4_putReckoned_0) pg_X4_putReckoned (by rfl) H
theorem xK_X4_putReckoned {o : Nat} {x1 : Int32} {x2 : Int32} {x3 : Int32} {x4 : Int32} {h h1 : xH} {r : Option Value} {fs : List Value} (ho : h[o]? = some (.inr (3, fs))) (H : x_EV 75 0 [some (.ref o), some (.int x1), some (.int x2), some (.int x3), some (.int x4)] [] h r h1) : xK 75 [.ref o, .int x1, .int x2, .int x3, .int x4] h r h1 := x_calX_v pg_X4_putReckoned rfl rfl (Nat.le_of_ble_eq_true rfl) rfl ho H
theorem pg_X0_leastRepair : x_Pg[76]? = some xm_X0_leastRepair := by
  unfold x_Pg
  rfl
theorem xe_X0_leastRepair_0 {ls : xL} {st : List Value} {h h' : xH} {r : Option Value} (H : x_ev x_nm x_tf x_fn x_Pg x_EV 76 (some .int) r h' xb_X0_leastRepair_0 0 ls st h) : x_EV 76 0 ls st h r h' := x_Ev_to (M := xm_X0_leastRepair) (is := xb_X0_leastRepair_0) pg_X0_leastRepair (by rfl) H
theorem xK_X0_leastRepair {o : Nat}  {h h1 : xH} {r : Option Value} {fs : List Value} (ho : h[o]? = some (.inr (0, fs))) (H : x_EV 76 0 [some (.ref o)] [] h r h1) : xK 76 [.ref o] h r h1 := x_calX_v pg_X0_leastRepair rfl rfl (Nat.le_of_ble_eq_true rfl) rfl ho H
theorem pg_X0_leastRow : x_Pg[77]? = some xm_X0_leastRow := by
  unfold x_Pg
  rfl
theorem xe_X0_leastRow_0 {ls : xL} {st : List Value} {h h' : xH} {r : Option Value} (H : x_ev x_nm x_tf x_fn x_Pg x_EV 77 (some .int) r h' xb_X0_leastRow_0 0 ls st h) : x_EV 77 0 ls st h r h' := x_Ev_to (M := xm_X0_leastRow) (is := xb_X0_leastRow_0) pg_X0_leastRow (by rfl) H
theorem xK_X0_leastRow {o : Nat}  {h h1 : xH} {r : Option Value} {fs : List Value} (ho : h[o]? = some (.inr (0, fs))) (H : x_EV 77 0 [some (.ref o)] [] h r h1) : xK 77 [.ref o] h r h1 := x_calX_v pg_X0_leastRow rfl rfl (Nat.le_of_ble_eq_true rfl) rfl ho H
theorem pg_X0_leastCost : x_Pg[78]? = some xm_X0_leastCost := by
  unfold x_Pg
  rfl
theorem xe_X0_leastCost_0 {ls : xL} {st : List Value} {h h' : xH} {r : Option Value} (H : x_ev x_nm x_tf x_fn x_Pg x_EV 78 (some .int) r h' xb_X0_leastCost_0 0 ls st h) : x_EV 78 0 ls st h r h' := x_Ev_to (M := xm_X0_leastCost) (is := xb_X0_leastCost_0) pg_X0_leastCost (by rfl) H
theorem xK_X0_leastCost {o : Nat}  {h h1 : xH} {r : Option Value} {fs : List Value} (ho : h[o]? = some (.inr (0, fs))) (H : x_EV 78 0 [some (.ref o)] [] h r h1) : xK 78 [.ref o] h r h1 := x_calX_v pg_X0_leastCost rfl rfl (Nat.le_of_ble_eq_true rfl) rfl ho H
theorem pg_X6_hear : x_Pg[79]? = some xm_X6_hear := by
  unfold x_Pg
  rfl
theorem xe_X6_hear_0 {ls : xL} {st : List Value} {h h' : xH} {r : Option Value} (H : x_ev x_nm x_tf x_fn x_Pg x_EV 79 none r h' xb_X6_hear_0 0 ls st h) : x_EV 79 0 ls st h r h' := x_Ev_to (M := xm_X6_hear) (is := xb_X6_hear_0) pg_X6_hear (by rfl) H
theorem xe_X6_hear_55 {ls : xL} {st : List Value} {h h' : xH} {r : Option Value} (H : x_ev x_nm x_tf x_fn x_Pg x_EV 79 none r h' xb_X6_hear_55 55 ls st h) : x_EV 79 55 ls st h r h' := x_Ev_to (M := xm_X6_hear) (is := xb_X6_hear_55) pg_X6_hear (by rfl) H
theorem xe_X6_hear_66 {ls : xL} {st : List Value} {h h' : xH} {r : Option Value} (H : x_ev x_nm x_tf x_fn x_Pg x_EV 79 none r h' xb_X6_hear_66 66 ls st h) : x_EV 79 66 ls st h r h' := x_Ev_to (M := xm_X6_hear) (is := xb_X6_hear_66) pg_X6_hear (by rfl) H
theorem xe_X6_hear_78 {ls : xL} {st : List Value} {h h' : xH} {r : Option Value} (H : x_ev x_nm x_tf x_fn x_Pg x_EV 79 none r h' xb_X6_hear_78 78 ls st h) : x_EV 79 78 ls st h r h' := x_Ev_to (M := xm_X6_hear) (is := xb_X6_hear_78) pg_X6_hear (by rfl) H
theorem xe_X6_hear_102 {ls : xL} {st : List Value} {h h' : xH} {r : Option Value} (H : x_ev x_nm x_tf x_fn x_Pg x_EV 79 none r h' xb_X6_hear_102 102 ls st h) : x_EV 79 102 ls st h r h' := x_Ev_to (M := xm_X6_hear) (is := xb_X6_hear_102) pg_X6_hear (by rfl) H
theorem xe_X6_hear_103 {ls : xL} {st : List Value} {h h' : xH} {r : Option Value} (H : x_ev x_nm x_tf x_fn x_Pg x_EV 79 none r h' xb_X6_hear_103 103 ls st h) : x_EV 79 103 ls st h r h' := x_Ev_to (M := xm_X6_hear) (is := xb_X6_hear_103) pg_X6_hear (by rfl) H
theorem xK_X6_hear {o : Nat} {x1 : Int32} {x2 : Nat} {h h1 : xH} {r : Option Value} {fs : List Value} (ho : h[o]? = some (.inr (5, fs))) (H : x_EV 79 0 [some (.ref o), some (.int x1), some (.ref x2), none, none, none] [] h r h1) : xK 79 [.ref o, .int x1, .ref x2] h r h1 := x_calX_v pg_X6_hear rfl rfl (Nat.le_of_ble_eq_true rfl) rfl ho H
theorem pg_X7_hears : x_Pg[80]? = some xm_X7_hears := by
  unfold x_Pg
  rfl
theorem xe_X7_hears_0 {ls : xL} {st : List Value} {h h' : xH} {r : Option Value} (H : x_ev x_nm x_tf x_fn x_Pg x_EV 80 (some .int) r h' xb_X7_hears_0 0 ls st h) : x_EV 80 0 ls st h r h' := x_Ev_to (M := xm_X7_hears) (is := xb_X7_hears_0) pg_X7_hears (by rfl) H
theorem xe_X7_hears_19 {ls : xL} {st : List Value} {h h' : xH} {r : Option Value} (H : x_ev x_nm x_tf x_fn x_Pg x_EV 80 (some .int) r h' xb_X7_hears_19 19 ls st h) : x_EV 80 19 ls st h r h' := x_Ev_to (M := xm_X7_hears) (is := xb_X7_hears_19) pg_X7_hears (by rfl) H
theorem xe_X7_hears_61 {ls : xL} {st : List Value} {h h' : xH} {r : Option Value} (H : x_ev x_nm x_tf x_fn x_Pg x_EV 80 (some .int) r h' xb_X7_hears_61 61 ls st h) : x_EV 80 61 ls st h r h' := x_Ev_to (M := xm_X7_hears) (is := xb_X7_hears_61) pg_X7_hears (by rfl) H
theorem xe_X7_hears_70 {ls : xL} {st : List Value} {h h' : xH} {r : Option Value} (H : x_ev x_nm x_tf x_fn x_Pg x_EV 80 (some .int) r h' xb_X7_hears_70 70 ls st h) : x_EV 80 70 ls st h r h' := x_Ev_to (M := xm_X7_hears) (is := xb_X7_hears_70) pg_X7_hears (by rfl) H
theorem xK_X7_hears {o : Nat} {x1 : Int32} {h h1 : xH} {r : Option Value} {fs : List Value} (ho : h[o]? = some (.inr (6, fs))) (H : x_EV 80 0 [some (.ref o), some (.int x1), none, none] [] h r h1) : xK 80 [.ref o, .int x1] h r h1 := x_calX_v pg_X7_hears rfl rfl (Nat.le_of_ble_eq_true rfl) rfl ho H
theorem pg_X8_wordAt : x_Pg[81]? = some xm_X8_wordAt := by
  unfold x_Pg
  rfl
theorem xe_X8_wordAt_0 {ls : xL} {st : List Value} {h h' : xH} {r : Option Value} (H : x_ev x_nm x_tf x_fn x_Pg x_EV 81 (some .int) r h' xb_X8_wordAt_0 0 ls st h) : x_EV 81 0 ls st h r h' := x_Ev_to (M := xm_X8_wordAt) (is := xb_X8_wordAt_0) pg_X8_wordAt (by rfl) H
theorem xK_X8_wordAt {o : Nat} {x1 : Int32} {h h1 : xH} {r : Option Value} {fs : List Value} (ho : h[o]? = some (.inr (7, fs))) (H : x_EV 81 0 [some (.ref o), some (.int x1)] [] h r h1) : xK 81 [.ref o, .int x1] h r h1 := x_calX_v pg_X8_wordAt rfl rfl (Nat.le_of_ble_eq_true rfl) rfl ho H
theorem pg_X8_holds : x_Pg[82]? = some xm_X8_holds := by
  unfold x_Pg
  rfl
theorem xe_X8_holds_0 {ls : xL} {st : List Value} {h h' : xH} {r : Option Value} (H : x_ev x_nm x_tf x_fn x_Pg x_EV 82 (some .boolean) r h' xb_X8_holds_0 0 ls st h) : x_EV 82 0 ls st h r h' := x_Ev_to (M := xm_X8_holds) (is := xb_X8_holds_0) pg_X8_holds (by rfl) H
theorem xe_X8_holds_23 {ls : xL} {st : List Value} {h h' : xH} {r : Option Value} (H : x_ev x_nm x_tf x_fn x_Pg x_EV 82 (some .boolean) r h' xb_X8_holds_23 23 ls st h) : x_EV 82 23 ls st h r h' := x_Ev_to (M := xm_X8_holds) (is := xb_X8_holds_23) pg_X8_holds (by rfl) H
theorem xe_X8_holds_24 {ls : xL} {st : List Value} {h h' : xH} {r : Option Value} (H : x_ev x_nm x_tf x_fn x_Pg x_EV 82 (some .boolean) r h' xb_X8_holds_24 24 ls st h) : x_EV 82 24 ls st h r h' := x_Ev_to (M := xm_X8_holds) (is := xb_X8_holds_24) pg_X8_holds (by rfl) H
theorem xK_X8_holds {o : Nat} {x1 : Int32} {h h1 : xH} {r : Option Value} {fs : List Value} (ho : h[o]? = some (.inr (7, fs))) (H : x_EV 82 0 [some (.ref o), some (.int x1)] [] h r h1) : xK 82 [.ref o, .int x1] h r h1 := x_calX_v pg_X8_holds rfl rfl (Nat.le_of_ble_eq_true rfl) rfl ho H
theorem pg_X8_laysHeld : x_Pg[83]? = some xm_X8_laysHeld := by
  unfold x_Pg
  rfl
theorem xe_X8_laysHeld_0 {ls : xL} {st : List Value} {h h' : xH} {r : Option Value} (H : x_ev x_nm x_tf x_fn x_Pg x_EV 83 none r h' xb_X8_laysHeld_0 0 ls st h) : x_EV 83 0 ls st h r h' := x_Ev_to (M := xm_X8_laysHeld) (is := xb_X8_laysHeld_0) pg_X8_laysHeld (by rfl) H
theorem xe_X8_laysHeld_15 {ls : xL} {st : List Value} {h h' : xH} {r : Option Value} (H : x_ev x_nm x_tf x_fn x_Pg x_EV 83 none r h' xb_X8_laysHeld_15 15 ls st h) : x_EV 83 15 ls st h r h' := x_Ev_to (M := xm_X8_laysHeld) (is := xb_X8_laysHeld_15) pg_X8_laysHeld (by rfl) H
theorem xe_X8_laysHeld_59 {ls : xL} {st : List Value} {h h' : xH} {r : Option Value} (H : x_ev x_nm x_tf x_fn x_Pg x_EV 83 none r h' xb_X8_laysHeld_59 59 ls st h) : x_EV 83 59 ls st h r h' := x_Ev_to (M := xm_X8_laysHeld) (is := xb_X8_laysHeld_59) pg_X8_laysHeld (by rfl) H
theorem xK_X8_laysHeld {o : Nat} {x1 : Int32} {h h1 : xH} {r : Option Value} {fs : List Value} (ho : h[o]? = some (.inr (7, fs))) (H : x_EV 83 0 [some (.ref o), some (.int x1), none, none, none] [] h r h1) : xK 83 [.ref o, .int x1] h r h1 := x_calX_v pg_X8_laysHeld rfl rfl (Nat.le_of_ble_eq_true rfl) rfl ho H
theorem pg_X8_laysAhead : x_Pg[84]? = some xm_X8_laysAhead := by
  unfold x_Pg
  rfl
theorem xe_X8_laysAhead_0 {ls : xL} {st : List Value} {h h' : xH} {r : Option Value} (H : x_ev x_nm x_tf x_fn x_Pg x_EV 84 none r h' xb_X8_laysAhead_0 0 ls st h) : x_EV 84 0 ls st h r h' := x_Ev_to (M := xm_X8_laysAhead) (is := xb_X8_laysAhead_0) pg_X8_laysAhead (by rfl) H
theorem xe_X8_laysAhead_9 {ls : xL} {st : List Value} {h h' : xH} {r : Option Value} (H : x_ev x_nm x_tf x_fn x_Pg x_EV 84 none r h' xb_X8_laysAhead_9 9 ls st h) : x_EV 84 9 ls st h r h' := x_Ev_to (M := xm_X8_laysAhead) (is := xb_X8_laysAhead_9) pg_X8_laysAhead (by rfl) H
theorem xe_X8_laysAhead_11 {ls : xL} {st : List Value} {h h' : xH} {r : Option Value} (H : x_ev x_nm x_tf x_fn x_Pg x_EV 84 none r h' xb_X8_laysAhead_11 11 ls st h) : x_EV 84 11 ls st h r h' := x_Ev_to (M := xm_X8_laysAhead) (is := xb_X8_laysAhead_11) pg_X8_laysAhead (by rfl) H
theorem xe_X8_laysAhead_46 {ls : xL} {st : List Value} {h h' : xH} {r : Option Value} (H : x_ev x_nm x_tf x_fn x_Pg x_EV 84 none r h' xb_X8_laysAhead_46 46 ls st h) : x_EV 84 46 ls st h r h' := x_Ev_to (M := xm_X8_laysAhead) (is := xb_X8_laysAhead_46) pg_X8_laysAhead (by rfl) H
theorem xK_X8_laysAhead {o : Nat} {x1 : Int32} {h h1 : xH} {r : Option Value} {fs : List Value} (ho : h[o]? = some (.inr (7, fs))) (H : x_EV 84 0 [some (.ref o), some (.int x1), none] [] h r h1) : xK 84 [.ref o, .int x1] h r h1 := x_calX_v pg_X8_laysAhead rfl rfl (Nat.le_of_ble_eq_true rfl) rfl ho H
theorem pg_X8_entryAt : x_Pg[85]? = some xm_X8_entryAt := by
  unfold x_Pg
  rfl
theorem xe_X8_entryAt_0 {ls : xL} {st : List Value} {h h' : xH} {r : Option Value} (H : x_ev x_nm x_tf x_fn x_Pg x_EV 85 (some .int) r h' xb_X8_entryAt_0 0 ls st h) : x_EV 85 0 ls st h r h' := x_Ev_to (M := xm_X8_entryAt) (is := xb_X8_entryAt_0) pg_X8_entryAt (by rfl) H
theorem xK_X8_entryAt {o : Nat} {x1 : Int32} {h h1 : xH} {r : Option Value} {fs : List Value} (ho : h[o]? = some (.inr (7, fs))) (H : x_EV 85 0 [some (.ref o), some (.int x1)] [] h r h1) : xK 85 [.ref o, .int x1] h r h1 := x_calX_v pg_X8_entryAt rfl rfl (Nat.le_of_ble_eq_true rfl) rfl ho H
theorem pg_X8_laysReadings : x_Pg[86]? = some xm_X8_laysReadings := by
  unfold x_Pg
  rfl
theorem xe_X8_laysReadings_0 {ls : xL} {st : List Value} {h h' : xH} {r : Option Value} (H : x_ev x_nm x_tf x_fn x_Pg x_EV 86 (some .boolean) r h' xb_X8_laysReadings_0 0 ls st h) : x_EV 86 0 ls st h r h' := x_Ev_to (M := xm_X8_laysReadings) (is := xb_X8_laysReadings_0) pg_X8_laysReadings (by rfl) H
theorem xe_X8_laysReadings_5 {ls : xL} {st : List Value} {h h' : xH} {r : Option Value} (H : x_ev x_nm x_tf x_fn x_Pg x_EV 86 (some .boolean) r h' xb_X8_laysReadings_5 5 ls st h) : x_EV 86 5 ls st h r h' := x_Ev_to (M := xm_X8_laysReadings) (is := xb_X8_laysReadings_5) pg_X8_laysReadings (by rfl) H
theorem xe_X8_laysReadings_70 {ls : xL} {st : List Value} {h h' : xH} {r : Option Value} (H : x_ev x_nm x_tf x_fn x_Pg x_EV 86 (some .boolean) r h' xb_X8_laysReadings_70 70 ls st h) : x_EV 86 70 ls st h r h' := x_Ev_to (M := xm_X8_laysReadings) (is := xb_X8_laysReadings_70) pg_X8_laysReadings (by rfl) H
theorem xe_X8_laysReadings_71 {ls : xL} {st : List Value} {h h' : xH} {r : Option Value} (H : x_ev x_nm x_tf x_fn x_Pg x_EV 86 (some .boolean) r h' xb_X8_laysReadings_71 71 ls st h) : x_EV 86 71 ls st h r h' := x_Ev_to (M := xm_X8_laysReadings) (is := xb_X8_laysReadings_71) pg_X8_laysReadings (by rfl) H
theorem xe_X8_laysReadings_78 {ls : xL} {st : List Value} {h h' : xH} {r : Option Value} (H : x_ev x_nm x_tf x_fn x_Pg x_EV 86 (some .boolean) r h' xb_X8_laysReadings_78 78 ls st h) : x_EV 86 78 ls st h r h' := x_Ev_to (M := xm_X8_laysReadings) (is := xb_X8_laysReadings_78) pg_X8_laysReadings (by rfl) H
theorem xK_X8_laysReadings {o : Nat} {x1 : Int32} {x2 : Int32} {h h1 : xH} {r : Option Value} {fs : List Value} (ho : h[o]? = some (.inr (7, fs))) (H : x_EV 86 0 [some (.ref o), some (.int x1), some (.int x2), none, none] [] h r h1) : xK 86 [.ref o, .int x1, .int x2] h r h1 := x_calX_v pg_X8_laysReadings rfl rfl (Nat.le_of_ble_eq_true rfl) rfl ho H
theorem pg_X8_priceOf : x_Pg[87]? = some xm_X8_priceOf := by
  unfold x_Pg
  rfl
theorem xe_X8_priceOf_0 {ls : xL} {st : List Value} {h h' : xH} {r : Option Value} (H : x_ev x_nm x_tf x_fn x_Pg x_EV 87 (some .int) r h' xb_X8_priceOf_0 0 ls st h) : x_EV 87 0 ls st h r h' := x_Ev_to (M := xm_X8_priceOf) (is := xb_X8_priceOf_0) pg_X8_priceOf (by rfl) H
theorem xe_X8_priceOf_28 {ls : xL} {st : List Value} {h h' : xH} {r : Option Value} (H : x_ev x_nm x_tf x_fn x_Pg x_EV 87 (some .int) r h' xb_X8_priceOf_28 28 ls st h) : x_EV 87 28 ls st h r h' := x_Ev_to (M := xm_X8_priceOf) (is := xb_X8_priceOf_28) pg_X8_priceOf (by rfl) H
theorem xe_X8_priceOf_53 {ls : xL} {st : List Value} {h h' : xH} {r : Option Value} (H : x_ev x_nm x_tf x_fn x_Pg x_EV 87 (some .int) r h' xb_X8_priceOf_53 53 ls st h) : x_EV 87 53 ls st h r h' := x_Ev_to (M := xm_X8_priceOf) (is := xb_X8_priceOf_53) pg_X8_priceOf (by rfl) H
theorem xe_X8_priceOf_54 {ls : xL} {st : List Value} {h h' : xH} {r : Option Value} (H : x_ev x_nm x_tf x_fn x_Pg x_EV 87 (some .int) r h' xb_X8_priceOf_54 54 ls st h) : x_EV 87 54 ls st h r h' := x_Ev_to (M := xm_X8_priceOf) (is := xb_X8_priceOf_54) pg_X8_priceOf (by rfl) H
theorem xe_X8_priceOf_58 {ls : xL} {st : List Value} {h h' : xH} {r : Option Value} (H : x_ev x_nm x_tf x_fn x_Pg x_EV 87 (some .int) r h' xb_X8_priceOf_58 58 ls st h) : x_EV 87 58 ls st h r h' := x_Ev_to (M := xm_X8_priceOf) (is := xb_X8_priceOf_58) pg_X8_priceOf (by rfl) H
theorem xK_X8_priceOf {o : Nat} {x1 : Int32} {h h1 : xH} {r : Option Value} {fs : List Value} (ho : h[o]? = some (.inr (7, fs))) (H : x_EV 87 0 [some (.ref o), some (.int x1), none] [] h r h1) : xK 87 [.ref o, .int x1] h r h1 := x_calX_v pg_X8_priceOf rfl rfl (Nat.le_of_ble_eq_true rfl) rfl ho H
theorem pg_X8_betweenOf : x_Pg[88]? = some xm_X8_betweenOf := by
  unfold x_Pg
  rfl
theorem xe_X8_betweenOf_0 {ls : xL} {st : List Value} {h h' : xH} {r : Option Value} (H : x_ev x_nm x_tf x_fn x_Pg x_EV 88 (some .int) r h' xb_X8_betweenOf_0 0 ls st h) : x_EV 88 0 ls st h r h' := x_Ev_to (M := xm_X8_betweenOf) (is := xb_X8_betweenOf_0) pg_X8_betweenOf (by rfl) H
theorem xe_X8_betweenOf_15 {ls : xL} {st : List Value} {h h' : xH} {r : Option Value} (H : x_ev x_nm x_tf x_fn x_Pg x_EV 88 (some .int) r h' xb_X8_betweenOf_15 15 ls st h) : x_EV 88 15 ls st h r h' := x_Ev_to (M := xm_X8_betweenOf) (is := xb_X8_betweenOf_15) pg_X8_betweenOf (by rfl) H
theorem xe_X8_betweenOf_28 {ls : xL} {st : List Value} {h h' : xH} {r : Option Value} (H : x_ev x_nm x_tf x_fn x_Pg x_EV 88 (some .int) r h' xb_X8_betweenOf_28 28 ls st h) : x_EV 88 28 ls st h r h' := x_Ev_to (M := xm_X8_betweenOf) (is := xb_X8_betweenOf_28) pg_X8_betweenOf (by rfl) H
theorem xe_X8_betweenOf_33 {ls : xL} {st : List Value} {h h' : xH} {r : Option Value} (H : x_ev x_nm x_tf x_fn x_Pg x_EV 88 (some .int) r h' xb_X8_betweenOf_33 33 ls st h) : x_EV 88 33 ls st h r h' := x_Ev_to (M := xm_X8_betweenOf) (is := xb_X8_betweenOf_33) pg_X8_betweenOf (by rfl) H
theorem xK_X8_betweenOf {o : Nat} {x1 : Int32} {h h1 : xH} {r : Option Value} {fs : List Value} (ho : h[o]? = some (.inr (7, fs))) (H : x_EV 88 0 [some (.ref o), some (.int x1), none] [] h r h1) : xK 88 [.ref o, .int x1] h r h1 := x_calX_v pg_X8_betweenOf rfl rfl (Nat.le_of_ble_eq_true rfl) rfl ho H
theorem pg_X8_costOf : x_Pg[89]? = some xm_X8_costOf := by
  unfold x_Pg
  rfl
theorem xe_X8_costOf_0 {ls : xL} {st : List Value} {h h' : xH} {r : Option Value} (H : x_ev x_nm x_tf x_fn x_Pg x_EV 89 (some .int) r h' xb_X8_costOf_0 0 ls st h) : x_EV 89 0 ls st h r h' := x_Ev_to (M := xm_X8_costOf) (is := xb_X8_costOf_0) pg_X8_costOf (by rfl) H
theorem xe_X8_costOf_7 {ls : xL} {st : List Value} {h h' : xH} {r : Option Value} (H : x_ev x_nm x_tf x_fn x_Pg x_EV 89 (some .int) r h' xb_X8_costOf_7 7 ls st h) : x_EV 89 7 ls st h r h' := x_Ev_to (M := xm_X8_costOf) (is := xb_X8_costOf_7) pg_X8_costOf (by rfl) H
theorem xe_X8_costOf_34 {ls : xL} {st : List Value} {h h' : xH} {r : Option Value} (H : x_ev x_nm x_tf x_fn x_Pg x_EV 89 (some .int) r h' xb_X8_costOf_34 34 ls st h) : x_EV 89 34 ls st h r h' := x_Ev_to (M := xm_X8_costOf) (is := xb_X8_costOf_34) pg_X8_costOf (by rfl) H
theorem xe_X8_costOf_35 {ls : xL} {st : List Value} {h h' : xH} {r : Option Value} (H : x_ev x_nm x_tf x_fn x_Pg x_EV 89 (some .int) r h' xb_X8_costOf_35 35 ls st h) : x_EV 89 35 ls st h r h' := x_Ev_to (M := xm_X8_costOf) (is := xb_X8_costOf_35) pg_X8_costOf (by rfl) H
theorem xe_X8_costOf_84 {ls : xL} {st : List Value} {h h' : xH} {r : Option Value} (H : x_ev x_nm x_tf x_fn x_Pg x_EV 89 (some .int) r h' xb_X8_costOf_84 84 ls st h) : x_EV 89 84 ls st h r h' := x_Ev_to (M := xm_X8_costOf) (is := xb_X8_costOf_84) pg_X8_costOf (by rfl) H
theorem xe_X8_costOf_85 {ls : xL} {st : List Value} {h h' : xH} {r : Option Value} (H : x_ev x_nm x_tf x_fn x_Pg x_EV 89 (some .int) r h' xb_X8_costOf_85 85 ls st h) : x_EV 89 85 ls st h r h' := x_Ev_to (M := xm_X8_costOf) (is := xb_X8_costOf_85) pg_X8_costOf (by rfl) H
theorem xe_X8_costOf_93 {ls : xL} {st : List Value} {h h' : xH} {r : Option Value} (H : x_ev x_nm x_tf x_fn x_Pg x_EV 89 (some .int) r h' xb_X8_costOf_93 93 ls st h) : x_EV 89 93 ls st h r h' := x_Ev_to (M := xm_X8_costOf) (is := xb_X8_costOf_93) pg_X8_costOf (by rfl) H
theorem xe_X8_costOf_101 {ls : xL} {st : List Value} {h h' : xH} {r : Option Value} (H : x_ev x_nm x_tf x_fn x_Pg x_EV 89 (some .int) r h' xb_X8_costOf_101 101 ls st h) : x_EV 89 101 ls st h r h' := x_Ev_to (M := xm_X8_costOf) (is := xb_X8_costOf_101) pg_X8_costOf (by rfl) H
theorem xe_X8_costOf_102 {ls : xL} {st : List Value} {h h' : xH} {r : Option Value} (H : x_ev x_nm x_tf x_fn x_Pg x_EV 89 (some .int) r h' xb_X8_costOf_102 102 ls st h) : x_EV 89 102 ls st h r h' := x_Ev_to (M := xm_X8_costOf) (is := xb_X8_costOf_102) pg_X8_costOf (by rfl) H
theorem xK_X8_costOf {o : Nat} {x1 : Int32} {h h1 : xH} {r : Option Value} {fs : List Value} (ho : h[o]? = some (.inr (7, fs))) (H : x_EV 89 0 [some (.ref o), some (.int x1), none, none, none, none] [] h r h1) : xK 89 [.ref o, .int x1] h r h1 := x_calX_v pg_X8_costOf rfl rfl (Nat.le_of_ble_eq_true rfl) rfl ho H
theorem pg_X8_repairOf : x_Pg[90]? = some xm_X8_repairOf := by
  unfold x_Pg
  rfl
theorem xe_X8_repairOf_0 {ls : xL} {st : List Value} {h h' : xH} {r : Option Value} (H : x_ev x_nm x_tf x_fn x_Pg x_EV 90 (some .int) r h' xb_X8_repairOf_0 0 ls st h) : x_EV 90 0 ls st h r h' := x_Ev_to (M := xm_X8_repairOf) (is := xb_X8_repairOf_0) pg_X8_repairOf (by rfl) H
theorem xe_X8_repairOf_4 {ls : xL} {st : List Value} {h h' : xH} {r : Option Value} (H : x_ev x_nm x_tf x_fn x_Pg x_EV 90 (some .int) r h' xb_X8_repairOf_4 4 ls st h) : x_EV 90 4 ls st h r h' := x_Ev_to (M := xm_X8_repairOf) (is := xb_X8_repairOf_4) pg_X8_repairOf (by rfl) H
theorem xe_X8_repairOf_37 {ls : xL} {st : List Value} {h h' : xH} {r : Option Value} (H : x_ev x_nm x_tf x_fn x_Pg x_EV 90 (some .int) r h' xb_X8_repairOf_37 37 ls st h) : x_EV 90 37 ls st h r h' := x_Ev_to (M := xm_X8_repairOf) (is := xb_X8_repairOf_37) pg_X8_repairOf (by rfl) H
theorem xe_X8_repairOf_38 {ls : xL} {st : List Value} {h h' : xH} {r : Option Value} (H : x_ev x_nm x_tf x_fn x_Pg x_EV 90 (some .int) r h' xb_X8_repairOf_38 38 ls st h) : x_EV 90 38 ls st h r h' := x_Ev_to (M := xm_X8_repairOf) (is := xb_X8_repairOf_38) pg_X8_repairOf (by rfl) H
theorem xe_X8_repairOf_61 {ls : xL} {st : List Value} {h h' : xH} {r : Option Value} (H : x_ev x_nm x_tf x_fn x_Pg x_EV 90 (some .int) r h' xb_X8_repairOf_61 61 ls st h) : x_EV 90 61 ls st h r h' := x_Ev_to (M := xm_X8_repairOf) (is := xb_X8_repairOf_61) pg_X8_repairOf (by rfl) H
theorem xe_X8_repairOf_75 {ls : xL} {st : List Value} {h h' : xH} {r : Option Value} (H : x_ev x_nm x_tf x_fn x_Pg x_EV 90 (some .int) r h' xb_X8_repairOf_75 75 ls st h) : x_EV 90 75 ls st h r h' := x_Ev_to (M := xm_X8_repairOf) (is := xb_X8_repairOf_75) pg_X8_repairOf (by rfl) H
theorem xe_X8_repairOf_76 {ls : xL} {st : List Value} {h h' : xH} {r : Option Value} (H : x_ev x_nm x_tf x_fn x_Pg x_EV 90 (some .int) r h' xb_X8_repairOf_76 76 ls st h) : x_EV 90 76 ls st h r h' := x_Ev_to (M := xm_X8_repairOf) (is := xb_X8_repairOf_76) pg_X8_repairOf (by rfl) H
theorem xe_X8_repairOf_84 {ls : xL} {st : List Value} {h h' : xH} {r : Option Value} (H : x_ev x_nm x_tf x_fn x_Pg x_EV 90 (some .int) r h' xb_X8_repairOf_84 84 ls st h) : x_EV 90 84 ls st h r h' := x_Ev_to (M := xm_X8_repairOf) (is := xb_X8_repairOf_84) pg_X8_repairOf (by rfl) H
theorem xK_X8_repairOf {o : Nat} {x1 : Int32} {h h1 : xH} {r : Option Value} {fs : List Value} (ho : h[o]? = some (.inr (7, fs))) (H : x_EV 90 0 [some (.ref o), some (.int x1), none, none, none] [] h r h1) : xK 90 [.ref o, .int x1] h r h1 := x_calX_v pg_X8_repairOf rfl rfl (Nat.le_of_ble_eq_true rfl) rfl ho H
theorem pg_X8_codeOf : x_Pg[91]? = some xm_X8_codeOf := by
  unfold x_Pg
  rfl
theorem xe_X8_codeOf_0 {ls : xL} {st : List Value} {h h' : xH} {r : Option Value} (H : x_ev x_nm x_tf x_fn x_Pg x_EV 91 (some .int) r h' xb_X8_codeOf_0 0 ls st h) : x_EV 91 0 ls st h r h' := x_Ev_to (M := xm_X8_codeOf) (is := xb_X8_codeOf_0) pg_X8_codeOf (by rfl) H
theorem xe_X8_codeOf_4 {ls : xL} {st : List Value} {h h' : xH} {r : Option Value} (H : x_ev x_nm x_tf x_fn x_Pg x_EV 91 (some .int) r h' xb_X8_codeOf_4 4 ls st h) : x_EV 91 4 ls st h r h' := x_Ev_to (M := xm_X8_codeOf) (is := xb_X8_codeOf_4) pg_X8_codeOf (by rfl) H
theorem xe_X8_codeOf_37 {ls : xL} {st : List Value} {h h' : xH} {r : Option Value} (H : x_ev x_nm x_tf x_fn x_Pg x_EV 91 (some .int) r h' xb_X8_codeOf_37 37 ls st h) : x_EV 91 37 ls st h r h' := x_Ev_to (M := xm_X8_codeOf) (is := xb_X8_codeOf_37) pg_X8_codeOf (by rfl) H
theorem xK_X8_codeOf {o : Nat} {x1 : Int32} {h h1 : xH} {r : Option Value} {fs : List Value} (ho : h[o]? = some (.inr (7, fs))) (H : x_EV 91 0 [some (.ref o), some (.int x1), none, none] [] h r h1) : xK 91 [.ref o, .int x1] h r h1 := x_calX_v pg_X8_codeOf rfl rfl (Nat.le_of_ble_eq_true rfl) rfl ho H
theorem pg_X8_isBetter : x_Pg[92]? = some xm_X8_isBetter := by
  unfold x_Pg
  rfl
theorem xe_X8_isBetter_0 {ls : xL} {st : List Value} {h h' : xH} {r : Option Value} (H : x_ev x_nm x_tf x_fn x_Pg x_EV 92 (some .boolean) r h' xb_X8_isBetter_0 0 ls st h) : x_EV 92 0 ls st h r h' := x_Ev_to (M := xm_X8_isBetter) (is := xb_X8_isBetter_0) pg_X8_isBetter (by rfl) H
theorem xe_X8_isBetter_26 {ls : xL} {st : List Value} {h h' : xH} {r : Option Value} (H : x_ev x_nm x_tf x_fn x_Pg x_EV 92 (some .boolean) r h' xb_X8_isBetter_26 26 ls st h) : x_EV 92 26 ls st h r h' := x_Ev_to (M := xm_X8_isBetter) (is := xb_X8_isBetter_26) pg_X8_isBetter (by rfl) H
theorem xe_X8_isBetter_41 {ls : xL} {st : List Value} {h h' : xH} {r : Option Value} (H : x_ev x_nm x_tf x_fn x_Pg x_EV 92 (some .boolean) r h' xb_X8_isBetter_41 41 ls st h) : x_EV 92 41 ls st h r h' := x_Ev_to (M := xm_X8_isBetter) (is := xb_X8_isBetter_41) pg_X8_isBetter (by rfl) H
theorem xe_X8_isBetter_45 {ls : xL} {st : List Value} {h h' : xH} {r : Option Value} (H : x_ev x_nm x_tf x_fn x_Pg x_EV 92 (some .boolean) r h' xb_X8_isBetter_45 45 ls st h) : x_EV 92 45 ls st h r h' := x_Ev_to (M := xm_X8_isBetter) (is := xb_X8_isBetter_45) pg_X8_isBetter (by rfl) H
theorem xe_X8_isBetter_46 {ls : xL} {st : List Value} {h h' : xH} {r : Option Value} (H : x_ev x_nm x_tf x_fn x_Pg x_EV 92 (some .boolean) r h' xb_X8_isBetter_46 46 ls st h) : x_EV 92 46 ls st h r h' := x_Ev_to (M := xm_X8_isBetter) (is := xb_X8_isBetter_46) pg_X8_isBetter (by rfl) H
theorem xe_X8_isBetter_47 {ls : xL} {st : List Value} {h h' : xH} {r : Option Value} (H : x_ev x_nm x_tf x_fn x_Pg x_EV 92 (some .boolean) r h' xb_X8_isBetter_47 47 ls st h) : x_EV 92 47 ls st h r h' := x_Ev_to (M := xm_X8_isBetter) (is := xb_X8_isBetter_47) pg_X8_isBetter (by rfl) H
theorem xe_X8_isBetter_71 {ls : xL} {st : List Value} {h h' : xH} {r : Option Value} (H : x_ev x_nm x_tf x_fn x_Pg x_EV 92 (some .boolean) r h' xb_X8_isBetter_71 71 ls st h) : x_EV 92 71 ls st h r h' := x_Ev_to (M := xm_X8_isBetter) (is := xb_X8_isBetter_71) pg_X8_isBetter (by rfl) H
theorem xe_X8_isBetter_75 {ls : xL} {st : List Value} {h h' : xH} {r : Option Value} (H : x_ev x_nm x_tf x_fn x_Pg x_EV 92 (some .boolean) r h' xb_X8_isBetter_75 75 ls st h) : x_EV 92 75 ls st h r h' := x_Ev_to (M := xm_X8_isBetter) (is := xb_X8_isBetter_75) pg_X8_isBetter (by rfl) H
theorem xe_X8_isBetter_76 {ls : xL} {st : List Value} {h h' : xH} {r : Option Value} (H : x_ev x_nm x_tf x_fn x_Pg x_EV 92 (some .boolean) r h' xb_X8_isBetter_76 76 ls st h) : x_EV 92 76 ls st h r h' := x_Ev_to (M := xm_X8_isBetter) (is := xb_X8_isBetter_76) pg_X8_isBetter (by rfl) H
theorem xK_X8_isBetter {o : Nat} {x1 : Int32} {x2 : Int32} {x3 : Int32} {h h1 : xH} {r : Option Value} {fs : List Value} (ho : h[o]? = some (.inr (7, fs))) (H : x_EV 92 0 [some (.ref o), some (.int x1), some (.int x2), some (.int x3), none] [] h r h1) : xK 92 [.ref o, .int x1, .int x2, .int x3] h r h1 := x_calX_v pg_X8_isBetter rfl rfl (Nat.le_of_ble_eq_true rfl) rfl ho H
theorem pg_X8_tries : x_Pg[93]? = some xm_X8_tries := by
  unfold x_Pg
  rfl
theorem xe_X8_tries_0 {ls : xL} {st : List Value} {h h' : xH} {r : Option Value} (H : x_ev x_nm x_tf x_fn x_Pg x_EV 93 none r h' xb_X8_tries_0 0 ls st h) : x_EV 93 0 ls st h r h' := x_Ev_to (M := xm_X8_tries) (is := xb_X8_tries_0) pg_X8_tries (by rfl) H
theorem xe_X8_tries_11 {ls : xL} {st : List Value} {h h' : xH} {r : Option Value} (H : x_ev x_nm x_tf x_fn x_Pg x_EV 93 none r h' xb_X8_tries_11 11 ls st h) : x_EV 93 11 ls st h r h' := x_Ev_to (M := xm_X8_tries) (is := xb_X8_tries_11) pg_X8_tries (by rfl) H
theorem xe_X8_tries_23 {ls : xL} {st : List Value} {h h' : xH} {r : Option Value} (H : x_ev x_nm x_tf x_fn x_Pg x_EV 93 none r h' xb_X8_tries_23 23 ls st h) : x_EV 93 23 ls st h r h' := x_Ev_to (M := xm_X8_tries) (is := xb_X8_tries_23) pg_X8_tries (by rfl) H
theorem xe_X8_tries_24 {ls : xL} {st : List Value} {h h' : xH} {r : Option Value} (H : x_ev x_nm x_tf x_fn x_Pg x_EV 93 none r h' xb_X8_tries_24 24 ls st h) : x_EV 93 24 ls st h r h' := x_Ev_to (M := xm_X8_tries) (is := xb_X8_tries_24) pg_X8_tries (by rfl) H
theorem xe_X8_tries_62 {ls : xL} {st : List Value} {h h' : xH} {r : Option Value} (H : x_ev x_nm x_tf x_fn x_Pg x_EV 93 none r h' xb_X8_tries_62 62 ls st h) : x_EV 93 62 ls st h r h' := x_Ev_to (M := xm_X8_tries) (is := xb_X8_tries_62) pg_X8_tries (by rfl) H
theorem xK_X8_tries {o : Nat} {x1 : Int32} {x2 : Int32} {h h1 : xH} {r : Option Value} {fs : List Value} (ho : h[o]? = some (.inr (7, fs))) (H : x_EV 93 0 [some (.ref o), some (.int x1), some (.int x2), none, none, none] [] h r h1) : xK 93 [.ref o, .int x1, .int x2] h r h1 := x_calX_v pg_X8_tries rfl rfl (Nat.le_of_ble_eq_true rfl) rfl ho H
theorem pg_X8_finds : x_Pg[94]? = some xm_X8_finds := by
  unfold x_Pg
  rfl
theorem xe_X8_finds_0 {ls : xL} {st : List Value} {h h' : xH} {r : Option Value} (H : x_ev x_nm x_tf x_fn x_Pg x_EV 94 none r h' xb_X8_finds_0 0 ls st h) : x_EV 94 0 ls st h r h' := x_Ev_to (M := xm_X8_finds) (is := xb_X8_finds_0) pg_X8_finds (by rfl) H
theorem xe_X8_finds_7 {ls : xL} {st : List Value} {h h' : xH} {r : Option Value} (H : x_ev x_nm x_tf x_fn x_Pg x_EV 94 none r h' xb_X8_finds_7 7 ls st h) : x_EV 94 7 ls st h r h' := x_Ev_to (M := xm_X8_finds) (is := xb_X8_finds_7) pg_X8_finds (by rfl) H
theorem xe_X8_finds_30 {ls : xL} {st : List Value} {h h' : xH} {r : Option Value} (H : x_ev x_nm x_tf x_fn x_Pg x_EV 94 none r h' xb_X8_finds_30 30 ls st h) : x_EV 94 30 ls st h r h' := x_Ev_to (M := xm_X8_finds) (is := xb_X8_finds_30) pg_X8_finds (by rfl) H
theorem xe_X8_finds_72 {ls : xL} {st : List Value} {h h' : xH} {r : Option Value} (H : x_ev x_nm x_tf x_fn x_Pg x_EV 94 none r h' xb_X8_finds_72 72 ls st h) : x_EV 94 72 ls st h r h' := x_Ev_to (M := xm_X8_finds) (is := xb_X8_finds_72) pg_X8_finds (by rfl) H
theorem xe_X8_finds_78 {ls : xL} {st : List Value} {h h' : xH} {r : Option Value} (H : x_ev x_nm x_tf x_fn x_Pg x_EV 94 none r h' xb_X8_finds_78 78 ls st h) : x_EV 94 78 ls st h r h' := x_Ev_to (M := xm_X8_finds) (is := xb_X8_finds_78) pg_X8_finds (by rfl) H
theorem xK_X8_finds {o : Nat} {x1 : Int32} {x2 : Int32} {h h1 : xH} {r : Option Value} {fs : List Value} (ho : h[o]? = some (.inr (7, fs))) (H : x_EV 94 0 [some (.ref o), some (.int x1), some (.int x2), none, none, none] [] h r h1) : xK 94 [.ref o, .int x1, .int x2] h r h1 := x_calX_v pg_X8_finds rfl rfl (Nat.le_of_ble_eq_true rfl) rfl ho H
theorem pg_X8_listens : x_Pg[95]? = some xm_X8_listens := by
  unfold x_Pg
  rfl
theorem xe_X8_listens_0 {ls : xL} {st : List Value} {h h' : xH} {r : Option Value} (H : x_ev x_nm x_tf x_fn x_Pg x_EV 95 none r h' xb_X8_listens_0 0 ls st h) : x_EV 95 0 ls st h r h' := x_Ev_to (M := xm_X8_listens) (is := xb_X8_listens_0) pg_X8_listens (by rfl) H
theorem xe_X8_listens_91 {ls : xL} {st : List Value} {h h' : xH} {r : Option Value} (H : x_ev x_nm x_tf x_fn x_Pg x_EV 95 none r h' xb_X8_listens_91 91 ls st h) : x_EV 95 91 ls st h r h' := x_Ev_to (M := xm_X8_listens) (is := xb_X8_listens_91) pg_X8_listens (by rfl) H
theorem xe_X8_listens_148 {ls : xL} {st : List Value} {h h' : xH} {r : Option Value} (H : x_ev x_nm x_tf x_fn x_Pg x_EV 95 none r h' xb_X8_listens_148 148 ls st h) : x_EV 95 148 ls st h r h' := x_Ev_to (M := xm_X8_listens) (is := xb_X8_listens_148) pg_X8_listens (by rfl) H
theorem xe_X8_listens_149 {ls : xL} {st : List Value} {h h' : xH} {r : Option Value} (H : x_ev x_nm x_tf x_fn x_Pg x_EV 95 none r h' xb_X8_listens_149 149 ls st h) : x_EV 95 149 ls st h r h' := x_Ev_to (M := xm_X8_listens) (is := xb_X8_listens_149) pg_X8_listens (by rfl) H
theorem xe_X8_listens_176 {ls : xL} {st : List Value} {h h' : xH} {r : Option Value} (H : x_ev x_nm x_tf x_fn x_Pg x_EV 95 none r h' xb_X8_listens_176 176 ls st h) : x_EV 95 176 ls st h r h' := x_Ev_to (M := xm_X8_listens) (is := xb_X8_listens_176) pg_X8_listens (by rfl) H
theorem xK_X8_listens {o : Nat} {x1 : Int32} {h h1 : xH} {r : Option Value} {fs : List Value} (ho : h[o]? = some (.inr (7, fs))) (H : x_EV 95 0 [some (.ref o), some (.int x1), none, none, none] [] h r h1) : xK 95 [.ref o, .int x1] h r h1 := x_calX_v pg_X8_listens rfl rfl (Nat.le_of_ble_eq_true rfl) rfl ho H
theorem pg_X8_hears : x_Pg[96]? = some xm_X8_hears := by
  unfold x_Pg
  rfl
theorem xe_X8_hears_0 {ls : xL} {st : List Value} {h h' : xH} {r : Option Value} (H : x_ev x_nm x_tf x_fn x_Pg x_EV 96 (some .int) r h' xb_X8_hears_0 0 ls st h) : x_EV 96 0 ls st h r h' := x_Ev_to (M := xm_X8_hears) (is := xb_X8_hears_0) pg_X8_hears (by rfl) H
theorem xe_X8_hears_13 {ls : xL} {st : List Value} {h h' : xH} {r : Option Value} (H : x_ev x_nm x_tf x_fn x_Pg x_EV 96 (some .int) r h' xb_X8_hears_13 13 ls st h) : x_EV 96 13 ls st h r h' := x_Ev_to (M := xm_X8_hears) (is := xb_X8_hears_13) pg_X8_hears (by rfl) H
theorem xe_X8_hears_30 {ls : xL} {st : List Value} {h h' : xH} {r : Option Value} (H : x_ev x_nm x_tf x_fn x_Pg x_EV 96 (some .int) r h' xb_X8_hears_30 30 ls st h) : x_EV 96 30 ls st h r h' := x_Ev_to (M := xm_X8_hears) (is := xb_X8_hears_30) pg_X8_hears (by rfl) H
theorem xe_X8_hears_74 {ls : xL} {st : List Value} {h h' : xH} {r : Option Value} (H : x_ev x_nm x_tf x_fn x_Pg x_EV 96 (some .int) r h' xb_X8_hears_74 74 ls st h) : x_EV 96 74 ls st h r h' := x_Ev_to (M := xm_X8_hears) (is := xb_X8_hears_74) pg_X8_hears (by rfl) H
theorem xe_X8_hears_75 {ls : xL} {st : List Value} {h h' : xH} {r : Option Value} (H : x_ev x_nm x_tf x_fn x_Pg x_EV 96 (some .int) r h' xb_X8_hears_75 75 ls st h) : x_EV 96 75 ls st h r h' := x_Ev_to (M := xm_X8_hears) (is := xb_X8_hears_75) pg_X8_hears (by rfl) H
theorem xK_X8_hears {o : Nat} {x1 : Int32} {h h1 : xH} {r : Option Value} {fs : List Value} (ho : h[o]? = some (.inr (7, fs))) (H : x_EV 96 0 [some (.ref o), some (.int x1)] [] h r h1) : xK 96 [.ref o, .int x1] h r h1 := x_calX_v pg_X8_hears rfl rfl (Nat.le_of_ble_eq_true rfl) rfl ho H
theorem pg_X7_unhears : x_Pg[97]? = some xm_X7_unhears := by
  unfold x_Pg
  rfl
theorem xe_X7_unhears_0 {ls : xL} {st : List Value} {h h' : xH} {r : Option Value} (H : x_ev x_nm x_tf x_fn x_Pg x_EV 97 (some .int) r h' xb_X7_unhears_0 0 ls st h) : x_EV 97 0 ls st h r h' := x_Ev_to (M := xm_X7_unhears) (is := xb_X7_unhears_0) pg_X7_unhears (by rfl) H
theorem xe_X7_unhears_20 {ls : xL} {st : List Value} {h h' : xH} {r : Option Value} (H : x_ev x_nm x_tf x_fn x_Pg x_EV 97 (some .int) r h' xb_X7_unhears_20 20 ls st h) : x_EV 97 20 ls st h r h' := x_Ev_to (M := xm_X7_unhears) (is := xb_X7_unhears_20) pg_X7_unhears (by rfl) H
theorem xK_X7_unhears {o : Nat}  {h h1 : xH} {r : Option Value} {fs : List Value} (ho : h[o]? = some (.inr (6, fs))) (H : x_EV 97 0 [some (.ref o)] [] h r h1) : xK 97 [.ref o] h r h1 := x_calX_v pg_X7_unhears rfl rfl (Nat.le_of_ble_eq_true rfl) rfl ho H
theorem pg_X8_no : x_Pg[98]? = some xm_X8_no := by
  unfold x_Pg
  rfl
theorem xe_X8_no_0 {ls : xL} {st : List Value} {h h' : xH} {r : Option Value} (H : x_ev x_nm x_tf x_fn x_Pg x_EV 98 (some .int) r h' xb_X8_no_0 0 ls st h) : x_EV 98 0 ls st h r h' := x_Ev_to (M := xm_X8_no) (is := xb_X8_no_0) pg_X8_no (by rfl) H
theorem xK_X8_no {o : Nat}  {h h1 : xH} {r : Option Value} {fs : List Value} (ho : h[o]? = some (.inr (7, fs))) (H : x_EV 98 0 [some (.ref o)] [] h r h1) : xK 98 [.ref o] h r h1 := x_calX_v pg_X8_no rfl rfl (Nat.le_of_ble_eq_true rfl) rfl ho H
theorem pg_X8_unhears : x_Pg[99]? = some xm_X8_unhears := by
  unfold x_Pg
  rfl
theorem xe_X8_unhears_0 {ls : xL} {st : List Value} {h h' : xH} {r : Option Value} (H : x_ev x_nm x_tf x_fn x_Pg x_EV 99 (some .int) r h' xb_X8_unhears_0 0 ls st h) : x_EV 99 0 ls st h r h' := x_Ev_to (M := xm_X8_unhears) (is := xb_X8_unhears_0) pg_X8_unhears (by rfl) H
theorem xe_X8_unhears_15 {ls : xL} {st : List Value} {h h' : xH} {r : Option Value} (H : x_ev x_nm x_tf x_fn x_Pg x_EV 99 (some .int) r h' xb_X8_unhears_15 15 ls st h) : x_EV 99 15 ls st h r h' := x_Ev_to (M := xm_X8_unhears) (is := xb_X8_unhears_15) pg_X8_unhears (by rfl) H
theorem xK_X8_unhears {o : Nat}  {h h1 : xH} {r : Option Value} {fs : List Value} (ho : h[o]? = some (.inr (7, fs))) (H : x_EV 99 0 [some (.ref o)] [] h r h1) : xK 99 [.ref o] h r h1 := x_calX_v pg_X8_unhears rfl rfl (Nat.le_of_ble_eq_true rfl) rfl ho H
theorem pg_X7_silence : x_Pg[100]? = some xm_X7_silence := by
  unfold x_Pg
  rfl
theorem xe_X7_silence_0 {ls : xL} {st : List Value} {h h' : xH} {r : Option Value} (H : x_ev x_nm x_tf x_fn x_Pg x_EV 100 (some .int) r h' xb_X7_silence_0 0 ls st h) : x_EV 100 0 ls st h r h' := x_Ev_to (M := xm_X7_silence) (is := xb_X7_silence_0) pg_X7_silence (by rfl) H
theorem xK_X7_silence {o : Nat}  {h h1 : xH} {r : Option Value} {fs : List Value} (ho : h[o]? = some (.inr (6, fs))) (H : x_EV 100 0 [some (.ref o), none] [] h r h1) : xK 100 [.ref o] h r h1 := x_calX_v pg_X7_silence rfl rfl (Nat.le_of_ble_eq_true rfl) rfl ho H
theorem pg_X8_silence : x_Pg[101]? = some xm_X8_silence := by
  unfold x_Pg
  rfl
theorem xe_X8_silence_0 {ls : xL} {st : List Value} {h h' : xH} {r : Option Value} (H : x_ev x_nm x_tf x_fn x_Pg x_EV 101 (some .int) r h' xb_X8_silence_0 0 ls st h) : x_EV 101 0 ls st h r h' := x_Ev_to (M := xm_X8_silence) (is := xb_X8_silence_0) pg_X8_silence (by rfl) H
theorem xK_X8_silence {o : Nat}  {h h1 : xH} {r : Option Value} {fs : List Value} (ho : h[o]? = some (.inr (7, fs))) (H : x_EV 101 0 [some (.ref o), none] [] h r h1) : xK 101 [.ref o] h r h1 := x_calX_v pg_X8_silence rfl rfl (Nat.le_of_ble_eq_true rfl) rfl ho H
theorem pg_X6_hearAllAnew : x_Pg[102]? = some xm_X6_hearAllAnew := by
  unfold x_Pg
  rfl
theorem xe_X6_hearAllAnew_0 {ls : xL} {st : List Value} {h h' : xH} {r : Option Value} (H : x_ev x_nm x_tf x_fn x_Pg x_EV 102 none r h' xb_X6_hearAllAnew_0 0 ls st h) : x_EV 102 0 ls st h r h' := x_Ev_to (M := xm_X6_hearAllAnew) (is := xb_X6_hearAllAnew_0) pg_X6_hearAllAnew (by rfl) H
theorem xe_X6_hearAllAnew_18 {ls : xL} {st : List Value} {h h' : xH} {r : Option Value} (H : x_ev x_nm x_tf x_fn x_Pg x_EV 102 none r h' xb_X6_hearAllAnew_18 18 ls st h) : x_EV 102 18 ls st h r h' := x_Ev_to (M := xm_X6_hearAllAnew) (is := xb_X6_hearAllAnew_18) pg_X6_hearAllAnew (by rfl) H
theorem xe_X6_hearAllAnew_43 {ls : xL} {st : List Value} {h h' : xH} {r : Option Value} (H : x_ev x_nm x_tf x_fn x_Pg x_EV 102 none r h' xb_X6_hearAllAnew_43 43 ls st h) : x_EV 102 43 ls st h r h' := x_Ev_to (M := xm_X6_hearAllAnew) (is := xb_X6_hearAllAnew_43) pg_X6_hearAllAnew (by rfl) H
theorem xK_X6_hearAllAnew {o : Nat} {x1 : Nat} {h h1 : xH} {r : Option Value} {fs : List Value} (ho : h[o]? = some (.inr (5, fs))) (H : x_EV 102 0 [some (.ref o), some (.ref x1), none, none] [] h r h1) : xK 102 [.ref o, .ref x1] h r h1 := x_calX_v pg_X6_hearAllAnew rfl rfl (Nat.le_of_ble_eq_true rfl) rfl ho H
theorem pg_X4_sumOfStumbles : x_Pg[103]? = some xm_X4_sumOfStumbles := by
  unfold x_Pg
  rfl
theorem xe_X4_sumOfStumbles_0 {ls : xL} {st : List Value} {h h' : xH} {r : Option Value} (H : x_ev x_nm x_tf x_fn x_Pg x_EV 103 (some .int) r h' xb_X4_sumOfStumbles_0 0 ls st h) : x_EV 103 0 ls st h r h' := x_Ev_to (M := xm_X4_sumOfStumbles) (is := xb_X4_sumOfStumbles_0) pg_X4_sumOfStumbles (by rfl) H
theorem xe_X4_sumOfStumbles_4 {ls : xL} {st : List Value} {h h' : xH} {r : Option Value} (H : x_ev x_nm x_tf x_fn x_Pg x_EV 103 (some .int) r h' xb_X4_sumOfStumbles_4 4 ls st h) : x_EV 103 4 ls st h r h' := x_Ev_to (M := xm_X4_sumOfStumbles) (is := xb_X4_sumOfStumbles_4) pg_X4_sumOfStumbles (by rfl) H
theorem xe_X4_sumOfStumbles_27 {ls : xL} {st : List Value} {h h' : xH} {r : Option Value} (H : x_ev x_nm x_tf x_fn x_Pg x_EV 103 (some .int) r h' xb_X4_sumOfStumbles_27 27 ls st h) : x_EV 103 27 ls st h r h' := x_Ev_to (M := xm_X4_sumOfStumbles) (is := xb_X4_sumOfStumbles_27) pg_X4_sumOfStumbles (by rfl) H
theorem xK_X4_sumOfStumbles {o : Nat}  {h h1 : xH} {r : Option Value} {fs : List Value} (ho : h[o]? = some (.inr (3, fs))) (H : x_EV 103 0 [some (.ref o), none, none] [] h r h1) : xK 103 [.ref o] h r h1 := x_calX_v pg_X4_sumOfStumbles rfl rfl (Nat.le_of_ble_eq_true rfl) rfl ho H
theorem pg_X7_rereads : x_Pg[104]? = some xm_X7_rereads := by
  unfold x_Pg
  rfl
theorem xe_X7_rereads_0 {ls : xL} {st : List Value} {h h' : xH} {r : Option Value} (H : x_ev x_nm x_tf x_fn x_Pg x_EV 104 (some .int) r h' xb_X7_rereads_0 0 ls st h) : x_EV 104 0 ls st h r h' := x_Ev_to (M := xm_X7_rereads) (is := xb_X7_rereads_0) pg_X7_rereads (by rfl) H
theorem xe_X7_rereads_39 {ls : xL} {st : List Value} {h h' : xH} {r : Option Value} (H : x_ev x_nm x_tf x_fn x_Pg x_EV 104 (some .int) r h' xb_X7_rereads_39 39 ls st h) : x_EV 104 39 ls st h r h' := x_Ev_to (M := xm_X7_rereads) (is := xb_X7_rereads_39) pg_X7_rereads (by rfl) H
theorem xe_X7_rereads_49 {ls : xL} {st : List Value} {h h' : xH} {r : Option Value} (H : x_ev x_nm x_tf x_fn x_Pg x_EV 104 (some .int) r h' xb_X7_rereads_49 49 ls st h) : x_EV 104 49 ls st h r h' := x_Ev_to (M := xm_X7_rereads) (is := xb_X7_rereads_49) pg_X7_rereads (by rfl) H
theorem xK_X7_rereads {o : Nat}  {h h1 : xH} {r : Option Value} {fs : List Value} (ho : h[o]? = some (.inr (6, fs))) (H : x_EV 104 0 [some (.ref o)] [] h r h1) : xK 104 [.ref o] h r h1 := x_calX_v pg_X7_rereads rfl rfl (Nat.le_of_ble_eq_true rfl) rfl ho H
theorem pg_X8_isStuck : x_Pg[105]? = some xm_X8_isStuck := by
  unfold x_Pg
  rfl
theorem xe_X8_isStuck_0 {ls : xL} {st : List Value} {h h' : xH} {r : Option Value} (H : x_ev x_nm x_tf x_fn x_Pg x_EV 105 (some .boolean) r h' xb_X8_isStuck_0 0 ls st h) : x_EV 105 0 ls st h r h' := x_Ev_to (M := xm_X8_isStuck) (is := xb_X8_isStuck_0) pg_X8_isStuck (by rfl) H
theorem xe_X8_isStuck_28 {ls : xL} {st : List Value} {h h' : xH} {r : Option Value} (H : x_ev x_nm x_tf x_fn x_Pg x_EV 105 (some .boolean) r h' xb_X8_isStuck_28 28 ls st h) : x_EV 105 28 ls st h r h' := x_Ev_to (M := xm_X8_isStuck) (is := xb_X8_isStuck_28) pg_X8_isStuck (by rfl) H
theorem xe_X8_isStuck_29 {ls : xL} {st : List Value} {h h' : xH} {r : Option Value} (H : x_ev x_nm x_tf x_fn x_Pg x_EV 105 (some .boolean) r h' xb_X8_isStuck_29 29 ls st h) : x_EV 105 29 ls st h r h' := x_Ev_to (M := xm_X8_isStuck) (is := xb_X8_isStuck_29) pg_X8_isStuck (by rfl) H
theorem xK_X8_isStuck {o : Nat}  {h h1 : xH} {r : Option Value} {fs : List Value} (ho : h[o]? = some (.inr (7, fs))) (H : x_EV 105 0 [some (.ref o)] [] h r h1) : xK 105 [.ref o] h r h1 := x_calX_v pg_X8_isStuck rfl rfl (Nat.le_of_ble_eq_true rfl) rfl ho H
theorem pg_X8_sumOf : x_Pg[106]? = some xm_X8_sumOf := by
  unfold x_Pg
  rfl
theorem xe_X8_sumOf_0 {ls : xL} {st : List Value} {h h' : xH} {r : Option Value} (H : x_ev x_nm x_tf x_fn x_Pg x_EV 106 (some .int) r h' xb_X8_sumOf_0 0 ls st h) : x_EV 106 0 ls st h r h' := x_Ev_to (M := xm_X8_sumOf) (is := xb_X8_sumOf_0) pg_X8_sumOf (by rfl) H
theorem xe_X8_sumOf_4 {ls : xL} {st : List Value} {h h' : xH} {r : Option Value} (H : x_ev x_nm x_tf x_fn x_Pg x_EV 106 (some .int) r h' xb_X8_sumOf_4 4 ls st h) : x_EV 106 4 ls st h r h' := x_Ev_to (M := xm_X8_sumOf) (is := xb_X8_sumOf_4) pg_X8_sumOf (by rfl) H
theorem xe_X8_sumOf_36 {ls : xL} {st : List Value} {h h' : xH} {r : Option Value} (H : x_ev x_nm x_tf x_fn x_Pg x_EV 106 (some .int) r h' xb_X8_sumOf_36 36 ls st h) : x_EV 106 36 ls st h r h' := x_Ev_to (M := xm_X8_sumOf) (is := xb_X8_sumOf_36) pg_X8_sumOf (by rfl) H
theorem xK_X8_sumOf {o : Nat} {x1 : Int32} {h h1 : xH} {r : Option Value} {fs : List Value} (ho : h[o]? = some (.inr (7, fs))) (H : x_EV 106 0 [some (.ref o), some (.int x1), none, none] [] h r h1) : xK 106 [.ref o, .int x1] h r h1 := x_calX_v pg_X8_sumOf rfl rfl (Nat.le_of_ble_eq_true rfl) rfl ho H
theorem pg_X8_rereads : x_Pg[107]? = some xm_X8_rereads := by
  unfold x_Pg
  rfl
theorem xe_X8_rereads_0 {ls : xL} {st : List Value} {h h' : xH} {r : Option Value} (H : x_ev x_nm x_tf x_fn x_Pg x_EV 107 (some .int) r h' xb_X8_rereads_0 0 ls st h) : x_EV 107 0 ls st h r h' := x_Ev_to (M := xm_X8_rereads) (is := xb_X8_rereads_0) pg_X8_rereads (by rfl) H
theorem xe_X8_rereads_22 {ls : xL} {st : List Value} {h h' : xH} {r : Option Value} (H : x_ev x_nm x_tf x_fn x_Pg x_EV 107 (some .int) r h' xb_X8_rereads_22 22 ls st h) : x_EV 107 22 ls st h r h' := x_Ev_to (M := xm_X8_rereads) (is := xb_X8_rereads_22) pg_X8_rereads (by rfl) H
theorem xe_X8_rereads_47 {ls : xL} {st : List Value} {h h' : xH} {r : Option Value} (H : x_ev x_nm x_tf x_fn x_Pg x_EV 107 (some .int) r h' xb_X8_rereads_47 47 ls st h) : x_EV 107 47 ls st h r h' := x_Ev_to (M := xm_X8_rereads) (is := xb_X8_rereads_47) pg_X8_rereads (by rfl) H
theorem xe_X8_rereads_58 {ls : xL} {st : List Value} {h h' : xH} {r : Option Value} (H : x_ev x_nm x_tf x_fn x_Pg x_EV 107 (some .int) r h' xb_X8_rereads_58 58 ls st h) : x_EV 107 58 ls st h r h' := x_Ev_to (M := xm_X8_rereads) (is := xb_X8_rereads_58) pg_X8_rereads (by rfl) H
theorem xe_X8_rereads_63 {ls : xL} {st : List Value} {h h' : xH} {r : Option Value} (H : x_ev x_nm x_tf x_fn x_Pg x_EV 107 (some .int) r h' xb_X8_rereads_63 63 ls st h) : x_EV 107 63 ls st h r h' := x_Ev_to (M := xm_X8_rereads) (is := xb_X8_rereads_63) pg_X8_rereads (by rfl) H
theorem xK_X8_rereads {o : Nat}  {h h1 : xH} {r : Option Value} {fs : List Value} (ho : h[o]? = some (.inr (7, fs))) (H : x_EV 107 0 [some (.ref o), none, none] [] h r h1) : xK 107 [.ref o] h r h1 := x_calX_v pg_X8_rereads rfl rfl (Nat.le_of_ble_eq_true rfl) rfl ho H
theorem pg_X7_word : x_Pg[108]? = some xm_X7_word := by
  unfold x_Pg
  rfl
theorem xe_X7_word_0 {ls : xL} {st : List Value} {h h' : xH} {r : Option Value} (H : x_ev x_nm x_tf x_fn x_Pg x_EV 108 (some .int) r h' xb_X7_word_0 0 ls st h) : x_EV 108 0 ls st h r h' := x_Ev_to (M := xm_X7_word) (is := xb_X7_word_0) pg_X7_word (by rfl) H
theorem xe_X7_word_21 {ls : xL} {st : List Value} {h h' : xH} {r : Option Value} (H : x_ev x_nm x_tf x_fn x_Pg x_EV 108 (some .int) r h' xb_X7_word_21 21 ls st h) : x_EV 108 21 ls st h r h' := x_Ev_to (M := xm_X7_word) (is := xb_X7_word_21) pg_X7_word (by rfl) H
theorem xe_X7_word_28 {ls : xL} {st : List Value} {h h' : xH} {r : Option Value} (H : x_ev x_nm x_tf x_fn x_Pg x_EV 108 (some .int) r h' xb_X7_word_28 28 ls st h) : x_EV 108 28 ls st h r h' := x_Ev_to (M := xm_X7_word) (is := xb_X7_word_28) pg_X7_word (by rfl) H
theorem xe_X7_word_72 {ls : xL} {st : List Value} {h h' : xH} {r : Option Value} (H : x_ev x_nm x_tf x_fn x_Pg x_EV 108 (some .int) r h' xb_X7_word_72 72 ls st h) : x_EV 108 72 ls st h r h' := x_Ev_to (M := xm_X7_word) (is := xb_X7_word_72) pg_X7_word (by rfl) H
theorem xe_X7_word_79 {ls : xL} {st : List Value} {h h' : xH} {r : Option Value} (H : x_ev x_nm x_tf x_fn x_Pg x_EV 108 (some .int) r h' xb_X7_word_79 79 ls st h) : x_EV 108 79 ls st h r h' := x_Ev_to (M := xm_X7_word) (is := xb_X7_word_79) pg_X7_word (by rfl) H
theorem xe_X7_word_89 {ls : xL} {st : List Value} {h h' : xH} {r : Option Value} (H : x_ev x_nm x_tf x_fn x_Pg x_EV 108 (some .int) r h' xb_X7_word_89 89 ls st h) : x_EV 108 89 ls st h r h' := x_Ev_to (M := xm_X7_word) (is := xb_X7_word_89) pg_X7_word (by rfl) H
theorem xe_X7_word_95 {ls : xL} {st : List Value} {h h' : xH} {r : Option Value} (H : x_ev x_nm x_tf x_fn x_Pg x_EV 108 (some .int) r h' xb_X7_word_95 95 ls st h) : x_EV 108 95 ls st h r h' := x_Ev_to (M := xm_X7_word) (is := xb_X7_word_95) pg_X7_word (by rfl) H
theorem xe_X7_word_96 {ls : xL} {st : List Value} {h h' : xH} {r : Option Value} (H : x_ev x_nm x_tf x_fn x_Pg x_EV 108 (some .int) r h' xb_X7_word_96 96 ls st h) : x_EV 108 96 ls st h r h' := x_Ev_to (M := xm_X7_word) (is := xb_X7_word_96) pg_X7_word (by rfl) H
theorem xe_X7_word_106 {ls : xL} {st : List Value} {h h' : xH} {r : Option Value} (H : x_ev x_nm x_tf x_fn x_Pg x_EV 108 (some .int) r h' xb_X7_word_106 106 ls st h) : x_EV 108 106 ls st h r h' := x_Ev_to (M := xm_X7_word) (is := xb_X7_word_106) pg_X7_word (by rfl) H
theorem xe_X7_word_112 {ls : xL} {st : List Value} {h h' : xH} {r : Option Value} (H : x_ev x_nm x_tf x_fn x_Pg x_EV 108 (some .int) r h' xb_X7_word_112 112 ls st h) : x_EV 108 112 ls st h r h' := x_Ev_to (M := xm_X7_word) (is := xb_X7_word_112) pg_X7_word (by rfl) H
theorem xe_X7_word_113 {ls : xL} {st : List Value} {h h' : xH} {r : Option Value} (H : x_ev x_nm x_tf x_fn x_Pg x_EV 108 (some .int) r h' xb_X7_word_113 113 ls st h) : x_EV 108 113 ls st h r h' := x_Ev_to (M := xm_X7_word) (is := xb_X7_word_113) pg_X7_word (by rfl) H
theorem xe_X7_word_120 {ls : xL} {st : List Value} {h h' : xH} {r : Option Value} (H : x_ev x_nm x_tf x_fn x_Pg x_EV 108 (some .int) r h' xb_X7_word_120 120 ls st h) : x_EV 108 120 ls st h r h' := x_Ev_to (M := xm_X7_word) (is := xb_X7_word_120) pg_X7_word (by rfl) H
theorem xe_X7_word_127 {ls : xL} {st : List Value} {h h' : xH} {r : Option Value} (H : x_ev x_nm x_tf x_fn x_Pg x_EV 108 (some .int) r h' xb_X7_word_127 127 ls st h) : x_EV 108 127 ls st h r h' := x_Ev_to (M := xm_X7_word) (is := xb_X7_word_127) pg_X7_word (by rfl) H
theorem xe_X7_word_134 {ls : xL} {st : List Value} {h h' : xH} {r : Option Value} (H : x_ev x_nm x_tf x_fn x_Pg x_EV 108 (some .int) r h' xb_X7_word_134 134 ls st h) : x_EV 108 134 ls st h r h' := x_Ev_to (M := xm_X7_word) (is := xb_X7_word_134) pg_X7_word (by rfl) H
theorem xK_X7_word {o : Nat} {x1 : Int32} {x2 : Int32} {h h1 : xH} {r : Option Value} {fs : List Value} (ho : h[o]? = some (.inr (6, fs))) (H : x_EV 108 0 [some (.ref o), some (.int x1), some (.int x2), none, none] [] h r h1) : xK 108 [.ref o, .int x1, .int x2] h r h1 := x_calX_v pg_X7_word rfl rfl (Nat.le_of_ble_eq_true rfl) rfl ho H
theorem pg_X8_wordOf : x_Pg[109]? = some xm_X8_wordOf := by
  unfold x_Pg
  rfl
theorem xe_X8_wordOf_0 {ls : xL} {st : List Value} {h h' : xH} {r : Option Value} (H : x_ev x_nm x_tf x_fn x_Pg x_EV 109 (some .int) r h' xb_X8_wordOf_0 0 ls st h) : x_EV 109 0 ls st h r h' := x_Ev_to (M := xm_X8_wordOf) (is := xb_X8_wordOf_0) pg_X8_wordOf (by rfl) H
theorem xe_X8_wordOf_9 {ls : xL} {st : List Value} {h h' : xH} {r : Option Value} (H : x_ev x_nm x_tf x_fn x_Pg x_EV 109 (some .int) r h' xb_X8_wordOf_9 9 ls st h) : x_EV 109 9 ls st h r h' := x_Ev_to (M := xm_X8_wordOf) (is := xb_X8_wordOf_9) pg_X8_wordOf (by rfl) H
theorem xe_X8_wordOf_26 {ls : xL} {st : List Value} {h h' : xH} {r : Option Value} (H : x_ev x_nm x_tf x_fn x_Pg x_EV 109 (some .int) r h' xb_X8_wordOf_26 26 ls st h) : x_EV 109 26 ls st h r h' := x_Ev_to (M := xm_X8_wordOf) (is := xb_X8_wordOf_26) pg_X8_wordOf (by rfl) H
theorem xe_X8_wordOf_29 {ls : xL} {st : List Value} {h h' : xH} {r : Option Value} (H : x_ev x_nm x_tf x_fn x_Pg x_EV 109 (some .int) r h' xb_X8_wordOf_29 29 ls st h) : x_EV 109 29 ls st h r h' := x_Ev_to (M := xm_X8_wordOf) (is := xb_X8_wordOf_29) pg_X8_wordOf (by rfl) H
theorem xe_X8_wordOf_32 {ls : xL} {st : List Value} {h h' : xH} {r : Option Value} (H : x_ev x_nm x_tf x_fn x_Pg x_EV 109 (some .int) r h' xb_X8_wordOf_32 32 ls st h) : x_EV 109 32 ls st h r h' := x_Ev_to (M := xm_X8_wordOf) (is := xb_X8_wordOf_32) pg_X8_wordOf (by rfl) H
theorem xe_X8_wordOf_48 {ls : xL} {st : List Value} {h h' : xH} {r : Option Value} (H : x_ev x_nm x_tf x_fn x_Pg x_EV 109 (some .int) r h' xb_X8_wordOf_48 48 ls st h) : x_EV 109 48 ls st h r h' := x_Ev_to (M := xm_X8_wordOf) (is := xb_X8_wordOf_48) pg_X8_wordOf (by rfl) H
theorem xe_X8_wordOf_73 {ls : xL} {st : List Value} {h h' : xH} {r : Option Value} (H : x_ev x_nm x_tf x_fn x_Pg x_EV 109 (some .int) r h' xb_X8_wordOf_73 73 ls st h) : x_EV 109 73 ls st h r h' := x_Ev_to (M := xm_X8_wordOf) (is := xb_X8_wordOf_73) pg_X8_wordOf (by rfl) H
theorem xe_X8_wordOf_79 {ls : xL} {st : List Value} {h h' : xH} {r : Option Value} (H : x_ev x_nm x_tf x_fn x_Pg x_EV 109 (some .int) r h' xb_X8_wordOf_79 79 ls st h) : x_EV 109 79 ls st h r h' := x_Ev_to (M := xm_X8_wordOf) (is := xb_X8_wordOf_79) pg_X8_wordOf (by rfl) H
theorem xK_X8_wordOf {o : Nat} {x1 : Int32} {x2 : Int32} {h h1 : xH} {r : Option Value} {fs : List Value} (ho : h[o]? = some (.inr (7, fs))) (H : x_EV 109 0 [some (.ref o), some (.int x1), some (.int x2)] [] h r h1) : xK 109 [.ref o, .int x1, .int x2] h r h1 := x_calX_v pg_X8_wordOf rfl rfl (Nat.le_of_ble_eq_true rfl) rfl ho H
theorem pg_X8_word : x_Pg[110]? = some xm_X8_word := by
  unfold x_Pg
  rfl
theorem xe_X8_word_0 {ls : xL} {st : List Value} {h h' : xH} {r : Option Value} (H : x_ev x_nm x_tf x_fn x_Pg x_EV 110 (some .int) r h' xb_X8_word_0 0 ls st h) : x_EV 110 0 ls st h r h' := x_Ev_to (M := xm_X8_word) (is := xb_X8_word_0) pg_X8_word (by rfl) H
theorem xe_X8_word_33 {ls : xL} {st : List Value} {h h' : xH} {r : Option Value} (H : x_ev x_nm x_tf x_fn x_Pg x_EV 110 (some .int) r h' xb_X8_word_33 33 ls st h) : x_EV 110 33 ls st h r h' := x_Ev_to (M := xm_X8_word) (is := xb_X8_word_33) pg_X8_word (by rfl) H
theorem xe_X8_word_37 {ls : xL} {st : List Value} {h h' : xH} {r : Option Value} (H : x_ev x_nm x_tf x_fn x_Pg x_EV 110 (some .int) r h' xb_X8_word_37 37 ls st h) : x_EV 110 37 ls st h r h' := x_Ev_to (M := xm_X8_word) (is := xb_X8_word_37) pg_X8_word (by rfl) H
theorem xK_X8_word {o : Nat} {x1 : Int32} {x2 : Int32} {h h1 : xH} {r : Option Value} {fs : List Value} (ho : h[o]? = some (.inr (7, fs))) (H : x_EV 110 0 [some (.ref o), some (.int x1), some (.int x2)] [] h r h1) : xK 110 [.ref o, .int x1, .int x2] h r h1 := x_calX_v pg_X8_word rfl rfl (Nat.le_of_ble_eq_true rfl) rfl ho H
theorem pg_X4_sumOfRepairs : x_Pg[111]? = some xm_X4_sumOfRepairs := by
  unfold x_Pg
  rfl
theorem xe_X4_sumOfRepairs_0 {ls : xL} {st : List Value} {h h' : xH} {r : Option Value} (H : x_ev x_nm x_tf x_fn x_Pg x_EV 111 (some .int) r h' xb_X4_sumOfRepairs_0 0 ls st h) : x_EV 111 0 ls st h r h' := x_Ev_to (M := xm_X4_sumOfRepairs) (is := xb_X4_sumOfRepairs_0) pg_X4_sumOfRepairs (by rfl) H
theorem xe_X4_sumOfRepairs_4 {ls : xL} {st : List Value} {h h' : xH} {r : Option Value} (H : x_ev x_nm x_tf x_fn x_Pg x_EV 111 (some .int) r h' xb_X4_sumOfRepairs_4 4 ls st h) : x_EV 111 4 ls st h r h' := x_Ev_to (M := xm_X4_sumOfRepairs) (is := xb_X4_sumOfRepairs_4) pg_X4_sumOfRepairs (by rfl) H
theorem xe_X4_sumOfRepairs_27 {ls : xL} {st : List Value} {h h' : xH} {r : Option Value} (H : x_ev x_nm x_tf x_fn x_Pg x_EV 111 (some .int) r h' xb_X4_sumOfRepairs_27 27 ls st h) : x_EV 111 27 ls st h r h' := x_Ev_to (M := xm_X4_sumOfRepairs) (is := xb_X4_sumOfRepairs_27) pg_X4_sumOfRepairs (by rfl) H
theorem xK_X4_sumOfRepairs {o : Nat}  {h h1 : xH} {r : Option Value} {fs : List Value} (ho : h[o]? = some (.inr (3, fs))) (H : x_EV 111 0 [some (.ref o), none, none] [] h r h1) : xK 111 [.ref o] h r h1 := x_calX_v pg_X4_sumOfRepairs rfl rfl (Nat.le_of_ble_eq_true rfl) rfl ho H
theorem pg_X2_rootOf : x_Pg[112]? = some xm_X2_rootOf := by
  unfold x_Pg
  rfl
theorem xe_X2_rootOf_0 {ls : xL} {st : List Value} {h h' : xH} {r : Option Value} (H : x_ev x_nm x_tf x_fn x_Pg x_EV 112 (some .int) r h' xb_X2_rootOf_0 0 ls st h) : x_EV 112 0 ls st h r h' := x_Ev_to (M := xm_X2_rootOf) (is := xb_X2_rootOf_0) pg_X2_rootOf (by rfl) H
theorem xe_X2_rootOf_2 {ls : xL} {st : List Value} {h h' : xH} {r : Option Value} (H : x_ev x_nm x_tf x_fn x_Pg x_EV 112 (some .int) r h' xb_X2_rootOf_2 2 ls st h) : x_EV 112 2 ls st h r h' := x_Ev_to (M := xm_X2_rootOf) (is := xb_X2_rootOf_2) pg_X2_rootOf (by rfl) H
theorem xe_X2_rootOf_17 {ls : xL} {st : List Value} {h h' : xH} {r : Option Value} (H : x_ev x_nm x_tf x_fn x_Pg x_EV 112 (some .int) r h' xb_X2_rootOf_17 17 ls st h) : x_EV 112 17 ls st h r h' := x_Ev_to (M := xm_X2_rootOf) (is := xb_X2_rootOf_17) pg_X2_rootOf (by rfl) H
theorem xe_X2_rootOf_23 {ls : xL} {st : List Value} {h h' : xH} {r : Option Value} (H : x_ev x_nm x_tf x_fn x_Pg x_EV 112 (some .int) r h' xb_X2_rootOf_23 23 ls st h) : x_EV 112 23 ls st h r h' := x_Ev_to (M := xm_X2_rootOf) (is := xb_X2_rootOf_23) pg_X2_rootOf (by rfl) H
theorem xK_X2_rootOf {x1 : Int32} {x2 : Int32} {h h1 : xH} {r : Option Value} (H : x_EV 112 0 [some (.int x1), some (.int x2), none] [] h r h1) : xK 112 [.int x1, .int x2] h r h1 := x_calX_s pg_X2_rootOf rfl (Nat.le_of_ble_eq_true rfl) rfl H
theorem pg_X2_levelOf : x_Pg[113]? = some xm_X2_levelOf := by
  unfold x_Pg
  rfl
theorem xe_X2_levelOf_0 {ls : xL} {st : List Value} {h h' : xH} {r : Option Value} (H : x_ev x_nm x_tf x_fn x_Pg x_EV 113 (some .int) r h' xb_X2_levelOf_0 0 ls st h) : x_EV 113 0 ls st h r h' := x_Ev_to (M := xm_X2_levelOf) (is := xb_X2_levelOf_0) pg_X2_levelOf (by rfl) H
theorem xe_X2_levelOf_8 {ls : xL} {st : List Value} {h h' : xH} {r : Option Value} (H : x_ev x_nm x_tf x_fn x_Pg x_EV 113 (some .int) r h' xb_X2_levelOf_8 8 ls st h) : x_EV 113 8 ls st h r h' := x_Ev_to (M := xm_X2_levelOf) (is := xb_X2_levelOf_8) pg_X2_levelOf (by rfl) H
theorem xe_X2_levelOf_30 {ls : xL} {st : List Value} {h h' : xH} {r : Option Value} (H : x_ev x_nm x_tf x_fn x_Pg x_EV 113 (some .int) r h' xb_X2_levelOf_30 30 ls st h) : x_EV 113 30 ls st h r h' := x_Ev_to (M := xm_X2_levelOf) (is := xb_X2_levelOf_30) pg_X2_levelOf (by rfl) H
theorem xK_X2_levelOf {x1 : Int32} {x2 : Int32} {h h1 : xH} {r : Option Value} (H : x_EV 113 0 [some (.int x1), some (.int x2), none, none] [] h r h1) : xK 113 [.int x1, .int x2] h r h1 := x_calX_s pg_X2_levelOf rfl (Nat.le_of_ble_eq_true rfl) rfl H
theorem pg_X2_deepestLevel : x_Pg[114]? = some xm_X2_deepestLevel := by
  unfold x_Pg
  rfl
theorem xe_X2_deepestLevel_0 {ls : xL} {st : List Value} {h h' : xH} {r : Option Value} (H : x_ev x_nm x_tf x_fn x_Pg x_EV 114 (some .int) r h' xb_X2_deepestLevel_0 0 ls st h) : x_EV 114 0 ls st h r h' := x_Ev_to (M := xm_X2_deepestLevel) (is := xb_X2_deepestLevel_0) pg_X2_deepestLevel (by rfl) H
theorem xe_X2_deepestLevel_4 {ls : xL} {st : List Value} {h h' : xH} {r : Option Value} (H : x_ev x_nm x_tf x_fn x_Pg x_EV 114 (some .int) r h' xb_X2_deepestLevel_4 4 ls st h) : x_EV 114 4 ls st h r h' := x_Ev_to (M := xm_X2_deepestLevel) (is := xb_X2_deepestLevel_4) pg_X2_deepestLevel (by rfl) H
theorem xe_X2_deepestLevel_25 {ls : xL} {st : List Value} {h h' : xH} {r : Option Value} (H : x_ev x_nm x_tf x_fn x_Pg x_EV 114 (some .int) r h' xb_X2_deepestLevel_25 25 ls st h) : x_EV 114 25 ls st h r h' := x_Ev_to (M := xm_X2_deepestLevel) (is := xb_X2_deepestLevel_25) pg_X2_deepestLevel (by rfl) H
theorem xK_X2_deepestLevel {x1 : Int32} {x2 : Int32} {h h1 : xH} {r : Option Value} (H : x_EV 114 0 [some (.int x1), some (.int x2), none, none] [] h r h1) : xK 114 [.int x1, .int x2] h r h1 := x_calX_s pg_X2_deepestLevel rfl (Nat.le_of_ble_eq_true rfl) rfl H
theorem pg_X7_held : x_Pg[115]? = some xm_X7_held := by
  unfold x_Pg
  rfl
theorem xe_X7_held_0 {ls : xL} {st : List Value} {h h' : xH} {r : Option Value} (H : x_ev x_nm x_tf x_fn x_Pg x_EV 115 (some .int) r h' xb_X7_held_0 0 ls st h) : x_EV 115 0 ls st h r h' := x_Ev_to (M := xm_X7_held) (is := xb_X7_held_0) pg_X7_held (by rfl) H
theorem xe_X7_held_56 {ls : xL} {st : List Value} {h h' : xH} {r : Option Value} (H : x_ev x_nm x_tf x_fn x_Pg x_EV 115 (some .int) r h' xb_X7_held_56 56 ls st h) : x_EV 115 56 ls st h r h' := x_Ev_to (M := xm_X7_held) (is := xb_X7_held_56) pg_X7_held (by rfl) H
theorem xe_X7_held_61 {ls : xL} {st : List Value} {h h' : xH} {r : Option Value} (H : x_ev x_nm x_tf x_fn x_Pg x_EV 115 (some .int) r h' xb_X7_held_61 61 ls st h) : x_EV 115 61 ls st h r h' := x_Ev_to (M := xm_X7_held) (is := xb_X7_held_61) pg_X7_held (by rfl) H
theorem xe_X7_held_72 {ls : xL} {st : List Value} {h h' : xH} {r : Option Value} (H : x_ev x_nm x_tf x_fn x_Pg x_EV 115 (some .int) r h' xb_X7_held_72 72 ls st h) : x_EV 115 72 ls st h r h' := x_Ev_to (M := xm_X7_held) (is := xb_X7_held_72) pg_X7_held (by rfl) H
theorem xe_X7_held_73 {ls : xL} {st : List Value} {h h' : xH} {r : Option Value} (H : x_ev x_nm x_tf x_fn x_Pg x_EV 115 (some .int) r h' xb_X7_held_73 73 ls st h) : x_EV 115 73 ls st h r h' := x_Ev_to (M := xm_X7_held) (is := xb_X7_held_73) pg_X7_held (by rfl) H
theorem xe_X7_held_74 {ls : xL} {st : List Value} {h h' : xH} {r : Option Value} (H : x_ev x_nm x_tf x_fn x_Pg x_EV 115 (some .int) r h' xb_X7_held_74 74 ls st h) : x_EV 115 74 ls st h r h' := x_Ev_to (M := xm_X7_held) (is := xb_X7_held_74) pg_X7_held (by rfl) H
theorem xe_X7_held_79 {ls : xL} {st : List Value} {h h' : xH} {r : Option Value} (H : x_ev x_nm x_tf x_fn x_Pg x_EV 115 (some .int) r h' xb_X7_held_79 79 ls st h) : x_EV 115 79 ls st h r h' := x_Ev_to (M := xm_X7_held) (is := xb_X7_held_79) pg_X7_held (by rfl) H
theorem xe_X7_held_84 {ls : xL} {st : List Value} {h h' : xH} {r : Option Value} (H : x_ev x_nm x_tf x_fn x_Pg x_EV 115 (some .int) r h' xb_X7_held_84 84 ls st h) : x_EV 115 84 ls st h r h' := x_Ev_to (M := xm_X7_held) (is := xb_X7_held_84) pg_X7_held (by rfl) H
theorem xe_X7_held_94 {ls : xL} {st : List Value} {h h' : xH} {r : Option Value} (H : x_ev x_nm x_tf x_fn x_Pg x_EV 115 (some .int) r h' xb_X7_held_94 94 ls st h) : x_EV 115 94 ls st h r h' := x_Ev_to (M := xm_X7_held) (is := xb_X7_held_94) pg_X7_held (by rfl) H
theorem xe_X7_held_103 {ls : xL} {st : List Value} {h h' : xH} {r : Option Value} (H : x_ev x_nm x_tf x_fn x_Pg x_EV 115 (some .int) r h' xb_X7_held_103 103 ls st h) : x_EV 115 103 ls st h r h' := x_Ev_to (M := xm_X7_held) (is := xb_X7_held_103) pg_X7_held (by rfl) H
theorem xe_X7_held_111 {ls : xL} {st : List Value} {h h' : xH} {r : Option Value} (H : x_ev x_nm x_tf x_fn x_Pg x_EV 115 (some .int) r h' xb_X7_held_111 111 ls st h) : x_EV 115 111 ls st h r h' := x_Ev_to (M := xm_X7_held) (is := xb_X7_held_111) pg_X7_held (by rfl) H
theorem xe_X7_held_112 {ls : xL} {st : List Value} {h h' : xH} {r : Option Value} (H : x_ev x_nm x_tf x_fn x_Pg x_EV 115 (some .int) r h' xb_X7_held_112 112 ls st h) : x_EV 115 112 ls st h r h' := x_Ev_to (M := xm_X7_held) (is := xb_X7_held_112) pg_X7_held (by rfl) H
theorem xe_X7_held_121 {ls : xL} {st : List Value} {h h' : xH} {r : Option Value} (H : x_ev x_nm x_tf x_fn x_Pg x_EV 115 (some .int) r h' xb_X7_held_121 121 ls st h) : x_EV 115 121 ls st h r h' := x_Ev_to (M := xm_X7_held) (is := xb_X7_held_121) pg_X7_held (by rfl) H
theorem xe_X7_held_129 {ls : xL} {st : List Value} {h h' : xH} {r : Option Value} (H : x_ev x_nm x_tf x_fn x_Pg x_EV 115 (some .int) r h' xb_X7_held_129 129 ls st h) : x_EV 115 129 ls st h r h' := x_Ev_to (M := xm_X7_held) (is := xb_X7_held_129) pg_X7_held (by rfl) H
theorem xe_X7_held_130 {ls : xL} {st : List Value} {h h' : xH} {r : Option Value} (H : x_ev x_nm x_tf x_fn x_Pg x_EV 115 (some .int) r h' xb_X7_held_130 130 ls st h) : x_EV 115 130 ls st h r h' := x_Ev_to (M := xm_X7_held) (is := xb_X7_held_130) pg_X7_held (by rfl) H
theorem xK_X7_held {o : Nat} {x1 : Int32} {h h1 : xH} {r : Option Value} {fs : List Value} (ho : h[o]? = some (.inr (6, fs))) (H : x_EV 115 0 [some (.ref o), some (.int x1), none, none] [] h r h1) : xK 115 [.ref o, .int x1] h r h1 := x_calX_v pg_X7_held rfl rfl (Nat.le_of_ble_eq_true rfl) rfl ho H
theorem pg_X8_levelOf : x_Pg[116]? = some xm_X8_levelOf := by
  unfold x_Pg
  rfl
theorem xe_X8_levelOf_0 {ls : xL} {st : List Value} {h h' : xH} {r : Option Value} (H : x_ev x_nm x_tf x_fn x_Pg x_EV 116 (some .int) r h' xb_X8_levelOf_0 0 ls st h) : x_EV 116 0 ls st h r h' := x_Ev_to (M := xm_X8_levelOf) (is := xb_X8_levelOf_0) pg_X8_levelOf (by rfl) H
theorem xe_X8_levelOf_4 {ls : xL} {st : List Value} {h h' : xH} {r : Option Value} (H : x_ev x_nm x_tf x_fn x_Pg x_EV 116 (some .int) r h' xb_X8_levelOf_4 4 ls st h) : x_EV 116 4 ls st h r h' := x_Ev_to (M := xm_X8_levelOf) (is := xb_X8_levelOf_4) pg_X8_levelOf (by rfl) H
theorem xe_X8_levelOf_26 {ls : xL} {st : List Value} {h h' : xH} {r : Option Value} (H : x_ev x_nm x_tf x_fn x_Pg x_EV 116 (some .int) r h' xb_X8_levelOf_26 26 ls st h) : x_EV 116 26 ls st h r h' := x_Ev_to (M := xm_X8_levelOf) (is := xb_X8_levelOf_26) pg_X8_levelOf (by rfl) H
theorem xK_X8_levelOf {o : Nat} {x1 : Int32} {h h1 : xH} {r : Option Value} {fs : List Value} (ho : h[o]? = some (.inr (7, fs))) (H : x_EV 116 0 [some (.ref o), some (.int x1), none, none] [] h r h1) : xK 116 [.ref o, .int x1] h r h1 := x_calX_v pg_X8_levelOf rfl rfl (Nat.le_of_ble_eq_true rfl) rfl ho H
theorem pg_X8_heldOf : x_Pg[117]? = some xm_X8_heldOf := by
  unfold x_Pg
  rfl
theorem xe_X8_heldOf_0 {ls : xL} {st : List Value} {h h' : xH} {r : Option Value} (H : x_ev x_nm x_tf x_fn x_Pg x_EV 117 (some .int) r h' xb_X8_heldOf_0 0 ls st h) : x_EV 117 0 ls st h r h' := x_Ev_to (M := xm_X8_heldOf) (is := xb_X8_heldOf_0) pg_X8_heldOf (by rfl) H
theorem xe_X8_heldOf_21 {ls : xL} {st : List Value} {h h' : xH} {r : Option Value} (H : x_ev x_nm x_tf x_fn x_Pg x_EV 117 (some .int) r h' xb_X8_heldOf_21 21 ls st h) : x_EV 117 21 ls st h r h' := x_Ev_to (M := xm_X8_heldOf) (is := xb_X8_heldOf_21) pg_X8_heldOf (by rfl) H
theorem xe_X8_heldOf_42 {ls : xL} {st : List Value} {h h' : xH} {r : Option Value} (H : x_ev x_nm x_tf x_fn x_Pg x_EV 117 (some .int) r h' xb_X8_heldOf_42 42 ls st h) : x_EV 117 42 ls st h r h' := x_Ev_to (M := xm_X8_heldOf) (is := xb_X8_heldOf_42) pg_X8_heldOf (by rfl) H
theorem xe_X8_heldOf_43 {ls : xL} {st : List Value} {h h' : xH} {r : Option Value} (H : x_ev x_nm x_tf x_fn x_Pg x_EV 117 (some .int) r h' xb_X8_heldOf_43 43 ls st h) : x_EV 117 43 ls st h r h' := x_Ev_to (M := xm_X8_heldOf) (is := xb_X8_heldOf_43) pg_X8_heldOf (by rfl) H
theorem xe_X8_heldOf_64 {ls : xL} {st : List Value} {h h' : xH} {r : Option Value} (H : x_ev x_nm x_tf x_fn x_Pg x_EV 117 (some .int) r h' xb_X8_heldOf_64 64 ls st h) : x_EV 117 64 ls st h r h' := x_Ev_to (M := xm_X8_heldOf) (is := xb_X8_heldOf_64) pg_X8_heldOf (by rfl) H
theorem xe_X8_heldOf_66 {ls : xL} {st : List Value} {h h' : xH} {r : Option Value} (H : x_ev x_nm x_tf x_fn x_Pg x_EV 117 (some .int) r h' xb_X8_heldOf_66 66 ls st h) : x_EV 117 66 ls st h r h' := x_Ev_to (M := xm_X8_heldOf) (is := xb_X8_heldOf_66) pg_X8_heldOf (by rfl) H
theorem xe_X8_heldOf_74 {ls : xL} {st : List Value} {h h' : xH} {r : Option Value} (H : x_ev x_nm x_tf x_fn x_Pg x_EV 117 (some .int) r h' xb_X8_heldOf_74 74 ls st h) : x_EV 117 74 ls st h r h' := x_Ev_to (M := xm_X8_heldOf) (is := xb_X8_heldOf_74) pg_X8_heldOf (by rfl) H
theorem xe_X8_heldOf_83 {ls : xL} {st : List Value} {h h' : xH} {r : Option Value} (H : x_ev x_nm x_tf x_fn x_Pg x_EV 117 (some .int) r h' xb_X8_heldOf_83 83 ls st h) : x_EV 117 83 ls st h r h' := x_Ev_to (M := xm_X8_heldOf) (is := xb_X8_heldOf_83) pg_X8_heldOf (by rfl) H
theorem xe_X8_heldOf_85 {ls : xL} {st : List Value} {h h' : xH} {r : Option Value} (H : x_ev x_nm x_tf x_fn x_Pg x_EV 117 (some .int) r h' xb_X8_heldOf_85 85 ls st h) : x_EV 117 85 ls st h r h' := x_Ev_to (M := xm_X8_heldOf) (is := xb_X8_heldOf_85) pg_X8_heldOf (by rfl) H
theorem xK_X8_heldOf {o : Nat} {x1 : Int32} {h h1 : xH} {r : Option Value} {fs : List Value} (ho : h[o]? = some (.inr (7, fs))) (H : x_EV 117 0 [some (.ref o), some (.int x1), none, none, none, none] [] h r h1) : xK 117 [.ref o, .int x1] h r h1 := x_calX_v pg_X8_heldOf rfl rfl (Nat.le_of_ble_eq_true rfl) rfl ho H
theorem pg_X8_aboutHeld : x_Pg[118]? = some xm_X8_aboutHeld := by
  unfold x_Pg
  rfl
theorem xe_X8_aboutHeld_0 {ls : xL} {st : List Value} {h h' : xH} {r : Option Value} (H : x_ev x_nm x_tf x_fn x_Pg x_EV 118 (some .int) r h' xb_X8_aboutHeld_0 0 ls st h) : x_EV 118 0 ls st h r h' := x_Ev_to (M := xm_X8_aboutHeld) (is := xb_X8_aboutHeld_0) pg_X8_aboutHeld (by rfl) H
theorem xe_X8_aboutHeld_36 {ls : xL} {st : List Value} {h h' : xH} {r : Option Value} (H : x_ev x_nm x_tf x_fn x_Pg x_EV 118 (some .int) r h' xb_X8_aboutHeld_36 36 ls st h) : x_EV 118 36 ls st h r h' := x_Ev_to (M := xm_X8_aboutHeld) (is := xb_X8_aboutHeld_36) pg_X8_aboutHeld (by rfl) H
theorem xe_X8_aboutHeld_44 {ls : xL} {st : List Value} {h h' : xH} {r : Option Value} (H : x_ev x_nm x_tf x_fn x_Pg x_EV 118 (some .int) r h' xb_X8_aboutHeld_44 44 ls st h) : x_EV 118 44 ls st h r h' := x_Ev_to (M := xm_X8_aboutHeld) (is := xb_X8_aboutHeld_44) pg_X8_aboutHeld (by rfl) H
theorem xe_X8_aboutHeld_55 {ls : xL} {st : List Value} {h h' : xH} {r : Option Value} (H : x_ev x_nm x_tf x_fn x_Pg x_EV 118 (some .int) r h' xb_X8_aboutHeld_55 55 ls st h) : x_EV 118 55 ls st h r h' := x_Ev_to (M := xm_X8_aboutHeld) (is := xb_X8_aboutHeld_55) pg_X8_aboutHeld (by rfl) H
theorem xe_X8_aboutHeld_56 {ls : xL} {st : List Value} {h h' : xH} {r : Option Value} (H : x_ev x_nm x_tf x_fn x_Pg x_EV 118 (some .int) r h' xb_X8_aboutHeld_56 56 ls st h) : x_EV 118 56 ls st h r h' := x_Ev_to (M := xm_X8_aboutHeld) (is := xb_X8_aboutHeld_56) pg_X8_aboutHeld (by rfl) H
theorem xe_X8_aboutHeld_57 {ls : xL} {st : List Value} {h h' : xH} {r : Option Value} (H : x_ev x_nm x_tf x_fn x_Pg x_EV 118 (some .int) r h' xb_X8_aboutHeld_57 57 ls st h) : x_EV 118 57 ls st h r h' := x_Ev_to (M := xm_X8_aboutHeld) (is := xb_X8_aboutHeld_57) pg_X8_aboutHeld (by rfl) H
theorem xe_X8_aboutHeld_63 {ls : xL} {st : List Value} {h h' : xH} {r : Option Value} (H : x_ev x_nm x_tf x_fn x_Pg x_EV 118 (some .int) r h' xb_X8_aboutHeld_63 63 ls st h) : x_EV 118 63 ls st h r h' := x_Ev_to (M := xm_X8_aboutHeld) (is := xb_X8_aboutHeld_63) pg_X8_aboutHeld (by rfl) H
theorem xe_X8_aboutHeld_69 {ls : xL} {st : List Value} {h h' : xH} {r : Option Value} (H : x_ev x_nm x_tf x_fn x_Pg x_EV 118 (some .int) r h' xb_X8_aboutHeld_69 69 ls st h) : x_EV 118 69 ls st h r h' := x_Ev_to (M := xm_X8_aboutHeld) (is := xb_X8_aboutHeld_69) pg_X8_aboutHeld (by rfl) H
theorem xe_X8_aboutHeld_104 {ls : xL} {st : List Value} {h h' : xH} {r : Option Value} (H : x_ev x_nm x_tf x_fn x_Pg x_EV 118 (some .int) r h' xb_X8_aboutHeld_104 104 ls st h) : x_EV 118 104 ls st h r h' := x_Ev_to (M := xm_X8_aboutHeld) (is := xb_X8_aboutHeld_104) pg_X8_aboutHeld (by rfl) H
theorem xe_X8_aboutHeld_105 {ls : xL} {st : List Value} {h h' : xH} {r : Option Value} (H : x_ev x_nm x_tf x_fn x_Pg x_EV 118 (some .int) r h' xb_X8_aboutHeld_105 105 ls st h) : x_EV 118 105 ls st h r h' := x_Ev_to (M := xm_X8_aboutHeld) (is := xb_X8_aboutHeld_105) pg_X8_aboutHeld (by rfl) H
theorem xe_X8_aboutHeld_106 {ls : xL} {st : List Value} {h h' : xH} {r : Option Value} (H : x_ev x_nm x_tf x_fn x_Pg x_EV 118 (some .int) r h' xb_X8_aboutHeld_106 106 ls st h) : x_EV 118 106 ls st h r h' := x_Ev_to (M := xm_X8_aboutHeld) (is := xb_X8_aboutHeld_106) pg_X8_aboutHeld (by rfl) H
theorem xe_X8_aboutHeld_128 {ls : xL} {st : List Value} {h h' : xH} {r : Option Value} (H : x_ev x_nm x_tf x_fn x_Pg x_EV 118 (some .int) r h' xb_X8_aboutHeld_128 128 ls st h) : x_EV 118 128 ls st h r h' := x_Ev_to (M := xm_X8_aboutHeld) (is := xb_X8_aboutHeld_128) pg_X8_aboutHeld (by rfl) H
theorem xe_X8_aboutHeld_129 {ls : xL} {st : List Value} {h h' : xH} {r : Option Value} (H : x_ev x_nm x_tf x_fn x_Pg x_EV 118 (some .int) r h' xb_X8_aboutHeld_129 129 ls st h) : x_EV 118 129 ls st h r h' := x_Ev_to (M := xm_X8_aboutHeld) (is := xb_X8_aboutHeld_129) pg_X8_aboutHeld (by rfl) H
theorem xK_X8_aboutHeld {o : Nat} {x1 : Int32} {h h1 : xH} {r : Option Value} {fs : List Value} (ho : h[o]? = some (.inr (7, fs))) (H : x_EV 118 0 [some (.ref o), some (.int x1)] [] h r h1) : xK 118 [.ref o, .int x1] h r h1 := x_calX_v pg_X8_aboutHeld rfl rfl (Nat.le_of_ble_eq_true rfl) rfl ho H
theorem pg_X8_held : x_Pg[119]? = some xm_X8_held := by
  unfold x_Pg
  rfl
theorem xe_X8_held_0 {ls : xL} {st : List Value} {h h' : xH} {r : Option Value} (H : x_ev x_nm x_tf x_fn x_Pg x_EV 119 (some .int) r h' xb_X8_held_0 0 ls st h) : x_EV 119 0 ls st h r h' := x_Ev_to (M := xm_X8_held) (is := xb_X8_held_0) pg_X8_held (by rfl) H
theorem xe_X8_held_18 {ls : xL} {st : List Value} {h h' : xH} {r : Option Value} (H : x_ev x_nm x_tf x_fn x_Pg x_EV 119 (some .int) r h' xb_X8_held_18 18 ls st h) : x_EV 119 18 ls st h r h' := x_Ev_to (M := xm_X8_held) (is := xb_X8_held_18) pg_X8_held (by rfl) H
theorem xe_X8_held_22 {ls : xL} {st : List Value} {h h' : xH} {r : Option Value} (H : x_ev x_nm x_tf x_fn x_Pg x_EV 119 (some .int) r h' xb_X8_held_22 22 ls st h) : x_EV 119 22 ls st h r h' := x_Ev_to (M := xm_X8_held) (is := xb_X8_held_22) pg_X8_held (by rfl) H
theorem xK_X8_held {o : Nat} {x1 : Int32} {h h1 : xH} {r : Option Value} {fs : List Value} (ho : h[o]? = some (.inr (7, fs))) (H : x_EV 119 0 [some (.ref o), some (.int x1)] [] h r h1) : xK 119 [.ref o, .int x1] h r h1 := x_calX_v pg_X8_held rfl rfl (Nat.le_of_ble_eq_true rfl) rfl ho H
theorem pg_X7_best : x_Pg[120]? = some xm_X7_best := by
  unfold x_Pg
  rfl
theorem xe_X7_best_0 {ls : xL} {st : List Value} {h h' : xH} {r : Option Value} (H : x_ev x_nm x_tf x_fn x_Pg x_EV 120 (some .int) r h' xb_X7_best_0 0 ls st h) : x_EV 120 0 ls st h r h' := x_Ev_to (M := xm_X7_best) (is := xb_X7_best_0) pg_X7_best (by rfl) H
theorem xe_X7_best_27 {ls : xL} {st : List Value} {h h' : xH} {r : Option Value} (H : x_ev x_nm x_tf x_fn x_Pg x_EV 120 (some .int) r h' xb_X7_best_27 27 ls st h) : x_EV 120 27 ls st h r h' := x_Ev_to (M := xm_X7_best) (is := xb_X7_best_27) pg_X7_best (by rfl) H
theorem xe_X7_best_34 {ls : xL} {st : List Value} {h h' : xH} {r : Option Value} (H : x_ev x_nm x_tf x_fn x_Pg x_EV 120 (some .int) r h' xb_X7_best_34 34 ls st h) : x_EV 120 34 ls st h r h' := x_Ev_to (M := xm_X7_best) (is := xb_X7_best_34) pg_X7_best (by rfl) H
theorem xe_X7_best_58 {ls : xL} {st : List Value} {h h' : xH} {r : Option Value} (H : x_ev x_nm x_tf x_fn x_Pg x_EV 120 (some .int) r h' xb_X7_best_58 58 ls st h) : x_EV 120 58 ls st h r h' := x_Ev_to (M := xm_X7_best) (is := xb_X7_best_58) pg_X7_best (by rfl) H
theorem xe_X7_best_70 {ls : xL} {st : List Value} {h h' : xH} {r : Option Value} (H : x_ev x_nm x_tf x_fn x_Pg x_EV 120 (some .int) r h' xb_X7_best_70 70 ls st h) : x_EV 120 70 ls st h r h' := x_Ev_to (M := xm_X7_best) (is := xb_X7_best_70) pg_X7_best (by rfl) H
theorem xe_X7_best_90 {ls : xL} {st : List Value} {h h' : xH} {r : Option Value} (H : x_ev x_nm x_tf x_fn x_Pg x_EV 120 (some .int) r h' xb_X7_best_90 90 ls st h) : x_EV 120 90 ls st h r h' := x_Ev_to (M := xm_X7_best) (is := xb_X7_best_90) pg_X7_best (by rfl) H
theorem xe_X7_best_95 {ls : xL} {st : List Value} {h h' : xH} {r : Option Value} (H : x_ev x_nm x_tf x_fn x_Pg x_EV 120 (some .int) r h' xb_X7_best_95 95 ls st h) : x_EV 120 95 ls st h r h' := x_Ev_to (M := xm_X7_best) (is := xb_X7_best_95) pg_X7_best (by rfl) H
theorem xK_X7_best {o : Nat} {x1 : Int32} {x2 : Int32} {h h1 : xH} {r : Option Value} {fs : List Value} (ho : h[o]? = some (.inr (6, fs))) (H : x_EV 120 0 [some (.ref o), some (.int x1), some (.int x2), none] [] h r h1) : xK 120 [.ref o, .int x1, .int x2] h r h1 := x_calX_v pg_X7_best rfl rfl (Nat.le_of_ble_eq_true rfl) rfl ho H
theorem pg_X8_digitOf : x_Pg[121]? = some xm_X8_digitOf := by
  unfold x_Pg
  rfl
theorem xe_X8_digitOf_0 {ls : xL} {st : List Value} {h h' : xH} {r : Option Value} (H : x_ev x_nm x_tf x_fn x_Pg x_EV 121 (some .int) r h' xb_X8_digitOf_0 0 ls st h) : x_EV 121 0 ls st h r h' := x_Ev_to (M := xm_X8_digitOf) (is := xb_X8_digitOf_0) pg_X8_digitOf (by rfl) H
theorem xe_X8_digitOf_6 {ls : xL} {st : List Value} {h h' : xH} {r : Option Value} (H : x_ev x_nm x_tf x_fn x_Pg x_EV 121 (some .int) r h' xb_X8_digitOf_6 6 ls st h) : x_EV 121 6 ls st h r h' := x_Ev_to (M := xm_X8_digitOf) (is := xb_X8_digitOf_6) pg_X8_digitOf (by rfl) H
theorem xe_X8_digitOf_25 {ls : xL} {st : List Value} {h h' : xH} {r : Option Value} (H : x_ev x_nm x_tf x_fn x_Pg x_EV 121 (some .int) r h' xb_X8_digitOf_25 25 ls st h) : x_EV 121 25 ls st h r h' := x_Ev_to (M := xm_X8_digitOf) (is := xb_X8_digitOf_25) pg_X8_digitOf (by rfl) H
theorem xK_X8_digitOf {o : Nat} {x1 : Int32} {x2 : Int32} {x3 : Int32} {h h1 : xH} {r : Option Value} {fs : List Value} (ho : h[o]? = some (.inr (7, fs))) (H : x_EV 121 0 [some (.ref o), some (.int x1), some (.int x2), some (.int x3), none, none] [] h r h1) : xK 121 [.ref o, .int x1, .int x2, .int x3] h r h1 := x_calX_v pg_X8_digitOf rfl rfl (Nat.le_of_ble_eq_true rfl) rfl ho H
theorem pg_X8_best : x_Pg[122]? = some xm_X8_best := by
  unfold x_Pg
  rfl
theorem xe_X8_best_0 {ls : xL} {st : List Value} {h h' : xH} {r : Option Value} (H : x_ev x_nm x_tf x_fn x_Pg x_EV 122 (some .int) r h' xb_X8_best_0 0 ls st h) : x_EV 122 0 ls st h r h' := x_Ev_to (M := xm_X8_best) (is := xb_X8_best_0) pg_X8_best (by rfl) H
theorem xe_X8_best_26 {ls : xL} {st : List Value} {h h' : xH} {r : Option Value} (H : x_ev x_nm x_tf x_fn x_Pg x_EV 122 (some .int) r h' xb_X8_best_26 26 ls st h) : x_EV 122 26 ls st h r h' := x_Ev_to (M := xm_X8_best) (is := xb_X8_best_26) pg_X8_best (by rfl) H
theorem xe_X8_best_31 {ls : xL} {st : List Value} {h h' : xH} {r : Option Value} (H : x_ev x_nm x_tf x_fn x_Pg x_EV 122 (some .int) r h' xb_X8_best_31 31 ls st h) : x_EV 122 31 ls st h r h' := x_Ev_to (M := xm_X8_best) (is := xb_X8_best_31) pg_X8_best (by rfl) H
theorem xe_X8_best_46 {ls : xL} {st : List Value} {h h' : xH} {r : Option Value} (H : x_ev x_nm x_tf x_fn x_Pg x_EV 122 (some .int) r h' xb_X8_best_46 46 ls st h) : x_EV 122 46 ls st h r h' := x_Ev_to (M := xm_X8_best) (is := xb_X8_best_46) pg_X8_best (by rfl) H
theorem xe_X8_best_57 {ls : xL} {st : List Value} {h h' : xH} {r : Option Value} (H : x_ev x_nm x_tf x_fn x_Pg x_EV 122 (some .int) r h' xb_X8_best_57 57 ls st h) : x_EV 122 57 ls st h r h' := x_Ev_to (M := xm_X8_best) (is := xb_X8_best_57) pg_X8_best (by rfl) H
theorem xe_X8_best_68 {ls : xL} {st : List Value} {h h' : xH} {r : Option Value} (H : x_ev x_nm x_tf x_fn x_Pg x_EV 122 (some .int) r h' xb_X8_best_68 68 ls st h) : x_EV 122 68 ls st h r h' := x_Ev_to (M := xm_X8_best) (is := xb_X8_best_68) pg_X8_best (by rfl) H
theorem xe_X8_best_72 {ls : xL} {st : List Value} {h h' : xH} {r : Option Value} (H : x_ev x_nm x_tf x_fn x_Pg x_EV 122 (some .int) r h' xb_X8_best_72 72 ls st h) : x_EV 122 72 ls st h r h' := x_Ev_to (M := xm_X8_best) (is := xb_X8_best_72) pg_X8_best (by rfl) H
theorem xe_X8_best_73 {ls : xL} {st : List Value} {h h' : xH} {r : Option Value} (H : x_ev x_nm x_tf x_fn x_Pg x_EV 122 (some .int) r h' xb_X8_best_73 73 ls st h) : x_EV 122 73 ls st h r h' := x_Ev_to (M := xm_X8_best) (is := xb_X8_best_73) pg_X8_best (by rfl) H
theorem xe_X8_best_97 {ls : xL} {st : List Value} {h h' : xH} {r : Option Value} (H : x_ev x_nm x_tf x_fn x_Pg x_EV 122 (some .int) r h' xb_X8_best_97 97 ls st h) : x_EV 122 97 ls st h r h' := x_Ev_to (M := xm_X8_best) (is := xb_X8_best_97) pg_X8_best (by rfl) H
theorem xe_X8_best_102 {ls : xL} {st : List Value} {h h' : xH} {r : Option Value} (H : x_ev x_nm x_tf x_fn x_Pg x_EV 122 (some .int) r h' xb_X8_best_102 102 ls st h) : x_EV 122 102 ls st h r h' := x_Ev_to (M := xm_X8_best) (is := xb_X8_best_102) pg_X8_best (by rfl) H
theorem xK_X8_best {o : Nat} {x1 : Int32} {x2 : Int32} {h h1 : xH} {r : Option Value} {fs : List Value} (ho : h[o]? = some (.inr (7, fs))) (H : x_EV 122 0 [some (.ref o), some (.int x1), some (.int x2), none, none] [] h r h1) : xK 122 [.ref o, .int x1, .int x2] h r h1 := x_calX_v pg_X8_best rfl rfl (Nat.le_of_ble_eq_true rfl) rfl ho H
theorem pg_X0_countOfAnalyses : x_Pg[123]? = some xm_X0_countOfAnalyses := by
  unfold x_Pg
  rfl
theorem xe_X0_countOfAnalyses_0 {ls : xL} {st : List Value} {h h' : xH} {r : Option Value} (H : x_ev x_nm x_tf x_fn x_Pg x_EV 123 (some .int) r h' xb_X0_countOfAnalyses_0 0 ls st h) : x_EV 123 0 ls st h r h' := x_Ev_to (M := xm_X0_countOfAnalyses) (is := xb_X0_countOfAnalyses_0) pg_X0_countOfAnalyses (by rfl) H
theorem xK_X0_countOfAnalyses {o : Nat}  {h h1 : xH} {r : Option Value} {fs : List Value} (ho : h[o]? = some (.inr (0, fs))) (H : x_EV 123 0 [some (.ref o)] [] h r h1) : xK 123 [.ref o] h r h1 := x_calX_v pg_X0_countOfAnalyses rfl rfl (Nat.le_of_ble_eq_true rfl) rfl ho H
theorem pg_X7_ways : x_Pg[124]? = some xm_X7_ways := by
  unfold x_Pg
  rfl
theorem xe_X7_ways_0 {ls : xL} {st : List Value} {h h' : xH} {r : Option Value} (H : x_ev x_nm x_tf x_fn x_Pg x_EV 124 (some .int) r h' xb_X7_ways_0 0 ls st h) : x_EV 124 0 ls st h r h' := x_Ev_to (M := xm_X7_ways) (is := xb_X7_ways_0) pg_X7_ways (by rfl) H
theorem xK_X7_ways {o : Nat}  {h h1 : xH} {r : Option Value} {fs : List Value} (ho : h[o]? = some (.inr (6, fs))) (H : x_EV 124 0 [some (.ref o)] [] h r h1) : xK 124 [.ref o] h r h1 := x_calX_v pg_X7_ways rfl rfl (Nat.le_of_ble_eq_true rfl) rfl ho H
theorem pg_X8_ways : x_Pg[125]? = some xm_X8_ways := by
  unfold x_Pg
  rfl
theorem xe_X8_ways_0 {ls : xL} {st : List Value} {h h' : xH} {r : Option Value} (H : x_ev x_nm x_tf x_fn x_Pg x_EV 125 (some .int) r h' xb_X8_ways_0 0 ls st h) : x_EV 125 0 ls st h r h' := x_Ev_to (M := xm_X8_ways) (is := xb_X8_ways_0) pg_X8_ways (by rfl) H
theorem xe_X8_ways_27 {ls : xL} {st : List Value} {h h' : xH} {r : Option Value} (H : x_ev x_nm x_tf x_fn x_Pg x_EV 125 (some .int) r h' xb_X8_ways_27 27 ls st h) : x_EV 125 27 ls st h r h' := x_Ev_to (M := xm_X8_ways) (is := xb_X8_ways_27) pg_X8_ways (by rfl) H
theorem xK_X8_ways {o : Nat}  {h h1 : xH} {r : Option Value} {fs : List Value} (ho : h[o]? = some (.inr (7, fs))) (H : x_EV 125 0 [some (.ref o)] [] h r h1) : xK 125 [.ref o] h r h1 := x_calX_v pg_X8_ways rfl rfl (Nat.le_of_ble_eq_true rfl) rfl ho H
theorem pg_X6_sortIn : x_Pg[126]? = some xm_X6_sortIn := by
  unfold x_Pg
  rfl
theorem xe_X6_sortIn_0 {ls : xL} {st : List Value} {h h' : xH} {r : Option Value} (H : x_ev x_nm x_tf x_fn x_Pg x_EV 126 (some .int) r h' xb_X6_sortIn_0 0 ls st h) : x_EV 126 0 ls st h r h' := x_Ev_to (M := xm_X6_sortIn) (is := xb_X6_sortIn_0) pg_X6_sortIn (by rfl) H
theorem xK_X6_sortIn {o : Nat} {x1 : Int32} {x2 : Int32} {h h1 : xH} {r : Option Value} {fs : List Value} (ho : h[o]? = some (.inr (5, fs))) (H : x_EV 126 0 [some (.ref o), some (.int x1), some (.int x2)] [] h r h1) : xK 126 [.ref o, .int x1, .int x2] h r h1 := x_calX_v pg_X6_sortIn rfl rfl (Nat.le_of_ble_eq_true rfl) rfl ho H
theorem pg_X6_isHangingAllowed : x_Pg[127]? = some xm_X6_isHangingAllowed := by
  unfold x_Pg
  rfl
theorem xe_X6_isHangingAllowed_0 {ls : xL} {st : List Value} {h h' : xH} {r : Option Value} (H : x_ev x_nm x_tf x_fn x_Pg x_EV 127 (some .boolean) r h' xb_X6_isHangingAllowed_0 0 ls st h) : x_EV 127 0 ls st h r h' := x_Ev_to (M := xm_X6_isHangingAllowed) (is := xb_X6_isHangingAllowed_0) pg_X6_isHangingAllowed (by rfl) H
theorem xe_X6_isHangingAllowed_22 {ls : xL} {st : List Value} {h h' : xH} {r : Option Value} (H : x_ev x_nm x_tf x_fn x_Pg x_EV 127 (some .boolean) r h' xb_X6_isHangingAllowed_22 22 ls st h) : x_EV 127 22 ls st h r h' := x_Ev_to (M := xm_X6_isHangingAllowed) (is := xb_X6_isHangingAllowed_22) pg_X6_isHangingAllowed (by rfl) H
theorem xe_X6_isHangingAllowed_44 {ls : xL} {st : List Value} {h h' : xH} {r : Option Value} (H : x_ev x_nm x_tf x_fn x_Pg x_EV 127 (some .boolean) r h' xb_X6_isHangingAllowed_44 44 ls st h) : x_EV 127 44 ls st h r h' := x_Ev_to (M := xm_X6_isHangingAllowed) (is := xb_X6_isHangingAllowed_44) pg_X6_isHangingAllowed (by rfl) H
theorem xe_X6_isHangingAllowed_45 {ls : xL} {st : List Value} {h h' : xH} {r : Option Value} (H : x_ev x_nm x_tf x_fn x_Pg x_EV 127 (some .boolean) r h' xb_X6_isHangingAllowed_45 45 ls st h) : x_EV 127 45 ls st h r h' := x_Ev_to (M := xm_X6_isHangingAllowed) (is := xb_X6_isHangingAllowed_45) pg_X6_isHangingAllowed (by rfl) H
theorem xe_X6_isHangingAllowed_46 {ls : xL} {st : List Value} {h h' : xH} {r : Option Value} (H : x_ev x_nm x_tf x_fn x_Pg x_EV 127 (some .boolean) r h' xb_X6_isHangingAllowed_46 46 ls st h) : x_EV 127 46 ls st h r h' := x_Ev_to (M := xm_X6_isHangingAllowed) (is := xb_X6_isHangingAllowed_46) pg_X6_isHangingAllowed (by rfl) H
theorem xe_X6_isHangingAllowed_77 {ls : xL} {st : List Value} {h h' : xH} {r : Option Value} (H : x_ev x_nm x_tf x_fn x_Pg x_EV 127 (some .boolean) r h' xb_X6_isHangingAllowed_77 77 ls st h) : x_EV 127 77 ls st h r h' := x_Ev_to (M := xm_X6_isHangingAllowed) (is := xb_X6_isHangingAllowed_77) pg_X6_isHangingAllowed (by rfl) H
theorem xe_X6_isHangingAllowed_78 {ls : xL} {st : List Value} {h h' : xH} {r : Option Value} (H : x_ev x_nm x_tf x_fn x_Pg x_EV 127 (some .boolean) r h' xb_X6_isHangingAllowed_78 78 ls st h) : x_EV 127 78 ls st h r h' := x_Ev_to (M := xm_X6_isHangingAllowed) (is := xb_X6_isHangingAllowed_78) pg_X6_isHangingAllowed (by rfl) H
theorem xe_X6_isHangingAllowed_89 {ls : xL} {st : List Value} {h h' : xH} {r : Option Value} (H : x_ev x_nm x_tf x_fn x_Pg x_EV 127 (some .boolean) r h' xb_X6_isHangingAllowed_89 89 ls st h) : x_EV 127 89 ls st h r h' := x_Ev_to (M := xm_X6_isHangingAllowed) (is := xb_X6_isHangingAllowed_89) pg_X6_isHangingAllowed (by rfl) H
theorem xe_X6_isHangingAllowed_90 {ls : xL} {st : List Value} {h h' : xH} {r : Option Value} (H : x_ev x_nm x_tf x_fn x_Pg x_EV 127 (some .boolean) r h' xb_X6_isHangingAllowed_90 90 ls st h) : x_EV 127 90 ls st h r h' := x_Ev_to (M := xm_X6_isHangingAllowed) (is := xb_X6_isHangingAllowed_90) pg_X6_isHangingAllowed (by rfl) H
theorem xK_X6_isHangingAllowed {o : Nat} {x1 : Int32} {x2 : Int32} {h h1 : xH} {r : Option Value} {fs : List Value} (ho : h[o]? = some (.inr (5, fs))) (H : x_EV 127 0 [some (.ref o), some (.int x1), some (.int x2), none, none, none] [] h r h1) : xK 127 [.ref o, .int x1, .int x2] h r h1 := x_calX_v pg_X6_isHangingAllowed rfl rfl (Nat.le_of_ble_eq_true rfl) rfl ho H
theorem pg_X6_isHeldStillAllowed : x_Pg[128]? = some xm_X6_isHeldStillAllowed := by
  unfold x_Pg
  rfl
theorem xe_X6_isHeldStillAllowed_0 {ls : xL} {st : List Value} {h h' : xH} {r : Option Value} (H : x_ev x_nm x_tf x_fn x_Pg x_EV 128 (some .boolean) r h' xb_X6_isHeldStillAllowed_0 0 ls st h) : x_EV 128 0 ls st h r h' := x_Ev_to (M := xm_X6_isHeldStillAllowed) (is := xb_X6_isHeldStillAllowed_0) pg_X6_isHeldStillAllowed (by rfl) H
theorem xe_X6_isHeldStillAllowed_15 {ls : xL} {st : List Value} {h h' : xH} {r : Option Value} (H : x_ev x_nm x_tf x_fn x_Pg x_EV 128 (some .boolean) r h' xb_X6_isHeldStillAllowed_15 15 ls st h) : x_EV 128 15 ls st h r h' := x_Ev_to (M := xm_X6_isHeldStillAllowed) (is := xb_X6_isHeldStillAllowed_15) pg_X6_isHeldStillAllowed (by rfl) H
theorem xe_X6_isHeldStillAllowed_17 {ls : xL} {st : List Value} {h h' : xH} {r : Option Value} (H : x_ev x_nm x_tf x_fn x_Pg x_EV 128 (some .boolean) r h' xb_X6_isHeldStillAllowed_17 17 ls st h) : x_EV 128 17 ls st h r h' := x_Ev_to (M := xm_X6_isHeldStillAllowed) (is := xb_X6_isHeldStillAllowed_17) pg_X6_isHeldStillAllowed (by rfl) H
theorem xe_X6_isHeldStillAllowed_39 {ls : xL} {st : List Value} {h h' : xH} {r : Option Value} (H : x_ev x_nm x_tf x_fn x_Pg x_EV 128 (some .boolean) r h' xb_X6_isHeldStillAllowed_39 39 ls st h) : x_EV 128 39 ls st h r h' := x_Ev_to (M := xm_X6_isHeldStillAllowed) (is := xb_X6_isHeldStillAllowed_39) pg_X6_isHeldStillAllowed (by rfl) H
theorem xe_X6_isHeldStillAllowed_45 {ls : xL} {st : List Value} {h h' : xH} {r : Option Value} (H : x_ev x_nm x_tf x_fn x_Pg x_EV 128 (some .boolean) r h' xb_X6_isHeldStillAllowed_45 45 ls st h) : x_EV 128 45 ls st h r h' := x_Ev_to (M := xm_X6_isHeldStillAllowed) (is := xb_X6_isHeldStillAllowed_45) pg_X6_isHeldStillAllowed (by rfl) H
theorem xK_X6_isHeldStillAllowed {o : Nat}  {h h1 : xH} {r : Option Value} {fs : List Value} (ho : h[o]? = some (.inr (5, fs))) (H : x_EV 128 0 [some (.ref o), none, none] [] h r h1) : xK 128 [.ref o] h r h1 := x_calX_v pg_X6_isHeldStillAllowed rfl rfl (Nat.le_of_ble_eq_true rfl) rfl ho H
theorem pg_X7_sound : x_Pg[129]? = some xm_X7_sound := by
  unfold x_Pg
  rfl
theorem xe_X7_sound_0 {ls : xL} {st : List Value} {h h' : xH} {r : Option Value} (H : x_ev x_nm x_tf x_fn x_Pg x_EV 129 (some .int) r h' xb_X7_sound_0 0 ls st h) : x_EV 129 0 ls st h r h' := x_Ev_to (M := xm_X7_sound) (is := xb_X7_sound_0) pg_X7_sound (by rfl) H
theorem xe_X7_sound_14 {ls : xL} {st : List Value} {h h' : xH} {r : Option Value} (H : x_ev x_nm x_tf x_fn x_Pg x_EV 129 (some .int) r h' xb_X7_sound_14 14 ls st h) : x_EV 129 14 ls st h r h' := x_Ev_to (M := xm_X7_sound) (is := xb_X7_sound_14) pg_X7_sound (by rfl) H
theorem xe_X7_sound_15 {ls : xL} {st : List Value} {h h' : xH} {r : Option Value} (H : x_ev x_nm x_tf x_fn x_Pg x_EV 129 (some .int) r h' xb_X7_sound_15 15 ls st h) : x_EV 129 15 ls st h r h' := x_Ev_to (M := xm_X7_sound) (is := xb_X7_sound_15) pg_X7_sound (by rfl) H
theorem xK_X7_sound {o : Nat}  {h h1 : xH} {r : Option Value} {fs : List Value} (ho : h[o]? = some (.inr (6, fs))) (H : x_EV 129 0 [some (.ref o)] [] h r h1) : xK 129 [.ref o] h r h1 := x_calX_v pg_X7_sound rfl rfl (Nat.le_of_ble_eq_true rfl) rfl ho H
theorem pg_X8_soundOf : x_Pg[130]? = some xm_X8_soundOf := by
  unfold x_Pg
  rfl
theorem xe_X8_soundOf_0 {ls : xL} {st : List Value} {h h' : xH} {r : Option Value} (H : x_ev x_nm x_tf x_fn x_Pg x_EV 130 (some .int) r h' xb_X8_soundOf_0 0 ls st h) : x_EV 130 0 ls st h r h' := x_Ev_to (M := xm_X8_soundOf) (is := xb_X8_soundOf_0) pg_X8_soundOf (by rfl) H
theorem xe_X8_soundOf_18 {ls : xL} {st : List Value} {h h' : xH} {r : Option Value} (H : x_ev x_nm x_tf x_fn x_Pg x_EV 130 (some .int) r h' xb_X8_soundOf_18 18 ls st h) : x_EV 130 18 ls st h r h' := x_Ev_to (M := xm_X8_soundOf) (is := xb_X8_soundOf_18) pg_X8_soundOf (by rfl) H
theorem xe_X8_soundOf_25 {ls : xL} {st : List Value} {h h' : xH} {r : Option Value} (H : x_ev x_nm x_tf x_fn x_Pg x_EV 130 (some .int) r h' xb_X8_soundOf_25 25 ls st h) : x_EV 130 25 ls st h r h' := x_Ev_to (M := xm_X8_soundOf) (is := xb_X8_soundOf_25) pg_X8_soundOf (by rfl) H
theorem xe_X8_soundOf_59 {ls : xL} {st : List Value} {h h' : xH} {r : Option Value} (H : x_ev x_nm x_tf x_fn x_Pg x_EV 130 (some .int) r h' xb_X8_soundOf_59 59 ls st h) : x_EV 130 59 ls st h r h' := x_Ev_to (M := xm_X8_soundOf) (is := xb_X8_soundOf_59) pg_X8_soundOf (by rfl) H
theorem xe_X8_soundOf_71 {ls : xL} {st : List Value} {h h' : xH} {r : Option Value} (H : x_ev x_nm x_tf x_fn x_Pg x_EV 130 (some .int) r h' xb_X8_soundOf_71 71 ls st h) : x_EV 130 71 ls st h r h' := x_Ev_to (M := xm_X8_soundOf) (is := xb_X8_soundOf_71) pg_X8_soundOf (by rfl) H
theorem xe_X8_soundOf_72 {ls : xL} {st : List Value} {h h' : xH} {r : Option Value} (H : x_ev x_nm x_tf x_fn x_Pg x_EV 130 (some .int) r h' xb_X8_soundOf_72 72 ls st h) : x_EV 130 72 ls st h r h' := x_Ev_to (M := xm_X8_soundOf) (is := xb_X8_soundOf_72) pg_X8_soundOf (by rfl) H
theorem xK_X8_soundOf {o : Nat}  {h h1 : xH} {r : Option Value} {fs : List Value} (ho : h[o]? = some (.inr (7, fs))) (H : x_EV 130 0 [some (.ref o), none, none] [] h r h1) : xK 130 [.ref o] h r h1 := x_calX_v pg_X8_soundOf rfl rfl (Nat.le_of_ble_eq_true rfl) rfl ho H
theorem pg_X8_sound : x_Pg[131]? = some xm_X8_sound := by
  unfold x_Pg
  rfl
theorem xe_X8_sound_0 {ls : xL} {st : List Value} {h h' : xH} {r : Option Value} (H : x_ev x_nm x_tf x_fn x_Pg x_EV 131 (some .int) r h' xb_X8_sound_0 0 ls st h) : x_EV 131 0 ls st h r h' := x_Ev_to (M := xm_X8_sound) (is := xb_X8_sound_0) pg_X8_sound (by rfl) H
theorem xK_X8_sound {o : Nat}  {h h1 : xH} {r : Option Value} {fs : List Value} (ho : h[o]? = some (.inr (7, fs))) (H : x_EV 131 0 [some (.ref o)] [] h r h1) : xK 131 [.ref o] h r h1 := x_calX_v pg_X8_sound rfl rfl (Nat.le_of_ble_eq_true rfl) rfl ho H
theorem pg_X3_append : x_Pg[132]? = some xm_X3_append := by
  unfold x_Pg
  rfl
theorem xe_X3_append_0 {ls : xL} {st : List Value} {h h' : xH} {r : Option Value} (H : x_ev x_nm x_tf x_fn x_Pg x_EV 132 none r h' xb_X3_append_0 0 ls st h) : x_EV 132 0 ls st h r h' := x_Ev_to (M := xm_X3_append) (is := xb_X3_append_0) pg_X3_append (by rfl) H
theorem xe_X3_append_29 {ls : xL} {st : List Value} {h h' : xH} {r : Option Value} (H : x_ev x_nm x_tf x_fn x_Pg x_EV 132 none r h' xb_X3_append_29 29 ls st h) : x_EV 132 29 ls st h r h' := x_Ev_to (M := xm_X3_append) (is := xb_X3_append_29) pg_X3_append (by rfl) H
theorem xK_X3_append {o : Nat} {x1 : Int32} {h h1 : xH} {r : Option Value} {fs : List Value} (ho : h[o]? = some (.inr (2, fs))) (H : x_EV 132 0 [some (.ref o), some (.int x1)] [] h r h1) : xK 132 [.ref o, .int x1] h r h1 := x_calX_v pg_X3_append rfl rfl (Nat.le_of_ble_eq_true rfl) rfl ho H
theorem pg_X7_type : x_Pg[133]? = some xm_X7_type := by
  unfold x_Pg
  rfl
theorem xe_X7_type_0 {ls : xL} {st : List Value} {h h' : xH} {r : Option Value} (H : x_ev x_nm x_tf x_fn x_Pg x_EV 133 (some .int) r h' xb_X7_type_0 0 ls st h) : x_EV 133 0 ls st h r h' := x_Ev_to (M := xm_X7_type) (is := xb_X7_type_0) pg_X7_type (by rfl) H
theorem xe_X7_type_10 {ls : xL} {st : List Value} {h h' : xH} {r : Option Value} (H : x_ev x_nm x_tf x_fn x_Pg x_EV 133 (some .int) r h' xb_X7_type_10 10 ls st h) : x_EV 133 10 ls st h r h' := x_Ev_to (M := xm_X7_type) (is := xb_X7_type_10) pg_X7_type (by rfl) H
theorem xe_X7_type_17 {ls : xL} {st : List Value} {h h' : xH} {r : Option Value} (H : x_ev x_nm x_tf x_fn x_Pg x_EV 133 (some .int) r h' xb_X7_type_17 17 ls st h) : x_EV 133 17 ls st h r h' := x_Ev_to (M := xm_X7_type) (is := xb_X7_type_17) pg_X7_type (by rfl) H
theorem xe_X7_type_36 {ls : xL} {st : List Value} {h h' : xH} {r : Option Value} (H : x_ev x_nm x_tf x_fn x_Pg x_EV 133 (some .int) r h' xb_X7_type_36 36 ls st h) : x_EV 133 36 ls st h r h' := x_Ev_to (M := xm_X7_type) (is := xb_X7_type_36) pg_X7_type (by rfl) H
theorem xK_X7_type {o : Nat} {x1 : Int32} {h h1 : xH} {r : Option Value} {fs : List Value} (ho : h[o]? = some (.inr (6, fs))) (H : x_EV 133 0 [some (.ref o), some (.int x1)] [] h r h1) : xK 133 [.ref o, .int x1] h r h1 := x_calX_v pg_X7_type rfl rfl (Nat.le_of_ble_eq_true rfl) rfl ho H
theorem pg_X8_type : x_Pg[134]? = some xm_X8_type := by
  unfold x_Pg
  rfl
theorem xe_X8_type_0 {ls : xL} {st : List Value} {h h' : xH} {r : Option Value} (H : x_ev x_nm x_tf x_fn x_Pg x_EV 134 (some .int) r h' xb_X8_type_0 0 ls st h) : x_EV 134 0 ls st h r h' := x_Ev_to (M := xm_X8_type) (is := xb_X8_type_0) pg_X8_type (by rfl) H
theorem xe_X8_type_15 {ls : xL} {st : List Value} {h h' : xH} {r : Option Value} (H : x_ev x_nm x_tf x_fn x_Pg x_EV 134 (some .int) r h' xb_X8_type_15 15 ls st h) : x_EV 134 15 ls st h r h' := x_Ev_to (M := xm_X8_type) (is := xb_X8_type_15) pg_X8_type (by rfl) H
theorem xe_X8_type_29 {ls : xL} {st : List Value} {h h' : xH} {r : Option Value} (H : x_ev x_nm x_tf x_fn x_Pg x_EV 134 (some .int) r h' xb_X8_type_29 29 ls st h) : x_EV 134 29 ls st h r h' := x_Ev_to (M := xm_X8_type) (is := xb_X8_type_29) pg_X8_type (by rfl) H
theorem xK_X8_type {o : Nat} {x1 : Int32} {h h1 : xH} {r : Option Value} {fs : List Value} (ho : h[o]? = some (.inr (7, fs))) (H : x_EV 134 0 [some (.ref o), some (.int x1)] [] h r h1) : xK 134 [.ref o, .int x1] h r h1 := x_calX_v pg_X8_type rfl rfl (Nat.le_of_ble_eq_true rfl) rfl ho H
theorem pg_X7_clear : x_Pg[135]? = some xm_X7_clear := by
  unfold x_Pg
  rfl
theorem xe_X7_clear_0 {ls : xL} {st : List Value} {h h' : xH} {r : Option Value} (H : x_ev x_nm x_tf x_fn x_Pg x_EV 135 (some .int) r h' xb_X7_clear_0 0 ls st h) : x_EV 135 0 ls st h r h' := x_Ev_to (M := xm_X7_clear) (is := xb_X7_clear_0) pg_X7_clear (by rfl) H
theorem xK_X7_clear {o : Nat}  {h h1 : xH} {r : Option Value} {fs : List Value} (ho : h[o]? = some (.inr (6, fs))) (H : x_EV 135 0 [some (.ref o), none] [] h r h1) : xK 135 [.ref o] h r h1 := x_calX_v pg_X7_clear rfl rfl (Nat.le_of_ble_eq_true rfl) rfl ho H
theorem pg_X8_clear : x_Pg[136]? = some xm_X8_clear := by
  unfold x_Pg
  rfl
theorem xe_X8_clear_0 {ls : xL} {st : List Value} {h h' : xH} {r : Option Value} (H : x_ev x_nm x_tf x_fn x_Pg x_EV 136 (some .int) r h' xb_X8_clear_0 0 ls st h) : x_EV 136 0 ls st h r h' := x_Ev_to (M := xm_X8_clear) (is := xb_X8_clear_0) pg_X8_clear (by rfl) H
theorem xK_X8_clear {o : Nat}  {h h1 : xH} {r : Option Value} {fs : List Value} (ho : h[o]? = some (.inr (7, fs))) (H : x_EV 136 0 [some (.ref o), none] [] h r h1) : xK 136 [.ref o] h r h1 := x_calX_v pg_X8_clear rfl rfl (Nat.le_of_ble_eq_true rfl) rfl ho H
theorem pg_X3_skipBlanks : x_Pg[137]? = some xm_X3_skipBlanks := by
  unfold x_Pg
  rfl
theorem xe_X3_skipBlanks_0 {ls : xL} {st : List Value} {h h' : xH} {r : Option Value} (H : x_ev x_nm x_tf x_fn x_Pg x_EV 137 none r h' xb_X3_skipBlanks_0 0 ls st h) : x_EV 137 0 ls st h r h' := x_Ev_to (M := xm_X3_skipBlanks) (is := xb_X3_skipBlanks_0) pg_X3_skipBlanks (by rfl) H
theorem xe_X3_skipBlanks_38 {ls : xL} {st : List Value} {h h' : xH} {r : Option Value} (H : x_ev x_nm x_tf x_fn x_Pg x_EV 137 none r h' xb_X3_skipBlanks_38 38 ls st h) : x_EV 137 38 ls st h r h' := x_Ev_to (M := xm_X3_skipBlanks) (is := xb_X3_skipBlanks_38) pg_X3_skipBlanks (by rfl) H
theorem xK_X3_skipBlanks {o : Nat}  {h h1 : xH} {r : Option Value} {fs : List Value} (ho : h[o]? = some (.inr (2, fs))) (H : x_EV 137 0 [some (.ref o)] [] h r h1) : xK 137 [.ref o] h r h1 := x_calX_v pg_X3_skipBlanks rfl rfl (Nat.le_of_ble_eq_true rfl) rfl ho H
theorem pg_X3_here : x_Pg[138]? = some xm_X3_here := by
  unfold x_Pg
  rfl
theorem xe_X3_here_0 {ls : xL} {st : List Value} {h h' : xH} {r : Option Value} (H : x_ev x_nm x_tf x_fn x_Pg x_EV 138 (some .int) r h' xb_X3_here_0 0 ls st h) : x_EV 138 0 ls st h r h' := x_Ev_to (M := xm_X3_here) (is := xb_X3_here_0) pg_X3_here (by rfl) H
theorem xe_X3_here_23 {ls : xL} {st : List Value} {h h' : xH} {r : Option Value} (H : x_ev x_nm x_tf x_fn x_Pg x_EV 138 (some .int) r h' xb_X3_here_23 23 ls st h) : x_EV 138 23 ls st h r h' := x_Ev_to (M := xm_X3_here) (is := xb_X3_here_23) pg_X3_here (by rfl) H
theorem xe_X3_here_24 {ls : xL} {st : List Value} {h h' : xH} {r : Option Value} (H : x_ev x_nm x_tf x_fn x_Pg x_EV 138 (some .int) r h' xb_X3_here_24 24 ls st h) : x_EV 138 24 ls st h r h' := x_Ev_to (M := xm_X3_here) (is := xb_X3_here_24) pg_X3_here (by rfl) H
theorem xK_X3_here {o : Nat}  {h h1 : xH} {r : Option Value} {fs : List Value} (ho : h[o]? = some (.inr (2, fs))) (H : x_EV 138 0 [some (.ref o)] [] h r h1) : xK 138 [.ref o] h r h1 := x_calX_v pg_X3_here rfl rfl (Nat.le_of_ble_eq_true rfl) rfl ho H
theorem pg_X3_mostNumbers : x_Pg[139]? = some xm_X3_mostNumbers := by
  unfold x_Pg
  rfl
theorem xe_X3_mostNumbers_0 {ls : xL} {st : List Value} {h h' : xH} {r : Option Value} (H : x_ev x_nm x_tf x_fn x_Pg x_EV 139 (some .int) r h' xb_X3_mostNumbers_0 0 ls st h) : x_EV 139 0 ls st h r h' := x_Ev_to (M := xm_X3_mostNumbers) (is := xb_X3_mostNumbers_0) pg_X3_mostNumbers (by rfl) H
theorem xe_X3_mostNumbers_52 {ls : xL} {st : List Value} {h h' : xH} {r : Option Value} (H : x_ev x_nm x_tf x_fn x_Pg x_EV 139 (some .int) r h' xb_X3_mostNumbers_52 52 ls st h) : x_EV 139 52 ls st h r h' := x_Ev_to (M := xm_X3_mostNumbers) (is := xb_X3_mostNumbers_52) pg_X3_mostNumbers (by rfl) H
theorem xe_X3_mostNumbers_54 {ls : xL} {st : List Value} {h h' : xH} {r : Option Value} (H : x_ev x_nm x_tf x_fn x_Pg x_EV 139 (some .int) r h' xb_X3_mostNumbers_54 54 ls st h) : x_EV 139 54 ls st h r h' := x_Ev_to (M := xm_X3_mostNumbers) (is := xb_X3_mostNumbers_54) pg_X3_mostNumbers (by rfl) H
theorem xe_X3_mostNumbers_56 {ls : xL} {st : List Value} {h h' : xH} {r : Option Value} (H : x_ev x_nm x_tf x_fn x_Pg x_EV 139 (some .int) r h' xb_X3_mostNumbers_56 56 ls st h) : x_EV 139 56 ls st h r h' := x_Ev_to (M := xm_X3_mostNumbers) (is := xb_X3_mostNumbers_56) pg_X3_mostNumbers (by rfl) H
theorem xe_X3_mostNumbers_58 {ls : xL} {st : List Value} {h h' : xH} {r : Option Value} (H : x_ev x_nm x_tf x_fn x_Pg x_EV 139 (some .int) r h' xb_X3_mostNumbers_58 58 ls st h) : x_EV 139 58 ls st h r h' := x_Ev_to (M := xm_X3_mostNumbers) (is := xb_X3_mostNumbers_58) pg_X3_mostNumbers (by rfl) H
theorem xe_X3_mostNumbers_60 {ls : xL} {st : List Value} {h h' : xH} {r : Option Value} (H : x_ev x_nm x_tf x_fn x_Pg x_EV 139 (some .int) r h' xb_X3_mostNumbers_60 60 ls st h) : x_EV 139 60 ls st h r h' := x_Ev_to (M := xm_X3_mostNumbers) (is := xb_X3_mostNumbers_60) pg_X3_mostNumbers (by rfl) H
theorem xe_X3_mostNumbers_63 {ls : xL} {st : List Value} {h h' : xH} {r : Option Value} (H : x_ev x_nm x_tf x_fn x_Pg x_EV 139 (some .int) r h' xb_X3_mostNumbers_63 63 ls st h) : x_EV 139 63 ls st h r h' := x_Ev_to (M := xm_X3_mostNumbers) (is := xb_X3_mostNumbers_63) pg_X3_mostNumbers (by rfl) H
theorem xK_X3_mostNumbers {x1 : Int32} {h h1 : xH} {r : Option Value} (H : x_EV 139 0 [some (.int x1)] [] h r h1) : xK 139 [.int x1] h r h1 := x_calX_s pg_X3_mostNumbers rfl (Nat.le_of_ble_eq_true rfl) rfl H
theorem pg_X3_isFigureHere : x_Pg[140]? = some xm_X3_isFigureHere := by
  unfold x_Pg
  rfl
theorem xe_X3_isFigureHere_0 {ls : xL} {st : List Value} {h h' : xH} {r : Option Value} (H : x_ev x_nm x_tf x_fn x_Pg x_EV 140 (some .boolean) r h' xb_X3_isFigureHere_0 0 ls st h) : x_EV 140 0 ls st h r h' := x_Ev_to (M := xm_X3_isFigureHere) (is := xb_X3_isFigureHere_0) pg_X3_isFigureHere (by rfl) H
theorem xe_X3_isFigureHere_21 {ls : xL} {st : List Value} {h h' : xH} {r : Option Value} (H : x_ev x_nm x_tf x_fn x_Pg x_EV 140 (some .boolean) r h' xb_X3_isFigureHere_21 21 ls st h) : x_EV 140 21 ls st h r h' := x_Ev_to (M := xm_X3_isFigureHere) (is := xb_X3_isFigureHere_21) pg_X3_isFigureHere (by rfl) H
theorem xe_X3_isFigureHere_22 {ls : xL} {st : List Value} {h h' : xH} {r : Option Value} (H : x_ev x_nm x_tf x_fn x_Pg x_EV 140 (some .boolean) r h' xb_X3_isFigureHere_22 22 ls st h) : x_EV 140 22 ls st h r h' := x_Ev_to (M := xm_X3_isFigureHere) (is := xb_X3_isFigureHere_22) pg_X3_isFigureHere (by rfl) H
theorem xK_X3_isFigureHere {o : Nat}  {h h1 : xH} {r : Option Value} {fs : List Value} (ho : h[o]? = some (.inr (2, fs))) (H : x_EV 140 0 [some (.ref o), none] [] h r h1) : xK 140 [.ref o] h r h1 := x_calX_v pg_X3_isFigureHere rfl rfl (Nat.le_of_ble_eq_true rfl) rfl ho H
theorem pg_X3_keepNumber : x_Pg[141]? = some xm_X3_keepNumber := by
  unfold x_Pg
  rfl
theorem xe_X3_keepNumber_0 {ls : xL} {st : List Value} {h h' : xH} {r : Option Value} (H : x_ev x_nm x_tf x_fn x_Pg x_EV 141 none r h' xb_X3_keepNumber_0 0 ls st h) : x_EV 141 0 ls st h r h' := x_Ev_to (M := xm_X3_keepNumber) (is := xb_X3_keepNumber_0) pg_X3_keepNumber (by rfl) H
theorem xe_X3_keepNumber_29 {ls : xL} {st : List Value} {h h' : xH} {r : Option Value} (H : x_ev x_nm x_tf x_fn x_Pg x_EV 141 none r h' xb_X3_keepNumber_29 29 ls st h) : x_EV 141 29 ls st h r h' := x_Ev_to (M := xm_X3_keepNumber) (is := xb_X3_keepNumber_29) pg_X3_keepNumber (by rfl) H
theorem xK_X3_keepNumber {o : Nat} {x1 : Int32} {h h1 : xH} {r : Option Value} {fs : List Value} (ho : h[o]? = some (.inr (2, fs))) (H : x_EV 141 0 [some (.ref o), some (.int x1)] [] h r h1) : xK 141 [.ref o, .int x1] h r h1 := x_calX_v pg_X3_keepNumber rfl rfl (Nat.le_of_ble_eq_true rfl) rfl ho H
theorem pg_X3_readNumber : x_Pg[142]? = some xm_X3_readNumber := by
  unfold x_Pg
  rfl
theorem xe_X3_readNumber_0 {ls : xL} {st : List Value} {h h' : xH} {r : Option Value} (H : x_ev x_nm x_tf x_fn x_Pg x_EV 142 (some .boolean) r h' xb_X3_readNumber_0 0 ls st h) : x_EV 142 0 ls st h r h' := x_Ev_to (M := xm_X3_readNumber) (is := xb_X3_readNumber_0) pg_X3_readNumber (by rfl) H
theorem xe_X3_readNumber_30 {ls : xL} {st : List Value} {h h' : xH} {r : Option Value} (H : x_ev x_nm x_tf x_fn x_Pg x_EV 142 (some .boolean) r h' xb_X3_readNumber_30 30 ls st h) : x_EV 142 30 ls st h r h' := x_Ev_to (M := xm_X3_readNumber) (is := xb_X3_readNumber_30) pg_X3_readNumber (by rfl) H
theorem xe_X3_readNumber_39 {ls : xL} {st : List Value} {h h' : xH} {r : Option Value} (H : x_ev x_nm x_tf x_fn x_Pg x_EV 142 (some .boolean) r h' xb_X3_readNumber_39 39 ls st h) : x_EV 142 39 ls st h r h' := x_Ev_to (M := xm_X3_readNumber) (is := xb_X3_readNumber_39) pg_X3_readNumber (by rfl) H
theorem xe_X3_readNumber_87 {ls : xL} {st : List Value} {h h' : xH} {r : Option Value} (H : x_ev x_nm x_tf x_fn x_Pg x_EV 142 (some .boolean) r h' xb_X3_readNumber_87 87 ls st h) : x_EV 142 87 ls st h r h' := x_Ev_to (M := xm_X3_readNumber) (is := xb_X3_readNumber_87) pg_X3_readNumber (by rfl) H
theorem xe_X3_readNumber_103 {ls : xL} {st : List Value} {h h' : xH} {r : Option Value} (H : x_ev x_nm x_tf x_fn x_Pg x_EV 142 (some .boolean) r h' xb_X3_readNumber_103 103 ls st h) : x_EV 142 103 ls st h r h' := x_Ev_to (M := xm_X3_readNumber) (is := xb_X3_readNumber_103) pg_X3_readNumber (by rfl) H
theorem xe_X3_readNumber_104 {ls : xL} {st : List Value} {h h' : xH} {r : Option Value} (H : x_ev x_nm x_tf x_fn x_Pg x_EV 142 (some .boolean) r h' xb_X3_readNumber_104 104 ls st h) : x_EV 142 104 ls st h r h' := x_Ev_to (M := xm_X3_readNumber) (is := xb_X3_readNumber_104) pg_X3_readNumber (by rfl) H
theorem xK_X3_readNumber {o : Nat} {x1 : Int32} {h h1 : xH} {r : Option Value} {fs : List Value} (ho : h[o]? = some (.inr (2, fs))) (H : x_EV 142 0 [some (.ref o), some (.int x1), none] [] h r h1) : xK 142 [.ref o, .int x1] h r h1 := x_calX_v pg_X3_readNumber rfl rfl (Nat.le_of_ble_eq_true rfl) rfl ho H
theorem pg_X3_readOrder : x_Pg[143]? = some xm_X3_readOrder := by
  unfold x_Pg
  rfl
theorem xe_X3_readOrder_0 {ls : xL} {st : List Value} {h h' : xH} {r : Option Value} (H : x_ev x_nm x_tf x_fn x_Pg x_EV 143 (some .boolean) r h' xb_X3_readOrder_0 0 ls st h) : x_EV 143 0 ls st h r h' := x_Ev_to (M := xm_X3_readOrder) (is := xb_X3_readOrder_0) pg_X3_readOrder (by rfl) H
theorem xe_X3_readOrder_16 {ls : xL} {st : List Value} {h h' : xH} {r : Option Value} (H : x_ev x_nm x_tf x_fn x_Pg x_EV 143 (some .boolean) r h' xb_X3_readOrder_16 16 ls st h) : x_EV 143 16 ls st h r h' := x_Ev_to (M := xm_X3_readOrder) (is := xb_X3_readOrder_16) pg_X3_readOrder (by rfl) H
theorem xe_X3_readOrder_51 {ls : xL} {st : List Value} {h h' : xH} {r : Option Value} (H : x_ev x_nm x_tf x_fn x_Pg x_EV 143 (some .boolean) r h' xb_X3_readOrder_51 51 ls st h) : x_EV 143 51 ls st h r h' := x_Ev_to (M := xm_X3_readOrder) (is := xb_X3_readOrder_51) pg_X3_readOrder (by rfl) H
theorem xe_X3_readOrder_74 {ls : xL} {st : List Value} {h h' : xH} {r : Option Value} (H : x_ev x_nm x_tf x_fn x_Pg x_EV 143 (some .boolean) r h' xb_X3_readOrder_74 74 ls st h) : x_EV 143 74 ls st h r h' := x_Ev_to (M := xm_X3_readOrder) (is := xb_X3_readOrder_74) pg_X3_readOrder (by rfl) H
theorem xe_X3_readOrder_75 {ls : xL} {st : List Value} {h h' : xH} {r : Option Value} (H : x_ev x_nm x_tf x_fn x_Pg x_EV 143 (some .boolean) r h' xb_X3_readOrder_75 75 ls st h) : x_EV 143 75 ls st h r h' := x_Ev_to (M := xm_X3_readOrder) (is := xb_X3_readOrder_75) pg_X3_readOrder (by rfl) H
theorem xe_X3_readOrder_92 {ls : xL} {st : List Value} {h h' : xH} {r : Option Value} (H : x_ev x_nm x_tf x_fn x_Pg x_EV 143 (some .boolean) r h' xb_X3_readOrder_92 92 ls st h) : x_EV 143 92 ls st h r h' := x_Ev_to (M := xm_X3_readOrder) (is := xb_X3_readOrder_92) pg_X3_readOrder (by rfl) H
theorem xe_X3_readOrder_104 {ls : xL} {st : List Value} {h h' : xH} {r : Option Value} (H : x_ev x_nm x_tf x_fn x_Pg x_EV 143 (some .boolean) r h' xb_X3_readOrder_104 104 ls st h) : x_EV 143 104 ls st h r h' := x_Ev_to (M := xm_X3_readOrder) (is := xb_X3_readOrder_104) pg_X3_readOrder (by rfl) H
theorem xe_X3_readOrder_115 {ls : xL} {st : List Value} {h h' : xH} {r : Option Value} (H : x_ev x_nm x_tf x_fn x_Pg x_EV 143 (some .boolean) r h' xb_X3_readOrder_115 115 ls st h) : x_EV 143 115 ls st h r h' := x_Ev_to (M := xm_X3_readOrder) (is := xb_X3_readOrder_115) pg_X3_readOrder (by rfl) H
theorem xe_X3_readOrder_116 {ls : xL} {st : List Value} {h h' : xH} {r : Option Value} (H : x_ev x_nm x_tf x_fn x_Pg x_EV 143 (some .boolean) r h' xb_X3_readOrder_116 116 ls st h) : x_EV 143 116 ls st h r h' := x_Ev_to (M := xm_X3_readOrder) (is := xb_X3_readOrder_116) pg_X3_readOrder (by rfl) H
theorem xe_X3_readOrder_129 {ls : xL} {st : List Value} {h h' : xH} {r : Option Value} (H : x_ev x_nm x_tf x_fn x_Pg x_EV 143 (some .boolean) r h' xb_X3_readOrder_129 129 ls st h) : x_EV 143 129 ls st h r h' := x_Ev_to (M := xm_X3_readOrder) (is := xb_X3_readOrder_129) pg_X3_readOrder (by rfl) H
theorem xe_X3_readOrder_135 {ls : xL} {st : List Value} {h h' : xH} {r : Option Value} (H : x_ev x_nm x_tf x_fn x_Pg x_EV 143 (some .boolean) r h' xb_X3_readOrder_135 135 ls st h) : x_EV 143 135 ls st h r h' := x_Ev_to (M := xm_X3_readOrder) (is := xb_X3_readOrder_135) pg_X3_readOrder (by rfl) H
theorem xe_X3_readOrder_173 {ls : xL} {st : List Value} {h h' : xH} {r : Option Value} (H : x_ev x_nm x_tf x_fn x_Pg x_EV 143 (some .boolean) r h' xb_X3_readOrder_173 173 ls st h) : x_EV 143 173 ls st h r h' := x_Ev_to (M := xm_X3_readOrder) (is := xb_X3_readOrder_173) pg_X3_readOrder (by rfl) H
theorem xK_X3_readOrder {o : Nat}  {h h1 : xH} {r : Option Value} {fs : List Value} (ho : h[o]? = some (.inr (2, fs))) (H : x_EV 143 0 [some (.ref o), none, none, none, none, none] [] h r h1) : xK 143 [.ref o] h r h1 := x_calX_v pg_X3_readOrder rfl rfl (Nat.le_of_ble_eq_true rfl) rfl ho H
theorem pg_X3_readWhole : x_Pg[144]? = some xm_X3_readWhole := by
  unfold x_Pg
  rfl
theorem xe_X3_readWhole_0 {ls : xL} {st : List Value} {h h' : xH} {r : Option Value} (H : x_ev x_nm x_tf x_fn x_Pg x_EV 144 (some .int) r h' xb_X3_readWhole_0 0 ls st h) : x_EV 144 0 ls st h r h' := x_Ev_to (M := xm_X3_readWhole) (is := xb_X3_readWhole_0) pg_X3_readWhole (by rfl) H
theorem xe_X3_readWhole_19 {ls : xL} {st : List Value} {h h' : xH} {r : Option Value} (H : x_ev x_nm x_tf x_fn x_Pg x_EV 144 (some .int) r h' xb_X3_readWhole_19 19 ls st h) : x_EV 144 19 ls st h r h' := x_Ev_to (M := xm_X3_readWhole) (is := xb_X3_readWhole_19) pg_X3_readWhole (by rfl) H
theorem xe_X3_readWhole_51 {ls : xL} {st : List Value} {h h' : xH} {r : Option Value} (H : x_ev x_nm x_tf x_fn x_Pg x_EV 144 (some .int) r h' xb_X3_readWhole_51 51 ls st h) : x_EV 144 51 ls st h r h' := x_Ev_to (M := xm_X3_readWhole) (is := xb_X3_readWhole_51) pg_X3_readWhole (by rfl) H
theorem xe_X3_readWhole_68 {ls : xL} {st : List Value} {h h' : xH} {r : Option Value} (H : x_ev x_nm x_tf x_fn x_Pg x_EV 144 (some .int) r h' xb_X3_readWhole_68 68 ls st h) : x_EV 144 68 ls st h r h' := x_Ev_to (M := xm_X3_readWhole) (is := xb_X3_readWhole_68) pg_X3_readWhole (by rfl) H
theorem xe_X3_readWhole_82 {ls : xL} {st : List Value} {h h' : xH} {r : Option Value} (H : x_ev x_nm x_tf x_fn x_Pg x_EV 144 (some .int) r h' xb_X3_readWhole_82 82 ls st h) : x_EV 144 82 ls st h r h' := x_Ev_to (M := xm_X3_readWhole) (is := xb_X3_readWhole_82) pg_X3_readWhole (by rfl) H
theorem xe_X3_readWhole_83 {ls : xL} {st : List Value} {h h' : xH} {r : Option Value} (H : x_ev x_nm x_tf x_fn x_Pg x_EV 144 (some .int) r h' xb_X3_readWhole_83 83 ls st h) : x_EV 144 83 ls st h r h' := x_Ev_to (M := xm_X3_readWhole) (is := xb_X3_readWhole_83) pg_X3_readWhole (by rfl) H
theorem xK_X3_readWhole {o : Nat}  {h h1 : xH} {r : Option Value} {fs : List Value} (ho : h[o]? = some (.inr (2, fs))) (H : x_EV 144 0 [some (.ref o)] [] h r h1) : xK 144 [.ref o] h r h1 := x_calX_v pg_X3_readWhole rfl rfl (Nat.le_of_ble_eq_true rfl) rfl ho H
theorem pg_X3_kind : x_Pg[145]? = some xm_X3_kind := by
  unfold x_Pg
  rfl
theorem xe_X3_kind_0 {ls : xL} {st : List Value} {h h' : xH} {r : Option Value} (H : x_ev x_nm x_tf x_fn x_Pg x_EV 145 (some .int) r h' xb_X3_kind_0 0 ls st h) : x_EV 145 0 ls st h r h' := x_Ev_to (M := xm_X3_kind) (is := xb_X3_kind_0) pg_X3_kind (by rfl) H
theorem xK_X3_kind {o : Nat} {x1 : Int32} {h h1 : xH} {r : Option Value} {fs : List Value} (ho : h[o]? = some (.inr (2, fs))) (H : x_EV 145 0 [some (.ref o), some (.int x1)] [] h r h1) : xK 145 [.ref o, .int x1] h r h1 := x_calX_v pg_X3_kind rfl rfl (Nat.le_of_ble_eq_true rfl) rfl ho H
theorem pg_X3_numberCount : x_Pg[146]? = some xm_X3_numberCount := by
  unfold x_Pg
  rfl
theorem xe_X3_numberCount_0 {ls : xL} {st : List Value} {h h' : xH} {r : Option Value} (H : x_ev x_nm x_tf x_fn x_Pg x_EV 146 (some .int) r h' xb_X3_numberCount_0 0 ls st h) : x_EV 146 0 ls st h r h' := x_Ev_to (M := xm_X3_numberCount) (is := xb_X3_numberCount_0) pg_X3_numberCount (by rfl) H
theorem xK_X3_numberCount {o : Nat} {x1 : Int32} {h h1 : xH} {r : Option Value} {fs : List Value} (ho : h[o]? = some (.inr (2, fs))) (H : x_EV 146 0 [some (.ref o), some (.int x1)] [] h r h1) : xK 146 [.ref o, .int x1] h r h1 := x_calX_v pg_X3_numberCount rfl rfl (Nat.le_of_ble_eq_true rfl) rfl ho H
theorem pg_X3_number : x_Pg[147]? = some xm_X3_number := by
  unfold x_Pg
  rfl
theorem xe_X3_number_0 {ls : xL} {st : List Value} {h h' : xH} {r : Option Value} (H : x_ev x_nm x_tf x_fn x_Pg x_EV 147 (some .int) r h' xb_X3_number_0 0 ls st h) : x_EV 147 0 ls st h r h' := x_Ev_to (M := xm_X3_number) (is := xb_X3_number_0) pg_X3_number (by rfl) H
theorem xe_X3_number_26 {ls : xL} {st : List Value} {h h' : xH} {r : Option Value} (H : x_ev x_nm x_tf x_fn x_Pg x_EV 147 (some .int) r h' xb_X3_number_26 26 ls st h) : x_EV 147 26 ls st h r h' := x_Ev_to (M := xm_X3_number) (is := xb_X3_number_26) pg_X3_number (by rfl) H
theorem xe_X3_number_27 {ls : xL} {st : List Value} {h h' : xH} {r : Option Value} (H : x_ev x_nm x_tf x_fn x_Pg x_EV 147 (some .int) r h' xb_X3_number_27 27 ls st h) : x_EV 147 27 ls st h r h' := x_Ev_to (M := xm_X3_number) (is := xb_X3_number_27) pg_X3_number (by rfl) H
theorem xK_X3_number {o : Nat} {x1 : Int32} {x2 : Int32} {h h1 : xH} {r : Option Value} {fs : List Value} (ho : h[o]? = some (.inr (2, fs))) (H : x_EV 147 0 [some (.ref o), some (.int x1), some (.int x2)] [] h r h1) : xK 147 [.ref o, .int x1, .int x2] h r h1 := x_calX_v pg_X3_number rfl rfl (Nat.le_of_ble_eq_true rfl) rfl ho H
theorem pg_X7_doWords : x_Pg[148]? = some xm_X7_doWords := by
  unfold x_Pg
  rfl
theorem xe_X7_doWords_0 {ls : xL} {st : List Value} {h h' : xH} {r : Option Value} (H : x_ev x_nm x_tf x_fn x_Pg x_EV 148 (some .boolean) r h' xb_X7_doWords_0 0 ls st h) : x_EV 148 0 ls st h r h' := x_Ev_to (M := xm_X7_doWords) (is := xb_X7_doWords_0) pg_X7_doWords (by rfl) H
theorem xe_X7_doWords_11 {ls : xL} {st : List Value} {h h' : xH} {r : Option Value} (H : x_ev x_nm x_tf x_fn x_Pg x_EV 148 (some .boolean) r h' xb_X7_doWords_11 11 ls st h) : x_EV 148 11 ls st h r h' := x_Ev_to (M := xm_X7_doWords) (is := xb_X7_doWords_11) pg_X7_doWords (by rfl) H
theorem xe_X7_doWords_41 {ls : xL} {st : List Value} {h h' : xH} {r : Option Value} (H : x_ev x_nm x_tf x_fn x_Pg x_EV 148 (some .boolean) r h' xb_X7_doWords_41 41 ls st h) : x_EV 148 41 ls st h r h' := x_Ev_to (M := xm_X7_doWords) (is := xb_X7_doWords_41) pg_X7_doWords (by rfl) H
theorem xe_X7_doWords_60 {ls : xL} {st : List Value} {h h' : xH} {r : Option Value} (H : x_ev x_nm x_tf x_fn x_Pg x_EV 148 (some .boolean) r h' xb_X7_doWords_60 60 ls st h) : x_EV 148 60 ls st h r h' := x_Ev_to (M := xm_X7_doWords) (is := xb_X7_doWords_60) pg_X7_doWords (by rfl) H
theorem xK_X7_doWords {o : Nat} {x1 : Int32} {h h1 : xH} {r : Option Value} {fs : List Value} (ho : h[o]? = some (.inr (6, fs))) (H : x_EV 148 0 [some (.ref o), some (.int x1), none, none, none] [] h r h1) : xK 148 [.ref o, .int x1] h r h1 := x_calX_v pg_X7_doWords rfl rfl (Nat.le_of_ble_eq_true rfl) rfl ho H
theorem pg_X7_doEntry : x_Pg[149]? = some xm_X7_doEntry := by
  unfold x_Pg
  rfl
theorem xe_X7_doEntry_0 {ls : xL} {st : List Value} {h h' : xH} {r : Option Value} (H : x_ev x_nm x_tf x_fn x_Pg x_EV 149 (some .boolean) r h' xb_X7_doEntry_0 0 ls st h) : x_EV 149 0 ls st h r h' := x_Ev_to (M := xm_X7_doEntry) (is := xb_X7_doEntry_0) pg_X7_doEntry (by rfl) H
theorem xe_X7_doEntry_18 {ls : xL} {st : List Value} {h h' : xH} {r : Option Value} (H : x_ev x_nm x_tf x_fn x_Pg x_EV 149 (some .boolean) r h' xb_X7_doEntry_18 18 ls st h) : x_EV 149 18 ls st h r h' := x_Ev_to (M := xm_X7_doEntry) (is := xb_X7_doEntry_18) pg_X7_doEntry (by rfl) H
theorem xK_X7_doEntry {o : Nat} {x1 : Int32} {x2 : Int32} {x3 : Int32} {h h1 : xH} {r : Option Value} {fs : List Value} (ho : h[o]? = some (.inr (6, fs))) (H : x_EV 149 0 [some (.ref o), some (.int x1), some (.int x2), some (.int x3)] [] h r h1) : xK 149 [.ref o, .int x1, .int x2, .int x3] h r h1 := x_calX_v pg_X7_doEntry rfl rfl (Nat.le_of_ble_eq_true rfl) rfl ho H
theorem pg_X7_doOrder : x_Pg[150]? = some xm_X7_doOrder := by
  unfold x_Pg
  rfl
theorem xe_X7_doOrder_0 {ls : xL} {st : List Value} {h h' : xH} {r : Option Value} (H : x_ev x_nm x_tf x_fn x_Pg x_EV 150 (some .boolean) r h' xb_X7_doOrder_0 0 ls st h) : x_EV 150 0 ls st h r h' := x_Ev_to (M := xm_X7_doOrder) (is := xb_X7_doOrder_0) pg_X7_doOrder (by rfl) H
theorem xe_X7_doOrder_100 {ls : xL} {st : List Value} {h h' : xH} {r : Option Value} (H : x_ev x_nm x_tf x_fn x_Pg x_EV 150 (some .boolean) r h' xb_X7_doOrder_100 100 ls st h) : x_EV 150 100 ls st h r h' := x_Ev_to (M := xm_X7_doOrder) (is := xb_X7_doOrder_100) pg_X7_doOrder (by rfl) H
theorem xe_X7_doOrder_108 {ls : xL} {st : List Value} {h h' : xH} {r : Option Value} (H : x_ev x_nm x_tf x_fn x_Pg x_EV 150 (some .boolean) r h' xb_X7_doOrder_108 108 ls st h) : x_EV 150 108 ls st h r h' := x_Ev_to (M := xm_X7_doOrder) (is := xb_X7_doOrder_108) pg_X7_doOrder (by rfl) H
theorem xe_X7_doOrder_118 {ls : xL} {st : List Value} {h h' : xH} {r : Option Value} (H : x_ev x_nm x_tf x_fn x_Pg x_EV 150 (some .boolean) r h' xb_X7_doOrder_118 118 ls st h) : x_EV 150 118 ls st h r h' := x_Ev_to (M := xm_X7_doOrder) (is := xb_X7_doOrder_118) pg_X7_doOrder (by rfl) H
theorem xe_X7_doOrder_134 {ls : xL} {st : List Value} {h h' : xH} {r : Option Value} (H : x_ev x_nm x_tf x_fn x_Pg x_EV 150 (some .boolean) r h' xb_X7_doOrder_134 134 ls st h) : x_EV 150 134 ls st h r h' := x_Ev_to (M := xm_X7_doOrder) (is := xb_X7_doOrder_134) pg_X7_doOrder (by rfl) H
theorem xe_X7_doOrder_148 {ls : xL} {st : List Value} {h h' : xH} {r : Option Value} (H : x_ev x_nm x_tf x_fn x_Pg x_EV 150 (some .boolean) r h' xb_X7_doOrder_148 148 ls st h) : x_EV 150 148 ls st h r h' := x_Ev_to (M := xm_X7_doOrder) (is := xb_X7_doOrder_148) pg_X7_doOrder (by rfl) H
theorem xe_X7_doOrder_160 {ls : xL} {st : List Value} {h h' : xH} {r : Option Value} (H : x_ev x_nm x_tf x_fn x_Pg x_EV 150 (some .boolean) r h' xb_X7_doOrder_160 160 ls st h) : x_EV 150 160 ls st h r h' := x_Ev_to (M := xm_X7_doOrder) (is := xb_X7_doOrder_160) pg_X7_doOrder (by rfl) H
theorem xe_X7_doOrder_170 {ls : xL} {st : List Value} {h h' : xH} {r : Option Value} (H : x_ev x_nm x_tf x_fn x_Pg x_EV 150 (some .boolean) r h' xb_X7_doOrder_170 170 ls st h) : x_EV 150 170 ls st h r h' := x_Ev_to (M := xm_X7_doOrder) (is := xb_X7_doOrder_170) pg_X7_doOrder (by rfl) H
theorem xK_X7_doOrder {o : Nat} {x1 : Int32} {h h1 : xH} {r : Option Value} {fs : List Value} (ho : h[o]? = some (.inr (6, fs))) (H : x_EV 150 0 [some (.ref o), some (.int x1), none, none, none, none, none] [] h r h1) : xK 150 [.ref o, .int x1] h r h1 := x_calX_v pg_X7_doOrder rfl rfl (Nat.le_of_ble_eq_true rfl) rfl ho H
theorem pg_X7_does : x_Pg[151]? = some xm_X7_does := by
  unfold x_Pg
  rfl
theorem xe_X7_does_0 {ls : xL} {st : List Value} {h h' : xH} {r : Option Value} (H : x_ev x_nm x_tf x_fn x_Pg x_EV 151 (some .int) r h' xb_X7_does_0 0 ls st h) : x_EV 151 0 ls st h r h' := x_Ev_to (M := xm_X7_does) (is := xb_X7_does_0) pg_X7_does (by rfl) H
theorem xe_X7_does_18 {ls : xL} {st : List Value} {h h' : xH} {r : Option Value} (H : x_ev x_nm x_tf x_fn x_Pg x_EV 151 (some .int) r h' xb_X7_does_18 18 ls st h) : x_EV 151 18 ls st h r h' := x_Ev_to (M := xm_X7_does) (is := xb_X7_does_18) pg_X7_does (by rfl) H
theorem xe_X7_does_31 {ls : xL} {st : List Value} {h h' : xH} {r : Option Value} (H : x_ev x_nm x_tf x_fn x_Pg x_EV 151 (some .int) r h' xb_X7_does_31 31 ls st h) : x_EV 151 31 ls st h r h' := x_Ev_to (M := xm_X7_does) (is := xb_X7_does_31) pg_X7_does (by rfl) H
theorem xe_X7_does_63 {ls : xL} {st : List Value} {h h' : xH} {r : Option Value} (H : x_ev x_nm x_tf x_fn x_Pg x_EV 151 (some .int) r h' xb_X7_does_63 63 ls st h) : x_EV 151 63 ls st h r h' := x_Ev_to (M := xm_X7_does) (is := xb_X7_does_63) pg_X7_does (by rfl) H
theorem xe_X7_does_68 {ls : xL} {st : List Value} {h h' : xH} {r : Option Value} (H : x_ev x_nm x_tf x_fn x_Pg x_EV 151 (some .int) r h' xb_X7_does_68 68 ls st h) : x_EV 151 68 ls st h r h' := x_Ev_to (M := xm_X7_does) (is := xb_X7_does_68) pg_X7_does (by rfl) H
theorem xe_X7_does_90 {ls : xL} {st : List Value} {h h' : xH} {r : Option Value} (H : x_ev x_nm x_tf x_fn x_Pg x_EV 151 (some .int) r h' xb_X7_does_90 90 ls st h) : x_EV 151 90 ls st h r h' := x_Ev_to (M := xm_X7_does) (is := xb_X7_does_90) pg_X7_does (by rfl) H
theorem xe_X7_does_96 {ls : xL} {st : List Value} {h h' : xH} {r : Option Value} (H : x_ev x_nm x_tf x_fn x_Pg x_EV 151 (some .int) r h' xb_X7_does_96 96 ls st h) : x_EV 151 96 ls st h r h' := x_Ev_to (M := xm_X7_does) (is := xb_X7_does_96) pg_X7_does (by rfl) H
theorem xK_X7_does {o : Nat}  {h h1 : xH} {r : Option Value} {fs : List Value} (ho : h[o]? = some (.inr (6, fs))) (H : x_EV 151 0 [some (.ref o), none, none, none] [] h r h1) : xK 151 [.ref o] h r h1 := x_calX_v pg_X7_does rfl rfl (Nat.le_of_ble_eq_true rfl) rfl ho H
theorem pg_X8_isAt : x_Pg[152]? = some xm_X8_isAt := by
  unfold x_Pg
  rfl
theorem xe_X8_isAt_0 {ls : xL} {st : List Value} {h h' : xH} {r : Option Value} (H : x_ev x_nm x_tf x_fn x_Pg x_EV 152 (some .boolean) r h' xb_X8_isAt_0 0 ls st h) : x_EV 152 0 ls st h r h' := x_Ev_to (M := xm_X8_isAt) (is := xb_X8_isAt_0) pg_X8_isAt (by rfl) H
theorem xe_X8_isAt_32 {ls : xL} {st : List Value} {h h' : xH} {r : Option Value} (H : x_ev x_nm x_tf x_fn x_Pg x_EV 152 (some .boolean) r h' xb_X8_isAt_32 32 ls st h) : x_EV 152 32 ls st h r h' := x_Ev_to (M := xm_X8_isAt) (is := xb_X8_isAt_32) pg_X8_isAt (by rfl) H
theorem xe_X8_isAt_33 {ls : xL} {st : List Value} {h h' : xH} {r : Option Value} (H : x_ev x_nm x_tf x_fn x_Pg x_EV 152 (some .boolean) r h' xb_X8_isAt_33 33 ls st h) : x_EV 152 33 ls st h r h' := x_Ev_to (M := xm_X8_isAt) (is := xb_X8_isAt_33) pg_X8_isAt (by rfl) H
theorem xK_X8_isAt {o : Nat} {x1 : Int32} {x2 : Int32} {h h1 : xH} {r : Option Value} {fs : List Value} (ho : h[o]? = some (.inr (7, fs))) (H : x_EV 152 0 [some (.ref o), some (.int x1), some (.int x2)] [] h r h1) : xK 152 [.ref o, .int x1, .int x2] h r h1 := x_calX_v pg_X8_isAt rfl rfl (Nat.le_of_ble_eq_true rfl) rfl ho H
theorem pg_X8_blanks : x_Pg[153]? = some xm_X8_blanks := by
  unfold x_Pg
  rfl
theorem xe_X8_blanks_0 {ls : xL} {st : List Value} {h h' : xH} {r : Option Value} (H : x_ev x_nm x_tf x_fn x_Pg x_EV 153 none r h' xb_X8_blanks_0 0 ls st h) : x_EV 153 0 ls st h r h' := x_Ev_to (M := xm_X8_blanks) (is := xb_X8_blanks_0) pg_X8_blanks (by rfl) H
theorem xe_X8_blanks_24 {ls : xL} {st : List Value} {h h' : xH} {r : Option Value} (H : x_ev x_nm x_tf x_fn x_Pg x_EV 153 none r h' xb_X8_blanks_24 24 ls st h) : x_EV 153 24 ls st h r h' := x_Ev_to (M := xm_X8_blanks) (is := xb_X8_blanks_24) pg_X8_blanks (by rfl) H
theorem xK_X8_blanks {o : Nat}  {h h1 : xH} {r : Option Value} {fs : List Value} (ho : h[o]? = some (.inr (7, fs))) (H : x_EV 153 0 [some (.ref o)] [] h r h1) : xK 153 [.ref o] h r h1 := x_calX_v pg_X8_blanks rfl rfl (Nat.le_of_ble_eq_true rfl) rfl ho H
theorem pg_X8_leastOf : x_Pg[154]? = some xm_X8_leastOf := by
  unfold x_Pg
  rfl
theorem xe_X8_leastOf_0 {ls : xL} {st : List Value} {h h' : xH} {r : Option Value} (H : x_ev x_nm x_tf x_fn x_Pg x_EV 154 (some .int) r h' xb_X8_leastOf_0 0 ls st h) : x_EV 154 0 ls st h r h' := x_Ev_to (M := xm_X8_leastOf) (is := xb_X8_leastOf_0) pg_X8_leastOf (by rfl) H
theorem xe_X8_leastOf_12 {ls : xL} {st : List Value} {h h' : xH} {r : Option Value} (H : x_ev x_nm x_tf x_fn x_Pg x_EV 154 (some .int) r h' xb_X8_leastOf_12 12 ls st h) : x_EV 154 12 ls st h r h' := x_Ev_to (M := xm_X8_leastOf) (is := xb_X8_leastOf_12) pg_X8_leastOf (by rfl) H
theorem xe_X8_leastOf_16 {ls : xL} {st : List Value} {h h' : xH} {r : Option Value} (H : x_ev x_nm x_tf x_fn x_Pg x_EV 154 (some .int) r h' xb_X8_leastOf_16 16 ls st h) : x_EV 154 16 ls st h r h' := x_Ev_to (M := xm_X8_leastOf) (is := xb_X8_leastOf_16) pg_X8_leastOf (by rfl) H
theorem xe_X8_leastOf_26 {ls : xL} {st : List Value} {h h' : xH} {r : Option Value} (H : x_ev x_nm x_tf x_fn x_Pg x_EV 154 (some .int) r h' xb_X8_leastOf_26 26 ls st h) : x_EV 154 26 ls st h r h' := x_Ev_to (M := xm_X8_leastOf) (is := xb_X8_leastOf_26) pg_X8_leastOf (by rfl) H
theorem xe_X8_leastOf_36 {ls : xL} {st : List Value} {h h' : xH} {r : Option Value} (H : x_ev x_nm x_tf x_fn x_Pg x_EV 154 (some .int) r h' xb_X8_leastOf_36 36 ls st h) : x_EV 154 36 ls st h r h' := x_Ev_to (M := xm_X8_leastOf) (is := xb_X8_leastOf_36) pg_X8_leastOf (by rfl) H
theorem xe_X8_leastOf_46 {ls : xL} {st : List Value} {h h' : xH} {r : Option Value} (H : x_ev x_nm x_tf x_fn x_Pg x_EV 154 (some .int) r h' xb_X8_leastOf_46 46 ls st h) : x_EV 154 46 ls st h r h' := x_Ev_to (M := xm_X8_leastOf) (is := xb_X8_leastOf_46) pg_X8_leastOf (by rfl) H
theorem xe_X8_leastOf_47 {ls : xL} {st : List Value} {h h' : xH} {r : Option Value} (H : x_ev x_nm x_tf x_fn x_Pg x_EV 154 (some .int) r h' xb_X8_leastOf_47 47 ls st h) : x_EV 154 47 ls st h r h' := x_Ev_to (M := xm_X8_leastOf) (is := xb_X8_leastOf_47) pg_X8_leastOf (by rfl) H
theorem xK_X8_leastOf {x1 : Int32} {h h1 : xH} {r : Option Value} (H : x_EV 154 0 [some (.int x1)] [] h r h1) : xK 154 [.int x1] h r h1 := x_calX_s pg_X8_leastOf rfl (Nat.le_of_ble_eq_true rfl) rfl H
theorem pg_X8_fails : x_Pg[155]? = some xm_X8_fails := by
  unfold x_Pg
  rfl
theorem xe_X8_fails_0 {ls : xL} {st : List Value} {h h' : xH} {r : Option Value} (H : x_ev x_nm x_tf x_fn x_Pg x_EV 155 (some .boolean) r h' xb_X8_fails_0 0 ls st h) : x_EV 155 0 ls st h r h' := x_Ev_to (M := xm_X8_fails) (is := xb_X8_fails_0) pg_X8_fails (by rfl) H
theorem xK_X8_fails {o : Nat} {x1 : Int32} {h h1 : xH} {r : Option Value} {fs : List Value} (ho : h[o]? = some (.inr (7, fs))) (H : x_EV 155 0 [some (.ref o), some (.int x1)] [] h r h1) : xK 155 [.ref o, .int x1] h r h1 := x_calX_v pg_X8_fails rfl rfl (Nat.le_of_ble_eq_true rfl) rfl ho H
theorem pg_X8_mostOf : x_Pg[156]? = some xm_X8_mostOf := by
  unfold x_Pg
  rfl
theorem xe_X8_mostOf_0 {ls : xL} {st : List Value} {h h' : xH} {r : Option Value} (H : x_ev x_nm x_tf x_fn x_Pg x_EV 156 (some .int) r h' xb_X8_mostOf_0 0 ls st h) : x_EV 156 0 ls st h r h' := x_Ev_to (M := xm_X8_mostOf) (is := xb_X8_mostOf_0) pg_X8_mostOf (by rfl) H
theorem xe_X8_mostOf_11 {ls : xL} {st : List Value} {h h' : xH} {r : Option Value} (H : x_ev x_nm x_tf x_fn x_Pg x_EV 156 (some .int) r h' xb_X8_mostOf_11 11 ls st h) : x_EV 156 11 ls st h r h' := x_Ev_to (M := xm_X8_mostOf) (is := xb_X8_mostOf_11) pg_X8_mostOf (by rfl) H
theorem xe_X8_mostOf_15 {ls : xL} {st : List Value} {h h' : xH} {r : Option Value} (H : x_ev x_nm x_tf x_fn x_Pg x_EV 156 (some .int) r h' xb_X8_mostOf_15 15 ls st h) : x_EV 156 15 ls st h r h' := x_Ev_to (M := xm_X8_mostOf) (is := xb_X8_mostOf_15) pg_X8_mostOf (by rfl) H
theorem xK_X8_mostOf {x1 : Int32} {h h1 : xH} {r : Option Value} (H : x_EV 156 0 [some (.int x1)] [] h r h1) : xK 156 [.int x1] h r h1 := x_calX_s pg_X8_mostOf rfl (Nat.le_of_ble_eq_true rfl) rfl H
theorem pg_X8_takesNumber : x_Pg[157]? = some xm_X8_takesNumber := by
  unfold x_Pg
  rfl
theorem xe_X8_takesNumber_0 {ls : xL} {st : List Value} {h h' : xH} {r : Option Value} (H : x_ev x_nm x_tf x_fn x_Pg x_EV 157 (some .boolean) r h' xb_X8_takesNumber_0 0 ls st h) : x_EV 157 0 ls st h r h' := x_Ev_to (M := xm_X8_takesNumber) (is := xb_X8_takesNumber_0) pg_X8_takesNumber (by rfl) H
theorem xe_X8_takesNumber_12 {ls : xL} {st : List Value} {h h' : xH} {r : Option Value} (H : x_ev x_nm x_tf x_fn x_Pg x_EV 157 (some .boolean) r h' xb_X8_takesNumber_12 12 ls st h) : x_EV 157 12 ls st h r h' := x_Ev_to (M := xm_X8_takesNumber) (is := xb_X8_takesNumber_12) pg_X8_takesNumber (by rfl) H
theorem xe_X8_takesNumber_42 {ls : xL} {st : List Value} {h h' : xH} {r : Option Value} (H : x_ev x_nm x_tf x_fn x_Pg x_EV 157 (some .boolean) r h' xb_X8_takesNumber_42 42 ls st h) : x_EV 157 42 ls st h r h' := x_Ev_to (M := xm_X8_takesNumber) (is := xb_X8_takesNumber_42) pg_X8_takesNumber (by rfl) H
theorem xe_X8_takesNumber_83 {ls : xL} {st : List Value} {h h' : xH} {r : Option Value} (H : x_ev x_nm x_tf x_fn x_Pg x_EV 157 (some .boolean) r h' xb_X8_takesNumber_83 83 ls st h) : x_EV 157 83 ls st h r h' := x_Ev_to (M := xm_X8_takesNumber) (is := xb_X8_takesNumber_83) pg_X8_takesNumber (by rfl) H
theorem xK_X8_takesNumber {o : Nat} {x1 : Int32} {h h1 : xH} {r : Option Value} {fs : List Value} (ho : h[o]? = some (.inr (7, fs))) (H : x_EV 157 0 [some (.ref o), some (.int x1), none] [] h r h1) : xK 157 [.ref o, .int x1] h r h1 := x_calX_v pg_X8_takesNumber rfl rfl (Nat.le_of_ble_eq_true rfl) rfl ho H
theorem pg_X8_takesNumbers : x_Pg[158]? = some xm_X8_takesNumbers := by
  unfold x_Pg
  rfl
theorem xe_X8_takesNumbers_0 {ls : xL} {st : List Value} {h h' : xH} {r : Option Value} (H : x_ev x_nm x_tf x_fn x_Pg x_EV 158 (some .boolean) r h' xb_X8_takesNumbers_0 0 ls st h) : x_EV 158 0 ls st h r h' := x_Ev_to (M := xm_X8_takesNumbers) (is := xb_X8_takesNumbers_0) pg_X8_takesNumbers (by rfl) H
theorem xe_X8_takesNumbers_14 {ls : xL} {st : List Value} {h h' : xH} {r : Option Value} (H : x_ev x_nm x_tf x_fn x_Pg x_EV 158 (some .boolean) r h' xb_X8_takesNumbers_14 14 ls st h) : x_EV 158 14 ls st h r h' := x_Ev_to (M := xm_X8_takesNumbers) (is := xb_X8_takesNumbers_14) pg_X8_takesNumbers (by rfl) H
theorem xe_X8_takesNumbers_49 {ls : xL} {st : List Value} {h h' : xH} {r : Option Value} (H : x_ev x_nm x_tf x_fn x_Pg x_EV 158 (some .boolean) r h' xb_X8_takesNumbers_49 49 ls st h) : x_EV 158 49 ls st h r h' := x_Ev_to (M := xm_X8_takesNumbers) (is := xb_X8_takesNumbers_49) pg_X8_takesNumbers (by rfl) H
theorem xe_X8_takesNumbers_50 {ls : xL} {st : List Value} {h h' : xH} {r : Option Value} (H : x_ev x_nm x_tf x_fn x_Pg x_EV 158 (some .boolean) r h' xb_X8_takesNumbers_50 50 ls st h) : x_EV 158 50 ls st h r h' := x_Ev_to (M := xm_X8_takesNumbers) (is := xb_X8_takesNumbers_50) pg_X8_takesNumbers (by rfl) H
theorem xe_X8_takesNumbers_69 {ls : xL} {st : List Value} {h h' : xH} {r : Option Value} (H : x_ev x_nm x_tf x_fn x_Pg x_EV 158 (some .boolean) r h' xb_X8_takesNumbers_69 69 ls st h) : x_EV 158 69 ls st h r h' := x_Ev_to (M := xm_X8_takesNumbers) (is := xb_X8_takesNumbers_69) pg_X8_takesNumbers (by rfl) H
theorem xe_X8_takesNumbers_83 {ls : xL} {st : List Value} {h h' : xH} {r : Option Value} (H : x_ev x_nm x_tf x_fn x_Pg x_EV 158 (some .boolean) r h' xb_X8_takesNumbers_83 83 ls st h) : x_EV 158 83 ls st h r h' := x_Ev_to (M := xm_X8_takesNumbers) (is := xb_X8_takesNumbers_83) pg_X8_takesNumbers (by rfl) H
theorem xe_X8_takesNumbers_84 {ls : xL} {st : List Value} {h h' : xH} {r : Option Value} (H : x_ev x_nm x_tf x_fn x_Pg x_EV 158 (some .boolean) r h' xb_X8_takesNumbers_84 84 ls st h) : x_EV 158 84 ls st h r h' := x_Ev_to (M := xm_X8_takesNumbers) (is := xb_X8_takesNumbers_84) pg_X8_takesNumbers (by rfl) H
theorem xe_X8_takesNumbers_112 {ls : xL} {st : List Value} {h h' : xH} {r : Option Value} (H : x_ev x_nm x_tf x_fn x_Pg x_EV 158 (some .boolean) r h' xb_X8_takesNumbers_112 112 ls st h) : x_EV 158 112 ls st h r h' := x_Ev_to (M := xm_X8_takesNumbers) (is := xb_X8_takesNumbers_112) pg_X8_takesNumbers (by rfl) H
theorem xe_X8_takesNumbers_148 {ls : xL} {st : List Value} {h h' : xH} {r : Option Value} (H : x_ev x_nm x_tf x_fn x_Pg x_EV 158 (some .boolean) r h' xb_X8_takesNumbers_148 148 ls st h) : x_EV 158 148 ls st h r h' := x_Ev_to (M := xm_X8_takesNumbers) (is := xb_X8_takesNumbers_148) pg_X8_takesNumbers (by rfl) H
theorem xe_X8_takesNumbers_157 {ls : xL} {st : List Value} {h h' : xH} {r : Option Value} (H : x_ev x_nm x_tf x_fn x_Pg x_EV 158 (some .boolean) r h' xb_X8_takesNumbers_157 157 ls st h) : x_EV 158 157 ls st h r h' := x_Ev_to (M := xm_X8_takesNumbers) (is := xb_X8_takesNumbers_157) pg_X8_takesNumbers (by rfl) H
theorem xe_X8_takesNumbers_167 {ls : xL} {st : List Value} {h h' : xH} {r : Option Value} (H : x_ev x_nm x_tf x_fn x_Pg x_EV 158 (some .boolean) r h' xb_X8_takesNumbers_167 167 ls st h) : x_EV 158 167 ls st h r h' := x_Ev_to (M := xm_X8_takesNumbers) (is := xb_X8_takesNumbers_167) pg_X8_takesNumbers (by rfl) H
theorem xe_X8_takesNumbers_194 {ls : xL} {st : List Value} {h h' : xH} {r : Option Value} (H : x_ev x_nm x_tf x_fn x_Pg x_EV 158 (some .boolean) r h' xb_X8_takesNumbers_194 194 ls st h) : x_EV 158 194 ls st h r h' := x_Ev_to (M := xm_X8_takesNumbers) (is := xb_X8_takesNumbers_194) pg_X8_takesNumbers (by rfl) H
theorem xK_X8_takesNumbers {o : Nat} {x1 : Int32} {h h1 : xH} {r : Option Value} {fs : List Value} (ho : h[o]? = some (.inr (7, fs))) (H : x_EV 158 0 [some (.ref o), some (.int x1), none, none, none, none] [] h r h1) : xK 158 [.ref o, .int x1] h r h1 := x_calX_v pg_X8_takesNumbers rfl rfl (Nat.le_of_ble_eq_true rfl) rfl ho H
theorem pg_X8_isRead : x_Pg[159]? = some xm_X8_isRead := by
  unfold x_Pg
  rfl
theorem xe_X8_isRead_0 {ls : xL} {st : List Value} {h h' : xH} {r : Option Value} (H : x_ev x_nm x_tf x_fn x_Pg x_EV 159 (some .boolean) r h' xb_X8_isRead_0 0 ls st h) : x_EV 159 0 ls st h r h' := x_Ev_to (M := xm_X8_isRead) (is := xb_X8_isRead_0) pg_X8_isRead (by rfl) H
theorem xe_X8_isRead_21 {ls : xL} {st : List Value} {h h' : xH} {r : Option Value} (H : x_ev x_nm x_tf x_fn x_Pg x_EV 159 (some .boolean) r h' xb_X8_isRead_21 21 ls st h) : x_EV 159 21 ls st h r h' := x_Ev_to (M := xm_X8_isRead) (is := xb_X8_isRead_21) pg_X8_isRead (by rfl) H
theorem xe_X8_isRead_58 {ls : xL} {st : List Value} {h h' : xH} {r : Option Value} (H : x_ev x_nm x_tf x_fn x_Pg x_EV 159 (some .boolean) r h' xb_X8_isRead_58 58 ls st h) : x_EV 159 58 ls st h r h' := x_Ev_to (M := xm_X8_isRead) (is := xb_X8_isRead_58) pg_X8_isRead (by rfl) H
theorem xe_X8_isRead_88 {ls : xL} {st : List Value} {h h' : xH} {r : Option Value} (H : x_ev x_nm x_tf x_fn x_Pg x_EV 159 (some .boolean) r h' xb_X8_isRead_88 88 ls st h) : x_EV 159 88 ls st h r h' := x_Ev_to (M := xm_X8_isRead) (is := xb_X8_isRead_88) pg_X8_isRead (by rfl) H
theorem xe_X8_isRead_95 {ls : xL} {st : List Value} {h h' : xH} {r : Option Value} (H : x_ev x_nm x_tf x_fn x_Pg x_EV 159 (some .boolean) r h' xb_X8_isRead_95 95 ls st h) : x_EV 159 95 ls st h r h' := x_Ev_to (M := xm_X8_isRead) (is := xb_X8_isRead_95) pg_X8_isRead (by rfl) H
theorem xe_X8_isRead_113 {ls : xL} {st : List Value} {h h' : xH} {r : Option Value} (H : x_ev x_nm x_tf x_fn x_Pg x_EV 159 (some .boolean) r h' xb_X8_isRead_113 113 ls st h) : x_EV 159 113 ls st h r h' := x_Ev_to (M := xm_X8_isRead) (is := xb_X8_isRead_113) pg_X8_isRead (by rfl) H
theorem xe_X8_isRead_117 {ls : xL} {st : List Value} {h h' : xH} {r : Option Value} (H : x_ev x_nm x_tf x_fn x_Pg x_EV 159 (some .boolean) r h' xb_X8_isRead_117 117 ls st h) : x_EV 159 117 ls st h r h' := x_Ev_to (M := xm_X8_isRead) (is := xb_X8_isRead_117) pg_X8_isRead (by rfl) H
theorem xe_X8_isRead_118 {ls : xL} {st : List Value} {h h' : xH} {r : Option Value} (H : x_ev x_nm x_tf x_fn x_Pg x_EV 159 (some .boolean) r h' xb_X8_isRead_118 118 ls st h) : x_EV 159 118 ls st h r h' := x_Ev_to (M := xm_X8_isRead) (is := xb_X8_isRead_118) pg_X8_isRead (by rfl) H
theorem xK_X8_isRead {o : Nat}  {h h1 : xH} {r : Option Value} {fs : List Value} (ho : h[o]? = some (.inr (7, fs))) (H : x_EV 159 0 [some (.ref o), none] [] h r h1) : xK 159 [.ref o] h r h1 := x_calX_v pg_X8_isRead rfl rfl (Nat.le_of_ble_eq_true rfl) rfl ho H
theorem pg_X8_entersTold : x_Pg[160]? = some xm_X8_entersTold := by
  unfold x_Pg
  rfl
theorem xe_X8_entersTold_0 {ls : xL} {st : List Value} {h h' : xH} {r : Option Value} (H : x_ev x_nm x_tf x_fn x_Pg x_EV 160 (some .boolean) r h' xb_X8_entersTold_0 0 ls st h) : x_EV 160 0 ls st h r h' := x_Ev_to (M := xm_X8_entersTold) (is := xb_X8_entersTold_0) pg_X8_entersTold (by rfl) H
theorem xe_X8_entersTold_21 {ls : xL} {st : List Value} {h h' : xH} {r : Option Value} (H : x_ev x_nm x_tf x_fn x_Pg x_EV 160 (some .boolean) r h' xb_X8_entersTold_21 21 ls st h) : x_EV 160 21 ls st h r h' := x_Ev_to (M := xm_X8_entersTold) (is := xb_X8_entersTold_21) pg_X8_entersTold (by rfl) H
theorem xe_X8_entersTold_23 {ls : xL} {st : List Value} {h h' : xH} {r : Option Value} (H : x_ev x_nm x_tf x_fn x_Pg x_EV 160 (some .boolean) r h' xb_X8_entersTold_23 23 ls st h) : x_EV 160 23 ls st h r h' := x_Ev_to (M := xm_X8_entersTold) (is := xb_X8_entersTold_23) pg_X8_entersTold (by rfl) H
theorem xK_X8_entersTold {o : Nat} {x1 : Int32} {x2 : Int32} {x3 : Int32} {h h1 : xH} {r : Option Value} {fs : List Value} (ho : h[o]? = some (.inr (7, fs))) (H : x_EV 160 0 [some (.ref o), some (.int x1), some (.int x2), some (.int x3)] [] h r h1) : xK 160 [.ref o, .int x1, .int x2, .int x3] h r h1 := x_calX_v pg_X8_entersTold rfl rfl (Nat.le_of_ble_eq_true rfl) rfl ho H
theorem pg_X8_prices : x_Pg[161]? = some xm_X8_prices := by
  unfold x_Pg
  rfl
theorem xe_X8_prices_0 {ls : xL} {st : List Value} {h h' : xH} {r : Option Value} (H : x_ev x_nm x_tf x_fn x_Pg x_EV 161 (some .boolean) r h' xb_X8_prices_0 0 ls st h) : x_EV 161 0 ls st h r h' := x_Ev_to (M := xm_X8_prices) (is := xb_X8_prices_0) pg_X8_prices (by rfl) H
theorem xe_X8_prices_18 {ls : xL} {st : List Value} {h h' : xH} {r : Option Value} (H : x_ev x_nm x_tf x_fn x_Pg x_EV 161 (some .boolean) r h' xb_X8_prices_18 18 ls st h) : x_EV 161 18 ls st h r h' := x_Ev_to (M := xm_X8_prices) (is := xb_X8_prices_18) pg_X8_prices (by rfl) H
theorem xe_X8_prices_33 {ls : xL} {st : List Value} {h h' : xH} {r : Option Value} (H : x_ev x_nm x_tf x_fn x_Pg x_EV 161 (some .boolean) r h' xb_X8_prices_33 33 ls st h) : x_EV 161 33 ls st h r h' := x_Ev_to (M := xm_X8_prices) (is := xb_X8_prices_33) pg_X8_prices (by rfl) H
theorem xe_X8_prices_34 {ls : xL} {st : List Value} {h h' : xH} {r : Option Value} (H : x_ev x_nm x_tf x_fn x_Pg x_EV 161 (some .boolean) r h' xb_X8_prices_34 34 ls st h) : x_EV 161 34 ls st h r h' := x_Ev_to (M := xm_X8_prices) (is := xb_X8_prices_34) pg_X8_prices (by rfl) H
theorem xK_X8_prices {o : Nat} {x1 : Int32} {x2 : Int32} {x3 : Int32} {h h1 : xH} {r : Option Value} {fs : List Value} (ho : h[o]? = some (.inr (7, fs))) (H : x_EV 161 0 [some (.ref o), some (.int x1), some (.int x2), some (.int x3)] [] h r h1) : xK 161 [.ref o, .int x1, .int x2, .int x3] h r h1 := x_calX_v pg_X8_prices rfl rfl (Nat.le_of_ble_eq_true rfl) rfl ho H
theorem pg_X8_listensAll : x_Pg[162]? = some xm_X8_listensAll := by
  unfold x_Pg
  rfl
theorem xe_X8_listensAll_0 {ls : xL} {st : List Value} {h h' : xH} {r : Option Value} (H : x_ev x_nm x_tf x_fn x_Pg x_EV 162 (some .boolean) r h' xb_X8_listensAll_0 0 ls st h) : x_EV 162 0 ls st h r h' := x_Ev_to (M := xm_X8_listensAll) (is := xb_X8_listensAll_0) pg_X8_listensAll (by rfl) H
theorem xe_X8_listensAll_7 {ls : xL} {st : List Value} {h h' : xH} {r : Option Value} (H : x_ev x_nm x_tf x_fn x_Pg x_EV 162 (some .boolean) r h' xb_X8_listensAll_7 7 ls st h) : x_EV 162 7 ls st h r h' := x_Ev_to (M := xm_X8_listensAll) (is := xb_X8_listensAll_7) pg_X8_listensAll (by rfl) H
theorem xe_X8_listensAll_44 {ls : xL} {st : List Value} {h h' : xH} {r : Option Value} (H : x_ev x_nm x_tf x_fn x_Pg x_EV 162 (some .boolean) r h' xb_X8_listensAll_44 44 ls st h) : x_EV 162 44 ls st h r h' := x_Ev_to (M := xm_X8_listensAll) (is := xb_X8_listensAll_44) pg_X8_listensAll (by rfl) H
theorem xe_X8_listensAll_46 {ls : xL} {st : List Value} {h h' : xH} {r : Option Value} (H : x_ev x_nm x_tf x_fn x_Pg x_EV 162 (some .boolean) r h' xb_X8_listensAll_46 46 ls st h) : x_EV 162 46 ls st h r h' := x_Ev_to (M := xm_X8_listensAll) (is := xb_X8_listensAll_46) pg_X8_listensAll (by rfl) H
theorem xe_X8_listensAll_62 {ls : xL} {st : List Value} {h h' : xH} {r : Option Value} (H : x_ev x_nm x_tf x_fn x_Pg x_EV 162 (some .boolean) r h' xb_X8_listensAll_62 62 ls st h) : x_EV 162 62 ls st h r h' := x_Ev_to (M := xm_X8_listensAll) (is := xb_X8_listensAll_62) pg_X8_listensAll (by rfl) H
theorem xK_X8_listensAll {o : Nat} {x1 : Int32} {h h1 : xH} {r : Option Value} {fs : List Value} (ho : h[o]? = some (.inr (7, fs))) (H : x_EV 162 0 [some (.ref o), some (.int x1), none] [] h r h1) : xK 162 [.ref o, .int x1] h r h1 := x_calX_v pg_X8_listensAll rfl rfl (Nat.le_of_ble_eq_true rfl) rfl ho H
theorem pg_X8_obeys : x_Pg[163]? = some xm_X8_obeys := by
  unfold x_Pg
  rfl
theorem xe_X8_obeys_0 {ls : xL} {st : List Value} {h h' : xH} {r : Option Value} (H : x_ev x_nm x_tf x_fn x_Pg x_EV 163 (some .boolean) r h' xb_X8_obeys_0 0 ls st h) : x_EV 163 0 ls st h r h' := x_Ev_to (M := xm_X8_obeys) (is := xb_X8_obeys_0) pg_X8_obeys (by rfl) H
theorem xe_X8_obeys_64 {ls : xL} {st : List Value} {h h' : xH} {r : Option Value} (H : x_ev x_nm x_tf x_fn x_Pg x_EV 163 (some .boolean) r h' xb_X8_obeys_64 64 ls st h) : x_EV 163 64 ls st h r h' := x_Ev_to (M := xm_X8_obeys) (is := xb_X8_obeys_64) pg_X8_obeys (by rfl) H
theorem xe_X8_obeys_72 {ls : xL} {st : List Value} {h h' : xH} {r : Option Value} (H : x_ev x_nm x_tf x_fn x_Pg x_EV 163 (some .boolean) r h' xb_X8_obeys_72 72 ls st h) : x_EV 163 72 ls st h r h' := x_Ev_to (M := xm_X8_obeys) (is := xb_X8_obeys_72) pg_X8_obeys (by rfl) H
theorem xe_X8_obeys_94 {ls : xL} {st : List Value} {h h' : xH} {r : Option Value} (H : x_ev x_nm x_tf x_fn x_Pg x_EV 163 (some .boolean) r h' xb_X8_obeys_94 94 ls st h) : x_EV 163 94 ls st h r h' := x_Ev_to (M := xm_X8_obeys) (is := xb_X8_obeys_94) pg_X8_obeys (by rfl) H
theorem xe_X8_obeys_145 {ls : xL} {st : List Value} {h h' : xH} {r : Option Value} (H : x_ev x_nm x_tf x_fn x_Pg x_EV 163 (some .boolean) r h' xb_X8_obeys_145 145 ls st h) : x_EV 163 145 ls st h r h' := x_Ev_to (M := xm_X8_obeys) (is := xb_X8_obeys_145) pg_X8_obeys (by rfl) H
theorem xe_X8_obeys_146 {ls : xL} {st : List Value} {h h' : xH} {r : Option Value} (H : x_ev x_nm x_tf x_fn x_Pg x_EV 163 (some .boolean) r h' xb_X8_obeys_146 146 ls st h) : x_EV 163 146 ls st h r h' := x_Ev_to (M := xm_X8_obeys) (is := xb_X8_obeys_146) pg_X8_obeys (by rfl) H
theorem xe_X8_obeys_160 {ls : xL} {st : List Value} {h h' : xH} {r : Option Value} (H : x_ev x_nm x_tf x_fn x_Pg x_EV 163 (some .boolean) r h' xb_X8_obeys_160 160 ls st h) : x_EV 163 160 ls st h r h' := x_Ev_to (M := xm_X8_obeys) (is := xb_X8_obeys_160) pg_X8_obeys (by rfl) H
theorem xe_X8_obeys_174 {ls : xL} {st : List Value} {h h' : xH} {r : Option Value} (H : x_ev x_nm x_tf x_fn x_Pg x_EV 163 (some .boolean) r h' xb_X8_obeys_174 174 ls st h) : x_EV 163 174 ls st h r h' := x_Ev_to (M := xm_X8_obeys) (is := xb_X8_obeys_174) pg_X8_obeys (by rfl) H
theorem xe_X8_obeys_175 {ls : xL} {st : List Value} {h h' : xH} {r : Option Value} (H : x_ev x_nm x_tf x_fn x_Pg x_EV 163 (some .boolean) r h' xb_X8_obeys_175 175 ls st h) : x_EV 163 175 ls st h r h' := x_Ev_to (M := xm_X8_obeys) (is := xb_X8_obeys_175) pg_X8_obeys (by rfl) H
theorem xe_X8_obeys_192 {ls : xL} {st : List Value} {h h' : xH} {r : Option Value} (H : x_ev x_nm x_tf x_fn x_Pg x_EV 163 (some .boolean) r h' xb_X8_obeys_192 192 ls st h) : x_EV 163 192 ls st h r h' := x_Ev_to (M := xm_X8_obeys) (is := xb_X8_obeys_192) pg_X8_obeys (by rfl) H
theorem xK_X8_obeys {o : Nat} {x1 : Int32} {h h1 : xH} {r : Option Value} {fs : List Value} (ho : h[o]? = some (.inr (7, fs))) (H : x_EV 163 0 [some (.ref o), some (.int x1), none, none, none] [] h r h1) : xK 163 [.ref o, .int x1] h r h1 := x_calX_v pg_X8_obeys rfl rfl (Nat.le_of_ble_eq_true rfl) rfl ho H
theorem pg_X8_turns : x_Pg[164]? = some xm_X8_turns := by
  unfold x_Pg
  rfl
theorem xe_X8_turns_0 {ls : xL} {st : List Value} {h h' : xH} {r : Option Value} (H : x_ev x_nm x_tf x_fn x_Pg x_EV 164 none r h' xb_X8_turns_0 0 ls st h) : x_EV 164 0 ls st h r h' := x_Ev_to (M := xm_X8_turns) (is := xb_X8_turns_0) pg_X8_turns (by rfl) H
theorem xe_X8_turns_2 {ls : xL} {st : List Value} {h h' : xH} {r : Option Value} (H : x_ev x_nm x_tf x_fn x_Pg x_EV 164 none r h' xb_X8_turns_2 2 ls st h) : x_EV 164 2 ls st h r h' := x_Ev_to (M := xm_X8_turns) (is := xb_X8_turns_2) pg_X8_turns (by rfl) H
theorem xe_X8_turns_41 {ls : xL} {st : List Value} {h h' : xH} {r : Option Value} (H : x_ev x_nm x_tf x_fn x_Pg x_EV 164 none r h' xb_X8_turns_41 41 ls st h) : x_EV 164 41 ls st h r h' := x_Ev_to (M := xm_X8_turns) (is := xb_X8_turns_41) pg_X8_turns (by rfl) H
theorem xK_X8_turns {o : Nat}  {h h1 : xH} {r : Option Value} {fs : List Value} (ho : h[o]? = some (.inr (7, fs))) (H : x_EV 164 0 [some (.ref o), none, none] [] h r h1) : xK 164 [.ref o] h r h1 := x_calX_v pg_X8_turns rfl rfl (Nat.le_of_ble_eq_true rfl) rfl ho H
theorem pg_X8_does : x_Pg[165]? = some xm_X8_does := by
  unfold x_Pg
  rfl
theorem xe_X8_does_0 {ls : xL} {st : List Value} {h h' : xH} {r : Option Value} (H : x_ev x_nm x_tf x_fn x_Pg x_EV 165 (some .int) r h' xb_X8_does_0 0 ls st h) : x_EV 165 0 ls st h r h' := x_Ev_to (M := xm_X8_does) (is := xb_X8_does_0) pg_X8_does (by rfl) H
theorem xe_X8_does_15 {ls : xL} {st : List Value} {h h' : xH} {r : Option Value} (H : x_ev x_nm x_tf x_fn x_Pg x_EV 165 (some .int) r h' xb_X8_does_15 15 ls st h) : x_EV 165 15 ls st h r h' := x_Ev_to (M := xm_X8_does) (is := xb_X8_does_15) pg_X8_does (by rfl) H
theorem xe_X8_does_17 {ls : xL} {st : List Value} {h h' : xH} {r : Option Value} (H : x_ev x_nm x_tf x_fn x_Pg x_EV 165 (some .int) r h' xb_X8_does_17 17 ls st h) : x_EV 165 17 ls st h r h' := x_Ev_to (M := xm_X8_does) (is := xb_X8_does_17) pg_X8_does (by rfl) H
theorem xe_X8_does_42 {ls : xL} {st : List Value} {h h' : xH} {r : Option Value} (H : x_ev x_nm x_tf x_fn x_Pg x_EV 165 (some .int) r h' xb_X8_does_42 42 ls st h) : x_EV 165 42 ls st h r h' := x_Ev_to (M := xm_X8_does) (is := xb_X8_does_42) pg_X8_does (by rfl) H
theorem xe_X8_does_44 {ls : xL} {st : List Value} {h h' : xH} {r : Option Value} (H : x_ev x_nm x_tf x_fn x_Pg x_EV 165 (some .int) r h' xb_X8_does_44 44 ls st h) : x_EV 165 44 ls st h r h' := x_Ev_to (M := xm_X8_does) (is := xb_X8_does_44) pg_X8_does (by rfl) H
theorem xe_X8_does_70 {ls : xL} {st : List Value} {h h' : xH} {r : Option Value} (H : x_ev x_nm x_tf x_fn x_Pg x_EV 165 (some .int) r h' xb_X8_does_70 70 ls st h) : x_EV 165 70 ls st h r h' := x_Ev_to (M := xm_X8_does) (is := xb_X8_does_70) pg_X8_does (by rfl) H
theorem xe_X8_does_76 {ls : xL} {st : List Value} {h h' : xH} {r : Option Value} (H : x_ev x_nm x_tf x_fn x_Pg x_EV 165 (some .int) r h' xb_X8_does_76 76 ls st h) : x_EV 165 76 ls st h r h' := x_Ev_to (M := xm_X8_does) (is := xb_X8_does_76) pg_X8_does (by rfl) H
theorem xK_X8_does {o : Nat}  {h h1 : xH} {r : Option Value} {fs : List Value} (ho : h[o]? = some (.inr (7, fs))) (H : x_EV 165 0 [some (.ref o), none] [] h r h1) : xK 165 [.ref o] h r h1 := x_calX_v pg_X8_does rfl rfl (Nat.le_of_ble_eq_true rfl) rfl ho H
theorem pg_X5_pop : x_Pg[166]? = some xm_X5_pop := by
  unfold x_Pg
  rfl
theorem xe_X5_pop_0 {ls : xL} {st : List Value} {h h' : xH} {r : Option Value} (H : x_ev x_nm x_tf x_fn x_Pg x_EV 166 none r h' xb_X5_pop_0 0 ls st h) : x_EV 166 0 ls st h r h' := x_Ev_to (M := xm_X5_pop) (is := xb_X5_pop_0) pg_X5_pop (by rfl) H
theorem xe_X5_pop_46 {ls : xL} {st : List Value} {h h' : xH} {r : Option Value} (H : x_ev x_nm x_tf x_fn x_Pg x_EV 166 none r h' xb_X5_pop_46 46 ls st h) : x_EV 166 46 ls st h r h' := x_Ev_to (M := xm_X5_pop) (is := xb_X5_pop_46) pg_X5_pop (by rfl) H
theorem xK_X5_pop {o : Nat} {x1 : Nat} {h h1 : xH} {r : Option Value} {fs : List Value} (ho : h[o]? = some (.inr (4, fs))) (H : x_EV 166 0 [some (.ref o), some (.ref x1)] [] h r h1) : xK 166 [.ref o, .ref x1] h r h1 := x_calX_v pg_X5_pop rfl rfl (Nat.le_of_ble_eq_true rfl) rfl ho H
theorem pg_X7_back : x_Pg[167]? = some xm_X7_back := by
  unfold x_Pg
  rfl
theorem xe_X7_back_0 {ls : xL} {st : List Value} {h h' : xH} {r : Option Value} (H : x_ev x_nm x_tf x_fn x_Pg x_EV 167 (some .int) r h' xb_X7_back_0 0 ls st h) : x_EV 167 0 ls st h r h' := x_Ev_to (M := xm_X7_back) (is := xb_X7_back_0) pg_X7_back (by rfl) H
theorem xe_X7_back_17 {ls : xL} {st : List Value} {h h' : xH} {r : Option Value} (H : x_ev x_nm x_tf x_fn x_Pg x_EV 167 (some .int) r h' xb_X7_back_17 17 ls st h) : x_EV 167 17 ls st h r h' := x_Ev_to (M := xm_X7_back) (is := xb_X7_back_17) pg_X7_back (by rfl) H
theorem xK_X7_back {o : Nat}  {h h1 : xH} {r : Option Value} {fs : List Value} (ho : h[o]? = some (.inr (6, fs))) (H : x_EV 167 0 [some (.ref o)] [] h r h1) : xK 167 [.ref o] h r h1 := x_calX_v pg_X7_back rfl rfl (Nat.le_of_ble_eq_true rfl) rfl ho H
theorem pg_X8_back : x_Pg[168]? = some xm_X8_back := by
  unfold x_Pg
  rfl
theorem xe_X8_back_0 {ls : xL} {st : List Value} {h h' : xH} {r : Option Value} (H : x_ev x_nm x_tf x_fn x_Pg x_EV 168 (some .int) r h' xb_X8_back_0 0 ls st h) : x_EV 168 0 ls st h r h' := x_Ev_to (M := xm_X8_back) (is := xb_X8_back_0) pg_X8_back (by rfl) H
theorem xe_X8_back_12 {ls : xL} {st : List Value} {h h' : xH} {r : Option Value} (H : x_ev x_nm x_tf x_fn x_Pg x_EV 168 (some .int) r h' xb_X8_back_12 12 ls st h) : x_EV 168 12 ls st h r h' := x_Ev_to (M := xm_X8_back) (is := xb_X8_back_12) pg_X8_back (by rfl) H
theorem xe_X8_back_24 {ls : xL} {st : List Value} {h h' : xH} {r : Option Value} (H : x_ev x_nm x_tf x_fn x_Pg x_EV 168 (some .int) r h' xb_X8_back_24 24 ls st h) : x_EV 168 24 ls st h r h' := x_Ev_to (M := xm_X8_back) (is := xb_X8_back_24) pg_X8_back (by rfl) H
theorem xe_X8_back_58 {ls : xL} {st : List Value} {h h' : xH} {r : Option Value} (H : x_ev x_nm x_tf x_fn x_Pg x_EV 168 (some .int) r h' xb_X8_back_58 58 ls st h) : x_EV 168 58 ls st h r h' := x_Ev_to (M := xm_X8_back) (is := xb_X8_back_58) pg_X8_back (by rfl) H
theorem xK_X8_back {o : Nat}  {h h1 : xH} {r : Option Value} {fs : List Value} (ho : h[o]? = some (.inr (7, fs))) (H : x_EV 168 0 [some (.ref o), none] [] h r h1) : xK 168 [.ref o] h r h1 := x_calX_v pg_X8_back rfl rfl (Nat.le_of_ble_eq_true rfl) rfl ho H
theorem pg_X7_told : x_Pg[169]? = some xm_X7_told := by
  unfold x_Pg
  rfl
theorem xe_X7_told_0 {ls : xL} {st : List Value} {h h' : xH} {r : Option Value} (H : x_ev x_nm x_tf x_fn x_Pg x_EV 169 (some .int) r h' xb_X7_told_0 0 ls st h) : x_EV 169 0 ls st h r h' := x_Ev_to (M := xm_X7_told) (is := xb_X7_told_0) pg_X7_told (by rfl) H
theorem xe_X7_told_52 {ls : xL} {st : List Value} {h h' : xH} {r : Option Value} (H : x_ev x_nm x_tf x_fn x_Pg x_EV 169 (some .int) r h' xb_X7_told_52 52 ls st h) : x_EV 169 52 ls st h r h' := x_Ev_to (M := xm_X7_told) (is := xb_X7_told_52) pg_X7_told (by rfl) H
theorem xe_X7_told_59 {ls : xL} {st : List Value} {h h' : xH} {r : Option Value} (H : x_ev x_nm x_tf x_fn x_Pg x_EV 169 (some .int) r h' xb_X7_told_59 59 ls st h) : x_EV 169 59 ls st h r h' := x_Ev_to (M := xm_X7_told) (is := xb_X7_told_59) pg_X7_told (by rfl) H
theorem xe_X7_told_66 {ls : xL} {st : List Value} {h h' : xH} {r : Option Value} (H : x_ev x_nm x_tf x_fn x_Pg x_EV 169 (some .int) r h' xb_X7_told_66 66 ls st h) : x_EV 169 66 ls st h r h' := x_Ev_to (M := xm_X7_told) (is := xb_X7_told_66) pg_X7_told (by rfl) H
theorem xe_X7_told_73 {ls : xL} {st : List Value} {h h' : xH} {r : Option Value} (H : x_ev x_nm x_tf x_fn x_Pg x_EV 169 (some .int) r h' xb_X7_told_73 73 ls st h) : x_EV 169 73 ls st h r h' := x_Ev_to (M := xm_X7_told) (is := xb_X7_told_73) pg_X7_told (by rfl) H
theorem xe_X7_told_84 {ls : xL} {st : List Value} {h h' : xH} {r : Option Value} (H : x_ev x_nm x_tf x_fn x_Pg x_EV 169 (some .int) r h' xb_X7_told_84 84 ls st h) : x_EV 169 84 ls st h r h' := x_Ev_to (M := xm_X7_told) (is := xb_X7_told_84) pg_X7_told (by rfl) H
theorem xe_X7_told_97 {ls : xL} {st : List Value} {h h' : xH} {r : Option Value} (H : x_ev x_nm x_tf x_fn x_Pg x_EV 169 (some .int) r h' xb_X7_told_97 97 ls st h) : x_EV 169 97 ls st h r h' := x_Ev_to (M := xm_X7_told) (is := xb_X7_told_97) pg_X7_told (by rfl) H
theorem xe_X7_told_110 {ls : xL} {st : List Value} {h h' : xH} {r : Option Value} (H : x_ev x_nm x_tf x_fn x_Pg x_EV 169 (some .int) r h' xb_X7_told_110 110 ls st h) : x_EV 169 110 ls st h r h' := x_Ev_to (M := xm_X7_told) (is := xb_X7_told_110) pg_X7_told (by rfl) H
theorem xe_X7_told_123 {ls : xL} {st : List Value} {h h' : xH} {r : Option Value} (H : x_ev x_nm x_tf x_fn x_Pg x_EV 169 (some .int) r h' xb_X7_told_123 123 ls st h) : x_EV 169 123 ls st h r h' := x_Ev_to (M := xm_X7_told) (is := xb_X7_told_123) pg_X7_told (by rfl) H
theorem xe_X7_told_131 {ls : xL} {st : List Value} {h h' : xH} {r : Option Value} (H : x_ev x_nm x_tf x_fn x_Pg x_EV 169 (some .int) r h' xb_X7_told_131 131 ls st h) : x_EV 169 131 ls st h r h' := x_Ev_to (M := xm_X7_told) (is := xb_X7_told_131) pg_X7_told (by rfl) H
theorem xe_X7_told_139 {ls : xL} {st : List Value} {h h' : xH} {r : Option Value} (H : x_ev x_nm x_tf x_fn x_Pg x_EV 169 (some .int) r h' xb_X7_told_139 139 ls st h) : x_EV 169 139 ls st h r h' := x_Ev_to (M := xm_X7_told) (is := xb_X7_told_139) pg_X7_told (by rfl) H
theorem xK_X7_told {o : Nat} {x1 : Int32} {h h1 : xH} {r : Option Value} {fs : List Value} (ho : h[o]? = some (.inr (6, fs))) (H : x_EV 169 0 [some (.ref o), some (.int x1)] [] h r h1) : xK 169 [.ref o, .int x1] h r h1 := x_calX_v pg_X7_told rfl rfl (Nat.le_of_ble_eq_true rfl) rfl ho H
theorem pg_X8_toldOf : x_Pg[170]? = some xm_X8_toldOf := by
  unfold x_Pg
  rfl
theorem xe_X8_toldOf_0 {ls : xL} {st : List Value} {h h' : xH} {r : Option Value} (H : x_ev x_nm x_tf x_fn x_Pg x_EV 170 (some .int) r h' xb_X8_toldOf_0 0 ls st h) : x_EV 170 0 ls st h r h' := x_Ev_to (M := xm_X8_toldOf) (is := xb_X8_toldOf_0) pg_X8_toldOf (by rfl) H
theorem xe_X8_toldOf_14 {ls : xL} {st : List Value} {h h' : xH} {r : Option Value} (H : x_ev x_nm x_tf x_fn x_Pg x_EV 170 (some .int) r h' xb_X8_toldOf_14 14 ls st h) : x_EV 170 14 ls st h r h' := x_Ev_to (M := xm_X8_toldOf) (is := xb_X8_toldOf_14) pg_X8_toldOf (by rfl) H
theorem xe_X8_toldOf_29 {ls : xL} {st : List Value} {h h' : xH} {r : Option Value} (H : x_ev x_nm x_tf x_fn x_Pg x_EV 170 (some .int) r h' xb_X8_toldOf_29 29 ls st h) : x_EV 170 29 ls st h r h' := x_Ev_to (M := xm_X8_toldOf) (is := xb_X8_toldOf_29) pg_X8_toldOf (by rfl) H
theorem xe_X8_toldOf_49 {ls : xL} {st : List Value} {h h' : xH} {r : Option Value} (H : x_ev x_nm x_tf x_fn x_Pg x_EV 170 (some .int) r h' xb_X8_toldOf_49 49 ls st h) : x_EV 170 49 ls st h r h' := x_Ev_to (M := xm_X8_toldOf) (is := xb_X8_toldOf_49) pg_X8_toldOf (by rfl) H
theorem xe_X8_toldOf_62 {ls : xL} {st : List Value} {h h' : xH} {r : Option Value} (H : x_ev x_nm x_tf x_fn x_Pg x_EV 170 (some .int) r h' xb_X8_toldOf_62 62 ls st h) : x_EV 170 62 ls st h r h' := x_Ev_to (M := xm_X8_toldOf) (is := xb_X8_toldOf_62) pg_X8_toldOf (by rfl) H
theorem xe_X8_toldOf_66 {ls : xL} {st : List Value} {h h' : xH} {r : Option Value} (H : x_ev x_nm x_tf x_fn x_Pg x_EV 170 (some .int) r h' xb_X8_toldOf_66 66 ls st h) : x_EV 170 66 ls st h r h' := x_Ev_to (M := xm_X8_toldOf) (is := xb_X8_toldOf_66) pg_X8_toldOf (by rfl) H
theorem xK_X8_toldOf {o : Nat} {x1 : Int32} {h h1 : xH} {r : Option Value} {fs : List Value} (ho : h[o]? = some (.inr (7, fs))) (H : x_EV 170 0 [some (.ref o), some (.int x1)] [] h r h1) : xK 170 [.ref o, .int x1] h r h1 := x_calX_v pg_X8_toldOf rfl rfl (Nat.le_of_ble_eq_true rfl) rfl ho H
theorem pg_X8_told : x_Pg[171]? = some xm_X8_told := by
  unfold x_Pg
  rfl
theorem xe_X8_told_0 {ls : xL} {st : List Value} {h h' : xH} {r : Option Value} (H : x_ev x_nm x_tf x_fn x_Pg x_EV 171 (some .int) r h' xb_X8_told_0 0 ls st h) : x_EV 171 0 ls st h r h' := x_Ev_to (M := xm_X8_told) (is := xb_X8_told_0) pg_X8_told (by rfl) H
theorem xe_X8_told_18 {ls : xL} {st : List Value} {h h' : xH} {r : Option Value} (H : x_ev x_nm x_tf x_fn x_Pg x_EV 171 (some .int) r h' xb_X8_told_18 18 ls st h) : x_EV 171 18 ls st h r h' := x_Ev_to (M := xm_X8_told) (is := xb_X8_told_18) pg_X8_told (by rfl) H
theorem xe_X8_told_22 {ls : xL} {st : List Value} {h h' : xH} {r : Option Value} (H : x_ev x_nm x_tf x_fn x_Pg x_EV 171 (some .int) r h' xb_X8_told_22 22 ls st h) : x_EV 171 22 ls st h r h' := x_Ev_to (M := xm_X8_told) (is := xb_X8_told_22) pg_X8_told (by rfl) H
theorem xK_X8_told {o : Nat} {x1 : Int32} {h h1 : xH} {r : Option Value} {fs : List Value} (ho : h[o]? = some (.inr (7, fs))) (H : x_EV 171 0 [some (.ref o), some (.int x1)] [] h r h1) : xK 171 [.ref o, .int x1] h r h1 := x_calX_v pg_X8_told rfl rfl (Nat.le_of_ble_eq_true rfl) rfl ho H
theorem pg_X7_digestOfSentence : x_Pg[172]? = some xm_X7_digestOfSentence := by
  unfold x_Pg
  rfl
theorem xe_X7_digestOfSentence_0 {ls : xL} {st : List Value} {h h' : xH} {r : Option Value} (H : x_ev x_nm x_tf x_fn x_Pg x_EV 172 (some .long) r h' xb_X7_digestOfSentence_0 0 ls st h) : x_EV 172 0 ls st h r h' := x_Ev_to (M := xm_X7_digestOfSentence) (is := xb_X7_digestOfSentence_0) pg_X7_digestOfSentence (by rfl) H
theorem xe_X7_digestOfSentence_5 {ls : xL} {st : List Value} {h h' : xH} {r : Option Value} (H : x_ev x_nm x_tf x_fn x_Pg x_EV 172 (some .long) r h' xb_X7_digestOfSentence_5 5 ls st h) : x_EV 172 5 ls st h r h' := x_Ev_to (M := xm_X7_digestOfSentence) (is := xb_X7_digestOfSentence_5) pg_X7_digestOfSentence (by rfl) H
theorem xe_X7_digestOfSentence_32 {ls : xL} {st : List Value} {h h' : xH} {r : Option Value} (H : x_ev x_nm x_tf x_fn x_Pg x_EV 172 (some .long) r h' xb_X7_digestOfSentence_32 32 ls st h) : x_EV 172 32 ls st h r h' := x_Ev_to (M := xm_X7_digestOfSentence) (is := xb_X7_digestOfSentence_32) pg_X7_digestOfSentence (by rfl) H
theorem xe_X7_digestOfSentence_35 {ls : xL} {st : List Value} {h h' : xH} {r : Option Value} (H : x_ev x_nm x_tf x_fn x_Pg x_EV 172 (some .long) r h' xb_X7_digestOfSentence_35 35 ls st h) : x_EV 172 35 ls st h r h' := x_Ev_to (M := xm_X7_digestOfSentence) (is := xb_X7_digestOfSentence_35) pg_X7_digestOfSentence (by rfl) H
theorem xe_X7_digestOfSentence_53 {ls : xL} {st : List Value} {h h' : xH} {r : Option Value} (H : x_ev x_nm x_tf x_fn x_Pg x_EV 172 (some .long) r h' xb_X7_digestOfSentence_53 53 ls st h) : x_EV 172 53 ls st h r h' := x_Ev_to (M := xm_X7_digestOfSentence) (is := xb_X7_digestOfSentence_53) pg_X7_digestOfSentence (by rfl) H
theorem xe_X7_digestOfSentence_81 {ls : xL} {st : List Value} {h h' : xH} {r : Option Value} (H : x_ev x_nm x_tf x_fn x_Pg x_EV 172 (some .long) r h' xb_X7_digestOfSentence_81 81 ls st h) : x_EV 172 81 ls st h r h' := x_Ev_to (M := xm_X7_digestOfSentence) (is := xb_X7_digestOfSentence_81) pg_X7_digestOfSentence (by rfl) H
theorem xe_X7_digestOfSentence_87 {ls : xL} {st : List Value} {h h' : xH} {r : Option Value} (H : x_ev x_nm x_tf x_fn x_Pg x_EV 172 (some .long) r h' xb_X7_digestOfSentence_87 87 ls st h) : x_EV 172 87 ls st h r h' := x_Ev_to (M := xm_X7_digestOfSentence) (is := xb_X7_digestOfSentence_87) pg_X7_digestOfSentence (by rfl) H
theorem xK_X7_digestOfSentence {o : Nat} {x1 : Int64} {h h1 : xH} {r : Option Value} {fs : List Value} (ho : h[o]? = some (.inr (6, fs))) (H : x_EV 172 0 [some (.ref o), some (.long x1), none, none, none, none, none] [] h r h1) : xK 172 [.ref o, .long x1] h r h1 := x_calX_v pg_X7_digestOfSentence rfl rfl (Nat.le_of_ble_eq_true rfl) rfl ho H
theorem pg_X7_digestOfGrammar : x_Pg[173]? = some xm_X7_digestOfGrammar := by
  unfold x_Pg
  rfl
theorem xe_X7_digestOfGrammar_0 {ls : xL} {st : List Value} {h h' : xH} {r : Option Value} (H : x_ev x_nm x_tf x_fn x_Pg x_EV 173 (some .long) r h' xb_X7_digestOfGrammar_0 0 ls st h) : x_EV 173 0 ls st h r h' := x_Ev_to (M := xm_X7_digestOfGrammar) (is := xb_X7_digestOfGrammar_0) pg_X7_digestOfGrammar (by rfl) H
theorem xe_X7_digestOfGrammar_5 {ls : xL} {st : List Value} {h h' : xH} {r : Option Value} (H : x_ev x_nm x_tf x_fn x_Pg x_EV 173 (some .long) r h' xb_X7_digestOfGrammar_5 5 ls st h) : x_EV 173 5 ls st h r h' := x_Ev_to (M := xm_X7_digestOfGrammar) (is := xb_X7_digestOfGrammar_5) pg_X7_digestOfGrammar (by rfl) H
theorem xe_X7_digestOfGrammar_23 {ls : xL} {st : List Value} {h h' : xH} {r : Option Value} (H : x_ev x_nm x_tf x_fn x_Pg x_EV 173 (some .long) r h' xb_X7_digestOfGrammar_23 23 ls st h) : x_EV 173 23 ls st h r h' := x_Ev_to (M := xm_X7_digestOfGrammar) (is := xb_X7_digestOfGrammar_23) pg_X7_digestOfGrammar (by rfl) H
theorem xe_X7_digestOfGrammar_51 {ls : xL} {st : List Value} {h h' : xH} {r : Option Value} (H : x_ev x_nm x_tf x_fn x_Pg x_EV 173 (some .long) r h' xb_X7_digestOfGrammar_51 51 ls st h) : x_EV 173 51 ls st h r h' := x_Ev_to (M := xm_X7_digestOfGrammar) (is := xb_X7_digestOfGrammar_51) pg_X7_digestOfGrammar (by rfl) H
theorem xe_X7_digestOfGrammar_57 {ls : xL} {st : List Value} {h h' : xH} {r : Option Value} (H : x_ev x_nm x_tf x_fn x_Pg x_EV 173 (some .long) r h' xb_X7_digestOfGrammar_57 57 ls st h) : x_EV 173 57 ls st h r h' := x_Ev_to (M := xm_X7_digestOfGrammar) (is := xb_X7_digestOfGrammar_57) pg_X7_digestOfGrammar (by rfl) H
theorem xe_X7_digestOfGrammar_60 {ls : xL} {st : List Value} {h h' : xH} {r : Option Value} (H : x_ev x_nm x_tf x_fn x_Pg x_EV 173 (some .long) r h' xb_X7_digestOfGrammar_60 60 ls st h) : x_EV 173 60 ls st h r h' := x_Ev_to (M := xm_X7_digestOfGrammar) (is := xb_X7_digestOfGrammar_60) pg_X7_digestOfGrammar (by rfl) H
theorem xe_X7_digestOfGrammar_94 {ls : xL} {st : List Value} {h h' : xH} {r : Option Value} (H : x_ev x_nm x_tf x_fn x_Pg x_EV 173 (some .long) r h' xb_X7_digestOfGrammar_94 94 ls st h) : x_EV 173 94 ls st h r h' := x_Ev_to (M := xm_X7_digestOfGrammar) (is := xb_X7_digestOfGrammar_94) pg_X7_digestOfGrammar (by rfl) H
theorem xe_X7_digestOfGrammar_97 {ls : xL} {st : List Value} {h h' : xH} {r : Option Value} (H : x_ev x_nm x_tf x_fn x_Pg x_EV 173 (some .long) r h' xb_X7_digestOfGrammar_97 97 ls st h) : x_EV 173 97 ls st h r h' := x_Ev_to (M := xm_X7_digestOfGrammar) (is := xb_X7_digestOfGrammar_97) pg_X7_digestOfGrammar (by rfl) H
theorem xe_X7_digestOfGrammar_107 {ls : xL} {st : List Value} {h h' : xH} {r : Option Value} (H : x_ev x_nm x_tf x_fn x_Pg x_EV 173 (some .long) r h' xb_X7_digestOfGrammar_107 107 ls st h) : x_EV 173 107 ls st h r h' := x_Ev_to (M := xm_X7_digestOfGrammar) (is := xb_X7_digestOfGrammar_107) pg_X7_digestOfGrammar (by rfl) H
theorem xe_X7_digestOfGrammar_117 {ls : xL} {st : List Value} {h h' : xH} {r : Option Value} (H : x_ev x_nm x_tf x_fn x_Pg x_EV 173 (some .long) r h' xb_X7_digestOfGrammar_117 117 ls st h) : x_EV 173 117 ls st h r h' := x_Ev_to (M := xm_X7_digestOfGrammar) (is := xb_X7_digestOfGrammar_117) pg_X7_digestOfGrammar (by rfl) H
theorem xe_X7_digestOfGrammar_147 {ls : xL} {st : List Value} {h h' : xH} {r : Option Value} (H : x_ev x_nm x_tf x_fn x_Pg x_EV 173 (some .long) r h' xb_X7_digestOfGrammar_147 147 ls st h) : x_EV 173 147 ls st h r h' := x_Ev_to (M := xm_X7_digestOfGrammar) (is := xb_X7_digestOfGrammar_147) pg_X7_digestOfGrammar (by rfl) H
theorem xe_X7_digestOfGrammar_153 {ls : xL} {st : List Value} {h h' : xH} {r : Option Value} (H : x_ev x_nm x_tf x_fn x_Pg x_EV 173 (some .long) r h' xb_X7_digestOfGrammar_153 153 ls st h) : x_EV 173 153 ls st h r h' := x_Ev_to (M := xm_X7_digestOfGrammar) (is := xb_X7_digestOfGrammar_153) pg_X7_digestOfGrammar (by rfl) H
theorem xe_X7_digestOfGrammar_159 {ls : xL} {st : List Value} {h h' : xH} {r : Option Value} (H : x_ev x_nm x_tf x_fn x_Pg x_EV 173 (some .long) r h' xb_X7_digestOfGrammar_159 159 ls st h) : x_EV 173 159 ls st h r h' := x_Ev_to (M := xm_X7_digestOfGrammar) (is := xb_X7_digestOfGrammar_159) pg_X7_digestOfGrammar (by rfl) H
theorem xK_X7_digestOfGrammar {o : Nat} {x1 : Int64} {h h1 : xH} {r : Option Value} {fs : List Value} (ho : h[o]? = some (.inr (6, fs))) (H : x_EV 173 0 [some (.ref o), some (.long x1), none, none, none, none, none, none] [] h r h1) : xK 173 [.ref o, .long x1] h r h1 := x_calX_v pg_X7_digestOfGrammar rfl rfl (Nat.le_of_ble_eq_true rfl) rfl ho H
theorem pg_X7_digest : x_Pg[174]? = some xm_X7_digest := by
  unfold x_Pg
  rfl
theorem xe_X7_digest_0 {ls : xL} {st : List Value} {h h' : xH} {r : Option Value} (H : x_ev x_nm x_tf x_fn x_Pg x_EV 174 (some .long) r h' xb_X7_digest_0 0 ls st h) : x_EV 174 0 ls st h r h' := x_Ev_to (M := xm_X7_digest) (is := xb_X7_digest_0) pg_X7_digest (by rfl) H
theorem xe_X7_digest_6 {ls : xL} {st : List Value} {h h' : xH} {r : Option Value} (H : x_ev x_nm x_tf x_fn x_Pg x_EV 174 (some .long) r h' xb_X7_digest_6 6 ls st h) : x_EV 174 6 ls st h r h' := x_Ev_to (M := xm_X7_digest) (is := xb_X7_digest_6) pg_X7_digest (by rfl) H
theorem xe_X7_digest_31 {ls : xL} {st : List Value} {h h' : xH} {r : Option Value} (H : x_ev x_nm x_tf x_fn x_Pg x_EV 174 (some .long) r h' xb_X7_digest_31 31 ls st h) : x_EV 174 31 ls st h r h' := x_Ev_to (M := xm_X7_digest) (is := xb_X7_digest_31) pg_X7_digest (by rfl) H
theorem xK_X7_digest {o : Nat}  {h h1 : xH} {r : Option Value} {fs : List Value} (ho : h[o]? = some (.inr (6, fs))) (H : x_EV 174 0 [some (.ref o), none, none, none] [] h r h1) : xK 174 [.ref o] h r h1 := x_calX_v pg_X7_digest rfl rfl (Nat.le_of_ble_eq_true rfl) rfl ho H
theorem pg_X8_mix : x_Pg[175]? = some xm_X8_mix := by
  unfold x_Pg
  rfl
theorem xe_X8_mix_0 {ls : xL} {st : List Value} {h h' : xH} {r : Option Value} (H : x_ev x_nm x_tf x_fn x_Pg x_EV 175 none r h' xb_X8_mix_0 0 ls st h) : x_EV 175 0 ls st h r h' := x_Ev_to (M := xm_X8_mix) (is := xb_X8_mix_0) pg_X8_mix (by rfl) H
theorem xK_X8_mix {o : Nat} {x1 : Int64} {h h1 : xH} {r : Option Value} {fs : List Value} (ho : h[o]? = some (.inr (7, fs))) (H : x_EV 175 0 [some (.ref o), some (.long x1), none] [] h r h1) : xK 175 [.ref o, .long x1] h r h1 := x_calX_v pg_X8_mix rfl rfl (Nat.le_of_ble_eq_true rfl) rfl ho H
theorem pg_X8_digest : x_Pg[176]? = some xm_X8_digest := by
  unfold x_Pg
  rfl
theorem xe_X8_digest_0 {ls : xL} {st : List Value} {h h' : xH} {r : Option Value} (H : x_ev x_nm x_tf x_fn x_Pg x_EV 176 (some .long) r h' xb_X8_digest_0 0 ls st h) : x_EV 176 0 ls st h r h' := x_Ev_to (M := xm_X8_digest) (is := xb_X8_digest_0) pg_X8_digest (by rfl) H
theorem xe_X8_digest_9 {ls : xL} {st : List Value} {h h' : xH} {r : Option Value} (H : x_ev x_nm x_tf x_fn x_Pg x_EV 176 (some .long) r h' xb_X8_digest_9 9 ls st h) : x_EV 176 9 ls st h r h' := x_Ev_to (M := xm_X8_digest) (is := xb_X8_digest_9) pg_X8_digest (by rfl) H
theorem xe_X8_digest_31 {ls : xL} {st : List Value} {h h' : xH} {r : Option Value} (H : x_ev x_nm x_tf x_fn x_Pg x_EV 176 (some .long) r h' xb_X8_digest_31 31 ls st h) : x_EV 176 31 ls st h r h' := x_Ev_to (M := xm_X8_digest) (is := xb_X8_digest_31) pg_X8_digest (by rfl) H
theorem xe_X8_digest_33 {ls : xL} {st : List Value} {h h' : xH} {r : Option Value} (H : x_ev x_nm x_tf x_fn x_Pg x_EV 176 (some .long) r h' xb_X8_digest_33 33 ls st h) : x_EV 176 33 ls st h r h' := x_Ev_to (M := xm_X8_digest) (is := xb_X8_digest_33) pg_X8_digest (by rfl) H
theorem xe_X8_digest_55 {ls : xL} {st : List Value} {h h' : xH} {r : Option Value} (H : x_ev x_nm x_tf x_fn x_Pg x_EV 176 (some .long) r h' xb_X8_digest_55 55 ls st h) : x_EV 176 55 ls st h r h' := x_Ev_to (M := xm_X8_digest) (is := xb_X8_digest_55) pg_X8_digest (by rfl) H
theorem xe_X8_digest_57 {ls : xL} {st : List Value} {h h' : xH} {r : Option Value} (H : x_ev x_nm x_tf x_fn x_Pg x_EV 176 (some .long) r h' xb_X8_digest_57 57 ls st h) : x_EV 176 57 ls st h r h' := x_Ev_to (M := xm_X8_digest) (is := xb_X8_digest_57) pg_X8_digest (by rfl) H
theorem xe_X8_digest_70 {ls : xL} {st : List Value} {h h' : xH} {r : Option Value} (H : x_ev x_nm x_tf x_fn x_Pg x_EV 176 (some .long) r h' xb_X8_digest_70 70 ls st h) : x_EV 176 70 ls st h r h' := x_Ev_to (M := xm_X8_digest) (is := xb_X8_digest_70) pg_X8_digest (by rfl) H
theorem xe_X8_digest_93 {ls : xL} {st : List Value} {h h' : xH} {r : Option Value} (H : x_ev x_nm x_tf x_fn x_Pg x_EV 176 (some .long) r h' xb_X8_digest_93 93 ls st h) : x_EV 176 93 ls st h r h' := x_Ev_to (M := xm_X8_digest) (is := xb_X8_digest_93) pg_X8_digest (by rfl) H
theorem xe_X8_digest_99 {ls : xL} {st : List Value} {h h' : xH} {r : Option Value} (H : x_ev x_nm x_tf x_fn x_Pg x_EV 176 (some .long) r h' xb_X8_digest_99 99 ls st h) : x_EV 176 99 ls st h r h' := x_Ev_to (M := xm_X8_digest) (is := xb_X8_digest_99) pg_X8_digest (by rfl) H
theorem xe_X8_digest_101 {ls : xL} {st : List Value} {h h' : xH} {r : Option Value} (H : x_ev x_nm x_tf x_fn x_Pg x_EV 176 (some .long) r h' xb_X8_digest_101 101 ls st h) : x_EV 176 101 ls st h r h' := x_Ev_to (M := xm_X8_digest) (is := xb_X8_digest_101) pg_X8_digest (by rfl) H
theorem xe_X8_digest_134 {ls : xL} {st : List Value} {h h' : xH} {r : Option Value} (H : x_ev x_nm x_tf x_fn x_Pg x_EV 176 (some .long) r h' xb_X8_digest_134 134 ls st h) : x_EV 176 134 ls st h r h' := x_Ev_to (M := xm_X8_digest) (is := xb_X8_digest_134) pg_X8_digest (by rfl) H
theorem xe_X8_digest_136 {ls : xL} {st : List Value} {h h' : xH} {r : Option Value} (H : x_ev x_nm x_tf x_fn x_Pg x_EV 176 (some .long) r h' xb_X8_digest_136 136 ls st h) : x_EV 176 136 ls st h r h' := x_Ev_to (M := xm_X8_digest) (is := xb_X8_digest_136) pg_X8_digest (by rfl) H
theorem xe_X8_digest_162 {ls : xL} {st : List Value} {h h' : xH} {r : Option Value} (H : x_ev x_nm x_tf x_fn x_Pg x_EV 176 (some .long) r h' xb_X8_digest_162 162 ls st h) : x_EV 176 162 ls st h r h' := x_Ev_to (M := xm_X8_digest) (is := xb_X8_digest_162) pg_X8_digest (by rfl) H
theorem xe_X8_digest_164 {ls : xL} {st : List Value} {h h' : xH} {r : Option Value} (H : x_ev x_nm x_tf x_fn x_Pg x_EV 176 (some .long) r h' xb_X8_digest_164 164 ls st h) : x_EV 176 164 ls st h r h' := x_Ev_to (M := xm_X8_digest) (is := xb_X8_digest_164) pg_X8_digest (by rfl) H
theorem xe_X8_digest_189 {ls : xL} {st : List Value} {h h' : xH} {r : Option Value} (H : x_ev x_nm x_tf x_fn x_Pg x_EV 176 (some .long) r h' xb_X8_digest_189 189 ls st h) : x_EV 176 189 ls st h r h' := x_Ev_to (M := xm_X8_digest) (is := xb_X8_digest_189) pg_X8_digest (by rfl) H
theorem xK_X8_digest {o : Nat}  {h h1 : xH} {r : Option Value} {fs : List Value} (ho : h[o]? = some (.inr (7, fs))) (H : x_EV 176 0 [some (.ref o), none, none] [] h r h1) : xK 176 [.ref o] h r h1 := x_calX_v pg_X8_digest rfl rfl (Nat.le_of_ble_eq_true rfl) rfl ho H
theorem pg_law : x_Pg[177]? = some xm_law := by
  unfold x_Pg
  rfl
theorem xe_law_0 {ls : xL} {st : List Value} {h h' : xH} {r : Option Value} (H : x_ev x_nm x_tf x_fn x_Pg x_EV 177 (some .boolean) r h' xb_law_0 0 ls st h) : x_EV 177 0 ls st h r h' := x_Ev_to (M := xm_law) (is := xb_law_0) pg_law (by rfl) H
theorem xe_law_18 {ls : xL} {st : List Value} {h h' : xH} {r : Option Value} (H : x_ev x_nm x_tf x_fn x_Pg x_EV 177 (some .boolean) r h' xb_law_18 18 ls st h) : x_EV 177 18 ls st h r h' := x_Ev_to (M := xm_law) (is := xb_law_18) pg_law (by rfl) H
theorem xe_law_132 {ls : xL} {st : List Value} {h h' : xH} {r : Option Value} (H : x_ev x_nm x_tf x_fn x_Pg x_EV 177 (some .boolean) r h' xb_law_132 132 ls st h) : x_EV 177 132 ls st h r h' := x_Ev_to (M := xm_law) (is := xb_law_132) pg_law (by rfl) H
theorem xe_law_185 {ls : xL} {st : List Value} {h h' : xH} {r : Option Value} (H : x_ev x_nm x_tf x_fn x_Pg x_EV 177 (some .boolean) r h' xb_law_185 185 ls st h) : x_EV 177 185 ls st h r h' := x_Ev_to (M := xm_law) (is := xb_law_185) pg_law (by rfl) H
theorem xe_law_218 {ls : xL} {st : List Value} {h h' : xH} {r : Option Value} (H : x_ev x_nm x_tf x_fn x_Pg x_EV 177 (some .boolean) r h' xb_law_218 218 ls st h) : x_EV 177 218 ls st h r h' := x_Ev_to (M := xm_law) (is := xb_law_218) pg_law (by rfl) H
theorem xe_law_261 {ls : xL} {st : List Value} {h h' : xH} {r : Option Value} (H : x_ev x_nm x_tf x_fn x_Pg x_EV 177 (some .boolean) r h' xb_law_261 261 ls st h) : x_EV 177 261 ls st h r h' := x_Ev_to (M := xm_law) (is := xb_law_261) pg_law (by rfl) H
theorem xe_law_294 {ls : xL} {st : List Value} {h h' : xH} {r : Option Value} (H : x_ev x_nm x_tf x_fn x_Pg x_EV 177 (some .boolean) r h' xb_law_294 294 ls st h) : x_EV 177 294 ls st h r h' := x_Ev_to (M := xm_law) (is := xb_law_294) pg_law (by rfl) H
theorem xe_law_337 {ls : xL} {st : List Value} {h h' : xH} {r : Option Value} (H : x_ev x_nm x_tf x_fn x_Pg x_EV 177 (some .boolean) r h' xb_law_337 337 ls st h) : x_EV 177 337 ls st h r h' := x_Ev_to (M := xm_law) (is := xb_law_337) pg_law (by rfl) H
theorem xe_law_370 {ls : xL} {st : List Value} {h h' : xH} {r : Option Value} (H : x_ev x_nm x_tf x_fn x_Pg x_EV 177 (some .boolean) r h' xb_law_370 370 ls st h) : x_EV 177 370 ls st h r h' := x_Ev_to (M := xm_law) (is := xb_law_370) pg_law (by rfl) H
theorem xe_law_393 {ls : xL} {st : List Value} {h h' : xH} {r : Option Value} (H : x_ev x_nm x_tf x_fn x_Pg x_EV 177 (some .boolean) r h' xb_law_393 393 ls st h) : x_EV 177 393 ls st h r h' := x_Ev_to (M := xm_law) (is := xb_law_393) pg_law (by rfl) H
theorem xe_law_406 {ls : xL} {st : List Value} {h h' : xH} {r : Option Value} (H : x_ev x_nm x_tf x_fn x_Pg x_EV 177 (some .boolean) r h' xb_law_406 406 ls st h) : x_EV 177 406 ls st h r h' := x_Ev_to (M := xm_law) (is := xb_law_406) pg_law (by rfl) H
theorem xe_law_419 {ls : xL} {st : List Value} {h h' : xH} {r : Option Value} (H : x_ev x_nm x_tf x_fn x_Pg x_EV 177 (some .boolean) r h' xb_law_419 419 ls st h) : x_EV 177 419 ls st h r h' := x_Ev_to (M := xm_law) (is := xb_law_419) pg_law (by rfl) H
theorem xe_law_432 {ls : xL} {st : List Value} {h h' : xH} {r : Option Value} (H : x_ev x_nm x_tf x_fn x_Pg x_EV 177 (some .boolean) r h' xb_law_432 432 ls st h) : x_EV 177 432 ls st h r h' := x_Ev_to (M := xm_law) (is := xb_law_432) pg_law (by rfl) H
theorem xe_law_465 {ls : xL} {st : List Value} {h h' : xH} {r : Option Value} (H : x_ev x_nm x_tf x_fn x_Pg x_EV 177 (some .boolean) r h' xb_law_465 465 ls st h) : x_EV 177 465 ls st h r h' := x_Ev_to (M := xm_law) (is := xb_law_465) pg_law (by rfl) H
theorem xe_law_488 {ls : xL} {st : List Value} {h h' : xH} {r : Option Value} (H : x_ev x_nm x_tf x_fn x_Pg x_EV 177 (some .boolean) r h' xb_law_488 488 ls st h) : x_EV 177 488 ls st h r h' := x_Ev_to (M := xm_law) (is := xb_law_488) pg_law (by rfl) H
theorem xe_law_521 {ls : xL} {st : List Value} {h h' : xH} {r : Option Value} (H : x_ev x_nm x_tf x_fn x_Pg x_EV 177 (some .boolean) r h' xb_law_521 521 ls st h) : x_EV 177 521 ls st h r h' := x_Ev_to (M := xm_law) (is := xb_law_521) pg_law (by rfl) H
theorem xe_law_534 {ls : xL} {st : List Value} {h h' : xH} {r : Option Value} (H : x_ev x_nm x_tf x_fn x_Pg x_EV 177 (some .boolean) r h' xb_law_534 534 ls st h) : x_EV 177 534 ls st h r h' := x_Ev_to (M := xm_law) (is := xb_law_534) pg_law (by rfl) H
theorem xe_law_547 {ls : xL} {st : List Value} {h h' : xH} {r : Option Value} (H : x_ev x_nm x_tf x_fn x_Pg x_EV 177 (some .boolean) r h' xb_law_547 547 ls st h) : x_EV 177 547 ls st h r h' := x_Ev_to (M := xm_law) (is := xb_law_547) pg_law (by rfl) H
theorem xe_law_570 {ls : xL} {st : List Value} {h h' : xH} {r : Option Value} (H : x_ev x_nm x_tf x_fn x_Pg x_EV 177 (some .boolean) r h' xb_law_570 570 ls st h) : x_EV 177 570 ls st h r h' := x_Ev_to (M := xm_law) (is := xb_law_570) pg_law (by rfl) H
theorem xe_law_583 {ls : xL} {st : List Value} {h h' : xH} {r : Option Value} (H : x_ev x_nm x_tf x_fn x_Pg x_EV 177 (some .boolean) r h' xb_law_583 583 ls st h) : x_EV 177 583 ls st h r h' := x_Ev_to (M := xm_law) (is := xb_law_583) pg_law (by rfl) H
theorem xe_law_596 {ls : xL} {st : List Value} {h h' : xH} {r : Option Value} (H : x_ev x_nm x_tf x_fn x_Pg x_EV 177 (some .boolean) r h' xb_law_596 596 ls st h) : x_EV 177 596 ls st h r h' := x_Ev_to (M := xm_law) (is := xb_law_596) pg_law (by rfl) H
theorem xe_law_609 {ls : xL} {st : List Value} {h h' : xH} {r : Option Value} (H : x_ev x_nm x_tf x_fn x_Pg x_EV 177 (some .boolean) r h' xb_law_609 609 ls st h) : x_EV 177 609 ls st h r h' := x_Ev_to (M := xm_law) (is := xb_law_609) pg_law (by rfl) H
theorem xe_law_632 {ls : xL} {st : List Value} {h h' : xH} {r : Option Value} (H : x_ev x_nm x_tf x_fn x_Pg x_EV 177 (some .boolean) r h' xb_law_632 632 ls st h) : x_EV 177 632 ls st h r h' := x_Ev_to (M := xm_law) (is := xb_law_632) pg_law (by rfl) H
theorem xe_law_646 {ls : xL} {st : List Value} {h h' : xH} {r : Option Value} (H : x_ev x_nm x_tf x_fn x_Pg x_EV 177 (some .boolean) r h' xb_law_646 646 ls st h) : x_EV 177 646 ls st h r h' := x_Ev_to (M := xm_law) (is := xb_law_646) pg_law (by rfl) H
theorem xe_law_652 {ls : xL} {st : List Value} {h h' : xH} {r : Option Value} (H : x_ev x_nm x_tf x_fn x_Pg x_EV 177 (some .boolean) r h' xb_law_652 652 ls st h) : x_EV 177 652 ls st h r h' := x_Ev_to (M := xm_law) (is := xb_law_652) pg_law (by rfl) H
