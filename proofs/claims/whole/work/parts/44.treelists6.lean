/-! six words: by the first two heads -/
def tT6_0_0 : List Nat := []
set_option maxRecDepth 100000 in
theorem tr6_0_0 : catN 7 4 (fun t => fT 6 (0 :: 0 :: t)) = tT6_0_0 := by decide +kernel
def tT6_0_1 : List Nat := [2801, 2805, 2822, 2825, 2826, 2836, 2839, 2899, 2903, 2913, 2915, 2917, 2920, 2922, 2923, 2924, 2934, 2936, 2937, 2997, 3001, 3011, 3013, 3015, 3032, 3034, 3067, 3069, 3081, 3083, 3144, 3148, 3165, 3168, 3169, 3179, 3182, 3193, 3197, 3200, 3201, 3204, 3214, 3215, 3217, 3218, 3228, 3229, 3231, 3242, 3246, 3249, 3250, 3253, 3256, 3257, 3258, 3260, 3263, 3264, 3265, 3266, 3267, 3277, 3278, 3279, 3280, 3340, 3344, 3347, 3348, 3351, 3354, 3355, 3356, 3358, 3375, 3376, 3377, 3410, 3411, 3412, 3424, 3425, 3426, 3830, 3834, 3851, 3854, 3855, 3865, 3868, 3879, 3883, 3886, 3887, 3890, 3900, 3901, 3903, 3904, 3914, 3915, 3917, 4026, 4030, 4033, 4034, 4037, 4061, 4062, 4096, 4097, 4110, 4111, 4271, 4275, 4278, 4279, 4282, 4306, 4307, 4369, 4373, 4376, 4377, 4380, 4404, 4405, 4628, 4629, 4635, 4636, 4649, 4650, 4726, 4727, 4747, 4748, 4782, 4783, 4796, 4797]
set_option maxRecDepth 100000 in
theorem tr6_0_1 : catN 7 4 (fun t => fT 6 (0 :: 1 :: t)) = tT6_0_1 := by decide +kernel
def tT6_0_2 : List Nat := []
set_option maxRecDepth 100000 in
theorem tr6_0_2 : catN 7 4 (fun t => fT 6 (0 :: 2 :: t)) = tT6_0_2 := by decide +kernel
def tT6_0_3 : List Nat := [7603, 7607, 7624, 7627, 7628, 7638, 7641, 7701, 7705, 7715, 7717, 7719, 7722, 7724, 7725, 7726, 7736, 7738, 7739, 7799, 7803, 7813, 7815, 7817, 7834, 7836, 7869, 7871, 7883, 7885, 8632, 8636, 8653, 8656, 8657, 8667, 8670, 8828, 8832, 8863, 8898, 8912, 9073, 9077, 9108, 9171, 9175, 9206, 9430, 9437, 9451, 9528, 9549, 9584, 9598]
set_option maxRecDepth 100000 in
theorem tr6_0_3 : catN 7 4 (fun t => fT 6 (0 :: 3 :: t)) = tT6_0_3 := by decide +kernel
def tT6_0_4 : List Nat := [10347, 10351, 10368, 10371, 10372, 10382, 10385, 10543, 10547, 10578, 10613, 10627, 11033, 11037, 11054, 11057, 11058, 11068, 11071, 11229, 11233, 11264, 11299, 11313]
set_option maxRecDepth 100000 in
theorem tr6_0_4 : catN 7 4 (fun t => fT 6 (0 :: 4 :: t)) = tT6_0_4 := by decide +kernel
def tT6_0_5 : List Nat := [12797, 12801, 12832, 12846, 12850, 12881, 12944, 12948, 12979, 13483, 13487, 13518, 13630, 13634, 13665, 13875, 13879, 13910, 13973, 13977, 14008]
set_option maxRecDepth 100000 in
theorem tr6_0_5 : catN 7 4 (fun t => fT 6 (0 :: 5 :: t)) = tT6_0_5 := by decide +kernel
def tT6_0_6 : List Nat := [15205, 15219, 15233, 15254, 15261, 15268, 15282, 15352, 15359, 15380, 15415, 15429, 15891, 15905, 15919, 16038, 16066, 16101, 16115, 16283, 16311, 16381, 16409, 16633, 16640, 16654, 16731, 16752, 16787, 16801]
set_option maxRecDepth 100000 in
theorem tr6_0_6 : catN 7 4 (fun t => fT 6 (0 :: 6 :: t)) = tT6_0_6 := by decide +kernel
def tT6_1_0 : List Nat := []
set_option maxRecDepth 100000 in
theorem tr6_1_0 : catN 7 4 (fun t => fT 6 (1 :: 0 :: t)) = tT6_1_0 := by decide +kernel
def tT6_1_1 : List Nat := []
set_option maxRecDepth 100000 in
theorem tr6_1_1 : catN 7 4 (fun t => fT 6 (1 :: 1 :: t)) = tT6_1_1 := by decide +kernel
def tT6_1_2 : List Nat := []
set_option maxRecDepth 100000 in
theorem tr6_1_2 : catN 7 4 (fun t => fT 6 (1 :: 2 :: t)) = tT6_1_2 := by decide +kernel
def tT6_1_3 : List Nat := []
set_option maxRecDepth 100000 in
theorem tr6_1_3 : catN 7 4 (fun t => fT 6 (1 :: 3 :: t)) = tT6_1_3 := by decide +kernel
def tT6_1_4 : List Nat := []
set_option maxRecDepth 100000 in
theorem tr6_1_4 : catN 7 4 (fun t => fT 6 (1 :: 4 :: t)) = tT6_1_4 := by decide +kernel
def tT6_1_5 : List Nat := []
set_option maxRecDepth 100000 in
theorem tr6_1_5 : catN 7 4 (fun t => fT 6 (1 :: 5 :: t)) = tT6_1_5 := by decide +kernel
def tT6_1_6 : List Nat := []
set_option maxRecDepth 100000 in
theorem tr6_1_6 : catN 7 4 (fun t => fT 6 (1 :: 6 :: t)) = tT6_1_6 := by decide +kernel
def tT6_2_0 : List Nat := [34414, 34417, 34428, 34430, 34431, 34442, 34444, 34463, 34466, 34470, 34471, 34473, 34477, 34478, 34479, 34480, 34491, 34492, 34493, 34561, 34564, 34568, 34569, 34571, 34589, 34590, 34624, 34625, 34638, 34639, 35100, 35103, 35114, 35116, 35117, 35128, 35130, 35247, 35250, 35275, 35310, 35324, 35492, 35495, 35520, 35590, 35593, 35618, 35842, 35849, 35863, 35940, 35961, 35996, 36010]
set_option maxRecDepth 100000 in
theorem tr6_2_0 : catN 7 4 (fun t => fT 6 (2 :: 0 :: t)) = tT6_2_0 := by decide +kernel
def tT6_2_1 : List Nat := []
set_option maxRecDepth 100000 in
theorem tr6_2_1 : catN 7 4 (fun t => fT 6 (2 :: 1 :: t)) = tT6_2_1 := by decide +kernel
def tT6_2_2 : List Nat := []
set_option maxRecDepth 100000 in
theorem tr6_2_2 : catN 7 4 (fun t => fT 6 (2 :: 2 :: t)) = tT6_2_2 := by decide +kernel
def tT6_2_3 : List Nat := [40988, 40990, 40995, 40996, 40997, 41009, 41010, 41086, 41088, 41107, 41142, 41156, 42221, 42222, 42235, 42439, 42476, 42511, 42525, 42684, 42721, 42782, 42819, 43043, 43050, 43064, 43141, 43162, 43197, 43211]
set_option maxRecDepth 100000 in
theorem tr6_2_3 : catN 7 4 (fun t => fT 6 (2 :: 3 :: t)) = tT6_2_3 := by decide +kernel
def tT6_2_4 : List Nat := [43936, 43937, 43950, 44154, 44191, 44226, 44240, 44622, 44623, 44636, 44840, 44877, 44912, 44926]
set_option maxRecDepth 100000 in
theorem tr6_2_4 : catN 7 4 (fun t => fT 6 (2 :: 4 :: t)) = tT6_2_4 := by decide +kernel
def tT6_2_5 : List Nat := [46408, 46445, 46457, 46494, 46555, 46592, 47094, 47131, 47241, 47278, 47486, 47523, 47584, 47621]
set_option maxRecDepth 100000 in
theorem tr6_2_5 : catN 7 4 (fun t => fT 6 (2 :: 5 :: t)) = tT6_2_5 := by decide +kernel
def tT6_2_6 : List Nat := [48818, 48832, 48846, 48867, 48874, 48881, 48895, 48965, 48972, 48993, 49028, 49042, 49504, 49518, 49532, 49651, 49679, 49714, 49728, 49896, 49924, 49994, 50022, 50246, 50253, 50267, 50344, 50365, 50400, 50414]
set_option maxRecDepth 100000 in
theorem tr6_2_6 : catN 7 4 (fun t => fT 6 (2 :: 6 :: t)) = tT6_2_6 := by decide +kernel
def tT6_3_0 : List Nat := []
set_option maxRecDepth 100000 in
theorem tr6_3_0 : catN 7 4 (fun t => fT 6 (3 :: 0 :: t)) = tT6_3_0 := by decide +kernel
def tT6_3_1 : List Nat := [52993, 52995, 53000, 53001, 53002, 53014, 53015, 53091, 53093, 53112, 53147, 53161, 54226, 54227, 54240, 54444, 54481, 54516, 54530, 54689, 54726, 54787, 54824, 55048, 55055, 55069, 55146, 55167, 55202, 55216]
set_option maxRecDepth 100000 in
theorem tr6_3_1 : catN 7 4 (fun t => fT 6 (3 :: 1 :: t)) = tT6_3_1 := by decide +kernel
def tT6_3_2 : List Nat := []
set_option maxRecDepth 100000 in
theorem tr6_3_2 : catN 7 4 (fun t => fT 6 (3 :: 2 :: t)) = tT6_3_2 := by decide +kernel
def tT6_3_3 : List Nat := [57795, 57797, 57802, 57803, 57804, 57816, 57817, 57893, 57895, 57914, 57949, 57963, 59028, 59029, 59042, 59246, 59283, 59318, 59332, 59491, 59528, 59589, 59626, 59850, 59857, 59871, 59948, 59969, 60004, 60018]
set_option maxRecDepth 100000 in
theorem tr6_3_3 : catN 7 4 (fun t => fT 6 (3 :: 3 :: t)) = tT6_3_3 := by decide +kernel
def tT6_3_4 : List Nat := []
set_option maxRecDepth 100000 in
theorem tr6_3_4 : catN 7 4 (fun t => fT 6 (3 :: 4 :: t)) = tT6_3_4 := by decide +kernel
def tT6_3_5 : List Nat := []
set_option maxRecDepth 100000 in
theorem tr6_3_5 : catN 7 4 (fun t => fT 6 (3 :: 5 :: t)) = tT6_3_5 := by decide +kernel
def tT6_3_6 : List Nat := []
set_option maxRecDepth 100000 in
theorem tr6_3_6 : catN 7 4 (fun t => fT 6 (3 :: 6 :: t)) = tT6_3_6 := by decide +kernel
def tT6_4_0 : List Nat := []
set_option maxRecDepth 100000 in
theorem tr6_4_0 : catN 7 4 (fun t => fT 6 (4 :: 0 :: t)) = tT6_4_0 := by decide +kernel
def tT6_4_1 : List Nat := [70004, 70005, 70018, 70222, 70259, 70294, 70308, 70347, 70348, 70361, 70565, 70602, 70637, 70651, 71033, 71034, 71047, 71251, 71288, 71323, 71337]
set_option maxRecDepth 100000 in
theorem tr6_4_1 : catN 7 4 (fun t => fT 6 (4 :: 1 :: t)) = tT6_4_1 := by decide +kernel
def tT6_4_2 : List Nat := []
set_option maxRecDepth 100000 in
theorem tr6_4_2 : catN 7 4 (fun t => fT 6 (4 :: 2 :: t)) = tT6_4_2 := by decide +kernel
def tT6_4_3 : List Nat := [74806, 74807, 74820, 75024, 75061, 75096, 75110, 75835, 75836, 75849, 76053, 76090, 76125, 76139]
set_option maxRecDepth 100000 in
theorem tr6_4_3 : catN 7 4 (fun t => fT 6 (4 :: 3 :: t)) = tT6_4_3 := by decide +kernel
def tT6_4_4 : List Nat := [77550, 77551, 77564, 77768, 77805, 77840, 77854, 78236, 78237, 78250, 78454, 78491, 78526, 78540]
set_option maxRecDepth 100000 in
theorem tr6_4_4 : catN 7 4 (fun t => fT 6 (4 :: 4 :: t)) = tT6_4_4 := by decide +kernel
def tT6_4_5 : List Nat := []
set_option maxRecDepth 100000 in
theorem tr6_4_5 : catN 7 4 (fun t => fT 6 (4 :: 5 :: t)) = tT6_4_5 := by decide +kernel
def tT6_4_6 : List Nat := []
set_option maxRecDepth 100000 in
theorem tr6_4_6 : catN 7 4 (fun t => fT 6 (4 :: 6 :: t)) = tT6_4_6 := by decide +kernel
def tT6_5_0 : List Nat := []
set_option maxRecDepth 100000 in
theorem tr6_5_0 : catN 7 4 (fun t => fT 6 (5 :: 0 :: t)) = tT6_5_0 := by decide +kernel
def tT6_5_1 : List Nat := [86833, 86870, 86931, 86968, 87029, 87066, 87176, 87213, 87225, 87262, 87274, 87311, 87372, 87409, 87862, 87899, 87911, 87948, 88058, 88095, 88303, 88340, 88401, 88438]
set_option maxRecDepth 100000 in
theorem tr6_5_1 : catN 7 4 (fun t => fT 6 (5 :: 1 :: t)) = tT6_5_1 := by decide +kernel
def tT6_5_2 : List Nat := []
set_option maxRecDepth 100000 in
theorem tr6_5_2 : catN 7 4 (fun t => fT 6 (5 :: 2 :: t)) = tT6_5_2 := by decide +kernel
def tT6_5_3 : List Nat := [91635, 91672, 91733, 91770, 91831, 91868, 92664, 92701, 92860, 92897, 93105, 93142, 93203, 93240]
set_option maxRecDepth 100000 in
theorem tr6_5_3 : catN 7 4 (fun t => fT 6 (5 :: 3 :: t)) = tT6_5_3 := by decide +kernel
def tT6_5_4 : List Nat := [94379, 94416, 94575, 94612, 95065, 95102, 95261, 95298]
set_option maxRecDepth 100000 in
theorem tr6_5_4 : catN 7 4 (fun t => fT 6 (5 :: 4 :: t)) = tT6_5_4 := by decide +kernel
def tT6_5_5 : List Nat := [96829, 96866, 96878, 96915, 96976, 97013, 97515, 97552, 97662, 97699, 97907, 97944, 98005, 98042]
set_option maxRecDepth 100000 in
theorem tr6_5_5 : catN 7 4 (fun t => fT 6 (5 :: 5 :: t)) = tT6_5_5 := by decide +kernel
def tT6_5_6 : List Nat := []
set_option maxRecDepth 100000 in
theorem tr6_5_6 : catN 7 4 (fun t => fT 6 (5 :: 6 :: t)) = tT6_5_6 := by decide +kernel
def tT6_6_0 : List Nat := []
set_option maxRecDepth 100000 in
theorem tr6_6_0 : catN 7 4 (fun t => fT 6 (6 :: 0 :: t)) = tT6_6_0 := by decide +kernel
def tT6_6_1 : List Nat := [103642, 103663, 103677, 103740, 103754, 103761, 103775, 103838, 103852, 103873, 103908, 103922, 103985, 104006, 104020, 104034, 104041, 104055, 104069, 104083, 104090, 104097, 104104, 104118, 104181, 104188, 104195, 104216, 104251, 104265, 104671, 104692, 104706, 104720, 104727, 104741, 104755, 104867, 104874, 104902, 104937, 104951, 105112, 105119, 105147, 105210, 105217, 105245, 105469, 105476, 105490, 105567, 105588, 105623, 105637]
set_option maxRecDepth 100000 in
theorem tr6_6_1 : catN 7 4 (fun t => fT 6 (6 :: 1 :: t)) = tT6_6_1 := by decide +kernel
def tT6_6_2 : List Nat := []
set_option maxRecDepth 100000 in
theorem tr6_6_2 : catN 7 4 (fun t => fT 6 (6 :: 2 :: t)) = tT6_6_2 := by decide +kernel
def tT6_6_3 : List Nat := [108444, 108465, 108479, 108542, 108556, 108563, 108577, 108640, 108654, 108675, 108710, 108724, 109473, 109494, 109508, 109669, 109704, 109739, 109753, 109914, 109949, 110012, 110047, 110271, 110278, 110292, 110369, 110390, 110425, 110439]
set_option maxRecDepth 100000 in
theorem tr6_6_3 : catN 7 4 (fun t => fT 6 (6 :: 3 :: t)) = tT6_6_3 := by decide +kernel
def tT6_6_4 : List Nat := [111188, 111209, 111223, 111384, 111419, 111454, 111468, 111874, 111895, 111909, 112070, 112105, 112140, 112154]
set_option maxRecDepth 100000 in
theorem tr6_6_4 : catN 7 4 (fun t => fT 6 (6 :: 4 :: t)) = tT6_6_4 := by decide +kernel
def tT6_6_5 : List Nat := [113638, 113673, 113687, 113722, 113785, 113820, 114324, 114359, 114471, 114506, 114716, 114751, 114814, 114849]
set_option maxRecDepth 100000 in
theorem tr6_6_5 : catN 7 4 (fun t => fT 6 (6 :: 5 :: t)) = tT6_6_5 := by decide +kernel
def tT6_6_6 : List Nat := [116046, 116060, 116074, 116095, 116102, 116109, 116123, 116193, 116200, 116221, 116256, 116270, 116732, 116746, 116760, 116879, 116907, 116942, 116956, 117124, 117152, 117222, 117250, 117474, 117481, 117495, 117572, 117593, 117628, 117642]
set_option maxRecDepth 100000 in
theorem tr6_6_6 : catN 7 4 (fun t => fT 6 (6 :: 6 :: t)) = tT6_6_6 := by decide +kernel
def tT6 : List Nat := (tT6_0_0 ++ (tT6_0_1 ++ (tT6_0_2 ++ (tT6_0_3 ++ (tT6_0_4 ++ (tT6_0_5 ++ (tT6_0_6 ++ []))))))) ++ ((tT6_1_0 ++ (tT6_1_1 ++ (tT6_1_2 ++ (tT6_1_3 ++ (tT6_1_4 ++ (tT6_1_5 ++ (tT6_1_6 ++ []))))))) ++ ((tT6_2_0 ++ (tT6_2_1 ++ (tT6_2_2 ++ (tT6_2_3 ++ (tT6_2_4 ++ (tT6_2_5 ++ (tT6_2_6 ++ []))))))) ++ ((tT6_3_0 ++ (tT6_3_1 ++ (tT6_3_2 ++ (tT6_3_3 ++ (tT6_3_4 ++ (tT6_3_5 ++ (tT6_3_6 ++ []))))))) ++ ((tT6_4_0 ++ (tT6_4_1 ++ (tT6_4_2 ++ (tT6_4_3 ++ (tT6_4_4 ++ (tT6_4_5 ++ (tT6_4_6 ++ []))))))) ++ ((tT6_5_0 ++ (tT6_5_1 ++ (tT6_5_2 ++ (tT6_5_3 ++ (tT6_5_4 ++ (tT6_5_5 ++ (tT6_5_6 ++ []))))))) ++ ((tT6_6_0 ++ (tT6_6_1 ++ (tT6_6_2 ++ (tT6_6_3 ++ (tT6_6_4 ++ (tT6_6_5 ++ (tT6_6_6 ++ []))))))) ++ []))))))
theorem fm7 {g : Nat → List Nat} : (List.range 7).flatMap g = g 0 ++ (g 1 ++ (g 2 ++ (g 3 ++ (g 4 ++ (g 5 ++ (g 6 ++ [])))))) := rfl
theorem tr6 : catN 7 6 (fT 6) = tT6 := by
  show (List.range 7).flatMap (fun h1 => (List.range 7).flatMap (fun h2 => catN 7 4 (fun t => fT 6 (h1 :: h2 :: t)))) = tT6
  simp only [fm7, tr6_0_0, tr6_0_1, tr6_0_2, tr6_0_3, tr6_0_4, tr6_0_5, tr6_0_6, tr6_1_0, tr6_1_1, tr6_1_2, tr6_1_3, tr6_1_4, tr6_1_5, tr6_1_6, tr6_2_0, tr6_2_1, tr6_2_2, tr6_2_3, tr6_2_4, tr6_2_5, tr6_2_6, tr6_3_0, tr6_3_1, tr6_3_2, tr6_3_3, tr6_3_4, tr6_3_5, tr6_3_6, tr6_4_0, tr6_4_1, tr6_4_2, tr6_4_3, tr6_4_4, tr6_4_5, tr6_4_6, tr6_5_0, tr6_5_1, tr6_5_2, tr6_5_3, tr6_5_4, tr6_5_5, tr6_5_6, tr6_6_0, tr6_6_1, tr6_6_2, tr6_6_3, tr6_6_4, tr6_6_5, tr6_6_6]
  rfl
def tT : Nat → List Nat
  | 1 => tT1
  | 2 => tT2
  | 3 => tT3
  | 4 => tT4
  | 5 => tT5
  | 6 => tT6
  | _ => []
theorem tT_eq : ∀ n, 1 ≤ n → n ≤ 6 → (List.range ((n + 1) ^ n)).filter (isT n) = tT n := by
  intro n h1 h6
  rcases (show n = 1 ∨ n = 2 ∨ n = 3 ∨ n = 4 ∨ n = 5 ∨ n = 6 by omega) with rfl | rfl | rfl | rfl | rfl | rfl
  · rw [filter_T lay_1]
    exact tr1
  · rw [filter_T lay_2]
    exact tr2
  · rw [filter_T lay_3]
    exact tr3
  · rw [filter_T lay_4]
    exact tr4
  · rw [filter_T lay_5]
    exact tr5
  · rw [filter_T lay_6]
    exact tr6
