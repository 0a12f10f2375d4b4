theorem xLK_ok_0 : x_okK (0, 97, 70, 96, 0) = true := by decide +kernel
theorem xLK_ok_1 : x_okK (1, 130, 71, 129, 0) = true := by decide +kernel
theorem xLK_ok_2 : x_okK (2, 91, 69, 90, 0) = true := by decide +kernel
theorem xLK_ok_3 : x_okK (3, 176, 72, 175, 0) = true := by decide +kernel
theorem xLK_ok_4 : x_okK (4, 201, 73, 200, 0) = true := by decide +kernel
theorem xLK_ok_5 : x_okK (5, 196, 73, 195, 0) = true := by decide +kernel
theorem xLK_ok_6 : x_okK (6, 229, 74, 228, 0) = true := by decide +kernel
theorem xLK_ok_7 : x_okK (7, 83, 68, 82, 0) = true := by decide +kernel
theorem xLK_ok_8 : x_okK (8, 692, 75, 691, 20) = true := by decide +kernel
theorem xLK_ok_9 : x_okK (9, 700, 75, 699, 22) = true := by decide +kernel
theorem xLK_ok_10 : x_okK (10, 704, 75, 703, 23) = true := by decide +kernel
theorem xLK_ok_11 : x_okK (11, 696, 75, 695, 21) = true := by decide +kernel
theorem xLK_ok_12 : x_okK (12, 688, 75, 687, 19) = true := by decide +kernel
theorem xLK_ok_13 : x_okK (13, 683, 75, 682, 0) = true := by decide +kernel
theorem xLK_ok_14 : x_okK (14, 293, 68, 292, 0) = true := by decide +kernel
theorem xLK_ok_15 : x_okK (15, 290, 68, 289, 0) = true := by decide +kernel
theorem xLK_ok_16 : x_okK (16, 296, 68, 295, 0) = true := by decide +kernel
theorem xLK_ok_17 : x_okK (17, 287, 70, 285, 286) = true := by decide +kernel
theorem xLK_ok_18 : x_okK (18, 300, 68, 299, 0) = true := by decide +kernel
theorem xLK_ok_19 : x_okK (19, 312, 70, 310, 311) = true := by decide +kernel
theorem xLK_ok_20 : x_okK (20, 319, 71, 317, 318) = true := by decide +kernel
theorem xLK_ok_21 : x_okK (21, 308, 69, 306, 307) = true := by decide +kernel
theorem xLK_ok_22 : x_okK (22, 304, 72, 302, 303) = true := by decide +kernel
theorem xLK_ok_23 : x_okK (23, 327, 70, 325, 326) = true := by decide +kernel
theorem xLK_ok_24 : x_okK (24, 283, 68, 281, 282) = true := by decide +kernel
theorem xLK_ok_25 : x_okK (25, 801, 75, 800, 0) = true := by decide +kernel
theorem xLK_ok_26 : x_okK (26, 798, 75, 797, 0) = true := by decide +kernel
theorem xLK_ok_27 : x_okK (27, 795, 75, 794, 0) = true := by decide +kernel
theorem xLK_ok_28 : x_okK (28, 804, 75, 803, 0) = true := by decide +kernel
theorem xLK_ok_29 : x_okK (29, 808, 75, 807, 25) = true := by decide +kernel
theorem xLK_ok_30 : x_okK (30, 812, 75, 811, 26) = true := by decide +kernel
theorem xLK_ok_31 : x_okK (31, 815, 75, 814, 0) = true := by decide +kernel
theorem xLK_ok_32 : x_okK (32, 819, 75, 818, 27) = true := by decide +kernel
theorem xLK_ok_33 : x_okK (33, 792, 75, 790, 791) = true := by decide +kernel
theorem xLK_ok_34 : x_okK (34, 335, 70, 333, 334) = true := by decide +kernel
theorem xLK_ok_35 : x_okK (35, 340, 70, 338, 339) = true := by decide +kernel
theorem xLK_ok_36 : x_okK (36, 331, 68, 329, 330) = true := by decide +kernel
theorem xLK_ok_37 : x_okK (37, 823, 75, 821, 822) = true := by decide +kernel
theorem xLK_ok_38 : x_okK (38, 348, 70, 346, 347) = true := by decide +kernel
theorem xLK_ok_39 : x_okK (39, 352, 70, 350, 351) = true := by decide +kernel
theorem xLK_ok_40 : x_okK (40, 344, 68, 342, 343) = true := by decide +kernel
theorem xLK_ok_41 : x_okK (41, 830, 75, 829, 0) = true := by decide +kernel
theorem xLK_ok_42 : x_okK (42, 834, 75, 833, 28) = true := by decide +kernel
theorem xLK_ok_43 : x_okK (43, 838, 75, 837, 29) = true := by decide +kernel
theorem xLK_ok_44 : x_okK (44, 827, 75, 825, 826) = true := by decide +kernel
theorem xLK_ok_45 : x_okK (45, 362, 70, 360, 361) = true := by decide +kernel
theorem xLK_ok_46 : x_okK (46, 356, 68, 354, 355) = true := by decide +kernel
theorem xLK_ok_47 : x_okK (47, 842, 75, 840, 841) = true := by decide +kernel
theorem xLK_ok_48 : x_okK (48, 371, 70, 369, 370) = true := by decide +kernel
theorem xLK_ok_49 : x_okK (49, 366, 68, 364, 365) = true := by decide +kernel
theorem xLK_ok_50 : x_okK (50, 846, 75, 844, 845) = true := by decide +kernel
theorem xLK_ok_51 : x_okK (51, 379, 70, 377, 378) = true := by decide +kernel
theorem xLK_ok_52 : x_okK (52, 383, 70, 381, 382) = true := by decide +kernel
theorem xLK_ok_53 : x_okK (53, 387, 70, 385, 386) = true := by decide +kernel
theorem xLK_ok_54 : x_okK (54, 375, 68, 373, 374) = true := by decide +kernel
theorem xLK_ok_55 : x_okK (55, 854, 75, 853, 30) = true := by decide +kernel
theorem xLK_ok_56 : x_okK (56, 850, 75, 848, 849) = true := by decide +kernel
theorem xLK_ok_57 : x_okK (57, 395, 69, 393, 394) = true := by decide +kernel
theorem xLK_ok_58 : x_okK (58, 408, 71, 406, 407) = true := by decide +kernel
theorem xLK_ok_59 : x_okK (59, 404, 71, 402, 403) = true := by decide +kernel
theorem xLK_ok_60 : x_okK (60, 422, 78, 421, 0) = true := by decide +kernel
theorem xLK_ok_61 : x_okK (61, 425, 78, 424, 0) = true := by decide +kernel
theorem xLK_ok_62 : x_okK (62, 419, 73, 418, 0) = true := by decide +kernel
theorem xLK_ok_63 : x_okK (63, 428, 78, 427, 0) = true := by decide +kernel
theorem xLK_ok_64 : x_okK (64, 431, 73, 430, 0) = true := by decide +kernel
theorem xLK_ok_65 : x_okK (65, 440, 73, 439, 0) = true := by decide +kernel
theorem xLK_ok_66 : x_okK (66, 443, 73, 442, 0) = true := by decide +kernel
theorem xLK_ok_67 : x_okK (67, 416, 73, 415, 1) = true := by decide +kernel
theorem xLK_ok_68 : x_okK (68, 451, 73, 450, 3) = true := by decide +kernel
theorem xLK_ok_69 : x_okK (69, 458, 73, 457, 4) = true := by decide +kernel
theorem xLK_ok_70 : x_okK (70, 447, 73, 446, 2) = true := by decide +kernel
theorem xLK_ok_71 : x_okK (71, 465, 73, 464, 0) = true := by decide +kernel
theorem xLK_ok_72 : x_okK (72, 462, 73, 461, 5) = true := by decide +kernel
theorem xLK_ok_73 : x_okK (73, 412, 73, 410, 411) = true := by decide +kernel
theorem xLK_ok_74 : x_okK (74, 469, 73, 467, 468) = true := by decide +kernel
theorem xLK_ok_75 : x_okK (75, 473, 71, 471, 472) = true := by decide +kernel
theorem xLK_ok_76 : x_okK (76, 477, 73, 475, 476) = true := by decide +kernel
theorem xLK_ok_77 : x_okK (77, 481, 73, 479, 480) = true := by decide +kernel
theorem xLK_ok_78 : x_okK (78, 486, 73, 484, 485) = true := by decide +kernel
theorem xLK_ok_79 : x_okK (79, 400, 69, 398, 399) = true := by decide +kernel
theorem xLK_ok_80 : x_okK (80, 391, 68, 389, 390) = true := by decide +kernel
theorem xLK_ok_81 : x_okK (81, 866, 75, 865, 32) = true := by decide +kernel
theorem xLK_ok_82 : x_okK (82, 870, 75, 869, 33) = true := by decide +kernel
theorem xLK_ok_83 : x_okK (83, 878, 75, 877, 35) = true := by decide +kernel
theorem xLK_ok_84 : x_okK (84, 874, 75, 873, 34) = true := by decide +kernel
theorem xLK_ok_85 : x_okK (85, 890, 75, 889, 38) = true := by decide +kernel
theorem xLK_ok_86 : x_okK (86, 886, 75, 885, 37) = true := by decide +kernel
theorem xLK_ok_87 : x_okK (87, 902, 75, 901, 41) = true := by decide +kernel
theorem xLK_ok_88 : x_okK (88, 906, 75, 905, 42) = true := by decide +kernel
theorem xLK_ok_89 : x_okK (89, 898, 75, 897, 40) = true := by decide +kernel
theorem xLK_ok_90 : x_okK (90, 910, 75, 909, 43) = true := by decide +kernel
theorem xLK_ok_91 : x_okK (91, 914, 75, 913, 44) = true := by decide +kernel
theorem xLK_ok_92 : x_okK (92, 918, 75, 917, 45) = true := by decide +kernel
theorem xLK_ok_93 : x_okK (93, 894, 75, 893, 39) = true := by decide +kernel
theorem xLK_ok_94 : x_okK (94, 882, 75, 881, 36) = true := by decide +kernel
theorem xLK_ok_95 : x_okK (95, 862, 75, 861, 31) = true := by decide +kernel
theorem xLK_ok_96 : x_okK (96, 858, 75, 856, 857) = true := by decide +kernel
theorem xLK_ok_97 : x_okK (97, 492, 68, 490, 491) = true := by decide +kernel
theorem xLK_ok_98 : x_okK (98, 788, 75, 787, 24) = true := by decide +kernel
theorem xLK_ok_99 : x_okK (99, 922, 75, 920, 921) = true := by decide +kernel
theorem xLK_ok_100 : x_okK (100, 496, 68, 494, 495) = true := by decide +kernel
theorem xLK_ok_101 : x_okK (101, 926, 75, 924, 925) = true := by decide +kernel
theorem xLK_ok_102 : x_okK (102, 504, 69, 502, 503) = true := by decide +kernel
theorem xLK_ok_103 : x_okK (103, 509, 71, 507, 508) = true := by decide +kernel
theorem xLK_ok_104 : x_okK (104, 500, 68, 498, 499) = true := by decide +kernel
theorem xLK_ok_105 : x_okK (105, 934, 75, 933, 46) = true := by decide +kernel
theorem xLK_ok_106 : x_okK (106, 938, 75, 937, 47) = true := by decide +kernel
theorem xLK_ok_107 : x_okK (107, 930, 75, 928, 929) = true := by decide +kernel
theorem xLK_ok_108 : x_okK (108, 513, 68, 511, 512) = true := by decide +kernel
theorem xLK_ok_109 : x_okK (109, 946, 75, 945, 48) = true := by decide +kernel
theorem xLK_ok_110 : x_okK (110, 942, 75, 940, 941) = true := by decide +kernel
theorem xLK_ok_111 : x_okK (111, 524, 71, 522, 523) = true := by decide +kernel
theorem xLK_ok_112 : x_okK (112, 527, 78, 526, 0) = true := by decide +kernel
theorem xLK_ok_113 : x_okK (113, 534, 78, 533, 0) = true := by decide +kernel
theorem xLK_ok_114 : x_okK (114, 531, 78, 530, 0) = true := by decide +kernel
theorem xLK_ok_115 : x_okK (115, 520, 68, 518, 519) = true := by decide +kernel
theorem xLK_ok_116 : x_okK (116, 962, 75, 961, 51) = true := by decide +kernel
theorem xLK_ok_117 : x_okK (117, 958, 75, 957, 50) = true := by decide +kernel
theorem xLK_ok_118 : x_okK (118, 954, 75, 953, 49) = true := by decide +kernel
theorem xLK_ok_119 : x_okK (119, 950, 75, 948, 949) = true := by decide +kernel
theorem xLK_ok_120 : x_okK (120, 541, 68, 539, 540) = true := by decide +kernel
theorem xLK_ok_121 : x_okK (121, 970, 75, 969, 52) = true := by decide +kernel
theorem xLK_ok_122 : x_okK (122, 966, 75, 964, 965) = true := by decide +kernel
theorem xLK_ok_123 : x_okK (123, 553, 73, 551, 552) = true := by decide +kernel
theorem xLK_ok_124 : x_okK (124, 549, 68, 547, 548) = true := by decide +kernel
theorem xLK_ok_125 : x_okK (125, 974, 75, 972, 973) = true := by decide +kernel
theorem xLK_ok_126 : x_okK (126, 571, 69, 570, 7) = true := by decide +kernel
theorem xLK_ok_127 : x_okK (127, 566, 69, 565, 6) = true := by decide +kernel
theorem xLK_ok_128 : x_okK (128, 561, 69, 559, 560) = true := by decide +kernel
theorem xLK_ok_129 : x_okK (129, 557, 68, 555, 556) = true := by decide +kernel
theorem xLK_ok_130 : x_okK (130, 982, 75, 981, 53) = true := by decide +kernel
theorem xLK_ok_131 : x_okK (131, 978, 75, 976, 977) = true := by decide +kernel
theorem xLK_ok_132 : x_okK (132, 582, 74, 580, 581) = true := by decide +kernel
theorem xLK_ok_133 : x_okK (133, 578, 68, 576, 577) = true := by decide +kernel
theorem xLK_ok_134 : x_okK (134, 986, 75, 984, 985) = true := by decide +kernel
theorem xLK_ok_135 : x_okK (135, 586, 68, 584, 585) = true := by decide +kernel
theorem xLK_ok_136 : x_okK (136, 990, 75, 988, 989) = true := by decide +kernel
theorem xLK_ok_137 : x_okK (137, 598, 74, 597, 8) = true := by decide +kernel
theorem xLK_ok_138 : x_okK (138, 606, 74, 605, 10) = true := by decide +kernel
theorem xLK_ok_139 : x_okK (139, 609, 74, 608, 0) = true := by decide +kernel
theorem xLK_ok_140 : x_okK (140, 613, 74, 612, 11) = true := by decide +kernel
theorem xLK_ok_141 : x_okK (141, 621, 74, 620, 13) = true := by decide +kernel
theorem xLK_ok_142 : x_okK (142, 617, 74, 616, 12) = true := by decide +kernel
theorem xLK_ok_143 : x_okK (143, 602, 74, 601, 9) = true := by decide +kernel
theorem xLK_ok_144 : x_okK (144, 594, 74, 592, 593) = true := by decide +kernel
theorem xLK_ok_145 : x_okK (145, 626, 74, 624, 625) = true := by decide +kernel
theorem xLK_ok_146 : x_okK (146, 634, 74, 632, 633) = true := by decide +kernel
theorem xLK_ok_147 : x_okK (147, 638, 74, 636, 637) = true := by decide +kernel
theorem xLK_ok_148 : x_okK (148, 630, 68, 629, 14) = true := by decide +kernel
theorem xLK_ok_149 : x_okK (149, 646, 68, 645, 16) = true := by decide +kernel
theorem xLK_ok_150 : x_okK (150, 642, 68, 641, 15) = true := by decide +kernel
theorem xLK_ok_151 : x_okK (151, 590, 68, 588, 589) = true := by decide +kernel
theorem xLK_ok_152 : x_okK (152, 1006, 75, 1005, 56) = true := by decide +kernel
theorem xLK_ok_153 : x_okK (153, 1002, 75, 1001, 55) = true := by decide +kernel
theorem xLK_ok_154 : x_okK (154, 1009, 75, 1008, 0) = true := by decide +kernel
theorem xLK_ok_155 : x_okK (155, 1013, 75, 1012, 57) = true := by decide +kernel
theorem xLK_ok_156 : x_okK (156, 1020, 75, 1019, 0) = true := by decide +kernel
theorem xLK_ok_157 : x_okK (157, 1024, 75, 1023, 59) = true := by decide +kernel
theorem xLK_ok_158 : x_okK (158, 1017, 75, 1016, 58) = true := by decide +kernel
theorem xLK_ok_159 : x_okK (159, 998, 75, 997, 54) = true := by decide +kernel
theorem xLK_ok_160 : x_okK (160, 1032, 75, 1031, 61) = true := by decide +kernel
theorem xLK_ok_161 : x_okK (161, 1036, 75, 1035, 62) = true := by decide +kernel
theorem xLK_ok_162 : x_okK (162, 1040, 75, 1039, 63) = true := by decide +kernel
theorem xLK_ok_163 : x_okK (163, 1028, 75, 1027, 60) = true := by decide +kernel
theorem xLK_ok_164 : x_okK (164, 1044, 75, 1043, 64) = true := by decide +kernel
theorem xLK_ok_165 : x_okK (165, 994, 75, 992, 993) = true := by decide +kernel
theorem xLK_ok_166 : x_okK (166, 654, 72, 652, 653) = true := by decide +kernel
theorem xLK_ok_167 : x_okK (167, 650, 68, 648, 649) = true := by decide +kernel
theorem xLK_ok_168 : x_okK (168, 784, 75, 782, 783) = true := by decide +kernel
theorem xLK_ok_169 : x_okK (169, 658, 68, 656, 657) = true := by decide +kernel
theorem xLK_ok_170 : x_okK (170, 1052, 75, 1051, 65) = true := by decide +kernel
theorem xLK_ok_171 : x_okK (171, 1048, 75, 1046, 1047) = true := by decide +kernel
theorem xLK_ok_172 : x_okK (172, 669, 68, 668, 17) = true := by decide +kernel
theorem xLK_ok_173 : x_okK (173, 675, 68, 674, 18) = true := by decide +kernel
theorem xLK_ok_174 : x_okK (174, 662, 68, 660, 661) = true := by decide +kernel
theorem xLK_ok_175 : x_okK (175, 1061, 75, 1060, 66) = true := by decide +kernel
theorem xLK_ok_176 : x_okK (176, 1056, 75, 1054, 1055) = true := by decide +kernel
set_option maxRecDepth 100000 in
theorem xLK_ok : ∀ q ∈ xLKp, x_okK q = true := by
  unfold xLKp
  exact List.forall_mem_cons.mpr ⟨xLK_ok_0, List.forall_mem_cons.mpr ⟨xLK_ok_1, List.forall_mem_cons.mpr ⟨xLK_ok_2, List.forall_mem_cons.mpr ⟨xLK_ok_3, List.forall_mem_cons.mpr ⟨xLK_ok_4, List.forall_mem_cons.mpr ⟨xLK_ok_5, List.forall_mem_cons.mpr ⟨xLK_ok_6, List.forall_mem_cons.mpr ⟨xLK_ok_7, List.forall_mem_cons.mpr ⟨xLK_ok_8, List.forall_mem_cons.mpr ⟨xLK_ok_9, List.forall_mem_cons.mpr ⟨xLK_ok_10, List.forall_mem_cons.mpr ⟨xLK_ok_11, List.forall_mem_cons.mpr ⟨xLK_ok_12, List.forall_mem_cons.mpr ⟨xLK_ok_13, List.forall_mem_cons.mpr ⟨xLK_ok_14, List.forall_mem_cons.mpr ⟨xLK_ok_15, List.forall_mem_cons.mpr ⟨xLK_ok_16, List.forall_mem_cons.mpr ⟨xLK_ok_17, List.forall_mem_cons.mpr ⟨xLK_ok_18, List.forall_mem_cons.mpr ⟨xLK_ok_19, List.forall_mem_cons.mpr ⟨xLK_ok_20, List.forall_mem_cons.mpr ⟨xLK_ok_21, List.forall_mem_cons.mpr ⟨xLK_ok_22, List.forall_mem_cons.mpr ⟨xLK_ok_23, List.forall_mem_cons.mpr ⟨xLK_ok_24, List.forall_mem_cons.mpr ⟨xLK_ok_25, List.forall_mem_cons.mpr ⟨xLK_ok_26, List.forall_mem_cons.mpr ⟨xLK_ok_27, List.forall_mem_cons.mpr ⟨xLK_ok_28, List.forall_mem_cons.mpr ⟨xLK_ok_29, List.forall_mem_cons.mpr ⟨xLK_ok_30, List.forall_mem_cons.mpr ⟨xLK_ok_31, List.forall_mem_cons.mpr ⟨xLK_ok_32, List.forall_mem_cons.mpr ⟨xLK_ok_33, List.forall_mem_cons.mpr ⟨xLK_ok_34, List.forall_mem_cons.mpr ⟨xLK_ok_35, List.forall_mem_cons.mpr ⟨xLK_ok_36, List.forall_mem_cons.mpr ⟨xLK_ok_37, List.forall_mem_cons.mpr ⟨xLK_ok_38, List.forall_mem_cons.mpr ⟨xLK_ok_39, List.forall_mem_cons.mpr ⟨xLK_ok_40, List.forall_mem_cons.mpr ⟨xLK_ok_41, List.forall_mem_cons.mpr ⟨xLK_ok_42, List.forall_mem_cons.mpr ⟨xLK_ok_43, List.forall_mem_cons.mpr ⟨xLK_ok_44, List.forall_mem_cons.mpr ⟨xLK_ok_45, List.forall_mem_cons.mpr ⟨xLK_ok_46, List.forall_mem_cons.mpr ⟨xLK_ok_47, List.forall_mem_cons.mpr ⟨xLK_ok_48, List.forall_mem_cons.mpr ⟨xLK_ok_49, List.forall_mem_cons.mpr ⟨xLK_ok_50, List.forall_mem_cons.mpr ⟨xLK_ok_51, List.forall_mem_cons.mpr ⟨xLK_ok_52, List.forall_mem_cons.mpr ⟨xLK_ok_53, List.forall_mem_cons.mpr ⟨xLK_ok_54, List.forall_mem_cons.mpr ⟨xLK_ok_55, List.forall_mem_cons.mpr ⟨xLK_ok_56, List.forall_mem_cons.mpr ⟨xLK_ok_57, List.forall_mem_cons.mpr ⟨xLK_ok_58, List.forall_mem_cons.mpr ⟨xLK_ok_59, List.forall_mem_cons.mpr ⟨xLK_ok_60, List.forall_mem_cons.mpr ⟨xLK_ok_61, List.forall_mem_cons.mpr ⟨xLK_ok_62, List.forall_mem_cons.mpr ⟨xLK_ok_63, List.forall_mem_cons.mpr ⟨xLK_ok_64, List.forall_mem_cons.mpr ⟨xLK_ok_65, List.forall_mem_cons.mpr ⟨xLK_ok_66, List.forall_mem_cons.mpr ⟨xLK_ok_67, List.forall_mem_cons.mpr ⟨xLK_ok_68, List.forall_mem_cons.mpr ⟨xLK_ok_69, List.forall_mem_cons.mpr ⟨xLK_ok_70, List.forall_mem_cons.mpr ⟨xLK_ok_71, List.forall_mem_cons.mpr ⟨xLK_ok_72, List.forall_mem_cons.mpr ⟨xLK_ok_73, List.forall_mem_cons.mpr ⟨xLK_ok_74, List.forall_mem_cons.mpr ⟨xLK_ok_75, List.forall_mem_cons.mpr ⟨xLK_ok_76, List.forall_mem_cons.mpr ⟨xLK_ok_77, List.forall_mem_cons.mpr ⟨xLK_ok_78, List.forall_mem_cons.mpr ⟨xLK_ok_79, List.forall_mem_cons.mpr ⟨xLK_ok_80, List.forall_mem_cons.mpr ⟨xLK_ok_81, List.forall_mem_cons.mpr ⟨xLK_ok_82, List.forall_mem_cons.mpr ⟨xLK_ok_83, List.forall_mem_cons.mpr ⟨xLK_ok_84, List.forall_mem_cons.mpr ⟨xLK_ok_85, List.forall_mem_cons.mpr ⟨xLK_ok_86, List.forall_mem_cons.mpr ⟨xLK_ok_87, List.forall_mem_cons.mpr ⟨xLK_ok_88, List.forall_mem_cons.mpr ⟨xLK_ok_89, List.forall_mem_cons.mpr ⟨xLK_ok_90, List.forall_mem_cons.mpr ⟨xLK_ok_91, List.forall_mem_cons.mpr ⟨xLK_ok_92, List.forall_mem_cons.mpr ⟨xLK_ok_93, List.forall_mem_cons.mpr ⟨xLK_ok_94, List.forall_mem_cons.mpr ⟨xLK_ok_95, List.forall_mem_cons.mpr ⟨xLK_ok_96, List.forall_mem_cons.mpr ⟨xLK_ok_97, List.forall_mem_cons.mpr ⟨xLK_ok_98, List.forall_mem_cons.mpr ⟨xLK_ok_99, List.forall_mem_cons.mpr ⟨xLK_ok_100, List.forall_mem_cons.mpr ⟨xLK_ok_101, List.forall_mem_cons.mpr ⟨xLK_ok_102, List.forall_mem_cons.mpr ⟨xLK_ok_103, List.forall_mem_cons.mpr ⟨xLK_ok_104, List.forall_mem_cons.mpr ⟨xLK_ok_105, List.forall_mem_cons.mpr ⟨xLK_ok_106, List.forall_mem_cons.mpr ⟨xLK_ok_107, List.forall_mem_cons.mpr ⟨xLK_ok_108, List.forall_mem_cons.mpr ⟨xLK_ok_109, List.forall_mem_cons.mpr ⟨xLK_ok_110, List.forall_mem_cons.mpr ⟨xLK_ok_111, List.forall_mem_cons.mpr ⟨xLK_ok_112, List.forall_mem_cons.mpr ⟨xLK_ok_113, List.forall_mem_cons.mpr ⟨xLK_ok_114, List.forall_mem_cons.mpr ⟨xLK_ok_115, List.forall_mem_cons.mpr ⟨xLK_ok_116, List.forall_mem_cons.mpr ⟨xLK_ok_117, List.forall_mem_cons.mpr ⟨xLK_ok_118, List.forall_mem_cons.mpr ⟨xLK_ok_119, List.forall_mem_cons.mpr ⟨xLK_ok_120, List.forall_mem_cons.mpr ⟨xLK_ok_121, List.forall_mem_cons.mpr ⟨xLK_ok_122, List.forall_mem_cons.mpr ⟨xLK_ok_123, List.forall_mem_cons.mpr ⟨xLK_ok_124, List.forall_mem_cons.mpr ⟨xLK_ok_125, List.forall_mem_cons.mpr ⟨xLK_ok_126, List.forall_mem_cons.mpr ⟨xLK_ok_127, List.forall_mem_cons.mpr ⟨xLK_ok_128, List.forall_mem_cons.mpr ⟨xLK_ok_129, List.forall_mem_cons.mpr ⟨xLK_ok_130, List.forall_mem_cons.mpr ⟨xLK_ok_131, List.forall_mem_cons.mpr ⟨xLK_ok_132, List.forall_mem_cons.mpr ⟨xLK_ok_133, List.forall_mem_cons.mpr ⟨xLK_ok_134, List.forall_mem_cons.mpr ⟨xLK_ok_135, List.forall_mem_cons.mpr ⟨xLK_ok_136, List.forall_mem_cons.mpr ⟨xLK_ok_137, List.forall_mem_cons.mpr ⟨xLK_ok_138, List.forall_mem_cons.mpr ⟨xLK_ok_139, List.forall_mem_cons.mpr ⟨xLK_ok_140, List.forall_mem_cons.mpr ⟨xLK_ok_141, List.forall_mem_cons.mpr ⟨xLK_ok_142, List.forall_mem_cons.mpr ⟨xLK_ok_143, List.forall_mem_cons.mpr ⟨xLK_ok_144, List.forall_mem_cons.mpr ⟨xLK_ok_145, List.forall_mem_cons.mpr ⟨xLK_ok_146, List.forall_mem_cons.mpr ⟨xLK_ok_147, List.forall_mem_cons.mpr ⟨xLK_ok_148, List.forall_mem_cons.mpr ⟨xLK_ok_149, List.forall_mem_cons.mpr ⟨xLK_ok_150, List.forall_mem_cons.mpr ⟨xLK_ok_151, List.forall_mem_cons.mpr ⟨xLK_ok_152, List.forall_mem_cons.mpr ⟨xLK_ok_153, List.forall_mem_cons.mpr ⟨xLK_ok_154, List.forall_mem_cons.mpr ⟨xLK_ok_155, List.forall_mem_cons.mpr ⟨xLK_ok_156, List.forall_mem_cons.mpr ⟨xLK_ok_157, List.forall_mem_cons.mpr ⟨xLK_ok_158, List.forall_mem_cons.mpr ⟨xLK_ok_159, List.forall_mem_cons.mpr ⟨xLK_ok_160, List.forall_mem_cons.mpr ⟨xLK_ok_161, List.forall_mem_cons.mpr ⟨xLK_ok_162, List.forall_mem_cons.mpr ⟨xLK_ok_163, List.forall_mem_cons.mpr ⟨xLK_ok_164, List.forall_mem_cons.mpr ⟨xLK_ok_165, List.forall_mem_cons.mpr ⟨xLK_ok_166, List.forall_mem_cons.mpr ⟨xLK_ok_167, List.forall_mem_cons.mpr ⟨xLK_ok_168, List.forall_mem_cons.mpr ⟨xLK_ok_169, List.forall_mem_cons.mpr ⟨xLK_ok_170, List.forall_mem_cons.mpr ⟨xLK_ok_171, List.forall_mem_cons.mpr ⟨xLK_ok_172, List.forall_mem_cons.mpr ⟨xLK_ok_173, List.forall_mem_cons.mpr ⟨xLK_ok_174, List.forall_mem_cons.mpr ⟨xLK_ok_175, List.forall_mem_cons.mpr ⟨xLK_ok_176, fun _ h => absurd h List.not_mem_nil⟩⟩⟩⟩⟩⟩⟩⟩⟩⟩⟩⟩⟩⟩⟩⟩⟩⟩⟩⟩⟩⟩⟩⟩⟩⟩⟩⟩⟩⟩⟩⟩⟩⟩⟩⟩⟩⟩⟩⟩⟩⟩⟩⟩⟩⟩⟩⟩⟩⟩⟩⟩⟩⟩⟩⟩⟩⟩⟩⟩⟩⟩⟩⟩⟩⟩⟩⟩⟩⟩⟩⟩⟩⟩⟩⟩⟩⟩⟩⟩⟩⟩⟩⟩⟩⟩⟩⟩⟩⟩⟩⟩⟩⟩⟩⟩⟩⟩⟩⟩⟩⟩⟩⟩⟩⟩⟩⟩⟩⟩⟩⟩⟩⟩⟩⟩⟩⟩⟩⟩⟩⟩⟩⟩⟩⟩⟩⟩⟩⟩⟩⟩⟩⟩⟩⟩⟩⟩⟩⟩⟩⟩⟩⟩⟩⟩⟩⟩⟩⟩⟩⟩⟩⟩⟩⟩⟩⟩⟩⟩⟩⟩⟩⟩⟩⟩⟩⟩⟩⟩⟩⟩⟩⟩⟩⟩⟩
theorem xLK_nums : xLKp.map (fun q => q.1) = List.range 177 := by decide +kernel
noncomputable def x_okM (q : Nat × Nat × Nat × Nat × Nat) : Bool := decide (q.2.2.1 < 177) && (match x_Pg[q.2.2.1]? with
  | some K => if q.2.2.2.2 = 0 then x_has q.2.2.2.1 (.methodLink (x_on q.1) q.2.1 (xm_y K)) else x_has q.2.2.2.1 (.methodLinkNest (x_on q.1) q.2.1 (xm_y K) "PathReader")
  | none => false)
theorem xLM_ok : xLMp.all x_okM = true := by decide +kernel
theorem x_HL : ∀ z ∈ x_LM, ∃ K, x_Pg[z.2.2]? = some K ∧ x_MOK K ∧ x_Link z.1 z.2.1 K := by
  intro z hz
  obtain ⟨q, hq, rfl⟩ := List.mem_map.mp hz
  have h := List.all_eq_true.mp xLM_ok q hq
  unfold x_okM at h
  simp only [Bool.and_eq_true, decide_eq_true_eq] at h
  obtain ⟨hlt, h⟩ := h
  have h1 : q.2.2.1 ∈ xLKp.map (fun q => q.1) := by rw [xLK_nums]; exact List.mem_range.mpr hlt
  obtain ⟨q2, hq2, e2⟩ := List.mem_map.mp h1
  obtain ⟨K, hK, hMOK⟩ := x_okK_in (xLK_ok q2 hq2)
  rw [e2] at hK
  refine ⟨K, hK, hMOK, ?_⟩
  dsimp only
  rw [hK] at h
  dsimp only at h
  split at h
  · exact Or.inl (x_has_in h)
  · exact Or.inr ⟨_, x_has_in h⟩
