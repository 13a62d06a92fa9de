/-! constants and words, by their places -/
theorem xc_b_10 : (Int8.ofInt (10)).toInt32 = Int32.ofNat 10 := by decide +kernel
theorem xc_b_100 : (Int8.ofInt (100)).toInt32 = Int32.ofNat 100 := by decide +kernel
theorem xc_b_101 : (Int8.ofInt (101)).toInt32 = Int32.ofNat 101 := by decide +kernel
theorem xc_b_102 : (Int8.ofInt (102)).toInt32 = Int32.ofNat 102 := by decide +kernel
theorem xc_b_103 : (Int8.ofInt (103)).toInt32 = Int32.ofNat 103 := by decide +kernel
theorem xc_b_104 : (Int8.ofInt (104)).toInt32 = Int32.ofNat 104 := by decide +kernel
theorem xc_b_105 : (Int8.ofInt (105)).toInt32 = Int32.ofNat 105 := by decide +kernel
theorem xc_b_106 : (Int8.ofInt (106)).toInt32 = Int32.ofNat 106 := by decide +kernel
theorem xc_b_107 : (Int8.ofInt (107)).toInt32 = Int32.ofNat 107 := by decide +kernel
theorem xc_b_108 : (Int8.ofInt (108)).toInt32 = Int32.ofNat 108 := by decide +kernel
theorem xc_b_109 : (Int8.ofInt (109)).toInt32 = Int32.ofNat 109 := by decide +kernel
theorem xc_b_11 : (Int8.ofInt (11)).toInt32 = Int32.ofNat 11 := by decide +kernel
theorem xc_b_110 : (Int8.ofInt (110)).toInt32 = Int32.ofNat 110 := by decide +kernel
theorem xc_b_111 : (Int8.ofInt (111)).toInt32 = Int32.ofNat 111 := by decide +kernel
theorem xc_b_112 : (Int8.ofInt (112)).toInt32 = Int32.ofNat 112 := by decide +kernel
theorem xc_b_113 : (Int8.ofInt (113)).toInt32 = Int32.ofNat 113 := by decide +kernel
theorem xc_b_114 : (Int8.ofInt (114)).toInt32 = Int32.ofNat 114 := by decide +kernel
theorem xc_b_115 : (Int8.ofInt (115)).toInt32 = Int32.ofNat 115 := by decide +kernel
theorem xc_b_116 : (Int8.ofInt (116)).toInt32 = Int32.ofNat 116 := by decide +kernel
theorem xc_b_117 : (Int8.ofInt (117)).toInt32 = Int32.ofNat 117 := by decide +kernel
theorem xc_b_118 : (Int8.ofInt (118)).toInt32 = Int32.ofNat 118 := by decide +kernel
theorem xc_b_119 : (Int8.ofInt (119)).toInt32 = Int32.ofNat 119 := by decide +kernel
theorem xc_b_12 : (Int8.ofInt (12)).toInt32 = Int32.ofNat 12 := by decide +kernel
theorem xc_b_120 : (Int8.ofInt (120)).toInt32 = Int32.ofNat 120 := by decide +kernel
theorem xc_b_121 : (Int8.ofInt (121)).toInt32 = Int32.ofNat 121 := by decide +kernel
theorem xc_b_122 : (Int8.ofInt (122)).toInt32 = Int32.ofNat 122 := by decide +kernel
theorem xc_b_123 : (Int8.ofInt (123)).toInt32 = Int32.ofNat 123 := by decide +kernel
theorem xc_b_124 : (Int8.ofInt (124)).toInt32 = Int32.ofNat 124 := by decide +kernel
theorem xc_b_125 : (Int8.ofInt (125)).toInt32 = Int32.ofNat 125 := by decide +kernel
theorem xc_b_126 : (Int8.ofInt (126)).toInt32 = Int32.ofNat 126 := by decide +kernel
theorem xc_b_127 : (Int8.ofInt (127)).toInt32 = Int32.ofNat 127 := by decide +kernel
theorem xc_b_13 : (Int8.ofInt (13)).toInt32 = Int32.ofNat 13 := by decide +kernel
theorem xc_b_14 : (Int8.ofInt (14)).toInt32 = Int32.ofNat 14 := by decide +kernel
theorem xc_b_15 : (Int8.ofInt (15)).toInt32 = Int32.ofNat 15 := by decide +kernel
theorem xc_b_16 : (Int8.ofInt (16)).toInt32 = Int32.ofNat 16 := by decide +kernel
theorem xc_b_17 : (Int8.ofInt (17)).toInt32 = Int32.ofNat 17 := by decide +kernel
theorem xc_b_18 : (Int8.ofInt (18)).toInt32 = Int32.ofNat 18 := by decide +kernel
theorem xc_b_19 : (Int8.ofInt (19)).toInt32 = Int32.ofNat 19 := by decide +kernel
theorem xc_b_20 : (Int8.ofInt (20)).toInt32 = Int32.ofNat 20 := by decide +kernel
theorem xc_b_21 : (Int8.ofInt (21)).toInt32 = Int32.ofNat 21 := by decide +kernel
theorem xc_b_22 : (Int8.ofInt (22)).toInt32 = Int32.ofNat 22 := by decide +kernel
theorem xc_b_23 : (Int8.ofInt (23)).toInt32 = Int32.ofNat 23 := by decide +kernel
theorem xc_b_24 : (Int8.ofInt (24)).toInt32 = Int32.ofNat 24 := by decide +kernel
theorem xc_b_25 : (Int8.ofInt (25)).toInt32 = Int32.ofNat 25 := by decide +kernel
theorem xc_b_26 : (Int8.ofInt (26)).toInt32 = Int32.ofNat 26 := by decide +kernel
theorem xc_b_27 : (Int8.ofInt (27)).toInt32 = Int32.ofNat 27 := by decide +kernel
theorem xc_b_28 : (Int8.ofInt (28)).toInt32 = Int32.ofNat 28 := by decide +kernel
theorem xc_b_29 : (Int8.ofInt (29)).toInt32 = Int32.ofNat 29 := by decide +kernel
theorem xc_b_30 : (Int8.ofInt (30)).toInt32 = Int32.ofNat 30 := by decide +kernel
theorem xc_b_31 : (Int8.ofInt (31)).toInt32 = Int32.ofNat 31 := by decide +kernel
theorem xc_b_32 : (Int8.ofInt (32)).toInt32 = Int32.ofNat 32 := by decide +kernel
theorem xc_b_33 : (Int8.ofInt (33)).toInt32 = Int32.ofNat 33 := by decide +kernel
theorem xc_b_34 : (Int8.ofInt (34)).toInt32 = Int32.ofNat 34 := by decide +kernel
theorem xc_b_35 : (Int8.ofInt (35)).toInt32 = Int32.ofNat 35 := by decide +kernel
theorem xc_b_36 : (Int8.ofInt (36)).toInt32 = Int32.ofNat 36 := by decide +kernel
theorem xc_b_37 : (Int8.ofInt (37)).toInt32 = Int32.ofNat 37 := by decide +kernel
theorem xc_b_38 : (Int8.ofInt (38)).toInt32 = Int32.ofNat 38 := by decide +kernel
theorem xc_b_39 : (Int8.ofInt (39)).toInt32 = Int32.ofNat 39 := by decide +kernel
theorem xc_b_40 : (Int8.ofInt (40)).toInt32 = Int32.ofNat 40 := by decide +kernel
theorem xc_b_41 : (Int8.ofInt (41)).toInt32 = Int32.ofNat 41 := by decide +kernel
theorem xc_b_42 : (Int8.ofInt (42)).toInt32 = Int32.ofNat 42 := by decide +kernel
theorem xc_b_43 : (Int8.ofInt (43)).toInt32 = Int32.ofNat 43 := by decide +kernel
theorem xc_b_44 : (Int8.ofInt (44)).toInt32 = Int32.ofNat 44 := by decide +kernel
theorem xc_b_45 : (Int8.ofInt (45)).toInt32 = Int32.ofNat 45 := by decide +kernel
theorem xc_b_46 : (Int8.ofInt (46)).toInt32 = Int32.ofNat 46 := by decide +kernel
theorem xc_b_47 : (Int8.ofInt (47)).toInt32 = Int32.ofNat 47 := by decide +kernel
theorem xc_b_48 : (Int8.ofInt (48)).toInt32 = Int32.ofNat 48 := by decide +kernel
theorem xc_b_49 : (Int8.ofInt (49)).toInt32 = Int32.ofNat 49 := by decide +kernel
theorem xc_b_50 : (Int8.ofInt (50)).toInt32 = Int32.ofNat 50 := by decide +kernel
theorem xc_b_51 : (Int8.ofInt (51)).toInt32 = Int32.ofNat 51 := by decide +kernel
theorem xc_b_52 : (Int8.ofInt (52)).toInt32 = Int32.ofNat 52 := by decide +kernel
theorem xc_b_53 : (Int8.ofInt (53)).toInt32 = Int32.ofNat 53 := by decide +kernel
theorem xc_b_54 : (Int8.ofInt (54)).toInt32 = Int32.ofNat 54 := by decide +kernel
theorem xc_b_55 : (Int8.ofInt (55)).toInt32 = Int32.ofNat 55 := by decide +kernel
theorem xc_b_56 : (Int8.ofInt (56)).toInt32 = Int32.ofNat 56 := by decide +kernel
theorem xc_b_57 : (Int8.ofInt (57)).toInt32 = Int32.ofNat 57 := by decide +kernel
theorem xc_b_58 : (Int8.ofInt (58)).toInt32 = Int32.ofNat 58 := by decide +kernel
theorem xc_b_59 : (Int8.ofInt (59)).toInt32 = Int32.ofNat 59 := by decide +kernel
theorem xc_b_6 : (Int8.ofInt (6)).toInt32 = Int32.ofNat 6 := by decide +kernel
theorem xc_b_60 : (Int8.ofInt (60)).toInt32 = Int32.ofNat 60 := by decide +kernel
theorem xc_b_61 : (Int8.ofInt (61)).toInt32 = Int32.ofNat 61 := by decide +kernel
theorem xc_b_62 : (Int8.ofInt (62)).toInt32 = Int32.ofNat 62 := by decide +kernel
theorem xc_b_63 : (Int8.ofInt (63)).toInt32 = Int32.ofNat 63 := by decide +kernel
theorem xc_b_64 : (Int8.ofInt (64)).toInt32 = Int32.ofNat 64 := by decide +kernel
theorem xc_b_65 : (Int8.ofInt (65)).toInt32 = Int32.ofNat 65 := by decide +kernel
theorem xc_b_66 : (Int8.ofInt (66)).toInt32 = Int32.ofNat 66 := by decide +kernel
theorem xc_b_67 : (Int8.ofInt (67)).toInt32 = Int32.ofNat 67 := by decide +kernel
theorem xc_b_68 : (Int8.ofInt (68)).toInt32 = Int32.ofNat 68 := by decide +kernel
theorem xc_b_69 : (Int8.ofInt (69)).toInt32 = Int32.ofNat 69 := by decide +kernel
theorem xc_b_7 : (Int8.ofInt (7)).toInt32 = Int32.ofNat 7 := by decide +kernel
theorem xc_b_70 : (Int8.ofInt (70)).toInt32 = Int32.ofNat 70 := by decide +kernel
theorem xc_b_71 : (Int8.ofInt (71)).toInt32 = Int32.ofNat 71 := by decide +kernel
theorem xc_b_72 : (Int8.ofInt (72)).toInt32 = Int32.ofNat 72 := by decide +kernel
theorem xc_b_73 : (Int8.ofInt (73)).toInt32 = Int32.ofNat 73 := by decide +kernel
theorem xc_b_74 : (Int8.ofInt (74)).toInt32 = Int32.ofNat 74 := by decide +kernel
theorem xc_b_75 : (Int8.ofInt (75)).toInt32 = Int32.ofNat 75 := by decide +kernel
theorem xc_b_76 : (Int8.ofInt (76)).toInt32 = Int32.ofNat 76 := by decide +kernel
theorem xc_b_77 : (Int8.ofInt (77)).toInt32 = Int32.ofNat 77 := by decide +kernel
theorem xc_b_78 : (Int8.ofInt (78)).toInt32 = Int32.ofNat 78 := by decide +kernel
theorem xc_b_79 : (Int8.ofInt (79)).toInt32 = Int32.ofNat 79 := by decide +kernel
theorem xc_b_8 : (Int8.ofInt (8)).toInt32 = Int32.ofNat 8 := by decide +kernel
theorem xc_b_80 : (Int8.ofInt (80)).toInt32 = Int32.ofNat 80 := by decide +kernel
theorem xc_b_81 : (Int8.ofInt (81)).toInt32 = Int32.ofNat 81 := by decide +kernel
theorem xc_b_82 : (Int8.ofInt (82)).toInt32 = Int32.ofNat 82 := by decide +kernel
theorem xc_b_83 : (Int8.ofInt (83)).toInt32 = Int32.ofNat 83 := by decide +kernel
theorem xc_b_84 : (Int8.ofInt (84)).toInt32 = Int32.ofNat 84 := by decide +kernel
theorem xc_b_85 : (Int8.ofInt (85)).toInt32 = Int32.ofNat 85 := by decide +kernel
theorem xc_b_86 : (Int8.ofInt (86)).toInt32 = Int32.ofNat 86 := by decide +kernel
theorem xc_b_87 : (Int8.ofInt (87)).toInt32 = Int32.ofNat 87 := by decide +kernel
theorem xc_b_88 : (Int8.ofInt (88)).toInt32 = Int32.ofNat 88 := by decide +kernel
theorem xc_b_89 : (Int8.ofInt (89)).toInt32 = Int32.ofNat 89 := by decide +kernel
theorem xc_b_9 : (Int8.ofInt (9)).toInt32 = Int32.ofNat 9 := by decide +kernel
theorem xc_b_90 : (Int8.ofInt (90)).toInt32 = Int32.ofNat 90 := by decide +kernel
theorem xc_b_91 : (Int8.ofInt (91)).toInt32 = Int32.ofNat 91 := by decide +kernel
theorem xc_b_92 : (Int8.ofInt (92)).toInt32 = Int32.ofNat 92 := by decide +kernel
theorem xc_b_93 : (Int8.ofInt (93)).toInt32 = Int32.ofNat 93 := by decide +kernel
theorem xc_b_94 : (Int8.ofInt (94)).toInt32 = Int32.ofNat 94 := by decide +kernel
theorem xc_b_95 : (Int8.ofInt (95)).toInt32 = Int32.ofNat 95 := by decide +kernel
theorem xc_b_96 : (Int8.ofInt (96)).toInt32 = Int32.ofNat 96 := by decide +kernel
theorem xc_b_97 : (Int8.ofInt (97)).toInt32 = Int32.ofNat 97 := by decide +kernel
theorem xc_b_98 : (Int8.ofInt (98)).toInt32 = Int32.ofNat 98 := by decide +kernel
theorem xc_b_99 : (Int8.ofInt (99)).toInt32 = Int32.ofNat 99 := by decide +kernel
theorem xc_b_m2 : (Int8.ofInt (-2)).toInt32 = Int32.ofNat 4294967294 := by decide +kernel
theorem xc_b_m3 : (Int8.ofInt (-3)).toInt32 = Int32.ofNat 4294967293 := by decide +kernel
theorem xc_b_m5 : (Int8.ofInt (-5)).toInt32 = Int32.ofNat 4294967291 := by decide +kernel
theorem xc_b_m6 : (Int8.ofInt (-6)).toInt32 = Int32.ofNat 4294967290 := by decide +kernel
theorem xc_i_0 : Int32.ofInt (0) = Int32.ofNat 0 := by decide +kernel
theorem xc_i_1 : Int32.ofInt (1) = Int32.ofNat 1 := by decide +kernel
theorem xc_i_2 : Int32.ofInt (2) = Int32.ofNat 2 := by decide +kernel
theorem xc_i_3 : Int32.ofInt (3) = Int32.ofNat 3 := by decide +kernel
theorem xc_i_4 : Int32.ofInt (4) = Int32.ofNat 4 := by decide +kernel
theorem xc_i_5 : Int32.ofInt (5) = Int32.ofNat 5 := by decide +kernel
theorem xc_i_6 : Int32.ofInt (6) = Int32.ofNat 6 := by decide +kernel
theorem xc_i_m1 : Int32.ofInt (-1) = Int32.ofNat 4294967295 := by decide +kernel
theorem xc_i_m8 : Int32.ofInt (-8) = Int32.ofNat 4294967288 := by decide +kernel
theorem xc_j_1000000000 : (1000000000 : Int64) = Int64.ofNat 1000000000 := by decide +kernel
theorem xc_j_1000003 : (1000003 : Int64) = Int64.ofNat 1000003 := by decide +kernel
theorem xc_j_1085102592571150095 : (1085102592571150095 : Int64) = Int64.ofNat 1085102592571150095 := by decide +kernel
theorem xc_j_1103 : (1103 : Int64) = Int64.ofNat 1103 := by decide +kernel
theorem xc_j_12345 : (12345 : Int64) = Int64.ofNat 12345 := by decide +kernel
theorem xc_j_3689348814741910323 : (3689348814741910323 : Int64) = Int64.ofNat 3689348814741910323 := by decide +kernel
theorem xc_j_6148914691236517205 : (6148914691236517205 : Int64) = Int64.ofNat 6148914691236517205 := by decide +kernel
theorem xc_j_7 : (7 : Int64) = Int64.ofNat 7 := by decide +kernel
theorem xc_j_m1 : (-1 : Int64) = Int64.ofNat 18446744073709551615 := by decide +kernel
theorem xc_j_m1000000000 : (-1000000000 : Int64) = Int64.ofNat 18446744072709551616 := by decide +kernel
theorem xc_k_1000000 : (1000000 : Int32) = Int32.ofNat 1000000 := by decide +kernel
theorem xc_k_1000003 : (1000003 : Int32) = Int32.ofNat 1000003 := by decide +kernel
theorem xc_k_1431655765 : (1431655765 : Int32) = Int32.ofNat 1431655765 := by decide +kernel
theorem xc_k_252645135 : (252645135 : Int32) = Int32.ofNat 252645135 := by decide +kernel
theorem xc_k_858993459 : (858993459 : Int32) = Int32.ofNat 858993459 := by decide +kernel
theorem xc_k_m2147483648 : (-2147483648 : Int32) = Int32.ofNat 2147483648 := by decide +kernel
theorem xc_l_0 : Int64.ofNat ((0 : Fin 2) : Nat) = Int64.ofNat 0 := by decide +kernel
theorem xc_l_1 : Int64.ofNat ((1 : Fin 2) : Nat) = Int64.ofNat 1 := by decide +kernel
theorem xc_s_1000 : (Int16.ofInt (1000)).toInt32 = Int32.ofNat 1000 := by decide +kernel
theorem xc_s_1001 : (Int16.ofInt (1001)).toInt32 = Int32.ofNat 1001 := by decide +kernel
theorem xc_s_1103 : (Int16.ofInt (1103)).toInt32 = Int32.ofNat 1103 := by decide +kernel
theorem xc_s_11600 : (Int16.ofInt (11600)).toInt32 = Int32.ofNat 11600 := by decide +kernel
theorem xc_s_12345 : (Int16.ofInt (12345)).toInt32 = Int32.ofNat 12345 := by decide +kernel
theorem xc_s_128 : (Int16.ofInt (128)).toInt32 = Int32.ofNat 128 := by decide +kernel
theorem xc_s_1284 : (Int16.ofInt (1284)).toInt32 = Int32.ofNat 1284 := by decide +kernel
theorem xc_s_129 : (Int16.ofInt (129)).toInt32 = Int32.ofNat 129 := by decide +kernel
theorem xc_s_130 : (Int16.ofInt (130)).toInt32 = Int32.ofNat 130 := by decide +kernel
theorem xc_s_136 : (Int16.ofInt (136)).toInt32 = Int32.ofNat 136 := by decide +kernel
theorem xc_s_140 : (Int16.ofInt (140)).toInt32 = Int32.ofNat 140 := by decide +kernel
theorem xc_s_1536 : (Int16.ofInt (1536)).toInt32 = Int32.ofNat 1536 := by decide +kernel
theorem xc_s_1537 : (Int16.ofInt (1537)).toInt32 = Int32.ofNat 1537 := by decide +kernel
theorem xc_s_170 : (Int16.ofInt (170)).toInt32 = Int32.ofNat 170 := by decide +kernel
theorem xc_s_182 : (Int16.ofInt (182)).toInt32 = Int32.ofNat 182 := by decide +kernel
theorem xc_s_183 : (Int16.ofInt (183)).toInt32 = Int32.ofNat 183 := by decide +kernel
theorem xc_s_184 : (Int16.ofInt (184)).toInt32 = Int32.ofNat 184 := by decide +kernel
theorem xc_s_185 : (Int16.ofInt (185)).toInt32 = Int32.ofNat 185 := by decide +kernel
theorem xc_s_186 : (Int16.ofInt (186)).toInt32 = Int32.ofNat 186 := by decide +kernel
theorem xc_s_187 : (Int16.ofInt (187)).toInt32 = Int32.ofNat 187 := by decide +kernel
theorem xc_s_188 : (Int16.ofInt (188)).toInt32 = Int32.ofNat 188 := by decide +kernel
theorem xc_s_189 : (Int16.ofInt (189)).toInt32 = Int32.ofNat 189 := by decide +kernel
theorem xc_s_190 : (Int16.ofInt (190)).toInt32 = Int32.ofNat 190 := by decide +kernel
theorem xc_s_191 : (Int16.ofInt (191)).toInt32 = Int32.ofNat 191 := by decide +kernel
theorem xc_s_192 : (Int16.ofInt (192)).toInt32 = Int32.ofNat 192 := by decide +kernel
theorem xc_s_193 : (Int16.ofInt (193)).toInt32 = Int32.ofNat 193 := by decide +kernel
theorem xc_s_199 : (Int16.ofInt (199)).toInt32 = Int32.ofNat 199 := by decide +kernel
theorem xc_s_200 : (Int16.ofInt (200)).toInt32 = Int32.ofNat 200 := by decide +kernel
theorem xc_s_2400 : (Int16.ofInt (2400)).toInt32 = Int32.ofNat 2400 := by decide +kernel
theorem xc_s_255 : (Int16.ofInt (255)).toInt32 = Int32.ofNat 255 := by decide +kernel
theorem xc_s_256 : (Int16.ofInt (256)).toInt32 = Int32.ofNat 256 := by decide +kernel
theorem xc_s_3000 : (Int16.ofInt (3000)).toInt32 = Int32.ofNat 3000 := by decide +kernel
theorem xc_s_384 : (Int16.ofInt (384)).toInt32 = Int32.ofNat 384 := by decide +kernel
theorem xc_s_400 : (Int16.ofInt (400)).toInt32 = Int32.ofNat 400 := by decide +kernel
theorem xc_s_401 : (Int16.ofInt (401)).toInt32 = Int32.ofNat 401 := by decide +kernel
theorem xc_s_448 : (Int16.ofInt (448)).toInt32 = Int32.ofNat 448 := by decide +kernel
theorem xc_s_5800 : (Int16.ofInt (5800)).toInt32 = Int32.ofNat 5800 := by decide +kernel
theorem xc_s_999 : (Int16.ofInt (999)).toInt32 = Int32.ofNat 999 := by decide +kernel
theorem xv_0 : 0 < 4294967296 := by decide
theorem xv_1 : 1 < 4294967296 := by decide
theorem xv_2 : 2 < 4294967296 := by decide
theorem xv_3 : 3 < 4294967296 := by decide
theorem xv_4 : 4 < 4294967296 := by decide
theorem xv_5 : 5 < 4294967296 := by decide
theorem xv_6 : 6 < 4294967296 := by decide
theorem xv_7 : 7 < 4294967296 := by decide
theorem xv_8 : 8 < 4294967296 := by decide
theorem xv_9 : 9 < 4294967296 := by decide
theorem xv_10 : 10 < 4294967296 := by decide
theorem xv_11 : 11 < 4294967296 := by decide
theorem xv_12 : 12 < 4294967296 := by decide
theorem xv_13 : 13 < 4294967296 := by decide
theorem xv_14 : 14 < 4294967296 := by decide
theorem xv_15 : 15 < 4294967296 := by decide
theorem xv_16 : 16 < 4294967296 := by decide
theorem xv_17 : 17 < 4294967296 := by decide
theorem xv_18 : 18 < 4294967296 := by decide
theorem xv_19 : 19 < 4294967296 := by decide
theorem xv_20 : 20 < 4294967296 := by decide
theorem xv_21 : 21 < 4294967296 := by decide
theorem xv_22 : 22 < 4294967296 := by decide
theorem xv_23 : 23 < 4294967296 := by decide
theorem xv_24 : 24 < 4294967296 := by decide
theorem xv_25 : 25 < 4294967296 := by decide
theorem xv_26 : 26 < 4294967296 := by decide
theorem xv_27 : 27 < 4294967296 := by decide
theorem xv_28 : 28 < 4294967296 := by decide
theorem xv_29 : 29 < 4294967296 := by decide
theorem xv_30 : 30 < 4294967296 := by decide
theorem xv_31 : 31 < 4294967296 := by decide
theorem xv_32 : 32 < 4294967296 := by decide
theorem xv_33 : 33 < 4294967296 := by decide
theorem xv_34 : 34 < 4294967296 := by decide
theorem xv_35 : 35 < 4294967296 := by decide
theorem xv_36 : 36 < 4294967296 := by decide
theorem xv_37 : 37 < 4294967296 := by decide
theorem xv_38 : 38 < 4294967296 := by decide
theorem xv_39 : 39 < 4294967296 := by decide
theorem xv_40 : 40 < 4294967296 := by decide
theorem xv_41 : 41 < 4294967296 := by decide
theorem xv_42 : 42 < 4294967296 := by decide
theorem xv_43 : 43 < 4294967296 := by decide
theorem xv_44 : 44 < 4294967296 := by decide
theorem xv_45 : 45 < 4294967296 := by decide
theorem xv_46 : 46 < 4294967296 := by decide
theorem xv_47 : 47 < 4294967296 := by decide
theorem xv_48 : 48 < 4294967296 := by decide
theorem xv_49 : 49 < 4294967296 := by decide
theorem xv_50 : 50 < 4294967296 := by decide
theorem xv_51 : 51 < 4294967296 := by decide
theorem xv_52 : 52 < 4294967296 := by decide
theorem xv_53 : 53 < 4294967296 := by decide
theorem xv_54 : 54 < 4294967296 := by decide
theorem xv_55 : 55 < 4294967296 := by decide
theorem xv_56 : 56 < 4294967296 := by decide
theorem xv_57 : 57 < 4294967296 := by decide
theorem xv_58 : 58 < 4294967296 := by decide
theorem xv_59 : 59 < 4294967296 := by decide
theorem xv_60 : 60 < 4294967296 := by decide
theorem xv_61 : 61 < 4294967296 := by decide
theorem xv_62 : 62 < 4294967296 := by decide
theorem xv_63 : 63 < 4294967296 := by decide
theorem xv_64 : 64 < 4294967296 := by decide
theorem xv_65 : 65 < 4294967296 := by decide
theorem xv_66 : 66 < 4294967296 := by decide
theorem xv_67 : 67 < 4294967296 := by decide
theorem xv_68 : 68 < 4294967296 := by decide
theorem xv_69 : 69 < 4294967296 := by decide
theorem xv_70 : 70 < 4294967296 := by decide
theorem xv_71 : 71 < 4294967296 := by decide
theorem xv_72 : 72 < 4294967296 := by decide
theorem xv_73 : 73 < 4294967296 := by decide
theorem xv_74 : 74 < 4294967296 := by decide
theorem xv_75 : 75 < 4294967296 := by decide
theorem xv_76 : 76 < 4294967296 := by decide
theorem xv_77 : 77 < 4294967296 := by decide
theorem xv_78 : 78 < 4294967296 := by decide
theorem xv_79 : 79 < 4294967296 := by decide
theorem xv_80 : 80 < 4294967296 := by decide
theorem xv_81 : 81 < 4294967296 := by decide
theorem xv_82 : 82 < 4294967296 := by decide
theorem xv_83 : 83 < 4294967296 := by decide
theorem xv_84 : 84 < 4294967296 := by decide
theorem xv_85 : 85 < 4294967296 := by decide
theorem xv_86 : 86 < 4294967296 := by decide
theorem xv_87 : 87 < 4294967296 := by decide
theorem xv_88 : 88 < 4294967296 := by decide
theorem xv_89 : 89 < 4294967296 := by decide
theorem xv_90 : 90 < 4294967296 := by decide
theorem xv_91 : 91 < 4294967296 := by decide
theorem xv_92 : 92 < 4294967296 := by decide
theorem xv_93 : 93 < 4294967296 := by decide
theorem xv_94 : 94 < 4294967296 := by decide
theorem xv_95 : 95 < 4294967296 := by decide
theorem xv_96 : 96 < 4294967296 := by decide
theorem xv_97 : 97 < 4294967296 := by decide
theorem xv_98 : 98 < 4294967296 := by decide
theorem xv_99 : 99 < 4294967296 := by decide
theorem xv_100 : 100 < 4294967296 := by decide
theorem xv_101 : 101 < 4294967296 := by decide
theorem xv_102 : 102 < 4294967296 := by decide
theorem xv_103 : 103 < 4294967296 := by decide
theorem xv_104 : 104 < 4294967296 := by decide
theorem xv_105 : 105 < 4294967296 := by decide
theorem xv_106 : 106 < 4294967296 := by decide
theorem xv_107 : 107 < 4294967296 := by decide
theorem xv_108 : 108 < 4294967296 := by decide
theorem xv_109 : 109 < 4294967296 := by decide
theorem xv_110 : 110 < 4294967296 := by decide
theorem xv_111 : 111 < 4294967296 := by decide
theorem xv_112 : 112 < 4294967296 := by decide
theorem xv_113 : 113 < 4294967296 := by decide
theorem xv_114 : 114 < 4294967296 := by decide
theorem xv_115 : 115 < 4294967296 := by decide
theorem xv_116 : 116 < 4294967296 := by decide
theorem xv_117 : 117 < 4294967296 := by decide
theorem xv_118 : 118 < 4294967296 := by decide
theorem xv_119 : 119 < 4294967296 := by decide
theorem xv_120 : 120 < 4294967296 := by decide
theorem xv_121 : 121 < 4294967296 := by decide
theorem xv_122 : 122 < 4294967296 := by decide
theorem xv_123 : 123 < 4294967296 := by decide
theorem xv_124 : 124 < 4294967296 := by decide
theorem xv_125 : 125 < 4294967296 := by decide
theorem xv_126 : 126 < 4294967296 := by decide
theorem xv_127 : 127 < 4294967296 := by decide
theorem xv_128 : 128 < 4294967296 := by decide
theorem xv_129 : 129 < 4294967296 := by decide
theorem xv_130 : 130 < 4294967296 := by decide
theorem xv_136 : 136 < 4294967296 := by decide
theorem xv_140 : 140 < 4294967296 := by decide
theorem xv_170 : 170 < 4294967296 := by decide
theorem xv_182 : 182 < 4294967296 := by decide
theorem xv_183 : 183 < 4294967296 := by decide
theorem xv_184 : 184 < 4294967296 := by decide
theorem xv_185 : 185 < 4294967296 := by decide
theorem xv_186 : 186 < 4294967296 := by decide
theorem xv_187 : 187 < 4294967296 := by decide
theorem xv_188 : 188 < 4294967296 := by decide
theorem xv_189 : 189 < 4294967296 := by decide
theorem xv_190 : 190 < 4294967296 := by decide
theorem xv_191 : 191 < 4294967296 := by decide
theorem xv_192 : 192 < 4294967296 := by decide
theorem xv_193 : 193 < 4294967296 := by decide
theorem xv_199 : 199 < 4294967296 := by decide
theorem xv_200 : 200 < 4294967296 := by decide
theorem xv_255 : 255 < 4294967296 := by decide
theorem xv_256 : 256 < 4294967296 := by decide
theorem xv_384 : 384 < 4294967296 := by decide
theorem xv_400 : 400 < 4294967296 := by decide
theorem xv_401 : 401 < 4294967296 := by decide
theorem xv_448 : 448 < 4294967296 := by decide
theorem xv_999 : 999 < 4294967296 := by decide
theorem xv_1000 : 1000 < 4294967296 := by decide
theorem xv_1001 : 1001 < 4294967296 := by decide
theorem xv_1103 : 1103 < 4294967296 := by decide
theorem xv_1284 : 1284 < 4294967296 := by decide
theorem xv_1536 : 1536 < 4294967296 := by decide
theorem xv_1537 : 1537 < 4294967296 := by decide
theorem xv_2400 : 2400 < 4294967296 := by decide
theorem xv_3000 : 3000 < 4294967296 := by decide
theorem xv_5800 : 5800 < 4294967296 := by decide
theorem xv_11600 : 11600 < 4294967296 := by decide
theorem xv_12345 : 12345 < 4294967296 := by decide
theorem xv_1000000 : 1000000 < 4294967296 := by decide
theorem xv_1000003 : 1000003 < 4294967296 := by decide
theorem xv_252645135 : 252645135 < 4294967296 := by decide
theorem xv_858993459 : 858993459 < 4294967296 := by decide
theorem xv_1431655765 : 1431655765 < 4294967296 := by decide
theorem xv_2147483648 : 2147483648 < 4294967296 := by decide
theorem xv_4294967288 : 4294967288 < 4294967296 := by decide
theorem xv_4294967290 : 4294967290 < 4294967296 := by decide
theorem xv_4294967291 : 4294967291 < 4294967296 := by decide
theorem xv_4294967293 : 4294967293 < 4294967296 := by decide
theorem xv_4294967294 : 4294967294 < 4294967296 := by decide
theorem xv_4294967295 : 4294967295 < 4294967296 := by decide
theorem xw_0 : 0 < 18446744073709551616 := by decide
theorem xw_1 : 1 < 18446744073709551616 := by decide
theorem xw_7 : 7 < 18446744073709551616 := by decide
theorem xw_1103 : 1103 < 18446744073709551616 := by decide
theorem xw_12345 : 12345 < 18446744073709551616 := by decide
theorem xw_1000003 : 1000003 < 18446744073709551616 := by decide
theorem xw_1000000000 : 1000000000 < 18446744073709551616 := by decide
theorem xw_1085102592571150095 : 1085102592571150095 < 18446744073709551616 := by decide
theorem xw_3689348814741910323 : 3689348814741910323 < 18446744073709551616 := by decide
theorem xw_6148914691236517205 : 6148914691236517205 < 18446744073709551616 := by decide
theorem xw_18446744072709551616 : 18446744072709551616 < 18446744073709551616 := by decide
theorem xw_18446744073709551615 : 18446744073709551615 < 18446744073709551616 := by decide
theorem xl_c_MirrorHeirsLaw_10 : Cond.classLink "MirrorHeirsLaw" 10 "MirrorHeirsModel" ∈ xTs := xt_6 196 rfl rfl
theorem xl_c_MirrorHeirsLaw_7 : Cond.classLink "MirrorHeirsLaw" 7 "MirrorHeirs" ∈ xTs := xt_1 22 rfl rfl
theorem xl_c_MirrorHeirs_12 : Cond.classLink "MirrorHeirs" 12 "MirrorHeirs$Sight" ∈ xTs := xt_1 126 rfl rfl
theorem xl_c_MirrorHeirs_17 : Cond.classLink "MirrorHeirs" 17 "MirrorHeirs$Shares" ∈ xTs := xt_1 187 rfl rfl
theorem xl_c_MirrorHeirs_45 : Cond.classLink "MirrorHeirs" 45 "MirrorHeirs$Reader" ∈ xTs := xt_1 224 rfl rfl
theorem xl_c_MirrorHeirs_54 : Cond.classLink "MirrorHeirs" 54 "MirrorHeirs$Sets" ∈ xTs := xt_2 69 rfl rfl
theorem xl_c_MirrorHeirs_63 : Cond.classLink "MirrorHeirs" 63 "MirrorHeirs$Places" ∈ xTs := xt_2 119 rfl rfl
theorem xl_c_MirrorHeirs_7 : Cond.classLink "MirrorHeirs" 7 "MirrorHeirs$Hall" ∈ xTs := xt_1 30 rfl rfl
theorem xl_c_MirrorHeirs_70 : Cond.classLink "MirrorHeirs" 70 "MirrorHeirs$Wind" ∈ xTs := xt_2 157 rfl rfl
theorem xl_c_MirrorHeirs_79 : Cond.classLink "MirrorHeirs" 79 "MirrorHeirs$Deeds" ∈ xTs := xt_2 179 rfl rfl
theorem xl_c_MirrorHeirs_Deeds_19 : Cond.classLink "MirrorHeirs$Deeds" 19 "MirrorHeirs$Slate" ∈ xTs := xt_2 185 rfl rfl
theorem xl_c_MirrorHeirs_Deeds_28 : Cond.classLink "MirrorHeirs$Deeds" 28 "MirrorHeirs$Rows" ∈ xTs := xt_2 187 rfl rfl
theorem xl_c_MirrorHeirs_Deeds_35 : Cond.classLink "MirrorHeirs$Deeds" 35 "MirrorHeirs$Hall" ∈ xTs := xt_2 189 rfl rfl
theorem xl_c_MirrorHeirs_Hall_18 : Cond.classLink "MirrorHeirs$Hall" 18 "MirrorHeirs$Rows" ∈ xTs := xt_1 36 rfl rfl
theorem xl_c_MirrorHeirs_Hall_42 : Cond.classLink "MirrorHeirs$Hall" 42 "MirrorHeirs$Text" ∈ xTs := xt_1 67 rfl rfl
theorem xl_c_MirrorHeirs_Reader_15 : Cond.classLink "MirrorHeirs$Reader" 15 "MirrorHeirs$Text" ∈ xTs := xt_1 230 rfl rfl
theorem xl_c_MirrorHeirs_Shares_19 : Cond.classLink "MirrorHeirs$Shares" 19 "MirrorHeirs$Slate" ∈ xTs := xt_1 193 rfl rfl
theorem xl_c_MirrorHeirs_Sight_15 : Cond.classLink "MirrorHeirs$Sight" 15 "MirrorHeirs$Slate" ∈ xTs := xt_1 132 rfl rfl
theorem xl_c_MirrorHeirs_Text_16 : Cond.classLink "MirrorHeirs$Text" 16 "MirrorHeirs$Text" ∈ xTs := xt_4 161 rfl rfl
theorem xl_c_MirrorHeirs_Text_21 : Cond.classLink "MirrorHeirs$Text" 21 "MirrorHeirs$Rows" ∈ xTs := xt_1 237 rfl rfl
theorem xl_c_MirrorHeirs_Wind_19 : Cond.classLink "MirrorHeirs$Wind" 19 "MirrorHeirs$Rows" ∈ xTs := xt_2 163 rfl rfl
theorem xl_f_MirrorHeirsModel_100 : Cond.fieldLink "MirrorHeirsModel" 100 "MirrorHeirsModel" "standCell" "[I" ∈ xTs := xt_7 5 rfl rfl
theorem xl_f_MirrorHeirsModel_103 : Cond.fieldLink "MirrorHeirsModel" 103 "MirrorHeirsModel" "standSees" "[I" ∈ xTs := xt_7 6 rfl rfl
theorem xl_f_MirrorHeirsModel_106 : Cond.fieldLink "MirrorHeirsModel" 106 "MirrorHeirsModel" "firstStand" "[I" ∈ xTs := xt_7 7 rfl rfl
theorem xl_f_MirrorHeirsModel_109 : Cond.fieldLink "MirrorHeirsModel" 109 "MirrorHeirsModel" "estatesBy" "[I" ∈ xTs := xt_7 9 rfl rfl
theorem xl_f_MirrorHeirsModel_11 : Cond.fieldLink "MirrorHeirsModel" 11 "MirrorHeirsModel" "version" "I" ∈ xTs := xt_6 203 rfl rfl
theorem xl_f_MirrorHeirsModel_112 : Cond.fieldLink "MirrorHeirsModel" 112 "MirrorHeirsModel" "quarrelAt" "[I" ∈ xTs := xt_7 10 rfl rfl
theorem xl_f_MirrorHeirsModel_115 : Cond.fieldLink "MirrorHeirsModel" 115 "MirrorHeirsModel" "stopped0" "I" ∈ xTs := xt_7 11 rfl rfl
theorem xl_f_MirrorHeirsModel_118 : Cond.fieldLink "MirrorHeirsModel" 118 "MirrorHeirsModel" "sums" "[J" ∈ xTs := xt_7 18 rfl rfl
theorem xl_f_MirrorHeirsModel_122 : Cond.fieldLink "MirrorHeirsModel" 122 "MirrorHeirsModel" "drawnCell" "[I" ∈ xTs := xt_7 19 rfl rfl
theorem xl_f_MirrorHeirsModel_125 : Cond.fieldLink "MirrorHeirsModel" 125 "MirrorHeirsModel" "drawnGone" "[I" ∈ xTs := xt_7 20 rfl rfl
theorem xl_f_MirrorHeirsModel_128 : Cond.fieldLink "MirrorHeirsModel" 128 "MirrorHeirsModel" "toldCell" "[I" ∈ xTs := xt_7 21 rfl rfl
theorem xl_f_MirrorHeirsModel_142 : Cond.fieldLink "MirrorHeirsModel" 142 "MirrorHeirsModel" "undoMany" "I" ∈ xTs := xt_6 211 rfl rfl
theorem xl_f_MirrorHeirsModel_196 : Cond.fieldLink "MirrorHeirsModel" 196 "MirrorHeirsModel" "taped" "I" ∈ xTs := xt_6 219 rfl rfl
theorem xl_f_MirrorHeirsModel_199 : Cond.fieldLink "MirrorHeirsModel" 199 "MirrorHeirsModel" "dust0" "I" ∈ xTs := xt_6 212 rfl rfl
theorem xl_f_MirrorHeirsModel_20 : Cond.fieldLink "MirrorHeirsModel" 20 "MirrorHeirsModel" "kept" "[I" ∈ xTs := xt_6 205 rfl rfl
theorem xl_f_MirrorHeirsModel_202 : Cond.fieldLink "MirrorHeirsModel" 202 "MirrorHeirsModel" "tokens" "I" ∈ xTs := xt_6 224 rfl rfl
theorem xl_f_MirrorHeirsModel_216 : Cond.fieldLink "MirrorHeirsModel" 216 "MirrorHeirsModel" "bad" "I" ∈ xTs := xt_6 227 rfl rfl
theorem xl_f_MirrorHeirsModel_223 : Cond.fieldLink "MirrorHeirsModel" 223 "MirrorHeirsModel" "token" "I" ∈ xTs := xt_6 225 rfl rfl
theorem xl_f_MirrorHeirsModel_23 : Cond.fieldLink "MirrorHeirsModel" 23 "MirrorHeirsModel" "images" "[I" ∈ xTs := xt_6 206 rfl rfl
theorem xl_f_MirrorHeirsModel_232 : Cond.fieldLink "MirrorHeirsModel" 232 "MirrorHeirsModel" "leaves" "I" ∈ xTs := xt_6 226 rfl rfl
theorem xl_f_MirrorHeirsModel_247 : Cond.fieldLink "MirrorHeirsModel" 247 "MirrorHeirsModel" "isOrders" "Z" ∈ xTs := xt_6 216 rfl rfl
theorem xl_f_MirrorHeirsModel_26 : Cond.fieldLink "MirrorHeirsModel" 26 "MirrorHeirsModel" "ahead" "[I" ∈ xTs := xt_6 207 rfl rfl
theorem xl_f_MirrorHeirsModel_273 : Cond.fieldLink "MirrorHeirsModel" 273 "MirrorHeirsModel" "firstWord" "I" ∈ xTs := xt_6 214 rfl rfl
theorem xl_f_MirrorHeirsModel_276 : Cond.fieldLink "MirrorHeirsModel" 276 "MirrorHeirsModel" "lastWord" "I" ∈ xTs := xt_6 215 rfl rfl
theorem xl_f_MirrorHeirsModel_29 : Cond.fieldLink "MirrorHeirsModel" 29 "MirrorHeirsModel" "hasImage" "[Z" ∈ xTs := xt_6 208 rfl rfl
theorem xl_f_MirrorHeirsModel_298 : Cond.fieldLink "MirrorHeirsModel" 298 "MirrorHeirsModel" "goEnd" "I" ∈ xTs := xt_6 229 rfl rfl
theorem xl_f_MirrorHeirsModel_3 : Cond.fieldLink "MirrorHeirsModel" 3 "MirrorHeirsModel" "status" "I" ∈ xTs := xt_6 202 rfl rfl
theorem xl_f_MirrorHeirsModel_301 : Cond.fieldLink "MirrorHeirsModel" 301 "MirrorHeirsModel" "go" "I" ∈ xTs := xt_6 228 rfl rfl
theorem xl_f_MirrorHeirsModel_311 : Cond.fieldLink "MirrorHeirsModel" 311 "MirrorHeirsModel" "broken" "Z" ∈ xTs := xt_6 230 rfl rfl
theorem xl_f_MirrorHeirsModel_33 : Cond.fieldLink "MirrorHeirsModel" 33 "MirrorHeirsModel" "undone" "[I" ∈ xTs := xt_6 209 rfl rfl
theorem xl_f_MirrorHeirsModel_343 : Cond.fieldLink "MirrorHeirsModel" 343 "MirrorHeirsModel" "foggedHour" "I" ∈ xTs := xt_6 236 rfl rfl
theorem xl_f_MirrorHeirsModel_36 : Cond.fieldLink "MirrorHeirsModel" 36 "MirrorHeirsModel" "undoneAhead" "[I" ∈ xTs := xt_6 210 rfl rfl
theorem xl_f_MirrorHeirsModel_39 : Cond.fieldLink "MirrorHeirsModel" 39 "MirrorHeirsModel" "words" "[B" ∈ xTs := xt_6 213 rfl rfl
theorem xl_f_MirrorHeirsModel_396 : Cond.fieldLink "MirrorHeirsModel" 396 "MirrorHeirsModel" "standMany" "I" ∈ xTs := xt_7 8 rfl rfl
theorem xl_f_MirrorHeirsModel_423 : Cond.fieldLink "MirrorHeirsModel" 423 "MirrorHeirsModel" "orderDone" "I" ∈ xTs := xt_7 12 rfl rfl
theorem xl_f_MirrorHeirsModel_426 : Cond.fieldLink "MirrorHeirsModel" 426 "MirrorHeirsModel" "orderAt" "I" ∈ xTs := xt_7 13 rfl rfl
theorem xl_f_MirrorHeirsModel_43 : Cond.fieldLink "MirrorHeirsModel" 43 "MirrorHeirsModel" "tape" "[B" ∈ xTs := xt_6 217 rfl rfl
theorem xl_f_MirrorHeirsModel_432 : Cond.fieldLink "MirrorHeirsModel" 432 "MirrorHeirsModel" "head" "I" ∈ xTs := xt_7 15 rfl rfl
theorem xl_f_MirrorHeirsModel_435 : Cond.fieldLink "MirrorHeirsModel" 435 "MirrorHeirsModel" "sumsAre" "Z" ∈ xTs := xt_7 16 rfl rfl
theorem xl_f_MirrorHeirsModel_438 : Cond.fieldLink "MirrorHeirsModel" 438 "MirrorHeirsModel" "timesOf" "I" ∈ xTs := xt_7 14 rfl rfl
theorem xl_f_MirrorHeirsModel_441 : Cond.fieldLink "MirrorHeirsModel" 441 "MirrorHeirsModel" "testIs" "Z" ∈ xTs := xt_7 17 rfl rfl
theorem xl_f_MirrorHeirsModel_46 : Cond.fieldLink "MirrorHeirsModel" 46 "MirrorHeirsModel" "five" "[I" ∈ xTs := xt_6 218 rfl rfl
theorem xl_f_MirrorHeirsModel_460 : Cond.fieldLink "MirrorHeirsModel" 460 "MirrorHeirsModel" "latest" "I" ∈ xTs := xt_7 23 rfl rfl
theorem xl_f_MirrorHeirsModel_467 : Cond.fieldLink "MirrorHeirsModel" 467 "MirrorHeirsModel" "drawnMany" "I" ∈ xTs := xt_7 22 rfl rfl
theorem xl_f_MirrorHeirsModel_49 : Cond.fieldLink "MirrorHeirsModel" 49 "MirrorHeirsModel" "fault" "I" ∈ xTs := xt_6 220 rfl rfl
theorem xl_f_MirrorHeirsModel_52 : Cond.fieldLink "MirrorHeirsModel" 52 "MirrorHeirsModel" "code" "[I" ∈ xTs := xt_6 221 rfl rfl
theorem xl_f_MirrorHeirsModel_55 : Cond.fieldLink "MirrorHeirsModel" 55 "MirrorHeirsModel" "value" "[I" ∈ xTs := xt_6 222 rfl rfl
theorem xl_f_MirrorHeirsModel_58 : Cond.fieldLink "MirrorHeirsModel" 58 "MirrorHeirsModel" "placed" "[I" ∈ xTs := xt_6 223 rfl rfl
theorem xl_f_MirrorHeirsModel_61 : Cond.fieldLink "MirrorHeirsModel" 61 "MirrorHeirsModel" "asked" "[I" ∈ xTs := xt_6 231 rfl rfl
theorem xl_f_MirrorHeirsModel_64 : Cond.fieldLink "MirrorHeirsModel" 64 "MirrorHeirsModel" "orderEstates" "[I" ∈ xTs := xt_6 232 rfl rfl
theorem xl_f_MirrorHeirsModel_67 : Cond.fieldLink "MirrorHeirsModel" 67 "MirrorHeirsModel" "orderSees" "[I" ∈ xTs := xt_6 233 rfl rfl
theorem xl_f_MirrorHeirsModel_7 : Cond.fieldLink "MirrorHeirsModel" 7 "MirrorHeirsModel" "refused" "[I" ∈ xTs := xt_6 204 rfl rfl
theorem xl_f_MirrorHeirsModel_70 : Cond.fieldLink "MirrorHeirsModel" 70 "MirrorHeirsModel" "fogged" "[Z" ∈ xTs := xt_6 234 rfl rfl
theorem xl_f_MirrorHeirsModel_73 : Cond.fieldLink "MirrorHeirsModel" 73 "MirrorHeirsModel" "foggedBy" "I" ∈ xTs := xt_6 235 rfl rfl
theorem xl_f_MirrorHeirsModel_76 : Cond.fieldLink "MirrorHeirsModel" 76 "MirrorHeirsModel" "seen" "[I" ∈ xTs := xt_6 237 rfl rfl
theorem xl_f_MirrorHeirsModel_79 : Cond.fieldLink "MirrorHeirsModel" 79 "MirrorHeirsModel" "open" "[I" ∈ xTs := xt_6 238 rfl rfl
theorem xl_f_MirrorHeirsModel_82 : Cond.fieldLink "MirrorHeirsModel" 82 "MirrorHeirsModel" "heirSees" "[I" ∈ xTs := xt_6 239 rfl rfl
theorem xl_f_MirrorHeirsModel_85 : Cond.fieldLink "MirrorHeirsModel" 85 "MirrorHeirsModel" "light" "[I" ∈ xTs := xt_7 0 rfl rfl
theorem xl_f_MirrorHeirsModel_88 : Cond.fieldLink "MirrorHeirsModel" 88 "MirrorHeirsModel" "isPaired" "[Z" ∈ xTs := xt_7 1 rfl rfl
theorem xl_f_MirrorHeirsModel_91 : Cond.fieldLink "MirrorHeirsModel" 91 "MirrorHeirsModel" "claims" "[I" ∈ xTs := xt_7 2 rfl rfl
theorem xl_f_MirrorHeirsModel_94 : Cond.fieldLink "MirrorHeirsModel" 94 "MirrorHeirsModel" "wholes" "[I" ∈ xTs := xt_7 3 rfl rfl
theorem xl_f_MirrorHeirsModel_97 : Cond.fieldLink "MirrorHeirsModel" 97 "MirrorHeirsModel" "estates" "[I" ∈ xTs := xt_7 4 rfl rfl
theorem xl_f_MirrorHeirs_127 : Cond.fieldLink "MirrorHeirs" 127 "MirrorHeirs$Hall" "pivots" "LMirrorHeirs$Rows;" ∈ xTs := xt_1 73 rfl rfl
theorem xl_f_MirrorHeirs_136 : Cond.fieldLink "MirrorHeirs" 136 "MirrorHeirs$Hall" "heirs" "LMirrorHeirs$Rows;" ∈ xTs := xt_1 77 rfl rfl
theorem xl_f_MirrorHeirs_139 : Cond.fieldLink "MirrorHeirs" 139 "MirrorHeirs$Hall" "things" "LMirrorHeirs$Rows;" ∈ xTs := xt_1 85 rfl rfl
theorem xl_f_MirrorHeirs_142 : Cond.fieldLink "MirrorHeirs" 142 "MirrorHeirs$Hall" "candles" "LMirrorHeirs$Rows;" ∈ xTs := xt_1 89 rfl rfl
theorem xl_f_MirrorHeirs_177 : Cond.fieldLink "MirrorHeirs" 177 "MirrorHeirs" "LEAST_TERMS" "[I" ∈ xTs := xt_3 169 rfl rfl
theorem xl_f_MirrorHeirs_180 : Cond.fieldLink "MirrorHeirs" 180 "MirrorHeirs" "MOST_TERMS" "[I" ∈ xTs := xt_3 171 rfl rfl
theorem xl_f_MirrorHeirs_192 : Cond.fieldLink "MirrorHeirs" 192 "MirrorHeirs$Hall" "lawCount" "I" ∈ xTs := xt_1 100 rfl rfl
theorem xl_f_MirrorHeirs_198 : Cond.fieldLink "MirrorHeirs" 198 "MirrorHeirs$Reader" "draft" "LMirrorHeirs$Text;" ∈ xTs := xt_2 33 rfl rfl
theorem xl_f_MirrorHeirs_212 : Cond.fieldLink "MirrorHeirs" 212 "MirrorHeirs$Deeds" "stoppedAt" "I" ∈ xTs := xt_2 199 rfl rfl
theorem xl_f_MirrorHeirs_22 : Cond.fieldLink "MirrorHeirs" 22 "MirrorHeirs" "hall" "LMirrorHeirs$Hall;" ∈ xTs := xt_2 215 rfl rfl
theorem xl_f_MirrorHeirs_221 : Cond.fieldLink "MirrorHeirs" 221 "MirrorHeirs$Hall" "inForce" "I" ∈ xTs := xt_1 102 rfl rfl
theorem xl_f_MirrorHeirs_26 : Cond.fieldLink "MirrorHeirs" 26 "MirrorHeirs" "tape" "[I" ∈ xTs := xt_2 217 rfl rfl
theorem xl_f_MirrorHeirs_280 : Cond.fieldLink "MirrorHeirs" 280 "MirrorHeirs$Places" "ways" "J" ∈ xTs := xt_2 134 rfl rfl
theorem xl_f_MirrorHeirs_287 : Cond.fieldLink "MirrorHeirs" 287 "MirrorHeirs$Hall" "tellings" "LMirrorHeirs$Rows;" ∈ xTs := xt_1 94 rfl rfl
theorem xl_f_MirrorHeirs_30 : Cond.fieldLink "MirrorHeirs" 30 "MirrorHeirs" "sight" "LMirrorHeirs$Sight;" ∈ xTs := xt_2 220 rfl rfl
theorem xl_f_MirrorHeirs_305 : Cond.fieldLink "MirrorHeirs" 305 "MirrorHeirs$Hall" "hints" "LMirrorHeirs$Rows;" ∈ xTs := xt_1 97 rfl rfl
theorem xl_f_MirrorHeirs_315 : Cond.fieldLink "MirrorHeirs" 315 "MirrorHeirs$Rows" "size" "I" ∈ xTs := xt_1 56 rfl rfl
theorem xl_f_MirrorHeirs_34 : Cond.fieldLink "MirrorHeirs" 34 "MirrorHeirs" "shares" "LMirrorHeirs$Shares;" ∈ xTs := xt_2 221 rfl rfl
theorem xl_f_MirrorHeirs_344 : Cond.fieldLink "MirrorHeirs" 344 "MirrorHeirs$Sets" "steps" "I" ∈ xTs := xt_2 91 rfl rfl
theorem xl_f_MirrorHeirs_347 : Cond.fieldLink "MirrorHeirs" 347 "MirrorHeirs$Sets" "turns" "I" ∈ xTs := xt_2 87 rfl rfl
theorem xl_f_MirrorHeirs_350 : Cond.fieldLink "MirrorHeirs" 350 "MirrorHeirs$Sets" "reached" "I" ∈ xTs := xt_2 89 rfl rfl
theorem xl_f_MirrorHeirs_357 : Cond.fieldLink "MirrorHeirs" 357 "MirrorHeirs$Wind" "lamps" "LMirrorHeirs$Rows;" ∈ xTs := xt_2 168 rfl rfl
theorem xl_f_MirrorHeirs_363 : Cond.fieldLink "MirrorHeirs" 363 "MirrorHeirs$Deeds" "log" "LMirrorHeirs$Rows;" ∈ xTs := xt_2 195 rfl rfl
theorem xl_f_MirrorHeirs_369 : Cond.fieldLink "MirrorHeirs" 369 "MirrorHeirs$Sets" "ready" "Z" ∈ xTs := xt_2 85 rfl rfl
theorem xl_f_MirrorHeirs_38 : Cond.fieldLink "MirrorHeirs" 38 "MirrorHeirs" "images" "[LMirrorHeirs$Hall;" ∈ xTs := xt_2 216 rfl rfl
theorem xl_f_MirrorHeirs_42 : Cond.fieldLink "MirrorHeirs" 42 "MirrorHeirs" "refusals" "[I" ∈ xTs := xt_2 218 rfl rfl
theorem xl_f_MirrorHeirs_50 : Cond.fieldLink "MirrorHeirs" 50 "MirrorHeirs" "reader" "LMirrorHeirs$Reader;" ∈ xTs := xt_2 219 rfl rfl
theorem xl_f_MirrorHeirs_59 : Cond.fieldLink "MirrorHeirs" 59 "MirrorHeirs" "sets" "LMirrorHeirs$Sets;" ∈ xTs := xt_2 222 rfl rfl
theorem xl_f_MirrorHeirs_66 : Cond.fieldLink "MirrorHeirs" 66 "MirrorHeirs" "places" "LMirrorHeirs$Places;" ∈ xTs := xt_2 223 rfl rfl
theorem xl_f_MirrorHeirs_75 : Cond.fieldLink "MirrorHeirs" 75 "MirrorHeirs" "wind" "LMirrorHeirs$Wind;" ∈ xTs := xt_2 224 rfl rfl
theorem xl_f_MirrorHeirs_82 : Cond.fieldLink "MirrorHeirs" 82 "MirrorHeirs" "deeds" "LMirrorHeirs$Deeds;" ∈ xTs := xt_2 225 rfl rfl
theorem xl_f_MirrorHeirs_86 : Cond.fieldLink "MirrorHeirs" 86 "MirrorHeirs" "tapeLength" "I" ∈ xTs := xt_2 226 rfl rfl
theorem xl_f_MirrorHeirs_90 : Cond.fieldLink "MirrorHeirs" 90 "MirrorHeirs" "faultPlace" "I" ∈ xTs := xt_2 227 rfl rfl
theorem xl_f_MirrorHeirs_93 : Cond.fieldLink "MirrorHeirs" 93 "MirrorHeirs" "dustCount" "I" ∈ xTs := xt_2 228 rfl rfl
theorem xl_f_MirrorHeirs_96 : Cond.fieldLink "MirrorHeirs" 96 "MirrorHeirs" "latestStatus" "I" ∈ xTs := xt_2 229 rfl rfl
theorem xl_f_MirrorHeirs_Deeds_109 : Cond.fieldLink "MirrorHeirs$Deeds" 109 "MirrorHeirs$Hall" "pivots" "LMirrorHeirs$Rows;" ∈ xTs := xt_1 75 rfl rfl
theorem xl_f_MirrorHeirs_Deeds_112 : Cond.fieldLink "MirrorHeirs$Deeds" 112 "MirrorHeirs$Text" "looks" "Z" ∈ xTs := xt_2 16 rfl rfl
theorem xl_f_MirrorHeirs_Deeds_116 : Cond.fieldLink "MirrorHeirs$Deeds" 116 "MirrorHeirs$Hall" "candles" "LMirrorHeirs$Rows;" ∈ xTs := xt_1 91 rfl rfl
theorem xl_f_MirrorHeirs_Deeds_15 : Cond.fieldLink "MirrorHeirs$Deeds" 15 "MirrorHeirs$Deeds" "shares" "LMirrorHeirs$Shares;" ∈ xTs := xt_2 192 rfl rfl
theorem xl_f_MirrorHeirs_Deeds_24 : Cond.fieldLink "MirrorHeirs$Deeds" 24 "MirrorHeirs$Deeds" "slate" "LMirrorHeirs$Slate;" ∈ xTs := xt_2 193 rfl rfl
theorem xl_f_MirrorHeirs_Deeds_31 : Cond.fieldLink "MirrorHeirs$Deeds" 31 "MirrorHeirs$Deeds" "log" "LMirrorHeirs$Rows;" ∈ xTs := xt_2 194 rfl rfl
theorem xl_f_MirrorHeirs_Deeds_38 : Cond.fieldLink "MirrorHeirs$Deeds" 38 "MirrorHeirs$Deeds" "hallAhead" "LMirrorHeirs$Hall;" ∈ xTs := xt_2 196 rfl rfl
theorem xl_f_MirrorHeirs_Deeds_41 : Cond.fieldLink "MirrorHeirs$Deeds" 41 "MirrorHeirs$Deeds" "logAhead" "LMirrorHeirs$Rows;" ∈ xTs := xt_2 197 rfl rfl
theorem xl_f_MirrorHeirs_Deeds_44 : Cond.fieldLink "MirrorHeirs$Deeds" 44 "MirrorHeirs$Deeds" "stoppedAt" "I" ∈ xTs := xt_2 198 rfl rfl
theorem xl_f_MirrorHeirs_Deeds_59 : Cond.fieldLink "MirrorHeirs$Deeds" 59 "MirrorHeirs$Hall" "heirs" "LMirrorHeirs$Rows;" ∈ xTs := xt_1 79 rfl rfl
theorem xl_f_MirrorHeirs_Deeds_69 : Cond.fieldLink "MirrorHeirs$Deeds" 69 "MirrorHeirs$Rows" "size" "I" ∈ xTs := xt_1 53 rfl rfl
theorem xl_f_MirrorHeirs_Deeds_86 : Cond.fieldLink "MirrorHeirs$Deeds" 86 "MirrorHeirs$Text" "lines" "LMirrorHeirs$Rows;" ∈ xTs := xt_2 3 rfl rfl
theorem xl_f_MirrorHeirs_Deeds_9 : Cond.fieldLink "MirrorHeirs$Deeds" 9 "MirrorHeirs$Deeds" "hall" "LMirrorHeirs$Hall;" ∈ xTs := xt_2 191 rfl rfl
theorem xl_f_MirrorHeirs_Hall_15 : Cond.fieldLink "MirrorHeirs$Hall" 15 "MirrorHeirs$Hall" "termValues" "[I" ∈ xTs := xt_1 70 rfl rfl
theorem xl_f_MirrorHeirs_Hall_23 : Cond.fieldLink "MirrorHeirs$Hall" 23 "MirrorHeirs$Hall" "pivots" "LMirrorHeirs$Rows;" ∈ xTs := xt_1 71 rfl rfl
theorem xl_f_MirrorHeirs_Hall_27 : Cond.fieldLink "MirrorHeirs$Hall" 27 "MirrorHeirs$Hall" "heirs" "LMirrorHeirs$Rows;" ∈ xTs := xt_1 76 rfl rfl
theorem xl_f_MirrorHeirs_Hall_30 : Cond.fieldLink "MirrorHeirs$Hall" 30 "MirrorHeirs$Hall" "things" "LMirrorHeirs$Rows;" ∈ xTs := xt_1 82 rfl rfl
theorem xl_f_MirrorHeirs_Hall_33 : Cond.fieldLink "MirrorHeirs$Hall" 33 "MirrorHeirs$Hall" "candles" "LMirrorHeirs$Rows;" ∈ xTs := xt_1 87 rfl rfl
theorem xl_f_MirrorHeirs_Hall_36 : Cond.fieldLink "MirrorHeirs$Hall" 36 "MirrorHeirs$Hall" "tellings" "LMirrorHeirs$Rows;" ∈ xTs := xt_1 92 rfl rfl
theorem xl_f_MirrorHeirs_Hall_39 : Cond.fieldLink "MirrorHeirs$Hall" 39 "MirrorHeirs$Hall" "hints" "LMirrorHeirs$Rows;" ∈ xTs := xt_1 95 rfl rfl
theorem xl_f_MirrorHeirs_Hall_44 : Cond.fieldLink "MirrorHeirs$Hall" 44 "MirrorHeirs$Hall" "laws" "[LMirrorHeirs$Text;" ∈ xTs := xt_1 98 rfl rfl
theorem xl_f_MirrorHeirs_Hall_48 : Cond.fieldLink "MirrorHeirs$Hall" 48 "MirrorHeirs$Hall" "lawCount" "I" ∈ xTs := xt_1 99 rfl rfl
theorem xl_f_MirrorHeirs_Hall_52 : Cond.fieldLink "MirrorHeirs$Hall" 52 "MirrorHeirs$Hall" "inForce" "I" ∈ xTs := xt_1 101 rfl rfl
theorem xl_f_MirrorHeirs_Hall_76 : Cond.fieldLink "MirrorHeirs$Hall" 76 "MirrorHeirs$Rows" "size" "I" ∈ xTs := xt_1 54 rfl rfl
theorem xl_f_MirrorHeirs_Hall_9 : Cond.fieldLink "MirrorHeirs$Hall" 9 "MirrorHeirs$Hall" "kinds" "[I" ∈ xTs := xt_1 69 rfl rfl
theorem xl_f_MirrorHeirs_Places_15 : Cond.fieldLink "MirrorHeirs$Places" 15 "MirrorHeirs$Places" "sight" "LMirrorHeirs$Sight;" ∈ xTs := xt_2 126 rfl rfl
theorem xl_f_MirrorHeirs_Places_19 : Cond.fieldLink "MirrorHeirs$Places" 19 "MirrorHeirs$Places" "masks" "[I" ∈ xTs := xt_2 127 rfl rfl
theorem xl_f_MirrorHeirs_Places_23 : Cond.fieldLink "MirrorHeirs$Places" 23 "MirrorHeirs$Places" "sizes" "[I" ∈ xTs := xt_2 128 rfl rfl
theorem xl_f_MirrorHeirs_Places_26 : Cond.fieldLink "MirrorHeirs$Places" 26 "MirrorHeirs$Places" "firsts" "[I" ∈ xTs := xt_2 129 rfl rfl
theorem xl_f_MirrorHeirs_Places_29 : Cond.fieldLink "MirrorHeirs$Places" 29 "MirrorHeirs$Places" "groups" "I" ∈ xTs := xt_2 130 rfl rfl
theorem xl_f_MirrorHeirs_Places_33 : Cond.fieldLink "MirrorHeirs$Places" 33 "MirrorHeirs$Places" "all" "I" ∈ xTs := xt_2 131 rfl rfl
theorem xl_f_MirrorHeirs_Places_36 : Cond.fieldLink "MirrorHeirs$Places" 36 "MirrorHeirs$Places" "blanks" "J" ∈ xTs := xt_2 132 rfl rfl
theorem xl_f_MirrorHeirs_Places_40 : Cond.fieldLink "MirrorHeirs$Places" 40 "MirrorHeirs$Places" "ways" "J" ∈ xTs := xt_2 133 rfl rfl
theorem xl_f_MirrorHeirs_Places_43 : Cond.fieldLink "MirrorHeirs$Places" 43 "MirrorHeirs$Places" "best" "J" ∈ xTs := xt_2 135 rfl rfl
theorem xl_f_MirrorHeirs_Places_46 : Cond.fieldLink "MirrorHeirs$Places" 46 "MirrorHeirs$Hall" "things" "LMirrorHeirs$Rows;" ∈ xTs := xt_1 83 rfl rfl
theorem xl_f_MirrorHeirs_Places_52 : Cond.fieldLink "MirrorHeirs$Places" 52 "MirrorHeirs$Rows" "size" "I" ∈ xTs := xt_1 51 rfl rfl
theorem xl_f_MirrorHeirs_Places_9 : Cond.fieldLink "MirrorHeirs$Places" 9 "MirrorHeirs$Places" "hall" "LMirrorHeirs$Hall;" ∈ xTs := xt_2 125 rfl rfl
theorem xl_f_MirrorHeirs_Places_93 : Cond.fieldLink "MirrorHeirs$Places" 93 "MirrorHeirs$Hall" "hints" "LMirrorHeirs$Rows;" ∈ xTs := xt_1 96 rfl rfl
theorem xl_f_MirrorHeirs_Places_96 : Cond.fieldLink "MirrorHeirs$Places" 96 "MirrorHeirs$Hall" "heirs" "LMirrorHeirs$Rows;" ∈ xTs := xt_1 81 rfl rfl
theorem xl_f_MirrorHeirs_Reader_122 : Cond.fieldLink "MirrorHeirs$Reader" 122 "MirrorHeirs$Text" "fogs" "Z" ∈ xTs := xt_2 9 rfl rfl
theorem xl_f_MirrorHeirs_Reader_20 : Cond.fieldLink "MirrorHeirs$Reader" 20 "MirrorHeirs$Reader" "draft" "LMirrorHeirs$Text;" ∈ xTs := xt_2 32 rfl rfl
theorem xl_f_MirrorHeirs_Reader_211 : Cond.fieldLink "MirrorHeirs$Reader" 211 "MirrorHeirs$Text" "fogsByGlance" "Z" ∈ xTs := xt_2 13 rfl rfl
theorem xl_f_MirrorHeirs_Reader_228 : Cond.fieldLink "MirrorHeirs$Reader" 228 "MirrorHeirs$Text" "looks" "Z" ∈ xTs := xt_2 17 rfl rfl
theorem xl_f_MirrorHeirs_Reader_24 : Cond.fieldLink "MirrorHeirs$Reader" 24 "MirrorHeirs$Reader" "length" "I" ∈ xTs := xt_2 34 rfl rfl
theorem xl_f_MirrorHeirs_Reader_28 : Cond.fieldLink "MirrorHeirs$Reader" 28 "MirrorHeirs$Reader" "start" "I" ∈ xTs := xt_2 35 rfl rfl
theorem xl_f_MirrorHeirs_Reader_31 : Cond.fieldLink "MirrorHeirs$Reader" 31 "MirrorHeirs$Reader" "next" "I" ∈ xTs := xt_2 36 rfl rfl
theorem xl_f_MirrorHeirs_Reader_34 : Cond.fieldLink "MirrorHeirs$Reader" 34 "MirrorHeirs$Reader" "sort" "I" ∈ xTs := xt_2 37 rfl rfl
theorem xl_f_MirrorHeirs_Reader_37 : Cond.fieldLink "MirrorHeirs$Reader" 37 "MirrorHeirs$Reader" "number" "I" ∈ xTs := xt_2 38 rfl rfl
theorem xl_f_MirrorHeirs_Reader_40 : Cond.fieldLink "MirrorHeirs$Reader" 40 "MirrorHeirs$Reader" "faultAt" "I" ∈ xTs := xt_2 39 rfl rfl
theorem xl_f_MirrorHeirs_Reader_43 : Cond.fieldLink "MirrorHeirs$Reader" 43 "MirrorHeirs$Reader" "parts" "I" ∈ xTs := xt_2 40 rfl rfl
theorem xl_f_MirrorHeirs_Reader_46 : Cond.fieldLink "MirrorHeirs$Reader" 46 "MirrorHeirs$Reader" "brackets" "I" ∈ xTs := xt_2 41 rfl rfl
theorem xl_f_MirrorHeirs_Reader_49 : Cond.fieldLink "MirrorHeirs$Reader" 49 "MirrorHeirs$Reader" "lawful" "Z" ∈ xTs := xt_2 42 rfl rfl
theorem xl_f_MirrorHeirs_Reader_53 : Cond.fieldLink "MirrorHeirs$Reader" 53 "MirrorHeirs$Reader" "fogging" "Z" ∈ xTs := xt_2 43 rfl rfl
theorem xl_f_MirrorHeirs_Reader_60 : Cond.fieldLink "MirrorHeirs$Reader" 60 "MirrorHeirs$Text" "lines" "LMirrorHeirs$Rows;" ∈ xTs := xt_2 2 rfl rfl
theorem xl_f_MirrorHeirs_Reader_64 : Cond.fieldLink "MirrorHeirs$Reader" 64 "MirrorHeirs$Text" "length" "I" ∈ xTs := xt_2 7 rfl rfl
theorem xl_f_MirrorHeirs_Reader_9 : Cond.fieldLink "MirrorHeirs$Reader" 9 "MirrorHeirs$Reader" "bytes" "[I" ∈ xTs := xt_2 31 rfl rfl
theorem xl_f_MirrorHeirs_Rows_15 : Cond.fieldLink "MirrorHeirs$Rows" 15 "MirrorHeirs$Rows" "width" "I" ∈ xTs := xt_1 46 rfl rfl
theorem xl_f_MirrorHeirs_Rows_24 : Cond.fieldLink "MirrorHeirs$Rows" 24 "MirrorHeirs$Rows" "numbers" "[I" ∈ xTs := xt_1 45 rfl rfl
theorem xl_f_MirrorHeirs_Rows_28 : Cond.fieldLink "MirrorHeirs$Rows" 28 "MirrorHeirs$Rows" "size" "I" ∈ xTs := xt_1 48 rfl rfl
theorem xl_f_MirrorHeirs_Rows_9 : Cond.fieldLink "MirrorHeirs$Rows" 9 "MirrorHeirs$Rows" "most" "I" ∈ xTs := xt_1 47 rfl rfl
theorem xl_f_MirrorHeirs_Sets_100 : Cond.fieldLink "MirrorHeirs$Sets" 100 "MirrorHeirs$Hall" "heirs" "LMirrorHeirs$Rows;" ∈ xTs := xt_1 78 rfl rfl
theorem xl_f_MirrorHeirs_Sets_124 : Cond.fieldLink "MirrorHeirs$Sets" 124 "MirrorHeirs$Hall" "candles" "LMirrorHeirs$Rows;" ∈ xTs := xt_1 90 rfl rfl
theorem xl_f_MirrorHeirs_Sets_131 : Cond.fieldLink "MirrorHeirs$Sets" 131 "MirrorHeirs$Shares" "litThings" "I" ∈ xTs := xt_1 204 rfl rfl
theorem xl_f_MirrorHeirs_Sets_141 : Cond.fieldLink "MirrorHeirs$Sets" 141 "MirrorHeirs$Shares" "glimpses" "[J" ∈ xTs := xt_1 199 rfl rfl
theorem xl_f_MirrorHeirs_Sets_15 : Cond.fieldLink "MirrorHeirs$Sets" 15 "MirrorHeirs$Sets" "sight" "LMirrorHeirs$Sight;" ∈ xTs := xt_2 76 rfl rfl
theorem xl_f_MirrorHeirs_Sets_154 : Cond.fieldLink "MirrorHeirs$Sets" 154 "MirrorHeirs$Hall" "tellings" "LMirrorHeirs$Rows;" ∈ xTs := xt_1 93 rfl rfl
theorem xl_f_MirrorHeirs_Sets_19 : Cond.fieldLink "MirrorHeirs$Sets" 19 "MirrorHeirs$Sets" "shares" "LMirrorHeirs$Shares;" ∈ xTs := xt_2 77 rfl rfl
theorem xl_f_MirrorHeirs_Sets_23 : Cond.fieldLink "MirrorHeirs$Sets" 23 "MirrorHeirs$Sets" "glimpses" "[J" ∈ xTs := xt_2 78 rfl rfl
theorem xl_f_MirrorHeirs_Sets_27 : Cond.fieldLink "MirrorHeirs$Sets" 27 "MirrorHeirs$Sets" "lights" "[I" ∈ xTs := xt_2 79 rfl rfl
theorem xl_f_MirrorHeirs_Sets_31 : Cond.fieldLink "MirrorHeirs$Sets" 31 "MirrorHeirs$Sets" "estates" "[I" ∈ xTs := xt_2 80 rfl rfl
theorem xl_f_MirrorHeirs_Sets_34 : Cond.fieldLink "MirrorHeirs$Sets" 34 "MirrorHeirs$Sets" "traces" "[I" ∈ xTs := xt_2 81 rfl rfl
theorem xl_f_MirrorHeirs_Sets_37 : Cond.fieldLink "MirrorHeirs$Sets" 37 "MirrorHeirs$Sets" "fits" "[I" ∈ xTs := xt_2 82 rfl rfl
theorem xl_f_MirrorHeirs_Sets_40 : Cond.fieldLink "MirrorHeirs$Sets" 40 "MirrorHeirs$Sets" "passed" "[I" ∈ xTs := xt_2 83 rfl rfl
theorem xl_f_MirrorHeirs_Sets_43 : Cond.fieldLink "MirrorHeirs$Sets" 43 "MirrorHeirs$Sets" "ready" "Z" ∈ xTs := xt_2 84 rfl rfl
theorem xl_f_MirrorHeirs_Sets_47 : Cond.fieldLink "MirrorHeirs$Sets" 47 "MirrorHeirs$Sets" "turns" "I" ∈ xTs := xt_2 86 rfl rfl
theorem xl_f_MirrorHeirs_Sets_51 : Cond.fieldLink "MirrorHeirs$Sets" 51 "MirrorHeirs$Sets" "reached" "I" ∈ xTs := xt_2 88 rfl rfl
theorem xl_f_MirrorHeirs_Sets_54 : Cond.fieldLink "MirrorHeirs$Sets" 54 "MirrorHeirs$Sets" "steps" "I" ∈ xTs := xt_2 90 rfl rfl
theorem xl_f_MirrorHeirs_Sets_57 : Cond.fieldLink "MirrorHeirs$Sets" 57 "MirrorHeirs$Hall" "pivots" "LMirrorHeirs$Rows;" ∈ xTs := xt_1 72 rfl rfl
theorem xl_f_MirrorHeirs_Sets_63 : Cond.fieldLink "MirrorHeirs$Sets" 63 "MirrorHeirs$Rows" "size" "I" ∈ xTs := xt_1 50 rfl rfl
theorem xl_f_MirrorHeirs_Sets_78 : Cond.fieldLink "MirrorHeirs$Sets" 78 "MirrorHeirs$Text" "looks" "Z" ∈ xTs := xt_2 15 rfl rfl
theorem xl_f_MirrorHeirs_Sets_9 : Cond.fieldLink "MirrorHeirs$Sets" 9 "MirrorHeirs$Sets" "hall" "LMirrorHeirs$Hall;" ∈ xTs := xt_2 75 rfl rfl
theorem xl_f_MirrorHeirs_Shares_126 : Cond.fieldLink "MirrorHeirs$Shares" 126 "MirrorHeirs$Text" "lines" "LMirrorHeirs$Rows;" ∈ xTs := xt_2 4 rfl rfl
theorem xl_f_MirrorHeirs_Shares_15 : Cond.fieldLink "MirrorHeirs$Shares" 15 "MirrorHeirs$Shares" "sight" "LMirrorHeirs$Sight;" ∈ xTs := xt_1 196 rfl rfl
theorem xl_f_MirrorHeirs_Shares_24 : Cond.fieldLink "MirrorHeirs$Shares" 24 "MirrorHeirs$Shares" "slate" "LMirrorHeirs$Slate;" ∈ xTs := xt_1 197 rfl rfl
theorem xl_f_MirrorHeirs_Shares_28 : Cond.fieldLink "MirrorHeirs$Shares" 28 "MirrorHeirs$Shares" "glimpses" "[J" ∈ xTs := xt_1 198 rfl rfl
theorem xl_f_MirrorHeirs_Shares_32 : Cond.fieldLink "MirrorHeirs$Shares" 32 "MirrorHeirs$Shares" "claims" "[I" ∈ xTs := xt_1 200 rfl rfl
theorem xl_f_MirrorHeirs_Shares_36 : Cond.fieldLink "MirrorHeirs$Shares" 36 "MirrorHeirs$Shares" "totals" "[I" ∈ xTs := xt_1 201 rfl rfl
theorem xl_f_MirrorHeirs_Shares_39 : Cond.fieldLink "MirrorHeirs$Shares" 39 "MirrorHeirs$Shares" "estates" "[I" ∈ xTs := xt_1 202 rfl rfl
theorem xl_f_MirrorHeirs_Shares_42 : Cond.fieldLink "MirrorHeirs$Shares" 42 "MirrorHeirs$Shares" "litThings" "I" ∈ xTs := xt_1 203 rfl rfl
theorem xl_f_MirrorHeirs_Shares_46 : Cond.fieldLink "MirrorHeirs$Shares" 46 "MirrorHeirs$Rows" "size" "I" ∈ xTs := xt_1 49 rfl rfl
theorem xl_f_MirrorHeirs_Shares_65 : Cond.fieldLink "MirrorHeirs$Shares" 65 "MirrorHeirs$Hall" "things" "LMirrorHeirs$Rows;" ∈ xTs := xt_1 84 rfl rfl
theorem xl_f_MirrorHeirs_Shares_71 : Cond.fieldLink "MirrorHeirs$Shares" 71 "MirrorHeirs$Hall" "heirs" "LMirrorHeirs$Rows;" ∈ xTs := xt_1 80 rfl rfl
theorem xl_f_MirrorHeirs_Shares_88 : Cond.fieldLink "MirrorHeirs$Shares" 88 "MirrorHeirs$Hall" "pivots" "LMirrorHeirs$Rows;" ∈ xTs := xt_1 74 rfl rfl
theorem xl_f_MirrorHeirs_Shares_9 : Cond.fieldLink "MirrorHeirs$Shares" 9 "MirrorHeirs$Shares" "hall" "LMirrorHeirs$Hall;" ∈ xTs := xt_1 195 rfl rfl
theorem xl_f_MirrorHeirs_Shares_91 : Cond.fieldLink "MirrorHeirs$Shares" 91 "MirrorHeirs$Sight" "met" "J" ∈ xTs := xt_1 157 rfl rfl
theorem xl_f_MirrorHeirs_Sight_104 : Cond.fieldLink "MirrorHeirs$Sight" 104 "MirrorHeirs$Hall" "things" "LMirrorHeirs$Rows;" ∈ xTs := xt_1 86 rfl rfl
theorem xl_f_MirrorHeirs_Sight_108 : Cond.fieldLink "MirrorHeirs$Sight" 108 "MirrorHeirs$Rows" "size" "I" ∈ xTs := xt_1 55 rfl rfl
theorem xl_f_MirrorHeirs_Sight_126 : Cond.fieldLink "MirrorHeirs$Sight" 126 "MirrorHeirs$Text" "fogs" "Z" ∈ xTs := xt_2 10 rfl rfl
theorem xl_f_MirrorHeirs_Sight_131 : Cond.fieldLink "MirrorHeirs$Sight" 131 "MirrorHeirs$Text" "fogsByGlance" "Z" ∈ xTs := xt_2 12 rfl rfl
theorem xl_f_MirrorHeirs_Sight_137 : Cond.fieldLink "MirrorHeirs$Sight" 137 "MirrorHeirs$Text" "lines" "LMirrorHeirs$Rows;" ∈ xTs := xt_2 5 rfl rfl
