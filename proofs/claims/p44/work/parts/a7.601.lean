/-! checked by the kernel, part 1 -/
set_option maxRecDepth 10000000 in
theorem ck_60 : ty_kok ty_h (ty_ex 0 6) 181 kc_60 = true := by decide +kernel
set_option maxRecDepth 10000000 in
theorem ck_61 : ty_kok ty_h (ty_ex 0 6) 181 kc_61 = true := by decide +kernel
set_option maxRecDepth 10000000 in
theorem ck_62 : ty_kok ty_h (ty_ex 0 6) 181 kc_62 = true := by decide +kernel
set_option maxRecDepth 10000000 in
theorem ck_63 : ty_kok ty_h (ty_ex 0 6) 181 kc_63 = true := by decide +kernel
set_option maxRecDepth 10000000 in
theorem ck_64 : ty_kok ty_h (ty_ex 0 6) 181 kc_64 = true := by decide +kernel
set_option maxRecDepth 10000000 in
theorem ck_65 : ty_kok ty_h (ty_ex 0 6) 181 kc_65 = true := by decide +kernel
set_option maxRecDepth 10000000 in
theorem ck_66 : ty_kok ty_h (ty_ex 0 6) 181 kc_66 = true := by decide +kernel
set_option maxRecDepth 10000000 in
theorem ck_67 : ty_kok ty_h (ty_ex 0 6) 181 kc_67 = true := by decide +kernel
set_option maxRecDepth 10000000 in
theorem ck_68 : ty_kok ty_h (ty_ex 0 6) 181 kc_68 = true := by decide +kernel
set_option maxRecDepth 10000000 in
theorem ck_69 : ty_kok ty_h (ty_ex 0 6) 181 kc_69 = true := by decide +kernel
set_option maxRecDepth 10000000 in
theorem ck_70 : ty_kok ty_h (ty_ex 0 6) 181 kc_70 = true := by decide +kernel
set_option maxRecDepth 10000000 in
theorem ck_71 : ty_kok ty_h (ty_ex 0 6) 181 kc_71 = true := by decide +kernel
set_option maxRecDepth 10000000 in
theorem ck_72 : ty_kok ty_h (ty_ex 0 6) 181 kc_72 = true := by decide +kernel
set_option maxRecDepth 10000000 in
theorem ck_73 : ty_kok ty_h (ty_ex 0 6) 181 kc_73 = true := by decide +kernel
set_option maxRecDepth 10000000 in
theorem ck_74 : ty_kok ty_h (ty_ex 0 6) 181 kc_74 = true := by decide +kernel
set_option maxRecDepth 10000000 in
theorem ck_75 : ty_kok ty_h (ty_ex 0 6) 181 kc_75 = true := by decide +kernel
set_option maxRecDepth 10000000 in
theorem ck_76 : ty_kok ty_h (ty_ex 0 6) 181 kc_76 = true := by decide +kernel
set_option maxRecDepth 10000000 in
theorem ck_77 : ty_kok ty_h (ty_ex 0 6) 181 kc_77 = true := by decide +kernel
set_option maxRecDepth 10000000 in
theorem ck_78 : ty_kok ty_h (ty_ex 0 6) 181 kc_78 = true := by decide +kernel
set_option maxRecDepth 10000000 in
theorem ck_79 : ty_kok ty_h (ty_ex 0 6) 181 kc_79 = true := by decide +kernel
set_option maxRecDepth 10000000 in
theorem ck_80 : ty_kok ty_h (ty_ex 0 6) 181 kc_80 = true := by decide +kernel
set_option maxRecDepth 10000000 in
theorem ck_81 : ty_kok ty_h (ty_ex 0 6) 181 kc_81 = true := by decide +kernel
set_option maxRecDepth 10000000 in
theorem ck_82 : ty_kok ty_h (ty_ex 1 6) 184 kc_82 = true := by decide +kernel
set_option maxRecDepth 10000000 in
theorem ck_83 : ty_kok ty_h (ty_ex 1 6) 184 kc_83 = true := by decide +kernel
set_option maxRecDepth 10000000 in
theorem ck_84 : ty_kok ty_h (ty_ex 1 6) 184 kc_84 = true := by decide +kernel
set_option maxRecDepth 10000000 in
theorem ck_85 : ty_kok ty_h (ty_ex 1 6) 184 kc_85 = true := by decide +kernel
set_option maxRecDepth 10000000 in
theorem ck_86 : ty_kok ty_h (ty_ex 1 6) 184 kc_86 = true := by decide +kernel
set_option maxRecDepth 10000000 in
theorem ck_87 : ty_kok ty_h (ty_ex 1 6) 184 kc_87 = true := by decide +kernel
set_option maxRecDepth 10000000 in
theorem ck_88 : ty_kok ty_h (ty_ex 1 6) 184 kc_88 = true := by decide +kernel
set_option maxRecDepth 10000000 in
theorem ck_89 : ty_kok ty_h (ty_ex 1 6) 184 kc_89 = true := by decide +kernel
set_option maxRecDepth 10000000 in
theorem ck_90 : ty_kok ty_h (ty_ex 1 6) 184 kc_90 = true := by decide +kernel
set_option maxRecDepth 10000000 in
theorem ck_91 : ty_kok ty_h (ty_ex 1 6) 184 kc_91 = true := by decide +kernel
set_option maxRecDepth 10000000 in
theorem ck_92 : ty_kok ty_h (ty_ex 1 6) 184 kc_92 = true := by decide +kernel
set_option maxRecDepth 10000000 in
theorem ck_93 : ty_kok ty_h (ty_ex 1 6) 184 kc_93 = true := by decide +kernel
set_option maxRecDepth 10000000 in
theorem ck_94 : ty_kok ty_h (ty_ex 1 6) 184 kc_94 = true := by decide +kernel
set_option maxRecDepth 10000000 in
theorem ck_95 : ty_kok ty_h (ty_ex 1 6) 184 kc_95 = true := by decide +kernel
set_option maxRecDepth 10000000 in
theorem ck_96 : ty_kok ty_h (ty_ex 1 6) 184 kc_96 = true := by decide +kernel
set_option maxRecDepth 10000000 in
theorem ck_97 : ty_kok ty_h (ty_ex 1 6) 184 kc_97 = true := by decide +kernel
set_option maxRecDepth 10000000 in
theorem ck_98 : ty_kok ty_h (ty_ex 1 6) 184 kc_98 = true := by decide +kernel
set_option maxRecDepth 10000000 in
theorem ck_99 : ty_kok ty_h (ty_ex 1 6) 184 kc_99 = true := by decide +kernel
set_option maxRecDepth 10000000 in
theorem ck_100 : ty_kok ty_h (ty_ex 1 6) 184 kc_100 = true := by decide +kernel
set_option maxRecDepth 10000000 in
theorem ck_101 : ty_kok ty_h (ty_ex 1 6) 184 kc_101 = true := by decide +kernel
set_option maxRecDepth 10000000 in
theorem ck_102 : ty_kok ty_h (ty_ex 1 6) 184 kc_102 = true := by decide +kernel
set_option maxRecDepth 10000000 in
theorem ck_103 : ty_kok ty_h (ty_ex 1 6) 184 kc_103 = true := by decide +kernel
set_option maxRecDepth 10000000 in
theorem ck_104 : ty_kok ty_h (ty_ex 1 6) 184 kc_104 = true := by decide +kernel
set_option maxRecDepth 10000000 in
theorem ck_105 : ty_kok ty_h (ty_ex 1 6) 184 kc_105 = true := by decide +kernel
set_option maxRecDepth 10000000 in
theorem ck_106 : ty_kok ty_h (ty_ex 1 6) 184 kc_106 = true := by decide +kernel
set_option maxRecDepth 10000000 in
theorem ck_107 : ty_kok ty_h (ty_ex 1 6) 184 kc_107 = true := by decide +kernel
set_option maxRecDepth 10000000 in
theorem ck_108 : ty_kok ty_h (ty_ex 1 6) 184 kc_108 = true := by decide +kernel
set_option maxRecDepth 10000000 in
theorem ck_109 : ty_kok ty_h (ty_ex 1 6) 184 kc_109 = true := by decide +kernel
set_option maxRecDepth 10000000 in
theorem ck_110 : ty_kok ty_h (ty_ex 1 6) 184 kc_110 = true := by decide +kernel
set_option maxRecDepth 10000000 in
theorem ck_111 : ty_kok ty_h (ty_ex 1 6) 184 kc_111 = true := by decide +kernel
set_option maxRecDepth 10000000 in
theorem ck_112 : ty_kok ty_h (ty_ex 1 6) 184 kc_112 = true := by decide +kernel
set_option maxRecDepth 10000000 in
theorem ck_113 : ty_kok ty_h (ty_ex 1 6) 184 kc_113 = true := by decide +kernel
set_option maxRecDepth 10000000 in
theorem ck_114 : ty_kok ty_h (ty_ex 1 6) 184 kc_114 = true := by decide +kernel
set_option maxRecDepth 10000000 in
theorem ck_115 : ty_kok ty_h (ty_ex 1 6) 184 kc_115 = true := by decide +kernel
set_option maxRecDepth 10000000 in
theorem ck_116 : ty_kok ty_h (ty_ex 1 6) 184 kc_116 = true := by decide +kernel
set_option maxRecDepth 10000000 in
theorem ck_117 : ty_kok ty_h (ty_ex 1 6) 184 kc_117 = true := by decide +kernel
set_option maxRecDepth 10000000 in
theorem ck_118 : ty_kok ty_h (ty_ex 1 6) 184 kc_118 = true := by decide +kernel
set_option maxRecDepth 10000000 in
theorem ck_119 : ty_kok ty_h (ty_ex 1 6) 184 kc_119 = true := by decide +kernel
