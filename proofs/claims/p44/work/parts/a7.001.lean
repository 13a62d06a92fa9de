/-! the class: checked by the kernel, part 1 -/
set_option maxRecDepth 10000000 in
theorem cd_63 : ty_kok ty_h (ty_ej 24 9) 245 kd_63 = true := by decide +kernel
set_option maxRecDepth 10000000 in
theorem cd_64 : ty_kok ty_h (ty_ej 24 9) 266 kd_64 = true := by decide +kernel
set_option maxRecDepth 10000000 in
theorem cd_65 : ty_kok ty_h (ty_ej 25 9) 264 kd_65 = true := by decide +kernel
set_option maxRecDepth 10000000 in
theorem cd_66 : ty_kok ty_h (ty_ej 25 9) 267 kd_66 = true := by decide +kernel
set_option maxRecDepth 10000000 in
theorem cd_67 : ty_kok ty_h (ty_ej 26 9) 260 kd_67 = true := by decide +kernel
set_option maxRecDepth 10000000 in
theorem cd_68 : ty_kok ty_h (ty_ej 26 9) 261 kd_68 = true := by decide +kernel
set_option maxRecDepth 10000000 in
theorem cd_69 : ty_kok ty_h (ty_ej 27 9) 245 kd_69 = true := by decide +kernel
set_option maxRecDepth 10000000 in
theorem cd_70 : ty_kok ty_h (ty_ej 27 9) 266 kd_70 = true := by decide +kernel
set_option maxRecDepth 10000000 in
theorem cd_71 : ty_kok ty_h (ty_ej 28 9) 264 kd_71 = true := by decide +kernel
set_option maxRecDepth 10000000 in
theorem cd_72 : ty_kok ty_h (ty_ej 28 9) 267 kd_72 = true := by decide +kernel
set_option maxRecDepth 10000000 in
theorem cd_73 : ty_kok ty_h (ty_ej 29 9) 247 kd_73 = true := by decide +kernel
set_option maxRecDepth 10000000 in
theorem cd_74 : ty_kok ty_h (ty_ej 29 9) 258 kd_74 = true := by decide +kernel
set_option maxRecDepth 10000000 in
theorem cd_75 : ty_kok ty_h (ty_ej 29 9) 261 kd_75 = true := by decide +kernel
set_option maxRecDepth 10000000 in
theorem cd_76 : ty_kok ty_h (ty_ej 30 9) 245 kd_76 = true := by decide +kernel
set_option maxRecDepth 10000000 in
theorem cd_77 : ty_kok ty_h (ty_ej 31 9) 267 kd_77 = true := by decide +kernel
set_option maxRecDepth 10000000 in
theorem cd_78 : ty_kok ty_h (ty_ej 32 9) 249 kd_78 = true := by decide +kernel
set_option maxRecDepth 10000000 in
theorem cd_79 : ty_kok ty_h (ty_ej 34 11) 34 kd_79 = true := by decide +kernel
set_option maxRecDepth 10000000 in
theorem cd_80 : ty_kok ty_h (ty_ej 34 11) 35 kd_80 = true := by decide +kernel
set_option maxRecDepth 10000000 in
theorem cd_81 : ty_kok ty_h (ty_ej 34 11) 37 kd_81 = true := by decide +kernel
set_option maxRecDepth 10000000 in
theorem cd_82 : ty_kok ty_h (ty_ej 34 11) 38 kd_82 = true := by decide +kernel
set_option maxRecDepth 10000000 in
theorem cd_83 : ty_kok ty_h (ty_ej 34 11) 39 kd_83 = true := by decide +kernel
set_option maxRecDepth 10000000 in
theorem cd_84 : ty_kok ty_h (ty_ej 34 11) 42 kd_84 = true := by decide +kernel
set_option maxRecDepth 10000000 in
theorem cd_85 : ty_kok ty_h (ty_ej 34 11) 43 kd_85 = true := by decide +kernel
set_option maxRecDepth 10000000 in
theorem cd_86 : ty_kok ty_h (ty_ej 34 11) 44 kd_86 = true := by decide +kernel
set_option maxRecDepth 10000000 in
theorem cd_87 : ty_kok ty_h (ty_ej 34 11) 45 kd_87 = true := by decide +kernel
set_option maxRecDepth 10000000 in
theorem cd_88 : ty_kok ty_h (ty_ej 34 11) 46 kd_88 = true := by decide +kernel
set_option maxRecDepth 10000000 in
theorem cd_89 : ty_kok ty_h (ty_ej 34 11) 47 kd_89 = true := by decide +kernel
set_option maxRecDepth 10000000 in
theorem cd_90 : ty_kok ty_h (ty_ej 34 11) 48 kd_90 = true := by decide +kernel
set_option maxRecDepth 10000000 in
theorem cd_91 : ty_kok ty_h (ty_ej 34 11) 49 kd_91 = true := by decide +kernel
set_option maxRecDepth 10000000 in
theorem cd_92 : ty_kok ty_h (ty_ej 34 11) 50 kd_92 = true := by decide +kernel
set_option maxRecDepth 10000000 in
theorem cd_93 : ty_kok ty_h (ty_ej 34 11) 51 kd_93 = true := by decide +kernel
set_option maxRecDepth 10000000 in
theorem cd_94 : ty_kok ty_h (ty_ej 34 11) 54 kd_94 = true := by decide +kernel
set_option maxRecDepth 10000000 in
theorem cd_95 : ty_kok ty_h (ty_ej 34 11) 55 kd_95 = true := by decide +kernel
set_option maxRecDepth 10000000 in
theorem cd_96 : ty_kok ty_h (ty_ej 34 11) 56 kd_96 = true := by decide +kernel
set_option maxRecDepth 10000000 in
theorem cd_97 : ty_kok ty_h (ty_ej 34 11) 57 kd_97 = true := by decide +kernel
set_option maxRecDepth 10000000 in
theorem cd_98 : ty_kok ty_h (ty_ej 34 11) 58 kd_98 = true := by decide +kernel
set_option maxRecDepth 10000000 in
theorem cd_99 : ty_kok ty_h (ty_ej 34 11) 58 kd_99 = true := by decide +kernel
set_option maxRecDepth 10000000 in
theorem cd_100 : ty_kok ty_h (ty_ej 34 11) 58 kd_100 = true := by decide +kernel
set_option maxRecDepth 10000000 in
theorem cd_101 : ty_kok ty_h (ty_ej 34 11) 64 kd_101 = true := by decide +kernel
set_option maxRecDepth 10000000 in
theorem cd_102 : ty_kok ty_h (ty_ej 34 11) 65 kd_102 = true := by decide +kernel
set_option maxRecDepth 10000000 in
theorem cd_103 : ty_kok ty_h (ty_ej 34 11) 66 kd_103 = true := by decide +kernel
set_option maxRecDepth 10000000 in
theorem cd_104 : ty_kok ty_h (ty_ej 34 11) 67 kd_104 = true := by decide +kernel
set_option maxRecDepth 10000000 in
theorem cd_106 : ty_kok ty_h (ty_ej 34 11) 69 kd_106 = true := by decide +kernel
set_option maxRecDepth 10000000 in
theorem cd_107 : ty_kok ty_h (ty_ej 34 11) 70 kd_107 = true := by decide +kernel
set_option maxRecDepth 10000000 in
theorem cd_108 : ty_kok ty_h (ty_ej 34 11) 71 kd_108 = true := by decide +kernel
set_option maxRecDepth 10000000 in
theorem cd_109 : ty_kok ty_h (ty_ej 34 11) 73 kd_109 = true := by decide +kernel
set_option maxRecDepth 10000000 in
theorem cd_110 : ty_kok ty_h (ty_ej 34 11) 74 kd_110 = true := by decide +kernel
set_option maxRecDepth 10000000 in
theorem cd_111 : ty_kok ty_h (ty_ej 34 11) 75 kd_111 = true := by decide +kernel
set_option maxRecDepth 10000000 in
theorem cd_113 : ty_kok ty_h (ty_ej 34 11) 79 kd_113 = true := by decide +kernel
set_option maxRecDepth 10000000 in
theorem cd_114 : ty_kok ty_h (ty_ej 34 11) 80 kd_114 = true := by decide +kernel
set_option maxRecDepth 10000000 in
theorem cd_116 : ty_kok ty_h (ty_ej 34 11) 83 kd_116 = true := by decide +kernel
set_option maxRecDepth 10000000 in
theorem cd_117 : ty_kok ty_h (ty_ej 34 11) 85 kd_117 = true := by decide +kernel
set_option maxRecDepth 10000000 in
theorem cd_118 : ty_kok ty_h (ty_ej 34 11) 86 kd_118 = true := by decide +kernel
set_option maxRecDepth 10000000 in
theorem cd_119 : ty_kok ty_h (ty_ej 34 11) 87 kd_119 = true := by decide +kernel
set_option maxRecDepth 10000000 in
theorem cd_120 : ty_kok ty_h (ty_ej 34 11) 88 kd_120 = true := by decide +kernel
set_option maxRecDepth 10000000 in
theorem cd_121 : ty_kok ty_h (ty_ej 34 11) 89 kd_121 = true := by decide +kernel
set_option maxRecDepth 10000000 in
theorem cd_122 : ty_kok ty_h (ty_ej 34 11) 90 kd_122 = true := by decide +kernel
set_option maxRecDepth 10000000 in
theorem cd_123 : ty_kok ty_h (ty_ej 34 11) 91 kd_123 = true := by decide +kernel
set_option maxRecDepth 10000000 in
theorem cd_124 : ty_kok ty_h (ty_ej 34 11) 93 kd_124 = true := by decide +kernel
set_option maxRecDepth 10000000 in
theorem cd_125 : ty_kok ty_h (ty_ej 34 11) 94 kd_125 = true := by decide +kernel
