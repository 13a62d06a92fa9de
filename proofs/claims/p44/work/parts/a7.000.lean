/-! the class: checked by the kernel, part 0 -/
set_option maxRecDepth 10000000 in
theorem cd_0 : ty_kok ty_h (ty_ej 0 9) 22 kd_0 = true := by decide +kernel
set_option maxRecDepth 10000000 in
theorem cd_1 : ty_kok ty_h (ty_ej 0 9) 243 kd_1 = true := by decide +kernel
set_option maxRecDepth 10000000 in
theorem cd_2 : ty_kok ty_h (ty_ej 0 9) 250 kd_2 = true := by decide +kernel
set_option maxRecDepth 10000000 in
theorem cd_3 : ty_kok ty_h (ty_ej 0 9) 256 kd_3 = true := by decide +kernel
set_option maxRecDepth 10000000 in
theorem cd_4 : ty_kok ty_h (ty_ej 0 9) 259 kd_4 = true := by decide +kernel
set_option maxRecDepth 10000000 in
theorem cd_5 : ty_kok ty_h (ty_ej 0 9) 318 kd_5 = true := by decide +kernel
set_option maxRecDepth 10000000 in
theorem cd_6 : ty_kok ty_h (ty_ej 0 9) 326 kd_6 = true := by decide +kernel
set_option maxRecDepth 10000000 in
theorem cd_7 : ty_kok ty_h (ty_ej 0 9) 326 kd_7 = true := by decide +kernel
set_option maxRecDepth 10000000 in
theorem cd_8 : ty_kok ty_h (ty_ej 0 9) 327 kd_8 = true := by decide +kernel
set_option maxRecDepth 10000000 in
theorem cd_9 : ty_kok ty_h (ty_ej 0 9) 329 kd_9 = true := by decide +kernel
set_option maxRecDepth 10000000 in
theorem cd_10 : ty_kok ty_h (ty_ej 1 9) 21 kd_10 = true := by decide +kernel
set_option maxRecDepth 10000000 in
theorem cd_11 : ty_kok ty_h (ty_ej 1 9) 26 kd_11 = true := by decide +kernel
set_option maxRecDepth 10000000 in
theorem cd_12 : ty_kok ty_h (ty_ej 1 9) 268 kd_12 = true := by decide +kernel
set_option maxRecDepth 10000000 in
theorem cd_13 : ty_kok ty_h (ty_ej 1 9) 286 kd_13 = true := by decide +kernel
set_option maxRecDepth 10000000 in
theorem cd_14 : ty_kok ty_h (ty_ej 1 9) 294 kd_14 = true := by decide +kernel
set_option maxRecDepth 10000000 in
theorem cd_17 : ty_kok ty_h (ty_ej 2 9) 260 kd_17 = true := by decide +kernel
set_option maxRecDepth 10000000 in
theorem cd_18 : ty_kok ty_h (ty_ej 2 9) 301 kd_18 = true := by decide +kernel
set_option maxRecDepth 10000000 in
theorem cd_19 : ty_kok ty_h (ty_ej 3 9) 266 kd_19 = true := by decide +kernel
set_option maxRecDepth 10000000 in
theorem cd_20 : ty_kok ty_h (ty_ej 3 9) 281 kd_20 = true := by decide +kernel
set_option maxRecDepth 10000000 in
theorem cd_21 : ty_kok ty_h (ty_ej 3 9) 306 kd_21 = true := by decide +kernel
set_option maxRecDepth 10000000 in
theorem cd_22 : ty_kok ty_h (ty_ej 4 9) 20 kd_22 = true := by decide +kernel
set_option maxRecDepth 10000000 in
theorem cd_23 : ty_kok ty_h (ty_ej 4 9) 264 kd_23 = true := by decide +kernel
set_option maxRecDepth 10000000 in
theorem cd_25 : ty_kok ty_h (ty_ej 5 9) 260 kd_25 = true := by decide +kernel
set_option maxRecDepth 10000000 in
theorem cd_26 : ty_kok ty_h (ty_ej 5 9) 261 kd_26 = true := by decide +kernel
set_option maxRecDepth 10000000 in
theorem cd_27 : ty_kok ty_h (ty_ej 6 9) 245 kd_27 = true := by decide +kernel
set_option maxRecDepth 10000000 in
theorem cd_28 : ty_kok ty_h (ty_ej 6 9) 266 kd_28 = true := by decide +kernel
set_option maxRecDepth 10000000 in
theorem cd_29 : ty_kok ty_h (ty_ej 7 9) 264 kd_29 = true := by decide +kernel
set_option maxRecDepth 10000000 in
theorem cd_30 : ty_kok ty_h (ty_ej 7 9) 267 kd_30 = true := by decide +kernel
set_option maxRecDepth 10000000 in
theorem cd_31 : ty_kok ty_h (ty_ej 8 9) 260 kd_31 = true := by decide +kernel
set_option maxRecDepth 10000000 in
theorem cd_32 : ty_kok ty_h (ty_ej 8 9) 261 kd_32 = true := by decide +kernel
set_option maxRecDepth 10000000 in
theorem cd_33 : ty_kok ty_h (ty_ej 9 9) 245 kd_33 = true := by decide +kernel
set_option maxRecDepth 10000000 in
theorem cd_34 : ty_kok ty_h (ty_ej 9 9) 266 kd_34 = true := by decide +kernel
set_option maxRecDepth 10000000 in
theorem cd_35 : ty_kok ty_h (ty_ej 10 9) 264 kd_35 = true := by decide +kernel
set_option maxRecDepth 10000000 in
theorem cd_36 : ty_kok ty_h (ty_ej 10 9) 267 kd_36 = true := by decide +kernel
set_option maxRecDepth 10000000 in
theorem cd_37 : ty_kok ty_h (ty_ej 11 9) 260 kd_37 = true := by decide +kernel
set_option maxRecDepth 10000000 in
theorem cd_38 : ty_kok ty_h (ty_ej 11 9) 261 kd_38 = true := by decide +kernel
set_option maxRecDepth 10000000 in
theorem cd_39 : ty_kok ty_h (ty_ej 12 9) 245 kd_39 = true := by decide +kernel
set_option maxRecDepth 10000000 in
theorem cd_40 : ty_kok ty_h (ty_ej 12 9) 266 kd_40 = true := by decide +kernel
set_option maxRecDepth 10000000 in
theorem cd_41 : ty_kok ty_h (ty_ej 13 9) 264 kd_41 = true := by decide +kernel
set_option maxRecDepth 10000000 in
theorem cd_42 : ty_kok ty_h (ty_ej 13 9) 267 kd_42 = true := by decide +kernel
set_option maxRecDepth 10000000 in
theorem cd_43 : ty_kok ty_h (ty_ej 14 9) 260 kd_43 = true := by decide +kernel
set_option maxRecDepth 10000000 in
theorem cd_44 : ty_kok ty_h (ty_ej 14 9) 261 kd_44 = true := by decide +kernel
set_option maxRecDepth 10000000 in
theorem cd_45 : ty_kok ty_h (ty_ej 15 9) 245 kd_45 = true := by decide +kernel
set_option maxRecDepth 10000000 in
theorem cd_46 : ty_kok ty_h (ty_ej 15 9) 266 kd_46 = true := by decide +kernel
set_option maxRecDepth 10000000 in
theorem cd_47 : ty_kok ty_h (ty_ej 16 9) 264 kd_47 = true := by decide +kernel
set_option maxRecDepth 10000000 in
theorem cd_48 : ty_kok ty_h (ty_ej 16 9) 267 kd_48 = true := by decide +kernel
set_option maxRecDepth 10000000 in
theorem cd_49 : ty_kok ty_h (ty_ej 17 9) 260 kd_49 = true := by decide +kernel
set_option maxRecDepth 10000000 in
theorem cd_50 : ty_kok ty_h (ty_ej 17 9) 261 kd_50 = true := by decide +kernel
set_option maxRecDepth 10000000 in
theorem cd_51 : ty_kok ty_h (ty_ej 18 9) 245 kd_51 = true := by decide +kernel
set_option maxRecDepth 10000000 in
theorem cd_52 : ty_kok ty_h (ty_ej 18 9) 266 kd_52 = true := by decide +kernel
set_option maxRecDepth 10000000 in
theorem cd_53 : ty_kok ty_h (ty_ej 19 9) 264 kd_53 = true := by decide +kernel
set_option maxRecDepth 10000000 in
theorem cd_54 : ty_kok ty_h (ty_ej 19 9) 267 kd_54 = true := by decide +kernel
set_option maxRecDepth 10000000 in
theorem cd_55 : ty_kok ty_h (ty_ej 20 9) 260 kd_55 = true := by decide +kernel
set_option maxRecDepth 10000000 in
theorem cd_56 : ty_kok ty_h (ty_ej 20 9) 261 kd_56 = true := by decide +kernel
set_option maxRecDepth 10000000 in
theorem cd_57 : ty_kok ty_h (ty_ej 21 9) 245 kd_57 = true := by decide +kernel
set_option maxRecDepth 10000000 in
theorem cd_58 : ty_kok ty_h (ty_ej 21 9) 266 kd_58 = true := by decide +kernel
set_option maxRecDepth 10000000 in
theorem cd_59 : ty_kok ty_h (ty_ej 22 9) 264 kd_59 = true := by decide +kernel
set_option maxRecDepth 10000000 in
theorem cd_60 : ty_kok ty_h (ty_ej 22 9) 267 kd_60 = true := by decide +kernel
set_option maxRecDepth 10000000 in
theorem cd_61 : ty_kok ty_h (ty_ej 23 9) 260 kd_61 = true := by decide +kernel
set_option maxRecDepth 10000000 in
theorem cd_62 : ty_kok ty_h (ty_ej 23 9) 261 kd_62 = true := by decide +kernel
