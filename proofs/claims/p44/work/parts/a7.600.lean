/-! checked by the kernel, part 0 -/
set_option maxRecDepth 10000000 in
theorem ck_0 : ty_kok ty_h (ty_ex 0 6) 167 kc_0 = true := by decide +kernel
set_option maxRecDepth 10000000 in
theorem ck_1 : ty_kok ty_h (ty_ex 0 6) 167 kc_1 = true := by decide +kernel
set_option maxRecDepth 10000000 in
theorem ck_2 : ty_kok ty_h (ty_ex 0 6) 167 kc_2 = true := by decide +kernel
set_option maxRecDepth 10000000 in
theorem ck_3 : ty_kok ty_h (ty_ex 0 6) 167 kc_3 = true := by decide +kernel
set_option maxRecDepth 10000000 in
theorem ck_4 : ty_kok ty_h (ty_ex 0 6) 167 kc_4 = true := by decide +kernel
set_option maxRecDepth 10000000 in
theorem ck_5 : ty_kok ty_h (ty_ex 0 6) 167 kc_5 = true := by decide +kernel
set_option maxRecDepth 10000000 in
theorem ck_6 : ty_kok ty_h (ty_ex 0 6) 167 kc_6 = true := by decide +kernel
set_option maxRecDepth 10000000 in
theorem ck_7 : ty_kok ty_h (ty_ex 0 6) 167 kc_7 = true := by decide +kernel
set_option maxRecDepth 10000000 in
theorem ck_8 : ty_kok ty_h (ty_ex 0 6) 167 kc_8 = true := by decide +kernel
set_option maxRecDepth 10000000 in
theorem ck_9 : ty_kok ty_h (ty_ex 0 6) 167 kc_9 = true := by decide +kernel
set_option maxRecDepth 10000000 in
theorem ck_10 : ty_kok ty_h (ty_ex 0 6) 167 kc_10 = true := by decide +kernel
set_option maxRecDepth 10000000 in
theorem ck_11 : ty_kok ty_h (ty_ex 0 6) 167 kc_11 = true := by decide +kernel
set_option maxRecDepth 10000000 in
theorem ck_12 : ty_kok ty_h (ty_ex 0 6) 167 kc_12 = true := by decide +kernel
set_option maxRecDepth 10000000 in
theorem ck_13 : ty_kok ty_h (ty_ex 0 6) 167 kc_13 = true := by decide +kernel
set_option maxRecDepth 10000000 in
theorem ck_14 : ty_kok ty_h (ty_ex 0 6) 167 kc_14 = true := by decide +kernel
set_option maxRecDepth 10000000 in
theorem ck_15 : ty_kok ty_h (ty_ex 0 6) 167 kc_15 = true := by decide +kernel
set_option maxRecDepth 10000000 in
theorem ck_16 : ty_kok ty_h (ty_ex 0 6) 167 kc_16 = true := by decide +kernel
set_option maxRecDepth 10000000 in
theorem ck_17 : ty_kok ty_h (ty_ex 0 6) 167 kc_17 = true := by decide +kernel
set_option maxRecDepth 10000000 in
theorem ck_18 : ty_kok ty_h (ty_ex 0 6) 167 kc_18 = true := by decide +kernel
set_option maxRecDepth 10000000 in
theorem ck_19 : ty_kok ty_h (ty_ex 0 6) 167 kc_19 = true := by decide +kernel
set_option maxRecDepth 10000000 in
theorem ck_20 : ty_kok ty_h (ty_ex 0 6) 167 kc_20 = true := by decide +kernel
set_option maxRecDepth 10000000 in
theorem ck_21 : ty_kok ty_h (ty_ex 0 6) 167 kc_21 = true := by decide +kernel
set_option maxRecDepth 10000000 in
theorem ck_22 : ty_kok ty_h (ty_ex 0 6) 167 kc_22 = true := by decide +kernel
set_option maxRecDepth 10000000 in
theorem ck_23 : ty_kok ty_h (ty_ex 0 6) 167 kc_23 = true := by decide +kernel
set_option maxRecDepth 10000000 in
theorem ck_24 : ty_kok ty_h (ty_ex 0 6) 167 kc_24 = true := by decide +kernel
set_option maxRecDepth 10000000 in
theorem ck_25 : ty_kok ty_h (ty_ex 0 6) 167 kc_25 = true := by decide +kernel
set_option maxRecDepth 10000000 in
theorem ck_26 : ty_kok ty_h (ty_ex 0 6) 167 kc_26 = true := by decide +kernel
set_option maxRecDepth 10000000 in
theorem ck_27 : ty_kok ty_h (ty_ex 0 6) 167 kc_27 = true := by decide +kernel
set_option maxRecDepth 10000000 in
theorem ck_28 : ty_kok ty_h (ty_ex 0 6) 167 kc_28 = true := by decide +kernel
set_option maxRecDepth 10000000 in
theorem ck_29 : ty_kok ty_h (ty_ex 0 6) 167 kc_29 = true := by decide +kernel
set_option maxRecDepth 10000000 in
theorem ck_30 : ty_kok ty_h (ty_ex 0 6) 167 kc_30 = true := by decide +kernel
set_option maxRecDepth 10000000 in
theorem ck_31 : ty_kok ty_h (ty_ex 0 6) 167 kc_31 = true := by decide +kernel
set_option maxRecDepth 10000000 in
theorem ck_32 : ty_kok ty_h (ty_ex 0 6) 167 kc_32 = true := by decide +kernel
set_option maxRecDepth 10000000 in
theorem ck_33 : ty_kok ty_h (ty_ex 0 6) 167 kc_33 = true := by decide +kernel
set_option maxRecDepth 10000000 in
theorem ck_34 : ty_kok ty_h (ty_ex 0 6) 167 kc_34 = true := by decide +kernel
set_option maxRecDepth 10000000 in
theorem ck_35 : ty_kok ty_h (ty_ex 0 6) 167 kc_35 = true := by decide +kernel
set_option maxRecDepth 10000000 in
theorem ck_36 : ty_kok ty_h (ty_ex 0 6) 167 kc_36 = true := by decide +kernel
set_option maxRecDepth 10000000 in
theorem ck_37 : ty_kok ty_h (ty_ex 0 6) 167 kc_37 = true := by decide +kernel
set_option maxRecDepth 10000000 in
theorem ck_38 : ty_kok ty_h (ty_ex 0 6) 167 kc_38 = true := by decide +kernel
set_option maxRecDepth 10000000 in
theorem ck_39 : ty_kok ty_h (ty_ex 0 6) 167 kc_39 = true := by decide +kernel
set_option maxRecDepth 10000000 in
theorem ck_40 : ty_kok ty_h (ty_ex 0 6) 181 kc_40 = true := by decide +kernel
set_option maxRecDepth 10000000 in
theorem ck_41 : ty_kok ty_h (ty_ex 0 6) 181 kc_41 = true := by decide +kernel
set_option maxRecDepth 10000000 in
theorem ck_42 : ty_kok ty_h (ty_ex 0 6) 181 kc_42 = true := by decide +kernel
set_option maxRecDepth 10000000 in
theorem ck_43 : ty_kok ty_h (ty_ex 0 6) 181 kc_43 = true := by decide +kernel
set_option maxRecDepth 10000000 in
theorem ck_44 : ty_kok ty_h (ty_ex 0 6) 181 kc_44 = true := by decide +kernel
set_option maxRecDepth 10000000 in
theorem ck_45 : ty_kok ty_h (ty_ex 0 6) 181 kc_45 = true := by decide +kernel
set_option maxRecDepth 10000000 in
theorem ck_46 : ty_kok ty_h (ty_ex 0 6) 181 kc_46 = true := by decide +kernel
set_option maxRecDepth 10000000 in
theorem ck_47 : ty_kok ty_h (ty_ex 0 6) 181 kc_47 = true := by decide +kernel
set_option maxRecDepth 10000000 in
theorem ck_48 : ty_kok ty_h (ty_ex 0 6) 181 kc_48 = true := by decide +kernel
set_option maxRecDepth 10000000 in
theorem ck_49 : ty_kok ty_h (ty_ex 0 6) 181 kc_49 = true := by decide +kernel
set_option maxRecDepth 10000000 in
theorem ck_50 : ty_kok ty_h (ty_ex 0 6) 181 kc_50 = true := by decide +kernel
set_option maxRecDepth 10000000 in
theorem ck_51 : ty_kok ty_h (ty_ex 0 6) 181 kc_51 = true := by decide +kernel
set_option maxRecDepth 10000000 in
theorem ck_52 : ty_kok ty_h (ty_ex 0 6) 181 kc_52 = true := by decide +kernel
set_option maxRecDepth 10000000 in
theorem ck_53 : ty_kok ty_h (ty_ex 0 6) 181 kc_53 = true := by decide +kernel
set_option maxRecDepth 10000000 in
theorem ck_54 : ty_kok ty_h (ty_ex 0 6) 181 kc_54 = true := by decide +kernel
set_option maxRecDepth 10000000 in
theorem ck_55 : ty_kok ty_h (ty_ex 0 6) 181 kc_55 = true := by decide +kernel
set_option maxRecDepth 10000000 in
theorem ck_56 : ty_kok ty_h (ty_ex 0 6) 181 kc_56 = true := by decide +kernel
set_option maxRecDepth 10000000 in
theorem ck_57 : ty_kok ty_h (ty_ex 0 6) 181 kc_57 = true := by decide +kernel
set_option maxRecDepth 10000000 in
theorem ck_58 : ty_kok ty_h (ty_ex 0 6) 181 kc_58 = true := by decide +kernel
set_option maxRecDepth 10000000 in
theorem ck_59 : ty_kok ty_h (ty_ex 0 6) 181 kc_59 = true := by decide +kernel
