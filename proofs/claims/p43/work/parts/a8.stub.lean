section TYSTUB
variable {O : ix_O}
theorem ty_qk62 (hO : ty_hO O) : ty_QK ty_h (ix_tbl O) ty_cp 410 ty_pk62 := sorry
theorem tj_qk34 (hO : ty_hO O) : ty_QK ty_h (ix_tbl O) ty_cp 313 ty_pj34 := sorry
end TYSTUB
