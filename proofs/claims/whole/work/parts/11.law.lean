/-! the law: each instruction of its table is one of its bytes -/
abbrev lw_pcs : List Nat := [0, 18, 236, 289, 322, 355, 373, 374, 395, 396, 404, 479, 512, 555, 588, 621, 654, 687, 710, 723, 746, 769, 792, 825, 858, 881, 904, 917, 930, 953, 976, 989, 1012, 1055, 1078, 1101, 1114, 1137, 1155, 1156, 1177, 1178, 1186, 1229, 1252, 1265, 1308, 1341, 1364, 1377, 1400, 1423, 1424, 1450, 1451, 1459, 1502, 1545, 1588, 1651, 1664, 1687, 1693, 18]
set_option maxRecDepth 100000 in
theorem ckl_0 : ck_L 16 0 lw_pcs true cL_law 0 bk_241_0 = true := by decide +kernel
set_option maxRecDepth 100000 in
theorem ckl_1 : ck_L 16 0 lw_pcs true cL_law 18 bk_241_1 = true := by decide +kernel
set_option maxRecDepth 100000 in
theorem ckl_2 : ck_L 16 0 lw_pcs true cL_law 236 bk_241_2 = true := by decide +kernel
set_option maxRecDepth 100000 in
theorem ckl_3 : ck_L 16 0 lw_pcs true cL_law 289 bk_241_3 = true := by decide +kernel
set_option maxRecDepth 100000 in
theorem ckl_4 : ck_L 16 0 lw_pcs true cL_law 322 bk_241_4 = true := by decide +kernel
set_option maxRecDepth 100000 in
theorem ckl_5 : ck_L 16 0 lw_pcs true cL_law 355 bk_241_5 = true := by decide +kernel
set_option maxRecDepth 100000 in
theorem ckl_6 : ck_L 16 0 lw_pcs true cL_law 373 bk_241_6 = true := by decide +kernel
set_option maxRecDepth 100000 in
theorem ckl_7 : ck_L 16 0 lw_pcs true cL_law 374 bk_241_7 = true := by decide +kernel
set_option maxRecDepth 100000 in
theorem ckl_8 : ck_L 16 0 lw_pcs true cL_law 395 bk_241_8 = true := by decide +kernel
set_option maxRecDepth 100000 in
theorem ckl_9 : ck_L 16 0 lw_pcs true cL_law 396 bk_241_9 = true := by decide +kernel
set_option maxRecDepth 100000 in
theorem ckl_10 : ck_L 16 0 lw_pcs true cL_law 404 bk_241_10 = true := by decide +kernel
set_option maxRecDepth 100000 in
theorem ckl_11 : ck_L 16 0 lw_pcs true cL_law 479 bk_241_11 = true := by decide +kernel
set_option maxRecDepth 100000 in
theorem ckl_12 : ck_L 16 0 lw_pcs true cL_law 512 bk_241_12 = true := by decide +kernel
set_option maxRecDepth 100000 in
theorem ckl_13 : ck_L 16 0 lw_pcs true cL_law 555 bk_241_13 = true := by decide +kernel
set_option maxRecDepth 100000 in
theorem ckl_14 : ck_L 16 0 lw_pcs true cL_law 588 bk_241_14 = true := by decide +kernel
set_option maxRecDepth 100000 in
theorem ckl_15 : ck_L 16 0 lw_pcs true cL_law 621 bk_241_15 = true := by decide +kernel
set_option maxRecDepth 100000 in
theorem ckl_16 : ck_L 16 0 lw_pcs true cL_law 654 bk_241_16 = true := by decide +kernel
set_option maxRecDepth 100000 in
theorem ckl_17 : ck_L 16 0 lw_pcs true cL_law 687 bk_241_17 = true := by decide +kernel
set_option maxRecDepth 100000 in
theorem ckl_18 : ck_L 16 0 lw_pcs true cL_law 710 bk_241_18 = true := by decide +kernel
set_option maxRecDepth 100000 in
theorem ckl_19 : ck_L 16 0 lw_pcs true cL_law 723 bk_241_19 = true := by decide +kernel
set_option maxRecDepth 100000 in
theorem ckl_20 : ck_L 16 0 lw_pcs true cL_law 746 bk_241_20 = true := by decide +kernel
set_option maxRecDepth 100000 in
theorem ckl_21 : ck_L 16 0 lw_pcs true cL_law 769 bk_241_21 = true := by decide +kernel
set_option maxRecDepth 100000 in
theorem ckl_22 : ck_L 16 0 lw_pcs true cL_law 792 bk_241_22 = true := by decide +kernel
set_option maxRecDepth 100000 in
theorem ckl_23 : ck_L 16 0 lw_pcs true cL_law 825 bk_241_23 = true := by decide +kernel
set_option maxRecDepth 100000 in
theorem ckl_24 : ck_L 16 0 lw_pcs true cL_law 858 bk_241_24 = true := by decide +kernel
set_option maxRecDepth 100000 in
theorem ckl_25 : ck_L 16 0 lw_pcs true cL_law 881 bk_241_25 = true := by decide +kernel
set_option maxRecDepth 100000 in
theorem ckl_26 : ck_L 16 0 lw_pcs true cL_law 904 bk_241_26 = true := by decide +kernel
set_option maxRecDepth 100000 in
theorem ckl_27 : ck_L 16 0 lw_pcs true cL_law 917 bk_241_27 = true := by decide +kernel
set_option maxRecDepth 100000 in
theorem ckl_28 : ck_L 16 0 lw_pcs true cL_law 930 bk_241_28 = true := by decide +kernel
set_option maxRecDepth 100000 in
theorem ckl_29 : ck_L 16 0 lw_pcs true cL_law 953 bk_241_29 = true := by decide +kernel
set_option maxRecDepth 100000 in
theorem ckl_30 : ck_L 16 0 lw_pcs true cL_law 976 bk_241_30 = true := by decide +kernel
set_option maxRecDepth 100000 in
theorem ckl_31 : ck_L 16 0 lw_pcs true cL_law 989 bk_241_31 = true := by decide +kernel
set_option maxRecDepth 100000 in
theorem ckl_32 : ck_L 16 0 lw_pcs true cL_law 1012 bk_241_32 = true := by decide +kernel
set_option maxRecDepth 100000 in
theorem ckl_33 : ck_L 16 0 lw_pcs true cL_law 1055 bk_241_33 = true := by decide +kernel
set_option maxRecDepth 100000 in
theorem ckl_34 : ck_L 16 0 lw_pcs true cL_law 1078 bk_241_34 = true := by decide +kernel
set_option maxRecDepth 100000 in
theorem ckl_35 : ck_L 16 0 lw_pcs true cL_law 1101 bk_241_35 = true := by decide +kernel
set_option maxRecDepth 100000 in
theorem ckl_36 : ck_L 16 0 lw_pcs true cL_law 1114 bk_241_36 = true := by decide +kernel
set_option maxRecDepth 100000 in
theorem ckl_37 : ck_L 16 0 lw_pcs true cL_law 1137 bk_241_37 = true := by decide +kernel
set_option maxRecDepth 100000 in
theorem ckl_38 : ck_L 16 0 lw_pcs true cL_law 1155 bk_241_38 = true := by decide +kernel
set_option maxRecDepth 100000 in
theorem ckl_39 : ck_L 16 0 lw_pcs true cL_law 1156 bk_241_39 = true := by decide +kernel
set_option maxRecDepth 100000 in
theorem ckl_40 : ck_L 16 0 lw_pcs true cL_law 1177 bk_241_40 = true := by decide +kernel
set_option maxRecDepth 100000 in
theorem ckl_41 : ck_L 16 0 lw_pcs true cL_law 1178 bk_241_41 = true := by decide +kernel
set_option maxRecDepth 100000 in
theorem ckl_42 : ck_L 16 0 lw_pcs true cL_law 1186 bk_241_42 = true := by decide +kernel
set_option maxRecDepth 100000 in
theorem ckl_43 : ck_L 16 0 lw_pcs true cL_law 1229 bk_241_43 = true := by decide +kernel
set_option maxRecDepth 100000 in
theorem ckl_44 : ck_L 16 0 lw_pcs true cL_law 1252 bk_241_44 = true := by decide +kernel
set_option maxRecDepth 100000 in
theorem ckl_45 : ck_L 16 0 lw_pcs true cL_law 1265 bk_241_45 = true := by decide +kernel
set_option maxRecDepth 100000 in
theorem ckl_46 : ck_L 16 0 lw_pcs true cL_law 1308 bk_241_46 = true := by decide +kernel
set_option maxRecDepth 100000 in
theorem ckl_47 : ck_L 16 0 lw_pcs true cL_law 1341 bk_241_47 = true := by decide +kernel
set_option maxRecDepth 100000 in
theorem ckl_48 : ck_L 16 0 lw_pcs true cL_law 1364 bk_241_48 = true := by decide +kernel
set_option maxRecDepth 100000 in
theorem ckl_49 : ck_L 16 0 lw_pcs true cL_law 1377 bk_241_49 = true := by decide +kernel
set_option maxRecDepth 100000 in
theorem ckl_50 : ck_L 16 0 lw_pcs true cL_law 1400 bk_241_50 = true := by decide +kernel
set_option maxRecDepth 100000 in
theorem ckl_51 : ck_L 16 0 lw_pcs true cL_law 1423 bk_241_51 = true := by decide +kernel
set_option maxRecDepth 100000 in
theorem ckl_52 : ck_L 16 0 lw_pcs true cL_law 1424 bk_241_52 = true := by decide +kernel
set_option maxRecDepth 100000 in
theorem ckl_53 : ck_L 16 0 lw_pcs true cL_law 1450 bk_241_53 = true := by decide +kernel
set_option maxRecDepth 100000 in
theorem ckl_54 : ck_L 16 0 lw_pcs true cL_law 1451 bk_241_54 = true := by decide +kernel
set_option maxRecDepth 100000 in
theorem ckl_55 : ck_L 16 0 lw_pcs true cL_law 1459 bk_241_55 = true := by decide +kernel
set_option maxRecDepth 100000 in
theorem ckl_56 : ck_L 16 0 lw_pcs true cL_law 1502 bk_241_56 = true := by decide +kernel
set_option maxRecDepth 100000 in
theorem ckl_57 : ck_L 16 0 lw_pcs true cL_law 1545 bk_241_57 = true := by decide +kernel
set_option maxRecDepth 100000 in
theorem ckl_58 : ck_L 16 0 lw_pcs true cL_law 1588 bk_241_58 = true := by decide +kernel
set_option maxRecDepth 100000 in
theorem ckl_59 : ck_L 16 0 lw_pcs true cL_law 1651 bk_241_59 = true := by decide +kernel
set_option maxRecDepth 100000 in
theorem ckl_60 : ck_L 16 0 lw_pcs true cL_law 1664 bk_241_60 = true := by decide +kernel
set_option maxRecDepth 100000 in
theorem ckl_61 : ck_L 16 0 lw_pcs true cL_law 1687 bk_241_61 = true := by decide +kernel
set_option maxRecDepth 100000 in
theorem ckl_62 : ck_L 16 0 lw_pcs true cL_law 1693 bk_241_62 = true := by decide +kernel
set_option maxRecDepth 100000 in
theorem ckl_63 : ck_L 16 0 lw_pcs true cL_law 18 bk_241_63 = true := by decide +kernel
theorem ck_za {f : Nat × List Instr → Bool} {a : Nat} {b : List Instr} {as : List Nat} {bs : List (List Instr)} (h : f (a, b) = true) (t : (List.zip as bs).all f = true) : (List.zip (a :: as) (b :: bs)).all f = true := by
  rw [List.zip_cons_cons, List.all_cons, h, t]; rfl
theorem ck_lawz : (List.zip lw_pcs bk_241).all (fun q => ck_L 16 0 lw_pcs true cL_law q.1 q.2) = true := ck_za ckl_0 (ck_za ckl_1 (ck_za ckl_2 (ck_za ckl_3 (ck_za ckl_4 (ck_za ckl_5 (ck_za ckl_6 (ck_za ckl_7 (ck_za ckl_8 (ck_za ckl_9 (ck_za ckl_10 (ck_za ckl_11 (ck_za ckl_12 (ck_za ckl_13 (ck_za ckl_14 (ck_za ckl_15 (ck_za ckl_16 (ck_za ckl_17 (ck_za ckl_18 (ck_za ckl_19 (ck_za ckl_20 (ck_za ckl_21 (ck_za ckl_22 (ck_za ckl_23 (ck_za ckl_24 (ck_za ckl_25 (ck_za ckl_26 (ck_za ckl_27 (ck_za ckl_28 (ck_za ckl_29 (ck_za ckl_30 (ck_za ckl_31 (ck_za ckl_32 (ck_za ckl_33 (ck_za ckl_34 (ck_za ckl_35 (ck_za ckl_36 (ck_za ckl_37 (ck_za ckl_38 (ck_za ckl_39 (ck_za ckl_40 (ck_za ckl_41 (ck_za ckl_42 (ck_za ckl_43 (ck_za ckl_44 (ck_za ckl_45 (ck_za ckl_46 (ck_za ckl_47 (ck_za ckl_48 (ck_za ckl_49 (ck_za ckl_50 (ck_za ckl_51 (ck_za ckl_52 (ck_za ckl_53 (ck_za ckl_54 (ck_za ckl_55 (ck_za ckl_56 (ck_za ckl_57 (ck_za ckl_58 (ck_za ckl_59 (ck_za ckl_60 (ck_za ckl_61 (ck_za ckl_62 (ck_za ckl_63 (rfl))))))))))))))))))))))))))))))))))))))))))))))))))))))))))))))))
set_option maxRecDepth 100000 in
theorem ck_law : ck_M 241 = true := by
  have e : ck_M 241 = (decide (bk_241.length = lw_pcs.length) && (decide (lw_pcs[0]? = some 0) && (List.zip lw_pcs bk_241).all (fun q => ck_L 16 0 lw_pcs true cL_law q.1 q.2))) := rfl
  rw [e, ck_lawz]
  decide +kernel
