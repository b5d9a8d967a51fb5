/-! rows per cell, blocks unfolded (written by wip/whole/gen3.py) -/
section XA
variable {rt : Nat} {J : Nat → List ex_V → List ex_V → ex_H → Option ex_R} {C : Nat → List ex_V → ex_H → Option ex_R} {is : List Instr} {ls st : List ex_V} {L : Nat} {σ : ex_S}
theorem ld_1 {i : Int} (h0 : 0 ≤ i) (h1 : i < 4) : ex_xs rt J C (.iaload :: is) ls (vI i :: vR 1 :: st) (SH L, σ) = ex_xs rt J C is ls (vI (σ 1 i) :: st) (SH L, σ) := x_ald (n := 4) (sh_1 L) h0 h1
theorem ln_1 : ex_xs rt J C (.arraylength :: is) ls (vR 1 :: st) (SH L, σ) = ex_xs rt J C is ls (vI 4 :: st) (SH L, σ) := x_aln (n := 4) (sh_1 L)
theorem ld_2 {i : Int} (h0 : 0 ≤ i) (h1 : i < 6) : ex_xs rt J C (.iaload :: is) ls (vI i :: vR 2 :: st) (SH L, σ) = ex_xs rt J C is ls (vI (σ 2 i) :: st) (SH L, σ) := x_ald (n := 6) (sh_2 L) h0 h1
theorem ln_2 : ex_xs rt J C (.arraylength :: is) ls (vR 2 :: st) (SH L, σ) = ex_xs rt J C is ls (vI 6 :: st) (SH L, σ) := x_aln (n := 6) (sh_2 L)
theorem ld_3 {i : Int} (h0 : 0 ≤ i) (h1 : i < 6) : ex_xs rt J C (.iaload :: is) ls (vI i :: vR 3 :: st) (SH L, σ) = ex_xs rt J C is ls (vI (σ 3 i) :: st) (SH L, σ) := x_ald (n := 6) (sh_3 L) h0 h1
theorem ln_3 : ex_xs rt J C (.arraylength :: is) ls (vR 3 :: st) (SH L, σ) = ex_xs rt J C is ls (vI 6 :: st) (SH L, σ) := x_aln (n := 6) (sh_3 L)
theorem gf_4_0 : ex_xs rt J C (.getfield 352 :: is) ls (vR 4 :: st) (SH L, σ) = ex_xs rt J C is ls (vR 5 :: st) (SH L, σ) := x_getR (sh_4 L) (by decide) rfl rfl
theorem gf_4_1 : ex_xs rt J C (.getfield 353 :: is) ls (vR 4 :: st) (SH L, σ) = ex_xs rt J C is ls (vR 28 :: st) (SH L, σ) := x_getR (sh_4 L) (by decide) rfl rfl
theorem gf_4_2 : ex_xs rt J C (.getfield 354 :: is) ls (vR 4 :: st) (SH L, σ) = ex_xs rt J C is ls (vR 29 :: st) (SH L, σ) := x_getR (sh_4 L) (by decide) rfl rfl
theorem gf_4_3 : ex_xs rt J C (.getfield 355 :: is) ls (vR 4 :: st) (SH L, σ) = ex_xs rt J C is ls (vR 33 :: st) (SH L, σ) := x_getR (sh_4 L) (by decide) rfl rfl
theorem gf_4_4 : ex_xs rt J C (.getfield 356 :: is) ls (vR 4 :: st) (SH L, σ) = ex_xs rt J C is ls (vR 47 :: st) (SH L, σ) := x_getR (sh_4 L) (by decide) rfl rfl
theorem gf_4_5 : ex_xs rt J C (.getfield 357 :: is) ls (vR 4 :: st) (SH L, σ) = ex_xs rt J C is ls (vR 51 :: st) (SH L, σ) := x_getR (sh_4 L) (by decide) rfl rfl
theorem gf_4_6 : ex_xs rt J C (.getfield 358 :: is) ls (vR 4 :: st) (SH L, σ) = ex_xs rt J C is ls (vR 54 :: st) (SH L, σ) := x_getR (sh_4 L) (by decide) rfl rfl
theorem gf_4_7 : ex_xs rt J C (.getfield 359 :: is) ls (vR 4 :: st) (SH L, σ) = ex_xs rt J C is ls (vR 57 :: st) (SH L, σ) := x_getR (sh_4 L) (by decide) rfl rfl
theorem gf_4_8 : ex_xs rt J C (.getfield 360 :: is) ls (vR 4 :: st) (SH L, σ) = ex_xs rt J C is ls (vR 60 :: st) (SH L, σ) := x_getR (sh_4 L) (by decide) rfl rfl
theorem gf_4_9 : ex_xs rt J C (.getfield 361 :: is) ls (vR 4 :: st) (SH L, σ) = ex_xs rt J C is ls (vI (σ 4 9) :: st) (SH L, σ) := x_getI (k := 9) (sh_4 L) (by decide) rfl rfl rfl
theorem pf_4_9 {z : Int} : ex_xs rt J C (.putfield 361 :: is) ls (vI z :: vR 4 :: st) (SH L, σ) = ex_xs rt J C is ls st (SH L, ex_ar σ 4 (ex_u (σ 4) 9 z)) := x_putI (k := 9) (sh_4 L) (by decide) rfl rfl rfl
theorem gf_4_10 : ex_xs rt J C (.getfield 362 :: is) ls (vR 4 :: st) (SH L, σ) = ex_xs rt J C is ls (vI (σ 4 10) :: st) (SH L, σ) := x_getI (k := 10) (sh_4 L) (by decide) rfl rfl rfl
theorem pf_4_10 {z : Int} : ex_xs rt J C (.putfield 362 :: is) ls (vI z :: vR 4 :: st) (SH L, σ) = ex_xs rt J C is ls st (SH L, ex_ar σ 4 (ex_u (σ 4) 10 z)) := x_putI (k := 10) (sh_4 L) (by decide) rfl rfl rfl
theorem gf_4_11 : ex_xs rt J C (.getfield 363 :: is) ls (vR 4 :: st) (SH L, σ) = ex_xs rt J C is ls (vI (σ 4 11) :: st) (SH L, σ) := x_getI (k := 11) (sh_4 L) (by decide) rfl rfl rfl
theorem pf_4_11 {z : Int} : ex_xs rt J C (.putfield 363 :: is) ls (vI z :: vR 4 :: st) (SH L, σ) = ex_xs rt J C is ls st (SH L, ex_ar σ 4 (ex_u (σ 4) 11 z)) := x_putI (k := 11) (sh_4 L) (by decide) rfl rfl rfl
theorem gf_5_0 : ex_xs rt J C (.getfield 32 :: is) ls (vR 5 :: st) (SH L, σ) = ex_xs rt J C is ls (vR 6 :: st) (SH L, σ) := x_getR (sh_5 L) (by decide) rfl rfl
theorem gf_5_1 : ex_xs rt J C (.getfield 33 :: is) ls (vR 5 :: st) (SH L, σ) = ex_xs rt J C is ls (vR 18 :: st) (SH L, σ) := x_getR (sh_5 L) (by decide) rfl rfl
theorem gf_5_2 : ex_xs rt J C (.getfield 34 :: is) ls (vR 5 :: st) (SH L, σ) = ex_xs rt J C is ls (vR 21 :: st) (SH L, σ) := x_getR (sh_5 L) (by decide) rfl rfl
theorem gf_5_3 : ex_xs rt J C (.getfield 35 :: is) ls (vR 5 :: st) (SH L, σ) = ex_xs rt J C is ls (vR 25 :: st) (SH L, σ) := x_getR (sh_5 L) (by decide) rfl rfl
theorem gf_5_4 : ex_xs rt J C (.getfield 36 :: is) ls (vR 5 :: st) (SH L, σ) = ex_xs rt J C is ls (vR 26 :: st) (SH L, σ) := x_getR (sh_5 L) (by decide) rfl rfl
theorem gf_5_5 : ex_xs rt J C (.getfield 37 :: is) ls (vR 5 :: st) (SH L, σ) = ex_xs rt J C is ls (vR 27 :: st) (SH L, σ) := x_getR (sh_5 L) (by decide) rfl rfl
theorem gf_5_6 : ex_xs rt J C (.getfield 38 :: is) ls (vR 5 :: st) (SH L, σ) = ex_xs rt J C is ls (vI (σ 5 6) :: st) (SH L, σ) := x_getI (k := 6) (sh_5 L) (by decide) rfl rfl rfl
theorem pf_5_6 {z : Int} : ex_xs rt J C (.putfield 38 :: is) ls (vI z :: vR 5 :: st) (SH L, σ) = ex_xs rt J C is ls st (SH L, ex_ar σ 5 (ex_u (σ 5) 6 z)) := x_putI (k := 6) (sh_5 L) (by decide) rfl rfl rfl
theorem gf_5_7 : ex_xs rt J C (.getfield 39 :: is) ls (vR 5 :: st) (SH L, σ) = ex_xs rt J C is ls (vI (σ 5 7) :: st) (SH L, σ) := x_getI (k := 7) (sh_5 L) (by decide) rfl rfl rfl
theorem pf_5_7 {z : Int} : ex_xs rt J C (.putfield 39 :: is) ls (vI z :: vR 5 :: st) (SH L, σ) = ex_xs rt J C is ls st (SH L, ex_ar σ 5 (ex_u (σ 5) 7 z)) := x_putI (k := 7) (sh_5 L) (by decide) rfl rfl rfl
theorem gf_5_8 : ex_xs rt J C (.getfield 40 :: is) ls (vR 5 :: st) (SH L, σ) = ex_xs rt J C is ls (vI (σ 5 8) :: st) (SH L, σ) := x_getI (k := 8) (sh_5 L) (by decide) rfl rfl rfl
theorem pf_5_8 {z : Int} : ex_xs rt J C (.putfield 40 :: is) ls (vI z :: vR 5 :: st) (SH L, σ) = ex_xs rt J C is ls st (SH L, ex_ar σ 5 (ex_u (σ 5) 8 z)) := x_putI (k := 8) (sh_5 L) (by decide) rfl rfl rfl
theorem gf_5_9 : ex_xs rt J C (.getfield 41 :: is) ls (vR 5 :: st) (SH L, σ) = ex_xs rt J C is ls (vI (σ 5 9) :: st) (SH L, σ) := x_getI (k := 9) (sh_5 L) (by decide) rfl rfl rfl
theorem pf_5_9 {z : Int} : ex_xs rt J C (.putfield 41 :: is) ls (vI z :: vR 5 :: st) (SH L, σ) = ex_xs rt J C is ls st (SH L, ex_ar σ 5 (ex_u (σ 5) 9 z)) := x_putI (k := 9) (sh_5 L) (by decide) rfl rfl rfl
theorem gf_5_10 : ex_xs rt J C (.getfield 42 :: is) ls (vR 5 :: st) (SH L, σ) = ex_xs rt J C is ls (vI (σ 5 10) :: st) (SH L, σ) := x_getI (k := 10) (sh_5 L) (by decide) rfl rfl rfl
theorem pf_5_10 {z : Int} : ex_xs rt J C (.putfield 42 :: is) ls (vI z :: vR 5 :: st) (SH L, σ) = ex_xs rt J C is ls st (SH L, ex_ar σ 5 (ex_u (σ 5) 10 z)) := x_putI (k := 10) (sh_5 L) (by decide) rfl rfl rfl
theorem gf_5_11 : ex_xs rt J C (.getfield 43 :: is) ls (vR 5 :: st) (SH L, σ) = ex_xs rt J C is ls (vI (σ 5 11) :: st) (SH L, σ) := x_getI (k := 11) (sh_5 L) (by decide) rfl rfl rfl
theorem pf_5_11 {z : Int} : ex_xs rt J C (.putfield 43 :: is) ls (vI z :: vR 5 :: st) (SH L, σ) = ex_xs rt J C is ls st (SH L, ex_ar σ 5 (ex_u (σ 5) 11 z)) := x_putI (k := 11) (sh_5 L) (by decide) rfl rfl rfl
theorem gf_5_12 : ex_xs rt J C (.getfield 44 :: is) ls (vR 5 :: st) (SH L, σ) = ex_xs rt J C is ls (vI (σ 5 12) :: st) (SH L, σ) := x_getI (k := 12) (sh_5 L) (by decide) rfl rfl rfl
theorem pf_5_12 {z : Int} : ex_xs rt J C (.putfield 44 :: is) ls (vI z :: vR 5 :: st) (SH L, σ) = ex_xs rt J C is ls st (SH L, ex_ar σ 5 (ex_u (σ 5) 12 z)) := x_putI (k := 12) (sh_5 L) (by decide) rfl rfl rfl
theorem gf_6_0 : ex_xs rt J C (.getfield 64 :: is) ls (vR 6 :: st) (SH L, σ) = ex_xs rt J C is ls (vI (σ 6 0) :: st) (SH L, σ) := x_getI (k := 0) (sh_6 L) (by decide) rfl rfl rfl
theorem pf_6_0 {z : Int} : ex_xs rt J C (.putfield 64 :: is) ls (vI z :: vR 6 :: st) (SH L, σ) = ex_xs rt J C is ls st (SH L, ex_ar σ 6 (ex_u (σ 6) 0 z)) := x_putI (k := 0) (sh_6 L) (by decide) rfl rfl rfl
theorem gf_6_1 : ex_xs rt J C (.getfield 65 :: is) ls (vR 6 :: st) (SH L, σ) = ex_xs rt J C is ls (vI (σ 6 1) :: st) (SH L, σ) := x_getI (k := 1) (sh_6 L) (by decide) rfl rfl rfl
theorem pf_6_1 {z : Int} : ex_xs rt J C (.putfield 65 :: is) ls (vI z :: vR 6 :: st) (SH L, σ) = ex_xs rt J C is ls st (SH L, ex_ar σ 6 (ex_u (σ 6) 1 z)) := x_putI (k := 1) (sh_6 L) (by decide) rfl rfl rfl
theorem gf_6_2 : ex_xs rt J C (.getfield 66 :: is) ls (vR 6 :: st) (SH L, σ) = ex_xs rt J C is ls (vR 7 :: st) (SH L, σ) := x_getR (sh_6 L) (by decide) rfl rfl
theorem gf_6_3 : ex_xs rt J C (.getfield 67 :: is) ls (vR 6 :: st) (SH L, σ) = ex_xs rt J C is ls (vR 8 :: st) (SH L, σ) := x_getR (sh_6 L) (by decide) rfl rfl
theorem gf_6_4 : ex_xs rt J C (.getfield 68 :: is) ls (vR 6 :: st) (SH L, σ) = ex_xs rt J C is ls (vR 9 :: st) (SH L, σ) := x_getR (sh_6 L) (by decide) rfl rfl
theorem gf_6_5 : ex_xs rt J C (.getfield 69 :: is) ls (vR 6 :: st) (SH L, σ) = ex_xs rt J C is ls (vR 10 :: st) (SH L, σ) := x_getR (sh_6 L) (by decide) rfl rfl
theorem gf_6_6 : ex_xs rt J C (.getfield 70 :: is) ls (vR 6 :: st) (SH L, σ) = ex_xs rt J C is ls (vR 11 :: st) (SH L, σ) := x_getR (sh_6 L) (by decide) rfl rfl
theorem gf_6_7 : ex_xs rt J C (.getfield 71 :: is) ls (vR 6 :: st) (SH L, σ) = ex_xs rt J C is ls (vR 12 :: st) (SH L, σ) := x_getR (sh_6 L) (by decide) rfl rfl
theorem gf_6_8 : ex_xs rt J C (.getfield 72 :: is) ls (vR 6 :: st) (SH L, σ) = ex_xs rt J C is ls (vR 13 :: st) (SH L, σ) := x_getR (sh_6 L) (by decide) rfl rfl
theorem gf_6_9 : ex_xs rt J C (.getfield 73 :: is) ls (vR 6 :: st) (SH L, σ) = ex_xs rt J C is ls (vR 14 :: st) (SH L, σ) := x_getR (sh_6 L) (by decide) rfl rfl
theorem gf_6_10 : ex_xs rt J C (.getfield 74 :: is) ls (vR 6 :: st) (SH L, σ) = ex_xs rt J C is ls (vR 15 :: st) (SH L, σ) := x_getR (sh_6 L) (by decide) rfl rfl
theorem gf_6_11 : ex_xs rt J C (.getfield 75 :: is) ls (vR 6 :: st) (SH L, σ) = ex_xs rt J C is ls (vR 16 :: st) (SH L, σ) := x_getR (sh_6 L) (by decide) rfl rfl
theorem gf_6_12 : ex_xs rt J C (.getfield 76 :: is) ls (vR 6 :: st) (SH L, σ) = ex_xs rt J C is ls (vR 17 :: st) (SH L, σ) := x_getR (sh_6 L) (by decide) rfl rfl
theorem ld_7 {i : Int} (h0 : 0 ≤ i) (h1 : i < 5) : ex_xs rt J C (.iaload :: is) ls (vI i :: vR 7 :: st) (SH L, σ) = ex_xs rt J C is ls (vI (σ 7 i) :: st) (SH L, σ) := x_ald (n := 5) (sh_7 L) h0 h1
theorem ln_7 : ex_xs rt J C (.arraylength :: is) ls (vR 7 :: st) (SH L, σ) = ex_xs rt J C is ls (vI 5 :: st) (SH L, σ) := x_aln (n := 5) (sh_7 L)
theorem sd_7 {i z : Int} (h0 : 0 ≤ i) (h1 : i < 5) : ex_xs rt J C (.iastore :: is) ls (vI z :: vI i :: vR 7 :: st) (SH L, σ) = ex_xs rt J C is ls st (SH L, ex_ar σ 7 (ex_u (σ 7) i z)) := x_ast (n := 5) (sh_7 L) (by decide) h0 h1
theorem ld_8 {i : Int} (h0 : 0 ≤ i) (h1 : i < 5) : ex_xs rt J C (.iaload :: is) ls (vI i :: vR 8 :: st) (SH L, σ) = ex_xs rt J C is ls (vI (σ 8 i) :: st) (SH L, σ) := x_ald (n := 5) (sh_8 L) h0 h1
theorem ln_8 : ex_xs rt J C (.arraylength :: is) ls (vR 8 :: st) (SH L, σ) = ex_xs rt J C is ls (vI 5 :: st) (SH L, σ) := x_aln (n := 5) (sh_8 L)
theorem sd_8 {i z : Int} (h0 : 0 ≤ i) (h1 : i < 5) : ex_xs rt J C (.iastore :: is) ls (vI z :: vI i :: vR 8 :: st) (SH L, σ) = ex_xs rt J C is ls st (SH L, ex_ar σ 8 (ex_u (σ 8) i z)) := x_ast (n := 5) (sh_8 L) (by decide) h0 h1
theorem ld_9 {i : Int} (h0 : 0 ≤ i) (h1 : i < 5) : ex_xs rt J C (.iaload :: is) ls (vI i :: vR 9 :: st) (SH L, σ) = ex_xs rt J C is ls (vI (σ 9 i) :: st) (SH L, σ) := x_ald (n := 5) (sh_9 L) h0 h1
theorem ln_9 : ex_xs rt J C (.arraylength :: is) ls (vR 9 :: st) (SH L, σ) = ex_xs rt J C is ls (vI 5 :: st) (SH L, σ) := x_aln (n := 5) (sh_9 L)
theorem sd_9 {i z : Int} (h0 : 0 ≤ i) (h1 : i < 5) : ex_xs rt J C (.iastore :: is) ls (vI z :: vI i :: vR 9 :: st) (SH L, σ) = ex_xs rt J C is ls st (SH L, ex_ar σ 9 (ex_u (σ 9) i z)) := x_ast (n := 5) (sh_9 L) (by decide) h0 h1
theorem ld_10 {i : Int} (h0 : 0 ≤ i) (h1 : i < 5) : ex_xs rt J C (.iaload :: is) ls (vI i :: vR 10 :: st) (SH L, σ) = ex_xs rt J C is ls (vI (σ 10 i) :: st) (SH L, σ) := x_ald (n := 5) (sh_10 L) h0 h1
theorem ln_10 : ex_xs rt J C (.arraylength :: is) ls (vR 10 :: st) (SH L, σ) = ex_xs rt J C is ls (vI 5 :: st) (SH L, σ) := x_aln (n := 5) (sh_10 L)
theorem sd_10 {i z : Int} (h0 : 0 ≤ i) (h1 : i < 5) : ex_xs rt J C (.iastore :: is) ls (vI z :: vI i :: vR 10 :: st) (SH L, σ) = ex_xs rt J C is ls st (SH L, ex_ar σ 10 (ex_u (σ 10) i z)) := x_ast (n := 5) (sh_10 L) (by decide) h0 h1
theorem ld_11 {i : Int} (h0 : 0 ≤ i) (h1 : i < 5) : ex_xs rt J C (.iaload :: is) ls (vI i :: vR 11 :: st) (SH L, σ) = ex_xs rt J C is ls (vI (σ 11 i) :: st) (SH L, σ) := x_ald (n := 5) (sh_11 L) h0 h1
theorem ln_11 : ex_xs rt J C (.arraylength :: is) ls (vR 11 :: st) (SH L, σ) = ex_xs rt J C is ls (vI 5 :: st) (SH L, σ) := x_aln (n := 5) (sh_11 L)
theorem sd_11 {i z : Int} (h0 : 0 ≤ i) (h1 : i < 5) : ex_xs rt J C (.iastore :: is) ls (vI z :: vI i :: vR 11 :: st) (SH L, σ) = ex_xs rt J C is ls st (SH L, ex_ar σ 11 (ex_u (σ 11) i z)) := x_ast (n := 5) (sh_11 L) (by decide) h0 h1
theorem ld_12 {i : Int} (h0 : 0 ≤ i) (h1 : i < 5) : ex_xs rt J C (.iaload :: is) ls (vI i :: vR 12 :: st) (SH L, σ) = ex_xs rt J C is ls (vI (σ 12 i) :: st) (SH L, σ) := x_ald (n := 5) (sh_12 L) h0 h1
theorem ln_12 : ex_xs rt J C (.arraylength :: is) ls (vR 12 :: st) (SH L, σ) = ex_xs rt J C is ls (vI 5 :: st) (SH L, σ) := x_aln (n := 5) (sh_12 L)
theorem sd_12 {i z : Int} (h0 : 0 ≤ i) (h1 : i < 5) : ex_xs rt J C (.iastore :: is) ls (vI z :: vI i :: vR 12 :: st) (SH L, σ) = ex_xs rt J C is ls st (SH L, ex_ar σ 12 (ex_u (σ 12) i z)) := x_ast (n := 5) (sh_12 L) (by decide) h0 h1
theorem ld_13 {i : Int} (h0 : 0 ≤ i) (h1 : i < 5) : ex_xs rt J C (.iaload :: is) ls (vI i :: vR 13 :: st) (SH L, σ) = ex_xs rt J C is ls (vI (σ 13 i) :: st) (SH L, σ) := x_ald (n := 5) (sh_13 L) h0 h1
theorem ln_13 : ex_xs rt J C (.arraylength :: is) ls (vR 13 :: st) (SH L, σ) = ex_xs rt J C is ls (vI 5 :: st) (SH L, σ) := x_aln (n := 5) (sh_13 L)
theorem sd_13 {i z : Int} (h0 : 0 ≤ i) (h1 : i < 5) : ex_xs rt J C (.iastore :: is) ls (vI z :: vI i :: vR 13 :: st) (SH L, σ) = ex_xs rt J C is ls st (SH L, ex_ar σ 13 (ex_u (σ 13) i z)) := x_ast (n := 5) (sh_13 L) (by decide) h0 h1
theorem ld_14 {i : Int} (h0 : 0 ≤ i) (h1 : i < 5) : ex_xs rt J C (.iaload :: is) ls (vI i :: vR 14 :: st) (SH L, σ) = ex_xs rt J C is ls (vI (σ 14 i) :: st) (SH L, σ) := x_ald (n := 5) (sh_14 L) h0 h1
theorem ln_14 : ex_xs rt J C (.arraylength :: is) ls (vR 14 :: st) (SH L, σ) = ex_xs rt J C is ls (vI 5 :: st) (SH L, σ) := x_aln (n := 5) (sh_14 L)
theorem sd_14 {i z : Int} (h0 : 0 ≤ i) (h1 : i < 5) : ex_xs rt J C (.iastore :: is) ls (vI z :: vI i :: vR 14 :: st) (SH L, σ) = ex_xs rt J C is ls st (SH L, ex_ar σ 14 (ex_u (σ 14) i z)) := x_ast (n := 5) (sh_14 L) (by decide) h0 h1
theorem ld_15 {i : Int} (h0 : 0 ≤ i) (h1 : i < 40) : ex_xs rt J C (.iaload :: is) ls (vI i :: vR 15 :: st) (SH L, σ) = ex_xs rt J C is ls (vI (σ 15 i) :: st) (SH L, σ) := x_ald (n := 40) (sh_15 L) h0 h1
theorem ln_15 : ex_xs rt J C (.arraylength :: is) ls (vR 15 :: st) (SH L, σ) = ex_xs rt J C is ls (vI 40 :: st) (SH L, σ) := x_aln (n := 40) (sh_15 L)
theorem sd_15 {i z : Int} (h0 : 0 ≤ i) (h1 : i < 40) : ex_xs rt J C (.iastore :: is) ls (vI z :: vI i :: vR 15 :: st) (SH L, σ) = ex_xs rt J C is ls st (SH L, ex_ar σ 15 (ex_u (σ 15) i z)) := x_ast (n := 40) (sh_15 L) (by decide) h0 h1
theorem ld_16 {i : Int} (h0 : 0 ≤ i) (h1 : i < 48) : ex_xs rt J C (.iaload :: is) ls (vI i :: vR 16 :: st) (SH L, σ) = ex_xs rt J C is ls (vI (σ 16 i) :: st) (SH L, σ) := x_ald (n := 48) (sh_16 L) h0 h1
theorem ln_16 : ex_xs rt J C (.arraylength :: is) ls (vR 16 :: st) (SH L, σ) = ex_xs rt J C is ls (vI 48 :: st) (SH L, σ) := x_aln (n := 48) (sh_16 L)
theorem sd_16 {i z : Int} (h0 : 0 ≤ i) (h1 : i < 48) : ex_xs rt J C (.iastore :: is) ls (vI z :: vI i :: vR 16 :: st) (SH L, σ) = ex_xs rt J C is ls st (SH L, ex_ar σ 16 (ex_u (σ 16) i z)) := x_ast (n := 48) (sh_16 L) (by decide) h0 h1
theorem ld_17 {i : Int} (h0 : 0 ≤ i) (h1 : i < 8) : ex_xs rt J C (.iaload :: is) ls (vI i :: vR 17 :: st) (SH L, σ) = ex_xs rt J C is ls (vI (σ 17 i) :: st) (SH L, σ) := x_ald (n := 8) (sh_17 L) h0 h1
theorem ln_17 : ex_xs rt J C (.arraylength :: is) ls (vR 17 :: st) (SH L, σ) = ex_xs rt J C is ls (vI 8 :: st) (SH L, σ) := x_aln (n := 8) (sh_17 L)
theorem sd_17 {i z : Int} (h0 : 0 ≤ i) (h1 : i < 8) : ex_xs rt J C (.iastore :: is) ls (vI z :: vI i :: vR 17 :: st) (SH L, σ) = ex_xs rt J C is ls st (SH L, ex_ar σ 17 (ex_u (σ 17) i z)) := x_ast (n := 8) (sh_17 L) (by decide) h0 h1
theorem gf_18_0 : ex_xs rt J C (.getfield 128 :: is) ls (vR 18 :: st) (SH L, σ) = ex_xs rt J C is ls (vI (σ 18 0) :: st) (SH L, σ) := x_getI (k := 0) (sh_18 L) (by decide) rfl rfl rfl
theorem pf_18_0 {z : Int} : ex_xs rt J C (.putfield 128 :: is) ls (vI z :: vR 18 :: st) (SH L, σ) = ex_xs rt J C is ls st (SH L, ex_ar σ 18 (ex_u (σ 18) 0 z)) := x_putI (k := 0) (sh_18 L) (by decide) rfl rfl rfl
theorem gf_18_1 : ex_xs rt J C (.getfield 129 :: is) ls (vR 18 :: st) (SH L, σ) = ex_xs rt J C is ls (vR 19 :: st) (SH L, σ) := x_getR (sh_18 L) (by decide) rfl rfl
theorem gf_18_2 : ex_xs rt J C (.getfield 130 :: is) ls (vR 18 :: st) (SH L, σ) = ex_xs rt J C is ls (vR 20 :: st) (SH L, σ) := x_getR (sh_18 L) (by decide) rfl rfl
theorem ld_19 {i : Int} (h0 : 0 ≤ i) (h1 : i < 60) : ex_xs rt J C (.iaload :: is) ls (vI i :: vR 19 :: st) (SH L, σ) = ex_xs rt J C is ls (vI (σ 19 i) :: st) (SH L, σ) := x_ald (n := 60) (sh_19 L) h0 h1
theorem ln_19 : ex_xs rt J C (.arraylength :: is) ls (vR 19 :: st) (SH L, σ) = ex_xs rt J C is ls (vI 60 :: st) (SH L, σ) := x_aln (n := 60) (sh_19 L)
theorem sd_19 {i z : Int} (h0 : 0 ≤ i) (h1 : i < 60) : ex_xs rt J C (.iastore :: is) ls (vI z :: vI i :: vR 19 :: st) (SH L, σ) = ex_xs rt J C is ls st (SH L, ex_ar σ 19 (ex_u (σ 19) i z)) := x_ast (n := 60) (sh_19 L) (by decide) h0 h1
theorem ld_20 {i : Int} (h0 : 0 ≤ i) (h1 : i < 60) : ex_xs rt J C (.iaload :: is) ls (vI i :: vR 20 :: st) (SH L, σ) = ex_xs rt J C is ls (vI (σ 20 i) :: st) (SH L, σ) := x_ald (n := 60) (sh_20 L) h0 h1
theorem ln_20 : ex_xs rt J C (.arraylength :: is) ls (vR 20 :: st) (SH L, σ) = ex_xs rt J C is ls (vI 60 :: st) (SH L, σ) := x_aln (n := 60) (sh_20 L)
theorem sd_20 {i z : Int} (h0 : 0 ≤ i) (h1 : i < 60) : ex_xs rt J C (.iastore :: is) ls (vI z :: vI i :: vR 20 :: st) (SH L, σ) = ex_xs rt J C is ls st (SH L, ex_ar σ 20 (ex_u (σ 20) i z)) := x_ast (n := 60) (sh_20 L) (by decide) h0 h1
theorem gf_21_0 : ex_xs rt J C (.getfield 96 :: is) ls (vR 21 :: st) (SH L, σ) = ex_xs rt J C is ls (vI (σ 21 0) :: st) (SH L, σ) := x_getI (k := 0) (sh_21 L) (by decide) rfl rfl rfl
theorem pf_21_0 {z : Int} : ex_xs rt J C (.putfield 96 :: is) ls (vI z :: vR 21 :: st) (SH L, σ) = ex_xs rt J C is ls st (SH L, ex_ar σ 21 (ex_u (σ 21) 0 z)) := x_putI (k := 0) (sh_21 L) (by decide) rfl rfl rfl
theorem gf_21_1 : ex_xs rt J C (.getfield 97 :: is) ls (vR 21 :: st) (SH L, σ) = ex_xs rt J C is ls (vR 22 :: st) (SH L, σ) := x_getR (sh_21 L) (by decide) rfl rfl
theorem gf_21_2 : ex_xs rt J C (.getfield 98 :: is) ls (vR 21 :: st) (SH L, σ) = ex_xs rt J C is ls (vR 23 :: st) (SH L, σ) := x_getR (sh_21 L) (by decide) rfl rfl
theorem gf_21_3 : ex_xs rt J C (.getfield 99 :: is) ls (vR 21 :: st) (SH L, σ) = ex_xs rt J C is ls (vR 24 :: st) (SH L, σ) := x_getR (sh_21 L) (by decide) rfl rfl
theorem ld_22 {i : Int} (h0 : 0 ≤ i) (h1 : i < 30) : ex_xs rt J C (.iaload :: is) ls (vI i :: vR 22 :: st) (SH L, σ) = ex_xs rt J C is ls (vI (σ 22 i) :: st) (SH L, σ) := x_ald (n := 30) (sh_22 L) h0 h1
theorem ln_22 : ex_xs rt J C (.arraylength :: is) ls (vR 22 :: st) (SH L, σ) = ex_xs rt J C is ls (vI 30 :: st) (SH L, σ) := x_aln (n := 30) (sh_22 L)
theorem sd_22 {i z : Int} (h0 : 0 ≤ i) (h1 : i < 30) : ex_xs rt J C (.iastore :: is) ls (vI z :: vI i :: vR 22 :: st) (SH L, σ) = ex_xs rt J C is ls st (SH L, ex_ar σ 22 (ex_u (σ 22) i z)) := x_ast (n := 30) (sh_22 L) (by decide) h0 h1
theorem ld_23 {i : Int} (h0 : 0 ≤ i) (h1 : i < 30) : ex_xs rt J C (.iaload :: is) ls (vI i :: vR 23 :: st) (SH L, σ) = ex_xs rt J C is ls (vI (σ 23 i) :: st) (SH L, σ) := x_ald (n := 30) (sh_23 L) h0 h1
theorem ln_23 : ex_xs rt J C (.arraylength :: is) ls (vR 23 :: st) (SH L, σ) = ex_xs rt J C is ls (vI 30 :: st) (SH L, σ) := x_aln (n := 30) (sh_23 L)
theorem sd_23 {i z : Int} (h0 : 0 ≤ i) (h1 : i < 30) : ex_xs rt J C (.iastore :: is) ls (vI z :: vI i :: vR 23 :: st) (SH L, σ) = ex_xs rt J C is ls st (SH L, ex_ar σ 23 (ex_u (σ 23) i z)) := x_ast (n := 30) (sh_23 L) (by decide) h0 h1
theorem ld_24 {i : Int} (h0 : 0 ≤ i) (h1 : i < 30) : ex_xs rt J C (.iaload :: is) ls (vI i :: vR 24 :: st) (SH L, σ) = ex_xs rt J C is ls (vI (σ 24 i) :: st) (SH L, σ) := x_ald (n := 30) (sh_24 L) h0 h1
theorem ln_24 : ex_xs rt J C (.arraylength :: is) ls (vR 24 :: st) (SH L, σ) = ex_xs rt J C is ls (vI 30 :: st) (SH L, σ) := x_aln (n := 30) (sh_24 L)
theorem sd_24 {i z : Int} (h0 : 0 ≤ i) (h1 : i < 30) : ex_xs rt J C (.iastore :: is) ls (vI z :: vI i :: vR 24 :: st) (SH L, σ) = ex_xs rt J C is ls st (SH L, ex_ar σ 24 (ex_u (σ 24) i z)) := x_ast (n := 30) (sh_24 L) (by decide) h0 h1
theorem ld_25 {i : Int} (h0 : 0 ≤ i) (h1 : i < 25) : ex_xs rt J C (.iaload :: is) ls (vI i :: vR 25 :: st) (SH L, σ) = ex_xs rt J C is ls (vI (σ 25 i) :: st) (SH L, σ) := x_ald (n := 25) (sh_25 L) h0 h1
theorem ln_25 : ex_xs rt J C (.arraylength :: is) ls (vR 25 :: st) (SH L, σ) = ex_xs rt J C is ls (vI 25 :: st) (SH L, σ) := x_aln (n := 25) (sh_25 L)
theorem sd_25 {i z : Int} (h0 : 0 ≤ i) (h1 : i < 25) : ex_xs rt J C (.iastore :: is) ls (vI z :: vI i :: vR 25 :: st) (SH L, σ) = ex_xs rt J C is ls st (SH L, ex_ar σ 25 (ex_u (σ 25) i z)) := x_ast (n := 25) (sh_25 L) (by decide) h0 h1
theorem ld_26 {i : Int} (h0 : 0 ≤ i) (h1 : i < 16) : ex_xs rt J C (.iaload :: is) ls (vI i :: vR 26 :: st) (SH L, σ) = ex_xs rt J C is ls (vI (σ 26 i) :: st) (SH L, σ) := x_ald (n := 16) (sh_26 L) h0 h1
theorem ln_26 : ex_xs rt J C (.arraylength :: is) ls (vR 26 :: st) (SH L, σ) = ex_xs rt J C is ls (vI 16 :: st) (SH L, σ) := x_aln (n := 16) (sh_26 L)
theorem sd_26 {i z : Int} (h0 : 0 ≤ i) (h1 : i < 16) : ex_xs rt J C (.iastore :: is) ls (vI z :: vI i :: vR 26 :: st) (SH L, σ) = ex_xs rt J C is ls st (SH L, ex_ar σ 26 (ex_u (σ 26) i z)) := x_ast (n := 16) (sh_26 L) (by decide) h0 h1
theorem ld_27 {i : Int} (h0 : 0 ≤ i) (h1 : i < 7) : ex_xs rt J C (.iaload :: is) ls (vI i :: vR 27 :: st) (SH L, σ) = ex_xs rt J C is ls (vI (σ 27 i) :: st) (SH L, σ) := x_ald (n := 7) (sh_27 L) h0 h1
theorem ln_27 : ex_xs rt J C (.arraylength :: is) ls (vR 27 :: st) (SH L, σ) = ex_xs rt J C is ls (vI 7 :: st) (SH L, σ) := x_aln (n := 7) (sh_27 L)
theorem sd_27 {i z : Int} (h0 : 0 ≤ i) (h1 : i < 7) : ex_xs rt J C (.iastore :: is) ls (vI z :: vI i :: vR 27 :: st) (SH L, σ) = ex_xs rt J C is ls st (SH L, ex_ar σ 27 (ex_u (σ 27) i z)) := x_ast (n := 7) (sh_27 L) (by decide) h0 h1
theorem gf_29_0 : ex_xs rt J C (.getfield 288 :: is) ls (vR 29 :: st) (SH L, σ) = ex_xs rt J C is ls (vR 30 :: st) (SH L, σ) := x_getR (sh_29 L) (by decide) rfl rfl
theorem gf_29_1 : ex_xs rt J C (.getfield 289 :: is) ls (vR 29 :: st) (SH L, σ) = ex_xs rt J C is ls (vR 31 :: st) (SH L, σ) := x_getR (sh_29 L) (by decide) rfl rfl
theorem gf_29_2 : ex_xs rt J C (.getfield 290 :: is) ls (vR 29 :: st) (SH L, σ) = ex_xs rt J C is ls (vR 32 :: st) (SH L, σ) := x_getR (sh_29 L) (by decide) rfl rfl
theorem ld_30 {i : Int} (h0 : 0 ≤ i) (h1 : i < 4) : ex_xs rt J C (.iaload :: is) ls (vI i :: vR 30 :: st) (SH L, σ) = ex_xs rt J C is ls (vI (σ 30 i) :: st) (SH L, σ) := x_ald (n := 4) (sh_30 L) h0 h1
theorem ln_30 : ex_xs rt J C (.arraylength :: is) ls (vR 30 :: st) (SH L, σ) = ex_xs rt J C is ls (vI 4 :: st) (SH L, σ) := x_aln (n := 4) (sh_30 L)
theorem sd_30 {i z : Int} (h0 : 0 ≤ i) (h1 : i < 4) : ex_xs rt J C (.iastore :: is) ls (vI z :: vI i :: vR 30 :: st) (SH L, σ) = ex_xs rt J C is ls st (SH L, ex_ar σ 30 (ex_u (σ 30) i z)) := x_ast (n := 4) (sh_30 L) (by decide) h0 h1
theorem ld_31 {i : Int} (h0 : 0 ≤ i) (h1 : i < 4) : ex_xs rt J C (.iaload :: is) ls (vI i :: vR 31 :: st) (SH L, σ) = ex_xs rt J C is ls (vI (σ 31 i) :: st) (SH L, σ) := x_ald (n := 4) (sh_31 L) h0 h1
theorem ln_31 : ex_xs rt J C (.arraylength :: is) ls (vR 31 :: st) (SH L, σ) = ex_xs rt J C is ls (vI 4 :: st) (SH L, σ) := x_aln (n := 4) (sh_31 L)
theorem sd_31 {i z : Int} (h0 : 0 ≤ i) (h1 : i < 4) : ex_xs rt J C (.iastore :: is) ls (vI z :: vI i :: vR 31 :: st) (SH L, σ) = ex_xs rt J C is ls st (SH L, ex_ar σ 31 (ex_u (σ 31) i z)) := x_ast (n := 4) (sh_31 L) (by decide) h0 h1
theorem ld_32 {i : Int} (h0 : 0 ≤ i) (h1 : i < 80) : ex_xs rt J C (.iaload :: is) ls (vI i :: vR 32 :: st) (SH L, σ) = ex_xs rt J C is ls (vI (σ 32 i) :: st) (SH L, σ) := x_ald (n := 80) (sh_32 L) h0 h1
theorem ln_32 : ex_xs rt J C (.arraylength :: is) ls (vR 32 :: st) (SH L, σ) = ex_xs rt J C is ls (vI 80 :: st) (SH L, σ) := x_aln (n := 80) (sh_32 L)
theorem sd_32 {i z : Int} (h0 : 0 ≤ i) (h1 : i < 80) : ex_xs rt J C (.iastore :: is) ls (vI z :: vI i :: vR 32 :: st) (SH L, σ) = ex_xs rt J C is ls st (SH L, ex_ar σ 32 (ex_u (σ 32) i z)) := x_ast (n := 80) (sh_32 L) (by decide) h0 h1
theorem gf_33_0 : ex_xs rt J C (.getfield 320 :: is) ls (vR 33 :: st) (SH L, σ) = ex_xs rt J C is ls (vR 34 :: st) (SH L, σ) := x_getR (sh_33 L) (by decide) rfl rfl
theorem gf_33_1 : ex_xs rt J C (.getfield 321 :: is) ls (vR 33 :: st) (SH L, σ) = ex_xs rt J C is ls (vR 35 :: st) (SH L, σ) := x_getR (sh_33 L) (by decide) rfl rfl
theorem gf_33_2 : ex_xs rt J C (.getfield 322 :: is) ls (vR 33 :: st) (SH L, σ) = ex_xs rt J C is ls (vI (σ 33 2) :: st) (SH L, σ) := x_getI (k := 2) (sh_33 L) (by decide) rfl rfl rfl
theorem pf_33_2 {z : Int} : ex_xs rt J C (.putfield 322 :: is) ls (vI z :: vR 33 :: st) (SH L, σ) = ex_xs rt J C is ls st (SH L, ex_ar σ 33 (ex_u (σ 33) 2 z)) := x_putI (k := 2) (sh_33 L) (by decide) rfl rfl rfl
theorem ld_34 {i : Int} (h0 : 0 ≤ i) (h1 : i < 3) : ex_xs rt J C (.iaload :: is) ls (vI i :: vR 34 :: st) (SH L, σ) = ex_xs rt J C is ls (vI (σ 34 i) :: st) (SH L, σ) := x_ald (n := 3) (sh_34 L) h0 h1
theorem ln_34 : ex_xs rt J C (.arraylength :: is) ls (vR 34 :: st) (SH L, σ) = ex_xs rt J C is ls (vI 3 :: st) (SH L, σ) := x_aln (n := 3) (sh_34 L)
theorem sd_34 {i z : Int} (h0 : 0 ≤ i) (h1 : i < 3) : ex_xs rt J C (.iastore :: is) ls (vI z :: vI i :: vR 34 :: st) (SH L, σ) = ex_xs rt J C is ls st (SH L, ex_ar σ 34 (ex_u (σ 34) i z)) := x_ast (n := 3) (sh_34 L) (by decide) h0 h1
theorem gf_35_0 : ex_xs rt J C (.getfield 64 :: is) ls (vR 35 :: st) (SH L, σ) = ex_xs rt J C is ls (vI (σ 35 0) :: st) (SH L, σ) := x_getI (k := 0) (sh_35 L) (by decide) rfl rfl rfl
theorem pf_35_0 {z : Int} : ex_xs rt J C (.putfield 64 :: is) ls (vI z :: vR 35 :: st) (SH L, σ) = ex_xs rt J C is ls st (SH L, ex_ar σ 35 (ex_u (σ 35) 0 z)) := x_putI (k := 0) (sh_35 L) (by decide) rfl rfl rfl
theorem gf_35_1 : ex_xs rt J C (.getfield 65 :: is) ls (vR 35 :: st) (SH L, σ) = ex_xs rt J C is ls (vI (σ 35 1) :: st) (SH L, σ) := x_getI (k := 1) (sh_35 L) (by decide) rfl rfl rfl
theorem pf_35_1 {z : Int} : ex_xs rt J C (.putfield 65 :: is) ls (vI z :: vR 35 :: st) (SH L, σ) = ex_xs rt J C is ls st (SH L, ex_ar σ 35 (ex_u (σ 35) 1 z)) := x_putI (k := 1) (sh_35 L) (by decide) rfl rfl rfl
theorem gf_35_2 : ex_xs rt J C (.getfield 66 :: is) ls (vR 35 :: st) (SH L, σ) = ex_xs rt J C is ls (vR 36 :: st) (SH L, σ) := x_getR (sh_35 L) (by decide) rfl rfl
theorem gf_35_3 : ex_xs rt J C (.getfield 67 :: is) ls (vR 35 :: st) (SH L, σ) = ex_xs rt J C is ls (vR 37 :: st) (SH L, σ) := x_getR (sh_35 L) (by decide) rfl rfl
theorem gf_35_4 : ex_xs rt J C (.getfield 68 :: is) ls (vR 35 :: st) (SH L, σ) = ex_xs rt J C is ls (vR 38 :: st) (SH L, σ) := x_getR (sh_35 L) (by decide) rfl rfl
theorem gf_35_5 : ex_xs rt J C (.getfield 69 :: is) ls (vR 35 :: st) (SH L, σ) = ex_xs rt J C is ls (vR 39 :: st) (SH L, σ) := x_getR (sh_35 L) (by decide) rfl rfl
theorem gf_35_6 : ex_xs rt J C (.getfield 70 :: is) ls (vR 35 :: st) (SH L, σ) = ex_xs rt J C is ls (vR 40 :: st) (SH L, σ) := x_getR (sh_35 L) (by decide) rfl rfl
theorem gf_35_7 : ex_xs rt J C (.getfield 71 :: is) ls (vR 35 :: st) (SH L, σ) = ex_xs rt J C is ls (vR 41 :: st) (SH L, σ) := x_getR (sh_35 L) (by decide) rfl rfl
theorem gf_35_8 : ex_xs rt J C (.getfield 72 :: is) ls (vR 35 :: st) (SH L, σ) = ex_xs rt J C is ls (vR 42 :: st) (SH L, σ) := x_getR (sh_35 L) (by decide) rfl rfl
theorem gf_35_9 : ex_xs rt J C (.getfield 73 :: is) ls (vR 35 :: st) (SH L, σ) = ex_xs rt J C is ls (vR 43 :: st) (SH L, σ) := x_getR (sh_35 L) (by decide) rfl rfl
theorem gf_35_10 : ex_xs rt J C (.getfield 74 :: is) ls (vR 35 :: st) (SH L, σ) = ex_xs rt J C is ls (vR 44 :: st) (SH L, σ) := x_getR (sh_35 L) (by decide) rfl rfl
theorem gf_35_11 : ex_xs rt J C (.getfield 75 :: is) ls (vR 35 :: st) (SH L, σ) = ex_xs rt J C is ls (vR 45 :: st) (SH L, σ) := x_getR (sh_35 L) (by decide) rfl rfl
theorem gf_35_12 : ex_xs rt J C (.getfield 76 :: is) ls (vR 35 :: st) (SH L, σ) = ex_xs rt J C is ls (vR 46 :: st) (SH L, σ) := x_getR (sh_35 L) (by decide) rfl rfl
theorem ld_36 {i : Int} (h0 : 0 ≤ i) (h1 : i < 5) : ex_xs rt J C (.iaload :: is) ls (vI i :: vR 36 :: st) (SH L, σ) = ex_xs rt J C is ls (vI (σ 36 i) :: st) (SH L, σ) := x_ald (n := 5) (sh_36 L) h0 h1
theorem ln_36 : ex_xs rt J C (.arraylength :: is) ls (vR 36 :: st) (SH L, σ) = ex_xs rt J C is ls (vI 5 :: st) (SH L, σ) := x_aln (n := 5) (sh_36 L)
theorem sd_36 {i z : Int} (h0 : 0 ≤ i) (h1 : i < 5) : ex_xs rt J C (.iastore :: is) ls (vI z :: vI i :: vR 36 :: st) (SH L, σ) = ex_xs rt J C is ls st (SH L, ex_ar σ 36 (ex_u (σ 36) i z)) := x_ast (n := 5) (sh_36 L) (by decide) h0 h1
theorem ld_37 {i : Int} (h0 : 0 ≤ i) (h1 : i < 5) : ex_xs rt J C (.iaload :: is) ls (vI i :: vR 37 :: st) (SH L, σ) = ex_xs rt J C is ls (vI (σ 37 i) :: st) (SH L, σ) := x_ald (n := 5) (sh_37 L) h0 h1
theorem ln_37 : ex_xs rt J C (.arraylength :: is) ls (vR 37 :: st) (SH L, σ) = ex_xs rt J C is ls (vI 5 :: st) (SH L, σ) := x_aln (n := 5) (sh_37 L)
theorem sd_37 {i z : Int} (h0 : 0 ≤ i) (h1 : i < 5) : ex_xs rt J C (.iastore :: is) ls (vI z :: vI i :: vR 37 :: st) (SH L, σ) = ex_xs rt J C is ls st (SH L, ex_ar σ 37 (ex_u (σ 37) i z)) := x_ast (n := 5) (sh_37 L) (by decide) h0 h1
theorem ld_38 {i : Int} (h0 : 0 ≤ i) (h1 : i < 5) : ex_xs rt J C (.iaload :: is) ls (vI i :: vR 38 :: st) (SH L, σ) = ex_xs rt J C is ls (vI (σ 38 i) :: st) (SH L, σ) := x_ald (n := 5) (sh_38 L) h0 h1
theorem ln_38 : ex_xs rt J C (.arraylength :: is) ls (vR 38 :: st) (SH L, σ) = ex_xs rt J C is ls (vI 5 :: st) (SH L, σ) := x_aln (n := 5) (sh_38 L)
theorem sd_38 {i z : Int} (h0 : 0 ≤ i) (h1 : i < 5) : ex_xs rt J C (.iastore :: is) ls (vI z :: vI i :: vR 38 :: st) (SH L, σ) = ex_xs rt J C is ls st (SH L, ex_ar σ 38 (ex_u (σ 38) i z)) := x_ast (n := 5) (sh_38 L) (by decide) h0 h1
theorem ld_39 {i : Int} (h0 : 0 ≤ i) (h1 : i < 5) : ex_xs rt J C (.iaload :: is) ls (vI i :: vR 39 :: st) (SH L, σ) = ex_xs rt J C is ls (vI (σ 39 i) :: st) (SH L, σ) := x_ald (n := 5) (sh_39 L) h0 h1
theorem ln_39 : ex_xs rt J C (.arraylength :: is) ls (vR 39 :: st) (SH L, σ) = ex_xs rt J C is ls (vI 5 :: st) (SH L, σ) := x_aln (n := 5) (sh_39 L)
theorem sd_39 {i z : Int} (h0 : 0 ≤ i) (h1 : i < 5) : ex_xs rt J C (.iastore :: is) ls (vI z :: vI i :: vR 39 :: st) (SH L, σ) = ex_xs rt J C is ls st (SH L, ex_ar σ 39 (ex_u (σ 39) i z)) := x_ast (n := 5) (sh_39 L) (by decide) h0 h1
theorem ld_40 {i : Int} (h0 : 0 ≤ i) (h1 : i < 5) : ex_xs rt J C (.iaload :: is) ls (vI i :: vR 40 :: st) (SH L, σ) = ex_xs rt J C is ls (vI (σ 40 i) :: st) (SH L, σ) := x_ald (n := 5) (sh_40 L) h0 h1
theorem ln_40 : ex_xs rt J C (.arraylength :: is) ls (vR 40 :: st) (SH L, σ) = ex_xs rt J C is ls (vI 5 :: st) (SH L, σ) := x_aln (n := 5) (sh_40 L)
theorem sd_40 {i z : Int} (h0 : 0 ≤ i) (h1 : i < 5) : ex_xs rt J C (.iastore :: is) ls (vI z :: vI i :: vR 40 :: st) (SH L, σ) = ex_xs rt J C is ls st (SH L, ex_ar σ 40 (ex_u (σ 40) i z)) := x_ast (n := 5) (sh_40 L) (by decide) h0 h1
theorem ld_41 {i : Int} (h0 : 0 ≤ i) (h1 : i < 5) : ex_xs rt J C (.iaload :: is) ls (vI i :: vR 41 :: st) (SH L, σ) = ex_xs rt J C is ls (vI (σ 41 i) :: st) (SH L, σ) := x_ald (n := 5) (sh_41 L) h0 h1
theorem ln_41 : ex_xs rt J C (.arraylength :: is) ls (vR 41 :: st) (SH L, σ) = ex_xs rt J C is ls (vI 5 :: st) (SH L, σ) := x_aln (n := 5) (sh_41 L)
theorem sd_41 {i z : Int} (h0 : 0 ≤ i) (h1 : i < 5) : ex_xs rt J C (.iastore :: is) ls (vI z :: vI i :: vR 41 :: st) (SH L, σ) = ex_xs rt J C is ls st (SH L, ex_ar σ 41 (ex_u (σ 41) i z)) := x_ast (n := 5) (sh_41 L) (by decide) h0 h1
theorem ld_42 {i : Int} (h0 : 0 ≤ i) (h1 : i < 5) : ex_xs rt J C (.iaload :: is) ls (vI i :: vR 42 :: st) (SH L, σ) = ex_xs rt J C is ls (vI (σ 42 i) :: st) (SH L, σ) := x_ald (n := 5) (sh_42 L) h0 h1
theorem ln_42 : ex_xs rt J C (.arraylength :: is) ls (vR 42 :: st) (SH L, σ) = ex_xs rt J C is ls (vI 5 :: st) (SH L, σ) := x_aln (n := 5) (sh_42 L)
theorem sd_42 {i z : Int} (h0 : 0 ≤ i) (h1 : i < 5) : ex_xs rt J C (.iastore :: is) ls (vI z :: vI i :: vR 42 :: st) (SH L, σ) = ex_xs rt J C is ls st (SH L, ex_ar σ 42 (ex_u (σ 42) i z)) := x_ast (n := 5) (sh_42 L) (by decide) h0 h1
theorem ld_43 {i : Int} (h0 : 0 ≤ i) (h1 : i < 5) : ex_xs rt J C (.iaload :: is) ls (vI i :: vR 43 :: st) (SH L, σ) = ex_xs rt J C is ls (vI (σ 43 i) :: st) (SH L, σ) := x_ald (n := 5) (sh_43 L) h0 h1
theorem ln_43 : ex_xs rt J C (.arraylength :: is) ls (vR 43 :: st) (SH L, σ) = ex_xs rt J C is ls (vI 5 :: st) (SH L, σ) := x_aln (n := 5) (sh_43 L)
theorem sd_43 {i z : Int} (h0 : 0 ≤ i) (h1 : i < 5) : ex_xs rt J C (.iastore :: is) ls (vI z :: vI i :: vR 43 :: st) (SH L, σ) = ex_xs rt J C is ls st (SH L, ex_ar σ 43 (ex_u (σ 43) i z)) := x_ast (n := 5) (sh_43 L) (by decide) h0 h1
theorem ld_44 {i : Int} (h0 : 0 ≤ i) (h1 : i < 40) : ex_xs rt J C (.iaload :: is) ls (vI i :: vR 44 :: st) (SH L, σ) = ex_xs rt J C is ls (vI (σ 44 i) :: st) (SH L, σ) := x_ald (n := 40) (sh_44 L) h0 h1
theorem ln_44 : ex_xs rt J C (.arraylength :: is) ls (vR 44 :: st) (SH L, σ) = ex_xs rt J C is ls (vI 40 :: st) (SH L, σ) := x_aln (n := 40) (sh_44 L)
theorem sd_44 {i z : Int} (h0 : 0 ≤ i) (h1 : i < 40) : ex_xs rt J C (.iastore :: is) ls (vI z :: vI i :: vR 44 :: st) (SH L, σ) = ex_xs rt J C is ls st (SH L, ex_ar σ 44 (ex_u (σ 44) i z)) := x_ast (n := 40) (sh_44 L) (by decide) h0 h1
theorem ld_45 {i : Int} (h0 : 0 ≤ i) (h1 : i < 48) : ex_xs rt J C (.iaload :: is) ls (vI i :: vR 45 :: st) (SH L, σ) = ex_xs rt J C is ls (vI (σ 45 i) :: st) (SH L, σ) := x_ald (n := 48) (sh_45 L) h0 h1
theorem ln_45 : ex_xs rt J C (.arraylength :: is) ls (vR 45 :: st) (SH L, σ) = ex_xs rt J C is ls (vI 48 :: st) (SH L, σ) := x_aln (n := 48) (sh_45 L)
theorem sd_45 {i z : Int} (h0 : 0 ≤ i) (h1 : i < 48) : ex_xs rt J C (.iastore :: is) ls (vI z :: vI i :: vR 45 :: st) (SH L, σ) = ex_xs rt J C is ls st (SH L, ex_ar σ 45 (ex_u (σ 45) i z)) := x_ast (n := 48) (sh_45 L) (by decide) h0 h1
theorem ld_46 {i : Int} (h0 : 0 ≤ i) (h1 : i < 8) : ex_xs rt J C (.iaload :: is) ls (vI i :: vR 46 :: st) (SH L, σ) = ex_xs rt J C is ls (vI (σ 46 i) :: st) (SH L, σ) := x_ald (n := 8) (sh_46 L) h0 h1
theorem ln_46 : ex_xs rt J C (.arraylength :: is) ls (vR 46 :: st) (SH L, σ) = ex_xs rt J C is ls (vI 8 :: st) (SH L, σ) := x_aln (n := 8) (sh_46 L)
theorem sd_46 {i z : Int} (h0 : 0 ≤ i) (h1 : i < 8) : ex_xs rt J C (.iastore :: is) ls (vI z :: vI i :: vR 46 :: st) (SH L, σ) = ex_xs rt J C is ls st (SH L, ex_ar σ 46 (ex_u (σ 46) i z)) := x_ast (n := 8) (sh_46 L) (by decide) h0 h1
theorem gf_47_0 : ex_xs rt J C (.getfield 160 :: is) ls (vR 47 :: st) (SH L, σ) = ex_xs rt J C is ls (vR 48 :: st) (SH L, σ) := x_getR (sh_47 L) (by decide) rfl rfl
theorem gf_47_1 : ex_xs rt J C (.getfield 161 :: is) ls (vR 47 :: st) (SH L, σ) = ex_xs rt J C is ls (vR 49 :: st) (SH L, σ) := x_getR (sh_47 L) (by decide) rfl rfl
theorem gf_47_2 : ex_xs rt J C (.getfield 162 :: is) ls (vR 47 :: st) (SH L, σ) = ex_xs rt J C is ls (vR 50 :: st) (SH L, σ) := x_getR (sh_47 L) (by decide) rfl rfl
theorem gf_47_3 : ex_xs rt J C (.getfield 163 :: is) ls (vR 47 :: st) (SH L, σ) = ex_xs rt J C is ls (vI (σ 47 3) :: st) (SH L, σ) := x_getI (k := 3) (sh_47 L) (by decide) rfl rfl rfl
theorem pf_47_3 {z : Int} : ex_xs rt J C (.putfield 163 :: is) ls (vI z :: vR 47 :: st) (SH L, σ) = ex_xs rt J C is ls st (SH L, ex_ar σ 47 (ex_u (σ 47) 3 z)) := x_putI (k := 3) (sh_47 L) (by decide) rfl rfl rfl
theorem ld_48 {i : Int} (h0 : 0 ≤ i) (h1 : i < 7) : ex_xs rt J C (.iaload :: is) ls (vI i :: vR 48 :: st) (SH L, σ) = ex_xs rt J C is ls (vI (σ 48 i) :: st) (SH L, σ) := x_ald (n := 7) (sh_48 L) h0 h1
theorem ln_48 : ex_xs rt J C (.arraylength :: is) ls (vR 48 :: st) (SH L, σ) = ex_xs rt J C is ls (vI 7 :: st) (SH L, σ) := x_aln (n := 7) (sh_48 L)
theorem sd_48 {i z : Int} (h0 : 0 ≤ i) (h1 : i < 7) : ex_xs rt J C (.iastore :: is) ls (vI z :: vI i :: vR 48 :: st) (SH L, σ) = ex_xs rt J C is ls st (SH L, ex_ar σ 48 (ex_u (σ 48) i z)) := x_ast (n := 7) (sh_48 L) (by decide) h0 h1
theorem ld_49 {i : Int} (h0 : 0 ≤ i) (h1 : i < 7) : ex_xs rt J C (.iaload :: is) ls (vI i :: vR 49 :: st) (SH L, σ) = ex_xs rt J C is ls (vI (σ 49 i) :: st) (SH L, σ) := x_ald (n := 7) (sh_49 L) h0 h1
theorem ln_49 : ex_xs rt J C (.arraylength :: is) ls (vR 49 :: st) (SH L, σ) = ex_xs rt J C is ls (vI 7 :: st) (SH L, σ) := x_aln (n := 7) (sh_49 L)
theorem sd_49 {i z : Int} (h0 : 0 ≤ i) (h1 : i < 7) : ex_xs rt J C (.iastore :: is) ls (vI z :: vI i :: vR 49 :: st) (SH L, σ) = ex_xs rt J C is ls st (SH L, ex_ar σ 49 (ex_u (σ 49) i z)) := x_ast (n := 7) (sh_49 L) (by decide) h0 h1
theorem ld_50 {i : Int} (h0 : 0 ≤ i) (h1 : i < 5) : ex_xs rt J C (.iaload :: is) ls (vI i :: vR 50 :: st) (SH L, σ) = ex_xs rt J C is ls (vI (σ 50 i) :: st) (SH L, σ) := x_ald (n := 5) (sh_50 L) h0 h1
theorem ln_50 : ex_xs rt J C (.arraylength :: is) ls (vR 50 :: st) (SH L, σ) = ex_xs rt J C is ls (vI 5 :: st) (SH L, σ) := x_aln (n := 5) (sh_50 L)
theorem sd_50 {i z : Int} (h0 : 0 ≤ i) (h1 : i < 5) : ex_xs rt J C (.iastore :: is) ls (vI z :: vI i :: vR 50 :: st) (SH L, σ) = ex_xs rt J C is ls st (SH L, ex_ar σ 50 (ex_u (σ 50) i z)) := x_ast (n := 5) (sh_50 L) (by decide) h0 h1
theorem gf_51_0 : ex_xs rt J C (.getfield 0 :: is) ls (vR 51 :: st) (SH L, σ) = ex_xs rt J C is ls (vR 52 :: st) (SH L, σ) := x_getR (sh_51 L) (by decide) rfl rfl
theorem gf_51_1 : ex_xs rt J C (.getfield 1 :: is) ls (vR 51 :: st) (SH L, σ) = ex_xs rt J C is ls (vR 53 :: st) (SH L, σ) := x_getR (sh_51 L) (by decide) rfl rfl
theorem ld_52 {i : Int} (h0 : 0 ≤ i) (h1 : i < 24) : ex_xs rt J C (.iaload :: is) ls (vI i :: vR 52 :: st) (SH L, σ) = ex_xs rt J C is ls (vI (σ 52 i) :: st) (SH L, σ) := x_ald (n := 24) (sh_52 L) h0 h1
theorem ln_52 : ex_xs rt J C (.arraylength :: is) ls (vR 52 :: st) (SH L, σ) = ex_xs rt J C is ls (vI 24 :: st) (SH L, σ) := x_aln (n := 24) (sh_52 L)
theorem sd_52 {i z : Int} (h0 : 0 ≤ i) (h1 : i < 24) : ex_xs rt J C (.iastore :: is) ls (vI z :: vI i :: vR 52 :: st) (SH L, σ) = ex_xs rt J C is ls st (SH L, ex_ar σ 52 (ex_u (σ 52) i z)) := x_ast (n := 24) (sh_52 L) (by decide) h0 h1
theorem ld_53 {i : Int} (h0 : 0 ≤ i) (h1 : i < 8) : ex_xs rt J C (.iaload :: is) ls (vI i :: vR 53 :: st) (SH L, σ) = ex_xs rt J C is ls (vI (σ 53 i) :: st) (SH L, σ) := x_ald (n := 8) (sh_53 L) h0 h1
theorem ln_53 : ex_xs rt J C (.arraylength :: is) ls (vR 53 :: st) (SH L, σ) = ex_xs rt J C is ls (vI 8 :: st) (SH L, σ) := x_aln (n := 8) (sh_53 L)
theorem sd_53 {i z : Int} (h0 : 0 ≤ i) (h1 : i < 8) : ex_xs rt J C (.iastore :: is) ls (vI z :: vI i :: vR 53 :: st) (SH L, σ) = ex_xs rt J C is ls st (SH L, ex_ar σ 53 (ex_u (σ 53) i z)) := x_ast (n := 8) (sh_53 L) (by decide) h0 h1
theorem gf_54_0 : ex_xs rt J C (.getfield 192 :: is) ls (vR 54 :: st) (SH L, σ) = ex_xs rt J C is ls (vR 55 :: st) (SH L, σ) := x_getR (sh_54 L) (by decide) rfl rfl
theorem gf_54_1 : ex_xs rt J C (.getfield 193 :: is) ls (vR 54 :: st) (SH L, σ) = ex_xs rt J C is ls (vR 56 :: st) (SH L, σ) := x_getR (sh_54 L) (by decide) rfl rfl
theorem gf_54_2 : ex_xs rt J C (.getfield 194 :: is) ls (vR 54 :: st) (SH L, σ) = ex_xs rt J C is ls (vI (σ 54 2) :: st) (SH L, σ) := x_getI (k := 2) (sh_54 L) (by decide) rfl rfl rfl
theorem pf_54_2 {z : Int} : ex_xs rt J C (.putfield 194 :: is) ls (vI z :: vR 54 :: st) (SH L, σ) = ex_xs rt J C is ls st (SH L, ex_ar σ 54 (ex_u (σ 54) 2 z)) := x_putI (k := 2) (sh_54 L) (by decide) rfl rfl rfl
theorem ld_55 {i : Int} (h0 : 0 ≤ i) (h1 : i < 5) : ex_xs rt J C (.iaload :: is) ls (vI i :: vR 55 :: st) (SH L, σ) = ex_xs rt J C is ls (vI (σ 55 i) :: st) (SH L, σ) := x_ald (n := 5) (sh_55 L) h0 h1
theorem ln_55 : ex_xs rt J C (.arraylength :: is) ls (vR 55 :: st) (SH L, σ) = ex_xs rt J C is ls (vI 5 :: st) (SH L, σ) := x_aln (n := 5) (sh_55 L)
theorem sd_55 {i z : Int} (h0 : 0 ≤ i) (h1 : i < 5) : ex_xs rt J C (.iastore :: is) ls (vI z :: vI i :: vR 55 :: st) (SH L, σ) = ex_xs rt J C is ls st (SH L, ex_ar σ 55 (ex_u (σ 55) i z)) := x_ast (n := 5) (sh_55 L) (by decide) h0 h1
theorem ld_56 {i : Int} (h0 : 0 ≤ i) (h1 : i < 5) : ex_xs rt J C (.iaload :: is) ls (vI i :: vR 56 :: st) (SH L, σ) = ex_xs rt J C is ls (vI (σ 56 i) :: st) (SH L, σ) := x_ald (n := 5) (sh_56 L) h0 h1
theorem ln_56 : ex_xs rt J C (.arraylength :: is) ls (vR 56 :: st) (SH L, σ) = ex_xs rt J C is ls (vI 5 :: st) (SH L, σ) := x_aln (n := 5) (sh_56 L)
theorem sd_56 {i z : Int} (h0 : 0 ≤ i) (h1 : i < 5) : ex_xs rt J C (.iastore :: is) ls (vI z :: vI i :: vR 56 :: st) (SH L, σ) = ex_xs rt J C is ls st (SH L, ex_ar σ 56 (ex_u (σ 56) i z)) := x_ast (n := 5) (sh_56 L) (by decide) h0 h1
theorem gf_57_0 : ex_xs rt J C (.getfield 256 :: is) ls (vR 57 :: st) (SH L, σ) = ex_xs rt J C is ls (vR 58 :: st) (SH L, σ) := x_getR (sh_57 L) (by decide) rfl rfl
theorem gf_57_1 : ex_xs rt J C (.getfield 257 :: is) ls (vR 57 :: st) (SH L, σ) = ex_xs rt J C is ls (vR 59 :: st) (SH L, σ) := x_getR (sh_57 L) (by decide) rfl rfl
theorem ld_58 {i : Int} (h0 : 0 ≤ i) (h1 : i < 5) : ex_xs rt J C (.iaload :: is) ls (vI i :: vR 58 :: st) (SH L, σ) = ex_xs rt J C is ls (vI (σ 58 i) :: st) (SH L, σ) := x_ald (n := 5) (sh_58 L) h0 h1
theorem ln_58 : ex_xs rt J C (.arraylength :: is) ls (vR 58 :: st) (SH L, σ) = ex_xs rt J C is ls (vI 5 :: st) (SH L, σ) := x_aln (n := 5) (sh_58 L)
theorem sd_58 {i z : Int} (h0 : 0 ≤ i) (h1 : i < 5) : ex_xs rt J C (.iastore :: is) ls (vI z :: vI i :: vR 58 :: st) (SH L, σ) = ex_xs rt J C is ls st (SH L, ex_ar σ 58 (ex_u (σ 58) i z)) := x_ast (n := 5) (sh_58 L) (by decide) h0 h1
theorem ld_59 {i : Int} (h0 : 0 ≤ i) (h1 : i < 7) : ex_xs rt J C (.iaload :: is) ls (vI i :: vR 59 :: st) (SH L, σ) = ex_xs rt J C is ls (vI (σ 59 i) :: st) (SH L, σ) := x_ald (n := 7) (sh_59 L) h0 h1
theorem ln_59 : ex_xs rt J C (.arraylength :: is) ls (vR 59 :: st) (SH L, σ) = ex_xs rt J C is ls (vI 7 :: st) (SH L, σ) := x_aln (n := 7) (sh_59 L)
theorem sd_59 {i z : Int} (h0 : 0 ≤ i) (h1 : i < 7) : ex_xs rt J C (.iastore :: is) ls (vI z :: vI i :: vR 59 :: st) (SH L, σ) = ex_xs rt J C is ls st (SH L, ex_ar σ 59 (ex_u (σ 59) i z)) := x_ast (n := 7) (sh_59 L) (by decide) h0 h1
theorem gf_60_0 : ex_xs rt J C (.getfield 224 :: is) ls (vR 60 :: st) (SH L, σ) = ex_xs rt J C is ls (vR 61 :: st) (SH L, σ) := x_getR (sh_60 L) (by decide) rfl rfl
theorem gf_60_1 : ex_xs rt J C (.getfield 225 :: is) ls (vR 60 :: st) (SH L, σ) = ex_xs rt J C is ls (vI (σ 60 1) :: st) (SH L, σ) := x_getI (k := 1) (sh_60 L) (by decide) rfl rfl rfl
theorem pf_60_1 {z : Int} : ex_xs rt J C (.putfield 225 :: is) ls (vI z :: vR 60 :: st) (SH L, σ) = ex_xs rt J C is ls st (SH L, ex_ar σ 60 (ex_u (σ 60) 1 z)) := x_putI (k := 1) (sh_60 L) (by decide) rfl rfl rfl
theorem gf_60_2 : ex_xs rt J C (.getfield 226 :: is) ls (vR 60 :: st) (SH L, σ) = ex_xs rt J C is ls (vR 62 :: st) (SH L, σ) := x_getR (sh_60 L) (by decide) rfl rfl
theorem gf_60_3 : ex_xs rt J C (.getfield 227 :: is) ls (vR 60 :: st) (SH L, σ) = ex_xs rt J C is ls (vR 63 :: st) (SH L, σ) := x_getR (sh_60 L) (by decide) rfl rfl
theorem gf_60_4 : ex_xs rt J C (.getfield 228 :: is) ls (vR 60 :: st) (SH L, σ) = ex_xs rt J C is ls (vI (σ 60 4) :: st) (SH L, σ) := x_getI (k := 4) (sh_60 L) (by decide) rfl rfl rfl
theorem pf_60_4 {z : Int} : ex_xs rt J C (.putfield 228 :: is) ls (vI z :: vR 60 :: st) (SH L, σ) = ex_xs rt J C is ls st (SH L, ex_ar σ 60 (ex_u (σ 60) 4 z)) := x_putI (k := 4) (sh_60 L) (by decide) rfl rfl rfl
theorem ld_61 {i : Int} (h0 : 0 ≤ i) (h1 : i < 8) : ex_xs rt J C (.iaload :: is) ls (vI i :: vR 61 :: st) (SH L, σ) = ex_xs rt J C is ls (vI (σ 61 i) :: st) (SH L, σ) := x_ald (n := 8) (sh_61 L) h0 h1
theorem ln_61 : ex_xs rt J C (.arraylength :: is) ls (vR 61 :: st) (SH L, σ) = ex_xs rt J C is ls (vI 8 :: st) (SH L, σ) := x_aln (n := 8) (sh_61 L)
theorem sd_61 {i z : Int} (h0 : 0 ≤ i) (h1 : i < 8) : ex_xs rt J C (.iastore :: is) ls (vI z :: vI i :: vR 61 :: st) (SH L, σ) = ex_xs rt J C is ls st (SH L, ex_ar σ 61 (ex_u (σ 61) i z)) := x_ast (n := 8) (sh_61 L) (by decide) h0 h1
theorem ld_62 {i : Int} (h0 : 0 ≤ i) (h1 : i < 8) : ex_xs rt J C (.iaload :: is) ls (vI i :: vR 62 :: st) (SH L, σ) = ex_xs rt J C is ls (vI (σ 62 i) :: st) (SH L, σ) := x_ald (n := 8) (sh_62 L) h0 h1
theorem ln_62 : ex_xs rt J C (.arraylength :: is) ls (vR 62 :: st) (SH L, σ) = ex_xs rt J C is ls (vI 8 :: st) (SH L, σ) := x_aln (n := 8) (sh_62 L)
theorem sd_62 {i z : Int} (h0 : 0 ≤ i) (h1 : i < 8) : ex_xs rt J C (.iastore :: is) ls (vI z :: vI i :: vR 62 :: st) (SH L, σ) = ex_xs rt J C is ls st (SH L, ex_ar σ 62 (ex_u (σ 62) i z)) := x_ast (n := 8) (sh_62 L) (by decide) h0 h1
theorem ld_63 {i : Int} (h0 : 0 ≤ i) (h1 : i < 5) : ex_xs rt J C (.iaload :: is) ls (vI i :: vR 63 :: st) (SH L, σ) = ex_xs rt J C is ls (vI (σ 63 i) :: st) (SH L, σ) := x_ald (n := 5) (sh_63 L) h0 h1
theorem ln_63 : ex_xs rt J C (.arraylength :: is) ls (vR 63 :: st) (SH L, σ) = ex_xs rt J C is ls (vI 5 :: st) (SH L, σ) := x_aln (n := 5) (sh_63 L)
theorem sd_63 {i z : Int} (h0 : 0 ≤ i) (h1 : i < 5) : ex_xs rt J C (.iastore :: is) ls (vI z :: vI i :: vR 63 :: st) (SH L, σ) = ex_xs rt J C is ls st (SH L, ex_ar σ 63 (ex_u (σ 63) i z)) := x_ast (n := 5) (sh_63 L) (by decide) h0 h1
theorem gf_432_0 : ex_xs rt J C (.getfield 384 :: is) ls (vR 432 :: st) (SH L, σ) = ex_xs rt J C is ls (vR 433 :: st) (SH L, σ) := x_getR (sh_432 L) (by decide) rfl rfl
theorem gf_432_1 : ex_xs rt J C (.getfield 385 :: is) ls (vR 432 :: st) (SH L, σ) = ex_xs rt J C is ls (vR 434 :: st) (SH L, σ) := x_getR (sh_432 L) (by decide) rfl rfl
theorem gf_432_2 : ex_xs rt J C (.getfield 386 :: is) ls (vR 432 :: st) (SH L, σ) = ex_xs rt J C is ls (vI (σ 432 2) :: st) (SH L, σ) := x_getI (k := 2) (sh_432 L) (by decide) rfl rfl rfl
theorem pf_432_2 {z : Int} : ex_xs rt J C (.putfield 386 :: is) ls (vI z :: vR 432 :: st) (SH L, σ) = ex_xs rt J C is ls st (SH L, ex_ar σ 432 (ex_u (σ 432) 2 z)) := x_putI (k := 2) (sh_432 L) (by decide) rfl rfl rfl
theorem gf_432_3 : ex_xs rt J C (.getfield 387 :: is) ls (vR 432 :: st) (SH L, σ) = ex_xs rt J C is ls (vI (σ 432 3) :: st) (SH L, σ) := x_getI (k := 3) (sh_432 L) (by decide) rfl rfl rfl
theorem pf_432_3 {z : Int} : ex_xs rt J C (.putfield 387 :: is) ls (vI z :: vR 432 :: st) (SH L, σ) = ex_xs rt J C is ls st (SH L, ex_ar σ 432 (ex_u (σ 432) 3 z)) := x_putI (k := 3) (sh_432 L) (by decide) rfl rfl rfl
theorem gf_432_4 : ex_xs rt J C (.getfield 388 :: is) ls (vR 432 :: st) (SH L, σ) = ex_xs rt J C is ls (vR 435 :: st) (SH L, σ) := x_getR (sh_432 L) (by decide) rfl rfl
theorem gf_432_5 : ex_xs rt J C (.getfield 389 :: is) ls (vR 432 :: st) (SH L, σ) = ex_xs rt J C is ls (vR 436 :: st) (SH L, σ) := x_getR (sh_432 L) (by decide) rfl rfl
theorem gf_432_6 : ex_xs rt J C (.getfield 390 :: is) ls (vR 432 :: st) (SH L, σ) = ex_xs rt J C is ls (vR 437 :: st) (SH L, σ) := x_getR (sh_432 L) (by decide) rfl rfl
theorem gf_432_7 : ex_xs rt J C (.getfield 391 :: is) ls (vR 432 :: st) (SH L, σ) = ex_xs rt J C is ls (vR 438 :: st) (SH L, σ) := x_getR (sh_432 L) (by decide) rfl rfl
theorem gf_432_8 : ex_xs rt J C (.getfield 392 :: is) ls (vR 432 :: st) (SH L, σ) = ex_xs rt J C is ls (vR 439 :: st) (SH L, σ) := x_getR (sh_432 L) (by decide) rfl rfl
theorem gf_432_9 : ex_xs rt J C (.getfield 393 :: is) ls (vR 432 :: st) (SH L, σ) = ex_xs rt J C is ls (vR 440 :: st) (SH L, σ) := x_getR (sh_432 L) (by decide) rfl rfl
theorem gf_432_10 : ex_xs rt J C (.getfield 394 :: is) ls (vR 432 :: st) (SH L, σ) = ex_xs rt J C is ls (vR 441 :: st) (SH L, σ) := x_getR (sh_432 L) (by decide) rfl rfl
theorem gf_432_11 : ex_xs rt J C (.getfield 395 :: is) ls (vR 432 :: st) (SH L, σ) = ex_xs rt J C is ls (vI (σ 432 11) :: st) (SH L, σ) := x_getI (k := 11) (sh_432 L) (by decide) rfl rfl rfl
theorem pf_432_11 {z : Int} : ex_xs rt J C (.putfield 395 :: is) ls (vI z :: vR 432 :: st) (SH L, σ) = ex_xs rt J C is ls st (SH L, ex_ar σ 432 (ex_u (σ 432) 11 z)) := x_putI (k := 11) (sh_432 L) (by decide) rfl rfl rfl
theorem gf_432_12 : ex_xs rt J C (.getfield 396 :: is) ls (vR 432 :: st) (SH L, σ) = ex_xs rt J C is ls (vR 442 :: st) (SH L, σ) := x_getR (sh_432 L) (by decide) rfl rfl
theorem gf_432_13 : ex_xs rt J C (.getfield 397 :: is) ls (vR 432 :: st) (SH L, σ) = ex_xs rt J C is ls (vR 443 :: st) (SH L, σ) := x_getR (sh_432 L) (by decide) rfl rfl
theorem gf_432_14 : ex_xs rt J C (.getfield 398 :: is) ls (vR 432 :: st) (SH L, σ) = ex_xs rt J C is ls (vR 444 :: st) (SH L, σ) := x_getR (sh_432 L) (by decide) rfl rfl
theorem gf_432_15 : ex_xs rt J C (.getfield 399 :: is) ls (vR 432 :: st) (SH L, σ) = ex_xs rt J C is ls (vI (σ 432 15) :: st) (SH L, σ) := x_getI (k := 15) (sh_432 L) (by decide) rfl rfl rfl
theorem pf_432_15 {z : Int} : ex_xs rt J C (.putfield 399 :: is) ls (vI z :: vR 432 :: st) (SH L, σ) = ex_xs rt J C is ls st (SH L, ex_ar σ 432 (ex_u (σ 432) 15 z)) := x_putI (k := 15) (sh_432 L) (by decide) rfl rfl rfl
theorem gf_432_16 : ex_xs rt J C (.getfield 400 :: is) ls (vR 432 :: st) (SH L, σ) = ex_xs rt J C is ls (vI (σ 432 16) :: st) (SH L, σ) := x_getI (k := 16) (sh_432 L) (by decide) rfl rfl rfl
theorem pf_432_16 {z : Int} : ex_xs rt J C (.putfield 400 :: is) ls (vI z :: vR 432 :: st) (SH L, σ) = ex_xs rt J C is ls st (SH L, ex_ar σ 432 (ex_u (σ 432) 16 z)) := x_putI (k := 16) (sh_432 L) (by decide) rfl rfl rfl
theorem gf_432_17 : ex_xs rt J C (.getfield 401 :: is) ls (vR 432 :: st) (SH L, σ) = ex_xs rt J C is ls (vR 445 :: st) (SH L, σ) := x_getR (sh_432 L) (by decide) rfl rfl
theorem gf_432_18 : ex_xs rt J C (.getfield 402 :: is) ls (vR 432 :: st) (SH L, σ) = ex_xs rt J C is ls (vR 446 :: st) (SH L, σ) := x_getR (sh_432 L) (by decide) rfl rfl
theorem gf_432_19 : ex_xs rt J C (.getfield 403 :: is) ls (vR 432 :: st) (SH L, σ) = ex_xs rt J C is ls (vR 447 :: st) (SH L, σ) := x_getR (sh_432 L) (by decide) rfl rfl
theorem gf_432_20 : ex_xs rt J C (.getfield 404 :: is) ls (vR 432 :: st) (SH L, σ) = ex_xs rt J C is ls (vR 448 :: st) (SH L, σ) := x_getR (sh_432 L) (by decide) rfl rfl
theorem ld_433 {i : Int} (h0 : 0 ≤ i) (h1 : i < 277) : ex_xs rt J C (.iaload :: is) ls (vI i :: vR 433 :: st) (SH L, σ) = ex_xs rt J C is ls (vI (σ 433 i) :: st) (SH L, σ) := x_ald (n := 277) (sh_433 L) h0 h1
theorem ln_433 : ex_xs rt J C (.arraylength :: is) ls (vR 433 :: st) (SH L, σ) = ex_xs rt J C is ls (vI 277 :: st) (SH L, σ) := x_aln (n := 277) (sh_433 L)
theorem sd_433 {i z : Int} (h0 : 0 ≤ i) (h1 : i < 277) : ex_xs rt J C (.iastore :: is) ls (vI z :: vI i :: vR 433 :: st) (SH L, σ) = ex_xs rt J C is ls st (SH L, ex_ar σ 433 (ex_u (σ 433) i z)) := x_ast (n := 277) (sh_433 L) (by decide) h0 h1
theorem ld_434 {i : Int} (h0 : 0 ≤ i) (h1 : i < 4432) : ex_xs rt J C (.iaload :: is) ls (vI i :: vR 434 :: st) (SH L, σ) = ex_xs rt J C is ls (vI (σ 434 i) :: st) (SH L, σ) := x_ald (n := 4432) (sh_434 L) h0 h1
theorem ln_434 : ex_xs rt J C (.arraylength :: is) ls (vR 434 :: st) (SH L, σ) = ex_xs rt J C is ls (vI 4432 :: st) (SH L, σ) := x_aln (n := 4432) (sh_434 L)
theorem sd_434 {i z : Int} (h0 : 0 ≤ i) (h1 : i < 4432) : ex_xs rt J C (.iastore :: is) ls (vI z :: vI i :: vR 434 :: st) (SH L, σ) = ex_xs rt J C is ls st (SH L, ex_ar σ 434 (ex_u (σ 434) i z)) := x_ast (n := 4432) (sh_434 L) (by decide) h0 h1
theorem ld_435 {i : Int} (h0 : 0 ≤ i) (h1 : i < 4) : ex_xs rt J C (.iaload :: is) ls (vI i :: vR 435 :: st) (SH L, σ) = ex_xs rt J C is ls (vI (σ 435 i) :: st) (SH L, σ) := x_ald (n := 4) (sh_435 L) h0 h1
theorem ln_435 : ex_xs rt J C (.arraylength :: is) ls (vR 435 :: st) (SH L, σ) = ex_xs rt J C is ls (vI 4 :: st) (SH L, σ) := x_aln (n := 4) (sh_435 L)
theorem sd_435 {i z : Int} (h0 : 0 ≤ i) (h1 : i < 4) : ex_xs rt J C (.iastore :: is) ls (vI z :: vI i :: vR 435 :: st) (SH L, σ) = ex_xs rt J C is ls st (SH L, ex_ar σ 435 (ex_u (σ 435) i z)) := x_ast (n := 4) (sh_435 L) (by decide) h0 h1
theorem ld_436 {i : Int} (h0 : 0 ≤ i) (h1 : i < 4) : ex_xs rt J C (.iaload :: is) ls (vI i :: vR 436 :: st) (SH L, σ) = ex_xs rt J C is ls (vI (σ 436 i) :: st) (SH L, σ) := x_ald (n := 4) (sh_436 L) h0 h1
theorem ln_436 : ex_xs rt J C (.arraylength :: is) ls (vR 436 :: st) (SH L, σ) = ex_xs rt J C is ls (vI 4 :: st) (SH L, σ) := x_aln (n := 4) (sh_436 L)
theorem sd_436 {i z : Int} (h0 : 0 ≤ i) (h1 : i < 4) : ex_xs rt J C (.iastore :: is) ls (vI z :: vI i :: vR 436 :: st) (SH L, σ) = ex_xs rt J C is ls st (SH L, ex_ar σ 436 (ex_u (σ 436) i z)) := x_ast (n := 4) (sh_436 L) (by decide) h0 h1
theorem ld_437 {i : Int} (h0 : 0 ≤ i) (h1 : i < 80) : ex_xs rt J C (.iaload :: is) ls (vI i :: vR 437 :: st) (SH L, σ) = ex_xs rt J C is ls (vI (σ 437 i) :: st) (SH L, σ) := x_ald (n := 80) (sh_437 L) h0 h1
theorem ln_437 : ex_xs rt J C (.arraylength :: is) ls (vR 437 :: st) (SH L, σ) = ex_xs rt J C is ls (vI 80 :: st) (SH L, σ) := x_aln (n := 80) (sh_437 L)
theorem sd_437 {i z : Int} (h0 : 0 ≤ i) (h1 : i < 80) : ex_xs rt J C (.iastore :: is) ls (vI z :: vI i :: vR 437 :: st) (SH L, σ) = ex_xs rt J C is ls st (SH L, ex_ar σ 437 (ex_u (σ 437) i z)) := x_ast (n := 80) (sh_437 L) (by decide) h0 h1
theorem ld_438 {i : Int} (h0 : 0 ≤ i) (h1 : i < 200) : ex_xs rt J C (.iaload :: is) ls (vI i :: vR 438 :: st) (SH L, σ) = ex_xs rt J C is ls (vI (σ 438 i) :: st) (SH L, σ) := x_ald (n := 200) (sh_438 L) h0 h1
theorem ln_438 : ex_xs rt J C (.arraylength :: is) ls (vR 438 :: st) (SH L, σ) = ex_xs rt J C is ls (vI 200 :: st) (SH L, σ) := x_aln (n := 200) (sh_438 L)
theorem sd_438 {i z : Int} (h0 : 0 ≤ i) (h1 : i < 200) : ex_xs rt J C (.iastore :: is) ls (vI z :: vI i :: vR 438 :: st) (SH L, σ) = ex_xs rt J C is ls st (SH L, ex_ar σ 438 (ex_u (σ 438) i z)) := x_ast (n := 200) (sh_438 L) (by decide) h0 h1
theorem ld_439 {i : Int} (h0 : 0 ≤ i) (h1 : i < 3) : ex_xs rt J C (.iaload :: is) ls (vI i :: vR 439 :: st) (SH L, σ) = ex_xs rt J C is ls (vI (σ 439 i) :: st) (SH L, σ) := x_ald (n := 3) (sh_439 L) h0 h1
theorem ln_439 : ex_xs rt J C (.arraylength :: is) ls (vR 439 :: st) (SH L, σ) = ex_xs rt J C is ls (vI 3 :: st) (SH L, σ) := x_aln (n := 3) (sh_439 L)
theorem sd_439 {i z : Int} (h0 : 0 ≤ i) (h1 : i < 3) : ex_xs rt J C (.iastore :: is) ls (vI z :: vI i :: vR 439 :: st) (SH L, σ) = ex_xs rt J C is ls st (SH L, ex_ar σ 439 (ex_u (σ 439) i z)) := x_ast (n := 3) (sh_439 L) (by decide) h0 h1
theorem ld_440 {i : Int} (h0 : 0 ≤ i) (h1 : i < 7) : ex_xs rt J C (.iaload :: is) ls (vI i :: vR 440 :: st) (SH L, σ) = ex_xs rt J C is ls (vI (σ 440 i) :: st) (SH L, σ) := x_ald (n := 7) (sh_440 L) h0 h1
theorem ln_440 : ex_xs rt J C (.arraylength :: is) ls (vR 440 :: st) (SH L, σ) = ex_xs rt J C is ls (vI 7 :: st) (SH L, σ) := x_aln (n := 7) (sh_440 L)
theorem sd_440 {i z : Int} (h0 : 0 ≤ i) (h1 : i < 7) : ex_xs rt J C (.iastore :: is) ls (vI z :: vI i :: vR 440 :: st) (SH L, σ) = ex_xs rt J C is ls st (SH L, ex_ar σ 440 (ex_u (σ 440) i z)) := x_ast (n := 7) (sh_440 L) (by decide) h0 h1
theorem ld_441 {i : Int} (h0 : 0 ≤ i) (h1 : i < 7) : ex_xs rt J C (.iaload :: is) ls (vI i :: vR 441 :: st) (SH L, σ) = ex_xs rt J C is ls (vI (σ 441 i) :: st) (SH L, σ) := x_ald (n := 7) (sh_441 L) h0 h1
theorem ln_441 : ex_xs rt J C (.arraylength :: is) ls (vR 441 :: st) (SH L, σ) = ex_xs rt J C is ls (vI 7 :: st) (SH L, σ) := x_aln (n := 7) (sh_441 L)
theorem sd_441 {i z : Int} (h0 : 0 ≤ i) (h1 : i < 7) : ex_xs rt J C (.iastore :: is) ls (vI z :: vI i :: vR 441 :: st) (SH L, σ) = ex_xs rt J C is ls st (SH L, ex_ar σ 441 (ex_u (σ 441) i z)) := x_ast (n := 7) (sh_441 L) (by decide) h0 h1
theorem ld_442 {i : Int} (h0 : 0 ≤ i) (h1 : i < 8) : ex_xs rt J C (.iaload :: is) ls (vI i :: vR 442 :: st) (SH L, σ) = ex_xs rt J C is ls (vI (σ 442 i) :: st) (SH L, σ) := x_ald (n := 8) (sh_442 L) h0 h1
theorem ln_442 : ex_xs rt J C (.arraylength :: is) ls (vR 442 :: st) (SH L, σ) = ex_xs rt J C is ls (vI 8 :: st) (SH L, σ) := x_aln (n := 8) (sh_442 L)
theorem sd_442 {i z : Int} (h0 : 0 ≤ i) (h1 : i < 8) : ex_xs rt J C (.iastore :: is) ls (vI z :: vI i :: vR 442 :: st) (SH L, σ) = ex_xs rt J C is ls st (SH L, ex_ar σ 442 (ex_u (σ 442) i z)) := x_ast (n := 8) (sh_442 L) (by decide) h0 h1
theorem ld_443 {i : Int} (h0 : 0 ≤ i) (h1 : i < 5) : ex_xs rt J C (.iaload :: is) ls (vI i :: vR 443 :: st) (SH L, σ) = ex_xs rt J C is ls (vI (σ 443 i) :: st) (SH L, σ) := x_ald (n := 5) (sh_443 L) h0 h1
theorem ln_443 : ex_xs rt J C (.arraylength :: is) ls (vR 443 :: st) (SH L, σ) = ex_xs rt J C is ls (vI 5 :: st) (SH L, σ) := x_aln (n := 5) (sh_443 L)
theorem sd_443 {i z : Int} (h0 : 0 ≤ i) (h1 : i < 5) : ex_xs rt J C (.iastore :: is) ls (vI z :: vI i :: vR 443 :: st) (SH L, σ) = ex_xs rt J C is ls st (SH L, ex_ar σ 443 (ex_u (σ 443) i z)) := x_ast (n := 5) (sh_443 L) (by decide) h0 h1
theorem ld_444 {i : Int} (h0 : 0 ≤ i) (h1 : i < 5) : ex_xs rt J C (.iaload :: is) ls (vI i :: vR 444 :: st) (SH L, σ) = ex_xs rt J C is ls (vI (σ 444 i) :: st) (SH L, σ) := x_ald (n := 5) (sh_444 L) h0 h1
theorem ln_444 : ex_xs rt J C (.arraylength :: is) ls (vR 444 :: st) (SH L, σ) = ex_xs rt J C is ls (vI 5 :: st) (SH L, σ) := x_aln (n := 5) (sh_444 L)
theorem sd_444 {i z : Int} (h0 : 0 ≤ i) (h1 : i < 5) : ex_xs rt J C (.iastore :: is) ls (vI z :: vI i :: vR 444 :: st) (SH L, σ) = ex_xs rt J C is ls st (SH L, ex_ar σ 444 (ex_u (σ 444) i z)) := x_ast (n := 5) (sh_444 L) (by decide) h0 h1
theorem ld_445 {i : Int} (h0 : 0 ≤ i) (h1 : i < 8) : ex_xs rt J C (.iaload :: is) ls (vI i :: vR 445 :: st) (SH L, σ) = ex_xs rt J C is ls (vI (σ 445 i) :: st) (SH L, σ) := x_ald (n := 8) (sh_445 L) h0 h1
theorem ln_445 : ex_xs rt J C (.arraylength :: is) ls (vR 445 :: st) (SH L, σ) = ex_xs rt J C is ls (vI 8 :: st) (SH L, σ) := x_aln (n := 8) (sh_445 L)
theorem sd_445 {i z : Int} (h0 : 0 ≤ i) (h1 : i < 8) : ex_xs rt J C (.iastore :: is) ls (vI z :: vI i :: vR 445 :: st) (SH L, σ) = ex_xs rt J C is ls st (SH L, ex_ar σ 445 (ex_u (σ 445) i z)) := x_ast (n := 8) (sh_445 L) (by decide) h0 h1
theorem ld_446 {i : Int} (h0 : 0 ≤ i) (h1 : i < 8) : ex_xs rt J C (.iaload :: is) ls (vI i :: vR 446 :: st) (SH L, σ) = ex_xs rt J C is ls (vI (σ 446 i) :: st) (SH L, σ) := x_ald (n := 8) (sh_446 L) h0 h1
theorem ln_446 : ex_xs rt J C (.arraylength :: is) ls (vR 446 :: st) (SH L, σ) = ex_xs rt J C is ls (vI 8 :: st) (SH L, σ) := x_aln (n := 8) (sh_446 L)
theorem sd_446 {i z : Int} (h0 : 0 ≤ i) (h1 : i < 8) : ex_xs rt J C (.iastore :: is) ls (vI z :: vI i :: vR 446 :: st) (SH L, σ) = ex_xs rt J C is ls st (SH L, ex_ar σ 446 (ex_u (σ 446) i z)) := x_ast (n := 8) (sh_446 L) (by decide) h0 h1
theorem ld_447 {i : Int} (h0 : 0 ≤ i) (h1 : i < 5) : ex_xs rt J C (.iaload :: is) ls (vI i :: vR 447 :: st) (SH L, σ) = ex_xs rt J C is ls (vI (σ 447 i) :: st) (SH L, σ) := x_ald (n := 5) (sh_447 L) h0 h1
theorem ln_447 : ex_xs rt J C (.arraylength :: is) ls (vR 447 :: st) (SH L, σ) = ex_xs rt J C is ls (vI 5 :: st) (SH L, σ) := x_aln (n := 5) (sh_447 L)
theorem sd_447 {i z : Int} (h0 : 0 ≤ i) (h1 : i < 5) : ex_xs rt J C (.iastore :: is) ls (vI z :: vI i :: vR 447 :: st) (SH L, σ) = ex_xs rt J C is ls st (SH L, ex_ar σ 447 (ex_u (σ 447) i z)) := x_ast (n := 5) (sh_447 L) (by decide) h0 h1
theorem ld_448 {i : Int} (h0 : 0 ≤ i) (h1 : i < 20) : ex_xs rt J C (.iaload :: is) ls (vI i :: vR 448 :: st) (SH L, σ) = ex_xs rt J C is ls (vI (σ 448 i) :: st) (SH L, σ) := x_ald (n := 20) (sh_448 L) h0 h1
theorem ln_448 : ex_xs rt J C (.arraylength :: is) ls (vR 448 :: st) (SH L, σ) = ex_xs rt J C is ls (vI 20 :: st) (SH L, σ) := x_aln (n := 20) (sh_448 L)
theorem sd_448 {i z : Int} (h0 : 0 ≤ i) (h1 : i < 20) : ex_xs rt J C (.iastore :: is) ls (vI z :: vI i :: vR 448 :: st) (SH L, σ) = ex_xs rt J C is ls st (SH L, ex_ar σ 448 (ex_u (σ 448) i z)) := x_ast (n := 20) (sh_448 L) (by decide) h0 h1
end XA
set_option maxRecDepth 20000 in
theorem ev_0_0 (d : Nat) (ls st : List ex_V) (h : ex_H) : ex_ev d 0 0 ls st h = ex_xs 0 (ex_ev d 0) (ex_cd d) [.aload 0, .invokedynamic 1, .aload 0, .sipush 24, .newarray .int, .putfield 0, .aload 0, .sipush 8, .newarray .int, .putfield 1, .return_] ls st h := ex_ev_eq d 0 0 ls st h
set_option maxRecDepth 20000 in
theorem ev_1_0 (d : Nat) (ls st : List ex_V) (h : ex_H) : ex_ev d 1 0 ls st h = ex_xs 1 (ex_ev d 1) (ex_cd d) [.aload 0, .aload 1, .invokevirtual 2, .istore 3, .sipush 0, .istore 4, .sipush 1, .istore 5, .goto_w 1] ls st h := ex_ev_eq d 1 0 ls st h
set_option maxRecDepth 20000 in
theorem ev_1_1 (d : Nat) (ls st : List ex_V) (h : ex_H) : ex_ev d 1 1 ls st h = ex_xs 1 (ex_ev d 1) (ex_cd d) [.iload 5, .iload 3, .if_icmp .gt 3, .iload 5, .iload 3, .sipush (-1), .ixor, .iand, .ifCond .ne 2, .iload 5, .invokestatic 235, .iload 4, .invokestatic 235, .if_icmp .le 2, .aload 0, .aload 1, .iload 2, .iload 5, .invokevirtual 3, .ifCond .eq 2, .iload 5, .istore 4, .goto_w 2] ls st h := ex_ev_eq d 1 1 ls st h
set_option maxRecDepth 20000 in
theorem ev_1_2 (d : Nat) (ls st : List ex_V) (h : ex_H) : ex_ev d 1 2 ls st h = ex_xs 1 (ex_ev d 1) (ex_cd d) [.iinc 5 1, .goto 1] ls st h := ex_ev_eq d 1 2 ls st h
set_option maxRecDepth 20000 in
theorem ev_1_3 (d : Nat) (ls st : List ex_V) (h : ex_H) : ex_ev d 1 3 ls st h = ex_xs 1 (ex_ev d 1) (ex_cd d) [.iload 4, .ireturn] ls st h := ex_ev_eq d 1 3 ls st h
set_option maxRecDepth 20000 in
theorem ev_2_0 (d : Nat) (ls st : List ex_V) (h : ex_H) : ex_ev d 2 0 ls st h = ex_xs 1 (ex_ev d 2) (ex_cd d) [.sipush 0, .istore 2, .sipush 0, .istore 3, .goto_w 1] ls st h := ex_ev_eq d 2 0 ls st h
set_option maxRecDepth 20000 in
theorem ev_2_1 (d : Nat) (ls st : List ex_V) (h : ex_H) : ex_ev d 2 1 ls st h = ex_xs 1 (ex_ev d 2) (ex_cd d) [.iload 3, .aload 1, .getfield 65, .if_icmp .ge 6, .aload 1, .getfield 76, .iload 3, .iaload, .sipush (-1), .if_icmp .eq 2, .aload 1, .iload 3, .sipush 4, .invokevirtual 17, .ifCond .le 2, .sipush 1, .goto 3] ls st h := ex_ev_eq d 2 1 ls st h
set_option maxRecDepth 20000 in
theorem ev_2_2 (d : Nat) (ls st : List ex_V) (h : ex_H) : ex_ev d 2 2 ls st h = ex_xs 1 (ex_ev d 2) (ex_cd d) [.sipush 0, .goto_w 3] ls st h := ex_ev_eq d 2 2 ls st h
set_option maxRecDepth 20000 in
theorem ev_2_3 (d : Nat) (ls st : List ex_V) (h : ex_H) : ex_ev d 2 3 ls st h = ex_xs 1 (ex_ev d 2) (ex_cd d) [.istore 4, .iload 2, .iload 4, .ifCond .eq 4, .sipush 1, .iload 3, .ishl, .goto 5] ls st h := ex_ev_eq d 2 3 ls st h
set_option maxRecDepth 20000 in
theorem ev_2_4 (d : Nat) (ls st : List ex_V) (h : ex_H) : ex_ev d 2 4 ls st h = ex_xs 1 (ex_ev d 2) (ex_cd d) [.sipush 0, .goto_w 5] ls st h := ex_ev_eq d 2 4 ls st h
set_option maxRecDepth 20000 in
theorem ev_2_5 (d : Nat) (ls st : List ex_V) (h : ex_H) : ex_ev d 2 5 ls st h = ex_xs 1 (ex_ev d 2) (ex_cd d) [.ior, .istore 2, .iinc 3 1, .goto 1] ls st h := ex_ev_eq d 2 5 ls st h
set_option maxRecDepth 20000 in
theorem ev_2_6 (d : Nat) (ls st : List ex_V) (h : ex_H) : ex_ev d 2 6 ls st h = ex_xs 1 (ex_ev d 2) (ex_cd d) [.iload 2, .ireturn] ls st h := ex_ev_eq d 2 6 ls st h
set_option maxRecDepth 20000 in
theorem ev_3_0 (d : Nat) (ls st : List ex_V) (h : ex_H) : ex_ev d 3 0 ls st h = ex_xs 2 (ex_ev d 3) (ex_cd d) [.sipush 0, .istore 4, .sipush 0, .istore 5, .goto_w 1] ls st h := ex_ev_eq d 3 0 ls st h
set_option maxRecDepth 20000 in
theorem ev_3_1 (d : Nat) (ls st : List ex_V) (h : ex_H) : ex_ev d 3 1 ls st h = ex_xs 2 (ex_ev d 3) (ex_cd d) [.iload 5, .aload 1, .getfield 65, .if_icmp .ge 4, .aload 0, .getfield 1, .iload 5, .iload 3, .iload 5, .ishr, .sipush 1, .iand, .ifCond .ne 2, .sipush 0, .goto 3] ls st h := ex_ev_eq d 3 1 ls st h
set_option maxRecDepth 20000 in
theorem ev_3_2 (d : Nat) (ls st : List ex_V) (h : ex_H) : ex_ev d 3 2 ls st h = ex_xs 2 (ex_ev d 3) (ex_cd d) [.aload 1, .iload 5, .sipush 4, .invokevirtual 17, .goto_w 3] ls st h := ex_ev_eq d 3 2 ls st h
set_option maxRecDepth 20000 in
theorem ev_3_3 (d : Nat) (ls st : List ex_V) (h : ex_H) : ex_ev d 3 3 ls st h = ex_xs 2 (ex_ev d 3) (ex_cd d) [.iastore, .iload 4, .aload 0, .getfield 1, .iload 5, .iaload, .iadd, .istore 4, .iinc 5 1, .goto 1] ls st h := ex_ev_eq d 3 3 ls st h
set_option maxRecDepth 20000 in
theorem ev_3_4 (d : Nat) (ls st : List ex_V) (h : ex_H) : ex_ev d 3 4 ls st h = ex_xs 2 (ex_ev d 3) (ex_cd d) [.sipush 23, .istore 5, .goto_w 5] ls st h := ex_ev_eq d 3 4 ls st h
set_option maxRecDepth 20000 in
theorem ev_3_5 (d : Nat) (ls st : List ex_V) (h : ex_H) : ex_ev d 3 5 ls st h = ex_xs 2 (ex_ev d 3) (ex_cd d) [.iload 5, .ifCond .lt 9, .aload 0, .getfield 0, .iload 5, .sipush 0, .iastore, .sipush 0, .istore 6, .goto_w 6] ls st h := ex_ev_eq d 3 5 ls st h
set_option maxRecDepth 20000 in
theorem ev_3_6 (d : Nat) (ls st : List ex_V) (h : ex_H) : ex_ev d 3 6 ls st h = ex_xs 2 (ex_ev d 3) (ex_cd d) [.iload 6, .iload 2, .if_icmp .ge 8, .aload 0, .aload 1, .iload 5, .invokevirtual 4, .istore 7, .iload 7, .sipush (-1), .if_icmp .eq 7, .aload 0, .getfield 0, .iload 5, .dup2, .iaload, .sipush 1, .iload 7, .ishl, .ior, .iastore, .goto_w 7] ls st h := ex_ev_eq d 3 6 ls st h
set_option maxRecDepth 20000 in
theorem ev_3_7 (d : Nat) (ls st : List ex_V) (h : ex_H) : ex_ev d 3 7 ls st h = ex_xs 2 (ex_ev d 3) (ex_cd d) [.iinc 6 1, .goto 6] ls st h := ex_ev_eq d 3 7 ls st h
set_option maxRecDepth 20000 in
theorem ev_3_8 (d : Nat) (ls st : List ex_V) (h : ex_H) : ex_ev d 3 8 ls st h = ex_xs 2 (ex_ev d 3) (ex_cd d) [.iload 4, .aload 0, .aload 1, .aload 0, .getfield 0, .iload 5, .iaload, .invokevirtual 5, .isub, .istore 4, .iinc 5 (-1), .goto 5] ls st h := ex_ev_eq d 3 8 ls st h
set_option maxRecDepth 20000 in
theorem ev_3_9 (d : Nat) (ls st : List ex_V) (h : ex_H) : ex_ev d 3 9 ls st h = ex_xs 2 (ex_ev d 3) (ex_cd d) [.iload 4, .ifCond .ne 10, .sipush 1, .goto 11] ls st h := ex_ev_eq d 3 9 ls st h
set_option maxRecDepth 20000 in
theorem ev_3_10 (d : Nat) (ls st : List ex_V) (h : ex_H) : ex_ev d 3 10 ls st h = ex_xs 2 (ex_ev d 3) (ex_cd d) [.sipush 0, .goto_w 11] ls st h := ex_ev_eq d 3 10 ls st h
set_option maxRecDepth 20000 in
theorem ev_3_11 (d : Nat) (ls st : List ex_V) (h : ex_H) : ex_ev d 3 11 ls st h = ex_xs 2 (ex_ev d 3) (ex_cd d) [.ireturn] ls st h := ex_ev_eq d 3 11 ls st h
set_option maxRecDepth 20000 in
theorem ev_4_0 (d : Nat) (ls st : List ex_V) (h : ex_H) : ex_ev d 4 0 ls st h = ex_xs 1 (ex_ev d 4) (ex_cd d) [.sipush (-1), .istore 3, .sipush 0, .istore 4, .sipush 0, .istore 5, .goto_w 1] ls st h := ex_ev_eq d 4 0 ls st h
set_option maxRecDepth 20000 in
theorem ev_4_1 (d : Nat) (ls st : List ex_V) (h : ex_H) : ex_ev d 4 1 ls st h = ex_xs 1 (ex_ev d 4) (ex_cd d) [.iload 5, .aload 1, .getfield 65, .if_icmp .ge 3, .aload 0, .getfield 1, .iload 5, .iaload, .iload 4, .if_icmp .le 2, .aload 0, .getfield 0, .iload 2, .iaload, .iload 5, .ishr, .sipush 1, .iand, .ifCond .ne 2, .aload 1, .iload 5, .sipush 3, .invokevirtual 17, .iload 2, .if_icmp .le 2, .iload 5, .istore 3, .aload 0, .getfield 1, .iload 5, .iaload, .istore 4, .goto_w 2] ls st h := ex_ev_eq d 4 1 ls st h
set_option maxRecDepth 20000 in
theorem ev_4_2 (d : Nat) (ls st : List ex_V) (h : ex_H) : ex_ev d 4 2 ls st h = ex_xs 1 (ex_ev d 4) (ex_cd d) [.iinc 5 1, .goto 1] ls st h := ex_ev_eq d 4 2 ls st h
set_option maxRecDepth 20000 in
theorem ev_4_3 (d : Nat) (ls st : List ex_V) (h : ex_H) : ex_ev d 4 3 ls st h = ex_xs 1 (ex_ev d 4) (ex_cd d) [.iload 3, .ireturn] ls st h := ex_ev_eq d 4 3 ls st h
set_option maxRecDepth 20000 in
theorem ev_5_0 (d : Nat) (ls st : List ex_V) (h : ex_H) : ex_ev d 5 0 ls st h = ex_xs 1 (ex_ev d 5) (ex_cd d) [.sipush 0, .istore 3, .goto_w 1] ls st h := ex_ev_eq d 5 0 ls st h
set_option maxRecDepth 20000 in
theorem ev_5_1 (d : Nat) (ls st : List ex_V) (h : ex_H) : ex_ev d 5 1 ls st h = ex_xs 1 (ex_ev d 5) (ex_cd d) [.iload 3, .aload 1, .getfield 65, .if_icmp .ge 2, .aload 0, .getfield 1, .iload 3, .dup2, .iaload, .iload 2, .iload 3, .ishr, .sipush 1, .iand, .isub, .iastore, .iinc 3 1, .goto 1] ls st h := ex_ev_eq d 5 1 ls st h
set_option maxRecDepth 20000 in
theorem ev_5_2 (d : Nat) (ls st : List ex_V) (h : ex_H) : ex_ev d 5 2 ls st h = ex_xs 1 (ex_ev d 5) (ex_cd d) [.iload 2, .invokestatic 235, .ireturn] ls st h := ex_ev_eq d 5 2 ls st h
set_option maxRecDepth 20000 in
theorem ev_6_0 (d : Nat) (ls st : List ex_V) (h : ex_H) : ex_ev d 6 0 ls st h = ex_xs 0 (ex_ev d 6) (ex_cd d) [.aload 0, .invokedynamic 1, .aload 0, .new 2, .dup, .invokespecial 9, .putfield 32, .aload 0, .new 4, .dup, .invokespecial 43, .putfield 33, .aload 0, .new 3, .dup, .invokespecial 38, .putfield 34, .aload 0, .sipush 25, .newarray .int, .putfield 35, .aload 0, .sipush 16, .newarray .int, .putfield 36, .aload 0, .sipush 7, .newarray .int, .putfield 37, .aload 0, .sipush 0, .putfield 38, .aload 0, .sipush 0, .putfield 39, .aload 0, .sipush 0, .putfield 40, .aload 0, .sipush 1, .putfield 41, .aload 0, .sipush 0, .putfield 42, .aload 0, .sipush 10, .putfield 43, .aload 0, .sipush 0, .putfield 44, .return_] ls st h := ex_ev_eq d 6 0 ls st h
set_option maxRecDepth 20000 in
theorem ev_7_0 (d : Nat) (ls st : List ex_V) (h : ex_H) : ex_ev d 7 0 ls st h = ex_xs 0 (ex_ev d 7) (ex_cd d) [.aload 0, .getfield 32, .aload 1, .getfield 32, .invokevirtual 10, .aload 0, .getfield 33, .aload 1, .getfield 33, .invokevirtual 44, .aload 0, .getfield 34, .aload 1, .getfield 34, .invokevirtual 39, .aload 1, .getfield 35, .sipush 0, .aload 0, .getfield 35, .sipush 0, .aload 0, .getfield 35, .arraylength, .invokedynamic 0, .aload 1, .getfield 36, .sipush 0, .aload 0, .getfield 36, .sipush 0, .aload 0, .getfield 36, .arraylength, .invokedynamic 0, .aload 1, .getfield 37, .sipush 0, .aload 0, .getfield 37, .sipush 0, .aload 0, .getfield 37, .arraylength, .invokedynamic 0, .aload 0, .aload 1, .getfield 38, .putfield 38, .aload 0, .aload 1, .getfield 39, .putfield 39, .aload 0, .aload 1, .getfield 40, .putfield 40, .aload 0, .aload 1, .getfield 41, .putfield 41, .aload 0, .aload 1, .getfield 42, .putfield 42, .aload 0, .aload 1, .getfield 43, .putfield 43, .aload 0, .aload 1, .getfield 44, .putfield 44, .return_] ls st h := ex_ev_eq d 7 0 ls st h
set_option maxRecDepth 20000 in
theorem ev_8_0 (d : Nat) (ls st : List ex_V) (h : ex_H) : ex_ev d 8 0 ls st h = ex_xs 1 (ex_ev d 8) (ex_cd d) [.sipush 0, .istore 2, .goto_w 1] ls st h := ex_ev_eq d 8 0 ls st h
set_option maxRecDepth 20000 in
theorem ev_8_1 (d : Nat) (ls st : List ex_V) (h : ex_H) : ex_ev d 8 1 ls st h = ex_xs 1 (ex_ev d 8) (ex_cd d) [.iload 2, .aload 0, .getfield 39, .if_icmp .ge 3, .aload 0, .getfield 37, .iload 2, .iaload, .iload 1, .if_icmp .ne 2, .iload 2, .ireturn] ls st h := ex_ev_eq d 8 1 ls st h
set_option maxRecDepth 20000 in
theorem ev_8_2 (d : Nat) (ls st : List ex_V) (h : ex_H) : ex_ev d 8 2 ls st h = ex_xs 1 (ex_ev d 8) (ex_cd d) [.iinc 2 1, .goto 1] ls st h := ex_ev_eq d 8 2 ls st h
set_option maxRecDepth 20000 in
theorem ev_8_3 (d : Nat) (ls st : List ex_V) (h : ex_H) : ex_ev d 8 3 ls st h = ex_xs 1 (ex_ev d 8) (ex_cd d) [.sipush (-1), .ireturn] ls st h := ex_ev_eq d 8 3 ls st h
set_option maxRecDepth 20000 in
theorem ev_9_0 (d : Nat) (ls st : List ex_V) (h : ex_H) : ex_ev d 9 0 ls st h = ex_xs 0 (ex_ev d 9) (ex_cd d) [.aload 0, .invokedynamic 1, .aload 0, .sipush 0, .putfield 64, .aload 0, .sipush 0, .putfield 65, .aload 0, .sipush 5, .newarray .int, .putfield 66, .aload 0, .sipush 5, .newarray .int, .putfield 67, .aload 0, .sipush 5, .newarray .int, .putfield 68, .aload 0, .sipush 5, .newarray .int, .putfield 69, .aload 0, .sipush 5, .newarray .int, .putfield 70, .aload 0, .sipush 5, .newarray .int, .putfield 71, .aload 0, .sipush 5, .newarray .int, .putfield 72, .aload 0, .sipush 5, .newarray .int, .putfield 73, .aload 0, .sipush 40, .newarray .int, .putfield 74, .aload 0, .sipush 48, .newarray .int, .putfield 75, .aload 0, .sipush 8, .newarray .int, .putfield 76, .return_] ls st h := ex_ev_eq d 9 0 ls st h
set_option maxRecDepth 20000 in
theorem ev_10_0 (d : Nat) (ls st : List ex_V) (h : ex_H) : ex_ev d 10 0 ls st h = ex_xs 0 (ex_ev d 10) (ex_cd d) [.aload 0, .aload 1, .getfield 64, .putfield 64, .aload 0, .aload 1, .getfield 65, .putfield 65, .aload 1, .getfield 66, .sipush 0, .aload 0, .getfield 66, .sipush 0, .aload 0, .getfield 66, .arraylength, .invokedynamic 0, .aload 1, .getfield 67, .sipush 0, .aload 0, .getfield 67, .sipush 0, .aload 0, .getfield 67, .arraylength, .invokedynamic 0, .aload 1, .getfield 68, .sipush 0, .aload 0, .getfield 68, .sipush 0, .aload 0, .getfield 68, .arraylength, .invokedynamic 0, .aload 1, .getfield 69, .sipush 0, .aload 0, .getfield 69, .sipush 0, .aload 0, .getfield 69, .arraylength, .invokedynamic 0, .aload 1, .getfield 70, .sipush 0, .aload 0, .getfield 70, .sipush 0, .aload 0, .getfield 70, .arraylength, .invokedynamic 0, .aload 1, .getfield 71, .sipush 0, .aload 0, .getfield 71, .sipush 0, .aload 0, .getfield 71, .arraylength, .invokedynamic 0, .aload 1, .getfield 72, .sipush 0, .aload 0, .getfield 72, .sipush 0, .aload 0, .getfield 72, .arraylength, .invokedynamic 0, .aload 1, .getfield 73, .sipush 0, .aload 0, .getfield 73, .sipush 0, .aload 0, .getfield 73, .arraylength, .invokedynamic 0, .aload 1, .getfield 74, .sipush 0, .aload 0, .getfield 74, .sipush 0, .aload 0, .getfield 74, .arraylength, .invokedynamic 0, .aload 1, .getfield 75, .sipush 0, .aload 0, .getfield 75, .sipush 0, .aload 0, .getfield 75, .arraylength, .invokedynamic 0, .aload 1, .getfield 76, .sipush 0, .aload 0, .getfield 76, .sipush 0, .aload 0, .getfield 76, .arraylength, .invokedynamic 0, .return_] ls st h := ex_ev_eq d 10 0 ls st h
set_option maxRecDepth 20000 in
theorem ev_11_0 (d : Nat) (ls st : List ex_V) (h : ex_H) : ex_ev d 11 0 ls st h = ex_xs 2 (ex_ev d 11) (ex_cd d) [.iload 0, .ifCond .lt 1, .iload 0, .getstatic 0, .arraylength, .if_icmp .ge 1, .sipush 1, .goto 2] ls st h := ex_ev_eq d 11 0 ls st h
set_option maxRecDepth 20000 in
theorem ev_11_1 (d : Nat) (ls st : List ex_V) (h : ex_H) : ex_ev d 11 1 ls st h = ex_xs 2 (ex_ev d 11) (ex_cd d) [.sipush 0, .goto_w 2] ls st h := ex_ev_eq d 11 1 ls st h
set_option maxRecDepth 20000 in
theorem ev_11_2 (d : Nat) (ls st : List ex_V) (h : ex_H) : ex_ev d 11 2 ls st h = ex_xs 2 (ex_ev d 11) (ex_cd d) [.ireturn] ls st h := ex_ev_eq d 11 2 ls st h
set_option maxRecDepth 20000 in
theorem ev_12_0 (d : Nat) (ls st : List ex_V) (h : ex_H) : ex_ev d 12 0 ls st h = ex_xs 2 (ex_ev d 12) (ex_cd d) [.iload 0, .ifCond .lt 1, .iload 0, .sipush 6, .if_icmp .ge 1, .iload 1, .getstatic 1, .iload 0, .iaload, .if_icmp .lt 1, .iload 1, .getstatic 2, .iload 0, .iaload, .if_icmp .gt 1, .sipush 1, .goto 2] ls st h := ex_ev_eq d 12 0 ls st h
set_option maxRecDepth 20000 in
theorem ev_12_1 (d : Nat) (ls st : List ex_V) (h : ex_H) : ex_ev d 12 1 ls st h = ex_xs 2 (ex_ev d 12) (ex_cd d) [.sipush 0, .goto_w 2] ls st h := ex_ev_eq d 12 1 ls st h
set_option maxRecDepth 20000 in
theorem ev_12_2 (d : Nat) (ls st : List ex_V) (h : ex_H) : ex_ev d 12 2 ls st h = ex_xs 2 (ex_ev d 12) (ex_cd d) [.ireturn] ls st h := ex_ev_eq d 12 2 ls st h
set_option maxRecDepth 20000 in
theorem ev_13_0 (d : Nat) (ls st : List ex_V) (h : ex_H) : ex_ev d 13 0 ls st h = ex_xs 2 (ex_ev d 13) (ex_cd d) [.iload 1, .ifCond .lt 1, .iload 1, .aload 0, .getfield 64, .if_icmp .ge 1, .sipush 1, .goto 2] ls st h := ex_ev_eq d 13 0 ls st h
set_option maxRecDepth 20000 in
theorem ev_13_1 (d : Nat) (ls st : List ex_V) (h : ex_H) : ex_ev d 13 1 ls st h = ex_xs 2 (ex_ev d 13) (ex_cd d) [.sipush 0, .goto_w 2] ls st h := ex_ev_eq d 13 1 ls st h
set_option maxRecDepth 20000 in
theorem ev_13_2 (d : Nat) (ls st : List ex_V) (h : ex_H) : ex_ev d 13 2 ls st h = ex_xs 2 (ex_ev d 13) (ex_cd d) [.ireturn] ls st h := ex_ev_eq d 13 2 ls st h
set_option maxRecDepth 20000 in
theorem ev_14_0 (d : Nat) (ls st : List ex_V) (h : ex_H) : ex_ev d 14 0 ls st h = ex_xs 2 (ex_ev d 14) (ex_cd d) [.iload 1, .ifCond .lt 1, .iload 1, .aload 0, .getfield 65, .if_icmp .ge 1, .sipush 1, .goto 2] ls st h := ex_ev_eq d 14 0 ls st h
set_option maxRecDepth 20000 in
theorem ev_14_1 (d : Nat) (ls st : List ex_V) (h : ex_H) : ex_ev d 14 1 ls st h = ex_xs 2 (ex_ev d 14) (ex_cd d) [.sipush 0, .goto_w 2] ls st h := ex_ev_eq d 14 1 ls st h
set_option maxRecDepth 20000 in
theorem ev_14_2 (d : Nat) (ls st : List ex_V) (h : ex_H) : ex_ev d 14 2 ls st h = ex_xs 2 (ex_ev d 14) (ex_cd d) [.ireturn] ls st h := ex_ev_eq d 14 2 ls st h
set_option maxRecDepth 20000 in
theorem ev_15_0 (d : Nat) (ls st : List ex_V) (h : ex_H) : ex_ev d 15 0 ls st h = ex_xs 1 (ex_ev d 15) (ex_cd d) [.aload 0, .getfield 64, .istore 5, .aload 0, .getfield 66, .iload 5, .iload 1, .iastore, .aload 0, .getfield 67, .iload 5, .iload 2, .iastore, .aload 0, .getfield 68, .iload 5, .iload 3, .iastore, .aload 0, .getfield 69, .iload 5, .iload 4, .iastore, .aload 0, .getfield 70, .iload 5, .sipush 100, .iastore, .aload 0, .getfield 71, .iload 5, .sipush 0, .iastore, .aload 0, .getfield 72, .iload 5, .sipush 0, .iastore, .aload 0, .getfield 73, .iload 5, .sipush 0, .iastore, .aload 0, .dup, .getfield 64, .sipush 1, .iadd, .putfield 64, .iload 5, .ireturn] ls st h := ex_ev_eq d 15 0 ls st h
set_option maxRecDepth 20000 in
theorem ev_16_0 (d : Nat) (ls st : List ex_V) (h : ex_H) : ex_ev d 16 0 ls st h = ex_xs 1 (ex_ev d 16) (ex_cd d) [.aload 0, .getfield 65, .istore 7, .iload 7, .sipush 6, .imul, .istore 8, .aload 0, .getfield 75, .iload 8, .sipush 0, .iadd, .iload 1, .iastore, .aload 0, .getfield 75, .iload 8, .sipush 1, .iadd, .iload 2, .iastore, .aload 0, .getfield 75, .iload 8, .sipush 2, .iadd, .iload 3, .iastore, .aload 0, .getfield 75, .iload 8, .sipush 3, .iadd, .iload 4, .iastore, .aload 0, .getfield 75, .iload 8, .sipush 4, .iadd, .iload 5, .iastore, .aload 0, .getfield 75, .iload 8, .sipush 5, .iadd, .iload 6, .iastore, .aload 0, .getfield 76, .iload 7, .sipush (-1), .iastore, .aload 0, .dup, .getfield 65, .sipush 1, .iadd, .putfield 65, .iload 7, .ireturn] ls st h := ex_ev_eq d 16 0 ls st h
set_option maxRecDepth 20000 in
theorem ev_17_0 (d : Nat) (ls st : List ex_V) (h : ex_H) : ex_ev d 17 0 ls st h = ex_xs 1 (ex_ev d 17) (ex_cd d) [.aload 0, .getfield 75, .iload 1, .sipush 6, .imul, .iload 2, .iadd, .iaload, .ireturn] ls st h := ex_ev_eq d 17 0 ls st h
set_option maxRecDepth 20000 in
theorem ev_18_0 (d : Nat) (ls st : List ex_V) (h : ex_H) : ex_ev d 18 0 ls st h = ex_xs 1 (ex_ev d 18) (ex_cd d) [.aload 0, .getfield 75, .iload 1, .sipush 6, .imul, .iload 2, .iadd, .iaload, .istore 4, .aload 0, .getfield 75, .iload 1, .sipush 6, .imul, .iload 2, .iadd, .iload 3, .iastore, .iload 4, .ireturn] ls st h := ex_ev_eq d 18 0 ls st h
set_option maxRecDepth 20000 in
theorem ev_19_0 (d : Nat) (ls st : List ex_V) (h : ex_H) : ex_ev d 19 0 ls st h = ex_xs 2 (ex_ev d 19) (ex_cd d) [.aload 0, .getfield 66, .iload 1, .iaload, .istore 3, .sipush 0, .istore 4, .goto_w 1] ls st h := ex_ev_eq d 19 0 ls st h
set_option maxRecDepth 20000 in
theorem ev_19_1 (d : Nat) (ls st : List ex_V) (h : ex_H) : ex_ev d 19 1 ls st h = ex_xs 2 (ex_ev d 19) (ex_cd d) [.iload 4, .getstatic 0, .arraylength, .if_icmp .ge 3, .iload 3, .sipush (-1), .if_icmp .eq 3, .iload 3, .iload 2, .if_icmp .ne 2, .sipush 1, .ireturn] ls st h := ex_ev_eq d 19 1 ls st h
set_option maxRecDepth 20000 in
theorem ev_19_2 (d : Nat) (ls st : List ex_V) (h : ex_H) : ex_ev d 19 2 ls st h = ex_xs 2 (ex_ev d 19) (ex_cd d) [.getstatic 0, .iload 3, .iaload, .istore 3, .iinc 4 1, .goto 1] ls st h := ex_ev_eq d 19 2 ls st h
set_option maxRecDepth 20000 in
theorem ev_19_3 (d : Nat) (ls st : List ex_V) (h : ex_H) : ex_ev d 19 3 ls st h = ex_xs 2 (ex_ev d 19) (ex_cd d) [.sipush 0, .ireturn] ls st h := ex_ev_eq d 19 3 ls st h
set_option maxRecDepth 20000 in
theorem ev_20_0 (d : Nat) (ls st : List ex_V) (h : ex_H) : ex_ev d 20 0 ls st h = ex_xs 1 (ex_ev d 20) (ex_cd d) [.aload 0, .getfield 66, .iload 1, .iaload, .sipush 1, .if_icmp .eq 1, .aload 0, .getfield 66, .iload 1, .iaload, .sipush 3, .if_icmp .ne 2, .goto_w 1] ls st h := ex_ev_eq d 20 0 ls st h
set_option maxRecDepth 20000 in
theorem ev_20_1 (d : Nat) (ls st : List ex_V) (h : ex_H) : ex_ev d 20 1 ls st h = ex_xs 1 (ex_ev d 20) (ex_cd d) [.sipush 1, .goto 3] ls st h := ex_ev_eq d 20 1 ls st h
set_option maxRecDepth 20000 in
theorem ev_20_2 (d : Nat) (ls st : List ex_V) (h : ex_H) : ex_ev d 20 2 ls st h = ex_xs 1 (ex_ev d 20) (ex_cd d) [.sipush 0, .goto_w 3] ls st h := ex_ev_eq d 20 2 ls st h
set_option maxRecDepth 20000 in
theorem ev_20_3 (d : Nat) (ls st : List ex_V) (h : ex_H) : ex_ev d 20 3 ls st h = ex_xs 1 (ex_ev d 20) (ex_cd d) [.ireturn] ls st h := ex_ev_eq d 20 3 ls st h
set_option maxRecDepth 20000 in
theorem ev_21_0 (d : Nat) (ls st : List ex_V) (h : ex_H) : ex_ev d 21 0 ls st h = ex_xs 1 (ex_ev d 21) (ex_cd d) [.aload 0, .getfield 66, .iload 1, .iaload, .sipush 3, .if_icmp .ne 1, .aload 0, .getfield 69, .iload 1, .iaload, .sipush 2, .idiv, .goto 2] ls st h := ex_ev_eq d 21 0 ls st h
set_option maxRecDepth 20000 in
theorem ev_21_1 (d : Nat) (ls st : List ex_V) (h : ex_H) : ex_ev d 21 1 ls st h = ex_xs 1 (ex_ev d 21) (ex_cd d) [.aload 0, .getfield 69, .iload 1, .iaload, .goto_w 2] ls st h := ex_ev_eq d 21 1 ls st h
set_option maxRecDepth 20000 in
theorem ev_21_2 (d : Nat) (ls st : List ex_V) (h : ex_H) : ex_ev d 21 2 ls st h = ex_xs 1 (ex_ev d 21) (ex_cd d) [.ireturn] ls st h := ex_ev_eq d 21 2 ls st h
set_option maxRecDepth 20000 in
theorem ev_22_0 (d : Nat) (ls st : List ex_V) (h : ex_H) : ex_ev d 22 0 ls st h = ex_xs 2 (ex_ev d 22) (ex_cd d) [.aload 0, .iload 1, .sipush 1, .invokevirtual 17, .aload 0, .getfield 68, .iload 2, .iaload, .if_icmp .gt 1, .aload 0, .iload 1, .sipush 2, .invokevirtual 17, .aload 0, .iload 2, .invokevirtual 21, .if_icmp .gt 1, .sipush 1, .goto 2] ls st h := ex_ev_eq d 22 0 ls st h
set_option maxRecDepth 20000 in
theorem ev_22_1 (d : Nat) (ls st : List ex_V) (h : ex_H) : ex_ev d 22 1 ls st h = ex_xs 2 (ex_ev d 22) (ex_cd d) [.sipush 0, .goto_w 2] ls st h := ex_ev_eq d 22 1 ls st h
set_option maxRecDepth 20000 in
theorem ev_22_2 (d : Nat) (ls st : List ex_V) (h : ex_H) : ex_ev d 22 2 ls st h = ex_xs 2 (ex_ev d 22) (ex_cd d) [.ireturn] ls st h := ex_ev_eq d 22 2 ls st h
set_option maxRecDepth 20000 in
theorem ev_23_0 (d : Nat) (ls st : List ex_V) (h : ex_H) : ex_ev d 23 0 ls st h = ex_xs 1 (ex_ev d 23) (ex_cd d) [.aload 0, .getfield 74, .iload 1, .sipush 8, .imul, .iload 2, .iadd, .iaload, .ireturn] ls st h := ex_ev_eq d 23 0 ls st h
set_option maxRecDepth 20000 in
theorem ev_24_0 (d : Nat) (ls st : List ex_V) (h : ex_H) : ex_ev d 24 0 ls st h = ex_xs 1 (ex_ev d 24) (ex_cd d) [.aload 0, .getfield 67, .iload 1, .iaload, .istore 2, .sipush 0, .istore 3, .goto_w 1] ls st h := ex_ev_eq d 24 0 ls st h
set_option maxRecDepth 20000 in
theorem ev_24_1 (d : Nat) (ls st : List ex_V) (h : ex_H) : ex_ev d 24 1 ls st h = ex_xs 1 (ex_ev d 24) (ex_cd d) [.iload 3, .aload 0, .getfield 73, .iload 1, .iaload, .if_icmp .ge 2, .iload 2, .aload 0, .aload 0, .iload 1, .iload 3, .invokevirtual 23, .sipush 0, .invokevirtual 17, .isub, .istore 2, .iinc 3 1, .goto 1] ls st h := ex_ev_eq d 24 1 ls st h
set_option maxRecDepth 20000 in
theorem ev_24_2 (d : Nat) (ls st : List ex_V) (h : ex_H) : ex_ev d 24 2 ls st h = ex_xs 1 (ex_ev d 24) (ex_cd d) [.iload 2, .ireturn] ls st h := ex_ev_eq d 24 2 ls st h
set_option maxRecDepth 20000 in
theorem ev_25_0 (d : Nat) (ls st : List ex_V) (h : ex_H) : ex_ev d 25 0 ls st h = ex_xs 2 (ex_ev d 25) (ex_cd d) [.aload 0, .getfield 72, .iload 1, .iaload, .ifCond .ne 1, .aload 0, .getfield 71, .iload 1, .iaload, .sipush 12, .if_icmp .lt 2, .goto_w 1] ls st h := ex_ev_eq d 25 0 ls st h
set_option maxRecDepth 20000 in
theorem ev_25_1 (d : Nat) (ls st : List ex_V) (h : ex_H) : ex_ev d 25 1 ls st h = ex_xs 2 (ex_ev d 25) (ex_cd d) [.sipush 1, .goto 3] ls st h := ex_ev_eq d 25 1 ls st h
set_option maxRecDepth 20000 in
theorem ev_25_2 (d : Nat) (ls st : List ex_V) (h : ex_H) : ex_ev d 25 2 ls st h = ex_xs 2 (ex_ev d 25) (ex_cd d) [.sipush 0, .goto_w 3] ls st h := ex_ev_eq d 25 2 ls st h
set_option maxRecDepth 20000 in
theorem ev_25_3 (d : Nat) (ls st : List ex_V) (h : ex_H) : ex_ev d 25 3 ls st h = ex_xs 2 (ex_ev d 25) (ex_cd d) [.ireturn] ls st h := ex_ev_eq d 25 3 ls st h
set_option maxRecDepth 20000 in
theorem ev_26_0 (d : Nat) (ls st : List ex_V) (h : ex_H) : ex_ev d 26 0 ls st h = ex_xs 2 (ex_ev d 26) (ex_cd d) [.aload 0, .getfield 76, .iload 1, .iaload, .istore 2, .iload 2, .sipush (-1), .if_icmp .eq 1, .aload 0, .getfield 73, .iload 2, .iaload, .ifCond .gt 2, .goto_w 1] ls st h := ex_ev_eq d 26 0 ls st h
set_option maxRecDepth 20000 in
theorem ev_26_1 (d : Nat) (ls st : List ex_V) (h : ex_H) : ex_ev d 26 1 ls st h = ex_xs 2 (ex_ev d 26) (ex_cd d) [.sipush 0, .ireturn] ls st h := ex_ev_eq d 26 1 ls st h
set_option maxRecDepth 20000 in
theorem ev_26_2 (d : Nat) (ls st : List ex_V) (h : ex_H) : ex_ev d 26 2 ls st h = ex_xs 2 (ex_ev d 26) (ex_cd d) [.aload 0, .iload 2, .aload 0, .getfield 73, .iload 2, .iaload, .sipush 1, .isub, .invokevirtual 23, .iload 1, .if_icmp .ne 3, .aload 0, .iload 2, .invokevirtual 25, .ifCond .ne 3, .sipush 1, .goto 4] ls st h := ex_ev_eq d 26 2 ls st h
set_option maxRecDepth 20000 in
theorem ev_26_3 (d : Nat) (ls st : List ex_V) (h : ex_H) : ex_ev d 26 3 ls st h = ex_xs 2 (ex_ev d 26) (ex_cd d) [.sipush 0, .goto_w 4] ls st h := ex_ev_eq d 26 3 ls st h
set_option maxRecDepth 20000 in
theorem ev_26_4 (d : Nat) (ls st : List ex_V) (h : ex_H) : ex_ev d 26 4 ls st h = ex_xs 2 (ex_ev d 26) (ex_cd d) [.ireturn] ls st h := ex_ev_eq d 26 4 ls st h
set_option maxRecDepth 20000 in
theorem ev_27_0 (d : Nat) (ls st : List ex_V) (h : ex_H) : ex_ev d 27 0 ls st h = ex_xs 1 (ex_ev d 27) (ex_cd d) [.aload 0, .getfield 76, .iload 1, .iaload, .sipush (-1), .if_icmp .eq 1, .sipush (-100007), .ireturn] ls st h := ex_ev_eq d 27 0 ls st h
set_option maxRecDepth 20000 in
theorem ev_27_1 (d : Nat) (ls st : List ex_V) (h : ex_H) : ex_ev d 27 1 ls st h = ex_xs 1 (ex_ev d 27) (ex_cd d) [.aload 0, .iload 1, .iload 2, .invokevirtual 22, .ifCond .ne 2, .sipush (-100004), .ireturn] ls st h := ex_ev_eq d 27 1 ls st h
set_option maxRecDepth 20000 in
theorem ev_27_2 (d : Nat) (ls st : List ex_V) (h : ex_H) : ex_ev d 27 2 ls st h = ex_xs 1 (ex_ev d 27) (ex_cd d) [.aload 0, .iload 2, .invokevirtual 25, .ifCond .eq 3, .sipush (-100008), .ireturn] ls st h := ex_ev_eq d 27 2 ls st h
set_option maxRecDepth 20000 in
theorem ev_27_3 (d : Nat) (ls st : List ex_V) (h : ex_H) : ex_ev d 27 3 ls st h = ex_xs 1 (ex_ev d 27) (ex_cd d) [.aload 0, .iload 1, .sipush 0, .invokevirtual 17, .aload 0, .iload 2, .invokevirtual 24, .if_icmp .le 4, .sipush (-100005), .goto 5] ls st h := ex_ev_eq d 27 3 ls st h
set_option maxRecDepth 20000 in
theorem ev_27_4 (d : Nat) (ls st : List ex_V) (h : ex_H) : ex_ev d 27 4 ls st h = ex_xs 1 (ex_ev d 27) (ex_cd d) [.sipush 0, .goto_w 5] ls st h := ex_ev_eq d 27 4 ls st h
set_option maxRecDepth 20000 in
theorem ev_27_5 (d : Nat) (ls st : List ex_V) (h : ex_H) : ex_ev d 27 5 ls st h = ex_xs 1 (ex_ev d 27) (ex_cd d) [.ireturn] ls st h := ex_ev_eq d 27 5 ls st h
set_option maxRecDepth 20000 in
theorem ev_28_0 (d : Nat) (ls st : List ex_V) (h : ex_H) : ex_ev d 28 0 ls st h = ex_xs 1 (ex_ev d 28) (ex_cd d) [.aload 0, .getfield 76, .iload 1, .iaload, .sipush (-1), .if_icmp .ne 1, .sipush (-100006), .ireturn] ls st h := ex_ev_eq d 28 0 ls st h
set_option maxRecDepth 20000 in
theorem ev_28_1 (d : Nat) (ls st : List ex_V) (h : ex_H) : ex_ev d 28 1 ls st h = ex_xs 1 (ex_ev d 28) (ex_cd d) [.aload 0, .getfield 76, .iload 1, .iaload, .iload 2, .if_icmp .ne 2, .sipush (-100007), .ireturn] ls st h := ex_ev_eq d 28 1 ls st h
set_option maxRecDepth 20000 in
theorem ev_28_2 (d : Nat) (ls st : List ex_V) (h : ex_H) : ex_ev d 28 2 ls st h = ex_xs 1 (ex_ev d 28) (ex_cd d) [.aload 0, .iload 1, .invokevirtual 26, .ifCond .eq 3, .aload 0, .iload 2, .invokevirtual 25, .ifCond .eq 4, .goto_w 3] ls st h := ex_ev_eq d 28 2 ls st h
set_option maxRecDepth 20000 in
theorem ev_28_3 (d : Nat) (ls st : List ex_V) (h : ex_H) : ex_ev d 28 3 ls st h = ex_xs 1 (ex_ev d 28) (ex_cd d) [.sipush (-100008), .ireturn] ls st h := ex_ev_eq d 28 3 ls st h
set_option maxRecDepth 20000 in
theorem ev_28_4 (d : Nat) (ls st : List ex_V) (h : ex_H) : ex_ev d 28 4 ls st h = ex_xs 1 (ex_ev d 28) (ex_cd d) [.aload 0, .iload 1, .iload 2, .invokevirtual 22, .ifCond .ne 5, .sipush (-100004), .ireturn] ls st h := ex_ev_eq d 28 4 ls st h
set_option maxRecDepth 20000 in
theorem ev_28_5 (d : Nat) (ls st : List ex_V) (h : ex_H) : ex_ev d 28 5 ls st h = ex_xs 1 (ex_ev d 28) (ex_cd d) [.aload 0, .iload 1, .sipush 0, .invokevirtual 17, .aload 0, .iload 2, .invokevirtual 24, .if_icmp .le 6, .sipush (-100005), .goto 7] ls st h := ex_ev_eq d 28 5 ls st h
set_option maxRecDepth 20000 in
theorem ev_28_6 (d : Nat) (ls st : List ex_V) (h : ex_H) : ex_ev d 28 6 ls st h = ex_xs 1 (ex_ev d 28) (ex_cd d) [.sipush 0, .goto_w 7] ls st h := ex_ev_eq d 28 6 ls st h
set_option maxRecDepth 20000 in
theorem ev_28_7 (d : Nat) (ls st : List ex_V) (h : ex_H) : ex_ev d 28 7 ls st h = ex_xs 1 (ex_ev d 28) (ex_cd d) [.ireturn] ls st h := ex_ev_eq d 28 7 ls st h
set_option maxRecDepth 20000 in
theorem ev_29_0 (d : Nat) (ls st : List ex_V) (h : ex_H) : ex_ev d 29 0 ls st h = ex_xs 0 (ex_ev d 29) (ex_cd d) [.aload 0, .getfield 73, .iload 2, .iaload, .sipush 8, .if_icmp .lt 1, .return_] ls st h := ex_ev_eq d 29 0 ls st h
set_option maxRecDepth 20000 in
theorem ev_29_1 (d : Nat) (ls st : List ex_V) (h : ex_H) : ex_ev d 29 1 ls st h = ex_xs 0 (ex_ev d 29) (ex_cd d) [.aload 0, .getfield 74, .iload 2, .sipush 8, .imul, .aload 0, .getfield 73, .iload 2, .iaload, .iadd, .iload 1, .iastore, .aload 0, .getfield 73, .iload 2, .dup2, .iaload, .sipush 1, .iadd, .iastore, .aload 0, .getfield 76, .iload 1, .iload 2, .iastore, .aload 0, .getfield 71, .iload 2, .dup2, .iaload, .aload 0, .iload 2, .invokevirtual 20, .iadd, .iastore, .return_] ls st h := ex_ev_eq d 29 1 ls st h
set_option maxRecDepth 20000 in
theorem ev_30_0 (d : Nat) (ls st : List ex_V) (h : ex_H) : ex_ev d 30 0 ls st h = ex_xs 0 (ex_ev d 30) (ex_cd d) [.aload 0, .getfield 76, .iload 1, .iaload, .istore 2, .aload 0, .getfield 73, .iload 2, .dup2, .iaload, .sipush 1, .isub, .iastore, .aload 0, .getfield 76, .iload 1, .sipush (-1), .iastore, .aload 0, .getfield 71, .iload 2, .dup2, .iaload, .aload 0, .iload 2, .invokevirtual 20, .iadd, .iastore, .return_] ls st h := ex_ev_eq d 30 0 ls st h
set_option maxRecDepth 20000 in
theorem ev_31_0 (d : Nat) (ls st : List ex_V) (h : ex_H) : ex_ev d 31 0 ls st h = ex_xs 0 (ex_ev d 31) (ex_cd d) [.aload 0, .iload 1, .invokevirtual 30, .aload 0, .iload 1, .iload 2, .invokevirtual 29, .return_] ls st h := ex_ev_eq d 31 0 ls st h
set_option maxRecDepth 20000 in
theorem ev_32_0 (d : Nat) (ls st : List ex_V) (h : ex_H) : ex_ev d 32 0 ls st h = ex_xs 0 (ex_ev d 32) (ex_cd d) [.aload 0, .getfield 76, .iload 1, .iaload, .istore 3, .aload 0, .iload 1, .iload 2, .invokevirtual 31, .aload 0, .getfield 71, .iload 3, .dup2, .iaload, .sipush 2, .aload 0, .iload 3, .invokevirtual 20, .imul, .isub, .iastore, .aload 0, .getfield 71, .iload 2, .dup2, .iaload, .sipush 2, .aload 0, .iload 2, .invokevirtual 20, .imul, .isub, .iastore, .return_] ls st h := ex_ev_eq d 32 0 ls st h
set_option maxRecDepth 20000 in
theorem ev_33_0 (d : Nat) (ls st : List ex_V) (h : ex_H) : ex_ev d 33 0 ls st h = ex_xs 1 (ex_ev d 33) (ex_cd d) [.sipush 0, .istore 1, .sipush 0, .istore 2, .goto_w 1] ls st h := ex_ev_eq d 33 0 ls st h
set_option maxRecDepth 20000 in
theorem ev_33_1 (d : Nat) (ls st : List ex_V) (h : ex_H) : ex_ev d 33 1 ls st h = ex_xs 1 (ex_ev d 33) (ex_cd d) [.iload 2, .aload 0, .getfield 64, .if_icmp .ge 2, .iload 1, .aload 0, .getfield 71, .iload 2, .iaload, .iadd, .istore 1, .aload 0, .getfield 71, .iload 2, .sipush 0, .iastore, .iinc 2 1, .goto 1] ls st h := ex_ev_eq d 33 1 ls st h
set_option maxRecDepth 20000 in
theorem ev_33_2 (d : Nat) (ls st : List ex_V) (h : ex_H) : ex_ev d 33 2 ls st h = ex_xs 1 (ex_ev d 33) (ex_cd d) [.iload 1, .ireturn] ls st h := ex_ev_eq d 33 2 ls st h
set_option maxRecDepth 20000 in
theorem ev_34_0 (d : Nat) (ls st : List ex_V) (h : ex_H) : ex_ev d 34 0 ls st h = ex_xs 1 (ex_ev d 34) (ex_cd d) [.sipush 0, .istore 2, .aload 0, .getfield 76, .iload 1, .iaload, .istore 3, .iload 3, .sipush (-1), .if_icmp .ne 1, .iload 2, .ireturn] ls st h := ex_ev_eq d 34 0 ls st h
set_option maxRecDepth 20000 in
theorem ev_34_1 (d : Nat) (ls st : List ex_V) (h : ex_H) : ex_ev d 34 1 ls st h = ex_xs 1 (ex_ev d 34) (ex_cd d) [.aload 0, .getfield 73, .iload 3, .iaload, .sipush 1, .isub, .istore 4, .goto_w 2] ls st h := ex_ev_eq d 34 1 ls st h
set_option maxRecDepth 20000 in
theorem ev_34_2 (d : Nat) (ls st : List ex_V) (h : ex_H) : ex_ev d 34 2 ls st h = ex_xs 1 (ex_ev d 34) (ex_cd d) [.iload 4, .ifCond .lt 3, .aload 0, .iload 3, .iload 4, .invokevirtual 23, .iload 1, .if_icmp .eq 3, .iload 2, .sipush 1, .aload 0, .iload 3, .iload 4, .invokevirtual 23, .ishl, .ior, .istore 2, .iinc 4 (-1), .goto 2] ls st h := ex_ev_eq d 34 2 ls st h
set_option maxRecDepth 20000 in
theorem ev_34_3 (d : Nat) (ls st : List ex_V) (h : ex_H) : ex_ev d 34 3 ls st h = ex_xs 1 (ex_ev d 34) (ex_cd d) [.iload 2, .ireturn] ls st h := ex_ev_eq d 34 3 ls st h
set_option maxRecDepth 20000 in
theorem ev_35_0 (d : Nat) (ls st : List ex_V) (h : ex_H) : ex_ev d 35 0 ls st h = ex_xs 1 (ex_ev d 35) (ex_cd d) [.sipush 0, .istore 1, .sipush 0, .istore 2, .goto_w 1] ls st h := ex_ev_eq d 35 0 ls st h
set_option maxRecDepth 20000 in
theorem ev_35_1 (d : Nat) (ls st : List ex_V) (h : ex_H) : ex_ev d 35 1 ls st h = ex_xs 1 (ex_ev d 35) (ex_cd d) [.iload 2, .aload 0, .getfield 64, .if_icmp .ge 2, .iload 1, .aload 0, .getfield 73, .iload 2, .iaload, .iadd, .istore 1, .iinc 2 1, .goto 1] ls st h := ex_ev_eq d 35 1 ls st h
set_option maxRecDepth 20000 in
theorem ev_35_2 (d : Nat) (ls st : List ex_V) (h : ex_H) : ex_ev d 35 2 ls st h = ex_xs 1 (ex_ev d 35) (ex_cd d) [.iload 1, .ireturn] ls st h := ex_ev_eq d 35 2 ls st h
set_option maxRecDepth 20000 in
theorem ev_36_0 (d : Nat) (ls st : List ex_V) (h : ex_H) : ex_ev d 36 0 ls st h = ex_xs 1 (ex_ev d 36) (ex_cd d) [.sipush 0, .istore 2, .sipush 1, .istore 3, .goto_w 1] ls st h := ex_ev_eq d 36 0 ls st h
set_option maxRecDepth 20000 in
theorem ev_36_1 (d : Nat) (ls st : List ex_V) (h : ex_H) : ex_ev d 36 1 ls st h = ex_xs 1 (ex_ev d 36) (ex_cd d) [.iload 3, .aload 0, .getfield 73, .iload 1, .iaload, .if_icmp .ge 6, .aload 0, .aload 0, .iload 1, .iload 3, .invokevirtual 23, .sipush 3, .invokevirtual 17, .istore 4, .sipush 0, .istore 5, .goto_w 2] ls st h := ex_ev_eq d 36 1 ls st h
set_option maxRecDepth 20000 in
theorem ev_36_2 (d : Nat) (ls st : List ex_V) (h : ex_H) : ex_ev d 36 2 ls st h = ex_xs 1 (ex_ev d 36) (ex_cd d) [.iload 5, .iload 3, .if_icmp .ge 5, .iload 2, .iload 4, .aload 0, .aload 0, .iload 1, .iload 5, .invokevirtual 23, .sipush 3, .invokevirtual 17, .if_icmp .le 3, .sipush 2, .goto 4] ls st h := ex_ev_eq d 36 2 ls st h
set_option maxRecDepth 20000 in
theorem ev_36_3 (d : Nat) (ls st : List ex_V) (h : ex_H) : ex_ev d 36 3 ls st h = ex_xs 1 (ex_ev d 36) (ex_cd d) [.sipush 0, .goto_w 4] ls st h := ex_ev_eq d 36 3 ls st h
set_option maxRecDepth 20000 in
theorem ev_36_4 (d : Nat) (ls st : List ex_V) (h : ex_H) : ex_ev d 36 4 ls st h = ex_xs 1 (ex_ev d 36) (ex_cd d) [.iadd, .istore 2, .iinc 5 1, .goto 2] ls st h := ex_ev_eq d 36 4 ls st h
set_option maxRecDepth 20000 in
theorem ev_36_5 (d : Nat) (ls st : List ex_V) (h : ex_H) : ex_ev d 36 5 ls st h = ex_xs 1 (ex_ev d 36) (ex_cd d) [.iinc 3 1, .goto 1] ls st h := ex_ev_eq d 36 5 ls st h
set_option maxRecDepth 20000 in
theorem ev_36_6 (d : Nat) (ls st : List ex_V) (h : ex_H) : ex_ev d 36 6 ls st h = ex_xs 1 (ex_ev d 36) (ex_cd d) [.iload 2, .ireturn] ls st h := ex_ev_eq d 36 6 ls st h
set_option maxRecDepth 20000 in
theorem ev_37_0 (d : Nat) (ls st : List ex_V) (h : ex_H) : ex_ev d 37 0 ls st h = ex_xs 1 (ex_ev d 37) (ex_cd d) [.aload 0, .getfield 66, .iload 1, .iaload, .sipush 2, .if_icmp .ne 1, .sipush 0, .aload 0, .getfield 70, .iload 1, .iaload, .sipush 60, .isub, .invokestatic 236, .goto 2] ls st h := ex_ev_eq d 37 0 ls st h
set_option maxRecDepth 20000 in
theorem ev_37_1 (d : Nat) (ls st : List ex_V) (h : ex_H) : ex_ev d 37 1 ls st h = ex_xs 1 (ex_ev d 37) (ex_cd d) [.aload 0, .getfield 70, .iload 1, .iaload, .goto_w 2] ls st h := ex_ev_eq d 37 1 ls st h
set_option maxRecDepth 20000 in
theorem ev_37_2 (d : Nat) (ls st : List ex_V) (h : ex_H) : ex_ev d 37 2 ls st h = ex_xs 1 (ex_ev d 37) (ex_cd d) [.ireturn] ls st h := ex_ev_eq d 37 2 ls st h
set_option maxRecDepth 20000 in
theorem ev_38_0 (d : Nat) (ls st : List ex_V) (h : ex_H) : ex_ev d 38 0 ls st h = ex_xs 0 (ex_ev d 38) (ex_cd d) [.aload 0, .invokedynamic 1, .aload 0, .sipush 0, .putfield 96, .aload 0, .sipush 30, .newarray .int, .putfield 97, .aload 0, .sipush 30, .newarray .int, .putfield 98, .aload 0, .sipush 30, .newarray .int, .putfield 99, .return_] ls st h := ex_ev_eq d 38 0 ls st h
set_option maxRecDepth 20000 in
theorem ev_39_0 (d : Nat) (ls st : List ex_V) (h : ex_H) : ex_ev d 39 0 ls st h = ex_xs 0 (ex_ev d 39) (ex_cd d) [.aload 0, .aload 1, .getfield 96, .putfield 96, .aload 1, .getfield 97, .sipush 0, .aload 0, .getfield 97, .sipush 0, .aload 0, .getfield 97, .arraylength, .invokedynamic 0, .aload 1, .getfield 98, .sipush 0, .aload 0, .getfield 98, .sipush 0, .aload 0, .getfield 98, .arraylength, .invokedynamic 0, .aload 1, .getfield 99, .sipush 0, .aload 0, .getfield 99, .sipush 0, .aload 0, .getfield 99, .arraylength, .invokedynamic 0, .return_] ls st h := ex_ev_eq d 39 0 ls st h
set_option maxRecDepth 20000 in
theorem ev_40_0 (d : Nat) (ls st : List ex_V) (h : ex_H) : ex_ev d 40 0 ls st h = ex_xs 0 (ex_ev d 40) (ex_cd d) [.aload 0, .getfield 97, .aload 0, .getfield 96, .iload 1, .iastore, .aload 0, .getfield 98, .aload 0, .getfield 96, .iload 2, .iastore, .aload 0, .getfield 99, .aload 0, .getfield 96, .iload 3, .ifCond .eq 1, .sipush 1, .goto 2] ls st h := ex_ev_eq d 40 0 ls st h
set_option maxRecDepth 20000 in
theorem ev_40_1 (d : Nat) (ls st : List ex_V) (h : ex_H) : ex_ev d 40 1 ls st h = ex_xs 0 (ex_ev d 40) (ex_cd d) [.sipush 0, .goto_w 2] ls st h := ex_ev_eq d 40 1 ls st h
set_option maxRecDepth 20000 in
theorem ev_40_2 (d : Nat) (ls st : List ex_V) (h : ex_H) : ex_ev d 40 2 ls st h = ex_xs 0 (ex_ev d 40) (ex_cd d) [.iastore, .aload 0, .dup, .getfield 96, .sipush 1, .iadd, .putfield 96, .return_] ls st h := ex_ev_eq d 40 2 ls st h
set_option maxRecDepth 20000 in
theorem ev_41_0 (d : Nat) (ls st : List ex_V) (h : ex_H) : ex_ev d 41 0 ls st h = ex_xs 2 (ex_ev d 41) (ex_cd d) [.sipush (-1), .istore 4, .sipush 0, .istore 5, .sipush 0, .istore 6, .goto_w 1] ls st h := ex_ev_eq d 41 0 ls st h
set_option maxRecDepth 20000 in
theorem ev_41_1 (d : Nat) (ls st : List ex_V) (h : ex_H) : ex_ev d 41 1 ls st h = ex_xs 2 (ex_ev d 41) (ex_cd d) [.iload 6, .iload 3, .if_icmp .ge 5, .iload 6, .aload 0, .getfield 96, .if_icmp .ge 5, .aload 0, .getfield 97, .iload 6, .iaload, .iload 1, .if_icmp .ne 4, .aload 0, .getfield 98, .iload 6, .iaload, .iload 2, .if_icmp .gt 4, .aload 0, .getfield 98, .iload 6, .iaload, .iload 4, .if_icmp .lt 4, .aload 0, .getfield 98, .iload 6, .iaload, .istore 4, .aload 0, .getfield 99, .iload 6, .iaload, .ifCond .eq 2, .sipush 1, .goto 3] ls st h := ex_ev_eq d 41 1 ls st h
set_option maxRecDepth 20000 in
theorem ev_41_2 (d : Nat) (ls st : List ex_V) (h : ex_H) : ex_ev d 41 2 ls st h = ex_xs 2 (ex_ev d 41) (ex_cd d) [.sipush 0, .goto_w 3] ls st h := ex_ev_eq d 41 2 ls st h
set_option maxRecDepth 20000 in
theorem ev_41_3 (d : Nat) (ls st : List ex_V) (h : ex_H) : ex_ev d 41 3 ls st h = ex_xs 2 (ex_ev d 41) (ex_cd d) [.istore 5, .goto_w 4] ls st h := ex_ev_eq d 41 3 ls st h
set_option maxRecDepth 20000 in
theorem ev_41_4 (d : Nat) (ls st : List ex_V) (h : ex_H) : ex_ev d 41 4 ls st h = ex_xs 2 (ex_ev d 41) (ex_cd d) [.iinc 6 1, .goto 1] ls st h := ex_ev_eq d 41 4 ls st h
set_option maxRecDepth 20000 in
theorem ev_41_5 (d : Nat) (ls st : List ex_V) (h : ex_H) : ex_ev d 41 5 ls st h = ex_xs 2 (ex_ev d 41) (ex_cd d) [.iload 5, .ireturn] ls st h := ex_ev_eq d 41 5 ls st h
set_option maxRecDepth 20000 in
theorem ev_42_0 (d : Nat) (ls st : List ex_V) (h : ex_H) : ex_ev d 42 0 ls st h = ex_xs 1 (ex_ev d 42) (ex_cd d) [.sipush 0, .istore 3, .sipush 0, .istore 4, .goto_w 1] ls st h := ex_ev_eq d 42 0 ls st h
set_option maxRecDepth 20000 in
theorem ev_42_1 (d : Nat) (ls st : List ex_V) (h : ex_H) : ex_ev d 42 1 ls st h = ex_xs 1 (ex_ev d 42) (ex_cd d) [.iload 4, .iload 1, .if_icmp .ge 4, .iload 3, .aload 0, .iload 4, .iload 2, .aload 0, .getfield 96, .invokevirtual 41, .ifCond .eq 2, .sipush 1, .iload 4, .ishl, .goto 3] ls st h := ex_ev_eq d 42 1 ls st h
set_option maxRecDepth 20000 in
theorem ev_42_2 (d : Nat) (ls st : List ex_V) (h : ex_H) : ex_ev d 42 2 ls st h = ex_xs 1 (ex_ev d 42) (ex_cd d) [.sipush 0, .goto_w 3] ls st h := ex_ev_eq d 42 2 ls st h
set_option maxRecDepth 20000 in
theorem ev_42_3 (d : Nat) (ls st : List ex_V) (h : ex_H) : ex_ev d 42 3 ls st h = ex_xs 1 (ex_ev d 42) (ex_cd d) [.ior, .istore 3, .iinc 4 1, .goto 1] ls st h := ex_ev_eq d 42 3 ls st h
set_option maxRecDepth 20000 in
theorem ev_42_4 (d : Nat) (ls st : List ex_V) (h : ex_H) : ex_ev d 42 4 ls st h = ex_xs 1 (ex_ev d 42) (ex_cd d) [.iload 3, .ireturn] ls st h := ex_ev_eq d 42 4 ls st h
set_option maxRecDepth 20000 in
theorem ev_43_0 (d : Nat) (ls st : List ex_V) (h : ex_H) : ex_ev d 43 0 ls st h = ex_xs 0 (ex_ev d 43) (ex_cd d) [.aload 0, .invokedynamic 1, .aload 0, .sipush 0, .putfield 128, .aload 0, .sipush 60, .newarray .int, .putfield 129, .aload 0, .sipush 60, .newarray .int, .putfield 130, .return_] ls st h := ex_ev_eq d 43 0 ls st h
set_option maxRecDepth 20000 in
theorem ev_44_0 (d : Nat) (ls st : List ex_V) (h : ex_H) : ex_ev d 44 0 ls st h = ex_xs 0 (ex_ev d 44) (ex_cd d) [.aload 0, .aload 1, .getfield 128, .putfield 128, .aload 1, .getfield 129, .sipush 0, .aload 0, .getfield 129, .sipush 0, .aload 0, .getfield 129, .arraylength, .invokedynamic 0, .aload 1, .getfield 130, .sipush 0, .aload 0, .getfield 130, .sipush 0, .aload 0, .getfield 130, .arraylength, .invokedynamic 0, .return_] ls st h := ex_ev_eq d 44 0 ls st h
set_option maxRecDepth 20000 in
theorem ev_45_0 (d : Nat) (ls st : List ex_V) (h : ex_H) : ex_ev d 45 0 ls st h = ex_xs 0 (ex_ev d 45) (ex_cd d) [.aload 0, .getfield 128, .sipush 60, .if_icmp .lt 1, .aload 0, .sipush 59, .putfield 128, .aload 0, .getfield 129, .sipush 1, .aload 0, .getfield 129, .sipush 0, .aload 0, .getfield 128, .invokedynamic 0, .aload 0, .getfield 130, .sipush 1, .aload 0, .getfield 130, .sipush 0, .aload 0, .getfield 128, .invokedynamic 0, .goto_w 1] ls st h := ex_ev_eq d 45 0 ls st h
set_option maxRecDepth 20000 in
theorem ev_45_1 (d : Nat) (ls st : List ex_V) (h : ex_H) : ex_ev d 45 1 ls st h = ex_xs 0 (ex_ev d 45) (ex_cd d) [.aload 0, .getfield 129, .aload 0, .getfield 128, .iload 1, .iastore, .aload 0, .getfield 130, .aload 0, .getfield 128, .iload 2, .iastore, .aload 0, .dup, .getfield 128, .sipush 1, .iadd, .putfield 128, .return_] ls st h := ex_ev_eq d 45 1 ls st h
set_option maxRecDepth 20000 in
theorem ev_46_0 (d : Nat) (ls st : List ex_V) (h : ex_H) : ex_ev d 46 0 ls st h = ex_xs 1 (ex_ev d 46) (ex_cd d) [.aload 0, .iload 1, .invokevirtual 47, .istore 4, .iload 4, .sipush (-1), .if_icmp .ne 1, .sipush (-1), .goto 2] ls st h := ex_ev_eq d 46 0 ls st h
set_option maxRecDepth 20000 in
theorem ev_46_1 (d : Nat) (ls st : List ex_V) (h : ex_H) : ex_ev d 46 1 ls st h = ex_xs 1 (ex_ev d 46) (ex_cd d) [.aload 0, .iload 1, .iload 4, .invokevirtual 48, .goto_w 2] ls st h := ex_ev_eq d 46 1 ls st h
set_option maxRecDepth 20000 in
theorem ev_46_2 (d : Nat) (ls st : List ex_V) (h : ex_H) : ex_ev d 46 2 ls st h = ex_xs 1 (ex_ev d 46) (ex_cd d) [.istore 5, .iload 5, .sipush (-1), .if_icmp .ne 3, .sipush (-1), .ireturn] ls st h := ex_ev_eq d 46 2 ls st h
set_option maxRecDepth 20000 in
theorem ev_46_3 (d : Nat) (ls st : List ex_V) (h : ex_H) : ex_ev d 46 3 ls st h = ex_xs 1 (ex_ev d 46) (ex_cd d) [.sipush 0, .istore 6, .sipush 0, .istore 7, .goto_w 4] ls st h := ex_ev_eq d 46 3 ls st h
set_option maxRecDepth 20000 in
theorem ev_46_4 (d : Nat) (ls st : List ex_V) (h : ex_H) : ex_ev d 46 4 ls st h = ex_xs 1 (ex_ev d 46) (ex_cd d) [.iload 7, .sipush 4, .if_icmp .ge 5, .iload 6, .aload 0, .iload 7, .iload 1, .iload 4, .iload 5, .invokevirtual 49, .iadd, .istore 6, .iinc 7 1, .goto 4] ls st h := ex_ev_eq d 46 4 ls st h
set_option maxRecDepth 20000 in
theorem ev_46_5 (d : Nat) (ls st : List ex_V) (h : ex_H) : ex_ev d 46 5 ls st h = ex_xs 1 (ex_ev d 46) (ex_cd d) [.iload 6, .ifCond .gt 6, .sipush (-1), .ireturn] ls st h := ex_ev_eq d 46 5 ls st h
set_option maxRecDepth 20000 in
theorem ev_46_6 (d : Nat) (ls st : List ex_V) (h : ex_H) : ex_ev d 46 6 ls st h = ex_xs 1 (ex_ev d 46) (ex_cd d) [.iload 3, .istore 7, .sipush (-1), .istore 8, .sipush 3, .istore 9, .goto_w 7] ls st h := ex_ev_eq d 46 6 ls st h
set_option maxRecDepth 20000 in
theorem ev_46_7 (d : Nat) (ls st : List ex_V) (h : ex_H) : ex_ev d 46 7 ls st h = ex_xs 1 (ex_ev d 46) (ex_cd d) [.iload 9, .ifCond .lt 10, .aload 0, .iload 9, .iload 1, .iload 4, .iload 5, .invokevirtual 49, .istore 10, .iload 7, .iload 3, .iload 10, .imul, .iload 6, .idiv, .isub, .istore 7, .iload 10, .ifCond .le 8, .iload 9, .goto 9] ls st h := ex_ev_eq d 46 7 ls st h
set_option maxRecDepth 20000 in
theorem ev_46_8 (d : Nat) (ls st : List ex_V) (h : ex_H) : ex_ev d 46 8 ls st h = ex_xs 1 (ex_ev d 46) (ex_cd d) [.iload 8, .goto_w 9] ls st h := ex_ev_eq d 46 8 ls st h
set_option maxRecDepth 20000 in
theorem ev_46_9 (d : Nat) (ls st : List ex_V) (h : ex_H) : ex_ev d 46 9 ls st h = ex_xs 1 (ex_ev d 46) (ex_cd d) [.istore 8, .iinc 9 (-1), .goto 7] ls st h := ex_ev_eq d 46 9 ls st h
set_option maxRecDepth 20000 in
theorem ev_46_10 (d : Nat) (ls st : List ex_V) (h : ex_H) : ex_ev d 46 10 ls st h = ex_xs 1 (ex_ev d 46) (ex_cd d) [.iload 3, .aload 0, .iload 2, .iload 1, .iload 4, .iload 5, .invokevirtual 49, .imul, .iload 6, .idiv, .istore 9, .iload 2, .iload 8, .if_icmp .ne 11, .iload 9, .iload 7, .iadd, .goto 12] ls st h := ex_ev_eq d 46 10 ls st h
set_option maxRecDepth 20000 in
theorem ev_46_11 (d : Nat) (ls st : List ex_V) (h : ex_H) : ex_ev d 46 11 ls st h = ex_xs 1 (ex_ev d 46) (ex_cd d) [.iload 9, .goto_w 12] ls st h := ex_ev_eq d 46 11 ls st h
set_option maxRecDepth 20000 in
theorem ev_46_12 (d : Nat) (ls st : List ex_V) (h : ex_H) : ex_ev d 46 12 ls st h = ex_xs 1 (ex_ev d 46) (ex_cd d) [.ireturn] ls st h := ex_ev_eq d 46 12 ls st h
set_option maxRecDepth 20000 in
theorem ev_47_0 (d : Nat) (ls st : List ex_V) (h : ex_H) : ex_ev d 47 0 ls st h = ex_xs 1 (ex_ev d 47) (ex_cd d) [.aload 0, .getfield 128, .sipush 1, .isub, .istore 2, .goto_w 1] ls st h := ex_ev_eq d 47 0 ls st h
set_option maxRecDepth 20000 in
theorem ev_47_1 (d : Nat) (ls st : List ex_V) (h : ex_H) : ex_ev d 47 1 ls st h = ex_xs 1 (ex_ev d 47) (ex_cd d) [.iload 2, .ifCond .lt 3, .aload 0, .getfield 129, .iload 2, .iaload, .iload 1, .if_icmp .ne 2, .aload 0, .getfield 130, .iload 2, .iaload, .sipush 4, .if_icmp .ne 2, .iload 2, .ireturn] ls st h := ex_ev_eq d 47 1 ls st h
set_option maxRecDepth 20000 in
theorem ev_47_2 (d : Nat) (ls st : List ex_V) (h : ex_H) : ex_ev d 47 2 ls st h = ex_xs 1 (ex_ev d 47) (ex_cd d) [.iinc 2 (-1), .goto 1] ls st h := ex_ev_eq d 47 2 ls st h
set_option maxRecDepth 20000 in
theorem ev_47_3 (d : Nat) (ls st : List ex_V) (h : ex_H) : ex_ev d 47 3 ls st h = ex_xs 1 (ex_ev d 47) (ex_cd d) [.sipush (-1), .ireturn] ls st h := ex_ev_eq d 47 3 ls st h
set_option maxRecDepth 20000 in
theorem ev_48_0 (d : Nat) (ls st : List ex_V) (h : ex_H) : ex_ev d 48 0 ls st h = ex_xs 1 (ex_ev d 48) (ex_cd d) [.iload 2, .sipush 1, .iadd, .istore 3, .goto_w 1] ls st h := ex_ev_eq d 48 0 ls st h
set_option maxRecDepth 20000 in
theorem ev_48_1 (d : Nat) (ls st : List ex_V) (h : ex_H) : ex_ev d 48 1 ls st h = ex_xs 1 (ex_ev d 48) (ex_cd d) [.iload 3, .aload 0, .getfield 128, .if_icmp .ge 3, .aload 0, .getfield 129, .iload 3, .iaload, .iload 1, .if_icmp .ne 2, .aload 0, .getfield 130, .iload 3, .iaload, .sipush 5, .if_icmp .ne 2, .iload 3, .ireturn] ls st h := ex_ev_eq d 48 1 ls st h
set_option maxRecDepth 20000 in
theorem ev_48_2 (d : Nat) (ls st : List ex_V) (h : ex_H) : ex_ev d 48 2 ls st h = ex_xs 1 (ex_ev d 48) (ex_cd d) [.iinc 3 1, .goto 1] ls st h := ex_ev_eq d 48 2 ls st h
set_option maxRecDepth 20000 in
theorem ev_48_3 (d : Nat) (ls st : List ex_V) (h : ex_H) : ex_ev d 48 3 ls st h = ex_xs 1 (ex_ev d 48) (ex_cd d) [.sipush (-1), .ireturn] ls st h := ex_ev_eq d 48 3 ls st h
set_option maxRecDepth 20000 in
theorem ev_49_0 (d : Nat) (ls st : List ex_V) (h : ex_H) : ex_ev d 49 0 ls st h = ex_xs 1 (ex_ev d 49) (ex_cd d) [.sipush 0, .istore 5, .iload 3, .sipush 1, .iadd, .istore 6, .goto_w 1] ls st h := ex_ev_eq d 49 0 ls st h
set_option maxRecDepth 20000 in
theorem ev_49_1 (d : Nat) (ls st : List ex_V) (h : ex_H) : ex_ev d 49 1 ls st h = ex_xs 1 (ex_ev d 49) (ex_cd d) [.iload 6, .iload 4, .if_icmp .ge 4, .iload 5, .aload 0, .getfield 129, .iload 6, .iaload, .iload 2, .if_icmp .ne 2, .aload 0, .getfield 130, .iload 6, .iaload, .iload 1, .if_icmp .ne 2, .sipush 1, .goto 3] ls st h := ex_ev_eq d 49 1 ls st h
set_option maxRecDepth 20000 in
theorem ev_49_2 (d : Nat) (ls st : List ex_V) (h : ex_H) : ex_ev d 49 2 ls st h = ex_xs 1 (ex_ev d 49) (ex_cd d) [.sipush 0, .goto_w 3] ls st h := ex_ev_eq d 49 2 ls st h
set_option maxRecDepth 20000 in
theorem ev_49_3 (d : Nat) (ls st : List ex_V) (h : ex_H) : ex_ev d 49 3 ls st h = ex_xs 1 (ex_ev d 49) (ex_cd d) [.iadd, .istore 5, .iinc 6 1, .goto 1] ls st h := ex_ev_eq d 49 3 ls st h
set_option maxRecDepth 20000 in
theorem ev_49_4 (d : Nat) (ls st : List ex_V) (h : ex_H) : ex_ev d 49 4 ls st h = ex_xs 1 (ex_ev d 49) (ex_cd d) [.iload 5, .ireturn] ls st h := ex_ev_eq d 49 4 ls st h
set_option maxRecDepth 20000 in
theorem ev_50_0 (d : Nat) (ls st : List ex_V) (h : ex_H) : ex_ev d 50 0 ls st h = ex_xs 0 (ex_ev d 50) (ex_cd d) [.aload 0, .invokedynamic 1, .aload 0, .sipush 7, .newarray .int, .putfield 160, .aload 0, .sipush 7, .newarray .int, .putfield 161, .aload 0, .sipush 5, .newarray .int, .putfield 162, .aload 0, .sipush (-1), .putfield 163, .return_] ls st h := ex_ev_eq d 50 0 ls st h
set_option maxRecDepth 20000 in
theorem ev_51_0 (d : Nat) (ls st : List ex_V) (h : ex_H) : ex_ev d 51 0 ls st h = ex_xs 1 (ex_ev d 51) (ex_cd d) [.aload 0, .sipush (-1), .putfield 163, .aload 0, .getfield 162, .sipush 0, .invokestatic 239, .aload 0, .aload 1, .sipush 0, .sipush 0, .invokevirtual 52, .aload 0, .getfield 163, .ireturn] ls st h := ex_ev_eq d 51 0 ls st h
set_option maxRecDepth 20000 in
theorem ev_52_0 (d : Nat) (ls st : List ex_V) (h : ex_H) : ex_ev d 52 0 ls st h = ex_xs 0 (ex_ev d 52) (ex_cd d) [.aload 0, .getfield 163, .sipush (-1), .if_icmp .eq 1, .iload 3, .aload 0, .getfield 163, .if_icmp .lt 1, .return_] ls st h := ex_ev_eq d 52 0 ls st h
set_option maxRecDepth 20000 in
theorem ev_52_1 (d : Nat) (ls st : List ex_V) (h : ex_H) : ex_ev d 52 1 ls st h = ex_xs 0 (ex_ev d 52) (ex_cd d) [.iload 2, .aload 1, .getfield 39, .if_icmp .lt 2, .aload 0, .iload 3, .putfield 163, .aload 0, .getfield 161, .sipush 0, .aload 0, .getfield 160, .sipush 0, .aload 0, .getfield 160, .arraylength, .invokedynamic 0, .return_] ls st h := ex_ev_eq d 52 1 ls st h
set_option maxRecDepth 20000 in
theorem ev_52_2 (d : Nat) (ls st : List ex_V) (h : ex_H) : ex_ev d 52 2 ls st h = ex_xs 0 (ex_ev d 52) (ex_cd d) [.aload 1, .getfield 32, .astore 4, .aload 1, .getfield 37, .iload 2, .iaload, .istore 5, .aload 4, .iload 5, .sipush 0, .invokevirtual 17, .istore 6, .sipush 0, .istore 7, .goto_w 3] ls st h := ex_ev_eq d 52 2 ls st h
set_option maxRecDepth 20000 in
theorem ev_52_3 (d : Nat) (ls st : List ex_V) (h : ex_H) : ex_ev d 52 3 ls st h = ex_xs 0 (ex_ev d 52) (ex_cd d) [.iload 7, .aload 4, .getfield 64, .if_icmp .ge 6, .aload 0, .getfield 162, .iload 7, .iaload, .iload 6, .iadd, .aload 4, .getfield 67, .iload 7, .iaload, .if_icmp .gt 5, .aload 4, .iload 5, .iload 7, .invokevirtual 22, .ifCond .ne 4, .goto 5] ls st h := ex_ev_eq d 52 3 ls st h
set_option maxRecDepth 20000 in
theorem ev_52_4 (d : Nat) (ls st : List ex_V) (h : ex_H) : ex_ev d 52 4 ls st h = ex_xs 0 (ex_ev d 52) (ex_cd d) [.aload 0, .getfield 161, .iload 2, .iload 7, .iastore, .aload 0, .getfield 162, .iload 7, .dup2, .iaload, .iload 6, .iadd, .iastore, .aload 0, .aload 1, .iload 2, .sipush 1, .iadd, .iload 3, .aload 0, .aload 1, .iload 2, .invokevirtual 53, .iadd, .invokevirtual 52, .aload 0, .getfield 162, .iload 7, .dup2, .iaload, .iload 6, .isub, .iastore, .goto_w 5] ls st h := ex_ev_eq d 52 4 ls st h
set_option maxRecDepth 20000 in
theorem ev_52_5 (d : Nat) (ls st : List ex_V) (h : ex_H) : ex_ev d 52 5 ls st h = ex_xs 0 (ex_ev d 52) (ex_cd d) [.iinc 7 1, .goto 3] ls st h := ex_ev_eq d 52 5 ls st h
set_option maxRecDepth 20000 in
theorem ev_52_6 (d : Nat) (ls st : List ex_V) (h : ex_H) : ex_ev d 52 6 ls st h = ex_xs 0 (ex_ev d 52) (ex_cd d) [.return_] ls st h := ex_ev_eq d 52 6 ls st h
set_option maxRecDepth 20000 in
theorem ev_53_0 (d : Nat) (ls st : List ex_V) (h : ex_H) : ex_ev d 53 0 ls st h = ex_xs 1 (ex_ev d 53) (ex_cd d) [.aload 1, .getfield 32, .aload 1, .getfield 37, .iload 2, .iaload, .sipush 3, .invokevirtual 17, .istore 3, .sipush 0, .istore 4, .sipush 0, .istore 5, .goto_w 1] ls st h := ex_ev_eq d 53 0 ls st h
set_option maxRecDepth 20000 in
theorem ev_53_1 (d : Nat) (ls st : List ex_V) (h : ex_H) : ex_ev d 53 1 ls st h = ex_xs 1 (ex_ev d 53) (ex_cd d) [.iload 5, .iload 2, .if_icmp .ge 6, .aload 0, .getfield 161, .iload 5, .iaload, .aload 0, .getfield 161, .iload 2, .iaload, .if_icmp .ne 2, .iload 3, .aload 1, .getfield 32, .aload 1, .getfield 37, .iload 5, .iaload, .sipush 3, .invokevirtual 17, .if_icmp .le 2, .sipush 1, .goto 3] ls st h := ex_ev_eq d 53 1 ls st h
set_option maxRecDepth 20000 in
theorem ev_53_2 (d : Nat) (ls st : List ex_V) (h : ex_H) : ex_ev d 53 2 ls st h = ex_xs 1 (ex_ev d 53) (ex_cd d) [.sipush 0, .goto_w 3] ls st h := ex_ev_eq d 53 2 ls st h
set_option maxRecDepth 20000 in
theorem ev_53_3 (d : Nat) (ls st : List ex_V) (h : ex_H) : ex_ev d 53 3 ls st h = ex_xs 1 (ex_ev d 53) (ex_cd d) [.istore 6, .iload 4, .iload 6, .ifCond .eq 4, .sipush 2, .goto 5] ls st h := ex_ev_eq d 53 3 ls st h
set_option maxRecDepth 20000 in
theorem ev_53_4 (d : Nat) (ls st : List ex_V) (h : ex_H) : ex_ev d 53 4 ls st h = ex_xs 1 (ex_ev d 53) (ex_cd d) [.sipush 0, .goto_w 5] ls st h := ex_ev_eq d 53 4 ls st h
set_option maxRecDepth 20000 in
theorem ev_53_5 (d : Nat) (ls st : List ex_V) (h : ex_H) : ex_ev d 53 5 ls st h = ex_xs 1 (ex_ev d 53) (ex_cd d) [.iadd, .istore 4, .iinc 5 1, .goto 1] ls st h := ex_ev_eq d 53 5 ls st h
set_option maxRecDepth 20000 in
theorem ev_53_6 (d : Nat) (ls st : List ex_V) (h : ex_H) : ex_ev d 53 6 ls st h = ex_xs 1 (ex_ev d 53) (ex_cd d) [.iload 4, .ireturn] ls st h := ex_ev_eq d 53 6 ls st h
set_option maxRecDepth 20000 in
theorem ev_54_0 (d : Nat) (ls st : List ex_V) (h : ex_H) : ex_ev d 54 0 ls st h = ex_xs 0 (ex_ev d 54) (ex_cd d) [.aload 0, .invokedynamic 1, .aload 0, .sipush 5, .newarray .int, .putfield 192, .aload 0, .sipush 5, .newarray .int, .putfield 193, .aload 0, .sipush (-1), .putfield 194, .return_] ls st h := ex_ev_eq d 54 0 ls st h
set_option maxRecDepth 20000 in
theorem ev_55_0 (d : Nat) (ls st : List ex_V) (h : ex_H) : ex_ev d 55 0 ls st h = ex_xs 1 (ex_ev d 55) (ex_cd d) [.aload 0, .sipush (-1), .putfield 194, .aload 0, .aload 1, .iload 2, .sipush 0, .sipush 0, .sipush 0, .invokevirtual 56, .aload 0, .getfield 194, .ireturn] ls st h := ex_ev_eq d 55 0 ls st h
set_option maxRecDepth 20000 in
theorem ev_56_0 (d : Nat) (ls st : List ex_V) (h : ex_H) : ex_ev d 56 0 ls st h = ex_xs 0 (ex_ev d 56) (ex_cd d) [.iload 3, .sipush 5, .if_icmp .lt 2, .iload 5, .aload 0, .getfield 194, .if_icmp .le 1, .aload 0, .iload 5, .putfield 194, .aload 0, .getfield 193, .sipush 0, .aload 0, .getfield 192, .sipush 0, .aload 0, .getfield 192, .arraylength, .invokedynamic 0, .goto_w 1] ls st h := ex_ev_eq d 56 0 ls st h
set_option maxRecDepth 20000 in
theorem ev_56_1 (d : Nat) (ls st : List ex_V) (h : ex_H) : ex_ev d 56 1 ls st h = ex_xs 0 (ex_ev d 56) (ex_cd d) [.return_] ls st h := ex_ev_eq d 56 1 ls st h
set_option maxRecDepth 20000 in
theorem ev_56_2 (d : Nat) (ls st : List ex_V) (h : ex_H) : ex_ev d 56 2 ls st h = ex_xs 0 (ex_ev d 56) (ex_cd d) [.iload 3, .iload 2, .if_icmp .ne 3, .aload 0, .aload 1, .iload 2, .iload 3, .sipush 1, .iadd, .iload 4, .iload 5, .invokevirtual 56, .return_] ls st h := ex_ev_eq d 56 2 ls st h
set_option maxRecDepth 20000 in
theorem ev_56_3 (d : Nat) (ls st : List ex_V) (h : ex_H) : ex_ev d 56 3 ls st h = ex_xs 0 (ex_ev d 56) (ex_cd d) [.sipush 0, .istore 6, .goto_w 4] ls st h := ex_ev_eq d 56 3 ls st h
set_option maxRecDepth 20000 in
theorem ev_56_4 (d : Nat) (ls st : List ex_V) (h : ex_H) : ex_ev d 56 4 ls st h = ex_xs 0 (ex_ev d 56) (ex_cd d) [.iload 6, .sipush 5, .if_icmp .ge 6, .iload 4, .iload 6, .ishr, .sipush 1, .iand, .ifCond .ne 5, .aload 0, .getfield 193, .iload 3, .iload 6, .iastore, .aload 0, .aload 1, .iload 2, .iload 3, .sipush 1, .iadd, .iload 4, .sipush 1, .iload 6, .ishl, .ior, .iload 5, .aload 1, .iload 3, .sipush 5, .imul, .iload 6, .iadd, .iaload, .iadd, .invokevirtual 56, .goto_w 5] ls st h := ex_ev_eq d 56 4 ls st h
set_option maxRecDepth 20000 in
theorem ev_56_5 (d : Nat) (ls st : List ex_V) (h : ex_H) : ex_ev d 56 5 ls st h = ex_xs 0 (ex_ev d 56) (ex_cd d) [.iinc 6 1, .goto 4] ls st h := ex_ev_eq d 56 5 ls st h
set_option maxRecDepth 20000 in
theorem ev_56_6 (d : Nat) (ls st : List ex_V) (h : ex_H) : ex_ev d 56 6 ls st h = ex_xs 0 (ex_ev d 56) (ex_cd d) [.return_] ls st h := ex_ev_eq d 56 6 ls st h
set_option maxRecDepth 20000 in
theorem ev_57_0 (d : Nat) (ls st : List ex_V) (h : ex_H) : ex_ev d 57 0 ls st h = ex_xs 1 (ex_ev d 57) (ex_cd d) [.aload 0, .aload 1, .sipush (-1), .invokevirtual 55, .istore 3, .iload 3, .aload 1, .iload 2, .sipush 5, .imul, .aload 0, .getfield 192, .iload 2, .iaload, .iadd, .iaload, .isub, .istore 4, .aload 0, .aload 1, .iload 2, .invokevirtual 55, .iload 4, .isub, .ireturn] ls st h := ex_ev_eq d 57 0 ls st h
set_option maxRecDepth 20000 in
theorem ev_58_0 (d : Nat) (ls st : List ex_V) (h : ex_H) : ex_ev d 58 0 ls st h = ex_xs 0 (ex_ev d 58) (ex_cd d) [.aload 0, .invokedynamic 1, .aload 0, .sipush 8, .newarray .int, .putfield 224, .aload 0, .sipush 0, .putfield 225, .aload 0, .sipush 8, .newarray .int, .putfield 226, .aload 0, .sipush 5, .newarray .int, .putfield 227, .aload 0, .sipush (-1), .putfield 228, .return_] ls st h := ex_ev_eq d 58 0 ls st h
set_option maxRecDepth 20000 in
theorem ev_59_0 (d : Nat) (ls st : List ex_V) (h : ex_H) : ex_ev d 59 0 ls st h = ex_xs 1 (ex_ev d 59) (ex_cd d) [.aload 0, .sipush (-1), .putfield 228, .sipush 0, .istore 3, .goto_w 1] ls st h := ex_ev_eq d 59 0 ls st h
set_option maxRecDepth 20000 in
theorem ev_59_1 (d : Nat) (ls st : List ex_V) (h : ex_H) : ex_ev d 59 1 ls st h = ex_xs 1 (ex_ev d 59) (ex_cd d) [.iload 3, .aload 1, .getfield 64, .if_icmp .ge 4, .aload 0, .getfield 227, .iload 3, .aload 1, .getfield 72, .iload 3, .iaload, .ifCond .eq 2, .sipush 0, .goto 3] ls st h := ex_ev_eq d 59 1 ls st h
set_option maxRecDepth 20000 in
theorem ev_59_2 (d : Nat) (ls st : List ex_V) (h : ex_H) : ex_ev d 59 2 ls st h = ex_xs 1 (ex_ev d 59) (ex_cd d) [.aload 1, .getfield 73, .iload 3, .iaload, .goto_w 3] ls st h := ex_ev_eq d 59 2 ls st h
set_option maxRecDepth 20000 in
theorem ev_59_3 (d : Nat) (ls st : List ex_V) (h : ex_H) : ex_ev d 59 3 ls st h = ex_xs 1 (ex_ev d 59) (ex_cd d) [.iastore, .iinc 3 1, .goto 1] ls st h := ex_ev_eq d 59 3 ls st h
set_option maxRecDepth 20000 in
theorem ev_59_4 (d : Nat) (ls st : List ex_V) (h : ex_H) : ex_ev d 59 4 ls st h = ex_xs 1 (ex_ev d 59) (ex_cd d) [.aload 0, .aload 1, .iload 2, .sipush 0, .sipush 0, .invokevirtual 60, .aload 0, .getfield 228, .ireturn] ls st h := ex_ev_eq d 59 4 ls st h
set_option maxRecDepth 20000 in
theorem ev_60_0 (d : Nat) (ls st : List ex_V) (h : ex_H) : ex_ev d 60 0 ls st h = ex_xs 0 (ex_ev d 60) (ex_cd d) [.iload 4, .aload 0, .getfield 228, .if_icmp .gt 1, .iload 4, .aload 0, .getfield 228, .if_icmp .ne 2, .iload 3, .aload 0, .getfield 225, .if_icmp .ge 2, .goto_w 1] ls st h := ex_ev_eq d 60 0 ls st h
set_option maxRecDepth 20000 in
theorem ev_60_1 (d : Nat) (ls st : List ex_V) (h : ex_H) : ex_ev d 60 1 ls st h = ex_xs 0 (ex_ev d 60) (ex_cd d) [.aload 0, .iload 4, .putfield 228, .aload 0, .iload 3, .putfield 225, .aload 0, .getfield 226, .sipush 0, .aload 0, .getfield 224, .sipush 0, .aload 0, .getfield 224, .arraylength, .invokedynamic 0, .goto_w 2] ls st h := ex_ev_eq d 60 1 ls st h
set_option maxRecDepth 20000 in
theorem ev_60_2 (d : Nat) (ls st : List ex_V) (h : ex_H) : ex_ev d 60 2 ls st h = ex_xs 0 (ex_ev d 60) (ex_cd d) [.iload 3, .sipush 8, .if_icmp .lt 3, .return_] ls st h := ex_ev_eq d 60 2 ls st h
set_option maxRecDepth 20000 in
theorem ev_60_3 (d : Nat) (ls st : List ex_V) (h : ex_H) : ex_ev d 60 3 ls st h = ex_xs 0 (ex_ev d 60) (ex_cd d) [.iload 2, .iload 3, .sipush 1, .iadd, .imul, .istore 5, .sipush 0, .istore 6, .goto_w 4] ls st h := ex_ev_eq d 60 3 ls st h
set_option maxRecDepth 20000 in
theorem ev_60_4 (d : Nat) (ls st : List ex_V) (h : ex_H) : ex_ev d 60 4 ls st h = ex_xs 0 (ex_ev d 60) (ex_cd d) [.iload 6, .aload 1, .getfield 64, .if_icmp .ge 7, .aload 0, .getfield 227, .iload 6, .iaload, .ifCond .le 6, .aload 1, .iload 6, .invokevirtual 37, .iload 5, .if_icmp .ge 5, .goto 6] ls st h := ex_ev_eq d 60 4 ls st h
set_option maxRecDepth 20000 in
theorem ev_60_5 (d : Nat) (ls st : List ex_V) (h : ex_H) : ex_ev d 60 5 ls st h = ex_xs 0 (ex_ev d 60) (ex_cd d) [.aload 0, .getfield 227, .iload 6, .dup2, .iaload, .sipush 1, .isub, .iastore, .aload 1, .iload 6, .aload 0, .getfield 227, .iload 6, .iaload, .invokevirtual 23, .istore 7, .aload 0, .getfield 226, .iload 3, .iload 7, .iastore, .aload 0, .aload 1, .iload 2, .iload 3, .sipush 1, .iadd, .iload 4, .aload 1, .iload 7, .sipush 5, .invokevirtual 17, .iadd, .invokevirtual 60, .aload 0, .getfield 227, .iload 6, .dup2, .iaload, .sipush 1, .iadd, .iastore, .goto_w 6] ls st h := ex_ev_eq d 60 5 ls st h
set_option maxRecDepth 20000 in
theorem ev_60_6 (d : Nat) (ls st : List ex_V) (h : ex_H) : ex_ev d 60 6 ls st h = ex_xs 0 (ex_ev d 60) (ex_cd d) [.iinc 6 1, .goto 4] ls st h := ex_ev_eq d 60 6 ls st h
set_option maxRecDepth 20000 in
theorem ev_60_7 (d : Nat) (ls st : List ex_V) (h : ex_H) : ex_ev d 60 7 ls st h = ex_xs 0 (ex_ev d 60) (ex_cd d) [.return_] ls st h := ex_ev_eq d 60 7 ls st h
set_option maxRecDepth 20000 in
theorem ev_61_0 (d : Nat) (ls st : List ex_V) (h : ex_H) : ex_ev d 61 0 ls st h = ex_xs 0 (ex_ev d 61) (ex_cd d) [.aload 0, .invokedynamic 1, .aload 0, .sipush 5, .newarray .int, .putfield 256, .aload 0, .sipush 7, .newarray .int, .putfield 257, .return_] ls st h := ex_ev_eq d 61 0 ls st h
set_option maxRecDepth 20000 in
theorem ev_62_0 (d : Nat) (ls st : List ex_V) (h : ex_H) : ex_ev d 62 0 ls st h = ex_xs 2 (ex_ev d 62) (ex_cd d) [.iload 0, .sipush 1, .if_icmp .lt 1, .iload 0, .sipush 6, .if_icmp .le 3, .goto_w 1] ls st h := ex_ev_eq d 62 0 ls st h
set_option maxRecDepth 20000 in
theorem ev_62_1 (d : Nat) (ls st : List ex_V) (h : ex_H) : ex_ev d 62 1 ls st h = ex_xs 2 (ex_ev d 62) (ex_cd d) [.iload 0, .sipush 10, .if_icmp .lt 2, .iload 0, .sipush 34, .if_icmp .lt 3, .goto_w 2] ls st h := ex_ev_eq d 62 1 ls st h
set_option maxRecDepth 20000 in
theorem ev_62_2 (d : Nat) (ls st : List ex_V) (h : ex_H) : ex_ev d 62 2 ls st h = ex_xs 2 (ex_ev d 62) (ex_cd d) [.iload 0, .sipush 40, .if_icmp .lt 4, .iload 0, .sipush 44, .if_icmp .gt 4, .goto_w 3] ls st h := ex_ev_eq d 62 2 ls st h
set_option maxRecDepth 20000 in
theorem ev_62_3 (d : Nat) (ls st : List ex_V) (h : ex_H) : ex_ev d 62 3 ls st h = ex_xs 2 (ex_ev d 62) (ex_cd d) [.sipush 1, .goto 5] ls st h := ex_ev_eq d 62 3 ls st h
set_option maxRecDepth 20000 in
theorem ev_62_4 (d : Nat) (ls st : List ex_V) (h : ex_H) : ex_ev d 62 4 ls st h = ex_xs 2 (ex_ev d 62) (ex_cd d) [.sipush 0, .goto_w 5] ls st h := ex_ev_eq d 62 4 ls st h
set_option maxRecDepth 20000 in
theorem ev_62_5 (d : Nat) (ls st : List ex_V) (h : ex_H) : ex_ev d 62 5 ls st h = ex_xs 2 (ex_ev d 62) (ex_cd d) [.ireturn] ls st h := ex_ev_eq d 62 5 ls st h
set_option maxRecDepth 20000 in
theorem ev_63_0 (d : Nat) (ls st : List ex_V) (h : ex_H) : ex_ev d 63 0 ls st h = ex_xs 0 (ex_ev d 63) (ex_cd d) [.aload 0, .getfield 257, .sipush 1, .iload 1, .iastore, .aload 0, .getfield 257, .sipush 2, .iload 2, .iastore, .aload 0, .getfield 257, .sipush 3, .iload 3, .iastore, .aload 0, .getfield 257, .sipush 4, .iload 4, .iastore, .aload 0, .getfield 257, .sipush 5, .iload 5, .iastore, .aload 0, .getfield 257, .sipush 6, .iload 6, .iastore, .return_] ls st h := ex_ev_eq d 63 0 ls st h
set_option maxRecDepth 20000 in
theorem ev_64_0 (d : Nat) (ls st : List ex_V) (h : ex_H) : ex_ev d 64 0 ls st h = ex_xs 2 (ex_ev d 64) (ex_cd d) [.iload 2, .ifCond .eq 1, .aload 0, .aload 1, .iload 2, .invokevirtual 65, .sipush (-1), .if_icmp .ne 2, .aload 0, .getfield 256, .sipush 0, .iaload, .ifCond .eq 2, .goto_w 1] ls st h := ex_ev_eq d 64 0 ls st h
set_option maxRecDepth 20000 in
theorem ev_64_1 (d : Nat) (ls st : List ex_V) (h : ex_H) : ex_ev d 64 1 ls st h = ex_xs 2 (ex_ev d 64) (ex_cd d) [.sipush 1, .goto 3] ls st h := ex_ev_eq d 64 1 ls st h
set_option maxRecDepth 20000 in
theorem ev_64_2 (d : Nat) (ls st : List ex_V) (h : ex_H) : ex_ev d 64 2 ls st h = ex_xs 2 (ex_ev d 64) (ex_cd d) [.sipush 0, .goto_w 3] ls st h := ex_ev_eq d 64 2 ls st h
set_option maxRecDepth 20000 in
theorem ev_64_3 (d : Nat) (ls st : List ex_V) (h : ex_H) : ex_ev d 64 3 ls st h = ex_xs 2 (ex_ev d 64) (ex_cd d) [.ireturn] ls st h := ex_ev_eq d 64 3 ls st h
set_option maxRecDepth 20000 in
theorem ev_65_0 (d : Nat) (ls st : List ex_V) (h : ex_H) : ex_ev d 65 0 ls st h = ex_xs 1 (ex_ev d 65) (ex_cd d) [.sipush 0, .istore 3, .sipush 0, .istore 4, .goto_w 1] ls st h := ex_ev_eq d 65 0 ls st h
set_option maxRecDepth 20000 in
theorem ev_65_1 (d : Nat) (ls st : List ex_V) (h : ex_H) : ex_ev d 65 1 ls st h = ex_xs 1 (ex_ev d 65) (ex_cd d) [.iload 4, .iload 2, .if_icmp .ge 4, .aload 1, .iload 4, .iaload, .invokestatic 66, .istore 5, .iload 3, .iload 5, .isub, .istore 6, .iload 6, .ifCond .lt 2, .iload 6, .sipush 5, .if_icmp .lt 3, .goto_w 2] ls st h := ex_ev_eq d 65 1 ls st h
set_option maxRecDepth 20000 in
theorem ev_65_2 (d : Nat) (ls st : List ex_V) (h : ex_H) : ex_ev d 65 2 ls st h = ex_xs 1 (ex_ev d 65) (ex_cd d) [.iload 4, .ireturn] ls st h := ex_ev_eq d 65 2 ls st h
set_option maxRecDepth 20000 in
theorem ev_65_3 (d : Nat) (ls st : List ex_V) (h : ex_H) : ex_ev d 65 3 ls st h = ex_xs 1 (ex_ev d 65) (ex_cd d) [.aload 0, .getfield 256, .iload 6, .aload 0, .aload 1, .iload 4, .iaload, .iload 6, .invokevirtual 67, .iastore, .iload 6, .sipush 1, .iadd, .istore 3, .iinc 4 1, .goto 1] ls st h := ex_ev_eq d 65 3 ls st h
set_option maxRecDepth 20000 in
theorem ev_65_4 (d : Nat) (ls st : List ex_V) (h : ex_H) : ex_ev d 65 4 ls st h = ex_xs 1 (ex_ev d 65) (ex_cd d) [.iload 2, .ifCond .eq 5, .iload 3, .sipush 1, .if_icmp .ne 6, .goto_w 5] ls st h := ex_ev_eq d 65 4 ls st h
set_option maxRecDepth 20000 in
theorem ev_65_5 (d : Nat) (ls st : List ex_V) (h : ex_H) : ex_ev d 65 5 ls st h = ex_xs 1 (ex_ev d 65) (ex_cd d) [.sipush (-1), .goto 7] ls st h := ex_ev_eq d 65 5 ls st h
set_option maxRecDepth 20000 in
theorem ev_65_6 (d : Nat) (ls st : List ex_V) (h : ex_H) : ex_ev d 65 6 ls st h = ex_xs 1 (ex_ev d 65) (ex_cd d) [.iload 2, .goto_w 7] ls st h := ex_ev_eq d 65 6 ls st h
set_option maxRecDepth 20000 in
theorem ev_65_7 (d : Nat) (ls st : List ex_V) (h : ex_H) : ex_ev d 65 7 ls st h = ex_xs 1 (ex_ev d 65) (ex_cd d) [.ireturn] ls st h := ex_ev_eq d 65 7 ls st h
set_option maxRecDepth 20000 in
theorem ev_66_0 (d : Nat) (ls st : List ex_V) (h : ex_H) : ex_ev d 66 0 ls st h = ex_xs 1 (ex_ev d 66) (ex_cd d) [.iload 0, .sipush 40, .if_icmp .ge 1, .sipush 0, .ireturn] ls st h := ex_ev_eq d 66 0 ls st h
set_option maxRecDepth 20000 in
theorem ev_66_1 (d : Nat) (ls st : List ex_V) (h : ex_H) : ex_ev d 66 1 ls st h = ex_xs 1 (ex_ev d 66) (ex_cd d) [.iload 0, .sipush 42, .if_icmp .ne 2, .sipush 1, .goto 3] ls st h := ex_ev_eq d 66 1 ls st h
set_option maxRecDepth 20000 in
theorem ev_66_2 (d : Nat) (ls st : List ex_V) (h : ex_H) : ex_ev d 66 2 ls st h = ex_xs 1 (ex_ev d 66) (ex_cd d) [.sipush 2, .goto_w 3] ls st h := ex_ev_eq d 66 2 ls st h
set_option maxRecDepth 20000 in
theorem ev_66_3 (d : Nat) (ls st : List ex_V) (h : ex_H) : ex_ev d 66 3 ls st h = ex_xs 1 (ex_ev d 66) (ex_cd d) [.ireturn] ls st h := ex_ev_eq d 66 3 ls st h
set_option maxRecDepth 20000 in
theorem ev_67_0 (d : Nat) (ls st : List ex_V) (h : ex_H) : ex_ev d 67 0 ls st h = ex_xs 1 (ex_ev d 67) (ex_cd d) [.iload 1, .sipush 40, .if_icmp .ge 3, .iload 1, .sipush 10, .if_icmp .lt 1, .iload 1, .sipush 10, .isub, .goto 2] ls st h := ex_ev_eq d 67 0 ls st h
set_option maxRecDepth 20000 in
theorem ev_67_1 (d : Nat) (ls st : List ex_V) (h : ex_H) : ex_ev d 67 1 ls st h = ex_xs 1 (ex_ev d 67) (ex_cd d) [.aload 0, .iload 1, .invokevirtual 68, .goto_w 2] ls st h := ex_ev_eq d 67 1 ls st h
set_option maxRecDepth 20000 in
theorem ev_67_2 (d : Nat) (ls st : List ex_V) (h : ex_H) : ex_ev d 67 2 ls st h = ex_xs 1 (ex_ev d 67) (ex_cd d) [.ireturn] ls st h := ex_ev_eq d 67 2 ls st h
set_option maxRecDepth 20000 in
theorem ev_67_3 (d : Nat) (ls st : List ex_V) (h : ex_H) : ex_ev d 67 3 ls st h = ex_xs 1 (ex_ev d 67) (ex_cd d) [.aload 0, .getfield 256, .iload 2, .iaload, .istore 3, .iload 1, .sipush 42, .if_icmp .ne 6, .iload 3, .ifCond .ne 4, .sipush 1, .goto 5] ls st h := ex_ev_eq d 67 3 ls st h
set_option maxRecDepth 20000 in
theorem ev_67_4 (d : Nat) (ls st : List ex_V) (h : ex_H) : ex_ev d 67 4 ls st h = ex_xs 1 (ex_ev d 67) (ex_cd d) [.sipush 0, .goto_w 5] ls st h := ex_ev_eq d 67 4 ls st h
set_option maxRecDepth 20000 in
theorem ev_67_5 (d : Nat) (ls st : List ex_V) (h : ex_H) : ex_ev d 67 5 ls st h = ex_xs 1 (ex_ev d 67) (ex_cd d) [.ireturn] ls st h := ex_ev_eq d 67 5 ls st h
set_option maxRecDepth 20000 in
theorem ev_67_6 (d : Nat) (ls st : List ex_V) (h : ex_H) : ex_ev d 67 6 ls st h = ex_xs 1 (ex_ev d 67) (ex_cd d) [.iload 2, .sipush 1, .iadd, .sipush 5, .if_icmp .ge 7, .aload 0, .getfield 256, .iload 2, .sipush 1, .iadd, .iaload, .goto 8] ls st h := ex_ev_eq d 67 6 ls st h
set_option maxRecDepth 20000 in
theorem ev_67_7 (d : Nat) (ls st : List ex_V) (h : ex_H) : ex_ev d 67 7 ls st h = ex_xs 1 (ex_ev d 67) (ex_cd d) [.sipush 0, .goto_w 8] ls st h := ex_ev_eq d 67 7 ls st h
set_option maxRecDepth 20000 in
theorem ev_67_8 (d : Nat) (ls st : List ex_V) (h : ex_H) : ex_ev d 67 8 ls st h = ex_xs 1 (ex_ev d 67) (ex_cd d) [.istore 4, .iload 1, .iload 3, .iload 4, .invokestatic 69, .ifCond .eq 9, .sipush 1, .goto 10] ls st h := ex_ev_eq d 67 8 ls st h
set_option maxRecDepth 20000 in
theorem ev_67_9 (d : Nat) (ls st : List ex_V) (h : ex_H) : ex_ev d 67 9 ls st h = ex_xs 1 (ex_ev d 67) (ex_cd d) [.sipush 0, .goto_w 10] ls st h := ex_ev_eq d 67 9 ls st h
set_option maxRecDepth 20000 in
theorem ev_67_10 (d : Nat) (ls st : List ex_V) (h : ex_H) : ex_ev d 67 10 ls st h = ex_xs 1 (ex_ev d 67) (ex_cd d) [.ireturn] ls st h := ex_ev_eq d 67 10 ls st h
set_option maxRecDepth 20000 in
theorem ev_68_0 (d : Nat) (ls st : List ex_V) (h : ex_H) : ex_ev d 68 0 ls st h = ex_xs 1 (ex_ev d 68) (ex_cd d) [.iload 1, .sipush 1, .if_icmp .lt 1, .iload 1, .sipush 6, .if_icmp .gt 1, .aload 0, .getfield 257, .iload 1, .iaload, .goto 2] ls st h := ex_ev_eq d 68 0 ls st h
set_option maxRecDepth 20000 in
theorem ev_68_1 (d : Nat) (ls st : List ex_V) (h : ex_H) : ex_ev d 68 1 ls st h = ex_xs 1 (ex_ev d 68) (ex_cd d) [.sipush 0, .goto_w 2] ls st h := ex_ev_eq d 68 1 ls st h
set_option maxRecDepth 20000 in
theorem ev_68_2 (d : Nat) (ls st : List ex_V) (h : ex_H) : ex_ev d 68 2 ls st h = ex_xs 1 (ex_ev d 68) (ex_cd d) [.ireturn] ls st h := ex_ev_eq d 68 2 ls st h
set_option maxRecDepth 20000 in
theorem ev_69_0 (d : Nat) (ls st : List ex_V) (h : ex_H) : ex_ev d 69 0 ls st h = ex_xs 2 (ex_ev d 69) (ex_cd d) [.iload 0, .tableswitch 10 40 43 #[1, 4, 10, 7]] ls st h := ex_ev_eq d 69 0 ls st h
set_option maxRecDepth 20000 in
theorem ev_69_1 (d : Nat) (ls st : List ex_V) (h : ex_H) : ex_ev d 69 1 ls st h = ex_xs 2 (ex_ev d 69) (ex_cd d) [.iload 1, .iload 2, .if_icmp .ge 2, .sipush 1, .goto 3] ls st h := ex_ev_eq d 69 1 ls st h
set_option maxRecDepth 20000 in
theorem ev_69_2 (d : Nat) (ls st : List ex_V) (h : ex_H) : ex_ev d 69 2 ls st h = ex_xs 2 (ex_ev d 69) (ex_cd d) [.sipush 0, .goto_w 3] ls st h := ex_ev_eq d 69 2 ls st h
set_option maxRecDepth 20000 in
theorem ev_69_3 (d : Nat) (ls st : List ex_V) (h : ex_H) : ex_ev d 69 3 ls st h = ex_xs 2 (ex_ev d 69) (ex_cd d) [.ireturn] ls st h := ex_ev_eq d 69 3 ls st h
set_option maxRecDepth 20000 in
theorem ev_69_4 (d : Nat) (ls st : List ex_V) (h : ex_H) : ex_ev d 69 4 ls st h = ex_xs 2 (ex_ev d 69) (ex_cd d) [.iload 1, .iload 2, .if_icmp .ne 5, .sipush 1, .goto 6] ls st h := ex_ev_eq d 69 4 ls st h
set_option maxRecDepth 20000 in
theorem ev_69_5 (d : Nat) (ls st : List ex_V) (h : ex_H) : ex_ev d 69 5 ls st h = ex_xs 2 (ex_ev d 69) (ex_cd d) [.sipush 0, .goto_w 6] ls st h := ex_ev_eq d 69 5 ls st h
set_option maxRecDepth 20000 in
theorem ev_69_6 (d : Nat) (ls st : List ex_V) (h : ex_H) : ex_ev d 69 6 ls st h = ex_xs 2 (ex_ev d 69) (ex_cd d) [.ireturn] ls st h := ex_ev_eq d 69 6 ls st h
set_option maxRecDepth 20000 in
theorem ev_69_7 (d : Nat) (ls st : List ex_V) (h : ex_H) : ex_ev d 69 7 ls st h = ex_xs 2 (ex_ev d 69) (ex_cd d) [.iload 1, .ifCond .eq 8, .iload 2, .ifCond .eq 8, .sipush 1, .goto 9] ls st h := ex_ev_eq d 69 7 ls st h
set_option maxRecDepth 20000 in
theorem ev_69_8 (d : Nat) (ls st : List ex_V) (h : ex_H) : ex_ev d 69 8 ls st h = ex_xs 2 (ex_ev d 69) (ex_cd d) [.sipush 0, .goto_w 9] ls st h := ex_ev_eq d 69 8 ls st h
set_option maxRecDepth 20000 in
theorem ev_69_9 (d : Nat) (ls st : List ex_V) (h : ex_H) : ex_ev d 69 9 ls st h = ex_xs 2 (ex_ev d 69) (ex_cd d) [.ireturn] ls st h := ex_ev_eq d 69 9 ls st h
set_option maxRecDepth 20000 in
theorem ev_69_10 (d : Nat) (ls st : List ex_V) (h : ex_H) : ex_ev d 69 10 ls st h = ex_xs 2 (ex_ev d 69) (ex_cd d) [.iload 1, .ifCond .ne 11, .iload 2, .ifCond .eq 12, .goto_w 11] ls st h := ex_ev_eq d 69 10 ls st h
set_option maxRecDepth 20000 in
theorem ev_69_11 (d : Nat) (ls st : List ex_V) (h : ex_H) : ex_ev d 69 11 ls st h = ex_xs 2 (ex_ev d 69) (ex_cd d) [.sipush 1, .goto 13] ls st h := ex_ev_eq d 69 11 ls st h
set_option maxRecDepth 20000 in
theorem ev_69_12 (d : Nat) (ls st : List ex_V) (h : ex_H) : ex_ev d 69 12 ls st h = ex_xs 2 (ex_ev d 69) (ex_cd d) [.sipush 0, .goto_w 13] ls st h := ex_ev_eq d 69 12 ls st h
set_option maxRecDepth 20000 in
theorem ev_69_13 (d : Nat) (ls st : List ex_V) (h : ex_H) : ex_ev d 69 13 ls st h = ex_xs 2 (ex_ev d 69) (ex_cd d) [.ireturn] ls st h := ex_ev_eq d 69 13 ls st h
set_option maxRecDepth 20000 in
theorem ev_70_0 (d : Nat) (ls st : List ex_V) (h : ex_H) : ex_ev d 70 0 ls st h = ex_xs 0 (ex_ev d 70) (ex_cd d) [.aload 0, .invokedynamic 1, .aload 0, .sipush 4, .newarray .int, .putfield 288, .aload 0, .sipush 4, .newarray .int, .putfield 289, .aload 0, .sipush 80, .newarray .int, .putfield 290, .return_] ls st h := ex_ev_eq d 70 0 ls st h
set_option maxRecDepth 20000 in
theorem ev_71_0 (d : Nat) (ls st : List ex_V) (h : ex_H) : ex_ev d 71 0 ls st h = ex_xs 2 (ex_ev d 71) (ex_cd d) [.iload 1, .ifCond .lt 1, .iload 1, .sipush 4, .if_icmp .ge 1, .sipush 1, .goto 2] ls st h := ex_ev_eq d 71 0 ls st h
set_option maxRecDepth 20000 in
theorem ev_71_1 (d : Nat) (ls st : List ex_V) (h : ex_H) : ex_ev d 71 1 ls st h = ex_xs 2 (ex_ev d 71) (ex_cd d) [.sipush 0, .goto_w 2] ls st h := ex_ev_eq d 71 1 ls st h
set_option maxRecDepth 20000 in
theorem ev_71_2 (d : Nat) (ls st : List ex_V) (h : ex_H) : ex_ev d 71 2 ls st h = ex_xs 2 (ex_ev d 71) (ex_cd d) [.ireturn] ls st h := ex_ev_eq d 71 2 ls st h
set_option maxRecDepth 20000 in
theorem ev_72_0 (d : Nat) (ls st : List ex_V) (h : ex_H) : ex_ev d 72 0 ls st h = ex_xs 2 (ex_ev d 72) (ex_cd d) [.aload 0, .getfield 288, .iload 1, .iaload, .ifCond .ne 1, .sipush 1, .goto 2] ls st h := ex_ev_eq d 72 0 ls st h
set_option maxRecDepth 20000 in
theorem ev_72_1 (d : Nat) (ls st : List ex_V) (h : ex_H) : ex_ev d 72 1 ls st h = ex_xs 2 (ex_ev d 72) (ex_cd d) [.sipush 0, .goto_w 2] ls st h := ex_ev_eq d 72 1 ls st h
set_option maxRecDepth 20000 in
theorem ev_72_2 (d : Nat) (ls st : List ex_V) (h : ex_H) : ex_ev d 72 2 ls st h = ex_xs 2 (ex_ev d 72) (ex_cd d) [.ireturn] ls st h := ex_ev_eq d 72 2 ls st h
set_option maxRecDepth 20000 in
theorem ev_73_0 (d : Nat) (ls st : List ex_V) (h : ex_H) : ex_ev d 73 0 ls st h = ex_xs 0 (ex_ev d 73) (ex_cd d) [.aload 0, .getfield 288, .iload 1, .iload 2, .iastore, .aload 0, .getfield 289, .iload 1, .iload 3, .iastore, .aload 0, .getfield 290, .iload 1, .sipush 20, .imul, .iload 1, .sipush 1, .iadd, .sipush 20, .imul, .sipush 0, .invokestatic 240, .return_] ls st h := ex_ev_eq d 73 0 ls st h
set_option maxRecDepth 20000 in
theorem ev_74_0 (d : Nat) (ls st : List ex_V) (h : ex_H) : ex_ev d 74 0 ls st h = ex_xs 1 (ex_ev d 74) (ex_cd d) [.aload 0, .getfield 290, .iload 1, .sipush 20, .imul, .iload 2, .iadd, .iaload, .ireturn] ls st h := ex_ev_eq d 74 0 ls st h
set_option maxRecDepth 20000 in
theorem ev_75_0 (d : Nat) (ls st : List ex_V) (h : ex_H) : ex_ev d 75 0 ls st h = ex_xs 0 (ex_ev d 75) (ex_cd d) [.aload 0, .getfield 290, .iload 1, .sipush 20, .imul, .iload 2, .iadd, .aload 0, .getfield 288, .iload 1, .iaload, .sipush 32, .if_icmp .ne 1, .iload 3, .goto 2] ls st h := ex_ev_eq d 75 0 ls st h
set_option maxRecDepth 20000 in
theorem ev_75_1 (d : Nat) (ls st : List ex_V) (h : ex_H) : ex_ev d 75 1 ls st h = ex_xs 0 (ex_ev d 75) (ex_cd d) [.iload 3, .sipush 1, .aload 0, .getfield 288, .iload 1, .iaload, .ishl, .sipush 1, .isub, .iand, .goto_w 2] ls st h := ex_ev_eq d 75 1 ls st h
set_option maxRecDepth 20000 in
theorem ev_75_2 (d : Nat) (ls st : List ex_V) (h : ex_H) : ex_ev d 75 2 ls st h = ex_xs 0 (ex_ev d 75) (ex_cd d) [.iastore, .return_] ls st h := ex_ev_eq d 75 2 ls st h
set_option maxRecDepth 20000 in
theorem ev_76_0 (d : Nat) (ls st : List ex_V) (h : ex_H) : ex_ev d 76 0 ls st h = ex_xs 2 (ex_ev d 76) (ex_cd d) [.iload 2, .ifCond .lt 1, .iload 3, .ifCond .lt 1, .iload 2, .aload 0, .getfield 289, .iload 1, .iaload, .if_icmp .gt 1, .iload 3, .aload 0, .getfield 289, .iload 1, .iaload, .iload 2, .isub, .if_icmp .gt 1, .sipush 1, .goto 2] ls st h := ex_ev_eq d 76 0 ls st h
set_option maxRecDepth 20000 in
theorem ev_76_1 (d : Nat) (ls st : List ex_V) (h : ex_H) : ex_ev d 76 1 ls st h = ex_xs 2 (ex_ev d 76) (ex_cd d) [.sipush 0, .goto_w 2] ls st h := ex_ev_eq d 76 1 ls st h
set_option maxRecDepth 20000 in
theorem ev_76_2 (d : Nat) (ls st : List ex_V) (h : ex_H) : ex_ev d 76 2 ls st h = ex_xs 2 (ex_ev d 76) (ex_cd d) [.ireturn] ls st h := ex_ev_eq d 76 2 ls st h
set_option maxRecDepth 20000 in
theorem ev_77_0 (d : Nat) (ls st : List ex_V) (h : ex_H) : ex_ev d 77 0 ls st h = ex_xs 0 (ex_ev d 77) (ex_cd d) [.aload 0, .getfield 290, .iload 1, .sipush 20, .imul, .iload 2, .iadd, .aload 0, .getfield 290, .iload 3, .sipush 20, .imul, .iload 4, .iadd, .iload 5, .invokedynamic 0, .return_] ls st h := ex_ev_eq d 77 0 ls st h
set_option maxRecDepth 20000 in
theorem ev_78_0 (d : Nat) (ls st : List ex_V) (h : ex_H) : ex_ev d 78 0 ls st h = ex_xs 0 (ex_ev d 78) (ex_cd d) [.aload 0, .invokedynamic 1, .aload 0, .sipush 3, .newarray .int, .putfield 320, .aload 0, .new 2, .dup, .invokespecial 9, .putfield 321, .aload 0, .sipush 0, .putfield 322, .return_] ls st h := ex_ev_eq d 78 0 ls st h
set_option maxRecDepth 20000 in
theorem ev_79_0 (d : Nat) (ls st : List ex_V) (h : ex_H) : ex_ev d 79 0 ls st h = ex_xs 0 (ex_ev d 79) (ex_cd d) [.aload 0, .getfield 321, .aload 1, .invokevirtual 10, .aload 0, .iload 2, .putfield 322, .return_] ls st h := ex_ev_eq d 79 0 ls st h
set_option maxRecDepth 20000 in
theorem ev_80_0 (d : Nat) (ls st : List ex_V) (h : ex_H) : ex_ev d 80 0 ls st h = ex_xs 2 (ex_ev d 80) (ex_cd d) [.aload 0, .getfield 321, .iload 1, .invokevirtual 26, .ireturn] ls st h := ex_ev_eq d 80 0 ls st h
set_option maxRecDepth 20000 in
theorem ev_81_0 (d : Nat) (ls st : List ex_V) (h : ex_H) : ex_ev d 81 0 ls st h = ex_xs 1 (ex_ev d 81) (ex_cd d) [.aload 0, .aload 1, .iload 3, .invokevirtual 79, .sipush 0, .istore 4, .goto_w 1] ls st h := ex_ev_eq d 81 0 ls st h
set_option maxRecDepth 20000 in
theorem ev_81_1 (d : Nat) (ls st : List ex_V) (h : ex_H) : ex_ev d 81 1 ls st h = ex_xs 1 (ex_ev d 81) (ex_cd d) [.iload 4, .sipush 3, .if_icmp .gt 3, .aload 0, .iload 2, .sipush 0, .iload 4, .invokevirtual 82, .ifCond .eq 2, .iload 4, .ireturn] ls st h := ex_ev_eq d 81 1 ls st h
set_option maxRecDepth 20000 in
theorem ev_81_2 (d : Nat) (ls st : List ex_V) (h : ex_H) : ex_ev d 81 2 ls st h = ex_xs 1 (ex_ev d 81) (ex_cd d) [.iinc 4 1, .goto 1] ls st h := ex_ev_eq d 81 2 ls st h
set_option maxRecDepth 20000 in
theorem ev_81_3 (d : Nat) (ls st : List ex_V) (h : ex_H) : ex_ev d 81 3 ls st h = ex_xs 1 (ex_ev d 81) (ex_cd d) [.sipush (-1), .ireturn] ls st h := ex_ev_eq d 81 3 ls st h
set_option maxRecDepth 20000 in
theorem ev_82_0 (d : Nat) (ls st : List ex_V) (h : ex_H) : ex_ev d 82 0 ls st h = ex_xs 2 (ex_ev d 82) (ex_cd d) [.iload 2, .iload 3, .if_icmp .lt 1, .aload 0, .iload 1, .invokevirtual 80, .ireturn] ls st h := ex_ev_eq d 82 0 ls st h
set_option maxRecDepth 20000 in
theorem ev_82_1 (d : Nat) (ls st : List ex_V) (h : ex_H) : ex_ev d 82 1 ls st h = ex_xs 2 (ex_ev d 82) (ex_cd d) [.aload 0, .getfield 321, .iload 1, .invokevirtual 34, .invokestatic 235, .iload 3, .iload 2, .isub, .if_icmp .le 2, .sipush 0, .ireturn] ls st h := ex_ev_eq d 82 1 ls st h
set_option maxRecDepth 20000 in
theorem ev_82_2 (d : Nat) (ls st : List ex_V) (h : ex_H) : ex_ev d 82 2 ls st h = ex_xs 2 (ex_ev d 82) (ex_cd d) [.sipush 0, .istore 4, .goto_w 3] ls st h := ex_ev_eq d 82 2 ls st h
set_option maxRecDepth 20000 in
theorem ev_82_3 (d : Nat) (ls st : List ex_V) (h : ex_H) : ex_ev d 82 3 ls st h = ex_xs 2 (ex_ev d 82) (ex_cd d) [.iload 4, .aload 0, .getfield 321, .getfield 65, .if_icmp .ge 8, .aload 0, .getfield 321, .getfield 76, .iload 4, .iaload, .istore 5, .sipush 0, .istore 6, .goto_w 4] ls st h := ex_ev_eq d 82 3 ls st h
set_option maxRecDepth 20000 in
theorem ev_82_4 (d : Nat) (ls st : List ex_V) (h : ex_H) : ex_ev d 82 4 ls st h = ex_xs 2 (ex_ev d 82) (ex_cd d) [.iload 6, .aload 0, .getfield 321, .getfield 64, .if_icmp .ge 7, .iload 4, .sipush 8, .imul, .iload 6, .iadd, .istore 7, .aload 0, .iload 1, .iload 7, .invokevirtual 83, .ifCond .ne 5, .goto 6] ls st h := ex_ev_eq d 82 4 ls st h
set_option maxRecDepth 20000 in
theorem ev_82_5 (d : Nat) (ls st : List ex_V) (h : ex_H) : ex_ev d 82 5 ls st h = ex_xs 2 (ex_ev d 82) (ex_cd d) [.aload 0, .getfield 320, .iload 2, .iload 7, .iastore, .aload 0, .iload 1, .iload 2, .sipush 1, .iadd, .iload 3, .invokevirtual 82, .istore 8, .aload 0, .getfield 321, .iload 4, .iload 5, .invokevirtual 32, .iload 8, .ifCond .eq 6, .sipush 1, .ireturn] ls st h := ex_ev_eq d 82 5 ls st h
set_option maxRecDepth 20000 in
theorem ev_82_6 (d : Nat) (ls st : List ex_V) (h : ex_H) : ex_ev d 82 6 ls st h = ex_xs 2 (ex_ev d 82) (ex_cd d) [.iinc 6 1, .goto 4] ls st h := ex_ev_eq d 82 6 ls st h
set_option maxRecDepth 20000 in
theorem ev_82_7 (d : Nat) (ls st : List ex_V) (h : ex_H) : ex_ev d 82 7 ls st h = ex_xs 2 (ex_ev d 82) (ex_cd d) [.iinc 4 1, .goto 3] ls st h := ex_ev_eq d 82 7 ls st h
set_option maxRecDepth 20000 in
theorem ev_82_8 (d : Nat) (ls st : List ex_V) (h : ex_H) : ex_ev d 82 8 ls st h = ex_xs 2 (ex_ev d 82) (ex_cd d) [.sipush 0, .ireturn] ls st h := ex_ev_eq d 82 8 ls st h
set_option maxRecDepth 20000 in
theorem ev_83_0 (d : Nat) (ls st : List ex_V) (h : ex_H) : ex_ev d 83 0 ls st h = ex_xs 2 (ex_ev d 83) (ex_cd d) [.iload 2, .ifCond .ge 1, .sipush 0, .ireturn] ls st h := ex_ev_eq d 83 0 ls st h
set_option maxRecDepth 20000 in
theorem ev_83_1 (d : Nat) (ls st : List ex_V) (h : ex_H) : ex_ev d 83 1 ls st h = ex_xs 2 (ex_ev d 83) (ex_cd d) [.iload 2, .sipush 8, .idiv, .istore 3, .iload 2, .sipush 8, .irem, .istore 4, .aload 0, .getfield 321, .iload 3, .invokevirtual 14, .ifCond .eq 2, .aload 0, .getfield 321, .iload 4, .invokevirtual 13, .ifCond .eq 2, .iload 3, .iload 1, .if_icmp .eq 2, .aload 0, .getfield 322, .iload 3, .ishr, .sipush 1, .iand, .ifCond .eq 2, .aload 0, .getfield 321, .iload 3, .iload 4, .invokevirtual 28, .ifCond .eq 3, .goto_w 2] ls st h := ex_ev_eq d 83 1 ls st h
set_option maxRecDepth 20000 in
theorem ev_83_2 (d : Nat) (ls st : List ex_V) (h : ex_H) : ex_ev d 83 2 ls st h = ex_xs 2 (ex_ev d 83) (ex_cd d) [.sipush 0, .ireturn] ls st h := ex_ev_eq d 83 2 ls st h
set_option maxRecDepth 20000 in
theorem ev_83_3 (d : Nat) (ls st : List ex_V) (h : ex_H) : ex_ev d 83 3 ls st h = ex_xs 2 (ex_ev d 83) (ex_cd d) [.aload 0, .getfield 321, .iload 3, .iload 4, .invokevirtual 31, .sipush 1, .ireturn] ls st h := ex_ev_eq d 83 3 ls st h
set_option maxRecDepth 20000 in
theorem ev_84_0 (d : Nat) (ls st : List ex_V) (h : ex_H) : ex_ev d 84 0 ls st h = ex_xs 0 (ex_ev d 84) (ex_cd d) [.aload 0, .invokedynamic 1, .aload 0, .new 1, .dup, .invokespecial 6, .putfield 352, .aload 0, .sipush 16, .anewarray 1, .putfield 353, .aload 0, .new 9, .dup, .invokespecial 70, .putfield 354, .aload 0, .new 10, .dup, .invokespecial 78, .putfield 355, .aload 0, .new 5, .dup, .invokespecial 50, .putfield 356, .aload 0, .new 0, .dup, .invokespecial 0, .putfield 357, .aload 0, .new 6, .dup, .invokespecial 54, .putfield 358, .aload 0, .new 8, .dup, .invokespecial 61, .putfield 359, .aload 0, .new 7, .dup, .invokespecial 58, .putfield 360, .aload 0, .sipush 0, .putfield 361, .aload 0, .sipush 0, .putfield 362, .aload 0, .sipush 0, .putfield 363, .sipush 0, .istore 1, .goto_w 1] ls st h := ex_ev_eq d 84 0 ls st h
set_option maxRecDepth 20000 in
theorem ev_84_1 (d : Nat) (ls st : List ex_V) (h : ex_H) : ex_ev d 84 1 ls st h = ex_xs 0 (ex_ev d 84) (ex_cd d) [.iload 1, .sipush 16, .if_icmp .ge 2, .aload 0, .getfield 353, .iload 1, .new 1, .dup, .invokespecial 6, .aastore, .iinc 1 1, .goto 1] ls st h := ex_ev_eq d 84 1 ls st h
set_option maxRecDepth 20000 in
theorem ev_84_2 (d : Nat) (ls st : List ex_V) (h : ex_H) : ex_ev d 84 2 ls st h = ex_xs 0 (ex_ev d 84) (ex_cd d) [.return_] ls st h := ex_ev_eq d 84 2 ls st h
set_option maxRecDepth 20000 in
theorem ev_85_0 (d : Nat) (ls st : List ex_V) (h : ex_H) : ex_ev d 85 0 ls st h = ex_xs 1 (ex_ev d 85) (ex_cd d) [.iload 1, .invokestatic 11, .ifCond .eq 1, .iload 2, .sipush 1, .sipush 30, .invokestatic 137, .ifCond .eq 1, .iload 3, .sipush 1, .sipush 30, .invokestatic 137, .ifCond .eq 1, .iload 4, .sipush 1, .sipush 99, .invokestatic 137, .ifCond .ne 2, .goto_w 1] ls st h := ex_ev_eq d 85 0 ls st h
set_option maxRecDepth 20000 in
theorem ev_85_1 (d : Nat) (ls st : List ex_V) (h : ex_H) : ex_ev d 85 1 ls st h = ex_xs 1 (ex_ev d 85) (ex_cd d) [.aload 0, .sipush (-100001), .invokevirtual 132, .ireturn] ls st h := ex_ev_eq d 85 1 ls st h
set_option maxRecDepth 20000 in
theorem ev_85_2 (d : Nat) (ls st : List ex_V) (h : ex_H) : ex_ev d 85 2 ls st h = ex_xs 1 (ex_ev d 85) (ex_cd d) [.aload 0, .getfield 352, .getfield 32, .getfield 64, .sipush 5, .if_icmp .lt 3, .aload 0, .sipush (-100005), .invokevirtual 132, .ireturn] ls st h := ex_ev_eq d 85 2 ls st h
set_option maxRecDepth 20000 in
theorem ev_85_3 (d : Nat) (ls st : List ex_V) (h : ex_H) : ex_ev d 85 3 ls st h = ex_xs 1 (ex_ev d 85) (ex_cd d) [.aload 0, .invokevirtual 133, .aload 0, .getfield 352, .getfield 32, .iload 1, .iload 2, .iload 3, .iload 4, .invokevirtual 15, .ireturn] ls st h := ex_ev_eq d 85 3 ls st h
set_option maxRecDepth 20000 in
theorem ev_86_0 (d : Nat) (ls st : List ex_V) (h : ex_H) : ex_ev d 86 0 ls st h = ex_xs 1 (ex_ev d 86) (ex_cd d) [.aload 0, .getfield 352, .getfield 32, .iload 1, .invokevirtual 13, .ifCond .eq 1, .iload 2, .invokestatic 11, .ifCond .ne 2, .goto_w 1] ls st h := ex_ev_eq d 86 0 ls st h
set_option maxRecDepth 20000 in
theorem ev_86_1 (d : Nat) (ls st : List ex_V) (h : ex_H) : ex_ev d 86 1 ls st h = ex_xs 1 (ex_ev d 86) (ex_cd d) [.aload 0, .sipush (-100001), .invokevirtual 132, .ireturn] ls st h := ex_ev_eq d 86 1 ls st h
set_option maxRecDepth 20000 in
theorem ev_86_2 (d : Nat) (ls st : List ex_V) (h : ex_H) : ex_ev d 86 2 ls st h = ex_xs 1 (ex_ev d 86) (ex_cd d) [.aload 0, .getfield 352, .getfield 32, .iload 1, .iload 2, .invokevirtual 19, .ifCond .eq 3, .iload 1, .goto 4] ls st h := ex_ev_eq d 86 2 ls st h
set_option maxRecDepth 20000 in
theorem ev_86_3 (d : Nat) (ls st : List ex_V) (h : ex_H) : ex_ev d 86 3 ls st h = ex_xs 1 (ex_ev d 86) (ex_cd d) [.aload 0, .sipush (-100004), .invokevirtual 132, .goto_w 4] ls st h := ex_ev_eq d 86 3 ls st h
set_option maxRecDepth 20000 in
theorem ev_86_4 (d : Nat) (ls st : List ex_V) (h : ex_H) : ex_ev d 86 4 ls st h = ex_xs 1 (ex_ev d 86) (ex_cd d) [.ireturn] ls st h := ex_ev_eq d 86 4 ls st h
set_option maxRecDepth 20000 in
theorem ev_87_0 (d : Nat) (ls st : List ex_V) (h : ex_H) : ex_ev d 87 0 ls st h = ex_xs 1 (ex_ev d 87) (ex_cd d) [.aload 0, .getfield 352, .getfield 32, .astore 3, .aload 3, .iload 1, .invokevirtual 13, .ifCond .ne 1, .aload 0, .sipush (-100001), .invokevirtual 132, .ireturn] ls st h := ex_ev_eq d 87 0 ls st h
set_option maxRecDepth 20000 in
theorem ev_87_1 (d : Nat) (ls st : List ex_V) (h : ex_H) : ex_ev d 87 1 ls st h = ex_xs 1 (ex_ev d 87) (ex_cd d) [.iload 2, .tableswitch 10 0 7 #[2, 3, 4, 5, 6, 7, 8, 9]] ls st h := ex_ev_eq d 87 1 ls st h
set_option maxRecDepth 20000 in
theorem ev_87_2 (d : Nat) (ls st : List ex_V) (h : ex_H) : ex_ev d 87 2 ls st h = ex_xs 1 (ex_ev d 87) (ex_cd d) [.aload 3, .getfield 66, .iload 1, .iaload, .ireturn] ls st h := ex_ev_eq d 87 2 ls st h
set_option maxRecDepth 20000 in
theorem ev_87_3 (d : Nat) (ls st : List ex_V) (h : ex_H) : ex_ev d 87 3 ls st h = ex_xs 1 (ex_ev d 87) (ex_cd d) [.aload 3, .getfield 67, .iload 1, .iaload, .ireturn] ls st h := ex_ev_eq d 87 3 ls st h
set_option maxRecDepth 20000 in
theorem ev_87_4 (d : Nat) (ls st : List ex_V) (h : ex_H) : ex_ev d 87 4 ls st h = ex_xs 1 (ex_ev d 87) (ex_cd d) [.aload 3, .getfield 68, .iload 1, .iaload, .ireturn] ls st h := ex_ev_eq d 87 4 ls st h
set_option maxRecDepth 20000 in
theorem ev_87_5 (d : Nat) (ls st : List ex_V) (h : ex_H) : ex_ev d 87 5 ls st h = ex_xs 1 (ex_ev d 87) (ex_cd d) [.aload 3, .iload 1, .invokevirtual 21, .ireturn] ls st h := ex_ev_eq d 87 5 ls st h
set_option maxRecDepth 20000 in
theorem ev_87_6 (d : Nat) (ls st : List ex_V) (h : ex_H) : ex_ev d 87 6 ls st h = ex_xs 1 (ex_ev d 87) (ex_cd d) [.aload 3, .getfield 73, .iload 1, .iaload, .ireturn] ls st h := ex_ev_eq d 87 6 ls st h
set_option maxRecDepth 20000 in
theorem ev_87_7 (d : Nat) (ls st : List ex_V) (h : ex_H) : ex_ev d 87 7 ls st h = ex_xs 1 (ex_ev d 87) (ex_cd d) [.aload 3, .iload 1, .invokevirtual 24, .ireturn] ls st h := ex_ev_eq d 87 7 ls st h
set_option maxRecDepth 20000 in
theorem ev_87_8 (d : Nat) (ls st : List ex_V) (h : ex_H) : ex_ev d 87 8 ls st h = ex_xs 1 (ex_ev d 87) (ex_cd d) [.aload 3, .getfield 71, .iload 1, .iaload, .ireturn] ls st h := ex_ev_eq d 87 8 ls st h
set_option maxRecDepth 20000 in
theorem ev_87_9 (d : Nat) (ls st : List ex_V) (h : ex_H) : ex_ev d 87 9 ls st h = ex_xs 1 (ex_ev d 87) (ex_cd d) [.aload 3, .getfield 72, .iload 1, .iaload, .ireturn] ls st h := ex_ev_eq d 87 9 ls st h
set_option maxRecDepth 20000 in
theorem ev_87_10 (d : Nat) (ls st : List ex_V) (h : ex_H) : ex_ev d 87 10 ls st h = ex_xs 1 (ex_ev d 87) (ex_cd d) [.aload 0, .sipush (-100001), .invokevirtual 132, .ireturn] ls st h := ex_ev_eq d 87 10 ls st h
set_option maxRecDepth 20000 in
theorem ev_88_0 (d : Nat) (ls st : List ex_V) (h : ex_H) : ex_ev d 88 0 ls st h = ex_xs 1 (ex_ev d 88) (ex_cd d) [.aload 0, .getfield 352, .getfield 32, .astore 3, .aload 3, .iload 1, .invokevirtual 13, .ifCond .ne 1, .aload 0, .sipush (-100001), .invokevirtual 132, .ireturn] ls st h := ex_ev_eq d 88 0 ls st h
set_option maxRecDepth 20000 in
theorem ev_88_1 (d : Nat) (ls st : List ex_V) (h : ex_H) : ex_ev d 88 1 ls st h = ex_xs 1 (ex_ev d 88) (ex_cd d) [.aload 3, .iload 1, .sipush 1, .invokevirtual 19, .ifCond .ne 2, .aload 0, .sipush (-100004), .invokevirtual 132, .ireturn] ls st h := ex_ev_eq d 88 1 ls st h
set_option maxRecDepth 20000 in
theorem ev_88_2 (d : Nat) (ls st : List ex_V) (h : ex_H) : ex_ev d 88 2 ls st h = ex_xs 1 (ex_ev d 88) (ex_cd d) [.aload 0, .invokevirtual 133, .aload 3, .getfield 72, .iload 1, .iaload, .istore 4, .aload 3, .getfield 72, .iload 1, .iload 2, .ifCond .eq 3, .sipush 1, .goto 4] ls st h := ex_ev_eq d 88 2 ls st h
set_option maxRecDepth 20000 in
theorem ev_88_3 (d : Nat) (ls st : List ex_V) (h : ex_H) : ex_ev d 88 3 ls st h = ex_xs 1 (ex_ev d 88) (ex_cd d) [.sipush 0, .goto_w 4] ls st h := ex_ev_eq d 88 3 ls st h
set_option maxRecDepth 20000 in
theorem ev_88_4 (d : Nat) (ls st : List ex_V) (h : ex_H) : ex_ev d 88 4 ls st h = ex_xs 1 (ex_ev d 88) (ex_cd d) [.iastore, .aload 3, .getfield 72, .iload 1, .iaload, .iload 4, .if_icmp .ne 5, .sipush 0, .goto 6] ls st h := ex_ev_eq d 88 4 ls st h
set_option maxRecDepth 20000 in
theorem ev_88_5 (d : Nat) (ls st : List ex_V) (h : ex_H) : ex_ev d 88 5 ls st h = ex_xs 1 (ex_ev d 88) (ex_cd d) [.sipush 1, .goto_w 6] ls st h := ex_ev_eq d 88 5 ls st h
set_option maxRecDepth 20000 in
theorem ev_88_6 (d : Nat) (ls st : List ex_V) (h : ex_H) : ex_ev d 88 6 ls st h = ex_xs 1 (ex_ev d 88) (ex_cd d) [.ireturn] ls st h := ex_ev_eq d 88 6 ls st h
set_option maxRecDepth 20000 in
theorem ev_89_0 (d : Nat) (ls st : List ex_V) (h : ex_H) : ex_ev d 89 0 ls st h = ex_xs 1 (ex_ev d 89) (ex_cd d) [.sipush 0, .iload 1, .invokestatic 12, .ifCond .eq 1, .sipush 1, .iload 2, .invokestatic 12, .ifCond .eq 1, .sipush 2, .iload 3, .invokestatic 12, .ifCond .eq 1, .sipush 3, .iload 4, .invokestatic 12, .ifCond .eq 1, .sipush 4, .iload 5, .invokestatic 12, .ifCond .eq 1, .sipush 5, .iload 6, .invokestatic 12, .ifCond .ne 2, .goto_w 1] ls st h := ex_ev_eq d 89 0 ls st h
set_option maxRecDepth 20000 in
theorem ev_89_1 (d : Nat) (ls st : List ex_V) (h : ex_H) : ex_ev d 89 1 ls st h = ex_xs 1 (ex_ev d 89) (ex_cd d) [.aload 0, .sipush (-100001), .invokevirtual 132, .ireturn] ls st h := ex_ev_eq d 89 1 ls st h
set_option maxRecDepth 20000 in
theorem ev_89_2 (d : Nat) (ls st : List ex_V) (h : ex_H) : ex_ev d 89 2 ls st h = ex_xs 1 (ex_ev d 89) (ex_cd d) [.aload 0, .getfield 352, .getfield 32, .getfield 65, .sipush 8, .if_icmp .lt 3, .aload 0, .sipush (-100005), .invokevirtual 132, .ireturn] ls st h := ex_ev_eq d 89 2 ls st h
set_option maxRecDepth 20000 in
theorem ev_89_3 (d : Nat) (ls st : List ex_V) (h : ex_H) : ex_ev d 89 3 ls st h = ex_xs 1 (ex_ev d 89) (ex_cd d) [.aload 0, .invokevirtual 133, .aload 0, .getfield 352, .getfield 32, .iload 1, .iload 2, .iload 3, .iload 4, .iload 5, .iload 6, .invokevirtual 16, .ireturn] ls st h := ex_ev_eq d 89 3 ls st h
set_option maxRecDepth 20000 in
theorem ev_90_0 (d : Nat) (ls st : List ex_V) (h : ex_H) : ex_ev d 90 0 ls st h = ex_xs 1 (ex_ev d 90) (ex_cd d) [.aload 0, .getfield 352, .getfield 32, .astore 3, .aload 3, .iload 1, .invokevirtual 14, .ifCond .eq 1, .iload 2, .sipush 0, .sipush 7, .invokestatic 137, .ifCond .ne 2, .goto_w 1] ls st h := ex_ev_eq d 90 0 ls st h
set_option maxRecDepth 20000 in
theorem ev_90_1 (d : Nat) (ls st : List ex_V) (h : ex_H) : ex_ev d 90 1 ls st h = ex_xs 1 (ex_ev d 90) (ex_cd d) [.aload 0, .sipush (-100001), .invokevirtual 132, .ireturn] ls st h := ex_ev_eq d 90 1 ls st h
set_option maxRecDepth 20000 in
theorem ev_90_2 (d : Nat) (ls st : List ex_V) (h : ex_H) : ex_ev d 90 2 ls st h = ex_xs 1 (ex_ev d 90) (ex_cd d) [.iload 2, .sipush 6, .if_icmp .ge 3, .aload 3, .iload 1, .iload 2, .invokevirtual 17, .ireturn] ls st h := ex_ev_eq d 90 2 ls st h
set_option maxRecDepth 20000 in
theorem ev_90_3 (d : Nat) (ls st : List ex_V) (h : ex_H) : ex_ev d 90 3 ls st h = ex_xs 1 (ex_ev d 90) (ex_cd d) [.iload 2, .sipush 6, .if_icmp .ne 4, .aload 3, .getfield 76, .iload 1, .iaload, .goto 5] ls st h := ex_ev_eq d 90 3 ls st h
set_option maxRecDepth 20000 in
theorem ev_90_4 (d : Nat) (ls st : List ex_V) (h : ex_H) : ex_ev d 90 4 ls st h = ex_xs 1 (ex_ev d 90) (ex_cd d) [.aload 3, .iload 1, .invokevirtual 34, .invokestatic 235, .goto_w 5] ls st h := ex_ev_eq d 90 4 ls st h
set_option maxRecDepth 20000 in
theorem ev_90_5 (d : Nat) (ls st : List ex_V) (h : ex_H) : ex_ev d 90 5 ls st h = ex_xs 1 (ex_ev d 90) (ex_cd d) [.ireturn] ls st h := ex_ev_eq d 90 5 ls st h
set_option maxRecDepth 20000 in
theorem ev_91_0 (d : Nat) (ls st : List ex_V) (h : ex_H) : ex_ev d 91 0 ls st h = ex_xs 1 (ex_ev d 91) (ex_cd d) [.aload 0, .getfield 352, .getfield 32, .iload 1, .invokevirtual 14, .ifCond .eq 1, .iload 2, .sipush 0, .sipush 2, .invokestatic 137, .ifCond .eq 1, .sipush 3, .iload 2, .iadd, .iload 3, .invokestatic 12, .ifCond .ne 2, .goto_w 1] ls st h := ex_ev_eq d 91 0 ls st h
set_option maxRecDepth 20000 in
theorem ev_91_1 (d : Nat) (ls st : List ex_V) (h : ex_H) : ex_ev d 91 1 ls st h = ex_xs 1 (ex_ev d 91) (ex_cd d) [.aload 0, .sipush (-100001), .invokevirtual 132, .ireturn] ls st h := ex_ev_eq d 91 1 ls st h
set_option maxRecDepth 20000 in
theorem ev_91_2 (d : Nat) (ls st : List ex_V) (h : ex_H) : ex_ev d 91 2 ls st h = ex_xs 1 (ex_ev d 91) (ex_cd d) [.aload 0, .invokevirtual 133, .aload 0, .getfield 352, .getfield 32, .iload 1, .sipush 3, .iload 2, .iadd, .iload 3, .invokevirtual 18, .ireturn] ls st h := ex_ev_eq d 91 2 ls st h
set_option maxRecDepth 20000 in
theorem ev_92_0 (d : Nat) (ls st : List ex_V) (h : ex_H) : ex_ev d 92 0 ls st h = ex_xs 1 (ex_ev d 92) (ex_cd d) [.aload 0, .getfield 352, .getfield 32, .astore 3, .aload 3, .iload 1, .invokevirtual 13, .ifCond .ne 1, .aload 0, .sipush (-100001), .invokevirtual 132, .ireturn] ls st h := ex_ev_eq d 92 0 ls st h
set_option maxRecDepth 20000 in
theorem ev_92_1 (d : Nat) (ls st : List ex_V) (h : ex_H) : ex_ev d 92 1 ls st h = ex_xs 1 (ex_ev d 92) (ex_cd d) [.iload 2, .ifCond .lt 2, .iload 2, .aload 3, .getfield 73, .iload 1, .iaload, .if_icmp .lt 3, .goto_w 2] ls st h := ex_ev_eq d 92 1 ls st h
set_option maxRecDepth 20000 in
theorem ev_92_2 (d : Nat) (ls st : List ex_V) (h : ex_H) : ex_ev d 92 2 ls st h = ex_xs 1 (ex_ev d 92) (ex_cd d) [.aload 0, .sipush (-100006), .invokevirtual 132, .ireturn] ls st h := ex_ev_eq d 92 2 ls st h
set_option maxRecDepth 20000 in
theorem ev_92_3 (d : Nat) (ls st : List ex_V) (h : ex_H) : ex_ev d 92 3 ls st h = ex_xs 1 (ex_ev d 92) (ex_cd d) [.aload 3, .iload 1, .iload 2, .invokevirtual 23, .ireturn] ls st h := ex_ev_eq d 92 3 ls st h
set_option maxRecDepth 20000 in
theorem ev_93_0 (d : Nat) (ls st : List ex_V) (h : ex_H) : ex_ev d 93 0 ls st h = ex_xs 1 (ex_ev d 93) (ex_cd d) [.aload 0, .getfield 352, .getfield 32, .iload 1, .invokevirtual 14, .ifCond .eq 1, .aload 0, .getfield 352, .getfield 32, .iload 2, .invokevirtual 13, .ifCond .ne 2, .goto_w 1] ls st h := ex_ev_eq d 93 0 ls st h
set_option maxRecDepth 20000 in
theorem ev_93_1 (d : Nat) (ls st : List ex_V) (h : ex_H) : ex_ev d 93 1 ls st h = ex_xs 1 (ex_ev d 93) (ex_cd d) [.aload 0, .sipush (-100001), .invokevirtual 132, .ireturn] ls st h := ex_ev_eq d 93 1 ls st h
set_option maxRecDepth 20000 in
theorem ev_93_2 (d : Nat) (ls st : List ex_V) (h : ex_H) : ex_ev d 93 2 ls st h = ex_xs 1 (ex_ev d 93) (ex_cd d) [.aload 0, .getfield 352, .getfield 32, .iload 1, .iload 2, .invokevirtual 22, .ifCond .eq 3, .sipush 1, .goto 4] ls st h := ex_ev_eq d 93 2 ls st h
set_option maxRecDepth 20000 in
theorem ev_93_3 (d : Nat) (ls st : List ex_V) (h : ex_H) : ex_ev d 93 3 ls st h = ex_xs 1 (ex_ev d 93) (ex_cd d) [.sipush 0, .goto_w 4] ls st h := ex_ev_eq d 93 3 ls st h
set_option maxRecDepth 20000 in
theorem ev_93_4 (d : Nat) (ls st : List ex_V) (h : ex_H) : ex_ev d 93 4 ls st h = ex_xs 1 (ex_ev d 93) (ex_cd d) [.ireturn] ls st h := ex_ev_eq d 93 4 ls st h
set_option maxRecDepth 20000 in
theorem ev_94_0 (d : Nat) (ls st : List ex_V) (h : ex_H) : ex_ev d 94 0 ls st h = ex_xs 1 (ex_ev d 94) (ex_cd d) [.aload 0, .getfield 352, .getfield 32, .astore 3, .aload 3, .iload 1, .invokevirtual 14, .ifCond .eq 1, .aload 3, .iload 2, .invokevirtual 13, .ifCond .ne 2, .goto_w 1] ls st h := ex_ev_eq d 94 0 ls st h
set_option maxRecDepth 20000 in
theorem ev_94_1 (d : Nat) (ls st : List ex_V) (h : ex_H) : ex_ev d 94 1 ls st h = ex_xs 1 (ex_ev d 94) (ex_cd d) [.aload 0, .sipush (-100001), .invokevirtual 132, .ireturn] ls st h := ex_ev_eq d 94 1 ls st h
set_option maxRecDepth 20000 in
theorem ev_94_2 (d : Nat) (ls st : List ex_V) (h : ex_H) : ex_ev d 94 2 ls st h = ex_xs 1 (ex_ev d 94) (ex_cd d) [.aload 3, .iload 1, .iload 2, .invokevirtual 27, .istore 4, .iload 4, .ifCond .eq 3, .aload 0, .iload 4, .invokevirtual 132, .ireturn] ls st h := ex_ev_eq d 94 2 ls st h
set_option maxRecDepth 20000 in
theorem ev_94_3 (d : Nat) (ls st : List ex_V) (h : ex_H) : ex_ev d 94 3 ls st h = ex_xs 1 (ex_ev d 94) (ex_cd d) [.aload 0, .invokevirtual 133, .aload 3, .iload 1, .iload 2, .invokevirtual 29, .aload 3, .getfield 73, .iload 2, .iaload, .ireturn] ls st h := ex_ev_eq d 94 3 ls st h
set_option maxRecDepth 20000 in
theorem ev_95_0 (d : Nat) (ls st : List ex_V) (h : ex_H) : ex_ev d 95 0 ls st h = ex_xs 1 (ex_ev d 95) (ex_cd d) [.aload 0, .getfield 352, .getfield 32, .astore 3, .aload 3, .iload 1, .invokevirtual 14, .ifCond .eq 1, .aload 3, .iload 2, .invokevirtual 13, .ifCond .ne 2, .goto_w 1] ls st h := ex_ev_eq d 95 0 ls st h
set_option maxRecDepth 20000 in
theorem ev_95_1 (d : Nat) (ls st : List ex_V) (h : ex_H) : ex_ev d 95 1 ls st h = ex_xs 1 (ex_ev d 95) (ex_cd d) [.aload 0, .sipush (-100001), .invokevirtual 132, .ireturn] ls st h := ex_ev_eq d 95 1 ls st h
set_option maxRecDepth 20000 in
theorem ev_95_2 (d : Nat) (ls st : List ex_V) (h : ex_H) : ex_ev d 95 2 ls st h = ex_xs 1 (ex_ev d 95) (ex_cd d) [.aload 3, .iload 1, .iload 2, .invokevirtual 28, .istore 4, .iload 4, .ifCond .eq 3, .aload 0, .iload 4, .invokevirtual 132, .ireturn] ls st h := ex_ev_eq d 95 2 ls st h
set_option maxRecDepth 20000 in
theorem ev_95_3 (d : Nat) (ls st : List ex_V) (h : ex_H) : ex_ev d 95 3 ls st h = ex_xs 1 (ex_ev d 95) (ex_cd d) [.aload 0, .getfield 352, .getfield 34, .iload 1, .aload 0, .getfield 352, .getfield 40, .aload 0, .getfield 352, .getfield 34, .getfield 96, .invokevirtual 41, .ifCond .ne 4, .aload 0, .sipush (-100002), .invokevirtual 132, .ireturn] ls st h := ex_ev_eq d 95 3 ls st h
set_option maxRecDepth 20000 in
theorem ev_95_4 (d : Nat) (ls st : List ex_V) (h : ex_H) : ex_ev d 95 4 ls st h = ex_xs 1 (ex_ev d 95) (ex_cd d) [.aload 0, .iload 1, .iload 2, .aload 0, .getfield 352, .getfield 40, .invokevirtual 136, .ifCond .ne 5, .aload 0, .sipush (-100009), .invokevirtual 132, .ireturn] ls st h := ex_ev_eq d 95 4 ls st h
set_option maxRecDepth 20000 in
theorem ev_95_5 (d : Nat) (ls st : List ex_V) (h : ex_H) : ex_ev d 95 5 ls st h = ex_xs 1 (ex_ev d 95) (ex_cd d) [.aload 0, .invokevirtual 133, .aload 3, .iload 1, .iload 2, .invokevirtual 31, .aload 0, .getfield 352, .getfield 33, .iload 1, .aload 0, .getfield 352, .getfield 42, .invokevirtual 45, .aload 0, .getfield 352, .dup, .getfield 44, .sipush 1, .iadd, .putfield 44, .aload 0, .getfield 352, .getfield 44, .ireturn] ls st h := ex_ev_eq d 95 5 ls st h
set_option maxRecDepth 20000 in
theorem ev_96_0 (d : Nat) (ls st : List ex_V) (h : ex_H) : ex_ev d 96 0 ls st h = ex_xs 1 (ex_ev d 96) (ex_cd d) [.aload 0, .getfield 352, .getfield 32, .astore 2, .aload 0, .iload 1, .invokevirtual 134, .istore 3, .iload 3, .ifCond .eq 1, .aload 0, .iload 3, .invokevirtual 132, .ireturn] ls st h := ex_ev_eq d 96 0 ls st h
set_option maxRecDepth 20000 in
theorem ev_96_1 (d : Nat) (ls st : List ex_V) (h : ex_H) : ex_ev d 96 1 ls st h = ex_xs 1 (ex_ev d 96) (ex_cd d) [.aload 2, .iload 1, .invokevirtual 26, .ifCond .ne 2, .aload 0, .sipush (-100008), .invokevirtual 132, .ireturn] ls st h := ex_ev_eq d 96 1 ls st h
set_option maxRecDepth 20000 in
theorem ev_96_2 (d : Nat) (ls st : List ex_V) (h : ex_H) : ex_ev d 96 2 ls st h = ex_xs 1 (ex_ev d 96) (ex_cd d) [.aload 0, .invokevirtual 133, .aload 2, .iload 1, .invokevirtual 30, .aload 2, .iload 1, .sipush 3, .invokevirtual 17, .ireturn] ls st h := ex_ev_eq d 96 2 ls st h
set_option maxRecDepth 20000 in
theorem ev_97_0 (d : Nat) (ls st : List ex_V) (h : ex_H) : ex_ev d 97 0 ls st h = ex_xs 1 (ex_ev d 97) (ex_cd d) [.aload 0, .invokevirtual 133, .aload 0, .getfield 352, .sipush 0, .putfield 40, .aload 0, .getfield 352, .getfield 32, .invokevirtual 33, .ireturn] ls st h := ex_ev_eq d 97 0 ls st h
set_option maxRecDepth 20000 in
theorem ev_98_0 (d : Nat) (ls st : List ex_V) (h : ex_H) : ex_ev d 98 0 ls st h = ex_xs 1 (ex_ev d 98) (ex_cd d) [.iload 1, .invokestatic 138, .ifCond .ne 1, .aload 0, .sipush (-100001), .invokevirtual 132, .ireturn] ls st h := ex_ev_eq d 98 0 ls st h
set_option maxRecDepth 20000 in
theorem ev_98_1 (d : Nat) (ls st : List ex_V) (h : ex_H) : ex_ev d 98 1 ls st h = ex_xs 1 (ex_ev d 98) (ex_cd d) [.aload 0, .invokevirtual 133, .aload 0, .getfield 352, .getfield 40, .istore 2, .aload 0, .getfield 352, .iload 1, .putfield 40, .iload 2, .ireturn] ls st h := ex_ev_eq d 98 1 ls st h
set_option maxRecDepth 20000 in
theorem ev_99_0 (d : Nat) (ls st : List ex_V) (h : ex_H) : ex_ev d 99 0 ls st h = ex_xs 1 (ex_ev d 99) (ex_cd d) [.aload 0, .iload 1, .invokevirtual 134, .istore 2, .iload 2, .ifCond .ne 1, .aload 0, .getfield 352, .getfield 32, .iload 1, .invokevirtual 34, .goto 2] ls st h := ex_ev_eq d 99 0 ls st h
set_option maxRecDepth 20000 in
theorem ev_99_1 (d : Nat) (ls st : List ex_V) (h : ex_H) : ex_ev d 99 1 ls st h = ex_xs 1 (ex_ev d 99) (ex_cd d) [.aload 0, .iload 2, .invokevirtual 132, .goto_w 2] ls st h := ex_ev_eq d 99 1 ls st h
set_option maxRecDepth 20000 in
theorem ev_99_2 (d : Nat) (ls st : List ex_V) (h : ex_H) : ex_ev d 99 2 ls st h = ex_xs 1 (ex_ev d 99) (ex_cd d) [.ireturn] ls st h := ex_ev_eq d 99 2 ls st h
set_option maxRecDepth 20000 in
theorem ev_100_0 (d : Nat) (ls st : List ex_V) (h : ex_H) : ex_ev d 100 0 ls st h = ex_xs 1 (ex_ev d 100) (ex_cd d) [.aload 0, .iload 1, .invokevirtual 134, .istore 2, .iload 2, .ifCond .eq 1, .aload 0, .iload 2, .invokevirtual 132, .ireturn] ls st h := ex_ev_eq d 100 0 ls st h
set_option maxRecDepth 20000 in
theorem ev_100_1 (d : Nat) (ls st : List ex_V) (h : ex_H) : ex_ev d 100 1 ls st h = ex_xs 1 (ex_ev d 100) (ex_cd d) [.aload 0, .getfield 355, .aload 0, .getfield 352, .getfield 32, .iload 1, .aload 0, .invokevirtual 135, .invokevirtual 81, .istore 3, .iload 3, .sipush (-1), .if_icmp .ne 2, .aload 0, .sipush (-100006), .invokevirtual 132, .goto 3] ls st h := ex_ev_eq d 100 1 ls st h
set_option maxRecDepth 20000 in
theorem ev_100_2 (d : Nat) (ls st : List ex_V) (h : ex_H) : ex_ev d 100 2 ls st h = ex_xs 1 (ex_ev d 100) (ex_cd d) [.iload 3, .goto_w 3] ls st h := ex_ev_eq d 100 2 ls st h
set_option maxRecDepth 20000 in
theorem ev_100_3 (d : Nat) (ls st : List ex_V) (h : ex_H) : ex_ev d 100 3 ls st h = ex_xs 1 (ex_ev d 100) (ex_cd d) [.ireturn] ls st h := ex_ev_eq d 100 3 ls st h
set_option maxRecDepth 20000 in
theorem ev_101_0 (d : Nat) (ls st : List ex_V) (h : ex_H) : ex_ev d 101 0 ls st h = ex_xs 1 (ex_ev d 101) (ex_cd d) [.iload 2, .ifCond .ge 1, .sipush (-100001), .goto 2] ls st h := ex_ev_eq d 101 0 ls st h
set_option maxRecDepth 20000 in
theorem ev_101_1 (d : Nat) (ls st : List ex_V) (h : ex_H) : ex_ev d 101 1 ls st h = ex_xs 1 (ex_ev d 101) (ex_cd d) [.aload 0, .iload 1, .invokevirtual 134, .goto_w 2] ls st h := ex_ev_eq d 101 1 ls st h
set_option maxRecDepth 20000 in
theorem ev_101_2 (d : Nat) (ls st : List ex_V) (h : ex_H) : ex_ev d 101 2 ls st h = ex_xs 1 (ex_ev d 101) (ex_cd d) [.istore 3, .iload 3, .ifCond .eq 3, .aload 0, .iload 3, .invokevirtual 132, .ireturn] ls st h := ex_ev_eq d 101 2 ls st h
set_option maxRecDepth 20000 in
theorem ev_101_3 (d : Nat) (ls st : List ex_V) (h : ex_H) : ex_ev d 101 3 ls st h = ex_xs 1 (ex_ev d 101) (ex_cd d) [.aload 0, .getfield 355, .aload 0, .getfield 352, .getfield 32, .iload 1, .aload 0, .invokevirtual 135, .invokevirtual 81, .istore 4, .iload 2, .iload 4, .if_icmp .ge 4, .aload 0, .getfield 355, .getfield 320, .iload 2, .iaload, .goto 5] ls st h := ex_ev_eq d 101 3 ls st h
set_option maxRecDepth 20000 in
theorem ev_101_4 (d : Nat) (ls st : List ex_V) (h : ex_H) : ex_ev d 101 4 ls st h = ex_xs 1 (ex_ev d 101) (ex_cd d) [.aload 0, .sipush (-100006), .invokevirtual 132, .goto_w 5] ls st h := ex_ev_eq d 101 4 ls st h
set_option maxRecDepth 20000 in
theorem ev_101_5 (d : Nat) (ls st : List ex_V) (h : ex_H) : ex_ev d 101 5 ls st h = ex_xs 1 (ex_ev d 101) (ex_cd d) [.ireturn] ls st h := ex_ev_eq d 101 5 ls st h
set_option maxRecDepth 20000 in
theorem ev_102_0 (d : Nat) (ls st : List ex_V) (h : ex_H) : ex_ev d 102 0 ls st h = ex_xs 1 (ex_ev d 102) (ex_cd d) [.aload 0, .getfield 352, .getfield 32, .iload 1, .invokevirtual 14, .ifCond .eq 1, .aload 0, .getfield 354, .iload 2, .invokevirtual 71, .ifCond .ne 2, .goto_w 1] ls st h := ex_ev_eq d 102 0 ls st h
set_option maxRecDepth 20000 in
theorem ev_102_1 (d : Nat) (ls st : List ex_V) (h : ex_H) : ex_ev d 102 1 ls st h = ex_xs 1 (ex_ev d 102) (ex_cd d) [.aload 0, .sipush (-100001), .invokevirtual 132, .ireturn] ls st h := ex_ev_eq d 102 1 ls st h
set_option maxRecDepth 20000 in
theorem ev_102_2 (d : Nat) (ls st : List ex_V) (h : ex_H) : ex_ev d 102 2 ls st h = ex_xs 1 (ex_ev d 102) (ex_cd d) [.aload 0, .getfield 354, .iload 2, .invokevirtual 72, .ifCond .eq 3, .aload 0, .sipush (-100002), .invokevirtual 132, .ireturn] ls st h := ex_ev_eq d 102 2 ls st h
set_option maxRecDepth 20000 in
theorem ev_102_3 (d : Nat) (ls st : List ex_V) (h : ex_H) : ex_ev d 102 3 ls st h = ex_xs 1 (ex_ev d 102) (ex_cd d) [.aload 0, .getfield 352, .getfield 32, .getfield 76, .iload 1, .iaload, .sipush (-1), .if_icmp .ne 4, .aload 0, .sipush (-100006), .invokevirtual 132, .ireturn] ls st h := ex_ev_eq d 102 3 ls st h
set_option maxRecDepth 20000 in
theorem ev_102_4 (d : Nat) (ls st : List ex_V) (h : ex_H) : ex_ev d 102 4 ls st h = ex_xs 1 (ex_ev d 102) (ex_cd d) [.aload 0, .getfield 355, .aload 0, .getfield 352, .getfield 32, .aload 0, .invokevirtual 135, .invokevirtual 79, .sipush 0, .istore 3, .goto_w 5] ls st h := ex_ev_eq d 102 4 ls st h
set_option maxRecDepth 20000 in
theorem ev_102_5 (d : Nat) (ls st : List ex_V) (h : ex_H) : ex_ev d 102 5 ls st h = ex_xs 1 (ex_ev d 102) (ex_cd d) [.iload 3, .aload 0, .getfield 354, .getfield 289, .iload 2, .iaload, .if_icmp .ge 7, .aload 0, .getfield 355, .iload 1, .aload 0, .getfield 354, .iload 2, .iload 3, .invokevirtual 74, .invokevirtual 83, .ifCond .ne 6, .iload 3, .ireturn] ls st h := ex_ev_eq d 102 5 ls st h
set_option maxRecDepth 20000 in
theorem ev_102_6 (d : Nat) (ls st : List ex_V) (h : ex_H) : ex_ev d 102 6 ls st h = ex_xs 1 (ex_ev d 102) (ex_cd d) [.iinc 3 1, .goto 5] ls st h := ex_ev_eq d 102 6 ls st h
set_option maxRecDepth 20000 in
theorem ev_102_7 (d : Nat) (ls st : List ex_V) (h : ex_H) : ex_ev d 102 7 ls st h = ex_xs 1 (ex_ev d 102) (ex_cd d) [.aload 0, .getfield 355, .iload 1, .invokevirtual 80, .ifCond .eq 8, .sipush (-1), .goto 9] ls st h := ex_ev_eq d 102 7 ls st h
set_option maxRecDepth 20000 in
theorem ev_102_8 (d : Nat) (ls st : List ex_V) (h : ex_H) : ex_ev d 102 8 ls st h = ex_xs 1 (ex_ev d 102) (ex_cd d) [.aload 0, .getfield 354, .getfield 289, .iload 2, .iaload, .goto_w 9] ls st h := ex_ev_eq d 102 8 ls st h
set_option maxRecDepth 20000 in
theorem ev_102_9 (d : Nat) (ls st : List ex_V) (h : ex_H) : ex_ev d 102 9 ls st h = ex_xs 1 (ex_ev d 102) (ex_cd d) [.ireturn] ls st h := ex_ev_eq d 102 9 ls st h
set_option maxRecDepth 20000 in
theorem ev_103_0 (d : Nat) (ls st : List ex_V) (h : ex_H) : ex_ev d 103 0 ls st h = ex_xs 1 (ex_ev d 103) (ex_cd d) [.iload 1, .sipush (-1), .if_icmp .eq 3, .aload 0, .getfield 352, .getfield 32, .iload 1, .invokevirtual 13, .ifCond .eq 1, .aload 0, .getfield 352, .getfield 32, .iload 1, .invokevirtual 36, .goto 2] ls st h := ex_ev_eq d 103 0 ls st h
set_option maxRecDepth 20000 in
theorem ev_103_1 (d : Nat) (ls st : List ex_V) (h : ex_H) : ex_ev d 103 1 ls st h = ex_xs 1 (ex_ev d 103) (ex_cd d) [.aload 0, .sipush (-100001), .invokevirtual 132, .goto_w 2] ls st h := ex_ev_eq d 103 1 ls st h
set_option maxRecDepth 20000 in
theorem ev_103_2 (d : Nat) (ls st : List ex_V) (h : ex_H) : ex_ev d 103 2 ls st h = ex_xs 1 (ex_ev d 103) (ex_cd d) [.ireturn] ls st h := ex_ev_eq d 103 2 ls st h
set_option maxRecDepth 20000 in
theorem ev_103_3 (d : Nat) (ls st : List ex_V) (h : ex_H) : ex_ev d 103 3 ls st h = ex_xs 1 (ex_ev d 103) (ex_cd d) [.sipush 0, .istore 2, .sipush 0, .istore 3, .goto_w 4] ls st h := ex_ev_eq d 103 3 ls st h
set_option maxRecDepth 20000 in
theorem ev_103_4 (d : Nat) (ls st : List ex_V) (h : ex_H) : ex_ev d 103 4 ls st h = ex_xs 1 (ex_ev d 103) (ex_cd d) [.iload 3, .aload 0, .getfield 352, .getfield 32, .getfield 64, .if_icmp .ge 5, .iload 2, .aload 0, .getfield 352, .getfield 32, .iload 3, .invokevirtual 36, .iadd, .istore 2, .iinc 3 1, .goto 4] ls st h := ex_ev_eq d 103 4 ls st h
set_option maxRecDepth 20000 in
theorem ev_103_5 (d : Nat) (ls st : List ex_V) (h : ex_H) : ex_ev d 103 5 ls st h = ex_xs 1 (ex_ev d 103) (ex_cd d) [.iload 2, .ireturn] ls st h := ex_ev_eq d 103 5 ls st h
set_option maxRecDepth 20000 in
theorem ev_104_0 (d : Nat) (ls st : List ex_V) (h : ex_H) : ex_ev d 104 0 ls st h = ex_xs 1 (ex_ev d 104) (ex_cd d) [.aload 0, .getfield 352, .getfield 32, .iload 1, .invokevirtual 14, .ifCond .ne 1, .aload 0, .sipush (-100001), .invokevirtual 132, .ireturn] ls st h := ex_ev_eq d 104 0 ls st h
set_option maxRecDepth 20000 in
theorem ev_104_1 (d : Nat) (ls st : List ex_V) (h : ex_H) : ex_ev d 104 1 ls st h = ex_xs 1 (ex_ev d 104) (ex_cd d) [.aload 0, .getfield 352, .iload 1, .invokevirtual 8, .sipush (-1), .if_icmp .eq 2, .aload 0, .sipush (-100007), .invokevirtual 132, .ireturn] ls st h := ex_ev_eq d 104 1 ls st h
set_option maxRecDepth 20000 in
theorem ev_104_2 (d : Nat) (ls st : List ex_V) (h : ex_H) : ex_ev d 104 2 ls st h = ex_xs 1 (ex_ev d 104) (ex_cd d) [.aload 0, .getfield 352, .getfield 39, .sipush 7, .if_icmp .lt 3, .aload 0, .sipush (-100005), .invokevirtual 132, .ireturn] ls st h := ex_ev_eq d 104 2 ls st h
set_option maxRecDepth 20000 in
theorem ev_104_3 (d : Nat) (ls st : List ex_V) (h : ex_H) : ex_ev d 104 3 ls st h = ex_xs 1 (ex_ev d 104) (ex_cd d) [.aload 0, .invokevirtual 133, .aload 0, .getfield 352, .getfield 37, .aload 0, .getfield 352, .getfield 39, .iload 1, .iastore, .aload 0, .getfield 352, .dup, .getfield 39, .sipush 1, .iadd, .putfield 39, .aload 0, .getfield 352, .getfield 39, .ireturn] ls st h := ex_ev_eq d 104 3 ls st h
set_option maxRecDepth 20000 in
theorem ev_105_0 (d : Nat) (ls st : List ex_V) (h : ex_H) : ex_ev d 105 0 ls st h = ex_xs 1 (ex_ev d 105) (ex_cd d) [.aload 0, .invokevirtual 133, .aload 0, .getfield 352, .getfield 39, .istore 1, .aload 0, .getfield 352, .sipush 0, .putfield 39, .iload 1, .ireturn] ls st h := ex_ev_eq d 105 0 ls st h
set_option maxRecDepth 20000 in
theorem ev_106_0 (d : Nat) (ls st : List ex_V) (h : ex_H) : ex_ev d 106 0 ls st h = ex_xs 1 (ex_ev d 106) (ex_cd d) [.aload 0, .getfield 356, .aload 0, .getfield 352, .invokevirtual 51, .istore 1, .iload 1, .sipush (-1), .if_icmp .ne 1, .aload 0, .sipush (-100006), .invokevirtual 132, .goto 2] ls st h := ex_ev_eq d 106 0 ls st h
set_option maxRecDepth 20000 in
theorem ev_106_1 (d : Nat) (ls st : List ex_V) (h : ex_H) : ex_ev d 106 1 ls st h = ex_xs 1 (ex_ev d 106) (ex_cd d) [.iload 1, .goto_w 2] ls st h := ex_ev_eq d 106 1 ls st h
set_option maxRecDepth 20000 in
theorem ev_106_2 (d : Nat) (ls st : List ex_V) (h : ex_H) : ex_ev d 106 2 ls st h = ex_xs 1 (ex_ev d 106) (ex_cd d) [.ireturn] ls st h := ex_ev_eq d 106 2 ls st h
set_option maxRecDepth 20000 in
theorem ev_107_0 (d : Nat) (ls st : List ex_V) (h : ex_H) : ex_ev d 107 0 ls st h = ex_xs 1 (ex_ev d 107) (ex_cd d) [.aload 0, .getfield 352, .getfield 32, .iload 1, .invokevirtual 14, .ifCond .ne 1, .aload 0, .sipush (-100001), .invokevirtual 132, .ireturn] ls st h := ex_ev_eq d 107 0 ls st h
set_option maxRecDepth 20000 in
theorem ev_107_1 (d : Nat) (ls st : List ex_V) (h : ex_H) : ex_ev d 107 1 ls st h = ex_xs 1 (ex_ev d 107) (ex_cd d) [.aload 0, .getfield 352, .iload 1, .invokevirtual 8, .istore 2, .iload 2, .sipush (-1), .if_icmp .eq 2, .aload 0, .getfield 356, .aload 0, .getfield 352, .invokevirtual 51, .sipush (-1), .if_icmp .ne 3, .goto_w 2] ls st h := ex_ev_eq d 107 1 ls st h
set_option maxRecDepth 20000 in
theorem ev_107_2 (d : Nat) (ls st : List ex_V) (h : ex_H) : ex_ev d 107 2 ls st h = ex_xs 1 (ex_ev d 107) (ex_cd d) [.aload 0, .sipush (-100006), .invokevirtual 132, .ireturn] ls st h := ex_ev_eq d 107 2 ls st h
set_option maxRecDepth 20000 in
theorem ev_107_3 (d : Nat) (ls st : List ex_V) (h : ex_H) : ex_ev d 107 3 ls st h = ex_xs 1 (ex_ev d 107) (ex_cd d) [.aload 0, .getfield 356, .getfield 160, .iload 2, .iaload, .ireturn] ls st h := ex_ev_eq d 107 3 ls st h
set_option maxRecDepth 20000 in
theorem ev_108_0 (d : Nat) (ls st : List ex_V) (h : ex_H) : ex_ev d 108 0 ls st h = ex_xs 1 (ex_ev d 108) (ex_cd d) [.iload 1, .sipush 0, .sipush 3, .invokestatic 137, .ifCond .ne 1, .aload 0, .sipush (-100001), .invokevirtual 132, .ireturn] ls st h := ex_ev_eq d 108 0 ls st h
set_option maxRecDepth 20000 in
theorem ev_108_1 (d : Nat) (ls st : List ex_V) (h : ex_H) : ex_ev d 108 1 ls st h = ex_xs 1 (ex_ev d 108) (ex_cd d) [.aload 0, .invokevirtual 133, .aload 0, .getfield 352, .getfield 41, .istore 2, .aload 0, .getfield 352, .iload 1, .putfield 41, .iload 2, .ireturn] ls st h := ex_ev_eq d 108 1 ls st h
set_option maxRecDepth 20000 in
theorem ev_109_0 (d : Nat) (ls st : List ex_V) (h : ex_H) : ex_ev d 109 0 ls st h = ex_xs 1 (ex_ev d 109) (ex_cd d) [.aload 0, .getfield 357, .aload 0, .getfield 352, .getfield 32, .aload 0, .getfield 352, .getfield 41, .invokevirtual 1, .ireturn] ls st h := ex_ev_eq d 109 0 ls st h
set_option maxRecDepth 20000 in
theorem ev_110_0 (d : Nat) (ls st : List ex_V) (h : ex_H) : ex_ev d 110 0 ls st h = ex_xs 1 (ex_ev d 110) (ex_cd d) [.iload 1, .invokestatic 138, .ifCond .ne 1, .aload 0, .sipush (-100001), .invokevirtual 132, .ireturn] ls st h := ex_ev_eq d 110 0 ls st h
set_option maxRecDepth 20000 in
theorem ev_110_1 (d : Nat) (ls st : List ex_V) (h : ex_H) : ex_ev d 110 1 ls st h = ex_xs 1 (ex_ev d 110) (ex_cd d) [.aload 0, .getfield 357, .aload 0, .getfield 352, .getfield 32, .aload 0, .getfield 352, .getfield 41, .invokevirtual 1, .istore 2, .aload 0, .getfield 357, .aload 0, .getfield 352, .getfield 32, .aload 0, .getfield 352, .getfield 41, .iload 2, .invokevirtual 3, .pop, .aload 0, .getfield 357, .getfield 0, .iload 1, .iaload, .ireturn] ls st h := ex_ev_eq d 110 1 ls st h
set_option maxRecDepth 20000 in
theorem ev_111_0 (d : Nat) (ls st : List ex_V) (h : ex_H) : ex_ev d 111 0 ls st h = ex_xs 1 (ex_ev d 111) (ex_cd d) [.iload 1, .invokestatic 139, .ifCond .eq 1, .iload 2, .invokestatic 139, .ifCond .eq 1, .iload 3, .sipush 0, .sipush 999, .invokestatic 137, .ifCond .ne 2, .goto_w 1] ls st h := ex_ev_eq d 111 0 ls st h
set_option maxRecDepth 20000 in
theorem ev_111_1 (d : Nat) (ls st : List ex_V) (h : ex_H) : ex_ev d 111 1 ls st h = ex_xs 1 (ex_ev d 111) (ex_cd d) [.aload 0, .sipush (-100001), .invokevirtual 132, .ireturn] ls st h := ex_ev_eq d 111 1 ls st h
set_option maxRecDepth 20000 in
theorem ev_111_2 (d : Nat) (ls st : List ex_V) (h : ex_H) : ex_ev d 111 2 ls st h = ex_xs 1 (ex_ev d 111) (ex_cd d) [.aload 0, .invokevirtual 133, .aload 0, .getfield 352, .getfield 35, .iload 1, .sipush 5, .imul, .iload 2, .iadd, .iaload, .istore 4, .aload 0, .getfield 352, .getfield 35, .iload 1, .sipush 5, .imul, .iload 2, .iadd, .iload 3, .iastore, .iload 4, .ireturn] ls st h := ex_ev_eq d 111 2 ls st h
set_option maxRecDepth 20000 in
theorem ev_112_0 (d : Nat) (ls st : List ex_V) (h : ex_H) : ex_ev d 112 0 ls st h = ex_xs 1 (ex_ev d 112) (ex_cd d) [.iload 1, .invokestatic 139, .ifCond .ne 1, .aload 0, .sipush (-100001), .invokevirtual 132, .ireturn] ls st h := ex_ev_eq d 112 0 ls st h
set_option maxRecDepth 20000 in
theorem ev_112_1 (d : Nat) (ls st : List ex_V) (h : ex_H) : ex_ev d 112 1 ls st h = ex_xs 1 (ex_ev d 112) (ex_cd d) [.aload 0, .getfield 358, .aload 0, .getfield 352, .getfield 35, .sipush (-1), .invokevirtual 55, .pop, .aload 0, .getfield 358, .getfield 192, .iload 1, .iaload, .ireturn] ls st h := ex_ev_eq d 112 1 ls st h
set_option maxRecDepth 20000 in
theorem ev_113_0 (d : Nat) (ls st : List ex_V) (h : ex_H) : ex_ev d 113 0 ls st h = ex_xs 1 (ex_ev d 113) (ex_cd d) [.iload 1, .invokestatic 139, .ifCond .eq 1, .aload 0, .getfield 358, .aload 0, .getfield 352, .getfield 35, .iload 1, .invokevirtual 57, .goto 2] ls st h := ex_ev_eq d 113 0 ls st h
set_option maxRecDepth 20000 in
theorem ev_113_1 (d : Nat) (ls st : List ex_V) (h : ex_H) : ex_ev d 113 1 ls st h = ex_xs 1 (ex_ev d 113) (ex_cd d) [.aload 0, .sipush (-100001), .invokevirtual 132, .goto_w 2] ls st h := ex_ev_eq d 113 1 ls st h
set_option maxRecDepth 20000 in
theorem ev_113_2 (d : Nat) (ls st : List ex_V) (h : ex_H) : ex_ev d 113 2 ls st h = ex_xs 1 (ex_ev d 113) (ex_cd d) [.ireturn] ls st h := ex_ev_eq d 113 2 ls st h
set_option maxRecDepth 20000 in
theorem ev_114_0 (d : Nat) (ls st : List ex_V) (h : ex_H) : ex_ev d 114 0 ls st h = ex_xs 1 (ex_ev d 114) (ex_cd d) [.aload 0, .getfield 358, .aload 0, .getfield 352, .getfield 35, .sipush (-1), .invokevirtual 55, .ireturn] ls st h := ex_ev_eq d 114 0 ls st h
set_option maxRecDepth 20000 in
theorem ev_115_0 (d : Nat) (ls st : List ex_V) (h : ex_H) : ex_ev d 115 0 ls st h = ex_xs 1 (ex_ev d 115) (ex_cd d) [.iload 1, .invokestatic 140, .ifCond .ne 1, .aload 0, .sipush (-100001), .invokevirtual 132, .ireturn] ls st h := ex_ev_eq d 115 0 ls st h
set_option maxRecDepth 20000 in
theorem ev_115_1 (d : Nat) (ls st : List ex_V) (h : ex_H) : ex_ev d 115 1 ls st h = ex_xs 1 (ex_ev d 115) (ex_cd d) [.aload 0, .invokevirtual 133, .aload 0, .getfield 352, .getfield 42, .istore 2, .aload 0, .getfield 352, .iload 1, .putfield 42, .iload 2, .ireturn] ls st h := ex_ev_eq d 115 1 ls st h
set_option maxRecDepth 20000 in
theorem ev_116_0 (d : Nat) (ls st : List ex_V) (h : ex_H) : ex_ev d 116 0 ls st h = ex_xs 1 (ex_ev d 116) (ex_cd d) [.aload 0, .getfield 352, .getfield 32, .iload 1, .invokevirtual 14, .ifCond .ne 1, .aload 0, .sipush (-100001), .invokevirtual 132, .ireturn] ls st h := ex_ev_eq d 116 0 ls st h
set_option maxRecDepth 20000 in
theorem ev_116_1 (d : Nat) (ls st : List ex_V) (h : ex_H) : ex_ev d 116 1 ls st h = ex_xs 1 (ex_ev d 116) (ex_cd d) [.aload 0, .invokevirtual 133, .aload 0, .getfield 352, .getfield 33, .iload 1, .iload 2, .ifCond .eq 2, .sipush 5, .goto 3] ls st h := ex_ev_eq d 116 1 ls st h
set_option maxRecDepth 20000 in
theorem ev_116_2 (d : Nat) (ls st : List ex_V) (h : ex_H) : ex_ev d 116 2 ls st h = ex_xs 1 (ex_ev d 116) (ex_cd d) [.sipush 4, .goto_w 3] ls st h := ex_ev_eq d 116 2 ls st h
set_option maxRecDepth 20000 in
theorem ev_116_3 (d : Nat) (ls st : List ex_V) (h : ex_H) : ex_ev d 116 3 ls st h = ex_xs 1 (ex_ev d 116) (ex_cd d) [.invokevirtual 45, .aload 0, .getfield 352, .getfield 33, .getfield 128, .ireturn] ls st h := ex_ev_eq d 116 3 ls st h
set_option maxRecDepth 20000 in
theorem ev_117_0 (d : Nat) (ls st : List ex_V) (h : ex_H) : ex_ev d 117 0 ls st h = ex_xs 1 (ex_ev d 117) (ex_cd d) [.aload 0, .getfield 352, .getfield 32, .iload 1, .invokevirtual 14, .ifCond .eq 1, .iload 2, .invokestatic 140, .ifCond .eq 1, .iload 3, .sipush 0, .sipush 9999, .invokestatic 137, .ifCond .ne 2, .goto_w 1] ls st h := ex_ev_eq d 117 0 ls st h
set_option maxRecDepth 20000 in
theorem ev_117_1 (d : Nat) (ls st : List ex_V) (h : ex_H) : ex_ev d 117 1 ls st h = ex_xs 1 (ex_ev d 117) (ex_cd d) [.aload 0, .sipush (-100001), .invokevirtual 132, .ireturn] ls st h := ex_ev_eq d 117 1 ls st h
set_option maxRecDepth 20000 in
theorem ev_117_2 (d : Nat) (ls st : List ex_V) (h : ex_H) : ex_ev d 117 2 ls st h = ex_xs 1 (ex_ev d 117) (ex_cd d) [.aload 0, .getfield 352, .getfield 33, .iload 1, .iload 2, .iload 3, .invokevirtual 46, .istore 4, .iload 4, .sipush (-1), .if_icmp .ne 3, .aload 0, .sipush (-100006), .invokevirtual 132, .goto 4] ls st h := ex_ev_eq d 117 2 ls st h
set_option maxRecDepth 20000 in
theorem ev_117_3 (d : Nat) (ls st : List ex_V) (h : ex_H) : ex_ev d 117 3 ls st h = ex_xs 1 (ex_ev d 117) (ex_cd d) [.iload 4, .goto_w 4] ls st h := ex_ev_eq d 117 3 ls st h
set_option maxRecDepth 20000 in
theorem ev_117_4 (d : Nat) (ls st : List ex_V) (h : ex_H) : ex_ev d 117 4 ls st h = ex_xs 1 (ex_ev d 117) (ex_cd d) [.ireturn] ls st h := ex_ev_eq d 117 4 ls st h
set_option maxRecDepth 20000 in
theorem ev_118_0 (d : Nat) (ls st : List ex_V) (h : ex_H) : ex_ev d 118 0 ls st h = ex_xs 1 (ex_ev d 118) (ex_cd d) [.aload 0, .getfield 354, .iload 1, .invokevirtual 71, .ifCond .ne 1, .aload 0, .sipush (-100001), .invokevirtual 132, .ireturn] ls st h := ex_ev_eq d 118 0 ls st h
set_option maxRecDepth 20000 in
theorem ev_118_1 (d : Nat) (ls st : List ex_V) (h : ex_H) : ex_ev d 118 1 ls st h = ex_xs 1 (ex_ev d 118) (ex_cd d) [.aload 0, .getfield 354, .iload 1, .invokevirtual 72, .ifCond .eq 2, .aload 0, .sipush (-100002), .invokevirtual 132, .ireturn] ls st h := ex_ev_eq d 118 1 ls st h
set_option maxRecDepth 20000 in
theorem ev_118_2 (d : Nat) (ls st : List ex_V) (h : ex_H) : ex_ev d 118 2 ls st h = ex_xs 1 (ex_ev d 118) (ex_cd d) [.aload 0, .getfield 354, .getfield 289, .iload 1, .iaload, .istore 2, .iload 2, .sipush 16, .if_icmp .le 3, .aload 0, .sipush (-100003), .invokevirtual 132, .ireturn] ls st h := ex_ev_eq d 118 2 ls st h
set_option maxRecDepth 20000 in
theorem ev_118_3 (d : Nat) (ls st : List ex_V) (h : ex_H) : ex_ev d 118 3 ls st h = ex_xs 1 (ex_ev d 118) (ex_cd d) [.sipush 0, .istore 3, .goto_w 4] ls st h := ex_ev_eq d 118 3 ls st h
set_option maxRecDepth 20000 in
theorem ev_118_4 (d : Nat) (ls st : List ex_V) (h : ex_H) : ex_ev d 118 4 ls st h = ex_xs 1 (ex_ev d 118) (ex_cd d) [.iload 3, .iload 2, .if_icmp .ge 6, .aload 0, .getfield 354, .iload 1, .iload 3, .invokevirtual 74, .invokestatic 62, .ifCond .ne 5, .aload 0, .sipush (-100001), .invokevirtual 132, .ireturn] ls st h := ex_ev_eq d 118 4 ls st h
set_option maxRecDepth 20000 in
theorem ev_118_5 (d : Nat) (ls st : List ex_V) (h : ex_H) : ex_ev d 118 5 ls st h = ex_xs 1 (ex_ev d 118) (ex_cd d) [.iinc 3 1, .goto 4] ls st h := ex_ev_eq d 118 5 ls st h
set_option maxRecDepth 20000 in
theorem ev_118_6 (d : Nat) (ls st : List ex_V) (h : ex_H) : ex_ev d 118 6 ls st h = ex_xs 1 (ex_ev d 118) (ex_cd d) [.aload 0, .invokevirtual 133, .sipush 0, .istore 3, .goto_w 7] ls st h := ex_ev_eq d 118 6 ls st h
set_option maxRecDepth 20000 in
theorem ev_118_7 (d : Nat) (ls st : List ex_V) (h : ex_H) : ex_ev d 118 7 ls st h = ex_xs 1 (ex_ev d 118) (ex_cd d) [.iload 3, .iload 2, .if_icmp .ge 8, .aload 0, .getfield 352, .getfield 36, .iload 3, .aload 0, .getfield 354, .iload 1, .iload 3, .invokevirtual 74, .iastore, .iinc 3 1, .goto 7] ls st h := ex_ev_eq d 118 7 ls st h
set_option maxRecDepth 20000 in
theorem ev_118_8 (d : Nat) (ls st : List ex_V) (h : ex_H) : ex_ev d 118 8 ls st h = ex_xs 1 (ex_ev d 118) (ex_cd d) [.aload 0, .getfield 352, .iload 2, .putfield 38, .iload 2, .ireturn] ls st h := ex_ev_eq d 118 8 ls st h
set_option maxRecDepth 20000 in
theorem ev_119_0 (d : Nat) (ls st : List ex_V) (h : ex_H) : ex_ev d 119 0 ls st h = ex_xs 1 (ex_ev d 119) (ex_cd d) [.aload 0, .getfield 359, .aload 0, .getfield 352, .getfield 36, .aload 0, .getfield 352, .getfield 38, .invokevirtual 65, .ireturn] ls st h := ex_ev_eq d 119 0 ls st h
set_option maxRecDepth 20000 in
theorem ev_120_0 (d : Nat) (ls st : List ex_V) (h : ex_H) : ex_ev d 120 0 ls st h = ex_xs 1 (ex_ev d 120) (ex_cd d) [.aload 0, .getfield 352, .getfield 32, .iload 1, .invokevirtual 14, .ifCond .eq 1, .aload 0, .getfield 352, .getfield 32, .iload 2, .invokevirtual 13, .ifCond .eq 1, .iload 3, .invokestatic 138, .ifCond .ne 2, .goto_w 1] ls st h := ex_ev_eq d 120 0 ls st h
set_option maxRecDepth 20000 in
theorem ev_120_1 (d : Nat) (ls st : List ex_V) (h : ex_H) : ex_ev d 120 1 ls st h = ex_xs 1 (ex_ev d 120) (ex_cd d) [.aload 0, .sipush (-100001), .invokevirtual 132, .ireturn] ls st h := ex_ev_eq d 120 1 ls st h
set_option maxRecDepth 20000 in
theorem ev_120_2 (d : Nat) (ls st : List ex_V) (h : ex_H) : ex_ev d 120 2 ls st h = ex_xs 1 (ex_ev d 120) (ex_cd d) [.aload 0, .iload 1, .iload 2, .iload 3, .invokevirtual 136, .ifCond .eq 3, .sipush 1, .goto 4] ls st h := ex_ev_eq d 120 2 ls st h
set_option maxRecDepth 20000 in
theorem ev_120_3 (d : Nat) (ls st : List ex_V) (h : ex_H) : ex_ev d 120 3 ls st h = ex_xs 1 (ex_ev d 120) (ex_cd d) [.sipush 0, .goto_w 4] ls st h := ex_ev_eq d 120 3 ls st h
set_option maxRecDepth 20000 in
theorem ev_120_4 (d : Nat) (ls st : List ex_V) (h : ex_H) : ex_ev d 120 4 ls st h = ex_xs 1 (ex_ev d 120) (ex_cd d) [.ireturn] ls st h := ex_ev_eq d 120 4 ls st h
set_option maxRecDepth 20000 in
theorem ev_121_0 (d : Nat) (ls st : List ex_V) (h : ex_H) : ex_ev d 121 0 ls st h = ex_xs 1 (ex_ev d 121) (ex_cd d) [.aload 0, .getfield 352, .getfield 32, .iload 1, .invokevirtual 13, .ifCond .eq 1, .iload 2, .sipush 0, .sipush 200, .invokestatic 137, .ifCond .ne 2, .goto_w 1] ls st h := ex_ev_eq d 121 0 ls st h
set_option maxRecDepth 20000 in
theorem ev_121_1 (d : Nat) (ls st : List ex_V) (h : ex_H) : ex_ev d 121 1 ls st h = ex_xs 1 (ex_ev d 121) (ex_cd d) [.aload 0, .sipush (-100001), .invokevirtual 132, .ireturn] ls st h := ex_ev_eq d 121 1 ls st h
set_option maxRecDepth 20000 in
theorem ev_121_2 (d : Nat) (ls st : List ex_V) (h : ex_H) : ex_ev d 121 2 ls st h = ex_xs 1 (ex_ev d 121) (ex_cd d) [.aload 0, .invokevirtual 133, .aload 0, .getfield 352, .getfield 32, .getfield 70, .iload 1, .iaload, .istore 3, .aload 0, .getfield 352, .getfield 32, .getfield 70, .iload 1, .iload 2, .iastore, .iload 3, .ireturn] ls st h := ex_ev_eq d 121 2 ls st h
set_option maxRecDepth 20000 in
theorem ev_122_0 (d : Nat) (ls st : List ex_V) (h : ex_H) : ex_ev d 122 0 ls st h = ex_xs 1 (ex_ev d 122) (ex_cd d) [.iload 1, .sipush 1, .sipush 30, .invokestatic 137, .ifCond .ne 1, .aload 0, .sipush (-100001), .invokevirtual 132, .ireturn] ls st h := ex_ev_eq d 122 0 ls st h
set_option maxRecDepth 20000 in
theorem ev_122_1 (d : Nat) (ls st : List ex_V) (h : ex_H) : ex_ev d 122 1 ls st h = ex_xs 1 (ex_ev d 122) (ex_cd d) [.aload 0, .invokevirtual 133, .aload 0, .getfield 352, .getfield 43, .istore 2, .aload 0, .getfield 352, .iload 1, .putfield 43, .iload 2, .ireturn] ls st h := ex_ev_eq d 122 1 ls st h
set_option maxRecDepth 20000 in
theorem ev_123_0 (d : Nat) (ls st : List ex_V) (h : ex_H) : ex_ev d 123 0 ls st h = ex_xs 1 (ex_ev d 123) (ex_cd d) [.aload 0, .getfield 360, .aload 0, .getfield 352, .getfield 32, .aload 0, .getfield 352, .getfield 43, .invokevirtual 59, .ireturn] ls st h := ex_ev_eq d 123 0 ls st h
set_option maxRecDepth 20000 in
theorem ev_124_0 (d : Nat) (ls st : List ex_V) (h : ex_H) : ex_ev d 124 0 ls st h = ex_xs 1 (ex_ev d 124) (ex_cd d) [.iload 1, .ifCond .ge 1, .aload 0, .sipush (-100001), .invokevirtual 132, .ireturn] ls st h := ex_ev_eq d 124 0 ls st h
set_option maxRecDepth 20000 in
theorem ev_124_1 (d : Nat) (ls st : List ex_V) (h : ex_H) : ex_ev d 124 1 ls st h = ex_xs 1 (ex_ev d 124) (ex_cd d) [.aload 0, .getfield 360, .aload 0, .getfield 352, .getfield 32, .aload 0, .getfield 352, .getfield 43, .invokevirtual 59, .pop, .iload 1, .aload 0, .getfield 360, .getfield 225, .if_icmp .ge 2, .aload 0, .getfield 360, .getfield 224, .iload 1, .iaload, .goto 3] ls st h := ex_ev_eq d 124 1 ls st h
set_option maxRecDepth 20000 in
theorem ev_124_2 (d : Nat) (ls st : List ex_V) (h : ex_H) : ex_ev d 124 2 ls st h = ex_xs 1 (ex_ev d 124) (ex_cd d) [.aload 0, .sipush (-100006), .invokevirtual 132, .goto_w 3] ls st h := ex_ev_eq d 124 2 ls st h
set_option maxRecDepth 20000 in
theorem ev_124_3 (d : Nat) (ls st : List ex_V) (h : ex_H) : ex_ev d 124 3 ls st h = ex_xs 1 (ex_ev d 124) (ex_cd d) [.ireturn] ls st h := ex_ev_eq d 124 3 ls st h
set_option maxRecDepth 20000 in
theorem ev_125_0 (d : Nat) (ls st : List ex_V) (h : ex_H) : ex_ev d 125 0 ls st h = ex_xs 1 (ex_ev d 125) (ex_cd d) [.aload 0, .getfield 352, .getfield 32, .iload 1, .invokevirtual 14, .ifCond .eq 1, .iload 2, .invokestatic 138, .ifCond .ne 2, .goto_w 1] ls st h := ex_ev_eq d 125 0 ls st h
set_option maxRecDepth 20000 in
theorem ev_125_1 (d : Nat) (ls st : List ex_V) (h : ex_H) : ex_ev d 125 1 ls st h = ex_xs 1 (ex_ev d 125) (ex_cd d) [.aload 0, .sipush (-100001), .invokevirtual 132, .ireturn] ls st h := ex_ev_eq d 125 1 ls st h
set_option maxRecDepth 20000 in
theorem ev_125_2 (d : Nat) (ls st : List ex_V) (h : ex_H) : ex_ev d 125 2 ls st h = ex_xs 1 (ex_ev d 125) (ex_cd d) [.aload 0, .getfield 352, .getfield 34, .getfield 96, .sipush 30, .if_icmp .lt 3, .aload 0, .sipush (-100005), .invokevirtual 132, .ireturn] ls st h := ex_ev_eq d 125 2 ls st h
set_option maxRecDepth 20000 in
theorem ev_125_3 (d : Nat) (ls st : List ex_V) (h : ex_H) : ex_ev d 125 3 ls st h = ex_xs 1 (ex_ev d 125) (ex_cd d) [.aload 0, .invokevirtual 133, .aload 0, .getfield 352, .getfield 34, .iload 1, .iload 2, .iload 3, .invokevirtual 40, .aload 0, .getfield 352, .getfield 34, .getfield 96, .ireturn] ls st h := ex_ev_eq d 125 3 ls st h
set_option maxRecDepth 20000 in
theorem ev_126_0 (d : Nat) (ls st : List ex_V) (h : ex_H) : ex_ev d 126 0 ls st h = ex_xs 1 (ex_ev d 126) (ex_cd d) [.aload 0, .getfield 352, .getfield 32, .iload 1, .invokevirtual 14, .ifCond .eq 1, .iload 2, .invokestatic 138, .ifCond .eq 1, .iload 3, .sipush 0, .aload 0, .getfield 352, .getfield 34, .getfield 96, .invokestatic 137, .ifCond .ne 2, .goto_w 1] ls st h := ex_ev_eq d 126 0 ls st h
set_option maxRecDepth 20000 in
theorem ev_126_1 (d : Nat) (ls st : List ex_V) (h : ex_H) : ex_ev d 126 1 ls st h = ex_xs 1 (ex_ev d 126) (ex_cd d) [.aload 0, .sipush (-100001), .invokevirtual 132, .ireturn] ls st h := ex_ev_eq d 126 1 ls st h
set_option maxRecDepth 20000 in
theorem ev_126_2 (d : Nat) (ls st : List ex_V) (h : ex_H) : ex_ev d 126 2 ls st h = ex_xs 1 (ex_ev d 126) (ex_cd d) [.aload 0, .getfield 352, .getfield 34, .iload 1, .iload 2, .iload 3, .invokevirtual 41, .ifCond .eq 3, .sipush 1, .goto 4] ls st h := ex_ev_eq d 126 2 ls st h
set_option maxRecDepth 20000 in
theorem ev_126_3 (d : Nat) (ls st : List ex_V) (h : ex_H) : ex_ev d 126 3 ls st h = ex_xs 1 (ex_ev d 126) (ex_cd d) [.sipush 0, .goto_w 4] ls st h := ex_ev_eq d 126 3 ls st h
set_option maxRecDepth 20000 in
theorem ev_126_4 (d : Nat) (ls st : List ex_V) (h : ex_H) : ex_ev d 126 4 ls st h = ex_xs 1 (ex_ev d 126) (ex_cd d) [.ireturn] ls st h := ex_ev_eq d 126 4 ls st h
set_option maxRecDepth 20000 in
theorem ev_127_0 (d : Nat) (ls st : List ex_V) (h : ex_H) : ex_ev d 127 0 ls st h = ex_xs 1 (ex_ev d 127) (ex_cd d) [.aload 0, .getfield 354, .iload 1, .invokevirtual 71, .ifCond .eq 1, .iload 2, .ifCond .eq 2, .iload 2, .sipush 8, .if_icmp .eq 2, .iload 2, .sipush 16, .if_icmp .eq 2, .iload 2, .sipush 32, .if_icmp .eq 2, .goto_w 1] ls st h := ex_ev_eq d 127 0 ls st h
set_option maxRecDepth 20000 in
theorem ev_127_1 (d : Nat) (ls st : List ex_V) (h : ex_H) : ex_ev d 127 1 ls st h = ex_xs 1 (ex_ev d 127) (ex_cd d) [.aload 0, .sipush (-100001), .invokevirtual 132, .ireturn] ls st h := ex_ev_eq d 127 1 ls st h
set_option maxRecDepth 20000 in
theorem ev_127_2 (d : Nat) (ls st : List ex_V) (h : ex_H) : ex_ev d 127 2 ls st h = ex_xs 1 (ex_ev d 127) (ex_cd d) [.iload 3, .ifCond .ge 3, .aload 0, .sipush (-100003), .invokevirtual 132, .ireturn] ls st h := ex_ev_eq d 127 2 ls st h
set_option maxRecDepth 20000 in
theorem ev_127_3 (d : Nat) (ls st : List ex_V) (h : ex_H) : ex_ev d 127 3 ls st h = ex_xs 1 (ex_ev d 127) (ex_cd d) [.iload 3, .sipush 20, .if_icmp .le 4, .aload 0, .sipush (-100001), .invokevirtual 132, .ireturn] ls st h := ex_ev_eq d 127 3 ls st h
set_option maxRecDepth 20000 in
theorem ev_127_4 (d : Nat) (ls st : List ex_V) (h : ex_H) : ex_ev d 127 4 ls st h = ex_xs 1 (ex_ev d 127) (ex_cd d) [.aload 0, .getfield 354, .iload 1, .iload 2, .iload 2, .ifCond .ne 5, .sipush 0, .goto 6] ls st h := ex_ev_eq d 127 4 ls st h
set_option maxRecDepth 20000 in
theorem ev_127_5 (d : Nat) (ls st : List ex_V) (h : ex_H) : ex_ev d 127 5 ls st h = ex_xs 1 (ex_ev d 127) (ex_cd d) [.iload 3, .goto_w 6] ls st h := ex_ev_eq d 127 5 ls st h
set_option maxRecDepth 20000 in
theorem ev_127_6 (d : Nat) (ls st : List ex_V) (h : ex_H) : ex_ev d 127 6 ls st h = ex_xs 1 (ex_ev d 127) (ex_cd d) [.invokevirtual 73, .aload 0, .getfield 354, .getfield 289, .iload 1, .iaload, .ireturn] ls st h := ex_ev_eq d 127 6 ls st h
set_option maxRecDepth 20000 in
theorem ev_128_0 (d : Nat) (ls st : List ex_V) (h : ex_H) : ex_ev d 128 0 ls st h = ex_xs 1 (ex_ev d 128) (ex_cd d) [.aload 0, .getfield 354, .iload 1, .invokevirtual 71, .ifCond .ne 1, .aload 0, .sipush (-100001), .invokevirtual 132, .ireturn] ls st h := ex_ev_eq d 128 0 ls st h
set_option maxRecDepth 20000 in
theorem ev_128_1 (d : Nat) (ls st : List ex_V) (h : ex_H) : ex_ev d 128 1 ls st h = ex_xs 1 (ex_ev d 128) (ex_cd d) [.aload 0, .getfield 354, .iload 1, .invokevirtual 72, .ifCond .eq 2, .aload 0, .sipush (-100002), .invokevirtual 132, .ireturn] ls st h := ex_ev_eq d 128 1 ls st h
set_option maxRecDepth 20000 in
theorem ev_128_2 (d : Nat) (ls st : List ex_V) (h : ex_H) : ex_ev d 128 2 ls st h = ex_xs 1 (ex_ev d 128) (ex_cd d) [.iload 2, .ifCond .lt 3, .iload 2, .aload 0, .getfield 354, .getfield 289, .iload 1, .iaload, .if_icmp .lt 4, .goto_w 3] ls st h := ex_ev_eq d 128 2 ls st h
set_option maxRecDepth 20000 in
theorem ev_128_3 (d : Nat) (ls st : List ex_V) (h : ex_H) : ex_ev d 128 3 ls st h = ex_xs 1 (ex_ev d 128) (ex_cd d) [.aload 0, .sipush (-100001), .invokevirtual 132, .ireturn] ls st h := ex_ev_eq d 128 3 ls st h
set_option maxRecDepth 20000 in
theorem ev_128_4 (d : Nat) (ls st : List ex_V) (h : ex_H) : ex_ev d 128 4 ls st h = ex_xs 1 (ex_ev d 128) (ex_cd d) [.aload 0, .getfield 354, .iload 1, .iload 2, .iload 3, .invokevirtual 75, .sipush 0, .ireturn] ls st h := ex_ev_eq d 128 4 ls st h
set_option maxRecDepth 20000 in
theorem ev_129_0 (d : Nat) (ls st : List ex_V) (h : ex_H) : ex_ev d 129 0 ls st h = ex_xs 1 (ex_ev d 129) (ex_cd d) [.aload 0, .getfield 354, .iload 1, .invokevirtual 71, .ifCond .eq 1, .aload 0, .getfield 354, .iload 3, .invokevirtual 71, .ifCond .ne 2, .goto_w 1] ls st h := ex_ev_eq d 129 0 ls st h
set_option maxRecDepth 20000 in
theorem ev_129_1 (d : Nat) (ls st : List ex_V) (h : ex_H) : ex_ev d 129 1 ls st h = ex_xs 1 (ex_ev d 129) (ex_cd d) [.aload 0, .sipush (-100001), .invokevirtual 132, .ireturn] ls st h := ex_ev_eq d 129 1 ls st h
set_option maxRecDepth 20000 in
theorem ev_129_2 (d : Nat) (ls st : List ex_V) (h : ex_H) : ex_ev d 129 2 ls st h = ex_xs 1 (ex_ev d 129) (ex_cd d) [.aload 0, .getfield 354, .iload 1, .invokevirtual 72, .ifCond .ne 3, .aload 0, .getfield 354, .iload 3, .invokevirtual 72, .ifCond .eq 4, .goto_w 3] ls st h := ex_ev_eq d 129 2 ls st h
set_option maxRecDepth 20000 in
theorem ev_129_3 (d : Nat) (ls st : List ex_V) (h : ex_H) : ex_ev d 129 3 ls st h = ex_xs 1 (ex_ev d 129) (ex_cd d) [.aload 0, .sipush (-100002), .invokevirtual 132, .ireturn] ls st h := ex_ev_eq d 129 3 ls st h
set_option maxRecDepth 20000 in
theorem ev_129_4 (d : Nat) (ls st : List ex_V) (h : ex_H) : ex_ev d 129 4 ls st h = ex_xs 1 (ex_ev d 129) (ex_cd d) [.aload 0, .getfield 354, .getfield 288, .iload 1, .iaload, .aload 0, .getfield 354, .getfield 288, .iload 3, .iaload, .if_icmp .eq 5, .aload 0, .sipush (-100004), .invokevirtual 132, .ireturn] ls st h := ex_ev_eq d 129 4 ls st h
set_option maxRecDepth 20000 in
theorem ev_129_5 (d : Nat) (ls st : List ex_V) (h : ex_H) : ex_ev d 129 5 ls st h = ex_xs 1 (ex_ev d 129) (ex_cd d) [.aload 0, .getfield 354, .iload 1, .iload 2, .iload 5, .invokevirtual 76, .ifCond .eq 6, .aload 0, .getfield 354, .iload 3, .iload 4, .iload 5, .invokevirtual 76, .ifCond .ne 7, .goto_w 6] ls st h := ex_ev_eq d 129 5 ls st h
set_option maxRecDepth 20000 in
theorem ev_129_6 (d : Nat) (ls st : List ex_V) (h : ex_H) : ex_ev d 129 6 ls st h = ex_xs 1 (ex_ev d 129) (ex_cd d) [.aload 0, .sipush (-100001), .invokevirtual 132, .ireturn] ls st h := ex_ev_eq d 129 6 ls st h
set_option maxRecDepth 20000 in
theorem ev_129_7 (d : Nat) (ls st : List ex_V) (h : ex_H) : ex_ev d 129 7 ls st h = ex_xs 1 (ex_ev d 129) (ex_cd d) [.aload 0, .getfield 354, .iload 1, .iload 2, .iload 3, .iload 4, .iload 5, .invokevirtual 77, .iload 5, .ireturn] ls st h := ex_ev_eq d 129 7 ls st h
set_option maxRecDepth 20000 in
theorem ev_130_0 (d : Nat) (ls st : List ex_V) (h : ex_H) : ex_ev d 130 0 ls st h = ex_xs 1 (ex_ev d 130) (ex_cd d) [.aload 0, .getfield 362, .ifCond .gt 1, .aload 0, .sipush (-100006), .invokevirtual 132, .ireturn] ls st h := ex_ev_eq d 130 0 ls st h
set_option maxRecDepth 20000 in
theorem ev_130_1 (d : Nat) (ls st : List ex_V) (h : ex_H) : ex_ev d 130 1 ls st h = ex_xs 1 (ex_ev d 130) (ex_cd d) [.aload 0, .aload 0, .getfield 361, .sipush 16, .iadd, .sipush 1, .isub, .sipush 16, .irem, .putfield 361, .aload 0, .dup, .getfield 362, .sipush 1, .isub, .putfield 362, .aload 0, .getfield 353, .aload 0, .getfield 361, .aaload, .astore 1, .aload 1, .ifnull 2, .aload 0, .getfield 352, .aload 1, .invokevirtual 7, .goto_w 2] ls st h := ex_ev_eq d 130 1 ls st h
set_option maxRecDepth 20000 in
theorem ev_130_2 (d : Nat) (ls st : List ex_V) (h : ex_H) : ex_ev d 130 2 ls st h = ex_xs 1 (ex_ev d 130) (ex_cd d) [.aload 0, .getfield 362, .ireturn] ls st h := ex_ev_eq d 130 2 ls st h
set_option maxRecDepth 20000 in
theorem ev_131_0 (d : Nat) (ls st : List ex_V) (h : ex_H) : ex_ev d 131 0 ls st h = ex_xs 1 (ex_ev d 131) (ex_cd d) [.iload 1, .tableswitch 8 0 6 #[1, 2, 3, 4, 5, 6, 7]] ls st h := ex_ev_eq d 131 0 ls st h
set_option maxRecDepth 20000 in
theorem ev_131_1 (d : Nat) (ls st : List ex_V) (h : ex_H) : ex_ev d 131 1 ls st h = ex_xs 1 (ex_ev d 131) (ex_cd d) [.aload 0, .getfield 352, .getfield 32, .getfield 64, .ireturn] ls st h := ex_ev_eq d 131 1 ls st h
set_option maxRecDepth 20000 in
theorem ev_131_2 (d : Nat) (ls st : List ex_V) (h : ex_H) : ex_ev d 131 2 ls st h = ex_xs 1 (ex_ev d 131) (ex_cd d) [.aload 0, .getfield 352, .getfield 32, .getfield 65, .ireturn] ls st h := ex_ev_eq d 131 2 ls st h
set_option maxRecDepth 20000 in
theorem ev_131_3 (d : Nat) (ls st : List ex_V) (h : ex_H) : ex_ev d 131 3 ls st h = ex_xs 1 (ex_ev d 131) (ex_cd d) [.aload 0, .getfield 352, .getfield 32, .invokevirtual 35, .ireturn] ls st h := ex_ev_eq d 131 3 ls st h
set_option maxRecDepth 20000 in
theorem ev_131_4 (d : Nat) (ls st : List ex_V) (h : ex_H) : ex_ev d 131 4 ls st h = ex_xs 1 (ex_ev d 131) (ex_cd d) [.aload 0, .getfield 352, .getfield 44, .ireturn] ls st h := ex_ev_eq d 131 4 ls st h
set_option maxRecDepth 20000 in
theorem ev_131_5 (d : Nat) (ls st : List ex_V) (h : ex_H) : ex_ev d 131 5 ls st h = ex_xs 1 (ex_ev d 131) (ex_cd d) [.aload 0, .getfield 352, .getfield 34, .getfield 96, .ireturn] ls st h := ex_ev_eq d 131 5 ls st h
set_option maxRecDepth 20000 in
theorem ev_131_6 (d : Nat) (ls st : List ex_V) (h : ex_H) : ex_ev d 131 6 ls st h = ex_xs 1 (ex_ev d 131) (ex_cd d) [.aload 0, .getfield 352, .getfield 33, .getfield 128, .ireturn] ls st h := ex_ev_eq d 131 6 ls st h
set_option maxRecDepth 20000 in
theorem ev_131_7 (d : Nat) (ls st : List ex_V) (h : ex_H) : ex_ev d 131 7 ls st h = ex_xs 1 (ex_ev d 131) (ex_cd d) [.aload 0, .getfield 363, .ireturn] ls st h := ex_ev_eq d 131 7 ls st h
set_option maxRecDepth 20000 in
theorem ev_131_8 (d : Nat) (ls st : List ex_V) (h : ex_H) : ex_ev d 131 8 ls st h = ex_xs 1 (ex_ev d 131) (ex_cd d) [.aload 0, .sipush (-100001), .invokevirtual 132, .ireturn] ls st h := ex_ev_eq d 131 8 ls st h
set_option maxRecDepth 20000 in
theorem ev_132_0 (d : Nat) (ls st : List ex_V) (h : ex_H) : ex_ev d 132 0 ls st h = ex_xs 1 (ex_ev d 132) (ex_cd d) [.aload 0, .dup, .getfield 363, .sipush 1, .iadd, .putfield 363, .iload 1, .ireturn] ls st h := ex_ev_eq d 132 0 ls st h
set_option maxRecDepth 20000 in
theorem ev_133_0 (d : Nat) (ls st : List ex_V) (h : ex_H) : ex_ev d 133 0 ls st h = ex_xs 0 (ex_ev d 133) (ex_cd d) [.aload 0, .getfield 353, .aload 0, .getfield 361, .aaload, .astore 1, .aload 1, .ifnull 1, .aload 1, .aload 0, .getfield 352, .invokevirtual 7, .goto_w 1] ls st h := ex_ev_eq d 133 0 ls st h
set_option maxRecDepth 20000 in
theorem ev_133_1 (d : Nat) (ls st : List ex_V) (h : ex_H) : ex_ev d 133 1 ls st h = ex_xs 0 (ex_ev d 133) (ex_cd d) [.aload 0, .aload 0, .getfield 361, .sipush 1, .iadd, .sipush 16, .irem, .putfield 361, .aload 0, .aload 0, .getfield 362, .sipush 1, .iadd, .sipush 16, .invokestatic 237, .putfield 362, .return_] ls st h := ex_ev_eq d 133 1 ls st h
set_option maxRecDepth 20000 in
theorem ev_134_0 (d : Nat) (ls st : List ex_V) (h : ex_H) : ex_ev d 134 0 ls st h = ex_xs 1 (ex_ev d 134) (ex_cd d) [.aload 0, .getfield 352, .getfield 32, .iload 1, .invokevirtual 14, .ifCond .ne 1, .sipush (-100001), .ireturn] ls st h := ex_ev_eq d 134 0 ls st h
set_option maxRecDepth 20000 in
theorem ev_134_1 (d : Nat) (ls st : List ex_V) (h : ex_H) : ex_ev d 134 1 ls st h = ex_xs 1 (ex_ev d 134) (ex_cd d) [.aload 0, .getfield 352, .getfield 32, .getfield 76, .iload 1, .iaload, .sipush (-1), .if_icmp .ne 2, .sipush (-100006), .goto 3] ls st h := ex_ev_eq d 134 1 ls st h
set_option maxRecDepth 20000 in
theorem ev_134_2 (d : Nat) (ls st : List ex_V) (h : ex_H) : ex_ev d 134 2 ls st h = ex_xs 1 (ex_ev d 134) (ex_cd d) [.sipush 0, .goto_w 3] ls st h := ex_ev_eq d 134 2 ls st h
set_option maxRecDepth 20000 in
theorem ev_134_3 (d : Nat) (ls st : List ex_V) (h : ex_H) : ex_ev d 134 3 ls st h = ex_xs 1 (ex_ev d 134) (ex_cd d) [.ireturn] ls st h := ex_ev_eq d 134 3 ls st h
set_option maxRecDepth 20000 in
theorem ev_135_0 (d : Nat) (ls st : List ex_V) (h : ex_H) : ex_ev d 135 0 ls st h = ex_xs 1 (ex_ev d 135) (ex_cd d) [.aload 0, .getfield 352, .getfield 34, .aload 0, .getfield 352, .getfield 32, .getfield 65, .aload 0, .getfield 352, .getfield 40, .invokevirtual 42, .ireturn] ls st h := ex_ev_eq d 135 0 ls st h
set_option maxRecDepth 20000 in
theorem ev_136_0 (d : Nat) (ls st : List ex_V) (h : ex_H) : ex_ev d 136 0 ls st h = ex_xs 2 (ex_ev d 136) (ex_cd d) [.aload 0, .getfield 352, .getfield 32, .astore 4, .aload 0, .getfield 359, .iload 3, .aload 4, .iload 1, .sipush 0, .invokevirtual 17, .aload 4, .iload 1, .sipush 2, .invokevirtual 17, .iload 2, .aload 4, .getfield 66, .iload 2, .iaload, .aload 0, .getfield 352, .getfield 42, .invokevirtual 63, .aload 0, .getfield 359, .aload 0, .getfield 352, .getfield 36, .aload 0, .getfield 352, .getfield 38, .invokevirtual 64, .ireturn] ls st h := ex_ev_eq d 136 0 ls st h
set_option maxRecDepth 20000 in
theorem ev_137_0 (d : Nat) (ls st : List ex_V) (h : ex_H) : ex_ev d 137 0 ls st h = ex_xs 2 (ex_ev d 137) (ex_cd d) [.iload 0, .iload 1, .if_icmp .lt 1, .iload 0, .iload 2, .if_icmp .gt 1, .sipush 1, .goto 2] ls st h := ex_ev_eq d 137 0 ls st h
set_option maxRecDepth 20000 in
theorem ev_137_1 (d : Nat) (ls st : List ex_V) (h : ex_H) : ex_ev d 137 1 ls st h = ex_xs 2 (ex_ev d 137) (ex_cd d) [.sipush 0, .goto_w 2] ls st h := ex_ev_eq d 137 1 ls st h
set_option maxRecDepth 20000 in
theorem ev_137_2 (d : Nat) (ls st : List ex_V) (h : ex_H) : ex_ev d 137 2 ls st h = ex_xs 2 (ex_ev d 137) (ex_cd d) [.ireturn] ls st h := ex_ev_eq d 137 2 ls st h
set_option maxRecDepth 20000 in
theorem ev_138_0 (d : Nat) (ls st : List ex_V) (h : ex_H) : ex_ev d 138 0 ls st h = ex_xs 2 (ex_ev d 138) (ex_cd d) [.iload 0, .sipush 0, .sipush 23, .invokestatic 137, .ireturn] ls st h := ex_ev_eq d 138 0 ls st h
set_option maxRecDepth 20000 in
theorem ev_139_0 (d : Nat) (ls st : List ex_V) (h : ex_H) : ex_ev d 139 0 ls st h = ex_xs 2 (ex_ev d 139) (ex_cd d) [.iload 0, .sipush 0, .sipush 4, .invokestatic 137, .ireturn] ls st h := ex_ev_eq d 139 0 ls st h
set_option maxRecDepth 20000 in
theorem ev_140_0 (d : Nat) (ls st : List ex_V) (h : ex_H) : ex_ev d 140 0 ls st h = ex_xs 2 (ex_ev d 140) (ex_cd d) [.iload 0, .sipush 0, .sipush 3, .invokestatic 137, .ireturn] ls st h := ex_ev_eq d 140 0 ls st h
set_option maxRecDepth 20000 in
theorem ev_141_0 (d : Nat) (ls st : List ex_V) (h : ex_H) : ex_ev d 141 0 ls st h = ex_xs 0 (ex_ev d 141) (ex_cd d) [.aload 0, .invokedynamic 1, .aload 0, .sipush 277, .newarray .int, .putfield 384, .aload 0, .sipush 4432, .newarray .int, .putfield 385, .aload 0, .sipush 4, .newarray .int, .putfield 388, .aload 0, .sipush 4, .newarray .int, .putfield 389, .aload 0, .sipush 80, .newarray .int, .putfield 390, .aload 0, .sipush 200, .newarray .int, .putfield 391, .aload 0, .sipush 3, .newarray .int, .putfield 392, .aload 0, .sipush 7, .newarray .int, .putfield 393, .aload 0, .sipush 7, .newarray .int, .putfield 394, .aload 0, .sipush 8, .newarray .int, .putfield 396, .aload 0, .sipush 5, .newarray .int, .putfield 397, .aload 0, .sipush 5, .newarray .int, .putfield 398, .aload 0, .sipush 8, .newarray .int, .putfield 401, .aload 0, .sipush 8, .newarray .int, .putfield 402, .aload 0, .sipush 5, .newarray .int, .putfield 403, .aload 0, .sipush 20, .newarray .int, .putfield 404, .aload 0, .getfield 384, .sipush 3, .sipush 1, .iastore, .aload 0, .getfield 384, .sipush 5, .sipush 10, .iastore, .sipush 0, .istore 1, .goto_w 1] ls st h := ex_ev_eq d 141 0 ls st h
set_option maxRecDepth 20000 in
theorem ev_141_1 (d : Nat) (ls st : List ex_V) (h : ex_H) : ex_ev d 141 1 ls st h = ex_xs 0 (ex_ev d 141) (ex_cd d) [.iload 1, .sipush 5, .if_icmp .ge 2, .aload 0, .getfield 384, .sipush 36, .iload 1, .iadd, .sipush 100, .iastore, .iinc 1 1, .goto 1] ls st h := ex_ev_eq d 141 1 ls st h
set_option maxRecDepth 20000 in
theorem ev_141_2 (d : Nat) (ls st : List ex_V) (h : ex_H) : ex_ev d 141 2 ls st h = ex_xs 0 (ex_ev d 141) (ex_cd d) [.return_] ls st h := ex_ev_eq d 141 2 ls st h
set_option maxRecDepth 20000 in
theorem ev_142_0 (d : Nat) (ls st : List ex_V) (h : ex_H) : ex_ev d 142 0 ls st h = ex_xs 1 (ex_ev d 142) (ex_cd d) [.aload 0, .dup, .getfield 387, .sipush 1, .iadd, .putfield 387, .iload 1, .ireturn] ls st h := ex_ev_eq d 142 0 ls st h
set_option maxRecDepth 20000 in
theorem ev_143_0 (d : Nat) (ls st : List ex_V) (h : ex_H) : ex_ev d 143 0 ls st h = ex_xs 2 (ex_ev d 143) (ex_cd d) [.iload 0, .iload 1, .if_icmp .lt 1, .iload 0, .iload 2, .if_icmp .gt 1, .sipush 1, .goto 2] ls st h := ex_ev_eq d 143 0 ls st h
set_option maxRecDepth 20000 in
theorem ev_143_1 (d : Nat) (ls st : List ex_V) (h : ex_H) : ex_ev d 143 1 ls st h = ex_xs 2 (ex_ev d 143) (ex_cd d) [.sipush 0, .goto_w 2] ls st h := ex_ev_eq d 143 1 ls st h
set_option maxRecDepth 20000 in
theorem ev_143_2 (d : Nat) (ls st : List ex_V) (h : ex_H) : ex_ev d 143 2 ls st h = ex_xs 2 (ex_ev d 143) (ex_cd d) [.ireturn] ls st h := ex_ev_eq d 143 2 ls st h
set_option maxRecDepth 20000 in
theorem ev_144_0 (d : Nat) (ls st : List ex_V) (h : ex_H) : ex_ev d 144 0 ls st h = ex_xs 2 (ex_ev d 144) (ex_cd d) [.iload 1, .sipush 0, .aload 0, .getfield 384, .sipush 0, .iaload, .sipush 1, .isub, .invokestatic 143, .ireturn] ls st h := ex_ev_eq d 144 0 ls st h
set_option maxRecDepth 20000 in
theorem ev_145_0 (d : Nat) (ls st : List ex_V) (h : ex_H) : ex_ev d 145 0 ls st h = ex_xs 2 (ex_ev d 145) (ex_cd d) [.iload 1, .sipush 0, .aload 0, .getfield 384, .sipush 1, .iaload, .sipush 1, .isub, .invokestatic 143, .ireturn] ls st h := ex_ev_eq d 145 0 ls st h
set_option maxRecDepth 20000 in
theorem ev_146_0 (d : Nat) (ls st : List ex_V) (h : ex_H) : ex_ev d 146 0 ls st h = ex_xs 2 (ex_ev d 146) (ex_cd d) [.iload 0, .sipush 0, .sipush 23, .invokestatic 143, .ireturn] ls st h := ex_ev_eq d 146 0 ls st h
set_option maxRecDepth 20000 in
theorem ev_147_0 (d : Nat) (ls st : List ex_V) (h : ex_H) : ex_ev d 147 0 ls st h = ex_xs 0 (ex_ev d 147) (ex_cd d) [.aload 0, .getfield 386, .sipush 16, .if_icmp .ne 3, .sipush 0, .istore 1, .goto_w 1] ls st h := ex_ev_eq d 147 0 ls st h
set_option maxRecDepth 20000 in
theorem ev_147_1 (d : Nat) (ls st : List ex_V) (h : ex_H) : ex_ev d 147 1 ls st h = ex_xs 0 (ex_ev d 147) (ex_cd d) [.iload 1, .sipush 4155, .if_icmp .ge 2, .aload 0, .getfield 385, .iload 1, .aload 0, .getfield 385, .iload 1, .sipush 277, .iadd, .iaload, .iastore, .iinc 1 1, .goto 1] ls st h := ex_ev_eq d 147 1 ls st h
set_option maxRecDepth 20000 in
theorem ev_147_2 (d : Nat) (ls st : List ex_V) (h : ex_H) : ex_ev d 147 2 ls st h = ex_xs 0 (ex_ev d 147) (ex_cd d) [.aload 0, .dup, .getfield 386, .sipush 1, .isub, .putfield 386, .goto_w 3] ls st h := ex_ev_eq d 147 2 ls st h
set_option maxRecDepth 20000 in
theorem ev_147_3 (d : Nat) (ls st : List ex_V) (h : ex_H) : ex_ev d 147 3 ls st h = ex_xs 0 (ex_ev d 147) (ex_cd d) [.sipush 0, .istore 1, .goto_w 4] ls st h := ex_ev_eq d 147 3 ls st h
set_option maxRecDepth 20000 in
theorem ev_147_4 (d : Nat) (ls st : List ex_V) (h : ex_H) : ex_ev d 147 4 ls st h = ex_xs 0 (ex_ev d 147) (ex_cd d) [.iload 1, .sipush 277, .if_icmp .ge 5, .aload 0, .getfield 385, .aload 0, .getfield 386, .sipush 277, .imul, .iload 1, .iadd, .aload 0, .getfield 384, .iload 1, .iaload, .iastore, .iinc 1 1, .goto 4] ls st h := ex_ev_eq d 147 4 ls st h
set_option maxRecDepth 20000 in
theorem ev_147_5 (d : Nat) (ls st : List ex_V) (h : ex_H) : ex_ev d 147 5 ls st h = ex_xs 0 (ex_ev d 147) (ex_cd d) [.aload 0, .dup, .getfield 386, .sipush 1, .iadd, .putfield 386, .return_] ls st h := ex_ev_eq d 147 5 ls st h
set_option maxRecDepth 20000 in
theorem ev_148_0 (d : Nat) (ls st : List ex_V) (h : ex_H) : ex_ev d 148 0 ls st h = ex_xs 1 (ex_ev d 148) (ex_cd d) [.aload 0, .getfield 386, .ifCond .ne 1, .aload 0, .sipush (-100006), .invokevirtual 142, .ireturn] ls st h := ex_ev_eq d 148 0 ls st h
set_option maxRecDepth 20000 in
theorem ev_148_1 (d : Nat) (ls st : List ex_V) (h : ex_H) : ex_ev d 148 1 ls st h = ex_xs 1 (ex_ev d 148) (ex_cd d) [.aload 0, .dup, .getfield 386, .sipush 1, .isub, .putfield 386, .sipush 0, .istore 1, .goto_w 2] ls st h := ex_ev_eq d 148 1 ls st h
set_option maxRecDepth 20000 in
theorem ev_148_2 (d : Nat) (ls st : List ex_V) (h : ex_H) : ex_ev d 148 2 ls st h = ex_xs 1 (ex_ev d 148) (ex_cd d) [.iload 1, .sipush 277, .if_icmp .ge 3, .aload 0, .getfield 384, .iload 1, .aload 0, .getfield 385, .aload 0, .getfield 386, .sipush 277, .imul, .iload 1, .iadd, .iaload, .iastore, .iinc 1 1, .goto 2] ls st h := ex_ev_eq d 148 2 ls st h
set_option maxRecDepth 20000 in
theorem ev_148_3 (d : Nat) (ls st : List ex_V) (h : ex_H) : ex_ev d 148 3 ls st h = ex_xs 1 (ex_ev d 148) (ex_cd d) [.aload 0, .getfield 386, .ireturn] ls st h := ex_ev_eq d 148 3 ls st h
set_option maxRecDepth 20000 in
theorem ev_149_0 (d : Nat) (ls st : List ex_V) (h : ex_H) : ex_ev d 149 0 ls st h = ex_xs 1 (ex_ev d 149) (ex_cd d) [.iload 1, .sipush 0, .sipush 3, .invokestatic 143, .ifCond .eq 1, .iload 2, .sipush 1, .sipush 30, .invokestatic 143, .ifCond .eq 1, .iload 3, .sipush 1, .sipush 30, .invokestatic 143, .ifCond .eq 1, .iload 4, .sipush 1, .sipush 99, .invokestatic 143, .ifCond .ne 2, .goto_w 1] ls st h := ex_ev_eq d 149 0 ls st h
set_option maxRecDepth 20000 in
theorem ev_149_1 (d : Nat) (ls st : List ex_V) (h : ex_H) : ex_ev d 149 1 ls st h = ex_xs 1 (ex_ev d 149) (ex_cd d) [.aload 0, .sipush (-100001), .invokevirtual 142, .ireturn] ls st h := ex_ev_eq d 149 1 ls st h
set_option maxRecDepth 20000 in
theorem ev_149_2 (d : Nat) (ls st : List ex_V) (h : ex_H) : ex_ev d 149 2 ls st h = ex_xs 1 (ex_ev d 149) (ex_cd d) [.aload 0, .getfield 384, .sipush 0, .iaload, .istore 5, .iload 5, .sipush 5, .if_icmp .ne 3, .aload 0, .sipush (-100005), .invokevirtual 142, .ireturn] ls st h := ex_ev_eq d 149 2 ls st h
set_option maxRecDepth 20000 in
theorem ev_149_3 (d : Nat) (ls st : List ex_V) (h : ex_H) : ex_ev d 149 3 ls st h = ex_xs 1 (ex_ev d 149) (ex_cd d) [.aload 0, .invokevirtual 147, .aload 0, .getfield 384, .sipush 11, .iload 5, .iadd, .iload 1, .iastore, .aload 0, .getfield 384, .sipush 16, .iload 5, .iadd, .iload 2, .iastore, .aload 0, .getfield 384, .sipush 21, .iload 5, .iadd, .iload 3, .iastore, .aload 0, .getfield 384, .sipush 26, .iload 5, .iadd, .iload 1, .sipush 3, .if_icmp .ne 4, .iload 4, .sipush 2, .idiv, .goto 5] ls st h := ex_ev_eq d 149 3 ls st h
set_option maxRecDepth 20000 in
theorem ev_149_4 (d : Nat) (ls st : List ex_V) (h : ex_H) : ex_ev d 149 4 ls st h = ex_xs 1 (ex_ev d 149) (ex_cd d) [.iload 4, .goto_w 5] ls st h := ex_ev_eq d 149 4 ls st h
set_option maxRecDepth 20000 in
theorem ev_149_5 (d : Nat) (ls st : List ex_V) (h : ex_H) : ex_ev d 149 5 ls st h = ex_xs 1 (ex_ev d 149) (ex_cd d) [.iastore, .aload 0, .getfield 384, .sipush 0, .dup2, .iaload, .sipush 1, .iadd, .iastore, .iload 5, .ireturn] ls st h := ex_ev_eq d 149 5 ls st h
set_option maxRecDepth 20000 in
theorem ev_150_0 (d : Nat) (ls st : List ex_V) (h : ex_H) : ex_ev d 150 0 ls st h = ex_xs 2 (ex_ev d 150) (ex_cd d) [.aload 0, .getfield 384, .sipush 11, .iload 1, .iadd, .iaload, .sipush 1, .if_icmp .eq 1, .aload 0, .getfield 384, .sipush 11, .iload 1, .iadd, .iaload, .sipush 3, .if_icmp .ne 2, .goto_w 1] ls st h := ex_ev_eq d 150 0 ls st h
set_option maxRecDepth 20000 in
theorem ev_150_1 (d : Nat) (ls st : List ex_V) (h : ex_H) : ex_ev d 150 1 ls st h = ex_xs 2 (ex_ev d 150) (ex_cd d) [.sipush 1, .goto 3] ls st h := ex_ev_eq d 150 1 ls st h
set_option maxRecDepth 20000 in
theorem ev_150_2 (d : Nat) (ls st : List ex_V) (h : ex_H) : ex_ev d 150 2 ls st h = ex_xs 2 (ex_ev d 150) (ex_cd d) [.sipush 0, .goto_w 3] ls st h := ex_ev_eq d 150 2 ls st h
set_option maxRecDepth 20000 in
theorem ev_150_3 (d : Nat) (ls st : List ex_V) (h : ex_H) : ex_ev d 150 3 ls st h = ex_xs 2 (ex_ev d 150) (ex_cd d) [.ireturn] ls st h := ex_ev_eq d 150 3 ls st h
set_option maxRecDepth 20000 in
theorem ev_151_0 (d : Nat) (ls st : List ex_V) (h : ex_H) : ex_ev d 151 0 ls st h = ex_xs 1 (ex_ev d 151) (ex_cd d) [.aload 0, .iload 1, .invokevirtual 144, .ifCond .eq 1, .iload 2, .sipush 0, .sipush 3, .invokestatic 143, .ifCond .ne 2, .goto_w 1] ls st h := ex_ev_eq d 151 0 ls st h
set_option maxRecDepth 20000 in
theorem ev_151_1 (d : Nat) (ls st : List ex_V) (h : ex_H) : ex_ev d 151 1 ls st h = ex_xs 1 (ex_ev d 151) (ex_cd d) [.aload 0, .sipush (-100001), .invokevirtual 142, .ireturn] ls st h := ex_ev_eq d 151 1 ls st h
set_option maxRecDepth 20000 in
theorem ev_151_2 (d : Nat) (ls st : List ex_V) (h : ex_H) : ex_ev d 151 2 ls st h = ex_xs 1 (ex_ev d 151) (ex_cd d) [.aload 0, .getfield 384, .sipush 11, .iload 1, .iadd, .iaload, .istore 3, .iload 2, .ifCond .eq 3, .iload 3, .iload 2, .if_icmp .eq 3, .iload 2, .sipush 1, .if_icmp .ne 4, .iload 3, .sipush 3, .if_icmp .ne 4, .goto_w 3] ls st h := ex_ev_eq d 151 2 ls st h
set_option maxRecDepth 20000 in
theorem ev_151_3 (d : Nat) (ls st : List ex_V) (h : ex_H) : ex_ev d 151 3 ls st h = ex_xs 1 (ex_ev d 151) (ex_cd d) [.iload 1, .goto 5] ls st h := ex_ev_eq d 151 3 ls st h
set_option maxRecDepth 20000 in
theorem ev_151_4 (d : Nat) (ls st : List ex_V) (h : ex_H) : ex_ev d 151 4 ls st h = ex_xs 1 (ex_ev d 151) (ex_cd d) [.aload 0, .sipush (-100004), .invokevirtual 142, .goto_w 5] ls st h := ex_ev_eq d 151 4 ls st h
set_option maxRecDepth 20000 in
theorem ev_151_5 (d : Nat) (ls st : List ex_V) (h : ex_H) : ex_ev d 151 5 ls st h = ex_xs 1 (ex_ev d 151) (ex_cd d) [.ireturn] ls st h := ex_ev_eq d 151 5 ls st h
set_option maxRecDepth 20000 in
theorem ev_152_0 (d : Nat) (ls st : List ex_V) (h : ex_H) : ex_ev d 152 0 ls st h = ex_xs 1 (ex_ev d 152) (ex_cd d) [.aload 0, .getfield 384, .sipush 51, .sipush 8, .iload 1, .imul, .iadd, .iload 2, .iadd, .iaload, .ireturn] ls st h := ex_ev_eq d 152 0 ls st h
set_option maxRecDepth 20000 in
theorem ev_153_0 (d : Nat) (ls st : List ex_V) (h : ex_H) : ex_ev d 153 0 ls st h = ex_xs 1 (ex_ev d 153) (ex_cd d) [.aload 0, .getfield 384, .sipush 16, .iload 1, .iadd, .iaload, .istore 2, .sipush 0, .istore 3, .goto_w 1] ls st h := ex_ev_eq d 153 0 ls st h
set_option maxRecDepth 20000 in
theorem ev_153_1 (d : Nat) (ls st : List ex_V) (h : ex_H) : ex_ev d 153 1 ls st h = ex_xs 1 (ex_ev d 153) (ex_cd d) [.iload 3, .aload 0, .getfield 384, .sipush 46, .iload 1, .iadd, .iaload, .if_icmp .ge 2, .iload 2, .aload 0, .getfield 384, .sipush 91, .aload 0, .iload 1, .iload 3, .invokevirtual 152, .iadd, .iaload, .isub, .istore 2, .iinc 3 1, .goto 1] ls st h := ex_ev_eq d 153 1 ls st h
set_option maxRecDepth 20000 in
theorem ev_153_2 (d : Nat) (ls st : List ex_V) (h : ex_H) : ex_ev d 153 2 ls st h = ex_xs 1 (ex_ev d 153) (ex_cd d) [.iload 2, .ireturn] ls st h := ex_ev_eq d 153 2 ls st h
set_option maxRecDepth 20000 in
theorem ev_154_0 (d : Nat) (ls st : List ex_V) (h : ex_H) : ex_ev d 154 0 ls st h = ex_xs 1 (ex_ev d 154) (ex_cd d) [.aload 0, .iload 1, .invokevirtual 144, .ifCond .eq 1, .iload 2, .sipush 0, .sipush 7, .invokestatic 143, .ifCond .ne 2, .goto_w 1] ls st h := ex_ev_eq d 154 0 ls st h
set_option maxRecDepth 20000 in
theorem ev_154_1 (d : Nat) (ls st : List ex_V) (h : ex_H) : ex_ev d 154 1 ls st h = ex_xs 1 (ex_ev d 154) (ex_cd d) [.aload 0, .sipush (-100001), .invokevirtual 142, .ireturn] ls st h := ex_ev_eq d 154 1 ls st h
set_option maxRecDepth 20000 in
theorem ev_154_2 (d : Nat) (ls st : List ex_V) (h : ex_H) : ex_ev d 154 2 ls st h = ex_xs 1 (ex_ev d 154) (ex_cd d) [.iload 2, .tableswitch 7 4 7 #[3, 4, 5, 6]] ls st h := ex_ev_eq d 154 2 ls st h
set_option maxRecDepth 20000 in
theorem ev_154_3 (d : Nat) (ls st : List ex_V) (h : ex_H) : ex_ev d 154 3 ls st h = ex_xs 1 (ex_ev d 154) (ex_cd d) [.aload 0, .getfield 384, .sipush 46, .iload 1, .iadd, .iaload, .ireturn] ls st h := ex_ev_eq d 154 3 ls st h
set_option maxRecDepth 20000 in
theorem ev_154_4 (d : Nat) (ls st : List ex_V) (h : ex_H) : ex_ev d 154 4 ls st h = ex_xs 1 (ex_ev d 154) (ex_cd d) [.aload 0, .iload 1, .invokevirtual 153, .ireturn] ls st h := ex_ev_eq d 154 4 ls st h
set_option maxRecDepth 20000 in
theorem ev_154_5 (d : Nat) (ls st : List ex_V) (h : ex_H) : ex_ev d 154 5 ls st h = ex_xs 1 (ex_ev d 154) (ex_cd d) [.aload 0, .getfield 384, .sipush 41, .iload 1, .iadd, .iaload, .ireturn] ls st h := ex_ev_eq d 154 5 ls st h
set_option maxRecDepth 20000 in
theorem ev_154_6 (d : Nat) (ls st : List ex_V) (h : ex_H) : ex_ev d 154 6 ls st h = ex_xs 1 (ex_ev d 154) (ex_cd d) [.aload 0, .getfield 384, .sipush 31, .iload 1, .iadd, .iaload, .ireturn] ls st h := ex_ev_eq d 154 6 ls st h
set_option maxRecDepth 20000 in
theorem ev_154_7 (d : Nat) (ls st : List ex_V) (h : ex_H) : ex_ev d 154 7 ls st h = ex_xs 1 (ex_ev d 154) (ex_cd d) [.aload 0, .getfield 384, .sipush 11, .sipush 5, .iload 2, .imul, .iadd, .iload 1, .iadd, .iaload, .ireturn] ls st h := ex_ev_eq d 154 7 ls st h
set_option maxRecDepth 20000 in
theorem ev_155_0 (d : Nat) (ls st : List ex_V) (h : ex_H) : ex_ev d 155 0 ls st h = ex_xs 1 (ex_ev d 155) (ex_cd d) [.aload 0, .iload 1, .invokevirtual 144, .ifCond .ne 1, .aload 0, .sipush (-100001), .invokevirtual 142, .ireturn] ls st h := ex_ev_eq d 155 0 ls st h
set_option maxRecDepth 20000 in
theorem ev_155_1 (d : Nat) (ls st : List ex_V) (h : ex_H) : ex_ev d 155 1 ls st h = ex_xs 1 (ex_ev d 155) (ex_cd d) [.aload 0, .iload 1, .invokevirtual 150, .ifCond .ne 2, .aload 0, .sipush (-100004), .invokevirtual 142, .ireturn] ls st h := ex_ev_eq d 155 1 ls st h
set_option maxRecDepth 20000 in
theorem ev_155_2 (d : Nat) (ls st : List ex_V) (h : ex_H) : ex_ev d 155 2 ls st h = ex_xs 1 (ex_ev d 155) (ex_cd d) [.aload 0, .invokevirtual 147, .aload 0, .getfield 384, .sipush 31, .iload 1, .iadd, .iaload, .istore 3, .aload 0, .getfield 384, .sipush 31, .iload 1, .iadd, .iload 2, .ifCond .eq 3, .sipush 1, .goto 4] ls st h := ex_ev_eq d 155 2 ls st h
set_option maxRecDepth 20000 in
theorem ev_155_3 (d : Nat) (ls st : List ex_V) (h : ex_H) : ex_ev d 155 3 ls st h = ex_xs 1 (ex_ev d 155) (ex_cd d) [.sipush 0, .goto_w 4] ls st h := ex_ev_eq d 155 3 ls st h
set_option maxRecDepth 20000 in
theorem ev_155_4 (d : Nat) (ls st : List ex_V) (h : ex_H) : ex_ev d 155 4 ls st h = ex_xs 1 (ex_ev d 155) (ex_cd d) [.iastore, .iload 3, .aload 0, .getfield 384, .sipush 31, .iload 1, .iadd, .iaload, .if_icmp .ne 5, .sipush 0, .goto 6] ls st h := ex_ev_eq d 155 4 ls st h
set_option maxRecDepth 20000 in
theorem ev_155_5 (d : Nat) (ls st : List ex_V) (h : ex_H) : ex_ev d 155 5 ls st h = ex_xs 1 (ex_ev d 155) (ex_cd d) [.sipush 1, .goto_w 6] ls st h := ex_ev_eq d 155 5 ls st h
set_option maxRecDepth 20000 in
theorem ev_155_6 (d : Nat) (ls st : List ex_V) (h : ex_H) : ex_ev d 155 6 ls st h = ex_xs 1 (ex_ev d 155) (ex_cd d) [.ireturn] ls st h := ex_ev_eq d 155 6 ls st h
set_option maxRecDepth 20000 in
theorem ev_156_0 (d : Nat) (ls st : List ex_V) (h : ex_H) : ex_ev d 156 0 ls st h = ex_xs 1 (ex_ev d 156) (ex_cd d) [.iload 1, .sipush 1, .sipush 9, .invokestatic 143, .ifCond .eq 1, .iload 2, .sipush 1, .sipush 30, .invokestatic 143, .ifCond .eq 1, .iload 3, .sipush 1, .sipush 99, .invokestatic 143, .ifCond .eq 1, .sipush 1, .goto 2] ls st h := ex_ev_eq d 156 0 ls st h
set_option maxRecDepth 20000 in
theorem ev_156_1 (d : Nat) (ls st : List ex_V) (h : ex_H) : ex_ev d 156 1 ls st h = ex_xs 1 (ex_ev d 156) (ex_cd d) [.sipush 0, .goto_w 2] ls st h := ex_ev_eq d 156 1 ls st h
set_option maxRecDepth 20000 in
theorem ev_156_2 (d : Nat) (ls st : List ex_V) (h : ex_H) : ex_ev d 156 2 ls st h = ex_xs 1 (ex_ev d 156) (ex_cd d) [.istore 7, .iload 7, .ifCond .eq 3, .iload 4, .invokestatic 146, .ifCond .eq 3, .iload 5, .sipush 0, .sipush 9, .invokestatic 143, .ifCond .eq 3, .iload 6, .sipush 0, .sipush 99, .invokestatic 143, .ifCond .ne 4, .goto_w 3] ls st h := ex_ev_eq d 156 2 ls st h
set_option maxRecDepth 20000 in
theorem ev_156_3 (d : Nat) (ls st : List ex_V) (h : ex_H) : ex_ev d 156 3 ls st h = ex_xs 1 (ex_ev d 156) (ex_cd d) [.aload 0, .sipush (-100001), .invokevirtual 142, .ireturn] ls st h := ex_ev_eq d 156 3 ls st h
set_option maxRecDepth 20000 in
theorem ev_156_4 (d : Nat) (ls st : List ex_V) (h : ex_H) : ex_ev d 156 4 ls st h = ex_xs 1 (ex_ev d 156) (ex_cd d) [.aload 0, .getfield 384, .sipush 1, .iaload, .istore 8, .iload 8, .sipush 8, .if_icmp .ne 5, .aload 0, .sipush (-100005), .invokevirtual 142, .ireturn] ls st h := ex_ev_eq d 156 4 ls st h
set_option maxRecDepth 20000 in
theorem ev_156_5 (d : Nat) (ls st : List ex_V) (h : ex_H) : ex_ev d 156 5 ls st h = ex_xs 1 (ex_ev d 156) (ex_cd d) [.aload 0, .invokevirtual 147, .aload 0, .getfield 384, .sipush 91, .iload 8, .iadd, .iload 1, .iastore, .aload 0, .getfield 384, .sipush 99, .iload 8, .iadd, .iload 2, .iastore, .aload 0, .getfield 384, .sipush 107, .iload 8, .iadd, .iload 3, .iastore, .aload 0, .getfield 384, .sipush 115, .iload 8, .iadd, .iload 4, .iastore, .aload 0, .getfield 384, .sipush 123, .iload 8, .iadd, .iload 5, .iastore, .aload 0, .getfield 384, .sipush 131, .iload 8, .iadd, .iload 6, .iastore, .aload 0, .getfield 384, .sipush 1, .dup2, .iaload, .sipush 1, .iadd, .iastore, .iload 8, .ireturn] ls st h := ex_ev_eq d 156 5 ls st h
set_option maxRecDepth 20000 in
theorem ev_157_0 (d : Nat) (ls st : List ex_V) (h : ex_H) : ex_ev d 157 0 ls st h = ex_xs 1 (ex_ev d 157) (ex_cd d) [.sipush 0, .istore 2, .goto_w 1] ls st h := ex_ev_eq d 157 0 ls st h
set_option maxRecDepth 20000 in
theorem ev_157_1 (d : Nat) (ls st : List ex_V) (h : ex_H) : ex_ev d 157 1 ls st h = ex_xs 1 (ex_ev d 157) (ex_cd d) [.iload 2, .aload 0, .getfield 384, .sipush 0, .iaload, .if_icmp .ge 5, .sipush 0, .istore 3, .goto_w 2] ls st h := ex_ev_eq d 157 1 ls st h
set_option maxRecDepth 20000 in
theorem ev_157_2 (d : Nat) (ls st : List ex_V) (h : ex_H) : ex_ev d 157 2 ls st h = ex_xs 1 (ex_ev d 157) (ex_cd d) [.iload 3, .aload 0, .getfield 384, .sipush 46, .iload 2, .iadd, .iaload, .if_icmp .ge 4, .aload 0, .iload 2, .iload 3, .invokevirtual 152, .iload 1, .if_icmp .ne 3, .sipush 8, .iload 2, .imul, .iload 3, .iadd, .ireturn] ls st h := ex_ev_eq d 157 2 ls st h
set_option maxRecDepth 20000 in
theorem ev_157_3 (d : Nat) (ls st : List ex_V) (h : ex_H) : ex_ev d 157 3 ls st h = ex_xs 1 (ex_ev d 157) (ex_cd d) [.iinc 3 1, .goto 2] ls st h := ex_ev_eq d 157 3 ls st h
set_option maxRecDepth 20000 in
theorem ev_157_4 (d : Nat) (ls st : List ex_V) (h : ex_H) : ex_ev d 157 4 ls st h = ex_xs 1 (ex_ev d 157) (ex_cd d) [.iinc 2 1, .goto 1] ls st h := ex_ev_eq d 157 4 ls st h
set_option maxRecDepth 20000 in
theorem ev_157_5 (d : Nat) (ls st : List ex_V) (h : ex_H) : ex_ev d 157 5 ls st h = ex_xs 1 (ex_ev d 157) (ex_cd d) [.sipush (-1), .ireturn] ls st h := ex_ev_eq d 157 5 ls st h
set_option maxRecDepth 20000 in
theorem ev_158_0 (d : Nat) (ls st : List ex_V) (h : ex_H) : ex_ev d 158 0 ls st h = ex_xs 1 (ex_ev d 158) (ex_cd d) [.aload 0, .getfield 384, .sipush 46, .iload 1, .sipush 8, .idiv, .iadd, .iaload, .sipush 1, .isub, .iload 1, .sipush 8, .irem, .isub, .ireturn] ls st h := ex_ev_eq d 158 0 ls st h
set_option maxRecDepth 20000 in
theorem ev_159_0 (d : Nat) (ls st : List ex_V) (h : ex_H) : ex_ev d 159 0 ls st h = ex_xs 1 (ex_ev d 159) (ex_cd d) [.aload 0, .iload 1, .invokevirtual 145, .ifCond .eq 1, .iload 2, .sipush 0, .sipush 7, .invokestatic 143, .ifCond .ne 2, .goto_w 1] ls st h := ex_ev_eq d 159 0 ls st h
set_option maxRecDepth 20000 in
theorem ev_159_1 (d : Nat) (ls st : List ex_V) (h : ex_H) : ex_ev d 159 1 ls st h = ex_xs 1 (ex_ev d 159) (ex_cd d) [.aload 0, .sipush (-100001), .invokevirtual 142, .ireturn] ls st h := ex_ev_eq d 159 1 ls st h
set_option maxRecDepth 20000 in
theorem ev_159_2 (d : Nat) (ls st : List ex_V) (h : ex_H) : ex_ev d 159 2 ls st h = ex_xs 1 (ex_ev d 159) (ex_cd d) [.aload 0, .iload 1, .invokevirtual 157, .istore 3, .iload 2, .lookupswitch 9 #[(6, 3), (7, 6)]] ls st h := ex_ev_eq d 159 2 ls st h
set_option maxRecDepth 20000 in
theorem ev_159_3 (d : Nat) (ls st : List ex_V) (h : ex_H) : ex_ev d 159 3 ls st h = ex_xs 1 (ex_ev d 159) (ex_cd d) [.iload 3, .ifCond .ge 4, .sipush (-1), .goto 5] ls st h := ex_ev_eq d 159 3 ls st h
set_option maxRecDepth 20000 in
theorem ev_159_4 (d : Nat) (ls st : List ex_V) (h : ex_H) : ex_ev d 159 4 ls st h = ex_xs 1 (ex_ev d 159) (ex_cd d) [.iload 3, .sipush 8, .idiv, .goto_w 5] ls st h := ex_ev_eq d 159 4 ls st h
set_option maxRecDepth 20000 in
theorem ev_159_5 (d : Nat) (ls st : List ex_V) (h : ex_H) : ex_ev d 159 5 ls st h = ex_xs 1 (ex_ev d 159) (ex_cd d) [.ireturn] ls st h := ex_ev_eq d 159 5 ls st h
set_option maxRecDepth 20000 in
theorem ev_159_6 (d : Nat) (ls st : List ex_V) (h : ex_H) : ex_ev d 159 6 ls st h = ex_xs 1 (ex_ev d 159) (ex_cd d) [.iload 3, .ifCond .ge 7, .sipush 0, .goto 8] ls st h := ex_ev_eq d 159 6 ls st h
set_option maxRecDepth 20000 in
theorem ev_159_7 (d : Nat) (ls st : List ex_V) (h : ex_H) : ex_ev d 159 7 ls st h = ex_xs 1 (ex_ev d 159) (ex_cd d) [.aload 0, .iload 3, .invokevirtual 158, .goto_w 8] ls st h := ex_ev_eq d 159 7 ls st h
set_option maxRecDepth 20000 in
theorem ev_159_8 (d : Nat) (ls st : List ex_V) (h : ex_H) : ex_ev d 159 8 ls st h = ex_xs 1 (ex_ev d 159) (ex_cd d) [.ireturn] ls st h := ex_ev_eq d 159 8 ls st h
set_option maxRecDepth 20000 in
theorem ev_159_9 (d : Nat) (ls st : List ex_V) (h : ex_H) : ex_ev d 159 9 ls st h = ex_xs 1 (ex_ev d 159) (ex_cd d) [.aload 0, .getfield 384, .sipush 91, .sipush 8, .iload 2, .imul, .iadd, .iload 1, .iadd, .iaload, .ireturn] ls st h := ex_ev_eq d 159 9 ls st h
set_option maxRecDepth 20000 in
theorem ev_160_0 (d : Nat) (ls st : List ex_V) (h : ex_H) : ex_ev d 160 0 ls st h = ex_xs 1 (ex_ev d 160) (ex_cd d) [.aload 0, .iload 1, .invokevirtual 145, .ifCond .eq 4, .iload 2, .sipush 0, .sipush 2, .invokestatic 143, .ifCond .eq 4, .iload 3, .sipush 0, .iload 2, .ifCond .ne 1, .sipush 23, .goto 3] ls st h := ex_ev_eq d 160 0 ls st h
set_option maxRecDepth 20000 in
theorem ev_160_1 (d : Nat) (ls st : List ex_V) (h : ex_H) : ex_ev d 160 1 ls st h = ex_xs 1 (ex_ev d 160) (ex_cd d) [.iload 2, .sipush 1, .if_icmp .ne 2, .sipush 9, .goto 3] ls st h := ex_ev_eq d 160 1 ls st h
set_option maxRecDepth 20000 in
theorem ev_160_2 (d : Nat) (ls st : List ex_V) (h : ex_H) : ex_ev d 160 2 ls st h = ex_xs 1 (ex_ev d 160) (ex_cd d) [.sipush 99, .goto_w 3] ls st h := ex_ev_eq d 160 2 ls st h
set_option maxRecDepth 20000 in
theorem ev_160_3 (d : Nat) (ls st : List ex_V) (h : ex_H) : ex_ev d 160 3 ls st h = ex_xs 1 (ex_ev d 160) (ex_cd d) [.invokestatic 143, .ifCond .ne 5, .goto_w 4] ls st h := ex_ev_eq d 160 3 ls st h
set_option maxRecDepth 20000 in
theorem ev_160_4 (d : Nat) (ls st : List ex_V) (h : ex_H) : ex_ev d 160 4 ls st h = ex_xs 1 (ex_ev d 160) (ex_cd d) [.aload 0, .sipush (-100001), .invokevirtual 142, .ireturn] ls st h := ex_ev_eq d 160 4 ls st h
set_option maxRecDepth 20000 in
theorem ev_160_5 (d : Nat) (ls st : List ex_V) (h : ex_H) : ex_ev d 160 5 ls st h = ex_xs 1 (ex_ev d 160) (ex_cd d) [.aload 0, .invokevirtual 147, .aload 0, .getfield 384, .sipush 115, .sipush 8, .iload 2, .imul, .iadd, .iload 1, .iadd, .iaload, .istore 4, .aload 0, .getfield 384, .sipush 115, .sipush 8, .iload 2, .imul, .iadd, .iload 1, .iadd, .iload 3, .iastore, .iload 4, .ireturn] ls st h := ex_ev_eq d 160 5 ls st h
set_option maxRecDepth 20000 in
theorem ev_161_0 (d : Nat) (ls st : List ex_V) (h : ex_H) : ex_ev d 161 0 ls st h = ex_xs 1 (ex_ev d 161) (ex_cd d) [.aload 0, .iload 1, .invokevirtual 144, .ifCond .ne 1, .aload 0, .sipush (-100001), .invokevirtual 142, .ireturn] ls st h := ex_ev_eq d 161 0 ls st h
set_option maxRecDepth 20000 in
theorem ev_161_1 (d : Nat) (ls st : List ex_V) (h : ex_H) : ex_ev d 161 1 ls st h = ex_xs 1 (ex_ev d 161) (ex_cd d) [.iload 2, .sipush 0, .aload 0, .getfield 384, .sipush 46, .iload 1, .iadd, .iaload, .sipush 1, .isub, .invokestatic 143, .ifCond .eq 2, .aload 0, .iload 1, .iload 2, .invokevirtual 152, .goto 3] ls st h := ex_ev_eq d 161 1 ls st h
set_option maxRecDepth 20000 in
theorem ev_161_2 (d : Nat) (ls st : List ex_V) (h : ex_H) : ex_ev d 161 2 ls st h = ex_xs 1 (ex_ev d 161) (ex_cd d) [.aload 0, .sipush (-100006), .invokevirtual 142, .goto_w 3] ls st h := ex_ev_eq d 161 2 ls st h
set_option maxRecDepth 20000 in
theorem ev_161_3 (d : Nat) (ls st : List ex_V) (h : ex_H) : ex_ev d 161 3 ls st h = ex_xs 1 (ex_ev d 161) (ex_cd d) [.ireturn] ls st h := ex_ev_eq d 161 3 ls st h
set_option maxRecDepth 20000 in
theorem ev_162_0 (d : Nat) (ls st : List ex_V) (h : ex_H) : ex_ev d 162 0 ls st h = ex_xs 2 (ex_ev d 162) (ex_cd d) [.aload 0, .getfield 384, .sipush 99, .iload 1, .iadd, .iaload, .aload 0, .getfield 384, .sipush 21, .iload 2, .iadd, .iaload, .if_icmp .gt 1, .aload 0, .getfield 384, .sipush 107, .iload 1, .iadd, .iaload, .aload 0, .getfield 384, .sipush 26, .iload 2, .iadd, .iaload, .if_icmp .gt 1, .sipush 1, .goto 2] ls st h := ex_ev_eq d 162 0 ls st h
set_option maxRecDepth 20000 in
theorem ev_162_1 (d : Nat) (ls st : List ex_V) (h : ex_H) : ex_ev d 162 1 ls st h = ex_xs 2 (ex_ev d 162) (ex_cd d) [.sipush 0, .goto_w 2] ls st h := ex_ev_eq d 162 1 ls st h
set_option maxRecDepth 20000 in
theorem ev_162_2 (d : Nat) (ls st : List ex_V) (h : ex_H) : ex_ev d 162 2 ls st h = ex_xs 2 (ex_ev d 162) (ex_cd d) [.ireturn] ls st h := ex_ev_eq d 162 2 ls st h
set_option maxRecDepth 20000 in
theorem ev_163_0 (d : Nat) (ls st : List ex_V) (h : ex_H) : ex_ev d 163 0 ls st h = ex_xs 1 (ex_ev d 163) (ex_cd d) [.aload 0, .iload 1, .invokevirtual 145, .ifCond .eq 1, .aload 0, .iload 2, .invokevirtual 144, .ifCond .ne 2, .goto_w 1] ls st h := ex_ev_eq d 163 0 ls st h
set_option maxRecDepth 20000 in
theorem ev_163_1 (d : Nat) (ls st : List ex_V) (h : ex_H) : ex_ev d 163 1 ls st h = ex_xs 1 (ex_ev d 163) (ex_cd d) [.aload 0, .sipush (-100001), .invokevirtual 142, .goto 4] ls st h := ex_ev_eq d 163 1 ls st h
set_option maxRecDepth 20000 in
theorem ev_163_2 (d : Nat) (ls st : List ex_V) (h : ex_H) : ex_ev d 163 2 ls st h = ex_xs 1 (ex_ev d 163) (ex_cd d) [.aload 0, .iload 1, .iload 2, .invokevirtual 162, .ifCond .eq 3, .sipush 1, .goto 4] ls st h := ex_ev_eq d 163 2 ls st h
set_option maxRecDepth 20000 in
theorem ev_163_3 (d : Nat) (ls st : List ex_V) (h : ex_H) : ex_ev d 163 3 ls st h = ex_xs 1 (ex_ev d 163) (ex_cd d) [.sipush 0, .goto_w 4] ls st h := ex_ev_eq d 163 3 ls st h
set_option maxRecDepth 20000 in
theorem ev_163_4 (d : Nat) (ls st : List ex_V) (h : ex_H) : ex_ev d 163 4 ls st h = ex_xs 1 (ex_ev d 163) (ex_cd d) [.ireturn] ls st h := ex_ev_eq d 163 4 ls st h
set_option maxRecDepth 20000 in
theorem ev_164_0 (d : Nat) (ls st : List ex_V) (h : ex_H) : ex_ev d 164 0 ls st h = ex_xs 2 (ex_ev d 164) (ex_cd d) [.aload 0, .getfield 384, .sipush 31, .iload 1, .iadd, .iaload, .sipush 1, .if_icmp .eq 1, .aload 0, .getfield 384, .sipush 41, .iload 1, .iadd, .iaload, .sipush 12, .if_icmp .ne 2, .goto_w 1] ls st h := ex_ev_eq d 164 0 ls st h
set_option maxRecDepth 20000 in
theorem ev_164_1 (d : Nat) (ls st : List ex_V) (h : ex_H) : ex_ev d 164 1 ls st h = ex_xs 2 (ex_ev d 164) (ex_cd d) [.sipush 1, .goto 3] ls st h := ex_ev_eq d 164 1 ls st h
set_option maxRecDepth 20000 in
theorem ev_164_2 (d : Nat) (ls st : List ex_V) (h : ex_H) : ex_ev d 164 2 ls st h = ex_xs 2 (ex_ev d 164) (ex_cd d) [.sipush 0, .goto_w 3] ls st h := ex_ev_eq d 164 2 ls st h
set_option maxRecDepth 20000 in
theorem ev_164_3 (d : Nat) (ls st : List ex_V) (h : ex_H) : ex_ev d 164 3 ls st h = ex_xs 2 (ex_ev d 164) (ex_cd d) [.ireturn] ls st h := ex_ev_eq d 164 3 ls st h
set_option maxRecDepth 20000 in
theorem ev_165_0 (d : Nat) (ls st : List ex_V) (h : ex_H) : ex_ev d 165 0 ls st h = ex_xs 2 (ex_ev d 165) (ex_cd d) [.aload 0, .iload 1, .invokevirtual 157, .istore 2, .iload 2, .ifCond .lt 1, .aload 0, .iload 2, .invokevirtual 158, .ifCond .ne 1, .aload 0, .iload 2, .sipush 8, .idiv, .invokevirtual 164, .ifCond .ne 1, .sipush 1, .goto 2] ls st h := ex_ev_eq d 165 0 ls st h
set_option maxRecDepth 20000 in
theorem ev_165_1 (d : Nat) (ls st : List ex_V) (h : ex_H) : ex_ev d 165 1 ls st h = ex_xs 2 (ex_ev d 165) (ex_cd d) [.sipush 0, .goto_w 2] ls st h := ex_ev_eq d 165 1 ls st h
set_option maxRecDepth 20000 in
theorem ev_165_2 (d : Nat) (ls st : List ex_V) (h : ex_H) : ex_ev d 165 2 ls st h = ex_xs 2 (ex_ev d 165) (ex_cd d) [.ireturn] ls st h := ex_ev_eq d 165 2 ls st h
set_option maxRecDepth 20000 in
theorem ev_166_0 (d : Nat) (ls st : List ex_V) (h : ex_H) : ex_ev d 166 0 ls st h = ex_xs 0 (ex_ev d 166) (ex_cd d) [.aload 0, .getfield 384, .sipush 41, .iload 1, .iadd, .dup2, .iaload, .aload 0, .iload 1, .invokevirtual 150, .ifCond .eq 1, .sipush 1, .goto 2] ls st h := ex_ev_eq d 166 0 ls st h
set_option maxRecDepth 20000 in
theorem ev_166_1 (d : Nat) (ls st : List ex_V) (h : ex_H) : ex_ev d 166 1 ls st h = ex_xs 0 (ex_ev d 166) (ex_cd d) [.sipush 0, .goto_w 2] ls st h := ex_ev_eq d 166 1 ls st h
set_option maxRecDepth 20000 in
theorem ev_166_2 (d : Nat) (ls st : List ex_V) (h : ex_H) : ex_ev d 166 2 ls st h = ex_xs 0 (ex_ev d 166) (ex_cd d) [.iadd, .iastore, .return_] ls st h := ex_ev_eq d 166 2 ls st h
set_option maxRecDepth 20000 in
theorem ev_167_0 (d : Nat) (ls st : List ex_V) (h : ex_H) : ex_ev d 167 0 ls st h = ex_xs 0 (ex_ev d 167) (ex_cd d) [.aload 0, .getfield 384, .sipush 51, .sipush 8, .iload 2, .imul, .iadd, .aload 0, .getfield 384, .sipush 46, .iload 2, .iadd, .iaload, .iadd, .iload 1, .iastore, .aload 0, .getfield 384, .sipush 46, .iload 2, .iadd, .dup2, .iaload, .sipush 1, .iadd, .iastore, .aload 0, .iload 2, .invokevirtual 166, .return_] ls st h := ex_ev_eq d 167 0 ls st h
set_option maxRecDepth 20000 in
theorem ev_168_0 (d : Nat) (ls st : List ex_V) (h : ex_H) : ex_ev d 168 0 ls st h = ex_xs 0 (ex_ev d 168) (ex_cd d) [.aload 0, .getfield 384, .sipush 46, .iload 1, .iadd, .dup2, .iaload, .sipush 1, .isub, .iastore, .aload 0, .iload 1, .invokevirtual 166, .return_] ls st h := ex_ev_eq d 168 0 ls st h
set_option maxRecDepth 20000 in
theorem ev_169_0 (d : Nat) (ls st : List ex_V) (h : ex_H) : ex_ev d 169 0 ls st h = ex_xs 1 (ex_ev d 169) (ex_cd d) [.aload 0, .iload 1, .invokevirtual 145, .ifCond .eq 1, .aload 0, .iload 2, .invokevirtual 144, .ifCond .ne 2, .goto_w 1] ls st h := ex_ev_eq d 169 0 ls st h
set_option maxRecDepth 20000 in
theorem ev_169_1 (d : Nat) (ls st : List ex_V) (h : ex_H) : ex_ev d 169 1 ls st h = ex_xs 1 (ex_ev d 169) (ex_cd d) [.aload 0, .sipush (-100001), .invokevirtual 142, .ireturn] ls st h := ex_ev_eq d 169 1 ls st h
set_option maxRecDepth 20000 in
theorem ev_169_2 (d : Nat) (ls st : List ex_V) (h : ex_H) : ex_ev d 169 2 ls st h = ex_xs 1 (ex_ev d 169) (ex_cd d) [.aload 0, .iload 1, .invokevirtual 157, .ifCond .lt 3, .aload 0, .sipush (-100007), .invokevirtual 142, .ireturn] ls st h := ex_ev_eq d 169 2 ls st h
set_option maxRecDepth 20000 in
theorem ev_169_3 (d : Nat) (ls st : List ex_V) (h : ex_H) : ex_ev d 169 3 ls st h = ex_xs 1 (ex_ev d 169) (ex_cd d) [.aload 0, .iload 1, .iload 2, .invokevirtual 162, .ifCond .ne 4, .aload 0, .sipush (-100004), .invokevirtual 142, .ireturn] ls st h := ex_ev_eq d 169 3 ls st h
set_option maxRecDepth 20000 in
theorem ev_169_4 (d : Nat) (ls st : List ex_V) (h : ex_H) : ex_ev d 169 4 ls st h = ex_xs 1 (ex_ev d 169) (ex_cd d) [.aload 0, .iload 2, .invokevirtual 164, .ifCond .eq 5, .aload 0, .sipush (-100008), .invokevirtual 142, .ireturn] ls st h := ex_ev_eq d 169 4 ls st h
set_option maxRecDepth 20000 in
theorem ev_169_5 (d : Nat) (ls st : List ex_V) (h : ex_H) : ex_ev d 169 5 ls st h = ex_xs 1 (ex_ev d 169) (ex_cd d) [.aload 0, .iload 2, .invokevirtual 153, .aload 0, .getfield 384, .sipush 91, .iload 1, .iadd, .iaload, .if_icmp .ge 6, .aload 0, .sipush (-100005), .invokevirtual 142, .ireturn] ls st h := ex_ev_eq d 169 5 ls st h
set_option maxRecDepth 20000 in
theorem ev_169_6 (d : Nat) (ls st : List ex_V) (h : ex_H) : ex_ev d 169 6 ls st h = ex_xs 1 (ex_ev d 169) (ex_cd d) [.aload 0, .invokevirtual 147, .aload 0, .iload 1, .iload 2, .invokevirtual 167, .aload 0, .getfield 384, .sipush 46, .iload 2, .iadd, .iaload, .ireturn] ls st h := ex_ev_eq d 169 6 ls st h
set_option maxRecDepth 20000 in
theorem ev_170_0 (d : Nat) (ls st : List ex_V) (h : ex_H) : ex_ev d 170 0 ls st h = ex_xs 1 (ex_ev d 170) (ex_cd d) [.aload 0, .iload 1, .invokevirtual 157, .istore 3, .iload 3, .ifCond .ge 1, .sipush (-100006), .ireturn] ls st h := ex_ev_eq d 170 0 ls st h
set_option maxRecDepth 20000 in
theorem ev_170_1 (d : Nat) (ls st : List ex_V) (h : ex_H) : ex_ev d 170 1 ls st h = ex_xs 1 (ex_ev d 170) (ex_cd d) [.iload 3, .sipush 8, .idiv, .iload 2, .if_icmp .ne 2, .sipush (-100007), .ireturn] ls st h := ex_ev_eq d 170 1 ls st h
set_option maxRecDepth 20000 in
theorem ev_170_2 (d : Nat) (ls st : List ex_V) (h : ex_H) : ex_ev d 170 2 ls st h = ex_xs 1 (ex_ev d 170) (ex_cd d) [.aload 0, .iload 1, .invokevirtual 165, .ifCond .eq 3, .aload 0, .iload 2, .invokevirtual 164, .ifCond .eq 4, .goto_w 3] ls st h := ex_ev_eq d 170 2 ls st h
set_option maxRecDepth 20000 in
theorem ev_170_3 (d : Nat) (ls st : List ex_V) (h : ex_H) : ex_ev d 170 3 ls st h = ex_xs 1 (ex_ev d 170) (ex_cd d) [.sipush (-100008), .ireturn] ls st h := ex_ev_eq d 170 3 ls st h
set_option maxRecDepth 20000 in
theorem ev_170_4 (d : Nat) (ls st : List ex_V) (h : ex_H) : ex_ev d 170 4 ls st h = ex_xs 1 (ex_ev d 170) (ex_cd d) [.aload 0, .iload 1, .iload 2, .invokevirtual 162, .ifCond .ne 5, .sipush (-100004), .ireturn] ls st h := ex_ev_eq d 170 4 ls st h
set_option maxRecDepth 20000 in
theorem ev_170_5 (d : Nat) (ls st : List ex_V) (h : ex_H) : ex_ev d 170 5 ls st h = ex_xs 1 (ex_ev d 170) (ex_cd d) [.aload 0, .iload 2, .invokevirtual 153, .aload 0, .getfield 384, .sipush 91, .iload 1, .iadd, .iaload, .if_icmp .ge 6, .sipush (-100005), .ireturn] ls st h := ex_ev_eq d 170 5 ls st h
set_option maxRecDepth 20000 in
theorem ev_170_6 (d : Nat) (ls st : List ex_V) (h : ex_H) : ex_ev d 170 6 ls st h = ex_xs 1 (ex_ev d 170) (ex_cd d) [.aload 0, .iload 1, .aload 0, .getfield 384, .sipush 2, .iaload, .aload 0, .getfield 384, .sipush 10, .iaload, .invokevirtual 228, .ifCond .eq 7, .sipush 0, .goto 8] ls st h := ex_ev_eq d 170 6 ls st h
set_option maxRecDepth 20000 in
theorem ev_170_7 (d : Nat) (ls st : List ex_V) (h : ex_H) : ex_ev d 170 7 ls st h = ex_xs 1 (ex_ev d 170) (ex_cd d) [.sipush (-100002), .goto_w 8] ls st h := ex_ev_eq d 170 7 ls st h
set_option maxRecDepth 20000 in
theorem ev_170_8 (d : Nat) (ls st : List ex_V) (h : ex_H) : ex_ev d 170 8 ls st h = ex_xs 1 (ex_ev d 170) (ex_cd d) [.ireturn] ls st h := ex_ev_eq d 170 8 ls st h
set_option maxRecDepth 20000 in
theorem ev_171_0 (d : Nat) (ls st : List ex_V) (h : ex_H) : ex_ev d 171 0 ls st h = ex_xs 0 (ex_ev d 171) (ex_cd d) [.aload 0, .aload 0, .iload 1, .invokevirtual 157, .sipush 8, .idiv, .invokevirtual 168, .aload 0, .iload 1, .iload 2, .invokevirtual 167, .return_] ls st h := ex_ev_eq d 171 0 ls st h
set_option maxRecDepth 20000 in
theorem ev_172_0 (d : Nat) (ls st : List ex_V) (h : ex_H) : ex_ev d 172 0 ls st h = ex_xs 0 (ex_ev d 172) (ex_cd d) [.aload 0, .getfield 384, .sipush 8, .iaload, .sipush 60, .if_icmp .ne 3, .sipush 1, .istore 2, .goto_w 1] ls st h := ex_ev_eq d 172 0 ls st h
set_option maxRecDepth 20000 in
theorem ev_172_1 (d : Nat) (ls st : List ex_V) (h : ex_H) : ex_ev d 172 1 ls st h = ex_xs 0 (ex_ev d 172) (ex_cd d) [.iload 2, .sipush 60, .if_icmp .ge 2, .aload 0, .getfield 384, .sipush 171, .iload 2, .iadd, .sipush 1, .isub, .aload 0, .getfield 384, .sipush 171, .iload 2, .iadd, .iaload, .iastore, .iinc 2 1, .goto 1] ls st h := ex_ev_eq d 172 1 ls st h
set_option maxRecDepth 20000 in
theorem ev_172_2 (d : Nat) (ls st : List ex_V) (h : ex_H) : ex_ev d 172 2 ls st h = ex_xs 0 (ex_ev d 172) (ex_cd d) [.aload 0, .getfield 384, .sipush 8, .dup2, .iaload, .sipush 1, .isub, .iastore, .goto_w 3] ls st h := ex_ev_eq d 172 2 ls st h
set_option maxRecDepth 20000 in
theorem ev_172_3 (d : Nat) (ls st : List ex_V) (h : ex_H) : ex_ev d 172 3 ls st h = ex_xs 0 (ex_ev d 172) (ex_cd d) [.aload 0, .getfield 384, .sipush 171, .aload 0, .getfield 384, .sipush 8, .iaload, .iadd, .iload 1, .iastore, .aload 0, .getfield 384, .sipush 8, .dup2, .iaload, .sipush 1, .iadd, .iastore, .return_] ls st h := ex_ev_eq d 172 3 ls st h
set_option maxRecDepth 20000 in
theorem ev_173_0 (d : Nat) (ls st : List ex_V) (h : ex_H) : ex_ev d 173 0 ls st h = ex_xs 1 (ex_ev d 173) (ex_cd d) [.aload 0, .iload 1, .invokevirtual 145, .ifCond .eq 1, .aload 0, .iload 2, .invokevirtual 144, .ifCond .ne 2, .goto_w 1] ls st h := ex_ev_eq d 173 0 ls st h
set_option maxRecDepth 20000 in
theorem ev_173_1 (d : Nat) (ls st : List ex_V) (h : ex_H) : ex_ev d 173 1 ls st h = ex_xs 1 (ex_ev d 173) (ex_cd d) [.aload 0, .sipush (-100001), .invokevirtual 142, .ireturn] ls st h := ex_ev_eq d 173 1 ls st h
set_option maxRecDepth 20000 in
theorem ev_173_2 (d : Nat) (ls st : List ex_V) (h : ex_H) : ex_ev d 173 2 ls st h = ex_xs 1 (ex_ev d 173) (ex_cd d) [.aload 0, .iload 1, .iload 2, .invokevirtual 170, .istore 3, .iload 3, .ifCond .eq 3, .aload 0, .iload 3, .invokevirtual 142, .ireturn] ls st h := ex_ev_eq d 173 2 ls st h
set_option maxRecDepth 20000 in
theorem ev_173_3 (d : Nat) (ls st : List ex_V) (h : ex_H) : ex_ev d 173 3 ls st h = ex_xs 1 (ex_ev d 173) (ex_cd d) [.aload 0, .iload 1, .iload 2, .aload 0, .getfield 384, .sipush 2, .iaload, .invokevirtual 218, .ifCond .ne 4, .aload 0, .sipush (-100009), .invokevirtual 142, .ireturn] ls st h := ex_ev_eq d 173 3 ls st h
set_option maxRecDepth 20000 in
theorem ev_173_4 (d : Nat) (ls st : List ex_V) (h : ex_H) : ex_ev d 173 4 ls st h = ex_xs 1 (ex_ev d 173) (ex_cd d) [.aload 0, .invokevirtual 147, .aload 0, .iload 1, .iload 2, .invokevirtual 171, .aload 0, .iload 1, .sipush 8, .aload 0, .getfield 384, .sipush 4, .iaload, .imul, .iadd, .invokevirtual 172, .aload 0, .getfield 384, .sipush 6, .dup2, .iaload, .sipush 1, .iadd, .iastore, .aload 0, .getfield 384, .sipush 6, .iaload, .ireturn] ls st h := ex_ev_eq d 173 4 ls st h
set_option maxRecDepth 20000 in
theorem ev_174_0 (d : Nat) (ls st : List ex_V) (h : ex_H) : ex_ev d 174 0 ls st h = ex_xs 1 (ex_ev d 174) (ex_cd d) [.aload 0, .iload 1, .invokevirtual 145, .ifCond .ne 1, .aload 0, .sipush (-100001), .invokevirtual 142, .ireturn] ls st h := ex_ev_eq d 174 0 ls st h
set_option maxRecDepth 20000 in
theorem ev_174_1 (d : Nat) (ls st : List ex_V) (h : ex_H) : ex_ev d 174 1 ls st h = ex_xs 1 (ex_ev d 174) (ex_cd d) [.aload 0, .iload 1, .invokevirtual 157, .istore 2, .iload 2, .ifCond .ge 2, .aload 0, .sipush (-100006), .invokevirtual 142, .ireturn] ls st h := ex_ev_eq d 174 1 ls st h
set_option maxRecDepth 20000 in
theorem ev_174_2 (d : Nat) (ls st : List ex_V) (h : ex_H) : ex_ev d 174 2 ls st h = ex_xs 1 (ex_ev d 174) (ex_cd d) [.aload 0, .iload 1, .invokevirtual 165, .ifCond .ne 3, .aload 0, .sipush (-100008), .invokevirtual 142, .ireturn] ls st h := ex_ev_eq d 174 2 ls st h
set_option maxRecDepth 20000 in
theorem ev_174_3 (d : Nat) (ls st : List ex_V) (h : ex_H) : ex_ev d 174 3 ls st h = ex_xs 1 (ex_ev d 174) (ex_cd d) [.aload 0, .invokevirtual 147, .aload 0, .iload 2, .sipush 8, .idiv, .invokevirtual 168, .aload 0, .getfield 384, .sipush 115, .iload 1, .iadd, .iaload, .ireturn] ls st h := ex_ev_eq d 174 3 ls st h
set_option maxRecDepth 20000 in
theorem ev_175_0 (d : Nat) (ls st : List ex_V) (h : ex_H) : ex_ev d 175 0 ls st h = ex_xs 1 (ex_ev d 175) (ex_cd d) [.aload 0, .invokevirtual 147, .sipush 0, .istore 1, .sipush 0, .istore 2, .goto_w 1] ls st h := ex_ev_eq d 175 0 ls st h
set_option maxRecDepth 20000 in
theorem ev_175_1 (d : Nat) (ls st : List ex_V) (h : ex_H) : ex_ev d 175 1 ls st h = ex_xs 1 (ex_ev d 175) (ex_cd d) [.iload 2, .sipush 5, .if_icmp .ge 2, .iload 1, .aload 0, .getfield 384, .sipush 41, .iload 2, .iadd, .iaload, .iadd, .istore 1, .aload 0, .getfield 384, .sipush 41, .iload 2, .iadd, .sipush 0, .iastore, .iinc 2 1, .goto 1] ls st h := ex_ev_eq d 175 1 ls st h
set_option maxRecDepth 20000 in
theorem ev_175_2 (d : Nat) (ls st : List ex_V) (h : ex_H) : ex_ev d 175 2 ls st h = ex_xs 1 (ex_ev d 175) (ex_cd d) [.aload 0, .getfield 384, .sipush 2, .sipush 0, .iastore, .iload 1, .ireturn] ls st h := ex_ev_eq d 175 2 ls st h
set_option maxRecDepth 20000 in
theorem ev_176_0 (d : Nat) (ls st : List ex_V) (h : ex_H) : ex_ev d 176 0 ls st h = ex_xs 1 (ex_ev d 176) (ex_cd d) [.iload 1, .invokestatic 146, .ifCond .ne 1, .aload 0, .sipush (-100001), .invokevirtual 142, .ireturn] ls st h := ex_ev_eq d 176 0 ls st h
set_option maxRecDepth 20000 in
theorem ev_176_1 (d : Nat) (ls st : List ex_V) (h : ex_H) : ex_ev d 176 1 ls st h = ex_xs 1 (ex_ev d 176) (ex_cd d) [.aload 0, .invokevirtual 147, .aload 0, .getfield 384, .sipush 2, .iaload, .istore 2, .aload 0, .getfield 384, .sipush 2, .iload 1, .iastore, .iload 2, .ireturn] ls st h := ex_ev_eq d 176 1 ls st h
set_option maxRecDepth 20000 in
theorem ev_177_0 (d : Nat) (ls st : List ex_V) (h : ex_H) : ex_ev d 177 0 ls st h = ex_xs 1 (ex_ev d 177) (ex_cd d) [.aload 0, .iload 1, .invokevirtual 145, .ifCond .ne 1, .aload 0, .sipush (-100001), .invokevirtual 142, .ireturn] ls st h := ex_ev_eq d 177 0 ls st h
set_option maxRecDepth 20000 in
theorem ev_177_1 (d : Nat) (ls st : List ex_V) (h : ex_H) : ex_ev d 177 1 ls st h = ex_xs 1 (ex_ev d 177) (ex_cd d) [.aload 0, .iload 1, .invokevirtual 157, .istore 2, .iload 2, .ifCond .ge 2, .aload 0, .sipush (-100006), .invokevirtual 142, .ireturn] ls st h := ex_ev_eq d 177 1 ls st h
set_option maxRecDepth 20000 in
theorem ev_177_2 (d : Nat) (ls st : List ex_V) (h : ex_H) : ex_ev d 177 2 ls st h = ex_xs 1 (ex_ev d 177) (ex_cd d) [.sipush 0, .istore 3, .iload 2, .sipush 8, .irem, .sipush 1, .iadd, .istore 4, .goto_w 3] ls st h := ex_ev_eq d 177 2 ls st h
set_option maxRecDepth 20000 in
theorem ev_177_3 (d : Nat) (ls st : List ex_V) (h : ex_H) : ex_ev d 177 3 ls st h = ex_xs 1 (ex_ev d 177) (ex_cd d) [.iload 4, .aload 0, .getfield 384, .sipush 46, .iload 2, .sipush 8, .idiv, .iadd, .iaload, .if_icmp .ge 4, .iload 3, .sipush 1, .aload 0, .iload 2, .sipush 8, .idiv, .iload 4, .invokevirtual 152, .ishl, .ior, .istore 3, .iinc 4 1, .goto 3] ls st h := ex_ev_eq d 177 3 ls st h
set_option maxRecDepth 20000 in
theorem ev_177_4 (d : Nat) (ls st : List ex_V) (h : ex_H) : ex_ev d 177 4 ls st h = ex_xs 1 (ex_ev d 177) (ex_cd d) [.iload 3, .ireturn] ls st h := ex_ev_eq d 177 4 ls st h
set_option maxRecDepth 20000 in
theorem ev_178_0 (d : Nat) (ls st : List ex_V) (h : ex_H) : ex_ev d 178 0 ls st h = ex_xs 0 (ex_ev d 178) (ex_cd d) [.sipush 0, .istore 2, .goto_w 1] ls st h := ex_ev_eq d 178 0 ls st h
set_option maxRecDepth 20000 in
theorem ev_178_1 (d : Nat) (ls st : List ex_V) (h : ex_H) : ex_ev d 178 1 ls st h = ex_xs 0 (ex_ev d 178) (ex_cd d) [.iload 2, .sipush 50, .if_icmp .ge 2, .aload 0, .getfield 391, .sipush 50, .iload 1, .imul, .iload 2, .iadd, .aload 0, .getfield 384, .sipush 41, .iload 2, .iadd, .iaload, .iastore, .iinc 2 1, .goto 1] ls st h := ex_ev_eq d 178 1 ls st h
set_option maxRecDepth 20000 in
theorem ev_178_2 (d : Nat) (ls st : List ex_V) (h : ex_H) : ex_ev d 178 2 ls st h = ex_xs 0 (ex_ev d 178) (ex_cd d) [.return_] ls st h := ex_ev_eq d 178 2 ls st h
set_option maxRecDepth 20000 in
theorem ev_179_0 (d : Nat) (ls st : List ex_V) (h : ex_H) : ex_ev d 179 0 ls st h = ex_xs 0 (ex_ev d 179) (ex_cd d) [.sipush 0, .istore 2, .goto_w 1] ls st h := ex_ev_eq d 179 0 ls st h
set_option maxRecDepth 20000 in
theorem ev_179_1 (d : Nat) (ls st : List ex_V) (h : ex_H) : ex_ev d 179 1 ls st h = ex_xs 0 (ex_ev d 179) (ex_cd d) [.iload 2, .sipush 50, .if_icmp .ge 2, .aload 0, .getfield 384, .sipush 41, .iload 2, .iadd, .aload 0, .getfield 391, .sipush 50, .iload 1, .imul, .iload 2, .iadd, .iaload, .iastore, .iinc 2 1, .goto 1] ls st h := ex_ev_eq d 179 1 ls st h
set_option maxRecDepth 20000 in
theorem ev_179_2 (d : Nat) (ls st : List ex_V) (h : ex_H) : ex_ev d 179 2 ls st h = ex_xs 0 (ex_ev d 179) (ex_cd d) [.return_] ls st h := ex_ev_eq d 179 2 ls st h
set_option maxRecDepth 20000 in
theorem ev_180_0 (d : Nat) (ls st : List ex_V) (h : ex_H) : ex_ev d 180 0 ls st h = ex_xs 2 (ex_ev d 180) (ex_cd d) [.iload 2, .iload 3, .if_icmp .ne 1, .aload 0, .iload 1, .invokevirtual 165, .ireturn] ls st h := ex_ev_eq d 180 0 ls st h
set_option maxRecDepth 20000 in
theorem ev_180_1 (d : Nat) (ls st : List ex_V) (h : ex_H) : ex_ev d 180 1 ls st h = ex_xs 2 (ex_ev d 180) (ex_cd d) [.aload 0, .iload 2, .invokevirtual 178, .sipush 0, .istore 4, .goto_w 2] ls st h := ex_ev_eq d 180 1 ls st h
set_option maxRecDepth 20000 in
theorem ev_180_2 (d : Nat) (ls st : List ex_V) (h : ex_H) : ex_ev d 180 2 ls st h = ex_xs 2 (ex_ev d 180) (ex_cd d) [.iload 4, .sipush 8, .aload 0, .getfield 384, .sipush 1, .iaload, .imul, .if_icmp .ge 5, .iload 4, .sipush 8, .idiv, .iload 1, .if_icmp .eq 4, .aload 0, .iload 4, .sipush 8, .irem, .invokevirtual 144, .ifCond .eq 4, .aload 0, .iload 4, .sipush 8, .idiv, .iload 4, .sipush 8, .irem, .invokevirtual 170, .ifCond .eq 3, .goto 4] ls st h := ex_ev_eq d 180 2 ls st h
set_option maxRecDepth 20000 in
theorem ev_180_3 (d : Nat) (ls st : List ex_V) (h : ex_H) : ex_ev d 180 3 ls st h = ex_xs 2 (ex_ev d 180) (ex_cd d) [.aload 0, .iload 4, .sipush 8, .idiv, .iload 4, .sipush 8, .irem, .invokevirtual 171, .aload 0, .getfield 392, .iload 2, .iload 4, .iastore, .aload 0, .iload 1, .iload 2, .sipush 1, .iadd, .iload 3, .invokevirtual 180, .istore 5, .aload 0, .iload 2, .invokevirtual 179, .iload 5, .ifCond .eq 4, .sipush 1, .ireturn] ls st h := ex_ev_eq d 180 3 ls st h
set_option maxRecDepth 20000 in
theorem ev_180_4 (d : Nat) (ls st : List ex_V) (h : ex_H) : ex_ev d 180 4 ls st h = ex_xs 2 (ex_ev d 180) (ex_cd d) [.iinc 4 1, .goto 2] ls st h := ex_ev_eq d 180 4 ls st h
set_option maxRecDepth 20000 in
theorem ev_180_5 (d : Nat) (ls st : List ex_V) (h : ex_H) : ex_ev d 180 5 ls st h = ex_xs 2 (ex_ev d 180) (ex_cd d) [.sipush 0, .ireturn] ls st h := ex_ev_eq d 180 5 ls st h
set_option maxRecDepth 20000 in
theorem ev_181_0 (d : Nat) (ls st : List ex_V) (h : ex_H) : ex_ev d 181 0 ls st h = ex_xs 1 (ex_ev d 181) (ex_cd d) [.sipush 0, .istore 2, .goto_w 1] ls st h := ex_ev_eq d 181 0 ls st h
set_option maxRecDepth 20000 in
theorem ev_181_1 (d : Nat) (ls st : List ex_V) (h : ex_H) : ex_ev d 181 1 ls st h = ex_xs 1 (ex_ev d 181) (ex_cd d) [.iload 2, .sipush 3, .if_icmp .gt 2, .aload 0, .iload 1, .sipush 0, .iload 2, .invokevirtual 180, .ifCond .ne 2, .iinc 2 1, .goto 1] ls st h := ex_ev_eq d 181 1 ls st h
set_option maxRecDepth 20000 in
theorem ev_181_2 (d : Nat) (ls st : List ex_V) (h : ex_H) : ex_ev d 181 2 ls st h = ex_xs 1 (ex_ev d 181) (ex_cd d) [.iload 2, .sipush 3, .if_icmp .le 3, .sipush (-1), .goto 4] ls st h := ex_ev_eq d 181 2 ls st h
set_option maxRecDepth 20000 in
theorem ev_181_3 (d : Nat) (ls st : List ex_V) (h : ex_H) : ex_ev d 181 3 ls st h = ex_xs 1 (ex_ev d 181) (ex_cd d) [.iload 2, .goto_w 4] ls st h := ex_ev_eq d 181 3 ls st h
set_option maxRecDepth 20000 in
theorem ev_181_4 (d : Nat) (ls st : List ex_V) (h : ex_H) : ex_ev d 181 4 ls st h = ex_xs 1 (ex_ev d 181) (ex_cd d) [.ireturn] ls st h := ex_ev_eq d 181 4 ls st h
set_option maxRecDepth 20000 in
theorem ev_182_0 (d : Nat) (ls st : List ex_V) (h : ex_H) : ex_ev d 182 0 ls st h = ex_xs 1 (ex_ev d 182) (ex_cd d) [.aload 0, .iload 1, .invokevirtual 145, .ifCond .ne 1, .aload 0, .sipush (-100001), .invokevirtual 142, .ireturn] ls st h := ex_ev_eq d 182 0 ls st h
set_option maxRecDepth 20000 in
theorem ev_182_1 (d : Nat) (ls st : List ex_V) (h : ex_H) : ex_ev d 182 1 ls st h = ex_xs 1 (ex_ev d 182) (ex_cd d) [.aload 0, .iload 1, .invokevirtual 157, .ifCond .ge 2, .sipush (-1), .goto 3] ls st h := ex_ev_eq d 182 1 ls st h
set_option maxRecDepth 20000 in
theorem ev_182_2 (d : Nat) (ls st : List ex_V) (h : ex_H) : ex_ev d 182 2 ls st h = ex_xs 1 (ex_ev d 182) (ex_cd d) [.aload 0, .iload 1, .invokevirtual 181, .goto_w 3] ls st h := ex_ev_eq d 182 2 ls st h
set_option maxRecDepth 20000 in
theorem ev_182_3 (d : Nat) (ls st : List ex_V) (h : ex_H) : ex_ev d 182 3 ls st h = ex_xs 1 (ex_ev d 182) (ex_cd d) [.istore 2, .iload 2, .ifCond .ge 4, .aload 0, .sipush (-100006), .invokevirtual 142, .goto 5] ls st h := ex_ev_eq d 182 3 ls st h
set_option maxRecDepth 20000 in
theorem ev_182_4 (d : Nat) (ls st : List ex_V) (h : ex_H) : ex_ev d 182 4 ls st h = ex_xs 1 (ex_ev d 182) (ex_cd d) [.iload 2, .goto_w 5] ls st h := ex_ev_eq d 182 4 ls st h
set_option maxRecDepth 20000 in
theorem ev_182_5 (d : Nat) (ls st : List ex_V) (h : ex_H) : ex_ev d 182 5 ls st h = ex_xs 1 (ex_ev d 182) (ex_cd d) [.ireturn] ls st h := ex_ev_eq d 182 5 ls st h
set_option maxRecDepth 20000 in
theorem ev_183_0 (d : Nat) (ls st : List ex_V) (h : ex_H) : ex_ev d 183 0 ls st h = ex_xs 1 (ex_ev d 183) (ex_cd d) [.aload 0, .iload 1, .invokevirtual 145, .ifCond .eq 1, .iload 2, .ifCond .ge 2, .goto_w 1] ls st h := ex_ev_eq d 183 0 ls st h
set_option maxRecDepth 20000 in
theorem ev_183_1 (d : Nat) (ls st : List ex_V) (h : ex_H) : ex_ev d 183 1 ls st h = ex_xs 1 (ex_ev d 183) (ex_cd d) [.aload 0, .sipush (-100001), .invokevirtual 142, .ireturn] ls st h := ex_ev_eq d 183 1 ls st h
set_option maxRecDepth 20000 in
theorem ev_183_2 (d : Nat) (ls st : List ex_V) (h : ex_H) : ex_ev d 183 2 ls st h = ex_xs 1 (ex_ev d 183) (ex_cd d) [.aload 0, .iload 1, .invokevirtual 157, .ifCond .ge 3, .sipush (-1), .goto 4] ls st h := ex_ev_eq d 183 2 ls st h
set_option maxRecDepth 20000 in
theorem ev_183_3 (d : Nat) (ls st : List ex_V) (h : ex_H) : ex_ev d 183 3 ls st h = ex_xs 1 (ex_ev d 183) (ex_cd d) [.aload 0, .iload 1, .invokevirtual 181, .goto_w 4] ls st h := ex_ev_eq d 183 3 ls st h
set_option maxRecDepth 20000 in
theorem ev_183_4 (d : Nat) (ls st : List ex_V) (h : ex_H) : ex_ev d 183 4 ls st h = ex_xs 1 (ex_ev d 183) (ex_cd d) [.istore 3, .iload 2, .iload 3, .if_icmp .lt 5, .aload 0, .sipush (-100006), .invokevirtual 142, .goto 6] ls st h := ex_ev_eq d 183 4 ls st h
set_option maxRecDepth 20000 in
theorem ev_183_5 (d : Nat) (ls st : List ex_V) (h : ex_H) : ex_ev d 183 5 ls st h = ex_xs 1 (ex_ev d 183) (ex_cd d) [.aload 0, .getfield 392, .iload 2, .iaload, .goto_w 6] ls st h := ex_ev_eq d 183 5 ls st h
set_option maxRecDepth 20000 in
theorem ev_183_6 (d : Nat) (ls st : List ex_V) (h : ex_H) : ex_ev d 183 6 ls st h = ex_xs 1 (ex_ev d 183) (ex_cd d) [.ireturn] ls st h := ex_ev_eq d 183 6 ls st h
set_option maxRecDepth 20000 in
theorem ev_184_0 (d : Nat) (ls st : List ex_V) (h : ex_H) : ex_ev d 184 0 ls st h = ex_xs 1 (ex_ev d 184) (ex_cd d) [.aload 0, .iload 1, .invokevirtual 145, .ifCond .eq 1, .iload 2, .invokestatic 230, .ifCond .ne 2, .goto_w 1] ls st h := ex_ev_eq d 184 0 ls st h
set_option maxRecDepth 20000 in
theorem ev_184_1 (d : Nat) (ls st : List ex_V) (h : ex_H) : ex_ev d 184 1 ls st h = ex_xs 1 (ex_ev d 184) (ex_cd d) [.aload 0, .sipush (-100001), .invokevirtual 142, .ireturn] ls st h := ex_ev_eq d 184 1 ls st h
set_option maxRecDepth 20000 in
theorem ev_184_2 (d : Nat) (ls st : List ex_V) (h : ex_H) : ex_ev d 184 2 ls st h = ex_xs 1 (ex_ev d 184) (ex_cd d) [.aload 0, .getfield 388, .iload 2, .iaload, .ifCond .ne 3, .aload 0, .sipush (-100002), .invokevirtual 142, .ireturn] ls st h := ex_ev_eq d 184 2 ls st h
set_option maxRecDepth 20000 in
theorem ev_184_3 (d : Nat) (ls st : List ex_V) (h : ex_H) : ex_ev d 184 3 ls st h = ex_xs 1 (ex_ev d 184) (ex_cd d) [.aload 0, .iload 1, .invokevirtual 157, .ifCond .ge 4, .aload 0, .sipush (-100006), .invokevirtual 142, .ireturn] ls st h := ex_ev_eq d 184 3 ls st h
set_option maxRecDepth 20000 in
theorem ev_184_4 (d : Nat) (ls st : List ex_V) (h : ex_H) : ex_ev d 184 4 ls st h = ex_xs 1 (ex_ev d 184) (ex_cd d) [.aload 0, .sipush 0, .invokevirtual 178, .sipush 0, .istore 3, .sipush 1, .istore 4, .goto_w 5] ls st h := ex_ev_eq d 184 4 ls st h
set_option maxRecDepth 20000 in
theorem ev_184_5 (d : Nat) (ls st : List ex_V) (h : ex_H) : ex_ev d 184 5 ls st h = ex_xs 1 (ex_ev d 184) (ex_cd d) [.iload 4, .ifCond .eq 9, .iload 3, .aload 0, .getfield 389, .iload 2, .iaload, .if_icmp .ge 9, .aload 0, .getfield 390, .sipush 20, .iload 2, .imul, .iload 3, .iadd, .iaload, .istore 5, .iload 5, .ifCond .lt 6, .aload 0, .iload 5, .sipush 8, .idiv, .invokevirtual 145, .ifCond .eq 6, .iload 5, .sipush 8, .idiv, .iload 1, .if_icmp .eq 6, .aload 0, .iload 5, .sipush 8, .irem, .invokevirtual 144, .ifCond .eq 6, .aload 0, .iload 5, .sipush 8, .idiv, .iload 5, .sipush 8, .irem, .invokevirtual 170, .ifCond .ne 6, .sipush 1, .goto 7] ls st h := ex_ev_eq d 184 5 ls st h
set_option maxRecDepth 20000 in
theorem ev_184_6 (d : Nat) (ls st : List ex_V) (h : ex_H) : ex_ev d 184 6 ls st h = ex_xs 1 (ex_ev d 184) (ex_cd d) [.sipush 0, .goto_w 7] ls st h := ex_ev_eq d 184 6 ls st h
set_option maxRecDepth 20000 in
theorem ev_184_7 (d : Nat) (ls st : List ex_V) (h : ex_H) : ex_ev d 184 7 ls st h = ex_xs 1 (ex_ev d 184) (ex_cd d) [.istore 4, .iload 4, .ifCond .eq 8, .aload 0, .iload 5, .sipush 8, .idiv, .iload 5, .sipush 8, .irem, .invokevirtual 171, .iinc 3 1, .goto_w 8] ls st h := ex_ev_eq d 184 7 ls st h
set_option maxRecDepth 20000 in
theorem ev_184_8 (d : Nat) (ls st : List ex_V) (h : ex_H) : ex_ev d 184 8 ls st h = ex_xs 1 (ex_ev d 184) (ex_cd d) [.goto 5] ls st h := ex_ev_eq d 184 8 ls st h
set_option maxRecDepth 20000 in
theorem ev_184_9 (d : Nat) (ls st : List ex_V) (h : ex_H) : ex_ev d 184 9 ls st h = ex_xs 1 (ex_ev d 184) (ex_cd d) [.iload 4, .ifCond .eq 10, .aload 0, .iload 1, .invokevirtual 165, .ifCond .eq 10, .sipush (-1), .goto 11] ls st h := ex_ev_eq d 184 9 ls st h
set_option maxRecDepth 20000 in
theorem ev_184_10 (d : Nat) (ls st : List ex_V) (h : ex_H) : ex_ev d 184 10 ls st h = ex_xs 1 (ex_ev d 184) (ex_cd d) [.iload 3, .goto_w 11] ls st h := ex_ev_eq d 184 10 ls st h
set_option maxRecDepth 20000 in
theorem ev_184_11 (d : Nat) (ls st : List ex_V) (h : ex_H) : ex_ev d 184 11 ls st h = ex_xs 1 (ex_ev d 184) (ex_cd d) [.istore 5, .aload 0, .sipush 0, .invokevirtual 179, .iload 5, .ireturn] ls st h := ex_ev_eq d 184 11 ls st h
set_option maxRecDepth 20000 in
theorem ev_185_0 (d : Nat) (ls st : List ex_V) (h : ex_H) : ex_ev d 185 0 ls st h = ex_xs 1 (ex_ev d 185) (ex_cd d) [.sipush 0, .istore 2, .sipush 0, .istore 3, .goto_w 1] ls st h := ex_ev_eq d 185 0 ls st h
set_option maxRecDepth 20000 in
theorem ev_185_1 (d : Nat) (ls st : List ex_V) (h : ex_H) : ex_ev d 185 1 ls st h = ex_xs 1 (ex_ev d 185) (ex_cd d) [.iload 3, .aload 0, .getfield 384, .sipush 46, .iload 1, .iadd, .iaload, .if_icmp .ge 6, .iload 3, .sipush 1, .iadd, .istore 4, .goto_w 2] ls st h := ex_ev_eq d 185 1 ls st h
set_option maxRecDepth 20000 in
theorem ev_185_2 (d : Nat) (ls st : List ex_V) (h : ex_H) : ex_ev d 185 2 ls st h = ex_xs 1 (ex_ev d 185) (ex_cd d) [.iload 4, .aload 0, .getfield 384, .sipush 46, .iload 1, .iadd, .iaload, .if_icmp .ge 5, .iload 2, .aload 0, .getfield 384, .sipush 115, .aload 0, .iload 1, .iload 4, .invokevirtual 152, .iadd, .iaload, .aload 0, .getfield 384, .sipush 115, .aload 0, .iload 1, .iload 3, .invokevirtual 152, .iadd, .iaload, .if_icmp .le 3, .sipush 2, .goto 4] ls st h := ex_ev_eq d 185 2 ls st h
set_option maxRecDepth 20000 in
theorem ev_185_3 (d : Nat) (ls st : List ex_V) (h : ex_H) : ex_ev d 185 3 ls st h = ex_xs 1 (ex_ev d 185) (ex_cd d) [.sipush 0, .goto_w 4] ls st h := ex_ev_eq d 185 3 ls st h
set_option maxRecDepth 20000 in
theorem ev_185_4 (d : Nat) (ls st : List ex_V) (h : ex_H) : ex_ev d 185 4 ls st h = ex_xs 1 (ex_ev d 185) (ex_cd d) [.iadd, .istore 2, .iinc 4 1, .goto 2] ls st h := ex_ev_eq d 185 4 ls st h
set_option maxRecDepth 20000 in
theorem ev_185_5 (d : Nat) (ls st : List ex_V) (h : ex_H) : ex_ev d 185 5 ls st h = ex_xs 1 (ex_ev d 185) (ex_cd d) [.iinc 3 1, .goto 1] ls st h := ex_ev_eq d 185 5 ls st h
set_option maxRecDepth 20000 in
theorem ev_185_6 (d : Nat) (ls st : List ex_V) (h : ex_H) : ex_ev d 185 6 ls st h = ex_xs 1 (ex_ev d 185) (ex_cd d) [.iload 2, .ireturn] ls st h := ex_ev_eq d 185 6 ls st h
set_option maxRecDepth 20000 in
theorem ev_186_0 (d : Nat) (ls st : List ex_V) (h : ex_H) : ex_ev d 186 0 ls st h = ex_xs 1 (ex_ev d 186) (ex_cd d) [.iload 1, .sipush (-1), .if_icmp .eq 1, .aload 0, .iload 1, .invokevirtual 144, .ifCond .ne 1, .aload 0, .sipush (-100001), .invokevirtual 142, .ireturn] ls st h := ex_ev_eq d 186 0 ls st h
set_option maxRecDepth 20000 in
theorem ev_186_1 (d : Nat) (ls st : List ex_V) (h : ex_H) : ex_ev d 186 1 ls st h = ex_xs 1 (ex_ev d 186) (ex_cd d) [.sipush 0, .istore 2, .sipush 0, .istore 3, .goto_w 2] ls st h := ex_ev_eq d 186 1 ls st h
set_option maxRecDepth 20000 in
theorem ev_186_2 (d : Nat) (ls st : List ex_V) (h : ex_H) : ex_ev d 186 2 ls st h = ex_xs 1 (ex_ev d 186) (ex_cd d) [.iload 3, .aload 0, .getfield 384, .sipush 0, .iaload, .if_icmp .ge 6, .iload 2, .iload 1, .sipush (-1), .if_icmp .eq 3, .iload 1, .iload 3, .if_icmp .ne 4, .goto_w 3] ls st h := ex_ev_eq d 186 2 ls st h
set_option maxRecDepth 20000 in
theorem ev_186_3 (d : Nat) (ls st : List ex_V) (h : ex_H) : ex_ev d 186 3 ls st h = ex_xs 1 (ex_ev d 186) (ex_cd d) [.aload 0, .iload 3, .invokevirtual 185, .goto 5] ls st h := ex_ev_eq d 186 3 ls st h
set_option maxRecDepth 20000 in
theorem ev_186_4 (d : Nat) (ls st : List ex_V) (h : ex_H) : ex_ev d 186 4 ls st h = ex_xs 1 (ex_ev d 186) (ex_cd d) [.sipush 0, .goto_w 5] ls st h := ex_ev_eq d 186 4 ls st h
set_option maxRecDepth 20000 in
theorem ev_186_5 (d : Nat) (ls st : List ex_V) (h : ex_H) : ex_ev d 186 5 ls st h = ex_xs 1 (ex_ev d 186) (ex_cd d) [.iadd, .istore 2, .iinc 3 1, .goto 2] ls st h := ex_ev_eq d 186 5 ls st h
set_option maxRecDepth 20000 in
theorem ev_186_6 (d : Nat) (ls st : List ex_V) (h : ex_H) : ex_ev d 186 6 ls st h = ex_xs 1 (ex_ev d 186) (ex_cd d) [.iload 2, .ireturn] ls st h := ex_ev_eq d 186 6 ls st h
set_option maxRecDepth 20000 in
theorem ev_187_0 (d : Nat) (ls st : List ex_V) (h : ex_H) : ex_ev d 187 0 ls st h = ex_xs 1 (ex_ev d 187) (ex_cd d) [.sipush 0, .istore 2, .goto_w 1] ls st h := ex_ev_eq d 187 0 ls st h
set_option maxRecDepth 20000 in
theorem ev_187_1 (d : Nat) (ls st : List ex_V) (h : ex_H) : ex_ev d 187 1 ls st h = ex_xs 1 (ex_ev d 187) (ex_cd d) [.iload 2, .aload 0, .getfield 384, .sipush 7, .iaload, .if_icmp .ge 3, .aload 0, .getfield 384, .sipush 139, .iload 2, .iadd, .iaload, .iload 1, .if_icmp .ne 2, .iload 2, .ireturn] ls st h := ex_ev_eq d 187 1 ls st h
set_option maxRecDepth 20000 in
theorem ev_187_2 (d : Nat) (ls st : List ex_V) (h : ex_H) : ex_ev d 187 2 ls st h = ex_xs 1 (ex_ev d 187) (ex_cd d) [.iinc 2 1, .goto 1] ls st h := ex_ev_eq d 187 2 ls st h
set_option maxRecDepth 20000 in
theorem ev_187_3 (d : Nat) (ls st : List ex_V) (h : ex_H) : ex_ev d 187 3 ls st h = ex_xs 1 (ex_ev d 187) (ex_cd d) [.sipush (-1), .ireturn] ls st h := ex_ev_eq d 187 3 ls st h
set_option maxRecDepth 20000 in
theorem ev_188_0 (d : Nat) (ls st : List ex_V) (h : ex_H) : ex_ev d 188 0 ls st h = ex_xs 1 (ex_ev d 188) (ex_cd d) [.aload 0, .iload 1, .invokevirtual 145, .ifCond .ne 1, .aload 0, .sipush (-100001), .invokevirtual 142, .ireturn] ls st h := ex_ev_eq d 188 0 ls st h
set_option maxRecDepth 20000 in
theorem ev_188_1 (d : Nat) (ls st : List ex_V) (h : ex_H) : ex_ev d 188 1 ls st h = ex_xs 1 (ex_ev d 188) (ex_cd d) [.aload 0, .iload 1, .invokevirtual 187, .ifCond .lt 2, .aload 0, .sipush (-100007), .invokevirtual 142, .ireturn] ls st h := ex_ev_eq d 188 1 ls st h
set_option maxRecDepth 20000 in
theorem ev_188_2 (d : Nat) (ls st : List ex_V) (h : ex_H) : ex_ev d 188 2 ls st h = ex_xs 1 (ex_ev d 188) (ex_cd d) [.aload 0, .getfield 384, .sipush 7, .iaload, .sipush 7, .if_icmp .ne 3, .aload 0, .sipush (-100005), .invokevirtual 142, .ireturn] ls st h := ex_ev_eq d 188 2 ls st h
set_option maxRecDepth 20000 in
theorem ev_188_3 (d : Nat) (ls st : List ex_V) (h : ex_H) : ex_ev d 188 3 ls st h = ex_xs 1 (ex_ev d 188) (ex_cd d) [.aload 0, .invokevirtual 147, .aload 0, .getfield 384, .sipush 139, .aload 0, .getfield 384, .sipush 7, .iaload, .iadd, .iload 1, .iastore, .aload 0, .getfield 384, .sipush 7, .dup2, .iaload, .sipush 1, .iadd, .iastore, .aload 0, .getfield 384, .sipush 7, .iaload, .ireturn] ls st h := ex_ev_eq d 188 3 ls st h
set_option maxRecDepth 20000 in
theorem ev_189_0 (d : Nat) (ls st : List ex_V) (h : ex_H) : ex_ev d 189 0 ls st h = ex_xs 1 (ex_ev d 189) (ex_cd d) [.aload 0, .invokevirtual 147, .aload 0, .getfield 384, .sipush 7, .iaload, .istore 1, .aload 0, .getfield 384, .sipush 7, .sipush 0, .iastore, .iload 1, .ireturn] ls st h := ex_ev_eq d 189 0 ls st h
set_option maxRecDepth 20000 in
theorem ev_190_0 (d : Nat) (ls st : List ex_V) (h : ex_H) : ex_ev d 190 0 ls st h = ex_xs 1 (ex_ev d 190) (ex_cd d) [.aload 0, .getfield 384, .sipush 139, .iload 1, .iadd, .iaload, .istore 3, .aload 0, .getfield 384, .sipush 16, .iload 2, .iadd, .iaload, .aload 0, .getfield 384, .sipush 91, .iload 3, .iadd, .iaload, .isub, .istore 4, .sipush 0, .istore 5, .sipush 0, .istore 6, .goto_w 1] ls st h := ex_ev_eq d 190 0 ls st h
set_option maxRecDepth 20000 in
theorem ev_190_1 (d : Nat) (ls st : List ex_V) (h : ex_H) : ex_ev d 190 1 ls st h = ex_xs 1 (ex_ev d 190) (ex_cd d) [.iload 6, .iload 1, .if_icmp .ge 5, .aload 0, .getfield 384, .sipush 139, .iload 6, .iadd, .iaload, .istore 7, .aload 0, .getfield 393, .iload 6, .iaload, .iload 2, .if_icmp .ne 4, .iload 4, .aload 0, .getfield 384, .sipush 91, .iload 7, .iadd, .iaload, .isub, .istore 4, .iload 5, .aload 0, .getfield 384, .sipush 115, .iload 3, .iadd, .iaload, .aload 0, .getfield 384, .sipush 115, .iload 7, .iadd, .iaload, .if_icmp .le 2, .sipush 2, .goto 3] ls st h := ex_ev_eq d 190 1 ls st h
set_option maxRecDepth 20000 in
theorem ev_190_2 (d : Nat) (ls st : List ex_V) (h : ex_H) : ex_ev d 190 2 ls st h = ex_xs 1 (ex_ev d 190) (ex_cd d) [.sipush 0, .goto_w 3] ls st h := ex_ev_eq d 190 2 ls st h
set_option maxRecDepth 20000 in
theorem ev_190_3 (d : Nat) (ls st : List ex_V) (h : ex_H) : ex_ev d 190 3 ls st h = ex_xs 1 (ex_ev d 190) (ex_cd d) [.iadd, .istore 5, .goto_w 4] ls st h := ex_ev_eq d 190 3 ls st h
set_option maxRecDepth 20000 in
theorem ev_190_4 (d : Nat) (ls st : List ex_V) (h : ex_H) : ex_ev d 190 4 ls st h = ex_xs 1 (ex_ev d 190) (ex_cd d) [.iinc 6 1, .goto 1] ls st h := ex_ev_eq d 190 4 ls st h
set_option maxRecDepth 20000 in
theorem ev_190_5 (d : Nat) (ls st : List ex_V) (h : ex_H) : ex_ev d 190 5 ls st h = ex_xs 1 (ex_ev d 190) (ex_cd d) [.aload 0, .iload 3, .iload 2, .invokevirtual 162, .ifCond .eq 6, .iload 4, .ifCond .lt 6, .iload 5, .goto 7] ls st h := ex_ev_eq d 190 5 ls st h
set_option maxRecDepth 20000 in
theorem ev_190_6 (d : Nat) (ls st : List ex_V) (h : ex_H) : ex_ev d 190 6 ls st h = ex_xs 1 (ex_ev d 190) (ex_cd d) [.sipush (-1), .goto_w 7] ls st h := ex_ev_eq d 190 6 ls st h
set_option maxRecDepth 20000 in
theorem ev_190_7 (d : Nat) (ls st : List ex_V) (h : ex_H) : ex_ev d 190 7 ls st h = ex_xs 1 (ex_ev d 190) (ex_cd d) [.ireturn] ls st h := ex_ev_eq d 190 7 ls st h
set_option maxRecDepth 20000 in
theorem ev_191_0 (d : Nat) (ls st : List ex_V) (h : ex_H) : ex_ev d 191 0 ls st h = ex_xs 0 (ex_ev d 191) (ex_cd d) [.iload 1, .aload 0, .getfield 384, .sipush 7, .iaload, .if_icmp .ne 3, .aload 0, .iload 2, .putfield 395, .sipush 0, .istore 3, .goto_w 1] ls st h := ex_ev_eq d 191 0 ls st h
set_option maxRecDepth 20000 in
theorem ev_191_1 (d : Nat) (ls st : List ex_V) (h : ex_H) : ex_ev d 191 1 ls st h = ex_xs 0 (ex_ev d 191) (ex_cd d) [.iload 3, .iload 1, .if_icmp .ge 2, .aload 0, .getfield 394, .iload 3, .aload 0, .getfield 393, .iload 3, .iaload, .iastore, .iinc 3 1, .goto 1] ls st h := ex_ev_eq d 191 1 ls st h
set_option maxRecDepth 20000 in
theorem ev_191_2 (d : Nat) (ls st : List ex_V) (h : ex_H) : ex_ev d 191 2 ls st h = ex_xs 0 (ex_ev d 191) (ex_cd d) [.return_] ls st h := ex_ev_eq d 191 2 ls st h
set_option maxRecDepth 20000 in
theorem ev_191_3 (d : Nat) (ls st : List ex_V) (h : ex_H) : ex_ev d 191 3 ls st h = ex_xs 0 (ex_ev d 191) (ex_cd d) [.sipush 0, .istore 3, .goto_w 4] ls st h := ex_ev_eq d 191 3 ls st h
set_option maxRecDepth 20000 in
theorem ev_191_4 (d : Nat) (ls st : List ex_V) (h : ex_H) : ex_ev d 191 4 ls st h = ex_xs 0 (ex_ev d 191) (ex_cd d) [.iload 3, .aload 0, .getfield 384, .sipush 0, .iaload, .if_icmp .ge 7, .aload 0, .iload 1, .iload 3, .invokevirtual 190, .istore 4, .iload 4, .ifCond .lt 6, .aload 0, .getfield 395, .ifCond .lt 5, .iload 2, .iload 4, .iadd, .aload 0, .getfield 395, .if_icmp .ge 6, .goto_w 5] ls st h := ex_ev_eq d 191 4 ls st h
set_option maxRecDepth 20000 in
theorem ev_191_5 (d : Nat) (ls st : List ex_V) (h : ex_H) : ex_ev d 191 5 ls st h = ex_xs 0 (ex_ev d 191) (ex_cd d) [.aload 0, .getfield 393, .iload 1, .iload 3, .iastore, .aload 0, .iload 1, .sipush 1, .iadd, .iload 2, .iload 4, .iadd, .invokevirtual 191, .goto_w 6] ls st h := ex_ev_eq d 191 5 ls st h
set_option maxRecDepth 20000 in
theorem ev_191_6 (d : Nat) (ls st : List ex_V) (h : ex_H) : ex_ev d 191 6 ls st h = ex_xs 0 (ex_ev d 191) (ex_cd d) [.iinc 3 1, .goto 4] ls st h := ex_ev_eq d 191 6 ls st h
set_option maxRecDepth 20000 in
theorem ev_191_7 (d : Nat) (ls st : List ex_V) (h : ex_H) : ex_ev d 191 7 ls st h = ex_xs 0 (ex_ev d 191) (ex_cd d) [.return_] ls st h := ex_ev_eq d 191 7 ls st h
set_option maxRecDepth 20000 in
theorem ev_192_0 (d : Nat) (ls st : List ex_V) (h : ex_H) : ex_ev d 192 0 ls st h = ex_xs 0 (ex_ev d 192) (ex_cd d) [.aload 0, .sipush (-1), .putfield 395, .aload 0, .sipush 0, .sipush 0, .invokevirtual 191, .return_] ls st h := ex_ev_eq d 192 0 ls st h
set_option maxRecDepth 20000 in
theorem ev_193_0 (d : Nat) (ls st : List ex_V) (h : ex_H) : ex_ev d 193 0 ls st h = ex_xs 1 (ex_ev d 193) (ex_cd d) [.aload 0, .invokevirtual 192, .aload 0, .getfield 395, .ifCond .ge 1, .aload 0, .sipush (-100006), .invokevirtual 142, .goto 2] ls st h := ex_ev_eq d 193 0 ls st h
set_option maxRecDepth 20000 in
theorem ev_193_1 (d : Nat) (ls st : List ex_V) (h : ex_H) : ex_ev d 193 1 ls st h = ex_xs 1 (ex_ev d 193) (ex_cd d) [.aload 0, .getfield 395, .goto_w 2] ls st h := ex_ev_eq d 193 1 ls st h
set_option maxRecDepth 20000 in
theorem ev_193_2 (d : Nat) (ls st : List ex_V) (h : ex_H) : ex_ev d 193 2 ls st h = ex_xs 1 (ex_ev d 193) (ex_cd d) [.ireturn] ls st h := ex_ev_eq d 193 2 ls st h
set_option maxRecDepth 20000 in
theorem ev_194_0 (d : Nat) (ls st : List ex_V) (h : ex_H) : ex_ev d 194 0 ls st h = ex_xs 1 (ex_ev d 194) (ex_cd d) [.aload 0, .iload 1, .invokevirtual 145, .ifCond .ne 1, .aload 0, .sipush (-100001), .invokevirtual 142, .ireturn] ls st h := ex_ev_eq d 194 0 ls st h
set_option maxRecDepth 20000 in
theorem ev_194_1 (d : Nat) (ls st : List ex_V) (h : ex_H) : ex_ev d 194 1 ls st h = ex_xs 1 (ex_ev d 194) (ex_cd d) [.aload 0, .invokevirtual 192, .aload 0, .iload 1, .invokevirtual 187, .istore 2, .aload 0, .getfield 395, .ifCond .lt 2, .iload 2, .ifCond .ge 3, .goto_w 2] ls st h := ex_ev_eq d 194 1 ls st h
set_option maxRecDepth 20000 in
theorem ev_194_2 (d : Nat) (ls st : List ex_V) (h : ex_H) : ex_ev d 194 2 ls st h = ex_xs 1 (ex_ev d 194) (ex_cd d) [.aload 0, .sipush (-100006), .invokevirtual 142, .goto 4] ls st h := ex_ev_eq d 194 2 ls st h
set_option maxRecDepth 20000 in
theorem ev_194_3 (d : Nat) (ls st : List ex_V) (h : ex_H) : ex_ev d 194 3 ls st h = ex_xs 1 (ex_ev d 194) (ex_cd d) [.aload 0, .getfield 394, .iload 2, .iaload, .goto_w 4] ls st h := ex_ev_eq d 194 3 ls st h
set_option maxRecDepth 20000 in
theorem ev_194_4 (d : Nat) (ls st : List ex_V) (h : ex_H) : ex_ev d 194 4 ls st h = ex_xs 1 (ex_ev d 194) (ex_cd d) [.ireturn] ls st h := ex_ev_eq d 194 4 ls st h
set_option maxRecDepth 20000 in
theorem ev_195_0 (d : Nat) (ls st : List ex_V) (h : ex_H) : ex_ev d 195 0 ls st h = ex_xs 1 (ex_ev d 195) (ex_cd d) [.iload 1, .sipush 0, .sipush 3, .invokestatic 143, .ifCond .ne 1, .aload 0, .sipush (-100001), .invokevirtual 142, .ireturn] ls st h := ex_ev_eq d 195 0 ls st h
set_option maxRecDepth 20000 in
theorem ev_195_1 (d : Nat) (ls st : List ex_V) (h : ex_H) : ex_ev d 195 1 ls st h = ex_xs 1 (ex_ev d 195) (ex_cd d) [.aload 0, .invokevirtual 147, .aload 0, .getfield 384, .sipush 3, .iaload, .istore 2, .aload 0, .getfield 384, .sipush 3, .iload 1, .iastore, .iload 2, .ireturn] ls st h := ex_ev_eq d 195 1 ls st h
set_option maxRecDepth 20000 in
theorem ev_196_0 (d : Nat) (ls st : List ex_V) (h : ex_H) : ex_ev d 196 0 ls st h = ex_xs 0 (ex_ev d 196) (ex_cd d) [.sipush 0, .istore 2, .goto_w 1] ls st h := ex_ev_eq d 196 0 ls st h
set_option maxRecDepth 20000 in
theorem ev_196_1 (d : Nat) (ls st : List ex_V) (h : ex_H) : ex_ev d 196 1 ls st h = ex_xs 0 (ex_ev d 196) (ex_cd d) [.iload 2, .sipush 8, .if_icmp .ge 4, .aload 0, .getfield 396, .iload 2, .iload 1, .iload 2, .ishr, .sipush 1, .iand, .sipush 1, .if_icmp .ne 2, .aload 0, .getfield 384, .sipush 123, .iload 2, .iadd, .iaload, .goto 3] ls st h := ex_ev_eq d 196 1 ls st h
set_option maxRecDepth 20000 in
theorem ev_196_2 (d : Nat) (ls st : List ex_V) (h : ex_H) : ex_ev d 196 2 ls st h = ex_xs 0 (ex_ev d 196) (ex_cd d) [.sipush 0, .goto_w 3] ls st h := ex_ev_eq d 196 2 ls st h
set_option maxRecDepth 20000 in
theorem ev_196_3 (d : Nat) (ls st : List ex_V) (h : ex_H) : ex_ev d 196 3 ls st h = ex_xs 0 (ex_ev d 196) (ex_cd d) [.iastore, .iinc 2 1, .goto 1] ls st h := ex_ev_eq d 196 3 ls st h
set_option maxRecDepth 20000 in
theorem ev_196_4 (d : Nat) (ls st : List ex_V) (h : ex_H) : ex_ev d 196 4 ls st h = ex_xs 0 (ex_ev d 196) (ex_cd d) [.return_] ls st h := ex_ev_eq d 196 4 ls st h
set_option maxRecDepth 20000 in
theorem ev_197_0 (d : Nat) (ls st : List ex_V) (h : ex_H) : ex_ev d 197 0 ls st h = ex_xs 1 (ex_ev d 197) (ex_cd d) [.sipush 0, .istore 2, .sipush 0, .istore 3, .goto_w 1] ls st h := ex_ev_eq d 197 0 ls st h
set_option maxRecDepth 20000 in
theorem ev_197_1 (d : Nat) (ls st : List ex_V) (h : ex_H) : ex_ev d 197 1 ls st h = ex_xs 1 (ex_ev d 197) (ex_cd d) [.iload 3, .aload 0, .getfield 384, .sipush 3, .iaload, .if_icmp .ge 15, .sipush (-1), .istore 4, .sipush 0, .istore 5, .goto_w 2] ls st h := ex_ev_eq d 197 1 ls st h
set_option maxRecDepth 20000 in
theorem ev_197_2 (d : Nat) (ls st : List ex_V) (h : ex_H) : ex_ev d 197 2 ls st h = ex_xs 1 (ex_ev d 197) (ex_cd d) [.iload 5, .sipush 8, .if_icmp .ge 8, .iload 2, .iload 5, .ishr, .sipush 1, .iand, .ifCond .ne 3, .aload 0, .getfield 396, .iload 5, .iaload, .ifCond .le 3, .aload 0, .getfield 384, .sipush 115, .iload 5, .iadd, .iaload, .iload 1, .if_icmp .le 3, .sipush 1, .goto 4] ls st h := ex_ev_eq d 197 2 ls st h
set_option maxRecDepth 20000 in
theorem ev_197_3 (d : Nat) (ls st : List ex_V) (h : ex_H) : ex_ev d 197 3 ls st h = ex_xs 1 (ex_ev d 197) (ex_cd d) [.sipush 0, .goto_w 4] ls st h := ex_ev_eq d 197 3 ls st h
set_option maxRecDepth 20000 in
theorem ev_197_4 (d : Nat) (ls st : List ex_V) (h : ex_H) : ex_ev d 197 4 ls st h = ex_xs 1 (ex_ev d 197) (ex_cd d) [.istore 6, .iload 6, .ifCond .eq 6, .iload 4, .ifCond .lt 5, .aload 0, .getfield 396, .iload 5, .iaload, .aload 0, .getfield 396, .iload 4, .iaload, .if_icmp .le 6, .goto_w 5] ls st h := ex_ev_eq d 197 4 ls st h
set_option maxRecDepth 20000 in
theorem ev_197_5 (d : Nat) (ls st : List ex_V) (h : ex_H) : ex_ev d 197 5 ls st h = ex_xs 1 (ex_ev d 197) (ex_cd d) [.iload 5, .goto 7] ls st h := ex_ev_eq d 197 5 ls st h
set_option maxRecDepth 20000 in
theorem ev_197_6 (d : Nat) (ls st : List ex_V) (h : ex_H) : ex_ev d 197 6 ls st h = ex_xs 1 (ex_ev d 197) (ex_cd d) [.iload 4, .goto_w 7] ls st h := ex_ev_eq d 197 6 ls st h
set_option maxRecDepth 20000 in
theorem ev_197_7 (d : Nat) (ls st : List ex_V) (h : ex_H) : ex_ev d 197 7 ls st h = ex_xs 1 (ex_ev d 197) (ex_cd d) [.istore 4, .iinc 5 1, .goto 2] ls st h := ex_ev_eq d 197 7 ls st h
set_option maxRecDepth 20000 in
theorem ev_197_8 (d : Nat) (ls st : List ex_V) (h : ex_H) : ex_ev d 197 8 ls st h = ex_xs 1 (ex_ev d 197) (ex_cd d) [.iload 2, .iload 4, .ifCond .lt 9, .sipush 1, .iload 4, .ishl, .goto 10] ls st h := ex_ev_eq d 197 8 ls st h
set_option maxRecDepth 20000 in
theorem ev_197_9 (d : Nat) (ls st : List ex_V) (h : ex_H) : ex_ev d 197 9 ls st h = ex_xs 1 (ex_ev d 197) (ex_cd d) [.sipush 0, .goto_w 10] ls st h := ex_ev_eq d 197 9 ls st h
set_option maxRecDepth 20000 in
theorem ev_197_10 (d : Nat) (ls st : List ex_V) (h : ex_H) : ex_ev d 197 10 ls st h = ex_xs 1 (ex_ev d 197) (ex_cd d) [.ior, .istore 2, .sipush 0, .istore 5, .goto_w 11] ls st h := ex_ev_eq d 197 10 ls st h
set_option maxRecDepth 20000 in
theorem ev_197_11 (d : Nat) (ls st : List ex_V) (h : ex_H) : ex_ev d 197 11 ls st h = ex_xs 1 (ex_ev d 197) (ex_cd d) [.iload 5, .sipush 8, .if_icmp .ge 14, .aload 0, .getfield 396, .iload 5, .dup2, .iaload, .iload 5, .iload 4, .if_icmp .ne 12, .sipush 1, .goto 13] ls st h := ex_ev_eq d 197 11 ls st h
set_option maxRecDepth 20000 in
theorem ev_197_12 (d : Nat) (ls st : List ex_V) (h : ex_H) : ex_ev d 197 12 ls st h = ex_xs 1 (ex_ev d 197) (ex_cd d) [.sipush 0, .goto_w 13] ls st h := ex_ev_eq d 197 12 ls st h
set_option maxRecDepth 20000 in
theorem ev_197_13 (d : Nat) (ls st : List ex_V) (h : ex_H) : ex_ev d 197 13 ls st h = ex_xs 1 (ex_ev d 197) (ex_cd d) [.isub, .iastore, .iinc 5 1, .goto 11] ls st h := ex_ev_eq d 197 13 ls st h
set_option maxRecDepth 20000 in
theorem ev_197_14 (d : Nat) (ls st : List ex_V) (h : ex_H) : ex_ev d 197 14 ls st h = ex_xs 1 (ex_ev d 197) (ex_cd d) [.iinc 3 1, .goto 1] ls st h := ex_ev_eq d 197 14 ls st h
set_option maxRecDepth 20000 in
theorem ev_197_15 (d : Nat) (ls st : List ex_V) (h : ex_H) : ex_ev d 197 15 ls st h = ex_xs 1 (ex_ev d 197) (ex_cd d) [.iload 2, .ireturn] ls st h := ex_ev_eq d 197 15 ls st h
set_option maxRecDepth 20000 in
theorem ev_198_0 (d : Nat) (ls st : List ex_V) (h : ex_H) : ex_ev d 198 0 ls st h = ex_xs 2 (ex_ev d 198) (ex_cd d) [.aload 0, .iload 1, .invokevirtual 196, .sipush 23, .istore 2, .goto_w 1] ls st h := ex_ev_eq d 198 0 ls st h
set_option maxRecDepth 20000 in
theorem ev_198_1 (d : Nat) (ls st : List ex_V) (h : ex_H) : ex_ev d 198 1 ls st h = ex_xs 2 (ex_ev d 198) (ex_cd d) [.iload 2, .ifCond .lt 2, .aload 0, .iload 2, .invokevirtual 197, .istore 3, .iinc 2 (-1), .goto 1] ls st h := ex_ev_eq d 198 1 ls st h
set_option maxRecDepth 20000 in
theorem ev_198_2 (d : Nat) (ls st : List ex_V) (h : ex_H) : ex_ev d 198 2 ls st h = ex_xs 2 (ex_ev d 198) (ex_cd d) [.sipush 0, .istore 2, .sipush 0, .istore 3, .goto_w 3] ls st h := ex_ev_eq d 198 2 ls st h
set_option maxRecDepth 20000 in
theorem ev_198_3 (d : Nat) (ls st : List ex_V) (h : ex_H) : ex_ev d 198 3 ls st h = ex_xs 2 (ex_ev d 198) (ex_cd d) [.iload 3, .sipush 8, .if_icmp .ge 4, .iload 2, .aload 0, .getfield 396, .iload 3, .iaload, .iadd, .istore 2, .iinc 3 1, .goto 3] ls st h := ex_ev_eq d 198 3 ls st h
set_option maxRecDepth 20000 in
theorem ev_198_4 (d : Nat) (ls st : List ex_V) (h : ex_H) : ex_ev d 198 4 ls st h = ex_xs 2 (ex_ev d 198) (ex_cd d) [.iload 2, .ifCond .ne 5, .sipush 1, .goto 6] ls st h := ex_ev_eq d 198 4 ls st h
set_option maxRecDepth 20000 in
theorem ev_198_5 (d : Nat) (ls st : List ex_V) (h : ex_H) : ex_ev d 198 5 ls st h = ex_xs 2 (ex_ev d 198) (ex_cd d) [.sipush 0, .goto_w 6] ls st h := ex_ev_eq d 198 5 ls st h
set_option maxRecDepth 20000 in
theorem ev_198_6 (d : Nat) (ls st : List ex_V) (h : ex_H) : ex_ev d 198 6 ls st h = ex_xs 2 (ex_ev d 198) (ex_cd d) [.ireturn] ls st h := ex_ev_eq d 198 6 ls st h
set_option maxRecDepth 20000 in
theorem ev_199_0 (d : Nat) (ls st : List ex_V) (h : ex_H) : ex_ev d 199 0 ls st h = ex_xs 1 (ex_ev d 199) (ex_cd d) [.sipush 0, .istore 1, .sipush 0, .istore 2, .goto_w 1] ls st h := ex_ev_eq d 199 0 ls st h
set_option maxRecDepth 20000 in
theorem ev_199_1 (d : Nat) (ls st : List ex_V) (h : ex_H) : ex_ev d 199 1 ls st h = ex_xs 1 (ex_ev d 199) (ex_cd d) [.iload 2, .sipush 8, .if_icmp .ge 2, .iload 1, .iload 0, .iload 2, .ishr, .sipush 1, .iand, .iadd, .istore 1, .iinc 2 1, .goto 1] ls st h := ex_ev_eq d 199 1 ls st h
set_option maxRecDepth 20000 in
theorem ev_199_2 (d : Nat) (ls st : List ex_V) (h : ex_H) : ex_ev d 199 2 ls st h = ex_xs 1 (ex_ev d 199) (ex_cd d) [.iload 1, .ireturn] ls st h := ex_ev_eq d 199 2 ls st h
set_option maxRecDepth 20000 in
theorem ev_200_0 (d : Nat) (ls st : List ex_V) (h : ex_H) : ex_ev d 200 0 ls st h = ex_xs 1 (ex_ev d 200) (ex_cd d) [.sipush 0, .istore 1, .sipush 0, .istore 2, .goto_w 1] ls st h := ex_ev_eq d 200 0 ls st h
set_option maxRecDepth 20000 in
theorem ev_200_1 (d : Nat) (ls st : List ex_V) (h : ex_H) : ex_ev d 200 1 ls st h = ex_xs 1 (ex_ev d 200) (ex_cd d) [.iload 2, .aload 0, .getfield 384, .sipush 1, .iaload, .if_icmp .ge 4, .iload 1, .aload 0, .getfield 384, .sipush 123, .iload 2, .iadd, .iaload, .ifCond .le 2, .aload 0, .iload 2, .invokevirtual 157, .ifCond .lt 2, .sipush 1, .iload 2, .ishl, .goto 3] ls st h := ex_ev_eq d 200 1 ls st h
set_option maxRecDepth 20000 in
theorem ev_200_2 (d : Nat) (ls st : List ex_V) (h : ex_H) : ex_ev d 200 2 ls st h = ex_xs 1 (ex_ev d 200) (ex_cd d) [.sipush 0, .goto_w 3] ls st h := ex_ev_eq d 200 2 ls st h
set_option maxRecDepth 20000 in
theorem ev_200_3 (d : Nat) (ls st : List ex_V) (h : ex_H) : ex_ev d 200 3 ls st h = ex_xs 1 (ex_ev d 200) (ex_cd d) [.ior, .istore 1, .iinc 2 1, .goto 1] ls st h := ex_ev_eq d 200 3 ls st h
set_option maxRecDepth 20000 in
theorem ev_200_4 (d : Nat) (ls st : List ex_V) (h : ex_H) : ex_ev d 200 4 ls st h = ex_xs 1 (ex_ev d 200) (ex_cd d) [.sipush 0, .istore 2, .sipush 1, .istore 3, .goto_w 5] ls st h := ex_ev_eq d 200 4 ls st h
set_option maxRecDepth 20000 in
theorem ev_200_5 (d : Nat) (ls st : List ex_V) (h : ex_H) : ex_ev d 200 5 ls st h = ex_xs 1 (ex_ev d 200) (ex_cd d) [.iload 3, .iload 1, .if_icmp .gt 7, .iload 3, .iload 1, .sipush (-1), .ixor, .iand, .ifCond .ne 6, .iload 3, .invokestatic 199, .iload 2, .invokestatic 199, .if_icmp .le 6, .aload 0, .iload 3, .invokevirtual 198, .ifCond .eq 6, .iload 3, .istore 2, .goto_w 6] ls st h := ex_ev_eq d 200 5 ls st h
set_option maxRecDepth 20000 in
theorem ev_200_6 (d : Nat) (ls st : List ex_V) (h : ex_H) : ex_ev d 200 6 ls st h = ex_xs 1 (ex_ev d 200) (ex_cd d) [.iinc 3 1, .goto 5] ls st h := ex_ev_eq d 200 6 ls st h
set_option maxRecDepth 20000 in
theorem ev_200_7 (d : Nat) (ls st : List ex_V) (h : ex_H) : ex_ev d 200 7 ls st h = ex_xs 1 (ex_ev d 200) (ex_cd d) [.iload 2, .ireturn] ls st h := ex_ev_eq d 200 7 ls st h
set_option maxRecDepth 20000 in
theorem ev_201_0 (d : Nat) (ls st : List ex_V) (h : ex_H) : ex_ev d 201 0 ls st h = ex_xs 1 (ex_ev d 201) (ex_cd d) [.aload 0, .invokevirtual 200, .ireturn] ls st h := ex_ev_eq d 201 0 ls st h
set_option maxRecDepth 20000 in
theorem ev_202_0 (d : Nat) (ls st : List ex_V) (h : ex_H) : ex_ev d 202 0 ls st h = ex_xs 1 (ex_ev d 202) (ex_cd d) [.iload 1, .invokestatic 146, .ifCond .ne 1, .aload 0, .sipush (-100001), .invokevirtual 142, .ireturn] ls st h := ex_ev_eq d 202 0 ls st h
set_option maxRecDepth 20000 in
theorem ev_202_1 (d : Nat) (ls st : List ex_V) (h : ex_H) : ex_ev d 202 1 ls st h = ex_xs 1 (ex_ev d 202) (ex_cd d) [.aload 0, .aload 0, .invokevirtual 200, .invokevirtual 196, .sipush 0, .istore 2, .sipush 23, .istore 3, .goto_w 2] ls st h := ex_ev_eq d 202 1 ls st h
set_option maxRecDepth 20000 in
theorem ev_202_2 (d : Nat) (ls st : List ex_V) (h : ex_H) : ex_ev d 202 2 ls st h = ex_xs 1 (ex_ev d 202) (ex_cd d) [.iload 3, .iload 1, .if_icmp .lt 3, .aload 0, .iload 3, .invokevirtual 197, .istore 2, .iinc 3 (-1), .goto 2] ls st h := ex_ev_eq d 202 2 ls st h
set_option maxRecDepth 20000 in
theorem ev_202_3 (d : Nat) (ls st : List ex_V) (h : ex_H) : ex_ev d 202 3 ls st h = ex_xs 1 (ex_ev d 202) (ex_cd d) [.iload 2, .ireturn] ls st h := ex_ev_eq d 202 3 ls st h
set_option maxRecDepth 20000 in
theorem ev_203_0 (d : Nat) (ls st : List ex_V) (h : ex_H) : ex_ev d 203 0 ls st h = ex_xs 1 (ex_ev d 203) (ex_cd d) [.iload 1, .sipush 0, .sipush 4, .invokestatic 143, .ifCond .eq 1, .iload 2, .sipush 0, .sipush 4, .invokestatic 143, .ifCond .eq 1, .iload 3, .sipush 0, .sipush 999, .invokestatic 143, .ifCond .ne 2, .goto_w 1] ls st h := ex_ev_eq d 203 0 ls st h
set_option maxRecDepth 20000 in
theorem ev_203_1 (d : Nat) (ls st : List ex_V) (h : ex_H) : ex_ev d 203 1 ls st h = ex_xs 1 (ex_ev d 203) (ex_cd d) [.aload 0, .sipush (-100001), .invokevirtual 142, .ireturn] ls st h := ex_ev_eq d 203 1 ls st h
set_option maxRecDepth 20000 in
theorem ev_203_2 (d : Nat) (ls st : List ex_V) (h : ex_H) : ex_ev d 203 2 ls st h = ex_xs 1 (ex_ev d 203) (ex_cd d) [.aload 0, .invokevirtual 147, .aload 0, .getfield 384, .sipush 146, .sipush 5, .iload 1, .imul, .iadd, .iload 2, .iadd, .iaload, .istore 4, .aload 0, .getfield 384, .sipush 146, .sipush 5, .iload 1, .imul, .iadd, .iload 2, .iadd, .iload 3, .iastore, .iload 4, .ireturn] ls st h := ex_ev_eq d 203 2 ls st h
set_option maxRecDepth 20000 in
theorem ev_204_0 (d : Nat) (ls st : List ex_V) (h : ex_H) : ex_ev d 204 0 ls st h = ex_xs 1 (ex_ev d 204) (ex_cd d) [.iload 1, .sipush 5, .if_icmp .ne 1, .sipush 0, .ireturn] ls st h := ex_ev_eq d 204 0 ls st h
set_option maxRecDepth 20000 in
theorem ev_204_1 (d : Nat) (ls st : List ex_V) (h : ex_H) : ex_ev d 204 1 ls st h = ex_xs 1 (ex_ev d 204) (ex_cd d) [.iload 1, .iload 3, .if_icmp .ne 2, .aload 0, .iload 1, .sipush 1, .iadd, .iload 2, .iload 3, .invokevirtual 204, .ireturn] ls st h := ex_ev_eq d 204 1 ls st h
set_option maxRecDepth 20000 in
theorem ev_204_2 (d : Nat) (ls st : List ex_V) (h : ex_H) : ex_ev d 204 2 ls st h = ex_xs 1 (ex_ev d 204) (ex_cd d) [.sipush (-1), .istore 4, .sipush 0, .istore 5, .goto_w 3] ls st h := ex_ev_eq d 204 2 ls st h
set_option maxRecDepth 20000 in
theorem ev_204_3 (d : Nat) (ls st : List ex_V) (h : ex_H) : ex_ev d 204 3 ls st h = ex_xs 1 (ex_ev d 204) (ex_cd d) [.iload 5, .sipush 5, .if_icmp .ge 5, .iload 2, .iload 5, .ishr, .sipush 1, .iand, .sipush 1, .if_icmp .ne 4, .iload 4, .aload 0, .getfield 384, .sipush 146, .sipush 5, .iload 1, .imul, .iadd, .iload 5, .iadd, .iaload, .aload 0, .iload 1, .sipush 1, .iadd, .iload 2, .sipush 1, .iload 5, .ishl, .sipush (-1), .ixor, .iand, .iload 3, .invokevirtual 204, .iadd, .invokestatic 236, .istore 4, .goto_w 4] ls st h := ex_ev_eq d 204 3 ls st h
set_option maxRecDepth 20000 in
theorem ev_204_4 (d : Nat) (ls st : List ex_V) (h : ex_H) : ex_ev d 204 4 ls st h = ex_xs 1 (ex_ev d 204) (ex_cd d) [.iinc 5 1, .goto 3] ls st h := ex_ev_eq d 204 4 ls st h
set_option maxRecDepth 20000 in
theorem ev_204_5 (d : Nat) (ls st : List ex_V) (h : ex_H) : ex_ev d 204 5 ls st h = ex_xs 1 (ex_ev d 204) (ex_cd d) [.iload 4, .ireturn] ls st h := ex_ev_eq d 204 5 ls st h
set_option maxRecDepth 20000 in
theorem ev_205_0 (d : Nat) (ls st : List ex_V) (h : ex_H) : ex_ev d 205 0 ls st h = ex_xs 1 (ex_ev d 205) (ex_cd d) [.sipush 31, .istore 1, .aload 0, .sipush 0, .iload 1, .sipush (-1), .invokevirtual 204, .istore 2, .iload 2, .istore 3, .sipush 0, .istore 4, .goto_w 1] ls st h := ex_ev_eq d 205 0 ls st h
set_option maxRecDepth 20000 in
theorem ev_205_1 (d : Nat) (ls st : List ex_V) (h : ex_H) : ex_ev d 205 1 ls st h = ex_xs 1 (ex_ev d 205) (ex_cd d) [.iload 4, .sipush 5, .if_icmp .ge 5, .sipush 0, .istore 5, .goto_w 2] ls st h := ex_ev_eq d 205 1 ls st h
set_option maxRecDepth 20000 in
theorem ev_205_2 (d : Nat) (ls st : List ex_V) (h : ex_H) : ex_ev d 205 2 ls st h = ex_xs 1 (ex_ev d 205) (ex_cd d) [.iload 1, .iload 5, .ishr, .sipush 1, .iand, .ifCond .eq 3, .aload 0, .getfield 384, .sipush 146, .sipush 5, .iload 4, .imul, .iadd, .iload 5, .iadd, .iaload, .aload 0, .iload 4, .sipush 1, .iadd, .iload 1, .sipush 1, .iload 5, .ishl, .sipush (-1), .ixor, .iand, .sipush (-1), .invokevirtual 204, .iadd, .iload 3, .if_icmp .eq 4, .goto_w 3] ls st h := ex_ev_eq d 205 2 ls st h
set_option maxRecDepth 20000 in
theorem ev_205_3 (d : Nat) (ls st : List ex_V) (h : ex_H) : ex_ev d 205 3 ls st h = ex_xs 1 (ex_ev d 205) (ex_cd d) [.iinc 5 1, .goto 2] ls st h := ex_ev_eq d 205 3 ls st h
set_option maxRecDepth 20000 in
theorem ev_205_4 (d : Nat) (ls st : List ex_V) (h : ex_H) : ex_ev d 205 4 ls st h = ex_xs 1 (ex_ev d 205) (ex_cd d) [.aload 0, .getfield 397, .iload 4, .iload 5, .iastore, .iload 1, .sipush 1, .iload 5, .ishl, .sipush (-1), .ixor, .iand, .istore 1, .iload 3, .aload 0, .getfield 384, .sipush 146, .sipush 5, .iload 4, .imul, .iadd, .iload 5, .iadd, .iaload, .isub, .istore 3, .iinc 4 1, .goto 1] ls st h := ex_ev_eq d 205 4 ls st h
set_option maxRecDepth 20000 in
theorem ev_205_5 (d : Nat) (ls st : List ex_V) (h : ex_H) : ex_ev d 205 5 ls st h = ex_xs 1 (ex_ev d 205) (ex_cd d) [.iload 2, .ireturn] ls st h := ex_ev_eq d 205 5 ls st h
set_option maxRecDepth 20000 in
theorem ev_206_0 (d : Nat) (ls st : List ex_V) (h : ex_H) : ex_ev d 206 0 ls st h = ex_xs 1 (ex_ev d 206) (ex_cd d) [.iload 1, .sipush 0, .sipush 4, .invokestatic 143, .ifCond .ne 1, .aload 0, .sipush (-100001), .invokevirtual 142, .ireturn] ls st h := ex_ev_eq d 206 0 ls st h
set_option maxRecDepth 20000 in
theorem ev_206_1 (d : Nat) (ls st : List ex_V) (h : ex_H) : ex_ev d 206 1 ls st h = ex_xs 1 (ex_ev d 206) (ex_cd d) [.aload 0, .invokevirtual 205, .istore 2, .aload 0, .getfield 397, .iload 1, .iaload, .ireturn] ls st h := ex_ev_eq d 206 1 ls st h
set_option maxRecDepth 20000 in
theorem ev_207_0 (d : Nat) (ls st : List ex_V) (h : ex_H) : ex_ev d 207 0 ls st h = ex_xs 1 (ex_ev d 207) (ex_cd d) [.iload 1, .sipush 0, .sipush 4, .invokestatic 143, .ifCond .ne 1, .aload 0, .sipush (-100001), .invokevirtual 142, .ireturn] ls st h := ex_ev_eq d 207 0 ls st h
set_option maxRecDepth 20000 in
theorem ev_207_1 (d : Nat) (ls st : List ex_V) (h : ex_H) : ex_ev d 207 1 ls st h = ex_xs 1 (ex_ev d 207) (ex_cd d) [.aload 0, .invokevirtual 205, .aload 0, .getfield 384, .sipush 146, .sipush 5, .iload 1, .imul, .iadd, .aload 0, .getfield 397, .iload 1, .iaload, .iadd, .iaload, .isub, .istore 2, .aload 0, .sipush 0, .sipush 31, .iload 1, .invokevirtual 204, .iload 2, .isub, .ireturn] ls st h := ex_ev_eq d 207 1 ls st h
set_option maxRecDepth 20000 in
theorem ev_208_0 (d : Nat) (ls st : List ex_V) (h : ex_H) : ex_ev d 208 0 ls st h = ex_xs 1 (ex_ev d 208) (ex_cd d) [.aload 0, .invokevirtual 205, .ireturn] ls st h := ex_ev_eq d 208 0 ls st h
set_option maxRecDepth 20000 in
theorem ev_209_0 (d : Nat) (ls st : List ex_V) (h : ex_H) : ex_ev d 209 0 ls st h = ex_xs 1 (ex_ev d 209) (ex_cd d) [.iload 1, .sipush 0, .sipush 3, .invokestatic 143, .ifCond .ne 1, .aload 0, .sipush (-100001), .invokevirtual 142, .ireturn] ls st h := ex_ev_eq d 209 0 ls st h
set_option maxRecDepth 20000 in
theorem ev_209_1 (d : Nat) (ls st : List ex_V) (h : ex_H) : ex_ev d 209 1 ls st h = ex_xs 1 (ex_ev d 209) (ex_cd d) [.aload 0, .invokevirtual 147, .aload 0, .getfield 384, .sipush 4, .iaload, .istore 2, .aload 0, .getfield 384, .sipush 4, .iload 1, .iastore, .iload 2, .ireturn] ls st h := ex_ev_eq d 209 1 ls st h
set_option maxRecDepth 20000 in
theorem ev_210_0 (d : Nat) (ls st : List ex_V) (h : ex_H) : ex_ev d 210 0 ls st h = ex_xs 1 (ex_ev d 210) (ex_cd d) [.aload 0, .iload 1, .invokevirtual 145, .ifCond .ne 1, .aload 0, .sipush (-100001), .invokevirtual 142, .ireturn] ls st h := ex_ev_eq d 210 0 ls st h
set_option maxRecDepth 20000 in
theorem ev_210_1 (d : Nat) (ls st : List ex_V) (h : ex_H) : ex_ev d 210 1 ls st h = ex_xs 1 (ex_ev d 210) (ex_cd d) [.aload 0, .invokevirtual 147, .aload 0, .sipush 64, .iload 1, .iadd, .iload 2, .ifCond .eq 2, .sipush 8, .goto 3] ls st h := ex_ev_eq d 210 1 ls st h
set_option maxRecDepth 20000 in
theorem ev_210_2 (d : Nat) (ls st : List ex_V) (h : ex_H) : ex_ev d 210 2 ls st h = ex_xs 1 (ex_ev d 210) (ex_cd d) [.sipush 0, .goto_w 3] ls st h := ex_ev_eq d 210 2 ls st h
set_option maxRecDepth 20000 in
theorem ev_210_3 (d : Nat) (ls st : List ex_V) (h : ex_H) : ex_ev d 210 3 ls st h = ex_xs 1 (ex_ev d 210) (ex_cd d) [.iadd, .invokevirtual 172, .aload 0, .getfield 384, .sipush 8, .iaload, .ireturn] ls st h := ex_ev_eq d 210 3 ls st h
set_option maxRecDepth 20000 in
theorem ev_211_0 (d : Nat) (ls st : List ex_V) (h : ex_H) : ex_ev d 211 0 ls st h = ex_xs 1 (ex_ev d 211) (ex_cd d) [.aload 0, .iload 1, .invokevirtual 145, .ifCond .eq 1, .iload 2, .sipush 0, .sipush 3, .invokestatic 143, .ifCond .eq 1, .iload 3, .sipush 0, .sipush 9999, .invokestatic 143, .ifCond .ne 2, .goto_w 1] ls st h := ex_ev_eq d 211 0 ls st h
set_option maxRecDepth 20000 in
theorem ev_211_1 (d : Nat) (ls st : List ex_V) (h : ex_H) : ex_ev d 211 1 ls st h = ex_xs 1 (ex_ev d 211) (ex_cd d) [.aload 0, .sipush (-100001), .invokevirtual 142, .ireturn] ls st h := ex_ev_eq d 211 1 ls st h
set_option maxRecDepth 20000 in
theorem ev_211_2 (d : Nat) (ls st : List ex_V) (h : ex_H) : ex_ev d 211 2 ls st h = ex_xs 1 (ex_ev d 211) (ex_cd d) [.sipush (-1), .istore 4, .sipush 0, .istore 5, .goto_w 3] ls st h := ex_ev_eq d 211 2 ls st h
set_option maxRecDepth 20000 in
theorem ev_211_3 (d : Nat) (ls st : List ex_V) (h : ex_H) : ex_ev d 211 3 ls st h = ex_xs 1 (ex_ev d 211) (ex_cd d) [.iload 5, .aload 0, .getfield 384, .sipush 8, .iaload, .if_icmp .ge 6, .aload 0, .getfield 384, .sipush 171, .iload 5, .iadd, .iaload, .sipush 64, .iload 1, .iadd, .if_icmp .ne 4, .iload 5, .goto 5] ls st h := ex_ev_eq d 211 3 ls st h
set_option maxRecDepth 20000 in
theorem ev_211_4 (d : Nat) (ls st : List ex_V) (h : ex_H) : ex_ev d 211 4 ls st h = ex_xs 1 (ex_ev d 211) (ex_cd d) [.iload 4, .goto_w 5] ls st h := ex_ev_eq d 211 4 ls st h
set_option maxRecDepth 20000 in
theorem ev_211_5 (d : Nat) (ls st : List ex_V) (h : ex_H) : ex_ev d 211 5 ls st h = ex_xs 1 (ex_ev d 211) (ex_cd d) [.istore 4, .iinc 5 1, .goto 3] ls st h := ex_ev_eq d 211 5 ls st h
set_option maxRecDepth 20000 in
theorem ev_211_6 (d : Nat) (ls st : List ex_V) (h : ex_H) : ex_ev d 211 6 ls st h = ex_xs 1 (ex_ev d 211) (ex_cd d) [.iload 4, .sipush 1, .iadd, .istore 5, .goto_w 7] ls st h := ex_ev_eq d 211 6 ls st h
set_option maxRecDepth 20000 in
theorem ev_211_7 (d : Nat) (ls st : List ex_V) (h : ex_H) : ex_ev d 211 7 ls st h = ex_xs 1 (ex_ev d 211) (ex_cd d) [.iload 4, .ifCond .lt 8, .iload 5, .aload 0, .getfield 384, .sipush 8, .iaload, .if_icmp .ge 8, .aload 0, .getfield 384, .sipush 171, .iload 5, .iadd, .iaload, .sipush 72, .iload 1, .iadd, .if_icmp .eq 8, .iinc 5 1, .goto 7] ls st h := ex_ev_eq d 211 7 ls st h
set_option maxRecDepth 20000 in
theorem ev_211_8 (d : Nat) (ls st : List ex_V) (h : ex_H) : ex_ev d 211 8 ls st h = ex_xs 1 (ex_ev d 211) (ex_cd d) [.iload 4, .ifCond .lt 9, .iload 5, .aload 0, .getfield 384, .sipush 8, .iaload, .if_icmp .ne 10, .goto_w 9] ls st h := ex_ev_eq d 211 8 ls st h
set_option maxRecDepth 20000 in
theorem ev_211_9 (d : Nat) (ls st : List ex_V) (h : ex_H) : ex_ev d 211 9 ls st h = ex_xs 1 (ex_ev d 211) (ex_cd d) [.aload 0, .sipush (-100006), .invokevirtual 142, .ireturn] ls st h := ex_ev_eq d 211 9 ls st h
set_option maxRecDepth 20000 in
theorem ev_211_10 (d : Nat) (ls st : List ex_V) (h : ex_H) : ex_ev d 211 10 ls st h = ex_xs 1 (ex_ev d 211) (ex_cd d) [.sipush 4, .newarray .int, .astore 6, .sipush 0, .istore 7, .iload 4, .istore 8, .goto_w 11] ls st h := ex_ev_eq d 211 10 ls st h
set_option maxRecDepth 20000 in
theorem ev_211_11 (d : Nat) (ls st : List ex_V) (h : ex_H) : ex_ev d 211 11 ls st h = ex_xs 1 (ex_ev d 211) (ex_cd d) [.iload 8, .iload 5, .if_icmp .ge 13, .aload 0, .getfield 384, .sipush 171, .iload 8, .iadd, .iaload, .istore 9, .iload 9, .sipush 64, .if_icmp .ge 12, .iload 9, .sipush 8, .irem, .iload 1, .if_icmp .ne 12, .aload 6, .iload 9, .sipush 8, .idiv, .dup2, .iaload, .sipush 1, .iadd, .iastore, .iinc 7 1, .goto_w 12] ls st h := ex_ev_eq d 211 11 ls st h
set_option maxRecDepth 20000 in
theorem ev_211_12 (d : Nat) (ls st : List ex_V) (h : ex_H) : ex_ev d 211 12 ls st h = ex_xs 1 (ex_ev d 211) (ex_cd d) [.iinc 8 1, .goto 11] ls st h := ex_ev_eq d 211 12 ls st h
set_option maxRecDepth 20000 in
theorem ev_211_13 (d : Nat) (ls st : List ex_V) (h : ex_H) : ex_ev d 211 13 ls st h = ex_xs 1 (ex_ev d 211) (ex_cd d) [.iload 7, .ifCond .ne 14, .aload 0, .sipush (-100006), .invokevirtual 142, .ireturn] ls st h := ex_ev_eq d 211 13 ls st h
set_option maxRecDepth 20000 in
theorem ev_211_14 (d : Nat) (ls st : List ex_V) (h : ex_H) : ex_ev d 211 14 ls st h = ex_xs 1 (ex_ev d 211) (ex_cd d) [.sipush 0, .istore 8, .sipush (-1), .istore 9, .sipush 3, .istore 10, .goto_w 15] ls st h := ex_ev_eq d 211 14 ls st h
set_option maxRecDepth 20000 in
theorem ev_211_15 (d : Nat) (ls st : List ex_V) (h : ex_H) : ex_ev d 211 15 ls st h = ex_xs 1 (ex_ev d 211) (ex_cd d) [.iload 10, .ifCond .lt 18, .iload 8, .iload 3, .aload 6, .iload 10, .iaload, .imul, .iload 7, .idiv, .iadd, .istore 8, .aload 6, .iload 10, .iaload, .ifCond .le 16, .iload 10, .goto 17] ls st h := ex_ev_eq d 211 15 ls st h
set_option maxRecDepth 20000 in
theorem ev_211_16 (d : Nat) (ls st : List ex_V) (h : ex_H) : ex_ev d 211 16 ls st h = ex_xs 1 (ex_ev d 211) (ex_cd d) [.iload 9, .goto_w 17] ls st h := ex_ev_eq d 211 16 ls st h
set_option maxRecDepth 20000 in
theorem ev_211_17 (d : Nat) (ls st : List ex_V) (h : ex_H) : ex_ev d 211 17 ls st h = ex_xs 1 (ex_ev d 211) (ex_cd d) [.istore 9, .iinc 10 (-1), .goto 15] ls st h := ex_ev_eq d 211 17 ls st h
set_option maxRecDepth 20000 in
theorem ev_211_18 (d : Nat) (ls st : List ex_V) (h : ex_H) : ex_ev d 211 18 ls st h = ex_xs 1 (ex_ev d 211) (ex_cd d) [.iload 3, .aload 6, .iload 2, .iaload, .imul, .iload 7, .idiv, .iload 2, .iload 9, .if_icmp .ne 19, .iload 3, .iload 8, .isub, .goto 20] ls st h := ex_ev_eq d 211 18 ls st h
set_option maxRecDepth 20000 in
theorem ev_211_19 (d : Nat) (ls st : List ex_V) (h : ex_H) : ex_ev d 211 19 ls st h = ex_xs 1 (ex_ev d 211) (ex_cd d) [.sipush 0, .goto_w 20] ls st h := ex_ev_eq d 211 19 ls st h
set_option maxRecDepth 20000 in
theorem ev_211_20 (d : Nat) (ls st : List ex_V) (h : ex_H) : ex_ev d 211 20 ls st h = ex_xs 1 (ex_ev d 211) (ex_cd d) [.iadd, .ireturn] ls st h := ex_ev_eq d 211 20 ls st h
set_option maxRecDepth 20000 in
theorem ev_212_0 (d : Nat) (ls st : List ex_V) (h : ex_H) : ex_ev d 212 0 ls st h = ex_xs 2 (ex_ev d 212) (ex_cd d) [.iload 0, .sipush 1, .sipush 6, .invokestatic 143, .ifCond .ne 1, .iload 0, .sipush 10, .sipush 33, .invokestatic 143, .ifCond .ne 1, .iload 0, .sipush 40, .sipush 44, .invokestatic 143, .ifCond .eq 2, .goto_w 1] ls st h := ex_ev_eq d 212 0 ls st h
set_option maxRecDepth 20000 in
theorem ev_212_1 (d : Nat) (ls st : List ex_V) (h : ex_H) : ex_ev d 212 1 ls st h = ex_xs 2 (ex_ev d 212) (ex_cd d) [.sipush 1, .goto 3] ls st h := ex_ev_eq d 212 1 ls st h
set_option maxRecDepth 20000 in
theorem ev_212_2 (d : Nat) (ls st : List ex_V) (h : ex_H) : ex_ev d 212 2 ls st h = ex_xs 2 (ex_ev d 212) (ex_cd d) [.sipush 0, .goto_w 3] ls st h := ex_ev_eq d 212 2 ls st h
set_option maxRecDepth 20000 in
theorem ev_212_3 (d : Nat) (ls st : List ex_V) (h : ex_H) : ex_ev d 212 3 ls st h = ex_xs 2 (ex_ev d 212) (ex_cd d) [.ireturn] ls st h := ex_ev_eq d 212 3 ls st h
set_option maxRecDepth 20000 in
theorem ev_213_0 (d : Nat) (ls st : List ex_V) (h : ex_H) : ex_ev d 213 0 ls st h = ex_xs 1 (ex_ev d 213) (ex_cd d) [.iload 1, .invokestatic 230, .ifCond .ne 1, .aload 0, .sipush (-100001), .invokevirtual 142, .ireturn] ls st h := ex_ev_eq d 213 0 ls st h
set_option maxRecDepth 20000 in
theorem ev_213_1 (d : Nat) (ls st : List ex_V) (h : ex_H) : ex_ev d 213 1 ls st h = ex_xs 1 (ex_ev d 213) (ex_cd d) [.aload 0, .getfield 388, .iload 1, .iaload, .ifCond .ne 2, .aload 0, .sipush (-100002), .invokevirtual 142, .ireturn] ls st h := ex_ev_eq d 213 1 ls st h
set_option maxRecDepth 20000 in
theorem ev_213_2 (d : Nat) (ls st : List ex_V) (h : ex_H) : ex_ev d 213 2 ls st h = ex_xs 1 (ex_ev d 213) (ex_cd d) [.aload 0, .getfield 389, .iload 1, .iaload, .sipush 16, .if_icmp .le 3, .aload 0, .sipush (-100003), .invokevirtual 142, .ireturn] ls st h := ex_ev_eq d 213 2 ls st h
set_option maxRecDepth 20000 in
theorem ev_213_3 (d : Nat) (ls st : List ex_V) (h : ex_H) : ex_ev d 213 3 ls st h = ex_xs 1 (ex_ev d 213) (ex_cd d) [.sipush 0, .istore 2, .goto_w 4] ls st h := ex_ev_eq d 213 3 ls st h
set_option maxRecDepth 20000 in
theorem ev_213_4 (d : Nat) (ls st : List ex_V) (h : ex_H) : ex_ev d 213 4 ls st h = ex_xs 1 (ex_ev d 213) (ex_cd d) [.iload 2, .aload 0, .getfield 389, .iload 1, .iaload, .if_icmp .ge 6, .aload 0, .getfield 390, .sipush 20, .iload 1, .imul, .iload 2, .iadd, .iaload, .invokestatic 212, .ifCond .ne 5, .aload 0, .sipush (-100001), .invokevirtual 142, .ireturn] ls st h := ex_ev_eq d 213 4 ls st h
set_option maxRecDepth 20000 in
theorem ev_213_5 (d : Nat) (ls st : List ex_V) (h : ex_H) : ex_ev d 213 5 ls st h = ex_xs 1 (ex_ev d 213) (ex_cd d) [.iinc 2 1, .goto 4] ls st h := ex_ev_eq d 213 5 ls st h
set_option maxRecDepth 20000 in
theorem ev_213_6 (d : Nat) (ls st : List ex_V) (h : ex_H) : ex_ev d 213 6 ls st h = ex_xs 1 (ex_ev d 213) (ex_cd d) [.aload 0, .invokevirtual 147, .aload 0, .getfield 384, .sipush 9, .aload 0, .getfield 389, .iload 1, .iaload, .iastore, .sipush 0, .istore 2, .goto_w 7] ls st h := ex_ev_eq d 213 6 ls st h
set_option maxRecDepth 20000 in
theorem ev_213_7 (d : Nat) (ls st : List ex_V) (h : ex_H) : ex_ev d 213 7 ls st h = ex_xs 1 (ex_ev d 213) (ex_cd d) [.iload 2, .aload 0, .getfield 389, .iload 1, .iaload, .if_icmp .ge 8, .aload 0, .getfield 384, .sipush 231, .iload 2, .iadd, .aload 0, .getfield 390, .sipush 20, .iload 1, .imul, .iload 2, .iadd, .iaload, .iastore, .iinc 2 1, .goto 7] ls st h := ex_ev_eq d 213 7 ls st h
set_option maxRecDepth 20000 in
theorem ev_213_8 (d : Nat) (ls st : List ex_V) (h : ex_H) : ex_ev d 213 8 ls st h = ex_xs 1 (ex_ev d 213) (ex_cd d) [.aload 0, .getfield 389, .iload 1, .iaload, .ireturn] ls st h := ex_ev_eq d 213 8 ls st h
set_option maxRecDepth 20000 in
theorem ev_214_0 (d : Nat) (ls st : List ex_V) (h : ex_H) : ex_ev d 214 0 ls st h = ex_xs 1 (ex_ev d 214) (ex_cd d) [.sipush 0, .istore 1, .sipush 0, .istore 2, .goto_w 1] ls st h := ex_ev_eq d 214 0 ls st h
set_option maxRecDepth 20000 in
theorem ev_214_1 (d : Nat) (ls st : List ex_V) (h : ex_H) : ex_ev d 214 1 ls st h = ex_xs 1 (ex_ev d 214) (ex_cd d) [.iload 2, .aload 0, .getfield 384, .sipush 9, .iaload, .if_icmp .ge 7, .aload 0, .getfield 384, .sipush 231, .iload 2, .iadd, .iaload, .istore 3, .iload 3, .sipush 40, .if_icmp .ge 2, .sipush 0, .goto 4] ls st h := ex_ev_eq d 214 1 ls st h
set_option maxRecDepth 20000 in
theorem ev_214_2 (d : Nat) (ls st : List ex_V) (h : ex_H) : ex_ev d 214 2 ls st h = ex_xs 1 (ex_ev d 214) (ex_cd d) [.iload 3, .sipush 42, .if_icmp .ne 3, .sipush 1, .goto 4] ls st h := ex_ev_eq d 214 2 ls st h
set_option maxRecDepth 20000 in
theorem ev_214_3 (d : Nat) (ls st : List ex_V) (h : ex_H) : ex_ev d 214 3 ls st h = ex_xs 1 (ex_ev d 214) (ex_cd d) [.sipush 2, .goto_w 4] ls st h := ex_ev_eq d 214 3 ls st h
set_option maxRecDepth 20000 in
theorem ev_214_4 (d : Nat) (ls st : List ex_V) (h : ex_H) : ex_ev d 214 4 ls st h = ex_xs 1 (ex_ev d 214) (ex_cd d) [.istore 4, .iload 1, .iload 4, .if_icmp .lt 5, .iload 3, .sipush 40, .if_icmp .ge 6, .iload 1, .sipush 5, .if_icmp .ne 6, .goto_w 5] ls st h := ex_ev_eq d 214 4 ls st h
set_option maxRecDepth 20000 in
theorem ev_214_5 (d : Nat) (ls st : List ex_V) (h : ex_H) : ex_ev d 214 5 ls st h = ex_xs 1 (ex_ev d 214) (ex_cd d) [.iload 2, .ireturn] ls st h := ex_ev_eq d 214 5 ls st h
set_option maxRecDepth 20000 in
theorem ev_214_6 (d : Nat) (ls st : List ex_V) (h : ex_H) : ex_ev d 214 6 ls st h = ex_xs 1 (ex_ev d 214) (ex_cd d) [.iload 1, .sipush 1, .iload 4, .isub, .iadd, .istore 1, .iinc 2 1, .goto 1] ls st h := ex_ev_eq d 214 6 ls st h
set_option maxRecDepth 20000 in
theorem ev_214_7 (d : Nat) (ls st : List ex_V) (h : ex_H) : ex_ev d 214 7 ls st h = ex_xs 1 (ex_ev d 214) (ex_cd d) [.iload 1, .sipush 1, .if_icmp .eq 8, .aload 0, .getfield 384, .sipush 9, .iaload, .ifCond .ne 9, .goto_w 8] ls st h := ex_ev_eq d 214 7 ls st h
set_option maxRecDepth 20000 in
theorem ev_214_8 (d : Nat) (ls st : List ex_V) (h : ex_H) : ex_ev d 214 8 ls st h = ex_xs 1 (ex_ev d 214) (ex_cd d) [.sipush (-1), .goto 10] ls st h := ex_ev_eq d 214 8 ls st h
set_option maxRecDepth 20000 in
theorem ev_214_9 (d : Nat) (ls st : List ex_V) (h : ex_H) : ex_ev d 214 9 ls st h = ex_xs 1 (ex_ev d 214) (ex_cd d) [.aload 0, .getfield 384, .sipush 9, .iaload, .goto_w 10] ls st h := ex_ev_eq d 214 9 ls st h
set_option maxRecDepth 20000 in
theorem ev_214_10 (d : Nat) (ls st : List ex_V) (h : ex_H) : ex_ev d 214 10 ls st h = ex_xs 1 (ex_ev d 214) (ex_cd d) [.ireturn] ls st h := ex_ev_eq d 214 10 ls st h
set_option maxRecDepth 20000 in
theorem ev_215_0 (d : Nat) (ls st : List ex_V) (h : ex_H) : ex_ev d 215 0 ls st h = ex_xs 1 (ex_ev d 215) (ex_cd d) [.aload 0, .invokevirtual 214, .ireturn] ls st h := ex_ev_eq d 215 0 ls st h
set_option maxRecDepth 20000 in
theorem ev_216_0 (d : Nat) (ls st : List ex_V) (h : ex_H) : ex_ev d 216 0 ls st h = ex_xs 1 (ex_ev d 216) (ex_cd d) [.iload 1, .tableswitch 7 1 6 #[1, 2, 3, 4, 5, 6]] ls st h := ex_ev_eq d 216 0 ls st h
set_option maxRecDepth 20000 in
theorem ev_216_1 (d : Nat) (ls st : List ex_V) (h : ex_H) : ex_ev d 216 1 ls st h = ex_xs 1 (ex_ev d 216) (ex_cd d) [.iload 4, .ireturn] ls st h := ex_ev_eq d 216 1 ls st h
set_option maxRecDepth 20000 in
theorem ev_216_2 (d : Nat) (ls st : List ex_V) (h : ex_H) : ex_ev d 216 2 ls st h = ex_xs 1 (ex_ev d 216) (ex_cd d) [.aload 0, .getfield 384, .sipush 91, .iload 2, .iadd, .iaload, .ireturn] ls st h := ex_ev_eq d 216 2 ls st h
set_option maxRecDepth 20000 in
theorem ev_216_3 (d : Nat) (ls st : List ex_V) (h : ex_H) : ex_ev d 216 3 ls st h = ex_xs 1 (ex_ev d 216) (ex_cd d) [.aload 0, .getfield 384, .sipush 107, .iload 2, .iadd, .iaload, .ireturn] ls st h := ex_ev_eq d 216 3 ls st h
set_option maxRecDepth 20000 in
theorem ev_216_4 (d : Nat) (ls st : List ex_V) (h : ex_H) : ex_ev d 216 4 ls st h = ex_xs 1 (ex_ev d 216) (ex_cd d) [.iload 3, .ireturn] ls st h := ex_ev_eq d 216 4 ls st h
set_option maxRecDepth 20000 in
theorem ev_216_5 (d : Nat) (ls st : List ex_V) (h : ex_H) : ex_ev d 216 5 ls st h = ex_xs 1 (ex_ev d 216) (ex_cd d) [.aload 0, .getfield 384, .sipush 11, .iload 3, .iadd, .iaload, .ireturn] ls st h := ex_ev_eq d 216 5 ls st h
set_option maxRecDepth 20000 in
theorem ev_216_6 (d : Nat) (ls st : List ex_V) (h : ex_H) : ex_ev d 216 6 ls st h = ex_xs 1 (ex_ev d 216) (ex_cd d) [.aload 0, .getfield 384, .sipush 4, .iaload, .ireturn] ls st h := ex_ev_eq d 216 6 ls st h
set_option maxRecDepth 20000 in
theorem ev_216_7 (d : Nat) (ls st : List ex_V) (h : ex_H) : ex_ev d 216 7 ls st h = ex_xs 1 (ex_ev d 216) (ex_cd d) [.iload 1, .sipush 10, .isub, .ireturn] ls st h := ex_ev_eq d 216 7 ls st h
set_option maxRecDepth 20000 in
theorem ev_217_0 (d : Nat) (ls st : List ex_V) (h : ex_H) : ex_ev d 217 0 ls st h = ex_xs 2 (ex_ev d 217) (ex_cd d) [.iload 0, .sipush 40, .if_icmp .ne 2, .iload 1, .iload 2, .if_icmp .ge 1, .sipush 1, .goto 9] ls st h := ex_ev_eq d 217 0 ls st h
set_option maxRecDepth 20000 in
theorem ev_217_1 (d : Nat) (ls st : List ex_V) (h : ex_H) : ex_ev d 217 1 ls st h = ex_xs 2 (ex_ev d 217) (ex_cd d) [.sipush 0, .goto 9] ls st h := ex_ev_eq d 217 1 ls st h
set_option maxRecDepth 20000 in
theorem ev_217_2 (d : Nat) (ls st : List ex_V) (h : ex_H) : ex_ev d 217 2 ls st h = ex_xs 2 (ex_ev d 217) (ex_cd d) [.iload 0, .sipush 41, .if_icmp .ne 4, .iload 1, .iload 2, .if_icmp .ne 3, .sipush 1, .goto 9] ls st h := ex_ev_eq d 217 2 ls st h
set_option maxRecDepth 20000 in
theorem ev_217_3 (d : Nat) (ls st : List ex_V) (h : ex_H) : ex_ev d 217 3 ls st h = ex_xs 2 (ex_ev d 217) (ex_cd d) [.sipush 0, .goto 9] ls st h := ex_ev_eq d 217 3 ls st h
set_option maxRecDepth 20000 in
theorem ev_217_4 (d : Nat) (ls st : List ex_V) (h : ex_H) : ex_ev d 217 4 ls st h = ex_xs 2 (ex_ev d 217) (ex_cd d) [.iload 0, .sipush 43, .if_icmp .ne 6, .iload 1, .ifCond .eq 5, .iload 2, .ifCond .eq 5, .sipush 1, .goto 9] ls st h := ex_ev_eq d 217 4 ls st h
set_option maxRecDepth 20000 in
theorem ev_217_5 (d : Nat) (ls st : List ex_V) (h : ex_H) : ex_ev d 217 5 ls st h = ex_xs 2 (ex_ev d 217) (ex_cd d) [.sipush 0, .goto 9] ls st h := ex_ev_eq d 217 5 ls st h
set_option maxRecDepth 20000 in
theorem ev_217_6 (d : Nat) (ls st : List ex_V) (h : ex_H) : ex_ev d 217 6 ls st h = ex_xs 2 (ex_ev d 217) (ex_cd d) [.iload 1, .ifCond .ne 7, .iload 2, .ifCond .eq 8, .goto_w 7] ls st h := ex_ev_eq d 217 6 ls st h
set_option maxRecDepth 20000 in
theorem ev_217_7 (d : Nat) (ls st : List ex_V) (h : ex_H) : ex_ev d 217 7 ls st h = ex_xs 2 (ex_ev d 217) (ex_cd d) [.sipush 1, .goto 9] ls st h := ex_ev_eq d 217 7 ls st h
set_option maxRecDepth 20000 in
theorem ev_217_8 (d : Nat) (ls st : List ex_V) (h : ex_H) : ex_ev d 217 8 ls st h = ex_xs 2 (ex_ev d 217) (ex_cd d) [.sipush 0, .goto_w 9] ls st h := ex_ev_eq d 217 8 ls st h
set_option maxRecDepth 20000 in
theorem ev_217_9 (d : Nat) (ls st : List ex_V) (h : ex_H) : ex_ev d 217 9 ls st h = ex_xs 2 (ex_ev d 217) (ex_cd d) [.ireturn] ls st h := ex_ev_eq d 217 9 ls st h
set_option maxRecDepth 20000 in
theorem ev_218_0 (d : Nat) (ls st : List ex_V) (h : ex_H) : ex_ev d 218 0 ls st h = ex_xs 2 (ex_ev d 218) (ex_cd d) [.aload 0, .getfield 384, .sipush 9, .iaload, .ifCond .ne 1, .sipush 1, .ireturn] ls st h := ex_ev_eq d 218 0 ls st h
set_option maxRecDepth 20000 in
theorem ev_218_1 (d : Nat) (ls st : List ex_V) (h : ex_H) : ex_ev d 218 1 ls st h = ex_xs 2 (ex_ev d 218) (ex_cd d) [.aload 0, .invokevirtual 214, .ifCond .lt 2, .sipush 0, .ireturn] ls st h := ex_ev_eq d 218 1 ls st h
set_option maxRecDepth 20000 in
theorem ev_218_2 (d : Nat) (ls st : List ex_V) (h : ex_H) : ex_ev d 218 2 ls st h = ex_xs 2 (ex_ev d 218) (ex_cd d) [.sipush 0, .istore 4, .sipush 0, .istore 5, .goto_w 3] ls st h := ex_ev_eq d 218 2 ls st h
set_option maxRecDepth 20000 in
theorem ev_218_3 (d : Nat) (ls st : List ex_V) (h : ex_H) : ex_ev d 218 3 ls st h = ex_xs 2 (ex_ev d 218) (ex_cd d) [.iload 5, .aload 0, .getfield 384, .sipush 9, .iaload, .if_icmp .ge 11, .aload 0, .getfield 384, .sipush 231, .iload 5, .iadd, .iaload, .istore 6, .iload 6, .sipush 40, .if_icmp .ge 4, .aload 0, .getfield 398, .iload 4, .aload 0, .iload 6, .iload 1, .iload 2, .iload 3, .invokevirtual 216, .iastore, .iinc 4 1, .goto 10] ls st h := ex_ev_eq d 218 3 ls st h
set_option maxRecDepth 20000 in
theorem ev_218_4 (d : Nat) (ls st : List ex_V) (h : ex_H) : ex_ev d 218 4 ls st h = ex_xs 2 (ex_ev d 218) (ex_cd d) [.iload 6, .sipush 42, .if_icmp .ne 7, .aload 0, .getfield 398, .iload 4, .sipush 1, .isub, .aload 0, .getfield 398, .iload 4, .sipush 1, .isub, .iaload, .ifCond .ne 5, .sipush 1, .goto 6] ls st h := ex_ev_eq d 218 4 ls st h
set_option maxRecDepth 20000 in
theorem ev_218_5 (d : Nat) (ls st : List ex_V) (h : ex_H) : ex_ev d 218 5 ls st h = ex_xs 2 (ex_ev d 218) (ex_cd d) [.sipush 0, .goto_w 6] ls st h := ex_ev_eq d 218 5 ls st h
set_option maxRecDepth 20000 in
theorem ev_218_6 (d : Nat) (ls st : List ex_V) (h : ex_H) : ex_ev d 218 6 ls st h = ex_xs 2 (ex_ev d 218) (ex_cd d) [.iastore, .goto 10] ls st h := ex_ev_eq d 218 6 ls st h
set_option maxRecDepth 20000 in
theorem ev_218_7 (d : Nat) (ls st : List ex_V) (h : ex_H) : ex_ev d 218 7 ls st h = ex_xs 2 (ex_ev d 218) (ex_cd d) [.iinc 4 (-1), .aload 0, .getfield 398, .iload 4, .sipush 1, .isub, .iload 6, .aload 0, .getfield 398, .iload 4, .sipush 1, .isub, .iaload, .aload 0, .getfield 398, .iload 4, .iaload, .invokestatic 217, .ifCond .eq 8, .sipush 1, .goto 9] ls st h := ex_ev_eq d 218 7 ls st h
set_option maxRecDepth 20000 in
theorem ev_218_8 (d : Nat) (ls st : List ex_V) (h : ex_H) : ex_ev d 218 8 ls st h = ex_xs 2 (ex_ev d 218) (ex_cd d) [.sipush 0, .goto_w 9] ls st h := ex_ev_eq d 218 8 ls st h
set_option maxRecDepth 20000 in
theorem ev_218_9 (d : Nat) (ls st : List ex_V) (h : ex_H) : ex_ev d 218 9 ls st h = ex_xs 2 (ex_ev d 218) (ex_cd d) [.iastore, .goto_w 10] ls st h := ex_ev_eq d 218 9 ls st h
set_option maxRecDepth 20000 in
theorem ev_218_10 (d : Nat) (ls st : List ex_V) (h : ex_H) : ex_ev d 218 10 ls st h = ex_xs 2 (ex_ev d 218) (ex_cd d) [.iinc 5 1, .goto 3] ls st h := ex_ev_eq d 218 10 ls st h
set_option maxRecDepth 20000 in
theorem ev_218_11 (d : Nat) (ls st : List ex_V) (h : ex_H) : ex_ev d 218 11 ls st h = ex_xs 2 (ex_ev d 218) (ex_cd d) [.aload 0, .getfield 398, .sipush 0, .iaload, .ifCond .eq 12, .sipush 1, .goto 13] ls st h := ex_ev_eq d 218 11 ls st h
set_option maxRecDepth 20000 in
theorem ev_218_12 (d : Nat) (ls st : List ex_V) (h : ex_H) : ex_ev d 218 12 ls st h = ex_xs 2 (ex_ev d 218) (ex_cd d) [.sipush 0, .goto_w 13] ls st h := ex_ev_eq d 218 12 ls st h
set_option maxRecDepth 20000 in
theorem ev_218_13 (d : Nat) (ls st : List ex_V) (h : ex_H) : ex_ev d 218 13 ls st h = ex_xs 2 (ex_ev d 218) (ex_cd d) [.ireturn] ls st h := ex_ev_eq d 218 13 ls st h
set_option maxRecDepth 20000 in
theorem ev_219_0 (d : Nat) (ls st : List ex_V) (h : ex_H) : ex_ev d 219 0 ls st h = ex_xs 1 (ex_ev d 219) (ex_cd d) [.aload 0, .iload 1, .invokevirtual 145, .ifCond .eq 1, .aload 0, .iload 2, .invokevirtual 144, .ifCond .eq 1, .iload 3, .invokestatic 146, .ifCond .ne 2, .goto_w 1] ls st h := ex_ev_eq d 219 0 ls st h
set_option maxRecDepth 20000 in
theorem ev_219_1 (d : Nat) (ls st : List ex_V) (h : ex_H) : ex_ev d 219 1 ls st h = ex_xs 1 (ex_ev d 219) (ex_cd d) [.aload 0, .sipush (-100001), .invokevirtual 142, .ireturn] ls st h := ex_ev_eq d 219 1 ls st h
set_option maxRecDepth 20000 in
theorem ev_219_2 (d : Nat) (ls st : List ex_V) (h : ex_H) : ex_ev d 219 2 ls st h = ex_xs 1 (ex_ev d 219) (ex_cd d) [.aload 0, .iload 1, .iload 2, .iload 3, .invokevirtual 218, .ifCond .eq 3, .sipush 1, .goto 4] ls st h := ex_ev_eq d 219 2 ls st h
set_option maxRecDepth 20000 in
theorem ev_219_3 (d : Nat) (ls st : List ex_V) (h : ex_H) : ex_ev d 219 3 ls st h = ex_xs 1 (ex_ev d 219) (ex_cd d) [.sipush 0, .goto_w 4] ls st h := ex_ev_eq d 219 3 ls st h
set_option maxRecDepth 20000 in
theorem ev_219_4 (d : Nat) (ls st : List ex_V) (h : ex_H) : ex_ev d 219 4 ls st h = ex_xs 1 (ex_ev d 219) (ex_cd d) [.ireturn] ls st h := ex_ev_eq d 219 4 ls st h
set_option maxRecDepth 20000 in
theorem ev_220_0 (d : Nat) (ls st : List ex_V) (h : ex_H) : ex_ev d 220 0 ls st h = ex_xs 1 (ex_ev d 220) (ex_cd d) [.aload 0, .iload 1, .invokevirtual 144, .ifCond .eq 1, .iload 2, .sipush 0, .sipush 200, .invokestatic 143, .ifCond .ne 2, .goto_w 1] ls st h := ex_ev_eq d 220 0 ls st h
set_option maxRecDepth 20000 in
theorem ev_220_1 (d : Nat) (ls st : List ex_V) (h : ex_H) : ex_ev d 220 1 ls st h = ex_xs 1 (ex_ev d 220) (ex_cd d) [.aload 0, .sipush (-100001), .invokevirtual 142, .ireturn] ls st h := ex_ev_eq d 220 1 ls st h
set_option maxRecDepth 20000 in
theorem ev_220_2 (d : Nat) (ls st : List ex_V) (h : ex_H) : ex_ev d 220 2 ls st h = ex_xs 1 (ex_ev d 220) (ex_cd d) [.aload 0, .invokevirtual 147, .aload 0, .getfield 384, .sipush 36, .iload 1, .iadd, .iaload, .istore 3, .aload 0, .getfield 384, .sipush 36, .iload 1, .iadd, .iload 2, .iastore, .iload 3, .ireturn] ls st h := ex_ev_eq d 220 2 ls st h
set_option maxRecDepth 20000 in
theorem ev_221_0 (d : Nat) (ls st : List ex_V) (h : ex_H) : ex_ev d 221 0 ls st h = ex_xs 1 (ex_ev d 221) (ex_cd d) [.iload 1, .sipush 1, .sipush 30, .invokestatic 143, .ifCond .ne 1, .aload 0, .sipush (-100001), .invokevirtual 142, .ireturn] ls st h := ex_ev_eq d 221 0 ls st h
set_option maxRecDepth 20000 in
theorem ev_221_1 (d : Nat) (ls st : List ex_V) (h : ex_H) : ex_ev d 221 1 ls st h = ex_xs 1 (ex_ev d 221) (ex_cd d) [.aload 0, .invokevirtual 147, .aload 0, .getfield 384, .sipush 5, .iaload, .istore 2, .aload 0, .getfield 384, .sipush 5, .iload 1, .iastore, .iload 2, .ireturn] ls st h := ex_ev_eq d 221 1 ls st h
set_option maxRecDepth 20000 in
theorem ev_222_0 (d : Nat) (ls st : List ex_V) (h : ex_H) : ex_ev d 222 0 ls st h = ex_xs 1 (ex_ev d 222) (ex_cd d) [.aload 0, .getfield 384, .sipush 36, .iload 1, .iadd, .iaload, .istore 2, .aload 0, .getfield 384, .sipush 11, .iload 1, .iadd, .iaload, .sipush 2, .if_icmp .ne 1, .sipush 0, .iload 2, .sipush 60, .isub, .invokestatic 236, .goto 2] ls st h := ex_ev_eq d 222 0 ls st h
set_option maxRecDepth 20000 in
theorem ev_222_1 (d : Nat) (ls st : List ex_V) (h : ex_H) : ex_ev d 222 1 ls st h = ex_xs 1 (ex_ev d 222) (ex_cd d) [.iload 2, .goto_w 2] ls st h := ex_ev_eq d 222 1 ls st h
set_option maxRecDepth 20000 in
theorem ev_222_2 (d : Nat) (ls st : List ex_V) (h : ex_H) : ex_ev d 222 2 ls st h = ex_xs 1 (ex_ev d 222) (ex_cd d) [.ireturn] ls st h := ex_ev_eq d 222 2 ls st h
set_option maxRecDepth 20000 in
theorem ev_223_0 (d : Nat) (ls st : List ex_V) (h : ex_H) : ex_ev d 223 0 ls st h = ex_xs 0 (ex_ev d 223) (ex_cd d) [.iload 2, .aload 0, .getfield 399, .if_icmp .gt 1, .iload 2, .aload 0, .getfield 399, .if_icmp .ne 3, .iload 1, .aload 0, .getfield 400, .if_icmp .ge 3, .goto_w 1] ls st h := ex_ev_eq d 223 0 ls st h
set_option maxRecDepth 20000 in
theorem ev_223_1 (d : Nat) (ls st : List ex_V) (h : ex_H) : ex_ev d 223 1 ls st h = ex_xs 0 (ex_ev d 223) (ex_cd d) [.aload 0, .iload 2, .putfield 399, .aload 0, .iload 1, .putfield 400, .sipush 0, .istore 3, .goto_w 2] ls st h := ex_ev_eq d 223 1 ls st h
set_option maxRecDepth 20000 in
theorem ev_223_2 (d : Nat) (ls st : List ex_V) (h : ex_H) : ex_ev d 223 2 ls st h = ex_xs 0 (ex_ev d 223) (ex_cd d) [.iload 3, .iload 1, .if_icmp .ge 3, .aload 0, .getfield 401, .iload 3, .aload 0, .getfield 402, .iload 3, .iaload, .iastore, .iinc 3 1, .goto 2] ls st h := ex_ev_eq d 223 2 ls st h
set_option maxRecDepth 20000 in
theorem ev_223_3 (d : Nat) (ls st : List ex_V) (h : ex_H) : ex_ev d 223 3 ls st h = ex_xs 0 (ex_ev d 223) (ex_cd d) [.sipush 0, .istore 3, .goto_w 4] ls st h := ex_ev_eq d 223 3 ls st h
set_option maxRecDepth 20000 in
theorem ev_223_4 (d : Nat) (ls st : List ex_V) (h : ex_H) : ex_ev d 223 4 ls st h = ex_xs 0 (ex_ev d 223) (ex_cd d) [.iload 3, .aload 0, .getfield 384, .sipush 0, .iaload, .if_icmp .ge 6, .aload 0, .getfield 384, .sipush 46, .iload 3, .iadd, .iaload, .aload 0, .getfield 403, .iload 3, .iaload, .isub, .istore 4, .iload 4, .ifCond .le 5, .aload 0, .getfield 384, .sipush 31, .iload 3, .iadd, .iaload, .ifCond .ne 5, .aload 0, .iload 3, .invokevirtual 222, .iload 1, .sipush 1, .iadd, .aload 0, .getfield 384, .sipush 5, .iaload, .imul, .if_icmp .lt 5, .aload 0, .getfield 402, .iload 1, .aload 0, .iload 3, .iload 4, .sipush 1, .isub, .invokevirtual 152, .iastore, .aload 0, .getfield 403, .iload 3, .dup2, .iaload, .sipush 1, .iadd, .iastore, .aload 0, .iload 1, .sipush 1, .iadd, .iload 2, .aload 0, .getfield 384, .sipush 131, .aload 0, .getfield 402, .iload 1, .iaload, .iadd, .iaload, .iadd, .invokevirtual 223, .aload 0, .getfield 403, .iload 3, .dup2, .iaload, .sipush 1, .isub, .iastore, .goto_w 5] ls st h := ex_ev_eq d 223 4 ls st h
set_option maxRecDepth 20000 in
theorem ev_223_5 (d : Nat) (ls st : List ex_V) (h : ex_H) : ex_ev d 223 5 ls st h = ex_xs 0 (ex_ev d 223) (ex_cd d) [.iinc 3 1, .goto 4] ls st h := ex_ev_eq d 223 5 ls st h
set_option maxRecDepth 20000 in
theorem ev_223_6 (d : Nat) (ls st : List ex_V) (h : ex_H) : ex_ev d 223 6 ls st h = ex_xs 0 (ex_ev d 223) (ex_cd d) [.return_] ls st h := ex_ev_eq d 223 6 ls st h
set_option maxRecDepth 20000 in
theorem ev_224_0 (d : Nat) (ls st : List ex_V) (h : ex_H) : ex_ev d 224 0 ls st h = ex_xs 0 (ex_ev d 224) (ex_cd d) [.aload 0, .sipush (-1), .putfield 399, .aload 0, .sipush 0, .putfield 400, .aload 0, .sipush 0, .sipush 0, .invokevirtual 223, .return_] ls st h := ex_ev_eq d 224 0 ls st h
set_option maxRecDepth 20000 in
theorem ev_225_0 (d : Nat) (ls st : List ex_V) (h : ex_H) : ex_ev d 225 0 ls st h = ex_xs 1 (ex_ev d 225) (ex_cd d) [.aload 0, .invokevirtual 224, .aload 0, .getfield 399, .ireturn] ls st h := ex_ev_eq d 225 0 ls st h
set_option maxRecDepth 20000 in
theorem ev_226_0 (d : Nat) (ls st : List ex_V) (h : ex_H) : ex_ev d 226 0 ls st h = ex_xs 1 (ex_ev d 226) (ex_cd d) [.iload 1, .ifCond .ge 1, .aload 0, .sipush (-100001), .invokevirtual 142, .ireturn] ls st h := ex_ev_eq d 226 0 ls st h
set_option maxRecDepth 20000 in
theorem ev_226_1 (d : Nat) (ls st : List ex_V) (h : ex_H) : ex_ev d 226 1 ls st h = ex_xs 1 (ex_ev d 226) (ex_cd d) [.aload 0, .invokevirtual 224, .iload 1, .aload 0, .getfield 400, .if_icmp .ge 2, .aload 0, .getfield 401, .iload 1, .iaload, .goto 3] ls st h := ex_ev_eq d 226 1 ls st h
set_option maxRecDepth 20000 in
theorem ev_226_2 (d : Nat) (ls st : List ex_V) (h : ex_H) : ex_ev d 226 2 ls st h = ex_xs 1 (ex_ev d 226) (ex_cd d) [.aload 0, .sipush (-100006), .invokevirtual 142, .goto_w 3] ls st h := ex_ev_eq d 226 2 ls st h
set_option maxRecDepth 20000 in
theorem ev_226_3 (d : Nat) (ls st : List ex_V) (h : ex_H) : ex_ev d 226 3 ls st h = ex_xs 1 (ex_ev d 226) (ex_cd d) [.ireturn] ls st h := ex_ev_eq d 226 3 ls st h
set_option maxRecDepth 20000 in
theorem ev_227_0 (d : Nat) (ls st : List ex_V) (h : ex_H) : ex_ev d 227 0 ls st h = ex_xs 1 (ex_ev d 227) (ex_cd d) [.aload 0, .iload 1, .invokevirtual 145, .ifCond .eq 1, .iload 2, .invokestatic 146, .ifCond .ne 2, .goto_w 1] ls st h := ex_ev_eq d 227 0 ls st h
set_option maxRecDepth 20000 in
theorem ev_227_1 (d : Nat) (ls st : List ex_V) (h : ex_H) : ex_ev d 227 1 ls st h = ex_xs 1 (ex_ev d 227) (ex_cd d) [.aload 0, .sipush (-100001), .invokevirtual 142, .ireturn] ls st h := ex_ev_eq d 227 1 ls st h
set_option maxRecDepth 20000 in
theorem ev_227_2 (d : Nat) (ls st : List ex_V) (h : ex_H) : ex_ev d 227 2 ls st h = ex_xs 1 (ex_ev d 227) (ex_cd d) [.aload 0, .getfield 384, .sipush 10, .iaload, .sipush 30, .if_icmp .ne 3, .aload 0, .sipush (-100005), .invokevirtual 142, .ireturn] ls st h := ex_ev_eq d 227 2 ls st h
set_option maxRecDepth 20000 in
theorem ev_227_3 (d : Nat) (ls st : List ex_V) (h : ex_H) : ex_ev d 227 3 ls st h = ex_xs 1 (ex_ev d 227) (ex_cd d) [.aload 0, .invokevirtual 147, .aload 0, .getfield 384, .sipush 247, .aload 0, .getfield 384, .sipush 10, .iaload, .iadd, .iload 1, .sipush 8, .iload 2, .imul, .iadd, .iload 3, .ifCond .eq 4, .sipush 256, .goto 5] ls st h := ex_ev_eq d 227 3 ls st h
set_option maxRecDepth 20000 in
theorem ev_227_4 (d : Nat) (ls st : List ex_V) (h : ex_H) : ex_ev d 227 4 ls st h = ex_xs 1 (ex_ev d 227) (ex_cd d) [.sipush 0, .goto_w 5] ls st h := ex_ev_eq d 227 4 ls st h
set_option maxRecDepth 20000 in
theorem ev_227_5 (d : Nat) (ls st : List ex_V) (h : ex_H) : ex_ev d 227 5 ls st h = ex_xs 1 (ex_ev d 227) (ex_cd d) [.iadd, .iastore, .aload 0, .getfield 384, .sipush 10, .dup2, .iaload, .sipush 1, .iadd, .iastore, .aload 0, .getfield 384, .sipush 10, .iaload, .ireturn] ls st h := ex_ev_eq d 227 5 ls st h
set_option maxRecDepth 20000 in
theorem ev_228_0 (d : Nat) (ls st : List ex_V) (h : ex_H) : ex_ev d 228 0 ls st h = ex_xs 2 (ex_ev d 228) (ex_cd d) [.sipush (-1), .istore 4, .sipush 0, .istore 5, .sipush 0, .istore 6, .goto_w 1] ls st h := ex_ev_eq d 228 0 ls st h
set_option maxRecDepth 20000 in
theorem ev_228_1 (d : Nat) (ls st : List ex_V) (h : ex_H) : ex_ev d 228 1 ls st h = ex_xs 2 (ex_ev d 228) (ex_cd d) [.iload 6, .iload 3, .if_icmp .ge 5, .aload 0, .getfield 384, .sipush 247, .iload 6, .iadd, .iaload, .istore 7, .iload 7, .sipush 8, .idiv, .sipush 32, .irem, .istore 8, .iload 7, .sipush 8, .irem, .iload 1, .if_icmp .ne 4, .iload 8, .iload 2, .if_icmp .gt 4, .iload 8, .iload 4, .if_icmp .lt 4, .iload 8, .istore 4, .iload 7, .sipush 256, .if_icmp .lt 2, .sipush 1, .goto 3] ls st h := ex_ev_eq d 228 1 ls st h
set_option maxRecDepth 20000 in
theorem ev_228_2 (d : Nat) (ls st : List ex_V) (h : ex_H) : ex_ev d 228 2 ls st h = ex_xs 2 (ex_ev d 228) (ex_cd d) [.sipush 0, .goto_w 3] ls st h := ex_ev_eq d 228 2 ls st h
set_option maxRecDepth 20000 in
theorem ev_228_3 (d : Nat) (ls st : List ex_V) (h : ex_H) : ex_ev d 228 3 ls st h = ex_xs 2 (ex_ev d 228) (ex_cd d) [.istore 5, .goto_w 4] ls st h := ex_ev_eq d 228 3 ls st h
set_option maxRecDepth 20000 in
theorem ev_228_4 (d : Nat) (ls st : List ex_V) (h : ex_H) : ex_ev d 228 4 ls st h = ex_xs 2 (ex_ev d 228) (ex_cd d) [.iinc 6 1, .goto 1] ls st h := ex_ev_eq d 228 4 ls st h
set_option maxRecDepth 20000 in
theorem ev_228_5 (d : Nat) (ls st : List ex_V) (h : ex_H) : ex_ev d 228 5 ls st h = ex_xs 2 (ex_ev d 228) (ex_cd d) [.iload 5, .ireturn] ls st h := ex_ev_eq d 228 5 ls st h
set_option maxRecDepth 20000 in
theorem ev_229_0 (d : Nat) (ls st : List ex_V) (h : ex_H) : ex_ev d 229 0 ls st h = ex_xs 1 (ex_ev d 229) (ex_cd d) [.aload 0, .iload 1, .invokevirtual 145, .ifCond .eq 1, .iload 2, .invokestatic 146, .ifCond .eq 1, .iload 3, .sipush 0, .aload 0, .getfield 384, .sipush 10, .iaload, .invokestatic 143, .ifCond .ne 2, .goto_w 1] ls st h := ex_ev_eq d 229 0 ls st h
set_option maxRecDepth 20000 in
theorem ev_229_1 (d : Nat) (ls st : List ex_V) (h : ex_H) : ex_ev d 229 1 ls st h = ex_xs 1 (ex_ev d 229) (ex_cd d) [.aload 0, .sipush (-100001), .invokevirtual 142, .ireturn] ls st h := ex_ev_eq d 229 1 ls st h
set_option maxRecDepth 20000 in
theorem ev_229_2 (d : Nat) (ls st : List ex_V) (h : ex_H) : ex_ev d 229 2 ls st h = ex_xs 1 (ex_ev d 229) (ex_cd d) [.aload 0, .iload 1, .iload 2, .iload 3, .invokevirtual 228, .ifCond .eq 3, .sipush 1, .goto 4] ls st h := ex_ev_eq d 229 2 ls st h
set_option maxRecDepth 20000 in
theorem ev_229_3 (d : Nat) (ls st : List ex_V) (h : ex_H) : ex_ev d 229 3 ls st h = ex_xs 1 (ex_ev d 229) (ex_cd d) [.sipush 0, .goto_w 4] ls st h := ex_ev_eq d 229 3 ls st h
set_option maxRecDepth 20000 in
theorem ev_229_4 (d : Nat) (ls st : List ex_V) (h : ex_H) : ex_ev d 229 4 ls st h = ex_xs 1 (ex_ev d 229) (ex_cd d) [.ireturn] ls st h := ex_ev_eq d 229 4 ls st h
set_option maxRecDepth 20000 in
theorem ev_230_0 (d : Nat) (ls st : List ex_V) (h : ex_H) : ex_ev d 230 0 ls st h = ex_xs 2 (ex_ev d 230) (ex_cd d) [.iload 0, .sipush 0, .sipush 3, .invokestatic 143, .ireturn] ls st h := ex_ev_eq d 230 0 ls st h
set_option maxRecDepth 20000 in
theorem ev_231_0 (d : Nat) (ls st : List ex_V) (h : ex_H) : ex_ev d 231 0 ls st h = ex_xs 1 (ex_ev d 231) (ex_cd d) [.iload 1, .invokestatic 230, .ifCond .eq 1, .iload 2, .ifCond .eq 2, .iload 2, .sipush 8, .if_icmp .eq 2, .iload 2, .sipush 16, .if_icmp .eq 2, .iload 2, .sipush 32, .if_icmp .eq 2, .goto_w 1] ls st h := ex_ev_eq d 231 0 ls st h
set_option maxRecDepth 20000 in
theorem ev_231_1 (d : Nat) (ls st : List ex_V) (h : ex_H) : ex_ev d 231 1 ls st h = ex_xs 1 (ex_ev d 231) (ex_cd d) [.aload 0, .sipush (-100001), .invokevirtual 142, .ireturn] ls st h := ex_ev_eq d 231 1 ls st h
set_option maxRecDepth 20000 in
theorem ev_231_2 (d : Nat) (ls st : List ex_V) (h : ex_H) : ex_ev d 231 2 ls st h = ex_xs 1 (ex_ev d 231) (ex_cd d) [.iload 3, .ifCond .ge 3, .aload 0, .sipush (-100003), .invokevirtual 142, .ireturn] ls st h := ex_ev_eq d 231 2 ls st h
set_option maxRecDepth 20000 in
theorem ev_231_3 (d : Nat) (ls st : List ex_V) (h : ex_H) : ex_ev d 231 3 ls st h = ex_xs 1 (ex_ev d 231) (ex_cd d) [.iload 3, .sipush 20, .if_icmp .le 4, .aload 0, .sipush (-100001), .invokevirtual 142, .ireturn] ls st h := ex_ev_eq d 231 3 ls st h
set_option maxRecDepth 20000 in
theorem ev_231_4 (d : Nat) (ls st : List ex_V) (h : ex_H) : ex_ev d 231 4 ls st h = ex_xs 1 (ex_ev d 231) (ex_cd d) [.aload 0, .getfield 388, .iload 1, .iload 2, .iastore, .aload 0, .getfield 389, .iload 1, .iload 2, .ifCond .ne 5, .sipush 0, .goto 6] ls st h := ex_ev_eq d 231 4 ls st h
set_option maxRecDepth 20000 in
theorem ev_231_5 (d : Nat) (ls st : List ex_V) (h : ex_H) : ex_ev d 231 5 ls st h = ex_xs 1 (ex_ev d 231) (ex_cd d) [.iload 3, .goto_w 6] ls st h := ex_ev_eq d 231 5 ls st h
set_option maxRecDepth 20000 in
theorem ev_231_6 (d : Nat) (ls st : List ex_V) (h : ex_H) : ex_ev d 231 6 ls st h = ex_xs 1 (ex_ev d 231) (ex_cd d) [.iastore, .sipush 0, .istore 4, .goto_w 7] ls st h := ex_ev_eq d 231 6 ls st h
set_option maxRecDepth 20000 in
theorem ev_231_7 (d : Nat) (ls st : List ex_V) (h : ex_H) : ex_ev d 231 7 ls st h = ex_xs 1 (ex_ev d 231) (ex_cd d) [.iload 4, .sipush 20, .if_icmp .ge 8, .aload 0, .getfield 390, .sipush 20, .iload 1, .imul, .iload 4, .iadd, .sipush 0, .iastore, .iinc 4 1, .goto 7] ls st h := ex_ev_eq d 231 7 ls st h
set_option maxRecDepth 20000 in
theorem ev_231_8 (d : Nat) (ls st : List ex_V) (h : ex_H) : ex_ev d 231 8 ls st h = ex_xs 1 (ex_ev d 231) (ex_cd d) [.aload 0, .getfield 389, .iload 1, .iaload, .ireturn] ls st h := ex_ev_eq d 231 8 ls st h
set_option maxRecDepth 20000 in
theorem ev_232_0 (d : Nat) (ls st : List ex_V) (h : ex_H) : ex_ev d 232 0 ls st h = ex_xs 1 (ex_ev d 232) (ex_cd d) [.iload 1, .invokestatic 230, .ifCond .ne 1, .aload 0, .sipush (-100001), .invokevirtual 142, .ireturn] ls st h := ex_ev_eq d 232 0 ls st h
set_option maxRecDepth 20000 in
theorem ev_232_1 (d : Nat) (ls st : List ex_V) (h : ex_H) : ex_ev d 232 1 ls st h = ex_xs 1 (ex_ev d 232) (ex_cd d) [.aload 0, .getfield 388, .iload 1, .iaload, .ifCond .ne 2, .aload 0, .sipush (-100002), .invokevirtual 142, .ireturn] ls st h := ex_ev_eq d 232 1 ls st h
set_option maxRecDepth 20000 in
theorem ev_232_2 (d : Nat) (ls st : List ex_V) (h : ex_H) : ex_ev d 232 2 ls st h = ex_xs 1 (ex_ev d 232) (ex_cd d) [.iload 2, .sipush 0, .aload 0, .getfield 389, .iload 1, .iaload, .sipush 1, .isub, .invokestatic 143, .ifCond .ne 3, .aload 0, .sipush (-100001), .invokevirtual 142, .ireturn] ls st h := ex_ev_eq d 232 2 ls st h
set_option maxRecDepth 20000 in
theorem ev_232_3 (d : Nat) (ls st : List ex_V) (h : ex_H) : ex_ev d 232 3 ls st h = ex_xs 1 (ex_ev d 232) (ex_cd d) [.sipush 32, .aload 0, .getfield 388, .iload 1, .iaload, .isub, .istore 4, .aload 0, .getfield 390, .sipush 20, .iload 1, .imul, .iload 2, .iadd, .iload 3, .iload 4, .ishl, .iload 4, .ishr, .iastore, .sipush 0, .ireturn] ls st h := ex_ev_eq d 232 3 ls st h
set_option maxRecDepth 20000 in
theorem ev_233_0 (d : Nat) (ls st : List ex_V) (h : ex_H) : ex_ev d 233 0 ls st h = ex_xs 1 (ex_ev d 233) (ex_cd d) [.iload 1, .invokestatic 230, .ifCond .eq 1, .iload 3, .invokestatic 230, .ifCond .ne 2, .goto_w 1] ls st h := ex_ev_eq d 233 0 ls st h
set_option maxRecDepth 20000 in
theorem ev_233_1 (d : Nat) (ls st : List ex_V) (h : ex_H) : ex_ev d 233 1 ls st h = ex_xs 1 (ex_ev d 233) (ex_cd d) [.aload 0, .sipush (-100001), .invokevirtual 142, .ireturn] ls st h := ex_ev_eq d 233 1 ls st h
set_option maxRecDepth 20000 in
theorem ev_233_2 (d : Nat) (ls st : List ex_V) (h : ex_H) : ex_ev d 233 2 ls st h = ex_xs 1 (ex_ev d 233) (ex_cd d) [.aload 0, .getfield 388, .iload 1, .iaload, .ifCond .eq 3, .aload 0, .getfield 388, .iload 3, .iaload, .ifCond .ne 4, .goto_w 3] ls st h := ex_ev_eq d 233 2 ls st h
set_option maxRecDepth 20000 in
theorem ev_233_3 (d : Nat) (ls st : List ex_V) (h : ex_H) : ex_ev d 233 3 ls st h = ex_xs 1 (ex_ev d 233) (ex_cd d) [.aload 0, .sipush (-100002), .invokevirtual 142, .ireturn] ls st h := ex_ev_eq d 233 3 ls st h
set_option maxRecDepth 20000 in
theorem ev_233_4 (d : Nat) (ls st : List ex_V) (h : ex_H) : ex_ev d 233 4 ls st h = ex_xs 1 (ex_ev d 233) (ex_cd d) [.aload 0, .getfield 388, .iload 1, .iaload, .aload 0, .getfield 388, .iload 3, .iaload, .if_icmp .eq 5, .aload 0, .sipush (-100004), .invokevirtual 142, .ireturn] ls st h := ex_ev_eq d 233 4 ls st h
set_option maxRecDepth 20000 in
theorem ev_233_5 (d : Nat) (ls st : List ex_V) (h : ex_H) : ex_ev d 233 5 ls st h = ex_xs 1 (ex_ev d 233) (ex_cd d) [.iload 2, .ifCond .lt 6, .iload 4, .ifCond .lt 6, .iload 5, .ifCond .lt 6, .iload 2, .i2l, .iload 5, .i2l, .ladd, .aload 0, .getfield 389, .iload 1, .iaload, .i2l, .lcmp, .ifCond .gt 6, .iload 4, .i2l, .iload 5, .i2l, .ladd, .aload 0, .getfield 389, .iload 3, .iaload, .i2l, .lcmp, .ifCond .le 7, .goto_w 6] ls st h := ex_ev_eq d 233 5 ls st h
set_option maxRecDepth 20000 in
theorem ev_233_6 (d : Nat) (ls st : List ex_V) (h : ex_H) : ex_ev d 233 6 ls st h = ex_xs 1 (ex_ev d 233) (ex_cd d) [.aload 0, .sipush (-100001), .invokevirtual 142, .ireturn] ls st h := ex_ev_eq d 233 6 ls st h
set_option maxRecDepth 20000 in
theorem ev_233_7 (d : Nat) (ls st : List ex_V) (h : ex_H) : ex_ev d 233 7 ls st h = ex_xs 1 (ex_ev d 233) (ex_cd d) [.sipush 0, .istore 6, .goto_w 8] ls st h := ex_ev_eq d 233 7 ls st h
set_option maxRecDepth 20000 in
theorem ev_233_8 (d : Nat) (ls st : List ex_V) (h : ex_H) : ex_ev d 233 8 ls st h = ex_xs 1 (ex_ev d 233) (ex_cd d) [.iload 6, .iload 5, .if_icmp .ge 9, .aload 0, .getfield 404, .iload 6, .aload 0, .getfield 390, .sipush 20, .iload 1, .imul, .iload 2, .iadd, .iload 6, .iadd, .iaload, .iastore, .iinc 6 1, .goto 8] ls st h := ex_ev_eq d 233 8 ls st h
set_option maxRecDepth 20000 in
theorem ev_233_9 (d : Nat) (ls st : List ex_V) (h : ex_H) : ex_ev d 233 9 ls st h = ex_xs 1 (ex_ev d 233) (ex_cd d) [.sipush 0, .istore 6, .goto_w 10] ls st h := ex_ev_eq d 233 9 ls st h
set_option maxRecDepth 20000 in
theorem ev_233_10 (d : Nat) (ls st : List ex_V) (h : ex_H) : ex_ev d 233 10 ls st h = ex_xs 1 (ex_ev d 233) (ex_cd d) [.iload 6, .iload 5, .if_icmp .ge 11, .aload 0, .getfield 390, .sipush 20, .iload 3, .imul, .iload 4, .iadd, .iload 6, .iadd, .aload 0, .getfield 404, .iload 6, .iaload, .iastore, .iinc 6 1, .goto 10] ls st h := ex_ev_eq d 233 10 ls st h
set_option maxRecDepth 20000 in
theorem ev_233_11 (d : Nat) (ls st : List ex_V) (h : ex_H) : ex_ev d 233 11 ls st h = ex_xs 1 (ex_ev d 233) (ex_cd d) [.iload 5, .ireturn] ls st h := ex_ev_eq d 233 11 ls st h
set_option maxRecDepth 20000 in
theorem ev_234_0 (d : Nat) (ls st : List ex_V) (h : ex_H) : ex_ev d 234 0 ls st h = ex_xs 1 (ex_ev d 234) (ex_cd d) [.iload 1, .sipush 0, .sipush 6, .invokestatic 143, .ifCond .ne 1, .aload 0, .sipush (-100001), .invokevirtual 142, .ireturn] ls st h := ex_ev_eq d 234 0 ls st h
set_option maxRecDepth 20000 in
theorem ev_234_1 (d : Nat) (ls st : List ex_V) (h : ex_H) : ex_ev d 234 1 ls st h = ex_xs 1 (ex_ev d 234) (ex_cd d) [.sipush 0, .istore 2, .sipush 0, .istore 3, .goto_w 2] ls st h := ex_ev_eq d 234 1 ls st h
set_option maxRecDepth 20000 in
theorem ev_234_2 (d : Nat) (ls st : List ex_V) (h : ex_H) : ex_ev d 234 2 ls st h = ex_xs 1 (ex_ev d 234) (ex_cd d) [.iload 3, .aload 0, .getfield 384, .sipush 0, .iaload, .if_icmp .ge 3, .iload 2, .aload 0, .getfield 384, .sipush 46, .iload 3, .iadd, .iaload, .iadd, .istore 2, .iinc 3 1, .goto 2] ls st h := ex_ev_eq d 234 2 ls st h
set_option maxRecDepth 20000 in
theorem ev_234_3 (d : Nat) (ls st : List ex_V) (h : ex_H) : ex_ev d 234 3 ls st h = ex_xs 1 (ex_ev d 234) (ex_cd d) [.iload 1, .tableswitch 10 0 5 #[4, 5, 6, 7, 8, 9]] ls st h := ex_ev_eq d 234 3 ls st h
set_option maxRecDepth 20000 in
theorem ev_234_4 (d : Nat) (ls st : List ex_V) (h : ex_H) : ex_ev d 234 4 ls st h = ex_xs 1 (ex_ev d 234) (ex_cd d) [.aload 0, .getfield 384, .sipush 0, .iaload, .ireturn] ls st h := ex_ev_eq d 234 4 ls st h
set_option maxRecDepth 20000 in
theorem ev_234_5 (d : Nat) (ls st : List ex_V) (h : ex_H) : ex_ev d 234 5 ls st h = ex_xs 1 (ex_ev d 234) (ex_cd d) [.aload 0, .getfield 384, .sipush 1, .iaload, .ireturn] ls st h := ex_ev_eq d 234 5 ls st h
set_option maxRecDepth 20000 in
theorem ev_234_6 (d : Nat) (ls st : List ex_V) (h : ex_H) : ex_ev d 234 6 ls st h = ex_xs 1 (ex_ev d 234) (ex_cd d) [.iload 2, .ireturn] ls st h := ex_ev_eq d 234 6 ls st h
set_option maxRecDepth 20000 in
theorem ev_234_7 (d : Nat) (ls st : List ex_V) (h : ex_H) : ex_ev d 234 7 ls st h = ex_xs 1 (ex_ev d 234) (ex_cd d) [.aload 0, .getfield 384, .sipush 6, .iaload, .ireturn] ls st h := ex_ev_eq d 234 7 ls st h
set_option maxRecDepth 20000 in
theorem ev_234_8 (d : Nat) (ls st : List ex_V) (h : ex_H) : ex_ev d 234 8 ls st h = ex_xs 1 (ex_ev d 234) (ex_cd d) [.aload 0, .getfield 384, .sipush 10, .iaload, .ireturn] ls st h := ex_ev_eq d 234 8 ls st h
set_option maxRecDepth 20000 in
theorem ev_234_9 (d : Nat) (ls st : List ex_V) (h : ex_H) : ex_ev d 234 9 ls st h = ex_xs 1 (ex_ev d 234) (ex_cd d) [.aload 0, .getfield 384, .sipush 8, .iaload, .ireturn] ls st h := ex_ev_eq d 234 9 ls st h
set_option maxRecDepth 20000 in
theorem ev_234_10 (d : Nat) (ls st : List ex_V) (h : ex_H) : ex_ev d 234 10 ls st h = ex_xs 1 (ex_ev d 234) (ex_cd d) [.aload 0, .getfield 387, .ireturn] ls st h := ex_ev_eq d 234 10 ls st h
set_option maxRecDepth 20000 in
theorem ev_235_0 (d : Nat) (ls st : List ex_V) (h : ex_H) : ex_ev d 235 0 ls st h = ex_xs 1 (ex_ev d 235) (ex_cd d) [.iload 0, .iload 0, .sipush 1, .iushr, .sipush 1431655765, .iand, .isub, .istore 0, .iload 0, .sipush 858993459, .iand, .iload 0, .sipush 2, .iushr, .sipush 858993459, .iand, .iadd, .istore 0, .iload 0, .iload 0, .sipush 4, .iushr, .iadd, .sipush 252645135, .iand, .istore 0, .iload 0, .iload 0, .sipush 8, .iushr, .iadd, .istore 0, .iload 0, .iload 0, .sipush 16, .iushr, .iadd, .istore 0, .iload 0, .sipush 63, .iand, .ireturn] ls st h := ex_ev_eq d 235 0 ls st h
set_option maxRecDepth 20000 in
theorem ev_236_0 (d : Nat) (ls st : List ex_V) (h : ex_H) : ex_ev d 236 0 ls st h = ex_xs 1 (ex_ev d 236) (ex_cd d) [.iload 0, .iload 1, .if_icmp .lt 1, .iload 0, .goto 2] ls st h := ex_ev_eq d 236 0 ls st h
set_option maxRecDepth 20000 in
theorem ev_236_1 (d : Nat) (ls st : List ex_V) (h : ex_H) : ex_ev d 236 1 ls st h = ex_xs 1 (ex_ev d 236) (ex_cd d) [.iload 1, .goto_w 2] ls st h := ex_ev_eq d 236 1 ls st h
set_option maxRecDepth 20000 in
theorem ev_236_2 (d : Nat) (ls st : List ex_V) (h : ex_H) : ex_ev d 236 2 ls st h = ex_xs 1 (ex_ev d 236) (ex_cd d) [.ireturn] ls st h := ex_ev_eq d 236 2 ls st h
set_option maxRecDepth 20000 in
theorem ev_237_0 (d : Nat) (ls st : List ex_V) (h : ex_H) : ex_ev d 237 0 ls st h = ex_xs 1 (ex_ev d 237) (ex_cd d) [.iload 0, .iload 1, .if_icmp .gt 1, .iload 0, .goto 2] ls st h := ex_ev_eq d 237 0 ls st h
set_option maxRecDepth 20000 in
theorem ev_237_1 (d : Nat) (ls st : List ex_V) (h : ex_H) : ex_ev d 237 1 ls st h = ex_xs 1 (ex_ev d 237) (ex_cd d) [.iload 1, .goto_w 2] ls st h := ex_ev_eq d 237 1 ls st h
set_option maxRecDepth 20000 in
theorem ev_237_2 (d : Nat) (ls st : List ex_V) (h : ex_H) : ex_ev d 237 2 ls st h = ex_xs 1 (ex_ev d 237) (ex_cd d) [.ireturn] ls st h := ex_ev_eq d 237 2 ls st h
set_option maxRecDepth 20000 in
theorem ev_238_0 (d : Nat) (ls st : List ex_V) (h : ex_H) : ex_ev d 238 0 ls st h = ex_xs 0 (ex_ev d 238) (ex_cd d) [.iload 1, .iload 2, .if_icmp .le 1] ls st h := ex_ev_eq d 238 0 ls st h
set_option maxRecDepth 20000 in
theorem ev_238_1 (d : Nat) (ls st : List ex_V) (h : ex_H) : ex_ev d 238 1 ls st h = ex_xs 0 (ex_ev d 238) (ex_cd d) [.iload 1, .ifCond .ge 2] ls st h := ex_ev_eq d 238 1 ls st h
set_option maxRecDepth 20000 in
theorem ev_238_2 (d : Nat) (ls st : List ex_V) (h : ex_H) : ex_ev d 238 2 ls st h = ex_xs 0 (ex_ev d 238) (ex_cd d) [.iload 2, .iload 0, .if_icmp .le 3] ls st h := ex_ev_eq d 238 2 ls st h
set_option maxRecDepth 20000 in
theorem ev_238_3 (d : Nat) (ls st : List ex_V) (h : ex_H) : ex_ev d 238 3 ls st h = ex_xs 0 (ex_ev d 238) (ex_cd d) [.return_] ls st h := ex_ev_eq d 238 3 ls st h
set_option maxRecDepth 20000 in
theorem ev_239_0 (d : Nat) (ls st : List ex_V) (h : ex_H) : ex_ev d 239 0 ls st h = ex_xs 0 (ex_ev d 239) (ex_cd d) [.sipush 0, .istore 2, .aload 0, .arraylength, .istore 3, .goto_w 1] ls st h := ex_ev_eq d 239 0 ls st h
set_option maxRecDepth 20000 in
theorem ev_239_1 (d : Nat) (ls st : List ex_V) (h : ex_H) : ex_ev d 239 1 ls st h = ex_xs 0 (ex_ev d 239) (ex_cd d) [.iload 2, .iload 3, .if_icmp .ge 2, .aload 0, .iload 2, .iload 1, .iastore, .iinc 2 1, .goto 1] ls st h := ex_ev_eq d 239 1 ls st h
set_option maxRecDepth 20000 in
theorem ev_239_2 (d : Nat) (ls st : List ex_V) (h : ex_H) : ex_ev d 239 2 ls st h = ex_xs 0 (ex_ev d 239) (ex_cd d) [.return_] ls st h := ex_ev_eq d 239 2 ls st h
set_option maxRecDepth 20000 in
theorem ev_240_0 (d : Nat) (ls st : List ex_V) (h : ex_H) : ex_ev d 240 0 ls st h = ex_xs 0 (ex_ev d 240) (ex_cd d) [.aload 0, .arraylength, .iload 1, .iload 2, .invokestatic 238, .iload 1, .istore 4, .goto_w 1] ls st h := ex_ev_eq d 240 0 ls st h
set_option maxRecDepth 20000 in
theorem ev_240_1 (d : Nat) (ls st : List ex_V) (h : ex_H) : ex_ev d 240 1 ls st h = ex_xs 0 (ex_ev d 240) (ex_cd d) [.iload 4, .iload 2, .if_icmp .ge 2, .aload 0, .iload 4, .iload 3, .iastore, .iinc 4 1, .goto 1] ls st h := ex_ev_eq d 240 1 ls st h
set_option maxRecDepth 20000 in
theorem ev_240_2 (d : Nat) (ls st : List ex_V) (h : ex_H) : ex_ev d 240 2 ls st h = ex_xs 0 (ex_ev d 240) (ex_cd d) [.return_] ls st h := ex_ev_eq d 240 2 ls st h
set_option maxRecDepth 20000 in
theorem ev_241_0 (d : Nat) (ls st : List ex_V) (h : ex_H) : ex_ev d 241 0 ls st h = ex_xs 2 (ex_ev d 241) (ex_cd d) [.new 11, .dup, .invokespecial 84, .astore 1, .new 12, .dup, .invokespecial 141, .astore 2, .sipush 0, .istore 3, .goto_w 1] ls st h := ex_ev_eq d 241 0 ls st h
set_option maxRecDepth 20000 in
theorem ev_241_1 (d : Nat) (ls st : List ex_V) (h : ex_H) : ex_ev d 241 1 ls st h = ex_xs 2 (ex_ev d 241) (ex_cd d) [.ret 1] ls st h := ex_ev_eq d 241 1 ls st h
set_option maxRecDepth 20000 in
theorem ev_241_2 (d : Nat) (ls st : List ex_V) (h : ex_H) : ex_ev d 241 2 ls st h = ex_xs 2 (ex_ev d 241) (ex_cd d) [.aload 1, .aload 0, .iload 3, .sipush 1, .iadd, .iaload, .aload 0, .iload 3, .sipush 2, .iadd, .iaload, .aload 0, .iload 3, .sipush 3, .iadd, .iaload, .aload 0, .iload 3, .sipush 4, .iadd, .iaload, .invokevirtual 85, .aload 2, .aload 0, .iload 3, .sipush 1, .iadd, .iaload, .aload 0, .iload 3, .sipush 2, .iadd, .iaload, .aload 0, .iload 3, .sipush 3, .iadd, .iaload, .aload 0, .iload 3, .sipush 4, .iadd, .iaload, .invokevirtual 149, .if_icmp .eq 61, .sipush 0, .ireturn] ls st h := ex_ev_eq d 241 2 ls st h
set_option maxRecDepth 20000 in
theorem ev_241_3 (d : Nat) (ls st : List ex_V) (h : ex_H) : ex_ev d 241 3 ls st h = ex_xs 2 (ex_ev d 241) (ex_cd d) [.aload 1, .aload 0, .iload 3, .sipush 1, .iadd, .iaload, .aload 0, .iload 3, .sipush 2, .iadd, .iaload, .invokevirtual 86, .aload 2, .aload 0, .iload 3, .sipush 1, .iadd, .iaload, .aload 0, .iload 3, .sipush 2, .iadd, .iaload, .invokevirtual 151, .if_icmp .eq 61, .sipush 0, .ireturn] ls st h := ex_ev_eq d 241 3 ls st h
set_option maxRecDepth 20000 in
theorem ev_241_4 (d : Nat) (ls st : List ex_V) (h : ex_H) : ex_ev d 241 4 ls st h = ex_xs 2 (ex_ev d 241) (ex_cd d) [.aload 1, .aload 0, .iload 3, .sipush 1, .iadd, .iaload, .aload 0, .iload 3, .sipush 2, .iadd, .iaload, .invokevirtual 87, .aload 2, .aload 0, .iload 3, .sipush 1, .iadd, .iaload, .aload 0, .iload 3, .sipush 2, .iadd, .iaload, .invokevirtual 154, .if_icmp .eq 61, .sipush 0, .ireturn] ls st h := ex_ev_eq d 241 4 ls st h
set_option maxRecDepth 20000 in
theorem ev_241_5 (d : Nat) (ls st : List ex_V) (h : ex_H) : ex_ev d 241 5 ls st h = ex_xs 2 (ex_ev d 241) (ex_cd d) [.aload 1, .aload 0, .iload 3, .sipush 1, .iadd, .iaload, .aload 0, .iload 3, .sipush 2, .iadd, .iaload, .ifCond .eq 6, .sipush 1, .goto 7] ls st h := ex_ev_eq d 241 5 ls st h
set_option maxRecDepth 20000 in
theorem ev_241_6 (d : Nat) (ls st : List ex_V) (h : ex_H) : ex_ev d 241 6 ls st h = ex_xs 2 (ex_ev d 241) (ex_cd d) [.sipush 0, .goto_w 7] ls st h := ex_ev_eq d 241 6 ls st h
set_option maxRecDepth 20000 in
theorem ev_241_7 (d : Nat) (ls st : List ex_V) (h : ex_H) : ex_ev d 241 7 ls st h = ex_xs 2 (ex_ev d 241) (ex_cd d) [.invokevirtual 88, .aload 2, .aload 0, .iload 3, .sipush 1, .iadd, .iaload, .aload 0, .iload 3, .sipush 2, .iadd, .iaload, .ifCond .eq 8, .sipush 1, .goto 9] ls st h := ex_ev_eq d 241 7 ls st h
set_option maxRecDepth 20000 in
theorem ev_241_8 (d : Nat) (ls st : List ex_V) (h : ex_H) : ex_ev d 241 8 ls st h = ex_xs 2 (ex_ev d 241) (ex_cd d) [.sipush 0, .goto_w 9] ls st h := ex_ev_eq d 241 8 ls st h
set_option maxRecDepth 20000 in
theorem ev_241_9 (d : Nat) (ls st : List ex_V) (h : ex_H) : ex_ev d 241 9 ls st h = ex_xs 2 (ex_ev d 241) (ex_cd d) [.invokevirtual 155, .if_icmp .eq 61, .sipush 0, .ireturn] ls st h := ex_ev_eq d 241 9 ls st h
set_option maxRecDepth 20000 in
theorem ev_241_10 (d : Nat) (ls st : List ex_V) (h : ex_H) : ex_ev d 241 10 ls st h = ex_xs 2 (ex_ev d 241) (ex_cd d) [.aload 1, .aload 0, .iload 3, .sipush 1, .iadd, .iaload, .aload 0, .iload 3, .sipush 2, .iadd, .iaload, .aload 0, .iload 3, .sipush 3, .iadd, .iaload, .aload 0, .iload 3, .sipush 4, .iadd, .iaload, .aload 0, .iload 3, .sipush 5, .iadd, .iaload, .aload 0, .iload 3, .sipush 6, .iadd, .iaload, .invokevirtual 89, .aload 2, .aload 0, .iload 3, .sipush 1, .iadd, .iaload, .aload 0, .iload 3, .sipush 2, .iadd, .iaload, .aload 0, .iload 3, .sipush 3, .iadd, .iaload, .aload 0, .iload 3, .sipush 4, .iadd, .iaload, .aload 0, .iload 3, .sipush 5, .iadd, .iaload, .aload 0, .iload 3, .sipush 6, .iadd, .iaload, .invokevirtual 156, .if_icmp .eq 61, .sipush 0, .ireturn] ls st h := ex_ev_eq d 241 10 ls st h
set_option maxRecDepth 20000 in
theorem ev_241_11 (d : Nat) (ls st : List ex_V) (h : ex_H) : ex_ev d 241 11 ls st h = ex_xs 2 (ex_ev d 241) (ex_cd d) [.aload 1, .aload 0, .iload 3, .sipush 1, .iadd, .iaload, .aload 0, .iload 3, .sipush 2, .iadd, .iaload, .invokevirtual 90, .aload 2, .aload 0, .iload 3, .sipush 1, .iadd, .iaload, .aload 0, .iload 3, .sipush 2, .iadd, .iaload, .invokevirtual 159, .if_icmp .eq 61, .sipush 0, .ireturn] ls st h := ex_ev_eq d 241 11 ls st h
set_option maxRecDepth 20000 in
theorem ev_241_12 (d : Nat) (ls st : List ex_V) (h : ex_H) : ex_ev d 241 12 ls st h = ex_xs 2 (ex_ev d 241) (ex_cd d) [.aload 1, .aload 0, .iload 3, .sipush 1, .iadd, .iaload, .aload 0, .iload 3, .sipush 2, .iadd, .iaload, .aload 0, .iload 3, .sipush 3, .iadd, .iaload, .invokevirtual 91, .aload 2, .aload 0, .iload 3, .sipush 1, .iadd, .iaload, .aload 0, .iload 3, .sipush 2, .iadd, .iaload, .aload 0, .iload 3, .sipush 3, .iadd, .iaload, .invokevirtual 160, .if_icmp .eq 61, .sipush 0, .ireturn] ls st h := ex_ev_eq d 241 12 ls st h
set_option maxRecDepth 20000 in
theorem ev_241_13 (d : Nat) (ls st : List ex_V) (h : ex_H) : ex_ev d 241 13 ls st h = ex_xs 2 (ex_ev d 241) (ex_cd d) [.aload 1, .aload 0, .iload 3, .sipush 1, .iadd, .iaload, .aload 0, .iload 3, .sipush 2, .iadd, .iaload, .invokevirtual 92, .aload 2, .aload 0, .iload 3, .sipush 1, .iadd, .iaload, .aload 0, .iload 3, .sipush 2, .iadd, .iaload, .invokevirtual 161, .if_icmp .eq 61, .sipush 0, .ireturn] ls st h := ex_ev_eq d 241 13 ls st h
set_option maxRecDepth 20000 in
theorem ev_241_14 (d : Nat) (ls st : List ex_V) (h : ex_H) : ex_ev d 241 14 ls st h = ex_xs 2 (ex_ev d 241) (ex_cd d) [.aload 1, .aload 0, .iload 3, .sipush 1, .iadd, .iaload, .aload 0, .iload 3, .sipush 2, .iadd, .iaload, .invokevirtual 93, .aload 2, .aload 0, .iload 3, .sipush 1, .iadd, .iaload, .aload 0, .iload 3, .sipush 2, .iadd, .iaload, .invokevirtual 163, .if_icmp .eq 61, .sipush 0, .ireturn] ls st h := ex_ev_eq d 241 14 ls st h
set_option maxRecDepth 20000 in
theorem ev_241_15 (d : Nat) (ls st : List ex_V) (h : ex_H) : ex_ev d 241 15 ls st h = ex_xs 2 (ex_ev d 241) (ex_cd d) [.aload 1, .aload 0, .iload 3, .sipush 1, .iadd, .iaload, .aload 0, .iload 3, .sipush 2, .iadd, .iaload, .invokevirtual 94, .aload 2, .aload 0, .iload 3, .sipush 1, .iadd, .iaload, .aload 0, .iload 3, .sipush 2, .iadd, .iaload, .invokevirtual 169, .if_icmp .eq 61, .sipush 0, .ireturn] ls st h := ex_ev_eq d 241 15 ls st h
set_option maxRecDepth 20000 in
theorem ev_241_16 (d : Nat) (ls st : List ex_V) (h : ex_H) : ex_ev d 241 16 ls st h = ex_xs 2 (ex_ev d 241) (ex_cd d) [.aload 1, .aload 0, .iload 3, .sipush 1, .iadd, .iaload, .aload 0, .iload 3, .sipush 2, .iadd, .iaload, .invokevirtual 95, .aload 2, .aload 0, .iload 3, .sipush 1, .iadd, .iaload, .aload 0, .iload 3, .sipush 2, .iadd, .iaload, .invokevirtual 173, .if_icmp .eq 61, .sipush 0, .ireturn] ls st h := ex_ev_eq d 241 16 ls st h
set_option maxRecDepth 20000 in
theorem ev_241_17 (d : Nat) (ls st : List ex_V) (h : ex_H) : ex_ev d 241 17 ls st h = ex_xs 2 (ex_ev d 241) (ex_cd d) [.aload 1, .aload 0, .iload 3, .sipush 1, .iadd, .iaload, .invokevirtual 96, .aload 2, .aload 0, .iload 3, .sipush 1, .iadd, .iaload, .invokevirtual 174, .if_icmp .eq 61, .sipush 0, .ireturn] ls st h := ex_ev_eq d 241 17 ls st h
set_option maxRecDepth 20000 in
theorem ev_241_18 (d : Nat) (ls st : List ex_V) (h : ex_H) : ex_ev d 241 18 ls st h = ex_xs 2 (ex_ev d 241) (ex_cd d) [.aload 1, .invokevirtual 97, .aload 2, .invokevirtual 175, .if_icmp .eq 61, .sipush 0, .ireturn] ls st h := ex_ev_eq d 241 18 ls st h
set_option maxRecDepth 20000 in
theorem ev_241_19 (d : Nat) (ls st : List ex_V) (h : ex_H) : ex_ev d 241 19 ls st h = ex_xs 2 (ex_ev d 241) (ex_cd d) [.aload 1, .aload 0, .iload 3, .sipush 1, .iadd, .iaload, .invokevirtual 98, .aload 2, .aload 0, .iload 3, .sipush 1, .iadd, .iaload, .invokevirtual 176, .if_icmp .eq 61, .sipush 0, .ireturn] ls st h := ex_ev_eq d 241 19 ls st h
set_option maxRecDepth 20000 in
theorem ev_241_20 (d : Nat) (ls st : List ex_V) (h : ex_H) : ex_ev d 241 20 ls st h = ex_xs 2 (ex_ev d 241) (ex_cd d) [.aload 1, .aload 0, .iload 3, .sipush 1, .iadd, .iaload, .invokevirtual 99, .aload 2, .aload 0, .iload 3, .sipush 1, .iadd, .iaload, .invokevirtual 177, .if_icmp .eq 61, .sipush 0, .ireturn] ls st h := ex_ev_eq d 241 20 ls st h
set_option maxRecDepth 20000 in
theorem ev_241_21 (d : Nat) (ls st : List ex_V) (h : ex_H) : ex_ev d 241 21 ls st h = ex_xs 2 (ex_ev d 241) (ex_cd d) [.aload 1, .aload 0, .iload 3, .sipush 1, .iadd, .iaload, .invokevirtual 100, .aload 2, .aload 0, .iload 3, .sipush 1, .iadd, .iaload, .invokevirtual 182, .if_icmp .eq 61, .sipush 0, .ireturn] ls st h := ex_ev_eq d 241 21 ls st h
set_option maxRecDepth 20000 in
theorem ev_241_22 (d : Nat) (ls st : List ex_V) (h : ex_H) : ex_ev d 241 22 ls st h = ex_xs 2 (ex_ev d 241) (ex_cd d) [.aload 1, .aload 0, .iload 3, .sipush 1, .iadd, .iaload, .aload 0, .iload 3, .sipush 2, .iadd, .iaload, .invokevirtual 101, .aload 2, .aload 0, .iload 3, .sipush 1, .iadd, .iaload, .aload 0, .iload 3, .sipush 2, .iadd, .iaload, .invokevirtual 183, .if_icmp .eq 61, .sipush 0, .ireturn] ls st h := ex_ev_eq d 241 22 ls st h
set_option maxRecDepth 20000 in
theorem ev_241_23 (d : Nat) (ls st : List ex_V) (h : ex_H) : ex_ev d 241 23 ls st h = ex_xs 2 (ex_ev d 241) (ex_cd d) [.aload 1, .aload 0, .iload 3, .sipush 1, .iadd, .iaload, .aload 0, .iload 3, .sipush 2, .iadd, .iaload, .invokevirtual 102, .aload 2, .aload 0, .iload 3, .sipush 1, .iadd, .iaload, .aload 0, .iload 3, .sipush 2, .iadd, .iaload, .invokevirtual 184, .if_icmp .eq 61, .sipush 0, .ireturn] ls st h := ex_ev_eq d 241 23 ls st h
set_option maxRecDepth 20000 in
theorem ev_241_24 (d : Nat) (ls st : List ex_V) (h : ex_H) : ex_ev d 241 24 ls st h = ex_xs 2 (ex_ev d 241) (ex_cd d) [.aload 1, .aload 0, .iload 3, .sipush 1, .iadd, .iaload, .invokevirtual 103, .aload 2, .aload 0, .iload 3, .sipush 1, .iadd, .iaload, .invokevirtual 186, .if_icmp .eq 61, .sipush 0, .ireturn] ls st h := ex_ev_eq d 241 24 ls st h
set_option maxRecDepth 20000 in
theorem ev_241_25 (d : Nat) (ls st : List ex_V) (h : ex_H) : ex_ev d 241 25 ls st h = ex_xs 2 (ex_ev d 241) (ex_cd d) [.aload 1, .aload 0, .iload 3, .sipush 1, .iadd, .iaload, .invokevirtual 104, .aload 2, .aload 0, .iload 3, .sipush 1, .iadd, .iaload, .invokevirtual 188, .if_icmp .eq 61, .sipush 0, .ireturn] ls st h := ex_ev_eq d 241 25 ls st h
set_option maxRecDepth 20000 in
theorem ev_241_26 (d : Nat) (ls st : List ex_V) (h : ex_H) : ex_ev d 241 26 ls st h = ex_xs 2 (ex_ev d 241) (ex_cd d) [.aload 1, .invokevirtual 105, .aload 2, .invokevirtual 189, .if_icmp .eq 61, .sipush 0, .ireturn] ls st h := ex_ev_eq d 241 26 ls st h
set_option maxRecDepth 20000 in
theorem ev_241_27 (d : Nat) (ls st : List ex_V) (h : ex_H) : ex_ev d 241 27 ls st h = ex_xs 2 (ex_ev d 241) (ex_cd d) [.aload 1, .invokevirtual 106, .aload 2, .invokevirtual 193, .if_icmp .eq 61, .sipush 0, .ireturn] ls st h := ex_ev_eq d 241 27 ls st h
set_option maxRecDepth 20000 in
theorem ev_241_28 (d : Nat) (ls st : List ex_V) (h : ex_H) : ex_ev d 241 28 ls st h = ex_xs 2 (ex_ev d 241) (ex_cd d) [.aload 1, .aload 0, .iload 3, .sipush 1, .iadd, .iaload, .invokevirtual 107, .aload 2, .aload 0, .iload 3, .sipush 1, .iadd, .iaload, .invokevirtual 194, .if_icmp .eq 61, .sipush 0, .ireturn] ls st h := ex_ev_eq d 241 28 ls st h
set_option maxRecDepth 20000 in
theorem ev_241_29 (d : Nat) (ls st : List ex_V) (h : ex_H) : ex_ev d 241 29 ls st h = ex_xs 2 (ex_ev d 241) (ex_cd d) [.aload 1, .aload 0, .iload 3, .sipush 1, .iadd, .iaload, .invokevirtual 108, .aload 2, .aload 0, .iload 3, .sipush 1, .iadd, .iaload, .invokevirtual 195, .if_icmp .eq 61, .sipush 0, .ireturn] ls st h := ex_ev_eq d 241 29 ls st h
set_option maxRecDepth 20000 in
theorem ev_241_30 (d : Nat) (ls st : List ex_V) (h : ex_H) : ex_ev d 241 30 ls st h = ex_xs 2 (ex_ev d 241) (ex_cd d) [.aload 1, .invokevirtual 109, .aload 2, .invokevirtual 201, .if_icmp .eq 61, .sipush 0, .ireturn] ls st h := ex_ev_eq d 241 30 ls st h
set_option maxRecDepth 20000 in
theorem ev_241_31 (d : Nat) (ls st : List ex_V) (h : ex_H) : ex_ev d 241 31 ls st h = ex_xs 2 (ex_ev d 241) (ex_cd d) [.aload 1, .aload 0, .iload 3, .sipush 1, .iadd, .iaload, .invokevirtual 110, .aload 2, .aload 0, .iload 3, .sipush 1, .iadd, .iaload, .invokevirtual 202, .if_icmp .eq 61, .sipush 0, .ireturn] ls st h := ex_ev_eq d 241 31 ls st h
set_option maxRecDepth 20000 in
theorem ev_241_32 (d : Nat) (ls st : List ex_V) (h : ex_H) : ex_ev d 241 32 ls st h = ex_xs 2 (ex_ev d 241) (ex_cd d) [.aload 1, .aload 0, .iload 3, .sipush 1, .iadd, .iaload, .aload 0, .iload 3, .sipush 2, .iadd, .iaload, .aload 0, .iload 3, .sipush 3, .iadd, .iaload, .invokevirtual 111, .aload 2, .aload 0, .iload 3, .sipush 1, .iadd, .iaload, .aload 0, .iload 3, .sipush 2, .iadd, .iaload, .aload 0, .iload 3, .sipush 3, .iadd, .iaload, .invokevirtual 203, .if_icmp .eq 61, .sipush 0, .ireturn] ls st h := ex_ev_eq d 241 32 ls st h
set_option maxRecDepth 20000 in
theorem ev_241_33 (d : Nat) (ls st : List ex_V) (h : ex_H) : ex_ev d 241 33 ls st h = ex_xs 2 (ex_ev d 241) (ex_cd d) [.aload 1, .aload 0, .iload 3, .sipush 1, .iadd, .iaload, .invokevirtual 112, .aload 2, .aload 0, .iload 3, .sipush 1, .iadd, .iaload, .invokevirtual 206, .if_icmp .eq 61, .sipush 0, .ireturn] ls st h := ex_ev_eq d 241 33 ls st h
set_option maxRecDepth 20000 in
theorem ev_241_34 (d : Nat) (ls st : List ex_V) (h : ex_H) : ex_ev d 241 34 ls st h = ex_xs 2 (ex_ev d 241) (ex_cd d) [.aload 1, .aload 0, .iload 3, .sipush 1, .iadd, .iaload, .invokevirtual 113, .aload 2, .aload 0, .iload 3, .sipush 1, .iadd, .iaload, .invokevirtual 207, .if_icmp .eq 61, .sipush 0, .ireturn] ls st h := ex_ev_eq d 241 34 ls st h
set_option maxRecDepth 20000 in
theorem ev_241_35 (d : Nat) (ls st : List ex_V) (h : ex_H) : ex_ev d 241 35 ls st h = ex_xs 2 (ex_ev d 241) (ex_cd d) [.aload 1, .invokevirtual 114, .aload 2, .invokevirtual 208, .if_icmp .eq 61, .sipush 0, .ireturn] ls st h := ex_ev_eq d 241 35 ls st h
set_option maxRecDepth 20000 in
theorem ev_241_36 (d : Nat) (ls st : List ex_V) (h : ex_H) : ex_ev d 241 36 ls st h = ex_xs 2 (ex_ev d 241) (ex_cd d) [.aload 1, .aload 0, .iload 3, .sipush 1, .iadd, .iaload, .invokevirtual 115, .aload 2, .aload 0, .iload 3, .sipush 1, .iadd, .iaload, .invokevirtual 209, .if_icmp .eq 61, .sipush 0, .ireturn] ls st h := ex_ev_eq d 241 36 ls st h
set_option maxRecDepth 20000 in
theorem ev_241_37 (d : Nat) (ls st : List ex_V) (h : ex_H) : ex_ev d 241 37 ls st h = ex_xs 2 (ex_ev d 241) (ex_cd d) [.aload 1, .aload 0, .iload 3, .sipush 1, .iadd, .iaload, .aload 0, .iload 3, .sipush 2, .iadd, .iaload, .ifCond .eq 38, .sipush 1, .goto 39] ls st h := ex_ev_eq d 241 37 ls st h
set_option maxRecDepth 20000 in
theorem ev_241_38 (d : Nat) (ls st : List ex_V) (h : ex_H) : ex_ev d 241 38 ls st h = ex_xs 2 (ex_ev d 241) (ex_cd d) [.sipush 0, .goto_w 39] ls st h := ex_ev_eq d 241 38 ls st h
set_option maxRecDepth 20000 in
theorem ev_241_39 (d : Nat) (ls st : List ex_V) (h : ex_H) : ex_ev d 241 39 ls st h = ex_xs 2 (ex_ev d 241) (ex_cd d) [.invokevirtual 116, .aload 2, .aload 0, .iload 3, .sipush 1, .iadd, .iaload, .aload 0, .iload 3, .sipush 2, .iadd, .iaload, .ifCond .eq 40, .sipush 1, .goto 41] ls st h := ex_ev_eq d 241 39 ls st h
set_option maxRecDepth 20000 in
theorem ev_241_40 (d : Nat) (ls st : List ex_V) (h : ex_H) : ex_ev d 241 40 ls st h = ex_xs 2 (ex_ev d 241) (ex_cd d) [.sipush 0, .goto_w 41] ls st h := ex_ev_eq d 241 40 ls st h
set_option maxRecDepth 20000 in
theorem ev_241_41 (d : Nat) (ls st : List ex_V) (h : ex_H) : ex_ev d 241 41 ls st h = ex_xs 2 (ex_ev d 241) (ex_cd d) [.invokevirtual 210, .if_icmp .eq 61, .sipush 0, .ireturn] ls st h := ex_ev_eq d 241 41 ls st h
set_option maxRecDepth 20000 in
theorem ev_241_42 (d : Nat) (ls st : List ex_V) (h : ex_H) : ex_ev d 241 42 ls st h = ex_xs 2 (ex_ev d 241) (ex_cd d) [.aload 1, .aload 0, .iload 3, .sipush 1, .iadd, .iaload, .aload 0, .iload 3, .sipush 2, .iadd, .iaload, .aload 0, .iload 3, .sipush 3, .iadd, .iaload, .invokevirtual 117, .aload 2, .aload 0, .iload 3, .sipush 1, .iadd, .iaload, .aload 0, .iload 3, .sipush 2, .iadd, .iaload, .aload 0, .iload 3, .sipush 3, .iadd, .iaload, .invokevirtual 211, .if_icmp .eq 61, .sipush 0, .ireturn] ls st h := ex_ev_eq d 241 42 ls st h
set_option maxRecDepth 20000 in
theorem ev_241_43 (d : Nat) (ls st : List ex_V) (h : ex_H) : ex_ev d 241 43 ls st h = ex_xs 2 (ex_ev d 241) (ex_cd d) [.aload 1, .aload 0, .iload 3, .sipush 1, .iadd, .iaload, .invokevirtual 118, .aload 2, .aload 0, .iload 3, .sipush 1, .iadd, .iaload, .invokevirtual 213, .if_icmp .eq 61, .sipush 0, .ireturn] ls st h := ex_ev_eq d 241 43 ls st h
set_option maxRecDepth 20000 in
theorem ev_241_44 (d : Nat) (ls st : List ex_V) (h : ex_H) : ex_ev d 241 44 ls st h = ex_xs 2 (ex_ev d 241) (ex_cd d) [.aload 1, .invokevirtual 119, .aload 2, .invokevirtual 215, .if_icmp .eq 61, .sipush 0, .ireturn] ls st h := ex_ev_eq d 241 44 ls st h
set_option maxRecDepth 20000 in
theorem ev_241_45 (d : Nat) (ls st : List ex_V) (h : ex_H) : ex_ev d 241 45 ls st h = ex_xs 2 (ex_ev d 241) (ex_cd d) [.aload 1, .aload 0, .iload 3, .sipush 1, .iadd, .iaload, .aload 0, .iload 3, .sipush 2, .iadd, .iaload, .aload 0, .iload 3, .sipush 3, .iadd, .iaload, .invokevirtual 120, .aload 2, .aload 0, .iload 3, .sipush 1, .iadd, .iaload, .aload 0, .iload 3, .sipush 2, .iadd, .iaload, .aload 0, .iload 3, .sipush 3, .iadd, .iaload, .invokevirtual 219, .if_icmp .eq 61, .sipush 0, .ireturn] ls st h := ex_ev_eq d 241 45 ls st h
set_option maxRecDepth 20000 in
theorem ev_241_46 (d : Nat) (ls st : List ex_V) (h : ex_H) : ex_ev d 241 46 ls st h = ex_xs 2 (ex_ev d 241) (ex_cd d) [.aload 1, .aload 0, .iload 3, .sipush 1, .iadd, .iaload, .aload 0, .iload 3, .sipush 2, .iadd, .iaload, .invokevirtual 121, .aload 2, .aload 0, .iload 3, .sipush 1, .iadd, .iaload, .aload 0, .iload 3, .sipush 2, .iadd, .iaload, .invokevirtual 220, .if_icmp .eq 61, .sipush 0, .ireturn] ls st h := ex_ev_eq d 241 46 ls st h
set_option maxRecDepth 20000 in
theorem ev_241_47 (d : Nat) (ls st : List ex_V) (h : ex_H) : ex_ev d 241 47 ls st h = ex_xs 2 (ex_ev d 241) (ex_cd d) [.aload 1, .aload 0, .iload 3, .sipush 1, .iadd, .iaload, .invokevirtual 122, .aload 2, .aload 0, .iload 3, .sipush 1, .iadd, .iaload, .invokevirtual 221, .if_icmp .eq 61, .sipush 0, .ireturn] ls st h := ex_ev_eq d 241 47 ls st h
set_option maxRecDepth 20000 in
theorem ev_241_48 (d : Nat) (ls st : List ex_V) (h : ex_H) : ex_ev d 241 48 ls st h = ex_xs 2 (ex_ev d 241) (ex_cd d) [.aload 1, .invokevirtual 123, .aload 2, .invokevirtual 225, .if_icmp .eq 61, .sipush 0, .ireturn] ls st h := ex_ev_eq d 241 48 ls st h
set_option maxRecDepth 20000 in
theorem ev_241_49 (d : Nat) (ls st : List ex_V) (h : ex_H) : ex_ev d 241 49 ls st h = ex_xs 2 (ex_ev d 241) (ex_cd d) [.aload 1, .aload 0, .iload 3, .sipush 1, .iadd, .iaload, .invokevirtual 124, .aload 2, .aload 0, .iload 3, .sipush 1, .iadd, .iaload, .invokevirtual 226, .if_icmp .eq 61, .sipush 0, .ireturn] ls st h := ex_ev_eq d 241 49 ls st h
set_option maxRecDepth 20000 in
theorem ev_241_50 (d : Nat) (ls st : List ex_V) (h : ex_H) : ex_ev d 241 50 ls st h = ex_xs 2 (ex_ev d 241) (ex_cd d) [.aload 1, .aload 0, .iload 3, .sipush 1, .iadd, .iaload, .aload 0, .iload 3, .sipush 2, .iadd, .iaload, .aload 0, .iload 3, .sipush 3, .iadd, .iaload, .ifCond .eq 51, .sipush 1, .goto 52] ls st h := ex_ev_eq d 241 50 ls st h
set_option maxRecDepth 20000 in
theorem ev_241_51 (d : Nat) (ls st : List ex_V) (h : ex_H) : ex_ev d 241 51 ls st h = ex_xs 2 (ex_ev d 241) (ex_cd d) [.sipush 0, .goto_w 52] ls st h := ex_ev_eq d 241 51 ls st h
set_option maxRecDepth 20000 in
theorem ev_241_52 (d : Nat) (ls st : List ex_V) (h : ex_H) : ex_ev d 241 52 ls st h = ex_xs 2 (ex_ev d 241) (ex_cd d) [.invokevirtual 125, .aload 2, .aload 0, .iload 3, .sipush 1, .iadd, .iaload, .aload 0, .iload 3, .sipush 2, .iadd, .iaload, .aload 0, .iload 3, .sipush 3, .iadd, .iaload, .ifCond .eq 53, .sipush 1, .goto 54] ls st h := ex_ev_eq d 241 52 ls st h
set_option maxRecDepth 20000 in
theorem ev_241_53 (d : Nat) (ls st : List ex_V) (h : ex_H) : ex_ev d 241 53 ls st h = ex_xs 2 (ex_ev d 241) (ex_cd d) [.sipush 0, .goto_w 54] ls st h := ex_ev_eq d 241 53 ls st h
set_option maxRecDepth 20000 in
theorem ev_241_54 (d : Nat) (ls st : List ex_V) (h : ex_H) : ex_ev d 241 54 ls st h = ex_xs 2 (ex_ev d 241) (ex_cd d) [.invokevirtual 227, .if_icmp .eq 61, .sipush 0, .ireturn] ls st h := ex_ev_eq d 241 54 ls st h
set_option maxRecDepth 20000 in
theorem ev_241_55 (d : Nat) (ls st : List ex_V) (h : ex_H) : ex_ev d 241 55 ls st h = ex_xs 2 (ex_ev d 241) (ex_cd d) [.aload 1, .aload 0, .iload 3, .sipush 1, .iadd, .iaload, .aload 0, .iload 3, .sipush 2, .iadd, .iaload, .aload 0, .iload 3, .sipush 3, .iadd, .iaload, .invokevirtual 126, .aload 2, .aload 0, .iload 3, .sipush 1, .iadd, .iaload, .aload 0, .iload 3, .sipush 2, .iadd, .iaload, .aload 0, .iload 3, .sipush 3, .iadd, .iaload, .invokevirtual 229, .if_icmp .eq 61, .sipush 0, .ireturn] ls st h := ex_ev_eq d 241 55 ls st h
set_option maxRecDepth 20000 in
theorem ev_241_56 (d : Nat) (ls st : List ex_V) (h : ex_H) : ex_ev d 241 56 ls st h = ex_xs 2 (ex_ev d 241) (ex_cd d) [.aload 1, .aload 0, .iload 3, .sipush 1, .iadd, .iaload, .aload 0, .iload 3, .sipush 2, .iadd, .iaload, .aload 0, .iload 3, .sipush 3, .iadd, .iaload, .invokevirtual 127, .aload 2, .aload 0, .iload 3, .sipush 1, .iadd, .iaload, .aload 0, .iload 3, .sipush 2, .iadd, .iaload, .aload 0, .iload 3, .sipush 3, .iadd, .iaload, .invokevirtual 231, .if_icmp .eq 61, .sipush 0, .ireturn] ls st h := ex_ev_eq d 241 56 ls st h
set_option maxRecDepth 20000 in
theorem ev_241_57 (d : Nat) (ls st : List ex_V) (h : ex_H) : ex_ev d 241 57 ls st h = ex_xs 2 (ex_ev d 241) (ex_cd d) [.aload 1, .aload 0, .iload 3, .sipush 1, .iadd, .iaload, .aload 0, .iload 3, .sipush 2, .iadd, .iaload, .aload 0, .iload 3, .sipush 3, .iadd, .iaload, .invokevirtual 128, .aload 2, .aload 0, .iload 3, .sipush 1, .iadd, .iaload, .aload 0, .iload 3, .sipush 2, .iadd, .iaload, .aload 0, .iload 3, .sipush 3, .iadd, .iaload, .invokevirtual 232, .if_icmp .eq 61, .sipush 0, .ireturn] ls st h := ex_ev_eq d 241 57 ls st h
set_option maxRecDepth 20000 in
theorem ev_241_58 (d : Nat) (ls st : List ex_V) (h : ex_H) : ex_ev d 241 58 ls st h = ex_xs 2 (ex_ev d 241) (ex_cd d) [.aload 1, .aload 0, .iload 3, .sipush 1, .iadd, .iaload, .aload 0, .iload 3, .sipush 2, .iadd, .iaload, .aload 0, .iload 3, .sipush 3, .iadd, .iaload, .aload 0, .iload 3, .sipush 4, .iadd, .iaload, .aload 0, .iload 3, .sipush 5, .iadd, .iaload, .invokevirtual 129, .aload 2, .aload 0, .iload 3, .sipush 1, .iadd, .iaload, .aload 0, .iload 3, .sipush 2, .iadd, .iaload, .aload 0, .iload 3, .sipush 3, .iadd, .iaload, .aload 0, .iload 3, .sipush 4, .iadd, .iaload, .aload 0, .iload 3, .sipush 5, .iadd, .iaload, .invokevirtual 233, .if_icmp .eq 61, .sipush 0, .ireturn] ls st h := ex_ev_eq d 241 58 ls st h
set_option maxRecDepth 20000 in
theorem ev_241_59 (d : Nat) (ls st : List ex_V) (h : ex_H) : ex_ev d 241 59 ls st h = ex_xs 2 (ex_ev d 241) (ex_cd d) [.aload 1, .invokevirtual 130, .aload 2, .invokevirtual 148, .if_icmp .eq 61, .sipush 0, .ireturn] ls st h := ex_ev_eq d 241 59 ls st h
set_option maxRecDepth 20000 in
theorem ev_241_60 (d : Nat) (ls st : List ex_V) (h : ex_H) : ex_ev d 241 60 ls st h = ex_xs 2 (ex_ev d 241) (ex_cd d) [.aload 1, .aload 0, .iload 3, .sipush 1, .iadd, .iaload, .invokevirtual 131, .aload 2, .aload 0, .iload 3, .sipush 1, .iadd, .iaload, .invokevirtual 234, .if_icmp .eq 61, .sipush 0, .ireturn] ls st h := ex_ev_eq d 241 60 ls st h
set_option maxRecDepth 20000 in
theorem ev_241_61 (d : Nat) (ls st : List ex_V) (h : ex_H) : ex_ev d 241 61 ls st h = ex_xs 2 (ex_ev d 241) (ex_cd d) [.iinc 3 7, .goto 1] ls st h := ex_ev_eq d 241 61 ls st h
set_option maxRecDepth 20000 in
theorem ev_241_62 (d : Nat) (ls st : List ex_V) (h : ex_H) : ex_ev d 241 62 ls st h = ex_xs 2 (ex_ev d 241) (ex_cd d) [.sipush 1, .ireturn] ls st h := ex_ev_eq d 241 62 ls st h
set_option maxRecDepth 20000 in
theorem ev_241_63 (d : Nat) (ls st : List ex_V) (h : ex_H) : ex_ev d 241 63 ls st h = ex_xs 2 (ex_ev d 241) (ex_cd d) [.iload 3, .aload 0, .arraylength, .sipush 7, .isub, .if_icmp .gt 62, .aload 0, .iload 3, .iaload, .sipush 63, .iand, .tableswitch 61 0 46 #[2, 3, 4, 5, 10, 11, 12, 13, 14, 15, 16, 17, 18, 19, 20, 21, 22, 23, 24, 25, 26, 27, 28, 29, 30, 31, 32, 33, 34, 35, 36, 37, 42, 43, 44, 45, 46, 47, 48, 49, 50, 55, 56, 57, 58, 59, 60]] ls st h := ex_ev_eq d 241 63 ls st h
