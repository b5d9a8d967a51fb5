/-! the class: keys, counts, cars ahead, mornings -/
theorem y_iushr {rt : Nat} {J : Nat → List ex_V → List ex_V → ex_H → Option ex_R} {C : Nat → List ex_V → ex_H → Option ex_R} {is : List Instr} {ls st : List ex_V} {h : ex_H} {a b : Int} : ex_xs rt J C (.iushr :: is) ls (vI b :: vI a :: st) h = ex_xs rt J C is ls (vI (ex_ushr a b) :: st) h := by
  rw [x_iushr]
theorem sp_41 {d : Nat} (hd : 0 < d) {L : Nat} {σ : ex_S} {n : Int → Int} {c h m : Int} (hD : RD5 σ n) (hN : NI n) (hm : 0 ≤ m) (hm2 : m ≤ n 10) : ex_cd d 41 [vR 21, vI c, vI h, vI m] (SH L, σ) = some ([vI (b2i (keyP n c h m))], (SH L, σ)) := by
  rw [ex_cd_eq (by omega)]
  show ex_ev (d - 1) 41 0 [vR 21, vI c, vI h, vI m, vL 0, vL 0, vL 0] [] (SH L, σ) = _
  (have := hN.a0; have := hN.b0; have := hN.a1; have := hN.b1; have := hN.a2; have := hN.b2; have := hN.a3; have := hN.b3; have := hN.a4; have := hN.b4; have := hN.a5; have := hN.b5; have := hN.a7; have := hN.b7; have := hN.a8; have := hN.b8; have := hN.a9; have := hN.b9; have := hN.a10; have := hN.b10; have := hN.oM; have := hN.oP)
  have kc := hD.kc
  have lp : ∀ i : Nat, i ≤ m.toNat → ∀ (f b : Int), keyR n c h i = (f, b) → ex_ev (d - 1) 41 1 [vR 21, vI c, vI h, vI m, vI f, vI b, vI (i : Int)] [] (SH L, σ) = some ([vI (b2i (keyP n c h m))], (SH L, σ)) := by
    refine down ?_ ?_
    · intro f b hk
      have h01 := keyR_01 n c h m.toNat
      rw [hk] at h01
      have e : b2i (keyP n c h m) = b := by
        unfold keyP
        rw [hk]
        rcases h01 with h | h
        · dsimp only at h; subst h; rfl
        · dsimp only at h; subst h; rfl
      rw [e]
      dsimp only at h01
      rw [ev_41_1]
      (repeat' first | simp (disch := first | assumption | omega | ((repeat' first | exact ok_nil | apply ok_I | apply ok_R); done) | (simp (disch := first | omega | decide) only [ex_ar_same, ex_ar_diff, kM_diff, ex_u_same, ex_u_diff]; first | assumption | omega)) only [ev_41_0, ev_41_2, ev_41_3, ev_41_4, ev_41_5, gf_21_0, gf_21_1, gf_21_2, gf_21_3, ld_22, ld_23, ld_24, x_fall, x_goto, x_push, x_ret2, x_ret2b, xl_a0, xl_i1, xl_i2, xl_i3, xl_i4, xl_i5, xl_i6, xn_6, xt_i4, xt_i5, xt_i6, y_cmp_ge_f, y_cmp_ge_t, y_cmp_gt_f, y_cmp_gt_t, y_cmp_lt_f, y_cmp_lt_t, y_cmp_ne_f, y_cmp_ne_t, y_if_eq_f, y_if_eq_t, i_wr_id, kM_diff, Int.reduceToNat, ex_ar_same, ex_ar_ar, ex_ar_diff, ex_u_same, ex_u_diff, b2i_t, b2i_f, ex_div_nn, ex_rem_nn, Int.toNat_zero, Int.toNat_one, Int.reduceAdd, Int.reduceSub, Int.reduceMul, Int.reduceNeg, kC_ne, fC_ne] | refine bb_eq (fun _ => ?_) (fun _ => ?_) | refine bb_ne (fun _ => ?_) (fun _ => ?_) | refine bc_eq (fun _ => ?_) (fun _ => ?_) | refine bc_ne (fun _ => ?_) (fun _ => ?_) | refine bc_lt (fun _ => ?_) (fun _ => ?_) | refine bc_ge (fun _ => ?_) (fun _ => ?_) | refine bc_gt (fun _ => ?_) (fun _ => ?_) | refine bc_le (fun _ => ?_) (fun _ => ?_) | refine bi_eq (fun _ => ?_) (fun _ => ?_) | refine bi_ne (fun _ => ?_) (fun _ => ?_) | refine bi_lt (fun _ => ?_) (fun _ => ?_) | refine bi_ge (fun _ => ?_) (fun _ => ?_) | refine bi_gt (fun _ => ?_) (fun _ => ?_) | refine bi_le (fun _ => ?_) (fun _ => ?_))
    · intro i hi ih f b hk
      obtain ⟨o1, o2, o3, o4⟩ := hD.ky i (by omega) (by omega)
      have e1 : n (247 + (i : Int)) % 8 = σ 22 i := by omega
      have e2 : n (247 + (i : Int)) / 8 % 32 = σ 23 i := by omega
      have hs : keyR n c h (i + 1) = if σ 22 i = c ∧ σ 23 i ≤ h ∧ f ≤ σ 23 i then (σ 23 i, if 256 ≤ n (247 + (i : Int)) then 1 else 0) else (f, b) := by
        rw [keyR, hk]
        unfold keyF
        dsimp only
        rw [e1, e2]
      rw [ev_41_1]
      (repeat' first | simp (disch := first | assumption | omega | ((repeat' first | exact ok_nil | apply ok_I | apply ok_R); done) | (simp (disch := first | omega | decide) only [ex_ar_same, ex_ar_diff, kM_diff, ex_u_same, ex_u_diff]; first | assumption | omega)) only [ev_41_0, ev_41_2, ev_41_3, ev_41_4, ev_41_5, gf_21_0, gf_21_1, gf_21_2, gf_21_3, ld_22, ld_23, ld_24, x_fall, x_goto, x_push, x_ret2, x_ret2b, xl_a0, xl_i1, xl_i2, xl_i3, xl_i4, xl_i5, xl_i6, xn_6, xt_i4, xt_i5, xt_i6, y_cmp_ge_f, y_cmp_ge_t, y_cmp_gt_f, y_cmp_gt_t, y_cmp_lt_f, y_cmp_lt_t, y_cmp_ne_f, y_cmp_ne_t, y_if_eq_f, y_if_eq_t, i_wr_id, kM_diff, Int.reduceToNat, ex_ar_same, ex_ar_ar, ex_ar_diff, ex_u_same, ex_u_diff, b2i_t, b2i_f, ex_div_nn, ex_rem_nn, Int.toNat_zero, Int.toNat_one, Int.reduceAdd, Int.reduceSub, Int.reduceMul, Int.reduceNeg, kC_ne, fC_ne] | refine bb_eq (fun _ => ?_) (fun _ => ?_) | refine bb_ne (fun _ => ?_) (fun _ => ?_) | refine bc_eq (fun _ => ?_) (fun _ => ?_) | refine bc_ne (fun _ => ?_) (fun _ => ?_) | refine bc_lt (fun _ => ?_) (fun _ => ?_) | refine bc_ge (fun _ => ?_) (fun _ => ?_) | refine bc_gt (fun _ => ?_) (fun _ => ?_) | refine bc_le (fun _ => ?_) (fun _ => ?_) | refine bi_eq (fun _ => ?_) (fun _ => ?_) | refine bi_ne (fun _ => ?_) (fun _ => ?_) | refine bi_lt (fun _ => ?_) (fun _ => ?_) | refine bi_ge (fun _ => ?_) (fun _ => ?_) | refine bi_gt (fun _ => ?_) (fun _ => ?_) | refine bi_le (fun _ => ?_) (fun _ => ?_))
      all_goals
        rw [nat_cast_succ]
        refine ih _ _ ?_
        rw [hs]
        (try simp (disch := first | assumption | omega) only [if_pos, if_neg])
  simp (disch := first | assumption | omega | ((repeat' first | exact ok_nil | apply ok_I | apply ok_R); done) | (simp (disch := first | omega | decide) only [ex_ar_same, ex_ar_diff, kM_diff, ex_u_same, ex_u_diff]; first | assumption | omega)) only [ev_41_0, ev_41_2, ev_41_3, ev_41_4, ev_41_5, gf_21_0, gf_21_1, gf_21_2, gf_21_3, ld_22, ld_23, ld_24, x_fall, x_goto, x_push, x_ret2, x_ret2b, xl_a0, xl_i1, xl_i2, xl_i3, xl_i4, xl_i5, xl_i6, xn_6, xt_i4, xt_i5, xt_i6, y_cmp_ge_f, y_cmp_ge_t, y_cmp_gt_f, y_cmp_gt_t, y_cmp_lt_f, y_cmp_lt_t, y_cmp_ne_f, y_cmp_ne_t, y_if_eq_f, y_if_eq_t, i_wr_id, kM_diff, Int.reduceToNat, ex_ar_same, ex_ar_ar, ex_ar_diff, ex_u_same, ex_u_diff, b2i_t, b2i_f, ex_div_nn, ex_rem_nn, Int.toNat_zero, Int.toNat_one, Int.reduceAdd, Int.reduceSub, Int.reduceMul, Int.reduceNeg, kC_ne, fC_ne]
  exact lp 0 (by omega) _ _ rfl
theorem xc_41 {rt d : Nat} {J : Nat → List ex_V → List ex_V → ex_H → Option ex_R} {is : List Instr} {ls st : List ex_V} {L : Nat} {σ : ex_S} {n : Int → Int} {c h m : Int} (hD : RD5 σ n) (hN : NI n) (hm : 0 ≤ m) (hm2 : m ≤ n 10) (hd : 0 < d) (hok : okN 8 st = true) : ex_xs rt J (ex_cd d) (.invokevirtual 41 :: is) ls (vI m :: vI h :: vI c :: vR 21 :: st) (SH L, σ) = ex_xs rt J (ex_cd d) is ls (vI (b2i (keyP n c h m)) :: st) (SH L, σ) := x_call1 (Or.inl rfl) rfl (sh_21 _) (Or.inl ⟨rfl, rfl⟩) (as := [vI c, vI h, vI m]) rfl rfl (okN_ok hok) rfl (sp_41 hd hD hN hm hm2)
theorem ck_126 {L d : Nat} {σ : ex_S} {c h m : Int} (hC : CI σ) (hd : 20 < d) : CK 126 229 [vI c, vI h, vI m] σ L d := by
  (have p0 := hC.pr.p0; have p1 := hC.pr.p1; have k0 := hC.pr.k0; have k1 := hC.pr.k1; have kq := hC.pr.q; have q0 : 0 ≤ σ 4 10 := (by omega); have q1 : σ 4 10 ≤ 16 := (by omega); have hN := hC.ni; have hR := hC.rd.g; have hD := hC.rd; have hT := hC.st)
  have kc := hD.kc
  by_cases g : (0 ≤ c ∧ c < σ 433 1) ∧ (0 ≤ h ∧ h ≤ 23) ∧ 0 ≤ m ∧ m ≤ σ 433 10
  · obtain ⟨g1, g2, g3⟩ := id g
    have t2 : σ 432 = σ 432 := rfl
    have t3 : σ 433 = σ 433 := rfl
    have t5 : σ 435 = σ 435 := rfl
    have t6 : σ 436 = σ 436 := rfl
    have t7 : σ 437 = σ 437 := rfl
    have u1 : 0 ≤ σ 432 2 := by rw [t2]; exact k0
    have u2 : σ 432 2 ≤ 16 := by rw [t2]; exact k1
    have uN : NI (σ 433) := by rw [t3]; exact hN
    have uS : SI (σ 435) (σ 436) := by rw [t5, t6]; exact hC.si
    have := uN.a0; have := uN.b0; have := uN.a1; have := uN.b1; have := uN.a2; have := uN.b2; have := uN.a3; have := uN.b3; have := uN.a4; have := uN.b4; have := uN.a5; have := uN.b5; have := uN.a7; have := uN.b7; have := uN.a8; have := uN.b8; have := uN.a9; have := uN.b9; have := uN.a10; have := uN.b10
    have r := sp_229 (L := L) (d := d) (σ := σ) (c := c) (h := h) (m := m) (by omega) (by first | assumption | exact uN.oM | exact uN.oP | omega)
    simp only [keyM, if_pos g] at r
    refine ck_get hC ?_ r
    (rw [ex_cd_eq (by omega)]; show ex_ev (d - 1) 126 0 [vR 4, vI c, vI h, vI m] [] _ = _; (repeat' first | simp (disch := first | assumption | omega | ((repeat' first | exact ok_nil | apply ok_I | apply ok_R); done) | (simp (disch := first | omega | decide) only [ex_ar_same, ex_ar_diff, kM_diff, ex_u_same, ex_u_diff]; first | assumption | omega)) only [ev_126_0, ev_126_1, ev_126_2, ev_126_3, ev_126_4, gf_21_0, gf_4_0, gf_5_0, gf_5_2, kc, x_fall, x_goto, x_push, x_ret1, xc_132, xc_137, xc_138, xc_14_35, xc_14_6, xc_41, xl_a0, xl_i1, xl_i2, xl_i3, y_if_eq_f, y_if_eq_t, y_if_ne_f, y_if_ne_t, i_wr_id, kM_diff, Int.reduceToNat, ex_ar_same, ex_ar_ar, ex_ar_diff, ex_u_same, ex_u_diff, b2i_t, b2i_f, ex_div_nn, ex_rem_nn, Int.toNat_zero, Int.toNat_one, Int.reduceAdd, Int.reduceSub, Int.reduceMul, Int.reduceNeg, kC_ne, fC_ne] | refine bb_eq (fun _ => ?_) (fun _ => ?_) | refine bb_ne (fun _ => ?_) (fun _ => ?_) | refine bc_eq (fun _ => ?_) (fun _ => ?_) | refine bc_ne (fun _ => ?_) (fun _ => ?_) | refine bc_lt (fun _ => ?_) (fun _ => ?_) | refine bc_ge (fun _ => ?_) (fun _ => ?_) | refine bc_gt (fun _ => ?_) (fun _ => ?_) | refine bc_le (fun _ => ?_) (fun _ => ?_) | refine bi_eq (fun _ => ?_) (fun _ => ?_) | refine bi_ne (fun _ => ?_) (fun _ => ?_) | refine bi_lt (fun _ => ?_) (fun _ => ?_) | refine bi_ge (fun _ => ?_) (fun _ => ?_) | refine bi_gt (fun _ => ?_) (fun _ => ?_) | refine bi_le (fun _ => ?_) (fun _ => ?_)))
  · have t2 : (fC σ) 432 = σ 432 := fC_ne _ (by decide)
    have t3 : (fC σ) 433 = σ 433 := fC_ne _ (by decide)
    have t5 : (fC σ) 435 = σ 435 := fC_ne _ (by decide)
    have t6 : (fC σ) 436 = σ 436 := fC_ne _ (by decide)
    have t7 : (fC σ) 437 = σ 437 := fC_ne _ (by decide)
    have u1 : 0 ≤ (fC σ) 432 2 := by rw [t2]; exact k0
    have u2 : (fC σ) 432 2 ≤ 16 := by rw [t2]; exact k1
    have uN : NI ((fC σ) 433) := by rw [t3]; exact hN
    have uS : SI ((fC σ) 435) ((fC σ) 436) := by rw [t5, t6]; exact hC.si
    have := uN.a0; have := uN.b0; have := uN.a1; have := uN.b1; have := uN.a2; have := uN.b2; have := uN.a3; have := uN.b3; have := uN.a4; have := uN.b4; have := uN.a5; have := uN.b5; have := uN.a7; have := uN.b7; have := uN.a8; have := uN.b8; have := uN.a9; have := uN.b9; have := uN.a10; have := uN.b10
    have r := sp_229 (L := L) (d := d) (σ := fC σ) (c := c) (h := h) (m := m) (by omega) (by first | assumption | exact uN.oM | exact uN.oP | omega)
    simp only [keyM, t3, if_neg g] at r
    refine ck_fnd hC ?_ r
    (rw [ex_cd_eq (by omega)]; show ex_ev (d - 1) 126 0 [vR 4, vI c, vI h, vI m] [] _ = _; (repeat' first | simp (disch := first | assumption | omega | ((repeat' first | exact ok_nil | apply ok_I | apply ok_R); done) | (simp (disch := first | omega | decide) only [ex_ar_same, ex_ar_diff, kM_diff, ex_u_same, ex_u_diff]; first | assumption | omega)) only [ev_126_0, ev_126_1, ev_126_2, ev_126_3, ev_126_4, gf_21_0, gf_4_0, gf_5_0, gf_5_2, kc, x_fall, x_goto, x_push, x_ret1, xc_132, xc_137, xc_138, xc_14_35, xc_14_6, xc_41, xl_a0, xl_i1, xl_i2, xl_i3, y_if_eq_f, y_if_eq_t, y_if_ne_f, y_if_ne_t, i_wr_id, kM_diff, Int.reduceToNat, ex_ar_same, ex_ar_ar, ex_ar_diff, ex_u_same, ex_u_diff, b2i_t, b2i_f, ex_div_nn, ex_rem_nn, Int.toNat_zero, Int.toNat_one, Int.reduceAdd, Int.reduceSub, Int.reduceMul, Int.reduceNeg, kC_ne, fC_ne] | refine bb_eq (fun _ => ?_) (fun _ => ?_) | refine bb_ne (fun _ => ?_) (fun _ => ?_) | refine bc_eq (fun _ => ?_) (fun _ => ?_) | refine bc_ne (fun _ => ?_) (fun _ => ?_) | refine bc_lt (fun _ => ?_) (fun _ => ?_) | refine bc_ge (fun _ => ?_) (fun _ => ?_) | refine bc_gt (fun _ => ?_) (fun _ => ?_) | refine bc_le (fun _ => ?_) (fun _ => ?_) | refine bi_eq (fun _ => ?_) (fun _ => ?_) | refine bi_ne (fun _ => ?_) (fun _ => ?_) | refine bi_lt (fun _ => ?_) (fun _ => ?_) | refine bi_ge (fun _ => ?_) (fun _ => ?_) | refine bi_gt (fun _ => ?_) (fun _ => ?_) | refine bi_le (fun _ => ?_) (fun _ => ?_)))
    all_goals exact absurd ⟨by assumption, by assumption, by assumption⟩ g
theorem sp_35 {d : Nat} (hd : 0 < d) {L : Nat} {σ : ex_S} {n : Int → Int} (hR : RG6 σ n) (hN : NI n) : ex_cd d 35 [vR 6] (SH L, σ) = some ([vI (sumN n (n 0).toNat)], (SH L, σ)) := by
  rw [ex_cd_eq (by omega)]
  show ex_ev (d - 1) 35 0 [vR 6, vL 0, vL 0] [] (SH L, σ) = _
  have a0 := hN.a0
  have b0 := hN.b0
  have la := hR.la
  have lp : ∀ i : Nat, i ≤ (n 0).toNat → ex_ev (d - 1) 35 1 [vR 6, vI (sumN n i), vI (i : Int)] [] (SH L, σ) = some ([vI (sumN n (n 0).toNat)], (SH L, σ)) := by
    refine down ?_ ?_
    · rw [ev_35_1]
      simp (disch := first | assumption | omega | ((repeat' first | exact ok_nil | apply ok_I | apply ok_R); done) | (simp (disch := first | omega | decide) only [ex_ar_same, ex_ar_diff, kM_diff, ex_u_same, ex_u_diff]; first | assumption | omega)) only [ev_35_0, ev_35_2, gf_35_0, gf_35_9, gf_6_0, gf_6_9, ld_14, ld_43, x_fall, x_goto, x_push, x_ret1, xl_a0, xl_i1, xl_i2, xn_2, xt_i1, xt_i2, y_cmp_ge_f, y_cmp_ge_t, y_iadd, i_wr_id, kM_diff, Int.reduceToNat, ex_ar_same, ex_ar_ar, ex_ar_diff, ex_u_same, ex_u_diff, b2i_t, b2i_f, ex_div_nn, ex_rem_nn, Int.toNat_zero, Int.toNat_one, Int.reduceAdd, Int.reduceSub, Int.reduceMul, Int.reduceNeg, kC_ne, fC_ne]
    · intro i hi ih
      have b := sumN_bd hN i (by omega)
      have y := hN.oM i (by omega) (by omega)
      have y2 := hR.st i (by omega) (by omega)
      rw [sumN] at ih
      rw [ev_35_1]
      simp (disch := first | assumption | omega | ((repeat' first | exact ok_nil | apply ok_I | apply ok_R); done) | (simp (disch := first | omega | decide) only [ex_ar_same, ex_ar_diff, kM_diff, ex_u_same, ex_u_diff]; first | assumption | omega)) only [ev_35_0, ev_35_2, gf_35_0, gf_35_9, gf_6_0, gf_6_9, ld_14, ld_43, x_fall, x_goto, x_push, x_ret1, xl_a0, xl_i1, xl_i2, xn_2, xt_i1, xt_i2, y2, y_cmp_ge_f, y_cmp_ge_t, y_iadd, i_wr_id, kM_diff, Int.reduceToNat, ex_ar_same, ex_ar_ar, ex_ar_diff, ex_u_same, ex_u_diff, b2i_t, b2i_f, ex_div_nn, ex_rem_nn, Int.toNat_zero, Int.toNat_one, Int.reduceAdd, Int.reduceSub, Int.reduceMul, Int.reduceNeg, kC_ne, fC_ne]
      rw [nat_cast_succ]
      exact ih
  simp (disch := first | assumption | omega | ((repeat' first | exact ok_nil | apply ok_I | apply ok_R); done) | (simp (disch := first | omega | decide) only [ex_ar_same, ex_ar_diff, kM_diff, ex_u_same, ex_u_diff]; first | assumption | omega)) only [ev_35_0, ev_35_2, gf_35_0, gf_35_9, gf_6_0, gf_6_9, ld_14, ld_43, x_fall, x_goto, x_push, x_ret1, xl_a0, xl_i1, xl_i2, xn_2, xt_i1, xt_i2, y_cmp_ge_f, y_cmp_ge_t, y_iadd, i_wr_id, kM_diff, Int.reduceToNat, ex_ar_same, ex_ar_ar, ex_ar_diff, ex_u_same, ex_u_diff, b2i_t, b2i_f, ex_div_nn, ex_rem_nn, Int.toNat_zero, Int.toNat_one, Int.reduceAdd, Int.reduceSub, Int.reduceMul, Int.reduceNeg, kC_ne, fC_ne]
  exact lp 0 (by omega)
theorem xc_35 {rt d : Nat} {J : Nat → List ex_V → List ex_V → ex_H → Option ex_R} {is : List Instr} {ls st : List ex_V} {L : Nat} {σ : ex_S} {n : Int → Int} (hR : RG6 σ n) (hN : NI n) (hd : 0 < d) (hok : okN 8 st = true) : ex_xs rt J (ex_cd d) (.invokevirtual 35 :: is) ls (vR 6 :: st) (SH L, σ) = ex_xs rt J (ex_cd d) is ls (vI (sumN n (n 0).toNat) :: st) (SH L, σ) := x_call1 (Or.inl rfl) rfl (sh_6 _) (Or.inl ⟨rfl, rfl⟩) (as := []) rfl rfl (okN_ok hok) rfl (sp_35 hd hR hN)
theorem ck_131 {L d : Nat} {σ : ex_S} {v : Int} (hC : CI σ) (hd : 20 < d) : CK 131 234 [vI v] σ L d := by
  (have p0 := hC.pr.p0; have p1 := hC.pr.p1; have k0 := hC.pr.k0; have k1 := hC.pr.k1; have kq := hC.pr.q; have q0 : 0 ≤ σ 4 10 := (by omega); have q1 : σ 4 10 ≤ 16 := (by omega); have hN := hC.ni; have hR := hC.rd.g; have hD := hC.rd; have hT := hC.st)
  have e0 := hR.la
  have e1 := hR.ca
  have e3 := hD.i12
  have e4 := hD.kc
  have e5 := hD.lc
  have e6 := hC.fn
  by_cases g : 0 ≤ v ∧ v ≤ 6
  · rcases (show v = 0 ∨ v = 1 ∨ v = 2 ∨ v = 3 ∨ v = 4 ∨ v = 5 ∨ v = 6 by omega) with rfl | rfl | rfl | rfl | rfl | rfl | rfl
    · have r := sp_234 (L := L) (d := d) (σ := σ) (w := 0) (by omega) hN
      simp only [allM, if_pos g, Int.reduceEq, reduceIte] at r
      have tb : (#[1, 2, 3, 4, 5, 6, 7] : Array Int)[((0 : Int) - 0).toNat]? = some 1 := rfl
      refine ck_get hC ?_ r
      (rw [ex_cd_eq (by omega)]; show ex_ev (d - 1) 131 0 [vR 4, vI 0] [] _ = _; (repeat' first | simp (disch := first | assumption | omega | ((repeat' first | exact ok_nil | apply ok_I | apply ok_R); done) | (simp (disch := first | omega | decide) only [ex_ar_same, ex_ar_diff, kM_diff, ex_u_same, ex_u_diff]; first | assumption | omega)) only [e0, e1, e3, e4, e5, e6, ev_131_0, ev_131_1, ev_131_2, ev_131_3, ev_131_4, ev_131_5, ev_131_6, ev_131_7, ev_131_8, gf_18_0, gf_21_0, gf_35_0, gf_35_1, gf_4_0, gf_4_11, gf_5_0, gf_5_1, gf_5_12, gf_5_2, gf_6_0, gf_6_1, x_push, x_ret1, xc_132, xc_35, xl_a0, xl_i1, y_tab_d, y_tab_k, i_wr_id, kM_diff, Int.reduceToNat, ex_ar_same, ex_ar_ar, ex_ar_diff, ex_u_same, ex_u_diff, b2i_t, b2i_f, ex_div_nn, ex_rem_nn, Int.toNat_zero, Int.toNat_one, Int.reduceAdd, Int.reduceSub, Int.reduceMul, Int.reduceNeg, kC_ne, fC_ne] | refine bb_eq (fun _ => ?_) (fun _ => ?_) | refine bb_ne (fun _ => ?_) (fun _ => ?_) | refine bc_eq (fun _ => ?_) (fun _ => ?_) | refine bc_ne (fun _ => ?_) (fun _ => ?_) | refine bc_lt (fun _ => ?_) (fun _ => ?_) | refine bc_ge (fun _ => ?_) (fun _ => ?_) | refine bc_gt (fun _ => ?_) (fun _ => ?_) | refine bc_le (fun _ => ?_) (fun _ => ?_) | refine bi_eq (fun _ => ?_) (fun _ => ?_) | refine bi_ne (fun _ => ?_) (fun _ => ?_) | refine bi_lt (fun _ => ?_) (fun _ => ?_) | refine bi_ge (fun _ => ?_) (fun _ => ?_) | refine bi_gt (fun _ => ?_) (fun _ => ?_) | refine bi_le (fun _ => ?_) (fun _ => ?_)))
    · have r := sp_234 (L := L) (d := d) (σ := σ) (w := 1) (by omega) hN
      simp only [allM, if_pos g, Int.reduceEq, reduceIte] at r
      have tb : (#[1, 2, 3, 4, 5, 6, 7] : Array Int)[((1 : Int) - 0).toNat]? = some 2 := rfl
      refine ck_get hC ?_ r
      (rw [ex_cd_eq (by omega)]; show ex_ev (d - 1) 131 0 [vR 4, vI 1] [] _ = _; (repeat' first | simp (disch := first | assumption | omega | ((repeat' first | exact ok_nil | apply ok_I | apply ok_R); done) | (simp (disch := first | omega | decide) only [ex_ar_same, ex_ar_diff, kM_diff, ex_u_same, ex_u_diff]; first | assumption | omega)) only [e0, e1, e3, e4, e5, e6, ev_131_0, ev_131_1, ev_131_2, ev_131_3, ev_131_4, ev_131_5, ev_131_6, ev_131_7, ev_131_8, gf_18_0, gf_21_0, gf_35_0, gf_35_1, gf_4_0, gf_4_11, gf_5_0, gf_5_1, gf_5_12, gf_5_2, gf_6_0, gf_6_1, x_push, x_ret1, xc_132, xc_35, xl_a0, xl_i1, y_tab_d, y_tab_k, i_wr_id, kM_diff, Int.reduceToNat, ex_ar_same, ex_ar_ar, ex_ar_diff, ex_u_same, ex_u_diff, b2i_t, b2i_f, ex_div_nn, ex_rem_nn, Int.toNat_zero, Int.toNat_one, Int.reduceAdd, Int.reduceSub, Int.reduceMul, Int.reduceNeg, kC_ne, fC_ne] | refine bb_eq (fun _ => ?_) (fun _ => ?_) | refine bb_ne (fun _ => ?_) (fun _ => ?_) | refine bc_eq (fun _ => ?_) (fun _ => ?_) | refine bc_ne (fun _ => ?_) (fun _ => ?_) | refine bc_lt (fun _ => ?_) (fun _ => ?_) | refine bc_ge (fun _ => ?_) (fun _ => ?_) | refine bc_gt (fun _ => ?_) (fun _ => ?_) | refine bc_le (fun _ => ?_) (fun _ => ?_) | refine bi_eq (fun _ => ?_) (fun _ => ?_) | refine bi_ne (fun _ => ?_) (fun _ => ?_) | refine bi_lt (fun _ => ?_) (fun _ => ?_) | refine bi_ge (fun _ => ?_) (fun _ => ?_) | refine bi_gt (fun _ => ?_) (fun _ => ?_) | refine bi_le (fun _ => ?_) (fun _ => ?_)))
    · have r := sp_234 (L := L) (d := d) (σ := σ) (w := 2) (by omega) hN
      simp only [allM, if_pos g, Int.reduceEq, reduceIte] at r
      have tb : (#[1, 2, 3, 4, 5, 6, 7] : Array Int)[((2 : Int) - 0).toNat]? = some 3 := rfl
      refine ck_get hC ?_ r
      (rw [ex_cd_eq (by omega)]; show ex_ev (d - 1) 131 0 [vR 4, vI 2] [] _ = _; (repeat' first | simp (disch := first | assumption | omega | ((repeat' first | exact ok_nil | apply ok_I | apply ok_R); done) | (simp (disch := first | omega | decide) only [ex_ar_same, ex_ar_diff, kM_diff, ex_u_same, ex_u_diff]; first | assumption | omega)) only [e0, e1, e3, e4, e5, e6, ev_131_0, ev_131_1, ev_131_2, ev_131_3, ev_131_4, ev_131_5, ev_131_6, ev_131_7, ev_131_8, gf_18_0, gf_21_0, gf_35_0, gf_35_1, gf_4_0, gf_4_11, gf_5_0, gf_5_1, gf_5_12, gf_5_2, gf_6_0, gf_6_1, x_push, x_ret1, xc_132, xc_35, xl_a0, xl_i1, y_tab_d, y_tab_k, i_wr_id, kM_diff, Int.reduceToNat, ex_ar_same, ex_ar_ar, ex_ar_diff, ex_u_same, ex_u_diff, b2i_t, b2i_f, ex_div_nn, ex_rem_nn, Int.toNat_zero, Int.toNat_one, Int.reduceAdd, Int.reduceSub, Int.reduceMul, Int.reduceNeg, kC_ne, fC_ne] | refine bb_eq (fun _ => ?_) (fun _ => ?_) | refine bb_ne (fun _ => ?_) (fun _ => ?_) | refine bc_eq (fun _ => ?_) (fun _ => ?_) | refine bc_ne (fun _ => ?_) (fun _ => ?_) | refine bc_lt (fun _ => ?_) (fun _ => ?_) | refine bc_ge (fun _ => ?_) (fun _ => ?_) | refine bc_gt (fun _ => ?_) (fun _ => ?_) | refine bc_le (fun _ => ?_) (fun _ => ?_) | refine bi_eq (fun _ => ?_) (fun _ => ?_) | refine bi_ne (fun _ => ?_) (fun _ => ?_) | refine bi_lt (fun _ => ?_) (fun _ => ?_) | refine bi_ge (fun _ => ?_) (fun _ => ?_) | refine bi_gt (fun _ => ?_) (fun _ => ?_) | refine bi_le (fun _ => ?_) (fun _ => ?_)))
    · have r := sp_234 (L := L) (d := d) (σ := σ) (w := 3) (by omega) hN
      simp only [allM, if_pos g, Int.reduceEq, reduceIte] at r
      have tb : (#[1, 2, 3, 4, 5, 6, 7] : Array Int)[((3 : Int) - 0).toNat]? = some 4 := rfl
      refine ck_get hC ?_ r
      (rw [ex_cd_eq (by omega)]; show ex_ev (d - 1) 131 0 [vR 4, vI 3] [] _ = _; (repeat' first | simp (disch := first | assumption | omega | ((repeat' first | exact ok_nil | apply ok_I | apply ok_R); done) | (simp (disch := first | omega | decide) only [ex_ar_same, ex_ar_diff, kM_diff, ex_u_same, ex_u_diff]; first | assumption | omega)) only [e0, e1, e3, e4, e5, e6, ev_131_0, ev_131_1, ev_131_2, ev_131_3, ev_131_4, ev_131_5, ev_131_6, ev_131_7, ev_131_8, gf_18_0, gf_21_0, gf_35_0, gf_35_1, gf_4_0, gf_4_11, gf_5_0, gf_5_1, gf_5_12, gf_5_2, gf_6_0, gf_6_1, x_push, x_ret1, xc_132, xc_35, xl_a0, xl_i1, y_tab_d, y_tab_k, i_wr_id, kM_diff, Int.reduceToNat, ex_ar_same, ex_ar_ar, ex_ar_diff, ex_u_same, ex_u_diff, b2i_t, b2i_f, ex_div_nn, ex_rem_nn, Int.toNat_zero, Int.toNat_one, Int.reduceAdd, Int.reduceSub, Int.reduceMul, Int.reduceNeg, kC_ne, fC_ne] | refine bb_eq (fun _ => ?_) (fun _ => ?_) | refine bb_ne (fun _ => ?_) (fun _ => ?_) | refine bc_eq (fun _ => ?_) (fun _ => ?_) | refine bc_ne (fun _ => ?_) (fun _ => ?_) | refine bc_lt (fun _ => ?_) (fun _ => ?_) | refine bc_ge (fun _ => ?_) (fun _ => ?_) | refine bc_gt (fun _ => ?_) (fun _ => ?_) | refine bc_le (fun _ => ?_) (fun _ => ?_) | refine bi_eq (fun _ => ?_) (fun _ => ?_) | refine bi_ne (fun _ => ?_) (fun _ => ?_) | refine bi_lt (fun _ => ?_) (fun _ => ?_) | refine bi_ge (fun _ => ?_) (fun _ => ?_) | refine bi_gt (fun _ => ?_) (fun _ => ?_) | refine bi_le (fun _ => ?_) (fun _ => ?_)))
    · have r := sp_234 (L := L) (d := d) (σ := σ) (w := 4) (by omega) hN
      simp only [allM, if_pos g, Int.reduceEq, reduceIte] at r
      have tb : (#[1, 2, 3, 4, 5, 6, 7] : Array Int)[((4 : Int) - 0).toNat]? = some 5 := rfl
      refine ck_get hC ?_ r
      (rw [ex_cd_eq (by omega)]; show ex_ev (d - 1) 131 0 [vR 4, vI 4] [] _ = _; (repeat' first | simp (disch := first | assumption | omega | ((repeat' first | exact ok_nil | apply ok_I | apply ok_R); done) | (simp (disch := first | omega | decide) only [ex_ar_same, ex_ar_diff, kM_diff, ex_u_same, ex_u_diff]; first | assumption | omega)) only [e0, e1, e3, e4, e5, e6, ev_131_0, ev_131_1, ev_131_2, ev_131_3, ev_131_4, ev_131_5, ev_131_6, ev_131_7, ev_131_8, gf_18_0, gf_21_0, gf_35_0, gf_35_1, gf_4_0, gf_4_11, gf_5_0, gf_5_1, gf_5_12, gf_5_2, gf_6_0, gf_6_1, x_push, x_ret1, xc_132, xc_35, xl_a0, xl_i1, y_tab_d, y_tab_k, i_wr_id, kM_diff, Int.reduceToNat, ex_ar_same, ex_ar_ar, ex_ar_diff, ex_u_same, ex_u_diff, b2i_t, b2i_f, ex_div_nn, ex_rem_nn, Int.toNat_zero, Int.toNat_one, Int.reduceAdd, Int.reduceSub, Int.reduceMul, Int.reduceNeg, kC_ne, fC_ne] | refine bb_eq (fun _ => ?_) (fun _ => ?_) | refine bb_ne (fun _ => ?_) (fun _ => ?_) | refine bc_eq (fun _ => ?_) (fun _ => ?_) | refine bc_ne (fun _ => ?_) (fun _ => ?_) | refine bc_lt (fun _ => ?_) (fun _ => ?_) | refine bc_ge (fun _ => ?_) (fun _ => ?_) | refine bc_gt (fun _ => ?_) (fun _ => ?_) | refine bc_le (fun _ => ?_) (fun _ => ?_) | refine bi_eq (fun _ => ?_) (fun _ => ?_) | refine bi_ne (fun _ => ?_) (fun _ => ?_) | refine bi_lt (fun _ => ?_) (fun _ => ?_) | refine bi_ge (fun _ => ?_) (fun _ => ?_) | refine bi_gt (fun _ => ?_) (fun _ => ?_) | refine bi_le (fun _ => ?_) (fun _ => ?_)))
    · have r := sp_234 (L := L) (d := d) (σ := σ) (w := 5) (by omega) hN
      simp only [allM, if_pos g, Int.reduceEq, reduceIte] at r
      have tb : (#[1, 2, 3, 4, 5, 6, 7] : Array Int)[((5 : Int) - 0).toNat]? = some 6 := rfl
      refine ck_get hC ?_ r
      (rw [ex_cd_eq (by omega)]; show ex_ev (d - 1) 131 0 [vR 4, vI 5] [] _ = _; (repeat' first | simp (disch := first | assumption | omega | ((repeat' first | exact ok_nil | apply ok_I | apply ok_R); done) | (simp (disch := first | omega | decide) only [ex_ar_same, ex_ar_diff, kM_diff, ex_u_same, ex_u_diff]; first | assumption | omega)) only [e0, e1, e3, e4, e5, e6, ev_131_0, ev_131_1, ev_131_2, ev_131_3, ev_131_4, ev_131_5, ev_131_6, ev_131_7, ev_131_8, gf_18_0, gf_21_0, gf_35_0, gf_35_1, gf_4_0, gf_4_11, gf_5_0, gf_5_1, gf_5_12, gf_5_2, gf_6_0, gf_6_1, x_push, x_ret1, xc_132, xc_35, xl_a0, xl_i1, y_tab_d, y_tab_k, i_wr_id, kM_diff, Int.reduceToNat, ex_ar_same, ex_ar_ar, ex_ar_diff, ex_u_same, ex_u_diff, b2i_t, b2i_f, ex_div_nn, ex_rem_nn, Int.toNat_zero, Int.toNat_one, Int.reduceAdd, Int.reduceSub, Int.reduceMul, Int.reduceNeg, kC_ne, fC_ne] | refine bb_eq (fun _ => ?_) (fun _ => ?_) | refine bb_ne (fun _ => ?_) (fun _ => ?_) | refine bc_eq (fun _ => ?_) (fun _ => ?_) | refine bc_ne (fun _ => ?_) (fun _ => ?_) | refine bc_lt (fun _ => ?_) (fun _ => ?_) | refine bc_ge (fun _ => ?_) (fun _ => ?_) | refine bc_gt (fun _ => ?_) (fun _ => ?_) | refine bc_le (fun _ => ?_) (fun _ => ?_) | refine bi_eq (fun _ => ?_) (fun _ => ?_) | refine bi_ne (fun _ => ?_) (fun _ => ?_) | refine bi_lt (fun _ => ?_) (fun _ => ?_) | refine bi_ge (fun _ => ?_) (fun _ => ?_) | refine bi_gt (fun _ => ?_) (fun _ => ?_) | refine bi_le (fun _ => ?_) (fun _ => ?_)))
    · have r := sp_234 (L := L) (d := d) (σ := σ) (w := 6) (by omega) hN
      simp only [allM, if_pos g, Int.reduceEq, reduceIte] at r
      have tb : (#[1, 2, 3, 4, 5, 6, 7] : Array Int)[((6 : Int) - 0).toNat]? = some 7 := rfl
      refine ck_get hC ?_ r
      (rw [ex_cd_eq (by omega)]; show ex_ev (d - 1) 131 0 [vR 4, vI 6] [] _ = _; (repeat' first | simp (disch := first | assumption | omega | ((repeat' first | exact ok_nil | apply ok_I | apply ok_R); done) | (simp (disch := first | omega | decide) only [ex_ar_same, ex_ar_diff, kM_diff, ex_u_same, ex_u_diff]; first | assumption | omega)) only [e0, e1, e3, e4, e5, e6, ev_131_0, ev_131_1, ev_131_2, ev_131_3, ev_131_4, ev_131_5, ev_131_6, ev_131_7, ev_131_8, gf_18_0, gf_21_0, gf_35_0, gf_35_1, gf_4_0, gf_4_11, gf_5_0, gf_5_1, gf_5_12, gf_5_2, gf_6_0, gf_6_1, x_push, x_ret1, xc_132, xc_35, xl_a0, xl_i1, y_tab_d, y_tab_k, i_wr_id, kM_diff, Int.reduceToNat, ex_ar_same, ex_ar_ar, ex_ar_diff, ex_u_same, ex_u_diff, b2i_t, b2i_f, ex_div_nn, ex_rem_nn, Int.toNat_zero, Int.toNat_one, Int.reduceAdd, Int.reduceSub, Int.reduceMul, Int.reduceNeg, kC_ne, fC_ne] | refine bb_eq (fun _ => ?_) (fun _ => ?_) | refine bb_ne (fun _ => ?_) (fun _ => ?_) | refine bc_eq (fun _ => ?_) (fun _ => ?_) | refine bc_ne (fun _ => ?_) (fun _ => ?_) | refine bc_lt (fun _ => ?_) (fun _ => ?_) | refine bc_ge (fun _ => ?_) (fun _ => ?_) | refine bc_gt (fun _ => ?_) (fun _ => ?_) | refine bc_le (fun _ => ?_) (fun _ => ?_) | refine bi_eq (fun _ => ?_) (fun _ => ?_) | refine bi_ne (fun _ => ?_) (fun _ => ?_) | refine bi_lt (fun _ => ?_) (fun _ => ?_) | refine bi_ge (fun _ => ?_) (fun _ => ?_) | refine bi_gt (fun _ => ?_) (fun _ => ?_) | refine bi_le (fun _ => ?_) (fun _ => ?_)))
  · have t2 : (fC σ) 432 = σ 432 := fC_ne _ (by decide)
    have t3 : (fC σ) 433 = σ 433 := fC_ne _ (by decide)
    have t5 : (fC σ) 435 = σ 435 := fC_ne _ (by decide)
    have t6 : (fC σ) 436 = σ 436 := fC_ne _ (by decide)
    have t7 : (fC σ) 437 = σ 437 := fC_ne _ (by decide)
    have u1 : 0 ≤ (fC σ) 432 2 := by rw [t2]; exact k0
    have u2 : (fC σ) 432 2 ≤ 16 := by rw [t2]; exact k1
    have uN : NI ((fC σ) 433) := by rw [t3]; exact hN
    have uS : SI ((fC σ) 435) ((fC σ) 436) := by rw [t5, t6]; exact hC.si
    have := uN.a0; have := uN.b0; have := uN.a1; have := uN.b1; have := uN.a2; have := uN.b2; have := uN.a3; have := uN.b3; have := uN.a4; have := uN.b4; have := uN.a5; have := uN.b5; have := uN.a7; have := uN.b7; have := uN.a8; have := uN.b8; have := uN.a9; have := uN.b9; have := uN.a10; have := uN.b10
    have r := sp_234 (L := L) (d := d) (σ := fC σ) (w := v) (by omega) (by first | assumption | exact uN.oM | exact uN.oP | omega)
    simp only [allM, t3, if_neg g] at r
    refine ck_fnd hC ?_ r
    (rw [ex_cd_eq (by omega)]; show ex_ev (d - 1) 131 0 [vR 4, vI v] [] _ = _; (repeat' first | simp (disch := first | assumption | omega | ((repeat' first | exact ok_nil | apply ok_I | apply ok_R); done) | (simp (disch := first | omega | decide) only [ex_ar_same, ex_ar_diff, kM_diff, ex_u_same, ex_u_diff]; first | assumption | omega)) only [ev_131_0, ev_131_1, ev_131_2, ev_131_3, ev_131_4, ev_131_5, ev_131_6, ev_131_7, ev_131_8, gf_18_0, gf_21_0, gf_35_0, gf_35_1, gf_4_0, gf_4_11, gf_5_0, gf_5_1, gf_5_12, gf_5_2, gf_6_0, gf_6_1, x_push, x_ret1, xc_132, xc_35, xl_a0, xl_i1, y_tab_d, y_tab_k, i_wr_id, kM_diff, Int.reduceToNat, ex_ar_same, ex_ar_ar, ex_ar_diff, ex_u_same, ex_u_diff, b2i_t, b2i_f, ex_div_nn, ex_rem_nn, Int.toNat_zero, Int.toNat_one, Int.reduceAdd, Int.reduceSub, Int.reduceMul, Int.reduceNeg, kC_ne, fC_ne] | refine bb_eq (fun _ => ?_) (fun _ => ?_) | refine bb_ne (fun _ => ?_) (fun _ => ?_) | refine bc_eq (fun _ => ?_) (fun _ => ?_) | refine bc_ne (fun _ => ?_) (fun _ => ?_) | refine bc_lt (fun _ => ?_) (fun _ => ?_) | refine bc_ge (fun _ => ?_) (fun _ => ?_) | refine bc_gt (fun _ => ?_) (fun _ => ?_) | refine bc_le (fun _ => ?_) (fun _ => ?_) | refine bi_eq (fun _ => ?_) (fun _ => ?_) | refine bi_ne (fun _ => ?_) (fun _ => ?_) | refine bi_lt (fun _ => ?_) (fun _ => ?_) | refine bi_ge (fun _ => ?_) (fun _ => ?_) | refine bi_gt (fun _ => ?_) (fun _ => ?_) | refine bi_le (fun _ => ?_) (fun _ => ?_)))
theorem ex_or_comm (a b : Int) : ex_or a b = ex_or b a := by unfold ex_or; rw [Int32.or_comm]
theorem ex_or_assoc (a b c : Int) : ex_or (ex_or a b) c = ex_or a (ex_or b c) := by unfold ex_or; rw [Int32.ofInt_toInt, Int32.ofInt_toInt, Int32.or_assoc]
def orR (f : Int → Int) (lo : Int) : Nat → Int
  | 0 => 0
  | j + 1 => ex_or (orR f lo j) (f (lo + (j : Int)))
theorem orR_front (f : Int → Int) : ∀ (j : Nat) (lo : Int), orR f lo (j + 1) = ex_or (f lo) (orR f (lo + 1) j)
  | 0, lo => by
    show ex_or 0 (f (lo + ((0 : Nat) : Int))) = ex_or (f lo) 0
    rw [ex_or_comm, show lo + ((0 : Nat) : Int) = lo by omega]
  | j + 1, lo => by
    have ih := orR_front f j lo
    show ex_or (orR f lo (j + 1)) (f (lo + ((j + 1 : Nat) : Int))) = ex_or (f lo) (ex_or (orR f (lo + 1) j) (f (lo + 1 + (j : Int))))
    rw [ih, ex_or_assoc, show lo + ((j + 1 : Nat) : Int) = lo + 1 + (j : Int) by omega]
def orD (f : Int → Int) (hi : Int) : Nat → Int
  | 0 => 0
  | j + 1 => ex_or (orD f hi j) (f (hi - (j : Int)))
theorem orD_R (f : Int → Int) (hi : Int) : ∀ j : Nat, orD f hi j = orR f (hi - (j : Int) + 1) j
  | 0 => rfl
  | j + 1 => by
    rw [orD, orD_R f hi j, ex_or_comm, show hi - ((j + 1 : Nat) : Int) + 1 = hi - (j : Int) by omega, orR_front]
theorem ahd_or (n : Int → Int) (s : Int) : ∀ j : Nat, ahdR n s j = orR (fun i => ex_shl 1 (n (51 + 8 * (s / 8) + i))) (s % 8 + 1) j
  | 0 => rfl
  | j + 1 => by rw [ahdR, orR, ahd_or n s j]
theorem sp_34_6 {d : Nat} (hd : 1 < d) {L : Nat} {σ : ex_S} {n : Int → Int} {c : Int} (hR : RG6 σ n) (hN : NI n) (h1 : 0 ≤ c) (h2 : c < n 1) : ex_cd d 34 [vR 6, vI c] (SH L, σ) = some ([vI (if standN n c < 0 then 0 else ahdN n c)], (SH L, σ)) := by
  rw [ex_cd_eq (by omega)]
  show ex_ev (d - 1) 34 0 [vR 6, vI c, vL 0, vL 0, vL 0] [] (SH L, σ) = _
  have b0 := hN.b0
  have b1 := hN.b1
  have w := hR.wh c h1 h2
  rcases stand_lo n c hN.b0 hN.oM with q | ⟨q1, q2, q3, q4, q5⟩
  · rw [if_pos (by omega)] at w ⊢
    (repeat' first | simp (disch := first | assumption | omega | ((repeat' first | exact ok_nil | apply ok_I | apply ok_R); done) | (simp (disch := first | omega | decide) only [ex_ar_same, ex_ar_diff, kM_diff, ex_u_same, ex_u_diff]; first | assumption | omega)) only [ev_34_0, ev_34_1, ev_34_3, gf_35_12, gf_35_9, gf_6_12, gf_6_9, ld_14, ld_17, ld_43, ld_46, w, x_fall, x_goto, x_push, x_ret1, xc_23_35, xc_23_6, xl_a0, xl_i1, xl_i2, xl_i3, xl_i4, xn_4, xt_i2, xt_i3, xt_i4, y_cmp_eq_f, y_cmp_eq_t, y_cmp_ne_f, y_cmp_ne_t, y_if_lt_f, y_if_lt_t, y_ior, y_ishl, y_isub, i_wr_id, kM_diff, Int.reduceToNat, ex_ar_same, ex_ar_ar, ex_ar_diff, ex_u_same, ex_u_diff, b2i_t, b2i_f, ex_div_nn, ex_rem_nn, Int.toNat_zero, Int.toNat_one, Int.reduceAdd, Int.reduceSub, Int.reduceMul, Int.reduceNeg, kC_ne, fC_ne] | refine bb_eq (fun _ => ?_) (fun _ => ?_) | refine bb_ne (fun _ => ?_) (fun _ => ?_) | refine bc_eq (fun _ => ?_) (fun _ => ?_) | refine bc_ne (fun _ => ?_) (fun _ => ?_) | refine bc_lt (fun _ => ?_) (fun _ => ?_) | refine bc_ge (fun _ => ?_) (fun _ => ?_) | refine bc_gt (fun _ => ?_) (fun _ => ?_) | refine bc_le (fun _ => ?_) (fun _ => ?_) | refine bi_eq (fun _ => ?_) (fun _ => ?_) | refine bi_ne (fun _ => ?_) (fun _ => ?_) | refine bi_lt (fun _ => ?_) (fun _ => ?_) | refine bi_ge (fun _ => ?_) (fun _ => ?_) | refine bi_gt (fun _ => ?_) (fun _ => ?_) | refine bi_le (fun _ => ?_) (fun _ => ?_))
  · rw [if_neg (by omega)] at w ⊢
    have m := hN.oM (standN n c / 8) (by omega) (by omega)
    have s := hR.st (standN n c / 8) (by omega) q3
    generalize hl : standN n c / 8 = l at *
    have l0 : 0 ≤ l := by omega
    have e : ahdN n c = orD (fun i => ex_shl 1 (n (51 + 8 * l + i))) (n (46 + l) - 1) (n (46 + l) - (standN n c % 8 + 1)).toNat := by
      unfold ahdN
      rw [ahd_or, orD_R, hl]
      congr 1
      omega
    rw [e]
    have lp : ∀ j : Nat, j ≤ (n (46 + l) - (standN n c % 8 + 1)).toNat → ∀ i : Int, i = n (46 + l) - 1 - (j : Int) → ex_ev (d - 1) 34 2 [vR 6, vI c, vI (orD (fun i => ex_shl 1 (n (51 + 8 * l + i))) (n (46 + l) - 1) j), vI l, vI i] [] (SH L, σ) = some ([vI (orD (fun i => ex_shl 1 (n (51 + 8 * l + i))) (n (46 + l) - 1) (n (46 + l) - (standN n c % 8 + 1)).toNat)], (SH L, σ)) := by
      refine down ?_ ?_
      · intro i hi
        have pc : n (51 + 8 * l + i) = c := by rw [show 51 + 8 * l + i = 51 + standN n c by omega]; exact q5
        rw [ev_34_2]
        simp (disch := first | assumption | omega | ((repeat' first | exact ok_nil | apply ok_I | apply ok_R); done) | (simp (disch := first | omega | decide) only [ex_ar_same, ex_ar_diff, kM_diff, ex_u_same, ex_u_diff]; first | assumption | omega)) only [ev_34_0, ev_34_1, ev_34_3, gf_35_12, gf_35_9, gf_6_12, gf_6_9, ld_14, ld_17, ld_43, ld_46, x_fall, x_goto, x_push, x_ret1, xc_23_35, xc_23_6, xl_a0, xl_i1, xl_i2, xl_i3, xl_i4, xn_4, xt_i2, xt_i3, xt_i4, y_cmp_eq_f, y_cmp_eq_t, y_cmp_ne_f, y_cmp_ne_t, y_if_lt_f, y_if_lt_t, y_ior, y_ishl, y_isub, i_wr_id, kM_diff, Int.reduceToNat, ex_ar_same, ex_ar_ar, ex_ar_diff, ex_u_same, ex_u_diff, b2i_t, b2i_f, ex_div_nn, ex_rem_nn, Int.toNat_zero, Int.toNat_one, Int.reduceAdd, Int.reduceSub, Int.reduceMul, Int.reduceNeg, kC_ne, fC_ne]
      · intro j hj ih i hi
        have pc : n (51 + 8 * l + i) ≠ c := by
          intro z
          have := NI.st hN.g1 l i c l0 (by omega) (by omega) (by omega) z
          omega
        rw [orD, ← hi] at ih
        rw [ev_34_2]
        simp (disch := first | assumption | omega | ((repeat' first | exact ok_nil | apply ok_I | apply ok_R); done) | (simp (disch := first | omega | decide) only [ex_ar_same, ex_ar_diff, kM_diff, ex_u_same, ex_u_diff]; first | assumption | omega)) only [ev_34_0, ev_34_1, ev_34_3, gf_35_12, gf_35_9, gf_6_12, gf_6_9, ld_14, ld_17, ld_43, ld_46, x_fall, x_goto, x_push, x_ret1, xc_23_35, xc_23_6, xl_a0, xl_i1, xl_i2, xl_i3, xl_i4, xn_4, xt_i2, xt_i3, xt_i4, y_cmp_eq_f, y_cmp_eq_t, y_cmp_ne_f, y_cmp_ne_t, y_if_lt_f, y_if_lt_t, y_ior, y_ishl, y_isub, i_wr_id, kM_diff, Int.reduceToNat, ex_ar_same, ex_ar_ar, ex_ar_diff, ex_u_same, ex_u_diff, b2i_t, b2i_f, ex_div_nn, ex_rem_nn, Int.toNat_zero, Int.toNat_one, Int.reduceAdd, Int.reduceSub, Int.reduceMul, Int.reduceNeg, kC_ne, fC_ne]
        exact ih _ (by omega)
    simp (disch := first | assumption | omega | ((repeat' first | exact ok_nil | apply ok_I | apply ok_R); done) | (simp (disch := first | omega | decide) only [ex_ar_same, ex_ar_diff, kM_diff, ex_u_same, ex_u_diff]; first | assumption | omega)) only [ev_34_0, ev_34_1, ev_34_3, gf_35_12, gf_35_9, gf_6_12, gf_6_9, ld_14, ld_17, ld_43, ld_46, s, w, x_fall, x_goto, x_push, x_ret1, xc_23_35, xc_23_6, xl_a0, xl_i1, xl_i2, xl_i3, xl_i4, xn_4, xt_i2, xt_i3, xt_i4, y_cmp_eq_f, y_cmp_eq_t, y_cmp_ne_f, y_cmp_ne_t, y_if_lt_f, y_if_lt_t, y_ior, y_ishl, y_isub, i_wr_id, kM_diff, Int.reduceToNat, ex_ar_same, ex_ar_ar, ex_ar_diff, ex_u_same, ex_u_diff, b2i_t, b2i_f, ex_div_nn, ex_rem_nn, Int.toNat_zero, Int.toNat_one, Int.reduceAdd, Int.reduceSub, Int.reduceMul, Int.reduceNeg, kC_ne, fC_ne]
    exact lp 0 (by omega) _ (by omega)
theorem xc_34_6 {rt d : Nat} {J : Nat → List ex_V → List ex_V → ex_H → Option ex_R} {is : List Instr} {ls st : List ex_V} {L : Nat} {σ : ex_S} {n : Int → Int} {c : Int} (hR : RG6 σ n) (hN : NI n) (h1 : 0 ≤ c) (h2 : c < n 1) (hd : 1 < d) (hok : okN 8 st = true) : ex_xs rt J (ex_cd d) (.invokevirtual 34 :: is) ls (vI c :: vR 6 :: st) (SH L, σ) = ex_xs rt J (ex_cd d) is ls (vI (if standN n c < 0 then 0 else ahdN n c) :: st) (SH L, σ) := x_call1 (Or.inl rfl) rfl (sh_6 _) (Or.inl ⟨rfl, rfl⟩) (as := [vI c]) rfl rfl (okN_ok hok) rfl (sp_34_6 hd hR hN h1 h2)
theorem sp_34_35 {d : Nat} (hd : 1 < d) {L : Nat} {σ : ex_S} {n : Int → Int} {c : Int} (hR : RG35 σ n) (hN : NI n) (h1 : 0 ≤ c) (h2 : c < n 1) : ex_cd d 34 [vR 35, vI c] (SH L, σ) = some ([vI (if standN n c < 0 then 0 else ahdN n c)], (SH L, σ)) := by
  rw [ex_cd_eq (by omega)]
  show ex_ev (d - 1) 34 0 [vR 35, vI c, vL 0, vL 0, vL 0] [] (SH L, σ) = _
  have b0 := hN.b0
  have b1 := hN.b1
  have w := hR.wh c h1 h2
  rcases stand_lo n c hN.b0 hN.oM with q | ⟨q1, q2, q3, q4, q5⟩
  · rw [if_pos (by omega)] at w ⊢
    (repeat' first | simp (disch := first | assumption | omega | ((repeat' first | exact ok_nil | apply ok_I | apply ok_R); done) | (simp (disch := first | omega | decide) only [ex_ar_same, ex_ar_diff, kM_diff, ex_u_same, ex_u_diff]; first | assumption | omega)) only [ev_34_0, ev_34_1, ev_34_3, gf_35_12, gf_35_9, gf_6_12, gf_6_9, ld_14, ld_17, ld_43, ld_46, w, x_fall, x_goto, x_push, x_ret1, xc_23_35, xc_23_6, xl_a0, xl_i1, xl_i2, xl_i3, xl_i4, xn_4, xt_i2, xt_i3, xt_i4, y_cmp_eq_f, y_cmp_eq_t, y_cmp_ne_f, y_cmp_ne_t, y_if_lt_f, y_if_lt_t, y_ior, y_ishl, y_isub, i_wr_id, kM_diff, Int.reduceToNat, ex_ar_same, ex_ar_ar, ex_ar_diff, ex_u_same, ex_u_diff, b2i_t, b2i_f, ex_div_nn, ex_rem_nn, Int.toNat_zero, Int.toNat_one, Int.reduceAdd, Int.reduceSub, Int.reduceMul, Int.reduceNeg, kC_ne, fC_ne] | refine bb_eq (fun _ => ?_) (fun _ => ?_) | refine bb_ne (fun _ => ?_) (fun _ => ?_) | refine bc_eq (fun _ => ?_) (fun _ => ?_) | refine bc_ne (fun _ => ?_) (fun _ => ?_) | refine bc_lt (fun _ => ?_) (fun _ => ?_) | refine bc_ge (fun _ => ?_) (fun _ => ?_) | refine bc_gt (fun _ => ?_) (fun _ => ?_) | refine bc_le (fun _ => ?_) (fun _ => ?_) | refine bi_eq (fun _ => ?_) (fun _ => ?_) | refine bi_ne (fun _ => ?_) (fun _ => ?_) | refine bi_lt (fun _ => ?_) (fun _ => ?_) | refine bi_ge (fun _ => ?_) (fun _ => ?_) | refine bi_gt (fun _ => ?_) (fun _ => ?_) | refine bi_le (fun _ => ?_) (fun _ => ?_))
  · rw [if_neg (by omega)] at w ⊢
    have m := hN.oM (standN n c / 8) (by omega) (by omega)
    have s := hR.st (standN n c / 8) (by omega) q3
    generalize hl : standN n c / 8 = l at *
    have l0 : 0 ≤ l := by omega
    have e : ahdN n c = orD (fun i => ex_shl 1 (n (51 + 8 * l + i))) (n (46 + l) - 1) (n (46 + l) - (standN n c % 8 + 1)).toNat := by
      unfold ahdN
      rw [ahd_or, orD_R, hl]
      congr 1
      omega
    rw [e]
    have lp : ∀ j : Nat, j ≤ (n (46 + l) - (standN n c % 8 + 1)).toNat → ∀ i : Int, i = n (46 + l) - 1 - (j : Int) → ex_ev (d - 1) 34 2 [vR 35, vI c, vI (orD (fun i => ex_shl 1 (n (51 + 8 * l + i))) (n (46 + l) - 1) j), vI l, vI i] [] (SH L, σ) = some ([vI (orD (fun i => ex_shl 1 (n (51 + 8 * l + i))) (n (46 + l) - 1) (n (46 + l) - (standN n c % 8 + 1)).toNat)], (SH L, σ)) := by
      refine down ?_ ?_
      · intro i hi
        have pc : n (51 + 8 * l + i) = c := by rw [show 51 + 8 * l + i = 51 + standN n c by omega]; exact q5
        rw [ev_34_2]
        simp (disch := first | assumption | omega | ((repeat' first | exact ok_nil | apply ok_I | apply ok_R); done) | (simp (disch := first | omega | decide) only [ex_ar_same, ex_ar_diff, kM_diff, ex_u_same, ex_u_diff]; first | assumption | omega)) only [ev_34_0, ev_34_1, ev_34_3, gf_35_12, gf_35_9, gf_6_12, gf_6_9, ld_14, ld_17, ld_43, ld_46, x_fall, x_goto, x_push, x_ret1, xc_23_35, xc_23_6, xl_a0, xl_i1, xl_i2, xl_i3, xl_i4, xn_4, xt_i2, xt_i3, xt_i4, y_cmp_eq_f, y_cmp_eq_t, y_cmp_ne_f, y_cmp_ne_t, y_if_lt_f, y_if_lt_t, y_ior, y_ishl, y_isub, i_wr_id, kM_diff, Int.reduceToNat, ex_ar_same, ex_ar_ar, ex_ar_diff, ex_u_same, ex_u_diff, b2i_t, b2i_f, ex_div_nn, ex_rem_nn, Int.toNat_zero, Int.toNat_one, Int.reduceAdd, Int.reduceSub, Int.reduceMul, Int.reduceNeg, kC_ne, fC_ne]
      · intro j hj ih i hi
        have pc : n (51 + 8 * l + i) ≠ c := by
          intro z
          have := NI.st hN.g1 l i c l0 (by omega) (by omega) (by omega) z
          omega
        rw [orD, ← hi] at ih
        rw [ev_34_2]
        simp (disch := first | assumption | omega | ((repeat' first | exact ok_nil | apply ok_I | apply ok_R); done) | (simp (disch := first | omega | decide) only [ex_ar_same, ex_ar_diff, kM_diff, ex_u_same, ex_u_diff]; first | assumption | omega)) only [ev_34_0, ev_34_1, ev_34_3, gf_35_12, gf_35_9, gf_6_12, gf_6_9, ld_14, ld_17, ld_43, ld_46, x_fall, x_goto, x_push, x_ret1, xc_23_35, xc_23_6, xl_a0, xl_i1, xl_i2, xl_i3, xl_i4, xn_4, xt_i2, xt_i3, xt_i4, y_cmp_eq_f, y_cmp_eq_t, y_cmp_ne_f, y_cmp_ne_t, y_if_lt_f, y_if_lt_t, y_ior, y_ishl, y_isub, i_wr_id, kM_diff, Int.reduceToNat, ex_ar_same, ex_ar_ar, ex_ar_diff, ex_u_same, ex_u_diff, b2i_t, b2i_f, ex_div_nn, ex_rem_nn, Int.toNat_zero, Int.toNat_one, Int.reduceAdd, Int.reduceSub, Int.reduceMul, Int.reduceNeg, kC_ne, fC_ne]
        exact ih _ (by omega)
    simp (disch := first | assumption | omega | ((repeat' first | exact ok_nil | apply ok_I | apply ok_R); done) | (simp (disch := first | omega | decide) only [ex_ar_same, ex_ar_diff, kM_diff, ex_u_same, ex_u_diff]; first | assumption | omega)) only [ev_34_0, ev_34_1, ev_34_3, gf_35_12, gf_35_9, gf_6_12, gf_6_9, ld_14, ld_17, ld_43, ld_46, s, w, x_fall, x_goto, x_push, x_ret1, xc_23_35, xc_23_6, xl_a0, xl_i1, xl_i2, xl_i3, xl_i4, xn_4, xt_i2, xt_i3, xt_i4, y_cmp_eq_f, y_cmp_eq_t, y_cmp_ne_f, y_cmp_ne_t, y_if_lt_f, y_if_lt_t, y_ior, y_ishl, y_isub, i_wr_id, kM_diff, Int.reduceToNat, ex_ar_same, ex_ar_ar, ex_ar_diff, ex_u_same, ex_u_diff, b2i_t, b2i_f, ex_div_nn, ex_rem_nn, Int.toNat_zero, Int.toNat_one, Int.reduceAdd, Int.reduceSub, Int.reduceMul, Int.reduceNeg, kC_ne, fC_ne]
    exact lp 0 (by omega) _ (by omega)
theorem xc_34_35 {rt d : Nat} {J : Nat → List ex_V → List ex_V → ex_H → Option ex_R} {is : List Instr} {ls st : List ex_V} {L : Nat} {σ : ex_S} {n : Int → Int} {c : Int} (hR : RG35 σ n) (hN : NI n) (h1 : 0 ≤ c) (h2 : c < n 1) (hd : 1 < d) (hok : okN 8 st = true) : ex_xs rt J (ex_cd d) (.invokevirtual 34 :: is) ls (vI c :: vR 35 :: st) (SH L, σ) = ex_xs rt J (ex_cd d) is ls (vI (if standN n c < 0 then 0 else ahdN n c) :: st) (SH L, σ) := x_call1 (Or.inl rfl) rfl (sh_35 _) (Or.inl ⟨rfl, rfl⟩) (as := [vI c]) rfl rfl (okN_ok hok) rfl (sp_34_35 hd hR hN h1 h2)
theorem ck_99 {L d : Nat} {σ : ex_S} {c : Int} (hC : CI σ) (hd : 20 < d) : CK 99 177 [vI c] σ L d := by
  (have p0 := hC.pr.p0; have p1 := hC.pr.p1; have k0 := hC.pr.k0; have k1 := hC.pr.k1; have kq := hC.pr.q; have q0 : 0 ≤ σ 4 10 := (by omega); have q1 : σ 4 10 ≤ 16 := (by omega); have hN := hC.ni; have hR := hC.rd.g; have hD := hC.rd; have hT := hC.st)
  by_cases g : 0 ≤ c ∧ c < σ 433 1
  · by_cases g2 : standN (σ 433) c < 0
    · have iz : (if 0 ≤ c ∧ c < σ 433 1 then (if standN (σ 433) c < 0 then -100006 else 0) else -100001 : Int) = -100006 := by rw [if_pos g, if_pos g2]
      have t2 : (fC σ) 432 = σ 432 := fC_ne _ (by decide)
      have t3 : (fC σ) 433 = σ 433 := fC_ne _ (by decide)
      have t5 : (fC σ) 435 = σ 435 := fC_ne _ (by decide)
      have t6 : (fC σ) 436 = σ 436 := fC_ne _ (by decide)
      have t7 : (fC σ) 437 = σ 437 := fC_ne _ (by decide)
      have u1 : 0 ≤ (fC σ) 432 2 := by rw [t2]; exact k0
      have u2 : (fC σ) 432 2 ≤ 16 := by rw [t2]; exact k1
      have uN : NI ((fC σ) 433) := by rw [t3]; exact hN
      have uS : SI ((fC σ) 435) ((fC σ) 436) := by rw [t5, t6]; exact hC.si
      have := uN.a0; have := uN.b0; have := uN.a1; have := uN.b1; have := uN.a2; have := uN.b2; have := uN.a3; have := uN.b3; have := uN.a4; have := uN.b4; have := uN.a5; have := uN.b5; have := uN.a7; have := uN.b7; have := uN.a8; have := uN.b8; have := uN.a9; have := uN.b9; have := uN.a10; have := uN.b10
      have r := sp_177 (L := L) (d := d) (σ := fC σ) (c := c) (by omega) (by first | assumption | exact uN.oM | exact uN.oP | omega)
      simp only [aheadM, t3, if_pos g, if_pos g2] at r
      refine ck_fnd hC ?_ r
      (rw [ex_cd_eq (by omega)]; show ex_ev (d - 1) 99 0 [vR 4, vI c, vL 0] [] _ = _; (repeat' first | simp (disch := first | assumption | omega | ((repeat' first | exact ok_nil | apply ok_I | apply ok_R); done) | (simp (disch := first | omega | decide) only [ex_ar_same, ex_ar_diff, kM_diff, ex_u_same, ex_u_diff]; first | assumption | omega)) only [ev_99_0, ev_99_1, ev_99_2, gf_4_0, gf_5_0, iz, x_fall, x_goto, x_ret1, xc_132, xc_134, xc_34_35, xc_34_6, xl_a0, xl_i1, xl_i2, xt_i2, y_if_ne_f, y_if_ne_t, i_wr_id, kM_diff, Int.reduceToNat, ex_ar_same, ex_ar_ar, ex_ar_diff, ex_u_same, ex_u_diff, b2i_t, b2i_f, ex_div_nn, ex_rem_nn, Int.toNat_zero, Int.toNat_one, Int.reduceAdd, Int.reduceSub, Int.reduceMul, Int.reduceNeg, kC_ne, fC_ne] | refine bb_eq (fun _ => ?_) (fun _ => ?_) | refine bb_ne (fun _ => ?_) (fun _ => ?_) | refine bc_eq (fun _ => ?_) (fun _ => ?_) | refine bc_ne (fun _ => ?_) (fun _ => ?_) | refine bc_lt (fun _ => ?_) (fun _ => ?_) | refine bc_ge (fun _ => ?_) (fun _ => ?_) | refine bc_gt (fun _ => ?_) (fun _ => ?_) | refine bc_le (fun _ => ?_) (fun _ => ?_) | refine bi_eq (fun _ => ?_) (fun _ => ?_) | refine bi_ne (fun _ => ?_) (fun _ => ?_) | refine bi_lt (fun _ => ?_) (fun _ => ?_) | refine bi_ge (fun _ => ?_) (fun _ => ?_) | refine bi_gt (fun _ => ?_) (fun _ => ?_) | refine bi_le (fun _ => ?_) (fun _ => ?_)))
    · have iz : (if 0 ≤ c ∧ c < σ 433 1 then (if standN (σ 433) c < 0 then -100006 else 0) else -100001 : Int) = 0 := by rw [if_pos g, if_neg g2]
      have ia : (if standN (σ 433) c < 0 then 0 else ahdN (σ 433) c : Int) = ahdN (σ 433) c := if_neg g2
      have t2 : σ 432 = σ 432 := rfl
      have t3 : σ 433 = σ 433 := rfl
      have t5 : σ 435 = σ 435 := rfl
      have t6 : σ 436 = σ 436 := rfl
      have t7 : σ 437 = σ 437 := rfl
      have u1 : 0 ≤ σ 432 2 := by rw [t2]; exact k0
      have u2 : σ 432 2 ≤ 16 := by rw [t2]; exact k1
      have uN : NI (σ 433) := by rw [t3]; exact hN
      have uS : SI (σ 435) (σ 436) := by rw [t5, t6]; exact hC.si
      have := uN.a0; have := uN.b0; have := uN.a1; have := uN.b1; have := uN.a2; have := uN.b2; have := uN.a3; have := uN.b3; have := uN.a4; have := uN.b4; have := uN.a5; have := uN.b5; have := uN.a7; have := uN.b7; have := uN.a8; have := uN.b8; have := uN.a9; have := uN.b9; have := uN.a10; have := uN.b10
      have r := sp_177 (L := L) (d := d) (σ := σ) (c := c) (by omega) (by first | assumption | exact uN.oM | exact uN.oP | omega)
      simp only [aheadM, if_pos g, if_neg g2] at r
      refine ck_get hC ?_ r
      (rw [ex_cd_eq (by omega)]; show ex_ev (d - 1) 99 0 [vR 4, vI c, vL 0] [] _ = _; (repeat' first | simp (disch := first | assumption | omega | ((repeat' first | exact ok_nil | apply ok_I | apply ok_R); done) | (simp (disch := first | omega | decide) only [ex_ar_same, ex_ar_diff, kM_diff, ex_u_same, ex_u_diff]; first | assumption | omega)) only [ev_99_0, ev_99_1, ev_99_2, gf_4_0, gf_5_0, ia, iz, x_fall, x_goto, x_ret1, xc_132, xc_134, xc_34_35, xc_34_6, xl_a0, xl_i1, xl_i2, xt_i2, y_if_ne_f, y_if_ne_t, i_wr_id, kM_diff, Int.reduceToNat, ex_ar_same, ex_ar_ar, ex_ar_diff, ex_u_same, ex_u_diff, b2i_t, b2i_f, ex_div_nn, ex_rem_nn, Int.toNat_zero, Int.toNat_one, Int.reduceAdd, Int.reduceSub, Int.reduceMul, Int.reduceNeg, kC_ne, fC_ne] | refine bb_eq (fun _ => ?_) (fun _ => ?_) | refine bb_ne (fun _ => ?_) (fun _ => ?_) | refine bc_eq (fun _ => ?_) (fun _ => ?_) | refine bc_ne (fun _ => ?_) (fun _ => ?_) | refine bc_lt (fun _ => ?_) (fun _ => ?_) | refine bc_ge (fun _ => ?_) (fun _ => ?_) | refine bc_gt (fun _ => ?_) (fun _ => ?_) | refine bc_le (fun _ => ?_) (fun _ => ?_) | refine bi_eq (fun _ => ?_) (fun _ => ?_) | refine bi_ne (fun _ => ?_) (fun _ => ?_) | refine bi_lt (fun _ => ?_) (fun _ => ?_) | refine bi_ge (fun _ => ?_) (fun _ => ?_) | refine bi_gt (fun _ => ?_) (fun _ => ?_) | refine bi_le (fun _ => ?_) (fun _ => ?_)))
  · have iz : (if 0 ≤ c ∧ c < σ 433 1 then (if standN (σ 433) c < 0 then -100006 else 0) else -100001 : Int) = -100001 := by rw [if_neg g]
    have t2 : (fC σ) 432 = σ 432 := fC_ne _ (by decide)
    have t3 : (fC σ) 433 = σ 433 := fC_ne _ (by decide)
    have t5 : (fC σ) 435 = σ 435 := fC_ne _ (by decide)
    have t6 : (fC σ) 436 = σ 436 := fC_ne _ (by decide)
    have t7 : (fC σ) 437 = σ 437 := fC_ne _ (by decide)
    have u1 : 0 ≤ (fC σ) 432 2 := by rw [t2]; exact k0
    have u2 : (fC σ) 432 2 ≤ 16 := by rw [t2]; exact k1
    have uN : NI ((fC σ) 433) := by rw [t3]; exact hN
    have uS : SI ((fC σ) 435) ((fC σ) 436) := by rw [t5, t6]; exact hC.si
    have := uN.a0; have := uN.b0; have := uN.a1; have := uN.b1; have := uN.a2; have := uN.b2; have := uN.a3; have := uN.b3; have := uN.a4; have := uN.b4; have := uN.a5; have := uN.b5; have := uN.a7; have := uN.b7; have := uN.a8; have := uN.b8; have := uN.a9; have := uN.b9; have := uN.a10; have := uN.b10
    have r := sp_177 (L := L) (d := d) (σ := fC σ) (c := c) (by omega) (by first | assumption | exact uN.oM | exact uN.oP | omega)
    simp only [aheadM, t3, if_neg g] at r
    refine ck_fnd hC ?_ r
    (rw [ex_cd_eq (by omega)]; show ex_ev (d - 1) 99 0 [vR 4, vI c, vL 0] [] _ = _; (repeat' first | simp (disch := first | assumption | omega | ((repeat' first | exact ok_nil | apply ok_I | apply ok_R); done) | (simp (disch := first | omega | decide) only [ex_ar_same, ex_ar_diff, kM_diff, ex_u_same, ex_u_diff]; first | assumption | omega)) only [ev_99_0, ev_99_1, ev_99_2, gf_4_0, gf_5_0, iz, x_fall, x_goto, x_ret1, xc_132, xc_134, xc_34_35, xc_34_6, xl_a0, xl_i1, xl_i2, xt_i2, y_if_ne_f, y_if_ne_t, i_wr_id, kM_diff, Int.reduceToNat, ex_ar_same, ex_ar_ar, ex_ar_diff, ex_u_same, ex_u_diff, b2i_t, b2i_f, ex_div_nn, ex_rem_nn, Int.toNat_zero, Int.toNat_one, Int.reduceAdd, Int.reduceSub, Int.reduceMul, Int.reduceNeg, kC_ne, fC_ne] | refine bb_eq (fun _ => ?_) (fun _ => ?_) | refine bb_ne (fun _ => ?_) (fun _ => ?_) | refine bc_eq (fun _ => ?_) (fun _ => ?_) | refine bc_ne (fun _ => ?_) (fun _ => ?_) | refine bc_lt (fun _ => ?_) (fun _ => ?_) | refine bc_ge (fun _ => ?_) (fun _ => ?_) | refine bc_gt (fun _ => ?_) (fun _ => ?_) | refine bc_le (fun _ => ?_) (fun _ => ?_) | refine bi_eq (fun _ => ?_) (fun _ => ?_) | refine bi_ne (fun _ => ?_) (fun _ => ?_) | refine bi_lt (fun _ => ?_) (fun _ => ?_) | refine bi_ge (fun _ => ?_) (fun _ => ?_) | refine bi_gt (fun _ => ?_) (fun _ => ?_) | refine bi_le (fun _ => ?_) (fun _ => ?_)))
/-! a morning, counted from the front or from behind -/
def mbI (g : Nat → Nat → Int) (i : Nat) : Nat → Int
  | 0 => 0
  | j + 1 => mbI g i j + g (i + 1 + j) i
def mbO (g : Nat → Nat → Int) (M : Nat) : Nat → Int
  | 0 => 0
  | i + 1 => mbO g M i + mbI g i (M - (i + 1))
def mfI (g : Nat → Nat → Int) (f : Nat) : Nat → Int
  | 0 => 0
  | j + 1 => mfI g f j + g f j
def mfO (g : Nat → Nat → Int) : Nat → Int
  | 0 => 0
  | f + 1 => mfO g f + mfI g f f
theorem mbO_step (g : Nat → Nat → Int) (M : Nat) : ∀ i : Nat, i ≤ M → mbO g (M + 1) i = mbO g M i + mfI g M i
  | 0, _ => rfl
  | i + 1, h => by
    rw [mbO, mbO, mfI, mbO_step g M i (by omega), show M + 1 - (i + 1) = (M - (i + 1)) + 1 by omega, mbI, show i + 1 + (M - (i + 1)) = M by omega]
    omega
theorem mbO_cO (g : Nat → Nat → Int) : ∀ M : Nat, mbO g M M = mfO g M
  | 0 => rfl
  | M + 1 => by
    rw [mbO, mfO, mbO_step g M M (Nat.le_refl M), mbO_cO g M, Nat.sub_self]
    show mfO g M + mfI g M M + 0 = _
    omega
def moG (n : Int → Int) (l : Int) (k i : Nat) : Int := if n (115 + n (51 + 8 * l + (i : Int))) < n (115 + n (51 + 8 * l + (k : Int))) then 2 else 0
theorem morI_g (n : Int → Int) (l : Int) (i : Nat) : ∀ j, morI n l i j = mbI (moG n l) i j
  | 0 => rfl
  | j + 1 => by
    rw [morI, mbI, morI_g n l i j, moG, show ((i : Int) + 1 + (j : Int)) = ((i + 1 + j : Nat) : Int) by omega]
theorem morO_g (n : Int → Int) (l : Int) : ∀ i, morO n l i = mbO (moG n l) (n (46 + l)).toNat i
  | 0 => rfl
  | i + 1 => by rw [morO, mbO, morO_g n l i, morI_g]
theorem morn_c (n : Int → Int) (l : Int) : mornN n l = mfO (moG n l) (n (46 + l)).toNat := by unfold mornN; rw [morO_g, mbO_cO]
theorem mfI_bd (n : Int → Int) (l : Int) (f : Nat) : ∀ j, 0 ≤ mfI (moG n l) f j ∧ mfI (moG n l) f j ≤ 2 * (j : Int)
  | 0 => ⟨Int.le_refl 0, Int.le_refl 0⟩
  | j + 1 => by
    have ih := mfI_bd n l f j
    have b : 0 ≤ moG n l f j ∧ moG n l f j ≤ 2 := by unfold moG; split <;> omega
    rw [mfI]
    omega
theorem mfO_bd (n : Int → Int) (l : Int) : ∀ f : Nat, f ≤ 8 → 0 ≤ mfO (moG n l) f ∧ mfO (moG n l) f ≤ 16 * (f : Int)
  | 0, _ => ⟨Int.le_refl 0, Int.le_refl 0⟩
  | f + 1, h => by
    have ih := mfO_bd n l f (by omega)
    have := mfI_bd n l f f
    rw [mfO]
    omega
theorem sp_36 {d : Nat} (hd : 1 < d) {L : Nat} {σ : ex_S} {n : Int → Int} {l : Int} (hR : RG6 σ n) (hN : NI n) (h3 : 0 ≤ l) (h4 : l < n 0) : ex_cd d 36 [vR 6, vI l] (SH L, σ) = some ([vI (mornN n l)], (SH L, σ)) := by
  rw [ex_cd_eq (by omega)]
  show ex_ev (d - 1) 36 0 [vR 6, vI l, vL 0, vL 0, vL 0, vL 0] [] (SH L, σ) = _
  have b0 := hN.b0
  have m := hN.oM l h3 (by omega)
  have st := hR.st l h3 h4
  have ez : ∀ z : Int, n (91 + 8 * 3 + z) = n (115 + z) := fun z => by rw [show 91 + 8 * 3 + z = 115 + z by omega]
  rw [morn_c]
  have li : ∀ f : Nat, f < (n (46 + l)).toNat → ∀ s : Int, 0 ≤ s → s ≤ 1000 → ∀ j : Nat, j ≤ f → ∀ a : Int, a = s + mfI (moG n l) f j → ex_ev (d - 1) 36 2 [vR 6, vI l, vI a, vI (f : Int), vI (n (115 + n (51 + 8 * l + (f : Int)))), vI (j : Int)] [] (SH L, σ) = ex_ev (d - 1) 36 1 [vR 6, vI l, vI (s + mfI (moG n l) f f), vI ((f : Int) + 1), vI (n (115 + n (51 + 8 * l + (f : Int)))), vI (f : Int)] [] (SH L, σ) := by
    intro f hf s hs hs2
    refine down ?_ ?_
    · intro a ha
      rw [← ha, ev_36_2]
      (repeat' first | simp (disch := first | assumption | omega | ((repeat' first | exact ok_nil | apply ok_I | apply ok_R); done) | (simp (disch := first | omega | decide) only [ex_ar_same, ex_ar_diff, kM_diff, ex_u_same, ex_u_diff]; first | assumption | omega)) only [ev_36_0, ev_36_3, ev_36_4, ev_36_5, ev_36_6, gf_35_9, gf_6_9, ld_14, ld_43, x_fall, x_goto, x_push, x_ret1, xc_17_35, xc_17_6, xc_23_35, xc_23_6, xl_a0, xl_i1, xl_i2, xl_i3, xl_i4, xl_i5, xn_3, xn_5, xt_i2, xt_i3, xt_i4, xt_i5, y_cmp_ge_f, y_cmp_ge_t, y_cmp_le_f, y_cmp_le_t, y_iadd, i_wr_id, kM_diff, Int.reduceToNat, ex_ar_same, ex_ar_ar, ex_ar_diff, ex_u_same, ex_u_diff, b2i_t, b2i_f, ex_div_nn, ex_rem_nn, Int.toNat_zero, Int.toNat_one, Int.reduceAdd, Int.reduceSub, Int.reduceMul, Int.reduceNeg, kC_ne, fC_ne] | refine bb_eq (fun _ => ?_) (fun _ => ?_) | refine bb_ne (fun _ => ?_) (fun _ => ?_) | refine bc_eq (fun _ => ?_) (fun _ => ?_) | refine bc_ne (fun _ => ?_) (fun _ => ?_) | refine bc_lt (fun _ => ?_) (fun _ => ?_) | refine bc_ge (fun _ => ?_) (fun _ => ?_) | refine bc_gt (fun _ => ?_) (fun _ => ?_) | refine bc_le (fun _ => ?_) (fun _ => ?_) | refine bi_eq (fun _ => ?_) (fun _ => ?_) | refine bi_ne (fun _ => ?_) (fun _ => ?_) | refine bi_lt (fun _ => ?_) (fun _ => ?_) | refine bi_ge (fun _ => ?_) (fun _ => ?_) | refine bi_gt (fun _ => ?_) (fun _ => ?_) | refine bi_le (fun _ => ?_) (fun _ => ?_))
    · intro j hj ih a ha
      have p1 := hN.oP l j h3 (by omega) (by omega) (by omega)
      have p2 := hN.po l j h3 (by omega) (by omega) (by omega)
      have b := mfI_bd n l f j
      have hm : mfI (moG n l) f (j + 1) = mfI (moG n l) f j + (if n (115 + n (51 + 8 * l + (j : Int))) < n (115 + n (51 + 8 * l + (f : Int))) then 2 else 0) := rfl
      rw [ev_36_2]
      (repeat' first | simp (disch := first | assumption | omega | ((repeat' first | exact ok_nil | apply ok_I | apply ok_R); done) | (simp (disch := first | omega | decide) only [ex_ar_same, ex_ar_diff, kM_diff, ex_u_same, ex_u_diff]; first | assumption | omega)) only [ev_36_0, ev_36_3, ev_36_4, ev_36_5, ev_36_6, ez, gf_35_9, gf_6_9, ld_14, ld_43, x_fall, x_goto, x_push, x_ret1, xc_17_35, xc_17_6, xc_23_35, xc_23_6, xl_a0, xl_i1, xl_i2, xl_i3, xl_i4, xl_i5, xn_3, xn_5, xt_i2, xt_i3, xt_i4, xt_i5, y_cmp_ge_f, y_cmp_ge_t, y_cmp_le_f, y_cmp_le_t, y_iadd, i_wr_id, kM_diff, Int.reduceToNat, ex_ar_same, ex_ar_ar, ex_ar_diff, ex_u_same, ex_u_diff, b2i_t, b2i_f, ex_div_nn, ex_rem_nn, Int.toNat_zero, Int.toNat_one, Int.reduceAdd, Int.reduceSub, Int.reduceMul, Int.reduceNeg, kC_ne, fC_ne] | refine bb_eq (fun _ => ?_) (fun _ => ?_) | refine bb_ne (fun _ => ?_) (fun _ => ?_) | refine bc_eq (fun _ => ?_) (fun _ => ?_) | refine bc_ne (fun _ => ?_) (fun _ => ?_) | refine bc_lt (fun _ => ?_) (fun _ => ?_) | refine bc_ge (fun _ => ?_) (fun _ => ?_) | refine bc_gt (fun _ => ?_) (fun _ => ?_) | refine bc_le (fun _ => ?_) (fun _ => ?_) | refine bi_eq (fun _ => ?_) (fun _ => ?_) | refine bi_ne (fun _ => ?_) (fun _ => ?_) | refine bi_lt (fun _ => ?_) (fun _ => ?_) | refine bi_ge (fun _ => ?_) (fun _ => ?_) | refine bi_gt (fun _ => ?_) (fun _ => ?_) | refine bi_le (fun _ => ?_) (fun _ => ?_))
      all_goals
        rw [nat_cast_succ]
        refine ih _ ?_
        rw [hm]
        (try simp (disch := first | assumption | omega) only [if_pos, if_neg])
        omega
  have lo : ∀ f : Nat, f ≤ (n (46 + l)).toNat → 0 < f → ∀ w1 w2 : ex_V, ex_ev (d - 1) 36 1 [vR 6, vI l, vI (mfO (moG n l) f), vI (f : Int), w1, w2] [] (SH L, σ) = some ([vI (mfO (moG n l) (n (46 + l)).toNat)], (SH L, σ)) := by
    refine down ?_ ?_
    · intro _ w1 w2
      rw [ev_36_1]
      (repeat' first | simp (disch := first | assumption | omega | ((repeat' first | exact ok_nil | apply ok_I | apply ok_R); done) | (simp (disch := first | omega | decide) only [ex_ar_same, ex_ar_diff, kM_diff, ex_u_same, ex_u_diff]; first | assumption | omega)) only [ev_36_0, ev_36_3, ev_36_4, ev_36_5, ev_36_6, gf_35_9, gf_6_9, ld_14, ld_43, x_fall, x_goto, x_push, x_ret1, xc_17_35, xc_17_6, xc_23_35, xc_23_6, xl_a0, xl_i1, xl_i2, xl_i3, xl_i4, xl_i5, xn_3, xn_5, xt_i2, xt_i3, xt_i4, xt_i5, y_cmp_ge_f, y_cmp_ge_t, y_cmp_le_f, y_cmp_le_t, y_iadd, i_wr_id, kM_diff, Int.reduceToNat, ex_ar_same, ex_ar_ar, ex_ar_diff, ex_u_same, ex_u_diff, b2i_t, b2i_f, ex_div_nn, ex_rem_nn, Int.toNat_zero, Int.toNat_one, Int.reduceAdd, Int.reduceSub, Int.reduceMul, Int.reduceNeg, kC_ne, fC_ne] | refine bb_eq (fun _ => ?_) (fun _ => ?_) | refine bb_ne (fun _ => ?_) (fun _ => ?_) | refine bc_eq (fun _ => ?_) (fun _ => ?_) | refine bc_ne (fun _ => ?_) (fun _ => ?_) | refine bc_lt (fun _ => ?_) (fun _ => ?_) | refine bc_ge (fun _ => ?_) (fun _ => ?_) | refine bc_gt (fun _ => ?_) (fun _ => ?_) | refine bc_le (fun _ => ?_) (fun _ => ?_) | refine bi_eq (fun _ => ?_) (fun _ => ?_) | refine bi_ne (fun _ => ?_) (fun _ => ?_) | refine bi_lt (fun _ => ?_) (fun _ => ?_) | refine bi_ge (fun _ => ?_) (fun _ => ?_) | refine bi_gt (fun _ => ?_) (fun _ => ?_) | refine bi_le (fun _ => ?_) (fun _ => ?_))
    · intro f hf ih h0 w1 w2
      have p1 := hN.oP l f h3 (by omega) (by omega) (by omega)
      have p2 := hN.po l f h3 (by omega) (by omega) (by omega)
      have b := mfO_bd n l f (by omega)
      rw [ev_36_1]
      simp (disch := first | assumption | omega | ((repeat' first | exact ok_nil | apply ok_I | apply ok_R); done) | (simp (disch := first | omega | decide) only [ex_ar_same, ex_ar_diff, kM_diff, ex_u_same, ex_u_diff]; first | assumption | omega)) only [ev_36_0, ev_36_3, ev_36_4, ev_36_5, ev_36_6, ez, gf_35_9, gf_6_9, ld_14, ld_43, x_fall, x_goto, x_push, x_ret1, xc_17_35, xc_17_6, xc_23_35, xc_23_6, xl_a0, xl_i1, xl_i2, xl_i3, xl_i4, xl_i5, xn_3, xn_5, xt_i2, xt_i3, xt_i4, xt_i5, y_cmp_ge_f, y_cmp_ge_t, y_cmp_le_f, y_cmp_le_t, y_iadd, i_wr_id, kM_diff, Int.reduceToNat, ex_ar_same, ex_ar_ar, ex_ar_diff, ex_u_same, ex_u_diff, b2i_t, b2i_f, ex_div_nn, ex_rem_nn, Int.toNat_zero, Int.toNat_one, Int.reduceAdd, Int.reduceSub, Int.reduceMul, Int.reduceNeg, kC_ne, fC_ne]
      have := li f hf (mfO (moG n l) f) (by omega) (by omega) 0 (by omega) (mfO (moG n l) f) (show mfO (moG n l) f = mfO (moG n l) f + (0 : Int) by omega)
      refine Eq.trans this ?_
      rw [nat_cast_succ]
      exact ih (by omega) _ _
  by_cases z : n (46 + l) = 0
  · rw [show (n (46 + l)).toNat = 0 by omega]
    show _ = some ([vI 0], _)
    simp (disch := first | assumption | omega | ((repeat' first | exact ok_nil | apply ok_I | apply ok_R); done) | (simp (disch := first | omega | decide) only [ex_ar_same, ex_ar_diff, kM_diff, ex_u_same, ex_u_diff]; first | assumption | omega)) only [ev_36_0, ev_36_1, ev_36_3, ev_36_4, ev_36_5, ev_36_6, gf_35_9, gf_6_9, ld_14, ld_43, x_fall, x_goto, x_push, x_ret1, xc_17_35, xc_17_6, xc_23_35, xc_23_6, xl_a0, xl_i1, xl_i2, xl_i3, xl_i4, xl_i5, xn_3, xn_5, xt_i2, xt_i3, xt_i4, xt_i5, y_cmp_ge_f, y_cmp_ge_t, y_cmp_le_f, y_cmp_le_t, y_iadd, i_wr_id, kM_diff, Int.reduceToNat, ex_ar_same, ex_ar_ar, ex_ar_diff, ex_u_same, ex_u_diff, b2i_t, b2i_f, ex_div_nn, ex_rem_nn, Int.toNat_zero, Int.toNat_one, Int.reduceAdd, Int.reduceSub, Int.reduceMul, Int.reduceNeg, kC_ne, fC_ne]
  · simp (disch := first | assumption | omega | ((repeat' first | exact ok_nil | apply ok_I | apply ok_R); done) | (simp (disch := first | omega | decide) only [ex_ar_same, ex_ar_diff, kM_diff, ex_u_same, ex_u_diff]; first | assumption | omega)) only [ev_36_0, ev_36_3, ev_36_4, ev_36_5, ev_36_6, gf_35_9, gf_6_9, ld_14, ld_43, x_fall, x_goto, x_push, x_ret1, xc_17_35, xc_17_6, xc_23_35, xc_23_6, xl_a0, xl_i1, xl_i2, xl_i3, xl_i4, xl_i5, xn_3, xn_5, xt_i2, xt_i3, xt_i4, xt_i5, y_cmp_ge_f, y_cmp_ge_t, y_cmp_le_f, y_cmp_le_t, y_iadd, i_wr_id, kM_diff, Int.reduceToNat, ex_ar_same, ex_ar_ar, ex_ar_diff, ex_u_same, ex_u_diff, b2i_t, b2i_f, ex_div_nn, ex_rem_nn, Int.toNat_zero, Int.toNat_one, Int.reduceAdd, Int.reduceSub, Int.reduceMul, Int.reduceNeg, kC_ne, fC_ne]
    have := lo 1 (by omega) (by omega) (vL 0) (vL 0)
    exact this
theorem xc_36 {rt d : Nat} {J : Nat → List ex_V → List ex_V → ex_H → Option ex_R} {is : List Instr} {ls st : List ex_V} {L : Nat} {σ : ex_S} {n : Int → Int} {l : Int} (hR : RG6 σ n) (hN : NI n) (h3 : 0 ≤ l) (h4 : l < n 0) (hd : 1 < d) (hok : okN 8 st = true) : ex_xs rt J (ex_cd d) (.invokevirtual 36 :: is) ls (vI l :: vR 6 :: st) (SH L, σ) = ex_xs rt J (ex_cd d) is ls (vI (mornN n l) :: st) (SH L, σ) := x_call1 (Or.inl rfl) rfl (sh_6 _) (Or.inl ⟨rfl, rfl⟩) (as := [vI l]) rfl rfl (okN_ok hok) rfl (sp_36 hd hR hN h3 h4)
theorem mornS_1 (n : Int → Int) : ∀ i : Nat, mornS n (-1) (i + 1) = mornS n (-1) i + mornN n (i : Int) := fun i => by rw [mornS, if_pos (Or.inl rfl)]
theorem mornS_l {n : Int → Int} {l : Int} (hl : 0 ≤ l) : ∀ i : Nat, mornS n l i = if l < (i : Int) then mornN n l else 0
  | 0 => by rw [if_neg (by omega)]; rfl
  | i + 1 => by
    rw [mornS, mornS_l hl i]
    by_cases z : l = (i : Int)
    · rw [if_neg (by omega), if_pos (Or.inr z), if_pos (by omega), z]; omega
    · rw [if_neg (show ¬ (l = -1 ∨ l = (i : Int)) by omega)]
      by_cases y : l < (i : Int)
      · rw [if_pos y, if_pos (by omega)]; omega
      · rw [if_neg y, if_neg (by omega)]; omega
theorem ck_103 {L d : Nat} {σ : ex_S} {l : Int} (hC : CI σ) (hd : 20 < d) : CK 103 186 [vI l] σ L d := by
  (have p0 := hC.pr.p0; have p1 := hC.pr.p1; have k0 := hC.pr.k0; have k1 := hC.pr.k1; have kq := hC.pr.q; have q0 : 0 ≤ σ 4 10 := (by omega); have q1 : σ 4 10 ≤ 16 := (by omega); have hN := hC.ni; have hR := hC.rd.g; have hD := hC.rd; have hT := hC.st)
  have a0 := hN.a0
  have b0 := hN.b0
  have la := hR.la
  by_cases g : l = -1 ∨ (0 ≤ l ∧ l < σ 433 0)
  · have r := sp_186 (L := L) (d := d) (σ := σ) (l := l) (by omega) hN
    simp only [morningM, if_pos g] at r
    refine ck_get hC ?_ r
    by_cases z : l = -1
    · subst z
      rw [ex_cd_eq (by omega)]
      show ex_ev (d - 1) 103 0 [vR 4, vI (-1), vL 0, vL 0] [] _ = _
      have lp : ∀ i : Nat, i ≤ (σ 433 0).toNat → ex_ev (d - 1) 103 4 [vR 4, vI (-1), vI (mornS (σ 433) (-1) i), vI (i : Int)] [] (SH L, σ) = some ([vI (mornS (σ 433) (-1) (σ 433 0).toNat)], (SH L, σ)) := by
        refine down ?_ ?_
        · rw [ev_103_4]
          simp (disch := first | assumption | omega | ((repeat' first | exact ok_nil | apply ok_I | apply ok_R); done) | (simp (disch := first | omega | decide) only [ex_ar_same, ex_ar_diff, kM_diff, ex_u_same, ex_u_diff]; first | assumption | omega)) only [ev_103_0, ev_103_1, ev_103_2, ev_103_3, ev_103_5, gf_35_0, gf_4_0, gf_5_0, gf_6_0, x_fall, x_goto, x_push, x_ret1, xc_132, xc_13_35, xc_13_6, xc_36, xl_a0, xl_i1, xl_i2, xl_i3, xn_3, xt_i2, xt_i3, y_cmp_eq_f, y_cmp_eq_t, y_cmp_ge_f, y_cmp_ge_t, y_iadd, y_if_eq_f, y_if_eq_t, i_wr_id, kM_diff, Int.reduceToNat, ex_ar_same, ex_ar_ar, ex_ar_diff, ex_u_same, ex_u_diff, b2i_t, b2i_f, ex_div_nn, ex_rem_nn, Int.toNat_zero, Int.toNat_one, Int.reduceAdd, Int.reduceSub, Int.reduceMul, Int.reduceNeg, kC_ne, fC_ne]
        · intro i hi ih
          have b := mornS_bd hN (-1) i (by omega)
          have b2 := mornN_bd hN (show 0 ≤ (i : Int) by omega) (by omega)
          rw [mornS_1] at ih
          rw [ev_103_4]
          simp (disch := first | assumption | omega | ((repeat' first | exact ok_nil | apply ok_I | apply ok_R); done) | (simp (disch := first | omega | decide) only [ex_ar_same, ex_ar_diff, kM_diff, ex_u_same, ex_u_diff]; first | assumption | omega)) only [ev_103_0, ev_103_1, ev_103_2, ev_103_3, ev_103_5, gf_35_0, gf_4_0, gf_5_0, gf_6_0, x_fall, x_goto, x_push, x_ret1, xc_132, xc_13_35, xc_13_6, xc_36, xl_a0, xl_i1, xl_i2, xl_i3, xn_3, xt_i2, xt_i3, y_cmp_eq_f, y_cmp_eq_t, y_cmp_ge_f, y_cmp_ge_t, y_iadd, y_if_eq_f, y_if_eq_t, i_wr_id, kM_diff, Int.reduceToNat, ex_ar_same, ex_ar_ar, ex_ar_diff, ex_u_same, ex_u_diff, b2i_t, b2i_f, ex_div_nn, ex_rem_nn, Int.toNat_zero, Int.toNat_one, Int.reduceAdd, Int.reduceSub, Int.reduceMul, Int.reduceNeg, kC_ne, fC_ne]
          rw [nat_cast_succ]
          exact ih
      simp (disch := first | assumption | omega | ((repeat' first | exact ok_nil | apply ok_I | apply ok_R); done) | (simp (disch := first | omega | decide) only [ex_ar_same, ex_ar_diff, kM_diff, ex_u_same, ex_u_diff]; first | assumption | omega)) only [ev_103_0, ev_103_1, ev_103_2, ev_103_3, ev_103_5, gf_35_0, gf_4_0, gf_5_0, gf_6_0, x_fall, x_goto, x_push, x_ret1, xc_132, xc_13_35, xc_13_6, xc_36, xl_a0, xl_i1, xl_i2, xl_i3, xn_3, xt_i2, xt_i3, y_cmp_eq_f, y_cmp_eq_t, y_cmp_ge_f, y_cmp_ge_t, y_iadd, y_if_eq_f, y_if_eq_t, i_wr_id, kM_diff, Int.reduceToNat, ex_ar_same, ex_ar_ar, ex_ar_diff, ex_u_same, ex_u_diff, b2i_t, b2i_f, ex_div_nn, ex_rem_nn, Int.toNat_zero, Int.toNat_one, Int.reduceAdd, Int.reduceSub, Int.reduceMul, Int.reduceNeg, kC_ne, fC_ne]
      exact lp 0 (by omega)
    · rw [mornS_l (by omega), if_pos (by omega)]
      (rw [ex_cd_eq (by omega)]; show ex_ev (d - 1) 103 0 [vR 4, vI l, vL 0, vL 0] [] _ = _; (repeat' first | simp (disch := first | assumption | omega | ((repeat' first | exact ok_nil | apply ok_I | apply ok_R); done) | (simp (disch := first | omega | decide) only [ex_ar_same, ex_ar_diff, kM_diff, ex_u_same, ex_u_diff]; first | assumption | omega)) only [ev_103_0, ev_103_1, ev_103_2, ev_103_3, ev_103_5, gf_35_0, gf_4_0, gf_5_0, gf_6_0, x_fall, x_goto, x_push, x_ret1, xc_132, xc_13_35, xc_13_6, xc_36, xl_a0, xl_i1, xl_i2, xl_i3, xn_3, xt_i2, xt_i3, y_cmp_eq_f, y_cmp_eq_t, y_cmp_ge_f, y_cmp_ge_t, y_iadd, y_if_eq_f, y_if_eq_t, i_wr_id, kM_diff, Int.reduceToNat, ex_ar_same, ex_ar_ar, ex_ar_diff, ex_u_same, ex_u_diff, b2i_t, b2i_f, ex_div_nn, ex_rem_nn, Int.toNat_zero, Int.toNat_one, Int.reduceAdd, Int.reduceSub, Int.reduceMul, Int.reduceNeg, kC_ne, fC_ne] | refine bb_eq (fun _ => ?_) (fun _ => ?_) | refine bb_ne (fun _ => ?_) (fun _ => ?_) | refine bc_eq (fun _ => ?_) (fun _ => ?_) | refine bc_ne (fun _ => ?_) (fun _ => ?_) | refine bc_lt (fun _ => ?_) (fun _ => ?_) | refine bc_ge (fun _ => ?_) (fun _ => ?_) | refine bc_gt (fun _ => ?_) (fun _ => ?_) | refine bc_le (fun _ => ?_) (fun _ => ?_) | refine bi_eq (fun _ => ?_) (fun _ => ?_) | refine bi_ne (fun _ => ?_) (fun _ => ?_) | refine bi_lt (fun _ => ?_) (fun _ => ?_) | refine bi_ge (fun _ => ?_) (fun _ => ?_) | refine bi_gt (fun _ => ?_) (fun _ => ?_) | refine bi_le (fun _ => ?_) (fun _ => ?_)))
  · have t2 : (fC σ) 432 = σ 432 := fC_ne _ (by decide)
    have t3 : (fC σ) 433 = σ 433 := fC_ne _ (by decide)
    have t5 : (fC σ) 435 = σ 435 := fC_ne _ (by decide)
    have t6 : (fC σ) 436 = σ 436 := fC_ne _ (by decide)
    have t7 : (fC σ) 437 = σ 437 := fC_ne _ (by decide)
    have u1 : 0 ≤ (fC σ) 432 2 := by rw [t2]; exact k0
    have u2 : (fC σ) 432 2 ≤ 16 := by rw [t2]; exact k1
    have uN : NI ((fC σ) 433) := by rw [t3]; exact hN
    have uS : SI ((fC σ) 435) ((fC σ) 436) := by rw [t5, t6]; exact hC.si
    have := uN.a0; have := uN.b0; have := uN.a1; have := uN.b1; have := uN.a2; have := uN.b2; have := uN.a3; have := uN.b3; have := uN.a4; have := uN.b4; have := uN.a5; have := uN.b5; have := uN.a7; have := uN.b7; have := uN.a8; have := uN.b8; have := uN.a9; have := uN.b9; have := uN.a10; have := uN.b10
    have r := sp_186 (L := L) (d := d) (σ := fC σ) (l := l) (by omega) (by first | assumption | exact uN.oM | exact uN.oP | omega)
    simp only [morningM, t3, if_neg g] at r
    refine ck_fnd hC ?_ r
    (rw [ex_cd_eq (by omega)]; show ex_ev (d - 1) 103 0 [vR 4, vI l, vL 0, vL 0] [] _ = _; (repeat' first | simp (disch := first | assumption | omega | ((repeat' first | exact ok_nil | apply ok_I | apply ok_R); done) | (simp (disch := first | omega | decide) only [ex_ar_same, ex_ar_diff, kM_diff, ex_u_same, ex_u_diff]; first | assumption | omega)) only [ev_103_0, ev_103_1, ev_103_2, ev_103_3, ev_103_5, gf_35_0, gf_4_0, gf_5_0, gf_6_0, x_fall, x_goto, x_push, x_ret1, xc_132, xc_13_35, xc_13_6, xc_36, xl_a0, xl_i1, xl_i2, xl_i3, xn_3, xt_i2, xt_i3, y_cmp_eq_f, y_cmp_eq_t, y_cmp_ge_f, y_cmp_ge_t, y_iadd, y_if_eq_f, y_if_eq_t, i_wr_id, kM_diff, Int.reduceToNat, ex_ar_same, ex_ar_ar, ex_ar_diff, ex_u_same, ex_u_diff, b2i_t, b2i_f, ex_div_nn, ex_rem_nn, Int.toNat_zero, Int.toNat_one, Int.reduceAdd, Int.reduceSub, Int.reduceMul, Int.reduceNeg, kC_ne, fC_ne] | refine bb_eq (fun _ => ?_) (fun _ => ?_) | refine bb_ne (fun _ => ?_) (fun _ => ?_) | refine bc_eq (fun _ => ?_) (fun _ => ?_) | refine bc_ne (fun _ => ?_) (fun _ => ?_) | refine bc_lt (fun _ => ?_) (fun _ => ?_) | refine bc_ge (fun _ => ?_) (fun _ => ?_) | refine bc_gt (fun _ => ?_) (fun _ => ?_) | refine bc_le (fun _ => ?_) (fun _ => ?_) | refine bi_eq (fun _ => ?_) (fun _ => ?_) | refine bi_ne (fun _ => ?_) (fun _ => ?_) | refine bi_lt (fun _ => ?_) (fun _ => ?_) | refine bi_ge (fun _ => ?_) (fun _ => ?_) | refine bi_gt (fun _ => ?_) (fun _ => ?_) | refine bi_le (fun _ => ?_) (fun _ => ?_)))
