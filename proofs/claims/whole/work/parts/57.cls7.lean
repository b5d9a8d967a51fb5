/-! the class: what is asked of lanes and cars; lanes broken, cars told anew, floods, bids -/
theorem y_tab_d {rt : Nat} {J : Nat → List ex_V → List ex_V → ex_H → Option ex_R} {C : Nat → List ex_V → ex_H → Option ex_R} {is : List Instr} {ls st : List ex_V} {h : ex_H} {df lo hi : Int} {of : Array Int} {a : Int} (q : a < lo ∨ hi < a) : ex_xs rt J C (.tableswitch df lo hi of :: is) ls (vI a :: st) h = J df.toNat ls st h := by rw [x_tab, if_pos q]
theorem y_tab_k {rt : Nat} {J : Nat → List ex_V → List ex_V → ex_H → Option ex_R} {C : Nat → List ex_V → ex_H → Option ex_R} {is : List Instr} {ls st : List ex_V} {h : ex_H} {df lo hi : Int} {of : Array Int} {a t : Int} (q : ¬ (a < lo ∨ hi < a)) (ht : of[(a - lo).toNat]? = some t) : ex_xs rt J C (.tableswitch df lo hi of :: is) ls (vI a :: st) h = J t.toNat ls st h := by rw [x_tab, if_neg q, ht]
theorem sp_19 {d : Nat} (hd : 0 < d) {L : Nat} {σ : ex_S} {n : Int → Int} {l w : Int} (hR : RG6 σ n) (hN : NI n) (hT : ST σ) (h1 : 0 ≤ l) (h2 : l < n 0) (h3 : 0 ≤ w) (h4 : w ≤ 3) : ex_cd d 19 [vR 6, vI l, vI w] (SH L, σ) = some ([vI (b2i (w = 0 ∨ n (11 + l) = w ∨ (w = 1 ∧ n (11 + l) = 3)))], (SH L, σ)) := by
  rw [ex_cd_eq (by omega)]
  show ex_ev (d - 1) 19 0 [vR 6, vI l, vI w, vL 0, vL 0] [] (SH L, σ) = _
  have b0 := hN.b0
  have k := hN.kd l h1 (by omega)
  have e := hR.kd l h1 h2
  have s0 := hT.k0
  have s1 := hT.k1
  have s2 := hT.k2
  have s3 := hT.k3
  rcases (show n (11 + l) = 0 ∨ n (11 + l) = 1 ∨ n (11 + l) = 2 ∨ n (11 + l) = 3 by omega) with q | q | q | q
  all_goals
    rw [q] at e ⊢
    (repeat' first | simp (disch := first | assumption | omega | ((repeat' first | exact ok_nil | apply ok_I | apply ok_R); done) | (simp (disch := first | omega | decide) only [ex_ar_same, ex_ar_diff, kM_diff, ex_u_same, ex_u_diff]; first | assumption | omega)) only [e, ev_19_0, ev_19_1, ev_19_2, ev_19_3, gf_35_2, gf_6_2, ld_1, ld_36, ld_7, ln_1, ln_36, ln_7, s0, s1, s2, s3, x_fall, x_gets0, x_goto, x_push, x_ret2, x_ret2b, xl_a0, xl_i1, xl_i2, xl_i3, xl_i4, xn_4, xt_i3, xt_i4, y_cmp_eq_f, y_cmp_eq_t, y_cmp_ge_f, y_cmp_ge_t, y_cmp_ne_f, y_cmp_ne_t, i_wr_id, kM_diff, Int.reduceToNat, ex_ar_same, ex_ar_ar, ex_ar_diff, ex_u_same, ex_u_diff, b2i_t, b2i_f, ex_div_nn, ex_rem_nn, Int.toNat_zero, Int.toNat_one, Int.reduceAdd, Int.reduceSub, Int.reduceMul, Int.reduceNeg, kC_ne, fC_ne] | refine bb_eq (fun _ => ?_) (fun _ => ?_) | refine bb_ne (fun _ => ?_) (fun _ => ?_) | refine bc_eq (fun _ => ?_) (fun _ => ?_) | refine bc_ne (fun _ => ?_) (fun _ => ?_) | refine bc_lt (fun _ => ?_) (fun _ => ?_) | refine bc_ge (fun _ => ?_) (fun _ => ?_) | refine bc_gt (fun _ => ?_) (fun _ => ?_) | refine bc_le (fun _ => ?_) (fun _ => ?_) | refine bi_eq (fun _ => ?_) (fun _ => ?_) | refine bi_ne (fun _ => ?_) (fun _ => ?_) | refine bi_lt (fun _ => ?_) (fun _ => ?_) | refine bi_ge (fun _ => ?_) (fun _ => ?_) | refine bi_gt (fun _ => ?_) (fun _ => ?_) | refine bi_le (fun _ => ?_) (fun _ => ?_))
theorem xc_19 {rt d : Nat} {J : Nat → List ex_V → List ex_V → ex_H → Option ex_R} {is : List Instr} {ls st : List ex_V} {L : Nat} {σ : ex_S} {n : Int → Int} {l w : Int} (hR : RG6 σ n) (hN : NI n) (hT : ST σ) (h1 : 0 ≤ l) (h2 : l < n 0) (h3 : 0 ≤ w) (h4 : w ≤ 3) (hd : 0 < d) (hok : okN 8 st = true) : ex_xs rt J (ex_cd d) (.invokevirtual 19 :: is) ls (vI w :: vI l :: vR 6 :: st) (SH L, σ) = ex_xs rt J (ex_cd d) is ls (vI (b2i (w = 0 ∨ n (11 + l) = w ∨ (w = 1 ∧ n (11 + l) = 3))) :: st) (SH L, σ) := x_call1 (Or.inl rfl) rfl (sh_6 _) (Or.inl ⟨rfl, rfl⟩) (as := [vI l, vI w]) rfl rfl (okN_ok hok) rfl (sp_19 hd hR hN hT h1 h2 h3 h4)
theorem ck_86 {L d : Nat} {σ : ex_S} {l k : Int} (hC : CI σ) (hd : 20 < d) : CK 86 151 [vI l, vI k] σ L d := by
  (have p0 := hC.pr.p0; have p1 := hC.pr.p1; have k0 := hC.pr.k0; have k1 := hC.pr.k1; have kq := hC.pr.q; have q0 : 0 ≤ σ 4 10 := (by omega); have q1 : σ 4 10 ≤ 16 := (by omega); have hN := hC.ni; have hR := hC.rd.g; have hD := hC.rd; have hT := hC.st)
  have b0 := hN.b0
  by_cases g : (0 ≤ l ∧ l < σ 433 0) ∧ 0 ≤ k ∧ k ≤ 3
  · obtain ⟨g1, g2⟩ := id g
    by_cases g3 : k = 0 ∨ σ 433 (11 + l) = k ∨ (k = 1 ∧ σ 433 (11 + l) = 3)
    · have t2 : σ 432 = σ 432 := rfl
      have t3 : σ 433 = σ 433 := rfl
      have t5 : σ 435 = σ 435 := rfl
      have t6 : σ 436 = σ 436 := rfl
      have t7 : σ 437 = σ 437 := rfl
      have u1 : 0 ≤ σ 432 2 := by rw [t2]; exact k0
      have u2 : σ 432 2 ≤ 16 := by rw [t2]; exact k1
      have uN : NI (σ 433) := by rw [t3]; exact hN
      have uS : SI (σ 435) (σ 436) := by rw [t5, t6]; exact hC.si
      have := uN.a0; have := uN.b0; have := uN.a1; have := uN.b1; have := uN.a2; have := uN.b2; have := uN.a3; have := uN.b3; have := uN.a4; have := uN.b4; have := uN.a5; have := uN.b5; have := uN.a7; have := uN.b7; have := uN.a8; have := uN.b8; have := uN.a9; have := uN.b9; have := uN.a10; have := uN.b10
      have r := sp_151 (L := L) (d := d) (σ := σ) (l := l) (k := k) (by omega) (by first | assumption | exact uN.oM | exact uN.oP | omega) (by first | assumption | exact uN.oM | exact uN.oP | omega)
      simp only [asM, if_pos g, if_pos g3] at r
      refine ck_get hC ?_ r
      (rw [ex_cd_eq (by omega)]; show ex_ev (d - 1) 86 0 [vR 4, vI l, vI k] [] _ = _; (repeat' first | simp (disch := first | assumption | omega | ((repeat' first | exact ok_nil | apply ok_I | apply ok_R); done) | (simp (disch := first | omega | decide) only [ex_ar_same, ex_ar_diff, kM_diff, ex_u_same, ex_u_diff]; first | assumption | omega)) only [ev_86_0, ev_86_1, ev_86_2, ev_86_3, ev_86_4, gf_4_0, gf_5_0, x_fall, x_goto, x_push, x_ret1, xc_11, xc_132, xc_13_35, xc_13_6, xc_19, xl_a0, xl_i1, xl_i2, y_if_eq_f, y_if_eq_t, y_if_ne_f, y_if_ne_t, i_wr_id, kM_diff, Int.reduceToNat, ex_ar_same, ex_ar_ar, ex_ar_diff, ex_u_same, ex_u_diff, b2i_t, b2i_f, ex_div_nn, ex_rem_nn, Int.toNat_zero, Int.toNat_one, Int.reduceAdd, Int.reduceSub, Int.reduceMul, Int.reduceNeg, kC_ne, fC_ne] | refine bb_eq (fun _ => ?_) (fun _ => ?_) | refine bb_ne (fun _ => ?_) (fun _ => ?_) | refine bc_eq (fun _ => ?_) (fun _ => ?_) | refine bc_ne (fun _ => ?_) (fun _ => ?_) | refine bc_lt (fun _ => ?_) (fun _ => ?_) | refine bc_ge (fun _ => ?_) (fun _ => ?_) | refine bc_gt (fun _ => ?_) (fun _ => ?_) | refine bc_le (fun _ => ?_) (fun _ => ?_) | refine bi_eq (fun _ => ?_) (fun _ => ?_) | refine bi_ne (fun _ => ?_) (fun _ => ?_) | refine bi_lt (fun _ => ?_) (fun _ => ?_) | refine bi_ge (fun _ => ?_) (fun _ => ?_) | refine bi_gt (fun _ => ?_) (fun _ => ?_) | refine bi_le (fun _ => ?_) (fun _ => ?_)))
    · have t2 : (fC σ) 432 = σ 432 := fC_ne _ (by decide)
      have t3 : (fC σ) 433 = σ 433 := fC_ne _ (by decide)
      have t5 : (fC σ) 435 = σ 435 := fC_ne _ (by decide)
      have t6 : (fC σ) 436 = σ 436 := fC_ne _ (by decide)
      have t7 : (fC σ) 437 = σ 437 := fC_ne _ (by decide)
      have u1 : 0 ≤ (fC σ) 432 2 := by rw [t2]; exact k0
      have u2 : (fC σ) 432 2 ≤ 16 := by rw [t2]; exact k1
      have uN : NI ((fC σ) 433) := by rw [t3]; exact hN
      have uS : SI ((fC σ) 435) ((fC σ) 436) := by rw [t5, t6]; exact hC.si
      have := uN.a0; have := uN.b0; have := uN.a1; have := uN.b1; have := uN.a2; have := uN.b2; have := uN.a3; have := uN.b3; have := uN.a4; have := uN.b4; have := uN.a5; have := uN.b5; have := uN.a7; have := uN.b7; have := uN.a8; have := uN.b8; have := uN.a9; have := uN.b9; have := uN.a10; have := uN.b10
      have r := sp_151 (L := L) (d := d) (σ := fC σ) (l := l) (k := k) (by omega) (by first | assumption | exact uN.oM | exact uN.oP | omega) (by first | assumption | exact uN.oM | exact uN.oP | omega)
      simp only [asM, t3, if_pos g, if_neg g3] at r
      refine ck_fnd hC ?_ r
      (rw [ex_cd_eq (by omega)]; show ex_ev (d - 1) 86 0 [vR 4, vI l, vI k] [] _ = _; (repeat' first | simp (disch := first | assumption | omega | ((repeat' first | exact ok_nil | apply ok_I | apply ok_R); done) | (simp (disch := first | omega | decide) only [ex_ar_same, ex_ar_diff, kM_diff, ex_u_same, ex_u_diff]; first | assumption | omega)) only [ev_86_0, ev_86_1, ev_86_2, ev_86_3, ev_86_4, gf_4_0, gf_5_0, x_fall, x_goto, x_push, x_ret1, xc_11, xc_132, xc_13_35, xc_13_6, xc_19, xl_a0, xl_i1, xl_i2, y_if_eq_f, y_if_eq_t, y_if_ne_f, y_if_ne_t, i_wr_id, kM_diff, Int.reduceToNat, ex_ar_same, ex_ar_ar, ex_ar_diff, ex_u_same, ex_u_diff, b2i_t, b2i_f, ex_div_nn, ex_rem_nn, Int.toNat_zero, Int.toNat_one, Int.reduceAdd, Int.reduceSub, Int.reduceMul, Int.reduceNeg, kC_ne, fC_ne] | refine bb_eq (fun _ => ?_) (fun _ => ?_) | refine bb_ne (fun _ => ?_) (fun _ => ?_) | refine bc_eq (fun _ => ?_) (fun _ => ?_) | refine bc_ne (fun _ => ?_) (fun _ => ?_) | refine bc_lt (fun _ => ?_) (fun _ => ?_) | refine bc_ge (fun _ => ?_) (fun _ => ?_) | refine bc_gt (fun _ => ?_) (fun _ => ?_) | refine bc_le (fun _ => ?_) (fun _ => ?_) | refine bi_eq (fun _ => ?_) (fun _ => ?_) | refine bi_ne (fun _ => ?_) (fun _ => ?_) | refine bi_lt (fun _ => ?_) (fun _ => ?_) | refine bi_ge (fun _ => ?_) (fun _ => ?_) | refine bi_gt (fun _ => ?_) (fun _ => ?_) | refine bi_le (fun _ => ?_) (fun _ => ?_)))
  · have t2 : (fC σ) 432 = σ 432 := fC_ne _ (by decide)
    have t3 : (fC σ) 433 = σ 433 := fC_ne _ (by decide)
    have t5 : (fC σ) 435 = σ 435 := fC_ne _ (by decide)
    have t6 : (fC σ) 436 = σ 436 := fC_ne _ (by decide)
    have t7 : (fC σ) 437 = σ 437 := fC_ne _ (by decide)
    have u1 : 0 ≤ (fC σ) 432 2 := by rw [t2]; exact k0
    have u2 : (fC σ) 432 2 ≤ 16 := by rw [t2]; exact k1
    have uN : NI ((fC σ) 433) := by rw [t3]; exact hN
    have uS : SI ((fC σ) 435) ((fC σ) 436) := by rw [t5, t6]; exact hC.si
    have := uN.a0; have := uN.b0; have := uN.a1; have := uN.b1; have := uN.a2; have := uN.b2; have := uN.a3; have := uN.b3; have := uN.a4; have := uN.b4; have := uN.a5; have := uN.b5; have := uN.a7; have := uN.b7; have := uN.a8; have := uN.b8; have := uN.a9; have := uN.b9; have := uN.a10; have := uN.b10
    have r := sp_151 (L := L) (d := d) (σ := fC σ) (l := l) (k := k) (by omega) (by first | assumption | exact uN.oM | exact uN.oP | omega) (by first | assumption | exact uN.oM | exact uN.oP | omega)
    simp only [asM, t3, if_neg g] at r
    refine ck_fnd hC ?_ r
    (rw [ex_cd_eq (by omega)]; show ex_ev (d - 1) 86 0 [vR 4, vI l, vI k] [] _ = _; (repeat' first | simp (disch := first | assumption | omega | ((repeat' first | exact ok_nil | apply ok_I | apply ok_R); done) | (simp (disch := first | omega | decide) only [ex_ar_same, ex_ar_diff, kM_diff, ex_u_same, ex_u_diff]; first | assumption | omega)) only [ev_86_0, ev_86_1, ev_86_2, ev_86_3, ev_86_4, gf_4_0, gf_5_0, x_fall, x_goto, x_push, x_ret1, xc_11, xc_132, xc_13_35, xc_13_6, xc_19, xl_a0, xl_i1, xl_i2, y_if_eq_f, y_if_eq_t, y_if_ne_f, y_if_ne_t, i_wr_id, kM_diff, Int.reduceToNat, ex_ar_same, ex_ar_ar, ex_ar_diff, ex_u_same, ex_u_diff, b2i_t, b2i_f, ex_div_nn, ex_rem_nn, Int.toNat_zero, Int.toNat_one, Int.reduceAdd, Int.reduceSub, Int.reduceMul, Int.reduceNeg, kC_ne, fC_ne] | refine bb_eq (fun _ => ?_) (fun _ => ?_) | refine bb_ne (fun _ => ?_) (fun _ => ?_) | refine bc_eq (fun _ => ?_) (fun _ => ?_) | refine bc_ne (fun _ => ?_) (fun _ => ?_) | refine bc_lt (fun _ => ?_) (fun _ => ?_) | refine bc_ge (fun _ => ?_) (fun _ => ?_) | refine bc_gt (fun _ => ?_) (fun _ => ?_) | refine bc_le (fun _ => ?_) (fun _ => ?_) | refine bi_eq (fun _ => ?_) (fun _ => ?_) | refine bi_ne (fun _ => ?_) (fun _ => ?_) | refine bi_lt (fun _ => ?_) (fun _ => ?_) | refine bi_ge (fun _ => ?_) (fun _ => ?_) | refine bi_gt (fun _ => ?_) (fun _ => ?_) | refine bi_le (fun _ => ?_) (fun _ => ?_)))
theorem ck_87 {L d : Nat} {σ : ex_S} {l v : Int} (hC : CI σ) (hd : 20 < d) : CK 87 154 [vI l, vI v] σ L d := by
  (have p0 := hC.pr.p0; have p1 := hC.pr.p1; have k0 := hC.pr.k0; have k1 := hC.pr.k1; have kq := hC.pr.q; have q0 : 0 ≤ σ 4 10 := (by omega); have q1 : σ 4 10 ≤ 16 := (by omega); have hN := hC.ni; have hR := hC.rd.g; have hD := hC.rd; have hT := hC.st)
  have b0 := hN.b0
  by_cases g : (0 ≤ l ∧ l < σ 433 0) ∧ 0 ≤ v ∧ v ≤ 7
  · obtain ⟨⟨g1, g2⟩, g3⟩ := id g
    have e0 := hR.kd l g1 g2
    have e1 := hR.le l g1 g2
    have e2 := hR.ht l g1 g2
    have e4 := hR.st l g1 g2
    have e6 := hR.cy l g1 g2
    have e7 := hR.bk l g1 g2
    have x0 : (11 : Int) + 5 * 0 + l = 11 + l := by omega
    have x1 : (11 : Int) + 5 * 1 + l = 16 + l := by omega
    have x2 : (11 : Int) + 5 * 2 + l = 21 + l := by omega
    have x3 : (11 : Int) + 5 * 3 + l = 26 + l := by omega
    rcases (show v = 0 ∨ v = 1 ∨ v = 2 ∨ v = 3 ∨ v = 4 ∨ v = 5 ∨ v = 6 ∨ v = 7 by omega) with rfl | rfl | rfl | rfl | rfl | rfl | rfl | rfl
    all_goals
      have t2 : σ 432 = σ 432 := rfl
      have t3 : σ 433 = σ 433 := rfl
      have t5 : σ 435 = σ 435 := rfl
      have t6 : σ 436 = σ 436 := rfl
      have t7 : σ 437 = σ 437 := rfl
      have u1 : 0 ≤ σ 432 2 := by rw [t2]; exact k0
      have u2 : σ 432 2 ≤ 16 := by rw [t2]; exact k1
      have uN : NI (σ 433) := by rw [t3]; exact hN
      have uS : SI (σ 435) (σ 436) := by rw [t5, t6]; exact hC.si
      have := uN.a0; have := uN.b0; have := uN.a1; have := uN.b1; have := uN.a2; have := uN.b2; have := uN.a3; have := uN.b3; have := uN.a4; have := uN.b4; have := uN.a5; have := uN.b5; have := uN.a7; have := uN.b7; have := uN.a8; have := uN.b8; have := uN.a9; have := uN.b9; have := uN.a10; have := uN.b10
      have r := sp_154 (L := L) (d := d) (σ := σ) (l := l) (w := _) (by omega) (by first | assumption | omega) (by first | assumption | omega) uN.oM uN.oP
      rw [if_pos g, if_pos g] at r
      simp only [Int.reduceEq, reduceIte, x0, x1, x2, x3] at r
      refine ck_get hC ?_ r
      rw [ex_cd_eq (by omega)]
      show ex_ev (d - 1) 87 0 [vR 4, vI l, vI _, vL 0] [] _ = _
      (repeat' first | simp (disch := first | assumption | omega | ((repeat' first | exact ok_nil | apply ok_I | apply ok_R); done) | (simp (disch := first | omega | decide) only [ex_ar_same, ex_ar_diff, kM_diff, ex_u_same, ex_u_diff]; first | assumption | omega) | exact rfl) only [e0, e1, e2, e4, e6, e7, ev_87_0, ev_87_1, ev_87_10, ev_87_2, ev_87_3, ev_87_4, ev_87_5, ev_87_6, ev_87_7, ev_87_8, ev_87_9, gf_35_2, gf_35_3, gf_35_4, gf_35_7, gf_35_8, gf_35_9, gf_4_0, gf_5_0, gf_6_2, gf_6_3, gf_6_4, gf_6_7, gf_6_8, gf_6_9, ld_12, ld_13, ld_14, ld_36, ld_37, ld_38, ld_41, ld_42, ld_43, ld_7, ld_8, ld_9, x_push, x_ret1, xc_132, xc_13_35, xc_13_6, xc_21_35, xc_21_6, xc_24_35, xc_24_6, xl_a0, xl_a3, xl_i1, xl_i2, xt_a3, y_if_ne_f, y_if_ne_t, y_tab_d, y_tab_k, i_wr_id, kM_diff, Int.reduceToNat, ex_ar_same, ex_ar_ar, ex_ar_diff, ex_u_same, ex_u_diff, b2i_t, b2i_f, ex_div_nn, ex_rem_nn, Int.toNat_zero, Int.toNat_one, Int.reduceAdd, Int.reduceSub, Int.reduceMul, Int.reduceNeg, kC_ne, fC_ne] | refine bb_eq (fun _ => ?_) (fun _ => ?_) | refine bb_ne (fun _ => ?_) (fun _ => ?_) | refine bc_eq (fun _ => ?_) (fun _ => ?_) | refine bc_ne (fun _ => ?_) (fun _ => ?_) | refine bc_lt (fun _ => ?_) (fun _ => ?_) | refine bc_ge (fun _ => ?_) (fun _ => ?_) | refine bc_gt (fun _ => ?_) (fun _ => ?_) | refine bc_le (fun _ => ?_) (fun _ => ?_) | refine bi_eq (fun _ => ?_) (fun _ => ?_) | refine bi_ne (fun _ => ?_) (fun _ => ?_) | refine bi_lt (fun _ => ?_) (fun _ => ?_) | refine bi_ge (fun _ => ?_) (fun _ => ?_) | refine bi_gt (fun _ => ?_) (fun _ => ?_) | refine bi_le (fun _ => ?_) (fun _ => ?_))
  · have t3 : fC σ 433 = σ 433 := fC_ne _ (by decide)
    have r := sp_154 (L := L) (d := d) (σ := fC σ) (l := l) (w := v) (by omega) (by rw [t3]; exact hN.a0) (by rw [t3]; exact hN.b0) (by rw [t3]; exact hN.oM) (by rw [t3]; exact hN.oP)
    rw [t3, if_neg g, if_neg g] at r
    refine ck_fnd hC ?_ r
    (rw [ex_cd_eq (by omega)]; show ex_ev (d - 1) 87 0 [vR 4, vI l, vI v, vL 0] [] _ = _; (repeat' first | simp (disch := first | assumption | omega | ((repeat' first | exact ok_nil | apply ok_I | apply ok_R); done) | (simp (disch := first | omega | decide) only [ex_ar_same, ex_ar_diff, kM_diff, ex_u_same, ex_u_diff]; first | assumption | omega) | exact rfl) only [ev_87_0, ev_87_1, ev_87_10, ev_87_2, ev_87_3, ev_87_4, ev_87_5, ev_87_6, ev_87_7, ev_87_8, ev_87_9, gf_35_2, gf_35_3, gf_35_4, gf_35_7, gf_35_8, gf_35_9, gf_4_0, gf_5_0, gf_6_2, gf_6_3, gf_6_4, gf_6_7, gf_6_8, gf_6_9, ld_12, ld_13, ld_14, ld_36, ld_37, ld_38, ld_41, ld_42, ld_43, ld_7, ld_8, ld_9, x_push, x_ret1, xc_132, xc_13_35, xc_13_6, xc_21_35, xc_21_6, xc_24_35, xc_24_6, xl_a0, xl_a3, xl_i1, xl_i2, xt_a3, y_if_ne_f, y_if_ne_t, y_tab_d, y_tab_k, i_wr_id, kM_diff, Int.reduceToNat, ex_ar_same, ex_ar_ar, ex_ar_diff, ex_u_same, ex_u_diff, b2i_t, b2i_f, ex_div_nn, ex_rem_nn, Int.toNat_zero, Int.toNat_one, Int.reduceAdd, Int.reduceSub, Int.reduceMul, Int.reduceNeg, kC_ne, fC_ne] | refine bb_eq (fun _ => ?_) (fun _ => ?_) | refine bb_ne (fun _ => ?_) (fun _ => ?_) | refine bc_eq (fun _ => ?_) (fun _ => ?_) | refine bc_ne (fun _ => ?_) (fun _ => ?_) | refine bc_lt (fun _ => ?_) (fun _ => ?_) | refine bc_ge (fun _ => ?_) (fun _ => ?_) | refine bc_gt (fun _ => ?_) (fun _ => ?_) | refine bc_le (fun _ => ?_) (fun _ => ?_) | refine bi_eq (fun _ => ?_) (fun _ => ?_) | refine bi_ne (fun _ => ?_) (fun _ => ?_) | refine bi_lt (fun _ => ?_) (fun _ => ?_) | refine bi_ge (fun _ => ?_) (fun _ => ?_) | refine bi_gt (fun _ => ?_) (fun _ => ?_) | refine bi_le (fun _ => ?_) (fun _ => ?_)))
