/-! the class: a text is told -/
theorem sp_62 {d : Nat} (hd : 0 < d) {h : ex_H} {v : Int} : ex_cd d 62 [vI v] (h) = some ([vI (b2i (signP v))], (h)) := by
  rw [ex_cd_eq (by omega)]
  show ex_ev (d - 1) 62 0 [vI v] [] (h) = _
  unfold signP
  (repeat' first | simp (disch := first | assumption | omega | ((repeat' first | exact ok_nil | apply ok_I | apply ok_R); done) | (simp (disch := first | omega | decide) only [ex_ar_same, ex_ar_diff, kM_diff, ex_u_same, ex_u_diff]; first | assumption | omega)) only [ev_62_0, ev_62_1, ev_62_2, ev_62_3, ev_62_4, ev_62_5, x_fall, x_goto, x_push, x_ret2, x_ret2b, xl_i0, y_cmp_gt_f, y_cmp_gt_t, y_cmp_le_f, y_cmp_le_t, y_cmp_lt_f, y_cmp_lt_t, i_wr_id, kM_diff, Int.reduceToNat, ex_ar_same, ex_ar_ar, ex_ar_diff, ex_u_same, ex_u_diff, b2i_t, b2i_f, ex_div_nn, ex_rem_nn, Int.toNat_zero, Int.toNat_one, Int.reduceAdd, Int.reduceSub, Int.reduceMul, Int.reduceNeg, kC_ne, fC_ne] | refine bb_eq (fun _ => ?_) (fun _ => ?_) | refine bb_ne (fun _ => ?_) (fun _ => ?_) | refine bc_eq (fun _ => ?_) (fun _ => ?_) | refine bc_ne (fun _ => ?_) (fun _ => ?_) | refine bc_lt (fun _ => ?_) (fun _ => ?_) | refine bc_ge (fun _ => ?_) (fun _ => ?_) | refine bc_gt (fun _ => ?_) (fun _ => ?_) | refine bc_le (fun _ => ?_) (fun _ => ?_) | refine bi_eq (fun _ => ?_) (fun _ => ?_) | refine bi_ne (fun _ => ?_) (fun _ => ?_) | refine bi_lt (fun _ => ?_) (fun _ => ?_) | refine bi_ge (fun _ => ?_) (fun _ => ?_) | refine bi_gt (fun _ => ?_) (fun _ => ?_) | refine bi_le (fun _ => ?_) (fun _ => ?_))
  all_goals first | rw [b2i_t (by omega)] | rw [b2i_f (by omega)]
theorem xc_62 {rt d : Nat} {J : Nat → List ex_V → List ex_V → ex_H → Option ex_R} {is : List Instr} {ls st : List ex_V} {h : ex_H} {v : Int} (hd : 0 < d) (hok : okN 8 st = true) : ex_xs rt J (ex_cd d) (.invokestatic 62 :: is) ls (vI v :: st) (h) = ex_xs rt J (ex_cd d) is ls (vI (b2i (signP v)) :: st) (h) := x_call0 (as := [vI v]) rfl rfl rfl (okN_ok hok) rfl (sp_62 hd )
theorem sgn_al2 (a : Int → Int) (s : Int) : ∀ (j i : Nat), sgnN a s i j = 1 → ∀ k : Int, (i : Int) ≤ k → k < (i : Int) + (j : Int) → signP (a (20 * s + k))
  | 0, _, _, k, h1, h2 => by omega
  | j + 1, i, h, k, h1, h2 => by
    rw [sgnN] at h
    by_cases z : signP (a (20 * s + (i : Int)))
    · rw [if_pos z] at h
      by_cases y : k = (i : Int)
      · rw [y]; exact z
      · exact sgn_al2 a s j (i + 1) h k (by omega) (by omega)
    · rw [if_neg z] at h; exact absurd h (by decide)
theorem NR_sign {b u v : Int} (hb : b = 8 ∨ b = 16 ∨ b = 32) (h : NR b u v) : (signP u ↔ signP v) ∧ (signP v → u = v) := by
  obtain ⟨h1, h2, h3⟩ := h
  unfold signP
  rcases hb with e | e | e
  · obtain ⟨a, b, c⟩ := h2 e
    split at c <;> omega
  · obtain ⟨a, b, c⟩ := h3 e
    split at c <;> omega
  · have := h1 e
    omega
def tcF (f a : Int → Int) (s : Int) (j : Nat) : Int → Int := fun k => if 0 ≤ k ∧ k < (j : Int) then a (s * 20 + k) else f k
theorem tcF_0 (f a : Int → Int) (s : Int) : tcF f a s 0 = f := by funext k; unfold tcF; rw [if_neg (by omega)]
theorem tcF_s (f a : Int → Int) (s : Int) (j : Nat) : ex_u (tcF f a s j) (j : Int) (a (s * 20 + (j : Int))) = tcF f a s (j + 1) := by
  funext k
  by_cases h : k = (j : Int)
  · subst h
    rw [ex_u_same]
    unfold tcF
    rw [if_pos (by omega)]
  · rw [ex_u_diff _ _ h]
    unfold tcF
    by_cases h2 : 0 ≤ k ∧ k < (j : Int)
    · rw [if_pos h2, if_pos (by omega)]
    · rw [if_neg h2, if_neg (by omega)]
theorem ck_118 {L d : Nat} {σ : ex_S} {s : Int} (hC : CI σ) (hd : 20 < d) : CK 118 213 [vI s] σ L d := by
  (have p0 := hC.pr.p0; have p1 := hC.pr.p1; have k0 := hC.pr.k0; have k1 := hC.pr.k1; have kq := hC.pr.q; have q0 : 0 ≤ σ 4 10 := (by omega); have q1 : σ 4 10 ≤ 16 := (by omega); have hN := hC.ni; have hR := hC.rd.g; have hD := hC.rd; have hT := hC.st)
  by_cases g : 0 ≤ s ∧ s ≤ 3
  · obtain ⟨b1, b2, b3⟩ := hC.si s g.1 g.2
    have eb := hC.sb s g.1 g.2
    have ez := hC.sz s g.1 g.2
    by_cases g2 : σ 435 s = 0
    · have t2 : (fC σ) 432 = σ 432 := fC_ne _ (by decide)
      have t3 : (fC σ) 433 = σ 433 := fC_ne _ (by decide)
      have t5 : (fC σ) 435 = σ 435 := fC_ne _ (by decide)
      have t6 : (fC σ) 436 = σ 436 := fC_ne _ (by decide)
      have t7 : (fC σ) 437 = σ 437 := fC_ne _ (by decide)
      have u1 : 0 ≤ (fC σ) 432 2 := by rw [t2]; exact k0
      have u2 : (fC σ) 432 2 ≤ 16 := by rw [t2]; exact k1
      have uN : NI ((fC σ) 433) := by rw [t3]; exact hN
      have uS : SI ((fC σ) 435) ((fC σ) 436) := by rw [t5, t6]; exact hC.si
      have := uN.a0; have := uN.b0; have := uN.a1; have := uN.b1; have := uN.a2; have := uN.b2; have := uN.a3; have := uN.b3; have := uN.a4; have := uN.b4; have := uN.a5; have := uN.b5; have := uN.a7; have := uN.b7; have := uN.a8; have := uN.b8; have := uN.a9; have := uN.b9; have := uN.a10; have := uN.b10
      have r := sp_213 (L := L) (d := d) (σ := fC σ) (s := s) (by omega) (by first | assumption | exact uN.oM | exact uN.oP | omega) (by first | assumption | exact uN.oM | exact uN.oP | omega) (by first | assumption | exact uN.oM | exact uN.oP | omega)
      simp only [textM, t3, t5, t6, t7, if_pos g, if_pos g2] at r
      refine ck_fnd hC ?_ r
      (rw [ex_cd_eq (by omega)]; show ex_ev (d - 1) 118 0 [vR 4, vI s, vL 0, vL 0] [] _ = _; (repeat' first | simp (disch := first | assumption | omega | ((repeat' first | exact ok_nil | apply ok_I | apply ok_R); done) | (simp (disch := first | omega | decide) only [ex_ar_same, ex_ar_diff, kM_diff, ex_u_same, ex_u_diff]; first | assumption | omega)) only [eb, ev_118_0, ev_118_1, ev_118_2, ev_118_3, ev_118_5, ev_118_6, ev_118_8, ez, gf_29_1, gf_4_0, gf_4_2, gf_5_4, ld_26, ld_31, pf_5_6, sd_26, sd_31, x_fall, x_goto, x_push, x_ret1, xc_132, xc_133, xc_62, xc_71, xc_72, xc_74, xl_a0, xl_i1, xl_i2, xl_i3, xn_3, xt_i2, xt_i3, y_cmp_ge_f, y_cmp_ge_t, y_cmp_le_f, y_cmp_le_t, y_if_eq_f, y_if_eq_t, y_if_ne_f, y_if_ne_t, i_wr_id, kM_diff, Int.reduceToNat, ex_ar_same, ex_ar_ar, ex_ar_diff, ex_u_same, ex_u_diff, b2i_t, b2i_f, ex_div_nn, ex_rem_nn, Int.toNat_zero, Int.toNat_one, Int.reduceAdd, Int.reduceSub, Int.reduceMul, Int.reduceNeg, kC_ne, fC_ne] | refine bb_eq (fun _ => ?_) (fun _ => ?_) | refine bb_ne (fun _ => ?_) (fun _ => ?_) | refine bc_eq (fun _ => ?_) (fun _ => ?_) | refine bc_ne (fun _ => ?_) (fun _ => ?_) | refine bc_lt (fun _ => ?_) (fun _ => ?_) | refine bc_ge (fun _ => ?_) (fun _ => ?_) | refine bc_gt (fun _ => ?_) (fun _ => ?_) | refine bc_le (fun _ => ?_) (fun _ => ?_) | refine bi_eq (fun _ => ?_) (fun _ => ?_) | refine bi_ne (fun _ => ?_) (fun _ => ?_) | refine bi_lt (fun _ => ?_) (fun _ => ?_) | refine bi_ge (fun _ => ?_) (fun _ => ?_) | refine bi_gt (fun _ => ?_) (fun _ => ?_) | refine bi_le (fun _ => ?_) (fun _ => ?_)))
    · by_cases g3 : 16 < σ 436 s
      · have t2 : (fC σ) 432 = σ 432 := fC_ne _ (by decide)
        have t3 : (fC σ) 433 = σ 433 := fC_ne _ (by decide)
        have t5 : (fC σ) 435 = σ 435 := fC_ne _ (by decide)
        have t6 : (fC σ) 436 = σ 436 := fC_ne _ (by decide)
        have t7 : (fC σ) 437 = σ 437 := fC_ne _ (by decide)
        have u1 : 0 ≤ (fC σ) 432 2 := by rw [t2]; exact k0
        have u2 : (fC σ) 432 2 ≤ 16 := by rw [t2]; exact k1
        have uN : NI ((fC σ) 433) := by rw [t3]; exact hN
        have uS : SI ((fC σ) 435) ((fC σ) 436) := by rw [t5, t6]; exact hC.si
        have := uN.a0; have := uN.b0; have := uN.a1; have := uN.b1; have := uN.a2; have := uN.b2; have := uN.a3; have := uN.b3; have := uN.a4; have := uN.b4; have := uN.a5; have := uN.b5; have := uN.a7; have := uN.b7; have := uN.a8; have := uN.b8; have := uN.a9; have := uN.b9; have := uN.a10; have := uN.b10
        have r := sp_213 (L := L) (d := d) (σ := fC σ) (s := s) (by omega) (by first | assumption | exact uN.oM | exact uN.oP | omega) (by first | assumption | exact uN.oM | exact uN.oP | omega) (by first | assumption | exact uN.oM | exact uN.oP | omega)
        simp only [textM, t3, t5, t6, t7, if_pos g, if_neg g2, if_pos g3] at r
        refine ck_fnd hC ?_ r
        (rw [ex_cd_eq (by omega)]; show ex_ev (d - 1) 118 0 [vR 4, vI s, vL 0, vL 0] [] _ = _; (repeat' first | simp (disch := first | assumption | omega | ((repeat' first | exact ok_nil | apply ok_I | apply ok_R); done) | (simp (disch := first | omega | decide) only [ex_ar_same, ex_ar_diff, kM_diff, ex_u_same, ex_u_diff]; first | assumption | omega)) only [eb, ev_118_0, ev_118_1, ev_118_2, ev_118_3, ev_118_5, ev_118_6, ev_118_8, ez, gf_29_1, gf_4_0, gf_4_2, gf_5_4, ld_26, ld_31, pf_5_6, sd_26, sd_31, x_fall, x_goto, x_push, x_ret1, xc_132, xc_133, xc_62, xc_71, xc_72, xc_74, xl_a0, xl_i1, xl_i2, xl_i3, xn_3, xt_i2, xt_i3, y_cmp_ge_f, y_cmp_ge_t, y_cmp_le_f, y_cmp_le_t, y_if_eq_f, y_if_eq_t, y_if_ne_f, y_if_ne_t, i_wr_id, kM_diff, Int.reduceToNat, ex_ar_same, ex_ar_ar, ex_ar_diff, ex_u_same, ex_u_diff, b2i_t, b2i_f, ex_div_nn, ex_rem_nn, Int.toNat_zero, Int.toNat_one, Int.reduceAdd, Int.reduceSub, Int.reduceMul, Int.reduceNeg, kC_ne, fC_ne] | refine bb_eq (fun _ => ?_) (fun _ => ?_) | refine bb_ne (fun _ => ?_) (fun _ => ?_) | refine bc_eq (fun _ => ?_) (fun _ => ?_) | refine bc_ne (fun _ => ?_) (fun _ => ?_) | refine bc_lt (fun _ => ?_) (fun _ => ?_) | refine bc_ge (fun _ => ?_) (fun _ => ?_) | refine bc_gt (fun _ => ?_) (fun _ => ?_) | refine bc_le (fun _ => ?_) (fun _ => ?_) | refine bi_eq (fun _ => ?_) (fun _ => ?_) | refine bi_ne (fun _ => ?_) (fun _ => ?_) | refine bi_lt (fun _ => ?_) (fun _ => ?_) | refine bi_ge (fun _ => ?_) (fun _ => ?_) | refine bi_gt (fun _ => ?_) (fun _ => ?_) | refine bi_le (fun _ => ?_) (fun _ => ?_)))
      · have l1 : ∀ j : Nat, j ≤ (σ 436 s).toNat → ex_ev (d - 1) 118 4 [vR 4, vI s, vI (σ 436 s), vI (j : Int)] [] (SH L, σ) = if sgnN (σ 437) s j ((σ 436 s).toNat - j) = 1 then ex_ev (d - 1) 118 6 [vR 4, vI s, vI (σ 436 s), vI (σ 436 s)] [] (SH L, σ) else some ([vI (-100001)], (SH L, fC σ)) := by
          refine down ?_ ?_
          · rw [Nat.sub_self, sgnN, if_pos rfl, ev_118_4, show (((σ 436 s).toNat : Nat) : Int) = σ 436 s by omega]
            simp (disch := first | assumption | omega | ((repeat' first | exact ok_nil | apply ok_I | apply ok_R); done) | (simp (disch := first | omega | decide) only [ex_ar_same, ex_ar_diff, kM_diff, ex_u_same, ex_u_diff]; first | assumption | omega)) only [ev_118_0, ev_118_1, ev_118_2, ev_118_3, ev_118_5, ev_118_8, gf_29_1, gf_4_0, gf_4_2, gf_5_4, ld_26, ld_31, pf_5_6, sd_26, sd_31, x_fall, x_goto, x_push, x_ret1, xc_132, xc_133, xc_62, xc_71, xc_72, xc_74, xl_a0, xl_i1, xl_i2, xl_i3, xn_3, xt_i2, xt_i3, y_cmp_ge_f, y_cmp_ge_t, y_cmp_le_f, y_cmp_le_t, y_if_eq_f, y_if_eq_t, y_if_ne_f, y_if_ne_t, i_wr_id, kM_diff, Int.reduceToNat, ex_ar_same, ex_ar_ar, ex_ar_diff, ex_u_same, ex_u_diff, b2i_t, b2i_f, ex_div_nn, ex_rem_nn, Int.toNat_zero, Int.toNat_one, Int.reduceAdd, Int.reduceSub, Int.reduceMul, Int.reduceNeg, kC_ne, fC_ne]
          · intro j hj ih
            obtain ⟨nr, -⟩ := NR_sign (by omega) (hC.nu s j g.1 g.2 (by omega) (by omega))
            rw [show (σ 436 s).toNat - j = ((σ 436 s).toNat - (j + 1)) + 1 by omega, sgnN, ev_118_4]
            by_cases z : signP (σ 437 (20 * s + (j : Int)))
            · rw [if_pos z]
              have z' := nr.mpr z
              simp (disch := first | assumption | omega | ((repeat' first | exact ok_nil | apply ok_I | apply ok_R); done) | (simp (disch := first | omega | decide) only [ex_ar_same, ex_ar_diff, kM_diff, ex_u_same, ex_u_diff]; first | assumption | omega)) only [ev_118_0, ev_118_1, ev_118_2, ev_118_3, ev_118_5, ev_118_8, gf_29_1, gf_4_0, gf_4_2, gf_5_4, ld_26, ld_31, pf_5_6, sd_26, sd_31, x_fall, x_goto, x_push, x_ret1, xc_132, xc_133, xc_62, xc_71, xc_72, xc_74, xl_a0, xl_i1, xl_i2, xl_i3, xn_3, xt_i2, xt_i3, y_cmp_ge_f, y_cmp_ge_t, y_cmp_le_f, y_cmp_le_t, y_if_eq_f, y_if_eq_t, y_if_ne_f, y_if_ne_t, i_wr_id, kM_diff, Int.reduceToNat, ex_ar_same, ex_ar_ar, ex_ar_diff, ex_u_same, ex_u_diff, b2i_t, b2i_f, ex_div_nn, ex_rem_nn, Int.toNat_zero, Int.toNat_one, Int.reduceAdd, Int.reduceSub, Int.reduceMul, Int.reduceNeg, kC_ne, fC_ne]
              rw [nat_cast_succ]
              exact ih
            · rw [if_neg z, if_neg (by decide)]
              have z' : ¬ signP (σ 32 (s * 20 + (j : Int))) := fun q => z (nr.mp q)
              simp (disch := first | assumption | omega | ((repeat' first | exact ok_nil | apply ok_I | apply ok_R); done) | (simp (disch := first | omega | decide) only [ex_ar_same, ex_ar_diff, kM_diff, ex_u_same, ex_u_diff]; first | assumption | omega)) only [ev_118_0, ev_118_1, ev_118_2, ev_118_3, ev_118_5, ev_118_8, gf_29_1, gf_4_0, gf_4_2, gf_5_4, ld_26, ld_31, pf_5_6, sd_26, sd_31, x_fall, x_goto, x_push, x_ret1, xc_132, xc_133, xc_62, xc_71, xc_72, xc_74, xl_a0, xl_i1, xl_i2, xl_i3, xn_3, xt_i2, xt_i3, y_cmp_ge_f, y_cmp_ge_t, y_cmp_le_f, y_cmp_le_t, y_if_eq_f, y_if_eq_t, y_if_ne_f, y_if_ne_t, i_wr_id, kM_diff, Int.reduceToNat, ex_ar_same, ex_ar_ar, ex_ar_diff, ex_u_same, ex_u_diff, b2i_t, b2i_f, ex_div_nn, ex_rem_nn, Int.toNat_zero, Int.toNat_one, Int.reduceAdd, Int.reduceSub, Int.reduceMul, Int.reduceNeg, kC_ne, fC_ne]
        by_cases g4 : sgnN (σ 437) s 0 (σ 436 s).toNat = 1
        · have hall := sgn_al2 (σ 437) s (σ 436 s).toNat 0 g4
          have l2 : ∀ j : Nat, j ≤ (σ 436 s).toNat → ex_ev (d - 1) 118 7 [vR 4, vI s, vI (σ 436 s), vI (j : Int)] [] (SH L, ex_ar (kC σ) 26 (tcF (σ 26) (σ 32) s j)) = some ([vI (σ 436 s)], (SH L, ex_ar (ex_ar (kC σ) 26 (tcF (σ 26) (σ 32) s (σ 436 s).toNat)) 5 (ex_u (σ 5) 6 (σ 436 s)))) := by
            refine down ?_ ?_
            · rw [ev_118_7]
              simp (disch := first | assumption | omega | ((repeat' first | exact ok_nil | apply ok_I | apply ok_R); done) | (simp (disch := first | omega | decide) only [ex_ar_same, ex_ar_diff, kM_diff, ex_u_same, ex_u_diff]; first | assumption | omega)) only [ev_118_0, ev_118_1, ev_118_2, ev_118_3, ev_118_5, ev_118_6, ev_118_8, gf_29_1, gf_4_0, gf_4_2, gf_5_4, ld_26, ld_31, pf_5_6, sd_26, sd_31, x_fall, x_goto, x_push, x_ret1, xc_132, xc_133, xc_62, xc_71, xc_72, xc_74, xl_a0, xl_i1, xl_i2, xl_i3, xn_3, xt_i2, xt_i3, y_cmp_ge_f, y_cmp_ge_t, y_cmp_le_f, y_cmp_le_t, y_if_eq_f, y_if_eq_t, y_if_ne_f, y_if_ne_t, i_wr_id, kM_diff, Int.reduceToNat, ex_ar_same, ex_ar_ar, ex_ar_diff, ex_u_same, ex_u_diff, b2i_t, b2i_f, ex_div_nn, ex_rem_nn, Int.toNat_zero, Int.toNat_one, Int.reduceAdd, Int.reduceSub, Int.reduceMul, Int.reduceNeg, kC_ne, fC_ne]
            · intro j hj ih
              rw [ev_118_7]
              simp (disch := first | assumption | omega | ((repeat' first | exact ok_nil | apply ok_I | apply ok_R); done) | (simp (disch := first | omega | decide) only [ex_ar_same, ex_ar_diff, kM_diff, ex_u_same, ex_u_diff]; first | assumption | omega)) only [ev_118_0, ev_118_1, ev_118_2, ev_118_3, ev_118_5, ev_118_6, ev_118_8, gf_29_1, gf_4_0, gf_4_2, gf_5_4, ld_26, ld_31, pf_5_6, sd_26, sd_31, x_fall, x_goto, x_push, x_ret1, xc_132, xc_133, xc_62, xc_71, xc_72, xc_74, xl_a0, xl_i1, xl_i2, xl_i3, xn_3, xt_i2, xt_i3, y_cmp_ge_f, y_cmp_ge_t, y_cmp_le_f, y_cmp_le_t, y_if_eq_f, y_if_eq_t, y_if_ne_f, y_if_ne_t, i_wr_id, kM_diff, Int.reduceToNat, ex_ar_same, ex_ar_ar, ex_ar_diff, ex_u_same, ex_u_diff, b2i_t, b2i_f, ex_div_nn, ex_rem_nn, Int.toNat_zero, Int.toNat_one, Int.reduceAdd, Int.reduceSub, Int.reduceMul, Int.reduceNeg, kC_ne, fC_ne]
              rw [tcF_s, nat_cast_succ]
              exact ih
          have q : ∀ x, 28 ≤ x → x < 64 ∨ 432 ≤ x → (ex_ar (ex_ar (kC σ) 26 (tcF (σ 26) (σ 32) s (σ 436 s).toNat)) 5 (ex_u (σ 5) 6 (σ 436 s))) x = σ x := fun x h1 h2 => by rw [ex_ar_diff _ _ _ (by omega), ex_ar_diff _ _ _ (by omega), kC5 hC _ (by omega) h2]
          have t2 : (ex_ar (ex_ar (kC σ) 26 (tcF (σ 26) (σ 32) s (σ 436 s).toNat)) 5 (ex_u (σ 5) 6 (σ 436 s))) 432 = σ 432 := q _ (by omega) (by omega)
          have t3 : (ex_ar (ex_ar (kC σ) 26 (tcF (σ 26) (σ 32) s (σ 436 s).toNat)) 5 (ex_u (σ 5) 6 (σ 436 s))) 433 = σ 433 := q _ (by omega) (by omega)
          have t5 : (ex_ar (ex_ar (kC σ) 26 (tcF (σ 26) (σ 32) s (σ 436 s).toNat)) 5 (ex_u (σ 5) 6 (σ 436 s))) 435 = σ 435 := q _ (by omega) (by omega)
          have t6 : (ex_ar (ex_ar (kC σ) 26 (tcF (σ 26) (σ 32) s (σ 436 s).toNat)) 5 (ex_u (σ 5) 6 (σ 436 s))) 436 = σ 436 := q _ (by omega) (by omega)
          have t7 : (ex_ar (ex_ar (kC σ) 26 (tcF (σ 26) (σ 32) s (σ 436 s).toNat)) 5 (ex_u (σ 5) 6 (σ 436 s))) 437 = σ 437 := q _ (by omega) (by omega)
          have u1 : 0 ≤ (ex_ar (ex_ar (kC σ) 26 (tcF (σ 26) (σ 32) s (σ 436 s).toNat)) 5 (ex_u (σ 5) 6 (σ 436 s))) 432 2 := by rw [t2]; exact k0
          have u2 : (ex_ar (ex_ar (kC σ) 26 (tcF (σ 26) (σ 32) s (σ 436 s).toNat)) 5 (ex_u (σ 5) 6 (σ 436 s))) 432 2 ≤ 16 := by rw [t2]; exact k1
          have uN : NI ((ex_ar (ex_ar (kC σ) 26 (tcF (σ 26) (σ 32) s (σ 436 s).toNat)) 5 (ex_u (σ 5) 6 (σ 436 s))) 433) := by rw [t3]; exact hN
          have uS : SI ((ex_ar (ex_ar (kC σ) 26 (tcF (σ 26) (σ 32) s (σ 436 s).toNat)) 5 (ex_u (σ 5) 6 (σ 436 s))) 435) ((ex_ar (ex_ar (kC σ) 26 (tcF (σ 26) (σ 32) s (σ 436 s).toNat)) 5 (ex_u (σ 5) 6 (σ 436 s))) 436) := by rw [t5, t6]; exact hC.si
          have := uN.a0; have := uN.b0; have := uN.a1; have := uN.b1; have := uN.a2; have := uN.b2; have := uN.a3; have := uN.b3; have := uN.a4; have := uN.b4; have := uN.a5; have := uN.b5; have := uN.a7; have := uN.b7; have := uN.a8; have := uN.b8; have := uN.a9; have := uN.b9; have := uN.a10; have := uN.b10
          have r := sp_213 (L := L) (d := d) (σ := ex_ar (ex_ar (kC σ) 26 (tcF (σ 26) (σ 32) s (σ 436 s).toNat)) 5 (ex_u (σ 5) 6 (σ 436 s))) (s := s) (by omega) (by first | assumption | exact uN.oM | exact uN.oP | omega) (by first | assumption | exact uN.oM | exact uN.oP | omega) (by first | assumption | exact uN.oM | exact uN.oP | omega)
          simp only [textM, t3, t5, t6, t7, if_pos g, if_neg g2, if_neg g3, if_pos g4] at r
          refine ck_act (σ1 := ex_ar (ex_ar (kC σ) 26 (tcF (σ 26) (σ 32) s (σ 436 s).toNat)) 5 (ex_u (σ 5) 6 (σ 436 s))) hC ?_ (fun x hx => by rw [ex_ar_diff _ _ _ (by omega), ex_ar_diff _ _ _ (by omega)]) r rfl ?_ ?_
          · rw [ex_cd_eq (by omega)]
            show ex_ev (d - 1) 118 0 [vR 4, vI s, vL 0, vL 0] [] _ = _
            simp (disch := first | assumption | omega | ((repeat' first | exact ok_nil | apply ok_I | apply ok_R); done) | (simp (disch := first | omega | decide) only [ex_ar_same, ex_ar_diff, kM_diff, ex_u_same, ex_u_diff]; first | assumption | omega)) only [eb, ev_118_0, ev_118_1, ev_118_2, ev_118_3, ev_118_5, ev_118_6, ev_118_8, ez, gf_29_1, gf_4_0, gf_4_2, gf_5_4, ld_26, ld_31, pf_5_6, sd_26, sd_31, x_fall, x_goto, x_push, x_ret1, xc_132, xc_133, xc_62, xc_71, xc_72, xc_74, xl_a0, xl_i1, xl_i2, xl_i3, xn_3, xt_i2, xt_i3, y_cmp_ge_f, y_cmp_ge_t, y_cmp_le_f, y_cmp_le_t, y_if_eq_f, y_if_eq_t, y_if_ne_f, y_if_ne_t, i_wr_id, kM_diff, Int.reduceToNat, ex_ar_same, ex_ar_ar, ex_ar_diff, ex_u_same, ex_u_diff, b2i_t, b2i_f, ex_div_nn, ex_rem_nn, Int.toNat_zero, Int.toNat_one, Int.reduceAdd, Int.reduceSub, Int.reduceMul, Int.reduceNeg, kC_ne, fC_ne]
            refine (l1 0 (by omega)).trans ?_
            rw [Nat.sub_zero, if_pos g4]
            have := l2 0 (by omega)
            rw [tcF_0] at this
            have e : ex_ar (kC σ) 26 (σ 26) = kC σ := by
              have := ex_ar_id (kC σ) 26
              rw [kC5 hC 26 (by omega) (by omega)] at this
              exact this
            rw [e] at this
            simp (disch := first | assumption | omega | ((repeat' first | exact ok_nil | apply ok_I | apply ok_R); done) | (simp (disch := first | omega | decide) only [ex_ar_same, ex_ar_diff, kM_diff, ex_u_same, ex_u_diff]; first | assumption | omega)) only [ev_118_0, ev_118_1, ev_118_2, ev_118_3, ev_118_5, ev_118_6, ev_118_8, gf_29_1, gf_4_0, gf_4_2, gf_5_4, ld_26, ld_31, pf_5_6, sd_26, sd_31, x_fall, x_goto, x_push, x_ret1, xc_132, xc_133, xc_62, xc_71, xc_72, xc_74, xl_a0, xl_i1, xl_i2, xl_i3, xn_3, xt_i2, xt_i3, y_cmp_ge_f, y_cmp_ge_t, y_cmp_le_f, y_cmp_le_t, y_if_eq_f, y_if_eq_t, y_if_ne_f, y_if_ne_t, i_wr_id, kM_diff, Int.reduceToNat, ex_ar_same, ex_ar_ar, ex_ar_diff, ex_u_same, ex_u_diff, b2i_t, b2i_f, ex_div_nn, ex_rem_nn, Int.toNat_zero, Int.toNat_one, Int.reduceAdd, Int.reduceSub, Int.reduceMul, Int.reduceNeg, kC_ne, fC_ne]
            exact this
          · have tn : ∀ k : Int, k < 231 ∨ 246 < k → txF (ex_u (σ 433) 9 (σ 436 s)) (σ 437) s (σ 436 s).toNat k = ex_u (σ 433) 9 (σ 436 s) k := fun k hk => by unfold txF; rw [if_neg (by omega)]
            refine RD5_tx (RD5_kC hC) hN (fun k k1 k2 k3 => by rw [tn k (by omega), ex_u_diff _ _ (by omega)]) (fun a a1 a2 => by rw [ex_ar_diff _ _ _ (by omega), ex_ar_diff _ _ _ a2]) (fun k hk => by rw [ex_ar_same, ex_u_diff _ _ hk, kC5 hC _ (by omega) (by omega)]) (fun k k1 k2 => ?_) ?_
            · rw [tn 9 (by omega), ex_u_same] at k2
              rw [ex_ar_diff _ _ _ (by decide), ex_ar_same]
              unfold tcF txF
              rw [if_pos (by omega), if_pos (by omega), show 231 + k - 231 = k by omega]
              exact (NR_sign (by omega) (hC.nu s k g.1 g.2 k1 (by omega))).2 (hall k (by omega) (by omega))
            · rw [ex_ar_same, ex_u_same, tn 9 (by omega), ex_u_same]
          · exact NI_text hN b2 (by omega) (fun i i0 i1 => hall i (by omega) (by omega))
        · have f3 : fC σ 433 = σ 433 := fC_ne _ (by decide)
          have f5 : fC σ 435 = σ 435 := fC_ne _ (by decide)
          have f6 : fC σ 436 = σ 436 := fC_ne _ (by decide)
          have f7 : fC σ 437 = σ 437 := fC_ne _ (by decide)
          have f2 : fC σ 432 = σ 432 := fC_ne _ (by decide)
          have r := sp_213 (L := L) (d := d) (σ := fC σ) (s := s) (by omega) (by rw [f5, f6]; exact hC.si) (by rw [f2]; exact k0) (by rw [f2]; exact k1)
          simp only [textM, f3, f5, f6, f7, if_pos g, if_neg g2, if_neg g3, if_neg g4] at r
          refine ck_fnd hC ?_ r
          rw [ex_cd_eq (by omega)]
          show ex_ev (d - 1) 118 0 [vR 4, vI s, vL 0, vL 0] [] _ = _
          simp (disch := first | assumption | omega | ((repeat' first | exact ok_nil | apply ok_I | apply ok_R); done) | (simp (disch := first | omega | decide) only [ex_ar_same, ex_ar_diff, kM_diff, ex_u_same, ex_u_diff]; first | assumption | omega)) only [eb, ev_118_0, ev_118_1, ev_118_2, ev_118_3, ev_118_5, ev_118_6, ev_118_8, ez, gf_29_1, gf_4_0, gf_4_2, gf_5_4, ld_26, ld_31, pf_5_6, sd_26, sd_31, x_fall, x_goto, x_push, x_ret1, xc_132, xc_133, xc_62, xc_71, xc_72, xc_74, xl_a0, xl_i1, xl_i2, xl_i3, xn_3, xt_i2, xt_i3, y_cmp_ge_f, y_cmp_ge_t, y_cmp_le_f, y_cmp_le_t, y_if_eq_f, y_if_eq_t, y_if_ne_f, y_if_ne_t, i_wr_id, kM_diff, Int.reduceToNat, ex_ar_same, ex_ar_ar, ex_ar_diff, ex_u_same, ex_u_diff, b2i_t, b2i_f, ex_div_nn, ex_rem_nn, Int.toNat_zero, Int.toNat_one, Int.reduceAdd, Int.reduceSub, Int.reduceMul, Int.reduceNeg, kC_ne, fC_ne]
          refine (l1 0 (by omega)).trans ?_
          rw [Nat.sub_zero, if_neg g4]
  · have t2 : (fC σ) 432 = σ 432 := fC_ne _ (by decide)
    have t3 : (fC σ) 433 = σ 433 := fC_ne _ (by decide)
    have t5 : (fC σ) 435 = σ 435 := fC_ne _ (by decide)
    have t6 : (fC σ) 436 = σ 436 := fC_ne _ (by decide)
    have t7 : (fC σ) 437 = σ 437 := fC_ne _ (by decide)
    have u1 : 0 ≤ (fC σ) 432 2 := by rw [t2]; exact k0
    have u2 : (fC σ) 432 2 ≤ 16 := by rw [t2]; exact k1
    have uN : NI ((fC σ) 433) := by rw [t3]; exact hN
    have uS : SI ((fC σ) 435) ((fC σ) 436) := by rw [t5, t6]; exact hC.si
    have := uN.a0; have := uN.b0; have := uN.a1; have := uN.b1; have := uN.a2; have := uN.b2; have := uN.a3; have := uN.b3; have := uN.a4; have := uN.b4; have := uN.a5; have := uN.b5; have := uN.a7; have := uN.b7; have := uN.a8; have := uN.b8; have := uN.a9; have := uN.b9; have := uN.a10; have := uN.b10
    have r := sp_213 (L := L) (d := d) (σ := fC σ) (s := s) (by omega) (by first | assumption | exact uN.oM | exact uN.oP | omega) (by first | assumption | exact uN.oM | exact uN.oP | omega) (by first | assumption | exact uN.oM | exact uN.oP | omega)
    simp only [textM, t3, if_neg g] at r
    refine ck_fnd hC ?_ r
    (rw [ex_cd_eq (by omega)]; show ex_ev (d - 1) 118 0 [vR 4, vI s, vL 0, vL 0] [] _ = _; (repeat' first | simp (disch := first | assumption | omega | ((repeat' first | exact ok_nil | apply ok_I | apply ok_R); done) | (simp (disch := first | omega | decide) only [ex_ar_same, ex_ar_diff, kM_diff, ex_u_same, ex_u_diff]; first | assumption | omega)) only [ev_118_0, ev_118_1, ev_118_2, ev_118_3, ev_118_5, ev_118_6, ev_118_8, gf_29_1, gf_4_0, gf_4_2, gf_5_4, ld_26, ld_31, pf_5_6, sd_26, sd_31, x_fall, x_goto, x_push, x_ret1, xc_132, xc_133, xc_62, xc_71, xc_72, xc_74, xl_a0, xl_i1, xl_i2, xl_i3, xn_3, xt_i2, xt_i3, y_cmp_ge_f, y_cmp_ge_t, y_cmp_le_f, y_cmp_le_t, y_if_eq_f, y_if_eq_t, y_if_ne_f, y_if_ne_t, i_wr_id, kM_diff, Int.reduceToNat, ex_ar_same, ex_ar_ar, ex_ar_diff, ex_u_same, ex_u_diff, b2i_t, b2i_f, ex_div_nn, ex_rem_nn, Int.toNat_zero, Int.toNat_one, Int.reduceAdd, Int.reduceSub, Int.reduceMul, Int.reduceNeg, kC_ne, fC_ne] | refine bb_eq (fun _ => ?_) (fun _ => ?_) | refine bb_ne (fun _ => ?_) (fun _ => ?_) | refine bc_eq (fun _ => ?_) (fun _ => ?_) | refine bc_ne (fun _ => ?_) (fun _ => ?_) | refine bc_lt (fun _ => ?_) (fun _ => ?_) | refine bc_ge (fun _ => ?_) (fun _ => ?_) | refine bc_gt (fun _ => ?_) (fun _ => ?_) | refine bc_le (fun _ => ?_) (fun _ => ?_) | refine bi_eq (fun _ => ?_) (fun _ => ?_) | refine bi_ne (fun _ => ?_) (fun _ => ?_) | refine bi_lt (fun _ => ?_) (fun _ => ?_) | refine bi_ge (fun _ => ?_) (fun _ => ?_) | refine bi_gt (fun _ => ?_) (fun _ => ?_) | refine bi_le (fun _ => ?_) (fun _ => ?_)))
