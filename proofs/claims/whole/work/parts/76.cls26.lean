/-! the class: rescues asked for -/
theorem ci_60 {σ σ' : ex_S} (hC : CI σ) (hf : ∀ a, a < 60 ∨ 63 < a → σ' a = σ a) : CI σ' :=
  ci_scr hC (fun a ha => hf a (by omega)) (by rw [hf _ (by omega)]) (by rw [hf _ (by omega)]) (fun _ _ _ => by rw [hf _ (by omega)])
theorem ck_123 {L d : Nat} {σ : ex_S} (hC : CI σ) (hd : 20 < d) : CK 123 225 [] σ L d := by
  (have p0 := hC.pr.p0; have p1 := hC.pr.p1; have k0 := hC.pr.k0; have k1 := hC.pr.k1; have kq := hC.pr.q; have q0 : 0 ≤ σ 4 10 := (by omega); have q1 : σ 4 10 ≤ 16 := (by omega); have hN := hC.ni; have hR := hC.rd.g; have hD := hC.rd; have hT := hC.st)
  have i11 := hD.i11
  obtain ⟨σ', e, hf, h8, hv⟩ := fp_59 (d := d - 1) (L := L) (tk := σ 447) (tc := σ 446) (bc := σ 445) (by omega) hR hN hC.tk
  have e3 : σ' 433 = σ 433 := hf _ (by omega)
  have e5 : σ' 445 = σ 445 := hf _ (by omega)
  have e6 : σ' 446 = σ 446 := hf _ (by omega)
  have e7 : σ' 447 = σ 447 := hf _ (by omega)
  have hC' := ci_60 hC hf
  obtain ⟨τ, r, rs⟩ := rp_225 (L := L) (d := d) (σ := σ') (by omega) (by rw [e3]; exact hN) hC'.tk
  rw [e3, e5, e6, e7] at r
  refine CK.of (σ1 := σ') ?_ r rfl (ci_RS hC' rs) ((rs.lo 0 (by decide)).trans (hf _ (by omega)))
  rw [ex_cd_eq (by omega)]
  show ex_ev (d - 1) 123 0 [vR 4] [] _ = _
  simp (disch := first | assumption | omega | ((repeat' first | exact ok_nil | apply ok_I | apply ok_R); done) | (simp (disch := first | omega | decide) only [ex_ar_same, ex_ar_diff, kM_diff, ex_u_same, ex_u_diff]; first | assumption | omega)) only [(xr_59 e), ev_123_0, gf_4_0, gf_4_8, gf_5_0, gf_5_11, i11, x_ret1, xl_a0, i_wr_id, kM_diff, Int.reduceToNat, ex_ar_same, ex_ar_ar, ex_ar_diff, ex_u_same, ex_u_diff, b2i_t, b2i_f, ex_div_nn, ex_rem_nn, Int.toNat_zero, Int.toNat_one, Int.reduceAdd, Int.reduceSub, Int.reduceMul, Int.reduceNeg, kC_ne, fC_ne]
theorem ck_124 {L d : Nat} {σ : ex_S} {i : Int} (hC : CI σ) (hd : 20 < d) : CK 124 226 [vI i] σ L d := by
  (have p0 := hC.pr.p0; have p1 := hC.pr.p1; have k0 := hC.pr.k0; have k1 := hC.pr.k1; have kq := hC.pr.q; have q0 : 0 ≤ σ 4 10 := (by omega); have q1 : σ 4 10 ≤ 16 := (by omega); have hN := hC.ni; have hR := hC.rd.g; have hD := hC.rd; have hT := hC.st)
  have i11 := hD.i11
  obtain ⟨σ', e, hf, h8, hv⟩ := fp_59 (d := d - 1) (L := L) (tk := σ 447) (tc := σ 446) (bc := σ 445) (by omega) hR hN hC.tk
  obtain ⟨v1, v2, v3⟩ := id hv
  have hC' := ci_60 hC hf
  have e3 : σ' 433 = σ 433 := hf _ (by omega)
  have e5 : σ' 445 = σ 445 := hf _ (by omega)
  have e6 : σ' 446 = σ 446 := hf _ (by omega)
  have e7 : σ' 447 = σ 447 := hf _ (by omega)
  by_cases g : i < 0
  · have f3 : fC σ 433 = σ 433 := fC_ne _ (by decide)
    have f5 : fC σ 445 = σ 445 := fC_ne _ (by decide)
    have f6 : fC σ 446 = σ 446 := fC_ne _ (by decide)
    have f7 : fC σ 447 = σ 447 := fC_ne _ (by decide)
    obtain ⟨τ, r, rs⟩ := rp_226 (L := L) (d := d) (σ := fC σ) (i := i) (by omega) (by rw [f3]; exact hN) (by rw [f7]; exact hC.tk) (by rw [f3, f5, f6, f7]; omega)
    have hm2 : rescuedM (fC σ) i = (-100001, fndM (fC σ)) := by unfold rescuedM; rw [if_pos g]
    rw [hm2] at r rs
    refine CK.of (σ1 := fC σ) (r := -100001) ?_ r rfl (ci_RS (ci_fnd hC) rs) ((rs.lo 0 (by decide)).trans ?_)
    · (rw [ex_cd_eq (by omega)]; show ex_ev (d - 1) 124 0 [vR 4, vI i] [] _ = _; (repeat' first | simp (disch := first | assumption | omega | ((repeat' first | exact ok_nil | apply ok_I | apply ok_R); done) | (simp (disch := first | omega | decide) only [ex_ar_same, ex_ar_diff, kM_diff, ex_u_same, ex_u_diff]; first | assumption | omega)) only [ev_124_0, ev_124_1, ev_124_2, ev_124_3, gf_4_0, gf_4_8, gf_5_0, gf_5_11, gf_60_0, gf_60_1, ld_61, x_fall, x_goto, x_popI, x_push, x_ret1, xc_132, xl_a0, xl_i1, y_cmp_ge_f, y_cmp_ge_t, y_if_ge_f, y_if_ge_t, i_wr_id, kM_diff, Int.reduceToNat, ex_ar_same, ex_ar_ar, ex_ar_diff, ex_u_same, ex_u_diff, b2i_t, b2i_f, ex_div_nn, ex_rem_nn, Int.toNat_zero, Int.toNat_one, Int.reduceAdd, Int.reduceSub, Int.reduceMul, Int.reduceNeg, kC_ne, fC_ne] | refine bb_eq (fun _ => ?_) (fun _ => ?_) | refine bb_ne (fun _ => ?_) (fun _ => ?_) | refine bc_eq (fun _ => ?_) (fun _ => ?_) | refine bc_ne (fun _ => ?_) (fun _ => ?_) | refine bc_lt (fun _ => ?_) (fun _ => ?_) | refine bc_ge (fun _ => ?_) (fun _ => ?_) | refine bc_gt (fun _ => ?_) (fun _ => ?_) | refine bc_le (fun _ => ?_) (fun _ => ?_) | refine bi_eq (fun _ => ?_) (fun _ => ?_) | refine bi_ne (fun _ => ?_) (fun _ => ?_) | refine bi_lt (fun _ => ?_) (fun _ => ?_) | refine bi_ge (fun _ => ?_) (fun _ => ?_) | refine bi_gt (fun _ => ?_) (fun _ => ?_) | refine bi_le (fun _ => ?_) (fun _ => ?_)))
    · show fndM (fC σ) 0 = σ 0
      unfold fndM
      rw [ex_ar_diff _ _ _ (by decide), fC_ne _ (by decide)]
  · by_cases g2 : i < σ' 60 1
    · obtain ⟨τ, r, rs⟩ := rp_226 (L := L) (d := d) (σ := σ') (i := i) (by omega) (by rw [e3]; exact hN) hC'.tk (by rw [e3, e5, e6, e7]; omega)
      have hm2 : rescuedM σ' i = (σ' 61 i, σ') := by unfold rescuedM; rw [e3, e5, e6, e7, if_neg g, ← v2, if_pos g2, v3 i (by omega) (by omega)]
      rw [hm2] at r rs
      refine CK.of (σ1 := σ') (r := σ' 61 i) ?_ r rfl (ci_RS hC' rs) ((rs.lo 0 (by decide)).trans (hf _ (by omega)))
      rw [ex_cd_eq (by omega)]
      show ex_ev (d - 1) 124 0 [vR 4, vI i] [] _ = _
      simp (disch := first | assumption | omega | ((repeat' first | exact ok_nil | apply ok_I | apply ok_R); done) | (simp (disch := first | omega | decide) only [ex_ar_same, ex_ar_diff, kM_diff, ex_u_same, ex_u_diff]; first | assumption | omega)) only [(xr_59 e), ev_124_0, ev_124_1, ev_124_2, ev_124_3, gf_4_0, gf_4_8, gf_5_0, gf_5_11, gf_60_0, gf_60_1, i11, ld_61, x_fall, x_goto, x_popI, x_push, x_ret1, xc_132, xl_a0, xl_i1, y_cmp_ge_f, y_cmp_ge_t, y_if_ge_f, y_if_ge_t, i_wr_id, kM_diff, Int.reduceToNat, ex_ar_same, ex_ar_ar, ex_ar_diff, ex_u_same, ex_u_diff, b2i_t, b2i_f, ex_div_nn, ex_rem_nn, Int.toNat_zero, Int.toNat_one, Int.reduceAdd, Int.reduceSub, Int.reduceMul, Int.reduceNeg, kC_ne, fC_ne]
    · have f3 : fC σ' 433 = σ 433 := (fC_ne _ (by decide)).trans e3
      have f5 : fC σ' 445 = σ 445 := (fC_ne _ (by decide)).trans e5
      have f6 : fC σ' 446 = σ 446 := (fC_ne _ (by decide)).trans e6
      have f7 : fC σ' 447 = σ 447 := (fC_ne _ (by decide)).trans e7
      obtain ⟨τ, r, rs⟩ := rp_226 (L := L) (d := d) (σ := fC σ') (i := i) (by omega) (by rw [f3]; exact hN) (by rw [f7]; exact hC.tk) (by rw [f3, f5, f6, f7]; omega)
      have hm2 : rescuedM (fC σ') i = (-100006, fndM (fC σ')) := by unfold rescuedM; rw [f3, f5, f6, f7, if_neg g, ← v2, if_neg g2]
      rw [hm2] at r rs
      refine CK.of (σ1 := fC σ') (r := -100006) ?_ r rfl (ci_RS (ci_fnd hC') rs) ((rs.lo 0 (by decide)).trans ?_)
      · rw [ex_cd_eq (by omega)]
        show ex_ev (d - 1) 124 0 [vR 4, vI i] [] _ = _
        simp (disch := first | assumption | omega | ((repeat' first | exact ok_nil | apply ok_I | apply ok_R); done) | (simp (disch := first | omega | decide) only [ex_ar_same, ex_ar_diff, kM_diff, ex_u_same, ex_u_diff]; first | assumption | omega)) only [(xr_59 e), ev_124_0, ev_124_1, ev_124_2, ev_124_3, gf_4_0, gf_4_8, gf_5_0, gf_5_11, gf_60_0, gf_60_1, i11, ld_61, x_fall, x_goto, x_popI, x_push, x_ret1, xc_132, xl_a0, xl_i1, y_cmp_ge_f, y_cmp_ge_t, y_if_ge_f, y_if_ge_t, i_wr_id, kM_diff, Int.reduceToNat, ex_ar_same, ex_ar_ar, ex_ar_diff, ex_u_same, ex_u_diff, b2i_t, b2i_f, ex_div_nn, ex_rem_nn, Int.toNat_zero, Int.toNat_one, Int.reduceAdd, Int.reduceSub, Int.reduceMul, Int.reduceNeg, kC_ne, fC_ne]
      · show fndM (fC σ') 0 = σ 0
        unfold fndM
        rw [ex_ar_diff _ _ _ (by decide), fC_ne _ (by decide)]; exact hf _ (by omega)
