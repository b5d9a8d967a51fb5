/-! the class: the fewest shunts, a step of them, a sheet that proves -/
theorem xr_10 {rt d L : Nat} {J : Nat → List ex_V → List ex_V → ex_H → Option ex_R} {is : List Instr} {ls st : List ex_V} {σ : ex_S} (hd : 0 < d) (hok : okN 8 st = true) : ex_xs rt J (ex_cd d) (.invokevirtual 10 :: is) ls (vR 6 :: vR 35 :: st) (SH L, σ) = ex_xs rt J (ex_cd d) is ls st (SH L, gcp σ 34 5) := bx_10 (A := 5) (B := 34) (DC_5 L).gc (GC_34 L) hd hok
def bgS (σ : ex_S) (K : Int) : ex_S := ex_ar (gcp σ 34 5) 33 (ex_u (σ 33) 2 K)
theorem sp_79 {d : Nat} (hd : 1 < d) {L : Nat} {σ : ex_S} {K : Int} : ex_cd d 79 [vR 33, vR 6, vI K] (SH L, σ) = some ([], (SH L, bgS σ K)) := by
  rw [ex_cd_eq (by omega)]
  show ex_ev (d - 1) 79 0 [vR 33, vR 6, vI K] [] (SH L, σ) = _
  have e33 : gcp σ 34 5 33 = σ 33 := gcp_ne (by omega)
  unfold bgS
  simp (disch := first | assumption | omega | ((repeat' first | exact ok_nil | apply ok_I | apply ok_R); done) | (simp (disch := first | omega | decide) only [ex_ar_same, ex_ar_diff, kM_diff, ex_u_same, ex_u_diff]; first | assumption | omega)) only [e33, ev_79_0, gf_33_1, pf_33_2, x_ret0, xl_a0, xl_a1, xl_i2, xr_10, i_wr_id, kM_diff, Int.reduceToNat, ex_ar_same, ex_ar_ar, ex_ar_diff, ex_u_same, ex_u_diff, b2i_t, b2i_f, ex_div_nn, ex_rem_nn, Int.toNat_zero, Int.toNat_one, Int.reduceAdd, Int.reduceSub, Int.reduceMul, Int.reduceNeg, kC_ne, fC_ne]
theorem xc_79 {rt d : Nat} {J : Nat → List ex_V → List ex_V → ex_H → Option ex_R} {is : List Instr} {ls st : List ex_V} {L : Nat} {σ : ex_S} {K : Int} (hd : 1 < d) (hok : okN 8 st = true) : ex_xs rt J (ex_cd d) (.invokevirtual 79 :: is) ls (vI K :: vR 6 :: vR 33 :: st) (SH L, σ) = ex_xs rt J (ex_cd d) is ls (st) (SH L, bgS σ K) := x_call1 (Or.inl rfl) rfl (sh_33 _) (Or.inl ⟨rfl, rfl⟩) (as := [vR 6, vI K]) rfl rfl (okN_ok hok) rfl (sp_79 hd )
theorem bg_ok {σ : ex_S} {n : Int → Int} (hD : RD5 σ n) (hN : NI n) : RG35 (bgS σ (kwR n (n 2) (n 1).toNat)) n ∧ KB (bgS σ (kwR n (n 2) (n 1).toNat) 33 2) n ∧ ∀ a, a < 33 ∨ a = 34 ∨ 46 < a → bgS σ (kwR n (n 2) (n 1).toNat) a = σ a := by
  refine ⟨RG_fr (G := 35) (RG_tried hD.g hN) hN (fun a a1 a2 => ex_ar_diff _ _ _ (by omega)), ?_, fun a ha => ?_⟩
  · unfold bgS
    rw [ex_ar_same, ex_u_same]
    intro c c0 c1
    exact kw_and hN c0 c1
  · unfold bgS
    rw [ex_ar_diff _ _ _ (by omega), gcp_ne (by omega)]
theorem xr_135 {rt d L : Nat} {J : Nat → List ex_V → List ex_V → ex_H → Option ex_R} {is : List Instr} {ls st : List ex_V} {σ : ex_S} {H2 : ex_H} { z : Int} (he : ex_cd d 135 [vR 4] (SH L, σ) = some ([vI z], H2)) (hok : okN 8 st = true) : ex_xs rt J (ex_cd d) (.invokevirtual 135 :: is) ls (vR 4 :: st) (SH L, σ) = ex_xs rt J (ex_cd d) is ls (vI z :: st) H2 := x_call1 (Or.inl rfl) rfl (sh_4 _) (Or.inl ⟨rfl, rfl⟩) (as := []) rfl rfl (okN_ok hok) rfl he
theorem xr_81 {rt d L : Nat} {J : Nat → List ex_V → List ex_V → ex_H → Option ex_R} {is : List Instr} {ls st : List ex_V} {σ : ex_S} {H2 : ex_H} {a b r : Int} (he : ex_cd d 81 [vR 33, vR 6, vI a, vI b] (SH L, σ) = some ([vI r], H2)) (hok : okN 8 st = true) : ex_xs rt J (ex_cd d) (.invokevirtual 81 :: is) ls (vI b :: vI a :: vR 6 :: vR 33 :: st) (SH L, σ) = ex_xs rt J (ex_cd d) is ls (vI r :: st) H2 := x_call1 (Or.inl rfl) rfl (sh_33 _) (Or.inl ⟨rfl, rfl⟩) (as := [vR 6, vI a, vI b]) rfl rfl (okN_ok hok) rfl he
def fwR (n : Int → Int) (c : Int) : Nat → Int
  | 0 => -1
  | j + 1 => if (frN (3 - j) n c).isSome = true then ((3 - j : Nat) : Int) else fwR n c j
theorem few_fw (n : Int → Int) (c : Int) : fewN n c = fwR n c 4 := rfl
theorem fp_81 {d L : Nat} {σ : ex_S} {n : Int → Int} {c : Int} (hd : 13 < d) (hD : RD5 σ n) (hN : NI n) (c0 : 0 ≤ c) (c1 : c < n 1) (hs : 0 ≤ standN n c) : ∃ σ', ex_cd d 81 [vR 33, vR 6, vI c, vI (kwR n (n 2) (n 1).toNat)] (SH L, σ) = some ([vI (fewN n c)], (SH L, σ')) ∧ (∀ a, a < 33 ∨ 46 < a → σ' a = σ a) ∧ (∀ i : Int, 0 ≤ i → i < fewN n c → σ' 34 i = stepN n c i.toNat) := by
  obtain ⟨g1, g2, g3⟩ := bg_ok hD hN
  have lp : ∀ j : Nat, j ≤ 4 → ∀ (i : Nat) (τ : ex_S), i + j = 4 → RG35 τ n → τ 33 = bgS σ (kwR n (n 2) (n 1).toNat) 33 → (∀ a, a < 33 ∨ 46 < a → τ a = σ a) → ∃ υ, ex_ev (d - 1) 81 1 [vR 33, vR 6, vI c, vI (kwR n (n 2) (n 1).toNat), vI (i : Int)] [] (SH L, τ) = some ([vI (fwR n c j)], (SH L, υ)) ∧ (∀ a, a < 33 ∨ 46 < a → υ a = σ a) ∧ (fwR n c j = -1 ∨ ∃ (x : Nat) (p : List Int), fwR n c j = (x : Int) ∧ frN x n c = some p ∧ ∀ y : Nat, y < x → υ 34 (y : Int) = p.getD y 0) := by
    intro j
    induction j with
    | zero =>
      intro _ i τ hi hR e33 hf
      refine ⟨τ, ?_, hf, Or.inl rfl⟩
      rw [ev_81_1]
      simp (disch := first | assumption | omega | ((repeat' first | exact ok_nil | apply ok_I | apply ok_R); done) | (simp (disch := first | omega | decide) only [ex_ar_same, ex_ar_diff, kM_diff, ex_u_same, ex_u_diff]; first | assumption | omega)) only [ev_81_0, ev_81_2, ev_81_3, x_fall, x_goto, x_push, x_ret1, xc_79, xl_a0, xl_a1, xl_i2, xl_i3, xl_i4, xn_4, xt_i4, y_cmp_gt_f, y_cmp_gt_t, y_if_eq_f, y_if_eq_t, i_wr_id, kM_diff, Int.reduceToNat, ex_ar_same, ex_ar_ar, ex_ar_diff, ex_u_same, ex_u_diff, b2i_t, b2i_f, ex_div_nn, ex_rem_nn, Int.toNat_zero, Int.toNat_one, Int.reduceAdd, Int.reduceSub, Int.reduceMul, Int.reduceNeg, kC_ne, fC_ne]
      rfl
    | succ j ihj =>
      intro hj i τ hi hR e33 hf
      obtain ⟨τ2, r1, ⟨⟨p1, p2, p3⟩, p4⟩⟩ := sr_82 i (d - 1) L τ n c 0 (by omega) (by omega) hR hN (by rw [e33]; exact g2) c0 c1 hs
      have r1' : ex_cd (d - 1) 82 [vR 33, vI c, vI 0, vI (i : Int)] (SH L, τ) = some ([vI (b2i ((frN i n c).isSome = true))], (SH L, τ2)) := by rw [Nat.zero_add] at r1; exact r1
      rw [fwR, show 3 - j = i by omega]
      by_cases z : (frN i n c).isSome = true
      · rw [b2i_t z] at r1'
        rw [if_pos z]
        obtain ⟨p, hp⟩ := Option.isSome_iff_exists.mp z
        refine ⟨τ2, ?_, fun a ha => by rw [p1 a (by omega), hf a ha], Or.inr ⟨i, p, rfl, hp, fun y hy => ?_⟩⟩
        · rw [ev_81_1]
          simp (disch := first | assumption | omega | ((repeat' first | exact ok_nil | apply ok_I | apply ok_R); done) | (simp (disch := first | omega | decide) only [ex_ar_same, ex_ar_diff, kM_diff, ex_u_same, ex_u_diff]; first | assumption | omega)) only [(xr_82 r1'), ev_81_0, ev_81_2, ev_81_3, x_fall, x_goto, x_push, x_ret1, xc_79, xl_a0, xl_a1, xl_i2, xl_i3, xl_i4, xn_4, xt_i4, y_cmp_gt_f, y_cmp_gt_t, y_if_eq_f, y_if_eq_t, i_wr_id, kM_diff, Int.reduceToNat, ex_ar_same, ex_ar_ar, ex_ar_diff, ex_u_same, ex_u_diff, b2i_t, b2i_f, ex_div_nn, ex_rem_nn, Int.toNat_zero, Int.toNat_one, Int.reduceAdd, Int.reduceSub, Int.reduceMul, Int.reduceNeg, kC_ne, fC_ne]
        · have := p4 p hp y hy
          rw [show ((0 : Nat) : Int) + (y : Int) = (y : Int) by omega] at this
          exact this
      · rw [b2i_f z] at r1'
        rw [if_neg z]
        obtain ⟨υ, e, f1, f2⟩ := ihj (by omega) (i + 1) τ2 (by omega) p2 (by rw [p1 33 (by omega), e33]) (fun a ha => by rw [p1 a (by omega), hf a ha])
        refine ⟨υ, ?_, f1, f2⟩
        rw [← e, ev_81_1]
        simp (disch := first | assumption | omega | ((repeat' first | exact ok_nil | apply ok_I | apply ok_R); done) | (simp (disch := first | omega | decide) only [ex_ar_same, ex_ar_diff, kM_diff, ex_u_same, ex_u_diff]; first | assumption | omega)) only [(xr_82 r1'), ev_81_0, ev_81_2, ev_81_3, x_fall, x_goto, x_push, x_ret1, xc_79, xl_a0, xl_a1, xl_i2, xl_i3, xl_i4, xn_4, xt_i4, y_cmp_gt_f, y_cmp_gt_t, y_if_eq_f, y_if_eq_t, i_wr_id, kM_diff, Int.reduceToNat, ex_ar_same, ex_ar_ar, ex_ar_diff, ex_u_same, ex_u_diff, b2i_t, b2i_f, ex_div_nn, ex_rem_nn, Int.toNat_zero, Int.toNat_one, Int.reduceAdd, Int.reduceSub, Int.reduceMul, Int.reduceNeg, kC_ne, fC_ne]
        rw [nat_cast_succ]
  obtain ⟨υ, e, f1, f2⟩ := lp 4 (by omega) 0 (bgS σ (kwR n (n 2) (n 1).toNat)) (by omega) g1 rfl (fun a ha => g3 a (by omega))
  rw [← few_fw] at e f2
  refine ⟨υ, ?_, f1, fun i i0 i1 => ?_⟩
  · rw [ex_cd_eq (by omega)]
    show ex_ev (d - 1) 81 0 [vR 33, vR 6, vI c, vI (kwR n (n 2) (n 1).toNat), vL 0] [] _ = _
    have e' : ex_ev (d - 1) 81 1 [vR 33, vR 6, vI c, vI (kwR n (n 2) (n 1).toNat), vI 0] [] (SH L, bgS σ (kwR n (n 2) (n 1).toNat)) = _ := e
    rw [← e']
    simp (disch := first | assumption | omega | ((repeat' first | exact ok_nil | apply ok_I | apply ok_R); done) | (simp (disch := first | omega | decide) only [ex_ar_same, ex_ar_diff, kM_diff, ex_u_same, ex_u_diff]; first | assumption | omega)) only [ev_81_0, ev_81_2, ev_81_3, x_fall, x_goto, x_push, x_ret1, xc_79, xl_a0, xl_a1, xl_i2, xl_i3, xl_i4, xn_4, xt_i4, y_cmp_gt_f, y_cmp_gt_t, y_if_eq_f, y_if_eq_t, i_wr_id, kM_diff, Int.reduceToNat, ex_ar_same, ex_ar_ar, ex_ar_diff, ex_u_same, ex_u_diff, b2i_t, b2i_f, ex_div_nn, ex_rem_nn, Int.toNat_zero, Int.toNat_one, Int.reduceAdd, Int.reduceSub, Int.reduceMul, Int.reduceNeg, kC_ne, fC_ne]
  · rcases f2 with f2 | ⟨x, p, h1, h2, h3⟩
    · omega
    · unfold stepN
      rw [h1, Int.toNat_natCast, h2]
      have := h3 i.toNat (by omega)
      rw [show ((i.toNat : Nat) : Int) = i by omega] at this
      exact this
theorem ci_33 {σ σ' : ex_S} (hC : CI σ) (hf : ∀ a, a < 33 ∨ 46 < a → σ' a = σ a) : CI σ' :=
  ci_scr hC (fun a ha => hf a (by omega)) (by rw [hf _ (by omega)]) (by rw [hf _ (by omega)]) (fun _ _ _ => by rw [hf _ (by omega)])
theorem fnd_0 {σ : ex_S} : fndM (fC σ) 0 = σ 0 := by unfold fndM; rw [ex_ar_diff _ _ _ (by decide), fC_ne _ (by decide)]
theorem tst1 {L d : Nat} {σ : ex_S} {c : Int} (hC : CI σ) (hd : 20 < d) (iz : (if 0 ≤ c ∧ c < σ 433 1 then (if standN (σ 433) c < 0 then -100006 else 0) else -100001 : Int) = -100006) : ex_cd d 100 [vR 4, vI c] (SH L, σ) = some ([vI (-100006)], (SH L, fC σ)) := by
  (have p0 := hC.pr.p0; have p1 := hC.pr.p1; have k0 := hC.pr.k0; have k1 := hC.pr.k1; have kq := hC.pr.q; have q0 : 0 ≤ σ 4 10 := (by omega); have q1 : σ 4 10 ≤ 16 := (by omega); have hN := hC.ni; have hR := hC.rd.g; have hD := hC.rd; have hT := hC.st)
  (rw [ex_cd_eq (by omega)]; show ex_ev (d - 1) 100 0 [vR 4, vI c, vL 0, vL 0] [] _ = _; (repeat' first | simp (disch := first | assumption | omega | ((repeat' first | exact ok_nil | apply ok_I | apply ok_R); done) | (simp (disch := first | omega | decide) only [ex_ar_same, ex_ar_diff, kM_diff, ex_u_same, ex_u_diff]; first | assumption | omega)) only [ev_100_0, ev_100_1, ev_100_2, ev_100_3, gf_4_0, gf_4_3, gf_5_0, iz, x_fall, x_goto, x_push, x_ret1, xc_132, xc_134, xc_135, xl_a0, xl_i1, xl_i2, xl_i3, xt_i2, xt_i3, y_cmp_ne_f, y_cmp_ne_t, y_if_eq_f, y_if_eq_t, i_wr_id, kM_diff, Int.reduceToNat, ex_ar_same, ex_ar_ar, ex_ar_diff, ex_u_same, ex_u_diff, b2i_t, b2i_f, ex_div_nn, ex_rem_nn, Int.toNat_zero, Int.toNat_one, Int.reduceAdd, Int.reduceSub, Int.reduceMul, Int.reduceNeg, kC_ne, fC_ne] | refine bb_eq (fun _ => ?_) (fun _ => ?_) | refine bb_ne (fun _ => ?_) (fun _ => ?_) | refine bc_eq (fun _ => ?_) (fun _ => ?_) | refine bc_ne (fun _ => ?_) (fun _ => ?_) | refine bc_lt (fun _ => ?_) (fun _ => ?_) | refine bc_ge (fun _ => ?_) (fun _ => ?_) | refine bc_gt (fun _ => ?_) (fun _ => ?_) | refine bc_le (fun _ => ?_) (fun _ => ?_) | refine bi_eq (fun _ => ?_) (fun _ => ?_) | refine bi_ne (fun _ => ?_) (fun _ => ?_) | refine bi_lt (fun _ => ?_) (fun _ => ?_) | refine bi_ge (fun _ => ?_) (fun _ => ?_) | refine bi_gt (fun _ => ?_) (fun _ => ?_) | refine bi_le (fun _ => ?_) (fun _ => ?_)))
theorem tst2 {L d : Nat} {σ σ' : ex_S} {c K : Int} (hC : CI σ) (hd : 20 < d) (iz : (if 0 ≤ c ∧ c < σ 433 1 then (if standN (σ 433) c < 0 then -100006 else 0) else -100001 : Int) = 0) (kn : ex_cd (d - 1) 135 [vR 4] (SH L, σ) = some ([vI K], (SH L, σ))) (e : ex_cd (d - 1) 81 [vR 33, vR 6, vI c, vI K] (SH L, σ) = some ([vI (-1)], (SH L, σ'))) : ex_cd d 100 [vR 4, vI c] (SH L, σ) = some ([vI (-100006)], (SH L, fC σ')) := by
  (have p0 := hC.pr.p0; have p1 := hC.pr.p1; have k0 := hC.pr.k0; have k1 := hC.pr.k1; have kq := hC.pr.q; have q0 : 0 ≤ σ 4 10 := (by omega); have q1 : σ 4 10 ≤ 16 := (by omega); have hN := hC.ni; have hR := hC.rd.g; have hD := hC.rd; have hT := hC.st)
  rw [ex_cd_eq (by omega)]
  show ex_ev (d - 1) 100 0 [vR 4, vI c, vL 0, vL 0] [] _ = _
  simp (disch := first | assumption | omega | ((repeat' first | exact ok_nil | apply ok_I | apply ok_R); done) | (simp (disch := first | omega | decide) only [ex_ar_same, ex_ar_diff, kM_diff, ex_u_same, ex_u_diff]; first | assumption | omega)) only [(xr_135 kn), (xr_81 e), ev_100_0, ev_100_1, ev_100_2, ev_100_3, gf_4_0, gf_4_3, gf_5_0, iz, x_fall, x_goto, x_push, x_ret1, xc_132, xc_134, xl_a0, xl_i1, xl_i2, xl_i3, xt_i2, xt_i3, y_cmp_ne_f, y_cmp_ne_t, y_if_eq_f, y_if_eq_t, i_wr_id, kM_diff, Int.reduceToNat, ex_ar_same, ex_ar_ar, ex_ar_diff, ex_u_same, ex_u_diff, b2i_t, b2i_f, ex_div_nn, ex_rem_nn, Int.toNat_zero, Int.toNat_one, Int.reduceAdd, Int.reduceSub, Int.reduceMul, Int.reduceNeg, kC_ne, fC_ne]
theorem tst3 {L d : Nat} {σ σ' : ex_S} {c K x : Int} (hC : CI σ) (hd : 20 < d) (z : 0 ≤ x) (iz : (if 0 ≤ c ∧ c < σ 433 1 then (if standN (σ 433) c < 0 then -100006 else 0) else -100001 : Int) = 0) (kn : ex_cd (d - 1) 135 [vR 4] (SH L, σ) = some ([vI K], (SH L, σ))) (e : ex_cd (d - 1) 81 [vR 33, vR 6, vI c, vI K] (SH L, σ) = some ([vI x], (SH L, σ'))) : ex_cd d 100 [vR 4, vI c] (SH L, σ) = some ([vI x], (SH L, σ')) := by
  (have p0 := hC.pr.p0; have p1 := hC.pr.p1; have k0 := hC.pr.k0; have k1 := hC.pr.k1; have kq := hC.pr.q; have q0 : 0 ≤ σ 4 10 := (by omega); have q1 : σ 4 10 ≤ 16 := (by omega); have hN := hC.ni; have hR := hC.rd.g; have hD := hC.rd; have hT := hC.st)
  rw [ex_cd_eq (by omega)]
  show ex_ev (d - 1) 100 0 [vR 4, vI c, vL 0, vL 0] [] _ = _
  simp (disch := first | assumption | omega | ((repeat' first | exact ok_nil | apply ok_I | apply ok_R); done) | (simp (disch := first | omega | decide) only [ex_ar_same, ex_ar_diff, kM_diff, ex_u_same, ex_u_diff]; first | assumption | omega)) only [(xr_135 kn), (xr_81 e), ev_100_0, ev_100_1, ev_100_2, ev_100_3, gf_4_0, gf_4_3, gf_5_0, iz, x_fall, x_goto, x_push, x_ret1, xc_132, xc_134, xl_a0, xl_i1, xl_i2, xl_i3, xt_i2, xt_i3, y_cmp_ne_f, y_cmp_ne_t, y_if_eq_f, y_if_eq_t, i_wr_id, kM_diff, Int.reduceToNat, ex_ar_same, ex_ar_ar, ex_ar_diff, ex_u_same, ex_u_diff, b2i_t, b2i_f, ex_div_nn, ex_rem_nn, Int.toNat_zero, Int.toNat_one, Int.reduceAdd, Int.reduceSub, Int.reduceMul, Int.reduceNeg, kC_ne, fC_ne]
theorem tst4 {L d : Nat} {σ : ex_S} {c : Int} (hC : CI σ) (hd : 20 < d) (iz : (if 0 ≤ c ∧ c < σ 433 1 then (if standN (σ 433) c < 0 then -100006 else 0) else -100001 : Int) = -100001) : ex_cd d 100 [vR 4, vI c] (SH L, σ) = some ([vI (-100001)], (SH L, fC σ)) := by
  (have p0 := hC.pr.p0; have p1 := hC.pr.p1; have k0 := hC.pr.k0; have k1 := hC.pr.k1; have kq := hC.pr.q; have q0 : 0 ≤ σ 4 10 := (by omega); have q1 : σ 4 10 ≤ 16 := (by omega); have hN := hC.ni; have hR := hC.rd.g; have hD := hC.rd; have hT := hC.st)
  (rw [ex_cd_eq (by omega)]; show ex_ev (d - 1) 100 0 [vR 4, vI c, vL 0, vL 0] [] _ = _; (repeat' first | simp (disch := first | assumption | omega | ((repeat' first | exact ok_nil | apply ok_I | apply ok_R); done) | (simp (disch := first | omega | decide) only [ex_ar_same, ex_ar_diff, kM_diff, ex_u_same, ex_u_diff]; first | assumption | omega)) only [ev_100_0, ev_100_1, ev_100_2, ev_100_3, gf_4_0, gf_4_3, gf_5_0, iz, x_fall, x_goto, x_push, x_ret1, xc_132, xc_134, xc_135, xl_a0, xl_i1, xl_i2, xl_i3, xt_i2, xt_i3, y_cmp_ne_f, y_cmp_ne_t, y_if_eq_f, y_if_eq_t, i_wr_id, kM_diff, Int.reduceToNat, ex_ar_same, ex_ar_ar, ex_ar_diff, ex_u_same, ex_u_diff, b2i_t, b2i_f, ex_div_nn, ex_rem_nn, Int.toNat_zero, Int.toNat_one, Int.reduceAdd, Int.reduceSub, Int.reduceMul, Int.reduceNeg, kC_ne, fC_ne] | refine bb_eq (fun _ => ?_) (fun _ => ?_) | refine bb_ne (fun _ => ?_) (fun _ => ?_) | refine bc_eq (fun _ => ?_) (fun _ => ?_) | refine bc_ne (fun _ => ?_) (fun _ => ?_) | refine bc_lt (fun _ => ?_) (fun _ => ?_) | refine bc_ge (fun _ => ?_) (fun _ => ?_) | refine bc_gt (fun _ => ?_) (fun _ => ?_) | refine bc_le (fun _ => ?_) (fun _ => ?_) | refine bi_eq (fun _ => ?_) (fun _ => ?_) | refine bi_ne (fun _ => ?_) (fun _ => ?_) | refine bi_lt (fun _ => ?_) (fun _ => ?_) | refine bi_ge (fun _ => ?_) (fun _ => ?_) | refine bi_gt (fun _ => ?_) (fun _ => ?_) | refine bi_le (fun _ => ?_) (fun _ => ?_)))
