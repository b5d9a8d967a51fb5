/-! the class: the fewest shunts, a step of them, a sheet that proves -/
theorem xr_10 {rt d L : Nat} {J : Nat → List ex_V → List ex_V → ex_H → Option ex_R} {is : List Instr} {ls st : List ex_V} {σ : ex_S} (hd : 0 < d) (hok : okN 8 st = true) : ex_xs rt J (ex_cd d) (.invokevirtual 10 :: is) ls (vR 6 :: vR 35 :: st) (SH L, σ) = ex_xs rt J (ex_cd d) is ls st (SH L, gcp σ 34 5) := bx_10 (A := 5) (B := 34) (DC_5 L).gc (GC_34 L) hd hok
def bgS (σ : ex_S) (K : Int) : ex_S := ex_ar (gcp σ 34 5) 33 (ex_u (σ 33) 2 K)
theorem sp_79 {d : Nat} (hd : 1 < d) {L : Nat} {σ : ex_S} {K : Int} : ex_cd d 79 [vR 33, vR 6, vI K] (SH L, σ) = some ([], (SH L, bgS σ K)) := by
  rw [ex_cd_eq (by omega)]
  show ex_ev (d - 1) 79 0 [vR 33, vR 6, vI K] [] (SH L, σ) = _
  have e33 : gcp σ 34 5 33 = σ 33 := gcp_ne (by omega)
  unfold bgS
  simp (disch := first | assumption | omega | ((repeat' first | exact ok_nil | apply ok_I | apply ok_R); done) | (simp (disch := first | omega | decide) only [ex_ar_same, ex_ar_diff, kM_diff, ex_u_same, ex_u_diff]; first | assumption | omega)) only [e33, ev_79_0, gf_33_1, pf_33_2, x_ret0, xl_a0, xl_a1, xl_i2, xr_10, i_wr_id, kM_diff, Int.reduceToNat, ex_ar_same, ex_ar_ar, ex_ar_diff, ex_u_same, ex_u_diff, b2i_t, b2i_f, ex_div_nn, ex_rem_nn, Int.toNat_zero, Int.toNat_one, Int.reduceAdd, Int.reduceSub, Int.reduceMul, Int.reduceNeg, kC_ne, fC_ne]
theorem xc_79 {rt d : Nat} {J : Nat → List ex_V → List ex_V → ex_H → Option ex_R} {is : List Instr} {ls st : List ex_V} {L : Nat} {σ : ex_S} {K : Int} (hd : 1 < d) (hok : okN 8 st = true) : ex_xs rt J (ex_cd d) (.invokevirtual 79 :: is) ls (vI K :: vR 6 :: vR 33 :: st) (SH L, σ) = ex_xs rt J (ex_cd d) is ls (st) (SH L, bgS σ K) := x_call1 (Or.inl rfl) rfl (sh_33 _) (Or.inl ⟨rfl, rfl⟩) (as := [vR 6, vI K]) rfl rfl (okN_ok hok) rfl (sp_79 hd )
theorem bg_ok {σ : ex_S} {n : Int → Int} (hD : RD5 σ n) (hN : NI n) : RG35 (bgS σ (kwR n (n 2) (n 1).toNat)) n ∧ KB (bgS σ (kwR n (n 2) (n 1).toNat) 33 2) n ∧ ∀ a, a < 33 ∨ a = 34 ∨ 46 < a → bgS σ (kwR n (n 2) (n 1).toNat) a = σ a := by
  refine ⟨RG_fr (G := 35) (RG_tried hD.g hN) hN (fun a a1 a2 => ex_ar_diff _ _ _ (by omega)), ?_, fun a ha => ?_⟩
  · unfold bgS
    rw [ex_ar_same, ex_u_same]
    intro c c0 c1
    exact kw_and hN c0 c1
  · unfold bgS
    rw [ex_ar_diff _ _ _ (by omega), gcp_ne (by omega)]
theorem xr_135 {rt d L : Nat} {J : Nat → List ex_V → List ex_V → ex_H → Option ex_R} {is : List Instr} {ls st : List ex_V} {σ : ex_S} {H2 : ex_H} { z : Int} (he : ex_cd d 135 [vR 4] (SH L, σ) = some ([vI z], H2)) (hok : okN 8 st = true) : ex_xs rt J (ex_cd d) (.invokevirtual 135 :: is) ls (vR 4 :: st) (SH L, σ) = ex_xs rt J (ex_cd d) is ls (vI z :: st) H2 := x_call1 (Or.inl rfl) rfl (sh_4 _) (Or.inl ⟨rfl, rfl⟩) (as := []) rfl rfl (okN_ok hok) rfl he
theorem xr_81 {rt d L : Nat} {J : Nat → List ex_V → List ex_V → ex_H → Option ex_R} {is : List Instr} {ls st : List ex_V} {σ : ex_S} {H2 : ex_H} {a b r : Int} (he : ex_cd d 81 [vR 33, vR 6, vI a, vI b] (SH L, σ) = some ([vI r], H2)) (hok : okN 8 st = true) : ex_xs rt J (ex_cd d) (.invokevirtual 81 :: is) ls (vI b :: vI a :: vR 6 :: vR 33 :: st) (SH L, σ) = ex_xs rt J (ex_cd d) is ls (vI r :: st) H2 := x_call1 (Or.inl rfl) rfl (sh_33 _) (Or.inl ⟨rfl, rfl⟩) (as := [vR 6, vI a, vI b]) rfl rfl (okN_ok hok) rfl he
def fwR (n : Int → Int) (c : Int) : Nat → Int
  | 0 => -1
  | j + 1 => if (frN (3 - j) n c).isSome = true then ((3 - j : Nat) : Int) else fwR n c j
theorem few_fw (n : Int → Int) (c : Int) : fewN n c = fwR n c 4 := rfl
theorem fp_81 {d L : Nat} {σ : ex_S} {n : Int → Int} {c : Int} (hd : 13 < d) (hD : RD5 σ n) (hN : NI n) (c0 : 0 ≤ c) (c1 : c < n 1) (hs : 0 ≤ standN n c) : ∃ σ', ex_cd d 81 [vR 33, vR 6, vI c, vI (kwR n (n 2) (n 1).toNat)] (SH L, σ) = some ([vI (fewN n c)], (SH L, σ')) ∧ (∀ a, a < 33 ∨ 46 < a → σ' a = σ a) ∧ (∀ i : Int, 0 ≤ i → i < fewN n c → σ' 34 i = stepN n c i.toNat) := by
  obtain ⟨g1, g2, g3⟩ := bg_ok hD hN
  have lp : ∀ j : Nat, j ≤ 4 → ∀ (i : Nat) (τ : ex_S), i + j = 4 → RG35 τ n → τ 33 = bgS σ (kwR n (n 2) (n 1).toNat) 33 → (∀ a, a < 33 ∨ 46 < a → τ a = σ a) → ∃ υ, ex_ev (d - 1) 81 1 [vR 33, vR 6, vI c, vI (kwR n (n 2) (n 1).toNat), vI (i : Int)] [] (SH L, τ) = some ([vI (fwR n c j)], (SH L, υ)) ∧ (∀ a, a < 33 ∨ 46 < a → υ a = σ a) ∧ (fwR n c j = -1 ∨ ∃ (x : Nat) (p : List Int), fwR n c j = (x : Int) ∧ frN x n c = some p ∧ ∀ y : Nat, y < x → υ 34 (y : Int) = p.getD y 0) := by
    intro j
    induction j with
    | zero =>
      intro _ i τ hi hR e33 hf
      refine ⟨τ, ?_, hf, Or.inl rfl⟩
      rw [ev_81_1]
      simp (disch := first | assumption | omega | ((repeat' first | exact ok_nil | apply ok_I | apply ok_R); done) | (simp (disch := first | omega | decide) only [ex_ar_same, ex_ar_diff, kM_diff, ex_u_same, ex_u_diff]; first | assumption | omega)) only [ev_81_0, ev_81_2, ev_81_3, x_fall, x_goto, x_push, x_ret1, xc_79, xl_a0, xl_a1, xl_i2, xl_i3, xl_i4, xn_4, xt_i4, y_cmp_gt_f, y_cmp_gt_t, y_if_eq_f, y_if_eq_t, i_wr_id, kM_diff, Int.reduceToNat, ex_ar_same, ex_ar_ar, ex_ar_diff, ex_u_same, ex_u_diff, b2i_t, b2i_f, ex_div_nn, ex_rem_nn, Int.toNat_zero, Int.toNat_one, Int.reduceAdd, Int.reduceSub, Int.reduceMul, Int.reduceNeg, kC_ne, fC_ne]
      rfl
    | succ j ihj =>
      intro hj i τ hi hR e33 hf
      obtain ⟨τ2, r1, ⟨⟨p1, p2, p3⟩, p4⟩⟩ := sr_82 i (d - 1) L τ n c 0 (by omega) (by omega) hR hN (by rw [e33]; exact g2) c0 c1 hs
      have r1' : ex_cd (d - 1) 82 [vR 33, vI c, vI 0, vI (i : Int)] (SH L, τ) = some ([vI (b2i ((frN i n c).isSome = true))], (SH L, τ2)) := by rw [Nat.zero_add] at r1; exact r1
      rw [fwR, show 3 - j = i by omega]
      by_cases z : (frN i n c).isSome = true
      · rw [b2i_t z] at r1'
        rw [if_pos z]
        obtain ⟨p, hp⟩ := Option.isSome_iff_exists.mp z
        refine ⟨τ2, ?_, fun a ha => by rw [p1 a (by omega), hf a ha], Or.inr ⟨i, p, rfl, hp, fun y hy => ?_⟩⟩
        · rw [ev_81_1]
          simp (disch := first | assumption | omega | ((repeat' first | exact ok_nil | apply ok_I | apply ok_R); done) | (simp (disch := first | omega | decide) only [ex_ar_same, ex_ar_diff, kM_diff, ex_u_same, ex_u_diff]; first | assumption | omega)) only [(xr_82 r1'), ev_81_0, ev_81_2, ev_81_3, x_fall, x_goto, x_push, x_ret1, xc_79, xl_a0, xl_a1, xl_i2, xl_i3, xl_i4, xn_4, xt_i4, y_cmp_gt_f, y_cmp_gt_t, y_if_eq_f, y_if_eq_t, i_wr_id, kM_diff, Int.reduceToNat, ex_ar_same, ex_ar_ar, ex_ar_diff, ex_u_same, ex_u_diff, b2i_t, b2i_f, ex_div_nn, ex_rem_nn, Int.toNat_zero, Int.toNat_one, Int.reduceAdd, Int.reduceSub, Int.reduceMul, Int.reduceNeg, kC_ne, fC_ne]
        · have := p4 p hp y hy
          rw [show ((0 : Nat) : Int) + (y : Int) = (y : Int) by omega] at this
          exact this
      · rw [b2i_f z] at r1'
        rw [if_neg z]
        obtain ⟨υ, e, f1, f2⟩ := ihj (by omega) (i + 1) τ2 (by omega) p2 (by rw [p1 33 (by omega), e33]) (fun a ha => by rw [p1 a (by omega), hf a ha])
        refine ⟨υ, ?_, f1, f2⟩
        rw [← e, ev_81_1]
        simp (disch := first | assumption | omega | ((repeat' first | exact ok_nil | apply ok_I | apply ok_R); done) | (simp (disch := first | omega | decide) only [ex_ar_same, ex_ar_diff, kM_diff, ex_u_same, ex_u_diff]; first | assumption | omega)) only [(xr_82 r1'), ev_81_0, ev_81_2, ev_81_3, x_fall, x_goto, x_push, x_ret1, xc_79, xl_a0, xl_a1, xl_i2, xl_i3, xl_i4, xn_4, xt_i4, y_cmp_gt_f, y_cmp_gt_t, y_if_eq_f, y_if_eq_t, i_wr_id, kM_diff, Int.reduceToNat, ex_ar_same, ex_ar_ar, ex_ar_diff, ex_u_same, ex_u_diff, b2i_t, b2i_f, ex_div_nn, ex_rem_nn, Int.toNat_zero, Int.toNat_one, Int.reduceAdd, Int.reduceSub, Int.reduceMul, Int.reduceNeg, kC_ne, fC_ne]
        rw [nat_cast_succ]
  obtain ⟨υ, e, f1, f2⟩ := lp 4 (by omega) 0 (bgS σ (kwR n (n 2) (n 1).toNat)) (by omega) g1 rfl (fun a ha => g3 a (by omega))
  rw [← few_fw] at e f2
  refine ⟨υ, ?_, f1, fun i i0 i1 => ?_⟩
  · rw [ex_cd_eq (by omega)]
    show ex_ev (d - 1) 81 0 [vR 33, vR 6, vI c, vI (kwR n (n 2) (n 1).toNat), vL 0] [] _ = _
    have e' : ex_ev (d - 1) 81 1 [vR 33, vR 6, vI c, vI (kwR n (n 2) (n 1).toNat), vI 0] [] (SH L, bgS σ (kwR n (n 2) (n 1).toNat)) = _ := e
    rw [← e']
    simp (disch := first | assumption | omega | ((repeat' first | exact ok_nil | apply ok_I | apply ok_R); done) | (simp (disch := first | omega | decide) only [ex_ar_same, ex_ar_diff, kM_diff, ex_u_same, ex_u_diff]; first | assumption | omega)) only [ev_81_0, ev_81_2, ev_81_3, x_fall, x_goto, x_push, x_ret1, xc_79, xl_a0, xl_a1, xl_i2, xl_i3, xl_i4, xn_4, xt_i4, y_cmp_gt_f, y_cmp_gt_t, y_if_eq_f, y_if_eq_t, i_wr_id, kM_diff, Int.reduceToNat, ex_ar_same, ex_ar_ar, ex_ar_diff, ex_u_same, ex_u_diff, b2i_t, b2i_f, ex_div_nn, ex_rem_nn, Int.toNat_zero, Int.toNat_one, Int.reduceAdd, Int.reduceSub, Int.reduceMul, Int.reduceNeg, kC_ne, fC_ne]
  · rcases f2 with f2 | ⟨x, p, h1, h2, h3⟩
    · omega
    · unfold stepN
      rw [h1, Int.toNat_natCast, h2]
      have := h3 i.toNat (by omega)
      rw [show ((i.toNat : Nat) : Int) = i by omega] at this
      exact this
theorem ci_33 {σ σ' : ex_S} (hC : CI σ) (hf : ∀ a, a < 33 ∨ 46 < a → σ' a = σ a) : CI σ' :=
  ci_scr hC (fun a ha => hf a (by omega)) (by rw [hf _ (by omega)]) (by rw [hf _ (by omega)]) (fun _ _ _ => by rw [hf _ (by omega)])
theorem fnd_0 {σ : ex_S} : fndM (fC σ) 0 = σ 0 := by unfold fndM; rw [ex_ar_diff _ _ _ (by decide), fC_ne _ (by decide)]
theorem c100_a {L d : Nat} {σ : ex_S} {c x : Int} (hC : CI σ) (hd : 20 < d) (hx : x = -100006 ∨ x = -100001) (iz : (if 0 ≤ c ∧ c < σ 433 1 then (if standN (σ 433) c < 0 then -100006 else 0) else -100001 : Int) = x) : ex_cd d 100 [vR 4, vI c] (SH L, σ) = some ([vI x], (SH L, fC σ)) := by
  (have p0 := hC.pr.p0; have p1 := hC.pr.p1; have k0 := hC.pr.k0; have k1 := hC.pr.k1; have kq := hC.pr.q; have q0 : 0 ≤ σ 4 10 := (by omega); have q1 : σ 4 10 ≤ 16 := (by omega); have hN := hC.ni; have hR := hC.rd.g; have hD := hC.rd; have hT := hC.st)
  (rw [ex_cd_eq (by omega)]; show ex_ev (d - 1) 100 0 [vR 4, vI c, vL 0, vL 0] [] _ = _; (repeat' first | simp (disch := first | assumption | omega | ((repeat' first | exact ok_nil | apply ok_I | apply ok_R); done) | (simp (disch := first | omega | decide) only [ex_ar_same, ex_ar_diff, kM_diff, ex_u_same, ex_u_diff]; first | assumption | omega)) only [ev_100_0, ev_100_1, ev_100_2, ev_100_3, gf_4_0, gf_4_3, gf_5_0, iz, x_fall, x_goto, x_push, x_ret1, xc_132, xc_134, xc_135, xl_a0, xl_i1, xl_i2, xl_i3, xt_i2, xt_i3, y_cmp_ne_f, y_cmp_ne_t, y_if_eq_f, y_if_eq_t, i_wr_id, kM_diff, Int.reduceToNat, ex_ar_same, ex_ar_ar, ex_ar_diff, ex_u_same, ex_u_diff, b2i_t, b2i_f, ex_div_nn, ex_rem_nn, Int.toNat_zero, Int.toNat_one, Int.reduceAdd, Int.reduceSub, Int.reduceMul, Int.reduceNeg, kC_ne, fC_ne] | refine bb_eq (fun _ => ?_) (fun _ => ?_) | refine bb_ne (fun _ => ?_) (fun _ => ?_) | refine bc_eq (fun _ => ?_) (fun _ => ?_) | refine bc_ne (fun _ => ?_) (fun _ => ?_) | refine bc_lt (fun _ => ?_) (fun _ => ?_) | refine bc_ge (fun _ => ?_) (fun _ => ?_) | refine bc_gt (fun _ => ?_) (fun _ => ?_) | refine bc_le (fun _ => ?_) (fun _ => ?_) | refine bi_eq (fun _ => ?_) (fun _ => ?_) | refine bi_ne (fun _ => ?_) (fun _ => ?_) | refine bi_lt (fun _ => ?_) (fun _ => ?_) | refine bi_ge (fun _ => ?_) (fun _ => ?_) | refine bi_gt (fun _ => ?_) (fun _ => ?_) | refine bi_le (fun _ => ?_) (fun _ => ?_)))
theorem c100_b {L d : Nat} {σ σ' : ex_S} {c K : Int} (hC : CI σ) (hd : 20 < d) (iz : (if 0 ≤ c ∧ c < σ 433 1 then (if standN (σ 433) c < 0 then -100006 else 0) else -100001 : Int) = 0) (kn : ex_cd (d - 1) 135 [vR 4] (SH L, σ) = some ([vI K], (SH L, σ))) (e : ex_cd (d - 1) 81 [vR 33, vR 6, vI c, vI K] (SH L, σ) = some ([vI (-1)], (SH L, σ'))) : ex_cd d 100 [vR 4, vI c] (SH L, σ) = some ([vI (-100006)], (SH L, fC σ')) := by
  (have p0 := hC.pr.p0; have p1 := hC.pr.p1; have k0 := hC.pr.k0; have k1 := hC.pr.k1; have kq := hC.pr.q; have q0 : 0 ≤ σ 4 10 := (by omega); have q1 : σ 4 10 ≤ 16 := (by omega); have hN := hC.ni; have hR := hC.rd.g; have hD := hC.rd; have hT := hC.st)
  rw [ex_cd_eq (by omega)]
  show ex_ev (d - 1) 100 0 [vR 4, vI c, vL 0, vL 0] [] _ = _
  simp (disch := first | assumption | omega | ((repeat' first | exact ok_nil | apply ok_I | apply ok_R); done) | (simp (disch := first | omega | decide) only [ex_ar_same, ex_ar_diff, kM_diff, ex_u_same, ex_u_diff]; first | assumption | omega)) only [(xr_135 kn), (xr_81 e), ev_100_0, ev_100_1, ev_100_2, ev_100_3, gf_4_0, gf_4_3, gf_5_0, iz, x_fall, x_goto, x_push, x_ret1, xc_132, xc_134, xl_a0, xl_i1, xl_i2, xl_i3, xt_i2, xt_i3, y_cmp_ne_f, y_cmp_ne_t, y_if_eq_f, y_if_eq_t, i_wr_id, kM_diff, Int.reduceToNat, ex_ar_same, ex_ar_ar, ex_ar_diff, ex_u_same, ex_u_diff, b2i_t, b2i_f, ex_div_nn, ex_rem_nn, Int.toNat_zero, Int.toNat_one, Int.reduceAdd, Int.reduceSub, Int.reduceMul, Int.reduceNeg, kC_ne, fC_ne]
theorem c100_c {L d : Nat} {σ σ' : ex_S} {c K x : Int} (hC : CI σ) (hd : 20 < d) (z : 0 ≤ x) (iz : (if 0 ≤ c ∧ c < σ 433 1 then (if standN (σ 433) c < 0 then -100006 else 0) else -100001 : Int) = 0) (kn : ex_cd (d - 1) 135 [vR 4] (SH L, σ) = some ([vI K], (SH L, σ))) (e : ex_cd (d - 1) 81 [vR 33, vR 6, vI c, vI K] (SH L, σ) = some ([vI x], (SH L, σ'))) : ex_cd d 100 [vR 4, vI c] (SH L, σ) = some ([vI x], (SH L, σ')) := by
  (have p0 := hC.pr.p0; have p1 := hC.pr.p1; have k0 := hC.pr.k0; have k1 := hC.pr.k1; have kq := hC.pr.q; have q0 : 0 ≤ σ 4 10 := (by omega); have q1 : σ 4 10 ≤ 16 := (by omega); have hN := hC.ni; have hR := hC.rd.g; have hD := hC.rd; have hT := hC.st)
  rw [ex_cd_eq (by omega)]
  show ex_ev (d - 1) 100 0 [vR 4, vI c, vL 0, vL 0] [] _ = _
  simp (disch := first | assumption | omega | ((repeat' first | exact ok_nil | apply ok_I | apply ok_R); done) | (simp (disch := first | omega | decide) only [ex_ar_same, ex_ar_diff, kM_diff, ex_u_same, ex_u_diff]; first | assumption | omega)) only [(xr_135 kn), (xr_81 e), ev_100_0, ev_100_1, ev_100_2, ev_100_3, gf_4_0, gf_4_3, gf_5_0, iz, x_fall, x_goto, x_push, x_ret1, xc_132, xc_134, xl_a0, xl_i1, xl_i2, xl_i3, xt_i2, xt_i3, y_cmp_ne_f, y_cmp_ne_t, y_if_eq_f, y_if_eq_t, i_wr_id, kM_diff, Int.reduceToNat, ex_ar_same, ex_ar_ar, ex_ar_diff, ex_u_same, ex_u_diff, b2i_t, b2i_f, ex_div_nn, ex_rem_nn, Int.toNat_zero, Int.toNat_one, Int.reduceAdd, Int.reduceSub, Int.reduceMul, Int.reduceNeg, kC_ne, fC_ne]
theorem c101_a {L d : Nat} {σ : ex_S} {c i x : Int} (hC : CI σ) (hd : 20 < d) (hx : x = -100006 ∨ x = -100001) (i0 : 0 ≤ i) (iz : (if 0 ≤ c ∧ c < σ 433 1 then (if standN (σ 433) c < 0 then -100006 else 0) else -100001 : Int) = x) : ex_cd d 101 [vR 4, vI c, vI i] (SH L, σ) = some ([vI x], (SH L, fC σ)) := by
  (have p0 := hC.pr.p0; have p1 := hC.pr.p1; have k0 := hC.pr.k0; have k1 := hC.pr.k1; have kq := hC.pr.q; have q0 : 0 ≤ σ 4 10 := (by omega); have q1 : σ 4 10 ≤ 16 := (by omega); have hN := hC.ni; have hR := hC.rd.g; have hD := hC.rd; have hT := hC.st)
  (rw [ex_cd_eq (by omega)]; show ex_ev (d - 1) 101 0 [vR 4, vI c, vI i, vL 0, vL 0] [] _ = _; (repeat' first | simp (disch := first | assumption | omega | ((repeat' first | exact ok_nil | apply ok_I | apply ok_R); done) | (simp (disch := first | omega | decide) only [ex_ar_same, ex_ar_diff, kM_diff, ex_u_same, ex_u_diff]; first | assumption | omega)) only [ev_101_0, ev_101_1, ev_101_2, ev_101_3, ev_101_4, ev_101_5, gf_33_0, gf_4_0, gf_4_3, gf_5_0, iz, ld_34, x_fall, x_goto, x_push, x_ret1, xc_132, xc_134, xc_135, xl_a0, xl_i1, xl_i2, xl_i3, xl_i4, xt_i3, xt_i4, y_cmp_ge_f, y_cmp_ge_t, y_if_eq_f, y_if_eq_t, y_if_ge_f, y_if_ge_t, i_wr_id, kM_diff, Int.reduceToNat, ex_ar_same, ex_ar_ar, ex_ar_diff, ex_u_same, ex_u_diff, b2i_t, b2i_f, ex_div_nn, ex_rem_nn, Int.toNat_zero, Int.toNat_one, Int.reduceAdd, Int.reduceSub, Int.reduceMul, Int.reduceNeg, kC_ne, fC_ne] | refine bb_eq (fun _ => ?_) (fun _ => ?_) | refine bb_ne (fun _ => ?_) (fun _ => ?_) | refine bc_eq (fun _ => ?_) (fun _ => ?_) | refine bc_ne (fun _ => ?_) (fun _ => ?_) | refine bc_lt (fun _ => ?_) (fun _ => ?_) | refine bc_ge (fun _ => ?_) (fun _ => ?_) | refine bc_gt (fun _ => ?_) (fun _ => ?_) | refine bc_le (fun _ => ?_) (fun _ => ?_) | refine bi_eq (fun _ => ?_) (fun _ => ?_) | refine bi_ne (fun _ => ?_) (fun _ => ?_) | refine bi_lt (fun _ => ?_) (fun _ => ?_) | refine bi_ge (fun _ => ?_) (fun _ => ?_) | refine bi_gt (fun _ => ?_) (fun _ => ?_) | refine bi_le (fun _ => ?_) (fun _ => ?_)))
theorem c101_d {L d : Nat} {σ : ex_S} {c i : Int} (hd : 20 < d) (i0 : i < 0) : ex_cd d 101 [vR 4, vI c, vI i] (SH L, σ) = some ([vI (-100001)], (SH L, fC σ)) := by
  (rw [ex_cd_eq (by omega)]; show ex_ev (d - 1) 101 0 [vR 4, vI c, vI i, vL 0, vL 0] [] _ = _; (repeat' first | simp (disch := first | assumption | omega | ((repeat' first | exact ok_nil | apply ok_I | apply ok_R); done) | (simp (disch := first | omega | decide) only [ex_ar_same, ex_ar_diff, kM_diff, ex_u_same, ex_u_diff]; first | assumption | omega)) only [ev_101_0, ev_101_1, ev_101_2, ev_101_3, ev_101_4, ev_101_5, gf_33_0, gf_4_0, gf_4_3, gf_5_0, ld_34, x_fall, x_goto, x_push, x_ret1, xc_132, xc_134, xc_135, xl_a0, xl_i1, xl_i2, xl_i3, xl_i4, xt_i3, xt_i4, y_cmp_ge_f, y_cmp_ge_t, y_if_eq_f, y_if_eq_t, y_if_ge_f, y_if_ge_t, i_wr_id, kM_diff, Int.reduceToNat, ex_ar_same, ex_ar_ar, ex_ar_diff, ex_u_same, ex_u_diff, b2i_t, b2i_f, ex_div_nn, ex_rem_nn, Int.toNat_zero, Int.toNat_one, Int.reduceAdd, Int.reduceSub, Int.reduceMul, Int.reduceNeg, kC_ne, fC_ne] | refine bb_eq (fun _ => ?_) (fun _ => ?_) | refine bb_ne (fun _ => ?_) (fun _ => ?_) | refine bc_eq (fun _ => ?_) (fun _ => ?_) | refine bc_ne (fun _ => ?_) (fun _ => ?_) | refine bc_lt (fun _ => ?_) (fun _ => ?_) | refine bc_ge (fun _ => ?_) (fun _ => ?_) | refine bc_gt (fun _ => ?_) (fun _ => ?_) | refine bc_le (fun _ => ?_) (fun _ => ?_) | refine bi_eq (fun _ => ?_) (fun _ => ?_) | refine bi_ne (fun _ => ?_) (fun _ => ?_) | refine bi_lt (fun _ => ?_) (fun _ => ?_) | refine bi_ge (fun _ => ?_) (fun _ => ?_) | refine bi_gt (fun _ => ?_) (fun _ => ?_) | refine bi_le (fun _ => ?_) (fun _ => ?_)))
theorem c101_b {L d : Nat} {σ σ' : ex_S} {c i K x : Int} (hC : CI σ) (hd : 20 < d) (i0 : 0 ≤ i) (z : x ≤ i) (iz : (if 0 ≤ c ∧ c < σ 433 1 then (if standN (σ 433) c < 0 then -100006 else 0) else -100001 : Int) = 0) (kn : ex_cd (d - 1) 135 [vR 4] (SH L, σ) = some ([vI K], (SH L, σ))) (e : ex_cd (d - 1) 81 [vR 33, vR 6, vI c, vI K] (SH L, σ) = some ([vI x], (SH L, σ'))) : ex_cd d 101 [vR 4, vI c, vI i] (SH L, σ) = some ([vI (-100006)], (SH L, fC σ')) := by
  (have p0 := hC.pr.p0; have p1 := hC.pr.p1; have k0 := hC.pr.k0; have k1 := hC.pr.k1; have kq := hC.pr.q; have q0 : 0 ≤ σ 4 10 := (by omega); have q1 : σ 4 10 ≤ 16 := (by omega); have hN := hC.ni; have hR := hC.rd.g; have hD := hC.rd; have hT := hC.st)
  rw [ex_cd_eq (by omega)]
  show ex_ev (d - 1) 101 0 [vR 4, vI c, vI i, vL 0, vL 0] [] _ = _
  simp (disch := first | assumption | omega | ((repeat' first | exact ok_nil | apply ok_I | apply ok_R); done) | (simp (disch := first | omega | decide) only [ex_ar_same, ex_ar_diff, kM_diff, ex_u_same, ex_u_diff]; first | assumption | omega)) only [(xr_135 kn), (xr_81 e), ev_101_0, ev_101_1, ev_101_2, ev_101_3, ev_101_4, ev_101_5, gf_33_0, gf_4_0, gf_4_3, gf_5_0, iz, ld_34, x_fall, x_goto, x_push, x_ret1, xc_132, xc_134, xl_a0, xl_i1, xl_i2, xl_i3, xl_i4, xt_i3, xt_i4, y_cmp_ge_f, y_cmp_ge_t, y_if_eq_f, y_if_eq_t, y_if_ge_f, y_if_ge_t, i_wr_id, kM_diff, Int.reduceToNat, ex_ar_same, ex_ar_ar, ex_ar_diff, ex_u_same, ex_u_diff, b2i_t, b2i_f, ex_div_nn, ex_rem_nn, Int.toNat_zero, Int.toNat_one, Int.reduceAdd, Int.reduceSub, Int.reduceMul, Int.reduceNeg, kC_ne, fC_ne]
theorem c101_c {L d : Nat} {σ σ' : ex_S} {c i K x y : Int} (hC : CI σ) (hd : 20 < d) (i0 : 0 ≤ i) (z : i < x) (x3 : x ≤ 3) (es : σ' 34 i = y) (iz : (if 0 ≤ c ∧ c < σ 433 1 then (if standN (σ 433) c < 0 then -100006 else 0) else -100001 : Int) = 0) (kn : ex_cd (d - 1) 135 [vR 4] (SH L, σ) = some ([vI K], (SH L, σ))) (e : ex_cd (d - 1) 81 [vR 33, vR 6, vI c, vI K] (SH L, σ) = some ([vI x], (SH L, σ'))) : ex_cd d 101 [vR 4, vI c, vI i] (SH L, σ) = some ([vI y], (SH L, σ')) := by
  (have p0 := hC.pr.p0; have p1 := hC.pr.p1; have k0 := hC.pr.k0; have k1 := hC.pr.k1; have kq := hC.pr.q; have q0 : 0 ≤ σ 4 10 := (by omega); have q1 : σ 4 10 ≤ 16 := (by omega); have hN := hC.ni; have hR := hC.rd.g; have hD := hC.rd; have hT := hC.st)
  rw [ex_cd_eq (by omega)]
  show ex_ev (d - 1) 101 0 [vR 4, vI c, vI i, vL 0, vL 0] [] _ = _
  simp (disch := first | assumption | omega | ((repeat' first | exact ok_nil | apply ok_I | apply ok_R); done) | (simp (disch := first | omega | decide) only [ex_ar_same, ex_ar_diff, kM_diff, ex_u_same, ex_u_diff]; first | assumption | omega)) only [(xr_135 kn), (xr_81 e), es, ev_101_0, ev_101_1, ev_101_2, ev_101_3, ev_101_4, ev_101_5, gf_33_0, gf_4_0, gf_4_3, gf_5_0, iz, ld_34, x_fall, x_goto, x_push, x_ret1, xc_132, xc_134, xl_a0, xl_i1, xl_i2, xl_i3, xl_i4, xt_i3, xt_i4, y_cmp_ge_f, y_cmp_ge_t, y_if_eq_f, y_if_eq_t, y_if_ge_f, y_if_ge_t, i_wr_id, kM_diff, Int.reduceToNat, ex_ar_same, ex_ar_ar, ex_ar_diff, ex_u_same, ex_u_diff, b2i_t, b2i_f, ex_div_nn, ex_rem_nn, Int.toNat_zero, Int.toNat_one, Int.reduceAdd, Int.reduceSub, Int.reduceMul, Int.reduceNeg, kC_ne, fC_ne]
theorem pv_a {L d : Nat} {τ τ' : ex_S} {c s i v z : Int} (hd : 20 < d) (s0 : 0 ≤ s) (s1 : s ≤ 3) (i0 : 0 ≤ i) (i1 : i < z) (z1 : z ≤ 20) (ez : τ 31 s = z) (ev : τ 32 (s * 20 + i) = v) (co : ex_cd (d - 1) 83 [vR 33, vI c, vI v] (SH L, τ) = some ([vI 1], (SH L, τ'))) : ex_ev (d - 1) 102 5 [vR 4, vI c, vI s, vI i] [] (SH L, τ) = ex_ev (d - 1) 102 5 [vR 4, vI c, vI s, vI (i + 1)] [] (SH L, τ') := by
  rw [ev_102_5]
  simp (disch := first | assumption | omega | ((repeat' first | exact ok_nil | apply ok_I | apply ok_R); done) | (simp (disch := first | omega | decide) only [ex_ar_same, ex_ar_diff, kM_diff, ex_u_same, ex_u_diff]; first | assumption | omega)) only [(xr_83 co), ev, ev_102_0, ev_102_1, ev_102_2, ev_102_3, ev_102_4, ev_102_6, ev_102_7, ev_102_8, ev_102_9, ez, gf_29_1, gf_35_12, gf_4_0, gf_4_2, gf_4_3, gf_5_0, gf_6_12, ld_17, ld_31, ld_46, x_fall, x_goto, x_push, x_ret1, xc_132, xc_135, xc_14_35, xc_14_6, xc_71, xc_72, xc_74, xc_79, xc_80, xl_a0, xl_i1, xl_i2, xl_i3, xn_3, xt_i3, y_cmp_ge_f, y_cmp_ge_t, y_cmp_ne_f, y_cmp_ne_t, y_if_eq_f, y_if_eq_t, y_if_ne_f, y_if_ne_t, i_wr_id, kM_diff, Int.reduceToNat, ex_ar_same, ex_ar_ar, ex_ar_diff, ex_u_same, ex_u_diff, b2i_t, b2i_f, ex_div_nn, ex_rem_nn, Int.toNat_zero, Int.toNat_one, Int.reduceAdd, Int.reduceSub, Int.reduceMul, Int.reduceNeg, kC_ne, fC_ne]
theorem pv_b {L d : Nat} {τ τ' : ex_S} {c s i v z : Int} (hd : 20 < d) (s0 : 0 ≤ s) (s1 : s ≤ 3) (i0 : 0 ≤ i) (i1 : i < z) (z1 : z ≤ 20) (ez : τ 31 s = z) (ev : τ 32 (s * 20 + i) = v) (co : ex_cd (d - 1) 83 [vR 33, vI c, vI v] (SH L, τ) = some ([vI 0], (SH L, τ'))) : ex_ev (d - 1) 102 5 [vR 4, vI c, vI s, vI i] [] (SH L, τ) = some ([vI i], (SH L, τ')) := by
  rw [ev_102_5]
  simp (disch := first | assumption | omega | ((repeat' first | exact ok_nil | apply ok_I | apply ok_R); done) | (simp (disch := first | omega | decide) only [ex_ar_same, ex_ar_diff, kM_diff, ex_u_same, ex_u_diff]; first | assumption | omega)) only [(xr_83 co), ev, ev_102_0, ev_102_1, ev_102_2, ev_102_3, ev_102_4, ev_102_6, ev_102_7, ev_102_8, ev_102_9, ez, gf_29_1, gf_35_12, gf_4_0, gf_4_2, gf_4_3, gf_5_0, gf_6_12, ld_17, ld_31, ld_46, x_fall, x_goto, x_push, x_ret1, xc_132, xc_135, xc_14_35, xc_14_6, xc_71, xc_72, xc_74, xc_79, xc_80, xl_a0, xl_i1, xl_i2, xl_i3, xn_3, xt_i3, y_cmp_ge_f, y_cmp_ge_t, y_cmp_ne_f, y_cmp_ne_t, y_if_eq_f, y_if_eq_t, y_if_ne_f, y_if_ne_t, i_wr_id, kM_diff, Int.reduceToNat, ex_ar_same, ex_ar_ar, ex_ar_diff, ex_u_same, ex_u_diff, b2i_t, b2i_f, ex_div_nn, ex_rem_nn, Int.toNat_zero, Int.toNat_one, Int.reduceAdd, Int.reduceSub, Int.reduceMul, Int.reduceNeg, kC_ne, fC_ne]
theorem pv_c {L d : Nat} {τ : ex_S} {m : Int → Int} {c s i z : Int} (hd : 20 < d) (hR : RG35 τ m) (hN : NI m) (c0 : 0 ≤ c) (c1 : c < m 1) (s0 : 0 ≤ s) (s1 : s ≤ 3) (i1 : i = z) (ez : τ 31 s = z) : ex_ev (d - 1) 102 5 [vR 4, vI c, vI s, vI i] [] (SH L, τ) = some ([vI (if freeP m c then -1 else i)], (SH L, τ)) := by
  rw [ev_102_5]
  by_cases y : freeP m c
  · rw [if_pos y]
    simp (disch := first | assumption | omega | ((repeat' first | exact ok_nil | apply ok_I | apply ok_R); done) | (simp (disch := first | omega | decide) only [ex_ar_same, ex_ar_diff, kM_diff, ex_u_same, ex_u_diff]; first | assumption | omega)) only [ev_102_0, ev_102_1, ev_102_2, ev_102_3, ev_102_4, ev_102_6, ev_102_7, ev_102_8, ev_102_9, ez, gf_29_1, gf_35_12, gf_4_0, gf_4_2, gf_4_3, gf_5_0, gf_6_12, ld_17, ld_31, ld_46, x_fall, x_goto, x_push, x_ret1, xc_132, xc_135, xc_14_35, xc_14_6, xc_71, xc_72, xc_74, xc_79, xc_80, xl_a0, xl_i1, xl_i2, xl_i3, xn_3, xt_i3, y_cmp_ge_f, y_cmp_ge_t, y_cmp_ne_f, y_cmp_ne_t, y_if_eq_f, y_if_eq_t, y_if_ne_f, y_if_ne_t, i_wr_id, kM_diff, Int.reduceToNat, ex_ar_same, ex_ar_ar, ex_ar_diff, ex_u_same, ex_u_diff, b2i_t, b2i_f, ex_div_nn, ex_rem_nn, Int.toNat_zero, Int.toNat_one, Int.reduceAdd, Int.reduceSub, Int.reduceMul, Int.reduceNeg, kC_ne, fC_ne]
  · rw [if_neg y, i1]
    simp (disch := first | assumption | omega | ((repeat' first | exact ok_nil | apply ok_I | apply ok_R); done) | (simp (disch := first | omega | decide) only [ex_ar_same, ex_ar_diff, kM_diff, ex_u_same, ex_u_diff]; first | assumption | omega)) only [ev_102_0, ev_102_1, ev_102_2, ev_102_3, ev_102_4, ev_102_6, ev_102_7, ev_102_8, ev_102_9, ez, gf_29_1, gf_35_12, gf_4_0, gf_4_2, gf_4_3, gf_5_0, gf_6_12, ld_17, ld_31, ld_46, x_fall, x_goto, x_push, x_ret1, xc_132, xc_135, xc_14_35, xc_14_6, xc_71, xc_72, xc_74, xc_79, xc_80, xl_a0, xl_i1, xl_i2, xl_i3, xn_3, xt_i3, y_cmp_ge_f, y_cmp_ge_t, y_cmp_ne_f, y_cmp_ne_t, y_if_eq_f, y_if_eq_t, y_if_ne_f, y_if_ne_t, i_wr_id, kM_diff, Int.reduceToNat, ex_ar_same, ex_ar_ar, ex_ar_diff, ex_u_same, ex_u_diff, b2i_t, b2i_f, ex_div_nn, ex_rem_nn, Int.toNat_zero, Int.toNat_one, Int.reduceAdd, Int.reduceSub, Int.reduceMul, Int.reduceNeg, kC_ne, fC_ne]
theorem pv_e {L d : Nat} {σ : ex_S} {c s K : Int} (hC : CI σ) (hd : 20 < d) (g1 : 0 ≤ c ∧ c < σ 433 1) (gs : 0 ≤ s ∧ s ≤ 3) (eb : σ 30 s ≠ 0) (ew : 0 ≤ σ 17 c) (kn : ex_cd (d - 1) 135 [vR 4] (SH L, σ) = some ([vI K], (SH L, σ))) : ex_cd d 102 [vR 4, vI c, vI s] (SH L, σ) = ex_ev (d - 1) 102 5 [vR 4, vI c, vI s, vI 0] [] (SH L, bgS σ K) := by
  (have p0 := hC.pr.p0; have p1 := hC.pr.p1; have k0 := hC.pr.k0; have k1 := hC.pr.k1; have kq := hC.pr.q; have q0 : 0 ≤ σ 4 10 := (by omega); have q1 : σ 4 10 ≤ 16 := (by omega); have hN := hC.ni; have hR := hC.rd.g; have hD := hC.rd; have hT := hC.st)
  have b1 := hN.b1
  rw [ex_cd_eq (by omega)]
  show ex_ev (d - 1) 102 0 [vR 4, vI c, vI s, vL 0] [] _ = _
  simp (disch := first | assumption | omega | ((repeat' first | exact ok_nil | apply ok_I | apply ok_R); done) | (simp (disch := first | omega | decide) only [ex_ar_same, ex_ar_diff, kM_diff, ex_u_same, ex_u_diff]; first | assumption | omega)) only [(xr_135 kn), ev_102_0, ev_102_1, ev_102_2, ev_102_3, ev_102_4, ev_102_6, ev_102_7, ev_102_8, ev_102_9, gf_29_1, gf_35_12, gf_4_0, gf_4_2, gf_4_3, gf_5_0, gf_6_12, ld_17, ld_31, ld_46, x_fall, x_goto, x_push, x_ret1, xc_132, xc_14_35, xc_14_6, xc_71, xc_72, xc_74, xc_79, xc_80, xl_a0, xl_i1, xl_i2, xl_i3, xn_3, xt_i3, y_cmp_ge_f, y_cmp_ge_t, y_cmp_ne_f, y_cmp_ne_t, y_if_eq_f, y_if_eq_t, y_if_ne_f, y_if_ne_t, i_wr_id, kM_diff, Int.reduceToNat, ex_ar_same, ex_ar_ar, ex_ar_diff, ex_u_same, ex_u_diff, b2i_t, b2i_f, ex_div_nn, ex_rem_nn, Int.toNat_zero, Int.toNat_one, Int.reduceAdd, Int.reduceSub, Int.reduceMul, Int.reduceNeg, kC_ne, fC_ne]
theorem ck_100 {L d : Nat} {σ : ex_S} {c : Int} (hC : CI σ) (hd : 20 < d) : CK 100 182 [vI c] σ L d := by
  (have p0 := hC.pr.p0; have p1 := hC.pr.p1; have k0 := hC.pr.k0; have k1 := hC.pr.k1; have kq := hC.pr.q; have q0 : 0 ≤ σ 4 10 := (by omega); have q1 : σ 4 10 ≤ 16 := (by omega); have hN := hC.ni; have hR := hC.rd.g; have hD := hC.rd; have hT := hC.st)
  have fb := fewN_bd (σ 433) c
  have f3 : fC σ 433 = σ 433 := fC_ne _ (by decide)
  by_cases g : 0 ≤ c ∧ c < σ 433 1
  · by_cases g2 : standN (σ 433) c < 0
    · have iz : (if 0 ≤ c ∧ c < σ 433 1 then (if standN (σ 433) c < 0 then -100006 else 0) else -100001 : Int) = -100006 := by rw [if_pos g, if_pos g2]
      obtain ⟨τ, r, rs⟩ := rp_182 (L := L) (d := d) (σ := fC σ) (c := c) (by omega) (by rw [f3]; exact hN)
      have hm : fewestM (fC σ) c = (-100006, fndM (fC σ)) := by unfold fewestM; rw [f3, if_pos g, if_pos (Or.inl g2)]
      rw [hm] at r rs
      refine CK.of (σ1 := fC σ) (r := -100006) ?_ r rfl (ci_RS (ci_fnd hC) rs) ((rs.lo 0 (by decide)).trans (show fndM (fC σ) 0 = σ 0 from fnd_0 (σ := σ)))
      exact c100_a hC hd (Or.inl rfl) iz
    · have iz : (if 0 ≤ c ∧ c < σ 433 1 then (if standN (σ 433) c < 0 then -100006 else 0) else -100001 : Int) = 0 := by rw [if_pos g, if_neg g2]
      obtain ⟨σ', e, hf, -⟩ := fp_81 (d := d - 1) (L := L) (by omega) hD hN g.1 g.2 (by omega)
      have kn := sp_135 (d := d - 1) (L := L) (by omega) hD hN
      have e3 : σ' 433 = σ 433 := hf _ (by omega)
      have hC' := ci_33 hC hf
      by_cases z : fewN (σ 433) c < 0
      · have z' : fewN (σ 433) c = -1 := by omega
        rw [z'] at e
        have f3' : fC σ' 433 = σ 433 := (fC_ne _ (by decide)).trans e3
        obtain ⟨τ, r, rs⟩ := rp_182 (L := L) (d := d) (σ := fC σ') (c := c) (by omega) (by rw [f3']; exact hN)
        have hm : fewestM (fC σ') c = (-100006, fndM (fC σ')) := by unfold fewestM; rw [f3', if_pos g, if_pos (Or.inr z)]
        rw [hm] at r rs
        refine CK.of (σ1 := fC σ') (r := -100006) ?_ r rfl (ci_RS (ci_fnd hC') rs) ((rs.lo 0 (by decide)).trans (show fndM (fC σ') 0 = σ 0 from (fnd_0 (σ := σ')).trans (hf _ (by omega))))
        exact c100_b hC hd iz kn e
      · obtain ⟨τ, r, rs⟩ := rp_182 (L := L) (d := d) (σ := σ') (c := c) (by omega) (by rw [e3]; exact hN)
        have hm : fewestM σ' c = (fewN (σ 433) c, σ') := by unfold fewestM; rw [e3, if_pos g, if_neg (by omega)]
        rw [hm] at r rs
        refine CK.of (σ1 := σ') (r := fewN (σ 433) c) ?_ r rfl (ci_RS hC' rs) ((rs.lo 0 (by decide)).trans (hf _ (by omega)))
        exact c100_c hC hd (by omega) iz kn e
  · have iz : (if 0 ≤ c ∧ c < σ 433 1 then (if standN (σ 433) c < 0 then -100006 else 0) else -100001 : Int) = -100001 := by rw [if_neg g]
    obtain ⟨τ, r, rs⟩ := rp_182 (L := L) (d := d) (σ := fC σ) (c := c) (by omega) (by rw [f3]; exact hN)
    have hm : fewestM (fC σ) c = (-100001, fndM (fC σ)) := by unfold fewestM; rw [f3, if_neg g]
    rw [hm] at r rs
    refine CK.of (σ1 := fC σ) (r := -100001) ?_ r rfl (ci_RS (ci_fnd hC) rs) ((rs.lo 0 (by decide)).trans (show fndM (fC σ) 0 = σ 0 from fnd_0 (σ := σ)))
    exact c100_a hC hd (Or.inr rfl) iz
theorem ck_101 {L d : Nat} {σ : ex_S} {c i : Int} (hC : CI σ) (hd : 20 < d) : CK 101 183 [vI c, vI i] σ L d := by
  (have p0 := hC.pr.p0; have p1 := hC.pr.p1; have k0 := hC.pr.k0; have k1 := hC.pr.k1; have kq := hC.pr.q; have q0 : 0 ≤ σ 4 10 := (by omega); have q1 : σ 4 10 ≤ 16 := (by omega); have hN := hC.ni; have hR := hC.rd.g; have hD := hC.rd; have hT := hC.st)
  have fb := fewN_bd (σ 433) c
  have f3 : fC σ 433 = σ 433 := fC_ne _ (by decide)
  by_cases g : (0 ≤ c ∧ c < σ 433 1) ∧ 0 ≤ i
  · obtain ⟨g1, gi⟩ := id g
    by_cases g2 : standN (σ 433) c < 0
    · have iz : (if 0 ≤ c ∧ c < σ 433 1 then (if standN (σ 433) c < 0 then -100006 else 0) else -100001 : Int) = -100006 := by rw [if_pos g1, if_pos g2]
      obtain ⟨τ, r, rs⟩ := rp_183 (L := L) (d := d) (σ := fC σ) (c := c) (i := i) (by omega) (by rw [f3]; exact hN)
      have hm : stepM (fC σ) c i = (-100006, fndM (fC σ)) := by unfold stepM; rw [f3, if_pos g, if_pos (Or.inl g2)]
      rw [hm] at r rs
      refine CK.of (σ1 := fC σ) (r := -100006) ?_ r rfl (ci_RS (ci_fnd hC) rs) ((rs.lo 0 (by decide)).trans (show fndM (fC σ) 0 = σ 0 from fnd_0 (σ := σ)))
      exact c101_a hC hd (Or.inl rfl) gi iz
    · have iz : (if 0 ≤ c ∧ c < σ 433 1 then (if standN (σ 433) c < 0 then -100006 else 0) else -100001 : Int) = 0 := by rw [if_pos g1, if_neg g2]
      obtain ⟨σ', e, hf, hst⟩ := fp_81 (d := d - 1) (L := L) (by omega) hD hN g1.1 g1.2 (by omega)
      have kn := sp_135 (d := d - 1) (L := L) (by omega) hD hN
      have e3 : σ' 433 = σ 433 := hf _ (by omega)
      have hC' := ci_33 hC hf
      by_cases z : fewN (σ 433) c ≤ i
      · have f3' : fC σ' 433 = σ 433 := (fC_ne _ (by decide)).trans e3
        obtain ⟨τ, r, rs⟩ := rp_183 (L := L) (d := d) (σ := fC σ') (c := c) (i := i) (by omega) (by rw [f3']; exact hN)
        have hm : stepM (fC σ') c i = (-100006, fndM (fC σ')) := by unfold stepM; rw [f3', if_pos g, if_pos (Or.inr z)]
        rw [hm] at r rs
        refine CK.of (σ1 := fC σ') (r := -100006) ?_ r rfl (ci_RS (ci_fnd hC') rs) ((rs.lo 0 (by decide)).trans (show fndM (fC σ') 0 = σ 0 from (fnd_0 (σ := σ')).trans (hf _ (by omega))))
        exact c101_b hC hd gi z iz kn e
      · have es := hst i gi (by omega)
        obtain ⟨τ, r, rs⟩ := rp_183 (L := L) (d := d) (σ := σ') (c := c) (i := i) (by omega) (by rw [e3]; exact hN)
        have hm : stepM σ' c i = (stepN (σ 433) c i.toNat, σ') := by unfold stepM; rw [e3, if_pos g, if_neg (by omega)]
        rw [hm] at r rs
        refine CK.of (σ1 := σ') (r := stepN (σ 433) c i.toNat) ?_ r rfl (ci_RS hC' rs) ((rs.lo 0 (by decide)).trans (hf _ (by omega)))
        exact c101_c hC hd gi (by omega) fb.2 es iz kn e
  · obtain ⟨τ, r, rs⟩ := rp_183 (L := L) (d := d) (σ := fC σ) (c := c) (i := i) (by omega) (by rw [f3]; exact hN)
    have hm : stepM (fC σ) c i = (-100001, fndM (fC σ)) := by unfold stepM; rw [f3, if_neg g]
    rw [hm] at r rs
    refine CK.of (σ1 := fC σ) (r := -100001) ?_ r rfl (ci_RS (ci_fnd hC) rs) ((rs.lo 0 (by decide)).trans (show fndM (fC σ) 0 = σ 0 from fnd_0 (σ := σ)))
    by_cases z : i < 0
    · exact c101_d hd z
    · have iz : (if 0 ≤ c ∧ c < σ 433 1 then (if standN (σ 433) c < 0 then -100006 else 0) else -100001 : Int) = -100001 := by rw [if_neg (fun y => g ⟨y, by omega⟩)]
      exact c101_a hC hd (Or.inr rfl) (by omega) iz
theorem NR_ok {b u v : Int} (hb : b = 8 ∨ b = 16 ∨ b = 32) (h : NR b u v) {n : Int → Int} (b1 : n 1 ≤ 8) {c : Int} : (okC n c u ↔ okC n c v) ∧ (okC n c v → u = v) := by
  obtain ⟨h1, h2, h3⟩ := h
  have key : u = v ∨ (64 ≤ u ∧ v < 0) := by
    rcases hb with e | e | e
    · obtain ⟨x, y, z⟩ := h2 e
      split at z <;> omega
    · obtain ⟨x, y, z⟩ := h3 e
      split at z <;> omega
    · exact Or.inl (h1 e)
  rcases key with e | ⟨e1, e2⟩
  · rw [e]; exact ⟨Iff.rfl, fun _ => rfl⟩
  · refine ⟨⟨fun z => ?_, fun z => ?_⟩, fun z => ?_⟩
    · have := z.2.1.2; omega
    · have := z.1; omega
    · have := z.1; omega
theorem pv_102 {d L : Nat} {σ : ex_S} {c s : Int} (hd : 20 < d) (hC : CI σ) (c0 : 0 ≤ c) (gs : 0 ≤ s ∧ s ≤ 3) (g2 : ¬ σ 435 s = 0) : ∀ (j i : Nat) (m : Int → Int) (τ : ex_S), i + j = (σ 436 s).toNat → RG35 τ m → NI m → KB (τ 33 2) m → c < m 1 → (∀ a, a < 33 ∨ 46 < a → τ a = σ a) → ∃ υ, ex_ev (d - 1) 102 5 [vR 4, vI c, vI s, vI (i : Int)] [] (SH L, τ) = some ([vI (prA (σ 437) s c i j m)], (SH L, υ)) ∧ (∀ a, a < 33 ∨ 46 < a → υ a = σ a) := by
  obtain ⟨s1, s2, s3⟩ := hC.si s gs.1 gs.2
  have s1' : σ 435 s = 8 ∨ σ 435 s = 16 ∨ σ 435 s = 32 := by omega
  clear s1
  have ez := hC.sz s gs.1 gs.2
  intro j
  induction j with
  | zero =>
    intro i m τ hi hR' hN' hK' hc' hf
    have ez' : τ 31 s = σ 436 s := by rw [hf 31 (by omega)]; exact ez
    refine ⟨τ, ?_, hf⟩
    rw [prA]
    exact pv_c hd hR' hN' c0 hc' gs.1 gs.2 (by omega) ez'
  | succ j ihj =>
    intro i m τ hi hR' hN' hK' hc' hf
    have ez' : τ 31 s = σ 436 s := by rw [hf 31 (by omega)]; exact ez
    have e32 : τ 32 = σ 32 := hf 32 (by omega)
    have nr := hC.nu s i gs.1 gs.2 (by omega) (by omega)
    have rg := hC.rg (20 * s + (i : Int)) (by omega) (by omega)
    obtain ⟨ok1, ok2⟩ := NR_ok (n := m) (c := c) s1' nr hN'.b1
    have ub : σ 32 (s * 20 + (i : Int)) ≤ 2147483647 := by
      obtain ⟨y1, y2, y3⟩ := nr
      rcases s1' with y | y | y
      · have := (y2 y).2.1; omega
      · have := (y3 y).2.1; omega
      · have := y1 y; omega
    have co := fp_83 (d := d - 1) (L := L) (c := c) (x := σ 32 (s * 20 + (i : Int))) (by omega) hR' hN' hK' ub
    rw [prA]
    by_cases z : okC m c (σ 437 (20 * s + (i : Int)))
    · rw [if_pos z]
      have zu := ok1.mpr z
      have uv := ok2 z
      rw [b2i_t zu, if_pos zu, uv] at co
      obtain ⟨q1, q2, q3⟩ := okC_go hN' z hR'
      obtain ⟨o0, o1, o2, o3, o4⟩ := id z
      obtain ⟨t1, -⟩ := hind_0 o4
      have e1 : doesF m (σ 437 (20 * s + (i : Int)) / 8) (σ 437 (20 * s + (i : Int)) % 8) 1 = m 1 := doesF_lo hN' o3.1 (by have := hN'.b0; omega) t1 (by omega)
      have M : ∀ a, a < 35 ∨ 46 < a → mvS 35 τ m (σ 437 (20 * s + (i : Int)) / 8) (σ 437 (20 * s + (i : Int)) % 8) a = τ a := fun a ha => mvS_ne (by omega) (by omega) (by omega) (by omega)
      obtain ⟨υ, e, f⟩ := ihj (i + 1) (doesF m (σ 437 (20 * s + (i : Int)) / 8) (σ 437 (20 * s + (i : Int)) % 8)) (mvS 35 τ m (σ 437 (20 * s + (i : Int)) / 8) (σ 437 (20 * s + (i : Int)) % 8)) (by omega) q1 q2 (by rw [M 33 (by omega)]; exact KB_does hN' hK' o3.1 (by have := hN'.b0; omega) t1) (by rw [e1]; exact hc') (fun a ha => by rw [M a (by omega), hf a ha])
      refine ⟨υ, ?_, f⟩
      rw [← e, ← nat_cast_succ]
      exact pv_a hd gs.1 gs.2 (by omega) (by omega) s3 ez' (by rw [e32]; exact uv) co
    · rw [if_neg z]
      have zu : ¬ okC m c (σ 32 (s * 20 + (i : Int))) := fun y => z (ok1.mp y)
      rw [b2i_f zu, if_neg zu] at co
      refine ⟨τ, ?_, hf⟩
      exact pv_b hd gs.1 gs.2 (by omega) (by omega) s3 ez' (by rw [e32]) co
theorem ck_102 {L d : Nat} {σ : ex_S} {c s : Int} (hC : CI σ) (hd : 20 < d) : CK 102 184 [vI c, vI s] σ L d := by
  (have p0 := hC.pr.p0; have p1 := hC.pr.p1; have k0 := hC.pr.k0; have k1 := hC.pr.k1; have kq := hC.pr.q; have q0 : 0 ≤ σ 4 10 := (by omega); have q1 : σ 4 10 ≤ 16 := (by omega); have hN := hC.ni; have hR := hC.rd.g; have hD := hC.rd; have hT := hC.st)
  have b1 := hN.b1
  have f3 : fC σ 433 = σ 433 := fC_ne _ (by decide)
  have f5 : fC σ 435 = σ 435 := fC_ne _ (by decide)
  have f6 : fC σ 436 = σ 436 := fC_ne _ (by decide)
  have f7 : fC σ 437 = σ 437 := fC_ne _ (by decide)
  have rf := rp_184 (L := L) (d := d) (σ := fC σ) (c := c) (s := s) (by omega) (by rw [f3]; exact hN) (by rw [f5, f6]; exact hC.si) (by rw [f7]; exact hC.rg)
  by_cases g : (0 ≤ c ∧ c < σ 433 1) ∧ 0 ≤ s ∧ s ≤ 3
  · obtain ⟨g1, gs⟩ := id g
    obtain ⟨s1, s2, s3⟩ := hC.si s gs.1 gs.2
    have eb := hC.sb s gs.1 gs.2
    have ez := hC.sz s gs.1 gs.2
    have ew := hR.wh c g1.1 g1.2
    have sl := stand_lo (σ 433) c hN.b0 hN.oM
    by_cases g2 : σ 435 s = 0
    · obtain ⟨τ, r, rs⟩ := rf
      have hm : provesM (fC σ) c s = (-100002, fndM (fC σ)) := by unfold provesM; rw [f3, f5, if_pos g, if_pos g2]
      rw [hm] at r rs
      refine CK.of (σ1 := fC σ) (r := -100002) ?_ r rfl (ci_RS (ci_fnd hC) rs) ((rs.lo 0 (by decide)).trans (show fndM (fC σ) 0 = σ 0 from fnd_0 (σ := σ)))
      (rw [ex_cd_eq (by omega)]; show ex_ev (d - 1) 102 0 [vR 4, vI c, vI s, vL 0] [] _ = _; (repeat' first | simp (disch := first | assumption | omega | ((repeat' first | exact ok_nil | apply ok_I | apply ok_R); done) | (simp (disch := first | omega | decide) only [ex_ar_same, ex_ar_diff, kM_diff, ex_u_same, ex_u_diff]; first | assumption | omega)) only [eb, ev_102_0, ev_102_1, ev_102_2, ev_102_3, ev_102_4, ev_102_6, ev_102_7, ev_102_8, ev_102_9, ez, gf_29_1, gf_35_12, gf_4_0, gf_4_2, gf_4_3, gf_5_0, gf_6_12, ld_17, ld_31, ld_46, x_fall, x_goto, x_push, x_ret1, xc_132, xc_135, xc_14_35, xc_14_6, xc_71, xc_72, xc_74, xc_79, xc_80, xl_a0, xl_i1, xl_i2, xl_i3, xn_3, xt_i3, y_cmp_ge_f, y_cmp_ge_t, y_cmp_ne_f, y_cmp_ne_t, y_if_eq_f, y_if_eq_t, y_if_ne_f, y_if_ne_t, i_wr_id, kM_diff, Int.reduceToNat, ex_ar_same, ex_ar_ar, ex_ar_diff, ex_u_same, ex_u_diff, b2i_t, b2i_f, ex_div_nn, ex_rem_nn, Int.toNat_zero, Int.toNat_one, Int.reduceAdd, Int.reduceSub, Int.reduceMul, Int.reduceNeg, kC_ne, fC_ne] | refine bb_eq (fun _ => ?_) (fun _ => ?_) | refine bb_ne (fun _ => ?_) (fun _ => ?_) | refine bc_eq (fun _ => ?_) (fun _ => ?_) | refine bc_ne (fun _ => ?_) (fun _ => ?_) | refine bc_lt (fun _ => ?_) (fun _ => ?_) | refine bc_ge (fun _ => ?_) (fun _ => ?_) | refine bc_gt (fun _ => ?_) (fun _ => ?_) | refine bc_le (fun _ => ?_) (fun _ => ?_) | refine bi_eq (fun _ => ?_) (fun _ => ?_) | refine bi_ne (fun _ => ?_) (fun _ => ?_) | refine bi_lt (fun _ => ?_) (fun _ => ?_) | refine bi_ge (fun _ => ?_) (fun _ => ?_) | refine bi_gt (fun _ => ?_) (fun _ => ?_) | refine bi_le (fun _ => ?_) (fun _ => ?_)))
    · by_cases g4 : standN (σ 433) c < 0
      · obtain ⟨τ, r, rs⟩ := rf
        have hm : provesM (fC σ) c s = (-100006, fndM (fC σ)) := by unfold provesM; rw [f3, f5, if_pos g, if_neg g2, if_pos g4]
        rw [hm] at r rs
        rw [if_pos g4] at ew
        refine CK.of (σ1 := fC σ) (r := -100006) ?_ r rfl (ci_RS (ci_fnd hC) rs) ((rs.lo 0 (by decide)).trans (show fndM (fC σ) 0 = σ 0 from fnd_0 (σ := σ)))
        (rw [ex_cd_eq (by omega)]; show ex_ev (d - 1) 102 0 [vR 4, vI c, vI s, vL 0] [] _ = _; (repeat' first | simp (disch := first | assumption | omega | ((repeat' first | exact ok_nil | apply ok_I | apply ok_R); done) | (simp (disch := first | omega | decide) only [ex_ar_same, ex_ar_diff, kM_diff, ex_u_same, ex_u_diff]; first | assumption | omega)) only [eb, ev_102_0, ev_102_1, ev_102_2, ev_102_3, ev_102_4, ev_102_6, ev_102_7, ev_102_8, ev_102_9, ew, ez, gf_29_1, gf_35_12, gf_4_0, gf_4_2, gf_4_3, gf_5_0, gf_6_12, ld_17, ld_31, ld_46, x_fall, x_goto, x_push, x_ret1, xc_132, xc_135, xc_14_35, xc_14_6, xc_71, xc_72, xc_74, xc_79, xc_80, xl_a0, xl_i1, xl_i2, xl_i3, xn_3, xt_i3, y_cmp_ge_f, y_cmp_ge_t, y_cmp_ne_f, y_cmp_ne_t, y_if_eq_f, y_if_eq_t, y_if_ne_f, y_if_ne_t, i_wr_id, kM_diff, Int.reduceToNat, ex_ar_same, ex_ar_ar, ex_ar_diff, ex_u_same, ex_u_diff, b2i_t, b2i_f, ex_div_nn, ex_rem_nn, Int.toNat_zero, Int.toNat_one, Int.reduceAdd, Int.reduceSub, Int.reduceMul, Int.reduceNeg, kC_ne, fC_ne] | refine bb_eq (fun _ => ?_) (fun _ => ?_) | refine bb_ne (fun _ => ?_) (fun _ => ?_) | refine bc_eq (fun _ => ?_) (fun _ => ?_) | refine bc_ne (fun _ => ?_) (fun _ => ?_) | refine bc_lt (fun _ => ?_) (fun _ => ?_) | refine bc_ge (fun _ => ?_) (fun _ => ?_) | refine bc_gt (fun _ => ?_) (fun _ => ?_) | refine bc_le (fun _ => ?_) (fun _ => ?_) | refine bi_eq (fun _ => ?_) (fun _ => ?_) | refine bi_ne (fun _ => ?_) (fun _ => ?_) | refine bi_lt (fun _ => ?_) (fun _ => ?_) | refine bi_ge (fun _ => ?_) (fun _ => ?_) | refine bi_gt (fun _ => ?_) (fun _ => ?_) | refine bi_le (fun _ => ?_) (fun _ => ?_)))
      · rw [if_neg g4] at ew
        obtain ⟨h1, h2, h3⟩ := bg_ok hD hN
        obtain ⟨σ', e, hf⟩ := pv_102 (L := L) hd hC g1.1 gs g2 (σ 436 s).toNat 0 (σ 433) (bgS σ (kwR (σ 433) (σ 433 2) (σ 433 1).toNat)) (by omega) h1 hN h2 g1.2 (fun a ha => h3 a (by omega))
        have e3 : σ' 433 = σ 433 := hf _ (by omega)
        have e5 : σ' 435 = σ 435 := hf _ (by omega)
        have e6 : σ' 436 = σ 436 := hf _ (by omega)
        have e7 : σ' 437 = σ 437 := hf _ (by omega)
        have hC' := ci_33 hC hf
        obtain ⟨τ, r, rs⟩ := rp_184 (L := L) (d := d) (σ := σ') (c := c) (s := s) (by omega) hC'.ni hC'.si hC'.rg
        have hm : provesM σ' c s = (prA (σ 437) s c 0 (σ 436 s).toNat (σ 433), σ') := by unfold provesM; rw [e3, e5, e6, e7, if_pos g, if_neg g2, if_neg g4]
        rw [hm] at r rs
        refine CK.of (σ1 := σ') ?_ r rfl (ci_RS hC' rs) ((rs.lo 0 (by decide)).trans (hf _ (by omega)))
        rw [pv_e (L := L) hC hd g1 gs (by rw [eb]; exact g2) (by rw [ew]; omega) (sp_135 (d := d - 1) (L := L) (by omega) hD hN)]
        exact e
  · obtain ⟨τ, r, rs⟩ := rf
    have hm : provesM (fC σ) c s = (-100001, fndM (fC σ)) := by unfold provesM; rw [f3, if_neg g]
    rw [hm] at r rs
    refine CK.of (σ1 := fC σ) (r := -100001) ?_ r rfl (ci_RS (ci_fnd hC) rs) ((rs.lo 0 (by decide)).trans (show fndM (fC σ) 0 = σ 0 from fnd_0 (σ := σ)))
    (rw [ex_cd_eq (by omega)]; show ex_ev (d - 1) 102 0 [vR 4, vI c, vI s, vL 0] [] _ = _; (repeat' first | simp (disch := first | assumption | omega | ((repeat' first | exact ok_nil | apply ok_I | apply ok_R); done) | (simp (disch := first | omega | decide) only [ex_ar_same, ex_ar_diff, kM_diff, ex_u_same, ex_u_diff]; first | assumption | omega)) only [ev_102_0, ev_102_1, ev_102_2, ev_102_3, ev_102_4, ev_102_6, ev_102_7, ev_102_8, ev_102_9, gf_29_1, gf_35_12, gf_4_0, gf_4_2, gf_4_3, gf_5_0, gf_6_12, ld_17, ld_31, ld_46, x_fall, x_goto, x_push, x_ret1, xc_132, xc_135, xc_14_35, xc_14_6, xc_71, xc_72, xc_74, xc_79, xc_80, xl_a0, xl_i1, xl_i2, xl_i3, xn_3, xt_i3, y_cmp_ge_f, y_cmp_ge_t, y_cmp_ne_f, y_cmp_ne_t, y_if_eq_f, y_if_eq_t, y_if_ne_f, y_if_ne_t, i_wr_id, kM_diff, Int.reduceToNat, ex_ar_same, ex_ar_ar, ex_ar_diff, ex_u_same, ex_u_diff, b2i_t, b2i_f, ex_div_nn, ex_rem_nn, Int.toNat_zero, Int.toNat_one, Int.reduceAdd, Int.reduceSub, Int.reduceMul, Int.reduceNeg, kC_ne, fC_ne] | refine bb_eq (fun _ => ?_) (fun _ => ?_) | refine bb_ne (fun _ => ?_) (fun _ => ?_) | refine bc_eq (fun _ => ?_) (fun _ => ?_) | refine bc_ne (fun _ => ?_) (fun _ => ?_) | refine bc_lt (fun _ => ?_) (fun _ => ?_) | refine bc_ge (fun _ => ?_) (fun _ => ?_) | refine bc_gt (fun _ => ?_) (fun _ => ?_) | refine bc_le (fun _ => ?_) (fun _ => ?_) | refine bi_eq (fun _ => ?_) (fun _ => ?_) | refine bi_ne (fun _ => ?_) (fun _ => ?_) | refine bi_lt (fun _ => ?_) (fun _ => ?_) | refine bi_ge (fun _ => ?_) (fun _ => ?_) | refine bi_gt (fun _ => ?_) (fun _ => ?_) | refine bi_le (fun _ => ?_) (fun _ => ?_)))
    all_goals exact absurd ⟨by assumption, by assumption⟩ g
