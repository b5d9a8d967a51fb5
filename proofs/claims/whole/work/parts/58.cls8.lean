/-! the class: acts on lanes and cars -/
theorem RG_mod {σ σ' : ex_S} {n n' : Int → Int} (hR : RG6 σ n) (hN : NI n) (hn : ∀ k : Int, k = 0 ∨ k = 1 ∨ (11 ≤ k ∧ k ≤ 30) ∨ (46 ≤ k ∧ k ≤ 90) → n' k = n k) (ha : ∀ a, a = 6 ∨ (7 ≤ a ∧ a ≤ 10) ∨ a = 14 ∨ a = 15 ∨ a = 17 → σ' a = σ a) (mi : ∀ l : Int, 0 ≤ l → l < n 0 → σ' 11 l = n' (36 + l)) (cy : ∀ l : Int, 0 ≤ l → l < n 0 → σ' 12 l = n' (41 + l)) (bk : ∀ l : Int, 0 ≤ l → l < n 0 → σ' 13 l = n' (31 + l)) (fa : ∀ c f : Int, 0 ≤ c → c < n 1 → 0 ≤ f → f < 6 → σ' 16 (c * 6 + f) = n' (91 + 8 * f + c)) : RG6 σ' n' := by
  have b0 := hN.b0
  have e0 : n' 0 = n 0 := hn 0 (by omega)
  have e1 : n' 1 = n 1 := hn 1 (by omega)
  have hs : ∀ c, standN n' c = standN n c := stand_congr hN.b0 hN.oM (fun k hk => hn k (by omega))
  rw [← e0] at mi cy bk
  rw [← e1] at fa
  refine RG6.mk ?_ ?_ ?_ ?_ ?_ ?_ ?_ mi cy bk ?_ ?_ fa ?_
  · rw [ha _ (by omega), e0]; exact hR.la
  · rw [ha _ (by omega), e1]; exact hR.ca
  all_goals try rw [e0]
  all_goals try rw [e1]
  · intro x x1 x2; rw [ha _ (by omega), hn _ (by omega)]; exact hR.kd x x1 x2
  · intro x x1 x2; rw [ha _ (by omega), hn _ (by omega)]; exact hR.le x x1 x2
  · intro x x1 x2; rw [ha _ (by omega), hn _ (by omega)]; exact hR.ht x x1 x2
  · intro x x1 x2; rw [ha _ (by omega), hn _ (by omega), hn _ (by omega)]; exact hR.lo x x1 x2
  · intro x x1 x2; rw [ha _ (by omega)]; exact hR.ld x x1 x2
  · intro x x1 x2; rw [ha _ (by omega), hn _ (by omega)]; exact hR.st x x1 x2
  · intro x i x1 x2 i1 i2
    rw [hn _ (by omega)] at i2
    have := hN.oM x x1 (by omega)
    rw [ha _ (by omega), hn _ (by omega)]; exact hR.pl x i x1 x2 i1 i2
  · intro x x1 x2; rw [ha _ (by omega), hs]; exact hR.wh x x1 x2

theorem ck_88 {L d : Nat} {σ : ex_S} {l z : Int} (hC : CI σ) (hd : 20 < d) (hz : z = 0 ∨ z = 1) : CK 88 155 [vI l, vI z] σ L d := by
  (have p0 := hC.pr.p0; have p1 := hC.pr.p1; have k0 := hC.pr.k0; have k1 := hC.pr.k1; have kq := hC.pr.q; have q0 : 0 ≤ σ 4 10 := (by omega); have q1 : σ 4 10 ≤ 16 := (by omega); have hN := hC.ni; have hR := hC.rd.g; have hD := hC.rd; have hT := hC.st)
  have b0 := hN.b0
  have b1 := hN.b1
  by_cases g : 0 ≤ l ∧ l < σ 433 0
  · have e := hR.bk l g.1 g.2
    have eb := hN.bk l g.1 (by omega)
    by_cases g3 : σ 433 (11 + l) = 1 ∨ σ 433 (11 + l) = 3
    · have g4 : (1 = 0 ∨ σ 433 (11 + l) = 1 ∨ ((1 : Int) = 1 ∧ σ 433 (11 + l) = 3)) := by omega
      have q : ∀ x, 28 ≤ x → x < 64 ∨ 432 ≤ x → (ex_ar (kC σ) 13 (ex_u (σ 13) l z)) x = σ x := fun x h1 h2 => by rw [ex_ar_diff _ _ _ (by omega), kC5 hC _ (by omega) h2]
      have t2 : (ex_ar (kC σ) 13 (ex_u (σ 13) l z)) 432 = σ 432 := q _ (by omega) (by omega)
      have t3 : (ex_ar (kC σ) 13 (ex_u (σ 13) l z)) 433 = σ 433 := q _ (by omega) (by omega)
      have t5 : (ex_ar (kC σ) 13 (ex_u (σ 13) l z)) 435 = σ 435 := q _ (by omega) (by omega)
      have t6 : (ex_ar (kC σ) 13 (ex_u (σ 13) l z)) 436 = σ 436 := q _ (by omega) (by omega)
      have t7 : (ex_ar (kC σ) 13 (ex_u (σ 13) l z)) 437 = σ 437 := q _ (by omega) (by omega)
      have u1 : 0 ≤ (ex_ar (kC σ) 13 (ex_u (σ 13) l z)) 432 2 := by rw [t2]; exact k0
      have u2 : (ex_ar (kC σ) 13 (ex_u (σ 13) l z)) 432 2 ≤ 16 := by rw [t2]; exact k1
      have uN : NI ((ex_ar (kC σ) 13 (ex_u (σ 13) l z)) 433) := by rw [t3]; exact hN
      have uS : SI ((ex_ar (kC σ) 13 (ex_u (σ 13) l z)) 435) ((ex_ar (kC σ) 13 (ex_u (σ 13) l z)) 436) := by rw [t5, t6]; exact hC.si
      have := uN.a0; have := uN.b0; have := uN.a1; have := uN.b1; have := uN.a2; have := uN.b2; have := uN.a3; have := uN.b3; have := uN.a4; have := uN.b4; have := uN.a5; have := uN.b5; have := uN.a7; have := uN.b7; have := uN.a8; have := uN.b8; have := uN.a9; have := uN.b9; have := uN.a10; have := uN.b10
      have r := sp_155 (L := L) (d := d) (σ := ex_ar (kC σ) 13 (ex_u (σ 13) l z)) (l := l) (z := z) (by omega) (by first | assumption | exact uN.oM | exact uN.oP | omega) (by first | assumption | exact uN.oM | exact uN.oP | omega) (by first | assumption | exact uN.oM | exact uN.oP | omega) (by first | assumption | exact uN.oM | exact uN.oP | omega) (by first | assumption | exact uN.oM | exact uN.oP | omega)
      simp only [breaksM, t3, if_pos g, if_pos g3] at r
      refine ck_act (σ1 := ex_ar (kC σ) 13 (ex_u (σ 13) l z)) hC ?_ (fun x hx => ex_ar_diff _ _ _ (by omega)) r rfl ?_ ?_
      · rcases hz with rfl | rfl
        all_goals
          rw [ex_cd_eq (by omega)]
          show ex_ev (d - 1) 88 0 [vR 4, vI l, vI _, vL 0, vL 0] [] _ = _
          (repeat' first | simp (disch := first | assumption | omega | ((repeat' first | exact ok_nil | apply ok_I | apply ok_R); done) | (simp (disch := first | omega | decide) only [ex_ar_same, ex_ar_diff, kM_diff, ex_u_same, ex_u_diff]; first | assumption | omega)) only [e, ev_88_0, ev_88_1, ev_88_2, ev_88_3, ev_88_4, ev_88_5, ev_88_6, gf_35_8, gf_4_0, gf_5_0, gf_6_8, ld_13, ld_42, sd_13, sd_42, x_fall, x_goto, x_push, x_ret1, xc_132, xc_133, xc_13_35, xc_13_6, xc_19, xl_a0, xl_a3, xl_i1, xl_i2, xl_i4, xt_a3, xt_i4, y_cmp_ne_f, y_cmp_ne_t, y_if_eq_f, y_if_eq_t, y_if_ne_f, y_if_ne_t, i_wr_id, kM_diff, Int.reduceToNat, ex_ar_same, ex_ar_ar, ex_ar_diff, ex_u_same, ex_u_diff, b2i_t, b2i_f, ex_div_nn, ex_rem_nn, Int.toNat_zero, Int.toNat_one, Int.reduceAdd, Int.reduceSub, Int.reduceMul, Int.reduceNeg, kC_ne, fC_ne] | refine bb_eq (fun _ => ?_) (fun _ => ?_) | refine bb_ne (fun _ => ?_) (fun _ => ?_) | refine bc_eq (fun _ => ?_) (fun _ => ?_) | refine bc_ne (fun _ => ?_) (fun _ => ?_) | refine bc_lt (fun _ => ?_) (fun _ => ?_) | refine bc_ge (fun _ => ?_) (fun _ => ?_) | refine bc_gt (fun _ => ?_) (fun _ => ?_) | refine bc_le (fun _ => ?_) (fun _ => ?_) | refine bi_eq (fun _ => ?_) (fun _ => ?_) | refine bi_ne (fun _ => ?_) (fun _ => ?_) | refine bi_lt (fun _ => ?_) (fun _ => ?_) | refine bi_ge (fun _ => ?_) (fun _ => ?_) | refine bi_gt (fun _ => ?_) (fun _ => ?_) | refine bi_le (fun _ => ?_) (fun _ => ?_))
          all_goals first | exact absurd (show (1 : Int) = 0 ∨ σ 433 (11 + l) = 1 ∨ (True ∧ σ 433 (11 + l) = 3) from g3.elim (fun z => Or.inr (Or.inl z)) (fun z => Or.inr (Or.inr ⟨trivial, z⟩))) (by assumption) | (try simp (disch := first | assumption | omega) only [if_pos, if_neg])
      · exact RD5_g (RD5_kC hC) hN (fun i hi => ex_u_diff _ _ (by omega)) (RG_mod (RD5_kC hC).g hN (fun i hi => ex_u_diff _ _ (by omega)) (fun a ha => ex_ar_diff _ _ _ (by omega)) (fun x x1 x2 => by rw [ex_ar_diff _ _ _ (by decide), kC5 hC _ (by omega) (by omega), ex_u_diff _ _ (by omega)]; exact hR.mi x x1 x2) (fun x x1 x2 => by rw [ex_ar_diff _ _ _ (by decide), kC5 hC _ (by omega) (by omega), ex_u_diff _ _ (by omega)]; exact hR.cy x x1 x2) (fun x x1 x2 => by
      rw [ex_ar_same]
      by_cases e : x = l
      · rw [e, ex_u_same, ex_u_same]
      · rw [ex_u_diff _ _ e, ex_u_diff _ _ (by omega)]; exact hR.bk x x1 x2) (fun x f x1 x2 f1 f2 => by rw [ex_ar_diff _ _ _ (by decide), kC5 hC _ (by omega) (by omega), ex_u_diff _ _ (by omega)]; exact hR.fa x f x1 x2 f1 f2)) (fun a ha => ex_ar_diff _ _ _ (by omega))
      · exact NI_breaks hN g.1 g.2 hz
    · have g4 : ¬ (1 = 0 ∨ σ 433 (11 + l) = 1 ∨ ((1 : Int) = 1 ∧ σ 433 (11 + l) = 3)) := by omega
      have t2 : (fC σ) 432 = σ 432 := fC_ne _ (by decide)
      have t3 : (fC σ) 433 = σ 433 := fC_ne _ (by decide)
      have t5 : (fC σ) 435 = σ 435 := fC_ne _ (by decide)
      have t6 : (fC σ) 436 = σ 436 := fC_ne _ (by decide)
      have t7 : (fC σ) 437 = σ 437 := fC_ne _ (by decide)
      have u1 : 0 ≤ (fC σ) 432 2 := by rw [t2]; exact k0
      have u2 : (fC σ) 432 2 ≤ 16 := by rw [t2]; exact k1
      have uN : NI ((fC σ) 433) := by rw [t3]; exact hN
      have uS : SI ((fC σ) 435) ((fC σ) 436) := by rw [t5, t6]; exact hC.si
      have := uN.a0; have := uN.b0; have := uN.a1; have := uN.b1; have := uN.a2; have := uN.b2; have := uN.a3; have := uN.b3; have := uN.a4; have := uN.b4; have := uN.a5; have := uN.b5; have := uN.a7; have := uN.b7; have := uN.a8; have := uN.b8; have := uN.a9; have := uN.b9; have := uN.a10; have := uN.b10
      have r := sp_155 (L := L) (d := d) (σ := fC σ) (l := l) (z := z) (by omega) (by first | assumption | exact uN.oM | exact uN.oP | omega) (by first | assumption | exact uN.oM | exact uN.oP | omega) (by first | assumption | exact uN.oM | exact uN.oP | omega) (by first | assumption | exact uN.oM | exact uN.oP | omega) (by first | assumption | exact uN.oM | exact uN.oP | omega)
      simp only [breaksM, t3, if_pos g, if_neg g3] at r
      refine ck_fnd hC ?_ r
      (rw [ex_cd_eq (by omega)]; show ex_ev (d - 1) 88 0 [vR 4, vI l, vI z, vL 0, vL 0] [] _ = _; (repeat' first | simp (disch := first | assumption | omega | ((repeat' first | exact ok_nil | apply ok_I | apply ok_R); done) | (simp (disch := first | omega | decide) only [ex_ar_same, ex_ar_diff, kM_diff, ex_u_same, ex_u_diff]; first | assumption | omega)) only [ev_88_0, ev_88_1, ev_88_2, ev_88_3, ev_88_4, ev_88_5, ev_88_6, gf_35_8, gf_4_0, gf_5_0, gf_6_8, ld_13, ld_42, sd_13, sd_42, x_fall, x_goto, x_push, x_ret1, xc_132, xc_133, xc_13_35, xc_13_6, xc_19, xl_a0, xl_a3, xl_i1, xl_i2, xl_i4, xt_a3, xt_i4, y_cmp_ne_f, y_cmp_ne_t, y_if_eq_f, y_if_eq_t, y_if_ne_f, y_if_ne_t, i_wr_id, kM_diff, Int.reduceToNat, ex_ar_same, ex_ar_ar, ex_ar_diff, ex_u_same, ex_u_diff, b2i_t, b2i_f, ex_div_nn, ex_rem_nn, Int.toNat_zero, Int.toNat_one, Int.reduceAdd, Int.reduceSub, Int.reduceMul, Int.reduceNeg, kC_ne, fC_ne] | refine bb_eq (fun _ => ?_) (fun _ => ?_) | refine bb_ne (fun _ => ?_) (fun _ => ?_) | refine bc_eq (fun _ => ?_) (fun _ => ?_) | refine bc_ne (fun _ => ?_) (fun _ => ?_) | refine bc_lt (fun _ => ?_) (fun _ => ?_) | refine bc_ge (fun _ => ?_) (fun _ => ?_) | refine bc_gt (fun _ => ?_) (fun _ => ?_) | refine bc_le (fun _ => ?_) (fun _ => ?_) | refine bi_eq (fun _ => ?_) (fun _ => ?_) | refine bi_ne (fun _ => ?_) (fun _ => ?_) | refine bi_lt (fun _ => ?_) (fun _ => ?_) | refine bi_ge (fun _ => ?_) (fun _ => ?_) | refine bi_gt (fun _ => ?_) (fun _ => ?_) | refine bi_le (fun _ => ?_) (fun _ => ?_)))
  · have t2 : (fC σ) 432 = σ 432 := fC_ne _ (by decide)
    have t3 : (fC σ) 433 = σ 433 := fC_ne _ (by decide)
    have t5 : (fC σ) 435 = σ 435 := fC_ne _ (by decide)
    have t6 : (fC σ) 436 = σ 436 := fC_ne _ (by decide)
    have t7 : (fC σ) 437 = σ 437 := fC_ne _ (by decide)
    have u1 : 0 ≤ (fC σ) 432 2 := by rw [t2]; exact k0
    have u2 : (fC σ) 432 2 ≤ 16 := by rw [t2]; exact k1
    have uN : NI ((fC σ) 433) := by rw [t3]; exact hN
    have uS : SI ((fC σ) 435) ((fC σ) 436) := by rw [t5, t6]; exact hC.si
    have := uN.a0; have := uN.b0; have := uN.a1; have := uN.b1; have := uN.a2; have := uN.b2; have := uN.a3; have := uN.b3; have := uN.a4; have := uN.b4; have := uN.a5; have := uN.b5; have := uN.a7; have := uN.b7; have := uN.a8; have := uN.b8; have := uN.a9; have := uN.b9; have := uN.a10; have := uN.b10
    have r := sp_155 (L := L) (d := d) (σ := fC σ) (l := l) (z := z) (by omega) (by first | assumption | exact uN.oM | exact uN.oP | omega) (by first | assumption | exact uN.oM | exact uN.oP | omega) (by first | assumption | exact uN.oM | exact uN.oP | omega) (by first | assumption | exact uN.oM | exact uN.oP | omega) (by first | assumption | exact uN.oM | exact uN.oP | omega)
    simp only [breaksM, t3, if_neg g] at r
    refine ck_fnd hC ?_ r
    (rw [ex_cd_eq (by omega)]; show ex_ev (d - 1) 88 0 [vR 4, vI l, vI z, vL 0, vL 0] [] _ = _; (repeat' first | simp (disch := first | assumption | omega | ((repeat' first | exact ok_nil | apply ok_I | apply ok_R); done) | (simp (disch := first | omega | decide) only [ex_ar_same, ex_ar_diff, kM_diff, ex_u_same, ex_u_diff]; first | assumption | omega)) only [ev_88_0, ev_88_1, ev_88_2, ev_88_3, ev_88_4, ev_88_5, ev_88_6, gf_35_8, gf_4_0, gf_5_0, gf_6_8, ld_13, ld_42, sd_13, sd_42, x_fall, x_goto, x_push, x_ret1, xc_132, xc_133, xc_13_35, xc_13_6, xc_19, xl_a0, xl_a3, xl_i1, xl_i2, xl_i4, xt_a3, xt_i4, y_cmp_ne_f, y_cmp_ne_t, y_if_eq_f, y_if_eq_t, y_if_ne_f, y_if_ne_t, i_wr_id, kM_diff, Int.reduceToNat, ex_ar_same, ex_ar_ar, ex_ar_diff, ex_u_same, ex_u_diff, b2i_t, b2i_f, ex_div_nn, ex_rem_nn, Int.toNat_zero, Int.toNat_one, Int.reduceAdd, Int.reduceSub, Int.reduceMul, Int.reduceNeg, kC_ne, fC_ne] | refine bb_eq (fun _ => ?_) (fun _ => ?_) | refine bb_ne (fun _ => ?_) (fun _ => ?_) | refine bc_eq (fun _ => ?_) (fun _ => ?_) | refine bc_ne (fun _ => ?_) (fun _ => ?_) | refine bc_lt (fun _ => ?_) (fun _ => ?_) | refine bc_ge (fun _ => ?_) (fun _ => ?_) | refine bc_gt (fun _ => ?_) (fun _ => ?_) | refine bc_le (fun _ => ?_) (fun _ => ?_) | refine bi_eq (fun _ => ?_) (fun _ => ?_) | refine bi_ne (fun _ => ?_) (fun _ => ?_) | refine bi_lt (fun _ => ?_) (fun _ => ?_) | refine bi_ge (fun _ => ?_) (fun _ => ?_) | refine bi_gt (fun _ => ?_) (fun _ => ?_) | refine bi_le (fun _ => ?_) (fun _ => ?_)))
theorem ck_121 {L d : Nat} {σ : ex_S} {l v : Int} (hC : CI σ) (hd : 20 < d) : CK 121 220 [vI l, vI v] σ L d := by
  (have p0 := hC.pr.p0; have p1 := hC.pr.p1; have k0 := hC.pr.k0; have k1 := hC.pr.k1; have kq := hC.pr.q; have q0 : 0 ≤ σ 4 10 := (by omega); have q1 : σ 4 10 ≤ 16 := (by omega); have hN := hC.ni; have hR := hC.rd.g; have hD := hC.rd; have hT := hC.st)
  have b0 := hN.b0
  have b1 := hN.b1
  by_cases g : (0 ≤ l ∧ l < σ 433 0) ∧ 0 ≤ v ∧ v ≤ 200
  · obtain ⟨g1, g2⟩ := id g
    have e := hR.mi l g1.1 g1.2
    have q : ∀ x, 28 ≤ x → x < 64 ∨ 432 ≤ x → (ex_ar (kC σ) 11 (ex_u (σ 11) l v)) x = σ x := fun x h1 h2 => by rw [ex_ar_diff _ _ _ (by omega), kC5 hC _ (by omega) h2]
    have t2 : (ex_ar (kC σ) 11 (ex_u (σ 11) l v)) 432 = σ 432 := q _ (by omega) (by omega)
    have t3 : (ex_ar (kC σ) 11 (ex_u (σ 11) l v)) 433 = σ 433 := q _ (by omega) (by omega)
    have t5 : (ex_ar (kC σ) 11 (ex_u (σ 11) l v)) 435 = σ 435 := q _ (by omega) (by omega)
    have t6 : (ex_ar (kC σ) 11 (ex_u (σ 11) l v)) 436 = σ 436 := q _ (by omega) (by omega)
    have t7 : (ex_ar (kC σ) 11 (ex_u (σ 11) l v)) 437 = σ 437 := q _ (by omega) (by omega)
    have u1 : 0 ≤ (ex_ar (kC σ) 11 (ex_u (σ 11) l v)) 432 2 := by rw [t2]; exact k0
    have u2 : (ex_ar (kC σ) 11 (ex_u (σ 11) l v)) 432 2 ≤ 16 := by rw [t2]; exact k1
    have uN : NI ((ex_ar (kC σ) 11 (ex_u (σ 11) l v)) 433) := by rw [t3]; exact hN
    have uS : SI ((ex_ar (kC σ) 11 (ex_u (σ 11) l v)) 435) ((ex_ar (kC σ) 11 (ex_u (σ 11) l v)) 436) := by rw [t5, t6]; exact hC.si
    have := uN.a0; have := uN.b0; have := uN.a1; have := uN.b1; have := uN.a2; have := uN.b2; have := uN.a3; have := uN.b3; have := uN.a4; have := uN.b4; have := uN.a5; have := uN.b5; have := uN.a7; have := uN.b7; have := uN.a8; have := uN.b8; have := uN.a9; have := uN.b9; have := uN.a10; have := uN.b10
    have r := sp_220 (L := L) (d := d) (σ := ex_ar (kC σ) 11 (ex_u (σ 11) l v)) (l := l) (v := v) (by omega) (by first | assumption | exact uN.oM | exact uN.oP | omega) (by first | assumption | exact uN.oM | exact uN.oP | omega) (by first | assumption | exact uN.oM | exact uN.oP | omega)
    simp only [floodM, t3, if_pos g] at r
    refine ck_act (σ1 := ex_ar (kC σ) 11 (ex_u (σ 11) l v)) hC ?_ (fun x hx => ex_ar_diff _ _ _ (by omega)) r rfl ?_ ?_
    · (rw [ex_cd_eq (by omega)]; show ex_ev (d - 1) 121 0 [vR 4, vI l, vI v, vL 0] [] _ = _; (repeat' first | simp (disch := first | assumption | omega | ((repeat' first | exact ok_nil | apply ok_I | apply ok_R); done) | (simp (disch := first | omega | decide) only [ex_ar_same, ex_ar_diff, kM_diff, ex_u_same, ex_u_diff]; first | assumption | omega)) only [e, ev_121_0, ev_121_1, ev_121_2, gf_35_6, gf_4_0, gf_5_0, gf_6_6, ld_11, ld_40, sd_11, sd_40, x_fall, x_push, x_ret1, xc_132, xc_133, xc_137, xc_13_35, xc_13_6, xl_a0, xl_i1, xl_i2, xl_i3, xt_i3, y_if_eq_f, y_if_eq_t, y_if_ne_f, y_if_ne_t, i_wr_id, kM_diff, Int.reduceToNat, ex_ar_same, ex_ar_ar, ex_ar_diff, ex_u_same, ex_u_diff, b2i_t, b2i_f, ex_div_nn, ex_rem_nn, Int.toNat_zero, Int.toNat_one, Int.reduceAdd, Int.reduceSub, Int.reduceMul, Int.reduceNeg, kC_ne, fC_ne] | refine bb_eq (fun _ => ?_) (fun _ => ?_) | refine bb_ne (fun _ => ?_) (fun _ => ?_) | refine bc_eq (fun _ => ?_) (fun _ => ?_) | refine bc_ne (fun _ => ?_) (fun _ => ?_) | refine bc_lt (fun _ => ?_) (fun _ => ?_) | refine bc_ge (fun _ => ?_) (fun _ => ?_) | refine bc_gt (fun _ => ?_) (fun _ => ?_) | refine bc_le (fun _ => ?_) (fun _ => ?_) | refine bi_eq (fun _ => ?_) (fun _ => ?_) | refine bi_ne (fun _ => ?_) (fun _ => ?_) | refine bi_lt (fun _ => ?_) (fun _ => ?_) | refine bi_ge (fun _ => ?_) (fun _ => ?_) | refine bi_gt (fun _ => ?_) (fun _ => ?_) | refine bi_le (fun _ => ?_) (fun _ => ?_)))
    · exact RD5_g (RD5_kC hC) hN (fun i hi => ex_u_diff _ _ (by omega)) (RG_mod (RD5_kC hC).g hN (fun i hi => ex_u_diff _ _ (by omega)) (fun a ha => ex_ar_diff _ _ _ (by omega)) (fun x x1 x2 => by
      rw [ex_ar_same]
      by_cases e : x = l
      · rw [e, ex_u_same, ex_u_same]
      · rw [ex_u_diff _ _ e, ex_u_diff _ _ (by omega)]; exact hR.mi x x1 x2) (fun x x1 x2 => by rw [ex_ar_diff _ _ _ (by decide), kC5 hC _ (by omega) (by omega), ex_u_diff _ _ (by omega)]; exact hR.cy x x1 x2) (fun x x1 x2 => by rw [ex_ar_diff _ _ _ (by decide), kC5 hC _ (by omega) (by omega), ex_u_diff _ _ (by omega)]; exact hR.bk x x1 x2) (fun x f x1 x2 f1 f2 => by rw [ex_ar_diff _ _ _ (by decide), kC5 hC _ (by omega) (by omega), ex_u_diff _ _ (by omega)]; exact hR.fa x f x1 x2 f1 f2)) (fun a ha => ex_ar_diff _ _ _ (by omega))
    · exact NI_flood hN g1.1 g1.2 g2
  · have t2 : (fC σ) 432 = σ 432 := fC_ne _ (by decide)
    have t3 : (fC σ) 433 = σ 433 := fC_ne _ (by decide)
    have t5 : (fC σ) 435 = σ 435 := fC_ne _ (by decide)
    have t6 : (fC σ) 436 = σ 436 := fC_ne _ (by decide)
    have t7 : (fC σ) 437 = σ 437 := fC_ne _ (by decide)
    have u1 : 0 ≤ (fC σ) 432 2 := by rw [t2]; exact k0
    have u2 : (fC σ) 432 2 ≤ 16 := by rw [t2]; exact k1
    have uN : NI ((fC σ) 433) := by rw [t3]; exact hN
    have uS : SI ((fC σ) 435) ((fC σ) 436) := by rw [t5, t6]; exact hC.si
    have := uN.a0; have := uN.b0; have := uN.a1; have := uN.b1; have := uN.a2; have := uN.b2; have := uN.a3; have := uN.b3; have := uN.a4; have := uN.b4; have := uN.a5; have := uN.b5; have := uN.a7; have := uN.b7; have := uN.a8; have := uN.b8; have := uN.a9; have := uN.b9; have := uN.a10; have := uN.b10
    have r := sp_220 (L := L) (d := d) (σ := fC σ) (l := l) (v := v) (by omega) (by first | assumption | exact uN.oM | exact uN.oP | omega) (by first | assumption | exact uN.oM | exact uN.oP | omega) (by first | assumption | exact uN.oM | exact uN.oP | omega)
    simp only [floodM, t3, if_neg g] at r
    refine ck_fnd hC ?_ r
    (rw [ex_cd_eq (by omega)]; show ex_ev (d - 1) 121 0 [vR 4, vI l, vI v, vL 0] [] _ = _; (repeat' first | simp (disch := first | assumption | omega | ((repeat' first | exact ok_nil | apply ok_I | apply ok_R); done) | (simp (disch := first | omega | decide) only [ex_ar_same, ex_ar_diff, kM_diff, ex_u_same, ex_u_diff]; first | assumption | omega)) only [ev_121_0, ev_121_1, ev_121_2, gf_35_6, gf_4_0, gf_5_0, gf_6_6, ld_11, ld_40, sd_11, sd_40, x_fall, x_push, x_ret1, xc_132, xc_133, xc_137, xc_13_35, xc_13_6, xl_a0, xl_i1, xl_i2, xl_i3, xt_i3, y_if_eq_f, y_if_eq_t, y_if_ne_f, y_if_ne_t, i_wr_id, kM_diff, Int.reduceToNat, ex_ar_same, ex_ar_ar, ex_ar_diff, ex_u_same, ex_u_diff, b2i_t, b2i_f, ex_div_nn, ex_rem_nn, Int.toNat_zero, Int.toNat_one, Int.reduceAdd, Int.reduceSub, Int.reduceMul, Int.reduceNeg, kC_ne, fC_ne] | refine bb_eq (fun _ => ?_) (fun _ => ?_) | refine bb_ne (fun _ => ?_) (fun _ => ?_) | refine bc_eq (fun _ => ?_) (fun _ => ?_) | refine bc_ne (fun _ => ?_) (fun _ => ?_) | refine bc_lt (fun _ => ?_) (fun _ => ?_) | refine bc_ge (fun _ => ?_) (fun _ => ?_) | refine bc_gt (fun _ => ?_) (fun _ => ?_) | refine bc_le (fun _ => ?_) (fun _ => ?_) | refine bi_eq (fun _ => ?_) (fun _ => ?_) | refine bi_ne (fun _ => ?_) (fun _ => ?_) | refine bi_lt (fun _ => ?_) (fun _ => ?_) | refine bi_ge (fun _ => ?_) (fun _ => ?_) | refine bi_gt (fun _ => ?_) (fun _ => ?_) | refine bi_le (fun _ => ?_) (fun _ => ?_)))
    all_goals exact absurd ⟨by assumption, by assumption⟩ g
theorem sp_18 {d : Nat} (hd : 0 < d) {L : Nat} {σ : ex_S} {c f v : Int} (c0 : 0 ≤ c) (c1 : c < 8) (f0 : 0 ≤ f) (f1 : f < 6) : ex_cd d 18 [vR 6, vI c, vI f, vI v] (SH L, σ) = some ([vI (σ 16 (c * 6 + f))], (SH L, ex_ar σ 16 (ex_u (σ 16) (c * 6 + f) v))) := by
  rw [ex_cd_eq (by omega)]
  show ex_ev (d - 1) 18 0 [vR 6, vI c, vI f, vI v, vL 0] [] (SH L, σ) = _
  simp (disch := first | assumption | omega | ((repeat' first | exact ok_nil | apply ok_I | apply ok_R); done) | (simp (disch := first | omega | decide) only [ex_ar_same, ex_ar_diff, kM_diff, ex_u_same, ex_u_diff]; first | assumption | omega)) only [ev_18_0, gf_35_11, gf_6_11, ld_16, ld_45, sd_16, sd_45, x_imul, x_push, x_ret1, xl_a0, xl_i1, xl_i2, xl_i3, xl_i4, xt_i4, y_iadd, i_wr_id, kM_diff, Int.reduceToNat, ex_ar_same, ex_ar_ar, ex_ar_diff, ex_u_same, ex_u_diff, b2i_t, b2i_f, ex_div_nn, ex_rem_nn, Int.toNat_zero, Int.toNat_one, Int.reduceAdd, Int.reduceSub, Int.reduceMul, Int.reduceNeg, kC_ne, fC_ne]
theorem xc_18 {rt d : Nat} {J : Nat → List ex_V → List ex_V → ex_H → Option ex_R} {is : List Instr} {ls st : List ex_V} {L : Nat} {σ : ex_S} {c f v : Int} (c0 : 0 ≤ c) (c1 : c < 8) (f0 : 0 ≤ f) (f1 : f < 6) (hd : 0 < d) (hok : okN 8 st = true) : ex_xs rt J (ex_cd d) (.invokevirtual 18 :: is) ls (vI v :: vI f :: vI c :: vR 6 :: st) (SH L, σ) = ex_xs rt J (ex_cd d) is ls (vI (σ 16 (c * 6 + f)) :: st) (SH L, ex_ar σ 16 (ex_u (σ 16) (c * 6 + f) v)) := x_call1 (Or.inl rfl) rfl (sh_6 _) (Or.inl ⟨rfl, rfl⟩) (as := [vI c, vI f, vI v]) rfl rfl (okN_ok hok) rfl (sp_18 hd c0 c1 f0 f1)
theorem ck_91 {L d : Nat} {σ : ex_S} {c v z : Int} (hC : CI σ) (hd : 20 < d) : CK 91 160 [vI c, vI v, vI z] σ L d := by
  (have p0 := hC.pr.p0; have p1 := hC.pr.p1; have k0 := hC.pr.k0; have k1 := hC.pr.k1; have kq := hC.pr.q; have q0 : 0 ≤ σ 4 10 := (by omega); have q1 : σ 4 10 ≤ 16 := (by omega); have hN := hC.ni; have hR := hC.rd.g; have hD := hC.rd; have hT := hC.st)
  have b0 := hN.b0
  have b1 := hN.b1
  by_cases g : (0 ≤ c ∧ c < σ 433 1) ∧ (0 ≤ v ∧ v ≤ 2) ∧ (0 ≤ z ∧ z ≤ (if v = 0 then 23 else if v = 1 then 9 else 99))
  · obtain ⟨g1, g2, g3⟩ := id g
    have e := hR.fa c (3 + v) g1.1 g1.2 (by omega) (by omega)
    have e2 : 91 + 8 * (3 + v) + c = 115 + 8 * v + c := by omega
    rw [e2] at e
    have q : ∀ x, 28 ≤ x → x < 64 ∨ 432 ≤ x → (ex_ar (kC σ) 16 (ex_u (σ 16) (c * 6 + (3 + v)) z)) x = σ x := fun x h1 h2 => by rw [ex_ar_diff _ _ _ (by omega), kC5 hC _ (by omega) h2]
    have t2 : (ex_ar (kC σ) 16 (ex_u (σ 16) (c * 6 + (3 + v)) z)) 432 = σ 432 := q _ (by omega) (by omega)
    have t3 : (ex_ar (kC σ) 16 (ex_u (σ 16) (c * 6 + (3 + v)) z)) 433 = σ 433 := q _ (by omega) (by omega)
    have t5 : (ex_ar (kC σ) 16 (ex_u (σ 16) (c * 6 + (3 + v)) z)) 435 = σ 435 := q _ (by omega) (by omega)
    have t6 : (ex_ar (kC σ) 16 (ex_u (σ 16) (c * 6 + (3 + v)) z)) 436 = σ 436 := q _ (by omega) (by omega)
    have t7 : (ex_ar (kC σ) 16 (ex_u (σ 16) (c * 6 + (3 + v)) z)) 437 = σ 437 := q _ (by omega) (by omega)
    have u1 : 0 ≤ (ex_ar (kC σ) 16 (ex_u (σ 16) (c * 6 + (3 + v)) z)) 432 2 := by rw [t2]; exact k0
    have u2 : (ex_ar (kC σ) 16 (ex_u (σ 16) (c * 6 + (3 + v)) z)) 432 2 ≤ 16 := by rw [t2]; exact k1
    have uN : NI ((ex_ar (kC σ) 16 (ex_u (σ 16) (c * 6 + (3 + v)) z)) 433) := by rw [t3]; exact hN
    have uS : SI ((ex_ar (kC σ) 16 (ex_u (σ 16) (c * 6 + (3 + v)) z)) 435) ((ex_ar (kC σ) 16 (ex_u (σ 16) (c * 6 + (3 + v)) z)) 436) := by rw [t5, t6]; exact hC.si
    have := uN.a0; have := uN.b0; have := uN.a1; have := uN.b1; have := uN.a2; have := uN.b2; have := uN.a3; have := uN.b3; have := uN.a4; have := uN.b4; have := uN.a5; have := uN.b5; have := uN.a7; have := uN.b7; have := uN.a8; have := uN.b8; have := uN.a9; have := uN.b9; have := uN.a10; have := uN.b10
    have r := sp_160 (L := L) (d := d) (σ := ex_ar (kC σ) 16 (ex_u (σ 16) (c * 6 + (3 + v)) z)) (c := c) (w := v) (v := z) (by omega) (by first | assumption | exact uN.oM | exact uN.oP | omega) (by first | assumption | exact uN.oM | exact uN.oP | omega) (by first | assumption | exact uN.oM | exact uN.oP | omega) (by first | assumption | exact uN.oM | exact uN.oP | omega)
    simp only [tellM, t3, if_pos g] at r
    refine ck_act (σ1 := ex_ar (kC σ) 16 (ex_u (σ 16) (c * 6 + (3 + v)) z)) hC ?_ (fun x hx => ex_ar_diff _ _ _ (by omega)) r rfl ?_ ?_
    · rcases (show v = 0 ∨ v = 1 ∨ v = 2 by omega) with rfl | rfl | rfl
      all_goals
        simp only [Int.reduceEq, reduceIte, Int.reduceAdd, Int.reduceMul] at g3 e ⊢
        rw [ex_cd_eq (by omega)]
        show ex_ev (d - 1) 91 0 [vR 4, vI c, vI _, vI z] [] _ = _
        (repeat' first | simp (disch := first | assumption | omega | ((repeat' first | exact ok_nil | apply ok_I | apply ok_R); done) | (simp (disch := first | omega | decide) only [ex_ar_same, ex_ar_diff, kM_diff, ex_u_same, ex_u_diff]; first | assumption | omega)) only [e, ev_91_0, ev_91_1, ev_91_2, gf_4_0, gf_5_0, x_fall, x_push, x_ret1, xc_12_0, xc_12_1, xc_12_2, xc_12_3, xc_12_4, xc_12_5, xc_132, xc_133, xc_137, xc_14_35, xc_14_6, xc_18, xl_a0, xl_i1, xl_i2, xl_i3, y_iadd, y_if_eq_f, y_if_eq_t, y_if_ne_f, y_if_ne_t, i_wr_id, kM_diff, Int.reduceToNat, ex_ar_same, ex_ar_ar, ex_ar_diff, ex_u_same, ex_u_diff, b2i_t, b2i_f, ex_div_nn, ex_rem_nn, Int.toNat_zero, Int.toNat_one, Int.reduceAdd, Int.reduceSub, Int.reduceMul, Int.reduceNeg, kC_ne, fC_ne] | refine bb_eq (fun _ => ?_) (fun _ => ?_) | refine bb_ne (fun _ => ?_) (fun _ => ?_) | refine bc_eq (fun _ => ?_) (fun _ => ?_) | refine bc_ne (fun _ => ?_) (fun _ => ?_) | refine bc_lt (fun _ => ?_) (fun _ => ?_) | refine bc_ge (fun _ => ?_) (fun _ => ?_) | refine bc_gt (fun _ => ?_) (fun _ => ?_) | refine bc_le (fun _ => ?_) (fun _ => ?_) | refine bi_eq (fun _ => ?_) (fun _ => ?_) | refine bi_ne (fun _ => ?_) (fun _ => ?_) | refine bi_lt (fun _ => ?_) (fun _ => ?_) | refine bi_ge (fun _ => ?_) (fun _ => ?_) | refine bi_gt (fun _ => ?_) (fun _ => ?_) | refine bi_le (fun _ => ?_) (fun _ => ?_))
    · exact RD5_g (RD5_kC hC) hN (fun i hi => ex_u_diff _ _ (by omega)) (RG_mod (RD5_kC hC).g hN (fun i hi => ex_u_diff _ _ (by omega)) (fun a ha => ex_ar_diff _ _ _ (by omega)) (fun x x1 x2 => by rw [ex_ar_diff _ _ _ (by decide), kC5 hC _ (by omega) (by omega), ex_u_diff _ _ (by omega)]; exact hR.mi x x1 x2) (fun x x1 x2 => by rw [ex_ar_diff _ _ _ (by decide), kC5 hC _ (by omega) (by omega), ex_u_diff _ _ (by omega)]; exact hR.cy x x1 x2) (fun x x1 x2 => by rw [ex_ar_diff _ _ _ (by decide), kC5 hC _ (by omega) (by omega), ex_u_diff _ _ (by omega)]; exact hR.bk x x1 x2) (fun x f x1 x2 f1 f2 => by
      rw [ex_ar_same]
      by_cases y : x = c ∧ f = 3 + v
      · rw [y.1, y.2, ex_u_same, show 91 + 8 * (3 + v) + c = 115 + 8 * v + c by omega, ex_u_same]
      · rw [ex_u_diff _ _ (by omega), ex_u_diff _ _ (by omega)]; exact hR.fa x f x1 x2 f1 f2)) (fun a ha => ex_ar_diff _ _ _ (by omega))
    · exact NI_tell hN g1.1 (by omega) g2.1 g2.2 g3
  · have t2 : (fC σ) 432 = σ 432 := fC_ne _ (by decide)
    have t3 : (fC σ) 433 = σ 433 := fC_ne _ (by decide)
    have t5 : (fC σ) 435 = σ 435 := fC_ne _ (by decide)
    have t6 : (fC σ) 436 = σ 436 := fC_ne _ (by decide)
    have t7 : (fC σ) 437 = σ 437 := fC_ne _ (by decide)
    have u1 : 0 ≤ (fC σ) 432 2 := by rw [t2]; exact k0
    have u2 : (fC σ) 432 2 ≤ 16 := by rw [t2]; exact k1
    have uN : NI ((fC σ) 433) := by rw [t3]; exact hN
    have uS : SI ((fC σ) 435) ((fC σ) 436) := by rw [t5, t6]; exact hC.si
    have := uN.a0; have := uN.b0; have := uN.a1; have := uN.b1; have := uN.a2; have := uN.b2; have := uN.a3; have := uN.b3; have := uN.a4; have := uN.b4; have := uN.a5; have := uN.b5; have := uN.a7; have := uN.b7; have := uN.a8; have := uN.b8; have := uN.a9; have := uN.b9; have := uN.a10; have := uN.b10
    have r := sp_160 (L := L) (d := d) (σ := fC σ) (c := c) (w := v) (v := z) (by omega) (by first | assumption | exact uN.oM | exact uN.oP | omega) (by first | assumption | exact uN.oM | exact uN.oP | omega) (by first | assumption | exact uN.oM | exact uN.oP | omega) (by first | assumption | exact uN.oM | exact uN.oP | omega)
    simp only [tellM, t3, if_neg g] at r
    refine ck_fnd hC ?_ r
    by_cases g2 : 0 ≤ v ∧ v ≤ 2
    · rcases (show v = 0 ∨ v = 1 ∨ v = 2 by omega) with rfl | rfl | rfl
      all_goals
        simp only [Int.reduceEq, reduceIte] at g
        rw [ex_cd_eq (by omega)]
        show ex_ev (d - 1) 91 0 [vR 4, vI c, vI _, vI z] [] _ = _
        (repeat' first | simp (disch := first | assumption | omega | ((repeat' first | exact ok_nil | apply ok_I | apply ok_R); done) | (simp (disch := first | omega | decide) only [ex_ar_same, ex_ar_diff, kM_diff, ex_u_same, ex_u_diff]; first | assumption | omega)) only [ev_91_0, ev_91_1, ev_91_2, gf_4_0, gf_5_0, x_fall, x_push, x_ret1, xc_12_0, xc_12_1, xc_12_2, xc_12_3, xc_12_4, xc_12_5, xc_132, xc_133, xc_137, xc_14_35, xc_14_6, xc_18, xl_a0, xl_i1, xl_i2, xl_i3, y_iadd, y_if_eq_f, y_if_eq_t, y_if_ne_f, y_if_ne_t, i_wr_id, kM_diff, Int.reduceToNat, ex_ar_same, ex_ar_ar, ex_ar_diff, ex_u_same, ex_u_diff, b2i_t, b2i_f, ex_div_nn, ex_rem_nn, Int.toNat_zero, Int.toNat_one, Int.reduceAdd, Int.reduceSub, Int.reduceMul, Int.reduceNeg, kC_ne, fC_ne] | refine bb_eq (fun _ => ?_) (fun _ => ?_) | refine bb_ne (fun _ => ?_) (fun _ => ?_) | refine bc_eq (fun _ => ?_) (fun _ => ?_) | refine bc_ne (fun _ => ?_) (fun _ => ?_) | refine bc_lt (fun _ => ?_) (fun _ => ?_) | refine bc_ge (fun _ => ?_) (fun _ => ?_) | refine bc_gt (fun _ => ?_) (fun _ => ?_) | refine bc_le (fun _ => ?_) (fun _ => ?_) | refine bi_eq (fun _ => ?_) (fun _ => ?_) | refine bi_ne (fun _ => ?_) (fun _ => ?_) | refine bi_lt (fun _ => ?_) (fun _ => ?_) | refine bi_ge (fun _ => ?_) (fun _ => ?_) | refine bi_gt (fun _ => ?_) (fun _ => ?_) | refine bi_le (fun _ => ?_) (fun _ => ?_))
        all_goals exact absurd ⟨by assumption, by assumption, by assumption⟩ g
    · (rw [ex_cd_eq (by omega)]; show ex_ev (d - 1) 91 0 [vR 4, vI c, vI v, vI z] [] _ = _; (repeat' first | simp (disch := first | assumption | omega | ((repeat' first | exact ok_nil | apply ok_I | apply ok_R); done) | (simp (disch := first | omega | decide) only [ex_ar_same, ex_ar_diff, kM_diff, ex_u_same, ex_u_diff]; first | assumption | omega)) only [ev_91_0, ev_91_1, ev_91_2, gf_4_0, gf_5_0, x_fall, x_push, x_ret1, xc_12_0, xc_12_1, xc_12_2, xc_12_3, xc_12_4, xc_12_5, xc_132, xc_133, xc_137, xc_14_35, xc_14_6, xc_18, xl_a0, xl_i1, xl_i2, xl_i3, y_iadd, y_if_eq_f, y_if_eq_t, y_if_ne_f, y_if_ne_t, i_wr_id, kM_diff, Int.reduceToNat, ex_ar_same, ex_ar_ar, ex_ar_diff, ex_u_same, ex_u_diff, b2i_t, b2i_f, ex_div_nn, ex_rem_nn, Int.toNat_zero, Int.toNat_one, Int.reduceAdd, Int.reduceSub, Int.reduceMul, Int.reduceNeg, kC_ne, fC_ne] | refine bb_eq (fun _ => ?_) (fun _ => ?_) | refine bb_ne (fun _ => ?_) (fun _ => ?_) | refine bc_eq (fun _ => ?_) (fun _ => ?_) | refine bc_ne (fun _ => ?_) (fun _ => ?_) | refine bc_lt (fun _ => ?_) (fun _ => ?_) | refine bc_ge (fun _ => ?_) (fun _ => ?_) | refine bc_gt (fun _ => ?_) (fun _ => ?_) | refine bc_le (fun _ => ?_) (fun _ => ?_) | refine bi_eq (fun _ => ?_) (fun _ => ?_) | refine bi_ne (fun _ => ?_) (fun _ => ?_) | refine bi_lt (fun _ => ?_) (fun _ => ?_) | refine bi_ge (fun _ => ?_) (fun _ => ?_) | refine bi_gt (fun _ => ?_) (fun _ => ?_) | refine bi_le (fun _ => ?_) (fun _ => ?_)))
theorem ck_92 {L d : Nat} {σ : ex_S} {l i : Int} (hC : CI σ) (hd : 20 < d) : CK 92 161 [vI l, vI i] σ L d := by
  (have p0 := hC.pr.p0; have p1 := hC.pr.p1; have k0 := hC.pr.k0; have k1 := hC.pr.k1; have kq := hC.pr.q; have q0 : 0 ≤ σ 4 10 := (by omega); have q1 : σ 4 10 ≤ 16 := (by omega); have hN := hC.ni; have hR := hC.rd.g; have hD := hC.rd; have hT := hC.st)
  have b0 := hN.b0
  by_cases g : 0 ≤ l ∧ l < σ 433 0
  · have e := hR.st l g.1 g.2
    by_cases g3 : 0 ≤ i ∧ i < σ 433 (46 + l)
    · have t2 : σ 432 = σ 432 := rfl
      have t3 : σ 433 = σ 433 := rfl
      have t5 : σ 435 = σ 435 := rfl
      have t6 : σ 436 = σ 436 := rfl
      have t7 : σ 437 = σ 437 := rfl
      have u1 : 0 ≤ σ 432 2 := by rw [t2]; exact k0
      have u2 : σ 432 2 ≤ 16 := by rw [t2]; exact k1
      have uN : NI (σ 433) := by rw [t3]; exact hN
      have uS : SI (σ 435) (σ 436) := by rw [t5, t6]; exact hC.si
      have := uN.a0; have := uN.b0; have := uN.a1; have := uN.b1; have := uN.a2; have := uN.b2; have := uN.a3; have := uN.b3; have := uN.a4; have := uN.b4; have := uN.a5; have := uN.b5; have := uN.a7; have := uN.b7; have := uN.a8; have := uN.b8; have := uN.a9; have := uN.b9; have := uN.a10; have := uN.b10
      have r := sp_161 (L := L) (d := d) (σ := σ) (l := l) (i := i) (by omega) (by first | assumption | exact uN.oM | exact uN.oP | omega) (by first | assumption | exact uN.oM | exact uN.oP | omega) (by first | assumption | exact uN.oM | exact uN.oP | omega)
      simp only [atM, if_pos g, if_pos g3] at r
      refine ck_get hC ?_ r
      (rw [ex_cd_eq (by omega)]; show ex_ev (d - 1) 92 0 [vR 4, vI l, vI i, vL 0] [] _ = _; (repeat' first | simp (disch := first | assumption | omega | ((repeat' first | exact ok_nil | apply ok_I | apply ok_R); done) | (simp (disch := first | omega | decide) only [ex_ar_same, ex_ar_diff, kM_diff, ex_u_same, ex_u_diff]; first | assumption | omega)) only [e, ev_92_0, ev_92_1, ev_92_2, ev_92_3, gf_35_9, gf_4_0, gf_5_0, gf_6_9, ld_14, ld_43, x_fall, x_push, x_ret1, xc_132, xc_13_35, xc_13_6, xc_23_35, xc_23_6, xl_a0, xl_a3, xl_i1, xl_i2, xt_a3, y_cmp_lt_f, y_cmp_lt_t, y_if_lt_f, y_if_lt_t, y_if_ne_f, y_if_ne_t, i_wr_id, kM_diff, Int.reduceToNat, ex_ar_same, ex_ar_ar, ex_ar_diff, ex_u_same, ex_u_diff, b2i_t, b2i_f, ex_div_nn, ex_rem_nn, Int.toNat_zero, Int.toNat_one, Int.reduceAdd, Int.reduceSub, Int.reduceMul, Int.reduceNeg, kC_ne, fC_ne] | refine bb_eq (fun _ => ?_) (fun _ => ?_) | refine bb_ne (fun _ => ?_) (fun _ => ?_) | refine bc_eq (fun _ => ?_) (fun _ => ?_) | refine bc_ne (fun _ => ?_) (fun _ => ?_) | refine bc_lt (fun _ => ?_) (fun _ => ?_) | refine bc_ge (fun _ => ?_) (fun _ => ?_) | refine bc_gt (fun _ => ?_) (fun _ => ?_) | refine bc_le (fun _ => ?_) (fun _ => ?_) | refine bi_eq (fun _ => ?_) (fun _ => ?_) | refine bi_ne (fun _ => ?_) (fun _ => ?_) | refine bi_lt (fun _ => ?_) (fun _ => ?_) | refine bi_ge (fun _ => ?_) (fun _ => ?_) | refine bi_gt (fun _ => ?_) (fun _ => ?_) | refine bi_le (fun _ => ?_) (fun _ => ?_)))
    · have t2 : (fC σ) 432 = σ 432 := fC_ne _ (by decide)
      have t3 : (fC σ) 433 = σ 433 := fC_ne _ (by decide)
      have t5 : (fC σ) 435 = σ 435 := fC_ne _ (by decide)
      have t6 : (fC σ) 436 = σ 436 := fC_ne _ (by decide)
      have t7 : (fC σ) 437 = σ 437 := fC_ne _ (by decide)
      have u1 : 0 ≤ (fC σ) 432 2 := by rw [t2]; exact k0
      have u2 : (fC σ) 432 2 ≤ 16 := by rw [t2]; exact k1
      have uN : NI ((fC σ) 433) := by rw [t3]; exact hN
      have uS : SI ((fC σ) 435) ((fC σ) 436) := by rw [t5, t6]; exact hC.si
      have := uN.a0; have := uN.b0; have := uN.a1; have := uN.b1; have := uN.a2; have := uN.b2; have := uN.a3; have := uN.b3; have := uN.a4; have := uN.b4; have := uN.a5; have := uN.b5; have := uN.a7; have := uN.b7; have := uN.a8; have := uN.b8; have := uN.a9; have := uN.b9; have := uN.a10; have := uN.b10
      have r := sp_161 (L := L) (d := d) (σ := fC σ) (l := l) (i := i) (by omega) (by first | assumption | exact uN.oM | exact uN.oP | omega) (by first | assumption | exact uN.oM | exact uN.oP | omega) (by first | assumption | exact uN.oM | exact uN.oP | omega)
      simp only [atM, t3, if_pos g, if_neg g3] at r
      refine ck_fnd hC ?_ r
      (rw [ex_cd_eq (by omega)]; show ex_ev (d - 1) 92 0 [vR 4, vI l, vI i, vL 0] [] _ = _; (repeat' first | simp (disch := first | assumption | omega | ((repeat' first | exact ok_nil | apply ok_I | apply ok_R); done) | (simp (disch := first | omega | decide) only [ex_ar_same, ex_ar_diff, kM_diff, ex_u_same, ex_u_diff]; first | assumption | omega)) only [e, ev_92_0, ev_92_1, ev_92_2, ev_92_3, gf_35_9, gf_4_0, gf_5_0, gf_6_9, ld_14, ld_43, x_fall, x_push, x_ret1, xc_132, xc_13_35, xc_13_6, xc_23_35, xc_23_6, xl_a0, xl_a3, xl_i1, xl_i2, xt_a3, y_cmp_lt_f, y_cmp_lt_t, y_if_lt_f, y_if_lt_t, y_if_ne_f, y_if_ne_t, i_wr_id, kM_diff, Int.reduceToNat, ex_ar_same, ex_ar_ar, ex_ar_diff, ex_u_same, ex_u_diff, b2i_t, b2i_f, ex_div_nn, ex_rem_nn, Int.toNat_zero, Int.toNat_one, Int.reduceAdd, Int.reduceSub, Int.reduceMul, Int.reduceNeg, kC_ne, fC_ne] | refine bb_eq (fun _ => ?_) (fun _ => ?_) | refine bb_ne (fun _ => ?_) (fun _ => ?_) | refine bc_eq (fun _ => ?_) (fun _ => ?_) | refine bc_ne (fun _ => ?_) (fun _ => ?_) | refine bc_lt (fun _ => ?_) (fun _ => ?_) | refine bc_ge (fun _ => ?_) (fun _ => ?_) | refine bc_gt (fun _ => ?_) (fun _ => ?_) | refine bc_le (fun _ => ?_) (fun _ => ?_) | refine bi_eq (fun _ => ?_) (fun _ => ?_) | refine bi_ne (fun _ => ?_) (fun _ => ?_) | refine bi_lt (fun _ => ?_) (fun _ => ?_) | refine bi_ge (fun _ => ?_) (fun _ => ?_) | refine bi_gt (fun _ => ?_) (fun _ => ?_) | refine bi_le (fun _ => ?_) (fun _ => ?_)))
  · have t2 : (fC σ) 432 = σ 432 := fC_ne _ (by decide)
    have t3 : (fC σ) 433 = σ 433 := fC_ne _ (by decide)
    have t5 : (fC σ) 435 = σ 435 := fC_ne _ (by decide)
    have t6 : (fC σ) 436 = σ 436 := fC_ne _ (by decide)
    have t7 : (fC σ) 437 = σ 437 := fC_ne _ (by decide)
    have u1 : 0 ≤ (fC σ) 432 2 := by rw [t2]; exact k0
    have u2 : (fC σ) 432 2 ≤ 16 := by rw [t2]; exact k1
    have uN : NI ((fC σ) 433) := by rw [t3]; exact hN
    have uS : SI ((fC σ) 435) ((fC σ) 436) := by rw [t5, t6]; exact hC.si
    have := uN.a0; have := uN.b0; have := uN.a1; have := uN.b1; have := uN.a2; have := uN.b2; have := uN.a3; have := uN.b3; have := uN.a4; have := uN.b4; have := uN.a5; have := uN.b5; have := uN.a7; have := uN.b7; have := uN.a8; have := uN.b8; have := uN.a9; have := uN.b9; have := uN.a10; have := uN.b10
    have r := sp_161 (L := L) (d := d) (σ := fC σ) (l := l) (i := i) (by omega) (by first | assumption | exact uN.oM | exact uN.oP | omega) (by first | assumption | exact uN.oM | exact uN.oP | omega) (by first | assumption | exact uN.oM | exact uN.oP | omega)
    simp only [atM, t3, if_neg g] at r
    refine ck_fnd hC ?_ r
    (rw [ex_cd_eq (by omega)]; show ex_ev (d - 1) 92 0 [vR 4, vI l, vI i, vL 0] [] _ = _; (repeat' first | simp (disch := first | assumption | omega | ((repeat' first | exact ok_nil | apply ok_I | apply ok_R); done) | (simp (disch := first | omega | decide) only [ex_ar_same, ex_ar_diff, kM_diff, ex_u_same, ex_u_diff]; first | assumption | omega)) only [ev_92_0, ev_92_1, ev_92_2, ev_92_3, gf_35_9, gf_4_0, gf_5_0, gf_6_9, ld_14, ld_43, x_fall, x_push, x_ret1, xc_132, xc_13_35, xc_13_6, xc_23_35, xc_23_6, xl_a0, xl_a3, xl_i1, xl_i2, xt_a3, y_cmp_lt_f, y_cmp_lt_t, y_if_lt_f, y_if_lt_t, y_if_ne_f, y_if_ne_t, i_wr_id, kM_diff, Int.reduceToNat, ex_ar_same, ex_ar_ar, ex_ar_diff, ex_u_same, ex_u_diff, b2i_t, b2i_f, ex_div_nn, ex_rem_nn, Int.toNat_zero, Int.toNat_one, Int.reduceAdd, Int.reduceSub, Int.reduceMul, Int.reduceNeg, kC_ne, fC_ne] | refine bb_eq (fun _ => ?_) (fun _ => ?_) | refine bb_ne (fun _ => ?_) (fun _ => ?_) | refine bc_eq (fun _ => ?_) (fun _ => ?_) | refine bc_ne (fun _ => ?_) (fun _ => ?_) | refine bc_lt (fun _ => ?_) (fun _ => ?_) | refine bc_ge (fun _ => ?_) (fun _ => ?_) | refine bc_gt (fun _ => ?_) (fun _ => ?_) | refine bc_le (fun _ => ?_) (fun _ => ?_) | refine bi_eq (fun _ => ?_) (fun _ => ?_) | refine bi_ne (fun _ => ?_) (fun _ => ?_) | refine bi_lt (fun _ => ?_) (fun _ => ?_) | refine bi_ge (fun _ => ?_) (fun _ => ?_) | refine bi_gt (fun _ => ?_) (fun _ => ?_) | refine bi_le (fun _ => ?_) (fun _ => ?_)))
theorem ck_93 {L d : Nat} {σ : ex_S} {c l : Int} (hC : CI σ) (hd : 20 < d) : CK 93 163 [vI c, vI l] σ L d := by
  (have p0 := hC.pr.p0; have p1 := hC.pr.p1; have k0 := hC.pr.k0; have k1 := hC.pr.k1; have kq := hC.pr.q; have q0 : 0 ≤ σ 4 10 := (by omega); have q1 : σ 4 10 ≤ 16 := (by omega); have hN := hC.ni; have hR := hC.rd.g; have hD := hC.rd; have hT := hC.st)
  have b0 := hN.b0
  have b1 := hN.b1
  by_cases g : (0 ≤ c ∧ c < σ 433 1) ∧ (0 ≤ l ∧ l < σ 433 0)
  · obtain ⟨g1, g2⟩ := id g
    have t2 : σ 432 = σ 432 := rfl
    have t3 : σ 433 = σ 433 := rfl
    have t5 : σ 435 = σ 435 := rfl
    have t6 : σ 436 = σ 436 := rfl
    have t7 : σ 437 = σ 437 := rfl
    have u1 : 0 ≤ σ 432 2 := by rw [t2]; exact k0
    have u2 : σ 432 2 ≤ 16 := by rw [t2]; exact k1
    have uN : NI (σ 433) := by rw [t3]; exact hN
    have uS : SI (σ 435) (σ 436) := by rw [t5, t6]; exact hC.si
    have := uN.a0; have := uN.b0; have := uN.a1; have := uN.b1; have := uN.a2; have := uN.b2; have := uN.a3; have := uN.b3; have := uN.a4; have := uN.b4; have := uN.a5; have := uN.b5; have := uN.a7; have := uN.b7; have := uN.a8; have := uN.b8; have := uN.a9; have := uN.b9; have := uN.a10; have := uN.b10
    have r := sp_163 (L := L) (d := d) (σ := σ) (c := c) (l := l) (by omega) (by first | assumption | exact uN.oM | exact uN.oP | omega) (by first | assumption | exact uN.oM | exact uN.oP | omega) (by first | assumption | exact uN.oM | exact uN.oP | omega) (by first | assumption | exact uN.oM | exact uN.oP | omega)
    simp only [fitsM, if_pos g] at r
    refine ck_get hC ?_ r
    (rw [ex_cd_eq (by omega)]; show ex_ev (d - 1) 93 0 [vR 4, vI c, vI l] [] _ = _; (repeat' first | simp (disch := first | assumption | omega | ((repeat' first | exact ok_nil | apply ok_I | apply ok_R); done) | (simp (disch := first | omega | decide) only [ex_ar_same, ex_ar_diff, kM_diff, ex_u_same, ex_u_diff]; first | assumption | omega)) only [ev_93_0, ev_93_1, ev_93_2, ev_93_3, ev_93_4, gf_4_0, gf_5_0, x_fall, x_goto, x_push, x_ret1, xc_132, xc_13_35, xc_13_6, xc_14_35, xc_14_6, xc_22_35, xc_22_6, xl_a0, xl_i1, xl_i2, y_if_eq_f, y_if_eq_t, y_if_ne_f, y_if_ne_t, i_wr_id, kM_diff, Int.reduceToNat, ex_ar_same, ex_ar_ar, ex_ar_diff, ex_u_same, ex_u_diff, b2i_t, b2i_f, ex_div_nn, ex_rem_nn, Int.toNat_zero, Int.toNat_one, Int.reduceAdd, Int.reduceSub, Int.reduceMul, Int.reduceNeg, kC_ne, fC_ne] | refine bb_eq (fun _ => ?_) (fun _ => ?_) | refine bb_ne (fun _ => ?_) (fun _ => ?_) | refine bc_eq (fun _ => ?_) (fun _ => ?_) | refine bc_ne (fun _ => ?_) (fun _ => ?_) | refine bc_lt (fun _ => ?_) (fun _ => ?_) | refine bc_ge (fun _ => ?_) (fun _ => ?_) | refine bc_gt (fun _ => ?_) (fun _ => ?_) | refine bc_le (fun _ => ?_) (fun _ => ?_) | refine bi_eq (fun _ => ?_) (fun _ => ?_) | refine bi_ne (fun _ => ?_) (fun _ => ?_) | refine bi_lt (fun _ => ?_) (fun _ => ?_) | refine bi_ge (fun _ => ?_) (fun _ => ?_) | refine bi_gt (fun _ => ?_) (fun _ => ?_) | refine bi_le (fun _ => ?_) (fun _ => ?_)))
  · have t2 : (fC σ) 432 = σ 432 := fC_ne _ (by decide)
    have t3 : (fC σ) 433 = σ 433 := fC_ne _ (by decide)
    have t5 : (fC σ) 435 = σ 435 := fC_ne _ (by decide)
    have t6 : (fC σ) 436 = σ 436 := fC_ne _ (by decide)
    have t7 : (fC σ) 437 = σ 437 := fC_ne _ (by decide)
    have u1 : 0 ≤ (fC σ) 432 2 := by rw [t2]; exact k0
    have u2 : (fC σ) 432 2 ≤ 16 := by rw [t2]; exact k1
    have uN : NI ((fC σ) 433) := by rw [t3]; exact hN
    have uS : SI ((fC σ) 435) ((fC σ) 436) := by rw [t5, t6]; exact hC.si
    have := uN.a0; have := uN.b0; have := uN.a1; have := uN.b1; have := uN.a2; have := uN.b2; have := uN.a3; have := uN.b3; have := uN.a4; have := uN.b4; have := uN.a5; have := uN.b5; have := uN.a7; have := uN.b7; have := uN.a8; have := uN.b8; have := uN.a9; have := uN.b9; have := uN.a10; have := uN.b10
    have r := sp_163 (L := L) (d := d) (σ := fC σ) (c := c) (l := l) (by omega) (by first | assumption | exact uN.oM | exact uN.oP | omega) (by first | assumption | exact uN.oM | exact uN.oP | omega) (by first | assumption | exact uN.oM | exact uN.oP | omega) (by first | assumption | exact uN.oM | exact uN.oP | omega)
    simp only [fitsM, t3, if_neg g] at r
    refine ck_fnd hC ?_ r
    (rw [ex_cd_eq (by omega)]; show ex_ev (d - 1) 93 0 [vR 4, vI c, vI l] [] _ = _; (repeat' first | simp (disch := first | assumption | omega | ((repeat' first | exact ok_nil | apply ok_I | apply ok_R); done) | (simp (disch := first | omega | decide) only [ex_ar_same, ex_ar_diff, kM_diff, ex_u_same, ex_u_diff]; first | assumption | omega)) only [ev_93_0, ev_93_1, ev_93_2, ev_93_3, ev_93_4, gf_4_0, gf_5_0, x_fall, x_goto, x_push, x_ret1, xc_132, xc_13_35, xc_13_6, xc_14_35, xc_14_6, xc_22_35, xc_22_6, xl_a0, xl_i1, xl_i2, y_if_eq_f, y_if_eq_t, y_if_ne_f, y_if_ne_t, i_wr_id, kM_diff, Int.reduceToNat, ex_ar_same, ex_ar_ar, ex_ar_diff, ex_u_same, ex_u_diff, b2i_t, b2i_f, ex_div_nn, ex_rem_nn, Int.toNat_zero, Int.toNat_one, Int.reduceAdd, Int.reduceSub, Int.reduceMul, Int.reduceNeg, kC_ne, fC_ne] | refine bb_eq (fun _ => ?_) (fun _ => ?_) | refine bb_ne (fun _ => ?_) (fun _ => ?_) | refine bc_eq (fun _ => ?_) (fun _ => ?_) | refine bc_ne (fun _ => ?_) (fun _ => ?_) | refine bc_lt (fun _ => ?_) (fun _ => ?_) | refine bc_ge (fun _ => ?_) (fun _ => ?_) | refine bc_gt (fun _ => ?_) (fun _ => ?_) | refine bc_le (fun _ => ?_) (fun _ => ?_) | refine bi_eq (fun _ => ?_) (fun _ => ?_) | refine bi_ne (fun _ => ?_) (fun _ => ?_) | refine bi_lt (fun _ => ?_) (fun _ => ?_) | refine bi_ge (fun _ => ?_) (fun _ => ?_) | refine bi_gt (fun _ => ?_) (fun _ => ?_) | refine bi_le (fun _ => ?_) (fun _ => ?_)))
    all_goals exact absurd ⟨by assumption, by assumption⟩ g
