/-! the class: looks, nights, coming and going -/
def adA (σ : ex_S) (k c e : Int) : ex_S := ex_ar (ex_ar (ex_ar σ 19 (ex_u (σ 19) k c)) 20 (ex_u (σ 20) k e)) 18 (ex_u (σ 18) 0 (k + 1))
def adB (σ : ex_S) (c e : Int) : ex_S := ex_ar (ex_ar (ex_ar (ex_ar (ex_ar (ex_ar σ 18 (ex_u (σ 18) 0 59)) 19 (ex_cpy (σ 19) (σ 19) 1 0 59)) 20 (ex_cpy (σ 20) (σ 20) 1 0 59)) 19 (ex_u (ex_cpy (σ 19) (σ 19) 1 0 59) 59 c)) 20 (ex_u (ex_cpy (σ 20) (σ 20) 1 0 59) 59 e)) 18 (ex_u (ex_u (σ 18) 0 59) 0 60)
def adC (σ : ex_S) (k c e : Int) : ex_S := if k = 60 then adB σ c e else adA σ k c e
theorem adC_ne {σ : ex_S} {k c e : Int} {x : Nat} (hx : x < 18 ∨ 20 < x) : adC σ k c e x = σ x := by
  unfold adC
  split
  · unfold adB; simp (disch := omega) only [ex_ar_diff]
  · unfold adA; simp (disch := omega) only [ex_ar_diff]
theorem adC_18 {σ : ex_S} {k c e : Int} : adC σ k c e 18 0 = if k = 60 then 60 else k + 1 := by
  unfold adC
  split
  · unfold adB; simp (disch := decide) only [ex_ar_diff, ex_ar_same, ex_u_same]
  · unfold adA; simp (disch := decide) only [ex_ar_diff, ex_ar_same, ex_u_same]
theorem adC_19 {σ : ex_S} {k c e i : Int} (h0 : 0 ≤ i) (h1 : i < 60) : adC σ k c e 19 i = if i = (if k = 60 then 59 else k) then c else if k = 60 then σ 19 (i + 1) else σ 19 i := by
  unfold adC
  by_cases z : k = 60
  · rw [if_pos z, if_pos z, if_pos z]
    unfold adB
    simp (disch := decide) only [ex_ar_diff, ex_ar_same]
    by_cases y : i = 59
    · rw [if_pos y, y, ex_u_same]
    · rw [if_neg y, ex_u_diff _ _ y]
      show (if _ then _ else _) = _
      rw [if_pos (by omega)]
      congr 1; omega
  · rw [if_neg z, if_neg z, if_neg z]
    unfold adA
    simp (disch := decide) only [ex_ar_diff, ex_ar_same]
    by_cases y : i = k
    · rw [if_pos y, y, ex_u_same]
    · rw [if_neg y, ex_u_diff _ _ y]
theorem adC_20 {σ : ex_S} {k c e i : Int} (h0 : 0 ≤ i) (h1 : i < 60) : adC σ k c e 20 i = if i = (if k = 60 then 59 else k) then e else if k = 60 then σ 20 (i + 1) else σ 20 i := by
  unfold adC
  by_cases z : k = 60
  · rw [if_pos z, if_pos z, if_pos z]
    unfold adB
    simp (disch := decide) only [ex_ar_diff, ex_ar_same]
    by_cases y : i = 59
    · rw [if_pos y, y, ex_u_same]
    · rw [if_neg y, ex_u_diff _ _ y]
      show (if _ then _ else _) = _
      rw [if_pos (by omega)]
      congr 1; omega
  · rw [if_neg z, if_neg z, if_neg z]
    unfold adA
    simp (disch := decide) only [ex_ar_diff, ex_ar_same]
    by_cases y : i = k
    · rw [if_pos y, y, ex_u_same]
    · rw [if_neg y, ex_u_diff _ _ y]
theorem cpy_19 {rt : Nat} {J : Nat → List ex_V → List ex_V → ex_H → Option ex_R} {C : Nat → List ex_V → ex_H → Option ex_R} {is : List Instr} {ls : List ex_V} {L : Nat} {σ : ex_S} : ex_xs rt J C (.invokedynamic 0 :: is) ls [vI 59, vI 0, vR 19, vI 1, vR 19] (SH L, σ) = ex_xs rt J C is ls [] (SH L, ex_ar σ 19 (ex_cpy (σ 19) (σ 19) 1 0 59)) := x_cpy (sh_19 L) (sh_19 L) (by decide) (by decide) (by decide) (by decide) (by decide) (by decide) (by decide) rfl
theorem cpy_20 {rt : Nat} {J : Nat → List ex_V → List ex_V → ex_H → Option ex_R} {C : Nat → List ex_V → ex_H → Option ex_R} {is : List Instr} {ls : List ex_V} {L : Nat} {σ : ex_S} : ex_xs rt J C (.invokedynamic 0 :: is) ls [vI 59, vI 0, vR 20, vI 1, vR 20] (SH L, σ) = ex_xs rt J C is ls [] (SH L, ex_ar σ 20 (ex_cpy (σ 20) (σ 20) 1 0 59)) := x_cpy (sh_20 L) (sh_20 L) (by decide) (by decide) (by decide) (by decide) (by decide) (by decide) (by decide) rfl
theorem sp_45 {d : Nat} (hd : 0 < d) {L : Nat} {σ : ex_S} {k c e : Int} (hk : σ 18 0 = k) (h0 : 0 ≤ k) (h1 : k ≤ 60) : ex_cd d 45 [vR 18, vI c, vI e] (SH L, σ) = some ([], (SH L, adC σ k c e)) := by
  rw [ex_cd_eq (by omega)]
  show ex_ev (d - 1) 45 0 [vR 18, vI c, vI e] [] (SH L, σ) = _
  unfold adC
  by_cases z : k = 60
  · rw [if_pos z]
    unfold adB
    simp (disch := first | assumption | omega | ((repeat' first | exact ok_nil | apply ok_I | apply ok_R); done) | (simp (disch := first | omega | decide) only [ex_ar_same, ex_ar_diff, kM_diff, ex_u_same, ex_u_diff]; first | assumption | omega)) only [cpy_19, cpy_20, ev_45_0, ev_45_1, gf_18_0, gf_18_1, gf_18_2, hk, pf_18_0, sd_19, sd_20, x_dupI, x_dupR, x_fall, x_push, x_ret0, xl_a0, xl_i1, xl_i2, y_cmp_lt_f, y_cmp_lt_t, y_iadd, i_wr_id, kM_diff, Int.reduceToNat, ex_ar_same, ex_ar_ar, ex_ar_diff, ex_u_same, ex_u_diff, b2i_t, b2i_f, ex_div_nn, ex_rem_nn, Int.toNat_zero, Int.toNat_one, Int.reduceAdd, Int.reduceSub, Int.reduceMul, Int.reduceNeg, kC_ne, fC_ne]
  · rw [if_neg z]
    unfold adA
    simp (disch := first | assumption | omega | ((repeat' first | exact ok_nil | apply ok_I | apply ok_R); done) | (simp (disch := first | omega | decide) only [ex_ar_same, ex_ar_diff, kM_diff, ex_u_same, ex_u_diff]; first | assumption | omega)) only [ev_45_0, ev_45_1, gf_18_0, gf_18_1, gf_18_2, hk, pf_18_0, sd_19, sd_20, x_dupI, x_dupR, x_fall, x_push, x_ret0, xl_a0, xl_i1, xl_i2, y_cmp_lt_f, y_cmp_lt_t, y_iadd, i_wr_id, kM_diff, Int.reduceToNat, ex_ar_same, ex_ar_ar, ex_ar_diff, ex_u_same, ex_u_diff, b2i_t, b2i_f, ex_div_nn, ex_rem_nn, Int.toNat_zero, Int.toNat_one, Int.reduceAdd, Int.reduceSub, Int.reduceMul, Int.reduceNeg, kC_ne, fC_ne]
theorem xc_45 {rt d : Nat} {J : Nat → List ex_V → List ex_V → ex_H → Option ex_R} {is : List Instr} {ls st : List ex_V} {L : Nat} {σ : ex_S} {k c e : Int} (hk : σ 18 0 = k) (h0 : 0 ≤ k) (h1 : k ≤ 60) (hd : 0 < d) (hok : okN 8 st = true) : ex_xs rt J (ex_cd d) (.invokevirtual 45 :: is) ls (vI e :: vI c :: vR 18 :: st) (SH L, σ) = ex_xs rt J (ex_cd d) is ls (st) (SH L, adC σ k c e) := x_call1 (Or.inl rfl) rfl (sh_18 _) (Or.inl ⟨rfl, rfl⟩) (as := [vI c, vI e]) rfl rfl (okN_ok hok) rfl (sp_45 hd hk h0 h1)
theorem RD5_add {σ : ex_S} {n : Int → Int} (hR : RD5 σ n) (hN : NI n) {c e z : Int} (c0 : 0 ≤ c) (c1 : c < 8) (e0 : 0 ≤ e) (e1 : e ≤ 5) (hz : z = c + 8 * (if e < 4 then e else e + 4)) : RD5 (adC σ (n 8) c e) (ledF n z) := by
  have a8 := hN.a8
  have b8 := hN.b8
  have A := fun k => ledF_at (n := n) z k a8 b8
  refine RD5_le hR hN (fun k k1 k2 k3 => ?_) (fun a a1 a2 => adC_ne (by omega)) (fun k hk => by rw [adC_ne (by omega)]) ?_ (fun k k1 k2 => ?_)
  · have vA := A k
    rw [if_neg (show ¬ (k = 8) by omega), if_neg (show ¬ (k = 171 + if n 8 = 60 then 59 else n 8) by split <;> omega), if_neg (fun q => by omega)] at vA
    exact vA
  · rw [adC_18, A, if_pos rfl]
  · rw [A, if_pos rfl] at k2
    have vA := A (171 + k)
    rw [if_neg (show ¬ (171 + k = 8) by omega)] at vA
    by_cases x : n 8 = 60
    · rw [if_pos x] at k2
      have v19 := adC_19 (σ := σ) (k := n 8) (c := c) (e := e) k1 (show k < 60 by omega)
      have v20 := adC_20 (σ := σ) (k := n 8) (c := c) (e := e) k1 (show k < 60 by omega)
      rw [if_pos x, if_pos x] at v19 v20
      rw [if_pos x] at vA
      by_cases y : k = 59
      · rw [if_pos y] at v19 v20
        rw [if_pos (show 171 + k = 171 + 59 by omega)] at vA
        rw [v19, v20, vA]
        exact ⟨⟨c0, c1⟩, ⟨e0, e1⟩, hz⟩
      · rw [if_neg y] at v19 v20
        rw [if_neg (show ¬ (171 + k = 171 + 59) by omega), if_pos ⟨x, by omega, by omega⟩, show 171 + k + 1 = 171 + (k + 1) by omega] at vA
        rw [v19, v20, vA]
        exact hR.le (k + 1) (by omega) (by omega)
    · rw [if_neg x] at k2
      have v19 := adC_19 (σ := σ) (k := n 8) (c := c) (e := e) k1 (show k < 60 by omega)
      have v20 := adC_20 (σ := σ) (k := n 8) (c := c) (e := e) k1 (show k < 60 by omega)
      rw [if_neg x, if_neg x] at v19 v20
      rw [if_neg x] at vA
      by_cases y : k = n 8
      · rw [if_pos y] at v19 v20
        rw [if_pos (show 171 + k = 171 + n 8 by omega)] at vA
        rw [v19, v20, vA]
        exact ⟨⟨c0, c1⟩, ⟨e0, e1⟩, hz⟩
      · rw [if_neg y] at v19 v20
        rw [if_neg (show ¬ (171 + k = 171 + n 8) by omega), if_neg (fun q => x q.1)] at vA
        rw [v19, v20, vA]
        exact hR.le k k1 (by omega)
theorem ck_116 {L d : Nat} {σ : ex_S} {c b : Int} (hC : CI σ) (hd : 20 < d) (hb : b = 0 ∨ b = 1) : CK 116 210 [vI c, vI b] σ L d := by
  (have p0 := hC.pr.p0; have p1 := hC.pr.p1; have k0 := hC.pr.k0; have k1 := hC.pr.k1; have kq := hC.pr.q; have q0 : 0 ≤ σ 4 10 := (by omega); have q1 : σ 4 10 ≤ 16 := (by omega); have hN := hC.ni; have hR := hC.rd.g; have hD := hC.rd; have hT := hC.st)
  have a8 := hN.a8
  have b8 := hN.b8
  have b1 := hN.b1
  have e := hD.lc
  by_cases g : 0 ≤ c ∧ c < σ 433 1
  · have e2 : kC σ 18 0 = σ 433 8 := by rw [kC5 hC _ (by omega) (by omega)]; exact e
    have e3 : adC (kC σ) (σ 433 8) c (4 + b) 18 0 = ledF (σ 433) (64 + c + 8 * b) 8 := by rw [adC_18, ledF_8 a8]
    have q : ∀ x, 28 ≤ x → x < 64 ∨ 432 ≤ x → (adC (kC σ) (σ 433 8) c (4 + b)) x = σ x := fun x h1 h2 => by rw [adC_ne (by omega), kC5 hC _ (by omega) h2]
    have t2 : (adC (kC σ) (σ 433 8) c (4 + b)) 432 = σ 432 := q _ (by omega) (by omega)
    have t3 : (adC (kC σ) (σ 433 8) c (4 + b)) 433 = σ 433 := q _ (by omega) (by omega)
    have t5 : (adC (kC σ) (σ 433 8) c (4 + b)) 435 = σ 435 := q _ (by omega) (by omega)
    have t6 : (adC (kC σ) (σ 433 8) c (4 + b)) 436 = σ 436 := q _ (by omega) (by omega)
    have t7 : (adC (kC σ) (σ 433 8) c (4 + b)) 437 = σ 437 := q _ (by omega) (by omega)
    have u1 : 0 ≤ (adC (kC σ) (σ 433 8) c (4 + b)) 432 2 := by rw [t2]; exact k0
    have u2 : (adC (kC σ) (σ 433 8) c (4 + b)) 432 2 ≤ 16 := by rw [t2]; exact k1
    have uN : NI ((adC (kC σ) (σ 433 8) c (4 + b)) 433) := by rw [t3]; exact hN
    have uS : SI ((adC (kC σ) (σ 433 8) c (4 + b)) 435) ((adC (kC σ) (σ 433 8) c (4 + b)) 436) := by rw [t5, t6]; exact hC.si
    have := uN.a0; have := uN.b0; have := uN.a1; have := uN.b1; have := uN.a2; have := uN.b2; have := uN.a3; have := uN.b3; have := uN.a4; have := uN.b4; have := uN.a5; have := uN.b5; have := uN.a7; have := uN.b7; have := uN.a8; have := uN.b8; have := uN.a9; have := uN.b9; have := uN.a10; have := uN.b10
    have r := sp_210 (L := L) (d := d) (σ := adC (kC σ) (σ 433 8) c (4 + b)) (c := c) (b := b) (by omega) (by first | assumption | exact uN.oM | exact uN.oP | omega) (by first | assumption | exact uN.oM | exact uN.oP | omega) (by first | assumption | exact uN.oM | exact uN.oP | omega) (by first | assumption | exact uN.oM | exact uN.oP | omega)
    simp only [lookM, t3, if_pos g] at r
    refine ck_act (σ1 := adC (kC σ) (σ 433 8) c (4 + b)) hC ?_ (fun x hx => adC_ne (by omega)) r rfl ?_ ?_
    · rcases hb with rfl | rfl
      all_goals
        simp only [Int.reduceAdd] at e3 ⊢
        rw [ex_cd_eq (by omega)]
        show ex_ev (d - 1) 116 0 [vR 4, vI c, vI _] [] _ = _
        (repeat' first | simp (disch := first | assumption | omega | ((repeat' first | exact ok_nil | apply ok_I | apply ok_R); done) | (simp (disch := first | omega | decide) only [ex_ar_same, ex_ar_diff, kM_diff, ex_u_same, ex_u_diff]; first | assumption | omega)) only [e3, ev_116_0, ev_116_1, ev_116_2, ev_116_3, gf_18_0, gf_4_0, gf_5_0, gf_5_1, x_fall, x_goto, x_push, x_ret1, xc_132, xc_133, xc_14_35, xc_14_6, xc_45, xl_a0, xl_i1, xl_i2, y_if_eq_f, y_if_eq_t, y_if_ne_f, y_if_ne_t, i_wr_id, kM_diff, Int.reduceToNat, ex_ar_same, ex_ar_ar, ex_ar_diff, ex_u_same, ex_u_diff, b2i_t, b2i_f, ex_div_nn, ex_rem_nn, Int.toNat_zero, Int.toNat_one, Int.reduceAdd, Int.reduceSub, Int.reduceMul, Int.reduceNeg, kC_ne, fC_ne] | refine bb_eq (fun _ => ?_) (fun _ => ?_) | refine bb_ne (fun _ => ?_) (fun _ => ?_) | refine bc_eq (fun _ => ?_) (fun _ => ?_) | refine bc_ne (fun _ => ?_) (fun _ => ?_) | refine bc_lt (fun _ => ?_) (fun _ => ?_) | refine bc_ge (fun _ => ?_) (fun _ => ?_) | refine bc_gt (fun _ => ?_) (fun _ => ?_) | refine bc_le (fun _ => ?_) (fun _ => ?_) | refine bi_eq (fun _ => ?_) (fun _ => ?_) | refine bi_ne (fun _ => ?_) (fun _ => ?_) | refine bi_lt (fun _ => ?_) (fun _ => ?_) | refine bi_ge (fun _ => ?_) (fun _ => ?_) | refine bi_gt (fun _ => ?_) (fun _ => ?_) | refine bi_le (fun _ => ?_) (fun _ => ?_))
    · refine RD5_add (RD5_kC hC) hN g.1 (by omega) (by omega) (by omega) ?_
      rw [if_neg (by omega)]; omega
    · exact NI_led hN (by omega)
  · have t2 : (fC σ) 432 = σ 432 := fC_ne _ (by decide)
    have t3 : (fC σ) 433 = σ 433 := fC_ne _ (by decide)
    have t5 : (fC σ) 435 = σ 435 := fC_ne _ (by decide)
    have t6 : (fC σ) 436 = σ 436 := fC_ne _ (by decide)
    have t7 : (fC σ) 437 = σ 437 := fC_ne _ (by decide)
    have u1 : 0 ≤ (fC σ) 432 2 := by rw [t2]; exact k0
    have u2 : (fC σ) 432 2 ≤ 16 := by rw [t2]; exact k1
    have uN : NI ((fC σ) 433) := by rw [t3]; exact hN
    have uS : SI ((fC σ) 435) ((fC σ) 436) := by rw [t5, t6]; exact hC.si
    have := uN.a0; have := uN.b0; have := uN.a1; have := uN.b1; have := uN.a2; have := uN.b2; have := uN.a3; have := uN.b3; have := uN.a4; have := uN.b4; have := uN.a5; have := uN.b5; have := uN.a7; have := uN.b7; have := uN.a8; have := uN.b8; have := uN.a9; have := uN.b9; have := uN.a10; have := uN.b10
    have r := sp_210 (L := L) (d := d) (σ := fC σ) (c := c) (b := b) (by omega) (by first | assumption | exact uN.oM | exact uN.oP | omega) (by first | assumption | exact uN.oM | exact uN.oP | omega) (by first | assumption | exact uN.oM | exact uN.oP | omega) (by first | assumption | exact uN.oM | exact uN.oP | omega)
    simp only [lookM, t3, if_neg g] at r
    refine ck_fnd hC ?_ r
    (rw [ex_cd_eq (by omega)]; show ex_ev (d - 1) 116 0 [vR 4, vI c, vI b] [] _ = _; (repeat' first | simp (disch := first | assumption | omega | ((repeat' first | exact ok_nil | apply ok_I | apply ok_R); done) | (simp (disch := first | omega | decide) only [ex_ar_same, ex_ar_diff, kM_diff, ex_u_same, ex_u_diff]; first | assumption | omega)) only [ev_116_0, ev_116_1, ev_116_2, ev_116_3, gf_18_0, gf_4_0, gf_5_0, gf_5_1, x_fall, x_goto, x_push, x_ret1, xc_132, xc_133, xc_14_35, xc_14_6, xc_45, xl_a0, xl_i1, xl_i2, y_if_eq_f, y_if_eq_t, y_if_ne_f, y_if_ne_t, i_wr_id, kM_diff, Int.reduceToNat, ex_ar_same, ex_ar_ar, ex_ar_diff, ex_u_same, ex_u_diff, b2i_t, b2i_f, ex_div_nn, ex_rem_nn, Int.toNat_zero, Int.toNat_one, Int.reduceAdd, Int.reduceSub, Int.reduceMul, Int.reduceNeg, kC_ne, fC_ne] | refine bb_eq (fun _ => ?_) (fun _ => ?_) | refine bb_ne (fun _ => ?_) (fun _ => ?_) | refine bc_eq (fun _ => ?_) (fun _ => ?_) | refine bc_ne (fun _ => ?_) (fun _ => ?_) | refine bc_lt (fun _ => ?_) (fun _ => ?_) | refine bc_ge (fun _ => ?_) (fun _ => ?_) | refine bc_gt (fun _ => ?_) (fun _ => ?_) | refine bc_le (fun _ => ?_) (fun _ => ?_) | refine bi_eq (fun _ => ?_) (fun _ => ?_) | refine bi_ne (fun _ => ?_) (fun _ => ?_) | refine bi_lt (fun _ => ?_) (fun _ => ?_) | refine bi_ge (fun _ => ?_) (fun _ => ?_) | refine bi_gt (fun _ => ?_) (fun _ => ?_) | refine bi_le (fun _ => ?_) (fun _ => ?_)))
def fgF (f : Int → Int) (j : Nat) : Int → Int := fun k => if 0 ≤ k ∧ k < (j : Int) then 0 else f k
theorem fgF_0 (f : Int → Int) : fgF f 0 = f := by funext k; unfold fgF; rw [if_neg (by omega)]
theorem fgF_s (f : Int → Int) (j : Nat) : ex_u (fgF f j) (j : Int) 0 = fgF f (j + 1) := by
  funext k
  by_cases h : k = (j : Int)
  · subst h
    rw [ex_u_same]
    unfold fgF
    rw [if_pos (by omega)]
  · rw [ex_u_diff _ _ h]
    unfold fgF
    by_cases h2 : 0 ≤ k ∧ k < (j : Int)
    · rw [if_pos h2, if_pos (by omega)]
    · rw [if_neg h2, if_neg (by omega)]
theorem nightS_n {n : Int → Int} (hN : NI n) : nightS n (n 0).toNat = nightS n 5 := by
  have a0 := hN.a0
  have b0 := hN.b0
  have key : ∀ j : Nat, j ≤ 5 → (n 0).toNat ≤ j → nightS n j = nightS n (n 0).toNat := by
    intro j
    induction j with
    | zero => intro _ h; rw [show (n 0).toNat = 0 by omega]
    | succ j ih =>
      intro h1 h2
      by_cases z : (n 0).toNat = j + 1
      · rw [z]
      · rw [nightS, ih (by omega) (by omega), (hN.ou (j : Int) (by omega) (by omega)).2.2.1]
        omega
  exact (key 5 (by omega) (by omega)).symm
theorem sp_33 {d : Nat} (hd : 0 < d) {L : Nat} {σ : ex_S} {n : Int → Int} (hR : RG6 σ n) (hN : NI n) : ex_cd d 33 [vR 6] (SH L, σ) = some ([vI (nightS n 5)], (SH L, ex_ar σ 12 (fgF (σ 12) (n 0).toNat))) := by
  rw [ex_cd_eq (by omega)]
  show ex_ev (d - 1) 33 0 [vR 6, vL 0, vL 0] [] (SH L, σ) = _
  have a0 := hN.a0
  have b0 := hN.b0
  have la := hR.la
  rw [← nightS_n hN]
  have lp : ∀ i : Nat, i ≤ (n 0).toNat → ex_ev (d - 1) 33 1 [vR 6, vI (nightS n i), vI (i : Int)] [] (SH L, ex_ar σ 12 (fgF (σ 12) i)) = some ([vI (nightS n (n 0).toNat)], (SH L, ex_ar σ 12 (fgF (σ 12) (n 0).toNat))) := by
    refine down ?_ ?_
    · rw [ev_33_1]
      simp (disch := first | assumption | omega | ((repeat' first | exact ok_nil | apply ok_I | apply ok_R); done) | (simp (disch := first | omega | decide) only [ex_ar_same, ex_ar_diff, kM_diff, ex_u_same, ex_u_diff]; first | assumption | omega)) only [ev_33_0, ev_33_2, gf_35_0, gf_35_7, gf_6_0, gf_6_7, ld_12, ld_41, sd_12, sd_41, x_fall, x_goto, x_push, x_ret1, xl_a0, xl_i1, xl_i2, xn_2, xt_i1, xt_i2, y_cmp_ge_f, y_cmp_ge_t, y_iadd, i_wr_id, kM_diff, Int.reduceToNat, ex_ar_same, ex_ar_ar, ex_ar_diff, ex_u_same, ex_u_diff, b2i_t, b2i_f, ex_div_nn, ex_rem_nn, Int.toNat_zero, Int.toNat_one, Int.reduceAdd, Int.reduceSub, Int.reduceMul, Int.reduceNeg, kC_ne, fC_ne]
    · intro i hi ih
      have b := nightS_bd hN i (by omega)
      have y := hN.cy i (by omega) (by omega)
      have y2 := hR.cy i (by omega) (by omega)
      have e : fgF (σ 12) i (i : Int) = n (41 + (i : Int)) := by unfold fgF; rw [if_neg (by omega), y2]
      rw [ev_33_1]
      simp (disch := first | assumption | omega | ((repeat' first | exact ok_nil | apply ok_I | apply ok_R); done) | (simp (disch := first | omega | decide) only [ex_ar_same, ex_ar_diff, kM_diff, ex_u_same, ex_u_diff]; first | assumption | omega)) only [e, ev_33_0, ev_33_2, gf_35_0, gf_35_7, gf_6_0, gf_6_7, ld_12, ld_41, sd_12, sd_41, x_fall, x_goto, x_push, x_ret1, xl_a0, xl_i1, xl_i2, xn_2, xt_i1, xt_i2, y_cmp_ge_f, y_cmp_ge_t, y_iadd, i_wr_id, kM_diff, Int.reduceToNat, ex_ar_same, ex_ar_ar, ex_ar_diff, ex_u_same, ex_u_diff, b2i_t, b2i_f, ex_div_nn, ex_rem_nn, Int.toNat_zero, Int.toNat_one, Int.reduceAdd, Int.reduceSub, Int.reduceMul, Int.reduceNeg, kC_ne, fC_ne]
      rw [fgF_s, nat_cast_succ]
      exact ih
  simp (disch := first | assumption | omega | ((repeat' first | exact ok_nil | apply ok_I | apply ok_R); done) | (simp (disch := first | omega | decide) only [ex_ar_same, ex_ar_diff, kM_diff, ex_u_same, ex_u_diff]; first | assumption | omega)) only [ev_33_0, ev_33_2, gf_35_0, gf_35_7, gf_6_0, gf_6_7, ld_12, ld_41, sd_12, sd_41, x_fall, x_goto, x_push, x_ret1, xl_a0, xl_i1, xl_i2, xn_2, xt_i1, xt_i2, y_cmp_ge_f, y_cmp_ge_t, y_iadd, i_wr_id, kM_diff, Int.reduceToNat, ex_ar_same, ex_ar_ar, ex_ar_diff, ex_u_same, ex_u_diff, b2i_t, b2i_f, ex_div_nn, ex_rem_nn, Int.toNat_zero, Int.toNat_one, Int.reduceAdd, Int.reduceSub, Int.reduceMul, Int.reduceNeg, kC_ne, fC_ne]
  have := lp 0 (by omega)
  rw [fgF_0, ex_ar_id] at this
  exact this
theorem xc_33 {rt d : Nat} {J : Nat → List ex_V → List ex_V → ex_H → Option ex_R} {is : List Instr} {ls st : List ex_V} {L : Nat} {σ : ex_S} {n : Int → Int} (hR : RG6 σ n) (hN : NI n) (hd : 0 < d) (hok : okN 8 st = true) : ex_xs rt J (ex_cd d) (.invokevirtual 33 :: is) ls (vR 6 :: st) (SH L, σ) = ex_xs rt J (ex_cd d) is ls (vI (nightS n 5) :: st) (SH L, ex_ar σ 12 (fgF (σ 12) (n 0).toNat)) := x_call1 (Or.inl rfl) rfl (sh_6 _) (Or.inl ⟨rfl, rfl⟩) (as := []) rfl rfl (okN_ok hok) rfl (sp_33 hd hR hN)
theorem ck_97 {L d : Nat} {σ : ex_S} (hC : CI σ) (hd : 20 < d) : CK 97 175 [] σ L d := by
  (have p0 := hC.pr.p0; have p1 := hC.pr.p1; have k0 := hC.pr.k0; have k1 := hC.pr.k1; have kq := hC.pr.q; have q0 : 0 ≤ σ 4 10 := (by omega); have q1 : σ 4 10 ≤ 16 := (by omega); have hN := hC.ni; have hR := hC.rd.g; have hD := hC.rd; have hT := hC.st)
  have a0 := hN.a0
  have b0 := hN.b0
  have N1 : NI (ex_u (σ 433) 2 0) := NI_u8 hN (by omega) (by omega)
  have D1 : RD5 (ex_ar (kC σ) 5 (ex_u (σ 5) 8 0)) (ex_u (σ 433) 2 0) := by
    refine RD5_int (RD5_kC hC) hN (fun k _ _ hk => ex_u_diff _ _ (by omega)) (fun a a1 a2 => ex_ar_diff _ _ _ (by omega)) ?_ ?_ ?_ ?_ ?_ ?_ ?_
    · rw [ex_ar_same, ex_u_diff _ _ (by decide), kC5 hC _ (by omega) (by omega)]
    · rw [ex_ar_same, ex_u_diff _ _ (by decide), kC5 hC _ (by omega) (by omega)]
    · rw [ex_ar_same, ex_u_same, ex_u_same]
    · rw [ex_ar_same, ex_u_diff _ _ (by decide), ex_u_diff _ _ (by decide)]; exact hD.i9
    · rw [ex_ar_same, ex_u_diff _ _ (by decide), ex_u_diff _ _ (by decide)]; exact hD.i10
    · rw [ex_ar_same, ex_u_diff _ _ (by decide), ex_u_diff _ _ (by decide)]; exact hD.i11
    · rw [ex_ar_same, ex_u_diff _ _ (by decide), ex_u_diff _ _ (by decide)]; exact hD.i12
  have R1 : RG6 (ex_ar (kC σ) 5 (ex_u (σ 5) 8 0)) (σ 433) := RG_fr (G := 6) hR hN (fun a a1 a2 => by rw [ex_ar_diff _ _ _ (by omega), kC5 hC _ (by omega) (by omega)])
  have q : ∀ x, 28 ≤ x → x < 64 ∨ 432 ≤ x → (ex_ar (ex_ar (kC σ) 5 (ex_u (σ 5) 8 0)) 12 (fgF (σ 12) (σ 433 0).toNat)) x = σ x := fun x h1 h2 => by rw [ex_ar_diff _ _ _ (by omega), ex_ar_diff _ _ _ (by omega), kC5 hC _ (by omega) h2]
  have t2 : (ex_ar (ex_ar (kC σ) 5 (ex_u (σ 5) 8 0)) 12 (fgF (σ 12) (σ 433 0).toNat)) 432 = σ 432 := q _ (by omega) (by omega)
  have t3 : (ex_ar (ex_ar (kC σ) 5 (ex_u (σ 5) 8 0)) 12 (fgF (σ 12) (σ 433 0).toNat)) 433 = σ 433 := q _ (by omega) (by omega)
  have t5 : (ex_ar (ex_ar (kC σ) 5 (ex_u (σ 5) 8 0)) 12 (fgF (σ 12) (σ 433 0).toNat)) 435 = σ 435 := q _ (by omega) (by omega)
  have t6 : (ex_ar (ex_ar (kC σ) 5 (ex_u (σ 5) 8 0)) 12 (fgF (σ 12) (σ 433 0).toNat)) 436 = σ 436 := q _ (by omega) (by omega)
  have t7 : (ex_ar (ex_ar (kC σ) 5 (ex_u (σ 5) 8 0)) 12 (fgF (σ 12) (σ 433 0).toNat)) 437 = σ 437 := q _ (by omega) (by omega)
  have u1 : 0 ≤ (ex_ar (ex_ar (kC σ) 5 (ex_u (σ 5) 8 0)) 12 (fgF (σ 12) (σ 433 0).toNat)) 432 2 := by rw [t2]; exact k0
  have u2 : (ex_ar (ex_ar (kC σ) 5 (ex_u (σ 5) 8 0)) 12 (fgF (σ 12) (σ 433 0).toNat)) 432 2 ≤ 16 := by rw [t2]; exact k1
  have uN : NI ((ex_ar (ex_ar (kC σ) 5 (ex_u (σ 5) 8 0)) 12 (fgF (σ 12) (σ 433 0).toNat)) 433) := by rw [t3]; exact hN
  have uS : SI ((ex_ar (ex_ar (kC σ) 5 (ex_u (σ 5) 8 0)) 12 (fgF (σ 12) (σ 433 0).toNat)) 435) ((ex_ar (ex_ar (kC σ) 5 (ex_u (σ 5) 8 0)) 12 (fgF (σ 12) (σ 433 0).toNat)) 436) := by rw [t5, t6]; exact hC.si
  have := uN.a0; have := uN.b0; have := uN.a1; have := uN.b1; have := uN.a2; have := uN.b2; have := uN.a3; have := uN.b3; have := uN.a4; have := uN.b4; have := uN.a5; have := uN.b5; have := uN.a7; have := uN.b7; have := uN.a8; have := uN.b8; have := uN.a9; have := uN.b9; have := uN.a10; have := uN.b10
  have r := sp_175 (L := L) (d := d) (σ := ex_ar (ex_ar (kC σ) 5 (ex_u (σ 5) 8 0)) 12 (fgF (σ 12) (σ 433 0).toNat))  (by omega) (by first | assumption | exact uN.oM | exact uN.oP | omega) (by first | assumption | exact uN.oM | exact uN.oP | omega) (by first | assumption | exact uN.oM | exact uN.oP | omega)
  simp only [nightM, t3] at r
  refine ck_act (σ1 := ex_ar (ex_ar (kC σ) 5 (ex_u (σ 5) 8 0)) 12 (fgF (σ 12) (σ 433 0).toNat)) hC ?_ (fun x hx => by rw [ex_ar_diff _ _ _ (by omega), ex_ar_diff _ _ _ (by omega)]) r rfl ?_ ?_
  · (rw [ex_cd_eq (by omega)]; show ex_ev (d - 1) 97 0 [vR 4] [] _ = _; (repeat' first | simp (disch := first | assumption | omega | ((repeat' first | exact ok_nil | apply ok_I | apply ok_R); done) | (simp (disch := first | omega | decide) only [ex_ar_same, ex_ar_diff, kM_diff, ex_u_same, ex_u_diff]; first | assumption | omega)) only [ev_97_0, gf_4_0, gf_5_0, pf_5_8, x_push, x_ret1, xc_133, xc_33, xl_a0, i_wr_id, kM_diff, Int.reduceToNat, ex_ar_same, ex_ar_ar, ex_ar_diff, ex_u_same, ex_u_diff, b2i_t, b2i_f, ex_div_nn, ex_rem_nn, Int.toNat_zero, Int.toNat_one, Int.reduceAdd, Int.reduceSub, Int.reduceMul, Int.reduceNeg, kC_ne, fC_ne] | refine bb_eq (fun _ => ?_) (fun _ => ?_) | refine bb_ne (fun _ => ?_) (fun _ => ?_) | refine bc_eq (fun _ => ?_) (fun _ => ?_) | refine bc_ne (fun _ => ?_) (fun _ => ?_) | refine bc_lt (fun _ => ?_) (fun _ => ?_) | refine bc_ge (fun _ => ?_) (fun _ => ?_) | refine bc_gt (fun _ => ?_) (fun _ => ?_) | refine bc_le (fun _ => ?_) (fun _ => ?_) | refine bi_eq (fun _ => ?_) (fun _ => ?_) | refine bi_ne (fun _ => ?_) (fun _ => ?_) | refine bi_lt (fun _ => ?_) (fun _ => ?_) | refine bi_ge (fun _ => ?_) (fun _ => ?_) | refine bi_gt (fun _ => ?_) (fun _ => ?_) | refine bi_le (fun _ => ?_) (fun _ => ?_)))
  · have z : ∀ k : Int, (k < 41 ∨ 45 < k) → ex_u (nightF (σ 433) 5) 2 0 k = ex_u (σ 433) 2 0 k := by
      intro k hk
      by_cases y : k = 2
      · rw [y, ex_u_same, ex_u_same]
      · rw [ex_u_diff _ _ y, ex_u_diff _ _ y]; unfold nightF; rw [if_neg (by omega)]
    refine RD5_g D1 N1 (fun i hi => z i (by omega)) (RG_mod D1.g N1 (fun i hi => z i (by omega)) (fun a ha => ex_ar_diff _ _ _ (by omega)) (fun x x1 x2 => ?_) (fun x x1 x2 => ?_) (fun x x1 x2 => ?_) (fun x f x1 x2 f1 f2 => ?_)) (fun a ha => ex_ar_diff _ _ _ (by omega))
    · rw [ex_u_diff _ _ (by decide)] at x2
      rw [ex_ar_diff _ _ _ (by decide), z _ (by omega)]; exact D1.g.mi x x1 (by rw [ex_u_diff _ _ (by decide)]; exact x2)
    · rw [ex_u_diff _ _ (by decide)] at x2
      rw [ex_ar_same, ex_u_diff _ _ (by omega)]
      unfold fgF nightF
      rw [if_pos (by omega), if_pos (by omega)]
    · rw [ex_u_diff _ _ (by decide)] at x2
      rw [ex_ar_diff _ _ _ (by decide), z _ (by omega)]; exact D1.g.bk x x1 (by rw [ex_u_diff _ _ (by decide)]; exact x2)
    · rw [ex_ar_diff _ _ _ (by decide), z _ (by omega)]; exact D1.g.fa x f x1 x2 f1 f2
  · exact NI_night hN
theorem park_0 {n : Int → Int} {c l : Int} (h : parkN n c l = 0) : standN n c < 0 ∧ ¬ (n (31 + l) = 1 ∨ n (41 + l) = 12) := by
  unfold parkN at h
  by_cases h1 : 0 ≤ standN n c
  · rw [if_pos h1] at h; omega
  · rw [if_neg h1] at h
    refine ⟨by omega, fun q => ?_⟩
    by_cases h2 : ¬ (n (99 + c) ≤ n (21 + l) ∧ n (107 + c) ≤ n (26 + l))
    · rw [if_pos h2] at h; omega
    · rw [if_neg h2, if_pos q] at h; omega
theorem ck_94 {L d : Nat} {σ : ex_S} {c l : Int} (hC : CI σ) (hd : 20 < d) : CK 94 169 [vI c, vI l] σ L d := by
  (have p0 := hC.pr.p0; have p1 := hC.pr.p1; have k0 := hC.pr.k0; have k1 := hC.pr.k1; have kq := hC.pr.q; have q0 : 0 ≤ σ 4 10 := (by omega); have q1 : σ 4 10 ≤ 16 := (by omega); have hN := hC.ni; have hR := hC.rd.g; have hD := hC.rd; have hT := hC.st)
  have b0 := hN.b0
  have b1 := hN.b1
  by_cases g : (0 ≤ c ∧ c < σ 433 1) ∧ 0 ≤ l ∧ l < σ 433 0
  · obtain ⟨g1, g2⟩ := id g
    by_cases g3 : parkN (σ 433) c l = 0
    · obtain ⟨s1, s2⟩ := park_0 g3
      have m := hN.oM l g2.1 (by omega)
      have y := hN.cy l g2.1 (by omega)
      have m8 : σ 433 (46 + l) < 8 := by
        have := cntS_lt (σ 433) g1.1 (by omega) s1
        have := many_one hN g2.1 (show l < 5 by omega)
        omega
      have e1 : kC σ 14 l = σ 433 (46 + l) := by rw [kC5 hC _ (by omega) (by omega)]; exact hR.st l g2.1 g2.2
      have e2 : kC σ 12 l = σ 433 (41 + l) := by rw [kC5 hC _ (by omega) (by omega)]; exact hR.cy l g2.1 g2.2
      have e3 : kC σ 7 l = σ 433 (11 + l) := by rw [kC5 hC _ (by omega) (by omega)]; exact hR.kd l g2.1 g2.2
      have e4 : brG 6 (kC σ) c l (l * 8 + σ 433 (46 + l)) (σ 433 (46 + l) + 1) (σ 433 (41 + l) + cyk (σ 433 (11 + l))) 14 l = σ 433 (46 + l) + 1 := (congrFun (brG_8 (g := 6)) l).trans (ex_u_same _ _ _)
      have e5 : comesF (σ 433) c l (46 + l) = σ 433 (46 + l) + 1 := by unfold comesF; rw [turnF_ne _ _ (by omega), ex_u_same]
      have q : ∀ x, 28 ≤ x → x < 64 ∨ 432 ≤ x → (brG 6 (kC σ) c l (l * 8 + σ 433 (46 + l)) (σ 433 (46 + l) + 1) (σ 433 (41 + l) + cyk (σ 433 (11 + l)))) x = σ x := fun x h1 h2 => by rw [brG_ne (by omega) (by omega) (by omega) (by omega), kC5 hC _ (by omega) h2]
      have t2 : (brG 6 (kC σ) c l (l * 8 + σ 433 (46 + l)) (σ 433 (46 + l) + 1) (σ 433 (41 + l) + cyk (σ 433 (11 + l)))) 432 = σ 432 := q _ (by omega) (by omega)
      have t3 : (brG 6 (kC σ) c l (l * 8 + σ 433 (46 + l)) (σ 433 (46 + l) + 1) (σ 433 (41 + l) + cyk (σ 433 (11 + l)))) 433 = σ 433 := q _ (by omega) (by omega)
      have t5 : (brG 6 (kC σ) c l (l * 8 + σ 433 (46 + l)) (σ 433 (46 + l) + 1) (σ 433 (41 + l) + cyk (σ 433 (11 + l)))) 435 = σ 435 := q _ (by omega) (by omega)
      have t6 : (brG 6 (kC σ) c l (l * 8 + σ 433 (46 + l)) (σ 433 (46 + l) + 1) (σ 433 (41 + l) + cyk (σ 433 (11 + l)))) 436 = σ 436 := q _ (by omega) (by omega)
      have t7 : (brG 6 (kC σ) c l (l * 8 + σ 433 (46 + l)) (σ 433 (46 + l) + 1) (σ 433 (41 + l) + cyk (σ 433 (11 + l)))) 437 = σ 437 := q _ (by omega) (by omega)
      have u1 : 0 ≤ (brG 6 (kC σ) c l (l * 8 + σ 433 (46 + l)) (σ 433 (46 + l) + 1) (σ 433 (41 + l) + cyk (σ 433 (11 + l)))) 432 2 := by rw [t2]; exact k0
      have u2 : (brG 6 (kC σ) c l (l * 8 + σ 433 (46 + l)) (σ 433 (46 + l) + 1) (σ 433 (41 + l) + cyk (σ 433 (11 + l)))) 432 2 ≤ 16 := by rw [t2]; exact k1
      have uN : NI ((brG 6 (kC σ) c l (l * 8 + σ 433 (46 + l)) (σ 433 (46 + l) + 1) (σ 433 (41 + l) + cyk (σ 433 (11 + l)))) 433) := by rw [t3]; exact hN
      have uS : SI ((brG 6 (kC σ) c l (l * 8 + σ 433 (46 + l)) (σ 433 (46 + l) + 1) (σ 433 (41 + l) + cyk (σ 433 (11 + l)))) 435) ((brG 6 (kC σ) c l (l * 8 + σ 433 (46 + l)) (σ 433 (46 + l) + 1) (σ 433 (41 + l) + cyk (σ 433 (11 + l)))) 436) := by rw [t5, t6]; exact hC.si
      have := uN.a0; have := uN.b0; have := uN.a1; have := uN.b1; have := uN.a2; have := uN.b2; have := uN.a3; have := uN.b3; have := uN.a4; have := uN.b4; have := uN.a5; have := uN.b5; have := uN.a7; have := uN.b7; have := uN.a8; have := uN.b8; have := uN.a9; have := uN.b9; have := uN.a10; have := uN.b10
      have r := sp_169 (L := L) (d := d) (σ := brG 6 (kC σ) c l (l * 8 + σ 433 (46 + l)) (σ 433 (46 + l) + 1) (σ 433 (41 + l) + cyk (σ 433 (11 + l)))) (c := c) (l := l) (by omega) (by first | assumption | exact uN.oM | exact uN.oP | omega) (by first | assumption | exact uN.oM | exact uN.oP | omega) (by first | assumption | exact uN.oM | exact uN.oP | omega)
      simp only [parkM, t3, if_pos g, if_pos g3, e5] at r
      refine ck_act (σ1 := brG 6 (kC σ) c l (l * 8 + σ 433 (46 + l)) (σ 433 (46 + l) + 1) (σ 433 (41 + l) + cyk (σ 433 (11 + l)))) hC ?_ (fun x hx => brG_ne (by omega) (by omega) (by omega) (by omega)) r rfl ?_ ?_
      · (rw [ex_cd_eq (by omega)]; show ex_ev (d - 1) 94 0 [vR 4, vI c, vI l, vL 0, vL 0] [] _ = _; (repeat' first | simp (disch := first | assumption | omega | ((repeat' first | exact ok_nil | apply ok_I | apply ok_R); done) | (simp (disch := first | omega | decide) only [ex_ar_same, ex_ar_diff, kM_diff, ex_u_same, ex_u_diff]; first | assumption | omega)) only [e4, ev_94_0, ev_94_1, ev_94_2, ev_94_3, gf_35_9, gf_4_0, gf_5_0, gf_6_9, ld_14, ld_43, x_fall, x_push, x_ret1, xc_132, xc_133, xc_13_35, xc_13_6, xc_14_35, xc_14_6, xc_27_35, xc_27_6, xc_29_35, xc_29_6, xl_a0, xl_a3, xl_i1, xl_i2, xl_i4, xt_a3, xt_i4, y_if_eq_f, y_if_eq_t, y_if_ne_f, y_if_ne_t, i_wr_id, kM_diff, Int.reduceToNat, ex_ar_same, ex_ar_ar, ex_ar_diff, ex_u_same, ex_u_diff, b2i_t, b2i_f, ex_div_nn, ex_rem_nn, Int.toNat_zero, Int.toNat_one, Int.reduceAdd, Int.reduceSub, Int.reduceMul, Int.reduceNeg, kC_ne, fC_ne] | refine bb_eq (fun _ => ?_) (fun _ => ?_) | refine bb_ne (fun _ => ?_) (fun _ => ?_) | refine bc_eq (fun _ => ?_) (fun _ => ?_) | refine bc_ne (fun _ => ?_) (fun _ => ?_) | refine bc_lt (fun _ => ?_) (fun _ => ?_) | refine bc_ge (fun _ => ?_) (fun _ => ?_) | refine bc_gt (fun _ => ?_) (fun _ => ?_) | refine bc_le (fun _ => ?_) (fun _ => ?_) | refine bi_eq (fun _ => ?_) (fun _ => ?_) | refine bi_ne (fun _ => ?_) (fun _ => ?_) | refine bi_lt (fun _ => ?_) (fun _ => ?_) | refine bi_ge (fun _ => ?_) (fun _ => ?_) | refine bi_gt (fun _ => ?_) (fun _ => ?_) | refine bi_le (fun _ => ?_) (fun _ => ?_)))
      · exact RD5_g (RD5_kC hC) hN (fun i hi => comesF_ne _ _ _ (by omega) (by omega) (by omega)) (RG_bring (g := 6) (RD5_kC hC).g hN g1.1 g1.2 g2.1 g2.2 s1 (fun q => s2 (Or.inr q)) m8) (fun a ha => brG_ne (by omega) (by omega) (by omega) (by omega))
      · exact NI_comes hN g1.1 g1.2 g2.1 g2.2 s1 (fun q => s2 (Or.inr q))
    · have t2 : (fC σ) 432 = σ 432 := fC_ne _ (by decide)
      have t3 : (fC σ) 433 = σ 433 := fC_ne _ (by decide)
      have t5 : (fC σ) 435 = σ 435 := fC_ne _ (by decide)
      have t6 : (fC σ) 436 = σ 436 := fC_ne _ (by decide)
      have t7 : (fC σ) 437 = σ 437 := fC_ne _ (by decide)
      have u1 : 0 ≤ (fC σ) 432 2 := by rw [t2]; exact k0
      have u2 : (fC σ) 432 2 ≤ 16 := by rw [t2]; exact k1
      have uN : NI ((fC σ) 433) := by rw [t3]; exact hN
      have uS : SI ((fC σ) 435) ((fC σ) 436) := by rw [t5, t6]; exact hC.si
      have := uN.a0; have := uN.b0; have := uN.a1; have := uN.b1; have := uN.a2; have := uN.b2; have := uN.a3; have := uN.b3; have := uN.a4; have := uN.b4; have := uN.a5; have := uN.b5; have := uN.a7; have := uN.b7; have := uN.a8; have := uN.b8; have := uN.a9; have := uN.b9; have := uN.a10; have := uN.b10
      have r := sp_169 (L := L) (d := d) (σ := fC σ) (c := c) (l := l) (by omega) (by first | assumption | exact uN.oM | exact uN.oP | omega) (by first | assumption | exact uN.oM | exact uN.oP | omega) (by first | assumption | exact uN.oM | exact uN.oP | omega)
      simp only [parkM, t3, if_pos g, if_neg g3] at r
      refine ck_fnd hC ?_ r
      (rw [ex_cd_eq (by omega)]; show ex_ev (d - 1) 94 0 [vR 4, vI c, vI l, vL 0, vL 0] [] _ = _; (repeat' first | simp (disch := first | assumption | omega | ((repeat' first | exact ok_nil | apply ok_I | apply ok_R); done) | (simp (disch := first | omega | decide) only [ex_ar_same, ex_ar_diff, kM_diff, ex_u_same, ex_u_diff]; first | assumption | omega)) only [ev_94_0, ev_94_1, ev_94_2, ev_94_3, gf_35_9, gf_4_0, gf_5_0, gf_6_9, ld_14, ld_43, x_fall, x_push, x_ret1, xc_132, xc_133, xc_13_35, xc_13_6, xc_14_35, xc_14_6, xc_27_35, xc_27_6, xc_29_35, xc_29_6, xl_a0, xl_a3, xl_i1, xl_i2, xl_i4, xt_a3, xt_i4, y_if_eq_f, y_if_eq_t, y_if_ne_f, y_if_ne_t, i_wr_id, kM_diff, Int.reduceToNat, ex_ar_same, ex_ar_ar, ex_ar_diff, ex_u_same, ex_u_diff, b2i_t, b2i_f, ex_div_nn, ex_rem_nn, Int.toNat_zero, Int.toNat_one, Int.reduceAdd, Int.reduceSub, Int.reduceMul, Int.reduceNeg, kC_ne, fC_ne] | refine bb_eq (fun _ => ?_) (fun _ => ?_) | refine bb_ne (fun _ => ?_) (fun _ => ?_) | refine bc_eq (fun _ => ?_) (fun _ => ?_) | refine bc_ne (fun _ => ?_) (fun _ => ?_) | refine bc_lt (fun _ => ?_) (fun _ => ?_) | refine bc_ge (fun _ => ?_) (fun _ => ?_) | refine bc_gt (fun _ => ?_) (fun _ => ?_) | refine bc_le (fun _ => ?_) (fun _ => ?_) | refine bi_eq (fun _ => ?_) (fun _ => ?_) | refine bi_ne (fun _ => ?_) (fun _ => ?_) | refine bi_lt (fun _ => ?_) (fun _ => ?_) | refine bi_ge (fun _ => ?_) (fun _ => ?_) | refine bi_gt (fun _ => ?_) (fun _ => ?_) | refine bi_le (fun _ => ?_) (fun _ => ?_)))
  · have t2 : (fC σ) 432 = σ 432 := fC_ne _ (by decide)
    have t3 : (fC σ) 433 = σ 433 := fC_ne _ (by decide)
    have t5 : (fC σ) 435 = σ 435 := fC_ne _ (by decide)
    have t6 : (fC σ) 436 = σ 436 := fC_ne _ (by decide)
    have t7 : (fC σ) 437 = σ 437 := fC_ne _ (by decide)
    have u1 : 0 ≤ (fC σ) 432 2 := by rw [t2]; exact k0
    have u2 : (fC σ) 432 2 ≤ 16 := by rw [t2]; exact k1
    have uN : NI ((fC σ) 433) := by rw [t3]; exact hN
    have uS : SI ((fC σ) 435) ((fC σ) 436) := by rw [t5, t6]; exact hC.si
    have := uN.a0; have := uN.b0; have := uN.a1; have := uN.b1; have := uN.a2; have := uN.b2; have := uN.a3; have := uN.b3; have := uN.a4; have := uN.b4; have := uN.a5; have := uN.b5; have := uN.a7; have := uN.b7; have := uN.a8; have := uN.b8; have := uN.a9; have := uN.b9; have := uN.a10; have := uN.b10
    have r := sp_169 (L := L) (d := d) (σ := fC σ) (c := c) (l := l) (by omega) (by first | assumption | exact uN.oM | exact uN.oP | omega) (by first | assumption | exact uN.oM | exact uN.oP | omega) (by first | assumption | exact uN.oM | exact uN.oP | omega)
    simp only [parkM, t3, if_neg g] at r
    refine ck_fnd hC ?_ r
    (rw [ex_cd_eq (by omega)]; show ex_ev (d - 1) 94 0 [vR 4, vI c, vI l, vL 0, vL 0] [] _ = _; (repeat' first | simp (disch := first | assumption | omega | ((repeat' first | exact ok_nil | apply ok_I | apply ok_R); done) | (simp (disch := first | omega | decide) only [ex_ar_same, ex_ar_diff, kM_diff, ex_u_same, ex_u_diff]; first | assumption | omega)) only [ev_94_0, ev_94_1, ev_94_2, ev_94_3, gf_35_9, gf_4_0, gf_5_0, gf_6_9, ld_14, ld_43, x_fall, x_push, x_ret1, xc_132, xc_133, xc_13_35, xc_13_6, xc_14_35, xc_14_6, xc_27_35, xc_27_6, xc_29_35, xc_29_6, xl_a0, xl_a3, xl_i1, xl_i2, xl_i4, xt_a3, xt_i4, y_if_eq_f, y_if_eq_t, y_if_ne_f, y_if_ne_t, i_wr_id, kM_diff, Int.reduceToNat, ex_ar_same, ex_ar_ar, ex_ar_diff, ex_u_same, ex_u_diff, b2i_t, b2i_f, ex_div_nn, ex_rem_nn, Int.toNat_zero, Int.toNat_one, Int.reduceAdd, Int.reduceSub, Int.reduceMul, Int.reduceNeg, kC_ne, fC_ne] | refine bb_eq (fun _ => ?_) (fun _ => ?_) | refine bb_ne (fun _ => ?_) (fun _ => ?_) | refine bc_eq (fun _ => ?_) (fun _ => ?_) | refine bc_ne (fun _ => ?_) (fun _ => ?_) | refine bc_lt (fun _ => ?_) (fun _ => ?_) | refine bc_ge (fun _ => ?_) (fun _ => ?_) | refine bc_gt (fun _ => ?_) (fun _ => ?_) | refine bc_le (fun _ => ?_) (fun _ => ?_) | refine bi_eq (fun _ => ?_) (fun _ => ?_) | refine bi_ne (fun _ => ?_) (fun _ => ?_) | refine bi_lt (fun _ => ?_) (fun _ => ?_) | refine bi_ge (fun _ => ?_) (fun _ => ?_) | refine bi_gt (fun _ => ?_) (fun _ => ?_) | refine bi_le (fun _ => ?_) (fun _ => ?_)))
    all_goals exact absurd ⟨by assumption, by assumption⟩ g
theorem sp_134 {d : Nat} (hd : 1 < d) {L : Nat} {σ : ex_S} {n : Int → Int} {c : Int} (hR : RG6 σ n) (hN : NI n) : ex_cd d 134 [vR 4, vI c] (SH L, σ) = some ([vI (if 0 ≤ c ∧ c < n 1 then (if standN n c < 0 then -100006 else 0) else -100001)], (SH L, σ)) := by
  rw [ex_cd_eq (by omega)]
  show ex_ev (d - 1) 134 0 [vR 4, vI c] [] (SH L, σ) = _
  have b1 := hN.b1
  by_cases g : 0 ≤ c ∧ c < n 1
  · rw [if_pos g]
    have e := hR.wh c g.1 g.2
    rcases stand_lo n c hN.b0 hN.oM with q | ⟨q1, q2, q3, q4, q5⟩
    · rw [if_pos (by omega)] at e ⊢
      (repeat' first | simp (disch := first | assumption | omega | ((repeat' first | exact ok_nil | apply ok_I | apply ok_R); done) | (simp (disch := first | omega | decide) only [ex_ar_same, ex_ar_diff, kM_diff, ex_u_same, ex_u_diff]; first | assumption | omega)) only [ev_134_0, ev_134_1, ev_134_2, ev_134_3, gf_35_12, gf_4_0, gf_5_0, gf_6_12, ld_17, ld_46, x_fall, x_goto, x_push, x_ret1, xc_14_35, xc_14_6, xl_a0, xl_i1, y_cmp_ne_f, y_cmp_ne_t, y_if_ne_f, y_if_ne_t, i_wr_id, kM_diff, Int.reduceToNat, ex_ar_same, ex_ar_ar, ex_ar_diff, ex_u_same, ex_u_diff, b2i_t, b2i_f, ex_div_nn, ex_rem_nn, Int.toNat_zero, Int.toNat_one, Int.reduceAdd, Int.reduceSub, Int.reduceMul, Int.reduceNeg, kC_ne, fC_ne] | refine bb_eq (fun _ => ?_) (fun _ => ?_) | refine bb_ne (fun _ => ?_) (fun _ => ?_) | refine bc_eq (fun _ => ?_) (fun _ => ?_) | refine bc_ne (fun _ => ?_) (fun _ => ?_) | refine bc_lt (fun _ => ?_) (fun _ => ?_) | refine bc_ge (fun _ => ?_) (fun _ => ?_) | refine bc_gt (fun _ => ?_) (fun _ => ?_) | refine bc_le (fun _ => ?_) (fun _ => ?_) | refine bi_eq (fun _ => ?_) (fun _ => ?_) | refine bi_ne (fun _ => ?_) (fun _ => ?_) | refine bi_lt (fun _ => ?_) (fun _ => ?_) | refine bi_ge (fun _ => ?_) (fun _ => ?_) | refine bi_gt (fun _ => ?_) (fun _ => ?_) | refine bi_le (fun _ => ?_) (fun _ => ?_))
    · rw [if_neg (by omega)] at e ⊢
      (repeat' first | simp (disch := first | assumption | omega | ((repeat' first | exact ok_nil | apply ok_I | apply ok_R); done) | (simp (disch := first | omega | decide) only [ex_ar_same, ex_ar_diff, kM_diff, ex_u_same, ex_u_diff]; first | assumption | omega)) only [ev_134_0, ev_134_1, ev_134_2, ev_134_3, gf_35_12, gf_4_0, gf_5_0, gf_6_12, ld_17, ld_46, x_fall, x_goto, x_push, x_ret1, xc_14_35, xc_14_6, xl_a0, xl_i1, y_cmp_ne_f, y_cmp_ne_t, y_if_ne_f, y_if_ne_t, i_wr_id, kM_diff, Int.reduceToNat, ex_ar_same, ex_ar_ar, ex_ar_diff, ex_u_same, ex_u_diff, b2i_t, b2i_f, ex_div_nn, ex_rem_nn, Int.toNat_zero, Int.toNat_one, Int.reduceAdd, Int.reduceSub, Int.reduceMul, Int.reduceNeg, kC_ne, fC_ne] | refine bb_eq (fun _ => ?_) (fun _ => ?_) | refine bb_ne (fun _ => ?_) (fun _ => ?_) | refine bc_eq (fun _ => ?_) (fun _ => ?_) | refine bc_ne (fun _ => ?_) (fun _ => ?_) | refine bc_lt (fun _ => ?_) (fun _ => ?_) | refine bc_ge (fun _ => ?_) (fun _ => ?_) | refine bc_gt (fun _ => ?_) (fun _ => ?_) | refine bc_le (fun _ => ?_) (fun _ => ?_) | refine bi_eq (fun _ => ?_) (fun _ => ?_) | refine bi_ne (fun _ => ?_) (fun _ => ?_) | refine bi_lt (fun _ => ?_) (fun _ => ?_) | refine bi_ge (fun _ => ?_) (fun _ => ?_) | refine bi_gt (fun _ => ?_) (fun _ => ?_) | refine bi_le (fun _ => ?_) (fun _ => ?_))
  · rw [if_neg g]
    (repeat' first | simp (disch := first | assumption | omega | ((repeat' first | exact ok_nil | apply ok_I | apply ok_R); done) | (simp (disch := first | omega | decide) only [ex_ar_same, ex_ar_diff, kM_diff, ex_u_same, ex_u_diff]; first | assumption | omega)) only [ev_134_0, ev_134_1, ev_134_2, ev_134_3, gf_35_12, gf_4_0, gf_5_0, gf_6_12, ld_17, ld_46, x_fall, x_goto, x_push, x_ret1, xc_14_35, xc_14_6, xl_a0, xl_i1, y_cmp_ne_f, y_cmp_ne_t, y_if_ne_f, y_if_ne_t, i_wr_id, kM_diff, Int.reduceToNat, ex_ar_same, ex_ar_ar, ex_ar_diff, ex_u_same, ex_u_diff, b2i_t, b2i_f, ex_div_nn, ex_rem_nn, Int.toNat_zero, Int.toNat_one, Int.reduceAdd, Int.reduceSub, Int.reduceMul, Int.reduceNeg, kC_ne, fC_ne] | refine bb_eq (fun _ => ?_) (fun _ => ?_) | refine bb_ne (fun _ => ?_) (fun _ => ?_) | refine bc_eq (fun _ => ?_) (fun _ => ?_) | refine bc_ne (fun _ => ?_) (fun _ => ?_) | refine bc_lt (fun _ => ?_) (fun _ => ?_) | refine bc_ge (fun _ => ?_) (fun _ => ?_) | refine bc_gt (fun _ => ?_) (fun _ => ?_) | refine bc_le (fun _ => ?_) (fun _ => ?_) | refine bi_eq (fun _ => ?_) (fun _ => ?_) | refine bi_ne (fun _ => ?_) (fun _ => ?_) | refine bi_lt (fun _ => ?_) (fun _ => ?_) | refine bi_ge (fun _ => ?_) (fun _ => ?_) | refine bi_gt (fun _ => ?_) (fun _ => ?_) | refine bi_le (fun _ => ?_) (fun _ => ?_))
theorem xc_134 {rt d : Nat} {J : Nat → List ex_V → List ex_V → ex_H → Option ex_R} {is : List Instr} {ls st : List ex_V} {L : Nat} {σ : ex_S} {n : Int → Int} {c : Int} (hR : RG6 σ n) (hN : NI n) (hd : 1 < d) (hok : okN 8 st = true) : ex_xs rt J (ex_cd d) (.invokevirtual 134 :: is) ls (vI c :: vR 4 :: st) (SH L, σ) = ex_xs rt J (ex_cd d) is ls (vI (if 0 ≤ c ∧ c < n 1 then (if standN n c < 0 then -100006 else 0) else -100001) :: st) (SH L, σ) := x_call1 (Or.inl rfl) rfl (sh_4 _) (Or.inl ⟨rfl, rfl⟩) (as := [vI c]) rfl rfl (okN_ok hok) rfl (sp_134 hd hR hN)
theorem ck_96 {L d : Nat} {σ : ex_S} {c : Int} (hC : CI σ) (hd : 20 < d) : CK 96 174 [vI c] σ L d := by
  (have p0 := hC.pr.p0; have p1 := hC.pr.p1; have k0 := hC.pr.k0; have k1 := hC.pr.k1; have kq := hC.pr.q; have q0 : 0 ≤ σ 4 10 := (by omega); have q1 : σ 4 10 ≤ 16 := (by omega); have hN := hC.ni; have hR := hC.rd.g; have hD := hC.rd; have hT := hC.st)
  have b0 := hN.b0
  have b1 := hN.b1
  by_cases g : 0 ≤ c ∧ c < σ 433 1
  · by_cases g2 : standN (σ 433) c < 0
    · have t2 : (fC σ) 432 = σ 432 := fC_ne _ (by decide)
      have t3 : (fC σ) 433 = σ 433 := fC_ne _ (by decide)
      have t5 : (fC σ) 435 = σ 435 := fC_ne _ (by decide)
      have t6 : (fC σ) 436 = σ 436 := fC_ne _ (by decide)
      have t7 : (fC σ) 437 = σ 437 := fC_ne _ (by decide)
      have u1 : 0 ≤ (fC σ) 432 2 := by rw [t2]; exact k0
      have u2 : (fC σ) 432 2 ≤ 16 := by rw [t2]; exact k1
      have uN : NI ((fC σ) 433) := by rw [t3]; exact hN
      have uS : SI ((fC σ) 435) ((fC σ) 436) := by rw [t5, t6]; exact hC.si
      have := uN.a0; have := uN.b0; have := uN.a1; have := uN.b1; have := uN.a2; have := uN.b2; have := uN.a3; have := uN.b3; have := uN.a4; have := uN.b4; have := uN.a5; have := uN.b5; have := uN.a7; have := uN.b7; have := uN.a8; have := uN.b8; have := uN.a9; have := uN.b9; have := uN.a10; have := uN.b10
      have iz : (if 0 ≤ c ∧ c < σ 433 1 then (if standN (σ 433) c < 0 then -100006 else 0) else -100001 : Int) = -100006 := by rw [if_pos g, if_pos g2]
      have r := sp_174 (L := L) (d := d) (σ := fC σ) (c := c) (by omega) (by first | assumption | exact uN.oM | exact uN.oP | omega) (by first | assumption | exact uN.oM | exact uN.oP | omega) (by first | assumption | exact uN.oM | exact uN.oP | omega)
      simp only [leaveM, t3, if_pos g, if_pos g2] at r
      refine ck_fnd hC ?_ r
      (rw [ex_cd_eq (by omega)]; show ex_ev (d - 1) 96 0 [vR 4, vI c, vL 0, vL 0] [] _ = _; (repeat' first | simp (disch := first | assumption | omega | ((repeat' first | exact ok_nil | apply ok_I | apply ok_R); done) | (simp (disch := first | omega | decide) only [ex_ar_same, ex_ar_diff, kM_diff, ex_u_same, ex_u_diff]; first | assumption | omega)) only [ev_96_0, ev_96_1, ev_96_2, gf_4_0, gf_5_0, iz, x_push, x_ret1, xc_132, xc_133, xc_134, xc_17_35, xc_17_6, xc_26_35, xc_26_6, xc_30_35, xc_30_6, xl_a0, xl_a2, xl_i1, xl_i3, xt_a2, xt_i3, y_if_eq_f, y_if_eq_t, y_if_ne_f, y_if_ne_t, i_wr_id, kM_diff, Int.reduceToNat, ex_ar_same, ex_ar_ar, ex_ar_diff, ex_u_same, ex_u_diff, b2i_t, b2i_f, ex_div_nn, ex_rem_nn, Int.toNat_zero, Int.toNat_one, Int.reduceAdd, Int.reduceSub, Int.reduceMul, Int.reduceNeg, kC_ne, fC_ne] | refine bb_eq (fun _ => ?_) (fun _ => ?_) | refine bb_ne (fun _ => ?_) (fun _ => ?_) | refine bc_eq (fun _ => ?_) (fun _ => ?_) | refine bc_ne (fun _ => ?_) (fun _ => ?_) | refine bc_lt (fun _ => ?_) (fun _ => ?_) | refine bc_ge (fun _ => ?_) (fun _ => ?_) | refine bc_gt (fun _ => ?_) (fun _ => ?_) | refine bc_le (fun _ => ?_) (fun _ => ?_) | refine bi_eq (fun _ => ?_) (fun _ => ?_) | refine bi_ne (fun _ => ?_) (fun _ => ?_) | refine bi_lt (fun _ => ?_) (fun _ => ?_) | refine bi_ge (fun _ => ?_) (fun _ => ?_) | refine bi_gt (fun _ => ?_) (fun _ => ?_) | refine bi_le (fun _ => ?_) (fun _ => ?_)))
    · have iz : (if 0 ≤ c ∧ c < σ 433 1 then (if standN (σ 433) c < 0 then -100006 else 0) else -100001 : Int) = 0 := by rw [if_pos g, if_neg g2]
      by_cases g3 : freeP (σ 433) c
      · obtain ⟨f1, f2, f3, f4, f5, f6, f7, f8⟩ := free_lo hN g3
        have m := hN.oM (standN (σ 433) c / 8) (by omega) f3
        have y := hN.cy (standN (σ 433) c / 8) (by omega) f3
        have e0 : kC σ 17 c = standN (σ 433) c / 8 := by rw [kC5 hC _ (by omega) (by omega), hR.wh c g.1 g.2, if_neg g2]
        have e1 : kC σ 14 (standN (σ 433) c / 8) = σ 433 (46 + standN (σ 433) c / 8) := by rw [kC5 hC _ (by omega) (by omega)]; exact hR.st _ (by omega) f2
        have e2 : kC σ 12 (standN (σ 433) c / 8) = σ 433 (41 + standN (σ 433) c / 8) := by rw [kC5 hC _ (by omega) (by omega)]; exact hR.cy _ (by omega) f2
        have e3 : kC σ 7 (standN (σ 433) c / 8) = σ 433 (11 + standN (σ 433) c / 8) := by rw [kC5 hC _ (by omega) (by omega)]; exact hR.kd _ (by omega) f2
        have R2 : RG6 (tkG 6 (kC σ) c (standN (σ 433) c / 8) (σ 433 (46 + standN (σ 433) c / 8) - 1) (σ 433 (41 + standN (σ 433) c / 8) + cyk (σ 433 (11 + standN (σ 433) c / 8)))) (goesF (σ 433) (standN (σ 433) c / 8)) := RG_take (g := 6) (RD5_kC hC).g hN g.1 g.2 g3 rfl
        have N2 : NI (goesF (σ 433) (standN (σ 433) c / 8)) := NI_goes hN (by omega) f2 f7 f4
        have z1 : goesF (σ 433) (standN (σ 433) c / 8) 1 = σ 433 1 := goesF_ne _ _ (by omega) (by omega)
        have z2 : c < goesF (σ 433) (standN (σ 433) c / 8) 1 := by rw [z1]; exact g.2
        have z3 : goesF (σ 433) (standN (σ 433) c / 8) (91 + 8 * 3 + c) = σ 433 (115 + c) := by rw [goesF_ne _ _ (by omega) (by omega), show (91 + 8 * 3 + c : Int) = 115 + c by omega]
        have z4 : goesF (σ 433) (standN (σ 433) c / 8) (91 + 24 + c) = σ 433 (115 + c) := by rw [goesF_ne _ _ (by omega) (by omega), show (91 + 24 + c : Int) = 115 + c by omega]
        have z5 : goesF (σ 433) (standN (σ 433) c / 8) (115 + c) = σ 433 (115 + c) := by rw [goesF_ne _ _ (by omega) (by omega)]
        have q : ∀ x, 28 ≤ x → x < 64 ∨ 432 ≤ x → (tkG 6 (kC σ) c (standN (σ 433) c / 8) (σ 433 (46 + standN (σ 433) c / 8) - 1) (σ 433 (41 + standN (σ 433) c / 8) + cyk (σ 433 (11 + standN (σ 433) c / 8)))) x = σ x := fun x h1 h2 => by rw [tkG_ne (by omega) (by omega) (by omega), kC5 hC _ (by omega) h2]
        have t2 : (tkG 6 (kC σ) c (standN (σ 433) c / 8) (σ 433 (46 + standN (σ 433) c / 8) - 1) (σ 433 (41 + standN (σ 433) c / 8) + cyk (σ 433 (11 + standN (σ 433) c / 8)))) 432 = σ 432 := q _ (by omega) (by omega)
        have t3 : (tkG 6 (kC σ) c (standN (σ 433) c / 8) (σ 433 (46 + standN (σ 433) c / 8) - 1) (σ 433 (41 + standN (σ 433) c / 8) + cyk (σ 433 (11 + standN (σ 433) c / 8)))) 433 = σ 433 := q _ (by omega) (by omega)
        have t5 : (tkG 6 (kC σ) c (standN (σ 433) c / 8) (σ 433 (46 + standN (σ 433) c / 8) - 1) (σ 433 (41 + standN (σ 433) c / 8) + cyk (σ 433 (11 + standN (σ 433) c / 8)))) 435 = σ 435 := q _ (by omega) (by omega)
        have t6 : (tkG 6 (kC σ) c (standN (σ 433) c / 8) (σ 433 (46 + standN (σ 433) c / 8) - 1) (σ 433 (41 + standN (σ 433) c / 8) + cyk (σ 433 (11 + standN (σ 433) c / 8)))) 436 = σ 436 := q _ (by omega) (by omega)
        have t7 : (tkG 6 (kC σ) c (standN (σ 433) c / 8) (σ 433 (46 + standN (σ 433) c / 8) - 1) (σ 433 (41 + standN (σ 433) c / 8) + cyk (σ 433 (11 + standN (σ 433) c / 8)))) 437 = σ 437 := q _ (by omega) (by omega)
        have u1 : 0 ≤ (tkG 6 (kC σ) c (standN (σ 433) c / 8) (σ 433 (46 + standN (σ 433) c / 8) - 1) (σ 433 (41 + standN (σ 433) c / 8) + cyk (σ 433 (11 + standN (σ 433) c / 8)))) 432 2 := by rw [t2]; exact k0
        have u2 : (tkG 6 (kC σ) c (standN (σ 433) c / 8) (σ 433 (46 + standN (σ 433) c / 8) - 1) (σ 433 (41 + standN (σ 433) c / 8) + cyk (σ 433 (11 + standN (σ 433) c / 8)))) 432 2 ≤ 16 := by rw [t2]; exact k1
        have uN : NI ((tkG 6 (kC σ) c (standN (σ 433) c / 8) (σ 433 (46 + standN (σ 433) c / 8) - 1) (σ 433 (41 + standN (σ 433) c / 8) + cyk (σ 433 (11 + standN (σ 433) c / 8)))) 433) := by rw [t3]; exact hN
        have uS : SI ((tkG 6 (kC σ) c (standN (σ 433) c / 8) (σ 433 (46 + standN (σ 433) c / 8) - 1) (σ 433 (41 + standN (σ 433) c / 8) + cyk (σ 433 (11 + standN (σ 433) c / 8)))) 435) ((tkG 6 (kC σ) c (standN (σ 433) c / 8) (σ 433 (46 + standN (σ 433) c / 8) - 1) (σ 433 (41 + standN (σ 433) c / 8) + cyk (σ 433 (11 + standN (σ 433) c / 8)))) 436) := by rw [t5, t6]; exact hC.si
        have := uN.a0; have := uN.b0; have := uN.a1; have := uN.b1; have := uN.a2; have := uN.b2; have := uN.a3; have := uN.b3; have := uN.a4; have := uN.b4; have := uN.a5; have := uN.b5; have := uN.a7; have := uN.b7; have := uN.a8; have := uN.b8; have := uN.a9; have := uN.b9; have := uN.a10; have := uN.b10
        have r := sp_174 (L := L) (d := d) (σ := tkG 6 (kC σ) c (standN (σ 433) c / 8) (σ 433 (46 + standN (σ 433) c / 8) - 1) (σ 433 (41 + standN (σ 433) c / 8) + cyk (σ 433 (11 + standN (σ 433) c / 8)))) (c := c) (by omega) (by first | assumption | exact uN.oM | exact uN.oP | omega) (by first | assumption | exact uN.oM | exact uN.oP | omega) (by first | assumption | exact uN.oM | exact uN.oP | omega)
        simp only [leaveM, t3, if_pos g, if_neg g2, if_pos g3] at r
        refine ck_act (σ1 := tkG 6 (kC σ) c (standN (σ 433) c / 8) (σ 433 (46 + standN (σ 433) c / 8) - 1) (σ 433 (41 + standN (σ 433) c / 8) + cyk (σ 433 (11 + standN (σ 433) c / 8)))) hC ?_ (fun x hx => tkG_ne (by omega) (by omega) (by omega)) r rfl ?_ ?_
        · (rw [ex_cd_eq (by omega)]; show ex_ev (d - 1) 96 0 [vR 4, vI c, vL 0, vL 0] [] _ = _; (repeat' first | simp (disch := first | assumption | omega | ((repeat' first | exact ok_nil | apply ok_I | apply ok_R); done) | (simp (disch := first | omega | decide) only [ex_ar_same, ex_ar_diff, kM_diff, ex_u_same, ex_u_diff]; first | assumption | omega)) only [ev_96_0, ev_96_1, ev_96_2, gf_4_0, gf_5_0, iz, x_push, x_ret1, xc_132, xc_133, xc_134, xc_17_35, xc_17_6, xc_26_35, xc_26_6, xc_30_35, xc_30_6, xl_a0, xl_a2, xl_i1, xl_i3, xt_a2, xt_i3, y_if_eq_f, y_if_eq_t, y_if_ne_f, y_if_ne_t, z3, z4, z5, i_wr_id, kM_diff, Int.reduceToNat, ex_ar_same, ex_ar_ar, ex_ar_diff, ex_u_same, ex_u_diff, b2i_t, b2i_f, ex_div_nn, ex_rem_nn, Int.toNat_zero, Int.toNat_one, Int.reduceAdd, Int.reduceSub, Int.reduceMul, Int.reduceNeg, kC_ne, fC_ne] | refine bb_eq (fun _ => ?_) (fun _ => ?_) | refine bb_ne (fun _ => ?_) (fun _ => ?_) | refine bc_eq (fun _ => ?_) (fun _ => ?_) | refine bc_ne (fun _ => ?_) (fun _ => ?_) | refine bc_lt (fun _ => ?_) (fun _ => ?_) | refine bc_ge (fun _ => ?_) (fun _ => ?_) | refine bc_gt (fun _ => ?_) (fun _ => ?_) | refine bc_le (fun _ => ?_) (fun _ => ?_) | refine bi_eq (fun _ => ?_) (fun _ => ?_) | refine bi_ne (fun _ => ?_) (fun _ => ?_) | refine bi_lt (fun _ => ?_) (fun _ => ?_) | refine bi_ge (fun _ => ?_) (fun _ => ?_) | refine bi_gt (fun _ => ?_) (fun _ => ?_) | refine bi_le (fun _ => ?_) (fun _ => ?_)))
        · exact RD5_g (RD5_kC hC) hN (fun i hi => goesF_ne _ _ (by omega) (by omega)) R2 (fun a ha => tkG_ne (by omega) (by omega) (by omega))
        · exact N2
      · have t2 : (fC σ) 432 = σ 432 := fC_ne _ (by decide)
        have t3 : (fC σ) 433 = σ 433 := fC_ne _ (by decide)
        have t5 : (fC σ) 435 = σ 435 := fC_ne _ (by decide)
        have t6 : (fC σ) 436 = σ 436 := fC_ne _ (by decide)
        have t7 : (fC σ) 437 = σ 437 := fC_ne _ (by decide)
        have u1 : 0 ≤ (fC σ) 432 2 := by rw [t2]; exact k0
        have u2 : (fC σ) 432 2 ≤ 16 := by rw [t2]; exact k1
        have uN : NI ((fC σ) 433) := by rw [t3]; exact hN
        have uS : SI ((fC σ) 435) ((fC σ) 436) := by rw [t5, t6]; exact hC.si
        have := uN.a0; have := uN.b0; have := uN.a1; have := uN.b1; have := uN.a2; have := uN.b2; have := uN.a3; have := uN.b3; have := uN.a4; have := uN.b4; have := uN.a5; have := uN.b5; have := uN.a7; have := uN.b7; have := uN.a8; have := uN.b8; have := uN.a9; have := uN.b9; have := uN.a10; have := uN.b10
        have r := sp_174 (L := L) (d := d) (σ := fC σ) (c := c) (by omega) (by first | assumption | exact uN.oM | exact uN.oP | omega) (by first | assumption | exact uN.oM | exact uN.oP | omega) (by first | assumption | exact uN.oM | exact uN.oP | omega)
        simp only [leaveM, t3, if_pos g, if_neg g2, if_neg g3] at r
        refine ck_fnd hC ?_ r
        (rw [ex_cd_eq (by omega)]; show ex_ev (d - 1) 96 0 [vR 4, vI c, vL 0, vL 0] [] _ = _; (repeat' first | simp (disch := first | assumption | omega | ((repeat' first | exact ok_nil | apply ok_I | apply ok_R); done) | (simp (disch := first | omega | decide) only [ex_ar_same, ex_ar_diff, kM_diff, ex_u_same, ex_u_diff]; first | assumption | omega)) only [ev_96_0, ev_96_1, ev_96_2, gf_4_0, gf_5_0, iz, x_push, x_ret1, xc_132, xc_133, xc_134, xc_17_35, xc_17_6, xc_26_35, xc_26_6, xc_30_35, xc_30_6, xl_a0, xl_a2, xl_i1, xl_i3, xt_a2, xt_i3, y_if_eq_f, y_if_eq_t, y_if_ne_f, y_if_ne_t, i_wr_id, kM_diff, Int.reduceToNat, ex_ar_same, ex_ar_ar, ex_ar_diff, ex_u_same, ex_u_diff, b2i_t, b2i_f, ex_div_nn, ex_rem_nn, Int.toNat_zero, Int.toNat_one, Int.reduceAdd, Int.reduceSub, Int.reduceMul, Int.reduceNeg, kC_ne, fC_ne] | refine bb_eq (fun _ => ?_) (fun _ => ?_) | refine bb_ne (fun _ => ?_) (fun _ => ?_) | refine bc_eq (fun _ => ?_) (fun _ => ?_) | refine bc_ne (fun _ => ?_) (fun _ => ?_) | refine bc_lt (fun _ => ?_) (fun _ => ?_) | refine bc_ge (fun _ => ?_) (fun _ => ?_) | refine bc_gt (fun _ => ?_) (fun _ => ?_) | refine bc_le (fun _ => ?_) (fun _ => ?_) | refine bi_eq (fun _ => ?_) (fun _ => ?_) | refine bi_ne (fun _ => ?_) (fun _ => ?_) | refine bi_lt (fun _ => ?_) (fun _ => ?_) | refine bi_ge (fun _ => ?_) (fun _ => ?_) | refine bi_gt (fun _ => ?_) (fun _ => ?_) | refine bi_le (fun _ => ?_) (fun _ => ?_)))
  · have t2 : (fC σ) 432 = σ 432 := fC_ne _ (by decide)
    have t3 : (fC σ) 433 = σ 433 := fC_ne _ (by decide)
    have t5 : (fC σ) 435 = σ 435 := fC_ne _ (by decide)
    have t6 : (fC σ) 436 = σ 436 := fC_ne _ (by decide)
    have t7 : (fC σ) 437 = σ 437 := fC_ne _ (by decide)
    have u1 : 0 ≤ (fC σ) 432 2 := by rw [t2]; exact k0
    have u2 : (fC σ) 432 2 ≤ 16 := by rw [t2]; exact k1
    have uN : NI ((fC σ) 433) := by rw [t3]; exact hN
    have uS : SI ((fC σ) 435) ((fC σ) 436) := by rw [t5, t6]; exact hC.si
    have := uN.a0; have := uN.b0; have := uN.a1; have := uN.b1; have := uN.a2; have := uN.b2; have := uN.a3; have := uN.b3; have := uN.a4; have := uN.b4; have := uN.a5; have := uN.b5; have := uN.a7; have := uN.b7; have := uN.a8; have := uN.b8; have := uN.a9; have := uN.b9; have := uN.a10; have := uN.b10
    have iz : (if 0 ≤ c ∧ c < σ 433 1 then (if standN (σ 433) c < 0 then -100006 else 0) else -100001 : Int) = -100001 := by rw [if_neg g]
    have r := sp_174 (L := L) (d := d) (σ := fC σ) (c := c) (by omega) (by first | assumption | exact uN.oM | exact uN.oP | omega) (by first | assumption | exact uN.oM | exact uN.oP | omega) (by first | assumption | exact uN.oM | exact uN.oP | omega)
    simp only [leaveM, t3, if_neg g] at r
    refine ck_fnd hC ?_ r
    (rw [ex_cd_eq (by omega)]; show ex_ev (d - 1) 96 0 [vR 4, vI c, vL 0, vL 0] [] _ = _; (repeat' first | simp (disch := first | assumption | omega | ((repeat' first | exact ok_nil | apply ok_I | apply ok_R); done) | (simp (disch := first | omega | decide) only [ex_ar_same, ex_ar_diff, kM_diff, ex_u_same, ex_u_diff]; first | assumption | omega)) only [ev_96_0, ev_96_1, ev_96_2, gf_4_0, gf_5_0, iz, x_push, x_ret1, xc_132, xc_133, xc_134, xc_17_35, xc_17_6, xc_26_35, xc_26_6, xc_30_35, xc_30_6, xl_a0, xl_a2, xl_i1, xl_i3, xt_a2, xt_i3, y_if_eq_f, y_if_eq_t, y_if_ne_f, y_if_ne_t, i_wr_id, kM_diff, Int.reduceToNat, ex_ar_same, ex_ar_ar, ex_ar_diff, ex_u_same, ex_u_diff, b2i_t, b2i_f, ex_div_nn, ex_rem_nn, Int.toNat_zero, Int.toNat_one, Int.reduceAdd, Int.reduceSub, Int.reduceMul, Int.reduceNeg, kC_ne, fC_ne] | refine bb_eq (fun _ => ?_) (fun _ => ?_) | refine bb_ne (fun _ => ?_) (fun _ => ?_) | refine bc_eq (fun _ => ?_) (fun _ => ?_) | refine bc_ne (fun _ => ?_) (fun _ => ?_) | refine bc_lt (fun _ => ?_) (fun _ => ?_) | refine bc_ge (fun _ => ?_) (fun _ => ?_) | refine bc_gt (fun _ => ?_) (fun _ => ?_) | refine bc_le (fun _ => ?_) (fun _ => ?_) | refine bi_eq (fun _ => ?_) (fun _ => ?_) | refine bi_ne (fun _ => ?_) (fun _ => ?_) | refine bi_lt (fun _ => ?_) (fun _ => ?_) | refine bi_ge (fun _ => ?_) (fun _ => ?_) | refine bi_gt (fun _ => ?_) (fun _ => ?_) | refine bi_le (fun _ => ?_) (fun _ => ?_)))
