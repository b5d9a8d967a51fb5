/-! the class: who is charged -/
theorem m1_tab : ((List.range 8).all fun k => (BitVec.ofInt 32 (-1)).getLsbD k) = true := by decide
theorem sub_bits {s m c : Int} (s0 : 0 ≤ s) (m0 : 0 ≤ m) (s1 : s < 256) (m1 : m < 256) (c0 : 0 ≤ c) (c1 : c < 8) (h : ex_and s (ex_xor m (-1)) = 0) (hc : bt m c = 0) : bt s c = 0 := by
  obtain ⟨x, rfl⟩ := Int.eq_ofNat_of_zero_le s0
  obtain ⟨y, rfl⟩ := Int.eq_ofNat_of_zero_le m0
  obtain ⟨k, rfl⟩ := Int.eq_ofNat_of_zero_le c0
  unfold bt at hc ⊢
  rw [ex_bit (by omega) (by omega)] at hc ⊢
  have hy : y.testBit k = false := by rw [Nat.testBit_eq_decide_div_mod_eq]; exact decide_eq_false (by omega)
  unfold ex_and ex_xor at h
  rw [Int32.ofInt_toInt] at h
  have h2 : (Int32.ofInt (x : Int) &&& (Int32.ofInt (y : Int) ^^^ Int32.ofInt (-1))) = 0 := by
    apply Int32.toInt_inj.mp
    rw [h]; rfl
  have h3 := congrArg Int32.toBitVec h2
  rw [Int32.toBitVec_and, Int32.toBitVec_xor, Int32.toBitVec_ofInt, Int32.toBitVec_ofInt, Int32.toBitVec_ofInt, BitVec.ofInt_natCast, BitVec.ofInt_natCast] at h3
  have h4 := congrArg (fun v => BitVec.getLsbD v k) h3
  have hm := List.all_eq_true.mp m1_tab k (List.mem_range.mpr (by omega))
  have hz : (Int32.toBitVec 0).getLsbD k = false := BitVec.getLsbD_zero
  simp only [BitVec.getLsbD_and, BitVec.getLsbD_xor, BitVec.getLsbD_ofNat, hm, hz, hy, Bool.and_false, Bool.false_xor, Bool.and_true] at h4
  have h5 : x.testBit k = false := by
    have hk : decide (k < 32) = true := decide_eq_true (by omega)
    rw [hk, Bool.true_and] at h4
    exact h4
  rw [Nat.testBit_eq_decide_div_mod_eq] at h5
  have := of_decide_eq_false h5
  omega
theorem myR_lt (n : Int → Int) : ∀ j : Nat, j ≤ 8 → 0 ≤ myR n j ∧ myR n j < 2 ^ j
  | 0, _ => ⟨Int.le_refl 0, (show (0 : Int) < 2 ^ 0 by decide)⟩
  | c + 1, h => by
    have ih := myR_lt n c (by omega)
    rw [myR]
    have p : (2 : Int) ^ c < 2 ^ (c + 1) := by
      have := Nat.pow_lt_pow_right (a := 2) (by decide) (show c < c + 1 by omega)
      exact_mod_cast this
    have : 0 ≤ (if 0 < n (123 + (c : Int)) ∧ 0 ≤ standN n (c : Int) then ex_shl 1 (c : Int) else 0) ∧ (if 0 < n (123 + (c : Int)) ∧ 0 ≤ standN n (c : Int) then ex_shl 1 (c : Int) else 0) < 2 ^ (c + 1) := by
      split
      · rw [ex_shl1 (by omega)]
        exact ⟨Int.natCast_nonneg _, by rw [Int.natCast_pow]; exact p⟩
      · exact ⟨Int.le_refl 0, by omega⟩
    exact or_lo (n := c + 1) (by omega) ih.1 (by omega) this.1 this.2
theorem myR_bt {n : Int → Int} (hN : NI n) {c : Int} (c0 : n 1 ≤ c) (c1 : c < 8) : bt (myR n (n 1).toNat) c = 0 := by
  have a1 := hN.a1
  have h := myR_lt n (n 1).toNat (by omega)
  have h8 := myR_bd n (n 1).toNat (by omega)
  obtain ⟨x, e⟩ := Int.eq_ofNat_of_zero_le h.1
  obtain ⟨k, rfl⟩ := Int.eq_ofNat_of_zero_le (show 0 ≤ c by omega)
  rw [e] at h h8 ⊢
  unfold bt
  have hx : x < 2 ^ (n 1).toNat := by exact_mod_cast h.2
  have hp : 2 ^ (n 1).toNat ≤ 2 ^ k := Nat.pow_le_pow_right (by decide) (by omega)
  rw [ex_bit (by omega) (by omega), Nat.div_eq_of_lt (by omega)]
  rfl
theorem fc_ok {n b : Int → Int} (hN : NI n) : ∀ i : Nat, i ≤ (myR n (n 1).toNat).toNat → 0 ≤ (fcR n b (myR n (n 1).toNat) i).1 ∧ (fcR n b (myR n (n 1).toNat) i).1 ≤ (i : Int) ∧ ∀ c : Int, n 1 ≤ c → c < 8 → bt (fcR n b (myR n (n 1).toNat) i).1 c = 0
  | 0, _ => by
    refine ⟨Int.le_refl 0, Int.le_refl 0, fun c c0 c1 => ?_⟩
    obtain ⟨k, rfl⟩ := Int.eq_ofNat_of_zero_le (show 0 ≤ c by have := hN.a1; omega)
    show bt 0 (k : Int) = 0
    unfold bt
    rw [show (0 : Int) = ((0 : Nat) : Int) from rfl, ex_bit (by omega) (by omega), Nat.zero_div]
  | i + 1, h => by
    obtain ⟨h1, h2, h3⟩ := fc_ok hN i (by omega) (b := b)
    have mb := myR_bd n (n 1).toNat (by have := hN.b1; omega)
    have a1 := hN.a1
    rw [fcR]
    unfold fcS
    by_cases z : ex_and ((i + 1 : Nat) : Int) (ex_xor (myR n (n 1).toNat) (-1)) = 0 ∧ mnR (fcR n b (myR n (n 1).toNat) i).1 8 < mnR ((i + 1 : Nat) : Int) 8
    · rw [if_pos z]
      dsimp only
      split
      · exact ⟨by omega, by omega, fun c c0 c1 => sub_bits (by omega) mb.1 (by omega) mb.2 (by omega) c1 z.1 (myR_bt hN c0 c1)⟩
      · exact ⟨h1, by omega, h3⟩
    · rw [if_neg z]; exact ⟨h1, by omega, h3⟩
theorem xr_3 {rt d L : Nat} {J : Nat → List ex_V → List ex_V → ex_H → Option ex_R} {is : List Instr} {ls st : List ex_V} {σ : ex_S} {H2 : ex_H} {a b r : Int} (he : ex_cd d 3 [vR 51, vR 6, vI a, vI b] (SH L, σ) = some ([vI r], H2)) (hok : okN 8 st = true) : ex_xs rt J (ex_cd d) (.invokevirtual 3 :: is) ls (vI b :: vI a :: vR 6 :: vR 51 :: st) (SH L, σ) = ex_xs rt J (ex_cd d) is ls (vI r :: st) H2 := x_call1 (Or.inl rfl) rfl (sh_51 _) (Or.inl ⟨rfl, rfl⟩) (as := [vR 6, vI a, vI b]) rfl rfl (okN_ok hok) rfl he
theorem xr_1 {rt d L : Nat} {J : Nat → List ex_V → List ex_V → ex_H → Option ex_R} {is : List Instr} {ls st : List ex_V} {σ : ex_S} {H2 : ex_H} {a r : Int} (he : ex_cd d 1 [vR 51, vR 6, vI a] (SH L, σ) = some ([vI r], H2)) (hok : okN 8 st = true) : ex_xs rt J (ex_cd d) (.invokevirtual 1 :: is) ls (vI a :: vR 6 :: vR 51 :: st) (SH L, σ) = ex_xs rt J (ex_cd d) is ls (vI r :: st) H2 := x_call1 (Or.inl rfl) rfl (sh_51 _) (Or.inl ⟨rfl, rfl⟩) (as := [vR 6, vI a]) rfl rfl (okN_ok hok) rfl he
theorem fp_1 {d L : Nat} {σ : ex_S} {n b : Int → Int} (hd : 6 < d) (hR : RG6 σ n) (hN : NI n) : ∃ σ', ex_cd d 1 [vR 51, vR 6, vI (n 3)] (SH L, σ) = some ([vI (fcN n b).1], (SH L, σ')) ∧ (∀ a, a ≠ 52 → a ≠ 53 → σ' a = σ a) := by
  have a1 := hN.a1
  have b1 := hN.b1
  have mb := myR_bd n (n 1).toNat (by omega)
  have lp : ∀ i : Nat, i ≤ (myR n (n 1).toNat).toNat → ∀ (τ : ex_S) (s : Int), (∀ a, a ≠ 52 → a ≠ 53 → τ a = σ a) → (fcR n b (myR n (n 1).toNat) i).1 = s → ∃ σ', ex_ev (d - 1) 1 1 [vR 51, vR 6, vI (n 3), vI (myR n (n 1).toNat), vI s, vI ((i : Int) + 1)] [] (SH L, τ) = some ([vI (fcN n b).1], (SH L, σ')) ∧ (∀ a, a ≠ 52 → a ≠ 53 → σ' a = σ a) := by
    refine down ?_ ?_
    · intro τ s hf hs
      refine ⟨τ, ?_, hf⟩
      have e : (fcN n b).1 = s := hs
      rw [e, ev_1_1]
      simp (disch := first | assumption | omega | ((repeat' first | exact ok_nil | apply ok_I | apply ok_R); done) | (simp (disch := first | omega | decide) only [ex_ar_same, ex_ar_diff, kM_diff, ex_u_same, ex_u_diff]; first | assumption | omega)) only [ev_1_0, ev_1_2, ev_1_3, x_fall, x_goto, x_push, x_ret1, xc_2, xc_235, xl_a0, xl_a1, xl_i2, xl_i3, xl_i4, xl_i5, xn_5, xt_i3, xt_i4, xt_i5, y_cmp_gt_f, y_cmp_gt_t, y_cmp_le_f, y_cmp_le_t, y_iand, y_if_eq_f, y_if_eq_t, y_if_ne_f, y_if_ne_t, y_ixor, i_wr_id, kM_diff, Int.reduceToNat, ex_ar_same, ex_ar_ar, ex_ar_diff, ex_u_same, ex_u_diff, b2i_t, b2i_f, ex_div_nn, ex_rem_nn, Int.toNat_zero, Int.toNat_one, Int.reduceAdd, Int.reduceSub, Int.reduceMul, Int.reduceNeg, kC_ne, fC_ne]
    · intro i hi ih τ s hf hs
      obtain ⟨o1, o2, o3⟩ := fc_ok hN i (by omega) (b := b)
      rw [hs] at o1 o2 o3
      have hR' : RG6 τ n := RG_fr (G := 6) hR hN (fun a x1 x2 => hf a (by omega) (by omega))
      have hst : (fcR n b (myR n (n 1).toNat) (i + 1)).1 = if ex_and ((i : Int) + 1) (ex_xor (myR n (n 1).toNat) (-1)) = 0 ∧ mnR s 8 < mnR ((i : Int) + 1) 8 then (if sm8 (canN n (fcR n b (myR n (n 1).toNat) i).2 ((i : Int) + 1)) 8 = 0 then (i : Int) + 1 else s) else s := by
        rw [fcR]
        unfold fcS
        rw [show ((i + 1 : Nat) : Int) = (i : Int) + 1 by omega, hs]
        split
        · rfl
        · exact hs
      generalize hm : myR n (n 1).toNat = m at *
      rw [ev_1_1]
      by_cases q1 : ex_and ((i : Int) + 1) (ex_xor m (-1)) = 0
      · by_cases q2 : mnR s 8 < mnR ((i : Int) + 1) 8
        · rw [if_pos ⟨q1, q2⟩] at hst
          obtain ⟨σ2, e2, f2, -⟩ := fp_3 (d := d - 1) (L := L) (nd := cqF (ndF n ((i : Int) + 1)) (fcR n b m i).2 8) (s := (i : Int) + 1) (by omega) hR' hN (by omega) (by omega) (fun c c0 c1 => sub_bits (by omega) mb.1 (by omega) mb.2 (by omega) c1 q1 (by rw [← hm]; exact myR_bt hN c0 c1)) (fun c c0 c1 => by unfold cqF; rw [if_pos ⟨c0, c1⟩])
          have f2' : ∀ a, a ≠ 52 → a ≠ 53 → σ2 a = σ a := fun a x1 x2 => (f2 a x1 x2).trans (hf a x1 x2)
          by_cases q3 : sm8 (canN n (fcR n b m i).2 ((i : Int) + 1)) 8 = 0
          · rw [if_pos q3] at hst
            have e2' : ex_cd (d - 1) 3 [vR 51, vR 6, vI (n 3), vI ((i : Int) + 1)] (SH L, τ) = some ([vI 1], (SH L, σ2)) := by rw [e2]; exact some_eq (b2i_t q3)
            obtain ⟨σ', g1, g2⟩ := ih σ2 _ f2' hst
            refine ⟨σ', ?_, g2⟩
            rw [← g1, show ((i + 1 : Nat) : Int) + 1 = (i : Int) + 1 + 1 by omega]
            simp (disch := first | assumption | omega | ((repeat' first | exact ok_nil | apply ok_I | apply ok_R); done) | (simp (disch := first | omega | decide) only [ex_ar_same, ex_ar_diff, kM_diff, ex_u_same, ex_u_diff]; first | assumption | omega)) only [(xr_3 e2'), ev_1_0, ev_1_2, ev_1_3, x_fall, x_goto, x_push, x_ret1, xc_2, xc_235, xl_a0, xl_a1, xl_i2, xl_i3, xl_i4, xl_i5, xn_5, xt_i3, xt_i4, xt_i5, y_cmp_gt_f, y_cmp_gt_t, y_cmp_le_f, y_cmp_le_t, y_iand, y_if_eq_f, y_if_eq_t, y_if_ne_f, y_if_ne_t, y_ixor, i_wr_id, kM_diff, Int.reduceToNat, ex_ar_same, ex_ar_ar, ex_ar_diff, ex_u_same, ex_u_diff, b2i_t, b2i_f, ex_div_nn, ex_rem_nn, Int.toNat_zero, Int.toNat_one, Int.reduceAdd, Int.reduceSub, Int.reduceMul, Int.reduceNeg, kC_ne, fC_ne]
          · rw [if_neg q3] at hst
            have e2' : ex_cd (d - 1) 3 [vR 51, vR 6, vI (n 3), vI ((i : Int) + 1)] (SH L, τ) = some ([vI 0], (SH L, σ2)) := by rw [e2]; exact some_eq (b2i_f q3)
            obtain ⟨σ', g1, g2⟩ := ih σ2 _ f2' hst
            refine ⟨σ', ?_, g2⟩
            rw [← g1, show ((i + 1 : Nat) : Int) + 1 = (i : Int) + 1 + 1 by omega]
            simp (disch := first | assumption | omega | ((repeat' first | exact ok_nil | apply ok_I | apply ok_R); done) | (simp (disch := first | omega | decide) only [ex_ar_same, ex_ar_diff, kM_diff, ex_u_same, ex_u_diff]; first | assumption | omega)) only [(xr_3 e2'), ev_1_0, ev_1_2, ev_1_3, x_fall, x_goto, x_push, x_ret1, xc_2, xc_235, xl_a0, xl_a1, xl_i2, xl_i3, xl_i4, xl_i5, xn_5, xt_i3, xt_i4, xt_i5, y_cmp_gt_f, y_cmp_gt_t, y_cmp_le_f, y_cmp_le_t, y_iand, y_if_eq_f, y_if_eq_t, y_if_ne_f, y_if_ne_t, y_ixor, i_wr_id, kM_diff, Int.reduceToNat, ex_ar_same, ex_ar_ar, ex_ar_diff, ex_u_same, ex_u_diff, b2i_t, b2i_f, ex_div_nn, ex_rem_nn, Int.toNat_zero, Int.toNat_one, Int.reduceAdd, Int.reduceSub, Int.reduceMul, Int.reduceNeg, kC_ne, fC_ne]
        · rw [if_neg (fun z => q2 z.2)] at hst
          obtain ⟨σ', g1, g2⟩ := ih τ _ hf hst
          refine ⟨σ', ?_, g2⟩
          rw [← g1, show ((i + 1 : Nat) : Int) + 1 = (i : Int) + 1 + 1 by omega]
          simp (disch := first | assumption | omega | ((repeat' first | exact ok_nil | apply ok_I | apply ok_R); done) | (simp (disch := first | omega | decide) only [ex_ar_same, ex_ar_diff, kM_diff, ex_u_same, ex_u_diff]; first | assumption | omega)) only [ev_1_0, ev_1_2, ev_1_3, x_fall, x_goto, x_push, x_ret1, xc_2, xc_235, xl_a0, xl_a1, xl_i2, xl_i3, xl_i4, xl_i5, xn_5, xt_i3, xt_i4, xt_i5, y_cmp_gt_f, y_cmp_gt_t, y_cmp_le_f, y_cmp_le_t, y_iand, y_if_eq_f, y_if_eq_t, y_if_ne_f, y_if_ne_t, y_ixor, i_wr_id, kM_diff, Int.reduceToNat, ex_ar_same, ex_ar_ar, ex_ar_diff, ex_u_same, ex_u_diff, b2i_t, b2i_f, ex_div_nn, ex_rem_nn, Int.toNat_zero, Int.toNat_one, Int.reduceAdd, Int.reduceSub, Int.reduceMul, Int.reduceNeg, kC_ne, fC_ne]
      · rw [if_neg (fun z => q1 z.1)] at hst
        obtain ⟨σ', g1, g2⟩ := ih τ _ hf hst
        refine ⟨σ', ?_, g2⟩
        rw [← g1, show ((i + 1 : Nat) : Int) + 1 = (i : Int) + 1 + 1 by omega]
        simp (disch := first | assumption | omega | ((repeat' first | exact ok_nil | apply ok_I | apply ok_R); done) | (simp (disch := first | omega | decide) only [ex_ar_same, ex_ar_diff, kM_diff, ex_u_same, ex_u_diff]; first | assumption | omega)) only [ev_1_0, ev_1_2, ev_1_3, x_fall, x_goto, x_push, x_ret1, xc_2, xc_235, xl_a0, xl_a1, xl_i2, xl_i3, xl_i4, xl_i5, xn_5, xt_i3, xt_i4, xt_i5, y_cmp_gt_f, y_cmp_gt_t, y_cmp_le_f, y_cmp_le_t, y_iand, y_if_eq_f, y_if_eq_t, y_if_ne_f, y_if_ne_t, y_ixor, i_wr_id, kM_diff, Int.reduceToNat, ex_ar_same, ex_ar_ar, ex_ar_diff, ex_u_same, ex_u_diff, b2i_t, b2i_f, ex_div_nn, ex_rem_nn, Int.toNat_zero, Int.toNat_one, Int.reduceAdd, Int.reduceSub, Int.reduceMul, Int.reduceNeg, kC_ne, fC_ne]
  obtain ⟨σ', g1, g2⟩ := lp 0 (by omega) σ 0 (fun _ _ _ => rfl) rfl
  refine ⟨σ', ?_, g2⟩
  rw [ex_cd_eq (by omega)]
  show ex_ev (d - 1) 1 0 [vR 51, vR 6, vI (n 3), vL 0, vL 0, vL 0] [] _ = _
  simp (disch := first | assumption | omega | ((repeat' first | exact ok_nil | apply ok_I | apply ok_R); done) | (simp (disch := first | omega | decide) only [ex_ar_same, ex_ar_diff, kM_diff, ex_u_same, ex_u_diff]; first | assumption | omega)) only [ev_1_0, ev_1_2, ev_1_3, x_fall, x_goto, x_push, x_ret1, xc_2, xc_235, xl_a0, xl_a1, xl_i2, xl_i3, xl_i4, xl_i5, xn_5, xt_i3, xt_i4, xt_i5, y_cmp_gt_f, y_cmp_gt_t, y_cmp_le_f, y_cmp_le_t, y_iand, y_if_eq_f, y_if_eq_t, y_if_ne_f, y_if_ne_t, y_ixor, i_wr_id, kM_diff, Int.reduceToNat, ex_ar_same, ex_ar_ar, ex_ar_diff, ex_u_same, ex_u_diff, b2i_t, b2i_f, ex_div_nn, ex_rem_nn, Int.toNat_zero, Int.toNat_one, Int.reduceAdd, Int.reduceSub, Int.reduceMul, Int.reduceNeg, kC_ne, fC_ne]
  exact g1
theorem ci_52 {σ σ' : ex_S} (hC : CI σ) (hf : ∀ a, a ≠ 52 → a ≠ 53 → σ' a = σ a) : CI σ' :=
  ci_scr hC (fun a ha => hf a (by omega) (by omega)) (by rw [hf _ (by decide) (by decide)]) (by rw [hf _ (by decide) (by decide)]) (fun _ _ _ => by rw [hf _ (by decide) (by decide)])
theorem ck_109 {L d : Nat} {σ : ex_S} (hC : CI σ) (hd : 20 < d) : CK 109 201 [] σ L d := by
  (have p0 := hC.pr.p0; have p1 := hC.pr.p1; have k0 := hC.pr.k0; have k1 := hC.pr.k1; have kq := hC.pr.q; have q0 : 0 ≤ σ 4 10 := (by omega); have q1 : σ 4 10 ≤ 16 := (by omega); have hN := hC.ni; have hR := hC.rd.g; have hD := hC.rd; have hT := hC.st)
  have i9 := hD.i9
  obtain ⟨σ', e, hf⟩ := fp_1 (d := d - 1) (L := L) (b := σ 442) (by omega) hR hN
  have e3 : σ' 433 = σ 433 := hf _ (by decide) (by decide)
  have e4 : σ' 442 = σ 442 := hf _ (by decide) (by decide)
  have r := sp_201 (L := L) (d := d) (σ := σ') (by omega) (by rw [e3]; exact hN)
  rw [e3, e4] at r
  refine CK.of (σ1 := σ') (r := (fcN (σ 433) (σ 442)).1) ?_ r rfl (ci_RS (ci_52 hC hf) (RS.of (fun a _ _ _ _ h5 _ _ _ _ _ => ex_ar_diff _ _ _ h5))) (by rw [ex_ar_diff _ _ _ (by decide)]; exact hf _ (by decide) (by decide))
  rw [ex_cd_eq (by omega)]
  show ex_ev (d - 1) 109 0 [vR 4] [] _ = _
  simp (disch := first | assumption | omega | ((repeat' first | exact ok_nil | apply ok_I | apply ok_R); done) | (simp (disch := first | omega | decide) only [ex_ar_same, ex_ar_diff, kM_diff, ex_u_same, ex_u_diff]; first | assumption | omega)) only [(xr_1 e), ev_109_0, gf_4_0, gf_4_5, gf_5_0, gf_5_9, i9, x_ret1, xl_a0, i_wr_id, kM_diff, Int.reduceToNat, ex_ar_same, ex_ar_ar, ex_ar_diff, ex_u_same, ex_u_diff, b2i_t, b2i_f, ex_div_nn, ex_rem_nn, Int.toNat_zero, Int.toNat_one, Int.reduceAdd, Int.reduceSub, Int.reduceMul, Int.reduceNeg, kC_ne, fC_ne]
theorem cgR_ca (n nd : Int → Int) : ∀ i : Nat, (cgR n nd i).2 = caR n nd i
  | 0 => rfl
  | i + 1 => by rw [cgR, caR, cgR_ca n nd i]
theorem ck_110 {L d : Nat} {σ : ex_S} {h : Int} (hC : CI σ) (hd : 20 < d) : CK 110 202 [vI h] σ L d := by
  (have p0 := hC.pr.p0; have p1 := hC.pr.p1; have k0 := hC.pr.k0; have k1 := hC.pr.k1; have kq := hC.pr.q; have q0 : 0 ≤ σ 4 10 := (by omega); have q1 : σ 4 10 ≤ 16 := (by omega); have hN := hC.ni; have hR := hC.rd.g; have hD := hC.rd; have hT := hC.st)
  have i9 := hD.i9
  by_cases g : 0 ≤ h ∧ h ≤ 23
  · have mb := myR_bd (σ 433) (σ 433 1).toNat (by have := hN.b1; omega)
    obtain ⟨o1, o2, o3⟩ := fc_ok (b := σ 442) hN (myR (σ 433) (σ 433 1).toNat).toNat (by omega)
    have ef : fcR (σ 433) (σ 442) (myR (σ 433) (σ 433 1).toNat) (myR (σ 433) (σ 433 1).toNat).toNat = fcN (σ 433) (σ 442) := rfl
    rw [ef] at o1 o2 o3
    obtain ⟨σ1, e1, f1⟩ := fp_1 (d := d - 1) (L := L) (b := σ 442) (by omega) hR hN
    have hR1 : RG6 σ1 (σ 433) := RG_fr (G := 6) hR hN (fun a x1 x2 => f1 a (by omega) (by omega))
    obtain ⟨σ2, e2, f2, f3⟩ := fp_3 (d := d - 1) (L := L) (nd := cqF (ndF (σ 433) (fcN (σ 433) (σ 442)).1) (fcN (σ 433) (σ 442)).2 8) (s := (fcN (σ 433) (σ 442)).1) (by omega) hR1 hN o1 (by omega) o3 (fun c c0 c1 => by unfold cqF; rw [if_pos ⟨c0, c1⟩])
    have hf : ∀ a, a ≠ 52 → a ≠ 53 → σ2 a = σ a := fun a x1 x2 => (f2 a x1 x2).trans (f1 a x1 x2)
    have e3 : σ2 433 = σ 433 := hf _ (by decide) (by decide)
    have e4 : σ2 442 = σ 442 := hf _ (by decide) (by decide)
    have eh : σ2 52 h = (cgN (σ 433) (σ 442) h).1 := by
      rw [f3 h g.1 g.2]
      unfold cgN
      rw [show (24 - h).toNat = (23 - h).toNat + 1 by omega, cgR, cgR_ca, show 23 - (((23 - h).toNat : Nat) : Int) = h by omega]
    have r := sp_202 (L := L) (d := d) (σ := σ2) (h := h) (by omega) (by rw [e3]; exact hN)
    simp only [chargingM, e3, e4, if_pos g] at r
    have i9' : σ1 5 9 = σ 433 3 := by rw [f1 5 (by decide) (by decide)]; exact i9
    refine CK.of (σ1 := σ2) (r := (cgN (σ 433) (σ 442) h).1) ?_ r rfl (ci_RS (ci_52 hC hf) (RS.of (fun a _ _ _ _ h5 _ _ _ _ _ => ex_ar_diff _ _ _ h5))) (by rw [ex_ar_diff _ _ _ (by decide)]; exact hf _ (by decide) (by decide))
    rw [ex_cd_eq (by omega)]
    show ex_ev (d - 1) 110 0 [vR 4, vI h, vL 0] [] _ = _
    simp (disch := first | assumption | omega | ((repeat' first | exact ok_nil | apply ok_I | apply ok_R); done) | (simp (disch := first | omega | decide) only [ex_ar_same, ex_ar_diff, kM_diff, ex_u_same, ex_u_diff]; first | assumption | omega)) only [(xr_1 e1), (xr_3 e2), eh, ev_110_0, ev_110_1, gf_4_0, gf_4_5, gf_51_0, gf_5_0, gf_5_9, i9, i9', ld_52, x_popI, x_push, x_ret1, xc_132, xc_138, xl_a0, xl_i1, xl_i2, xt_i2, y_if_ne_f, y_if_ne_t, i_wr_id, kM_diff, Int.reduceToNat, ex_ar_same, ex_ar_ar, ex_ar_diff, ex_u_same, ex_u_diff, b2i_t, b2i_f, ex_div_nn, ex_rem_nn, Int.toNat_zero, Int.toNat_one, Int.reduceAdd, Int.reduceSub, Int.reduceMul, Int.reduceNeg, kC_ne, fC_ne]
  · have t2 : (fC σ) 432 = σ 432 := fC_ne _ (by decide)
    have t3 : (fC σ) 433 = σ 433 := fC_ne _ (by decide)
    have t5 : (fC σ) 435 = σ 435 := fC_ne _ (by decide)
    have t6 : (fC σ) 436 = σ 436 := fC_ne _ (by decide)
    have t7 : (fC σ) 437 = σ 437 := fC_ne _ (by decide)
    have u1 : 0 ≤ (fC σ) 432 2 := by rw [t2]; exact k0
    have u2 : (fC σ) 432 2 ≤ 16 := by rw [t2]; exact k1
    have uN : NI ((fC σ) 433) := by rw [t3]; exact hN
    have uS : SI ((fC σ) 435) ((fC σ) 436) := by rw [t5, t6]; exact hC.si
    have := uN.a0; have := uN.b0; have := uN.a1; have := uN.b1; have := uN.a2; have := uN.b2; have := uN.a3; have := uN.b3; have := uN.a4; have := uN.b4; have := uN.a5; have := uN.b5; have := uN.a7; have := uN.b7; have := uN.a8; have := uN.b8; have := uN.a9; have := uN.b9; have := uN.a10; have := uN.b10
    have r := sp_202 (L := L) (d := d) (σ := fC σ) (h := h) (by omega) (by first | assumption | exact uN.oM | exact uN.oP | omega)
    simp only [chargingM, t3, if_neg g] at r
    refine ck_fnd hC ?_ r
    (rw [ex_cd_eq (by omega)]; show ex_ev (d - 1) 110 0 [vR 4, vI h, vL 0] [] _ = _; (repeat' first | simp (disch := first | assumption | omega | ((repeat' first | exact ok_nil | apply ok_I | apply ok_R); done) | (simp (disch := first | omega | decide) only [ex_ar_same, ex_ar_diff, kM_diff, ex_u_same, ex_u_diff]; first | assumption | omega)) only [ev_110_0, ev_110_1, gf_4_0, gf_4_5, gf_51_0, gf_5_0, gf_5_9, ld_52, x_popI, x_push, x_ret1, xc_132, xc_138, xl_a0, xl_i1, xl_i2, xt_i2, y_if_ne_f, y_if_ne_t, i_wr_id, kM_diff, Int.reduceToNat, ex_ar_same, ex_ar_ar, ex_ar_diff, ex_u_same, ex_u_diff, b2i_t, b2i_f, ex_div_nn, ex_rem_nn, Int.toNat_zero, Int.toNat_one, Int.reduceAdd, Int.reduceSub, Int.reduceMul, Int.reduceNeg, kC_ne, fC_ne] | refine bb_eq (fun _ => ?_) (fun _ => ?_) | refine bb_ne (fun _ => ?_) (fun _ => ?_) | refine bc_eq (fun _ => ?_) (fun _ => ?_) | refine bc_ne (fun _ => ?_) (fun _ => ?_) | refine bc_lt (fun _ => ?_) (fun _ => ?_) | refine bc_ge (fun _ => ?_) (fun _ => ?_) | refine bc_gt (fun _ => ?_) (fun _ => ?_) | refine bc_le (fun _ => ?_) (fun _ => ?_) | refine bi_eq (fun _ => ?_) (fun _ => ?_) | refine bi_ne (fun _ => ?_) (fun _ => ?_) | refine bi_lt (fun _ => ?_) (fun _ => ?_) | refine bi_ge (fun _ => ?_) (fun _ => ?_) | refine bi_gt (fun _ => ?_) (fun _ => ?_) | refine bi_le (fun _ => ?_) (fun _ => ?_)))
