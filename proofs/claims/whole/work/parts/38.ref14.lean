/-! the reference: who can be charged -/
def caR (n : Int → Int) (nd : Int → Int) : Nat → Int → Int
  | 0 => nd
  | i + 1 => (chR n (23 - (i : Int)) (caR n nd i) (n 3).toNat).2
theorem caR_ok {n nd : Int → Int} (hd : okD nd) : ∀ i, okD (caR n nd i)
  | 0 => hd
  | i + 1 => chR_ok (caR_ok hd i) _
def sm8 (nd : Int → Int) : Nat → Int
  | 0 => 0
  | i + 1 => sm8 nd i + nd (i : Int)
theorem sm8_bd {nd : Int → Int} (hd : okD nd) : ∀ i : Nat, i ≤ 8 → 0 ≤ sm8 nd i ∧ sm8 nd i ≤ 9 * (i : Int)
  | 0, _ => ⟨Int.le_refl 0, Int.le_refl 0⟩
  | i + 1, h => by
    have ih := sm8_bd hd i (by omega)
    have := hd i (by omega) (by omega)
    rw [sm8]
    omega
theorem ndF_ok {n : Int → Int} (hN : NI n) (s : Int) (b : Int → Int) : okD (cqF (ndF n s) b 8) := by
  intro k h1 h2
  have := hN.c4 k h1 h2
  unfold cqF ndF
  rw [if_pos (by omega)]
  split <;> omega
def canN (n : Int → Int) (b : Int → Int) (s : Int) : Int → Int := caR n (cqF (ndF n s) b 8) 24
theorem sp_198 {d : Nat} (hd : 1 < d) {L : Nat} {σ : ex_S} {s : Int} (hN : NI (σ 433)) : ex_cd d 198 [vR 432, vI s] (SH L, σ) = some ([vI (b2i (sm8 (canN (σ 433) (σ 442) s) 8 = 0))], (SH L, ex_ar σ 442 (canN (σ 433) (σ 442) s))) := by
  rw [ex_cd_eq (by omega)]
  show ex_ev (d - 1) 198 0 [vR 432, vI s, vL 0, vL 0] [] (SH L, σ) = _
  (have := hN.a0; have := hN.b0; have := hN.a1; have := hN.b1; have := hN.a2; have := hN.b2; have := hN.a3; have := hN.b3; have := hN.a4; have := hN.b4; have := hN.a5; have := hN.b5; have := hN.a7; have := hN.b7; have := hN.a8; have := hN.b8; have := hN.a9; have := hN.b9; have := hN.a10; have := hN.b10; have := hN.oM; have := hN.oP)
  have ok := ndF_ok hN s (σ 442)
  have okc : okD (canN (σ 433) (σ 442) s) := caR_ok ok 24
  have l2 : ∀ j : Nat, j ≤ 8 → ex_ev (d - 1) 198 3 [vR 432, vI s, vI (sm8 (canN (σ 433) (σ 442) s) j), vI (j : Int)] [] (SH L, ex_ar σ 442 (canN (σ 433) (σ 442) s)) = some ([vI (b2i (sm8 (canN (σ 433) (σ 442) s) 8 = 0))], (SH L, ex_ar σ 442 (canN (σ 433) (σ 442) s))) := by
    generalize canN (σ 433) (σ 442) s = nd at okc
    refine down ?_ ?_
    · rw [ev_198_3]
      (repeat' first | simp (disch := first | assumption | omega | ((repeat' first | exact ok_nil | apply ok_I | apply ok_R); done) | (simp (disch := first | omega | decide) only [ex_ar_same, ex_ar_diff, kM_diff, ex_u_same, ex_u_diff]; first | assumption | omega)) only [ev_198_0, ev_198_2, ev_198_4, ev_198_5, ev_198_6, gf_432_12, ld_442, x_fall, x_goto, x_push, x_ret2, x_ret2b, xc_196, xc_197, xl_a0, xl_i1, xl_i2, xl_i3, xn_2, xn_3, xt_i2, xt_i3, y_cmp_ge_f, y_cmp_ge_t, y_iadd, y_if_lt_f, y_if_lt_t, y_if_ne_f, y_if_ne_t, i_wr_id, kM_diff, Int.reduceToNat, ex_ar_same, ex_ar_ar, ex_ar_diff, ex_u_same, ex_u_diff, b2i_t, b2i_f, ex_div_nn, ex_rem_nn, Int.toNat_zero, Int.toNat_one, Int.reduceAdd, Int.reduceSub, Int.reduceMul, Int.reduceNeg] | refine bb_eq (fun _ => ?_) (fun _ => ?_) | refine bb_ne (fun _ => ?_) (fun _ => ?_) | refine bc_eq (fun _ => ?_) (fun _ => ?_) | refine bc_ne (fun _ => ?_) (fun _ => ?_) | refine bc_lt (fun _ => ?_) (fun _ => ?_) | refine bc_ge (fun _ => ?_) (fun _ => ?_) | refine bc_gt (fun _ => ?_) (fun _ => ?_) | refine bc_le (fun _ => ?_) (fun _ => ?_) | refine bi_eq (fun _ => ?_) (fun _ => ?_) | refine bi_ne (fun _ => ?_) (fun _ => ?_) | refine bi_lt (fun _ => ?_) (fun _ => ?_) | refine bi_ge (fun _ => ?_) (fun _ => ?_) | refine bi_gt (fun _ => ?_) (fun _ => ?_) | refine bi_le (fun _ => ?_) (fun _ => ?_))
    · intro j hj ih
      have b := sm8_bd okc j (by omega)
      have b2 := okc j (by omega) (by omega)
      rw [sm8] at ih
      rw [ev_198_3]
      simp (disch := first | assumption | omega | ((repeat' first | exact ok_nil | apply ok_I | apply ok_R); done) | (simp (disch := first | omega | decide) only [ex_ar_same, ex_ar_diff, kM_diff, ex_u_same, ex_u_diff]; first | assumption | omega)) only [ev_198_0, ev_198_2, ev_198_4, ev_198_5, ev_198_6, gf_432_12, ld_442, x_fall, x_goto, x_push, x_ret2, x_ret2b, xc_196, xc_197, xl_a0, xl_i1, xl_i2, xl_i3, xn_2, xn_3, xt_i2, xt_i3, y_cmp_ge_f, y_cmp_ge_t, y_iadd, y_if_lt_f, y_if_lt_t, y_if_ne_f, y_if_ne_t, i_wr_id, kM_diff, Int.reduceToNat, ex_ar_same, ex_ar_ar, ex_ar_diff, ex_u_same, ex_u_diff, b2i_t, b2i_f, ex_div_nn, ex_rem_nn, Int.toNat_zero, Int.toNat_one, Int.reduceAdd, Int.reduceSub, Int.reduceMul, Int.reduceNeg]
      rw [nat_cast_succ]
      exact ih
  have l1 : ∀ i : Nat, i ≤ 24 → ∀ (h : Int) (w : ex_V), h = 23 - (i : Int) → ex_ev (d - 1) 198 1 [vR 432, vI s, vI h, w] [] (SH L, ex_ar σ 442 (caR (σ 433) (cqF (ndF (σ 433) s) (σ 442) 8) i)) = some ([vI (b2i (sm8 (canN (σ 433) (σ 442) s) 8 = 0))], (SH L, ex_ar σ 442 (canN (σ 433) (σ 442) s))) := by
    refine down ?_ ?_
    · intro h w hh
      have e : caR (σ 433) (cqF (ndF (σ 433) s) (σ 442) 8) 24 = canN (σ 433) (σ 442) s := rfl
      rw [e]
      rw [ev_198_1]
      simp (disch := first | assumption | omega | ((repeat' first | exact ok_nil | apply ok_I | apply ok_R); done) | (simp (disch := first | omega | decide) only [ex_ar_same, ex_ar_diff, kM_diff, ex_u_same, ex_u_diff]; first | assumption | omega)) only [ev_198_0, ev_198_2, ev_198_4, ev_198_5, ev_198_6, gf_432_12, ld_442, x_fall, x_goto, x_push, x_ret2, x_ret2b, xc_196, xc_197, xl_a0, xl_i1, xl_i2, xl_i3, xn_2, xn_3, xt_i2, xt_i3, y_cmp_ge_f, y_cmp_ge_t, y_iadd, y_if_lt_f, y_if_lt_t, y_if_ne_f, y_if_ne_t, i_wr_id, kM_diff, Int.reduceToNat, ex_ar_same, ex_ar_ar, ex_ar_diff, ex_u_same, ex_u_diff, b2i_t, b2i_f, ex_div_nn, ex_rem_nn, Int.toNat_zero, Int.toNat_one, Int.reduceAdd, Int.reduceSub, Int.reduceMul, Int.reduceNeg]
      exact l2 0 (by omega)
    · intro i hi ih h w hh
      have okk := caR_ok (n := σ 433) ok i
      have okk' : okD (ex_ar σ 442 (caR (σ 433) (cqF (ndF (σ 433) s) (σ 442) 8) i) 442) := by rw [ex_ar_same]; exact okk
      have es : caR (σ 433) (cqF (ndF (σ 433) s) (σ 442) 8) (i + 1) = (chR (σ 433) h (caR (σ 433) (cqF (ndF (σ 433) s) (σ 442) 8) i) (σ 433 3).toNat).2 := by rw [caR, hh]
      rw [es] at ih
      rw [ev_198_1]
      simp (disch := first | assumption | omega | ((repeat' first | exact ok_nil | apply ok_I | apply ok_R); done) | (simp (disch := first | omega | decide) only [ex_ar_same, ex_ar_diff, kM_diff, ex_u_same, ex_u_diff]; first | assumption | omega)) only [ev_198_0, ev_198_2, ev_198_4, ev_198_5, ev_198_6, gf_432_12, ld_442, x_fall, x_goto, x_push, x_ret2, x_ret2b, xc_196, xc_197, xl_a0, xl_i1, xl_i2, xl_i3, xn_2, xn_3, xt_i2, xt_i3, y_cmp_ge_f, y_cmp_ge_t, y_iadd, y_if_lt_f, y_if_lt_t, y_if_ne_f, y_if_ne_t, i_wr_id, kM_diff, Int.reduceToNat, ex_ar_same, ex_ar_ar, ex_ar_diff, ex_u_same, ex_u_diff, b2i_t, b2i_f, ex_div_nn, ex_rem_nn, Int.toNat_zero, Int.toNat_one, Int.reduceAdd, Int.reduceSub, Int.reduceMul, Int.reduceNeg]
      exact ih _ _ (by omega)
  simp (disch := first | assumption | omega | ((repeat' first | exact ok_nil | apply ok_I | apply ok_R); done) | (simp (disch := first | omega | decide) only [ex_ar_same, ex_ar_diff, kM_diff, ex_u_same, ex_u_diff]; first | assumption | omega)) only [ev_198_0, ev_198_2, ev_198_4, ev_198_5, ev_198_6, gf_432_12, ld_442, x_fall, x_goto, x_push, x_ret2, x_ret2b, xc_196, xc_197, xl_a0, xl_i1, xl_i2, xl_i3, xn_2, xn_3, xt_i2, xt_i3, y_cmp_ge_f, y_cmp_ge_t, y_iadd, y_if_lt_f, y_if_lt_t, y_if_ne_f, y_if_ne_t, i_wr_id, kM_diff, Int.reduceToNat, ex_ar_same, ex_ar_ar, ex_ar_diff, ex_u_same, ex_u_diff, b2i_t, b2i_f, ex_div_nn, ex_rem_nn, Int.toNat_zero, Int.toNat_one, Int.reduceAdd, Int.reduceSub, Int.reduceMul, Int.reduceNeg]
  exact l1 0 (by omega) _ _ (by omega)
theorem xc_198 {rt d : Nat} {J : Nat → List ex_V → List ex_V → ex_H → Option ex_R} {is : List Instr} {ls st : List ex_V} {L : Nat} {σ : ex_S} {s : Int} (hN : NI (σ 433)) (hd : 1 < d) (hok : okN 8 st = true) : ex_xs rt J (ex_cd d) (.invokevirtual 198 :: is) ls (vI s :: vR 432 :: st) (SH L, σ) = ex_xs rt J (ex_cd d) is ls (vI (b2i (sm8 (canN (σ 433) (σ 442) s) 8 = 0)) :: st) (SH L, ex_ar σ 442 (canN (σ 433) (σ 442) s)) := x_call1 (Or.inl rfl) rfl (sh_432 _) (Or.inl ⟨rfl, rfl⟩) (as := [vI s]) rfl rfl (okN_ok hok) rfl (sp_198 hd hN)
def mnR (s : Int) : Nat → Int
  | 0 => 0
  | k + 1 => ex_wr (mnR s k + ex_and (ex_shr s (k : Int)) 1)
theorem sp_199 {d : Nat} (hd : 0 < d) {h : ex_H} {s : Int} : ex_cd d 199 [vI s] (h) = some ([vI (mnR s 8)], (h)) := by
  rw [ex_cd_eq (by omega)]
  show ex_ev (d - 1) 199 0 [vI s, vL 0, vL 0] [] (h) = _
  have lp : ∀ j : Nat, j ≤ 8 → ex_ev (d - 1) 199 1 [vI s, vI (mnR s j), vI (j : Int)] [] h = some ([vI (mnR s 8)], h) := by
    refine down ?_ ?_
    · rw [ev_199_1]
      simp (disch := first | assumption | omega | ((repeat' first | exact ok_nil | apply ok_I | apply ok_R); done) | (simp (disch := first | omega | decide) only [ex_ar_same, ex_ar_diff, kM_diff, ex_u_same, ex_u_diff]; first | assumption | omega)) only [ev_199_0, ev_199_2, x_fall, x_goto, x_push, x_ret1, xl_i0, xl_i1, xl_i2, xn_2, xt_i1, xt_i2, y_cmp_ge_f, y_cmp_ge_t, y_iadd, y_iand, y_ishr, i_wr_id, kM_diff, Int.reduceToNat, ex_ar_same, ex_ar_ar, ex_ar_diff, ex_u_same, ex_u_diff, b2i_t, b2i_f, ex_div_nn, ex_rem_nn, Int.toNat_zero, Int.toNat_one, Int.reduceAdd, Int.reduceSub, Int.reduceMul, Int.reduceNeg]
    · intro j hj ih
      have e : ex_wr ((j : Int) + 1) = ((j + 1 : Nat) : Int) := by rw [i_wr_id (by omega) (by omega)]; omega
      rw [mnR] at ih
      rw [ev_199_1]
      simp (disch := first | assumption | omega | ((repeat' first | exact ok_nil | apply ok_I | apply ok_R); done) | (simp (disch := first | omega | decide) only [ex_ar_same, ex_ar_diff, kM_diff, ex_u_same, ex_u_diff]; first | assumption | omega)) only [e, ev_199_0, ev_199_2, x_fall, x_goto, x_push, x_ret1, xl_i0, xl_i1, xl_i2, xn_2, xt_i1, xt_i2, y_cmp_ge_f, y_cmp_ge_t, y_iadd, y_iand, y_ishr, kM_diff, Int.reduceToNat, ex_ar_same, ex_ar_ar, ex_ar_diff, ex_u_same, ex_u_diff, b2i_t, b2i_f, ex_div_nn, ex_rem_nn, Int.toNat_zero, Int.toNat_one, Int.reduceAdd, Int.reduceSub, Int.reduceMul, Int.reduceNeg]
      exact ih
  simp (disch := first | assumption | omega | ((repeat' first | exact ok_nil | apply ok_I | apply ok_R); done) | (simp (disch := first | omega | decide) only [ex_ar_same, ex_ar_diff, kM_diff, ex_u_same, ex_u_diff]; first | assumption | omega)) only [ev_199_0, ev_199_2, x_fall, x_goto, x_push, x_ret1, xl_i0, xl_i1, xl_i2, xn_2, xt_i1, xt_i2, y_cmp_ge_f, y_cmp_ge_t, y_iadd, y_iand, y_ishr, i_wr_id, kM_diff, Int.reduceToNat, ex_ar_same, ex_ar_ar, ex_ar_diff, ex_u_same, ex_u_diff, b2i_t, b2i_f, ex_div_nn, ex_rem_nn, Int.toNat_zero, Int.toNat_one, Int.reduceAdd, Int.reduceSub, Int.reduceMul, Int.reduceNeg]
  exact lp 0 (by omega)
theorem xc_199 {rt d : Nat} {J : Nat → List ex_V → List ex_V → ex_H → Option ex_R} {is : List Instr} {ls st : List ex_V} {h : ex_H} {s : Int} (hd : 0 < d) (hok : okN 8 st = true) : ex_xs rt J (ex_cd d) (.invokestatic 199 :: is) ls (vI s :: st) (h) = ex_xs rt J (ex_cd d) is ls (vI (mnR s 8) :: st) (h) := x_call0 (as := [vI s]) rfl rfl rfl (okN_ok hok) rfl (sp_199 hd )
def myR (n : Int → Int) : Nat → Int
  | 0 => 0
  | c + 1 => ex_or (myR n c) (if 0 < n (123 + (c : Int)) ∧ 0 ≤ standN n (c : Int) then ex_shl 1 (c : Int) else 0)
theorem myR_bd (n : Int → Int) : ∀ c : Nat, c ≤ 8 → 0 ≤ myR n c ∧ myR n c < 256
  | 0, _ => ⟨Int.le_refl 0, (show (0 : Int) < 256 by decide)⟩
  | c + 1, h => by
    have ih := myR_bd n c (by omega)
    rw [myR]
    have : 0 ≤ (if 0 < n (123 + (c : Int)) ∧ 0 ≤ standN n (c : Int) then ex_shl 1 (c : Int) else 0) ∧ (if 0 < n (123 + (c : Int)) ∧ 0 ≤ standN n (c : Int) then ex_shl 1 (c : Int) else 0) < 2 ^ 8 := by
      split
      · rw [ex_shl1 (by omega)]
        have := Nat.pow_lt_pow_right (a := 2) (by decide) (show c < 8 by omega)
        exact ⟨Int.natCast_nonneg _, by exact_mod_cast this⟩
      · exact ⟨Int.le_refl 0, by decide⟩
    exact or_lo (n := 8) (by decide) ih.1 ih.2 this.1 this.2
def fcS (n : Int → Int) (b : Int → Int) (m : Int) (i : Nat) (s : Int × (Int → Int)) : Int × (Int → Int) := if ex_and (i : Int) (ex_xor m (-1)) = 0 ∧ mnR s.1 8 < mnR (i : Int) 8 then (if sm8 (canN n s.2 (i : Int)) 8 = 0 then (i : Int) else s.1, canN n s.2 (i : Int)) else s
def fcR (n : Int → Int) (b : Int → Int) (m : Int) : Nat → Int × (Int → Int)
  | 0 => (0, b)
  | i + 1 => fcS n b m (i + 1) (fcR n b m i)
def fcN (n : Int → Int) (b : Int → Int) : Int × (Int → Int) := fcR n b (myR n (n 1).toNat) (myR n (n 1).toNat).toNat
theorem sp_200 {d : Nat} (hd : 2 < d) {L : Nat} {σ : ex_S} (hN : NI (σ 433)) : ex_cd d 200 [vR 432] (SH L, σ) = some ([vI (fcN (σ 433) (σ 442)).1], (SH L, ex_ar σ 442 (fcN (σ 433) (σ 442)).2)) := by
  rw [ex_cd_eq (by omega)]
  show ex_ev (d - 1) 200 0 [vR 432, vL 0, vL 0, vL 0] [] (SH L, σ) = _
  (have := hN.a0; have := hN.b0; have := hN.a1; have := hN.b1; have := hN.a2; have := hN.b2; have := hN.a3; have := hN.b3; have := hN.a4; have := hN.b4; have := hN.a5; have := hN.b5; have := hN.a7; have := hN.b7; have := hN.a8; have := hN.b8; have := hN.a9; have := hN.b9; have := hN.a10; have := hN.b10; have := hN.oM; have := hN.oP)
  have mb := myR_bd (σ 433) (σ 433 1).toNat (by omega)
  have l2 : ∀ i : Nat, i ≤ (myR (σ 433) (σ 433 1).toNat).toNat → ∀ (b : Int) (nd : Int → Int), fcR (σ 433) (σ 442) (myR (σ 433) (σ 433 1).toNat) i = (b, nd) → ex_ev (d - 1) 200 5 [vR 432, vI (myR (σ 433) (σ 433 1).toNat), vI b, vI ((i : Int) + 1)] [] (SH L, ex_ar σ 442 nd) = some ([vI (fcN (σ 433) (σ 442)).1], (SH L, ex_ar σ 442 (fcN (σ 433) (σ 442)).2)) := by
    refine down ?_ ?_
    · intro b nd hk
      have e : fcN (σ 433) (σ 442) = (b, nd) := hk
      rw [e, ev_200_5]
      simp (disch := first | assumption | omega | ((repeat' first | exact ok_nil | apply ok_I | apply ok_R); done) | (simp (disch := first | omega | decide) only [ex_ar_same, ex_ar_diff, kM_diff, ex_u_same, ex_u_diff]; first | assumption | omega)) only [ev_200_0, ev_200_2, ev_200_3, ev_200_4, ev_200_6, ev_200_7, gf_432_0, ld_433, x_fall, x_goto, x_push, x_ret1, xc_157, xc_198, xc_199, xl_a0, xl_i1, xl_i2, xl_i3, xn_2, xn_3, xt_i1, xt_i2, xt_i3, y_cmp_ge_f, y_cmp_ge_t, y_cmp_gt_f, y_cmp_gt_t, y_cmp_le_f, y_cmp_le_t, y_iadd, y_iand, y_if_eq_f, y_if_eq_t, y_if_le_f, y_if_le_t, y_if_lt_f, y_if_lt_t, y_if_ne_f, y_if_ne_t, y_ior, y_ishl, y_ixor, i_wr_id, kM_diff, Int.reduceToNat, ex_ar_same, ex_ar_ar, ex_ar_diff, ex_u_same, ex_u_diff, b2i_t, b2i_f, ex_div_nn, ex_rem_nn, Int.toNat_zero, Int.toNat_one, Int.reduceAdd, Int.reduceSub, Int.reduceMul, Int.reduceNeg]
    · intro i hi ih b nd hk
      have hs : fcR (σ 433) (σ 442) (myR (σ 433) (σ 433 1).toNat) (i + 1) = fcS (σ 433) (σ 442) (myR (σ 433) (σ 433 1).toNat) (i + 1) (b, nd) := by rw [fcR, hk]
      unfold fcS at hs
      rw [show ((i + 1 : Nat) : Int) = (i : Int) + 1 by omega] at hs
      dsimp only at hs
      generalize hm : myR (σ 433) (σ 433 1).toNat = m at *
      rw [ev_200_5]
      by_cases q1 : ex_and ((i : Int) + 1) (ex_xor m (-1)) = 0
      · by_cases q2 : mnR b 8 < mnR ((i : Int) + 1) 8
        · rw [if_pos ⟨q1, q2⟩] at hs
          by_cases q3 : sm8 (canN (σ 433) nd ((i : Int) + 1)) 8 = 0
          · rw [if_pos q3] at hs
            simp (disch := first | assumption | omega | ((repeat' first | exact ok_nil | apply ok_I | apply ok_R); done) | (simp (disch := first | omega | decide) only [ex_ar_same, ex_ar_diff, kM_diff, ex_u_same, ex_u_diff]; first | assumption | omega)) only [ev_200_0, ev_200_2, ev_200_3, ev_200_4, ev_200_6, ev_200_7, gf_432_0, ld_433, x_fall, x_goto, x_push, x_ret1, xc_157, xc_198, xc_199, xl_a0, xl_i1, xl_i2, xl_i3, xn_2, xn_3, xt_i1, xt_i2, xt_i3, y_cmp_ge_f, y_cmp_ge_t, y_cmp_gt_f, y_cmp_gt_t, y_cmp_le_f, y_cmp_le_t, y_iadd, y_iand, y_if_eq_f, y_if_eq_t, y_if_le_f, y_if_le_t, y_if_lt_f, y_if_lt_t, y_if_ne_f, y_if_ne_t, y_ior, y_ishl, y_ixor, i_wr_id, kM_diff, Int.reduceToNat, ex_ar_same, ex_ar_ar, ex_ar_diff, ex_u_same, ex_u_diff, b2i_t, b2i_f, ex_div_nn, ex_rem_nn, Int.toNat_zero, Int.toNat_one, Int.reduceAdd, Int.reduceSub, Int.reduceMul, Int.reduceNeg]
            rw [nat_cast_succ]
            exact ih _ _ hs
          · rw [if_neg q3] at hs
            simp (disch := first | assumption | omega | ((repeat' first | exact ok_nil | apply ok_I | apply ok_R); done) | (simp (disch := first | omega | decide) only [ex_ar_same, ex_ar_diff, kM_diff, ex_u_same, ex_u_diff]; first | assumption | omega)) only [ev_200_0, ev_200_2, ev_200_3, ev_200_4, ev_200_6, ev_200_7, gf_432_0, ld_433, x_fall, x_goto, x_push, x_ret1, xc_157, xc_198, xc_199, xl_a0, xl_i1, xl_i2, xl_i3, xn_2, xn_3, xt_i1, xt_i2, xt_i3, y_cmp_ge_f, y_cmp_ge_t, y_cmp_gt_f, y_cmp_gt_t, y_cmp_le_f, y_cmp_le_t, y_iadd, y_iand, y_if_eq_f, y_if_eq_t, y_if_le_f, y_if_le_t, y_if_lt_f, y_if_lt_t, y_if_ne_f, y_if_ne_t, y_ior, y_ishl, y_ixor, i_wr_id, kM_diff, Int.reduceToNat, ex_ar_same, ex_ar_ar, ex_ar_diff, ex_u_same, ex_u_diff, b2i_t, b2i_f, ex_div_nn, ex_rem_nn, Int.toNat_zero, Int.toNat_one, Int.reduceAdd, Int.reduceSub, Int.reduceMul, Int.reduceNeg]
            rw [nat_cast_succ]
            exact ih _ _ hs
        · rw [if_neg (fun z => q2 z.2)] at hs
          simp (disch := first | assumption | omega | ((repeat' first | exact ok_nil | apply ok_I | apply ok_R); done) | (simp (disch := first | omega | decide) only [ex_ar_same, ex_ar_diff, kM_diff, ex_u_same, ex_u_diff]; first | assumption | omega)) only [ev_200_0, ev_200_2, ev_200_3, ev_200_4, ev_200_6, ev_200_7, gf_432_0, ld_433, x_fall, x_goto, x_push, x_ret1, xc_157, xc_198, xc_199, xl_a0, xl_i1, xl_i2, xl_i3, xn_2, xn_3, xt_i1, xt_i2, xt_i3, y_cmp_ge_f, y_cmp_ge_t, y_cmp_gt_f, y_cmp_gt_t, y_cmp_le_f, y_cmp_le_t, y_iadd, y_iand, y_if_eq_f, y_if_eq_t, y_if_le_f, y_if_le_t, y_if_lt_f, y_if_lt_t, y_if_ne_f, y_if_ne_t, y_ior, y_ishl, y_ixor, i_wr_id, kM_diff, Int.reduceToNat, ex_ar_same, ex_ar_ar, ex_ar_diff, ex_u_same, ex_u_diff, b2i_t, b2i_f, ex_div_nn, ex_rem_nn, Int.toNat_zero, Int.toNat_one, Int.reduceAdd, Int.reduceSub, Int.reduceMul, Int.reduceNeg]
          rw [nat_cast_succ]
          exact ih _ _ hs
      · rw [if_neg (fun z => q1 z.1)] at hs
        simp (disch := first | assumption | omega | ((repeat' first | exact ok_nil | apply ok_I | apply ok_R); done) | (simp (disch := first | omega | decide) only [ex_ar_same, ex_ar_diff, kM_diff, ex_u_same, ex_u_diff]; first | assumption | omega)) only [ev_200_0, ev_200_2, ev_200_3, ev_200_4, ev_200_6, ev_200_7, gf_432_0, ld_433, x_fall, x_goto, x_push, x_ret1, xc_157, xc_198, xc_199, xl_a0, xl_i1, xl_i2, xl_i3, xn_2, xn_3, xt_i1, xt_i2, xt_i3, y_cmp_ge_f, y_cmp_ge_t, y_cmp_gt_f, y_cmp_gt_t, y_cmp_le_f, y_cmp_le_t, y_iadd, y_iand, y_if_eq_f, y_if_eq_t, y_if_le_f, y_if_le_t, y_if_lt_f, y_if_lt_t, y_if_ne_f, y_if_ne_t, y_ior, y_ishl, y_ixor, i_wr_id, kM_diff, Int.reduceToNat, ex_ar_same, ex_ar_ar, ex_ar_diff, ex_u_same, ex_u_diff, b2i_t, b2i_f, ex_div_nn, ex_rem_nn, Int.toNat_zero, Int.toNat_one, Int.reduceAdd, Int.reduceSub, Int.reduceMul, Int.reduceNeg]
        rw [nat_cast_succ]
        exact ih _ _ hs
  have l1 : ∀ c : Nat, c ≤ (σ 433 1).toNat → ex_ev (d - 1) 200 1 [vR 432, vI (myR (σ 433) c), vI (c : Int), vL 0] [] (SH L, σ) = some ([vI (fcN (σ 433) (σ 442)).1], (SH L, ex_ar σ 442 (fcN (σ 433) (σ 442)).2)) := by
    refine down ?_ ?_
    · rw [ev_200_1]
      simp (disch := first | assumption | omega | ((repeat' first | exact ok_nil | apply ok_I | apply ok_R); done) | (simp (disch := first | omega | decide) only [ex_ar_same, ex_ar_diff, kM_diff, ex_u_same, ex_u_diff]; first | assumption | omega)) only [ev_200_0, ev_200_2, ev_200_3, ev_200_4, ev_200_6, ev_200_7, gf_432_0, ld_433, x_fall, x_goto, x_push, x_ret1, xc_157, xc_198, xc_199, xl_a0, xl_i1, xl_i2, xl_i3, xn_2, xn_3, xt_i1, xt_i2, xt_i3, y_cmp_ge_f, y_cmp_ge_t, y_cmp_gt_f, y_cmp_gt_t, y_cmp_le_f, y_cmp_le_t, y_iadd, y_iand, y_if_eq_f, y_if_eq_t, y_if_le_f, y_if_le_t, y_if_lt_f, y_if_lt_t, y_if_ne_f, y_if_ne_t, y_ior, y_ishl, y_ixor, i_wr_id, kM_diff, Int.reduceToNat, ex_ar_same, ex_ar_ar, ex_ar_diff, ex_u_same, ex_u_diff, b2i_t, b2i_f, ex_div_nn, ex_rem_nn, Int.toNat_zero, Int.toNat_one, Int.reduceAdd, Int.reduceSub, Int.reduceMul, Int.reduceNeg]
      have := l2 0 (by omega) 0 (σ 442) rfl
      rw [ex_ar_id] at this
      exact this
    · intro c hc ih
      rw [myR] at ih
      rw [ev_200_1]
      by_cases q1 : 0 < σ 433 (123 + (c : Int))
      · by_cases q2 : 0 ≤ standN (σ 433) (c : Int)
        · rw [if_pos ⟨q1, q2⟩] at ih
          simp (disch := first | assumption | omega | ((repeat' first | exact ok_nil | apply ok_I | apply ok_R); done) | (simp (disch := first | omega | decide) only [ex_ar_same, ex_ar_diff, kM_diff, ex_u_same, ex_u_diff]; first | assumption | omega)) only [ev_200_0, ev_200_2, ev_200_3, ev_200_4, ev_200_6, ev_200_7, gf_432_0, ld_433, x_fall, x_goto, x_push, x_ret1, xc_157, xc_198, xc_199, xl_a0, xl_i1, xl_i2, xl_i3, xn_2, xn_3, xt_i1, xt_i2, xt_i3, y_cmp_ge_f, y_cmp_ge_t, y_cmp_gt_f, y_cmp_gt_t, y_cmp_le_f, y_cmp_le_t, y_iadd, y_iand, y_if_eq_f, y_if_eq_t, y_if_le_f, y_if_le_t, y_if_lt_f, y_if_lt_t, y_if_ne_f, y_if_ne_t, y_ior, y_ishl, y_ixor, i_wr_id, kM_diff, Int.reduceToNat, ex_ar_same, ex_ar_ar, ex_ar_diff, ex_u_same, ex_u_diff, b2i_t, b2i_f, ex_div_nn, ex_rem_nn, Int.toNat_zero, Int.toNat_one, Int.reduceAdd, Int.reduceSub, Int.reduceMul, Int.reduceNeg]
          rw [nat_cast_succ]
          exact ih
        · rw [if_neg (fun z => q2 z.2)] at ih
          simp (disch := first | assumption | omega | ((repeat' first | exact ok_nil | apply ok_I | apply ok_R); done) | (simp (disch := first | omega | decide) only [ex_ar_same, ex_ar_diff, kM_diff, ex_u_same, ex_u_diff]; first | assumption | omega)) only [ev_200_0, ev_200_2, ev_200_3, ev_200_4, ev_200_6, ev_200_7, gf_432_0, ld_433, x_fall, x_goto, x_push, x_ret1, xc_157, xc_198, xc_199, xl_a0, xl_i1, xl_i2, xl_i3, xn_2, xn_3, xt_i1, xt_i2, xt_i3, y_cmp_ge_f, y_cmp_ge_t, y_cmp_gt_f, y_cmp_gt_t, y_cmp_le_f, y_cmp_le_t, y_iadd, y_iand, y_if_eq_f, y_if_eq_t, y_if_le_f, y_if_le_t, y_if_lt_f, y_if_lt_t, y_if_ne_f, y_if_ne_t, y_ior, y_ishl, y_ixor, i_wr_id, kM_diff, Int.reduceToNat, ex_ar_same, ex_ar_ar, ex_ar_diff, ex_u_same, ex_u_diff, b2i_t, b2i_f, ex_div_nn, ex_rem_nn, Int.toNat_zero, Int.toNat_one, Int.reduceAdd, Int.reduceSub, Int.reduceMul, Int.reduceNeg]
          rw [nat_cast_succ]
          exact ih
      · rw [if_neg (fun z => q1 z.1)] at ih
        simp (disch := first | assumption | omega | ((repeat' first | exact ok_nil | apply ok_I | apply ok_R); done) | (simp (disch := first | omega | decide) only [ex_ar_same, ex_ar_diff, kM_diff, ex_u_same, ex_u_diff]; first | assumption | omega)) only [ev_200_0, ev_200_2, ev_200_3, ev_200_4, ev_200_6, ev_200_7, gf_432_0, ld_433, x_fall, x_goto, x_push, x_ret1, xc_157, xc_198, xc_199, xl_a0, xl_i1, xl_i2, xl_i3, xn_2, xn_3, xt_i1, xt_i2, xt_i3, y_cmp_ge_f, y_cmp_ge_t, y_cmp_gt_f, y_cmp_gt_t, y_cmp_le_f, y_cmp_le_t, y_iadd, y_iand, y_if_eq_f, y_if_eq_t, y_if_le_f, y_if_le_t, y_if_lt_f, y_if_lt_t, y_if_ne_f, y_if_ne_t, y_ior, y_ishl, y_ixor, i_wr_id, kM_diff, Int.reduceToNat, ex_ar_same, ex_ar_ar, ex_ar_diff, ex_u_same, ex_u_diff, b2i_t, b2i_f, ex_div_nn, ex_rem_nn, Int.toNat_zero, Int.toNat_one, Int.reduceAdd, Int.reduceSub, Int.reduceMul, Int.reduceNeg]
        rw [nat_cast_succ]
        exact ih
  simp (disch := first | assumption | omega | ((repeat' first | exact ok_nil | apply ok_I | apply ok_R); done) | (simp (disch := first | omega | decide) only [ex_ar_same, ex_ar_diff, kM_diff, ex_u_same, ex_u_diff]; first | assumption | omega)) only [ev_200_0, ev_200_2, ev_200_3, ev_200_4, ev_200_6, ev_200_7, gf_432_0, ld_433, x_fall, x_goto, x_push, x_ret1, xc_157, xc_198, xc_199, xl_a0, xl_i1, xl_i2, xl_i3, xn_2, xn_3, xt_i1, xt_i2, xt_i3, y_cmp_ge_f, y_cmp_ge_t, y_cmp_gt_f, y_cmp_gt_t, y_cmp_le_f, y_cmp_le_t, y_iadd, y_iand, y_if_eq_f, y_if_eq_t, y_if_le_f, y_if_le_t, y_if_lt_f, y_if_lt_t, y_if_ne_f, y_if_ne_t, y_ior, y_ishl, y_ixor, i_wr_id, kM_diff, Int.reduceToNat, ex_ar_same, ex_ar_ar, ex_ar_diff, ex_u_same, ex_u_diff, b2i_t, b2i_f, ex_div_nn, ex_rem_nn, Int.toNat_zero, Int.toNat_one, Int.reduceAdd, Int.reduceSub, Int.reduceMul, Int.reduceNeg]
  exact l1 0 (by omega)
theorem xc_200 {rt d : Nat} {J : Nat → List ex_V → List ex_V → ex_H → Option ex_R} {is : List Instr} {ls st : List ex_V} {L : Nat} {σ : ex_S} (hN : NI (σ 433)) (hd : 2 < d) (hok : okN 8 st = true) : ex_xs rt J (ex_cd d) (.invokevirtual 200 :: is) ls (vR 432 :: st) (SH L, σ) = ex_xs rt J (ex_cd d) is ls (vI (fcN (σ 433) (σ 442)).1 :: st) (SH L, ex_ar σ 442 (fcN (σ 433) (σ 442)).2) := x_call1 (Or.inl rfl) rfl (sh_432 _) (Or.inl ⟨rfl, rfl⟩) (as := []) rfl rfl (okN_ok hok) rfl (sp_200 hd hN)
theorem sp_201 {d : Nat} (hd : 3 < d) {L : Nat} {σ : ex_S} (hN : NI (σ 433)) : ex_cd d 201 [vR 432] (SH L, σ) = some ([vI (fcN (σ 433) (σ 442)).1], (SH L, ex_ar σ 442 (fcN (σ 433) (σ 442)).2)) := by
  rw [ex_cd_eq (by omega)]
  show ex_ev (d - 1) 201 0 [vR 432] [] (SH L, σ) = _
  simp (disch := first | assumption | omega | ((repeat' first | exact ok_nil | apply ok_I | apply ok_R); done) | (simp (disch := first | omega | decide) only [ex_ar_same, ex_ar_diff, kM_diff, ex_u_same, ex_u_diff]; first | assumption | omega)) only [ev_201_0, x_ret1, xc_200, xl_a0, i_wr_id, kM_diff, Int.reduceToNat, ex_ar_same, ex_ar_ar, ex_ar_diff, ex_u_same, ex_u_diff, b2i_t, b2i_f, ex_div_nn, ex_rem_nn, Int.toNat_zero, Int.toNat_one, Int.reduceAdd, Int.reduceSub, Int.reduceMul, Int.reduceNeg]
theorem xc_201 {rt d : Nat} {J : Nat → List ex_V → List ex_V → ex_H → Option ex_R} {is : List Instr} {ls st : List ex_V} {L : Nat} {σ : ex_S} (hN : NI (σ 433)) (hd : 3 < d) (hok : okN 8 st = true) : ex_xs rt J (ex_cd d) (.invokevirtual 201 :: is) ls (vR 432 :: st) (SH L, σ) = ex_xs rt J (ex_cd d) is ls (vI (fcN (σ 433) (σ 442)).1 :: st) (SH L, ex_ar σ 442 (fcN (σ 433) (σ 442)).2) := x_call1 (Or.inl rfl) rfl (sh_432 _) (Or.inl ⟨rfl, rfl⟩) (as := []) rfl rfl (okN_ok hok) rfl (sp_201 hd hN)
/-- hours from 23 on -/
def cgR (n : Int → Int) (nd : Int → Int) : Nat → Int × (Int → Int)
  | 0 => (0, nd)
  | i + 1 => chR n (23 - (i : Int)) (cgR n nd i).2 (n 3).toNat
def cgN (n b : Int → Int) (h : Int) : Int × (Int → Int) := cgR n (cqF (ndF n (fcN n b).1) (fcN n b).2 8) (24 - h).toNat
theorem cgR_ok {n nd : Int → Int} (hd : okD nd) : ∀ i, okD (cgR n nd i).2
  | 0 => hd
  | i + 1 => chR_ok (cgR_ok hd i) _
def chargingM (σ : ex_S) (h : Int) : Int × ex_S := if 0 ≤ h ∧ h ≤ 23 then ((cgN (σ 433) (σ 442) h).1, ex_ar σ 442 (cgN (σ 433) (σ 442) h).2) else (-100001, fndM σ)
theorem sp_202 {d : Nat} (hd : 3 < d) {L : Nat} {σ : ex_S} {h : Int} (hN : NI (σ 433)) : ex_cd d 202 [vR 432, vI h] (SH L, σ) = some ([vI (chargingM σ h).1], (SH L, (chargingM σ h).2)) := by
  rw [ex_cd_eq (by omega)]
  show ex_ev (d - 1) 202 0 [vR 432, vI h, vL 0, vL 0] [] (SH L, σ) = _
  (have := hN.a0; have := hN.b0; have := hN.a1; have := hN.b1; have := hN.a2; have := hN.b2; have := hN.a3; have := hN.b3; have := hN.a4; have := hN.b4; have := hN.a5; have := hN.b5; have := hN.a7; have := hN.b7; have := hN.a8; have := hN.b8; have := hN.a9; have := hN.b9; have := hN.a10; have := hN.b10; have := hN.oM; have := hN.oP)
  unfold chargingM
  by_cases g : 0 ≤ h ∧ h ≤ 23
  · rw [if_pos g]
    have ok := ndF_ok hN (fcN (σ 433) (σ 442)).1 (fcN (σ 433) (σ 442)).2
    have l1 : ∀ i : Nat, i ≤ (24 - h).toNat → ∀ (k u : Int) (nd : Int → Int), k = 23 - (i : Int) → cgR (σ 433) (cqF (ndF (σ 433) (fcN (σ 433) (σ 442)).1) (fcN (σ 433) (σ 442)).2 8) i = (u, nd) → ex_ev (d - 1) 202 2 [vR 432, vI h, vI u, vI k] [] (SH L, ex_ar σ 442 nd) = some ([vI (cgN (σ 433) (σ 442) h).1], (SH L, ex_ar σ 442 (cgN (σ 433) (σ 442) h).2)) := by
      refine down ?_ ?_
      · intro k u nd hk hc
        have e : cgN (σ 433) (σ 442) h = (u, nd) := hc
        rw [e, ev_202_2]
        simp (disch := first | assumption | omega | ((repeat' first | exact ok_nil | apply ok_I | apply ok_R); done) | (simp (disch := first | omega | decide) only [ex_ar_same, ex_ar_diff, kM_diff, ex_u_same, ex_u_diff]; first | assumption | omega)) only [ev_202_0, ev_202_1, ev_202_3, x_fall, x_goto, x_push, x_ret1, xc_142, xc_146, xc_196, xc_197, xc_200, xl_a0, xl_i1, xl_i2, xl_i3, xn_3, xt_i2, xt_i3, y_cmp_lt_f, y_cmp_lt_t, y_if_ne_f, y_if_ne_t, i_wr_id, kM_diff, Int.reduceToNat, ex_ar_same, ex_ar_ar, ex_ar_diff, ex_u_same, ex_u_diff, b2i_t, b2i_f, ex_div_nn, ex_rem_nn, Int.toNat_zero, Int.toNat_one, Int.reduceAdd, Int.reduceSub, Int.reduceMul, Int.reduceNeg]
      · intro i hi ih k u nd hk hc
        have okk : okD nd := by have := cgR_ok (n := σ 433) ok i; rw [hc] at this; exact this
        have okk' : okD (ex_ar σ 442 nd 442) := by rw [ex_ar_same]; exact okk
        have hs : cgR (σ 433) (cqF (ndF (σ 433) (fcN (σ 433) (σ 442)).1) (fcN (σ 433) (σ 442)).2 8) (i + 1) = ((chR (σ 433) k nd (σ 433 3).toNat).1, (chR (σ 433) k nd (σ 433 3).toNat).2) := by rw [cgR, hc, hk]
        rw [ev_202_2]
        simp (disch := first | assumption | omega | ((repeat' first | exact ok_nil | apply ok_I | apply ok_R); done) | (simp (disch := first | omega | decide) only [ex_ar_same, ex_ar_diff, kM_diff, ex_u_same, ex_u_diff]; first | assumption | omega)) only [ev_202_0, ev_202_1, ev_202_3, x_fall, x_goto, x_push, x_ret1, xc_142, xc_146, xc_196, xc_197, xc_200, xl_a0, xl_i1, xl_i2, xl_i3, xn_3, xt_i2, xt_i3, y_cmp_lt_f, y_cmp_lt_t, y_if_ne_f, y_if_ne_t, i_wr_id, kM_diff, Int.reduceToNat, ex_ar_same, ex_ar_ar, ex_ar_diff, ex_u_same, ex_u_diff, b2i_t, b2i_f, ex_div_nn, ex_rem_nn, Int.toNat_zero, Int.toNat_one, Int.reduceAdd, Int.reduceSub, Int.reduceMul, Int.reduceNeg]
        exact ih _ _ _ (by omega) hs
    simp (disch := first | assumption | omega | ((repeat' first | exact ok_nil | apply ok_I | apply ok_R); done) | (simp (disch := first | omega | decide) only [ex_ar_same, ex_ar_diff, kM_diff, ex_u_same, ex_u_diff]; first | assumption | omega)) only [ev_202_0, ev_202_1, ev_202_3, x_fall, x_goto, x_push, x_ret1, xc_142, xc_146, xc_196, xc_197, xc_200, xl_a0, xl_i1, xl_i2, xl_i3, xn_3, xt_i2, xt_i3, y_cmp_lt_f, y_cmp_lt_t, y_if_ne_f, y_if_ne_t, i_wr_id, kM_diff, Int.reduceToNat, ex_ar_same, ex_ar_ar, ex_ar_diff, ex_u_same, ex_u_diff, b2i_t, b2i_f, ex_div_nn, ex_rem_nn, Int.toNat_zero, Int.toNat_one, Int.reduceAdd, Int.reduceSub, Int.reduceMul, Int.reduceNeg]
    exact l1 0 (by omega) _ _ _ (by omega) rfl
  · rw [if_neg g]
    simp (disch := first | assumption | omega | ((repeat' first | exact ok_nil | apply ok_I | apply ok_R); done) | (simp (disch := first | omega | decide) only [ex_ar_same, ex_ar_diff, kM_diff, ex_u_same, ex_u_diff]; first | assumption | omega)) only [ev_202_0, ev_202_1, ev_202_3, x_fall, x_goto, x_push, x_ret1, xc_142, xc_146, xc_196, xc_197, xc_200, xl_a0, xl_i1, xl_i2, xl_i3, xn_3, xt_i2, xt_i3, y_cmp_lt_f, y_cmp_lt_t, y_if_ne_f, y_if_ne_t, i_wr_id, kM_diff, Int.reduceToNat, ex_ar_same, ex_ar_ar, ex_ar_diff, ex_u_same, ex_u_diff, b2i_t, b2i_f, ex_div_nn, ex_rem_nn, Int.toNat_zero, Int.toNat_one, Int.reduceAdd, Int.reduceSub, Int.reduceMul, Int.reduceNeg]
theorem xc_202 {rt d : Nat} {J : Nat → List ex_V → List ex_V → ex_H → Option ex_R} {is : List Instr} {ls st : List ex_V} {L : Nat} {σ : ex_S} {h : Int} (hN : NI (σ 433)) (hd : 3 < d) (hok : okN 8 st = true) : ex_xs rt J (ex_cd d) (.invokevirtual 202 :: is) ls (vI h :: vR 432 :: st) (SH L, σ) = ex_xs rt J (ex_cd d) is ls (vI (chargingM σ h).1 :: st) (SH L, (chargingM σ h).2) := x_call1 (Or.inl rfl) rfl (sh_432 _) (Or.inl ⟨rfl, rfl⟩) (as := [vI h]) rfl rfl (okN_ok hok) rfl (sp_202 hd hN)
