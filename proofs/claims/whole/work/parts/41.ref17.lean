/-! the reference: given, rent, giving; rescues -/
def gvnN (n g : Int → Int) (t : Int) : Int := (gvR n g 5).2.2 t
theorem gvn_lo {n : Int → Int} (hN : NI n) (g : Int → Int) : ∀ k : Nat, k ≤ 5 → ∀ t : Int, 0 ≤ t → t < (k : Int) → 0 ≤ (gvR n g k).2.2 t ∧ (gvR n g k).2.2 t < 5
  | 0, _, t, h1, h2 => by omega
  | k + 1, h, t, h1, h2 => by
    have ih := gvn_lo hN g k (by omega) t h1
    have v := (gvF_lt hN g (t := k) (by omega)).1
    rw [gvR]
    dsimp only
    by_cases e : t = (k : Int)
    · rw [e, ex_u_same]; omega
    · rw [ex_u_diff _ _ e]; exact ih (by omega)
def givenM (σ : ex_S) (t : Int) : Int × ex_S := if 0 ≤ t ∧ t ≤ 4 then (gvnN (σ 433) (σ 443) t, ex_ar σ 443 (gvR (σ 433) (σ 443) 5).2.2) else (-100001, fndM σ)
theorem sp_206 {d : Nat} (hd : 11 < d) {L : Nat} {σ : ex_S} {t : Int} (hN : NI (σ 433)) : ex_cd d 206 [vR 432, vI t] (SH L, σ) = some ([vI (givenM σ t).1], (SH L, (givenM σ t).2)) := by
  rw [ex_cd_eq (by omega)]
  show ex_ev (d - 1) 206 0 [vR 432, vI t, vL 0] [] (SH L, σ) = _
  have r := gv_205 (d := d - 1) (L := L) (σ := σ) (by omega) hN
  unfold givenM gvnN
  by_cases g : 0 ≤ t ∧ t ≤ 4
  · rw [if_pos g]
    simp (disch := first | assumption | omega | ((repeat' first | exact ok_nil | apply ok_I | apply ok_R); done) | (simp (disch := first | omega | decide) only [ex_ar_same, ex_ar_diff, kM_diff, ex_u_same, ex_u_diff]; first | assumption | omega)) only [(xr_205 r), ev_206_0, ev_206_1, gf_432_13, ld_443, x_push, x_ret1, xc_142, xc_143, xl_a0, xl_i1, xt_i2, y_if_ne_f, y_if_ne_t, i_wr_id, kM_diff, Int.reduceToNat, ex_ar_same, ex_ar_ar, ex_ar_diff, ex_u_same, ex_u_diff, b2i_t, b2i_f, ex_div_nn, ex_rem_nn, Int.toNat_zero, Int.toNat_one, Int.reduceAdd, Int.reduceSub, Int.reduceMul, Int.reduceNeg]
  · rw [if_neg g]
    simp (disch := first | assumption | omega | ((repeat' first | exact ok_nil | apply ok_I | apply ok_R); done) | (simp (disch := first | omega | decide) only [ex_ar_same, ex_ar_diff, kM_diff, ex_u_same, ex_u_diff]; first | assumption | omega)) only [ev_206_0, ev_206_1, gf_432_13, ld_443, x_push, x_ret1, xc_142, xc_143, xl_a0, xl_i1, xt_i2, y_if_ne_f, y_if_ne_t, i_wr_id, kM_diff, Int.reduceToNat, ex_ar_same, ex_ar_ar, ex_ar_diff, ex_u_same, ex_u_diff, b2i_t, b2i_f, ex_div_nn, ex_rem_nn, Int.toNat_zero, Int.toNat_one, Int.reduceAdd, Int.reduceSub, Int.reduceMul, Int.reduceNeg]
theorem xc_206 {rt d : Nat} {J : Nat → List ex_V → List ex_V → ex_H → Option ex_R} {is : List Instr} {ls st : List ex_V} {L : Nat} {σ : ex_S} {t : Int} (hN : NI (σ 433)) (hd : 11 < d) (hok : okN 8 st = true) : ex_xs rt J (ex_cd d) (.invokevirtual 206 :: is) ls (vI t :: vR 432 :: st) (SH L, σ) = ex_xs rt J (ex_cd d) is ls (vI (givenM σ t).1 :: st) (SH L, (givenM σ t).2) := x_call1 (Or.inl rfl) rfl (sh_432 _) (Or.inl ⟨rfl, rfl⟩) (as := [vI t]) rfl rfl (okN_ok hok) rfl (sp_206 hd hN)
theorem sp_208 {d : Nat} (hd : 11 < d) {L : Nat} {σ : ex_S} (hN : NI (σ 433)) : ex_cd d 208 [vR 432] (SH L, σ) = some ([vI (mfN (σ 433) 5 31 (-1))], (SH L, ex_ar σ 443 (gvR (σ 433) (σ 443) 5).2.2)) := by
  rw [ex_cd_eq (by omega)]
  show ex_ev (d - 1) 208 0 [vR 432] [] (SH L, σ) = _
  have r := gv_205 (d := d - 1) (L := L) (σ := σ) (by omega) hN
  simp (disch := first | assumption | omega | ((repeat' first | exact ok_nil | apply ok_I | apply ok_R); done) | (simp (disch := first | omega | decide) only [ex_ar_same, ex_ar_diff, kM_diff, ex_u_same, ex_u_diff]; first | assumption | omega)) only [(xr_205 r), ev_208_0, x_ret1, xl_a0, i_wr_id, kM_diff, Int.reduceToNat, ex_ar_same, ex_ar_ar, ex_ar_diff, ex_u_same, ex_u_diff, b2i_t, b2i_f, ex_div_nn, ex_rem_nn, Int.toNat_zero, Int.toNat_one, Int.reduceAdd, Int.reduceSub, Int.reduceMul, Int.reduceNeg]
theorem xc_208 {rt d : Nat} {J : Nat → List ex_V → List ex_V → ex_H → Option ex_R} {is : List Instr} {ls st : List ex_V} {L : Nat} {σ : ex_S} (hN : NI (σ 433)) (hd : 11 < d) (hok : okN 8 st = true) : ex_xs rt J (ex_cd d) (.invokevirtual 208 :: is) ls (vR 432 :: st) (SH L, σ) = ex_xs rt J (ex_cd d) is ls (vI (mfN (σ 433) 5 31 (-1)) :: st) (SH L, ex_ar σ 443 (gvR (σ 433) (σ 443) 5).2.2) := x_call1 (Or.inl rfl) rfl (sh_432 _) (Or.inl ⟨rfl, rfl⟩) (as := []) rfl rfl (okN_ok hok) rfl (sp_208 hd hN)
def rentM (σ : ex_S) (t : Int) : Int × ex_S := if 0 ≤ t ∧ t ≤ 4 then (mfN (σ 433) 5 31 t - (mfN (σ 433) 5 31 (-1) - σ 433 (146 + 5 * t + gvnN (σ 433) (σ 443) t)), ex_ar σ 443 (gvR (σ 433) (σ 443) 5).2.2) else (-100001, fndM σ)
theorem sp_207 {d : Nat} (hd : 11 < d) {L : Nat} {σ : ex_S} {t : Int} (hN : NI (σ 433)) : ex_cd d 207 [vR 432, vI t] (SH L, σ) = some ([vI (rentM σ t).1], (SH L, (rentM σ t).2)) := by
  rw [ex_cd_eq (by omega)]
  show ex_ev (d - 1) 207 0 [vR 432, vI t, vL 0] [] (SH L, σ) = _
  have r := gv_205 (d := d - 1) (L := L) (σ := σ) (by omega) hN
  unfold rentM gvnN
  by_cases g : 0 ≤ t ∧ t ≤ 4
  · rw [if_pos g]
    have lo := gvn_lo hN (σ 443) 5 (by omega) t (by omega) (by omega)
    have r2 := mf_204 5 (d := d - 1) (L := L) (σ := ex_ar σ 443 (gvR (σ 433) (σ 443) 5).2.2) (t := 0) (f := 31) (w := t) (by omega) (by omega) (by rw [ex_ar_diff _ _ _ (by decide)]; exact hN) (by omega)
    rw [ex_ar_diff _ _ _ (by decide)] at r2
    have b1 := mfN_bd hN 5 31 (-1) (by omega)
    have b2 := mfN_bd hN 5 31 t (by omega)
    have bd := hN.bd (5 * t + (gvR (σ 433) (σ 443) 5).2.2 t) (by omega) (by omega)
    rw [show 146 + (5 * t + (gvR (σ 433) (σ 443) 5).2.2 t) = 146 + 5 * t + (gvR (σ 433) (σ 443) 5).2.2 t by omega] at bd
    generalize (gvR (σ 433) (σ 443) 5).2.2 = G at *
    simp (disch := first | assumption | omega | ((repeat' first | exact ok_nil | apply ok_I | apply ok_R); done) | (simp (disch := first | omega | decide) only [ex_ar_same, ex_ar_diff, kM_diff, ex_u_same, ex_u_diff]; first | assumption | omega)) only [(xr_204 r2), (xr_205 r), ev_207_0, ev_207_1, gf_432_0, gf_432_13, ld_433, ld_443, x_imul, x_push, x_ret1, xc_142, xc_143, xl_a0, xl_i1, xl_i2, xt_i2, y_iadd, y_if_ne_f, y_if_ne_t, y_isub, i_wr_id, kM_diff, Int.reduceToNat, ex_ar_same, ex_ar_ar, ex_ar_diff, ex_u_same, ex_u_diff, b2i_t, b2i_f, ex_div_nn, ex_rem_nn, Int.toNat_zero, Int.toNat_one, Int.reduceAdd, Int.reduceSub, Int.reduceMul, Int.reduceNeg]
  · rw [if_neg g]
    simp (disch := first | assumption | omega | ((repeat' first | exact ok_nil | apply ok_I | apply ok_R); done) | (simp (disch := first | omega | decide) only [ex_ar_same, ex_ar_diff, kM_diff, ex_u_same, ex_u_diff]; first | assumption | omega)) only [ev_207_0, ev_207_1, gf_432_0, gf_432_13, ld_433, ld_443, x_imul, x_push, x_ret1, xc_142, xc_143, xl_a0, xl_i1, xl_i2, xt_i2, y_iadd, y_if_ne_f, y_if_ne_t, y_isub, i_wr_id, kM_diff, Int.reduceToNat, ex_ar_same, ex_ar_ar, ex_ar_diff, ex_u_same, ex_u_diff, b2i_t, b2i_f, ex_div_nn, ex_rem_nn, Int.toNat_zero, Int.toNat_one, Int.reduceAdd, Int.reduceSub, Int.reduceMul, Int.reduceNeg]
theorem xc_207 {rt d : Nat} {J : Nat → List ex_V → List ex_V → ex_H → Option ex_R} {is : List Instr} {ls st : List ex_V} {L : Nat} {σ : ex_S} {t : Int} (hN : NI (σ 433)) (hd : 11 < d) (hok : okN 8 st = true) : ex_xs rt J (ex_cd d) (.invokevirtual 207 :: is) ls (vI t :: vR 432 :: st) (SH L, σ) = ex_xs rt J (ex_cd d) is ls (vI (rentM σ t).1 :: st) (SH L, (rentM σ t).2) := x_call1 (Or.inl rfl) rfl (sh_432 _) (Or.inl ⟨rfl, rfl⟩) (as := [vI t]) rfl rfl (okN_ok hok) rfl (sp_207 hd hN)
