/-! the reference: what is kept, lanes, cars, coming and going -/
def kpS (i : Nat) (σ : ex_S) : ex_S := ex_ar σ 434 (ex_u (σ 434) (i : Int) (σ 434 ((i : Int) + 277)))
def kpC (i : Nat) (σ : ex_S) : ex_S := ex_ar σ 434 (ex_u (σ 434) (σ 432 2 * 277 + (i : Int)) (σ 433 (i : Int)))
theorem itr_keeps {f : Nat → ex_S → ex_S} {a : Nat} (h : ∀ i σ, f i σ a = σ a) : ∀ (j i : Nat) (σ : ex_S), itr f i j σ a = σ a
  | 0, _, _ => rfl
  | j + 1, i, σ => by
    show itr f (i + 1) j (f i σ) a = σ a
    rw [itr_keeps h j (i + 1) (f i σ), h]
theorem kpS_ne {a : Nat} (h : a ≠ 434) (i : Nat) (σ : ex_S) : kpS i σ a = σ a := ex_ar_diff _ _ _ h
theorem kpC_ne {a : Nat} (h : a ≠ 434) (i : Nat) (σ : ex_S) : kpC i σ a = σ a := ex_ar_diff _ _ _ h
theorem kpS_at : ∀ (j i : Nat) (σ : ex_S) (k : Int), itr kpS i j σ 434 k = if (i : Int) ≤ k ∧ k < (i : Int) + (j : Int) then σ 434 (k + 277) else σ 434 k
  | 0, i, σ, k => by rw [if_neg (by omega)]; rfl
  | j + 1, i, σ, k => by
    show itr kpS (i + 1) j (kpS i σ) 434 k = _
    rw [kpS_at j (i + 1) (kpS i σ) k]
    unfold kpS
    rw [ex_ar_same]
    by_cases h1 : ((i + 1 : Nat) : Int) ≤ k ∧ k < ((i + 1 : Nat) : Int) + (j : Int)
    · rw [if_pos h1, if_pos (by omega), ex_u_diff _ _ (by omega)]
    · rw [if_neg h1]
      by_cases h2 : k = (i : Int)
      · rw [h2, ex_u_same, if_pos (by omega)]
      · rw [ex_u_diff _ _ h2, if_neg (by omega)]
theorem kpC_at : ∀ (j i : Nat) (σ : ex_S) (k : Int), itr kpC i j σ 434 k = if σ 432 2 * 277 + (i : Int) ≤ k ∧ k < σ 432 2 * 277 + (i : Int) + (j : Int) then σ 433 (k - σ 432 2 * 277) else σ 434 k
  | 0, i, σ, k => by rw [if_neg (by omega)]; rfl
  | j + 1, i, σ, k => by
    show itr kpC (i + 1) j (kpC i σ) 434 k = _
    rw [kpC_at j (i + 1) (kpC i σ) k, kpC_ne (by decide), kpC_ne (by decide)]
    unfold kpC
    rw [ex_ar_same]
    by_cases h1 : σ 432 2 * 277 + ((i + 1 : Nat) : Int) ≤ k ∧ k < σ 432 2 * 277 + ((i + 1 : Nat) : Int) + (j : Int)
    · rw [if_pos h1, if_pos (by omega)]
    · rw [if_neg h1]
      by_cases h2 : k = σ 432 2 * 277 + (i : Int)
      · rw [h2, ex_u_same, if_pos (by omega)]
        congr 1
        omega
      · rw [ex_u_diff _ _ h2, if_neg (by omega)]
def kp1 (σ : ex_S) : ex_S := ex_ar (itr kpS 0 4155 σ) 432 (ex_u (σ 432) 2 (σ 432 2 - 1))
def kp2 (σ : ex_S) : ex_S := ex_ar (itr kpC 0 277 σ) 432 (ex_u (σ 432) 2 (σ 432 2 + 1))
def keepM (σ : ex_S) : ex_S := if σ 432 2 = 16 then kp2 (kp1 σ) else kp2 σ
theorem lc_147 {d L : Nat} : ∀ (j i : Nat) (σ : ex_S), 0 ≤ σ 432 2 → σ 432 2 < 16 → i + j = 277 → ex_ev d 147 4 [vR 432, vI (i : Int)] [] (SH L, σ) = some ([], (SH L, ex_ar (itr kpC i j σ) 432 (ex_u (σ 432) 2 (σ 432 2 + 1)))) := by
  intro j
  induction j with
  | zero =>
    intro i σ h1 h2 hij
    rw [ev_147_4]
    simp (disch := first | assumption | omega | (repeat' first | exact ok_nil | apply ok_I | apply ok_R)) only [ev_147_0, ev_147_2, ev_147_3, ev_147_5, gf_432_0, gf_432_1, gf_432_2, ld_433, ld_434, pf_432_2, sd_433, sd_434, x_dupI, x_dupR, x_fall, x_goto, x_iadd, x_imul, x_isub, x_push, x_ret0, xl_a0, xl_i1, xn_1, xt_i1, y_cmp_ge_f, y_cmp_ge_t, y_cmp_ne_f, y_cmp_ne_t, i_wr_id, Int.reduceToNat, ex_ar_same, ex_ar_ar, ex_ar_diff, ex_u_same, ex_u_diff, b2i_t, b2i_f, ex_div_nn, ex_rem_nn, Int.toNat_zero, Int.toNat_one]
    rfl
  | succ j ih =>
    intro i σ h1 h2 hij
    rw [ev_147_4]
    simp (disch := first | assumption | omega | (repeat' first | exact ok_nil | apply ok_I | apply ok_R)) only [ev_147_0, ev_147_2, ev_147_3, ev_147_5, gf_432_0, gf_432_1, gf_432_2, ld_433, ld_434, pf_432_2, sd_433, sd_434, x_dupI, x_dupR, x_fall, x_goto, x_iadd, x_imul, x_isub, x_push, x_ret0, xl_a0, xl_i1, xn_1, xt_i1, y_cmp_ge_f, y_cmp_ge_t, y_cmp_ne_f, y_cmp_ne_t, i_wr_id, Int.reduceToNat, ex_ar_same, ex_ar_ar, ex_ar_diff, ex_u_same, ex_u_diff, b2i_t, b2i_f, ex_div_nn, ex_rem_nn, Int.toNat_zero, Int.toNat_one]
    rw [nat_cast_succ]
    have := ih (i + 1) (kpC i σ) (by rw [kpC_ne (by decide)]; exact h1) (by rw [kpC_ne (by decide)]; exact h2) (by omega)
    rw [kpC_ne (by decide)] at this
    exact this
theorem ls_147 {d L : Nat} : ∀ (j i : Nat) (σ : ex_S), σ 432 2 = 16 → i + j = 4155 → ex_ev d 147 1 [vR 432, vI (i : Int)] [] (SH L, σ) = ex_ev d 147 4 [vR 432, vI 0] [] (SH L, ex_ar (itr kpS i j σ) 432 (ex_u (σ 432) 2 (σ 432 2 - 1))) := by
  intro j
  induction j with
  | zero =>
    intro i σ h1 hij
    rw [ev_147_1]
    simp (disch := first | assumption | omega | (repeat' first | exact ok_nil | apply ok_I | apply ok_R)) only [ev_147_0, ev_147_2, ev_147_3, ev_147_5, gf_432_0, gf_432_1, gf_432_2, ld_433, ld_434, pf_432_2, sd_433, sd_434, x_dupI, x_dupR, x_fall, x_goto, x_iadd, x_imul, x_isub, x_push, x_ret0, xl_a0, xl_i1, xn_1, xt_i1, y_cmp_ge_f, y_cmp_ge_t, y_cmp_ne_f, y_cmp_ne_t, i_wr_id, Int.reduceToNat, ex_ar_same, ex_ar_ar, ex_ar_diff, ex_u_same, ex_u_diff, b2i_t, b2i_f, ex_div_nn, ex_rem_nn, Int.toNat_zero, Int.toNat_one]
    rfl
  | succ j ih =>
    intro i σ h1 hij
    rw [ev_147_1]
    simp (disch := first | assumption | omega | (repeat' first | exact ok_nil | apply ok_I | apply ok_R)) only [ev_147_0, ev_147_2, ev_147_3, ev_147_5, gf_432_0, gf_432_1, gf_432_2, ld_433, ld_434, pf_432_2, sd_433, sd_434, x_dupI, x_dupR, x_fall, x_goto, x_iadd, x_imul, x_isub, x_push, x_ret0, xl_a0, xl_i1, xn_1, xt_i1, y_cmp_ge_f, y_cmp_ge_t, y_cmp_ne_f, y_cmp_ne_t, i_wr_id, Int.reduceToNat, ex_ar_same, ex_ar_ar, ex_ar_diff, ex_u_same, ex_u_diff, b2i_t, b2i_f, ex_div_nn, ex_rem_nn, Int.toNat_zero, Int.toNat_one]
    rw [nat_cast_succ]
    have := ih (i + 1) (kpS i σ) (by rw [kpS_ne (by decide)]; exact h1) (by omega)
    rw [kpS_ne (by decide)] at this
    exact this
theorem sp_147 {d : Nat} (hd : 0 < d) {L : Nat} {σ : ex_S} (hk : 0 ≤ σ 432 2) (hk2 : σ 432 2 ≤ 16) : ex_cd d 147 [vR 432] (SH L, σ) = some ([], (SH L, keepM σ)) := by
  rw [ex_cd_eq (by omega)]
  show ex_ev (d - 1) 147 0 [vR 432, vL 0] [] (SH L, σ) = _
  unfold keepM
  by_cases h : σ 432 2 = 16
  · rw [if_pos h]
    simp (disch := first | assumption | omega | (repeat' first | exact ok_nil | apply ok_I | apply ok_R)) only [ev_147_0, ev_147_2, ev_147_3, ev_147_5, gf_432_0, gf_432_1, gf_432_2, ld_433, ld_434, pf_432_2, sd_433, sd_434, x_dupI, x_dupR, x_fall, x_goto, x_iadd, x_imul, x_isub, x_push, x_ret0, xl_a0, xl_i1, xn_1, xt_i1, y_cmp_ge_f, y_cmp_ge_t, y_cmp_ne_f, y_cmp_ne_t, i_wr_id, Int.reduceToNat, ex_ar_same, ex_ar_ar, ex_ar_diff, ex_u_same, ex_u_diff, b2i_t, b2i_f, ex_div_nn, ex_rem_nn, Int.toNat_zero, Int.toNat_one]
    have e := ls_147 (d := d - 1) (L := L) 4155 0 σ h (by omega)
    have e2 := lc_147 (d := d - 1) (L := L) 277 0 (kp1 σ) (by unfold kp1; rw [ex_ar_same, ex_u_same]; omega) (by unfold kp1; rw [ex_ar_same, ex_u_same]; omega) (by omega)
    exact e.trans e2
  · rw [if_neg h]
    simp (disch := first | assumption | omega | (repeat' first | exact ok_nil | apply ok_I | apply ok_R)) only [ev_147_0, ev_147_2, ev_147_3, ev_147_5, gf_432_0, gf_432_1, gf_432_2, ld_433, ld_434, pf_432_2, sd_433, sd_434, x_dupI, x_dupR, x_fall, x_goto, x_iadd, x_imul, x_isub, x_push, x_ret0, xl_a0, xl_i1, xn_1, xt_i1, y_cmp_ge_f, y_cmp_ge_t, y_cmp_ne_f, y_cmp_ne_t, i_wr_id, Int.reduceToNat, ex_ar_same, ex_ar_ar, ex_ar_diff, ex_u_same, ex_u_diff, b2i_t, b2i_f, ex_div_nn, ex_rem_nn, Int.toNat_zero, Int.toNat_one]
    exact lc_147 277 0 σ hk (by omega) (by omega)
theorem xc_147 {rt d : Nat} {J : Nat → List ex_V → List ex_V → ex_H → Option ex_R} {is : List Instr} {ls st : List ex_V} {L : Nat} {σ : ex_S} (hk : 0 ≤ σ 432 2) (hk2 : σ 432 2 ≤ 16) (hd : 0 < d) (hok : okN 8 st = true) : ex_xs rt J (ex_cd d) (.invokevirtual 147 :: is) ls (vR 432 :: st) (SH L, σ) = ex_xs rt J (ex_cd d) is ls (st) (SH L, keepM σ) := x_call1 (Or.inl rfl) rfl (sh_432 _) (Or.inl ⟨rfl, rfl⟩) (as := []) rfl rfl (okN_ok hok) rfl (sp_147 hd hk hk2)
theorem kp1_ne {a : Nat} (h : a ≠ 432) (h2 : a ≠ 434) (σ : ex_S) : kp1 σ a = σ a := by unfold kp1; rw [ex_ar_diff _ _ _ h, itr_keeps (fun i σ => kpS_ne h2 i σ)]
theorem kp2_ne {a : Nat} (h : a ≠ 432) (h2 : a ≠ 434) (σ : ex_S) : kp2 σ a = σ a := by unfold kp2; rw [ex_ar_diff _ _ _ h, itr_keeps (fun i σ => kpC_ne h2 i σ)]
theorem kM_diff (σ : ex_S) {a : Nat} (h : a ≠ 432) (h2 : a ≠ 434) : keepM σ a = σ a := by
  unfold keepM
  split
  · rw [kp2_ne h h2, kp1_ne h h2]
  · rw [kp2_ne h h2]
theorem kM_432 (σ : ex_S) : keepM σ 432 = ex_u (σ 432) 2 (if σ 432 2 = 16 then 16 else σ 432 2 + 1) := by
  unfold keepM
  by_cases h : σ 432 2 = 16
  · rw [if_pos h, if_pos h]
    unfold kp2 kp1
    rw [ex_ar_same, ex_ar_same]
    funext k
    by_cases hk : k = 2
    · subst hk
      rw [ex_u_same, ex_u_same, ex_u_same]
      omega
    · rw [ex_u_diff _ _ hk, ex_u_diff _ _ hk, ex_u_diff _ _ hk]
  · rw [if_neg h, if_neg h]
    unfold kp2
    rw [ex_ar_same]
theorem kM_434 (σ : ex_S) (hk : 0 ≤ σ 432 2) (hk2 : σ 432 2 ≤ 16) (k : Int) : keepM σ 434 k = if σ 432 2 = 16 then (if 4155 ≤ k ∧ k < 4432 then σ 433 (k - 4155) else if 0 ≤ k ∧ k < 4155 then σ 434 (k + 277) else σ 434 k) else (if σ 432 2 * 277 ≤ k ∧ k < σ 432 2 * 277 + 277 then σ 433 (k - σ 432 2 * 277) else σ 434 k) := by
  unfold keepM
  by_cases h : σ 432 2 = 16
  · rw [if_pos h, if_pos h]
    unfold kp2
    rw [ex_ar_diff _ _ _ (by decide), kpC_at]
    have e1 : kp1 σ 432 2 = 15 := by unfold kp1; rw [ex_ar_same, ex_u_same]; omega
    rw [e1, kp1_ne (by decide) (by decide)]
    by_cases h1 : 4155 ≤ k ∧ k < 4432
    · rw [if_pos (by omega), if_pos h1]
      congr 1
    · rw [if_neg (by omega), if_neg h1]
      unfold kp1
      rw [ex_ar_diff _ _ _ (by decide), kpS_at]
      by_cases h2 : 0 ≤ k ∧ k < 4155
      · rw [if_pos (by omega), if_pos h2]
      · rw [if_neg (by omega), if_neg h2]
  · rw [if_neg h, if_neg h]
    unfold kp2
    rw [ex_ar_diff _ _ _ (by decide), kpC_at]
    by_cases h1 : σ 432 2 * 277 ≤ k ∧ k < σ 432 2 * 277 + 277
    · rw [if_pos (by omega), if_pos h1]
    · rw [if_neg (by omega), if_neg h1]
/-! undo -/
def unS (i : Nat) (σ : ex_S) : ex_S := ex_ar σ 433 (ex_u (σ 433) (i : Int) (σ 434 (σ 432 2 * 277 + (i : Int))))
theorem unS_ne {a : Nat} (h : a ≠ 433) (i : Nat) (σ : ex_S) : unS i σ a = σ a := ex_ar_diff _ _ _ h
theorem unS_at : ∀ (j i : Nat) (σ : ex_S) (k : Int), itr unS i j σ 433 k = if (i : Int) ≤ k ∧ k < (i : Int) + (j : Int) then σ 434 (σ 432 2 * 277 + k) else σ 433 k
  | 0, i, σ, k => by rw [if_neg (by omega)]; rfl
  | j + 1, i, σ, k => by
    show itr unS (i + 1) j (unS i σ) 433 k = _
    rw [unS_at j (i + 1) (unS i σ) k, unS_ne (by decide), unS_ne (by decide)]
    unfold unS
    rw [ex_ar_same]
    by_cases h1 : ((i + 1 : Nat) : Int) ≤ k ∧ k < ((i + 1 : Nat) : Int) + (j : Int)
    · rw [if_pos h1, if_pos (by omega)]
    · rw [if_neg h1]
      by_cases h2 : k = (i : Int)
      · rw [h2, ex_u_same, if_pos (by omega)]
      · rw [ex_u_diff _ _ h2, if_neg (by omega)]
theorem lu_148 {d L : Nat} : ∀ (j i : Nat) (σ : ex_S), 0 ≤ σ 432 2 → σ 432 2 < 16 → i + j = 277 → ex_ev d 148 2 [vR 432, vI (i : Int)] [] (SH L, σ) = some ([vI (σ 432 2)], (SH L, itr unS i j σ)) := by
  intro j
  induction j with
  | zero =>
    intro i σ h1 h2 hij
    rw [ev_148_2]
    simp (disch := first | assumption | omega | (repeat' first | exact ok_nil | apply ok_I | apply ok_R)) only [ev_148_0, ev_148_1, ev_148_3, gf_432_0, gf_432_1, gf_432_2, ld_433, ld_434, pf_432_2, sd_433, sd_434, x_dupI, x_dupR, x_fall, x_goto, x_iadd, x_imul, x_isub, x_push, x_ret1, xc_142, xl_a0, xl_i1, xn_1, xt_i1, y_cmp_ge_f, y_cmp_ge_t, y_if_ne_f, y_if_ne_t, i_wr_id, Int.reduceToNat, ex_ar_same, ex_ar_ar, ex_ar_diff, ex_u_same, ex_u_diff, b2i_t, b2i_f, ex_div_nn, ex_rem_nn, Int.toNat_zero, Int.toNat_one]
    rfl
  | succ j ih =>
    intro i σ h1 h2 hij
    rw [ev_148_2]
    simp (disch := first | assumption | omega | (repeat' first | exact ok_nil | apply ok_I | apply ok_R)) only [ev_148_0, ev_148_1, ev_148_3, gf_432_0, gf_432_1, gf_432_2, ld_433, ld_434, pf_432_2, sd_433, sd_434, x_dupI, x_dupR, x_fall, x_goto, x_iadd, x_imul, x_isub, x_push, x_ret1, xc_142, xl_a0, xl_i1, xn_1, xt_i1, y_cmp_ge_f, y_cmp_ge_t, y_if_ne_f, y_if_ne_t, i_wr_id, Int.reduceToNat, ex_ar_same, ex_ar_ar, ex_ar_diff, ex_u_same, ex_u_diff, b2i_t, b2i_f, ex_div_nn, ex_rem_nn, Int.toNat_zero, Int.toNat_one]
    rw [nat_cast_succ]
    have := ih (i + 1) (unS i σ) (by rw [unS_ne (by decide)]; exact h1) (by rw [unS_ne (by decide)]; exact h2) (by omega)
    rw [unS_ne (by decide)] at this
    exact this
def undoM (σ : ex_S) : Int × ex_S := if σ 432 2 = 0 then (-100006, fndM σ) else (σ 432 2 - 1, itr unS 0 277 (ex_ar σ 432 (ex_u (σ 432) 2 (σ 432 2 - 1))))
theorem sp_148 {d : Nat} (hd : 1 < d) {L : Nat} {σ : ex_S} (hk : 0 ≤ σ 432 2) (hk2 : σ 432 2 ≤ 16) : ex_cd d 148 [vR 432] (SH L, σ) = some ([vI (undoM σ).1], (SH L, (undoM σ).2)) := by
  rw [ex_cd_eq (by omega)]
  show ex_ev (d - 1) 148 0 [vR 432, vL 0] [] (SH L, σ) = _
  unfold undoM
  by_cases h : σ 432 2 = 0
  · rw [if_pos h]
    simp (disch := first | assumption | omega | (repeat' first | exact ok_nil | apply ok_I | apply ok_R)) only [ev_148_0, ev_148_1, ev_148_3, gf_432_0, gf_432_1, gf_432_2, ld_433, ld_434, pf_432_2, sd_433, sd_434, x_dupI, x_dupR, x_fall, x_goto, x_iadd, x_imul, x_isub, x_push, x_ret1, xc_142, xl_a0, xl_i1, xn_1, xt_i1, y_cmp_ge_f, y_cmp_ge_t, y_if_ne_f, y_if_ne_t, i_wr_id, Int.reduceToNat, ex_ar_same, ex_ar_ar, ex_ar_diff, ex_u_same, ex_u_diff, b2i_t, b2i_f, ex_div_nn, ex_rem_nn, Int.toNat_zero, Int.toNat_one]
  · rw [if_neg h]
    simp (disch := first | assumption | omega | (repeat' first | exact ok_nil | apply ok_I | apply ok_R)) only [ev_148_0, ev_148_1, ev_148_3, gf_432_0, gf_432_1, gf_432_2, ld_433, ld_434, pf_432_2, sd_433, sd_434, x_dupI, x_dupR, x_fall, x_goto, x_iadd, x_imul, x_isub, x_push, x_ret1, xc_142, xl_a0, xl_i1, xn_1, xt_i1, y_cmp_ge_f, y_cmp_ge_t, y_if_ne_f, y_if_ne_t, i_wr_id, Int.reduceToNat, ex_ar_same, ex_ar_ar, ex_ar_diff, ex_u_same, ex_u_diff, b2i_t, b2i_f, ex_div_nn, ex_rem_nn, Int.toNat_zero, Int.toNat_one]
    have := lu_148 (d := d - 1) (L := L) 277 0 (ex_ar σ 432 (ex_u (σ 432) 2 (σ 432 2 - 1))) (by rw [ex_ar_same, ex_u_same]; omega) (by rw [ex_ar_same, ex_u_same]; omega) (by omega)
    rw [ex_ar_same, ex_u_same] at this
    exact this
theorem xc_148 {rt d : Nat} {J : Nat → List ex_V → List ex_V → ex_H → Option ex_R} {is : List Instr} {ls st : List ex_V} {L : Nat} {σ : ex_S} (hk : 0 ≤ σ 432 2) (hk2 : σ 432 2 ≤ 16) (hd : 1 < d) (hok : okN 8 st = true) : ex_xs rt J (ex_cd d) (.invokevirtual 148 :: is) ls (vR 432 :: st) (SH L, σ) = ex_xs rt J (ex_cd d) is ls (vI (undoM σ).1 :: st) (SH L, (undoM σ).2) := x_call1 (Or.inl rfl) rfl (sh_432 _) (Or.inl ⟨rfl, rfl⟩) (as := []) rfl rfl (okN_ok hok) rfl (sp_148 hd hk hk2)
