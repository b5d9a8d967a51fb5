/-! the reference: lanes, cars, coming and going -/
def laneF (n : Int → Int) (k a b c : Int) : Int → Int := ex_u (ex_u (ex_u (ex_u (ex_u n (11 + n 0) k) (16 + n 0) a) (21 + n 0) b) (26 + n 0) (if k = 3 then c / 2 else c)) 0 (n 0 + 1)
def laneM (σ : ex_S) (k a b c : Int) : Int × ex_S := if (0 ≤ k ∧ k ≤ 3) ∧ (1 ≤ a ∧ a ≤ 30) ∧ (1 ≤ b ∧ b ≤ 30) ∧ (1 ≤ c ∧ c ≤ 99) then (if σ 433 0 = 5 then (-100005, fndM σ) else (σ 433 0, ex_ar (keepM σ) 433 (laneF (σ 433) k a b c))) else (-100001, fndM σ)
theorem sp_149 {d : Nat} (hd : 1 < d) {L : Nat} {σ : ex_S} {k a b c : Int} (hk : 0 ≤ σ 432 2) (hk2 : σ 432 2 ≤ 16) (hn : 0 ≤ σ 433 0) (hn2 : σ 433 0 ≤ 5) : ex_cd d 149 [vR 432, vI k, vI a, vI b, vI c] (SH L, σ) = some ([vI (laneM σ k a b c).1], (SH L, (laneM σ k a b c).2)) := by
  rw [ex_cd_eq (by omega)]
  show ex_ev (d - 1) 149 0 [vR 432, vI k, vI a, vI b, vI c, vL 0] [] (SH L, σ) = _
  unfold laneM
  by_cases h1 : 0 ≤ k ∧ k ≤ 3
  · by_cases h2 : 1 ≤ a ∧ a ≤ 30
    · by_cases h3 : 1 ≤ b ∧ b ≤ 30
      · by_cases h4 : 1 ≤ c ∧ c ≤ 99
        · rw [if_pos ⟨h1, h2, h3, h4⟩]
          by_cases h5 : σ 433 0 = 5
          · rw [if_pos h5]
            simp (disch := first | assumption | omega | (repeat' first | exact ok_nil | apply ok_I | apply ok_R)) only [ev_149_0, ev_149_1, ev_149_2, ev_149_3, ev_149_4, ev_149_5, gf_432_0, ld_433, sd_433, x_dup2, x_fall, x_goto, x_iadd, x_idiv, x_push, x_ret1, xc_142, xc_143, xc_147, xl_a0, xl_i1, xl_i2, xl_i3, xl_i4, xl_i5, xt_i5, y_cmp_ne_f, y_cmp_ne_t, y_if_eq_f, y_if_eq_t, y_if_ne_f, y_if_ne_t, i_wr_id, kM_diff, Int.reduceToNat, ex_ar_same, ex_ar_ar, ex_ar_diff, ex_u_same, ex_u_diff, b2i_t, b2i_f, ex_div_nn, ex_rem_nn, Int.toNat_zero, Int.toNat_one]
          · rw [if_neg h5]
            unfold laneF
            by_cases h6 : k = 3
            · rw [if_pos h6]
              simp (disch := first | assumption | omega | (repeat' first | exact ok_nil | apply ok_I | apply ok_R)) only [ev_149_0, ev_149_1, ev_149_2, ev_149_3, ev_149_4, ev_149_5, gf_432_0, ld_433, sd_433, x_dup2, x_fall, x_goto, x_iadd, x_idiv, x_push, x_ret1, xc_142, xc_143, xc_147, xl_a0, xl_i1, xl_i2, xl_i3, xl_i4, xl_i5, xt_i5, y_cmp_ne_f, y_cmp_ne_t, y_if_eq_f, y_if_eq_t, y_if_ne_f, y_if_ne_t, i_wr_id, kM_diff, Int.reduceToNat, ex_ar_same, ex_ar_ar, ex_ar_diff, ex_u_same, ex_u_diff, b2i_t, b2i_f, ex_div_nn, ex_rem_nn, Int.toNat_zero, Int.toNat_one]
            · rw [if_neg h6]
              simp (disch := first | assumption | omega | (repeat' first | exact ok_nil | apply ok_I | apply ok_R)) only [ev_149_0, ev_149_1, ev_149_2, ev_149_3, ev_149_4, ev_149_5, gf_432_0, ld_433, sd_433, x_dup2, x_fall, x_goto, x_iadd, x_idiv, x_push, x_ret1, xc_142, xc_143, xc_147, xl_a0, xl_i1, xl_i2, xl_i3, xl_i4, xl_i5, xt_i5, y_cmp_ne_f, y_cmp_ne_t, y_if_eq_f, y_if_eq_t, y_if_ne_f, y_if_ne_t, i_wr_id, kM_diff, Int.reduceToNat, ex_ar_same, ex_ar_ar, ex_ar_diff, ex_u_same, ex_u_diff, b2i_t, b2i_f, ex_div_nn, ex_rem_nn, Int.toNat_zero, Int.toNat_one]
        · rw [if_neg (by omega)]
          simp (disch := first | assumption | omega | (repeat' first | exact ok_nil | apply ok_I | apply ok_R)) only [ev_149_0, ev_149_1, ev_149_2, ev_149_3, ev_149_4, ev_149_5, gf_432_0, ld_433, sd_433, x_dup2, x_fall, x_goto, x_iadd, x_idiv, x_push, x_ret1, xc_142, xc_143, xc_147, xl_a0, xl_i1, xl_i2, xl_i3, xl_i4, xl_i5, xt_i5, y_cmp_ne_f, y_cmp_ne_t, y_if_eq_f, y_if_eq_t, y_if_ne_f, y_if_ne_t, i_wr_id, kM_diff, Int.reduceToNat, ex_ar_same, ex_ar_ar, ex_ar_diff, ex_u_same, ex_u_diff, b2i_t, b2i_f, ex_div_nn, ex_rem_nn, Int.toNat_zero, Int.toNat_one]
      · rw [if_neg (by omega)]
        simp (disch := first | assumption | omega | (repeat' first | exact ok_nil | apply ok_I | apply ok_R)) only [ev_149_0, ev_149_1, ev_149_2, ev_149_3, ev_149_4, ev_149_5, gf_432_0, ld_433, sd_433, x_dup2, x_fall, x_goto, x_iadd, x_idiv, x_push, x_ret1, xc_142, xc_143, xc_147, xl_a0, xl_i1, xl_i2, xl_i3, xl_i4, xl_i5, xt_i5, y_cmp_ne_f, y_cmp_ne_t, y_if_eq_f, y_if_eq_t, y_if_ne_f, y_if_ne_t, i_wr_id, kM_diff, Int.reduceToNat, ex_ar_same, ex_ar_ar, ex_ar_diff, ex_u_same, ex_u_diff, b2i_t, b2i_f, ex_div_nn, ex_rem_nn, Int.toNat_zero, Int.toNat_one]
    · rw [if_neg (by omega)]
      simp (disch := first | assumption | omega | (repeat' first | exact ok_nil | apply ok_I | apply ok_R)) only [ev_149_0, ev_149_1, ev_149_2, ev_149_3, ev_149_4, ev_149_5, gf_432_0, ld_433, sd_433, x_dup2, x_fall, x_goto, x_iadd, x_idiv, x_push, x_ret1, xc_142, xc_143, xc_147, xl_a0, xl_i1, xl_i2, xl_i3, xl_i4, xl_i5, xt_i5, y_cmp_ne_f, y_cmp_ne_t, y_if_eq_f, y_if_eq_t, y_if_ne_f, y_if_ne_t, i_wr_id, kM_diff, Int.reduceToNat, ex_ar_same, ex_ar_ar, ex_ar_diff, ex_u_same, ex_u_diff, b2i_t, b2i_f, ex_div_nn, ex_rem_nn, Int.toNat_zero, Int.toNat_one]
  · rw [if_neg (by omega)]
    simp (disch := first | assumption | omega | (repeat' first | exact ok_nil | apply ok_I | apply ok_R)) only [ev_149_0, ev_149_1, ev_149_2, ev_149_3, ev_149_4, ev_149_5, gf_432_0, ld_433, sd_433, x_dup2, x_fall, x_goto, x_iadd, x_idiv, x_push, x_ret1, xc_142, xc_143, xc_147, xl_a0, xl_i1, xl_i2, xl_i3, xl_i4, xl_i5, xt_i5, y_cmp_ne_f, y_cmp_ne_t, y_if_eq_f, y_if_eq_t, y_if_ne_f, y_if_ne_t, i_wr_id, kM_diff, Int.reduceToNat, ex_ar_same, ex_ar_ar, ex_ar_diff, ex_u_same, ex_u_diff, b2i_t, b2i_f, ex_div_nn, ex_rem_nn, Int.toNat_zero, Int.toNat_one]
theorem xc_149 {rt d : Nat} {J : Nat → List ex_V → List ex_V → ex_H → Option ex_R} {is : List Instr} {ls st : List ex_V} {L : Nat} {σ : ex_S} {k a b c : Int} (hk : 0 ≤ σ 432 2) (hk2 : σ 432 2 ≤ 16) (hn : 0 ≤ σ 433 0) (hn2 : σ 433 0 ≤ 5) (hd : 1 < d) (hok : okN 8 st = true) : ex_xs rt J (ex_cd d) (.invokevirtual 149 :: is) ls (vI c :: vI b :: vI a :: vI k :: vR 432 :: st) (SH L, σ) = ex_xs rt J (ex_cd d) is ls (vI (laneM σ k a b c).1 :: st) (SH L, (laneM σ k a b c).2) := x_call1 (Or.inl rfl) rfl (sh_432 _) (Or.inl ⟨rfl, rfl⟩) (as := [vI k, vI a, vI b, vI c]) rfl rfl (okN_ok hok) rfl (sp_149 hd hk hk2 hn hn2)
def asM (σ : ex_S) (l k : Int) : Int × ex_S := if (0 ≤ l ∧ l < σ 433 0) ∧ 0 ≤ k ∧ k ≤ 3 then (if k = 0 ∨ σ 433 (11 + l) = k ∨ (k = 1 ∧ σ 433 (11 + l) = 3) then (l, σ) else (-100004, fndM σ)) else (-100001, fndM σ)
theorem sp_151 {d : Nat} (hd : 2 < d) {L : Nat} {σ : ex_S} {l k : Int} (hn : 0 ≤ σ 433 0) (hn2 : σ 433 0 ≤ 5) : ex_cd d 151 [vR 432, vI l, vI k] (SH L, σ) = some ([vI (asM σ l k).1], (SH L, (asM σ l k).2)) := by
  rw [ex_cd_eq (by omega)]
  show ex_ev (d - 1) 151 0 [vR 432, vI l, vI k, vL 0] [] (SH L, σ) = _
  unfold asM
  by_cases h1 : 0 ≤ l ∧ l < σ 433 0
  · by_cases h2 : 0 ≤ k ∧ k ≤ 3
    · rw [if_pos ⟨h1, h2⟩]
      by_cases h3 : k = 0
      · rw [if_pos (Or.inl h3)]
        simp (disch := first | assumption | omega | (repeat' first | exact ok_nil | apply ok_I | apply ok_R)) only [ev_151_0, ev_151_1, ev_151_2, ev_151_3, ev_151_4, ev_151_5, gf_432_0, ld_433, x_fall, x_goto, x_iadd, x_push, x_ret1, xc_142, xc_143, xc_144, xl_a0, xl_i1, xl_i2, xl_i3, xt_i3, y_cmp_eq_f, y_cmp_eq_t, y_cmp_ne_f, y_cmp_ne_t, y_if_eq_f, y_if_eq_t, y_if_ne_f, y_if_ne_t, i_wr_id, kM_diff, Int.reduceToNat, ex_ar_same, ex_ar_ar, ex_ar_diff, ex_u_same, ex_u_diff, b2i_t, b2i_f, ex_div_nn, ex_rem_nn, Int.toNat_zero, Int.toNat_one]
      · by_cases h4 : σ 433 (11 + l) = k
        · rw [if_pos (Or.inr (Or.inl h4))]
          simp (disch := first | assumption | omega | (repeat' first | exact ok_nil | apply ok_I | apply ok_R)) only [ev_151_0, ev_151_1, ev_151_2, ev_151_3, ev_151_4, ev_151_5, gf_432_0, ld_433, x_fall, x_goto, x_iadd, x_push, x_ret1, xc_142, xc_143, xc_144, xl_a0, xl_i1, xl_i2, xl_i3, xt_i3, y_cmp_eq_f, y_cmp_eq_t, y_cmp_ne_f, y_cmp_ne_t, y_if_eq_f, y_if_eq_t, y_if_ne_f, y_if_ne_t, i_wr_id, kM_diff, Int.reduceToNat, ex_ar_same, ex_ar_ar, ex_ar_diff, ex_u_same, ex_u_diff, b2i_t, b2i_f, ex_div_nn, ex_rem_nn, Int.toNat_zero, Int.toNat_one]
        · by_cases h5 : k = 1 ∧ σ 433 (11 + l) = 3
          · rw [if_pos (Or.inr (Or.inr h5))]
            simp (disch := first | assumption | omega | (repeat' first | exact ok_nil | apply ok_I | apply ok_R)) only [ev_151_0, ev_151_1, ev_151_2, ev_151_3, ev_151_4, ev_151_5, gf_432_0, ld_433, x_fall, x_goto, x_iadd, x_push, x_ret1, xc_142, xc_143, xc_144, xl_a0, xl_i1, xl_i2, xl_i3, xt_i3, y_cmp_eq_f, y_cmp_eq_t, y_cmp_ne_f, y_cmp_ne_t, y_if_eq_f, y_if_eq_t, y_if_ne_f, y_if_ne_t, i_wr_id, kM_diff, Int.reduceToNat, ex_ar_same, ex_ar_ar, ex_ar_diff, ex_u_same, ex_u_diff, b2i_t, b2i_f, ex_div_nn, ex_rem_nn, Int.toNat_zero, Int.toNat_one]
          · rw [if_neg (by omega)]
            by_cases h6 : k = 1
            · simp (disch := first | assumption | omega | (repeat' first | exact ok_nil | apply ok_I | apply ok_R)) only [ev_151_0, ev_151_1, ev_151_2, ev_151_3, ev_151_4, ev_151_5, gf_432_0, ld_433, x_fall, x_goto, x_iadd, x_push, x_ret1, xc_142, xc_143, xc_144, xl_a0, xl_i1, xl_i2, xl_i3, xt_i3, y_cmp_eq_f, y_cmp_eq_t, y_cmp_ne_f, y_cmp_ne_t, y_if_eq_f, y_if_eq_t, y_if_ne_f, y_if_ne_t, i_wr_id, kM_diff, Int.reduceToNat, ex_ar_same, ex_ar_ar, ex_ar_diff, ex_u_same, ex_u_diff, b2i_t, b2i_f, ex_div_nn, ex_rem_nn, Int.toNat_zero, Int.toNat_one]
            · simp (disch := first | assumption | omega | (repeat' first | exact ok_nil | apply ok_I | apply ok_R)) only [ev_151_0, ev_151_1, ev_151_2, ev_151_3, ev_151_4, ev_151_5, gf_432_0, ld_433, x_fall, x_goto, x_iadd, x_push, x_ret1, xc_142, xc_143, xc_144, xl_a0, xl_i1, xl_i2, xl_i3, xt_i3, y_cmp_eq_f, y_cmp_eq_t, y_cmp_ne_f, y_cmp_ne_t, y_if_eq_f, y_if_eq_t, y_if_ne_f, y_if_ne_t, i_wr_id, kM_diff, Int.reduceToNat, ex_ar_same, ex_ar_ar, ex_ar_diff, ex_u_same, ex_u_diff, b2i_t, b2i_f, ex_div_nn, ex_rem_nn, Int.toNat_zero, Int.toNat_one]
    · rw [if_neg (by omega)]
      simp (disch := first | assumption | omega | (repeat' first | exact ok_nil | apply ok_I | apply ok_R)) only [ev_151_0, ev_151_1, ev_151_2, ev_151_3, ev_151_4, ev_151_5, gf_432_0, ld_433, x_fall, x_goto, x_iadd, x_push, x_ret1, xc_142, xc_143, xc_144, xl_a0, xl_i1, xl_i2, xl_i3, xt_i3, y_cmp_eq_f, y_cmp_eq_t, y_cmp_ne_f, y_cmp_ne_t, y_if_eq_f, y_if_eq_t, y_if_ne_f, y_if_ne_t, i_wr_id, kM_diff, Int.reduceToNat, ex_ar_same, ex_ar_ar, ex_ar_diff, ex_u_same, ex_u_diff, b2i_t, b2i_f, ex_div_nn, ex_rem_nn, Int.toNat_zero, Int.toNat_one]
  · rw [if_neg (by omega)]
    simp (disch := first | assumption | omega | (repeat' first | exact ok_nil | apply ok_I | apply ok_R)) only [ev_151_0, ev_151_1, ev_151_2, ev_151_3, ev_151_4, ev_151_5, gf_432_0, ld_433, x_fall, x_goto, x_iadd, x_push, x_ret1, xc_142, xc_143, xc_144, xl_a0, xl_i1, xl_i2, xl_i3, xt_i3, y_cmp_eq_f, y_cmp_eq_t, y_cmp_ne_f, y_cmp_ne_t, y_if_eq_f, y_if_eq_t, y_if_ne_f, y_if_ne_t, i_wr_id, kM_diff, Int.reduceToNat, ex_ar_same, ex_ar_ar, ex_ar_diff, ex_u_same, ex_u_diff, b2i_t, b2i_f, ex_div_nn, ex_rem_nn, Int.toNat_zero, Int.toNat_one]
theorem xc_151 {rt d : Nat} {J : Nat → List ex_V → List ex_V → ex_H → Option ex_R} {is : List Instr} {ls st : List ex_V} {L : Nat} {σ : ex_S} {l k : Int} (hn : 0 ≤ σ 433 0) (hn2 : σ 433 0 ≤ 5) (hd : 2 < d) (hok : okN 8 st = true) : ex_xs rt J (ex_cd d) (.invokevirtual 151 :: is) ls (vI k :: vI l :: vR 432 :: st) (SH L, σ) = ex_xs rt J (ex_cd d) is ls (vI (asM σ l k).1 :: st) (SH L, (asM σ l k).2) := x_call1 (Or.inl rfl) rfl (sh_432 _) (Or.inl ⟨rfl, rfl⟩) (as := [vI l, vI k]) rfl rfl (okN_ok hok) rfl (sp_151 hd hn hn2)
def breaksM (σ : ex_S) (l z : Int) : Int × ex_S := if 0 ≤ l ∧ l < σ 433 0 then (if σ 433 (11 + l) = 1 ∨ σ 433 (11 + l) = 3 then (if σ 433 (31 + l) = z then 0 else 1, ex_ar (keepM σ) 433 (ex_u (σ 433) (31 + l) z)) else (-100004, fndM σ)) else (-100001, fndM σ)
theorem sp_155 {d : Nat} (hd : 2 < d) {L : Nat} {σ : ex_S} {l z : Int} (hk : 0 ≤ σ 432 2) (hk2 : σ 432 2 ≤ 16) (hn : 0 ≤ σ 433 0) (hn2 : σ 433 0 ≤ 5) (hz : z = 0 ∨ z = 1) : ex_cd d 155 [vR 432, vI l, vI z] (SH L, σ) = some ([vI (breaksM σ l z).1], (SH L, (breaksM σ l z).2)) := by
  rw [ex_cd_eq (by omega)]
  show ex_ev (d - 1) 155 0 [vR 432, vI l, vI z, vL 0] [] (SH L, σ) = _
  unfold breaksM
  by_cases h1 : 0 ≤ l ∧ l < σ 433 0
  · rw [if_pos h1]
    by_cases h2 : σ 433 (11 + l) = 1 ∨ σ 433 (11 + l) = 3
    · rw [if_pos h2]
      rcases hz with rfl | rfl
      · by_cases h3 : σ 433 (31 + l) = 0
        · rw [if_pos h3]
          simp (disch := first | assumption | omega | (repeat' first | exact ok_nil | apply ok_I | apply ok_R)) only [ev_155_0, ev_155_1, ev_155_2, ev_155_3, ev_155_4, ev_155_5, ev_155_6, gf_432_0, ld_433, sd_433, x_fall, x_goto, x_iadd, x_push, x_ret1, xc_142, xc_144, xc_147, xc_150, xl_a0, xl_i1, xl_i2, xl_i3, xt_i3, y_cmp_ne_f, y_cmp_ne_t, y_if_eq_f, y_if_eq_t, y_if_ne_f, y_if_ne_t, i_wr_id, kM_diff, Int.reduceToNat, ex_ar_same, ex_ar_ar, ex_ar_diff, ex_u_same, ex_u_diff, b2i_t, b2i_f, ex_div_nn, ex_rem_nn, Int.toNat_zero, Int.toNat_one]
        · rw [if_neg h3]
          simp (disch := first | assumption | omega | (repeat' first | exact ok_nil | apply ok_I | apply ok_R)) only [ev_155_0, ev_155_1, ev_155_2, ev_155_3, ev_155_4, ev_155_5, ev_155_6, gf_432_0, ld_433, sd_433, x_fall, x_goto, x_iadd, x_push, x_ret1, xc_142, xc_144, xc_147, xc_150, xl_a0, xl_i1, xl_i2, xl_i3, xt_i3, y_cmp_ne_f, y_cmp_ne_t, y_if_eq_f, y_if_eq_t, y_if_ne_f, y_if_ne_t, i_wr_id, kM_diff, Int.reduceToNat, ex_ar_same, ex_ar_ar, ex_ar_diff, ex_u_same, ex_u_diff, b2i_t, b2i_f, ex_div_nn, ex_rem_nn, Int.toNat_zero, Int.toNat_one]
      · by_cases h3 : σ 433 (31 + l) = 1
        · rw [if_pos h3]
          simp (disch := first | assumption | omega | (repeat' first | exact ok_nil | apply ok_I | apply ok_R)) only [ev_155_0, ev_155_1, ev_155_2, ev_155_3, ev_155_4, ev_155_5, ev_155_6, gf_432_0, ld_433, sd_433, x_fall, x_goto, x_iadd, x_push, x_ret1, xc_142, xc_144, xc_147, xc_150, xl_a0, xl_i1, xl_i2, xl_i3, xt_i3, y_cmp_ne_f, y_cmp_ne_t, y_if_eq_f, y_if_eq_t, y_if_ne_f, y_if_ne_t, i_wr_id, kM_diff, Int.reduceToNat, ex_ar_same, ex_ar_ar, ex_ar_diff, ex_u_same, ex_u_diff, b2i_t, b2i_f, ex_div_nn, ex_rem_nn, Int.toNat_zero, Int.toNat_one]
        · rw [if_neg h3]
          simp (disch := first | assumption | omega | (repeat' first | exact ok_nil | apply ok_I | apply ok_R)) only [ev_155_0, ev_155_1, ev_155_2, ev_155_3, ev_155_4, ev_155_5, ev_155_6, gf_432_0, ld_433, sd_433, x_fall, x_goto, x_iadd, x_push, x_ret1, xc_142, xc_144, xc_147, xc_150, xl_a0, xl_i1, xl_i2, xl_i3, xt_i3, y_cmp_ne_f, y_cmp_ne_t, y_if_eq_f, y_if_eq_t, y_if_ne_f, y_if_ne_t, i_wr_id, kM_diff, Int.reduceToNat, ex_ar_same, ex_ar_ar, ex_ar_diff, ex_u_same, ex_u_diff, b2i_t, b2i_f, ex_div_nn, ex_rem_nn, Int.toNat_zero, Int.toNat_one]
    · rw [if_neg h2]
      simp (disch := first | assumption | omega | (repeat' first | exact ok_nil | apply ok_I | apply ok_R)) only [ev_155_0, ev_155_1, ev_155_2, ev_155_3, ev_155_4, ev_155_5, ev_155_6, gf_432_0, ld_433, sd_433, x_fall, x_goto, x_iadd, x_push, x_ret1, xc_142, xc_144, xc_147, xc_150, xl_a0, xl_i1, xl_i2, xl_i3, xt_i3, y_cmp_ne_f, y_cmp_ne_t, y_if_eq_f, y_if_eq_t, y_if_ne_f, y_if_ne_t, i_wr_id, kM_diff, Int.reduceToNat, ex_ar_same, ex_ar_ar, ex_ar_diff, ex_u_same, ex_u_diff, b2i_t, b2i_f, ex_div_nn, ex_rem_nn, Int.toNat_zero, Int.toNat_one]
  · rw [if_neg h1]
    simp (disch := first | assumption | omega | (repeat' first | exact ok_nil | apply ok_I | apply ok_R)) only [ev_155_0, ev_155_1, ev_155_2, ev_155_3, ev_155_4, ev_155_5, ev_155_6, gf_432_0, ld_433, sd_433, x_fall, x_goto, x_iadd, x_push, x_ret1, xc_142, xc_144, xc_147, xc_150, xl_a0, xl_i1, xl_i2, xl_i3, xt_i3, y_cmp_ne_f, y_cmp_ne_t, y_if_eq_f, y_if_eq_t, y_if_ne_f, y_if_ne_t, i_wr_id, kM_diff, Int.reduceToNat, ex_ar_same, ex_ar_ar, ex_ar_diff, ex_u_same, ex_u_diff, b2i_t, b2i_f, ex_div_nn, ex_rem_nn, Int.toNat_zero, Int.toNat_one]
theorem xc_155 {rt d : Nat} {J : Nat → List ex_V → List ex_V → ex_H → Option ex_R} {is : List Instr} {ls st : List ex_V} {L : Nat} {σ : ex_S} {l z : Int} (hk : 0 ≤ σ 432 2) (hk2 : σ 432 2 ≤ 16) (hn : 0 ≤ σ 433 0) (hn2 : σ 433 0 ≤ 5) (hz : z = 0 ∨ z = 1) (hd : 2 < d) (hok : okN 8 st = true) : ex_xs rt J (ex_cd d) (.invokevirtual 155 :: is) ls (vI z :: vI l :: vR 432 :: st) (SH L, σ) = ex_xs rt J (ex_cd d) is ls (vI (breaksM σ l z).1 :: st) (SH L, (breaksM σ l z).2) := x_call1 (Or.inl rfl) rfl (sh_432 _) (Or.inl ⟨rfl, rfl⟩) (as := [vI l, vI z]) rfl rfl (okN_ok hok) rfl (sp_155 hd hk hk2 hn hn2 hz)
def carF (n : Int → Int) (a b c h e w : Int) : Int → Int := ex_u (ex_u (ex_u (ex_u (ex_u (ex_u (ex_u n (91 + n 1) a) (99 + n 1) b) (107 + n 1) c) (115 + n 1) h) (123 + n 1) e) (131 + n 1) w) 1 (n 1 + 1)
def okCar (a b c h e w : Int) : Prop := (1 ≤ a ∧ a ≤ 9) ∧ (1 ≤ b ∧ b ≤ 30) ∧ (1 ≤ c ∧ c ≤ 99) ∧ (0 ≤ h ∧ h ≤ 23) ∧ (0 ≤ e ∧ e ≤ 9) ∧ (0 ≤ w ∧ w ≤ 99)
def carM (σ : ex_S) (a b c h e w : Int) : Int × ex_S := if (1 ≤ a ∧ a ≤ 9) ∧ (1 ≤ b ∧ b ≤ 30) ∧ (1 ≤ c ∧ c ≤ 99) ∧ (0 ≤ h ∧ h ≤ 23) ∧ (0 ≤ e ∧ e ≤ 9) ∧ (0 ≤ w ∧ w ≤ 99) then (if σ 433 1 = 8 then (-100005, fndM σ) else (σ 433 1, ex_ar (keepM σ) 433 (carF (σ 433) a b c h e w))) else (-100001, fndM σ)
theorem sp_156 {d : Nat} (hd : 2 < d) {L : Nat} {σ : ex_S} {a b c h e w : Int} (hk : 0 ≤ σ 432 2) (hk2 : σ 432 2 ≤ 16) (hn : 0 ≤ σ 433 1) (hn2 : σ 433 1 ≤ 8) : ex_cd d 156 [vR 432, vI a, vI b, vI c, vI h, vI e, vI w] (SH L, σ) = some ([vI (carM σ a b c h e w).1], (SH L, (carM σ a b c h e w).2)) := by
  rw [ex_cd_eq (by omega)]
  show ex_ev (d - 1) 156 0 [vR 432, vI a, vI b, vI c, vI h, vI e, vI w, vL 0, vL 0] [] (SH L, σ) = _
  unfold carM
  by_cases h1 : 1 ≤ a ∧ a ≤ 9
  · by_cases h2 : 1 ≤ b ∧ b ≤ 30
    · by_cases h3 : 1 ≤ c ∧ c ≤ 99
      · by_cases h4 : 0 ≤ h ∧ h ≤ 23
        · by_cases h5 : 0 ≤ e ∧ e ≤ 9
          · by_cases h6 : 0 ≤ w ∧ w ≤ 99
            · rw [if_pos ⟨h1, h2, h3, h4, h5, h6⟩]
              by_cases h7 : σ 433 1 = 8
              · rw [if_pos h7]
                simp (disch := first | assumption | omega | (repeat' first | exact ok_nil | apply ok_I | apply ok_R)) only [ev_156_0, ev_156_1, ev_156_2, ev_156_3, ev_156_4, ev_156_5, gf_432_0, ld_433, sd_433, x_dup2, x_fall, x_goto, x_iadd, x_push, x_ret1, xc_142, xc_143, xc_146, xc_147, xl_a0, xl_i1, xl_i2, xl_i3, xl_i4, xl_i5, xl_i6, xl_i7, xl_i8, xt_i7, xt_i8, y_cmp_ne_f, y_cmp_ne_t, y_if_eq_f, y_if_eq_t, y_if_ne_f, y_if_ne_t, i_wr_id, kM_diff, Int.reduceToNat, ex_ar_same, ex_ar_ar, ex_ar_diff, ex_u_same, ex_u_diff, b2i_t, b2i_f, ex_div_nn, ex_rem_nn, Int.toNat_zero, Int.toNat_one]
              · rw [if_neg h7]
                unfold carF
                simp (disch := first | assumption | omega | (repeat' first | exact ok_nil | apply ok_I | apply ok_R)) only [ev_156_0, ev_156_1, ev_156_2, ev_156_3, ev_156_4, ev_156_5, gf_432_0, ld_433, sd_433, x_dup2, x_fall, x_goto, x_iadd, x_push, x_ret1, xc_142, xc_143, xc_146, xc_147, xl_a0, xl_i1, xl_i2, xl_i3, xl_i4, xl_i5, xl_i6, xl_i7, xl_i8, xt_i7, xt_i8, y_cmp_ne_f, y_cmp_ne_t, y_if_eq_f, y_if_eq_t, y_if_ne_f, y_if_ne_t, i_wr_id, kM_diff, Int.reduceToNat, ex_ar_same, ex_ar_ar, ex_ar_diff, ex_u_same, ex_u_diff, b2i_t, b2i_f, ex_div_nn, ex_rem_nn, Int.toNat_zero, Int.toNat_one]
            · rw [if_neg (by omega)]
              simp (disch := first | assumption | omega | (repeat' first | exact ok_nil | apply ok_I | apply ok_R)) only [ev_156_0, ev_156_1, ev_156_2, ev_156_3, ev_156_4, ev_156_5, gf_432_0, ld_433, sd_433, x_dup2, x_fall, x_goto, x_iadd, x_push, x_ret1, xc_142, xc_143, xc_146, xc_147, xl_a0, xl_i1, xl_i2, xl_i3, xl_i4, xl_i5, xl_i6, xl_i7, xl_i8, xt_i7, xt_i8, y_cmp_ne_f, y_cmp_ne_t, y_if_eq_f, y_if_eq_t, y_if_ne_f, y_if_ne_t, i_wr_id, kM_diff, Int.reduceToNat, ex_ar_same, ex_ar_ar, ex_ar_diff, ex_u_same, ex_u_diff, b2i_t, b2i_f, ex_div_nn, ex_rem_nn, Int.toNat_zero, Int.toNat_one]
          · rw [if_neg (by omega)]
            simp (disch := first | assumption | omega | (repeat' first | exact ok_nil | apply ok_I | apply ok_R)) only [ev_156_0, ev_156_1, ev_156_2, ev_156_3, ev_156_4, ev_156_5, gf_432_0, ld_433, sd_433, x_dup2, x_fall, x_goto, x_iadd, x_push, x_ret1, xc_142, xc_143, xc_146, xc_147, xl_a0, xl_i1, xl_i2, xl_i3, xl_i4, xl_i5, xl_i6, xl_i7, xl_i8, xt_i7, xt_i8, y_cmp_ne_f, y_cmp_ne_t, y_if_eq_f, y_if_eq_t, y_if_ne_f, y_if_ne_t, i_wr_id, kM_diff, Int.reduceToNat, ex_ar_same, ex_ar_ar, ex_ar_diff, ex_u_same, ex_u_diff, b2i_t, b2i_f, ex_div_nn, ex_rem_nn, Int.toNat_zero, Int.toNat_one]
        · rw [if_neg (by omega)]
          simp (disch := first | assumption | omega | (repeat' first | exact ok_nil | apply ok_I | apply ok_R)) only [ev_156_0, ev_156_1, ev_156_2, ev_156_3, ev_156_4, ev_156_5, gf_432_0, ld_433, sd_433, x_dup2, x_fall, x_goto, x_iadd, x_push, x_ret1, xc_142, xc_143, xc_146, xc_147, xl_a0, xl_i1, xl_i2, xl_i3, xl_i4, xl_i5, xl_i6, xl_i7, xl_i8, xt_i7, xt_i8, y_cmp_ne_f, y_cmp_ne_t, y_if_eq_f, y_if_eq_t, y_if_ne_f, y_if_ne_t, i_wr_id, kM_diff, Int.reduceToNat, ex_ar_same, ex_ar_ar, ex_ar_diff, ex_u_same, ex_u_diff, b2i_t, b2i_f, ex_div_nn, ex_rem_nn, Int.toNat_zero, Int.toNat_one]
      · rw [if_neg (by omega)]
        simp (disch := first | assumption | omega | (repeat' first | exact ok_nil | apply ok_I | apply ok_R)) only [ev_156_0, ev_156_1, ev_156_2, ev_156_3, ev_156_4, ev_156_5, gf_432_0, ld_433, sd_433, x_dup2, x_fall, x_goto, x_iadd, x_push, x_ret1, xc_142, xc_143, xc_146, xc_147, xl_a0, xl_i1, xl_i2, xl_i3, xl_i4, xl_i5, xl_i6, xl_i7, xl_i8, xt_i7, xt_i8, y_cmp_ne_f, y_cmp_ne_t, y_if_eq_f, y_if_eq_t, y_if_ne_f, y_if_ne_t, i_wr_id, kM_diff, Int.reduceToNat, ex_ar_same, ex_ar_ar, ex_ar_diff, ex_u_same, ex_u_diff, b2i_t, b2i_f, ex_div_nn, ex_rem_nn, Int.toNat_zero, Int.toNat_one]
    · rw [if_neg (by omega)]
      simp (disch := first | assumption | omega | (repeat' first | exact ok_nil | apply ok_I | apply ok_R)) only [ev_156_0, ev_156_1, ev_156_2, ev_156_3, ev_156_4, ev_156_5, gf_432_0, ld_433, sd_433, x_dup2, x_fall, x_goto, x_iadd, x_push, x_ret1, xc_142, xc_143, xc_146, xc_147, xl_a0, xl_i1, xl_i2, xl_i3, xl_i4, xl_i5, xl_i6, xl_i7, xl_i8, xt_i7, xt_i8, y_cmp_ne_f, y_cmp_ne_t, y_if_eq_f, y_if_eq_t, y_if_ne_f, y_if_ne_t, i_wr_id, kM_diff, Int.reduceToNat, ex_ar_same, ex_ar_ar, ex_ar_diff, ex_u_same, ex_u_diff, b2i_t, b2i_f, ex_div_nn, ex_rem_nn, Int.toNat_zero, Int.toNat_one]
  · rw [if_neg (by omega)]
    simp (disch := first | assumption | omega | (repeat' first | exact ok_nil | apply ok_I | apply ok_R)) only [ev_156_0, ev_156_1, ev_156_2, ev_156_3, ev_156_4, ev_156_5, gf_432_0, ld_433, sd_433, x_dup2, x_fall, x_goto, x_iadd, x_push, x_ret1, xc_142, xc_143, xc_146, xc_147, xl_a0, xl_i1, xl_i2, xl_i3, xl_i4, xl_i5, xl_i6, xl_i7, xl_i8, xt_i7, xt_i8, y_cmp_ne_f, y_cmp_ne_t, y_if_eq_f, y_if_eq_t, y_if_ne_f, y_if_ne_t, i_wr_id, kM_diff, Int.reduceToNat, ex_ar_same, ex_ar_ar, ex_ar_diff, ex_u_same, ex_u_diff, b2i_t, b2i_f, ex_div_nn, ex_rem_nn, Int.toNat_zero, Int.toNat_one]
theorem xc_156 {rt d : Nat} {J : Nat → List ex_V → List ex_V → ex_H → Option ex_R} {is : List Instr} {ls st : List ex_V} {L : Nat} {σ : ex_S} {a b c h e w : Int} (hk : 0 ≤ σ 432 2) (hk2 : σ 432 2 ≤ 16) (hn : 0 ≤ σ 433 1) (hn2 : σ 433 1 ≤ 8) (hd : 2 < d) (hok : okN 8 st = true) : ex_xs rt J (ex_cd d) (.invokevirtual 156 :: is) ls (vI w :: vI e :: vI h :: vI c :: vI b :: vI a :: vR 432 :: st) (SH L, σ) = ex_xs rt J (ex_cd d) is ls (vI (carM σ a b c h e w).1 :: st) (SH L, (carM σ a b c h e w).2) := x_call1 (Or.inl rfl) rfl (sh_432 _) (Or.inl ⟨rfl, rfl⟩) (as := [vI a, vI b, vI c, vI h, vI e, vI w]) rfl rfl (okN_ok hok) rfl (sp_156 hd hk hk2 hn hn2)
def carIsM (σ : ex_S) (c w : Int) : Int × ex_S := if (0 ≤ c ∧ c < σ 433 1) ∧ 0 ≤ w ∧ w ≤ 7 then (if w = 6 then (if standN (σ 433) c < 0 then -1 else standN (σ 433) c / 8) else if w = 7 then (if standN (σ 433) c < 0 then 0 else aheadN (σ 433) (standN (σ 433) c)) else σ 433 (91 + 8 * w + c), σ) else (-100001, fndM σ)
theorem sp_159 {d : Nat} (hd : 2 < d) {L : Nat} {σ : ex_S} {c w : Int} (hn : 0 ≤ σ 433 0) (hn2 : σ 433 0 ≤ 5) (hc : 0 ≤ σ 433 1) (hc2 : σ 433 1 ≤ 8) (hM : okM (σ 433)) : ex_cd d 159 [vR 432, vI c, vI w] (SH L, σ) = some ([vI (carIsM σ c w).1], (SH L, (carIsM σ c w).2)) := by
  rw [ex_cd_eq (by omega)]
  show ex_ev (d - 1) 159 0 [vR 432, vI c, vI w, vL 0] [] (SH L, σ) = _
  unfold carIsM
  by_cases h1 : 0 ≤ c ∧ c < σ 433 1
  · by_cases h2 : 0 ≤ w ∧ w ≤ 7
    · rw [if_pos ⟨h1, h2⟩]
      by_cases h6 : w = 6
      · subst h6
        rw [if_pos rfl]
        rcases stand_lo (σ 433) c hn2 hM with h | ⟨q1, q2, q3, q4, q5⟩
        · rw [if_pos (by omega)]
          simp (disch := first | assumption | omega | (repeat' first | exact ok_nil | apply ok_I | apply ok_R)) only [ev_159_0, ev_159_1, ev_159_2, ev_159_3, ev_159_4, ev_159_5, ev_159_6, ev_159_7, ev_159_8, ev_159_9, gf_432_0, ld_433, x_fall, x_goto, x_iadd, x_idiv, x_imul, x_look, x_push, x_ret1, xc_142, xc_143, xc_145, xc_157, xc_158, xl_a0, xl_i1, xl_i2, xl_i3, xt_i3, y_if_eq_f, y_if_eq_t, y_if_ge_f, y_if_ge_t, y_if_ne_f, y_if_ne_t, i_wr_id, kM_diff, Int.reduceToNat, ex_ar_same, ex_ar_ar, ex_ar_diff, ex_u_same, ex_u_diff, b2i_t, b2i_f, ex_div_nn, ex_rem_nn, Int.toNat_zero, Int.toNat_one]
          show ex_ev (d - 1) 159 3 _ _ _ = _
          simp (disch := first | assumption | omega | (repeat' first | exact ok_nil | apply ok_I | apply ok_R)) only [ev_159_0, ev_159_1, ev_159_2, ev_159_3, ev_159_4, ev_159_5, ev_159_6, ev_159_7, ev_159_8, ev_159_9, gf_432_0, ld_433, x_fall, x_goto, x_iadd, x_idiv, x_imul, x_push, x_ret1, xc_142, xc_143, xc_145, xc_157, xc_158, xl_a0, xl_i1, xl_i2, xl_i3, xt_i3, y_if_eq_f, y_if_eq_t, y_if_ge_f, y_if_ge_t, y_if_ne_f, y_if_ne_t, i_wr_id, kM_diff, Int.reduceToNat, ex_ar_same, ex_ar_ar, ex_ar_diff, ex_u_same, ex_u_diff, b2i_t, b2i_f, ex_div_nn, ex_rem_nn, Int.toNat_zero, Int.toNat_one]
        · rw [if_neg (by omega)]
          simp (disch := first | assumption | omega | (repeat' first | exact ok_nil | apply ok_I | apply ok_R)) only [ev_159_0, ev_159_1, ev_159_2, ev_159_3, ev_159_4, ev_159_5, ev_159_6, ev_159_7, ev_159_8, ev_159_9, gf_432_0, ld_433, x_fall, x_goto, x_iadd, x_idiv, x_imul, x_look, x_push, x_ret1, xc_142, xc_143, xc_145, xc_157, xc_158, xl_a0, xl_i1, xl_i2, xl_i3, xt_i3, y_if_eq_f, y_if_eq_t, y_if_ge_f, y_if_ge_t, y_if_ne_f, y_if_ne_t, i_wr_id, kM_diff, Int.reduceToNat, ex_ar_same, ex_ar_ar, ex_ar_diff, ex_u_same, ex_u_diff, b2i_t, b2i_f, ex_div_nn, ex_rem_nn, Int.toNat_zero, Int.toNat_one]
          show ex_ev (d - 1) 159 3 _ _ _ = _
          simp (disch := first | assumption | omega | (repeat' first | exact ok_nil | apply ok_I | apply ok_R)) only [ev_159_0, ev_159_1, ev_159_2, ev_159_3, ev_159_4, ev_159_5, ev_159_6, ev_159_7, ev_159_8, ev_159_9, gf_432_0, ld_433, x_fall, x_goto, x_iadd, x_idiv, x_imul, x_push, x_ret1, xc_142, xc_143, xc_145, xc_157, xc_158, xl_a0, xl_i1, xl_i2, xl_i3, xt_i3, y_if_eq_f, y_if_eq_t, y_if_ge_f, y_if_ge_t, y_if_ne_f, y_if_ne_t, i_wr_id, kM_diff, Int.reduceToNat, ex_ar_same, ex_ar_ar, ex_ar_diff, ex_u_same, ex_u_diff, b2i_t, b2i_f, ex_div_nn, ex_rem_nn, Int.toNat_zero, Int.toNat_one]
      · rw [if_neg h6]
        by_cases h7 : w = 7
        · subst h7
          rw [if_pos rfl]
          rcases stand_lo (σ 433) c hn2 hM with h | ⟨q1, q2, q3, q4, q5⟩
          · rw [if_pos (by omega)]
            simp (disch := first | assumption | omega | (repeat' first | exact ok_nil | apply ok_I | apply ok_R)) only [ev_159_0, ev_159_1, ev_159_2, ev_159_3, ev_159_4, ev_159_5, ev_159_6, ev_159_7, ev_159_8, ev_159_9, gf_432_0, ld_433, x_fall, x_goto, x_iadd, x_idiv, x_imul, x_look, x_push, x_ret1, xc_142, xc_143, xc_145, xc_157, xc_158, xl_a0, xl_i1, xl_i2, xl_i3, xt_i3, y_if_eq_f, y_if_eq_t, y_if_ge_f, y_if_ge_t, y_if_ne_f, y_if_ne_t, i_wr_id, kM_diff, Int.reduceToNat, ex_ar_same, ex_ar_ar, ex_ar_diff, ex_u_same, ex_u_diff, b2i_t, b2i_f, ex_div_nn, ex_rem_nn, Int.toNat_zero, Int.toNat_one]
            show ex_ev (d - 1) 159 6 _ _ _ = _
            simp (disch := first | assumption | omega | (repeat' first | exact ok_nil | apply ok_I | apply ok_R)) only [ev_159_0, ev_159_1, ev_159_2, ev_159_3, ev_159_4, ev_159_5, ev_159_6, ev_159_7, ev_159_8, ev_159_9, gf_432_0, ld_433, x_fall, x_goto, x_iadd, x_idiv, x_imul, x_push, x_ret1, xc_142, xc_143, xc_145, xc_157, xc_158, xl_a0, xl_i1, xl_i2, xl_i3, xt_i3, y_if_eq_f, y_if_eq_t, y_if_ge_f, y_if_ge_t, y_if_ne_f, y_if_ne_t, i_wr_id, kM_diff, Int.reduceToNat, ex_ar_same, ex_ar_ar, ex_ar_diff, ex_u_same, ex_u_diff, b2i_t, b2i_f, ex_div_nn, ex_rem_nn, Int.toNat_zero, Int.toNat_one]
          · rw [if_neg (by omega)]
            simp (disch := first | assumption | omega | (repeat' first | exact ok_nil | apply ok_I | apply ok_R)) only [ev_159_0, ev_159_1, ev_159_2, ev_159_3, ev_159_4, ev_159_5, ev_159_6, ev_159_7, ev_159_8, ev_159_9, gf_432_0, ld_433, x_fall, x_goto, x_iadd, x_idiv, x_imul, x_look, x_push, x_ret1, xc_142, xc_143, xc_145, xc_157, xc_158, xl_a0, xl_i1, xl_i2, xl_i3, xt_i3, y_if_eq_f, y_if_eq_t, y_if_ge_f, y_if_ge_t, y_if_ne_f, y_if_ne_t, i_wr_id, kM_diff, Int.reduceToNat, ex_ar_same, ex_ar_ar, ex_ar_diff, ex_u_same, ex_u_diff, b2i_t, b2i_f, ex_div_nn, ex_rem_nn, Int.toNat_zero, Int.toNat_one]
            show ex_ev (d - 1) 159 6 _ _ _ = _
            simp (disch := first | assumption | omega | (repeat' first | exact ok_nil | apply ok_I | apply ok_R)) only [ev_159_0, ev_159_1, ev_159_2, ev_159_3, ev_159_4, ev_159_5, ev_159_6, ev_159_7, ev_159_8, ev_159_9, gf_432_0, ld_433, x_fall, x_goto, x_iadd, x_idiv, x_imul, x_push, x_ret1, xc_142, xc_143, xc_145, xc_157, xc_158, xl_a0, xl_i1, xl_i2, xl_i3, xt_i3, y_if_eq_f, y_if_eq_t, y_if_ge_f, y_if_ge_t, y_if_ne_f, y_if_ne_t, i_wr_id, kM_diff, Int.reduceToNat, ex_ar_same, ex_ar_ar, ex_ar_diff, ex_u_same, ex_u_diff, b2i_t, b2i_f, ex_div_nn, ex_rem_nn, Int.toNat_zero, Int.toNat_one]
        · rw [if_neg h7]
          simp (disch := first | assumption | omega | (repeat' first | exact ok_nil | apply ok_I | apply ok_R)) only [ev_159_0, ev_159_1, ev_159_2, ev_159_3, ev_159_4, ev_159_5, ev_159_6, ev_159_7, ev_159_8, ev_159_9, gf_432_0, ld_433, x_fall, x_goto, x_iadd, x_idiv, x_imul, x_look, x_push, x_ret1, xc_142, xc_143, xc_145, xc_157, xc_158, xl_a0, xl_i1, xl_i2, xl_i3, xt_i3, y_if_eq_f, y_if_eq_t, y_if_ge_f, y_if_ge_t, y_if_ne_f, y_if_ne_t, i_wr_id, kM_diff, Int.reduceToNat, ex_ar_same, ex_ar_ar, ex_ar_diff, ex_u_same, ex_u_diff, b2i_t, b2i_f, ex_div_nn, ex_rem_nn, Int.toNat_zero, Int.toNat_one]
          have e : Op.lookupswitch.offset [(6, 3), (7, 6)] 9 w = 9 := by
            rw [Op.lookupswitch.offset_cons, if_neg (fun q => h6 q.symm), Op.lookupswitch.offset_cons, if_neg (fun q => h7 q.symm)]
            rfl
          rw [e]
          show ex_ev (d - 1) 159 9 _ _ _ = _
          simp (disch := first | assumption | omega | (repeat' first | exact ok_nil | apply ok_I | apply ok_R)) only [ev_159_0, ev_159_1, ev_159_2, ev_159_3, ev_159_4, ev_159_5, ev_159_6, ev_159_7, ev_159_8, ev_159_9, gf_432_0, ld_433, x_fall, x_goto, x_iadd, x_idiv, x_imul, x_push, x_ret1, xc_142, xc_143, xc_145, xc_157, xc_158, xl_a0, xl_i1, xl_i2, xl_i3, xt_i3, y_if_eq_f, y_if_eq_t, y_if_ge_f, y_if_ge_t, y_if_ne_f, y_if_ne_t, i_wr_id, kM_diff, Int.reduceToNat, ex_ar_same, ex_ar_ar, ex_ar_diff, ex_u_same, ex_u_diff, b2i_t, b2i_f, ex_div_nn, ex_rem_nn, Int.toNat_zero, Int.toNat_one]
    · rw [if_neg (by omega)]
      simp (disch := first | assumption | omega | (repeat' first | exact ok_nil | apply ok_I | apply ok_R)) only [ev_159_0, ev_159_1, ev_159_2, ev_159_3, ev_159_4, ev_159_5, ev_159_6, ev_159_7, ev_159_8, ev_159_9, gf_432_0, ld_433, x_fall, x_goto, x_iadd, x_idiv, x_imul, x_push, x_ret1, xc_142, xc_143, xc_145, xc_157, xc_158, xl_a0, xl_i1, xl_i2, xl_i3, xt_i3, y_if_eq_f, y_if_eq_t, y_if_ge_f, y_if_ge_t, y_if_ne_f, y_if_ne_t, i_wr_id, kM_diff, Int.reduceToNat, ex_ar_same, ex_ar_ar, ex_ar_diff, ex_u_same, ex_u_diff, b2i_t, b2i_f, ex_div_nn, ex_rem_nn, Int.toNat_zero, Int.toNat_one]
  · rw [if_neg (by omega)]
    simp (disch := first | assumption | omega | (repeat' first | exact ok_nil | apply ok_I | apply ok_R)) only [ev_159_0, ev_159_1, ev_159_2, ev_159_3, ev_159_4, ev_159_5, ev_159_6, ev_159_7, ev_159_8, ev_159_9, gf_432_0, ld_433, x_fall, x_goto, x_iadd, x_idiv, x_imul, x_push, x_ret1, xc_142, xc_143, xc_145, xc_157, xc_158, xl_a0, xl_i1, xl_i2, xl_i3, xt_i3, y_if_eq_f, y_if_eq_t, y_if_ge_f, y_if_ge_t, y_if_ne_f, y_if_ne_t, i_wr_id, kM_diff, Int.reduceToNat, ex_ar_same, ex_ar_ar, ex_ar_diff, ex_u_same, ex_u_diff, b2i_t, b2i_f, ex_div_nn, ex_rem_nn, Int.toNat_zero, Int.toNat_one]
theorem xc_159 {rt d : Nat} {J : Nat → List ex_V → List ex_V → ex_H → Option ex_R} {is : List Instr} {ls st : List ex_V} {L : Nat} {σ : ex_S} {c w : Int} (hn : 0 ≤ σ 433 0) (hn2 : σ 433 0 ≤ 5) (hc : 0 ≤ σ 433 1) (hc2 : σ 433 1 ≤ 8) (hM : okM (σ 433)) (hd : 2 < d) (hok : okN 8 st = true) : ex_xs rt J (ex_cd d) (.invokevirtual 159 :: is) ls (vI w :: vI c :: vR 432 :: st) (SH L, σ) = ex_xs rt J (ex_cd d) is ls (vI (carIsM σ c w).1 :: st) (SH L, (carIsM σ c w).2) := x_call1 (Or.inl rfl) rfl (sh_432 _) (Or.inl ⟨rfl, rfl⟩) (as := [vI c, vI w]) rfl rfl (okN_ok hok) rfl (sp_159 hd hn hn2 hc hc2 hM)
def tellM (σ : ex_S) (c w v : Int) : Int × ex_S := if (0 ≤ c ∧ c < σ 433 1) ∧ (0 ≤ w ∧ w ≤ 2) ∧ (0 ≤ v ∧ v ≤ (if w = 0 then 23 else if w = 1 then 9 else 99)) then (σ 433 (115 + 8 * w + c), ex_ar (keepM σ) 433 (ex_u (σ 433) (115 + 8 * w + c) v)) else (-100001, fndM σ)
theorem sp_160 {d : Nat} (hd : 2 < d) {L : Nat} {σ : ex_S} {c w v : Int} (hk : 0 ≤ σ 432 2) (hk2 : σ 432 2 ≤ 16) (hc : 0 ≤ σ 433 1) (hc2 : σ 433 1 ≤ 8) : ex_cd d 160 [vR 432, vI c, vI w, vI v] (SH L, σ) = some ([vI (tellM σ c w v).1], (SH L, (tellM σ c w v).2)) := by
  rw [ex_cd_eq (by omega)]
  show ex_ev (d - 1) 160 0 [vR 432, vI c, vI w, vI v, vL 0] [] (SH L, σ) = _
  unfold tellM
  by_cases h1 : 0 ≤ c ∧ c < σ 433 1
  · by_cases h2 : 0 ≤ w ∧ w ≤ 2
    · by_cases w0 : w = 0
      · rw [if_pos w0]
        by_cases h3 : 0 ≤ v ∧ v ≤ 23
        · rw [if_pos ⟨h1, h2, h3⟩]
          simp (disch := first | assumption | omega | (repeat' first | exact ok_nil | apply ok_I | apply ok_R)) only [ev_160_0, ev_160_1, ev_160_2, ev_160_3, ev_160_4, ev_160_5, gf_432_0, ld_433, sd_433, x_fall, x_goto, x_iadd, x_imul, x_push, x_ret1, xc_142, xc_143, xc_145, xc_147, xl_a0, xl_i1, xl_i2, xl_i3, xl_i4, xt_i4, y_cmp_ne_f, y_cmp_ne_t, y_if_eq_f, y_if_eq_t, y_if_ne_f, y_if_ne_t, i_wr_id, kM_diff, Int.reduceToNat, ex_ar_same, ex_ar_ar, ex_ar_diff, ex_u_same, ex_u_diff, b2i_t, b2i_f, ex_div_nn, ex_rem_nn, Int.toNat_zero, Int.toNat_one]
        · rw [if_neg (by omega)]
          simp (disch := first | assumption | omega | (repeat' first | exact ok_nil | apply ok_I | apply ok_R)) only [ev_160_0, ev_160_1, ev_160_2, ev_160_3, ev_160_4, ev_160_5, gf_432_0, ld_433, sd_433, x_fall, x_goto, x_iadd, x_imul, x_push, x_ret1, xc_142, xc_143, xc_145, xc_147, xl_a0, xl_i1, xl_i2, xl_i3, xl_i4, xt_i4, y_cmp_ne_f, y_cmp_ne_t, y_if_eq_f, y_if_eq_t, y_if_ne_f, y_if_ne_t, i_wr_id, kM_diff, Int.reduceToNat, ex_ar_same, ex_ar_ar, ex_ar_diff, ex_u_same, ex_u_diff, b2i_t, b2i_f, ex_div_nn, ex_rem_nn, Int.toNat_zero, Int.toNat_one]
      · rw [if_neg w0]
        by_cases w1 : w = 1
        · rw [if_pos w1]
          by_cases h3 : 0 ≤ v ∧ v ≤ 9
          · rw [if_pos ⟨h1, h2, h3⟩]
            simp (disch := first | assumption | omega | (repeat' first | exact ok_nil | apply ok_I | apply ok_R)) only [ev_160_0, ev_160_1, ev_160_2, ev_160_3, ev_160_4, ev_160_5, gf_432_0, ld_433, sd_433, x_fall, x_goto, x_iadd, x_imul, x_push, x_ret1, xc_142, xc_143, xc_145, xc_147, xl_a0, xl_i1, xl_i2, xl_i3, xl_i4, xt_i4, y_cmp_ne_f, y_cmp_ne_t, y_if_eq_f, y_if_eq_t, y_if_ne_f, y_if_ne_t, i_wr_id, kM_diff, Int.reduceToNat, ex_ar_same, ex_ar_ar, ex_ar_diff, ex_u_same, ex_u_diff, b2i_t, b2i_f, ex_div_nn, ex_rem_nn, Int.toNat_zero, Int.toNat_one]
          · rw [if_neg (by omega)]
            simp (disch := first | assumption | omega | (repeat' first | exact ok_nil | apply ok_I | apply ok_R)) only [ev_160_0, ev_160_1, ev_160_2, ev_160_3, ev_160_4, ev_160_5, gf_432_0, ld_433, sd_433, x_fall, x_goto, x_iadd, x_imul, x_push, x_ret1, xc_142, xc_143, xc_145, xc_147, xl_a0, xl_i1, xl_i2, xl_i3, xl_i4, xt_i4, y_cmp_ne_f, y_cmp_ne_t, y_if_eq_f, y_if_eq_t, y_if_ne_f, y_if_ne_t, i_wr_id, kM_diff, Int.reduceToNat, ex_ar_same, ex_ar_ar, ex_ar_diff, ex_u_same, ex_u_diff, b2i_t, b2i_f, ex_div_nn, ex_rem_nn, Int.toNat_zero, Int.toNat_one]
        · rw [if_neg w1]
          by_cases h3 : 0 ≤ v ∧ v ≤ 99
          · rw [if_pos ⟨h1, h2, h3⟩]
            simp (disch := first | assumption | omega | (repeat' first | exact ok_nil | apply ok_I | apply ok_R)) only [ev_160_0, ev_160_1, ev_160_2, ev_160_3, ev_160_4, ev_160_5, gf_432_0, ld_433, sd_433, x_fall, x_goto, x_iadd, x_imul, x_push, x_ret1, xc_142, xc_143, xc_145, xc_147, xl_a0, xl_i1, xl_i2, xl_i3, xl_i4, xt_i4, y_cmp_ne_f, y_cmp_ne_t, y_if_eq_f, y_if_eq_t, y_if_ne_f, y_if_ne_t, i_wr_id, kM_diff, Int.reduceToNat, ex_ar_same, ex_ar_ar, ex_ar_diff, ex_u_same, ex_u_diff, b2i_t, b2i_f, ex_div_nn, ex_rem_nn, Int.toNat_zero, Int.toNat_one]
          · rw [if_neg (by omega)]
            simp (disch := first | assumption | omega | (repeat' first | exact ok_nil | apply ok_I | apply ok_R)) only [ev_160_0, ev_160_1, ev_160_2, ev_160_3, ev_160_4, ev_160_5, gf_432_0, ld_433, sd_433, x_fall, x_goto, x_iadd, x_imul, x_push, x_ret1, xc_142, xc_143, xc_145, xc_147, xl_a0, xl_i1, xl_i2, xl_i3, xl_i4, xt_i4, y_cmp_ne_f, y_cmp_ne_t, y_if_eq_f, y_if_eq_t, y_if_ne_f, y_if_ne_t, i_wr_id, kM_diff, Int.reduceToNat, ex_ar_same, ex_ar_ar, ex_ar_diff, ex_u_same, ex_u_diff, b2i_t, b2i_f, ex_div_nn, ex_rem_nn, Int.toNat_zero, Int.toNat_one]
    · rw [if_neg (fun q => h2 q.2.1)]
      simp (disch := first | assumption | omega | (repeat' first | exact ok_nil | apply ok_I | apply ok_R)) only [ev_160_0, ev_160_1, ev_160_2, ev_160_3, ev_160_4, ev_160_5, gf_432_0, ld_433, sd_433, x_fall, x_goto, x_iadd, x_imul, x_push, x_ret1, xc_142, xc_143, xc_145, xc_147, xl_a0, xl_i1, xl_i2, xl_i3, xl_i4, xt_i4, y_cmp_ne_f, y_cmp_ne_t, y_if_eq_f, y_if_eq_t, y_if_ne_f, y_if_ne_t, i_wr_id, kM_diff, Int.reduceToNat, ex_ar_same, ex_ar_ar, ex_ar_diff, ex_u_same, ex_u_diff, b2i_t, b2i_f, ex_div_nn, ex_rem_nn, Int.toNat_zero, Int.toNat_one]
  · rw [if_neg (fun q => h1 q.1)]
    simp (disch := first | assumption | omega | (repeat' first | exact ok_nil | apply ok_I | apply ok_R)) only [ev_160_0, ev_160_1, ev_160_2, ev_160_3, ev_160_4, ev_160_5, gf_432_0, ld_433, sd_433, x_fall, x_goto, x_iadd, x_imul, x_push, x_ret1, xc_142, xc_143, xc_145, xc_147, xl_a0, xl_i1, xl_i2, xl_i3, xl_i4, xt_i4, y_cmp_ne_f, y_cmp_ne_t, y_if_eq_f, y_if_eq_t, y_if_ne_f, y_if_ne_t, i_wr_id, kM_diff, Int.reduceToNat, ex_ar_same, ex_ar_ar, ex_ar_diff, ex_u_same, ex_u_diff, b2i_t, b2i_f, ex_div_nn, ex_rem_nn, Int.toNat_zero, Int.toNat_one]
theorem xc_160 {rt d : Nat} {J : Nat → List ex_V → List ex_V → ex_H → Option ex_R} {is : List Instr} {ls st : List ex_V} {L : Nat} {σ : ex_S} {c w v : Int} (hk : 0 ≤ σ 432 2) (hk2 : σ 432 2 ≤ 16) (hc : 0 ≤ σ 433 1) (hc2 : σ 433 1 ≤ 8) (hd : 2 < d) (hok : okN 8 st = true) : ex_xs rt J (ex_cd d) (.invokevirtual 160 :: is) ls (vI v :: vI w :: vI c :: vR 432 :: st) (SH L, σ) = ex_xs rt J (ex_cd d) is ls (vI (tellM σ c w v).1 :: st) (SH L, (tellM σ c w v).2) := x_call1 (Or.inl rfl) rfl (sh_432 _) (Or.inl ⟨rfl, rfl⟩) (as := [vI c, vI w, vI v]) rfl rfl (okN_ok hok) rfl (sp_160 hd hk hk2 hc hc2)
def atM (σ : ex_S) (l i : Int) : Int × ex_S := if 0 ≤ l ∧ l < σ 433 0 then (if 0 ≤ i ∧ i < σ 433 (46 + l) then (σ 433 (51 + 8 * l + i), σ) else (-100006, fndM σ)) else (-100001, fndM σ)
theorem sp_161 {d : Nat} (hd : 2 < d) {L : Nat} {σ : ex_S} {l i : Int} (hn : 0 ≤ σ 433 0) (hn2 : σ 433 0 ≤ 5) (hM : okM (σ 433)) : ex_cd d 161 [vR 432, vI l, vI i] (SH L, σ) = some ([vI (atM σ l i).1], (SH L, (atM σ l i).2)) := by
  rw [ex_cd_eq (by omega)]
  show ex_ev (d - 1) 161 0 [vR 432, vI l, vI i] [] (SH L, σ) = _
  unfold atM
  by_cases h1 : 0 ≤ l ∧ l < σ 433 0
  · rw [if_pos h1]
    obtain ⟨m1, m2⟩ := hM l (by omega) (by omega)
    by_cases h2 : 0 ≤ i ∧ i < σ 433 (46 + l)
    · rw [if_pos h2]
      simp (disch := first | assumption | omega | (repeat' first | exact ok_nil | apply ok_I | apply ok_R)) only [ev_161_0, ev_161_1, ev_161_2, ev_161_3, gf_432_0, ld_433, x_fall, x_goto, x_iadd, x_isub, x_push, x_ret1, xc_142, xc_143, xc_144, xc_152, xl_a0, xl_i1, xl_i2, y_if_eq_f, y_if_eq_t, y_if_ne_f, y_if_ne_t, i_wr_id, kM_diff, Int.reduceToNat, ex_ar_same, ex_ar_ar, ex_ar_diff, ex_u_same, ex_u_diff, b2i_t, b2i_f, ex_div_nn, ex_rem_nn, Int.toNat_zero, Int.toNat_one]
    · rw [if_neg h2]
      simp (disch := first | assumption | omega | (repeat' first | exact ok_nil | apply ok_I | apply ok_R)) only [ev_161_0, ev_161_1, ev_161_2, ev_161_3, gf_432_0, ld_433, x_fall, x_goto, x_iadd, x_isub, x_push, x_ret1, xc_142, xc_143, xc_144, xc_152, xl_a0, xl_i1, xl_i2, y_if_eq_f, y_if_eq_t, y_if_ne_f, y_if_ne_t, i_wr_id, kM_diff, Int.reduceToNat, ex_ar_same, ex_ar_ar, ex_ar_diff, ex_u_same, ex_u_diff, b2i_t, b2i_f, ex_div_nn, ex_rem_nn, Int.toNat_zero, Int.toNat_one]
  · rw [if_neg h1]
    simp (disch := first | assumption | omega | (repeat' first | exact ok_nil | apply ok_I | apply ok_R)) only [ev_161_0, ev_161_1, ev_161_2, ev_161_3, gf_432_0, ld_433, x_fall, x_goto, x_iadd, x_isub, x_push, x_ret1, xc_142, xc_143, xc_144, xc_152, xl_a0, xl_i1, xl_i2, y_if_eq_f, y_if_eq_t, y_if_ne_f, y_if_ne_t, i_wr_id, kM_diff, Int.reduceToNat, ex_ar_same, ex_ar_ar, ex_ar_diff, ex_u_same, ex_u_diff, b2i_t, b2i_f, ex_div_nn, ex_rem_nn, Int.toNat_zero, Int.toNat_one]
theorem xc_161 {rt d : Nat} {J : Nat → List ex_V → List ex_V → ex_H → Option ex_R} {is : List Instr} {ls st : List ex_V} {L : Nat} {σ : ex_S} {l i : Int} (hn : 0 ≤ σ 433 0) (hn2 : σ 433 0 ≤ 5) (hM : okM (σ 433)) (hd : 2 < d) (hok : okN 8 st = true) : ex_xs rt J (ex_cd d) (.invokevirtual 161 :: is) ls (vI i :: vI l :: vR 432 :: st) (SH L, σ) = ex_xs rt J (ex_cd d) is ls (vI (atM σ l i).1 :: st) (SH L, (atM σ l i).2) := x_call1 (Or.inl rfl) rfl (sh_432 _) (Or.inl ⟨rfl, rfl⟩) (as := [vI l, vI i]) rfl rfl (okN_ok hok) rfl (sp_161 hd hn hn2 hM)
def fitsM (σ : ex_S) (c l : Int) : Int × ex_S := if (0 ≤ c ∧ c < σ 433 1) ∧ (0 ≤ l ∧ l < σ 433 0) then (b2i (σ 433 (99 + c) ≤ σ 433 (21 + l) ∧ σ 433 (107 + c) ≤ σ 433 (26 + l)), σ) else (-100001, fndM σ)
theorem sp_163 {d : Nat} (hd : 2 < d) {L : Nat} {σ : ex_S} {c l : Int} (hn : 0 ≤ σ 433 0) (hn2 : σ 433 0 ≤ 5) (hc : 0 ≤ σ 433 1) (hc2 : σ 433 1 ≤ 8) : ex_cd d 163 [vR 432, vI c, vI l] (SH L, σ) = some ([vI (fitsM σ c l).1], (SH L, (fitsM σ c l).2)) := by
  rw [ex_cd_eq (by omega)]
  show ex_ev (d - 1) 163 0 [vR 432, vI c, vI l] [] (SH L, σ) = _
  unfold fitsM
  by_cases h1 : 0 ≤ c ∧ c < σ 433 1
  · by_cases h2 : 0 ≤ l ∧ l < σ 433 0
    · rw [if_pos ⟨h1, h2⟩]
      by_cases h3 : σ 433 (99 + c) ≤ σ 433 (21 + l) ∧ σ 433 (107 + c) ≤ σ 433 (26 + l)
      · simp (disch := first | assumption | omega | (repeat' first | exact ok_nil | apply ok_I | apply ok_R)) only [ev_163_0, ev_163_1, ev_163_2, ev_163_3, ev_163_4, x_fall, x_goto, x_push, x_ret1, xc_142, xc_144, xc_145, xc_162, xl_a0, xl_i1, xl_i2, y_if_eq_f, y_if_eq_t, y_if_ne_f, y_if_ne_t, i_wr_id, kM_diff, Int.reduceToNat, ex_ar_same, ex_ar_ar, ex_ar_diff, ex_u_same, ex_u_diff, b2i_t, b2i_f, ex_div_nn, ex_rem_nn, Int.toNat_zero, Int.toNat_one]
      · simp (disch := first | assumption | omega | (repeat' first | exact ok_nil | apply ok_I | apply ok_R)) only [ev_163_0, ev_163_1, ev_163_2, ev_163_3, ev_163_4, x_fall, x_goto, x_push, x_ret1, xc_142, xc_144, xc_145, xc_162, xl_a0, xl_i1, xl_i2, y_if_eq_f, y_if_eq_t, y_if_ne_f, y_if_ne_t, i_wr_id, kM_diff, Int.reduceToNat, ex_ar_same, ex_ar_ar, ex_ar_diff, ex_u_same, ex_u_diff, b2i_t, b2i_f, ex_div_nn, ex_rem_nn, Int.toNat_zero, Int.toNat_one]
    · rw [if_neg (by omega)]
      simp (disch := first | assumption | omega | (repeat' first | exact ok_nil | apply ok_I | apply ok_R)) only [ev_163_0, ev_163_1, ev_163_2, ev_163_3, ev_163_4, x_fall, x_goto, x_push, x_ret1, xc_142, xc_144, xc_145, xc_162, xl_a0, xl_i1, xl_i2, y_if_eq_f, y_if_eq_t, y_if_ne_f, y_if_ne_t, i_wr_id, kM_diff, Int.reduceToNat, ex_ar_same, ex_ar_ar, ex_ar_diff, ex_u_same, ex_u_diff, b2i_t, b2i_f, ex_div_nn, ex_rem_nn, Int.toNat_zero, Int.toNat_one]
  · rw [if_neg (by omega)]
    simp (disch := first | assumption | omega | (repeat' first | exact ok_nil | apply ok_I | apply ok_R)) only [ev_163_0, ev_163_1, ev_163_2, ev_163_3, ev_163_4, x_fall, x_goto, x_push, x_ret1, xc_142, xc_144, xc_145, xc_162, xl_a0, xl_i1, xl_i2, y_if_eq_f, y_if_eq_t, y_if_ne_f, y_if_ne_t, i_wr_id, kM_diff, Int.reduceToNat, ex_ar_same, ex_ar_ar, ex_ar_diff, ex_u_same, ex_u_diff, b2i_t, b2i_f, ex_div_nn, ex_rem_nn, Int.toNat_zero, Int.toNat_one]
theorem xc_163 {rt d : Nat} {J : Nat → List ex_V → List ex_V → ex_H → Option ex_R} {is : List Instr} {ls st : List ex_V} {L : Nat} {σ : ex_S} {c l : Int} (hn : 0 ≤ σ 433 0) (hn2 : σ 433 0 ≤ 5) (hc : 0 ≤ σ 433 1) (hc2 : σ 433 1 ≤ 8) (hd : 2 < d) (hok : okN 8 st = true) : ex_xs rt J (ex_cd d) (.invokevirtual 163 :: is) ls (vI l :: vI c :: vR 432 :: st) (SH L, σ) = ex_xs rt J (ex_cd d) is ls (vI (fitsM σ c l).1 :: st) (SH L, (fitsM σ c l).2) := x_call1 (Or.inl rfl) rfl (sh_432 _) (Or.inl ⟨rfl, rfl⟩) (as := [vI c, vI l]) rfl rfl (okN_ok hok) rfl (sp_163 hd hn hn2 hc hc2)
/-- a lift's cycle -/
def cyc (n : Int → Int) (l : Int) : Int := if n (11 + l) = 1 ∨ n (11 + l) = 3 then 1 else 0
def turnF (n : Int → Int) (l : Int) : Int → Int := ex_u n (41 + l) (n (41 + l) + cyc n l)
theorem sp_166 {d : Nat} (hd : 1 < d) {L : Nat} {σ : ex_S} {l : Int} (h1 : 0 ≤ l) (h2 : l < 5) (hy : 0 ≤ σ 433 (41 + l)) (hy2 : σ 433 (41 + l) ≤ 1000) : ex_cd d 166 [vR 432, vI l] (SH L, σ) = some ([], (SH L, ex_ar σ 433 (turnF (σ 433) l))) := by
  rw [ex_cd_eq (by omega)]
  show ex_ev (d - 1) 166 0 [vR 432, vI l] [] (SH L, σ) = _
  unfold turnF cyc
  by_cases h3 : σ 433 (11 + l) = 1 ∨ σ 433 (11 + l) = 3
  · rw [if_pos h3]
    simp (disch := first | assumption | omega | (repeat' first | exact ok_nil | apply ok_I | apply ok_R)) only [ev_166_0, ev_166_1, ev_166_2, gf_432_0, ld_433, sd_433, x_dup2, x_fall, x_goto, x_iadd, x_push, x_ret0, xc_150, xl_a0, xl_i1, y_if_eq_f, y_if_eq_t, i_wr_id, kM_diff, Int.reduceToNat, ex_ar_same, ex_ar_ar, ex_ar_diff, ex_u_same, ex_u_diff, b2i_t, b2i_f, ex_div_nn, ex_rem_nn, Int.toNat_zero, Int.toNat_one]
  · rw [if_neg h3]
    simp (disch := first | assumption | omega | (repeat' first | exact ok_nil | apply ok_I | apply ok_R)) only [ev_166_0, ev_166_1, ev_166_2, gf_432_0, ld_433, sd_433, x_dup2, x_fall, x_goto, x_iadd, x_push, x_ret0, xc_150, xl_a0, xl_i1, y_if_eq_f, y_if_eq_t, i_wr_id, kM_diff, Int.reduceToNat, ex_ar_same, ex_ar_ar, ex_ar_diff, ex_u_same, ex_u_diff, b2i_t, b2i_f, ex_div_nn, ex_rem_nn, Int.toNat_zero, Int.toNat_one]
theorem xc_166 {rt d : Nat} {J : Nat → List ex_V → List ex_V → ex_H → Option ex_R} {is : List Instr} {ls st : List ex_V} {L : Nat} {σ : ex_S} {l : Int} (h1 : 0 ≤ l) (h2 : l < 5) (hy : 0 ≤ σ 433 (41 + l)) (hy2 : σ 433 (41 + l) ≤ 1000) (hd : 1 < d) (hok : okN 8 st = true) : ex_xs rt J (ex_cd d) (.invokevirtual 166 :: is) ls (vI l :: vR 432 :: st) (SH L, σ) = ex_xs rt J (ex_cd d) is ls (st) (SH L, ex_ar σ 433 (turnF (σ 433) l)) := x_call1 (Or.inl rfl) rfl (sh_432 _) (Or.inl ⟨rfl, rfl⟩) (as := [vI l]) rfl rfl (okN_ok hok) rfl (sp_166 hd h1 h2 hy hy2)
def comesF (n : Int → Int) (c l : Int) : Int → Int := turnF (ex_u (ex_u n (51 + 8 * l + n (46 + l)) c) (46 + l) (n (46 + l) + 1)) l
def goesF (n : Int → Int) (l : Int) : Int → Int := turnF (ex_u n (46 + l) (n (46 + l) - 1)) l
theorem sp_167 {d : Nat} (hd : 2 < d) {L : Nat} {σ : ex_S} {c l : Int} (h1 : 0 ≤ l) (h2 : l < 5) (hy : 0 ≤ σ 433 (41 + l)) (hy2 : σ 433 (41 + l) ≤ 1000) (hm : 0 ≤ σ 433 (46 + l)) (hm2 : σ 433 (46 + l) < 8) : ex_cd d 167 [vR 432, vI c, vI l] (SH L, σ) = some ([], (SH L, ex_ar σ 433 (comesF (σ 433) c l))) := by
  rw [ex_cd_eq (by omega)]
  show ex_ev (d - 1) 167 0 [vR 432, vI c, vI l] [] (SH L, σ) = _
  unfold comesF
  have e1 : (ex_u (ex_u (σ 433) (51 + 8 * l + σ 433 (46 + l)) c) (46 + l) (σ 433 (46 + l) + 1)) (41 + l) = σ 433 (41 + l) := by rw [ex_u_diff _ _ (by omega), ex_u_diff _ _ (by omega)]
  have e2 : 0 ≤ ex_ar σ 433 (ex_u (ex_u (σ 433) (51 + 8 * l + σ 433 (46 + l)) c) (46 + l) (σ 433 (46 + l) + 1)) 433 (41 + l) := by rw [ex_ar_same, e1]; exact hy
  have e3 : ex_ar σ 433 (ex_u (ex_u (σ 433) (51 + 8 * l + σ 433 (46 + l)) c) (46 + l) (σ 433 (46 + l) + 1)) 433 (41 + l) ≤ 1000 := by rw [ex_ar_same, e1]; exact hy2
  simp (disch := first | assumption | omega | (repeat' first | exact ok_nil | apply ok_I | apply ok_R)) only [ev_167_0, gf_432_0, ld_433, sd_433, x_dup2, x_iadd, x_imul, x_push, x_ret0, xc_166, xl_a0, xl_i1, xl_i2, i_wr_id, kM_diff, Int.reduceToNat, ex_ar_same, ex_ar_ar, ex_ar_diff, ex_u_same, ex_u_diff, b2i_t, b2i_f, ex_div_nn, ex_rem_nn, Int.toNat_zero, Int.toNat_one]
theorem xc_167 {rt d : Nat} {J : Nat → List ex_V → List ex_V → ex_H → Option ex_R} {is : List Instr} {ls st : List ex_V} {L : Nat} {σ : ex_S} {c l : Int} (h1 : 0 ≤ l) (h2 : l < 5) (hy : 0 ≤ σ 433 (41 + l)) (hy2 : σ 433 (41 + l) ≤ 1000) (hm : 0 ≤ σ 433 (46 + l)) (hm2 : σ 433 (46 + l) < 8) (hd : 2 < d) (hok : okN 8 st = true) : ex_xs rt J (ex_cd d) (.invokevirtual 167 :: is) ls (vI l :: vI c :: vR 432 :: st) (SH L, σ) = ex_xs rt J (ex_cd d) is ls (st) (SH L, ex_ar σ 433 (comesF (σ 433) c l)) := x_call1 (Or.inl rfl) rfl (sh_432 _) (Or.inl ⟨rfl, rfl⟩) (as := [vI c, vI l]) rfl rfl (okN_ok hok) rfl (sp_167 hd h1 h2 hy hy2 hm hm2)
theorem sp_168 {d : Nat} (hd : 2 < d) {L : Nat} {σ : ex_S} {l : Int} (h1 : 0 ≤ l) (h2 : l < 5) (hy : 0 ≤ σ 433 (41 + l)) (hy2 : σ 433 (41 + l) ≤ 1000) (hm : 0 ≤ σ 433 (46 + l)) (hm2 : σ 433 (46 + l) ≤ 8) : ex_cd d 168 [vR 432, vI l] (SH L, σ) = some ([], (SH L, ex_ar σ 433 (goesF (σ 433) l))) := by
  rw [ex_cd_eq (by omega)]
  show ex_ev (d - 1) 168 0 [vR 432, vI l] [] (SH L, σ) = _
  unfold goesF
  have e1 : (ex_u (σ 433) (46 + l) (σ 433 (46 + l) - 1)) (41 + l) = σ 433 (41 + l) := by rw [ex_u_diff _ _ (by omega)]
  have e2 : 0 ≤ ex_ar σ 433 (ex_u (σ 433) (46 + l) (σ 433 (46 + l) - 1)) 433 (41 + l) := by rw [ex_ar_same, e1]; exact hy
  have e3 : ex_ar σ 433 (ex_u (σ 433) (46 + l) (σ 433 (46 + l) - 1)) 433 (41 + l) ≤ 1000 := by rw [ex_ar_same, e1]; exact hy2
  simp (disch := first | assumption | omega | (repeat' first | exact ok_nil | apply ok_I | apply ok_R)) only [ev_168_0, gf_432_0, ld_433, sd_433, x_dup2, x_iadd, x_isub, x_push, x_ret0, xc_166, xl_a0, xl_i1, i_wr_id, kM_diff, Int.reduceToNat, ex_ar_same, ex_ar_ar, ex_ar_diff, ex_u_same, ex_u_diff, b2i_t, b2i_f, ex_div_nn, ex_rem_nn, Int.toNat_zero, Int.toNat_one]
theorem xc_168 {rt d : Nat} {J : Nat → List ex_V → List ex_V → ex_H → Option ex_R} {is : List Instr} {ls st : List ex_V} {L : Nat} {σ : ex_S} {l : Int} (h1 : 0 ≤ l) (h2 : l < 5) (hy : 0 ≤ σ 433 (41 + l)) (hy2 : σ 433 (41 + l) ≤ 1000) (hm : 0 ≤ σ 433 (46 + l)) (hm2 : σ 433 (46 + l) ≤ 8) (hd : 2 < d) (hok : okN 8 st = true) : ex_xs rt J (ex_cd d) (.invokevirtual 168 :: is) ls (vI l :: vR 432 :: st) (SH L, σ) = ex_xs rt J (ex_cd d) is ls (st) (SH L, ex_ar σ 433 (goesF (σ 433) l)) := x_call1 (Or.inl rfl) rfl (sh_432 _) (Or.inl ⟨rfl, rfl⟩) (as := [vI l]) rfl rfl (okN_ok hok) rfl (sp_168 hd h1 h2 hy hy2 hm hm2)
