/-! the reference, method by method: what it answers and does, in words of its rows (now = σ 433) -/
theorem sp_143 {d : Nat} (hd : 0 < d) {h : ex_H} {v a b : Int} : ex_cd d 143 [vI v, vI a, vI b] (h) = some ([vI (b2i (a ≤ v ∧ v ≤ b))], (h)) := by
  rw [ex_cd_eq (by omega)]
  show ex_ev (d - 1) 143 0 [vI v, vI a, vI b] [] (h) = _
  by_cases h1 : v < a
  · simp (disch := first | rfl | assumption | omega) only [ev_143_0, ev_143_1, ev_143_2, x_fall, x_goto, x_push, x_ret2, x_ret2b, xl_i0, xl_i1, xl_i2, y_cmp_gt_f, y_cmp_gt_t, y_cmp_lt_f, y_cmp_lt_t, i_wr_id, Int.reduceToNat, ex_ar_same, ex_ar_diff, ex_u_same, ex_u_diff, b2i_t, b2i_f, ex_div_nn, ex_rem_nn, Int.toNat_zero, Int.toNat_one]
  · by_cases h2 : b < v
    · simp (disch := first | rfl | assumption | omega) only [ev_143_0, ev_143_1, ev_143_2, x_fall, x_goto, x_push, x_ret2, x_ret2b, xl_i0, xl_i1, xl_i2, y_cmp_gt_f, y_cmp_gt_t, y_cmp_lt_f, y_cmp_lt_t, i_wr_id, Int.reduceToNat, ex_ar_same, ex_ar_diff, ex_u_same, ex_u_diff, b2i_t, b2i_f, ex_div_nn, ex_rem_nn, Int.toNat_zero, Int.toNat_one]
    · simp (disch := first | rfl | assumption | omega) only [ev_143_0, ev_143_1, ev_143_2, x_fall, x_goto, x_push, x_ret2, x_ret2b, xl_i0, xl_i1, xl_i2, y_cmp_gt_f, y_cmp_gt_t, y_cmp_lt_f, y_cmp_lt_t, i_wr_id, Int.reduceToNat, ex_ar_same, ex_ar_diff, ex_u_same, ex_u_diff, b2i_t, b2i_f, ex_div_nn, ex_rem_nn, Int.toNat_zero, Int.toNat_one]
theorem xc_143 {rt d : Nat} {J : Nat → List ex_V → List ex_V → ex_H → Option ex_R} {is : List Instr} {ls st : List ex_V} {h : ex_H} {v a b : Int} (hd : 0 < d) (hok : ex_ok st = true) : ex_xs rt J (ex_cd d) (.invokestatic 143 :: is) ls (vI b :: vI a :: vI v :: st) (h) = ex_xs rt J (ex_cd d) is ls (vI (b2i (a ≤ v ∧ v ≤ b)) :: st) (h) := x_call0 (as := [vI v, vI a, vI b]) rfl rfl rfl hok rfl (sp_143 hd )
def fndM (σ : ex_S) : ex_S := ex_ar σ 432 (ex_u (σ 432) 3 (ex_wr (σ 432 3 + 1)))
theorem sp_142 {d : Nat} (hd : 0 < d) {L : Nat} {σ : ex_S} {w : Int} : ex_cd d 142 [vR 432, vI w] (SH L, σ) = some ([vI w], (SH L, fndM σ)) := by
  rw [ex_cd_eq (by omega)]
  show ex_ev (d - 1) 142 0 [vR 432, vI w] [] (SH L, σ) = _
  simp (disch := first | rfl | assumption | omega) only [ev_142_0, gf_432_3, pf_432_3, x_dupI, x_dupR, x_iadd, x_push, x_ret1, xl_a0, xl_i1, Int.reduceToNat, ex_ar_same, ex_ar_diff, ex_u_same, ex_u_diff, b2i_t, b2i_f, ex_div_nn, ex_rem_nn, Int.toNat_zero, Int.toNat_one]
  rfl
theorem xc_142 {rt d : Nat} {J : Nat → List ex_V → List ex_V → ex_H → Option ex_R} {is : List Instr} {ls st : List ex_V} {L : Nat} {σ : ex_S} {w : Int} (hd : 0 < d) (hok : ex_ok st = true) : ex_xs rt J (ex_cd d) (.invokevirtual 142 :: is) ls (vI w :: vR 432 :: st) (SH L, σ) = ex_xs rt J (ex_cd d) is ls (vI w :: st) (SH L, fndM σ) := x_call1 (Or.inl rfl) rfl (sh_432 _) (Or.inl ⟨rfl, rfl⟩) (as := [vI w]) rfl rfl hok rfl (sp_142 hd )
theorem sp_144 {d : Nat} (hd : 1 < d) {L : Nat} {σ : ex_S} {l : Int} (hn : 0 ≤ σ 433 0) (hn2 : σ 433 0 ≤ 5) : ex_cd d 144 [vR 432, vI l] (SH L, σ) = some ([vI (b2i (0 ≤ l ∧ l < σ 433 0))], (SH L, σ)) := by
  rw [ex_cd_eq (by omega)]
  show ex_ev (d - 1) 144 0 [vR 432, vI l] [] (SH L, σ) = _
  simp (disch := first | rfl | assumption | omega) only [ev_144_0, gf_432_0, ld_433, x_isub, x_push, x_ret2, x_ret2b, xc_143, xl_a0, xl_i1, i_wr_id, Int.reduceToNat, ex_ar_same, ex_ar_diff, ex_u_same, ex_u_diff, ex_div_nn, ex_rem_nn, Int.toNat_zero, Int.toNat_one]
  rw [b2i_iff (show (0 ≤ l ∧ l ≤ σ 433 0 - 1) ↔ (0 ≤ l ∧ l < σ 433 0) by omega)]
theorem xc_144 {rt d : Nat} {J : Nat → List ex_V → List ex_V → ex_H → Option ex_R} {is : List Instr} {ls st : List ex_V} {L : Nat} {σ : ex_S} {l : Int} (hn : 0 ≤ σ 433 0) (hn2 : σ 433 0 ≤ 5) (hd : 1 < d) (hok : ex_ok st = true) : ex_xs rt J (ex_cd d) (.invokevirtual 144 :: is) ls (vI l :: vR 432 :: st) (SH L, σ) = ex_xs rt J (ex_cd d) is ls (vI (b2i (0 ≤ l ∧ l < σ 433 0)) :: st) (SH L, σ) := x_call1 (Or.inl rfl) rfl (sh_432 _) (Or.inl ⟨rfl, rfl⟩) (as := [vI l]) rfl rfl hok rfl (sp_144 hd hn hn2)
theorem sp_145 {d : Nat} (hd : 1 < d) {L : Nat} {σ : ex_S} {l : Int} (hn : 0 ≤ σ 433 1) (hn2 : σ 433 1 ≤ 8) : ex_cd d 145 [vR 432, vI l] (SH L, σ) = some ([vI (b2i (0 ≤ l ∧ l < σ 433 1))], (SH L, σ)) := by
  rw [ex_cd_eq (by omega)]
  show ex_ev (d - 1) 145 0 [vR 432, vI l] [] (SH L, σ) = _
  simp (disch := first | rfl | assumption | omega) only [ev_145_0, gf_432_0, ld_433, x_isub, x_push, x_ret2, x_ret2b, xc_143, xl_a0, xl_i1, i_wr_id, Int.reduceToNat, ex_ar_same, ex_ar_diff, ex_u_same, ex_u_diff, ex_div_nn, ex_rem_nn, Int.toNat_zero, Int.toNat_one]
  rw [b2i_iff (show (0 ≤ l ∧ l ≤ σ 433 1 - 1) ↔ (0 ≤ l ∧ l < σ 433 1) by omega)]
theorem xc_145 {rt d : Nat} {J : Nat → List ex_V → List ex_V → ex_H → Option ex_R} {is : List Instr} {ls st : List ex_V} {L : Nat} {σ : ex_S} {l : Int} (hn : 0 ≤ σ 433 1) (hn2 : σ 433 1 ≤ 8) (hd : 1 < d) (hok : ex_ok st = true) : ex_xs rt J (ex_cd d) (.invokevirtual 145 :: is) ls (vI l :: vR 432 :: st) (SH L, σ) = ex_xs rt J (ex_cd d) is ls (vI (b2i (0 ≤ l ∧ l < σ 433 1)) :: st) (SH L, σ) := x_call1 (Or.inl rfl) rfl (sh_432 _) (Or.inl ⟨rfl, rfl⟩) (as := [vI l]) rfl rfl hok rfl (sp_145 hd hn hn2)
theorem sp_146 {d : Nat} (hd : 1 < d) {h : ex_H} {v : Int} : ex_cd d 146 [vI v] (h) = some ([vI (b2i (0 ≤ v ∧ v ≤ 23))], (h)) := by
  rw [ex_cd_eq (by omega)]
  show ex_ev (d - 1) 146 0 [vI v] [] (h) = _
  simp (disch := first | rfl | assumption | omega) only [ev_146_0, x_push, x_ret2, x_ret2b, xc_143, xl_i0, i_wr_id, Int.reduceToNat, ex_ar_same, ex_ar_diff, ex_u_same, ex_u_diff, ex_div_nn, ex_rem_nn, Int.toNat_zero, Int.toNat_one]
theorem xc_146 {rt d : Nat} {J : Nat → List ex_V → List ex_V → ex_H → Option ex_R} {is : List Instr} {ls st : List ex_V} {h : ex_H} {v : Int} (hd : 1 < d) (hok : ex_ok st = true) : ex_xs rt J (ex_cd d) (.invokestatic 146 :: is) ls (vI v :: st) (h) = ex_xs rt J (ex_cd d) is ls (vI (b2i (0 ≤ v ∧ v ≤ 23)) :: st) (h) := x_call0 (as := [vI v]) rfl rfl rfl hok rfl (sp_146 hd )
theorem sp_230 {d : Nat} (hd : 1 < d) {h : ex_H} {v : Int} : ex_cd d 230 [vI v] (h) = some ([vI (b2i (0 ≤ v ∧ v ≤ 3))], (h)) := by
  rw [ex_cd_eq (by omega)]
  show ex_ev (d - 1) 230 0 [vI v] [] (h) = _
  simp (disch := first | rfl | assumption | omega) only [ev_230_0, x_push, x_ret2, x_ret2b, xc_143, xl_i0, i_wr_id, Int.reduceToNat, ex_ar_same, ex_ar_diff, ex_u_same, ex_u_diff, ex_div_nn, ex_rem_nn, Int.toNat_zero, Int.toNat_one]
theorem xc_230 {rt d : Nat} {J : Nat → List ex_V → List ex_V → ex_H → Option ex_R} {is : List Instr} {ls st : List ex_V} {h : ex_H} {v : Int} (hd : 1 < d) (hok : ex_ok st = true) : ex_xs rt J (ex_cd d) (.invokestatic 230 :: is) ls (vI v :: st) (h) = ex_xs rt J (ex_cd d) is ls (vI (b2i (0 ≤ v ∧ v ≤ 3)) :: st) (h) := x_call0 (as := [vI v]) rfl rfl rfl hok rfl (sp_230 hd )
theorem sp_150 {d : Nat} (hd : 0 < d) {L : Nat} {σ : ex_S} {l : Int} (h1 : 0 ≤ l) (h2 : l < 5) : ex_cd d 150 [vR 432, vI l] (SH L, σ) = some ([vI (b2i (σ 433 (11 + l) = 1 ∨ σ 433 (11 + l) = 3))], (SH L, σ)) := by
  rw [ex_cd_eq (by omega)]
  show ex_ev (d - 1) 150 0 [vR 432, vI l] [] (SH L, σ) = _
  by_cases h3 : σ 433 (11 + l) = 1
  · simp (disch := first | rfl | assumption | omega) only [ev_150_0, ev_150_1, ev_150_2, ev_150_3, gf_432_0, ld_433, x_fall, x_goto, x_iadd, x_push, x_ret2, x_ret2b, xl_a0, xl_i1, y_cmp_eq_f, y_cmp_eq_t, y_cmp_ne_f, y_cmp_ne_t, i_wr_id, Int.reduceToNat, ex_ar_same, ex_ar_diff, ex_u_same, ex_u_diff, b2i_t, b2i_f, ex_div_nn, ex_rem_nn, Int.toNat_zero, Int.toNat_one]
  · by_cases h4 : σ 433 (11 + l) = 3
    · simp (disch := first | rfl | assumption | omega) only [ev_150_0, ev_150_1, ev_150_2, ev_150_3, gf_432_0, ld_433, x_fall, x_goto, x_iadd, x_push, x_ret2, x_ret2b, xl_a0, xl_i1, y_cmp_eq_f, y_cmp_eq_t, y_cmp_ne_f, y_cmp_ne_t, i_wr_id, Int.reduceToNat, ex_ar_same, ex_ar_diff, ex_u_same, ex_u_diff, b2i_t, b2i_f, ex_div_nn, ex_rem_nn, Int.toNat_zero, Int.toNat_one]
    · simp (disch := first | rfl | assumption | omega) only [ev_150_0, ev_150_1, ev_150_2, ev_150_3, gf_432_0, ld_433, x_fall, x_goto, x_iadd, x_push, x_ret2, x_ret2b, xl_a0, xl_i1, y_cmp_eq_f, y_cmp_eq_t, y_cmp_ne_f, y_cmp_ne_t, i_wr_id, Int.reduceToNat, ex_ar_same, ex_ar_diff, ex_u_same, ex_u_diff, b2i_t, b2i_f, ex_div_nn, ex_rem_nn, Int.toNat_zero, Int.toNat_one]
theorem xc_150 {rt d : Nat} {J : Nat → List ex_V → List ex_V → ex_H → Option ex_R} {is : List Instr} {ls st : List ex_V} {L : Nat} {σ : ex_S} {l : Int} (h1 : 0 ≤ l) (h2 : l < 5) (hd : 0 < d) (hok : ex_ok st = true) : ex_xs rt J (ex_cd d) (.invokevirtual 150 :: is) ls (vI l :: vR 432 :: st) (SH L, σ) = ex_xs rt J (ex_cd d) is ls (vI (b2i (σ 433 (11 + l) = 1 ∨ σ 433 (11 + l) = 3)) :: st) (SH L, σ) := x_call1 (Or.inl rfl) rfl (sh_432 _) (Or.inl ⟨rfl, rfl⟩) (as := [vI l]) rfl rfl hok rfl (sp_150 hd h1 h2)
theorem sp_152 {d : Nat} (hd : 0 < d) {L : Nat} {σ : ex_S} {l i : Int} (h1 : 0 ≤ l) (h2 : l < 5) (h3 : 0 ≤ i) (h4 : i < 8) : ex_cd d 152 [vR 432, vI l, vI i] (SH L, σ) = some ([vI (σ 433 (51 + 8 * l + i))], (SH L, σ)) := by
  rw [ex_cd_eq (by omega)]
  show ex_ev (d - 1) 152 0 [vR 432, vI l, vI i] [] (SH L, σ) = _
  simp (disch := first | rfl | assumption | omega) only [ev_152_0, gf_432_0, ld_433, x_iadd, x_imul, x_push, x_ret1, xl_a0, xl_i1, xl_i2, i_wr_id, Int.reduceToNat, ex_ar_same, ex_ar_diff, ex_u_same, ex_u_diff, b2i_t, b2i_f, ex_div_nn, ex_rem_nn, Int.toNat_zero, Int.toNat_one]
theorem xc_152 {rt d : Nat} {J : Nat → List ex_V → List ex_V → ex_H → Option ex_R} {is : List Instr} {ls st : List ex_V} {L : Nat} {σ : ex_S} {l i : Int} (h1 : 0 ≤ l) (h2 : l < 5) (h3 : 0 ≤ i) (h4 : i < 8) (hd : 0 < d) (hok : ex_ok st = true) : ex_xs rt J (ex_cd d) (.invokevirtual 152 :: is) ls (vI i :: vI l :: vR 432 :: st) (SH L, σ) = ex_xs rt J (ex_cd d) is ls (vI (σ 433 (51 + 8 * l + i)) :: st) (SH L, σ) := x_call1 (Or.inl rfl) rfl (sh_432 _) (Or.inl ⟨rfl, rfl⟩) (as := [vI l, vI i]) rfl rfl hok rfl (sp_152 hd h1 h2 h3 h4)
/-- the places hold cars -/
def okP (n : Int → Int) : Prop := ∀ l i : Int, 0 ≤ l → l < 5 → 0 ≤ i → i < n (46 + l) → 0 ≤ n (51 + 8 * l + i) ∧ n (51 + 8 * l + i) < 8
def okM (n : Int → Int) : Prop := ∀ l : Int, 0 ≤ l → l < 5 → 0 ≤ n (46 + l) ∧ n (46 + l) ≤ 8
def leftN (n : Int → Int) (l : Int) : Int := itr (fun i a => ex_wr (a - n (91 + n (51 + 8 * l + (i : Int))))) 0 (n (46 + l)).toNat (n (16 + l))
theorem lp_153 {d L : Nat} {σ : ex_S} {l : Int} (hd : 0 < d) (h1 : 0 ≤ l) (h2 : l < 5) (hM : okM (σ 433)) (hP : okP (σ 433)) : ∀ (j i : Nat) (a : Int), i + j = (σ 433 (46 + l)).toNat → ex_ev d 153 1 [vR 432, vI l, vI a, vI (i : Int)] [] (SH L, σ) = some ([vI (itr (fun i a => ex_wr (a - σ 433 (91 + σ 433 (51 + 8 * l + (i : Int))))) i j a)], (SH L, σ)) := by
  obtain ⟨m1, m2⟩ := hM l h1 h2
  intro j
  induction j with
  | zero =>
    intro i a hij
    rw [ev_153_1]
    simp (disch := first | rfl | assumption | omega) only [ev_153_0, ev_153_2, gf_432_0, ld_433, x_fall, x_goto, x_iadd, x_isub, x_push, x_ret1, xc_152, xl_a0, xl_i1, xl_i2, xl_i3, xn_3, xt_i2, xt_i3, y_cmp_ge_f, y_cmp_ge_t, i_wr_id, Int.reduceToNat, ex_ar_same, ex_ar_diff, ex_u_same, ex_u_diff, b2i_t, b2i_f, ex_div_nn, ex_rem_nn, Int.toNat_zero, Int.toNat_one]
    rfl
  | succ j ih =>
    intro i a hij
    obtain ⟨p1, p2⟩ := hP l i h1 h2 (by omega) (by omega)
    rw [ev_153_1]
    simp (disch := first | rfl | assumption | omega) only [ev_153_0, ev_153_2, gf_432_0, ld_433, x_fall, x_goto, x_iadd, x_isub, x_push, x_ret1, xc_152, xl_a0, xl_i1, xl_i2, xl_i3, xn_3, xt_i2, xt_i3, y_cmp_ge_f, y_cmp_ge_t, i_wr_id, Int.reduceToNat, ex_ar_same, ex_ar_diff, ex_u_same, ex_u_diff, b2i_t, b2i_f, ex_div_nn, ex_rem_nn, Int.toNat_zero, Int.toNat_one]
    rw [nat_cast_succ]
    exact ih (i + 1) _ (by omega)
theorem sp_153 {d : Nat} (hd : 1 < d) {L : Nat} {σ : ex_S} {l : Int} (h1 : 0 ≤ l) (h2 : l < 5) (hM : okM (σ 433)) (hP : okP (σ 433)) : ex_cd d 153 [vR 432, vI l] (SH L, σ) = some ([vI (leftN (σ 433) l)], (SH L, σ)) := by
  rw [ex_cd_eq (by omega)]
  show ex_ev (d - 1) 153 0 [vR 432, vI l, vL 0, vL 0] [] (SH L, σ) = _
  obtain ⟨m1, m2⟩ := hM l h1 h2
  simp (disch := first | rfl | assumption | omega) only [ev_153_0, ev_153_2, gf_432_0, ld_433, x_fall, x_goto, x_iadd, x_isub, x_push, x_ret1, xc_152, xl_a0, xl_i1, xl_i2, xl_i3, xn_3, xt_i2, xt_i3, y_cmp_ge_f, y_cmp_ge_t, i_wr_id, Int.reduceToNat, ex_ar_same, ex_ar_diff, ex_u_same, ex_u_diff, b2i_t, b2i_f, ex_div_nn, ex_rem_nn, Int.toNat_zero, Int.toNat_one]
  exact lp_153 (by omega) h1 h2 hM hP _ 0 _ (by omega)
theorem xc_153 {rt d : Nat} {J : Nat → List ex_V → List ex_V → ex_H → Option ex_R} {is : List Instr} {ls st : List ex_V} {L : Nat} {σ : ex_S} {l : Int} (h1 : 0 ≤ l) (h2 : l < 5) (hM : okM (σ 433)) (hP : okP (σ 433)) (hd : 1 < d) (hok : ex_ok st = true) : ex_xs rt J (ex_cd d) (.invokevirtual 153 :: is) ls (vI l :: vR 432 :: st) (SH L, σ) = ex_xs rt J (ex_cd d) is ls (vI (leftN (σ 433) l) :: st) (SH L, σ) := x_call1 (Or.inl rfl) rfl (sh_432 _) (Or.inl ⟨rfl, rfl⟩) (as := [vI l]) rfl rfl hok rfl (sp_153 hd h1 h2 hM hP)
theorem sp_154 {d : Nat} (hd : 2 < d) {L : Nat} {σ : ex_S} {l w : Int} (hn : 0 ≤ σ 433 0) (hn2 : σ 433 0 ≤ 5) (hM : okM (σ 433)) (hP : okP (σ 433)) : ex_cd d 154 [vR 432, vI l, vI w] (SH L, σ) = some ([vI (if (0 ≤ l ∧ l < σ 433 0) ∧ 0 ≤ w ∧ w ≤ 7 then (if w = 4 then σ 433 (46 + l) else if w = 5 then leftN (σ 433) l else if w = 6 then σ 433 (41 + l) else if w = 7 then σ 433 (31 + l) else σ 433 (11 + 5 * w + l)) else -100001)], (SH L, if (0 ≤ l ∧ l < σ 433 0) ∧ 0 ≤ w ∧ w ≤ 7 then σ else fndM σ)) := by
  rw [ex_cd_eq (by omega)]
  show ex_ev (d - 1) 154 0 [vR 432, vI l, vI w] [] (SH L, σ) = _
  by_cases h1 : 0 ≤ l ∧ l < σ 433 0
  · by_cases h2 : 0 ≤ w ∧ w ≤ 7
    · rw [if_pos ⟨h1, h2⟩, if_pos ⟨h1, h2⟩]
      rcases (show w = 0 ∨ w = 1 ∨ w = 2 ∨ w = 3 ∨ w = 4 ∨ w = 5 ∨ w = 6 ∨ w = 7 by omega) with rfl | rfl | rfl | rfl | rfl | rfl | rfl | rfl
      all_goals
        simp (disch := first | rfl | assumption | omega) only [ev_154_0, ev_154_1, ev_154_2, ev_154_3, ev_154_4, ev_154_5, ev_154_6, ev_154_7, gf_432_0, ld_433, x_fall, x_iadd, x_imul, x_push, x_ret1, x_tab, xc_142, xc_143, xc_144, xc_153, xl_a0, xl_i1, xl_i2, y_if_eq_f, y_if_eq_t, y_if_ne_f, y_if_ne_t, i_wr_id, Int.reduceToNat, ex_ar_same, ex_ar_diff, ex_u_same, ex_u_diff, b2i_t, b2i_f, ex_div_nn, ex_rem_nn, Int.toNat_zero, Int.toNat_one]
        trace_state
        sorry
    · rw [if_neg (by omega), if_neg (by omega)]
      simp (disch := first | rfl | assumption | omega) only [ev_154_0, ev_154_1, ev_154_2, ev_154_3, ev_154_4, ev_154_5, ev_154_6, ev_154_7, gf_432_0, ld_433, x_fall, x_iadd, x_imul, x_push, x_ret1, x_tab, xc_142, xc_143, xc_144, xc_153, xl_a0, xl_i1, xl_i2, y_if_eq_f, y_if_eq_t, y_if_ne_f, y_if_ne_t, i_wr_id, Int.reduceToNat, ex_ar_same, ex_ar_diff, ex_u_same, ex_u_diff, b2i_t, b2i_f, ex_div_nn, ex_rem_nn, Int.toNat_zero, Int.toNat_one]
  · rw [if_neg (by omega), if_neg (by omega)]
    simp (disch := first | rfl | assumption | omega) only [ev_154_0, ev_154_1, ev_154_2, ev_154_3, ev_154_4, ev_154_5, ev_154_6, ev_154_7, gf_432_0, ld_433, x_fall, x_iadd, x_imul, x_push, x_ret1, x_tab, xc_142, xc_143, xc_144, xc_153, xl_a0, xl_i1, xl_i2, y_if_eq_f, y_if_eq_t, y_if_ne_f, y_if_ne_t, i_wr_id, Int.reduceToNat, ex_ar_same, ex_ar_diff, ex_u_same, ex_u_diff, b2i_t, b2i_f, ex_div_nn, ex_rem_nn, Int.toNat_zero, Int.toNat_one]
theorem xc_154 {rt d : Nat} {J : Nat → List ex_V → List ex_V → ex_H → Option ex_R} {is : List Instr} {ls st : List ex_V} {L : Nat} {σ : ex_S} {l w : Int} (hn : 0 ≤ σ 433 0) (hn2 : σ 433 0 ≤ 5) (hM : okM (σ 433)) (hP : okP (σ 433)) (hd : 2 < d) (hok : ex_ok st = true) : ex_xs rt J (ex_cd d) (.invokevirtual 154 :: is) ls (vI w :: vI l :: vR 432 :: st) (SH L, σ) = ex_xs rt J (ex_cd d) is ls (vI (if (0 ≤ l ∧ l < σ 433 0) ∧ 0 ≤ w ∧ w ≤ 7 then (if w = 4 then σ 433 (46 + l) else if w = 5 then leftN (σ 433) l else if w = 6 then σ 433 (41 + l) else if w = 7 then σ 433 (31 + l) else σ 433 (11 + 5 * w + l)) else -100001) :: st) (SH L, if (0 ≤ l ∧ l < σ 433 0) ∧ 0 ≤ w ∧ w ≤ 7 then σ else fndM σ) := x_call1 (Or.inl rfl) rfl (sh_432 _) (Or.inl ⟨rfl, rfl⟩) (as := [vI l, vI w]) rfl rfl hok rfl (sp_154 hd hn hn2 hM hP)
