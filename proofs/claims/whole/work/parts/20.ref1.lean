/-! the reference, method by method: what it answers and does, in words of its rows (now = σ 433) -/
theorem sp_143 {d : Nat} (hd : 0 < d) {h : ex_H} {v a b : Int} : ex_cd d 143 [vI v, vI a, vI b] (h) = some ([vI (b2i (a ≤ v ∧ v ≤ b))], (h)) := by
  rw [ex_cd_eq (by omega)]
  show ex_ev (d - 1) 143 0 [vI v, vI a, vI b] [] (h) = _
  by_cases h1 : v < a
  · simp (disch := first | assumption | omega | (repeat' first | exact ok_nil | apply ok_I | apply ok_R)) only [ev_143_0, ev_143_1, ev_143_2, x_fall, x_goto, x_push, x_ret2, x_ret2b, xl_i0, xl_i1, xl_i2, y_cmp_gt_f, y_cmp_gt_t, y_cmp_lt_f, y_cmp_lt_t, i_wr_id, Int.reduceToNat, ex_ar_same, ex_ar_ar, ex_ar_diff, ex_u_same, ex_u_diff, b2i_t, b2i_f, ex_div_nn, ex_rem_nn, Int.toNat_zero, Int.toNat_one]
  · by_cases h2 : b < v
    · simp (disch := first | assumption | omega | (repeat' first | exact ok_nil | apply ok_I | apply ok_R)) only [ev_143_0, ev_143_1, ev_143_2, x_fall, x_goto, x_push, x_ret2, x_ret2b, xl_i0, xl_i1, xl_i2, y_cmp_gt_f, y_cmp_gt_t, y_cmp_lt_f, y_cmp_lt_t, i_wr_id, Int.reduceToNat, ex_ar_same, ex_ar_ar, ex_ar_diff, ex_u_same, ex_u_diff, b2i_t, b2i_f, ex_div_nn, ex_rem_nn, Int.toNat_zero, Int.toNat_one]
    · simp (disch := first | assumption | omega | (repeat' first | exact ok_nil | apply ok_I | apply ok_R)) only [ev_143_0, ev_143_1, ev_143_2, x_fall, x_goto, x_push, x_ret2, x_ret2b, xl_i0, xl_i1, xl_i2, y_cmp_gt_f, y_cmp_gt_t, y_cmp_lt_f, y_cmp_lt_t, i_wr_id, Int.reduceToNat, ex_ar_same, ex_ar_ar, ex_ar_diff, ex_u_same, ex_u_diff, b2i_t, b2i_f, ex_div_nn, ex_rem_nn, Int.toNat_zero, Int.toNat_one]
theorem xc_143 {rt d : Nat} {J : Nat → List ex_V → List ex_V → ex_H → Option ex_R} {is : List Instr} {ls st : List ex_V} {h : ex_H} {v a b : Int} (hd : 0 < d) (hok : okN 8 st = true) : ex_xs rt J (ex_cd d) (.invokestatic 143 :: is) ls (vI b :: vI a :: vI v :: st) (h) = ex_xs rt J (ex_cd d) is ls (vI (b2i (a ≤ v ∧ v ≤ b)) :: st) (h) := x_call0 (as := [vI v, vI a, vI b]) rfl rfl rfl (okN_ok hok) rfl (sp_143 hd )
def fndM (σ : ex_S) : ex_S := ex_ar σ 432 (ex_u (σ 432) 3 (ex_wr (σ 432 3 + 1)))
theorem sp_142 {d : Nat} (hd : 0 < d) {L : Nat} {σ : ex_S} {w : Int} : ex_cd d 142 [vR 432, vI w] (SH L, σ) = some ([vI w], (SH L, fndM σ)) := by
  rw [ex_cd_eq (by omega)]
  show ex_ev (d - 1) 142 0 [vR 432, vI w] [] (SH L, σ) = _
  simp (disch := first | assumption | omega | (repeat' first | exact ok_nil | apply ok_I | apply ok_R)) only [ev_142_0, gf_432_3, pf_432_3, x_dupI, x_dupR, x_iadd, x_push, x_ret1, xl_a0, xl_i1, Int.reduceToNat, ex_ar_same, ex_ar_ar, ex_ar_diff, ex_u_same, ex_u_diff, b2i_t, b2i_f, ex_div_nn, ex_rem_nn, Int.toNat_zero, Int.toNat_one]
  rfl
theorem xc_142 {rt d : Nat} {J : Nat → List ex_V → List ex_V → ex_H → Option ex_R} {is : List Instr} {ls st : List ex_V} {L : Nat} {σ : ex_S} {w : Int} (hd : 0 < d) (hok : okN 8 st = true) : ex_xs rt J (ex_cd d) (.invokevirtual 142 :: is) ls (vI w :: vR 432 :: st) (SH L, σ) = ex_xs rt J (ex_cd d) is ls (vI w :: st) (SH L, fndM σ) := x_call1 (Or.inl rfl) rfl (sh_432 _) (Or.inl ⟨rfl, rfl⟩) (as := [vI w]) rfl rfl (okN_ok hok) rfl (sp_142 hd )
theorem sp_144 {d : Nat} (hd : 1 < d) {L : Nat} {σ : ex_S} {l : Int} (hn : 0 ≤ σ 433 0) (hn2 : σ 433 0 ≤ 5) : ex_cd d 144 [vR 432, vI l] (SH L, σ) = some ([vI (b2i (0 ≤ l ∧ l < σ 433 0))], (SH L, σ)) := by
  rw [ex_cd_eq (by omega)]
  show ex_ev (d - 1) 144 0 [vR 432, vI l] [] (SH L, σ) = _
  simp (disch := first | assumption | omega | (repeat' first | exact ok_nil | apply ok_I | apply ok_R)) only [ev_144_0, gf_432_0, ld_433, x_isub, x_push, x_ret2, x_ret2b, xc_143, xl_a0, xl_i1, i_wr_id, Int.reduceToNat, ex_ar_same, ex_ar_ar, ex_ar_diff, ex_u_same, ex_u_diff, ex_div_nn, ex_rem_nn, Int.toNat_zero, Int.toNat_one]
  rw [b2i_iff (show (0 ≤ l ∧ l ≤ σ 433 0 - 1) ↔ (0 ≤ l ∧ l < σ 433 0) by omega)]
theorem xc_144 {rt d : Nat} {J : Nat → List ex_V → List ex_V → ex_H → Option ex_R} {is : List Instr} {ls st : List ex_V} {L : Nat} {σ : ex_S} {l : Int} (hn : 0 ≤ σ 433 0) (hn2 : σ 433 0 ≤ 5) (hd : 1 < d) (hok : okN 8 st = true) : ex_xs rt J (ex_cd d) (.invokevirtual 144 :: is) ls (vI l :: vR 432 :: st) (SH L, σ) = ex_xs rt J (ex_cd d) is ls (vI (b2i (0 ≤ l ∧ l < σ 433 0)) :: st) (SH L, σ) := x_call1 (Or.inl rfl) rfl (sh_432 _) (Or.inl ⟨rfl, rfl⟩) (as := [vI l]) rfl rfl (okN_ok hok) rfl (sp_144 hd hn hn2)
theorem sp_145 {d : Nat} (hd : 1 < d) {L : Nat} {σ : ex_S} {l : Int} (hn : 0 ≤ σ 433 1) (hn2 : σ 433 1 ≤ 8) : ex_cd d 145 [vR 432, vI l] (SH L, σ) = some ([vI (b2i (0 ≤ l ∧ l < σ 433 1))], (SH L, σ)) := by
  rw [ex_cd_eq (by omega)]
  show ex_ev (d - 1) 145 0 [vR 432, vI l] [] (SH L, σ) = _
  simp (disch := first | assumption | omega | (repeat' first | exact ok_nil | apply ok_I | apply ok_R)) only [ev_145_0, gf_432_0, ld_433, x_isub, x_push, x_ret2, x_ret2b, xc_143, xl_a0, xl_i1, i_wr_id, Int.reduceToNat, ex_ar_same, ex_ar_ar, ex_ar_diff, ex_u_same, ex_u_diff, ex_div_nn, ex_rem_nn, Int.toNat_zero, Int.toNat_one]
  rw [b2i_iff (show (0 ≤ l ∧ l ≤ σ 433 1 - 1) ↔ (0 ≤ l ∧ l < σ 433 1) by omega)]
theorem xc_145 {rt d : Nat} {J : Nat → List ex_V → List ex_V → ex_H → Option ex_R} {is : List Instr} {ls st : List ex_V} {L : Nat} {σ : ex_S} {l : Int} (hn : 0 ≤ σ 433 1) (hn2 : σ 433 1 ≤ 8) (hd : 1 < d) (hok : okN 8 st = true) : ex_xs rt J (ex_cd d) (.invokevirtual 145 :: is) ls (vI l :: vR 432 :: st) (SH L, σ) = ex_xs rt J (ex_cd d) is ls (vI (b2i (0 ≤ l ∧ l < σ 433 1)) :: st) (SH L, σ) := x_call1 (Or.inl rfl) rfl (sh_432 _) (Or.inl ⟨rfl, rfl⟩) (as := [vI l]) rfl rfl (okN_ok hok) rfl (sp_145 hd hn hn2)
theorem sp_146 {d : Nat} (hd : 1 < d) {h : ex_H} {v : Int} : ex_cd d 146 [vI v] (h) = some ([vI (b2i (0 ≤ v ∧ v ≤ 23))], (h)) := by
  rw [ex_cd_eq (by omega)]
  show ex_ev (d - 1) 146 0 [vI v] [] (h) = _
  simp (disch := first | assumption | omega | (repeat' first | exact ok_nil | apply ok_I | apply ok_R)) only [ev_146_0, x_push, x_ret2, x_ret2b, xc_143, xl_i0, i_wr_id, Int.reduceToNat, ex_ar_same, ex_ar_ar, ex_ar_diff, ex_u_same, ex_u_diff, ex_div_nn, ex_rem_nn, Int.toNat_zero, Int.toNat_one]
theorem xc_146 {rt d : Nat} {J : Nat → List ex_V → List ex_V → ex_H → Option ex_R} {is : List Instr} {ls st : List ex_V} {h : ex_H} {v : Int} (hd : 1 < d) (hok : okN 8 st = true) : ex_xs rt J (ex_cd d) (.invokestatic 146 :: is) ls (vI v :: st) (h) = ex_xs rt J (ex_cd d) is ls (vI (b2i (0 ≤ v ∧ v ≤ 23)) :: st) (h) := x_call0 (as := [vI v]) rfl rfl rfl (okN_ok hok) rfl (sp_146 hd )
theorem sp_230 {d : Nat} (hd : 1 < d) {h : ex_H} {v : Int} : ex_cd d 230 [vI v] (h) = some ([vI (b2i (0 ≤ v ∧ v ≤ 3))], (h)) := by
  rw [ex_cd_eq (by omega)]
  show ex_ev (d - 1) 230 0 [vI v] [] (h) = _
  simp (disch := first | assumption | omega | (repeat' first | exact ok_nil | apply ok_I | apply ok_R)) only [ev_230_0, x_push, x_ret2, x_ret2b, xc_143, xl_i0, i_wr_id, Int.reduceToNat, ex_ar_same, ex_ar_ar, ex_ar_diff, ex_u_same, ex_u_diff, ex_div_nn, ex_rem_nn, Int.toNat_zero, Int.toNat_one]
theorem xc_230 {rt d : Nat} {J : Nat → List ex_V → List ex_V → ex_H → Option ex_R} {is : List Instr} {ls st : List ex_V} {h : ex_H} {v : Int} (hd : 1 < d) (hok : okN 8 st = true) : ex_xs rt J (ex_cd d) (.invokestatic 230 :: is) ls (vI v :: st) (h) = ex_xs rt J (ex_cd d) is ls (vI (b2i (0 ≤ v ∧ v ≤ 3)) :: st) (h) := x_call0 (as := [vI v]) rfl rfl rfl (okN_ok hok) rfl (sp_230 hd )
theorem sp_150 {d : Nat} (hd : 0 < d) {L : Nat} {σ : ex_S} {l : Int} (h1 : 0 ≤ l) (h2 : l < 5) : ex_cd d 150 [vR 432, vI l] (SH L, σ) = some ([vI (b2i (σ 433 (11 + l) = 1 ∨ σ 433 (11 + l) = 3))], (SH L, σ)) := by
  rw [ex_cd_eq (by omega)]
  show ex_ev (d - 1) 150 0 [vR 432, vI l] [] (SH L, σ) = _
  by_cases h3 : σ 433 (11 + l) = 1
  · simp (disch := first | assumption | omega | (repeat' first | exact ok_nil | apply ok_I | apply ok_R)) only [ev_150_0, ev_150_1, ev_150_2, ev_150_3, gf_432_0, ld_433, x_fall, x_goto, x_iadd, x_push, x_ret2, x_ret2b, xl_a0, xl_i1, y_cmp_eq_f, y_cmp_eq_t, y_cmp_ne_f, y_cmp_ne_t, i_wr_id, Int.reduceToNat, ex_ar_same, ex_ar_ar, ex_ar_diff, ex_u_same, ex_u_diff, b2i_t, b2i_f, ex_div_nn, ex_rem_nn, Int.toNat_zero, Int.toNat_one]
  · by_cases h4 : σ 433 (11 + l) = 3
    · simp (disch := first | assumption | omega | (repeat' first | exact ok_nil | apply ok_I | apply ok_R)) only [ev_150_0, ev_150_1, ev_150_2, ev_150_3, gf_432_0, ld_433, x_fall, x_goto, x_iadd, x_push, x_ret2, x_ret2b, xl_a0, xl_i1, y_cmp_eq_f, y_cmp_eq_t, y_cmp_ne_f, y_cmp_ne_t, i_wr_id, Int.reduceToNat, ex_ar_same, ex_ar_ar, ex_ar_diff, ex_u_same, ex_u_diff, b2i_t, b2i_f, ex_div_nn, ex_rem_nn, Int.toNat_zero, Int.toNat_one]
    · simp (disch := first | assumption | omega | (repeat' first | exact ok_nil | apply ok_I | apply ok_R)) only [ev_150_0, ev_150_1, ev_150_2, ev_150_3, gf_432_0, ld_433, x_fall, x_goto, x_iadd, x_push, x_ret2, x_ret2b, xl_a0, xl_i1, y_cmp_eq_f, y_cmp_eq_t, y_cmp_ne_f, y_cmp_ne_t, i_wr_id, Int.reduceToNat, ex_ar_same, ex_ar_ar, ex_ar_diff, ex_u_same, ex_u_diff, b2i_t, b2i_f, ex_div_nn, ex_rem_nn, Int.toNat_zero, Int.toNat_one]
theorem xc_150 {rt d : Nat} {J : Nat → List ex_V → List ex_V → ex_H → Option ex_R} {is : List Instr} {ls st : List ex_V} {L : Nat} {σ : ex_S} {l : Int} (h1 : 0 ≤ l) (h2 : l < 5) (hd : 0 < d) (hok : okN 8 st = true) : ex_xs rt J (ex_cd d) (.invokevirtual 150 :: is) ls (vI l :: vR 432 :: st) (SH L, σ) = ex_xs rt J (ex_cd d) is ls (vI (b2i (σ 433 (11 + l) = 1 ∨ σ 433 (11 + l) = 3)) :: st) (SH L, σ) := x_call1 (Or.inl rfl) rfl (sh_432 _) (Or.inl ⟨rfl, rfl⟩) (as := [vI l]) rfl rfl (okN_ok hok) rfl (sp_150 hd h1 h2)
theorem sp_152 {d : Nat} (hd : 0 < d) {L : Nat} {σ : ex_S} {l i : Int} (h1 : 0 ≤ l) (h2 : l < 5) (h3 : 0 ≤ i) (h4 : i < 8) : ex_cd d 152 [vR 432, vI l, vI i] (SH L, σ) = some ([vI (σ 433 (51 + 8 * l + i))], (SH L, σ)) := by
  rw [ex_cd_eq (by omega)]
  show ex_ev (d - 1) 152 0 [vR 432, vI l, vI i] [] (SH L, σ) = _
  simp (disch := first | assumption | omega | (repeat' first | exact ok_nil | apply ok_I | apply ok_R)) only [ev_152_0, gf_432_0, ld_433, x_iadd, x_imul, x_push, x_ret1, xl_a0, xl_i1, xl_i2, i_wr_id, Int.reduceToNat, ex_ar_same, ex_ar_ar, ex_ar_diff, ex_u_same, ex_u_diff, b2i_t, b2i_f, ex_div_nn, ex_rem_nn, Int.toNat_zero, Int.toNat_one]
theorem xc_152 {rt d : Nat} {J : Nat → List ex_V → List ex_V → ex_H → Option ex_R} {is : List Instr} {ls st : List ex_V} {L : Nat} {σ : ex_S} {l i : Int} (h1 : 0 ≤ l) (h2 : l < 5) (h3 : 0 ≤ i) (h4 : i < 8) (hd : 0 < d) (hok : okN 8 st = true) : ex_xs rt J (ex_cd d) (.invokevirtual 152 :: is) ls (vI i :: vI l :: vR 432 :: st) (SH L, σ) = ex_xs rt J (ex_cd d) is ls (vI (σ 433 (51 + 8 * l + i)) :: st) (SH L, σ) := x_call1 (Or.inl rfl) rfl (sh_432 _) (Or.inl ⟨rfl, rfl⟩) (as := [vI l, vI i]) rfl rfl (okN_ok hok) rfl (sp_152 hd h1 h2 h3 h4)
/-- the places hold cars -/
def okP (n : Int → Int) : Prop := ∀ l i : Int, 0 ≤ l → l < 5 → 0 ≤ i → i < n (46 + l) → 0 ≤ n (51 + 8 * l + i) ∧ n (51 + 8 * l + i) < 8
def okM (n : Int → Int) : Prop := ∀ l : Int, 0 ≤ l → l < 5 → 0 ≤ n (46 + l) ∧ n (46 + l) ≤ 8
def leftN (n : Int → Int) (l : Int) : Int := itr (fun i a => ex_wr (a - n (91 + n (51 + 8 * l + (i : Int))))) 0 (n (46 + l)).toNat (n (16 + l))
theorem lp_153 {d L : Nat} {σ : ex_S} {l : Int} (hd : 0 < d) (h1 : 0 ≤ l) (h2 : l < 5) (hM : okM (σ 433)) (hP : okP (σ 433)) : ∀ (j i : Nat) (a : Int), i + j = (σ 433 (46 + l)).toNat → ex_ev d 153 1 [vR 432, vI l, vI a, vI (i : Int)] [] (SH L, σ) = some ([vI (itr (fun i a => ex_wr (a - σ 433 (91 + σ 433 (51 + 8 * l + (i : Int))))) i j a)], (SH L, σ)) := by
  obtain ⟨m1, m2⟩ := hM l h1 h2
  intro j
  induction j with
  | zero =>
    intro i a hij
    rw [ev_153_1]
    simp (disch := first | assumption | omega | (repeat' first | exact ok_nil | apply ok_I | apply ok_R)) only [ev_153_0, ev_153_2, gf_432_0, ld_433, x_fall, x_goto, x_iadd, x_isub, x_push, x_ret1, xc_152, xl_a0, xl_i1, xl_i2, xl_i3, xn_3, xt_i2, xt_i3, y_cmp_ge_f, y_cmp_ge_t, i_wr_id, Int.reduceToNat, ex_ar_same, ex_ar_ar, ex_ar_diff, ex_u_same, ex_u_diff, b2i_t, b2i_f, ex_div_nn, ex_rem_nn, Int.toNat_zero, Int.toNat_one]
    rfl
  | succ j ih =>
    intro i a hij
    obtain ⟨p1, p2⟩ := hP l i h1 h2 (by omega) (by omega)
    rw [ev_153_1]
    simp (disch := first | assumption | omega | (repeat' first | exact ok_nil | apply ok_I | apply ok_R)) only [ev_153_0, ev_153_2, gf_432_0, ld_433, x_fall, x_goto, x_iadd, x_isub, x_push, x_ret1, xc_152, xl_a0, xl_i1, xl_i2, xl_i3, xn_3, xt_i2, xt_i3, y_cmp_ge_f, y_cmp_ge_t, i_wr_id, Int.reduceToNat, ex_ar_same, ex_ar_ar, ex_ar_diff, ex_u_same, ex_u_diff, b2i_t, b2i_f, ex_div_nn, ex_rem_nn, Int.toNat_zero, Int.toNat_one]
    rw [nat_cast_succ]
    exact ih (i + 1) _ (by omega)
theorem sp_153 {d : Nat} (hd : 1 < d) {L : Nat} {σ : ex_S} {l : Int} (h1 : 0 ≤ l) (h2 : l < 5) (hM : okM (σ 433)) (hP : okP (σ 433)) : ex_cd d 153 [vR 432, vI l] (SH L, σ) = some ([vI (leftN (σ 433) l)], (SH L, σ)) := by
  rw [ex_cd_eq (by omega)]
  show ex_ev (d - 1) 153 0 [vR 432, vI l, vL 0, vL 0] [] (SH L, σ) = _
  obtain ⟨m1, m2⟩ := hM l h1 h2
  simp (disch := first | assumption | omega | (repeat' first | exact ok_nil | apply ok_I | apply ok_R)) only [ev_153_0, ev_153_2, gf_432_0, ld_433, x_fall, x_goto, x_iadd, x_isub, x_push, x_ret1, xc_152, xl_a0, xl_i1, xl_i2, xl_i3, xn_3, xt_i2, xt_i3, y_cmp_ge_f, y_cmp_ge_t, i_wr_id, Int.reduceToNat, ex_ar_same, ex_ar_ar, ex_ar_diff, ex_u_same, ex_u_diff, b2i_t, b2i_f, ex_div_nn, ex_rem_nn, Int.toNat_zero, Int.toNat_one]
  exact lp_153 (by omega) h1 h2 hM hP _ 0 _ (by omega)
theorem xc_153 {rt d : Nat} {J : Nat → List ex_V → List ex_V → ex_H → Option ex_R} {is : List Instr} {ls st : List ex_V} {L : Nat} {σ : ex_S} {l : Int} (h1 : 0 ≤ l) (h2 : l < 5) (hM : okM (σ 433)) (hP : okP (σ 433)) (hd : 1 < d) (hok : okN 8 st = true) : ex_xs rt J (ex_cd d) (.invokevirtual 153 :: is) ls (vI l :: vR 432 :: st) (SH L, σ) = ex_xs rt J (ex_cd d) is ls (vI (leftN (σ 433) l) :: st) (SH L, σ) := x_call1 (Or.inl rfl) rfl (sh_432 _) (Or.inl ⟨rfl, rfl⟩) (as := [vI l]) rfl rfl (okN_ok hok) rfl (sp_153 hd h1 h2 hM hP)
theorem sp_154 {d : Nat} (hd : 2 < d) {L : Nat} {σ : ex_S} {l w : Int} (hn : 0 ≤ σ 433 0) (hn2 : σ 433 0 ≤ 5) (hM : okM (σ 433)) (hP : okP (σ 433)) : ex_cd d 154 [vR 432, vI l, vI w] (SH L, σ) = some ([vI (if (0 ≤ l ∧ l < σ 433 0) ∧ 0 ≤ w ∧ w ≤ 7 then (if w = 4 then σ 433 (46 + l) else if w = 5 then leftN (σ 433) l else if w = 6 then σ 433 (41 + l) else if w = 7 then σ 433 (31 + l) else σ 433 (11 + 5 * w + l)) else -100001)], (SH L, if (0 ≤ l ∧ l < σ 433 0) ∧ 0 ≤ w ∧ w ≤ 7 then σ else fndM σ)) := by
  rw [ex_cd_eq (by omega)]
  show ex_ev (d - 1) 154 0 [vR 432, vI l, vI w] [] (SH L, σ) = _
  by_cases h1 : 0 ≤ l ∧ l < σ 433 0
  · by_cases h2 : 0 ≤ w ∧ w ≤ 7
    · simp only [if_pos (show (0 ≤ l ∧ l < σ 433 0) ∧ 0 ≤ w ∧ w ≤ 7 from ⟨h1, h2⟩)]
      by_cases h3 : w < 4
      · simp (disch := first | assumption | omega | (repeat' first | exact ok_nil | apply ok_I | apply ok_R)) only [ev_154_0, ev_154_1, ev_154_2, ev_154_3, ev_154_4, ev_154_5, ev_154_6, ev_154_7, gf_432_0, ld_433, x_fall, x_iadd, x_imul, x_push, x_ret1, x_tab, xc_142, xc_143, xc_144, xc_153, xl_a0, xl_i1, xl_i2, y_if_eq_f, y_if_eq_t, y_if_ne_f, y_if_ne_t, i_wr_id, Int.reduceToNat, ex_ar_same, ex_ar_ar, ex_ar_diff, ex_u_same, ex_u_diff, b2i_t, b2i_f, ex_div_nn, ex_rem_nn, Int.toNat_zero, Int.toNat_one]
        rw [if_pos (Or.inl h3)]
        rw [if_neg (by omega), if_neg (by omega), if_neg (by omega), if_neg (by omega)]
      · rcases (show w = 4 ∨ w = 5 ∨ w = 6 ∨ w = 7 by omega) with rfl | rfl | rfl | rfl
        all_goals
          simp (disch := first | assumption | omega | (repeat' first | exact ok_nil | apply ok_I | apply ok_R)) only [ev_154_0, ev_154_1, ev_154_2, ev_154_3, ev_154_4, ev_154_5, ev_154_6, ev_154_7, gf_432_0, ld_433, x_fall, x_iadd, x_imul, x_push, x_ret1, x_tab, xc_142, xc_143, xc_144, xc_153, xl_a0, xl_i1, xl_i2, y_if_eq_f, y_if_eq_t, y_if_ne_f, y_if_ne_t, i_wr_id, Int.reduceToNat, ex_ar_same, ex_ar_ar, ex_ar_diff, ex_u_same, ex_u_diff, b2i_t, b2i_f, ex_div_nn, ex_rem_nn, Int.toNat_zero, Int.toNat_one]
          simp
          simp (disch := first | assumption | omega | (repeat' first | exact ok_nil | apply ok_I | apply ok_R)) only [ev_154_0, ev_154_1, ev_154_2, ev_154_3, ev_154_4, ev_154_5, ev_154_6, ev_154_7, gf_432_0, ld_433, x_fall, x_iadd, x_imul, x_push, x_ret1, x_tab, xc_142, xc_143, xc_144, xc_153, xl_a0, xl_i1, xl_i2, y_if_eq_f, y_if_eq_t, y_if_ne_f, y_if_ne_t, i_wr_id, Int.reduceToNat, ex_ar_same, ex_ar_ar, ex_ar_diff, ex_u_same, ex_u_diff, b2i_t, b2i_f, ex_div_nn, ex_rem_nn, Int.toNat_zero, Int.toNat_one]
    · simp only [if_neg (show ¬ ((0 ≤ l ∧ l < σ 433 0) ∧ 0 ≤ w ∧ w ≤ 7) by omega)]
      simp (disch := first | assumption | omega | (repeat' first | exact ok_nil | apply ok_I | apply ok_R)) only [ev_154_0, ev_154_1, ev_154_2, ev_154_3, ev_154_4, ev_154_5, ev_154_6, ev_154_7, gf_432_0, ld_433, x_fall, x_iadd, x_imul, x_push, x_ret1, x_tab, xc_142, xc_143, xc_144, xc_153, xl_a0, xl_i1, xl_i2, y_if_eq_f, y_if_eq_t, y_if_ne_f, y_if_ne_t, i_wr_id, Int.reduceToNat, ex_ar_same, ex_ar_ar, ex_ar_diff, ex_u_same, ex_u_diff, b2i_t, b2i_f, ex_div_nn, ex_rem_nn, Int.toNat_zero, Int.toNat_one]
  · simp only [if_neg (show ¬ ((0 ≤ l ∧ l < σ 433 0) ∧ 0 ≤ w ∧ w ≤ 7) by omega)]
    simp (disch := first | assumption | omega | (repeat' first | exact ok_nil | apply ok_I | apply ok_R)) only [ev_154_0, ev_154_1, ev_154_2, ev_154_3, ev_154_4, ev_154_5, ev_154_6, ev_154_7, gf_432_0, ld_433, x_fall, x_iadd, x_imul, x_push, x_ret1, x_tab, xc_142, xc_143, xc_144, xc_153, xl_a0, xl_i1, xl_i2, y_if_eq_f, y_if_eq_t, y_if_ne_f, y_if_ne_t, i_wr_id, Int.reduceToNat, ex_ar_same, ex_ar_ar, ex_ar_diff, ex_u_same, ex_u_diff, b2i_t, b2i_f, ex_div_nn, ex_rem_nn, Int.toNat_zero, Int.toNat_one]
theorem xc_154 {rt d : Nat} {J : Nat → List ex_V → List ex_V → ex_H → Option ex_R} {is : List Instr} {ls st : List ex_V} {L : Nat} {σ : ex_S} {l w : Int} (hn : 0 ≤ σ 433 0) (hn2 : σ 433 0 ≤ 5) (hM : okM (σ 433)) (hP : okP (σ 433)) (hd : 2 < d) (hok : okN 8 st = true) : ex_xs rt J (ex_cd d) (.invokevirtual 154 :: is) ls (vI w :: vI l :: vR 432 :: st) (SH L, σ) = ex_xs rt J (ex_cd d) is ls (vI (if (0 ≤ l ∧ l < σ 433 0) ∧ 0 ≤ w ∧ w ≤ 7 then (if w = 4 then σ 433 (46 + l) else if w = 5 then leftN (σ 433) l else if w = 6 then σ 433 (41 + l) else if w = 7 then σ 433 (31 + l) else σ 433 (11 + 5 * w + l)) else -100001) :: st) (SH L, if (0 ≤ l ∧ l < σ 433 0) ∧ 0 ≤ w ∧ w ≤ 7 then σ else fndM σ) := x_call1 (Or.inl rfl) rfl (sh_432 _) (Or.inl ⟨rfl, rfl⟩) (as := [vI l, vI w]) rfl rfl (okN_ok hok) rfl (sp_154 hd hn hn2 hM hP)

def isLn (n : Int → Int) (l : Int) : Prop := 0 ≤ l ∧ l < n 0
/-- where a car stands: 8 times the lane, and the place; -1: out -/
def sI (n : Int → Int) (c l : Int) : Nat → Nat → Int
  | _, 0 => -1
  | i, j + 1 => if n (51 + 8 * l + (i : Int)) = c then 8 * l + (i : Int) else sI n c l (i + 1) j
def sO (n : Int → Int) (c : Int) : Nat → Nat → Int
  | _, 0 => -1
  | l, j + 1 => if sI n c (l : Int) 0 (n (46 + (l : Int))).toNat < 0 then sO n c (l + 1) j else sI n c (l : Int) 0 (n (46 + (l : Int))).toNat
def standN (n : Int → Int) (c : Int) : Int := sO n c 0 (n 0).toNat
theorem sI_lo (n : Int → Int) (c l : Int) (hl : 0 ≤ l) : ∀ (j i : Nat), sI n c l i j = -1 ∨ (∃ k : Nat, i ≤ k ∧ k < i + j ∧ n (51 + 8 * l + (k : Int)) = c ∧ sI n c l i j = 8 * l + (k : Int))
  | 0, i => Or.inl rfl
  | j + 1, i => by
    rw [sI]
    by_cases h : n (51 + 8 * l + (i : Int)) = c
    · rw [if_pos h]
      exact Or.inr ⟨i, by omega, by omega, h, rfl⟩
    · rw [if_neg h]
      rcases sI_lo n c l hl j (i + 1) with h1 | ⟨k, h1, h2, h3, h4⟩
      · exact Or.inl h1
      · exact Or.inr ⟨k, by omega, by omega, h3, h4⟩
theorem li_157 {d L : Nat} {σ : ex_S} {c : Int} (hd : 0 < d) (l : Nat) (hl : l < 5) (hM : okM (σ 433)) : ∀ (j i : Nat), i + j = (σ 433 (46 + (l : Int))).toNat → ∃ w : ex_V, ex_ev d 157 2 [vR 432, vI c, vI (l : Int), vI (i : Int)] [] (SH L, σ) = if sI (σ 433) c (l : Int) i j < 0 then ex_ev d 157 1 [vR 432, vI c, vI ((l + 1 : Nat) : Int), w] [] (SH L, σ) else some ([vI (sI (σ 433) c (l : Int) i j)], (SH L, σ)) := by
  obtain ⟨m1, m2⟩ := hM l (by omega) (by omega)
  intro j
  induction j with
  | zero =>
    intro i hij
    refine ⟨vI (i : Int), ?_⟩
    rw [ev_157_2]
    simp (disch := first | assumption | omega | (repeat' first | exact ok_nil | apply ok_I | apply ok_R)) only [ev_157_0, ev_157_3, ev_157_4, ev_157_5, gf_432_0, ld_433, x_fall, x_goto, x_iadd, x_imul, x_push, x_ret1, xc_152, xl_a0, xl_i1, xl_i2, xl_i3, xn_2, xn_3, xt_i2, xt_i3, y_cmp_ge_f, y_cmp_ge_t, y_cmp_ne_f, y_cmp_ne_t, i_wr_id, Int.reduceToNat, ex_ar_same, ex_ar_ar, ex_ar_diff, ex_u_same, ex_u_diff, b2i_t, b2i_f, ex_div_nn, ex_rem_nn, Int.toNat_zero, Int.toNat_one]
    rfl
  | succ j ih =>
    intro i hij
    rw [ev_157_2, sI]
    by_cases hc : σ 433 (51 + 8 * (l : Int) + (i : Int)) = c
    · refine ⟨vI (i : Int), ?_⟩
      simp (disch := first | assumption | omega | (repeat' first | exact ok_nil | apply ok_I | apply ok_R)) only [ev_157_0, ev_157_3, ev_157_4, ev_157_5, gf_432_0, ld_433, x_fall, x_goto, x_iadd, x_imul, x_push, x_ret1, xc_152, xl_a0, xl_i1, xl_i2, xl_i3, xn_2, xn_3, xt_i2, xt_i3, y_cmp_ge_f, y_cmp_ge_t, y_cmp_ne_f, y_cmp_ne_t, i_wr_id, Int.reduceToNat, ex_ar_same, ex_ar_ar, ex_ar_diff, ex_u_same, ex_u_diff, b2i_t, b2i_f, ex_div_nn, ex_rem_nn, Int.toNat_zero, Int.toNat_one]
      rw [if_pos hc, if_neg (by omega)]
    · obtain ⟨w, hw⟩ := ih (i + 1) (by omega)
      refine ⟨w, ?_⟩
      simp (disch := first | assumption | omega | (repeat' first | exact ok_nil | apply ok_I | apply ok_R)) only [ev_157_0, ev_157_3, ev_157_4, ev_157_5, gf_432_0, ld_433, x_fall, x_goto, x_iadd, x_imul, x_push, x_ret1, xc_152, xl_a0, xl_i1, xl_i2, xl_i3, xn_2, xn_3, xt_i2, xt_i3, y_cmp_ge_f, y_cmp_ge_t, y_cmp_ne_f, y_cmp_ne_t, i_wr_id, Int.reduceToNat, ex_ar_same, ex_ar_ar, ex_ar_diff, ex_u_same, ex_u_diff, b2i_t, b2i_f, ex_div_nn, ex_rem_nn, Int.toNat_zero, Int.toNat_one]
      rw [if_neg hc, nat_cast_succ, hw]
theorem lo_157 {d L : Nat} {σ : ex_S} {c : Int} (hd : 0 < d) (hn2 : σ 433 0 ≤ 5) (hM : okM (σ 433)) : ∀ (j l : Nat) (w : ex_V), l + j = (σ 433 0).toNat → ex_ev d 157 1 [vR 432, vI c, vI (l : Int), w] [] (SH L, σ) = some ([vI (sO (σ 433) c l j)], (SH L, σ)) := by
  intro j
  induction j with
  | zero =>
    intro l w hlj
    rw [ev_157_1]
    simp (disch := first | assumption | omega | (repeat' first | exact ok_nil | apply ok_I | apply ok_R)) only [ev_157_0, ev_157_3, ev_157_4, ev_157_5, gf_432_0, ld_433, x_fall, x_goto, x_iadd, x_imul, x_push, x_ret1, xc_152, xl_a0, xl_i1, xl_i2, xl_i3, xn_2, xn_3, xt_i2, xt_i3, y_cmp_ge_f, y_cmp_ge_t, y_cmp_ne_f, y_cmp_ne_t, i_wr_id, Int.reduceToNat, ex_ar_same, ex_ar_ar, ex_ar_diff, ex_u_same, ex_u_diff, b2i_t, b2i_f, ex_div_nn, ex_rem_nn, Int.toNat_zero, Int.toNat_one]
    rfl
  | succ j ih =>
    intro l w hlj
    rw [ev_157_1]
    simp (disch := first | assumption | omega | (repeat' first | exact ok_nil | apply ok_I | apply ok_R)) only [ev_157_0, ev_157_3, ev_157_4, ev_157_5, gf_432_0, ld_433, x_fall, x_goto, x_iadd, x_imul, x_push, x_ret1, xc_152, xl_a0, xl_i1, xl_i2, xl_i3, xn_2, xn_3, xt_i2, xt_i3, y_cmp_ge_f, y_cmp_ge_t, y_cmp_ne_f, y_cmp_ne_t, i_wr_id, Int.reduceToNat, ex_ar_same, ex_ar_ar, ex_ar_diff, ex_u_same, ex_u_diff, b2i_t, b2i_f, ex_div_nn, ex_rem_nn, Int.toNat_zero, Int.toNat_one]
    obtain ⟨w', hw⟩ := li_157 (L := L) (c := c) hd l (by omega) hM (σ 433 (46 + (l : Int))).toNat 0 (by omega)
    have hw0 : ex_ev d 157 2 [vR 432, vI c, vI (l : Int), vI 0] [] (SH L, σ) = _ := hw
    rw [hw0, sO]
    by_cases hs : sI (σ 433) c (l : Int) 0 (σ 433 (46 + (l : Int))).toNat < 0
    · rw [if_pos hs, if_pos hs]
      exact ih (l + 1) w' (by omega)
    · rw [if_neg hs, if_neg hs]
theorem sp_157 {d : Nat} (hd : 1 < d) {L : Nat} {σ : ex_S} {c : Int} (hn : 0 ≤ σ 433 0) (hn2 : σ 433 0 ≤ 5) (hM : okM (σ 433)) : ex_cd d 157 [vR 432, vI c] (SH L, σ) = some ([vI (standN (σ 433) c)], (SH L, σ)) := by
  rw [ex_cd_eq (by omega)]
  show ex_ev (d - 1) 157 0 [vR 432, vI c, vL 0, vL 0] [] (SH L, σ) = _
  simp (disch := first | assumption | omega | (repeat' first | exact ok_nil | apply ok_I | apply ok_R)) only [ev_157_0, ev_157_3, ev_157_4, ev_157_5, gf_432_0, ld_433, x_fall, x_goto, x_iadd, x_imul, x_push, x_ret1, xc_152, xl_a0, xl_i1, xl_i2, xl_i3, xn_2, xn_3, xt_i2, xt_i3, y_cmp_ge_f, y_cmp_ge_t, y_cmp_ne_f, y_cmp_ne_t, i_wr_id, Int.reduceToNat, ex_ar_same, ex_ar_ar, ex_ar_diff, ex_u_same, ex_u_diff, b2i_t, b2i_f, ex_div_nn, ex_rem_nn, Int.toNat_zero, Int.toNat_one]
  exact lo_157 (by omega) hn2 hM _ 0 _ (by omega)
theorem xc_157 {rt d : Nat} {J : Nat → List ex_V → List ex_V → ex_H → Option ex_R} {is : List Instr} {ls st : List ex_V} {L : Nat} {σ : ex_S} {c : Int} (hn : 0 ≤ σ 433 0) (hn2 : σ 433 0 ≤ 5) (hM : okM (σ 433)) (hd : 1 < d) (hok : okN 8 st = true) : ex_xs rt J (ex_cd d) (.invokevirtual 157 :: is) ls (vI c :: vR 432 :: st) (SH L, σ) = ex_xs rt J (ex_cd d) is ls (vI (standN (σ 433) c) :: st) (SH L, σ) := x_call1 (Or.inl rfl) rfl (sh_432 _) (Or.inl ⟨rfl, rfl⟩) (as := [vI c]) rfl rfl (okN_ok hok) rfl (sp_157 hd hn hn2 hM)
theorem sO_lo (n : Int → Int) (c : Int) : ∀ (j l : Nat), sO n c l j = -1 ∨ (∃ k i : Nat, l ≤ k ∧ k < l + j ∧ (i : Int) < n (46 + (k : Int)) ∧ n (51 + 8 * (k : Int) + (i : Int)) = c ∧ sO n c l j = 8 * (k : Int) + (i : Int))
  | 0, l => Or.inl rfl
  | j + 1, l => by
    rw [sO]
    rcases sI_lo n c (l : Int) (by omega) (n (46 + (l : Int))).toNat 0 with h1 | ⟨k, h1, h2, h3, h4⟩
    · rw [if_pos (by omega)]
      rcases sO_lo n c j (l + 1) with h5 | ⟨k, i, h5, h6, h7, h8, h9⟩
      · exact Or.inl h5
      · exact Or.inr ⟨k, i, by omega, by omega, h7, h8, h9⟩
    · rw [if_neg (by omega)]
      exact Or.inr ⟨l, k, by omega, by omega, by omega, h3, h4⟩
theorem stand_lo (n : Int → Int) (c : Int) (hn2 : n 0 ≤ 5) (hM : okM n) : standN n c = -1 ∨ (0 ≤ standN n c ∧ standN n c < 40 ∧ standN n c / 8 < n 0 ∧ standN n c % 8 < n (46 + standN n c / 8) ∧ n (51 + standN n c) = c) := by
  rcases sO_lo n c (n 0).toNat 0 with h | ⟨k, i, h1, h2, h3, h4, h5⟩
  · exact Or.inl h
  · have hm := hM k (by omega) (by omega)
    have e : standN n c = 8 * (k : Int) + (i : Int) := h5
    have e1 : standN n c / 8 = k := by omega
    have e2 : standN n c % 8 = i := by omega
    rw [e1, e2, e]
    exact Or.inr ⟨by omega, by omega, by omega, h3, by rw [← h4]; congr 1; omega⟩
def aheadN (n : Int → Int) (s : Int) : Int := n (46 + s / 8) - 1 - s % 8
theorem sp_158 {d : Nat} (hd : 0 < d) {L : Nat} {σ : ex_S} {s : Int} (h1 : 0 ≤ s) (h2 : s < 40) (hM : okM (σ 433)) : ex_cd d 158 [vR 432, vI s] (SH L, σ) = some ([vI (aheadN (σ 433) s)], (SH L, σ)) := by
  rw [ex_cd_eq (by omega)]
  show ex_ev (d - 1) 158 0 [vR 432, vI s] [] (SH L, σ) = _
  obtain ⟨m1, m2⟩ := hM (s / 8) (by omega) (by omega)
  simp (disch := first | assumption | omega | (repeat' first | exact ok_nil | apply ok_I | apply ok_R)) only [ev_158_0, gf_432_0, ld_433, x_iadd, x_idiv, x_irem, x_isub, x_push, x_ret1, xl_a0, xl_i1, i_wr_id, Int.reduceToNat, ex_ar_same, ex_ar_ar, ex_ar_diff, ex_u_same, ex_u_diff, b2i_t, b2i_f, ex_div_nn, ex_rem_nn, Int.toNat_zero, Int.toNat_one]
  rfl
theorem xc_158 {rt d : Nat} {J : Nat → List ex_V → List ex_V → ex_H → Option ex_R} {is : List Instr} {ls st : List ex_V} {L : Nat} {σ : ex_S} {s : Int} (h1 : 0 ≤ s) (h2 : s < 40) (hM : okM (σ 433)) (hd : 0 < d) (hok : okN 8 st = true) : ex_xs rt J (ex_cd d) (.invokevirtual 158 :: is) ls (vI s :: vR 432 :: st) (SH L, σ) = ex_xs rt J (ex_cd d) is ls (vI (aheadN (σ 433) s) :: st) (SH L, σ) := x_call1 (Or.inl rfl) rfl (sh_432 _) (Or.inl ⟨rfl, rfl⟩) (as := [vI s]) rfl rfl (okN_ok hok) rfl (sp_158 hd h1 h2 hM)
def fitN (n : Int → Int) (c l : Int) : Prop := n (99 + c) ≤ n (21 + l) ∧ n (107 + c) ≤ n (26 + l)
noncomputable def fitI (n : Int → Int) (c l : Int) : Int := by classical exact b2i (fitN n c l)
theorem sp_162 {d : Nat} (hd : 0 < d) {L : Nat} {σ : ex_S} {c l : Int} (h1 : 0 ≤ c) (h2 : c < 8) (h3 : 0 ≤ l) (h4 : l < 5) : ex_cd d 162 [vR 432, vI c, vI l] (SH L, σ) = some ([vI (b2i (σ 433 (99 + c) ≤ σ 433 (21 + l) ∧ σ 433 (107 + c) ≤ σ 433 (26 + l)))], (SH L, σ)) := by
  rw [ex_cd_eq (by omega)]
  show ex_ev (d - 1) 162 0 [vR 432, vI c, vI l] [] (SH L, σ) = _
  by_cases h5 : σ 433 (99 + c) ≤ σ 433 (21 + l)
  · by_cases h6 : σ 433 (107 + c) ≤ σ 433 (26 + l)
    · simp (disch := first | assumption | omega | (repeat' first | exact ok_nil | apply ok_I | apply ok_R)) only [ev_162_0, ev_162_1, ev_162_2, gf_432_0, ld_433, x_fall, x_goto, x_iadd, x_push, x_ret2, x_ret2b, xl_a0, xl_i1, xl_i2, y_cmp_gt_f, y_cmp_gt_t, i_wr_id, Int.reduceToNat, ex_ar_same, ex_ar_ar, ex_ar_diff, ex_u_same, ex_u_diff, b2i_t, b2i_f, ex_div_nn, ex_rem_nn, Int.toNat_zero, Int.toNat_one]
    · simp (disch := first | assumption | omega | (repeat' first | exact ok_nil | apply ok_I | apply ok_R)) only [ev_162_0, ev_162_1, ev_162_2, gf_432_0, ld_433, x_fall, x_goto, x_iadd, x_push, x_ret2, x_ret2b, xl_a0, xl_i1, xl_i2, y_cmp_gt_f, y_cmp_gt_t, i_wr_id, Int.reduceToNat, ex_ar_same, ex_ar_ar, ex_ar_diff, ex_u_same, ex_u_diff, b2i_t, b2i_f, ex_div_nn, ex_rem_nn, Int.toNat_zero, Int.toNat_one]
  · simp (disch := first | assumption | omega | (repeat' first | exact ok_nil | apply ok_I | apply ok_R)) only [ev_162_0, ev_162_1, ev_162_2, gf_432_0, ld_433, x_fall, x_goto, x_iadd, x_push, x_ret2, x_ret2b, xl_a0, xl_i1, xl_i2, y_cmp_gt_f, y_cmp_gt_t, i_wr_id, Int.reduceToNat, ex_ar_same, ex_ar_ar, ex_ar_diff, ex_u_same, ex_u_diff, b2i_t, b2i_f, ex_div_nn, ex_rem_nn, Int.toNat_zero, Int.toNat_one]
theorem xc_162 {rt d : Nat} {J : Nat → List ex_V → List ex_V → ex_H → Option ex_R} {is : List Instr} {ls st : List ex_V} {L : Nat} {σ : ex_S} {c l : Int} (h1 : 0 ≤ c) (h2 : c < 8) (h3 : 0 ≤ l) (h4 : l < 5) (hd : 0 < d) (hok : okN 8 st = true) : ex_xs rt J (ex_cd d) (.invokevirtual 162 :: is) ls (vI l :: vI c :: vR 432 :: st) (SH L, σ) = ex_xs rt J (ex_cd d) is ls (vI (b2i (σ 433 (99 + c) ≤ σ 433 (21 + l) ∧ σ 433 (107 + c) ≤ σ 433 (26 + l))) :: st) (SH L, σ) := x_call1 (Or.inl rfl) rfl (sh_432 _) (Or.inl ⟨rfl, rfl⟩) (as := [vI c, vI l]) rfl rfl (okN_ok hok) rfl (sp_162 hd h1 h2 h3 h4)
theorem sp_164 {d : Nat} (hd : 0 < d) {L : Nat} {σ : ex_S} {l : Int} (h3 : 0 ≤ l) (h4 : l < 5) : ex_cd d 164 [vR 432, vI l] (SH L, σ) = some ([vI (b2i (σ 433 (31 + l) = 1 ∨ σ 433 (41 + l) = 12))], (SH L, σ)) := by
  rw [ex_cd_eq (by omega)]
  show ex_ev (d - 1) 164 0 [vR 432, vI l] [] (SH L, σ) = _
  by_cases h5 : σ 433 (31 + l) = 1
  · simp (disch := first | assumption | omega | (repeat' first | exact ok_nil | apply ok_I | apply ok_R)) only [ev_164_0, ev_164_1, ev_164_2, ev_164_3, gf_432_0, ld_433, x_fall, x_goto, x_iadd, x_push, x_ret2, x_ret2b, xl_a0, xl_i1, y_cmp_eq_f, y_cmp_eq_t, y_cmp_ne_f, y_cmp_ne_t, i_wr_id, Int.reduceToNat, ex_ar_same, ex_ar_ar, ex_ar_diff, ex_u_same, ex_u_diff, b2i_t, b2i_f, ex_div_nn, ex_rem_nn, Int.toNat_zero, Int.toNat_one]
  · by_cases h6 : σ 433 (41 + l) = 12
    · simp (disch := first | assumption | omega | (repeat' first | exact ok_nil | apply ok_I | apply ok_R)) only [ev_164_0, ev_164_1, ev_164_2, ev_164_3, gf_432_0, ld_433, x_fall, x_goto, x_iadd, x_push, x_ret2, x_ret2b, xl_a0, xl_i1, y_cmp_eq_f, y_cmp_eq_t, y_cmp_ne_f, y_cmp_ne_t, i_wr_id, Int.reduceToNat, ex_ar_same, ex_ar_ar, ex_ar_diff, ex_u_same, ex_u_diff, b2i_t, b2i_f, ex_div_nn, ex_rem_nn, Int.toNat_zero, Int.toNat_one]
    · simp (disch := first | assumption | omega | (repeat' first | exact ok_nil | apply ok_I | apply ok_R)) only [ev_164_0, ev_164_1, ev_164_2, ev_164_3, gf_432_0, ld_433, x_fall, x_goto, x_iadd, x_push, x_ret2, x_ret2b, xl_a0, xl_i1, y_cmp_eq_f, y_cmp_eq_t, y_cmp_ne_f, y_cmp_ne_t, i_wr_id, Int.reduceToNat, ex_ar_same, ex_ar_ar, ex_ar_diff, ex_u_same, ex_u_diff, b2i_t, b2i_f, ex_div_nn, ex_rem_nn, Int.toNat_zero, Int.toNat_one]
theorem xc_164 {rt d : Nat} {J : Nat → List ex_V → List ex_V → ex_H → Option ex_R} {is : List Instr} {ls st : List ex_V} {L : Nat} {σ : ex_S} {l : Int} (h3 : 0 ≤ l) (h4 : l < 5) (hd : 0 < d) (hok : okN 8 st = true) : ex_xs rt J (ex_cd d) (.invokevirtual 164 :: is) ls (vI l :: vR 432 :: st) (SH L, σ) = ex_xs rt J (ex_cd d) is ls (vI (b2i (σ 433 (31 + l) = 1 ∨ σ 433 (41 + l) = 12)) :: st) (SH L, σ) := x_call1 (Or.inl rfl) rfl (sh_432 _) (Or.inl ⟨rfl, rfl⟩) (as := [vI l]) rfl rfl (okN_ok hok) rfl (sp_164 hd h3 h4)
theorem sp_165 {d : Nat} (hd : 2 < d) {L : Nat} {σ : ex_S} {c : Int} (hn : 0 ≤ σ 433 0) (hn2 : σ 433 0 ≤ 5) (hM : okM (σ 433)) : ex_cd d 165 [vR 432, vI c] (SH L, σ) = some ([vI (b2i (0 ≤ standN (σ 433) c ∧ aheadN (σ 433) (standN (σ 433) c) = 0 ∧ ¬ (σ 433 (31 + standN (σ 433) c / 8) = 1 ∨ σ 433 (41 + standN (σ 433) c / 8) = 12)))], (SH L, σ)) := by
  rw [ex_cd_eq (by omega)]
  show ex_ev (d - 1) 165 0 [vR 432, vI c, vL 0] [] (SH L, σ) = _
  rcases stand_lo (σ 433) c hn2 hM with h | ⟨q1, q2, q3, q4, q5⟩
  · simp (disch := first | assumption | omega | (repeat' first | exact ok_nil | apply ok_I | apply ok_R)) only [ev_165_0, ev_165_1, ev_165_2, x_fall, x_goto, x_idiv, x_push, x_ret2, x_ret2b, xc_157, xc_158, xc_164, xl_a0, xl_i1, xl_i2, xt_i2, y_if_lt_f, y_if_lt_t, y_if_ne_f, y_if_ne_t, i_wr_id, Int.reduceToNat, ex_ar_same, ex_ar_ar, ex_ar_diff, ex_u_same, ex_u_diff, b2i_t, b2i_f, ex_div_nn, ex_rem_nn, Int.toNat_zero, Int.toNat_one]
  · by_cases h2 : aheadN (σ 433) (standN (σ 433) c) = 0
    · by_cases h3 : σ 433 (31 + standN (σ 433) c / 8) = 1 ∨ σ 433 (41 + standN (σ 433) c / 8) = 12
      · simp (disch := first | assumption | omega | (repeat' first | exact ok_nil | apply ok_I | apply ok_R)) only [ev_165_0, ev_165_1, ev_165_2, x_fall, x_goto, x_idiv, x_push, x_ret2, x_ret2b, xc_157, xc_158, xc_164, xl_a0, xl_i1, xl_i2, xt_i2, y_if_lt_f, y_if_lt_t, y_if_ne_f, y_if_ne_t, i_wr_id, Int.reduceToNat, ex_ar_same, ex_ar_ar, ex_ar_diff, ex_u_same, ex_u_diff, b2i_t, b2i_f, ex_div_nn, ex_rem_nn, Int.toNat_zero, Int.toNat_one]
      · simp (disch := first | assumption | omega | (repeat' first | exact ok_nil | apply ok_I | apply ok_R)) only [ev_165_0, ev_165_1, ev_165_2, x_fall, x_goto, x_idiv, x_push, x_ret2, x_ret2b, xc_157, xc_158, xc_164, xl_a0, xl_i1, xl_i2, xt_i2, y_if_lt_f, y_if_lt_t, y_if_ne_f, y_if_ne_t, i_wr_id, Int.reduceToNat, ex_ar_same, ex_ar_ar, ex_ar_diff, ex_u_same, ex_u_diff, b2i_t, b2i_f, ex_div_nn, ex_rem_nn, Int.toNat_zero, Int.toNat_one]
    · simp (disch := first | assumption | omega | (repeat' first | exact ok_nil | apply ok_I | apply ok_R)) only [ev_165_0, ev_165_1, ev_165_2, x_fall, x_goto, x_idiv, x_push, x_ret2, x_ret2b, xc_157, xc_158, xc_164, xl_a0, xl_i1, xl_i2, xt_i2, y_if_lt_f, y_if_lt_t, y_if_ne_f, y_if_ne_t, i_wr_id, Int.reduceToNat, ex_ar_same, ex_ar_ar, ex_ar_diff, ex_u_same, ex_u_diff, b2i_t, b2i_f, ex_div_nn, ex_rem_nn, Int.toNat_zero, Int.toNat_one]
theorem xc_165 {rt d : Nat} {J : Nat → List ex_V → List ex_V → ex_H → Option ex_R} {is : List Instr} {ls st : List ex_V} {L : Nat} {σ : ex_S} {c : Int} (hn : 0 ≤ σ 433 0) (hn2 : σ 433 0 ≤ 5) (hM : okM (σ 433)) (hd : 2 < d) (hok : okN 8 st = true) : ex_xs rt J (ex_cd d) (.invokevirtual 165 :: is) ls (vI c :: vR 432 :: st) (SH L, σ) = ex_xs rt J (ex_cd d) is ls (vI (b2i (0 ≤ standN (σ 433) c ∧ aheadN (σ 433) (standN (σ 433) c) = 0 ∧ ¬ (σ 433 (31 + standN (σ 433) c / 8) = 1 ∨ σ 433 (41 + standN (σ 433) c / 8) = 12))) :: st) (SH L, σ) := x_call1 (Or.inl rfl) rfl (sh_432 _) (Or.inl ⟨rfl, rfl⟩) (as := [vI c]) rfl rfl (okN_ok hok) rfl (sp_165 hd hn hn2 hM)
