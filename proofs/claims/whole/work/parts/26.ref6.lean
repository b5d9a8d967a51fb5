/-! the reference: rules -/
def takesN (s : Int) : Int := if s < 40 then 0 else if s = 42 then 1 else 2
def deepR (n : Int → Int) : Nat → Int
  | 0 => 0
  | i + 1 => deepR n i + (1 - takesN (n (231 + (i : Int))))
abbrev badAt (n : Int → Int) (i : Nat) : Prop := deepR n i < takesN (n (231 + (i : Int))) ∨ (n (231 + (i : Int)) < 40 ∧ deepR n i = 5)
def fbad (n : Int → Int) : Nat → Nat → Int
  | _, 0 => -1
  | i, j + 1 => if badAt n i then (i : Int) else fbad n (i + 1) j
def wrongN (n : Int → Int) : Int := if 0 ≤ fbad n 0 (n 9).toNat then fbad n 0 (n 9).toNat else if deepR n (n 9).toNat = 1 ∨ n 9 = 0 then -1 else n 9
theorem fbad_lo (n : Int → Int) : ∀ (j i : Nat), fbad n i j = -1 ∨ (i : Int) ≤ fbad n i j
  | 0, _ => Or.inl rfl
  | j + 1, i => by
    rw [fbad]
    split
    · exact Or.inr (by omega)
    · rcases fbad_lo n j (i + 1) with h | h
      · exact Or.inl h
      · exact Or.inr (by omega)
theorem fbad_no (n : Int → Int) : ∀ (j i : Nat), fbad n i j < 0 → ∀ k, i ≤ k → k < i + j → ¬ badAt n k
  | 0, _, _, k, h1, h2 => by omega
  | j + 1, i, h, k, h1, h2 => by
    rw [fbad] at h
    by_cases hb : badAt n i
    · rw [if_pos hb] at h; omega
    · rw [if_neg hb] at h
      by_cases e : k = i
      · rw [e]; exact hb
      · exact fbad_no n j (i + 1) h k (by omega) (by omega)
theorem deep_bd (n : Int → Int) (N : Nat) (h : ∀ k, k < N → ¬ badAt n k) : ∀ i, i ≤ N → 0 ≤ deepR n i ∧ deepR n i ≤ 5
  | 0, _ => ⟨Int.le_refl 0, (show (0 : Int) ≤ 5 by decide)⟩
  | i + 1, hi => by
    have ih := deep_bd n N h i (by omega)
    have hb := h i (by omega)
    rw [deepR]
    unfold badAt at hb
    unfold takesN at hb ⊢
    by_cases h1 : n (231 + (i : Int)) < 40
    · rw [if_pos h1] at hb ⊢
      have : ¬ deepR n i = 5 := fun e => hb (Or.inr ⟨h1, e⟩)
      omega
    · rw [if_neg h1] at hb ⊢
      by_cases h2 : n (231 + (i : Int)) = 42
      · rw [if_pos h2] at hb ⊢
        have : ¬ deepR n i < 1 := fun e => hb (Or.inl e)
        omega
      · rw [if_neg h2] at hb ⊢
        have : ¬ deepR n i < 2 := fun e => hb (Or.inl e)
        omega
theorem sp_214 {d : Nat} (hd : 0 < d) {L : Nat} {σ : ex_S} (hN : NI (σ 433)) : ex_cd d 214 [vR 432] (SH L, σ) = some ([vI (wrongN (σ 433))], (SH L, σ)) := by
  rw [ex_cd_eq (by omega)]
  show ex_ev (d - 1) 214 0 [vR 432, vL 0, vL 0, vL 0, vL 0] [] (SH L, σ) = _
  (have := hN.a0; have := hN.b0; have := hN.a1; have := hN.b1; have := hN.a2; have := hN.b2; have := hN.a3; have := hN.b3; have := hN.a4; have := hN.b4; have := hN.a5; have := hN.b5; have := hN.a7; have := hN.b7; have := hN.a8; have := hN.b8; have := hN.a9; have := hN.b9; have := hN.a10; have := hN.b10; have := hN.oM; have := hN.oP)
  have lp : ∀ i : Nat, i ≤ (σ 433 9).toNat → ∀ (a : Int) (w1 w2 : ex_V), deepR (σ 433) i = a → 0 ≤ a → a ≤ 5 → ex_ev (d - 1) 214 1 [vR 432, vI a, vI (i : Int), w1, w2] [] (SH L, σ) = some ([vI (if 0 ≤ fbad (σ 433) i ((σ 433 9).toNat - i) then fbad (σ 433) i ((σ 433 9).toNat - i) else if deepR (σ 433) (σ 433 9).toNat = 1 ∨ σ 433 9 = 0 then -1 else σ 433 9)], (SH L, σ)) := by
    refine down ?_ ?_
    · intro a w1 w2 hk ha ha2
      rw [Nat.sub_self, hk]
      rw [ev_214_1]
      (repeat' first | simp (disch := first | assumption | omega | ((repeat' first | exact ok_nil | apply ok_I | apply ok_R); done) | (simp (disch := first | omega | decide) only [ex_ar_same, ex_ar_diff, kM_diff, ex_u_same, ex_u_diff]; first | assumption | omega)) only [ev_214_0, ev_214_10, ev_214_2, ev_214_3, ev_214_4, ev_214_5, ev_214_6, ev_214_7, ev_214_8, ev_214_9, gf_432_0, ld_433, x_fall, x_goto, x_iadd, x_isub, x_push, x_ret1, xl_a0, xl_i1, xl_i2, xl_i3, xl_i4, xn_2, xt_i1, xt_i2, xt_i3, xt_i4, y_cmp_eq_f, y_cmp_eq_t, y_cmp_ge_f, y_cmp_ge_t, y_cmp_lt_f, y_cmp_lt_t, y_cmp_ne_f, y_cmp_ne_t, y_if_ne_f, y_if_ne_t, i_wr_id, kM_diff, Int.reduceToNat, ex_ar_same, ex_ar_ar, ex_ar_diff, ex_u_same, ex_u_diff, b2i_t, b2i_f, ex_div_nn, ex_rem_nn, Int.toNat_zero, Int.toNat_one, Int.reduceAdd, Int.reduceSub, Int.reduceMul, Int.reduceNeg] | refine bb_eq (fun _ => ?_) (fun _ => ?_) | refine bb_ne (fun _ => ?_) (fun _ => ?_) | refine bc_eq (fun _ => ?_) (fun _ => ?_) | refine bc_ne (fun _ => ?_) (fun _ => ?_) | refine bc_lt (fun _ => ?_) (fun _ => ?_) | refine bc_ge (fun _ => ?_) (fun _ => ?_) | refine bc_gt (fun _ => ?_) (fun _ => ?_) | refine bc_le (fun _ => ?_) (fun _ => ?_) | refine bi_eq (fun _ => ?_) (fun _ => ?_) | refine bi_ne (fun _ => ?_) (fun _ => ?_) | refine bi_lt (fun _ => ?_) (fun _ => ?_) | refine bi_ge (fun _ => ?_) (fun _ => ?_) | refine bi_gt (fun _ => ?_) (fun _ => ?_) | refine bi_le (fun _ => ?_) (fun _ => ?_))
      all_goals (show _ = some ([vI (if (0 : Int) ≤ -1 then -1 else _)], _); (try simp (disch := first | assumption | omega) only [if_pos, if_neg]))
    · intro i hi ih a w1 w2 hk ha ha2
      have tx := hN.tx i (by omega) (by omega)
      have e : (σ 433 9).toNat - i = ((σ 433 9).toNat - (i + 1)) + 1 := by omega
      have hd1 : deepR (σ 433) (i + 1) = a + (1 - takesN (σ 433 (231 + (i : Int)))) := by rw [deepR, hk]
      rw [e, fbad]
      unfold badAt
      rw [hk]
      unfold takesN at *
      rw [ev_214_1]
      (repeat' first | simp (disch := first | assumption | omega | ((repeat' first | exact ok_nil | apply ok_I | apply ok_R); done) | (simp (disch := first | omega | decide) only [ex_ar_same, ex_ar_diff, kM_diff, ex_u_same, ex_u_diff]; first | assumption | omega)) only [ev_214_0, ev_214_10, ev_214_2, ev_214_3, ev_214_4, ev_214_5, ev_214_6, ev_214_7, ev_214_8, ev_214_9, gf_432_0, ld_433, x_fall, x_goto, x_iadd, x_isub, x_push, x_ret1, xl_a0, xl_i1, xl_i2, xl_i3, xl_i4, xn_2, xt_i1, xt_i2, xt_i3, xt_i4, y_cmp_eq_f, y_cmp_eq_t, y_cmp_ge_f, y_cmp_ge_t, y_cmp_lt_f, y_cmp_lt_t, y_cmp_ne_f, y_cmp_ne_t, y_if_ne_f, y_if_ne_t, i_wr_id, kM_diff, Int.reduceToNat, ex_ar_same, ex_ar_ar, ex_ar_diff, ex_u_same, ex_u_diff, b2i_t, b2i_f, ex_div_nn, ex_rem_nn, Int.toNat_zero, Int.toNat_one, Int.reduceAdd, Int.reduceSub, Int.reduceMul, Int.reduceNeg] | refine bb_eq (fun _ => ?_) (fun _ => ?_) | refine bb_ne (fun _ => ?_) (fun _ => ?_) | refine bc_eq (fun _ => ?_) (fun _ => ?_) | refine bc_ne (fun _ => ?_) (fun _ => ?_) | refine bc_lt (fun _ => ?_) (fun _ => ?_) | refine bc_ge (fun _ => ?_) (fun _ => ?_) | refine bc_gt (fun _ => ?_) (fun _ => ?_) | refine bc_le (fun _ => ?_) (fun _ => ?_) | refine bi_eq (fun _ => ?_) (fun _ => ?_) | refine bi_ne (fun _ => ?_) (fun _ => ?_) | refine bi_lt (fun _ => ?_) (fun _ => ?_) | refine bi_ge (fun _ => ?_) (fun _ => ?_) | refine bi_gt (fun _ => ?_) (fun _ => ?_) | refine bi_le (fun _ => ?_) (fun _ => ?_))
      all_goals (try simp (disch := first | assumption | omega) only [if_pos, if_neg])
      all_goals
        rw [nat_cast_succ]
        refine ih _ _ _ ?_ ?_ ?_
        all_goals first | omega | (simp (disch := first | assumption | omega) only [if_pos, if_neg] at hd1; omega)
  simp (disch := first | assumption | omega | ((repeat' first | exact ok_nil | apply ok_I | apply ok_R); done) | (simp (disch := first | omega | decide) only [ex_ar_same, ex_ar_diff, kM_diff, ex_u_same, ex_u_diff]; first | assumption | omega)) only [ev_214_0, ev_214_10, ev_214_2, ev_214_3, ev_214_4, ev_214_5, ev_214_6, ev_214_7, ev_214_8, ev_214_9, gf_432_0, ld_433, x_fall, x_goto, x_iadd, x_isub, x_push, x_ret1, xl_a0, xl_i1, xl_i2, xl_i3, xl_i4, xn_2, xt_i1, xt_i2, xt_i3, xt_i4, y_cmp_eq_f, y_cmp_eq_t, y_cmp_ge_f, y_cmp_ge_t, y_cmp_lt_f, y_cmp_lt_t, y_cmp_ne_f, y_cmp_ne_t, y_if_ne_f, y_if_ne_t, i_wr_id, kM_diff, Int.reduceToNat, ex_ar_same, ex_ar_ar, ex_ar_diff, ex_u_same, ex_u_diff, b2i_t, b2i_f, ex_div_nn, ex_rem_nn, Int.toNat_zero, Int.toNat_one, Int.reduceAdd, Int.reduceSub, Int.reduceMul, Int.reduceNeg]
  exact lp 0 (by omega) 0 _ _ rfl (by omega) (by omega)
theorem xc_214 {rt d : Nat} {J : Nat → List ex_V → List ex_V → ex_H → Option ex_R} {is : List Instr} {ls st : List ex_V} {L : Nat} {σ : ex_S} (hN : NI (σ 433)) (hd : 0 < d) (hok : okN 8 st = true) : ex_xs rt J (ex_cd d) (.invokevirtual 214 :: is) ls (vR 432 :: st) (SH L, σ) = ex_xs rt J (ex_cd d) is ls (vI (wrongN (σ 433)) :: st) (SH L, σ) := x_call1 (Or.inl rfl) rfl (sh_432 _) (Or.inl ⟨rfl, rfl⟩) (as := []) rfl rfl (okN_ok hok) rfl (sp_214 hd hN)
theorem sp_215 {d : Nat} (hd : 1 < d) {L : Nat} {σ : ex_S} (hN : NI (σ 433)) : ex_cd d 215 [vR 432] (SH L, σ) = some ([vI (wrongN (σ 433))], (SH L, σ)) := by
  rw [ex_cd_eq (by omega)]
  show ex_ev (d - 1) 215 0 [vR 432] [] (SH L, σ) = _
  simp (disch := first | assumption | omega | ((repeat' first | exact ok_nil | apply ok_I | apply ok_R); done) | (simp (disch := first | omega | decide) only [ex_ar_same, ex_ar_diff, kM_diff, ex_u_same, ex_u_diff]; first | assumption | omega)) only [ev_215_0, x_ret1, xc_214, xl_a0, i_wr_id, kM_diff, Int.reduceToNat, ex_ar_same, ex_ar_ar, ex_ar_diff, ex_u_same, ex_u_diff, b2i_t, b2i_f, ex_div_nn, ex_rem_nn, Int.toNat_zero, Int.toNat_one, Int.reduceAdd, Int.reduceSub, Int.reduceMul, Int.reduceNeg]
theorem xc_215 {rt d : Nat} {J : Nat → List ex_V → List ex_V → ex_H → Option ex_R} {is : List Instr} {ls st : List ex_V} {L : Nat} {σ : ex_S} (hN : NI (σ 433)) (hd : 1 < d) (hok : okN 8 st = true) : ex_xs rt J (ex_cd d) (.invokevirtual 215 :: is) ls (vR 432 :: st) (SH L, σ) = ex_xs rt J (ex_cd d) is ls (vI (wrongN (σ 433)) :: st) (SH L, σ) := x_call1 (Or.inl rfl) rfl (sh_432 _) (Or.inl ⟨rfl, rfl⟩) (as := []) rfl rfl (okN_ok hok) rfl (sp_215 hd hN)
theorem sp_212 {d : Nat} (hd : 1 < d) {h : ex_H} {v : Int} : ex_cd d 212 [vI v] (h) = some ([vI (b2i ((1 ≤ v ∧ v ≤ 6) ∨ (10 ≤ v ∧ v ≤ 33) ∨ (40 ≤ v ∧ v ≤ 44)))], (h)) := by
  rw [ex_cd_eq (by omega)]
  show ex_ev (d - 1) 212 0 [vI v] [] (h) = _
  (repeat' first | simp (disch := first | assumption | omega | ((repeat' first | exact ok_nil | apply ok_I | apply ok_R); done) | (simp (disch := first | omega | decide) only [ex_ar_same, ex_ar_diff, kM_diff, ex_u_same, ex_u_diff]; first | assumption | omega)) only [ev_212_0, ev_212_1, ev_212_2, ev_212_3, x_fall, x_goto, x_push, x_ret2, x_ret2b, xc_143, xl_i0, y_if_eq_f, y_if_eq_t, y_if_ne_f, y_if_ne_t, i_wr_id, kM_diff, Int.reduceToNat, ex_ar_same, ex_ar_ar, ex_ar_diff, ex_u_same, ex_u_diff, b2i_t, b2i_f, ex_div_nn, ex_rem_nn, Int.toNat_zero, Int.toNat_one, Int.reduceAdd, Int.reduceSub, Int.reduceMul, Int.reduceNeg] | refine bb_eq (fun _ => ?_) (fun _ => ?_) | refine bb_ne (fun _ => ?_) (fun _ => ?_) | refine bc_eq (fun _ => ?_) (fun _ => ?_) | refine bc_ne (fun _ => ?_) (fun _ => ?_) | refine bc_lt (fun _ => ?_) (fun _ => ?_) | refine bc_ge (fun _ => ?_) (fun _ => ?_) | refine bc_gt (fun _ => ?_) (fun _ => ?_) | refine bc_le (fun _ => ?_) (fun _ => ?_) | refine bi_eq (fun _ => ?_) (fun _ => ?_) | refine bi_ne (fun _ => ?_) (fun _ => ?_) | refine bi_lt (fun _ => ?_) (fun _ => ?_) | refine bi_ge (fun _ => ?_) (fun _ => ?_) | refine bi_gt (fun _ => ?_) (fun _ => ?_) | refine bi_le (fun _ => ?_) (fun _ => ?_))
theorem xc_212 {rt d : Nat} {J : Nat → List ex_V → List ex_V → ex_H → Option ex_R} {is : List Instr} {ls st : List ex_V} {h : ex_H} {v : Int} (hd : 1 < d) (hok : okN 8 st = true) : ex_xs rt J (ex_cd d) (.invokestatic 212 :: is) ls (vI v :: st) (h) = ex_xs rt J (ex_cd d) is ls (vI (b2i ((1 ≤ v ∧ v ≤ 6) ∨ (10 ≤ v ∧ v ≤ 33) ∨ (40 ≤ v ∧ v ≤ 44))) :: st) (h) := x_call0 (as := [vI v]) rfl rfl rfl (okN_ok hok) rfl (sp_212 hd )
def readN (n : Int → Int) (s c l h : Int) : Int := if s = 1 then h else if s = 2 then n (91 + c) else if s = 3 then n (107 + c) else if s = 4 then l else if s = 5 then n (11 + l) else if s = 6 then n 4 else s - 10
theorem sp_216 {d : Nat} (hd : 0 < d) {L : Nat} {σ : ex_S} {s c l h : Int} (h1 : 0 ≤ c) (h2 : c < 8) (h3 : 0 ≤ l) (h4 : l < 5) (h5 : 1 ≤ s) (h6 : s ≤ 100) : ex_cd d 216 [vR 432, vI s, vI c, vI l, vI h] (SH L, σ) = some ([vI (readN (σ 433) s c l h)], (SH L, σ)) := by
  rw [ex_cd_eq (by omega)]
  show ex_ev (d - 1) 216 0 [vR 432, vI s, vI c, vI l, vI h] [] (SH L, σ) = _
  unfold readN
  by_cases q : s ≤ 6
  · rcases (show s = 1 ∨ s = 2 ∨ s = 3 ∨ s = 4 ∨ s = 5 ∨ s = 6 by omega) with e | e | e | e | e | e
    all_goals
      subst e
      simp (disch := first | assumption | omega | ((repeat' first | exact ok_nil | apply ok_I | apply ok_R); done) | (simp (disch := first | omega | decide) only [ex_ar_same, ex_ar_diff, kM_diff, ex_u_same, ex_u_diff]; first | assumption | omega)) only [ev_216_0, ev_216_1, ev_216_2, ev_216_3, ev_216_4, ev_216_5, ev_216_6, ev_216_7, gf_432_0, ld_433, x_iadd, x_isub, x_push, x_ret1, x_tab, xl_a0, xl_i1, xl_i2, xl_i3, xl_i4, i_wr_id, kM_diff, Int.reduceToNat, ex_ar_same, ex_ar_ar, ex_ar_diff, ex_u_same, ex_u_diff, b2i_t, b2i_f, ex_div_nn, ex_rem_nn, Int.toNat_zero, Int.toNat_one, Int.reduceAdd, Int.reduceSub, Int.reduceMul, Int.reduceNeg]
      simp
      simp (disch := first | assumption | omega | ((repeat' first | exact ok_nil | apply ok_I | apply ok_R); done) | (simp (disch := first | omega | decide) only [ex_ar_same, ex_ar_diff, kM_diff, ex_u_same, ex_u_diff]; first | assumption | omega)) only [ev_216_0, ev_216_1, ev_216_2, ev_216_3, ev_216_4, ev_216_5, ev_216_6, ev_216_7, gf_432_0, ld_433, x_iadd, x_isub, x_push, x_ret1, x_tab, xl_a0, xl_i1, xl_i2, xl_i3, xl_i4, i_wr_id, kM_diff, Int.reduceToNat, ex_ar_same, ex_ar_ar, ex_ar_diff, ex_u_same, ex_u_diff, b2i_t, b2i_f, ex_div_nn, ex_rem_nn, Int.toNat_zero, Int.toNat_one, Int.reduceAdd, Int.reduceSub, Int.reduceMul, Int.reduceNeg]
  · simp (disch := first | assumption | omega | ((repeat' first | exact ok_nil | apply ok_I | apply ok_R); done) | (simp (disch := first | omega | decide) only [ex_ar_same, ex_ar_diff, kM_diff, ex_u_same, ex_u_diff]; first | assumption | omega)) only [ev_216_0, ev_216_1, ev_216_2, ev_216_3, ev_216_4, ev_216_5, ev_216_6, ev_216_7, gf_432_0, ld_433, x_iadd, x_isub, x_push, x_ret1, x_tab, xl_a0, xl_i1, xl_i2, xl_i3, xl_i4, i_wr_id, kM_diff, Int.reduceToNat, ex_ar_same, ex_ar_ar, ex_ar_diff, ex_u_same, ex_u_diff, b2i_t, b2i_f, ex_div_nn, ex_rem_nn, Int.toNat_zero, Int.toNat_one, Int.reduceAdd, Int.reduceSub, Int.reduceMul, Int.reduceNeg]
    (try simp (disch := first | assumption | omega) only [if_pos, if_neg])
theorem xc_216 {rt d : Nat} {J : Nat → List ex_V → List ex_V → ex_H → Option ex_R} {is : List Instr} {ls st : List ex_V} {L : Nat} {σ : ex_S} {s c l h : Int} (h1 : 0 ≤ c) (h2 : c < 8) (h3 : 0 ≤ l) (h4 : l < 5) (h5 : 1 ≤ s) (h6 : s ≤ 100) (hd : 0 < d) (hok : okN 8 st = true) : ex_xs rt J (ex_cd d) (.invokevirtual 216 :: is) ls (vI h :: vI l :: vI c :: vI s :: vR 432 :: st) (SH L, σ) = ex_xs rt J (ex_cd d) is ls (vI (readN (σ 433) s c l h) :: st) (SH L, σ) := x_call1 (Or.inl rfl) rfl (sh_432 _) (Or.inl ⟨rfl, rfl⟩) (as := [vI s, vI c, vI l, vI h]) rfl rfl (okN_ok hok) rfl (sp_216 hd h1 h2 h3 h4 h5 h6)
abbrev joinP (s a b : Int) : Prop := (s = 40 ∧ a < b) ∨ (s = 41 ∧ a = b) ∨ (s = 43 ∧ a ≠ 0 ∧ b ≠ 0) ∨ ((s ≠ 40 ∧ s ≠ 41 ∧ s ≠ 43) ∧ (a ≠ 0 ∨ b ≠ 0))
theorem sp_217 {d : Nat} (hd : 0 < d) {h : ex_H} {s a b : Int} : ex_cd d 217 [vI s, vI a, vI b] (h) = some ([vI (b2i (joinP s a b))], (h)) := by
  rw [ex_cd_eq (by omega)]
  show ex_ev (d - 1) 217 0 [vI s, vI a, vI b] [] (h) = _
  unfold joinP
  (repeat' first | simp (disch := first | assumption | omega | ((repeat' first | exact ok_nil | apply ok_I | apply ok_R); done) | (simp (disch := first | omega | decide) only [ex_ar_same, ex_ar_diff, kM_diff, ex_u_same, ex_u_diff]; first | assumption | omega)) only [ev_217_0, ev_217_1, ev_217_2, ev_217_3, ev_217_4, ev_217_5, ev_217_6, ev_217_7, ev_217_8, ev_217_9, x_fall, x_goto, x_push, x_ret2, x_ret2b, xl_i0, xl_i1, xl_i2, y_cmp_ge_f, y_cmp_ge_t, y_cmp_ne_f, y_cmp_ne_t, y_if_eq_f, y_if_eq_t, y_if_ne_f, y_if_ne_t, i_wr_id, kM_diff, Int.reduceToNat, ex_ar_same, ex_ar_ar, ex_ar_diff, ex_u_same, ex_u_diff, b2i_t, b2i_f, ex_div_nn, ex_rem_nn, Int.toNat_zero, Int.toNat_one, Int.reduceAdd, Int.reduceSub, Int.reduceMul, Int.reduceNeg] | refine bb_eq (fun _ => ?_) (fun _ => ?_) | refine bb_ne (fun _ => ?_) (fun _ => ?_) | refine bc_eq (fun _ => ?_) (fun _ => ?_) | refine bc_ne (fun _ => ?_) (fun _ => ?_) | refine bc_lt (fun _ => ?_) (fun _ => ?_) | refine bc_ge (fun _ => ?_) (fun _ => ?_) | refine bc_gt (fun _ => ?_) (fun _ => ?_) | refine bc_le (fun _ => ?_) (fun _ => ?_) | refine bi_eq (fun _ => ?_) (fun _ => ?_) | refine bi_ne (fun _ => ?_) (fun _ => ?_) | refine bi_lt (fun _ => ?_) (fun _ => ?_) | refine bi_ge (fun _ => ?_) (fun _ => ?_) | refine bi_gt (fun _ => ?_) (fun _ => ?_) | refine bi_le (fun _ => ?_) (fun _ => ?_))
theorem xc_217 {rt d : Nat} {J : Nat → List ex_V → List ex_V → ex_H → Option ex_R} {is : List Instr} {ls st : List ex_V} {h : ex_H} {s a b : Int} (hd : 0 < d) (hok : okN 8 st = true) : ex_xs rt J (ex_cd d) (.invokestatic 217 :: is) ls (vI b :: vI a :: vI s :: st) (h) = ex_xs rt J (ex_cd d) is ls (vI (b2i (joinP s a b)) :: st) (h) := x_call0 (as := [vI s, vI a, vI b]) rfl rfl rfl (okN_ok hok) rfl (sp_217 hd )
/-- the numbers in a row -/
def letF (n : Int → Int) (c l h : Int) (i : Nat) (r : Int → Int) : Int → Int := if n (231 + (i : Int)) < 40 then ex_u r (deepR n i) (readN n (n (231 + (i : Int))) c l h) else if n (231 + (i : Int)) = 42 then ex_u r (deepR n i - 1) (if r (deepR n i - 1) = 0 then 1 else 0) else ex_u r (deepR n i - 2) (b2i (joinP (n (231 + (i : Int))) (r (deepR n i - 2)) (r (deepR n i - 1))))
def letR (n : Int → Int) (c l h : Int) (r : Int → Int) : Nat → Int → Int
  | 0 => r
  | i + 1 => letF n c l h i (letR n c l h r i)
abbrev letP (n : Int → Int) (r : Int → Int) (c l h : Int) : Prop := n 9 = 0 ∨ (wrongN n < 0 ∧ letR n c l h r (n 9).toNat 0 ≠ 0)
def letM (σ : ex_S) (c l h : Int) : ex_S := if σ 433 9 = 0 ∨ 0 ≤ wrongN (σ 433) then σ else ex_ar σ 444 (letR (σ 433) c l h (σ 444) (σ 433 9).toNat)
theorem sp_218 {d : Nat} (hd : 1 < d) {L : Nat} {σ : ex_S} {c l h : Int} (hN : NI (σ 433)) (h1 : 0 ≤ c) (h2 : c < 8) (h3 : 0 ≤ l) (h4 : l < 5) : ex_cd d 218 [vR 432, vI c, vI l, vI h] (SH L, σ) = some ([vI (b2i (letP (σ 433) (σ 444) c l h))], (SH L, letM σ c l h)) := by
  rw [ex_cd_eq (by omega)]
  show ex_ev (d - 1) 218 0 [vR 432, vI c, vI l, vI h, vL 0, vL 0, vL 0] [] (SH L, σ) = _
  (have := hN.a0; have := hN.b0; have := hN.a1; have := hN.b1; have := hN.a2; have := hN.b2; have := hN.a3; have := hN.b3; have := hN.a4; have := hN.b4; have := hN.a5; have := hN.b5; have := hN.a7; have := hN.b7; have := hN.a8; have := hN.b8; have := hN.a9; have := hN.b9; have := hN.a10; have := hN.b10; have := hN.oM; have := hN.oP)
  unfold letM letP
  by_cases z0 : σ 433 9 = 0
  · rw [if_pos (Or.inl z0)]
    simp (disch := first | assumption | omega | ((repeat' first | exact ok_nil | apply ok_I | apply ok_R); done) | (simp (disch := first | omega | decide) only [ex_ar_same, ex_ar_diff, kM_diff, ex_u_same, ex_u_diff]; first | assumption | omega)) only [ev_218_0, ev_218_1, ev_218_10, ev_218_11, ev_218_12, ev_218_13, ev_218_2, ev_218_4, ev_218_5, ev_218_6, ev_218_7, ev_218_8, ev_218_9, gf_432_0, gf_432_14, ld_433, ld_444, sd_433, sd_444, x_fall, x_goto, x_iadd, x_isub, x_push, x_ret2, x_ret2b, xc_214, xc_216, xc_217, xl_a0, xl_i1, xl_i2, xl_i3, xl_i4, xl_i5, xl_i6, xn_4, xn_5, xt_i4, xt_i5, xt_i6, y_cmp_ge_f, y_cmp_ge_t, y_cmp_ne_f, y_cmp_ne_t, y_if_eq_f, y_if_eq_t, y_if_lt_f, y_if_lt_t, y_if_ne_f, y_if_ne_t, i_wr_id, kM_diff, Int.reduceToNat, ex_ar_same, ex_ar_ar, ex_ar_diff, ex_u_same, ex_u_diff, b2i_t, b2i_f, ex_div_nn, ex_rem_nn, Int.toNat_zero, Int.toNat_one, Int.reduceAdd, Int.reduceSub, Int.reduceMul, Int.reduceNeg]
  · by_cases z1 : 0 ≤ wrongN (σ 433)
    · rw [if_pos (Or.inr z1), b2i_f (by omega)]
      simp (disch := first | assumption | omega | ((repeat' first | exact ok_nil | apply ok_I | apply ok_R); done) | (simp (disch := first | omega | decide) only [ex_ar_same, ex_ar_diff, kM_diff, ex_u_same, ex_u_diff]; first | assumption | omega)) only [ev_218_0, ev_218_1, ev_218_10, ev_218_11, ev_218_12, ev_218_13, ev_218_2, ev_218_4, ev_218_5, ev_218_6, ev_218_7, ev_218_8, ev_218_9, gf_432_0, gf_432_14, ld_433, ld_444, sd_433, sd_444, x_fall, x_goto, x_iadd, x_isub, x_push, x_ret2, x_ret2b, xc_214, xc_216, xc_217, xl_a0, xl_i1, xl_i2, xl_i3, xl_i4, xl_i5, xl_i6, xn_4, xn_5, xt_i4, xt_i5, xt_i6, y_cmp_ge_f, y_cmp_ge_t, y_cmp_ne_f, y_cmp_ne_t, y_if_eq_f, y_if_eq_t, y_if_lt_f, y_if_lt_t, y_if_ne_f, y_if_ne_t, i_wr_id, kM_diff, Int.reduceToNat, ex_ar_same, ex_ar_ar, ex_ar_diff, ex_u_same, ex_u_diff, b2i_t, b2i_f, ex_div_nn, ex_rem_nn, Int.toNat_zero, Int.toNat_one, Int.reduceAdd, Int.reduceSub, Int.reduceMul, Int.reduceNeg]
    · rw [if_neg (by omega)]
      have z2 : fbad (σ 433) 0 (σ 433 9).toNat < 0 := by
        unfold wrongN at z1
        by_cases h : fbad (σ 433) 0 (σ 433 9).toNat < 0
        · exact h
        · rw [if_pos (by omega)] at z1; omega
      have nb : ∀ k, k < (σ 433 9).toNat → ¬ badAt (σ 433) k := fun k hk => fbad_no _ _ 0 z2 k (by omega) (by omega)
      have db := deep_bd (σ 433) _ nb
      have lp : ∀ i : Nat, i ≤ (σ 433 9).toNat → ∀ (a : Int) (r : Int → Int) (w : ex_V), deepR (σ 433) i = a → letR (σ 433) c l h (σ 444) i = r → ex_ev (d - 1) 218 3 [vR 432, vI c, vI l, vI h, vI a, vI (i : Int), w] [] (SH L, ex_ar σ 444 r) = some ([vI (b2i (σ 433 9 = 0 ∨ (wrongN (σ 433) < 0 ∧ letR (σ 433) c l h (σ 444) (σ 433 9).toNat 0 ≠ 0)))], (SH L, ex_ar σ 444 (letR (σ 433) c l h (σ 444) (σ 433 9).toNat))) := by
        refine down ?_ ?_
        · intro a r w hk hr
          rw [hr]
          rw [ev_218_3]
          (repeat' first | simp (disch := first | assumption | omega | ((repeat' first | exact ok_nil | apply ok_I | apply ok_R); done) | (simp (disch := first | omega | decide) only [ex_ar_same, ex_ar_diff, kM_diff, ex_u_same, ex_u_diff]; first | assumption | omega)) only [ev_218_0, ev_218_1, ev_218_10, ev_218_11, ev_218_12, ev_218_13, ev_218_2, ev_218_4, ev_218_5, ev_218_6, ev_218_7, ev_218_8, ev_218_9, gf_432_0, gf_432_14, ld_433, ld_444, sd_433, sd_444, x_fall, x_goto, x_iadd, x_isub, x_push, x_ret2, x_ret2b, xc_214, xc_216, xc_217, xl_a0, xl_i1, xl_i2, xl_i3, xl_i4, xl_i5, xl_i6, xn_4, xn_5, xt_i4, xt_i5, xt_i6, y_cmp_ge_f, y_cmp_ge_t, y_cmp_ne_f, y_cmp_ne_t, y_if_eq_f, y_if_eq_t, y_if_lt_f, y_if_lt_t, y_if_ne_f, y_if_ne_t, i_wr_id, kM_diff, Int.reduceToNat, ex_ar_same, ex_ar_ar, ex_ar_diff, ex_u_same, ex_u_diff, b2i_t, b2i_f, ex_div_nn, ex_rem_nn, Int.toNat_zero, Int.toNat_one, Int.reduceAdd, Int.reduceSub, Int.reduceMul, Int.reduceNeg] | refine bb_eq (fun _ => ?_) (fun _ => ?_) | refine bb_ne (fun _ => ?_) (fun _ => ?_) | refine bc_eq (fun _ => ?_) (fun _ => ?_) | refine bc_ne (fun _ => ?_) (fun _ => ?_) | refine bc_lt (fun _ => ?_) (fun _ => ?_) | refine bc_ge (fun _ => ?_) (fun _ => ?_) | refine bc_gt (fun _ => ?_) (fun _ => ?_) | refine bc_le (fun _ => ?_) (fun _ => ?_) | refine bi_eq (fun _ => ?_) (fun _ => ?_) | refine bi_ne (fun _ => ?_) (fun _ => ?_) | refine bi_lt (fun _ => ?_) (fun _ => ?_) | refine bi_ge (fun _ => ?_) (fun _ => ?_) | refine bi_gt (fun _ => ?_) (fun _ => ?_) | refine bi_le (fun _ => ?_) (fun _ => ?_))
        · intro i hi ih a r w hk hr
          have b1 := db i (by omega)
          have b2 := nb i hi
          have tx := hN.tx i (by omega) (by omega)
          have hd1 : deepR (σ 433) (i + 1) = a + (1 - takesN (σ 433 (231 + (i : Int)))) := by rw [deepR, hk]
          have hr1 : letR (σ 433) c l h (σ 444) (i + 1) = letF (σ 433) c l h i r := by rw [letR, hr]
          unfold letF at hr1
          unfold badAt at b2
          unfold takesN at b2 hd1
          rw [hk] at b1 b2 hr1
          rw [ev_218_3]
          by_cases t1 : σ 433 (231 + (i : Int)) < 40
          · rw [if_pos t1] at b2 hd1 hr1
            have : a < 5 := by omega
            (repeat' first | simp (disch := first | assumption | omega | ((repeat' first | exact ok_nil | apply ok_I | apply ok_R); done) | (simp (disch := first | omega | decide) only [ex_ar_same, ex_ar_diff, kM_diff, ex_u_same, ex_u_diff]; first | assumption | omega)) only [ev_218_0, ev_218_1, ev_218_10, ev_218_11, ev_218_12, ev_218_13, ev_218_2, ev_218_4, ev_218_5, ev_218_6, ev_218_7, ev_218_8, ev_218_9, gf_432_0, gf_432_14, ld_433, ld_444, sd_433, sd_444, x_fall, x_goto, x_iadd, x_isub, x_push, x_ret2, x_ret2b, xc_214, xc_216, xc_217, xl_a0, xl_i1, xl_i2, xl_i3, xl_i4, xl_i5, xl_i6, xn_4, xn_5, xt_i4, xt_i5, xt_i6, y_cmp_ge_f, y_cmp_ge_t, y_cmp_ne_f, y_cmp_ne_t, y_if_eq_f, y_if_eq_t, y_if_lt_f, y_if_lt_t, y_if_ne_f, y_if_ne_t, i_wr_id, kM_diff, Int.reduceToNat, ex_ar_same, ex_ar_ar, ex_ar_diff, ex_u_same, ex_u_diff, b2i_t, b2i_f, ex_div_nn, ex_rem_nn, Int.toNat_zero, Int.toNat_one, Int.reduceAdd, Int.reduceSub, Int.reduceMul, Int.reduceNeg] | refine bb_eq (fun _ => ?_) (fun _ => ?_) | refine bb_ne (fun _ => ?_) (fun _ => ?_) | refine bc_eq (fun _ => ?_) (fun _ => ?_) | refine bc_ne (fun _ => ?_) (fun _ => ?_) | refine bc_lt (fun _ => ?_) (fun _ => ?_) | refine bc_ge (fun _ => ?_) (fun _ => ?_) | refine bc_gt (fun _ => ?_) (fun _ => ?_) | refine bc_le (fun _ => ?_) (fun _ => ?_) | refine bi_eq (fun _ => ?_) (fun _ => ?_) | refine bi_ne (fun _ => ?_) (fun _ => ?_) | refine bi_lt (fun _ => ?_) (fun _ => ?_) | refine bi_ge (fun _ => ?_) (fun _ => ?_) | refine bi_gt (fun _ => ?_) (fun _ => ?_) | refine bi_le (fun _ => ?_) (fun _ => ?_))
            rw [nat_cast_succ]
            exact ih _ _ _ (by omega) hr1
          · rw [if_neg t1] at b2 hd1 hr1
            by_cases t2 : σ 433 (231 + (i : Int)) = 42
            · rw [if_pos t2] at b2 hd1 hr1
              have : 1 ≤ a := by omega
              (repeat' first | simp (disch := first | assumption | omega | ((repeat' first | exact ok_nil | apply ok_I | apply ok_R); done) | (simp (disch := first | omega | decide) only [ex_ar_same, ex_ar_diff, kM_diff, ex_u_same, ex_u_diff]; first | assumption | omega)) only [ev_218_0, ev_218_1, ev_218_10, ev_218_11, ev_218_12, ev_218_13, ev_218_2, ev_218_4, ev_218_5, ev_218_6, ev_218_7, ev_218_8, ev_218_9, gf_432_0, gf_432_14, ld_433, ld_444, sd_433, sd_444, x_fall, x_goto, x_iadd, x_isub, x_push, x_ret2, x_ret2b, xc_214, xc_216, xc_217, xl_a0, xl_i1, xl_i2, xl_i3, xl_i4, xl_i5, xl_i6, xn_4, xn_5, xt_i4, xt_i5, xt_i6, y_cmp_ge_f, y_cmp_ge_t, y_cmp_ne_f, y_cmp_ne_t, y_if_eq_f, y_if_eq_t, y_if_lt_f, y_if_lt_t, y_if_ne_f, y_if_ne_t, i_wr_id, kM_diff, Int.reduceToNat, ex_ar_same, ex_ar_ar, ex_ar_diff, ex_u_same, ex_u_diff, b2i_t, b2i_f, ex_div_nn, ex_rem_nn, Int.toNat_zero, Int.toNat_one, Int.reduceAdd, Int.reduceSub, Int.reduceMul, Int.reduceNeg] | refine bb_eq (fun _ => ?_) (fun _ => ?_) | refine bb_ne (fun _ => ?_) (fun _ => ?_) | refine bc_eq (fun _ => ?_) (fun _ => ?_) | refine bc_ne (fun _ => ?_) (fun _ => ?_) | refine bc_lt (fun _ => ?_) (fun _ => ?_) | refine bc_ge (fun _ => ?_) (fun _ => ?_) | refine bc_gt (fun _ => ?_) (fun _ => ?_) | refine bc_le (fun _ => ?_) (fun _ => ?_) | refine bi_eq (fun _ => ?_) (fun _ => ?_) | refine bi_ne (fun _ => ?_) (fun _ => ?_) | refine bi_lt (fun _ => ?_) (fun _ => ?_) | refine bi_ge (fun _ => ?_) (fun _ => ?_) | refine bi_gt (fun _ => ?_) (fun _ => ?_) | refine bi_le (fun _ => ?_) (fun _ => ?_))
              all_goals
                rw [nat_cast_succ]
                refine ih _ _ _ (by omega) ?_
                rw [hr1]
                (try simp (disch := first | assumption | omega) only [if_pos, if_neg])
            · rw [if_neg t2] at b2 hd1 hr1
              have : 2 ≤ a := by omega
              have e1 : a - 1 - 1 = a - 2 := by omega
              have e2 : a + -1 = a - 1 := by omega
              (repeat' first | simp (disch := first | assumption | omega | ((repeat' first | exact ok_nil | apply ok_I | apply ok_R); done) | (simp (disch := first | omega | decide) only [ex_ar_same, ex_ar_diff, kM_diff, ex_u_same, ex_u_diff]; first | assumption | omega)) only [e1, e2, ev_218_0, ev_218_1, ev_218_10, ev_218_11, ev_218_12, ev_218_13, ev_218_2, ev_218_4, ev_218_5, ev_218_6, ev_218_7, ev_218_8, ev_218_9, gf_432_0, gf_432_14, ld_433, ld_444, sd_433, sd_444, x_fall, x_goto, x_iadd, x_isub, x_push, x_ret2, x_ret2b, xc_214, xc_216, xc_217, xl_a0, xl_i1, xl_i2, xl_i3, xl_i4, xl_i5, xl_i6, xn_4, xn_5, xt_i4, xt_i5, xt_i6, y_cmp_ge_f, y_cmp_ge_t, y_cmp_ne_f, y_cmp_ne_t, y_if_eq_f, y_if_eq_t, y_if_lt_f, y_if_lt_t, y_if_ne_f, y_if_ne_t, i_wr_id, kM_diff, Int.reduceToNat, ex_ar_same, ex_ar_ar, ex_ar_diff, ex_u_same, ex_u_diff, b2i_t, b2i_f, ex_div_nn, ex_rem_nn, Int.toNat_zero, Int.toNat_one, Int.reduceAdd, Int.reduceSub, Int.reduceMul, Int.reduceNeg] | refine bb_eq (fun _ => ?_) (fun _ => ?_) | refine bb_ne (fun _ => ?_) (fun _ => ?_) | refine bc_eq (fun _ => ?_) (fun _ => ?_) | refine bc_ne (fun _ => ?_) (fun _ => ?_) | refine bc_lt (fun _ => ?_) (fun _ => ?_) | refine bc_ge (fun _ => ?_) (fun _ => ?_) | refine bc_gt (fun _ => ?_) (fun _ => ?_) | refine bc_le (fun _ => ?_) (fun _ => ?_) | refine bi_eq (fun _ => ?_) (fun _ => ?_) | refine bi_ne (fun _ => ?_) (fun _ => ?_) | refine bi_lt (fun _ => ?_) (fun _ => ?_) | refine bi_ge (fun _ => ?_) (fun _ => ?_) | refine bi_gt (fun _ => ?_) (fun _ => ?_) | refine bi_le (fun _ => ?_) (fun _ => ?_))
              all_goals
                rw [nat_cast_succ]
                refine ih _ _ _ (by omega) ?_
                rw [hr1]
                first | rw [b2i_t (by assumption)] | rw [b2i_f (by assumption)]
      simp (disch := first | assumption | omega | ((repeat' first | exact ok_nil | apply ok_I | apply ok_R); done) | (simp (disch := first | omega | decide) only [ex_ar_same, ex_ar_diff, kM_diff, ex_u_same, ex_u_diff]; first | assumption | omega)) only [ev_218_0, ev_218_1, ev_218_10, ev_218_11, ev_218_12, ev_218_13, ev_218_2, ev_218_4, ev_218_5, ev_218_6, ev_218_7, ev_218_8, ev_218_9, gf_432_0, gf_432_14, ld_433, ld_444, sd_433, sd_444, x_fall, x_goto, x_iadd, x_isub, x_push, x_ret2, x_ret2b, xc_214, xc_216, xc_217, xl_a0, xl_i1, xl_i2, xl_i3, xl_i4, xl_i5, xl_i6, xn_4, xn_5, xt_i4, xt_i5, xt_i6, y_cmp_ge_f, y_cmp_ge_t, y_cmp_ne_f, y_cmp_ne_t, y_if_eq_f, y_if_eq_t, y_if_lt_f, y_if_lt_t, y_if_ne_f, y_if_ne_t, i_wr_id, kM_diff, Int.reduceToNat, ex_ar_same, ex_ar_ar, ex_ar_diff, ex_u_same, ex_u_diff, b2i_t, b2i_f, ex_div_nn, ex_rem_nn, Int.toNat_zero, Int.toNat_one, Int.reduceAdd, Int.reduceSub, Int.reduceMul, Int.reduceNeg]
      have := lp 0 (by omega) 0 (σ 444) (vL 0) rfl rfl
      rw [ex_ar_id] at this
      exact this
theorem xc_218 {rt d : Nat} {J : Nat → List ex_V → List ex_V → ex_H → Option ex_R} {is : List Instr} {ls st : List ex_V} {L : Nat} {σ : ex_S} {c l h : Int} (hN : NI (σ 433)) (h1 : 0 ≤ c) (h2 : c < 8) (h3 : 0 ≤ l) (h4 : l < 5) (hd : 1 < d) (hok : okN 8 st = true) : ex_xs rt J (ex_cd d) (.invokevirtual 218 :: is) ls (vI h :: vI l :: vI c :: vR 432 :: st) (SH L, σ) = ex_xs rt J (ex_cd d) is ls (vI (b2i (letP (σ 433) (σ 444) c l h)) :: st) (SH L, letM σ c l h) := x_call1 (Or.inl rfl) rfl (sh_432 _) (Or.inl ⟨rfl, rfl⟩) (as := [vI c, vI l, vI h]) rfl rfl (okN_ok hok) rfl (sp_218 hd hN h1 h2 h3 h4)
def letsM (σ : ex_S) (c l h : Int) : Int × ex_S := if (0 ≤ c ∧ c < σ 433 1) ∧ (0 ≤ l ∧ l < σ 433 0) ∧ 0 ≤ h ∧ h ≤ 23 then (b2i (letP (σ 433) (σ 444) c l h), letM σ c l h) else (-100001, fndM σ)
theorem sp_219 {d : Nat} (hd : 2 < d) {L : Nat} {σ : ex_S} {c l h : Int} (hN : NI (σ 433)) : ex_cd d 219 [vR 432, vI c, vI l, vI h] (SH L, σ) = some ([vI (letsM σ c l h).1], (SH L, (letsM σ c l h).2)) := by
  rw [ex_cd_eq (by omega)]
  show ex_ev (d - 1) 219 0 [vR 432, vI c, vI l, vI h] [] (SH L, σ) = _
  (have := hN.a0; have := hN.b0; have := hN.a1; have := hN.b1; have := hN.a2; have := hN.b2; have := hN.a3; have := hN.b3; have := hN.a4; have := hN.b4; have := hN.a5; have := hN.b5; have := hN.a7; have := hN.b7; have := hN.a8; have := hN.b8; have := hN.a9; have := hN.b9; have := hN.a10; have := hN.b10; have := hN.oM; have := hN.oP)
  unfold letsM
  by_cases g1 : 0 ≤ c ∧ c < σ 433 1
  · by_cases g2 : 0 ≤ l ∧ l < σ 433 0
    · by_cases g3 : 0 ≤ h ∧ h ≤ 23
      · rw [if_pos ⟨g1, g2, g3⟩]
        (repeat' first | simp (disch := first | assumption | omega | ((repeat' first | exact ok_nil | apply ok_I | apply ok_R); done) | (simp (disch := first | omega | decide) only [ex_ar_same, ex_ar_diff, kM_diff, ex_u_same, ex_u_diff]; first | assumption | omega)) only [ev_219_0, ev_219_1, ev_219_2, ev_219_3, ev_219_4, x_fall, x_goto, x_push, x_ret1, xc_142, xc_144, xc_145, xc_146, xc_218, xl_a0, xl_i1, xl_i2, xl_i3, y_if_eq_f, y_if_eq_t, y_if_ne_f, y_if_ne_t, i_wr_id, kM_diff, Int.reduceToNat, ex_ar_same, ex_ar_ar, ex_ar_diff, ex_u_same, ex_u_diff, b2i_t, b2i_f, ex_div_nn, ex_rem_nn, Int.toNat_zero, Int.toNat_one, Int.reduceAdd, Int.reduceSub, Int.reduceMul, Int.reduceNeg] | refine bb_eq (fun _ => ?_) (fun _ => ?_) | refine bb_ne (fun _ => ?_) (fun _ => ?_) | refine bc_eq (fun _ => ?_) (fun _ => ?_) | refine bc_ne (fun _ => ?_) (fun _ => ?_) | refine bc_lt (fun _ => ?_) (fun _ => ?_) | refine bc_ge (fun _ => ?_) (fun _ => ?_) | refine bc_gt (fun _ => ?_) (fun _ => ?_) | refine bc_le (fun _ => ?_) (fun _ => ?_) | refine bi_eq (fun _ => ?_) (fun _ => ?_) | refine bi_ne (fun _ => ?_) (fun _ => ?_) | refine bi_lt (fun _ => ?_) (fun _ => ?_) | refine bi_ge (fun _ => ?_) (fun _ => ?_) | refine bi_gt (fun _ => ?_) (fun _ => ?_) | refine bi_le (fun _ => ?_) (fun _ => ?_))
      · rw [if_neg (by omega)]
        (repeat' first | simp (disch := first | assumption | omega | ((repeat' first | exact ok_nil | apply ok_I | apply ok_R); done) | (simp (disch := first | omega | decide) only [ex_ar_same, ex_ar_diff, kM_diff, ex_u_same, ex_u_diff]; first | assumption | omega)) only [ev_219_0, ev_219_1, ev_219_2, ev_219_3, ev_219_4, x_fall, x_goto, x_push, x_ret1, xc_142, xc_144, xc_145, xc_146, xc_218, xl_a0, xl_i1, xl_i2, xl_i3, y_if_eq_f, y_if_eq_t, y_if_ne_f, y_if_ne_t, i_wr_id, kM_diff, Int.reduceToNat, ex_ar_same, ex_ar_ar, ex_ar_diff, ex_u_same, ex_u_diff, b2i_t, b2i_f, ex_div_nn, ex_rem_nn, Int.toNat_zero, Int.toNat_one, Int.reduceAdd, Int.reduceSub, Int.reduceMul, Int.reduceNeg] | refine bb_eq (fun _ => ?_) (fun _ => ?_) | refine bb_ne (fun _ => ?_) (fun _ => ?_) | refine bc_eq (fun _ => ?_) (fun _ => ?_) | refine bc_ne (fun _ => ?_) (fun _ => ?_) | refine bc_lt (fun _ => ?_) (fun _ => ?_) | refine bc_ge (fun _ => ?_) (fun _ => ?_) | refine bc_gt (fun _ => ?_) (fun _ => ?_) | refine bc_le (fun _ => ?_) (fun _ => ?_) | refine bi_eq (fun _ => ?_) (fun _ => ?_) | refine bi_ne (fun _ => ?_) (fun _ => ?_) | refine bi_lt (fun _ => ?_) (fun _ => ?_) | refine bi_ge (fun _ => ?_) (fun _ => ?_) | refine bi_gt (fun _ => ?_) (fun _ => ?_) | refine bi_le (fun _ => ?_) (fun _ => ?_))
    · rw [if_neg (by omega)]
      (repeat' first | simp (disch := first | assumption | omega | ((repeat' first | exact ok_nil | apply ok_I | apply ok_R); done) | (simp (disch := first | omega | decide) only [ex_ar_same, ex_ar_diff, kM_diff, ex_u_same, ex_u_diff]; first | assumption | omega)) only [ev_219_0, ev_219_1, ev_219_2, ev_219_3, ev_219_4, x_fall, x_goto, x_push, x_ret1, xc_142, xc_144, xc_145, xc_146, xc_218, xl_a0, xl_i1, xl_i2, xl_i3, y_if_eq_f, y_if_eq_t, y_if_ne_f, y_if_ne_t, i_wr_id, kM_diff, Int.reduceToNat, ex_ar_same, ex_ar_ar, ex_ar_diff, ex_u_same, ex_u_diff, b2i_t, b2i_f, ex_div_nn, ex_rem_nn, Int.toNat_zero, Int.toNat_one, Int.reduceAdd, Int.reduceSub, Int.reduceMul, Int.reduceNeg] | refine bb_eq (fun _ => ?_) (fun _ => ?_) | refine bb_ne (fun _ => ?_) (fun _ => ?_) | refine bc_eq (fun _ => ?_) (fun _ => ?_) | refine bc_ne (fun _ => ?_) (fun _ => ?_) | refine bc_lt (fun _ => ?_) (fun _ => ?_) | refine bc_ge (fun _ => ?_) (fun _ => ?_) | refine bc_gt (fun _ => ?_) (fun _ => ?_) | refine bc_le (fun _ => ?_) (fun _ => ?_) | refine bi_eq (fun _ => ?_) (fun _ => ?_) | refine bi_ne (fun _ => ?_) (fun _ => ?_) | refine bi_lt (fun _ => ?_) (fun _ => ?_) | refine bi_ge (fun _ => ?_) (fun _ => ?_) | refine bi_gt (fun _ => ?_) (fun _ => ?_) | refine bi_le (fun _ => ?_) (fun _ => ?_))
  · rw [if_neg (by omega)]
    (repeat' first | simp (disch := first | assumption | omega | ((repeat' first | exact ok_nil | apply ok_I | apply ok_R); done) | (simp (disch := first | omega | decide) only [ex_ar_same, ex_ar_diff, kM_diff, ex_u_same, ex_u_diff]; first | assumption | omega)) only [ev_219_0, ev_219_1, ev_219_2, ev_219_3, ev_219_4, x_fall, x_goto, x_push, x_ret1, xc_142, xc_144, xc_145, xc_146, xc_218, xl_a0, xl_i1, xl_i2, xl_i3, y_if_eq_f, y_if_eq_t, y_if_ne_f, y_if_ne_t, i_wr_id, kM_diff, Int.reduceToNat, ex_ar_same, ex_ar_ar, ex_ar_diff, ex_u_same, ex_u_diff, b2i_t, b2i_f, ex_div_nn, ex_rem_nn, Int.toNat_zero, Int.toNat_one, Int.reduceAdd, Int.reduceSub, Int.reduceMul, Int.reduceNeg] | refine bb_eq (fun _ => ?_) (fun _ => ?_) | refine bb_ne (fun _ => ?_) (fun _ => ?_) | refine bc_eq (fun _ => ?_) (fun _ => ?_) | refine bc_ne (fun _ => ?_) (fun _ => ?_) | refine bc_lt (fun _ => ?_) (fun _ => ?_) | refine bc_ge (fun _ => ?_) (fun _ => ?_) | refine bc_gt (fun _ => ?_) (fun _ => ?_) | refine bc_le (fun _ => ?_) (fun _ => ?_) | refine bi_eq (fun _ => ?_) (fun _ => ?_) | refine bi_ne (fun _ => ?_) (fun _ => ?_) | refine bi_lt (fun _ => ?_) (fun _ => ?_) | refine bi_ge (fun _ => ?_) (fun _ => ?_) | refine bi_gt (fun _ => ?_) (fun _ => ?_) | refine bi_le (fun _ => ?_) (fun _ => ?_))
theorem xc_219 {rt d : Nat} {J : Nat → List ex_V → List ex_V → ex_H → Option ex_R} {is : List Instr} {ls st : List ex_V} {L : Nat} {σ : ex_S} {c l h : Int} (hN : NI (σ 433)) (hd : 2 < d) (hok : okN 8 st = true) : ex_xs rt J (ex_cd d) (.invokevirtual 219 :: is) ls (vI h :: vI l :: vI c :: vR 432 :: st) (SH L, σ) = ex_xs rt J (ex_cd d) is ls (vI (letsM σ c l h).1 :: st) (SH L, (letsM σ c l h).2) := x_call1 (Or.inl rfl) rfl (sh_432 _) (Or.inl ⟨rfl, rfl⟩) (as := [vI c, vI l, vI h]) rfl rfl (okN_ok hok) rfl (sp_219 hd hN)
