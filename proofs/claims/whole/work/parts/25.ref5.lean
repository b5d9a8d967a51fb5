/-! the reference: parking, shunts, going, nights, hours and the like -/
theorem b2i_bd (p : Prop) [Decidable p] : 0 ≤ b2i p ∧ b2i p ≤ 1 := by rcases b2i_01 p with h | h <;> omega
theorem b2i_no {s : Int} (h : s < 0) : b2i (0 ≤ s) = 0 := b2i_f (by omega)
theorem b2i_yes {s : Int} (h : 0 ≤ s) : b2i (0 ≤ s) = 1 := b2i_t h
theorem cntS_le (n : Int → Int) : cntS n ≤ 8 := by
  unfold cntS
  have h0 := b2i_bd (0 ≤ standN n 0)
  have h1 := b2i_bd (0 ≤ standN n 1)
  have h2 := b2i_bd (0 ≤ standN n 2)
  have h3 := b2i_bd (0 ≤ standN n 3)
  have h4 := b2i_bd (0 ≤ standN n 4)
  have h5 := b2i_bd (0 ≤ standN n 5)
  have h6 := b2i_bd (0 ≤ standN n 6)
  have h7 := b2i_bd (0 ≤ standN n 7)
  omega
theorem cntS_lt (n : Int → Int) {c : Int} (h1 : 0 ≤ c) (h2 : c < 8) (h : standN n c < 0) : cntS n ≤ 7 := by
  unfold cntS
  have q0 := b2i_bd (0 ≤ standN n 0)
  have q1 := b2i_bd (0 ≤ standN n 1)
  have q2 := b2i_bd (0 ≤ standN n 2)
  have q3 := b2i_bd (0 ≤ standN n 3)
  have q4 := b2i_bd (0 ≤ standN n 4)
  have q5 := b2i_bd (0 ≤ standN n 5)
  have q6 := b2i_bd (0 ≤ standN n 6)
  have q7 := b2i_bd (0 ≤ standN n 7)
  rcases (show c = 0 ∨ c = 1 ∨ c = 2 ∨ c = 3 ∨ c = 4 ∨ c = 5 ∨ c = 6 ∨ c = 7 by omega) with e | e | e | e | e | e | e | e
  all_goals
    subst e
    have := b2i_no h
    omega
theorem many_sum {n : Int → Int} (hN : NI n) {l l' : Int} (h1 : 0 ≤ l) (h2 : l < 5) (h3 : 0 ≤ l') (h4 : l' < 5) (h5 : l ≠ l') : n (46 + l) + n (46 + l') ≤ cntS n := by
  have hs := hN.sm
  have m0 := hN.oM 0 (by omega) (by omega)
  have m1 := hN.oM 1 (by omega) (by omega)
  have m2 := hN.oM 2 (by omega) (by omega)
  have m3 := hN.oM 3 (by omega) (by omega)
  have m4 := hN.oM 4 (by omega) (by omega)
  simp only [Int.reduceAdd] at m0 m1 m2 m3 m4
  rcases (show l = 0 ∨ l = 1 ∨ l = 2 ∨ l = 3 ∨ l = 4 by omega) with e | e | e | e | e
  all_goals
    subst e
    rcases (show l' = 0 ∨ l' = 1 ∨ l' = 2 ∨ l' = 3 ∨ l' = 4 by omega) with e | e | e | e | e
    all_goals
      subst e
      simp only [Int.reduceAdd]
      omega
theorem many_one {n : Int → Int} (hN : NI n) {l : Int} (h1 : 0 ≤ l) (h2 : l < 5) : n (46 + l) ≤ cntS n := by
  have hs := hN.sm
  have m0 := hN.oM 0 (by omega) (by omega)
  have m1 := hN.oM 1 (by omega) (by omega)
  have m2 := hN.oM 2 (by omega) (by omega)
  have m3 := hN.oM 3 (by omega) (by omega)
  have m4 := hN.oM 4 (by omega) (by omega)
  simp only [Int.reduceAdd] at m0 m1 m2 m3 m4
  rcases (show l = 0 ∨ l = 1 ∨ l = 2 ∨ l = 3 ∨ l = 4 by omega) with e | e | e | e | e
  all_goals
    subst e
    simp only [Int.reduceAdd]
    omega
def parkN (n : Int → Int) (c l : Int) : Int := if 0 ≤ standN n c then -100007 else if ¬ (n (99 + c) ≤ n (21 + l) ∧ n (107 + c) ≤ n (26 + l)) then -100004 else if n (31 + l) = 1 ∨ n (41 + l) = 12 then -100008 else if leftN n l < n (91 + c) then -100005 else 0
def parkM (σ : ex_S) (c l : Int) : Int × ex_S := if (0 ≤ c ∧ c < σ 433 1) ∧ 0 ≤ l ∧ l < σ 433 0 then (if parkN (σ 433) c l = 0 then (comesF (σ 433) c l (46 + l), ex_ar (keepM σ) 433 (comesF (σ 433) c l)) else (parkN (σ 433) c l, fndM σ)) else (-100001, fndM σ)
theorem sp_169 {d : Nat} (hd : 3 < d) {L : Nat} {σ : ex_S} {c l : Int} (hN : NI (σ 433)) (hk : 0 ≤ σ 432 2) (hk2 : σ 432 2 ≤ 16) : ex_cd d 169 [vR 432, vI c, vI l] (SH L, σ) = some ([vI (parkM σ c l).1], (SH L, (parkM σ c l).2)) := by
  rw [ex_cd_eq (by omega)]
  show ex_ev (d - 1) 169 0 [vR 432, vI c, vI l] [] (SH L, σ) = _
  (have := hN.a0; have := hN.b0; have := hN.a1; have := hN.b1; have := hN.a2; have := hN.b2; have := hN.a3; have := hN.b3; have := hN.a4; have := hN.b4; have := hN.a5; have := hN.b5; have := hN.a7; have := hN.b7; have := hN.a8; have := hN.b8; have := hN.a9; have := hN.b9; have := hN.a10; have := hN.b10; have := hN.oM; have := hN.oP)
  unfold parkM
  by_cases g1 : 0 ≤ c ∧ c < σ 433 1
  · by_cases g2 : 0 ≤ l ∧ l < σ 433 0
    · rw [if_pos ⟨g1, g2⟩]
      have y := hN.cy l (by omega) (by omega)
      have m := hN.oM l (by omega) (by omega)
      have ms : standN (σ 433) c < 0 → σ 433 (46 + l) < 8 := fun h => by
        have := cntS_lt (σ 433) g1.1 (by omega) h
        have := many_one hN g2.1 (show l < 5 by omega)
        omega
      by_cases p1 : standN (σ 433) c < 0
      · have ms' := ms p1
        unfold parkN
        (repeat' first | simp (disch := first | assumption | omega | ((repeat' first | exact ok_nil | apply ok_I | apply ok_R); done) | (simp (disch := first | omega | decide) only [ex_ar_same, ex_ar_diff, kM_diff, ex_u_same, ex_u_diff]; first | assumption | omega)) only [ev_169_0, ev_169_1, ev_169_2, ev_169_3, ev_169_4, ev_169_5, ev_169_6, gf_432_0, ld_433, x_fall, x_iadd, x_push, x_ret1, xc_142, xc_144, xc_145, xc_147, xc_153, xc_157, xc_162, xc_164, xc_167, xl_a0, xl_i1, xl_i2, y_cmp_ge_f, y_cmp_ge_t, y_if_eq_f, y_if_eq_t, y_if_lt_f, y_if_lt_t, y_if_ne_f, y_if_ne_t, i_wr_id, kM_diff, Int.reduceToNat, ex_ar_same, ex_ar_ar, ex_ar_diff, ex_u_same, ex_u_diff, b2i_t, b2i_f, ex_div_nn, ex_rem_nn, Int.toNat_zero, Int.toNat_one, Int.reduceAdd, Int.reduceSub, Int.reduceMul, Int.reduceNeg] | refine bb_eq (fun _ => ?_) (fun _ => ?_) | refine bb_ne (fun _ => ?_) (fun _ => ?_) | refine bc_eq (fun _ => ?_) (fun _ => ?_) | refine bc_ne (fun _ => ?_) (fun _ => ?_) | refine bc_lt (fun _ => ?_) (fun _ => ?_) | refine bc_ge (fun _ => ?_) (fun _ => ?_) | refine bc_gt (fun _ => ?_) (fun _ => ?_) | refine bc_le (fun _ => ?_) (fun _ => ?_) | refine bi_eq (fun _ => ?_) (fun _ => ?_) | refine bi_ne (fun _ => ?_) (fun _ => ?_) | refine bi_lt (fun _ => ?_) (fun _ => ?_) | refine bi_ge (fun _ => ?_) (fun _ => ?_) | refine bi_gt (fun _ => ?_) (fun _ => ?_) | refine bi_le (fun _ => ?_) (fun _ => ?_))
        all_goals (try (repeat (first | rw [if_pos (by first | assumption | omega)] | rw [if_neg (by first | assumption | omega)])))
      · unfold parkN
        (repeat' first | simp (disch := first | assumption | omega | ((repeat' first | exact ok_nil | apply ok_I | apply ok_R); done) | (simp (disch := first | omega | decide) only [ex_ar_same, ex_ar_diff, kM_diff, ex_u_same, ex_u_diff]; first | assumption | omega)) only [ev_169_0, ev_169_1, ev_169_2, ev_169_3, ev_169_4, ev_169_5, ev_169_6, gf_432_0, ld_433, x_fall, x_iadd, x_push, x_ret1, xc_142, xc_144, xc_145, xc_147, xc_153, xc_157, xc_162, xc_164, xc_167, xl_a0, xl_i1, xl_i2, y_cmp_ge_f, y_cmp_ge_t, y_if_eq_f, y_if_eq_t, y_if_lt_f, y_if_lt_t, y_if_ne_f, y_if_ne_t, i_wr_id, kM_diff, Int.reduceToNat, ex_ar_same, ex_ar_ar, ex_ar_diff, ex_u_same, ex_u_diff, b2i_t, b2i_f, ex_div_nn, ex_rem_nn, Int.toNat_zero, Int.toNat_one, Int.reduceAdd, Int.reduceSub, Int.reduceMul, Int.reduceNeg] | refine bb_eq (fun _ => ?_) (fun _ => ?_) | refine bb_ne (fun _ => ?_) (fun _ => ?_) | refine bc_eq (fun _ => ?_) (fun _ => ?_) | refine bc_ne (fun _ => ?_) (fun _ => ?_) | refine bc_lt (fun _ => ?_) (fun _ => ?_) | refine bc_ge (fun _ => ?_) (fun _ => ?_) | refine bc_gt (fun _ => ?_) (fun _ => ?_) | refine bc_le (fun _ => ?_) (fun _ => ?_) | refine bi_eq (fun _ => ?_) (fun _ => ?_) | refine bi_ne (fun _ => ?_) (fun _ => ?_) | refine bi_lt (fun _ => ?_) (fun _ => ?_) | refine bi_ge (fun _ => ?_) (fun _ => ?_) | refine bi_gt (fun _ => ?_) (fun _ => ?_) | refine bi_le (fun _ => ?_) (fun _ => ?_))
        all_goals (try (repeat (first | rw [if_pos (by first | assumption | omega)] | rw [if_neg (by first | assumption | omega)])))
    · rw [if_neg (by omega)]
      (repeat' first | simp (disch := first | assumption | omega | ((repeat' first | exact ok_nil | apply ok_I | apply ok_R); done) | (simp (disch := first | omega | decide) only [ex_ar_same, ex_ar_diff, kM_diff, ex_u_same, ex_u_diff]; first | assumption | omega)) only [ev_169_0, ev_169_1, ev_169_2, ev_169_3, ev_169_4, ev_169_5, ev_169_6, gf_432_0, ld_433, x_fall, x_iadd, x_push, x_ret1, xc_142, xc_144, xc_145, xc_147, xc_153, xc_157, xc_162, xc_164, xc_167, xl_a0, xl_i1, xl_i2, y_cmp_ge_f, y_cmp_ge_t, y_if_eq_f, y_if_eq_t, y_if_lt_f, y_if_lt_t, y_if_ne_f, y_if_ne_t, i_wr_id, kM_diff, Int.reduceToNat, ex_ar_same, ex_ar_ar, ex_ar_diff, ex_u_same, ex_u_diff, b2i_t, b2i_f, ex_div_nn, ex_rem_nn, Int.toNat_zero, Int.toNat_one, Int.reduceAdd, Int.reduceSub, Int.reduceMul, Int.reduceNeg] | refine bb_eq (fun _ => ?_) (fun _ => ?_) | refine bb_ne (fun _ => ?_) (fun _ => ?_) | refine bc_eq (fun _ => ?_) (fun _ => ?_) | refine bc_ne (fun _ => ?_) (fun _ => ?_) | refine bc_lt (fun _ => ?_) (fun _ => ?_) | refine bc_ge (fun _ => ?_) (fun _ => ?_) | refine bc_gt (fun _ => ?_) (fun _ => ?_) | refine bc_le (fun _ => ?_) (fun _ => ?_) | refine bi_eq (fun _ => ?_) (fun _ => ?_) | refine bi_ne (fun _ => ?_) (fun _ => ?_) | refine bi_lt (fun _ => ?_) (fun _ => ?_) | refine bi_ge (fun _ => ?_) (fun _ => ?_) | refine bi_gt (fun _ => ?_) (fun _ => ?_) | refine bi_le (fun _ => ?_) (fun _ => ?_))
  · rw [if_neg (by omega)]
    (repeat' first | simp (disch := first | assumption | omega | ((repeat' first | exact ok_nil | apply ok_I | apply ok_R); done) | (simp (disch := first | omega | decide) only [ex_ar_same, ex_ar_diff, kM_diff, ex_u_same, ex_u_diff]; first | assumption | omega)) only [ev_169_0, ev_169_1, ev_169_2, ev_169_3, ev_169_4, ev_169_5, ev_169_6, gf_432_0, ld_433, x_fall, x_iadd, x_push, x_ret1, xc_142, xc_144, xc_145, xc_147, xc_153, xc_157, xc_162, xc_164, xc_167, xl_a0, xl_i1, xl_i2, y_cmp_ge_f, y_cmp_ge_t, y_if_eq_f, y_if_eq_t, y_if_lt_f, y_if_lt_t, y_if_ne_f, y_if_ne_t, i_wr_id, kM_diff, Int.reduceToNat, ex_ar_same, ex_ar_ar, ex_ar_diff, ex_u_same, ex_u_diff, b2i_t, b2i_f, ex_div_nn, ex_rem_nn, Int.toNat_zero, Int.toNat_one, Int.reduceAdd, Int.reduceSub, Int.reduceMul, Int.reduceNeg] | refine bb_eq (fun _ => ?_) (fun _ => ?_) | refine bb_ne (fun _ => ?_) (fun _ => ?_) | refine bc_eq (fun _ => ?_) (fun _ => ?_) | refine bc_ne (fun _ => ?_) (fun _ => ?_) | refine bc_lt (fun _ => ?_) (fun _ => ?_) | refine bc_ge (fun _ => ?_) (fun _ => ?_) | refine bc_gt (fun _ => ?_) (fun _ => ?_) | refine bc_le (fun _ => ?_) (fun _ => ?_) | refine bi_eq (fun _ => ?_) (fun _ => ?_) | refine bi_ne (fun _ => ?_) (fun _ => ?_) | refine bi_lt (fun _ => ?_) (fun _ => ?_) | refine bi_ge (fun _ => ?_) (fun _ => ?_) | refine bi_gt (fun _ => ?_) (fun _ => ?_) | refine bi_le (fun _ => ?_) (fun _ => ?_))
theorem xc_169 {rt d : Nat} {J : Nat → List ex_V → List ex_V → ex_H → Option ex_R} {is : List Instr} {ls st : List ex_V} {L : Nat} {σ : ex_S} {c l : Int} (hN : NI (σ 433)) (hk : 0 ≤ σ 432 2) (hk2 : σ 432 2 ≤ 16) (hd : 3 < d) (hok : okN 8 st = true) : ex_xs rt J (ex_cd d) (.invokevirtual 169 :: is) ls (vI l :: vI c :: vR 432 :: st) (SH L, σ) = ex_xs rt J (ex_cd d) is ls (vI (parkM σ c l).1 :: st) (SH L, (parkM σ c l).2) := x_call1 (Or.inl rfl) rfl (sh_432 _) (Or.inl ⟨rfl, rfl⟩) (as := [vI c, vI l]) rfl rfl (okN_ok hok) rfl (sp_169 hd hN hk hk2)
def doesF (n : Int → Int) (c l : Int) : Int → Int := comesF (goesF n (standN n c / 8)) c l
theorem sp_171 {d : Nat} (hd : 3 < d) {L : Nat} {σ : ex_S} {c l : Int} (hN : NI (σ 433)) (h1 : 0 ≤ c) (h2 : c < 8) (h3 : 0 ≤ l) (h4 : l < 5) (h5 : 0 ≤ standN (σ 433) c) (h6 : standN (σ 433) c / 8 ≠ l) : ex_cd d 171 [vR 432, vI c, vI l] (SH L, σ) = some ([], (SH L, ex_ar σ 433 (doesF (σ 433) c l))) := by
  rw [ex_cd_eq (by omega)]
  show ex_ev (d - 1) 171 0 [vR 432, vI c, vI l] [] (SH L, σ) = _
  (have := hN.a0; have := hN.b0; have := hN.a1; have := hN.b1; have := hN.a2; have := hN.b2; have := hN.a3; have := hN.b3; have := hN.a4; have := hN.b4; have := hN.a5; have := hN.b5; have := hN.a7; have := hN.b7; have := hN.a8; have := hN.b8; have := hN.a9; have := hN.b9; have := hN.a10; have := hN.b10; have := hN.oM; have := hN.oP)
  rcases stand_lo (σ 433) c (by assumption) (by assumption) with h | ⟨q1, q2, q3, q4, q5⟩
  · omega
  · have y := hN.cy l (by omega) (by omega)
    have y' := hN.cy (standN (σ 433) c / 8) (by omega) (by omega)
    have m := hN.oM l (by omega) (by omega)
    have m' := hN.oM (standN (σ 433) c / 8) (by omega) (by omega)
    have ms := many_sum hN h3 h4 (show 0 ≤ standN (σ 433) c / 8 by omega) (by omega) (fun e => h6 e.symm)
    have mc := cntS_le (σ 433)
    have e1 : goesF (σ 433) (standN (σ 433) c / 8) (41 + l) = σ 433 (41 + l) := by unfold goesF turnF; rw [ex_u_diff _ _ (by omega), ex_u_diff _ _ (by omega)]
    have e2 : goesF (σ 433) (standN (σ 433) c / 8) (46 + l) = σ 433 (46 + l) := by unfold goesF turnF; rw [ex_u_diff _ _ (by omega), ex_u_diff _ _ (by omega)]
    unfold doesF
    (repeat' first | simp (disch := first | assumption | omega | ((repeat' first | exact ok_nil | apply ok_I | apply ok_R); done) | (simp (disch := first | omega | decide) only [ex_ar_same, ex_ar_diff, kM_diff, ex_u_same, ex_u_diff]; first | assumption | omega)) only [ev_171_0, x_idiv, x_push, x_ret0, xc_157, xc_167, xc_168, xl_a0, xl_i1, xl_i2, i_wr_id, kM_diff, Int.reduceToNat, ex_ar_same, ex_ar_ar, ex_ar_diff, ex_u_same, ex_u_diff, b2i_t, b2i_f, ex_div_nn, ex_rem_nn, Int.toNat_zero, Int.toNat_one, Int.reduceAdd, Int.reduceSub, Int.reduceMul, Int.reduceNeg] | refine bb_eq (fun _ => ?_) (fun _ => ?_) | refine bb_ne (fun _ => ?_) (fun _ => ?_) | refine bc_eq (fun _ => ?_) (fun _ => ?_) | refine bc_ne (fun _ => ?_) (fun _ => ?_) | refine bc_lt (fun _ => ?_) (fun _ => ?_) | refine bc_ge (fun _ => ?_) (fun _ => ?_) | refine bc_gt (fun _ => ?_) (fun _ => ?_) | refine bc_le (fun _ => ?_) (fun _ => ?_) | refine bi_eq (fun _ => ?_) (fun _ => ?_) | refine bi_ne (fun _ => ?_) (fun _ => ?_) | refine bi_lt (fun _ => ?_) (fun _ => ?_) | refine bi_ge (fun _ => ?_) (fun _ => ?_) | refine bi_gt (fun _ => ?_) (fun _ => ?_) | refine bi_le (fun _ => ?_) (fun _ => ?_))
theorem xc_171 {rt d : Nat} {J : Nat → List ex_V → List ex_V → ex_H → Option ex_R} {is : List Instr} {ls st : List ex_V} {L : Nat} {σ : ex_S} {c l : Int} (hN : NI (σ 433)) (h1 : 0 ≤ c) (h2 : c < 8) (h3 : 0 ≤ l) (h4 : l < 5) (h5 : 0 ≤ standN (σ 433) c) (h6 : standN (σ 433) c / 8 ≠ l) (hd : 3 < d) (hok : okN 8 st = true) : ex_xs rt J (ex_cd d) (.invokevirtual 171 :: is) ls (vI l :: vI c :: vR 432 :: st) (SH L, σ) = ex_xs rt J (ex_cd d) is ls (st) (SH L, ex_ar σ 433 (doesF (σ 433) c l)) := x_call1 (Or.inl rfl) rfl (sh_432 _) (Or.inl ⟨rfl, rfl⟩) (as := [vI c, vI l]) rfl rfl (okN_ok hok) rfl (sp_171 hd hN h1 h2 h3 h4 h5 h6)
def shF (n : Int → Int) (j : Nat) : Int → Int := fun k => if 171 ≤ k ∧ k < 171 + (j : Int) then n (k + 1) else n k
theorem shF_0 (n : Int → Int) : shF n 0 = n := by funext k; unfold shF; rw [if_neg (by omega)]
theorem shF_s (n : Int → Int) (j : Nat) : ex_u (shF n j) (171 + (j : Int)) (n (171 + (j : Int) + 1)) = shF n (j + 1) := by
  funext k
  by_cases h : k = 171 + (j : Int)
  · subst h
    rw [ex_u_same]
    unfold shF
    rw [if_pos (by omega)]
  · rw [ex_u_diff _ _ h]
    unfold shF
    by_cases h2 : 171 ≤ k ∧ k < 171 + (j : Int)
    · rw [if_pos h2, if_pos (by omega)]
    · rw [if_neg h2, if_neg (by omega)]
def ledF (n : Int → Int) (z : Int) : Int → Int := if n 8 = 60 then ex_u (ex_u (ex_u (shF n 59) 8 59) 230 z) 8 60 else ex_u (ex_u n (171 + n 8) z) 8 (n 8 + 1)
theorem sp_172 {d : Nat} (hd : 0 < d) {L : Nat} {σ : ex_S} {z : Int} (hN0 : 0 ≤ σ 433 8) (hN1 : σ 433 8 ≤ 60) : ex_cd d 172 [vR 432, vI z] (SH L, σ) = some ([], (SH L, ex_ar σ 433 (ledF (σ 433) z))) := by
  rw [ex_cd_eq (by omega)]
  show ex_ev (d - 1) 172 0 [vR 432, vI z, vL 0] [] (SH L, σ) = _
  unfold ledF
  by_cases h : σ 433 8 = 60
  · rw [if_pos h]
    have lp : ∀ i : Nat, i ≤ 59 → ex_ev (d - 1) 172 1 [vR 432, vI z, vI ((i : Int) + 1)] [] (SH L, ex_ar σ 433 (shF (σ 433) i)) = some ([], (SH L, ex_ar σ 433 (ex_u (ex_u (ex_u (shF (σ 433) 59) 8 59) 230 z) 8 60))) := by
      refine down ?_ ?_
      · have e8 : shF (σ 433) 59 8 = 60 := by unfold shF; rw [if_neg (by omega)]; exact h
        rw [ev_172_1]
        simp (disch := first | assumption | omega | ((repeat' first | exact ok_nil | apply ok_I | apply ok_R); done) | (simp (disch := first | omega | decide) only [ex_ar_same, ex_ar_diff, kM_diff, ex_u_same, ex_u_diff]; first | assumption | omega)) only [e8, ev_172_0, ev_172_2, ev_172_3, gf_432_0, ld_433, sd_433, x_dup2, x_fall, x_goto, x_iadd, x_isub, x_push, x_ret0, xl_a0, xl_i1, xl_i2, xn_2, xt_i2, y_cmp_ge_f, y_cmp_ge_t, y_cmp_ne_f, y_cmp_ne_t, i_wr_id, kM_diff, Int.reduceToNat, ex_ar_same, ex_ar_ar, ex_ar_diff, ex_u_same, ex_u_diff, b2i_t, b2i_f, ex_div_nn, ex_rem_nn, Int.toNat_zero, Int.toNat_one, Int.reduceAdd, Int.reduceSub, Int.reduceMul, Int.reduceNeg]
      · intro i hi ih
        have e1 : shF (σ 433) i (171 + ((i : Int) + 1)) = σ 433 (171 + (i : Int) + 1) := by unfold shF; rw [if_neg (by omega)]; congr 1
        have e2 : (171 : Int) + ((i : Int) + 1) - 1 = 171 + (i : Int) := by omega
        rw [ev_172_1]
        simp (disch := first | assumption | omega | ((repeat' first | exact ok_nil | apply ok_I | apply ok_R); done) | (simp (disch := first | omega | decide) only [ex_ar_same, ex_ar_diff, kM_diff, ex_u_same, ex_u_diff]; first | assumption | omega)) only [ev_172_0, ev_172_2, ev_172_3, gf_432_0, ld_433, sd_433, x_dup2, x_fall, x_goto, x_iadd, x_isub, x_push, x_ret0, xl_a0, xl_i1, xl_i2, xn_2, xt_i2, y_cmp_ge_f, y_cmp_ge_t, y_cmp_ne_f, y_cmp_ne_t, i_wr_id, kM_diff, Int.reduceToNat, ex_ar_same, ex_ar_ar, ex_ar_diff, ex_u_same, ex_u_diff, b2i_t, b2i_f, ex_div_nn, ex_rem_nn, Int.toNat_zero, Int.toNat_one, Int.reduceAdd, Int.reduceSub, Int.reduceMul, Int.reduceNeg]
        rw [e1, e2, shF_s]
        rw [show ((i : Int) + 1 + 1) = ((i + 1 : Nat) : Int) + 1 by omega]
        exact ih
    simp (disch := first | assumption | omega | ((repeat' first | exact ok_nil | apply ok_I | apply ok_R); done) | (simp (disch := first | omega | decide) only [ex_ar_same, ex_ar_diff, kM_diff, ex_u_same, ex_u_diff]; first | assumption | omega)) only [ev_172_0, ev_172_2, ev_172_3, gf_432_0, ld_433, sd_433, x_dup2, x_fall, x_goto, x_iadd, x_isub, x_push, x_ret0, xl_a0, xl_i1, xl_i2, xn_2, xt_i2, y_cmp_ge_f, y_cmp_ge_t, y_cmp_ne_f, y_cmp_ne_t, i_wr_id, kM_diff, Int.reduceToNat, ex_ar_same, ex_ar_ar, ex_ar_diff, ex_u_same, ex_u_diff, b2i_t, b2i_f, ex_div_nn, ex_rem_nn, Int.toNat_zero, Int.toNat_one, Int.reduceAdd, Int.reduceSub, Int.reduceMul, Int.reduceNeg]
    have := lp 0 (by omega)
    rw [shF_0, ex_ar_id] at this
    exact this
  · rw [if_neg h]
    simp (disch := first | assumption | omega | ((repeat' first | exact ok_nil | apply ok_I | apply ok_R); done) | (simp (disch := first | omega | decide) only [ex_ar_same, ex_ar_diff, kM_diff, ex_u_same, ex_u_diff]; first | assumption | omega)) only [ev_172_0, ev_172_2, ev_172_3, gf_432_0, ld_433, sd_433, x_dup2, x_fall, x_goto, x_iadd, x_isub, x_push, x_ret0, xl_a0, xl_i1, xl_i2, xn_2, xt_i2, y_cmp_ge_f, y_cmp_ge_t, y_cmp_ne_f, y_cmp_ne_t, i_wr_id, kM_diff, Int.reduceToNat, ex_ar_same, ex_ar_ar, ex_ar_diff, ex_u_same, ex_u_diff, b2i_t, b2i_f, ex_div_nn, ex_rem_nn, Int.toNat_zero, Int.toNat_one, Int.reduceAdd, Int.reduceSub, Int.reduceMul, Int.reduceNeg]
theorem xc_172 {rt d : Nat} {J : Nat → List ex_V → List ex_V → ex_H → Option ex_R} {is : List Instr} {ls st : List ex_V} {L : Nat} {σ : ex_S} {z : Int} (hN0 : 0 ≤ σ 433 8) (hN1 : σ 433 8 ≤ 60) (hd : 0 < d) (hok : okN 8 st = true) : ex_xs rt J (ex_cd d) (.invokevirtual 172 :: is) ls (vI z :: vR 432 :: st) (SH L, σ) = ex_xs rt J (ex_cd d) is ls (st) (SH L, ex_ar σ 433 (ledF (σ 433) z)) := x_call1 (Or.inl rfl) rfl (sh_432 _) (Or.inl ⟨rfl, rfl⟩) (as := [vI z]) rfl rfl (okN_ok hok) rfl (sp_172 hd hN0 hN1)
