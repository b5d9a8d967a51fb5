/-! the reference: charge -/
def ndF (n : Int → Int) (s : Int) : Int → Int := fun k => if ex_and (ex_shr s k) 1 = 1 then n (123 + k) else 0
theorem sp_196 {d : Nat} (hd : 0 < d) {L : Nat} {σ : ex_S} {s : Int} : ex_cd d 196 [vR 432, vI s] (SH L, σ) = some ([], (SH L, ex_ar σ 442 (cqF (ndF (σ 433) s) (σ 442) 8))) := by
  rw [ex_cd_eq (by omega)]
  show ex_ev (d - 1) 196 0 [vR 432, vI s, vL 0] [] (SH L, σ) = _
  have lp : ∀ j : Nat, j ≤ 8 → ex_ev (d - 1) 196 1 [vR 432, vI s, vI (j : Int)] [] (SH L, ex_ar σ 442 (cqF (ndF (σ 433) s) (σ 442) j)) = some ([], (SH L, ex_ar σ 442 (cqF (ndF (σ 433) s) (σ 442) 8))) := by
    refine down ?_ ?_
    · rw [ev_196_1]
      (repeat' first | simp (disch := first | assumption | omega | ((repeat' first | exact ok_nil | apply ok_I | apply ok_R); done) | (simp (disch := first | omega | decide) only [ex_ar_same, ex_ar_diff, kM_diff, ex_u_same, ex_u_diff]; first | assumption | omega)) only [ev_196_0, ev_196_2, ev_196_3, ev_196_4, gf_432_0, gf_432_12, ld_433, ld_442, sd_433, sd_442, x_fall, x_goto, x_iadd, x_push, x_ret0, xl_a0, xl_i1, xl_i2, xn_2, xt_i2, y_cmp_ge_f, y_cmp_ge_t, y_cmp_ne_f, y_cmp_ne_t, y_iand, y_ishr, i_wr_id, kM_diff, Int.reduceToNat, ex_ar_same, ex_ar_ar, ex_ar_diff, ex_u_same, ex_u_diff, b2i_t, b2i_f, ex_div_nn, ex_rem_nn, Int.toNat_zero, Int.toNat_one, Int.reduceAdd, Int.reduceSub, Int.reduceMul, Int.reduceNeg] | refine bb_eq (fun _ => ?_) (fun _ => ?_) | refine bb_ne (fun _ => ?_) (fun _ => ?_) | refine bc_eq (fun _ => ?_) (fun _ => ?_) | refine bc_ne (fun _ => ?_) (fun _ => ?_) | refine bc_lt (fun _ => ?_) (fun _ => ?_) | refine bc_ge (fun _ => ?_) (fun _ => ?_) | refine bc_gt (fun _ => ?_) (fun _ => ?_) | refine bc_le (fun _ => ?_) (fun _ => ?_) | refine bi_eq (fun _ => ?_) (fun _ => ?_) | refine bi_ne (fun _ => ?_) (fun _ => ?_) | refine bi_lt (fun _ => ?_) (fun _ => ?_) | refine bi_ge (fun _ => ?_) (fun _ => ?_) | refine bi_gt (fun _ => ?_) (fun _ => ?_) | refine bi_le (fun _ => ?_) (fun _ => ?_))
    · intro j hj ih
      rw [← cqF_s] at ih
      unfold ndF at ih ⊢
      rw [ev_196_1]
      (repeat' first | simp (disch := first | assumption | omega | ((repeat' first | exact ok_nil | apply ok_I | apply ok_R); done) | (simp (disch := first | omega | decide) only [ex_ar_same, ex_ar_diff, kM_diff, ex_u_same, ex_u_diff]; first | assumption | omega)) only [ev_196_0, ev_196_2, ev_196_3, ev_196_4, gf_432_0, gf_432_12, ld_433, ld_442, sd_433, sd_442, x_fall, x_goto, x_iadd, x_push, x_ret0, xl_a0, xl_i1, xl_i2, xn_2, xt_i2, y_cmp_ge_f, y_cmp_ge_t, y_cmp_ne_f, y_cmp_ne_t, y_iand, y_ishr, i_wr_id, kM_diff, Int.reduceToNat, ex_ar_same, ex_ar_ar, ex_ar_diff, ex_u_same, ex_u_diff, b2i_t, b2i_f, ex_div_nn, ex_rem_nn, Int.toNat_zero, Int.toNat_one, Int.reduceAdd, Int.reduceSub, Int.reduceMul, Int.reduceNeg] | refine bb_eq (fun _ => ?_) (fun _ => ?_) | refine bb_ne (fun _ => ?_) (fun _ => ?_) | refine bc_eq (fun _ => ?_) (fun _ => ?_) | refine bc_ne (fun _ => ?_) (fun _ => ?_) | refine bc_lt (fun _ => ?_) (fun _ => ?_) | refine bc_ge (fun _ => ?_) (fun _ => ?_) | refine bc_gt (fun _ => ?_) (fun _ => ?_) | refine bc_le (fun _ => ?_) (fun _ => ?_) | refine bi_eq (fun _ => ?_) (fun _ => ?_) | refine bi_ne (fun _ => ?_) (fun _ => ?_) | refine bi_lt (fun _ => ?_) (fun _ => ?_) | refine bi_ge (fun _ => ?_) (fun _ => ?_) | refine bi_gt (fun _ => ?_) (fun _ => ?_) | refine bi_le (fun _ => ?_) (fun _ => ?_))
      all_goals
        rw [nat_cast_succ]
        simp (disch := first | assumption | omega) only [if_pos, if_neg] at ih
        exact ih
  simp (disch := first | assumption | omega | ((repeat' first | exact ok_nil | apply ok_I | apply ok_R); done) | (simp (disch := first | omega | decide) only [ex_ar_same, ex_ar_diff, kM_diff, ex_u_same, ex_u_diff]; first | assumption | omega)) only [ev_196_0, ev_196_2, ev_196_3, ev_196_4, gf_432_0, gf_432_12, ld_433, ld_442, sd_433, sd_442, x_fall, x_goto, x_iadd, x_push, x_ret0, xl_a0, xl_i1, xl_i2, xn_2, xt_i2, y_cmp_ge_f, y_cmp_ge_t, y_cmp_ne_f, y_cmp_ne_t, y_iand, y_ishr, i_wr_id, kM_diff, Int.reduceToNat, ex_ar_same, ex_ar_ar, ex_ar_diff, ex_u_same, ex_u_diff, b2i_t, b2i_f, ex_div_nn, ex_rem_nn, Int.toNat_zero, Int.toNat_one, Int.reduceAdd, Int.reduceSub, Int.reduceMul, Int.reduceNeg]
  have := lp 0 (by omega)
  rw [cqF_0, ex_ar_id] at this
  exact this
theorem xc_196 {rt d : Nat} {J : Nat → List ex_V → List ex_V → ex_H → Option ex_R} {is : List Instr} {ls st : List ex_V} {L : Nat} {σ : ex_S} {s : Int} (hd : 0 < d) (hok : okN 8 st = true) : ex_xs rt J (ex_cd d) (.invokevirtual 196 :: is) ls (vI s :: vR 432 :: st) (SH L, σ) = ex_xs rt J (ex_cd d) is ls (st) (SH L, ex_ar σ 442 (cqF (ndF (σ 433) s) (σ 442) 8)) := x_call1 (Or.inl rfl) rfl (sh_432 _) (Or.inl ⟨rfl, rfl⟩) (as := [vI s]) rfl rfl (okN_ok hok) rfl (sp_196 hd )
def bsR (n nd : Int → Int) (u h : Int) : Nat → Int
  | 0 => -1
  | c + 1 => if (ex_and (ex_shr u (c : Int)) 1 = 0 ∧ 0 < nd (c : Int) ∧ h < n (115 + (c : Int))) ∧ (bsR n nd u h c < 0 ∨ nd (bsR n nd u h c) < nd (c : Int)) then (c : Int) else bsR n nd u h c
theorem bsR_bd (n nd : Int → Int) (u h : Int) : ∀ c : Nat, -1 ≤ bsR n nd u h c ∧ bsR n nd u h c < (c : Int)
  | 0 => ⟨Int.le_refl _, (show (-1 : Int) < 0 by decide)⟩
  | c + 1 => by
    have ih := bsR_bd n nd u h c
    rw [bsR]
    split <;> omega
def dcF (nd : Int → Int) (b : Int) : Int → Int := fun k => nd k - (if k = b then 1 else 0)
def chF (n : Int → Int) (h : Int) (s : Int × (Int → Int)) : Int × (Int → Int) := (ex_or s.1 (if 0 ≤ bsR n s.2 s.1 h 8 then ex_shl 1 (bsR n s.2 s.1 h 8) else 0), cqF (dcF s.2 (bsR n s.2 s.1 h 8)) s.2 8)
theorem chF_eq (n : Int → Int) (h u : Int) (nd : Int → Int) : chF n h (u, nd) = (ex_or u (if 0 ≤ bsR n nd u h 8 then ex_shl 1 (bsR n nd u h 8) else 0), cqF (dcF nd (bsR n nd u h 8)) nd 8) := rfl
def chR (n : Int → Int) (h : Int) (nd : Int → Int) : Nat → Int × (Int → Int)
  | 0 => (0, nd)
  | i + 1 => chF n h (chR n h nd i)
abbrev okD (nd : Int → Int) : Prop := ∀ k : Int, 0 ≤ k → k < 8 → 0 ≤ nd k ∧ nd k ≤ 9
theorem bsR_pos (n nd : Int → Int) (u h : Int) : ∀ c : Nat, bsR n nd u h c < 0 ∨ 0 < nd (bsR n nd u h c)
  | 0 => Or.inl (show (-1 : Int) < 0 by decide)
  | c + 1 => by
    have ih := bsR_pos n nd u h c
    rw [bsR]
    split
    · rename_i q; exact Or.inr q.1.2.1
    · exact ih
theorem chF_ok {n : Int → Int} {h : Int} {s : Int × (Int → Int)} (hd : okD s.2) : okD (chF n h s).2 := by
  intro k h1 h2
  have := hd k h1 h2
  show 0 ≤ cqF (dcF s.2 (bsR n s.2 s.1 h 8)) s.2 8 k ∧ cqF (dcF s.2 (bsR n s.2 s.1 h 8)) s.2 8 k ≤ 9
  unfold cqF dcF
  rw [if_pos (by omega)]
  rcases bsR_pos n s.2 s.1 h 8 with q | q
  · rw [if_neg (by omega)]; omega
  · by_cases e : k = bsR n s.2 s.1 h 8
    · rw [if_pos e]
      rw [← e] at q
      omega
    · rw [if_neg e]; omega
theorem chR_ok {n : Int → Int} {h : Int} {nd : Int → Int} (hd : okD nd) : ∀ i, okD (chR n h nd i).2
  | 0 => hd
  | i + 1 => chF_ok (chR_ok hd i)
theorem c1_197 {d L : Nat} {σ : ex_S} {h : Int} (hN : NI (σ 433)) : ∀ (u : Int) (i : Int) (nd : Int → Int) (w2 : ex_V), ∀ c : Nat, c ≤ 8 → ∀ (b : Int) (w1 : ex_V), bsR (σ 433) nd u h c = b → ∃ w3, ex_ev d 197 2 [vR 432, vI h, vI u, vI i, vI b, vI (c : Int), w1] [] (SH L, ex_ar σ 442 nd) = ex_ev d 197 8 [vR 432, vI h, vI u, vI i, vI (bsR (σ 433) nd u h 8), vI ((8 : Nat) : Int), w3] [] (SH L, ex_ar σ 442 nd) := by
  (have := hN.a0; have := hN.b0; have := hN.a1; have := hN.b1; have := hN.a2; have := hN.b2; have := hN.a3; have := hN.b3; have := hN.a4; have := hN.b4; have := hN.a5; have := hN.b5; have := hN.a7; have := hN.b7; have := hN.a8; have := hN.b8; have := hN.a9; have := hN.b9; have := hN.a10; have := hN.b10; have := hN.oM; have := hN.oP)
  intro u i nd w2
  refine down ?_ ?_
  · intro b w1 hb
    refine ⟨w1, ?_⟩
    rw [ev_197_2, hb]
    simp (disch := first | assumption | omega | ((repeat' first | exact ok_nil | apply ok_I | apply ok_R); done) | (simp (disch := first | omega | decide) only [ex_ar_same, ex_ar_diff, kM_diff, ex_u_same, ex_u_diff]; first | assumption | omega)) only [ev_197_0, ev_197_10, ev_197_12, ev_197_13, ev_197_14, ev_197_15, ev_197_3, ev_197_4, ev_197_5, ev_197_6, ev_197_7, ev_197_9, gf_432_0, gf_432_12, ld_433, ld_442, sd_433, sd_442, x_dup2, x_fall, x_goto, x_iadd, x_isub, x_push, x_ret1, xl_a0, xl_i1, xl_i2, xl_i3, xl_i4, xl_i5, xl_i6, xn_3, xn_5, xt_i2, xt_i3, xt_i4, xt_i5, xt_i6, y_cmp_ge_f, y_cmp_ge_t, y_cmp_le_f, y_cmp_le_t, y_cmp_ne_f, y_cmp_ne_t, y_iand, y_if_eq_f, y_if_eq_t, y_if_le_f, y_if_le_t, y_if_lt_f, y_if_lt_t, y_if_ne_f, y_if_ne_t, y_ior, y_ishl, y_ishr, i_wr_id, kM_diff, Int.reduceToNat, ex_ar_same, ex_ar_ar, ex_ar_diff, ex_u_same, ex_u_diff, b2i_t, b2i_f, ex_div_nn, ex_rem_nn, Int.toNat_zero, Int.toNat_one, Int.reduceAdd, Int.reduceSub, Int.reduceMul, Int.reduceNeg]
  · intro c hc ih b w1 hb
    have bb := bsR_bd (σ 433) nd u h c
    rw [hb] at bb
    have hs : bsR (σ 433) nd u h (c + 1) = if (ex_and (ex_shr u (c : Int)) 1 = 0 ∧ 0 < nd (c : Int) ∧ h < σ 433 (115 + (c : Int))) ∧ (b < 0 ∨ nd b < nd (c : Int)) then (c : Int) else b := by rw [bsR, hb]
    rw [ev_197_2]
    by_cases q1 : ex_and (ex_shr u (c : Int)) 1 = 0 ∧ 0 < nd (c : Int) ∧ h < σ 433 (115 + (c : Int))
    · obtain ⟨z1, z2, z3⟩ := q1
      by_cases q2 : b < 0
      · rw [if_pos ⟨⟨z1, z2, z3⟩, Or.inl q2⟩] at hs
        obtain ⟨w3, e⟩ := ih _ (vI 1) hs
        refine ⟨w3, ?_⟩
        simp (disch := first | assumption | omega | ((repeat' first | exact ok_nil | apply ok_I | apply ok_R); done) | (simp (disch := first | omega | decide) only [ex_ar_same, ex_ar_diff, kM_diff, ex_u_same, ex_u_diff]; first | assumption | omega)) only [ev_197_0, ev_197_10, ev_197_12, ev_197_13, ev_197_14, ev_197_15, ev_197_3, ev_197_4, ev_197_5, ev_197_6, ev_197_7, ev_197_9, gf_432_0, gf_432_12, ld_433, ld_442, sd_433, sd_442, x_dup2, x_fall, x_goto, x_iadd, x_isub, x_push, x_ret1, xl_a0, xl_i1, xl_i2, xl_i3, xl_i4, xl_i5, xl_i6, xn_3, xn_5, xt_i2, xt_i3, xt_i4, xt_i5, xt_i6, y_cmp_ge_f, y_cmp_ge_t, y_cmp_le_f, y_cmp_le_t, y_cmp_ne_f, y_cmp_ne_t, y_iand, y_if_eq_f, y_if_eq_t, y_if_le_f, y_if_le_t, y_if_lt_f, y_if_lt_t, y_if_ne_f, y_if_ne_t, y_ior, y_ishl, y_ishr, i_wr_id, kM_diff, Int.reduceToNat, ex_ar_same, ex_ar_ar, ex_ar_diff, ex_u_same, ex_u_diff, b2i_t, b2i_f, ex_div_nn, ex_rem_nn, Int.toNat_zero, Int.toNat_one, Int.reduceAdd, Int.reduceSub, Int.reduceMul, Int.reduceNeg]
        rw [nat_cast_succ]
        exact e
      · by_cases q3 : nd b < nd (c : Int)
        · rw [if_pos ⟨⟨z1, z2, z3⟩, Or.inr q3⟩] at hs
          obtain ⟨w3, e⟩ := ih _ (vI 1) hs
          refine ⟨w3, ?_⟩
          simp (disch := first | assumption | omega | ((repeat' first | exact ok_nil | apply ok_I | apply ok_R); done) | (simp (disch := first | omega | decide) only [ex_ar_same, ex_ar_diff, kM_diff, ex_u_same, ex_u_diff]; first | assumption | omega)) only [ev_197_0, ev_197_10, ev_197_12, ev_197_13, ev_197_14, ev_197_15, ev_197_3, ev_197_4, ev_197_5, ev_197_6, ev_197_7, ev_197_9, gf_432_0, gf_432_12, ld_433, ld_442, sd_433, sd_442, x_dup2, x_fall, x_goto, x_iadd, x_isub, x_push, x_ret1, xl_a0, xl_i1, xl_i2, xl_i3, xl_i4, xl_i5, xl_i6, xn_3, xn_5, xt_i2, xt_i3, xt_i4, xt_i5, xt_i6, y_cmp_ge_f, y_cmp_ge_t, y_cmp_le_f, y_cmp_le_t, y_cmp_ne_f, y_cmp_ne_t, y_iand, y_if_eq_f, y_if_eq_t, y_if_le_f, y_if_le_t, y_if_lt_f, y_if_lt_t, y_if_ne_f, y_if_ne_t, y_ior, y_ishl, y_ishr, i_wr_id, kM_diff, Int.reduceToNat, ex_ar_same, ex_ar_ar, ex_ar_diff, ex_u_same, ex_u_diff, b2i_t, b2i_f, ex_div_nn, ex_rem_nn, Int.toNat_zero, Int.toNat_one, Int.reduceAdd, Int.reduceSub, Int.reduceMul, Int.reduceNeg]
          rw [nat_cast_succ]
          exact e
        · rw [if_neg (fun z => by rcases z.2 with z | z; exact q2 z; exact q3 z)] at hs
          obtain ⟨w3, e⟩ := ih _ (vI 1) hs
          refine ⟨w3, ?_⟩
          simp (disch := first | assumption | omega | ((repeat' first | exact ok_nil | apply ok_I | apply ok_R); done) | (simp (disch := first | omega | decide) only [ex_ar_same, ex_ar_diff, kM_diff, ex_u_same, ex_u_diff]; first | assumption | omega)) only [ev_197_0, ev_197_10, ev_197_12, ev_197_13, ev_197_14, ev_197_15, ev_197_3, ev_197_4, ev_197_5, ev_197_6, ev_197_7, ev_197_9, gf_432_0, gf_432_12, ld_433, ld_442, sd_433, sd_442, x_dup2, x_fall, x_goto, x_iadd, x_isub, x_push, x_ret1, xl_a0, xl_i1, xl_i2, xl_i3, xl_i4, xl_i5, xl_i6, xn_3, xn_5, xt_i2, xt_i3, xt_i4, xt_i5, xt_i6, y_cmp_ge_f, y_cmp_ge_t, y_cmp_le_f, y_cmp_le_t, y_cmp_ne_f, y_cmp_ne_t, y_iand, y_if_eq_f, y_if_eq_t, y_if_le_f, y_if_le_t, y_if_lt_f, y_if_lt_t, y_if_ne_f, y_if_ne_t, y_ior, y_ishl, y_ishr, i_wr_id, kM_diff, Int.reduceToNat, ex_ar_same, ex_ar_ar, ex_ar_diff, ex_u_same, ex_u_diff, b2i_t, b2i_f, ex_div_nn, ex_rem_nn, Int.toNat_zero, Int.toNat_one, Int.reduceAdd, Int.reduceSub, Int.reduceMul, Int.reduceNeg]
          rw [nat_cast_succ]
          exact e
    · rw [if_neg (fun z => q1 z.1)] at hs
      obtain ⟨w3, e⟩ := ih _ (vI 0) hs
      refine ⟨w3, ?_⟩
      (repeat' first | simp (disch := first | assumption | omega | ((repeat' first | exact ok_nil | apply ok_I | apply ok_R); done) | (simp (disch := first | omega | decide) only [ex_ar_same, ex_ar_diff, kM_diff, ex_u_same, ex_u_diff]; first | assumption | omega)) only [ev_197_0, ev_197_10, ev_197_12, ev_197_13, ev_197_14, ev_197_15, ev_197_3, ev_197_4, ev_197_5, ev_197_6, ev_197_7, ev_197_9, gf_432_0, gf_432_12, ld_433, ld_442, sd_433, sd_442, x_dup2, x_fall, x_goto, x_iadd, x_isub, x_push, x_ret1, xl_a0, xl_i1, xl_i2, xl_i3, xl_i4, xl_i5, xl_i6, xn_3, xn_5, xt_i2, xt_i3, xt_i4, xt_i5, xt_i6, y_cmp_ge_f, y_cmp_ge_t, y_cmp_le_f, y_cmp_le_t, y_cmp_ne_f, y_cmp_ne_t, y_iand, y_if_eq_f, y_if_eq_t, y_if_le_f, y_if_le_t, y_if_lt_f, y_if_lt_t, y_if_ne_f, y_if_ne_t, y_ior, y_ishl, y_ishr, i_wr_id, kM_diff, Int.reduceToNat, ex_ar_same, ex_ar_ar, ex_ar_diff, ex_u_same, ex_u_diff, b2i_t, b2i_f, ex_div_nn, ex_rem_nn, Int.toNat_zero, Int.toNat_one, Int.reduceAdd, Int.reduceSub, Int.reduceMul, Int.reduceNeg] | refine bb_eq (fun _ => ?_) (fun _ => ?_) | refine bb_ne (fun _ => ?_) (fun _ => ?_) | refine bc_eq (fun _ => ?_) (fun _ => ?_) | refine bc_ne (fun _ => ?_) (fun _ => ?_) | refine bc_lt (fun _ => ?_) (fun _ => ?_) | refine bc_ge (fun _ => ?_) (fun _ => ?_) | refine bc_gt (fun _ => ?_) (fun _ => ?_) | refine bc_le (fun _ => ?_) (fun _ => ?_) | refine bi_eq (fun _ => ?_) (fun _ => ?_) | refine bi_ne (fun _ => ?_) (fun _ => ?_) | refine bi_lt (fun _ => ?_) (fun _ => ?_) | refine bi_ge (fun _ => ?_) (fun _ => ?_) | refine bi_gt (fun _ => ?_) (fun _ => ?_) | refine bi_le (fun _ => ?_) (fun _ => ?_))
      all_goals first | (rw [nat_cast_succ]; exact e) | (exact absurd ⟨by assumption, by assumption, by assumption⟩ q1)
theorem c2_197 {d L : Nat} {σ : ex_S} {h : Int} : ∀ (u : Int) (i b : Int) (nd : Int → Int) (w : ex_V), okD nd → 0 ≤ i → i ≤ 3 → ∀ c : Nat, c ≤ 8 → ex_ev d 197 11 [vR 432, vI h, vI u, vI i, vI b, vI (c : Int), w] [] (SH L, ex_ar σ 442 (cqF (dcF nd b) nd c)) = ex_ev d 197 1 [vR 432, vI h, vI u, vI (i + 1), vI b, vI ((8 : Nat) : Int), w] [] (SH L, ex_ar σ 442 (cqF (dcF nd b) nd 8)) := by
  intro u i b nd w hnd hi hi2
  refine down ?_ ?_
  · rw [ev_197_11]
    simp (disch := first | assumption | omega | ((repeat' first | exact ok_nil | apply ok_I | apply ok_R); done) | (simp (disch := first | omega | decide) only [ex_ar_same, ex_ar_diff, kM_diff, ex_u_same, ex_u_diff]; first | assumption | omega)) only [ev_197_0, ev_197_10, ev_197_12, ev_197_13, ev_197_14, ev_197_15, ev_197_3, ev_197_4, ev_197_5, ev_197_6, ev_197_7, ev_197_8, ev_197_9, gf_432_0, gf_432_12, ld_433, ld_442, sd_433, sd_442, x_dup2, x_fall, x_goto, x_iadd, x_isub, x_push, x_ret1, xl_a0, xl_i1, xl_i2, xl_i3, xl_i4, xl_i5, xl_i6, xn_3, xn_5, xt_i2, xt_i3, xt_i4, xt_i5, xt_i6, y_cmp_ge_f, y_cmp_ge_t, y_cmp_le_f, y_cmp_le_t, y_cmp_ne_f, y_cmp_ne_t, y_iand, y_if_eq_f, y_if_eq_t, y_if_le_f, y_if_le_t, y_if_lt_f, y_if_lt_t, y_if_ne_f, y_if_ne_t, y_ior, y_ishl, y_ishr, i_wr_id, kM_diff, Int.reduceToNat, ex_ar_same, ex_ar_ar, ex_ar_diff, ex_u_same, ex_u_diff, b2i_t, b2i_f, ex_div_nn, ex_rem_nn, Int.toNat_zero, Int.toNat_one, Int.reduceAdd, Int.reduceSub, Int.reduceMul, Int.reduceNeg]
  · intro c hc ih
    have e0 : cqF (dcF nd b) nd c (c : Int) = nd (c : Int) := by unfold cqF; rw [if_neg (by omega)]
    have nb := hnd (c : Int) (by omega) (by omega)
    rw [← cqF_s] at ih
    unfold dcF at ih e0 ⊢
    rw [ev_197_11]
    by_cases q : (c : Int) = b
    · rw [if_pos q] at ih
      simp (disch := first | assumption | omega | ((repeat' first | exact ok_nil | apply ok_I | apply ok_R); done) | (simp (disch := first | omega | decide) only [ex_ar_same, ex_ar_diff, kM_diff, ex_u_same, ex_u_diff]; first | assumption | omega)) only [e0, ev_197_0, ev_197_10, ev_197_12, ev_197_13, ev_197_14, ev_197_15, ev_197_3, ev_197_4, ev_197_5, ev_197_6, ev_197_7, ev_197_8, ev_197_9, gf_432_0, gf_432_12, ld_433, ld_442, sd_433, sd_442, x_dup2, x_fall, x_goto, x_iadd, x_isub, x_push, x_ret1, xl_a0, xl_i1, xl_i2, xl_i3, xl_i4, xl_i5, xl_i6, xn_3, xn_5, xt_i2, xt_i3, xt_i4, xt_i5, xt_i6, y_cmp_ge_f, y_cmp_ge_t, y_cmp_le_f, y_cmp_le_t, y_cmp_ne_f, y_cmp_ne_t, y_iand, y_if_eq_f, y_if_eq_t, y_if_le_f, y_if_le_t, y_if_lt_f, y_if_lt_t, y_if_ne_f, y_if_ne_t, y_ior, y_ishl, y_ishr, i_wr_id, kM_diff, Int.reduceToNat, ex_ar_same, ex_ar_ar, ex_ar_diff, ex_u_same, ex_u_diff, b2i_t, b2i_f, ex_div_nn, ex_rem_nn, Int.toNat_zero, Int.toNat_one, Int.reduceAdd, Int.reduceSub, Int.reduceMul, Int.reduceNeg]
      rw [nat_cast_succ]
      exact ih
    · rw [if_neg q] at ih
      simp (disch := first | assumption | omega | ((repeat' first | exact ok_nil | apply ok_I | apply ok_R); done) | (simp (disch := first | omega | decide) only [ex_ar_same, ex_ar_diff, kM_diff, ex_u_same, ex_u_diff]; first | assumption | omega)) only [e0, ev_197_0, ev_197_10, ev_197_12, ev_197_13, ev_197_14, ev_197_15, ev_197_3, ev_197_4, ev_197_5, ev_197_6, ev_197_7, ev_197_8, ev_197_9, gf_432_0, gf_432_12, ld_433, ld_442, sd_433, sd_442, x_dup2, x_fall, x_goto, x_iadd, x_isub, x_push, x_ret1, xl_a0, xl_i1, xl_i2, xl_i3, xl_i4, xl_i5, xl_i6, xn_3, xn_5, xt_i2, xt_i3, xt_i4, xt_i5, xt_i6, y_cmp_ge_f, y_cmp_ge_t, y_cmp_le_f, y_cmp_le_t, y_cmp_ne_f, y_cmp_ne_t, y_iand, y_if_eq_f, y_if_eq_t, y_if_le_f, y_if_le_t, y_if_lt_f, y_if_lt_t, y_if_ne_f, y_if_ne_t, y_ior, y_ishl, y_ishr, i_wr_id, kM_diff, Int.reduceToNat, ex_ar_same, ex_ar_ar, ex_ar_diff, ex_u_same, ex_u_diff, b2i_t, b2i_f, ex_div_nn, ex_rem_nn, Int.toNat_zero, Int.toNat_one, Int.reduceAdd, Int.reduceSub, Int.reduceMul, Int.reduceNeg]
      rw [nat_cast_succ]
      exact ih
theorem c3_197 {d L : Nat} {σ : ex_S} {h : Int} (u i b : Int) (nd : Int → Int) (w : ex_V) (hnd : okD nd) (b1 : -1 ≤ b) (b2 : b < 8) (hi : 0 ≤ i) (hi2 : i ≤ 3) : ex_ev d 197 8 [vR 432, vI h, vI u, vI i, vI b, vI ((8 : Nat) : Int), w] [] (SH L, ex_ar σ 442 nd) = ex_ev d 197 1 [vR 432, vI h, vI (ex_or u (if 0 ≤ b then ex_shl 1 b else 0)), vI (i + 1), vI b, vI ((8 : Nat) : Int), w] [] (SH L, ex_ar σ 442 (cqF (dcF nd b) nd 8)) := by
  have key : ∀ x : Int, ex_ev d 197 11 [vR 432, vI h, vI x, vI i, vI b, vI 0, w] [] (SH L, ex_ar σ 442 nd) = ex_ev d 197 1 [vR 432, vI h, vI x, vI (i + 1), vI b, vI ((8 : Nat) : Int), w] [] (SH L, ex_ar σ 442 (cqF (dcF nd b) nd 8)) := by
    intro x
    have := c2_197 (d := d) (L := L) (σ := σ) (h := h) x i b nd w hnd hi hi2 0 (by omega)
    rw [cqF_0] at this
    exact this
  by_cases q : b < 0
  · rw [if_neg (by omega)]
    simp (disch := first | assumption | omega | ((repeat' first | exact ok_nil | apply ok_I | apply ok_R); done) | (simp (disch := first | omega | decide) only [ex_ar_same, ex_ar_diff, kM_diff, ex_u_same, ex_u_diff]; first | assumption | omega)) only [ev_197_0, ev_197_10, ev_197_12, ev_197_13, ev_197_14, ev_197_15, ev_197_3, ev_197_4, ev_197_5, ev_197_6, ev_197_7, ev_197_8, ev_197_9, gf_432_0, gf_432_12, ld_433, ld_442, sd_433, sd_442, x_dup2, x_fall, x_goto, x_iadd, x_isub, x_push, x_ret1, xl_a0, xl_i1, xl_i2, xl_i3, xl_i4, xl_i5, xl_i6, xn_3, xn_5, xt_i2, xt_i3, xt_i4, xt_i5, xt_i6, y_cmp_ge_f, y_cmp_ge_t, y_cmp_le_f, y_cmp_le_t, y_cmp_ne_f, y_cmp_ne_t, y_iand, y_if_eq_f, y_if_eq_t, y_if_le_f, y_if_le_t, y_if_lt_f, y_if_lt_t, y_if_ne_f, y_if_ne_t, y_ior, y_ishl, y_ishr, i_wr_id, kM_diff, Int.reduceToNat, ex_ar_same, ex_ar_ar, ex_ar_diff, ex_u_same, ex_u_diff, b2i_t, b2i_f, ex_div_nn, ex_rem_nn, Int.toNat_zero, Int.toNat_one, Int.reduceAdd, Int.reduceSub, Int.reduceMul, Int.reduceNeg]
    exact key _
  · rw [if_pos (by omega)]
    simp (disch := first | assumption | omega | ((repeat' first | exact ok_nil | apply ok_I | apply ok_R); done) | (simp (disch := first | omega | decide) only [ex_ar_same, ex_ar_diff, kM_diff, ex_u_same, ex_u_diff]; first | assumption | omega)) only [ev_197_0, ev_197_10, ev_197_12, ev_197_13, ev_197_14, ev_197_15, ev_197_3, ev_197_4, ev_197_5, ev_197_6, ev_197_7, ev_197_8, ev_197_9, gf_432_0, gf_432_12, ld_433, ld_442, sd_433, sd_442, x_dup2, x_fall, x_goto, x_iadd, x_isub, x_push, x_ret1, xl_a0, xl_i1, xl_i2, xl_i3, xl_i4, xl_i5, xl_i6, xn_3, xn_5, xt_i2, xt_i3, xt_i4, xt_i5, xt_i6, y_cmp_ge_f, y_cmp_ge_t, y_cmp_le_f, y_cmp_le_t, y_cmp_ne_f, y_cmp_ne_t, y_iand, y_if_eq_f, y_if_eq_t, y_if_le_f, y_if_le_t, y_if_lt_f, y_if_lt_t, y_if_ne_f, y_if_ne_t, y_ior, y_ishl, y_ishr, i_wr_id, kM_diff, Int.reduceToNat, ex_ar_same, ex_ar_ar, ex_ar_diff, ex_u_same, ex_u_diff, b2i_t, b2i_f, ex_div_nn, ex_rem_nn, Int.toNat_zero, Int.toNat_one, Int.reduceAdd, Int.reduceSub, Int.reduceMul, Int.reduceNeg]
    exact key _
theorem sp_197 {d : Nat} (hd : 0 < d) {L : Nat} {σ : ex_S} {h : Int} (hN : NI (σ 433)) (hD : okD (σ 442)) : ex_cd d 197 [vR 432, vI h] (SH L, σ) = some ([vI (chR (σ 433) h (σ 442) (σ 433 3).toNat).1], (SH L, ex_ar σ 442 (chR (σ 433) h (σ 442) (σ 433 3).toNat).2)) := by
  rw [ex_cd_eq (by omega)]
  show ex_ev (d - 1) 197 0 [vR 432, vI h, vL 0, vL 0, vL 0, vL 0, vL 0] [] (SH L, σ) = _
  (have := hN.a0; have := hN.b0; have := hN.a1; have := hN.b1; have := hN.a2; have := hN.b2; have := hN.a3; have := hN.b3; have := hN.a4; have := hN.b4; have := hN.a5; have := hN.b5; have := hN.a7; have := hN.b7; have := hN.a8; have := hN.b8; have := hN.a9; have := hN.b9; have := hN.a10; have := hN.b10; have := hN.oM; have := hN.oP)
  have lo : ∀ i : Nat, i ≤ (σ 433 3).toNat → ∀ (u : Int) (nd : Int → Int) (w1 w2 w3 : ex_V), chR (σ 433) h (σ 442) i = (u, nd) → ex_ev (d - 1) 197 1 [vR 432, vI h, vI u, vI (i : Int), w1, w2, w3] [] (SH L, ex_ar σ 442 nd) = some ([vI (chR (σ 433) h (σ 442) (σ 433 3).toNat).1], (SH L, ex_ar σ 442 (chR (σ 433) h (σ 442) (σ 433 3).toNat).2)) := by
    refine down ?_ ?_
    · intro u nd w1 w2 w3 hk
      rw [ev_197_1, hk]
      simp (disch := first | assumption | omega | ((repeat' first | exact ok_nil | apply ok_I | apply ok_R); done) | (simp (disch := first | omega | decide) only [ex_ar_same, ex_ar_diff, kM_diff, ex_u_same, ex_u_diff]; first | assumption | omega)) only [ev_197_0, ev_197_10, ev_197_12, ev_197_13, ev_197_14, ev_197_15, ev_197_3, ev_197_4, ev_197_5, ev_197_6, ev_197_7, ev_197_8, ev_197_9, gf_432_0, gf_432_12, ld_433, ld_442, sd_433, sd_442, x_dup2, x_fall, x_goto, x_iadd, x_isub, x_push, x_ret1, xl_a0, xl_i1, xl_i2, xl_i3, xl_i4, xl_i5, xl_i6, xn_3, xn_5, xt_i2, xt_i3, xt_i4, xt_i5, xt_i6, y_cmp_ge_f, y_cmp_ge_t, y_cmp_le_f, y_cmp_le_t, y_cmp_ne_f, y_cmp_ne_t, y_iand, y_if_eq_f, y_if_eq_t, y_if_le_f, y_if_le_t, y_if_lt_f, y_if_lt_t, y_if_ne_f, y_if_ne_t, y_ior, y_ishl, y_ishr, i_wr_id, kM_diff, Int.reduceToNat, ex_ar_same, ex_ar_ar, ex_ar_diff, ex_u_same, ex_u_diff, b2i_t, b2i_f, ex_div_nn, ex_rem_nn, Int.toNat_zero, Int.toNat_one, Int.reduceAdd, Int.reduceSub, Int.reduceMul, Int.reduceNeg]
    · intro i hi ih u nd w1 w2 w3 hk
      have hnd : okD nd := by have := chR_ok (n := σ 433) (h := h) hD i; rw [hk] at this; exact this
      have bb := bsR_bd (σ 433) nd u h 8
      obtain ⟨w4, e⟩ := c1_197 (d := d - 1) (L := L) (h := h) hN u i nd w3 0 (by omega) (-1) w3 rfl
      have e' : ex_ev (d - 1) 197 2 [vR 432, vI h, vI u, vI (i : Int), vI (-1), vI 0, w3] [] (SH L, ex_ar σ 442 nd) = _ := e
      have hs : chR (σ 433) h (σ 442) (i + 1) = chF (σ 433) h (u, nd) := by rw [chR, hk]
      rw [chF_eq] at hs
      rw [ev_197_1]
      simp (disch := first | assumption | omega | ((repeat' first | exact ok_nil | apply ok_I | apply ok_R); done) | (simp (disch := first | omega | decide) only [ex_ar_same, ex_ar_diff, kM_diff, ex_u_same, ex_u_diff]; first | assumption | omega)) only [ev_197_0, ev_197_10, ev_197_12, ev_197_13, ev_197_14, ev_197_15, ev_197_3, ev_197_4, ev_197_5, ev_197_6, ev_197_7, ev_197_8, ev_197_9, gf_432_0, gf_432_12, ld_433, ld_442, sd_433, sd_442, x_dup2, x_fall, x_goto, x_iadd, x_isub, x_push, x_ret1, xl_a0, xl_i1, xl_i2, xl_i3, xl_i4, xl_i5, xl_i6, xn_3, xn_5, xt_i2, xt_i3, xt_i4, xt_i5, xt_i6, y_cmp_ge_f, y_cmp_ge_t, y_cmp_le_f, y_cmp_le_t, y_cmp_ne_f, y_cmp_ne_t, y_iand, y_if_eq_f, y_if_eq_t, y_if_le_f, y_if_le_t, y_if_lt_f, y_if_lt_t, y_if_ne_f, y_if_ne_t, y_ior, y_ishl, y_ishr, i_wr_id, kM_diff, Int.reduceToNat, ex_ar_same, ex_ar_ar, ex_ar_diff, ex_u_same, ex_u_diff, b2i_t, b2i_f, ex_div_nn, ex_rem_nn, Int.toNat_zero, Int.toNat_one, Int.reduceAdd, Int.reduceSub, Int.reduceMul, Int.reduceNeg]
      rw [e', c3_197 u i _ nd w4 hnd bb.1 bb.2 (by omega) (by omega), nat_cast_succ]
      exact ih _ _ _ _ _ hs
  simp (disch := first | assumption | omega | ((repeat' first | exact ok_nil | apply ok_I | apply ok_R); done) | (simp (disch := first | omega | decide) only [ex_ar_same, ex_ar_diff, kM_diff, ex_u_same, ex_u_diff]; first | assumption | omega)) only [ev_197_0, ev_197_10, ev_197_12, ev_197_13, ev_197_14, ev_197_15, ev_197_3, ev_197_4, ev_197_5, ev_197_6, ev_197_7, ev_197_8, ev_197_9, gf_432_0, gf_432_12, ld_433, ld_442, sd_433, sd_442, x_dup2, x_fall, x_goto, x_iadd, x_isub, x_push, x_ret1, xl_a0, xl_i1, xl_i2, xl_i3, xl_i4, xl_i5, xl_i6, xn_3, xn_5, xt_i2, xt_i3, xt_i4, xt_i5, xt_i6, y_cmp_ge_f, y_cmp_ge_t, y_cmp_le_f, y_cmp_le_t, y_cmp_ne_f, y_cmp_ne_t, y_iand, y_if_eq_f, y_if_eq_t, y_if_le_f, y_if_le_t, y_if_lt_f, y_if_lt_t, y_if_ne_f, y_if_ne_t, y_ior, y_ishl, y_ishr, i_wr_id, kM_diff, Int.reduceToNat, ex_ar_same, ex_ar_ar, ex_ar_diff, ex_u_same, ex_u_diff, b2i_t, b2i_f, ex_div_nn, ex_rem_nn, Int.toNat_zero, Int.toNat_one, Int.reduceAdd, Int.reduceSub, Int.reduceMul, Int.reduceNeg]
  have := lo 0 (by omega) 0 (σ 442) (vL 0) (vL 0) (vL 0) rfl
  rw [ex_ar_id] at this
  exact this
theorem xc_197 {rt d : Nat} {J : Nat → List ex_V → List ex_V → ex_H → Option ex_R} {is : List Instr} {ls st : List ex_V} {L : Nat} {σ : ex_S} {h : Int} (hN : NI (σ 433)) (hD : okD (σ 442)) (hd : 0 < d) (hok : okN 8 st = true) : ex_xs rt J (ex_cd d) (.invokevirtual 197 :: is) ls (vI h :: vR 432 :: st) (SH L, σ) = ex_xs rt J (ex_cd d) is ls (vI (chR (σ 433) h (σ 442) (σ 433 3).toNat).1 :: st) (SH L, ex_ar σ 442 (chR (σ 433) h (σ 442) (σ 433 3).toNat).2) := x_call1 (Or.inl rfl) rfl (sh_432 _) (Or.inl ⟨rfl, rfl⟩) (as := [vI h]) rfl rfl (okN_ok hok) rfl (sp_197 hd hN hD)
