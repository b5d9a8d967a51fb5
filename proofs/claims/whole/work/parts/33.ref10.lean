/-! the reference: the search for the fewest shunts -/
theorem sp_178 {d : Nat} (hd : 0 < d) {L : Nat} {σ : ex_S} {k : Int} (h1 : 0 ≤ k) (h2 : k ≤ 3) : ex_cd d 178 [vR 432, vI k] (SH L, σ) = some ([], (SH L, ex_ar σ 438 (pyF (σ 438) (fun j => σ 433 (41 + j)) (50 * k) 50))) := by
  rw [ex_cd_eq (by omega)]
  show ex_ev (d - 1) 178 0 [vR 432, vI k, vL 0] [] (SH L, σ) = _
  have lp : ∀ j : Nat, j ≤ 50 → ex_ev (d - 1) 178 1 [vR 432, vI k, vI (j : Int)] [] (SH L, ex_ar σ 438 (pyF (σ 438) (fun j => σ 433 (41 + j)) (50 * k) j)) = some ([], (SH L, ex_ar σ 438 (pyF (σ 438) (fun j => σ 433 (41 + j)) (50 * k) 50))) := by
    refine down ?_ ?_
    · rw [ev_178_1]
      (repeat' first | simp (disch := first | assumption | omega | ((repeat' first | exact ok_nil | apply ok_I | apply ok_R); done) | (simp (disch := first | omega | decide) only [ex_ar_same, ex_ar_diff, kM_diff, ex_u_same, ex_u_diff]; first | assumption | omega)) only [ev_178_0, ev_178_2, gf_432_0, gf_432_7, ld_433, ld_438, sd_433, sd_438, x_fall, x_goto, x_iadd, x_imul, x_push, x_ret0, xl_a0, xl_i1, xl_i2, xn_2, xt_i2, y_cmp_ge_f, y_cmp_ge_t, i_wr_id, kM_diff, Int.reduceToNat, ex_ar_same, ex_ar_ar, ex_ar_diff, ex_u_same, ex_u_diff, b2i_t, b2i_f, ex_div_nn, ex_rem_nn, Int.toNat_zero, Int.toNat_one, Int.reduceAdd, Int.reduceSub, Int.reduceMul, Int.reduceNeg] | refine bb_eq (fun _ => ?_) (fun _ => ?_) | refine bb_ne (fun _ => ?_) (fun _ => ?_) | refine bc_eq (fun _ => ?_) (fun _ => ?_) | refine bc_ne (fun _ => ?_) (fun _ => ?_) | refine bc_lt (fun _ => ?_) (fun _ => ?_) | refine bc_ge (fun _ => ?_) (fun _ => ?_) | refine bc_gt (fun _ => ?_) (fun _ => ?_) | refine bc_le (fun _ => ?_) (fun _ => ?_) | refine bi_eq (fun _ => ?_) (fun _ => ?_) | refine bi_ne (fun _ => ?_) (fun _ => ?_) | refine bi_lt (fun _ => ?_) (fun _ => ?_) | refine bi_ge (fun _ => ?_) (fun _ => ?_) | refine bi_gt (fun _ => ?_) (fun _ => ?_) | refine bi_le (fun _ => ?_) (fun _ => ?_))
    · intro j hj ih
      rw [ev_178_1]
      (repeat' first | simp (disch := first | assumption | omega | ((repeat' first | exact ok_nil | apply ok_I | apply ok_R); done) | (simp (disch := first | omega | decide) only [ex_ar_same, ex_ar_diff, kM_diff, ex_u_same, ex_u_diff]; first | assumption | omega)) only [ev_178_0, ev_178_2, gf_432_0, gf_432_7, ld_433, ld_438, sd_433, sd_438, x_fall, x_goto, x_iadd, x_imul, x_push, x_ret0, xl_a0, xl_i1, xl_i2, xn_2, xt_i2, y_cmp_ge_f, y_cmp_ge_t, i_wr_id, kM_diff, Int.reduceToNat, ex_ar_same, ex_ar_ar, ex_ar_diff, ex_u_same, ex_u_diff, b2i_t, b2i_f, ex_div_nn, ex_rem_nn, Int.toNat_zero, Int.toNat_one, Int.reduceAdd, Int.reduceSub, Int.reduceMul, Int.reduceNeg] | refine bb_eq (fun _ => ?_) (fun _ => ?_) | refine bb_ne (fun _ => ?_) (fun _ => ?_) | refine bc_eq (fun _ => ?_) (fun _ => ?_) | refine bc_ne (fun _ => ?_) (fun _ => ?_) | refine bc_lt (fun _ => ?_) (fun _ => ?_) | refine bc_ge (fun _ => ?_) (fun _ => ?_) | refine bc_gt (fun _ => ?_) (fun _ => ?_) | refine bc_le (fun _ => ?_) (fun _ => ?_) | refine bi_eq (fun _ => ?_) (fun _ => ?_) | refine bi_ne (fun _ => ?_) (fun _ => ?_) | refine bi_lt (fun _ => ?_) (fun _ => ?_) | refine bi_ge (fun _ => ?_) (fun _ => ?_) | refine bi_gt (fun _ => ?_) (fun _ => ?_) | refine bi_le (fun _ => ?_) (fun _ => ?_))
      rw [pyF_s (σ 438) (fun j => σ 433 (41 + j)), nat_cast_succ]
      exact ih
  simp (disch := first | assumption | omega | ((repeat' first | exact ok_nil | apply ok_I | apply ok_R); done) | (simp (disch := first | omega | decide) only [ex_ar_same, ex_ar_diff, kM_diff, ex_u_same, ex_u_diff]; first | assumption | omega)) only [ev_178_0, ev_178_2, gf_432_0, gf_432_7, ld_433, ld_438, sd_433, sd_438, x_fall, x_goto, x_iadd, x_imul, x_push, x_ret0, xl_a0, xl_i1, xl_i2, xn_2, xt_i2, y_cmp_ge_f, y_cmp_ge_t, i_wr_id, kM_diff, Int.reduceToNat, ex_ar_same, ex_ar_ar, ex_ar_diff, ex_u_same, ex_u_diff, b2i_t, b2i_f, ex_div_nn, ex_rem_nn, Int.toNat_zero, Int.toNat_one, Int.reduceAdd, Int.reduceSub, Int.reduceMul, Int.reduceNeg]
  have := lp 0 (by omega)
  rw [pyF_0, ex_ar_id] at this
  exact this
theorem xc_178 {rt d : Nat} {J : Nat → List ex_V → List ex_V → ex_H → Option ex_R} {is : List Instr} {ls st : List ex_V} {L : Nat} {σ : ex_S} {k : Int} (h1 : 0 ≤ k) (h2 : k ≤ 3) (hd : 0 < d) (hok : okN 8 st = true) : ex_xs rt J (ex_cd d) (.invokevirtual 178 :: is) ls (vI k :: vR 432 :: st) (SH L, σ) = ex_xs rt J (ex_cd d) is ls (st) (SH L, ex_ar σ 438 (pyF (σ 438) (fun j => σ 433 (41 + j)) (50 * k) 50)) := x_call1 (Or.inl rfl) rfl (sh_432 _) (Or.inl ⟨rfl, rfl⟩) (as := [vI k]) rfl rfl (okN_ok hok) rfl (sp_178 hd h1 h2)
theorem sp_179 {d : Nat} (hd : 0 < d) {L : Nat} {σ : ex_S} {k : Int} (h1 : 0 ≤ k) (h2 : k ≤ 3) : ex_cd d 179 [vR 432, vI k] (SH L, σ) = some ([], (SH L, ex_ar σ 433 (pyF (σ 433) (fun j => σ 438 (50 * k + j)) 41 50))) := by
  rw [ex_cd_eq (by omega)]
  show ex_ev (d - 1) 179 0 [vR 432, vI k, vL 0] [] (SH L, σ) = _
  have lp : ∀ j : Nat, j ≤ 50 → ex_ev (d - 1) 179 1 [vR 432, vI k, vI (j : Int)] [] (SH L, ex_ar σ 433 (pyF (σ 433) (fun j => σ 438 (50 * k + j)) 41 j)) = some ([], (SH L, ex_ar σ 433 (pyF (σ 433) (fun j => σ 438 (50 * k + j)) 41 50))) := by
    refine down ?_ ?_
    · rw [ev_179_1]
      (repeat' first | simp (disch := first | assumption | omega | ((repeat' first | exact ok_nil | apply ok_I | apply ok_R); done) | (simp (disch := first | omega | decide) only [ex_ar_same, ex_ar_diff, kM_diff, ex_u_same, ex_u_diff]; first | assumption | omega)) only [ev_179_0, ev_179_2, gf_432_0, gf_432_7, ld_433, ld_438, sd_433, sd_438, x_fall, x_goto, x_iadd, x_imul, x_push, x_ret0, xl_a0, xl_i1, xl_i2, xn_2, xt_i2, y_cmp_ge_f, y_cmp_ge_t, i_wr_id, kM_diff, Int.reduceToNat, ex_ar_same, ex_ar_ar, ex_ar_diff, ex_u_same, ex_u_diff, b2i_t, b2i_f, ex_div_nn, ex_rem_nn, Int.toNat_zero, Int.toNat_one, Int.reduceAdd, Int.reduceSub, Int.reduceMul, Int.reduceNeg] | refine bb_eq (fun _ => ?_) (fun _ => ?_) | refine bb_ne (fun _ => ?_) (fun _ => ?_) | refine bc_eq (fun _ => ?_) (fun _ => ?_) | refine bc_ne (fun _ => ?_) (fun _ => ?_) | refine bc_lt (fun _ => ?_) (fun _ => ?_) | refine bc_ge (fun _ => ?_) (fun _ => ?_) | refine bc_gt (fun _ => ?_) (fun _ => ?_) | refine bc_le (fun _ => ?_) (fun _ => ?_) | refine bi_eq (fun _ => ?_) (fun _ => ?_) | refine bi_ne (fun _ => ?_) (fun _ => ?_) | refine bi_lt (fun _ => ?_) (fun _ => ?_) | refine bi_ge (fun _ => ?_) (fun _ => ?_) | refine bi_gt (fun _ => ?_) (fun _ => ?_) | refine bi_le (fun _ => ?_) (fun _ => ?_))
    · intro j hj ih
      rw [ev_179_1]
      (repeat' first | simp (disch := first | assumption | omega | ((repeat' first | exact ok_nil | apply ok_I | apply ok_R); done) | (simp (disch := first | omega | decide) only [ex_ar_same, ex_ar_diff, kM_diff, ex_u_same, ex_u_diff]; first | assumption | omega)) only [ev_179_0, ev_179_2, gf_432_0, gf_432_7, ld_433, ld_438, sd_433, sd_438, x_fall, x_goto, x_iadd, x_imul, x_push, x_ret0, xl_a0, xl_i1, xl_i2, xn_2, xt_i2, y_cmp_ge_f, y_cmp_ge_t, i_wr_id, kM_diff, Int.reduceToNat, ex_ar_same, ex_ar_ar, ex_ar_diff, ex_u_same, ex_u_diff, b2i_t, b2i_f, ex_div_nn, ex_rem_nn, Int.toNat_zero, Int.toNat_one, Int.reduceAdd, Int.reduceSub, Int.reduceMul, Int.reduceNeg] | refine bb_eq (fun _ => ?_) (fun _ => ?_) | refine bb_ne (fun _ => ?_) (fun _ => ?_) | refine bc_eq (fun _ => ?_) (fun _ => ?_) | refine bc_ne (fun _ => ?_) (fun _ => ?_) | refine bc_lt (fun _ => ?_) (fun _ => ?_) | refine bc_ge (fun _ => ?_) (fun _ => ?_) | refine bc_gt (fun _ => ?_) (fun _ => ?_) | refine bc_le (fun _ => ?_) (fun _ => ?_) | refine bi_eq (fun _ => ?_) (fun _ => ?_) | refine bi_ne (fun _ => ?_) (fun _ => ?_) | refine bi_lt (fun _ => ?_) (fun _ => ?_) | refine bi_ge (fun _ => ?_) (fun _ => ?_) | refine bi_gt (fun _ => ?_) (fun _ => ?_) | refine bi_le (fun _ => ?_) (fun _ => ?_))
      rw [pyF_s (σ 433) (fun j => σ 438 (50 * k + j)), nat_cast_succ]
      exact ih
  simp (disch := first | assumption | omega | ((repeat' first | exact ok_nil | apply ok_I | apply ok_R); done) | (simp (disch := first | omega | decide) only [ex_ar_same, ex_ar_diff, kM_diff, ex_u_same, ex_u_diff]; first | assumption | omega)) only [ev_179_0, ev_179_2, gf_432_0, gf_432_7, ld_433, ld_438, sd_433, sd_438, x_fall, x_goto, x_iadd, x_imul, x_push, x_ret0, xl_a0, xl_i1, xl_i2, xn_2, xt_i2, y_cmp_ge_f, y_cmp_ge_t, i_wr_id, kM_diff, Int.reduceToNat, ex_ar_same, ex_ar_ar, ex_ar_diff, ex_u_same, ex_u_diff, b2i_t, b2i_f, ex_div_nn, ex_rem_nn, Int.toNat_zero, Int.toNat_one, Int.reduceAdd, Int.reduceSub, Int.reduceMul, Int.reduceNeg]
  have := lp 0 (by omega)
  rw [pyF_0, ex_ar_id] at this
  exact this
theorem xc_179 {rt d : Nat} {J : Nat → List ex_V → List ex_V → ex_H → Option ex_R} {is : List Instr} {ls st : List ex_V} {L : Nat} {σ : ex_S} {k : Int} (h1 : 0 ≤ k) (h2 : k ≤ 3) (hd : 0 < d) (hok : okN 8 st = true) : ex_xs rt J (ex_cd d) (.invokevirtual 179 :: is) ls (vI k :: vR 432 :: st) (SH L, σ) = ex_xs rt J (ex_cd d) is ls (st) (SH L, ex_ar σ 433 (pyF (σ 433) (fun j => σ 438 (50 * k + j)) 41 50)) := x_call1 (Or.inl rfl) rfl (sh_432 _) (Or.inl ⟨rfl, rfl⟩) (as := [vI k]) rfl rfl (okN_ok hok) rfl (sp_179 hd h1 h2)
/-- the first code that goes -/
def frC (g : Nat → Option (List Int)) : Nat → Nat → Option (List Int)
  | _, 0 => none
  | i, j + 1 => if (g i).isSome then g i else frC g (i + 1) j
def frN : Nat → (Int → Int) → Int → Option (List Int)
  | 0, n, c => if freeP n c then some [] else none
  | m + 1, n, c => frC (fun i => if (i : Int) / 8 = c ∨ ¬ (0 ≤ (i : Int) % 8 ∧ (i : Int) % 8 < n 0) ∨ hindN n ((i : Int) / 8) ((i : Int) % 8) ≠ 0 then none else (frN m (doesF n ((i : Int) / 8) ((i : Int) % 8)) c).map (fun p => (i : Int) :: p)) 0 (8 * n 1).toNat
theorem xr_180 {rt d L : Nat} {J : Nat → List ex_V → List ex_V → ex_H → Option ex_R} {is : List Instr} {ls st : List ex_V} {σ : ex_S} {H2 : ex_H} {a0 a1 a2 z : Int} (he : ex_cd d 180 [vR 432, vI a0, vI a1, vI a2] (SH L, σ) = some ([vI z], H2)) (hok : okN 8 st = true) : ex_xs rt J (ex_cd d) (.invokevirtual 180 :: is) ls (vI a2 :: vI a1 :: vI a0 :: vR 432 :: st) (SH L, σ) = ex_xs rt J (ex_cd d) is ls (vI z :: st) H2 := x_call1 (Or.inl rfl) rfl (sh_432 _) (Or.inl ⟨rfl, rfl⟩) (as := [vI a0, vI a1, vI a2]) rfl rfl (okN_ok hok) rfl he
theorem xr_181 {rt d L : Nat} {J : Nat → List ex_V → List ex_V → ex_H → Option ex_R} {is : List Instr} {ls st : List ex_V} {σ : ex_S} {H2 : ex_H} {a0 z : Int} (he : ex_cd d 181 [vR 432, vI a0] (SH L, σ) = some ([vI z], H2)) (hok : okN 8 st = true) : ex_xs rt J (ex_cd d) (.invokevirtual 181 :: is) ls (vI a0 :: vR 432 :: st) (SH L, σ) = ex_xs rt J (ex_cd d) is ls (vI z :: st) H2 := x_call1 (Or.inl rfl) rfl (sh_432 _) (Or.inl ⟨rfl, rfl⟩) (as := [vI a0]) rfl rfl (okN_ok hok) rfl he
theorem back_41 {n n2 A : Int → Int} {k : Int} (h1 : ∀ j : Int, 0 ≤ j → j < 50 → A (50 * k + j) = n (41 + j)) (h2 : ∀ i : Int, i < 41 ∨ 91 ≤ i → n2 i = n i) : pyF n2 (fun j => A (50 * k + j)) 41 50 = n := by
  funext i
  unfold pyF
  by_cases q : 41 ≤ i ∧ i < 41 + ((50 : Nat) : Int)
  · rw [if_pos q]
    dsimp only
    rw [h1 (i - 41) (by omega) (by omega)]
    congr 1
    omega
  · rw [if_neg q]
    exact h2 i (by omega)
theorem fr_180 : ∀ (m : Nat) {d L : Nat} {σ : ex_S} {c : Int} (k : Nat), k + m ≤ 3 → 5 + m < d → NI (σ 433) → 0 ≤ c → c < 8 → ∃ σ', ex_cd d 180 [vR 432, vI c, vI (k : Int), vI ((k + m : Nat) : Int)] (SH L, σ) = some ([vI (b2i ((frN m (σ 433) c).isSome = true))], (SH L, σ')) ∧ (∀ a, a ≠ 438 → a ≠ 439 → σ' a = σ a) ∧ (∀ i : Int, i < 50 * (k : Int) → σ' 438 i = σ 438 i) ∧ (∀ i : Int, i < (k : Int) → σ' 439 i = σ 439 i) ∧ (∀ p, frN m (σ 433) c = some p → ∀ j : Nat, j < m → σ' 439 ((k : Int) + (j : Int)) = p.getD j 0)
  | 0, d, L, σ, c, k, hk, hd, hN, h1, h2 => by
    (have := hN.a0; have := hN.b0; have := hN.a1; have := hN.b1; have := hN.a2; have := hN.b2; have := hN.a3; have := hN.b3; have := hN.a4; have := hN.b4; have := hN.a5; have := hN.b5; have := hN.a7; have := hN.b7; have := hN.a8; have := hN.b8; have := hN.a9; have := hN.b9; have := hN.a10; have := hN.b10; have := hN.oM; have := hN.oP)
    refine ⟨σ, ?_, fun _ _ _ => rfl, fun _ _ => rfl, fun _ _ => rfl, fun p _ j hj => by omega⟩
    rw [ex_cd_eq (by omega)]
    show ex_ev (d - 1) 180 0 [vR 432, vI c, vI (k : Int), vI ((k : Nat) : Int), vL 0, vL 0] [] (SH L, σ) = _
    have e : b2i (freeP (σ 433) c) = b2i ((frN 0 (σ 433) c).isSome = true) := b2i_iff (by
      unfold frN
      by_cases q : freeP (σ 433) c
      · rw [if_pos q]; exact ⟨fun _ => rfl, fun _ => q⟩
      · rw [if_neg q]; exact ⟨fun z => absurd z q, fun z => by cases z⟩)
    rw [← e]
    simp (disch := first | assumption | omega | ((repeat' first | exact ok_nil | apply ok_I | apply ok_R); done) | (simp (disch := first | omega | decide) only [ex_ar_same, ex_ar_diff, kM_diff, ex_u_same, ex_u_diff]; first | assumption | omega)) only [ev_180_0, ev_180_1, ev_180_3, ev_180_4, ev_180_5, gf_432_0, gf_432_8, ld_433, ld_439, sd_433, sd_439, x_fall, x_goto, x_iadd, x_idiv, x_imul, x_irem, x_push, x_ret2, x_ret2b, xc_144, xc_165, xc_170, xc_171, xc_178, xc_179, xl_a0, xl_i1, xl_i2, xl_i3, xl_i4, xl_i5, xn_4, xt_i4, xt_i5, y_cmp_eq_f, y_cmp_eq_t, y_cmp_ge_f, y_cmp_ge_t, y_cmp_ne_f, y_cmp_ne_t, y_if_eq_f, y_if_eq_t, i_wr_id, kM_diff, Int.reduceToNat, ex_ar_same, ex_ar_ar, ex_ar_diff, ex_u_same, ex_u_diff, ex_div_nn, ex_rem_nn, Int.toNat_zero, Int.toNat_one, Int.reduceAdd, Int.reduceSub, Int.reduceMul, Int.reduceNeg]
  | m + 1, d, L, σ, c, k, hk, hd, hN, h1, h2 => by
    (have := hN.a0; have := hN.b0; have := hN.a1; have := hN.b1; have := hN.a2; have := hN.b2; have := hN.a3; have := hN.b3; have := hN.a4; have := hN.b4; have := hN.a5; have := hN.b5; have := hN.a7; have := hN.b7; have := hN.a8; have := hN.b8; have := hN.a9; have := hN.b9; have := hN.a10; have := hN.b10; have := hN.oM; have := hN.oP)
    generalize hg : (fun i : Nat => if (i : Int) / 8 = c ∨ ¬ (0 ≤ (i : Int) % 8 ∧ (i : Int) % 8 < σ 433 0) ∨ hindN (σ 433) ((i : Int) / 8) ((i : Int) % 8) ≠ 0 then none else (frN m (doesF (σ 433) ((i : Int) / 8) ((i : Int) % 8)) c).map (fun p => (i : Int) :: p)) = g
    have hfr : frN (m + 1) (σ 433) c = frC g 0 (8 * σ 433 1).toNat := by rw [← hg]; rfl
    rw [hfr]
    have lp : ∀ i : Nat, i ≤ (8 * σ 433 1).toNat → ∀ (τ : ex_S) (w : ex_V), (∀ a, a ≠ 438 → a ≠ 439 → τ a = σ a) → (∀ i : Int, i < 50 * (k : Int) → τ 438 i = σ 438 i) → (∀ j : Int, 0 ≤ j → j < 50 → τ 438 (50 * (k : Int) + j) = σ 433 (41 + j)) → (∀ i : Int, i < (k : Int) → τ 439 i = σ 439 i) → ∃ σ', ex_ev (d - 1) 180 2 [vR 432, vI c, vI (k : Int), vI ((k + (m + 1) : Nat) : Int), vI (i : Int), w] [] (SH L, τ) = some ([vI (b2i ((frC g i ((8 * σ 433 1).toNat - i)).isSome = true))], (SH L, σ')) ∧ (∀ a, a ≠ 438 → a ≠ 439 → σ' a = σ a) ∧ (∀ i : Int, i < 50 * (k : Int) → σ' 438 i = σ 438 i) ∧ (∀ i : Int, i < (k : Int) → σ' 439 i = σ 439 i) ∧ (∀ p, frC g i ((8 * σ 433 1).toNat - i) = some p → ∀ j : Nat, j < m + 1 → σ' 439 ((k : Int) + (j : Int)) = p.getD j 0) := by
      refine down ?_ ?_
      · intro τ w t1 t2 t3 t4
        have e433 : τ 433 = σ 433 := t1 433 (by decide) (by decide)
        refine ⟨τ, ?_, t1, t2, t4, ?_⟩
        · rw [ev_180_2, Nat.sub_self]
          simp (disch := first | assumption | omega | ((repeat' first | exact ok_nil | apply ok_I | apply ok_R); done) | (simp (disch := first | omega | decide) only [ex_ar_same, ex_ar_diff, kM_diff, ex_u_same, ex_u_diff]; first | assumption | omega)) only [e433, ev_180_0, ev_180_1, ev_180_3, ev_180_4, ev_180_5, gf_432_0, gf_432_8, ld_433, ld_439, sd_433, sd_439, x_fall, x_goto, x_iadd, x_idiv, x_imul, x_irem, x_push, x_ret2, x_ret2b, xc_144, xc_165, xc_170, xc_171, xc_178, xc_179, xl_a0, xl_i1, xl_i2, xl_i3, xl_i4, xl_i5, xn_4, xt_i4, xt_i5, y_cmp_eq_f, y_cmp_eq_t, y_cmp_ge_f, y_cmp_ge_t, y_cmp_ne_f, y_cmp_ne_t, y_if_eq_f, y_if_eq_t, i_wr_id, kM_diff, Int.reduceToNat, ex_ar_same, ex_ar_ar, ex_ar_diff, ex_u_same, ex_u_diff, b2i_t, b2i_f, ex_div_nn, ex_rem_nn, Int.toNat_zero, Int.toNat_one, Int.reduceAdd, Int.reduceSub, Int.reduceMul, Int.reduceNeg]
          rfl
        · rw [Nat.sub_self]
          intro p hp
          cases hp
      · intro i hi ih τ w t1 t2 t3 t4
        have e433 : τ 433 = σ 433 := t1 433 (by decide) (by decide)
        have hN' : NI (τ 433) := by rw [e433]; exact hN
        have f0 : 0 ≤ τ 433 0 := by rw [e433]; omega
        have f1 : τ 433 0 ≤ 5 := by rw [e433]; omega
        have f2 : τ 433 1 = σ 433 1 := by rw [e433]
        rw [show (8 * σ 433 1).toNat - i = ((8 * σ 433 1).toNat - (i + 1)) + 1 by omega, frC]
        by_cases q1 : (i : Int) / 8 = c
        · have gi : g i = none := by rw [← hg]; exact if_pos (Or.inl q1)
          rw [gi]
          obtain ⟨σ', r1, r2⟩ := ih τ w t1 t2 t3 t4
          refine ⟨σ', ?_, r2⟩
          rw [ev_180_2]
          simp (disch := first | assumption | omega | ((repeat' first | exact ok_nil | apply ok_I | apply ok_R); done) | (simp (disch := first | omega | decide) only [ex_ar_same, ex_ar_diff, kM_diff, ex_u_same, ex_u_diff]; first | assumption | omega)) only [e433, ev_180_0, ev_180_1, ev_180_3, ev_180_4, ev_180_5, gf_432_0, gf_432_8, ld_433, ld_439, sd_433, sd_439, x_fall, x_goto, x_iadd, x_idiv, x_imul, x_irem, x_push, x_ret2, x_ret2b, xc_144, xc_165, xc_170, xc_171, xc_178, xc_179, xl_a0, xl_i1, xl_i2, xl_i3, xl_i4, xl_i5, xn_4, xt_i4, xt_i5, y_cmp_eq_f, y_cmp_eq_t, y_cmp_ge_f, y_cmp_ge_t, y_cmp_ne_f, y_cmp_ne_t, y_if_eq_f, y_if_eq_t, i_wr_id, kM_diff, Int.reduceToNat, ex_ar_same, ex_ar_ar, ex_ar_diff, ex_u_same, ex_u_diff, b2i_t, b2i_f, ex_div_nn, ex_rem_nn, Int.toNat_zero, Int.toNat_one, Int.reduceAdd, Int.reduceSub, Int.reduceMul, Int.reduceNeg]
          rw [nat_cast_succ]
          exact r1
        · by_cases q2 : 0 ≤ (i : Int) % 8 ∧ (i : Int) % 8 < σ 433 0
          · have q2' : 0 ≤ (i : Int) % 8 ∧ (i : Int) % 8 < τ 433 0 := by rw [e433]; exact q2
            by_cases q3 : hindN (σ 433) ((i : Int) / 8) ((i : Int) % 8) = 0
            · have q3' : hindN (τ 433) ((i : Int) / 8) ((i : Int) % 8) = 0 := by rw [e433]; exact q3
              have gi : g i = (frN m (doesF (σ 433) ((i : Int) / 8) ((i : Int) % 8)) c).map (fun p => (i : Int) :: p) := by rw [← hg]; exact if_neg (fun z => by rcases z with z | z | z; exact q1 z; exact z q2; exact z q3)
              obtain ⟨s1, s2, s3, s4, s5, s6, s7⟩ := hind_0 q3
              have s1' : 0 ≤ standN (τ 433) ((i : Int) / 8) := by rw [e433]; exact s1
              have s2' : standN (τ 433) ((i : Int) / 8) / 8 ≠ (i : Int) % 8 := by rw [e433]; exact s2
              have hN2 := (does_st hN (show 0 ≤ (i : Int) / 8 by omega) (show (i : Int) / 8 < σ 433 1 by omega) q2.1 q2.2 s3 s2 (fun z => s4 (Or.inr z))).1
              have d1 : ∀ z : Int, z < 41 ∨ 91 ≤ z → doesF (σ 433) ((i : Int) / 8) ((i : Int) % 8) z = σ 433 z := fun z hz => doesF_lo hN q2.1 (by omega) s1 hz
              obtain ⟨σ3, r1, r2, r3, r4, r5⟩ := fr_180 m (d := d - 1) (L := L) (σ := ex_ar (ex_ar τ 433 (doesF (σ 433) ((i : Int) / 8) ((i : Int) % 8))) 439 (ex_u (τ 439) (k : Int) (i : Int))) (c := c) (k + 1) (by omega) (by omega) (by rw [ex_ar_diff _ _ _ (by decide), ex_ar_same]; exact hN2) h1 h2
              rw [show ((k + 1 : Nat) : Int) = (k : Int) + 1 by omega, show ((k + 1 + m : Nat) : Int) = ((k + (m + 1) : Nat) : Int) by omega] at r1
              rw [ex_ar_diff _ _ _ (by decide), ex_ar_same] at r1 r5
              have e3 : σ3 433 = doesF (σ 433) ((i : Int) / 8) ((i : Int) % 8) := by rw [r2 433 (by decide) (by decide), ex_ar_diff _ _ _ (by decide), ex_ar_same]
              have bk : pyF (σ3 433) (fun j => σ3 438 (50 * (k : Int) + j)) 41 50 = σ 433 := by
                rw [e3]
                refine back_41 (fun j j1 j2 => ?_) d1
                rw [r3 _ (by omega), ex_ar_diff _ _ _ (by decide), ex_ar_diff _ _ _ (by decide)]
                exact t3 j j1 j2
              have u1 : ∀ a, a ≠ 438 → a ≠ 439 → ex_ar σ3 433 (σ 433) a = σ a := fun a x1 x2 => by
                by_cases z : a = 433
                · subst z; rw [ex_ar_same]
                · rw [ex_ar_diff _ _ _ z, r2 a x1 x2, ex_ar_diff _ _ _ x2, ex_ar_diff _ _ _ z, t1 a x1 x2]
              have u2 : ∀ i : Int, i < 50 * (k : Int) → ex_ar σ3 433 (σ 433) 438 i = σ 438 i := fun z hz => by
                rw [ex_ar_diff _ _ _ (by decide), r3 z (by omega), ex_ar_diff _ _ _ (by decide), ex_ar_diff _ _ _ (by decide), t2 z hz]
              have u3 : ∀ j : Int, 0 ≤ j → j < 50 → ex_ar σ3 433 (σ 433) 438 (50 * (k : Int) + j) = σ 433 (41 + j) := fun j j1 j2 => by
                rw [ex_ar_diff _ _ _ (by decide), r3 _ (by omega), ex_ar_diff _ _ _ (by decide), ex_ar_diff _ _ _ (by decide)]
                exact t3 j j1 j2
              have u4 : ∀ i : Int, i < (k : Int) → ex_ar σ3 433 (σ 433) 439 i = σ 439 i := fun z hz => by
                rw [ex_ar_diff _ _ _ (by decide), r4 z (by omega), ex_ar_same, ex_u_diff _ _ (by omega), t4 z hz]
              have u5 : ex_ar σ3 433 (σ 433) 439 (k : Int) = (i : Int) := by
                rw [ex_ar_diff _ _ _ (by decide), r4 _ (by omega), ex_ar_same, ex_u_same]
              rw [gi]
              by_cases q4 : (frN m (doesF (σ 433) ((i : Int) / 8) ((i : Int) % 8)) c).isSome = true
              · refine ⟨ex_ar σ3 433 (σ 433), ?_, u1, u2, u4, ?_⟩
                · rw [ev_180_2, if_pos (by rw [Option.isSome_map]; exact q4), Option.isSome_map, b2i_t q4]
                  rw [b2i_t q4] at r1
                  simp (disch := first | assumption | omega | ((repeat' first | exact ok_nil | apply ok_I | apply ok_R); done) | (simp (disch := first | omega | decide) only [ex_ar_same, ex_ar_diff, kM_diff, ex_u_same, ex_u_diff]; first | assumption | omega)) only [(xr_180 r1), bk, e433, ev_180_0, ev_180_1, ev_180_3, ev_180_4, ev_180_5, gf_432_0, gf_432_8, ld_433, ld_439, sd_433, sd_439, x_fall, x_goto, x_iadd, x_idiv, x_imul, x_irem, x_push, x_ret2, x_ret2b, xc_144, xc_165, xc_170, xc_171, xc_178, xc_179, xl_a0, xl_i1, xl_i2, xl_i3, xl_i4, xl_i5, xn_4, xt_i4, xt_i5, y_cmp_eq_f, y_cmp_eq_t, y_cmp_ge_f, y_cmp_ge_t, y_cmp_ne_f, y_cmp_ne_t, y_if_eq_f, y_if_eq_t, i_wr_id, kM_diff, Int.reduceToNat, ex_ar_same, ex_ar_ar, ex_ar_diff, ex_u_same, ex_u_diff, b2i_t, b2i_f, ex_div_nn, ex_rem_nn, Int.toNat_zero, Int.toNat_one, Int.reduceAdd, Int.reduceSub, Int.reduceMul, Int.reduceNeg]
                · rw [if_pos (by rw [Option.isSome_map]; exact q4)]
                  intro p hp j hj
                  obtain ⟨p', hp'⟩ := Option.isSome_iff_exists.mp q4
                  rw [hp'] at hp
                  cases hp
                  cases j with
                  | zero => rw [show (k : Int) + ((0 : Nat) : Int) = (k : Int) by omega, u5]; rfl
                  | succ j =>
                    rw [ex_ar_diff _ _ _ (by decide)]
                    have := r5 p' hp' j (by omega)
                    rw [show ((k + 1 : Nat) : Int) + (j : Int) = (k : Int) + ((j + 1 : Nat) : Int) by omega] at this
                    rw [this]
                    rfl
              · obtain ⟨σ', v1, v2⟩ := ih (ex_ar σ3 433 (σ 433)) (vI 0) u1 u2 u3 u4
                rw [if_neg (by rw [Option.isSome_map]; exact q4)]
                refine ⟨σ', ?_, v2⟩
                rw [b2i_f q4] at r1
                rw [ev_180_2]
                simp (disch := first | assumption | omega | ((repeat' first | exact ok_nil | apply ok_I | apply ok_R); done) | (simp (disch := first | omega | decide) only [ex_ar_same, ex_ar_diff, kM_diff, ex_u_same, ex_u_diff]; first | assumption | omega)) only [(xr_180 r1), bk, e433, ev_180_0, ev_180_1, ev_180_3, ev_180_4, ev_180_5, gf_432_0, gf_432_8, ld_433, ld_439, sd_433, sd_439, x_fall, x_goto, x_iadd, x_idiv, x_imul, x_irem, x_push, x_ret2, x_ret2b, xc_144, xc_165, xc_170, xc_171, xc_178, xc_179, xl_a0, xl_i1, xl_i2, xl_i3, xl_i4, xl_i5, xn_4, xt_i4, xt_i5, y_cmp_eq_f, y_cmp_eq_t, y_cmp_ge_f, y_cmp_ge_t, y_cmp_ne_f, y_cmp_ne_t, y_if_eq_f, y_if_eq_t, i_wr_id, kM_diff, Int.reduceToNat, ex_ar_same, ex_ar_ar, ex_ar_diff, ex_u_same, ex_u_diff, b2i_t, b2i_f, ex_div_nn, ex_rem_nn, Int.toNat_zero, Int.toNat_one, Int.reduceAdd, Int.reduceSub, Int.reduceMul, Int.reduceNeg]
                rw [nat_cast_succ]
                exact v1
            · have q3' : hindN (τ 433) ((i : Int) / 8) ((i : Int) % 8) ≠ 0 := by rw [e433]; exact q3
              have gi : g i = none := by rw [← hg]; exact if_pos (Or.inr (Or.inr q3))
              rw [gi]
              obtain ⟨σ', r1, r2⟩ := ih τ w t1 t2 t3 t4
              refine ⟨σ', ?_, r2⟩
              rw [ev_180_2]
              simp (disch := first | assumption | omega | ((repeat' first | exact ok_nil | apply ok_I | apply ok_R); done) | (simp (disch := first | omega | decide) only [ex_ar_same, ex_ar_diff, kM_diff, ex_u_same, ex_u_diff]; first | assumption | omega)) only [e433, ev_180_0, ev_180_1, ev_180_3, ev_180_4, ev_180_5, gf_432_0, gf_432_8, ld_433, ld_439, sd_433, sd_439, x_fall, x_goto, x_iadd, x_idiv, x_imul, x_irem, x_push, x_ret2, x_ret2b, xc_144, xc_165, xc_170, xc_171, xc_178, xc_179, xl_a0, xl_i1, xl_i2, xl_i3, xl_i4, xl_i5, xn_4, xt_i4, xt_i5, y_cmp_eq_f, y_cmp_eq_t, y_cmp_ge_f, y_cmp_ge_t, y_cmp_ne_f, y_cmp_ne_t, y_if_eq_f, y_if_eq_t, i_wr_id, kM_diff, Int.reduceToNat, ex_ar_same, ex_ar_ar, ex_ar_diff, ex_u_same, ex_u_diff, b2i_t, b2i_f, ex_div_nn, ex_rem_nn, Int.toNat_zero, Int.toNat_one, Int.reduceAdd, Int.reduceSub, Int.reduceMul, Int.reduceNeg]
              rw [nat_cast_succ]
              exact r1
          · have q2' : ¬ (0 ≤ (i : Int) % 8 ∧ (i : Int) % 8 < τ 433 0) := by rw [e433]; exact q2
            have gi : g i = none := by rw [← hg]; exact if_pos (Or.inr (Or.inl q2))
            rw [gi]
            obtain ⟨σ', r1, r2⟩ := ih τ w t1 t2 t3 t4
            refine ⟨σ', ?_, r2⟩
            rw [ev_180_2]
            simp (disch := first | assumption | omega | ((repeat' first | exact ok_nil | apply ok_I | apply ok_R); done) | (simp (disch := first | omega | decide) only [ex_ar_same, ex_ar_diff, kM_diff, ex_u_same, ex_u_diff]; first | assumption | omega)) only [e433, ev_180_0, ev_180_1, ev_180_3, ev_180_4, ev_180_5, gf_432_0, gf_432_8, ld_433, ld_439, sd_433, sd_439, x_fall, x_goto, x_iadd, x_idiv, x_imul, x_irem, x_push, x_ret2, x_ret2b, xc_144, xc_165, xc_170, xc_171, xc_178, xc_179, xl_a0, xl_i1, xl_i2, xl_i3, xl_i4, xl_i5, xn_4, xt_i4, xt_i5, y_cmp_eq_f, y_cmp_eq_t, y_cmp_ge_f, y_cmp_ge_t, y_cmp_ne_f, y_cmp_ne_t, y_if_eq_f, y_if_eq_t, i_wr_id, kM_diff, Int.reduceToNat, ex_ar_same, ex_ar_ar, ex_ar_diff, ex_u_same, ex_u_diff, b2i_t, b2i_f, ex_div_nn, ex_rem_nn, Int.toNat_zero, Int.toNat_one, Int.reduceAdd, Int.reduceSub, Int.reduceMul, Int.reduceNeg]
            rw [nat_cast_succ]
            exact r1
    rw [ex_cd_eq (by omega)]
    show ∃ σ', ex_ev (d - 1) 180 0 [vR 432, vI c, vI (k : Int), vI ((k + (m + 1) : Nat) : Int), vL 0, vL 0] [] (SH L, σ) = _ ∧ _
    obtain ⟨σ', v1, v2⟩ := lp 0 (by omega) (ex_ar σ 438 (pyF (σ 438) (fun j => σ 433 (41 + j)) (50 * (k : Int)) 50)) (vL 0) (fun a x1 x2 => ex_ar_diff _ _ _ x1) (fun z hz => by rw [ex_ar_same]; unfold pyF; rw [if_neg (by omega)]) (fun j j1 j2 => by rw [ex_ar_same]; unfold pyF; rw [if_pos (by omega)]; dsimp only; congr 1; omega) (fun z hz => by rw [ex_ar_diff _ _ _ (by decide)])
    refine ⟨σ', ?_, v2⟩
    simp (disch := first | assumption | omega | ((repeat' first | exact ok_nil | apply ok_I | apply ok_R); done) | (simp (disch := first | omega | decide) only [ex_ar_same, ex_ar_diff, kM_diff, ex_u_same, ex_u_diff]; first | assumption | omega)) only [ev_180_0, ev_180_1, ev_180_3, ev_180_4, ev_180_5, gf_432_0, gf_432_8, ld_433, ld_439, sd_433, sd_439, x_fall, x_goto, x_iadd, x_idiv, x_imul, x_irem, x_push, x_ret2, x_ret2b, xc_144, xc_165, xc_170, xc_171, xc_178, xc_179, xl_a0, xl_i1, xl_i2, xl_i3, xl_i4, xl_i5, xn_4, xt_i4, xt_i5, y_cmp_eq_f, y_cmp_eq_t, y_cmp_ge_f, y_cmp_ge_t, y_cmp_ne_f, y_cmp_ne_t, y_if_eq_f, y_if_eq_t, i_wr_id, kM_diff, Int.reduceToNat, ex_ar_same, ex_ar_ar, ex_ar_diff, ex_u_same, ex_u_diff, b2i_t, b2i_f, ex_div_nn, ex_rem_nn, Int.toNat_zero, Int.toNat_one, Int.reduceAdd, Int.reduceSub, Int.reduceMul, Int.reduceNeg]
    exact v1
