/-! the reference: plans -/
def mbR (n f : Int → Int) (k l : Int) : Nat → Int × Int
  | 0 => (n (16 + l) - n (91 + n (139 + k)), 0)
  | i + 1 => if f (i : Int) = l then ((mbR n f k l i).1 - n (91 + n (139 + (i : Int))), (mbR n f k l i).2 + (if n (115 + n (139 + (i : Int))) < n (115 + n (139 + k)) then 2 else 0)) else mbR n f k l i
def mbN (n f : Int → Int) (k : Nat) (l : Int) : Int := if (n (99 + n (139 + (k : Int))) ≤ n (21 + l) ∧ n (107 + n (139 + (k : Int))) ≤ n (26 + l)) ∧ 0 ≤ (mbR n f (k : Int) l k).1 then (mbR n f (k : Int) l k).2 else -1
theorem mbR_bd {n : Int → Int} (hN : NI n) (f : Int → Int) {k l : Int} (h1 : 0 ≤ k) (h2 : k < n 7) (h3 : 0 ≤ l) (h4 : l < 5) : ∀ i : Nat, (i : Int) ≤ n 7 → -9 * ((i : Int) + 1) ≤ (mbR n f k l i).1 ∧ (mbR n f k l i).1 ≤ 30 ∧ 0 ≤ (mbR n f k l i).2 ∧ (mbR n f k l i).2 ≤ 2 * (i : Int)
  | 0, _ => by
    have := hN.ln l h3 h4
    have a := hN.ar k h1 h2
    have b1 := hN.b1
    have := hN.c0 (n (139 + k)) (by omega) (by omega)
    show -9 * (((0 : Nat) : Int) + 1) ≤ n (16 + l) - n (91 + n (139 + k)) ∧ n (16 + l) - n (91 + n (139 + k)) ≤ 30 ∧ (0 : Int) ≤ 0 ∧ (0 : Int) ≤ 2 * ((0 : Nat) : Int)
    omega
  | i + 1, h => by
    have ih := mbR_bd hN f h1 h2 h3 h4 i (by omega)
    have a := hN.ar i (by omega) (by omega)
    have b1 := hN.b1
    have := hN.c0 (n (139 + (i : Int))) (by omega) (by omega)
    rw [mbR]
    split
    · dsimp only
      split <;> omega
    · omega
theorem sp_190 {d : Nat} (hd : 1 < d) {L : Nat} {σ : ex_S} {k : Nat} {l : Int} (hN : NI (σ 433)) (h2 : (k : Int) < σ 433 7) (h3 : 0 ≤ l) (h4 : l < 5) : ex_cd d 190 [vR 432, vI (k : Int), vI l] (SH L, σ) = some ([vI (mbN (σ 433) (σ 440) k l)], (SH L, σ)) := by
  rw [ex_cd_eq (by omega)]
  show ex_ev (d - 1) 190 0 [vR 432, vI (k : Int), vI l, vL 0, vL 0, vL 0, vL 0, vL 0] [] (SH L, σ) = _
  (have := hN.a0; have := hN.b0; have := hN.a1; have := hN.b1; have := hN.a2; have := hN.b2; have := hN.a3; have := hN.b3; have := hN.a4; have := hN.b4; have := hN.a5; have := hN.b5; have := hN.a7; have := hN.b7; have := hN.a8; have := hN.b8; have := hN.a9; have := hN.b9; have := hN.a10; have := hN.b10; have := hN.oM; have := hN.oP)
  have a := hN.ar k (by omega) h2
  have c0 := hN.c0 (σ 433 (139 + (k : Int))) (by omega) (by omega)
  have l0 := hN.ln l h3 h4
  have lp : ∀ i : Nat, i ≤ k → ∀ (x y : Int) (w : ex_V), mbR (σ 433) (σ 440) (k : Int) l i = (x, y) → ex_ev (d - 1) 190 1 [vR 432, vI (k : Int), vI l, vI (σ 433 (139 + (k : Int))), vI x, vI y, vI (i : Int), w] [] (SH L, σ) = some ([vI (mbN (σ 433) (σ 440) k l)], (SH L, σ)) := by
    refine down ?_ ?_
    · intro x y w hk
      unfold mbN
      rw [hk, ev_190_1]
      (repeat' first | simp (disch := first | assumption | omega | ((repeat' first | exact ok_nil | apply ok_I | apply ok_R); done) | (simp (disch := first | omega | decide) only [ex_ar_same, ex_ar_diff, kM_diff, ex_u_same, ex_u_diff]; first | assumption | omega)) only [ev_190_0, ev_190_2, ev_190_3, ev_190_4, ev_190_5, ev_190_6, ev_190_7, gf_432_0, gf_432_9, ld_433, ld_440, x_fall, x_goto, x_iadd, x_isub, x_push, x_ret1, xc_162, xl_a0, xl_i1, xl_i2, xl_i3, xl_i4, xl_i5, xl_i6, xl_i7, xn_6, xt_i3, xt_i4, xt_i5, xt_i6, xt_i7, y_cmp_ge_f, y_cmp_ge_t, y_cmp_le_f, y_cmp_le_t, y_cmp_ne_f, y_cmp_ne_t, y_if_eq_f, y_if_eq_t, y_if_lt_f, y_if_lt_t, i_wr_id, kM_diff, Int.reduceToNat, ex_ar_same, ex_ar_ar, ex_ar_diff, ex_u_same, ex_u_diff, b2i_t, b2i_f, ex_div_nn, ex_rem_nn, Int.toNat_zero, Int.toNat_one, Int.reduceAdd, Int.reduceSub, Int.reduceMul, Int.reduceNeg] | refine bb_eq (fun _ => ?_) (fun _ => ?_) | refine bb_ne (fun _ => ?_) (fun _ => ?_) | refine bc_eq (fun _ => ?_) (fun _ => ?_) | refine bc_ne (fun _ => ?_) (fun _ => ?_) | refine bc_lt (fun _ => ?_) (fun _ => ?_) | refine bc_ge (fun _ => ?_) (fun _ => ?_) | refine bc_gt (fun _ => ?_) (fun _ => ?_) | refine bc_le (fun _ => ?_) (fun _ => ?_) | refine bi_eq (fun _ => ?_) (fun _ => ?_) | refine bi_ne (fun _ => ?_) (fun _ => ?_) | refine bi_lt (fun _ => ?_) (fun _ => ?_) | refine bi_ge (fun _ => ?_) (fun _ => ?_) | refine bi_gt (fun _ => ?_) (fun _ => ?_) | refine bi_le (fun _ => ?_) (fun _ => ?_))
      all_goals (try simp (disch := first | assumption | omega) only [if_pos, if_neg])
      all_goals (rw [if_neg (by rintro ⟨z1, z2⟩; first | omega | exact absurd z1 (by assumption))])
    · intro i hi ih x y w hk
      have ai := hN.ar i (by omega) (by omega)
      have ci := hN.c0 (σ 433 (139 + (i : Int))) (by omega) (by omega)
      have b := mbR_bd hN (σ 440) (show 0 ≤ (k : Int) by omega) h2 h3 h4 i (by omega)
      rw [hk] at b
      dsimp only at b
      rw [ev_190_1]
      (repeat' first | simp (disch := first | assumption | omega | ((repeat' first | exact ok_nil | apply ok_I | apply ok_R); done) | (simp (disch := first | omega | decide) only [ex_ar_same, ex_ar_diff, kM_diff, ex_u_same, ex_u_diff]; first | assumption | omega)) only [ev_190_0, ev_190_2, ev_190_3, ev_190_4, ev_190_5, ev_190_6, ev_190_7, gf_432_0, gf_432_9, ld_433, ld_440, x_fall, x_goto, x_iadd, x_isub, x_push, x_ret1, xc_162, xl_a0, xl_i1, xl_i2, xl_i3, xl_i4, xl_i5, xl_i6, xl_i7, xn_6, xt_i3, xt_i4, xt_i5, xt_i6, xt_i7, y_cmp_ge_f, y_cmp_ge_t, y_cmp_le_f, y_cmp_le_t, y_cmp_ne_f, y_cmp_ne_t, y_if_eq_f, y_if_eq_t, y_if_lt_f, y_if_lt_t, i_wr_id, kM_diff, Int.reduceToNat, ex_ar_same, ex_ar_ar, ex_ar_diff, ex_u_same, ex_u_diff, b2i_t, b2i_f, ex_div_nn, ex_rem_nn, Int.toNat_zero, Int.toNat_one, Int.reduceAdd, Int.reduceSub, Int.reduceMul, Int.reduceNeg] | refine bb_eq (fun _ => ?_) (fun _ => ?_) | refine bb_ne (fun _ => ?_) (fun _ => ?_) | refine bc_eq (fun _ => ?_) (fun _ => ?_) | refine bc_ne (fun _ => ?_) (fun _ => ?_) | refine bc_lt (fun _ => ?_) (fun _ => ?_) | refine bc_ge (fun _ => ?_) (fun _ => ?_) | refine bc_gt (fun _ => ?_) (fun _ => ?_) | refine bc_le (fun _ => ?_) (fun _ => ?_) | refine bi_eq (fun _ => ?_) (fun _ => ?_) | refine bi_ne (fun _ => ?_) (fun _ => ?_) | refine bi_lt (fun _ => ?_) (fun _ => ?_) | refine bi_ge (fun _ => ?_) (fun _ => ?_) | refine bi_gt (fun _ => ?_) (fun _ => ?_) | refine bi_le (fun _ => ?_) (fun _ => ?_))
      all_goals
        rw [nat_cast_succ]
        refine ih _ _ _ ?_
        rw [mbR, hk]
        dsimp only
        (try simp (disch := first | assumption | omega) only [if_pos, if_neg])
  simp (disch := first | assumption | omega | ((repeat' first | exact ok_nil | apply ok_I | apply ok_R); done) | (simp (disch := first | omega | decide) only [ex_ar_same, ex_ar_diff, kM_diff, ex_u_same, ex_u_diff]; first | assumption | omega)) only [ev_190_0, ev_190_2, ev_190_3, ev_190_4, ev_190_5, ev_190_6, ev_190_7, gf_432_0, gf_432_9, ld_433, ld_440, x_fall, x_goto, x_iadd, x_isub, x_push, x_ret1, xc_162, xl_a0, xl_i1, xl_i2, xl_i3, xl_i4, xl_i5, xl_i6, xl_i7, xn_6, xt_i3, xt_i4, xt_i5, xt_i6, xt_i7, y_cmp_ge_f, y_cmp_ge_t, y_cmp_le_f, y_cmp_le_t, y_cmp_ne_f, y_cmp_ne_t, y_if_eq_f, y_if_eq_t, y_if_lt_f, y_if_lt_t, i_wr_id, kM_diff, Int.reduceToNat, ex_ar_same, ex_ar_ar, ex_ar_diff, ex_u_same, ex_u_diff, b2i_t, b2i_f, ex_div_nn, ex_rem_nn, Int.toNat_zero, Int.toNat_one, Int.reduceAdd, Int.reduceSub, Int.reduceMul, Int.reduceNeg]
  exact lp 0 (by omega) _ _ _ rfl
theorem xc_190 {rt d : Nat} {J : Nat → List ex_V → List ex_V → ex_H → Option ex_R} {is : List Instr} {ls st : List ex_V} {L : Nat} {σ : ex_S} {k : Nat} {l : Int} (hN : NI (σ 433)) (h2 : (k : Int) < σ 433 7) (h3 : 0 ≤ l) (h4 : l < 5) (hd : 1 < d) (hok : okN 8 st = true) : ex_xs rt J (ex_cd d) (.invokevirtual 190 :: is) ls (vI l :: vI (k : Int) :: vR 432 :: st) (SH L, σ) = ex_xs rt J (ex_cd d) is ls (vI (mbN (σ 433) (σ 440) k l) :: st) (SH L, σ) := x_call1 (Or.inl rfl) rfl (sh_432 _) (Or.inl ⟨rfl, rfl⟩) (as := [vI (k : Int), vI l]) rfl rfl (okN_ok hok) rfl (sp_190 hd hN h2 h3 h4)
def plP (n : Int → Int) : Nat → Nat → Int → (Int → Int) → Int × (Int → Int) → Int × (Int → Int)
  | 0, k, s, f, a => (s, fun i => if 0 ≤ i ∧ i < (k : Int) then f i else a.2 i)
  | r + 1, k, s, f, a => itr (fun l a => if 0 ≤ mbN n f k (l : Int) ∧ (a.1 < 0 ∨ s + mbN n f k (l : Int) < a.1) then plP n r (k + 1) (s + mbN n f k (l : Int)) (ex_u f (k : Int) (l : Int)) a else a) 0 (n 0).toNat a
theorem mbR_congr {n f f' : Int → Int} (k l : Int) : ∀ i : Nat, (∀ j : Int, 0 ≤ j → j < (i : Int) → f' j = f j) → mbR n f' k l i = mbR n f k l i
  | 0, _ => rfl
  | i + 1, h => by rw [mbR, mbR, mbR_congr k l i (fun j h1 h2 => h j h1 (by omega)), h i (by omega) (by omega)]
theorem mbN_congr {n f f' : Int → Int} (k : Nat) (l : Int) (h : ∀ j : Int, 0 ≤ j → j < (k : Int) → f' j = f j) : mbN n f' k l = mbN n f k l := by unfold mbN; rw [mbR_congr _ _ _ h]
theorem mbN_bd {n : Int → Int} (hN : NI n) (f : Int → Int) {k : Nat} {l : Int} (h2 : (k : Int) < n 7) (h3 : 0 ≤ l) (h4 : l < 5) : -1 ≤ mbN n f k l ∧ mbN n f k l ≤ 14 := by
  have b7 := hN.b7
  have := mbR_bd hN f (show 0 ≤ (k : Int) by omega) h2 h3 h4 k (by omega)
  unfold mbN
  split <;> omega
theorem xr_191 {rt d L : Nat} {J : Nat → List ex_V → List ex_V → ex_H → Option ex_R} {is : List Instr} {ls st : List ex_V} {σ : ex_S} {H2 : ex_H} {a0 a1 : Int} (he : ex_cd d 191 [vR 432, vI a0, vI a1] (SH L, σ) = some ([], H2)) (hok : okN 8 st = true) : ex_xs rt J (ex_cd d) (.invokevirtual 191 :: is) ls (vI a1 :: vI a0 :: vR 432 :: st) (SH L, σ) = ex_xs rt J (ex_cd d) is ls (st) H2 := x_call1 (Or.inl rfl) rfl (sh_432 _) (Or.inl ⟨rfl, rfl⟩) (as := [vI a0, vI a1]) rfl rfl (okN_ok hok) rfl he
theorem xr_192 {rt d L : Nat} {J : Nat → List ex_V → List ex_V → ex_H → Option ex_R} {is : List Instr} {ls st : List ex_V} {σ : ex_S} {H2 : ex_H} (he : ex_cd d 192 [vR 432] (SH L, σ) = some ([], H2)) (hok : okN 8 st = true) : ex_xs rt J (ex_cd d) (.invokevirtual 192 :: is) ls (vR 432 :: st) (SH L, σ) = ex_xs rt J (ex_cd d) is ls (st) H2 := x_call1 (Or.inl rfl) rfl (sh_432 _) (Or.inl ⟨rfl, rfl⟩) (as := []) rfl rfl (okN_ok hok) rfl he
theorem itr_succ_last {α : Type} (f : Nat → α → α) (i j : Nat) (a : α) : itr f i (j + 1) a = itr f (i + 1) j (f i a) := rfl
def cqF (a b : Int → Int) (j : Nat) : Int → Int := fun k => if 0 ≤ k ∧ k < (j : Int) then a k else b k
theorem cqF_0 (a b : Int → Int) : cqF a b 0 = b := by funext k; unfold cqF; rw [if_neg (by omega)]
theorem cqF_s (a b : Int → Int) (j : Nat) : ex_u (cqF a b j) (j : Int) (a (j : Int)) = cqF a b (j + 1) := by
  funext k
  by_cases h : k = (j : Int)
  · subst h
    rw [ex_u_same]
    unfold cqF
    rw [if_pos (by omega)]
  · rw [ex_u_diff _ _ h]
    unfold cqF
    by_cases h2 : 0 ≤ k ∧ k < (j : Int)
    · rw [if_pos h2, if_pos (by omega)]
    · rw [if_neg h2, if_neg (by omega)]
theorem pl_191 : ∀ (r : Nat) {d L : Nat} {σ : ex_S} (k : Nat) (s : Int) (f : Int → Int), 5 + r < d → NI (σ 433) → ((k + r : Nat) : Int) = σ 433 7 → 0 ≤ s → s ≤ 14 * (k : Int) → (∀ j : Int, 0 ≤ j → j < (k : Int) → σ 440 j = f j) → ∃ τ, ex_cd d 191 [vR 432, vI (k : Int), vI s] (SH L, σ) = some ([], (SH L, τ)) ∧ (τ 432 11, τ 441) = plP (σ 433) r k s f (σ 432 11, σ 441) ∧ (∀ j : Int, 0 ≤ j → j < (k : Int) → τ 440 j = f j) ∧ (∀ a, a ≠ 432 → a ≠ 440 → a ≠ 441 → τ a = σ a) ∧ (∀ i : Int, i ≠ 11 → τ 432 i = σ 432 i)
  | 0, d, L, σ, k, s, f, hd, hN, hk, hs, hs2, hf => by
    (have := hN.a0; have := hN.b0; have := hN.a1; have := hN.b1; have := hN.a2; have := hN.b2; have := hN.a3; have := hN.b3; have := hN.a4; have := hN.b4; have := hN.a5; have := hN.b5; have := hN.a7; have := hN.b7; have := hN.a8; have := hN.b8; have := hN.a9; have := hN.b9; have := hN.a10; have := hN.b10; have := hN.oM; have := hN.oP)
    have lp : ∀ (σ : ex_S), ∀ j : Nat, j ≤ k → ex_ev (d - 1) 191 1 [vR 432, vI (k : Int), vI s, vI (j : Int), vL 0] [] (SH L, ex_ar σ 441 (cqF (σ 440) (σ 441) j)) = some ([], (SH L, ex_ar σ 441 (cqF (σ 440) (σ 441) k))) := by
      intro σ
      refine down ?_ ?_
      · rw [ev_191_1]
        (repeat' first | simp (disch := first | assumption | omega | ((repeat' first | exact ok_nil | apply ok_I | apply ok_R); done) | (simp (disch := first | omega | decide) only [ex_ar_same, ex_ar_diff, kM_diff, ex_u_same, ex_u_diff]; first | assumption | omega)) only [ev_191_0, ev_191_2, ev_191_3, ev_191_5, ev_191_6, ev_191_7, gf_432_0, gf_432_10, gf_432_11, gf_432_9, ld_433, ld_440, ld_441, pf_432_11, sd_433, sd_440, sd_441, x_fall, x_goto, x_iadd, x_push, x_ret0, xc_190, xl_a0, xl_i1, xl_i2, xl_i3, xl_i4, xn_3, xt_i3, xt_i4, y_cmp_ge_f, y_cmp_ge_t, y_cmp_ne_f, y_cmp_ne_t, y_if_lt_f, y_if_lt_t, i_wr_id, kM_diff, Int.reduceToNat, ex_ar_same, ex_ar_ar, ex_ar_diff, ex_u_same, ex_u_diff, b2i_t, b2i_f, ex_div_nn, ex_rem_nn, Int.toNat_zero, Int.toNat_one, Int.reduceAdd, Int.reduceSub, Int.reduceMul, Int.reduceNeg] | refine bb_eq (fun _ => ?_) (fun _ => ?_) | refine bb_ne (fun _ => ?_) (fun _ => ?_) | refine bc_eq (fun _ => ?_) (fun _ => ?_) | refine bc_ne (fun _ => ?_) (fun _ => ?_) | refine bc_lt (fun _ => ?_) (fun _ => ?_) | refine bc_ge (fun _ => ?_) (fun _ => ?_) | refine bc_gt (fun _ => ?_) (fun _ => ?_) | refine bc_le (fun _ => ?_) (fun _ => ?_) | refine bi_eq (fun _ => ?_) (fun _ => ?_) | refine bi_ne (fun _ => ?_) (fun _ => ?_) | refine bi_lt (fun _ => ?_) (fun _ => ?_) | refine bi_ge (fun _ => ?_) (fun _ => ?_) | refine bi_gt (fun _ => ?_) (fun _ => ?_) | refine bi_le (fun _ => ?_) (fun _ => ?_))
      · intro j hj ih
        rw [ev_191_1]
        (repeat' first | simp (disch := first | assumption | omega | ((repeat' first | exact ok_nil | apply ok_I | apply ok_R); done) | (simp (disch := first | omega | decide) only [ex_ar_same, ex_ar_diff, kM_diff, ex_u_same, ex_u_diff]; first | assumption | omega)) only [ev_191_0, ev_191_2, ev_191_3, ev_191_5, ev_191_6, ev_191_7, gf_432_0, gf_432_10, gf_432_11, gf_432_9, ld_433, ld_440, ld_441, pf_432_11, sd_433, sd_440, sd_441, x_fall, x_goto, x_iadd, x_push, x_ret0, xc_190, xl_a0, xl_i1, xl_i2, xl_i3, xl_i4, xn_3, xt_i3, xt_i4, y_cmp_ge_f, y_cmp_ge_t, y_cmp_ne_f, y_cmp_ne_t, y_if_lt_f, y_if_lt_t, i_wr_id, kM_diff, Int.reduceToNat, ex_ar_same, ex_ar_ar, ex_ar_diff, ex_u_same, ex_u_diff, b2i_t, b2i_f, ex_div_nn, ex_rem_nn, Int.toNat_zero, Int.toNat_one, Int.reduceAdd, Int.reduceSub, Int.reduceMul, Int.reduceNeg] | refine bb_eq (fun _ => ?_) (fun _ => ?_) | refine bb_ne (fun _ => ?_) (fun _ => ?_) | refine bc_eq (fun _ => ?_) (fun _ => ?_) | refine bc_ne (fun _ => ?_) (fun _ => ?_) | refine bc_lt (fun _ => ?_) (fun _ => ?_) | refine bc_ge (fun _ => ?_) (fun _ => ?_) | refine bc_gt (fun _ => ?_) (fun _ => ?_) | refine bc_le (fun _ => ?_) (fun _ => ?_) | refine bi_eq (fun _ => ?_) (fun _ => ?_) | refine bi_ne (fun _ => ?_) (fun _ => ?_) | refine bi_lt (fun _ => ?_) (fun _ => ?_) | refine bi_ge (fun _ => ?_) (fun _ => ?_) | refine bi_gt (fun _ => ?_) (fun _ => ?_) | refine bi_le (fun _ => ?_) (fun _ => ?_))
        rw [cqF_s, nat_cast_succ]
        exact ih
    have r0 := lp (ex_ar σ 432 (ex_u (σ 432) 11 s)) 0 (by omega)
    rw [cqF_0, ex_ar_id] at r0
    refine ⟨ex_ar (ex_ar σ 432 (ex_u (σ 432) 11 s)) 441 (cqF (ex_ar σ 432 (ex_u (σ 432) 11 s) 440) (ex_ar σ 432 (ex_u (σ 432) 11 s) 441) k), ?_, ?_, ?_, ?_, ?_⟩
    · rw [ex_cd_eq (by omega)]
      show ex_ev (d - 1) 191 0 [vR 432, vI (k : Int), vI s, vL 0, vL 0] [] (SH L, σ) = _
      simp (disch := first | assumption | omega | ((repeat' first | exact ok_nil | apply ok_I | apply ok_R); done) | (simp (disch := first | omega | decide) only [ex_ar_same, ex_ar_diff, kM_diff, ex_u_same, ex_u_diff]; first | assumption | omega)) only [ev_191_0, ev_191_2, ev_191_3, ev_191_5, ev_191_6, ev_191_7, gf_432_0, gf_432_10, gf_432_11, gf_432_9, ld_433, ld_440, ld_441, pf_432_11, sd_433, sd_440, sd_441, x_fall, x_goto, x_iadd, x_push, x_ret0, xc_190, xl_a0, xl_i1, xl_i2, xl_i3, xl_i4, xn_3, xt_i3, xt_i4, y_cmp_ge_f, y_cmp_ge_t, y_cmp_ne_f, y_cmp_ne_t, y_if_lt_f, y_if_lt_t, i_wr_id, kM_diff, Int.reduceToNat, ex_ar_same, ex_ar_ar, ex_ar_diff, ex_u_same, ex_u_diff, b2i_t, b2i_f, ex_div_nn, ex_rem_nn, Int.toNat_zero, Int.toNat_one, Int.reduceAdd, Int.reduceSub, Int.reduceMul, Int.reduceNeg]
      exact r0
    · rw [ex_ar_diff _ _ _ (by decide), ex_ar_same, ex_u_same, ex_ar_same, ex_ar_diff _ _ _ (by decide), ex_ar_diff _ _ _ (by decide)]
      show _ = (s, _)
      congr 1
      funext i
      unfold cqF
      by_cases q : 0 ≤ i ∧ i < (k : Int)
      · rw [if_pos q]
        dsimp only
        rw [if_pos q, hf i q.1 q.2]
      · rw [if_neg q]
        dsimp only
        rw [if_neg q]
    · intro j h1 h2
      rw [ex_ar_diff _ _ _ (by decide), ex_ar_diff _ _ _ (by decide)]
      exact hf j h1 h2
    · intro a h1 h2 h3
      rw [ex_ar_diff _ _ _ h3, ex_ar_diff _ _ _ h1]
    · intro i hi
      rw [ex_ar_diff _ _ _ (by decide), ex_ar_same, ex_u_diff _ _ hi]
  | r + 1, d, L, σ, k, s, f, hd, hN, hk, hs, hs2, hf => by
    (have := hN.a0; have := hN.b0; have := hN.a1; have := hN.b1; have := hN.a2; have := hN.b2; have := hN.a3; have := hN.b3; have := hN.a4; have := hN.b4; have := hN.a5; have := hN.b5; have := hN.a7; have := hN.b7; have := hN.a8; have := hN.b8; have := hN.a9; have := hN.b9; have := hN.a10; have := hN.b10; have := hN.oM; have := hN.oP)
    have lp : ∀ l : Nat, l ≤ (σ 433 0).toNat → ∀ (τ : ex_S) (w : ex_V), (∀ j : Int, 0 ≤ j → j < (k : Int) → τ 440 j = f j) → (∀ a, a ≠ 432 → a ≠ 440 → a ≠ 441 → τ a = σ a) → (∀ i : Int, i ≠ 11 → τ 432 i = σ 432 i) → ∃ υ, ex_ev (d - 1) 191 4 [vR 432, vI (k : Int), vI s, vI (l : Int), w] [] (SH L, τ) = some ([], (SH L, υ)) ∧ (υ 432 11, υ 441) = itr (fun l a => if 0 ≤ mbN (σ 433) f k (l : Int) ∧ (a.1 < 0 ∨ s + mbN (σ 433) f k (l : Int) < a.1) then plP (σ 433) r (k + 1) (s + mbN (σ 433) f k (l : Int)) (ex_u f (k : Int) (l : Int)) a else a) l ((σ 433 0).toNat - l) (τ 432 11, τ 441) ∧ (∀ j : Int, 0 ≤ j → j < (k : Int) → υ 440 j = f j) ∧ (∀ a, a ≠ 432 → a ≠ 440 → a ≠ 441 → υ a = σ a) ∧ (∀ i : Int, i ≠ 11 → υ 432 i = σ 432 i) := by
      refine down ?_ ?_
      · intro τ w t1 t2 t3
        have e433 := t2 433 (by decide) (by decide) (by decide)
        refine ⟨τ, ?_, ?_, t1, t2, t3⟩
        · rw [ev_191_4]
          simp (disch := first | assumption | omega | ((repeat' first | exact ok_nil | apply ok_I | apply ok_R); done) | (simp (disch := first | omega | decide) only [ex_ar_same, ex_ar_diff, kM_diff, ex_u_same, ex_u_diff]; first | assumption | omega)) only [e433, ev_191_0, ev_191_2, ev_191_3, ev_191_5, ev_191_6, ev_191_7, gf_432_0, gf_432_10, gf_432_11, gf_432_9, ld_433, ld_440, ld_441, pf_432_11, sd_433, sd_440, sd_441, x_fall, x_goto, x_iadd, x_push, x_ret0, xc_190, xl_a0, xl_i1, xl_i2, xl_i3, xl_i4, xn_3, xt_i3, xt_i4, y_cmp_ge_f, y_cmp_ge_t, y_cmp_ne_f, y_cmp_ne_t, y_if_lt_f, y_if_lt_t, i_wr_id, kM_diff, Int.reduceToNat, ex_ar_same, ex_ar_ar, ex_ar_diff, ex_u_same, ex_u_diff, b2i_t, b2i_f, ex_div_nn, ex_rem_nn, Int.toNat_zero, Int.toNat_one, Int.reduceAdd, Int.reduceSub, Int.reduceMul, Int.reduceNeg]
        · rw [Nat.sub_self]; rfl
      · intro l hl ih τ w t1 t2 t3
        have e433 := t2 433 (by decide) (by decide) (by decide)
        have hN' : NI (τ 433) := by rw [e433]; exact hN
        have k7 : (k : Int) < τ 433 7 := by rw [e433]; omega
        have mb := mbN_bd hN f (k := k) (l := (l : Int)) (by omega) (by omega) (by omega)
        have mc : mbN (σ 433) (τ 440) k (l : Int) = mbN (σ 433) f k (l : Int) := mbN_congr k _ t1
        rw [show (σ 433 0).toNat - l = ((σ 433 0).toNat - (l + 1)) + 1 by omega, itr_succ_last]
        dsimp only
        by_cases q : 0 ≤ mbN (σ 433) f k (l : Int) ∧ (τ 432 11 < 0 ∨ s + mbN (σ 433) f k (l : Int) < τ 432 11)
        · rw [if_pos q]
          obtain ⟨q1, q2⟩ := q
          have u1 : ∀ j : Int, 0 ≤ j → j < ((k + 1 : Nat) : Int) → ex_ar τ 440 (ex_u (τ 440) (k : Int) (l : Int)) 440 j = ex_u f (k : Int) (l : Int) j := fun j h1 h2 => by
            rw [ex_ar_same]
            by_cases z : j = (k : Int)
            · rw [z, ex_u_same, ex_u_same]
            · rw [ex_u_diff _ _ z, ex_u_diff _ _ z]; exact t1 j h1 (by omega)
          obtain ⟨υ, r1, r2, r3, r4, r5⟩ := pl_191 r (d := d - 1) (L := L) (σ := ex_ar τ 440 (ex_u (τ 440) (k : Int) (l : Int))) (k + 1) (s + mbN (σ 433) f k (l : Int)) (ex_u f (k : Int) (l : Int)) (by omega) (by rw [ex_ar_diff _ _ _ (by decide)]; exact hN') (by rw [ex_ar_diff _ _ _ (by decide), e433]; omega) (by omega) (by omega) u1
          rw [ex_ar_diff _ _ _ (by decide), ex_ar_diff _ _ _ (by decide), ex_ar_diff _ _ _ (by decide), e433] at r2
          rw [show ((k + 1 : Nat) : Int) = (k : Int) + 1 by omega] at r1
          obtain ⟨ω, v1, v2, v3⟩ := ih υ (vI (mbN (σ 433) f k (l : Int))) (fun j h1 h2 => by rw [r3 j h1 (by omega), ex_u_diff _ _ (by omega)]) (fun a h1 h2 h3 => by rw [r4 a h1 h2 h3, ex_ar_diff _ _ _ h2, t2 a h1 h2 h3]) (fun i hi => by rw [r5 i hi, ex_ar_diff _ _ _ (by decide), t3 i hi])
          rw [r2] at v2
          refine ⟨ω, ?_, v2, v3⟩
          rw [ev_191_4]
          rcases q2 with q2 | q2
          · simp (disch := first | assumption | omega | ((repeat' first | exact ok_nil | apply ok_I | apply ok_R); done) | (simp (disch := first | omega | decide) only [ex_ar_same, ex_ar_diff, kM_diff, ex_u_same, ex_u_diff]; first | assumption | omega)) only [(xr_191 r1), e433, ev_191_0, ev_191_2, ev_191_3, ev_191_5, ev_191_6, ev_191_7, gf_432_0, gf_432_10, gf_432_11, gf_432_9, ld_433, ld_440, ld_441, mc, pf_432_11, sd_433, sd_440, sd_441, x_fall, x_goto, x_iadd, x_push, x_ret0, xc_190, xl_a0, xl_i1, xl_i2, xl_i3, xl_i4, xn_3, xt_i3, xt_i4, y_cmp_ge_f, y_cmp_ge_t, y_cmp_ne_f, y_cmp_ne_t, y_if_lt_f, y_if_lt_t, i_wr_id, kM_diff, Int.reduceToNat, ex_ar_same, ex_ar_ar, ex_ar_diff, ex_u_same, ex_u_diff, b2i_t, b2i_f, ex_div_nn, ex_rem_nn, Int.toNat_zero, Int.toNat_one, Int.reduceAdd, Int.reduceSub, Int.reduceMul, Int.reduceNeg]
            rw [nat_cast_succ]
            exact v1
          · by_cases q3 : τ 432 11 < 0
            · simp (disch := first | assumption | omega | ((repeat' first | exact ok_nil | apply ok_I | apply ok_R); done) | (simp (disch := first | omega | decide) only [ex_ar_same, ex_ar_diff, kM_diff, ex_u_same, ex_u_diff]; first | assumption | omega)) only [(xr_191 r1), e433, ev_191_0, ev_191_2, ev_191_3, ev_191_5, ev_191_6, ev_191_7, gf_432_0, gf_432_10, gf_432_11, gf_432_9, ld_433, ld_440, ld_441, mc, pf_432_11, sd_433, sd_440, sd_441, x_fall, x_goto, x_iadd, x_push, x_ret0, xc_190, xl_a0, xl_i1, xl_i2, xl_i3, xl_i4, xn_3, xt_i3, xt_i4, y_cmp_ge_f, y_cmp_ge_t, y_cmp_ne_f, y_cmp_ne_t, y_if_lt_f, y_if_lt_t, i_wr_id, kM_diff, Int.reduceToNat, ex_ar_same, ex_ar_ar, ex_ar_diff, ex_u_same, ex_u_diff, b2i_t, b2i_f, ex_div_nn, ex_rem_nn, Int.toNat_zero, Int.toNat_one, Int.reduceAdd, Int.reduceSub, Int.reduceMul, Int.reduceNeg]
              rw [nat_cast_succ]
              exact v1
            · simp (disch := first | assumption | omega | ((repeat' first | exact ok_nil | apply ok_I | apply ok_R); done) | (simp (disch := first | omega | decide) only [ex_ar_same, ex_ar_diff, kM_diff, ex_u_same, ex_u_diff]; first | assumption | omega)) only [(xr_191 r1), e433, ev_191_0, ev_191_2, ev_191_3, ev_191_5, ev_191_6, ev_191_7, gf_432_0, gf_432_10, gf_432_11, gf_432_9, ld_433, ld_440, ld_441, mc, pf_432_11, sd_433, sd_440, sd_441, x_fall, x_goto, x_iadd, x_push, x_ret0, xc_190, xl_a0, xl_i1, xl_i2, xl_i3, xl_i4, xn_3, xt_i3, xt_i4, y_cmp_ge_f, y_cmp_ge_t, y_cmp_ne_f, y_cmp_ne_t, y_if_lt_f, y_if_lt_t, i_wr_id, kM_diff, Int.reduceToNat, ex_ar_same, ex_ar_ar, ex_ar_diff, ex_u_same, ex_u_diff, b2i_t, b2i_f, ex_div_nn, ex_rem_nn, Int.toNat_zero, Int.toNat_one, Int.reduceAdd, Int.reduceSub, Int.reduceMul, Int.reduceNeg]
              rw [nat_cast_succ]
              exact v1
        · rw [if_neg q]
          obtain ⟨ω, v1, v2, v3⟩ := ih τ (vI (mbN (σ 433) f k (l : Int))) t1 t2 t3
          refine ⟨ω, ?_, v2, v3⟩
          rw [ev_191_4]
          (repeat' first | simp (disch := first | assumption | omega | ((repeat' first | exact ok_nil | apply ok_I | apply ok_R); done) | (simp (disch := first | omega | decide) only [ex_ar_same, ex_ar_diff, kM_diff, ex_u_same, ex_u_diff]; first | assumption | omega)) only [e433, ev_191_0, ev_191_2, ev_191_3, ev_191_5, ev_191_6, ev_191_7, gf_432_0, gf_432_10, gf_432_11, gf_432_9, ld_433, ld_440, ld_441, mc, pf_432_11, sd_433, sd_440, sd_441, x_fall, x_goto, x_iadd, x_push, x_ret0, xc_190, xl_a0, xl_i1, xl_i2, xl_i3, xl_i4, xn_3, xt_i3, xt_i4, y_cmp_ge_f, y_cmp_ge_t, y_cmp_ne_f, y_cmp_ne_t, y_if_lt_f, y_if_lt_t, i_wr_id, kM_diff, Int.reduceToNat, ex_ar_same, ex_ar_ar, ex_ar_diff, ex_u_same, ex_u_diff, b2i_t, b2i_f, ex_div_nn, ex_rem_nn, Int.toNat_zero, Int.toNat_one, Int.reduceAdd, Int.reduceSub, Int.reduceMul, Int.reduceNeg] | refine bb_eq (fun _ => ?_) (fun _ => ?_) | refine bb_ne (fun _ => ?_) (fun _ => ?_) | refine bc_eq (fun _ => ?_) (fun _ => ?_) | refine bc_ne (fun _ => ?_) (fun _ => ?_) | refine bc_lt (fun _ => ?_) (fun _ => ?_) | refine bc_ge (fun _ => ?_) (fun _ => ?_) | refine bc_gt (fun _ => ?_) (fun _ => ?_) | refine bc_le (fun _ => ?_) (fun _ => ?_) | refine bi_eq (fun _ => ?_) (fun _ => ?_) | refine bi_ne (fun _ => ?_) (fun _ => ?_) | refine bi_lt (fun _ => ?_) (fun _ => ?_) | refine bi_ge (fun _ => ?_) (fun _ => ?_) | refine bi_gt (fun _ => ?_) (fun _ => ?_) | refine bi_le (fun _ => ?_) (fun _ => ?_))
          all_goals first | (rw [nat_cast_succ]; exact v1) | (exact absurd ⟨by assumption, by first | exact Or.inl (by assumption) | exact Or.inr (by assumption)⟩ q)
    obtain ⟨τ, v1, v2, v3⟩ := lp 0 (by omega) σ (vL 0) hf (fun _ _ _ _ => rfl) (fun _ _ => rfl)
    refine ⟨τ, ?_, v2, v3⟩
    rw [ex_cd_eq (by omega)]
    show ex_ev (d - 1) 191 0 [vR 432, vI (k : Int), vI s, vL 0, vL 0] [] (SH L, σ) = _
    simp (disch := first | assumption | omega | ((repeat' first | exact ok_nil | apply ok_I | apply ok_R); done) | (simp (disch := first | omega | decide) only [ex_ar_same, ex_ar_diff, kM_diff, ex_u_same, ex_u_diff]; first | assumption | omega)) only [ev_191_0, ev_191_2, ev_191_3, ev_191_5, ev_191_6, ev_191_7, gf_432_0, gf_432_10, gf_432_11, gf_432_9, ld_433, ld_440, ld_441, pf_432_11, sd_433, sd_440, sd_441, x_fall, x_goto, x_iadd, x_push, x_ret0, xc_190, xl_a0, xl_i1, xl_i2, xl_i3, xl_i4, xn_3, xt_i3, xt_i4, y_cmp_ge_f, y_cmp_ge_t, y_cmp_ne_f, y_cmp_ne_t, y_if_lt_f, y_if_lt_t, i_wr_id, kM_diff, Int.reduceToNat, ex_ar_same, ex_ar_ar, ex_ar_diff, ex_u_same, ex_u_diff, b2i_t, b2i_f, ex_div_nn, ex_rem_nn, Int.toNat_zero, Int.toNat_one, Int.reduceAdd, Int.reduceSub, Int.reduceMul, Int.reduceNeg]
    exact v1
def planN (n : Int → Int) (a : Int → Int) : Int × (Int → Int) := plP n (n 7).toNat 0 0 (fun _ => 0) (-1, a)
theorem fp_192 {d L : Nat} {σ : ex_S} (hd : 13 < d) (hN : NI (σ 433)) : ∃ τ, ex_cd d 192 [vR 432] (SH L, σ) = some ([], (SH L, τ)) ∧ (τ 432 11, τ 441) = planN (σ 433) (σ 441) ∧ RS (σ, τ) := by
  (have := hN.a0; have := hN.b0; have := hN.a1; have := hN.b1; have := hN.a2; have := hN.b2; have := hN.a3; have := hN.b3; have := hN.a4; have := hN.b4; have := hN.a5; have := hN.b5; have := hN.a7; have := hN.b7; have := hN.a8; have := hN.b8; have := hN.a9; have := hN.b9; have := hN.a10; have := hN.b10; have := hN.oM; have := hN.oP)
  obtain ⟨τ, r1, r2, r3, r4, r5⟩ := pl_191 (σ 433 7).toNat (d := d - 1) (L := L) (σ := ex_ar σ 432 (ex_u (σ 432) 11 (-1))) 0 0 (fun _ => 0) (by omega) (by rw [ex_ar_diff _ _ _ (by decide)]; exact hN) (by rw [ex_ar_diff _ _ _ (by decide)]; omega) (by omega) (by omega) (fun j h1 h2 => by omega)
  rw [ex_ar_same, ex_u_same, ex_ar_diff _ _ _ (by decide), ex_ar_diff _ _ _ (by decide)] at r2
  refine ⟨τ, ?_, r2, ?_⟩
  · rw [ex_cd_eq (by omega)]
    show ex_ev (d - 1) 192 0 [vR 432] [] (SH L, σ) = _
    have r1' : ex_cd (d - 1) 191 [vR 432, vI 0, vI 0] (SH L, ex_ar σ 432 (ex_u (σ 432) 11 (-1))) = some ([], (SH L, τ)) := r1
    simp (disch := first | assumption | omega | ((repeat' first | exact ok_nil | apply ok_I | apply ok_R); done) | (simp (disch := first | omega | decide) only [ex_ar_same, ex_ar_diff, kM_diff, ex_u_same, ex_u_diff]; first | assumption | omega)) only [(xr_191 r1'), ev_192_0, pf_432_11, x_push, x_ret0, xl_a0, i_wr_id, kM_diff, Int.reduceToNat, ex_ar_same, ex_ar_ar, ex_ar_diff, ex_u_same, ex_u_diff, b2i_t, b2i_f, ex_div_nn, ex_rem_nn, Int.toNat_zero, Int.toNat_one, Int.reduceAdd, Int.reduceSub, Int.reduceMul, Int.reduceNeg]
  · have f : ∀ a, a ≠ 432 → a ≠ 440 → a ≠ 441 → τ a = σ a := fun a h1 h2 h3 => by rw [r4 a h1 h2 h3, ex_ar_diff _ _ _ h1]
    have g : ∀ i : Int, i ≠ 11 → τ 432 i = σ 432 i := fun i hi => by rw [r5 i hi, ex_ar_same, ex_u_diff _ _ hi]
    exact RS.mk (fun a ha => f a (by omega) (by omega) (by omega)) (f 433 (by decide) (by decide) (by decide)) (f 434 (by decide) (by decide) (by decide)) (f 435 (by decide) (by decide) (by decide)) (f 436 (by decide) (by decide) (by decide)) (f 437 (by decide) (by decide) (by decide)) (g 2 (by decide)) (g 3 (by decide)) (fun i _ _ => congrFun (f 447 (by decide) (by decide) (by decide)) i)
def planM (σ : ex_S) : Int × ex_S := if (planN (σ 433) (σ 441)).1 < 0 then (-100006, fndM σ) else ((planN (σ 433) (σ 441)).1, σ)
theorem rp_193 {d L : Nat} {σ : ex_S} (hd : 14 < d) (hN : NI (σ 433)) : ∃ τ, ex_cd d 193 [vR 432] (SH L, σ) = some ([vI (planM σ).1], (SH L, τ)) ∧ RS ((planM σ).2, τ) := by
  obtain ⟨τ, r1, r2, r3⟩ := fp_192 (d := d - 1) (L := L) (σ := σ) (by omega) hN
  have r2' : τ 432 11 = (planN (σ 433) (σ 441)).1 := congrArg Prod.fst r2
  rw [ex_cd_eq (by omega)]
  show ∃ τ, ex_ev (d - 1) 193 0 [vR 432] [] (SH L, σ) = _ ∧ _
  unfold planM
  rw [← r2']
  by_cases q : τ 432 11 < 0
  · rw [if_pos q]
    refine ⟨fndM τ, ?_, r3.fnd⟩
    simp (disch := first | assumption | omega | ((repeat' first | exact ok_nil | apply ok_I | apply ok_R); done) | (simp (disch := first | omega | decide) only [ex_ar_same, ex_ar_diff, kM_diff, ex_u_same, ex_u_diff]; first | assumption | omega)) only [(xr_192 r1), ev_193_0, ev_193_1, ev_193_2, gf_432_11, x_fall, x_goto, x_push, x_ret1, xc_142, xl_a0, y_if_ge_f, y_if_ge_t, i_wr_id, kM_diff, Int.reduceToNat, ex_ar_same, ex_ar_ar, ex_ar_diff, ex_u_same, ex_u_diff, b2i_t, b2i_f, ex_div_nn, ex_rem_nn, Int.toNat_zero, Int.toNat_one, Int.reduceAdd, Int.reduceSub, Int.reduceMul, Int.reduceNeg]
  · rw [if_neg q]
    refine ⟨τ, ?_, r3⟩
    simp (disch := first | assumption | omega | ((repeat' first | exact ok_nil | apply ok_I | apply ok_R); done) | (simp (disch := first | omega | decide) only [ex_ar_same, ex_ar_diff, kM_diff, ex_u_same, ex_u_diff]; first | assumption | omega)) only [(xr_192 r1), ev_193_0, ev_193_1, ev_193_2, gf_432_11, x_fall, x_goto, x_push, x_ret1, xc_142, xl_a0, y_if_ge_f, y_if_ge_t, i_wr_id, kM_diff, Int.reduceToNat, ex_ar_same, ex_ar_ar, ex_ar_diff, ex_u_same, ex_u_diff, b2i_t, b2i_f, ex_div_nn, ex_rem_nn, Int.toNat_zero, Int.toNat_one, Int.reduceAdd, Int.reduceSub, Int.reduceMul, Int.reduceNeg]
def plannedM (σ : ex_S) (c : Int) : Int × ex_S := if 0 ≤ c ∧ c < σ 433 1 then (if (planN (σ 433) (σ 441)).1 < 0 ∨ arrvN (σ 433) c < 0 then (-100006, fndM σ) else ((planN (σ 433) (σ 441)).2 (arrvN (σ 433) c), σ)) else (-100001, fndM σ)
theorem arrN_lo (n : Int → Int) (c : Int) : ∀ (j i : Nat), arrN n c i j = -1 ∨ ((i : Int) ≤ arrN n c i j ∧ arrN n c i j < (i : Int) + (j : Int) ∧ n (139 + arrN n c i j) = c)
  | 0, _ => Or.inl rfl
  | j + 1, i => by
    rw [arrN]
    by_cases q : n (139 + (i : Int)) = c
    · rw [if_pos q]; exact Or.inr ⟨by omega, by omega, q⟩
    · rw [if_neg q]
      rcases arrN_lo n c j (i + 1) with h | ⟨h1, h2, h3⟩
      · exact Or.inl h
      · exact Or.inr ⟨by omega, by omega, h3⟩
theorem rp_194 {d L : Nat} {σ : ex_S} {c : Int} (hd : 14 < d) (hN : NI (σ 433)) : ∃ τ, ex_cd d 194 [vR 432, vI c] (SH L, σ) = some ([vI (plannedM σ c).1], (SH L, τ)) ∧ RS ((plannedM σ c).2, τ) := by
  (have := hN.a0; have := hN.b0; have := hN.a1; have := hN.b1; have := hN.a2; have := hN.b2; have := hN.a3; have := hN.b3; have := hN.a4; have := hN.b4; have := hN.a5; have := hN.b5; have := hN.a7; have := hN.b7; have := hN.a8; have := hN.b8; have := hN.a9; have := hN.b9; have := hN.a10; have := hN.b10; have := hN.oM; have := hN.oP)
  obtain ⟨τ, r1, r2, r3⟩ := fp_192 (d := d - 1) (L := L) (σ := σ) (by omega) hN
  have r2' : τ 432 11 = (planN (σ 433) (σ 441)).1 := congrArg Prod.fst r2
  have r2'' : τ 441 = (planN (σ 433) (σ 441)).2 := congrArg Prod.snd r2
  have e433 : τ 433 = σ 433 := r3.c433
  have hN' : NI (τ 433) := by rw [e433]; exact hN
  rw [ex_cd_eq (by omega)]
  show ∃ τ, ex_ev (d - 1) 194 0 [vR 432, vI c, vL 0] [] (SH L, σ) = _ ∧ _
  unfold plannedM
  rw [← r2', ← r2'']
  by_cases g : 0 ≤ c ∧ c < σ 433 1
  · rw [if_pos g]
    have al := arrN_lo (σ 433) c (σ 433 7).toNat 0
    have ae : arrvN (σ 433) c = arrN (σ 433) c 0 (σ 433 7).toNat := rfl
    rw [← ae] at al
    by_cases q : τ 432 11 < 0
    · rw [if_pos (Or.inl q)]
      refine ⟨fndM τ, ?_, r3.fnd⟩
      simp (disch := first | assumption | omega | ((repeat' first | exact ok_nil | apply ok_I | apply ok_R); done) | (simp (disch := first | omega | decide) only [ex_ar_same, ex_ar_diff, kM_diff, ex_u_same, ex_u_diff]; first | assumption | omega)) only [(xr_192 r1), e433, ev_194_0, ev_194_1, ev_194_2, ev_194_3, ev_194_4, gf_432_10, gf_432_11, ld_441, x_fall, x_goto, x_push, x_ret1, xc_142, xc_145, xc_187, xl_a0, xl_i1, xl_i2, xt_i2, y_if_ge_f, y_if_ge_t, y_if_lt_f, y_if_lt_t, y_if_ne_f, y_if_ne_t, i_wr_id, kM_diff, Int.reduceToNat, ex_ar_same, ex_ar_ar, ex_ar_diff, ex_u_same, ex_u_diff, b2i_t, b2i_f, ex_div_nn, ex_rem_nn, Int.toNat_zero, Int.toNat_one, Int.reduceAdd, Int.reduceSub, Int.reduceMul, Int.reduceNeg]
    · by_cases q2 : arrvN (σ 433) c < 0
      · rw [if_pos (Or.inr q2)]
        refine ⟨fndM τ, ?_, r3.fnd⟩
        simp (disch := first | assumption | omega | ((repeat' first | exact ok_nil | apply ok_I | apply ok_R); done) | (simp (disch := first | omega | decide) only [ex_ar_same, ex_ar_diff, kM_diff, ex_u_same, ex_u_diff]; first | assumption | omega)) only [(xr_192 r1), e433, ev_194_0, ev_194_1, ev_194_2, ev_194_3, ev_194_4, gf_432_10, gf_432_11, ld_441, x_fall, x_goto, x_push, x_ret1, xc_142, xc_145, xc_187, xl_a0, xl_i1, xl_i2, xt_i2, y_if_ge_f, y_if_ge_t, y_if_lt_f, y_if_lt_t, y_if_ne_f, y_if_ne_t, i_wr_id, kM_diff, Int.reduceToNat, ex_ar_same, ex_ar_ar, ex_ar_diff, ex_u_same, ex_u_diff, b2i_t, b2i_f, ex_div_nn, ex_rem_nn, Int.toNat_zero, Int.toNat_one, Int.reduceAdd, Int.reduceSub, Int.reduceMul, Int.reduceNeg]
      · rw [if_neg (by omega)]
        refine ⟨τ, ?_, r3⟩
        simp (disch := first | assumption | omega | ((repeat' first | exact ok_nil | apply ok_I | apply ok_R); done) | (simp (disch := first | omega | decide) only [ex_ar_same, ex_ar_diff, kM_diff, ex_u_same, ex_u_diff]; first | assumption | omega)) only [(xr_192 r1), e433, ev_194_0, ev_194_1, ev_194_2, ev_194_3, ev_194_4, gf_432_10, gf_432_11, ld_441, x_fall, x_goto, x_push, x_ret1, xc_142, xc_145, xc_187, xl_a0, xl_i1, xl_i2, xt_i2, y_if_ge_f, y_if_ge_t, y_if_lt_f, y_if_lt_t, y_if_ne_f, y_if_ne_t, i_wr_id, kM_diff, Int.reduceToNat, ex_ar_same, ex_ar_ar, ex_ar_diff, ex_u_same, ex_u_diff, b2i_t, b2i_f, ex_div_nn, ex_rem_nn, Int.toNat_zero, Int.toNat_one, Int.reduceAdd, Int.reduceSub, Int.reduceMul, Int.reduceNeg]
  · rw [if_neg g]
    refine ⟨fndM σ, ?_, RS.refl _⟩
    simp (disch := first | assumption | omega | ((repeat' first | exact ok_nil | apply ok_I | apply ok_R); done) | (simp (disch := first | omega | decide) only [ex_ar_same, ex_ar_diff, kM_diff, ex_u_same, ex_u_diff]; first | assumption | omega)) only [ev_194_0, ev_194_1, ev_194_2, ev_194_3, ev_194_4, gf_432_10, gf_432_11, ld_441, x_fall, x_goto, x_push, x_ret1, xc_142, xc_145, xc_187, xl_a0, xl_i1, xl_i2, xt_i2, y_if_ge_f, y_if_ge_t, y_if_lt_f, y_if_lt_t, y_if_ne_f, y_if_ne_t, i_wr_id, kM_diff, Int.reduceToNat, ex_ar_same, ex_ar_ar, ex_ar_diff, ex_u_same, ex_u_diff, b2i_t, b2i_f, ex_div_nn, ex_rem_nn, Int.toNat_zero, Int.toNat_one, Int.reduceAdd, Int.reduceSub, Int.reduceMul, Int.reduceNeg]
