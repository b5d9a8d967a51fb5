/-! the reference: harm -/
theorem harB_bd (n : Int → Int) (c f : Int) : ∀ j : Nat, (∀ i : Int, 0 ≤ (harB n c f j).1 i ∧ (harB n c f j).1 i ≤ (j : Int)) ∧ 0 ≤ (harB n c f j).2 ∧ (harB n c f j).2 ≤ (j : Int)
  | 0 => ⟨fun i => ⟨Int.le_refl 0, Int.le_refl 0⟩, Int.le_refl 0, Int.le_refl 0⟩
  | j + 1 => by
    obtain ⟨i1, i2, i3⟩ := harB_bd n c f j
    rw [harB]
    split
    · dsimp only
      refine ⟨fun i => ?_, by omega, by omega⟩
      by_cases e : i = n (171 + (f + (j : Int))) / 8
      · rw [e, ex_u_same]
        have := i1 (n (171 + (f + (j : Int))) / 8)
        omega
      · rw [ex_u_diff _ _ e]
        have := i1 i
        omega
    · refine ⟨fun i => ?_, by omega, by omega⟩
      have := i1 i
      omega
def harV (B : Int → Int) (a p s : Int) : Int := s * B p / a + (if p = (if 0 < B 0 then 0 else if 0 < B 1 then 1 else if 0 < B 2 then 2 else if 0 < B 3 then 3 else -1) then s - (s * B 3 / a + s * B 2 / a + s * B 1 / a + s * B 0 / a) else 0)
theorem h15_211 {d L : Nat} {σ : ex_S} {c p s f t a : Int} {w1 w2 w3 : ex_V} (hB : ∀ i : Int, 0 ≤ σ 449 i ∧ σ 449 i ≤ 60) (ha : 0 < a) (ha2 : a ≤ 60) (hp : 0 ≤ p) (hp2 : p ≤ 3) (hs : 0 ≤ s) (hs2 : s ≤ 9999) : ex_ev d 211 14 [vR 432, vI c, vI p, vI s, vI f, vI t, vR 449, vI a, w1, w2, w3] [] (SX L, σ) = some ([vI (harV (σ 449) a p s)], (SX L, σ)) := by
  have P : ∀ i : Int, 0 ≤ s * σ 449 i ∧ s * σ 449 i ≤ 599940 ∧ 0 ≤ s * σ 449 i / a ∧ s * σ 449 i / a ≤ 599940 := fun i => by
    have := hB i
    have h1 : 0 ≤ s * σ 449 i := Int.mul_nonneg hs this.1
    have h2 : s * σ 449 i ≤ 9999 * 60 := Int.mul_le_mul hs2 this.2 this.1 (by omega)
    have h3 : 0 ≤ s * σ 449 i / a := Int.ediv_nonneg h1 (by omega)
    have h4 : s * σ 449 i / a ≤ s * σ 449 i := Int.ediv_le_self _ h1
    omega
  have P0 := P 0
  have P1 := P 1
  have P2 := P 2
  have P3 := P 3
  have Pp := P p
  unfold harV
  (repeat' first | simp (disch := first | assumption | omega | ((repeat' first | exact ok_nil | apply ok_I | apply ok_R); done) | (simp (disch := first | omega | decide) only [ex_ar_same, ex_ar_diff, kM_diff, ex_u_same, ex_u_diff]; first | assumption | omega)) only [Int.zero_add, ev_211_0, ev_211_1, ev_211_10, ev_211_12, ev_211_13, ev_211_14, ev_211_15, ev_211_16, ev_211_17, ev_211_18, ev_211_19, ev_211_2, ev_211_20, ev_211_4, ev_211_5, ev_211_6, ev_211_8, ev_211_9, gX_432_0, gf_432_0, lX_433, lX_449, ld_433, sd_433, x_dup2, x_fall, x_goto, x_idiv, x_imul, x_irem, x_push, x_ret1, xc_142, xc_143, xc_145, xl_a0, xl_a6, xl_i1, xl_i10, xl_i2, xl_i3, xl_i4, xl_i5, xl_i7, xl_i8, xl_i9, xn_10, xn_5, xn_7, xn_8, xt_a6, xt_i10, xt_i4, xt_i5, xt_i7, xt_i8, xt_i9, y_cmp_eq_f, y_cmp_eq_t, y_cmp_ge_f, y_cmp_ge_t, y_cmp_ne_f, y_cmp_ne_t, y_iadd, y_if_eq_f, y_if_eq_t, y_if_le_f, y_if_le_t, y_if_lt_f, y_if_lt_t, y_if_ne_f, y_if_ne_t, y_isub, i_wr_id, kM_diff, Int.reduceToNat, ex_ar_same, ex_ar_ar, ex_ar_diff, ex_u_same, ex_u_diff, b2i_t, b2i_f, ex_div_nn, ex_rem_nn, Int.toNat_zero, Int.toNat_one, Int.reduceAdd, Int.reduceSub, Int.reduceMul, Int.reduceNeg] | refine bb_eq (fun _ => ?_) (fun _ => ?_) | refine bb_ne (fun _ => ?_) (fun _ => ?_) | refine bc_eq (fun _ => ?_) (fun _ => ?_) | refine bc_ne (fun _ => ?_) (fun _ => ?_) | refine bc_lt (fun _ => ?_) (fun _ => ?_) | refine bc_ge (fun _ => ?_) (fun _ => ?_) | refine bc_gt (fun _ => ?_) (fun _ => ?_) | refine bc_le (fun _ => ?_) (fun _ => ?_) | refine bi_eq (fun _ => ?_) (fun _ => ?_) | refine bi_ne (fun _ => ?_) (fun _ => ?_) | refine bi_lt (fun _ => ?_) (fun _ => ?_) | refine bi_ge (fun _ => ?_) (fun _ => ?_) | refine bi_gt (fun _ => ?_) (fun _ => ?_) | refine bi_le (fun _ => ?_) (fun _ => ?_))
  all_goals (try simp (disch := first | assumption | omega) only [if_pos, if_neg])
def harN (n : Int → Int) (c : Int) : Int := harF n c (n 8).toNat
def harE (n : Int → Int) (c : Int) : Nat := harT n c (harN n c + 1).toNat ((n 8).toNat - (harN n c + 1).toNat)
def harR (n : Int → Int) (c : Int) : (Int → Int) × Int := harB n c (harN n c) (harE n c - (harN n c).toNat)
def harmM (σ : ex_S) (c p s : Int) : Int × ex_S := if (0 ≤ c ∧ c < σ 433 1) ∧ (0 ≤ p ∧ p ≤ 3) ∧ 0 ≤ s ∧ s ≤ 9999 then (if harN (σ 433) c < 0 ∨ ((harE (σ 433) c : Nat) : Int) = σ 433 8 then (-100006, fndM σ) else if (harR (σ 433) c).2 = 0 then (-100006, fndM σ) else (harV (harR (σ 433) c).1 (harR (σ 433) c).2 p s, σ)) else (-100001, fndM σ)
theorem rp_211 {d L : Nat} {σ : ex_S} {c p s : Int} (hd : 4 < d) (hN : NI (σ 433)) : ∃ gb τ, ex_cd d 211 [vR 432, vI c, vI p, vI s] (SH L, σ) = some ([vI (harmM σ c p s).1], (SH L ++ gb, τ)) ∧ RS ((harmM σ c p s).2, τ) ∧ (gb = [] ∨ gb = [cA 4]) := by
  (have := hN.a0; have := hN.b0; have := hN.a1; have := hN.b1; have := hN.a2; have := hN.b2; have := hN.a3; have := hN.b3; have := hN.a4; have := hN.b4; have := hN.a5; have := hN.b5; have := hN.a7; have := hN.b7; have := hN.a8; have := hN.b8; have := hN.a9; have := hN.b9; have := hN.a10; have := hN.b10; have := hN.oM; have := hN.oP)
  rw [ex_cd_eq (by omega)]
  show ∃ gb τ, ex_ev (d - 1) 211 0 [vR 432, vI c, vI p, vI s, vL 0, vL 0, vL 0, vL 0, vL 0, vL 0, vL 0] [] (SH L, σ) = _ ∧ _
  unfold harmM
  by_cases g : (0 ≤ c ∧ c < σ 433 1) ∧ (0 ≤ p ∧ p ≤ 3) ∧ 0 ≤ s ∧ s ≤ 9999
  · rw [if_pos g]
    obtain ⟨g1, g2, g3⟩ := g
    have fb := harF_bd (σ 433) c (σ 433 8).toNat
    have tb := harT_bd (σ 433) c ((σ 433 8).toNat - (harN (σ 433) c + 1).toNat) (harN (σ 433) c + 1).toNat
    have eN : harF (σ 433) c (σ 433 8).toNat = harN (σ 433) c := rfl
    have eE : harT (σ 433) c (harN (σ 433) c + 1).toNat ((σ 433 8).toNat - (harN (σ 433) c + 1).toNat) = harE (σ 433) c := rfl
    rw [eN] at fb
    rw [eE] at tb
    have l3 : ∀ k : Nat, k ≤ (σ 433 8).toNat → ∀ f : Int, harF (σ 433) c k = f → ex_ev (d - 1) 211 3 [vR 432, vI c, vI p, vI s, vI f, vI (k : Int), vL 0, vL 0, vL 0, vL 0, vL 0] [] (SH L, σ) = ex_ev (d - 1) 211 7 [vR 432, vI c, vI p, vI s, vI (harN (σ 433) c), vI (harN (σ 433) c + 1), vL 0, vL 0, vL 0, vL 0, vL 0] [] (SH L, σ) := by
      refine down ?_ ?_
      · intro f hf
        have hf' : harN (σ 433) c = f := hf
        rw [hf'] at fb ⊢
        rw [ev_211_3]
        simp (disch := first | assumption | omega | ((repeat' first | exact ok_nil | apply ok_I | apply ok_R); done) | (simp (disch := first | omega | decide) only [ex_ar_same, ex_ar_diff, kM_diff, ex_u_same, ex_u_diff]; first | assumption | omega)) only [ev_211_0, ev_211_1, ev_211_10, ev_211_12, ev_211_13, ev_211_14, ev_211_16, ev_211_17, ev_211_18, ev_211_19, ev_211_2, ev_211_20, ev_211_4, ev_211_5, ev_211_6, ev_211_8, ev_211_9, gf_432_0, ld_433, sd_433, x_dup2, x_fall, x_goto, x_idiv, x_imul, x_irem, x_push, x_ret1, xc_142, xc_143, xc_145, xl_a0, xl_a6, xl_i1, xl_i10, xl_i2, xl_i3, xl_i4, xl_i5, xl_i7, xl_i8, xl_i9, xn_10, xn_5, xn_7, xn_8, xt_a6, xt_i10, xt_i4, xt_i5, xt_i7, xt_i8, xt_i9, y_cmp_eq_f, y_cmp_eq_t, y_cmp_ge_f, y_cmp_ge_t, y_cmp_ne_f, y_cmp_ne_t, y_iadd, y_if_eq_f, y_if_eq_t, y_if_le_f, y_if_le_t, y_if_lt_f, y_if_lt_t, y_if_ne_f, y_if_ne_t, y_isub, i_wr_id, kM_diff, Int.reduceToNat, ex_ar_same, ex_ar_ar, ex_ar_diff, ex_u_same, ex_u_diff, b2i_t, b2i_f, ex_div_nn, ex_rem_nn, Int.toNat_zero, Int.toNat_one, Int.reduceAdd, Int.reduceSub, Int.reduceMul, Int.reduceNeg]
      · intro k hk ih f hf
        have fk := harF_bd (σ 433) c k
        have hs : harF (σ 433) c (k + 1) = if σ 433 (171 + (k : Int)) = 64 + c then (k : Int) else f := by rw [harF, hf]
        rw [ev_211_3]
        by_cases q : σ 433 (171 + (k : Int)) = 64 + c
        · rw [if_pos q] at hs
          simp (disch := first | assumption | omega | ((repeat' first | exact ok_nil | apply ok_I | apply ok_R); done) | (simp (disch := first | omega | decide) only [ex_ar_same, ex_ar_diff, kM_diff, ex_u_same, ex_u_diff]; first | assumption | omega)) only [ev_211_0, ev_211_1, ev_211_10, ev_211_12, ev_211_13, ev_211_14, ev_211_16, ev_211_17, ev_211_18, ev_211_19, ev_211_2, ev_211_20, ev_211_4, ev_211_5, ev_211_6, ev_211_8, ev_211_9, gf_432_0, ld_433, sd_433, x_dup2, x_fall, x_goto, x_idiv, x_imul, x_irem, x_push, x_ret1, xc_142, xc_143, xc_145, xl_a0, xl_a6, xl_i1, xl_i10, xl_i2, xl_i3, xl_i4, xl_i5, xl_i7, xl_i8, xl_i9, xn_10, xn_5, xn_7, xn_8, xt_a6, xt_i10, xt_i4, xt_i5, xt_i7, xt_i8, xt_i9, y_cmp_eq_f, y_cmp_eq_t, y_cmp_ge_f, y_cmp_ge_t, y_cmp_ne_f, y_cmp_ne_t, y_iadd, y_if_eq_f, y_if_eq_t, y_if_le_f, y_if_le_t, y_if_lt_f, y_if_lt_t, y_if_ne_f, y_if_ne_t, y_isub, i_wr_id, kM_diff, Int.reduceToNat, ex_ar_same, ex_ar_ar, ex_ar_diff, ex_u_same, ex_u_diff, b2i_t, b2i_f, ex_div_nn, ex_rem_nn, Int.toNat_zero, Int.toNat_one, Int.reduceAdd, Int.reduceSub, Int.reduceMul, Int.reduceNeg]
          rw [nat_cast_succ]
          exact ih _ hs
        · rw [if_neg q] at hs
          simp (disch := first | assumption | omega | ((repeat' first | exact ok_nil | apply ok_I | apply ok_R); done) | (simp (disch := first | omega | decide) only [ex_ar_same, ex_ar_diff, kM_diff, ex_u_same, ex_u_diff]; first | assumption | omega)) only [ev_211_0, ev_211_1, ev_211_10, ev_211_12, ev_211_13, ev_211_14, ev_211_16, ev_211_17, ev_211_18, ev_211_19, ev_211_2, ev_211_20, ev_211_4, ev_211_5, ev_211_6, ev_211_8, ev_211_9, gf_432_0, ld_433, sd_433, x_dup2, x_fall, x_goto, x_idiv, x_imul, x_irem, x_push, x_ret1, xc_142, xc_143, xc_145, xl_a0, xl_a6, xl_i1, xl_i10, xl_i2, xl_i3, xl_i4, xl_i5, xl_i7, xl_i8, xl_i9, xn_10, xn_5, xn_7, xn_8, xt_a6, xt_i10, xt_i4, xt_i5, xt_i7, xt_i8, xt_i9, y_cmp_eq_f, y_cmp_eq_t, y_cmp_ge_f, y_cmp_ge_t, y_cmp_ne_f, y_cmp_ne_t, y_iadd, y_if_eq_f, y_if_eq_t, y_if_le_f, y_if_le_t, y_if_lt_f, y_if_lt_t, y_if_ne_f, y_if_ne_t, y_isub, i_wr_id, kM_diff, Int.reduceToNat, ex_ar_same, ex_ar_ar, ex_ar_diff, ex_u_same, ex_u_diff, b2i_t, b2i_f, ex_div_nn, ex_rem_nn, Int.toNat_zero, Int.toNat_one, Int.reduceAdd, Int.reduceSub, Int.reduceMul, Int.reduceNeg]
          rw [nat_cast_succ]
          exact ih _ hs
    have st : ex_ev (d - 1) 211 0 [vR 432, vI c, vI p, vI s, vL 0, vL 0, vL 0, vL 0, vL 0, vL 0, vL 0] [] (SH L, σ) = ex_ev (d - 1) 211 7 [vR 432, vI c, vI p, vI s, vI (harN (σ 433) c), vI (harN (σ 433) c + 1), vL 0, vL 0, vL 0, vL 0, vL 0] [] (SH L, σ) := by
      simp (disch := first | assumption | omega | ((repeat' first | exact ok_nil | apply ok_I | apply ok_R); done) | (simp (disch := first | omega | decide) only [ex_ar_same, ex_ar_diff, kM_diff, ex_u_same, ex_u_diff]; first | assumption | omega)) only [ev_211_0, ev_211_1, ev_211_10, ev_211_12, ev_211_13, ev_211_14, ev_211_16, ev_211_17, ev_211_18, ev_211_19, ev_211_2, ev_211_20, ev_211_4, ev_211_5, ev_211_6, ev_211_8, ev_211_9, gf_432_0, ld_433, sd_433, x_dup2, x_fall, x_goto, x_idiv, x_imul, x_irem, x_push, x_ret1, xc_142, xc_143, xc_145, xl_a0, xl_a6, xl_i1, xl_i10, xl_i2, xl_i3, xl_i4, xl_i5, xl_i7, xl_i8, xl_i9, xn_10, xn_5, xn_7, xn_8, xt_a6, xt_i10, xt_i4, xt_i5, xt_i7, xt_i8, xt_i9, y_cmp_eq_f, y_cmp_eq_t, y_cmp_ge_f, y_cmp_ge_t, y_cmp_ne_f, y_cmp_ne_t, y_iadd, y_if_eq_f, y_if_eq_t, y_if_le_f, y_if_le_t, y_if_lt_f, y_if_lt_t, y_if_ne_f, y_if_ne_t, y_isub, i_wr_id, kM_diff, Int.reduceToNat, ex_ar_same, ex_ar_ar, ex_ar_diff, ex_u_same, ex_u_diff, b2i_t, b2i_f, ex_div_nn, ex_rem_nn, Int.toNat_zero, Int.toNat_one, Int.reduceAdd, Int.reduceSub, Int.reduceMul, Int.reduceNeg]
      exact l3 0 (by omega) _ rfl
    rw [st]
    by_cases q0 : harN (σ 433) c < 0
    · rw [if_pos (Or.inl q0)]
      refine ⟨[], fndM σ, ?_, RS.refl _, Or.inl rfl⟩
      rw [List.append_nil, ev_211_7]
      simp (disch := first | assumption | omega | ((repeat' first | exact ok_nil | apply ok_I | apply ok_R); done) | (simp (disch := first | omega | decide) only [ex_ar_same, ex_ar_diff, kM_diff, ex_u_same, ex_u_diff]; first | assumption | omega)) only [ev_211_0, ev_211_1, ev_211_10, ev_211_12, ev_211_13, ev_211_14, ev_211_16, ev_211_17, ev_211_18, ev_211_19, ev_211_2, ev_211_20, ev_211_4, ev_211_5, ev_211_6, ev_211_8, ev_211_9, gf_432_0, ld_433, sd_433, x_dup2, x_fall, x_goto, x_idiv, x_imul, x_irem, x_push, x_ret1, xc_142, xc_143, xc_145, xl_a0, xl_a6, xl_i1, xl_i10, xl_i2, xl_i3, xl_i4, xl_i5, xl_i7, xl_i8, xl_i9, xn_10, xn_5, xn_7, xn_8, xt_a6, xt_i10, xt_i4, xt_i5, xt_i7, xt_i8, xt_i9, y_cmp_eq_f, y_cmp_eq_t, y_cmp_ge_f, y_cmp_ge_t, y_cmp_ne_f, y_cmp_ne_t, y_iadd, y_if_eq_f, y_if_eq_t, y_if_le_f, y_if_le_t, y_if_lt_f, y_if_lt_t, y_if_ne_f, y_if_ne_t, y_isub, i_wr_id, kM_diff, Int.reduceToNat, ex_ar_same, ex_ar_ar, ex_ar_diff, ex_u_same, ex_u_diff, b2i_t, b2i_f, ex_div_nn, ex_rem_nn, Int.toNat_zero, Int.toNat_one, Int.reduceAdd, Int.reduceSub, Int.reduceMul, Int.reduceNeg]
    · have l7 : ∀ i : Nat, i ≤ (σ 433 8).toNat → ex_ev (d - 1) 211 7 [vR 432, vI c, vI p, vI s, vI (harN (σ 433) c), vI (i : Int), vL 0, vL 0, vL 0, vL 0, vL 0] [] (SH L, σ) = ex_ev (d - 1) 211 8 [vR 432, vI c, vI p, vI s, vI (harN (σ 433) c), vI ((harT (σ 433) c i ((σ 433 8).toNat - i) : Nat) : Int), vL 0, vL 0, vL 0, vL 0, vL 0] [] (SH L, σ) := by
        refine down ?_ ?_
        · rw [Nat.sub_self, harT, ev_211_7]
          simp (disch := first | assumption | omega | ((repeat' first | exact ok_nil | apply ok_I | apply ok_R); done) | (simp (disch := first | omega | decide) only [ex_ar_same, ex_ar_diff, kM_diff, ex_u_same, ex_u_diff]; first | assumption | omega)) only [ev_211_0, ev_211_1, ev_211_10, ev_211_12, ev_211_13, ev_211_14, ev_211_16, ev_211_17, ev_211_18, ev_211_19, ev_211_2, ev_211_20, ev_211_4, ev_211_5, ev_211_6, ev_211_9, gf_432_0, ld_433, sd_433, x_dup2, x_fall, x_goto, x_idiv, x_imul, x_irem, x_push, x_ret1, xc_142, xc_143, xc_145, xl_a0, xl_a6, xl_i1, xl_i10, xl_i2, xl_i3, xl_i4, xl_i5, xl_i7, xl_i8, xl_i9, xn_10, xn_5, xn_7, xn_8, xt_a6, xt_i10, xt_i4, xt_i5, xt_i7, xt_i8, xt_i9, y_cmp_eq_f, y_cmp_eq_t, y_cmp_ge_f, y_cmp_ge_t, y_cmp_ne_f, y_cmp_ne_t, y_iadd, y_if_eq_f, y_if_eq_t, y_if_le_f, y_if_le_t, y_if_lt_f, y_if_lt_t, y_if_ne_f, y_if_ne_t, y_isub, i_wr_id, kM_diff, Int.reduceToNat, ex_ar_same, ex_ar_ar, ex_ar_diff, ex_u_same, ex_u_diff, b2i_t, b2i_f, ex_div_nn, ex_rem_nn, Int.toNat_zero, Int.toNat_one, Int.reduceAdd, Int.reduceSub, Int.reduceMul, Int.reduceNeg]
        · intro i hi ih
          rw [show (σ 433 8).toNat - i = ((σ 433 8).toNat - (i + 1)) + 1 by omega, harT, ev_211_7]
          by_cases q : σ 433 (171 + (i : Int)) = 72 + c
          · rw [if_pos q]
            simp (disch := first | assumption | omega | ((repeat' first | exact ok_nil | apply ok_I | apply ok_R); done) | (simp (disch := first | omega | decide) only [ex_ar_same, ex_ar_diff, kM_diff, ex_u_same, ex_u_diff]; first | assumption | omega)) only [ev_211_0, ev_211_1, ev_211_10, ev_211_12, ev_211_13, ev_211_14, ev_211_16, ev_211_17, ev_211_18, ev_211_19, ev_211_2, ev_211_20, ev_211_4, ev_211_5, ev_211_6, ev_211_9, gf_432_0, ld_433, sd_433, x_dup2, x_fall, x_goto, x_idiv, x_imul, x_irem, x_push, x_ret1, xc_142, xc_143, xc_145, xl_a0, xl_a6, xl_i1, xl_i10, xl_i2, xl_i3, xl_i4, xl_i5, xl_i7, xl_i8, xl_i9, xn_10, xn_5, xn_7, xn_8, xt_a6, xt_i10, xt_i4, xt_i5, xt_i7, xt_i8, xt_i9, y_cmp_eq_f, y_cmp_eq_t, y_cmp_ge_f, y_cmp_ge_t, y_cmp_ne_f, y_cmp_ne_t, y_iadd, y_if_eq_f, y_if_eq_t, y_if_le_f, y_if_le_t, y_if_lt_f, y_if_lt_t, y_if_ne_f, y_if_ne_t, y_isub, i_wr_id, kM_diff, Int.reduceToNat, ex_ar_same, ex_ar_ar, ex_ar_diff, ex_u_same, ex_u_diff, b2i_t, b2i_f, ex_div_nn, ex_rem_nn, Int.toNat_zero, Int.toNat_one, Int.reduceAdd, Int.reduceSub, Int.reduceMul, Int.reduceNeg]
          · rw [if_neg q]
            simp (disch := first | assumption | omega | ((repeat' first | exact ok_nil | apply ok_I | apply ok_R); done) | (simp (disch := first | omega | decide) only [ex_ar_same, ex_ar_diff, kM_diff, ex_u_same, ex_u_diff]; first | assumption | omega)) only [ev_211_0, ev_211_1, ev_211_10, ev_211_12, ev_211_13, ev_211_14, ev_211_16, ev_211_17, ev_211_18, ev_211_19, ev_211_2, ev_211_20, ev_211_4, ev_211_5, ev_211_6, ev_211_9, gf_432_0, ld_433, sd_433, x_dup2, x_fall, x_goto, x_idiv, x_imul, x_irem, x_push, x_ret1, xc_142, xc_143, xc_145, xl_a0, xl_a6, xl_i1, xl_i10, xl_i2, xl_i3, xl_i4, xl_i5, xl_i7, xl_i8, xl_i9, xn_10, xn_5, xn_7, xn_8, xt_a6, xt_i10, xt_i4, xt_i5, xt_i7, xt_i8, xt_i9, y_cmp_eq_f, y_cmp_eq_t, y_cmp_ge_f, y_cmp_ge_t, y_cmp_ne_f, y_cmp_ne_t, y_iadd, y_if_eq_f, y_if_eq_t, y_if_le_f, y_if_le_t, y_if_lt_f, y_if_lt_t, y_if_ne_f, y_if_ne_t, y_isub, i_wr_id, kM_diff, Int.reduceToNat, ex_ar_same, ex_ar_ar, ex_ar_diff, ex_u_same, ex_u_diff, b2i_t, b2i_f, ex_div_nn, ex_rem_nn, Int.toNat_zero, Int.toNat_one, Int.reduceAdd, Int.reduceSub, Int.reduceMul, Int.reduceNeg]
            rw [nat_cast_succ]
            exact ih
      have s7 := l7 (harN (σ 433) c + 1).toNat (by omega)
      rw [eE, show (((harN (σ 433) c + 1).toNat : Nat) : Int) = harN (σ 433) c + 1 by omega] at s7
      rw [s7]
      by_cases q1 : ((harE (σ 433) c : Nat) : Int) = σ 433 8
      · rw [if_pos (Or.inr q1)]
        refine ⟨[], fndM σ, ?_, RS.refl _, Or.inl rfl⟩
        rw [List.append_nil]
        simp (disch := first | assumption | omega | ((repeat' first | exact ok_nil | apply ok_I | apply ok_R); done) | (simp (disch := first | omega | decide) only [ex_ar_same, ex_ar_diff, kM_diff, ex_u_same, ex_u_diff]; first | assumption | omega)) only [ev_211_0, ev_211_1, ev_211_10, ev_211_12, ev_211_13, ev_211_14, ev_211_16, ev_211_17, ev_211_18, ev_211_19, ev_211_2, ev_211_20, ev_211_4, ev_211_5, ev_211_6, ev_211_8, ev_211_9, gf_432_0, ld_433, sd_433, x_dup2, x_fall, x_goto, x_idiv, x_imul, x_irem, x_push, x_ret1, xc_142, xc_143, xc_145, xl_a0, xl_a6, xl_i1, xl_i10, xl_i2, xl_i3, xl_i4, xl_i5, xl_i7, xl_i8, xl_i9, xn_10, xn_5, xn_7, xn_8, xt_a6, xt_i10, xt_i4, xt_i5, xt_i7, xt_i8, xt_i9, y_cmp_eq_f, y_cmp_eq_t, y_cmp_ge_f, y_cmp_ge_t, y_cmp_ne_f, y_cmp_ne_t, y_iadd, y_if_eq_f, y_if_eq_t, y_if_le_f, y_if_le_t, y_if_lt_f, y_if_lt_t, y_if_ne_f, y_if_ne_t, y_isub, i_wr_id, kM_diff, Int.reduceToNat, ex_ar_same, ex_ar_ar, ex_ar_diff, ex_u_same, ex_u_diff, b2i_t, b2i_f, ex_div_nn, ex_rem_nn, Int.toNat_zero, Int.toNat_one, Int.reduceAdd, Int.reduceSub, Int.reduceMul, Int.reduceNeg]
      · rw [if_neg (by omega)]
        have eR : harB (σ 433) c (harN (σ 433) c) (harE (σ 433) c - (harN (σ 433) c).toNat) = harR (σ 433) c := rfl
        have RB := harB_bd (σ 433) c (harN (σ 433) c) (harE (σ 433) c - (harN (σ 433) c).toNat)
        rw [eR] at RB
        have l11 : ∀ j : Nat, j ≤ harE (σ 433) c - (harN (σ 433) c).toNat → ∀ (B : Int → Int) (a k : Int) (w : ex_V), harB (σ 433) c (harN (σ 433) c) j = (B, a) → k = harN (σ 433) c + (j : Int) → ∃ w', ex_ev (d - 1) 211 11 [vR 432, vI c, vI p, vI s, vI (harN (σ 433) c), vI ((harE (σ 433) c : Nat) : Int), vR 449, vI a, vI k, w, vL 0] [] (SX L, ex_ar σ 449 B) = ex_ev (d - 1) 211 13 [vR 432, vI c, vI p, vI s, vI (harN (σ 433) c), vI ((harE (σ 433) c : Nat) : Int), vR 449, vI (harR (σ 433) c).2, vI ((harE (σ 433) c : Nat) : Int), w', vL 0] [] (SX L, ex_ar σ 449 (harR (σ 433) c).1) := by
          refine down ?_ ?_
          · intro B a k w hb hk
            rw [eR] at hb
            refine ⟨w, ?_⟩
            have ek : k = ((harE (σ 433) c : Nat) : Int) := by omega
            rw [hb, ek, ev_211_11]
            simp (disch := first | assumption | omega | ((repeat' first | exact ok_nil | apply ok_I | apply ok_R); done) | (simp (disch := first | omega | decide) only [ex_ar_same, ex_ar_diff, kM_diff, ex_u_same, ex_u_diff]; first | assumption | omega)) only [ev_211_0, ev_211_1, ev_211_10, ev_211_12, ev_211_14, ev_211_16, ev_211_17, ev_211_18, ev_211_19, ev_211_2, ev_211_20, ev_211_4, ev_211_5, ev_211_6, ev_211_8, ev_211_9, gf_432_0, ld_433, sd_433, x_dup2, x_fall, x_goto, x_idiv, x_imul, x_irem, x_push, x_ret1, xc_142, xc_143, xc_145, xl_a0, xl_a6, xl_i1, xl_i10, xl_i2, xl_i3, xl_i4, xl_i5, xl_i7, xl_i8, xl_i9, xn_10, xn_5, xn_7, xn_8, xt_a6, xt_i10, xt_i4, xt_i5, xt_i7, xt_i8, xt_i9, y_cmp_eq_f, y_cmp_eq_t, y_cmp_ge_f, y_cmp_ge_t, y_cmp_ne_f, y_cmp_ne_t, y_iadd, y_if_eq_f, y_if_eq_t, y_if_le_f, y_if_le_t, y_if_lt_f, y_if_lt_t, y_if_ne_f, y_if_ne_t, y_isub, i_wr_id, kM_diff, Int.reduceToNat, ex_ar_same, ex_ar_ar, ex_ar_diff, ex_u_same, ex_u_diff, b2i_t, b2i_f, ex_div_nn, ex_rem_nn, Int.toNat_zero, Int.toNat_one, Int.reduceAdd, Int.reduceSub, Int.reduceMul, Int.reduceNeg]
          · intro j hj ih B a k w hb hk
            have hs : harB (σ 433) c (harN (σ 433) c) (j + 1) = if harC (σ 433) c k then (ex_u B (σ 433 (171 + k) / 8) (B (σ 433 (171 + k) / 8) + 1), a + 1) else (B, a) := by rw [harB, hb, hk]
            have bb := harB_bd (σ 433) c (harN (σ 433) c) j
            rw [hb] at bb
            dsimp only at bb
            have it := hN.le k (by omega) (by omega)
            by_cases q : harC (σ 433) c k
            · rw [if_pos q] at hs
              obtain ⟨q2, q3⟩ := q
              have b8 := bb.1 (σ 433 (171 + k) / 8)
              obtain ⟨w', e⟩ := ih _ _ (k + 1) (vI (σ 433 (171 + k))) hs (by omega)
              refine ⟨w', ?_⟩
              rw [ev_211_11]
              simp (disch := first | assumption | omega | ((repeat' first | exact ok_nil | apply ok_I | apply ok_R); done) | (simp (disch := first | omega | decide) only [ex_ar_same, ex_ar_diff, kM_diff, ex_u_same, ex_u_diff]; first | assumption | omega)) only [dX_449, ev_211_0, ev_211_1, ev_211_10, ev_211_12, ev_211_14, ev_211_16, ev_211_17, ev_211_18, ev_211_19, ev_211_2, ev_211_20, ev_211_4, ev_211_5, ev_211_6, ev_211_8, ev_211_9, gX_432_0, gf_432_0, lX_433, lX_449, ld_433, sd_433, x_dup2, x_fall, x_goto, x_idiv, x_imul, x_irem, x_push, x_ret1, xc_142, xc_143, xc_145, xl_a0, xl_a6, xl_i1, xl_i10, xl_i2, xl_i3, xl_i4, xl_i5, xl_i7, xl_i8, xl_i9, xn_10, xn_5, xn_7, xn_8, xt_a6, xt_i10, xt_i4, xt_i5, xt_i7, xt_i8, xt_i9, y_cmp_eq_f, y_cmp_eq_t, y_cmp_ge_f, y_cmp_ge_t, y_cmp_ne_f, y_cmp_ne_t, y_iadd, y_if_eq_f, y_if_eq_t, y_if_le_f, y_if_le_t, y_if_lt_f, y_if_lt_t, y_if_ne_f, y_if_ne_t, y_isub, i_wr_id, kM_diff, Int.reduceToNat, ex_ar_same, ex_ar_ar, ex_ar_diff, ex_u_same, ex_u_diff, b2i_t, b2i_f, ex_div_nn, ex_rem_nn, Int.toNat_zero, Int.toNat_one, Int.reduceAdd, Int.reduceSub, Int.reduceMul, Int.reduceNeg]
              exact e
            · rw [if_neg q] at hs
              obtain ⟨w', e⟩ := ih _ _ (k + 1) (vI (σ 433 (171 + k))) hs (by omega)
              refine ⟨w', ?_⟩
              rw [ev_211_11]
              (repeat' first | simp (disch := first | assumption | omega | ((repeat' first | exact ok_nil | apply ok_I | apply ok_R); done) | (simp (disch := first | omega | decide) only [ex_ar_same, ex_ar_diff, kM_diff, ex_u_same, ex_u_diff]; first | assumption | omega)) only [dX_449, ev_211_0, ev_211_1, ev_211_10, ev_211_12, ev_211_14, ev_211_16, ev_211_17, ev_211_18, ev_211_19, ev_211_2, ev_211_20, ev_211_4, ev_211_5, ev_211_6, ev_211_8, ev_211_9, gX_432_0, gf_432_0, lX_433, lX_449, ld_433, sd_433, x_dup2, x_fall, x_goto, x_idiv, x_imul, x_irem, x_push, x_ret1, xc_142, xc_143, xc_145, xl_a0, xl_a6, xl_i1, xl_i10, xl_i2, xl_i3, xl_i4, xl_i5, xl_i7, xl_i8, xl_i9, xn_10, xn_5, xn_7, xn_8, xt_a6, xt_i10, xt_i4, xt_i5, xt_i7, xt_i8, xt_i9, y_cmp_eq_f, y_cmp_eq_t, y_cmp_ge_f, y_cmp_ge_t, y_cmp_ne_f, y_cmp_ne_t, y_iadd, y_if_eq_f, y_if_eq_t, y_if_le_f, y_if_le_t, y_if_lt_f, y_if_lt_t, y_if_ne_f, y_if_ne_t, y_isub, i_wr_id, kM_diff, Int.reduceToNat, ex_ar_same, ex_ar_ar, ex_ar_diff, ex_u_same, ex_u_diff, b2i_t, b2i_f, ex_div_nn, ex_rem_nn, Int.toNat_zero, Int.toNat_one, Int.reduceAdd, Int.reduceSub, Int.reduceMul, Int.reduceNeg] | refine bb_eq (fun _ => ?_) (fun _ => ?_) | refine bb_ne (fun _ => ?_) (fun _ => ?_) | refine bc_eq (fun _ => ?_) (fun _ => ?_) | refine bc_ne (fun _ => ?_) (fun _ => ?_) | refine bc_lt (fun _ => ?_) (fun _ => ?_) | refine bc_ge (fun _ => ?_) (fun _ => ?_) | refine bc_gt (fun _ => ?_) (fun _ => ?_) | refine bc_le (fun _ => ?_) (fun _ => ?_) | refine bi_eq (fun _ => ?_) (fun _ => ?_) | refine bi_ne (fun _ => ?_) (fun _ => ?_) | refine bi_lt (fun _ => ?_) (fun _ => ?_) | refine bi_ge (fun _ => ?_) (fun _ => ?_) | refine bi_gt (fun _ => ?_) (fun _ => ?_) | refine bi_le (fun _ => ?_) (fun _ => ?_))
              all_goals first | exact e | exact absurd ⟨by assumption, by assumption⟩ q
        obtain ⟨w', e11⟩ := l11 0 (by omega) (fun _ => 0) 0 (harN (σ 433) c) (vL 0) rfl (by omega)
        have rs : RS (σ, ex_ar σ 449 (harR (σ 433) c).1) := by
          have F : ∀ a, a ≠ 449 → ex_ar σ 449 (harR (σ 433) c).1 a = σ a := fun a h => ex_ar_diff _ _ _ h
          exact RS.mk (fun a ha => F a (by omega)) (F 433 (by decide)) (F 434 (by decide)) (F 435 (by decide)) (F 436 (by decide)) (F 437 (by decide)) (congrFun (F 432 (by decide)) 2) (congrFun (F 432 (by decide)) 3) (fun i _ _ => congrFun (F 447 (by decide)) i)
        have s8 : ex_ev (d - 1) 211 8 [vR 432, vI c, vI p, vI s, vI (harN (σ 433) c), vI ((harE (σ 433) c : Nat) : Int), vL 0, vL 0, vL 0, vL 0, vL 0] [] (SH L, σ) = ex_ev (d - 1) 211 13 [vR 432, vI c, vI p, vI s, vI (harN (σ 433) c), vI ((harE (σ 433) c : Nat) : Int), vR 449, vI (harR (σ 433) c).2, vI ((harE (σ 433) c : Nat) : Int), w', vL 0] [] (SX L, ex_ar σ 449 (harR (σ 433) c).1) := by
          simp (disch := first | assumption | omega | ((repeat' first | exact ok_nil | apply ok_I | apply ok_R); done) | (simp (disch := first | omega | decide) only [ex_ar_same, ex_ar_diff, kM_diff, ex_u_same, ex_u_diff]; first | assumption | omega)) only [ev_211_0, ev_211_1, ev_211_10, ev_211_12, ev_211_14, ev_211_16, ev_211_17, ev_211_18, ev_211_19, ev_211_2, ev_211_20, ev_211_4, ev_211_5, ev_211_6, ev_211_8, ev_211_9, gf_432_0, ld_433, sd_433, x_dup2, x_fall, x_goto, x_idiv, x_imul, x_irem, x_new4, x_push, x_ret1, xc_142, xc_143, xc_145, xl_a0, xl_a6, xl_i1, xl_i10, xl_i2, xl_i3, xl_i4, xl_i5, xl_i7, xl_i8, xl_i9, xn_10, xn_5, xn_7, xn_8, xt_a6, xt_i10, xt_i4, xt_i5, xt_i7, xt_i8, xt_i9, y_cmp_eq_f, y_cmp_eq_t, y_cmp_ge_f, y_cmp_ge_t, y_cmp_ne_f, y_cmp_ne_t, y_iadd, y_if_eq_f, y_if_eq_t, y_if_le_f, y_if_le_t, y_if_lt_f, y_if_lt_t, y_if_ne_f, y_if_ne_t, y_isub, i_wr_id, kM_diff, Int.reduceToNat, ex_ar_same, ex_ar_ar, ex_ar_diff, ex_u_same, ex_u_diff, b2i_t, b2i_f, ex_div_nn, ex_rem_nn, Int.toNat_zero, Int.toNat_one, Int.reduceAdd, Int.reduceSub, Int.reduceMul, Int.reduceNeg]
          exact e11
        rw [s8]
        by_cases q4 : (harR (σ 433) c).2 = 0
        · rw [if_pos q4]
          refine ⟨[cA 4], fndM (ex_ar σ 449 (harR (σ 433) c).1), ?_, rs.fnd, Or.inr rfl⟩
          show _ = some (_, (SX L, _))
          rw [ev_211_13]
          simp (disch := first | assumption | omega | ((repeat' first | exact ok_nil | apply ok_I | apply ok_R); done) | (simp (disch := first | omega | decide) only [ex_ar_same, ex_ar_diff, kM_diff, ex_u_same, ex_u_diff]; first | assumption | omega)) only [ev_211_0, ev_211_1, ev_211_10, ev_211_12, ev_211_13, ev_211_14, ev_211_16, ev_211_17, ev_211_18, ev_211_19, ev_211_2, ev_211_20, ev_211_4, ev_211_5, ev_211_6, ev_211_8, ev_211_9, gf_432_0, ld_433, sd_433, x_dup2, x_fall, x_goto, x_idiv, x_imul, x_irem, x_push, x_ret1, xcX_142, xc_142, xc_143, xc_145, xl_a0, xl_a6, xl_i1, xl_i10, xl_i2, xl_i3, xl_i4, xl_i5, xl_i7, xl_i8, xl_i9, xn_10, xn_5, xn_7, xn_8, xt_a6, xt_i10, xt_i4, xt_i5, xt_i7, xt_i8, xt_i9, y_cmp_eq_f, y_cmp_eq_t, y_cmp_ge_f, y_cmp_ge_t, y_cmp_ne_f, y_cmp_ne_t, y_iadd, y_if_eq_f, y_if_eq_t, y_if_le_f, y_if_le_t, y_if_lt_f, y_if_lt_t, y_if_ne_f, y_if_ne_t, y_isub, i_wr_id, kM_diff, Int.reduceToNat, ex_ar_same, ex_ar_ar, ex_ar_diff, ex_u_same, ex_u_diff, b2i_t, b2i_f, ex_div_nn, ex_rem_nn, Int.toNat_zero, Int.toNat_one, Int.reduceAdd, Int.reduceSub, Int.reduceMul, Int.reduceNeg]
        · rw [if_neg q4]
          refine ⟨[cA 4], ex_ar σ 449 (harR (σ 433) c).1, ?_, rs, Or.inr rfl⟩
          show _ = some (_, (SX L, _))
          have h15 := h15_211 (d := d - 1) (L := L) (σ := ex_ar σ 449 (harR (σ 433) c).1) (c := c) (p := p) (s := s) (f := harN (σ 433) c) (t := ((harE (σ 433) c : Nat) : Int)) (a := (harR (σ 433) c).2) (w1 := vI ((harE (σ 433) c : Nat) : Int)) (w2 := w') (w3 := vL 0) (fun i => by rw [ex_ar_same]; have := RB.1 i; omega) (by omega) (by omega) g2.1 g2.2 g3.1 g3.2
          rw [ex_ar_same] at h15
          rw [ev_211_13]
          simp (disch := first | assumption | omega | ((repeat' first | exact ok_nil | apply ok_I | apply ok_R); done) | (simp (disch := first | omega | decide) only [ex_ar_same, ex_ar_diff, kM_diff, ex_u_same, ex_u_diff]; first | assumption | omega)) only [ev_211_0, ev_211_1, ev_211_10, ev_211_12, ev_211_13, ev_211_16, ev_211_17, ev_211_18, ev_211_19, ev_211_2, ev_211_20, ev_211_4, ev_211_5, ev_211_6, ev_211_8, ev_211_9, gf_432_0, ld_433, sd_433, x_dup2, x_fall, x_goto, x_idiv, x_imul, x_irem, x_push, x_ret1, xc_142, xc_143, xc_145, xl_a0, xl_a6, xl_i1, xl_i10, xl_i2, xl_i3, xl_i4, xl_i5, xl_i7, xl_i8, xl_i9, xn_10, xn_5, xn_7, xn_8, xt_a6, xt_i10, xt_i4, xt_i5, xt_i7, xt_i8, xt_i9, y_cmp_eq_f, y_cmp_eq_t, y_cmp_ge_f, y_cmp_ge_t, y_cmp_ne_f, y_cmp_ne_t, y_iadd, y_if_eq_f, y_if_eq_t, y_if_le_f, y_if_le_t, y_if_lt_f, y_if_lt_t, y_if_ne_f, y_if_ne_t, y_isub, i_wr_id, kM_diff, Int.reduceToNat, ex_ar_same, ex_ar_ar, ex_ar_diff, ex_u_same, ex_u_diff, b2i_t, b2i_f, ex_div_nn, ex_rem_nn, Int.toNat_zero, Int.toNat_one, Int.reduceAdd, Int.reduceSub, Int.reduceMul, Int.reduceNeg]
          exact h15
  · rw [if_neg g]
    refine ⟨[], fndM σ, ?_, RS.refl _, Or.inl rfl⟩
    rw [List.append_nil]
    (repeat' first | simp (disch := first | assumption | omega | ((repeat' first | exact ok_nil | apply ok_I | apply ok_R); done) | (simp (disch := first | omega | decide) only [ex_ar_same, ex_ar_diff, kM_diff, ex_u_same, ex_u_diff]; first | assumption | omega)) only [ev_211_0, ev_211_1, ev_211_10, ev_211_12, ev_211_13, ev_211_14, ev_211_16, ev_211_17, ev_211_18, ev_211_19, ev_211_2, ev_211_20, ev_211_4, ev_211_5, ev_211_6, ev_211_8, ev_211_9, gf_432_0, ld_433, sd_433, x_dup2, x_fall, x_goto, x_idiv, x_imul, x_irem, x_push, x_ret1, xc_142, xc_143, xc_145, xl_a0, xl_a6, xl_i1, xl_i10, xl_i2, xl_i3, xl_i4, xl_i5, xl_i7, xl_i8, xl_i9, xn_10, xn_5, xn_7, xn_8, xt_a6, xt_i10, xt_i4, xt_i5, xt_i7, xt_i8, xt_i9, y_cmp_eq_f, y_cmp_eq_t, y_cmp_ge_f, y_cmp_ge_t, y_cmp_ne_f, y_cmp_ne_t, y_iadd, y_if_eq_f, y_if_eq_t, y_if_le_f, y_if_le_t, y_if_lt_f, y_if_lt_t, y_if_ne_f, y_if_ne_t, y_isub, i_wr_id, kM_diff, Int.reduceToNat, ex_ar_same, ex_ar_ar, ex_ar_diff, ex_u_same, ex_u_diff, b2i_t, b2i_f, ex_div_nn, ex_rem_nn, Int.toNat_zero, Int.toNat_one, Int.reduceAdd, Int.reduceSub, Int.reduceMul, Int.reduceNeg] | refine bb_eq (fun _ => ?_) (fun _ => ?_) | refine bb_ne (fun _ => ?_) (fun _ => ?_) | refine bc_eq (fun _ => ?_) (fun _ => ?_) | refine bc_ne (fun _ => ?_) (fun _ => ?_) | refine bc_lt (fun _ => ?_) (fun _ => ?_) | refine bc_ge (fun _ => ?_) (fun _ => ?_) | refine bc_gt (fun _ => ?_) (fun _ => ?_) | refine bc_le (fun _ => ?_) (fun _ => ?_) | refine bi_eq (fun _ => ?_) (fun _ => ?_) | refine bi_ne (fun _ => ?_) (fun _ => ?_) | refine bi_lt (fun _ => ?_) (fun _ => ?_) | refine bi_ge (fun _ => ?_) (fun _ => ?_) | refine bi_gt (fun _ => ?_) (fun _ => ?_) | refine bi_le (fun _ => ?_) (fun _ => ?_))
    all_goals (exact absurd ⟨by assumption, by assumption, by assumption⟩ g)
