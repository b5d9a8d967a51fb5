/-! the reference: harm -/
theorem harB_bd (n : Int → Int) (c f : Int) : ∀ j : Nat, (∀ i : Int, 0 ≤ (harB n c f j).1 i ∧ (harB n c f j).1 i ≤ (j : Int)) ∧ 0 ≤ (harB n c f j).2 ∧ (harB n c f j).2 ≤ (j : Int)
  | 0 => ⟨fun i => ⟨Int.le_refl 0, Int.le_refl 0⟩, Int.le_refl 0, Int.le_refl 0⟩
  | j + 1 => by
    obtain ⟨i1, i2, i3⟩ := harB_bd n c f j
    rw [harB]
    split
    · dsimp only
      refine ⟨fun i => ?_, by omega, by omega⟩
      by_cases e : i = n (171 + (f + (j : Int))) / 8
      · rw [e, ex_u_same]
        have := i1 (n (171 + (f + (j : Int))) / 8)
        omega
      · rw [ex_u_diff _ _ e]
        have := i1 i
        omega
    · refine ⟨fun i => ?_, by omega, by omega⟩
      have := i1 i
      omega
def harV (B : Int → Int) (a p s : Int) : Int := s * B p / a + (if p = (if 0 < B 0 then 0 else if 0 < B 1 then 1 else if 0 < B 2 then 2 else if 0 < B 3 then 3 else -1) then s - (s * B 3 / a + s * B 2 / a + s * B 1 / a + s * B 0 / a) else 0)
theorem h15_211 {d L : Nat} {σ : ex_S} {c p s f t a : Int} {w1 w2 w3 : ex_V} (hB : ∀ i : Int, 0 ≤ σ 449 i ∧ σ 449 i ≤ 60) (ha : 0 < a) (ha2 : a ≤ 60) (hp : 0 ≤ p) (hp2 : p ≤ 3) (hs : 0 ≤ s) (hs2 : s ≤ 9999) : ex_ev d 211 14 [vR 432, vI c, vI p, vI s, vI f, vI t, vR 449, vI a, w1, w2, w3] [] (SX L, σ) = some ([vI (harV (σ 449) a p s)], (SX L, σ)) := by
  have P : ∀ i : Int, 0 ≤ s * σ 449 i ∧ s * σ 449 i ≤ 599940 ∧ 0 ≤ s * σ 449 i / a ∧ s * σ 449 i / a ≤ 599940 := fun i => by
    have := hB i
    have h1 : 0 ≤ s * σ 449 i := Int.mul_nonneg hs this.1
    have h2 : s * σ 449 i ≤ 9999 * 60 := Int.mul_le_mul hs2 this.2 this.1 (by omega)
    have h3 : 0 ≤ s * σ 449 i / a := Int.ediv_nonneg h1 (by omega)
    have h4 : s * σ 449 i / a ≤ s * σ 449 i := Int.ediv_le_self _ h1
    omega
  have P0 := P 0
  have P1 := P 1
  have P2 := P 2
  have P3 := P 3
  have Pp := P p
  unfold harV
  (repeat' first | simp (disch := first | assumption | omega | ((repeat' first | exact ok_nil | apply ok_I | apply ok_R); done) | (simp (disch := first | omega | decide) only [ex_ar_same, ex_ar_diff, kM_diff, ex_u_same, ex_u_diff]; first | assumption | omega)) only [Int.zero_add, ev_211_0, ev_211_1, ev_211_10, ev_211_12, ev_211_13, ev_211_14, ev_211_15, ev_211_16, ev_211_17, ev_211_18, ev_211_19, ev_211_2, ev_211_20, ev_211_4, ev_211_5, ev_211_6, ev_211_8, ev_211_9, gX_432_0, gf_432_0, lX_433, lX_449, ld_433, sd_433, x_dup2, x_fall, x_goto, x_idiv, x_imul, x_irem, x_push, x_ret1, xc_142, xc_143, xc_145, xl_a0, xl_a6, xl_i1, xl_i10, xl_i2, xl_i3, xl_i4, xl_i5, xl_i7, xl_i8, xl_i9, xn_10, xn_5, xn_7, xn_8, xt_a6, xt_i10, xt_i4, xt_i5, xt_i7, xt_i8, xt_i9, y_cmp_eq_f, y_cmp_eq_t, y_cmp_ge_f, y_cmp_ge_t, y_cmp_ne_f, y_cmp_ne_t, y_iadd, y_if_eq_f, y_if_eq_t, y_if_le_f, y_if_le_t, y_if_lt_f, y_if_lt_t, y_if_ne_f, y_if_ne_t, y_isub, i_wr_id, kM_diff, Int.reduceToNat, ex_ar_same, ex_ar_ar, ex_ar_diff, ex_u_same, ex_u_diff, b2i_t, b2i_f, ex_div_nn, ex_rem_nn, Int.toNat_zero, Int.toNat_one, Int.reduceAdd, Int.reduceSub, Int.reduceMul, Int.reduceNeg] | refine bb_eq (fun _ => ?_) (fun _ => ?_) | refine bb_ne (fun _ => ?_) (fun _ => ?_) | refine bc_eq (fun _ => ?_) (fun _ => ?_) | refine bc_ne (fun _ => ?_) (fun _ => ?_) | refine bc_lt (fun _ => ?_) (fun _ => ?_) | refine bc_ge (fun _ => ?_) (fun _ => ?_) | refine bc_gt (fun _ => ?_) (fun _ => ?_) | refine bc_le (fun _ => ?_) (fun _ => ?_) | refine bi_eq (fun _ => ?_) (fun _ => ?_) | refine bi_ne (fun _ => ?_) (fun _ => ?_) | refine bi_lt (fun _ => ?_) (fun _ => ?_) | refine bi_ge (fun _ => ?_) (fun _ => ?_) | refine bi_gt (fun _ => ?_) (fun _ => ?_) | refine bi_le (fun _ => ?_) (fun _ => ?_))
  all_goals (try simp (disch := first | assumption | omega) only [if_pos, if_neg])
