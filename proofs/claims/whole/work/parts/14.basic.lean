/-! reads over writes -/
theorem ex_ar_same (σ : ex_S) (a : Nat) (f : Int → Int) : ex_ar σ a f a = f := ex_ar_self σ a f
theorem ex_ar_diff (σ : ex_S) (a : Nat) (f : Int → Int) {b : Nat} (h : b ≠ a) : ex_ar σ a f b = σ b := ex_ar_ne σ f h
theorem ex_u_same (f : Int → Int) (i z : Int) : ex_u f i z i = z := by unfold ex_u; rw [if_pos rfl]
theorem ex_u_diff (f : Int → Int) {i j : Int} (z : Int) (h : j ≠ i) : ex_u f i z j = f j := by unfold ex_u; rw [if_neg h]
def b2i (p : Prop) [Decidable p] : Int := if p then 1 else 0
theorem b2i_t {p : Prop} [Decidable p] (h : p) : b2i p = 1 := if_pos h
theorem b2i_f {p : Prop} [Decidable p] (h : ¬ p) : b2i p = 0 := if_neg h
theorem b2i_01 (p : Prop) [Decidable p] : b2i p = 0 ∨ b2i p = 1 := by unfold b2i; split; exact Or.inr rfl; exact Or.inl rfl
/-! the reference: small methods -/
theorem sp_143 {d : Nat} (hd : 0 < d) (v a b : Int) (h : ex_H) : ex_cd d 143 [vI v, vI a, vI b] h = some ([vI (b2i (a ≤ v ∧ v ≤ b))], h) := by
  rw [ex_cd_eq hd]
  show ex_ev (d - 1) 143 0 [vI v, vI a, vI b] [] h = _
  simp (disch := first | rfl | omega) only [ev_143_0, ev_143_1, ev_143_2, x_cmp_gt, x_cmp_lt, x_fall, x_goto, x_push, x_ret2, xl_i0, xl_i1, xl_i2, i_wr_id, Int.reduceToNat, ex_ar_same, List.cons_append, List.nil_append, Int.toNat_zero, Int.toNat_one]
  by_cases h1 : v < a
  · rw [if_pos h1, b2i_f (by omega)]
  · rw [if_neg h1]
    by_cases h2 : b < v
    · rw [if_pos h2, b2i_f (by omega)]
    · rw [if_neg h2, b2i_t (by omega)]
theorem sp_152 {d : Nat} (hd : 0 < d) {L : Nat} {σ : ex_S} {l i : Int} (h1 : 0 ≤ l) (h2 : l < 5) (h3 : 0 ≤ i) (h4 : i < 8) : ex_cd d 152 [vR 432, vI l, vI i] (SH L, σ) = some ([vI (σ 433 (51 + 8 * l + i))], (SH L, σ)) := by
  rw [ex_cd_eq hd]
  show ex_ev (d - 1) 152 0 [vR 432, vI l, vI i] [] (SH L, σ) = _
  simp (disch := first | rfl | omega) only [ev_152_0, gf_432_0, ld_433, x_iadd, x_imul, x_push, x_ret1, xl_a0, xl_i1, xl_i2, i_wr_id, Int.reduceToNat, ex_ar_same, List.cons_append, List.nil_append, Int.toNat_zero, Int.toNat_one]
