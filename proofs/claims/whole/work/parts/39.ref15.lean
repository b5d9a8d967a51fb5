/-! the reference: givings -/
abbrev clr (f p : Int) : Int := ex_and f (ex_xor (ex_shl 1 p) (-1))
abbrev bit1 (f p : Int) : Prop := ex_and (ex_shr f p) 1 = 1
def mfN (n : Int → Int) : Nat → Int → Int → Int
  | 0, _, _ => 0
  | r + 1, f, w => if 4 - (r : Int) = w then mfN n r f w else itr (fun p b => if bit1 f (p : Int) then (if n (146 + 5 * (4 - (r : Int)) + (p : Int)) + mfN n r (clr f (p : Int)) w ≤ b then b else n (146 + 5 * (4 - (r : Int)) + (p : Int)) + mfN n r (clr f (p : Int)) w) else b) 0 5 (-1)
theorem itr_bd {f : Nat → Int → Int} {lo hi : Int} (h : ∀ i b, lo ≤ b → b ≤ hi → lo ≤ f i b ∧ f i b ≤ hi) : ∀ (j i : Nat) (b : Int), lo ≤ b → b ≤ hi → lo ≤ itr f i j b ∧ itr f i j b ≤ hi
  | 0, _, b, h1, h2 => ⟨h1, h2⟩
  | j + 1, i, b, h1, h2 => itr_bd h j (i + 1) (f i b) (h i b h1 h2).1 (h i b h1 h2).2
theorem itr_bd' {f : Nat → Int → Int} {lo hi : Int} : ∀ (j i : Nat) (b : Int), (∀ k b, i ≤ k → k < i + j → lo ≤ b → b ≤ hi → lo ≤ f k b ∧ f k b ≤ hi) → lo ≤ b → b ≤ hi → lo ≤ itr f i j b ∧ itr f i j b ≤ hi
  | 0, _, b, _, h1, h2 => ⟨h1, h2⟩
  | j + 1, i, b, h, h1, h2 => itr_bd' j (i + 1) (f i b) (fun k b h3 h4 => h k b (by omega) (by omega)) (h i b (by omega) (by omega) h1 h2).1 (h i b (by omega) (by omega) h1 h2).2
theorem mfN_bd {n : Int → Int} (hN : NI n) : ∀ (r : Nat) (f w : Int), r ≤ 5 → -1 ≤ mfN n r f w ∧ mfN n r f w ≤ 999 * (r : Int)
  | 0, _, _, _ => ⟨(show (-1 : Int) ≤ 0 by decide), (show (0 : Int) ≤ 0 by decide)⟩
  | r + 1, f, w, h => by
    have ih := fun f w => mfN_bd hN r f w (by omega)
    rw [mfN]
    split
    · have := ih f w
      omega
    · refine itr_bd' 5 0 (-1) (fun p b h1 h2 h3 h4 => ?_) (by omega) (by omega)
      have := ih (clr f (p : Int)) w
      have := hN.bd (5 * (4 - (r : Int)) + (p : Int)) (by omega) (by omega)
      rw [show 146 + (5 * (4 - (r : Int)) + (p : Int)) = 146 + 5 * (4 - (r : Int)) + (p : Int) by omega] at this
      split
      · split <;> omega
      · omega
theorem xr_204 {rt d L : Nat} {J : Nat → List ex_V → List ex_V → ex_H → Option ex_R} {is : List Instr} {ls st : List ex_V} {σ : ex_S} {H2 : ex_H} {a0 a1 a2 z : Int} (he : ex_cd d 204 [vR 432, vI a0, vI a1, vI a2] (SH L, σ) = some ([vI z], H2)) (hok : okN 8 st = true) : ex_xs rt J (ex_cd d) (.invokevirtual 204 :: is) ls (vI a2 :: vI a1 :: vI a0 :: vR 432 :: st) (SH L, σ) = ex_xs rt J (ex_cd d) is ls (vI z :: st) H2 := x_call1 (Or.inl rfl) rfl (sh_432 _) (Or.inl ⟨rfl, rfl⟩) (as := [vI a0, vI a1, vI a2]) rfl rfl (okN_ok hok) rfl he
theorem xr_205 {rt d L : Nat} {J : Nat → List ex_V → List ex_V → ex_H → Option ex_R} {is : List Instr} {ls st : List ex_V} {σ : ex_S} {H2 : ex_H} { z : Int} (he : ex_cd d 205 [vR 432] (SH L, σ) = some ([vI z], H2)) (hok : okN 8 st = true) : ex_xs rt J (ex_cd d) (.invokevirtual 205 :: is) ls (vR 432 :: st) (SH L, σ) = ex_xs rt J (ex_cd d) is ls (vI z :: st) H2 := x_call1 (Or.inl rfl) rfl (sh_432 _) (Or.inl ⟨rfl, rfl⟩) (as := []) rfl rfl (okN_ok hok) rfl he
theorem mf_204 : ∀ (r : Nat) {d L : Nat} {σ : ex_S} {t f w : Int}, 3 + r < d → r ≤ 5 → NI (σ 433) → t = 5 - (r : Int) → ex_cd d 204 [vR 432, vI t, vI f, vI w] (SH L, σ) = some ([vI (mfN (σ 433) r f w)], (SH L, σ))
  | 0, d, L, σ, t, f, w, hd, hr, hN, ht => by
    rw [ex_cd_eq (by omega)]
    show ex_ev (d - 1) 204 0 [vR 432, vI t, vI f, vI w, vL 0, vL 0] [] (SH L, σ) = _
    simp (disch := first | assumption | omega | ((repeat' first | exact ok_nil | apply ok_I | apply ok_R); done) | (simp (disch := first | omega | decide) only [ex_ar_same, ex_ar_diff, kM_diff, ex_u_same, ex_u_diff]; first | assumption | omega)) only [ev_204_0, ev_204_1, ev_204_2, ev_204_4, ev_204_5, gf_432_0, ld_433, x_fall, x_goto, x_imul, x_push, x_ret1, xc_236, xl_a0, xl_i1, xl_i2, xl_i3, xl_i4, xl_i5, xn_5, xt_i4, xt_i5, y_cmp_ge_f, y_cmp_ge_t, y_cmp_ne_f, y_cmp_ne_t, y_iadd, y_iand, y_ishl, y_ishr, y_ixor, i_wr_id, kM_diff, Int.reduceToNat, ex_ar_same, ex_ar_ar, ex_ar_diff, ex_u_same, ex_u_diff, b2i_t, b2i_f, ex_div_nn, ex_rem_nn, Int.toNat_zero, Int.toNat_one, Int.reduceAdd, Int.reduceSub, Int.reduceMul, Int.reduceNeg]
    rfl
  | r + 1, d, L, σ, t, f, w, hd, hr, hN, ht => by
    have row : ∀ {rt : Nat} {J : Nat → List ex_V → List ex_V → ex_H → Option ex_R} {is : List Instr} {ls st : List ex_V} {t' f' w' : Int}, t' = 5 - (r : Int) → okN 8 st = true → ex_xs rt J (ex_cd (d - 1)) (.invokevirtual 204 :: is) ls (vI w' :: vI f' :: vI t' :: vR 432 :: st) (SH L, σ) = ex_xs rt J (ex_cd (d - 1)) is ls (vI (mfN (σ 433) r f' w') :: st) (SH L, σ) := fun ht' hok => xr_204 (mf_204 r (by omega) (by omega) hN ht') hok
    rw [ex_cd_eq (by omega)]
    show ex_ev (d - 1) 204 0 [vR 432, vI t, vI f, vI w, vL 0, vL 0] [] (SH L, σ) = _
    rw [mfN]
    have et : 4 - (r : Int) = t := by omega
    rw [et]
    by_cases q : t = w
    · rw [if_pos q]
      simp (disch := first | assumption | omega | ((repeat' first | exact ok_nil | apply ok_I | apply ok_R); done) | (simp (disch := first | omega | decide) only [ex_ar_same, ex_ar_diff, kM_diff, ex_u_same, ex_u_diff]; first | assumption | omega)) only [ev_204_0, ev_204_1, ev_204_2, ev_204_4, ev_204_5, gf_432_0, ld_433, row, x_fall, x_goto, x_imul, x_push, x_ret1, xc_236, xl_a0, xl_i1, xl_i2, xl_i3, xl_i4, xl_i5, xn_5, xt_i4, xt_i5, y_cmp_ge_f, y_cmp_ge_t, y_cmp_ne_f, y_cmp_ne_t, y_iadd, y_iand, y_ishl, y_ishr, y_ixor, i_wr_id, kM_diff, Int.reduceToNat, ex_ar_same, ex_ar_ar, ex_ar_diff, ex_u_same, ex_u_diff, b2i_t, b2i_f, ex_div_nn, ex_rem_nn, Int.toNat_zero, Int.toNat_one, Int.reduceAdd, Int.reduceSub, Int.reduceMul, Int.reduceNeg]
    · rw [if_neg q]
      have lp : ∀ p : Nat, p ≤ 5 → ∀ b : Int, -1 ≤ b → b ≤ 5000 → ex_ev (d - 1) 204 3 [vR 432, vI t, vI f, vI w, vI b, vI (p : Int)] [] (SH L, σ) = some ([vI (itr (fun p b => if bit1 f (p : Int) then (if σ 433 (146 + 5 * t + (p : Int)) + mfN (σ 433) r (clr f (p : Int)) w ≤ b then b else σ 433 (146 + 5 * t + (p : Int)) + mfN (σ 433) r (clr f (p : Int)) w) else b) p (5 - p) b)], (SH L, σ)) := by
        refine down ?_ ?_
        · intro b h1 h2
          rw [ev_204_3]
          simp (disch := first | assumption | omega | ((repeat' first | exact ok_nil | apply ok_I | apply ok_R); done) | (simp (disch := first | omega | decide) only [ex_ar_same, ex_ar_diff, kM_diff, ex_u_same, ex_u_diff]; first | assumption | omega)) only [ev_204_0, ev_204_1, ev_204_2, ev_204_4, ev_204_5, gf_432_0, ld_433, x_fall, x_goto, x_imul, x_push, x_ret1, xc_236, xl_a0, xl_i1, xl_i2, xl_i3, xl_i4, xl_i5, xn_5, xt_i4, xt_i5, y_cmp_ge_f, y_cmp_ge_t, y_cmp_ne_f, y_cmp_ne_t, y_iadd, y_iand, y_ishl, y_ishr, y_ixor, i_wr_id, kM_diff, Int.reduceToNat, ex_ar_same, ex_ar_ar, ex_ar_diff, ex_u_same, ex_u_diff, b2i_t, b2i_f, ex_div_nn, ex_rem_nn, Int.toNat_zero, Int.toNat_one, Int.reduceAdd, Int.reduceSub, Int.reduceMul, Int.reduceNeg]
          rfl
        · intro p hp ih b h1 h2
          have m := mfN_bd hN r (clr f (p : Int)) w (by omega)
          have bd := hN.bd (5 * t + (p : Int)) (by omega) (by omega)
          rw [show 146 + (5 * t + (p : Int)) = 146 + 5 * t + (p : Int) by omega] at bd
          rw [show 5 - p = (5 - (p + 1)) + 1 by omega, itr_succ_last]
          unfold clr at m ih ⊢
          rw [ev_204_3]
          by_cases q2 : bit1 f (p : Int)
          · rw [if_pos q2]
            simp (disch := first | assumption | omega | ((repeat' first | exact ok_nil | apply ok_I | apply ok_R); done) | (simp (disch := first | omega | decide) only [ex_ar_same, ex_ar_diff, kM_diff, ex_u_same, ex_u_diff]; first | assumption | omega)) only [ev_204_0, ev_204_1, ev_204_2, ev_204_4, ev_204_5, gf_432_0, ld_433, row, x_fall, x_goto, x_imul, x_push, x_ret1, xc_236, xl_a0, xl_i1, xl_i2, xl_i3, xl_i4, xl_i5, xn_5, xt_i4, xt_i5, y_cmp_ge_f, y_cmp_ge_t, y_cmp_ne_f, y_cmp_ne_t, y_iadd, y_iand, y_ishl, y_ishr, y_ixor, i_wr_id, kM_diff, Int.reduceToNat, ex_ar_same, ex_ar_ar, ex_ar_diff, ex_u_same, ex_u_diff, b2i_t, b2i_f, ex_div_nn, ex_rem_nn, Int.toNat_zero, Int.toNat_one, Int.reduceAdd, Int.reduceSub, Int.reduceMul, Int.reduceNeg]
            rw [nat_cast_succ]
            refine ih _ ?_ ?_
            · split <;> omega
            · split <;> omega
          · rw [if_neg q2]
            simp (disch := first | assumption | omega | ((repeat' first | exact ok_nil | apply ok_I | apply ok_R); done) | (simp (disch := first | omega | decide) only [ex_ar_same, ex_ar_diff, kM_diff, ex_u_same, ex_u_diff]; first | assumption | omega)) only [ev_204_0, ev_204_1, ev_204_2, ev_204_4, ev_204_5, gf_432_0, ld_433, row, x_fall, x_goto, x_imul, x_push, x_ret1, xc_236, xl_a0, xl_i1, xl_i2, xl_i3, xl_i4, xl_i5, xn_5, xt_i4, xt_i5, y_cmp_ge_f, y_cmp_ge_t, y_cmp_ne_f, y_cmp_ne_t, y_iadd, y_iand, y_ishl, y_ishr, y_ixor, i_wr_id, kM_diff, Int.reduceToNat, ex_ar_same, ex_ar_ar, ex_ar_diff, ex_u_same, ex_u_diff, b2i_t, b2i_f, ex_div_nn, ex_rem_nn, Int.toNat_zero, Int.toNat_one, Int.reduceAdd, Int.reduceSub, Int.reduceMul, Int.reduceNeg]
            rw [nat_cast_succ]
            exact ih b h1 h2
      simp (disch := first | assumption | omega | ((repeat' first | exact ok_nil | apply ok_I | apply ok_R); done) | (simp (disch := first | omega | decide) only [ex_ar_same, ex_ar_diff, kM_diff, ex_u_same, ex_u_diff]; first | assumption | omega)) only [ev_204_0, ev_204_1, ev_204_2, ev_204_4, ev_204_5, gf_432_0, ld_433, x_fall, x_goto, x_imul, x_push, x_ret1, xc_236, xl_a0, xl_i1, xl_i2, xl_i3, xl_i4, xl_i5, xn_5, xt_i4, xt_i5, y_cmp_ge_f, y_cmp_ge_t, y_cmp_ne_f, y_cmp_ne_t, y_iadd, y_iand, y_ishl, y_ishr, y_ixor, i_wr_id, kM_diff, Int.reduceToNat, ex_ar_same, ex_ar_ar, ex_ar_diff, ex_u_same, ex_u_diff, b2i_t, b2i_f, ex_div_nn, ex_rem_nn, Int.toNat_zero, Int.toNat_one, Int.reduceAdd, Int.reduceSub, Int.reduceMul, Int.reduceNeg]
      exact lp 0 (by omega) (-1) (by omega) (by omega)
