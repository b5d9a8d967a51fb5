/-! the class: plans -/
theorem xr_52 {rt d L : Nat} {J : Nat → List ex_V → List ex_V → ex_H → Option ex_R} {is : List Instr} {ls st : List ex_V} {σ : ex_S} {H2 : ex_H} {a b : Int} (he : ex_cd d 52 [vR 47, vR 5, vI a, vI b] (SH L, σ) = some ([], H2)) (hok : okN 8 st = true) : ex_xs rt J (ex_cd d) (.invokevirtual 52 :: is) ls (vI b :: vI a :: vR 5 :: vR 47 :: st) (SH L, σ) = ex_xs rt J (ex_cd d) is ls st H2 := x_call1 (Or.inl rfl) rfl (sh_47 _) (Or.inl ⟨rfl, rfl⟩) (as := [vR 5, vI a, vI b]) rfl rfl (okN_ok hok) rfl he
theorem xr_51 {rt d L : Nat} {J : Nat → List ex_V → List ex_V → ex_H → Option ex_R} {is : List Instr} {ls st : List ex_V} {σ : ex_S} {H2 : ex_H} {r : Int} (he : ex_cd d 51 [vR 47, vR 5] (SH L, σ) = some ([vI r], H2)) (hok : okN 8 st = true) : ex_xs rt J (ex_cd d) (.invokevirtual 51 :: is) ls (vR 5 :: vR 47 :: st) (SH L, σ) = ex_xs rt J (ex_cd d) is ls (vI r :: st) H2 := x_call1 (Or.inl rfl) rfl (sh_47 _) (Or.inl ⟨rfl, rfl⟩) (as := [vR 5]) rfl rfl (okN_ok hok) rfl he
theorem cpy_48 {rt : Nat} {J : Nat → List ex_V → List ex_V → ex_H → Option ex_R} {C : Nat → List ex_V → ex_H → Option ex_R} {is : List Instr} {ls : List ex_V} {L : Nat} {σ : ex_S} : ex_xs rt J C (.invokedynamic 0 :: is) ls [vI 7, vI 0, vR 48, vI 0, vR 49] (SH L, σ) = ex_xs rt J C is ls [] (SH L, ex_ar σ 48 (ex_cpy (σ 49) (σ 48) 0 0 7)) := x_cpy (sh_49 L) (sh_48 L) (by decide) (by decide) (by decide) (by decide) (by decide) (by decide) (by decide) rfl
theorem sp_239 {d : Nat} (hd : 0 < d) {L : Nat} {σ : ex_S} : ex_cd d 239 [vR 50, vI 0] (SH L, σ) = some ([], (SH L, ex_ar σ 50 (fgF (σ 50) 5))) := by
  rw [ex_cd_eq (by omega)]
  show ex_ev (d - 1) 239 0 [vR 50, vI 0, vL 0, vL 0] [] (SH L, σ) = _
  have lp : ∀ j : Nat, j ≤ 5 → ex_ev (d - 1) 239 1 [vR 50, vI 0, vI (j : Int), vI 5] [] (SH L, ex_ar σ 50 (fgF (σ 50) j)) = some ([], (SH L, ex_ar σ 50 (fgF (σ 50) 5))) := by
    refine down ?_ ?_
    · rw [ev_239_1]
      simp (disch := first | assumption | omega | ((repeat' first | exact ok_nil | apply ok_I | apply ok_R); done) | (simp (disch := first | omega | decide) only [ex_ar_same, ex_ar_diff, kM_diff, ex_u_same, ex_u_diff]; first | assumption | omega)) only [ev_239_0, ev_239_2, ln_50, sd_50, x_fall, x_goto, x_push, x_ret0, xl_a0, xl_i1, xl_i2, xl_i3, xn_2, xt_i2, xt_i3, y_cmp_ge_f, y_cmp_ge_t, i_wr_id, kM_diff, Int.reduceToNat, ex_ar_same, ex_ar_ar, ex_ar_diff, ex_u_same, ex_u_diff, b2i_t, b2i_f, ex_div_nn, ex_rem_nn, Int.toNat_zero, Int.toNat_one, Int.reduceAdd, Int.reduceSub, Int.reduceMul, Int.reduceNeg, kC_ne, fC_ne]
    · intro j hj ih
      rw [ev_239_1]
      simp (disch := first | assumption | omega | ((repeat' first | exact ok_nil | apply ok_I | apply ok_R); done) | (simp (disch := first | omega | decide) only [ex_ar_same, ex_ar_diff, kM_diff, ex_u_same, ex_u_diff]; first | assumption | omega)) only [ev_239_0, ev_239_2, ln_50, sd_50, x_fall, x_goto, x_push, x_ret0, xl_a0, xl_i1, xl_i2, xl_i3, xn_2, xt_i2, xt_i3, y_cmp_ge_f, y_cmp_ge_t, i_wr_id, kM_diff, Int.reduceToNat, ex_ar_same, ex_ar_ar, ex_ar_diff, ex_u_same, ex_u_diff, b2i_t, b2i_f, ex_div_nn, ex_rem_nn, Int.toNat_zero, Int.toNat_one, Int.reduceAdd, Int.reduceSub, Int.reduceMul, Int.reduceNeg, kC_ne, fC_ne]
      rw [fgF_s, nat_cast_succ]
      exact ih
  simp (disch := first | assumption | omega | ((repeat' first | exact ok_nil | apply ok_I | apply ok_R); done) | (simp (disch := first | omega | decide) only [ex_ar_same, ex_ar_diff, kM_diff, ex_u_same, ex_u_diff]; first | assumption | omega)) only [ev_239_0, ev_239_2, ln_50, sd_50, x_fall, x_goto, x_push, x_ret0, xl_a0, xl_i1, xl_i2, xl_i3, xn_2, xt_i2, xt_i3, y_cmp_ge_f, y_cmp_ge_t, i_wr_id, kM_diff, Int.reduceToNat, ex_ar_same, ex_ar_ar, ex_ar_diff, ex_u_same, ex_u_diff, b2i_t, b2i_f, ex_div_nn, ex_rem_nn, Int.toNat_zero, Int.toNat_one, Int.reduceAdd, Int.reduceSub, Int.reduceMul, Int.reduceNeg, kC_ne, fC_ne]
  have := lp 0 (by omega)
  rw [fgF_0, ex_ar_id] at this
  exact this
theorem xc_239 {rt d : Nat} {J : Nat → List ex_V → List ex_V → ex_H → Option ex_R} {is : List Instr} {ls st : List ex_V} {L : Nat} {σ : ex_S} (hd : 0 < d) (hok : okN 8 st = true) : ex_xs rt J (ex_cd d) (.invokestatic 239 :: is) ls (vI 0 :: vR 50 :: st) (SH L, σ) = ex_xs rt J (ex_cd d) is ls (st) (SH L, ex_ar σ 50 (fgF (σ 50) 5)) := x_call0 (as := [vR 50, vI 0]) rfl rfl rfl (okN_ok hok) rfl (sp_239 hd )
theorem sp_53 {d : Nat} (hd : 1 < d) {L : Nat} {σ : ex_S} {n : Int → Int} {k : Nat} {l : Int} (hD : RD5 σ n) (hN : NI n) (hk : (k : Int) < n 7) (hl : σ 49 (k : Int) = l) (l0 : 0 ≤ l) (l1 : l < 5) : ex_cd d 53 [vR 47, vR 5, vI (k : Int)] (SH L, σ) = some ([vI (mbR n (σ 49) (k : Int) l k).2], (SH L, σ)) := by
  rw [ex_cd_eq (by omega)]
  show ex_ev (d - 1) 53 0 [vR 47, vR 5, vI (k : Int), vL 0, vL 0, vL 0, vL 0] [] (SH L, σ) = _
  have b1 := hN.b1
  have b7 := hN.b7
  have hR := hD.g
  have ak := hN.ar k (by omega) hk
  have ek := hD.ev k (by omega) hk
  have ez : ∀ z : Int, n (91 + 8 * 3 + z) = n (115 + z) := fun z => by rw [show 91 + 8 * 3 + z = 115 + z by omega]
  have lp : ∀ i : Nat, i ≤ k → ∀ (y : Int) (w : ex_V), (mbR n (σ 49) (k : Int) l i).2 = y → ex_ev (d - 1) 53 1 [vR 47, vR 5, vI (k : Int), vI (n (115 + n (139 + (k : Int)))), vI y, vI (i : Int), w] [] (SH L, σ) = some ([vI (mbR n (σ 49) (k : Int) l k).2], (SH L, σ)) := by
    refine down ?_ ?_
    · intro y w hy
      rw [hy, ev_53_1]
      simp (disch := first | assumption | omega | ((repeat' first | exact ok_nil | apply ok_I | apply ok_R); done) | (simp (disch := first | omega | decide) only [ex_ar_same, ex_ar_diff, kM_diff, ex_u_same, ex_u_diff]; first | assumption | omega)) only [ev_53_0, ev_53_2, ev_53_3, ev_53_4, ev_53_5, ev_53_6, gf_47_1, gf_5_0, gf_5_5, ld_27, ld_49, x_fall, x_goto, x_push, x_ret1, xc_17_35, xc_17_6, xl_a0, xl_a1, xl_i2, xl_i3, xl_i4, xl_i5, xl_i6, xn_5, xt_i3, xt_i4, xt_i5, xt_i6, y_cmp_ge_f, y_cmp_ge_t, y_cmp_le_f, y_cmp_le_t, y_cmp_ne_f, y_cmp_ne_t, y_iadd, y_if_eq_f, y_if_eq_t, i_wr_id, kM_diff, Int.reduceToNat, ex_ar_same, ex_ar_ar, ex_ar_diff, ex_u_same, ex_u_diff, b2i_t, b2i_f, ex_div_nn, ex_rem_nn, Int.toNat_zero, Int.toNat_one, Int.reduceAdd, Int.reduceSub, Int.reduceMul, Int.reduceNeg, kC_ne, fC_ne]
    · intro i hi ih y w hy
      have ai := hN.ar i (by omega) (by omega)
      have ei := hD.ev i (by omega) (by omega)
      have b := mbR_bd hN (σ 49) (show 0 ≤ (k : Int) by omega) hk l0 l1 i (by omega)
      rw [hy] at b
      have hs : (mbR n (σ 49) (k : Int) l (i + 1)).2 = if σ 49 (i : Int) = l then y + (if n (115 + n (139 + (i : Int))) < n (115 + n (139 + (k : Int))) then 2 else 0) else y := by
        rw [mbR]
        split
        · dsimp only; rw [hy]
        · exact hy
      rw [ev_53_1]
      by_cases q1 : σ 49 (i : Int) = l
      · rw [if_pos q1] at hs
        by_cases q2 : n (115 + n (139 + (i : Int))) < n (115 + n (139 + (k : Int)))
        · rw [if_pos q2] at hs
          simp (disch := first | assumption | omega | ((repeat' first | exact ok_nil | apply ok_I | apply ok_R); done) | (simp (disch := first | omega | decide) only [ex_ar_same, ex_ar_diff, kM_diff, ex_u_same, ex_u_diff]; first | assumption | omega)) only [ei, ev_53_0, ev_53_2, ev_53_3, ev_53_4, ev_53_5, ev_53_6, ez, gf_47_1, gf_5_0, gf_5_5, hl, ld_27, ld_49, x_fall, x_goto, x_push, x_ret1, xc_17_35, xc_17_6, xl_a0, xl_a1, xl_i2, xl_i3, xl_i4, xl_i5, xl_i6, xn_5, xt_i3, xt_i4, xt_i5, xt_i6, y_cmp_ge_f, y_cmp_ge_t, y_cmp_le_f, y_cmp_le_t, y_cmp_ne_f, y_cmp_ne_t, y_iadd, y_if_eq_f, y_if_eq_t, i_wr_id, kM_diff, Int.reduceToNat, ex_ar_same, ex_ar_ar, ex_ar_diff, ex_u_same, ex_u_diff, b2i_t, b2i_f, ex_div_nn, ex_rem_nn, Int.toNat_zero, Int.toNat_one, Int.reduceAdd, Int.reduceSub, Int.reduceMul, Int.reduceNeg, kC_ne, fC_ne]
          rw [nat_cast_succ]
          exact ih _ _ hs
        · rw [if_neg q2] at hs
          simp (disch := first | assumption | omega | ((repeat' first | exact ok_nil | apply ok_I | apply ok_R); done) | (simp (disch := first | omega | decide) only [ex_ar_same, ex_ar_diff, kM_diff, ex_u_same, ex_u_diff]; first | assumption | omega)) only [ei, ev_53_0, ev_53_2, ev_53_3, ev_53_4, ev_53_5, ev_53_6, ez, gf_47_1, gf_5_0, gf_5_5, hl, ld_27, ld_49, x_fall, x_goto, x_push, x_ret1, xc_17_35, xc_17_6, xl_a0, xl_a1, xl_i2, xl_i3, xl_i4, xl_i5, xl_i6, xn_5, xt_i3, xt_i4, xt_i5, xt_i6, y_cmp_ge_f, y_cmp_ge_t, y_cmp_le_f, y_cmp_le_t, y_cmp_ne_f, y_cmp_ne_t, y_iadd, y_if_eq_f, y_if_eq_t, i_wr_id, kM_diff, Int.reduceToNat, ex_ar_same, ex_ar_ar, ex_ar_diff, ex_u_same, ex_u_diff, b2i_t, b2i_f, ex_div_nn, ex_rem_nn, Int.toNat_zero, Int.toNat_one, Int.reduceAdd, Int.reduceSub, Int.reduceMul, Int.reduceNeg, kC_ne, fC_ne]
          rw [nat_cast_succ]
          exact ih _ _ hs
      · rw [if_neg q1] at hs
        simp (disch := first | assumption | omega | ((repeat' first | exact ok_nil | apply ok_I | apply ok_R); done) | (simp (disch := first | omega | decide) only [ex_ar_same, ex_ar_diff, kM_diff, ex_u_same, ex_u_diff]; first | assumption | omega)) only [ei, ev_53_0, ev_53_2, ev_53_3, ev_53_4, ev_53_5, ev_53_6, ez, gf_47_1, gf_5_0, gf_5_5, hl, ld_27, ld_49, x_fall, x_goto, x_push, x_ret1, xc_17_35, xc_17_6, xl_a0, xl_a1, xl_i2, xl_i3, xl_i4, xl_i5, xl_i6, xn_5, xt_i3, xt_i4, xt_i5, xt_i6, y_cmp_ge_f, y_cmp_ge_t, y_cmp_le_f, y_cmp_le_t, y_cmp_ne_f, y_cmp_ne_t, y_iadd, y_if_eq_f, y_if_eq_t, i_wr_id, kM_diff, Int.reduceToNat, ex_ar_same, ex_ar_ar, ex_ar_diff, ex_u_same, ex_u_diff, b2i_t, b2i_f, ex_div_nn, ex_rem_nn, Int.toNat_zero, Int.toNat_one, Int.reduceAdd, Int.reduceSub, Int.reduceMul, Int.reduceNeg, kC_ne, fC_ne]
        rw [nat_cast_succ]
        exact ih _ _ (by rw [hs]; omega)
  simp (disch := first | assumption | omega | ((repeat' first | exact ok_nil | apply ok_I | apply ok_R); done) | (simp (disch := first | omega | decide) only [ex_ar_same, ex_ar_diff, kM_diff, ex_u_same, ex_u_diff]; first | assumption | omega)) only [ek, ev_53_0, ev_53_2, ev_53_3, ev_53_4, ev_53_5, ev_53_6, ez, gf_47_1, gf_5_0, gf_5_5, ld_27, ld_49, x_fall, x_goto, x_push, x_ret1, xc_17_35, xc_17_6, xl_a0, xl_a1, xl_i2, xl_i3, xl_i4, xl_i5, xl_i6, xn_5, xt_i3, xt_i4, xt_i5, xt_i6, y_cmp_ge_f, y_cmp_ge_t, y_cmp_le_f, y_cmp_le_t, y_cmp_ne_f, y_cmp_ne_t, y_iadd, y_if_eq_f, y_if_eq_t, i_wr_id, kM_diff, Int.reduceToNat, ex_ar_same, ex_ar_ar, ex_ar_diff, ex_u_same, ex_u_diff, b2i_t, b2i_f, ex_div_nn, ex_rem_nn, Int.toNat_zero, Int.toNat_one, Int.reduceAdd, Int.reduceSub, Int.reduceMul, Int.reduceNeg, kC_ne, fC_ne]
  exact lp 0 (by omega) _ _ rfl
theorem xc_53 {rt d : Nat} {J : Nat → List ex_V → List ex_V → ex_H → Option ex_R} {is : List Instr} {ls st : List ex_V} {L : Nat} {σ : ex_S} {n : Int → Int} {k : Nat} {l : Int} (hD : RD5 σ n) (hN : NI n) (hk : (k : Int) < n 7) (hl : σ 49 (k : Int) = l) (l0 : 0 ≤ l) (l1 : l < 5) (hd : 1 < d) (hok : okN 8 st = true) : ex_xs rt J (ex_cd d) (.invokevirtual 53 :: is) ls (vI (k : Int) :: vR 5 :: vR 47 :: st) (SH L, σ) = ex_xs rt J (ex_cd d) is ls (vI (mbR n (σ 49) (k : Int) l k).2 :: st) (SH L, σ) := x_call1 (Or.inl rfl) rfl (sh_47 _) (Or.inl ⟨rfl, rfl⟩) (as := [vR 5, vI (k : Int)]) rfl rfl (okN_ok hok) rfl (sp_53 hd hD hN hk hl l0 l1)
def flN (n f : Int → Int) (l : Int) : Nat → Int
  | 0 => 0
  | i + 1 => flN n f l i + (if f (i : Int) = l then n (91 + n (139 + (i : Int))) else 0)
theorem mbR_fl (n f : Int → Int) (k l : Int) : ∀ i : Nat, (mbR n f k l i).1 = n (16 + l) - n (91 + n (139 + k)) - flN n f l i
  | 0 => by show n (16 + l) - n (91 + n (139 + k)) = n (16 + l) - n (91 + n (139 + k)) - 0; omega
  | i + 1 => by
    have ih := mbR_fl n f k l i
    rw [mbR, flN]
    by_cases z : f (i : Int) = l
    · rw [if_pos z, if_pos z]; dsimp only; omega
    · rw [if_neg z, if_neg z]; omega
theorem flN_cg {n f f' : Int → Int} (l : Int) : ∀ i : Nat, (∀ j : Int, 0 ≤ j → j < (i : Int) → f' j = f j) → flN n f' l i = flN n f l i
  | 0, _ => rfl
  | i + 1, h => by rw [flN, flN, flN_cg l i (fun j h1 h2 => h j h1 (by omega)), h i (by omega) (by omega)]
theorem flN_bd {n : Int → Int} (hN : NI n) (f : Int → Int) (l : Int) : ∀ i : Nat, (i : Int) ≤ n 7 → 0 ≤ flN n f l i ∧ flN n f l i ≤ 9 * (i : Int)
  | 0, _ => ⟨Int.le_refl 0, Int.le_refl 0⟩
  | i + 1, h => by
    have ih := flN_bd hN f l i (by omega)
    have a := hN.ar i (by omega) (by omega)
    have b1 := hN.b1
    have := hN.c0 (n (139 + (i : Int))) (by omega) (by omega)
    rw [flN]
    split <;> omega
/-- what a try leaves -/
def PLE (n : Int → Int) (f : Int → Int) (k : Nat) (σ τ : ex_S) (P : Int × (Int → Int) → Int × (Int → Int)) : Prop := (∀ a, a < 47 ∨ 50 < a → τ a = σ a) ∧ (∀ j : Int, 0 ≤ j → j < (k : Int) → τ 49 j = f j) ∧ (∀ l : Int, 0 ≤ l → l < n 0 → τ 50 l = σ 50 l) ∧ (τ 47 3 = -1 ∨ 0 ≤ τ 47 3) ∧ (∀ b : Int → Int, (∀ i : Int, 0 ≤ i → i < n 7 → σ 48 i = b i) → τ 47 3 = (P (σ 47 3, b)).1 ∧ ∀ i : Int, 0 ≤ i → i < n 7 → τ 48 i = (P (σ 47 3, b)).2 i)
def PLS (n : Int → Int) (r : Nat) : Prop := ∀ (d L : Nat) (σ : ex_S) (k : Nat) (s : Int) (f : Int → Int), 5 + r < d → RD5 σ n → ((k + r : Nat) : Int) = n 7 → 0 ≤ s → s ≤ 14 * (k : Int) → (∀ j : Int, 0 ≤ j → j < (k : Int) → σ 49 j = f j) → (∀ l : Int, 0 ≤ l → l < n 0 → σ 50 l = flN n f l k) → (σ 47 3 = -1 ∨ 0 ≤ σ 47 3) → ∃ τ, ex_cd d 52 [vR 47, vR 5, vI (k : Int), vI s] (SH L, σ) = some ([], (SH L, τ)) ∧ PLE n f k σ τ (fun a => if a.1 < 0 ∨ s < a.1 then plP n r k s f a else a)
theorem as_52 {n : Int → Int} (hN : NI n) : ∀ r : Nat, PLS n r
  | 0 => by
    intro d L σ k s f hd hD hk s0 s1 hf hfl hle
    have i7 := hD.i7
    have b7 := hN.b7
    rw [ex_cd_eq (by omega)]
    show ∃ τ, ex_ev (d - 1) 52 0 [vR 47, vR 5, vI (k : Int), vI s, vL 0, vL 0, vL 0, vL 0] [] (SH L, σ) = _ ∧ _
    by_cases z : σ 47 3 = -1 ∨ s < σ 47 3
    · refine ⟨ex_ar (ex_ar σ 47 (ex_u (σ 47) 3 s)) 48 (ex_cpy (σ 49) (σ 48) 0 0 7), ?_, fun a ha => by rw [ex_ar_diff _ _ _ (by omega), ex_ar_diff _ _ _ (by omega)], fun j j0 j1 => by rw [ex_ar_diff _ _ _ (by decide), ex_ar_diff _ _ _ (by decide)]; exact hf j j0 j1, fun l _ _ => by rw [ex_ar_diff _ _ _ (by decide), ex_ar_diff _ _ _ (by decide)], ?_, fun b hb => ?_⟩
      · rcases z with z | z
        · simp (disch := first | assumption | omega | ((repeat' first | exact ok_nil | apply ok_I | apply ok_R); done) | (simp (disch := first | omega | decide) only [ex_ar_same, ex_ar_diff, kM_diff, ex_u_same, ex_u_diff]; first | assumption | omega)) only [cpy_48, ev_52_0, ev_52_1, ev_52_2, ev_52_4, ev_52_5, ev_52_6, gf_35_0, gf_35_3, gf_47_0, gf_47_1, gf_47_2, gf_47_3, gf_5_0, gf_5_5, gf_5_7, gf_6_0, gf_6_3, i7, ld_27, ld_37, ld_48, ld_49, ld_50, ld_8, ln_27, ln_37, ln_48, ln_49, ln_50, ln_8, pf_47_3, sd_27, sd_37, sd_48, sd_49, sd_50, sd_8, x_dup2, x_fall, x_goto, x_push, x_ret0, xc_17_35, xc_17_6, xc_22_35, xc_22_6, xc_53, xl_a0, xl_a1, xl_a4, xl_i2, xl_i3, xl_i5, xl_i6, xl_i7, xn_7, xt_a4, xt_i5, xt_i6, xt_i7, y_cmp_eq_f, y_cmp_eq_t, y_cmp_ge_f, y_cmp_ge_t, y_cmp_gt_f, y_cmp_gt_t, y_cmp_lt_f, y_cmp_lt_t, y_iadd, y_if_ne_f, y_if_ne_t, y_isub, i_wr_id, kM_diff, Int.reduceToNat, ex_ar_same, ex_ar_ar, ex_ar_diff, ex_u_same, ex_u_diff, b2i_t, b2i_f, ex_div_nn, ex_rem_nn, Int.toNat_zero, Int.toNat_one, Int.reduceAdd, Int.reduceSub, Int.reduceMul, Int.reduceNeg, kC_ne, fC_ne]
        · rcases hle with y | y
          · exfalso; omega
          · simp (disch := first | assumption | omega | ((repeat' first | exact ok_nil | apply ok_I | apply ok_R); done) | (simp (disch := first | omega | decide) only [ex_ar_same, ex_ar_diff, kM_diff, ex_u_same, ex_u_diff]; first | assumption | omega)) only [cpy_48, ev_52_0, ev_52_1, ev_52_2, ev_52_4, ev_52_5, ev_52_6, gf_35_0, gf_35_3, gf_47_0, gf_47_1, gf_47_2, gf_47_3, gf_5_0, gf_5_5, gf_5_7, gf_6_0, gf_6_3, i7, ld_27, ld_37, ld_48, ld_49, ld_50, ld_8, ln_27, ln_37, ln_48, ln_49, ln_50, ln_8, pf_47_3, sd_27, sd_37, sd_48, sd_49, sd_50, sd_8, x_dup2, x_fall, x_goto, x_push, x_ret0, xc_17_35, xc_17_6, xc_22_35, xc_22_6, xc_53, xl_a0, xl_a1, xl_a4, xl_i2, xl_i3, xl_i5, xl_i6, xl_i7, xn_7, xt_a4, xt_i5, xt_i6, xt_i7, y_cmp_eq_f, y_cmp_eq_t, y_cmp_ge_f, y_cmp_ge_t, y_cmp_gt_f, y_cmp_gt_t, y_cmp_lt_f, y_cmp_lt_t, y_iadd, y_if_ne_f, y_if_ne_t, y_isub, i_wr_id, kM_diff, Int.reduceToNat, ex_ar_same, ex_ar_ar, ex_ar_diff, ex_u_same, ex_u_diff, b2i_t, b2i_f, ex_div_nn, ex_rem_nn, Int.toNat_zero, Int.toNat_one, Int.reduceAdd, Int.reduceSub, Int.reduceMul, Int.reduceNeg, kC_ne, fC_ne]
      · rw [ex_ar_diff _ _ _ (by decide), ex_ar_same, ex_u_same]; exact Or.inr s0
      · dsimp only
        rw [if_pos (by omega), ex_ar_diff _ _ _ (by decide), ex_ar_same, ex_u_same, plP]
        refine ⟨rfl, fun i i0 i1 => ?_⟩
        dsimp only
        rw [if_pos (by omega), ex_ar_same]
        show (if _ then _ else _) = _
        rw [if_pos (by omega), show 0 + (i - 0) = i by omega]
        exact hf i i0 (by omega)
    · refine ⟨σ, ?_, fun _ _ => rfl, hf, fun _ _ _ => rfl, hle, fun b hb => ?_⟩
      · simp (disch := first | assumption | omega | ((repeat' first | exact ok_nil | apply ok_I | apply ok_R); done) | (simp (disch := first | omega | decide) only [ex_ar_same, ex_ar_diff, kM_diff, ex_u_same, ex_u_diff]; first | assumption | omega)) only [cpy_48, ev_52_0, ev_52_1, ev_52_2, ev_52_4, ev_52_5, ev_52_6, gf_35_0, gf_35_3, gf_47_0, gf_47_1, gf_47_2, gf_47_3, gf_5_0, gf_5_5, gf_5_7, gf_6_0, gf_6_3, i7, ld_27, ld_37, ld_48, ld_49, ld_50, ld_8, ln_27, ln_37, ln_48, ln_49, ln_50, ln_8, pf_47_3, sd_27, sd_37, sd_48, sd_49, sd_50, sd_8, x_dup2, x_fall, x_goto, x_push, x_ret0, xc_17_35, xc_17_6, xc_22_35, xc_22_6, xc_53, xl_a0, xl_a1, xl_a4, xl_i2, xl_i3, xl_i5, xl_i6, xl_i7, xn_7, xt_a4, xt_i5, xt_i6, xt_i7, y_cmp_eq_f, y_cmp_eq_t, y_cmp_ge_f, y_cmp_ge_t, y_cmp_gt_f, y_cmp_gt_t, y_cmp_lt_f, y_cmp_lt_t, y_iadd, y_if_ne_f, y_if_ne_t, y_isub, i_wr_id, kM_diff, Int.reduceToNat, ex_ar_same, ex_ar_ar, ex_ar_diff, ex_u_same, ex_u_diff, b2i_t, b2i_f, ex_div_nn, ex_rem_nn, Int.toNat_zero, Int.toNat_one, Int.reduceAdd, Int.reduceSub, Int.reduceMul, Int.reduceNeg, kC_ne, fC_ne]
      · dsimp only
        rw [if_neg (by omega)]
        exact ⟨rfl, hb⟩
  | r + 1 => by
    have ih : PLS n r := as_52 hN r
    unfold PLS at ih
    intro d L σ k s f hd hD hk s0 s1 hf hfl hle
    have i7 := hD.i7
    have a0 := hN.a0
    have b0 := hN.b0
    have b1 := hN.b1
    have b7 := hN.b7
    have ak := hN.ar k (by omega) (by omega)
    have ek := hD.ev k (by omega) (by omega)
    have c0 := hN.c0 (n (139 + (k : Int))) (by omega) (by omega)
    have hR := hD.g
    have la := hR.la
    have ez : ∀ z : Int, n (91 + 8 * 0 + z) = n (91 + z) := fun z => by rw [show 91 + 8 * 0 + z = 91 + z by omega]
    have ez' : ∀ z : Int, n (91 + 0 + z) = n (91 + z) := fun z => by rw [show 91 + 0 + z = 91 + z by omega]
    rw [ex_cd_eq (by omega)]
    show ∃ τ, ex_ev (d - 1) 52 0 [vR 47, vR 5, vI (k : Int), vI s, vL 0, vL 0, vL 0, vL 0] [] (SH L, σ) = _ ∧ _
    by_cases z : σ 47 3 = -1 ∨ s < σ 47 3
    · have lp : ∀ l : Nat, l ≤ (n 0).toNat → ∀ τ : ex_S, (∀ a, a < 47 ∨ 50 < a → τ a = σ a) → (∀ j : Int, 0 ≤ j → j < (k : Int) → τ 49 j = f j) → (∀ x : Int, 0 ≤ x → x < n 0 → τ 50 x = σ 50 x) → (τ 47 3 = -1 ∨ 0 ≤ τ 47 3) → ∃ υ, ex_ev (d - 1) 52 3 [vR 47, vR 5, vI (k : Int), vI s, vR 6, vI (n (139 + (k : Int))), vI (n (91 + n (139 + (k : Int)))), vI (l : Int)] [] (SH L, τ) = some ([], (SH L, υ)) ∧ (∀ a, a < 47 ∨ 50 < a → υ a = σ a) ∧ (∀ j : Int, 0 ≤ j → j < (k : Int) → υ 49 j = f j) ∧ (∀ x : Int, 0 ≤ x → x < n 0 → υ 50 x = σ 50 x) ∧ (υ 47 3 = -1 ∨ 0 ≤ υ 47 3) ∧ (∀ b : Int → Int, (∀ i : Int, 0 ≤ i → i < n 7 → τ 48 i = b i) → υ 47 3 = (itr (fun l a => if 0 ≤ mbN n f k (l : Int) ∧ (a.1 < 0 ∨ s + mbN n f k (l : Int) < a.1) then plP n r (k + 1) (s + mbN n f k (l : Int)) (ex_u f (k : Int) (l : Int)) a else a) l ((n 0).toNat - l) (τ 47 3, b)).1 ∧ ∀ i : Int, 0 ≤ i → i < n 7 → υ 48 i = (itr (fun l a => if 0 ≤ mbN n f k (l : Int) ∧ (a.1 < 0 ∨ s + mbN n f k (l : Int) < a.1) then plP n r (k + 1) (s + mbN n f k (l : Int)) (ex_u f (k : Int) (l : Int)) a else a) l ((n 0).toNat - l) (τ 47 3, b)).2 i) := by
        refine down ?_ ?_
        · intro τ t1 t2 t3 t4
          have hRt : RG6 τ n := RG_fr (G := 6) hR hN (fun a x1 x2 => t1 a (by omega))
          have la' := hRt.la
          refine ⟨τ, ?_, t1, t2, t3, t4, fun b hb => ?_⟩
          · rw [ev_52_3]
            simp (disch := first | assumption | omega | ((repeat' first | exact ok_nil | apply ok_I | apply ok_R); done) | (simp (disch := first | omega | decide) only [ex_ar_same, ex_ar_diff, kM_diff, ex_u_same, ex_u_diff]; first | assumption | omega)) only [ev_52_0, ev_52_1, ev_52_2, ev_52_4, ev_52_5, ev_52_6, gf_35_0, gf_35_3, gf_47_0, gf_47_1, gf_47_2, gf_47_3, gf_5_0, gf_5_5, gf_5_7, gf_6_0, gf_6_3, ld_27, ld_37, ld_48, ld_49, ld_50, ld_8, ln_27, ln_37, ln_48, ln_49, ln_50, ln_8, pf_47_3, sd_27, sd_37, sd_48, sd_49, sd_50, sd_8, x_dup2, x_fall, x_goto, x_push, x_ret0, xc_17_35, xc_17_6, xc_22_35, xc_22_6, xc_53, xl_a0, xl_a1, xl_a4, xl_i2, xl_i3, xl_i5, xl_i6, xl_i7, xn_7, xt_a4, xt_i5, xt_i6, xt_i7, y_cmp_eq_f, y_cmp_eq_t, y_cmp_ge_f, y_cmp_ge_t, y_cmp_gt_f, y_cmp_gt_t, y_cmp_lt_f, y_cmp_lt_t, y_iadd, y_if_ne_f, y_if_ne_t, y_isub, i_wr_id, kM_diff, Int.reduceToNat, ex_ar_same, ex_ar_ar, ex_ar_diff, ex_u_same, ex_u_diff, b2i_t, b2i_f, ex_div_nn, ex_rem_nn, Int.toNat_zero, Int.toNat_one, Int.reduceAdd, Int.reduceSub, Int.reduceMul, Int.reduceNeg, kC_ne, fC_ne]
          · rw [Nat.sub_self]; exact ⟨rfl, hb⟩
        · intro l hl ihl τ t1 t2 t3 t4
          have hDt : RD5 τ n := RD_fr (B := 5) hD hN (fun _ _ _ => rfl) (fun a x1 x2 => t1 a (by omega))
          have hRt : RG6 τ n := hDt.g
          have la' := hRt.la
          have el := hRt.le l (by omega) (by omega)
          have ef : τ 50 (l : Int) = flN n f (l : Int) k := (t3 l (by omega) (by omega)).trans (hfl l (by omega) (by omega))
          have fb := flN_bd hN f (l : Int) k (by omega)
          have ln := hN.ln l (by omega) (by omega)
          have mf := mbR_fl n f (k : Int) (l : Int) k
          have mbd := mbR_bd hN f (show 0 ≤ (k : Int) by omega) (by omega) (show 0 ≤ (l : Int) by omega) (by omega) k (by omega)
          have hm : mbN n f k (l : Int) = if (n (99 + n (139 + (k : Int))) ≤ n (21 + (l : Int)) ∧ n (107 + n (139 + (k : Int))) ≤ n (26 + (l : Int))) ∧ 0 ≤ (mbR n f (k : Int) (l : Int) k).1 then (mbR n f (k : Int) (l : Int) k).2 else -1 := rfl
          rw [show (n 0).toNat - l = ((n 0).toNat - (l + 1)) + 1 by omega]
          simp only [itr_succ_last]
          by_cases q1 : 0 ≤ (mbR n f (k : Int) (l : Int) k).1
          · by_cases q2 : n (99 + n (139 + (k : Int))) ≤ n (21 + (l : Int)) ∧ n (107 + n (139 + (k : Int))) ≤ n (26 + (l : Int))
            · rw [if_pos ⟨q2, q1⟩] at hm
              -- the car fits
              have S1 : ∀ a, a ≠ 49 → a ≠ 50 → ex_ar (ex_ar τ 49 (ex_u (τ 49) (k : Int) (l : Int))) 50 (ex_u (τ 50) (l : Int) (flN n f (l : Int) k + n (91 + n (139 + (k : Int))))) a = τ a := fun a h1 h2 => by rw [ex_ar_diff _ _ _ h2, ex_ar_diff _ _ _ h1]
              have hD1 : RD5 (ex_ar (ex_ar τ 49 (ex_u (τ 49) (k : Int) (l : Int))) 50 (ex_u (τ 50) (l : Int) (flN n f (l : Int) k + n (91 + n (139 + (k : Int)))))) n := RD_fr (B := 5) hDt hN (fun _ _ _ => rfl) (fun a x1 x2 => S1 a (by omega) (by omega))
              have c49 : ex_ar (ex_ar τ 49 (ex_u (τ 49) (k : Int) (l : Int))) 50 (ex_u (τ 50) (l : Int) (flN n f (l : Int) k + n (91 + n (139 + (k : Int))))) 49 = ex_u (τ 49) (k : Int) (l : Int) := by rw [ex_ar_diff _ _ _ (by decide), ex_ar_same]
              have c49k : ex_ar (ex_ar τ 49 (ex_u (τ 49) (k : Int) (l : Int))) 50 (ex_u (τ 50) (l : Int) (flN n f (l : Int) k + n (91 + n (139 + (k : Int))))) 49 (k : Int) = (l : Int) := by rw [c49, ex_u_same]
              have k7 : (k : Int) < n 7 := by omega
              have mc : mbR n (ex_u (τ 49) (k : Int) (l : Int)) (k : Int) (l : Int) k = mbR n f (k : Int) (l : Int) k := mbR_congr _ _ k (fun j j0 j1 => by rw [ex_u_diff _ _ (by omega)]; exact t2 j j0 j1)
              obtain ⟨υ, r1, p1, p2, p3, p4, p5⟩ := ih (d - 1) L (ex_ar (ex_ar τ 49 (ex_u (τ 49) (k : Int) (l : Int))) 50 (ex_u (τ 50) (l : Int) (flN n f (l : Int) k + n (91 + n (139 + (k : Int)))))) (k + 1) (s + (mbR n f (k : Int) (l : Int) k).2) (ex_u f (k : Int) (l : Int)) (by omega) hD1 (by omega) (by omega) (by omega) (fun j j0 j1 => by
                rw [c49]
                by_cases y : j = (k : Int)
                · rw [y, ex_u_same, ex_u_same]
                · rw [ex_u_diff _ _ y, ex_u_diff _ _ y]; exact t2 j j0 (by omega)) (fun x x0 x1 => by
                rw [ex_ar_same, flN, ex_u_same, flN_cg (f := f) (f' := ex_u f (k : Int) (l : Int)) x k (fun j j0 j1 => ex_u_diff _ _ (by omega))]
                by_cases y : x = (l : Int)
                · rw [y, ex_u_same, if_pos rfl]
                · rw [ex_u_diff _ _ y, if_neg (fun h => y h.symm), t3 x x0 x1, hfl x x0 x1]; omega) (by rw [S1 47 (by decide) (by decide)]; exact t4)
              rw [S1 47 (by decide) (by decide)] at p5
              rw [S1 48 (by decide) (by decide)] at p5
              have u50 : υ 50 (l : Int) = flN n f (l : Int) k + n (91 + n (139 + (k : Int))) := by rw [p3 l (by omega) (by omega), ex_ar_same, ex_u_same]
              obtain ⟨ω, v1, v2, v3, v4, v5, v6⟩ := ihl (ex_ar υ 50 (ex_u (υ 50) (l : Int) (flN n f (l : Int) k))) (fun a ha => by rw [ex_ar_diff _ _ _ (by omega), p1 a ha, S1 a (by omega) (by omega), t1 a ha]) (fun j j0 j1 => by rw [ex_ar_diff _ _ _ (by decide), p2 j j0 (by omega), ex_u_diff _ _ (by omega)]) (fun x x0 x1 => by
                rw [ex_ar_same]
                by_cases y : x = (l : Int)
                · rw [y, ex_u_same, ← ef, t3 l (by omega) (by omega)]
                · rw [ex_u_diff _ _ y, p3 x x0 x1, ex_ar_same, ex_u_diff _ _ y, t3 x x0 x1]) (by rw [ex_ar_diff _ _ _ (by decide)]; exact p4)
              rw [ex_ar_diff _ _ _ (by decide), ex_ar_diff _ _ _ (by decide)] at v6
              refine ⟨ω, ?_, v2, v3, v4, v5, fun b hb => ?_⟩
              · rw [← v1, ev_52_3]
                have w1 : ex_wr (flN n f (l : Int) k + n (91 + n (139 + (k : Int)))) = flN n f (l : Int) k + n (91 + n (139 + (k : Int))) := i_wr_id (by omega) (by omega)
                have w2 : ex_wr (s + (mbR n f (k : Int) (l : Int) k).2) = s + (mbR n f (k : Int) (l : Int) k).2 := i_wr_id (by omega) (by omega)
                have w3 : ex_wr (flN n f (l : Int) k + n (91 + n (139 + (k : Int))) - n (91 + n (139 + (k : Int)))) = flN n f (l : Int) k := by rw [i_wr_id (by omega) (by omega)]; omega
                have w4 : ex_wr ((k : Int) + 1) = ((k + 1 : Nat) : Int) := by rw [i_wr_id (by omega) (by omega)]; omega
                have w5 : ex_wr ((l : Int) + 1) = ((l + 1 : Nat) : Int) := by rw [i_wr_id (by omega) (by omega)]; omega
                simp (disch := first | assumption | omega | ((repeat' first | exact ok_nil | apply ok_I | apply ok_R); done) | (simp (disch := first | omega | decide) only [ex_ar_same, ex_ar_diff, kM_diff, ex_u_same, ex_u_diff]; first | assumption | omega)) only [(xr_52 r1), ef, el, ev_52_0, ev_52_1, ev_52_2, ev_52_4, ev_52_5, ev_52_6, gf_35_0, gf_35_3, gf_47_0, gf_47_1, gf_47_2, gf_47_3, gf_5_0, gf_5_5, gf_5_7, gf_6_0, gf_6_3, ld_27, ld_37, ld_48, ld_49, ld_50, ld_8, ln_27, ln_37, ln_48, ln_49, ln_50, ln_8, mc, pf_47_3, sd_27, sd_37, sd_48, sd_49, sd_50, sd_8, u50, w1, w2, w3, w4, w5, x_dup2, x_fall, x_goto, x_push, x_ret0, xc_17_35, xc_17_6, xc_22_35, xc_22_6, xc_53, xl_a0, xl_a1, xl_a4, xl_i2, xl_i3, xl_i5, xl_i6, xl_i7, xn_7, xt_a4, xt_i5, xt_i6, xt_i7, y_cmp_eq_f, y_cmp_eq_t, y_cmp_ge_f, y_cmp_ge_t, y_cmp_gt_f, y_cmp_gt_t, y_cmp_lt_f, y_cmp_lt_t, y_iadd, y_if_ne_f, y_if_ne_t, y_isub, kM_diff, Int.reduceToNat, ex_ar_same, ex_ar_ar, ex_ar_diff, ex_u_same, ex_u_diff, b2i_t, b2i_f, ex_div_nn, ex_rem_nn, Int.toNat_zero, Int.toNat_one, Int.reduceAdd, Int.reduceSub, Int.reduceMul, Int.reduceNeg, kC_ne, fC_ne]
              · -- the values
                rw [← hm] at p5
                by_cases y : τ 47 3 < 0 ∨ s + mbN n f k (l : Int) < τ 47 3
                · rw [if_pos ⟨by omega, y⟩]
                  obtain ⟨x1, x2⟩ := p5 b hb
                  simp only [if_pos y] at x1 x2
                  have := v6 _ x2
                  rw [x1] at this
                  exact this
                · rw [if_neg (fun h => y h.2)]
                  obtain ⟨x1, x2⟩ := p5 b hb
                  simp only [if_neg y] at x1 x2
                  have := v6 _ x2
                  rw [x1] at this
                  exact this
            · rw [if_neg (fun h => q2 h.1)] at hm
              obtain ⟨ω, v1, v2, v3, v4, v5, v6⟩ := ihl τ t1 t2 t3 t4
              refine ⟨ω, ?_, v2, v3, v4, v5, fun b hb => ?_⟩
              · rw [← v1, ev_52_3]
                simp (disch := first | assumption | omega | ((repeat' first | exact ok_nil | apply ok_I | apply ok_R); done) | (simp (disch := first | omega | decide) only [ex_ar_same, ex_ar_diff, kM_diff, ex_u_same, ex_u_diff]; first | assumption | omega)) only [ef, el, ev_52_0, ev_52_1, ev_52_2, ev_52_4, ev_52_5, ev_52_6, gf_35_0, gf_35_3, gf_47_0, gf_47_1, gf_47_2, gf_47_3, gf_5_0, gf_5_5, gf_5_7, gf_6_0, gf_6_3, ld_27, ld_37, ld_48, ld_49, ld_50, ld_8, ln_27, ln_37, ln_48, ln_49, ln_50, ln_8, pf_47_3, sd_27, sd_37, sd_48, sd_49, sd_50, sd_8, x_dup2, x_fall, x_goto, x_push, x_ret0, xc_17_35, xc_17_6, xc_22_35, xc_22_6, xc_53, xl_a0, xl_a1, xl_a4, xl_i2, xl_i3, xl_i5, xl_i6, xl_i7, xn_7, xt_a4, xt_i5, xt_i6, xt_i7, y_cmp_eq_f, y_cmp_eq_t, y_cmp_ge_f, y_cmp_ge_t, y_cmp_gt_f, y_cmp_gt_t, y_cmp_lt_f, y_cmp_lt_t, y_iadd, y_if_ne_f, y_if_ne_t, y_isub, i_wr_id, kM_diff, Int.reduceToNat, ex_ar_same, ex_ar_ar, ex_ar_diff, ex_u_same, ex_u_diff, b2i_t, b2i_f, ex_div_nn, ex_rem_nn, Int.toNat_zero, Int.toNat_one, Int.reduceAdd, Int.reduceSub, Int.reduceMul, Int.reduceNeg, kC_ne, fC_ne]
                rw [nat_cast_succ]
              · rw [if_neg (fun h => by omega)]; exact v6 b hb
          · rw [if_neg (fun h => q1 h.2)] at hm
            obtain ⟨ω, v1, v2, v3, v4, v5, v6⟩ := ihl τ t1 t2 t3 t4
            refine ⟨ω, ?_, v2, v3, v4, v5, fun b hb => ?_⟩
            · rw [← v1, ev_52_3]
              simp (disch := first | assumption | omega | ((repeat' first | exact ok_nil | apply ok_I | apply ok_R); done) | (simp (disch := first | omega | decide) only [ex_ar_same, ex_ar_diff, kM_diff, ex_u_same, ex_u_diff]; first | assumption | omega)) only [ef, el, ev_52_0, ev_52_1, ev_52_2, ev_52_4, ev_52_5, ev_52_6, gf_35_0, gf_35_3, gf_47_0, gf_47_1, gf_47_2, gf_47_3, gf_5_0, gf_5_5, gf_5_7, gf_6_0, gf_6_3, ld_27, ld_37, ld_48, ld_49, ld_50, ld_8, ln_27, ln_37, ln_48, ln_49, ln_50, ln_8, pf_47_3, sd_27, sd_37, sd_48, sd_49, sd_50, sd_8, x_dup2, x_fall, x_goto, x_push, x_ret0, xc_17_35, xc_17_6, xc_22_35, xc_22_6, xc_53, xl_a0, xl_a1, xl_a4, xl_i2, xl_i3, xl_i5, xl_i6, xl_i7, xn_7, xt_a4, xt_i5, xt_i6, xt_i7, y_cmp_eq_f, y_cmp_eq_t, y_cmp_ge_f, y_cmp_ge_t, y_cmp_gt_f, y_cmp_gt_t, y_cmp_lt_f, y_cmp_lt_t, y_iadd, y_if_ne_f, y_if_ne_t, y_isub, i_wr_id, kM_diff, Int.reduceToNat, ex_ar_same, ex_ar_ar, ex_ar_diff, ex_u_same, ex_u_diff, b2i_t, b2i_f, ex_div_nn, ex_rem_nn, Int.toNat_zero, Int.toNat_one, Int.reduceAdd, Int.reduceSub, Int.reduceMul, Int.reduceNeg, kC_ne, fC_ne]
              rw [nat_cast_succ]
            · rw [if_neg (fun h => by omega)]; exact v6 b hb
      obtain ⟨ω, v1, v2, v3, v4, v5, v6⟩ := lp 0 (by omega) σ (fun _ _ => rfl) hf (fun _ _ _ => rfl) hle
      refine ⟨ω, ?_, v2, v3, v4, v5, fun b hb => ?_⟩
      · rcases z with z | z
        · simp (disch := first | assumption | omega | ((repeat' first | exact ok_nil | apply ok_I | apply ok_R); done) | (simp (disch := first | omega | decide) only [ex_ar_same, ex_ar_diff, kM_diff, ex_u_same, ex_u_diff]; first | assumption | omega)) only [ek, ev_52_0, ev_52_1, ev_52_2, ev_52_4, ev_52_5, ev_52_6, ez, ez', gf_35_0, gf_35_3, gf_47_0, gf_47_1, gf_47_2, gf_47_3, gf_5_0, gf_5_5, gf_5_7, gf_6_0, gf_6_3, i7, ld_27, ld_37, ld_48, ld_49, ld_50, ld_8, ln_27, ln_37, ln_48, ln_49, ln_50, ln_8, pf_47_3, sd_27, sd_37, sd_48, sd_49, sd_50, sd_8, x_dup2, x_fall, x_goto, x_push, x_ret0, xc_17_35, xc_17_6, xc_22_35, xc_22_6, xc_53, xl_a0, xl_a1, xl_a4, xl_i2, xl_i3, xl_i5, xl_i6, xl_i7, xn_7, xt_a4, xt_i5, xt_i6, xt_i7, y_cmp_eq_f, y_cmp_eq_t, y_cmp_ge_f, y_cmp_ge_t, y_cmp_gt_f, y_cmp_gt_t, y_cmp_lt_f, y_cmp_lt_t, y_iadd, y_if_ne_f, y_if_ne_t, y_isub, i_wr_id, kM_diff, Int.reduceToNat, ex_ar_same, ex_ar_ar, ex_ar_diff, ex_u_same, ex_u_diff, b2i_t, b2i_f, ex_div_nn, ex_rem_nn, Int.toNat_zero, Int.toNat_one, Int.reduceAdd, Int.reduceSub, Int.reduceMul, Int.reduceNeg, kC_ne, fC_ne]
          exact v1
        · rcases hle with y | y
          · exfalso; omega
          · simp (disch := first | assumption | omega | ((repeat' first | exact ok_nil | apply ok_I | apply ok_R); done) | (simp (disch := first | omega | decide) only [ex_ar_same, ex_ar_diff, kM_diff, ex_u_same, ex_u_diff]; first | assumption | omega)) only [ek, ev_52_0, ev_52_1, ev_52_2, ev_52_4, ev_52_5, ev_52_6, ez, ez', gf_35_0, gf_35_3, gf_47_0, gf_47_1, gf_47_2, gf_47_3, gf_5_0, gf_5_5, gf_5_7, gf_6_0, gf_6_3, i7, ld_27, ld_37, ld_48, ld_49, ld_50, ld_8, ln_27, ln_37, ln_48, ln_49, ln_50, ln_8, pf_47_3, sd_27, sd_37, sd_48, sd_49, sd_50, sd_8, x_dup2, x_fall, x_goto, x_push, x_ret0, xc_17_35, xc_17_6, xc_22_35, xc_22_6, xc_53, xl_a0, xl_a1, xl_a4, xl_i2, xl_i3, xl_i5, xl_i6, xl_i7, xn_7, xt_a4, xt_i5, xt_i6, xt_i7, y_cmp_eq_f, y_cmp_eq_t, y_cmp_ge_f, y_cmp_ge_t, y_cmp_gt_f, y_cmp_gt_t, y_cmp_lt_f, y_cmp_lt_t, y_iadd, y_if_ne_f, y_if_ne_t, y_isub, i_wr_id, kM_diff, Int.reduceToNat, ex_ar_same, ex_ar_ar, ex_ar_diff, ex_u_same, ex_u_diff, b2i_t, b2i_f, ex_div_nn, ex_rem_nn, Int.toNat_zero, Int.toNat_one, Int.reduceAdd, Int.reduceSub, Int.reduceMul, Int.reduceNeg, kC_ne, fC_ne]
            exact v1
      · dsimp only
        rw [if_pos (by omega), plP]
        exact v6 b hb
    · refine ⟨σ, ?_, fun _ _ => rfl, hf, fun _ _ _ => rfl, hle, fun b hb => ?_⟩
      · simp (disch := first | assumption | omega | ((repeat' first | exact ok_nil | apply ok_I | apply ok_R); done) | (simp (disch := first | omega | decide) only [ex_ar_same, ex_ar_diff, kM_diff, ex_u_same, ex_u_diff]; first | assumption | omega)) only [ev_52_0, ev_52_1, ev_52_2, ev_52_4, ev_52_5, ev_52_6, gf_35_0, gf_35_3, gf_47_0, gf_47_1, gf_47_2, gf_47_3, gf_5_0, gf_5_5, gf_5_7, gf_6_0, gf_6_3, ld_27, ld_37, ld_48, ld_49, ld_50, ld_8, ln_27, ln_37, ln_48, ln_49, ln_50, ln_8, pf_47_3, sd_27, sd_37, sd_48, sd_49, sd_50, sd_8, x_dup2, x_fall, x_goto, x_push, x_ret0, xc_17_35, xc_17_6, xc_22_35, xc_22_6, xc_53, xl_a0, xl_a1, xl_a4, xl_i2, xl_i3, xl_i5, xl_i6, xl_i7, xn_7, xt_a4, xt_i5, xt_i6, xt_i7, y_cmp_eq_f, y_cmp_eq_t, y_cmp_ge_f, y_cmp_ge_t, y_cmp_gt_f, y_cmp_gt_t, y_cmp_lt_f, y_cmp_lt_t, y_iadd, y_if_ne_f, y_if_ne_t, y_isub, i_wr_id, kM_diff, Int.reduceToNat, ex_ar_same, ex_ar_ar, ex_ar_diff, ex_u_same, ex_u_diff, b2i_t, b2i_f, ex_div_nn, ex_rem_nn, Int.toNat_zero, Int.toNat_one, Int.reduceAdd, Int.reduceSub, Int.reduceMul, Int.reduceNeg, kC_ne, fC_ne]
      · dsimp only
        rw [if_neg (by omega)]
        exact ⟨rfl, hb⟩
