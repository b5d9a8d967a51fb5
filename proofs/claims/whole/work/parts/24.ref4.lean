/-! the reference: keys, parking, shunts -/
def keyF (n : Int → Int) (c h : Int) (i : Nat) (s : Int × Int) : Int × Int := if n (247 + (i : Int)) % 8 = c ∧ n (247 + (i : Int)) / 8 % 32 ≤ h ∧ s.1 ≤ n (247 + (i : Int)) / 8 % 32 then (n (247 + (i : Int)) / 8 % 32, if 256 ≤ n (247 + (i : Int)) then 1 else 0) else s
def keyR (n : Int → Int) (c h : Int) : Nat → Int × Int
  | 0 => (-1, 0)
  | i + 1 => keyF n c h i (keyR n c h i)
theorem keyR_01 (n : Int → Int) (c h : Int) : ∀ i, (keyR n c h i).2 = 0 ∨ (keyR n c h i).2 = 1
  | 0 => Or.inl rfl
  | i + 1 => by
    have ih := keyR_01 n c h i
    rw [keyR]
    unfold keyF
    split
    · dsimp only
      split
      · exact Or.inr rfl
      · exact Or.inl rfl
    · exact ih
/-- has the key -/
abbrev keyP (n : Int → Int) (c h m : Int) : Prop := (keyR n c h m.toNat).2 = 1
theorem sp_228 {d : Nat} (hd : 0 < d) {L : Nat} {σ : ex_S} {c h m : Int} (hN : NI (σ 433)) (hm : 0 ≤ m) (hm2 : m ≤ σ 433 10) : ex_cd d 228 [vR 432, vI c, vI h, vI m] (SH L, σ) = some ([vI (b2i (keyP (σ 433) c h m))], (SH L, σ)) := by
  rw [ex_cd_eq (by omega)]
  show ex_ev (d - 1) 228 0 [vR 432, vI c, vI h, vI m, vL 0, vL 0, vL 0, vL 0, vL 0] [] (SH L, σ) = _
  (have := hN.a0; have := hN.b0; have := hN.a1; have := hN.b1; have := hN.a2; have := hN.b2; have := hN.a3; have := hN.b3; have := hN.a4; have := hN.b4; have := hN.a5; have := hN.b5; have := hN.a7; have := hN.b7; have := hN.a8; have := hN.b8; have := hN.a9; have := hN.b9; have := hN.a10; have := hN.b10; have := hN.oM; have := hN.oP)
  have lp : ∀ i : Nat, i ≤ m.toNat → ∀ (f b : Int) (w1 w2 : ex_V), keyR (σ 433) c h i = (f, b) → ex_ev (d - 1) 228 1 [vR 432, vI c, vI h, vI m, vI f, vI b, vI (i : Int), w1, w2] [] (SH L, σ) = some ([vI (b2i (keyP (σ 433) c h m))], (SH L, σ)) := by
    refine down ?_ ?_
    · intro f b w1 w2 hk
      have h01 := keyR_01 (σ 433) c h m.toNat
      rw [hk] at h01
      have e : b2i (keyP (σ 433) c h m) = b := by
        unfold keyP
        rw [hk]
        rcases h01 with h | h
        · dsimp only at h; subst h; rfl
        · dsimp only at h; subst h; rfl
      rw [e]
      dsimp only at h01
      rw [ev_228_1]
      (repeat' first | simp (disch := first | assumption | omega | (repeat' first | exact ok_nil | apply ok_I | apply ok_R)) only [ev_228_0, ev_228_2, ev_228_3, ev_228_4, ev_228_5, gf_432_0, ld_433, x_fall, x_goto, x_iadd, x_idiv, x_irem, x_push, x_ret2, x_ret2b, xl_a0, xl_i1, xl_i2, xl_i3, xl_i4, xl_i5, xl_i6, xl_i7, xl_i8, xn_6, xt_i4, xt_i5, xt_i6, xt_i7, xt_i8, y_cmp_ge_f, y_cmp_ge_t, y_cmp_gt_f, y_cmp_gt_t, y_cmp_lt_f, y_cmp_lt_t, y_cmp_ne_f, y_cmp_ne_t, i_wr_id, kM_diff, Int.reduceToNat, ex_ar_same, ex_ar_ar, ex_ar_diff, ex_u_same, ex_u_diff, b2i_t, b2i_f, ex_div_nn, ex_rem_nn, Int.toNat_zero, Int.toNat_one] | refine bb_eq (fun _ => ?_) (fun _ => ?_) | refine bb_ne (fun _ => ?_) (fun _ => ?_) | refine bc_eq (fun _ => ?_) (fun _ => ?_) | refine bc_ne (fun _ => ?_) (fun _ => ?_) | refine bc_lt (fun _ => ?_) (fun _ => ?_) | refine bc_ge (fun _ => ?_) (fun _ => ?_) | refine bc_gt (fun _ => ?_) (fun _ => ?_) | refine bc_le (fun _ => ?_) (fun _ => ?_) | refine bi_eq (fun _ => ?_) (fun _ => ?_) | refine bi_ne (fun _ => ?_) (fun _ => ?_) | refine bi_lt (fun _ => ?_) (fun _ => ?_) | refine bi_ge (fun _ => ?_) (fun _ => ?_) | refine bi_gt (fun _ => ?_) (fun _ => ?_) | refine bi_le (fun _ => ?_) (fun _ => ?_))
    · intro i hi ih f b w1 w2 hk
      obtain ⟨o1, o2, o3⟩ := hN.no i (by omega) (by omega)
      rw [ev_228_1]
      (repeat' first | simp (disch := first | assumption | omega | (repeat' first | exact ok_nil | apply ok_I | apply ok_R)) only [ev_228_0, ev_228_2, ev_228_3, ev_228_4, ev_228_5, gf_432_0, ld_433, x_fall, x_goto, x_iadd, x_idiv, x_irem, x_push, x_ret2, x_ret2b, xl_a0, xl_i1, xl_i2, xl_i3, xl_i4, xl_i5, xl_i6, xl_i7, xl_i8, xn_6, xt_i4, xt_i5, xt_i6, xt_i7, xt_i8, y_cmp_ge_f, y_cmp_ge_t, y_cmp_gt_f, y_cmp_gt_t, y_cmp_lt_f, y_cmp_lt_t, y_cmp_ne_f, y_cmp_ne_t, i_wr_id, kM_diff, Int.reduceToNat, ex_ar_same, ex_ar_ar, ex_ar_diff, ex_u_same, ex_u_diff, b2i_t, b2i_f, ex_div_nn, ex_rem_nn, Int.toNat_zero, Int.toNat_one] | refine bb_eq (fun _ => ?_) (fun _ => ?_) | refine bb_ne (fun _ => ?_) (fun _ => ?_) | refine bc_eq (fun _ => ?_) (fun _ => ?_) | refine bc_ne (fun _ => ?_) (fun _ => ?_) | refine bc_lt (fun _ => ?_) (fun _ => ?_) | refine bc_ge (fun _ => ?_) (fun _ => ?_) | refine bc_gt (fun _ => ?_) (fun _ => ?_) | refine bc_le (fun _ => ?_) (fun _ => ?_) | refine bi_eq (fun _ => ?_) (fun _ => ?_) | refine bi_ne (fun _ => ?_) (fun _ => ?_) | refine bi_lt (fun _ => ?_) (fun _ => ?_) | refine bi_ge (fun _ => ?_) (fun _ => ?_) | refine bi_gt (fun _ => ?_) (fun _ => ?_) | refine bi_le (fun _ => ?_) (fun _ => ?_))
      all_goals
        rw [nat_cast_succ]
        refine ih _ _ _ _ ?_
        rw [keyR, hk]
        unfold keyF
        dsimp only
        (repeat (first | rw [if_pos (by first | assumption | omega)] | rw [if_neg (by first | assumption | omega)]))
  simp (disch := first | assumption | omega | (repeat' first | exact ok_nil | apply ok_I | apply ok_R)) only [ev_228_0, ev_228_2, ev_228_3, ev_228_4, ev_228_5, gf_432_0, ld_433, x_fall, x_goto, x_iadd, x_idiv, x_irem, x_push, x_ret2, x_ret2b, xl_a0, xl_i1, xl_i2, xl_i3, xl_i4, xl_i5, xl_i6, xl_i7, xl_i8, xn_6, xt_i4, xt_i5, xt_i6, xt_i7, xt_i8, y_cmp_ge_f, y_cmp_ge_t, y_cmp_gt_f, y_cmp_gt_t, y_cmp_lt_f, y_cmp_lt_t, y_cmp_ne_f, y_cmp_ne_t, i_wr_id, kM_diff, Int.reduceToNat, ex_ar_same, ex_ar_ar, ex_ar_diff, ex_u_same, ex_u_diff, b2i_t, b2i_f, ex_div_nn, ex_rem_nn, Int.toNat_zero, Int.toNat_one]
  exact lp 0 (by omega) _ _ _ _ rfl
theorem xc_228 {rt d : Nat} {J : Nat → List ex_V → List ex_V → ex_H → Option ex_R} {is : List Instr} {ls st : List ex_V} {L : Nat} {σ : ex_S} {c h m : Int} (hN : NI (σ 433)) (hm : 0 ≤ m) (hm2 : m ≤ σ 433 10) (hd : 0 < d) (hok : okN 8 st = true) : ex_xs rt J (ex_cd d) (.invokevirtual 228 :: is) ls (vI m :: vI h :: vI c :: vR 432 :: st) (SH L, σ) = ex_xs rt J (ex_cd d) is ls (vI (b2i (keyP (σ 433) c h m)) :: st) (SH L, σ) := x_call1 (Or.inl rfl) rfl (sh_432 _) (Or.inl ⟨rfl, rfl⟩) (as := [vI c, vI h, vI m]) rfl rfl (okN_ok hok) rfl (sp_228 hd hN hm hm2)
/-- what keeps a car from a lane -/
abbrev freeP (n : Int → Int) (c : Int) : Prop := 0 ≤ standN n c ∧ aheadN n (standN n c) = 0 ∧ ¬ (n (31 + standN n c / 8) = 1 ∨ n (41 + standN n c / 8) = 12)
def hindN (n : Int → Int) (c l : Int) : Int := if standN n c < 0 then -100006 else if standN n c / 8 = l then -100007 else if ¬ freeP n c ∨ (n (31 + l) = 1 ∨ n (41 + l) = 12) then -100008 else if ¬ (n (99 + c) ≤ n (21 + l) ∧ n (107 + c) ≤ n (26 + l)) then -100004 else if leftN n l < n (91 + c) then -100005 else if keyP n c (n 2) (n 10) then 0 else -100002
theorem sp_170 {d : Nat} (hd : 3 < d) {L : Nat} {σ : ex_S} {c l : Int} (hN : NI (σ 433)) (h1 : 0 ≤ c) (h2 : c < 8) (h3 : 0 ≤ l) (h4 : l < 5) : ex_cd d 170 [vR 432, vI c, vI l] (SH L, σ) = some ([vI (hindN (σ 433) c l)], (SH L, σ)) := by
  rw [ex_cd_eq (by omega)]
  show ex_ev (d - 1) 170 0 [vR 432, vI c, vI l, vL 0] [] (SH L, σ) = _
  (have := hN.a0; have := hN.b0; have := hN.a1; have := hN.b1; have := hN.a2; have := hN.b2; have := hN.a3; have := hN.b3; have := hN.a4; have := hN.b4; have := hN.a5; have := hN.b5; have := hN.a7; have := hN.b7; have := hN.a8; have := hN.b8; have := hN.a9; have := hN.b9; have := hN.a10; have := hN.b10; have := hN.oM; have := hN.oP)
  have hs := stand_lo (σ 433) c (by assumption) (by assumption)
  unfold hindN freeP
  (repeat' first | simp (disch := first | assumption | omega | (repeat' first | exact ok_nil | apply ok_I | apply ok_R)) only [ev_170_0, ev_170_1, ev_170_2, ev_170_3, ev_170_4, ev_170_5, ev_170_6, ev_170_7, ev_170_8, gf_432_0, ld_433, x_fall, x_goto, x_iadd, x_idiv, x_push, x_ret1, xc_153, xc_157, xc_162, xc_164, xc_165, xc_228, xl_a0, xl_i1, xl_i2, xl_i3, xt_i3, y_cmp_ge_f, y_cmp_ge_t, y_cmp_ne_f, y_cmp_ne_t, y_if_eq_f, y_if_eq_t, y_if_ge_f, y_if_ge_t, y_if_ne_f, y_if_ne_t, i_wr_id, kM_diff, Int.reduceToNat, ex_ar_same, ex_ar_ar, ex_ar_diff, ex_u_same, ex_u_diff, b2i_t, b2i_f, ex_div_nn, ex_rem_nn, Int.toNat_zero, Int.toNat_one] | refine bb_eq (fun _ => ?_) (fun _ => ?_) | refine bb_ne (fun _ => ?_) (fun _ => ?_) | refine bc_eq (fun _ => ?_) (fun _ => ?_) | refine bc_ne (fun _ => ?_) (fun _ => ?_) | refine bc_lt (fun _ => ?_) (fun _ => ?_) | refine bc_ge (fun _ => ?_) (fun _ => ?_) | refine bc_gt (fun _ => ?_) (fun _ => ?_) | refine bc_le (fun _ => ?_) (fun _ => ?_) | refine bi_eq (fun _ => ?_) (fun _ => ?_) | refine bi_ne (fun _ => ?_) (fun _ => ?_) | refine bi_lt (fun _ => ?_) (fun _ => ?_) | refine bi_ge (fun _ => ?_) (fun _ => ?_) | refine bi_gt (fun _ => ?_) (fun _ => ?_) | refine bi_le (fun _ => ?_) (fun _ => ?_))
  all_goals (try (repeat (first | rw [if_pos (by first | assumption | omega)] | rw [if_neg (by first | assumption | omega)])))
theorem xc_170 {rt d : Nat} {J : Nat → List ex_V → List ex_V → ex_H → Option ex_R} {is : List Instr} {ls st : List ex_V} {L : Nat} {σ : ex_S} {c l : Int} (hN : NI (σ 433)) (h1 : 0 ≤ c) (h2 : c < 8) (h3 : 0 ≤ l) (h4 : l < 5) (hd : 3 < d) (hok : okN 8 st = true) : ex_xs rt J (ex_cd d) (.invokevirtual 170 :: is) ls (vI l :: vI c :: vR 432 :: st) (SH L, σ) = ex_xs rt J (ex_cd d) is ls (vI (hindN (σ 433) c l) :: st) (SH L, σ) := x_call1 (Or.inl rfl) rfl (sh_432 _) (Or.inl ⟨rfl, rfl⟩) (as := [vI c, vI l]) rfl rfl (okN_ok hok) rfl (sp_170 hd hN h1 h2 h3 h4)
