/-! the class: charge -/
abbrev bt (u c : Int) : Int := ex_and (ex_shr u c) 1
theorem bt_01 {u c : Int} (u0 : 0 ≤ u) (u1 : u < 256) (c0 : 0 ≤ c) (c1 : c < 8) : bt u c = 0 ∨ bt u c = 1 := by
  obtain ⟨x, rfl⟩ := Int.eq_ofNat_of_zero_le u0
  obtain ⟨k, rfl⟩ := Int.eq_ofNat_of_zero_le c0
  unfold bt
  rw [ex_bit (by omega) (by omega)]
  omega
theorem bt_up {u b c : Int} (u0 : 0 ≤ u) (u1 : u < 256) (b0 : 0 ≤ b) (b1 : b < 8) (c0 : 0 ≤ c) (c1 : c < 8) : bt (ex_or u (ex_shl 1 b)) c = if c = b then 1 else bt u c := by
  obtain ⟨x, rfl⟩ := Int.eq_ofNat_of_zero_le u0
  obtain ⟨k, rfl⟩ := Int.eq_ofNat_of_zero_le c0
  obtain ⟨y, rfl⟩ := Int.eq_ofNat_of_zero_le b0
  have hpw : 2 ^ y < 2 ^ 8 := Nat.pow_lt_pow_right (by decide) (show y < 8 by omega)
  have ho : x ||| 2 ^ y < 2 ^ 8 := Nat.or_lt_two_pow (by omega) hpw
  unfold bt
  rw [ex_shl1 (by omega), ex_or_nat (by omega) (by omega), ex_bit (by omega) (by omega), ex_bit (by omega) (by omega), bz_or (by omega) (by omega) (by omega)]
  by_cases z : k = y
  · rw [if_pos z, if_pos (by omega)]; rfl
  · rw [if_neg z, if_neg (by omega)]
theorem or_shl {u b : Int} (u0 : 0 ≤ u) (u1 : u < 256) (b0 : 0 ≤ b) (b1 : b < 8) : 0 ≤ ex_or u (ex_shl 1 b) ∧ ex_or u (ex_shl 1 b) < 256 := by
  obtain ⟨y, rfl⟩ := Int.eq_ofNat_of_zero_le b0
  have hpw : 2 ^ y < 2 ^ 8 := Nat.pow_lt_pow_right (by decide) (show y < 8 by omega)
  rw [ex_shl1 (by omega)]
  exact or_lo (n := 8) (by decide) u0 u1 (Int.natCast_nonneg _) (by exact_mod_cast hpw)
theorem or_0 {u : Int} (u0 : 0 ≤ u) (u1 : u < 256) : ex_or u 0 = u := by
  obtain ⟨x, rfl⟩ := Int.eq_ofNat_of_zero_le u0
  rw [show (0 : Int) = ((0 : Nat) : Int) from rfl, ex_or_nat (by omega) (by omega), Nat.or_zero]
theorem bsR_un (n nd : Int → Int) (u h : Int) : ∀ c : Nat, bsR n nd u h c < 0 ∨ bt u (bsR n nd u h c) = 0
  | 0 => Or.inl (show (-1 : Int) < 0 by decide)
  | c + 1 => by
    rw [bsR]
    by_cases z : (ex_and (ex_shr u (c : Int)) 1 = 0 ∧ 0 < nd (c : Int) ∧ h < n (115 + (c : Int))) ∧ (bsR n nd u h c < 0 ∨ nd (bsR n nd u h c) < nd (c : Int))
    · rw [if_pos z]; exact Or.inr z.1.1
    · rw [if_neg z]; exact bsR_un n nd u h c
theorem bs_eq {n nd nd' : Int → Int} {u h : Int} (hd : ∀ c : Int, 0 ≤ c → c < 8 → bt u c = 0 → nd' c = nd c) : ∀ c : Nat, c ≤ 8 → bsR n nd' u h c = bsR n nd u h c
  | 0, _ => rfl
  | c + 1, hc => by
    have ih := bs_eq hd c (by omega) (n := n) (h := h)
    have bd := bsR_bd n nd u h c
    have un := bsR_un n nd u h c
    rw [bsR, bsR, ih]
    by_cases z : ex_and (ex_shr u (c : Int)) 1 = 0
    · rw [hd (c : Int) (by omega) (by omega) z]
      by_cases y : bsR n nd u h c < 0
      · by_cases x : 0 < nd (c : Int) ∧ h < n (115 + (c : Int))
        · rw [if_pos ⟨⟨z, x⟩, Or.inl y⟩, if_pos ⟨⟨z, x⟩, Or.inl y⟩]
        · rw [if_neg (fun q => x q.1.2), if_neg (fun q => x q.1.2)]
      · rw [hd _ (by omega) (by omega) (un.resolve_left y)]
    · rw [if_neg (fun q => z q.1.1), if_neg (fun q => z q.1.1)]
theorem bs_car {n nd f : Int → Int} {u h : Int} {m : Nat} (hm : m ≤ 8) (h1 : ∀ c : Int, 0 ≤ c → c < (m : Int) → f c = nd c) (h2 : ∀ c : Int, (m : Int) ≤ c → c < 8 → nd c = 0) : bsR n nd u h 8 = bsR n f u h m := by
  have a : ∀ c : Nat, c ≤ m → bsR n f u h c = bsR n nd u h c := by
    intro c
    induction c with
    | zero => intro _; rfl
    | succ c ih =>
      intro hc
      have e := ih (by omega)
      have bd := bsR_bd n nd u h c
      rw [bsR, bsR, e, h1 (c : Int) (by omega) (by omega)]
      by_cases y : bsR n nd u h c < 0
      · by_cases x : ex_and (ex_shr u (c : Int)) 1 = 0 ∧ 0 < nd (c : Int) ∧ h < n (115 + (c : Int))
        · rw [if_pos ⟨x, Or.inl y⟩, if_pos ⟨x, Or.inl y⟩]
        · rw [if_neg (fun q => x q.1), if_neg (fun q => x q.1)]
      · rw [h1 _ (by omega) (by omega)]
  have b : ∀ c : Nat, m ≤ c → c ≤ 8 → bsR n nd u h c = bsR n nd u h m := by
    intro c
    induction c with
    | zero => intro h3 _; rw [show m = 0 by omega]
    | succ c ih =>
      intro h3 h4
      by_cases z : m = c + 1
      · rw [z]
      · rw [bsR, if_neg (fun q => by have := h2 (c : Int) (by omega) (by omega); have := q.1.2.1; omega)]
        exact ih (by omega) (by omega)
  rw [b 8 hm (by omega), a m (by omega)]
/-- an hour: who is charged, and what is left -/
theorem chR_nd {n nd : Int → Int} {h : Int} : ∀ i : Nat, (0 ≤ (chR n h nd i).1 ∧ (chR n h nd i).1 < 256) ∧ (∀ c : Int, 0 ≤ c → c < 8 → (chR n h nd i).2 c = nd c - bt (chR n h nd i).1 c) ∧ (chR n h nd (i + 1)).1 = ex_or (chR n h nd i).1 (if 0 ≤ bsR n nd (chR n h nd i).1 h 8 then ex_shl 1 (bsR n nd (chR n h nd i).1 h 8) else 0)
  | 0 => by
    have z : ∀ c : Int, 0 ≤ c → c < 8 → bt 0 c = 0 := fun c c0 c1 => by
      obtain ⟨k, rfl⟩ := Int.eq_ofNat_of_zero_le c0
      unfold bt
      rw [show (0 : Int) = ((0 : Nat) : Int) from rfl, ex_bit (by omega) (by omega), Nat.zero_div]
    refine ⟨⟨Int.le_refl 0, (show (0 : Int) < 256 by decide)⟩, fun c c0 c1 => ?_, rfl⟩
    show nd c = nd c - bt 0 c
    rw [z c c0 c1]; omega
  | i + 1 => by
    obtain ⟨⟨u0, u1⟩, h2, h3⟩ := chR_nd i (n := n) (nd := nd) (h := h)
    have e : bsR n (chR n h nd i).2 (chR n h nd i).1 h 8 = bsR n nd (chR n h nd i).1 h 8 := bs_eq (fun c c0 c1 z => by rw [h2 c c0 c1, z]; omega) 8 (by omega)
    have bd := bsR_bd n nd (chR n h nd i).1 h 8
    have un := bsR_un n nd (chR n h nd i).1 h 8
    have hu : (0 ≤ (chR n h nd (i + 1)).1 ∧ (chR n h nd (i + 1)).1 < 256) := by
      rw [h3]
      split
      · exact or_shl u0 u1 (by omega) (by omega)
      · rw [or_0 u0 u1]; exact ⟨u0, u1⟩
    have hn : ∀ c : Int, 0 ≤ c → c < 8 → (chR n h nd (i + 1)).2 c = nd c - bt (chR n h nd (i + 1)).1 c := by
      intro c c0 c1
      have e2 : (chR n h nd (i + 1)).2 c = (chR n h nd i).2 c - (if c = bsR n nd (chR n h nd i).1 h 8 then 1 else 0) := by
        show cqF (dcF (chR n h nd i).2 (bsR n (chR n h nd i).2 (chR n h nd i).1 h 8)) (chR n h nd i).2 8 c = _
        unfold cqF dcF
        rw [if_pos (by omega), e]
      rw [e2, h2 c c0 c1, h3]
      by_cases y : 0 ≤ bsR n nd (chR n h nd i).1 h 8
      · rw [if_pos y, bt_up u0 u1 y (by omega) c0 c1]
        by_cases x : c = bsR n nd (chR n h nd i).1 h 8
        · rw [if_pos x, if_pos x]
          have := un.resolve_left (by omega)
          rw [x, this]; omega
        · rw [if_neg x, if_neg x]; omega
      · rw [if_neg y, or_0 u0 u1, if_neg (by omega)]; omega
    refine ⟨hu, hn, ?_⟩
    show ex_or (chR n h nd (i + 1)).1 (if 0 ≤ bsR n (chR n h nd (i + 1)).2 (chR n h nd (i + 1)).1 h 8 then ex_shl 1 (bsR n (chR n h nd (i + 1)).2 (chR n h nd (i + 1)).1 h 8) else 0) = _
    have e' : bsR n (chR n h nd (i + 1)).2 (chR n h nd (i + 1)).1 h 8 = bsR n nd (chR n h nd (i + 1)).1 h 8 := bs_eq (fun c c0 c1 z => by rw [hn c c0 c1, z]; omega) 8 (by omega)
    rw [e']
theorem sp_2 {d : Nat} (hd : 1 < d) {L : Nat} {σ : ex_S} {n : Int → Int} (hR : RG6 σ n) (hN : NI n) : ex_cd d 2 [vR 51, vR 6] (SH L, σ) = some ([vI (myR n (n 1).toNat)], (SH L, σ)) := by
  rw [ex_cd_eq (by omega)]
  show ex_ev (d - 1) 2 0 [vR 51, vR 6, vL 0, vL 0, vL 0] [] (SH L, σ) = _
  have a1 := hN.a1
  have b1 := hN.b1
  have ca := hR.ca
  have lp : ∀ c : Nat, c ≤ (n 1).toNat → ∀ w : ex_V, ex_ev (d - 1) 2 1 [vR 51, vR 6, vI (myR n c), vI (c : Int), w] [] (SH L, σ) = some ([vI (myR n (n 1).toNat)], (SH L, σ)) := by
    refine down ?_ ?_
    · intro w
      rw [ev_2_1]
      simp (disch := first | assumption | omega | ((repeat' first | exact ok_nil | apply ok_I | apply ok_R); done) | (simp (disch := first | omega | decide) only [ex_ar_same, ex_ar_diff, kM_diff, ex_u_same, ex_u_diff]; first | assumption | omega)) only [ev_2_0, ev_2_2, ev_2_3, ev_2_4, ev_2_5, ev_2_6, gf_35_1, gf_35_12, gf_6_1, gf_6_12, ld_17, ld_46, x_fall, x_goto, x_push, x_ret1, xc_17_35, xc_17_6, xl_a1, xl_i2, xl_i3, xl_i4, xn_3, xt_i2, xt_i3, xt_i4, y_cmp_eq_f, y_cmp_eq_t, y_cmp_ge_f, y_cmp_ge_t, y_if_eq_f, y_if_eq_t, y_if_le_f, y_if_le_t, y_ior, y_ishl, i_wr_id, kM_diff, Int.reduceToNat, ex_ar_same, ex_ar_ar, ex_ar_diff, ex_u_same, ex_u_diff, b2i_t, b2i_f, ex_div_nn, ex_rem_nn, Int.toNat_zero, Int.toNat_one, Int.reduceAdd, Int.reduceSub, Int.reduceMul, Int.reduceNeg, kC_ne, fC_ne]
    · intro c hc ih w
      have wh := hR.wh c (by omega) (by omega)
      have lo := stand_lo n c hN.b0 hN.oM
      have ez : n (91 + 8 * 4 + (c : Int)) = n (123 + (c : Int)) := by rw [show 91 + 8 * 4 + (c : Int) = 123 + (c : Int) by omega]
      rw [myR] at ih
      rw [ev_2_1]
      by_cases q1 : 0 < n (123 + (c : Int))
      · by_cases q2 : 0 ≤ standN n (c : Int)
        · rw [if_pos ⟨q1, q2⟩] at ih
          rw [if_neg (by omega)] at wh
          simp (disch := first | assumption | omega | ((repeat' first | exact ok_nil | apply ok_I | apply ok_R); done) | (simp (disch := first | omega | decide) only [ex_ar_same, ex_ar_diff, kM_diff, ex_u_same, ex_u_diff]; first | assumption | omega)) only [ev_2_0, ev_2_2, ev_2_3, ev_2_4, ev_2_5, ev_2_6, ez, gf_35_1, gf_35_12, gf_6_1, gf_6_12, ld_17, ld_46, wh, x_fall, x_goto, x_push, x_ret1, xc_17_35, xc_17_6, xl_a1, xl_i2, xl_i3, xl_i4, xn_3, xt_i2, xt_i3, xt_i4, y_cmp_eq_f, y_cmp_eq_t, y_cmp_ge_f, y_cmp_ge_t, y_if_eq_f, y_if_eq_t, y_if_le_f, y_if_le_t, y_ior, y_ishl, i_wr_id, kM_diff, Int.reduceToNat, ex_ar_same, ex_ar_ar, ex_ar_diff, ex_u_same, ex_u_diff, b2i_t, b2i_f, ex_div_nn, ex_rem_nn, Int.toNat_zero, Int.toNat_one, Int.reduceAdd, Int.reduceSub, Int.reduceMul, Int.reduceNeg, kC_ne, fC_ne]
          rw [nat_cast_succ]
          exact ih _
        · rw [if_neg (fun z => q2 z.2)] at ih
          rw [if_pos (by omega)] at wh
          simp (disch := first | assumption | omega | ((repeat' first | exact ok_nil | apply ok_I | apply ok_R); done) | (simp (disch := first | omega | decide) only [ex_ar_same, ex_ar_diff, kM_diff, ex_u_same, ex_u_diff]; first | assumption | omega)) only [ev_2_0, ev_2_2, ev_2_3, ev_2_4, ev_2_5, ev_2_6, ez, gf_35_1, gf_35_12, gf_6_1, gf_6_12, ld_17, ld_46, wh, x_fall, x_goto, x_push, x_ret1, xc_17_35, xc_17_6, xl_a1, xl_i2, xl_i3, xl_i4, xn_3, xt_i2, xt_i3, xt_i4, y_cmp_eq_f, y_cmp_eq_t, y_cmp_ge_f, y_cmp_ge_t, y_if_eq_f, y_if_eq_t, y_if_le_f, y_if_le_t, y_ior, y_ishl, i_wr_id, kM_diff, Int.reduceToNat, ex_ar_same, ex_ar_ar, ex_ar_diff, ex_u_same, ex_u_diff, b2i_t, b2i_f, ex_div_nn, ex_rem_nn, Int.toNat_zero, Int.toNat_one, Int.reduceAdd, Int.reduceSub, Int.reduceMul, Int.reduceNeg, kC_ne, fC_ne]
          rw [nat_cast_succ]
          exact ih _
      · rw [if_neg (fun z => q1 z.1)] at ih
        (repeat' first | simp (disch := first | assumption | omega | ((repeat' first | exact ok_nil | apply ok_I | apply ok_R); done) | (simp (disch := first | omega | decide) only [ex_ar_same, ex_ar_diff, kM_diff, ex_u_same, ex_u_diff]; first | assumption | omega)) only [ev_2_0, ev_2_2, ev_2_3, ev_2_4, ev_2_5, ev_2_6, ez, gf_35_1, gf_35_12, gf_6_1, gf_6_12, ld_17, ld_46, x_fall, x_goto, x_push, x_ret1, xc_17_35, xc_17_6, xl_a1, xl_i2, xl_i3, xl_i4, xn_3, xt_i2, xt_i3, xt_i4, y_cmp_eq_f, y_cmp_eq_t, y_cmp_ge_f, y_cmp_ge_t, y_if_eq_f, y_if_eq_t, y_if_le_f, y_if_le_t, y_ior, y_ishl, i_wr_id, kM_diff, Int.reduceToNat, ex_ar_same, ex_ar_ar, ex_ar_diff, ex_u_same, ex_u_diff, b2i_t, b2i_f, ex_div_nn, ex_rem_nn, Int.toNat_zero, Int.toNat_one, Int.reduceAdd, Int.reduceSub, Int.reduceMul, Int.reduceNeg, kC_ne, fC_ne] | refine bb_eq (fun _ => ?_) (fun _ => ?_) | refine bb_ne (fun _ => ?_) (fun _ => ?_) | refine bc_eq (fun _ => ?_) (fun _ => ?_) | refine bc_ne (fun _ => ?_) (fun _ => ?_) | refine bc_lt (fun _ => ?_) (fun _ => ?_) | refine bc_ge (fun _ => ?_) (fun _ => ?_) | refine bc_gt (fun _ => ?_) (fun _ => ?_) | refine bc_le (fun _ => ?_) (fun _ => ?_) | refine bi_eq (fun _ => ?_) (fun _ => ?_) | refine bi_ne (fun _ => ?_) (fun _ => ?_) | refine bi_lt (fun _ => ?_) (fun _ => ?_) | refine bi_ge (fun _ => ?_) (fun _ => ?_) | refine bi_gt (fun _ => ?_) (fun _ => ?_) | refine bi_le (fun _ => ?_) (fun _ => ?_))
        all_goals
          rw [nat_cast_succ]
          exact ih _
  simp (disch := first | assumption | omega | ((repeat' first | exact ok_nil | apply ok_I | apply ok_R); done) | (simp (disch := first | omega | decide) only [ex_ar_same, ex_ar_diff, kM_diff, ex_u_same, ex_u_diff]; first | assumption | omega)) only [ev_2_0, ev_2_2, ev_2_3, ev_2_4, ev_2_5, ev_2_6, gf_35_1, gf_35_12, gf_6_1, gf_6_12, ld_17, ld_46, x_fall, x_goto, x_push, x_ret1, xc_17_35, xc_17_6, xl_a1, xl_i2, xl_i3, xl_i4, xn_3, xt_i2, xt_i3, xt_i4, y_cmp_eq_f, y_cmp_eq_t, y_cmp_ge_f, y_cmp_ge_t, y_if_eq_f, y_if_eq_t, y_if_le_f, y_if_le_t, y_ior, y_ishl, i_wr_id, kM_diff, Int.reduceToNat, ex_ar_same, ex_ar_ar, ex_ar_diff, ex_u_same, ex_u_diff, b2i_t, b2i_f, ex_div_nn, ex_rem_nn, Int.toNat_zero, Int.toNat_one, Int.reduceAdd, Int.reduceSub, Int.reduceMul, Int.reduceNeg, kC_ne, fC_ne]
  exact lp 0 (by omega) _
theorem xc_2 {rt d : Nat} {J : Nat → List ex_V → List ex_V → ex_H → Option ex_R} {is : List Instr} {ls st : List ex_V} {L : Nat} {σ : ex_S} {n : Int → Int} (hR : RG6 σ n) (hN : NI n) (hd : 1 < d) (hok : okN 8 st = true) : ex_xs rt J (ex_cd d) (.invokevirtual 2 :: is) ls (vR 6 :: vR 51 :: st) (SH L, σ) = ex_xs rt J (ex_cd d) is ls (vI (myR n (n 1).toNat) :: st) (SH L, σ) := x_call1 (Or.inl rfl) rfl (sh_51 _) (Or.inl ⟨rfl, rfl⟩) (as := [vR 6]) rfl rfl (okN_ok hok) rfl (sp_2 hd hR hN)
theorem sp_4 {d : Nat} (hd : 1 < d) {L : Nat} {σ : ex_S} {n : Int → Int} {h u : Int} (hR : RG6 σ n) (hN : NI n) (hu : σ 52 h = u) (h0 : 0 ≤ h) (h1 : h < 24) : ex_cd d 4 [vR 51, vR 6, vI h] (SH L, σ) = some ([vI (bsR n (σ 53) u h (n 1).toNat)], (SH L, σ)) := by
  rw [ex_cd_eq (by omega)]
  show ex_ev (d - 1) 4 0 [vR 51, vR 6, vI h, vL 0, vL 0, vL 0] [] (SH L, σ) = _
  have a1 := hN.a1
  have b1 := hN.b1
  have ca := hR.ca
  have lp : ∀ c : Nat, c ≤ (n 1).toNat → ∀ b m : Int, bsR n (σ 53) u h c = b → m = (if b < 0 then 0 else σ 53 b) → 0 ≤ m → ex_ev (d - 1) 4 1 [vR 51, vR 6, vI h, vI b, vI m, vI (c : Int)] [] (SH L, σ) = some ([vI (bsR n (σ 53) u h (n 1).toNat)], (SH L, σ)) := by
    refine down ?_ ?_
    · intro b m hb hm m0
      rw [ev_4_1, hb]
      simp (disch := first | assumption | omega | ((repeat' first | exact ok_nil | apply ok_I | apply ok_R); done) | (simp (disch := first | omega | decide) only [ex_ar_same, ex_ar_diff, kM_diff, ex_u_same, ex_u_diff]; first | assumption | omega)) only [ev_4_0, ev_4_2, ev_4_3, gf_35_1, gf_51_0, gf_51_1, gf_6_1, ld_52, ld_53, x_fall, x_goto, x_push, x_ret1, xc_17_35, xc_17_6, xl_a0, xl_a1, xl_i2, xl_i3, xl_i4, xl_i5, xn_5, xt_i3, xt_i4, xt_i5, y_cmp_ge_f, y_cmp_ge_t, y_cmp_le_f, y_cmp_le_t, y_iand, y_if_ne_f, y_if_ne_t, y_ishr, i_wr_id, kM_diff, Int.reduceToNat, ex_ar_same, ex_ar_ar, ex_ar_diff, ex_u_same, ex_u_diff, b2i_t, b2i_f, ex_div_nn, ex_rem_nn, Int.toNat_zero, Int.toNat_one, Int.reduceAdd, Int.reduceSub, Int.reduceMul, Int.reduceNeg, kC_ne, fC_ne]
    · intro c hc ih b m hb hm m0
      have ez : n (91 + 8 * 3 + (c : Int)) = n (115 + (c : Int)) := by rw [show 91 + 8 * 3 + (c : Int) = 115 + (c : Int) by omega]
      have hs : bsR n (σ 53) u h (c + 1) = if (ex_and (ex_shr u (c : Int)) 1 = 0 ∧ 0 < σ 53 (c : Int) ∧ h < n (115 + (c : Int))) ∧ (b < 0 ∨ σ 53 b < σ 53 (c : Int)) then (c : Int) else b := by rw [bsR, hb]
      have hq : (0 < σ 53 (c : Int) ∧ (b < 0 ∨ σ 53 b < σ 53 (c : Int))) ↔ m < σ 53 (c : Int) := by split at hm <;> omega
      rw [ev_4_1]
      by_cases q1 : m < σ 53 (c : Int)
      · by_cases q2 : ex_and (ex_shr u (c : Int)) 1 = 0
        · by_cases q3 : h < n (115 + (c : Int))
          · rw [if_pos ⟨⟨q2, (hq.mpr q1).1, q3⟩, (hq.mpr q1).2⟩] at hs
            simp (disch := first | assumption | omega | ((repeat' first | exact ok_nil | apply ok_I | apply ok_R); done) | (simp (disch := first | omega | decide) only [ex_ar_same, ex_ar_diff, kM_diff, ex_u_same, ex_u_diff]; first | assumption | omega)) only [ev_4_0, ev_4_2, ev_4_3, ez, gf_35_1, gf_51_0, gf_51_1, gf_6_1, hu, ld_52, ld_53, x_fall, x_goto, x_push, x_ret1, xc_17_35, xc_17_6, xl_a0, xl_a1, xl_i2, xl_i3, xl_i4, xl_i5, xn_5, xt_i3, xt_i4, xt_i5, y_cmp_ge_f, y_cmp_ge_t, y_cmp_le_f, y_cmp_le_t, y_iand, y_if_ne_f, y_if_ne_t, y_ishr, i_wr_id, kM_diff, Int.reduceToNat, ex_ar_same, ex_ar_ar, ex_ar_diff, ex_u_same, ex_u_diff, b2i_t, b2i_f, ex_div_nn, ex_rem_nn, Int.toNat_zero, Int.toNat_one, Int.reduceAdd, Int.reduceSub, Int.reduceMul, Int.reduceNeg, kC_ne, fC_ne]
            rw [nat_cast_succ]
            exact ih _ _ hs (by rw [if_neg (by omega)]) (by omega)
          · rw [if_neg (fun z => q3 z.1.2.2)] at hs
            simp (disch := first | assumption | omega | ((repeat' first | exact ok_nil | apply ok_I | apply ok_R); done) | (simp (disch := first | omega | decide) only [ex_ar_same, ex_ar_diff, kM_diff, ex_u_same, ex_u_diff]; first | assumption | omega)) only [ev_4_0, ev_4_2, ev_4_3, ez, gf_35_1, gf_51_0, gf_51_1, gf_6_1, hu, ld_52, ld_53, x_fall, x_goto, x_push, x_ret1, xc_17_35, xc_17_6, xl_a0, xl_a1, xl_i2, xl_i3, xl_i4, xl_i5, xn_5, xt_i3, xt_i4, xt_i5, y_cmp_ge_f, y_cmp_ge_t, y_cmp_le_f, y_cmp_le_t, y_iand, y_if_ne_f, y_if_ne_t, y_ishr, i_wr_id, kM_diff, Int.reduceToNat, ex_ar_same, ex_ar_ar, ex_ar_diff, ex_u_same, ex_u_diff, b2i_t, b2i_f, ex_div_nn, ex_rem_nn, Int.toNat_zero, Int.toNat_one, Int.reduceAdd, Int.reduceSub, Int.reduceMul, Int.reduceNeg, kC_ne, fC_ne]
            rw [nat_cast_succ]
            exact ih _ _ hs hm m0
        · rw [if_neg (fun z => q2 z.1.1)] at hs
          simp (disch := first | assumption | omega | ((repeat' first | exact ok_nil | apply ok_I | apply ok_R); done) | (simp (disch := first | omega | decide) only [ex_ar_same, ex_ar_diff, kM_diff, ex_u_same, ex_u_diff]; first | assumption | omega)) only [ev_4_0, ev_4_2, ev_4_3, ez, gf_35_1, gf_51_0, gf_51_1, gf_6_1, hu, ld_52, ld_53, x_fall, x_goto, x_push, x_ret1, xc_17_35, xc_17_6, xl_a0, xl_a1, xl_i2, xl_i3, xl_i4, xl_i5, xn_5, xt_i3, xt_i4, xt_i5, y_cmp_ge_f, y_cmp_ge_t, y_cmp_le_f, y_cmp_le_t, y_iand, y_if_ne_f, y_if_ne_t, y_ishr, i_wr_id, kM_diff, Int.reduceToNat, ex_ar_same, ex_ar_ar, ex_ar_diff, ex_u_same, ex_u_diff, b2i_t, b2i_f, ex_div_nn, ex_rem_nn, Int.toNat_zero, Int.toNat_one, Int.reduceAdd, Int.reduceSub, Int.reduceMul, Int.reduceNeg, kC_ne, fC_ne]
          rw [nat_cast_succ]
          exact ih _ _ hs hm m0
      · rw [if_neg (fun z => q1 (hq.mp ⟨z.1.2.1, z.2⟩))] at hs
        simp (disch := first | assumption | omega | ((repeat' first | exact ok_nil | apply ok_I | apply ok_R); done) | (simp (disch := first | omega | decide) only [ex_ar_same, ex_ar_diff, kM_diff, ex_u_same, ex_u_diff]; first | assumption | omega)) only [ev_4_0, ev_4_2, ev_4_3, ez, gf_35_1, gf_51_0, gf_51_1, gf_6_1, hu, ld_52, ld_53, x_fall, x_goto, x_push, x_ret1, xc_17_35, xc_17_6, xl_a0, xl_a1, xl_i2, xl_i3, xl_i4, xl_i5, xn_5, xt_i3, xt_i4, xt_i5, y_cmp_ge_f, y_cmp_ge_t, y_cmp_le_f, y_cmp_le_t, y_iand, y_if_ne_f, y_if_ne_t, y_ishr, i_wr_id, kM_diff, Int.reduceToNat, ex_ar_same, ex_ar_ar, ex_ar_diff, ex_u_same, ex_u_diff, b2i_t, b2i_f, ex_div_nn, ex_rem_nn, Int.toNat_zero, Int.toNat_one, Int.reduceAdd, Int.reduceSub, Int.reduceMul, Int.reduceNeg, kC_ne, fC_ne]
        rw [nat_cast_succ]
        exact ih _ _ hs hm m0
  simp (disch := first | assumption | omega | ((repeat' first | exact ok_nil | apply ok_I | apply ok_R); done) | (simp (disch := first | omega | decide) only [ex_ar_same, ex_ar_diff, kM_diff, ex_u_same, ex_u_diff]; first | assumption | omega)) only [ev_4_0, ev_4_2, ev_4_3, gf_35_1, gf_51_0, gf_51_1, gf_6_1, ld_52, ld_53, x_fall, x_goto, x_push, x_ret1, xc_17_35, xc_17_6, xl_a0, xl_a1, xl_i2, xl_i3, xl_i4, xl_i5, xn_5, xt_i3, xt_i4, xt_i5, y_cmp_ge_f, y_cmp_ge_t, y_cmp_le_f, y_cmp_le_t, y_iand, y_if_ne_f, y_if_ne_t, y_ishr, i_wr_id, kM_diff, Int.reduceToNat, ex_ar_same, ex_ar_ar, ex_ar_diff, ex_u_same, ex_u_diff, b2i_t, b2i_f, ex_div_nn, ex_rem_nn, Int.toNat_zero, Int.toNat_one, Int.reduceAdd, Int.reduceSub, Int.reduceMul, Int.reduceNeg, kC_ne, fC_ne]
  exact lp 0 (by omega) _ _ rfl rfl (by omega)
theorem xc_4 {rt d : Nat} {J : Nat → List ex_V → List ex_V → ex_H → Option ex_R} {is : List Instr} {ls st : List ex_V} {L : Nat} {σ : ex_S} {n : Int → Int} {h u : Int} (hR : RG6 σ n) (hN : NI n) (hu : σ 52 h = u) (h0 : 0 ≤ h) (h1 : h < 24) (hd : 1 < d) (hok : okN 8 st = true) : ex_xs rt J (ex_cd d) (.invokevirtual 4 :: is) ls (vI h :: vR 6 :: vR 51 :: st) (SH L, σ) = ex_xs rt J (ex_cd d) is ls (vI (bsR n (σ 53) u h (n 1).toNat) :: st) (SH L, σ) := x_call1 (Or.inl rfl) rfl (sh_51 _) (Or.inl ⟨rfl, rfl⟩) (as := [vR 6, vI h]) rfl rfl (okN_ok hok) rfl (sp_4 hd hR hN hu h0 h1)
def ctF (f : Int → Int) (u : Int) (j : Nat) : Int → Int := fun c => if 0 ≤ c ∧ c < (j : Int) then f c - bt u c else f c
theorem ctF_0 (f : Int → Int) (u : Int) : ctF f u 0 = f := by funext c; unfold ctF; rw [if_neg (by omega)]
theorem ctF_s (f : Int → Int) (u : Int) (j : Nat) : ex_u (ctF f u j) (j : Int) (f (j : Int) - bt u (j : Int)) = ctF f u (j + 1) := by
  funext k
  by_cases h : k = (j : Int)
  · subst h
    rw [ex_u_same]
    unfold ctF
    rw [if_pos (by omega)]
  · rw [ex_u_diff _ _ h]
    unfold ctF
    by_cases h2 : 0 ≤ k ∧ k < (j : Int)
    · rw [if_pos h2, if_pos (by omega)]
    · rw [if_neg h2, if_neg (by omega)]
theorem sp_5 {d : Nat} (hd : 1 < d) {L : Nat} {σ : ex_S} {n : Int → Int} {u : Int} (hR : RG6 σ n) (hN : NI n) (u0 : 0 ≤ u) (u1 : u < 256) (ok : ∀ c : Int, 0 ≤ c → c < n 1 → 0 ≤ σ 53 c ∧ σ 53 c ≤ 9) : ex_cd d 5 [vR 51, vR 6, vI u] (SH L, σ) = some ([vI (mnR u 8)], (SH L, ex_ar σ 53 (ctF (σ 53) u (n 1).toNat))) := by
  rw [ex_cd_eq (by omega)]
  show ex_ev (d - 1) 5 0 [vR 51, vR 6, vI u, vL 0] [] (SH L, σ) = _
  have a1 := hN.a1
  have b1 := hN.b1
  have ca := hR.ca
  have lp : ∀ c : Nat, c ≤ (n 1).toNat → ex_ev (d - 1) 5 1 [vR 51, vR 6, vI u, vI (c : Int)] [] (SH L, ex_ar σ 53 (ctF (σ 53) u c)) = some ([vI (mnR u 8)], (SH L, ex_ar σ 53 (ctF (σ 53) u (n 1).toNat))) := by
    refine down ?_ ?_
    · rw [ev_5_1]
      simp (disch := first | assumption | omega | ((repeat' first | exact ok_nil | apply ok_I | apply ok_R); done) | (simp (disch := first | omega | decide) only [ex_ar_same, ex_ar_diff, kM_diff, ex_u_same, ex_u_diff]; first | assumption | omega)) only [ev_5_0, ev_5_2, gf_35_1, gf_51_1, gf_6_1, ld_53, sd_53, x_dup2, x_fall, x_goto, x_push, x_ret1, xc_235, xl_a0, xl_a1, xl_i2, xl_i3, xn_3, xt_i3, y_cmp_ge_f, y_cmp_ge_t, y_iand, y_ishr, y_isub, i_wr_id, kM_diff, Int.reduceToNat, ex_ar_same, ex_ar_ar, ex_ar_diff, ex_u_same, ex_u_diff, b2i_t, b2i_f, ex_div_nn, ex_rem_nn, Int.toNat_zero, Int.toNat_one, Int.reduceAdd, Int.reduceSub, Int.reduceMul, Int.reduceNeg, kC_ne, fC_ne]
    · intro c hc ih
      have o := ok c (by omega) (by omega)
      have t := bt_01 u0 u1 (show 0 ≤ (c : Int) by omega) (by omega)
      have e : ctF (σ 53) u c (c : Int) = σ 53 (c : Int) := by unfold ctF; rw [if_neg (by omega)]
      have e2 : ex_wr (σ 53 (c : Int) - ex_and (ex_shr u (c : Int)) 1) = σ 53 (c : Int) - bt u (c : Int) := i_wr_id (by unfold bt at t; omega) (by unfold bt at t; omega)
      have e3 : ex_wr ((c : Int) + 1) = (c : Int) + 1 := i_wr_id (by omega) (by omega)
      rw [ev_5_1]
      simp (disch := first | assumption | omega | ((repeat' first | exact ok_nil | apply ok_I | apply ok_R); done) | (simp (disch := first | omega | decide) only [ex_ar_same, ex_ar_diff, kM_diff, ex_u_same, ex_u_diff]; first | assumption | omega)) only [e, e2, e3, ev_5_0, ev_5_2, gf_35_1, gf_51_1, gf_6_1, ld_53, sd_53, x_dup2, x_fall, x_goto, x_push, x_ret1, xc_235, xl_a0, xl_a1, xl_i2, xl_i3, xn_3, xt_i3, y_cmp_ge_f, y_cmp_ge_t, y_iand, y_ishr, y_isub, kM_diff, Int.reduceToNat, ex_ar_same, ex_ar_ar, ex_ar_diff, ex_u_same, ex_u_diff, b2i_t, b2i_f, ex_div_nn, ex_rem_nn, Int.toNat_zero, Int.toNat_one, Int.reduceAdd, Int.reduceSub, Int.reduceMul, Int.reduceNeg, kC_ne, fC_ne]
      rw [ctF_s, nat_cast_succ]
      exact ih
  simp (disch := first | assumption | omega | ((repeat' first | exact ok_nil | apply ok_I | apply ok_R); done) | (simp (disch := first | omega | decide) only [ex_ar_same, ex_ar_diff, kM_diff, ex_u_same, ex_u_diff]; first | assumption | omega)) only [ev_5_0, ev_5_2, gf_35_1, gf_51_1, gf_6_1, ld_53, sd_53, x_dup2, x_fall, x_goto, x_push, x_ret1, xc_235, xl_a0, xl_a1, xl_i2, xl_i3, xn_3, xt_i3, y_cmp_ge_f, y_cmp_ge_t, y_iand, y_ishr, y_isub, i_wr_id, kM_diff, Int.reduceToNat, ex_ar_same, ex_ar_ar, ex_ar_diff, ex_u_same, ex_u_diff, b2i_t, b2i_f, ex_div_nn, ex_rem_nn, Int.toNat_zero, Int.toNat_one, Int.reduceAdd, Int.reduceSub, Int.reduceMul, Int.reduceNeg, kC_ne, fC_ne]
  have := lp 0 (by omega)
  rw [ctF_0, ex_ar_id] at this
  exact this
theorem xc_5 {rt d : Nat} {J : Nat → List ex_V → List ex_V → ex_H → Option ex_R} {is : List Instr} {ls st : List ex_V} {L : Nat} {σ : ex_S} {n : Int → Int} {u : Int} (hR : RG6 σ n) (hN : NI n) (u0 : 0 ≤ u) (u1 : u < 256) (ok : ∀ c : Int, 0 ≤ c → c < n 1 → 0 ≤ σ 53 c ∧ σ 53 c ≤ 9) (hd : 1 < d) (hok : okN 8 st = true) : ex_xs rt J (ex_cd d) (.invokevirtual 5 :: is) ls (vI u :: vR 6 :: vR 51 :: st) (SH L, σ) = ex_xs rt J (ex_cd d) is ls (vI (mnR u 8) :: st) (SH L, ex_ar σ 53 (ctF (σ 53) u (n 1).toNat)) := x_call1 (Or.inl rfl) rfl (sh_51 _) (Or.inl ⟨rfl, rfl⟩) (as := [vR 6, vI u]) rfl rfl (okN_ok hok) rfl (sp_5 hd hR hN u0 u1 ok)
