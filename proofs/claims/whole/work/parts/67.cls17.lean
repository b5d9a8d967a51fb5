/-! the class: harm -/
theorem led_4 {σ : ex_S} {n : Int → Int} (hD : RD5 σ n) {k c : Int} (k0 : 0 ≤ k) (k1 : k < n 8) (c0 : 0 ≤ c) (c1 : c < 8) : n (171 + k) = 64 + c ↔ (σ 19 k = c ∧ σ 20 k = 4) := by
  obtain ⟨a, b, e⟩ := hD.le k k0 k1
  split at e <;> omega
theorem led_5 {σ : ex_S} {n : Int → Int} (hD : RD5 σ n) {k c : Int} (k0 : 0 ≤ k) (k1 : k < n 8) (c0 : 0 ≤ c) (c1 : c < 8) : n (171 + k) = 72 + c ↔ (σ 19 k = c ∧ σ 20 k = 5) := by
  obtain ⟨a, b, e⟩ := hD.le k k0 k1
  split at e <;> omega
theorem led_p {σ : ex_S} {n : Int → Int} (hD : RD5 σ n) {k c p : Int} (k0 : 0 ≤ k) (k1 : k < n 8) (c0 : 0 ≤ c) (c1 : c < 8) (p0 : 0 ≤ p) (p1 : p ≤ 3) : n (171 + k) = c + 8 * p ↔ (σ 19 k = c ∧ σ 20 k = p) := by
  obtain ⟨a, b, e⟩ := hD.le k k0 k1
  split at e <;> omega
theorem sp_47 {d : Nat} (hd : 0 < d) {L : Nat} {σ : ex_S} {n : Int → Int} {c : Int} (hD : RD5 σ n) (hN : NI n) (c0 : 0 ≤ c) (c1 : c < 8) : ex_cd d 47 [vR 18, vI c] (SH L, σ) = some ([vI (harN n c)], (SH L, σ)) := by
  rw [ex_cd_eq (by omega)]
  show ex_ev (d - 1) 47 0 [vR 18, vI c, vL 0] [] (SH L, σ) = _
  have a8 := hN.a8
  have b8 := hN.b8
  have lc := hD.lc
  have lp : ∀ k : Nat, k ≤ (n 8).toNat → ∀ i : Int, i = (k : Int) - 1 → ex_ev (d - 1) 47 1 [vR 18, vI c, vI i] [] (SH L, σ) = some ([vI (harF n c k)], (SH L, σ)) := by
    intro k
    induction k with
    | zero =>
      intro _ i hi
      rw [ev_47_1]
      simp (disch := first | assumption | omega | ((repeat' first | exact ok_nil | apply ok_I | apply ok_R); done) | (simp (disch := first | omega | decide) only [ex_ar_same, ex_ar_diff, kM_diff, ex_u_same, ex_u_diff]; first | assumption | omega)) only [ev_47_0, ev_47_2, ev_47_3, gf_18_0, gf_18_1, gf_18_2, ld_19, ld_20, x_fall, x_goto, x_push, x_ret1, xl_a0, xl_i1, xl_i2, xn_2, xt_i2, y_cmp_ne_f, y_cmp_ne_t, y_if_lt_f, y_if_lt_t, y_isub, i_wr_id, kM_diff, Int.reduceToNat, ex_ar_same, ex_ar_ar, ex_ar_diff, ex_u_same, ex_u_diff, b2i_t, b2i_f, ex_div_nn, ex_rem_nn, Int.toNat_zero, Int.toNat_one, Int.reduceAdd, Int.reduceSub, Int.reduceMul, Int.reduceNeg, kC_ne, fC_ne]
      rfl
    | succ k ih =>
      intro hk i hi
      have e : i = (k : Int) := by omega
      subst e
      have l4 := led_4 hD (k := (k : Int)) (by omega) (by omega) c0 c1
      rw [harF, ev_47_1]
      by_cases z : n (171 + (k : Int)) = 64 + c
      · rw [if_pos z]
        obtain ⟨z1, z2⟩ := l4.mp z
        simp (disch := first | assumption | omega | ((repeat' first | exact ok_nil | apply ok_I | apply ok_R); done) | (simp (disch := first | omega | decide) only [ex_ar_same, ex_ar_diff, kM_diff, ex_u_same, ex_u_diff]; first | assumption | omega)) only [ev_47_0, ev_47_2, ev_47_3, gf_18_0, gf_18_1, gf_18_2, ld_19, ld_20, x_fall, x_goto, x_push, x_ret1, xl_a0, xl_i1, xl_i2, xn_2, xt_i2, y_cmp_ne_f, y_cmp_ne_t, y_if_lt_f, y_if_lt_t, y_isub, i_wr_id, kM_diff, Int.reduceToNat, ex_ar_same, ex_ar_ar, ex_ar_diff, ex_u_same, ex_u_diff, b2i_t, b2i_f, ex_div_nn, ex_rem_nn, Int.toNat_zero, Int.toNat_one, Int.reduceAdd, Int.reduceSub, Int.reduceMul, Int.reduceNeg, kC_ne, fC_ne]
      · rw [if_neg z]
        (repeat' first | simp (disch := first | assumption | omega | ((repeat' first | exact ok_nil | apply ok_I | apply ok_R); done) | (simp (disch := first | omega | decide) only [ex_ar_same, ex_ar_diff, kM_diff, ex_u_same, ex_u_diff]; first | assumption | omega)) only [ev_47_0, ev_47_2, ev_47_3, gf_18_0, gf_18_1, gf_18_2, ld_19, ld_20, x_fall, x_goto, x_push, x_ret1, xl_a0, xl_i1, xl_i2, xn_2, xt_i2, y_cmp_ne_f, y_cmp_ne_t, y_if_lt_f, y_if_lt_t, y_isub, i_wr_id, kM_diff, Int.reduceToNat, ex_ar_same, ex_ar_ar, ex_ar_diff, ex_u_same, ex_u_diff, b2i_t, b2i_f, ex_div_nn, ex_rem_nn, Int.toNat_zero, Int.toNat_one, Int.reduceAdd, Int.reduceSub, Int.reduceMul, Int.reduceNeg, kC_ne, fC_ne] | refine bb_eq (fun _ => ?_) (fun _ => ?_) | refine bb_ne (fun _ => ?_) (fun _ => ?_) | refine bc_eq (fun _ => ?_) (fun _ => ?_) | refine bc_ne (fun _ => ?_) (fun _ => ?_) | refine bc_lt (fun _ => ?_) (fun _ => ?_) | refine bc_ge (fun _ => ?_) (fun _ => ?_) | refine bc_gt (fun _ => ?_) (fun _ => ?_) | refine bc_le (fun _ => ?_) (fun _ => ?_) | refine bi_eq (fun _ => ?_) (fun _ => ?_) | refine bi_ne (fun _ => ?_) (fun _ => ?_) | refine bi_lt (fun _ => ?_) (fun _ => ?_) | refine bi_ge (fun _ => ?_) (fun _ => ?_) | refine bi_gt (fun _ => ?_) (fun _ => ?_) | refine bi_le (fun _ => ?_) (fun _ => ?_))
        all_goals first | exact ih (by omega) _ (by omega) | exact absurd (l4.mpr ⟨by assumption, by assumption⟩) z
  simp (disch := first | assumption | omega | ((repeat' first | exact ok_nil | apply ok_I | apply ok_R); done) | (simp (disch := first | omega | decide) only [ex_ar_same, ex_ar_diff, kM_diff, ex_u_same, ex_u_diff]; first | assumption | omega)) only [ev_47_0, ev_47_2, ev_47_3, gf_18_0, gf_18_1, gf_18_2, ld_19, ld_20, x_fall, x_goto, x_push, x_ret1, xl_a0, xl_i1, xl_i2, xn_2, xt_i2, y_cmp_ne_f, y_cmp_ne_t, y_if_lt_f, y_if_lt_t, y_isub, i_wr_id, kM_diff, Int.reduceToNat, ex_ar_same, ex_ar_ar, ex_ar_diff, ex_u_same, ex_u_diff, b2i_t, b2i_f, ex_div_nn, ex_rem_nn, Int.toNat_zero, Int.toNat_one, Int.reduceAdd, Int.reduceSub, Int.reduceMul, Int.reduceNeg, kC_ne, fC_ne]
  exact lp (n 8).toNat (by omega) _ (by omega)
theorem xc_47 {rt d : Nat} {J : Nat → List ex_V → List ex_V → ex_H → Option ex_R} {is : List Instr} {ls st : List ex_V} {L : Nat} {σ : ex_S} {n : Int → Int} {c : Int} (hD : RD5 σ n) (hN : NI n) (c0 : 0 ≤ c) (c1 : c < 8) (hd : 0 < d) (hok : okN 8 st = true) : ex_xs rt J (ex_cd d) (.invokevirtual 47 :: is) ls (vI c :: vR 18 :: st) (SH L, σ) = ex_xs rt J (ex_cd d) is ls (vI (harN n c) :: st) (SH L, σ) := x_call1 (Or.inl rfl) rfl (sh_18 _) (Or.inl ⟨rfl, rfl⟩) (as := [vI c]) rfl rfl (okN_ok hok) rfl (sp_47 hd hD hN c0 c1)
theorem sp_48 {d : Nat} (hd : 0 < d) {L : Nat} {σ : ex_S} {n : Int → Int} {c f : Int} (hD : RD5 σ n) (hN : NI n) (c0 : 0 ≤ c) (c1 : c < 8) (f0 : 0 ≤ f) (f1 : f < n 8) : ex_cd d 48 [vR 18, vI c, vI f] (SH L, σ) = some ([vI (if ((harT n c (f + 1).toNat ((n 8).toNat - (f + 1).toNat) : Nat) : Int) = n 8 then -1 else ((harT n c (f + 1).toNat ((n 8).toNat - (f + 1).toNat) : Nat) : Int))], (SH L, σ)) := by
  rw [ex_cd_eq (by omega)]
  show ex_ev (d - 1) 48 0 [vR 18, vI c, vI f, vL 0] [] (SH L, σ) = _
  have a8 := hN.a8
  have b8 := hN.b8
  have lc := hD.lc
  have lp : ∀ i : Nat, i ≤ (n 8).toNat → ex_ev (d - 1) 48 1 [vR 18, vI c, vI f, vI (i : Int)] [] (SH L, σ) = some ([vI (if ((harT n c i ((n 8).toNat - i) : Nat) : Int) = n 8 then -1 else ((harT n c i ((n 8).toNat - i) : Nat) : Int))], (SH L, σ)) := by
    refine down ?_ ?_
    · rw [Nat.sub_self, harT, if_pos (by omega), ev_48_1]
      simp (disch := first | assumption | omega | ((repeat' first | exact ok_nil | apply ok_I | apply ok_R); done) | (simp (disch := first | omega | decide) only [ex_ar_same, ex_ar_diff, kM_diff, ex_u_same, ex_u_diff]; first | assumption | omega)) only [ev_48_0, ev_48_2, ev_48_3, gf_18_0, gf_18_1, gf_18_2, ld_19, ld_20, x_fall, x_goto, x_push, x_ret1, xl_a0, xl_i1, xl_i2, xl_i3, xn_3, xt_i3, y_cmp_ge_f, y_cmp_ge_t, y_cmp_ne_f, y_cmp_ne_t, y_iadd, i_wr_id, kM_diff, Int.reduceToNat, ex_ar_same, ex_ar_ar, ex_ar_diff, ex_u_same, ex_u_diff, b2i_t, b2i_f, ex_div_nn, ex_rem_nn, Int.toNat_zero, Int.toNat_one, Int.reduceAdd, Int.reduceSub, Int.reduceMul, Int.reduceNeg, kC_ne, fC_ne]
    · intro i hi ih
      have l5 := led_5 hD (k := (i : Int)) (by omega) (by omega) c0 c1
      rw [show (n 8).toNat - i = ((n 8).toNat - (i + 1)) + 1 by omega, harT, ev_48_1]
      by_cases z : n (171 + (i : Int)) = 72 + c
      · rw [if_pos z, if_neg (by omega)]
        obtain ⟨z1, z2⟩ := l5.mp z
        simp (disch := first | assumption | omega | ((repeat' first | exact ok_nil | apply ok_I | apply ok_R); done) | (simp (disch := first | omega | decide) only [ex_ar_same, ex_ar_diff, kM_diff, ex_u_same, ex_u_diff]; first | assumption | omega)) only [ev_48_0, ev_48_2, ev_48_3, gf_18_0, gf_18_1, gf_18_2, ld_19, ld_20, x_fall, x_goto, x_push, x_ret1, xl_a0, xl_i1, xl_i2, xl_i3, xn_3, xt_i3, y_cmp_ge_f, y_cmp_ge_t, y_cmp_ne_f, y_cmp_ne_t, y_iadd, i_wr_id, kM_diff, Int.reduceToNat, ex_ar_same, ex_ar_ar, ex_ar_diff, ex_u_same, ex_u_diff, b2i_t, b2i_f, ex_div_nn, ex_rem_nn, Int.toNat_zero, Int.toNat_one, Int.reduceAdd, Int.reduceSub, Int.reduceMul, Int.reduceNeg, kC_ne, fC_ne]
      · rw [if_neg z]
        (repeat' first | simp (disch := first | assumption | omega | ((repeat' first | exact ok_nil | apply ok_I | apply ok_R); done) | (simp (disch := first | omega | decide) only [ex_ar_same, ex_ar_diff, kM_diff, ex_u_same, ex_u_diff]; first | assumption | omega)) only [ev_48_0, ev_48_2, ev_48_3, gf_18_0, gf_18_1, gf_18_2, ld_19, ld_20, x_fall, x_goto, x_push, x_ret1, xl_a0, xl_i1, xl_i2, xl_i3, xn_3, xt_i3, y_cmp_ge_f, y_cmp_ge_t, y_cmp_ne_f, y_cmp_ne_t, y_iadd, i_wr_id, kM_diff, Int.reduceToNat, ex_ar_same, ex_ar_ar, ex_ar_diff, ex_u_same, ex_u_diff, b2i_t, b2i_f, ex_div_nn, ex_rem_nn, Int.toNat_zero, Int.toNat_one, Int.reduceAdd, Int.reduceSub, Int.reduceMul, Int.reduceNeg, kC_ne, fC_ne] | refine bb_eq (fun _ => ?_) (fun _ => ?_) | refine bb_ne (fun _ => ?_) (fun _ => ?_) | refine bc_eq (fun _ => ?_) (fun _ => ?_) | refine bc_ne (fun _ => ?_) (fun _ => ?_) | refine bc_lt (fun _ => ?_) (fun _ => ?_) | refine bc_ge (fun _ => ?_) (fun _ => ?_) | refine bc_gt (fun _ => ?_) (fun _ => ?_) | refine bc_le (fun _ => ?_) (fun _ => ?_) | refine bi_eq (fun _ => ?_) (fun _ => ?_) | refine bi_ne (fun _ => ?_) (fun _ => ?_) | refine bi_lt (fun _ => ?_) (fun _ => ?_) | refine bi_ge (fun _ => ?_) (fun _ => ?_) | refine bi_gt (fun _ => ?_) (fun _ => ?_) | refine bi_le (fun _ => ?_) (fun _ => ?_))
        all_goals first | (rw [nat_cast_succ]; exact ih) | exact absurd (l5.mpr ⟨by assumption, by assumption⟩) z
  have := lp (f + 1).toNat (by omega)
  rw [show (((f + 1).toNat : Nat) : Int) = f + 1 by omega] at this
  simp (disch := first | assumption | omega | ((repeat' first | exact ok_nil | apply ok_I | apply ok_R); done) | (simp (disch := first | omega | decide) only [ex_ar_same, ex_ar_diff, kM_diff, ex_u_same, ex_u_diff]; first | assumption | omega)) only [ev_48_0, ev_48_2, ev_48_3, gf_18_0, gf_18_1, gf_18_2, ld_19, ld_20, x_fall, x_goto, x_push, x_ret1, xl_a0, xl_i1, xl_i2, xl_i3, xn_3, xt_i3, y_cmp_ge_f, y_cmp_ge_t, y_cmp_ne_f, y_cmp_ne_t, y_iadd, i_wr_id, kM_diff, Int.reduceToNat, ex_ar_same, ex_ar_ar, ex_ar_diff, ex_u_same, ex_u_diff, b2i_t, b2i_f, ex_div_nn, ex_rem_nn, Int.toNat_zero, Int.toNat_one, Int.reduceAdd, Int.reduceSub, Int.reduceMul, Int.reduceNeg, kC_ne, fC_ne]
  exact this
theorem xc_48 {rt d : Nat} {J : Nat → List ex_V → List ex_V → ex_H → Option ex_R} {is : List Instr} {ls st : List ex_V} {L : Nat} {σ : ex_S} {n : Int → Int} {c f : Int} (hD : RD5 σ n) (hN : NI n) (c0 : 0 ≤ c) (c1 : c < 8) (f0 : 0 ≤ f) (f1 : f < n 8) (hd : 0 < d) (hok : okN 8 st = true) : ex_xs rt J (ex_cd d) (.invokevirtual 48 :: is) ls (vI f :: vI c :: vR 18 :: st) (SH L, σ) = ex_xs rt J (ex_cd d) is ls (vI (if ((harT n c (f + 1).toNat ((n 8).toNat - (f + 1).toNat) : Nat) : Int) = n 8 then -1 else ((harT n c (f + 1).toNat ((n 8).toNat - (f + 1).toNat) : Nat) : Int)) :: st) (SH L, σ) := x_call1 (Or.inl rfl) rfl (sh_18 _) (Or.inl ⟨rfl, rfl⟩) (as := [vI c, vI f]) rfl rfl (okN_ok hok) rfl (sp_48 hd hD hN c0 c1 f0 f1)
/-- shunts of a car by a porter -/
def sbN (n : Int → Int) (c p lo : Int) : Nat → Int
  | 0 => 0
  | j + 1 => sbN n c p lo j + (if n (171 + (lo + (j : Int))) = c + 8 * p then 1 else 0)
theorem sbN_bd (n : Int → Int) (c p lo : Int) : ∀ j : Nat, 0 ≤ sbN n c p lo j ∧ sbN n c p lo j ≤ (j : Int)
  | 0 => ⟨Int.le_refl 0, Int.le_refl 0⟩
  | j + 1 => by
    have ih := sbN_bd n c p lo j
    rw [sbN]
    split <;> omega
theorem sbN_front (n : Int → Int) (c p lo : Int) : ∀ j : Nat, sbN n c p lo (j + 1) = (if n (171 + lo) = c + 8 * p then 1 else 0) + sbN n c p (lo + 1) j
  | 0 => by
    rw [sbN, sbN, sbN, show lo + ((0 : Nat) : Int) = lo by omega]
    omega
  | j + 1 => by
    rw [sbN, sbN_front n c p lo j, sbN, show lo + ((j + 1 : Nat) : Int) = lo + 1 + (j : Int) by omega]
    omega
theorem harB_sb {n : Int → Int} (hN : NI n) {c f : Int} (c0 : 0 ≤ c) (c1 : c < 8) (f0 : 0 ≤ f) : ∀ j : Nat, f + (j : Int) ≤ n 8 → (∀ p : Int, 0 ≤ p → p ≤ 3 → (harB n c f j).1 p = sbN n c p f j) ∧ (harB n c f j).2 = sbN n c 0 f j + sbN n c 1 f j + sbN n c 2 f j + sbN n c 3 f j
  | 0, _ => ⟨fun _ _ _ => rfl, rfl⟩
  | j + 1, h => by
    obtain ⟨i1, i2⟩ := harB_sb hN c0 c1 f0 j (by omega)
    have le := hN.le (f + (j : Int)) (by omega) (by omega)
    rw [harB]
    by_cases z : harC n c (f + (j : Int))
    · rw [if_pos z]
      dsimp only
      obtain ⟨z1, z2⟩ := z
      refine ⟨fun p p0 p1 => ?_, ?_⟩
      · rw [sbN]
        by_cases y : p = n (171 + (f + (j : Int))) / 8
        · rw [← y, ex_u_same, if_pos (by omega), i1 p p0 p1]
        · rw [ex_u_diff _ _ y, if_neg (by omega), i1 p p0 p1]; omega
      · rw [sbN, sbN, sbN, sbN, i2]
        rcases (show n (171 + (f + (j : Int))) = c + 8 * 0 ∨ n (171 + (f + (j : Int))) = c + 8 * 1 ∨ n (171 + (f + (j : Int))) = c + 8 * 2 ∨ n (171 + (f + (j : Int))) = c + 8 * 3 by omega) with e | e | e | e
        · rw [if_pos e, if_neg (by omega), if_neg (by omega), if_neg (by omega)]; omega
        · rw [if_neg (by omega), if_pos e, if_neg (by omega), if_neg (by omega)]; omega
        · rw [if_neg (by omega), if_neg (by omega), if_pos e, if_neg (by omega)]; omega
        · rw [if_neg (by omega), if_neg (by omega), if_neg (by omega), if_pos e]; omega
    · rw [if_neg z]
      have ne : ∀ p : Int, 0 ≤ p → p ≤ 3 → ¬ n (171 + (f + (j : Int))) = c + 8 * p := fun p p0 p1 e => z ⟨by omega, by omega⟩
      refine ⟨fun p p0 p1 => ?_, ?_⟩
      · rw [sbN, if_neg (ne p p0 p1), i1 p p0 p1]; omega
      · rw [sbN, sbN, sbN, sbN, i2, if_neg (ne 0 (by decide) (by decide)), if_neg (ne 1 (by decide) (by decide)), if_neg (ne 2 (by decide) (by decide)), if_neg (ne 3 (by decide) (by decide))]; omega
theorem sp_49 {d : Nat} (hd : 0 < d) {L : Nat} {σ : ex_S} {n : Int → Int} {p c f t : Int} (hD : RD5 σ n) (hN : NI n) (c0 : 0 ≤ c) (c1 : c < 8) (p0 : 0 ≤ p) (p1 : p ≤ 3) (f0 : 0 ≤ f) (f1 : f < t) (t1 : t ≤ n 8) : ex_cd d 49 [vR 18, vI p, vI c, vI f, vI t] (SH L, σ) = some ([vI (sbN n c p (f + 1) (t - (f + 1)).toNat)], (SH L, σ)) := by
  rw [ex_cd_eq (by omega)]
  show ex_ev (d - 1) 49 0 [vR 18, vI p, vI c, vI f, vI t, vL 0, vL 0] [] (SH L, σ) = _
  have b8 := hN.b8
  have lp : ∀ j : Nat, j ≤ (t - (f + 1)).toNat → ∀ i : Int, i = f + 1 + (j : Int) → ex_ev (d - 1) 49 1 [vR 18, vI p, vI c, vI f, vI t, vI (sbN n c p (f + 1) j), vI i] [] (SH L, σ) = some ([vI (sbN n c p (f + 1) (t - (f + 1)).toNat)], (SH L, σ)) := by
    refine down ?_ ?_
    · intro i hi
      rw [ev_49_1]
      simp (disch := first | assumption | omega | ((repeat' first | exact ok_nil | apply ok_I | apply ok_R); done) | (simp (disch := first | omega | decide) only [ex_ar_same, ex_ar_diff, kM_diff, ex_u_same, ex_u_diff]; first | assumption | omega)) only [ev_49_0, ev_49_2, ev_49_3, ev_49_4, gf_18_1, gf_18_2, ld_19, ld_20, x_fall, x_goto, x_push, x_ret1, xl_a0, xl_i1, xl_i2, xl_i3, xl_i4, xl_i5, xl_i6, xn_6, xt_i5, xt_i6, y_cmp_ge_f, y_cmp_ge_t, y_cmp_ne_f, y_cmp_ne_t, y_iadd, i_wr_id, kM_diff, Int.reduceToNat, ex_ar_same, ex_ar_ar, ex_ar_diff, ex_u_same, ex_u_diff, b2i_t, b2i_f, ex_div_nn, ex_rem_nn, Int.toNat_zero, Int.toNat_one, Int.reduceAdd, Int.reduceSub, Int.reduceMul, Int.reduceNeg, kC_ne, fC_ne]
    · intro j hj ih i hi
      have lq := led_p hD (k := i) (c := c) (p := p) (by omega) (by omega) c0 c1 p0 p1
      have bd := sbN_bd n c p (f + 1) j
      rw [sbN, ← hi] at ih
      rw [ev_49_1]
      by_cases z : n (171 + i) = c + 8 * p
      · rw [if_pos z] at ih
        obtain ⟨z1, z2⟩ := lq.mp z
        simp (disch := first | assumption | omega | ((repeat' first | exact ok_nil | apply ok_I | apply ok_R); done) | (simp (disch := first | omega | decide) only [ex_ar_same, ex_ar_diff, kM_diff, ex_u_same, ex_u_diff]; first | assumption | omega)) only [ev_49_0, ev_49_2, ev_49_3, ev_49_4, gf_18_1, gf_18_2, ld_19, ld_20, x_fall, x_goto, x_push, x_ret1, xl_a0, xl_i1, xl_i2, xl_i3, xl_i4, xl_i5, xl_i6, xn_6, xt_i5, xt_i6, y_cmp_ge_f, y_cmp_ge_t, y_cmp_ne_f, y_cmp_ne_t, y_iadd, i_wr_id, kM_diff, Int.reduceToNat, ex_ar_same, ex_ar_ar, ex_ar_diff, ex_u_same, ex_u_diff, b2i_t, b2i_f, ex_div_nn, ex_rem_nn, Int.toNat_zero, Int.toNat_one, Int.reduceAdd, Int.reduceSub, Int.reduceMul, Int.reduceNeg, kC_ne, fC_ne]
        exact ih _ (by omega)
      · rw [if_neg z] at ih
        (repeat' first | simp (disch := first | assumption | omega | ((repeat' first | exact ok_nil | apply ok_I | apply ok_R); done) | (simp (disch := first | omega | decide) only [ex_ar_same, ex_ar_diff, kM_diff, ex_u_same, ex_u_diff]; first | assumption | omega)) only [ev_49_0, ev_49_2, ev_49_3, ev_49_4, gf_18_1, gf_18_2, ld_19, ld_20, x_fall, x_goto, x_push, x_ret1, xl_a0, xl_i1, xl_i2, xl_i3, xl_i4, xl_i5, xl_i6, xn_6, xt_i5, xt_i6, y_cmp_ge_f, y_cmp_ge_t, y_cmp_ne_f, y_cmp_ne_t, y_iadd, i_wr_id, kM_diff, Int.reduceToNat, ex_ar_same, ex_ar_ar, ex_ar_diff, ex_u_same, ex_u_diff, b2i_t, b2i_f, ex_div_nn, ex_rem_nn, Int.toNat_zero, Int.toNat_one, Int.reduceAdd, Int.reduceSub, Int.reduceMul, Int.reduceNeg, kC_ne, fC_ne] | refine bb_eq (fun _ => ?_) (fun _ => ?_) | refine bb_ne (fun _ => ?_) (fun _ => ?_) | refine bc_eq (fun _ => ?_) (fun _ => ?_) | refine bc_ne (fun _ => ?_) (fun _ => ?_) | refine bc_lt (fun _ => ?_) (fun _ => ?_) | refine bc_ge (fun _ => ?_) (fun _ => ?_) | refine bc_gt (fun _ => ?_) (fun _ => ?_) | refine bc_le (fun _ => ?_) (fun _ => ?_) | refine bi_eq (fun _ => ?_) (fun _ => ?_) | refine bi_ne (fun _ => ?_) (fun _ => ?_) | refine bi_lt (fun _ => ?_) (fun _ => ?_) | refine bi_ge (fun _ => ?_) (fun _ => ?_) | refine bi_gt (fun _ => ?_) (fun _ => ?_) | refine bi_le (fun _ => ?_) (fun _ => ?_))
        all_goals first | exact ih _ (by omega) | exact absurd (lq.mpr ⟨by assumption, by assumption⟩) z
  simp (disch := first | assumption | omega | ((repeat' first | exact ok_nil | apply ok_I | apply ok_R); done) | (simp (disch := first | omega | decide) only [ex_ar_same, ex_ar_diff, kM_diff, ex_u_same, ex_u_diff]; first | assumption | omega)) only [ev_49_0, ev_49_2, ev_49_3, ev_49_4, gf_18_1, gf_18_2, ld_19, ld_20, x_fall, x_goto, x_push, x_ret1, xl_a0, xl_i1, xl_i2, xl_i3, xl_i4, xl_i5, xl_i6, xn_6, xt_i5, xt_i6, y_cmp_ge_f, y_cmp_ge_t, y_cmp_ne_f, y_cmp_ne_t, y_iadd, i_wr_id, kM_diff, Int.reduceToNat, ex_ar_same, ex_ar_ar, ex_ar_diff, ex_u_same, ex_u_diff, b2i_t, b2i_f, ex_div_nn, ex_rem_nn, Int.toNat_zero, Int.toNat_one, Int.reduceAdd, Int.reduceSub, Int.reduceMul, Int.reduceNeg, kC_ne, fC_ne]
  exact lp 0 (by omega) _ (by omega)
theorem xc_49 {rt d : Nat} {J : Nat → List ex_V → List ex_V → ex_H → Option ex_R} {is : List Instr} {ls st : List ex_V} {L : Nat} {σ : ex_S} {n : Int → Int} {p c f t : Int} (hD : RD5 σ n) (hN : NI n) (c0 : 0 ≤ c) (c1 : c < 8) (p0 : 0 ≤ p) (p1 : p ≤ 3) (f0 : 0 ≤ f) (f1 : f < t) (t1 : t ≤ n 8) (hd : 0 < d) (hok : okN 8 st = true) : ex_xs rt J (ex_cd d) (.invokevirtual 49 :: is) ls (vI t :: vI f :: vI c :: vI p :: vR 18 :: st) (SH L, σ) = ex_xs rt J (ex_cd d) is ls (vI (sbN n c p (f + 1) (t - (f + 1)).toNat) :: st) (SH L, σ) := x_call1 (Or.inl rfl) rfl (sh_18 _) (Or.inl ⟨rfl, rfl⟩) (as := [vI p, vI c, vI f, vI t]) rfl rfl (okN_ok hok) rfl (sp_49 hd hD hN c0 c1 p0 p1 f0 f1 t1)
