/-! the class: shunts tried, taken back -/
theorem keyR_cg {n n' : Int → Int} (c h : Int) : ∀ i : Nat, (∀ k : Int, 0 ≤ k → k < (i : Int) → n' (247 + k) = n (247 + k)) → keyR n' c h i = keyR n c h i
  | 0, _ => rfl
  | i + 1, hh => by
    rw [keyR, keyR, keyR_cg c h i (fun k k0 k1 => hh k k0 (by omega))]
    unfold keyF
    rw [hh (i : Int) (by omega) (by omega)]
/-- the keys at hand, told as bits -/
def KB (K : Int) (n : Int → Int) : Prop := ∀ c : Int, 0 ≤ c → c < n 1 → ex_and (ex_shr K c) 1 = b2i (keyP n c (n 2) (n 10))
theorem KB_does {K : Int} {n : Int → Int} (hN : NI n) (hK : KB K n) {c l : Int} (h3 : 0 ≤ l) (h4 : l < 5) (h5 : 0 ≤ standN n c) : KB K (doesF n c l) := by
  have e := fun (k : Int) (hk : k < 41 ∨ 91 ≤ k) => doesF_lo hN h3 h4 h5 hk (c := c)
  intro x x0 x1
  rw [e 1 (by omega)] at x1
  rw [hK x x0 x1]
  refine b2i_iff ?_
  unfold keyP
  rw [e 2 (by omega), e 10 (by omega), keyR_cg x (n 2) (n 10).toNat (fun k k0 k1 => e _ (by omega))]
/-- a shunt in the garage at G -/
def mvS (G : Nat) (σ : ex_S) (n : Int → Int) (c l : Int) : ex_S := brG G (tkG G σ c (standN n c / 8) (n (46 + standN n c / 8) - 1) (n (41 + standN n c / 8) + cyk (n (11 + standN n c / 8)))) c l (l * 8 + n (46 + l)) (n (46 + l) + 1) (n (41 + l) + cyk (n (11 + l)))
theorem mvS_ne {G : Nat} {σ : ex_S} {n : Int → Int} {c l : Int} {a : Nat} (h1 : a ≠ G + 6) (h2 : a ≠ G + 8) (h3 : a ≠ G + 11) (h4 : a ≠ G + 9) : mvS G σ n c l a = σ a := by
  unfold mvS
  rw [brG_ne h1 h2 h3 h4, tkG_ne h1 h2 h3]
theorem xr_83 {rt d L : Nat} {J : Nat → List ex_V → List ex_V → ex_H → Option ex_R} {is : List Instr} {ls st : List ex_V} {σ : ex_S} {H2 : ex_H} {a0 a1 z : Int} (he : ex_cd d 83 [vR 33, vI a0, vI a1] (SH L, σ) = some ([vI z], H2)) (hok : okN 8 st = true) : ex_xs rt J (ex_cd d) (.invokevirtual 83 :: is) ls (vI a1 :: vI a0 :: vR 33 :: st) (SH L, σ) = ex_xs rt J (ex_cd d) is ls (vI z :: st) H2 := x_call1 (Or.inl rfl) rfl (sh_33 _) (Or.inl ⟨rfl, rfl⟩) (as := [vI a0, vI a1]) rfl rfl (okN_ok hok) rfl he
theorem fp_83 {d L : Nat} {σ : ex_S} {n : Int → Int} {c x : Int} (hd : 4 < d) (hR : RG35 σ n) (hN : NI n) (hK : KB (σ 33 2) n) (x1 : x ≤ 2147483647) : ex_cd d 83 [vR 33, vI c, vI x] (SH L, σ) = some ([vI (b2i (okC n c x))], (SH L, if okC n c x then mvS 35 σ n (x / 8) (x % 8) else σ)) := by
  have b0 := hN.b0
  have b1 := hN.b1
  rw [ex_cd_eq (by omega)]
  show ex_ev (d - 1) 83 0 [vR 33, vI c, vI x, vL 0, vL 0] [] (SH L, σ) = _
  by_cases q0 : 0 ≤ x
  · have ed : ex_div x 8 = x / 8 := ex_div_nn q0 x1 (by decide) (by decide)
    have em : ex_rem x 8 = x % 8 := ex_rem_nn q0 x1 (by decide) (by decide)
    have xd : 0 ≤ x / 8 := by omega
    have xm : 0 ≤ x % 8 ∧ x % 8 < 8 := by omega
    by_cases q1 : 0 ≤ x / 8 ∧ x / 8 < n 1
    · by_cases q2 : 0 ≤ x % 8 ∧ x % 8 < n 0
      · by_cases q3 : x / 8 = c
        · rw [b2i_f (fun z => z.2.2.1 q3), if_neg (fun z => z.2.2.1 q3)]
          simp (disch := first | assumption | omega | ((repeat' first | exact ok_nil | apply ok_I | apply ok_R); done) | (simp (disch := first | omega | decide) only [ex_ar_same, ex_ar_diff, kM_diff, ex_u_same, ex_u_diff]; first | assumption | omega)) only [ed, em, ev_83_0, ev_83_1, ev_83_2, ev_83_3, gf_33_1, gf_33_2, x_fall, x_idiv, x_irem, x_push, x_ret2, x_ret2b, xc_13_35, xc_13_6, xc_14_35, xc_14_6, xc_28_35, xc_28_6, xc_31_35, xc_31_6, xl_a0, xl_i1, xl_i2, xl_i3, xl_i4, xt_i3, xt_i4, y_cmp_eq_f, y_cmp_eq_t, y_iand, y_if_eq_f, y_if_eq_t, y_if_ge_f, y_if_ge_t, y_ishr, i_wr_id, kM_diff, Int.reduceToNat, ex_ar_same, ex_ar_ar, ex_ar_diff, ex_u_same, ex_u_diff, b2i_t, b2i_f, ex_div_nn, ex_rem_nn, Int.toNat_zero, Int.toNat_one, Int.reduceAdd, Int.reduceSub, Int.reduceMul, Int.reduceNeg, kC_ne, fC_ne]
        · have hk := hK (x / 8) q1.1 q1.2
          have hh := hind_shf n (x / 8) (x % 8)
          by_cases q4 : keyP n (x / 8) (n 2) (n 10)
          · rw [b2i_t q4] at hk
            rw [if_pos q4] at hh
            by_cases q5 : shfN n (x / 8) (x % 8) = 0
            · rw [if_pos q5] at hh
              have ok : okC n c x := ⟨q0, q1, q3, q2, hh⟩
              rw [b2i_t ok, if_pos ok]
              obtain ⟨s1, s2, s3, s4, s5, s6, s7⟩ := hind_0 hh
              obtain ⟨f1, f2, f3, f4, f5, f6, f7, f8⟩ := free_lo hN s3
              obtain ⟨-, m8⟩ := RG_move (G := 35) hR hN q1.1 q1.2 q2.1 q2.2 s3 s2 (fun z => s4 (Or.inr z))
              have y0 := hN.cy (standN n (x / 8) / 8) (by omega) f3
              have y1 := hN.cy (x % 8) q2.1 (by omega)
              have m0 := hN.oM (standN n (x / 8) / 8) (by omega) f3
              have m1 := hN.oM (x % 8) q2.1 (by omega)
              have e0 : σ 46 (x / 8) = standN n (x / 8) / 8 := by rw [hR.wh (x / 8) q1.1 q1.2, if_neg (by omega)]
              have e1 : σ 43 (standN n (x / 8) / 8) = n (46 + standN n (x / 8) / 8) := hR.st _ (by omega) f2
              have e2 : σ 41 (standN n (x / 8) / 8) = n (41 + standN n (x / 8) / 8) := hR.cy _ (by omega) f2
              have e3 : σ 36 (standN n (x / 8) / 8) = n (11 + standN n (x / 8) / 8) := hR.kd _ (by omega) f2
              have e4 : σ 43 (x % 8) = n (46 + x % 8) := hR.st _ q2.1 q2.2
              have e5 : σ 41 (x % 8) = n (41 + x % 8) := hR.cy _ q2.1 q2.2
              have e6 : σ 36 (x % 8) = n (11 + x % 8) := hR.kd _ q2.1 q2.2
              have hz : x % 8 ≠ standN n (x / 8) / 8 := fun z => s2 z.symm
              have s0 : 0 ≤ standN n (x / 8) / 8 := by omega
              have x8 : x / 8 < 8 := by omega
              unfold mvS
              simp (disch := first | assumption | omega | ((repeat' first | exact ok_nil | apply ok_I | apply ok_R); done) | (simp (disch := first | omega | decide) only [ex_ar_same, ex_ar_diff, kM_diff, ex_u_same, ex_u_diff]; first | assumption | omega)) only [ed, em, ev_83_0, ev_83_1, ev_83_2, ev_83_3, gf_33_1, gf_33_2, hk, q5, x_fall, x_idiv, x_irem, x_push, x_ret2, x_ret2b, xc_13_35, xc_13_6, xc_14_35, xc_14_6, xc_28_35, xc_28_6, xc_31_35, xc_31_6, xl_a0, xl_i1, xl_i2, xl_i3, xl_i4, xt_i3, xt_i4, y_cmp_eq_f, y_cmp_eq_t, y_iand, y_if_eq_f, y_if_eq_t, y_if_ge_f, y_if_ge_t, y_ishr, i_wr_id, kM_diff, Int.reduceToNat, ex_ar_same, ex_ar_ar, ex_ar_diff, ex_u_same, ex_u_diff, b2i_t, b2i_f, ex_div_nn, ex_rem_nn, Int.toNat_zero, Int.toNat_one, Int.reduceAdd, Int.reduceSub, Int.reduceMul, Int.reduceNeg, kC_ne, fC_ne]
            · rw [if_neg q5] at hh
              have no : ¬ okC n c x := fun z => q5 (by rw [← hh]; exact z.2.2.2.2)
              rw [b2i_f no, if_neg no]
              simp (disch := first | assumption | omega | ((repeat' first | exact ok_nil | apply ok_I | apply ok_R); done) | (simp (disch := first | omega | decide) only [ex_ar_same, ex_ar_diff, kM_diff, ex_u_same, ex_u_diff]; first | assumption | omega)) only [ed, em, ev_83_0, ev_83_1, ev_83_2, ev_83_3, gf_33_1, gf_33_2, hk, x_fall, x_idiv, x_irem, x_push, x_ret2, x_ret2b, xc_13_35, xc_13_6, xc_14_35, xc_14_6, xc_28_35, xc_28_6, xc_31_35, xc_31_6, xl_a0, xl_i1, xl_i2, xl_i3, xl_i4, xt_i3, xt_i4, y_cmp_eq_f, y_cmp_eq_t, y_iand, y_if_eq_f, y_if_eq_t, y_if_ge_f, y_if_ge_t, y_ishr, i_wr_id, kM_diff, Int.reduceToNat, ex_ar_same, ex_ar_ar, ex_ar_diff, ex_u_same, ex_u_diff, b2i_t, b2i_f, ex_div_nn, ex_rem_nn, Int.toNat_zero, Int.toNat_one, Int.reduceAdd, Int.reduceSub, Int.reduceMul, Int.reduceNeg, kC_ne, fC_ne]
          · rw [b2i_f q4] at hk
            have no : ¬ okC n c x := fun z => q4 (hind_0 z.2.2.2.2).2.2.2.2.2.2
            rw [b2i_f no, if_neg no]
            simp (disch := first | assumption | omega | ((repeat' first | exact ok_nil | apply ok_I | apply ok_R); done) | (simp (disch := first | omega | decide) only [ex_ar_same, ex_ar_diff, kM_diff, ex_u_same, ex_u_diff]; first | assumption | omega)) only [ed, em, ev_83_0, ev_83_1, ev_83_2, ev_83_3, gf_33_1, gf_33_2, hk, x_fall, x_idiv, x_irem, x_push, x_ret2, x_ret2b, xc_13_35, xc_13_6, xc_14_35, xc_14_6, xc_28_35, xc_28_6, xc_31_35, xc_31_6, xl_a0, xl_i1, xl_i2, xl_i3, xl_i4, xt_i3, xt_i4, y_cmp_eq_f, y_cmp_eq_t, y_iand, y_if_eq_f, y_if_eq_t, y_if_ge_f, y_if_ge_t, y_ishr, i_wr_id, kM_diff, Int.reduceToNat, ex_ar_same, ex_ar_ar, ex_ar_diff, ex_u_same, ex_u_diff, b2i_t, b2i_f, ex_div_nn, ex_rem_nn, Int.toNat_zero, Int.toNat_one, Int.reduceAdd, Int.reduceSub, Int.reduceMul, Int.reduceNeg, kC_ne, fC_ne]
      · have no : ¬ okC n c x := fun z => q2 z.2.2.2.1
        rw [b2i_f no, if_neg no]
        simp (disch := first | assumption | omega | ((repeat' first | exact ok_nil | apply ok_I | apply ok_R); done) | (simp (disch := first | omega | decide) only [ex_ar_same, ex_ar_diff, kM_diff, ex_u_same, ex_u_diff]; first | assumption | omega)) only [ed, em, ev_83_0, ev_83_1, ev_83_2, ev_83_3, gf_33_1, gf_33_2, x_fall, x_idiv, x_irem, x_push, x_ret2, x_ret2b, xc_13_35, xc_13_6, xc_14_35, xc_14_6, xc_28_35, xc_28_6, xc_31_35, xc_31_6, xl_a0, xl_i1, xl_i2, xl_i3, xl_i4, xt_i3, xt_i4, y_cmp_eq_f, y_cmp_eq_t, y_iand, y_if_eq_f, y_if_eq_t, y_if_ge_f, y_if_ge_t, y_ishr, i_wr_id, kM_diff, Int.reduceToNat, ex_ar_same, ex_ar_ar, ex_ar_diff, ex_u_same, ex_u_diff, b2i_t, b2i_f, ex_div_nn, ex_rem_nn, Int.toNat_zero, Int.toNat_one, Int.reduceAdd, Int.reduceSub, Int.reduceMul, Int.reduceNeg, kC_ne, fC_ne]
    · have no : ¬ okC n c x := fun z => q1 z.2.1
      rw [b2i_f no, if_neg no]
      simp (disch := first | assumption | omega | ((repeat' first | exact ok_nil | apply ok_I | apply ok_R); done) | (simp (disch := first | omega | decide) only [ex_ar_same, ex_ar_diff, kM_diff, ex_u_same, ex_u_diff]; first | assumption | omega)) only [ed, em, ev_83_0, ev_83_1, ev_83_2, ev_83_3, gf_33_1, gf_33_2, x_fall, x_idiv, x_irem, x_push, x_ret2, x_ret2b, xc_13_35, xc_13_6, xc_14_35, xc_14_6, xc_28_35, xc_28_6, xc_31_35, xc_31_6, xl_a0, xl_i1, xl_i2, xl_i3, xl_i4, xt_i3, xt_i4, y_cmp_eq_f, y_cmp_eq_t, y_iand, y_if_eq_f, y_if_eq_t, y_if_ge_f, y_if_ge_t, y_ishr, i_wr_id, kM_diff, Int.reduceToNat, ex_ar_same, ex_ar_ar, ex_ar_diff, ex_u_same, ex_u_diff, b2i_t, b2i_f, ex_div_nn, ex_rem_nn, Int.toNat_zero, Int.toNat_one, Int.reduceAdd, Int.reduceSub, Int.reduceMul, Int.reduceNeg, kC_ne, fC_ne]
  · have no : ¬ okC n c x := fun z => q0 z.1
    rw [b2i_f no, if_neg no]
    simp (disch := first | assumption | omega | ((repeat' first | exact ok_nil | apply ok_I | apply ok_R); done) | (simp (disch := first | omega | decide) only [ex_ar_same, ex_ar_diff, kM_diff, ex_u_same, ex_u_diff]; first | assumption | omega)) only [ev_83_0, ev_83_1, ev_83_2, ev_83_3, gf_33_1, gf_33_2, x_fall, x_idiv, x_irem, x_push, x_ret2, x_ret2b, xc_13_35, xc_13_6, xc_14_35, xc_14_6, xc_28_35, xc_28_6, xc_31_35, xc_31_6, xl_a0, xl_i1, xl_i2, xl_i3, xl_i4, xt_i3, xt_i4, y_cmp_eq_f, y_cmp_eq_t, y_iand, y_if_eq_f, y_if_eq_t, y_if_ge_f, y_if_ge_t, y_ishr, i_wr_id, kM_diff, Int.reduceToNat, ex_ar_same, ex_ar_ar, ex_ar_diff, ex_u_same, ex_u_diff, b2i_t, b2i_f, ex_div_nn, ex_rem_nn, Int.toNat_zero, Int.toNat_one, Int.reduceAdd, Int.reduceSub, Int.reduceMul, Int.reduceNeg, kC_ne, fC_ne]
theorem okC_go {n : Int → Int} (hN : NI n) {c x : Int} (h : okC n c x) {σ : ex_S} (hR : RG35 σ n) : RG35 (mvS 35 σ n (x / 8) (x % 8)) (doesF n (x / 8) (x % 8)) ∧ NI (doesF n (x / 8) (x % 8)) ∧ (∀ c', standN (doesF n (x / 8) (x % 8)) c' = if c' = x / 8 then 8 * (x % 8) + n (46 + x % 8) else standN n c') := by
  obtain ⟨q0, q1, q3, q2, hh⟩ := h
  obtain ⟨s1, s2, s3, s4, s5, s6, s7⟩ := hind_0 hh
  obtain ⟨r, -⟩ := RG_move (G := 35) hR hN q1.1 q1.2 q2.1 q2.2 s3 s2 (fun z => s4 (Or.inr z))
  exact ⟨r, does_st hN q1.1 q1.2 q2.1 q2.2 s3 s2 (fun z => s4 (Or.inr z))⟩
/-- taken back -/
def mbS (σ : ex_S) (c l fr m1 y1 k1 m0 y0 k0 : Int) : ex_S := ex_ar (brG 35 (tkG 35 σ c l (m1 - 1) (y1 + cyk k1)) c fr (fr * 8 + m0) (m0 + 1) (y0 + cyk k0)) 41 (ex_u (ex_u (brG 35 (tkG 35 σ c l (m1 - 1) (y1 + cyk k1)) c fr (fr * 8 + m0) (m0 + 1) (y0 + cyk k0) 41) l (y1 - cyk k1)) fr (y0 - cyk k0))
theorem sp_32 {d : Nat} (hd : 3 < d) {L : Nat} {σ : ex_S} {c l fr m1 y1 k1 m0 y0 k0 : Int} (hw : σ 46 c = l) (hm1 : σ 43 l = m1) (hy1 : σ 41 l = y1) (hk1 : σ 36 l = k1) (hm0 : σ 43 fr = m0) (hy0 : σ 41 fr = y0) (hk0 : σ 36 fr = k0) (c1 : 0 ≤ c) (c2 : c < 8) (l1 : 0 ≤ l) (l2 : l < 5) (f1 : 0 ≤ fr) (f2 : fr < 5) (a1 : 0 ≤ m1) (a2 : m1 ≤ 8) (b1 : 0 ≤ y1) (b2 : y1 ≤ 20) (d1 : 0 ≤ m0) (d2 : m0 < 8) (e1 : 0 ≤ y0) (e2 : y0 ≤ 20) (hz : fr ≠ l) : ex_cd d 32 [vR 35, vI c, vI fr] (SH L, σ) = some ([], (SH L, mbS σ c l fr m1 y1 k1 m0 y0 k0)) := by
  rw [ex_cd_eq (by omega)]
  show ex_ev (d - 1) 32 0 [vR 35, vI c, vI fr, vL 0] [] (SH L, σ) = _
  have q1 := cyk_01 k1
  have q0 := cyk_01 k0
  have z1 : brG 35 (tkG 35 σ c l (m1 - 1) (y1 + cyk k1)) c fr (fr * 8 + m0) (m0 + 1) (y0 + cyk k0) 41 = ex_u (ex_u (σ 41) l (y1 + cyk k1)) fr (y0 + cyk k0) := (brG_6 (g := 35)).trans (by rw [show tkG 35 σ c l (m1 - 1) (y1 + cyk k1) (35 + 6) = ex_u (σ 41) l (y1 + cyk k1) from tkG_6 (g := 35)])
  have z2 : brG 35 (tkG 35 σ c l (m1 - 1) (y1 + cyk k1)) c fr (fr * 8 + m0) (m0 + 1) (y0 + cyk k0) 36 = σ 36 := by rw [brG_ne (by decide) (by decide) (by decide) (by decide), tkG_ne (by decide) (by decide) (by decide)]
  have z3 : brG 35 (tkG 35 σ c l (m1 - 1) (y1 + cyk k1)) c fr (fr * 8 + m0) (m0 + 1) (y0 + cyk k0) 41 l = y1 + cyk k1 := by rw [z1, ex_u_diff _ _ (fun h => hz h.symm), ex_u_same]
  have z4 : brG 35 (tkG 35 σ c l (m1 - 1) (y1 + cyk k1)) c fr (fr * 8 + m0) (m0 + 1) (y0 + cyk k0) 41 fr = y0 + cyk k0 := by rw [z1, ex_u_same]
  have z5 : brG 35 (tkG 35 σ c l (m1 - 1) (y1 + cyk k1)) c fr (fr * 8 + m0) (m0 + 1) (y0 + cyk k0) 36 l = k1 := by rw [z2]; exact hk1
  have z6 : brG 35 (tkG 35 σ c l (m1 - 1) (y1 + cyk k1)) c fr (fr * 8 + m0) (m0 + 1) (y0 + cyk k0) 36 fr = k0 := by rw [z2]; exact hk0
  have w1 : ex_wr (2 * cyk k1) = 2 * cyk k1 := i_wr_id (by omega) (by omega)
  have w0 : ex_wr (2 * cyk k0) = 2 * cyk k0 := i_wr_id (by omega) (by omega)
  have w3 : ex_wr (y1 + cyk k1 - 2 * cyk k1) = y1 - cyk k1 := by rw [i_wr_id (by omega) (by omega)]; omega
  have w4 : ex_wr (y0 + cyk k0 - 2 * cyk k0) = y0 - cyk k0 := by rw [i_wr_id (by omega) (by omega)]; omega
  unfold mbS
  generalize hM : brG 35 (tkG 35 σ c l (m1 - 1) (y1 + cyk k1)) c fr (fr * 8 + m0) (m0 + 1) (y0 + cyk k0) = M at *
  have z7 : ex_ar M 41 (ex_u (M 41) l (y1 - cyk k1)) 36 fr = k0 := by rw [ex_ar_diff _ _ _ (by decide)]; exact z6
  have z8 : ex_u (M 41) l (y1 - cyk k1) fr = y0 + cyk k0 := by rw [ex_u_diff _ _ hz]; exact z4
  simp (disch := first | assumption | omega | ((repeat' first | exact ok_nil | apply ok_I | apply ok_R); done) | (simp (disch := first | omega | decide) only [ex_ar_same, ex_ar_diff, kM_diff, ex_u_same, ex_u_diff]; first | assumption | omega)) only [ev_32_0, gf_35_12, gf_35_7, gf_6_12, gf_6_7, hM, hw, ld_12, ld_17, ld_41, ld_46, sd_12, sd_17, sd_41, sd_46, w0, w1, w3, w4, x_dup2, x_push, x_ret0, xc_20_35, xc_20_6, xc_31_35, xc_31_6, xl_a0, xl_i1, xl_i2, xl_i3, xt_i3, y_imul, y_isub, z3, z8, kM_diff, Int.reduceToNat, ex_ar_same, ex_ar_ar, ex_ar_diff, ex_u_same, ex_u_diff, b2i_t, b2i_f, ex_div_nn, ex_rem_nn, Int.toNat_zero, Int.toNat_one, Int.reduceAdd, Int.reduceSub, Int.reduceMul, Int.reduceNeg, kC_ne, fC_ne]
theorem xc_32 {rt d : Nat} {J : Nat → List ex_V → List ex_V → ex_H → Option ex_R} {is : List Instr} {ls st : List ex_V} {L : Nat} {σ : ex_S} {c l fr m1 y1 k1 m0 y0 k0 : Int} (hw : σ 46 c = l) (hm1 : σ 43 l = m1) (hy1 : σ 41 l = y1) (hk1 : σ 36 l = k1) (hm0 : σ 43 fr = m0) (hy0 : σ 41 fr = y0) (hk0 : σ 36 fr = k0) (c1 : 0 ≤ c) (c2 : c < 8) (l1 : 0 ≤ l) (l2 : l < 5) (f1 : 0 ≤ fr) (f2 : fr < 5) (a1 : 0 ≤ m1) (a2 : m1 ≤ 8) (b1 : 0 ≤ y1) (b2 : y1 ≤ 20) (d1 : 0 ≤ m0) (d2 : m0 < 8) (e1 : 0 ≤ y0) (e2 : y0 ≤ 20) (hz : fr ≠ l) (hd : 3 < d) (hok : okN 8 st = true) : ex_xs rt J (ex_cd d) (.invokevirtual 32 :: is) ls (vI fr :: vI c :: vR 35 :: st) (SH L, σ) = ex_xs rt J (ex_cd d) is ls (st) (SH L, mbS σ c l fr m1 y1 k1 m0 y0 k0) := x_call1 (Or.inl rfl) rfl (sh_35 _) (Or.inl ⟨rfl, rfl⟩) (as := [vI c, vI fr]) rfl rfl (okN_ok hok) rfl (sp_32 hd hw hm1 hy1 hk1 hm0 hy0 hk0 c1 c2 l1 l2 f1 f2 a1 a2 b1 b2 d1 d2 e1 e2 hz)
theorem RG_back {σ : ex_S} {n : Int → Int} (hN : NI n) {c l : Int} (h1 : 0 ≤ c) (h2 : c < n 1) (l0 : 0 ≤ l) (l1 : l < n 0) (hf : freeP n c) (hl : standN n c / 8 ≠ l) (hc : n (41 + l) ≠ 12) (hR : RG35 σ (doesF n c l)) : ∃ m1 y1 k1 m0 y0 k0 : Int, (σ 46 c = l ∧ σ 43 l = m1 ∧ σ 41 l = y1 ∧ σ 36 l = k1 ∧ σ 43 (standN n c / 8) = m0 ∧ σ 41 (standN n c / 8) = y0 ∧ σ 36 (standN n c / 8) = k0) ∧ (0 ≤ standN n c / 8 ∧ standN n c / 8 < 5) ∧ (0 ≤ m1 ∧ m1 ≤ 8) ∧ (0 ≤ y1 ∧ y1 ≤ 20) ∧ (0 ≤ m0 ∧ m0 < 8) ∧ (0 ≤ y0 ∧ y0 ≤ 20) ∧ RG35 (mbS σ c l (standN n c / 8) m1 y1 k1 m0 y0 k0) n := by
  obtain ⟨f1, f2, f3, f4, f5, f6, f7, f8⟩ := free_lo hN hf
  have b0 := hN.b0
  have b1 := hN.b1
  obtain ⟨N2, sg⟩ := does_st hN h1 h2 l0 l1 hf hl hc
  generalize hfr : standN n c / 8 = fr at *
  have fr0 : 0 ≤ fr := by omega
  have ml := hN.oM l l0 (by omega)
  have mf := hN.oM fr fr0 f3
  have yl := hN.cy l l0 (by omega)
  have yf := hN.cy fr fr0 f3
  have e := fun (k : Int) (hk : k < 41 ∨ 91 ≤ k) => doesF_lo hN l0 (show l < 5 by omega) f1 hk (c := c)
  have e46 : ∀ k : Int, k ≠ 41 + fr → k ≠ 46 + fr → k ≠ 41 + l → k ≠ 46 + l → k ≠ 51 + 8 * l + n (46 + l) → doesF n c l k = n k := fun k a1 a2 a3 a4 a5 => by
    unfold doesF
    rw [hfr, comesF_ne _ _ _ a3 a4 (by rw [goesF_ne _ _ (by omega) (by omega)]; exact a5), goesF_ne _ _ a1 a2]
  have g46l : doesF n c l (46 + l) = n (46 + l) + 1 := by
    unfold doesF comesF
    rw [hfr, turnF_ne _ _ (by omega), ex_u_same, goesF_ne _ _ (by omega) (by omega)]
  have g46f : doesF n c l (46 + fr) = n (46 + fr) - 1 := by
    unfold doesF
    rw [hfr, comesF_ne _ _ _ (by omega) (by omega) (by rw [goesF_ne _ _ (by omega) (by omega)]; omega)]
    unfold goesF
    rw [turnF_ne _ _ (by omega), ex_u_same]
  have g41f : doesF n c l (41 + fr) = n (41 + fr) + cyk (n (11 + fr)) := by
    unfold doesF
    rw [hfr, comesF_ne _ _ _ (by omega) (by omega) (by rw [goesF_ne _ _ (by omega) (by omega)]; omega)]
    unfold goesF turnF
    rw [ex_u_same, cyc_k, ex_u_diff _ _ (by omega), ex_u_diff _ _ (by omega)]
  have g41l : doesF n c l (41 + l) = n (41 + l) + cyk (n (11 + l)) := by
    unfold doesF
    rw [hfr]
    have eg : goesF n fr (46 + l) = n (46 + l) := goesF_ne _ _ (by omega) (by omega)
    unfold comesF turnF
    rw [eg, ex_u_same, cyc_k, ex_u_diff _ _ (by omega), ex_u_diff _ _ (by omega), ex_u_diff _ _ (by omega), ex_u_diff _ _ (by omega), goesF_ne _ _ (by omega) (by omega), goesF_ne _ _ (by omega) (by omega)]
  have m8 : n (46 + l) + 1 ≤ 8 := by
    have := (N2.oM l l0 (by omega)).2
    rw [g46l] at this
    exact this
  have q1 := cyk_01 (n (11 + l))
  have q0 := cyk_01 (n (11 + fr))
  have n0 : doesF n c l 0 = n 0 := e 0 (by omega)
  have n1 : doesF n c l 1 = n 1 := e 1 (by omega)
  have W := hR.wh c h1 (by rw [n1]; exact h2)
  rw [sg, if_pos rfl, if_neg (by omega)] at W
  have W' : σ 46 c = l := by rw [W]; omega
  have S43l := hR.st l l0 (by rw [n0]; exact l1)
  have S43f := hR.st fr fr0 (by rw [n0]; exact f2)
  have S41l := hR.cy l l0 (by rw [n0]; exact l1)
  have S41f := hR.cy fr fr0 (by rw [n0]; exact f2)
  have S36l := hR.kd l l0 (by rw [n0]; exact l1)
  have S36f := hR.kd fr fr0 (by rw [n0]; exact f2)
  rw [g46l] at S43l
  rw [g46f] at S43f
  rw [g41l] at S41l
  rw [g41f] at S41f
  rw [e _ (by omega)] at S36l S36f
  refine ⟨n (46 + l) + 1, n (41 + l) + cyk (n (11 + l)), n (11 + l), n (46 + fr) - 1, n (41 + fr) + cyk (n (11 + fr)), n (11 + fr), ⟨W', S43l, S41l, S36l, S43f, S41f, S36f⟩, ⟨fr0, f3⟩, ⟨by omega, m8⟩, ⟨by omega, by omega⟩, ⟨by omega, by omega⟩, ⟨by omega, by omega⟩, ?_⟩
  · unfold mbS
    generalize hT : tkG 35 σ c l (n (46 + l) + 1 - 1) (n (41 + l) + cyk (n (11 + l)) + cyk (n (11 + l))) = T
    have t6 : T 41 = ex_u (σ 41) l (n (41 + l) + cyk (n (11 + l)) + cyk (n (11 + l))) := by rw [← hT]; exact tkG_6 (g := 35)
    have t8 : T 43 = ex_u (σ 43) l (n (46 + l) + 1 - 1) := by rw [← hT]; exact tkG_8 (g := 35)
    have t11 : T 46 = ex_u (σ 46) c (-1) := by rw [← hT]; exact tkG_11 (g := 35)
    have tn : ∀ a, a ≠ 41 → a ≠ 43 → a ≠ 46 → T a = σ a := fun a a1 a2 a3 => by rw [← hT]; exact tkG_ne (g := 35) a1 a2 a3
    generalize hM : brG 35 T c fr (fr * 8 + (n (46 + fr) - 1)) (n (46 + fr) - 1 + 1) (n (41 + fr) + cyk (n (11 + fr)) + cyk (n (11 + fr))) = M
    have m6 : M 41 = ex_u (T 41) fr (n (41 + fr) + cyk (n (11 + fr)) + cyk (n (11 + fr))) := by rw [← hM]; exact brG_6 (g := 35)
    have m8 : M 43 = ex_u (T 43) fr (n (46 + fr) - 1 + 1) := by rw [← hM]; exact brG_8 (g := 35)
    have m9 : M 44 = ex_u (T 44) (fr * 8 + (n (46 + fr) - 1)) c := by rw [← hM]; exact brG_9 (g := 35)
    have m11 : M 46 = ex_u (T 46) c fr := by rw [← hM]; exact brG_11 (g := 35)
    have mn : ∀ a, a ≠ 41 → a ≠ 43 → a ≠ 44 → a ≠ 46 → M a = σ a := fun a a1 a2 a3 a4 => by rw [← hM, brG_ne (g := 35) a1 a2 a4 a3]; exact tn a a1 a2 a4
    have r : ∀ a, a ≠ 41 → a ≠ 43 → a ≠ 44 → a ≠ 46 → ex_ar M 41 (ex_u (ex_u (M 41) l (n (41 + l) + cyk (n (11 + l)) - cyk (n (11 + l)))) fr (n (41 + fr) + cyk (n (11 + fr)) - cyk (n (11 + fr)))) a = σ a := fun a a1 a2 a3 a4 => by rw [ex_ar_diff _ _ _ a1]; exact mn a a1 a2 a3 a4
    refine RG35.mk ?_ ?_ ?_ ?_ ?_ ?_ ?_ ?_ ?_ ?_ ?_ ?_ ?_ ?_
    · rw [r 35 (by decide) (by decide) (by decide) (by decide), ← n0]; exact hR.la
    · rw [r 35 (by decide) (by decide) (by decide) (by decide), ← n1]; exact hR.ca
    · intro x x0 x1; rw [r 36 (by decide) (by decide) (by decide) (by decide), hR.kd x x0 (by rw [n0]; exact x1), e _ (by omega)]
    · intro x x0 x1; rw [r 37 (by decide) (by decide) (by decide) (by decide), hR.le x x0 (by rw [n0]; exact x1), e _ (by omega)]
    · intro x x0 x1; rw [r 38 (by decide) (by decide) (by decide) (by decide), hR.ht x x0 (by rw [n0]; exact x1), e _ (by omega)]
    · intro x x0 x1
      have := hR.lo x x0 (by rw [n0]; exact x1)
      rw [e _ (by omega), e _ (by omega)] at this
      rw [r 39 (by decide) (by decide) (by decide) (by decide)]; exact this
    · intro x x0 x1; rw [r 39 (by decide) (by decide) (by decide) (by decide)]; exact hR.ld x x0 (by rw [n0]; exact x1)
    · intro x x0 x1; rw [r 40 (by decide) (by decide) (by decide) (by decide), hR.mi x x0 (by rw [n0]; exact x1), e _ (by omega)]
    · intro x x0 x1
      rw [ex_ar_same]
      by_cases z : x = fr
      · rw [z, ex_u_same]; omega
      · rw [ex_u_diff _ _ z]
        by_cases y : x = l
        · rw [y, ex_u_same]; omega
        · rw [ex_u_diff _ _ y, m6, ex_u_diff _ _ z, t6, ex_u_diff _ _ y, hR.cy x x0 (by rw [n0]; exact x1), e46 _ (by omega) (by omega) (by omega) (by omega) (by omega)]
    · intro x x0 x1; rw [r 42 (by decide) (by decide) (by decide) (by decide), hR.bk x x0 (by rw [n0]; exact x1), e _ (by omega)]
    · intro x x0 x1
      rw [ex_ar_diff _ _ _ (by decide), m8]
      by_cases z : x = fr
      · rw [z, ex_u_same]; omega
      · rw [ex_u_diff _ _ z, t8]
        by_cases y : x = l
        · rw [y, ex_u_same]; omega
        · rw [ex_u_diff _ _ y, hR.st x x0 (by rw [n0]; exact x1), e46 _ (by omega) (by omega) (by omega) (by omega) (by omega)]
    · intro x i x0 x1 i0 i1
      have mx := hN.oM x x0 (by omega)
      rw [ex_ar_diff _ _ _ (by decide), m9]
      by_cases z : x = fr ∧ i = n (46 + fr) - 1
      · rw [z.1, z.2, ex_u_same]; exact f6.symm
      · rw [ex_u_diff _ _ (by omega), tn 44 (by decide) (by decide) (by decide)]
        by_cases y : x = fr
        · rw [y] at i1 z ⊢
          rw [hR.pl fr i fr0 (by rw [n0]; exact f2) i0 (by rw [g46f]; omega), e46 _ (by omega) (by omega) (by omega) (by omega) (by omega)]
        · by_cases v : x = l
          · rw [v] at i1 ⊢
            rw [hR.pl l i l0 (by rw [n0]; exact l1) i0 (by rw [g46l]; omega), e46 _ (by omega) (by omega) (by omega) (by omega) (by omega)]
          · rw [hR.pl x i x0 (by rw [n0]; exact x1) i0 (by rw [e46 _ (by omega) (by omega) (by omega) (by omega) (by omega)]; exact i1), e46 _ (by omega) (by omega) (by omega) (by omega) (by omega)]
    · intro x f x0 x1 i0 i1; rw [r 45 (by decide) (by decide) (by decide) (by decide), hR.fa x f x0 (by rw [n1]; exact x1) i0 i1, e _ (by omega)]
    · intro x x0 x1
      rw [ex_ar_diff _ _ _ (by decide), m11]
      by_cases z : x = c
      · rw [z, ex_u_same, if_neg (by omega), hfr]
      · rw [ex_u_diff _ _ z, t11, ex_u_diff _ _ z, hR.wh x x0 (by rw [n1]; exact x1), sg, if_neg z]
