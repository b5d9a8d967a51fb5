/-! the class: the search -/
def gFr (q : Nat) (n : Int → Int) (c : Int) : Nat → Option (List Int) := (fun i : Nat => if (i : Int) / 8 = c ∨ ¬ (0 ≤ (i : Int) % 8 ∧ (i : Int) % 8 < n 0) ∨ hindN n ((i : Int) / 8) ((i : Int) % 8) ≠ 0 then none else (frN q (doesF n ((i : Int) / 8) ((i : Int) % 8)) c).map (fun p => (i : Int) :: p))
theorem frN_g (q : Nat) (n : Int → Int) (c : Int) : frN (q + 1) n c = frC (gFr q n c) 0 (8 * n 1).toNat := by rw [frN]; rfl
theorem xr_32 {rt d L : Nat} {J : Nat → List ex_V → List ex_V → ex_H → Option ex_R} {is : List Instr} {ls st : List ex_V} {σ : ex_S} {H2 : ex_H} {a b : Int} (he : ex_cd d 32 [vR 35, vI a, vI b] (SH L, σ) = some ([], H2)) (hok : okN 8 st = true) : ex_xs rt J (ex_cd d) (.invokevirtual 32 :: is) ls (vI b :: vI a :: vR 35 :: st) (SH L, σ) = ex_xs rt J (ex_cd d) is ls st H2 := x_call1 (Or.inl rfl) rfl (sh_35 _) (Or.inl ⟨rfl, rfl⟩) (as := [vI a, vI b]) rfl rfl (okN_ok hok) rfl he
theorem xr_82 {rt d L : Nat} {J : Nat → List ex_V → List ex_V → ex_H → Option ex_R} {is : List Instr} {ls st : List ex_V} {σ : ex_S} {H2 : ex_H} {a0 a1 a2 z : Int} (he : ex_cd d 82 [vR 33, vI a0, vI a1, vI a2] (SH L, σ) = some ([vI z], H2)) (hok : okN 8 st = true) : ex_xs rt J (ex_cd d) (.invokevirtual 82 :: is) ls (vI a2 :: vI a1 :: vI a0 :: vR 33 :: st) (SH L, σ) = ex_xs rt J (ex_cd d) is ls (vI z :: st) H2 := x_call1 (Or.inl rfl) rfl (sh_33 _) (Or.inl ⟨rfl, rfl⟩) (as := [vI a0, vI a1, vI a2]) rfl rfl (okN_ok hok) rfl he
theorem mbS_ne {σ : ex_S} {c l fr m1 y1 k1 m0 y0 k0 : Int} {a : Nat} (h : a < 35 ∨ 46 < a) : mbS σ c l fr m1 y1 k1 m0 y0 k0 a = σ a := by
  unfold mbS
  rw [ex_ar_diff _ _ _ (by omega), brG_ne (by omega) (by omega) (by omega) (by omega), tkG_ne (by omega) (by omega) (by omega)]
theorem sp_80 {d : Nat} (hd : 2 < d) {L : Nat} {σ : ex_S} {n : Int → Int} {c : Int} (hR : RG35 σ n) (hN : NI n) (h1 : 0 ≤ c) (h2 : c < n 1) : ex_cd d 80 [vR 33, vI c] (SH L, σ) = some ([vI (b2i (freeP n c))], (SH L, σ)) := by
  rw [ex_cd_eq (by omega)]
  show ex_ev (d - 1) 80 0 [vR 33, vI c] [] (SH L, σ) = _
  simp (disch := first | assumption | omega | ((repeat' first | exact ok_nil | apply ok_I | apply ok_R); done) | (simp (disch := first | omega | decide) only [ex_ar_same, ex_ar_diff, kM_diff, ex_u_same, ex_u_diff]; first | assumption | omega)) only [ev_80_0, gf_33_1, x_ret2, x_ret2b, xc_26_35, xc_26_6, xl_a0, xl_i1, i_wr_id, kM_diff, Int.reduceToNat, ex_ar_same, ex_ar_ar, ex_ar_diff, ex_u_same, ex_u_diff, b2i_t, b2i_f, ex_div_nn, ex_rem_nn, Int.toNat_zero, Int.toNat_one, Int.reduceAdd, Int.reduceSub, Int.reduceMul, Int.reduceNeg, kC_ne, fC_ne]
theorem xc_80 {rt d : Nat} {J : Nat → List ex_V → List ex_V → ex_H → Option ex_R} {is : List Instr} {ls st : List ex_V} {L : Nat} {σ : ex_S} {n : Int → Int} {c : Int} (hR : RG35 σ n) (hN : NI n) (h1 : 0 ≤ c) (h2 : c < n 1) (hd : 2 < d) (hok : okN 8 st = true) : ex_xs rt J (ex_cd d) (.invokevirtual 80 :: is) ls (vI c :: vR 33 :: st) (SH L, σ) = ex_xs rt J (ex_cd d) is ls (vI (b2i (freeP n c)) :: st) (SH L, σ) := x_call1 (Or.inl rfl) rfl (sh_33 _) (Or.inl ⟨rfl, rfl⟩) (as := [vI c]) rfl rfl (okN_ok hok) rfl (sp_80 hd hR hN h1 h2)
theorem frC_skip (g : Nat → Option (List Int)) : ∀ (j' i j : Nat), (∀ k, i ≤ k → k < i + j' → g k = none) → frC g i (j' + j) = frC g (i + j') j
  | 0, i, j, _ => by rw [Nat.zero_add, Nat.add_zero]
  | j' + 1, i, j, h => by
    rw [show j' + 1 + j = (j' + j) + 1 by omega, frC, h i (by omega) (by omega), if_neg (by decide), frC_skip g j' (i + 1) j (fun k h1 h2 => h k (by omega) (by omega)), show i + 1 + j' = i + (j' + 1) by omega]
theorem frC_some (g : Nat → Option (List Int)) : ∀ (j i : Nat), (frC g i j).isSome = true → ∃ k, i ≤ k ∧ k < i + j ∧ (g k).isSome = true
  | 0, _, h => by rw [frC] at h; exact absurd h (by decide)
  | j + 1, i, h => by
    rw [frC] at h
    by_cases z : (g i).isSome = true
    · exact ⟨i, by omega, by omega, z⟩
    · rw [if_neg z] at h
      obtain ⟨k, k1, k2, k3⟩ := frC_some g j (i + 1) h
      exact ⟨k, by omega, by omega, k3⟩
/-- a shunt takes away one car at most -/
theorem fr_ahead : ∀ (q : Nat) {n : Int → Int} {c : Int}, NI n → 0 ≤ c → c < n 1 → 0 ≤ standN n c → (frN q n c).isSome = true → aheadN n (standN n c) ≤ (q : Int)
  | 0, n, c, hN, h1, h2, hs, h => by
    unfold frN at h
    by_cases z : freeP n c
    · rw [z.2.1]; decide
    · rw [if_neg z] at h; exact absurd h (by decide)
  | q + 1, n, c, hN, h1, h2, hs, h => by
    rw [frN_g] at h
    obtain ⟨i, i1, i2, i3⟩ := frC_some _ _ _ h
    unfold gFr at i3
    have a1 := hN.a1
    have b0 := hN.b0
    have b1 := hN.b1
    by_cases z : (i : Int) / 8 = c ∨ ¬ (0 ≤ (i : Int) % 8 ∧ (i : Int) % 8 < n 0) ∨ hindN n ((i : Int) / 8) ((i : Int) % 8) ≠ 0
    · rw [if_pos z] at i3; exact absurd i3 (by decide)
    · rw [if_neg z, Option.isSome_map] at i3
      have z1 : (i : Int) / 8 ≠ c := fun y => z (Or.inl y)
      have z2 : 0 ≤ (i : Int) % 8 ∧ (i : Int) % 8 < n 0 := Decidable.not_not.mp (fun y => z (Or.inr (Or.inl y)))
      have z3 : hindN n ((i : Int) / 8) ((i : Int) % 8) = 0 := Decidable.not_not.mp (fun y => z (Or.inr (Or.inr y)))
      obtain ⟨s1, s2, s3, s4, -⟩ := hind_0 z3
      obtain ⟨f1, f2, f3, f4, f5, f6, f7, f8⟩ := free_lo hN s3
      obtain ⟨N2, sg⟩ := does_st hN (show 0 ≤ (i : Int) / 8 by omega) (by omega) z2.1 z2.2 s3 s2 (fun y => s4 (Or.inr y))
      have e1 : doesF n ((i : Int) / 8) ((i : Int) % 8) 1 = n 1 := doesF_lo hN z2.1 (by omega) s1 (by omega)
      have es : standN (doesF n ((i : Int) / 8) ((i : Int) % 8)) c = standN n c := by rw [sg, if_neg (fun y => z1 y.symm)]
      have ih := fr_ahead q N2 h1 (by rw [e1]; exact h2) (by rw [es]; exact hs) i3
      rw [es] at ih
      have lo : n (46 + standN n c / 8) - 1 ≤ doesF n ((i : Int) / 8) ((i : Int) % 8) (46 + standN n c / 8) := by
        rcases stand_lo n c hN.b0 hN.oM with y | ⟨q1, q2, q3, q4, q5⟩
        · omega
        · have ml := hN.oM ((i : Int) % 8) z2.1 (by omega)
          have el : goesF n (standN n ((i : Int) / 8) / 8) (46 + (i : Int) % 8) = n (46 + (i : Int) % 8) := goesF_ne _ _ (by omega) (by omega)
          unfold doesF
          by_cases y : standN n c / 8 = (i : Int) % 8
          · rw [y]
            unfold comesF
            rw [turnF_ne _ _ (by omega), ex_u_same, el]; omega
          · rw [comesF_ne _ _ _ (by omega) (by omega) (by rw [el]; omega)]
            by_cases v : standN n c / 8 = standN n ((i : Int) / 8) / 8
            · rw [v]
              unfold goesF
              rw [turnF_ne _ _ (by omega), ex_u_same]; omega
            · rw [goesF_ne _ _ (by omega) (by omega)]; omega
      unfold aheadN at ih ⊢
      omega
/-- what a search keeps -/
def SRI (n : Int → Int) (k : Nat) (σ τ : ex_S) : Prop := (∀ a, a < 34 ∨ 46 < a → τ a = σ a) ∧ RG35 τ n ∧ (∀ i : Int, i < (k : Int) → τ 34 i = σ 34 i)
def SRF (n : Int → Int) (k m : Nat) (σ τ : ex_S) (R : Option (List Int)) : Prop := SRI n k σ τ ∧ (∀ p, R = some p → ∀ j : Nat, j < m → τ 34 ((k : Int) + (j : Int)) = p.getD j 0)
def SRS (q : Nat) : Prop := ∀ (d L : Nat) (σ : ex_S) (n : Int → Int) (c : Int) (k : Nat), 7 + q < d → k + q ≤ 3 → RG35 σ n → NI n → KB (σ 33 2) n → 0 ≤ c → c < n 1 → 0 ≤ standN n c → ∃ τ, ex_cd d 82 [vR 33, vI c, vI (k : Int), vI ((k + q : Nat) : Int)] (SH L, σ) = some ([vI (b2i ((frN q n c).isSome = true))], (SH L, τ)) ∧ SRF n k q σ τ (frN q n c)
theorem sr_82 : ∀ q : Nat, SRS q
  | 0 => by
    intro d L σ n c k hd hk hR hN hK c0 c1 hs
    refine ⟨σ, ?_, ⟨fun _ _ => rfl, hR, fun _ _ => rfl⟩, fun p _ j hj => by omega⟩
    have e : b2i ((frN 0 n c).isSome = true) = b2i (freeP n c) := b2i_iff (by
      unfold frN
      by_cases z : freeP n c
      · rw [if_pos z]; exact ⟨fun _ => z, fun _ => rfl⟩
      · rw [if_neg z]; exact ⟨fun y => absurd y (by decide), fun y => absurd y z⟩)
    rw [e, ex_cd_eq (by omega)]
    show ex_ev (d - 1) 82 0 [vR 33, vI c, vI (k : Int), vI ((k + 0 : Nat) : Int), vL 0, vL 0, vL 0, vL 0, vL 0] [] (SH L, σ) = _
    rw [Nat.add_zero]
    simp (disch := first | assumption | omega | ((repeat' first | exact ok_nil | apply ok_I | apply ok_R); done) | (simp (disch := first | omega | decide) only [ex_ar_same, ex_ar_diff, kM_diff, ex_u_same, ex_u_diff]; first | assumption | omega)) only [ev_82_0, ev_82_1, ev_82_2, ev_82_5, ev_82_6, ev_82_7, ev_82_8, gf_33_0, gf_33_1, gf_35_0, gf_35_1, gf_35_12, gf_6_0, gf_6_1, gf_6_12, ld_17, ld_34, ld_46, sd_17, sd_34, sd_46, x_fall, x_goto, x_push, x_ret2, x_ret2b, xc_235, xc_32, xc_34_35, xc_34_6, xc_80, xl_a0, xl_i1, xl_i2, xl_i3, xl_i4, xl_i5, xl_i6, xl_i7, xl_i8, xn_4, xn_6, xt_i4, xt_i5, xt_i6, xt_i7, xt_i8, y_cmp_ge_f, y_cmp_ge_t, y_cmp_le_f, y_cmp_le_t, y_cmp_lt_f, y_cmp_lt_t, y_iadd, y_if_eq_f, y_if_eq_t, y_if_ne_f, y_if_ne_t, y_imul, y_isub, i_wr_id, kM_diff, Int.reduceToNat, ex_ar_same, ex_ar_ar, ex_ar_diff, ex_u_same, ex_u_diff, b2i_t, b2i_f, ex_div_nn, ex_rem_nn, Int.toNat_zero, Int.toNat_one, Int.reduceAdd, Int.reduceSub, Int.reduceMul, Int.reduceNeg, kC_ne, fC_ne]
  | q + 1 => by
    have ih : SRS q := sr_82 q
    unfold SRS at ih
    intro d L σ n c k hd hk hR hN hK c0 c1 hs
    have a0 := hN.a0
    have a1 := hN.a1
    have b0 := hN.b0
    have b1 := hN.b1
    obtain ⟨am, am0, am1⟩ := ahd_mn hN hs
    have ia : (if standN n c < 0 then 0 else ahdN n c : Int) = ahdN n c := if_neg (by omega)
    rw [ex_cd_eq (by omega)]
    show ∃ τ, ex_ev (d - 1) 82 0 [vR 33, vI c, vI (k : Int), vI ((k + (q + 1) : Nat) : Int), vL 0, vL 0, vL 0, vL 0, vL 0] [] (SH L, σ) = _ ∧ _
    by_cases pr : ((q : Int) + 1) < aheadN n (standN n c)
    · have no : ¬ (frN (q + 1) n c).isSome = true := fun y => by
        have := fr_ahead (q + 1) hN c0 c1 hs y
        omega
      refine ⟨σ, ?_, ⟨fun _ _ => rfl, hR, fun _ _ => rfl⟩, fun p hp => absurd (by rw [hp]; rfl) no⟩
      rw [b2i_f no]
      simp (disch := first | assumption | omega | ((repeat' first | exact ok_nil | apply ok_I | apply ok_R); done) | (simp (disch := first | omega | decide) only [ex_ar_same, ex_ar_diff, kM_diff, ex_u_same, ex_u_diff]; first | assumption | omega)) only [am, ev_82_0, ev_82_1, ev_82_2, ev_82_5, ev_82_6, ev_82_7, ev_82_8, gf_33_0, gf_33_1, gf_35_0, gf_35_1, gf_35_12, gf_6_0, gf_6_1, gf_6_12, ia, ld_17, ld_34, ld_46, sd_17, sd_34, sd_46, x_fall, x_goto, x_push, x_ret2, x_ret2b, xc_235, xc_32, xc_34_35, xc_34_6, xc_80, xl_a0, xl_i1, xl_i2, xl_i3, xl_i4, xl_i5, xl_i6, xl_i7, xl_i8, xn_4, xn_6, xt_i4, xt_i5, xt_i6, xt_i7, xt_i8, y_cmp_ge_f, y_cmp_ge_t, y_cmp_le_f, y_cmp_le_t, y_cmp_lt_f, y_cmp_lt_t, y_iadd, y_if_eq_f, y_if_eq_t, y_if_ne_f, y_if_ne_t, y_imul, y_isub, i_wr_id, kM_diff, Int.reduceToNat, ex_ar_same, ex_ar_ar, ex_ar_diff, ex_u_same, ex_u_diff, b2i_t, b2i_f, ex_div_nn, ex_rem_nn, Int.toNat_zero, Int.toNat_one, Int.reduceAdd, Int.reduceSub, Int.reduceMul, Int.reduceNeg, kC_ne, fC_ne]
    · have inl : ∀ ov : Nat, ov < (n 1).toNat → (∀ (τ : ex_S) (w5 w6 w7 w8 : ex_V), SRI n k σ τ → ∃ υ, ex_ev (d - 1) 82 3 [vR 33, vI c, vI (k : Int), vI ((k + (q + 1) : Nat) : Int), vI ((ov : Int) + 1), w5, w6, w7, w8] [] (SH L, τ) = some ([vI (b2i ((frC (gFr q n c) (8 * (ov + 1)) ((8 * n 1).toNat - 8 * (ov + 1))).isSome = true))], (SH L, υ)) ∧ SRF n k (q + 1) σ υ (frC (gFr q n c) (8 * (ov + 1)) ((8 * n 1).toNat - 8 * (ov + 1)))) → ∀ l : Nat, l ≤ (n 0).toNat → ∀ (τ : ex_S) (fr : Int) (w7 w8 : ex_V), SRI n k σ τ → fr = (if standN n (ov : Int) < 0 then -1 else standN n (ov : Int) / 8) → ∃ υ, ex_ev (d - 1) 82 4 [vR 33, vI c, vI (k : Int), vI ((k + (q + 1) : Nat) : Int), vI (ov : Int), vI fr, vI (l : Int), w7, w8] [] (SH L, τ) = some ([vI (b2i ((frC (gFr q n c) (8 * ov + l) ((8 * n 1).toNat - (8 * ov + l))).isSome = true))], (SH L, υ)) ∧ SRF n k (q + 1) σ υ (frC (gFr q n c) (8 * ov + l) ((8 * n 1).toNat - (8 * ov + l))) := by
        intro ov ho nxt
        refine down ?_ ?_
        · intro τ fr w7 w8 hI hfr
          obtain ⟨t1, t2, t3⟩ := id hI
          have la := t2.la
          obtain ⟨υ, e, f⟩ := nxt τ (vI fr) (vI (n 0)) w7 w8 hI
          have sk := frC_skip (gFr q n c) (8 - (n 0).toNat) (8 * ov + (n 0).toNat) ((8 * n 1).toNat - 8 * (ov + 1)) (fun y y1 y2 => if_pos (Or.inr (Or.inl (by omega))))
          rw [show 8 - (n 0).toNat + ((8 * n 1).toNat - 8 * (ov + 1)) = (8 * n 1).toNat - (8 * ov + (n 0).toNat) by omega, show 8 * ov + (n 0).toNat + (8 - (n 0).toNat) = 8 * (ov + 1) by omega] at sk
          rw [sk]
          refine ⟨υ, ?_, f⟩
          rw [← e, ev_82_4, show (((n 0).toNat : Nat) : Int) = n 0 by omega]
          simp (disch := first | assumption | omega | ((repeat' first | exact ok_nil | apply ok_I | apply ok_R); done) | (simp (disch := first | omega | decide) only [ex_ar_same, ex_ar_diff, kM_diff, ex_u_same, ex_u_diff]; first | assumption | omega)) only [ev_82_0, ev_82_1, ev_82_2, ev_82_5, ev_82_6, ev_82_7, ev_82_8, gf_33_0, gf_33_1, gf_35_0, gf_35_1, gf_35_12, gf_6_0, gf_6_1, gf_6_12, ld_17, ld_34, ld_46, sd_17, sd_34, sd_46, x_fall, x_goto, x_push, x_ret2, x_ret2b, xc_235, xc_32, xc_34_35, xc_34_6, xc_80, xl_a0, xl_i1, xl_i2, xl_i3, xl_i4, xl_i5, xl_i6, xl_i7, xl_i8, xn_4, xn_6, xt_i4, xt_i5, xt_i6, xt_i7, xt_i8, y_cmp_ge_f, y_cmp_ge_t, y_cmp_le_f, y_cmp_le_t, y_cmp_lt_f, y_cmp_lt_t, y_iadd, y_if_eq_f, y_if_eq_t, y_if_ne_f, y_if_ne_t, y_imul, y_isub, i_wr_id, kM_diff, Int.reduceToNat, ex_ar_same, ex_ar_ar, ex_ar_diff, ex_u_same, ex_u_diff, b2i_t, b2i_f, ex_div_nn, ex_rem_nn, Int.toNat_zero, Int.toNat_one, Int.reduceAdd, Int.reduceSub, Int.reduceMul, Int.reduceNeg, kC_ne, fC_ne]
        · intro l hl ihl τ fr w7 w8 hI hfr
          obtain ⟨t1, t2, t3⟩ := id hI
          have la := t2.la
          have xd : ((8 * ov + l : Nat) : Int) / 8 = (ov : Int) := by omega
          have xm : ((8 * ov + l : Nat) : Int) % 8 = (l : Int) := by omega
          have xe : (ov : Int) * 8 + (l : Int) = ((8 * ov + l : Nat) : Int) := by omega
          have hKt : KB (τ 33 2) n := by rw [t1 33 (by omega)]; exact hK
          have co := fp_83 (d := d - 1) (L := L) (c := c) (x := ((8 * ov + l : Nat) : Int)) (by omega) t2 hN hKt (by omega)
          rw [show (8 * n 1).toNat - (8 * ov + l) = ((8 * n 1).toNat - (8 * ov + (l + 1))) + 1 by omega, frC]
          by_cases ok : okC n c ((8 * ov + l : Nat) : Int)
          · rw [b2i_t ok, if_pos ok] at co
            obtain ⟨g1, g2, g3⟩ := okC_go hN ok t2
            obtain ⟨o0, o1, o2, o3, o4⟩ := id ok
            obtain ⟨s1, s2, s3, s4, -⟩ := hind_0 o4
            have eg : (gFr q n c) (8 * ov + l) = (frN q (doesF n (((8 * ov + l : Nat) : Int) / 8) (((8 * ov + l : Nat) : Int) % 8)) c).map (fun p => ((8 * ov + l : Nat) : Int) :: p) := if_neg (by
              rintro (y | y | y)
              · exact o2 y
              · exact y o3
              · exact y o4)
            rw [eg]
            simp only [xd, xm] at co g1 g2 g3 s1 s2 s3 s4 ⊢
            have fr1 : fr = standN n (ov : Int) / 8 := by rw [hfr, if_neg (by omega)]
            have nl : (l : Int) < n 0 := by omega
            have no1 : (ov : Int) < n 1 := by omega
            have h12 : n (41 + (l : Int)) ≠ 12 := fun y => s4 (Or.inr y)
            have M : ∀ a, a < 35 ∨ 46 < a → mvS 35 τ n (ov : Int) (l : Int) a = τ a := fun a ha => mvS_ne (by omega) (by omega) (by omega) (by omega)
            -- the row is written, then the search goes on
            have R1 : RG35 (ex_ar (mvS 35 τ n (ov : Int) (l : Int)) 34 (ex_u (τ 34) (k : Int) ((8 * ov + l : Nat) : Int))) (doesF n (ov : Int) (l : Int)) := RG_fr (G := 35) g1 g2 (fun a x1 x2 => ex_ar_diff _ _ _ (by omega))
            have e1 : doesF n (ov : Int) (l : Int) 1 = n 1 := doesF_lo hN (by omega) (by omega) s1 (by omega)
            have es : standN (doesF n (ov : Int) (l : Int)) c = standN n c := by rw [g3, if_neg (fun y => o2 (by rw [xd]; exact y.symm))]
            obtain ⟨τ2, r1, ⟨p1, p2, p3⟩, p4⟩ := ih (d - 1) L (ex_ar (mvS 35 τ n (ov : Int) (l : Int)) 34 (ex_u (τ 34) (k : Int) ((8 * ov + l : Nat) : Int))) (doesF n (ov : Int) (l : Int)) c (k + 1) (by omega) (by omega) R1 g2 (by rw [ex_ar_diff _ _ _ (by decide), M 33 (by omega)]; exact KB_does hN hKt (by omega) (by omega) s1) c0 (by rw [e1]; exact c1) (by rw [es]; exact hs)
            obtain ⟨m1, y1, k1, m0, y0, k0, ⟨v1, v2, v3, v4, v5, v6, v7⟩, ⟨u0, u1⟩, ⟨ma, mb⟩, ⟨ya, yb⟩, ⟨mc, md⟩, ⟨yc, yd⟩, RB⟩ := RG_back hN (show 0 ≤ (ov : Int) by omega) no1 (show 0 ≤ (l : Int) by omega) nl s3 s2 h12 p2
            have mbk := sp_32 (d := d - 1) (L := L) (σ := τ2) (c := (ov : Int)) (l := (l : Int)) (fr := standN n (ov : Int) / 8) (by omega) v1 v2 v3 v4 v5 v6 v7 (by omega) (by omega) (by omega) (by omega) u0 u1 ma mb ya yb mc md yc yd s2
            have I3 : SRI n k σ (mbS τ2 (ov : Int) (l : Int) (standN n (ov : Int) / 8) m1 y1 k1 m0 y0 k0) := by
              refine ⟨fun a ha => ?_, RB, fun i hi => ?_⟩
              · rw [mbS_ne (by omega), p1 a ha, ex_ar_diff _ _ _ (by omega), M a (by omega), t1 a ha]
              · rw [mbS_ne (by omega), p3 i (by omega), ex_ar_same, ex_u_diff _ _ (by omega), t3 i hi]
            rw [show (k + 1 + q : Nat) = k + (q + 1) by omega, show ((k + 1 : Nat) : Int) = (k : Int) + 1 by omega] at r1
            have M34 : mvS 35 τ n (ov : Int) (l : Int) 34 = τ 34 := M 34 (by omega)
            by_cases fo : (frN q (doesF n (ov : Int) (l : Int)) c).isSome = true
            · rw [b2i_t fo] at r1
              rw [Option.isSome_map, if_pos fo, Option.isSome_map, b2i_t fo]
              refine ⟨_, ?_, I3, fun p hp j hj => ?_⟩
              · rw [ev_82_4]
                simp (disch := first | assumption | omega | ((repeat' first | exact ok_nil | apply ok_I | apply ok_R); done) | (simp (disch := first | omega | decide) only [ex_ar_same, ex_ar_diff, kM_diff, ex_u_same, ex_u_diff]; first | assumption | omega)) only [(xr_32 mbk), (xr_82 r1), (xr_83 co), M34, ev_82_0, ev_82_1, ev_82_2, ev_82_5, ev_82_6, ev_82_7, ev_82_8, fr1, gf_33_0, gf_33_1, gf_35_0, gf_35_1, gf_35_12, gf_6_0, gf_6_1, gf_6_12, ld_17, ld_34, ld_46, sd_17, sd_34, sd_46, x_fall, x_goto, x_push, x_ret2, x_ret2b, xc_235, xc_32, xc_34_35, xc_34_6, xc_80, xe, xl_a0, xl_i1, xl_i2, xl_i3, xl_i4, xl_i5, xl_i6, xl_i7, xl_i8, xn_4, xn_6, xt_i4, xt_i5, xt_i6, xt_i7, xt_i8, y_cmp_ge_f, y_cmp_ge_t, y_cmp_le_f, y_cmp_le_t, y_cmp_lt_f, y_cmp_lt_t, y_iadd, y_if_eq_f, y_if_eq_t, y_if_ne_f, y_if_ne_t, y_imul, y_isub, i_wr_id, kM_diff, Int.reduceToNat, ex_ar_same, ex_ar_ar, ex_ar_diff, ex_u_same, ex_u_diff, b2i_t, b2i_f, ex_div_nn, ex_rem_nn, Int.toNat_zero, Int.toNat_one, Int.reduceAdd, Int.reduceSub, Int.reduceMul, Int.reduceNeg, kC_ne, fC_ne]
              · obtain ⟨p', hp'⟩ := Option.isSome_iff_exists.mp fo
                rw [hp'] at hp
                have hp2 : p = ((8 * ov + l : Nat) : Int) :: p' := (Option.some.inj hp).symm
                rw [mbS_ne (by omega), hp2]
                cases j with
                | zero =>
                  rw [show (k : Int) + ((0 : Nat) : Int) = (k : Int) by omega, p3 (k : Int) (by omega), ex_ar_same, ex_u_same]; rfl
                | succ j =>
                  have := p4 p' hp' j (by omega)
                  rw [show (k : Int) + ((j + 1 : Nat) : Int) = ((k + 1 : Nat) : Int) + (j : Int) by omega, this]; rfl
            · rw [b2i_f fo] at r1
              rw [Option.isSome_map, if_neg fo]
              obtain ⟨υ, e, f⟩ := ihl (mbS τ2 (ov : Int) (l : Int) (standN n (ov : Int) / 8) m1 y1 k1 m0 y0 k0) fr (vI ((8 * ov + l : Nat) : Int)) (vI 0) I3 hfr
              rw [show 8 * ov + l + 1 = 8 * ov + (l + 1) by omega]
              refine ⟨υ, ?_, f⟩
              rw [← e, ev_82_4]
              simp (disch := first | assumption | omega | ((repeat' first | exact ok_nil | apply ok_I | apply ok_R); done) | (simp (disch := first | omega | decide) only [ex_ar_same, ex_ar_diff, kM_diff, ex_u_same, ex_u_diff]; first | assumption | omega)) only [(xr_32 mbk), (xr_82 r1), (xr_83 co), M34, ev_82_0, ev_82_1, ev_82_2, ev_82_5, ev_82_6, ev_82_7, ev_82_8, fr1, gf_33_0, gf_33_1, gf_35_0, gf_35_1, gf_35_12, gf_6_0, gf_6_1, gf_6_12, ld_17, ld_34, ld_46, sd_17, sd_34, sd_46, x_fall, x_goto, x_push, x_ret2, x_ret2b, xc_235, xc_32, xc_34_35, xc_34_6, xc_80, xe, xl_a0, xl_i1, xl_i2, xl_i3, xl_i4, xl_i5, xl_i6, xl_i7, xl_i8, xn_4, xn_6, xt_i4, xt_i5, xt_i6, xt_i7, xt_i8, y_cmp_ge_f, y_cmp_ge_t, y_cmp_le_f, y_cmp_le_t, y_cmp_lt_f, y_cmp_lt_t, y_iadd, y_if_eq_f, y_if_eq_t, y_if_ne_f, y_if_ne_t, y_imul, y_isub, i_wr_id, kM_diff, Int.reduceToNat, ex_ar_same, ex_ar_ar, ex_ar_diff, ex_u_same, ex_u_diff, b2i_t, b2i_f, ex_div_nn, ex_rem_nn, Int.toNat_zero, Int.toNat_one, Int.reduceAdd, Int.reduceSub, Int.reduceMul, Int.reduceNeg, kC_ne, fC_ne]
              rw [nat_cast_succ]
          · rw [b2i_f ok, if_neg ok] at co
            have eg : (gFr q n c) (8 * ov + l) = none := if_pos (by
              by_cases z1 : ((8 * ov + l : Nat) : Int) / 8 = c
              · exact Or.inl z1
              · by_cases z2 : hindN n (((8 * ov + l : Nat) : Int) / 8) (((8 * ov + l : Nat) : Int) % 8) = 0
                · exact absurd ⟨by omega, by omega, z1, by omega, z2⟩ ok
                · exact Or.inr (Or.inr z2))
            obtain ⟨υ, e, f⟩ := ihl τ fr (vI ((8 * ov + l : Nat) : Int)) w8 hI hfr
            rw [eg, if_neg (by decide), show 8 * ov + l + 1 = 8 * ov + (l + 1) by omega]
            refine ⟨υ, ?_, f⟩
            rw [← e, ev_82_4]
            simp (disch := first | assumption | omega | ((repeat' first | exact ok_nil | apply ok_I | apply ok_R); done) | (simp (disch := first | omega | decide) only [ex_ar_same, ex_ar_diff, kM_diff, ex_u_same, ex_u_diff]; first | assumption | omega)) only [(xr_83 co), ev_82_0, ev_82_1, ev_82_2, ev_82_5, ev_82_6, ev_82_7, ev_82_8, gf_33_0, gf_33_1, gf_35_0, gf_35_1, gf_35_12, gf_6_0, gf_6_1, gf_6_12, ld_17, ld_34, ld_46, sd_17, sd_34, sd_46, x_fall, x_goto, x_push, x_ret2, x_ret2b, xc_235, xc_32, xc_34_35, xc_34_6, xc_80, xe, xl_a0, xl_i1, xl_i2, xl_i3, xl_i4, xl_i5, xl_i6, xl_i7, xl_i8, xn_4, xn_6, xt_i4, xt_i5, xt_i6, xt_i7, xt_i8, y_cmp_ge_f, y_cmp_ge_t, y_cmp_le_f, y_cmp_le_t, y_cmp_lt_f, y_cmp_lt_t, y_iadd, y_if_eq_f, y_if_eq_t, y_if_ne_f, y_if_ne_t, y_imul, y_isub, i_wr_id, kM_diff, Int.reduceToNat, ex_ar_same, ex_ar_ar, ex_ar_diff, ex_u_same, ex_u_diff, b2i_t, b2i_f, ex_div_nn, ex_rem_nn, Int.toNat_zero, Int.toNat_one, Int.reduceAdd, Int.reduceSub, Int.reduceMul, Int.reduceNeg, kC_ne, fC_ne]
            rw [nat_cast_succ]
      have out : ∀ ov : Nat, ov ≤ (n 1).toNat → ∀ (τ : ex_S) (w5 w6 w7 w8 : ex_V), SRI n k σ τ → ∃ υ, ex_ev (d - 1) 82 3 [vR 33, vI c, vI (k : Int), vI ((k + (q + 1) : Nat) : Int), vI (ov : Int), w5, w6, w7, w8] [] (SH L, τ) = some ([vI (b2i ((frC (gFr q n c) (8 * ov) ((8 * n 1).toNat - 8 * ov)).isSome = true))], (SH L, υ)) ∧ SRF n k (q + 1) σ υ (frC (gFr q n c) (8 * ov) ((8 * n 1).toNat - 8 * ov)) := by
        refine down ?_ ?_
        · intro τ w5 w6 w7 w8 hI
          obtain ⟨t1, t2, t3⟩ := id hI
          have ca := t2.ca
          rw [show (8 * n 1).toNat - 8 * (n 1).toNat = 0 by omega, frC]
          refine ⟨τ, ?_, hI, fun p hp => by cases hp⟩
          rw [b2i_f (by decide), ev_82_3]
          simp (disch := first | assumption | omega | ((repeat' first | exact ok_nil | apply ok_I | apply ok_R); done) | (simp (disch := first | omega | decide) only [ex_ar_same, ex_ar_diff, kM_diff, ex_u_same, ex_u_diff]; first | assumption | omega)) only [ev_82_0, ev_82_1, ev_82_2, ev_82_5, ev_82_6, ev_82_7, ev_82_8, gf_33_0, gf_33_1, gf_35_0, gf_35_1, gf_35_12, gf_6_0, gf_6_1, gf_6_12, ld_17, ld_34, ld_46, sd_17, sd_34, sd_46, x_fall, x_goto, x_push, x_ret2, x_ret2b, xc_235, xc_32, xc_34_35, xc_34_6, xc_80, xl_a0, xl_i1, xl_i2, xl_i3, xl_i4, xl_i5, xl_i6, xl_i7, xl_i8, xn_4, xn_6, xt_i4, xt_i5, xt_i6, xt_i7, xt_i8, y_cmp_ge_f, y_cmp_ge_t, y_cmp_le_f, y_cmp_le_t, y_cmp_lt_f, y_cmp_lt_t, y_iadd, y_if_eq_f, y_if_eq_t, y_if_ne_f, y_if_ne_t, y_imul, y_isub, i_wr_id, kM_diff, Int.reduceToNat, ex_ar_same, ex_ar_ar, ex_ar_diff, ex_u_same, ex_u_diff, b2i_t, b2i_f, ex_div_nn, ex_rem_nn, Int.toNat_zero, Int.toNat_one, Int.reduceAdd, Int.reduceSub, Int.reduceMul, Int.reduceNeg, kC_ne, fC_ne]
        · intro ov ho ihv τ w5 w6 w7 w8 hI
          obtain ⟨t1, t2, t3⟩ := id hI
          have ca := t2.ca
          have wh := t2.wh ov (by omega) (by omega)
          rw [← nat_cast_succ] at ihv
          obtain ⟨υ, e, f⟩ := inl ov (by omega) ihv 0 (by omega) τ (if standN n (ov : Int) < 0 then -1 else standN n (ov : Int) / 8) w7 w8 hI rfl
          simp only [Nat.add_zero] at e f
          refine ⟨υ, ?_, f⟩
          rw [← e, ev_82_3]
          simp (disch := first | assumption | omega | ((repeat' first | exact ok_nil | apply ok_I | apply ok_R); done) | (simp (disch := first | omega | decide) only [ex_ar_same, ex_ar_diff, kM_diff, ex_u_same, ex_u_diff]; first | assumption | omega)) only [ev_82_0, ev_82_1, ev_82_2, ev_82_5, ev_82_6, ev_82_7, ev_82_8, gf_33_0, gf_33_1, gf_35_0, gf_35_1, gf_35_12, gf_6_0, gf_6_1, gf_6_12, ld_17, ld_34, ld_46, sd_17, sd_34, sd_46, wh, x_fall, x_goto, x_push, x_ret2, x_ret2b, xc_235, xc_32, xc_34_35, xc_34_6, xc_80, xl_a0, xl_i1, xl_i2, xl_i3, xl_i4, xl_i5, xl_i6, xl_i7, xl_i8, xn_4, xn_6, xt_i4, xt_i5, xt_i6, xt_i7, xt_i8, y_cmp_ge_f, y_cmp_ge_t, y_cmp_le_f, y_cmp_le_t, y_cmp_lt_f, y_cmp_lt_t, y_iadd, y_if_eq_f, y_if_eq_t, y_if_ne_f, y_if_ne_t, y_imul, y_isub, i_wr_id, kM_diff, Int.reduceToNat, ex_ar_same, ex_ar_ar, ex_ar_diff, ex_u_same, ex_u_diff, b2i_t, b2i_f, ex_div_nn, ex_rem_nn, Int.toNat_zero, Int.toNat_one, Int.reduceAdd, Int.reduceSub, Int.reduceMul, Int.reduceNeg, kC_ne, fC_ne]
          rfl
      obtain ⟨υ, e, f⟩ := out 0 (by omega) σ (vL 0) (vL 0) (vL 0) (vL 0) ⟨fun _ _ => rfl, hR, fun _ _ => rfl⟩
      rw [Nat.mul_zero, Nat.sub_zero] at e f
      have ef : frC (gFr q n c) 0 (8 * n 1).toNat = frN (q + 1) n c := (frN_g q n c).symm
      rw [ef] at e f
      refine ⟨υ, ?_, f⟩
      have e' : ex_ev (d - 1) 82 3 [vR 33, vI c, vI (k : Int), vI ((k + (q + 1) : Nat) : Int), vI 0, vL 0, vL 0, vL 0, vL 0] [] (SH L, σ) = _ := e
      rw [← e']
      simp (disch := first | assumption | omega | ((repeat' first | exact ok_nil | apply ok_I | apply ok_R); done) | (simp (disch := first | omega | decide) only [ex_ar_same, ex_ar_diff, kM_diff, ex_u_same, ex_u_diff]; first | assumption | omega)) only [am, ev_82_0, ev_82_1, ev_82_2, ev_82_5, ev_82_6, ev_82_7, ev_82_8, gf_33_0, gf_33_1, gf_35_0, gf_35_1, gf_35_12, gf_6_0, gf_6_1, gf_6_12, ia, ld_17, ld_34, ld_46, sd_17, sd_34, sd_46, x_fall, x_goto, x_push, x_ret2, x_ret2b, xc_235, xc_32, xc_34_35, xc_34_6, xc_80, xl_a0, xl_i1, xl_i2, xl_i3, xl_i4, xl_i5, xl_i6, xl_i7, xl_i8, xn_4, xn_6, xt_i4, xt_i5, xt_i6, xt_i7, xt_i8, y_cmp_ge_f, y_cmp_ge_t, y_cmp_le_f, y_cmp_le_t, y_cmp_lt_f, y_cmp_lt_t, y_iadd, y_if_eq_f, y_if_eq_t, y_if_ne_f, y_if_ne_t, y_imul, y_isub, i_wr_id, kM_diff, Int.reduceToNat, ex_ar_same, ex_ar_ar, ex_ar_diff, ex_u_same, ex_u_diff, b2i_t, b2i_f, ex_div_nn, ex_rem_nn, Int.toNat_zero, Int.toNat_one, Int.reduceAdd, Int.reduceSub, Int.reduceMul, Int.reduceNeg, kC_ne, fC_ne]
