/-! the class: what a text lets, and shunts -/
theorem xr_65 {rt d L : Nat} {J : Nat → List ex_V → List ex_V → ex_H → Option ex_R} {is : List Instr} {ls st : List ex_V} {σ : ex_S} {H2 : ex_H} {z r : Int} (he : ex_cd d 65 [vR 57, vR 26, vI z] (SH L, σ) = some ([vI r], H2)) (hok : okN 8 st = true) : ex_xs rt J (ex_cd d) (.invokevirtual 65 :: is) ls (vI z :: vR 26 :: vR 57 :: st) (SH L, σ) = ex_xs rt J (ex_cd d) is ls (vI r :: st) H2 := x_call1 (Or.inl rfl) rfl (sh_57 _) (Or.inl ⟨rfl, rfl⟩) (as := [vR 26, vI z]) rfl rfl (okN_ok hok) rfl he
theorem xr_64 {rt d L : Nat} {J : Nat → List ex_V → List ex_V → ex_H → Option ex_R} {is : List Instr} {ls st : List ex_V} {σ : ex_S} {H2 : ex_H} {z r : Int} (he : ex_cd d 64 [vR 57, vR 26, vI z] (SH L, σ) = some ([vI r], H2)) (hok : okN 8 st = true) : ex_xs rt J (ex_cd d) (.invokevirtual 64 :: is) ls (vI z :: vR 26 :: vR 57 :: st) (SH L, σ) = ex_xs rt J (ex_cd d) is ls (vI r :: st) H2 := x_call1 (Or.inl rfl) rfl (sh_57 _) (Or.inl ⟨rfl, rfl⟩) (as := [vR 26, vI z]) rfl rfl (okN_ok hok) rfl he
theorem xr_136 {rt d L : Nat} {J : Nat → List ex_V → List ex_V → ex_H → Option ex_R} {is : List Instr} {ls st : List ex_V} {σ : ex_S} {H2 : ex_H} {a b c r : Int} (he : ex_cd d 136 [vR 4, vI a, vI b, vI c] (SH L, σ) = some ([vI r], H2)) (hok : okN 8 st = true) : ex_xs rt J (ex_cd d) (.invokevirtual 136 :: is) ls (vI c :: vI b :: vI a :: vR 4 :: st) (SH L, σ) = ex_xs rt J (ex_cd d) is ls (vI r :: st) H2 := x_call1 (Or.inl rfl) rfl (sh_4 _) (Or.inl ⟨rfl, rfl⟩) (as := [vI a, vI b, vI c]) rfl rfl (okN_ok hok) rfl he
abbrev knP (n kn : Int → Int) (c l h : Int) : Prop := kn 1 = h ∧ kn 2 = n (91 + c) ∧ kn 3 = n (107 + c) ∧ kn 4 = l ∧ kn 5 = n (11 + l) ∧ kn 6 = n 4
theorem lk_let {n kn r r' : Int → Int} {c l h : Int} (hN : NI n) (hk : knP n kn c l h) (nb : ∀ k, k < (n 9).toNat → ¬ badAt n k) : ∀ i : Nat, i ≤ (n 9).toNat → ∀ k : Int, 0 ≤ k → k < deepR n i → lkR n kn r i k = letR n c l h r' i k
  | 0, _, k, k0, k1 => by
    have e : deepR n 0 = 0 := rfl
    omega
  | i + 1, hi, k, k0, k1 => by
    have ih := lk_let hN hk nb i (by omega) (r := r) (r' := r')
    have b1 := deep_bd n _ nb i (by omega)
    have b2 := nb i (by omega)
    have a9 := hN.a9
    have tx := hN.tx i (by omega) (by omega)
    obtain ⟨n1, n2, n3, n4, n5, n6⟩ := hk
    rw [deepR] at k1
    rw [lkR, letR]
    generalize lkR n kn r i = R at ih ⊢
    generalize letR n c l h r' i = R' at ih ⊢
    unfold letF wkN
    unfold badAt at b2
    unfold takesN at b2 k1 ⊢
    by_cases t1 : n (231 + (i : Int)) < 40
    · rw [if_pos t1] at b2 k1
      simp only [if_pos t1]
      rw [show deepR n i - 0 = deepR n i by omega]
      by_cases z : k = deepR n i
      · rw [z, ex_u_same, ex_u_same]
        unfold readN
        by_cases t2 : 10 ≤ n (231 + (i : Int))
        · rw [if_pos t2, if_neg (by omega), if_neg (by omega), if_neg (by omega), if_neg (by omega), if_neg (by omega), if_neg (by omega)]
        · rw [if_neg t2]
          rcases (show n (231 + (i : Int)) = 1 ∨ n (231 + (i : Int)) = 2 ∨ n (231 + (i : Int)) = 3 ∨ n (231 + (i : Int)) = 4 ∨ n (231 + (i : Int)) = 5 ∨ n (231 + (i : Int)) = 6 by omega) with e | e | e | e | e | e
          all_goals
            rw [e]
            simp only [Int.reduceEq, reduceIte]
            assumption
      · rw [ex_u_diff _ _ z, ex_u_diff _ _ z]
        exact ih k k0 (by omega)
    · rw [if_neg t1] at b2 k1
      simp only [if_neg t1]
      by_cases t2 : n (231 + (i : Int)) = 42
      · rw [if_pos t2] at b2 k1
        simp only [if_pos t2]
        by_cases z : k = deepR n i - 1
        · rw [z, ex_u_same, ex_u_same, ih (deepR n i - 1) (by omega) (by omega)]
        · rw [ex_u_diff _ _ z, ex_u_diff _ _ z]
          exact ih k k0 (by omega)
      · rw [if_neg t2] at b2 k1
        simp only [if_neg t2]
        by_cases z : k = deepR n i - 2
        · rw [z, ex_u_same, ex_u_same, ih (deepR n i - 2) (by omega) (by omega), if_pos (by omega), show deepR n i - 2 + 1 = deepR n i - 1 by omega, ih (deepR n i - 1) (by omega) (by omega)]
        · rw [ex_u_diff _ _ z, ex_u_diff _ _ z]
          exact ih k k0 (by omega)
theorem wrong_neg {n : Int → Int} (h : wrongN n < 0) (h9 : n 9 ≠ 0) (a9 : 0 ≤ n 9) : fbad n 0 (n 9).toNat < 0 ∧ deepR n (n 9).toNat = 1 ∧ wrongN n = -1 := by
  unfold wrongN at h ⊢
  by_cases z : 0 ≤ fbad n 0 (n 9).toNat
  · rw [if_pos z] at h; omega
  · rw [if_neg z] at h
    by_cases y : deepR n (n 9).toNat = 1 ∨ n 9 = 0
    · rw [if_neg z, if_pos y]; omega
    · rw [if_neg y] at h; omega
theorem fp_64 {d L : Nat} {σ : ex_S} {n q : Int → Int} {c l h : Int} (hd : 4 < d) (hD : RD5 σ n) (hN : NI n) (hk : knP n (σ 59) c l h) : ∃ r', ex_cd d 64 [vR 57, vR 26, vI (n 9)] (SH L, σ) = some ([vI (b2i (letP n q c l h))], (SH L, ex_ar σ 58 r')) := by
  have a9 := hN.a9
  by_cases z : n 9 = 0
  · refine ⟨σ 58, ?_⟩
    rw [ex_ar_id, b2i_t (Or.inl z), ex_cd_eq (by omega)]
    show ex_ev (d - 1) 64 0 [vR 57, vR 26, vI (n 9)] [] _ = _
    simp (disch := first | assumption | omega | ((repeat' first | exact ok_nil | apply ok_I | apply ok_R); done) | (simp (disch := first | omega | decide) only [ex_ar_same, ex_ar_diff, kM_diff, ex_u_same, ex_u_diff]; first | assumption | omega)) only [ev_64_0, ev_64_1, ev_64_2, ev_64_3, gf_57_0, ld_58, x_fall, x_goto, x_push, x_ret2, x_ret2b, xl_a0, xl_a1, xl_i2, y_cmp_ne_f, y_cmp_ne_t, y_if_eq_f, y_if_eq_t, i_wr_id, kM_diff, Int.reduceToNat, ex_ar_same, ex_ar_ar, ex_ar_diff, ex_u_same, ex_u_diff, b2i_t, b2i_f, ex_div_nn, ex_rem_nn, Int.toNat_zero, Int.toNat_one, Int.reduceAdd, Int.reduceSub, Int.reduceMul, Int.reduceNeg, kC_ne, fC_ne]
  · obtain ⟨r', h1, h2⟩ := fp_65 (d := d - 1) (L := L) (by omega) hD hN
    refine ⟨r', ?_⟩
    by_cases y : wrongN n < 0
    · obtain ⟨f1, f2, f3⟩ := wrong_neg y z a9
      have nb : ∀ k, k < (n 9).toNat → ¬ badAt n k := fun k hk => fbad_no _ _ 0 f1 k (by omega) (by omega)
      have e := lk_let (r := σ 58) (r' := q) hN hk nb (n 9).toNat (by omega) 0 (by omega) (by omega)
      rw [← h2 y] at e
      by_cases x : letR n c l h q (n 9).toNat 0 ≠ 0
      · rw [b2i_t (Or.inr ⟨y, x⟩), ex_cd_eq (by omega)]
        show ex_ev (d - 1) 64 0 [vR 57, vR 26, vI (n 9)] [] _ = _
        simp (disch := first | assumption | omega | ((repeat' first | exact ok_nil | apply ok_I | apply ok_R); done) | (simp (disch := first | omega | decide) only [ex_ar_same, ex_ar_diff, kM_diff, ex_u_same, ex_u_diff]; first | assumption | omega)) only [(xr_65 h1), e, ev_64_0, ev_64_1, ev_64_2, ev_64_3, gf_57_0, ld_58, x_fall, x_goto, x_push, x_ret2, x_ret2b, xl_a0, xl_a1, xl_i2, y_cmp_ne_f, y_cmp_ne_t, y_if_eq_f, y_if_eq_t, i_wr_id, kM_diff, Int.reduceToNat, ex_ar_same, ex_ar_ar, ex_ar_diff, ex_u_same, ex_u_diff, b2i_t, b2i_f, ex_div_nn, ex_rem_nn, Int.toNat_zero, Int.toNat_one, Int.reduceAdd, Int.reduceSub, Int.reduceMul, Int.reduceNeg, kC_ne, fC_ne]
      · rw [b2i_f (fun p => by rcases p with p | p; exact z p; exact x p.2), ex_cd_eq (by omega)]
        show ex_ev (d - 1) 64 0 [vR 57, vR 26, vI (n 9)] [] _ = _
        simp (disch := first | assumption | omega | ((repeat' first | exact ok_nil | apply ok_I | apply ok_R); done) | (simp (disch := first | omega | decide) only [ex_ar_same, ex_ar_diff, kM_diff, ex_u_same, ex_u_diff]; first | assumption | omega)) only [(xr_65 h1), e, ev_64_0, ev_64_1, ev_64_2, ev_64_3, gf_57_0, ld_58, x_fall, x_goto, x_push, x_ret2, x_ret2b, xl_a0, xl_a1, xl_i2, y_cmp_ne_f, y_cmp_ne_t, y_if_eq_f, y_if_eq_t, i_wr_id, kM_diff, Int.reduceToNat, ex_ar_same, ex_ar_ar, ex_ar_diff, ex_u_same, ex_u_diff, b2i_t, b2i_f, ex_div_nn, ex_rem_nn, Int.toNat_zero, Int.toNat_one, Int.reduceAdd, Int.reduceSub, Int.reduceMul, Int.reduceNeg, kC_ne, fC_ne]
    · rw [b2i_f (fun p => by rcases p with p | p; exact z p; exact y p.1), ex_cd_eq (by omega)]
      show ex_ev (d - 1) 64 0 [vR 57, vR 26, vI (n 9)] [] _ = _
      simp (disch := first | assumption | omega | ((repeat' first | exact ok_nil | apply ok_I | apply ok_R); done) | (simp (disch := first | omega | decide) only [ex_ar_same, ex_ar_diff, kM_diff, ex_u_same, ex_u_diff]; first | assumption | omega)) only [(xr_65 h1), ev_64_0, ev_64_1, ev_64_2, ev_64_3, gf_57_0, ld_58, x_fall, x_goto, x_push, x_ret2, x_ret2b, xl_a0, xl_a1, xl_i2, y_cmp_ne_f, y_cmp_ne_t, y_if_eq_f, y_if_eq_t, i_wr_id, kM_diff, Int.reduceToNat, ex_ar_same, ex_ar_ar, ex_ar_diff, ex_u_same, ex_u_diff, b2i_t, b2i_f, ex_div_nn, ex_rem_nn, Int.toNat_zero, Int.toNat_one, Int.reduceAdd, Int.reduceSub, Int.reduceMul, Int.reduceNeg, kC_ne, fC_ne]
def suF (f : Int → Int) (a b c e g k : Int) : Int → Int := ex_u (ex_u (ex_u (ex_u (ex_u (ex_u f 1 a) 2 b) 3 c) 4 e) 5 g) 6 k
theorem sp_63 {d : Nat} (hd : 0 < d) {L : Nat} {σ : ex_S} {a b c e g k : Int} : ex_cd d 63 [vR 57, vI a, vI b, vI c, vI e, vI g, vI k] (SH L, σ) = some ([], (SH L, ex_ar σ 59 (suF (σ 59) a b c e g k))) := by
  rw [ex_cd_eq (by omega)]
  show ex_ev (d - 1) 63 0 [vR 57, vI a, vI b, vI c, vI e, vI g, vI k] [] (SH L, σ) = _
  unfold suF
  simp (disch := first | assumption | omega | ((repeat' first | exact ok_nil | apply ok_I | apply ok_R); done) | (simp (disch := first | omega | decide) only [ex_ar_same, ex_ar_diff, kM_diff, ex_u_same, ex_u_diff]; first | assumption | omega)) only [ev_63_0, gf_57_1, sd_59, x_push, x_ret0, xl_a0, xl_i1, xl_i2, xl_i3, xl_i4, xl_i5, xl_i6, i_wr_id, kM_diff, Int.reduceToNat, ex_ar_same, ex_ar_ar, ex_ar_diff, ex_u_same, ex_u_diff, b2i_t, b2i_f, ex_div_nn, ex_rem_nn, Int.toNat_zero, Int.toNat_one, Int.reduceAdd, Int.reduceSub, Int.reduceMul, Int.reduceNeg, kC_ne, fC_ne]
theorem xc_63 {rt d : Nat} {J : Nat → List ex_V → List ex_V → ex_H → Option ex_R} {is : List Instr} {ls st : List ex_V} {L : Nat} {σ : ex_S} {a b c e g k : Int} (hd : 0 < d) (hok : okN 8 st = true) : ex_xs rt J (ex_cd d) (.invokevirtual 63 :: is) ls (vI k :: vI g :: vI e :: vI c :: vI b :: vI a :: vR 57 :: st) (SH L, σ) = ex_xs rt J (ex_cd d) is ls (st) (SH L, ex_ar σ 59 (suF (σ 59) a b c e g k)) := x_call1 (Or.inl rfl) rfl (sh_57 _) (Or.inl ⟨rfl, rfl⟩) (as := [vI a, vI b, vI c, vI e, vI g, vI k]) rfl rfl (okN_ok hok) rfl (sp_63 hd )
theorem su_kn (f n : Int → Int) (c l h : Int) : knP n (suF f h (n (91 + c)) (n (107 + c)) l (n (11 + l)) (n 4)) c l h := by
  unfold suF
  refine ⟨?_, ?_, ?_, ?_, ?_, ?_⟩
  all_goals simp (disch := decide) only [ex_u_diff, ex_u_same]
theorem fp_136 {d L : Nat} {σ : ex_S} {n q : Int → Int} {c l h : Int} (hd : 6 < d) (hD : RD5 σ n) (hN : NI n) (h1 : 0 ≤ c) (h2 : c < n 1) (h3 : 0 ≤ l) (h4 : l < n 0) : ∃ σ', ex_cd d 136 [vR 4, vI c, vI l, vI h] (SH L, σ) = some ([vI (b2i (letP n q c l h))], (SH L, σ')) ∧ ∀ a, a ≠ 58 → a ≠ 59 → σ' a = σ a := by
  have b0 := hN.b0
  have b1 := hN.b1
  have hR := hD.g
  have hD2 : RD5 (ex_ar σ 59 (suF (σ 59) h (n (91 + c)) (n (107 + c)) l (n (11 + l)) (n 4))) n := RD_fr (B := 5) hD hN (fun _ _ _ => rfl) (fun a a1 a2 => ex_ar_diff _ _ _ (by omega))
  have hk : knP n (ex_ar σ 59 (suF (σ 59) h (n (91 + c)) (n (107 + c)) l (n (11 + l)) (n 4)) 59) c l h := by rw [ex_ar_same]; exact su_kn _ _ _ _ _
  obtain ⟨r', e⟩ := fp_64 (d := d - 1) (L := L) (q := q) (by omega) hD2 hN hk
  refine ⟨_, ?_, fun a a1 a2 => by rw [ex_ar_diff _ _ _ a1, ex_ar_diff _ _ _ a2]⟩
  · exact r'
  · rw [ex_cd_eq (by omega)]
    show ex_ev (d - 1) 136 0 [vR 4, vI c, vI l, vI h, vL 0] [] _ = _
    have i10 := hD.i10
    have i6 := hD.i6
    have kd := hR.kd l h3 h4
    have z0 : n (91 + 8 * 0 + c) = n (91 + c) := by rw [show (91 + 8 * 0 + c : Int) = 91 + c by omega]
    have z2 : n (91 + 8 * 2 + c) = n (107 + c) := by rw [show (91 + 8 * 2 + c : Int) = 107 + c by omega]
    have z0' : n (91 + 0 + c) = n (91 + c) := by rw [show (91 + 0 + c : Int) = 91 + c by omega]
    simp (disch := first | assumption | omega | ((repeat' first | exact ok_nil | apply ok_I | apply ok_R); done) | (simp (disch := first | omega | decide) only [ex_ar_same, ex_ar_diff, kM_diff, ex_u_same, ex_u_diff]; first | assumption | omega)) only [(xr_64 e), ev_136_0, gf_35_2, gf_4_0, gf_4_7, gf_5_0, gf_5_10, gf_5_4, gf_5_6, gf_6_2, i10, i6, kd, ld_26, ld_36, ld_7, x_push, x_ret2, x_ret2b, xc_17_35, xc_17_6, xc_63, xl_a0, xl_a4, xl_i1, xl_i2, xl_i3, xt_a4, z0, z0', z2, i_wr_id, kM_diff, Int.reduceToNat, ex_ar_same, ex_ar_ar, ex_ar_diff, ex_u_same, ex_u_diff, b2i_t, b2i_f, ex_div_nn, ex_rem_nn, Int.toNat_zero, Int.toNat_one, Int.reduceAdd, Int.reduceSub, Int.reduceMul, Int.reduceNeg, kC_ne, fC_ne]
