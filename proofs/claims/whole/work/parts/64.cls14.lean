/-! the class: what a text lets, and shunts -/
theorem xr_65 {rt d L : Nat} {J : Nat → List ex_V → List ex_V → ex_H → Option ex_R} {is : List Instr} {ls st : List ex_V} {σ : ex_S} {H2 : ex_H} {z r : Int} (he : ex_cd d 65 [vR 57, vR 26, vI z] (SH L, σ) = some ([vI r], H2)) (hok : okN 8 st = true) : ex_xs rt J (ex_cd d) (.invokevirtual 65 :: is) ls (vI z :: vR 26 :: vR 57 :: st) (SH L, σ) = ex_xs rt J (ex_cd d) is ls (vI r :: st) H2 := x_call1 (Or.inl rfl) rfl (sh_57 _) (Or.inl ⟨rfl, rfl⟩) (as := [vR 26, vI z]) rfl rfl (okN_ok hok) rfl he
theorem xr_64 {rt d L : Nat} {J : Nat → List ex_V → List ex_V → ex_H → Option ex_R} {is : List Instr} {ls st : List ex_V} {σ : ex_S} {H2 : ex_H} {z r : Int} (he : ex_cd d 64 [vR 57, vR 26, vI z] (SH L, σ) = some ([vI r], H2)) (hok : okN 8 st = true) : ex_xs rt J (ex_cd d) (.invokevirtual 64 :: is) ls (vI z :: vR 26 :: vR 57 :: st) (SH L, σ) = ex_xs rt J (ex_cd d) is ls (vI r :: st) H2 := x_call1 (Or.inl rfl) rfl (sh_57 _) (Or.inl ⟨rfl, rfl⟩) (as := [vR 26, vI z]) rfl rfl (okN_ok hok) rfl he
theorem xr_136 {rt d L : Nat} {J : Nat → List ex_V → List ex_V → ex_H → Option ex_R} {is : List Instr} {ls st : List ex_V} {σ : ex_S} {H2 : ex_H} {a b c r : Int} (he : ex_cd d 136 [vR 4, vI a, vI b, vI c] (SH L, σ) = some ([vI r], H2)) (hok : okN 8 st = true) : ex_xs rt J (ex_cd d) (.invokevirtual 136 :: is) ls (vI c :: vI b :: vI a :: vR 4 :: st) (SH L, σ) = ex_xs rt J (ex_cd d) is ls (vI r :: st) H2 := x_call1 (Or.inl rfl) rfl (sh_4 _) (Or.inl ⟨rfl, rfl⟩) (as := [vI a, vI b, vI c]) rfl rfl (okN_ok hok) rfl he
abbrev knP (n kn : Int → Int) (c l h : Int) : Prop := kn 1 = h ∧ kn 2 = n (91 + c) ∧ kn 3 = n (107 + c) ∧ kn 4 = l ∧ kn 5 = n (11 + l) ∧ kn 6 = n 4
theorem lk_let {n kn r r' : Int → Int} {c l h : Int} (hN : NI n) (hk : knP n kn c l h) (nb : ∀ k, k < (n 9).toNat → ¬ badAt n k) : ∀ i : Nat, i ≤ (n 9).toNat → ∀ k : Int, 0 ≤ k → k < deepR n i → lkR n kn r i k = letR n c l h r' i k
  | 0, _, k, k0, k1 => by
    have e : deepR n 0 = 0 := rfl
    omega
  | i + 1, hi, k, k0, k1 => by
    have ih := lk_let hN hk nb i (by omega) (r := r) (r' := r')
    have b1 := deep_bd n _ nb i (by omega)
    have b2 := nb i (by omega)
    have a9 := hN.a9
    have tx := hN.tx i (by omega) (by omega)
    obtain ⟨n1, n2, n3, n4, n5, n6⟩ := hk
    rw [deepR] at k1
    rw [lkR, letR]
    generalize lkR n kn r i = R at ih ⊢
    generalize letR n c l h r' i = R' at ih ⊢
    unfold letF wkN
    unfold badAt at b2
    unfold takesN at b2 k1 ⊢
    by_cases t1 : n (231 + (i : Int)) < 40
    · rw [if_pos t1] at b2 k1
      simp only [if_pos t1]
      rw [show deepR n i - 0 = deepR n i by omega]
      by_cases z : k = deepR n i
      · rw [z, ex_u_same, ex_u_same]
        unfold readN
        by_cases t2 : 10 ≤ n (231 + (i : Int))
        · rw [if_pos t2, if_neg (by omega), if_neg (by omega), if_neg (by omega), if_neg (by omega), if_neg (by omega), if_neg (by omega)]
        · rw [if_neg t2]
          rcases (show n (231 + (i : Int)) = 1 ∨ n (231 + (i : Int)) = 2 ∨ n (231 + (i : Int)) = 3 ∨ n (231 + (i : Int)) = 4 ∨ n (231 + (i : Int)) = 5 ∨ n (231 + (i : Int)) = 6 by omega) with e | e | e | e | e | e
          all_goals
            rw [e]
            simp only [Int.reduceEq, reduceIte]
            assumption
      · rw [ex_u_diff _ _ z, ex_u_diff _ _ z]
        exact ih k k0 (by omega)
    · rw [if_neg t1] at b2 k1
      simp only [if_neg t1]
      by_cases t2 : n (231 + (i : Int)) = 42
      · rw [if_pos t2] at b2 k1
        simp only [if_pos t2]
        by_cases z : k = deepR n i - 1
        · rw [z, ex_u_same, ex_u_same, ih (deepR n i - 1) (by omega) (by omega)]
        · rw [ex_u_diff _ _ z, ex_u_diff _ _ z]
          exact ih k k0 (by omega)
      · rw [if_neg t2] at b2 k1
        simp only [if_neg t2]
        by_cases z : k = deepR n i - 2
        · rw [z, ex_u_same, ex_u_same, ih (deepR n i - 2) (by omega) (by omega), if_pos (by omega), show deepR n i - 2 + 1 = deepR n i - 1 by omega, ih (deepR n i - 1) (by omega) (by omega)]
        · rw [ex_u_diff _ _ z, ex_u_diff _ _ z]
          exact ih k k0 (by omega)
theorem wrong_neg {n : Int → Int} (h : wrongN n < 0) (h9 : n 9 ≠ 0) (a9 : 0 ≤ n 9) : fbad n 0 (n 9).toNat < 0 ∧ deepR n (n 9).toNat = 1 ∧ wrongN n = -1 := by
  unfold wrongN at h ⊢
  by_cases z : 0 ≤ fbad n 0 (n 9).toNat
  · rw [if_pos z] at h; omega
  · rw [if_neg z] at h
    by_cases y : deepR n (n 9).toNat = 1 ∨ n 9 = 0
    · rw [if_neg z, if_pos y]; omega
    · rw [if_neg y] at h; omega
theorem fp_64 {d L : Nat} {σ : ex_S} {n q : Int → Int} {c l h : Int} (hd : 4 < d) (hD : RD5 σ n) (hN : NI n) (hk : knP n (σ 59) c l h) : ∃ r', ex_cd d 64 [vR 57, vR 26, vI (n 9)] (SH L, σ) = some ([vI (b2i (letP n q c l h))], (SH L, ex_ar σ 58 r')) := by
  have a9 := hN.a9
  by_cases z : n 9 = 0
  · refine ⟨σ 58, ?_⟩
    rw [ex_ar_id, b2i_t (Or.inl z), ex_cd_eq (by omega)]
    show ex_ev (d - 1) 64 0 [vR 57, vR 26, vI (n 9)] [] _ = _
    simp (disch := first | assumption | omega | ((repeat' first | exact ok_nil | apply ok_I | apply ok_R); done) | (simp (disch := first | omega | decide) only [ex_ar_same, ex_ar_diff, kM_diff, ex_u_same, ex_u_diff]; first | assumption | omega)) only [ev_64_0, ev_64_1, ev_64_2, ev_64_3, gf_57_0, ld_58, x_fall, x_goto, x_push, x_ret2, x_ret2b, xl_a0, xl_a1, xl_i2, y_cmp_ne_f, y_cmp_ne_t, y_if_eq_f, y_if_eq_t, i_wr_id, kM_diff, Int.reduceToNat, ex_ar_same, ex_ar_ar, ex_ar_diff, ex_u_same, ex_u_diff, b2i_t, b2i_f, ex_div_nn, ex_rem_nn, Int.toNat_zero, Int.toNat_one, Int.reduceAdd, Int.reduceSub, Int.reduceMul, Int.reduceNeg, kC_ne, fC_ne]
  · obtain ⟨r', h1, h2⟩ := fp_65 (d := d - 1) (L := L) (by omega) hD hN
    refine ⟨r', ?_⟩
    by_cases y : wrongN n < 0
    · obtain ⟨f1, f2, f3⟩ := wrong_neg y z a9
      have nb : ∀ k, k < (n 9).toNat → ¬ badAt n k := fun k hk => fbad_no _ _ 0 f1 k (by omega) (by omega)
      have e := lk_let (r := σ 58) (r' := q) hN hk nb (n 9).toNat (by omega) 0 (by omega) (by omega)
      rw [← h2 y] at e
      by_cases x : letR n c l h q (n 9).toNat 0 ≠ 0
      · rw [b2i_t (Or.inr ⟨y, x⟩), ex_cd_eq (by omega)]
        show ex_ev (d - 1) 64 0 [vR 57, vR 26, vI (n 9)] [] _ = _
        simp (disch := first | assumption | omega | ((repeat' first | exact ok_nil | apply ok_I | apply ok_R); done) | (simp (disch := first | omega | decide) only [ex_ar_same, ex_ar_diff, kM_diff, ex_u_same, ex_u_diff]; first | assumption | omega)) only [(xr_65 h1), e, ev_64_0, ev_64_1, ev_64_2, ev_64_3, gf_57_0, ld_58, x_fall, x_goto, x_push, x_ret2, x_ret2b, xl_a0, xl_a1, xl_i2, y_cmp_ne_f, y_cmp_ne_t, y_if_eq_f, y_if_eq_t, i_wr_id, kM_diff, Int.reduceToNat, ex_ar_same, ex_ar_ar, ex_ar_diff, ex_u_same, ex_u_diff, b2i_t, b2i_f, ex_div_nn, ex_rem_nn, Int.toNat_zero, Int.toNat_one, Int.reduceAdd, Int.reduceSub, Int.reduceMul, Int.reduceNeg, kC_ne, fC_ne]
      · rw [b2i_f (fun p => by rcases p with p | p; exact z p; exact x p.2), ex_cd_eq (by omega)]
        show ex_ev (d - 1) 64 0 [vR 57, vR 26, vI (n 9)] [] _ = _
        simp (disch := first | assumption | omega | ((repeat' first | exact ok_nil | apply ok_I | apply ok_R); done) | (simp (disch := first | omega | decide) only [ex_ar_same, ex_ar_diff, kM_diff, ex_u_same, ex_u_diff]; first | assumption | omega)) only [(xr_65 h1), e, ev_64_0, ev_64_1, ev_64_2, ev_64_3, gf_57_0, ld_58, x_fall, x_goto, x_push, x_ret2, x_ret2b, xl_a0, xl_a1, xl_i2, y_cmp_ne_f, y_cmp_ne_t, y_if_eq_f, y_if_eq_t, i_wr_id, kM_diff, Int.reduceToNat, ex_ar_same, ex_ar_ar, ex_ar_diff, ex_u_same, ex_u_diff, b2i_t, b2i_f, ex_div_nn, ex_rem_nn, Int.toNat_zero, Int.toNat_one, Int.reduceAdd, Int.reduceSub, Int.reduceMul, Int.reduceNeg, kC_ne, fC_ne]
    · rw [b2i_f (fun p => by rcases p with p | p; exact z p; exact y p.1), ex_cd_eq (by omega)]
      show ex_ev (d - 1) 64 0 [vR 57, vR 26, vI (n 9)] [] _ = _
      simp (disch := first | assumption | omega | ((repeat' first | exact ok_nil | apply ok_I | apply ok_R); done) | (simp (disch := first | omega | decide) only [ex_ar_same, ex_ar_diff, kM_diff, ex_u_same, ex_u_diff]; first | assumption | omega)) only [(xr_65 h1), ev_64_0, ev_64_1, ev_64_2, ev_64_3, gf_57_0, ld_58, x_fall, x_goto, x_push, x_ret2, x_ret2b, xl_a0, xl_a1, xl_i2, y_cmp_ne_f, y_cmp_ne_t, y_if_eq_f, y_if_eq_t, i_wr_id, kM_diff, Int.reduceToNat, ex_ar_same, ex_ar_ar, ex_ar_diff, ex_u_same, ex_u_diff, b2i_t, b2i_f, ex_div_nn, ex_rem_nn, Int.toNat_zero, Int.toNat_one, Int.reduceAdd, Int.reduceSub, Int.reduceMul, Int.reduceNeg, kC_ne, fC_ne]
def suF (f : Int → Int) (a b c e g k : Int) : Int → Int := ex_u (ex_u (ex_u (ex_u (ex_u (ex_u f 1 a) 2 b) 3 c) 4 e) 5 g) 6 k
theorem sp_63 {d : Nat} (hd : 0 < d) {L : Nat} {σ : ex_S} {a b c e g k : Int} : ex_cd d 63 [vR 57, vI a, vI b, vI c, vI e, vI g, vI k] (SH L, σ) = some ([], (SH L, ex_ar σ 59 (suF (σ 59) a b c e g k))) := by
  rw [ex_cd_eq (by omega)]
  show ex_ev (d - 1) 63 0 [vR 57, vI a, vI b, vI c, vI e, vI g, vI k] [] (SH L, σ) = _
  unfold suF
  simp (disch := first | assumption | omega | ((repeat' first | exact ok_nil | apply ok_I | apply ok_R); done) | (simp (disch := first | omega | decide) only [ex_ar_same, ex_ar_diff, kM_diff, ex_u_same, ex_u_diff]; first | assumption | omega)) only [ev_63_0, gf_57_1, sd_59, x_push, x_ret0, xl_a0, xl_i1, xl_i2, xl_i3, xl_i4, xl_i5, xl_i6, i_wr_id, kM_diff, Int.reduceToNat, ex_ar_same, ex_ar_ar, ex_ar_diff, ex_u_same, ex_u_diff, b2i_t, b2i_f, ex_div_nn, ex_rem_nn, Int.toNat_zero, Int.toNat_one, Int.reduceAdd, Int.reduceSub, Int.reduceMul, Int.reduceNeg, kC_ne, fC_ne]
theorem xc_63 {rt d : Nat} {J : Nat → List ex_V → List ex_V → ex_H → Option ex_R} {is : List Instr} {ls st : List ex_V} {L : Nat} {σ : ex_S} {a b c e g k : Int} (hd : 0 < d) (hok : okN 8 st = true) : ex_xs rt J (ex_cd d) (.invokevirtual 63 :: is) ls (vI k :: vI g :: vI e :: vI c :: vI b :: vI a :: vR 57 :: st) (SH L, σ) = ex_xs rt J (ex_cd d) is ls (st) (SH L, ex_ar σ 59 (suF (σ 59) a b c e g k)) := x_call1 (Or.inl rfl) rfl (sh_57 _) (Or.inl ⟨rfl, rfl⟩) (as := [vI a, vI b, vI c, vI e, vI g, vI k]) rfl rfl (okN_ok hok) rfl (sp_63 hd )
theorem su_kn (f n : Int → Int) (c l h : Int) : knP n (suF f h (n (91 + c)) (n (107 + c)) l (n (11 + l)) (n 4)) c l h := by
  unfold suF
  refine ⟨?_, ?_, ?_, ?_, ?_, ?_⟩
  all_goals simp (disch := decide) only [ex_u_diff, ex_u_same]
theorem fp_136 {d L : Nat} {σ : ex_S} {n q : Int → Int} {c l h : Int} (hd : 6 < d) (hD : RD5 σ n) (hN : NI n) (h1 : 0 ≤ c) (h2 : c < n 1) (h3 : 0 ≤ l) (h4 : l < n 0) : ∃ σ', ex_cd d 136 [vR 4, vI c, vI l, vI h] (SH L, σ) = some ([vI (b2i (letP n q c l h))], (SH L, σ')) ∧ ∀ a, a ≠ 58 → a ≠ 59 → σ' a = σ a := by
  have b0 := hN.b0
  have b1 := hN.b1
  have hR := hD.g
  have hD2 : RD5 (ex_ar σ 59 (suF (σ 59) h (n (91 + c)) (n (107 + c)) l (n (11 + l)) (n 4))) n := RD_fr (B := 5) hD hN (fun _ _ _ => rfl) (fun a a1 a2 => ex_ar_diff _ _ _ (by omega))
  have hk : knP n (ex_ar σ 59 (suF (σ 59) h (n (91 + c)) (n (107 + c)) l (n (11 + l)) (n 4)) 59) c l h := by rw [ex_ar_same]; exact su_kn _ _ _ _ _
  obtain ⟨r', e⟩ := fp_64 (d := d - 1) (L := L) (q := q) (by omega) hD2 hN hk
  refine ⟨ex_ar (ex_ar σ 59 (suF (σ 59) h (n (91 + c)) (n (107 + c)) l (n (11 + l)) (n 4))) 58 r', ?_, fun a a1 a2 => by rw [ex_ar_diff _ _ _ a1, ex_ar_diff _ _ _ a2]⟩
  · rw [ex_cd_eq (by omega)]
    show ex_ev (d - 1) 136 0 [vR 4, vI c, vI l, vI h, vL 0] [] _ = _
    have i10 := hD.i10
    have i6 := hD.i6
    have kd := hR.kd l h3 h4
    have z0 : n (91 + 8 * 0 + c) = n (91 + c) := by rw [show (91 + 8 * 0 + c : Int) = 91 + c by omega]
    have z2 : n (91 + 8 * 2 + c) = n (107 + c) := by rw [show (91 + 8 * 2 + c : Int) = 107 + c by omega]
    have z0' : n (91 + 0 + c) = n (91 + c) := by rw [show (91 + 0 + c : Int) = 91 + c by omega]
    simp (disch := first | assumption | omega | ((repeat' first | exact ok_nil | apply ok_I | apply ok_R); done) | (simp (disch := first | omega | decide) only [ex_ar_same, ex_ar_diff, kM_diff, ex_u_same, ex_u_diff]; first | assumption | omega)) only [(xr_64 e), ev_136_0, gf_35_2, gf_4_0, gf_4_7, gf_5_0, gf_5_10, gf_5_4, gf_5_6, gf_6_2, i10, i6, kd, ld_26, ld_36, ld_7, x_push, x_ret2, x_ret2b, xc_17_35, xc_17_6, xc_63, xl_a0, xl_a4, xl_i1, xl_i2, xl_i3, xt_a4, z0, z0', z2, i_wr_id, kM_diff, Int.reduceToNat, ex_ar_same, ex_ar_ar, ex_ar_diff, ex_u_same, ex_u_diff, b2i_t, b2i_f, ex_div_nn, ex_rem_nn, Int.toNat_zero, Int.toNat_one, Int.reduceAdd, Int.reduceSub, Int.reduceMul, Int.reduceNeg, kC_ne, fC_ne]
theorem ck_119 {L d : Nat} {σ : ex_S} (hC : CI σ) (hd : 20 < d) : CK 119 215 [] σ L d := by
  (have p0 := hC.pr.p0; have p1 := hC.pr.p1; have k0 := hC.pr.k0; have k1 := hC.pr.k1; have kq := hC.pr.q; have q0 : 0 ≤ σ 4 10 := (by omega); have q1 : σ 4 10 ≤ 16 := (by omega); have hN := hC.ni; have hR := hC.rd.g; have hD := hC.rd; have hT := hC.st)
  have i6 := hD.i6
  obtain ⟨r', h1, -⟩ := fp_65 (d := d - 1) (L := L) (by omega) hD hN
  have e3 : ex_ar σ 58 r' 433 = σ 433 := ex_ar_diff _ _ _ (by decide)
  have r := sp_215 (L := L) (d := d) (σ := ex_ar σ 58 r') (by omega) (by rw [e3]; exact hN)
  rw [e3] at r
  refine CK.of (σ1 := ex_ar σ 58 r') (r := wrongN (σ 433)) ?_ r rfl (ci_scr hC (fun a ha => ex_ar_diff _ _ _ (by omega)) (by rw [ex_ar_diff _ _ _ (by decide)]) (by rw [ex_ar_diff _ _ _ (by decide)]) (fun _ _ _ => by rw [ex_ar_diff _ _ _ (by decide)])) (ex_ar_diff _ _ _ (by decide))
  rw [ex_cd_eq (by omega)]
  show ex_ev (d - 1) 119 0 [vR 4] [] _ = _
  simp (disch := first | assumption | omega | ((repeat' first | exact ok_nil | apply ok_I | apply ok_R); done) | (simp (disch := first | omega | decide) only [ex_ar_same, ex_ar_diff, kM_diff, ex_u_same, ex_u_diff]; first | assumption | omega)) only [(xr_65 h1), ev_119_0, gf_4_0, gf_4_7, gf_5_4, gf_5_6, i6, x_ret1, xl_a0, i_wr_id, kM_diff, Int.reduceToNat, ex_ar_same, ex_ar_ar, ex_ar_diff, ex_u_same, ex_u_diff, b2i_t, b2i_f, ex_div_nn, ex_rem_nn, Int.toNat_zero, Int.toNat_one, Int.reduceAdd, Int.reduceSub, Int.reduceMul, Int.reduceNeg, kC_ne, fC_ne]
theorem ci_58 {σ σ' : ex_S} (hC : CI σ) (hf : ∀ a, a ≠ 58 → a ≠ 59 → σ' a = σ a) : CI σ' :=
  ci_scr hC (fun a ha => hf a (by omega) (by omega)) (by rw [hf _ (by decide) (by decide)]) (by rw [hf _ (by decide) (by decide)]) (fun _ _ _ => by rw [hf _ (by decide) (by decide)])
theorem RS_let (σ : ex_S) (c l h : Int) : RS (σ, letM σ c l h) := RS.of (fun a _ _ _ _ _ _ h7 _ _ _ => letM_ne σ c l h h7)
theorem ck_120 {L d : Nat} {σ : ex_S} {c l h : Int} (hC : CI σ) (hd : 20 < d) : CK 120 219 [vI c, vI l, vI h] σ L d := by
  (have p0 := hC.pr.p0; have p1 := hC.pr.p1; have k0 := hC.pr.k0; have k1 := hC.pr.k1; have kq := hC.pr.q; have q0 : 0 ≤ σ 4 10 := (by omega); have q1 : σ 4 10 ≤ 16 := (by omega); have hN := hC.ni; have hR := hC.rd.g; have hD := hC.rd; have hT := hC.st)
  have b0 := hN.b0
  have b1 := hN.b1
  by_cases g : (0 ≤ c ∧ c < σ 433 1) ∧ (0 ≤ l ∧ l < σ 433 0) ∧ 0 ≤ h ∧ h ≤ 23
  · obtain ⟨g1, g2, g3⟩ := id g
    obtain ⟨σ', e, hf⟩ := fp_136 (d := d - 1) (L := L) (q := σ 444) (h := h) (by omega) hD hN g1.1 g1.2 g2.1 g2.2
    have e3 : σ' 433 = σ 433 := hf _ (by decide) (by decide)
    have e4 : σ' 444 = σ 444 := hf _ (by decide) (by decide)
    have hC' := ci_58 hC hf
    have r := sp_219 (L := L) (d := d) (σ := σ') (c := c) (l := l) (h := h) (by omega) hC'.ni
    simp only [letsM, e3, e4, if_pos g] at r
    refine CK.of (σ1 := σ') (r := b2i (letP (σ 433) (σ 444) c l h)) ?_ r rfl (ci_RS hC' (RS_let _ _ _ _)) (by rw [letM_ne _ _ _ _ (by decide)]; exact hf _ (by decide) (by decide))
    rw [ex_cd_eq (by omega)]
    show ex_ev (d - 1) 120 0 [vR 4, vI c, vI l, vI h] [] _ = _
    by_cases z : letP (σ 433) (σ 444) c l h
    · rw [b2i_t z] at e ⊢
      simp (disch := first | assumption | omega | ((repeat' first | exact ok_nil | apply ok_I | apply ok_R); done) | (simp (disch := first | omega | decide) only [ex_ar_same, ex_ar_diff, kM_diff, ex_u_same, ex_u_diff]; first | assumption | omega)) only [(xr_136 e), ev_120_0, ev_120_1, ev_120_2, ev_120_3, ev_120_4, gf_4_0, gf_5_0, x_fall, x_goto, x_push, x_ret1, xc_132, xc_138, xc_13_35, xc_13_6, xc_14_35, xc_14_6, xl_a0, xl_i1, xl_i2, xl_i3, y_if_eq_f, y_if_eq_t, y_if_ne_f, y_if_ne_t, i_wr_id, kM_diff, Int.reduceToNat, ex_ar_same, ex_ar_ar, ex_ar_diff, ex_u_same, ex_u_diff, b2i_t, b2i_f, ex_div_nn, ex_rem_nn, Int.toNat_zero, Int.toNat_one, Int.reduceAdd, Int.reduceSub, Int.reduceMul, Int.reduceNeg, kC_ne, fC_ne]
    · rw [b2i_f z] at e ⊢
      simp (disch := first | assumption | omega | ((repeat' first | exact ok_nil | apply ok_I | apply ok_R); done) | (simp (disch := first | omega | decide) only [ex_ar_same, ex_ar_diff, kM_diff, ex_u_same, ex_u_diff]; first | assumption | omega)) only [(xr_136 e), ev_120_0, ev_120_1, ev_120_2, ev_120_3, ev_120_4, gf_4_0, gf_5_0, x_fall, x_goto, x_push, x_ret1, xc_132, xc_138, xc_13_35, xc_13_6, xc_14_35, xc_14_6, xl_a0, xl_i1, xl_i2, xl_i3, y_if_eq_f, y_if_eq_t, y_if_ne_f, y_if_ne_t, i_wr_id, kM_diff, Int.reduceToNat, ex_ar_same, ex_ar_ar, ex_ar_diff, ex_u_same, ex_u_diff, b2i_t, b2i_f, ex_div_nn, ex_rem_nn, Int.toNat_zero, Int.toNat_one, Int.reduceAdd, Int.reduceSub, Int.reduceMul, Int.reduceNeg, kC_ne, fC_ne]
  · have t2 : (fC σ) 432 = σ 432 := fC_ne _ (by decide)
    have t3 : (fC σ) 433 = σ 433 := fC_ne _ (by decide)
    have t5 : (fC σ) 435 = σ 435 := fC_ne _ (by decide)
    have t6 : (fC σ) 436 = σ 436 := fC_ne _ (by decide)
    have t7 : (fC σ) 437 = σ 437 := fC_ne _ (by decide)
    have u1 : 0 ≤ (fC σ) 432 2 := by rw [t2]; exact k0
    have u2 : (fC σ) 432 2 ≤ 16 := by rw [t2]; exact k1
    have uN : NI ((fC σ) 433) := by rw [t3]; exact hN
    have uS : SI ((fC σ) 435) ((fC σ) 436) := by rw [t5, t6]; exact hC.si
    have := uN.a0; have := uN.b0; have := uN.a1; have := uN.b1; have := uN.a2; have := uN.b2; have := uN.a3; have := uN.b3; have := uN.a4; have := uN.b4; have := uN.a5; have := uN.b5; have := uN.a7; have := uN.b7; have := uN.a8; have := uN.b8; have := uN.a9; have := uN.b9; have := uN.a10; have := uN.b10
    have r := sp_219 (L := L) (d := d) (σ := fC σ) (c := c) (l := l) (h := h) (by omega) (by first | assumption | exact uN.oM | exact uN.oP | omega)
    simp only [letsM, t3, if_neg g] at r
    refine ck_fnd hC ?_ r
    (rw [ex_cd_eq (by omega)]; show ex_ev (d - 1) 120 0 [vR 4, vI c, vI l, vI h] [] _ = _; (repeat' first | simp (disch := first | assumption | omega | ((repeat' first | exact ok_nil | apply ok_I | apply ok_R); done) | (simp (disch := first | omega | decide) only [ex_ar_same, ex_ar_diff, kM_diff, ex_u_same, ex_u_diff]; first | assumption | omega)) only [ev_120_0, ev_120_1, ev_120_2, ev_120_3, ev_120_4, gf_4_0, gf_5_0, x_fall, x_goto, x_push, x_ret1, xc_132, xc_138, xc_13_35, xc_13_6, xc_14_35, xc_14_6, xl_a0, xl_i1, xl_i2, xl_i3, y_if_eq_f, y_if_eq_t, y_if_ne_f, y_if_ne_t, i_wr_id, kM_diff, Int.reduceToNat, ex_ar_same, ex_ar_ar, ex_ar_diff, ex_u_same, ex_u_diff, b2i_t, b2i_f, ex_div_nn, ex_rem_nn, Int.toNat_zero, Int.toNat_one, Int.reduceAdd, Int.reduceSub, Int.reduceMul, Int.reduceNeg, kC_ne, fC_ne] | refine bb_eq (fun _ => ?_) (fun _ => ?_) | refine bb_ne (fun _ => ?_) (fun _ => ?_) | refine bc_eq (fun _ => ?_) (fun _ => ?_) | refine bc_ne (fun _ => ?_) (fun _ => ?_) | refine bc_lt (fun _ => ?_) (fun _ => ?_) | refine bc_ge (fun _ => ?_) (fun _ => ?_) | refine bc_gt (fun _ => ?_) (fun _ => ?_) | refine bc_le (fun _ => ?_) (fun _ => ?_) | refine bi_eq (fun _ => ?_) (fun _ => ?_) | refine bi_ne (fun _ => ?_) (fun _ => ?_) | refine bi_lt (fun _ => ?_) (fun _ => ?_) | refine bi_ge (fun _ => ?_) (fun _ => ?_) | refine bi_gt (fun _ => ?_) (fun _ => ?_) | refine bi_le (fun _ => ?_) (fun _ => ?_)))
    all_goals exact absurd ⟨by assumption, by assumption, by assumption⟩ g
theorem RG_move {G : Nat} {σ : ex_S} {n : Int → Int} (hR : RG G σ n) (hN : NI n) {c l : Int} (h1 : 0 ≤ c) (h2 : c < n 1) (l0 : 0 ≤ l) (l1 : l < n 0) (hf : freeP n c) (hl : standN n c / 8 ≠ l) (hc : n (41 + l) ≠ 12) : RG G (brG G (tkG G σ c (standN n c / 8) (n (46 + standN n c / 8) - 1) (n (41 + standN n c / 8) + cyk (n (11 + standN n c / 8)))) c l (l * 8 + n (46 + l)) (n (46 + l) + 1) (n (41 + l) + cyk (n (11 + l)))) (doesF n c l) ∧ n (46 + l) < 8 := by
  obtain ⟨f1, f2, f3, f4, f5, f6, f7, f8⟩ := free_lo hN hf
  have b0 := hN.b0
  have b1 := hN.b1
  have hg := NI_goes hN (show 0 ≤ standN n c / 8 by omega) f2 f7 f4
  have sg := (G1_goes hN.g1 (show 0 ≤ standN n c / 8 by omega) f2 f7 f4 f6).2
  have e : ∀ k : Int, k ≠ 41 + standN n c / 8 → k ≠ 46 + standN n c / 8 → goesF n (standN n c / 8) k = n k := fun k p q => goesF_ne _ _ p q
  have ss : standN (goesF n (standN n c / 8)) c < 0 := by rw [sg, if_pos rfl]; omega
  have h8 : n (46 + l) < 8 := by
    have := cntS_lt (goesF n (standN n c / 8)) h1 (by omega) ss
    have := many_one hg l0 (show l < 5 by omega)
    rw [e (46 + l) (by omega) (by omega)] at this
    omega
  refine ⟨?_, h8⟩
  have k := RG_bring (RG_take hR hN h1 h2 hf rfl) hg h1 (by rw [e 1 (by omega) (by omega)]; exact h2) l0 (by rw [e 0 (by omega) (by omega)]; exact l1) ss (by rw [e (41 + l) (by omega) (by omega)]; exact hc) (by rw [e (46 + l) (by omega) (by omega)]; exact h8)
  rw [e (46 + l) (by omega) (by omega), e (41 + l) (by omega) (by omega), e (11 + l) (by omega) (by omega)] at k
  exact k
theorem sh5 {L d : Nat} {σ : ex_S} {c l : Int} (hC : CI σ) (hd : 12 < d) (g1 : 0 ≤ c ∧ c < σ 433 1) (g2 : 0 ≤ l ∧ l < σ 433 0) (h0 : hindN (σ 433) c l = 0) : ∃ σ1, ex_ev d 95 5 [vR 4, vI c, vI l, vR 6, vI 0] [] (SH L, σ) = some ([vI (ex_wr (σ 433 6 + 1))], (SH L, σ1)) ∧ (∀ a, a < 5 ∨ 27 < a → σ1 a = kC σ a) ∧ RD5 σ1 (ex_u (ledF (doesF (σ 433) c l) (c + 8 * σ 433 4)) 6 (ex_wr (σ 433 6 + 1))) ∧ NI (ex_u (ledF (doesF (σ 433) c l) (c + 8 * σ 433 4)) 6 (ex_wr (σ 433 6 + 1))) := by
  (have p0 := hC.pr.p0; have p1 := hC.pr.p1; have k0 := hC.pr.k0; have k1 := hC.pr.k1; have kq := hC.pr.q; have q0 : 0 ≤ σ 4 10 := (by omega); have q1 : σ 4 10 ≤ 16 := (by omega); have hN := hC.ni; have hR := hC.rd.g; have hD := hC.rd; have hT := hC.st)
  (have := hN.a0; have := hN.b0; have := hN.a1; have := hN.b1; have := hN.a2; have := hN.b2; have := hN.a3; have := hN.b3; have := hN.a4; have := hN.b4; have := hN.a5; have := hN.b5; have := hN.a7; have := hN.b7; have := hN.a8; have := hN.b8; have := hN.a9; have := hN.b9; have := hN.a10; have := hN.b10; have := hN.oM; have := hN.oP)
  obtain ⟨s1, s2, s3, s4, s5, s6, s7⟩ := hind_0 h0
  obtain ⟨f1, f2, f3, f4, f5, f6, f7, f8⟩ := free_lo hN s3
  have c12 : σ 433 (41 + l) ≠ 12 := fun q => s4 (Or.inr q)
  obtain ⟨R2, m8⟩ := RG_move (G := 6) (RD5_kC hC).g hN g1.1 g1.2 g2.1 g2.2 s3 s2 c12
  obtain ⟨N2, -⟩ := does_st hN g1.1 g1.2 g2.1 g2.2 s3 s2 c12
  have dlo := fun (k : Int) (hk : k < 41 ∨ 91 ≤ k) => doesF_lo hN g2.1 (show l < 5 by omega) s1 hk (c := c)
  have d8 := dlo 8 (by omega)
  have d4 := dlo 4 (by omega)
  have d6 := dlo 6 (by omega)
  have D2 : RD5 (brG 6 (tkG 6 (kC σ) c (standN (σ 433) c / 8) (σ 433 (46 + standN (σ 433) c / 8) - 1) (σ 433 (41 + standN (σ 433) c / 8) + cyk (σ 433 (11 + standN (σ 433) c / 8)))) c l (l * 8 + σ 433 (46 + l)) (σ 433 (46 + l) + 1) (σ 433 (41 + l) + cyk (σ 433 (11 + l)))) (doesF (σ 433) c l) := RD5_g (RD5_kC hC) hN (fun i hi => dlo i (by omega)) R2 (fun a ha => by rw [brG_ne (by omega) (by omega) (by omega) (by omega), tkG_ne (by omega) (by omega) (by omega)])
  have N3 : NI (ledF (doesF (σ 433) c l) (c + 8 * σ 433 4)) := NI_led N2 (by omega)
  have D3 := RD5_add (z := c + 8 * σ 433 4) (e := σ 433 4) D2 N2 g1.1 (show c < 8 by omega) (by omega) (by omega) (by rw [if_pos (by omega)])
  rw [d8] at D3
  have l6 : ledF (doesF (σ 433) c l) (c + 8 * σ 433 4) 6 = σ 433 6 := by
    rw [ledF_at _ _ (by omega) (by omega), if_neg (by decide), if_neg (by split <;> omega), if_neg (by omega), d6]
  have l4 : ledF (doesF (σ 433) c l) (c + 8 * σ 433 4) 4 = σ 433 4 := by
    rw [ledF_at _ _ (by omega) (by omega), if_neg (by decide), if_neg (by split <;> omega), if_neg (by omega), d4]
  have mv : ∀ a, a < 6 ∨ 17 < a → (brG 6 (tkG 6 (kC σ) c (standN (σ 433) c / 8) (σ 433 (46 + standN (σ 433) c / 8) - 1) (σ 433 (41 + standN (σ 433) c / 8) + cyk (σ 433 (11 + standN (σ 433) c / 8)))) c l (l * 8 + σ 433 (46 + l)) (σ 433 (46 + l) + 1) (σ 433 (41 + l) + cyk (σ 433 (11 + l)))) a = kC σ a := fun a ha => by rw [brG_ne (by omega) (by omega) (by omega) (by omega), tkG_ne (by omega) (by omega) (by omega)]
  have wq : -2147483648 ≤ ex_wr (σ 433 6 + 1) ∧ ex_wr (σ 433 6 + 1) ≤ 2147483647 := i_wr' _
  refine ⟨ex_ar (adC (brG 6 (tkG 6 (kC σ) c (standN (σ 433) c / 8) (σ 433 (46 + standN (σ 433) c / 8) - 1) (σ 433 (41 + standN (σ 433) c / 8) + cyk (σ 433 (11 + standN (σ 433) c / 8)))) c l (l * 8 + σ 433 (46 + l)) (σ 433 (46 + l) + 1) (σ 433 (41 + l) + cyk (σ 433 (11 + l)))) (σ 433 8) c (σ 433 4)) 5 (ex_u (σ 5) 12 (ex_wr (σ 433 6 + 1))), ?_, fun a ha => by rw [ex_ar_diff _ _ _ (by omega), adC_ne (by omega), mv a (by omega)], ?_, NI_u8 N3 (by omega) (by omega)⟩
  · have y0 := hN.cy (standN (σ 433) c / 8) (by omega) f3
    have y1 := hN.cy l g2.1 (by omega)
    have m0 := hN.oM (standN (σ 433) c / 8) (by omega) f3
    have m1 := hN.oM l g2.1 (by omega)
    have e0 : kC σ 17 c = standN (σ 433) c / 8 := by rw [kC5 hC _ (by omega) (by omega), hR.wh c g1.1 g1.2, if_neg (by omega)]
    have e1 : kC σ 14 (standN (σ 433) c / 8) = σ 433 (46 + standN (σ 433) c / 8) := by rw [kC5 hC _ (by omega) (by omega)]; exact hR.st _ (by omega) f2
    have e2 : kC σ 12 (standN (σ 433) c / 8) = σ 433 (41 + standN (σ 433) c / 8) := by rw [kC5 hC _ (by omega) (by omega)]; exact hR.cy _ (by omega) f2
    have e3 : kC σ 7 (standN (σ 433) c / 8) = σ 433 (11 + standN (σ 433) c / 8) := by rw [kC5 hC _ (by omega) (by omega)]; exact hR.kd _ (by omega) f2
    have e4 : kC σ 14 l = σ 433 (46 + l) := by rw [kC5 hC _ (by omega) (by omega)]; exact hR.st l g2.1 g2.2
    have e5 : kC σ 12 l = σ 433 (41 + l) := by rw [kC5 hC _ (by omega) (by omega)]; exact hR.cy l g2.1 g2.2
    have e6 : kC σ 7 l = σ 433 (11 + l) := by rw [kC5 hC _ (by omega) (by omega)]; exact hR.kd l g2.1 g2.2
    have e7 : (brG 6 (tkG 6 (kC σ) c (standN (σ 433) c / 8) (σ 433 (46 + standN (σ 433) c / 8) - 1) (σ 433 (41 + standN (σ 433) c / 8) + cyk (σ 433 (11 + standN (σ 433) c / 8)))) c l (l * 8 + σ 433 (46 + l)) (σ 433 (46 + l) + 1) (σ 433 (41 + l) + cyk (σ 433 (11 + l)))) 5 10 = σ 433 4 := by rw [mv 5 (by omega), kC5 hC _ (by omega) (by omega)]; exact hD.i10
    have e8 : (brG 6 (tkG 6 (kC σ) c (standN (σ 433) c / 8) (σ 433 (46 + standN (σ 433) c / 8) - 1) (σ 433 (41 + standN (σ 433) c / 8) + cyk (σ 433 (11 + standN (σ 433) c / 8)))) c l (l * 8 + σ 433 (46 + l)) (σ 433 (46 + l) + 1) (σ 433 (41 + l) + cyk (σ 433 (11 + l)))) 18 0 = σ 433 8 := by rw [mv 18 (by omega), kC5 hC _ (by omega) (by omega)]; exact hD.lc
    have e9 : adC (brG 6 (tkG 6 (kC σ) c (standN (σ 433) c / 8) (σ 433 (46 + standN (σ 433) c / 8) - 1) (σ 433 (41 + standN (σ 433) c / 8) + cyk (σ 433 (11 + standN (σ 433) c / 8)))) c l (l * 8 + σ 433 (46 + l)) (σ 433 (46 + l) + 1) (σ 433 (41 + l) + cyk (σ 433 (11 + l)))) (σ 433 8) c (σ 433 4) 5 = σ 5 := by rw [adC_ne (by omega), mv 5 (by omega), kC5 hC _ (by omega) (by omega)]
    have ez := hD.i12
    have hz : l ≠ standN (σ 433) c / 8 := fun q => s2 q.symm
    rw [ev_95_5]
    simp (disch := first | assumption | omega | ((repeat' first | exact ok_nil | apply ok_I | apply ok_R); done) | (simp (disch := first | omega | decide) only [ex_ar_same, ex_ar_diff, kM_diff, ex_u_same, ex_u_diff]; first | assumption | omega)) only [e7, e9, ev_95_0, ev_95_1, ev_95_2, ev_95_3, ev_95_4, ez, gf_21_0, gf_4_0, gf_5_0, gf_5_1, gf_5_10, gf_5_12, gf_5_2, gf_5_8, pf_5_12, x_dupI, x_dupR, x_fall, x_push, x_ret1, xc_132, xc_133, xc_13_35, xc_13_6, xc_14_35, xc_14_6, xc_28_35, xc_28_6, xc_31_35, xc_31_6, xc_41, xc_45, xl_a0, xl_a3, xl_i1, xl_i2, xl_i4, xt_a3, xt_i4, y_iadd, y_if_eq_f, y_if_eq_t, y_if_ne_f, y_if_ne_t, kM_diff, Int.reduceToNat, ex_ar_same, ex_ar_ar, ex_ar_diff, ex_u_same, ex_u_diff, b2i_t, b2i_f, ex_div_nn, ex_rem_nn, Int.toNat_zero, Int.toNat_one, Int.reduceAdd, Int.reduceSub, Int.reduceMul, Int.reduceNeg, kC_ne, fC_ne]
  · refine RD5_int D3 N3 (fun k _ _ hk => ex_u_diff _ _ (by omega)) (fun a a1 a2 => ex_ar_diff _ _ _ (by omega)) ?_ ?_ ?_ ?_ ?_ ?_ ?_
    · rw [ex_ar_same, ex_u_diff _ _ (by decide), adC_ne (by omega), mv 5 (by omega), kC5 hC _ (by omega) (by omega)]
    · rw [ex_ar_same, ex_u_diff _ _ (by decide), adC_ne (by omega), mv 5 (by omega), kC5 hC _ (by omega) (by omega)]
    · rw [ex_ar_same, ex_u_diff _ _ (by decide), ex_u_diff _ _ (by decide), ← D3.i8, adC_ne (by omega), mv 5 (by omega), kC5 hC _ (by omega) (by omega)]
    · rw [ex_ar_same, ex_u_diff _ _ (by decide), ex_u_diff _ _ (by decide), ← D3.i9, adC_ne (by omega), mv 5 (by omega), kC5 hC _ (by omega) (by omega)]
    · rw [ex_ar_same, ex_u_diff _ _ (by decide), ex_u_diff _ _ (by decide), ← D3.i10, adC_ne (by omega), mv 5 (by omega), kC5 hC _ (by omega) (by omega)]
    · rw [ex_ar_same, ex_u_diff _ _ (by decide), ex_u_diff _ _ (by decide), ← D3.i11, adC_ne (by omega), mv 5 (by omega), kC5 hC _ (by omega) (by omega)]
    · rw [ex_ar_same, ex_u_same, ex_u_same]
theorem RS_keep {σ τ : ex_S} {n' : Int → Int} (h : ∀ a, a ≠ 444 → τ a = σ a) (k0 : 0 ≤ σ 432 2) (k1 : σ 432 2 ≤ 16) : RS (ex_ar (keepM σ) 433 n', ex_ar (keepM τ) 433 n') := by
  refine RS.of (fun a _ _ _ _ _ _ h7 _ _ _ => ?_)
  by_cases e3 : a = 433
  · subst e3; rw [ex_ar_same, ex_ar_same]
  · rw [ex_ar_diff _ _ _ e3, ex_ar_diff _ _ _ e3]
    by_cases e2 : a = 432
    · subst e2; rw [kM_432, kM_432, h 432 (by decide)]
    · by_cases e4 : a = 434
      · subst e4
        funext k
        rw [kM_434 σ k0 k1, kM_434 τ (by rw [h 432 (by decide)]; exact k0) (by rw [h 432 (by decide)]; exact k1), h 432 (by decide), h 433 (by decide), h 434 (by decide)]
      · rw [kM_diff _ e2 e4, kM_diff _ e2 e4, h a h7]
theorem ck_95 {L d : Nat} {σ : ex_S} {c l : Int} (hC : CI σ) (hd : 20 < d) : CK 95 173 [vI c, vI l] σ L d := by
  (have p0 := hC.pr.p0; have p1 := hC.pr.p1; have k0 := hC.pr.k0; have k1 := hC.pr.k1; have kq := hC.pr.q; have q0 : 0 ≤ σ 4 10 := (by omega); have q1 : σ 4 10 ≤ 16 := (by omega); have hN := hC.ni; have hR := hC.rd.g; have hD := hC.rd; have hT := hC.st)
  have b0 := hN.b0
  have b1 := hN.b1
  have a10 := hN.a10
  have i8 := hD.i8
  have kc := hD.kc
  by_cases g : (0 ≤ c ∧ c < σ 433 1) ∧ 0 ≤ l ∧ l < σ 433 0
  · obtain ⟨g1, g2⟩ := id g
    have hh := hind_shf (σ 433) c l
    by_cases g3 : shfN (σ 433) c l = 0
    · rw [if_pos g3] at hh
      by_cases g4 : keyP (σ 433) c (σ 433 2) (σ 433 10)
      · rw [if_pos g4] at hh
        obtain ⟨σ', e, hf⟩ := fp_136 (d := d - 1) (L := L) (q := σ 444) (h := σ 433 2) (by omega) hD hN g1.1 g1.2 g2.1 g2.2
        have e2 : σ' 432 = σ 432 := hf _ (by decide) (by decide)
        have e3 : σ' 433 = σ 433 := hf _ (by decide) (by decide)
        have e4 : σ' 444 = σ 444 := hf _ (by decide) (by decide)
        have hC' := ci_58 hC hf
        by_cases z : letP (σ 433) (σ 444) c l (σ 433 2)
        · rw [b2i_t z] at e
          obtain ⟨σ1, s1, s2, s3, s4⟩ := sh5 (L := L) (d := d - 1) hC' (by omega) (by rw [e3]; exact g1) (by rw [e3]; exact g2) (by rw [e3]; exact hh)
          have q : ∀ x, 28 ≤ x → x < 64 ∨ 432 ≤ x → σ1 x = σ' x := fun x h1 h2 => by rw [s2 x (by omega), kC5 hC' _ (by omega) h2]
          have q2 : σ1 432 = σ 432 := (q _ (by omega) (by omega)).trans e2
          have q3 : σ1 433 = σ 433 := (q _ (by omega) (by omega)).trans e3
          have q4 : σ1 444 = σ 444 := (q _ (by omega) (by omega)).trans e4
          rw [e3] at s1 s3 s4
          have r := sp_173 (L := L) (d := d) (σ := σ1) (c := c) (l := l) (by omega) (by rw [q3]; exact hN) (by rw [q2]; exact k0) (by rw [q2]; exact k1)
          simp only [shuntM, q3, q4, if_pos g, if_pos hh, if_pos z] at r
          have ca := ci_act hC' s2 s3 s4
          refine CK.of (σ1 := σ1) (r := ex_wr (σ 433 6 + 1)) ?_ r rfl (ci_RS ca (RS_keep (fun a ha => letM_ne _ _ _ _ ha) (by rw [q2]; exact k0) (by rw [q2]; exact k1))) ?_
          · rw [ex_cd_eq (by omega)]
            show ex_ev (d - 1) 95 0 [vR 4, vI c, vI l, vL 0, vL 0] [] _ = _
            simp (disch := first | assumption | omega | ((repeat' first | exact ok_nil | apply ok_I | apply ok_R); done) | (simp (disch := first | omega | decide) only [ex_ar_same, ex_ar_diff, kM_diff, ex_u_same, ex_u_diff]; first | assumption | omega)) only [(xr_136 e), ev_95_0, ev_95_1, ev_95_2, ev_95_3, ev_95_4, g3, gf_21_0, gf_4_0, gf_5_0, gf_5_1, gf_5_10, gf_5_12, gf_5_2, gf_5_8, i8, kc, pf_5_12, x_dupI, x_dupR, x_fall, x_push, x_ret1, xc_132, xc_133, xc_13_35, xc_13_6, xc_14_35, xc_14_6, xc_28_35, xc_28_6, xc_31_35, xc_31_6, xc_41, xc_45, xl_a0, xl_a3, xl_i1, xl_i2, xl_i4, xt_a3, xt_i4, y_iadd, y_if_eq_f, y_if_eq_t, y_if_ne_f, y_if_ne_t, i_wr_id, kM_diff, Int.reduceToNat, ex_ar_same, ex_ar_ar, ex_ar_diff, ex_u_same, ex_u_diff, b2i_t, b2i_f, ex_div_nn, ex_rem_nn, Int.toNat_zero, Int.toNat_one, Int.reduceAdd, Int.reduceSub, Int.reduceMul, Int.reduceNeg, kC_ne, fC_ne]
            exact s1
          · rw [ex_ar_diff _ _ _ (by decide), kM_diff _ (by decide) (by decide), letM_ne _ _ _ _ (by decide), s2 0 (by omega), kC_ne σ' (by decide) (by omega) hC'.pr.p0 hC'.pr.p1]
            exact hf _ (by decide) (by decide)
        · rw [b2i_f z] at e
          have q2 : fC σ' 432 = σ 432 := (fC_ne _ (by decide)).trans e2
          have q3 : fC σ' 433 = σ 433 := (fC_ne _ (by decide)).trans e3
          have q4 : fC σ' 444 = σ 444 := (fC_ne _ (by decide)).trans e4
          have r := sp_173 (L := L) (d := d) (σ := fC σ') (c := c) (l := l) (by omega) (by rw [q3]; exact hN) (by rw [q2]; exact k0) (by rw [q2]; exact k1)
          simp only [shuntM, q3, q4, if_pos g, if_pos hh, if_neg z] at r
          refine CK.of (σ1 := fC σ') (r := -100009) ?_ r rfl (ci_RS (ci_fnd hC') (RS.fnd (RS_let _ _ _ _))) ?_
          · rw [ex_cd_eq (by omega)]
            show ex_ev (d - 1) 95 0 [vR 4, vI c, vI l, vL 0, vL 0] [] _ = _
            simp (disch := first | assumption | omega | ((repeat' first | exact ok_nil | apply ok_I | apply ok_R); done) | (simp (disch := first | omega | decide) only [ex_ar_same, ex_ar_diff, kM_diff, ex_u_same, ex_u_diff]; first | assumption | omega)) only [(xr_136 e), ev_95_0, ev_95_1, ev_95_2, ev_95_3, ev_95_4, g3, gf_21_0, gf_4_0, gf_5_0, gf_5_1, gf_5_10, gf_5_12, gf_5_2, gf_5_8, i8, kc, pf_5_12, x_dupI, x_dupR, x_fall, x_push, x_ret1, xc_132, xc_133, xc_13_35, xc_13_6, xc_14_35, xc_14_6, xc_28_35, xc_28_6, xc_31_35, xc_31_6, xc_41, xc_45, xl_a0, xl_a3, xl_i1, xl_i2, xl_i4, xt_a3, xt_i4, y_iadd, y_if_eq_f, y_if_eq_t, y_if_ne_f, y_if_ne_t, i_wr_id, kM_diff, Int.reduceToNat, ex_ar_same, ex_ar_ar, ex_ar_diff, ex_u_same, ex_u_diff, b2i_t, b2i_f, ex_div_nn, ex_rem_nn, Int.toNat_zero, Int.toNat_one, Int.reduceAdd, Int.reduceSub, Int.reduceMul, Int.reduceNeg, kC_ne, fC_ne]
          · unfold fndM
            rw [ex_ar_diff _ _ _ (by decide), letM_ne _ _ _ _ (by decide), fC_ne _ (by decide)]
            exact hf _ (by decide) (by decide)
      · rw [if_neg g4] at hh
        have hn : ¬ hindN (σ 433) c l = 0 := by omega
        have t2 : (fC σ) 432 = σ 432 := fC_ne _ (by decide)
        have t3 : (fC σ) 433 = σ 433 := fC_ne _ (by decide)
        have t5 : (fC σ) 435 = σ 435 := fC_ne _ (by decide)
        have t6 : (fC σ) 436 = σ 436 := fC_ne _ (by decide)
        have t7 : (fC σ) 437 = σ 437 := fC_ne _ (by decide)
        have u1 : 0 ≤ (fC σ) 432 2 := by rw [t2]; exact k0
        have u2 : (fC σ) 432 2 ≤ 16 := by rw [t2]; exact k1
        have uN : NI ((fC σ) 433) := by rw [t3]; exact hN
        have uS : SI ((fC σ) 435) ((fC σ) 436) := by rw [t5, t6]; exact hC.si
        have := uN.a0; have := uN.b0; have := uN.a1; have := uN.b1; have := uN.a2; have := uN.b2; have := uN.a3; have := uN.b3; have := uN.a4; have := uN.b4; have := uN.a5; have := uN.b5; have := uN.a7; have := uN.b7; have := uN.a8; have := uN.b8; have := uN.a9; have := uN.b9; have := uN.a10; have := uN.b10
        have r := sp_173 (L := L) (d := d) (σ := fC σ) (c := c) (l := l) (by omega) (by first | assumption | exact uN.oM | exact uN.oP | omega) (by first | assumption | exact uN.oM | exact uN.oP | omega) (by first | assumption | exact uN.oM | exact uN.oP | omega)
        simp only [shuntM, t3, if_pos g, hh, if_neg (show ¬ ((-100002 : Int) = 0) by decide)] at r
        refine ck_fnd hC ?_ r
        (rw [ex_cd_eq (by omega)]; show ex_ev (d - 1) 95 0 [vR 4, vI c, vI l, vL 0, vL 0] [] _ = _; (repeat' first | simp (disch := first | assumption | omega | ((repeat' first | exact ok_nil | apply ok_I | apply ok_R); done) | (simp (disch := first | omega | decide) only [ex_ar_same, ex_ar_diff, kM_diff, ex_u_same, ex_u_diff]; first | assumption | omega)) only [ev_95_0, ev_95_1, ev_95_2, ev_95_3, ev_95_4, g3, gf_21_0, gf_4_0, gf_5_0, gf_5_1, gf_5_10, gf_5_12, gf_5_2, gf_5_8, i8, kc, pf_5_12, x_dupI, x_dupR, x_fall, x_push, x_ret1, xc_132, xc_133, xc_13_35, xc_13_6, xc_14_35, xc_14_6, xc_28_35, xc_28_6, xc_31_35, xc_31_6, xc_41, xc_45, xl_a0, xl_a3, xl_i1, xl_i2, xl_i4, xt_a3, xt_i4, y_iadd, y_if_eq_f, y_if_eq_t, y_if_ne_f, y_if_ne_t, i_wr_id, kM_diff, Int.reduceToNat, ex_ar_same, ex_ar_ar, ex_ar_diff, ex_u_same, ex_u_diff, b2i_t, b2i_f, ex_div_nn, ex_rem_nn, Int.toNat_zero, Int.toNat_one, Int.reduceAdd, Int.reduceSub, Int.reduceMul, Int.reduceNeg, kC_ne, fC_ne] | refine bb_eq (fun _ => ?_) (fun _ => ?_) | refine bb_ne (fun _ => ?_) (fun _ => ?_) | refine bc_eq (fun _ => ?_) (fun _ => ?_) | refine bc_ne (fun _ => ?_) (fun _ => ?_) | refine bc_lt (fun _ => ?_) (fun _ => ?_) | refine bc_ge (fun _ => ?_) (fun _ => ?_) | refine bc_gt (fun _ => ?_) (fun _ => ?_) | refine bc_le (fun _ => ?_) (fun _ => ?_) | refine bi_eq (fun _ => ?_) (fun _ => ?_) | refine bi_ne (fun _ => ?_) (fun _ => ?_) | refine bi_lt (fun _ => ?_) (fun _ => ?_) | refine bi_ge (fun _ => ?_) (fun _ => ?_) | refine bi_gt (fun _ => ?_) (fun _ => ?_) | refine bi_le (fun _ => ?_) (fun _ => ?_)))
    · rw [if_neg g3] at hh
      have hn : ¬ hindN (σ 433) c l = 0 := by omega
      have t2 : (fC σ) 432 = σ 432 := fC_ne _ (by decide)
      have t3 : (fC σ) 433 = σ 433 := fC_ne _ (by decide)
      have t5 : (fC σ) 435 = σ 435 := fC_ne _ (by decide)
      have t6 : (fC σ) 436 = σ 436 := fC_ne _ (by decide)
      have t7 : (fC σ) 437 = σ 437 := fC_ne _ (by decide)
      have u1 : 0 ≤ (fC σ) 432 2 := by rw [t2]; exact k0
      have u2 : (fC σ) 432 2 ≤ 16 := by rw [t2]; exact k1
      have uN : NI ((fC σ) 433) := by rw [t3]; exact hN
      have uS : SI ((fC σ) 435) ((fC σ) 436) := by rw [t5, t6]; exact hC.si
      have := uN.a0; have := uN.b0; have := uN.a1; have := uN.b1; have := uN.a2; have := uN.b2; have := uN.a3; have := uN.b3; have := uN.a4; have := uN.b4; have := uN.a5; have := uN.b5; have := uN.a7; have := uN.b7; have := uN.a8; have := uN.b8; have := uN.a9; have := uN.b9; have := uN.a10; have := uN.b10
      have r := sp_173 (L := L) (d := d) (σ := fC σ) (c := c) (l := l) (by omega) (by first | assumption | exact uN.oM | exact uN.oP | omega) (by first | assumption | exact uN.oM | exact uN.oP | omega) (by first | assumption | exact uN.oM | exact uN.oP | omega)
      simp only [shuntM, t3, if_pos g, hh, if_neg g3] at r
      refine ck_fnd hC ?_ r
      (rw [ex_cd_eq (by omega)]; show ex_ev (d - 1) 95 0 [vR 4, vI c, vI l, vL 0, vL 0] [] _ = _; (repeat' first | simp (disch := first | assumption | omega | ((repeat' first | exact ok_nil | apply ok_I | apply ok_R); done) | (simp (disch := first | omega | decide) only [ex_ar_same, ex_ar_diff, kM_diff, ex_u_same, ex_u_diff]; first | assumption | omega)) only [ev_95_0, ev_95_1, ev_95_2, ev_95_3, ev_95_4, gf_21_0, gf_4_0, gf_5_0, gf_5_1, gf_5_10, gf_5_12, gf_5_2, gf_5_8, pf_5_12, x_dupI, x_dupR, x_fall, x_push, x_ret1, xc_132, xc_133, xc_13_35, xc_13_6, xc_14_35, xc_14_6, xc_28_35, xc_28_6, xc_31_35, xc_31_6, xc_41, xc_45, xl_a0, xl_a3, xl_i1, xl_i2, xl_i4, xt_a3, xt_i4, y_iadd, y_if_eq_f, y_if_eq_t, y_if_ne_f, y_if_ne_t, i_wr_id, kM_diff, Int.reduceToNat, ex_ar_same, ex_ar_ar, ex_ar_diff, ex_u_same, ex_u_diff, b2i_t, b2i_f, ex_div_nn, ex_rem_nn, Int.toNat_zero, Int.toNat_one, Int.reduceAdd, Int.reduceSub, Int.reduceMul, Int.reduceNeg, kC_ne, fC_ne] | refine bb_eq (fun _ => ?_) (fun _ => ?_) | refine bb_ne (fun _ => ?_) (fun _ => ?_) | refine bc_eq (fun _ => ?_) (fun _ => ?_) | refine bc_ne (fun _ => ?_) (fun _ => ?_) | refine bc_lt (fun _ => ?_) (fun _ => ?_) | refine bc_ge (fun _ => ?_) (fun _ => ?_) | refine bc_gt (fun _ => ?_) (fun _ => ?_) | refine bc_le (fun _ => ?_) (fun _ => ?_) | refine bi_eq (fun _ => ?_) (fun _ => ?_) | refine bi_ne (fun _ => ?_) (fun _ => ?_) | refine bi_lt (fun _ => ?_) (fun _ => ?_) | refine bi_ge (fun _ => ?_) (fun _ => ?_) | refine bi_gt (fun _ => ?_) (fun _ => ?_) | refine bi_le (fun _ => ?_) (fun _ => ?_)))
  · have t2 : (fC σ) 432 = σ 432 := fC_ne _ (by decide)
    have t3 : (fC σ) 433 = σ 433 := fC_ne _ (by decide)
    have t5 : (fC σ) 435 = σ 435 := fC_ne _ (by decide)
    have t6 : (fC σ) 436 = σ 436 := fC_ne _ (by decide)
    have t7 : (fC σ) 437 = σ 437 := fC_ne _ (by decide)
    have u1 : 0 ≤ (fC σ) 432 2 := by rw [t2]; exact k0
    have u2 : (fC σ) 432 2 ≤ 16 := by rw [t2]; exact k1
    have uN : NI ((fC σ) 433) := by rw [t3]; exact hN
    have uS : SI ((fC σ) 435) ((fC σ) 436) := by rw [t5, t6]; exact hC.si
    have := uN.a0; have := uN.b0; have := uN.a1; have := uN.b1; have := uN.a2; have := uN.b2; have := uN.a3; have := uN.b3; have := uN.a4; have := uN.b4; have := uN.a5; have := uN.b5; have := uN.a7; have := uN.b7; have := uN.a8; have := uN.b8; have := uN.a9; have := uN.b9; have := uN.a10; have := uN.b10
    have r := sp_173 (L := L) (d := d) (σ := fC σ) (c := c) (l := l) (by omega) (by first | assumption | exact uN.oM | exact uN.oP | omega) (by first | assumption | exact uN.oM | exact uN.oP | omega) (by first | assumption | exact uN.oM | exact uN.oP | omega)
    simp only [shuntM, t3, if_neg g] at r
    refine ck_fnd hC ?_ r
    (rw [ex_cd_eq (by omega)]; show ex_ev (d - 1) 95 0 [vR 4, vI c, vI l, vL 0, vL 0] [] _ = _; (repeat' first | simp (disch := first | assumption | omega | ((repeat' first | exact ok_nil | apply ok_I | apply ok_R); done) | (simp (disch := first | omega | decide) only [ex_ar_same, ex_ar_diff, kM_diff, ex_u_same, ex_u_diff]; first | assumption | omega)) only [ev_95_0, ev_95_1, ev_95_2, ev_95_3, ev_95_4, gf_21_0, gf_4_0, gf_5_0, gf_5_1, gf_5_10, gf_5_12, gf_5_2, gf_5_8, pf_5_12, x_dupI, x_dupR, x_fall, x_push, x_ret1, xc_132, xc_133, xc_13_35, xc_13_6, xc_14_35, xc_14_6, xc_28_35, xc_28_6, xc_31_35, xc_31_6, xc_41, xc_45, xl_a0, xl_a3, xl_i1, xl_i2, xl_i4, xt_a3, xt_i4, y_iadd, y_if_eq_f, y_if_eq_t, y_if_ne_f, y_if_ne_t, i_wr_id, kM_diff, Int.reduceToNat, ex_ar_same, ex_ar_ar, ex_ar_diff, ex_u_same, ex_u_diff, b2i_t, b2i_f, ex_div_nn, ex_rem_nn, Int.toNat_zero, Int.toNat_one, Int.reduceAdd, Int.reduceSub, Int.reduceMul, Int.reduceNeg, kC_ne, fC_ne] | refine bb_eq (fun _ => ?_) (fun _ => ?_) | refine bb_ne (fun _ => ?_) (fun _ => ?_) | refine bc_eq (fun _ => ?_) (fun _ => ?_) | refine bc_ne (fun _ => ?_) (fun _ => ?_) | refine bc_lt (fun _ => ?_) (fun _ => ?_) | refine bc_ge (fun _ => ?_) (fun _ => ?_) | refine bc_gt (fun _ => ?_) (fun _ => ?_) | refine bc_le (fun _ => ?_) (fun _ => ?_) | refine bi_eq (fun _ => ?_) (fun _ => ?_) | refine bi_ne (fun _ => ?_) (fun _ => ?_) | refine bi_lt (fun _ => ?_) (fun _ => ?_) | refine bi_ge (fun _ => ?_) (fun _ => ?_) | refine bi_gt (fun _ => ?_) (fun _ => ?_) | refine bi_le (fun _ => ?_) (fun _ => ?_)))
    all_goals exact absurd ⟨by assumption, by assumption⟩ g
