/-! the reference: rescues -/
abbrev rsB (w : Int) (k : Nat) (a : Int × Int × (Int → Int)) : Prop := a.1 < w ∨ (w = a.1 ∧ (k : Int) < a.2.1)
abbrev rsC (n tk : Int → Int) (k : Nat) (l : Int) : Prop := 0 < n (46 + l) - tk l ∧ n (31 + l) = 0 ∧ ((k : Int) + 1) * n 5 ≤ minuteN n l
def rsP (n : Int → Int) : Nat → Nat → Int → (Int → Int) → (Int → Int) → Int × Int × (Int → Int) → Int × Int × (Int → Int)
  | 0, _, _, _, _, a => a
  | r + 1, k, w, tk, f, a => itr (fun l a => if rsC n tk k (l : Int) then rsP n r (k + 1) (w + n (131 + n (51 + 8 * (l : Int) + (n (46 + (l : Int)) - tk (l : Int) - 1)))) (ex_u tk (l : Int) (tk (l : Int) + 1)) (ex_u f (k : Int) (n (51 + 8 * (l : Int) + (n (46 + (l : Int)) - tk (l : Int) - 1)))) a else a) 0 (n 0).toNat (if rsB w k a then (w, (k : Int), cqF f a.2.2 k) else a)
def rem5 (n tk : Int → Int) : Int := (n 46 - tk 0) + (n 47 - tk 1) + (n 48 - tk 2) + (n 49 - tk 3) + (n 50 - tk 4)
theorem rem5_up (n tk : Int → Int) {l : Int} (h1 : 0 ≤ l) (h2 : l < 5) : rem5 n (ex_u tk l (tk l + 1)) = rem5 n tk - 1 := by
  unfold rem5
  rcases (show l = 0 ∨ l = 1 ∨ l = 2 ∨ l = 3 ∨ l = 4 by omega) with e | e | e | e | e
  all_goals
    subst e
    simp (disch := decide) only [ex_u_same, ex_u_diff]
    omega
theorem rem5_lo {n tk : Int → Int} (h : ∀ l : Int, 0 ≤ l → l < 5 → 0 ≤ tk l ∧ tk l ≤ n (46 + l)) {l : Int} (h1 : 0 ≤ l) (h2 : l < 5) : n (46 + l) - tk l ≤ rem5 n tk := by
  unfold rem5
  have m0 := h 0 (by omega) (by omega)
  have m1 := h 1 (by omega) (by omega)
  have m2 := h 2 (by omega) (by omega)
  have m3 := h 3 (by omega) (by omega)
  have m4 := h 4 (by omega) (by omega)
  simp only [Int.reduceAdd] at m0 m1 m2 m3 m4
  rcases (show l = 0 ∨ l = 1 ∨ l = 2 ∨ l = 3 ∨ l = 4 by omega) with e | e | e | e | e
  all_goals
    subst e
    simp only [Int.reduceAdd]
    omega
theorem ex_u_back (f : Int → Int) (i : Int) : ex_u (ex_u f i (f i + 1)) i (f i + 1 - 1) = f := by
  funext k
  by_cases h : k = i
  · rw [h, ex_u_same]; omega
  · rw [ex_u_diff _ _ h, ex_u_diff _ _ h]
theorem xr_223 {rt d L : Nat} {J : Nat → List ex_V → List ex_V → ex_H → Option ex_R} {is : List Instr} {ls st : List ex_V} {σ : ex_S} {H2 : ex_H} {a0 a1 : Int} (he : ex_cd d 223 [vR 432, vI a0, vI a1] (SH L, σ) = some ([], H2)) (hok : okN 8 st = true) : ex_xs rt J (ex_cd d) (.invokevirtual 223 :: is) ls (vI a1 :: vI a0 :: vR 432 :: st) (SH L, σ) = ex_xs rt J (ex_cd d) is ls (st) H2 := x_call1 (Or.inl rfl) rfl (sh_432 _) (Or.inl ⟨rfl, rfl⟩) (as := [vI a0, vI a1]) rfl rfl (okN_ok hok) rfl he
theorem xr_224 {rt d L : Nat} {J : Nat → List ex_V → List ex_V → ex_H → Option ex_R} {is : List Instr} {ls st : List ex_V} {σ : ex_S} {H2 : ex_H} (he : ex_cd d 224 [vR 432] (SH L, σ) = some ([], H2)) (hok : okN 8 st = true) : ex_xs rt J (ex_cd d) (.invokevirtual 224 :: is) ls (vR 432 :: st) (SH L, σ) = ex_xs rt J (ex_cd d) is ls (st) H2 := x_call1 (Or.inl rfl) rfl (sh_432 _) (Or.inl ⟨rfl, rfl⟩) (as := []) rfl rfl (okN_ok hok) rfl he
def RSP (r : Nat) : Prop := ∀ {d L : Nat} {σ : ex_S} (k : Nat) (w : Int) (f : Int → Int), 5 + r < d → NI (σ 433) → (∀ l : Int, 0 ≤ l → l < 5 → 0 ≤ σ 447 l ∧ σ 447 l ≤ σ 433 (46 + l)) → rem5 (σ 433) (σ 447) ≤ (r : Int) → (k : Int) + rem5 (σ 433) (σ 447) ≤ 8 → 0 ≤ w → w ≤ 99 * (k : Int) → (∀ j : Int, 0 ≤ j → j < (k : Int) → σ 446 j = f j) → ∃ τ, ex_cd d 223 [vR 432, vI (k : Int), vI w] (SH L, σ) = some ([], (SH L, τ)) ∧ (τ 432 15, τ 432 16, τ 445) = rsP (σ 433) (r + 1) k w (σ 447) f (σ 432 15, σ 432 16, σ 445) ∧ τ 447 = σ 447 ∧ (∀ j : Int, 0 ≤ j → j < (k : Int) → τ 446 j = f j) ∧ (∀ a, a ≠ 432 → a ≠ 445 → a ≠ 446 → a ≠ 447 → τ a = σ a) ∧ (∀ i : Int, i ≠ 15 → i ≠ 16 → τ 432 i = σ 432 i)
theorem rs_step (r : Nat) (IH : ∀ r', r = r' + 1 → RSP r') : RSP r := by
  intro d L σ k w f hd hN htk hr hk hw hw2 hf
  (have := hN.a0; have := hN.b0; have := hN.a1; have := hN.b1; have := hN.a2; have := hN.b2; have := hN.a3; have := hN.b3; have := hN.a4; have := hN.b4; have := hN.a5; have := hN.b5; have := hN.a7; have := hN.b7; have := hN.a8; have := hN.b8; have := hN.a9; have := hN.b9; have := hN.a10; have := hN.b10; have := hN.oM; have := hN.oP)
  have rem0 : ∀ l : Int, 0 ≤ l → l < 5 → σ 433 (46 + l) - σ 447 l ≤ rem5 (σ 433) (σ 447) := fun l h1 h2 => rem5_lo htk h1 h2
  have r00 := rem0 0 (by omega) (by omega)
  have t00 := htk 0 (by omega) (by omega)
  have lp : ∀ l : Nat, l ≤ (σ 433 0).toNat → ∀ (τ : ex_S) (x : ex_V), τ 447 = σ 447 → (∀ j : Int, 0 ≤ j → j < (k : Int) → τ 446 j = f j) → (∀ a, a ≠ 432 → a ≠ 445 → a ≠ 446 → a ≠ 447 → τ a = σ a) → (∀ i : Int, i ≠ 15 → i ≠ 16 → τ 432 i = σ 432 i) → ∃ υ, ex_ev (d - 1) 223 4 [vR 432, vI (k : Int), vI w, vI (l : Int), x] [] (SH L, τ) = some ([], (SH L, υ)) ∧ (υ 432 15, υ 432 16, υ 445) = itr (fun l a => if rsC (σ 433) (σ 447) k (l : Int) then rsP (σ 433) r (k + 1) (w + σ 433 (131 + σ 433 (51 + 8 * (l : Int) + (σ 433 (46 + (l : Int)) - σ 447 (l : Int) - 1)))) (ex_u (σ 447) (l : Int) (σ 447 (l : Int) + 1)) (ex_u f (k : Int) (σ 433 (51 + 8 * (l : Int) + (σ 433 (46 + (l : Int)) - σ 447 (l : Int) - 1)))) a else a) l ((σ 433 0).toNat - l) (τ 432 15, τ 432 16, τ 445) ∧ υ 447 = σ 447 ∧ (∀ j : Int, 0 ≤ j → j < (k : Int) → υ 446 j = f j) ∧ (∀ a, a ≠ 432 → a ≠ 445 → a ≠ 446 → a ≠ 447 → υ a = σ a) ∧ (∀ i : Int, i ≠ 15 → i ≠ 16 → υ 432 i = σ 432 i) := by
    refine down ?_ ?_
    · intro τ x t0 t1 t2 t3
      have e433 := t2 433 (by decide) (by decide) (by decide) (by decide)
      refine ⟨τ, ?_, ?_, t0, t1, t2, t3⟩
      · rw [ev_223_4]
        simp (disch := first | assumption | omega | ((repeat' first | exact ok_nil | apply ok_I | apply ok_R); done) | (simp (disch := first | omega | decide) only [ex_ar_same, ex_ar_diff, kM_diff, ex_u_same, ex_u_diff]; first | assumption | omega)) only [e433, ev_223_0, ev_223_1, ev_223_3, ev_223_5, ev_223_6, gf_432_0, gf_432_15, gf_432_16, gf_432_17, gf_432_18, gf_432_19, ld_433, ld_445, ld_446, ld_447, pf_432_15, pf_432_16, sd_433, sd_445, sd_446, sd_447, x_dup2, x_fall, x_goto, x_imul, x_push, x_ret0, xc_152, xc_222, xl_a0, xl_i1, xl_i2, xl_i3, xl_i4, xn_3, xt_i3, xt_i4, y_cmp_ge_f, y_cmp_ge_t, y_cmp_gt_f, y_cmp_gt_t, y_cmp_lt_f, y_cmp_lt_t, y_cmp_ne_f, y_cmp_ne_t, y_iadd, y_if_le_f, y_if_le_t, y_if_ne_f, y_if_ne_t, y_isub, i_wr_id, kM_diff, Int.reduceToNat, ex_ar_same, ex_ar_ar, ex_ar_diff, ex_u_same, ex_u_diff, b2i_t, b2i_f, ex_div_nn, ex_rem_nn, Int.toNat_zero, Int.toNat_one, Int.reduceAdd, Int.reduceSub, Int.reduceMul, Int.reduceNeg]
      · rw [Nat.sub_self]; rfl
    · intro l hl ih τ x t0 t1 t2 t3
      have e433 := t2 433 (by decide) (by decide) (by decide) (by decide)
      have hN' : NI (τ 433) := by rw [e433]; exact hN
      have m := hN.oM (l : Int) (by omega) (by omega)
      have tk := htk (l : Int) (by omega) (by omega)
      have rl := rem0 (l : Int) (by omega) (by omega)
      have k8 : (k : Int) ≤ 8 := by omega
      have pb : 0 ≤ ((k : Int) + 1) * σ 433 5 := Int.mul_nonneg (by omega) (by omega)
      have pb2 : ((k : Int) + 1) * σ 433 5 ≤ 9 * 30 := Int.mul_le_mul (by omega) (by omega) (by omega) (by omega)
      rw [show (σ 433 0).toNat - l = ((σ 433 0).toNat - (l + 1)) + 1 by omega, itr_succ_last]
      by_cases q : rsC (σ 433) (σ 447) k (l : Int)
      · rw [if_pos q]
        obtain ⟨q1, q2, q3⟩ := q
        obtain ⟨r', hr'⟩ : ∃ r', r = r' + 1 := ⟨r - 1, by omega⟩
        have cp := hN.oP (l : Int) (σ 433 (46 + (l : Int)) - σ 447 (l : Int) - 1) (by omega) (by omega) (by omega) (by omega)
        generalize hc : σ 433 (51 + 8 * (l : Int) + (σ 433 (46 + (l : Int)) - σ 447 (l : Int) - 1)) = c at *
        have c5 := hN.c5 c (by omega) (by omega)
        have u1 : ∀ j : Int, 0 ≤ j → j < ((k + 1 : Nat) : Int) → ex_ar (ex_ar τ 446 (ex_u (τ 446) (k : Int) c)) 447 (ex_u (σ 447) (l : Int) (σ 447 (l : Int) + 1)) 446 j = ex_u f (k : Int) c j := fun j h1 h2 => by
          rw [ex_ar_diff _ _ _ (by decide), ex_ar_same]
          by_cases z : j = (k : Int)
          · rw [z, ex_u_same, ex_u_same]
          · rw [ex_u_diff _ _ z, ex_u_diff _ _ z]; exact t1 j h1 (by omega)
        have E433 : ex_ar (ex_ar τ 446 (ex_u (τ 446) (k : Int) c)) 447 (ex_u (σ 447) (l : Int) (σ 447 (l : Int) + 1)) 433 = σ 433 := by rw [ex_ar_diff _ _ _ (by decide), ex_ar_diff _ _ _ (by decide), e433]
        have E432 : ex_ar (ex_ar τ 446 (ex_u (τ 446) (k : Int) c)) 447 (ex_u (σ 447) (l : Int) (σ 447 (l : Int) + 1)) 432 = τ 432 := by rw [ex_ar_diff _ _ _ (by decide), ex_ar_diff _ _ _ (by decide)]
        have E445 : ex_ar (ex_ar τ 446 (ex_u (τ 446) (k : Int) c)) 447 (ex_u (σ 447) (l : Int) (σ 447 (l : Int) + 1)) 445 = τ 445 := by rw [ex_ar_diff _ _ _ (by decide), ex_ar_diff _ _ _ (by decide)]
        have E447 : ex_ar (ex_ar τ 446 (ex_u (τ 446) (k : Int) c)) 447 (ex_u (σ 447) (l : Int) (σ 447 (l : Int) + 1)) 447 = ex_u (σ 447) (l : Int) (σ 447 (l : Int) + 1) := ex_ar_same _ _ _
        have ru := rem5_up (σ 433) (σ 447) (show 0 ≤ (l : Int) by omega) (show (l : Int) < 5 by omega)
        obtain ⟨υ, r1, r2, r3, r4, r5, r6⟩ := IH r' hr' (d := d - 1) (L := L) (σ := ex_ar (ex_ar τ 446 (ex_u (τ 446) (k : Int) c)) 447 (ex_u (σ 447) (l : Int) (σ 447 (l : Int) + 1))) (k + 1) (w + σ 433 (131 + c)) (ex_u f (k : Int) c) (by omega) (by rw [E433]; exact hN) (fun l' h1 h2 => by
          rw [E433, E447]
          have := htk l' h1 h2
          by_cases z : l' = (l : Int)
          · rw [z, ex_u_same]; omega
          · rw [ex_u_diff _ _ z]; exact this) (by rw [E433, E447, ru]; omega) (by rw [E433, E447, ru]; omega) (by omega) (by omega) u1
        rw [E433, E432, E445, E447] at r2
        rw [E447] at r3
        rw [show ((k + 1 : Nat) : Int) = (k : Int) + 1 by omega] at r1
        rw [← hr'] at r2
        obtain ⟨ω, v1, v2, v3⟩ := ih (ex_ar υ 447 (σ 447)) (vI (σ 433 (46 + (l : Int)) - σ 447 (l : Int))) (ex_ar_same _ _ _) (fun j h1 h2 => by rw [ex_ar_diff _ _ _ (by decide), r4 j h1 (by omega), ex_u_diff _ _ (by omega)]) (fun a h1 h2 h3 h4 => by rw [ex_ar_diff _ _ _ h4, r5 a h1 h2 h3 h4, ex_ar_diff _ _ _ h4, ex_ar_diff _ _ _ h3, t2 a h1 h2 h3 h4]) (fun i h1 h2 => by rw [ex_ar_diff _ _ _ (by decide), r6 i h1 h2, E432, t3 i h1 h2])
        rw [ex_ar_diff _ _ _ (by decide), ex_ar_diff _ _ _ (by decide), r2] at v2
        refine ⟨ω, ?_, v2, v3⟩
        have bk := ex_u_back (σ 447) (l : Int)
        have r31 : υ 447 (l : Int) = σ 447 (l : Int) + 1 := by rw [r3, ex_u_same]
        rw [ev_223_4]
        simp (disch := first | assumption | omega | ((repeat' first | exact ok_nil | apply ok_I | apply ok_R); done) | (simp (disch := first | omega | decide) only [ex_ar_same, ex_ar_diff, kM_diff, ex_u_same, ex_u_diff]; first | assumption | omega)) only [(xr_223 r1), bk, e433, ev_223_0, ev_223_1, ev_223_3, ev_223_5, ev_223_6, gf_432_0, gf_432_15, gf_432_16, gf_432_17, gf_432_18, gf_432_19, hc, ld_433, ld_445, ld_446, ld_447, pf_432_15, pf_432_16, r3, r31, sd_433, sd_445, sd_446, sd_447, t0, x_dup2, x_fall, x_goto, x_imul, x_push, x_ret0, xc_152, xc_222, xl_a0, xl_i1, xl_i2, xl_i3, xl_i4, xn_3, xt_i3, xt_i4, y_cmp_ge_f, y_cmp_ge_t, y_cmp_gt_f, y_cmp_gt_t, y_cmp_lt_f, y_cmp_lt_t, y_cmp_ne_f, y_cmp_ne_t, y_iadd, y_if_le_f, y_if_le_t, y_if_ne_f, y_if_ne_t, y_isub, i_wr_id, kM_diff, Int.reduceToNat, ex_ar_same, ex_ar_ar, ex_ar_diff, ex_u_same, ex_u_diff, b2i_t, b2i_f, ex_div_nn, ex_rem_nn, Int.toNat_zero, Int.toNat_one, Int.reduceAdd, Int.reduceSub, Int.reduceMul, Int.reduceNeg]
        rw [nat_cast_succ]
        exact v1
      · rw [if_neg q]
        obtain ⟨ω, v1, v2, v3⟩ := ih τ (vI (σ 433 (46 + (l : Int)) - σ 447 (l : Int))) t0 t1 t2 t3
        refine ⟨ω, ?_, v2, v3⟩
        rw [ev_223_4]
        (repeat' first | simp (disch := first | assumption | omega | ((repeat' first | exact ok_nil | apply ok_I | apply ok_R); done) | (simp (disch := first | omega | decide) only [ex_ar_same, ex_ar_diff, kM_diff, ex_u_same, ex_u_diff]; first | assumption | omega)) only [e433, ev_223_0, ev_223_1, ev_223_3, ev_223_5, ev_223_6, gf_432_0, gf_432_15, gf_432_16, gf_432_17, gf_432_18, gf_432_19, ld_433, ld_445, ld_446, ld_447, pf_432_15, pf_432_16, sd_433, sd_445, sd_446, sd_447, t0, x_dup2, x_fall, x_goto, x_imul, x_push, x_ret0, xc_152, xc_222, xl_a0, xl_i1, xl_i2, xl_i3, xl_i4, xn_3, xt_i3, xt_i4, y_cmp_ge_f, y_cmp_ge_t, y_cmp_gt_f, y_cmp_gt_t, y_cmp_lt_f, y_cmp_lt_t, y_cmp_ne_f, y_cmp_ne_t, y_iadd, y_if_le_f, y_if_le_t, y_if_ne_f, y_if_ne_t, y_isub, i_wr_id, kM_diff, Int.reduceToNat, ex_ar_same, ex_ar_ar, ex_ar_diff, ex_u_same, ex_u_diff, b2i_t, b2i_f, ex_div_nn, ex_rem_nn, Int.toNat_zero, Int.toNat_one, Int.reduceAdd, Int.reduceSub, Int.reduceMul, Int.reduceNeg] | refine bb_eq (fun _ => ?_) (fun _ => ?_) | refine bb_ne (fun _ => ?_) (fun _ => ?_) | refine bc_eq (fun _ => ?_) (fun _ => ?_) | refine bc_ne (fun _ => ?_) (fun _ => ?_) | refine bc_lt (fun _ => ?_) (fun _ => ?_) | refine bc_ge (fun _ => ?_) (fun _ => ?_) | refine bc_gt (fun _ => ?_) (fun _ => ?_) | refine bc_le (fun _ => ?_) (fun _ => ?_) | refine bi_eq (fun _ => ?_) (fun _ => ?_) | refine bi_ne (fun _ => ?_) (fun _ => ?_) | refine bi_lt (fun _ => ?_) (fun _ => ?_) | refine bi_ge (fun _ => ?_) (fun _ => ?_) | refine bi_gt (fun _ => ?_) (fun _ => ?_) | refine bi_le (fun _ => ?_) (fun _ => ?_))
        all_goals first | (rw [nat_cast_succ]; exact v1) | (exact absurd ⟨by assumption, by assumption, by assumption⟩ q)
  have go : ∀ τ : ex_S, τ 447 = σ 447 → (∀ j : Int, 0 ≤ j → j < (k : Int) → τ 446 j = f j) → (∀ a, a ≠ 432 → a ≠ 445 → a ≠ 446 → a ≠ 447 → τ a = σ a) → (∀ i : Int, i ≠ 15 → i ≠ 16 → τ 432 i = σ 432 i) → (τ 432 15, τ 432 16, τ 445) = (if rsB w k (σ 432 15, σ 432 16, σ 445) then (w, (k : Int), cqF f (σ 445) k) else (σ 432 15, σ 432 16, σ 445)) → (∀ x : ex_V, ex_ev (d - 1) 223 0 [vR 432, vI (k : Int), vI w, vL 0, vL 0] [] (SH L, σ) = ex_ev (d - 1) 223 4 [vR 432, vI (k : Int), vI w, vI 0, vL 0] [] (SH L, τ)) → ∃ τ, ex_cd d 223 [vR 432, vI (k : Int), vI w] (SH L, σ) = some ([], (SH L, τ)) ∧ (τ 432 15, τ 432 16, τ 445) = rsP (σ 433) (r + 1) k w (σ 447) f (σ 432 15, σ 432 16, σ 445) ∧ τ 447 = σ 447 ∧ (∀ j : Int, 0 ≤ j → j < (k : Int) → τ 446 j = f j) ∧ (∀ a, a ≠ 432 → a ≠ 445 → a ≠ 446 → a ≠ 447 → τ a = σ a) ∧ (∀ i : Int, i ≠ 15 → i ≠ 16 → τ 432 i = σ 432 i) := by
    intro τ t0 t1 t2 t3 t4 t5
    obtain ⟨υ, v1, v2, v3⟩ := lp 0 (by omega) τ (vL 0) t0 t1 t2 t3
    refine ⟨υ, ?_, ?_, v3⟩
    · rw [ex_cd_eq (by omega)]
      show ex_ev (d - 1) 223 0 [vR 432, vI (k : Int), vI w, vL 0, vL 0] [] (SH L, σ) = _
      rw [t5 (vL 0)]
      exact v1
    · rw [v2, rsP, t4, Nat.sub_zero]
  have l2 : ∀ (σ : ex_S), ∀ j : Nat, j ≤ k → ex_ev (d - 1) 223 2 [vR 432, vI (k : Int), vI w, vI (j : Int), vL 0] [] (SH L, ex_ar σ 445 (cqF (σ 446) (σ 445) j)) = ex_ev (d - 1) 223 4 [vR 432, vI (k : Int), vI w, vI 0, vL 0] [] (SH L, ex_ar σ 445 (cqF (σ 446) (σ 445) k)) := by
    intro σ
    refine down ?_ ?_
    · rw [ev_223_2]
      simp (disch := first | assumption | omega | ((repeat' first | exact ok_nil | apply ok_I | apply ok_R); done) | (simp (disch := first | omega | decide) only [ex_ar_same, ex_ar_diff, kM_diff, ex_u_same, ex_u_diff]; first | assumption | omega)) only [ev_223_0, ev_223_1, ev_223_3, ev_223_5, ev_223_6, gf_432_0, gf_432_15, gf_432_16, gf_432_17, gf_432_18, gf_432_19, ld_433, ld_445, ld_446, ld_447, pf_432_15, pf_432_16, sd_433, sd_445, sd_446, sd_447, x_dup2, x_fall, x_goto, x_imul, x_push, x_ret0, xc_152, xc_222, xl_a0, xl_i1, xl_i2, xl_i3, xl_i4, xn_3, xt_i3, xt_i4, y_cmp_ge_f, y_cmp_ge_t, y_cmp_gt_f, y_cmp_gt_t, y_cmp_lt_f, y_cmp_lt_t, y_cmp_ne_f, y_cmp_ne_t, y_iadd, y_if_le_f, y_if_le_t, y_if_ne_f, y_if_ne_t, y_isub, i_wr_id, kM_diff, Int.reduceToNat, ex_ar_same, ex_ar_ar, ex_ar_diff, ex_u_same, ex_u_diff, b2i_t, b2i_f, ex_div_nn, ex_rem_nn, Int.toNat_zero, Int.toNat_one, Int.reduceAdd, Int.reduceSub, Int.reduceMul, Int.reduceNeg]
    · intro j hj ih
      rw [ev_223_2]
      simp (disch := first | assumption | omega | ((repeat' first | exact ok_nil | apply ok_I | apply ok_R); done) | (simp (disch := first | omega | decide) only [ex_ar_same, ex_ar_diff, kM_diff, ex_u_same, ex_u_diff]; first | assumption | omega)) only [ev_223_0, ev_223_1, ev_223_3, ev_223_5, ev_223_6, gf_432_0, gf_432_15, gf_432_16, gf_432_17, gf_432_18, gf_432_19, ld_433, ld_445, ld_446, ld_447, pf_432_15, pf_432_16, sd_433, sd_445, sd_446, sd_447, x_dup2, x_fall, x_goto, x_imul, x_push, x_ret0, xc_152, xc_222, xl_a0, xl_i1, xl_i2, xl_i3, xl_i4, xn_3, xt_i3, xt_i4, y_cmp_ge_f, y_cmp_ge_t, y_cmp_gt_f, y_cmp_gt_t, y_cmp_lt_f, y_cmp_lt_t, y_cmp_ne_f, y_cmp_ne_t, y_iadd, y_if_le_f, y_if_le_t, y_if_ne_f, y_if_ne_t, y_isub, i_wr_id, kM_diff, Int.reduceToNat, ex_ar_same, ex_ar_ar, ex_ar_diff, ex_u_same, ex_u_diff, b2i_t, b2i_f, ex_div_nn, ex_rem_nn, Int.toNat_zero, Int.toNat_one, Int.reduceAdd, Int.reduceSub, Int.reduceMul, Int.reduceNeg]
      rw [cqF_s, nat_cast_succ]
      exact ih
  by_cases q : rsB w k (σ 432 15, σ 432 16, σ 445)
  · have l3 := l2 (ex_ar σ 432 (ex_u (ex_u (σ 432) 15 w) 16 (k : Int))) 0 (by omega)
    rw [cqF_0, ex_ar_id] at l3
    rw [ex_ar_diff _ _ _ (by decide), ex_ar_diff _ _ _ (by decide)] at l3
    refine go (ex_ar (ex_ar σ 432 (ex_u (ex_u (σ 432) 15 w) 16 (k : Int))) 445 (cqF (σ 446) (σ 445) k)) ?_ ?_ ?_ ?_ ?_ ?_
    · rw [ex_ar_diff _ _ _ (by decide), ex_ar_diff _ _ _ (by decide)]
    · intro j h1 h2
      rw [ex_ar_diff _ _ _ (by decide), ex_ar_diff _ _ _ (by decide)]
      exact hf j h1 h2
    · intro a h1 h2 h3 h4
      rw [ex_ar_diff _ _ _ h2, ex_ar_diff _ _ _ h1]
    · intro i h1 h2
      rw [ex_ar_diff _ _ _ (by decide), ex_ar_same, ex_u_diff _ _ h2, ex_u_diff _ _ h1]
    · rw [if_pos q, ex_ar_diff _ _ _ (by decide), ex_ar_same, ex_ar_same, ex_u_same, ex_u_diff _ _ (by decide), ex_u_same]
      congr 2
      funext i
      unfold cqF
      by_cases z : 0 ≤ i ∧ i < (k : Int)
      · rw [if_pos z, if_pos z, hf i z.1 z.2]
      · rw [if_neg z, if_neg z]
    · intro x
      rcases q with q | ⟨q1, q2⟩
      · dsimp only at q
        simp (disch := first | assumption | omega | ((repeat' first | exact ok_nil | apply ok_I | apply ok_R); done) | (simp (disch := first | omega | decide) only [ex_ar_same, ex_ar_diff, kM_diff, ex_u_same, ex_u_diff]; first | assumption | omega)) only [ev_223_0, ev_223_1, ev_223_3, ev_223_5, ev_223_6, gf_432_0, gf_432_15, gf_432_16, gf_432_17, gf_432_18, gf_432_19, ld_433, ld_445, ld_446, ld_447, pf_432_15, pf_432_16, sd_433, sd_445, sd_446, sd_447, x_dup2, x_fall, x_goto, x_imul, x_push, x_ret0, xc_152, xc_222, xl_a0, xl_i1, xl_i2, xl_i3, xl_i4, xn_3, xt_i3, xt_i4, y_cmp_ge_f, y_cmp_ge_t, y_cmp_gt_f, y_cmp_gt_t, y_cmp_lt_f, y_cmp_lt_t, y_cmp_ne_f, y_cmp_ne_t, y_iadd, y_if_le_f, y_if_le_t, y_if_ne_f, y_if_ne_t, y_isub, i_wr_id, kM_diff, Int.reduceToNat, ex_ar_same, ex_ar_ar, ex_ar_diff, ex_u_same, ex_u_diff, b2i_t, b2i_f, ex_div_nn, ex_rem_nn, Int.toNat_zero, Int.toNat_one, Int.reduceAdd, Int.reduceSub, Int.reduceMul, Int.reduceNeg]
        exact l3
      · dsimp only at q1 q2
        simp (disch := first | assumption | omega | ((repeat' first | exact ok_nil | apply ok_I | apply ok_R); done) | (simp (disch := first | omega | decide) only [ex_ar_same, ex_ar_diff, kM_diff, ex_u_same, ex_u_diff]; first | assumption | omega)) only [ev_223_0, ev_223_1, ev_223_3, ev_223_5, ev_223_6, gf_432_0, gf_432_15, gf_432_16, gf_432_17, gf_432_18, gf_432_19, ld_433, ld_445, ld_446, ld_447, pf_432_15, pf_432_16, sd_433, sd_445, sd_446, sd_447, x_dup2, x_fall, x_goto, x_imul, x_push, x_ret0, xc_152, xc_222, xl_a0, xl_i1, xl_i2, xl_i3, xl_i4, xn_3, xt_i3, xt_i4, y_cmp_ge_f, y_cmp_ge_t, y_cmp_gt_f, y_cmp_gt_t, y_cmp_lt_f, y_cmp_lt_t, y_cmp_ne_f, y_cmp_ne_t, y_iadd, y_if_le_f, y_if_le_t, y_if_ne_f, y_if_ne_t, y_isub, i_wr_id, kM_diff, Int.reduceToNat, ex_ar_same, ex_ar_ar, ex_ar_diff, ex_u_same, ex_u_diff, b2i_t, b2i_f, ex_div_nn, ex_rem_nn, Int.toNat_zero, Int.toNat_one, Int.reduceAdd, Int.reduceSub, Int.reduceMul, Int.reduceNeg]
        exact l3
  · refine go σ rfl hf (fun _ _ _ _ _ => rfl) (fun _ _ _ => rfl) (by rw [if_neg q]) ?_
    intro x
    have q1 : ¬ σ 432 15 < w := fun z => q (Or.inl z)
    have q2 : ¬ (w = σ 432 15 ∧ (k : Int) < σ 432 16) := fun z => q (Or.inr z)
    by_cases q3 : w = σ 432 15
    · simp (disch := first | assumption | omega | ((repeat' first | exact ok_nil | apply ok_I | apply ok_R); done) | (simp (disch := first | omega | decide) only [ex_ar_same, ex_ar_diff, kM_diff, ex_u_same, ex_u_diff]; first | assumption | omega)) only [ev_223_0, ev_223_1, ev_223_3, ev_223_5, ev_223_6, gf_432_0, gf_432_15, gf_432_16, gf_432_17, gf_432_18, gf_432_19, ld_433, ld_445, ld_446, ld_447, pf_432_15, pf_432_16, sd_433, sd_445, sd_446, sd_447, x_dup2, x_fall, x_goto, x_imul, x_push, x_ret0, xc_152, xc_222, xl_a0, xl_i1, xl_i2, xl_i3, xl_i4, xn_3, xt_i3, xt_i4, y_cmp_ge_f, y_cmp_ge_t, y_cmp_gt_f, y_cmp_gt_t, y_cmp_lt_f, y_cmp_lt_t, y_cmp_ne_f, y_cmp_ne_t, y_iadd, y_if_le_f, y_if_le_t, y_if_ne_f, y_if_ne_t, y_isub, i_wr_id, kM_diff, Int.reduceToNat, ex_ar_same, ex_ar_ar, ex_ar_diff, ex_u_same, ex_u_diff, b2i_t, b2i_f, ex_div_nn, ex_rem_nn, Int.toNat_zero, Int.toNat_one, Int.reduceAdd, Int.reduceSub, Int.reduceMul, Int.reduceNeg]
    · simp (disch := first | assumption | omega | ((repeat' first | exact ok_nil | apply ok_I | apply ok_R); done) | (simp (disch := first | omega | decide) only [ex_ar_same, ex_ar_diff, kM_diff, ex_u_same, ex_u_diff]; first | assumption | omega)) only [ev_223_0, ev_223_1, ev_223_3, ev_223_5, ev_223_6, gf_432_0, gf_432_15, gf_432_16, gf_432_17, gf_432_18, gf_432_19, ld_433, ld_445, ld_446, ld_447, pf_432_15, pf_432_16, sd_433, sd_445, sd_446, sd_447, x_dup2, x_fall, x_goto, x_imul, x_push, x_ret0, xc_152, xc_222, xl_a0, xl_i1, xl_i2, xl_i3, xl_i4, xn_3, xt_i3, xt_i4, y_cmp_ge_f, y_cmp_ge_t, y_cmp_gt_f, y_cmp_gt_t, y_cmp_lt_f, y_cmp_lt_t, y_cmp_ne_f, y_cmp_ne_t, y_iadd, y_if_le_f, y_if_le_t, y_if_ne_f, y_if_ne_t, y_isub, i_wr_id, kM_diff, Int.reduceToNat, ex_ar_same, ex_ar_ar, ex_ar_diff, ex_u_same, ex_u_diff, b2i_t, b2i_f, ex_div_nn, ex_rem_nn, Int.toNat_zero, Int.toNat_one, Int.reduceAdd, Int.reduceSub, Int.reduceMul, Int.reduceNeg]
theorem rs_223 : ∀ r : Nat, RSP r := by
  intro r
  induction r with
  | zero => exact rs_step 0 (fun r' h => by omega)
  | succ r ih => exact rs_step (r + 1) (fun r' h => by rw [show r' = r by omega]; exact ih)
def rescN (n tk tc bc : Int → Int) : Int × Int × (Int → Int) := rsP n 9 0 0 tk tc (-1, 0, bc)
theorem rem5_all {n tk : Int → Int} (hN : NI n) (hz : ∀ l : Int, 0 ≤ l → l < 5 → tk l = 0) : rem5 n tk ≤ 8 := by
  have := hN.sm
  have := cntS_le n
  unfold rem5
  rw [hz 0 (by omega) (by omega), hz 1 (by omega) (by omega), hz 2 (by omega) (by omega), hz 3 (by omega) (by omega), hz 4 (by omega) (by omega)]
  omega
theorem fr_224 {d L : Nat} {σ : ex_S} (hd : 15 < d) (hN : NI (σ 433)) (hz : ∀ l : Int, 0 ≤ l → l < 5 → σ 447 l = 0) : ∃ τ, ex_cd d 224 [vR 432] (SH L, σ) = some ([], (SH L, τ)) ∧ (τ 432 15, τ 432 16, τ 445) = rescN (σ 433) (σ 447) (σ 446) (σ 445) ∧ RS (σ, τ) := by
  have E : ∀ a, a ≠ 432 → ex_ar σ 432 (ex_u (ex_u (σ 432) 15 (-1)) 16 0) a = σ a := fun a h => ex_ar_diff _ _ _ h
  obtain ⟨τ, r1, r2, r3, r4, r5, r6⟩ := rs_223 8 (d := d - 1) (L := L) (σ := ex_ar σ 432 (ex_u (ex_u (σ 432) 15 (-1)) 16 0)) 0 0 (σ 446) (by omega) (by rw [E _ (by decide)]; exact hN) (fun l h1 h2 => by
    rw [E _ (by decide), E _ (by decide), hz l h1 h2]
    have := hN.oM l h1 h2
    omega) (by rw [E _ (by decide), E _ (by decide)]; exact rem5_all hN hz) (by rw [E _ (by decide), E _ (by decide)]; have := rem5_all hN hz; omega) (by omega) (by omega) (fun j h1 h2 => by omega)
  rw [E 433 (by decide), E 447 (by decide), E 445 (by decide), ex_ar_same, ex_u_same, ex_u_diff _ _ (by decide), ex_u_same] at r2
  rw [E _ (by decide)] at r3
  refine ⟨τ, ?_, r2, ?_⟩
  · rw [ex_cd_eq (by omega)]
    show ex_ev (d - 1) 224 0 [vR 432] [] (SH L, σ) = _
    have r1' : ex_cd (d - 1) 223 [vR 432, vI 0, vI 0] (SH L, ex_ar σ 432 (ex_u (ex_u (σ 432) 15 (-1)) 16 0)) = some ([], (SH L, τ)) := r1
    simp (disch := first | assumption | omega | ((repeat' first | exact ok_nil | apply ok_I | apply ok_R); done) | (simp (disch := first | omega | decide) only [ex_ar_same, ex_ar_diff, kM_diff, ex_u_same, ex_u_diff]; first | assumption | omega)) only [(xr_223 r1'), ev_224_0, pf_432_15, pf_432_16, x_push, x_ret0, xl_a0, i_wr_id, kM_diff, Int.reduceToNat, ex_ar_same, ex_ar_ar, ex_ar_diff, ex_u_same, ex_u_diff, b2i_t, b2i_f, ex_div_nn, ex_rem_nn, Int.toNat_zero, Int.toNat_one, Int.reduceAdd, Int.reduceSub, Int.reduceMul, Int.reduceNeg]
  · have F : ∀ a, a ≠ 432 → a ≠ 445 → a ≠ 446 → τ a = σ a := fun a h1 h2 h3 => by
      by_cases h4 : a = 447
      · subst h4; exact r3
      · rw [r5 a h1 h2 h3 h4, E a h1]
    have G : ∀ i : Int, i ≠ 15 → i ≠ 16 → τ 432 i = σ 432 i := fun i h1 h2 => by rw [r6 i h1 h2, ex_ar_same, ex_u_diff _ _ h2, ex_u_diff _ _ h1]
    exact RS.mk (fun a ha => F a (by omega) (by omega) (by omega)) (F 433 (by decide) (by decide) (by decide)) (F 434 (by decide) (by decide) (by decide)) (F 435 (by decide) (by decide) (by decide)) (F 436 (by decide) (by decide) (by decide)) (F 437 (by decide) (by decide) (by decide)) (G 2 (by decide) (by decide)) (G 3 (by decide) (by decide)) (fun i _ _ => congrFun r3 i)
theorem rp_225 {d L : Nat} {σ : ex_S} (hd : 16 < d) (hN : NI (σ 433)) (hz : ∀ l : Int, 0 ≤ l → l < 5 → σ 447 l = 0) : ∃ τ, ex_cd d 225 [vR 432] (SH L, σ) = some ([vI (rescN (σ 433) (σ 447) (σ 446) (σ 445)).1], (SH L, τ)) ∧ RS (σ, τ) := by
  obtain ⟨τ, r1, r2, r3⟩ := fr_224 (d := d - 1) (L := L) (σ := σ) (by omega) hN hz
  refine ⟨τ, ?_, r3⟩
  rw [← r2, ex_cd_eq (by omega)]
  show ex_ev (d - 1) 225 0 [vR 432] [] (SH L, σ) = _
  simp (disch := first | assumption | omega | ((repeat' first | exact ok_nil | apply ok_I | apply ok_R); done) | (simp (disch := first | omega | decide) only [ex_ar_same, ex_ar_diff, kM_diff, ex_u_same, ex_u_diff]; first | assumption | omega)) only [(xr_224 r1), ev_225_0, gf_432_15, x_ret1, xl_a0, i_wr_id, kM_diff, Int.reduceToNat, ex_ar_same, ex_ar_ar, ex_ar_diff, ex_u_same, ex_u_diff, b2i_t, b2i_f, ex_div_nn, ex_rem_nn, Int.toNat_zero, Int.toNat_one, Int.reduceAdd, Int.reduceSub, Int.reduceMul, Int.reduceNeg]
def rescuedM (σ : ex_S) (i : Int) : Int × ex_S := if i < 0 then (-100001, fndM σ) else if i < (rescN (σ 433) (σ 447) (σ 446) (σ 445)).2.1 then ((rescN (σ 433) (σ 447) (σ 446) (σ 445)).2.2 i, σ) else (-100006, fndM σ)
theorem rp_226 {d L : Nat} {σ : ex_S} {i : Int} (hd : 16 < d) (hN : NI (σ 433)) (hz : ∀ l : Int, 0 ≤ l → l < 5 → σ 447 l = 0) (h8 : (rescN (σ 433) (σ 447) (σ 446) (σ 445)).2.1 ≤ 8) : ∃ τ, ex_cd d 226 [vR 432, vI i] (SH L, σ) = some ([vI (rescuedM σ i).1], (SH L, τ)) ∧ RS ((rescuedM σ i).2, τ) := by
  obtain ⟨τ, r1, r2, r3⟩ := fr_224 (d := d - 1) (L := L) (σ := σ) (by omega) hN hz
  rw [ex_cd_eq (by omega)]
  show ∃ τ, ex_ev (d - 1) 226 0 [vR 432, vI i] [] (SH L, σ) = _ ∧ _
  unfold rescuedM
  rw [← r2] at h8 ⊢
  dsimp only at h8 ⊢
  by_cases q : i < 0
  · rw [if_pos q]
    refine ⟨fndM σ, ?_, RS.refl _⟩
    simp (disch := first | assumption | omega | ((repeat' first | exact ok_nil | apply ok_I | apply ok_R); done) | (simp (disch := first | omega | decide) only [ex_ar_same, ex_ar_diff, kM_diff, ex_u_same, ex_u_diff]; first | assumption | omega)) only [ev_226_0, ev_226_1, ev_226_2, ev_226_3, gf_432_16, gf_432_17, ld_445, x_fall, x_goto, x_push, x_ret1, xc_142, xl_a0, xl_i1, y_cmp_ge_f, y_cmp_ge_t, y_if_ge_f, y_if_ge_t, i_wr_id, kM_diff, Int.reduceToNat, ex_ar_same, ex_ar_ar, ex_ar_diff, ex_u_same, ex_u_diff, b2i_t, b2i_f, ex_div_nn, ex_rem_nn, Int.toNat_zero, Int.toNat_one, Int.reduceAdd, Int.reduceSub, Int.reduceMul, Int.reduceNeg]
  · rw [if_neg q]
    by_cases q2 : i < τ 432 16
    · rw [if_pos q2]
      refine ⟨τ, ?_, r3⟩
      simp (disch := first | assumption | omega | ((repeat' first | exact ok_nil | apply ok_I | apply ok_R); done) | (simp (disch := first | omega | decide) only [ex_ar_same, ex_ar_diff, kM_diff, ex_u_same, ex_u_diff]; first | assumption | omega)) only [(xr_224 r1), ev_226_0, ev_226_1, ev_226_2, ev_226_3, gf_432_16, gf_432_17, ld_445, x_fall, x_goto, x_push, x_ret1, xc_142, xl_a0, xl_i1, y_cmp_ge_f, y_cmp_ge_t, y_if_ge_f, y_if_ge_t, i_wr_id, kM_diff, Int.reduceToNat, ex_ar_same, ex_ar_ar, ex_ar_diff, ex_u_same, ex_u_diff, b2i_t, b2i_f, ex_div_nn, ex_rem_nn, Int.toNat_zero, Int.toNat_one, Int.reduceAdd, Int.reduceSub, Int.reduceMul, Int.reduceNeg]
    · rw [if_neg q2]
      refine ⟨fndM τ, ?_, r3.fnd⟩
      simp (disch := first | assumption | omega | ((repeat' first | exact ok_nil | apply ok_I | apply ok_R); done) | (simp (disch := first | omega | decide) only [ex_ar_same, ex_ar_diff, kM_diff, ex_u_same, ex_u_diff]; first | assumption | omega)) only [(xr_224 r1), ev_226_0, ev_226_1, ev_226_2, ev_226_3, gf_432_16, gf_432_17, ld_445, x_fall, x_goto, x_push, x_ret1, xc_142, xl_a0, xl_i1, y_cmp_ge_f, y_cmp_ge_t, y_if_ge_f, y_if_ge_t, i_wr_id, kM_diff, Int.reduceToNat, ex_ar_same, ex_ar_ar, ex_ar_diff, ex_u_same, ex_u_diff, b2i_t, b2i_f, ex_div_nn, ex_rem_nn, Int.toNat_zero, Int.toNat_one, Int.reduceAdd, Int.reduceSub, Int.reduceMul, Int.reduceNeg]
