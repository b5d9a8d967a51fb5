/-! the class: rescues -/
theorem xr_60 {rt d L : Nat} {J : Nat → List ex_V → List ex_V → ex_H → Option ex_R} {is : List Instr} {ls st : List ex_V} {σ : ex_S} {H2 : ex_H} {a b c : Int} (he : ex_cd d 60 [vR 60, vR 6, vI a, vI b, vI c] (SH L, σ) = some ([], H2)) (hok : okN 8 st = true) : ex_xs rt J (ex_cd d) (.invokevirtual 60 :: is) ls (vI c :: vI b :: vI a :: vR 6 :: vR 60 :: st) (SH L, σ) = ex_xs rt J (ex_cd d) is ls st H2 := x_call1 (Or.inl rfl) rfl (sh_60 _) (Or.inl ⟨rfl, rfl⟩) (as := [vR 6, vI a, vI b, vI c]) rfl rfl (okN_ok hok) rfl he
theorem xr_59 {rt d L : Nat} {J : Nat → List ex_V → List ex_V → ex_H → Option ex_R} {is : List Instr} {ls st : List ex_V} {σ : ex_S} {H2 : ex_H} {a r : Int} (he : ex_cd d 59 [vR 60, vR 6, vI a] (SH L, σ) = some ([vI r], H2)) (hok : okN 8 st = true) : ex_xs rt J (ex_cd d) (.invokevirtual 59 :: is) ls (vI a :: vR 6 :: vR 60 :: st) (SH L, σ) = ex_xs rt J (ex_cd d) is ls (vI r :: st) H2 := x_call1 (Or.inl rfl) rfl (sh_60 _) (Or.inl ⟨rfl, rfl⟩) (as := [vR 6, vI a]) rfl rfl (okN_ok hok) rfl he
theorem cpy_61 {rt : Nat} {J : Nat → List ex_V → List ex_V → ex_H → Option ex_R} {C : Nat → List ex_V → ex_H → Option ex_R} {is : List Instr} {ls : List ex_V} {L : Nat} {σ : ex_S} : ex_xs rt J C (.invokedynamic 0 :: is) ls [vI 8, vI 0, vR 61, vI 0, vR 62] (SH L, σ) = ex_xs rt J C is ls [] (SH L, ex_ar σ 61 (ex_cpy (σ 62) (σ 61) 0 0 8)) := x_cpy (sh_62 L) (sh_61 L) (by decide) (by decide) (by decide) (by decide) (by decide) (by decide) (by decide) rfl
theorem sp_37 {d : Nat} (hd : 1 < d) {L : Nat} {σ : ex_S} {n : Int → Int} {l : Int} (hR : RG6 σ n) (hN : NI n) (h1 : 0 ≤ l) (h2 : l < n 0) : ex_cd d 37 [vR 6, vI l] (SH L, σ) = some ([vI (minuteN n l)], (SH L, σ)) := by
  rw [ex_cd_eq (by omega)]
  show ex_ev (d - 1) 37 0 [vR 6, vI l] [] (SH L, σ) = _
  have b0 := hN.b0
  have m := hN.mi l h1 (by omega)
  have e := hR.mi l h1 h2
  have k := hR.kd l h1 h2
  unfold minuteN
  (repeat' first | simp (disch := first | assumption | omega | ((repeat' first | exact ok_nil | apply ok_I | apply ok_R); done) | (simp (disch := first | omega | decide) only [ex_ar_same, ex_ar_diff, kM_diff, ex_u_same, ex_u_diff]; first | assumption | omega)) only [e, ev_37_0, ev_37_1, ev_37_2, gf_35_2, gf_35_6, gf_6_2, gf_6_6, k, ld_11, ld_36, ld_40, ld_7, x_fall, x_goto, x_push, x_ret1, xc_236, xl_a0, xl_i1, y_cmp_ne_f, y_cmp_ne_t, y_isub, i_wr_id, kM_diff, Int.reduceToNat, ex_ar_same, ex_ar_ar, ex_ar_diff, ex_u_same, ex_u_diff, b2i_t, b2i_f, ex_div_nn, ex_rem_nn, Int.toNat_zero, Int.toNat_one, Int.reduceAdd, Int.reduceSub, Int.reduceMul, Int.reduceNeg, kC_ne, fC_ne] | refine bb_eq (fun _ => ?_) (fun _ => ?_) | refine bb_ne (fun _ => ?_) (fun _ => ?_) | refine bc_eq (fun _ => ?_) (fun _ => ?_) | refine bc_ne (fun _ => ?_) (fun _ => ?_) | refine bc_lt (fun _ => ?_) (fun _ => ?_) | refine bc_ge (fun _ => ?_) (fun _ => ?_) | refine bc_gt (fun _ => ?_) (fun _ => ?_) | refine bc_le (fun _ => ?_) (fun _ => ?_) | refine bi_eq (fun _ => ?_) (fun _ => ?_) | refine bi_ne (fun _ => ?_) (fun _ => ?_) | refine bi_lt (fun _ => ?_) (fun _ => ?_) | refine bi_ge (fun _ => ?_) (fun _ => ?_) | refine bi_gt (fun _ => ?_) (fun _ => ?_) | refine bi_le (fun _ => ?_) (fun _ => ?_))
  all_goals (try simp (disch := first | assumption | omega) only [if_pos, if_neg])
  all_goals first | rfl | exact some_eq (by split <;> omega)
theorem xc_37 {rt d : Nat} {J : Nat → List ex_V → List ex_V → ex_H → Option ex_R} {is : List Instr} {ls st : List ex_V} {L : Nat} {σ : ex_S} {n : Int → Int} {l : Int} (hR : RG6 σ n) (hN : NI n) (h1 : 0 ≤ l) (h2 : l < n 0) (hd : 1 < d) (hok : okN 8 st = true) : ex_xs rt J (ex_cd d) (.invokevirtual 37 :: is) ls (vI l :: vR 6 :: st) (SH L, σ) = ex_xs rt J (ex_cd d) is ls (vI (minuteN n l) :: st) (SH L, σ) := x_call1 (Or.inl rfl) rfl (sh_6 _) (Or.inl ⟨rfl, rfl⟩) (as := [vI l]) rfl rfl (okN_ok hok) rfl (sp_37 hd hR hN h1 h2)
theorem itr_id {α : Type} {g : Nat → α → α} {a : α} : ∀ (j i : Nat), (∀ l, i ≤ l → l < i + j → g l a = a) → itr g i j a = a
  | 0, _, _ => rfl
  | j + 1, i, h => by
    show itr g (i + 1) j (g i a) = a
    rw [h i (by omega) (by omega)]
    exact itr_id j (i + 1) (fun l h1 h2 => h l (by omega) (by omega))
/-- what is left of a lane, as the class has it -/
abbrev lfN (n tk : Int → Int) (l : Int) : Int := if n (31 + l) = 0 then n (46 + l) - tk l else 0
def RSE (n f : Int → Int) (k : Nat) (σ τ : ex_S) : Prop := (∀ a, a < 60 ∨ 63 < a → τ a = σ a) ∧ (∀ j : Int, 0 ≤ j → j < (k : Int) → τ 62 j = f j) ∧ (∀ l : Int, 0 ≤ l → l < n 0 → τ 63 l = σ 63 l) ∧ (0 ≤ τ 60 1 ∧ τ 60 1 ≤ 8)
/-- class's best against the reference's -/
def RSV (τ : ex_S) (a : Int × Int × (Int → Int)) : Prop := τ 60 4 = a.1 ∧ τ 60 1 = a.2.1 ∧ ∀ i : Int, 0 ≤ i → i < a.2.1 → τ 61 i = a.2.2 i
def RSS (n : Int → Int) (r : Nat) : Prop := ∀ (d L : Nat) (σ : ex_S) (k : Nat) (w : Int) (tk f : Int → Int), 5 + r < d → RG6 σ n → (∀ l : Int, 0 ≤ l → l < 5 → 0 ≤ tk l ∧ tk l ≤ n (46 + l)) → rem5 n tk ≤ (r : Int) → (k : Int) + rem5 n tk ≤ 8 → 0 ≤ w → w ≤ 99 * (k : Int) → (∀ j : Int, 0 ≤ j → j < (k : Int) → σ 62 j = f j) → (∀ l : Int, 0 ≤ l → l < n 0 → σ 63 l = lfN n tk l) → (σ 60 4 < w ∨ (0 ≤ σ 60 1 ∧ σ 60 1 ≤ 8)) → ∃ τ, ex_cd d 60 [vR 60, vR 6, vI (n 5), vI (k : Int), vI w] (SH L, σ) = some ([], (SH L, τ)) ∧ RSE n f k σ τ ∧ ∀ b : Int → Int, (rsB w k (σ 60 4, σ 60 1, b) ∨ ∀ i : Int, 0 ≤ i → i < σ 60 1 → σ 61 i = b i) → RSV τ (rsP n (r + 1) k w tk f (σ 60 4, σ 60 1, b))
theorem rs_cl {n : Int → Int} (hN : NI n) (r : Nat) (IH : ∀ r', r = r' + 1 → RSS n r') : RSS n r := by
  intro d L σ k w tk f hd hR htk hr hk hw hw2 hf hl h8
  have a0 := hN.a0
  have b0 := hN.b0
  have b1 := hN.b1
  have a5 := hN.a5
  have b5 := hN.b5
  have rem0 : ∀ l : Int, 0 ≤ l → l < 5 → n (46 + l) - tk l ≤ rem5 n tk := fun l h1 h2 => rem5_lo htk h1 h2
  have r00 := rem0 0 (by omega) (by omega)
  have t00 := htk 0 (by omega) (by omega)
  have k8 : (k : Int) ≤ 8 := by omega
  have pb : 0 ≤ ((k : Int) + 1) * n 5 := Int.mul_nonneg (by omega) (by omega)
  have pb2 : ((k : Int) + 1) * n 5 ≤ 9 * 30 := Int.mul_le_mul (by omega) (by omega) (by omega) (by omega)
  have wp : ex_wr (n 5 * ((k : Int) + 1)) = ((k : Int) + 1) * n 5 := by rw [Int.mul_comm]; exact i_wr_id (by omega) (by omega)
  have lp : (k : Int) < 8 → ∀ l : Nat, l ≤ (n 0).toNat → ∀ (τ : ex_S) (x : ex_V), RSE n f k σ τ → ∃ υ, ex_ev (d - 1) 60 4 [vR 60, vR 6, vI (n 5), vI (k : Int), vI w, vI (((k : Int) + 1) * n 5), vI (l : Int), x] [] (SH L, τ) = some ([], (SH L, υ)) ∧ RSE n f k σ υ ∧ ∀ b : Int → Int, (∀ i : Int, 0 ≤ i → i < τ 60 1 → τ 61 i = b i) → RSV υ (itr (fun l a => if rsC n tk k (l : Int) then rsP n r (k + 1) (w + n (131 + n (51 + 8 * (l : Int) + (n (46 + (l : Int)) - tk (l : Int) - 1)))) (ex_u tk (l : Int) (tk (l : Int) + 1)) (ex_u f (k : Int) (n (51 + 8 * (l : Int) + (n (46 + (l : Int)) - tk (l : Int) - 1)))) a else a) l ((n 0).toNat - l) (τ 60 4, τ 60 1, b)) := by
    intro k7
    refine down ?_ ?_
    · intro τ x hE
      obtain ⟨t1, t2, t3, t4⟩ := id hE
      have hRt : RG6 τ n := RG_fr (G := 6) hR hN (fun a x1 x2 => t1 a (by omega))
      have la := hRt.la
      refine ⟨τ, ?_, hE, fun b hb => ?_⟩
      · rw [ev_60_4]
        simp (disch := first | assumption | omega | ((repeat' first | exact ok_nil | apply ok_I | apply ok_R); done) | (simp (disch := first | omega | decide) only [ex_ar_same, ex_ar_diff, kM_diff, ex_u_same, ex_u_diff]; first | assumption | omega)) only [ev_60_0, ev_60_1, ev_60_2, ev_60_3, ev_60_5, ev_60_6, ev_60_7, gf_35_0, gf_60_0, gf_60_1, gf_60_2, gf_60_3, gf_60_4, gf_6_0, ld_61, ld_62, ld_63, ln_61, ln_62, ln_63, pf_60_1, pf_60_4, sd_61, sd_62, sd_63, x_dup2, x_fall, x_goto, x_push, x_ret0, xc_17_35, xc_17_6, xc_23_35, xc_23_6, xc_37, xl_a0, xl_a1, xl_i2, xl_i3, xl_i4, xl_i5, xl_i6, xl_i7, xn_6, xt_i5, xt_i6, xt_i7, y_cmp_ge_f, y_cmp_ge_t, y_cmp_gt_f, y_cmp_gt_t, y_cmp_lt_f, y_cmp_lt_t, y_cmp_ne_f, y_cmp_ne_t, y_iadd, y_if_le_f, y_if_le_t, y_imul, y_isub, i_wr_id, kM_diff, Int.reduceToNat, ex_ar_same, ex_ar_ar, ex_ar_diff, ex_u_same, ex_u_diff, b2i_t, b2i_f, ex_div_nn, ex_rem_nn, Int.toNat_zero, Int.toNat_one, Int.reduceAdd, Int.reduceSub, Int.reduceMul, Int.reduceNeg, kC_ne, fC_ne]
      · rw [Nat.sub_self]; exact ⟨rfl, rfl, hb⟩
    · intro l hll ihl τ x hE
      obtain ⟨t1, t2, t3, t4⟩ := id hE
      have hRt : RG6 τ n := RG_fr (G := 6) hR hN (fun a x1 x2 => t1 a (by omega))
      have la := hRt.la
      have m := hN.oM (l : Int) (by omega) (by omega)
      have tkl := htk (l : Int) (by omega) (by omega)
      have rl := rem0 (l : Int) (by omega) (by omega)
      have bk := hN.bk (l : Int) (by omega) (by omega)
      have el : τ 63 (l : Int) = lfN n tk (l : Int) := (t3 l (by omega) (by omega)).trans (hl l (by omega) (by omega))
      have w5 : ex_wr ((l : Int) + 1) = ((l + 1 : Nat) : Int) := by rw [i_wr_id (by omega) (by omega)]; omega
      rw [show (n 0).toNat - l = ((n 0).toNat - (l + 1)) + 1 by omega]
      simp only [itr_succ_last]
      by_cases q : rsC n tk k (l : Int)
      · obtain ⟨q1, q2, q3⟩ := id q
        unfold lfN at el
        rw [if_pos q2] at el
        obtain ⟨r', hr'⟩ : ∃ r', r = r' + 1 := ⟨r - 1, by omega⟩
        have cp := hN.oP (l : Int) (n (46 + (l : Int)) - tk (l : Int) - 1) (by omega) (by omega) (by omega) (by omega)
        have cq := hN.po (l : Int) (n (46 + (l : Int)) - tk (l : Int) - 1) (by omega) (by omega) (by omega) (by omega)
        simp only [if_pos q]
        generalize hc : n (51 + 8 * (l : Int) + (n (46 + (l : Int)) - tk (l : Int) - 1)) = c at *
        have c5 := hN.c5 c (by omega) (by omega)
        have S1 : ∀ a, a ≠ 62 → a ≠ 63 → ex_ar (ex_ar τ 63 (ex_u (τ 63) (l : Int) (n (46 + (l : Int)) - tk (l : Int) - 1))) 62 (ex_u (τ 62) (k : Int) c) a = τ a := fun a h1 h2 => by rw [ex_ar_diff _ _ _ h1, ex_ar_diff _ _ _ h2]
        have hR0 : RG6 (ex_ar τ 63 (ex_u (τ 63) (l : Int) (n (46 + (l : Int)) - tk (l : Int) - 1))) n := RG_fr (G := 6) hRt hN (fun a x1 x2 => ex_ar_diff _ _ _ (by omega))
        have hR1 : RG6 (ex_ar (ex_ar τ 63 (ex_u (τ 63) (l : Int) (n (46 + (l : Int)) - tk (l : Int) - 1))) 62 (ex_u (τ 62) (k : Int) c)) n := RG_fr (G := 6) hRt hN (fun a x1 x2 => S1 a (by omega) (by omega))
        have ru := rem5_up n tk (show 0 ≤ (l : Int) by omega) (show (l : Int) < 5 by omega)
        obtain ⟨υ, r1, ⟨p1, p2, p3, p4⟩, p5⟩ := IH r' hr' (d - 1) L (ex_ar (ex_ar τ 63 (ex_u (τ 63) (l : Int) (n (46 + (l : Int)) - tk (l : Int) - 1))) 62 (ex_u (τ 62) (k : Int) c)) (k + 1) (w + n (131 + c)) (ex_u tk (l : Int) (tk (l : Int) + 1)) (ex_u f (k : Int) c) (by omega) hR1 (fun y h1 h2 => by
          have := htk y h1 h2
          by_cases z : y = (l : Int)
          · rw [z, ex_u_same]; omega
          · rw [ex_u_diff _ _ z]; exact this) (by omega) (by omega) (by omega) (by omega) (fun j h1 h2 => by
          rw [ex_ar_same]
          by_cases z : j = (k : Int)
          · rw [z, ex_u_same, ex_u_same]
          · rw [ex_u_diff _ _ z, ex_u_diff _ _ z]; exact t2 j h1 (by omega)) (fun y h1 h2 => by
          rw [ex_ar_diff _ _ _ (by decide), ex_ar_same]
          unfold lfN
          by_cases z : y = (l : Int)
          · rw [z, ex_u_same, ex_u_same, if_pos q2]; omega
          · rw [ex_u_diff _ _ z, ex_u_diff _ _ z, t3 y h1 h2, hl y h1 h2]) (Or.inr (by rw [S1 60 (by decide) (by decide)]; exact t4))
        rw [S1 60 (by decide) (by decide), S1 61 (by decide) (by decide)] at p5
        rw [← hr'] at p5
        rw [show ((k + 1 : Nat) : Int) = (k : Int) + 1 by omega] at r1
        have u63 : υ 63 (l : Int) = n (46 + (l : Int)) - tk (l : Int) - 1 := by rw [p3 l (by omega) (by omega), ex_ar_diff _ _ _ (by decide), ex_ar_same, ex_u_same]
        have hE2 : RSE n f k σ (ex_ar υ 63 (ex_u (υ 63) (l : Int) (n (46 + (l : Int)) - tk (l : Int)))) := by
          refine ⟨fun a ha => by rw [ex_ar_diff _ _ _ (by omega), p1 a ha, S1 a (by omega) (by omega), t1 a ha], fun j j0 j1 => by rw [ex_ar_diff _ _ _ (by decide), p2 j j0 (by omega), ex_u_diff _ _ (by omega)], fun y h1 h2 => ?_, by rw [ex_ar_diff _ _ _ (by decide)]; exact p4⟩
          rw [ex_ar_same]
          by_cases z : y = (l : Int)
          · rw [z, ex_u_same, ← el, t3 l (by omega) (by omega)]
          · rw [ex_u_diff _ _ z, p3 y h1 h2, ex_ar_diff _ _ _ (by decide), ex_ar_same, ex_u_diff _ _ z, t3 y h1 h2]
        obtain ⟨ω, v1, v2, v3⟩ := ihl _ (vI c) hE2
        rw [ex_ar_diff _ _ _ (by decide), ex_ar_diff _ _ _ (by decide)] at v3
        refine ⟨ω, ?_, v2, fun b hb => ?_⟩
        · rw [← v1, ev_60_4]
          have w1 : ex_wr (n (46 + (l : Int)) - tk (l : Int) - 1) = n (46 + (l : Int)) - tk (l : Int) - 1 := i_wr_id (by omega) (by omega)
          have w2 : ex_wr (w + n (131 + c)) = w + n (131 + c) := i_wr_id (by omega) (by omega)
          have w3 : ex_wr (n (46 + (l : Int)) - tk (l : Int) - 1 + 1) = n (46 + (l : Int)) - tk (l : Int) := by rw [i_wr_id (by omega) (by omega)]; omega
          have w4 : ex_wr ((k : Int) + 1) = (k : Int) + 1 := i_wr_id (by omega) (by omega)
          have ez : n (91 + 8 * 5 + c) = n (131 + c) := by rw [show 91 + 8 * 5 + c = 131 + c by omega]
          have ez' : n (91 + 40 + c) = n (131 + c) := by rw [show 91 + 40 + c = 131 + c by omega]
          simp (disch := first | assumption | omega | ((repeat' first | exact ok_nil | apply ok_I | apply ok_R); done) | (simp (disch := first | omega | decide) only [ex_ar_same, ex_ar_diff, kM_diff, ex_u_same, ex_u_diff]; first | assumption | omega)) only [(xr_60 r1), el, ev_60_0, ev_60_1, ev_60_2, ev_60_3, ev_60_5, ev_60_6, ev_60_7, ez, ez', gf_35_0, gf_60_0, gf_60_1, gf_60_2, gf_60_3, gf_60_4, gf_6_0, hc, ld_61, ld_62, ld_63, ln_61, ln_62, ln_63, pf_60_1, pf_60_4, sd_61, sd_62, sd_63, u63, w1, w2, w3, w4, w5, x_dup2, x_fall, x_goto, x_push, x_ret0, xc_17_35, xc_17_6, xc_23_35, xc_23_6, xc_37, xl_a0, xl_a1, xl_i2, xl_i3, xl_i4, xl_i5, xl_i6, xl_i7, xn_6, xt_i5, xt_i6, xt_i7, y_cmp_ge_f, y_cmp_ge_t, y_cmp_gt_f, y_cmp_gt_t, y_cmp_lt_f, y_cmp_lt_t, y_cmp_ne_f, y_cmp_ne_t, y_iadd, y_if_le_f, y_if_le_t, y_imul, y_isub, kM_diff, Int.reduceToNat, ex_ar_same, ex_ar_ar, ex_ar_diff, ex_u_same, ex_u_diff, b2i_t, b2i_f, ex_div_nn, ex_rem_nn, Int.toNat_zero, Int.toNat_one, Int.reduceAdd, Int.reduceSub, Int.reduceMul, Int.reduceNeg, kC_ne, fC_ne]
        · obtain ⟨x1, x2, x3⟩ := p5 b (Or.inr hb)
          have := v3 _ (fun i i0 i1 => x3 i i0 (by rw [← x2]; exact i1))
          rw [x1, x2] at this
          exact this
      · simp only [if_neg q]
        obtain ⟨ω, v1, v2, v3⟩ := ihl τ x hE
        refine ⟨ω, ?_, v2, v3⟩
        rw [← v1, ev_60_4]
        unfold lfN at el
        by_cases q2 : n (31 + (l : Int)) = 0
        · rw [if_pos q2] at el
          by_cases q1 : 0 < n (46 + (l : Int)) - tk (l : Int)
          · have q3 : ¬ ((k : Int) + 1) * n 5 ≤ minuteN n (l : Int) := fun z => q ⟨q1, q2, z⟩
            simp (disch := first | assumption | omega | ((repeat' first | exact ok_nil | apply ok_I | apply ok_R); done) | (simp (disch := first | omega | decide) only [ex_ar_same, ex_ar_diff, kM_diff, ex_u_same, ex_u_diff]; first | assumption | omega)) only [el, ev_60_0, ev_60_1, ev_60_2, ev_60_3, ev_60_5, ev_60_6, ev_60_7, gf_35_0, gf_60_0, gf_60_1, gf_60_2, gf_60_3, gf_60_4, gf_6_0, ld_61, ld_62, ld_63, ln_61, ln_62, ln_63, pf_60_1, pf_60_4, sd_61, sd_62, sd_63, w5, x_dup2, x_fall, x_goto, x_push, x_ret0, xc_17_35, xc_17_6, xc_23_35, xc_23_6, xc_37, xl_a0, xl_a1, xl_i2, xl_i3, xl_i4, xl_i5, xl_i6, xl_i7, xn_6, xt_i5, xt_i6, xt_i7, y_cmp_ge_f, y_cmp_ge_t, y_cmp_gt_f, y_cmp_gt_t, y_cmp_lt_f, y_cmp_lt_t, y_cmp_ne_f, y_cmp_ne_t, y_iadd, y_if_le_f, y_if_le_t, y_imul, y_isub, kM_diff, Int.reduceToNat, ex_ar_same, ex_ar_ar, ex_ar_diff, ex_u_same, ex_u_diff, b2i_t, b2i_f, ex_div_nn, ex_rem_nn, Int.toNat_zero, Int.toNat_one, Int.reduceAdd, Int.reduceSub, Int.reduceMul, Int.reduceNeg, kC_ne, fC_ne]
          · simp (disch := first | assumption | omega | ((repeat' first | exact ok_nil | apply ok_I | apply ok_R); done) | (simp (disch := first | omega | decide) only [ex_ar_same, ex_ar_diff, kM_diff, ex_u_same, ex_u_diff]; first | assumption | omega)) only [el, ev_60_0, ev_60_1, ev_60_2, ev_60_3, ev_60_5, ev_60_6, ev_60_7, gf_35_0, gf_60_0, gf_60_1, gf_60_2, gf_60_3, gf_60_4, gf_6_0, ld_61, ld_62, ld_63, ln_61, ln_62, ln_63, pf_60_1, pf_60_4, sd_61, sd_62, sd_63, w5, x_dup2, x_fall, x_goto, x_push, x_ret0, xc_17_35, xc_17_6, xc_23_35, xc_23_6, xc_37, xl_a0, xl_a1, xl_i2, xl_i3, xl_i4, xl_i5, xl_i6, xl_i7, xn_6, xt_i5, xt_i6, xt_i7, y_cmp_ge_f, y_cmp_ge_t, y_cmp_gt_f, y_cmp_gt_t, y_cmp_lt_f, y_cmp_lt_t, y_cmp_ne_f, y_cmp_ne_t, y_iadd, y_if_le_f, y_if_le_t, y_imul, y_isub, kM_diff, Int.reduceToNat, ex_ar_same, ex_ar_ar, ex_ar_diff, ex_u_same, ex_u_diff, b2i_t, b2i_f, ex_div_nn, ex_rem_nn, Int.toNat_zero, Int.toNat_one, Int.reduceAdd, Int.reduceSub, Int.reduceMul, Int.reduceNeg, kC_ne, fC_ne]
        · rw [if_neg q2] at el
          simp (disch := first | assumption | omega | ((repeat' first | exact ok_nil | apply ok_I | apply ok_R); done) | (simp (disch := first | omega | decide) only [ex_ar_same, ex_ar_diff, kM_diff, ex_u_same, ex_u_diff]; first | assumption | omega)) only [el, ev_60_0, ev_60_1, ev_60_2, ev_60_3, ev_60_5, ev_60_6, ev_60_7, gf_35_0, gf_60_0, gf_60_1, gf_60_2, gf_60_3, gf_60_4, gf_6_0, ld_61, ld_62, ld_63, ln_61, ln_62, ln_63, pf_60_1, pf_60_4, sd_61, sd_62, sd_63, w5, x_dup2, x_fall, x_goto, x_push, x_ret0, xc_17_35, xc_17_6, xc_23_35, xc_23_6, xc_37, xl_a0, xl_a1, xl_i2, xl_i3, xl_i4, xl_i5, xl_i6, xl_i7, xn_6, xt_i5, xt_i6, xt_i7, y_cmp_ge_f, y_cmp_ge_t, y_cmp_gt_f, y_cmp_gt_t, y_cmp_lt_f, y_cmp_lt_t, y_cmp_ne_f, y_cmp_ne_t, y_iadd, y_if_le_f, y_if_le_t, y_imul, y_isub, kM_diff, Int.reduceToNat, ex_ar_same, ex_ar_ar, ex_ar_diff, ex_u_same, ex_u_diff, b2i_t, b2i_f, ex_div_nn, ex_rem_nn, Int.toNat_zero, Int.toNat_one, Int.reduceAdd, Int.reduceSub, Int.reduceMul, Int.reduceNeg, kC_ne, fC_ne]
  -- the start of a try
  have go : ∀ τ : ex_S, RSE n f k σ τ → (∀ b : Int → Int, (rsB w k (σ 60 4, σ 60 1, b) ∨ ∀ i : Int, 0 ≤ i → i < σ 60 1 → σ 61 i = b i) → RSV τ (if rsB w k (σ 60 4, σ 60 1, b) then (w, (k : Int), cqF f b k) else (σ 60 4, σ 60 1, b))) → ex_ev (d - 1) 60 0 [vR 60, vR 6, vI (n 5), vI (k : Int), vI w, vL 0, vL 0, vL 0] [] (SH L, σ) = ex_ev (d - 1) 60 2 [vR 60, vR 6, vI (n 5), vI (k : Int), vI w, vL 0, vL 0, vL 0] [] (SH L, τ) → ∃ τ, ex_cd d 60 [vR 60, vR 6, vI (n 5), vI (k : Int), vI w] (SH L, σ) = some ([], (SH L, τ)) ∧ RSE n f k σ τ ∧ ∀ b : Int → Int, (rsB w k (σ 60 4, σ 60 1, b) ∨ ∀ i : Int, 0 ≤ i → i < σ 60 1 → σ 61 i = b i) → RSV τ (rsP n (r + 1) k w tk f (σ 60 4, σ 60 1, b)) := by
    intro τ hE hV he
    by_cases k7 : (k : Int) < 8
    · obtain ⟨υ, v1, v2, v3⟩ := lp k7 0 (by omega) τ (vL 0) hE
      refine ⟨υ, ?_, v2, fun b hb => ?_⟩
      · rw [ex_cd_eq (by omega)]
        show ex_ev (d - 1) 60 0 [vR 60, vR 6, vI (n 5), vI (k : Int), vI w, vL 0, vL 0, vL 0] [] (SH L, σ) = _
        rw [he]
        have w4 : ex_wr ((k : Int) + 1) = (k : Int) + 1 := i_wr_id (by omega) (by omega)
        simp (disch := first | assumption | omega | ((repeat' first | exact ok_nil | apply ok_I | apply ok_R); done) | (simp (disch := first | omega | decide) only [ex_ar_same, ex_ar_diff, kM_diff, ex_u_same, ex_u_diff]; first | assumption | omega)) only [ev_60_0, ev_60_1, ev_60_2, ev_60_3, ev_60_5, ev_60_6, ev_60_7, gf_35_0, gf_60_0, gf_60_1, gf_60_2, gf_60_3, gf_60_4, gf_6_0, ld_61, ld_62, ld_63, ln_61, ln_62, ln_63, pf_60_1, pf_60_4, sd_61, sd_62, sd_63, w4, wp, x_dup2, x_fall, x_goto, x_push, x_ret0, xc_17_35, xc_17_6, xc_23_35, xc_23_6, xc_37, xl_a0, xl_a1, xl_i2, xl_i3, xl_i4, xl_i5, xl_i6, xl_i7, xn_6, xt_i5, xt_i6, xt_i7, y_cmp_ge_f, y_cmp_ge_t, y_cmp_gt_f, y_cmp_gt_t, y_cmp_lt_f, y_cmp_lt_t, y_cmp_ne_f, y_cmp_ne_t, y_iadd, y_if_le_f, y_if_le_t, y_imul, y_isub, kM_diff, Int.reduceToNat, ex_ar_same, ex_ar_ar, ex_ar_diff, ex_u_same, ex_u_diff, b2i_t, b2i_f, ex_div_nn, ex_rem_nn, Int.toNat_zero, Int.toNat_one, Int.reduceAdd, Int.reduceSub, Int.reduceMul, Int.reduceNeg, kC_ne, fC_ne]
        exact v1
      · obtain ⟨x1, x2, x3⟩ := hV b hb
        rw [rsP]
        dsimp only
        have := v3 _ (fun i i0 i1 => x3 i i0 (by rw [← x2]; exact i1))
        rw [x1, x2, Nat.sub_zero] at this
        exact this
    · refine ⟨τ, ?_, hE, fun b hb => ?_⟩
      · rw [ex_cd_eq (by omega)]
        show ex_ev (d - 1) 60 0 [vR 60, vR 6, vI (n 5), vI (k : Int), vI w, vL 0, vL 0, vL 0] [] (SH L, σ) = _
        rw [he]
        simp (disch := first | assumption | omega | ((repeat' first | exact ok_nil | apply ok_I | apply ok_R); done) | (simp (disch := first | omega | decide) only [ex_ar_same, ex_ar_diff, kM_diff, ex_u_same, ex_u_diff]; first | assumption | omega)) only [ev_60_0, ev_60_1, ev_60_2, ev_60_3, ev_60_5, ev_60_6, ev_60_7, gf_35_0, gf_60_0, gf_60_1, gf_60_2, gf_60_3, gf_60_4, gf_6_0, ld_61, ld_62, ld_63, ln_61, ln_62, ln_63, pf_60_1, pf_60_4, sd_61, sd_62, sd_63, x_dup2, x_fall, x_goto, x_push, x_ret0, xc_17_35, xc_17_6, xc_23_35, xc_23_6, xc_37, xl_a0, xl_a1, xl_i2, xl_i3, xl_i4, xl_i5, xl_i6, xl_i7, xn_6, xt_i5, xt_i6, xt_i7, y_cmp_ge_f, y_cmp_ge_t, y_cmp_gt_f, y_cmp_gt_t, y_cmp_lt_f, y_cmp_lt_t, y_cmp_ne_f, y_cmp_ne_t, y_iadd, y_if_le_f, y_if_le_t, y_imul, y_isub, i_wr_id, kM_diff, Int.reduceToNat, ex_ar_same, ex_ar_ar, ex_ar_diff, ex_u_same, ex_u_diff, b2i_t, b2i_f, ex_div_nn, ex_rem_nn, Int.toNat_zero, Int.toNat_one, Int.reduceAdd, Int.reduceSub, Int.reduceMul, Int.reduceNeg, kC_ne, fC_ne]
      · rw [rsP]
        have eid : ∀ a, itr (fun l a => if rsC n tk k (l : Int) then rsP n r (k + 1) (w + n (131 + n (51 + 8 * (l : Int) + (n (46 + (l : Int)) - tk (l : Int) - 1)))) (ex_u tk (l : Int) (tk (l : Int) + 1)) (ex_u f (k : Int) (n (51 + 8 * (l : Int) + (n (46 + (l : Int)) - tk (l : Int) - 1)))) a else a) 0 (n 0).toNat a = a := fun a => itr_id _ _ (fun l h1 h2 => by
          have nz : ¬ rsC n tk k (l : Int) := fun z => by
            have := rem0 (l : Int) (by omega) (by omega)
            have := z.1
            omega
          exact if_neg nz)
        rw [eid]
        exact hV b hb
  by_cases q : σ 60 4 < w ∨ (w = σ 60 4 ∧ (k : Int) < σ 60 1)
  · refine go (ex_ar (ex_ar σ 60 (ex_u (ex_u (σ 60) 4 w) 1 (k : Int))) 61 (ex_cpy (σ 62) (σ 61) 0 0 8)) ⟨fun a ha => by rw [ex_ar_diff _ _ _ (by omega), ex_ar_diff _ _ _ (by omega)], fun j j0 j1 => by rw [ex_ar_diff _ _ _ (by decide), ex_ar_diff _ _ _ (by decide)]; exact hf j j0 j1, fun l _ _ => by rw [ex_ar_diff _ _ _ (by decide), ex_ar_diff _ _ _ (by decide)], by rw [ex_ar_diff _ _ _ (by decide), ex_ar_same, ex_u_same]; omega⟩ (fun b hb => ?_) ?_
    · rw [if_pos q]
      refine ⟨by rw [ex_ar_diff _ _ _ (by decide), ex_ar_same, ex_u_diff _ _ (by decide), ex_u_same], by rw [ex_ar_diff _ _ _ (by decide), ex_ar_same, ex_u_same], fun i i0 i1 => ?_⟩
      dsimp only at i1 ⊢
      rw [ex_ar_same]
      unfold cqF
      rw [if_pos ⟨i0, i1⟩]
      show (if _ then _ else _) = _
      rw [if_pos (by omega), show 0 + (i - 0) = i by omega]
      exact hf i i0 i1
    · rcases q with q | ⟨q1, q2⟩
      · simp (disch := first | assumption | omega | ((repeat' first | exact ok_nil | apply ok_I | apply ok_R); done) | (simp (disch := first | omega | decide) only [ex_ar_same, ex_ar_diff, kM_diff, ex_u_same, ex_u_diff]; first | assumption | omega)) only [cpy_61, ev_60_0, ev_60_1, ev_60_3, ev_60_5, ev_60_6, ev_60_7, gf_35_0, gf_60_0, gf_60_1, gf_60_2, gf_60_3, gf_60_4, gf_6_0, ld_61, ld_62, ld_63, ln_61, ln_62, ln_63, pf_60_1, pf_60_4, sd_61, sd_62, sd_63, x_dup2, x_fall, x_goto, x_push, x_ret0, xc_17_35, xc_17_6, xc_23_35, xc_23_6, xc_37, xl_a0, xl_a1, xl_i2, xl_i3, xl_i4, xl_i5, xl_i6, xl_i7, xn_6, xt_i5, xt_i6, xt_i7, y_cmp_ge_f, y_cmp_ge_t, y_cmp_gt_f, y_cmp_gt_t, y_cmp_lt_f, y_cmp_lt_t, y_cmp_ne_f, y_cmp_ne_t, y_iadd, y_if_le_f, y_if_le_t, y_imul, y_isub, i_wr_id, kM_diff, Int.reduceToNat, ex_ar_same, ex_ar_ar, ex_ar_diff, ex_u_same, ex_u_diff, b2i_t, b2i_f, ex_div_nn, ex_rem_nn, Int.toNat_zero, Int.toNat_one, Int.reduceAdd, Int.reduceSub, Int.reduceMul, Int.reduceNeg, kC_ne, fC_ne]
      · simp (disch := first | assumption | omega | ((repeat' first | exact ok_nil | apply ok_I | apply ok_R); done) | (simp (disch := first | omega | decide) only [ex_ar_same, ex_ar_diff, kM_diff, ex_u_same, ex_u_diff]; first | assumption | omega)) only [cpy_61, ev_60_0, ev_60_1, ev_60_3, ev_60_5, ev_60_6, ev_60_7, gf_35_0, gf_60_0, gf_60_1, gf_60_2, gf_60_3, gf_60_4, gf_6_0, ld_61, ld_62, ld_63, ln_61, ln_62, ln_63, pf_60_1, pf_60_4, sd_61, sd_62, sd_63, x_dup2, x_fall, x_goto, x_push, x_ret0, xc_17_35, xc_17_6, xc_23_35, xc_23_6, xc_37, xl_a0, xl_a1, xl_i2, xl_i3, xl_i4, xl_i5, xl_i6, xl_i7, xn_6, xt_i5, xt_i6, xt_i7, y_cmp_ge_f, y_cmp_ge_t, y_cmp_gt_f, y_cmp_gt_t, y_cmp_lt_f, y_cmp_lt_t, y_cmp_ne_f, y_cmp_ne_t, y_iadd, y_if_le_f, y_if_le_t, y_imul, y_isub, i_wr_id, kM_diff, Int.reduceToNat, ex_ar_same, ex_ar_ar, ex_ar_diff, ex_u_same, ex_u_diff, b2i_t, b2i_f, ex_div_nn, ex_rem_nn, Int.toNat_zero, Int.toNat_one, Int.reduceAdd, Int.reduceSub, Int.reduceMul, Int.reduceNeg, kC_ne, fC_ne]
  · refine go σ ⟨fun _ _ => rfl, hf, fun _ _ _ => rfl, h8.resolve_left (fun z => q (Or.inl z))⟩ (fun b hb => ?_) ?_
    · rw [if_neg q]
      exact ⟨rfl, rfl, hb.resolve_left q⟩
    · have q1 : ¬ σ 60 4 < w := fun z => q (Or.inl z)
      have q2 : ¬ (w = σ 60 4 ∧ (k : Int) < σ 60 1) := fun z => q (Or.inr z)
      by_cases q3 : w = σ 60 4
      · simp (disch := first | assumption | omega | ((repeat' first | exact ok_nil | apply ok_I | apply ok_R); done) | (simp (disch := first | omega | decide) only [ex_ar_same, ex_ar_diff, kM_diff, ex_u_same, ex_u_diff]; first | assumption | omega)) only [ev_60_0, ev_60_1, ev_60_3, ev_60_5, ev_60_6, ev_60_7, gf_35_0, gf_60_0, gf_60_1, gf_60_2, gf_60_3, gf_60_4, gf_6_0, ld_61, ld_62, ld_63, ln_61, ln_62, ln_63, pf_60_1, pf_60_4, sd_61, sd_62, sd_63, x_dup2, x_fall, x_goto, x_push, x_ret0, xc_17_35, xc_17_6, xc_23_35, xc_23_6, xc_37, xl_a0, xl_a1, xl_i2, xl_i3, xl_i4, xl_i5, xl_i6, xl_i7, xn_6, xt_i5, xt_i6, xt_i7, y_cmp_ge_f, y_cmp_ge_t, y_cmp_gt_f, y_cmp_gt_t, y_cmp_lt_f, y_cmp_lt_t, y_cmp_ne_f, y_cmp_ne_t, y_iadd, y_if_le_f, y_if_le_t, y_imul, y_isub, i_wr_id, kM_diff, Int.reduceToNat, ex_ar_same, ex_ar_ar, ex_ar_diff, ex_u_same, ex_u_diff, b2i_t, b2i_f, ex_div_nn, ex_rem_nn, Int.toNat_zero, Int.toNat_one, Int.reduceAdd, Int.reduceSub, Int.reduceMul, Int.reduceNeg, kC_ne, fC_ne]
      · simp (disch := first | assumption | omega | ((repeat' first | exact ok_nil | apply ok_I | apply ok_R); done) | (simp (disch := first | omega | decide) only [ex_ar_same, ex_ar_diff, kM_diff, ex_u_same, ex_u_diff]; first | assumption | omega)) only [ev_60_0, ev_60_1, ev_60_3, ev_60_5, ev_60_6, ev_60_7, gf_35_0, gf_60_0, gf_60_1, gf_60_2, gf_60_3, gf_60_4, gf_6_0, ld_61, ld_62, ld_63, ln_61, ln_62, ln_63, pf_60_1, pf_60_4, sd_61, sd_62, sd_63, x_dup2, x_fall, x_goto, x_push, x_ret0, xc_17_35, xc_17_6, xc_23_35, xc_23_6, xc_37, xl_a0, xl_a1, xl_i2, xl_i3, xl_i4, xl_i5, xl_i6, xl_i7, xn_6, xt_i5, xt_i6, xt_i7, y_cmp_ge_f, y_cmp_ge_t, y_cmp_gt_f, y_cmp_gt_t, y_cmp_lt_f, y_cmp_lt_t, y_cmp_ne_f, y_cmp_ne_t, y_iadd, y_if_le_f, y_if_le_t, y_imul, y_isub, i_wr_id, kM_diff, Int.reduceToNat, ex_ar_same, ex_ar_ar, ex_ar_diff, ex_u_same, ex_u_diff, b2i_t, b2i_f, ex_div_nn, ex_rem_nn, Int.toNat_zero, Int.toNat_one, Int.reduceAdd, Int.reduceSub, Int.reduceMul, Int.reduceNeg, kC_ne, fC_ne]
theorem rs_60 {n : Int → Int} (hN : NI n) : ∀ r : Nat, RSS n r := by
  intro r
  induction r with
  | zero => exact rs_cl hN 0 (fun r' h => by omega)
  | succ r ih => exact rs_cl hN (r + 1) (fun r' h => by rw [show r' = r by omega]; exact ih)
/-- left over lanes -/
def lfF (n f : Int → Int) (j : Nat) : Int → Int := fun l => if 0 ≤ l ∧ l < (j : Int) then lfN n (fun _ => 0) l else f l
theorem lfF_0 (n f : Int → Int) : lfF n f 0 = f := by funext k; unfold lfF; rw [if_neg (by omega)]
theorem lfF_s (n f : Int → Int) (j : Nat) : ex_u (lfF n f j) (j : Int) (lfN n (fun _ => 0) (j : Int)) = lfF n f (j + 1) := by
  funext k
  by_cases h : k = (j : Int)
  · subst h
    rw [ex_u_same]
    unfold lfF
    rw [if_pos (by omega)]
  · rw [ex_u_diff _ _ h]
    unfold lfF
    by_cases h2 : 0 ≤ k ∧ k < (j : Int)
    · rw [if_pos h2, if_pos (by omega)]
    · rw [if_neg h2, if_neg (by omega)]
theorem fp_59 {d L : Nat} {σ : ex_S} {n tk tc bc : Int → Int} (hd : 16 < d) (hR : RG6 σ n) (hN : NI n) (hz : ∀ l : Int, 0 ≤ l → l < 5 → tk l = 0) : ∃ σ', ex_cd d 59 [vR 60, vR 6, vI (n 5)] (SH L, σ) = some ([vI (rescN n tk tc bc).1], (SH L, σ')) ∧ (∀ a, a < 60 ∨ 63 < a → σ' a = σ a) ∧ (0 ≤ σ' 60 1 ∧ σ' 60 1 ≤ 8) ∧ RSV σ' (rescN n tk tc bc) := by
  have a0 := hN.a0
  have b0 := hN.b0
  have lp : ∀ l : Nat, l ≤ (n 0).toNat → ex_ev (d - 1) 59 1 [vR 60, vR 6, vI (n 5), vI (l : Int)] [] (SH L, ex_ar (ex_ar σ 60 (ex_u (σ 60) 4 (-1))) 63 (lfF n (σ 63) l)) = ex_ev (d - 1) 59 4 [vR 60, vR 6, vI (n 5), vI (n 0)] [] (SH L, ex_ar (ex_ar σ 60 (ex_u (σ 60) 4 (-1))) 63 (lfF n (σ 63) (n 0).toNat)) := by
    refine down ?_ ?_
    · have la := hR.la
      rw [ev_59_1, show (((n 0).toNat : Nat) : Int) = n 0 by omega]
      simp (disch := first | assumption | omega | ((repeat' first | exact ok_nil | apply ok_I | apply ok_R); done) | (simp (disch := first | omega | decide) only [ex_ar_same, ex_ar_diff, kM_diff, ex_u_same, ex_u_diff]; first | assumption | omega)) only [ev_59_0, ev_59_2, ev_59_3, gf_35_0, gf_35_8, gf_35_9, gf_60_3, gf_60_4, gf_6_0, gf_6_8, gf_6_9, ld_13, ld_14, ld_42, ld_43, ld_63, pf_60_4, sd_13, sd_14, sd_42, sd_43, sd_63, x_fall, x_goto, x_push, x_ret1, xl_a0, xl_a1, xl_i2, xl_i3, xn_3, xt_i3, y_cmp_ge_f, y_cmp_ge_t, y_if_eq_f, y_if_eq_t, i_wr_id, kM_diff, Int.reduceToNat, ex_ar_same, ex_ar_ar, ex_ar_diff, ex_u_same, ex_u_diff, b2i_t, b2i_f, ex_div_nn, ex_rem_nn, Int.toNat_zero, Int.toNat_one, Int.reduceAdd, Int.reduceSub, Int.reduceMul, Int.reduceNeg, kC_ne, fC_ne]
    · intro l hl ih
      have la := hR.la
      have bk := hN.bk (l : Int) (by omega) (by omega)
      have eb := hR.bk l (by omega) (by omega)
      have es := hR.st l (by omega) (by omega)
      rw [← lfF_s] at ih
      unfold lfN at ih
      rw [ev_59_1]
      by_cases z : n (31 + (l : Int)) = 0
      · rw [if_pos z, show n (46 + (l : Int)) - (fun _ => (0 : Int)) (l : Int) = n (46 + (l : Int)) by show n (46 + (l : Int)) - 0 = _; omega] at ih
        simp (disch := first | assumption | omega | ((repeat' first | exact ok_nil | apply ok_I | apply ok_R); done) | (simp (disch := first | omega | decide) only [ex_ar_same, ex_ar_diff, kM_diff, ex_u_same, ex_u_diff]; first | assumption | omega)) only [eb, es, ev_59_0, ev_59_2, ev_59_3, gf_35_0, gf_35_8, gf_35_9, gf_60_3, gf_60_4, gf_6_0, gf_6_8, gf_6_9, ld_13, ld_14, ld_42, ld_43, ld_63, pf_60_4, sd_13, sd_14, sd_42, sd_43, sd_63, x_fall, x_goto, x_push, x_ret1, xl_a0, xl_a1, xl_i2, xl_i3, xn_3, xt_i3, y_cmp_ge_f, y_cmp_ge_t, y_if_eq_f, y_if_eq_t, i_wr_id, kM_diff, Int.reduceToNat, ex_ar_same, ex_ar_ar, ex_ar_diff, ex_u_same, ex_u_diff, b2i_t, b2i_f, ex_div_nn, ex_rem_nn, Int.toNat_zero, Int.toNat_one, Int.reduceAdd, Int.reduceSub, Int.reduceMul, Int.reduceNeg, kC_ne, fC_ne]
        rw [nat_cast_succ]
        exact ih
      · rw [if_neg z] at ih
        simp (disch := first | assumption | omega | ((repeat' first | exact ok_nil | apply ok_I | apply ok_R); done) | (simp (disch := first | omega | decide) only [ex_ar_same, ex_ar_diff, kM_diff, ex_u_same, ex_u_diff]; first | assumption | omega)) only [eb, es, ev_59_0, ev_59_2, ev_59_3, gf_35_0, gf_35_8, gf_35_9, gf_60_3, gf_60_4, gf_6_0, gf_6_8, gf_6_9, ld_13, ld_14, ld_42, ld_43, ld_63, pf_60_4, sd_13, sd_14, sd_42, sd_43, sd_63, x_fall, x_goto, x_push, x_ret1, xl_a0, xl_a1, xl_i2, xl_i3, xn_3, xt_i3, y_cmp_ge_f, y_cmp_ge_t, y_if_eq_f, y_if_eq_t, i_wr_id, kM_diff, Int.reduceToNat, ex_ar_same, ex_ar_ar, ex_ar_diff, ex_u_same, ex_u_diff, b2i_t, b2i_f, ex_div_nn, ex_rem_nn, Int.toNat_zero, Int.toNat_one, Int.reduceAdd, Int.reduceSub, Int.reduceMul, Int.reduceNeg, kC_ne, fC_ne]
        rw [nat_cast_succ]
        exact ih
  have l0 := lp 0 (by omega)
  rw [lfF_0] at l0
  have ei : ex_ar (ex_ar σ 60 (ex_u (σ 60) 4 (-1))) 63 (σ 63) = ex_ar σ 60 (ex_u (σ 60) 4 (-1)) := by
    have := ex_ar_id (ex_ar σ 60 (ex_u (σ 60) 4 (-1))) 63
    rw [ex_ar_diff _ _ _ (show 63 ≠ 60 by decide)] at this
    exact this
  rw [ei] at l0
  have S : ∀ a, a ≠ 60 → a ≠ 63 → ex_ar (ex_ar σ 60 (ex_u (σ 60) 4 (-1))) 63 (lfF n (σ 63) (n 0).toNat) a = σ a := fun a h1 h2 => by rw [ex_ar_diff _ _ _ h2, ex_ar_diff _ _ _ h1]
  have e604 : ex_ar (ex_ar σ 60 (ex_u (σ 60) 4 (-1))) 63 (lfF n (σ 63) (n 0).toNat) 60 4 = -1 := by rw [ex_ar_diff _ _ _ (by decide), ex_ar_same, ex_u_same]
  have e601 : ex_ar (ex_ar σ 60 (ex_u (σ 60) 4 (-1))) 63 (lfF n (σ 63) (n 0).toNat) 60 1 = σ 60 1 := by rw [ex_ar_diff _ _ _ (by decide), ex_ar_same, ex_u_diff _ _ (by decide)]
  have r5 := rem5_all hN hz
  obtain ⟨τ, r1, ⟨p1, p2, p3, p4⟩, p5⟩ := rs_60 hN 8 (d - 1) L (ex_ar (ex_ar σ 60 (ex_u (σ 60) 4 (-1))) 63 (lfF n (σ 63) (n 0).toNat)) 0 0 tk tc (by omega) (RG_fr (G := 6) hR hN (fun a x1 x2 => S a (by omega) (by omega))) (fun l h1 h2 => by rw [hz l h1 h2]; have := hN.oM l h1 h2; omega) r5 (by omega) (by omega) (by omega) (fun j j0 j1 => by omega) (fun l h1 h2 => by
    rw [ex_ar_same]
    unfold lfF lfN
    rw [if_pos (by omega), hz l h1 (by omega)]) (Or.inl (by rw [e604]; decide))
  rw [e604, e601] at p5
  have pv := p5 bc (Or.inl (Or.inl (show (-1 : Int) < 0 by decide)))
  have er : rsP n (8 + 1) 0 0 tk tc (-1, σ 60 1, bc) = rescN n tk tc bc := by
    unfold rescN
    rw [rsP, rsP, if_pos (Or.inl (show (-1 : Int) < 0 by decide)), if_pos (Or.inl (show (-1 : Int) < 0 by decide))]
  rw [er] at pv
  obtain ⟨x1, x2, x3⟩ := id pv
  refine ⟨τ, ?_, fun a ha => by rw [p1 a ha, S a (by omega) (by omega)], p4, pv⟩
  rw [ex_cd_eq (by omega)]
  show ex_ev (d - 1) 59 0 [vR 60, vR 6, vI (n 5), vL 0] [] _ = _
  have r1' : ex_cd (d - 1) 60 [vR 60, vR 6, vI (n 5), vI 0, vI 0] (SH L, ex_ar (ex_ar σ 60 (ex_u (σ 60) 4 (-1))) 63 (lfF n (σ 63) (n 0).toNat)) = some ([], (SH L, τ)) := r1
  simp (disch := first | assumption | omega | ((repeat' first | exact ok_nil | apply ok_I | apply ok_R); done) | (simp (disch := first | omega | decide) only [ex_ar_same, ex_ar_diff, kM_diff, ex_u_same, ex_u_diff]; first | assumption | omega)) only [ev_59_0, ev_59_2, ev_59_3, gf_35_0, gf_35_8, gf_35_9, gf_60_3, gf_60_4, gf_6_0, gf_6_8, gf_6_9, ld_13, ld_14, ld_42, ld_43, ld_63, pf_60_4, sd_13, sd_14, sd_42, sd_43, sd_63, x_fall, x_goto, x_push, x_ret1, xl_a0, xl_a1, xl_i2, xl_i3, xn_3, xt_i3, y_cmp_ge_f, y_cmp_ge_t, y_if_eq_f, y_if_eq_t, i_wr_id, kM_diff, Int.reduceToNat, ex_ar_same, ex_ar_ar, ex_ar_diff, ex_u_same, ex_u_diff, b2i_t, b2i_f, ex_div_nn, ex_rem_nn, Int.toNat_zero, Int.toNat_one, Int.reduceAdd, Int.reduceSub, Int.reduceMul, Int.reduceNeg, kC_ne, fC_ne]
  refine Eq.trans l0 ?_
  simp (disch := first | assumption | omega | ((repeat' first | exact ok_nil | apply ok_I | apply ok_R); done) | (simp (disch := first | omega | decide) only [ex_ar_same, ex_ar_diff, kM_diff, ex_u_same, ex_u_diff]; first | assumption | omega)) only [(xr_60 r1'), ev_59_0, ev_59_2, ev_59_3, ev_59_4, gf_35_0, gf_35_8, gf_35_9, gf_60_3, gf_60_4, gf_6_0, gf_6_8, gf_6_9, ld_13, ld_14, ld_42, ld_43, ld_63, pf_60_4, sd_13, sd_14, sd_42, sd_43, sd_63, x1, x_fall, x_goto, x_push, x_ret1, xl_a0, xl_a1, xl_i2, xl_i3, xn_3, xt_i3, y_cmp_ge_f, y_cmp_ge_t, y_if_eq_f, y_if_eq_t, i_wr_id, kM_diff, Int.reduceToNat, ex_ar_same, ex_ar_ar, ex_ar_diff, ex_u_same, ex_u_diff, b2i_t, b2i_f, ex_div_nn, ex_rem_nn, Int.toNat_zero, Int.toNat_one, Int.reduceAdd, Int.reduceSub, Int.reduceMul, Int.reduceNeg, kC_ne, fC_ne]
