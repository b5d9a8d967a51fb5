/-! the class: what keeps a car, coming, going -/
def shfN (n : Int → Int) (c l : Int) : Int := if standN n c < 0 then -100006 else if standN n c / 8 = l then -100007 else if ¬ freeP n c ∨ (n (31 + l) = 1 ∨ n (41 + l) = 12) then -100008 else if ¬ (n (99 + c) ≤ n (21 + l) ∧ n (107 + c) ≤ n (26 + l)) then -100004 else if leftN n l < n (91 + c) then -100005 else 0
theorem hind_shf (n : Int → Int) (c l : Int) : hindN n c l = if shfN n c l = 0 then (if keyP n c (n 2) (n 10) then 0 else -100002) else shfN n c l := by
  unfold hindN shfN
  by_cases h1 : standN n c < 0
  · simp only [if_pos h1]; rw [if_neg (by decide)]
  · simp only [if_neg h1]
    by_cases h2 : standN n c / 8 = l
    · simp only [if_pos h2]; rw [if_neg (by decide)]
    · simp only [if_neg h2]
      by_cases h3 : ¬ freeP n c ∨ (n (31 + l) = 1 ∨ n (41 + l) = 12)
      · simp only [if_pos h3]; rw [if_neg (by decide)]
      · simp only [if_neg h3]
        by_cases h4 : ¬ (n (99 + c) ≤ n (21 + l) ∧ n (107 + c) ≤ n (26 + l))
        · simp only [if_pos h4]; rw [if_neg (by decide)]
        · simp only [if_neg h4]
          by_cases h5 : leftN n l < n (91 + c)
          · simp only [if_pos h5]; rw [if_neg (by decide)]
          · simp only [if_neg h5, if_true]
theorem last_iff {n : Int → Int} (hN : NI n) {c : Int} (h : 0 ≤ standN n c) : n (51 + 8 * (standN n c / 8) + (n (46 + standN n c / 8) - 1)) = c ↔ aheadN n (standN n c) = 0 := by
  have b0 := hN.b0
  rcases stand_lo n c hN.b0 hN.oM with q | ⟨q1, q2, q3, q4, q5⟩
  · omega
  · have m := hN.oM (standN n c / 8) (by omega) (by omega)
    unfold aheadN
    constructor
    · intro q
      have := NI.st hN.g1 (standN n c / 8) (n (46 + standN n c / 8) - 1) c (by omega) (by omega) (by omega) (by omega) q
      omega
    · intro q
      rw [show 51 + 8 * (standN n c / 8) + (n (46 + standN n c / 8) - 1) = 51 + standN n c by omega]
      exact q5
def tkG (g : Nat) (σ : ex_S) (c l m y : Int) : ex_S := ex_ar (ex_ar (ex_ar σ (g + 8) (ex_u (σ (g + 8)) l m)) (g + 11) (ex_u (σ (g + 11)) c (-1))) (g + 6) (ex_u (σ (g + 6)) l y)
def brG (g : Nat) (σ : ex_S) (c l p m y : Int) : ex_S := ex_ar (ex_ar (ex_ar (ex_ar σ (g + 9) (ex_u (σ (g + 9)) p c)) (g + 8) (ex_u (σ (g + 8)) l m)) (g + 11) (ex_u (σ (g + 11)) c l)) (g + 6) (ex_u (σ (g + 6)) l y)
theorem tkG_ne {g : Nat} {σ : ex_S} {c l m y : Int} {a : Nat} (h1 : a ≠ g + 6) (h2 : a ≠ g + 8) (h3 : a ≠ g + 11) : tkG g σ c l m y a = σ a := by
  unfold tkG
  rw [ex_ar_diff _ _ _ h1, ex_ar_diff _ _ _ h3, ex_ar_diff _ _ _ h2]
theorem tkG_6 {g : Nat} {σ : ex_S} {c l m y : Int} : tkG g σ c l m y (g + 6) = ex_u (σ (g + 6)) l y := by unfold tkG; rw [ex_ar_same]
theorem tkG_8 {g : Nat} {σ : ex_S} {c l m y : Int} : tkG g σ c l m y (g + 8) = ex_u (σ (g + 8)) l m := by unfold tkG; rw [ex_ar_diff _ _ _ (by omega), ex_ar_diff _ _ _ (by omega), ex_ar_same]
theorem tkG_11 {g : Nat} {σ : ex_S} {c l m y : Int} : tkG g σ c l m y (g + 11) = ex_u (σ (g + 11)) c (-1) := by unfold tkG; rw [ex_ar_diff _ _ _ (by omega), ex_ar_same]
theorem brG_ne {g : Nat} {σ : ex_S} {c l p m y : Int} {a : Nat} (h1 : a ≠ g + 6) (h2 : a ≠ g + 8) (h3 : a ≠ g + 11) (h4 : a ≠ g + 9) : brG g σ c l p m y a = σ a := by
  unfold brG
  rw [ex_ar_diff _ _ _ h1, ex_ar_diff _ _ _ h3, ex_ar_diff _ _ _ h2, ex_ar_diff _ _ _ h4]
theorem brG_6 {g : Nat} {σ : ex_S} {c l p m y : Int} : brG g σ c l p m y (g + 6) = ex_u (σ (g + 6)) l y := by unfold brG; rw [ex_ar_same]
theorem brG_8 {g : Nat} {σ : ex_S} {c l p m y : Int} : brG g σ c l p m y (g + 8) = ex_u (σ (g + 8)) l m := by unfold brG; rw [ex_ar_diff _ _ _ (by omega), ex_ar_diff _ _ _ (by omega), ex_ar_same]
theorem brG_9 {g : Nat} {σ : ex_S} {c l p m y : Int} : brG g σ c l p m y (g + 9) = ex_u (σ (g + 9)) p c := by unfold brG; rw [ex_ar_diff _ _ _ (by omega), ex_ar_diff _ _ _ (by omega), ex_ar_diff _ _ _ (by omega), ex_ar_same]
theorem brG_11 {g : Nat} {σ : ex_S} {c l p m y : Int} : brG g σ c l p m y (g + 11) = ex_u (σ (g + 11)) c l := by unfold brG; rw [ex_ar_diff _ _ _ (by omega), ex_ar_same]
theorem RG_take {g : Nat} {σ : ex_S} {n : Int → Int} (hR : RG g σ n) (hN : NI n) {c l : Int} (h1 : 0 ≤ c) (h2 : c < n 1) (hf : freeP n c) (hl : l = standN n c / 8) : RG g (tkG g σ c l (n (46 + l) - 1) (n (41 + l) + cyk (n (11 + l)))) (goesF n l) := by
  subst hl
  obtain ⟨f1, f2, f3, f4, f5, f6, f7, f8⟩ := free_lo hN hf
  have b0 := hN.b0
  have sg := (G1_goes hN.g1 (show 0 ≤ standN n c / 8 by omega) f2 f7 f4 f6).2
  generalize hl : standN n c / 8 = l at *
  have l0 : 0 ≤ l := by omega
  have e : ∀ k : Int, k ≠ 41 + l → k ≠ 46 + l → goesF n l k = n k := fun k p q => goesF_ne n l p q
  have e46 : goesF n l (46 + l) = n (46 + l) - 1 := by unfold goesF; rw [turnF_ne _ _ (by omega), ex_u_same]
  have e41 : goesF n l (41 + l) = n (41 + l) + cyk (n (11 + l)) := by
    unfold goesF turnF
    rw [ex_u_same, cyc_k, ex_u_diff _ _ (by omega), ex_u_diff _ _ (by omega)]
  refine RG.mk ?_ ?_ ?_ ?_ ?_ ?_ ?_ ?_ ?_ ?_ ?_ ?_ ?_ ?_
  · rw [tkG_ne (by omega) (by omega) (by omega), e _ (by omega) (by omega)]; exact hR.la
  · rw [tkG_ne (by omega) (by omega) (by omega), e _ (by omega) (by omega)]; exact hR.ca
  all_goals try rw [e 0 (by omega) (by omega)]
  all_goals try rw [e 1 (by omega) (by omega)]
  · intro x x1 x2; rw [tkG_ne (by omega) (by omega) (by omega), e _ (by omega) (by omega)]; exact hR.kd x x1 x2
  · intro x x1 x2; rw [tkG_ne (by omega) (by omega) (by omega), e _ (by omega) (by omega)]; exact hR.le x x1 x2
  · intro x x1 x2; rw [tkG_ne (by omega) (by omega) (by omega), e _ (by omega) (by omega)]; exact hR.ht x x1 x2
  · intro x x1 x2; rw [tkG_ne (by omega) (by omega) (by omega), e _ (by omega) (by omega), e _ (by omega) (by omega)]; exact hR.lo x x1 x2
  · intro x x1 x2; rw [tkG_ne (by omega) (by omega) (by omega)]; exact hR.ld x x1 x2
  · intro x x1 x2; rw [tkG_ne (by omega) (by omega) (by omega), e _ (by omega) (by omega)]; exact hR.mi x x1 x2
  · intro x x1 x2
    rw [tkG_6]
    by_cases z : x = l
    · subst z; rw [ex_u_same, e41]
    · rw [ex_u_diff _ _ z, e _ (by omega) (by omega)]; exact hR.cy x x1 x2
  · intro x x1 x2; rw [tkG_ne (by omega) (by omega) (by omega), e _ (by omega) (by omega)]; exact hR.bk x x1 x2
  · intro x x1 x2
    rw [tkG_8]
    by_cases z : x = l
    · subst z; rw [ex_u_same, e46]
    · rw [ex_u_diff _ _ z, e _ (by omega) (by omega)]; exact hR.st x x1 x2
  · intro x i x1 x2 i1 i2
    have i3 : i < n (46 + x) := by
      by_cases z : x = l
      · subst z; rw [e46] at i2; omega
      · rw [e _ (by omega) (by omega)] at i2; exact i2
    have := hN.oM x x1 (by omega)
    rw [tkG_ne (by omega) (by omega) (by omega), e _ (by omega) (by omega)]; exact hR.pl x i x1 x2 i1 i3
  · intro x f x1 x2 i1 i2
    rw [tkG_ne (by omega) (by omega) (by omega), e _ (by omega) (by omega)]; exact hR.fa x f x1 x2 i1 i2
  · intro x x1 x2
    rw [tkG_11, sg]
    by_cases z : x = c
    · subst z; rw [ex_u_same, if_pos rfl, if_pos (by omega)]
    · rw [ex_u_diff _ _ z, if_neg z]; exact hR.wh x x1 x2
theorem RG_bring {g : Nat} {σ : ex_S} {n : Int → Int} (hR : RG g σ n) (hN : NI n) {c l : Int} (h1 : 0 ≤ c) (h2 : c < n 1) (l0 : 0 ≤ l) (l1 : l < n 0) (hs : standN n c < 0) (hc : n (41 + l) ≠ 12) (h8 : n (46 + l) < 8) : RG g (brG g σ c l (l * 8 + n (46 + l)) (n (46 + l) + 1) (n (41 + l) + cyk (n (11 + l)))) (comesF n c l) := by
  have b0 := hN.b0
  have sg := (G1_comes hN.g1 h1 h2 l0 l1 hs hc h8).2
  have ml := hN.oM l l0 (by omega)
  have e : ∀ k : Int, k ≠ 41 + l → k ≠ 46 + l → k ≠ 51 + 8 * l + n (46 + l) → comesF n c l k = n k := fun k p q r => comesF_ne n c l p q r
  have e46 : comesF n c l (46 + l) = n (46 + l) + 1 := by unfold comesF; rw [turnF_ne _ _ (by omega), ex_u_same]
  have e51 : comesF n c l (51 + 8 * l + n (46 + l)) = c := by unfold comesF; rw [turnF_ne _ _ (by omega), ex_u_diff _ _ (by omega), ex_u_same]
  have e41 : comesF n c l (41 + l) = n (41 + l) + cyk (n (11 + l)) := by
    unfold comesF turnF
    rw [ex_u_same, cyc_k, ex_u_diff _ _ (by omega), ex_u_diff _ _ (by omega), ex_u_diff _ _ (by omega), ex_u_diff _ _ (by omega)]
  refine RG.mk ?_ ?_ ?_ ?_ ?_ ?_ ?_ ?_ ?_ ?_ ?_ ?_ ?_ ?_
  · rw [brG_ne (by omega) (by omega) (by omega) (by omega), e _ (by omega) (by omega) (by omega)]; exact hR.la
  · rw [brG_ne (by omega) (by omega) (by omega) (by omega), e _ (by omega) (by omega) (by omega)]; exact hR.ca
  all_goals try rw [e 0 (by omega) (by omega) (by omega)]
  all_goals try rw [e 1 (by omega) (by omega) (by omega)]
  · intro x x1 x2; rw [brG_ne (by omega) (by omega) (by omega) (by omega), e _ (by omega) (by omega) (by omega)]; exact hR.kd x x1 x2
  · intro x x1 x2; rw [brG_ne (by omega) (by omega) (by omega) (by omega), e _ (by omega) (by omega) (by omega)]; exact hR.le x x1 x2
  · intro x x1 x2; rw [brG_ne (by omega) (by omega) (by omega) (by omega), e _ (by omega) (by omega) (by omega)]; exact hR.ht x x1 x2
  · intro x x1 x2; rw [brG_ne (by omega) (by omega) (by omega) (by omega), e _ (by omega) (by omega) (by omega), e _ (by omega) (by omega) (by omega)]; exact hR.lo x x1 x2
  · intro x x1 x2; rw [brG_ne (by omega) (by omega) (by omega) (by omega)]; exact hR.ld x x1 x2
  · intro x x1 x2; rw [brG_ne (by omega) (by omega) (by omega) (by omega), e _ (by omega) (by omega) (by omega)]; exact hR.mi x x1 x2
  · intro x x1 x2
    rw [brG_6]
    by_cases z : x = l
    · subst z; rw [ex_u_same, e41]
    · rw [ex_u_diff _ _ z, e _ (by omega) (by omega) (by omega)]; exact hR.cy x x1 x2
  · intro x x1 x2; rw [brG_ne (by omega) (by omega) (by omega) (by omega), e _ (by omega) (by omega) (by omega)]; exact hR.bk x x1 x2
  · intro x x1 x2
    rw [brG_8]
    by_cases z : x = l
    · subst z; rw [ex_u_same, e46]
    · rw [ex_u_diff _ _ z, e _ (by omega) (by omega) (by omega)]; exact hR.st x x1 x2
  · intro x i x1 x2 i1 i2
    have mx := hN.oM x x1 (by omega)
    rw [brG_9]
    by_cases z : x = l
    · subst z
      rw [e46] at i2
      by_cases z2 : i = n (46 + x)
      · rw [z2, ex_u_same, e51]
      · rw [ex_u_diff _ _ (by omega), e _ (by omega) (by omega) (by omega)]; exact hR.pl x i x1 x2 i1 (by omega)
    · rw [e _ (by omega) (by omega) (by omega)] at i2
      rw [ex_u_diff _ _ (by omega), e _ (by omega) (by omega) (by omega)]; exact hR.pl x i x1 x2 i1 i2
  · intro x f x1 x2 i1 i2
    rw [brG_ne (by omega) (by omega) (by omega) (by omega), e _ (by omega) (by omega) (by omega)]; exact hR.fa x f x1 x2 i1 i2
  · intro x x1 x2
    rw [brG_11, sg]
    by_cases z : x = c
    · subst z; rw [ex_u_same, if_pos rfl, if_neg (by omega)]; omega
    · rw [ex_u_diff _ _ z, if_neg z]; exact hR.wh x x1 x2
theorem sp_26_6 {d : Nat} (hd : 1 < d) {L : Nat} {σ : ex_S} {n : Int → Int} {c : Int} (hR : RG6 σ n) (hN : NI n) (h1 : 0 ≤ c) (h2 : c < n 1) : ex_cd d 26 [vR 6, vI c] (SH L, σ) = some ([vI (b2i (freeP n c))], (SH L, σ)) := by
  rw [ex_cd_eq (by omega)]
  show ex_ev (d - 1) 26 0 [vR 6, vI c, vL 0] [] (SH L, σ) = _
  have b0 := hN.b0
  have b1 := hN.b1
  have w := hR.wh c h1 h2
  rcases stand_lo n c hN.b0 hN.oM with h | ⟨q1, q2, q3, q4, q5⟩
  · rw [if_pos (by omega)] at w
    rw [b2i_f (fun q => by have := q.1; omega)]
    (repeat' first | simp (disch := first | assumption | omega | ((repeat' first | exact ok_nil | apply ok_I | apply ok_R); done) | (simp (disch := first | omega | decide) only [ex_ar_same, ex_ar_diff, kM_diff, ex_u_same, ex_u_diff]; first | assumption | omega)) only [ev_26_0, ev_26_1, ev_26_2, ev_26_3, ev_26_4, gf_35_12, gf_35_9, gf_6_12, gf_6_9, ld_14, ld_17, ld_43, ld_46, w, x_fall, x_goto, x_push, x_ret2, x_ret2b, xc_23_35, xc_23_6, xc_25_35, xc_25_6, xl_a0, xl_i1, xl_i2, xt_i2, y_cmp_eq_f, y_cmp_eq_t, y_cmp_ne_f, y_cmp_ne_t, y_if_gt_f, y_if_gt_t, y_if_ne_f, y_if_ne_t, y_isub, i_wr_id, kM_diff, Int.reduceToNat, ex_ar_same, ex_ar_ar, ex_ar_diff, ex_u_same, ex_u_diff, b2i_t, b2i_f, ex_div_nn, ex_rem_nn, Int.toNat_zero, Int.toNat_one, Int.reduceAdd, Int.reduceSub, Int.reduceMul, Int.reduceNeg] | refine bb_eq (fun _ => ?_) (fun _ => ?_) | refine bb_ne (fun _ => ?_) (fun _ => ?_) | refine bc_eq (fun _ => ?_) (fun _ => ?_) | refine bc_ne (fun _ => ?_) (fun _ => ?_) | refine bc_lt (fun _ => ?_) (fun _ => ?_) | refine bc_ge (fun _ => ?_) (fun _ => ?_) | refine bc_gt (fun _ => ?_) (fun _ => ?_) | refine bc_le (fun _ => ?_) (fun _ => ?_) | refine bi_eq (fun _ => ?_) (fun _ => ?_) | refine bi_ne (fun _ => ?_) (fun _ => ?_) | refine bi_lt (fun _ => ?_) (fun _ => ?_) | refine bi_ge (fun _ => ?_) (fun _ => ?_) | refine bi_gt (fun _ => ?_) (fun _ => ?_) | refine bi_le (fun _ => ?_) (fun _ => ?_))
  · rw [if_neg (by omega)] at w
    have m := hN.oM (standN n c / 8) (by omega) (by omega)
    have s := hR.st (standN n c / 8) (by omega) q3
    have e := last_iff hN q1
    unfold freeP
    (repeat' first | simp (disch := first | assumption | omega | ((repeat' first | exact ok_nil | apply ok_I | apply ok_R); done) | (simp (disch := first | omega | decide) only [ex_ar_same, ex_ar_diff, kM_diff, ex_u_same, ex_u_diff]; first | assumption | omega)) only [ev_26_0, ev_26_1, ev_26_2, ev_26_3, ev_26_4, gf_35_12, gf_35_9, gf_6_12, gf_6_9, ld_14, ld_17, ld_43, ld_46, s, w, x_fall, x_goto, x_push, x_ret2, x_ret2b, xc_23_35, xc_23_6, xc_25_35, xc_25_6, xl_a0, xl_i1, xl_i2, xt_i2, y_cmp_eq_f, y_cmp_eq_t, y_cmp_ne_f, y_cmp_ne_t, y_if_gt_f, y_if_gt_t, y_if_ne_f, y_if_ne_t, y_isub, i_wr_id, kM_diff, Int.reduceToNat, ex_ar_same, ex_ar_ar, ex_ar_diff, ex_u_same, ex_u_diff, b2i_t, b2i_f, ex_div_nn, ex_rem_nn, Int.toNat_zero, Int.toNat_one, Int.reduceAdd, Int.reduceSub, Int.reduceMul, Int.reduceNeg] | refine bb_eq (fun _ => ?_) (fun _ => ?_) | refine bb_ne (fun _ => ?_) (fun _ => ?_) | refine bc_eq (fun _ => ?_) (fun _ => ?_) | refine bc_ne (fun _ => ?_) (fun _ => ?_) | refine bc_lt (fun _ => ?_) (fun _ => ?_) | refine bc_ge (fun _ => ?_) (fun _ => ?_) | refine bc_gt (fun _ => ?_) (fun _ => ?_) | refine bc_le (fun _ => ?_) (fun _ => ?_) | refine bi_eq (fun _ => ?_) (fun _ => ?_) | refine bi_ne (fun _ => ?_) (fun _ => ?_) | refine bi_lt (fun _ => ?_) (fun _ => ?_) | refine bi_ge (fun _ => ?_) (fun _ => ?_) | refine bi_gt (fun _ => ?_) (fun _ => ?_) | refine bi_le (fun _ => ?_) (fun _ => ?_))
    all_goals first | rw [b2i_t ⟨q1, by omega, by assumption⟩] | rw [b2i_f (fun q => by have := q.2.1; omega)] | rw [b2i_f (fun q => q.2.2 (by assumption))]
theorem xc_26_6 {rt d : Nat} {J : Nat → List ex_V → List ex_V → ex_H → Option ex_R} {is : List Instr} {ls st : List ex_V} {L : Nat} {σ : ex_S} {n : Int → Int} {c : Int} (hR : RG6 σ n) (hN : NI n) (h1 : 0 ≤ c) (h2 : c < n 1) (hd : 1 < d) (hok : okN 8 st = true) : ex_xs rt J (ex_cd d) (.invokevirtual 26 :: is) ls (vI c :: vR 6 :: st) (SH L, σ) = ex_xs rt J (ex_cd d) is ls (vI (b2i (freeP n c)) :: st) (SH L, σ) := x_call1 (Or.inl rfl) rfl (sh_6 _) (Or.inl ⟨rfl, rfl⟩) (as := [vI c]) rfl rfl (okN_ok hok) rfl (sp_26_6 hd hR hN h1 h2)
theorem sp_27_6 {d : Nat} (hd : 2 < d) {L : Nat} {σ : ex_S} {n : Int → Int} {c l : Int} (hR : RG6 σ n) (hN : NI n) (h1 : 0 ≤ c) (h2 : c < n 1) (h3 : 0 ≤ l) (h4 : l < n 0) : ex_cd d 27 [vR 6, vI c, vI l] (SH L, σ) = some ([vI (parkN n c l)], (SH L, σ)) := by
  rw [ex_cd_eq (by omega)]
  show ex_ev (d - 1) 27 0 [vR 6, vI c, vI l] [] (SH L, σ) = _
  have b0 := hN.b0
  have b1 := hN.b1
  have w := hR.wh c h1 h2
  unfold parkN
  rcases stand_lo n c hN.b0 hN.oM with h | ⟨q1, q2, q3, q4, q5⟩
  · rw [if_pos (by omega)] at w
    (repeat' first | simp (disch := first | assumption | omega | ((repeat' first | exact ok_nil | apply ok_I | apply ok_R); done) | (simp (disch := first | omega | decide) only [ex_ar_same, ex_ar_diff, kM_diff, ex_u_same, ex_u_diff]; first | assumption | omega)) only [ev_27_0, ev_27_1, ev_27_2, ev_27_3, ev_27_4, ev_27_5, gf_35_12, gf_6_12, ld_17, ld_46, w, x_fall, x_goto, x_push, x_ret1, xc_17_35, xc_17_6, xc_22_35, xc_22_6, xc_24_35, xc_24_6, xc_25_35, xc_25_6, xl_a0, xl_i1, xl_i2, y_cmp_eq_f, y_cmp_eq_t, y_cmp_le_f, y_cmp_le_t, y_if_eq_f, y_if_eq_t, y_if_ne_f, y_if_ne_t, i_wr_id, kM_diff, Int.reduceToNat, ex_ar_same, ex_ar_ar, ex_ar_diff, ex_u_same, ex_u_diff, b2i_t, b2i_f, ex_div_nn, ex_rem_nn, Int.toNat_zero, Int.toNat_one, Int.reduceAdd, Int.reduceSub, Int.reduceMul, Int.reduceNeg] | refine bb_eq (fun _ => ?_) (fun _ => ?_) | refine bb_ne (fun _ => ?_) (fun _ => ?_) | refine bc_eq (fun _ => ?_) (fun _ => ?_) | refine bc_ne (fun _ => ?_) (fun _ => ?_) | refine bc_lt (fun _ => ?_) (fun _ => ?_) | refine bc_ge (fun _ => ?_) (fun _ => ?_) | refine bc_gt (fun _ => ?_) (fun _ => ?_) | refine bc_le (fun _ => ?_) (fun _ => ?_) | refine bi_eq (fun _ => ?_) (fun _ => ?_) | refine bi_ne (fun _ => ?_) (fun _ => ?_) | refine bi_lt (fun _ => ?_) (fun _ => ?_) | refine bi_ge (fun _ => ?_) (fun _ => ?_) | refine bi_gt (fun _ => ?_) (fun _ => ?_) | refine bi_le (fun _ => ?_) (fun _ => ?_))
    all_goals (try simp (disch := first | assumption | omega) only [if_pos, if_neg])
  · rw [if_neg (by omega)] at w
    (repeat' first | simp (disch := first | assumption | omega | ((repeat' first | exact ok_nil | apply ok_I | apply ok_R); done) | (simp (disch := first | omega | decide) only [ex_ar_same, ex_ar_diff, kM_diff, ex_u_same, ex_u_diff]; first | assumption | omega)) only [ev_27_0, ev_27_1, ev_27_2, ev_27_3, ev_27_4, ev_27_5, gf_35_12, gf_6_12, ld_17, ld_46, w, x_fall, x_goto, x_push, x_ret1, xc_17_35, xc_17_6, xc_22_35, xc_22_6, xc_24_35, xc_24_6, xc_25_35, xc_25_6, xl_a0, xl_i1, xl_i2, y_cmp_eq_f, y_cmp_eq_t, y_cmp_le_f, y_cmp_le_t, y_if_eq_f, y_if_eq_t, y_if_ne_f, y_if_ne_t, i_wr_id, kM_diff, Int.reduceToNat, ex_ar_same, ex_ar_ar, ex_ar_diff, ex_u_same, ex_u_diff, b2i_t, b2i_f, ex_div_nn, ex_rem_nn, Int.toNat_zero, Int.toNat_one, Int.reduceAdd, Int.reduceSub, Int.reduceMul, Int.reduceNeg] | refine bb_eq (fun _ => ?_) (fun _ => ?_) | refine bb_ne (fun _ => ?_) (fun _ => ?_) | refine bc_eq (fun _ => ?_) (fun _ => ?_) | refine bc_ne (fun _ => ?_) (fun _ => ?_) | refine bc_lt (fun _ => ?_) (fun _ => ?_) | refine bc_ge (fun _ => ?_) (fun _ => ?_) | refine bc_gt (fun _ => ?_) (fun _ => ?_) | refine bc_le (fun _ => ?_) (fun _ => ?_) | refine bi_eq (fun _ => ?_) (fun _ => ?_) | refine bi_ne (fun _ => ?_) (fun _ => ?_) | refine bi_lt (fun _ => ?_) (fun _ => ?_) | refine bi_ge (fun _ => ?_) (fun _ => ?_) | refine bi_gt (fun _ => ?_) (fun _ => ?_) | refine bi_le (fun _ => ?_) (fun _ => ?_))
    all_goals (try simp (disch := first | assumption | omega) only [if_pos, if_neg])
theorem xc_27_6 {rt d : Nat} {J : Nat → List ex_V → List ex_V → ex_H → Option ex_R} {is : List Instr} {ls st : List ex_V} {L : Nat} {σ : ex_S} {n : Int → Int} {c l : Int} (hR : RG6 σ n) (hN : NI n) (h1 : 0 ≤ c) (h2 : c < n 1) (h3 : 0 ≤ l) (h4 : l < n 0) (hd : 2 < d) (hok : okN 8 st = true) : ex_xs rt J (ex_cd d) (.invokevirtual 27 :: is) ls (vI l :: vI c :: vR 6 :: st) (SH L, σ) = ex_xs rt J (ex_cd d) is ls (vI (parkN n c l) :: st) (SH L, σ) := x_call1 (Or.inl rfl) rfl (sh_6 _) (Or.inl ⟨rfl, rfl⟩) (as := [vI c, vI l]) rfl rfl (okN_ok hok) rfl (sp_27_6 hd hR hN h1 h2 h3 h4)
theorem sp_28_6 {d : Nat} (hd : 2 < d) {L : Nat} {σ : ex_S} {n : Int → Int} {c l : Int} (hR : RG6 σ n) (hN : NI n) (h1 : 0 ≤ c) (h2 : c < n 1) (h3 : 0 ≤ l) (h4 : l < n 0) : ex_cd d 28 [vR 6, vI c, vI l] (SH L, σ) = some ([vI (shfN n c l)], (SH L, σ)) := by
  rw [ex_cd_eq (by omega)]
  show ex_ev (d - 1) 28 0 [vR 6, vI c, vI l] [] (SH L, σ) = _
  have b0 := hN.b0
  have b1 := hN.b1
  have w := hR.wh c h1 h2
  unfold shfN
  rcases stand_lo n c hN.b0 hN.oM with h | ⟨q1, q2, q3, q4, q5⟩
  · rw [if_pos (by omega)] at w
    (repeat' first | simp (disch := first | assumption | omega | ((repeat' first | exact ok_nil | apply ok_I | apply ok_R); done) | (simp (disch := first | omega | decide) only [ex_ar_same, ex_ar_diff, kM_diff, ex_u_same, ex_u_diff]; first | assumption | omega)) only [ev_28_0, ev_28_1, ev_28_2, ev_28_3, ev_28_4, ev_28_5, ev_28_6, ev_28_7, gf_35_12, gf_6_12, ld_17, ld_46, w, x_fall, x_goto, x_push, x_ret1, xc_17_35, xc_17_6, xc_22_35, xc_22_6, xc_24_35, xc_24_6, xc_25_35, xc_25_6, xc_26_6, xl_a0, xl_i1, xl_i2, y_cmp_le_f, y_cmp_le_t, y_cmp_ne_f, y_cmp_ne_t, y_if_eq_f, y_if_eq_t, y_if_ne_f, y_if_ne_t, i_wr_id, kM_diff, Int.reduceToNat, ex_ar_same, ex_ar_ar, ex_ar_diff, ex_u_same, ex_u_diff, b2i_t, b2i_f, ex_div_nn, ex_rem_nn, Int.toNat_zero, Int.toNat_one, Int.reduceAdd, Int.reduceSub, Int.reduceMul, Int.reduceNeg] | refine bb_eq (fun _ => ?_) (fun _ => ?_) | refine bb_ne (fun _ => ?_) (fun _ => ?_) | refine bc_eq (fun _ => ?_) (fun _ => ?_) | refine bc_ne (fun _ => ?_) (fun _ => ?_) | refine bc_lt (fun _ => ?_) (fun _ => ?_) | refine bc_ge (fun _ => ?_) (fun _ => ?_) | refine bc_gt (fun _ => ?_) (fun _ => ?_) | refine bc_le (fun _ => ?_) (fun _ => ?_) | refine bi_eq (fun _ => ?_) (fun _ => ?_) | refine bi_ne (fun _ => ?_) (fun _ => ?_) | refine bi_lt (fun _ => ?_) (fun _ => ?_) | refine bi_ge (fun _ => ?_) (fun _ => ?_) | refine bi_gt (fun _ => ?_) (fun _ => ?_) | refine bi_le (fun _ => ?_) (fun _ => ?_))
    all_goals (try simp (disch := first | assumption | omega) only [if_pos, if_neg])
  · rw [if_neg (by omega)] at w
    (repeat' first | simp (disch := first | assumption | omega | ((repeat' first | exact ok_nil | apply ok_I | apply ok_R); done) | (simp (disch := first | omega | decide) only [ex_ar_same, ex_ar_diff, kM_diff, ex_u_same, ex_u_diff]; first | assumption | omega)) only [ev_28_0, ev_28_1, ev_28_2, ev_28_3, ev_28_4, ev_28_5, ev_28_6, ev_28_7, gf_35_12, gf_6_12, ld_17, ld_46, w, x_fall, x_goto, x_push, x_ret1, xc_17_35, xc_17_6, xc_22_35, xc_22_6, xc_24_35, xc_24_6, xc_25_35, xc_25_6, xc_26_6, xl_a0, xl_i1, xl_i2, y_cmp_le_f, y_cmp_le_t, y_cmp_ne_f, y_cmp_ne_t, y_if_eq_f, y_if_eq_t, y_if_ne_f, y_if_ne_t, i_wr_id, kM_diff, Int.reduceToNat, ex_ar_same, ex_ar_ar, ex_ar_diff, ex_u_same, ex_u_diff, b2i_t, b2i_f, ex_div_nn, ex_rem_nn, Int.toNat_zero, Int.toNat_one, Int.reduceAdd, Int.reduceSub, Int.reduceMul, Int.reduceNeg] | refine bb_eq (fun _ => ?_) (fun _ => ?_) | refine bb_ne (fun _ => ?_) (fun _ => ?_) | refine bc_eq (fun _ => ?_) (fun _ => ?_) | refine bc_ne (fun _ => ?_) (fun _ => ?_) | refine bc_lt (fun _ => ?_) (fun _ => ?_) | refine bc_ge (fun _ => ?_) (fun _ => ?_) | refine bc_gt (fun _ => ?_) (fun _ => ?_) | refine bc_le (fun _ => ?_) (fun _ => ?_) | refine bi_eq (fun _ => ?_) (fun _ => ?_) | refine bi_ne (fun _ => ?_) (fun _ => ?_) | refine bi_lt (fun _ => ?_) (fun _ => ?_) | refine bi_ge (fun _ => ?_) (fun _ => ?_) | refine bi_gt (fun _ => ?_) (fun _ => ?_) | refine bi_le (fun _ => ?_) (fun _ => ?_))
    all_goals (try simp (disch := first | assumption | omega) only [if_pos, if_neg])
theorem xc_28_6 {rt d : Nat} {J : Nat → List ex_V → List ex_V → ex_H → Option ex_R} {is : List Instr} {ls st : List ex_V} {L : Nat} {σ : ex_S} {n : Int → Int} {c l : Int} (hR : RG6 σ n) (hN : NI n) (h1 : 0 ≤ c) (h2 : c < n 1) (h3 : 0 ≤ l) (h4 : l < n 0) (hd : 2 < d) (hok : okN 8 st = true) : ex_xs rt J (ex_cd d) (.invokevirtual 28 :: is) ls (vI l :: vI c :: vR 6 :: st) (SH L, σ) = ex_xs rt J (ex_cd d) is ls (vI (shfN n c l) :: st) (SH L, σ) := x_call1 (Or.inl rfl) rfl (sh_6 _) (Or.inl ⟨rfl, rfl⟩) (as := [vI c, vI l]) rfl rfl (okN_ok hok) rfl (sp_28_6 hd hR hN h1 h2 h3 h4)
theorem sp_30_6 {d : Nat} (hd : 1 < d) {L : Nat} {σ : ex_S} {c l m y k : Int} (hw : σ 17 c = l) (hm : σ 14 l = m) (hy : σ 12 l = y) (hk : σ 7 l = k) (c1 : 0 ≤ c) (c2 : c < 8) (l1 : 0 ≤ l) (l2 : l < 5) (m1 : 0 ≤ m) (m2 : m ≤ 8) (y1 : 0 ≤ y) (y2 : y ≤ 20) : ex_cd d 30 [vR 6, vI c] (SH L, σ) = some ([], (SH L, tkG 6 σ c l (m - 1) (y + cyk k))) := by
  rw [ex_cd_eq (by omega)]
  show ex_ev (d - 1) 30 0 [vR 6, vI c, vL 0] [] (SH L, σ) = _
  have := cyk_01 k
  simp only [tkG, Nat.reduceAdd]
  (repeat' first | simp (disch := first | assumption | omega | ((repeat' first | exact ok_nil | apply ok_I | apply ok_R); done) | (simp (disch := first | omega | decide) only [ex_ar_same, ex_ar_diff, kM_diff, ex_u_same, ex_u_diff]; first | assumption | omega)) only [ev_30_0, gf_35_12, gf_35_7, gf_35_9, gf_6_12, gf_6_7, gf_6_9, hm, hw, hy, ld_12, ld_14, ld_17, ld_41, ld_43, ld_46, sd_12, sd_14, sd_17, sd_41, sd_43, sd_46, x_dup2, x_push, x_ret0, xc_20_35, xc_20_6, xl_a0, xl_i1, xl_i2, xt_i2, y_iadd, y_isub, i_wr_id, kM_diff, Int.reduceToNat, ex_ar_same, ex_ar_ar, ex_ar_diff, ex_u_same, ex_u_diff, b2i_t, b2i_f, ex_div_nn, ex_rem_nn, Int.toNat_zero, Int.toNat_one, Int.reduceAdd, Int.reduceSub, Int.reduceMul, Int.reduceNeg] | refine bb_eq (fun _ => ?_) (fun _ => ?_) | refine bb_ne (fun _ => ?_) (fun _ => ?_) | refine bc_eq (fun _ => ?_) (fun _ => ?_) | refine bc_ne (fun _ => ?_) (fun _ => ?_) | refine bc_lt (fun _ => ?_) (fun _ => ?_) | refine bc_ge (fun _ => ?_) (fun _ => ?_) | refine bc_gt (fun _ => ?_) (fun _ => ?_) | refine bc_le (fun _ => ?_) (fun _ => ?_) | refine bi_eq (fun _ => ?_) (fun _ => ?_) | refine bi_ne (fun _ => ?_) (fun _ => ?_) | refine bi_lt (fun _ => ?_) (fun _ => ?_) | refine bi_ge (fun _ => ?_) (fun _ => ?_) | refine bi_gt (fun _ => ?_) (fun _ => ?_) | refine bi_le (fun _ => ?_) (fun _ => ?_))
theorem xc_30_6 {rt d : Nat} {J : Nat → List ex_V → List ex_V → ex_H → Option ex_R} {is : List Instr} {ls st : List ex_V} {L : Nat} {σ : ex_S} {c l m y k : Int} (hw : σ 17 c = l) (hm : σ 14 l = m) (hy : σ 12 l = y) (hk : σ 7 l = k) (c1 : 0 ≤ c) (c2 : c < 8) (l1 : 0 ≤ l) (l2 : l < 5) (m1 : 0 ≤ m) (m2 : m ≤ 8) (y1 : 0 ≤ y) (y2 : y ≤ 20) (hd : 1 < d) (hok : okN 8 st = true) : ex_xs rt J (ex_cd d) (.invokevirtual 30 :: is) ls (vI c :: vR 6 :: st) (SH L, σ) = ex_xs rt J (ex_cd d) is ls (st) (SH L, tkG 6 σ c l (m - 1) (y + cyk k)) := x_call1 (Or.inl rfl) rfl (sh_6 _) (Or.inl ⟨rfl, rfl⟩) (as := [vI c]) rfl rfl (okN_ok hok) rfl (sp_30_6 hd hw hm hy hk c1 c2 l1 l2 m1 m2 y1 y2)
theorem sp_29_6 {d : Nat} (hd : 1 < d) {L : Nat} {σ : ex_S} {c l m y k : Int} (hm : σ 14 l = m) (hy : σ 12 l = y) (hk : σ 7 l = k) (c1 : 0 ≤ c) (c2 : c < 8) (l1 : 0 ≤ l) (l2 : l < 5) (m1 : 0 ≤ m) (m2 : m < 8) (y1 : 0 ≤ y) (y2 : y ≤ 20) : ex_cd d 29 [vR 6, vI c, vI l] (SH L, σ) = some ([], (SH L, brG 6 σ c l (l * 8 + m) (m + 1) (y + cyk k))) := by
  rw [ex_cd_eq (by omega)]
  show ex_ev (d - 1) 29 0 [vR 6, vI c, vI l] [] (SH L, σ) = _
  have := cyk_01 k
  simp only [brG, Nat.reduceAdd]
  (repeat' first | simp (disch := first | assumption | omega | ((repeat' first | exact ok_nil | apply ok_I | apply ok_R); done) | (simp (disch := first | omega | decide) only [ex_ar_same, ex_ar_diff, kM_diff, ex_u_same, ex_u_diff]; first | assumption | omega)) only [ev_29_0, ev_29_1, gf_35_10, gf_35_12, gf_35_7, gf_35_9, gf_6_10, gf_6_12, gf_6_7, gf_6_9, hm, hy, ld_12, ld_14, ld_15, ld_17, ld_41, ld_43, ld_44, ld_46, sd_12, sd_14, sd_15, sd_17, sd_41, sd_43, sd_44, sd_46, x_dup2, x_imul, x_push, x_ret0, xc_20_35, xc_20_6, xl_a0, xl_i1, xl_i2, y_cmp_lt_f, y_cmp_lt_t, y_iadd, i_wr_id, kM_diff, Int.reduceToNat, ex_ar_same, ex_ar_ar, ex_ar_diff, ex_u_same, ex_u_diff, b2i_t, b2i_f, ex_div_nn, ex_rem_nn, Int.toNat_zero, Int.toNat_one, Int.reduceAdd, Int.reduceSub, Int.reduceMul, Int.reduceNeg] | refine bb_eq (fun _ => ?_) (fun _ => ?_) | refine bb_ne (fun _ => ?_) (fun _ => ?_) | refine bc_eq (fun _ => ?_) (fun _ => ?_) | refine bc_ne (fun _ => ?_) (fun _ => ?_) | refine bc_lt (fun _ => ?_) (fun _ => ?_) | refine bc_ge (fun _ => ?_) (fun _ => ?_) | refine bc_gt (fun _ => ?_) (fun _ => ?_) | refine bc_le (fun _ => ?_) (fun _ => ?_) | refine bi_eq (fun _ => ?_) (fun _ => ?_) | refine bi_ne (fun _ => ?_) (fun _ => ?_) | refine bi_lt (fun _ => ?_) (fun _ => ?_) | refine bi_ge (fun _ => ?_) (fun _ => ?_) | refine bi_gt (fun _ => ?_) (fun _ => ?_) | refine bi_le (fun _ => ?_) (fun _ => ?_))
theorem xc_29_6 {rt d : Nat} {J : Nat → List ex_V → List ex_V → ex_H → Option ex_R} {is : List Instr} {ls st : List ex_V} {L : Nat} {σ : ex_S} {c l m y k : Int} (hm : σ 14 l = m) (hy : σ 12 l = y) (hk : σ 7 l = k) (c1 : 0 ≤ c) (c2 : c < 8) (l1 : 0 ≤ l) (l2 : l < 5) (m1 : 0 ≤ m) (m2 : m < 8) (y1 : 0 ≤ y) (y2 : y ≤ 20) (hd : 1 < d) (hok : okN 8 st = true) : ex_xs rt J (ex_cd d) (.invokevirtual 29 :: is) ls (vI l :: vI c :: vR 6 :: st) (SH L, σ) = ex_xs rt J (ex_cd d) is ls (st) (SH L, brG 6 σ c l (l * 8 + m) (m + 1) (y + cyk k)) := x_call1 (Or.inl rfl) rfl (sh_6 _) (Or.inl ⟨rfl, rfl⟩) (as := [vI c, vI l]) rfl rfl (okN_ok hok) rfl (sp_29_6 hd hm hy hk c1 c2 l1 l2 m1 m2 y1 y2)
theorem sp_31_6 {d : Nat} (hd : 2 < d) {L : Nat} {σ : ex_S} {c l m y k z m' y' k' : Int} (hw : σ 17 c = z) (hm' : σ 14 z = m') (hy' : σ 12 z = y') (hk' : σ 7 z = k') (hm : σ 14 l = m) (hy : σ 12 l = y) (hk : σ 7 l = k) (c1 : 0 ≤ c) (c2 : c < 8) (z1 : 0 ≤ z) (z2 : z < 5) (m1' : 0 ≤ m') (m2' : m' ≤ 8) (y1' : 0 ≤ y') (y2' : y' ≤ 20) (l1 : 0 ≤ l) (l2 : l < 5) (m1 : 0 ≤ m) (m2 : m < 8) (y1 : 0 ≤ y) (y2 : y ≤ 20) (hz : l ≠ z) : ex_cd d 31 [vR 6, vI c, vI l] (SH L, σ) = some ([], (SH L, brG 6 (tkG 6 σ c z (m' - 1) (y' + cyk k')) c l (l * 8 + m) (m + 1) (y + cyk k))) := by
  rw [ex_cd_eq (by omega)]
  show ex_ev (d - 1) 31 0 [vR 6, vI c, vI l] [] (SH L, σ) = _
  have a1 : tkG 6 σ c z (m' - 1) (y' + cyk k') 14 l = m := by have := tkG_8 (g := 6) (σ := σ) (c := c) (l := z) (m := m' - 1) (y := y' + cyk k'); simp only [Nat.reduceAdd] at this; rw [this, ex_u_diff _ _ hz]; exact hm
  have a2 : tkG 6 σ c z (m' - 1) (y' + cyk k') 12 l = y := by have := tkG_6 (g := 6) (σ := σ) (c := c) (l := z) (m := m' - 1) (y := y' + cyk k'); simp only [Nat.reduceAdd] at this; rw [this, ex_u_diff _ _ hz]; exact hy
  have a3 : tkG 6 σ c z (m' - 1) (y' + cyk k') 7 l = k := by rw [tkG_ne (by decide) (by decide) (by decide)]; exact hk
  simp (disch := first | assumption | omega | ((repeat' first | exact ok_nil | apply ok_I | apply ok_R); done) | (simp (disch := first | omega | decide) only [ex_ar_same, ex_ar_diff, kM_diff, ex_u_same, ex_u_diff]; first | assumption | omega)) only [ev_31_0, x_ret0, xc_29_6, xc_30_6, xl_a0, xl_i1, xl_i2, i_wr_id, kM_diff, Int.reduceToNat, ex_ar_same, ex_ar_ar, ex_ar_diff, ex_u_same, ex_u_diff, b2i_t, b2i_f, ex_div_nn, ex_rem_nn, Int.toNat_zero, Int.toNat_one, Int.reduceAdd, Int.reduceSub, Int.reduceMul, Int.reduceNeg]
theorem xc_31_6 {rt d : Nat} {J : Nat → List ex_V → List ex_V → ex_H → Option ex_R} {is : List Instr} {ls st : List ex_V} {L : Nat} {σ : ex_S} {c l m y k z m' y' k' : Int} (hw : σ 17 c = z) (hm' : σ 14 z = m') (hy' : σ 12 z = y') (hk' : σ 7 z = k') (hm : σ 14 l = m) (hy : σ 12 l = y) (hk : σ 7 l = k) (c1 : 0 ≤ c) (c2 : c < 8) (z1 : 0 ≤ z) (z2 : z < 5) (m1' : 0 ≤ m') (m2' : m' ≤ 8) (y1' : 0 ≤ y') (y2' : y' ≤ 20) (l1 : 0 ≤ l) (l2 : l < 5) (m1 : 0 ≤ m) (m2 : m < 8) (y1 : 0 ≤ y) (y2 : y ≤ 20) (hz : l ≠ z) (hd : 2 < d) (hok : okN 8 st = true) : ex_xs rt J (ex_cd d) (.invokevirtual 31 :: is) ls (vI l :: vI c :: vR 6 :: st) (SH L, σ) = ex_xs rt J (ex_cd d) is ls (st) (SH L, brG 6 (tkG 6 σ c z (m' - 1) (y' + cyk k')) c l (l * 8 + m) (m + 1) (y + cyk k)) := x_call1 (Or.inl rfl) rfl (sh_6 _) (Or.inl ⟨rfl, rfl⟩) (as := [vI c, vI l]) rfl rfl (okN_ok hok) rfl (sp_31_6 hd hw hm' hy' hk' hm hy hk c1 c2 z1 z2 m1' m2' y1' y2' l1 l2 m1 m2 y1 y2 hz)
theorem sp_26_35 {d : Nat} (hd : 1 < d) {L : Nat} {σ : ex_S} {n : Int → Int} {c : Int} (hR : RG35 σ n) (hN : NI n) (h1 : 0 ≤ c) (h2 : c < n 1) : ex_cd d 26 [vR 35, vI c] (SH L, σ) = some ([vI (b2i (freeP n c))], (SH L, σ)) := by
  rw [ex_cd_eq (by omega)]
  show ex_ev (d - 1) 26 0 [vR 35, vI c, vL 0] [] (SH L, σ) = _
  have b0 := hN.b0
  have b1 := hN.b1
  have w := hR.wh c h1 h2
  rcases stand_lo n c hN.b0 hN.oM with h | ⟨q1, q2, q3, q4, q5⟩
  · rw [if_pos (by omega)] at w
    rw [b2i_f (fun q => by have := q.1; omega)]
    (repeat' first | simp (disch := first | assumption | omega | ((repeat' first | exact ok_nil | apply ok_I | apply ok_R); done) | (simp (disch := first | omega | decide) only [ex_ar_same, ex_ar_diff, kM_diff, ex_u_same, ex_u_diff]; first | assumption | omega)) only [ev_26_0, ev_26_1, ev_26_2, ev_26_3, ev_26_4, gf_35_12, gf_35_9, gf_6_12, gf_6_9, ld_14, ld_17, ld_43, ld_46, w, x_fall, x_goto, x_push, x_ret2, x_ret2b, xc_23_35, xc_23_6, xc_25_35, xc_25_6, xl_a0, xl_i1, xl_i2, xt_i2, y_cmp_eq_f, y_cmp_eq_t, y_cmp_ne_f, y_cmp_ne_t, y_if_gt_f, y_if_gt_t, y_if_ne_f, y_if_ne_t, y_isub, i_wr_id, kM_diff, Int.reduceToNat, ex_ar_same, ex_ar_ar, ex_ar_diff, ex_u_same, ex_u_diff, b2i_t, b2i_f, ex_div_nn, ex_rem_nn, Int.toNat_zero, Int.toNat_one, Int.reduceAdd, Int.reduceSub, Int.reduceMul, Int.reduceNeg] | refine bb_eq (fun _ => ?_) (fun _ => ?_) | refine bb_ne (fun _ => ?_) (fun _ => ?_) | refine bc_eq (fun _ => ?_) (fun _ => ?_) | refine bc_ne (fun _ => ?_) (fun _ => ?_) | refine bc_lt (fun _ => ?_) (fun _ => ?_) | refine bc_ge (fun _ => ?_) (fun _ => ?_) | refine bc_gt (fun _ => ?_) (fun _ => ?_) | refine bc_le (fun _ => ?_) (fun _ => ?_) | refine bi_eq (fun _ => ?_) (fun _ => ?_) | refine bi_ne (fun _ => ?_) (fun _ => ?_) | refine bi_lt (fun _ => ?_) (fun _ => ?_) | refine bi_ge (fun _ => ?_) (fun _ => ?_) | refine bi_gt (fun _ => ?_) (fun _ => ?_) | refine bi_le (fun _ => ?_) (fun _ => ?_))
  · rw [if_neg (by omega)] at w
    have m := hN.oM (standN n c / 8) (by omega) (by omega)
    have s := hR.st (standN n c / 8) (by omega) q3
    have e := last_iff hN q1
    unfold freeP
    (repeat' first | simp (disch := first | assumption | omega | ((repeat' first | exact ok_nil | apply ok_I | apply ok_R); done) | (simp (disch := first | omega | decide) only [ex_ar_same, ex_ar_diff, kM_diff, ex_u_same, ex_u_diff]; first | assumption | omega)) only [ev_26_0, ev_26_1, ev_26_2, ev_26_3, ev_26_4, gf_35_12, gf_35_9, gf_6_12, gf_6_9, ld_14, ld_17, ld_43, ld_46, s, w, x_fall, x_goto, x_push, x_ret2, x_ret2b, xc_23_35, xc_23_6, xc_25_35, xc_25_6, xl_a0, xl_i1, xl_i2, xt_i2, y_cmp_eq_f, y_cmp_eq_t, y_cmp_ne_f, y_cmp_ne_t, y_if_gt_f, y_if_gt_t, y_if_ne_f, y_if_ne_t, y_isub, i_wr_id, kM_diff, Int.reduceToNat, ex_ar_same, ex_ar_ar, ex_ar_diff, ex_u_same, ex_u_diff, b2i_t, b2i_f, ex_div_nn, ex_rem_nn, Int.toNat_zero, Int.toNat_one, Int.reduceAdd, Int.reduceSub, Int.reduceMul, Int.reduceNeg] | refine bb_eq (fun _ => ?_) (fun _ => ?_) | refine bb_ne (fun _ => ?_) (fun _ => ?_) | refine bc_eq (fun _ => ?_) (fun _ => ?_) | refine bc_ne (fun _ => ?_) (fun _ => ?_) | refine bc_lt (fun _ => ?_) (fun _ => ?_) | refine bc_ge (fun _ => ?_) (fun _ => ?_) | refine bc_gt (fun _ => ?_) (fun _ => ?_) | refine bc_le (fun _ => ?_) (fun _ => ?_) | refine bi_eq (fun _ => ?_) (fun _ => ?_) | refine bi_ne (fun _ => ?_) (fun _ => ?_) | refine bi_lt (fun _ => ?_) (fun _ => ?_) | refine bi_ge (fun _ => ?_) (fun _ => ?_) | refine bi_gt (fun _ => ?_) (fun _ => ?_) | refine bi_le (fun _ => ?_) (fun _ => ?_))
    all_goals first | rw [b2i_t ⟨q1, by omega, by assumption⟩] | rw [b2i_f (fun q => by have := q.2.1; omega)] | rw [b2i_f (fun q => q.2.2 (by assumption))]
theorem xc_26_35 {rt d : Nat} {J : Nat → List ex_V → List ex_V → ex_H → Option ex_R} {is : List Instr} {ls st : List ex_V} {L : Nat} {σ : ex_S} {n : Int → Int} {c : Int} (hR : RG35 σ n) (hN : NI n) (h1 : 0 ≤ c) (h2 : c < n 1) (hd : 1 < d) (hok : okN 8 st = true) : ex_xs rt J (ex_cd d) (.invokevirtual 26 :: is) ls (vI c :: vR 35 :: st) (SH L, σ) = ex_xs rt J (ex_cd d) is ls (vI (b2i (freeP n c)) :: st) (SH L, σ) := x_call1 (Or.inl rfl) rfl (sh_35 _) (Or.inl ⟨rfl, rfl⟩) (as := [vI c]) rfl rfl (okN_ok hok) rfl (sp_26_35 hd hR hN h1 h2)
theorem sp_27_35 {d : Nat} (hd : 2 < d) {L : Nat} {σ : ex_S} {n : Int → Int} {c l : Int} (hR : RG35 σ n) (hN : NI n) (h1 : 0 ≤ c) (h2 : c < n 1) (h3 : 0 ≤ l) (h4 : l < n 0) : ex_cd d 27 [vR 35, vI c, vI l] (SH L, σ) = some ([vI (parkN n c l)], (SH L, σ)) := by
  rw [ex_cd_eq (by omega)]
  show ex_ev (d - 1) 27 0 [vR 35, vI c, vI l] [] (SH L, σ) = _
  have b0 := hN.b0
  have b1 := hN.b1
  have w := hR.wh c h1 h2
  unfold parkN
  rcases stand_lo n c hN.b0 hN.oM with h | ⟨q1, q2, q3, q4, q5⟩
  · rw [if_pos (by omega)] at w
    (repeat' first | simp (disch := first | assumption | omega | ((repeat' first | exact ok_nil | apply ok_I | apply ok_R); done) | (simp (disch := first | omega | decide) only [ex_ar_same, ex_ar_diff, kM_diff, ex_u_same, ex_u_diff]; first | assumption | omega)) only [ev_27_0, ev_27_1, ev_27_2, ev_27_3, ev_27_4, ev_27_5, gf_35_12, gf_6_12, ld_17, ld_46, w, x_fall, x_goto, x_push, x_ret1, xc_17_35, xc_17_6, xc_22_35, xc_22_6, xc_24_35, xc_24_6, xc_25_35, xc_25_6, xl_a0, xl_i1, xl_i2, y_cmp_eq_f, y_cmp_eq_t, y_cmp_le_f, y_cmp_le_t, y_if_eq_f, y_if_eq_t, y_if_ne_f, y_if_ne_t, i_wr_id, kM_diff, Int.reduceToNat, ex_ar_same, ex_ar_ar, ex_ar_diff, ex_u_same, ex_u_diff, b2i_t, b2i_f, ex_div_nn, ex_rem_nn, Int.toNat_zero, Int.toNat_one, Int.reduceAdd, Int.reduceSub, Int.reduceMul, Int.reduceNeg] | refine bb_eq (fun _ => ?_) (fun _ => ?_) | refine bb_ne (fun _ => ?_) (fun _ => ?_) | refine bc_eq (fun _ => ?_) (fun _ => ?_) | refine bc_ne (fun _ => ?_) (fun _ => ?_) | refine bc_lt (fun _ => ?_) (fun _ => ?_) | refine bc_ge (fun _ => ?_) (fun _ => ?_) | refine bc_gt (fun _ => ?_) (fun _ => ?_) | refine bc_le (fun _ => ?_) (fun _ => ?_) | refine bi_eq (fun _ => ?_) (fun _ => ?_) | refine bi_ne (fun _ => ?_) (fun _ => ?_) | refine bi_lt (fun _ => ?_) (fun _ => ?_) | refine bi_ge (fun _ => ?_) (fun _ => ?_) | refine bi_gt (fun _ => ?_) (fun _ => ?_) | refine bi_le (fun _ => ?_) (fun _ => ?_))
    all_goals (try simp (disch := first | assumption | omega) only [if_pos, if_neg])
  · rw [if_neg (by omega)] at w
    (repeat' first | simp (disch := first | assumption | omega | ((repeat' first | exact ok_nil | apply ok_I | apply ok_R); done) | (simp (disch := first | omega | decide) only [ex_ar_same, ex_ar_diff, kM_diff, ex_u_same, ex_u_diff]; first | assumption | omega)) only [ev_27_0, ev_27_1, ev_27_2, ev_27_3, ev_27_4, ev_27_5, gf_35_12, gf_6_12, ld_17, ld_46, w, x_fall, x_goto, x_push, x_ret1, xc_17_35, xc_17_6, xc_22_35, xc_22_6, xc_24_35, xc_24_6, xc_25_35, xc_25_6, xl_a0, xl_i1, xl_i2, y_cmp_eq_f, y_cmp_eq_t, y_cmp_le_f, y_cmp_le_t, y_if_eq_f, y_if_eq_t, y_if_ne_f, y_if_ne_t, i_wr_id, kM_diff, Int.reduceToNat, ex_ar_same, ex_ar_ar, ex_ar_diff, ex_u_same, ex_u_diff, b2i_t, b2i_f, ex_div_nn, ex_rem_nn, Int.toNat_zero, Int.toNat_one, Int.reduceAdd, Int.reduceSub, Int.reduceMul, Int.reduceNeg] | refine bb_eq (fun _ => ?_) (fun _ => ?_) | refine bb_ne (fun _ => ?_) (fun _ => ?_) | refine bc_eq (fun _ => ?_) (fun _ => ?_) | refine bc_ne (fun _ => ?_) (fun _ => ?_) | refine bc_lt (fun _ => ?_) (fun _ => ?_) | refine bc_ge (fun _ => ?_) (fun _ => ?_) | refine bc_gt (fun _ => ?_) (fun _ => ?_) | refine bc_le (fun _ => ?_) (fun _ => ?_) | refine bi_eq (fun _ => ?_) (fun _ => ?_) | refine bi_ne (fun _ => ?_) (fun _ => ?_) | refine bi_lt (fun _ => ?_) (fun _ => ?_) | refine bi_ge (fun _ => ?_) (fun _ => ?_) | refine bi_gt (fun _ => ?_) (fun _ => ?_) | refine bi_le (fun _ => ?_) (fun _ => ?_))
    all_goals (try simp (disch := first | assumption | omega) only [if_pos, if_neg])
theorem xc_27_35 {rt d : Nat} {J : Nat → List ex_V → List ex_V → ex_H → Option ex_R} {is : List Instr} {ls st : List ex_V} {L : Nat} {σ : ex_S} {n : Int → Int} {c l : Int} (hR : RG35 σ n) (hN : NI n) (h1 : 0 ≤ c) (h2 : c < n 1) (h3 : 0 ≤ l) (h4 : l < n 0) (hd : 2 < d) (hok : okN 8 st = true) : ex_xs rt J (ex_cd d) (.invokevirtual 27 :: is) ls (vI l :: vI c :: vR 35 :: st) (SH L, σ) = ex_xs rt J (ex_cd d) is ls (vI (parkN n c l) :: st) (SH L, σ) := x_call1 (Or.inl rfl) rfl (sh_35 _) (Or.inl ⟨rfl, rfl⟩) (as := [vI c, vI l]) rfl rfl (okN_ok hok) rfl (sp_27_35 hd hR hN h1 h2 h3 h4)
theorem sp_28_35 {d : Nat} (hd : 2 < d) {L : Nat} {σ : ex_S} {n : Int → Int} {c l : Int} (hR : RG35 σ n) (hN : NI n) (h1 : 0 ≤ c) (h2 : c < n 1) (h3 : 0 ≤ l) (h4 : l < n 0) : ex_cd d 28 [vR 35, vI c, vI l] (SH L, σ) = some ([vI (shfN n c l)], (SH L, σ)) := by
  rw [ex_cd_eq (by omega)]
  show ex_ev (d - 1) 28 0 [vR 35, vI c, vI l] [] (SH L, σ) = _
  have b0 := hN.b0
  have b1 := hN.b1
  have w := hR.wh c h1 h2
  unfold shfN
  rcases stand_lo n c hN.b0 hN.oM with h | ⟨q1, q2, q3, q4, q5⟩
  · rw [if_pos (by omega)] at w
    (repeat' first | simp (disch := first | assumption | omega | ((repeat' first | exact ok_nil | apply ok_I | apply ok_R); done) | (simp (disch := first | omega | decide) only [ex_ar_same, ex_ar_diff, kM_diff, ex_u_same, ex_u_diff]; first | assumption | omega)) only [ev_28_0, ev_28_1, ev_28_2, ev_28_3, ev_28_4, ev_28_5, ev_28_6, ev_28_7, gf_35_12, gf_6_12, ld_17, ld_46, w, x_fall, x_goto, x_push, x_ret1, xc_17_35, xc_17_6, xc_22_35, xc_22_6, xc_24_35, xc_24_6, xc_25_35, xc_25_6, xc_26_35, xc_26_6, xl_a0, xl_i1, xl_i2, y_cmp_le_f, y_cmp_le_t, y_cmp_ne_f, y_cmp_ne_t, y_if_eq_f, y_if_eq_t, y_if_ne_f, y_if_ne_t, i_wr_id, kM_diff, Int.reduceToNat, ex_ar_same, ex_ar_ar, ex_ar_diff, ex_u_same, ex_u_diff, b2i_t, b2i_f, ex_div_nn, ex_rem_nn, Int.toNat_zero, Int.toNat_one, Int.reduceAdd, Int.reduceSub, Int.reduceMul, Int.reduceNeg] | refine bb_eq (fun _ => ?_) (fun _ => ?_) | refine bb_ne (fun _ => ?_) (fun _ => ?_) | refine bc_eq (fun _ => ?_) (fun _ => ?_) | refine bc_ne (fun _ => ?_) (fun _ => ?_) | refine bc_lt (fun _ => ?_) (fun _ => ?_) | refine bc_ge (fun _ => ?_) (fun _ => ?_) | refine bc_gt (fun _ => ?_) (fun _ => ?_) | refine bc_le (fun _ => ?_) (fun _ => ?_) | refine bi_eq (fun _ => ?_) (fun _ => ?_) | refine bi_ne (fun _ => ?_) (fun _ => ?_) | refine bi_lt (fun _ => ?_) (fun _ => ?_) | refine bi_ge (fun _ => ?_) (fun _ => ?_) | refine bi_gt (fun _ => ?_) (fun _ => ?_) | refine bi_le (fun _ => ?_) (fun _ => ?_))
    all_goals (try simp (disch := first | assumption | omega) only [if_pos, if_neg])
  · rw [if_neg (by omega)] at w
    (repeat' first | simp (disch := first | assumption | omega | ((repeat' first | exact ok_nil | apply ok_I | apply ok_R); done) | (simp (disch := first | omega | decide) only [ex_ar_same, ex_ar_diff, kM_diff, ex_u_same, ex_u_diff]; first | assumption | omega)) only [ev_28_0, ev_28_1, ev_28_2, ev_28_3, ev_28_4, ev_28_5, ev_28_6, ev_28_7, gf_35_12, gf_6_12, ld_17, ld_46, w, x_fall, x_goto, x_push, x_ret1, xc_17_35, xc_17_6, xc_22_35, xc_22_6, xc_24_35, xc_24_6, xc_25_35, xc_25_6, xc_26_35, xc_26_6, xl_a0, xl_i1, xl_i2, y_cmp_le_f, y_cmp_le_t, y_cmp_ne_f, y_cmp_ne_t, y_if_eq_f, y_if_eq_t, y_if_ne_f, y_if_ne_t, i_wr_id, kM_diff, Int.reduceToNat, ex_ar_same, ex_ar_ar, ex_ar_diff, ex_u_same, ex_u_diff, b2i_t, b2i_f, ex_div_nn, ex_rem_nn, Int.toNat_zero, Int.toNat_one, Int.reduceAdd, Int.reduceSub, Int.reduceMul, Int.reduceNeg] | refine bb_eq (fun _ => ?_) (fun _ => ?_) | refine bb_ne (fun _ => ?_) (fun _ => ?_) | refine bc_eq (fun _ => ?_) (fun _ => ?_) | refine bc_ne (fun _ => ?_) (fun _ => ?_) | refine bc_lt (fun _ => ?_) (fun _ => ?_) | refine bc_ge (fun _ => ?_) (fun _ => ?_) | refine bc_gt (fun _ => ?_) (fun _ => ?_) | refine bc_le (fun _ => ?_) (fun _ => ?_) | refine bi_eq (fun _ => ?_) (fun _ => ?_) | refine bi_ne (fun _ => ?_) (fun _ => ?_) | refine bi_lt (fun _ => ?_) (fun _ => ?_) | refine bi_ge (fun _ => ?_) (fun _ => ?_) | refine bi_gt (fun _ => ?_) (fun _ => ?_) | refine bi_le (fun _ => ?_) (fun _ => ?_))
    all_goals (try simp (disch := first | assumption | omega) only [if_pos, if_neg])
theorem xc_28_35 {rt d : Nat} {J : Nat → List ex_V → List ex_V → ex_H → Option ex_R} {is : List Instr} {ls st : List ex_V} {L : Nat} {σ : ex_S} {n : Int → Int} {c l : Int} (hR : RG35 σ n) (hN : NI n) (h1 : 0 ≤ c) (h2 : c < n 1) (h3 : 0 ≤ l) (h4 : l < n 0) (hd : 2 < d) (hok : okN 8 st = true) : ex_xs rt J (ex_cd d) (.invokevirtual 28 :: is) ls (vI l :: vI c :: vR 35 :: st) (SH L, σ) = ex_xs rt J (ex_cd d) is ls (vI (shfN n c l) :: st) (SH L, σ) := x_call1 (Or.inl rfl) rfl (sh_35 _) (Or.inl ⟨rfl, rfl⟩) (as := [vI c, vI l]) rfl rfl (okN_ok hok) rfl (sp_28_35 hd hR hN h1 h2 h3 h4)
theorem sp_30_35 {d : Nat} (hd : 1 < d) {L : Nat} {σ : ex_S} {c l m y k : Int} (hw : σ 46 c = l) (hm : σ 43 l = m) (hy : σ 41 l = y) (hk : σ 36 l = k) (c1 : 0 ≤ c) (c2 : c < 8) (l1 : 0 ≤ l) (l2 : l < 5) (m1 : 0 ≤ m) (m2 : m ≤ 8) (y1 : 0 ≤ y) (y2 : y ≤ 20) : ex_cd d 30 [vR 35, vI c] (SH L, σ) = some ([], (SH L, tkG 35 σ c l (m - 1) (y + cyk k))) := by
  rw [ex_cd_eq (by omega)]
  show ex_ev (d - 1) 30 0 [vR 35, vI c, vL 0] [] (SH L, σ) = _
  have := cyk_01 k
  simp only [tkG, Nat.reduceAdd]
  (repeat' first | simp (disch := first | assumption | omega | ((repeat' first | exact ok_nil | apply ok_I | apply ok_R); done) | (simp (disch := first | omega | decide) only [ex_ar_same, ex_ar_diff, kM_diff, ex_u_same, ex_u_diff]; first | assumption | omega)) only [ev_30_0, gf_35_12, gf_35_7, gf_35_9, gf_6_12, gf_6_7, gf_6_9, hm, hw, hy, ld_12, ld_14, ld_17, ld_41, ld_43, ld_46, sd_12, sd_14, sd_17, sd_41, sd_43, sd_46, x_dup2, x_push, x_ret0, xc_20_35, xc_20_6, xl_a0, xl_i1, xl_i2, xt_i2, y_iadd, y_isub, i_wr_id, kM_diff, Int.reduceToNat, ex_ar_same, ex_ar_ar, ex_ar_diff, ex_u_same, ex_u_diff, b2i_t, b2i_f, ex_div_nn, ex_rem_nn, Int.toNat_zero, Int.toNat_one, Int.reduceAdd, Int.reduceSub, Int.reduceMul, Int.reduceNeg] | refine bb_eq (fun _ => ?_) (fun _ => ?_) | refine bb_ne (fun _ => ?_) (fun _ => ?_) | refine bc_eq (fun _ => ?_) (fun _ => ?_) | refine bc_ne (fun _ => ?_) (fun _ => ?_) | refine bc_lt (fun _ => ?_) (fun _ => ?_) | refine bc_ge (fun _ => ?_) (fun _ => ?_) | refine bc_gt (fun _ => ?_) (fun _ => ?_) | refine bc_le (fun _ => ?_) (fun _ => ?_) | refine bi_eq (fun _ => ?_) (fun _ => ?_) | refine bi_ne (fun _ => ?_) (fun _ => ?_) | refine bi_lt (fun _ => ?_) (fun _ => ?_) | refine bi_ge (fun _ => ?_) (fun _ => ?_) | refine bi_gt (fun _ => ?_) (fun _ => ?_) | refine bi_le (fun _ => ?_) (fun _ => ?_))
theorem xc_30_35 {rt d : Nat} {J : Nat → List ex_V → List ex_V → ex_H → Option ex_R} {is : List Instr} {ls st : List ex_V} {L : Nat} {σ : ex_S} {c l m y k : Int} (hw : σ 46 c = l) (hm : σ 43 l = m) (hy : σ 41 l = y) (hk : σ 36 l = k) (c1 : 0 ≤ c) (c2 : c < 8) (l1 : 0 ≤ l) (l2 : l < 5) (m1 : 0 ≤ m) (m2 : m ≤ 8) (y1 : 0 ≤ y) (y2 : y ≤ 20) (hd : 1 < d) (hok : okN 8 st = true) : ex_xs rt J (ex_cd d) (.invokevirtual 30 :: is) ls (vI c :: vR 35 :: st) (SH L, σ) = ex_xs rt J (ex_cd d) is ls (st) (SH L, tkG 35 σ c l (m - 1) (y + cyk k)) := x_call1 (Or.inl rfl) rfl (sh_35 _) (Or.inl ⟨rfl, rfl⟩) (as := [vI c]) rfl rfl (okN_ok hok) rfl (sp_30_35 hd hw hm hy hk c1 c2 l1 l2 m1 m2 y1 y2)
theorem sp_29_35 {d : Nat} (hd : 1 < d) {L : Nat} {σ : ex_S} {c l m y k : Int} (hm : σ 43 l = m) (hy : σ 41 l = y) (hk : σ 36 l = k) (c1 : 0 ≤ c) (c2 : c < 8) (l1 : 0 ≤ l) (l2 : l < 5) (m1 : 0 ≤ m) (m2 : m < 8) (y1 : 0 ≤ y) (y2 : y ≤ 20) : ex_cd d 29 [vR 35, vI c, vI l] (SH L, σ) = some ([], (SH L, brG 35 σ c l (l * 8 + m) (m + 1) (y + cyk k))) := by
  rw [ex_cd_eq (by omega)]
  show ex_ev (d - 1) 29 0 [vR 35, vI c, vI l] [] (SH L, σ) = _
  have := cyk_01 k
  simp only [brG, Nat.reduceAdd]
  (repeat' first | simp (disch := first | assumption | omega | ((repeat' first | exact ok_nil | apply ok_I | apply ok_R); done) | (simp (disch := first | omega | decide) only [ex_ar_same, ex_ar_diff, kM_diff, ex_u_same, ex_u_diff]; first | assumption | omega)) only [ev_29_0, ev_29_1, gf_35_10, gf_35_12, gf_35_7, gf_35_9, gf_6_10, gf_6_12, gf_6_7, gf_6_9, hm, hy, ld_12, ld_14, ld_15, ld_17, ld_41, ld_43, ld_44, ld_46, sd_12, sd_14, sd_15, sd_17, sd_41, sd_43, sd_44, sd_46, x_dup2, x_imul, x_push, x_ret0, xc_20_35, xc_20_6, xl_a0, xl_i1, xl_i2, y_cmp_lt_f, y_cmp_lt_t, y_iadd, i_wr_id, kM_diff, Int.reduceToNat, ex_ar_same, ex_ar_ar, ex_ar_diff, ex_u_same, ex_u_diff, b2i_t, b2i_f, ex_div_nn, ex_rem_nn, Int.toNat_zero, Int.toNat_one, Int.reduceAdd, Int.reduceSub, Int.reduceMul, Int.reduceNeg] | refine bb_eq (fun _ => ?_) (fun _ => ?_) | refine bb_ne (fun _ => ?_) (fun _ => ?_) | refine bc_eq (fun _ => ?_) (fun _ => ?_) | refine bc_ne (fun _ => ?_) (fun _ => ?_) | refine bc_lt (fun _ => ?_) (fun _ => ?_) | refine bc_ge (fun _ => ?_) (fun _ => ?_) | refine bc_gt (fun _ => ?_) (fun _ => ?_) | refine bc_le (fun _ => ?_) (fun _ => ?_) | refine bi_eq (fun _ => ?_) (fun _ => ?_) | refine bi_ne (fun _ => ?_) (fun _ => ?_) | refine bi_lt (fun _ => ?_) (fun _ => ?_) | refine bi_ge (fun _ => ?_) (fun _ => ?_) | refine bi_gt (fun _ => ?_) (fun _ => ?_) | refine bi_le (fun _ => ?_) (fun _ => ?_))
theorem xc_29_35 {rt d : Nat} {J : Nat → List ex_V → List ex_V → ex_H → Option ex_R} {is : List Instr} {ls st : List ex_V} {L : Nat} {σ : ex_S} {c l m y k : Int} (hm : σ 43 l = m) (hy : σ 41 l = y) (hk : σ 36 l = k) (c1 : 0 ≤ c) (c2 : c < 8) (l1 : 0 ≤ l) (l2 : l < 5) (m1 : 0 ≤ m) (m2 : m < 8) (y1 : 0 ≤ y) (y2 : y ≤ 20) (hd : 1 < d) (hok : okN 8 st = true) : ex_xs rt J (ex_cd d) (.invokevirtual 29 :: is) ls (vI l :: vI c :: vR 35 :: st) (SH L, σ) = ex_xs rt J (ex_cd d) is ls (st) (SH L, brG 35 σ c l (l * 8 + m) (m + 1) (y + cyk k)) := x_call1 (Or.inl rfl) rfl (sh_35 _) (Or.inl ⟨rfl, rfl⟩) (as := [vI c, vI l]) rfl rfl (okN_ok hok) rfl (sp_29_35 hd hm hy hk c1 c2 l1 l2 m1 m2 y1 y2)
theorem sp_31_35 {d : Nat} (hd : 2 < d) {L : Nat} {σ : ex_S} {c l m y k z m' y' k' : Int} (hw : σ 46 c = z) (hm' : σ 43 z = m') (hy' : σ 41 z = y') (hk' : σ 36 z = k') (hm : σ 43 l = m) (hy : σ 41 l = y) (hk : σ 36 l = k) (c1 : 0 ≤ c) (c2 : c < 8) (z1 : 0 ≤ z) (z2 : z < 5) (m1' : 0 ≤ m') (m2' : m' ≤ 8) (y1' : 0 ≤ y') (y2' : y' ≤ 20) (l1 : 0 ≤ l) (l2 : l < 5) (m1 : 0 ≤ m) (m2 : m < 8) (y1 : 0 ≤ y) (y2 : y ≤ 20) (hz : l ≠ z) : ex_cd d 31 [vR 35, vI c, vI l] (SH L, σ) = some ([], (SH L, brG 35 (tkG 35 σ c z (m' - 1) (y' + cyk k')) c l (l * 8 + m) (m + 1) (y + cyk k))) := by
  rw [ex_cd_eq (by omega)]
  show ex_ev (d - 1) 31 0 [vR 35, vI c, vI l] [] (SH L, σ) = _
  have a1 : tkG 35 σ c z (m' - 1) (y' + cyk k') 43 l = m := by have := tkG_8 (g := 35) (σ := σ) (c := c) (l := z) (m := m' - 1) (y := y' + cyk k'); simp only [Nat.reduceAdd] at this; rw [this, ex_u_diff _ _ hz]; exact hm
  have a2 : tkG 35 σ c z (m' - 1) (y' + cyk k') 41 l = y := by have := tkG_6 (g := 35) (σ := σ) (c := c) (l := z) (m := m' - 1) (y := y' + cyk k'); simp only [Nat.reduceAdd] at this; rw [this, ex_u_diff _ _ hz]; exact hy
  have a3 : tkG 35 σ c z (m' - 1) (y' + cyk k') 36 l = k := by rw [tkG_ne (by decide) (by decide) (by decide)]; exact hk
  simp (disch := first | assumption | omega | ((repeat' first | exact ok_nil | apply ok_I | apply ok_R); done) | (simp (disch := first | omega | decide) only [ex_ar_same, ex_ar_diff, kM_diff, ex_u_same, ex_u_diff]; first | assumption | omega)) only [ev_31_0, x_ret0, xc_29_35, xc_29_6, xc_30_35, xc_30_6, xl_a0, xl_i1, xl_i2, i_wr_id, kM_diff, Int.reduceToNat, ex_ar_same, ex_ar_ar, ex_ar_diff, ex_u_same, ex_u_diff, b2i_t, b2i_f, ex_div_nn, ex_rem_nn, Int.toNat_zero, Int.toNat_one, Int.reduceAdd, Int.reduceSub, Int.reduceMul, Int.reduceNeg]
theorem xc_31_35 {rt d : Nat} {J : Nat → List ex_V → List ex_V → ex_H → Option ex_R} {is : List Instr} {ls st : List ex_V} {L : Nat} {σ : ex_S} {c l m y k z m' y' k' : Int} (hw : σ 46 c = z) (hm' : σ 43 z = m') (hy' : σ 41 z = y') (hk' : σ 36 z = k') (hm : σ 43 l = m) (hy : σ 41 l = y) (hk : σ 36 l = k) (c1 : 0 ≤ c) (c2 : c < 8) (z1 : 0 ≤ z) (z2 : z < 5) (m1' : 0 ≤ m') (m2' : m' ≤ 8) (y1' : 0 ≤ y') (y2' : y' ≤ 20) (l1 : 0 ≤ l) (l2 : l < 5) (m1 : 0 ≤ m) (m2 : m < 8) (y1 : 0 ≤ y) (y2 : y ≤ 20) (hz : l ≠ z) (hd : 2 < d) (hok : okN 8 st = true) : ex_xs rt J (ex_cd d) (.invokevirtual 31 :: is) ls (vI l :: vI c :: vR 35 :: st) (SH L, σ) = ex_xs rt J (ex_cd d) is ls (st) (SH L, brG 35 (tkG 35 σ c z (m' - 1) (y' + cyk k')) c l (l * 8 + m) (m + 1) (y + cyk k)) := x_call1 (Or.inl rfl) rfl (sh_35 _) (Or.inl ⟨rfl, rfl⟩) (as := [vI c, vI l]) rfl rfl (okN_ok hok) rfl (sp_31_35 hd hw hm' hy' hk' hm hy hk c1 c2 z1 z2 m1' m2' y1' y2' l1 l2 m1 m2 y1 y2 hz)
