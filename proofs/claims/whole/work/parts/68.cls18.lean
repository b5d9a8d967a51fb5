/-! the class: harm, parted -/
theorem some_eq {a b : Int} {H : ex_H} (h : a = b) : (some ([vI a], H) : Option ex_R) = some ([vI b], H) := by rw [h]
theorem harF_at (n : Int → Int) (c : Int) : ∀ k : Nat, harF n c k < 0 ∨ n (171 + harF n c k) = 64 + c
  | 0 => Or.inl (show (-1 : Int) < 0 by decide)
  | k + 1 => by
    rw [harF]
    by_cases z : n (171 + (k : Int)) = 64 + c
    · rw [if_pos z]; exact Or.inr z
    · rw [if_neg z]; exact harF_at n c k
def shN (n : Int → Int) (c p s : Int) : Int := if harN n c < 0 ∨ ((harE n c : Nat) : Int) = n 8 then -1 else if (harR n c).2 = 0 then -1 else harV (harR n c).1 (harR n c).2 p s
theorem har_all {n : Int → Int} (hN : NI n) {c : Int} (c0 : 0 ≤ c) (c1 : c < 8) (q0 : ¬ harN n c < 0) (q1 : ¬ ((harE n c : Nat) : Int) = n 8) : (0 ≤ harN n c ∧ harN n c < ((harE n c : Nat) : Int) ∧ ((harE n c : Nat) : Int) < n 8) ∧ (∀ p : Int, 0 ≤ p → p ≤ 3 → (harR n c).1 p = sbN n c p (harN n c + 1) (((harE n c : Nat) : Int) - (harN n c + 1)).toNat) ∧ (harR n c).2 = sbN n c 0 (harN n c + 1) (((harE n c : Nat) : Int) - (harN n c + 1)).toNat + sbN n c 1 (harN n c + 1) (((harE n c : Nat) : Int) - (harN n c + 1)).toNat + sbN n c 2 (harN n c + 1) (((harE n c : Nat) : Int) - (harN n c + 1)).toNat + sbN n c 3 (harN n c + 1) (((harE n c : Nat) : Int) - (harN n c + 1)).toNat := by
  have a8 := hN.a8
  have fb := harF_bd n c (n 8).toNat
  have fa := harF_at n c (n 8).toNat
  have tb := harT_bd n c ((n 8).toNat - (harN n c + 1).toNat) (harN n c + 1).toNat
  have eN : harF n c (n 8).toNat = harN n c := rfl
  have eE : harT n c (harN n c + 1).toNat ((n 8).toNat - (harN n c + 1).toNat) = harE n c := rfl
  have eR : harB n c (harN n c) (harE n c - (harN n c).toNat) = harR n c := rfl
  rw [eN] at fb fa
  rw [eE] at tb
  have fa' : n (171 + harN n c) = 64 + c := by omega
  obtain ⟨B1, B2⟩ := harB_sb hN c0 c1 (show 0 ≤ harN n c by omega) (harE n c - (harN n c).toNat) (by omega)
  rw [eR] at B1 B2
  have ej : harE n c - (harN n c).toNat = (((harE n c : Nat) : Int) - (harN n c + 1)).toNat + 1 := by omega
  have fr : ∀ p : Int, 0 ≤ p → p ≤ 3 → sbN n c p (harN n c) (harE n c - (harN n c).toNat) = sbN n c p (harN n c + 1) (((harE n c : Nat) : Int) - (harN n c + 1)).toNat := by
    intro p p0 p1
    rw [ej, sbN_front, if_neg (by omega)]
    omega
  refine ⟨⟨by omega, by omega, by omega⟩, fun p p0 p1 => by rw [B1 p p0 p1, fr p p0 p1], ?_⟩
  rw [B2, fr 0 (by decide) (by decide), fr 1 (by decide) (by decide), fr 2 (by decide) (by decide), fr 3 (by decide) (by decide)]
theorem sp_46 {d : Nat} (hd : 1 < d) {L : Nat} {σ : ex_S} {n : Int → Int} {c p s : Int} (hD : RD5 σ n) (hN : NI n) (c0 : 0 ≤ c) (c1 : c < 8) (p0 : 0 ≤ p) (p1 : p ≤ 3) (s0 : 0 ≤ s) (s1 : s ≤ 9999) : ex_cd d 46 [vR 18, vI c, vI p, vI s] (SH L, σ) = some ([vI (shN n c p s)], (SH L, σ)) := by
  rw [ex_cd_eq (by omega)]
  show ex_ev (d - 1) 46 0 [vR 18, vI c, vI p, vI s, vL 0, vL 0, vL 0, vL 0, vL 0, vL 0, vL 0] [] (SH L, σ) = _
  have a8 := hN.a8
  have b8 := hN.b8
  have fb := harF_bd n c (n 8).toNat
  have eN : harF n c (n 8).toNat = harN n c := rfl
  rw [eN] at fb
  unfold shN
  by_cases q0 : harN n c < 0
  · have e0 : harN n c = -1 := by omega
    rw [if_pos (Or.inl q0)]
    simp (disch := first | assumption | omega | ((repeat' first | exact ok_nil | apply ok_I | apply ok_R); done) | (simp (disch := first | omega | decide) only [ex_ar_same, ex_ar_diff, kM_diff, ex_u_same, ex_u_diff]; first | assumption | omega)) only [e0, ev_46_0, ev_46_1, ev_46_10, ev_46_11, ev_46_12, ev_46_2, ev_46_3, ev_46_5, ev_46_6, ev_46_8, ev_46_9, x_fall, x_goto, x_idiv, x_imul, x_push, x_ret1, xc_47, xc_48, xc_49, xl_a0, xl_i1, xl_i10, xl_i2, xl_i3, xl_i4, xl_i5, xl_i6, xl_i7, xl_i8, xl_i9, xn_7, xn_9, xt_i10, xt_i4, xt_i5, xt_i6, xt_i7, xt_i8, xt_i9, y_cmp_ge_f, y_cmp_ge_t, y_cmp_ne_f, y_cmp_ne_t, y_iadd, y_if_gt_f, y_if_gt_t, y_if_le_f, y_if_le_t, y_if_lt_f, y_if_lt_t, y_isub, i_wr_id, kM_diff, Int.reduceToNat, ex_ar_same, ex_ar_ar, ex_ar_diff, ex_u_same, ex_u_diff, b2i_t, b2i_f, ex_div_nn, ex_rem_nn, Int.toNat_zero, Int.toNat_one, Int.reduceAdd, Int.reduceSub, Int.reduceMul, Int.reduceNeg, kC_ne, fC_ne]
  · by_cases q1 : ((harE n c : Nat) : Int) = n 8
    · rw [if_pos (Or.inr q1)]
      have e1 : (if ((harT n c (harN n c + 1).toNat ((n 8).toNat - (harN n c + 1).toNat) : Nat) : Int) = n 8 then -1 else ((harT n c (harN n c + 1).toNat ((n 8).toNat - (harN n c + 1).toNat) : Nat) : Int)) = -1 := if_pos q1
      simp (disch := first | assumption | omega | ((repeat' first | exact ok_nil | apply ok_I | apply ok_R); done) | (simp (disch := first | omega | decide) only [ex_ar_same, ex_ar_diff, kM_diff, ex_u_same, ex_u_diff]; first | assumption | omega)) only [e1, ev_46_0, ev_46_1, ev_46_10, ev_46_11, ev_46_12, ev_46_2, ev_46_3, ev_46_5, ev_46_6, ev_46_8, ev_46_9, x_fall, x_goto, x_idiv, x_imul, x_push, x_ret1, xc_47, xc_48, xc_49, xl_a0, xl_i1, xl_i10, xl_i2, xl_i3, xl_i4, xl_i5, xl_i6, xl_i7, xl_i8, xl_i9, xn_7, xn_9, xt_i10, xt_i4, xt_i5, xt_i6, xt_i7, xt_i8, xt_i9, y_cmp_ge_f, y_cmp_ge_t, y_cmp_ne_f, y_cmp_ne_t, y_iadd, y_if_gt_f, y_if_gt_t, y_if_le_f, y_if_le_t, y_if_lt_f, y_if_lt_t, y_isub, i_wr_id, kM_diff, Int.reduceToNat, ex_ar_same, ex_ar_ar, ex_ar_diff, ex_u_same, ex_u_diff, b2i_t, b2i_f, ex_div_nn, ex_rem_nn, Int.toNat_zero, Int.toNat_one, Int.reduceAdd, Int.reduceSub, Int.reduceMul, Int.reduceNeg, kC_ne, fC_ne]
    · rw [if_neg (by omega)]
      have e1 : (if ((harT n c (harN n c + 1).toNat ((n 8).toNat - (harN n c + 1).toNat) : Nat) : Int) = n 8 then -1 else ((harT n c (harN n c + 1).toNat ((n 8).toNat - (harN n c + 1).toNat) : Nat) : Int)) = ((harE n c : Nat) : Int) := if_neg q1
      obtain ⟨⟨t0, t1, t2⟩, B1, B2⟩ := har_all hN c0 c1 q0 q1
      have bb := fun p => sbN_bd n c p (harN n c + 1) (((harE n c : Nat) : Int) - (harN n c + 1)).toNat
      rw [B2]
      unfold harV
      rw [B1 0 (by decide) (by decide), B1 1 (by decide) (by decide), B1 2 (by decide) (by decide), B1 3 (by decide) (by decide), B1 p p0 p1]
      have P : ∀ i : Int, 0 ≤ s * sbN n c i (harN n c + 1) (((harE n c : Nat) : Int) - (harN n c + 1)).toNat ∧ s * sbN n c i (harN n c + 1) (((harE n c : Nat) : Int) - (harN n c + 1)).toNat ≤ 599940 := fun i => by
        have := bb i
        have h1 : 0 ≤ s * sbN n c i (harN n c + 1) (((harE n c : Nat) : Int) - (harN n c + 1)).toNat := Int.mul_nonneg s0 this.1
        have h2 : s * sbN n c i (harN n c + 1) (((harE n c : Nat) : Int) - (harN n c + 1)).toNat ≤ 9999 * 60 := Int.mul_le_mul s1 (by omega) this.1 (by omega)
        omega
      have w0 := bb 0
      have w1 := bb 1
      have w2 := bb 2
      have w3 := bb 3
      have P0 := P 0
      have P1 := P 1
      have P2 := P 2
      have P3 := P 3
      have Pp := P p
      generalize h0 : sbN n c 0 (harN n c + 1) (((harE n c : Nat) : Int) - (harN n c + 1)).toNat = x0 at *
      generalize h1 : sbN n c 1 (harN n c + 1) (((harE n c : Nat) : Int) - (harN n c + 1)).toNat = x1 at *
      generalize h2 : sbN n c 2 (harN n c + 1) (((harE n c : Nat) : Int) - (harN n c + 1)).toNat = x2 at *
      generalize h3 : sbN n c 3 (harN n c + 1) (((harE n c : Nat) : Int) - (harN n c + 1)).toNat = x3 at *
      generalize hp : sbN n c p (harN n c + 1) (((harE n c : Nat) : Int) - (harN n c + 1)).toNat = xp at *
      have lo : harE n c ≤ 60 := by omega
      by_cases q2 : x0 + x1 + x2 + x3 = 0
      · rw [if_pos q2]
        simp (disch := first | assumption | omega | ((repeat' first | exact ok_nil | apply ok_I | apply ok_R); done) | (simp (disch := first | omega | decide) only [ex_ar_same, ex_ar_diff, kM_diff, ex_u_same, ex_u_diff]; first | assumption | omega)) only [Int.zero_add, e1, ev_46_0, ev_46_1, ev_46_10, ev_46_11, ev_46_12, ev_46_2, ev_46_3, ev_46_4, ev_46_5, ev_46_6, ev_46_8, ev_46_9, h0, h1, h2, h3, x_fall, x_goto, x_idiv, x_imul, x_push, x_ret1, xc_47, xc_48, xc_49, xl_a0, xl_i1, xl_i10, xl_i2, xl_i3, xl_i4, xl_i5, xl_i6, xl_i7, xl_i8, xl_i9, xn_7, xn_9, xt_i10, xt_i4, xt_i5, xt_i6, xt_i7, xt_i8, xt_i9, y_cmp_ge_f, y_cmp_ge_t, y_cmp_ne_f, y_cmp_ne_t, y_iadd, y_if_gt_f, y_if_gt_t, y_if_le_f, y_if_le_t, y_if_lt_f, y_if_lt_t, y_isub, i_wr_id, kM_diff, Int.reduceToNat, ex_ar_same, ex_ar_ar, ex_ar_diff, ex_u_same, ex_u_diff, b2i_t, b2i_f, ex_div_nn, ex_rem_nn, Int.toNat_zero, Int.toNat_one, Int.reduceAdd, Int.reduceSub, Int.reduceMul, Int.reduceNeg, kC_ne, fC_ne]
      · rw [if_neg q2]
        have D : ∀ y : Int, 0 ≤ y → y ≤ 599940 → 0 ≤ y / (x0 + x1 + x2 + x3) ∧ y / (x0 + x1 + x2 + x3) ≤ 599940 := fun y y0 y1 => by
          have h3 : 0 ≤ y / (x0 + x1 + x2 + x3) := Int.ediv_nonneg y0 (by omega)
          have h4 : y / (x0 + x1 + x2 + x3) ≤ y := Int.ediv_le_self _ y0
          omega
        have D0 := D _ P0.1 P0.2
        have D1 := D _ P1.1 P1.2
        have D2 := D _ P2.1 P2.2
        have D3 := D _ P3.1 P3.2
        have Dp := D _ Pp.1 Pp.2
        generalize ha : x0 + x1 + x2 + x3 = a at *
        have a1 : 0 < a := by omega
        (repeat' first | simp (disch := first | assumption | omega | ((repeat' first | exact ok_nil | apply ok_I | apply ok_R); done) | (simp (disch := first | omega | decide) only [ex_ar_same, ex_ar_diff, kM_diff, ex_u_same, ex_u_diff]; first | assumption | omega)) only [Int.zero_add, e1, ev_46_0, ev_46_1, ev_46_10, ev_46_11, ev_46_12, ev_46_2, ev_46_3, ev_46_4, ev_46_5, ev_46_6, ev_46_7, ev_46_8, ev_46_9, h0, h1, h2, h3, ha, hp, x_fall, x_goto, x_idiv, x_imul, x_push, x_ret1, xc_47, xc_48, xc_49, xl_a0, xl_i1, xl_i10, xl_i2, xl_i3, xl_i4, xl_i5, xl_i6, xl_i7, xl_i8, xl_i9, xn_7, xn_9, xt_i10, xt_i4, xt_i5, xt_i6, xt_i7, xt_i8, xt_i9, y_cmp_ge_f, y_cmp_ge_t, y_cmp_ne_f, y_cmp_ne_t, y_iadd, y_if_gt_f, y_if_gt_t, y_if_le_f, y_if_le_t, y_if_lt_f, y_if_lt_t, y_isub, i_wr_id, kM_diff, Int.reduceToNat, ex_ar_same, ex_ar_ar, ex_ar_diff, ex_u_same, ex_u_diff, b2i_t, b2i_f, ex_div_nn, ex_rem_nn, Int.toNat_zero, Int.toNat_one, Int.reduceAdd, Int.reduceSub, Int.reduceMul, Int.reduceNeg, kC_ne, fC_ne] | refine bb_eq (fun _ => ?_) (fun _ => ?_) | refine bb_ne (fun _ => ?_) (fun _ => ?_) | refine bc_eq (fun _ => ?_) (fun _ => ?_) | refine bc_ne (fun _ => ?_) (fun _ => ?_) | refine bc_lt (fun _ => ?_) (fun _ => ?_) | refine bc_ge (fun _ => ?_) (fun _ => ?_) | refine bc_gt (fun _ => ?_) (fun _ => ?_) | refine bc_le (fun _ => ?_) (fun _ => ?_) | refine bi_eq (fun _ => ?_) (fun _ => ?_) | refine bi_ne (fun _ => ?_) (fun _ => ?_) | refine bi_lt (fun _ => ?_) (fun _ => ?_) | refine bi_ge (fun _ => ?_) (fun _ => ?_) | refine bi_gt (fun _ => ?_) (fun _ => ?_) | refine bi_le (fun _ => ?_) (fun _ => ?_))
        all_goals (try simp (disch := first | assumption | omega) only [if_pos, if_neg])
        all_goals exact some_eq (by omega)
theorem xc_46 {rt d : Nat} {J : Nat → List ex_V → List ex_V → ex_H → Option ex_R} {is : List Instr} {ls st : List ex_V} {L : Nat} {σ : ex_S} {n : Int → Int} {c p s : Int} (hD : RD5 σ n) (hN : NI n) (c0 : 0 ≤ c) (c1 : c < 8) (p0 : 0 ≤ p) (p1 : p ≤ 3) (s0 : 0 ≤ s) (s1 : s ≤ 9999) (hd : 1 < d) (hok : okN 8 st = true) : ex_xs rt J (ex_cd d) (.invokevirtual 46 :: is) ls (vI s :: vI p :: vI c :: vR 18 :: st) (SH L, σ) = ex_xs rt J (ex_cd d) is ls (vI (shN n c p s) :: st) (SH L, σ) := x_call1 (Or.inl rfl) rfl (sh_18 _) (Or.inl ⟨rfl, rfl⟩) (as := [vI c, vI p, vI s]) rfl rfl (okN_ok hok) rfl (sp_46 hd hD hN c0 c1 p0 p1 s0 s1)
theorem harV_nn {B : Int → Int} {a p s : Int} (hB : ∀ i : Int, 0 ≤ i → i ≤ 3 → 0 ≤ B i) (ha : 0 < a) (hs : B 0 + B 1 + B 2 + B 3 = a) (p0 : 0 ≤ p) (p1 : p ≤ 3) (s0 : 0 ≤ s) : 0 ≤ harV B a p s := by
  unfold harV
  have q : ∀ i : Int, 0 ≤ i → i ≤ 3 → 0 ≤ s * B i / a := fun i h1 h2 => Int.ediv_nonneg (Int.mul_nonneg s0 (hB i h1 h2)) (by omega)
  have m : ∀ i : Int, s * B i / a * a ≤ s * B i := fun i => Int.ediv_mul_le _ (by omega)
  have qp := q p p0 p1
  have e : (s * B 3 / a + s * B 2 / a + s * B 1 / a + s * B 0 / a) * a ≤ s * a := by
    have m0 := m 0
    have m1 := m 1
    have m2 := m 2
    have m3 := m 3
    have es : s * a = s * B 0 + s * B 1 + s * B 2 + s * B 3 := by rw [← hs, Int.mul_add, Int.mul_add, Int.mul_add]
    rw [Int.add_mul, Int.add_mul, Int.add_mul, es]
    omega
  have := Int.le_of_mul_le_mul_right e ha
  split <;> omega
theorem ck_117 {L d : Nat} {σ : ex_S} {c p s : Int} (hC : CI σ) (hd : 20 < d) : CK 117 211 [vI c, vI p, vI s] σ L d := by
  (have p0 := hC.pr.p0; have p1 := hC.pr.p1; have k0 := hC.pr.k0; have k1 := hC.pr.k1; have kq := hC.pr.q; have q0 : 0 ≤ σ 4 10 := (by omega); have q1 : σ 4 10 ≤ 16 := (by omega); have hN := hC.ni; have hR := hC.rd.g; have hD := hC.rd; have hT := hC.st)
  have b1 := hN.b1
  by_cases g : (0 ≤ c ∧ c < σ 433 1) ∧ (0 ≤ p ∧ p ≤ 3) ∧ 0 ≤ s ∧ s ≤ 9999
  · obtain ⟨g1, g2, g3⟩ := id g
    by_cases g4 : shN (σ 433) c p s = -1
    · have f3 : fC σ 433 = σ 433 := fC_ne _ (by decide)
      obtain ⟨gb, τ, r, rs, hg⟩ := rp_211 (L := L) (d := d) (σ := fC σ) (c := c) (p := p) (s := s) (by omega) (by rw [f3]; exact hN)
      have hm : harmM (fC σ) c p s = (-100006, fndM (fC σ)) := by
        unfold harmM
        rw [f3, if_pos g]
        unfold shN at g4
        by_cases z : harN (σ 433) c < 0 ∨ ((harE (σ 433) c : Nat) : Int) = σ 433 8
        · rw [if_pos z]
        · rw [if_neg z] at g4 ⊢
          by_cases y : (harR (σ 433) c).2 = 0
          · rw [if_pos y]
          · rw [if_neg y] at g4
            obtain ⟨-, B1, B2⟩ := har_all hN g1.1 (show c < 8 by omega) (fun q => z (Or.inl q)) (fun q => z (Or.inr q))
            have hb : ∀ i : Int, 0 ≤ i → i ≤ 3 → 0 ≤ (harR (σ 433) c).1 i := fun i h1 h2 => by rw [B1 i h1 h2]; exact (sbN_bd _ _ _ _ _).1
            have h0 := hb 0 (by decide) (by decide)
            have h1 := hb 1 (by decide) (by decide)
            have h2 := hb 2 (by decide) (by decide)
            have h3 := hb 3 (by decide) (by decide)
            rw [← B1 0 (by decide) (by decide), ← B1 1 (by decide) (by decide), ← B1 2 (by decide) (by decide), ← B1 3 (by decide) (by decide)] at B2
            have := harV_nn (a := (harR (σ 433) c).2) (p := p) (s := s) hb (by omega) B2.symm g2.1 g2.2 g3.1
            omega
      rw [hm] at r rs
      refine ⟨-100006, fC σ, τ, gb, ?_, r, ci_RS (ci_fnd hC) rs, ?_, ?_, ?_⟩
      · (rw [ex_cd_eq (by omega)]; show ex_ev (d - 1) 117 0 [vR 4, vI c, vI p, vI s, vL 0] [] _ = _; (repeat' first | simp (disch := first | assumption | omega | ((repeat' first | exact ok_nil | apply ok_I | apply ok_R); done) | (simp (disch := first | omega | decide) only [ex_ar_same, ex_ar_diff, kM_diff, ex_u_same, ex_u_diff]; first | assumption | omega)) only [ev_117_0, ev_117_1, ev_117_2, ev_117_3, ev_117_4, g4, gf_4_0, gf_5_0, gf_5_1, x_fall, x_goto, x_push, x_ret1, xc_132, xc_137, xc_140, xc_14_35, xc_14_6, xc_46, xl_a0, xl_i1, xl_i2, xl_i3, xl_i4, xt_i4, y_cmp_ne_f, y_cmp_ne_t, y_if_eq_f, y_if_eq_t, y_if_ne_f, y_if_ne_t, i_wr_id, kM_diff, Int.reduceToNat, ex_ar_same, ex_ar_ar, ex_ar_diff, ex_u_same, ex_u_diff, b2i_t, b2i_f, ex_div_nn, ex_rem_nn, Int.toNat_zero, Int.toNat_one, Int.reduceAdd, Int.reduceSub, Int.reduceMul, Int.reduceNeg, kC_ne, fC_ne] | refine bb_eq (fun _ => ?_) (fun _ => ?_) | refine bb_ne (fun _ => ?_) (fun _ => ?_) | refine bc_eq (fun _ => ?_) (fun _ => ?_) | refine bc_ne (fun _ => ?_) (fun _ => ?_) | refine bc_lt (fun _ => ?_) (fun _ => ?_) | refine bc_ge (fun _ => ?_) (fun _ => ?_) | refine bc_gt (fun _ => ?_) (fun _ => ?_) | refine bc_le (fun _ => ?_) (fun _ => ?_) | refine bi_eq (fun _ => ?_) (fun _ => ?_) | refine bi_ne (fun _ => ?_) (fun _ => ?_) | refine bi_lt (fun _ => ?_) (fun _ => ?_) | refine bi_ge (fun _ => ?_) (fun _ => ?_) | refine bi_gt (fun _ => ?_) (fun _ => ?_) | refine bi_le (fun _ => ?_) (fun _ => ?_)))
      · exact (rs.lo 0 (by decide)).trans (by show fndM (fC σ) 0 = σ 0; unfold fndM; rw [ex_ar_diff _ _ _ (by decide), fC_ne _ (by decide)])
      · rcases hg with e | e <;> rw [e] <;> decide
      · rcases hg with e | e <;> rw [e] <;> decide
    · obtain ⟨gb, τ, r, rs, hg⟩ := rp_211 (L := L) (d := d) (σ := σ) (c := c) (p := p) (s := s) (by omega) hN
      have hm : harmM σ c p s = (shN (σ 433) c p s, σ) := by
        unfold harmM
        rw [if_pos g]
        unfold shN at g4 ⊢
        by_cases z : harN (σ 433) c < 0 ∨ ((harE (σ 433) c : Nat) : Int) = σ 433 8
        · rw [if_pos z] at g4; exact absurd rfl g4
        · rw [if_neg z] at g4 ⊢
          by_cases y : (harR (σ 433) c).2 = 0
          · rw [if_pos y] at g4; exact absurd rfl g4
          · rw [if_neg z, if_neg y, if_neg y]
      rw [hm] at r rs
      refine ⟨shN (σ 433) c p s, σ, τ, gb, ?_, r, ci_RS hC rs, rs.lo 0 (by decide), ?_, ?_⟩
      · (rw [ex_cd_eq (by omega)]; show ex_ev (d - 1) 117 0 [vR 4, vI c, vI p, vI s, vL 0] [] _ = _; (repeat' first | simp (disch := first | assumption | omega | ((repeat' first | exact ok_nil | apply ok_I | apply ok_R); done) | (simp (disch := first | omega | decide) only [ex_ar_same, ex_ar_diff, kM_diff, ex_u_same, ex_u_diff]; first | assumption | omega)) only [ev_117_0, ev_117_1, ev_117_2, ev_117_3, ev_117_4, gf_4_0, gf_5_0, gf_5_1, x_fall, x_goto, x_push, x_ret1, xc_132, xc_137, xc_140, xc_14_35, xc_14_6, xc_46, xl_a0, xl_i1, xl_i2, xl_i3, xl_i4, xt_i4, y_cmp_ne_f, y_cmp_ne_t, y_if_eq_f, y_if_eq_t, y_if_ne_f, y_if_ne_t, i_wr_id, kM_diff, Int.reduceToNat, ex_ar_same, ex_ar_ar, ex_ar_diff, ex_u_same, ex_u_diff, b2i_t, b2i_f, ex_div_nn, ex_rem_nn, Int.toNat_zero, Int.toNat_one, Int.reduceAdd, Int.reduceSub, Int.reduceMul, Int.reduceNeg, kC_ne, fC_ne] | refine bb_eq (fun _ => ?_) (fun _ => ?_) | refine bb_ne (fun _ => ?_) (fun _ => ?_) | refine bc_eq (fun _ => ?_) (fun _ => ?_) | refine bc_ne (fun _ => ?_) (fun _ => ?_) | refine bc_lt (fun _ => ?_) (fun _ => ?_) | refine bc_ge (fun _ => ?_) (fun _ => ?_) | refine bc_gt (fun _ => ?_) (fun _ => ?_) | refine bc_le (fun _ => ?_) (fun _ => ?_) | refine bi_eq (fun _ => ?_) (fun _ => ?_) | refine bi_ne (fun _ => ?_) (fun _ => ?_) | refine bi_lt (fun _ => ?_) (fun _ => ?_) | refine bi_ge (fun _ => ?_) (fun _ => ?_) | refine bi_gt (fun _ => ?_) (fun _ => ?_) | refine bi_le (fun _ => ?_) (fun _ => ?_)))
      · rcases hg with e | e <;> rw [e] <;> decide
      · rcases hg with e | e <;> rw [e] <;> decide
  · have f3 : fC σ 433 = σ 433 := fC_ne _ (by decide)
    obtain ⟨gb, τ, r, rs, hg⟩ := rp_211 (L := L) (d := d) (σ := fC σ) (c := c) (p := p) (s := s) (by omega) (by rw [f3]; exact hN)
    have hm : harmM (fC σ) c p s = (-100001, fndM (fC σ)) := by unfold harmM; rw [f3, if_neg g]
    rw [hm] at r rs
    refine ⟨-100001, fC σ, τ, gb, ?_, r, ci_RS (ci_fnd hC) rs, ?_, ?_, ?_⟩
    · (rw [ex_cd_eq (by omega)]; show ex_ev (d - 1) 117 0 [vR 4, vI c, vI p, vI s, vL 0] [] _ = _; (repeat' first | simp (disch := first | assumption | omega | ((repeat' first | exact ok_nil | apply ok_I | apply ok_R); done) | (simp (disch := first | omega | decide) only [ex_ar_same, ex_ar_diff, kM_diff, ex_u_same, ex_u_diff]; first | assumption | omega)) only [ev_117_0, ev_117_1, ev_117_2, ev_117_3, ev_117_4, gf_4_0, gf_5_0, gf_5_1, x_fall, x_goto, x_push, x_ret1, xc_132, xc_137, xc_140, xc_14_35, xc_14_6, xc_46, xl_a0, xl_i1, xl_i2, xl_i3, xl_i4, xt_i4, y_cmp_ne_f, y_cmp_ne_t, y_if_eq_f, y_if_eq_t, y_if_ne_f, y_if_ne_t, i_wr_id, kM_diff, Int.reduceToNat, ex_ar_same, ex_ar_ar, ex_ar_diff, ex_u_same, ex_u_diff, b2i_t, b2i_f, ex_div_nn, ex_rem_nn, Int.toNat_zero, Int.toNat_one, Int.reduceAdd, Int.reduceSub, Int.reduceMul, Int.reduceNeg, kC_ne, fC_ne] | refine bb_eq (fun _ => ?_) (fun _ => ?_) | refine bb_ne (fun _ => ?_) (fun _ => ?_) | refine bc_eq (fun _ => ?_) (fun _ => ?_) | refine bc_ne (fun _ => ?_) (fun _ => ?_) | refine bc_lt (fun _ => ?_) (fun _ => ?_) | refine bc_ge (fun _ => ?_) (fun _ => ?_) | refine bc_gt (fun _ => ?_) (fun _ => ?_) | refine bc_le (fun _ => ?_) (fun _ => ?_) | refine bi_eq (fun _ => ?_) (fun _ => ?_) | refine bi_ne (fun _ => ?_) (fun _ => ?_) | refine bi_lt (fun _ => ?_) (fun _ => ?_) | refine bi_ge (fun _ => ?_) (fun _ => ?_) | refine bi_gt (fun _ => ?_) (fun _ => ?_) | refine bi_le (fun _ => ?_) (fun _ => ?_)))
      all_goals exact absurd ⟨by assumption, by assumption, by assumption⟩ g
    · exact (rs.lo 0 (by decide)).trans (by show fndM (fC σ) 0 = σ 0; unfold fndM; rw [ex_ar_diff _ _ _ (by decide), fC_ne _ (by decide)])
    · rcases hg with e | e <;> rw [e] <;> decide
    · rcases hg with e | e <;> rw [e] <;> decide
