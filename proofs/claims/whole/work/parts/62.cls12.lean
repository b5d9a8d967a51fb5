/-! the class: bits counted, what is told of a car, keys of now -/
def bcA (s : Int) : Int := ex_wr (s - ex_and (ex_ushr s 1) 1431655765)
def bcB (x : Int) : Int := ex_wr (ex_and x 858993459 + ex_and (ex_ushr x 2) 858993459)
def bcC (x : Int) : Int := ex_and (ex_wr (x + ex_ushr x 4)) 252645135
def bcD (x : Int) : Int := ex_wr (x + ex_ushr x 8)
def bcE (x : Int) : Int := ex_wr (x + ex_ushr x 16)
def bcN (s : Int) : Int := ex_and (bcE (bcD (bcC (bcB (bcA s))))) 63
theorem bc_tab : ((List.range 256).all fun s => decide (bcN (s : Int) = mnR (s : Int) 8)) = true := by decide +kernel
theorem bc_mn {s : Int} (h0 : 0 ≤ s) (h1 : s < 256) : bcN s = mnR s 8 := by
  obtain ⟨k, rfl⟩ := Int.eq_ofNat_of_zero_le h0
  exact of_decide_eq_true (List.all_eq_true.mp bc_tab k (List.mem_range.mpr (by omega)))
theorem sp_235 {d : Nat} (hd : 0 < d) {h : ex_H} {s : Int} (h0 : 0 ≤ s) (h1 : s < 256) : ex_cd d 235 [vI s] (h) = some ([vI (mnR s 8)], (h)) := by
  rw [ex_cd_eq (by omega)]
  show ex_ev (d - 1) 235 0 [vI s] [] (h) = _
  rw [← bc_mn h0 h1]
  unfold bcN bcE bcD bcC bcB bcA
  simp (disch := first | assumption | omega | ((repeat' first | exact ok_nil | apply ok_I | apply ok_R); done) | (simp (disch := first | omega | decide) only [ex_ar_same, ex_ar_diff, kM_diff, ex_u_same, ex_u_diff]; first | assumption | omega)) only [ev_235_0, x_push, x_ret1, xl_i0, xt_i0, y_iadd, y_iand, y_isub, y_iushr, kM_diff, Int.reduceToNat, ex_ar_same, ex_ar_ar, ex_ar_diff, ex_u_same, ex_u_diff, b2i_t, b2i_f, ex_div_nn, ex_rem_nn, Int.toNat_zero, Int.toNat_one, Int.reduceAdd, Int.reduceSub, Int.reduceMul, Int.reduceNeg, kC_ne, fC_ne]
theorem xc_235 {rt d : Nat} {J : Nat → List ex_V → List ex_V → ex_H → Option ex_R} {is : List Instr} {ls st : List ex_V} {h : ex_H} {s : Int} (h0 : 0 ≤ s) (h1 : s < 256) (hd : 0 < d) (hok : okN 8 st = true) : ex_xs rt J (ex_cd d) (.invokestatic 235 :: is) ls (vI s :: st) (h) = ex_xs rt J (ex_cd d) is ls (vI (mnR s 8) :: st) (h) := x_call0 (as := [vI s]) rfl rfl rfl (okN_ok hok) rfl (sp_235 hd h0 h1)
def pc8 (x : Nat) : Nat := x % 2 + x / 2 % 2 + x / 4 % 2 + x / 8 % 2 + x / 16 % 2 + x / 32 % 2 + x / 64 % 2 + x / 128 % 2
theorem mn_tab : ((List.range 256).all fun s => decide (mnR (s : Int) 8 = (pc8 s : Int))) = true := by decide +kernel
theorem mn_pc {x : Nat} (h : x < 256) : mnR (x : Int) 8 = (pc8 x : Int) := of_decide_eq_true (List.all_eq_true.mp mn_tab x (List.mem_range.mpr h))
theorem pc_tab : ((List.range 256).all fun x => (List.range 8).all fun c => decide (x / 2 ^ c % 2 = 0 → pc8 (x ||| 2 ^ c) = pc8 x + 1)) = true := by decide +kernel
theorem pc_or {x c : Nat} (hx : x < 256) (hc : c < 8) (h : x / 2 ^ c % 2 = 0) : pc8 (x ||| 2 ^ c) = pc8 x + 1 := of_decide_eq_true (List.all_eq_true.mp (List.all_eq_true.mp pc_tab x (List.mem_range.mpr hx)) c (List.mem_range.mpr hc)) h
theorem bt_tab : ((List.range 256).all fun x => (List.range 8).all fun c => (List.range 8).all fun b => decide ((x ||| 2 ^ c) / 2 ^ b % 2 = 1 → b = c ∨ x / 2 ^ b % 2 = 1)) = true := by decide +kernel
theorem bt_or {x c b : Nat} (hx : x < 256) (hc : c < 8) (hb : b < 8) (h : (x ||| 2 ^ c) / 2 ^ b % 2 = 1) : b = c ∨ x / 2 ^ b % 2 = 1 := of_decide_eq_true (List.all_eq_true.mp (List.all_eq_true.mp (List.all_eq_true.mp bt_tab x (List.mem_range.mpr hx)) c (List.mem_range.mpr hc)) b (List.mem_range.mpr hb)) h
/-- as many bits as cars -/
theorem or_pc (q : Int → Int) (lo : Int) : ∀ j : Nat, (∀ k : Int, lo ≤ k → k < lo + (j : Int) → 0 ≤ q k ∧ q k < 8) → (∀ k k' : Int, lo ≤ k → k < lo + (j : Int) → lo ≤ k' → k' < lo + (j : Int) → q k = q k' → k = k') → ∃ x : Nat, orR (fun i => ex_shl 1 (q i)) lo j = (x : Int) ∧ x < 256 ∧ pc8 x = j ∧ ∀ b : Nat, b < 8 → x / 2 ^ b % 2 = 1 → ∃ k : Int, lo ≤ k ∧ k < lo + (j : Int) ∧ q k = (b : Int)
  | 0, _, _ => ⟨0, rfl, by decide, rfl, fun b _ h => by rw [Nat.zero_div] at h; exact absurd h (by decide)⟩
  | j + 1, h1, h2 => by
    obtain ⟨x, e, hx, hp, hb⟩ := or_pc q lo j (fun k a b => h1 k a (by omega)) (fun k k' a b c d => h2 k k' a (by omega) c (by omega))
    have hq := h1 (lo + (j : Int)) (by omega) (by omega)
    obtain ⟨c, hc⟩ := Int.eq_ofNat_of_zero_le hq.1
    have c8 : c < 8 := by omega
    have hpw : 2 ^ c < 2 ^ 8 := Nat.pow_lt_pow_right (by decide) c8
    have e2 : orR (fun i => ex_shl 1 (q i)) lo (j + 1) = ((x ||| 2 ^ c : Nat) : Int) := by
      rw [orR, e, hc, ex_shl1 (by omega), ex_or_nat (by omega) (by omega)]
    have z : x / 2 ^ c % 2 = 0 := by
      rcases Nat.mod_two_eq_zero_or_one (x / 2 ^ c) with z | z
      · exact z
      · obtain ⟨k, k1, k2, k3⟩ := hb c c8 z
        have := h2 k (lo + (j : Int)) k1 (by omega) (by omega) (by omega) (by rw [k3, hc])
        omega
    refine ⟨x ||| 2 ^ c, e2, Nat.or_lt_two_pow (n := 8) hx hpw, by rw [pc_or hx c8 z, hp], ?_⟩
    intro b b8 hbb
    rcases bt_or hx c8 b8 hbb with y | y
    · exact ⟨lo + (j : Int), by omega, by omega, by rw [hc, y]⟩
    · obtain ⟨k, k1, k2, k3⟩ := hb b b8 y
      exact ⟨k, k1, by omega, k3⟩
theorem ahd_mn {n : Int → Int} (hN : NI n) {c : Int} (hs : 0 ≤ standN n c) : mnR (ahdN n c) 8 = aheadN n (standN n c) ∧ 0 ≤ ahdN n c ∧ ahdN n c < 256 := by
  have b0 := hN.b0
  rcases stand_lo n c hN.b0 hN.oM with q | ⟨q1, q2, q3, q4, q5⟩
  · omega
  · have m := hN.oM (standN n c / 8) (by omega) (by omega)
    obtain ⟨x, e, hx, hp, -⟩ := or_pc (fun i => n (51 + 8 * (standN n c / 8) + i)) (standN n c % 8 + 1) (n (46 + standN n c / 8) - (standN n c % 8 + 1)).toNat (fun k a b => hN.oP (standN n c / 8) k (by omega) (by omega) (by omega) (by omega)) (fun k k' a b a' b' h => (hN.ds (standN n c / 8) k (standN n c / 8) k' (by omega) (by omega) (by omega) (by omega) (by omega) (by omega) (by omega) (by omega) h).2)
    unfold ahdN
    rw [ahd_or, e, mn_pc hx, hp]
    unfold aheadN
    exact ⟨by omega, by omega, by omega⟩
theorem ck_90 {L d : Nat} {σ : ex_S} {c v : Int} (hC : CI σ) (hd : 20 < d) : CK 90 159 [vI c, vI v] σ L d := by
  (have p0 := hC.pr.p0; have p1 := hC.pr.p1; have k0 := hC.pr.k0; have k1 := hC.pr.k1; have kq := hC.pr.q; have q0 : 0 ≤ σ 4 10 := (by omega); have q1 : σ 4 10 ≤ 16 := (by omega); have hN := hC.ni; have hR := hC.rd.g; have hD := hC.rd; have hT := hC.st)
  have b0 := hN.b0
  have b1 := hN.b1
  by_cases g : (0 ≤ c ∧ c < σ 433 1) ∧ 0 ≤ v ∧ v ≤ 7
  · obtain ⟨g1, g2⟩ := id g
    have ew := hR.wh c g1.1 g1.2
    by_cases g6 : v = 6
    · subst g6
      have t2 : σ 432 = σ 432 := rfl
      have t3 : σ 433 = σ 433 := rfl
      have t5 : σ 435 = σ 435 := rfl
      have t6 : σ 436 = σ 436 := rfl
      have t7 : σ 437 = σ 437 := rfl
      have u1 : 0 ≤ σ 432 2 := by rw [t2]; exact k0
      have u2 : σ 432 2 ≤ 16 := by rw [t2]; exact k1
      have uN : NI (σ 433) := by rw [t3]; exact hN
      have uS : SI (σ 435) (σ 436) := by rw [t5, t6]; exact hC.si
      have := uN.a0; have := uN.b0; have := uN.a1; have := uN.b1; have := uN.a2; have := uN.b2; have := uN.a3; have := uN.b3; have := uN.a4; have := uN.b4; have := uN.a5; have := uN.b5; have := uN.a7; have := uN.b7; have := uN.a8; have := uN.b8; have := uN.a9; have := uN.b9; have := uN.a10; have := uN.b10
      have r := sp_159 (L := L) (d := d) (σ := σ) (c := c) (w := 6) (by omega) (by first | assumption | exact uN.oM | exact uN.oP | omega) (by first | assumption | exact uN.oM | exact uN.oP | omega) (by first | assumption | exact uN.oM | exact uN.oP | omega) (by first | assumption | exact uN.oM | exact uN.oP | omega) (by first | assumption | exact uN.oM | exact uN.oP | omega)
      simp only [carIsM, if_pos g, if_true] at r
      refine ck_get hC ?_ r
      (rw [ex_cd_eq (by omega)]; show ex_ev (d - 1) 90 0 [vR 4, vI c, vI 6, vL 0] [] _ = _; (repeat' first | simp (disch := first | assumption | omega | ((repeat' first | exact ok_nil | apply ok_I | apply ok_R); done) | (simp (disch := first | omega | decide) only [ex_ar_same, ex_ar_diff, kM_diff, ex_u_same, ex_u_diff]; first | assumption | omega)) only [ev_90_0, ev_90_1, ev_90_2, ev_90_3, ev_90_4, ev_90_5, ew, gf_35_12, gf_4_0, gf_5_0, gf_6_12, ld_17, ld_46, x_fall, x_goto, x_push, x_ret1, xc_132, xc_137, xc_14_35, xc_14_6, xc_17_35, xc_17_6, xc_235, xc_34_35, xc_34_6, xl_a0, xl_a3, xl_i1, xl_i2, xt_a3, y_cmp_ge_f, y_cmp_ge_t, y_cmp_ne_f, y_cmp_ne_t, y_if_eq_f, y_if_eq_t, y_if_ne_f, y_if_ne_t, i_wr_id, kM_diff, Int.reduceToNat, ex_ar_same, ex_ar_ar, ex_ar_diff, ex_u_same, ex_u_diff, b2i_t, b2i_f, ex_div_nn, ex_rem_nn, Int.toNat_zero, Int.toNat_one, Int.reduceAdd, Int.reduceSub, Int.reduceMul, Int.reduceNeg, kC_ne, fC_ne] | refine bb_eq (fun _ => ?_) (fun _ => ?_) | refine bb_ne (fun _ => ?_) (fun _ => ?_) | refine bc_eq (fun _ => ?_) (fun _ => ?_) | refine bc_ne (fun _ => ?_) (fun _ => ?_) | refine bc_lt (fun _ => ?_) (fun _ => ?_) | refine bc_ge (fun _ => ?_) (fun _ => ?_) | refine bc_gt (fun _ => ?_) (fun _ => ?_) | refine bc_le (fun _ => ?_) (fun _ => ?_) | refine bi_eq (fun _ => ?_) (fun _ => ?_) | refine bi_ne (fun _ => ?_) (fun _ => ?_) | refine bi_lt (fun _ => ?_) (fun _ => ?_) | refine bi_ge (fun _ => ?_) (fun _ => ?_) | refine bi_gt (fun _ => ?_) (fun _ => ?_) | refine bi_le (fun _ => ?_) (fun _ => ?_)))
    · by_cases g7 : v = 7
      · subst g7
        by_cases g8 : standN (σ 433) c < 0
        · have ia : (if standN (σ 433) c < 0 then 0 else ahdN (σ 433) c : Int) = 0 := if_pos g8
          have im : mnR 0 8 = 0 := rfl
          have t2 : σ 432 = σ 432 := rfl
          have t3 : σ 433 = σ 433 := rfl
          have t5 : σ 435 = σ 435 := rfl
          have t6 : σ 436 = σ 436 := rfl
          have t7 : σ 437 = σ 437 := rfl
          have u1 : 0 ≤ σ 432 2 := by rw [t2]; exact k0
          have u2 : σ 432 2 ≤ 16 := by rw [t2]; exact k1
          have uN : NI (σ 433) := by rw [t3]; exact hN
          have uS : SI (σ 435) (σ 436) := by rw [t5, t6]; exact hC.si
          have := uN.a0; have := uN.b0; have := uN.a1; have := uN.b1; have := uN.a2; have := uN.b2; have := uN.a3; have := uN.b3; have := uN.a4; have := uN.b4; have := uN.a5; have := uN.b5; have := uN.a7; have := uN.b7; have := uN.a8; have := uN.b8; have := uN.a9; have := uN.b9; have := uN.a10; have := uN.b10
          have r := sp_159 (L := L) (d := d) (σ := σ) (c := c) (w := 7) (by omega) (by first | assumption | exact uN.oM | exact uN.oP | omega) (by first | assumption | exact uN.oM | exact uN.oP | omega) (by first | assumption | exact uN.oM | exact uN.oP | omega) (by first | assumption | exact uN.oM | exact uN.oP | omega) (by first | assumption | exact uN.oM | exact uN.oP | omega)
          simp only [carIsM, if_pos g, if_neg g6, if_true, if_pos g8] at r
          refine ck_get hC ?_ r
          (rw [ex_cd_eq (by omega)]; show ex_ev (d - 1) 90 0 [vR 4, vI c, vI 7, vL 0] [] _ = _; (repeat' first | simp (disch := first | assumption | omega | ((repeat' first | exact ok_nil | apply ok_I | apply ok_R); done) | (simp (disch := first | omega | decide) only [ex_ar_same, ex_ar_diff, kM_diff, ex_u_same, ex_u_diff]; first | assumption | omega)) only [ev_90_0, ev_90_1, ev_90_2, ev_90_3, ev_90_4, ev_90_5, gf_35_12, gf_4_0, gf_5_0, gf_6_12, ia, im, ld_17, ld_46, x_fall, x_goto, x_push, x_ret1, xc_132, xc_137, xc_14_35, xc_14_6, xc_17_35, xc_17_6, xc_235, xc_34_35, xc_34_6, xl_a0, xl_a3, xl_i1, xl_i2, xt_a3, y_cmp_ge_f, y_cmp_ge_t, y_cmp_ne_f, y_cmp_ne_t, y_if_eq_f, y_if_eq_t, y_if_ne_f, y_if_ne_t, i_wr_id, kM_diff, Int.reduceToNat, ex_ar_same, ex_ar_ar, ex_ar_diff, ex_u_same, ex_u_diff, b2i_t, b2i_f, ex_div_nn, ex_rem_nn, Int.toNat_zero, Int.toNat_one, Int.reduceAdd, Int.reduceSub, Int.reduceMul, Int.reduceNeg, kC_ne, fC_ne] | refine bb_eq (fun _ => ?_) (fun _ => ?_) | refine bb_ne (fun _ => ?_) (fun _ => ?_) | refine bc_eq (fun _ => ?_) (fun _ => ?_) | refine bc_ne (fun _ => ?_) (fun _ => ?_) | refine bc_lt (fun _ => ?_) (fun _ => ?_) | refine bc_ge (fun _ => ?_) (fun _ => ?_) | refine bc_gt (fun _ => ?_) (fun _ => ?_) | refine bc_le (fun _ => ?_) (fun _ => ?_) | refine bi_eq (fun _ => ?_) (fun _ => ?_) | refine bi_ne (fun _ => ?_) (fun _ => ?_) | refine bi_lt (fun _ => ?_) (fun _ => ?_) | refine bi_ge (fun _ => ?_) (fun _ => ?_) | refine bi_gt (fun _ => ?_) (fun _ => ?_) | refine bi_le (fun _ => ?_) (fun _ => ?_)))
        · have ia : (if standN (σ 433) c < 0 then 0 else ahdN (σ 433) c : Int) = ahdN (σ 433) c := if_neg g8
          obtain ⟨im, i0, i1⟩ := ahd_mn hN (c := c) (by omega)
          have t2 : σ 432 = σ 432 := rfl
          have t3 : σ 433 = σ 433 := rfl
          have t5 : σ 435 = σ 435 := rfl
          have t6 : σ 436 = σ 436 := rfl
          have t7 : σ 437 = σ 437 := rfl
          have u1 : 0 ≤ σ 432 2 := by rw [t2]; exact k0
          have u2 : σ 432 2 ≤ 16 := by rw [t2]; exact k1
          have uN : NI (σ 433) := by rw [t3]; exact hN
          have uS : SI (σ 435) (σ 436) := by rw [t5, t6]; exact hC.si
          have := uN.a0; have := uN.b0; have := uN.a1; have := uN.b1; have := uN.a2; have := uN.b2; have := uN.a3; have := uN.b3; have := uN.a4; have := uN.b4; have := uN.a5; have := uN.b5; have := uN.a7; have := uN.b7; have := uN.a8; have := uN.b8; have := uN.a9; have := uN.b9; have := uN.a10; have := uN.b10
          have r := sp_159 (L := L) (d := d) (σ := σ) (c := c) (w := 7) (by omega) (by first | assumption | exact uN.oM | exact uN.oP | omega) (by first | assumption | exact uN.oM | exact uN.oP | omega) (by first | assumption | exact uN.oM | exact uN.oP | omega) (by first | assumption | exact uN.oM | exact uN.oP | omega) (by first | assumption | exact uN.oM | exact uN.oP | omega)
          simp only [carIsM, if_pos g, if_neg g6, if_true, if_neg g8] at r
          refine ck_get hC ?_ r
          (rw [ex_cd_eq (by omega)]; show ex_ev (d - 1) 90 0 [vR 4, vI c, vI 7, vL 0] [] _ = _; (repeat' first | simp (disch := first | assumption | omega | ((repeat' first | exact ok_nil | apply ok_I | apply ok_R); done) | (simp (disch := first | omega | decide) only [ex_ar_same, ex_ar_diff, kM_diff, ex_u_same, ex_u_diff]; first | assumption | omega)) only [ev_90_0, ev_90_1, ev_90_2, ev_90_3, ev_90_4, ev_90_5, gf_35_12, gf_4_0, gf_5_0, gf_6_12, ia, im, ld_17, ld_46, x_fall, x_goto, x_push, x_ret1, xc_132, xc_137, xc_14_35, xc_14_6, xc_17_35, xc_17_6, xc_235, xc_34_35, xc_34_6, xl_a0, xl_a3, xl_i1, xl_i2, xt_a3, y_cmp_ge_f, y_cmp_ge_t, y_cmp_ne_f, y_cmp_ne_t, y_if_eq_f, y_if_eq_t, y_if_ne_f, y_if_ne_t, i_wr_id, kM_diff, Int.reduceToNat, ex_ar_same, ex_ar_ar, ex_ar_diff, ex_u_same, ex_u_diff, b2i_t, b2i_f, ex_div_nn, ex_rem_nn, Int.toNat_zero, Int.toNat_one, Int.reduceAdd, Int.reduceSub, Int.reduceMul, Int.reduceNeg, kC_ne, fC_ne] | refine bb_eq (fun _ => ?_) (fun _ => ?_) | refine bb_ne (fun _ => ?_) (fun _ => ?_) | refine bc_eq (fun _ => ?_) (fun _ => ?_) | refine bc_ne (fun _ => ?_) (fun _ => ?_) | refine bc_lt (fun _ => ?_) (fun _ => ?_) | refine bc_ge (fun _ => ?_) (fun _ => ?_) | refine bc_gt (fun _ => ?_) (fun _ => ?_) | refine bc_le (fun _ => ?_) (fun _ => ?_) | refine bi_eq (fun _ => ?_) (fun _ => ?_) | refine bi_ne (fun _ => ?_) (fun _ => ?_) | refine bi_lt (fun _ => ?_) (fun _ => ?_) | refine bi_ge (fun _ => ?_) (fun _ => ?_) | refine bi_gt (fun _ => ?_) (fun _ => ?_) | refine bi_le (fun _ => ?_) (fun _ => ?_)))
      · have t2 : σ 432 = σ 432 := rfl
        have t3 : σ 433 = σ 433 := rfl
        have t5 : σ 435 = σ 435 := rfl
        have t6 : σ 436 = σ 436 := rfl
        have t7 : σ 437 = σ 437 := rfl
        have u1 : 0 ≤ σ 432 2 := by rw [t2]; exact k0
        have u2 : σ 432 2 ≤ 16 := by rw [t2]; exact k1
        have uN : NI (σ 433) := by rw [t3]; exact hN
        have uS : SI (σ 435) (σ 436) := by rw [t5, t6]; exact hC.si
        have := uN.a0; have := uN.b0; have := uN.a1; have := uN.b1; have := uN.a2; have := uN.b2; have := uN.a3; have := uN.b3; have := uN.a4; have := uN.b4; have := uN.a5; have := uN.b5; have := uN.a7; have := uN.b7; have := uN.a8; have := uN.b8; have := uN.a9; have := uN.b9; have := uN.a10; have := uN.b10
        have r := sp_159 (L := L) (d := d) (σ := σ) (c := c) (w := v) (by omega) (by first | assumption | exact uN.oM | exact uN.oP | omega) (by first | assumption | exact uN.oM | exact uN.oP | omega) (by first | assumption | exact uN.oM | exact uN.oP | omega) (by first | assumption | exact uN.oM | exact uN.oP | omega) (by first | assumption | exact uN.oM | exact uN.oP | omega)
        simp only [carIsM, if_pos g, if_neg g6, if_neg g7] at r
        refine ck_get hC ?_ r
        (rw [ex_cd_eq (by omega)]; show ex_ev (d - 1) 90 0 [vR 4, vI c, vI v, vL 0] [] _ = _; (repeat' first | simp (disch := first | assumption | omega | ((repeat' first | exact ok_nil | apply ok_I | apply ok_R); done) | (simp (disch := first | omega | decide) only [ex_ar_same, ex_ar_diff, kM_diff, ex_u_same, ex_u_diff]; first | assumption | omega)) only [ev_90_0, ev_90_1, ev_90_2, ev_90_3, ev_90_4, ev_90_5, gf_35_12, gf_4_0, gf_5_0, gf_6_12, ld_17, ld_46, x_fall, x_goto, x_push, x_ret1, xc_132, xc_137, xc_14_35, xc_14_6, xc_17_35, xc_17_6, xc_235, xc_34_35, xc_34_6, xl_a0, xl_a3, xl_i1, xl_i2, xt_a3, y_cmp_ge_f, y_cmp_ge_t, y_cmp_ne_f, y_cmp_ne_t, y_if_eq_f, y_if_eq_t, y_if_ne_f, y_if_ne_t, i_wr_id, kM_diff, Int.reduceToNat, ex_ar_same, ex_ar_ar, ex_ar_diff, ex_u_same, ex_u_diff, b2i_t, b2i_f, ex_div_nn, ex_rem_nn, Int.toNat_zero, Int.toNat_one, Int.reduceAdd, Int.reduceSub, Int.reduceMul, Int.reduceNeg, kC_ne, fC_ne] | refine bb_eq (fun _ => ?_) (fun _ => ?_) | refine bb_ne (fun _ => ?_) (fun _ => ?_) | refine bc_eq (fun _ => ?_) (fun _ => ?_) | refine bc_ne (fun _ => ?_) (fun _ => ?_) | refine bc_lt (fun _ => ?_) (fun _ => ?_) | refine bc_ge (fun _ => ?_) (fun _ => ?_) | refine bc_gt (fun _ => ?_) (fun _ => ?_) | refine bc_le (fun _ => ?_) (fun _ => ?_) | refine bi_eq (fun _ => ?_) (fun _ => ?_) | refine bi_ne (fun _ => ?_) (fun _ => ?_) | refine bi_lt (fun _ => ?_) (fun _ => ?_) | refine bi_ge (fun _ => ?_) (fun _ => ?_) | refine bi_gt (fun _ => ?_) (fun _ => ?_) | refine bi_le (fun _ => ?_) (fun _ => ?_)))
  · have t2 : (fC σ) 432 = σ 432 := fC_ne _ (by decide)
    have t3 : (fC σ) 433 = σ 433 := fC_ne _ (by decide)
    have t5 : (fC σ) 435 = σ 435 := fC_ne _ (by decide)
    have t6 : (fC σ) 436 = σ 436 := fC_ne _ (by decide)
    have t7 : (fC σ) 437 = σ 437 := fC_ne _ (by decide)
    have u1 : 0 ≤ (fC σ) 432 2 := by rw [t2]; exact k0
    have u2 : (fC σ) 432 2 ≤ 16 := by rw [t2]; exact k1
    have uN : NI ((fC σ) 433) := by rw [t3]; exact hN
    have uS : SI ((fC σ) 435) ((fC σ) 436) := by rw [t5, t6]; exact hC.si
    have := uN.a0; have := uN.b0; have := uN.a1; have := uN.b1; have := uN.a2; have := uN.b2; have := uN.a3; have := uN.b3; have := uN.a4; have := uN.b4; have := uN.a5; have := uN.b5; have := uN.a7; have := uN.b7; have := uN.a8; have := uN.b8; have := uN.a9; have := uN.b9; have := uN.a10; have := uN.b10
    have r := sp_159 (L := L) (d := d) (σ := fC σ) (c := c) (w := v) (by omega) (by first | assumption | exact uN.oM | exact uN.oP | omega) (by first | assumption | exact uN.oM | exact uN.oP | omega) (by first | assumption | exact uN.oM | exact uN.oP | omega) (by first | assumption | exact uN.oM | exact uN.oP | omega) (by first | assumption | exact uN.oM | exact uN.oP | omega)
    simp only [carIsM, t3, if_neg g] at r
    refine ck_fnd hC ?_ r
    (rw [ex_cd_eq (by omega)]; show ex_ev (d - 1) 90 0 [vR 4, vI c, vI v, vL 0] [] _ = _; (repeat' first | simp (disch := first | assumption | omega | ((repeat' first | exact ok_nil | apply ok_I | apply ok_R); done) | (simp (disch := first | omega | decide) only [ex_ar_same, ex_ar_diff, kM_diff, ex_u_same, ex_u_diff]; first | assumption | omega)) only [ev_90_0, ev_90_1, ev_90_2, ev_90_3, ev_90_4, ev_90_5, gf_35_12, gf_4_0, gf_5_0, gf_6_12, ld_17, ld_46, x_fall, x_goto, x_push, x_ret1, xc_132, xc_137, xc_14_35, xc_14_6, xc_17_35, xc_17_6, xc_235, xc_34_35, xc_34_6, xl_a0, xl_a3, xl_i1, xl_i2, xt_a3, y_cmp_ge_f, y_cmp_ge_t, y_cmp_ne_f, y_cmp_ne_t, y_if_eq_f, y_if_eq_t, y_if_ne_f, y_if_ne_t, i_wr_id, kM_diff, Int.reduceToNat, ex_ar_same, ex_ar_ar, ex_ar_diff, ex_u_same, ex_u_diff, b2i_t, b2i_f, ex_div_nn, ex_rem_nn, Int.toNat_zero, Int.toNat_one, Int.reduceAdd, Int.reduceSub, Int.reduceMul, Int.reduceNeg, kC_ne, fC_ne] | refine bb_eq (fun _ => ?_) (fun _ => ?_) | refine bb_ne (fun _ => ?_) (fun _ => ?_) | refine bc_eq (fun _ => ?_) (fun _ => ?_) | refine bc_ne (fun _ => ?_) (fun _ => ?_) | refine bc_lt (fun _ => ?_) (fun _ => ?_) | refine bc_ge (fun _ => ?_) (fun _ => ?_) | refine bc_gt (fun _ => ?_) (fun _ => ?_) | refine bc_le (fun _ => ?_) (fun _ => ?_) | refine bi_eq (fun _ => ?_) (fun _ => ?_) | refine bi_ne (fun _ => ?_) (fun _ => ?_) | refine bi_lt (fun _ => ?_) (fun _ => ?_) | refine bi_ge (fun _ => ?_) (fun _ => ?_) | refine bi_gt (fun _ => ?_) (fun _ => ?_) | refine bi_le (fun _ => ?_) (fun _ => ?_)))
    all_goals exact absurd ⟨by assumption, by assumption⟩ g
/-- who has a key now -/
def kwR (n : Int → Int) (h : Int) : Nat → Int
  | 0 => 0
  | c + 1 => ex_or (kwR n h c) (if keyP n (c : Int) h (n 10) then ex_shl 1 (c : Int) else 0)
theorem bz_tab : ((List.range 256).all fun x => (List.range 8).all fun c => (List.range 8).all fun b => decide ((x ||| 2 ^ c) / 2 ^ b % 2 = if b = c then 1 else x / 2 ^ b % 2)) = true := by decide +kernel
theorem bz_or {x c b : Nat} (hx : x < 256) (hc : c < 8) (hb : b < 8) : (x ||| 2 ^ c) / 2 ^ b % 2 = if b = c then 1 else x / 2 ^ b % 2 := of_decide_eq_true (List.all_eq_true.mp (List.all_eq_true.mp (List.all_eq_true.mp bz_tab x (List.mem_range.mpr hx)) c (List.mem_range.mpr hc)) b (List.mem_range.mpr hb))
theorem kw_bit (n : Int → Int) (h : Int) : ∀ j : Nat, j ≤ 8 → ∃ x : Nat, kwR n h j = (x : Int) ∧ x < 256 ∧ ∀ b : Nat, b < 8 → (x / 2 ^ b % 2 = 1 ↔ b < j ∧ keyP n (b : Int) h (n 10))
  | 0, _ => ⟨0, rfl, by decide, fun b _ => ⟨fun z => by rw [Nat.zero_div] at z; exact absurd z (by decide), fun z => by omega⟩⟩
  | j + 1, hj => by
    obtain ⟨x, e, hx, hb⟩ := kw_bit n h j (by omega)
    have hpw : 2 ^ j < 2 ^ 8 := Nat.pow_lt_pow_right (by decide) (show j < 8 by omega)
    by_cases z : keyP n (j : Int) h (n 10)
    · refine ⟨x ||| 2 ^ j, ?_, Nat.or_lt_two_pow (n := 8) hx hpw, fun b b8 => ?_⟩
      · rw [kwR, if_pos z, e, ex_shl1 (by omega), ex_or_nat (by omega) (by omega)]
      · rw [bz_or hx (by omega) b8]
        by_cases y : b = j
        · rw [if_pos y, y]; exact ⟨fun _ => ⟨by omega, z⟩, fun _ => rfl⟩
        · rw [if_neg y, hb b b8]; exact ⟨fun q => ⟨by omega, q.2⟩, fun q => ⟨by omega, q.2⟩⟩
    · refine ⟨x, ?_, hx, fun b b8 => ?_⟩
      · rw [kwR, if_neg z, e, show (0 : Int) = ((0 : Nat) : Int) from rfl, ex_or_nat (by omega) (by omega), Nat.or_zero]
      · rw [hb b b8]
        by_cases y : b = j
        · subst y; exact ⟨fun q => by omega, fun q => absurd q.2 z⟩
        · exact ⟨fun q => ⟨by omega, q.2⟩, fun q => ⟨by omega, q.2⟩⟩
theorem kw_and {n : Int → Int} (hN : NI n) {h c : Int} (h1 : 0 ≤ c) (h2 : c < n 1) : ex_and (ex_shr (kwR n h (n 1).toNat) c) 1 = b2i (keyP n c h (n 10)) := by
  have b1 := hN.b1
  obtain ⟨x, e, hx, hb⟩ := kw_bit n h (n 1).toNat (by omega)
  obtain ⟨k, rfl⟩ := Int.eq_ofNat_of_zero_le h1
  have := hb k (by omega)
  rw [e, ex_bit (by omega) (by omega)]
  by_cases z : keyP n (k : Int) h (n 10)
  · rw [b2i_t z, this.mpr ⟨by omega, z⟩]; rfl
  · rw [b2i_f z]
    rcases Nat.mod_two_eq_zero_or_one (x / 2 ^ k) with y | y
    · rw [y]; rfl
    · exact absurd (this.mp y).2 z
theorem sp_42 {d : Nat} (hd : 1 < d) {L : Nat} {σ : ex_S} {n : Int → Int} {h : Int} (hD : RD5 σ n) (hN : NI n) : ex_cd d 42 [vR 21, vI (n 1), vI h] (SH L, σ) = some ([vI (kwR n h (n 1).toNat)], (SH L, σ)) := by
  rw [ex_cd_eq (by omega)]
  show ex_ev (d - 1) 42 0 [vR 21, vI (n 1), vI h, vL 0, vL 0] [] (SH L, σ) = _
  (have := hN.a0; have := hN.b0; have := hN.a1; have := hN.b1; have := hN.a2; have := hN.b2; have := hN.a3; have := hN.b3; have := hN.a4; have := hN.b4; have := hN.a5; have := hN.b5; have := hN.a7; have := hN.b7; have := hN.a8; have := hN.b8; have := hN.a9; have := hN.b9; have := hN.a10; have := hN.b10; have := hN.oM; have := hN.oP)
  have kc := hD.kc
  have lp : ∀ i : Nat, i ≤ (n 1).toNat → ex_ev (d - 1) 42 1 [vR 21, vI (n 1), vI h, vI (kwR n h i), vI (i : Int)] [] (SH L, σ) = some ([vI (kwR n h (n 1).toNat)], (SH L, σ)) := by
    refine down ?_ ?_
    · rw [ev_42_1]
      simp (disch := first | assumption | omega | ((repeat' first | exact ok_nil | apply ok_I | apply ok_R); done) | (simp (disch := first | omega | decide) only [ex_ar_same, ex_ar_diff, kM_diff, ex_u_same, ex_u_diff]; first | assumption | omega)) only [ev_42_0, ev_42_2, ev_42_3, ev_42_4, gf_21_0, x_fall, x_goto, x_push, x_ret1, xc_41, xl_a0, xl_i1, xl_i2, xl_i3, xl_i4, xn_4, xt_i3, xt_i4, y_cmp_ge_f, y_cmp_ge_t, y_if_eq_f, y_if_eq_t, y_ior, y_ishl, i_wr_id, kM_diff, Int.reduceToNat, ex_ar_same, ex_ar_ar, ex_ar_diff, ex_u_same, ex_u_diff, b2i_t, b2i_f, ex_div_nn, ex_rem_nn, Int.toNat_zero, Int.toNat_one, Int.reduceAdd, Int.reduceSub, Int.reduceMul, Int.reduceNeg, kC_ne, fC_ne]
    · intro i hi ih
      rw [kwR] at ih
      rw [ev_42_1]
      by_cases z : keyP n (i : Int) h (n 10)
      · rw [if_pos z] at ih
        simp (disch := first | assumption | omega | ((repeat' first | exact ok_nil | apply ok_I | apply ok_R); done) | (simp (disch := first | omega | decide) only [ex_ar_same, ex_ar_diff, kM_diff, ex_u_same, ex_u_diff]; first | assumption | omega)) only [ev_42_0, ev_42_2, ev_42_3, ev_42_4, gf_21_0, kc, x_fall, x_goto, x_push, x_ret1, xc_41, xl_a0, xl_i1, xl_i2, xl_i3, xl_i4, xn_4, xt_i3, xt_i4, y_cmp_ge_f, y_cmp_ge_t, y_if_eq_f, y_if_eq_t, y_ior, y_ishl, i_wr_id, kM_diff, Int.reduceToNat, ex_ar_same, ex_ar_ar, ex_ar_diff, ex_u_same, ex_u_diff, b2i_t, b2i_f, ex_div_nn, ex_rem_nn, Int.toNat_zero, Int.toNat_one, Int.reduceAdd, Int.reduceSub, Int.reduceMul, Int.reduceNeg, kC_ne, fC_ne]
        rw [nat_cast_succ]
        exact ih
      · rw [if_neg z] at ih
        simp (disch := first | assumption | omega | ((repeat' first | exact ok_nil | apply ok_I | apply ok_R); done) | (simp (disch := first | omega | decide) only [ex_ar_same, ex_ar_diff, kM_diff, ex_u_same, ex_u_diff]; first | assumption | omega)) only [ev_42_0, ev_42_2, ev_42_3, ev_42_4, gf_21_0, kc, x_fall, x_goto, x_push, x_ret1, xc_41, xl_a0, xl_i1, xl_i2, xl_i3, xl_i4, xn_4, xt_i3, xt_i4, y_cmp_ge_f, y_cmp_ge_t, y_if_eq_f, y_if_eq_t, y_ior, y_ishl, i_wr_id, kM_diff, Int.reduceToNat, ex_ar_same, ex_ar_ar, ex_ar_diff, ex_u_same, ex_u_diff, b2i_t, b2i_f, ex_div_nn, ex_rem_nn, Int.toNat_zero, Int.toNat_one, Int.reduceAdd, Int.reduceSub, Int.reduceMul, Int.reduceNeg, kC_ne, fC_ne]
        rw [nat_cast_succ]
        exact ih
  simp (disch := first | assumption | omega | ((repeat' first | exact ok_nil | apply ok_I | apply ok_R); done) | (simp (disch := first | omega | decide) only [ex_ar_same, ex_ar_diff, kM_diff, ex_u_same, ex_u_diff]; first | assumption | omega)) only [ev_42_0, ev_42_2, ev_42_3, ev_42_4, gf_21_0, x_fall, x_goto, x_push, x_ret1, xc_41, xl_a0, xl_i1, xl_i2, xl_i3, xl_i4, xn_4, xt_i3, xt_i4, y_cmp_ge_f, y_cmp_ge_t, y_if_eq_f, y_if_eq_t, y_ior, y_ishl, i_wr_id, kM_diff, Int.reduceToNat, ex_ar_same, ex_ar_ar, ex_ar_diff, ex_u_same, ex_u_diff, b2i_t, b2i_f, ex_div_nn, ex_rem_nn, Int.toNat_zero, Int.toNat_one, Int.reduceAdd, Int.reduceSub, Int.reduceMul, Int.reduceNeg, kC_ne, fC_ne]
  exact lp 0 (by omega)
theorem xc_42 {rt d : Nat} {J : Nat → List ex_V → List ex_V → ex_H → Option ex_R} {is : List Instr} {ls st : List ex_V} {L : Nat} {σ : ex_S} {n : Int → Int} {h : Int} (hD : RD5 σ n) (hN : NI n) (hd : 1 < d) (hok : okN 8 st = true) : ex_xs rt J (ex_cd d) (.invokevirtual 42 :: is) ls (vI h :: vI (n 1) :: vR 21 :: st) (SH L, σ) = ex_xs rt J (ex_cd d) is ls (vI (kwR n h (n 1).toNat) :: st) (SH L, σ) := x_call1 (Or.inl rfl) rfl (sh_21 _) (Or.inl ⟨rfl, rfl⟩) (as := [vI (n 1), vI h]) rfl rfl (okN_ok hok) rfl (sp_42 hd hD hN)
theorem sp_135 {d : Nat} (hd : 2 < d) {L : Nat} {σ : ex_S} {n : Int → Int} (hD : RD5 σ n) (hN : NI n) : ex_cd d 135 [vR 4] (SH L, σ) = some ([vI (kwR n (n 2) (n 1).toNat)], (SH L, σ)) := by
  rw [ex_cd_eq (by omega)]
  show ex_ev (d - 1) 135 0 [vR 4] [] (SH L, σ) = _
  have ca := hD.g.ca
  have i8 := hD.i8
  simp (disch := first | assumption | omega | ((repeat' first | exact ok_nil | apply ok_I | apply ok_R); done) | (simp (disch := first | omega | decide) only [ex_ar_same, ex_ar_diff, kM_diff, ex_u_same, ex_u_diff]; first | assumption | omega)) only [ca, ev_135_0, gf_35_1, gf_4_0, gf_5_0, gf_5_2, gf_5_8, gf_6_1, i8, x_ret1, xc_42, xl_a0, i_wr_id, kM_diff, Int.reduceToNat, ex_ar_same, ex_ar_ar, ex_ar_diff, ex_u_same, ex_u_diff, b2i_t, b2i_f, ex_div_nn, ex_rem_nn, Int.toNat_zero, Int.toNat_one, Int.reduceAdd, Int.reduceSub, Int.reduceMul, Int.reduceNeg, kC_ne, fC_ne]
theorem xc_135 {rt d : Nat} {J : Nat → List ex_V → List ex_V → ex_H → Option ex_R} {is : List Instr} {ls st : List ex_V} {L : Nat} {σ : ex_S} {n : Int → Int} (hD : RD5 σ n) (hN : NI n) (hd : 2 < d) (hok : okN 8 st = true) : ex_xs rt J (ex_cd d) (.invokevirtual 135 :: is) ls (vR 4 :: st) (SH L, σ) = ex_xs rt J (ex_cd d) is ls (vI (kwR n (n 2) (n 1).toNat) :: st) (SH L, σ) := x_call1 (Or.inl rfl) rfl (sh_4 _) (Or.inl ⟨rfl, rfl⟩) (as := []) rfl rfl (okN_ok hok) rfl (sp_135 hd hD hN)
