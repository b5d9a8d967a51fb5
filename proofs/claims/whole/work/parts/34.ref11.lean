/-! the reference: fewest, step, proves -/
def fewN (n : Int → Int) (c : Int) : Int := if (frN 0 n c).isSome = true then 0 else if (frN 1 n c).isSome = true then 1 else if (frN 2 n c).isSome = true then 2 else if (frN 3 n c).isSome = true then 3 else -1
def stepN (n : Int → Int) (c : Int) (j : Nat) : Int := ((frN (fewN n c).toNat n c).getD []).getD j 0
/-- the same but for what is scratched -/
def RS (s : ex_S × ex_S) : Prop := (∀ a, a < 432 → s.2 a = s.1 a) ∧ (s.2 433 = s.1 433) ∧ (s.2 434 = s.1 434) ∧ (s.2 435 = s.1 435) ∧ (s.2 436 = s.1 436) ∧ (s.2 437 = s.1 437) ∧ (s.2 432 2 = s.1 432 2) ∧ (s.2 432 3 = s.1 432 3) ∧ (∀ i : Int, 0 ≤ i → i < 5 → s.2 447 i = s.1 447 i)
theorem RS.lo {s : ex_S × ex_S} (h : RS s) : ∀ a, a < 432 → s.2 a = s.1 a := h.1
theorem RS.c433 {s : ex_S × ex_S} (h : RS s) : s.2 433 = s.1 433 := h.2.1
theorem RS.c434 {s : ex_S × ex_S} (h : RS s) : s.2 434 = s.1 434 := h.2.2.1
theorem RS.c435 {s : ex_S × ex_S} (h : RS s) : s.2 435 = s.1 435 := h.2.2.2.1
theorem RS.c436 {s : ex_S × ex_S} (h : RS s) : s.2 436 = s.1 436 := h.2.2.2.2.1
theorem RS.c437 {s : ex_S × ex_S} (h : RS s) : s.2 437 = s.1 437 := h.2.2.2.2.2.1
theorem RS.k2 {s : ex_S × ex_S} (h : RS s) : s.2 432 2 = s.1 432 2 := h.2.2.2.2.2.2.1
theorem RS.k3 {s : ex_S × ex_S} (h : RS s) : s.2 432 3 = s.1 432 3 := h.2.2.2.2.2.2.2.1
theorem RS.tk {s : ex_S × ex_S} (h : RS s) : ∀ i : Int, 0 ≤ i → i < 5 → s.2 447 i = s.1 447 i := h.2.2.2.2.2.2.2.2
theorem RS.mk {s : ex_S × ex_S} (lo : ∀ a, a < 432 → s.2 a = s.1 a) (c433 : s.2 433 = s.1 433) (c434 : s.2 434 = s.1 434) (c435 : s.2 435 = s.1 435) (c436 : s.2 436 = s.1 436) (c437 : s.2 437 = s.1 437) (k2 : s.2 432 2 = s.1 432 2) (k3 : s.2 432 3 = s.1 432 3) (tk : ∀ i : Int, 0 ≤ i → i < 5 → s.2 447 i = s.1 447 i) : RS s := ⟨lo, c433, c434, c435, c436, c437, k2, k3, tk⟩
theorem RS.refl (σ : ex_S) : RS (σ, σ) := RS.mk (fun _ _ => rfl) rfl rfl rfl rfl rfl rfl rfl (fun _ _ _ => rfl)
theorem RS.trans {σ τ υ : ex_S} (h1 : RS (σ, τ)) (h2 : RS (τ, υ)) : RS (σ, υ) := RS.mk (fun a ha => (h2.lo a ha).trans (h1.lo a ha)) (h2.c433.trans h1.c433) (h2.c434.trans h1.c434) (h2.c435.trans h1.c435) (h2.c436.trans h1.c436) (h2.c437.trans h1.c437) (h2.k2.trans h1.k2) (h2.k3.trans h1.k3) (fun i a b => (h2.tk i a b).trans (h1.tk i a b))
theorem RS.of {σ τ : ex_S} (h : ∀ a, a ≠ 438 → a ≠ 439 → a ≠ 440 → a ≠ 441 → a ≠ 442 → a ≠ 443 → a ≠ 444 → a ≠ 445 → a ≠ 446 → a ≠ 448 → τ a = σ a) : RS (σ, τ) := RS.mk (fun a ha => h a (by omega) (by omega) (by omega) (by omega) (by omega) (by omega) (by omega) (by omega) (by omega) (by omega)) (h 433 (by decide) (by decide) (by decide) (by decide) (by decide) (by decide) (by decide) (by decide) (by decide) (by decide)) (h 434 (by decide) (by decide) (by decide) (by decide) (by decide) (by decide) (by decide) (by decide) (by decide) (by decide)) (h 435 (by decide) (by decide) (by decide) (by decide) (by decide) (by decide) (by decide) (by decide) (by decide) (by decide)) (h 436 (by decide) (by decide) (by decide) (by decide) (by decide) (by decide) (by decide) (by decide) (by decide) (by decide)) (h 437 (by decide) (by decide) (by decide) (by decide) (by decide) (by decide) (by decide) (by decide) (by decide) (by decide)) (congrFun (h 432 (by decide) (by decide) (by decide) (by decide) (by decide) (by decide) (by decide) (by decide) (by decide) (by decide)) 2) (congrFun (h 432 (by decide) (by decide) (by decide) (by decide) (by decide) (by decide) (by decide) (by decide) (by decide) (by decide)) 3) (fun i _ _ => congrFun (h 447 (by decide) (by decide) (by decide) (by decide) (by decide) (by decide) (by decide) (by decide) (by decide) (by decide)) i)
theorem RS.fnd {σ τ : ex_S} (h : RS (σ, τ)) : RS (fndM σ, fndM τ) := by
  have hk2 := h.k2
  have hk3 := h.k3
  unfold fndM
  refine RS.mk (fun a ha => ?_) ?_ ?_ ?_ ?_ ?_ ?_ ?_ (fun i h1 h2 => ?_)
  · dsimp only; rw [ex_ar_diff _ _ _ (by omega), ex_ar_diff _ _ _ (by omega)]; exact h.lo a ha
  · dsimp only; rw [ex_ar_diff _ _ _ (by omega), ex_ar_diff _ _ _ (by omega)]; exact h.c433
  · dsimp only; rw [ex_ar_diff _ _ _ (by omega), ex_ar_diff _ _ _ (by omega)]; exact h.c434
  · dsimp only; rw [ex_ar_diff _ _ _ (by omega), ex_ar_diff _ _ _ (by omega)]; exact h.c435
  · dsimp only; rw [ex_ar_diff _ _ _ (by omega), ex_ar_diff _ _ _ (by omega)]; exact h.c436
  · dsimp only; rw [ex_ar_diff _ _ _ (by omega), ex_ar_diff _ _ _ (by omega)]; exact h.c437
  · dsimp only at hk2 ⊢; rw [ex_ar_same, ex_ar_same, ex_u_diff _ _ (by omega), ex_u_diff _ _ (by omega)]; exact hk2
  · dsimp only at hk3 ⊢; rw [ex_ar_same, ex_ar_same, ex_u_same, ex_u_same, hk3]
  · dsimp only; rw [ex_ar_diff _ _ _ (by omega), ex_ar_diff _ _ _ (by omega)]; exact h.tk i h1 h2
theorem ff_181 {d L : Nat} {σ : ex_S} {c : Int} (hd : 9 < d) (hN : NI (σ 433)) (h1 : 0 ≤ c) (h2 : c < 8) : ∃ τ, ex_cd d 181 [vR 432, vI c] (SH L, σ) = some ([vI (fewN (σ 433) c)], (SH L, τ)) ∧ (∀ a, a ≠ 438 → a ≠ 439 → τ a = σ a) ∧ (∀ j : Nat, (j : Int) < fewN (σ 433) c → τ 439 (j : Int) = stepN (σ 433) c j) := by
  obtain ⟨σ0, p1, p2, -, -, p5⟩ := fr_180 0 (d := d - 1) (L := L) (σ := σ) (c := c) 0 (by omega) (by omega) hN h1 h2
  have p1' : ex_cd (d - 1) 180 [vR 432, vI c, vI 0, vI 0] (SH L, σ) = some ([vI (b2i ((frN 0 (σ 433) c).isSome = true))], (SH L, σ0)) := p1
  have e0 : σ0 433 = σ 433 := p2 433 (by decide) (by decide)
  obtain ⟨σ1, q1, q2, -, -, q5⟩ := fr_180 1 (d := d - 1) (L := L) (σ := σ0) (c := c) 0 (by omega) (by omega) (by rw [e0]; exact hN) h1 h2
  rw [e0] at q1 q5
  have q1' : ex_cd (d - 1) 180 [vR 432, vI c, vI 0, vI 1] (SH L, σ0) = some ([vI (b2i ((frN 1 (σ 433) c).isSome = true))], (SH L, σ1)) := q1
  have e1 : σ1 433 = σ 433 := (q2 433 (by decide) (by decide)).trans e0
  obtain ⟨σ2, r1, r2, -, -, r5⟩ := fr_180 2 (d := d - 1) (L := L) (σ := σ1) (c := c) 0 (by omega) (by omega) (by rw [e1]; exact hN) h1 h2
  rw [e1] at r1 r5
  have r1' : ex_cd (d - 1) 180 [vR 432, vI c, vI 0, vI 2] (SH L, σ1) = some ([vI (b2i ((frN 2 (σ 433) c).isSome = true))], (SH L, σ2)) := r1
  have e2 : σ2 433 = σ 433 := (r2 433 (by decide) (by decide)).trans e1
  obtain ⟨σ3, s1, s2, -, -, s5⟩ := fr_180 3 (d := d - 1) (L := L) (σ := σ2) (c := c) 0 (by omega) (by omega) (by rw [e2]; exact hN) h1 h2
  rw [e2] at s1 s5
  have s1' : ex_cd (d - 1) 180 [vR 432, vI c, vI 0, vI 3] (SH L, σ2) = some ([vI (b2i ((frN 3 (σ 433) c).isSome = true))], (SH L, σ3)) := s1
  have f1 : ∀ a, a ≠ 438 → a ≠ 439 → σ1 a = σ a := fun a x1 x2 => (q2 a x1 x2).trans (p2 a x1 x2)
  have f2 : ∀ a, a ≠ 438 → a ≠ 439 → σ2 a = σ a := fun a x1 x2 => (r2 a x1 x2).trans (f1 a x1 x2)
  have f3 : ∀ a, a ≠ 438 → a ≠ 439 → σ3 a = σ a := fun a x1 x2 => (s2 a x1 x2).trans (f2 a x1 x2)
  rw [ex_cd_eq (by omega)]
  show ∃ τ, ex_ev (d - 1) 181 0 [vR 432, vI c, vL 0] [] (SH L, σ) = _ ∧ _
  by_cases g0 : (frN 0 (σ 433) c).isSome = true
  · have ef : fewN (σ 433) c = 0 := if_pos g0
    refine ⟨σ0, ?_, p2, fun j hj => by omega⟩
    rw [ef]
    rw [b2i_t g0] at p1'
    simp (disch := first | assumption | omega | ((repeat' first | exact ok_nil | apply ok_I | apply ok_R); done) | (simp (disch := first | omega | decide) only [ex_ar_same, ex_ar_diff, kM_diff, ex_u_same, ex_u_diff]; first | assumption | omega)) only [(xr_180 p1'), ev_181_0, ev_181_1, ev_181_2, ev_181_3, ev_181_4, x_fall, x_goto, x_push, x_ret1, xl_a0, xl_i1, xl_i2, xn_2, xt_i2, y_cmp_gt_f, y_cmp_gt_t, y_cmp_le_f, y_cmp_le_t, y_if_ne_f, y_if_ne_t, i_wr_id, kM_diff, Int.reduceToNat, ex_ar_same, ex_ar_ar, ex_ar_diff, ex_u_same, ex_u_diff, b2i_t, b2i_f, ex_div_nn, ex_rem_nn, Int.toNat_zero, Int.toNat_one, Int.reduceAdd, Int.reduceSub, Int.reduceMul, Int.reduceNeg]
  · rw [b2i_f g0] at p1'
    by_cases g1 : (frN 1 (σ 433) c).isSome = true
    · have ef : fewN (σ 433) c = 1 := by unfold fewN; rw [if_neg g0, if_pos g1]
      refine ⟨σ1, ?_, f1, fun j hj => ?_⟩
      · rw [ef]
        rw [b2i_t g1] at q1'
        simp (disch := first | assumption | omega | ((repeat' first | exact ok_nil | apply ok_I | apply ok_R); done) | (simp (disch := first | omega | decide) only [ex_ar_same, ex_ar_diff, kM_diff, ex_u_same, ex_u_diff]; first | assumption | omega)) only [(xr_180 p1'), (xr_180 q1'), ev_181_0, ev_181_1, ev_181_2, ev_181_3, ev_181_4, x_fall, x_goto, x_push, x_ret1, xl_a0, xl_i1, xl_i2, xn_2, xt_i2, y_cmp_gt_f, y_cmp_gt_t, y_cmp_le_f, y_cmp_le_t, y_if_ne_f, y_if_ne_t, i_wr_id, kM_diff, Int.reduceToNat, ex_ar_same, ex_ar_ar, ex_ar_diff, ex_u_same, ex_u_diff, b2i_t, b2i_f, ex_div_nn, ex_rem_nn, Int.toNat_zero, Int.toNat_one, Int.reduceAdd, Int.reduceSub, Int.reduceMul, Int.reduceNeg]
      · rw [ef] at hj
        obtain ⟨p, hp⟩ := Option.isSome_iff_exists.mp g1
        have := q5 p hp j (by omega)
        unfold stepN
        rw [ef, show (1 : Int).toNat = 1 from rfl, hp]
        rw [show ((0 : Nat) : Int) + (j : Int) = (j : Int) by omega] at this
        exact this
    · rw [b2i_f g1] at q1'
      by_cases g2 : (frN 2 (σ 433) c).isSome = true
      · have ef : fewN (σ 433) c = 2 := by unfold fewN; rw [if_neg g0, if_neg g1, if_pos g2]
        refine ⟨σ2, ?_, f2, fun j hj => ?_⟩
        · rw [ef]
          rw [b2i_t g2] at r1'
          simp (disch := first | assumption | omega | ((repeat' first | exact ok_nil | apply ok_I | apply ok_R); done) | (simp (disch := first | omega | decide) only [ex_ar_same, ex_ar_diff, kM_diff, ex_u_same, ex_u_diff]; first | assumption | omega)) only [(xr_180 p1'), (xr_180 q1'), (xr_180 r1'), ev_181_0, ev_181_1, ev_181_2, ev_181_3, ev_181_4, x_fall, x_goto, x_push, x_ret1, xl_a0, xl_i1, xl_i2, xn_2, xt_i2, y_cmp_gt_f, y_cmp_gt_t, y_cmp_le_f, y_cmp_le_t, y_if_ne_f, y_if_ne_t, i_wr_id, kM_diff, Int.reduceToNat, ex_ar_same, ex_ar_ar, ex_ar_diff, ex_u_same, ex_u_diff, b2i_t, b2i_f, ex_div_nn, ex_rem_nn, Int.toNat_zero, Int.toNat_one, Int.reduceAdd, Int.reduceSub, Int.reduceMul, Int.reduceNeg]
        · rw [ef] at hj
          obtain ⟨p, hp⟩ := Option.isSome_iff_exists.mp g2
          have := r5 p hp j (by omega)
          unfold stepN
          rw [ef, show (2 : Int).toNat = 2 from rfl, hp]
          rw [show ((0 : Nat) : Int) + (j : Int) = (j : Int) by omega] at this
          exact this
      · rw [b2i_f g2] at r1'
        by_cases g3 : (frN 3 (σ 433) c).isSome = true
        · have ef : fewN (σ 433) c = 3 := by unfold fewN; rw [if_neg g0, if_neg g1, if_neg g2, if_pos g3]
          refine ⟨σ3, ?_, f3, fun j hj => ?_⟩
          · rw [ef]
            rw [b2i_t g3] at s1'
            simp (disch := first | assumption | omega | ((repeat' first | exact ok_nil | apply ok_I | apply ok_R); done) | (simp (disch := first | omega | decide) only [ex_ar_same, ex_ar_diff, kM_diff, ex_u_same, ex_u_diff]; first | assumption | omega)) only [(xr_180 p1'), (xr_180 q1'), (xr_180 r1'), (xr_180 s1'), ev_181_0, ev_181_1, ev_181_2, ev_181_3, ev_181_4, x_fall, x_goto, x_push, x_ret1, xl_a0, xl_i1, xl_i2, xn_2, xt_i2, y_cmp_gt_f, y_cmp_gt_t, y_cmp_le_f, y_cmp_le_t, y_if_ne_f, y_if_ne_t, i_wr_id, kM_diff, Int.reduceToNat, ex_ar_same, ex_ar_ar, ex_ar_diff, ex_u_same, ex_u_diff, b2i_t, b2i_f, ex_div_nn, ex_rem_nn, Int.toNat_zero, Int.toNat_one, Int.reduceAdd, Int.reduceSub, Int.reduceMul, Int.reduceNeg]
          · rw [ef] at hj
            obtain ⟨p, hp⟩ := Option.isSome_iff_exists.mp g3
            have := s5 p hp j (by omega)
            unfold stepN
            rw [ef, show (3 : Int).toNat = 3 from rfl, hp]
            rw [show ((0 : Nat) : Int) + (j : Int) = (j : Int) by omega] at this
            exact this
        · have ef : fewN (σ 433) c = -1 := by unfold fewN; rw [if_neg g0, if_neg g1, if_neg g2, if_neg g3]
          refine ⟨σ3, ?_, f3, fun j hj => by omega⟩
          rw [ef]
          rw [b2i_f g3] at s1'
          simp (disch := first | assumption | omega | ((repeat' first | exact ok_nil | apply ok_I | apply ok_R); done) | (simp (disch := first | omega | decide) only [ex_ar_same, ex_ar_diff, kM_diff, ex_u_same, ex_u_diff]; first | assumption | omega)) only [(xr_180 p1'), (xr_180 q1'), (xr_180 r1'), (xr_180 s1'), ev_181_0, ev_181_1, ev_181_2, ev_181_3, ev_181_4, x_fall, x_goto, x_push, x_ret1, xl_a0, xl_i1, xl_i2, xn_2, xt_i2, y_cmp_gt_f, y_cmp_gt_t, y_cmp_le_f, y_cmp_le_t, y_if_ne_f, y_if_ne_t, i_wr_id, kM_diff, Int.reduceToNat, ex_ar_same, ex_ar_ar, ex_ar_diff, ex_u_same, ex_u_diff, b2i_t, b2i_f, ex_div_nn, ex_rem_nn, Int.toNat_zero, Int.toNat_one, Int.reduceAdd, Int.reduceSub, Int.reduceMul, Int.reduceNeg]
theorem fewN_bd (n : Int → Int) (c : Int) : -1 ≤ fewN n c ∧ fewN n c ≤ 3 := by
  unfold fewN
  repeat' split
  all_goals omega
def fewestM (σ : ex_S) (c : Int) : Int × ex_S := if 0 ≤ c ∧ c < σ 433 1 then (if standN (σ 433) c < 0 ∨ fewN (σ 433) c < 0 then (-100006, fndM σ) else (fewN (σ 433) c, σ)) else (-100001, fndM σ)
theorem rp_182 {d L : Nat} {σ : ex_S} {c : Int} (hd : 10 < d) (hN : NI (σ 433)) : ∃ τ, ex_cd d 182 [vR 432, vI c] (SH L, σ) = some ([vI (fewestM σ c).1], (SH L, τ)) ∧ RS ((fewestM σ c).2, τ) := by
  (have := hN.a0; have := hN.b0; have := hN.a1; have := hN.b1; have := hN.a2; have := hN.b2; have := hN.a3; have := hN.b3; have := hN.a4; have := hN.b4; have := hN.a5; have := hN.b5; have := hN.a7; have := hN.b7; have := hN.a8; have := hN.b8; have := hN.a9; have := hN.b9; have := hN.a10; have := hN.b10; have := hN.oM; have := hN.oP)
  rw [ex_cd_eq (by omega)]
  show ∃ τ, ex_ev (d - 1) 182 0 [vR 432, vI c, vL 0] [] (SH L, σ) = _ ∧ _
  unfold fewestM
  by_cases g1 : 0 ≤ c ∧ c < σ 433 1
  · rw [if_pos g1]
    by_cases g2 : standN (σ 433) c < 0
    · rw [if_pos (Or.inl g2)]
      refine ⟨fndM σ, ?_, RS.refl _⟩
      simp (disch := first | assumption | omega | ((repeat' first | exact ok_nil | apply ok_I | apply ok_R); done) | (simp (disch := first | omega | decide) only [ex_ar_same, ex_ar_diff, kM_diff, ex_u_same, ex_u_diff]; first | assumption | omega)) only [ev_182_0, ev_182_1, ev_182_2, ev_182_3, ev_182_4, ev_182_5, x_fall, x_goto, x_push, x_ret1, xc_142, xc_145, xc_157, xl_a0, xl_i1, xl_i2, xt_i2, y_if_ge_f, y_if_ge_t, y_if_ne_f, y_if_ne_t, i_wr_id, kM_diff, Int.reduceToNat, ex_ar_same, ex_ar_ar, ex_ar_diff, ex_u_same, ex_u_diff, b2i_t, b2i_f, ex_div_nn, ex_rem_nn, Int.toNat_zero, Int.toNat_one, Int.reduceAdd, Int.reduceSub, Int.reduceMul, Int.reduceNeg]
    · obtain ⟨τ, r1, r2, -⟩ := ff_181 (d := d - 1) (L := L) (σ := σ) (c := c) (by omega) hN g1.1 (by omega)
      have rs : RS (σ, τ) := RS.of (fun a x1 x2 _ _ _ _ _ _ _ _ => r2 a x1 x2)
      by_cases g3 : fewN (σ 433) c < 0
      · rw [if_pos (Or.inr g3)]
        refine ⟨fndM τ, ?_, rs.fnd⟩
        simp (disch := first | assumption | omega | ((repeat' first | exact ok_nil | apply ok_I | apply ok_R); done) | (simp (disch := first | omega | decide) only [ex_ar_same, ex_ar_diff, kM_diff, ex_u_same, ex_u_diff]; first | assumption | omega)) only [(xr_181 r1), ev_182_0, ev_182_1, ev_182_2, ev_182_3, ev_182_4, ev_182_5, x_fall, x_goto, x_push, x_ret1, xc_142, xc_145, xc_157, xl_a0, xl_i1, xl_i2, xt_i2, y_if_ge_f, y_if_ge_t, y_if_ne_f, y_if_ne_t, i_wr_id, kM_diff, Int.reduceToNat, ex_ar_same, ex_ar_ar, ex_ar_diff, ex_u_same, ex_u_diff, b2i_t, b2i_f, ex_div_nn, ex_rem_nn, Int.toNat_zero, Int.toNat_one, Int.reduceAdd, Int.reduceSub, Int.reduceMul, Int.reduceNeg]
      · rw [if_neg (by omega)]
        refine ⟨τ, ?_, rs⟩
        simp (disch := first | assumption | omega | ((repeat' first | exact ok_nil | apply ok_I | apply ok_R); done) | (simp (disch := first | omega | decide) only [ex_ar_same, ex_ar_diff, kM_diff, ex_u_same, ex_u_diff]; first | assumption | omega)) only [(xr_181 r1), ev_182_0, ev_182_1, ev_182_2, ev_182_3, ev_182_4, ev_182_5, x_fall, x_goto, x_push, x_ret1, xc_142, xc_145, xc_157, xl_a0, xl_i1, xl_i2, xt_i2, y_if_ge_f, y_if_ge_t, y_if_ne_f, y_if_ne_t, i_wr_id, kM_diff, Int.reduceToNat, ex_ar_same, ex_ar_ar, ex_ar_diff, ex_u_same, ex_u_diff, b2i_t, b2i_f, ex_div_nn, ex_rem_nn, Int.toNat_zero, Int.toNat_one, Int.reduceAdd, Int.reduceSub, Int.reduceMul, Int.reduceNeg]
  · rw [if_neg g1]
    refine ⟨fndM σ, ?_, RS.refl _⟩
    simp (disch := first | assumption | omega | ((repeat' first | exact ok_nil | apply ok_I | apply ok_R); done) | (simp (disch := first | omega | decide) only [ex_ar_same, ex_ar_diff, kM_diff, ex_u_same, ex_u_diff]; first | assumption | omega)) only [ev_182_0, ev_182_1, ev_182_2, ev_182_3, ev_182_4, ev_182_5, x_fall, x_goto, x_push, x_ret1, xc_142, xc_145, xc_157, xl_a0, xl_i1, xl_i2, xt_i2, y_if_ge_f, y_if_ge_t, y_if_ne_f, y_if_ne_t, i_wr_id, kM_diff, Int.reduceToNat, ex_ar_same, ex_ar_ar, ex_ar_diff, ex_u_same, ex_u_diff, b2i_t, b2i_f, ex_div_nn, ex_rem_nn, Int.toNat_zero, Int.toNat_one, Int.reduceAdd, Int.reduceSub, Int.reduceMul, Int.reduceNeg]
def stepM (σ : ex_S) (c i : Int) : Int × ex_S := if (0 ≤ c ∧ c < σ 433 1) ∧ 0 ≤ i then (if standN (σ 433) c < 0 ∨ fewN (σ 433) c ≤ i then (-100006, fndM σ) else (stepN (σ 433) c i.toNat, σ)) else (-100001, fndM σ)
theorem rp_183 {d L : Nat} {σ : ex_S} {c i : Int} (hd : 10 < d) (hN : NI (σ 433)) : ∃ τ, ex_cd d 183 [vR 432, vI c, vI i] (SH L, σ) = some ([vI (stepM σ c i).1], (SH L, τ)) ∧ RS ((stepM σ c i).2, τ) := by
  (have := hN.a0; have := hN.b0; have := hN.a1; have := hN.b1; have := hN.a2; have := hN.b2; have := hN.a3; have := hN.b3; have := hN.a4; have := hN.b4; have := hN.a5; have := hN.b5; have := hN.a7; have := hN.b7; have := hN.a8; have := hN.b8; have := hN.a9; have := hN.b9; have := hN.a10; have := hN.b10; have := hN.oM; have := hN.oP)
  rw [ex_cd_eq (by omega)]
  show ∃ τ, ex_ev (d - 1) 183 0 [vR 432, vI c, vI i, vL 0] [] (SH L, σ) = _ ∧ _
  unfold stepM
  by_cases g1 : 0 ≤ c ∧ c < σ 433 1
  · by_cases g0 : 0 ≤ i
    · rw [if_pos ⟨g1, g0⟩]
      by_cases g2 : standN (σ 433) c < 0
      · rw [if_pos (Or.inl g2)]
        refine ⟨fndM σ, ?_, RS.refl _⟩
        simp (disch := first | assumption | omega | ((repeat' first | exact ok_nil | apply ok_I | apply ok_R); done) | (simp (disch := first | omega | decide) only [ex_ar_same, ex_ar_diff, kM_diff, ex_u_same, ex_u_diff]; first | assumption | omega)) only [ev_183_0, ev_183_1, ev_183_2, ev_183_3, ev_183_4, ev_183_5, ev_183_6, gf_432_8, ld_439, x_fall, x_goto, x_push, x_ret1, xc_142, xc_145, xc_157, xl_a0, xl_i1, xl_i2, xl_i3, xt_i3, y_cmp_lt_f, y_cmp_lt_t, y_if_eq_f, y_if_eq_t, y_if_ge_f, y_if_ge_t, i_wr_id, kM_diff, Int.reduceToNat, ex_ar_same, ex_ar_ar, ex_ar_diff, ex_u_same, ex_u_diff, b2i_t, b2i_f, ex_div_nn, ex_rem_nn, Int.toNat_zero, Int.toNat_one, Int.reduceAdd, Int.reduceSub, Int.reduceMul, Int.reduceNeg]
      · obtain ⟨τ, r1, r2, r3⟩ := ff_181 (d := d - 1) (L := L) (σ := σ) (c := c) (by omega) hN g1.1 (by omega)
        have rs : RS (σ, τ) := RS.of (fun a x1 x2 _ _ _ _ _ _ _ _ => r2 a x1 x2)
        have fb := fewN_bd (σ 433) c
        by_cases g3 : fewN (σ 433) c ≤ i
        · rw [if_pos (Or.inr g3)]
          refine ⟨fndM τ, ?_, rs.fnd⟩
          simp (disch := first | assumption | omega | ((repeat' first | exact ok_nil | apply ok_I | apply ok_R); done) | (simp (disch := first | omega | decide) only [ex_ar_same, ex_ar_diff, kM_diff, ex_u_same, ex_u_diff]; first | assumption | omega)) only [(xr_181 r1), ev_183_0, ev_183_1, ev_183_2, ev_183_3, ev_183_4, ev_183_5, ev_183_6, gf_432_8, ld_439, x_fall, x_goto, x_push, x_ret1, xc_142, xc_145, xc_157, xl_a0, xl_i1, xl_i2, xl_i3, xt_i3, y_cmp_lt_f, y_cmp_lt_t, y_if_eq_f, y_if_eq_t, y_if_ge_f, y_if_ge_t, i_wr_id, kM_diff, Int.reduceToNat, ex_ar_same, ex_ar_ar, ex_ar_diff, ex_u_same, ex_u_diff, b2i_t, b2i_f, ex_div_nn, ex_rem_nn, Int.toNat_zero, Int.toNat_one, Int.reduceAdd, Int.reduceSub, Int.reduceMul, Int.reduceNeg]
        · rw [if_neg (by omega)]
          have := r3 i.toNat (by omega)
          rw [show ((i.toNat : Nat) : Int) = i by omega] at this
          refine ⟨τ, ?_, rs⟩
          simp (disch := first | assumption | omega | ((repeat' first | exact ok_nil | apply ok_I | apply ok_R); done) | (simp (disch := first | omega | decide) only [ex_ar_same, ex_ar_diff, kM_diff, ex_u_same, ex_u_diff]; first | assumption | omega)) only [(xr_181 r1), ev_183_0, ev_183_1, ev_183_2, ev_183_3, ev_183_4, ev_183_5, ev_183_6, gf_432_8, ld_439, this, x_fall, x_goto, x_push, x_ret1, xc_142, xc_145, xc_157, xl_a0, xl_i1, xl_i2, xl_i3, xt_i3, y_cmp_lt_f, y_cmp_lt_t, y_if_eq_f, y_if_eq_t, y_if_ge_f, y_if_ge_t, i_wr_id, kM_diff, Int.reduceToNat, ex_ar_same, ex_ar_ar, ex_ar_diff, ex_u_same, ex_u_diff, b2i_t, b2i_f, ex_div_nn, ex_rem_nn, Int.toNat_zero, Int.toNat_one, Int.reduceAdd, Int.reduceSub, Int.reduceMul, Int.reduceNeg]
    · rw [if_neg (fun z => g0 z.2)]
      refine ⟨fndM σ, ?_, RS.refl _⟩
      simp (disch := first | assumption | omega | ((repeat' first | exact ok_nil | apply ok_I | apply ok_R); done) | (simp (disch := first | omega | decide) only [ex_ar_same, ex_ar_diff, kM_diff, ex_u_same, ex_u_diff]; first | assumption | omega)) only [ev_183_0, ev_183_1, ev_183_2, ev_183_3, ev_183_4, ev_183_5, ev_183_6, gf_432_8, ld_439, x_fall, x_goto, x_push, x_ret1, xc_142, xc_145, xc_157, xl_a0, xl_i1, xl_i2, xl_i3, xt_i3, y_cmp_lt_f, y_cmp_lt_t, y_if_eq_f, y_if_eq_t, y_if_ge_f, y_if_ge_t, i_wr_id, kM_diff, Int.reduceToNat, ex_ar_same, ex_ar_ar, ex_ar_diff, ex_u_same, ex_u_diff, b2i_t, b2i_f, ex_div_nn, ex_rem_nn, Int.toNat_zero, Int.toNat_one, Int.reduceAdd, Int.reduceSub, Int.reduceMul, Int.reduceNeg]
  · rw [if_neg (fun z => g1 z.1)]
    refine ⟨fndM σ, ?_, RS.refl _⟩
    simp (disch := first | assumption | omega | ((repeat' first | exact ok_nil | apply ok_I | apply ok_R); done) | (simp (disch := first | omega | decide) only [ex_ar_same, ex_ar_diff, kM_diff, ex_u_same, ex_u_diff]; first | assumption | omega)) only [ev_183_0, ev_183_1, ev_183_2, ev_183_3, ev_183_4, ev_183_5, ev_183_6, gf_432_8, ld_439, x_fall, x_goto, x_push, x_ret1, xc_142, xc_145, xc_157, xl_a0, xl_i1, xl_i2, xl_i3, xt_i3, y_cmp_lt_f, y_cmp_lt_t, y_if_eq_f, y_if_eq_t, y_if_ge_f, y_if_ge_t, i_wr_id, kM_diff, Int.reduceToNat, ex_ar_same, ex_ar_ar, ex_ar_diff, ex_u_same, ex_u_diff, b2i_t, b2i_f, ex_div_nn, ex_rem_nn, Int.toNat_zero, Int.toNat_one, Int.reduceAdd, Int.reduceSub, Int.reduceMul, Int.reduceNeg]
abbrev okC (n : Int → Int) (c x : Int) : Prop := 0 ≤ x ∧ (0 ≤ x / 8 ∧ x / 8 < n 1) ∧ x / 8 ≠ c ∧ (0 ≤ x % 8 ∧ x % 8 < n 0) ∧ hindN n (x / 8) (x % 8) = 0
def prA (a : Int → Int) (s c : Int) : Nat → Nat → (Int → Int) → Int
  | i, 0, n => if freeP n c then -1 else (i : Int)
  | i, j + 1, n => if okC n c (a (20 * s + (i : Int))) then prA a s c (i + 1) j (doesF n (a (20 * s + (i : Int)) / 8) (a (20 * s + (i : Int)) % 8)) else (i : Int)
def provesM (σ : ex_S) (c s : Int) : Int × ex_S := if (0 ≤ c ∧ c < σ 433 1) ∧ 0 ≤ s ∧ s ≤ 3 then (if σ 435 s = 0 then (-100002, fndM σ) else if standN (σ 433) c < 0 then (-100006, fndM σ) else (prA (σ 437) s c 0 (σ 436 s).toNat (σ 433), σ)) else (-100001, fndM σ)
theorem rp_184 {d L : Nat} {σ : ex_S} {c s : Int} (hd : 10 < d) (hN : NI (σ 433)) (hS : SI (σ 435) (σ 436)) (h7 : ∀ k : Int, 0 ≤ k → k < 80 → -2147483648 ≤ σ 437 k ∧ σ 437 k ≤ 2147483647) : ∃ τ, ex_cd d 184 [vR 432, vI c, vI s] (SH L, σ) = some ([vI (provesM σ c s).1], (SH L, τ)) ∧ RS ((provesM σ c s).2, τ) := by
  (have := hN.a0; have := hN.b0; have := hN.a1; have := hN.b1; have := hN.a2; have := hN.b2; have := hN.a3; have := hN.b3; have := hN.a4; have := hN.b4; have := hN.a5; have := hN.b5; have := hN.a7; have := hN.b7; have := hN.a8; have := hN.b8; have := hN.a9; have := hN.b9; have := hN.a10; have := hN.b10; have := hN.oM; have := hN.oP)
  rw [ex_cd_eq (by omega)]
  show ∃ τ, ex_ev (d - 1) 184 0 [vR 432, vI c, vI s, vL 0, vL 0, vL 0] [] (SH L, σ) = _ ∧ _
  unfold provesM
  by_cases g1 : 0 ≤ c ∧ c < σ 433 1
  · by_cases g2 : 0 ≤ s ∧ s ≤ 3
    · rw [if_pos ⟨g1, g2⟩]
      obtain ⟨b1, b2, b3⟩ := hS s g2.1 g2.2
      by_cases g3 : σ 435 s = 0
      · rw [if_pos g3]
        refine ⟨fndM σ, ?_, RS.refl _⟩
        simp (disch := first | assumption | omega | ((repeat' first | exact ok_nil | apply ok_I | apply ok_R); done) | (simp (disch := first | omega | decide) only [ex_ar_same, ex_ar_diff, kM_diff, ex_u_same, ex_u_diff]; first | assumption | omega)) only [ev_184_0, ev_184_1, ev_184_10, ev_184_11, ev_184_2, ev_184_3, ev_184_4, ev_184_6, ev_184_7, ev_184_8, ev_184_9, gf_432_4, gf_432_5, gf_432_6, ld_435, ld_436, ld_437, x_fall, x_goto, x_iadd, x_idiv, x_imul, x_irem, x_push, x_ret1, xc_142, xc_144, xc_145, xc_157, xc_165, xc_170, xc_171, xc_178, xc_179, xc_230, xl_a0, xl_i1, xl_i2, xl_i3, xl_i4, xl_i5, xn_3, xt_i3, xt_i4, xt_i5, y_cmp_eq_f, y_cmp_eq_t, y_cmp_ge_f, y_cmp_ge_t, y_if_eq_f, y_if_eq_t, y_if_ge_f, y_if_ge_t, y_if_lt_f, y_if_lt_t, y_if_ne_f, y_if_ne_t, i_wr_id, kM_diff, Int.reduceToNat, ex_ar_same, ex_ar_ar, ex_ar_diff, ex_u_same, ex_u_diff, b2i_t, b2i_f, ex_div_nn, ex_rem_nn, Int.toNat_zero, Int.toNat_one, Int.reduceAdd, Int.reduceSub, Int.reduceMul, Int.reduceNeg]
      · rw [if_neg g3]
        by_cases g4 : standN (σ 433) c < 0
        · rw [if_pos g4]
          refine ⟨fndM σ, ?_, RS.refl _⟩
          simp (disch := first | assumption | omega | ((repeat' first | exact ok_nil | apply ok_I | apply ok_R); done) | (simp (disch := first | omega | decide) only [ex_ar_same, ex_ar_diff, kM_diff, ex_u_same, ex_u_diff]; first | assumption | omega)) only [ev_184_0, ev_184_1, ev_184_10, ev_184_11, ev_184_2, ev_184_3, ev_184_4, ev_184_6, ev_184_7, ev_184_8, ev_184_9, gf_432_4, gf_432_5, gf_432_6, ld_435, ld_436, ld_437, x_fall, x_goto, x_iadd, x_idiv, x_imul, x_irem, x_push, x_ret1, xc_142, xc_144, xc_145, xc_157, xc_165, xc_170, xc_171, xc_178, xc_179, xc_230, xl_a0, xl_i1, xl_i2, xl_i3, xl_i4, xl_i5, xn_3, xt_i3, xt_i4, xt_i5, y_cmp_eq_f, y_cmp_eq_t, y_cmp_ge_f, y_cmp_ge_t, y_if_eq_f, y_if_eq_t, y_if_ge_f, y_if_ge_t, y_if_lt_f, y_if_lt_t, y_if_ne_f, y_if_ne_t, i_wr_id, kM_diff, Int.reduceToNat, ex_ar_same, ex_ar_ar, ex_ar_diff, ex_u_same, ex_u_diff, b2i_t, b2i_f, ex_div_nn, ex_rem_nn, Int.toNat_zero, Int.toNat_one, Int.reduceAdd, Int.reduceSub, Int.reduceMul, Int.reduceNeg]
        · rw [if_neg g4]
          have bk : ∀ τ : ex_S, (∀ j : Int, 0 ≤ j → j < 50 → τ 438 j = σ 433 (41 + j)) → (∀ z : Int, z < 41 ∨ 91 ≤ z → τ 433 z = σ 433 z) → pyF (τ 433) (fun j => τ 438 (0 + j)) 41 50 = σ 433 := by
            intro τ x1 x2
            have := back_41 (n := σ 433) (n2 := τ 433) (A := τ 438) (k := 0) (fun j j1 j2 => by rw [show 50 * (0 : Int) + j = j by omega]; exact x1 j j1 j2) x2
            exact this
          have rsb : ∀ τ : ex_S, (∀ a, a ≠ 433 → a ≠ 438 → τ a = σ a) → RS (σ, ex_ar τ 433 (σ 433)) := by
            intro τ x1
            refine RS.of (fun a y1 _ _ _ _ _ _ _ _ _ => ?_)
            by_cases z : a = 433
            · subst z; rw [ex_ar_same]
            · rw [ex_ar_diff _ _ _ z]; exact x1 a z y1
          have lp : ∀ i : Nat, i ≤ (σ 436 s).toNat → ∀ (τ : ex_S) (w : ex_V), (∀ a, a ≠ 433 → a ≠ 438 → τ a = σ a) → (∀ j : Int, 0 ≤ j → j < 50 → τ 438 j = σ 433 (41 + j)) → (∀ z : Int, z < 41 ∨ 91 ≤ z → τ 433 z = σ 433 z) → NI (τ 433) → ∃ υ, ex_ev (d - 1) 184 5 [vR 432, vI c, vI s, vI (i : Int), vI 1, w] [] (SH L, τ) = some ([vI (prA (σ 437) s c i ((σ 436 s).toNat - i) (τ 433))], (SH L, υ)) ∧ RS (σ, υ) := by
            refine down ?_ ?_
            · intro τ w t1 t2 t3 hM
              have e436 := t1 436 (by decide) (by decide)
              have bk' := bk τ t2 t3
              refine ⟨ex_ar τ 433 (σ 433), ?_, rsb τ t1⟩
              have u0 := hM.a0
              have u1 := hM.b0
              have u2 := hM.oM
              rw [ev_184_5, Nat.sub_self, prA]
              by_cases q : freeP (τ 433) c
              · rw [if_pos q]
                simp (disch := first | assumption | omega | ((repeat' first | exact ok_nil | apply ok_I | apply ok_R); done) | (simp (disch := first | omega | decide) only [ex_ar_same, ex_ar_diff, kM_diff, ex_u_same, ex_u_diff]; first | assumption | omega)) only [bk', e436, ev_184_0, ev_184_1, ev_184_10, ev_184_11, ev_184_2, ev_184_3, ev_184_4, ev_184_6, ev_184_7, ev_184_8, ev_184_9, gf_432_4, gf_432_5, gf_432_6, ld_435, ld_436, ld_437, x_fall, x_goto, x_iadd, x_idiv, x_imul, x_irem, x_push, x_ret1, xc_142, xc_144, xc_145, xc_157, xc_165, xc_170, xc_171, xc_178, xc_179, xc_230, xl_a0, xl_i1, xl_i2, xl_i3, xl_i4, xl_i5, xn_3, xt_i3, xt_i4, xt_i5, y_cmp_eq_f, y_cmp_eq_t, y_cmp_ge_f, y_cmp_ge_t, y_if_eq_f, y_if_eq_t, y_if_ge_f, y_if_ge_t, y_if_lt_f, y_if_lt_t, y_if_ne_f, y_if_ne_t, i_wr_id, kM_diff, Int.reduceToNat, ex_ar_same, ex_ar_ar, ex_ar_diff, ex_u_same, ex_u_diff, b2i_t, b2i_f, ex_div_nn, ex_rem_nn, Int.toNat_zero, Int.toNat_one, Int.reduceAdd, Int.reduceSub, Int.reduceMul, Int.reduceNeg]
              · rw [if_neg q]
                simp (disch := first | assumption | omega | ((repeat' first | exact ok_nil | apply ok_I | apply ok_R); done) | (simp (disch := first | omega | decide) only [ex_ar_same, ex_ar_diff, kM_diff, ex_u_same, ex_u_diff]; first | assumption | omega)) only [bk', e436, ev_184_0, ev_184_1, ev_184_10, ev_184_11, ev_184_2, ev_184_3, ev_184_4, ev_184_6, ev_184_7, ev_184_8, ev_184_9, gf_432_4, gf_432_5, gf_432_6, ld_435, ld_436, ld_437, x_fall, x_goto, x_iadd, x_idiv, x_imul, x_irem, x_push, x_ret1, xc_142, xc_144, xc_145, xc_157, xc_165, xc_170, xc_171, xc_178, xc_179, xc_230, xl_a0, xl_i1, xl_i2, xl_i3, xl_i4, xl_i5, xn_3, xt_i3, xt_i4, xt_i5, y_cmp_eq_f, y_cmp_eq_t, y_cmp_ge_f, y_cmp_ge_t, y_if_eq_f, y_if_eq_t, y_if_ge_f, y_if_ge_t, y_if_lt_f, y_if_lt_t, y_if_ne_f, y_if_ne_t, i_wr_id, kM_diff, Int.reduceToNat, ex_ar_same, ex_ar_ar, ex_ar_diff, ex_u_same, ex_u_diff, b2i_t, b2i_f, ex_div_nn, ex_rem_nn, Int.toNat_zero, Int.toNat_one, Int.reduceAdd, Int.reduceSub, Int.reduceMul, Int.reduceNeg]
            · intro i hi ih τ w t1 t2 t3 hM
              have e436 := t1 436 (by decide) (by decide)
              have e437 := t1 437 (by decide) (by decide)
              have bk' := bk τ t2 t3
              have u0 := hM.a0
              have u1 := hM.b0
              have u2 := hM.a1
              have u3 := hM.b1
              have x7 := h7 (20 * s + (i : Int)) (by omega) (by omega)
              rw [show (σ 436 s).toNat - i = ((σ 436 s).toNat - (i + 1)) + 1 by omega, prA]
              generalize hx : σ 437 (20 * s + (i : Int)) = x at *
              by_cases q : okC (τ 433) c x
              · rw [if_pos q]
                obtain ⟨o1, o2, o3, o4, o5⟩ := q
                obtain ⟨s1, s2, s3, s4, s5, s6, s7⟩ := hind_0 o5
                have hM2 := (does_st hM o2.1 o2.2 o4.1 o4.2 s3 s2 (fun z => s4 (Or.inr z))).1
                obtain ⟨υ, r1, r2⟩ := ih (ex_ar τ 433 (doesF (τ 433) (x / 8) (x % 8))) (vI x) (fun a y1 y2 => by rw [ex_ar_diff _ _ _ y1]; exact t1 a y1 y2) (fun j j1 j2 => by rw [ex_ar_diff _ _ _ (by decide)]; exact t2 j j1 j2) (fun z hz => by rw [ex_ar_same, doesF_lo hM o4.1 (by omega) s1 hz]; exact t3 z hz) (by rw [ex_ar_same]; exact hM2)
                rw [ex_ar_same] at r1
                refine ⟨υ, ?_, r2⟩
                rw [ev_184_5]
                simp (disch := first | assumption | omega | ((repeat' first | exact ok_nil | apply ok_I | apply ok_R); done) | (simp (disch := first | omega | decide) only [ex_ar_same, ex_ar_diff, kM_diff, ex_u_same, ex_u_diff]; first | assumption | omega)) only [e436, e437, ev_184_0, ev_184_1, ev_184_10, ev_184_11, ev_184_2, ev_184_3, ev_184_4, ev_184_6, ev_184_7, ev_184_8, ev_184_9, gf_432_4, gf_432_5, gf_432_6, hx, ld_435, ld_436, ld_437, x_fall, x_goto, x_iadd, x_idiv, x_imul, x_irem, x_push, x_ret1, xc_142, xc_144, xc_145, xc_157, xc_165, xc_170, xc_171, xc_178, xc_179, xc_230, xl_a0, xl_i1, xl_i2, xl_i3, xl_i4, xl_i5, xn_3, xt_i3, xt_i4, xt_i5, y_cmp_eq_f, y_cmp_eq_t, y_cmp_ge_f, y_cmp_ge_t, y_if_eq_f, y_if_eq_t, y_if_ge_f, y_if_ge_t, y_if_lt_f, y_if_lt_t, y_if_ne_f, y_if_ne_t, i_wr_id, kM_diff, Int.reduceToNat, ex_ar_same, ex_ar_ar, ex_ar_diff, ex_u_same, ex_u_diff, b2i_t, b2i_f, ex_div_nn, ex_rem_nn, Int.toNat_zero, Int.toNat_one, Int.reduceAdd, Int.reduceSub, Int.reduceMul, Int.reduceNeg]
                rw [nat_cast_succ]
                exact r1
              · rw [if_neg q]
                have fl : ∀ w : ex_V, ex_ev (d - 1) 184 5 [vR 432, vI c, vI s, vI (i : Int), vI 0, w] [] (SH L, τ) = some ([vI (i : Int)], (SH L, ex_ar τ 433 (σ 433))) := by
                  intro w
                  rw [ev_184_5]
                  simp (disch := first | assumption | omega | ((repeat' first | exact ok_nil | apply ok_I | apply ok_R); done) | (simp (disch := first | omega | decide) only [ex_ar_same, ex_ar_diff, kM_diff, ex_u_same, ex_u_diff]; first | assumption | omega)) only [bk', e436, ev_184_0, ev_184_1, ev_184_10, ev_184_11, ev_184_2, ev_184_3, ev_184_4, ev_184_6, ev_184_7, ev_184_8, ev_184_9, gf_432_4, gf_432_5, gf_432_6, ld_435, ld_436, ld_437, x_fall, x_goto, x_iadd, x_idiv, x_imul, x_irem, x_push, x_ret1, xc_142, xc_144, xc_145, xc_157, xc_165, xc_170, xc_171, xc_178, xc_179, xc_230, xl_a0, xl_i1, xl_i2, xl_i3, xl_i4, xl_i5, xn_3, xt_i3, xt_i4, xt_i5, y_cmp_eq_f, y_cmp_eq_t, y_cmp_ge_f, y_cmp_ge_t, y_if_eq_f, y_if_eq_t, y_if_ge_f, y_if_ge_t, y_if_lt_f, y_if_lt_t, y_if_ne_f, y_if_ne_t, i_wr_id, kM_diff, Int.reduceToNat, ex_ar_same, ex_ar_ar, ex_ar_diff, ex_u_same, ex_u_diff, b2i_t, b2i_f, ex_div_nn, ex_rem_nn, Int.toNat_zero, Int.toNat_one, Int.reduceAdd, Int.reduceSub, Int.reduceMul, Int.reduceNeg]
                refine ⟨ex_ar τ 433 (σ 433), ?_, rsb τ t1⟩
                rw [ev_184_5]
                (repeat' first | simp (disch := first | assumption | omega | ((repeat' first | exact ok_nil | apply ok_I | apply ok_R); done) | (simp (disch := first | omega | decide) only [ex_ar_same, ex_ar_diff, kM_diff, ex_u_same, ex_u_diff]; first | assumption | omega)) only [e436, e437, ev_184_0, ev_184_1, ev_184_10, ev_184_11, ev_184_2, ev_184_3, ev_184_4, ev_184_6, ev_184_7, ev_184_8, ev_184_9, gf_432_4, gf_432_5, gf_432_6, hx, ld_435, ld_436, ld_437, x_fall, x_goto, x_iadd, x_idiv, x_imul, x_irem, x_push, x_ret1, xc_142, xc_144, xc_145, xc_157, xc_165, xc_170, xc_171, xc_178, xc_179, xc_230, xl_a0, xl_i1, xl_i2, xl_i3, xl_i4, xl_i5, xn_3, xt_i3, xt_i4, xt_i5, y_cmp_eq_f, y_cmp_eq_t, y_cmp_ge_f, y_cmp_ge_t, y_if_eq_f, y_if_eq_t, y_if_ge_f, y_if_ge_t, y_if_lt_f, y_if_lt_t, y_if_ne_f, y_if_ne_t, i_wr_id, kM_diff, Int.reduceToNat, ex_ar_same, ex_ar_ar, ex_ar_diff, ex_u_same, ex_u_diff, b2i_t, b2i_f, ex_div_nn, ex_rem_nn, Int.toNat_zero, Int.toNat_one, Int.reduceAdd, Int.reduceSub, Int.reduceMul, Int.reduceNeg] | refine bb_eq (fun _ => ?_) (fun _ => ?_) | refine bb_ne (fun _ => ?_) (fun _ => ?_) | refine bc_eq (fun _ => ?_) (fun _ => ?_) | refine bc_ne (fun _ => ?_) (fun _ => ?_) | refine bc_lt (fun _ => ?_) (fun _ => ?_) | refine bc_ge (fun _ => ?_) (fun _ => ?_) | refine bc_gt (fun _ => ?_) (fun _ => ?_) | refine bc_le (fun _ => ?_) (fun _ => ?_) | refine bi_eq (fun _ => ?_) (fun _ => ?_) | refine bi_ne (fun _ => ?_) (fun _ => ?_) | refine bi_lt (fun _ => ?_) (fun _ => ?_) | refine bi_ge (fun _ => ?_) (fun _ => ?_) | refine bi_gt (fun _ => ?_) (fun _ => ?_) | refine bi_le (fun _ => ?_) (fun _ => ?_))
                all_goals first | exact fl _ | exact absurd ⟨by assumption, by assumption, by assumption, by assumption, by assumption⟩ q
          obtain ⟨υ, r1, r2⟩ := lp 0 (by omega) (ex_ar σ 438 (pyF (σ 438) (fun j => σ 433 (41 + j)) 0 50)) (vL 0) (fun a _ y2 => ex_ar_diff _ _ _ y2) (fun j j1 j2 => by rw [ex_ar_same]; unfold pyF; rw [if_pos (by omega)]; dsimp only; congr 1; omega) (fun z hz => by rw [ex_ar_diff _ _ _ (by decide)]) (by rw [ex_ar_diff _ _ _ (by decide)]; exact hN)
          rw [ex_ar_diff _ _ _ (by decide), Nat.sub_zero] at r1
          refine ⟨υ, ?_, r2⟩
          simp (disch := first | assumption | omega | ((repeat' first | exact ok_nil | apply ok_I | apply ok_R); done) | (simp (disch := first | omega | decide) only [ex_ar_same, ex_ar_diff, kM_diff, ex_u_same, ex_u_diff]; first | assumption | omega)) only [ev_184_0, ev_184_1, ev_184_10, ev_184_11, ev_184_2, ev_184_3, ev_184_4, ev_184_6, ev_184_7, ev_184_8, ev_184_9, gf_432_4, gf_432_5, gf_432_6, ld_435, ld_436, ld_437, x_fall, x_goto, x_iadd, x_idiv, x_imul, x_irem, x_push, x_ret1, xc_142, xc_144, xc_145, xc_157, xc_165, xc_170, xc_171, xc_178, xc_179, xc_230, xl_a0, xl_i1, xl_i2, xl_i3, xl_i4, xl_i5, xn_3, xt_i3, xt_i4, xt_i5, y_cmp_eq_f, y_cmp_eq_t, y_cmp_ge_f, y_cmp_ge_t, y_if_eq_f, y_if_eq_t, y_if_ge_f, y_if_ge_t, y_if_lt_f, y_if_lt_t, y_if_ne_f, y_if_ne_t, i_wr_id, kM_diff, Int.reduceToNat, ex_ar_same, ex_ar_ar, ex_ar_diff, ex_u_same, ex_u_diff, b2i_t, b2i_f, ex_div_nn, ex_rem_nn, Int.toNat_zero, Int.toNat_one, Int.reduceAdd, Int.reduceSub, Int.reduceMul, Int.reduceNeg]
          exact r1
    · rw [if_neg (fun z => g2 z.2)]
      refine ⟨fndM σ, ?_, RS.refl _⟩
      simp (disch := first | assumption | omega | ((repeat' first | exact ok_nil | apply ok_I | apply ok_R); done) | (simp (disch := first | omega | decide) only [ex_ar_same, ex_ar_diff, kM_diff, ex_u_same, ex_u_diff]; first | assumption | omega)) only [ev_184_0, ev_184_1, ev_184_10, ev_184_11, ev_184_2, ev_184_3, ev_184_4, ev_184_6, ev_184_7, ev_184_8, ev_184_9, gf_432_4, gf_432_5, gf_432_6, ld_435, ld_436, ld_437, x_fall, x_goto, x_iadd, x_idiv, x_imul, x_irem, x_push, x_ret1, xc_142, xc_144, xc_145, xc_157, xc_165, xc_170, xc_171, xc_178, xc_179, xc_230, xl_a0, xl_i1, xl_i2, xl_i3, xl_i4, xl_i5, xn_3, xt_i3, xt_i4, xt_i5, y_cmp_eq_f, y_cmp_eq_t, y_cmp_ge_f, y_cmp_ge_t, y_if_eq_f, y_if_eq_t, y_if_ge_f, y_if_ge_t, y_if_lt_f, y_if_lt_t, y_if_ne_f, y_if_ne_t, i_wr_id, kM_diff, Int.reduceToNat, ex_ar_same, ex_ar_ar, ex_ar_diff, ex_u_same, ex_u_diff, b2i_t, b2i_f, ex_div_nn, ex_rem_nn, Int.toNat_zero, Int.toNat_one, Int.reduceAdd, Int.reduceSub, Int.reduceMul, Int.reduceNeg]
  · rw [if_neg (fun z => g1 z.1)]
    refine ⟨fndM σ, ?_, RS.refl _⟩
    simp (disch := first | assumption | omega | ((repeat' first | exact ok_nil | apply ok_I | apply ok_R); done) | (simp (disch := first | omega | decide) only [ex_ar_same, ex_ar_diff, kM_diff, ex_u_same, ex_u_diff]; first | assumption | omega)) only [ev_184_0, ev_184_1, ev_184_10, ev_184_11, ev_184_2, ev_184_3, ev_184_4, ev_184_6, ev_184_7, ev_184_8, ev_184_9, gf_432_4, gf_432_5, gf_432_6, ld_435, ld_436, ld_437, x_fall, x_goto, x_iadd, x_idiv, x_imul, x_irem, x_push, x_ret1, xc_142, xc_144, xc_145, xc_157, xc_165, xc_170, xc_171, xc_178, xc_179, xc_230, xl_a0, xl_i1, xl_i2, xl_i3, xl_i4, xl_i5, xn_3, xt_i3, xt_i4, xt_i5, y_cmp_eq_f, y_cmp_eq_t, y_cmp_ge_f, y_cmp_ge_t, y_if_eq_f, y_if_eq_t, y_if_ge_f, y_if_ge_t, y_if_lt_f, y_if_lt_t, y_if_ne_f, y_if_ne_t, i_wr_id, kM_diff, Int.reduceToNat, ex_ar_same, ex_ar_ar, ex_ar_diff, ex_u_same, ex_u_diff, b2i_t, b2i_f, ex_div_nn, ex_rem_nn, Int.toNat_zero, Int.toNat_one, Int.reduceAdd, Int.reduceSub, Int.reduceMul, Int.reduceNeg]
