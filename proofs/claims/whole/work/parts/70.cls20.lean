/-! the class: the hours shared -/
theorem ex_u_u (f : Int → Int) (i a b : Int) : ex_u (ex_u f i a) i b = ex_u f i b := by
  funext k
  by_cases h : k = i
  · rw [h, ex_u_same, ex_u_same]
  · rw [ex_u_diff _ _ h, ex_u_diff _ _ h, ex_u_diff _ _ h]
theorem mnR_bd {u : Int} (u0 : 0 ≤ u) (u1 : u < 256) : ∀ j : Nat, j ≤ 8 → 0 ≤ mnR u j ∧ mnR u j ≤ (j : Int) ∧ (∀ i, i < j → mnR u (i + 1) = mnR u i + bt u (i : Int))
  | 0, _ => ⟨Int.le_refl 0, Int.le_refl 0, fun i h => by omega⟩
  | j + 1, h => by
    obtain ⟨a, b, c⟩ := mnR_bd u0 u1 j (by omega)
    have t := bt_01 u0 u1 (show 0 ≤ (j : Int) by omega) (by omega)
    have e : mnR u (j + 1) = mnR u j + bt u (j : Int) := by
      rw [mnR]
      unfold bt at t ⊢
      exact i_wr_id (by omega) (by omega)
    refine ⟨by omega, by omega, fun i hi => ?_⟩
    by_cases z : i = j
    · rw [z]; exact e
    · exact c i (by omega)
theorem sm8_sub {nd nd' : Int → Int} {u : Int} (u0 : 0 ≤ u) (u1 : u < 256) (h : ∀ c : Int, 0 ≤ c → c < 8 → nd' c = nd c - bt u c) : ∀ j : Nat, j ≤ 8 → sm8 nd' j = sm8 nd j - mnR u j
  | 0, _ => rfl
  | j + 1, hj => by
    rw [sm8, sm8, sm8_sub u0 u1 h j (by omega), h (j : Int) (by omega) (by omega), (mnR_bd u0 u1 8 (by omega)).2.2 j (by omega)]
    omega
theorem sm8_up {nd : Int → Int} {m : Nat} (hm : m ≤ 8) (h : ∀ c : Int, (m : Int) ≤ c → c < 8 → nd c = 0) : sm8 nd 8 = sm8 nd m := by
  have key : ∀ j : Nat, m ≤ j → j ≤ 8 → sm8 nd j = sm8 nd m := by
    intro j
    induction j with
    | zero => intro h1 _; rw [show m = 0 by omega]
    | succ j ih =>
      intro h1 h2
      by_cases z : m = j + 1
      · rw [z]
      · rw [sm8, ih (by omega) (by omega), h (j : Int) (by omega) (by omega)]; omega
  exact key 8 hm (by omega)
theorem sm8_cg {nd nd' : Int → Int} : ∀ j : Nat, (∀ c : Int, 0 ≤ c → c < (j : Int) → nd' c = nd c) → sm8 nd' j = sm8 nd j
  | 0, _ => rfl
  | j + 1, h => by rw [sm8, sm8, sm8_cg j (fun c c0 c1 => h c c0 (by omega)), h (j : Int) (by omega) (by omega)]
theorem caR_s (n nd : Int → Int) (i : Nat) : caR n nd (i + 1) = (chR n (23 - (i : Int)) (caR n nd i) (n 3).toNat).2 := rfl
/-- a car with no need stays so -/
theorem caR_0 {n nd : Int → Int} (hd : okD nd) {c : Int} (c0 : 0 ≤ c) (c1 : c < 8) (hz : nd c = 0) : ∀ i : Nat, caR n nd i c = 0
  | 0 => hz
  | i + 1 => by
    have ih := caR_0 hd c0 c1 hz i (n := n)
    have ok := caR_ok (n := n) hd (i + 1) c c0 c1
    have hc := (chR_nd (n := n) (nd := caR n nd i) (h := 23 - (i : Int)) (n 3).toNat)
    have e := hc.2.1 c c0 c1
    have t := bt_01 hc.1.1 hc.1.2 c0 c1
    rw [caR_s] at ok ⊢
    omega
/-- within an hour -/
theorem lc_3 {d L : Nat} {τ : ex_S} {n nd g : Int → Int} {h s o : Int} (hd : 2 < d) (hR : RG6 τ n) (hN : NI n) (h0 : 0 ≤ h) (h1 : h < 24) (r1 : ∀ c : Int, 0 ≤ c → c < n 1 → τ 53 c = nd c) (r2 : ∀ c : Int, n 1 ≤ c → c < 8 → nd c = 0) : ∀ k : Nat, k ≤ (n 3).toNat → ∀ (u : Int) (w : ex_V), (chR n h nd k).1 = u → ∃ w', ex_ev d 3 6 [vR 51, vR 6, vI (n 3), vI s, vI o, vI h, vI (k : Int), w] [] (SH L, ex_ar τ 52 (ex_u g h u)) = ex_ev d 3 8 [vR 51, vR 6, vI (n 3), vI s, vI o, vI h, vI (n 3), w'] [] (SH L, ex_ar τ 52 (ex_u g h (chR n h nd (n 3).toNat).1)) := by
  have a3 := hN.a3
  have b3 := hN.b3
  have a1 := hN.a1
  have b1 := hN.b1
  refine down ?_ ?_
  · intro u w hu
    refine ⟨w, ?_⟩
    rw [hu, ev_3_6, show (((n 3).toNat : Nat) : Int) = n 3 by omega]
    simp (disch := first | assumption | omega | ((repeat' first | exact ok_nil | apply ok_I | apply ok_R); done) | (simp (disch := first | omega | decide) only [ex_ar_same, ex_ar_diff, kM_diff, ex_u_same, ex_u_diff]; first | assumption | omega)) only [ev_3_0, ev_3_10, ev_3_11, ev_3_2, ev_3_3, ev_3_4, ev_3_7, ev_3_9, gf_35_1, gf_51_0, gf_51_1, gf_6_1, ld_52, ld_53, sd_52, sd_53, x_dup2, x_fall, x_goto, x_push, x_ret2, x_ret2b, xc_17_35, xc_17_6, xc_4, xc_5, xl_a0, xl_a1, xl_i2, xl_i3, xl_i4, xl_i5, xl_i6, xl_i7, xn_5, xn_6, xt_i4, xt_i5, xt_i6, xt_i7, y_cmp_eq_f, y_cmp_eq_t, y_cmp_ge_f, y_cmp_ge_t, y_iadd, y_iand, y_if_lt_f, y_if_lt_t, y_if_ne_f, y_if_ne_t, y_ior, y_ishl, y_ishr, y_isub, i_wr_id, kM_diff, Int.reduceToNat, ex_ar_same, ex_ar_ar, ex_ar_diff, ex_u_same, ex_u_diff, b2i_t, b2i_f, ex_div_nn, ex_rem_nn, Int.toNat_zero, Int.toNat_one, Int.reduceAdd, Int.reduceSub, Int.reduceMul, Int.reduceNeg, kC_ne, fC_ne]
  · intro k hk ih u w hu
    obtain ⟨⟨u0, u1⟩, -, h3⟩ := chR_nd (n := n) (nd := nd) (h := h) k
    rw [hu] at u0 u1 h3
    have hR' : RG6 (ex_ar τ 52 (ex_u g h u)) n := RG_fr (G := 6) hR hN (fun a q1 q2 => ex_ar_diff _ _ _ (by omega))
    have hu' : ex_ar τ 52 (ex_u g h u) 52 h = u := by rw [ex_ar_same, ex_u_same]
    have eb : bsR n (τ 53) u h (n 1).toNat = bsR n nd u h 8 := by
      exact (bs_car (by omega) (fun c c0 c1 => r1 c c0 (by omega)) (fun c c0 c1 => r2 c (by omega) c1)).symm
    have bd := bsR_bd n nd u h 8
    generalize hb : bsR n nd u h 8 = b at eb bd h3
    by_cases z : b < 0
    · rw [if_neg (by omega), or_0 u0 u1] at h3
      obtain ⟨w', e⟩ := ih u (vI b) h3
      refine ⟨w', ?_⟩
      rw [← e, ev_3_6]
      have eb' : b = -1 := by omega
      simp (disch := first | assumption | omega | ((repeat' first | exact ok_nil | apply ok_I | apply ok_R); done) | (simp (disch := first | omega | decide) only [ex_ar_same, ex_ar_diff, kM_diff, ex_u_same, ex_u_diff]; first | assumption | omega)) only [eb, ev_3_0, ev_3_10, ev_3_11, ev_3_2, ev_3_3, ev_3_4, ev_3_7, ev_3_9, gf_35_1, gf_51_0, gf_51_1, gf_6_1, ld_52, ld_53, sd_52, sd_53, x_dup2, x_fall, x_goto, x_push, x_ret2, x_ret2b, xc_17_35, xc_17_6, xc_4, xc_5, xl_a0, xl_a1, xl_i2, xl_i3, xl_i4, xl_i5, xl_i6, xl_i7, xn_5, xn_6, xt_i4, xt_i5, xt_i6, xt_i7, y_cmp_eq_f, y_cmp_eq_t, y_cmp_ge_f, y_cmp_ge_t, y_iadd, y_iand, y_if_lt_f, y_if_lt_t, y_if_ne_f, y_if_ne_t, y_ior, y_ishl, y_ishr, y_isub, i_wr_id, kM_diff, Int.reduceToNat, ex_ar_same, ex_ar_ar, ex_ar_diff, ex_u_same, ex_u_diff, b2i_t, b2i_f, ex_div_nn, ex_rem_nn, Int.toNat_zero, Int.toNat_one, Int.reduceAdd, Int.reduceSub, Int.reduceMul, Int.reduceNeg, kC_ne, fC_ne]
      rw [nat_cast_succ]
    · rw [if_pos (by omega)] at h3
      obtain ⟨w', e⟩ := ih _ (vI b) h3
      refine ⟨w', ?_⟩
      rw [← e, ev_3_6]
      simp (disch := first | assumption | omega | ((repeat' first | exact ok_nil | apply ok_I | apply ok_R); done) | (simp (disch := first | omega | decide) only [ex_ar_same, ex_ar_diff, kM_diff, ex_u_same, ex_u_diff]; first | assumption | omega)) only [eb, ev_3_0, ev_3_10, ev_3_11, ev_3_2, ev_3_3, ev_3_4, ev_3_7, ev_3_9, gf_35_1, gf_51_0, gf_51_1, gf_6_1, ld_52, ld_53, sd_52, sd_53, x_dup2, x_fall, x_goto, x_push, x_ret2, x_ret2b, xc_17_35, xc_17_6, xc_4, xc_5, xl_a0, xl_a1, xl_i2, xl_i3, xl_i4, xl_i5, xl_i6, xl_i7, xn_5, xn_6, xt_i4, xt_i5, xt_i6, xt_i7, y_cmp_eq_f, y_cmp_eq_t, y_cmp_ge_f, y_cmp_ge_t, y_iadd, y_iand, y_if_lt_f, y_if_lt_t, y_if_ne_f, y_if_ne_t, y_ior, y_ishl, y_ishr, y_isub, i_wr_id, kM_diff, Int.reduceToNat, ex_ar_same, ex_ar_ar, ex_ar_diff, ex_u_same, ex_u_diff, b2i_t, b2i_f, ex_div_nn, ex_rem_nn, Int.toNat_zero, Int.toNat_one, Int.reduceAdd, Int.reduceSub, Int.reduceMul, Int.reduceNeg, kC_ne, fC_ne]
      rw [ex_u_u, nat_cast_succ]
/-- the hours from 23 on -/
theorem lb_3 {d L : Nat} {σ : ex_S} {n nd : Int → Int} {s : Int} (hd : 3 < d) (hR : RG6 σ n) (hN : NI n) (ok : okD nd) (r2 : ∀ c : Int, n 1 ≤ c → c < 8 → nd c = 0) : ∀ i : Nat, i ≤ 24 → ∀ (τ : ex_S) (h o : Int) (w1 w2 : ex_V), h = 23 - (i : Int) → o = sm8 (caR n nd i) 8 → (∀ a, a ≠ 52 → a ≠ 53 → τ a = σ a) → (∀ c : Int, 0 ≤ c → c < n 1 → τ 53 c = caR n nd i c) → (∀ k : Int, h < k → k ≤ 23 → τ 52 k = (chR n k (caR n nd (23 - k).toNat) (n 3).toNat).1) → ∃ σ', ex_ev d 3 5 [vR 51, vR 6, vI (n 3), vI s, vI o, vI h, w1, w2] [] (SH L, τ) = some ([vI (b2i (sm8 (caR n nd 24) 8 = 0))], (SH L, σ')) ∧ (∀ a, a ≠ 52 → a ≠ 53 → σ' a = σ a) ∧ (∀ k : Int, 0 ≤ k → k ≤ 23 → σ' 52 k = (chR n k (caR n nd (23 - k).toNat) (n 3).toNat).1) := by
  have a3 := hN.a3
  have b3 := hN.b3
  have a1 := hN.a1
  have b1 := hN.b1
  refine down ?_ ?_
  · intro τ h o w1 w2 hh ho q1 q2 q3
    refine ⟨τ, ?_, q1, fun k k0 k1 => q3 k (by omega) k1⟩
    rw [← ho, ev_3_5]
    by_cases z : o = 0
    · rw [b2i_t z]
      simp (disch := first | assumption | omega | ((repeat' first | exact ok_nil | apply ok_I | apply ok_R); done) | (simp (disch := first | omega | decide) only [ex_ar_same, ex_ar_diff, kM_diff, ex_u_same, ex_u_diff]; first | assumption | omega)) only [ev_3_0, ev_3_10, ev_3_11, ev_3_2, ev_3_3, ev_3_4, ev_3_7, ev_3_8, ev_3_9, gf_35_1, gf_51_0, gf_51_1, gf_6_1, ld_52, ld_53, sd_52, sd_53, x_dup2, x_fall, x_goto, x_push, x_ret2, x_ret2b, xc_17_35, xc_17_6, xc_4, xc_5, xl_a0, xl_a1, xl_i2, xl_i3, xl_i4, xl_i5, xl_i6, xl_i7, xn_5, xn_6, xt_i4, xt_i5, xt_i6, xt_i7, y_cmp_eq_f, y_cmp_eq_t, y_cmp_ge_f, y_cmp_ge_t, y_iadd, y_iand, y_if_lt_f, y_if_lt_t, y_if_ne_f, y_if_ne_t, y_ior, y_ishl, y_ishr, y_isub, i_wr_id, kM_diff, Int.reduceToNat, ex_ar_same, ex_ar_ar, ex_ar_diff, ex_u_same, ex_u_diff, b2i_t, b2i_f, ex_div_nn, ex_rem_nn, Int.toNat_zero, Int.toNat_one, Int.reduceAdd, Int.reduceSub, Int.reduceMul, Int.reduceNeg, kC_ne, fC_ne]
    · rw [b2i_f z]
      simp (disch := first | assumption | omega | ((repeat' first | exact ok_nil | apply ok_I | apply ok_R); done) | (simp (disch := first | omega | decide) only [ex_ar_same, ex_ar_diff, kM_diff, ex_u_same, ex_u_diff]; first | assumption | omega)) only [ev_3_0, ev_3_10, ev_3_11, ev_3_2, ev_3_3, ev_3_4, ev_3_7, ev_3_8, ev_3_9, gf_35_1, gf_51_0, gf_51_1, gf_6_1, ld_52, ld_53, sd_52, sd_53, x_dup2, x_fall, x_goto, x_push, x_ret2, x_ret2b, xc_17_35, xc_17_6, xc_4, xc_5, xl_a0, xl_a1, xl_i2, xl_i3, xl_i4, xl_i5, xl_i6, xl_i7, xn_5, xn_6, xt_i4, xt_i5, xt_i6, xt_i7, y_cmp_eq_f, y_cmp_eq_t, y_cmp_ge_f, y_cmp_ge_t, y_iadd, y_iand, y_if_lt_f, y_if_lt_t, y_if_ne_f, y_if_ne_t, y_ior, y_ishl, y_ishr, y_isub, i_wr_id, kM_diff, Int.reduceToNat, ex_ar_same, ex_ar_ar, ex_ar_diff, ex_u_same, ex_u_diff, b2i_t, b2i_f, ex_div_nn, ex_rem_nn, Int.toNat_zero, Int.toNat_one, Int.reduceAdd, Int.reduceSub, Int.reduceMul, Int.reduceNeg, kC_ne, fC_ne]
  · intro i hi ih τ h o w1 w2 hh ho q1 q2 q3
    have hR' : RG6 τ n := RG_fr (G := 6) hR hN (fun a x1 x2 => q1 a (by omega) (by omega))
    have r2' : ∀ c : Int, n 1 ≤ c → c < 8 → caR n nd i c = 0 := fun c c0 c1 => caR_0 ok (by omega) c1 (r2 c c0 c1) i
    obtain ⟨w', e⟩ := lc_3 (d := d) (L := L) (τ := τ) (nd := caR n nd i) (g := τ 52) (h := h) (s := s) (o := o) (by omega) hR' hN (by omega) (by omega) q2 r2' 0 (by omega) 0 w2 rfl
    obtain ⟨⟨u0, u1⟩, c2, -⟩ := chR_nd (n := n) (nd := caR n nd i) (h := h) (n 3).toNat
    have hs : caR n nd (i + 1) = (chR n h (caR n nd i) (n 3).toNat).2 := by rw [caR_s, hh]
    generalize hu : (chR n h (caR n nd i) (n 3).toNat).1 = u at *
    have hR2 : RG6 (ex_ar τ 52 (ex_u (τ 52) h u)) n := RG_fr (G := 6) hR' hN (fun a x1 x2 => ex_ar_diff _ _ _ (by omega))
    have okc := caR_ok (n := n) ok i
    have ok2 : ∀ c : Int, 0 ≤ c → c < n 1 → 0 ≤ ex_ar τ 52 (ex_u (τ 52) h u) 53 c ∧ ex_ar τ 52 (ex_u (τ 52) h u) 53 c ≤ 9 := fun c c0 c1 => by rw [ex_ar_diff _ _ _ (by decide), q2 c c0 c1]; exact okc c c0 (by omega)
    have eu : ex_ar τ 52 (ex_u (τ 52) h u) 52 h = u := by rw [ex_ar_same, ex_u_same]
    have es := sm8_sub (nd' := caR n nd (i + 1)) u0 u1 (fun c c0 c1 => by rw [hs]; exact c2 c c0 c1) 8 (by omega)
    have sb := sm8_bd okc 8 (by omega)
    have mb := mnR_bd u0 u1 8 (by omega)
    obtain ⟨σ', f1, f2, f3⟩ := ih (ex_ar (ex_ar τ 52 (ex_u (τ 52) h u)) 53 (ctF (τ 53) u (n 1).toNat)) (h - 1) (o - mnR u 8) (vI (n 3)) w' (by omega) (by omega) (fun a x1 x2 => by rw [ex_ar_diff _ _ _ x2, ex_ar_diff _ _ _ x1, q1 a x1 x2]) (fun c c0 c1 => by
      rw [ex_ar_same]
      unfold ctF
      rw [if_pos (by omega), q2 c c0 c1, hs, c2 c c0 (by omega)]) (fun k x1 x2 => by
      rw [ex_ar_diff _ _ _ (by decide), ex_ar_same]
      by_cases y : k = h
      · rw [y, ex_u_same, ← hu, show (23 - h).toNat = i by omega]
      · rw [ex_u_diff _ _ y]; exact q3 k (by omega) x2)
    refine ⟨σ', ?_, f2, f3⟩
    rw [← f1, ev_3_5]
    simp (disch := first | assumption | omega | ((repeat' first | exact ok_nil | apply ok_I | apply ok_R); done) | (simp (disch := first | omega | decide) only [ex_ar_same, ex_ar_diff, kM_diff, ex_u_same, ex_u_diff]; first | assumption | omega)) only [ev_3_0, ev_3_10, ev_3_11, ev_3_2, ev_3_3, ev_3_4, ev_3_7, ev_3_9, gf_35_1, gf_51_0, gf_51_1, gf_6_1, ld_52, ld_53, sd_52, sd_53, x_dup2, x_fall, x_goto, x_push, x_ret2, x_ret2b, xc_17_35, xc_17_6, xc_4, xc_5, xl_a0, xl_a1, xl_i2, xl_i3, xl_i4, xl_i5, xl_i6, xl_i7, xn_5, xn_6, xt_i4, xt_i5, xt_i6, xt_i7, y_cmp_eq_f, y_cmp_eq_t, y_cmp_ge_f, y_cmp_ge_t, y_iadd, y_iand, y_if_lt_f, y_if_lt_t, y_if_ne_f, y_if_ne_t, y_ior, y_ishl, y_ishr, y_isub, i_wr_id, kM_diff, Int.reduceToNat, ex_ar_same, ex_ar_ar, ex_ar_diff, ex_u_same, ex_u_diff, b2i_t, b2i_f, ex_div_nn, ex_rem_nn, Int.toNat_zero, Int.toNat_one, Int.reduceAdd, Int.reduceSub, Int.reduceMul, Int.reduceNeg, kC_ne, fC_ne]
    refine Eq.trans e ?_
    have w0 : ex_wr (o - mnR u 8) = o - mnR u 8 := i_wr_id (by omega) (by omega)
    simp (disch := first | assumption | omega | ((repeat' first | exact ok_nil | apply ok_I | apply ok_R); done) | (simp (disch := first | omega | decide) only [ex_ar_same, ex_ar_diff, kM_diff, ex_u_same, ex_u_diff]; first | assumption | omega)) only [eu, ev_3_0, ev_3_10, ev_3_11, ev_3_2, ev_3_3, ev_3_4, ev_3_7, ev_3_8, ev_3_9, gf_35_1, gf_51_0, gf_51_1, gf_6_1, ld_52, ld_53, sd_52, sd_53, w0, x_dup2, x_fall, x_goto, x_push, x_ret2, x_ret2b, xc_17_35, xc_17_6, xc_4, xc_5, xl_a0, xl_a1, xl_i2, xl_i3, xl_i4, xl_i5, xl_i6, xl_i7, xn_5, xn_6, xt_i4, xt_i5, xt_i6, xt_i7, y_cmp_eq_f, y_cmp_eq_t, y_cmp_ge_f, y_cmp_ge_t, y_iadd, y_iand, y_if_lt_f, y_if_lt_t, y_if_ne_f, y_if_ne_t, y_ior, y_ishl, y_ishr, y_isub, i_wr_id, kM_diff, Int.reduceToNat, ex_ar_same, ex_ar_ar, ex_ar_diff, ex_u_same, ex_u_diff, b2i_t, b2i_f, ex_div_nn, ex_rem_nn, Int.toNat_zero, Int.toNat_one, Int.reduceAdd, Int.reduceSub, Int.reduceMul, Int.reduceNeg, kC_ne, fC_ne]
    rw [show h + -1 = h - 1 by omega]
theorem fp_3 {d L : Nat} {σ : ex_S} {n nd : Int → Int} {s : Int} (hd : 4 < d) (hR : RG6 σ n) (hN : NI n) (s0 : 0 ≤ s) (s1 : s < 256) (hb : ∀ c : Int, n 1 ≤ c → c < 8 → bt s c = 0) (hnd : ∀ c : Int, 0 ≤ c → c < 8 → nd c = ndF n s c) : ∃ σ', ex_cd d 3 [vR 51, vR 6, vI (n 3), vI s] (SH L, σ) = some ([vI (b2i (sm8 (caR n nd 24) 8 = 0))], (SH L, σ')) ∧ (∀ a, a ≠ 52 → a ≠ 53 → σ' a = σ a) ∧ (∀ k : Int, 0 ≤ k → k ≤ 23 → σ' 52 k = (chR n k (caR n nd (23 - k).toNat) (n 3).toNat).1) := by
  have a1 := hN.a1
  have b1 := hN.b1
  have ca := hR.ca
  have r2 : ∀ c : Int, n 1 ≤ c → c < 8 → nd c = 0 := fun c c0 c1 => by
    rw [hnd c (by omega) c1]
    unfold ndF
    rw [if_neg (by have := hb c c0 c1; unfold bt at this; omega)]
  have ok : okD nd := fun c c0 c1 => by
    have := hN.c4 c c0 c1
    rw [hnd c c0 c1]
    unfold ndF
    split <;> omega
  have la : ∀ c : Nat, c ≤ (n 1).toNat → ex_ev (d - 1) 3 1 [vR 51, vR 6, vI (n 3), vI s, vI (sm8 nd c), vI (c : Int), vL 0, vL 0] [] (SH L, ex_ar σ 53 (cqF nd (σ 53) c)) = ex_ev (d - 1) 3 5 [vR 51, vR 6, vI (n 3), vI s, vI (sm8 nd (n 1).toNat), vI 23, vL 0, vL 0] [] (SH L, ex_ar σ 53 (cqF nd (σ 53) (n 1).toNat)) := by
    refine down ?_ ?_
    · rw [ev_3_1]
      simp (disch := first | assumption | omega | ((repeat' first | exact ok_nil | apply ok_I | apply ok_R); done) | (simp (disch := first | omega | decide) only [ex_ar_same, ex_ar_diff, kM_diff, ex_u_same, ex_u_diff]; first | assumption | omega)) only [ev_3_0, ev_3_10, ev_3_11, ev_3_2, ev_3_3, ev_3_4, ev_3_7, ev_3_8, ev_3_9, gf_35_1, gf_51_0, gf_51_1, gf_6_1, ld_52, ld_53, sd_52, sd_53, x_dup2, x_fall, x_goto, x_push, x_ret2, x_ret2b, xc_17_35, xc_17_6, xc_4, xc_5, xl_a0, xl_a1, xl_i2, xl_i3, xl_i4, xl_i5, xl_i6, xl_i7, xn_5, xn_6, xt_i4, xt_i5, xt_i6, xt_i7, y_cmp_eq_f, y_cmp_eq_t, y_cmp_ge_f, y_cmp_ge_t, y_iadd, y_iand, y_if_lt_f, y_if_lt_t, y_if_ne_f, y_if_ne_t, y_ior, y_ishl, y_ishr, y_isub, i_wr_id, kM_diff, Int.reduceToNat, ex_ar_same, ex_ar_ar, ex_ar_diff, ex_u_same, ex_u_diff, b2i_t, b2i_f, ex_div_nn, ex_rem_nn, Int.toNat_zero, Int.toNat_one, Int.reduceAdd, Int.reduceSub, Int.reduceMul, Int.reduceNeg, kC_ne, fC_ne]
    · intro c hc ih
      have R1 : RG6 (ex_ar σ 53 (cqF nd (σ 53) c)) n := RG_fr (G := 6) hR hN (fun a x1 x2 => ex_ar_diff _ _ _ (by omega))
      have ez : n (91 + 8 * 4 + (c : Int)) = n (123 + (c : Int)) := by rw [show 91 + 8 * 4 + (c : Int) = 123 + (c : Int) by omega]
      have o := ok c (by omega) (by omega)
      have sb := sm8_bd ok c (by omega)
      have v := hnd c (by omega) (by omega)
      unfold ndF at v
      have t := bt_01 s0 s1 (show 0 ≤ (c : Int) by omega) (by omega)
      unfold bt at t
      rw [sm8, ← cqF_s] at ih
      rw [ev_3_1]
      by_cases z : ex_and (ex_shr s (c : Int)) 1 = 0
      · rw [if_neg (by omega)] at v
        rw [v] at ih
        simp (disch := first | assumption | omega | ((repeat' first | exact ok_nil | apply ok_I | apply ok_R); done) | (simp (disch := first | omega | decide) only [ex_ar_same, ex_ar_diff, kM_diff, ex_u_same, ex_u_diff]; first | assumption | omega)) only [ev_3_0, ev_3_10, ev_3_11, ev_3_2, ev_3_3, ev_3_4, ev_3_7, ev_3_8, ev_3_9, gf_35_1, gf_51_0, gf_51_1, gf_6_1, ld_52, ld_53, sd_52, sd_53, x_dup2, x_fall, x_goto, x_push, x_ret2, x_ret2b, xc_17_35, xc_17_6, xc_4, xc_5, xl_a0, xl_a1, xl_i2, xl_i3, xl_i4, xl_i5, xl_i6, xl_i7, xn_5, xn_6, xt_i4, xt_i5, xt_i6, xt_i7, y_cmp_eq_f, y_cmp_eq_t, y_cmp_ge_f, y_cmp_ge_t, y_iadd, y_iand, y_if_lt_f, y_if_lt_t, y_if_ne_f, y_if_ne_t, y_ior, y_ishl, y_ishr, y_isub, i_wr_id, kM_diff, Int.reduceToNat, ex_ar_same, ex_ar_ar, ex_ar_diff, ex_u_same, ex_u_diff, b2i_t, b2i_f, ex_div_nn, ex_rem_nn, Int.toNat_zero, Int.toNat_one, Int.reduceAdd, Int.reduceSub, Int.reduceMul, Int.reduceNeg, kC_ne, fC_ne]
        rw [nat_cast_succ]
        exact ih
      · rw [if_pos (by omega)] at v
        rw [v] at ih
        have o2 : 0 ≤ n (123 + (c : Int)) ∧ n (123 + (c : Int)) ≤ 9 := by rw [← v]; exact o
        simp (disch := first | assumption | omega | ((repeat' first | exact ok_nil | apply ok_I | apply ok_R); done) | (simp (disch := first | omega | decide) only [ex_ar_same, ex_ar_diff, kM_diff, ex_u_same, ex_u_diff]; first | assumption | omega)) only [ev_3_0, ev_3_10, ev_3_11, ev_3_2, ev_3_3, ev_3_4, ev_3_7, ev_3_8, ev_3_9, ez, gf_35_1, gf_51_0, gf_51_1, gf_6_1, ld_52, ld_53, sd_52, sd_53, x_dup2, x_fall, x_goto, x_push, x_ret2, x_ret2b, xc_17_35, xc_17_6, xc_4, xc_5, xl_a0, xl_a1, xl_i2, xl_i3, xl_i4, xl_i5, xl_i6, xl_i7, xn_5, xn_6, xt_i4, xt_i5, xt_i6, xt_i7, y_cmp_eq_f, y_cmp_eq_t, y_cmp_ge_f, y_cmp_ge_t, y_iadd, y_iand, y_if_lt_f, y_if_lt_t, y_if_ne_f, y_if_ne_t, y_ior, y_ishl, y_ishr, y_isub, i_wr_id, kM_diff, Int.reduceToNat, ex_ar_same, ex_ar_ar, ex_ar_diff, ex_u_same, ex_u_diff, b2i_t, b2i_f, ex_div_nn, ex_rem_nn, Int.toNat_zero, Int.toNat_one, Int.reduceAdd, Int.reduceSub, Int.reduceMul, Int.reduceNeg, kC_ne, fC_ne]
        rw [nat_cast_succ]
        exact ih
  have e0 := la 0 (by omega)
  rw [cqF_0, ex_ar_id] at e0
  obtain ⟨σ', f1, f2, f3⟩ := lb_3 (d := d - 1) (L := L) (s := s) (by omega) hR hN ok r2 0 (by omega) (ex_ar σ 53 (cqF nd (σ 53) (n 1).toNat)) 23 (sm8 nd (n 1).toNat) (vL 0) (vL 0) (by omega) (by rw [show caR n nd 0 = nd from rfl, sm8_up (m := (n 1).toNat) (by omega) (fun c c0 c1 => r2 c (by omega) c1)]) (fun a x1 x2 => ex_ar_diff _ _ _ x2) (fun c c0 c1 => by
    rw [ex_ar_same]
    unfold cqF
    rw [if_pos (by omega)]; rfl) (fun k x1 x2 => by omega)
  refine ⟨σ', ?_, f2, f3⟩
  rw [ex_cd_eq (by omega)]
  show ex_ev (d - 1) 3 0 [vR 51, vR 6, vI (n 3), vI s, vL 0, vL 0, vL 0, vL 0] [] _ = _
  simp (disch := first | assumption | omega | ((repeat' first | exact ok_nil | apply ok_I | apply ok_R); done) | (simp (disch := first | omega | decide) only [ex_ar_same, ex_ar_diff, kM_diff, ex_u_same, ex_u_diff]; first | assumption | omega)) only [ev_3_0, ev_3_10, ev_3_11, ev_3_2, ev_3_3, ev_3_4, ev_3_7, ev_3_8, ev_3_9, gf_35_1, gf_51_0, gf_51_1, gf_6_1, ld_52, ld_53, sd_52, sd_53, x_dup2, x_fall, x_goto, x_push, x_ret2, x_ret2b, xc_17_35, xc_17_6, xc_4, xc_5, xl_a0, xl_a1, xl_i2, xl_i3, xl_i4, xl_i5, xl_i6, xl_i7, xn_5, xn_6, xt_i4, xt_i5, xt_i6, xt_i7, y_cmp_eq_f, y_cmp_eq_t, y_cmp_ge_f, y_cmp_ge_t, y_iadd, y_iand, y_if_lt_f, y_if_lt_t, y_if_ne_f, y_if_ne_t, y_ior, y_ishl, y_ishr, y_isub, i_wr_id, kM_diff, Int.reduceToNat, ex_ar_same, ex_ar_ar, ex_ar_diff, ex_u_same, ex_u_diff, b2i_t, b2i_f, ex_div_nn, ex_rem_nn, Int.toNat_zero, Int.toNat_one, Int.reduceAdd, Int.reduceSub, Int.reduceMul, Int.reduceNeg, kC_ne, fC_ne]
  exact e0.trans f1
