/-! the reference: who is given what -/
def cnt5 (f : Int) : Int := ex_and (ex_shr f 0) 1 + ex_and (ex_shr f 1) 1 + ex_and (ex_shr f 2) 1 + ex_and (ex_shr f 3) 1 + ex_and (ex_shr f 4) 1
set_option maxRecDepth 100000 in
theorem clr_fin : ∀ f : Fin 32, ∀ p : Fin 5, bit1 (f.val : Int) (p.val : Int) → (0 ≤ clr (f.val : Int) (p.val : Int) ∧ clr (f.val : Int) (p.val : Int) < 32) ∧ cnt5 (clr (f.val : Int) (p.val : Int)) = cnt5 (f.val : Int) - 1 := by decide
set_option maxRecDepth 100000 in
theorem bit_fin : ∀ f : Fin 32, 1 ≤ cnt5 (f.val : Int) → ∃ p : Fin 5, bit1 (f.val : Int) (p.val : Int) := by decide
theorem clr_lo {f p : Int} (h1 : 0 ≤ f) (h2 : f < 32) (h3 : 0 ≤ p) (h4 : p < 5) (hb : bit1 f p) : (0 ≤ clr f p ∧ clr f p < 32) ∧ cnt5 (clr f p) = cnt5 f - 1 := by
  obtain ⟨m, rfl⟩ := Int.eq_ofNat_of_zero_le h1
  obtain ⟨k, rfl⟩ := Int.eq_ofNat_of_zero_le h3
  exact clr_fin ⟨m, by omega⟩ ⟨k, by omega⟩ hb
theorem bit_ex {f : Int} (h1 : 0 ≤ f) (h2 : f < 32) (hc : 1 ≤ cnt5 f) : ∃ p : Nat, p < 5 ∧ bit1 f (p : Int) := by
  obtain ⟨m, rfl⟩ := Int.eq_ofNat_of_zero_le h1
  obtain ⟨p, hp⟩ := bit_fin ⟨m, by omega⟩ hc
  exact ⟨p.val, p.isLt, hp⟩
/-- the most is had -/
theorem itr_mx (g : Nat → Int) (B : Nat → Prop) [∀ i, Decidable (B i)] : ∀ (j i : Nat) (b : Int), (b ≤ itr (fun p b => if B p then (if g p ≤ b then b else g p) else b) i j b) ∧ (∀ k, i ≤ k → k < i + j → B k → g k ≤ itr (fun p b => if B p then (if g p ≤ b then b else g p) else b) i j b) ∧ (itr (fun p b => if B p then (if g p ≤ b then b else g p) else b) i j b = b ∨ ∃ k, i ≤ k ∧ k < i + j ∧ B k ∧ itr (fun p b => if B p then (if g p ≤ b then b else g p) else b) i j b = g k)
  | 0, i, b => ⟨Int.le_refl b, fun k h1 h2 => by omega, Or.inl rfl⟩
  | j + 1, i, b => by
    rw [itr_succ_last]
    by_cases hB : B i
    · rw [if_pos hB]
      by_cases hg : g i ≤ b
      · rw [if_pos hg]
        obtain ⟨r1, r2, r3⟩ := itr_mx g B j (i + 1) b
        refine ⟨r1, fun k h1 h2 h3 => ?_, ?_⟩
        · by_cases e : k = i
          · rw [e]; omega
          · exact r2 k (by omega) (by omega) h3
        · rcases r3 with r3 | ⟨k, k1, k2, k3, k4⟩
          · exact Or.inl r3
          · exact Or.inr ⟨k, by omega, by omega, k3, k4⟩
      · rw [if_neg hg]
        obtain ⟨r1, r2, r3⟩ := itr_mx g B j (i + 1) (g i)
        refine ⟨by omega, fun k h1 h2 h3 => ?_, ?_⟩
        · by_cases e : k = i
          · rw [e]; exact r1
          · exact r2 k (by omega) (by omega) h3
        · rcases r3 with r3 | ⟨k, k1, k2, k3, k4⟩
          · exact Or.inr ⟨i, by omega, by omega, hB, r3⟩
          · exact Or.inr ⟨k, by omega, by omega, k3, k4⟩
    · rw [if_neg hB]
      obtain ⟨r1, r2, r3⟩ := itr_mx g B j (i + 1) b
      refine ⟨r1, fun k h1 h2 h3 => ?_, ?_⟩
      · by_cases e : k = i
        · rw [e] at h3; exact absurd h3 hB
        · exact r2 k (by omega) (by omega) h3
      · rcases r3 with r3 | ⟨k, k1, k2, k3, k4⟩
        · exact Or.inl r3
        · exact Or.inr ⟨k, by omega, by omega, k3, k4⟩
/-- a place that has the most -/
abbrev gvP (n : Int → Int) (r : Nat) (f le : Int) (p : Int) : Prop := bit1 f p ∧ n (146 + 5 * (4 - (r : Int)) + p) + mfN n r (clr f p) (-1) = le
theorem mf_had {n : Int → Int} (hN : NI n) {r : Nat} (hr : r < 5) {f : Int} (h1 : 0 ≤ f) (h2 : f < 32) (hc : 1 ≤ cnt5 f) : ∃ p : Nat, p < 5 ∧ gvP n r f (mfN n (r + 1) f (-1)) (p : Int) := by
  obtain ⟨p, hp, hb⟩ := bit_ex h1 h2 hc
  have e : mfN n (r + 1) f (-1) = itr (fun p b => if bit1 f (p : Int) then (if n (146 + 5 * (4 - (r : Int)) + (p : Int)) + mfN n r (clr f (p : Int)) (-1) ≤ b then b else n (146 + 5 * (4 - (r : Int)) + (p : Int)) + mfN n r (clr f (p : Int)) (-1)) else b) 0 5 (-1) := by
    rw [mfN, if_neg (by omega)]
  obtain ⟨r1, r2, r3⟩ := itr_mx (fun p => n (146 + 5 * (4 - (r : Int)) + (p : Int)) + mfN n r (clr f (p : Int)) (-1)) (fun p => bit1 f (p : Int)) 5 0 (-1)
  rw [← e] at r1 r2 r3
  rcases r3 with r3 | ⟨k, k1, k2, k3, k4⟩
  · have := r2 p (by omega) (by omega) hb
    have m := mfN_bd hN r (clr f (p : Int)) (-1) (by omega)
    have bd := hN.bd (5 * (4 - (r : Int)) + (p : Int)) (by omega) (by omega)
    rw [show 146 + (5 * (4 - (r : Int)) + (p : Int)) = 146 + 5 * (4 - (r : Int)) + (p : Int) by omega] at bd
    exact ⟨p, hp, hb, by omega⟩
  · exact ⟨k, by omega, k3, k4.symm⟩
/-- the first such place -/
def gvF (n : Int → Int) (r : Nat) (f le : Int) : Nat → Nat → Nat
  | p, 0 => p
  | p, j + 1 => if gvP n r f le (p : Int) then p else gvF n r f le (p + 1) j
theorem gvF_ok (n : Int → Int) (r : Nat) (f le : Int) : ∀ (j p : Nat), (∃ k, p ≤ k ∧ k < p + j ∧ gvP n r f le (k : Int)) → p ≤ gvF n r f le p j ∧ gvF n r f le p j < p + j ∧ gvP n r f le ((gvF n r f le p j : Nat) : Int)
  | 0, p, ⟨k, h1, h2, _⟩ => by omega
  | j + 1, p, ⟨k, h1, h2, h3⟩ => by
    rw [gvF]
    by_cases q : gvP n r f le (p : Int)
    · rw [if_pos q]; exact ⟨by omega, by omega, q⟩
    · rw [if_neg q]
      have e : k ≠ p := fun e => q (e ▸ h3)
      obtain ⟨r1, r2, r3⟩ := gvF_ok n r f le j (p + 1) ⟨k, by omega, by omega, h3⟩
      exact ⟨by omega, by omega, r3⟩
/-- free, left, given -/
def gvR (n : Int → Int) (g : Int → Int) : Nat → Int × Int × (Int → Int)
  | 0 => (31, mfN n 5 31 (-1), g)
  | t + 1 => (clr (gvR n g t).1 ((gvF n (4 - t) (gvR n g t).1 (gvR n g t).2.1 0 5 : Nat) : Int), (gvR n g t).2.1 - n (146 + 5 * (t : Int) + ((gvF n (4 - t) (gvR n g t).1 (gvR n g t).2.1 0 5 : Nat) : Int)), ex_u (gvR n g t).2.2 (t : Int) ((gvF n (4 - t) (gvR n g t).1 (gvR n g t).2.1 0 5 : Nat) : Int))
theorem gvR_ok {n : Int → Int} (hN : NI n) (g : Int → Int) : ∀ t : Nat, t ≤ 5 → (0 ≤ (gvR n g t).1 ∧ (gvR n g t).1 < 32) ∧ cnt5 (gvR n g t).1 = 5 - (t : Int) ∧ (gvR n g t).2.1 = mfN n (5 - t) (gvR n g t).1 (-1)
  | 0, _ => ⟨⟨(show (0 : Int) ≤ 31 by decide), (show (31 : Int) < 32 by decide)⟩, (show cnt5 31 = 5 by decide), by rw [gvR]⟩
  | t + 1, h => by
    obtain ⟨i1, i2, i3⟩ := gvR_ok hN g t (by omega)
    have hd := mf_had hN (r := 4 - t) (by omega) i1.1 i1.2 (by omega)
    rw [show 4 - t + 1 = 5 - t by omega, ← i3] at hd
    obtain ⟨p, hp, hp2⟩ := hd
    obtain ⟨g1, g2, g3⟩ := gvF_ok n (4 - t) (gvR n g t).1 (gvR n g t).2.1 5 0 ⟨p, by omega, by omega, hp2⟩
    have c := clr_lo i1.1 i1.2 (show (0 : Int) ≤ ((gvF n (4 - t) (gvR n g t).1 (gvR n g t).2.1 0 5 : Nat) : Int) by omega) (by omega) g3.1
    rw [gvR]
    dsimp only
    refine ⟨c.1, by rw [c.2, i2]; omega, ?_⟩
    have := g3.2
    rw [show 4 - ((4 - t : Nat) : Int) = (t : Int) by omega] at this
    rw [show 5 - (t + 1) = 4 - t by omega]
    omega
theorem gvF_lt {n : Int → Int} (hN : NI n) (g : Int → Int) {t : Nat} (h : t < 5) : gvF n (4 - t) (gvR n g t).1 (gvR n g t).2.1 0 5 < 5 ∧ gvP n (4 - t) (gvR n g t).1 (gvR n g t).2.1 ((gvF n (4 - t) (gvR n g t).1 (gvR n g t).2.1 0 5 : Nat) : Int) := by
  obtain ⟨i1, i2, i3⟩ := gvR_ok hN g t (by omega)
  have hd := mf_had hN (r := 4 - t) (by omega) i1.1 i1.2 (by omega)
  rw [show 4 - t + 1 = 5 - t by omega, ← i3] at hd
  obtain ⟨p, hp, hp2⟩ := hd
  obtain ⟨g1, g2, g3⟩ := gvF_ok n (4 - t) (gvR n g t).1 (gvR n g t).2.1 5 0 ⟨p, by omega, by omega, hp2⟩
  exact ⟨by omega, g3⟩
theorem gv_205 {d L : Nat} {σ : ex_S} (hd : 10 < d) (hN : NI (σ 433)) : ex_cd d 205 [vR 432] (SH L, σ) = some ([vI (mfN (σ 433) 5 31 (-1))], (SH L, ex_ar σ 443 (gvR (σ 433) (σ 443) 5).2.2)) := by
  have row : ∀ (r : Nat) {rt : Nat} {J : Nat → List ex_V → List ex_V → ex_H → Option ex_R} {is : List Instr} {ls st : List ex_V} {t' f' w' : Int} {g : Int → Int}, r ≤ 5 → t' = 5 - (r : Int) → okN 8 st = true → ex_xs rt J (ex_cd (d - 1)) (.invokevirtual 204 :: is) ls (vI w' :: vI f' :: vI t' :: vR 432 :: st) (SH L, ex_ar σ 443 g) = ex_xs rt J (ex_cd (d - 1)) is ls (vI (mfN (σ 433) r f' w') :: st) (SH L, ex_ar σ 443 g) := by
    intro r rt J is ls st t' f' w' g hr ht' hok
    have e := mf_204 r (d := d - 1) (L := L) (σ := ex_ar σ 443 g) (t := t') (f := f') (w := w') (by omega) hr (by rw [ex_ar_diff _ _ _ (by decide)]; exact hN) ht'
    rw [ex_ar_diff _ _ _ (by decide)] at e
    exact xr_204 e hok
  have row0 : ∀ {rt : Nat} {J : Nat → List ex_V → List ex_V → ex_H → Option ex_R} {is : List Instr} {ls st : List ex_V} {f' w' : Int}, okN 8 st = true → ex_xs rt J (ex_cd (d - 1)) (.invokevirtual 204 :: is) ls (vI w' :: vI f' :: vI 0 :: vR 432 :: st) (SH L, σ) = ex_xs rt J (ex_cd (d - 1)) is ls (vI (mfN (σ 433) 5 f' w') :: st) (SH L, σ) := fun hok => xr_204 (mf_204 5 (by omega) (by omega) hN (by omega)) hok
  have li : ∀ t : Nat, t < 5 → ∀ (f le all : Int) (g : Int → Int), 0 ≤ f → f < 32 → ∀ P : Nat, P < 5 → gvP (σ 433) (4 - t) f le (P : Int) → (∀ k : Nat, k < P → ¬ gvP (σ 433) (4 - t) f le (k : Int)) → ∀ p : Nat, p ≤ P → ex_ev (d - 1) 205 2 [vR 432, vI f, vI all, vI le, vI (t : Int), vI (p : Int)] [] (SH L, ex_ar σ 443 g) = ex_ev (d - 1) 205 1 [vR 432, vI (clr f (P : Int)), vI all, vI (ex_wr (le - σ 433 (146 + 5 * (t : Int) + (P : Int)))), vI ((t : Int) + 1), vI (P : Int)] [] (SH L, ex_ar σ 443 (ex_u g (t : Int) (P : Int))) := by
    intro t ht f le all g h1 h2 P hP hgP hnP
    have row' := fun {rt : Nat} {J : Nat → List ex_V → List ex_V → ex_H → Option ex_R} {is : List Instr} {ls st : List ex_V} {t' f' w' : Int} => @row (4 - t) rt J is ls st t' f' w' g (by omega)
    have et : 4 - ((4 - t : Nat) : Int) = (t : Int) := by omega
    unfold gvP at hgP hnP
    rw [et] at hgP hnP
    refine down ?_ ?_
    · have m := mfN_bd hN (4 - t) (clr f (P : Int)) (-1) (by omega)
      have bd := hN.bd (5 * (t : Int) + (P : Int)) (by omega) (by omega)
      rw [show 146 + (5 * (t : Int) + (P : Int)) = 146 + 5 * (t : Int) + (P : Int) by omega] at bd
      obtain ⟨x1, x2⟩ := hgP
      unfold clr at m x2 ⊢
      have x3 : ex_and (ex_shr f (P : Int)) 1 ≠ 0 := by rw [x1]; decide
      have e1 : ex_wr ((t : Int) + 1) = (t : Int) + 1 := i_wr_id (by omega) (by omega)
      have e2 : ex_wr (5 * (t : Int)) = 5 * (t : Int) := i_wr_id (by omega) (by omega)
      have e3 : ex_wr (146 + 5 * (t : Int)) = 146 + 5 * (t : Int) := i_wr_id (by omega) (by omega)
      have e4 : ex_wr (146 + 5 * (t : Int) + (P : Int)) = 146 + 5 * (t : Int) + (P : Int) := i_wr_id (by omega) (by omega)
      have e5 : ex_wr (σ 433 (146 + 5 * (t : Int) + (P : Int)) + mfN (σ 433) (4 - t) (ex_and f (ex_xor (ex_shl 1 (P : Int)) (-1))) (-1)) = le := by rw [i_wr_id (by omega) (by omega)]; exact x2
      rw [ev_205_2]
      simp (disch := first | assumption | omega | ((repeat' first | exact ok_nil | apply ok_I | apply ok_R); done) | (simp (disch := first | omega | decide) only [ex_ar_same, ex_ar_diff, kM_diff, ex_u_same, ex_u_diff]; first | assumption | omega)) only [e1, e2, e3, e4, e5, ev_205_0, ev_205_3, ev_205_4, ev_205_5, gf_432_0, gf_432_13, ld_433, ld_443, row', sd_433, sd_443, x_fall, x_goto, x_imul, x_push, x_ret1, xl_a0, xl_i1, xl_i2, xl_i3, xl_i4, xl_i5, xn_4, xn_5, xt_i1, xt_i2, xt_i3, xt_i4, xt_i5, y_cmp_eq_f, y_cmp_eq_t, y_cmp_ge_f, y_cmp_ge_t, y_iadd, y_iand, y_if_eq_f, y_if_eq_t, y_ishl, y_ishr, y_isub, y_ixor, kM_diff, Int.reduceToNat, ex_ar_same, ex_ar_ar, ex_ar_diff, ex_u_same, ex_u_diff, b2i_t, b2i_f, ex_div_nn, ex_rem_nn, Int.toNat_zero, Int.toNat_one, Int.reduceAdd, Int.reduceSub, Int.reduceMul, Int.reduceNeg]
    · intro p hp ih
      have m := mfN_bd hN (4 - t) (clr f (p : Int)) (-1) (by omega)
      have bd := hN.bd (5 * (t : Int) + (p : Int)) (by omega) (by omega)
      rw [show 146 + (5 * (t : Int) + (p : Int)) = 146 + 5 * (t : Int) + (p : Int) by omega] at bd
      have hn := hnP p hp
      rw [← nat_cast_succ] at ih
      unfold clr at m hn ⊢
      rw [ev_205_2]
      by_cases q : ex_and (ex_shr f (p : Int)) 1 = 0
      · simp (disch := first | assumption | omega | ((repeat' first | exact ok_nil | apply ok_I | apply ok_R); done) | (simp (disch := first | omega | decide) only [ex_ar_same, ex_ar_diff, kM_diff, ex_u_same, ex_u_diff]; first | assumption | omega)) only [ev_205_0, ev_205_3, ev_205_4, ev_205_5, gf_432_0, gf_432_13, ld_433, ld_443, row', sd_433, sd_443, x_fall, x_goto, x_imul, x_push, x_ret1, xl_a0, xl_i1, xl_i2, xl_i3, xl_i4, xl_i5, xn_4, xn_5, xt_i1, xt_i2, xt_i3, xt_i4, xt_i5, y_cmp_eq_f, y_cmp_eq_t, y_cmp_ge_f, y_cmp_ge_t, y_iadd, y_iand, y_if_eq_f, y_if_eq_t, y_ishl, y_ishr, y_isub, y_ixor, i_wr_id, kM_diff, Int.reduceToNat, ex_ar_same, ex_ar_ar, ex_ar_diff, ex_u_same, ex_u_diff, b2i_t, b2i_f, ex_div_nn, ex_rem_nn, Int.toNat_zero, Int.toNat_one, Int.reduceAdd, Int.reduceSub, Int.reduceMul, Int.reduceNeg]
        exact ih
      · have b1 : bit1 f (p : Int) := by
          obtain ⟨mm, rfl⟩ := Int.eq_ofNat_of_zero_le h1
          have := ex_bit (m := mm) (k := p) (by omega) (by omega)
          unfold bit1
          rw [this] at q ⊢
          omega
        have hn' : σ 433 (146 + 5 * (t : Int) + (p : Int)) + mfN (σ 433) (4 - t) (ex_and f (ex_xor (ex_shl 1 (p : Int)) (-1))) (-1) ≠ le := fun z => hn ⟨b1, z⟩
        simp (disch := first | assumption | omega | ((repeat' first | exact ok_nil | apply ok_I | apply ok_R); done) | (simp (disch := first | omega | decide) only [ex_ar_same, ex_ar_diff, kM_diff, ex_u_same, ex_u_diff]; first | assumption | omega)) only [ev_205_0, ev_205_3, ev_205_4, ev_205_5, gf_432_0, gf_432_13, ld_433, ld_443, row', sd_433, sd_443, x_fall, x_goto, x_imul, x_push, x_ret1, xl_a0, xl_i1, xl_i2, xl_i3, xl_i4, xl_i5, xn_4, xn_5, xt_i1, xt_i2, xt_i3, xt_i4, xt_i5, y_cmp_eq_f, y_cmp_eq_t, y_cmp_ge_f, y_cmp_ge_t, y_iadd, y_iand, y_if_eq_f, y_if_eq_t, y_ishl, y_ishr, y_isub, y_ixor, i_wr_id, kM_diff, Int.reduceToNat, ex_ar_same, ex_ar_ar, ex_ar_diff, ex_u_same, ex_u_diff, b2i_t, b2i_f, ex_div_nn, ex_rem_nn, Int.toNat_zero, Int.toNat_one, Int.reduceAdd, Int.reduceSub, Int.reduceMul, Int.reduceNeg]
        exact ih
  have lo : ∀ t : Nat, t ≤ 5 → ∀ (f le : Int) (g : Int → Int) (w : ex_V), gvR (σ 433) (σ 443) t = (f, le, g) → ex_ev (d - 1) 205 1 [vR 432, vI f, vI (mfN (σ 433) 5 31 (-1)), vI le, vI (t : Int), w] [] (SH L, ex_ar σ 443 g) = some ([vI (mfN (σ 433) 5 31 (-1))], (SH L, ex_ar σ 443 (gvR (σ 433) (σ 443) 5).2.2)) := by
    refine down ?_ ?_
    · intro f le g w hk
      rw [hk, ev_205_1]
      simp (disch := first | assumption | omega | ((repeat' first | exact ok_nil | apply ok_I | apply ok_R); done) | (simp (disch := first | omega | decide) only [ex_ar_same, ex_ar_diff, kM_diff, ex_u_same, ex_u_diff]; first | assumption | omega)) only [ev_205_0, ev_205_3, ev_205_4, ev_205_5, gf_432_0, gf_432_13, ld_433, ld_443, sd_433, sd_443, x_fall, x_goto, x_imul, x_push, x_ret1, xl_a0, xl_i1, xl_i2, xl_i3, xl_i4, xl_i5, xn_4, xn_5, xt_i1, xt_i2, xt_i3, xt_i4, xt_i5, y_cmp_eq_f, y_cmp_eq_t, y_cmp_ge_f, y_cmp_ge_t, y_iadd, y_iand, y_if_eq_f, y_if_eq_t, y_ishl, y_ishr, y_isub, y_ixor, i_wr_id, kM_diff, Int.reduceToNat, ex_ar_same, ex_ar_ar, ex_ar_diff, ex_u_same, ex_u_diff, b2i_t, b2i_f, ex_div_nn, ex_rem_nn, Int.toNat_zero, Int.toNat_one, Int.reduceAdd, Int.reduceSub, Int.reduceMul, Int.reduceNeg]
    · intro t ht ih f le g w hk
      obtain ⟨i1, i2, i3⟩ := gvR_ok hN (σ 443) t (by omega)
      obtain ⟨v1, v2⟩ := gvF_lt hN (σ 443) ht
      have hs : gvR (σ 433) (σ 443) (t + 1) = (clr f ((gvF (σ 433) (4 - t) f le 0 5 : Nat) : Int), le - σ 433 (146 + 5 * (t : Int) + ((gvF (σ 433) (4 - t) f le 0 5 : Nat) : Int)), ex_u g (t : Int) ((gvF (σ 433) (4 - t) f le 0 5 : Nat) : Int)) := by rw [gvR, hk]
      rw [hk] at i1 i2 i3 v1 v2
      dsimp only at i1 i2 i3 v1 v2
      have nb : ∀ k : Nat, k < gvF (σ 433) (4 - t) f le 0 5 → ¬ gvP (σ 433) (4 - t) f le (k : Int) := by
        have key : ∀ (j p : Nat) (k : Nat), p ≤ k → k < gvF (σ 433) (4 - t) f le p j → ¬ gvP (σ 433) (4 - t) f le (k : Int) := by
          intro j
          induction j with
          | zero => intro p k h1 h2; rw [gvF] at h2; omega
          | succ j ihj =>
            intro p k h1 h2
            rw [gvF] at h2
            by_cases q : gvP (σ 433) (4 - t) f le (p : Int)
            · rw [if_pos q] at h2; omega
            · rw [if_neg q] at h2
              by_cases e : k = p
              · rw [e]; exact q
              · exact ihj (p + 1) k (by omega) h2
        intro k hk2
        exact key 5 0 k (by omega) hk2
      have b5 := mfN_bd hN (5 - t) f (-1) (by omega)
      rw [← i3] at b5
      have bd := hN.bd (5 * (t : Int) + ((gvF (σ 433) (4 - t) f le 0 5 : Nat) : Int)) (by omega) (by omega)
      rw [show 146 + (5 * (t : Int) + ((gvF (σ 433) (4 - t) f le 0 5 : Nat) : Int)) = 146 + 5 * (t : Int) + ((gvF (σ 433) (4 - t) f le 0 5 : Nat) : Int) by omega] at bd
      have st := li t ht f le (mfN (σ 433) 5 31 (-1)) g i1.1 i1.2 _ v1 v2 nb 0 (by omega)
      rw [i_wr_id (z := le - _) (by omega) (by omega), nat_cast_succ] at st
      have st' : ex_ev (d - 1) 205 2 [vR 432, vI f, vI (mfN (σ 433) 5 31 (-1)), vI le, vI (t : Int), vI 0] [] (SH L, ex_ar σ 443 g) = _ := st
      rw [ev_205_1]
      simp (disch := first | assumption | omega | ((repeat' first | exact ok_nil | apply ok_I | apply ok_R); done) | (simp (disch := first | omega | decide) only [ex_ar_same, ex_ar_diff, kM_diff, ex_u_same, ex_u_diff]; first | assumption | omega)) only [ev_205_0, ev_205_3, ev_205_4, ev_205_5, gf_432_0, gf_432_13, ld_433, ld_443, sd_433, sd_443, x_fall, x_goto, x_imul, x_push, x_ret1, xl_a0, xl_i1, xl_i2, xl_i3, xl_i4, xl_i5, xn_4, xn_5, xt_i1, xt_i2, xt_i3, xt_i4, xt_i5, y_cmp_eq_f, y_cmp_eq_t, y_cmp_ge_f, y_cmp_ge_t, y_iadd, y_iand, y_if_eq_f, y_if_eq_t, y_ishl, y_ishr, y_isub, y_ixor, i_wr_id, kM_diff, Int.reduceToNat, ex_ar_same, ex_ar_ar, ex_ar_diff, ex_u_same, ex_u_diff, b2i_t, b2i_f, ex_div_nn, ex_rem_nn, Int.toNat_zero, Int.toNat_one, Int.reduceAdd, Int.reduceSub, Int.reduceMul, Int.reduceNeg]
      rw [st']
      exact ih _ _ _ _ hs
  rw [ex_cd_eq (by omega)]
  show ex_ev (d - 1) 205 0 [vR 432, vL 0, vL 0, vL 0, vL 0, vL 0] [] (SH L, σ) = _
  simp (disch := first | assumption | omega | ((repeat' first | exact ok_nil | apply ok_I | apply ok_R); done) | (simp (disch := first | omega | decide) only [ex_ar_same, ex_ar_diff, kM_diff, ex_u_same, ex_u_diff]; first | assumption | omega)) only [ev_205_0, ev_205_3, ev_205_4, ev_205_5, gf_432_0, gf_432_13, ld_433, ld_443, row0, sd_433, sd_443, x_fall, x_goto, x_imul, x_push, x_ret1, xl_a0, xl_i1, xl_i2, xl_i3, xl_i4, xl_i5, xn_4, xn_5, xt_i1, xt_i2, xt_i3, xt_i4, xt_i5, y_cmp_eq_f, y_cmp_eq_t, y_cmp_ge_f, y_cmp_ge_t, y_iadd, y_iand, y_if_eq_f, y_if_eq_t, y_ishl, y_ishr, y_isub, y_ixor, i_wr_id, kM_diff, Int.reduceToNat, ex_ar_same, ex_ar_ar, ex_ar_diff, ex_u_same, ex_u_diff, b2i_t, b2i_f, ex_div_nn, ex_rem_nn, Int.toNat_zero, Int.toNat_one, Int.reduceAdd, Int.reduceSub, Int.reduceMul, Int.reduceNeg]
  have := lo 0 (by omega) 31 (mfN (σ 433) 5 31 (-1)) (σ 443) (vL 0) (by rw [gvR])
  rw [ex_ar_id] at this
  exact this
