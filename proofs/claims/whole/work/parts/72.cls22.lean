/-! the class: rents -/
theorem y_imul {rt : Nat} {J : Nat → List ex_V → List ex_V → ex_H → Option ex_R} {C : Nat → List ex_V → ex_H → Option ex_R} {is : List Instr} {ls st : List ex_V} {h : ex_H} {a b : Int} : ex_xs rt J C (.imul :: is) ls (vI b :: vI a :: st) h = ex_xs rt J C is ls (vI (ex_wr (a * b)) :: st) h := by
  rw [x_imul]
theorem xr_56 {rt d L : Nat} {J : Nat → List ex_V → List ex_V → ex_H → Option ex_R} {is : List Instr} {ls st : List ex_V} {σ : ex_S} {H2 : ex_H} {a b c e : Int} (he : ex_cd d 56 [vR 54, vR 25, vI a, vI b, vI c, vI e] (SH L, σ) = some ([], H2)) (hok : okN 8 st = true) : ex_xs rt J (ex_cd d) (.invokevirtual 56 :: is) ls (vI e :: vI c :: vI b :: vI a :: vR 25 :: vR 54 :: st) (SH L, σ) = ex_xs rt J (ex_cd d) is ls st H2 := x_call1 (Or.inl rfl) rfl (sh_54 _) (Or.inl ⟨rfl, rfl⟩) (as := [vR 25, vI a, vI b, vI c, vI e]) rfl rfl (okN_ok hok) rfl he
theorem xr_55 {rt d L : Nat} {J : Nat → List ex_V → List ex_V → ex_H → Option ex_R} {is : List Instr} {ls st : List ex_V} {σ : ex_S} {H2 : ex_H} {a r : Int} (he : ex_cd d 55 [vR 54, vR 25, vI a] (SH L, σ) = some ([vI r], H2)) (hok : okN 8 st = true) : ex_xs rt J (ex_cd d) (.invokevirtual 55 :: is) ls (vI a :: vR 25 :: vR 54 :: st) (SH L, σ) = ex_xs rt J (ex_cd d) is ls (vI r :: st) H2 := x_call1 (Or.inl rfl) rfl (sh_54 _) (Or.inl ⟨rfl, rfl⟩) (as := [vR 25, vI a]) rfl rfl (okN_ok hok) rfl he
theorem xr_57 {rt d L : Nat} {J : Nat → List ex_V → List ex_V → ex_H → Option ex_R} {is : List Instr} {ls st : List ex_V} {σ : ex_S} {H2 : ex_H} {a r : Int} (he : ex_cd d 57 [vR 54, vR 25, vI a] (SH L, σ) = some ([vI r], H2)) (hok : okN 8 st = true) : ex_xs rt J (ex_cd d) (.invokevirtual 57 :: is) ls (vI a :: vR 25 :: vR 54 :: st) (SH L, σ) = ex_xs rt J (ex_cd d) is ls (vI r :: st) H2 := x_call1 (Or.inl rfl) rfl (sh_54 _) (Or.inl ⟨rfl, rfl⟩) (as := [vR 25, vI a]) rfl rfl (okN_ok hok) rfl he
theorem cpy_55 {rt : Nat} {J : Nat → List ex_V → List ex_V → ex_H → Option ex_R} {C : Nat → List ex_V → ex_H → Option ex_R} {is : List Instr} {ls : List ex_V} {L : Nat} {σ : ex_S} : ex_xs rt J C (.invokedynamic 0 :: is) ls [vI 5, vI 0, vR 55, vI 0, vR 56] (SH L, σ) = ex_xs rt J C is ls [] (SH L, ex_ar σ 55 (ex_cpy (σ 56) (σ 55) 0 0 5)) := x_cpy (sh_56 L) (sh_55 L) (by decide) (by decide) (by decide) (by decide) (by decide) (by decide) (by decide) rfl
theorem cb_tab : ((List.range 32).all fun f => (List.range 5).all fun p => (List.range 5).all fun q => decide (bit1 (clr (f : Int) (p : Int)) (q : Int) ↔ (q ≠ p ∧ bit1 (f : Int) (q : Int)))) = true := by decide +kernel
theorem clr_bit {f p q : Int} (f0 : 0 ≤ f) (f1 : f < 32) (p0 : 0 ≤ p) (p1 : p < 5) (q0 : 0 ≤ q) (q1 : q < 5) : bit1 (clr f p) q ↔ (q ≠ p ∧ bit1 f q) := by
  obtain ⟨x, rfl⟩ := Int.eq_ofNat_of_zero_le f0
  obtain ⟨y, rfl⟩ := Int.eq_ofNat_of_zero_le p0
  obtain ⟨z, rfl⟩ := Int.eq_ofNat_of_zero_le q0
  have := of_decide_eq_true (List.all_eq_true.mp (List.all_eq_true.mp (List.all_eq_true.mp cb_tab x (List.mem_range.mpr (by omega))) y (List.mem_range.mpr (by omega))) z (List.mem_range.mpr (by omega)))
  rw [this]
  omega
theorem tk_tab : ((List.range 32).all fun f => (List.range 5).all fun p => decide (0 ≤ ex_or (f : Int) (ex_shl 1 (p : Int)) ∧ ex_or (f : Int) (ex_shl 1 (p : Int)) < 32)) = true := by decide +kernel
theorem tk_lo {f p : Int} (f0 : 0 ≤ f) (f1 : f < 32) (p0 : 0 ≤ p) (p1 : p < 5) : 0 ≤ ex_or f (ex_shl 1 p) ∧ ex_or f (ex_shl 1 p) < 32 := by
  obtain ⟨x, rfl⟩ := Int.eq_ofNat_of_zero_le f0
  obtain ⟨y, rfl⟩ := Int.eq_ofNat_of_zero_le p0
  exact of_decide_eq_true (List.all_eq_true.mp (List.all_eq_true.mp tk_tab x (List.mem_range.mpr (by omega))) y (List.mem_range.mpr (by omega)))
/-- what tenants have from one on, in the first of the best givings -/
def asn (n : Int → Int) : Nat → Int → Int → Int
  | 0, _, _ => 0
  | r + 1, f, i => if i = 4 - (r : Int) then ((gvF n r f (mfN n (r + 1) f (-1)) 0 5 : Nat) : Int) else asn n r (clr f ((gvF n r f (mfN n (r + 1) f (-1)) 0 5 : Nat) : Int)) i
abbrev vG (n : Int → Int) (r : Nat) (f w p : Int) : Int := n (146 + 5 * (4 - (r : Int)) + p) + mfN n r (clr f p) w
theorem mf_hadw {n : Int → Int} (hN : NI n) {r : Nat} (hr : r < 5) {f w : Int} (h1 : 0 ≤ f) (h2 : f < 32) (hc : 1 ≤ cnt5 f) (hw : 4 - (r : Int) ≠ w) : (∃ p : Nat, p < 5 ∧ bit1 f (p : Int) ∧ vG n r f w (p : Int) = mfN n (r + 1) f w) ∧ ∀ p : Nat, p < 5 → bit1 f (p : Int) → vG n r f w (p : Int) ≤ mfN n (r + 1) f w := by
  obtain ⟨p, hp, hb⟩ := bit_ex h1 h2 hc
  have e : mfN n (r + 1) f w = itr (fun p b => if bit1 f (p : Int) then (if n (146 + 5 * (4 - (r : Int)) + (p : Int)) + mfN n r (clr f (p : Int)) w ≤ b then b else n (146 + 5 * (4 - (r : Int)) + (p : Int)) + mfN n r (clr f (p : Int)) w) else b) 0 5 (-1) := by
    rw [mfN, if_neg hw]
  obtain ⟨r1, r2, r3⟩ := itr_mx (fun p => n (146 + 5 * (4 - (r : Int)) + (p : Int)) + mfN n r (clr f (p : Int)) w) (fun p => bit1 f (p : Int)) 5 0 (-1)
  rw [← e] at r1 r2 r3
  refine ⟨?_, fun q hq hqb => r2 q (by omega) (by omega) hqb⟩
  rcases r3 with r3 | ⟨k, k1, k2, k3, k4⟩
  · have := r2 p (by omega) (by omega) hb
    have m := mfN_bd hN r (clr f (p : Int)) w (by omega)
    have bd := hN.bd (5 * (4 - (r : Int)) + (p : Int)) (by omega) (by omega)
    rw [show 146 + (5 * (4 - (r : Int)) + (p : Int)) = 146 + 5 * (4 - (r : Int)) + (p : Int) by omega] at bd
    exact ⟨p, hp, hb, by unfold vG; omega⟩
  · exact ⟨k, by omega, k3, k4.symm⟩
theorem gvF_eq (n : Int → Int) (r : Nat) (f le : Int) (q : Nat) (hq : gvP n r f le (q : Int)) (hn : ∀ k : Nat, k < q → ¬ gvP n r f le (k : Int)) : ∀ (j p : Nat), p ≤ q → q < p + j → gvF n r f le p j = q
  | 0, p, h1, h2 => by omega
  | j + 1, p, h1, h2 => by
    rw [gvF]
    by_cases e : p = q
    · rw [e, if_pos hq]
    · rw [if_neg (hn p (by omega))]
      exact gvF_eq n r f le q hq hn j (p + 1) (by omega) (by omega)
/-- the most of what is tried so far -/
def mxR (n : Int → Int) (r : Nat) (f w M s : Int) : Nat → Int
  | 0 => M
  | p + 1 => if bit1 f (p : Int) then (if mxR n r f w M s p < s + vG n r f w (p : Int) then s + vG n r f w (p : Int) else mxR n r f w M s p) else mxR n r f w M s p
theorem mxR_ch (n : Int → Int) (r : Nat) (f w M s : Int) : ∀ p : Nat, M ≤ mxR n r f w M s p ∧ (∀ q : Nat, q < p → bit1 f (q : Int) → s + vG n r f w (q : Int) ≤ mxR n r f w M s p) ∧ (mxR n r f w M s p = M ∨ ∃ q : Nat, q < p ∧ bit1 f (q : Int) ∧ mxR n r f w M s p = s + vG n r f w (q : Int))
  | 0 => ⟨Int.le_refl _, fun q h => by omega, Or.inl rfl⟩
  | p + 1 => by
    obtain ⟨i1, i2, i3⟩ := mxR_ch n r f w M s p
    rw [mxR]
    by_cases z : bit1 f (p : Int)
    · rw [if_pos z]
      by_cases y : mxR n r f w M s p < s + vG n r f w (p : Int)
      · rw [if_pos y]
        refine ⟨by omega, fun q hq hb => ?_, Or.inr ⟨p, by omega, z, rfl⟩⟩
        by_cases e : q = p
        · rw [e]; exact Int.le_refl _
        · have := i2 q (by omega) hb
          omega
      · rw [if_neg y]
        refine ⟨i1, fun q hq hb => ?_, ?_⟩
        · by_cases e : q = p
          · rw [e]; omega
          · exact i2 q (by omega) hb
        · rcases i3 with i3 | ⟨q, q1, q2, q3⟩
          · exact Or.inl i3
          · exact Or.inr ⟨q, by omega, q2, q3⟩
    · rw [if_neg z]
      refine ⟨i1, fun q hq hb => ?_, ?_⟩
      · by_cases e : q = p
        · rw [e] at hb; exact absurd hb z
        · exact i2 q (by omega) hb
      · rcases i3 with i3 | ⟨q, q1, q2, q3⟩
        · exact Or.inl i3
        · exact Or.inr ⟨q, by omega, q2, q3⟩
/-- after a try: what is best -/
def GVE (n : Int → Int) (r : Nat) (f w s t : Int) (σ σ' : ex_S) : Prop := (∀ a, a ≠ 54 → a ≠ 55 → a ≠ 56 → σ' a = σ a) ∧ (∀ i : Int, 0 ≤ i → i < t → σ' 56 i = σ 56 i) ∧ σ' 54 2 = (if σ 54 2 < s + mfN n r f w then s + mfN n r f w else σ 54 2) ∧ (w = -1 → (σ 54 2 < s + mfN n r f w → ∀ i : Int, 0 ≤ i → i < 5 → σ' 55 i = if i < t then σ 56 i else asn n r f i) ∧ (¬ σ 54 2 < s + mfN n r f w → ∀ i : Int, 0 ≤ i → i < 5 → σ' 55 i = σ 55 i))
def GVI (n : Int → Int) (r : Nat) (f w s t : Int) (σ τ : ex_S) (p : Nat) : Prop := (∀ a, a ≠ 54 → a ≠ 55 → a ≠ 56 → τ a = σ a) ∧ (∀ i : Int, 0 ≤ i → i < t → τ 56 i = σ 56 i) ∧ τ 54 2 = mxR n r f w (σ 54 2) s p ∧ (w = -1 → (¬ σ 54 2 < mxR n r f w (σ 54 2) s p → ∀ i : Int, 0 ≤ i → i < 5 → τ 55 i = σ 55 i) ∧ (σ 54 2 < mxR n r f w (σ 54 2) s p → ∃ q : Nat, q < p ∧ bit1 f (q : Int) ∧ s + vG n r f w (q : Int) = mxR n r f w (σ 54 2) s p ∧ (∀ k : Nat, k < q → bit1 f (k : Int) → s + vG n r f w (k : Int) < mxR n r f w (σ 54 2) s p) ∧ ∀ i : Int, 0 ≤ i → i < 5 → τ 55 i = if i < t then σ 56 i else if i = t then (q : Int) else asn n r (clr f (q : Int)) i))
theorem GVI_end {n : Int → Int} (hN : NI n) {r : Nat} (hr : r < 5) {f w s t : Int} (h1 : 0 ≤ f) (h2 : f < 32) (hc : 1 ≤ cnt5 f) (hw : 4 - (r : Int) ≠ w) (ht : t = 4 - (r : Int)) {σ τ : ex_S} (h : GVI n r f w s t σ τ 5) : GVE n (r + 1) f w s t σ τ := by
  obtain ⟨a1, a2, a3, a4⟩ := h
  obtain ⟨⟨k, k1, k2, k3⟩, kb⟩ := mf_hadw hN hr h1 h2 hc hw
  obtain ⟨c1, c2, c3⟩ := mxR_ch n r f w (σ 54 2) s 5
  have ck := c2 k k1 k2
  have e : mxR n r f w (σ 54 2) s 5 = if σ 54 2 < s + mfN n (r + 1) f w then s + mfN n (r + 1) f w else σ 54 2 := by
    rcases c3 with c3 | ⟨q, q1, q2, q3⟩
    · split <;> omega
    · have := kb q q1 q2
      split <;> omega
  refine ⟨a1, a2, by rw [a3, e], fun hw1 => ?_⟩
  obtain ⟨b1, b2⟩ := a4 hw1
  refine ⟨fun z => ?_, fun z => b1 (by rw [e, if_neg z]; omega)⟩
  rw [if_pos z] at e
  obtain ⟨q, q1, q2, q3, q4, q5⟩ := b2 (by omega)
  intro i i0 i1
  rw [q5 i i0 i1]
  subst hw1
  have hq : gvP n r f (mfN n (r + 1) f (-1)) (q : Int) := ⟨q2, by unfold vG at q3; omega⟩
  have hnq : ∀ k : Nat, k < q → ¬ gvP n r f (mfN n (r + 1) f (-1)) (k : Int) := fun k hk y => by
    have := q4 k hk y.1
    have := y.2
    unfold vG at *
    omega
  have eg := gvF_eq n r f _ q hq hnq 5 0 (by omega) (by omega)
  rw [asn, eg, ht]
def GVS (n : Int → Int) (r : Nat) : Prop := ∀ (d L : Nat) (σ : ex_S) (t k f w s : Int), 3 + r < d → r ≤ 5 → (∀ j : Int, 0 ≤ j → j < 25 → σ 25 j = n (146 + j)) → t = 5 - (r : Int) → 0 ≤ k → k < 32 → 0 ≤ f → f < 32 → (∀ p : Int, 0 ≤ p → p < 5 → (ex_and (ex_shr k p) 1 = 0 ↔ bit1 f p)) → (r : Int) ≤ cnt5 f → 0 ≤ s → s + 999 * (r : Int) ≤ 4995 → ∃ σ', ex_cd d 56 [vR 54, vR 25, vI w, vI t, vI k, vI s] (SH L, σ) = some ([], (SH L, σ')) ∧ GVE n r f w s t σ σ'
theorem gv_56 {n : Int → Int} (hN : NI n) : ∀ r : Nat, GVS n r
  | 0 => by
    intro d L σ t k f w s hd hr hB ht k0 k1 f0 f1 hk hc s0 s1
    have m0 : mfN n 0 f w = 0 := rfl
    by_cases z : σ 54 2 < s
    · refine ⟨ex_ar (ex_ar σ 54 (ex_u (σ 54) 2 s)) 55 (ex_cpy (σ 56) (σ 55) 0 0 5), ?_, fun a h1 h2 h3 => by rw [ex_ar_diff _ _ _ h2, ex_ar_diff _ _ _ h1], fun i i0 i1 => by rw [ex_ar_diff _ _ _ (by decide), ex_ar_diff _ _ _ (by decide)], ?_, fun _ => ⟨fun _ i i0 i1 => ?_, fun y => absurd (show σ 54 2 < s + 0 by omega) y⟩⟩
      · rw [ex_cd_eq (by omega)]
        show ex_ev (d - 1) 56 0 [vR 54, vR 25, vI w, vI t, vI k, vI s, vL 0] [] _ = _
        simp (disch := first | assumption | omega | ((repeat' first | exact ok_nil | apply ok_I | apply ok_R); done) | (simp (disch := first | omega | decide) only [ex_ar_same, ex_ar_diff, kM_diff, ex_u_same, ex_u_diff]; first | assumption | omega)) only [cpy_55, ev_56_0, ev_56_1, ev_56_2, ev_56_3, ev_56_5, ev_56_6, gf_54_0, gf_54_1, gf_54_2, ld_55, ld_56, ln_55, ln_56, pf_54_2, sd_55, sd_56, x_fall, x_goto, x_push, x_ret0, xl_a0, xl_a1, xl_i2, xl_i3, xl_i4, xl_i5, xl_i6, xn_6, xt_i6, y_cmp_ge_f, y_cmp_ge_t, y_cmp_le_f, y_cmp_le_t, y_cmp_lt_f, y_cmp_lt_t, y_cmp_ne_f, y_cmp_ne_t, y_iadd, y_iand, y_if_ne_f, y_if_ne_t, y_imul, y_ior, y_ishl, y_ishr, i_wr_id, kM_diff, Int.reduceToNat, ex_ar_same, ex_ar_ar, ex_ar_diff, ex_u_same, ex_u_diff, b2i_t, b2i_f, ex_div_nn, ex_rem_nn, Int.toNat_zero, Int.toNat_one, Int.reduceAdd, Int.reduceSub, Int.reduceMul, Int.reduceNeg, kC_ne, fC_ne]
      · rw [ex_ar_diff _ _ _ (by decide), ex_ar_same, ex_u_same, m0, if_pos (show σ 54 2 < s + 0 by omega)]
        omega
      · rw [ex_ar_same, if_pos (by omega)]
        show (if _ then _ else _) = _
        rw [if_pos (by omega), show 0 + (i - 0) = i by omega]
    · refine ⟨σ, ?_, fun _ _ _ _ => rfl, fun _ _ _ => rfl, by rw [m0, if_neg (show ¬ σ 54 2 < s + 0 by omega)], fun _ => ⟨fun y => absurd y (show ¬ σ 54 2 < s + 0 by omega), fun _ _ _ _ => rfl⟩⟩
      rw [ex_cd_eq (by omega)]
      show ex_ev (d - 1) 56 0 [vR 54, vR 25, vI w, vI t, vI k, vI s, vL 0] [] _ = _
      simp (disch := first | assumption | omega | ((repeat' first | exact ok_nil | apply ok_I | apply ok_R); done) | (simp (disch := first | omega | decide) only [ex_ar_same, ex_ar_diff, kM_diff, ex_u_same, ex_u_diff]; first | assumption | omega)) only [cpy_55, ev_56_0, ev_56_1, ev_56_2, ev_56_3, ev_56_5, ev_56_6, gf_54_0, gf_54_1, gf_54_2, ld_55, ld_56, ln_55, ln_56, pf_54_2, sd_55, sd_56, x_fall, x_goto, x_push, x_ret0, xl_a0, xl_a1, xl_i2, xl_i3, xl_i4, xl_i5, xl_i6, xn_6, xt_i6, y_cmp_ge_f, y_cmp_ge_t, y_cmp_le_f, y_cmp_le_t, y_cmp_lt_f, y_cmp_lt_t, y_cmp_ne_f, y_cmp_ne_t, y_iadd, y_iand, y_if_ne_f, y_if_ne_t, y_imul, y_ior, y_ishl, y_ishr, i_wr_id, kM_diff, Int.reduceToNat, ex_ar_same, ex_ar_ar, ex_ar_diff, ex_u_same, ex_u_diff, b2i_t, b2i_f, ex_div_nn, ex_rem_nn, Int.toNat_zero, Int.toNat_one, Int.reduceAdd, Int.reduceSub, Int.reduceMul, Int.reduceNeg, kC_ne, fC_ne]
  | r + 1 => by
    have ih : GVS n r := gv_56 hN r
    unfold GVS at ih
    intro d L σ t k f w s hd hr hB ht k0 k1 f0 f1 hk hc s0 s1
    rw [ex_cd_eq (by omega)]
    show ∃ σ', ex_ev (d - 1) 56 0 [vR 54, vR 25, vI w, vI t, vI k, vI s, vL 0] [] (SH L, σ) = _ ∧ _
    by_cases q : t = w
    · obtain ⟨σ', e, g1, g2, g3, g4⟩ := ih (d := d - 1) (L := L) (σ := σ) (t := t + 1) (k := k) (f := f) (w := w) (s := s) (by omega) (by omega) hB (by omega) k0 k1 f0 f1 hk (by omega) s0 (by omega)
      have em : mfN n (r + 1) f w = mfN n r f w := by rw [mfN, if_pos (by omega)]
      refine ⟨σ', ?_, g1, fun i i0 i1 => g2 i i0 (by omega), by rw [em]; exact g3, fun y => by omega⟩
      simp (disch := first | assumption | omega | ((repeat' first | exact ok_nil | apply ok_I | apply ok_R); done) | (simp (disch := first | omega | decide) only [ex_ar_same, ex_ar_diff, kM_diff, ex_u_same, ex_u_diff]; first | assumption | omega)) only [(xr_56 e), ev_56_0, ev_56_1, ev_56_2, ev_56_3, ev_56_5, ev_56_6, gf_54_0, gf_54_1, gf_54_2, ld_55, ld_56, ln_55, ln_56, pf_54_2, sd_55, sd_56, x_fall, x_goto, x_push, x_ret0, xl_a0, xl_a1, xl_i2, xl_i3, xl_i4, xl_i5, xl_i6, xn_6, xt_i6, y_cmp_ge_f, y_cmp_ge_t, y_cmp_le_f, y_cmp_le_t, y_cmp_lt_f, y_cmp_lt_t, y_cmp_ne_f, y_cmp_ne_t, y_iadd, y_iand, y_if_ne_f, y_if_ne_t, y_imul, y_ior, y_ishl, y_ishr, i_wr_id, kM_diff, Int.reduceToNat, ex_ar_same, ex_ar_ar, ex_ar_diff, ex_u_same, ex_u_diff, b2i_t, b2i_f, ex_div_nn, ex_rem_nn, Int.toNat_zero, Int.toNat_one, Int.reduceAdd, Int.reduceSub, Int.reduceMul, Int.reduceNeg, kC_ne, fC_ne]
    · have fin : ∀ p : Nat, p ≤ 5 → ∀ τ : ex_S, GVI n r f w s t σ τ p → ∃ σ', ex_ev (d - 1) 56 4 [vR 54, vR 25, vI w, vI t, vI k, vI s, vI (p : Int)] [] (SH L, τ) = some ([], (SH L, σ')) ∧ GVI n r f w s t σ σ' 5 := by
        refine down ?_ ?_
        · intro τ hτ
          refine ⟨τ, ?_, hτ⟩
          rw [ev_56_4]
          simp (disch := first | assumption | omega | ((repeat' first | exact ok_nil | apply ok_I | apply ok_R); done) | (simp (disch := first | omega | decide) only [ex_ar_same, ex_ar_diff, kM_diff, ex_u_same, ex_u_diff]; first | assumption | omega)) only [ev_56_0, ev_56_1, ev_56_2, ev_56_3, ev_56_5, ev_56_6, gf_54_0, gf_54_1, gf_54_2, ld_55, ld_56, ln_55, ln_56, pf_54_2, sd_55, sd_56, x_fall, x_goto, x_push, x_ret0, xl_a0, xl_a1, xl_i2, xl_i3, xl_i4, xl_i5, xl_i6, xn_6, xt_i6, y_cmp_ge_f, y_cmp_ge_t, y_cmp_le_f, y_cmp_le_t, y_cmp_lt_f, y_cmp_lt_t, y_cmp_ne_f, y_cmp_ne_t, y_iadd, y_iand, y_if_ne_f, y_if_ne_t, y_imul, y_ior, y_ishl, y_ishr, i_wr_id, kM_diff, Int.reduceToNat, ex_ar_same, ex_ar_ar, ex_ar_diff, ex_u_same, ex_u_diff, b2i_t, b2i_f, ex_div_nn, ex_rem_nn, Int.toNat_zero, Int.toNat_one, Int.reduceAdd, Int.reduceSub, Int.reduceMul, Int.reduceNeg, kC_ne, fC_ne]
        · intro p hp ihp τ hτ
          obtain ⟨a1, a2, a3, a4⟩ := id hτ
          have hkp := hk p (by omega) (by omega)
          by_cases z : bit1 f (p : Int)
          · have zk := hkp.mpr z
            have cl := clr_lo f0 f1 (show 0 ≤ (p : Int) by omega) (by omega) z
            have tl := tk_lo k0 k1 (show 0 ≤ (p : Int) by omega) (by omega)
            have bd := hN.bd (5 * t + (p : Int)) (by omega) (by omega)
            have eb : τ 25 (t * 5 + (p : Int)) = n (146 + (5 * t + (p : Int))) := by rw [a1 25 (by decide) (by decide) (by decide), hB _ (by omega) (by omega), show t * 5 + (p : Int) = 5 * t + (p : Int) by omega]
            obtain ⟨τ2, e, g1, g2, g3, g4⟩ := ih (d := d - 1) (L := L) (σ := ex_ar τ 56 (ex_u (τ 56) t (p : Int))) (t := t + 1) (k := ex_or k (ex_shl 1 (p : Int))) (f := clr f (p : Int)) (w := w) (s := s + n (146 + (5 * t + (p : Int)))) (by omega) (by omega) (fun j j0 j1 => by rw [ex_ar_diff _ _ _ (by decide), a1 25 (by decide) (by decide) (by decide)]; exact hB j j0 j1) (by omega) tl.1 tl.2 cl.1.1 cl.1.2 (fun x x0 x1 => by
              rw [clr_bit f0 f1 (by omega) (by omega) x0 x1]
              have := bt_up (u := k) (b := (p : Int)) (c := x) k0 (by omega) (by omega) (by omega) x0 (by omega)
              unfold bt at this
              rw [this]
              by_cases y : x = (p : Int)
              · rw [if_pos y]; exact ⟨fun h => absurd h (by decide), fun h => absurd y h.1⟩
              · rw [if_neg y, hk x x0 x1]; exact ⟨fun h => ⟨y, h⟩, fun h => h.2⟩) (by omega) (by omega) (by omega)
            have ev : s + n (146 + (5 * t + (p : Int))) + mfN n r (clr f (p : Int)) w = s + vG n r f w (p : Int) := by
              unfold vG
              rw [show 146 + 5 * (4 - (r : Int)) + (p : Int) = 146 + (5 * t + (p : Int)) by omega]
              omega
            have e54 : ex_ar τ 56 (ex_u (τ 56) t (p : Int)) 54 = τ 54 := ex_ar_diff _ _ _ (by decide)
            have e55 : ex_ar τ 56 (ex_u (τ 56) t (p : Int)) 55 = τ 55 := ex_ar_diff _ _ _ (by decide)
            rw [ev, e54, a3] at g3
            rw [ev, e54, e55, a3] at g4
            have nx : GVI n r f w s t σ τ2 (p + 1) := by
              refine ⟨fun a h1 h2 h3 => by rw [g1 a h1 h2 h3, ex_ar_diff _ _ _ h3, a1 a h1 h2 h3], fun i i0 i1 => by rw [g2 i i0 (by omega), ex_ar_same, ex_u_diff _ _ (by omega), a2 i i0 i1], by rw [g3, mxR, if_pos z], fun hw1 => ?_⟩
              obtain ⟨b1, b2⟩ := a4 hw1
              obtain ⟨d1, d2⟩ := g4 hw1
              rw [mxR, if_pos z]
              have ch := mxR_ch n r f w (σ 54 2) s p
              by_cases y : mxR n r f w (σ 54 2) s p < s + vG n r f w (p : Int)
              · rw [if_pos y]
                refine ⟨fun x => absurd (show σ 54 2 < s + vG n r f w (p : Int) by omega) x, fun _ => ⟨p, by omega, z, rfl, fun x hx hb => ?_, fun i i0 i1 => ?_⟩⟩
                · have := ch.2.1 x hx hb
                  omega
                · rw [d1 y i i0 i1, ex_ar_same]
                  by_cases x1 : i < t
                  · rw [if_pos (by omega), if_pos x1, ex_u_diff _ _ (by omega), a2 i i0 x1]
                  · by_cases x2 : i = t
                    · rw [if_pos (by omega), if_neg x1, if_pos x2, x2, ex_u_same]
                    · rw [if_neg (by omega), if_neg x1, if_neg x2]
              · rw [if_neg y]
                refine ⟨fun x i i0 i1 => by rw [d2 y i i0 i1]; exact b1 x i i0 i1, fun x => ?_⟩
                obtain ⟨u, u1, u2, u3, u4, u5⟩ := b2 x
                exact ⟨u, by omega, u2, u3, u4, fun i i0 i1 => by rw [d2 y i i0 i1]; exact u5 i i0 i1⟩
            obtain ⟨σ', h1, h2⟩ := ihp τ2 nx
            refine ⟨σ', ?_, h2⟩
            rw [← h1, ev_56_4]
            have w1 : ex_wr (t * 5) = t * 5 := i_wr_id (by omega) (by omega)
            have w2 : ex_wr (t * 5 + (p : Int)) = t * 5 + (p : Int) := i_wr_id (by omega) (by omega)
            have w3 : ex_wr (t + 1) = t + 1 := i_wr_id (by omega) (by omega)
            have w4 : ex_wr (s + n (146 + (5 * t + (p : Int)))) = s + n (146 + (5 * t + (p : Int))) := i_wr_id (by omega) (by omega)
            have w5 : ex_wr ((p : Int) + 1) = (p : Int) + 1 := i_wr_id (by omega) (by omega)
            simp (disch := first | assumption | omega | ((repeat' first | exact ok_nil | apply ok_I | apply ok_R); done) | (simp (disch := first | omega | decide) only [ex_ar_same, ex_ar_diff, kM_diff, ex_u_same, ex_u_diff]; first | assumption | omega)) only [(xr_56 e), eb, ev_56_0, ev_56_1, ev_56_2, ev_56_3, ev_56_5, ev_56_6, gf_54_0, gf_54_1, gf_54_2, ld_25, ld_55, ld_56, ln_55, ln_56, pf_54_2, sd_55, sd_56, w1, w2, w3, w4, w5, x_fall, x_goto, x_push, x_ret0, xl_a0, xl_a1, xl_i2, xl_i3, xl_i4, xl_i5, xl_i6, xn_6, xt_i6, y_cmp_ge_f, y_cmp_ge_t, y_cmp_le_f, y_cmp_le_t, y_cmp_lt_f, y_cmp_lt_t, y_cmp_ne_f, y_cmp_ne_t, y_iadd, y_iand, y_if_ne_f, y_if_ne_t, y_imul, y_ior, y_ishl, y_ishr, kM_diff, Int.reduceToNat, ex_ar_same, ex_ar_ar, ex_ar_diff, ex_u_same, ex_u_diff, b2i_t, b2i_f, ex_div_nn, ex_rem_nn, Int.toNat_zero, Int.toNat_one, Int.reduceAdd, Int.reduceSub, Int.reduceMul, Int.reduceNeg, kC_ne, fC_ne]
            rw [nat_cast_succ]
          · have zk : ¬ ex_and (ex_shr k (p : Int)) 1 = 0 := fun y => z (hkp.mp y)
            have nx : GVI n r f w s t σ τ (p + 1) := by
              refine ⟨a1, a2, by rw [a3, mxR, if_neg z], fun hw1 => ?_⟩
              obtain ⟨b1, b2⟩ := a4 hw1
              rw [mxR, if_neg z]
              refine ⟨b1, fun x => ?_⟩
              obtain ⟨u, u1, u2, u3, u4, u5⟩ := b2 x
              exact ⟨u, by omega, u2, u3, u4, u5⟩
            obtain ⟨σ', h1, h2⟩ := ihp τ nx
            refine ⟨σ', ?_, h2⟩
            rw [← h1, ev_56_4]
            simp (disch := first | assumption | omega | ((repeat' first | exact ok_nil | apply ok_I | apply ok_R); done) | (simp (disch := first | omega | decide) only [ex_ar_same, ex_ar_diff, kM_diff, ex_u_same, ex_u_diff]; first | assumption | omega)) only [ev_56_0, ev_56_1, ev_56_2, ev_56_3, ev_56_5, ev_56_6, gf_54_0, gf_54_1, gf_54_2, ld_55, ld_56, ln_55, ln_56, pf_54_2, sd_55, sd_56, x_fall, x_goto, x_push, x_ret0, xl_a0, xl_a1, xl_i2, xl_i3, xl_i4, xl_i5, xl_i6, xn_6, xt_i6, y_cmp_ge_f, y_cmp_ge_t, y_cmp_le_f, y_cmp_le_t, y_cmp_lt_f, y_cmp_lt_t, y_cmp_ne_f, y_cmp_ne_t, y_iadd, y_iand, y_if_ne_f, y_if_ne_t, y_imul, y_ior, y_ishl, y_ishr, i_wr_id, kM_diff, Int.reduceToNat, ex_ar_same, ex_ar_ar, ex_ar_diff, ex_u_same, ex_u_diff, b2i_t, b2i_f, ex_div_nn, ex_rem_nn, Int.toNat_zero, Int.toNat_one, Int.reduceAdd, Int.reduceSub, Int.reduceMul, Int.reduceNeg, kC_ne, fC_ne]
            rw [nat_cast_succ]
      obtain ⟨σ', h1, h2⟩ := fin 0 (by omega) σ ⟨fun _ _ _ _ => rfl, fun _ _ _ => rfl, rfl, fun _ => ⟨fun _ _ _ _ => rfl, fun x => absurd x (Int.lt_irrefl _)⟩⟩
      refine ⟨σ', ?_, GVI_end hN (by omega) f0 f1 (by omega) (by omega) (by omega) h2⟩
      simp (disch := first | assumption | omega | ((repeat' first | exact ok_nil | apply ok_I | apply ok_R); done) | (simp (disch := first | omega | decide) only [ex_ar_same, ex_ar_diff, kM_diff, ex_u_same, ex_u_diff]; first | assumption | omega)) only [ev_56_0, ev_56_1, ev_56_2, ev_56_3, ev_56_5, ev_56_6, gf_54_0, gf_54_1, gf_54_2, ld_55, ld_56, ln_55, ln_56, pf_54_2, sd_55, sd_56, x_fall, x_goto, x_push, x_ret0, xl_a0, xl_a1, xl_i2, xl_i3, xl_i4, xl_i5, xl_i6, xn_6, xt_i6, y_cmp_ge_f, y_cmp_ge_t, y_cmp_le_f, y_cmp_le_t, y_cmp_lt_f, y_cmp_lt_t, y_cmp_ne_f, y_cmp_ne_t, y_iadd, y_iand, y_if_ne_f, y_if_ne_t, y_imul, y_ior, y_ishl, y_ishr, i_wr_id, kM_diff, Int.reduceToNat, ex_ar_same, ex_ar_ar, ex_ar_diff, ex_u_same, ex_u_diff, b2i_t, b2i_f, ex_div_nn, ex_rem_nn, Int.toNat_zero, Int.toNat_one, Int.reduceAdd, Int.reduceSub, Int.reduceMul, Int.reduceNeg, kC_ne, fC_ne]
      exact h1
/-- the ref's greedy giving is that one -/
theorem gvR_asn {n : Int → Int} (hN : NI n) (g : Int → Int) : ∀ k : Nat, k ≤ 5 → ∀ i : Int, (k : Int) ≤ i → i < 5 → (gvR n g 5).2.2 i = asn n (5 - k) (gvR n g k).1 i := by
  refine down ?_ ?_
  · intro i i0 i1
    omega
  · intro k hk ih i i0 i1
    obtain ⟨h1, h2, h3⟩ := gvR_ok hN g k (by omega)
    rw [show 5 - k = (4 - k) + 1 by omega] at h3 ⊢
    rw [asn, ← h3, show 4 - ((4 - k : Nat) : Int) = (k : Int) by omega]
    by_cases z : i = (k : Int)
    · rw [if_pos z, z]
      have key : ∀ j : Nat, k < j → j ≤ 5 → (gvR n g j).2.2 (k : Int) = ((gvF n (4 - k) (gvR n g k).1 (gvR n g k).2.1 0 5 : Nat) : Int) := by
        intro j
        induction j with
        | zero => intro h _; omega
        | succ j ihj =>
          intro q1 q2
          rw [gvR]
          dsimp only
          by_cases y : j = k
          · rw [y, ex_u_same]
          · rw [ex_u_diff _ _ (by omega)]; exact ihj (by omega) (by omega)
      exact key 5 hk (by omega)
    · rw [if_neg z, ih i (by omega) i1, show 5 - (k + 1) = 4 - k by omega, gvR]
theorem fp_55 {d L : Nat} {σ : ex_S} {n : Int → Int} {w : Int} (hd : 10 < d) (hN : NI n) (hB : ∀ j : Int, 0 ≤ j → j < 25 → σ 25 j = n (146 + j)) : ∃ σ', ex_cd d 55 [vR 54, vR 25, vI w] (SH L, σ) = some ([vI (mfN n 5 31 w)], (SH L, σ')) ∧ (∀ a, a ≠ 54 → a ≠ 55 → a ≠ 56 → σ' a = σ a) ∧ (w = -1 → ∀ i : Int, 0 ≤ i → i < 5 → σ' 55 i = asn n 5 31 i) := by
  have mb := mfN_bd hN 5 31 w (by omega)
  have had : w = -1 ∨ w ≠ -1 := by omega
  have m0 : 0 ≤ mfN n 5 31 w := by
    have key : ∀ (r : Nat) (f : Int), r ≤ 5 → 0 ≤ f → f < 32 → (r : Int) ≤ cnt5 f → 0 ≤ mfN n r f w := by
      intro r
      induction r with
      | zero => intro f _ _ _ _; exact Int.le_refl 0
      | succ r ih =>
        intro f h1 h2 h3 h4
        by_cases z : 4 - (r : Int) = w
        · rw [mfN, if_pos z]; exact ih f (by omega) h2 h3 (by omega)
        · obtain ⟨⟨p, p1, p2, p3⟩, -⟩ := mf_hadw hN (r := r) (by omega) h2 h3 (by omega) z
          have cl := clr_lo h2 h3 (show 0 ≤ (p : Int) by omega) (by omega) p2
          have := ih (clr f (p : Int)) (by omega) cl.1.1 cl.1.2 (by omega)
          have bd := hN.bd (5 * (4 - (r : Int)) + (p : Int)) (by omega) (by omega)
          rw [show 146 + (5 * (4 - (r : Int)) + (p : Int)) = 146 + 5 * (4 - (r : Int)) + (p : Int) by omega] at bd
          unfold vG at p3
          omega
    exact key 5 31 (by omega) (by decide) (by decide) (by decide)
  have k31 : ((List.range 5).all fun p => decide (ex_and (ex_shr 0 (p : Int)) 1 = 0 ↔ bit1 31 (p : Int))) = true := by decide
  obtain ⟨σ', e, g1, g2, g3, g4⟩ := gv_56 hN 5 (d := d - 1) (L := L) (σ := ex_ar σ 54 (ex_u (σ 54) 2 (-1))) (t := 0) (k := 0) (f := 31) (w := w) (s := 0) (by omega) (by omega) (fun j j0 j1 => by rw [ex_ar_diff _ _ _ (by decide)]; exact hB j j0 j1) (by omega) (by decide) (by decide) (by decide) (by decide) (fun p p0 p1 => by
    obtain ⟨x, rfl⟩ := Int.eq_ofNat_of_zero_le p0
    exact of_decide_eq_true (List.all_eq_true.mp k31 x (List.mem_range.mpr (by omega)))) (by decide) (by decide) (by decide)
  rw [ex_ar_same, ex_u_same, if_pos (by omega), show 0 + mfN n 5 31 w = mfN n 5 31 w by omega] at g3
  rw [ex_ar_same, ex_u_same] at g4
  refine ⟨σ', ?_, fun a h1 h2 h3 => by rw [g1 a h1 h2 h3, ex_ar_diff _ _ _ h1], fun hw i i0 i1 => by rw [(g4 hw).1 (by omega) i i0 i1, if_neg (by omega)]⟩
  rw [ex_cd_eq (by omega)]
  show ex_ev (d - 1) 55 0 [vR 54, vR 25, vI w] [] _ = _
  simp (disch := first | assumption | omega | ((repeat' first | exact ok_nil | apply ok_I | apply ok_R); done) | (simp (disch := first | omega | decide) only [ex_ar_same, ex_ar_diff, kM_diff, ex_u_same, ex_u_diff]; first | assumption | omega)) only [(xr_56 e), ev_55_0, g3, gf_54_2, pf_54_2, x_push, x_ret1, xl_a0, xl_a1, xl_i2, i_wr_id, kM_diff, Int.reduceToNat, ex_ar_same, ex_ar_ar, ex_ar_diff, ex_u_same, ex_u_diff, b2i_t, b2i_f, ex_div_nn, ex_rem_nn, Int.toNat_zero, Int.toNat_one, Int.reduceAdd, Int.reduceSub, Int.reduceMul, Int.reduceNeg, kC_ne, fC_ne]
theorem ci_54 {σ σ' : ex_S} (hC : CI σ) (hf : ∀ a, a ≠ 54 → a ≠ 55 → a ≠ 56 → σ' a = σ a) : CI σ' :=
  ci_scr hC (fun a ha => hf a (by omega) (by omega) (by omega)) (by rw [hf _ (by decide) (by decide) (by decide)]) (by rw [hf _ (by decide) (by decide) (by decide)]) (fun _ _ _ => by rw [hf _ (by decide) (by decide) (by decide)])
theorem ck_114 {L d : Nat} {σ : ex_S} (hC : CI σ) (hd : 20 < d) : CK 114 208 [] σ L d := by
  (have p0 := hC.pr.p0; have p1 := hC.pr.p1; have k0 := hC.pr.k0; have k1 := hC.pr.k1; have kq := hC.pr.q; have q0 : 0 ≤ σ 4 10 := (by omega); have q1 : σ 4 10 ≤ 16 := (by omega); have hN := hC.ni; have hR := hC.rd.g; have hD := hC.rd; have hT := hC.st)
  obtain ⟨σ', e, hf, -⟩ := fp_55 (d := d - 1) (L := L) (w := -1) (by omega) hN hD.bd
  have e3 : σ' 433 = σ 433 := hf _ (by decide) (by decide) (by decide)
  have r := sp_208 (L := L) (d := d) (σ := σ') (by omega) (by rw [e3]; exact hN)
  rw [e3] at r
  refine CK.of (σ1 := σ') (r := mfN (σ 433) 5 31 (-1)) ?_ r rfl (ci_RS (ci_54 hC hf) (RS.of (fun a _ _ _ _ _ h6 _ _ _ _ => ex_ar_diff _ _ _ h6))) (by rw [ex_ar_diff _ _ _ (by decide)]; exact hf _ (by decide) (by decide) (by decide))
  rw [ex_cd_eq (by omega)]
  show ex_ev (d - 1) 114 0 [vR 4] [] _ = _
  simp (disch := first | assumption | omega | ((repeat' first | exact ok_nil | apply ok_I | apply ok_R); done) | (simp (disch := first | omega | decide) only [ex_ar_same, ex_ar_diff, kM_diff, ex_u_same, ex_u_diff]; first | assumption | omega)) only [(xr_55 e), ev_114_0, gf_4_0, gf_4_6, gf_5_3, x_push, x_ret1, xl_a0, i_wr_id, kM_diff, Int.reduceToNat, ex_ar_same, ex_ar_ar, ex_ar_diff, ex_u_same, ex_u_diff, b2i_t, b2i_f, ex_div_nn, ex_rem_nn, Int.toNat_zero, Int.toNat_one, Int.reduceAdd, Int.reduceSub, Int.reduceMul, Int.reduceNeg, kC_ne, fC_ne]
theorem asn_gv {n : Int → Int} (hN : NI n) (g : Int → Int) {i : Int} (i0 : 0 ≤ i) (i1 : i < 5) : asn n 5 31 i = gvnN n g i := by
  have := gvR_asn hN g 0 (by omega) i (by omega) i1
  unfold gvnN
  rw [this]
  rfl
theorem ck_112 {L d : Nat} {σ : ex_S} {t : Int} (hC : CI σ) (hd : 20 < d) : CK 112 206 [vI t] σ L d := by
  (have p0 := hC.pr.p0; have p1 := hC.pr.p1; have k0 := hC.pr.k0; have k1 := hC.pr.k1; have kq := hC.pr.q; have q0 : 0 ≤ σ 4 10 := (by omega); have q1 : σ 4 10 ≤ 16 := (by omega); have hN := hC.ni; have hR := hC.rd.g; have hD := hC.rd; have hT := hC.st)
  by_cases g : 0 ≤ t ∧ t ≤ 4
  · obtain ⟨σ', e, hf, hb⟩ := fp_55 (d := d - 1) (L := L) (w := -1) (by omega) hN hD.bd
    have e3 : σ' 433 = σ 433 := hf _ (by decide) (by decide) (by decide)
    have eb : σ' 55 t = gvnN (σ 433) (σ' 443) t := by rw [hb rfl t g.1 (by omega)]; exact asn_gv hN _ g.1 (by omega)
    have r := sp_206 (L := L) (d := d) (σ := σ') (t := t) (by omega) (by rw [e3]; exact hN)
    simp only [givenM, e3, if_pos g] at r
    refine CK.of (σ1 := σ') (r := gvnN (σ 433) (σ' 443) t) ?_ r rfl (ci_RS (ci_54 hC hf) (RS.of (fun a _ _ _ _ _ h6 _ _ _ _ => ex_ar_diff _ _ _ h6))) (by rw [ex_ar_diff _ _ _ (by decide)]; exact hf _ (by decide) (by decide) (by decide))
    rw [ex_cd_eq (by omega)]
    show ex_ev (d - 1) 112 0 [vR 4, vI t] [] _ = _
    simp (disch := first | assumption | omega | ((repeat' first | exact ok_nil | apply ok_I | apply ok_R); done) | (simp (disch := first | omega | decide) only [ex_ar_same, ex_ar_diff, kM_diff, ex_u_same, ex_u_diff]; first | assumption | omega)) only [(xr_55 e), eb, ev_112_0, ev_112_1, gf_4_0, gf_4_6, gf_54_0, gf_5_3, ld_25, ld_55, x_popI, x_push, x_ret1, xc_132, xc_139, xl_a0, xl_i1, y_if_ne_f, y_if_ne_t, i_wr_id, kM_diff, Int.reduceToNat, ex_ar_same, ex_ar_ar, ex_ar_diff, ex_u_same, ex_u_diff, b2i_t, b2i_f, ex_div_nn, ex_rem_nn, Int.toNat_zero, Int.toNat_one, Int.reduceAdd, Int.reduceSub, Int.reduceMul, Int.reduceNeg, kC_ne, fC_ne]
  · have t2 : (fC σ) 432 = σ 432 := fC_ne _ (by decide)
    have t3 : (fC σ) 433 = σ 433 := fC_ne _ (by decide)
    have t5 : (fC σ) 435 = σ 435 := fC_ne _ (by decide)
    have t6 : (fC σ) 436 = σ 436 := fC_ne _ (by decide)
    have t7 : (fC σ) 437 = σ 437 := fC_ne _ (by decide)
    have u1 : 0 ≤ (fC σ) 432 2 := by rw [t2]; exact k0
    have u2 : (fC σ) 432 2 ≤ 16 := by rw [t2]; exact k1
    have uN : NI ((fC σ) 433) := by rw [t3]; exact hN
    have uS : SI ((fC σ) 435) ((fC σ) 436) := by rw [t5, t6]; exact hC.si
    have := uN.a0; have := uN.b0; have := uN.a1; have := uN.b1; have := uN.a2; have := uN.b2; have := uN.a3; have := uN.b3; have := uN.a4; have := uN.b4; have := uN.a5; have := uN.b5; have := uN.a7; have := uN.b7; have := uN.a8; have := uN.b8; have := uN.a9; have := uN.b9; have := uN.a10; have := uN.b10
    have r := sp_206 (L := L) (d := d) (σ := fC σ) (t := t) (by omega) (by first | assumption | exact uN.oM | exact uN.oP | omega)
    simp only [givenM, t3, if_neg g] at r
    refine ck_fnd hC ?_ r
    (rw [ex_cd_eq (by omega)]; show ex_ev (d - 1) 112 0 [vR 4, vI t] [] _ = _; (repeat' first | simp (disch := first | assumption | omega | ((repeat' first | exact ok_nil | apply ok_I | apply ok_R); done) | (simp (disch := first | omega | decide) only [ex_ar_same, ex_ar_diff, kM_diff, ex_u_same, ex_u_diff]; first | assumption | omega)) only [ev_112_0, ev_112_1, gf_4_0, gf_4_6, gf_54_0, gf_5_3, ld_25, ld_55, x_popI, x_push, x_ret1, xc_132, xc_139, xl_a0, xl_i1, y_if_ne_f, y_if_ne_t, i_wr_id, kM_diff, Int.reduceToNat, ex_ar_same, ex_ar_ar, ex_ar_diff, ex_u_same, ex_u_diff, b2i_t, b2i_f, ex_div_nn, ex_rem_nn, Int.toNat_zero, Int.toNat_one, Int.reduceAdd, Int.reduceSub, Int.reduceMul, Int.reduceNeg, kC_ne, fC_ne] | refine bb_eq (fun _ => ?_) (fun _ => ?_) | refine bb_ne (fun _ => ?_) (fun _ => ?_) | refine bc_eq (fun _ => ?_) (fun _ => ?_) | refine bc_ne (fun _ => ?_) (fun _ => ?_) | refine bc_lt (fun _ => ?_) (fun _ => ?_) | refine bc_ge (fun _ => ?_) (fun _ => ?_) | refine bc_gt (fun _ => ?_) (fun _ => ?_) | refine bc_le (fun _ => ?_) (fun _ => ?_) | refine bi_eq (fun _ => ?_) (fun _ => ?_) | refine bi_ne (fun _ => ?_) (fun _ => ?_) | refine bi_lt (fun _ => ?_) (fun _ => ?_) | refine bi_ge (fun _ => ?_) (fun _ => ?_) | refine bi_gt (fun _ => ?_) (fun _ => ?_) | refine bi_le (fun _ => ?_) (fun _ => ?_)))
theorem fp_57 {d L : Nat} {σ : ex_S} {n : Int → Int} {t : Int} (hd : 12 < d) (hN : NI n) (hB : ∀ j : Int, 0 ≤ j → j < 25 → σ 25 j = n (146 + j)) (t0 : 0 ≤ t) (t1 : t ≤ 4) : ∃ σ', ex_cd d 57 [vR 54, vR 25, vI t] (SH L, σ) = some ([vI (mfN n 5 31 t - (mfN n 5 31 (-1) - n (146 + 5 * t + asn n 5 31 t)))], (SH L, σ')) ∧ (∀ a, a ≠ 54 → a ≠ 55 → a ≠ 56 → σ' a = σ a) := by
  obtain ⟨σ1, e1, f1, b1⟩ := fp_55 (d := d - 1) (L := L) (w := -1) (by omega) hN hB
  have hB1 : ∀ j : Int, 0 ≤ j → j < 25 → σ1 25 j = n (146 + j) := fun j j0 j1 => by rw [f1 25 (by decide) (by decide) (by decide)]; exact hB j j0 j1
  obtain ⟨σ2, e2, f2, -⟩ := fp_55 (d := d - 1) (L := L) (w := t) (by omega) hN hB1
  have ea : σ1 55 t = asn n 5 31 t := b1 rfl t t0 (by omega)
  have al : 0 ≤ asn n 5 31 t ∧ asn n 5 31 t < 5 := by rw [asn_gv hN (fun _ => 0) t0 (by omega)]; exact gvn_lo hN _ 5 (by omega) t t0 (by omega)
  have m1 := mfN_bd hN 5 31 (-1) (by omega)
  have m2 := mfN_bd hN 5 31 t (by omega)
  generalize asn n 5 31 t = p at *
  have bd := hN.bd (5 * t + p) (by omega) (by omega)
  rw [show 146 + (5 * t + p) = 146 + 5 * t + p by omega] at bd
  have eb : σ1 25 (t * 5 + p) = n (146 + 5 * t + p) := by rw [hB1 _ (by omega) (by omega), show 146 + (t * 5 + p) = 146 + 5 * t + p by omega]
  refine ⟨σ2, ?_, fun a h1 h2 h3 => by rw [f2 a h1 h2 h3, f1 a h1 h2 h3]⟩
  rw [ex_cd_eq (by omega)]
  show ex_ev (d - 1) 57 0 [vR 54, vR 25, vI t, vL 0, vL 0] [] _ = _
  simp (disch := first | assumption | omega | ((repeat' first | exact ok_nil | apply ok_I | apply ok_R); done) | (simp (disch := first | omega | decide) only [ex_ar_same, ex_ar_diff, kM_diff, ex_u_same, ex_u_diff]; first | assumption | omega)) only [(xr_55 e1), (xr_55 e2), ea, eb, ev_57_0, gf_54_0, ld_25, ld_55, x_push, x_ret1, xl_a0, xl_a1, xl_i2, xl_i3, xl_i4, xt_i3, xt_i4, y_iadd, y_imul, y_isub, i_wr_id, kM_diff, Int.reduceToNat, ex_ar_same, ex_ar_ar, ex_ar_diff, ex_u_same, ex_u_diff, b2i_t, b2i_f, ex_div_nn, ex_rem_nn, Int.toNat_zero, Int.toNat_one, Int.reduceAdd, Int.reduceSub, Int.reduceMul, Int.reduceNeg, kC_ne, fC_ne]
theorem ck_113 {L d : Nat} {σ : ex_S} {t : Int} (hC : CI σ) (hd : 20 < d) : CK 113 207 [vI t] σ L d := by
  (have p0 := hC.pr.p0; have p1 := hC.pr.p1; have k0 := hC.pr.k0; have k1 := hC.pr.k1; have kq := hC.pr.q; have q0 : 0 ≤ σ 4 10 := (by omega); have q1 : σ 4 10 ≤ 16 := (by omega); have hN := hC.ni; have hR := hC.rd.g; have hD := hC.rd; have hT := hC.st)
  by_cases g : 0 ≤ t ∧ t ≤ 4
  · obtain ⟨σ', e, hf⟩ := fp_57 (d := d - 1) (L := L) (t := t) (by omega) hN hD.bd g.1 g.2
    have e3 : σ' 433 = σ 433 := hf _ (by decide) (by decide) (by decide)
    have r := sp_207 (L := L) (d := d) (σ := σ') (t := t) (by omega) (by rw [e3]; exact hN)
    simp only [rentM, e3, if_pos g] at r
    rw [asn_gv hN (σ' 443) g.1 (by omega)] at e
    refine CK.of (σ1 := σ') ?_ r rfl (ci_RS (ci_54 hC hf) (RS.of (fun a _ _ _ _ _ h6 _ _ _ _ => ex_ar_diff _ _ _ h6))) (by rw [ex_ar_diff _ _ _ (by decide)]; exact hf _ (by decide) (by decide) (by decide))
    rw [ex_cd_eq (by omega)]
    show ex_ev (d - 1) 113 0 [vR 4, vI t] [] _ = _
    simp (disch := first | assumption | omega | ((repeat' first | exact ok_nil | apply ok_I | apply ok_R); done) | (simp (disch := first | omega | decide) only [ex_ar_same, ex_ar_diff, kM_diff, ex_u_same, ex_u_diff]; first | assumption | omega)) only [(xr_57 e), ev_113_0, ev_113_1, ev_113_2, gf_4_0, gf_4_6, gf_5_3, x_fall, x_goto, x_push, x_ret1, xc_132, xc_139, xl_a0, xl_i1, y_if_eq_f, y_if_eq_t, i_wr_id, kM_diff, Int.reduceToNat, ex_ar_same, ex_ar_ar, ex_ar_diff, ex_u_same, ex_u_diff, b2i_t, b2i_f, ex_div_nn, ex_rem_nn, Int.toNat_zero, Int.toNat_one, Int.reduceAdd, Int.reduceSub, Int.reduceMul, Int.reduceNeg, kC_ne, fC_ne]
  · have t2 : (fC σ) 432 = σ 432 := fC_ne _ (by decide)
    have t3 : (fC σ) 433 = σ 433 := fC_ne _ (by decide)
    have t5 : (fC σ) 435 = σ 435 := fC_ne _ (by decide)
    have t6 : (fC σ) 436 = σ 436 := fC_ne _ (by decide)
    have t7 : (fC σ) 437 = σ 437 := fC_ne _ (by decide)
    have u1 : 0 ≤ (fC σ) 432 2 := by rw [t2]; exact k0
    have u2 : (fC σ) 432 2 ≤ 16 := by rw [t2]; exact k1
    have uN : NI ((fC σ) 433) := by rw [t3]; exact hN
    have uS : SI ((fC σ) 435) ((fC σ) 436) := by rw [t5, t6]; exact hC.si
    have := uN.a0; have := uN.b0; have := uN.a1; have := uN.b1; have := uN.a2; have := uN.b2; have := uN.a3; have := uN.b3; have := uN.a4; have := uN.b4; have := uN.a5; have := uN.b5; have := uN.a7; have := uN.b7; have := uN.a8; have := uN.b8; have := uN.a9; have := uN.b9; have := uN.a10; have := uN.b10
    have r := sp_207 (L := L) (d := d) (σ := fC σ) (t := t) (by omega) (by first | assumption | exact uN.oM | exact uN.oP | omega)
    simp only [rentM, t3, if_neg g] at r
    refine ck_fnd hC ?_ r
    (rw [ex_cd_eq (by omega)]; show ex_ev (d - 1) 113 0 [vR 4, vI t] [] _ = _; (repeat' first | simp (disch := first | assumption | omega | ((repeat' first | exact ok_nil | apply ok_I | apply ok_R); done) | (simp (disch := first | omega | decide) only [ex_ar_same, ex_ar_diff, kM_diff, ex_u_same, ex_u_diff]; first | assumption | omega)) only [ev_113_0, ev_113_1, ev_113_2, gf_4_0, gf_4_6, gf_5_3, x_fall, x_goto, x_push, x_ret1, xc_132, xc_139, xl_a0, xl_i1, y_if_eq_f, y_if_eq_t, i_wr_id, kM_diff, Int.reduceToNat, ex_ar_same, ex_ar_ar, ex_ar_diff, ex_u_same, ex_u_diff, b2i_t, b2i_f, ex_div_nn, ex_rem_nn, Int.toNat_zero, Int.toNat_one, Int.reduceAdd, Int.reduceSub, Int.reduceMul, Int.reduceNeg, kC_ne, fC_ne] | refine bb_eq (fun _ => ?_) (fun _ => ?_) | refine bb_ne (fun _ => ?_) (fun _ => ?_) | refine bc_eq (fun _ => ?_) (fun _ => ?_) | refine bc_ne (fun _ => ?_) (fun _ => ?_) | refine bc_lt (fun _ => ?_) (fun _ => ?_) | refine bc_ge (fun _ => ?_) (fun _ => ?_) | refine bc_gt (fun _ => ?_) (fun _ => ?_) | refine bc_le (fun _ => ?_) (fun _ => ?_) | refine bi_eq (fun _ => ?_) (fun _ => ?_) | refine bi_ne (fun _ => ?_) (fun _ => ?_) | refine bi_lt (fun _ => ?_) (fun _ => ?_) | refine bi_ge (fun _ => ?_) (fun _ => ?_) | refine bi_gt (fun _ => ?_) (fun _ => ?_) | refine bi_le (fun _ => ?_) (fun _ => ?_)))
