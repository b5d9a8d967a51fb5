/-! the invariant holds at the start -/
def S0 (L : Nat) : List ex_C := [cA L, cA 4, cA 6, cA 6]
def lw_g1 (i : Int) : Int := if i = 0 then -1 else if i = 3 then 1 else 0
def lw_g2 (i : Int) : Int := if i = 0 then 1 else if i = 1 then 1 else if i = 2 then 1 else 0
def lw_g3 (i : Int) : Int := if i = 0 then 9 else if i = 1 then 30 else if i = 2 then 99 else if i = 3 then 23 else if i = 4 then 9 else if i = 5 then 99 else 0
def lw_g (xs : Nat → Int32) (k : Nat) (i : Int) : Int := match k with
  | 0 => (xs i.toNat).toInt
  | 1 => lw_g1 i
  | 2 => lw_g2 i
  | 3 => lw_g3 i
  | _ => 0
theorem n0_z {k : Int} (h3 : k ≠ 3) (h5 : k ≠ 5) (h : ¬ (36 ≤ k ∧ k < 41)) : n0 k = 0 := by unfold n0; rw [if_neg h3, if_neg h5, if_neg h]
theorem n0_m {k : Int} (h : 36 ≤ k ∧ k < 41) : n0 k = 100 := by unfold n0; rw [if_neg (by omega), if_neg (by omega), if_pos h]
theorem n0_st (c : Int) : standN n0 c = -1 := rfl
theorem n0_cnt : cntS n0 = 0 := by unfold cntS; simp only [n0_st]; rfl
theorem NI_0 : NI n0 := by
  have z : ∀ {k : Int}, k ≠ 3 → k ≠ 5 → ¬ (36 ≤ k ∧ k < 41) → n0 k = 0 := n0_z
  have e0 : n0 0 = 0 := rfl
  have e1 : n0 1 = 0 := rfl
  have e2 : n0 2 = 0 := rfl
  have e3 : n0 3 = 1 := rfl
  have e4 : n0 4 = 0 := rfl
  have e5 : n0 5 = 10 := rfl
  have e6 : n0 6 = 0 := rfl
  have e7 : n0 7 = 0 := rfl
  have e8 : n0 8 = 0 := rfl
  have e9 : n0 9 = 0 := rfl
  have e10 : n0 10 = 0 := rfl
  refine NI.mk ?_ ?_ ?_ ?_ ?_ ?_ ?_ ?_ ?_ ?_ ?_ ?_ ?_ ?_ ?_ ?_ ?_ ?_ ?_ ?_ ?_ ?_ ?_ ?_ ?_ ?_ ?_ ?_ ?_ ?_ ?_ ?_ ?_ ?_ ?_ ?_ ?_ ?_ ?_ ?_ ?_ ?_ ?_ ?_ ?_ ?_ 
  all_goals first
    | omega
    | (intro l l0 l1; rw [z (by omega) (by omega) (by omega)]; omega)
    | (intro l l0 l1; rw [n0_m (by omega)]; omega)
    | (intro l l0 l1; exact Or.inl (z (by omega) (by omega) (by omega)))
    | (intro l i l0 l1 i0 i1; rw [z (k := 46 + l) (by omega) (by omega) (by omega)] at i1; omega)
    | (intro l i l' i' l0 l1 i0 i1; rw [z (k := 46 + l) (by omega) (by omega) (by omega)] at i1; omega)
    | (intro l l0 l1; exact ⟨z (by omega) (by omega) (by omega), n0_m (by omega), z (by omega) (by omega) (by omega), z (by omega) (by omega) (by omega)⟩)
    | (rw [n0_cnt]; rfl)
theorem RD5_0 {σ : ex_S} (h : z0S σ = true) : RD5 σ (σ 433) := by
  unfold z0S at h
  rw [Bool.and_eq_true, Bool.and_eq_true, Bool.and_eq_true, Bool.and_eq_true, Bool.and_eq_true, Bool.and_eq_true, Bool.and_eq_true, Bool.and_eq_true] at h
  obtain ⟨hn, h5, h4, h432, h6, h18, h21, h25, h⟩ := h
  have en := z0A_ok hn
  have e5 := z0A_ok h5
  have e6 := z0A_ok h6
  have q0 : σ 433 0 = 0 := (en 0 (by decide) (by decide)).trans rfl
  have q1 : σ 433 1 = 0 := (en 1 (by decide) (by decide)).trans rfl
  have q2 : σ 433 2 = 0 := (en 2 (by decide) (by decide)).trans rfl
  have q3 : σ 433 3 = 1 := (en 3 (by decide) (by decide)).trans rfl
  have q4 : σ 433 4 = 0 := (en 4 (by decide) (by decide)).trans rfl
  have q5 : σ 433 5 = 10 := (en 5 (by decide) (by decide)).trans rfl
  have q6 : σ 433 6 = 0 := (en 6 (by decide) (by decide)).trans rfl
  have q7 : σ 433 7 = 0 := (en 7 (by decide) (by decide)).trans rfl
  have q8 : σ 433 8 = 0 := (en 8 (by decide) (by decide)).trans rfl
  have q9 : σ 433 9 = 0 := (en 9 (by decide) (by decide)).trans rfl
  have q10 : σ 433 10 = 0 := (en 10 (by decide) (by decide)).trans rfl
  refine RD5.mk (RG6.mk ?_ ?_ ?_ ?_ ?_ ?_ ?_ ?_ ?_ ?_ ?_ ?_ ?_ ?_) ?_ ?_ ?_ ?_ ?_ ?_ ?_ ?_ ?_ ?_ ?_ ?_ ?_ ?_
  · rw [e6 0 (by decide) (by decide), q0]; rfl
  · rw [e6 1 (by decide) (by decide), q1]; rfl
  · intro l l0 l1; omega
  · intro l l0 l1; omega
  · intro l l0 l1; omega
  · intro l l0 l1; omega
  · intro l l0 l1; omega
  · intro l l0 l1; omega
  · intro l l0 l1; omega
  · intro l l0 l1; omega
  · intro l l0 l1; omega
  · intro l i l0 l1; omega
  · intro l i l0 l1; omega
  · intro l l0 l1; omega
  · rw [z0A_ok h18 0 (by decide) (by decide), q8]; rfl
  · intro l l0 l1; omega
  · rw [z0A_ok h21 0 (by decide) (by decide), q10]; rfl
  · intro l l0 l1; omega
  · intro k k0 k1
    rw [z0A_ok h25 k k0 k1, en (146 + k) (by omega) (show 146 + k < 277 by omega), n0_z (by omega) (by omega) (by omega)]; rfl
  · intro l l0 l1; omega
  · intro l l0 l1; omega
  · rw [e5 6 (by decide) (by decide), q9]; rfl
  · rw [e5 7 (by decide) (by decide), q7]; rfl
  · rw [e5 8 (by decide) (by decide), q2]; rfl
  · rw [e5 9 (by decide) (by decide), q3]; rfl
  · rw [e5 10 (by decide) (by decide), q4]; rfl
  · rw [e5 11 (by decide) (by decide), q5]; rfl
  · rw [e5 12 (by decide) (by decide), q6]; rfl
theorem ST_0 {xs : Nat → Int32} {σ : ex_S} (h : ∀ a, a < 4 → σ a = lw_g xs a) : ST σ := by
  refine ST.mk ?_ ?_ ?_ ?_ ?_ ?_ ?_ ?_ ?_ ?_ ?_ ?_ ?_ ?_ ?_ ?_ <;> (rw [h _ (by decide)]; rfl)
theorem CI_0 {xs : Nat → Int32} {σ : ex_S} (hs : ∀ a, a < 4 → σ a = lw_g xs a) (h : z0S σ = true) : CI σ := by
  have hR := RD5_0 h
  unfold z0S at h
  rw [Bool.and_eq_true, Bool.and_eq_true, Bool.and_eq_true, Bool.and_eq_true, Bool.and_eq_true, Bool.and_eq_true, Bool.and_eq_true, Bool.and_eq_true, Bool.and_eq_true, Bool.and_eq_true, Bool.and_eq_true, Bool.and_eq_true, Bool.and_eq_true, Bool.and_eq_true] at h
  obtain ⟨hn, h5, h4, h432, h6, h18, h21, h25, h30, h31, h435, h436, h32, h437, h447⟩ := h
  have e4 : ∀ i : Int, 0 ≤ i → i < 12 → σ 4 i = 0 := z0A_ok h4
  have e432 : ∀ i : Int, 0 ≤ i → i < 4 → σ 432 i = 0 := z0A_ok h432
  have e435 : ∀ i : Int, 0 ≤ i → i < 4 → σ 435 i = 0 := z0A_ok h435
  have e436 : ∀ i : Int, 0 ≤ i → i < 4 → σ 436 i = 0 := z0A_ok h436
  have e30 : ∀ i : Int, 0 ≤ i → i < 4 → σ 30 i = 0 := z0A_ok h30
  have e31 : ∀ i : Int, 0 ≤ i → i < 4 → σ 31 i = 0 := z0A_ok h31
  have e437 : ∀ i : Int, 0 ≤ i → i < 80 → σ 437 i = 0 := z0A_ok h437
  have e447 : ∀ i : Int, 0 ≤ i → i < 5 → σ 447 i = 0 := z0A_ok h447
  have k2 := e432 2 (by decide) (by decide)
  have p9 := e4 9 (by decide) (by decide)
  refine CI.mk (ST_0 hs) (NI_cg NI_0 (fun k k0 k1 => z0A_ok hn k k0 k1)) hR (PR.mk (by omega) (by omega) ?_ (by omega) (by omega) (fun j j0 j1 => by omega)) ?_ ?_ ?_ ?_ ?_ ?_ ?_
  · rw [k2]; exact e4 10 (by decide) (by decide)
  · rw [e4 11 (by decide) (by decide), e432 3 (by decide) (by decide)]
  · intro s s0 s1
    rw [e435 s s0 (by omega), e436 s s0 (by omega)]
    exact ⟨Or.inl rfl, by decide, by decide⟩
  · intro s s0 s1; rw [e30 s s0 (by omega), e435 s s0 (by omega)]
  · intro s s0 s1; rw [e31 s s0 (by omega), e436 s s0 (by omega)]
  · intro s i s0 s1 i0 i1
    rw [e435 s s0 (by omega)]
    exact ⟨fun h => by omega, fun h => by omega, fun h => by omega⟩
  · intro k k0 k1; rw [e437 k k0 k1]; exact ⟨by decide, by decide⟩
  · intro l l0 l1; exact e447 l l0 l1
theorem TH_0 (L : Nat) (xs : Nat → Int32) : TH (S0 L) (lw_g xs) z0H (S0 L, lw_g xs) := by
  refine ⟨rfl, by decide, fun a ha => ?_, fun a ha => ?_, fun a ha => rfl, fun a ha => rfl, fun a ha => ?_⟩
  · show (S0 L)[a]? = ([cA 0, cA 4, cA 6, cA 6] : List ex_C)[a]?
    rw [List.getElem?_eq_none (by show 4 ≤ a; exact ha), List.getElem?_eq_none (by show 4 ≤ a; exact ha)]
  · match a, ha with
    | a + 4, _ => rfl
  · match a, ha with
    | 0, _ => exact ⟨0, rfl⟩
    | 1, _ => exact ⟨4, rfl⟩
    | 2, _ => exact ⟨6, rfl⟩
    | 3, _ => exact ⟨6, rfl⟩
theorem z0S_cg {σ σ' : ex_S} (h : ∀ a, 4 ≤ a → σ' a = σ a) (hz : z0S σ = true) : z0S σ' = true := by
  have e : ∀ (a : Nat) (f : Int → Int) (n : Nat), 4 ≤ a → z0A σ' a f n = z0A σ a f n := by
    intro a f n ha
    induction n with
    | zero => rfl
    | succ n ih => rw [z0A, z0A, ih, h a ha]
  unfold z0S at hz ⊢
  rw [e _ _ _ (by decide), e _ _ _ (by decide), e _ _ _ (by decide), e _ _ _ (by decide), e _ _ _ (by decide), e _ _ _ (by decide), e _ _ _ (by decide), e _ _ _ (by decide), e _ _ _ (by decide), e _ _ _ (by decide), e _ _ _ (by decide), e _ _ _ (by decide), e _ _ _ (by decide), e _ _ _ (by decide), e _ _ _ (by decide)]
  exact hz
set_option maxRecDepth 100000 in
theorem sht_3 : SHT.take 3 = [cA 4, cA 6, cA 6] := by decide +kernel
theorem lw_init (L : Nat) (xs : Nat → Int32) : ∃ σ1, ex_ev 40 241 0 [vR 0, vL 0, vL 0, vL 0] [] (S0 L, lw_g xs) = some (lw_ls 0, (SH L, σ1)) ∧ CI σ1 ∧ σ1 0 = lw_g xs 0 := by
  obtain ⟨r, hr, r1, r2, r3⟩ := z0_r
  unfold z0R at hr
  obtain ⟨h2, e2, T2⟩ := tr_run _ _ _ _ _ _ _ _ _ hr (TH_0 L xs)
  obtain ⟨t1, t2, t3, t4, t5, t6, t7⟩ := T2
  have hC : h2.1 = SH L := by
    apply List.ext_getElem?
    intro a
    by_cases ha : 4 ≤ a
    · rw [t3 a ha, r2]
      show (cA 0 :: SHT)[a]? = (cA L :: SHT)[a]?
      match a, ha with
      | a + 1, _ => rfl
    · rw [t5 a (by omega)]
      have q : ∀ k, k < 3 → SHT[k]? = ([cA 4, cA 6, cA 6] : List ex_C)[k]? := fun k hk => by rw [← sht_3, List.getElem?_take_of_lt hk]
      match a, ha with
      | 0, _ => rfl
      | 1, _ => exact (q 0 (by decide)).symm
      | 2, _ => exact (q 1 (by decide)).symm
      | 3, _ => exact (q 2 (by decide)).symm
      | a + 4, h => omega
  refine ⟨h2.2, ex_ev_some.mpr ⟨3000, ?_⟩, CI_0 (xs := xs) t6 (z0S_cg t4 r3), t6 0 (by decide)⟩
  rw [e2, r1, ← hC]
