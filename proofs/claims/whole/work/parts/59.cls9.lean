/-! the class: bids, evenings, notes, looks, nights, coming and going -/
theorem RD5_bd {σ σ' : ex_S} {n n' : Int → Int} (hR : RD5 σ n) (hN : NI n) (hn : ∀ k : Int, 0 ≤ k → k < 277 → k < 146 ∨ 170 < k → n' k = n k) (ha : ∀ a, 6 ≤ a ∧ a ≤ 27 → a ≠ 25 → σ' a = σ a) (h5 : ∀ k : Int, 0 ≤ k → σ' 5 k = σ 5 k) (bd : ∀ k : Int, 0 ≤ k → k < 25 → σ' 25 k = n' (146 + k)) : RD5 σ' n' := by
  have b7 := hN.b7
  have b8 := hN.b8
  have b9 := hN.b9
  have b10 := hN.b10
  exact RD5.mk (RG_cp (G := 6) (G' := 6) hR.g hN (fun k hk => hn k (by omega) (by omega) (by omega)) (by rw [ha _ (by omega) (by omega)]) (by rw [ha _ (by omega) (by omega)]) (fun i _ _ => by rw [ha _ (by omega) (by omega)]) (fun i _ _ => by rw [ha _ (by omega) (by omega)]) (fun i _ _ => by rw [ha _ (by omega) (by omega)]) (fun i _ _ => by rw [ha _ (by omega) (by omega)]) (fun i _ _ => by rw [ha _ (by omega) (by omega)]) (fun i _ _ => by rw [ha _ (by omega) (by omega)]) (fun i _ _ => by rw [ha _ (by omega) (by omega)]) (fun i _ _ => by rw [ha _ (by omega) (by omega)]) (fun i _ _ => by rw [ha _ (by omega) (by omega)]) (fun i _ _ => by rw [ha _ (by omega) (by omega)]) (fun i _ _ => by rw [ha _ (by omega) (by omega)])) (by rw [ha _ (by omega) (by omega), hn _ (by omega) (by omega) (by omega)]; exact hR.lc) (fun k k1 k2 => by rw [hn _ (by omega) (by omega) (by omega)] at k2; rw [ha _ (by omega) (by omega), ha _ (by omega) (by omega), hn _ (by omega) (by omega) (by omega)]; exact hR.le k k1 k2) (by rw [ha _ (by omega) (by omega), hn _ (by omega) (by omega) (by omega)]; exact hR.kc) (fun k k1 k2 => by rw [hn _ (by omega) (by omega) (by omega)] at k2; rw [ha _ (by omega) (by omega), ha _ (by omega) (by omega), ha _ (by omega) (by omega), hn _ (by omega) (by omega) (by omega)]; exact hR.ky k k1 k2) bd (fun k k1 k2 => by rw [hn _ (by omega) (by omega) (by omega)] at k2; rw [ha _ (by omega) (by omega), hn _ (by omega) (by omega) (by omega)]; exact hR.tx k k1 k2) (fun k k1 k2 => by rw [hn _ (by omega) (by omega) (by omega)] at k2; rw [ha _ (by omega) (by omega), hn _ (by omega) (by omega) (by omega)]; exact hR.ev k k1 k2) (by rw [h5 _ (by omega), hn _ (by omega) (by omega) (by omega)]; exact hR.i6) (by rw [h5 _ (by omega), hn _ (by omega) (by omega) (by omega)]; exact hR.i7) (by rw [h5 _ (by omega), hn _ (by omega) (by omega) (by omega)]; exact hR.i8) (by rw [h5 _ (by omega), hn _ (by omega) (by omega) (by omega)]; exact hR.i9) (by rw [h5 _ (by omega), hn _ (by omega) (by omega) (by omega)]; exact hR.i10) (by rw [h5 _ (by omega), hn _ (by omega) (by omega) (by omega)]; exact hR.i11) (by rw [h5 _ (by omega), hn _ (by omega) (by omega) (by omega)]; exact hR.i12)
theorem RD5_ev {σ σ' : ex_S} {n n' : Int → Int} (hR : RD5 σ n) (hN : NI n) (hn : ∀ k : Int, 0 ≤ k → k < 277 → k ≠ 7 ∧ (k < 139 ∨ 145 < k) → n' k = n k) (ha : ∀ a, 6 ≤ a ∧ a ≤ 27 → a ≠ 27 → σ' a = σ a) (h5 : ∀ k : Int, k ≠ 7 → σ' 5 k = σ 5 k) (ev : ∀ k : Int, 0 ≤ k → k < n' 7 → σ' 27 k = n' (139 + k)) (i7 : σ' 5 7 = n' 7) : RD5 σ' n' := by
  have b7 := hN.b7
  have b8 := hN.b8
  have b9 := hN.b9
  have b10 := hN.b10
  exact RD5.mk (RG_cp (G := 6) (G' := 6) hR.g hN (fun k hk => hn k (by omega) (by omega) (by omega)) (by rw [ha _ (by omega) (by omega)]) (by rw [ha _ (by omega) (by omega)]) (fun i _ _ => by rw [ha _ (by omega) (by omega)]) (fun i _ _ => by rw [ha _ (by omega) (by omega)]) (fun i _ _ => by rw [ha _ (by omega) (by omega)]) (fun i _ _ => by rw [ha _ (by omega) (by omega)]) (fun i _ _ => by rw [ha _ (by omega) (by omega)]) (fun i _ _ => by rw [ha _ (by omega) (by omega)]) (fun i _ _ => by rw [ha _ (by omega) (by omega)]) (fun i _ _ => by rw [ha _ (by omega) (by omega)]) (fun i _ _ => by rw [ha _ (by omega) (by omega)]) (fun i _ _ => by rw [ha _ (by omega) (by omega)]) (fun i _ _ => by rw [ha _ (by omega) (by omega)])) (by rw [ha _ (by omega) (by omega), hn _ (by omega) (by omega) (by omega)]; exact hR.lc) (fun k k1 k2 => by rw [hn _ (by omega) (by omega) (by omega)] at k2; rw [ha _ (by omega) (by omega), ha _ (by omega) (by omega), hn _ (by omega) (by omega) (by omega)]; exact hR.le k k1 k2) (by rw [ha _ (by omega) (by omega), hn _ (by omega) (by omega) (by omega)]; exact hR.kc) (fun k k1 k2 => by rw [hn _ (by omega) (by omega) (by omega)] at k2; rw [ha _ (by omega) (by omega), ha _ (by omega) (by omega), ha _ (by omega) (by omega), hn _ (by omega) (by omega) (by omega)]; exact hR.ky k k1 k2) (fun k k1 k2 => by rw [ha _ (by omega) (by omega), hn _ (by omega) (by omega) (by omega)]; exact hR.bd k k1 k2) (fun k k1 k2 => by rw [hn _ (by omega) (by omega) (by omega)] at k2; rw [ha _ (by omega) (by omega), hn _ (by omega) (by omega) (by omega)]; exact hR.tx k k1 k2) ev (by rw [h5 _ (by omega), hn _ (by omega) (by omega) (by omega)]; exact hR.i6) i7 (by rw [h5 _ (by omega), hn _ (by omega) (by omega) (by omega)]; exact hR.i8) (by rw [h5 _ (by omega), hn _ (by omega) (by omega) (by omega)]; exact hR.i9) (by rw [h5 _ (by omega), hn _ (by omega) (by omega) (by omega)]; exact hR.i10) (by rw [h5 _ (by omega), hn _ (by omega) (by omega) (by omega)]; exact hR.i11) (by rw [h5 _ (by omega), hn _ (by omega) (by omega) (by omega)]; exact hR.i12)
theorem RD5_ky {σ σ' : ex_S} {n n' : Int → Int} (hR : RD5 σ n) (hN : NI n) (hn : ∀ k : Int, 0 ≤ k → k < 277 → k ≠ 10 ∧ (k < 247) → n' k = n k) (ha : ∀ a, 6 ≤ a ∧ a ≤ 27 → a ≠ 21 ∧ a ≠ 22 ∧ a ≠ 23 ∧ a ≠ 24 → σ' a = σ a) (h5 : ∀ k : Int, 0 ≤ k → σ' 5 k = σ 5 k) (kc : σ' 21 0 = n' 10) (ky : ∀ k : Int, 0 ≤ k → k < n' 10 → (0 ≤ σ' 22 k ∧ σ' 22 k < 8) ∧ (0 ≤ σ' 23 k ∧ σ' 23 k ≤ 23) ∧ (σ' 24 k = 0 ∨ σ' 24 k = 1) ∧ n' (247 + k) = σ' 22 k + 8 * σ' 23 k + 256 * σ' 24 k) : RD5 σ' n' := by
  have b7 := hN.b7
  have b8 := hN.b8
  have b9 := hN.b9
  have b10 := hN.b10
  exact RD5.mk (RG_cp (G := 6) (G' := 6) hR.g hN (fun k hk => hn k (by omega) (by omega) (by omega)) (by rw [ha _ (by omega) (by omega)]) (by rw [ha _ (by omega) (by omega)]) (fun i _ _ => by rw [ha _ (by omega) (by omega)]) (fun i _ _ => by rw [ha _ (by omega) (by omega)]) (fun i _ _ => by rw [ha _ (by omega) (by omega)]) (fun i _ _ => by rw [ha _ (by omega) (by omega)]) (fun i _ _ => by rw [ha _ (by omega) (by omega)]) (fun i _ _ => by rw [ha _ (by omega) (by omega)]) (fun i _ _ => by rw [ha _ (by omega) (by omega)]) (fun i _ _ => by rw [ha _ (by omega) (by omega)]) (fun i _ _ => by rw [ha _ (by omega) (by omega)]) (fun i _ _ => by rw [ha _ (by omega) (by omega)]) (fun i _ _ => by rw [ha _ (by omega) (by omega)])) (by rw [ha _ (by omega) (by omega), hn _ (by omega) (by omega) (by omega)]; exact hR.lc) (fun k k1 k2 => by rw [hn _ (by omega) (by omega) (by omega)] at k2; rw [ha _ (by omega) (by omega), ha _ (by omega) (by omega), hn _ (by omega) (by omega) (by omega)]; exact hR.le k k1 k2) kc ky (fun k k1 k2 => by rw [ha _ (by omega) (by omega), hn _ (by omega) (by omega) (by omega)]; exact hR.bd k k1 k2) (fun k k1 k2 => by rw [hn _ (by omega) (by omega) (by omega)] at k2; rw [ha _ (by omega) (by omega), hn _ (by omega) (by omega) (by omega)]; exact hR.tx k k1 k2) (fun k k1 k2 => by rw [hn _ (by omega) (by omega) (by omega)] at k2; rw [ha _ (by omega) (by omega), hn _ (by omega) (by omega) (by omega)]; exact hR.ev k k1 k2) (by rw [h5 _ (by omega), hn _ (by omega) (by omega) (by omega)]; exact hR.i6) (by rw [h5 _ (by omega), hn _ (by omega) (by omega) (by omega)]; exact hR.i7) (by rw [h5 _ (by omega), hn _ (by omega) (by omega) (by omega)]; exact hR.i8) (by rw [h5 _ (by omega), hn _ (by omega) (by omega) (by omega)]; exact hR.i9) (by rw [h5 _ (by omega), hn _ (by omega) (by omega) (by omega)]; exact hR.i10) (by rw [h5 _ (by omega), hn _ (by omega) (by omega) (by omega)]; exact hR.i11) (by rw [h5 _ (by omega), hn _ (by omega) (by omega) (by omega)]; exact hR.i12)
theorem RD5_le {σ σ' : ex_S} {n n' : Int → Int} (hR : RD5 σ n) (hN : NI n) (hn : ∀ k : Int, 0 ≤ k → k < 277 → k ≠ 8 ∧ (k < 171 ∨ 230 < k) → n' k = n k) (ha : ∀ a, 6 ≤ a ∧ a ≤ 27 → a ≠ 18 ∧ a ≠ 19 ∧ a ≠ 20 → σ' a = σ a) (h5 : ∀ k : Int, 0 ≤ k → σ' 5 k = σ 5 k) (lc : σ' 18 0 = n' 8) (le : ∀ k : Int, 0 ≤ k → k < n' 8 → (0 ≤ σ' 19 k ∧ σ' 19 k < 8) ∧ (0 ≤ σ' 20 k ∧ σ' 20 k ≤ 5) ∧ n' (171 + k) = σ' 19 k + 8 * (if σ' 20 k < 4 then σ' 20 k else σ' 20 k + 4)) : RD5 σ' n' := by
  have b7 := hN.b7
  have b8 := hN.b8
  have b9 := hN.b9
  have b10 := hN.b10
  exact RD5.mk (RG_cp (G := 6) (G' := 6) hR.g hN (fun k hk => hn k (by omega) (by omega) (by omega)) (by rw [ha _ (by omega) (by omega)]) (by rw [ha _ (by omega) (by omega)]) (fun i _ _ => by rw [ha _ (by omega) (by omega)]) (fun i _ _ => by rw [ha _ (by omega) (by omega)]) (fun i _ _ => by rw [ha _ (by omega) (by omega)]) (fun i _ _ => by rw [ha _ (by omega) (by omega)]) (fun i _ _ => by rw [ha _ (by omega) (by omega)]) (fun i _ _ => by rw [ha _ (by omega) (by omega)]) (fun i _ _ => by rw [ha _ (by omega) (by omega)]) (fun i _ _ => by rw [ha _ (by omega) (by omega)]) (fun i _ _ => by rw [ha _ (by omega) (by omega)]) (fun i _ _ => by rw [ha _ (by omega) (by omega)]) (fun i _ _ => by rw [ha _ (by omega) (by omega)])) lc le (by rw [ha _ (by omega) (by omega), hn _ (by omega) (by omega) (by omega)]; exact hR.kc) (fun k k1 k2 => by rw [hn _ (by omega) (by omega) (by omega)] at k2; rw [ha _ (by omega) (by omega), ha _ (by omega) (by omega), ha _ (by omega) (by omega), hn _ (by omega) (by omega) (by omega)]; exact hR.ky k k1 k2) (fun k k1 k2 => by rw [ha _ (by omega) (by omega), hn _ (by omega) (by omega) (by omega)]; exact hR.bd k k1 k2) (fun k k1 k2 => by rw [hn _ (by omega) (by omega) (by omega)] at k2; rw [ha _ (by omega) (by omega), hn _ (by omega) (by omega) (by omega)]; exact hR.tx k k1 k2) (fun k k1 k2 => by rw [hn _ (by omega) (by omega) (by omega)] at k2; rw [ha _ (by omega) (by omega), hn _ (by omega) (by omega) (by omega)]; exact hR.ev k k1 k2) (by rw [h5 _ (by omega), hn _ (by omega) (by omega) (by omega)]; exact hR.i6) (by rw [h5 _ (by omega), hn _ (by omega) (by omega) (by omega)]; exact hR.i7) (by rw [h5 _ (by omega), hn _ (by omega) (by omega) (by omega)]; exact hR.i8) (by rw [h5 _ (by omega), hn _ (by omega) (by omega) (by omega)]; exact hR.i9) (by rw [h5 _ (by omega), hn _ (by omega) (by omega) (by omega)]; exact hR.i10) (by rw [h5 _ (by omega), hn _ (by omega) (by omega) (by omega)]; exact hR.i11) (by rw [h5 _ (by omega), hn _ (by omega) (by omega) (by omega)]; exact hR.i12)
theorem RD5_tx {σ σ' : ex_S} {n n' : Int → Int} (hR : RD5 σ n) (hN : NI n) (hn : ∀ k : Int, 0 ≤ k → k < 277 → k ≠ 9 ∧ (k < 231 ∨ 246 < k) → n' k = n k) (ha : ∀ a, 6 ≤ a ∧ a ≤ 27 → a ≠ 26 → σ' a = σ a) (h5 : ∀ k : Int, k ≠ 6 → σ' 5 k = σ 5 k) (tx : ∀ k : Int, 0 ≤ k → k < n' 9 → σ' 26 k = n' (231 + k)) (i6 : σ' 5 6 = n' 9) : RD5 σ' n' := by
  have b7 := hN.b7
  have b8 := hN.b8
  have b9 := hN.b9
  have b10 := hN.b10
  exact RD5.mk (RG_cp (G := 6) (G' := 6) hR.g hN (fun k hk => hn k (by omega) (by omega) (by omega)) (by rw [ha _ (by omega) (by omega)]) (by rw [ha _ (by omega) (by omega)]) (fun i _ _ => by rw [ha _ (by omega) (by omega)]) (fun i _ _ => by rw [ha _ (by omega) (by omega)]) (fun i _ _ => by rw [ha _ (by omega) (by omega)]) (fun i _ _ => by rw [ha _ (by omega) (by omega)]) (fun i _ _ => by rw [ha _ (by omega) (by omega)]) (fun i _ _ => by rw [ha _ (by omega) (by omega)]) (fun i _ _ => by rw [ha _ (by omega) (by omega)]) (fun i _ _ => by rw [ha _ (by omega) (by omega)]) (fun i _ _ => by rw [ha _ (by omega) (by omega)]) (fun i _ _ => by rw [ha _ (by omega) (by omega)]) (fun i _ _ => by rw [ha _ (by omega) (by omega)])) (by rw [ha _ (by omega) (by omega), hn _ (by omega) (by omega) (by omega)]; exact hR.lc) (fun k k1 k2 => by rw [hn _ (by omega) (by omega) (by omega)] at k2; rw [ha _ (by omega) (by omega), ha _ (by omega) (by omega), hn _ (by omega) (by omega) (by omega)]; exact hR.le k k1 k2) (by rw [ha _ (by omega) (by omega), hn _ (by omega) (by omega) (by omega)]; exact hR.kc) (fun k k1 k2 => by rw [hn _ (by omega) (by omega) (by omega)] at k2; rw [ha _ (by omega) (by omega), ha _ (by omega) (by omega), ha _ (by omega) (by omega), hn _ (by omega) (by omega) (by omega)]; exact hR.ky k k1 k2) (fun k k1 k2 => by rw [ha _ (by omega) (by omega), hn _ (by omega) (by omega) (by omega)]; exact hR.bd k k1 k2) tx (fun k k1 k2 => by rw [hn _ (by omega) (by omega) (by omega)] at k2; rw [ha _ (by omega) (by omega), hn _ (by omega) (by omega) (by omega)]; exact hR.ev k k1 k2) i6 (by rw [h5 _ (by omega), hn _ (by omega) (by omega) (by omega)]; exact hR.i7) (by rw [h5 _ (by omega), hn _ (by omega) (by omega) (by omega)]; exact hR.i8) (by rw [h5 _ (by omega), hn _ (by omega) (by omega) (by omega)]; exact hR.i9) (by rw [h5 _ (by omega), hn _ (by omega) (by omega) (by omega)]; exact hR.i10) (by rw [h5 _ (by omega), hn _ (by omega) (by omega) (by omega)]; exact hR.i11) (by rw [h5 _ (by omega), hn _ (by omega) (by omega) (by omega)]; exact hR.i12)
theorem ck_111 {L d : Nat} {σ : ex_S} {t p v : Int} (hC : CI σ) (hd : 20 < d) : CK 111 203 [vI t, vI p, vI v] σ L d := by
  (have p0 := hC.pr.p0; have p1 := hC.pr.p1; have k0 := hC.pr.k0; have k1 := hC.pr.k1; have kq := hC.pr.q; have q0 : 0 ≤ σ 4 10 := (by omega); have q1 : σ 4 10 ≤ 16 := (by omega); have hN := hC.ni; have hR := hC.rd.g; have hD := hC.rd; have hT := hC.st)
  by_cases g : (0 ≤ t ∧ t ≤ 4) ∧ (0 ≤ p ∧ p ≤ 4) ∧ 0 ≤ v ∧ v ≤ 999
  · obtain ⟨g1, g2, g3⟩ := id g
    have e := hD.bd (t * 5 + p) (by omega) (by omega)
    rw [show 146 + (t * 5 + p) = 146 + 5 * t + p by omega] at e
    have q : ∀ x, 28 ≤ x → x < 64 ∨ 432 ≤ x → (ex_ar (kC σ) 25 (ex_u (σ 25) (t * 5 + p) v)) x = σ x := fun x h1 h2 => by rw [ex_ar_diff _ _ _ (by omega), kC5 hC _ (by omega) h2]
    have t2 : (ex_ar (kC σ) 25 (ex_u (σ 25) (t * 5 + p) v)) 432 = σ 432 := q _ (by omega) (by omega)
    have t3 : (ex_ar (kC σ) 25 (ex_u (σ 25) (t * 5 + p) v)) 433 = σ 433 := q _ (by omega) (by omega)
    have t5 : (ex_ar (kC σ) 25 (ex_u (σ 25) (t * 5 + p) v)) 435 = σ 435 := q _ (by omega) (by omega)
    have t6 : (ex_ar (kC σ) 25 (ex_u (σ 25) (t * 5 + p) v)) 436 = σ 436 := q _ (by omega) (by omega)
    have t7 : (ex_ar (kC σ) 25 (ex_u (σ 25) (t * 5 + p) v)) 437 = σ 437 := q _ (by omega) (by omega)
    have u1 : 0 ≤ (ex_ar (kC σ) 25 (ex_u (σ 25) (t * 5 + p) v)) 432 2 := by rw [t2]; exact k0
    have u2 : (ex_ar (kC σ) 25 (ex_u (σ 25) (t * 5 + p) v)) 432 2 ≤ 16 := by rw [t2]; exact k1
    have uN : NI ((ex_ar (kC σ) 25 (ex_u (σ 25) (t * 5 + p) v)) 433) := by rw [t3]; exact hN
    have uS : SI ((ex_ar (kC σ) 25 (ex_u (σ 25) (t * 5 + p) v)) 435) ((ex_ar (kC σ) 25 (ex_u (σ 25) (t * 5 + p) v)) 436) := by rw [t5, t6]; exact hC.si
    have := uN.a0; have := uN.b0; have := uN.a1; have := uN.b1; have := uN.a2; have := uN.b2; have := uN.a3; have := uN.b3; have := uN.a4; have := uN.b4; have := uN.a5; have := uN.b5; have := uN.a7; have := uN.b7; have := uN.a8; have := uN.b8; have := uN.a9; have := uN.b9; have := uN.a10; have := uN.b10
    have r := sp_203 (L := L) (d := d) (σ := ex_ar (kC σ) 25 (ex_u (σ 25) (t * 5 + p) v)) (t := t) (p := p) (v := v) (by omega) (by first | assumption | exact uN.oM | exact uN.oP | omega) (by first | assumption | exact uN.oM | exact uN.oP | omega)
    simp only [bidM, t3, if_pos g] at r
    refine ck_act (σ1 := ex_ar (kC σ) 25 (ex_u (σ 25) (t * 5 + p) v)) hC ?_ (fun x hx => ex_ar_diff _ _ _ (by omega)) r rfl ?_ ?_
    · (rw [ex_cd_eq (by omega)]; show ex_ev (d - 1) 111 0 [vR 4, vI t, vI p, vI v, vL 0] [] _ = _; (repeat' first | simp (disch := first | assumption | omega | ((repeat' first | exact ok_nil | apply ok_I | apply ok_R); done) | (simp (disch := first | omega | decide) only [ex_ar_same, ex_ar_diff, kM_diff, ex_u_same, ex_u_diff]; first | assumption | omega)) only [e, ev_111_0, ev_111_1, ev_111_2, gf_4_0, gf_5_3, ld_25, sd_25, x_fall, x_imul, x_push, x_ret1, xc_132, xc_133, xc_137, xc_139, xl_a0, xl_i1, xl_i2, xl_i3, xl_i4, xt_i4, y_iadd, y_if_eq_f, y_if_eq_t, y_if_ne_f, y_if_ne_t, i_wr_id, kM_diff, Int.reduceToNat, ex_ar_same, ex_ar_ar, ex_ar_diff, ex_u_same, ex_u_diff, b2i_t, b2i_f, ex_div_nn, ex_rem_nn, Int.toNat_zero, Int.toNat_one, Int.reduceAdd, Int.reduceSub, Int.reduceMul, Int.reduceNeg, kC_ne, fC_ne] | refine bb_eq (fun _ => ?_) (fun _ => ?_) | refine bb_ne (fun _ => ?_) (fun _ => ?_) | refine bc_eq (fun _ => ?_) (fun _ => ?_) | refine bc_ne (fun _ => ?_) (fun _ => ?_) | refine bc_lt (fun _ => ?_) (fun _ => ?_) | refine bc_ge (fun _ => ?_) (fun _ => ?_) | refine bc_gt (fun _ => ?_) (fun _ => ?_) | refine bc_le (fun _ => ?_) (fun _ => ?_) | refine bi_eq (fun _ => ?_) (fun _ => ?_) | refine bi_ne (fun _ => ?_) (fun _ => ?_) | refine bi_lt (fun _ => ?_) (fun _ => ?_) | refine bi_ge (fun _ => ?_) (fun _ => ?_) | refine bi_gt (fun _ => ?_) (fun _ => ?_) | refine bi_le (fun _ => ?_) (fun _ => ?_)))
    · refine RD5_bd (RD5_kC hC) hN (fun k k1 k2 k3 => ex_u_diff _ _ (by omega)) (fun a a1 a2 => ex_ar_diff _ _ _ a2) (fun k _ => by rw [ex_ar_diff _ _ _ (by decide)]) (fun k k1 k2 => ?_)
      rw [ex_ar_same]
      by_cases y : k = t * 5 + p
      · rw [y, ex_u_same, show 146 + (t * 5 + p) = 146 + 5 * t + p by omega, ex_u_same]
      · rw [ex_u_diff _ _ y, ex_u_diff _ _ (by omega)]; exact hD.bd k k1 k2
    · rw [show 146 + 5 * t + p = 146 + (5 * t + p) by omega]
      exact NI_bid hN (by omega) g3
  · have t2 : (fC σ) 432 = σ 432 := fC_ne _ (by decide)
    have t3 : (fC σ) 433 = σ 433 := fC_ne _ (by decide)
    have t5 : (fC σ) 435 = σ 435 := fC_ne _ (by decide)
    have t6 : (fC σ) 436 = σ 436 := fC_ne _ (by decide)
    have t7 : (fC σ) 437 = σ 437 := fC_ne _ (by decide)
    have u1 : 0 ≤ (fC σ) 432 2 := by rw [t2]; exact k0
    have u2 : (fC σ) 432 2 ≤ 16 := by rw [t2]; exact k1
    have uN : NI ((fC σ) 433) := by rw [t3]; exact hN
    have uS : SI ((fC σ) 435) ((fC σ) 436) := by rw [t5, t6]; exact hC.si
    have := uN.a0; have := uN.b0; have := uN.a1; have := uN.b1; have := uN.a2; have := uN.b2; have := uN.a3; have := uN.b3; have := uN.a4; have := uN.b4; have := uN.a5; have := uN.b5; have := uN.a7; have := uN.b7; have := uN.a8; have := uN.b8; have := uN.a9; have := uN.b9; have := uN.a10; have := uN.b10
    have r := sp_203 (L := L) (d := d) (σ := fC σ) (t := t) (p := p) (v := v) (by omega) (by first | assumption | exact uN.oM | exact uN.oP | omega) (by first | assumption | exact uN.oM | exact uN.oP | omega)
    simp only [bidM, t3, if_neg g] at r
    refine ck_fnd hC ?_ r
    (rw [ex_cd_eq (by omega)]; show ex_ev (d - 1) 111 0 [vR 4, vI t, vI p, vI v, vL 0] [] _ = _; (repeat' first | simp (disch := first | assumption | omega | ((repeat' first | exact ok_nil | apply ok_I | apply ok_R); done) | (simp (disch := first | omega | decide) only [ex_ar_same, ex_ar_diff, kM_diff, ex_u_same, ex_u_diff]; first | assumption | omega)) only [ev_111_0, ev_111_1, ev_111_2, gf_4_0, gf_5_3, ld_25, sd_25, x_fall, x_imul, x_push, x_ret1, xc_132, xc_133, xc_137, xc_139, xl_a0, xl_i1, xl_i2, xl_i3, xl_i4, xt_i4, y_iadd, y_if_eq_f, y_if_eq_t, y_if_ne_f, y_if_ne_t, i_wr_id, kM_diff, Int.reduceToNat, ex_ar_same, ex_ar_ar, ex_ar_diff, ex_u_same, ex_u_diff, b2i_t, b2i_f, ex_div_nn, ex_rem_nn, Int.toNat_zero, Int.toNat_one, Int.reduceAdd, Int.reduceSub, Int.reduceMul, Int.reduceNeg, kC_ne, fC_ne] | refine bb_eq (fun _ => ?_) (fun _ => ?_) | refine bb_ne (fun _ => ?_) (fun _ => ?_) | refine bc_eq (fun _ => ?_) (fun _ => ?_) | refine bc_ne (fun _ => ?_) (fun _ => ?_) | refine bc_lt (fun _ => ?_) (fun _ => ?_) | refine bc_ge (fun _ => ?_) (fun _ => ?_) | refine bc_gt (fun _ => ?_) (fun _ => ?_) | refine bc_le (fun _ => ?_) (fun _ => ?_) | refine bi_eq (fun _ => ?_) (fun _ => ?_) | refine bi_ne (fun _ => ?_) (fun _ => ?_) | refine bi_lt (fun _ => ?_) (fun _ => ?_) | refine bi_ge (fun _ => ?_) (fun _ => ?_) | refine bi_gt (fun _ => ?_) (fun _ => ?_) | refine bi_le (fun _ => ?_) (fun _ => ?_)))
    all_goals exact absurd ⟨by assumption, by assumption, by assumption⟩ g
theorem ck_105 {L d : Nat} {σ : ex_S} (hC : CI σ) (hd : 20 < d) : CK 105 189 [] σ L d := by
  (have p0 := hC.pr.p0; have p1 := hC.pr.p1; have k0 := hC.pr.k0; have k1 := hC.pr.k1; have kq := hC.pr.q; have q0 : 0 ≤ σ 4 10 := (by omega); have q1 : σ 4 10 ≤ 16 := (by omega); have hN := hC.ni; have hR := hC.rd.g; have hD := hC.rd; have hT := hC.st)
  have e := hD.i7
  have q : ∀ x, 28 ≤ x → x < 64 ∨ 432 ≤ x → (ex_ar (kC σ) 5 (ex_u (σ 5) 7 0)) x = σ x := fun x h1 h2 => by rw [ex_ar_diff _ _ _ (by omega), kC5 hC _ (by omega) h2]
  have t2 : (ex_ar (kC σ) 5 (ex_u (σ 5) 7 0)) 432 = σ 432 := q _ (by omega) (by omega)
  have t3 : (ex_ar (kC σ) 5 (ex_u (σ 5) 7 0)) 433 = σ 433 := q _ (by omega) (by omega)
  have t5 : (ex_ar (kC σ) 5 (ex_u (σ 5) 7 0)) 435 = σ 435 := q _ (by omega) (by omega)
  have t6 : (ex_ar (kC σ) 5 (ex_u (σ 5) 7 0)) 436 = σ 436 := q _ (by omega) (by omega)
  have t7 : (ex_ar (kC σ) 5 (ex_u (σ 5) 7 0)) 437 = σ 437 := q _ (by omega) (by omega)
  have u1 : 0 ≤ (ex_ar (kC σ) 5 (ex_u (σ 5) 7 0)) 432 2 := by rw [t2]; exact k0
  have u2 : (ex_ar (kC σ) 5 (ex_u (σ 5) 7 0)) 432 2 ≤ 16 := by rw [t2]; exact k1
  have uN : NI ((ex_ar (kC σ) 5 (ex_u (σ 5) 7 0)) 433) := by rw [t3]; exact hN
  have uS : SI ((ex_ar (kC σ) 5 (ex_u (σ 5) 7 0)) 435) ((ex_ar (kC σ) 5 (ex_u (σ 5) 7 0)) 436) := by rw [t5, t6]; exact hC.si
  have := uN.a0; have := uN.b0; have := uN.a1; have := uN.b1; have := uN.a2; have := uN.b2; have := uN.a3; have := uN.b3; have := uN.a4; have := uN.b4; have := uN.a5; have := uN.b5; have := uN.a7; have := uN.b7; have := uN.a8; have := uN.b8; have := uN.a9; have := uN.b9; have := uN.a10; have := uN.b10
  have r := sp_189 (L := L) (d := d) (σ := ex_ar (kC σ) 5 (ex_u (σ 5) 7 0))  (by omega) (by first | assumption | exact uN.oM | exact uN.oP | omega) (by first | assumption | exact uN.oM | exact uN.oP | omega)
  simp only [clearM, t3] at r
  refine ck_act (σ1 := ex_ar (kC σ) 5 (ex_u (σ 5) 7 0)) hC ?_ (fun x hx => ex_ar_diff _ _ _ (by omega)) r rfl ?_ ?_
  · (rw [ex_cd_eq (by omega)]; show ex_ev (d - 1) 105 0 [vR 4, vL 0] [] _ = _; (repeat' first | simp (disch := first | assumption | omega | ((repeat' first | exact ok_nil | apply ok_I | apply ok_R); done) | (simp (disch := first | omega | decide) only [ex_ar_same, ex_ar_diff, kM_diff, ex_u_same, ex_u_diff]; first | assumption | omega)) only [e, ev_105_0, gf_4_0, gf_5_7, pf_5_7, x_push, x_ret1, xc_133, xl_a0, xl_i1, xt_i1, i_wr_id, kM_diff, Int.reduceToNat, ex_ar_same, ex_ar_ar, ex_ar_diff, ex_u_same, ex_u_diff, b2i_t, b2i_f, ex_div_nn, ex_rem_nn, Int.toNat_zero, Int.toNat_one, Int.reduceAdd, Int.reduceSub, Int.reduceMul, Int.reduceNeg, kC_ne, fC_ne] | refine bb_eq (fun _ => ?_) (fun _ => ?_) | refine bb_ne (fun _ => ?_) (fun _ => ?_) | refine bc_eq (fun _ => ?_) (fun _ => ?_) | refine bc_ne (fun _ => ?_) (fun _ => ?_) | refine bc_lt (fun _ => ?_) (fun _ => ?_) | refine bc_ge (fun _ => ?_) (fun _ => ?_) | refine bc_gt (fun _ => ?_) (fun _ => ?_) | refine bc_le (fun _ => ?_) (fun _ => ?_) | refine bi_eq (fun _ => ?_) (fun _ => ?_) | refine bi_ne (fun _ => ?_) (fun _ => ?_) | refine bi_lt (fun _ => ?_) (fun _ => ?_) | refine bi_ge (fun _ => ?_) (fun _ => ?_) | refine bi_gt (fun _ => ?_) (fun _ => ?_) | refine bi_le (fun _ => ?_) (fun _ => ?_)))
  · refine RD5_ev (RD5_kC hC) hN (fun k k1 k2 k3 => ex_u_diff _ _ (by omega)) (fun a a1 a2 => ex_ar_diff _ _ _ (by omega)) (fun k hk => by rw [ex_ar_same, ex_u_diff _ _ hk, kC5 hC _ (by omega) (by omega)]) (fun k k1 k2 => ?_) ?_
    · rw [ex_u_same] at k2; omega
    · rw [ex_ar_same, ex_u_same, ex_u_same]
  · exact NI_clear hN
theorem sp_8 {d : Nat} (hd : 0 < d) {L : Nat} {σ : ex_S} {n : Int → Int} {c : Int} (hD : RD5 σ n) (hN : NI n) : ex_cd d 8 [vR 5, vI c] (SH L, σ) = some ([vI (arrvN n c)], (SH L, σ)) := by
  rw [ex_cd_eq (by omega)]
  show ex_ev (d - 1) 8 0 [vR 5, vI c, vL 0] [] (SH L, σ) = _
  (have := hN.a0; have := hN.b0; have := hN.a1; have := hN.b1; have := hN.a2; have := hN.b2; have := hN.a3; have := hN.b3; have := hN.a4; have := hN.b4; have := hN.a5; have := hN.b5; have := hN.a7; have := hN.b7; have := hN.a8; have := hN.b8; have := hN.a9; have := hN.b9; have := hN.a10; have := hN.b10; have := hN.oM; have := hN.oP)
  have e7 := hD.i7
  have lp : ∀ i : Nat, i ≤ (n 7).toNat → ex_ev (d - 1) 8 1 [vR 5, vI c, vI (i : Int)] [] (SH L, σ) = some ([vI (arrN n c i ((n 7).toNat - i))], (SH L, σ)) := by
    refine down ?_ ?_
    · rw [Nat.sub_self, ev_8_1]
      (repeat' first | simp (disch := first | assumption | omega | ((repeat' first | exact ok_nil | apply ok_I | apply ok_R); done) | (simp (disch := first | omega | decide) only [ex_ar_same, ex_ar_diff, kM_diff, ex_u_same, ex_u_diff]; first | assumption | omega)) only [e7, ev_8_0, ev_8_2, ev_8_3, gf_5_5, gf_5_7, ld_27, x_fall, x_goto, x_push, x_ret1, xl_a0, xl_i1, xl_i2, xn_2, xt_i2, y_cmp_ge_f, y_cmp_ge_t, y_cmp_ne_f, y_cmp_ne_t, i_wr_id, kM_diff, Int.reduceToNat, ex_ar_same, ex_ar_ar, ex_ar_diff, ex_u_same, ex_u_diff, b2i_t, b2i_f, ex_div_nn, ex_rem_nn, Int.toNat_zero, Int.toNat_one, Int.reduceAdd, Int.reduceSub, Int.reduceMul, Int.reduceNeg, kC_ne, fC_ne] | refine bb_eq (fun _ => ?_) (fun _ => ?_) | refine bb_ne (fun _ => ?_) (fun _ => ?_) | refine bc_eq (fun _ => ?_) (fun _ => ?_) | refine bc_ne (fun _ => ?_) (fun _ => ?_) | refine bc_lt (fun _ => ?_) (fun _ => ?_) | refine bc_ge (fun _ => ?_) (fun _ => ?_) | refine bc_gt (fun _ => ?_) (fun _ => ?_) | refine bc_le (fun _ => ?_) (fun _ => ?_) | refine bi_eq (fun _ => ?_) (fun _ => ?_) | refine bi_ne (fun _ => ?_) (fun _ => ?_) | refine bi_lt (fun _ => ?_) (fun _ => ?_) | refine bi_ge (fun _ => ?_) (fun _ => ?_) | refine bi_gt (fun _ => ?_) (fun _ => ?_) | refine bi_le (fun _ => ?_) (fun _ => ?_))
      rfl
    · intro i hi ih
      have e := hD.ev i (by omega) (by omega)
      rw [show (n 7).toNat - i = ((n 7).toNat - (i + 1)) + 1 by omega, arrN, ev_8_1]
      (repeat' first | simp (disch := first | assumption | omega | ((repeat' first | exact ok_nil | apply ok_I | apply ok_R); done) | (simp (disch := first | omega | decide) only [ex_ar_same, ex_ar_diff, kM_diff, ex_u_same, ex_u_diff]; first | assumption | omega)) only [e, e7, ev_8_0, ev_8_2, ev_8_3, gf_5_5, gf_5_7, ld_27, x_fall, x_goto, x_push, x_ret1, xl_a0, xl_i1, xl_i2, xn_2, xt_i2, y_cmp_ge_f, y_cmp_ge_t, y_cmp_ne_f, y_cmp_ne_t, i_wr_id, kM_diff, Int.reduceToNat, ex_ar_same, ex_ar_ar, ex_ar_diff, ex_u_same, ex_u_diff, b2i_t, b2i_f, ex_div_nn, ex_rem_nn, Int.toNat_zero, Int.toNat_one, Int.reduceAdd, Int.reduceSub, Int.reduceMul, Int.reduceNeg, kC_ne, fC_ne] | refine bb_eq (fun _ => ?_) (fun _ => ?_) | refine bb_ne (fun _ => ?_) (fun _ => ?_) | refine bc_eq (fun _ => ?_) (fun _ => ?_) | refine bc_ne (fun _ => ?_) (fun _ => ?_) | refine bc_lt (fun _ => ?_) (fun _ => ?_) | refine bc_ge (fun _ => ?_) (fun _ => ?_) | refine bc_gt (fun _ => ?_) (fun _ => ?_) | refine bc_le (fun _ => ?_) (fun _ => ?_) | refine bi_eq (fun _ => ?_) (fun _ => ?_) | refine bi_ne (fun _ => ?_) (fun _ => ?_) | refine bi_lt (fun _ => ?_) (fun _ => ?_) | refine bi_ge (fun _ => ?_) (fun _ => ?_) | refine bi_gt (fun _ => ?_) (fun _ => ?_) | refine bi_le (fun _ => ?_) (fun _ => ?_))
      all_goals (try simp (disch := first | assumption | omega) only [if_pos, if_neg])
      rw [nat_cast_succ]
      exact ih
  simp (disch := first | assumption | omega | ((repeat' first | exact ok_nil | apply ok_I | apply ok_R); done) | (simp (disch := first | omega | decide) only [ex_ar_same, ex_ar_diff, kM_diff, ex_u_same, ex_u_diff]; first | assumption | omega)) only [ev_8_0, ev_8_2, ev_8_3, gf_5_5, gf_5_7, ld_27, x_fall, x_goto, x_push, x_ret1, xl_a0, xl_i1, xl_i2, xn_2, xt_i2, y_cmp_ge_f, y_cmp_ge_t, y_cmp_ne_f, y_cmp_ne_t, i_wr_id, kM_diff, Int.reduceToNat, ex_ar_same, ex_ar_ar, ex_ar_diff, ex_u_same, ex_u_diff, b2i_t, b2i_f, ex_div_nn, ex_rem_nn, Int.toNat_zero, Int.toNat_one, Int.reduceAdd, Int.reduceSub, Int.reduceMul, Int.reduceNeg, kC_ne, fC_ne]
  exact lp 0 (by omega)
theorem xc_8 {rt d : Nat} {J : Nat → List ex_V → List ex_V → ex_H → Option ex_R} {is : List Instr} {ls st : List ex_V} {L : Nat} {σ : ex_S} {n : Int → Int} {c : Int} (hD : RD5 σ n) (hN : NI n) (hd : 0 < d) (hok : okN 8 st = true) : ex_xs rt J (ex_cd d) (.invokevirtual 8 :: is) ls (vI c :: vR 5 :: st) (SH L, σ) = ex_xs rt J (ex_cd d) is ls (vI (arrvN n c) :: st) (SH L, σ) := x_call1 (Or.inl rfl) rfl (sh_5 _) (Or.inl ⟨rfl, rfl⟩) (as := [vI c]) rfl rfl (okN_ok hok) rfl (sp_8 hd hD hN)
theorem arrv_lo {n : Int → Int} (hN : NI n) (c : Int) : arrvN n c = -1 ∨ (0 ≤ arrvN n c ∧ arrvN n c < n 7) := by
  have a7 := hN.a7
  have := arrN_lo n c (n 7).toNat 0
  unfold arrvN
  omega
theorem ck_104 {L d : Nat} {σ : ex_S} {c : Int} (hC : CI σ) (hd : 20 < d) : CK 104 188 [vI c] σ L d := by
  (have p0 := hC.pr.p0; have p1 := hC.pr.p1; have k0 := hC.pr.k0; have k1 := hC.pr.k1; have kq := hC.pr.q; have q0 : 0 ≤ σ 4 10 := (by omega); have q1 : σ 4 10 ≤ 16 := (by omega); have hN := hC.ni; have hR := hC.rd.g; have hD := hC.rd; have hT := hC.st)
  have a7 := hN.a7
  have b7 := hN.b7
  have e := hD.i7
  have av := arrv_lo hN c
  by_cases g : 0 ≤ c ∧ c < σ 433 1
  · by_cases g2 : 0 ≤ arrvN (σ 433) c
    · have t2 : (fC σ) 432 = σ 432 := fC_ne _ (by decide)
      have t3 : (fC σ) 433 = σ 433 := fC_ne _ (by decide)
      have t5 : (fC σ) 435 = σ 435 := fC_ne _ (by decide)
      have t6 : (fC σ) 436 = σ 436 := fC_ne _ (by decide)
      have t7 : (fC σ) 437 = σ 437 := fC_ne _ (by decide)
      have u1 : 0 ≤ (fC σ) 432 2 := by rw [t2]; exact k0
      have u2 : (fC σ) 432 2 ≤ 16 := by rw [t2]; exact k1
      have uN : NI ((fC σ) 433) := by rw [t3]; exact hN
      have uS : SI ((fC σ) 435) ((fC σ) 436) := by rw [t5, t6]; exact hC.si
      have := uN.a0; have := uN.b0; have := uN.a1; have := uN.b1; have := uN.a2; have := uN.b2; have := uN.a3; have := uN.b3; have := uN.a4; have := uN.b4; have := uN.a5; have := uN.b5; have := uN.a7; have := uN.b7; have := uN.a8; have := uN.b8; have := uN.a9; have := uN.b9; have := uN.a10; have := uN.b10
      have r := sp_188 (L := L) (d := d) (σ := fC σ) (c := c) (by omega) (by first | assumption | exact uN.oM | exact uN.oP | omega) (by first | assumption | exact uN.oM | exact uN.oP | omega) (by first | assumption | exact uN.oM | exact uN.oP | omega)
      simp only [arriveM, t3, if_pos g, if_pos g2] at r
      refine ck_fnd hC ?_ r
      (rw [ex_cd_eq (by omega)]; show ex_ev (d - 1) 104 0 [vR 4, vI c] [] _ = _; (repeat' first | simp (disch := first | assumption | omega | ((repeat' first | exact ok_nil | apply ok_I | apply ok_R); done) | (simp (disch := first | omega | decide) only [ex_ar_same, ex_ar_diff, kM_diff, ex_u_same, ex_u_diff]; first | assumption | omega)) only [ev_104_0, ev_104_1, ev_104_2, ev_104_3, gf_4_0, gf_5_0, gf_5_5, gf_5_7, pf_5_7, sd_27, x_dupI, x_dupR, x_push, x_ret1, xc_132, xc_133, xc_14_35, xc_14_6, xc_8, xl_a0, xl_i1, y_cmp_eq_f, y_cmp_eq_t, y_cmp_lt_f, y_cmp_lt_t, y_iadd, y_if_ne_f, y_if_ne_t, i_wr_id, kM_diff, Int.reduceToNat, ex_ar_same, ex_ar_ar, ex_ar_diff, ex_u_same, ex_u_diff, b2i_t, b2i_f, ex_div_nn, ex_rem_nn, Int.toNat_zero, Int.toNat_one, Int.reduceAdd, Int.reduceSub, Int.reduceMul, Int.reduceNeg, kC_ne, fC_ne] | refine bb_eq (fun _ => ?_) (fun _ => ?_) | refine bb_ne (fun _ => ?_) (fun _ => ?_) | refine bc_eq (fun _ => ?_) (fun _ => ?_) | refine bc_ne (fun _ => ?_) (fun _ => ?_) | refine bc_lt (fun _ => ?_) (fun _ => ?_) | refine bc_ge (fun _ => ?_) (fun _ => ?_) | refine bc_gt (fun _ => ?_) (fun _ => ?_) | refine bc_le (fun _ => ?_) (fun _ => ?_) | refine bi_eq (fun _ => ?_) (fun _ => ?_) | refine bi_ne (fun _ => ?_) (fun _ => ?_) | refine bi_lt (fun _ => ?_) (fun _ => ?_) | refine bi_ge (fun _ => ?_) (fun _ => ?_) | refine bi_gt (fun _ => ?_) (fun _ => ?_) | refine bi_le (fun _ => ?_) (fun _ => ?_)))
    · by_cases g3 : σ 433 7 = 7
      · have t2 : (fC σ) 432 = σ 432 := fC_ne _ (by decide)
        have t3 : (fC σ) 433 = σ 433 := fC_ne _ (by decide)
        have t5 : (fC σ) 435 = σ 435 := fC_ne _ (by decide)
        have t6 : (fC σ) 436 = σ 436 := fC_ne _ (by decide)
        have t7 : (fC σ) 437 = σ 437 := fC_ne _ (by decide)
        have u1 : 0 ≤ (fC σ) 432 2 := by rw [t2]; exact k0
        have u2 : (fC σ) 432 2 ≤ 16 := by rw [t2]; exact k1
        have uN : NI ((fC σ) 433) := by rw [t3]; exact hN
        have uS : SI ((fC σ) 435) ((fC σ) 436) := by rw [t5, t6]; exact hC.si
        have := uN.a0; have := uN.b0; have := uN.a1; have := uN.b1; have := uN.a2; have := uN.b2; have := uN.a3; have := uN.b3; have := uN.a4; have := uN.b4; have := uN.a5; have := uN.b5; have := uN.a7; have := uN.b7; have := uN.a8; have := uN.b8; have := uN.a9; have := uN.b9; have := uN.a10; have := uN.b10
        have r := sp_188 (L := L) (d := d) (σ := fC σ) (c := c) (by omega) (by first | assumption | exact uN.oM | exact uN.oP | omega) (by first | assumption | exact uN.oM | exact uN.oP | omega) (by first | assumption | exact uN.oM | exact uN.oP | omega)
        simp only [arriveM, t3, if_pos g, if_neg g2, if_pos g3] at r
        refine ck_fnd hC ?_ r
        (rw [ex_cd_eq (by omega)]; show ex_ev (d - 1) 104 0 [vR 4, vI c] [] _ = _; (repeat' first | simp (disch := first | assumption | omega | ((repeat' first | exact ok_nil | apply ok_I | apply ok_R); done) | (simp (disch := first | omega | decide) only [ex_ar_same, ex_ar_diff, kM_diff, ex_u_same, ex_u_diff]; first | assumption | omega)) only [ev_104_0, ev_104_1, ev_104_2, ev_104_3, gf_4_0, gf_5_0, gf_5_5, gf_5_7, pf_5_7, sd_27, x_dupI, x_dupR, x_push, x_ret1, xc_132, xc_133, xc_14_35, xc_14_6, xc_8, xl_a0, xl_i1, y_cmp_eq_f, y_cmp_eq_t, y_cmp_lt_f, y_cmp_lt_t, y_iadd, y_if_ne_f, y_if_ne_t, i_wr_id, kM_diff, Int.reduceToNat, ex_ar_same, ex_ar_ar, ex_ar_diff, ex_u_same, ex_u_diff, b2i_t, b2i_f, ex_div_nn, ex_rem_nn, Int.toNat_zero, Int.toNat_one, Int.reduceAdd, Int.reduceSub, Int.reduceMul, Int.reduceNeg, kC_ne, fC_ne] | refine bb_eq (fun _ => ?_) (fun _ => ?_) | refine bb_ne (fun _ => ?_) (fun _ => ?_) | refine bc_eq (fun _ => ?_) (fun _ => ?_) | refine bc_ne (fun _ => ?_) (fun _ => ?_) | refine bc_lt (fun _ => ?_) (fun _ => ?_) | refine bc_ge (fun _ => ?_) (fun _ => ?_) | refine bc_gt (fun _ => ?_) (fun _ => ?_) | refine bc_le (fun _ => ?_) (fun _ => ?_) | refine bi_eq (fun _ => ?_) (fun _ => ?_) | refine bi_ne (fun _ => ?_) (fun _ => ?_) | refine bi_lt (fun _ => ?_) (fun _ => ?_) | refine bi_ge (fun _ => ?_) (fun _ => ?_) | refine bi_gt (fun _ => ?_) (fun _ => ?_) | refine bi_le (fun _ => ?_) (fun _ => ?_)))
      · have av2 : arrvN (σ 433) c = -1 := by omega
        have q : ∀ x, 28 ≤ x → x < 64 ∨ 432 ≤ x → (ex_ar (ex_ar (kC σ) 27 (ex_u (σ 27) (σ 433 7) c)) 5 (ex_u (σ 5) 7 (σ 433 7 + 1))) x = σ x := fun x h1 h2 => by rw [ex_ar_diff _ _ _ (by omega), ex_ar_diff _ _ _ (by omega), kC5 hC _ (by omega) h2]
        have t2 : (ex_ar (ex_ar (kC σ) 27 (ex_u (σ 27) (σ 433 7) c)) 5 (ex_u (σ 5) 7 (σ 433 7 + 1))) 432 = σ 432 := q _ (by omega) (by omega)
        have t3 : (ex_ar (ex_ar (kC σ) 27 (ex_u (σ 27) (σ 433 7) c)) 5 (ex_u (σ 5) 7 (σ 433 7 + 1))) 433 = σ 433 := q _ (by omega) (by omega)
        have t5 : (ex_ar (ex_ar (kC σ) 27 (ex_u (σ 27) (σ 433 7) c)) 5 (ex_u (σ 5) 7 (σ 433 7 + 1))) 435 = σ 435 := q _ (by omega) (by omega)
        have t6 : (ex_ar (ex_ar (kC σ) 27 (ex_u (σ 27) (σ 433 7) c)) 5 (ex_u (σ 5) 7 (σ 433 7 + 1))) 436 = σ 436 := q _ (by omega) (by omega)
        have t7 : (ex_ar (ex_ar (kC σ) 27 (ex_u (σ 27) (σ 433 7) c)) 5 (ex_u (σ 5) 7 (σ 433 7 + 1))) 437 = σ 437 := q _ (by omega) (by omega)
        have u1 : 0 ≤ (ex_ar (ex_ar (kC σ) 27 (ex_u (σ 27) (σ 433 7) c)) 5 (ex_u (σ 5) 7 (σ 433 7 + 1))) 432 2 := by rw [t2]; exact k0
        have u2 : (ex_ar (ex_ar (kC σ) 27 (ex_u (σ 27) (σ 433 7) c)) 5 (ex_u (σ 5) 7 (σ 433 7 + 1))) 432 2 ≤ 16 := by rw [t2]; exact k1
        have uN : NI ((ex_ar (ex_ar (kC σ) 27 (ex_u (σ 27) (σ 433 7) c)) 5 (ex_u (σ 5) 7 (σ 433 7 + 1))) 433) := by rw [t3]; exact hN
        have uS : SI ((ex_ar (ex_ar (kC σ) 27 (ex_u (σ 27) (σ 433 7) c)) 5 (ex_u (σ 5) 7 (σ 433 7 + 1))) 435) ((ex_ar (ex_ar (kC σ) 27 (ex_u (σ 27) (σ 433 7) c)) 5 (ex_u (σ 5) 7 (σ 433 7 + 1))) 436) := by rw [t5, t6]; exact hC.si
        have := uN.a0; have := uN.b0; have := uN.a1; have := uN.b1; have := uN.a2; have := uN.b2; have := uN.a3; have := uN.b3; have := uN.a4; have := uN.b4; have := uN.a5; have := uN.b5; have := uN.a7; have := uN.b7; have := uN.a8; have := uN.b8; have := uN.a9; have := uN.b9; have := uN.a10; have := uN.b10
        have r := sp_188 (L := L) (d := d) (σ := ex_ar (ex_ar (kC σ) 27 (ex_u (σ 27) (σ 433 7) c)) 5 (ex_u (σ 5) 7 (σ 433 7 + 1))) (c := c) (by omega) (by first | assumption | exact uN.oM | exact uN.oP | omega) (by first | assumption | exact uN.oM | exact uN.oP | omega) (by first | assumption | exact uN.oM | exact uN.oP | omega)
        simp only [arriveM, t3, if_pos g, if_neg g2, if_neg g3] at r
        refine ck_act (σ1 := ex_ar (ex_ar (kC σ) 27 (ex_u (σ 27) (σ 433 7) c)) 5 (ex_u (σ 5) 7 (σ 433 7 + 1))) hC ?_ (fun x hx => by rw [ex_ar_diff _ _ _ (by omega), ex_ar_diff _ _ _ (by omega)]) r rfl ?_ ?_
        · (rw [ex_cd_eq (by omega)]; show ex_ev (d - 1) 104 0 [vR 4, vI c] [] _ = _; (repeat' first | simp (disch := first | assumption | omega | ((repeat' first | exact ok_nil | apply ok_I | apply ok_R); done) | (simp (disch := first | omega | decide) only [ex_ar_same, ex_ar_diff, kM_diff, ex_u_same, ex_u_diff]; first | assumption | omega)) only [av2, e, ev_104_0, ev_104_1, ev_104_2, ev_104_3, gf_4_0, gf_5_0, gf_5_5, gf_5_7, pf_5_7, sd_27, x_dupI, x_dupR, x_push, x_ret1, xc_132, xc_133, xc_14_35, xc_14_6, xc_8, xl_a0, xl_i1, y_cmp_eq_f, y_cmp_eq_t, y_cmp_lt_f, y_cmp_lt_t, y_iadd, y_if_ne_f, y_if_ne_t, i_wr_id, kM_diff, Int.reduceToNat, ex_ar_same, ex_ar_ar, ex_ar_diff, ex_u_same, ex_u_diff, b2i_t, b2i_f, ex_div_nn, ex_rem_nn, Int.toNat_zero, Int.toNat_one, Int.reduceAdd, Int.reduceSub, Int.reduceMul, Int.reduceNeg, kC_ne, fC_ne] | refine bb_eq (fun _ => ?_) (fun _ => ?_) | refine bb_ne (fun _ => ?_) (fun _ => ?_) | refine bc_eq (fun _ => ?_) (fun _ => ?_) | refine bc_ne (fun _ => ?_) (fun _ => ?_) | refine bc_lt (fun _ => ?_) (fun _ => ?_) | refine bc_ge (fun _ => ?_) (fun _ => ?_) | refine bc_gt (fun _ => ?_) (fun _ => ?_) | refine bc_le (fun _ => ?_) (fun _ => ?_) | refine bi_eq (fun _ => ?_) (fun _ => ?_) | refine bi_ne (fun _ => ?_) (fun _ => ?_) | refine bi_lt (fun _ => ?_) (fun _ => ?_) | refine bi_ge (fun _ => ?_) (fun _ => ?_) | refine bi_gt (fun _ => ?_) (fun _ => ?_) | refine bi_le (fun _ => ?_) (fun _ => ?_)))
        · refine RD5_ev (RD5_kC hC) hN (fun k k1 k2 k3 => by rw [ex_u_diff _ _ (by omega), ex_u_diff _ _ (by omega)]) (fun a a1 a2 => by rw [ex_ar_diff _ _ _ (by omega), ex_ar_diff _ _ _ a2]) (fun k hk => by rw [ex_ar_same, ex_u_diff _ _ hk, kC5 hC _ (by omega) (by omega)]) (fun k k1 k2 => ?_) ?_
          · rw [ex_u_same] at k2
            have z7 : ex_u (ex_u (σ 433) (139 + σ 433 7) c) 7 (σ 433 7 + 1) (139 + k) = ex_u (σ 433) (139 + σ 433 7) c (139 + k) := ex_u_diff _ _ (by omega)
            rw [ex_ar_diff _ _ _ (by decide), ex_ar_same, z7]
            by_cases y : k = σ 433 7
            · rw [y, ex_u_same, ex_u_same]
            · rw [ex_u_diff _ _ y, ex_u_diff _ _ (by omega)]; exact hD.ev k k1 (by omega)
          · rw [ex_ar_same, ex_u_same, ex_u_same]
        · exact NI_arrive hN g.1 g.2 g3
  · have t2 : (fC σ) 432 = σ 432 := fC_ne _ (by decide)
    have t3 : (fC σ) 433 = σ 433 := fC_ne _ (by decide)
    have t5 : (fC σ) 435 = σ 435 := fC_ne _ (by decide)
    have t6 : (fC σ) 436 = σ 436 := fC_ne _ (by decide)
    have t7 : (fC σ) 437 = σ 437 := fC_ne _ (by decide)
    have u1 : 0 ≤ (fC σ) 432 2 := by rw [t2]; exact k0
    have u2 : (fC σ) 432 2 ≤ 16 := by rw [t2]; exact k1
    have uN : NI ((fC σ) 433) := by rw [t3]; exact hN
    have uS : SI ((fC σ) 435) ((fC σ) 436) := by rw [t5, t6]; exact hC.si
    have := uN.a0; have := uN.b0; have := uN.a1; have := uN.b1; have := uN.a2; have := uN.b2; have := uN.a3; have := uN.b3; have := uN.a4; have := uN.b4; have := uN.a5; have := uN.b5; have := uN.a7; have := uN.b7; have := uN.a8; have := uN.b8; have := uN.a9; have := uN.b9; have := uN.a10; have := uN.b10
    have r := sp_188 (L := L) (d := d) (σ := fC σ) (c := c) (by omega) (by first | assumption | exact uN.oM | exact uN.oP | omega) (by first | assumption | exact uN.oM | exact uN.oP | omega) (by first | assumption | exact uN.oM | exact uN.oP | omega)
    simp only [arriveM, t3, if_neg g] at r
    refine ck_fnd hC ?_ r
    (rw [ex_cd_eq (by omega)]; show ex_ev (d - 1) 104 0 [vR 4, vI c] [] _ = _; (repeat' first | simp (disch := first | assumption | omega | ((repeat' first | exact ok_nil | apply ok_I | apply ok_R); done) | (simp (disch := first | omega | decide) only [ex_ar_same, ex_ar_diff, kM_diff, ex_u_same, ex_u_diff]; first | assumption | omega)) only [ev_104_0, ev_104_1, ev_104_2, ev_104_3, gf_4_0, gf_5_0, gf_5_5, gf_5_7, pf_5_7, sd_27, x_dupI, x_dupR, x_push, x_ret1, xc_132, xc_133, xc_14_35, xc_14_6, xc_8, xl_a0, xl_i1, y_cmp_eq_f, y_cmp_eq_t, y_cmp_lt_f, y_cmp_lt_t, y_iadd, y_if_ne_f, y_if_ne_t, i_wr_id, kM_diff, Int.reduceToNat, ex_ar_same, ex_ar_ar, ex_ar_diff, ex_u_same, ex_u_diff, b2i_t, b2i_f, ex_div_nn, ex_rem_nn, Int.toNat_zero, Int.toNat_one, Int.reduceAdd, Int.reduceSub, Int.reduceMul, Int.reduceNeg, kC_ne, fC_ne] | refine bb_eq (fun _ => ?_) (fun _ => ?_) | refine bb_ne (fun _ => ?_) (fun _ => ?_) | refine bc_eq (fun _ => ?_) (fun _ => ?_) | refine bc_ne (fun _ => ?_) (fun _ => ?_) | refine bc_lt (fun _ => ?_) (fun _ => ?_) | refine bc_ge (fun _ => ?_) (fun _ => ?_) | refine bc_gt (fun _ => ?_) (fun _ => ?_) | refine bc_le (fun _ => ?_) (fun _ => ?_) | refine bi_eq (fun _ => ?_) (fun _ => ?_) | refine bi_ne (fun _ => ?_) (fun _ => ?_) | refine bi_lt (fun _ => ?_) (fun _ => ?_) | refine bi_ge (fun _ => ?_) (fun _ => ?_) | refine bi_gt (fun _ => ?_) (fun _ => ?_) | refine bi_le (fun _ => ?_) (fun _ => ?_)))
def ntC (σ : ex_S) (k c h b : Int) : ex_S := ex_ar (ex_ar (ex_ar (ex_ar σ 22 (ex_u (σ 22) k c)) 23 (ex_u (σ 23) k h)) 24 (ex_u (σ 24) k b)) 21 (ex_u (σ 21) 0 (k + 1))
theorem ntC_ne {σ : ex_S} {k c h b : Int} {x : Nat} (hx : x < 21 ∨ 24 < x) : ntC σ k c h b x = σ x := by unfold ntC; simp (disch := omega) only [ex_ar_diff]
theorem ntC_21 {σ : ex_S} {k c h b : Int} : ntC σ k c h b 21 = ex_u (σ 21) 0 (k + 1) := by unfold ntC; rw [ex_ar_same]
theorem ntC_22 {σ : ex_S} {k c h b : Int} : ntC σ k c h b 22 = ex_u (σ 22) k c := by unfold ntC; simp (disch := decide) only [ex_ar_diff, ex_ar_same]
theorem ntC_23 {σ : ex_S} {k c h b : Int} : ntC σ k c h b 23 = ex_u (σ 23) k h := by unfold ntC; simp (disch := decide) only [ex_ar_diff, ex_ar_same]
theorem ntC_24 {σ : ex_S} {k c h b : Int} : ntC σ k c h b 24 = ex_u (σ 24) k b := by unfold ntC; simp (disch := decide) only [ex_ar_diff, ex_ar_same]
theorem sp_40 {d : Nat} (hd : 0 < d) {L : Nat} {σ : ex_S} {k c h b : Int} (hk : σ 21 0 = k) (h0 : 0 ≤ k) (h1 : k < 30) (hb : b = 0 ∨ b = 1) : ex_cd d 40 [vR 21, vI c, vI h, vI b] (SH L, σ) = some ([], (SH L, ntC σ k c h b)) := by
  rw [ex_cd_eq (by omega)]
  show ex_ev (d - 1) 40 0 [vR 21, vI c, vI h, vI b] [] (SH L, σ) = _
  unfold ntC
  rcases hb with rfl | rfl
  all_goals (repeat' first | simp (disch := first | assumption | omega | ((repeat' first | exact ok_nil | apply ok_I | apply ok_R); done) | (simp (disch := first | omega | decide) only [ex_ar_same, ex_ar_diff, kM_diff, ex_u_same, ex_u_diff]; first | assumption | omega)) only [ev_40_0, ev_40_1, ev_40_2, gf_21_0, gf_21_1, gf_21_2, gf_21_3, hk, pf_21_0, sd_22, sd_23, sd_24, x_dupI, x_dupR, x_fall, x_goto, x_push, x_ret0, xl_a0, xl_i1, xl_i2, xl_i3, y_iadd, y_if_eq_f, y_if_eq_t, i_wr_id, kM_diff, Int.reduceToNat, ex_ar_same, ex_ar_ar, ex_ar_diff, ex_u_same, ex_u_diff, b2i_t, b2i_f, ex_div_nn, ex_rem_nn, Int.toNat_zero, Int.toNat_one, Int.reduceAdd, Int.reduceSub, Int.reduceMul, Int.reduceNeg, kC_ne, fC_ne] | refine bb_eq (fun _ => ?_) (fun _ => ?_) | refine bb_ne (fun _ => ?_) (fun _ => ?_) | refine bc_eq (fun _ => ?_) (fun _ => ?_) | refine bc_ne (fun _ => ?_) (fun _ => ?_) | refine bc_lt (fun _ => ?_) (fun _ => ?_) | refine bc_ge (fun _ => ?_) (fun _ => ?_) | refine bc_gt (fun _ => ?_) (fun _ => ?_) | refine bc_le (fun _ => ?_) (fun _ => ?_) | refine bi_eq (fun _ => ?_) (fun _ => ?_) | refine bi_ne (fun _ => ?_) (fun _ => ?_) | refine bi_lt (fun _ => ?_) (fun _ => ?_) | refine bi_ge (fun _ => ?_) (fun _ => ?_) | refine bi_gt (fun _ => ?_) (fun _ => ?_) | refine bi_le (fun _ => ?_) (fun _ => ?_))
theorem xc_40 {rt d : Nat} {J : Nat → List ex_V → List ex_V → ex_H → Option ex_R} {is : List Instr} {ls st : List ex_V} {L : Nat} {σ : ex_S} {k c h b : Int} (hk : σ 21 0 = k) (h0 : 0 ≤ k) (h1 : k < 30) (hb : b = 0 ∨ b = 1) (hd : 0 < d) (hok : okN 8 st = true) : ex_xs rt J (ex_cd d) (.invokevirtual 40 :: is) ls (vI b :: vI h :: vI c :: vR 21 :: st) (SH L, σ) = ex_xs rt J (ex_cd d) is ls (st) (SH L, ntC σ k c h b) := x_call1 (Or.inl rfl) rfl (sh_21 _) (Or.inl ⟨rfl, rfl⟩) (as := [vI c, vI h, vI b]) rfl rfl (okN_ok hok) rfl (sp_40 hd hk h0 h1 hb)
theorem ck_125 {L d : Nat} {σ : ex_S} {c h b : Int} (hC : CI σ) (hd : 20 < d) (hb : b = 0 ∨ b = 1) : CK 125 227 [vI c, vI h, vI b] σ L d := by
  (have p0 := hC.pr.p0; have p1 := hC.pr.p1; have k0 := hC.pr.k0; have k1 := hC.pr.k1; have kq := hC.pr.q; have q0 : 0 ≤ σ 4 10 := (by omega); have q1 : σ 4 10 ≤ 16 := (by omega); have hN := hC.ni; have hR := hC.rd.g; have hD := hC.rd; have hT := hC.st)
  have a10 := hN.a10
  have b10 := hN.b10
  have b1 := hN.b1
  have e := hD.kc
  by_cases g : (0 ≤ c ∧ c < σ 433 1) ∧ 0 ≤ h ∧ h ≤ 23
  · obtain ⟨g1, g2⟩ := id g
    by_cases g3 : σ 433 10 = 30
    · have t2 : (fC σ) 432 = σ 432 := fC_ne _ (by decide)
      have t3 : (fC σ) 433 = σ 433 := fC_ne _ (by decide)
      have t5 : (fC σ) 435 = σ 435 := fC_ne _ (by decide)
      have t6 : (fC σ) 436 = σ 436 := fC_ne _ (by decide)
      have t7 : (fC σ) 437 = σ 437 := fC_ne _ (by decide)
      have u1 : 0 ≤ (fC σ) 432 2 := by rw [t2]; exact k0
      have u2 : (fC σ) 432 2 ≤ 16 := by rw [t2]; exact k1
      have uN : NI ((fC σ) 433) := by rw [t3]; exact hN
      have uS : SI ((fC σ) 435) ((fC σ) 436) := by rw [t5, t6]; exact hC.si
      have := uN.a0; have := uN.b0; have := uN.a1; have := uN.b1; have := uN.a2; have := uN.b2; have := uN.a3; have := uN.b3; have := uN.a4; have := uN.b4; have := uN.a5; have := uN.b5; have := uN.a7; have := uN.b7; have := uN.a8; have := uN.b8; have := uN.a9; have := uN.b9; have := uN.a10; have := uN.b10
      have r := sp_227 (L := L) (d := d) (σ := fC σ) (c := c) (h := h) (b := b) (by omega) (by first | assumption | exact uN.oM | exact uN.oP | omega) (by first | assumption | exact uN.oM | exact uN.oP | omega) (by first | assumption | exact uN.oM | exact uN.oP | omega) (by first | assumption | exact uN.oM | exact uN.oP | omega)
      simp only [noteM, t3, if_pos g, if_pos g3] at r
      refine ck_fnd hC ?_ r
      (rw [ex_cd_eq (by omega)]; show ex_ev (d - 1) 125 0 [vR 4, vI c, vI h, vI b] [] _ = _; (repeat' first | simp (disch := first | assumption | omega | ((repeat' first | exact ok_nil | apply ok_I | apply ok_R); done) | (simp (disch := first | omega | decide) only [ex_ar_same, ex_ar_diff, kM_diff, ex_u_same, ex_u_diff]; first | assumption | omega)) only [ev_125_0, ev_125_1, ev_125_2, ev_125_3, gf_21_0, gf_4_0, gf_5_0, gf_5_2, x_fall, x_push, x_ret1, xc_132, xc_133, xc_138, xc_14_35, xc_14_6, xc_40, xl_a0, xl_i1, xl_i2, xl_i3, y_cmp_lt_f, y_cmp_lt_t, y_if_eq_f, y_if_eq_t, y_if_ne_f, y_if_ne_t, i_wr_id, kM_diff, Int.reduceToNat, ex_ar_same, ex_ar_ar, ex_ar_diff, ex_u_same, ex_u_diff, b2i_t, b2i_f, ex_div_nn, ex_rem_nn, Int.toNat_zero, Int.toNat_one, Int.reduceAdd, Int.reduceSub, Int.reduceMul, Int.reduceNeg, kC_ne, fC_ne] | refine bb_eq (fun _ => ?_) (fun _ => ?_) | refine bb_ne (fun _ => ?_) (fun _ => ?_) | refine bc_eq (fun _ => ?_) (fun _ => ?_) | refine bc_ne (fun _ => ?_) (fun _ => ?_) | refine bc_lt (fun _ => ?_) (fun _ => ?_) | refine bc_ge (fun _ => ?_) (fun _ => ?_) | refine bc_gt (fun _ => ?_) (fun _ => ?_) | refine bc_le (fun _ => ?_) (fun _ => ?_) | refine bi_eq (fun _ => ?_) (fun _ => ?_) | refine bi_ne (fun _ => ?_) (fun _ => ?_) | refine bi_lt (fun _ => ?_) (fun _ => ?_) | refine bi_ge (fun _ => ?_) (fun _ => ?_) | refine bi_gt (fun _ => ?_) (fun _ => ?_) | refine bi_le (fun _ => ?_) (fun _ => ?_)))
    · have e2 : kC σ 21 0 = σ 433 10 := by rw [kC5 hC _ (by omega) (by omega)]; exact e
      have e3 : ntC (kC σ) (σ 433 10) c h b 21 0 = σ 433 10 + 1 := by rw [ntC_21, ex_u_same]
      have q : ∀ x, 28 ≤ x → x < 64 ∨ 432 ≤ x → (ntC (kC σ) (σ 433 10) c h b) x = σ x := fun x h1 h2 => by rw [ntC_ne (by omega), kC5 hC _ (by omega) h2]
      have t2 : (ntC (kC σ) (σ 433 10) c h b) 432 = σ 432 := q _ (by omega) (by omega)
      have t3 : (ntC (kC σ) (σ 433 10) c h b) 433 = σ 433 := q _ (by omega) (by omega)
      have t5 : (ntC (kC σ) (σ 433 10) c h b) 435 = σ 435 := q _ (by omega) (by omega)
      have t6 : (ntC (kC σ) (σ 433 10) c h b) 436 = σ 436 := q _ (by omega) (by omega)
      have t7 : (ntC (kC σ) (σ 433 10) c h b) 437 = σ 437 := q _ (by omega) (by omega)
      have u1 : 0 ≤ (ntC (kC σ) (σ 433 10) c h b) 432 2 := by rw [t2]; exact k0
      have u2 : (ntC (kC σ) (σ 433 10) c h b) 432 2 ≤ 16 := by rw [t2]; exact k1
      have uN : NI ((ntC (kC σ) (σ 433 10) c h b) 433) := by rw [t3]; exact hN
      have uS : SI ((ntC (kC σ) (σ 433 10) c h b) 435) ((ntC (kC σ) (σ 433 10) c h b) 436) := by rw [t5, t6]; exact hC.si
      have := uN.a0; have := uN.b0; have := uN.a1; have := uN.b1; have := uN.a2; have := uN.b2; have := uN.a3; have := uN.b3; have := uN.a4; have := uN.b4; have := uN.a5; have := uN.b5; have := uN.a7; have := uN.b7; have := uN.a8; have := uN.b8; have := uN.a9; have := uN.b9; have := uN.a10; have := uN.b10
      have r := sp_227 (L := L) (d := d) (σ := ntC (kC σ) (σ 433 10) c h b) (c := c) (h := h) (b := b) (by omega) (by first | assumption | exact uN.oM | exact uN.oP | omega) (by first | assumption | exact uN.oM | exact uN.oP | omega) (by first | assumption | exact uN.oM | exact uN.oP | omega) (by first | assumption | exact uN.oM | exact uN.oP | omega)
      simp only [noteM, t3, if_pos g, if_neg g3] at r
      refine ck_act (σ1 := ntC (kC σ) (σ 433 10) c h b) hC ?_ (fun x hx => ntC_ne (by omega)) r rfl ?_ ?_
      · (rw [ex_cd_eq (by omega)]; show ex_ev (d - 1) 125 0 [vR 4, vI c, vI h, vI b] [] _ = _; (repeat' first | simp (disch := first | assumption | omega | ((repeat' first | exact ok_nil | apply ok_I | apply ok_R); done) | (simp (disch := first | omega | decide) only [ex_ar_same, ex_ar_diff, kM_diff, ex_u_same, ex_u_diff]; first | assumption | omega)) only [e3, ev_125_0, ev_125_1, ev_125_2, ev_125_3, gf_21_0, gf_4_0, gf_5_0, gf_5_2, x_fall, x_push, x_ret1, xc_132, xc_133, xc_138, xc_14_35, xc_14_6, xc_40, xl_a0, xl_i1, xl_i2, xl_i3, y_cmp_lt_f, y_cmp_lt_t, y_if_eq_f, y_if_eq_t, y_if_ne_f, y_if_ne_t, i_wr_id, kM_diff, Int.reduceToNat, ex_ar_same, ex_ar_ar, ex_ar_diff, ex_u_same, ex_u_diff, b2i_t, b2i_f, ex_div_nn, ex_rem_nn, Int.toNat_zero, Int.toNat_one, Int.reduceAdd, Int.reduceSub, Int.reduceMul, Int.reduceNeg, kC_ne, fC_ne] | refine bb_eq (fun _ => ?_) (fun _ => ?_) | refine bb_ne (fun _ => ?_) (fun _ => ?_) | refine bc_eq (fun _ => ?_) (fun _ => ?_) | refine bc_ne (fun _ => ?_) (fun _ => ?_) | refine bc_lt (fun _ => ?_) (fun _ => ?_) | refine bc_ge (fun _ => ?_) (fun _ => ?_) | refine bc_gt (fun _ => ?_) (fun _ => ?_) | refine bc_le (fun _ => ?_) (fun _ => ?_) | refine bi_eq (fun _ => ?_) (fun _ => ?_) | refine bi_ne (fun _ => ?_) (fun _ => ?_) | refine bi_lt (fun _ => ?_) (fun _ => ?_) | refine bi_ge (fun _ => ?_) (fun _ => ?_) | refine bi_gt (fun _ => ?_) (fun _ => ?_) | refine bi_le (fun _ => ?_) (fun _ => ?_)))
      · refine RD5_ky (RD5_kC hC) hN (fun k k1 k2 k3 => by rw [ex_u_diff _ _ (by omega), ex_u_diff _ _ (by omega)]) (fun a a1 a2 => ntC_ne (by omega)) (fun k hk => by rw [ntC_ne (by omega)]) ?_ (fun k k1 k2 => ?_)
        · rw [e3, ex_u_same]
        · rw [ex_u_same] at k2
          have z7 : ex_u (ex_u (σ 433) (247 + σ 433 10) (c + 8 * h + 256 * b)) 10 (σ 433 10 + 1) (247 + k) = ex_u (σ 433) (247 + σ 433 10) (c + 8 * h + 256 * b) (247 + k) := ex_u_diff _ _ (by omega)
          rw [ntC_22, ntC_23, ntC_24, z7]
          by_cases y : k = σ 433 10
          · rw [y, ex_u_same, ex_u_same, ex_u_same, ex_u_same]
            exact ⟨by omega, by omega, hb, rfl⟩
          · rw [ex_u_diff _ _ y, ex_u_diff _ _ y, ex_u_diff _ _ y, ex_u_diff _ _ (by omega)]
            exact (RD5_kC hC).ky k k1 (by omega)
      · exact NI_note hN g1.1 (by omega) g2.1 g2.2 hb g3
  · have t2 : (fC σ) 432 = σ 432 := fC_ne _ (by decide)
    have t3 : (fC σ) 433 = σ 433 := fC_ne _ (by decide)
    have t5 : (fC σ) 435 = σ 435 := fC_ne _ (by decide)
    have t6 : (fC σ) 436 = σ 436 := fC_ne _ (by decide)
    have t7 : (fC σ) 437 = σ 437 := fC_ne _ (by decide)
    have u1 : 0 ≤ (fC σ) 432 2 := by rw [t2]; exact k0
    have u2 : (fC σ) 432 2 ≤ 16 := by rw [t2]; exact k1
    have uN : NI ((fC σ) 433) := by rw [t3]; exact hN
    have uS : SI ((fC σ) 435) ((fC σ) 436) := by rw [t5, t6]; exact hC.si
    have := uN.a0; have := uN.b0; have := uN.a1; have := uN.b1; have := uN.a2; have := uN.b2; have := uN.a3; have := uN.b3; have := uN.a4; have := uN.b4; have := uN.a5; have := uN.b5; have := uN.a7; have := uN.b7; have := uN.a8; have := uN.b8; have := uN.a9; have := uN.b9; have := uN.a10; have := uN.b10
    have r := sp_227 (L := L) (d := d) (σ := fC σ) (c := c) (h := h) (b := b) (by omega) (by first | assumption | exact uN.oM | exact uN.oP | omega) (by first | assumption | exact uN.oM | exact uN.oP | omega) (by first | assumption | exact uN.oM | exact uN.oP | omega) (by first | assumption | exact uN.oM | exact uN.oP | omega)
    simp only [noteM, t3, if_neg g] at r
    refine ck_fnd hC ?_ r
    (rw [ex_cd_eq (by omega)]; show ex_ev (d - 1) 125 0 [vR 4, vI c, vI h, vI b] [] _ = _; (repeat' first | simp (disch := first | assumption | omega | ((repeat' first | exact ok_nil | apply ok_I | apply ok_R); done) | (simp (disch := first | omega | decide) only [ex_ar_same, ex_ar_diff, kM_diff, ex_u_same, ex_u_diff]; first | assumption | omega)) only [ev_125_0, ev_125_1, ev_125_2, ev_125_3, gf_21_0, gf_4_0, gf_5_0, gf_5_2, x_fall, x_push, x_ret1, xc_132, xc_133, xc_138, xc_14_35, xc_14_6, xc_40, xl_a0, xl_i1, xl_i2, xl_i3, y_cmp_lt_f, y_cmp_lt_t, y_if_eq_f, y_if_eq_t, y_if_ne_f, y_if_ne_t, i_wr_id, kM_diff, Int.reduceToNat, ex_ar_same, ex_ar_ar, ex_ar_diff, ex_u_same, ex_u_diff, b2i_t, b2i_f, ex_div_nn, ex_rem_nn, Int.toNat_zero, Int.toNat_one, Int.reduceAdd, Int.reduceSub, Int.reduceMul, Int.reduceNeg, kC_ne, fC_ne] | refine bb_eq (fun _ => ?_) (fun _ => ?_) | refine bb_ne (fun _ => ?_) (fun _ => ?_) | refine bc_eq (fun _ => ?_) (fun _ => ?_) | refine bc_ne (fun _ => ?_) (fun _ => ?_) | refine bc_lt (fun _ => ?_) (fun _ => ?_) | refine bc_ge (fun _ => ?_) (fun _ => ?_) | refine bc_gt (fun _ => ?_) (fun _ => ?_) | refine bc_le (fun _ => ?_) (fun _ => ?_) | refine bi_eq (fun _ => ?_) (fun _ => ?_) | refine bi_ne (fun _ => ?_) (fun _ => ?_) | refine bi_lt (fun _ => ?_) (fun _ => ?_) | refine bi_ge (fun _ => ?_) (fun _ => ?_) | refine bi_gt (fun _ => ?_) (fun _ => ?_) | refine bi_le (fun _ => ?_) (fun _ => ?_)))
    all_goals exact absurd ⟨by assumption, by assumption⟩ g
