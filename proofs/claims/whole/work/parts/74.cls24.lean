/-! the class: a plan is asked for -/
theorem fp_51 {d L : Nat} {σ : ex_S} {n b : Int → Int} (hd : 14 < d) (hD : RD5 σ n) (hN : NI n) (hb : ∀ i : Int, 0 ≤ i → i < n 7 → σ 48 i = b i) : ∃ σ', ex_cd d 51 [vR 47, vR 5] (SH L, σ) = some ([vI (planN n b).1], (SH L, σ')) ∧ (∀ a, a < 47 ∨ 50 < a → σ' a = σ a) ∧ ((planN n b).1 = -1 ∨ 0 ≤ (planN n b).1) ∧ ∀ i : Int, 0 ≤ i → i < n 7 → σ' 48 i = (planN n b).2 i := by
  have a7 := hN.a7
  have b7 := hN.b7
  have b0 := hN.b0
  have S : ∀ a, a ≠ 47 → a ≠ 50 → ex_ar (ex_ar σ 47 (ex_u (σ 47) 3 (-1))) 50 (fgF (σ 50) 5) a = σ a := fun a h1 h2 => by rw [ex_ar_diff _ _ _ h2, ex_ar_diff _ _ _ h1]
  have e47 : ex_ar (ex_ar σ 47 (ex_u (σ 47) 3 (-1))) 50 (fgF (σ 50) 5) 47 3 = -1 := by rw [ex_ar_diff _ _ _ (by decide), ex_ar_same, ex_u_same]
  obtain ⟨τ, r1, p1, p2, p3, p4, p5⟩ := as_52 hN (n 7).toNat (d - 1) L (ex_ar (ex_ar σ 47 (ex_u (σ 47) 3 (-1))) 50 (fgF (σ 50) 5)) 0 0 (fun _ => 0) (by omega) (RD_fr (B := 5) hD hN (fun _ _ _ => rfl) (fun a x1 x2 => S a (by omega) (by omega))) (by omega) (by omega) (by omega) (fun j j0 j1 => by omega) (fun l l0 l1 => by
    rw [ex_ar_same]
    unfold fgF
    rw [if_pos (by omega)]; rfl) (Or.inl e47)
  rw [S 48 (by decide) (by decide), e47] at p5
  obtain ⟨x1, x2⟩ := p5 b hb
  simp only [if_pos (show ((-1 : Int) < 0 ∨ (0 : Int) < -1) by omega)] at x1 x2
  have ep : plP n (n 7).toNat 0 0 (fun _ => 0) (-1, b) = planN n b := rfl
  rw [ep] at x1 x2
  refine ⟨τ, ?_, fun a ha => by rw [p1 a ha, S a (by omega) (by omega)], by rw [← x1]; exact p4, x2⟩
  rw [ex_cd_eq (by omega)]
  show ex_ev (d - 1) 51 0 [vR 47, vR 5] [] _ = _
  have r1' : ex_cd (d - 1) 52 [vR 47, vR 5, vI 0, vI 0] (SH L, ex_ar (ex_ar σ 47 (ex_u (σ 47) 3 (-1))) 50 (fgF (σ 50) 5)) = some ([], (SH L, τ)) := r1
  simp (disch := first | assumption | omega | ((repeat' first | exact ok_nil | apply ok_I | apply ok_R); done) | (simp (disch := first | omega | decide) only [ex_ar_same, ex_ar_diff, kM_diff, ex_u_same, ex_u_diff]; first | assumption | omega)) only [(xr_52 r1'), ev_51_0, gf_47_2, gf_47_3, pf_47_3, x1, x_push, x_ret1, xc_239, xl_a0, xl_a1, i_wr_id, kM_diff, Int.reduceToNat, ex_ar_same, ex_ar_ar, ex_ar_diff, ex_u_same, ex_u_diff, b2i_t, b2i_f, ex_div_nn, ex_rem_nn, Int.toNat_zero, Int.toNat_one, Int.reduceAdd, Int.reduceSub, Int.reduceMul, Int.reduceNeg, kC_ne, fC_ne]
theorem ci_47 {σ σ' : ex_S} (hC : CI σ) (hf : ∀ a, a < 47 ∨ 50 < a → σ' a = σ a) : CI σ' :=
  ci_scr hC (fun a ha => hf a (by omega)) (by rw [hf _ (by omega)]) (by rw [hf _ (by omega)]) (fun _ _ _ => by rw [hf _ (by omega)])
/-- what is planned does not hang on what stood there before -/
theorem plP_cg (n : Int → Int) : ∀ (r k : Nat) (s m : Int) (f a b : Int → Int), (∀ i : Int, 0 ≤ i → i < n 7 → a i = b i) → (plP n r k s f (m, a)).1 = (plP n r k s f (m, b)).1 ∧ ∀ i : Int, 0 ≤ i → i < n 7 → (plP n r k s f (m, a)).2 i = (plP n r k s f (m, b)).2 i
  | 0, k, s, m, f, a, b, h => by
    refine ⟨rfl, fun i i0 i1 => ?_⟩
    rw [plP, plP]
    dsimp only
    split
    · rfl
    · exact h i i0 i1
  | r + 1, k, s, m, f, a, b, h => by
    rw [plP, plP]
    have key : ∀ (j l : Nat) (m : Int) (a b : Int → Int), (∀ i : Int, 0 ≤ i → i < n 7 → a i = b i) → (itr (fun l a => if 0 ≤ mbN n f k (l : Int) ∧ (a.1 < 0 ∨ s + mbN n f k (l : Int) < a.1) then plP n r (k + 1) (s + mbN n f k (l : Int)) (ex_u f (k : Int) (l : Int)) a else a) l j (m, a)).1 = (itr (fun l a => if 0 ≤ mbN n f k (l : Int) ∧ (a.1 < 0 ∨ s + mbN n f k (l : Int) < a.1) then plP n r (k + 1) (s + mbN n f k (l : Int)) (ex_u f (k : Int) (l : Int)) a else a) l j (m, b)).1 ∧ ∀ i : Int, 0 ≤ i → i < n 7 → (itr (fun l a => if 0 ≤ mbN n f k (l : Int) ∧ (a.1 < 0 ∨ s + mbN n f k (l : Int) < a.1) then plP n r (k + 1) (s + mbN n f k (l : Int)) (ex_u f (k : Int) (l : Int)) a else a) l j (m, a)).2 i = (itr (fun l a => if 0 ≤ mbN n f k (l : Int) ∧ (a.1 < 0 ∨ s + mbN n f k (l : Int) < a.1) then plP n r (k + 1) (s + mbN n f k (l : Int)) (ex_u f (k : Int) (l : Int)) a else a) l j (m, b)).2 i := by
      intro j
      induction j with
      | zero => intro l m a b h; exact ⟨rfl, h⟩
      | succ j ihj =>
        intro l m a b h
        simp only [itr_succ_last]
        by_cases q : 0 ≤ mbN n f k (l : Int) ∧ (m < 0 ∨ s + mbN n f k (l : Int) < m)
        · simp only [if_pos q]
          obtain ⟨x1, x2⟩ := plP_cg n r (k + 1) (s + mbN n f k (l : Int)) m (ex_u f (k : Int) (l : Int)) a b h
          have := ihj (l + 1) (plP n r (k + 1) (s + mbN n f k (l : Int)) (ex_u f (k : Int) (l : Int)) (m, a)).1 _ _ x2
          rw [show plP n r (k + 1) (s + mbN n f k (l : Int)) (ex_u f (k : Int) (l : Int)) (m, b) = ((plP n r (k + 1) (s + mbN n f k (l : Int)) (ex_u f (k : Int) (l : Int)) (m, a)).1, (plP n r (k + 1) (s + mbN n f k (l : Int)) (ex_u f (k : Int) (l : Int)) (m, b)).2) by rw [x1]]
          exact this
        · simp only [if_neg q]
          exact ihj (l + 1) m a b h
    exact key (n 0).toNat 0 m a b h
abbrev plR (n : Int → Int) (m : Int) (a b : Int → Int) (x y : Int × (Int → Int)) : Prop := x.1 = y.1 ∧ ((∀ i : Int, 0 ≤ i → i < n 7 → x.2 i = y.2 i) ∨ (x = (m, a) ∧ y = (m, b)))
theorem plP_in (n : Int → Int) : ∀ (r k : Nat) (s m : Int) (f a b : Int → Int), ((k + r : Nat) : Int) = n 7 → plR n m a b (plP n r k s f (m, a)) (plP n r k s f (m, b))
  | 0, k, s, m, f, a, b, h => by
    refine ⟨rfl, Or.inl (fun i i0 i1 => ?_)⟩
    rw [plP, plP]
    dsimp only
    rw [if_pos (by omega), if_pos (by omega)]
  | r + 1, k, s, m, f, a, b, h => by
    rw [plP, plP]
    have key : ∀ (j l : Nat) (x y : Int × (Int → Int)), plR n m a b x y → plR n m a b (itr (fun l a => if 0 ≤ mbN n f k (l : Int) ∧ (a.1 < 0 ∨ s + mbN n f k (l : Int) < a.1) then plP n r (k + 1) (s + mbN n f k (l : Int)) (ex_u f (k : Int) (l : Int)) a else a) l j x) (itr (fun l a => if 0 ≤ mbN n f k (l : Int) ∧ (a.1 < 0 ∨ s + mbN n f k (l : Int) < a.1) then plP n r (k + 1) (s + mbN n f k (l : Int)) (ex_u f (k : Int) (l : Int)) a else a) l j y) := by
      intro j
      induction j with
      | zero => intro l x y h; exact h
      | succ j ihj =>
        intro l x y hxy
        simp only [itr_succ_last]
        obtain ⟨h1, h2⟩ := id hxy
        by_cases q : 0 ≤ mbN n f k (l : Int) ∧ (x.1 < 0 ∨ s + mbN n f k (l : Int) < x.1)
        · have q' : 0 ≤ mbN n f k (l : Int) ∧ (y.1 < 0 ∨ s + mbN n f k (l : Int) < y.1) := by rw [← h1]; exact q
          rw [if_pos q, if_pos q']
          refine ihj (l + 1) _ _ ?_
          rcases h2 with h2 | ⟨h2, h3⟩
          · obtain ⟨x1, x2⟩ := plP_cg n r (k + 1) (s + mbN n f k (l : Int)) x.1 (ex_u f (k : Int) (l : Int)) x.2 y.2 h2
            have e : y = (x.1, y.2) := by rw [h1]
            rw [e]
            exact ⟨x1, Or.inl x2⟩
          · rw [h2, h3]
            exact plP_in n r (k + 1) _ m _ a b (by omega)
        · have q' : ¬ (0 ≤ mbN n f k (l : Int) ∧ (y.1 < 0 ∨ s + mbN n f k (l : Int) < y.1)) := by rw [← h1]; exact q
          rw [if_neg q, if_neg q']
          exact ihj (l + 1) _ _ hxy
    exact key (n 0).toNat 0 (m, a) (m, b) ⟨rfl, Or.inr ⟨rfl, rfl⟩⟩
theorem plan_in {n : Int → Int} (hN : NI n) (a b : Int → Int) : (planN n a).1 = (planN n b).1 ∧ (0 ≤ (planN n a).1 → ∀ i : Int, 0 ≤ i → i < n 7 → (planN n a).2 i = (planN n b).2 i) := by
  have a7 := hN.a7
  obtain ⟨h1, h2⟩ := plP_in n (n 7).toNat 0 0 (-1) (fun _ => 0) a b (by omega)
  refine ⟨h1, fun h => ?_⟩
  rcases h2 with h2 | ⟨h2, -⟩
  · exact h2
  · have : (planN n a).1 = -1 := congrArg Prod.fst h2
    omega
theorem ck_106 {L d : Nat} {σ : ex_S} (hC : CI σ) (hd : 20 < d) : CK 106 193 [] σ L d := by
  (have p0 := hC.pr.p0; have p1 := hC.pr.p1; have k0 := hC.pr.k0; have k1 := hC.pr.k1; have kq := hC.pr.q; have q0 : 0 ≤ σ 4 10 := (by omega); have q1 : σ 4 10 ≤ 16 := (by omega); have hN := hC.ni; have hR := hC.rd.g; have hD := hC.rd; have hT := hC.st)
  obtain ⟨σ', e, hf, hm, -⟩ := fp_51 (d := d - 1) (L := L) (b := σ 48) (by omega) hD hN (fun _ _ _ => rfl)
  have e3 : σ' 433 = σ 433 := hf _ (by omega)
  have hC' := ci_47 hC hf
  obtain ⟨ev, -⟩ := plan_in hN (σ 48) (σ 441)
  have e4 : σ' 441 = σ 441 := hf _ (by omega)
  by_cases z : (planN (σ 433) (σ 48)).1 = -1
  · rw [z] at e
    have f3 : fC σ' 433 = σ 433 := (fC_ne _ (by decide)).trans e3
    have f4 : fC σ' 441 = σ 441 := (fC_ne _ (by decide)).trans e4
    obtain ⟨τ, r, rs⟩ := rp_193 (L := L) (d := d) (σ := fC σ') (by omega) (by rw [f3]; exact hN)
    have hm2 : planM (fC σ') = (-100006, fndM (fC σ')) := by unfold planM; rw [f3, f4, ← ev, z, if_pos (by decide)]
    rw [hm2] at r rs
    refine CK.of (σ1 := fC σ') (r := -100006) ?_ r rfl (ci_RS (ci_fnd hC') rs) ((rs.lo 0 (by decide)).trans ?_)
    · rw [ex_cd_eq (by omega)]
      show ex_ev (d - 1) 106 0 [vR 4, vL 0] [] _ = _
      simp (disch := first | assumption | omega | ((repeat' first | exact ok_nil | apply ok_I | apply ok_R); done) | (simp (disch := first | omega | decide) only [ex_ar_same, ex_ar_diff, kM_diff, ex_u_same, ex_u_diff]; first | assumption | omega)) only [(xr_51 e), ev_106_0, ev_106_1, ev_106_2, gf_4_0, gf_4_4, x_fall, x_goto, x_push, x_ret1, xc_132, xl_a0, xl_i1, xt_i1, y_cmp_ne_f, y_cmp_ne_t, i_wr_id, kM_diff, Int.reduceToNat, ex_ar_same, ex_ar_ar, ex_ar_diff, ex_u_same, ex_u_diff, b2i_t, b2i_f, ex_div_nn, ex_rem_nn, Int.toNat_zero, Int.toNat_one, Int.reduceAdd, Int.reduceSub, Int.reduceMul, Int.reduceNeg, kC_ne, fC_ne]
    · show fndM (fC σ') 0 = σ 0
      unfold fndM
      rw [ex_ar_diff _ _ _ (by decide), fC_ne _ (by decide)]; exact hf _ (by omega)
  · obtain ⟨τ, r, rs⟩ := rp_193 (L := L) (d := d) (σ := σ') (by omega) (by rw [e3]; exact hN)
    have hm2 : planM σ' = ((planN (σ 433) (σ 48)).1, σ') := by unfold planM; rw [e3, e4, ← ev, if_neg (by omega)]
    rw [hm2] at r rs
    refine CK.of (σ1 := σ') (r := (planN (σ 433) (σ 48)).1) ?_ r rfl (ci_RS hC' rs) ((rs.lo 0 (by decide)).trans (hf _ (by omega)))
    rw [ex_cd_eq (by omega)]
    show ex_ev (d - 1) 106 0 [vR 4, vL 0] [] _ = _
    simp (disch := first | assumption | omega | ((repeat' first | exact ok_nil | apply ok_I | apply ok_R); done) | (simp (disch := first | omega | decide) only [ex_ar_same, ex_ar_diff, kM_diff, ex_u_same, ex_u_diff]; first | assumption | omega)) only [(xr_51 e), ev_106_0, ev_106_1, ev_106_2, gf_4_0, gf_4_4, x_fall, x_goto, x_push, x_ret1, xc_132, xl_a0, xl_i1, xt_i1, y_cmp_ne_f, y_cmp_ne_t, i_wr_id, kM_diff, Int.reduceToNat, ex_ar_same, ex_ar_ar, ex_ar_diff, ex_u_same, ex_u_diff, b2i_t, b2i_f, ex_div_nn, ex_rem_nn, Int.toNat_zero, Int.toNat_one, Int.reduceAdd, Int.reduceSub, Int.reduceMul, Int.reduceNeg, kC_ne, fC_ne]
theorem ck_107 {L d : Nat} {σ : ex_S} {c : Int} (hC : CI σ) (hd : 20 < d) : CK 107 194 [vI c] σ L d := by
  (have p0 := hC.pr.p0; have p1 := hC.pr.p1; have k0 := hC.pr.k0; have k1 := hC.pr.k1; have kq := hC.pr.q; have q0 : 0 ≤ σ 4 10 := (by omega); have q1 : σ 4 10 ≤ 16 := (by omega); have hN := hC.ni; have hR := hC.rd.g; have hD := hC.rd; have hT := hC.st)
  have a7 := hN.a7
  have b7 := hN.b7
  have av := arrv_lo hN c
  by_cases g : 0 ≤ c ∧ c < σ 433 1
  · by_cases y : arrvN (σ 433) c < 0
    · have y' : arrvN (σ 433) c = -1 := by omega
      have f3 : fC σ 433 = σ 433 := fC_ne _ (by decide)
      obtain ⟨τ, r, rs⟩ := rp_194 (L := L) (d := d) (σ := fC σ) (c := c) (by omega) (by rw [f3]; exact hN)
      have hm2 : plannedM (fC σ) c = (-100006, fndM (fC σ)) := by unfold plannedM; rw [f3, if_pos g, if_pos (Or.inr y)]
      rw [hm2] at r rs
      refine CK.of (σ1 := fC σ) (r := -100006) ?_ r rfl (ci_RS (ci_fnd hC) rs) ((rs.lo 0 (by decide)).trans ?_)
      · rw [ex_cd_eq (by omega)]
        show ex_ev (d - 1) 107 0 [vR 4, vI c, vL 0] [] _ = _
        simp (disch := first | assumption | omega | ((repeat' first | exact ok_nil | apply ok_I | apply ok_R); done) | (simp (disch := first | omega | decide) only [ex_ar_same, ex_ar_diff, kM_diff, ex_u_same, ex_u_diff]; first | assumption | omega)) only [ev_107_0, ev_107_1, ev_107_2, ev_107_3, gf_47_0, gf_4_0, gf_4_4, gf_5_0, ld_48, x_fall, x_push, x_ret1, xc_132, xc_14_35, xc_14_6, xc_8, xl_a0, xl_i1, xl_i2, xt_i2, y', y_cmp_eq_f, y_cmp_eq_t, y_cmp_ne_f, y_cmp_ne_t, y_if_ne_f, y_if_ne_t, i_wr_id, kM_diff, Int.reduceToNat, ex_ar_same, ex_ar_ar, ex_ar_diff, ex_u_same, ex_u_diff, b2i_t, b2i_f, ex_div_nn, ex_rem_nn, Int.toNat_zero, Int.toNat_one, Int.reduceAdd, Int.reduceSub, Int.reduceMul, Int.reduceNeg, kC_ne, fC_ne]
      · show fndM (fC σ) 0 = σ 0
        unfold fndM
        rw [ex_ar_diff _ _ _ (by decide), fC_ne _ (by decide)]
    · obtain ⟨σ', e, hf, hm, hb⟩ := fp_51 (d := d - 1) (L := L) (b := σ 48) (by omega) hD hN (fun _ _ _ => rfl)
      have e3 : σ' 433 = σ 433 := hf _ (by omega)
      have hC' := ci_47 hC hf
      obtain ⟨ev, ev2⟩ := plan_in hN (σ 48) (σ 441)
      have e4 : σ' 441 = σ 441 := hf _ (by omega)
      by_cases z : (planN (σ 433) (σ 48)).1 = -1
      · rw [z] at e
        have f3 : fC σ' 433 = σ 433 := (fC_ne _ (by decide)).trans e3
        have f4 : fC σ' 441 = σ 441 := (fC_ne _ (by decide)).trans e4
        obtain ⟨τ, r, rs⟩ := rp_194 (L := L) (d := d) (σ := fC σ') (c := c) (by omega) (by rw [f3]; exact hN)
        have hm2 : plannedM (fC σ') c = (-100006, fndM (fC σ')) := by unfold plannedM; rw [f3, f4, if_pos g, ← ev, z, if_pos (Or.inl (by decide))]
        rw [hm2] at r rs
        refine CK.of (σ1 := fC σ') (r := -100006) ?_ r rfl (ci_RS (ci_fnd hC') rs) ((rs.lo 0 (by decide)).trans ?_)
        · rw [ex_cd_eq (by omega)]
          show ex_ev (d - 1) 107 0 [vR 4, vI c, vL 0] [] _ = _
          simp (disch := first | assumption | omega | ((repeat' first | exact ok_nil | apply ok_I | apply ok_R); done) | (simp (disch := first | omega | decide) only [ex_ar_same, ex_ar_diff, kM_diff, ex_u_same, ex_u_diff]; first | assumption | omega)) only [(xr_51 e), ev_107_0, ev_107_1, ev_107_2, ev_107_3, gf_47_0, gf_4_0, gf_4_4, gf_5_0, ld_48, x_fall, x_push, x_ret1, xc_132, xc_14_35, xc_14_6, xc_8, xl_a0, xl_i1, xl_i2, xt_i2, y_cmp_eq_f, y_cmp_eq_t, y_cmp_ne_f, y_cmp_ne_t, y_if_ne_f, y_if_ne_t, i_wr_id, kM_diff, Int.reduceToNat, ex_ar_same, ex_ar_ar, ex_ar_diff, ex_u_same, ex_u_diff, b2i_t, b2i_f, ex_div_nn, ex_rem_nn, Int.toNat_zero, Int.toNat_one, Int.reduceAdd, Int.reduceSub, Int.reduceMul, Int.reduceNeg, kC_ne, fC_ne]
        · show fndM (fC σ') 0 = σ 0
          unfold fndM
          rw [ex_ar_diff _ _ _ (by decide), fC_ne _ (by decide)]; exact hf _ (by omega)
      · obtain ⟨τ, r, rs⟩ := rp_194 (L := L) (d := d) (σ := σ') (c := c) (by omega) (by rw [e3]; exact hN)
        have eb : σ' 48 (arrvN (σ 433) c) = (planN (σ 433) (σ 441)).2 (arrvN (σ 433) c) := by rw [hb _ (by omega) (by omega)]; exact ev2 (by omega) _ (by omega) (by omega)
        have hm2 : plannedM σ' c = (σ' 48 (arrvN (σ 433) c), σ') := by unfold plannedM; rw [e3, e4, if_pos g, if_neg (by omega), eb]
        rw [hm2] at r rs
        refine CK.of (σ1 := σ') (r := σ' 48 (arrvN (σ 433) c)) ?_ r rfl (ci_RS hC' rs) ((rs.lo 0 (by decide)).trans (hf _ (by omega)))
        rw [ex_cd_eq (by omega)]
        show ex_ev (d - 1) 107 0 [vR 4, vI c, vL 0] [] _ = _
        simp (disch := first | assumption | omega | ((repeat' first | exact ok_nil | apply ok_I | apply ok_R); done) | (simp (disch := first | omega | decide) only [ex_ar_same, ex_ar_diff, kM_diff, ex_u_same, ex_u_diff]; first | assumption | omega)) only [(xr_51 e), ev_107_0, ev_107_1, ev_107_2, ev_107_3, gf_47_0, gf_4_0, gf_4_4, gf_5_0, ld_48, x_fall, x_push, x_ret1, xc_132, xc_14_35, xc_14_6, xc_8, xl_a0, xl_i1, xl_i2, xt_i2, y_cmp_eq_f, y_cmp_eq_t, y_cmp_ne_f, y_cmp_ne_t, y_if_ne_f, y_if_ne_t, i_wr_id, kM_diff, Int.reduceToNat, ex_ar_same, ex_ar_ar, ex_ar_diff, ex_u_same, ex_u_diff, b2i_t, b2i_f, ex_div_nn, ex_rem_nn, Int.toNat_zero, Int.toNat_one, Int.reduceAdd, Int.reduceSub, Int.reduceMul, Int.reduceNeg, kC_ne, fC_ne]
  · have f3 : fC σ 433 = σ 433 := fC_ne _ (by decide)
    obtain ⟨τ, r, rs⟩ := rp_194 (L := L) (d := d) (σ := fC σ) (c := c) (by omega) (by rw [f3]; exact hN)
    have hm2 : plannedM (fC σ) c = (-100001, fndM (fC σ)) := by unfold plannedM; rw [f3, if_neg g]
    rw [hm2] at r rs
    refine CK.of (σ1 := fC σ) (r := -100001) ?_ r rfl (ci_RS (ci_fnd hC) rs) ((rs.lo 0 (by decide)).trans ?_)
    · (rw [ex_cd_eq (by omega)]; show ex_ev (d - 1) 107 0 [vR 4, vI c, vL 0] [] _ = _; (repeat' first | simp (disch := first | assumption | omega | ((repeat' first | exact ok_nil | apply ok_I | apply ok_R); done) | (simp (disch := first | omega | decide) only [ex_ar_same, ex_ar_diff, kM_diff, ex_u_same, ex_u_diff]; first | assumption | omega)) only [ev_107_0, ev_107_1, ev_107_2, ev_107_3, gf_47_0, gf_4_0, gf_4_4, gf_5_0, ld_48, x_fall, x_push, x_ret1, xc_132, xc_14_35, xc_14_6, xc_8, xl_a0, xl_i1, xl_i2, xt_i2, y_cmp_eq_f, y_cmp_eq_t, y_cmp_ne_f, y_cmp_ne_t, y_if_ne_f, y_if_ne_t, i_wr_id, kM_diff, Int.reduceToNat, ex_ar_same, ex_ar_ar, ex_ar_diff, ex_u_same, ex_u_diff, b2i_t, b2i_f, ex_div_nn, ex_rem_nn, Int.toNat_zero, Int.toNat_one, Int.reduceAdd, Int.reduceSub, Int.reduceMul, Int.reduceNeg, kC_ne, fC_ne] | refine bb_eq (fun _ => ?_) (fun _ => ?_) | refine bb_ne (fun _ => ?_) (fun _ => ?_) | refine bc_eq (fun _ => ?_) (fun _ => ?_) | refine bc_ne (fun _ => ?_) (fun _ => ?_) | refine bc_lt (fun _ => ?_) (fun _ => ?_) | refine bc_ge (fun _ => ?_) (fun _ => ?_) | refine bc_gt (fun _ => ?_) (fun _ => ?_) | refine bc_le (fun _ => ?_) (fun _ => ?_) | refine bi_eq (fun _ => ?_) (fun _ => ?_) | refine bi_ne (fun _ => ?_) (fun _ => ?_) | refine bi_lt (fun _ => ?_) (fun _ => ?_) | refine bi_ge (fun _ => ?_) (fun _ => ?_) | refine bi_gt (fun _ => ?_) (fun _ => ?_) | refine bi_le (fun _ => ?_) (fun _ => ?_)))
    · show fndM (fC σ) 0 = σ 0
      unfold fndM
      rw [ex_ar_diff _ _ _ (by decide), fC_ne _ (by decide)]
