/-! the class: acts, undo -/
theorem fC_ne (σ : ex_S) {a : Nat} (h : a ≠ 4) : fC σ a = σ a := ex_ar_diff _ _ _ h
theorem ci_act {σ σ' : ex_S} {n' : Int → Int} (h : CI σ) (hf : ∀ a, a < 5 ∨ 27 < a → σ' a = kC σ a) (hd : RD5 σ' n') (hn : NI n') : CI (ex_ar (keepM σ') 433 n') := by
  have p0 := h.pr.p0
  have p1 := h.pr.p1
  have k0 := h.pr.k0
  have k1 := h.pr.k1
  have ek : ∀ a, a ≠ 4 → a < 5 ∨ (27 < a ∧ a < 64) ∨ 432 ≤ a → σ' a = σ a := fun a h1 h2 => by rw [hf a (by omega), kC_ne σ h1 (by omega) p0 p1]
  have e : ∀ a, a ≠ 432 → a ≠ 433 → a ≠ 434 → ex_ar (keepM σ') 433 n' a = σ' a := fun a h1 h2 h3 => by rw [ex_ar_diff _ _ _ h2, kM_diff _ h1 h3]
  have e4 : ex_ar (keepM σ') 433 n' 4 = ex_u (ex_u (σ 4) 9 ((σ 4 9 + 1) % 16)) 10 (if σ 4 10 = 16 then 16 else σ 4 10 + 1) := by
    rw [e 4 (by decide) (by decide) (by decide), hf 4 (by omega)]
    unfold kC
    rw [ex_ar_same]
  have s2 : σ' 432 = σ 432 := ek _ (by decide) (by omega)
  have s3 : σ' 433 = σ 433 := ek _ (by decide) (by omega)
  have s4 : σ' 434 = σ 434 := ek _ (by decide) (by omega)
  have e2 : ex_ar (keepM σ') 433 n' 432 = ex_u (σ 432) 2 (if σ 432 2 = 16 then 16 else σ 432 2 + 1) := by
    rw [ex_ar_diff _ _ _ (by decide), kM_432, s2]
  have e34 : ∀ k : Int, ex_ar (keepM σ') 433 n' 434 k = if σ 432 2 = 16 then (if 4155 ≤ k ∧ k < 4432 then σ 433 (k - 4155) else if 0 ≤ k ∧ k < 4155 then σ 434 (k + 277) else σ 434 k) else (if σ 432 2 * 277 ≤ k ∧ k < σ 432 2 * 277 + 277 then σ 433 (k - σ 432 2 * 277) else σ 434 k) := by
    intro k
    rw [ex_ar_diff _ _ _ (by decide), kM_434 σ' (by rw [s2]; exact k0) (by rw [s2]; exact k1), s2, s3, s4]
  have ep : ∀ a, 64 ≤ a → a < 432 → ex_ar (keepM σ') 433 n' a = dcp σ (64 + 23 * (σ 4 9).toNat) 5 a := by
    intro a h1 h2
    rw [e a (by omega) (by omega) (by omega), hf a (by omega)]
    unfold kC
    rw [ex_ar_diff _ _ _ (by omega)]
  refine CI.mk (ST_fr h.st ?_ ?_ ?_) ?_ ?_ ?_ ?_ ?_ ?_ ?_ ?_ ?_ ?_
  · rw [e _ (by decide) (by decide) (by decide)]; exact ek _ (by decide) (by omega)
  · rw [e _ (by decide) (by decide) (by decide)]; exact ek _ (by decide) (by omega)
  · rw [e _ (by decide) (by decide) (by decide)]; exact ek _ (by decide) (by omega)
  · rw [ex_ar_same]; exact hn
  · rw [ex_ar_same]; exact RD_fr (B := 5) hd hn (fun _ _ _ => rfl) (fun a a1 a2 => e a (by omega) (by omega) (by omega))
  · refine PR.mk ?_ ?_ ?_ ?_ ?_ ?_
    · rw [e4, ex_u_diff _ _ (by decide), ex_u_same]; omega
    · rw [e4, ex_u_diff _ _ (by decide), ex_u_same]; omega
    · rw [e4, e2, ex_u_same, ex_u_same, h.pr.q]
    · rw [e2, ex_u_same]; split <;> omega
    · rw [e2, ex_u_same]; split <;> omega
    · intro j j0 j1
      rw [e2, ex_u_same] at j1
      rw [e4, e2, ex_u_same, ex_u_diff _ _ (by decide), ex_u_same]
      have now : ∀ i : Int, (if σ 432 2 = 16 then 16 else σ 432 2 + 1) = j + 1 → 0 ≤ i → i < 277 → pst (ex_ar (keepM σ') 433 n') j i = σ 433 i := by
        intro i hj i0 i1
        unfold pst
        rw [e34]
        by_cases z : σ 432 2 = 16
        · rw [if_pos z] at hj
          rw [if_pos z, if_pos (by omega)]
          congr 1; omega
        · rw [if_neg z] at hj
          rw [if_neg z, if_pos (by omega)]
          congr 1; omega
      by_cases hj : (if σ 432 2 = 16 then 16 else σ 432 2 + 1) = j + 1
      · refine ⟨NI_cg h.ni (fun i i0 i1 => now i hj i0 i1), ?_⟩
        have es : slt ((σ 4 9 + 1) % 16) (if σ 432 2 = 16 then 16 else σ 432 2 + 1) j = 64 + 23 * (σ 4 9).toNat := by rw [hj]; unfold slt; omega
        rw [es]
        have c := RD_copy (A := 5) (B := 64 + 23 * (σ 4 9).toNat) (n' := σ 433) h.rd h.ni (fun _ _ _ => rfl) (by omega)
        exact RD_fr c h.ni (fun i i0 i1 => now i hj i0 i1) (fun a a1 a2 => ep a (by omega) (by omega))
      · obtain ⟨a, b⟩ := h.pr.h (if σ 432 2 = 16 then j + 1 else j) (by split <;> omega) (by revert hj j1; split <;> intros <;> omega)
        have old : ∀ i : Int, 0 ≤ i → i < 277 → pst (ex_ar (keepM σ') 433 n') j i = pst σ (if σ 432 2 = 16 then j + 1 else j) i := by
          intro i i0 i1
          unfold pst
          rw [e34]
          by_cases z : σ 432 2 = 16
          · rw [if_pos z] at hj j1
            rw [if_pos z, if_pos z, if_neg (by omega), if_pos (by omega)]
            congr 1; omega
          · rw [if_neg z] at hj j1
            rw [if_neg z, if_neg z, if_neg (by omega)]
        have es : slt ((σ 4 9 + 1) % 16) (if σ 432 2 = 16 then 16 else σ 432 2 + 1) j = slt (σ 4 9) (σ 432 2) (if σ 432 2 = 16 then j + 1 else j) := by
          unfold slt
          by_cases z : σ 432 2 = 16
          · rw [if_pos z, if_pos z]; omega
          · rw [if_neg z, if_neg z]; omega
        refine ⟨NI_cg a old, ?_⟩
        rw [es]
        refine RD_fr b a old (fun c c1 c2 => ?_)
        have hlo : 64 ≤ slt (σ 4 9) (σ 432 2) (if σ 432 2 = 16 then j + 1 else j) ∧ slt (σ 4 9) (σ 432 2) (if σ 432 2 = 16 then j + 1 else j) ≤ 409 := by unfold slt; omega
        have hne : slt (σ 4 9) (σ 432 2) (if σ 432 2 = 16 then j + 1 else j) + 22 < 64 + 23 * (σ 4 9).toNat ∨ 64 + 23 * (σ 4 9).toNat + 22 < slt (σ 4 9) (σ 432 2) (if σ 432 2 = 16 then j + 1 else j) := by
          unfold slt
          by_cases z : σ 432 2 = 16
          · rw [if_pos z] at hj j1
            rw [if_pos z]; omega
          · rw [if_neg z] at hj j1
            rw [if_neg z]; omega
        rw [ep c (by omega) (by omega), dcp_ne (by omega)]
  · rw [e4, e2, ex_u_diff _ _ (by decide), ex_u_diff _ _ (by decide), ex_u_diff _ _ (by decide)]; exact h.fn
  · rw [e 435 (by decide) (by decide) (by decide), e 436 (by decide) (by decide) (by decide), ek 435 (by decide) (by omega), ek 436 (by decide) (by omega)]; exact h.si
  · rw [e 435 (by decide) (by decide) (by decide), e 30 (by decide) (by decide) (by decide), ek 435 (by decide) (by omega), ek 30 (by decide) (by omega)]; exact h.sb
  · rw [e 436 (by decide) (by decide) (by decide), e 31 (by decide) (by decide) (by decide), ek 436 (by decide) (by omega), ek 31 (by decide) (by omega)]; exact h.sz
  · rw [e 435 (by decide) (by decide) (by decide), e 32 (by decide) (by decide) (by decide), e 437 (by decide) (by decide) (by decide), ek 435 (by decide) (by omega), ek 32 (by decide) (by omega), ek 437 (by decide) (by omega)]; exact h.nu
  · rw [e 437 (by decide) (by decide) (by decide), ek 437 (by decide) (by omega)]; exact h.rg
  · rw [e 447 (by decide) (by decide) (by decide), ek 447 (by decide) (by omega)]; exact h.tk
/-- one call of the class, and the same of the reference -/
def CK (mc mr : Nat) (as : List ex_V) (σ : ex_S) (L d : Nat) : Prop := ∃ (r : Int) (σ1 σ2 : ex_S) (gb : List ex_C), ex_cd d mc (vR 4 :: as) (SH L, σ) = some ([vI r], (SH L, σ1)) ∧ ex_cd d mr (vR 432 :: as) (SH L, σ1) = some ([vI r], (SH L ++ gb, σ2)) ∧ CI σ2 ∧ σ2 0 = σ 0 ∧ gb.length ≤ 1 ∧ ex_tot gb ≤ 4
theorem CK.of {mc mr : Nat} {as : List ex_V} {σ : ex_S} {L d : Nat} {r r' : Int} {σ1 σ2 : ex_S} (h1 : ex_cd d mc (vR 4 :: as) (SH L, σ) = some ([vI r], (SH L, σ1))) (h2 : ex_cd d mr (vR 432 :: as) (SH L, σ1) = some ([vI r'], (SH L, σ2))) (hr : r' = r) (hc : CI σ2) (h0 : σ2 0 = σ 0) : CK mc mr as σ L d := by
  subst hr
  exact ⟨r', σ1, σ2, [], h1, by rw [List.append_nil]; exact h2, hc, h0, by decide, by decide⟩
theorem ck_act {mc mr : Nat} {as : List ex_V} {σ : ex_S} {L d : Nat} {r r' : Int} {σ1 : ex_S} {n' : Int → Int} (h : CI σ) (h1 : ex_cd d mc (vR 4 :: as) (SH L, σ) = some ([vI r], (SH L, σ1))) (hf : ∀ a, a < 5 ∨ 27 < a → σ1 a = kC σ a) (h2 : ex_cd d mr (vR 432 :: as) (SH L, σ1) = some ([vI r'], (SH L, ex_ar (keepM σ1) 433 n'))) (hr : r' = r) (hd : RD5 σ1 n') (hn : NI n') : CK mc mr as σ L d :=
  CK.of h1 h2 hr (ci_act h hf hd hn) (by rw [ex_ar_diff _ _ _ (by decide), kM_diff _ (by decide) (by decide), hf 0 (by omega), kC_ne σ (by decide) (by omega) h.pr.p0 h.pr.p1])
theorem ck_fnd {mc mr : Nat} {as : List ex_V} {σ : ex_S} {L d : Nat} {r : Int} (h : CI σ) (h1 : ex_cd d mc (vR 4 :: as) (SH L, σ) = some ([vI r], (SH L, fC σ))) (h2 : ex_cd d mr (vR 432 :: as) (SH L, fC σ) = some ([vI r], (SH L, fndM (fC σ)))) : CK mc mr as σ L d :=
  CK.of h1 h2 rfl (ci_fnd h) (by unfold fndM; rw [ex_ar_diff _ _ _ (by decide), fC_ne _ (by decide)])
theorem ck_get {mc mr : Nat} {as : List ex_V} {σ : ex_S} {L d : Nat} {r : Int} (h : CI σ) (h1 : ex_cd d mc (vR 4 :: as) (SH L, σ) = some ([vI r], (SH L, σ))) (h2 : ex_cd d mr (vR 432 :: as) (SH L, σ) = some ([vI r], (SH L, σ))) : CK mc mr as σ L d :=
  CK.of h1 h2 rfl h rfl
/-! undo -/
def uC (σ : ex_S) : ex_S := dcp (ex_ar σ 4 (ex_u (ex_u (σ 4) 9 ((σ 4 9 + 15) % 16)) 10 (σ 4 10 - 1))) 5 (64 + 23 * ((σ 4 9 + 15) % 16).toNat)
theorem uC_ne (σ : ex_S) {a : Nat} (h1 : a ≠ 4) (h2 : a < 5 ∨ 27 < a) : uC σ a = σ a := by
  unfold uC
  rw [dcp_ne (by omega), ex_ar_diff _ _ _ h1]
theorem sp_130 {d : Nat} (hd : 2 < d) {L : Nat} {σ : ex_S} (p0 : 0 ≤ σ 4 9) (p1 : σ 4 9 < 16) (q0 : 0 < σ 4 10) (q1 : σ 4 10 ≤ 16) : ex_cd d 130 [vR 4] (SH L, σ) = some ([vI (σ 4 10 - 1)], (SH L, uC σ)) := by
  rw [ex_cd_eq (by omega)]
  show ex_ev (d - 1) 130 0 [vR 4, vL 0] [] (SH L, σ) = _
  have d5 := DC_5 L
  have dk := DC_k L (k := ((σ 4 9 + 15) % 16).toNat) (by omega)
  unfold uC
  have e4 : dcp (ex_ar σ 4 (ex_u (ex_u (σ 4) 9 ((σ 4 9 + 15) % 16)) 10 (σ 4 10 - 1))) 5 (64 + 23 * ((σ 4 9 + 15) % 16).toNat) 4 = ex_u (ex_u (σ 4) 9 ((σ 4 9 + 15) % 16)) 10 (σ 4 10 - 1) := by rw [dcp_ne (by omega), ex_ar_same]
  have e5 : ex_rem (ex_wr (ex_wr (σ 4 9 + 16) - 1)) 16 = (σ 4 9 + 15) % 16 := by
    rw [i_wr_id (z := σ 4 9 + 16) (by omega) (by omega), i_wr_id (by omega) (by omega), ex_rem_nn (by omega) (by omega) (by decide) (by decide)]
    congr 1
    omega
  have e6 : ex_wr (σ 4 10 - 1) = σ 4 10 - 1 := i_wr_id (by omega) (by omega)
  simp (disch := first | assumption | omega | ((repeat' first | exact ok_nil | apply ok_I | apply ok_R); done) | (simp (disch := first | omega | decide) only [ex_ar_same, ex_ar_diff, kM_diff, ex_u_same, ex_u_diff]; first | assumption | omega)) only [aald_28, bx_7, e4, e5, e6, ev_130_0, ev_130_1, ev_130_2, gf_4_0, gf_4_1, gf_4_10, gf_4_9, pf_4_10, pf_4_9, x_dupI, x_dupR, x_fall, x_ifnull, x_irem, x_push, x_ret1, xc_132, xl_a0, xl_a1, xt_a1, y_iadd, y_if_gt_f, y_if_gt_t, y_isub, kM_diff, Int.reduceToNat, ex_ar_same, ex_ar_ar, ex_ar_diff, ex_u_same, ex_u_diff, b2i_t, b2i_f, ex_div_nn, ex_rem_nn, Int.toNat_zero, Int.toNat_one, Int.reduceAdd, Int.reduceSub, Int.reduceMul, Int.reduceNeg]
theorem xc_130 {rt d : Nat} {J : Nat → List ex_V → List ex_V → ex_H → Option ex_R} {is : List Instr} {ls st : List ex_V} {L : Nat} {σ : ex_S} (p0 : 0 ≤ σ 4 9) (p1 : σ 4 9 < 16) (q0 : 0 < σ 4 10) (q1 : σ 4 10 ≤ 16) (hd : 2 < d) (hok : okN 8 st = true) : ex_xs rt J (ex_cd d) (.invokevirtual 130 :: is) ls (vR 4 :: st) (SH L, σ) = ex_xs rt J (ex_cd d) is ls (vI (σ 4 10 - 1) :: st) (SH L, uC σ) := x_call1 (Or.inl rfl) rfl (sh_4 _) (Or.inl ⟨rfl, rfl⟩) (as := []) rfl rfl (okN_ok hok) rfl (sp_130 hd p0 p1 q0 q1)
theorem sp_130_f {d : Nat} (hd : 2 < d) {L : Nat} {σ : ex_S} (q0 : σ 4 10 ≤ 0) : ex_cd d 130 [vR 4] (SH L, σ) = some ([vI (-100006)], (SH L, fC σ)) := by
  rw [ex_cd_eq (by omega)]
  show ex_ev (d - 1) 130 0 [vR 4, vL 0] [] (SH L, σ) = _
  simp (disch := first | assumption | omega | ((repeat' first | exact ok_nil | apply ok_I | apply ok_R); done) | (simp (disch := first | omega | decide) only [ex_ar_same, ex_ar_diff, kM_diff, ex_u_same, ex_u_diff]; first | assumption | omega)) only [ev_130_0, ev_130_1, ev_130_2, gf_4_0, gf_4_1, gf_4_10, gf_4_9, pf_4_10, pf_4_9, x_dupI, x_dupR, x_fall, x_ifnull, x_irem, x_push, x_ret1, xc_132, xl_a0, xl_a1, xt_a1, y_iadd, y_if_gt_f, y_if_gt_t, y_isub, i_wr_id, kM_diff, Int.reduceToNat, ex_ar_same, ex_ar_ar, ex_ar_diff, ex_u_same, ex_u_diff, b2i_t, b2i_f, ex_div_nn, ex_rem_nn, Int.toNat_zero, Int.toNat_one, Int.reduceAdd, Int.reduceSub, Int.reduceMul, Int.reduceNeg]
theorem xc_130_f {rt d : Nat} {J : Nat → List ex_V → List ex_V → ex_H → Option ex_R} {is : List Instr} {ls st : List ex_V} {L : Nat} {σ : ex_S} (q0 : σ 4 10 ≤ 0) (hd : 2 < d) (hok : okN 8 st = true) : ex_xs rt J (ex_cd d) (.invokevirtual 130 :: is) ls (vR 4 :: st) (SH L, σ) = ex_xs rt J (ex_cd d) is ls (vI (-100006) :: st) (SH L, fC σ) := x_call1 (Or.inl rfl) rfl (sh_4 _) (Or.inl ⟨rfl, rfl⟩) (as := []) rfl rfl (okN_ok hok) rfl (sp_130_f hd q0)
theorem ci_undo {σ : ex_S} (h : CI σ) (hk : 0 < σ 432 2) : CI (itr unS 0 277 (ex_ar (uC σ) 432 (ex_u (uC σ 432) 2 (uC σ 432 2 - 1)))) := by
  have p0 := h.pr.p0
  have p1 := h.pr.p1
  have k1 := h.pr.k1
  obtain ⟨a, b⟩ := h.pr.h (σ 432 2 - 1) (by omega) (by omega)
  have es : slt (σ 4 9) (σ 432 2) (σ 432 2 - 1) = 64 + 23 * ((σ 4 9 + 15) % 16).toNat := by unfold slt; omega
  rw [es] at b
  rw [uC_ne σ (show 432 ≠ 4 by decide) (by omega)]
  generalize hτ : ex_ar (uC σ) 432 (ex_u (σ 432) 2 (σ 432 2 - 1)) = τ
  have t2 : τ 432 = ex_u (σ 432) 2 (σ 432 2 - 1) := by rw [← hτ, ex_ar_same]
  have tn : ∀ a, a ≠ 432 → τ a = uC σ a := fun a ha => by rw [← hτ, ex_ar_diff _ _ _ ha]
  have e : ∀ a, a ≠ 433 → itr unS 0 277 τ a = τ a := fun a ha => itr_keeps (fun i σ => unS_ne ha i σ) 277 0 τ
  have e3 : ∀ k : Int, 0 ≤ k → k < 277 → itr unS 0 277 τ 433 k = pst σ (σ 432 2 - 1) k := by
    intro k k0 k1
    rw [unS_at, if_pos ⟨k0, by omega⟩, t2, ex_u_same, tn _ (by decide), uC_ne σ (by decide) (by omega)]
    unfold pst
    congr 1; omega
  have eo : ∀ a, a ≠ 4 → a < 5 ∨ 27 < a → a ≠ 432 → a ≠ 433 → itr unS 0 277 τ a = σ a := fun a h1 h2 h3 h4 => by rw [e a h4, tn a h3, uC_ne σ h1 h2]
  have e4 : itr unS 0 277 τ 4 = ex_u (ex_u (σ 4) 9 ((σ 4 9 + 15) % 16)) 10 (σ 4 10 - 1) := by
    rw [e 4 (by decide), tn 4 (by decide)]
    unfold uC
    rw [dcp_ne (by omega), ex_ar_same]
  have e2 : itr unS 0 277 τ 432 = ex_u (σ 432) 2 (σ 432 2 - 1) := by rw [e _ (by decide), t2]
  refine CI.mk (ST_fr h.st (eo _ (by decide) (by omega) (by decide) (by decide)) (eo _ (by decide) (by omega) (by decide) (by decide)) (eo _ (by decide) (by omega) (by decide) (by decide))) ?_ ?_ ?_ ?_ ?_ ?_ ?_ ?_ ?_ ?_
  · exact NI_cg a e3
  · have b2 : RD (64 + 23 * ((σ 4 9 + 15) % 16).toNat) (ex_ar σ 4 (ex_u (ex_u (σ 4) 9 ((σ 4 9 + 15) % 16)) 10 (σ 4 10 - 1))) (pst σ (σ 432 2 - 1)) := RD_fr b a (fun _ _ _ => rfl) (fun c c1 c2 => ex_ar_diff _ _ _ (by omega))
    have b3 := RD_copy (B := 5) (n' := pst σ (σ 432 2 - 1)) b2 a (fun _ _ _ => rfl) (by omega)
    exact RD_fr (B := 5) b3 a e3 (fun c c1 c2 => by rw [e c (by omega), tn c (by omega)]; rfl)
  · refine PR.mk ?_ ?_ ?_ ?_ ?_ ?_
    · rw [e4, ex_u_diff _ _ (by decide), ex_u_same]; omega
    · rw [e4, ex_u_diff _ _ (by decide), ex_u_same]; omega
    · rw [e4, e2, ex_u_same, ex_u_same, h.pr.q]
    · rw [e2, ex_u_same]; omega
    · rw [e2, ex_u_same]; omega
    · intro j j0 j1
      rw [e2, ex_u_same] at j1
      rw [e4, e2, ex_u_same, ex_u_diff _ _ (by decide), ex_u_same]
      obtain ⟨c1, c2⟩ := h.pr.h j j0 (by omega)
      have ep : pst (itr unS 0 277 τ) j = pst σ j := by unfold pst; rw [eo 434 (by decide) (by omega) (by decide) (by decide)]
      have es2 : slt ((σ 4 9 + 15) % 16) (σ 432 2 - 1) j = slt (σ 4 9) (σ 432 2) j := by unfold slt; omega
      rw [ep, es2]
      have hlo : 64 ≤ slt (σ 4 9) (σ 432 2) j ∧ slt (σ 4 9) (σ 432 2) j ≤ 409 := by unfold slt; omega
      exact ⟨c1, RD_fr c2 c1 (fun _ _ _ => rfl) (fun x x1 x2 => eo x (by omega) (by omega) (by omega) (by omega))⟩
  · rw [e4, e2, ex_u_diff _ _ (by decide), ex_u_diff _ _ (by decide), ex_u_diff _ _ (by decide)]; exact h.fn
  · rw [eo 435 (by decide) (by omega) (by decide) (by decide), eo 436 (by decide) (by omega) (by decide) (by decide)]; exact h.si
  · rw [eo 435 (by decide) (by omega) (by decide) (by decide), eo 30 (by decide) (by omega) (by decide) (by decide)]; exact h.sb
  · rw [eo 436 (by decide) (by omega) (by decide) (by decide), eo 31 (by decide) (by omega) (by decide) (by decide)]; exact h.sz
  · rw [eo 435 (by decide) (by omega) (by decide) (by decide), eo 32 (by decide) (by omega) (by decide) (by decide), eo 437 (by decide) (by omega) (by decide) (by decide)]; exact h.nu
  · rw [eo 437 (by decide) (by omega) (by decide) (by decide)]; exact h.rg
  · rw [eo 447 (by decide) (by omega) (by decide) (by decide)]; exact h.tk
theorem ck_130 {L d : Nat} {σ : ex_S} (h : CI σ) (hd : 20 < d) : CK 130 148 [] σ L d := by
  have p0 := h.pr.p0
  have p1 := h.pr.p1
  have k0 := h.pr.k0
  have k1 := h.pr.k1
  have q := h.pr.q
  by_cases z : σ 432 2 = 0
  · refine ck_fnd h (sp_130_f (by omega) (by omega)) ?_
    have := sp_148 (L := L) (d := d) (σ := fC σ) (by omega) (by rw [fC_ne _ (by decide)]; exact k0) (by rw [fC_ne _ (by decide)]; exact k1)
    unfold undoM at this
    rw [if_pos (by rw [fC_ne _ (by decide)]; exact z)] at this
    exact this
  · have e : uC σ 432 = σ 432 := uC_ne σ (by decide) (by omega)
    have := sp_148 (L := L) (d := d) (σ := uC σ) (by omega) (by rw [e]; exact k0) (by rw [e]; exact k1)
    unfold undoM at this
    rw [if_neg (by rw [e]; exact z)] at this
    have e0 : itr unS 0 277 (ex_ar (uC σ) 432 (ex_u (uC σ 432) 2 (uC σ 432 2 - 1))) 0 = σ 0 := (itr_keeps (fun i σ => unS_ne (by decide) i σ) 277 0 _).trans (by rw [ex_ar_diff _ _ _ (by decide), uC_ne σ (by decide) (by omega)])
    have ci := ci_undo h (by omega)
    generalize itr unS 0 277 (ex_ar (uC σ) 432 (ex_u (uC σ 432) 2 (uC σ 432 2 - 1))) = τ at this e0 ci
    exact CK.of (sp_130 (by omega) p0 p1 (by omega) (by omega)) this (by rw [e, q]) ci e0
