/-! the class: lanes and cars told, broken, told anew, flooded -/
theorem sp_12_0 {d : Nat} (hd : 0 < d) {L : Nat} {σ : ex_S} {v : Int} (hT : ST σ) : ex_cd d 12 [vI 0, vI v] (SH L, σ) = some ([vI (b2i (1 ≤ v ∧ v ≤ 9))], (SH L, σ)) := by
  rw [ex_cd_eq (by omega)]
  show ex_ev (d - 1) 12 0 [vI 0, vI v] [] (SH L, σ) = _
  have e1 := hT.l0
  have e2 := hT.m0
  (repeat' first | simp (disch := first | assumption | omega | ((repeat' first | exact ok_nil | apply ok_I | apply ok_R); done) | (simp (disch := first | omega | decide) only [ex_ar_same, ex_ar_diff, kM_diff, ex_u_same, ex_u_diff]; first | assumption | omega)) only [e1, e2, ev_12_0, ev_12_1, ev_12_2, ld_2, ld_3, x_fall, x_gets1, x_gets2, x_goto, x_push, x_ret2, x_ret2b, xl_i0, xl_i1, y_cmp_ge_f, y_cmp_ge_t, y_cmp_gt_f, y_cmp_gt_t, y_cmp_lt_f, y_cmp_lt_t, y_if_lt_f, y_if_lt_t, i_wr_id, kM_diff, Int.reduceToNat, ex_ar_same, ex_ar_ar, ex_ar_diff, ex_u_same, ex_u_diff, b2i_t, b2i_f, ex_div_nn, ex_rem_nn, Int.toNat_zero, Int.toNat_one, Int.reduceAdd, Int.reduceSub, Int.reduceMul, Int.reduceNeg, kC_ne, fC_ne] | refine bb_eq (fun _ => ?_) (fun _ => ?_) | refine bb_ne (fun _ => ?_) (fun _ => ?_) | refine bc_eq (fun _ => ?_) (fun _ => ?_) | refine bc_ne (fun _ => ?_) (fun _ => ?_) | refine bc_lt (fun _ => ?_) (fun _ => ?_) | refine bc_ge (fun _ => ?_) (fun _ => ?_) | refine bc_gt (fun _ => ?_) (fun _ => ?_) | refine bc_le (fun _ => ?_) (fun _ => ?_) | refine bi_eq (fun _ => ?_) (fun _ => ?_) | refine bi_ne (fun _ => ?_) (fun _ => ?_) | refine bi_lt (fun _ => ?_) (fun _ => ?_) | refine bi_ge (fun _ => ?_) (fun _ => ?_) | refine bi_gt (fun _ => ?_) (fun _ => ?_) | refine bi_le (fun _ => ?_) (fun _ => ?_))
theorem xc_12_0 {rt d : Nat} {J : Nat → List ex_V → List ex_V → ex_H → Option ex_R} {is : List Instr} {ls st : List ex_V} {L : Nat} {σ : ex_S} {v : Int} (hT : ST σ) (hd : 0 < d) (hok : okN 8 st = true) : ex_xs rt J (ex_cd d) (.invokestatic 12 :: is) ls (vI v :: vI 0 :: st) (SH L, σ) = ex_xs rt J (ex_cd d) is ls (vI (b2i (1 ≤ v ∧ v ≤ 9)) :: st) (SH L, σ) := x_call0 (as := [vI 0, vI v]) rfl rfl rfl (okN_ok hok) rfl (sp_12_0 hd hT)
theorem sp_12_1 {d : Nat} (hd : 0 < d) {L : Nat} {σ : ex_S} {v : Int} (hT : ST σ) : ex_cd d 12 [vI 1, vI v] (SH L, σ) = some ([vI (b2i (1 ≤ v ∧ v ≤ 30))], (SH L, σ)) := by
  rw [ex_cd_eq (by omega)]
  show ex_ev (d - 1) 12 0 [vI 1, vI v] [] (SH L, σ) = _
  have e1 := hT.l1
  have e2 := hT.m1
  (repeat' first | simp (disch := first | assumption | omega | ((repeat' first | exact ok_nil | apply ok_I | apply ok_R); done) | (simp (disch := first | omega | decide) only [ex_ar_same, ex_ar_diff, kM_diff, ex_u_same, ex_u_diff]; first | assumption | omega)) only [e1, e2, ev_12_0, ev_12_1, ev_12_2, ld_2, ld_3, x_fall, x_gets1, x_gets2, x_goto, x_push, x_ret2, x_ret2b, xl_i0, xl_i1, y_cmp_ge_f, y_cmp_ge_t, y_cmp_gt_f, y_cmp_gt_t, y_cmp_lt_f, y_cmp_lt_t, y_if_lt_f, y_if_lt_t, i_wr_id, kM_diff, Int.reduceToNat, ex_ar_same, ex_ar_ar, ex_ar_diff, ex_u_same, ex_u_diff, b2i_t, b2i_f, ex_div_nn, ex_rem_nn, Int.toNat_zero, Int.toNat_one, Int.reduceAdd, Int.reduceSub, Int.reduceMul, Int.reduceNeg, kC_ne, fC_ne] | refine bb_eq (fun _ => ?_) (fun _ => ?_) | refine bb_ne (fun _ => ?_) (fun _ => ?_) | refine bc_eq (fun _ => ?_) (fun _ => ?_) | refine bc_ne (fun _ => ?_) (fun _ => ?_) | refine bc_lt (fun _ => ?_) (fun _ => ?_) | refine bc_ge (fun _ => ?_) (fun _ => ?_) | refine bc_gt (fun _ => ?_) (fun _ => ?_) | refine bc_le (fun _ => ?_) (fun _ => ?_) | refine bi_eq (fun _ => ?_) (fun _ => ?_) | refine bi_ne (fun _ => ?_) (fun _ => ?_) | refine bi_lt (fun _ => ?_) (fun _ => ?_) | refine bi_ge (fun _ => ?_) (fun _ => ?_) | refine bi_gt (fun _ => ?_) (fun _ => ?_) | refine bi_le (fun _ => ?_) (fun _ => ?_))
theorem xc_12_1 {rt d : Nat} {J : Nat → List ex_V → List ex_V → ex_H → Option ex_R} {is : List Instr} {ls st : List ex_V} {L : Nat} {σ : ex_S} {v : Int} (hT : ST σ) (hd : 0 < d) (hok : okN 8 st = true) : ex_xs rt J (ex_cd d) (.invokestatic 12 :: is) ls (vI v :: vI 1 :: st) (SH L, σ) = ex_xs rt J (ex_cd d) is ls (vI (b2i (1 ≤ v ∧ v ≤ 30)) :: st) (SH L, σ) := x_call0 (as := [vI 1, vI v]) rfl rfl rfl (okN_ok hok) rfl (sp_12_1 hd hT)
theorem sp_12_2 {d : Nat} (hd : 0 < d) {L : Nat} {σ : ex_S} {v : Int} (hT : ST σ) : ex_cd d 12 [vI 2, vI v] (SH L, σ) = some ([vI (b2i (1 ≤ v ∧ v ≤ 99))], (SH L, σ)) := by
  rw [ex_cd_eq (by omega)]
  show ex_ev (d - 1) 12 0 [vI 2, vI v] [] (SH L, σ) = _
  have e1 := hT.l2
  have e2 := hT.m2
  (repeat' first | simp (disch := first | assumption | omega | ((repeat' first | exact ok_nil | apply ok_I | apply ok_R); done) | (simp (disch := first | omega | decide) only [ex_ar_same, ex_ar_diff, kM_diff, ex_u_same, ex_u_diff]; first | assumption | omega)) only [e1, e2, ev_12_0, ev_12_1, ev_12_2, ld_2, ld_3, x_fall, x_gets1, x_gets2, x_goto, x_push, x_ret2, x_ret2b, xl_i0, xl_i1, y_cmp_ge_f, y_cmp_ge_t, y_cmp_gt_f, y_cmp_gt_t, y_cmp_lt_f, y_cmp_lt_t, y_if_lt_f, y_if_lt_t, i_wr_id, kM_diff, Int.reduceToNat, ex_ar_same, ex_ar_ar, ex_ar_diff, ex_u_same, ex_u_diff, b2i_t, b2i_f, ex_div_nn, ex_rem_nn, Int.toNat_zero, Int.toNat_one, Int.reduceAdd, Int.reduceSub, Int.reduceMul, Int.reduceNeg, kC_ne, fC_ne] | refine bb_eq (fun _ => ?_) (fun _ => ?_) | refine bb_ne (fun _ => ?_) (fun _ => ?_) | refine bc_eq (fun _ => ?_) (fun _ => ?_) | refine bc_ne (fun _ => ?_) (fun _ => ?_) | refine bc_lt (fun _ => ?_) (fun _ => ?_) | refine bc_ge (fun _ => ?_) (fun _ => ?_) | refine bc_gt (fun _ => ?_) (fun _ => ?_) | refine bc_le (fun _ => ?_) (fun _ => ?_) | refine bi_eq (fun _ => ?_) (fun _ => ?_) | refine bi_ne (fun _ => ?_) (fun _ => ?_) | refine bi_lt (fun _ => ?_) (fun _ => ?_) | refine bi_ge (fun _ => ?_) (fun _ => ?_) | refine bi_gt (fun _ => ?_) (fun _ => ?_) | refine bi_le (fun _ => ?_) (fun _ => ?_))
theorem xc_12_2 {rt d : Nat} {J : Nat → List ex_V → List ex_V → ex_H → Option ex_R} {is : List Instr} {ls st : List ex_V} {L : Nat} {σ : ex_S} {v : Int} (hT : ST σ) (hd : 0 < d) (hok : okN 8 st = true) : ex_xs rt J (ex_cd d) (.invokestatic 12 :: is) ls (vI v :: vI 2 :: st) (SH L, σ) = ex_xs rt J (ex_cd d) is ls (vI (b2i (1 ≤ v ∧ v ≤ 99)) :: st) (SH L, σ) := x_call0 (as := [vI 2, vI v]) rfl rfl rfl (okN_ok hok) rfl (sp_12_2 hd hT)
theorem sp_12_3 {d : Nat} (hd : 0 < d) {L : Nat} {σ : ex_S} {v : Int} (hT : ST σ) : ex_cd d 12 [vI 3, vI v] (SH L, σ) = some ([vI (b2i (0 ≤ v ∧ v ≤ 23))], (SH L, σ)) := by
  rw [ex_cd_eq (by omega)]
  show ex_ev (d - 1) 12 0 [vI 3, vI v] [] (SH L, σ) = _
  have e1 := hT.l3
  have e2 := hT.m3
  (repeat' first | simp (disch := first | assumption | omega | ((repeat' first | exact ok_nil | apply ok_I | apply ok_R); done) | (simp (disch := first | omega | decide) only [ex_ar_same, ex_ar_diff, kM_diff, ex_u_same, ex_u_diff]; first | assumption | omega)) only [e1, e2, ev_12_0, ev_12_1, ev_12_2, ld_2, ld_3, x_fall, x_gets1, x_gets2, x_goto, x_push, x_ret2, x_ret2b, xl_i0, xl_i1, y_cmp_ge_f, y_cmp_ge_t, y_cmp_gt_f, y_cmp_gt_t, y_cmp_lt_f, y_cmp_lt_t, y_if_lt_f, y_if_lt_t, i_wr_id, kM_diff, Int.reduceToNat, ex_ar_same, ex_ar_ar, ex_ar_diff, ex_u_same, ex_u_diff, b2i_t, b2i_f, ex_div_nn, ex_rem_nn, Int.toNat_zero, Int.toNat_one, Int.reduceAdd, Int.reduceSub, Int.reduceMul, Int.reduceNeg, kC_ne, fC_ne] | refine bb_eq (fun _ => ?_) (fun _ => ?_) | refine bb_ne (fun _ => ?_) (fun _ => ?_) | refine bc_eq (fun _ => ?_) (fun _ => ?_) | refine bc_ne (fun _ => ?_) (fun _ => ?_) | refine bc_lt (fun _ => ?_) (fun _ => ?_) | refine bc_ge (fun _ => ?_) (fun _ => ?_) | refine bc_gt (fun _ => ?_) (fun _ => ?_) | refine bc_le (fun _ => ?_) (fun _ => ?_) | refine bi_eq (fun _ => ?_) (fun _ => ?_) | refine bi_ne (fun _ => ?_) (fun _ => ?_) | refine bi_lt (fun _ => ?_) (fun _ => ?_) | refine bi_ge (fun _ => ?_) (fun _ => ?_) | refine bi_gt (fun _ => ?_) (fun _ => ?_) | refine bi_le (fun _ => ?_) (fun _ => ?_))
theorem xc_12_3 {rt d : Nat} {J : Nat → List ex_V → List ex_V → ex_H → Option ex_R} {is : List Instr} {ls st : List ex_V} {L : Nat} {σ : ex_S} {v : Int} (hT : ST σ) (hd : 0 < d) (hok : okN 8 st = true) : ex_xs rt J (ex_cd d) (.invokestatic 12 :: is) ls (vI v :: vI 3 :: st) (SH L, σ) = ex_xs rt J (ex_cd d) is ls (vI (b2i (0 ≤ v ∧ v ≤ 23)) :: st) (SH L, σ) := x_call0 (as := [vI 3, vI v]) rfl rfl rfl (okN_ok hok) rfl (sp_12_3 hd hT)
theorem sp_12_4 {d : Nat} (hd : 0 < d) {L : Nat} {σ : ex_S} {v : Int} (hT : ST σ) : ex_cd d 12 [vI 4, vI v] (SH L, σ) = some ([vI (b2i (0 ≤ v ∧ v ≤ 9))], (SH L, σ)) := by
  rw [ex_cd_eq (by omega)]
  show ex_ev (d - 1) 12 0 [vI 4, vI v] [] (SH L, σ) = _
  have e1 := hT.l4
  have e2 := hT.m4
  (repeat' first | simp (disch := first | assumption | omega | ((repeat' first | exact ok_nil | apply ok_I | apply ok_R); done) | (simp (disch := first | omega | decide) only [ex_ar_same, ex_ar_diff, kM_diff, ex_u_same, ex_u_diff]; first | assumption | omega)) only [e1, e2, ev_12_0, ev_12_1, ev_12_2, ld_2, ld_3, x_fall, x_gets1, x_gets2, x_goto, x_push, x_ret2, x_ret2b, xl_i0, xl_i1, y_cmp_ge_f, y_cmp_ge_t, y_cmp_gt_f, y_cmp_gt_t, y_cmp_lt_f, y_cmp_lt_t, y_if_lt_f, y_if_lt_t, i_wr_id, kM_diff, Int.reduceToNat, ex_ar_same, ex_ar_ar, ex_ar_diff, ex_u_same, ex_u_diff, b2i_t, b2i_f, ex_div_nn, ex_rem_nn, Int.toNat_zero, Int.toNat_one, Int.reduceAdd, Int.reduceSub, Int.reduceMul, Int.reduceNeg, kC_ne, fC_ne] | refine bb_eq (fun _ => ?_) (fun _ => ?_) | refine bb_ne (fun _ => ?_) (fun _ => ?_) | refine bc_eq (fun _ => ?_) (fun _ => ?_) | refine bc_ne (fun _ => ?_) (fun _ => ?_) | refine bc_lt (fun _ => ?_) (fun _ => ?_) | refine bc_ge (fun _ => ?_) (fun _ => ?_) | refine bc_gt (fun _ => ?_) (fun _ => ?_) | refine bc_le (fun _ => ?_) (fun _ => ?_) | refine bi_eq (fun _ => ?_) (fun _ => ?_) | refine bi_ne (fun _ => ?_) (fun _ => ?_) | refine bi_lt (fun _ => ?_) (fun _ => ?_) | refine bi_ge (fun _ => ?_) (fun _ => ?_) | refine bi_gt (fun _ => ?_) (fun _ => ?_) | refine bi_le (fun _ => ?_) (fun _ => ?_))
theorem xc_12_4 {rt d : Nat} {J : Nat → List ex_V → List ex_V → ex_H → Option ex_R} {is : List Instr} {ls st : List ex_V} {L : Nat} {σ : ex_S} {v : Int} (hT : ST σ) (hd : 0 < d) (hok : okN 8 st = true) : ex_xs rt J (ex_cd d) (.invokestatic 12 :: is) ls (vI v :: vI 4 :: st) (SH L, σ) = ex_xs rt J (ex_cd d) is ls (vI (b2i (0 ≤ v ∧ v ≤ 9)) :: st) (SH L, σ) := x_call0 (as := [vI 4, vI v]) rfl rfl rfl (okN_ok hok) rfl (sp_12_4 hd hT)
theorem sp_12_5 {d : Nat} (hd : 0 < d) {L : Nat} {σ : ex_S} {v : Int} (hT : ST σ) : ex_cd d 12 [vI 5, vI v] (SH L, σ) = some ([vI (b2i (0 ≤ v ∧ v ≤ 99))], (SH L, σ)) := by
  rw [ex_cd_eq (by omega)]
  show ex_ev (d - 1) 12 0 [vI 5, vI v] [] (SH L, σ) = _
  have e1 := hT.l5
  have e2 := hT.m5
  (repeat' first | simp (disch := first | assumption | omega | ((repeat' first | exact ok_nil | apply ok_I | apply ok_R); done) | (simp (disch := first | omega | decide) only [ex_ar_same, ex_ar_diff, kM_diff, ex_u_same, ex_u_diff]; first | assumption | omega)) only [e1, e2, ev_12_0, ev_12_1, ev_12_2, ld_2, ld_3, x_fall, x_gets1, x_gets2, x_goto, x_push, x_ret2, x_ret2b, xl_i0, xl_i1, y_cmp_ge_f, y_cmp_ge_t, y_cmp_gt_f, y_cmp_gt_t, y_cmp_lt_f, y_cmp_lt_t, y_if_lt_f, y_if_lt_t, i_wr_id, kM_diff, Int.reduceToNat, ex_ar_same, ex_ar_ar, ex_ar_diff, ex_u_same, ex_u_diff, b2i_t, b2i_f, ex_div_nn, ex_rem_nn, Int.toNat_zero, Int.toNat_one, Int.reduceAdd, Int.reduceSub, Int.reduceMul, Int.reduceNeg, kC_ne, fC_ne] | refine bb_eq (fun _ => ?_) (fun _ => ?_) | refine bb_ne (fun _ => ?_) (fun _ => ?_) | refine bc_eq (fun _ => ?_) (fun _ => ?_) | refine bc_ne (fun _ => ?_) (fun _ => ?_) | refine bc_lt (fun _ => ?_) (fun _ => ?_) | refine bc_ge (fun _ => ?_) (fun _ => ?_) | refine bc_gt (fun _ => ?_) (fun _ => ?_) | refine bc_le (fun _ => ?_) (fun _ => ?_) | refine bi_eq (fun _ => ?_) (fun _ => ?_) | refine bi_ne (fun _ => ?_) (fun _ => ?_) | refine bi_lt (fun _ => ?_) (fun _ => ?_) | refine bi_ge (fun _ => ?_) (fun _ => ?_) | refine bi_gt (fun _ => ?_) (fun _ => ?_) | refine bi_le (fun _ => ?_) (fun _ => ?_))
theorem xc_12_5 {rt d : Nat} {J : Nat → List ex_V → List ex_V → ex_H → Option ex_R} {is : List Instr} {ls st : List ex_V} {L : Nat} {σ : ex_S} {v : Int} (hT : ST σ) (hd : 0 < d) (hok : okN 8 st = true) : ex_xs rt J (ex_cd d) (.invokestatic 12 :: is) ls (vI v :: vI 5 :: st) (SH L, σ) = ex_xs rt J (ex_cd d) is ls (vI (b2i (0 ≤ v ∧ v ≤ 99)) :: st) (SH L, σ) := x_call0 (as := [vI 5, vI v]) rfl rfl rfl (okN_ok hok) rfl (sp_12_5 hd hT)
theorem RD5_g {σ σ' : ex_S} {n n' : Int → Int} (hR : RD5 σ n) (hN : NI n) (hn : ∀ k : Int, (2 ≤ k ∧ k ≤ 10) ∨ (139 ≤ k ∧ k < 277) → n' k = n k) (hg : RG6 σ' n') (ha : ∀ a, a = 5 ∨ (18 ≤ a ∧ a ≤ 27) → σ' a = σ a) : RD5 σ' n' :=
  RD_cp (B := 5) (B' := 5) hR hN hn hg (by rw [ha _ (by omega)]) (fun i _ _ => by rw [ha _ (by omega)]) (fun i _ _ => by rw [ha _ (by omega)]) (by rw [ha _ (by omega)]) (fun i _ _ => by rw [ha _ (by omega)]) (fun i _ _ => by rw [ha _ (by omega)]) (fun i _ _ => by rw [ha _ (by omega)]) (fun i _ _ => by rw [ha _ (by omega)]) (fun i _ _ => by rw [ha _ (by omega)]) (fun i _ _ => by rw [ha _ (by omega)]) (by rw [ha _ (by omega)]) (by rw [ha _ (by omega)]) (by rw [ha _ (by omega)]) (by rw [ha _ (by omega)]) (by rw [ha _ (by omega)]) (by rw [ha _ (by omega)]) (by rw [ha _ (by omega)])
theorem RD5_kC {σ : ex_S} (hC : CI σ) : RD5 (kC σ) (σ 433) := RD_fr (B := 5) hC.rd hC.ni (fun _ _ _ => rfl) (fun a a1 a2 => kC5 hC a (by omega) (by omega))
/-! a lane is told -/
def alC (σ : ex_S) (z k a b c : Int) : ex_S := ex_ar (ex_ar (ex_ar (ex_ar (ex_ar (ex_ar (ex_ar (ex_ar (ex_ar σ 7 (ex_u (σ 7) z k)) 8 (ex_u (σ 8) z a)) 9 (ex_u (σ 9) z b)) 10 (ex_u (σ 10) z c)) 11 (ex_u (σ 11) z 100)) 12 (ex_u (σ 12) z 0)) 13 (ex_u (σ 13) z 0)) 14 (ex_u (σ 14) z 0)) 6 (ex_u (σ 6) 0 (z + 1))
theorem alC_ne {σ : ex_S} {z k a b c : Int} {x : Nat} (h : x < 6 ∨ 14 < x) : alC σ z k a b c x = σ x := by unfold alC; simp (disch := omega) only [ex_ar_diff]
theorem alC_7 {σ : ex_S} {z k a b c : Int} : alC σ z k a b c 7 = ex_u (σ 7) z k := by unfold alC; simp (disch := decide) only [ex_ar_diff, ex_ar_same]
theorem alC_8 {σ : ex_S} {z k a b c : Int} : alC σ z k a b c 8 = ex_u (σ 8) z a := by unfold alC; simp (disch := decide) only [ex_ar_diff, ex_ar_same]
theorem alC_9 {σ : ex_S} {z k a b c : Int} : alC σ z k a b c 9 = ex_u (σ 9) z b := by unfold alC; simp (disch := decide) only [ex_ar_diff, ex_ar_same]
theorem alC_10 {σ : ex_S} {z k a b c : Int} : alC σ z k a b c 10 = ex_u (σ 10) z c := by unfold alC; simp (disch := decide) only [ex_ar_diff, ex_ar_same]
theorem alC_11 {σ : ex_S} {z k a b c : Int} : alC σ z k a b c 11 = ex_u (σ 11) z 100 := by unfold alC; simp (disch := decide) only [ex_ar_diff, ex_ar_same]
theorem alC_12 {σ : ex_S} {z k a b c : Int} : alC σ z k a b c 12 = ex_u (σ 12) z 0 := by unfold alC; simp (disch := decide) only [ex_ar_diff, ex_ar_same]
theorem alC_13 {σ : ex_S} {z k a b c : Int} : alC σ z k a b c 13 = ex_u (σ 13) z 0 := by unfold alC; simp (disch := decide) only [ex_ar_diff, ex_ar_same]
theorem alC_14 {σ : ex_S} {z k a b c : Int} : alC σ z k a b c 14 = ex_u (σ 14) z 0 := by unfold alC; simp (disch := decide) only [ex_ar_diff, ex_ar_same]
theorem alC_6 {σ : ex_S} {z k a b c : Int} : alC σ z k a b c 6 = ex_u (σ 6) 0 (z + 1) := by unfold alC; rw [ex_ar_same]
theorem sp_15 {d : Nat} (hd : 0 < d) {L : Nat} {σ : ex_S} {z k a b c : Int} (hz : σ 6 0 = z) (z0 : 0 ≤ z) (z1 : z < 5) : ex_cd d 15 [vR 6, vI k, vI a, vI b, vI c] (SH L, σ) = some ([vI z], (SH L, alC σ z k a b c)) := by
  rw [ex_cd_eq (by omega)]
  show ex_ev (d - 1) 15 0 [vR 6, vI k, vI a, vI b, vI c, vL 0] [] (SH L, σ) = _
  unfold alC
  simp (disch := first | assumption | omega | ((repeat' first | exact ok_nil | apply ok_I | apply ok_R); done) | (simp (disch := first | omega | decide) only [ex_ar_same, ex_ar_diff, kM_diff, ex_u_same, ex_u_diff]; first | assumption | omega)) only [ev_15_0, gf_35_0, gf_35_2, gf_35_3, gf_35_4, gf_35_5, gf_35_6, gf_35_7, gf_35_8, gf_35_9, gf_6_0, gf_6_2, gf_6_3, gf_6_4, gf_6_5, gf_6_6, gf_6_7, gf_6_8, gf_6_9, hz, pf_35_0, pf_6_0, sd_10, sd_11, sd_12, sd_13, sd_14, sd_36, sd_37, sd_38, sd_39, sd_40, sd_41, sd_42, sd_43, sd_7, sd_8, sd_9, x_dupI, x_dupR, x_push, x_ret1, xl_a0, xl_i1, xl_i2, xl_i3, xl_i4, xl_i5, xt_i5, y_iadd, i_wr_id, kM_diff, Int.reduceToNat, ex_ar_same, ex_ar_ar, ex_ar_diff, ex_u_same, ex_u_diff, b2i_t, b2i_f, ex_div_nn, ex_rem_nn, Int.toNat_zero, Int.toNat_one, Int.reduceAdd, Int.reduceSub, Int.reduceMul, Int.reduceNeg, kC_ne, fC_ne]
theorem xc_15 {rt d : Nat} {J : Nat → List ex_V → List ex_V → ex_H → Option ex_R} {is : List Instr} {ls st : List ex_V} {L : Nat} {σ : ex_S} {z k a b c : Int} (hz : σ 6 0 = z) (z0 : 0 ≤ z) (z1 : z < 5) (hd : 0 < d) (hok : okN 8 st = true) : ex_xs rt J (ex_cd d) (.invokevirtual 15 :: is) ls (vI c :: vI b :: vI a :: vI k :: vR 6 :: st) (SH L, σ) = ex_xs rt J (ex_cd d) is ls (vI z :: st) (SH L, alC σ z k a b c) := x_call1 (Or.inl rfl) rfl (sh_6 _) (Or.inl ⟨rfl, rfl⟩) (as := [vI k, vI a, vI b, vI c]) rfl rfl (okN_ok hok) rfl (sp_15 hd hz z0 z1)
theorem RG_lane {σ : ex_S} {n : Int → Int} (hR : RG6 σ n) (hN : NI n) {k a b c : Int} (h5 : n 0 ≠ 5) (ok : (0 ≤ k ∧ k ≤ 3) ∧ (1 ≤ a ∧ a ≤ 30) ∧ (1 ≤ b ∧ b ≤ 30) ∧ (1 ≤ c ∧ c ≤ 99)) : RG6 (alC σ (n 0) k a b c) (laneF n k a b c) := by
  have a0 := hN.a0
  have b0 := hN.b0
  have b1 := hN.b1
  have A := fun i => laneF_at n k a b c i a0 (by omega)
  have hs := (NI_lane hN h5 ok).2
  have ou := hN.ou (n 0) (by omega) (by omega)
  have e0 : laneF n k a b c 0 = n 0 + 1 := by rw [A, if_pos rfl]
  have e1 : laneF n k a b c 1 = n 1 := by rw [A, if_neg (by omega), if_neg (by omega), if_neg (by omega), if_neg (by omega), if_neg (by omega)]
  have eo : ∀ i : Int, 30 < i → laneF n k a b c i = n i := fun i hi => by rw [A, if_neg (by omega), if_neg (by omega), if_neg (by omega), if_neg (by omega), if_neg (by omega)]
  refine RG6.mk ?_ ?_ ?_ ?_ ?_ ?_ ?_ ?_ ?_ ?_ ?_ ?_ ?_ ?_
  · rw [alC_6, e0, ex_u_same]
  · rw [alC_6, e1, ex_u_diff _ _ (by decide)]; exact hR.ca
  all_goals try rw [e0]
  all_goals try rw [e1]
  · intro x x1 x2
    rw [alC_7, A]
    by_cases z : x = n 0
    · rw [z, ex_u_same, if_neg (by omega), if_pos rfl]
    · rw [ex_u_diff _ _ z, if_neg (by omega), if_neg (by omega), if_neg (by omega), if_neg (by omega), if_neg (by omega)]; exact hR.kd x x1 (by omega)
  · intro x x1 x2
    rw [alC_8, A]
    by_cases z : x = n 0
    · rw [z, ex_u_same, if_neg (by omega), if_neg (by omega), if_pos rfl]
    · rw [ex_u_diff _ _ z, if_neg (by omega), if_neg (by omega), if_neg (by omega), if_neg (by omega), if_neg (by omega)]; exact hR.le x x1 (by omega)
  · intro x x1 x2
    rw [alC_9, A]
    by_cases z : x = n 0
    · rw [z, ex_u_same, if_neg (by omega), if_neg (by omega), if_neg (by omega), if_pos rfl]
    · rw [ex_u_diff _ _ z, if_neg (by omega), if_neg (by omega), if_neg (by omega), if_neg (by omega), if_neg (by omega)]; exact hR.ht x x1 (by omega)
  · intro x x1 x2
    rw [alC_10]
    by_cases z : x = n 0
    · have e11 : laneF n k a b c (11 + n 0) = k := by rw [A, if_neg (by omega), if_pos rfl]
      have e26 : laneF n k a b c (26 + n 0) = if k = 3 then c / 2 else c := by rw [A, if_neg (by omega), if_neg (by omega), if_neg (by omega), if_neg (by omega), if_pos rfl]
      rw [z, ex_u_same, e11, e26]
    · have e11 : laneF n k a b c (11 + x) = n (11 + x) := by rw [A, if_neg (by omega), if_neg (by omega), if_neg (by omega), if_neg (by omega), if_neg (by omega)]
      have e26 : laneF n k a b c (26 + x) = n (26 + x) := by rw [A, if_neg (by omega), if_neg (by omega), if_neg (by omega), if_neg (by omega), if_neg (by omega)]
      rw [ex_u_diff _ _ z, e11, e26]; exact hR.lo x x1 (by omega)
  · intro x x1 x2
    rw [alC_10]
    by_cases z : x = n 0
    · rw [z, ex_u_same]; omega
    · rw [ex_u_diff _ _ z]; exact hR.ld x x1 (by omega)
  · intro x x1 x2
    rw [alC_11, eo _ (by omega)]
    by_cases z : x = n 0
    · rw [z, ex_u_same]; exact ou.2.1.symm
    · rw [ex_u_diff _ _ z]; exact hR.mi x x1 (by omega)
  · intro x x1 x2
    rw [alC_12, eo _ (by omega)]
    by_cases z : x = n 0
    · rw [z, ex_u_same]; exact ou.2.2.1.symm
    · rw [ex_u_diff _ _ z]; exact hR.cy x x1 (by omega)
  · intro x x1 x2
    rw [alC_13, eo _ (by omega)]
    by_cases z : x = n 0
    · rw [z, ex_u_same]; exact ou.2.2.2.symm
    · rw [ex_u_diff _ _ z]; exact hR.bk x x1 (by omega)
  · intro x x1 x2
    rw [alC_14, eo _ (by omega)]
    by_cases z : x = n 0
    · rw [z, ex_u_same]; exact ou.1.symm
    · rw [ex_u_diff _ _ z]; exact hR.st x x1 (by omega)
  · intro x i x1 x2 i1 i2
    rw [eo _ (by omega)] at i2
    rw [alC_ne (by omega), eo _ (by omega)]
    by_cases z : x = n 0
    · subst z; omega
    · exact hR.pl x i x1 (by omega) i1 i2
  · intro x f x1 x2 i1 i2
    rw [alC_ne (by omega), eo _ (by omega)]; exact hR.fa x f x1 x2 i1 i2
  · intro x x1 x2
    rw [alC_ne (by omega), hs]; exact hR.wh x x1 x2
theorem sp_85_a {d : Nat} (hd : 3 < d) {L : Nat} {σ : ex_S} {k a b c : Int} (hC : CI σ) (g : (0 ≤ k ∧ k ≤ 3) ∧ (1 ≤ a ∧ a ≤ 30) ∧ (1 ≤ b ∧ b ≤ 30) ∧ (1 ≤ c ∧ c ≤ 99)) (g5 : σ 433 0 ≠ 5) : ex_cd d 85 [vR 4, vI k, vI a, vI b, vI c] (SH L, σ) = some ([vI (σ 433 0)], (SH L, alC (kC σ) (σ 433 0) k a b c)) := by
  rw [ex_cd_eq (by omega)]
  show ex_ev (d - 1) 85 0 [vR 4, vI k, vI a, vI b, vI c] [] (SH L, σ) = _
  (have p0 := hC.pr.p0; have p1 := hC.pr.p1; have k0 := hC.pr.k0; have k1 := hC.pr.k1; have kq := hC.pr.q; have q0 : 0 ≤ σ 4 10 := (by omega); have q1 : σ 4 10 ≤ 16 := (by omega); have hN := hC.ni; have hR := hC.rd.g; have hD := hC.rd; have hT := hC.st)
  obtain ⟨g1, g2, g3, g4⟩ := g
  have a0 := hN.a0
  have b0 := hN.b0
  have la := hR.la
  have hz : kC σ 6 0 = σ 433 0 := by rw [kC5 hC 6 (by omega) (by omega)]; exact la
  (repeat' first | simp (disch := first | assumption | omega | ((repeat' first | exact ok_nil | apply ok_I | apply ok_R); done) | (simp (disch := first | omega | decide) only [ex_ar_same, ex_ar_diff, kM_diff, ex_u_same, ex_u_diff]; first | assumption | omega)) only [ev_85_0, ev_85_1, ev_85_2, ev_85_3, gf_35_0, gf_4_0, gf_5_0, gf_6_0, x_fall, x_push, x_ret1, xc_11, xc_132, xc_133, xc_137, xc_15, xl_a0, xl_i1, xl_i2, xl_i3, xl_i4, y_cmp_lt_f, y_cmp_lt_t, y_if_eq_f, y_if_eq_t, y_if_ne_f, y_if_ne_t, i_wr_id, kM_diff, Int.reduceToNat, ex_ar_same, ex_ar_ar, ex_ar_diff, ex_u_same, ex_u_diff, b2i_t, b2i_f, ex_div_nn, ex_rem_nn, Int.toNat_zero, Int.toNat_one, Int.reduceAdd, Int.reduceSub, Int.reduceMul, Int.reduceNeg, kC_ne, fC_ne] | refine bb_eq (fun _ => ?_) (fun _ => ?_) | refine bb_ne (fun _ => ?_) (fun _ => ?_) | refine bc_eq (fun _ => ?_) (fun _ => ?_) | refine bc_ne (fun _ => ?_) (fun _ => ?_) | refine bc_lt (fun _ => ?_) (fun _ => ?_) | refine bc_ge (fun _ => ?_) (fun _ => ?_) | refine bc_gt (fun _ => ?_) (fun _ => ?_) | refine bc_le (fun _ => ?_) (fun _ => ?_) | refine bi_eq (fun _ => ?_) (fun _ => ?_) | refine bi_ne (fun _ => ?_) (fun _ => ?_) | refine bi_lt (fun _ => ?_) (fun _ => ?_) | refine bi_ge (fun _ => ?_) (fun _ => ?_) | refine bi_gt (fun _ => ?_) (fun _ => ?_) | refine bi_le (fun _ => ?_) (fun _ => ?_))
theorem xc_85_a {rt d : Nat} {J : Nat → List ex_V → List ex_V → ex_H → Option ex_R} {is : List Instr} {ls st : List ex_V} {L : Nat} {σ : ex_S} {k a b c : Int} (hC : CI σ) (g : (0 ≤ k ∧ k ≤ 3) ∧ (1 ≤ a ∧ a ≤ 30) ∧ (1 ≤ b ∧ b ≤ 30) ∧ (1 ≤ c ∧ c ≤ 99)) (g5 : σ 433 0 ≠ 5) (hd : 3 < d) (hok : okN 8 st = true) : ex_xs rt J (ex_cd d) (.invokevirtual 85 :: is) ls (vI c :: vI b :: vI a :: vI k :: vR 4 :: st) (SH L, σ) = ex_xs rt J (ex_cd d) is ls (vI (σ 433 0) :: st) (SH L, alC (kC σ) (σ 433 0) k a b c) := x_call1 (Or.inl rfl) rfl (sh_4 _) (Or.inl ⟨rfl, rfl⟩) (as := [vI k, vI a, vI b, vI c]) rfl rfl (okN_ok hok) rfl (sp_85_a hd hC g g5)
theorem sp_85_f {d : Nat} (hd : 3 < d) {L : Nat} {σ : ex_S} {k a b c : Int} (hC : CI σ) (g : (0 ≤ k ∧ k ≤ 3) ∧ (1 ≤ a ∧ a ≤ 30) ∧ (1 ≤ b ∧ b ≤ 30) ∧ (1 ≤ c ∧ c ≤ 99)) (g5 : σ 433 0 = 5) : ex_cd d 85 [vR 4, vI k, vI a, vI b, vI c] (SH L, σ) = some ([vI (-100005)], (SH L, fC σ)) := by
  rw [ex_cd_eq (by omega)]
  show ex_ev (d - 1) 85 0 [vR 4, vI k, vI a, vI b, vI c] [] (SH L, σ) = _
  (have p0 := hC.pr.p0; have p1 := hC.pr.p1; have k0 := hC.pr.k0; have k1 := hC.pr.k1; have kq := hC.pr.q; have q0 : 0 ≤ σ 4 10 := (by omega); have q1 : σ 4 10 ≤ 16 := (by omega); have hN := hC.ni; have hR := hC.rd.g; have hD := hC.rd; have hT := hC.st)
  obtain ⟨g1, g2, g3, g4⟩ := g
  have la := hR.la
  (repeat' first | simp (disch := first | assumption | omega | ((repeat' first | exact ok_nil | apply ok_I | apply ok_R); done) | (simp (disch := first | omega | decide) only [ex_ar_same, ex_ar_diff, kM_diff, ex_u_same, ex_u_diff]; first | assumption | omega)) only [ev_85_0, ev_85_1, ev_85_2, ev_85_3, gf_35_0, gf_4_0, gf_5_0, gf_6_0, x_fall, x_push, x_ret1, xc_11, xc_132, xc_133, xc_137, xc_15, xl_a0, xl_i1, xl_i2, xl_i3, xl_i4, y_cmp_lt_f, y_cmp_lt_t, y_if_eq_f, y_if_eq_t, y_if_ne_f, y_if_ne_t, i_wr_id, kM_diff, Int.reduceToNat, ex_ar_same, ex_ar_ar, ex_ar_diff, ex_u_same, ex_u_diff, b2i_t, b2i_f, ex_div_nn, ex_rem_nn, Int.toNat_zero, Int.toNat_one, Int.reduceAdd, Int.reduceSub, Int.reduceMul, Int.reduceNeg, kC_ne, fC_ne] | refine bb_eq (fun _ => ?_) (fun _ => ?_) | refine bb_ne (fun _ => ?_) (fun _ => ?_) | refine bc_eq (fun _ => ?_) (fun _ => ?_) | refine bc_ne (fun _ => ?_) (fun _ => ?_) | refine bc_lt (fun _ => ?_) (fun _ => ?_) | refine bc_ge (fun _ => ?_) (fun _ => ?_) | refine bc_gt (fun _ => ?_) (fun _ => ?_) | refine bc_le (fun _ => ?_) (fun _ => ?_) | refine bi_eq (fun _ => ?_) (fun _ => ?_) | refine bi_ne (fun _ => ?_) (fun _ => ?_) | refine bi_lt (fun _ => ?_) (fun _ => ?_) | refine bi_ge (fun _ => ?_) (fun _ => ?_) | refine bi_gt (fun _ => ?_) (fun _ => ?_) | refine bi_le (fun _ => ?_) (fun _ => ?_))
theorem xc_85_f {rt d : Nat} {J : Nat → List ex_V → List ex_V → ex_H → Option ex_R} {is : List Instr} {ls st : List ex_V} {L : Nat} {σ : ex_S} {k a b c : Int} (hC : CI σ) (g : (0 ≤ k ∧ k ≤ 3) ∧ (1 ≤ a ∧ a ≤ 30) ∧ (1 ≤ b ∧ b ≤ 30) ∧ (1 ≤ c ∧ c ≤ 99)) (g5 : σ 433 0 = 5) (hd : 3 < d) (hok : okN 8 st = true) : ex_xs rt J (ex_cd d) (.invokevirtual 85 :: is) ls (vI c :: vI b :: vI a :: vI k :: vR 4 :: st) (SH L, σ) = ex_xs rt J (ex_cd d) is ls (vI (-100005) :: st) (SH L, fC σ) := x_call1 (Or.inl rfl) rfl (sh_4 _) (Or.inl ⟨rfl, rfl⟩) (as := [vI k, vI a, vI b, vI c]) rfl rfl (okN_ok hok) rfl (sp_85_f hd hC g g5)
theorem sp_85_g {d : Nat} (hd : 3 < d) {L : Nat} {σ : ex_S} {k a b c : Int} (g : ¬ ((0 ≤ k ∧ k ≤ 3) ∧ (1 ≤ a ∧ a ≤ 30) ∧ (1 ≤ b ∧ b ≤ 30) ∧ (1 ≤ c ∧ c ≤ 99))) : ex_cd d 85 [vR 4, vI k, vI a, vI b, vI c] (SH L, σ) = some ([vI (-100001)], (SH L, fC σ)) := by
  rw [ex_cd_eq (by omega)]
  show ex_ev (d - 1) 85 0 [vR 4, vI k, vI a, vI b, vI c] [] (SH L, σ) = _
  (repeat' first | simp (disch := first | assumption | omega | ((repeat' first | exact ok_nil | apply ok_I | apply ok_R); done) | (simp (disch := first | omega | decide) only [ex_ar_same, ex_ar_diff, kM_diff, ex_u_same, ex_u_diff]; first | assumption | omega)) only [ev_85_0, ev_85_1, ev_85_2, ev_85_3, gf_35_0, gf_4_0, gf_5_0, gf_6_0, x_fall, x_push, x_ret1, xc_11, xc_132, xc_133, xc_137, xc_15, xl_a0, xl_i1, xl_i2, xl_i3, xl_i4, y_cmp_lt_f, y_cmp_lt_t, y_if_eq_f, y_if_eq_t, y_if_ne_f, y_if_ne_t, i_wr_id, kM_diff, Int.reduceToNat, ex_ar_same, ex_ar_ar, ex_ar_diff, ex_u_same, ex_u_diff, b2i_t, b2i_f, ex_div_nn, ex_rem_nn, Int.toNat_zero, Int.toNat_one, Int.reduceAdd, Int.reduceSub, Int.reduceMul, Int.reduceNeg, kC_ne, fC_ne] | refine bb_eq (fun _ => ?_) (fun _ => ?_) | refine bb_ne (fun _ => ?_) (fun _ => ?_) | refine bc_eq (fun _ => ?_) (fun _ => ?_) | refine bc_ne (fun _ => ?_) (fun _ => ?_) | refine bc_lt (fun _ => ?_) (fun _ => ?_) | refine bc_ge (fun _ => ?_) (fun _ => ?_) | refine bc_gt (fun _ => ?_) (fun _ => ?_) | refine bc_le (fun _ => ?_) (fun _ => ?_) | refine bi_eq (fun _ => ?_) (fun _ => ?_) | refine bi_ne (fun _ => ?_) (fun _ => ?_) | refine bi_lt (fun _ => ?_) (fun _ => ?_) | refine bi_ge (fun _ => ?_) (fun _ => ?_) | refine bi_gt (fun _ => ?_) (fun _ => ?_) | refine bi_le (fun _ => ?_) (fun _ => ?_))
  all_goals exact absurd ⟨by assumption, by assumption, by assumption, by assumption⟩ g
theorem xc_85_g {rt d : Nat} {J : Nat → List ex_V → List ex_V → ex_H → Option ex_R} {is : List Instr} {ls st : List ex_V} {L : Nat} {σ : ex_S} {k a b c : Int} (g : ¬ ((0 ≤ k ∧ k ≤ 3) ∧ (1 ≤ a ∧ a ≤ 30) ∧ (1 ≤ b ∧ b ≤ 30) ∧ (1 ≤ c ∧ c ≤ 99))) (hd : 3 < d) (hok : okN 8 st = true) : ex_xs rt J (ex_cd d) (.invokevirtual 85 :: is) ls (vI c :: vI b :: vI a :: vI k :: vR 4 :: st) (SH L, σ) = ex_xs rt J (ex_cd d) is ls (vI (-100001) :: st) (SH L, fC σ) := x_call1 (Or.inl rfl) rfl (sh_4 _) (Or.inl ⟨rfl, rfl⟩) (as := [vI k, vI a, vI b, vI c]) rfl rfl (okN_ok hok) rfl (sp_85_g hd g)
theorem ck_85 {L d : Nat} {σ : ex_S} {k a b c : Int} (hC : CI σ) (hd : 20 < d) : CK 85 149 [vI k, vI a, vI b, vI c] σ L d := by
  (have p0 := hC.pr.p0; have p1 := hC.pr.p1; have k0 := hC.pr.k0; have k1 := hC.pr.k1; have kq := hC.pr.q; have q0 : 0 ≤ σ 4 10 := (by omega); have q1 : σ 4 10 ≤ 16 := (by omega); have hN := hC.ni; have hR := hC.rd.g; have hD := hC.rd; have hT := hC.st)
  by_cases g : (0 ≤ k ∧ k ≤ 3) ∧ (1 ≤ a ∧ a ≤ 30) ∧ (1 ≤ b ∧ b ≤ 30) ∧ (1 ≤ c ∧ c ≤ 99)
  · by_cases g5 : σ 433 0 = 5
    · have r := sp_149 (L := L) (d := d) (σ := fC σ) (k := k) (a := a) (b := b) (c := c) (by omega) (by rw [fC_ne _ (by decide)]; exact k0) (by rw [fC_ne _ (by decide)]; exact k1) (by rw [fC_ne _ (by decide)]; exact hN.a0) (by rw [fC_ne _ (by decide)]; exact hN.b0)
      unfold laneM at r
      rw [if_pos g, fC_ne σ (show 433 ≠ 4 by decide), if_pos g5] at r
      exact ck_fnd hC (sp_85_f (by omega) hC g g5) r
    · have e : ∀ x, 28 ≤ x → x < 64 ∨ 432 ≤ x → alC (kC σ) (σ 433 0) k a b c x = σ x := fun x h1 h2 => by rw [alC_ne (by omega), kC5 hC _ (by omega) h2]
      have r := sp_149 (L := L) (d := d) (σ := alC (kC σ) (σ 433 0) k a b c) (k := k) (a := a) (b := b) (c := c) (by omega) (by rw [e _ (by omega) (by omega)]; exact k0) (by rw [e _ (by omega) (by omega)]; exact k1) (by rw [e _ (by omega) (by omega)]; exact hN.a0) (by rw [e _ (by omega) (by omega)]; exact hN.b0)
      unfold laneM at r
      rw [if_pos g, e 433 (by omega) (by omega), if_neg g5] at r
      refine ck_act hC (sp_85_a (by omega) hC g g5) (fun x hx => alC_ne (by omega)) r rfl (RD5_g (RD5_kC hC) hN (fun i hi => ?_) (RG_lane (RD5_kC hC).g hN g5 g) (fun x hx => alC_ne (by omega))) (NI_lane hN g5 g).1
      have a0 := hN.a0
      have b0 := hN.b0
      rw [laneF_at _ _ _ _ _ _ a0 (by omega), if_neg (by omega), if_neg (by omega), if_neg (by omega), if_neg (by omega), if_neg (by omega)]
  · have r := sp_149 (L := L) (d := d) (σ := fC σ) (k := k) (a := a) (b := b) (c := c) (by omega) (by rw [fC_ne _ (by decide)]; exact k0) (by rw [fC_ne _ (by decide)]; exact k1) (by rw [fC_ne _ (by decide)]; exact hN.a0) (by rw [fC_ne _ (by decide)]; exact hN.b0)
    unfold laneM at r
    rw [if_neg g] at r
    exact ck_fnd hC (sp_85_g (by omega) g) r
/-! a car is told -/
def acC (σ : ex_S) (z a b c h e w : Int) : ex_S := ex_ar (ex_ar (ex_ar σ 16 (ex_u (ex_u (ex_u (ex_u (ex_u (ex_u (σ 16) (z * 6 + 0) a) (z * 6 + 1) b) (z * 6 + 2) c) (z * 6 + 3) h) (z * 6 + 4) e) (z * 6 + 5) w)) 17 (ex_u (σ 17) z (-1))) 6 (ex_u (σ 6) 1 (z + 1))
theorem acC_ne {σ : ex_S} {z a b c h e w : Int} {x : Nat} (hx : x ≠ 6 ∧ x ≠ 16 ∧ x ≠ 17) : acC σ z a b c h e w x = σ x := by unfold acC; simp (disch := omega) only [ex_ar_diff]
theorem acC_6 {σ : ex_S} {z a b c h e w : Int} : acC σ z a b c h e w 6 = ex_u (σ 6) 1 (z + 1) := by unfold acC; rw [ex_ar_same]
theorem acC_17 {σ : ex_S} {z a b c h e w : Int} : acC σ z a b c h e w 17 = ex_u (σ 17) z (-1) := by unfold acC; simp (disch := decide) only [ex_ar_diff, ex_ar_same]
theorem acC_16 {σ : ex_S} {z a b c h e w : Int} : acC σ z a b c h e w 16 = ex_u (ex_u (ex_u (ex_u (ex_u (ex_u (σ 16) (z * 6 + 0) a) (z * 6 + 1) b) (z * 6 + 2) c) (z * 6 + 3) h) (z * 6 + 4) e) (z * 6 + 5) w := by unfold acC; simp (disch := decide) only [ex_ar_diff, ex_ar_same]
theorem sp_16 {d : Nat} (hd : 0 < d) {L : Nat} {σ : ex_S} {z a b c h e w : Int} (hz : σ 6 1 = z) (z0 : 0 ≤ z) (z1 : z < 8) : ex_cd d 16 [vR 6, vI a, vI b, vI c, vI h, vI e, vI w] (SH L, σ) = some ([vI z], (SH L, acC σ z a b c h e w)) := by
  rw [ex_cd_eq (by omega)]
  show ex_ev (d - 1) 16 0 [vR 6, vI a, vI b, vI c, vI h, vI e, vI w, vL 0, vL 0] [] (SH L, σ) = _
  unfold acC
  simp (disch := first | assumption | omega | ((repeat' first | exact ok_nil | apply ok_I | apply ok_R); done) | (simp (disch := first | omega | decide) only [ex_ar_same, ex_ar_diff, kM_diff, ex_u_same, ex_u_diff]; first | assumption | omega)) only [ev_16_0, gf_35_1, gf_35_11, gf_35_12, gf_6_1, gf_6_11, gf_6_12, hz, pf_35_1, pf_6_1, sd_16, sd_17, sd_45, sd_46, x_dupI, x_dupR, x_imul, x_push, x_ret1, xl_a0, xl_i1, xl_i2, xl_i3, xl_i4, xl_i5, xl_i6, xl_i7, xl_i8, xt_i7, xt_i8, y_iadd, i_wr_id, kM_diff, Int.reduceToNat, ex_ar_same, ex_ar_ar, ex_ar_diff, ex_u_same, ex_u_diff, b2i_t, b2i_f, ex_div_nn, ex_rem_nn, Int.toNat_zero, Int.toNat_one, Int.reduceAdd, Int.reduceSub, Int.reduceMul, Int.reduceNeg, kC_ne, fC_ne]
theorem xc_16 {rt d : Nat} {J : Nat → List ex_V → List ex_V → ex_H → Option ex_R} {is : List Instr} {ls st : List ex_V} {L : Nat} {σ : ex_S} {z a b c h e w : Int} (hz : σ 6 1 = z) (z0 : 0 ≤ z) (z1 : z < 8) (hd : 0 < d) (hok : okN 8 st = true) : ex_xs rt J (ex_cd d) (.invokevirtual 16 :: is) ls (vI w :: vI e :: vI h :: vI c :: vI b :: vI a :: vR 6 :: st) (SH L, σ) = ex_xs rt J (ex_cd d) is ls (vI z :: st) (SH L, acC σ z a b c h e w) := x_call1 (Or.inl rfl) rfl (sh_6 _) (Or.inl ⟨rfl, rfl⟩) (as := [vI a, vI b, vI c, vI h, vI e, vI w]) rfl rfl (okN_ok hok) rfl (sp_16 hd hz z0 z1)
theorem RG_car {σ : ex_S} {n : Int → Int} (hR : RG6 σ n) (hN : NI n) {a b c h e w : Int} (h8 : n 1 ≠ 8) : RG6 (acC σ (n 1) a b c h e w) (carF n a b c h e w) := by
  have b0 := hN.b0
  have a1 := hN.a1
  have b1 := hN.b1
  have A := fun i => carF_at n a b c h e w i a1 (by omega)
  have e1 : carF n a b c h e w 1 = n 1 + 1 := by rw [A, if_pos rfl]
  have eo : ∀ i : Int, i ≠ 1 → i < 91 → carF n a b c h e w i = n i := fun i hi h2 => by rw [A, if_neg (by omega), if_neg (by omega), if_neg (by omega), if_neg (by omega), if_neg (by omega), if_neg (by omega), if_neg (by omega)]
  have hs : ∀ c', standN (carF n a b c h e w) c' = standN n c' := stand_congr hN.b0 hN.oM (fun k hk => eo k (by omega) (by omega))
  have hno : standN n (n 1) < 0 := by
    rcases stand_lo n (n 1) hN.b0 hN.oM with q | ⟨q1, q2, q3, q4, q5⟩
    · omega
    · have := hN.po (standN n (n 1) / 8) (standN n (n 1) % 8) (by omega) (by omega) (by omega) q4
      rw [show 51 + 8 * (standN n (n 1) / 8) + standN n (n 1) % 8 = 51 + standN n (n 1) by omega, q5] at this
      omega
  refine RG6.mk ?_ ?_ ?_ ?_ ?_ ?_ ?_ ?_ ?_ ?_ ?_ ?_ ?_ ?_
  · rw [acC_6, eo _ (by decide) (by decide), ex_u_diff _ _ (by decide)]; exact hR.la
  · rw [acC_6, e1, ex_u_same]
  all_goals try rw [eo 0 (by decide) (by decide)]
  all_goals try rw [e1]
  · intro x x1 x2; rw [acC_ne (by omega), eo _ (by omega) (by omega)]; exact hR.kd x x1 x2
  · intro x x1 x2; rw [acC_ne (by omega), eo _ (by omega) (by omega)]; exact hR.le x x1 x2
  · intro x x1 x2; rw [acC_ne (by omega), eo _ (by omega) (by omega)]; exact hR.ht x x1 x2
  · intro x x1 x2; rw [acC_ne (by omega), eo _ (by omega) (by omega), eo _ (by omega) (by omega)]; exact hR.lo x x1 x2
  · intro x x1 x2; rw [acC_ne (by omega)]; exact hR.ld x x1 x2
  · intro x x1 x2; rw [acC_ne (by omega), eo _ (by omega) (by omega)]; exact hR.mi x x1 x2
  · intro x x1 x2; rw [acC_ne (by omega), eo _ (by omega) (by omega)]; exact hR.cy x x1 x2
  · intro x x1 x2; rw [acC_ne (by omega), eo _ (by omega) (by omega)]; exact hR.bk x x1 x2
  · intro x x1 x2; rw [acC_ne (by omega), eo _ (by omega) (by omega)]; exact hR.st x x1 x2
  · intro x i x1 x2 i1 i2
    rw [eo _ (by omega) (by omega)] at i2
    have := hN.oM x x1 (by omega)
    rw [acC_ne (by omega), eo _ (by omega) (by omega)]; exact hR.pl x i x1 x2 i1 i2
  · intro x f x1 x2 i1 i2
    rw [acC_16, A, if_neg (by omega)]
    by_cases z : x = n 1
    · subst z
      rcases (show f = 0 ∨ f = 1 ∨ f = 2 ∨ f = 3 ∨ f = 4 ∨ f = 5 by omega) with rfl | rfl | rfl | rfl | rfl | rfl
      all_goals simp (disch := omega) only [ex_u_diff, ex_u_same, if_neg, if_pos]
    · have hc : x < n 1 := by omega
      rw [ex_u_diff _ _ (by omega), ex_u_diff _ _ (by omega), ex_u_diff _ _ (by omega), ex_u_diff _ _ (by omega), ex_u_diff _ _ (by omega), ex_u_diff _ _ (by omega), if_neg (by omega), if_neg (by omega), if_neg (by omega), if_neg (by omega), if_neg (by omega), if_neg (by omega)]
      exact hR.fa x f x1 hc i1 i2
  · intro x x1 x2
    rw [acC_17, hs]
    by_cases z : x = n 1
    · subst z; rw [ex_u_same, if_pos hno]
    · rw [ex_u_diff _ _ z]; exact hR.wh x x1 (by omega)
theorem sp_89_a {d : Nat} (hd : 3 < d) {L : Nat} {σ : ex_S} {a b c h e w : Int} (hC : CI σ) (g : (1 ≤ a ∧ a ≤ 9) ∧ (1 ≤ b ∧ b ≤ 30) ∧ (1 ≤ c ∧ c ≤ 99) ∧ (0 ≤ h ∧ h ≤ 23) ∧ (0 ≤ e ∧ e ≤ 9) ∧ (0 ≤ w ∧ w ≤ 99)) (g5 : σ 433 1 ≠ 8) : ex_cd d 89 [vR 4, vI a, vI b, vI c, vI h, vI e, vI w] (SH L, σ) = some ([vI (σ 433 1)], (SH L, acC (kC σ) (σ 433 1) a b c h e w)) := by
  rw [ex_cd_eq (by omega)]
  show ex_ev (d - 1) 89 0 [vR 4, vI a, vI b, vI c, vI h, vI e, vI w] [] (SH L, σ) = _
  (have p0 := hC.pr.p0; have p1 := hC.pr.p1; have k0 := hC.pr.k0; have k1 := hC.pr.k1; have kq := hC.pr.q; have q0 : 0 ≤ σ 4 10 := (by omega); have q1 : σ 4 10 ≤ 16 := (by omega); have hN := hC.ni; have hR := hC.rd.g; have hD := hC.rd; have hT := hC.st)
  obtain ⟨g1, g2, g3, g4, g6, g7⟩ := g
  have a0 := hN.a1
  have b0 := hN.b1
  have la := hR.ca
  have hz : kC σ 6 1 = σ 433 1 := by rw [kC5 hC 6 (by omega) (by omega)]; exact la
  (repeat' first | simp (disch := first | assumption | omega | ((repeat' first | exact ok_nil | apply ok_I | apply ok_R); done) | (simp (disch := first | omega | decide) only [ex_ar_same, ex_ar_diff, kM_diff, ex_u_same, ex_u_diff]; first | assumption | omega)) only [ev_89_0, ev_89_1, ev_89_2, ev_89_3, gf_35_1, gf_4_0, gf_5_0, gf_6_1, x_fall, x_push, x_ret1, xc_12_0, xc_12_1, xc_12_2, xc_12_3, xc_12_4, xc_12_5, xc_132, xc_133, xc_16, xl_a0, xl_i1, xl_i2, xl_i3, xl_i4, xl_i5, xl_i6, y_cmp_lt_f, y_cmp_lt_t, y_if_eq_f, y_if_eq_t, y_if_ne_f, y_if_ne_t, i_wr_id, kM_diff, Int.reduceToNat, ex_ar_same, ex_ar_ar, ex_ar_diff, ex_u_same, ex_u_diff, b2i_t, b2i_f, ex_div_nn, ex_rem_nn, Int.toNat_zero, Int.toNat_one, Int.reduceAdd, Int.reduceSub, Int.reduceMul, Int.reduceNeg, kC_ne, fC_ne] | refine bb_eq (fun _ => ?_) (fun _ => ?_) | refine bb_ne (fun _ => ?_) (fun _ => ?_) | refine bc_eq (fun _ => ?_) (fun _ => ?_) | refine bc_ne (fun _ => ?_) (fun _ => ?_) | refine bc_lt (fun _ => ?_) (fun _ => ?_) | refine bc_ge (fun _ => ?_) (fun _ => ?_) | refine bc_gt (fun _ => ?_) (fun _ => ?_) | refine bc_le (fun _ => ?_) (fun _ => ?_) | refine bi_eq (fun _ => ?_) (fun _ => ?_) | refine bi_ne (fun _ => ?_) (fun _ => ?_) | refine bi_lt (fun _ => ?_) (fun _ => ?_) | refine bi_ge (fun _ => ?_) (fun _ => ?_) | refine bi_gt (fun _ => ?_) (fun _ => ?_) | refine bi_le (fun _ => ?_) (fun _ => ?_))
theorem xc_89_a {rt d : Nat} {J : Nat → List ex_V → List ex_V → ex_H → Option ex_R} {is : List Instr} {ls st : List ex_V} {L : Nat} {σ : ex_S} {a b c h e w : Int} (hC : CI σ) (g : (1 ≤ a ∧ a ≤ 9) ∧ (1 ≤ b ∧ b ≤ 30) ∧ (1 ≤ c ∧ c ≤ 99) ∧ (0 ≤ h ∧ h ≤ 23) ∧ (0 ≤ e ∧ e ≤ 9) ∧ (0 ≤ w ∧ w ≤ 99)) (g5 : σ 433 1 ≠ 8) (hd : 3 < d) (hok : okN 8 st = true) : ex_xs rt J (ex_cd d) (.invokevirtual 89 :: is) ls (vI w :: vI e :: vI h :: vI c :: vI b :: vI a :: vR 4 :: st) (SH L, σ) = ex_xs rt J (ex_cd d) is ls (vI (σ 433 1) :: st) (SH L, acC (kC σ) (σ 433 1) a b c h e w) := x_call1 (Or.inl rfl) rfl (sh_4 _) (Or.inl ⟨rfl, rfl⟩) (as := [vI a, vI b, vI c, vI h, vI e, vI w]) rfl rfl (okN_ok hok) rfl (sp_89_a hd hC g g5)
theorem sp_89_f {d : Nat} (hd : 3 < d) {L : Nat} {σ : ex_S} {a b c h e w : Int} (hC : CI σ) (g : (1 ≤ a ∧ a ≤ 9) ∧ (1 ≤ b ∧ b ≤ 30) ∧ (1 ≤ c ∧ c ≤ 99) ∧ (0 ≤ h ∧ h ≤ 23) ∧ (0 ≤ e ∧ e ≤ 9) ∧ (0 ≤ w ∧ w ≤ 99)) (g5 : σ 433 1 = 8) : ex_cd d 89 [vR 4, vI a, vI b, vI c, vI h, vI e, vI w] (SH L, σ) = some ([vI (-100005)], (SH L, fC σ)) := by
  rw [ex_cd_eq (by omega)]
  show ex_ev (d - 1) 89 0 [vR 4, vI a, vI b, vI c, vI h, vI e, vI w] [] (SH L, σ) = _
  (have p0 := hC.pr.p0; have p1 := hC.pr.p1; have k0 := hC.pr.k0; have k1 := hC.pr.k1; have kq := hC.pr.q; have q0 : 0 ≤ σ 4 10 := (by omega); have q1 : σ 4 10 ≤ 16 := (by omega); have hN := hC.ni; have hR := hC.rd.g; have hD := hC.rd; have hT := hC.st)
  obtain ⟨g1, g2, g3, g4, g6, g7⟩ := g
  have la := hR.ca
  (repeat' first | simp (disch := first | assumption | omega | ((repeat' first | exact ok_nil | apply ok_I | apply ok_R); done) | (simp (disch := first | omega | decide) only [ex_ar_same, ex_ar_diff, kM_diff, ex_u_same, ex_u_diff]; first | assumption | omega)) only [ev_89_0, ev_89_1, ev_89_2, ev_89_3, gf_35_1, gf_4_0, gf_5_0, gf_6_1, x_fall, x_push, x_ret1, xc_12_0, xc_12_1, xc_12_2, xc_12_3, xc_12_4, xc_12_5, xc_132, xc_133, xc_16, xl_a0, xl_i1, xl_i2, xl_i3, xl_i4, xl_i5, xl_i6, y_cmp_lt_f, y_cmp_lt_t, y_if_eq_f, y_if_eq_t, y_if_ne_f, y_if_ne_t, i_wr_id, kM_diff, Int.reduceToNat, ex_ar_same, ex_ar_ar, ex_ar_diff, ex_u_same, ex_u_diff, b2i_t, b2i_f, ex_div_nn, ex_rem_nn, Int.toNat_zero, Int.toNat_one, Int.reduceAdd, Int.reduceSub, Int.reduceMul, Int.reduceNeg, kC_ne, fC_ne] | refine bb_eq (fun _ => ?_) (fun _ => ?_) | refine bb_ne (fun _ => ?_) (fun _ => ?_) | refine bc_eq (fun _ => ?_) (fun _ => ?_) | refine bc_ne (fun _ => ?_) (fun _ => ?_) | refine bc_lt (fun _ => ?_) (fun _ => ?_) | refine bc_ge (fun _ => ?_) (fun _ => ?_) | refine bc_gt (fun _ => ?_) (fun _ => ?_) | refine bc_le (fun _ => ?_) (fun _ => ?_) | refine bi_eq (fun _ => ?_) (fun _ => ?_) | refine bi_ne (fun _ => ?_) (fun _ => ?_) | refine bi_lt (fun _ => ?_) (fun _ => ?_) | refine bi_ge (fun _ => ?_) (fun _ => ?_) | refine bi_gt (fun _ => ?_) (fun _ => ?_) | refine bi_le (fun _ => ?_) (fun _ => ?_))
theorem xc_89_f {rt d : Nat} {J : Nat → List ex_V → List ex_V → ex_H → Option ex_R} {is : List Instr} {ls st : List ex_V} {L : Nat} {σ : ex_S} {a b c h e w : Int} (hC : CI σ) (g : (1 ≤ a ∧ a ≤ 9) ∧ (1 ≤ b ∧ b ≤ 30) ∧ (1 ≤ c ∧ c ≤ 99) ∧ (0 ≤ h ∧ h ≤ 23) ∧ (0 ≤ e ∧ e ≤ 9) ∧ (0 ≤ w ∧ w ≤ 99)) (g5 : σ 433 1 = 8) (hd : 3 < d) (hok : okN 8 st = true) : ex_xs rt J (ex_cd d) (.invokevirtual 89 :: is) ls (vI w :: vI e :: vI h :: vI c :: vI b :: vI a :: vR 4 :: st) (SH L, σ) = ex_xs rt J (ex_cd d) is ls (vI (-100005) :: st) (SH L, fC σ) := x_call1 (Or.inl rfl) rfl (sh_4 _) (Or.inl ⟨rfl, rfl⟩) (as := [vI a, vI b, vI c, vI h, vI e, vI w]) rfl rfl (okN_ok hok) rfl (sp_89_f hd hC g g5)
theorem sp_89_g {d : Nat} (hd : 3 < d) {L : Nat} {σ : ex_S} {a b c h e w : Int} (hT : ST σ) (g : ¬ ((1 ≤ a ∧ a ≤ 9) ∧ (1 ≤ b ∧ b ≤ 30) ∧ (1 ≤ c ∧ c ≤ 99) ∧ (0 ≤ h ∧ h ≤ 23) ∧ (0 ≤ e ∧ e ≤ 9) ∧ (0 ≤ w ∧ w ≤ 99))) : ex_cd d 89 [vR 4, vI a, vI b, vI c, vI h, vI e, vI w] (SH L, σ) = some ([vI (-100001)], (SH L, fC σ)) := by
  rw [ex_cd_eq (by omega)]
  show ex_ev (d - 1) 89 0 [vR 4, vI a, vI b, vI c, vI h, vI e, vI w] [] (SH L, σ) = _
  (repeat' first | simp (disch := first | assumption | omega | ((repeat' first | exact ok_nil | apply ok_I | apply ok_R); done) | (simp (disch := first | omega | decide) only [ex_ar_same, ex_ar_diff, kM_diff, ex_u_same, ex_u_diff]; first | assumption | omega)) only [ev_89_0, ev_89_1, ev_89_2, ev_89_3, gf_35_1, gf_4_0, gf_5_0, gf_6_1, x_fall, x_push, x_ret1, xc_12_0, xc_12_1, xc_12_2, xc_12_3, xc_12_4, xc_12_5, xc_132, xc_133, xc_16, xl_a0, xl_i1, xl_i2, xl_i3, xl_i4, xl_i5, xl_i6, y_cmp_lt_f, y_cmp_lt_t, y_if_eq_f, y_if_eq_t, y_if_ne_f, y_if_ne_t, i_wr_id, kM_diff, Int.reduceToNat, ex_ar_same, ex_ar_ar, ex_ar_diff, ex_u_same, ex_u_diff, b2i_t, b2i_f, ex_div_nn, ex_rem_nn, Int.toNat_zero, Int.toNat_one, Int.reduceAdd, Int.reduceSub, Int.reduceMul, Int.reduceNeg, kC_ne, fC_ne] | refine bb_eq (fun _ => ?_) (fun _ => ?_) | refine bb_ne (fun _ => ?_) (fun _ => ?_) | refine bc_eq (fun _ => ?_) (fun _ => ?_) | refine bc_ne (fun _ => ?_) (fun _ => ?_) | refine bc_lt (fun _ => ?_) (fun _ => ?_) | refine bc_ge (fun _ => ?_) (fun _ => ?_) | refine bc_gt (fun _ => ?_) (fun _ => ?_) | refine bc_le (fun _ => ?_) (fun _ => ?_) | refine bi_eq (fun _ => ?_) (fun _ => ?_) | refine bi_ne (fun _ => ?_) (fun _ => ?_) | refine bi_lt (fun _ => ?_) (fun _ => ?_) | refine bi_ge (fun _ => ?_) (fun _ => ?_) | refine bi_gt (fun _ => ?_) (fun _ => ?_) | refine bi_le (fun _ => ?_) (fun _ => ?_))
  all_goals exact absurd ⟨by assumption, by assumption, by assumption, by assumption, by assumption, by assumption⟩ g
theorem xc_89_g {rt d : Nat} {J : Nat → List ex_V → List ex_V → ex_H → Option ex_R} {is : List Instr} {ls st : List ex_V} {L : Nat} {σ : ex_S} {a b c h e w : Int} (hT : ST σ) (g : ¬ ((1 ≤ a ∧ a ≤ 9) ∧ (1 ≤ b ∧ b ≤ 30) ∧ (1 ≤ c ∧ c ≤ 99) ∧ (0 ≤ h ∧ h ≤ 23) ∧ (0 ≤ e ∧ e ≤ 9) ∧ (0 ≤ w ∧ w ≤ 99))) (hd : 3 < d) (hok : okN 8 st = true) : ex_xs rt J (ex_cd d) (.invokevirtual 89 :: is) ls (vI w :: vI e :: vI h :: vI c :: vI b :: vI a :: vR 4 :: st) (SH L, σ) = ex_xs rt J (ex_cd d) is ls (vI (-100001) :: st) (SH L, fC σ) := x_call1 (Or.inl rfl) rfl (sh_4 _) (Or.inl ⟨rfl, rfl⟩) (as := [vI a, vI b, vI c, vI h, vI e, vI w]) rfl rfl (okN_ok hok) rfl (sp_89_g hd hT g)
theorem ck_89 {L d : Nat} {σ : ex_S} {a b c h e w : Int} (hC : CI σ) (hd : 20 < d) : CK 89 156 [vI a, vI b, vI c, vI h, vI e, vI w] σ L d := by
  (have p0 := hC.pr.p0; have p1 := hC.pr.p1; have k0 := hC.pr.k0; have k1 := hC.pr.k1; have kq := hC.pr.q; have q0 : 0 ≤ σ 4 10 := (by omega); have q1 : σ 4 10 ≤ 16 := (by omega); have hN := hC.ni; have hR := hC.rd.g; have hD := hC.rd; have hT := hC.st)
  have f1 : 0 ≤ fC σ 432 2 := by rw [fC_ne _ (by decide)]; exact k0
  have f2 : fC σ 432 2 ≤ 16 := by rw [fC_ne _ (by decide)]; exact k1
  have f3 : 0 ≤ fC σ 433 1 := by rw [fC_ne _ (by decide)]; exact hN.a1
  have f4 : fC σ 433 1 ≤ 8 := by rw [fC_ne _ (by decide)]; exact hN.b1
  by_cases g : (1 ≤ a ∧ a ≤ 9) ∧ (1 ≤ b ∧ b ≤ 30) ∧ (1 ≤ c ∧ c ≤ 99) ∧ (0 ≤ h ∧ h ≤ 23) ∧ (0 ≤ e ∧ e ≤ 9) ∧ (0 ≤ w ∧ w ≤ 99)
  · by_cases g5 : σ 433 1 = 8
    · have r := sp_156 (L := L) (d := d) (σ := fC σ) (a := a) (b := b) (c := c) (h := h) (e := e) (w := w) (by omega) f1 f2 f3 f4
      unfold carM at r
      rw [if_pos g, fC_ne σ (show 433 ≠ 4 by decide), if_pos g5] at r
      exact ck_fnd hC (sp_89_f (by omega) hC g g5) r
    · have q : ∀ x, 28 ≤ x → x < 64 ∨ 432 ≤ x → acC (kC σ) (σ 433 1) a b c h e w x = σ x := fun x h1 h2 => by rw [acC_ne (by omega), kC5 hC _ (by omega) h2]
      have r := sp_156 (L := L) (d := d) (σ := acC (kC σ) (σ 433 1) a b c h e w) (a := a) (b := b) (c := c) (h := h) (e := e) (w := w) (by omega) (by rw [q _ (by omega) (by omega)]; exact k0) (by rw [q _ (by omega) (by omega)]; exact k1) (by rw [q _ (by omega) (by omega)]; exact hN.a1) (by rw [q _ (by omega) (by omega)]; exact hN.b1)
      unfold carM at r
      rw [if_pos g, q 433 (by omega) (by omega), if_neg g5] at r
      refine ck_act hC (sp_89_a (by omega) hC g g5) (fun x hx => acC_ne (by omega)) r rfl (RD5_g (RD5_kC hC) hN (fun i hi => ?_) (RG_car (RD5_kC hC).g hN g5) (fun x hx => acC_ne (by omega))) (NI_car hN g5 g)
      have a0 := hN.a1
      have b0 := hN.b1
      rw [carF_at _ _ _ _ _ _ _ _ a0 (by omega), if_neg (by omega), if_neg (by omega), if_neg (by omega), if_neg (by omega), if_neg (by omega), if_neg (by omega), if_neg (by omega)]
  · have r := sp_156 (L := L) (d := d) (σ := fC σ) (a := a) (b := b) (c := c) (h := h) (e := e) (w := w) (by omega) f1 f2 f3 f4
    unfold carM at r
    rw [if_neg g] at r
    exact ck_fnd hC (sp_89_g (by omega) hT g) r
