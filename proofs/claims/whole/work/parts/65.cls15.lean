/-! the class: sheets, texts -/
theorem put_8 (v : Int) : 0 ≤ ex_and v 255 ∧ ex_and v 255 < 256 ∧ ex_shr (ex_shl v 24) 24 = if ex_and v 255 < 128 then ex_and v 255 else ex_and v 255 - 256 := by
  generalize hX : (Int32.ofInt v).toBitVec = x
  have a24 : ((Int32.ofInt 24 &&& 31).toBitVec.smod 32).toNat = 24 := ex_amt ⟨24, by decide⟩
  have e1 : ex_and v 255 = ((x.toNat % 256 : Nat) : Int) := by
    unfold ex_and
    rw [← Int32.toInt_toBitVec, Int32.toBitVec_and, hX]
    have e : (x &&& (Int32.ofInt 255).toBitVec).toNat = x.toNat % 256 := by
      rw [BitVec.toNat_and]
      exact Nat.and_two_pow_sub_one_eq_mod x.toNat 8
    rw [bv_int (by rw [e]; omega), e]
  have e2 : ex_shr (ex_shl v 24) 24 = (((x.toNat * 16777216 : Nat) : Int).bmod 4294967296) / 16777216 := by
    unfold ex_shr ex_shl
    rw [Int32.ofInt_toInt]
    show (BitVec.sshiftRight' ((Int32.ofInt v).toBitVec <<< ((Int32.ofInt 24 &&& 31).toBitVec.smod 32)) ((Int32.ofInt 24 &&& 31).toBitVec.smod 32)).toInt = _
    rw [BitVec.toInt_sshiftRight', a24, hX, BitVec.shiftLeft_eq', a24, BitVec.toInt_shiftLeft, Int.shiftRight_eq_div_pow, Nat.shiftLeft_eq]
    rfl
  rw [e2, e1, Int.bmod_def]
  generalize x.toNat = k
  omega
theorem put_16 (v : Int) : 0 ≤ ex_and v 65535 ∧ ex_and v 65535 < 65536 ∧ ex_shr (ex_shl v 16) 16 = if ex_and v 65535 < 32768 then ex_and v 65535 else ex_and v 65535 - 65536 := by
  generalize hX : (Int32.ofInt v).toBitVec = x
  have a16 : ((Int32.ofInt 16 &&& 31).toBitVec.smod 32).toNat = 16 := ex_amt ⟨16, by decide⟩
  have e1 : ex_and v 65535 = ((x.toNat % 65536 : Nat) : Int) := by
    unfold ex_and
    rw [← Int32.toInt_toBitVec, Int32.toBitVec_and, hX]
    have e : (x &&& (Int32.ofInt 65535).toBitVec).toNat = x.toNat % 65536 := by
      rw [BitVec.toNat_and]
      exact Nat.and_two_pow_sub_one_eq_mod x.toNat 16
    rw [bv_int (by rw [e]; omega), e]
  have e2 : ex_shr (ex_shl v 16) 16 = (((x.toNat * 65536 : Nat) : Int).bmod 4294967296) / 65536 := by
    unfold ex_shr ex_shl
    rw [Int32.ofInt_toInt]
    show (BitVec.sshiftRight' ((Int32.ofInt v).toBitVec <<< ((Int32.ofInt 16 &&& 31).toBitVec.smod 32)) ((Int32.ofInt 16 &&& 31).toBitVec.smod 32)).toInt = _
    rw [BitVec.toInt_sshiftRight', a16, hX, BitVec.shiftLeft_eq', a16, BitVec.toInt_shiftLeft, Int.shiftRight_eq_div_pow, Nat.shiftLeft_eq]
    rfl
  rw [e2, e1, Int.bmod_def]
  generalize x.toNat = k
  omega
theorem put_32 {v : Int} (h0 : -2147483648 ≤ v) (h1 : v ≤ 2147483647) : ex_shr (ex_shl v 0) 0 = v := by
  have a0 : ((Int32.ofInt 0 &&& 31).toBitVec.smod 32).toNat = 0 := ex_amt ⟨0, by decide⟩
  unfold ex_shr ex_shl
  rw [Int32.ofInt_toInt]
  show (BitVec.sshiftRight' ((Int32.ofInt v).toBitVec <<< ((Int32.ofInt 0 &&& 31).toBitVec.smod 32)) ((Int32.ofInt 0 &&& 31).toBitVec.smod 32)).toInt = _
  rw [BitVec.toInt_sshiftRight', a0, BitVec.shiftLeft_eq', a0, BitVec.shiftLeft_zero, Int.shiftRight_zero]
  exact i_to ⟨h0, h1⟩
def puC (b v : Int) : Int := if b = 32 then v else ex_and v (ex_wr (ex_shl 1 b - 1))
theorem pu_NR {b v : Int} (hb : b = 0 ∨ b = 8 ∨ b = 16 ∨ b = 32) (h0 : -2147483648 ≤ v) (h1 : v ≤ 2147483647) : NR b (puC b v) (putV b v) := by
  unfold NR puC putV
  refine ⟨fun e => ?_, fun e => ?_, fun e => ?_⟩
  · subst e; rw [if_pos rfl]; exact (put_32 h0 h1).symm
  · subst e; rw [if_neg (by decide)]; exact put_8 v
  · subst e; rw [if_neg (by decide)]; exact put_16 v
theorem pu_rg (b v : Int) : -2147483648 ≤ putV b v ∧ putV b v ≤ 2147483647 := i_wr _
theorem ci_sheet {σ τ : ex_S} (h : CI σ) (e : ∀ a, a ≠ 30 → a ≠ 31 → a ≠ 32 → a ≠ 435 → a ≠ 436 → a ≠ 437 → a ≠ 448 → τ a = σ a) (si : SI (τ 435) (τ 436)) (sb : ∀ s : Int, 0 ≤ s → s ≤ 3 → τ 30 s = τ 435 s) (sz : ∀ s : Int, 0 ≤ s → s ≤ 3 → τ 31 s = τ 436 s) (nu : ∀ s i : Int, 0 ≤ s → s ≤ 3 → 0 ≤ i → i < 20 → NR (τ 435 s) (τ 32 (s * 20 + i)) (τ 437 (20 * s + i))) (rg : ∀ k : Int, 0 ≤ k → k < 80 → -2147483648 ≤ τ 437 k ∧ τ 437 k ≤ 2147483647) : CI τ := by
  have e' : ∀ a, a < 30 ∨ (32 < a ∧ a < 435) ∨ a = 447 → τ a = σ a := fun a ha => e a (by omega) (by omega) (by omega) (by omega) (by omega) (by omega) (by omega)
  refine CI.mk (ST_fr h.st (e' _ (by omega)) (e' _ (by omega)) (e' _ (by omega))) ?_ ?_ ?_ ?_ si sb sz nu rg ?_
  · rw [e' 433 (by omega)]; exact h.ni
  · rw [e' 433 (by omega)]; exact RD_fr (B := 5) h.rd h.ni (fun _ _ _ => rfl) (fun a a1 a2 => e' a (by omega))
  · exact PR_fr h.pr (by rw [e' 4 (by omega)]) (by rw [e' 4 (by omega)]) (by rw [e' 432 (by omega)]) (e' _ (by omega)) (fun a a1 a2 => e' a (by omega))
  · rw [e' 4 (by omega), e' 432 (by omega)]; exact h.fn
  · rw [e' 447 (by omega)]; exact h.tk
theorem sp_71 {d : Nat} (hd : 0 < d) {L : Nat} {σ : ex_S} {s : Int} : ex_cd d 71 [vR 29, vI s] (SH L, σ) = some ([vI (b2i (0 ≤ s ∧ s ≤ 3))], (SH L, σ)) := by
  rw [ex_cd_eq (by omega)]
  show ex_ev (d - 1) 71 0 [vR 29, vI s] [] (SH L, σ) = _
  (repeat' first | simp (disch := first | assumption | omega | ((repeat' first | exact ok_nil | apply ok_I | apply ok_R); done) | (simp (disch := first | omega | decide) only [ex_ar_same, ex_ar_diff, kM_diff, ex_u_same, ex_u_diff]; first | assumption | omega)) only [ev_71_0, ev_71_1, ev_71_2, x_fall, x_goto, x_push, x_ret2, x_ret2b, xl_i1, y_cmp_ge_f, y_cmp_ge_t, y_if_lt_f, y_if_lt_t, i_wr_id, kM_diff, Int.reduceToNat, ex_ar_same, ex_ar_ar, ex_ar_diff, ex_u_same, ex_u_diff, b2i_t, b2i_f, ex_div_nn, ex_rem_nn, Int.toNat_zero, Int.toNat_one, Int.reduceAdd, Int.reduceSub, Int.reduceMul, Int.reduceNeg, kC_ne, fC_ne] | refine bb_eq (fun _ => ?_) (fun _ => ?_) | refine bb_ne (fun _ => ?_) (fun _ => ?_) | refine bc_eq (fun _ => ?_) (fun _ => ?_) | refine bc_ne (fun _ => ?_) (fun _ => ?_) | refine bc_lt (fun _ => ?_) (fun _ => ?_) | refine bc_ge (fun _ => ?_) (fun _ => ?_) | refine bc_gt (fun _ => ?_) (fun _ => ?_) | refine bc_le (fun _ => ?_) (fun _ => ?_) | refine bi_eq (fun _ => ?_) (fun _ => ?_) | refine bi_ne (fun _ => ?_) (fun _ => ?_) | refine bi_lt (fun _ => ?_) (fun _ => ?_) | refine bi_ge (fun _ => ?_) (fun _ => ?_) | refine bi_gt (fun _ => ?_) (fun _ => ?_) | refine bi_le (fun _ => ?_) (fun _ => ?_))
theorem xc_71 {rt d : Nat} {J : Nat → List ex_V → List ex_V → ex_H → Option ex_R} {is : List Instr} {ls st : List ex_V} {L : Nat} {σ : ex_S} {s : Int} (hd : 0 < d) (hok : okN 8 st = true) : ex_xs rt J (ex_cd d) (.invokevirtual 71 :: is) ls (vI s :: vR 29 :: st) (SH L, σ) = ex_xs rt J (ex_cd d) is ls (vI (b2i (0 ≤ s ∧ s ≤ 3)) :: st) (SH L, σ) := x_call1 (Or.inl rfl) rfl (sh_29 _) (Or.inl ⟨rfl, rfl⟩) (as := [vI s]) rfl rfl (okN_ok hok) rfl (sp_71 hd )
theorem sp_72 {d : Nat} (hd : 0 < d) {L : Nat} {σ : ex_S} {s : Int} (h0 : 0 ≤ s) (h1 : s ≤ 3) : ex_cd d 72 [vR 29, vI s] (SH L, σ) = some ([vI (b2i (σ 30 s = 0))], (SH L, σ)) := by
  rw [ex_cd_eq (by omega)]
  show ex_ev (d - 1) 72 0 [vR 29, vI s] [] (SH L, σ) = _
  (repeat' first | simp (disch := first | assumption | omega | ((repeat' first | exact ok_nil | apply ok_I | apply ok_R); done) | (simp (disch := first | omega | decide) only [ex_ar_same, ex_ar_diff, kM_diff, ex_u_same, ex_u_diff]; first | assumption | omega)) only [ev_72_0, ev_72_1, ev_72_2, gf_29_0, ld_30, x_fall, x_goto, x_push, x_ret2, x_ret2b, xl_a0, xl_i1, y_if_ne_f, y_if_ne_t, i_wr_id, kM_diff, Int.reduceToNat, ex_ar_same, ex_ar_ar, ex_ar_diff, ex_u_same, ex_u_diff, b2i_t, b2i_f, ex_div_nn, ex_rem_nn, Int.toNat_zero, Int.toNat_one, Int.reduceAdd, Int.reduceSub, Int.reduceMul, Int.reduceNeg, kC_ne, fC_ne] | refine bb_eq (fun _ => ?_) (fun _ => ?_) | refine bb_ne (fun _ => ?_) (fun _ => ?_) | refine bc_eq (fun _ => ?_) (fun _ => ?_) | refine bc_ne (fun _ => ?_) (fun _ => ?_) | refine bc_lt (fun _ => ?_) (fun _ => ?_) | refine bc_ge (fun _ => ?_) (fun _ => ?_) | refine bc_gt (fun _ => ?_) (fun _ => ?_) | refine bc_le (fun _ => ?_) (fun _ => ?_) | refine bi_eq (fun _ => ?_) (fun _ => ?_) | refine bi_ne (fun _ => ?_) (fun _ => ?_) | refine bi_lt (fun _ => ?_) (fun _ => ?_) | refine bi_ge (fun _ => ?_) (fun _ => ?_) | refine bi_gt (fun _ => ?_) (fun _ => ?_) | refine bi_le (fun _ => ?_) (fun _ => ?_))
theorem xc_72 {rt d : Nat} {J : Nat → List ex_V → List ex_V → ex_H → Option ex_R} {is : List Instr} {ls st : List ex_V} {L : Nat} {σ : ex_S} {s : Int} (h0 : 0 ≤ s) (h1 : s ≤ 3) (hd : 0 < d) (hok : okN 8 st = true) : ex_xs rt J (ex_cd d) (.invokevirtual 72 :: is) ls (vI s :: vR 29 :: st) (SH L, σ) = ex_xs rt J (ex_cd d) is ls (vI (b2i (σ 30 s = 0)) :: st) (SH L, σ) := x_call1 (Or.inl rfl) rfl (sh_29 _) (Or.inl ⟨rfl, rfl⟩) (as := [vI s]) rfl rfl (okN_ok hok) rfl (sp_72 hd h0 h1)
theorem sp_74 {d : Nat} (hd : 0 < d) {L : Nat} {σ : ex_S} {s i : Int} (h0 : 0 ≤ s) (h1 : s ≤ 3) (h2 : 0 ≤ i) (h3 : i < 20) : ex_cd d 74 [vR 29, vI s, vI i] (SH L, σ) = some ([vI (σ 32 (s * 20 + i))], (SH L, σ)) := by
  rw [ex_cd_eq (by omega)]
  show ex_ev (d - 1) 74 0 [vR 29, vI s, vI i] [] (SH L, σ) = _
  (repeat' first | simp (disch := first | assumption | omega | ((repeat' first | exact ok_nil | apply ok_I | apply ok_R); done) | (simp (disch := first | omega | decide) only [ex_ar_same, ex_ar_diff, kM_diff, ex_u_same, ex_u_diff]; first | assumption | omega)) only [ev_74_0, gf_29_2, ld_32, x_imul, x_push, x_ret1, xl_a0, xl_i1, xl_i2, y_iadd, i_wr_id, kM_diff, Int.reduceToNat, ex_ar_same, ex_ar_ar, ex_ar_diff, ex_u_same, ex_u_diff, b2i_t, b2i_f, ex_div_nn, ex_rem_nn, Int.toNat_zero, Int.toNat_one, Int.reduceAdd, Int.reduceSub, Int.reduceMul, Int.reduceNeg, kC_ne, fC_ne] | refine bb_eq (fun _ => ?_) (fun _ => ?_) | refine bb_ne (fun _ => ?_) (fun _ => ?_) | refine bc_eq (fun _ => ?_) (fun _ => ?_) | refine bc_ne (fun _ => ?_) (fun _ => ?_) | refine bc_lt (fun _ => ?_) (fun _ => ?_) | refine bc_ge (fun _ => ?_) (fun _ => ?_) | refine bc_gt (fun _ => ?_) (fun _ => ?_) | refine bc_le (fun _ => ?_) (fun _ => ?_) | refine bi_eq (fun _ => ?_) (fun _ => ?_) | refine bi_ne (fun _ => ?_) (fun _ => ?_) | refine bi_lt (fun _ => ?_) (fun _ => ?_) | refine bi_ge (fun _ => ?_) (fun _ => ?_) | refine bi_gt (fun _ => ?_) (fun _ => ?_) | refine bi_le (fun _ => ?_) (fun _ => ?_))
theorem xc_74 {rt d : Nat} {J : Nat → List ex_V → List ex_V → ex_H → Option ex_R} {is : List Instr} {ls st : List ex_V} {L : Nat} {σ : ex_S} {s i : Int} (h0 : 0 ≤ s) (h1 : s ≤ 3) (h2 : 0 ≤ i) (h3 : i < 20) (hd : 0 < d) (hok : okN 8 st = true) : ex_xs rt J (ex_cd d) (.invokevirtual 74 :: is) ls (vI i :: vI s :: vR 29 :: st) (SH L, σ) = ex_xs rt J (ex_cd d) is ls (vI (σ 32 (s * 20 + i)) :: st) (SH L, σ) := x_call1 (Or.inl rfl) rfl (sh_29 _) (Or.inl ⟨rfl, rfl⟩) (as := [vI s, vI i]) rfl rfl (okN_ok hok) rfl (sp_74 hd h0 h1 h2 h3)
theorem sp_76 {d : Nat} (hd : 0 < d) {L : Nat} {σ : ex_S} {s f n z : Int} (h0 : 0 ≤ s) (h1 : s ≤ 3) (hz : σ 31 s = z) (z0 : 0 ≤ z) (z1 : z ≤ 20) : ex_cd d 76 [vR 29, vI s, vI f, vI n] (SH L, σ) = some ([vI (b2i (0 ≤ f ∧ 0 ≤ n ∧ f + n ≤ z))], (SH L, σ)) := by
  rw [ex_cd_eq (by omega)]
  show ex_ev (d - 1) 76 0 [vR 29, vI s, vI f, vI n] [] (SH L, σ) = _
  (repeat' first | simp (disch := first | assumption | omega | ((repeat' first | exact ok_nil | apply ok_I | apply ok_R); done) | (simp (disch := first | omega | decide) only [ex_ar_same, ex_ar_diff, kM_diff, ex_u_same, ex_u_diff]; first | assumption | omega)) only [ev_76_0, ev_76_1, ev_76_2, gf_29_1, hz, ld_31, x_fall, x_goto, x_push, x_ret2, x_ret2b, xl_a0, xl_i1, xl_i2, xl_i3, y_cmp_gt_f, y_cmp_gt_t, y_if_lt_f, y_if_lt_t, y_isub, i_wr_id, kM_diff, Int.reduceToNat, ex_ar_same, ex_ar_ar, ex_ar_diff, ex_u_same, ex_u_diff, b2i_t, b2i_f, ex_div_nn, ex_rem_nn, Int.toNat_zero, Int.toNat_one, Int.reduceAdd, Int.reduceSub, Int.reduceMul, Int.reduceNeg, kC_ne, fC_ne] | refine bb_eq (fun _ => ?_) (fun _ => ?_) | refine bb_ne (fun _ => ?_) (fun _ => ?_) | refine bc_eq (fun _ => ?_) (fun _ => ?_) | refine bc_ne (fun _ => ?_) (fun _ => ?_) | refine bc_lt (fun _ => ?_) (fun _ => ?_) | refine bc_ge (fun _ => ?_) (fun _ => ?_) | refine bc_gt (fun _ => ?_) (fun _ => ?_) | refine bc_le (fun _ => ?_) (fun _ => ?_) | refine bi_eq (fun _ => ?_) (fun _ => ?_) | refine bi_ne (fun _ => ?_) (fun _ => ?_) | refine bi_lt (fun _ => ?_) (fun _ => ?_) | refine bi_ge (fun _ => ?_) (fun _ => ?_) | refine bi_gt (fun _ => ?_) (fun _ => ?_) | refine bi_le (fun _ => ?_) (fun _ => ?_))
  all_goals first | rw [b2i_t (by omega)] | rw [b2i_f (by omega)]
theorem xc_76 {rt d : Nat} {J : Nat → List ex_V → List ex_V → ex_H → Option ex_R} {is : List Instr} {ls st : List ex_V} {L : Nat} {σ : ex_S} {s f n z : Int} (h0 : 0 ≤ s) (h1 : s ≤ 3) (hz : σ 31 s = z) (z0 : 0 ≤ z) (z1 : z ≤ 20) (hd : 0 < d) (hok : okN 8 st = true) : ex_xs rt J (ex_cd d) (.invokevirtual 76 :: is) ls (vI n :: vI f :: vI s :: vR 29 :: st) (SH L, σ) = ex_xs rt J (ex_cd d) is ls (vI (b2i (0 ≤ f ∧ 0 ≤ n ∧ f + n ≤ z)) :: st) (SH L, σ) := x_call1 (Or.inl rfl) rfl (sh_29 _) (Or.inl ⟨rfl, rfl⟩) (as := [vI s, vI f, vI n]) rfl rfl (okN_ok hok) rfl (sp_76 hd h0 h1 hz z0 z1)
theorem sp_238 {d : Nat} (hd : 0 < d) {h : ex_H} {n a b : Int} (h0 : 0 ≤ a) (h1 : a ≤ b) (h2 : b ≤ n) : ex_cd d 238 [vI n, vI a, vI b] (h) = some ([], (h)) := by
  rw [ex_cd_eq (by omega)]
  show ex_ev (d - 1) 238 0 [vI n, vI a, vI b] [] (h) = _
  simp (disch := first | assumption | omega | ((repeat' first | exact ok_nil | apply ok_I | apply ok_R); done) | (simp (disch := first | omega | decide) only [ex_ar_same, ex_ar_diff, kM_diff, ex_u_same, ex_u_diff]; first | assumption | omega)) only [ev_238_0, ev_238_1, ev_238_2, ev_238_3, x_ret0, xl_i0, xl_i1, xl_i2, y_cmp_le_f, y_cmp_le_t, y_if_ge_f, y_if_ge_t, i_wr_id, kM_diff, Int.reduceToNat, ex_ar_same, ex_ar_ar, ex_ar_diff, ex_u_same, ex_u_diff, b2i_t, b2i_f, ex_div_nn, ex_rem_nn, Int.toNat_zero, Int.toNat_one, Int.reduceAdd, Int.reduceSub, Int.reduceMul, Int.reduceNeg, kC_ne, fC_ne]
theorem xc_238 {rt d : Nat} {J : Nat → List ex_V → List ex_V → ex_H → Option ex_R} {is : List Instr} {ls st : List ex_V} {h : ex_H} {n a b : Int} (h0 : 0 ≤ a) (h1 : a ≤ b) (h2 : b ≤ n) (hd : 0 < d) (hok : okN 8 st = true) : ex_xs rt J (ex_cd d) (.invokestatic 238 :: is) ls (vI b :: vI a :: vI n :: st) (h) = ex_xs rt J (ex_cd d) is ls (st) (h) := x_call0 (as := [vI n, vI a, vI b]) rfl rfl rfl (okN_ok hok) rfl (sp_238 hd h0 h1 h2)
theorem sp_240 {d : Nat} (hd : 1 < d) {L : Nat} {σ : ex_S} {s : Int} (h0 : 0 ≤ s) (h1 : s ≤ 3) : ex_cd d 240 [vR 32, vI (s * 20), vI ((s + 1) * 20), vI 0] (SH L, σ) = some ([], (SH L, ex_ar σ 32 (zF (σ 32) s 20))) := by
  rw [ex_cd_eq (by omega)]
  show ex_ev (d - 1) 240 0 [vR 32, vI (s * 20), vI ((s + 1) * 20), vI 0, vL 0] [] (SH L, σ) = _
  have lp : ∀ j : Nat, j ≤ 20 → ∀ i : Int, i = 20 * s + (j : Int) → ex_ev (d - 1) 240 1 [vR 32, vI (s * 20), vI ((s + 1) * 20), vI 0, vI i] [] (SH L, ex_ar σ 32 (zF (σ 32) s j)) = some ([], (SH L, ex_ar σ 32 (zF (σ 32) s 20))) := by
    refine down ?_ ?_
    · intro i hi
      rw [ev_240_1]
      simp (disch := first | assumption | omega | ((repeat' first | exact ok_nil | apply ok_I | apply ok_R); done) | (simp (disch := first | omega | decide) only [ex_ar_same, ex_ar_diff, kM_diff, ex_u_same, ex_u_diff]; first | assumption | omega)) only [ev_240_0, ev_240_2, ln_32, sd_32, x_fall, x_goto, x_ret0, xc_238, xl_a0, xl_i1, xl_i2, xl_i3, xl_i4, xn_4, xt_i4, y_cmp_ge_f, y_cmp_ge_t, i_wr_id, kM_diff, Int.reduceToNat, ex_ar_same, ex_ar_ar, ex_ar_diff, ex_u_same, ex_u_diff, b2i_t, b2i_f, ex_div_nn, ex_rem_nn, Int.toNat_zero, Int.toNat_one, Int.reduceAdd, Int.reduceSub, Int.reduceMul, Int.reduceNeg, kC_ne, fC_ne]
    · intro j hj ih i hi
      rw [ev_240_1]
      simp (disch := first | assumption | omega | ((repeat' first | exact ok_nil | apply ok_I | apply ok_R); done) | (simp (disch := first | omega | decide) only [ex_ar_same, ex_ar_diff, kM_diff, ex_u_same, ex_u_diff]; first | assumption | omega)) only [ev_240_0, ev_240_2, ln_32, sd_32, x_fall, x_goto, x_ret0, xc_238, xl_a0, xl_i1, xl_i2, xl_i3, xl_i4, xn_4, xt_i4, y_cmp_ge_f, y_cmp_ge_t, i_wr_id, kM_diff, Int.reduceToNat, ex_ar_same, ex_ar_ar, ex_ar_diff, ex_u_same, ex_u_diff, b2i_t, b2i_f, ex_div_nn, ex_rem_nn, Int.toNat_zero, Int.toNat_one, Int.reduceAdd, Int.reduceSub, Int.reduceMul, Int.reduceNeg, kC_ne, fC_ne]
      rw [hi, zF_s]
      exact ih _ (by omega)
  simp (disch := first | assumption | omega | ((repeat' first | exact ok_nil | apply ok_I | apply ok_R); done) | (simp (disch := first | omega | decide) only [ex_ar_same, ex_ar_diff, kM_diff, ex_u_same, ex_u_diff]; first | assumption | omega)) only [ev_240_0, ev_240_2, ln_32, sd_32, x_fall, x_goto, x_ret0, xc_238, xl_a0, xl_i1, xl_i2, xl_i3, xl_i4, xn_4, xt_i4, y_cmp_ge_f, y_cmp_ge_t, i_wr_id, kM_diff, Int.reduceToNat, ex_ar_same, ex_ar_ar, ex_ar_diff, ex_u_same, ex_u_diff, b2i_t, b2i_f, ex_div_nn, ex_rem_nn, Int.toNat_zero, Int.toNat_one, Int.reduceAdd, Int.reduceSub, Int.reduceMul, Int.reduceNeg, kC_ne, fC_ne]
  have := lp 0 (by omega) (s * 20) (by omega)
  rw [zF_0, ex_ar_id] at this
  exact this
theorem xc_240 {rt d : Nat} {J : Nat → List ex_V → List ex_V → ex_H → Option ex_R} {is : List Instr} {ls st : List ex_V} {L : Nat} {σ : ex_S} {s : Int} (h0 : 0 ≤ s) (h1 : s ≤ 3) (hd : 1 < d) (hok : okN 8 st = true) : ex_xs rt J (ex_cd d) (.invokestatic 240 :: is) ls (vI 0 :: vI ((s + 1) * 20) :: vI (s * 20) :: vR 32 :: st) (SH L, σ) = ex_xs rt J (ex_cd d) is ls (st) (SH L, ex_ar σ 32 (zF (σ 32) s 20)) := x_call0 (as := [vR 32, vI (s * 20), vI ((s + 1) * 20), vI 0]) rfl rfl rfl (okN_ok hok) rfl (sp_240 hd h0 h1)
theorem sp_73 {d : Nat} (hd : 2 < d) {L : Nat} {σ : ex_S} {s b n : Int} (h0 : 0 ≤ s) (h1 : s ≤ 3) : ex_cd d 73 [vR 29, vI s, vI b, vI n] (SH L, σ) = some ([], (SH L, ex_ar (ex_ar (ex_ar σ 30 (ex_u (σ 30) s b)) 31 (ex_u (σ 31) s n)) 32 (zF (σ 32) s 20))) := by
  rw [ex_cd_eq (by omega)]
  show ex_ev (d - 1) 73 0 [vR 29, vI s, vI b, vI n] [] (SH L, σ) = _
  simp (disch := first | assumption | omega | ((repeat' first | exact ok_nil | apply ok_I | apply ok_R); done) | (simp (disch := first | omega | decide) only [ex_ar_same, ex_ar_diff, kM_diff, ex_u_same, ex_u_diff]; first | assumption | omega)) only [ev_73_0, gf_29_0, gf_29_1, gf_29_2, sd_30, sd_31, sd_32, x_imul, x_push, x_ret0, xc_240, xl_a0, xl_i1, xl_i2, xl_i3, y_iadd, i_wr_id, kM_diff, Int.reduceToNat, ex_ar_same, ex_ar_ar, ex_ar_diff, ex_u_same, ex_u_diff, b2i_t, b2i_f, ex_div_nn, ex_rem_nn, Int.toNat_zero, Int.toNat_one, Int.reduceAdd, Int.reduceSub, Int.reduceMul, Int.reduceNeg, kC_ne, fC_ne]
theorem xc_73 {rt d : Nat} {J : Nat → List ex_V → List ex_V → ex_H → Option ex_R} {is : List Instr} {ls st : List ex_V} {L : Nat} {σ : ex_S} {s b n : Int} (h0 : 0 ≤ s) (h1 : s ≤ 3) (hd : 2 < d) (hok : okN 8 st = true) : ex_xs rt J (ex_cd d) (.invokevirtual 73 :: is) ls (vI n :: vI b :: vI s :: vR 29 :: st) (SH L, σ) = ex_xs rt J (ex_cd d) is ls (st) (SH L, ex_ar (ex_ar (ex_ar σ 30 (ex_u (σ 30) s b)) 31 (ex_u (σ 31) s n)) 32 (zF (σ 32) s 20)) := x_call1 (Or.inl rfl) rfl (sh_29 _) (Or.inl ⟨rfl, rfl⟩) (as := [vI s, vI b, vI n]) rfl rfl (okN_ok hok) rfl (sp_73 hd h0 h1)
theorem sp_75 {d : Nat} (hd : 0 < d) {L : Nat} {σ : ex_S} {s i v b : Int} (h0 : 0 ≤ s) (h1 : s ≤ 3) (h2 : 0 ≤ i) (h3 : i < 20) (hb : σ 30 s = b) : ex_cd d 75 [vR 29, vI s, vI i, vI v] (SH L, σ) = some ([], (SH L, ex_ar σ 32 (ex_u (σ 32) (s * 20 + i) (puC b v)))) := by
  rw [ex_cd_eq (by omega)]
  show ex_ev (d - 1) 75 0 [vR 29, vI s, vI i, vI v] [] (SH L, σ) = _
  unfold puC
  by_cases z : b = 32
  · rw [if_pos z]
    simp (disch := first | assumption | omega | ((repeat' first | exact ok_nil | apply ok_I | apply ok_R); done) | (simp (disch := first | omega | decide) only [ex_ar_same, ex_ar_diff, kM_diff, ex_u_same, ex_u_diff]; first | assumption | omega)) only [ev_75_0, ev_75_1, ev_75_2, gf_29_0, gf_29_2, hb, ld_30, ld_32, sd_30, sd_32, x_fall, x_goto, x_imul, x_push, x_ret0, xl_a0, xl_i1, xl_i2, xl_i3, y_cmp_ne_f, y_cmp_ne_t, y_iadd, y_iand, y_ishl, y_isub, i_wr_id, kM_diff, Int.reduceToNat, ex_ar_same, ex_ar_ar, ex_ar_diff, ex_u_same, ex_u_diff, b2i_t, b2i_f, ex_div_nn, ex_rem_nn, Int.toNat_zero, Int.toNat_one, Int.reduceAdd, Int.reduceSub, Int.reduceMul, Int.reduceNeg, kC_ne, fC_ne]
  · rw [if_neg z]
    have w1 : ex_wr (s * 20) = s * 20 := i_wr_id (by omega) (by omega)
    have w2 : ex_wr (s * 20 + i) = s * 20 + i := i_wr_id (by omega) (by omega)
    simp (disch := first | assumption | omega | ((repeat' first | exact ok_nil | apply ok_I | apply ok_R); done) | (simp (disch := first | omega | decide) only [ex_ar_same, ex_ar_diff, kM_diff, ex_u_same, ex_u_diff]; first | assumption | omega)) only [ev_75_0, ev_75_1, ev_75_2, gf_29_0, gf_29_2, hb, ld_30, ld_32, sd_30, sd_32, w1, w2, x_fall, x_goto, x_imul, x_push, x_ret0, xl_a0, xl_i1, xl_i2, xl_i3, y_cmp_ne_f, y_cmp_ne_t, y_iadd, y_iand, y_ishl, y_isub, kM_diff, Int.reduceToNat, ex_ar_same, ex_ar_ar, ex_ar_diff, ex_u_same, ex_u_diff, b2i_t, b2i_f, ex_div_nn, ex_rem_nn, Int.toNat_zero, Int.toNat_one, Int.reduceAdd, Int.reduceSub, Int.reduceMul, Int.reduceNeg, kC_ne, fC_ne]
theorem xc_75 {rt d : Nat} {J : Nat → List ex_V → List ex_V → ex_H → Option ex_R} {is : List Instr} {ls st : List ex_V} {L : Nat} {σ : ex_S} {s i v b : Int} (h0 : 0 ≤ s) (h1 : s ≤ 3) (h2 : 0 ≤ i) (h3 : i < 20) (hb : σ 30 s = b) (hd : 0 < d) (hok : okN 8 st = true) : ex_xs rt J (ex_cd d) (.invokevirtual 75 :: is) ls (vI v :: vI i :: vI s :: vR 29 :: st) (SH L, σ) = ex_xs rt J (ex_cd d) is ls (st) (SH L, ex_ar σ 32 (ex_u (σ 32) (s * 20 + i) (puC b v))) := x_call1 (Or.inl rfl) rfl (sh_29 _) (Or.inl ⟨rfl, rfl⟩) (as := [vI s, vI i, vI v]) rfl rfl (okN_ok hok) rfl (sp_75 hd h0 h1 h2 h3 hb)
theorem cpy_32 {rt : Nat} {J : Nat → List ex_V → List ex_V → ex_H → Option ex_R} {C : Nat → List ex_V → ex_H → Option ex_R} {is : List Instr} {ls : List ex_V} {L : Nat} {σ : ex_S} {n p q : Int} (h0 : 0 ≤ p) (h1 : 0 ≤ q) (h2 : 0 ≤ n) (h3 : p + n ≤ 80) (h4 : q + n ≤ 80) : ex_xs rt J C (.invokedynamic 0 :: is) ls [vI n, vI q, vR 32, vI p, vR 32] (SH L, σ) = ex_xs rt J C is ls [] (SH L, ex_ar σ 32 (ex_cpy (σ 32) (σ 32) p q n)) := x_cpy (sh_32 L) (sh_32 L) (by decide) (by decide) h0 h1 h2 h3 h4 rfl
theorem sp_77 {d : Nat} (hd : 0 < d) {L : Nat} {σ : ex_S} {s f t o n : Int} (h0 : 0 ≤ s) (h1 : s ≤ 3) (h2 : 0 ≤ t) (h3 : t ≤ 3) (h4 : 0 ≤ f) (h5 : 0 ≤ o) (h6 : 0 ≤ n) (h7 : f + n ≤ 20) (h8 : o + n ≤ 20) : ex_cd d 77 [vR 29, vI s, vI f, vI t, vI o, vI n] (SH L, σ) = some ([], (SH L, ex_ar σ 32 (ex_cpy (σ 32) (σ 32) (s * 20 + f) (t * 20 + o) n))) := by
  rw [ex_cd_eq (by omega)]
  show ex_ev (d - 1) 77 0 [vR 29, vI s, vI f, vI t, vI o, vI n] [] (SH L, σ) = _
  simp (disch := first | assumption | omega | ((repeat' first | exact ok_nil | apply ok_I | apply ok_R); done) | (simp (disch := first | omega | decide) only [ex_ar_same, ex_ar_diff, kM_diff, ex_u_same, ex_u_diff]; first | assumption | omega)) only [cpy_32, ev_77_0, gf_29_2, x_imul, x_push, x_ret0, xl_a0, xl_i1, xl_i2, xl_i3, xl_i4, xl_i5, y_iadd, i_wr_id, kM_diff, Int.reduceToNat, ex_ar_same, ex_ar_ar, ex_ar_diff, ex_u_same, ex_u_diff, b2i_t, b2i_f, ex_div_nn, ex_rem_nn, Int.toNat_zero, Int.toNat_one, Int.reduceAdd, Int.reduceSub, Int.reduceMul, Int.reduceNeg, kC_ne, fC_ne]
theorem xc_77 {rt d : Nat} {J : Nat → List ex_V → List ex_V → ex_H → Option ex_R} {is : List Instr} {ls st : List ex_V} {L : Nat} {σ : ex_S} {s f t o n : Int} (h0 : 0 ≤ s) (h1 : s ≤ 3) (h2 : 0 ≤ t) (h3 : t ≤ 3) (h4 : 0 ≤ f) (h5 : 0 ≤ o) (h6 : 0 ≤ n) (h7 : f + n ≤ 20) (h8 : o + n ≤ 20) (hd : 0 < d) (hok : okN 8 st = true) : ex_xs rt J (ex_cd d) (.invokevirtual 77 :: is) ls (vI n :: vI o :: vI t :: vI f :: vI s :: vR 29 :: st) (SH L, σ) = ex_xs rt J (ex_cd d) is ls (st) (SH L, ex_ar σ 32 (ex_cpy (σ 32) (σ 32) (s * 20 + f) (t * 20 + o) n)) := x_call1 (Or.inl rfl) rfl (sh_29 _) (Or.inl ⟨rfl, rfl⟩) (as := [vI s, vI f, vI t, vI o, vI n]) rfl rfl (okN_ok hok) rfl (sp_77 hd h0 h1 h2 h3 h4 h5 h6 h7 h8)
theorem ck_127 {L d : Nat} {σ : ex_S} {s b n : Int} (hC : CI σ) (hd : 20 < d) : CK 127 231 [vI s, vI b, vI n] σ L d := by
  (have p0 := hC.pr.p0; have p1 := hC.pr.p1; have k0 := hC.pr.k0; have k1 := hC.pr.k1; have kq := hC.pr.q; have q0 : 0 ≤ σ 4 10 := (by omega); have q1 : σ 4 10 ≤ 16 := (by omega); have hN := hC.ni; have hR := hC.rd.g; have hD := hC.rd; have hT := hC.st)
  by_cases g : (0 ≤ s ∧ s ≤ 3) ∧ (b = 0 ∨ b = 8 ∨ b = 16 ∨ b = 32)
  · obtain ⟨g1, g2⟩ := id g
    by_cases g3 : n < 0
    · have t2 : (fC σ) 432 = σ 432 := fC_ne _ (by decide)
      have t3 : (fC σ) 433 = σ 433 := fC_ne _ (by decide)
      have t5 : (fC σ) 435 = σ 435 := fC_ne _ (by decide)
      have t6 : (fC σ) 436 = σ 436 := fC_ne _ (by decide)
      have t7 : (fC σ) 437 = σ 437 := fC_ne _ (by decide)
      have u1 : 0 ≤ (fC σ) 432 2 := by rw [t2]; exact k0
      have u2 : (fC σ) 432 2 ≤ 16 := by rw [t2]; exact k1
      have uN : NI ((fC σ) 433) := by rw [t3]; exact hN
      have uS : SI ((fC σ) 435) ((fC σ) 436) := by rw [t5, t6]; exact hC.si
      have := uN.a0; have := uN.b0; have := uN.a1; have := uN.b1; have := uN.a2; have := uN.b2; have := uN.a3; have := uN.b3; have := uN.a4; have := uN.b4; have := uN.a5; have := uN.b5; have := uN.a7; have := uN.b7; have := uN.a8; have := uN.b8; have := uN.a9; have := uN.b9; have := uN.a10; have := uN.b10
      have r := sp_231 (L := L) (d := d) (σ := fC σ) (s := s) (w := b) (n := n) (by omega) 
      simp only [sheetM, t3, if_pos g, if_pos g3] at r
      refine ck_fnd hC ?_ r
      (rw [ex_cd_eq (by omega)]; show ex_ev (d - 1) 127 0 [vR 4, vI s, vI b, vI n] [] _ = _; (repeat' first | simp (disch := first | assumption | omega | ((repeat' first | exact ok_nil | apply ok_I | apply ok_R); done) | (simp (disch := first | omega | decide) only [ex_ar_same, ex_ar_diff, kM_diff, ex_u_same, ex_u_diff]; first | assumption | omega)) only [ev_127_0, ev_127_1, ev_127_2, ev_127_3, ev_127_4, ev_127_5, ev_127_6, gf_29_1, gf_4_2, ld_31, x_fall, x_goto, x_push, x_ret1, xc_132, xc_71, xc_73, xl_a0, xl_i1, xl_i2, xl_i3, y_cmp_eq_f, y_cmp_eq_t, y_cmp_le_f, y_cmp_le_t, y_if_eq_f, y_if_eq_t, y_if_ge_f, y_if_ge_t, y_if_ne_f, y_if_ne_t, i_wr_id, kM_diff, Int.reduceToNat, ex_ar_same, ex_ar_ar, ex_ar_diff, ex_u_same, ex_u_diff, b2i_t, b2i_f, ex_div_nn, ex_rem_nn, Int.toNat_zero, Int.toNat_one, Int.reduceAdd, Int.reduceSub, Int.reduceMul, Int.reduceNeg, kC_ne, fC_ne] | refine bb_eq (fun _ => ?_) (fun _ => ?_) | refine bb_ne (fun _ => ?_) (fun _ => ?_) | refine bc_eq (fun _ => ?_) (fun _ => ?_) | refine bc_ne (fun _ => ?_) (fun _ => ?_) | refine bc_lt (fun _ => ?_) (fun _ => ?_) | refine bc_ge (fun _ => ?_) (fun _ => ?_) | refine bc_gt (fun _ => ?_) (fun _ => ?_) | refine bc_le (fun _ => ?_) (fun _ => ?_) | refine bi_eq (fun _ => ?_) (fun _ => ?_) | refine bi_ne (fun _ => ?_) (fun _ => ?_) | refine bi_lt (fun _ => ?_) (fun _ => ?_) | refine bi_ge (fun _ => ?_) (fun _ => ?_) | refine bi_gt (fun _ => ?_) (fun _ => ?_) | refine bi_le (fun _ => ?_) (fun _ => ?_)))
    · by_cases g4 : 20 < n
      · have t2 : (fC σ) 432 = σ 432 := fC_ne _ (by decide)
        have t3 : (fC σ) 433 = σ 433 := fC_ne _ (by decide)
        have t5 : (fC σ) 435 = σ 435 := fC_ne _ (by decide)
        have t6 : (fC σ) 436 = σ 436 := fC_ne _ (by decide)
        have t7 : (fC σ) 437 = σ 437 := fC_ne _ (by decide)
        have u1 : 0 ≤ (fC σ) 432 2 := by rw [t2]; exact k0
        have u2 : (fC σ) 432 2 ≤ 16 := by rw [t2]; exact k1
        have uN : NI ((fC σ) 433) := by rw [t3]; exact hN
        have uS : SI ((fC σ) 435) ((fC σ) 436) := by rw [t5, t6]; exact hC.si
        have := uN.a0; have := uN.b0; have := uN.a1; have := uN.b1; have := uN.a2; have := uN.b2; have := uN.a3; have := uN.b3; have := uN.a4; have := uN.b4; have := uN.a5; have := uN.b5; have := uN.a7; have := uN.b7; have := uN.a8; have := uN.b8; have := uN.a9; have := uN.b9; have := uN.a10; have := uN.b10
        have r := sp_231 (L := L) (d := d) (σ := fC σ) (s := s) (w := b) (n := n) (by omega) 
        simp only [sheetM, t3, if_pos g, if_neg g3, if_pos g4] at r
        refine ck_fnd hC ?_ r
        (rw [ex_cd_eq (by omega)]; show ex_ev (d - 1) 127 0 [vR 4, vI s, vI b, vI n] [] _ = _; (repeat' first | simp (disch := first | assumption | omega | ((repeat' first | exact ok_nil | apply ok_I | apply ok_R); done) | (simp (disch := first | omega | decide) only [ex_ar_same, ex_ar_diff, kM_diff, ex_u_same, ex_u_diff]; first | assumption | omega)) only [ev_127_0, ev_127_1, ev_127_2, ev_127_3, ev_127_4, ev_127_5, ev_127_6, gf_29_1, gf_4_2, ld_31, x_fall, x_goto, x_push, x_ret1, xc_132, xc_71, xc_73, xl_a0, xl_i1, xl_i2, xl_i3, y_cmp_eq_f, y_cmp_eq_t, y_cmp_le_f, y_cmp_le_t, y_if_eq_f, y_if_eq_t, y_if_ge_f, y_if_ge_t, y_if_ne_f, y_if_ne_t, i_wr_id, kM_diff, Int.reduceToNat, ex_ar_same, ex_ar_ar, ex_ar_diff, ex_u_same, ex_u_diff, b2i_t, b2i_f, ex_div_nn, ex_rem_nn, Int.toNat_zero, Int.toNat_one, Int.reduceAdd, Int.reduceSub, Int.reduceMul, Int.reduceNeg, kC_ne, fC_ne] | refine bb_eq (fun _ => ?_) (fun _ => ?_) | refine bb_ne (fun _ => ?_) (fun _ => ?_) | refine bc_eq (fun _ => ?_) (fun _ => ?_) | refine bc_ne (fun _ => ?_) (fun _ => ?_) | refine bc_lt (fun _ => ?_) (fun _ => ?_) | refine bc_ge (fun _ => ?_) (fun _ => ?_) | refine bc_gt (fun _ => ?_) (fun _ => ?_) | refine bc_le (fun _ => ?_) (fun _ => ?_) | refine bi_eq (fun _ => ?_) (fun _ => ?_) | refine bi_ne (fun _ => ?_) (fun _ => ?_) | refine bi_lt (fun _ => ?_) (fun _ => ?_) | refine bi_ge (fun _ => ?_) (fun _ => ?_) | refine bi_gt (fun _ => ?_) (fun _ => ?_) | refine bi_le (fun _ => ?_) (fun _ => ?_)))
      · have key : ∀ m : Int, m = (if b = 0 then 0 else n) → CK 127 231 [vI s, vI b, vI n] σ L d := by
          intro m hm
          have m0 : 0 ≤ m ∧ m ≤ 20 := by rw [hm]; split <;> omega
          have q : ∀ a, a ≠ 30 → a ≠ 31 → a ≠ 32 → ex_ar (ex_ar (ex_ar σ 30 (ex_u (σ 30) s b)) 31 (ex_u (σ 31) s m)) 32 (zF (σ 32) s 20) a = σ a := fun a h1 h2 h3 => by rw [ex_ar_diff _ _ _ h3, ex_ar_diff _ _ _ h2, ex_ar_diff _ _ _ h1]
          have r := sp_231 (L := L) (d := d) (σ := ex_ar (ex_ar (ex_ar σ 30 (ex_u (σ 30) s b)) 31 (ex_u (σ 31) s m)) 32 (zF (σ 32) s 20)) (s := s) (w := b) (n := n) (by omega)
          simp only [sheetM, if_pos g, if_neg g3, if_neg g4, q 435 (by decide) (by decide) (by decide), q 436 (by decide) (by decide) (by decide), q 437 (by decide) (by decide) (by decide)] at r
          rw [← hm] at r
          refine CK.of (r := m) ?_ r rfl (ci_sheet hC (fun a h1 h2 h3 h4 h5 h6 _ => by rw [ex_ar_diff _ _ _ h6, ex_ar_diff _ _ _ h5, ex_ar_diff _ _ _ h4, q a h1 h2 h3]) ?_ ?_ ?_ ?_ ?_) ?_
          · rw [ex_cd_eq (by omega)]
            show ex_ev (d - 1) 127 0 [vR 4, vI s, vI b, vI n] [] _ = _
            by_cases z : b = 0
            · rw [if_pos z] at hm
              subst hm
              (repeat' first | simp (disch := first | assumption | omega | ((repeat' first | exact ok_nil | apply ok_I | apply ok_R); done) | (simp (disch := first | omega | decide) only [ex_ar_same, ex_ar_diff, kM_diff, ex_u_same, ex_u_diff]; first | assumption | omega)) only [ev_127_0, ev_127_1, ev_127_2, ev_127_3, ev_127_4, ev_127_5, ev_127_6, gf_29_1, gf_4_2, ld_31, x_fall, x_goto, x_push, x_ret1, xc_132, xc_71, xc_73, xl_a0, xl_i1, xl_i2, xl_i3, y_cmp_eq_f, y_cmp_eq_t, y_cmp_le_f, y_cmp_le_t, y_if_eq_f, y_if_eq_t, y_if_ge_f, y_if_ge_t, y_if_ne_f, y_if_ne_t, i_wr_id, kM_diff, Int.reduceToNat, ex_ar_same, ex_ar_ar, ex_ar_diff, ex_u_same, ex_u_diff, b2i_t, b2i_f, ex_div_nn, ex_rem_nn, Int.toNat_zero, Int.toNat_one, Int.reduceAdd, Int.reduceSub, Int.reduceMul, Int.reduceNeg, kC_ne, fC_ne] | refine bb_eq (fun _ => ?_) (fun _ => ?_) | refine bb_ne (fun _ => ?_) (fun _ => ?_) | refine bc_eq (fun _ => ?_) (fun _ => ?_) | refine bc_ne (fun _ => ?_) (fun _ => ?_) | refine bc_lt (fun _ => ?_) (fun _ => ?_) | refine bc_ge (fun _ => ?_) (fun _ => ?_) | refine bc_gt (fun _ => ?_) (fun _ => ?_) | refine bc_le (fun _ => ?_) (fun _ => ?_) | refine bi_eq (fun _ => ?_) (fun _ => ?_) | refine bi_ne (fun _ => ?_) (fun _ => ?_) | refine bi_lt (fun _ => ?_) (fun _ => ?_) | refine bi_ge (fun _ => ?_) (fun _ => ?_) | refine bi_gt (fun _ => ?_) (fun _ => ?_) | refine bi_le (fun _ => ?_) (fun _ => ?_))
            · rw [if_neg z] at hm
              subst hm
              (repeat' first | simp (disch := first | assumption | omega | ((repeat' first | exact ok_nil | apply ok_I | apply ok_R); done) | (simp (disch := first | omega | decide) only [ex_ar_same, ex_ar_diff, kM_diff, ex_u_same, ex_u_diff]; first | assumption | omega)) only [ev_127_0, ev_127_1, ev_127_2, ev_127_3, ev_127_4, ev_127_5, ev_127_6, gf_29_1, gf_4_2, ld_31, x_fall, x_goto, x_push, x_ret1, xc_132, xc_71, xc_73, xl_a0, xl_i1, xl_i2, xl_i3, y_cmp_eq_f, y_cmp_eq_t, y_cmp_le_f, y_cmp_le_t, y_if_eq_f, y_if_eq_t, y_if_ge_f, y_if_ge_t, y_if_ne_f, y_if_ne_t, i_wr_id, kM_diff, Int.reduceToNat, ex_ar_same, ex_ar_ar, ex_ar_diff, ex_u_same, ex_u_diff, b2i_t, b2i_f, ex_div_nn, ex_rem_nn, Int.toNat_zero, Int.toNat_one, Int.reduceAdd, Int.reduceSub, Int.reduceMul, Int.reduceNeg, kC_ne, fC_ne] | refine bb_eq (fun _ => ?_) (fun _ => ?_) | refine bb_ne (fun _ => ?_) (fun _ => ?_) | refine bc_eq (fun _ => ?_) (fun _ => ?_) | refine bc_ne (fun _ => ?_) (fun _ => ?_) | refine bc_lt (fun _ => ?_) (fun _ => ?_) | refine bc_ge (fun _ => ?_) (fun _ => ?_) | refine bc_gt (fun _ => ?_) (fun _ => ?_) | refine bc_le (fun _ => ?_) (fun _ => ?_) | refine bi_eq (fun _ => ?_) (fun _ => ?_) | refine bi_ne (fun _ => ?_) (fun _ => ?_) | refine bi_lt (fun _ => ?_) (fun _ => ?_) | refine bi_ge (fun _ => ?_) (fun _ => ?_) | refine bi_gt (fun _ => ?_) (fun _ => ?_) | refine bi_le (fun _ => ?_) (fun _ => ?_))
          · intro x x0 x1
            have := hC.si x x0 x1
            simp (disch := decide) only [ex_ar_diff, ex_ar_same]
            by_cases y : x = s
            · rw [y, ex_u_same, ex_u_same]; exact ⟨g2, m0⟩
            · rw [ex_u_diff _ _ y, ex_u_diff _ _ y]; exact this
          · intro x x0 x1
            simp (disch := decide) only [ex_ar_diff, ex_ar_same]
            by_cases y : x = s
            · rw [y, ex_u_same, ex_u_same]
            · rw [ex_u_diff _ _ y, ex_u_diff _ _ y]; exact hC.sb x x0 x1
          · intro x x0 x1
            simp (disch := decide) only [ex_ar_diff, ex_ar_same]
            by_cases y : x = s
            · rw [y, ex_u_same, ex_u_same]
            · rw [ex_u_diff _ _ y, ex_u_diff _ _ y]; exact hC.sz x x0 x1
          · intro x i x0 x1 i0 i1
            simp (disch := decide) only [ex_ar_diff, ex_ar_same]
            unfold zF
            by_cases y : x = s
            · rw [y, ex_u_same, if_pos (by omega), if_pos (by omega)]
              exact ⟨fun _ => rfl, fun _ => ⟨by decide, by decide, rfl⟩, fun _ => ⟨by decide, by decide, rfl⟩⟩
            · rw [ex_u_diff _ _ y, if_neg (by omega), if_neg (by omega)]; exact hC.nu x i x0 x1 i0 i1
          · intro k k0 k1
            rw [ex_ar_same]
            unfold zF
            split
            · omega
            · exact hC.rg k k0 k1
          · rw [ex_ar_diff _ _ _ (by decide), ex_ar_diff _ _ _ (by decide), ex_ar_diff _ _ _ (by decide), q 0 (by decide) (by decide) (by decide)]
        exact key _ rfl
  · have t2 : (fC σ) 432 = σ 432 := fC_ne _ (by decide)
    have t3 : (fC σ) 433 = σ 433 := fC_ne _ (by decide)
    have t5 : (fC σ) 435 = σ 435 := fC_ne _ (by decide)
    have t6 : (fC σ) 436 = σ 436 := fC_ne _ (by decide)
    have t7 : (fC σ) 437 = σ 437 := fC_ne _ (by decide)
    have u1 : 0 ≤ (fC σ) 432 2 := by rw [t2]; exact k0
    have u2 : (fC σ) 432 2 ≤ 16 := by rw [t2]; exact k1
    have uN : NI ((fC σ) 433) := by rw [t3]; exact hN
    have uS : SI ((fC σ) 435) ((fC σ) 436) := by rw [t5, t6]; exact hC.si
    have := uN.a0; have := uN.b0; have := uN.a1; have := uN.b1; have := uN.a2; have := uN.b2; have := uN.a3; have := uN.b3; have := uN.a4; have := uN.b4; have := uN.a5; have := uN.b5; have := uN.a7; have := uN.b7; have := uN.a8; have := uN.b8; have := uN.a9; have := uN.b9; have := uN.a10; have := uN.b10
    have r := sp_231 (L := L) (d := d) (σ := fC σ) (s := s) (w := b) (n := n) (by omega) 
    simp only [sheetM, t3, if_neg g] at r
    refine ck_fnd hC ?_ r
    (rw [ex_cd_eq (by omega)]; show ex_ev (d - 1) 127 0 [vR 4, vI s, vI b, vI n] [] _ = _; (repeat' first | simp (disch := first | assumption | omega | ((repeat' first | exact ok_nil | apply ok_I | apply ok_R); done) | (simp (disch := first | omega | decide) only [ex_ar_same, ex_ar_diff, kM_diff, ex_u_same, ex_u_diff]; first | assumption | omega)) only [ev_127_0, ev_127_1, ev_127_2, ev_127_3, ev_127_4, ev_127_5, ev_127_6, gf_29_1, gf_4_2, ld_31, x_fall, x_goto, x_push, x_ret1, xc_132, xc_71, xc_73, xl_a0, xl_i1, xl_i2, xl_i3, y_cmp_eq_f, y_cmp_eq_t, y_cmp_le_f, y_cmp_le_t, y_if_eq_f, y_if_eq_t, y_if_ge_f, y_if_ge_t, y_if_ne_f, y_if_ne_t, i_wr_id, kM_diff, Int.reduceToNat, ex_ar_same, ex_ar_ar, ex_ar_diff, ex_u_same, ex_u_diff, b2i_t, b2i_f, ex_div_nn, ex_rem_nn, Int.toNat_zero, Int.toNat_one, Int.reduceAdd, Int.reduceSub, Int.reduceMul, Int.reduceNeg, kC_ne, fC_ne] | refine bb_eq (fun _ => ?_) (fun _ => ?_) | refine bb_ne (fun _ => ?_) (fun _ => ?_) | refine bc_eq (fun _ => ?_) (fun _ => ?_) | refine bc_ne (fun _ => ?_) (fun _ => ?_) | refine bc_lt (fun _ => ?_) (fun _ => ?_) | refine bc_ge (fun _ => ?_) (fun _ => ?_) | refine bc_gt (fun _ => ?_) (fun _ => ?_) | refine bc_le (fun _ => ?_) (fun _ => ?_) | refine bi_eq (fun _ => ?_) (fun _ => ?_) | refine bi_ne (fun _ => ?_) (fun _ => ?_) | refine bi_lt (fun _ => ?_) (fun _ => ?_) | refine bi_ge (fun _ => ?_) (fun _ => ?_) | refine bi_gt (fun _ => ?_) (fun _ => ?_) | refine bi_le (fun _ => ?_) (fun _ => ?_)))
theorem ck_128 {L d : Nat} {σ : ex_S} {s i v : Int} (hC : CI σ) (hd : 20 < d) (v0 : -2147483648 ≤ v) (v1 : v ≤ 2147483647) : CK 128 232 [vI s, vI i, vI v] σ L d := by
  (have p0 := hC.pr.p0; have p1 := hC.pr.p1; have k0 := hC.pr.k0; have k1 := hC.pr.k1; have kq := hC.pr.q; have q0 : 0 ≤ σ 4 10 := (by omega); have q1 : σ 4 10 ≤ 16 := (by omega); have hN := hC.ni; have hR := hC.rd.g; have hD := hC.rd; have hT := hC.st)
  by_cases g : 0 ≤ s ∧ s ≤ 3
  · obtain ⟨b1, b2, b3⟩ := hC.si s g.1 g.2
    have eb := hC.sb s g.1 g.2
    have ez := hC.sz s g.1 g.2
    by_cases g2 : σ 435 s = 0
    · have t2 : (fC σ) 432 = σ 432 := fC_ne _ (by decide)
      have t3 : (fC σ) 433 = σ 433 := fC_ne _ (by decide)
      have t5 : (fC σ) 435 = σ 435 := fC_ne _ (by decide)
      have t6 : (fC σ) 436 = σ 436 := fC_ne _ (by decide)
      have t7 : (fC σ) 437 = σ 437 := fC_ne _ (by decide)
      have u1 : 0 ≤ (fC σ) 432 2 := by rw [t2]; exact k0
      have u2 : (fC σ) 432 2 ≤ 16 := by rw [t2]; exact k1
      have uN : NI ((fC σ) 433) := by rw [t3]; exact hN
      have uS : SI ((fC σ) 435) ((fC σ) 436) := by rw [t5, t6]; exact hC.si
      have := uN.a0; have := uN.b0; have := uN.a1; have := uN.b1; have := uN.a2; have := uN.b2; have := uN.a3; have := uN.b3; have := uN.a4; have := uN.b4; have := uN.a5; have := uN.b5; have := uN.a7; have := uN.b7; have := uN.a8; have := uN.b8; have := uN.a9; have := uN.b9; have := uN.a10; have := uN.b10
      have r := sp_232 (L := L) (d := d) (σ := fC σ) (s := s) (i := i) (v := v) (by omega) (by first | assumption | exact uN.oM | exact uN.oP | omega)
      simp only [putM, t3, t5, t6, t7, if_pos g, if_pos g2] at r
      refine ck_fnd hC ?_ r
      (rw [ex_cd_eq (by omega)]; show ex_ev (d - 1) 128 0 [vR 4, vI s, vI i, vI v] [] _ = _; (repeat' first | simp (disch := first | assumption | omega | ((repeat' first | exact ok_nil | apply ok_I | apply ok_R); done) | (simp (disch := first | omega | decide) only [ex_ar_same, ex_ar_diff, kM_diff, ex_u_same, ex_u_diff]; first | assumption | omega)) only [eb, ev_128_0, ev_128_1, ev_128_2, ev_128_3, ev_128_4, ez, gf_29_1, gf_4_2, ld_31, x_fall, x_push, x_ret1, xc_132, xc_71, xc_72, xc_75, xl_a0, xl_i1, xl_i2, xl_i3, y_cmp_lt_f, y_cmp_lt_t, y_if_eq_f, y_if_eq_t, y_if_lt_f, y_if_lt_t, y_if_ne_f, y_if_ne_t, i_wr_id, kM_diff, Int.reduceToNat, ex_ar_same, ex_ar_ar, ex_ar_diff, ex_u_same, ex_u_diff, b2i_t, b2i_f, ex_div_nn, ex_rem_nn, Int.toNat_zero, Int.toNat_one, Int.reduceAdd, Int.reduceSub, Int.reduceMul, Int.reduceNeg, kC_ne, fC_ne] | refine bb_eq (fun _ => ?_) (fun _ => ?_) | refine bb_ne (fun _ => ?_) (fun _ => ?_) | refine bc_eq (fun _ => ?_) (fun _ => ?_) | refine bc_ne (fun _ => ?_) (fun _ => ?_) | refine bc_lt (fun _ => ?_) (fun _ => ?_) | refine bc_ge (fun _ => ?_) (fun _ => ?_) | refine bc_gt (fun _ => ?_) (fun _ => ?_) | refine bc_le (fun _ => ?_) (fun _ => ?_) | refine bi_eq (fun _ => ?_) (fun _ => ?_) | refine bi_ne (fun _ => ?_) (fun _ => ?_) | refine bi_lt (fun _ => ?_) (fun _ => ?_) | refine bi_ge (fun _ => ?_) (fun _ => ?_) | refine bi_gt (fun _ => ?_) (fun _ => ?_) | refine bi_le (fun _ => ?_) (fun _ => ?_)))
    · by_cases g3 : 0 ≤ i ∧ i < σ 436 s
      · have q : ∀ a, a ≠ 32 → ex_ar σ 32 (ex_u (σ 32) (s * 20 + i) (puC (σ 435 s) v)) a = σ a := fun a h => ex_ar_diff _ _ _ h
        have r := sp_232 (L := L) (d := d) (σ := ex_ar σ 32 (ex_u (σ 32) (s * 20 + i) (puC (σ 435 s) v))) (s := s) (i := i) (v := v) (by omega) (by rw [q 435 (by decide), q 436 (by decide)]; exact hC.si)
        simp only [putM, q 435 (by decide), q 436 (by decide), q 437 (by decide), if_pos g, if_neg g2, if_pos g3] at r
        refine CK.of (r := 0) ?_ r rfl (ci_sheet hC (fun a h1 h2 h3 h4 h5 h6 _ => by rw [ex_ar_diff _ _ _ h6, q a h3]) ?_ ?_ ?_ ?_ ?_) ?_
        · (rw [ex_cd_eq (by omega)]; show ex_ev (d - 1) 128 0 [vR 4, vI s, vI i, vI v] [] _ = _; (repeat' first | simp (disch := first | assumption | omega | ((repeat' first | exact ok_nil | apply ok_I | apply ok_R); done) | (simp (disch := first | omega | decide) only [ex_ar_same, ex_ar_diff, kM_diff, ex_u_same, ex_u_diff]; first | assumption | omega)) only [eb, ev_128_0, ev_128_1, ev_128_2, ev_128_3, ev_128_4, ez, gf_29_1, gf_4_2, ld_31, x_fall, x_push, x_ret1, xc_132, xc_71, xc_72, xc_75, xl_a0, xl_i1, xl_i2, xl_i3, y_cmp_lt_f, y_cmp_lt_t, y_if_eq_f, y_if_eq_t, y_if_lt_f, y_if_lt_t, y_if_ne_f, y_if_ne_t, i_wr_id, kM_diff, Int.reduceToNat, ex_ar_same, ex_ar_ar, ex_ar_diff, ex_u_same, ex_u_diff, b2i_t, b2i_f, ex_div_nn, ex_rem_nn, Int.toNat_zero, Int.toNat_one, Int.reduceAdd, Int.reduceSub, Int.reduceMul, Int.reduceNeg, kC_ne, fC_ne] | refine bb_eq (fun _ => ?_) (fun _ => ?_) | refine bb_ne (fun _ => ?_) (fun _ => ?_) | refine bc_eq (fun _ => ?_) (fun _ => ?_) | refine bc_ne (fun _ => ?_) (fun _ => ?_) | refine bc_lt (fun _ => ?_) (fun _ => ?_) | refine bc_ge (fun _ => ?_) (fun _ => ?_) | refine bc_gt (fun _ => ?_) (fun _ => ?_) | refine bc_le (fun _ => ?_) (fun _ => ?_) | refine bi_eq (fun _ => ?_) (fun _ => ?_) | refine bi_ne (fun _ => ?_) (fun _ => ?_) | refine bi_lt (fun _ => ?_) (fun _ => ?_) | refine bi_ge (fun _ => ?_) (fun _ => ?_) | refine bi_gt (fun _ => ?_) (fun _ => ?_) | refine bi_le (fun _ => ?_) (fun _ => ?_)))
        · simp (disch := decide) only [ex_ar_diff]; exact hC.si
        · simp (disch := decide) only [ex_ar_diff]; exact hC.sb
        · simp (disch := decide) only [ex_ar_diff]; exact hC.sz
        · intro x k x0 x1 k2 k3
          simp (disch := decide) only [ex_ar_diff, ex_ar_same]
          by_cases y : x = s ∧ k = i
          · rw [y.1, y.2, ex_u_same, ex_u_same]; exact pu_NR b1 v0 v1
          · rw [ex_u_diff _ _ (by omega), ex_u_diff _ _ (by omega)]; exact hC.nu x k x0 x1 k2 k3
        · intro k k2 k3
          rw [ex_ar_same]
          by_cases y : k = 20 * s + i
          · rw [y, ex_u_same]; exact pu_rg _ _
          · rw [ex_u_diff _ _ y]; exact hC.rg k k2 k3
        · rw [ex_ar_diff _ _ _ (by decide), q 0 (by decide)]
      · have t2 : (fC σ) 432 = σ 432 := fC_ne _ (by decide)
        have t3 : (fC σ) 433 = σ 433 := fC_ne _ (by decide)
        have t5 : (fC σ) 435 = σ 435 := fC_ne _ (by decide)
        have t6 : (fC σ) 436 = σ 436 := fC_ne _ (by decide)
        have t7 : (fC σ) 437 = σ 437 := fC_ne _ (by decide)
        have u1 : 0 ≤ (fC σ) 432 2 := by rw [t2]; exact k0
        have u2 : (fC σ) 432 2 ≤ 16 := by rw [t2]; exact k1
        have uN : NI ((fC σ) 433) := by rw [t3]; exact hN
        have uS : SI ((fC σ) 435) ((fC σ) 436) := by rw [t5, t6]; exact hC.si
        have := uN.a0; have := uN.b0; have := uN.a1; have := uN.b1; have := uN.a2; have := uN.b2; have := uN.a3; have := uN.b3; have := uN.a4; have := uN.b4; have := uN.a5; have := uN.b5; have := uN.a7; have := uN.b7; have := uN.a8; have := uN.b8; have := uN.a9; have := uN.b9; have := uN.a10; have := uN.b10
        have r := sp_232 (L := L) (d := d) (σ := fC σ) (s := s) (i := i) (v := v) (by omega) (by first | assumption | exact uN.oM | exact uN.oP | omega)
        simp only [putM, t3, t5, t6, t7, if_pos g, if_neg g2, if_neg g3] at r
        refine ck_fnd hC ?_ r
        (rw [ex_cd_eq (by omega)]; show ex_ev (d - 1) 128 0 [vR 4, vI s, vI i, vI v] [] _ = _; (repeat' first | simp (disch := first | assumption | omega | ((repeat' first | exact ok_nil | apply ok_I | apply ok_R); done) | (simp (disch := first | omega | decide) only [ex_ar_same, ex_ar_diff, kM_diff, ex_u_same, ex_u_diff]; first | assumption | omega)) only [eb, ev_128_0, ev_128_1, ev_128_2, ev_128_3, ev_128_4, ez, gf_29_1, gf_4_2, ld_31, x_fall, x_push, x_ret1, xc_132, xc_71, xc_72, xc_75, xl_a0, xl_i1, xl_i2, xl_i3, y_cmp_lt_f, y_cmp_lt_t, y_if_eq_f, y_if_eq_t, y_if_lt_f, y_if_lt_t, y_if_ne_f, y_if_ne_t, i_wr_id, kM_diff, Int.reduceToNat, ex_ar_same, ex_ar_ar, ex_ar_diff, ex_u_same, ex_u_diff, b2i_t, b2i_f, ex_div_nn, ex_rem_nn, Int.toNat_zero, Int.toNat_one, Int.reduceAdd, Int.reduceSub, Int.reduceMul, Int.reduceNeg, kC_ne, fC_ne] | refine bb_eq (fun _ => ?_) (fun _ => ?_) | refine bb_ne (fun _ => ?_) (fun _ => ?_) | refine bc_eq (fun _ => ?_) (fun _ => ?_) | refine bc_ne (fun _ => ?_) (fun _ => ?_) | refine bc_lt (fun _ => ?_) (fun _ => ?_) | refine bc_ge (fun _ => ?_) (fun _ => ?_) | refine bc_gt (fun _ => ?_) (fun _ => ?_) | refine bc_le (fun _ => ?_) (fun _ => ?_) | refine bi_eq (fun _ => ?_) (fun _ => ?_) | refine bi_ne (fun _ => ?_) (fun _ => ?_) | refine bi_lt (fun _ => ?_) (fun _ => ?_) | refine bi_ge (fun _ => ?_) (fun _ => ?_) | refine bi_gt (fun _ => ?_) (fun _ => ?_) | refine bi_le (fun _ => ?_) (fun _ => ?_)))
  · have t2 : (fC σ) 432 = σ 432 := fC_ne _ (by decide)
    have t3 : (fC σ) 433 = σ 433 := fC_ne _ (by decide)
    have t5 : (fC σ) 435 = σ 435 := fC_ne _ (by decide)
    have t6 : (fC σ) 436 = σ 436 := fC_ne _ (by decide)
    have t7 : (fC σ) 437 = σ 437 := fC_ne _ (by decide)
    have u1 : 0 ≤ (fC σ) 432 2 := by rw [t2]; exact k0
    have u2 : (fC σ) 432 2 ≤ 16 := by rw [t2]; exact k1
    have uN : NI ((fC σ) 433) := by rw [t3]; exact hN
    have uS : SI ((fC σ) 435) ((fC σ) 436) := by rw [t5, t6]; exact hC.si
    have := uN.a0; have := uN.b0; have := uN.a1; have := uN.b1; have := uN.a2; have := uN.b2; have := uN.a3; have := uN.b3; have := uN.a4; have := uN.b4; have := uN.a5; have := uN.b5; have := uN.a7; have := uN.b7; have := uN.a8; have := uN.b8; have := uN.a9; have := uN.b9; have := uN.a10; have := uN.b10
    have r := sp_232 (L := L) (d := d) (σ := fC σ) (s := s) (i := i) (v := v) (by omega) (by first | assumption | exact uN.oM | exact uN.oP | omega)
    simp only [putM, t3, if_neg g] at r
    refine ck_fnd hC ?_ r
    (rw [ex_cd_eq (by omega)]; show ex_ev (d - 1) 128 0 [vR 4, vI s, vI i, vI v] [] _ = _; (repeat' first | simp (disch := first | assumption | omega | ((repeat' first | exact ok_nil | apply ok_I | apply ok_R); done) | (simp (disch := first | omega | decide) only [ex_ar_same, ex_ar_diff, kM_diff, ex_u_same, ex_u_diff]; first | assumption | omega)) only [ev_128_0, ev_128_1, ev_128_2, ev_128_3, ev_128_4, gf_29_1, gf_4_2, ld_31, x_fall, x_push, x_ret1, xc_132, xc_71, xc_72, xc_75, xl_a0, xl_i1, xl_i2, xl_i3, y_cmp_lt_f, y_cmp_lt_t, y_if_eq_f, y_if_eq_t, y_if_lt_f, y_if_lt_t, y_if_ne_f, y_if_ne_t, i_wr_id, kM_diff, Int.reduceToNat, ex_ar_same, ex_ar_ar, ex_ar_diff, ex_u_same, ex_u_diff, b2i_t, b2i_f, ex_div_nn, ex_rem_nn, Int.toNat_zero, Int.toNat_one, Int.reduceAdd, Int.reduceSub, Int.reduceMul, Int.reduceNeg, kC_ne, fC_ne] | refine bb_eq (fun _ => ?_) (fun _ => ?_) | refine bb_ne (fun _ => ?_) (fun _ => ?_) | refine bc_eq (fun _ => ?_) (fun _ => ?_) | refine bc_ne (fun _ => ?_) (fun _ => ?_) | refine bc_lt (fun _ => ?_) (fun _ => ?_) | refine bc_ge (fun _ => ?_) (fun _ => ?_) | refine bc_gt (fun _ => ?_) (fun _ => ?_) | refine bc_le (fun _ => ?_) (fun _ => ?_) | refine bi_eq (fun _ => ?_) (fun _ => ?_) | refine bi_ne (fun _ => ?_) (fun _ => ?_) | refine bi_lt (fun _ => ?_) (fun _ => ?_) | refine bi_ge (fun _ => ?_) (fun _ => ?_) | refine bi_gt (fun _ => ?_) (fun _ => ?_) | refine bi_le (fun _ => ?_) (fun _ => ?_)))
theorem ck_129 {L d : Nat} {σ : ex_S} {s f t o n : Int} (hC : CI σ) (hd : 20 < d) (f0 : -2147483648 ≤ f) (f1 : f ≤ 2147483647) (o0 : -2147483648 ≤ o) (o1 : o ≤ 2147483647) (n0 : -2147483648 ≤ n) (n1 : n ≤ 2147483647) : CK 129 233 [vI s, vI f, vI t, vI o, vI n] σ L d := by
  (have p0 := hC.pr.p0; have p1 := hC.pr.p1; have k0 := hC.pr.k0; have k1 := hC.pr.k1; have kq := hC.pr.q; have q0 : 0 ≤ σ 4 10 := (by omega); have q1 : σ 4 10 ≤ 16 := (by omega); have hN := hC.ni; have hR := hC.rd.g; have hD := hC.rd; have hT := hC.st)
  by_cases g : (0 ≤ s ∧ s ≤ 3) ∧ 0 ≤ t ∧ t ≤ 3
  · obtain ⟨g1, g2⟩ := id g
    obtain ⟨b1, b2, b3⟩ := hC.si s g1.1 g1.2
    obtain ⟨c1, c2, c3⟩ := hC.si t g2.1 g2.2
    have eb := hC.sb s g1.1 g1.2
    have ez := hC.sz s g1.1 g1.2
    have eb' := hC.sb t g2.1 g2.2
    have ez' := hC.sz t g2.1 g2.2
    by_cases g3 : σ 435 s = 0 ∨ σ 435 t = 0
    · have t2 : (fC σ) 432 = σ 432 := fC_ne _ (by decide)
      have t3 : (fC σ) 433 = σ 433 := fC_ne _ (by decide)
      have t5 : (fC σ) 435 = σ 435 := fC_ne _ (by decide)
      have t6 : (fC σ) 436 = σ 436 := fC_ne _ (by decide)
      have t7 : (fC σ) 437 = σ 437 := fC_ne _ (by decide)
      have u1 : 0 ≤ (fC σ) 432 2 := by rw [t2]; exact k0
      have u2 : (fC σ) 432 2 ≤ 16 := by rw [t2]; exact k1
      have uN : NI ((fC σ) 433) := by rw [t3]; exact hN
      have uS : SI ((fC σ) 435) ((fC σ) 436) := by rw [t5, t6]; exact hC.si
      have := uN.a0; have := uN.b0; have := uN.a1; have := uN.b1; have := uN.a2; have := uN.b2; have := uN.a3; have := uN.b3; have := uN.a4; have := uN.b4; have := uN.a5; have := uN.b5; have := uN.a7; have := uN.b7; have := uN.a8; have := uN.b8; have := uN.a9; have := uN.b9; have := uN.a10; have := uN.b10
      have r := sp_233 (L := L) (d := d) (σ := fC σ) (s := s) (f := f) (t := t) (o := o) (n := n) (by omega) (by first | assumption | exact uN.oM | exact uN.oP | omega) (by first | assumption | exact uN.oM | exact uN.oP | omega) (by first | assumption | exact uN.oM | exact uN.oP | omega) (by first | assumption | exact uN.oM | exact uN.oP | omega) (by first | assumption | exact uN.oM | exact uN.oP | omega) (by first | assumption | exact uN.oM | exact uN.oP | omega) (by first | assumption | exact uN.oM | exact uN.oP | omega)
      simp only [copyM, t3, t5, t6, t7, if_pos g, if_pos g3] at r
      refine ck_fnd hC ?_ r
      (rw [ex_cd_eq (by omega)]; show ex_ev (d - 1) 129 0 [vR 4, vI s, vI f, vI t, vI o, vI n] [] _ = _; (repeat' first | simp (disch := first | assumption | omega | ((repeat' first | exact ok_nil | apply ok_I | apply ok_R); done) | (simp (disch := first | omega | decide) only [ex_ar_same, ex_ar_diff, kM_diff, ex_u_same, ex_u_diff]; first | assumption | omega)) only [eb, eb', ev_129_0, ev_129_1, ev_129_2, ev_129_3, ev_129_4, ev_129_5, ev_129_6, ev_129_7, gf_29_0, gf_4_2, ld_30, x_fall, x_push, x_ret1, xc_132, xc_71, xc_72, xc_76, xc_77, xl_a0, xl_i1, xl_i2, xl_i3, xl_i4, xl_i5, y_cmp_eq_f, y_cmp_eq_t, y_if_eq_f, y_if_eq_t, y_if_ne_f, y_if_ne_t, i_wr_id, kM_diff, Int.reduceToNat, ex_ar_same, ex_ar_ar, ex_ar_diff, ex_u_same, ex_u_diff, b2i_t, b2i_f, ex_div_nn, ex_rem_nn, Int.toNat_zero, Int.toNat_one, Int.reduceAdd, Int.reduceSub, Int.reduceMul, Int.reduceNeg, kC_ne, fC_ne] | refine bb_eq (fun _ => ?_) (fun _ => ?_) | refine bb_ne (fun _ => ?_) (fun _ => ?_) | refine bc_eq (fun _ => ?_) (fun _ => ?_) | refine bc_ne (fun _ => ?_) (fun _ => ?_) | refine bc_lt (fun _ => ?_) (fun _ => ?_) | refine bc_ge (fun _ => ?_) (fun _ => ?_) | refine bc_gt (fun _ => ?_) (fun _ => ?_) | refine bc_le (fun _ => ?_) (fun _ => ?_) | refine bi_eq (fun _ => ?_) (fun _ => ?_) | refine bi_ne (fun _ => ?_) (fun _ => ?_) | refine bi_lt (fun _ => ?_) (fun _ => ?_) | refine bi_ge (fun _ => ?_) (fun _ => ?_) | refine bi_gt (fun _ => ?_) (fun _ => ?_) | refine bi_le (fun _ => ?_) (fun _ => ?_)))
    · by_cases g4 : σ 435 s ≠ σ 435 t
      · have t2 : (fC σ) 432 = σ 432 := fC_ne _ (by decide)
        have t3 : (fC σ) 433 = σ 433 := fC_ne _ (by decide)
        have t5 : (fC σ) 435 = σ 435 := fC_ne _ (by decide)
        have t6 : (fC σ) 436 = σ 436 := fC_ne _ (by decide)
        have t7 : (fC σ) 437 = σ 437 := fC_ne _ (by decide)
        have u1 : 0 ≤ (fC σ) 432 2 := by rw [t2]; exact k0
        have u2 : (fC σ) 432 2 ≤ 16 := by rw [t2]; exact k1
        have uN : NI ((fC σ) 433) := by rw [t3]; exact hN
        have uS : SI ((fC σ) 435) ((fC σ) 436) := by rw [t5, t6]; exact hC.si
        have := uN.a0; have := uN.b0; have := uN.a1; have := uN.b1; have := uN.a2; have := uN.b2; have := uN.a3; have := uN.b3; have := uN.a4; have := uN.b4; have := uN.a5; have := uN.b5; have := uN.a7; have := uN.b7; have := uN.a8; have := uN.b8; have := uN.a9; have := uN.b9; have := uN.a10; have := uN.b10
        have r := sp_233 (L := L) (d := d) (σ := fC σ) (s := s) (f := f) (t := t) (o := o) (n := n) (by omega) (by first | assumption | exact uN.oM | exact uN.oP | omega) (by first | assumption | exact uN.oM | exact uN.oP | omega) (by first | assumption | exact uN.oM | exact uN.oP | omega) (by first | assumption | exact uN.oM | exact uN.oP | omega) (by first | assumption | exact uN.oM | exact uN.oP | omega) (by first | assumption | exact uN.oM | exact uN.oP | omega) (by first | assumption | exact uN.oM | exact uN.oP | omega)
        simp only [copyM, t3, t5, t6, t7, if_pos g, if_neg g3, if_pos g4] at r
        refine ck_fnd hC ?_ r
        (rw [ex_cd_eq (by omega)]; show ex_ev (d - 1) 129 0 [vR 4, vI s, vI f, vI t, vI o, vI n] [] _ = _; (repeat' first | simp (disch := first | assumption | omega | ((repeat' first | exact ok_nil | apply ok_I | apply ok_R); done) | (simp (disch := first | omega | decide) only [ex_ar_same, ex_ar_diff, kM_diff, ex_u_same, ex_u_diff]; first | assumption | omega)) only [eb, eb', ev_129_0, ev_129_1, ev_129_2, ev_129_3, ev_129_4, ev_129_5, ev_129_6, ev_129_7, gf_29_0, gf_4_2, ld_30, x_fall, x_push, x_ret1, xc_132, xc_71, xc_72, xc_76, xc_77, xl_a0, xl_i1, xl_i2, xl_i3, xl_i4, xl_i5, y_cmp_eq_f, y_cmp_eq_t, y_if_eq_f, y_if_eq_t, y_if_ne_f, y_if_ne_t, i_wr_id, kM_diff, Int.reduceToNat, ex_ar_same, ex_ar_ar, ex_ar_diff, ex_u_same, ex_u_diff, b2i_t, b2i_f, ex_div_nn, ex_rem_nn, Int.toNat_zero, Int.toNat_one, Int.reduceAdd, Int.reduceSub, Int.reduceMul, Int.reduceNeg, kC_ne, fC_ne] | refine bb_eq (fun _ => ?_) (fun _ => ?_) | refine bb_ne (fun _ => ?_) (fun _ => ?_) | refine bc_eq (fun _ => ?_) (fun _ => ?_) | refine bc_ne (fun _ => ?_) (fun _ => ?_) | refine bc_lt (fun _ => ?_) (fun _ => ?_) | refine bc_ge (fun _ => ?_) (fun _ => ?_) | refine bc_gt (fun _ => ?_) (fun _ => ?_) | refine bc_le (fun _ => ?_) (fun _ => ?_) | refine bi_eq (fun _ => ?_) (fun _ => ?_) | refine bi_ne (fun _ => ?_) (fun _ => ?_) | refine bi_lt (fun _ => ?_) (fun _ => ?_) | refine bi_ge (fun _ => ?_) (fun _ => ?_) | refine bi_gt (fun _ => ?_) (fun _ => ?_) | refine bi_le (fun _ => ?_) (fun _ => ?_)))
      · by_cases g5 : f < 0 ∨ o < 0 ∨ n < 0 ∨ σ 436 s < f + n ∨ σ 436 t < o + n
        · have t2 : (fC σ) 432 = σ 432 := fC_ne _ (by decide)
          have t3 : (fC σ) 433 = σ 433 := fC_ne _ (by decide)
          have t5 : (fC σ) 435 = σ 435 := fC_ne _ (by decide)
          have t6 : (fC σ) 436 = σ 436 := fC_ne _ (by decide)
          have t7 : (fC σ) 437 = σ 437 := fC_ne _ (by decide)
          have u1 : 0 ≤ (fC σ) 432 2 := by rw [t2]; exact k0
          have u2 : (fC σ) 432 2 ≤ 16 := by rw [t2]; exact k1
          have uN : NI ((fC σ) 433) := by rw [t3]; exact hN
          have uS : SI ((fC σ) 435) ((fC σ) 436) := by rw [t5, t6]; exact hC.si
          have := uN.a0; have := uN.b0; have := uN.a1; have := uN.b1; have := uN.a2; have := uN.b2; have := uN.a3; have := uN.b3; have := uN.a4; have := uN.b4; have := uN.a5; have := uN.b5; have := uN.a7; have := uN.b7; have := uN.a8; have := uN.b8; have := uN.a9; have := uN.b9; have := uN.a10; have := uN.b10
          have r := sp_233 (L := L) (d := d) (σ := fC σ) (s := s) (f := f) (t := t) (o := o) (n := n) (by omega) (by first | assumption | exact uN.oM | exact uN.oP | omega) (by first | assumption | exact uN.oM | exact uN.oP | omega) (by first | assumption | exact uN.oM | exact uN.oP | omega) (by first | assumption | exact uN.oM | exact uN.oP | omega) (by first | assumption | exact uN.oM | exact uN.oP | omega) (by first | assumption | exact uN.oM | exact uN.oP | omega) (by first | assumption | exact uN.oM | exact uN.oP | omega)
          simp only [copyM, t3, t5, t6, t7, if_pos g, if_neg g3, if_neg g4, if_pos g5] at r
          refine ck_fnd hC ?_ r
          (rw [ex_cd_eq (by omega)]; show ex_ev (d - 1) 129 0 [vR 4, vI s, vI f, vI t, vI o, vI n] [] _ = _; (repeat' first | simp (disch := first | assumption | omega | ((repeat' first | exact ok_nil | apply ok_I | apply ok_R); done) | (simp (disch := first | omega | decide) only [ex_ar_same, ex_ar_diff, kM_diff, ex_u_same, ex_u_diff]; first | assumption | omega)) only [eb, eb', ev_129_0, ev_129_1, ev_129_2, ev_129_3, ev_129_4, ev_129_5, ev_129_6, ev_129_7, gf_29_0, gf_4_2, ld_30, x_fall, x_push, x_ret1, xc_132, xc_71, xc_72, xc_76, xc_77, xl_a0, xl_i1, xl_i2, xl_i3, xl_i4, xl_i5, y_cmp_eq_f, y_cmp_eq_t, y_if_eq_f, y_if_eq_t, y_if_ne_f, y_if_ne_t, i_wr_id, kM_diff, Int.reduceToNat, ex_ar_same, ex_ar_ar, ex_ar_diff, ex_u_same, ex_u_diff, b2i_t, b2i_f, ex_div_nn, ex_rem_nn, Int.toNat_zero, Int.toNat_one, Int.reduceAdd, Int.reduceSub, Int.reduceMul, Int.reduceNeg, kC_ne, fC_ne] | refine bb_eq (fun _ => ?_) (fun _ => ?_) | refine bb_ne (fun _ => ?_) (fun _ => ?_) | refine bc_eq (fun _ => ?_) (fun _ => ?_) | refine bc_ne (fun _ => ?_) (fun _ => ?_) | refine bc_lt (fun _ => ?_) (fun _ => ?_) | refine bc_ge (fun _ => ?_) (fun _ => ?_) | refine bc_gt (fun _ => ?_) (fun _ => ?_) | refine bc_le (fun _ => ?_) (fun _ => ?_) | refine bi_eq (fun _ => ?_) (fun _ => ?_) | refine bi_ne (fun _ => ?_) (fun _ => ?_) | refine bi_lt (fun _ => ?_) (fun _ => ?_) | refine bi_ge (fun _ => ?_) (fun _ => ?_) | refine bi_gt (fun _ => ?_) (fun _ => ?_) | refine bi_le (fun _ => ?_) (fun _ => ?_)))
        · have q : ∀ a, a ≠ 32 → ex_ar σ 32 (ex_cpy (σ 32) (σ 32) (s * 20 + f) (t * 20 + o) n) a = σ a := fun a h => ex_ar_diff _ _ _ h
          have r := sp_233 (L := L) (d := d) (σ := ex_ar σ 32 (ex_cpy (σ 32) (σ 32) (s * 20 + f) (t * 20 + o) n)) (s := s) (f := f) (t := t) (o := o) (n := n) (by omega) (by first | assumption | (rw [q 435 (by decide), q 436 (by decide)]; exact hC.si) | (intro k h1 h2; rw [q 437 (by decide)]; exact hC.rg k h1 h2) | omega) (by first | assumption | (rw [q 435 (by decide), q 436 (by decide)]; exact hC.si) | (intro k h1 h2; rw [q 437 (by decide)]; exact hC.rg k h1 h2) | omega) (by first | assumption | (rw [q 435 (by decide), q 436 (by decide)]; exact hC.si) | (intro k h1 h2; rw [q 437 (by decide)]; exact hC.rg k h1 h2) | omega) (by first | assumption | (rw [q 435 (by decide), q 436 (by decide)]; exact hC.si) | (intro k h1 h2; rw [q 437 (by decide)]; exact hC.rg k h1 h2) | omega) (by first | assumption | (rw [q 435 (by decide), q 436 (by decide)]; exact hC.si) | (intro k h1 h2; rw [q 437 (by decide)]; exact hC.rg k h1 h2) | omega) (by first | assumption | (rw [q 435 (by decide), q 436 (by decide)]; exact hC.si) | (intro k h1 h2; rw [q 437 (by decide)]; exact hC.rg k h1 h2) | omega) (by first | assumption | (rw [q 435 (by decide), q 436 (by decide)]; exact hC.si) | (intro k h1 h2; rw [q 437 (by decide)]; exact hC.rg k h1 h2) | omega)
          simp only [copyM, q 435 (by decide), q 436 (by decide), q 437 (by decide), q 448 (by decide), if_pos g, if_neg g3, if_neg g4, if_neg g5] at r
          refine CK.of (r := n) ?_ r rfl (ci_sheet hC (fun a h1 h2 h3 h4 h5 h6 h7 => by rw [ex_ar_diff _ _ _ h6, ex_ar_diff _ _ _ h7, q a h3]) ?_ ?_ ?_ ?_ ?_) ?_
          · (rw [ex_cd_eq (by omega)]; show ex_ev (d - 1) 129 0 [vR 4, vI s, vI f, vI t, vI o, vI n] [] _ = _; (repeat' first | simp (disch := first | assumption | omega | ((repeat' first | exact ok_nil | apply ok_I | apply ok_R); done) | (simp (disch := first | omega | decide) only [ex_ar_same, ex_ar_diff, kM_diff, ex_u_same, ex_u_diff]; first | assumption | omega)) only [eb, eb', ev_129_0, ev_129_1, ev_129_2, ev_129_3, ev_129_4, ev_129_5, ev_129_6, ev_129_7, gf_29_0, gf_4_2, ld_30, x_fall, x_push, x_ret1, xc_132, xc_71, xc_72, xc_76, xc_77, xl_a0, xl_i1, xl_i2, xl_i3, xl_i4, xl_i5, y_cmp_eq_f, y_cmp_eq_t, y_if_eq_f, y_if_eq_t, y_if_ne_f, y_if_ne_t, i_wr_id, kM_diff, Int.reduceToNat, ex_ar_same, ex_ar_ar, ex_ar_diff, ex_u_same, ex_u_diff, b2i_t, b2i_f, ex_div_nn, ex_rem_nn, Int.toNat_zero, Int.toNat_one, Int.reduceAdd, Int.reduceSub, Int.reduceMul, Int.reduceNeg, kC_ne, fC_ne] | refine bb_eq (fun _ => ?_) (fun _ => ?_) | refine bb_ne (fun _ => ?_) (fun _ => ?_) | refine bc_eq (fun _ => ?_) (fun _ => ?_) | refine bc_ne (fun _ => ?_) (fun _ => ?_) | refine bc_lt (fun _ => ?_) (fun _ => ?_) | refine bc_ge (fun _ => ?_) (fun _ => ?_) | refine bc_gt (fun _ => ?_) (fun _ => ?_) | refine bc_le (fun _ => ?_) (fun _ => ?_) | refine bi_eq (fun _ => ?_) (fun _ => ?_) | refine bi_ne (fun _ => ?_) (fun _ => ?_) | refine bi_lt (fun _ => ?_) (fun _ => ?_) | refine bi_ge (fun _ => ?_) (fun _ => ?_) | refine bi_gt (fun _ => ?_) (fun _ => ?_) | refine bi_le (fun _ => ?_) (fun _ => ?_)))
          · simp (disch := decide) only [ex_ar_diff]; exact hC.si
          · simp (disch := decide) only [ex_ar_diff]; exact hC.sb
          · simp (disch := decide) only [ex_ar_diff]; exact hC.sz
          · intro x k x0 x1 k2 k3
            simp (disch := decide) only [ex_ar_diff, ex_ar_same]
            unfold pyF cyF ex_cpy
            by_cases y : x = t ∧ o ≤ k ∧ k < o + n
            · have z := hC.nu s (f + (k - o)) g1.1 g1.2 (by omega) (by omega)
              rw [if_pos (by omega), if_pos (by omega), if_pos (by omega), show s * 20 + f + (x * 20 + k - (t * 20 + o)) = s * 20 + (f + (k - o)) by omega, show 20 * s + f + (20 * x + k - (20 * t + o)) = 20 * s + (f + (k - o)) by omega, y.1, show σ 435 t = σ 435 s by omega]
              exact z
            · rw [if_neg (by omega), if_neg (by omega)]; exact hC.nu x k x0 x1 k2 k3
          · intro k k2 k3
            simp (disch := decide) only [ex_ar_diff, ex_ar_same]
            unfold pyF cyF
            by_cases y : 20 * t + o ≤ k ∧ k < 20 * t + o + ((n.toNat : Nat) : Int)
            · rw [if_pos y, if_pos (by omega)]; exact hC.rg _ (by omega) (by omega)
            · rw [if_neg y]; exact hC.rg k k2 k3
          · rw [ex_ar_diff _ _ _ (by decide), ex_ar_diff _ _ _ (by decide), q 0 (by decide)]
  · have t2 : (fC σ) 432 = σ 432 := fC_ne _ (by decide)
    have t3 : (fC σ) 433 = σ 433 := fC_ne _ (by decide)
    have t5 : (fC σ) 435 = σ 435 := fC_ne _ (by decide)
    have t6 : (fC σ) 436 = σ 436 := fC_ne _ (by decide)
    have t7 : (fC σ) 437 = σ 437 := fC_ne _ (by decide)
    have u1 : 0 ≤ (fC σ) 432 2 := by rw [t2]; exact k0
    have u2 : (fC σ) 432 2 ≤ 16 := by rw [t2]; exact k1
    have uN : NI ((fC σ) 433) := by rw [t3]; exact hN
    have uS : SI ((fC σ) 435) ((fC σ) 436) := by rw [t5, t6]; exact hC.si
    have := uN.a0; have := uN.b0; have := uN.a1; have := uN.b1; have := uN.a2; have := uN.b2; have := uN.a3; have := uN.b3; have := uN.a4; have := uN.b4; have := uN.a5; have := uN.b5; have := uN.a7; have := uN.b7; have := uN.a8; have := uN.b8; have := uN.a9; have := uN.b9; have := uN.a10; have := uN.b10
    have r := sp_233 (L := L) (d := d) (σ := fC σ) (s := s) (f := f) (t := t) (o := o) (n := n) (by omega) (by first | assumption | exact uN.oM | exact uN.oP | omega) (by first | assumption | exact uN.oM | exact uN.oP | omega) (by first | assumption | exact uN.oM | exact uN.oP | omega) (by first | assumption | exact uN.oM | exact uN.oP | omega) (by first | assumption | exact uN.oM | exact uN.oP | omega) (by first | assumption | exact uN.oM | exact uN.oP | omega) (by first | assumption | exact uN.oM | exact uN.oP | omega)
    simp only [copyM, t3, if_neg g] at r
    refine ck_fnd hC ?_ r
    (rw [ex_cd_eq (by omega)]; show ex_ev (d - 1) 129 0 [vR 4, vI s, vI f, vI t, vI o, vI n] [] _ = _; (repeat' first | simp (disch := first | assumption | omega | ((repeat' first | exact ok_nil | apply ok_I | apply ok_R); done) | (simp (disch := first | omega | decide) only [ex_ar_same, ex_ar_diff, kM_diff, ex_u_same, ex_u_diff]; first | assumption | omega)) only [ev_129_0, ev_129_1, ev_129_2, ev_129_3, ev_129_4, ev_129_5, ev_129_6, ev_129_7, gf_29_0, gf_4_2, ld_30, x_fall, x_push, x_ret1, xc_132, xc_71, xc_72, xc_76, xc_77, xl_a0, xl_i1, xl_i2, xl_i3, xl_i4, xl_i5, y_cmp_eq_f, y_cmp_eq_t, y_if_eq_f, y_if_eq_t, y_if_ne_f, y_if_ne_t, i_wr_id, kM_diff, Int.reduceToNat, ex_ar_same, ex_ar_ar, ex_ar_diff, ex_u_same, ex_u_diff, b2i_t, b2i_f, ex_div_nn, ex_rem_nn, Int.toNat_zero, Int.toNat_one, Int.reduceAdd, Int.reduceSub, Int.reduceMul, Int.reduceNeg, kC_ne, fC_ne] | refine bb_eq (fun _ => ?_) (fun _ => ?_) | refine bb_ne (fun _ => ?_) (fun _ => ?_) | refine bc_eq (fun _ => ?_) (fun _ => ?_) | refine bc_ne (fun _ => ?_) (fun _ => ?_) | refine bc_lt (fun _ => ?_) (fun _ => ?_) | refine bc_ge (fun _ => ?_) (fun _ => ?_) | refine bc_gt (fun _ => ?_) (fun _ => ?_) | refine bc_le (fun _ => ?_) (fun _ => ?_) | refine bi_eq (fun _ => ?_) (fun _ => ?_) | refine bi_ne (fun _ => ?_) (fun _ => ?_) | refine bi_lt (fun _ => ?_) (fun _ => ?_) | refine bi_ge (fun _ => ?_) (fun _ => ?_) | refine bi_gt (fun _ => ?_) (fun _ => ?_) | refine bi_le (fun _ => ?_) (fun _ => ?_)))
    all_goals exact absurd ⟨by assumption, by assumption⟩ g
