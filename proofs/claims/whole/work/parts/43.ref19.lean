/-! the reference: harm; the heap has one row of four more -/
def SX (L : Nat) : List ex_C := SH L ++ [cA 4]
theorem sX_tl : SHT.length = 448 := by decide +kernel
theorem sX_len (L : Nat) : (SH L).length = 449 := by show SHT.length + 1 = 449; rw [sX_tl]
theorem sX_432 (L : Nat) : (SX L)[432]? = (SH L)[432]? := by unfold SX; rw [List.getElem?_append_left (by rw [sX_len]; decide)]
theorem sX_433 (L : Nat) : (SX L)[433]? = (SH L)[433]? := by unfold SX; rw [List.getElem?_append_left (by rw [sX_len]; decide)]
theorem sX_449 (L : Nat) : (SX L)[449]? = some (cA 4) := by unfold SX; rw [List.getElem?_append_right (by rw [sX_len]; decide), sX_len]; rfl
section XX
variable {rt : Nat} {J : Nat → List ex_V → List ex_V → ex_H → Option ex_R} {C : Nat → List ex_V → ex_H → Option ex_R} {is : List Instr} {ls st : List ex_V} {L : Nat} {σ : ex_S}
theorem x_new4 : ex_xs rt J C (.newarray .int :: is) ls (vI 4 :: st) (SH L, σ) = ex_xs rt J C is ls (vR 449 :: st) (SX L, ex_ar σ 449 (fun _ => 0)) := xs_of _ _ _ (by dsimp only [ex_st]; rw [if_pos ⟨by decide, by decide, by rw [sX_len]; decide⟩, sX_len]; rfl)
theorem gX_432_0 : ex_xs rt J C (.getfield 384 :: is) ls (vR 432 :: st) (SX L, σ) = ex_xs rt J C is ls (vR 433 :: st) (SX L, σ) := x_getR ((sX_432 L).trans (sh_432 L)) (by decide) rfl rfl
theorem gX_432_3 : ex_xs rt J C (.getfield 387 :: is) ls (vR 432 :: st) (SX L, σ) = ex_xs rt J C is ls (vI (σ 432 3) :: st) (SX L, σ) := x_getI (k := 3) ((sX_432 L).trans (sh_432 L)) (by decide) rfl rfl rfl
theorem pX_432_3 {z : Int} : ex_xs rt J C (.putfield 387 :: is) ls (vI z :: vR 432 :: st) (SX L, σ) = ex_xs rt J C is ls st (SX L, ex_ar σ 432 (ex_u (σ 432) 3 z)) := x_putI (k := 3) ((sX_432 L).trans (sh_432 L)) (by decide) rfl rfl rfl
theorem lX_433 {i : Int} (h0 : 0 ≤ i) (h1 : i < 277) : ex_xs rt J C (.iaload :: is) ls (vI i :: vR 433 :: st) (SX L, σ) = ex_xs rt J C is ls (vI (σ 433 i) :: st) (SX L, σ) := x_ald (n := 277) ((sX_433 L).trans (sh_433 L)) h0 h1
theorem lX_449 {i : Int} (h0 : 0 ≤ i) (h1 : i < 4) : ex_xs rt J C (.iaload :: is) ls (vI i :: vR 449 :: st) (SX L, σ) = ex_xs rt J C is ls (vI (σ 449 i) :: st) (SX L, σ) := x_ald (n := 4) (sX_449 L) h0 h1
theorem dX_449 {i z : Int} (h0 : 0 ≤ i) (h1 : i < 4) : ex_xs rt J C (.iastore :: is) ls (vI z :: vI i :: vR 449 :: st) (SX L, σ) = ex_xs rt J C is ls st (SX L, ex_ar σ 449 (ex_u (σ 449) i z)) := x_ast (n := 4) (sX_449 L) (by decide) h0 h1
end XX
theorem spX_142 {d : Nat} (hd : 0 < d) {L : Nat} {σ : ex_S} {w : Int} : ex_cd d 142 [vR 432, vI w] (SX L, σ) = some ([vI w], (SX L, fndM σ)) := by
  rw [ex_cd_eq (by omega)]
  show ex_ev (d - 1) 142 0 [vR 432, vI w] [] (SX L, σ) = _
  simp (disch := first | assumption | omega | ((repeat' first | exact ok_nil | apply ok_I | apply ok_R); done) | (simp (disch := first | omega | decide) only [ex_ar_same, ex_ar_diff, kM_diff, ex_u_same, ex_u_diff]; first | assumption | omega)) only [ev_142_0, gX_432_3, gf_432_3, pX_432_3, pf_432_3, x_dupI, x_dupR, x_push, x_ret1, xl_a0, xl_i1, y_iadd, kM_diff, Int.reduceToNat, ex_ar_same, ex_ar_ar, ex_ar_diff, ex_u_same, ex_u_diff, b2i_t, b2i_f, ex_div_nn, ex_rem_nn, Int.toNat_zero, Int.toNat_one, Int.reduceAdd, Int.reduceSub, Int.reduceMul, Int.reduceNeg]
  rfl
theorem xcX_142 {rt d : Nat} {J : Nat → List ex_V → List ex_V → ex_H → Option ex_R} {is : List Instr} {ls st : List ex_V} {L : Nat} {σ : ex_S} {w : Int} (hd : 0 < d) (hok : okN 8 st = true) : ex_xs rt J (ex_cd d) (.invokevirtual 142 :: is) ls (vI w :: vR 432 :: st) (SX L, σ) = ex_xs rt J (ex_cd d) is ls (vI w :: st) (SX L, fndM σ) := x_call1 (Or.inl rfl) rfl ((sX_432 L).trans (sh_432 L)) (Or.inl ⟨rfl, rfl⟩) (as := [vI w]) rfl rfl (okN_ok hok) rfl (spX_142 hd)
/-- the last look without harm -/
def harF (n : Int → Int) (c : Int) : Nat → Int
  | 0 => -1
  | k + 1 => if n (171 + (k : Int)) = 64 + c then (k : Int) else harF n c k
def harT (n : Int → Int) (c : Int) : Nat → Nat → Nat
  | i, 0 => i
  | i, j + 1 => if n (171 + (i : Int)) = 72 + c then i else harT n c (i + 1) j
abbrev harC (n : Int → Int) (c k : Int) : Prop := n (171 + k) < 64 ∧ n (171 + k) % 8 = c
def harB (n : Int → Int) (c f : Int) : Nat → (Int → Int) × Int
  | 0 => (fun _ => 0, 0)
  | j + 1 => if harC n c (f + (j : Int)) then (ex_u (harB n c f j).1 (n (171 + (f + (j : Int))) / 8) ((harB n c f j).1 (n (171 + (f + (j : Int))) / 8) + 1), (harB n c f j).2 + 1) else harB n c f j
theorem harF_bd (n : Int → Int) (c : Int) : ∀ k : Nat, -1 ≤ harF n c k ∧ harF n c k < (k : Int)
  | 0 => ⟨Int.le_refl _, (show (-1 : Int) < 0 by decide)⟩
  | k + 1 => by
    have := harF_bd n c k
    rw [harF]
    split <;> omega
theorem harT_bd (n : Int → Int) (c : Int) : ∀ j i : Nat, i ≤ harT n c i j ∧ harT n c i j ≤ i + j
  | 0, i => ⟨Nat.le_refl _, Nat.le_refl _⟩
  | j + 1, i => by
    have := harT_bd n c j (i + 1)
    rw [harT]
    split <;> omega
