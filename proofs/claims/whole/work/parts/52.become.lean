/-! the class: becoming like another; what is kept for undo -/
def cp1 (σ : ex_S) (b a : Nat) (n : Int) : ex_S := ex_ar σ b (ex_cpy (σ a) (σ b) 0 0 n)
def pf1 (σ : ex_S) (b a : Nat) (k : Int) : ex_S := ex_ar σ b (ex_u (σ b) k (σ a k))
theorem cp1_ne {σ : ex_S} {b a c : Nat} {n : Int} (h : c ≠ b) : cp1 σ b a n c = σ c := ex_ar_diff _ _ _ h
theorem cp1_at {σ : ex_S} {b a : Nat} {n i : Int} (h0 : 0 ≤ i) (h1 : i < n) : cp1 σ b a n b i = σ a i := by
  unfold cp1
  rw [ex_ar_same]
  show (if _ then _ else _) = _
  rw [if_pos ⟨h0, by omega⟩, show 0 + (i - 0) = i by omega]
theorem pf1_ne {σ : ex_S} {b a c : Nat} {k : Int} (h : c ≠ b) : pf1 σ b a k c = σ c := ex_ar_diff _ _ _ h
theorem pf1_at {σ : ex_S} {b a : Nat} {k : Int} : pf1 σ b a k b k = σ a k := by unfold pf1; rw [ex_ar_same, ex_u_same]
theorem pf1_nk {σ : ex_S} {b a : Nat} {k i : Int} (h : i ≠ k) : pf1 σ b a k b i = σ b i := by unfold pf1; rw [ex_ar_same, ex_u_diff _ _ h]
theorem x_aald {rt : Nat} {J : Nat → List ex_V → List ex_V → ex_H → Option ex_R} {C : Nat → List ex_V → ex_H → Option ex_R} {is : List Instr} {ls st : List ex_V} {Sh : List ex_C} {σ : ex_S} {a x : Nat} {i : Int} {r : List (Option Nat)} (hs : Sh[a]? = some (cQ r)) (h4 : 4 ≤ a) (h0 : 0 ≤ i) (hr : r[i.toNat]? = some (some x)) : ex_xs rt J C (.aaload :: is) ls (vI i :: vR a :: st) (Sh, σ) = ex_xs rt J C is ls (vR x :: st) (Sh, σ) := xs_of _ _ _ (by dsimp only [ex_st]; rw [hs]; dsimp only; rw [if_pos ⟨h4, h0, by have := (List.getElem?_eq_some_iff.mp hr).1; omega⟩, hr])
def GC (L : Nat) (B : Nat) : Prop := (4 ≤ B + 1) ∧ ((SH L)[B + 1]? = some (cO 2 [none, none, some (some (B + 2)), some (some (B + 3)), some (some (B + 4)), some (some (B + 5)), some (some (B + 6)), some (some (B + 7)), some (some (B + 8)), some (some (B + 9)), some (some (B + 10)), some (some (B + 11)), some (some (B + 12))])) ∧ ((SH L)[B + 2]? = some (cA 5)) ∧ ((SH L)[B + 3]? = some (cA 5)) ∧ ((SH L)[B + 4]? = some (cA 5)) ∧ ((SH L)[B + 5]? = some (cA 5)) ∧ ((SH L)[B + 6]? = some (cA 5)) ∧ ((SH L)[B + 7]? = some (cA 5)) ∧ ((SH L)[B + 8]? = some (cA 5)) ∧ ((SH L)[B + 9]? = some (cA 5)) ∧ ((SH L)[B + 10]? = some (cA 40)) ∧ ((SH L)[B + 11]? = some (cA 48)) ∧ ((SH L)[B + 12]? = some (cA 8))
theorem GC.f {L : Nat} {B : Nat} (h : GC L B) : 4 ≤ B + 1 := h.1
theorem GC.c1 {L : Nat} {B : Nat} (h : GC L B) : (SH L)[B + 1]? = some (cO 2 [none, none, some (some (B + 2)), some (some (B + 3)), some (some (B + 4)), some (some (B + 5)), some (some (B + 6)), some (some (B + 7)), some (some (B + 8)), some (some (B + 9)), some (some (B + 10)), some (some (B + 11)), some (some (B + 12))]) := h.2.1
theorem GC.c2 {L : Nat} {B : Nat} (h : GC L B) : (SH L)[B + 2]? = some (cA 5) := h.2.2.1
theorem GC.c3 {L : Nat} {B : Nat} (h : GC L B) : (SH L)[B + 3]? = some (cA 5) := h.2.2.2.1
theorem GC.c4 {L : Nat} {B : Nat} (h : GC L B) : (SH L)[B + 4]? = some (cA 5) := h.2.2.2.2.1
theorem GC.c5 {L : Nat} {B : Nat} (h : GC L B) : (SH L)[B + 5]? = some (cA 5) := h.2.2.2.2.2.1
theorem GC.c6 {L : Nat} {B : Nat} (h : GC L B) : (SH L)[B + 6]? = some (cA 5) := h.2.2.2.2.2.2.1
theorem GC.c7 {L : Nat} {B : Nat} (h : GC L B) : (SH L)[B + 7]? = some (cA 5) := h.2.2.2.2.2.2.2.1
theorem GC.c8 {L : Nat} {B : Nat} (h : GC L B) : (SH L)[B + 8]? = some (cA 5) := h.2.2.2.2.2.2.2.2.1
theorem GC.c9 {L : Nat} {B : Nat} (h : GC L B) : (SH L)[B + 9]? = some (cA 5) := h.2.2.2.2.2.2.2.2.2.1
theorem GC.c10 {L : Nat} {B : Nat} (h : GC L B) : (SH L)[B + 10]? = some (cA 40) := h.2.2.2.2.2.2.2.2.2.2.1
theorem GC.c11 {L : Nat} {B : Nat} (h : GC L B) : (SH L)[B + 11]? = some (cA 48) := h.2.2.2.2.2.2.2.2.2.2.2.1
theorem GC.c12 {L : Nat} {B : Nat} (h : GC L B) : (SH L)[B + 12]? = some (cA 8) := h.2.2.2.2.2.2.2.2.2.2.2.2
theorem GC.mk {L : Nat} {B : Nat} (f : 4 ≤ B + 1) (c1 : (SH L)[B + 1]? = some (cO 2 [none, none, some (some (B + 2)), some (some (B + 3)), some (some (B + 4)), some (some (B + 5)), some (some (B + 6)), some (some (B + 7)), some (some (B + 8)), some (some (B + 9)), some (some (B + 10)), some (some (B + 11)), some (some (B + 12))])) (c2 : (SH L)[B + 2]? = some (cA 5)) (c3 : (SH L)[B + 3]? = some (cA 5)) (c4 : (SH L)[B + 4]? = some (cA 5)) (c5 : (SH L)[B + 5]? = some (cA 5)) (c6 : (SH L)[B + 6]? = some (cA 5)) (c7 : (SH L)[B + 7]? = some (cA 5)) (c8 : (SH L)[B + 8]? = some (cA 5)) (c9 : (SH L)[B + 9]? = some (cA 5)) (c10 : (SH L)[B + 10]? = some (cA 40)) (c11 : (SH L)[B + 11]? = some (cA 48)) (c12 : (SH L)[B + 12]? = some (cA 8)) : GC L B := ⟨f, c1, c2, c3, c4, c5, c6, c7, c8, c9, c10, c11, c12⟩
def DC (L : Nat) (B : Nat) : Prop := (GC L B) ∧ (4 ≤ B) ∧ ((SH L)[B]? = some (cO 1 [some (some (B + 1)), some (some (B + 13)), some (some (B + 16)), some (some (B + 20)), some (some (B + 21)), some (some (B + 22)), none, none, none, none, none, none, none])) ∧ ((SH L)[B + 13]? = some (cO 4 [none, some (some (B + 14)), some (some (B + 15))])) ∧ ((SH L)[B + 14]? = some (cA 60)) ∧ ((SH L)[B + 15]? = some (cA 60)) ∧ ((SH L)[B + 16]? = some (cO 3 [none, some (some (B + 17)), some (some (B + 18)), some (some (B + 19))])) ∧ ((SH L)[B + 17]? = some (cA 30)) ∧ ((SH L)[B + 18]? = some (cA 30)) ∧ ((SH L)[B + 19]? = some (cA 30)) ∧ ((SH L)[B + 20]? = some (cA 25)) ∧ ((SH L)[B + 21]? = some (cA 16)) ∧ ((SH L)[B + 22]? = some (cA 7))
theorem DC.gc {L : Nat} {B : Nat} (h : DC L B) : GC L B := h.1
theorem DC.f {L : Nat} {B : Nat} (h : DC L B) : 4 ≤ B := h.2.1
theorem DC.c0 {L : Nat} {B : Nat} (h : DC L B) : (SH L)[B]? = some (cO 1 [some (some (B + 1)), some (some (B + 13)), some (some (B + 16)), some (some (B + 20)), some (some (B + 21)), some (some (B + 22)), none, none, none, none, none, none, none]) := h.2.2.1
theorem DC.c13 {L : Nat} {B : Nat} (h : DC L B) : (SH L)[B + 13]? = some (cO 4 [none, some (some (B + 14)), some (some (B + 15))]) := h.2.2.2.1
theorem DC.c14 {L : Nat} {B : Nat} (h : DC L B) : (SH L)[B + 14]? = some (cA 60) := h.2.2.2.2.1
theorem DC.c15 {L : Nat} {B : Nat} (h : DC L B) : (SH L)[B + 15]? = some (cA 60) := h.2.2.2.2.2.1
theorem DC.c16 {L : Nat} {B : Nat} (h : DC L B) : (SH L)[B + 16]? = some (cO 3 [none, some (some (B + 17)), some (some (B + 18)), some (some (B + 19))]) := h.2.2.2.2.2.2.1
theorem DC.c17 {L : Nat} {B : Nat} (h : DC L B) : (SH L)[B + 17]? = some (cA 30) := h.2.2.2.2.2.2.2.1
theorem DC.c18 {L : Nat} {B : Nat} (h : DC L B) : (SH L)[B + 18]? = some (cA 30) := h.2.2.2.2.2.2.2.2.1
theorem DC.c19 {L : Nat} {B : Nat} (h : DC L B) : (SH L)[B + 19]? = some (cA 30) := h.2.2.2.2.2.2.2.2.2.1
theorem DC.c20 {L : Nat} {B : Nat} (h : DC L B) : (SH L)[B + 20]? = some (cA 25) := h.2.2.2.2.2.2.2.2.2.2.1
theorem DC.c21 {L : Nat} {B : Nat} (h : DC L B) : (SH L)[B + 21]? = some (cA 16) := h.2.2.2.2.2.2.2.2.2.2.2.1
theorem DC.c22 {L : Nat} {B : Nat} (h : DC L B) : (SH L)[B + 22]? = some (cA 7) := h.2.2.2.2.2.2.2.2.2.2.2.2
theorem DC.mk {L : Nat} {B : Nat} (gc : GC L B) (f : 4 ≤ B) (c0 : (SH L)[B]? = some (cO 1 [some (some (B + 1)), some (some (B + 13)), some (some (B + 16)), some (some (B + 20)), some (some (B + 21)), some (some (B + 22)), none, none, none, none, none, none, none])) (c13 : (SH L)[B + 13]? = some (cO 4 [none, some (some (B + 14)), some (some (B + 15))])) (c14 : (SH L)[B + 14]? = some (cA 60)) (c15 : (SH L)[B + 15]? = some (cA 60)) (c16 : (SH L)[B + 16]? = some (cO 3 [none, some (some (B + 17)), some (some (B + 18)), some (some (B + 19))])) (c17 : (SH L)[B + 17]? = some (cA 30)) (c18 : (SH L)[B + 18]? = some (cA 30)) (c19 : (SH L)[B + 19]? = some (cA 30)) (c20 : (SH L)[B + 20]? = some (cA 25)) (c21 : (SH L)[B + 21]? = some (cA 16)) (c22 : (SH L)[B + 22]? = some (cA 7)) : DC L B := ⟨gc, f, c0, c13, c14, c15, c16, c17, c18, c19, c20, c21, c22⟩
theorem GC_34 (L : Nat) : GC L 34 := by
  unfold GC
  refine ⟨by decide, rfl, rfl, rfl, rfl, rfl, rfl, rfl, rfl, rfl, rfl, rfl, rfl⟩
theorem DC_5 (L : Nat) : DC L 5 := by
  unfold DC GC
  refine ⟨⟨by decide, rfl, rfl, rfl, rfl, rfl, rfl, rfl, rfl, rfl, rfl, rfl, rfl⟩, by decide, rfl, rfl, rfl, rfl, rfl, rfl, rfl, rfl, rfl, rfl, rfl⟩
set_option maxRecDepth 100000 in
theorem dc_ta0 : ((List.range 16).all fun k => decide (SHT[63 + 23 * k + 0]? = some (cO 1 [some (some (64 + 23 * k + 1)), some (some (64 + 23 * k + 13)), some (some (64 + 23 * k + 16)), some (some (64 + 23 * k + 20)), some (some (64 + 23 * k + 21)), some (some (64 + 23 * k + 22)), none, none, none, none, none, none, none]))) = true := by decide +kernel
theorem dc_tab0 {k : Nat} (hk : k < 16) : SHT[63 + 23 * k + 0]? = some (cO 1 [some (some (64 + 23 * k + 1)), some (some (64 + 23 * k + 13)), some (some (64 + 23 * k + 16)), some (some (64 + 23 * k + 20)), some (some (64 + 23 * k + 21)), some (some (64 + 23 * k + 22)), none, none, none, none, none, none, none]) := of_decide_eq_true (List.all_eq_true.mp dc_ta0 k (List.mem_range.mpr hk))
set_option maxRecDepth 100000 in
theorem dc_ta1 : ((List.range 16).all fun k => decide (SHT[63 + 23 * k + 1]? = some (cO 2 [none, none, some (some (64 + 23 * k + 2)), some (some (64 + 23 * k + 3)), some (some (64 + 23 * k + 4)), some (some (64 + 23 * k + 5)), some (some (64 + 23 * k + 6)), some (some (64 + 23 * k + 7)), some (some (64 + 23 * k + 8)), some (some (64 + 23 * k + 9)), some (some (64 + 23 * k + 10)), some (some (64 + 23 * k + 11)), some (some (64 + 23 * k + 12))]))) = true := by decide +kernel
theorem dc_tab1 {k : Nat} (hk : k < 16) : SHT[63 + 23 * k + 1]? = some (cO 2 [none, none, some (some (64 + 23 * k + 2)), some (some (64 + 23 * k + 3)), some (some (64 + 23 * k + 4)), some (some (64 + 23 * k + 5)), some (some (64 + 23 * k + 6)), some (some (64 + 23 * k + 7)), some (some (64 + 23 * k + 8)), some (some (64 + 23 * k + 9)), some (some (64 + 23 * k + 10)), some (some (64 + 23 * k + 11)), some (some (64 + 23 * k + 12))]) := of_decide_eq_true (List.all_eq_true.mp dc_ta1 k (List.mem_range.mpr hk))
set_option maxRecDepth 100000 in
theorem dc_ta2 : ((List.range 16).all fun k => decide (SHT[63 + 23 * k + 2]? = some (cA 5))) = true := by decide +kernel
theorem dc_tab2 {k : Nat} (hk : k < 16) : SHT[63 + 23 * k + 2]? = some (cA 5) := of_decide_eq_true (List.all_eq_true.mp dc_ta2 k (List.mem_range.mpr hk))
set_option maxRecDepth 100000 in
theorem dc_ta3 : ((List.range 16).all fun k => decide (SHT[63 + 23 * k + 3]? = some (cA 5))) = true := by decide +kernel
theorem dc_tab3 {k : Nat} (hk : k < 16) : SHT[63 + 23 * k + 3]? = some (cA 5) := of_decide_eq_true (List.all_eq_true.mp dc_ta3 k (List.mem_range.mpr hk))
set_option maxRecDepth 100000 in
theorem dc_ta4 : ((List.range 16).all fun k => decide (SHT[63 + 23 * k + 4]? = some (cA 5))) = true := by decide +kernel
theorem dc_tab4 {k : Nat} (hk : k < 16) : SHT[63 + 23 * k + 4]? = some (cA 5) := of_decide_eq_true (List.all_eq_true.mp dc_ta4 k (List.mem_range.mpr hk))
set_option maxRecDepth 100000 in
theorem dc_ta5 : ((List.range 16).all fun k => decide (SHT[63 + 23 * k + 5]? = some (cA 5))) = true := by decide +kernel
theorem dc_tab5 {k : Nat} (hk : k < 16) : SHT[63 + 23 * k + 5]? = some (cA 5) := of_decide_eq_true (List.all_eq_true.mp dc_ta5 k (List.mem_range.mpr hk))
set_option maxRecDepth 100000 in
theorem dc_ta6 : ((List.range 16).all fun k => decide (SHT[63 + 23 * k + 6]? = some (cA 5))) = true := by decide +kernel
theorem dc_tab6 {k : Nat} (hk : k < 16) : SHT[63 + 23 * k + 6]? = some (cA 5) := of_decide_eq_true (List.all_eq_true.mp dc_ta6 k (List.mem_range.mpr hk))
set_option maxRecDepth 100000 in
theorem dc_ta7 : ((List.range 16).all fun k => decide (SHT[63 + 23 * k + 7]? = some (cA 5))) = true := by decide +kernel
theorem dc_tab7 {k : Nat} (hk : k < 16) : SHT[63 + 23 * k + 7]? = some (cA 5) := of_decide_eq_true (List.all_eq_true.mp dc_ta7 k (List.mem_range.mpr hk))
set_option maxRecDepth 100000 in
theorem dc_ta8 : ((List.range 16).all fun k => decide (SHT[63 + 23 * k + 8]? = some (cA 5))) = true := by decide +kernel
theorem dc_tab8 {k : Nat} (hk : k < 16) : SHT[63 + 23 * k + 8]? = some (cA 5) := of_decide_eq_true (List.all_eq_true.mp dc_ta8 k (List.mem_range.mpr hk))
set_option maxRecDepth 100000 in
theorem dc_ta9 : ((List.range 16).all fun k => decide (SHT[63 + 23 * k + 9]? = some (cA 5))) = true := by decide +kernel
theorem dc_tab9 {k : Nat} (hk : k < 16) : SHT[63 + 23 * k + 9]? = some (cA 5) := of_decide_eq_true (List.all_eq_true.mp dc_ta9 k (List.mem_range.mpr hk))
set_option maxRecDepth 100000 in
theorem dc_ta10 : ((List.range 16).all fun k => decide (SHT[63 + 23 * k + 10]? = some (cA 40))) = true := by decide +kernel
theorem dc_tab10 {k : Nat} (hk : k < 16) : SHT[63 + 23 * k + 10]? = some (cA 40) := of_decide_eq_true (List.all_eq_true.mp dc_ta10 k (List.mem_range.mpr hk))
set_option maxRecDepth 100000 in
theorem dc_ta11 : ((List.range 16).all fun k => decide (SHT[63 + 23 * k + 11]? = some (cA 48))) = true := by decide +kernel
theorem dc_tab11 {k : Nat} (hk : k < 16) : SHT[63 + 23 * k + 11]? = some (cA 48) := of_decide_eq_true (List.all_eq_true.mp dc_ta11 k (List.mem_range.mpr hk))
set_option maxRecDepth 100000 in
theorem dc_ta12 : ((List.range 16).all fun k => decide (SHT[63 + 23 * k + 12]? = some (cA 8))) = true := by decide +kernel
theorem dc_tab12 {k : Nat} (hk : k < 16) : SHT[63 + 23 * k + 12]? = some (cA 8) := of_decide_eq_true (List.all_eq_true.mp dc_ta12 k (List.mem_range.mpr hk))
set_option maxRecDepth 100000 in
theorem dc_ta13 : ((List.range 16).all fun k => decide (SHT[63 + 23 * k + 13]? = some (cO 4 [none, some (some (64 + 23 * k + 14)), some (some (64 + 23 * k + 15))]))) = true := by decide +kernel
theorem dc_tab13 {k : Nat} (hk : k < 16) : SHT[63 + 23 * k + 13]? = some (cO 4 [none, some (some (64 + 23 * k + 14)), some (some (64 + 23 * k + 15))]) := of_decide_eq_true (List.all_eq_true.mp dc_ta13 k (List.mem_range.mpr hk))
set_option maxRecDepth 100000 in
theorem dc_ta14 : ((List.range 16).all fun k => decide (SHT[63 + 23 * k + 14]? = some (cA 60))) = true := by decide +kernel
theorem dc_tab14 {k : Nat} (hk : k < 16) : SHT[63 + 23 * k + 14]? = some (cA 60) := of_decide_eq_true (List.all_eq_true.mp dc_ta14 k (List.mem_range.mpr hk))
set_option maxRecDepth 100000 in
theorem dc_ta15 : ((List.range 16).all fun k => decide (SHT[63 + 23 * k + 15]? = some (cA 60))) = true := by decide +kernel
theorem dc_tab15 {k : Nat} (hk : k < 16) : SHT[63 + 23 * k + 15]? = some (cA 60) := of_decide_eq_true (List.all_eq_true.mp dc_ta15 k (List.mem_range.mpr hk))
set_option maxRecDepth 100000 in
theorem dc_ta16 : ((List.range 16).all fun k => decide (SHT[63 + 23 * k + 16]? = some (cO 3 [none, some (some (64 + 23 * k + 17)), some (some (64 + 23 * k + 18)), some (some (64 + 23 * k + 19))]))) = true := by decide +kernel
theorem dc_tab16 {k : Nat} (hk : k < 16) : SHT[63 + 23 * k + 16]? = some (cO 3 [none, some (some (64 + 23 * k + 17)), some (some (64 + 23 * k + 18)), some (some (64 + 23 * k + 19))]) := of_decide_eq_true (List.all_eq_true.mp dc_ta16 k (List.mem_range.mpr hk))
set_option maxRecDepth 100000 in
theorem dc_ta17 : ((List.range 16).all fun k => decide (SHT[63 + 23 * k + 17]? = some (cA 30))) = true := by decide +kernel
theorem dc_tab17 {k : Nat} (hk : k < 16) : SHT[63 + 23 * k + 17]? = some (cA 30) := of_decide_eq_true (List.all_eq_true.mp dc_ta17 k (List.mem_range.mpr hk))
set_option maxRecDepth 100000 in
theorem dc_ta18 : ((List.range 16).all fun k => decide (SHT[63 + 23 * k + 18]? = some (cA 30))) = true := by decide +kernel
theorem dc_tab18 {k : Nat} (hk : k < 16) : SHT[63 + 23 * k + 18]? = some (cA 30) := of_decide_eq_true (List.all_eq_true.mp dc_ta18 k (List.mem_range.mpr hk))
set_option maxRecDepth 100000 in
theorem dc_ta19 : ((List.range 16).all fun k => decide (SHT[63 + 23 * k + 19]? = some (cA 30))) = true := by decide +kernel
theorem dc_tab19 {k : Nat} (hk : k < 16) : SHT[63 + 23 * k + 19]? = some (cA 30) := of_decide_eq_true (List.all_eq_true.mp dc_ta19 k (List.mem_range.mpr hk))
set_option maxRecDepth 100000 in
theorem dc_ta20 : ((List.range 16).all fun k => decide (SHT[63 + 23 * k + 20]? = some (cA 25))) = true := by decide +kernel
theorem dc_tab20 {k : Nat} (hk : k < 16) : SHT[63 + 23 * k + 20]? = some (cA 25) := of_decide_eq_true (List.all_eq_true.mp dc_ta20 k (List.mem_range.mpr hk))
set_option maxRecDepth 100000 in
theorem dc_ta21 : ((List.range 16).all fun k => decide (SHT[63 + 23 * k + 21]? = some (cA 16))) = true := by decide +kernel
theorem dc_tab21 {k : Nat} (hk : k < 16) : SHT[63 + 23 * k + 21]? = some (cA 16) := of_decide_eq_true (List.all_eq_true.mp dc_ta21 k (List.mem_range.mpr hk))
set_option maxRecDepth 100000 in
theorem dc_ta22 : ((List.range 16).all fun k => decide (SHT[63 + 23 * k + 22]? = some (cA 7))) = true := by decide +kernel
theorem dc_tab22 {k : Nat} (hk : k < 16) : SHT[63 + 23 * k + 22]? = some (cA 7) := of_decide_eq_true (List.all_eq_true.mp dc_ta22 k (List.mem_range.mpr hk))
theorem DC_k (L : Nat) {k : Nat} (hk : k < 16) : DC L (64 + 23 * k) := by
  unfold DC GC
  have e : ∀ j : Nat, (SH L)[64 + 23 * k + j]? = SHT[63 + 23 * k + j]? := fun j => by rw [show 64 + 23 * k + j = (63 + 23 * k + j) + 1 by omega]; rfl
  have e0 := e 0
  rw [Nat.add_zero, Nat.add_zero] at e0
  rw [e0, e 1, e 2, e 3, e 4, e 5, e 6, e 7, e 8, e 9, e 10, e 11, e 12, e 13, e 14, e 15, e 16, e 17, e 18, e 19, e 20, e 21, e 22]
  exact ⟨⟨by omega, dc_tab1 hk, dc_tab2 hk, dc_tab3 hk, dc_tab4 hk, dc_tab5 hk, dc_tab6 hk, dc_tab7 hk, dc_tab8 hk, dc_tab9 hk, dc_tab10 hk, dc_tab11 hk, dc_tab12 hk⟩, by omega, dc_tab0 hk, dc_tab13 hk, dc_tab14 hk, dc_tab15 hk, dc_tab16 hk, dc_tab17 hk, dc_tab18 hk, dc_tab19 hk, dc_tab20 hk, dc_tab21 hk, dc_tab22 hk⟩
section BC
variable {rt : Nat} {J : Nat → List ex_V → List ex_V → ex_H → Option ex_R} {C : Nat → List ex_V → ex_H → Option ex_R} {is : List Instr} {ls st : List ex_V} {L A B : Nat} {σ : ex_S}
theorem bgf_32 (h : DC L B) : ex_xs rt J C (.getfield 32 :: is) ls (vR (B) :: st) (SH L, σ) = ex_xs rt J C is ls (vR (B + 1) :: st) (SH L, σ) := x_getR h.c0 (by have := h.f; omega) rfl rfl
theorem bgf_33 (h : DC L B) : ex_xs rt J C (.getfield 33 :: is) ls (vR (B) :: st) (SH L, σ) = ex_xs rt J C is ls (vR (B + 13) :: st) (SH L, σ) := x_getR h.c0 (by have := h.f; omega) rfl rfl
theorem bgf_34 (h : DC L B) : ex_xs rt J C (.getfield 34 :: is) ls (vR (B) :: st) (SH L, σ) = ex_xs rt J C is ls (vR (B + 16) :: st) (SH L, σ) := x_getR h.c0 (by have := h.f; omega) rfl rfl
theorem bgf_35 (h : DC L B) : ex_xs rt J C (.getfield 35 :: is) ls (vR (B) :: st) (SH L, σ) = ex_xs rt J C is ls (vR (B + 20) :: st) (SH L, σ) := x_getR h.c0 (by have := h.f; omega) rfl rfl
theorem bln_20 (h : DC L B) : ex_xs rt J C (.arraylength :: is) ls (vR (B + 20) :: st) (SH L, σ) = ex_xs rt J C is ls (vI 25 :: st) (SH L, σ) := x_aln (n := 25) h.c20
theorem bcp_20 (h : DC L A) (h2 : DC L B) (hok : okN 8 st = true) : ex_xs rt J C (.invokedynamic 0 :: is) ls (vI 25 :: vI 0 :: vR (B + 20) :: vI 0 :: vR (A + 20) :: st) (SH L, σ) = ex_xs rt J C is ls st (SH L, cp1 σ (B + 20) (A + 20) 25) := x_cpy h.c20 h2.c20 (by have := h.f; omega) (by have := h2.f; omega) (by decide) (by decide) (by decide) (by decide) (by decide) (okN_ok hok)
theorem bgf_36 (h : DC L B) : ex_xs rt J C (.getfield 36 :: is) ls (vR (B) :: st) (SH L, σ) = ex_xs rt J C is ls (vR (B + 21) :: st) (SH L, σ) := x_getR h.c0 (by have := h.f; omega) rfl rfl
theorem bln_21 (h : DC L B) : ex_xs rt J C (.arraylength :: is) ls (vR (B + 21) :: st) (SH L, σ) = ex_xs rt J C is ls (vI 16 :: st) (SH L, σ) := x_aln (n := 16) h.c21
theorem bcp_21 (h : DC L A) (h2 : DC L B) (hok : okN 8 st = true) : ex_xs rt J C (.invokedynamic 0 :: is) ls (vI 16 :: vI 0 :: vR (B + 21) :: vI 0 :: vR (A + 21) :: st) (SH L, σ) = ex_xs rt J C is ls st (SH L, cp1 σ (B + 21) (A + 21) 16) := x_cpy h.c21 h2.c21 (by have := h.f; omega) (by have := h2.f; omega) (by decide) (by decide) (by decide) (by decide) (by decide) (okN_ok hok)
theorem bgf_37 (h : DC L B) : ex_xs rt J C (.getfield 37 :: is) ls (vR (B) :: st) (SH L, σ) = ex_xs rt J C is ls (vR (B + 22) :: st) (SH L, σ) := x_getR h.c0 (by have := h.f; omega) rfl rfl
theorem bln_22 (h : DC L B) : ex_xs rt J C (.arraylength :: is) ls (vR (B + 22) :: st) (SH L, σ) = ex_xs rt J C is ls (vI 7 :: st) (SH L, σ) := x_aln (n := 7) h.c22
theorem bcp_22 (h : DC L A) (h2 : DC L B) (hok : okN 8 st = true) : ex_xs rt J C (.invokedynamic 0 :: is) ls (vI 7 :: vI 0 :: vR (B + 22) :: vI 0 :: vR (A + 22) :: st) (SH L, σ) = ex_xs rt J C is ls st (SH L, cp1 σ (B + 22) (A + 22) 7) := x_cpy h.c22 h2.c22 (by have := h.f; omega) (by have := h2.f; omega) (by decide) (by decide) (by decide) (by decide) (by decide) (okN_ok hok)
theorem bpf_38 (h : DC L A) (h2 : DC L B) : ex_xs rt J C (.getfield 38 :: .putfield 38 :: is) ls (vR (A) :: vR (B) :: st) (SH L, σ) = ex_xs rt J C is ls st (SH L, pf1 σ (B) (A) 6) := by
  rw [x_getI (k := 6) h.c0 (by have := h.f; omega) rfl rfl rfl, x_putI (k := 6) h2.c0 (by have := h2.f; omega) rfl rfl rfl]
  rfl
theorem bpf_39 (h : DC L A) (h2 : DC L B) : ex_xs rt J C (.getfield 39 :: .putfield 39 :: is) ls (vR (A) :: vR (B) :: st) (SH L, σ) = ex_xs rt J C is ls st (SH L, pf1 σ (B) (A) 7) := by
  rw [x_getI (k := 7) h.c0 (by have := h.f; omega) rfl rfl rfl, x_putI (k := 7) h2.c0 (by have := h2.f; omega) rfl rfl rfl]
  rfl
theorem bpf_40 (h : DC L A) (h2 : DC L B) : ex_xs rt J C (.getfield 40 :: .putfield 40 :: is) ls (vR (A) :: vR (B) :: st) (SH L, σ) = ex_xs rt J C is ls st (SH L, pf1 σ (B) (A) 8) := by
  rw [x_getI (k := 8) h.c0 (by have := h.f; omega) rfl rfl rfl, x_putI (k := 8) h2.c0 (by have := h2.f; omega) rfl rfl rfl]
  rfl
theorem bpf_41 (h : DC L A) (h2 : DC L B) : ex_xs rt J C (.getfield 41 :: .putfield 41 :: is) ls (vR (A) :: vR (B) :: st) (SH L, σ) = ex_xs rt J C is ls st (SH L, pf1 σ (B) (A) 9) := by
  rw [x_getI (k := 9) h.c0 (by have := h.f; omega) rfl rfl rfl, x_putI (k := 9) h2.c0 (by have := h2.f; omega) rfl rfl rfl]
  rfl
theorem bpf_42 (h : DC L A) (h2 : DC L B) : ex_xs rt J C (.getfield 42 :: .putfield 42 :: is) ls (vR (A) :: vR (B) :: st) (SH L, σ) = ex_xs rt J C is ls st (SH L, pf1 σ (B) (A) 10) := by
  rw [x_getI (k := 10) h.c0 (by have := h.f; omega) rfl rfl rfl, x_putI (k := 10) h2.c0 (by have := h2.f; omega) rfl rfl rfl]
  rfl
theorem bpf_43 (h : DC L A) (h2 : DC L B) : ex_xs rt J C (.getfield 43 :: .putfield 43 :: is) ls (vR (A) :: vR (B) :: st) (SH L, σ) = ex_xs rt J C is ls st (SH L, pf1 σ (B) (A) 11) := by
  rw [x_getI (k := 11) h.c0 (by have := h.f; omega) rfl rfl rfl, x_putI (k := 11) h2.c0 (by have := h2.f; omega) rfl rfl rfl]
  rfl
theorem bpf_44 (h : DC L A) (h2 : DC L B) : ex_xs rt J C (.getfield 44 :: .putfield 44 :: is) ls (vR (A) :: vR (B) :: st) (SH L, σ) = ex_xs rt J C is ls st (SH L, pf1 σ (B) (A) 12) := by
  rw [x_getI (k := 12) h.c0 (by have := h.f; omega) rfl rfl rfl, x_putI (k := 12) h2.c0 (by have := h2.f; omega) rfl rfl rfl]
  rfl
theorem bgf_66 (h : GC L B) : ex_xs rt J C (.getfield 66 :: is) ls (vR (B + 1) :: st) (SH L, σ) = ex_xs rt J C is ls (vR (B + 2) :: st) (SH L, σ) := x_getR h.c1 (by have := h.f; omega) rfl rfl
theorem bln_2 (h : GC L B) : ex_xs rt J C (.arraylength :: is) ls (vR (B + 2) :: st) (SH L, σ) = ex_xs rt J C is ls (vI 5 :: st) (SH L, σ) := x_aln (n := 5) h.c2
theorem bcp_2 (h : GC L A) (h2 : GC L B) (hok : okN 8 st = true) : ex_xs rt J C (.invokedynamic 0 :: is) ls (vI 5 :: vI 0 :: vR (B + 2) :: vI 0 :: vR (A + 2) :: st) (SH L, σ) = ex_xs rt J C is ls st (SH L, cp1 σ (B + 2) (A + 2) 5) := x_cpy h.c2 h2.c2 (by have := h.f; omega) (by have := h2.f; omega) (by decide) (by decide) (by decide) (by decide) (by decide) (okN_ok hok)
theorem bgf_67 (h : GC L B) : ex_xs rt J C (.getfield 67 :: is) ls (vR (B + 1) :: st) (SH L, σ) = ex_xs rt J C is ls (vR (B + 3) :: st) (SH L, σ) := x_getR h.c1 (by have := h.f; omega) rfl rfl
theorem bln_3 (h : GC L B) : ex_xs rt J C (.arraylength :: is) ls (vR (B + 3) :: st) (SH L, σ) = ex_xs rt J C is ls (vI 5 :: st) (SH L, σ) := x_aln (n := 5) h.c3
theorem bcp_3 (h : GC L A) (h2 : GC L B) (hok : okN 8 st = true) : ex_xs rt J C (.invokedynamic 0 :: is) ls (vI 5 :: vI 0 :: vR (B + 3) :: vI 0 :: vR (A + 3) :: st) (SH L, σ) = ex_xs rt J C is ls st (SH L, cp1 σ (B + 3) (A + 3) 5) := x_cpy h.c3 h2.c3 (by have := h.f; omega) (by have := h2.f; omega) (by decide) (by decide) (by decide) (by decide) (by decide) (okN_ok hok)
theorem bgf_68 (h : GC L B) : ex_xs rt J C (.getfield 68 :: is) ls (vR (B + 1) :: st) (SH L, σ) = ex_xs rt J C is ls (vR (B + 4) :: st) (SH L, σ) := x_getR h.c1 (by have := h.f; omega) rfl rfl
theorem bln_4 (h : GC L B) : ex_xs rt J C (.arraylength :: is) ls (vR (B + 4) :: st) (SH L, σ) = ex_xs rt J C is ls (vI 5 :: st) (SH L, σ) := x_aln (n := 5) h.c4
theorem bcp_4 (h : GC L A) (h2 : GC L B) (hok : okN 8 st = true) : ex_xs rt J C (.invokedynamic 0 :: is) ls (vI 5 :: vI 0 :: vR (B + 4) :: vI 0 :: vR (A + 4) :: st) (SH L, σ) = ex_xs rt J C is ls st (SH L, cp1 σ (B + 4) (A + 4) 5) := x_cpy h.c4 h2.c4 (by have := h.f; omega) (by have := h2.f; omega) (by decide) (by decide) (by decide) (by decide) (by decide) (okN_ok hok)
theorem bgf_69 (h : GC L B) : ex_xs rt J C (.getfield 69 :: is) ls (vR (B + 1) :: st) (SH L, σ) = ex_xs rt J C is ls (vR (B + 5) :: st) (SH L, σ) := x_getR h.c1 (by have := h.f; omega) rfl rfl
theorem bln_5 (h : GC L B) : ex_xs rt J C (.arraylength :: is) ls (vR (B + 5) :: st) (SH L, σ) = ex_xs rt J C is ls (vI 5 :: st) (SH L, σ) := x_aln (n := 5) h.c5
theorem bcp_5 (h : GC L A) (h2 : GC L B) (hok : okN 8 st = true) : ex_xs rt J C (.invokedynamic 0 :: is) ls (vI 5 :: vI 0 :: vR (B + 5) :: vI 0 :: vR (A + 5) :: st) (SH L, σ) = ex_xs rt J C is ls st (SH L, cp1 σ (B + 5) (A + 5) 5) := x_cpy h.c5 h2.c5 (by have := h.f; omega) (by have := h2.f; omega) (by decide) (by decide) (by decide) (by decide) (by decide) (okN_ok hok)
theorem bgf_70 (h : GC L B) : ex_xs rt J C (.getfield 70 :: is) ls (vR (B + 1) :: st) (SH L, σ) = ex_xs rt J C is ls (vR (B + 6) :: st) (SH L, σ) := x_getR h.c1 (by have := h.f; omega) rfl rfl
theorem bln_6 (h : GC L B) : ex_xs rt J C (.arraylength :: is) ls (vR (B + 6) :: st) (SH L, σ) = ex_xs rt J C is ls (vI 5 :: st) (SH L, σ) := x_aln (n := 5) h.c6
theorem bcp_6 (h : GC L A) (h2 : GC L B) (hok : okN 8 st = true) : ex_xs rt J C (.invokedynamic 0 :: is) ls (vI 5 :: vI 0 :: vR (B + 6) :: vI 0 :: vR (A + 6) :: st) (SH L, σ) = ex_xs rt J C is ls st (SH L, cp1 σ (B + 6) (A + 6) 5) := x_cpy h.c6 h2.c6 (by have := h.f; omega) (by have := h2.f; omega) (by decide) (by decide) (by decide) (by decide) (by decide) (okN_ok hok)
theorem bgf_71 (h : GC L B) : ex_xs rt J C (.getfield 71 :: is) ls (vR (B + 1) :: st) (SH L, σ) = ex_xs rt J C is ls (vR (B + 7) :: st) (SH L, σ) := x_getR h.c1 (by have := h.f; omega) rfl rfl
theorem bln_7 (h : GC L B) : ex_xs rt J C (.arraylength :: is) ls (vR (B + 7) :: st) (SH L, σ) = ex_xs rt J C is ls (vI 5 :: st) (SH L, σ) := x_aln (n := 5) h.c7
theorem bcp_7 (h : GC L A) (h2 : GC L B) (hok : okN 8 st = true) : ex_xs rt J C (.invokedynamic 0 :: is) ls (vI 5 :: vI 0 :: vR (B + 7) :: vI 0 :: vR (A + 7) :: st) (SH L, σ) = ex_xs rt J C is ls st (SH L, cp1 σ (B + 7) (A + 7) 5) := x_cpy h.c7 h2.c7 (by have := h.f; omega) (by have := h2.f; omega) (by decide) (by decide) (by decide) (by decide) (by decide) (okN_ok hok)
theorem bgf_72 (h : GC L B) : ex_xs rt J C (.getfield 72 :: is) ls (vR (B + 1) :: st) (SH L, σ) = ex_xs rt J C is ls (vR (B + 8) :: st) (SH L, σ) := x_getR h.c1 (by have := h.f; omega) rfl rfl
theorem bln_8 (h : GC L B) : ex_xs rt J C (.arraylength :: is) ls (vR (B + 8) :: st) (SH L, σ) = ex_xs rt J C is ls (vI 5 :: st) (SH L, σ) := x_aln (n := 5) h.c8
theorem bcp_8 (h : GC L A) (h2 : GC L B) (hok : okN 8 st = true) : ex_xs rt J C (.invokedynamic 0 :: is) ls (vI 5 :: vI 0 :: vR (B + 8) :: vI 0 :: vR (A + 8) :: st) (SH L, σ) = ex_xs rt J C is ls st (SH L, cp1 σ (B + 8) (A + 8) 5) := x_cpy h.c8 h2.c8 (by have := h.f; omega) (by have := h2.f; omega) (by decide) (by decide) (by decide) (by decide) (by decide) (okN_ok hok)
theorem bgf_73 (h : GC L B) : ex_xs rt J C (.getfield 73 :: is) ls (vR (B + 1) :: st) (SH L, σ) = ex_xs rt J C is ls (vR (B + 9) :: st) (SH L, σ) := x_getR h.c1 (by have := h.f; omega) rfl rfl
theorem bln_9 (h : GC L B) : ex_xs rt J C (.arraylength :: is) ls (vR (B + 9) :: st) (SH L, σ) = ex_xs rt J C is ls (vI 5 :: st) (SH L, σ) := x_aln (n := 5) h.c9
theorem bcp_9 (h : GC L A) (h2 : GC L B) (hok : okN 8 st = true) : ex_xs rt J C (.invokedynamic 0 :: is) ls (vI 5 :: vI 0 :: vR (B + 9) :: vI 0 :: vR (A + 9) :: st) (SH L, σ) = ex_xs rt J C is ls st (SH L, cp1 σ (B + 9) (A + 9) 5) := x_cpy h.c9 h2.c9 (by have := h.f; omega) (by have := h2.f; omega) (by decide) (by decide) (by decide) (by decide) (by decide) (okN_ok hok)
theorem bgf_74 (h : GC L B) : ex_xs rt J C (.getfield 74 :: is) ls (vR (B + 1) :: st) (SH L, σ) = ex_xs rt J C is ls (vR (B + 10) :: st) (SH L, σ) := x_getR h.c1 (by have := h.f; omega) rfl rfl
theorem bln_10 (h : GC L B) : ex_xs rt J C (.arraylength :: is) ls (vR (B + 10) :: st) (SH L, σ) = ex_xs rt J C is ls (vI 40 :: st) (SH L, σ) := x_aln (n := 40) h.c10
theorem bcp_10 (h : GC L A) (h2 : GC L B) (hok : okN 8 st = true) : ex_xs rt J C (.invokedynamic 0 :: is) ls (vI 40 :: vI 0 :: vR (B + 10) :: vI 0 :: vR (A + 10) :: st) (SH L, σ) = ex_xs rt J C is ls st (SH L, cp1 σ (B + 10) (A + 10) 40) := x_cpy h.c10 h2.c10 (by have := h.f; omega) (by have := h2.f; omega) (by decide) (by decide) (by decide) (by decide) (by decide) (okN_ok hok)
theorem bgf_75 (h : GC L B) : ex_xs rt J C (.getfield 75 :: is) ls (vR (B + 1) :: st) (SH L, σ) = ex_xs rt J C is ls (vR (B + 11) :: st) (SH L, σ) := x_getR h.c1 (by have := h.f; omega) rfl rfl
theorem bln_11 (h : GC L B) : ex_xs rt J C (.arraylength :: is) ls (vR (B + 11) :: st) (SH L, σ) = ex_xs rt J C is ls (vI 48 :: st) (SH L, σ) := x_aln (n := 48) h.c11
theorem bcp_11 (h : GC L A) (h2 : GC L B) (hok : okN 8 st = true) : ex_xs rt J C (.invokedynamic 0 :: is) ls (vI 48 :: vI 0 :: vR (B + 11) :: vI 0 :: vR (A + 11) :: st) (SH L, σ) = ex_xs rt J C is ls st (SH L, cp1 σ (B + 11) (A + 11) 48) := x_cpy h.c11 h2.c11 (by have := h.f; omega) (by have := h2.f; omega) (by decide) (by decide) (by decide) (by decide) (by decide) (okN_ok hok)
theorem bgf_76 (h : GC L B) : ex_xs rt J C (.getfield 76 :: is) ls (vR (B + 1) :: st) (SH L, σ) = ex_xs rt J C is ls (vR (B + 12) :: st) (SH L, σ) := x_getR h.c1 (by have := h.f; omega) rfl rfl
theorem bln_12 (h : GC L B) : ex_xs rt J C (.arraylength :: is) ls (vR (B + 12) :: st) (SH L, σ) = ex_xs rt J C is ls (vI 8 :: st) (SH L, σ) := x_aln (n := 8) h.c12
theorem bcp_12 (h : GC L A) (h2 : GC L B) (hok : okN 8 st = true) : ex_xs rt J C (.invokedynamic 0 :: is) ls (vI 8 :: vI 0 :: vR (B + 12) :: vI 0 :: vR (A + 12) :: st) (SH L, σ) = ex_xs rt J C is ls st (SH L, cp1 σ (B + 12) (A + 12) 8) := x_cpy h.c12 h2.c12 (by have := h.f; omega) (by have := h2.f; omega) (by decide) (by decide) (by decide) (by decide) (by decide) (okN_ok hok)
theorem bpf_64 (h : GC L A) (h2 : GC L B) : ex_xs rt J C (.getfield 64 :: .putfield 64 :: is) ls (vR (A + 1) :: vR (B + 1) :: st) (SH L, σ) = ex_xs rt J C is ls st (SH L, pf1 σ (B + 1) (A + 1) 0) := by
  rw [x_getI (k := 0) h.c1 (by have := h.f; omega) rfl rfl rfl, x_putI (k := 0) h2.c1 (by have := h2.f; omega) rfl rfl rfl]
  rfl
theorem bpf_65 (h : GC L A) (h2 : GC L B) : ex_xs rt J C (.getfield 65 :: .putfield 65 :: is) ls (vR (A + 1) :: vR (B + 1) :: st) (SH L, σ) = ex_xs rt J C is ls st (SH L, pf1 σ (B + 1) (A + 1) 1) := by
  rw [x_getI (k := 1) h.c1 (by have := h.f; omega) rfl rfl rfl, x_putI (k := 1) h2.c1 (by have := h2.f; omega) rfl rfl rfl]
  rfl
theorem bgf_129 (h : DC L B) : ex_xs rt J C (.getfield 129 :: is) ls (vR (B + 13) :: st) (SH L, σ) = ex_xs rt J C is ls (vR (B + 14) :: st) (SH L, σ) := x_getR h.c13 (by have := h.f; omega) rfl rfl
theorem bln_14 (h : DC L B) : ex_xs rt J C (.arraylength :: is) ls (vR (B + 14) :: st) (SH L, σ) = ex_xs rt J C is ls (vI 60 :: st) (SH L, σ) := x_aln (n := 60) h.c14
theorem bcp_14 (h : DC L A) (h2 : DC L B) (hok : okN 8 st = true) : ex_xs rt J C (.invokedynamic 0 :: is) ls (vI 60 :: vI 0 :: vR (B + 14) :: vI 0 :: vR (A + 14) :: st) (SH L, σ) = ex_xs rt J C is ls st (SH L, cp1 σ (B + 14) (A + 14) 60) := x_cpy h.c14 h2.c14 (by have := h.f; omega) (by have := h2.f; omega) (by decide) (by decide) (by decide) (by decide) (by decide) (okN_ok hok)
theorem bgf_130 (h : DC L B) : ex_xs rt J C (.getfield 130 :: is) ls (vR (B + 13) :: st) (SH L, σ) = ex_xs rt J C is ls (vR (B + 15) :: st) (SH L, σ) := x_getR h.c13 (by have := h.f; omega) rfl rfl
theorem bln_15 (h : DC L B) : ex_xs rt J C (.arraylength :: is) ls (vR (B + 15) :: st) (SH L, σ) = ex_xs rt J C is ls (vI 60 :: st) (SH L, σ) := x_aln (n := 60) h.c15
theorem bcp_15 (h : DC L A) (h2 : DC L B) (hok : okN 8 st = true) : ex_xs rt J C (.invokedynamic 0 :: is) ls (vI 60 :: vI 0 :: vR (B + 15) :: vI 0 :: vR (A + 15) :: st) (SH L, σ) = ex_xs rt J C is ls st (SH L, cp1 σ (B + 15) (A + 15) 60) := x_cpy h.c15 h2.c15 (by have := h.f; omega) (by have := h2.f; omega) (by decide) (by decide) (by decide) (by decide) (by decide) (okN_ok hok)
theorem bpf_128 (h : DC L A) (h2 : DC L B) : ex_xs rt J C (.getfield 128 :: .putfield 128 :: is) ls (vR (A + 13) :: vR (B + 13) :: st) (SH L, σ) = ex_xs rt J C is ls st (SH L, pf1 σ (B + 13) (A + 13) 0) := by
  rw [x_getI (k := 0) h.c13 (by have := h.f; omega) rfl rfl rfl, x_putI (k := 0) h2.c13 (by have := h2.f; omega) rfl rfl rfl]
  rfl
theorem bgf_97 (h : DC L B) : ex_xs rt J C (.getfield 97 :: is) ls (vR (B + 16) :: st) (SH L, σ) = ex_xs rt J C is ls (vR (B + 17) :: st) (SH L, σ) := x_getR h.c16 (by have := h.f; omega) rfl rfl
theorem bln_17 (h : DC L B) : ex_xs rt J C (.arraylength :: is) ls (vR (B + 17) :: st) (SH L, σ) = ex_xs rt J C is ls (vI 30 :: st) (SH L, σ) := x_aln (n := 30) h.c17
theorem bcp_17 (h : DC L A) (h2 : DC L B) (hok : okN 8 st = true) : ex_xs rt J C (.invokedynamic 0 :: is) ls (vI 30 :: vI 0 :: vR (B + 17) :: vI 0 :: vR (A + 17) :: st) (SH L, σ) = ex_xs rt J C is ls st (SH L, cp1 σ (B + 17) (A + 17) 30) := x_cpy h.c17 h2.c17 (by have := h.f; omega) (by have := h2.f; omega) (by decide) (by decide) (by decide) (by decide) (by decide) (okN_ok hok)
theorem bgf_98 (h : DC L B) : ex_xs rt J C (.getfield 98 :: is) ls (vR (B + 16) :: st) (SH L, σ) = ex_xs rt J C is ls (vR (B + 18) :: st) (SH L, σ) := x_getR h.c16 (by have := h.f; omega) rfl rfl
theorem bln_18 (h : DC L B) : ex_xs rt J C (.arraylength :: is) ls (vR (B + 18) :: st) (SH L, σ) = ex_xs rt J C is ls (vI 30 :: st) (SH L, σ) := x_aln (n := 30) h.c18
theorem bcp_18 (h : DC L A) (h2 : DC L B) (hok : okN 8 st = true) : ex_xs rt J C (.invokedynamic 0 :: is) ls (vI 30 :: vI 0 :: vR (B + 18) :: vI 0 :: vR (A + 18) :: st) (SH L, σ) = ex_xs rt J C is ls st (SH L, cp1 σ (B + 18) (A + 18) 30) := x_cpy h.c18 h2.c18 (by have := h.f; omega) (by have := h2.f; omega) (by decide) (by decide) (by decide) (by decide) (by decide) (okN_ok hok)
theorem bgf_99 (h : DC L B) : ex_xs rt J C (.getfield 99 :: is) ls (vR (B + 16) :: st) (SH L, σ) = ex_xs rt J C is ls (vR (B + 19) :: st) (SH L, σ) := x_getR h.c16 (by have := h.f; omega) rfl rfl
theorem bln_19 (h : DC L B) : ex_xs rt J C (.arraylength :: is) ls (vR (B + 19) :: st) (SH L, σ) = ex_xs rt J C is ls (vI 30 :: st) (SH L, σ) := x_aln (n := 30) h.c19
theorem bcp_19 (h : DC L A) (h2 : DC L B) (hok : okN 8 st = true) : ex_xs rt J C (.invokedynamic 0 :: is) ls (vI 30 :: vI 0 :: vR (B + 19) :: vI 0 :: vR (A + 19) :: st) (SH L, σ) = ex_xs rt J C is ls st (SH L, cp1 σ (B + 19) (A + 19) 30) := x_cpy h.c19 h2.c19 (by have := h.f; omega) (by have := h2.f; omega) (by decide) (by decide) (by decide) (by decide) (by decide) (okN_ok hok)
theorem bpf_96 (h : DC L A) (h2 : DC L B) : ex_xs rt J C (.getfield 96 :: .putfield 96 :: is) ls (vR (A + 16) :: vR (B + 16) :: st) (SH L, σ) = ex_xs rt J C is ls st (SH L, pf1 σ (B + 16) (A + 16) 0) := by
  rw [x_getI (k := 0) h.c16 (by have := h.f; omega) rfl rfl rfl, x_putI (k := 0) h2.c16 (by have := h2.f; omega) rfl rfl rfl]
  rfl
end BC
def gcp (σ : ex_S) (B A : Nat) : ex_S := cp1 (cp1 (cp1 (cp1 (cp1 (cp1 (cp1 (cp1 (cp1 (cp1 (cp1 (pf1 (pf1 (σ) (B + 1) (A + 1) 0) (B + 1) (A + 1) 1) (B + 2) (A + 2) 5) (B + 3) (A + 3) 5) (B + 4) (A + 4) 5) (B + 5) (A + 5) 5) (B + 6) (A + 6) 5) (B + 7) (A + 7) 5) (B + 8) (A + 8) 5) (B + 9) (A + 9) 5) (B + 10) (A + 10) 40) (B + 11) (A + 11) 48) (B + 12) (A + 12) 8
def lcp (σ : ex_S) (B A : Nat) : ex_S := cp1 (cp1 (pf1 (σ) (B + 13) (A + 13) 0) (B + 14) (A + 14) 60) (B + 15) (A + 15) 60
def kcp (σ : ex_S) (B A : Nat) : ex_S := cp1 (cp1 (cp1 (pf1 (σ) (B + 16) (A + 16) 0) (B + 17) (A + 17) 30) (B + 18) (A + 18) 30) (B + 19) (A + 19) 30
def dcp (σ : ex_S) (B A : Nat) : ex_S := pf1 (pf1 (pf1 (pf1 (pf1 (pf1 (pf1 (cp1 (cp1 (cp1 (kcp (lcp (gcp (σ) B A) B A) B A) (B + 20) (A + 20) 25) (B + 21) (A + 21) 16) (B + 22) (A + 22) 7) (B) (A) 6) (B) (A) 7) (B) (A) 8) (B) (A) 9) (B) (A) 10) (B) (A) 11) (B) (A) 12
theorem bs_10 {d L A B : Nat} {σ : ex_S} (hd : 0 < d) (hA : GC L A) (hB : GC L B) : ex_cd d 10 [vR (B + 1), vR (A + 1)] (SH L, σ) = some ([], (SH L, gcp σ B A)) := by
  rw [ex_cd_eq hd]
  show ex_ev (d - 1) 10 0 [vR (B + 1), vR (A + 1)] [] (SH L, σ) = _
  rw [ev_10_0]
  simp (disch := first | assumption | (repeat' first | exact ok_nil | apply ok_I | apply ok_R)) only [xl_a0, xl_a1, x_push, x_ret0, bgf_66, bln_2, bcp_2, bgf_67, bln_3, bcp_3, bgf_68, bln_4, bcp_4, bgf_69, bln_5, bcp_5, bgf_70, bln_6, bcp_6, bgf_71, bln_7, bcp_7, bgf_72, bln_8, bcp_8, bgf_73, bln_9, bcp_9, bgf_74, bln_10, bcp_10, bgf_75, bln_11, bcp_11, bgf_76, bln_12, bcp_12, bpf_64, bpf_65]
  rfl
theorem bx_10 {rt d L A B : Nat} {J : Nat → List ex_V → List ex_V → ex_H → Option ex_R} {is : List Instr} {ls st : List ex_V} {σ : ex_S} (hA : GC L A) (hB : GC L B) (hd : 0 < d) (hok : okN 8 st = true) : ex_xs rt J (ex_cd d) (.invokevirtual 10 :: is) ls (vR (A + 1) :: vR (B + 1) :: st) (SH L, σ) = ex_xs rt J (ex_cd d) is ls st (SH L, gcp σ B A) := x_call1 (Or.inl rfl) rfl hB.c1 (Or.inl ⟨rfl, rfl⟩) (as := [vR (A + 1)]) rfl rfl (okN_ok hok) rfl (bs_10 hd hA hB)
theorem bs_44 {d L A B : Nat} {σ : ex_S} (hd : 0 < d) (hA : DC L A) (hB : DC L B) : ex_cd d 44 [vR (B + 13), vR (A + 13)] (SH L, σ) = some ([], (SH L, lcp σ B A)) := by
  rw [ex_cd_eq hd]
  show ex_ev (d - 1) 44 0 [vR (B + 13), vR (A + 13)] [] (SH L, σ) = _
  rw [ev_44_0]
  simp (disch := first | assumption | (repeat' first | exact ok_nil | apply ok_I | apply ok_R)) only [xl_a0, xl_a1, x_push, x_ret0, bgf_129, bln_14, bcp_14, bgf_130, bln_15, bcp_15, bpf_128]
  rfl
theorem bx_44 {rt d L A B : Nat} {J : Nat → List ex_V → List ex_V → ex_H → Option ex_R} {is : List Instr} {ls st : List ex_V} {σ : ex_S} (hA : DC L A) (hB : DC L B) (hd : 0 < d) (hok : okN 8 st = true) : ex_xs rt J (ex_cd d) (.invokevirtual 44 :: is) ls (vR (A + 13) :: vR (B + 13) :: st) (SH L, σ) = ex_xs rt J (ex_cd d) is ls st (SH L, lcp σ B A) := x_call1 (Or.inl rfl) rfl hB.c13 (Or.inl ⟨rfl, rfl⟩) (as := [vR (A + 13)]) rfl rfl (okN_ok hok) rfl (bs_44 hd hA hB)
theorem bs_39 {d L A B : Nat} {σ : ex_S} (hd : 0 < d) (hA : DC L A) (hB : DC L B) : ex_cd d 39 [vR (B + 16), vR (A + 16)] (SH L, σ) = some ([], (SH L, kcp σ B A)) := by
  rw [ex_cd_eq hd]
  show ex_ev (d - 1) 39 0 [vR (B + 16), vR (A + 16)] [] (SH L, σ) = _
  rw [ev_39_0]
  simp (disch := first | assumption | (repeat' first | exact ok_nil | apply ok_I | apply ok_R)) only [xl_a0, xl_a1, x_push, x_ret0, bgf_97, bln_17, bcp_17, bgf_98, bln_18, bcp_18, bgf_99, bln_19, bcp_19, bpf_96]
  rfl
theorem bx_39 {rt d L A B : Nat} {J : Nat → List ex_V → List ex_V → ex_H → Option ex_R} {is : List Instr} {ls st : List ex_V} {σ : ex_S} (hA : DC L A) (hB : DC L B) (hd : 0 < d) (hok : okN 8 st = true) : ex_xs rt J (ex_cd d) (.invokevirtual 39 :: is) ls (vR (A + 16) :: vR (B + 16) :: st) (SH L, σ) = ex_xs rt J (ex_cd d) is ls st (SH L, kcp σ B A) := x_call1 (Or.inl rfl) rfl hB.c16 (Or.inl ⟨rfl, rfl⟩) (as := [vR (A + 16)]) rfl rfl (okN_ok hok) rfl (bs_39 hd hA hB)
theorem bs_7 {d L A B : Nat} {σ : ex_S} (hd : 1 < d) (hA : DC L A) (hB : DC L B) : ex_cd d 7 [vR B, vR A] (SH L, σ) = some ([], (SH L, dcp σ B A)) := by
  rw [ex_cd_eq (by omega)]
  show ex_ev (d - 1) 7 0 [vR B, vR A] [] (SH L, σ) = _
  rw [ev_7_0]
  have gA := hA.gc
  have gB := hB.gc
  simp (disch := first | assumption | omega | (repeat' first | exact ok_nil | apply ok_I | apply ok_R)) only [xl_a0, xl_a1, x_push, x_ret0, bx_10, bx_44, bx_39, bgf_32, bgf_33, bgf_34, bgf_35, bln_20, bcp_20, bgf_36, bln_21, bcp_21, bgf_37, bln_22, bcp_22, bpf_38, bpf_39, bpf_40, bpf_41, bpf_42, bpf_43, bpf_44]
  rfl
theorem bx_7 {rt d L A B : Nat} {J : Nat → List ex_V → List ex_V → ex_H → Option ex_R} {is : List Instr} {ls st : List ex_V} {σ : ex_S} (hA : DC L A) (hB : DC L B) (hd : 1 < d) (hok : okN 8 st = true) : ex_xs rt J (ex_cd d) (.invokevirtual 7 :: is) ls (vR A :: vR B :: st) (SH L, σ) = ex_xs rt J (ex_cd d) is ls st (SH L, dcp σ B A) := x_call1 (Or.inl rfl) rfl hB.c0 (Or.inl ⟨rfl, rfl⟩) (as := [vR A]) rfl rfl (okN_ok hok) rfl (bs_7 hd hA hB)
theorem gcp_ne {σ : ex_S} {B A c : Nat} (h : c < B + 1 ∨ B + 12 < c) : gcp σ B A c = σ c := by unfold gcp; simp (disch := omega) only [cp1_ne, pf1_ne]
theorem lcp_ne {σ : ex_S} {B A c : Nat} (h : c < B + 13 ∨ B + 15 < c) : lcp σ B A c = σ c := by unfold lcp; simp (disch := omega) only [cp1_ne, pf1_ne]
theorem kcp_ne {σ : ex_S} {B A c : Nat} (h : c < B + 16 ∨ B + 19 < c) : kcp σ B A c = σ c := by unfold kcp; simp (disch := omega) only [cp1_ne, pf1_ne]
theorem dcp_ne {σ : ex_S} {B A c : Nat} (h : c < B ∨ B + 22 < c) : dcp σ B A c = σ c := by unfold dcp; simp (disch := omega) only [cp1_ne, pf1_ne, gcp_ne, lcp_ne, kcp_ne]
theorem gcp_o1_0 {σ : ex_S} {B A : Nat} (h : A + 22 < B ∨ B + 22 < A) : gcp σ B A (B + 1) 0 = σ (A + 1) 0 := by unfold gcp; simp (disch := first | omega | decide) only [cp1_ne, pf1_ne, pf1_at, pf1_nk]
theorem gcp_o1_1 {σ : ex_S} {B A : Nat} (h : A + 22 < B ∨ B + 22 < A) : gcp σ B A (B + 1) 1 = σ (A + 1) 1 := by unfold gcp; simp (disch := first | omega | decide) only [cp1_ne, pf1_ne, pf1_at, pf1_nk]
theorem gcp_a2 {σ : ex_S} {B A : Nat} {i : Int} (h : A + 22 < B ∨ B + 22 < A) (h0 : 0 ≤ i) (h1 : i < 5) : gcp σ B A (B + 2) i = σ (A + 2) i := by unfold gcp; simp (disch := omega) only [cp1_ne, pf1_ne, cp1_at]
theorem gcp_a3 {σ : ex_S} {B A : Nat} {i : Int} (h : A + 22 < B ∨ B + 22 < A) (h0 : 0 ≤ i) (h1 : i < 5) : gcp σ B A (B + 3) i = σ (A + 3) i := by unfold gcp; simp (disch := omega) only [cp1_ne, pf1_ne, cp1_at]
theorem gcp_a4 {σ : ex_S} {B A : Nat} {i : Int} (h : A + 22 < B ∨ B + 22 < A) (h0 : 0 ≤ i) (h1 : i < 5) : gcp σ B A (B + 4) i = σ (A + 4) i := by unfold gcp; simp (disch := omega) only [cp1_ne, pf1_ne, cp1_at]
theorem gcp_a5 {σ : ex_S} {B A : Nat} {i : Int} (h : A + 22 < B ∨ B + 22 < A) (h0 : 0 ≤ i) (h1 : i < 5) : gcp σ B A (B + 5) i = σ (A + 5) i := by unfold gcp; simp (disch := omega) only [cp1_ne, pf1_ne, cp1_at]
theorem gcp_a6 {σ : ex_S} {B A : Nat} {i : Int} (h : A + 22 < B ∨ B + 22 < A) (h0 : 0 ≤ i) (h1 : i < 5) : gcp σ B A (B + 6) i = σ (A + 6) i := by unfold gcp; simp (disch := omega) only [cp1_ne, pf1_ne, cp1_at]
theorem gcp_a7 {σ : ex_S} {B A : Nat} {i : Int} (h : A + 22 < B ∨ B + 22 < A) (h0 : 0 ≤ i) (h1 : i < 5) : gcp σ B A (B + 7) i = σ (A + 7) i := by unfold gcp; simp (disch := omega) only [cp1_ne, pf1_ne, cp1_at]
theorem gcp_a8 {σ : ex_S} {B A : Nat} {i : Int} (h : A + 22 < B ∨ B + 22 < A) (h0 : 0 ≤ i) (h1 : i < 5) : gcp σ B A (B + 8) i = σ (A + 8) i := by unfold gcp; simp (disch := omega) only [cp1_ne, pf1_ne, cp1_at]
theorem gcp_a9 {σ : ex_S} {B A : Nat} {i : Int} (h : A + 22 < B ∨ B + 22 < A) (h0 : 0 ≤ i) (h1 : i < 5) : gcp σ B A (B + 9) i = σ (A + 9) i := by unfold gcp; simp (disch := omega) only [cp1_ne, pf1_ne, cp1_at]
theorem gcp_a10 {σ : ex_S} {B A : Nat} {i : Int} (h : A + 22 < B ∨ B + 22 < A) (h0 : 0 ≤ i) (h1 : i < 40) : gcp σ B A (B + 10) i = σ (A + 10) i := by unfold gcp; simp (disch := omega) only [cp1_ne, pf1_ne, cp1_at]
theorem gcp_a11 {σ : ex_S} {B A : Nat} {i : Int} (h : A + 22 < B ∨ B + 22 < A) (h0 : 0 ≤ i) (h1 : i < 48) : gcp σ B A (B + 11) i = σ (A + 11) i := by unfold gcp; simp (disch := omega) only [cp1_ne, pf1_ne, cp1_at]
theorem gcp_a12 {σ : ex_S} {B A : Nat} {i : Int} (h : A + 22 < B ∨ B + 22 < A) (h0 : 0 ≤ i) (h1 : i < 8) : gcp σ B A (B + 12) i = σ (A + 12) i := by unfold gcp; simp (disch := omega) only [cp1_ne, pf1_ne, cp1_at]
theorem lcp_o13_0 {σ : ex_S} {B A : Nat} (h : A + 22 < B ∨ B + 22 < A) : lcp σ B A (B + 13) 0 = σ (A + 13) 0 := by unfold lcp; simp (disch := first | omega | decide) only [cp1_ne, pf1_ne, pf1_at, pf1_nk]
theorem lcp_a14 {σ : ex_S} {B A : Nat} {i : Int} (h : A + 22 < B ∨ B + 22 < A) (h0 : 0 ≤ i) (h1 : i < 60) : lcp σ B A (B + 14) i = σ (A + 14) i := by unfold lcp; simp (disch := omega) only [cp1_ne, pf1_ne, cp1_at]
theorem lcp_a15 {σ : ex_S} {B A : Nat} {i : Int} (h : A + 22 < B ∨ B + 22 < A) (h0 : 0 ≤ i) (h1 : i < 60) : lcp σ B A (B + 15) i = σ (A + 15) i := by unfold lcp; simp (disch := omega) only [cp1_ne, pf1_ne, cp1_at]
theorem kcp_o16_0 {σ : ex_S} {B A : Nat} (h : A + 22 < B ∨ B + 22 < A) : kcp σ B A (B + 16) 0 = σ (A + 16) 0 := by unfold kcp; simp (disch := first | omega | decide) only [cp1_ne, pf1_ne, pf1_at, pf1_nk]
theorem kcp_a17 {σ : ex_S} {B A : Nat} {i : Int} (h : A + 22 < B ∨ B + 22 < A) (h0 : 0 ≤ i) (h1 : i < 30) : kcp σ B A (B + 17) i = σ (A + 17) i := by unfold kcp; simp (disch := omega) only [cp1_ne, pf1_ne, cp1_at]
theorem kcp_a18 {σ : ex_S} {B A : Nat} {i : Int} (h : A + 22 < B ∨ B + 22 < A) (h0 : 0 ≤ i) (h1 : i < 30) : kcp σ B A (B + 18) i = σ (A + 18) i := by unfold kcp; simp (disch := omega) only [cp1_ne, pf1_ne, cp1_at]
theorem kcp_a19 {σ : ex_S} {B A : Nat} {i : Int} (h : A + 22 < B ∨ B + 22 < A) (h0 : 0 ≤ i) (h1 : i < 30) : kcp σ B A (B + 19) i = σ (A + 19) i := by unfold kcp; simp (disch := omega) only [cp1_ne, pf1_ne, cp1_at]
theorem dcp_o0_6 {σ : ex_S} {B A : Nat} (h : A + 22 < B ∨ B + 22 < A) : dcp σ B A B 6 = σ A 6 := by unfold dcp; simp (disch := first | omega | decide) only [cp1_ne, pf1_ne, pf1_at, pf1_nk, cp1_at, gcp_ne, lcp_ne, kcp_ne]
theorem dcp_o0_7 {σ : ex_S} {B A : Nat} (h : A + 22 < B ∨ B + 22 < A) : dcp σ B A B 7 = σ A 7 := by unfold dcp; simp (disch := first | omega | decide) only [cp1_ne, pf1_ne, pf1_at, pf1_nk, cp1_at, gcp_ne, lcp_ne, kcp_ne]
theorem dcp_o0_8 {σ : ex_S} {B A : Nat} (h : A + 22 < B ∨ B + 22 < A) : dcp σ B A B 8 = σ A 8 := by unfold dcp; simp (disch := first | omega | decide) only [cp1_ne, pf1_ne, pf1_at, pf1_nk, cp1_at, gcp_ne, lcp_ne, kcp_ne]
theorem dcp_o0_9 {σ : ex_S} {B A : Nat} (h : A + 22 < B ∨ B + 22 < A) : dcp σ B A B 9 = σ A 9 := by unfold dcp; simp (disch := first | omega | decide) only [cp1_ne, pf1_ne, pf1_at, pf1_nk, cp1_at, gcp_ne, lcp_ne, kcp_ne]
theorem dcp_o0_10 {σ : ex_S} {B A : Nat} (h : A + 22 < B ∨ B + 22 < A) : dcp σ B A B 10 = σ A 10 := by unfold dcp; simp (disch := first | omega | decide) only [cp1_ne, pf1_ne, pf1_at, pf1_nk, cp1_at, gcp_ne, lcp_ne, kcp_ne]
theorem dcp_o0_11 {σ : ex_S} {B A : Nat} (h : A + 22 < B ∨ B + 22 < A) : dcp σ B A B 11 = σ A 11 := by unfold dcp; simp (disch := first | omega | decide) only [cp1_ne, pf1_ne, pf1_at, pf1_nk, cp1_at, gcp_ne, lcp_ne, kcp_ne]
theorem dcp_o0_12 {σ : ex_S} {B A : Nat} (h : A + 22 < B ∨ B + 22 < A) : dcp σ B A B 12 = σ A 12 := by unfold dcp; simp (disch := first | omega | decide) only [cp1_ne, pf1_ne, pf1_at, pf1_nk, cp1_at, gcp_ne, lcp_ne, kcp_ne]
theorem dcp_o1_0 {σ : ex_S} {B A : Nat} (h : A + 22 < B ∨ B + 22 < A) : dcp σ B A (B + 1) 0 = σ (A + 1) 0 := by unfold dcp; simp (disch := first | omega | decide) only [cp1_ne, pf1_ne, pf1_at, pf1_nk, cp1_at, gcp_ne, lcp_ne, kcp_ne, gcp_o1_0]
theorem dcp_o1_1 {σ : ex_S} {B A : Nat} (h : A + 22 < B ∨ B + 22 < A) : dcp σ B A (B + 1) 1 = σ (A + 1) 1 := by unfold dcp; simp (disch := first | omega | decide) only [cp1_ne, pf1_ne, pf1_at, pf1_nk, cp1_at, gcp_ne, lcp_ne, kcp_ne, gcp_o1_1]
theorem dcp_o13_0 {σ : ex_S} {B A : Nat} (h : A + 22 < B ∨ B + 22 < A) : dcp σ B A (B + 13) 0 = σ (A + 13) 0 := by unfold dcp; simp (disch := first | omega | decide) only [cp1_ne, pf1_ne, pf1_at, pf1_nk, cp1_at, gcp_ne, lcp_ne, kcp_ne, lcp_o13_0]
theorem dcp_o16_0 {σ : ex_S} {B A : Nat} (h : A + 22 < B ∨ B + 22 < A) : dcp σ B A (B + 16) 0 = σ (A + 16) 0 := by unfold dcp; simp (disch := first | omega | decide) only [cp1_ne, pf1_ne, pf1_at, pf1_nk, cp1_at, gcp_ne, lcp_ne, kcp_ne, kcp_o16_0]
theorem dcp_a2 {σ : ex_S} {B A : Nat} {i : Int} (h : A + 22 < B ∨ B + 22 < A) (h0 : 0 ≤ i) (h1 : i < 5) : dcp σ B A (B + 2) i = σ (A + 2) i := by unfold dcp; simp (disch := first | omega | decide) only [cp1_ne, pf1_ne, pf1_at, pf1_nk, cp1_at, gcp_ne, lcp_ne, kcp_ne, gcp_a2]
theorem dcp_a3 {σ : ex_S} {B A : Nat} {i : Int} (h : A + 22 < B ∨ B + 22 < A) (h0 : 0 ≤ i) (h1 : i < 5) : dcp σ B A (B + 3) i = σ (A + 3) i := by unfold dcp; simp (disch := first | omega | decide) only [cp1_ne, pf1_ne, pf1_at, pf1_nk, cp1_at, gcp_ne, lcp_ne, kcp_ne, gcp_a3]
theorem dcp_a4 {σ : ex_S} {B A : Nat} {i : Int} (h : A + 22 < B ∨ B + 22 < A) (h0 : 0 ≤ i) (h1 : i < 5) : dcp σ B A (B + 4) i = σ (A + 4) i := by unfold dcp; simp (disch := first | omega | decide) only [cp1_ne, pf1_ne, pf1_at, pf1_nk, cp1_at, gcp_ne, lcp_ne, kcp_ne, gcp_a4]
theorem dcp_a5 {σ : ex_S} {B A : Nat} {i : Int} (h : A + 22 < B ∨ B + 22 < A) (h0 : 0 ≤ i) (h1 : i < 5) : dcp σ B A (B + 5) i = σ (A + 5) i := by unfold dcp; simp (disch := first | omega | decide) only [cp1_ne, pf1_ne, pf1_at, pf1_nk, cp1_at, gcp_ne, lcp_ne, kcp_ne, gcp_a5]
theorem dcp_a6 {σ : ex_S} {B A : Nat} {i : Int} (h : A + 22 < B ∨ B + 22 < A) (h0 : 0 ≤ i) (h1 : i < 5) : dcp σ B A (B + 6) i = σ (A + 6) i := by unfold dcp; simp (disch := first | omega | decide) only [cp1_ne, pf1_ne, pf1_at, pf1_nk, cp1_at, gcp_ne, lcp_ne, kcp_ne, gcp_a6]
theorem dcp_a7 {σ : ex_S} {B A : Nat} {i : Int} (h : A + 22 < B ∨ B + 22 < A) (h0 : 0 ≤ i) (h1 : i < 5) : dcp σ B A (B + 7) i = σ (A + 7) i := by unfold dcp; simp (disch := first | omega | decide) only [cp1_ne, pf1_ne, pf1_at, pf1_nk, cp1_at, gcp_ne, lcp_ne, kcp_ne, gcp_a7]
theorem dcp_a8 {σ : ex_S} {B A : Nat} {i : Int} (h : A + 22 < B ∨ B + 22 < A) (h0 : 0 ≤ i) (h1 : i < 5) : dcp σ B A (B + 8) i = σ (A + 8) i := by unfold dcp; simp (disch := first | omega | decide) only [cp1_ne, pf1_ne, pf1_at, pf1_nk, cp1_at, gcp_ne, lcp_ne, kcp_ne, gcp_a8]
theorem dcp_a9 {σ : ex_S} {B A : Nat} {i : Int} (h : A + 22 < B ∨ B + 22 < A) (h0 : 0 ≤ i) (h1 : i < 5) : dcp σ B A (B + 9) i = σ (A + 9) i := by unfold dcp; simp (disch := first | omega | decide) only [cp1_ne, pf1_ne, pf1_at, pf1_nk, cp1_at, gcp_ne, lcp_ne, kcp_ne, gcp_a9]
theorem dcp_a10 {σ : ex_S} {B A : Nat} {i : Int} (h : A + 22 < B ∨ B + 22 < A) (h0 : 0 ≤ i) (h1 : i < 40) : dcp σ B A (B + 10) i = σ (A + 10) i := by unfold dcp; simp (disch := first | omega | decide) only [cp1_ne, pf1_ne, pf1_at, pf1_nk, cp1_at, gcp_ne, lcp_ne, kcp_ne, gcp_a10]
theorem dcp_a11 {σ : ex_S} {B A : Nat} {i : Int} (h : A + 22 < B ∨ B + 22 < A) (h0 : 0 ≤ i) (h1 : i < 48) : dcp σ B A (B + 11) i = σ (A + 11) i := by unfold dcp; simp (disch := first | omega | decide) only [cp1_ne, pf1_ne, pf1_at, pf1_nk, cp1_at, gcp_ne, lcp_ne, kcp_ne, gcp_a11]
theorem dcp_a12 {σ : ex_S} {B A : Nat} {i : Int} (h : A + 22 < B ∨ B + 22 < A) (h0 : 0 ≤ i) (h1 : i < 8) : dcp σ B A (B + 12) i = σ (A + 12) i := by unfold dcp; simp (disch := first | omega | decide) only [cp1_ne, pf1_ne, pf1_at, pf1_nk, cp1_at, gcp_ne, lcp_ne, kcp_ne, gcp_a12]
theorem dcp_a14 {σ : ex_S} {B A : Nat} {i : Int} (h : A + 22 < B ∨ B + 22 < A) (h0 : 0 ≤ i) (h1 : i < 60) : dcp σ B A (B + 14) i = σ (A + 14) i := by unfold dcp; simp (disch := first | omega | decide) only [cp1_ne, pf1_ne, pf1_at, pf1_nk, cp1_at, gcp_ne, lcp_ne, kcp_ne, lcp_a14]
theorem dcp_a15 {σ : ex_S} {B A : Nat} {i : Int} (h : A + 22 < B ∨ B + 22 < A) (h0 : 0 ≤ i) (h1 : i < 60) : dcp σ B A (B + 15) i = σ (A + 15) i := by unfold dcp; simp (disch := first | omega | decide) only [cp1_ne, pf1_ne, pf1_at, pf1_nk, cp1_at, gcp_ne, lcp_ne, kcp_ne, lcp_a15]
theorem dcp_a17 {σ : ex_S} {B A : Nat} {i : Int} (h : A + 22 < B ∨ B + 22 < A) (h0 : 0 ≤ i) (h1 : i < 30) : dcp σ B A (B + 17) i = σ (A + 17) i := by unfold dcp; simp (disch := first | omega | decide) only [cp1_ne, pf1_ne, pf1_at, pf1_nk, cp1_at, gcp_ne, lcp_ne, kcp_ne, kcp_a17]
theorem dcp_a18 {σ : ex_S} {B A : Nat} {i : Int} (h : A + 22 < B ∨ B + 22 < A) (h0 : 0 ≤ i) (h1 : i < 30) : dcp σ B A (B + 18) i = σ (A + 18) i := by unfold dcp; simp (disch := first | omega | decide) only [cp1_ne, pf1_ne, pf1_at, pf1_nk, cp1_at, gcp_ne, lcp_ne, kcp_ne, kcp_a18]
theorem dcp_a19 {σ : ex_S} {B A : Nat} {i : Int} (h : A + 22 < B ∨ B + 22 < A) (h0 : 0 ≤ i) (h1 : i < 30) : dcp σ B A (B + 19) i = σ (A + 19) i := by unfold dcp; simp (disch := first | omega | decide) only [cp1_ne, pf1_ne, pf1_at, pf1_nk, cp1_at, gcp_ne, lcp_ne, kcp_ne, kcp_a19]
theorem dcp_a20 {σ : ex_S} {B A : Nat} {i : Int} (h : A + 22 < B ∨ B + 22 < A) (h0 : 0 ≤ i) (h1 : i < 25) : dcp σ B A (B + 20) i = σ (A + 20) i := by unfold dcp; simp (disch := first | omega | decide) only [cp1_ne, pf1_ne, pf1_at, pf1_nk, cp1_at, gcp_ne, lcp_ne, kcp_ne]
theorem dcp_a21 {σ : ex_S} {B A : Nat} {i : Int} (h : A + 22 < B ∨ B + 22 < A) (h0 : 0 ≤ i) (h1 : i < 16) : dcp σ B A (B + 21) i = σ (A + 21) i := by unfold dcp; simp (disch := first | omega | decide) only [cp1_ne, pf1_ne, pf1_at, pf1_nk, cp1_at, gcp_ne, lcp_ne, kcp_ne]
theorem dcp_a22 {σ : ex_S} {B A : Nat} {i : Int} (h : A + 22 < B ∨ B + 22 < A) (h0 : 0 ≤ i) (h1 : i < 7) : dcp σ B A (B + 22) i = σ (A + 22) i := by unfold dcp; simp (disch := first | omega | decide) only [cp1_ne, pf1_ne, pf1_at, pf1_nk, cp1_at, gcp_ne, lcp_ne, kcp_ne]
