/-! the abstract machine's cells as the kit's worlds -/
def ex_r32 (z : Int) : Prop := -2147483648 ≤ z ∧ z ≤ 2147483647
def ex_r64 (z : Int) : Prop := -9223372036854775808 ≤ z ∧ z ≤ 9223372036854775807
theorem i_wr (x : Int32) : ex_r32 x.toInt := by
  have h1 := Int32.toInt_lt x
  have h2 := Int32.le_toInt x
  unfold ex_r32
  omega
theorem i_wr' (z : Int) : ex_r32 (ex_wr z) := i_wr _
theorem i_to {z : Int} (h : ex_r32 z) : (Int32.ofInt z).toInt = z := by
  unfold ex_r32 at h
  exact Int32.toInt_ofInt_of_le (by omega) (by omega)
theorem i_wr_id {z : Int} (h1 : -2147483648 ≤ z) (h2 : z ≤ 2147483647) : ex_wr z = z := i_to ⟨h1, h2⟩
theorem i_lt {a b : Int} (ha : ex_r32 a) (hb : ex_r32 b) : Int32.ofInt a < Int32.ofInt b ↔ a < b := by rw [Int32.lt_iff_toInt_lt, i_to ha, i_to hb]
theorem i_le {a b : Int} (ha : ex_r32 a) (hb : ex_r32 b) : Int32.ofInt a ≤ Int32.ofInt b ↔ a ≤ b := by rw [Int32.le_iff_toInt_le, i_to ha, i_to hb]
theorem i_eq {a b : Int} (ha : ex_r32 a) (hb : ex_r32 b) : Int32.ofInt a = Int32.ofInt b ↔ a = b := by rw [← Int32.toInt_inj, i_to ha, i_to hb]
theorem i_0 : Int32.ofInt 0 = 0 := rfl
theorem i_r0 : ex_r32 0 := by unfold ex_r32; omega
theorem i_eq0 {a : Int} (ha : ex_r32 a) : Int32.ofInt a = 0 ↔ a = 0 := by rw [← i_0]; exact i_eq ha i_r0
theorem i_lt0 {a : Int} (ha : ex_r32 a) : Int32.ofInt a < 0 ↔ a < 0 := by rw [← i_0]; exact i_lt ha i_r0
theorem i_cl {z : Int} (h : ex_r32 z) (h0 : 0 ≤ z) : (Int32.ofInt z).toNatClampNeg = z.toNat := by
  unfold ex_r32 at h
  exact Int32.toNatClampNeg_ofInt_of_le (by omega) (by omega)
theorem i_in {z : Int} {n : Nat} (h : ex_r32 z) (h0 : 0 ≤ z) (hn : z < (n : Int)) : vp_in (Int32.ofInt z) n := by
  rw [vp_in_iff, i_to h]
  exact ⟨h0, hn⟩
theorem i_nat (n : Nat) : Int32.ofNat n = Int32.ofInt (n : Int) := Int32.ofInt_eq_ofNat.symm
theorem i_of (z : Int) : Int32.ofInt (ex_wr z) = Int32.ofInt z := by unfold ex_wr; rw [Int32.ofInt_toInt]
def ex_vv (ad : Nat → Nat) : ex_V → Value
  | .inl z => .int (Int32.ofInt z)
  | .inr (.inl a) => .ref (ad a)
  | .inr (.inr z) => .long (Int64.ofInt z)
def ex_rg (n : Nat) : ex_V → Prop
  | .inl z => ex_r32 z
  | .inr (.inl a) => a < n
  | .inr (.inr z) => ex_r64 z
theorem ex_rg_le {n n' : Nat} (h : n ≤ n') {v : ex_V} (hv : ex_rg n v) : ex_rg n' v := by
  obtain z | a | z := v
  · exact hv
  · exact Nat.lt_of_lt_of_le hv h
  · exact hv
/-- references of a cell lie among the cells -/
def ex_cv (n : Nat) : ex_C → Prop
  | .inl _ => True
  | .inr (.inl r) => ∀ (k b : Nat), r[k]? = some (some b) → b < n
  | .inr (.inr (c, f)) => (∀ (k b : Nat), f[k]? = some (some (some b)) → b < n) ∧ f.map Option.isSome = (ex_cf.getD c []).map Option.isSome
theorem ex_cv_le {n n' : Nat} (h : n ≤ n') {c : ex_C} (hv : ex_cv n c) : ex_cv n' c := by
  obtain z | r | ⟨c, f⟩ := c
  · trivial
  · exact fun k b hb => Nat.lt_of_lt_of_le (hv k b hb) h
  · exact ⟨fun k b hb => Nat.lt_of_lt_of_le (hv.1 k b hb) h, hv.2⟩
def ex_ext (ad ad' : Nat → Nat) (n : Nat) : Prop := ∀ k, k < n → ad' k = ad k
theorem ex_vv_ext {ad ad' : Nat → Nat} {n : Nat} (h : ex_ext ad ad' n) {v : ex_V} (hv : ex_rg n v) : ex_vv ad' v = ex_vv ad v := by
  obtain z | a | z := v
  · rfl
  · show Value.ref (ad' a) = Value.ref (ad a)
    rw [h a hv]
  · rfl
theorem ex_st_ext {ad ad' : Nat → Nat} {n : Nat} (h : ex_ext ad ad' n) {st : List ex_V} (hv : ∀ v ∈ st, ex_rg n v) : st.map (ex_vv ad') = st.map (ex_vv ad) := List.map_congr_left (fun v m => ex_vv_ext h (hv v m))
/-- a field -/
def ex_fv (ad : Nat → Nat) (g : Int → Int) (k : Nat) : Option (Option Nat) → Value
  | none => .int (Int32.ofInt (g (k : Int)))
  | some r => va_rf (r.map ad)
def ex_ce (ad : Nat → Nat) (A1 A2 : ClassId) (g : Int → Int) : ex_C → va_E
  | .inl n => .inl (A1, n, .inl (fun j => Int32.ofInt (g (j : Int))))
  | .inr (.inl r) => .inl (A2, r.length, .inr (.inr (.inr (.inr (fun j => (r.getD j none).map ad)))))
  | .inr (.inr (c, f)) => .inr (c, f.mapIdx (ex_fv ad g))
theorem ex_ce_ext {ad ad' : Nat → Nat} {n : Nat} (h : ex_ext ad ad' n) {A1 A2 : ClassId} {g : Int → Int} {c : ex_C} (hv : ex_cv n c) : ex_ce ad' A1 A2 g c = ex_ce ad A1 A2 g c := by
  obtain z | r | ⟨c, f⟩ := c
  · rfl
  · have e : (fun j => (r.getD j none).map ad') = (fun j => (r.getD j none).map ad) := by
      funext j
      rw [List.getD_eq_getElem?_getD]
      cases hr : r[j]? with
      | none => rfl
      | some x =>
        cases x with
        | none => rfl
        | some b => exact congrArg some (h b (hv j b hr))
    rw [ex_ce, ex_ce, e]
  · show (Sum.inr (c, f.mapIdx (ex_fv ad' g)) : va_E) = .inr (c, f.mapIdx (ex_fv ad g))
    have e : f.mapIdx (ex_fv ad' g) = f.mapIdx (ex_fv ad g) := by
      apply List.ext_getElem?
      intro i
      rw [List.getElem?_mapIdx, List.getElem?_mapIdx]
      cases hf : f[i]? with
      | none => rfl
      | some x =>
        cases x with
        | none => rfl
        | some y =>
          cases y with
          | none => rfl
          | some b =>
            show some (va_rf (some (ad' b))) = some (va_rf (some (ad b)))
            rw [h b (hv.1 i b hf)]
    rw [e]
def ex_W (ad : Nat → Nat) (A1 A2 : ClassId) (h : ex_H) : va_W := (h.1.drop 4).mapIdx (fun i c => (ad (4 + i), ex_ce ad A1 A2 (h.2 (4 + i)) c))
theorem ex_W_at (ad : Nat → Nat) (A1 A2 : ClassId) (h : ex_H) {a : Nat} (ha : 4 ≤ a) : (ex_W ad A1 A2 h)[a - 4]? = (h.1[a]?).map (fun c => (ad a, ex_ce ad A1 A2 (h.2 a) c)) := by
  unfold ex_W
  rw [List.getElem?_mapIdx, List.getElem?_drop]
  have e : 4 + (a - 4) = a := by omega
  rw [e]
theorem ex_W_len (ad : Nat → Nat) (A1 A2 : ClassId) (h : ex_H) : (ex_W ad A1 A2 h).length = h.1.length - 4 := by
  unfold ex_W
  rw [List.length_mapIdx, List.length_drop]
/-- one cell changes -/
theorem ex_W_set {ad : Nat → Nat} {A1 A2 : ClassId} {h h' : ex_H} {a : Nat} (ha : 4 ≤ a) {c : ex_C} (hc : h'.1[a]? = some c) (ho : ∀ b, b ≠ a → h'.1[b]? = h.1[b]?) (hs : ∀ b, b ≠ a → h'.2 b = h.2 b) {E : Nat × va_E} (hE : E = (ad a, ex_ce ad A1 A2 (h'.2 a) c)) (hl : a < h.1.length) :
    (ex_W ad A1 A2 h).set (a - 4) E = ex_W ad A1 A2 h' := by
  apply List.ext_getElem?
  intro i
  by_cases hi : i = a - 4
  · subst hi
    rw [List.getElem?_set_self (by rw [ex_W_len]; omega), ex_W_at _ _ _ _ ha, hc, hE]
    rfl
  · rw [List.getElem?_set_ne (Ne.symm hi)]
    have e : i = (4 + i) - 4 := by omega
    rw [e, ex_W_at _ _ _ _ (by omega), ex_W_at _ _ _ _ (by omega), ho _ (by omega), hs _ (by omega)]
/-- a cell more -/
theorem ex_W_push {ad ad' : Nat → Nat} {A1 A2 : ClassId} {h : ex_H} {σ : ex_S} {c : ex_C} {q : Nat} {E : va_E} (h4 : 4 ≤ h.1.length) (hq : ad' h.1.length = q) (he : E = ex_ce ad' A1 A2 (σ h.1.length) c)
    (hold : ∀ a c, 4 ≤ a → h.1[a]? = some c → ad' a = ad a ∧ ex_ce ad' A1 A2 (σ a) c = ex_ce ad A1 A2 (h.2 a) c) : ex_W ad A1 A2 h ++ [(q, E)] = ex_W ad' A1 A2 (h.1 ++ [c], σ) := by
  apply List.ext_getElem?
  intro i
  have e : i = (4 + i) - 4 := by omega
  by_cases hi : 4 + i < h.1.length
  · rw [List.getElem?_append_left (by rw [ex_W_len]; omega)]
    rw [e, ex_W_at _ _ _ _ (by omega), ex_W_at _ _ _ _ (by omega)]
    show Option.map _ (h.1[4 + i]?) = Option.map _ ((h.1 ++ [c])[4 + i]?)
    rw [List.getElem?_append_left hi, List.getElem?_eq_getElem hi]
    obtain ⟨h1, h2⟩ := hold (4 + i) _ (by omega) (List.getElem?_eq_getElem hi)
    simp only [Option.map_some, h1, h2]
  · rw [List.getElem?_append_right (by rw [ex_W_len]; omega), ex_W_len]
    rw [show (ex_W ad' A1 A2 (h.1 ++ [c], σ))[i]? = (ex_W ad' A1 A2 (h.1 ++ [c], σ))[(4 + i) - 4]? by rw [← e], ex_W_at _ _ _ _ (by omega)]
    show _ = Option.map _ ((h.1 ++ [c])[4 + i]?)
    rw [List.getElem?_append_right (by omega)]
    by_cases hz : i - (h.1.length - 4) = 0
    · have hz2 : 4 + i - h.1.length = 0 := by omega
      have hz3 : 4 + i = h.1.length := by omega
      rw [hz, hz2, hz3]
      simp [hq, he]
    · rw [List.getElem?_eq_none (by simp; omega), List.getElem?_eq_none (by simp; omega)]
      rfl
/-- slots of cells -/
def ex_sz : ex_C → Nat
  | .inl n => n
  | .inr (.inl r) => r.length
  | .inr (.inr (_, f)) => f.length
def ex_tot (l : List ex_C) : Nat := (l.map ex_sz).sum
theorem ex_tot_app (l m : List ex_C) : ex_tot (l ++ m) = ex_tot l + ex_tot m := by unfold ex_tot; rw [List.map_append, List.sum_append]
theorem ex_tot_set : ∀ (l : List ex_C) (a : Nat) (c c' : ex_C), l[a]? = some c → ex_sz c' = ex_sz c → ex_tot (l.set a c') = ex_tot l
  | [], a, c, c', h, _ => by simp at h
  | x :: l, 0, c, c', h, e => by
    have hx : x = c := by simpa using h
    subst hx
    simp [ex_tot, e]
  | x :: l, a + 1, c, c', h, e => by
    have := ex_tot_set l a c c' (by simpa using h) e
    simp only [ex_tot, List.set_cons_succ, List.map_cons, List.sum_cons] at *
    omega
/-- pairs of the locals that hold a value of one word -/
def ex_pr (ad : Nat → Nat) (ls : List ex_V) : List (Nat × Value) := ls.zipIdx.filterMap (fun q => if ex_sh q.1 = true then some (q.2, ex_vv ad q.1) else none)
theorem ex_pr_mem {ad : Nat → Nat} {ls : List ex_V} {q : Nat × Value} : q ∈ ex_pr ad ls ↔ ∃ v, ls[q.1]? = some v ∧ ex_sh v = true ∧ q.2 = ex_vv ad v := by
  unfold ex_pr
  rw [List.mem_filterMap]
  constructor
  · rintro ⟨⟨v, k⟩, hm, he⟩
    rw [List.mem_zipIdx_iff_getElem?] at hm
    dsimp only at he hm
    split at he
    · next hs =>
      cases he
      exact ⟨v, hm, hs, rfl⟩
    · cases he
  · rintro ⟨v, h1, h2, h3⟩
    refine ⟨(v, q.1), List.mem_zipIdx_iff_getElem?.mpr h1, ?_⟩
    rw [if_pos h2, ← h3]
theorem ex_has_sub {L : Array Slot} {n : Nat} {l l' : List (Nat × Value)} (h : lv_has L n l) (hs : ∀ q ∈ l', q ∈ l) : lv_has L n l' := ⟨h.1, h.2.1, fun q hq => h.2.2 q (hs q hq)⟩
theorem ex_has_at {ad : Nat → Nat} {L : Array Slot} {n : Nat} {ls : List ex_V} (h : lv_has L n (ex_pr ad ls)) {k : Nat} {v : ex_V} (hk : ls[k]? = some v) (hs : ex_sh v = true) : L[k]? = some (.val (ex_vv ad v)) := h.2.2 (k, ex_vv ad v) (ex_pr_mem.mpr ⟨v, hk, hs, rfl⟩)
theorem ex_cat {ad : Nat → Nat} {v : ex_V} (h : ex_sh v = true) : (ex_vv ad v).category = 1 := by
  obtain z | a | z := v
  · rfl
  · rfl
  · cases h
/-- a store -/
theorem ex_has_set {ad : Nat → Nat} {L' : Array Slot} {n k : Nat} {ls : List ex_V} {v : ex_V} {w : Value} (hw : w = ex_vv ad v) (h : lv_has L' n ((k, w) :: (ex_pr ad ls).filter (fun q => !(q.1 == k) && !(q.1 + 1 == k && q.2.category == 2)))) : lv_has L' n (ex_pr ad (ls.set k v)) := by
  refine ex_has_sub h (fun q hq => ?_)
  obtain ⟨u, h1, h2, h3⟩ := ex_pr_mem.mp hq
  obtain ⟨i, x⟩ := q
  dsimp only at h1 h3
  by_cases hi : i = k
  · subst hi
    have hlt : i < ls.length := by
      have := (List.getElem?_eq_some_iff.mp h1).1
      simpa using this
    rw [List.getElem?_set_self hlt] at h1
    cases h1
    rw [h3, ← hw]
    exact List.mem_cons_self
  · rw [List.getElem?_set_ne (Ne.symm hi)] at h1
    refine List.mem_cons_of_mem _ (List.mem_filter.mpr ⟨ex_pr_mem.mpr ⟨u, h1, h2, h3⟩, ?_⟩)
    dsimp only
    rw [h3]
    simp [hi, ex_cat h2]
/-- the words that keep -/
def lw_gd : List Cond := lw_tbl.filter goodWord
theorem lw_gd_mem {w : Cond} (h1 : w ∈ lw_tbl) (h2 : goodWord w = true) : w ∈ lw_gd := List.mem_filter.mpr ⟨h1, h2⟩
theorem lw_gd_good {w : Cond} (h : w ∈ lw_gd) : goodWord w = true := (List.mem_filter.mp h).2
theorem lw_lk {own : Nat} {q : ex_L} (h : q ∈ ex_lk own) (h3 : q.1 ≠ 3) : ex_lw q ∈ lw_gd := by
  refine lw_gd_mem (ex_lk_in own q h) ?_
  unfold ex_lw
  split <;> first | rfl | contradiction
/-- the classes -/
def nw_t (T : u_T) (k : Nat) : FieldType := (parseFieldDescriptor (T k).2.2.1).getD .int
def nw_ok (c : Nat) : Bool := match ex_cf[c]?, vwCl[c]? with
  | some f, some q => decide (q.2.2 = f.length) && ((List.range f.length).all (fun j => match f[j]? with
      | some none => decide (parseFieldDescriptor (q.2.1 j).2.2.1 = some .int)
      | some (some none) => (match parseFieldDescriptor (q.2.1 j).2.2.1 with
        | some (.object _) => true
        | some (.array _) => true
        | _ => false)
      | _ => false) && ((List.range f.length).all (fun a => (List.range f.length).all (fun b => decide (a ≠ b → (q.2.1 a).2.1 ≠ (q.2.1 b).2.1))) &&
      ((List.range f.length).all (fun j => decide ((q.2.1 j).1 = q.1)) && (decide (q.1 = ex_nm c) && (decide (Cond.instantiable q.1 f.length ∈ lw_tbl) && (decide (Cond.initialized q.1 ∈ lw_tbl) &&
      (u_ws q.1 q.2.1 q.2.2).all (fun w => decide (w ∈ lw_tbl) && goodWord w)))))))
  | _, _ => false
set_option maxRecDepth 100000 in
theorem nw_all : (List.range 13).all nw_ok = true := by decide +kernel
theorem nw_cf : ex_cf.length = 13 ∧ vwCl.length = 13 := by decide +kernel
def fk_ok (q : ex_L) : Bool := decide (q.1 = 1 → q.2.2.2.toNat / 32 < 13 ∧ 0 ≤ q.2.2.2) && (match vwCl[q.2.2.2.toNat / 32]? with
  | some r => decide (q.1 = 1 → q.2.2.2.toNat % 32 < r.2.2)
  | none => decide (q.1 ≠ 1))
theorem fk_all (own : Nat) : ∀ q ∈ ex_lk own, fk_ok q = true := by
  have key : ∀ (L : List ex_L), L.all fk_ok = true → ∀ q ∈ L, fk_ok q = true := fun L hL q hq => List.all_eq_true.mp hL q hq
  unfold ex_lk
  split <;> first | exact key _ (by decide +kernel) | (intro q hq; cases hq)
