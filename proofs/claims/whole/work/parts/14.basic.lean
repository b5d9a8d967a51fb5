/-! reads over writes; truth as a number; division; loops -/
theorem ex_ar_same (σ : ex_S) (a : Nat) (f : Int → Int) : ex_ar σ a f a = f := ex_ar_self σ a f
theorem ex_ar_diff (σ : ex_S) (a : Nat) (f : Int → Int) {b : Nat} (h : b ≠ a) : ex_ar σ a f b = σ b := ex_ar_ne σ f h
theorem ex_ar_ar (σ : ex_S) (a : Nat) (f g : Int → Int) : ex_ar (ex_ar σ a f) a g = ex_ar σ a g := by
  funext b
  by_cases h : b = a
  · rw [h, ex_ar_same, ex_ar_same]
  · rw [ex_ar_diff _ _ _ h, ex_ar_diff _ _ _ h, ex_ar_diff _ _ _ h]
theorem ex_ar_id (σ : ex_S) (a : Nat) : ex_ar σ a (σ a) = σ := by
  funext b
  by_cases h : b = a
  · rw [h, ex_ar_same]
  · rw [ex_ar_diff _ _ _ h]
theorem ex_ar_comm (σ : ex_S) {a b : Nat} (h : a ≠ b) (f g : Int → Int) : ex_ar (ex_ar σ a f) b g = ex_ar (ex_ar σ b g) a f := by
  funext c
  by_cases h1 : c = a
  · subst h1
    rw [ex_ar_diff _ _ _ h, ex_ar_same, ex_ar_same]
  · by_cases h2 : c = b
    · subst h2
      rw [ex_ar_same, ex_ar_diff _ _ _ h1, ex_ar_same]
    · rw [ex_ar_diff _ _ _ h2, ex_ar_diff _ _ _ h1, ex_ar_diff _ _ _ h1, ex_ar_diff _ _ _ h2]
theorem ex_u_same (f : Int → Int) (i z : Int) : ex_u f i z i = z := by unfold ex_u; rw [if_pos rfl]
theorem ex_u_diff (f : Int → Int) {i j : Int} (z : Int) (h : j ≠ i) : ex_u f i z j = f j := by unfold ex_u; rw [if_neg h]
def b2i (p : Prop) [Decidable p] : Int := if p then 1 else 0
theorem b2i_t {p : Prop} [Decidable p] (h : p) : b2i p = 1 := if_pos h
theorem b2i_f {p : Prop} [Decidable p] (h : ¬ p) : b2i p = 0 := if_neg h
theorem b2i_01 (p : Prop) [Decidable p] : b2i p = 0 ∨ b2i p = 1 := by unfold b2i; split; exact Or.inr rfl; exact Or.inl rfl
theorem ex_div_nn {a b : Int} (ha : 0 ≤ a) (ha2 : a ≤ 2147483647) (hb : 0 < b) (hb2 : b ≤ 2147483647) : ex_div a b = a / b := by
  unfold ex_div
  have h1 : (Int32.ofInt a).toInt = a := i_to ⟨by omega, ha2⟩
  have h2 : (Int32.ofInt b).toInt = b := i_to ⟨by omega, hb2⟩
  have h3 : 0 ≤ a / b := Int.ediv_nonneg ha (by omega)
  have h4 : a / b ≤ a := Int.ediv_le_self _ ha
  rw [Int32.toInt_div, h1, h2, Int.tdiv_eq_ediv_of_nonneg ha]
  exact Int.bmod_eq_of_le (by omega) (by omega)
theorem ex_rem_nn {a b : Int} (ha : 0 ≤ a) (ha2 : a ≤ 2147483647) (hb : 0 < b) (hb2 : b ≤ 2147483647) : ex_rem a b = a % b := by
  have hd := ex_div_nn ha ha2 hb hb2
  unfold ex_rem
  unfold ex_div at hd
  have e1 : Int32.ofInt a / Int32.ofInt b = Int32.ofInt (a / b) := by rw [← Int32.toInt_inj, hd]; exact (i_to ⟨by have := Int.ediv_nonneg ha (show 0 ≤ b by omega); omega, by have := Int.ediv_le_self b ha; omega⟩).symm
  rw [e1, ← Int32.ofInt_mul, ← Int32.ofInt_sub]
  have e2 : a - a / b * b = a % b := by rw [Int.emod_def, Int.mul_comm]
  rw [e2]
  have h5 := Int.emod_nonneg a (show b ≠ 0 by omega)
  have h6 := Int.emod_lt_of_pos a hb
  exact i_to ⟨by omega, by omega⟩
/-- a loop: f i for i, i + 1, .. (j times) -/
def itr {α : Type} (f : Nat → α → α) : Nat → Nat → α → α
  | _, 0, a => a
  | i, j + 1, a => itr f (i + 1) j (f i a)
theorem itr_congr {α : Type} {f g : Nat → α → α} : ∀ (j i : Nat) (a : α), (∀ k, i ≤ k → k < i + j → ∀ b, f k b = g k b) → itr f i j a = itr g i j a
  | 0, _, _, _ => rfl
  | j + 1, i, a, h => by
    show itr f (i + 1) j (f i a) = itr g (i + 1) j (g i a)
    rw [h i (by omega) (by omega), itr_congr j (i + 1) _ (fun k h1 h2 => h k (by omega) (by omega))]
theorem nat_cast_succ (i : Nat) : (i : Int) + 1 = ((i + 1 : Nat) : Int) := by omega
theorem b2i_iff {p q : Prop} [Decidable p] [Decidable q] (h : p ↔ q) : b2i p = b2i q := by
  by_cases hp : p
  · rw [b2i_t hp, b2i_t (h.mp hp)]
  · rw [b2i_f hp, b2i_f (fun hq => hp (h.mpr hq))]
theorem x_ret2b {J : Nat → List ex_V → List ex_V → ex_H → Option ex_R} {C : Nat → List ex_V → ex_H → Option ex_R} {is : List Instr} {ls : List ex_V} {h : ex_H} {p : Prop} [Decidable p] : ex_xs 2 J C (.ireturn :: is) ls [vI (b2i p)] h = some ([vI (b2i p)], h) := x_ret2 (b2i_01 p)
/-- a short stack below a call -/
def okN : Nat → List ex_V → Bool
  | _, [] => true
  | 0, _ :: _ => false
  | k + 1, v :: st => ex_sh v && okN k st
theorem ok_nil {k : Nat} : okN k [] = true := by cases k <;> rfl
theorem ok_I {k : Nat} {z : Int} {st : List ex_V} (h : okN k st = true) : okN (k + 1) (vI z :: st) = true := h
theorem ok_R {k : Nat} {z : Nat} {st : List ex_V} (h : okN k st = true) : okN (k + 1) (vR z :: st) = true := h
theorem okN_sh : ∀ (k : Nat) (st : List ex_V), okN k st = true → st.length ≤ k ∧ st.all ex_sh = true
  | _, [], _ => ⟨Nat.zero_le _, rfl⟩
  | 0, _ :: _, h => by cases h
  | k + 1, v :: st, h => by
    rw [okN, Bool.and_eq_true] at h
    obtain ⟨h1, h2⟩ := okN_sh k st h.2
    exact ⟨by rw [List.length_cons]; omega, by rw [List.all_cons, h.1, h2]; rfl⟩
theorem okN_ok {st : List ex_V} (h : okN 8 st = true) : ex_ok st = true := by
  obtain ⟨h1, h2⟩ := okN_sh 8 st h
  unfold ex_ok
  rw [h2, decide_eq_true h1]
  rfl
