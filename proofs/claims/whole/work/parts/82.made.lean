/-! what is made at the start -/
def z0H : ex_H := ([cA 0, cA 4, cA 6, cA 6], fun _ _ => 0)
def z0R : Option ex_R := ex_r0 3000 40 241 0 [vR 0, vL 0, vL 0, vL 0] [] z0H
def z0V : Option (List ex_V) := z0R.map (fun r => r.1)
def z0C : Option (List ex_C) := z0R.map (fun r => r.2.1)
def eqV : ex_V → ex_V → Bool
  | .inl a, .inl b => a == b
  | .inr (.inl a), .inr (.inl b) => a == b
  | .inr (.inr a), .inr (.inr b) => a == b
  | _, _ => false
theorem eqV_ok : ∀ {a b : ex_V}, eqV a b = true → a = b
  | .inl a, .inl b, h => by rw [show a = b from eq_of_beq h]
  | .inr (.inl a), .inr (.inl b), h => by rw [show a = b from eq_of_beq h]
  | .inr (.inr a), .inr (.inr b), h => by rw [show a = b from eq_of_beq h]
  | .inl _, .inr _, h => by cases h
  | .inr (.inl _), .inl _, h => by cases h
  | .inr (.inr _), .inl _, h => by cases h
  | .inr (.inl _), .inr (.inr _), h => by cases h
  | .inr (.inr _), .inr (.inl _), h => by cases h
def eqL {α : Type} (f : α → α → Bool) : List α → List α → Bool
  | [], [] => true
  | a :: l, b :: m => f a b && eqL f l m
  | _, _ => false
theorem eqL_ok {α : Type} {f : α → α → Bool} (hf : ∀ {a b}, f a b = true → a = b) : ∀ {l m : List α}, eqL f l m = true → l = m
  | [], [], _ => rfl
  | a :: l, b :: m, h => by
    rw [eqL, Bool.and_eq_true] at h
    rw [hf h.1, eqL_ok hf h.2]
  | [], _ :: _, h => by cases h
  | _ :: _, [], h => by cases h
def eqC : ex_C → ex_C → Bool
  | .inl a, .inl b => a == b
  | .inr (.inl a), .inr (.inl b) => a == b
  | .inr (.inr (a, x)), .inr (.inr (b, y)) => a == b && x == y
  | _, _ => false
theorem eqC_ok : ∀ {a b : ex_C}, eqC a b = true → a = b
  | .inl a, .inl b, h => by rw [show a = b from eq_of_beq h]
  | .inr (.inl a), .inr (.inl b), h => by rw [show a = b from eq_of_beq h]
  | .inr (.inr (a, x)), .inr (.inr (b, y)), h => by
    unfold eqC at h
    rw [Bool.and_eq_true] at h
    rw [show a = b from eq_of_beq h.1, show x = y from eq_of_beq h.2]
  | .inl _, .inr _, h => by cases h
  | .inr (.inl _), .inl _, h => by cases h
  | .inr (.inr _), .inl _, h => by cases h
  | .inr (.inl _), .inr (.inr _), h => by cases h
  | .inr (.inr _), .inr (.inl _), h => by cases h
/-- the numbers at the start: nothing but these four is not 0 -/
def n0 (k : Int) : Int := if k = 3 then 1 else if k = 5 then 10 else if 36 ≤ k ∧ k < 41 then 100 else 0
def d0 (k : Int) : Int := if k = 9 then 1 else if k = 11 then 10 else 0
/-- a cell, how many of it, what stands there -/
def z0A (σ : ex_S) (a : Nat) (f : Int → Int) : Nat → Bool
  | 0 => true
  | k + 1 => σ a (k : Int) == f (k : Int) && z0A σ a f k
theorem z0A_ok {σ : ex_S} {a : Nat} {f : Int → Int} : ∀ {n : Nat}, z0A σ a f n = true → ∀ i : Int, 0 ≤ i → i < (n : Int) → σ a i = f i
  | 0, _, i, h0, h1 => by omega
  | k + 1, h, i, h0, h1 => by
    rw [z0A, Bool.and_eq_true] at h
    by_cases e : i = (k : Int)
    · rw [e]; exact eq_of_beq h.1
    · exact z0A_ok h.2 i h0 (by omega)
def fz (_ : Int) : Int := 0
def z0S (σ : ex_S) : Bool := z0A σ 433 n0 277 && (z0A σ 5 d0 13 && (z0A σ 4 fz 12 && (z0A σ 432 fz 4 && (z0A σ 6 fz 2 && (z0A σ 18 fz 1 && (z0A σ 21 fz 1 && (z0A σ 25 fz 25 && (z0A σ 30 fz 4 && (z0A σ 31 fz 4 && (z0A σ 435 fz 4 && (z0A σ 436 fz 4 && (z0A σ 32 fz 80 && (z0A σ 437 fz 80 && z0A σ 447 fz 5)))))))))))))
def z0T : Bool := match z0R with
  | some r => eqL eqV r.1 (lw_ls 0) && (eqL eqC r.2.1 (cA 0 :: SHT) && z0S r.2.2)
  | none => false
set_option maxRecDepth 1000000 in
theorem z0_ok : z0T = true := by decide +kernel
theorem z0_r : ∃ r : ex_R, z0R = some r ∧ r.1 = lw_ls 0 ∧ r.2.1 = cA 0 :: SHT ∧ z0S r.2.2 = true := by
  have h := z0_ok
  unfold z0T at h
  cases e : z0R with
  | none => rw [e] at h; cases h
  | some r =>
    rw [e] at h
    dsimp only at h
    rw [Bool.and_eq_true, Bool.and_eq_true] at h
    exact ⟨r, rfl, eqL_ok eqV_ok h.1, eqL_ok eqC_ok h.2.1, h.2.2⟩
