/-! what is made at the start -/
def z0H : ex_H := ([cA 0, cA 4, cA 6, cA 6], fun _ _ => 0)
def z0R : Option ex_R := ex_r0 3000 40 241 0 [vR 0, vL 0, vL 0, vL 0] [] z0H
def z0V : Option (List ex_V) := z0R.map (fun r => r.1)
def z0C : Option (List ex_C) := z0R.map (fun r => r.2.1)
def eqV : ex_V → ex_V → Bool
  | .inl a, .inl b => a == b
  | .inr (.inl a), .inr (.inl b) => a == b
  | .inr (.inr a), .inr (.inr b) => a == b
  | _, _ => false
theorem eqV_ok : ∀ {a b : ex_V}, eqV a b = true → a = b
  | .inl a, .inl b, h => by rw [show a = b from eq_of_beq h]
  | .inr (.inl a), .inr (.inl b), h => by rw [show a = b from eq_of_beq h]
  | .inr (.inr a), .inr (.inr b), h => by rw [show a = b from eq_of_beq h]
  | .inl _, .inr _, h => by cases h
  | .inr (.inl _), .inl _, h => by cases h
  | .inr (.inr _), .inl _, h => by cases h
  | .inr (.inl _), .inr (.inr _), h => by cases h
  | .inr (.inr _), .inr (.inl _), h => by cases h
def eqL {α : Type} (f : α → α → Bool) : List α → List α → Bool
  | [], [] => true
  | a :: l, b :: m => f a b && eqL f l m
  | _, _ => false
theorem eqL_ok {α : Type} {f : α → α → Bool} (hf : ∀ {a b}, f a b = true → a = b) : ∀ {l m : List α}, eqL f l m = true → l = m
  | [], [], _ => rfl
  | a :: l, b :: m, h => by
    rw [eqL, Bool.and_eq_true] at h
    rw [hf h.1, eqL_ok hf h.2]
  | [], _ :: _, h => by cases h
  | _ :: _, [], h => by cases h
def eqC : ex_C → ex_C → Bool
  | .inl a, .inl b => a == b
  | .inr (.inl a), .inr (.inl b) => a == b
  | .inr (.inr (a, x)), .inr (.inr (b, y)) => a == b && x == y
  | _, _ => false
theorem eqC_ok : ∀ {a b : ex_C}, eqC a b = true → a = b
  | .inl a, .inl b, h => by rw [show a = b from eq_of_beq h]
  | .inr (.inl a), .inr (.inl b), h => by rw [show a = b from eq_of_beq h]
  | .inr (.inr (a, x)), .inr (.inr (b, y)), h => by
    unfold eqC at h
    rw [Bool.and_eq_true] at h
    rw [show a = b from eq_of_beq h.1, show x = y from eq_of_beq h.2]
  | .inl _, .inr _, h => by cases h
  | .inr (.inl _), .inl _, h => by cases h
  | .inr (.inr _), .inl _, h => by cases h
  | .inr (.inl _), .inr (.inr _), h => by cases h
  | .inr (.inr _), .inr (.inl _), h => by cases h
def z0T : Bool := match z0R with
  | some r => eqL eqV r.1 (lw_ls 0) && eqL eqC r.2.1 (cA 0 :: SHT)
  | none => false
set_option maxRecDepth 1000000 in
theorem z0_ok : z0T = true := by decide +kernel
