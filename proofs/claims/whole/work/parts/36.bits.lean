/-! bits of small numbers -/
theorem bv_int {x : BitVec 32} (h : x.toNat < 2147483648) : x.toInt = (x.toNat : Int) := BitVec.toInt_eq_toNat_of_lt (by omega)
theorem ex_or_nat {m k : Nat} (hm : m < 2147483648) (hk : k < 2147483648) : ex_or (m : Int) (k : Int) = ((m ||| k : Nat) : Int) := by
  have h : m ||| k < 2147483648 := Nat.or_lt_two_pow (n := 31) hm hk
  unfold ex_or
  rw [← Int32.toInt_toBitVec, Int32.toBitVec_or, Int32.toBitVec_ofInt, Int32.toBitVec_ofInt, BitVec.ofInt_natCast, BitVec.ofInt_natCast, ← BitVec.ofNat_or]
  have e : (BitVec.ofNat 32 (m ||| k)).toNat = m ||| k := by rw [BitVec.toNat_ofNat]; exact Nat.mod_eq_of_lt (by omega)
  rw [bv_int (by rw [e]; exact h), e]
theorem ex_and_nat {m k : Nat} (hm : m < 2147483648) (hk : k < 2147483648) : ex_and (m : Int) (k : Int) = ((m &&& k : Nat) : Int) := by
  have h : m &&& k < 2147483648 := Nat.and_lt_two_pow (n := 31) m hk
  unfold ex_and
  rw [← Int32.toInt_toBitVec, Int32.toBitVec_and, Int32.toBitVec_ofInt, Int32.toBitVec_ofInt, BitVec.ofInt_natCast, BitVec.ofInt_natCast, ← BitVec.ofNat_and]
  have e : (BitVec.ofNat 32 (m &&& k)).toNat = m &&& k := by rw [BitVec.toNat_ofNat]; exact Nat.mod_eq_of_lt (by omega)
  rw [bv_int (by rw [e]; exact h), e]
theorem ex_amt : ∀ k : Fin 32, ((Int32.ofInt (k.val : Int) &&& 31).toBitVec.smod 32).toNat = k.val := by decide
theorem ex_shr_nat {m k : Nat} (hm : m < 2147483648) (hk : k < 32) : ex_shr (m : Int) (k : Int) = ((m / 2 ^ k : Nat) : Int) := by
  unfold ex_shr
  show (BitVec.sshiftRight' (Int32.ofInt (m : Int)).toBitVec ((Int32.ofInt (k : Int) &&& 31).toBitVec.smod 32)).toInt = _
  rw [BitVec.toInt_sshiftRight', ex_amt ⟨k, hk⟩]
  have e : (Int32.ofInt (m : Int)).toBitVec.toInt = (m : Int) := i_to ⟨by omega, by omega⟩
  rw [e, Int.shiftRight_eq_div_pow]
  rfl
theorem ex_bit {m k : Nat} (hm : m < 2147483648) (hk : k < 32) : ex_and (ex_shr (m : Int) (k : Int)) 1 = ((m / 2 ^ k % 2 : Nat) : Int) := by
  rw [ex_shr_nat hm hk]
  have h : m / 2 ^ k ≤ m := Nat.div_le_self _ _
  rw [show (1 : Int) = ((1 : Nat) : Int) from rfl, ex_and_nat (by omega) (by decide), Nat.and_one_is_mod]
theorem ex_shl1 {k : Nat} (hk : k < 31) : ex_shl 1 (k : Int) = ((2 ^ k : Nat) : Int) := by
  have key : ∀ k : Fin 31, ex_shl 1 (k.val : Int) = ((2 ^ k.val : Nat) : Int) := by decide
  exact key ⟨k, hk⟩
theorem or_lo {a b : Int} {n : Nat} (hn : n ≤ 31) (h1 : 0 ≤ a) (h2 : a < 2 ^ n) (h3 : 0 ≤ b) (h4 : b < 2 ^ n) : 0 ≤ ex_or a b ∧ ex_or a b < 2 ^ n := by
  obtain ⟨m, rfl⟩ := Int.eq_ofNat_of_zero_le h1
  obtain ⟨k, rfl⟩ := Int.eq_ofNat_of_zero_le h3
  have hp : 2 ^ n ≤ 2 ^ 31 := Nat.pow_le_pow_right (by decide) hn
  have m2 : m < 2 ^ n := by exact_mod_cast h2
  have k2 : k < 2 ^ n := by exact_mod_cast h4
  rw [ex_or_nat (by omega) (by omega)]
  have := Nat.or_lt_two_pow m2 k2
  exact ⟨by omega, by exact_mod_cast this⟩
theorem y_ior {rt : Nat} {J : Nat → List ex_V → List ex_V → ex_H → Option ex_R} {C : Nat → List ex_V → ex_H → Option ex_R} {is : List Instr} {ls st : List ex_V} {h : ex_H} {a b : Int} : ex_xs rt J C (.ior :: is) ls (vI b :: vI a :: st) h = ex_xs rt J C is ls (vI (ex_or a b) :: st) h := by
  rw [x_ior]
theorem y_iand {rt : Nat} {J : Nat → List ex_V → List ex_V → ex_H → Option ex_R} {C : Nat → List ex_V → ex_H → Option ex_R} {is : List Instr} {ls st : List ex_V} {h : ex_H} {a b : Int} : ex_xs rt J C (.iand :: is) ls (vI b :: vI a :: st) h = ex_xs rt J C is ls (vI (ex_and a b) :: st) h := by
  rw [x_iand]
theorem y_ixor {rt : Nat} {J : Nat → List ex_V → List ex_V → ex_H → Option ex_R} {C : Nat → List ex_V → ex_H → Option ex_R} {is : List Instr} {ls st : List ex_V} {h : ex_H} {a b : Int} : ex_xs rt J C (.ixor :: is) ls (vI b :: vI a :: st) h = ex_xs rt J C is ls (vI (ex_xor a b) :: st) h := by
  rw [x_ixor]
theorem y_ishl {rt : Nat} {J : Nat → List ex_V → List ex_V → ex_H → Option ex_R} {C : Nat → List ex_V → ex_H → Option ex_R} {is : List Instr} {ls st : List ex_V} {h : ex_H} {a b : Int} : ex_xs rt J C (.ishl :: is) ls (vI b :: vI a :: st) h = ex_xs rt J C is ls (vI (ex_shl a b) :: st) h := by
  rw [x_ishl]
theorem y_ishr {rt : Nat} {J : Nat → List ex_V → List ex_V → ex_H → Option ex_R} {C : Nat → List ex_V → ex_H → Option ex_R} {is : List Instr} {ls st : List ex_V} {h : ex_H} {a b : Int} : ex_xs rt J C (.ishr :: is) ls (vI b :: vI a :: st) h = ex_xs rt J C is ls (vI (ex_shr a b) :: st) h := by
  rw [x_ishr]
theorem y_iadd {rt : Nat} {J : Nat → List ex_V → List ex_V → ex_H → Option ex_R} {C : Nat → List ex_V → ex_H → Option ex_R} {is : List Instr} {ls st : List ex_V} {h : ex_H} {a b : Int} : ex_xs rt J C (.iadd :: is) ls (vI b :: vI a :: st) h = ex_xs rt J C is ls (vI (ex_wr (a + b)) :: st) h := by
  rw [x_iadd]
theorem y_isub {rt : Nat} {J : Nat → List ex_V → List ex_V → ex_H → Option ex_R} {C : Nat → List ex_V → ex_H → Option ex_R} {is : List Instr} {ls st : List ex_V} {h : ex_H} {a b : Int} : ex_xs rt J C (.isub :: is) ls (vI b :: vI a :: st) h = ex_xs rt J C is ls (vI (ex_wr (a - b)) :: st) h := by
  rw [x_isub]
