/-! ways to go on: a branch parts the road, a loop is walked backwards; what the reference keeps of its row `now` -/
theorem bc_eq {rt : Nat} {J : Nat → List ex_V → List ex_V → ex_H → Option ex_R} {C : Nat → List ex_V → ex_H → Option ex_R} {is : List Instr} {ls st : List ex_V} {h : ex_H} {r : Option ex_R} {a b t : Int} (p : a = b → J t.toNat ls st h = r) (q : a ≠ b → ex_xs rt J C is ls st h = r) : ex_xs rt J C (.if_icmp .eq t :: is) ls (vI b :: vI a :: st) h = r := by
  by_cases z : a = b
  · rw [y_cmp_eq_t z]; exact p z
  · rw [y_cmp_eq_f (by omega)]; exact q (by omega)
theorem bc_ne {rt : Nat} {J : Nat → List ex_V → List ex_V → ex_H → Option ex_R} {C : Nat → List ex_V → ex_H → Option ex_R} {is : List Instr} {ls st : List ex_V} {h : ex_H} {r : Option ex_R} {a b t : Int} (p : a ≠ b → J t.toNat ls st h = r) (q : a = b → ex_xs rt J C is ls st h = r) : ex_xs rt J C (.if_icmp .ne t :: is) ls (vI b :: vI a :: st) h = r := by
  by_cases z : a ≠ b
  · rw [y_cmp_ne_t z]; exact p z
  · rw [y_cmp_ne_f (by omega)]; exact q (by omega)
theorem bc_lt {rt : Nat} {J : Nat → List ex_V → List ex_V → ex_H → Option ex_R} {C : Nat → List ex_V → ex_H → Option ex_R} {is : List Instr} {ls st : List ex_V} {h : ex_H} {r : Option ex_R} {a b t : Int} (p : a < b → J t.toNat ls st h = r) (q : b ≤ a → ex_xs rt J C is ls st h = r) : ex_xs rt J C (.if_icmp .lt t :: is) ls (vI b :: vI a :: st) h = r := by
  by_cases z : a < b
  · rw [y_cmp_lt_t z]; exact p z
  · rw [y_cmp_lt_f (by omega)]; exact q (by omega)
theorem bc_ge {rt : Nat} {J : Nat → List ex_V → List ex_V → ex_H → Option ex_R} {C : Nat → List ex_V → ex_H → Option ex_R} {is : List Instr} {ls st : List ex_V} {h : ex_H} {r : Option ex_R} {a b t : Int} (p : b ≤ a → J t.toNat ls st h = r) (q : a < b → ex_xs rt J C is ls st h = r) : ex_xs rt J C (.if_icmp .ge t :: is) ls (vI b :: vI a :: st) h = r := by
  by_cases z : b ≤ a
  · rw [y_cmp_ge_t z]; exact p z
  · rw [y_cmp_ge_f (by omega)]; exact q (by omega)
theorem bc_gt {rt : Nat} {J : Nat → List ex_V → List ex_V → ex_H → Option ex_R} {C : Nat → List ex_V → ex_H → Option ex_R} {is : List Instr} {ls st : List ex_V} {h : ex_H} {r : Option ex_R} {a b t : Int} (p : b < a → J t.toNat ls st h = r) (q : a ≤ b → ex_xs rt J C is ls st h = r) : ex_xs rt J C (.if_icmp .gt t :: is) ls (vI b :: vI a :: st) h = r := by
  by_cases z : b < a
  · rw [y_cmp_gt_t z]; exact p z
  · rw [y_cmp_gt_f (by omega)]; exact q (by omega)
theorem bc_le {rt : Nat} {J : Nat → List ex_V → List ex_V → ex_H → Option ex_R} {C : Nat → List ex_V → ex_H → Option ex_R} {is : List Instr} {ls st : List ex_V} {h : ex_H} {r : Option ex_R} {a b t : Int} (p : a ≤ b → J t.toNat ls st h = r) (q : b < a → ex_xs rt J C is ls st h = r) : ex_xs rt J C (.if_icmp .le t :: is) ls (vI b :: vI a :: st) h = r := by
  by_cases z : a ≤ b
  · rw [y_cmp_le_t z]; exact p z
  · rw [y_cmp_le_f (by omega)]; exact q (by omega)
theorem bi_eq {rt : Nat} {J : Nat → List ex_V → List ex_V → ex_H → Option ex_R} {C : Nat → List ex_V → ex_H → Option ex_R} {is : List Instr} {ls st : List ex_V} {h : ex_H} {r : Option ex_R} {a t : Int} (p : a = 0 → J t.toNat ls st h = r) (q : a ≠ 0 → ex_xs rt J C is ls st h = r) : ex_xs rt J C (.ifCond .eq t :: is) ls (vI a :: st) h = r := by
  by_cases z : a = 0
  · rw [y_if_eq_t z]; exact p z
  · rw [y_if_eq_f (by omega)]; exact q (by omega)
theorem bi_ne {rt : Nat} {J : Nat → List ex_V → List ex_V → ex_H → Option ex_R} {C : Nat → List ex_V → ex_H → Option ex_R} {is : List Instr} {ls st : List ex_V} {h : ex_H} {r : Option ex_R} {a t : Int} (p : a ≠ 0 → J t.toNat ls st h = r) (q : a = 0 → ex_xs rt J C is ls st h = r) : ex_xs rt J C (.ifCond .ne t :: is) ls (vI a :: st) h = r := by
  by_cases z : a ≠ 0
  · rw [y_if_ne_t z]; exact p z
  · rw [y_if_ne_f (by omega)]; exact q (by omega)
theorem bi_lt {rt : Nat} {J : Nat → List ex_V → List ex_V → ex_H → Option ex_R} {C : Nat → List ex_V → ex_H → Option ex_R} {is : List Instr} {ls st : List ex_V} {h : ex_H} {r : Option ex_R} {a t : Int} (p : a < 0 → J t.toNat ls st h = r) (q : 0 ≤ a → ex_xs rt J C is ls st h = r) : ex_xs rt J C (.ifCond .lt t :: is) ls (vI a :: st) h = r := by
  by_cases z : a < 0
  · rw [y_if_lt_t z]; exact p z
  · rw [y_if_lt_f (by omega)]; exact q (by omega)
theorem bi_ge {rt : Nat} {J : Nat → List ex_V → List ex_V → ex_H → Option ex_R} {C : Nat → List ex_V → ex_H → Option ex_R} {is : List Instr} {ls st : List ex_V} {h : ex_H} {r : Option ex_R} {a t : Int} (p : 0 ≤ a → J t.toNat ls st h = r) (q : a < 0 → ex_xs rt J C is ls st h = r) : ex_xs rt J C (.ifCond .ge t :: is) ls (vI a :: st) h = r := by
  by_cases z : 0 ≤ a
  · rw [y_if_ge_t z]; exact p z
  · rw [y_if_ge_f (by omega)]; exact q (by omega)
theorem bi_gt {rt : Nat} {J : Nat → List ex_V → List ex_V → ex_H → Option ex_R} {C : Nat → List ex_V → ex_H → Option ex_R} {is : List Instr} {ls st : List ex_V} {h : ex_H} {r : Option ex_R} {a t : Int} (p : 0 < a → J t.toNat ls st h = r) (q : a ≤ 0 → ex_xs rt J C is ls st h = r) : ex_xs rt J C (.ifCond .gt t :: is) ls (vI a :: st) h = r := by
  by_cases z : 0 < a
  · rw [y_if_gt_t z]; exact p z
  · rw [y_if_gt_f (by omega)]; exact q (by omega)
theorem bi_le {rt : Nat} {J : Nat → List ex_V → List ex_V → ex_H → Option ex_R} {C : Nat → List ex_V → ex_H → Option ex_R} {is : List Instr} {ls st : List ex_V} {h : ex_H} {r : Option ex_R} {a t : Int} (p : a ≤ 0 → J t.toNat ls st h = r) (q : 0 < a → ex_xs rt J C is ls st h = r) : ex_xs rt J C (.ifCond .le t :: is) ls (vI a :: st) h = r := by
  by_cases z : a ≤ 0
  · rw [y_if_le_t z]; exact p z
  · rw [y_if_le_f (by omega)]; exact q (by omega)
theorem bb_eq {rt : Nat} {J : Nat → List ex_V → List ex_V → ex_H → Option ex_R} {C : Nat → List ex_V → ex_H → Option ex_R} {is : List Instr} {ls st : List ex_V} {h : ex_H} {r : Option ex_R} {z : Prop} [Decidable z] {t : Int} (p : ¬ z → J t.toNat ls st h = r) (q : z → ex_xs rt J C is ls st h = r) : ex_xs rt J C (.ifCond .eq t :: is) ls (vI (b2i z) :: st) h = r := by
  by_cases y : z
  · rw [b2i_t y, y_if_eq_f (by decide)]; exact q y
  · rw [b2i_f y, y_if_eq_t rfl]; exact p y
theorem bb_ne {rt : Nat} {J : Nat → List ex_V → List ex_V → ex_H → Option ex_R} {C : Nat → List ex_V → ex_H → Option ex_R} {is : List Instr} {ls st : List ex_V} {h : ex_H} {r : Option ex_R} {z : Prop} [Decidable z] {t : Int} (p : z → J t.toNat ls st h = r) (q : ¬ z → ex_xs rt J C is ls st h = r) : ex_xs rt J C (.ifCond .ne t :: is) ls (vI (b2i z) :: st) h = r := by
  by_cases y : z
  · rw [b2i_t y, y_if_ne_t (by decide)]; exact p y
  · rw [b2i_f y, y_if_ne_f rfl]; exact q y
theorem down {N : Nat} {G : Nat → Prop} (hN : G N) (hs : ∀ i, i < N → G (i + 1) → G i) : ∀ i, i ≤ N → G i := by
  intro i hi
  have key : ∀ j i, i + j = N → G i := by
    intro j
    induction j with
    | zero => intro i h; rw [show i = N by omega]; exact hN
    | succ j ih => intro i h; exact hs i (by omega) (ih (i + 1) (by omega))
  exact key (N - i) i (by omega)
def cntS (n : Int → Int) : Int := b2i (0 ≤ standN n 0) + b2i (0 ≤ standN n 1) + b2i (0 ≤ standN n 2) + b2i (0 ≤ standN n 3) + b2i (0 ≤ standN n 4) + b2i (0 ≤ standN n 5) + b2i (0 ≤ standN n 6) + b2i (0 ≤ standN n 7)
def NI (n : Int → Int) : Prop := (0 ≤ n 0) ∧ (n 0 ≤ 5) ∧ (0 ≤ n 1) ∧ (n 1 ≤ 8) ∧ (0 ≤ n 2) ∧ (n 2 ≤ 23) ∧ (0 ≤ n 3) ∧ (n 3 ≤ 3) ∧ (0 ≤ n 4) ∧ (n 4 ≤ 3) ∧ (1 ≤ n 5) ∧ (n 5 ≤ 30) ∧ (-2147483648 ≤ n 6) ∧ (n 6 ≤ 2147483647) ∧ (0 ≤ n 7) ∧ (n 7 ≤ 7) ∧ (0 ≤ n 8) ∧ (n 8 ≤ 60) ∧ (0 ≤ n 9) ∧ (n 9 ≤ 16) ∧ (0 ≤ n 10) ∧ (n 10 ≤ 30) ∧ (okM n) ∧ (okP n) ∧ (∀ l : Int, 0 ≤ l → l < 5 → 0 ≤ n (11 + l) ∧ n (11 + l) ≤ 3) ∧ (∀ l : Int, 0 ≤ l → l < 5 → 0 ≤ n (16 + l) ∧ n (16 + l) ≤ 30) ∧ (∀ l : Int, 0 ≤ l → l < 5 → 0 ≤ n (21 + l) ∧ n (21 + l) ≤ 30) ∧ (∀ l : Int, 0 ≤ l → l < 5 → 0 ≤ n (26 + l) ∧ n (26 + l) ≤ 99) ∧ (∀ l : Int, 0 ≤ l → l < 5 → n (31 + l) = 0 ∨ n (31 + l) = 1) ∧ (∀ l : Int, 0 ≤ l → l < 5 → 0 ≤ n (36 + l) ∧ n (36 + l) ≤ 200) ∧ (∀ l : Int, 0 ≤ l → l < 5 → 0 ≤ n (41 + l) ∧ n (41 + l) ≤ 12) ∧ (∀ c : Int, 0 ≤ c → c < 8 → 0 ≤ n (91 + c) ∧ n (91 + c) ≤ 9) ∧ (∀ c : Int, 0 ≤ c → c < 8 → 0 ≤ n (99 + c) ∧ n (99 + c) ≤ 30) ∧ (∀ c : Int, 0 ≤ c → c < 8 → 0 ≤ n (107 + c) ∧ n (107 + c) ≤ 99) ∧ (∀ c : Int, 0 ≤ c → c < 8 → 0 ≤ n (115 + c) ∧ n (115 + c) ≤ 23) ∧ (∀ c : Int, 0 ≤ c → c < 8 → 0 ≤ n (123 + c) ∧ n (123 + c) ≤ 9) ∧ (∀ c : Int, 0 ≤ c → c < 8 → 0 ≤ n (131 + c) ∧ n (131 + c) ≤ 99) ∧ (∀ k : Int, 0 ≤ k → k < n 7 → 0 ≤ n (139 + k) ∧ n (139 + k) < n 1) ∧ (∀ k : Int, 0 ≤ k → k < 25 → 0 ≤ n (146 + k) ∧ n (146 + k) ≤ 999) ∧ (∀ k : Int, 0 ≤ k → k < n 8 → (0 ≤ n (171 + k) ∧ n (171 + k) < 32) ∨ (64 ≤ n (171 + k) ∧ n (171 + k) < 80)) ∧ (∀ k : Int, 0 ≤ k → k < n 9 → (1 ≤ n (231 + k) ∧ n (231 + k) ≤ 6) ∨ (10 ≤ n (231 + k) ∧ n (231 + k) ≤ 33) ∨ (40 ≤ n (231 + k) ∧ n (231 + k) ≤ 44)) ∧ (∀ k : Int, 0 ≤ k → k < n 10 → 0 ≤ n (247 + k) ∧ n (247 + k) < 512 ∧ n (247 + k) / 8 % 32 ≤ 23) ∧ (∀ l i : Int, 0 ≤ l → l < 5 → 0 ≤ i → i < n (46 + l) → n (51 + 8 * l + i) < n 1) ∧ (∀ l i l' i' : Int, 0 ≤ l → l < 5 → 0 ≤ i → i < n (46 + l) → 0 ≤ l' → l' < 5 → 0 ≤ i' → i' < n (46 + l') → n (51 + 8 * l + i) = n (51 + 8 * l' + i') → l = l' ∧ i = i') ∧ (∀ l : Int, n 0 ≤ l → l < 5 → n (46 + l) = 0 ∧ n (36 + l) = 100 ∧ n (41 + l) = 0 ∧ n (31 + l) = 0) ∧ (n 46 + n 47 + n 48 + n 49 + n 50 = cntS n)
theorem NI.a0 {n : Int → Int} (h : NI n) : 0 ≤ n 0 := h.1
theorem NI.b0 {n : Int → Int} (h : NI n) : n 0 ≤ 5 := h.2.1
theorem NI.a1 {n : Int → Int} (h : NI n) : 0 ≤ n 1 := h.2.2.1
theorem NI.b1 {n : Int → Int} (h : NI n) : n 1 ≤ 8 := h.2.2.2.1
theorem NI.a2 {n : Int → Int} (h : NI n) : 0 ≤ n 2 := h.2.2.2.2.1
theorem NI.b2 {n : Int → Int} (h : NI n) : n 2 ≤ 23 := h.2.2.2.2.2.1
theorem NI.a3 {n : Int → Int} (h : NI n) : 0 ≤ n 3 := h.2.2.2.2.2.2.1
theorem NI.b3 {n : Int → Int} (h : NI n) : n 3 ≤ 3 := h.2.2.2.2.2.2.2.1
theorem NI.a4 {n : Int → Int} (h : NI n) : 0 ≤ n 4 := h.2.2.2.2.2.2.2.2.1
theorem NI.b4 {n : Int → Int} (h : NI n) : n 4 ≤ 3 := h.2.2.2.2.2.2.2.2.2.1
theorem NI.a5 {n : Int → Int} (h : NI n) : 1 ≤ n 5 := h.2.2.2.2.2.2.2.2.2.2.1
theorem NI.b5 {n : Int → Int} (h : NI n) : n 5 ≤ 30 := h.2.2.2.2.2.2.2.2.2.2.2.1
theorem NI.a6 {n : Int → Int} (h : NI n) : -2147483648 ≤ n 6 := h.2.2.2.2.2.2.2.2.2.2.2.2.1
theorem NI.b6 {n : Int → Int} (h : NI n) : n 6 ≤ 2147483647 := h.2.2.2.2.2.2.2.2.2.2.2.2.2.1
theorem NI.a7 {n : Int → Int} (h : NI n) : 0 ≤ n 7 := h.2.2.2.2.2.2.2.2.2.2.2.2.2.2.1
theorem NI.b7 {n : Int → Int} (h : NI n) : n 7 ≤ 7 := h.2.2.2.2.2.2.2.2.2.2.2.2.2.2.2.1
theorem NI.a8 {n : Int → Int} (h : NI n) : 0 ≤ n 8 := h.2.2.2.2.2.2.2.2.2.2.2.2.2.2.2.2.1
theorem NI.b8 {n : Int → Int} (h : NI n) : n 8 ≤ 60 := h.2.2.2.2.2.2.2.2.2.2.2.2.2.2.2.2.2.1
theorem NI.a9 {n : Int → Int} (h : NI n) : 0 ≤ n 9 := h.2.2.2.2.2.2.2.2.2.2.2.2.2.2.2.2.2.2.1
theorem NI.b9 {n : Int → Int} (h : NI n) : n 9 ≤ 16 := h.2.2.2.2.2.2.2.2.2.2.2.2.2.2.2.2.2.2.2.1
theorem NI.a10 {n : Int → Int} (h : NI n) : 0 ≤ n 10 := h.2.2.2.2.2.2.2.2.2.2.2.2.2.2.2.2.2.2.2.2.1
theorem NI.b10 {n : Int → Int} (h : NI n) : n 10 ≤ 30 := h.2.2.2.2.2.2.2.2.2.2.2.2.2.2.2.2.2.2.2.2.2.1
theorem NI.oM {n : Int → Int} (h : NI n) : okM n := h.2.2.2.2.2.2.2.2.2.2.2.2.2.2.2.2.2.2.2.2.2.2.1
theorem NI.oP {n : Int → Int} (h : NI n) : okP n := h.2.2.2.2.2.2.2.2.2.2.2.2.2.2.2.2.2.2.2.2.2.2.2.1
theorem NI.kd {n : Int → Int} (h : NI n) : ∀ l : Int, 0 ≤ l → l < 5 → 0 ≤ n (11 + l) ∧ n (11 + l) ≤ 3 := h.2.2.2.2.2.2.2.2.2.2.2.2.2.2.2.2.2.2.2.2.2.2.2.2.1
theorem NI.ln {n : Int → Int} (h : NI n) : ∀ l : Int, 0 ≤ l → l < 5 → 0 ≤ n (16 + l) ∧ n (16 + l) ≤ 30 := h.2.2.2.2.2.2.2.2.2.2.2.2.2.2.2.2.2.2.2.2.2.2.2.2.2.1
theorem NI.ht {n : Int → Int} (h : NI n) : ∀ l : Int, 0 ≤ l → l < 5 → 0 ≤ n (21 + l) ∧ n (21 + l) ≤ 30 := h.2.2.2.2.2.2.2.2.2.2.2.2.2.2.2.2.2.2.2.2.2.2.2.2.2.2.1
theorem NI.ld {n : Int → Int} (h : NI n) : ∀ l : Int, 0 ≤ l → l < 5 → 0 ≤ n (26 + l) ∧ n (26 + l) ≤ 99 := h.2.2.2.2.2.2.2.2.2.2.2.2.2.2.2.2.2.2.2.2.2.2.2.2.2.2.2.1
theorem NI.bk {n : Int → Int} (h : NI n) : ∀ l : Int, 0 ≤ l → l < 5 → n (31 + l) = 0 ∨ n (31 + l) = 1 := h.2.2.2.2.2.2.2.2.2.2.2.2.2.2.2.2.2.2.2.2.2.2.2.2.2.2.2.2.1
theorem NI.mi {n : Int → Int} (h : NI n) : ∀ l : Int, 0 ≤ l → l < 5 → 0 ≤ n (36 + l) ∧ n (36 + l) ≤ 200 := h.2.2.2.2.2.2.2.2.2.2.2.2.2.2.2.2.2.2.2.2.2.2.2.2.2.2.2.2.2.1
theorem NI.cy {n : Int → Int} (h : NI n) : ∀ l : Int, 0 ≤ l → l < 5 → 0 ≤ n (41 + l) ∧ n (41 + l) ≤ 12 := h.2.2.2.2.2.2.2.2.2.2.2.2.2.2.2.2.2.2.2.2.2.2.2.2.2.2.2.2.2.2.1
theorem NI.c0 {n : Int → Int} (h : NI n) : ∀ c : Int, 0 ≤ c → c < 8 → 0 ≤ n (91 + c) ∧ n (91 + c) ≤ 9 := h.2.2.2.2.2.2.2.2.2.2.2.2.2.2.2.2.2.2.2.2.2.2.2.2.2.2.2.2.2.2.2.1
theorem NI.c1 {n : Int → Int} (h : NI n) : ∀ c : Int, 0 ≤ c → c < 8 → 0 ≤ n (99 + c) ∧ n (99 + c) ≤ 30 := h.2.2.2.2.2.2.2.2.2.2.2.2.2.2.2.2.2.2.2.2.2.2.2.2.2.2.2.2.2.2.2.2.1
theorem NI.c2 {n : Int → Int} (h : NI n) : ∀ c : Int, 0 ≤ c → c < 8 → 0 ≤ n (107 + c) ∧ n (107 + c) ≤ 99 := h.2.2.2.2.2.2.2.2.2.2.2.2.2.2.2.2.2.2.2.2.2.2.2.2.2.2.2.2.2.2.2.2.2.1
theorem NI.c3 {n : Int → Int} (h : NI n) : ∀ c : Int, 0 ≤ c → c < 8 → 0 ≤ n (115 + c) ∧ n (115 + c) ≤ 23 := h.2.2.2.2.2.2.2.2.2.2.2.2.2.2.2.2.2.2.2.2.2.2.2.2.2.2.2.2.2.2.2.2.2.2.1
theorem NI.c4 {n : Int → Int} (h : NI n) : ∀ c : Int, 0 ≤ c → c < 8 → 0 ≤ n (123 + c) ∧ n (123 + c) ≤ 9 := h.2.2.2.2.2.2.2.2.2.2.2.2.2.2.2.2.2.2.2.2.2.2.2.2.2.2.2.2.2.2.2.2.2.2.2.1
theorem NI.c5 {n : Int → Int} (h : NI n) : ∀ c : Int, 0 ≤ c → c < 8 → 0 ≤ n (131 + c) ∧ n (131 + c) ≤ 99 := h.2.2.2.2.2.2.2.2.2.2.2.2.2.2.2.2.2.2.2.2.2.2.2.2.2.2.2.2.2.2.2.2.2.2.2.2.1
theorem NI.ar {n : Int → Int} (h : NI n) : ∀ k : Int, 0 ≤ k → k < n 7 → 0 ≤ n (139 + k) ∧ n (139 + k) < n 1 := h.2.2.2.2.2.2.2.2.2.2.2.2.2.2.2.2.2.2.2.2.2.2.2.2.2.2.2.2.2.2.2.2.2.2.2.2.2.1
theorem NI.bd {n : Int → Int} (h : NI n) : ∀ k : Int, 0 ≤ k → k < 25 → 0 ≤ n (146 + k) ∧ n (146 + k) ≤ 999 := h.2.2.2.2.2.2.2.2.2.2.2.2.2.2.2.2.2.2.2.2.2.2.2.2.2.2.2.2.2.2.2.2.2.2.2.2.2.2.1
theorem NI.le {n : Int → Int} (h : NI n) : ∀ k : Int, 0 ≤ k → k < n 8 → (0 ≤ n (171 + k) ∧ n (171 + k) < 32) ∨ (64 ≤ n (171 + k) ∧ n (171 + k) < 80) := h.2.2.2.2.2.2.2.2.2.2.2.2.2.2.2.2.2.2.2.2.2.2.2.2.2.2.2.2.2.2.2.2.2.2.2.2.2.2.2.1
theorem NI.tx {n : Int → Int} (h : NI n) : ∀ k : Int, 0 ≤ k → k < n 9 → (1 ≤ n (231 + k) ∧ n (231 + k) ≤ 6) ∨ (10 ≤ n (231 + k) ∧ n (231 + k) ≤ 33) ∨ (40 ≤ n (231 + k) ∧ n (231 + k) ≤ 44) := h.2.2.2.2.2.2.2.2.2.2.2.2.2.2.2.2.2.2.2.2.2.2.2.2.2.2.2.2.2.2.2.2.2.2.2.2.2.2.2.2.1
theorem NI.no {n : Int → Int} (h : NI n) : ∀ k : Int, 0 ≤ k → k < n 10 → 0 ≤ n (247 + k) ∧ n (247 + k) < 512 ∧ n (247 + k) / 8 % 32 ≤ 23 := h.2.2.2.2.2.2.2.2.2.2.2.2.2.2.2.2.2.2.2.2.2.2.2.2.2.2.2.2.2.2.2.2.2.2.2.2.2.2.2.2.2.1
theorem NI.po {n : Int → Int} (h : NI n) : ∀ l i : Int, 0 ≤ l → l < 5 → 0 ≤ i → i < n (46 + l) → n (51 + 8 * l + i) < n 1 := h.2.2.2.2.2.2.2.2.2.2.2.2.2.2.2.2.2.2.2.2.2.2.2.2.2.2.2.2.2.2.2.2.2.2.2.2.2.2.2.2.2.2.1
theorem NI.ds {n : Int → Int} (h : NI n) : ∀ l i l' i' : Int, 0 ≤ l → l < 5 → 0 ≤ i → i < n (46 + l) → 0 ≤ l' → l' < 5 → 0 ≤ i' → i' < n (46 + l') → n (51 + 8 * l + i) = n (51 + 8 * l' + i') → l = l' ∧ i = i' := h.2.2.2.2.2.2.2.2.2.2.2.2.2.2.2.2.2.2.2.2.2.2.2.2.2.2.2.2.2.2.2.2.2.2.2.2.2.2.2.2.2.2.2.1
theorem NI.ou {n : Int → Int} (h : NI n) : ∀ l : Int, n 0 ≤ l → l < 5 → n (46 + l) = 0 ∧ n (36 + l) = 100 ∧ n (41 + l) = 0 ∧ n (31 + l) = 0 := h.2.2.2.2.2.2.2.2.2.2.2.2.2.2.2.2.2.2.2.2.2.2.2.2.2.2.2.2.2.2.2.2.2.2.2.2.2.2.2.2.2.2.2.2.1
theorem NI.sm {n : Int → Int} (h : NI n) : n 46 + n 47 + n 48 + n 49 + n 50 = cntS n := h.2.2.2.2.2.2.2.2.2.2.2.2.2.2.2.2.2.2.2.2.2.2.2.2.2.2.2.2.2.2.2.2.2.2.2.2.2.2.2.2.2.2.2.2.2
theorem NI.mk {n : Int → Int} (a0 : 0 ≤ n 0) (b0 : n 0 ≤ 5) (a1 : 0 ≤ n 1) (b1 : n 1 ≤ 8) (a2 : 0 ≤ n 2) (b2 : n 2 ≤ 23) (a3 : 0 ≤ n 3) (b3 : n 3 ≤ 3) (a4 : 0 ≤ n 4) (b4 : n 4 ≤ 3) (a5 : 1 ≤ n 5) (b5 : n 5 ≤ 30) (a6 : -2147483648 ≤ n 6) (b6 : n 6 ≤ 2147483647) (a7 : 0 ≤ n 7) (b7 : n 7 ≤ 7) (a8 : 0 ≤ n 8) (b8 : n 8 ≤ 60) (a9 : 0 ≤ n 9) (b9 : n 9 ≤ 16) (a10 : 0 ≤ n 10) (b10 : n 10 ≤ 30) (oM : okM n) (oP : okP n) (kd : ∀ l : Int, 0 ≤ l → l < 5 → 0 ≤ n (11 + l) ∧ n (11 + l) ≤ 3) (ln : ∀ l : Int, 0 ≤ l → l < 5 → 0 ≤ n (16 + l) ∧ n (16 + l) ≤ 30) (ht : ∀ l : Int, 0 ≤ l → l < 5 → 0 ≤ n (21 + l) ∧ n (21 + l) ≤ 30) (ld : ∀ l : Int, 0 ≤ l → l < 5 → 0 ≤ n (26 + l) ∧ n (26 + l) ≤ 99) (bk : ∀ l : Int, 0 ≤ l → l < 5 → n (31 + l) = 0 ∨ n (31 + l) = 1) (mi : ∀ l : Int, 0 ≤ l → l < 5 → 0 ≤ n (36 + l) ∧ n (36 + l) ≤ 200) (cy : ∀ l : Int, 0 ≤ l → l < 5 → 0 ≤ n (41 + l) ∧ n (41 + l) ≤ 12) (c0 : ∀ c : Int, 0 ≤ c → c < 8 → 0 ≤ n (91 + c) ∧ n (91 + c) ≤ 9) (c1 : ∀ c : Int, 0 ≤ c → c < 8 → 0 ≤ n (99 + c) ∧ n (99 + c) ≤ 30) (c2 : ∀ c : Int, 0 ≤ c → c < 8 → 0 ≤ n (107 + c) ∧ n (107 + c) ≤ 99) (c3 : ∀ c : Int, 0 ≤ c → c < 8 → 0 ≤ n (115 + c) ∧ n (115 + c) ≤ 23) (c4 : ∀ c : Int, 0 ≤ c → c < 8 → 0 ≤ n (123 + c) ∧ n (123 + c) ≤ 9) (c5 : ∀ c : Int, 0 ≤ c → c < 8 → 0 ≤ n (131 + c) ∧ n (131 + c) ≤ 99) (ar : ∀ k : Int, 0 ≤ k → k < n 7 → 0 ≤ n (139 + k) ∧ n (139 + k) < n 1) (bd : ∀ k : Int, 0 ≤ k → k < 25 → 0 ≤ n (146 + k) ∧ n (146 + k) ≤ 999) (le : ∀ k : Int, 0 ≤ k → k < n 8 → (0 ≤ n (171 + k) ∧ n (171 + k) < 32) ∨ (64 ≤ n (171 + k) ∧ n (171 + k) < 80)) (tx : ∀ k : Int, 0 ≤ k → k < n 9 → (1 ≤ n (231 + k) ∧ n (231 + k) ≤ 6) ∨ (10 ≤ n (231 + k) ∧ n (231 + k) ≤ 33) ∨ (40 ≤ n (231 + k) ∧ n (231 + k) ≤ 44)) (no : ∀ k : Int, 0 ≤ k → k < n 10 → 0 ≤ n (247 + k) ∧ n (247 + k) < 512 ∧ n (247 + k) / 8 % 32 ≤ 23) (po : ∀ l i : Int, 0 ≤ l → l < 5 → 0 ≤ i → i < n (46 + l) → n (51 + 8 * l + i) < n 1) (ds : ∀ l i l' i' : Int, 0 ≤ l → l < 5 → 0 ≤ i → i < n (46 + l) → 0 ≤ l' → l' < 5 → 0 ≤ i' → i' < n (46 + l') → n (51 + 8 * l + i) = n (51 + 8 * l' + i') → l = l' ∧ i = i') (ou : ∀ l : Int, n 0 ≤ l → l < 5 → n (46 + l) = 0 ∧ n (36 + l) = 100 ∧ n (41 + l) = 0 ∧ n (31 + l) = 0) (sm : n 46 + n 47 + n 48 + n 49 + n 50 = cntS n) : NI n := ⟨a0, b0, a1, b1, a2, b2, a3, b3, a4, b4, a5, b5, a6, b6, a7, b7, a8, b8, a9, b9, a10, b10, oM, oP, kd, ln, ht, ld, bk, mi, cy, c0, c1, c2, c3, c4, c5, ar, bd, le, tx, no, po, ds, ou, sm⟩
