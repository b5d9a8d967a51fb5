/-! where a car stands, told by its place; the invariant in groups -/
theorem sI_no (n : Int → Int) (c l : Int) (hl : 0 ≤ l) : ∀ (j i : Nat), sI n c l i j < 0 → ∀ k : Nat, i ≤ k → k < i + j → n (51 + 8 * l + (k : Int)) ≠ c
  | 0, i, _, k, h1, h2 => by omega
  | j + 1, i, h, k, h1, h2 => by
    rw [sI] at h
    by_cases e : n (51 + 8 * l + (i : Int)) = c
    · rw [if_pos e] at h; omega
    · rw [if_neg e] at h
      by_cases ek : k = i
      · rw [ek]; exact e
      · exact sI_no n c l hl j (i + 1) h k (by omega) (by omega)
theorem sO_no (n : Int → Int) (c : Int) : ∀ (j l : Nat), sO n c l j < 0 → ∀ k : Nat, l ≤ k → k < l + j → ∀ i : Nat, (i : Int) < n (46 + (k : Int)) → n (51 + 8 * (k : Int) + (i : Int)) ≠ c
  | 0, l, _, k, h1, h2, _, _ => by omega
  | j + 1, l, h, k, h1, h2, i, hi => by
    rw [sO] at h
    by_cases e : sI n c (l : Int) 0 (n (46 + (l : Int))).toNat < 0
    · rw [if_pos e] at h
      by_cases ek : k = l
      · subst ek
        exact sI_no n c (k : Int) (by omega) _ 0 e i (by omega) (by omega)
      · exact sO_no n c j (l + 1) h k (by omega) (by omega) i hi
    · rw [if_neg e] at h; omega
/-- the geometry -/
def G1 (n : Int → Int) : Prop := (0 ≤ n 0) ∧ (n 0 ≤ 5) ∧ (0 ≤ n 1) ∧ (n 1 ≤ 8) ∧ (okM n) ∧ (okP n) ∧ (∀ l : Int, 0 ≤ l → l < 5 → 0 ≤ n (11 + l) ∧ n (11 + l) ≤ 3) ∧ (∀ l : Int, 0 ≤ l → l < 5 → 0 ≤ n (16 + l) ∧ n (16 + l) ≤ 30) ∧ (∀ l : Int, 0 ≤ l → l < 5 → 0 ≤ n (21 + l) ∧ n (21 + l) ≤ 30) ∧ (∀ l : Int, 0 ≤ l → l < 5 → 0 ≤ n (26 + l) ∧ n (26 + l) ≤ 99) ∧ (∀ l : Int, 0 ≤ l → l < 5 → n (31 + l) = 0 ∨ n (31 + l) = 1) ∧ (∀ l : Int, 0 ≤ l → l < 5 → 0 ≤ n (36 + l) ∧ n (36 + l) ≤ 200) ∧ (∀ l : Int, 0 ≤ l → l < 5 → 0 ≤ n (41 + l) ∧ n (41 + l) ≤ 12) ∧ (∀ l i : Int, 0 ≤ l → l < 5 → 0 ≤ i → i < n (46 + l) → n (51 + 8 * l + i) < n 1) ∧ (∀ l i l' i' : Int, 0 ≤ l → l < 5 → 0 ≤ i → i < n (46 + l) → 0 ≤ l' → l' < 5 → 0 ≤ i' → i' < n (46 + l') → n (51 + 8 * l + i) = n (51 + 8 * l' + i') → l = l' ∧ i = i') ∧ (∀ l : Int, n 0 ≤ l → l < 5 → n (46 + l) = 0 ∧ n (36 + l) = 100 ∧ n (41 + l) = 0 ∧ n (31 + l) = 0) ∧ (n 46 + n 47 + n 48 + n 49 + n 50 = cntS n)
theorem G1.a0 {n : Int → Int} (h : G1 n) : 0 ≤ n 0 := h.1
theorem G1.b0 {n : Int → Int} (h : G1 n) : n 0 ≤ 5 := h.2.1
theorem G1.a1 {n : Int → Int} (h : G1 n) : 0 ≤ n 1 := h.2.2.1
theorem G1.b1 {n : Int → Int} (h : G1 n) : n 1 ≤ 8 := h.2.2.2.1
theorem G1.oM {n : Int → Int} (h : G1 n) : okM n := h.2.2.2.2.1
theorem G1.oP {n : Int → Int} (h : G1 n) : okP n := h.2.2.2.2.2.1
theorem G1.kd {n : Int → Int} (h : G1 n) : ∀ l : Int, 0 ≤ l → l < 5 → 0 ≤ n (11 + l) ∧ n (11 + l) ≤ 3 := h.2.2.2.2.2.2.1
theorem G1.ln {n : Int → Int} (h : G1 n) : ∀ l : Int, 0 ≤ l → l < 5 → 0 ≤ n (16 + l) ∧ n (16 + l) ≤ 30 := h.2.2.2.2.2.2.2.1
theorem G1.ht {n : Int → Int} (h : G1 n) : ∀ l : Int, 0 ≤ l → l < 5 → 0 ≤ n (21 + l) ∧ n (21 + l) ≤ 30 := h.2.2.2.2.2.2.2.2.1
theorem G1.ld {n : Int → Int} (h : G1 n) : ∀ l : Int, 0 ≤ l → l < 5 → 0 ≤ n (26 + l) ∧ n (26 + l) ≤ 99 := h.2.2.2.2.2.2.2.2.2.1
theorem G1.bk {n : Int → Int} (h : G1 n) : ∀ l : Int, 0 ≤ l → l < 5 → n (31 + l) = 0 ∨ n (31 + l) = 1 := h.2.2.2.2.2.2.2.2.2.2.1
theorem G1.mi {n : Int → Int} (h : G1 n) : ∀ l : Int, 0 ≤ l → l < 5 → 0 ≤ n (36 + l) ∧ n (36 + l) ≤ 200 := h.2.2.2.2.2.2.2.2.2.2.2.1
theorem G1.cy {n : Int → Int} (h : G1 n) : ∀ l : Int, 0 ≤ l → l < 5 → 0 ≤ n (41 + l) ∧ n (41 + l) ≤ 12 := h.2.2.2.2.2.2.2.2.2.2.2.2.1
theorem G1.po {n : Int → Int} (h : G1 n) : ∀ l i : Int, 0 ≤ l → l < 5 → 0 ≤ i → i < n (46 + l) → n (51 + 8 * l + i) < n 1 := h.2.2.2.2.2.2.2.2.2.2.2.2.2.1
theorem G1.ds {n : Int → Int} (h : G1 n) : ∀ l i l' i' : Int, 0 ≤ l → l < 5 → 0 ≤ i → i < n (46 + l) → 0 ≤ l' → l' < 5 → 0 ≤ i' → i' < n (46 + l') → n (51 + 8 * l + i) = n (51 + 8 * l' + i') → l = l' ∧ i = i' := h.2.2.2.2.2.2.2.2.2.2.2.2.2.2.1
theorem G1.ou {n : Int → Int} (h : G1 n) : ∀ l : Int, n 0 ≤ l → l < 5 → n (46 + l) = 0 ∧ n (36 + l) = 100 ∧ n (41 + l) = 0 ∧ n (31 + l) = 0 := h.2.2.2.2.2.2.2.2.2.2.2.2.2.2.2.1
theorem G1.sm {n : Int → Int} (h : G1 n) : n 46 + n 47 + n 48 + n 49 + n 50 = cntS n := h.2.2.2.2.2.2.2.2.2.2.2.2.2.2.2.2
theorem G1.mk {n : Int → Int} (a0 : 0 ≤ n 0) (b0 : n 0 ≤ 5) (a1 : 0 ≤ n 1) (b1 : n 1 ≤ 8) (oM : okM n) (oP : okP n) (kd : ∀ l : Int, 0 ≤ l → l < 5 → 0 ≤ n (11 + l) ∧ n (11 + l) ≤ 3) (ln : ∀ l : Int, 0 ≤ l → l < 5 → 0 ≤ n (16 + l) ∧ n (16 + l) ≤ 30) (ht : ∀ l : Int, 0 ≤ l → l < 5 → 0 ≤ n (21 + l) ∧ n (21 + l) ≤ 30) (ld : ∀ l : Int, 0 ≤ l → l < 5 → 0 ≤ n (26 + l) ∧ n (26 + l) ≤ 99) (bk : ∀ l : Int, 0 ≤ l → l < 5 → n (31 + l) = 0 ∨ n (31 + l) = 1) (mi : ∀ l : Int, 0 ≤ l → l < 5 → 0 ≤ n (36 + l) ∧ n (36 + l) ≤ 200) (cy : ∀ l : Int, 0 ≤ l → l < 5 → 0 ≤ n (41 + l) ∧ n (41 + l) ≤ 12) (po : ∀ l i : Int, 0 ≤ l → l < 5 → 0 ≤ i → i < n (46 + l) → n (51 + 8 * l + i) < n 1) (ds : ∀ l i l' i' : Int, 0 ≤ l → l < 5 → 0 ≤ i → i < n (46 + l) → 0 ≤ l' → l' < 5 → 0 ≤ i' → i' < n (46 + l') → n (51 + 8 * l + i) = n (51 + 8 * l' + i') → l = l' ∧ i = i') (ou : ∀ l : Int, n 0 ≤ l → l < 5 → n (46 + l) = 0 ∧ n (36 + l) = 100 ∧ n (41 + l) = 0 ∧ n (31 + l) = 0) (sm : n 46 + n 47 + n 48 + n 49 + n 50 = cntS n) : G1 n := ⟨a0, b0, a1, b1, oM, oP, kd, ln, ht, ld, bk, mi, cy, po, ds, ou, sm⟩
def G2 (n : Int → Int) : Prop := (∀ c : Int, 0 ≤ c → c < 8 → 0 ≤ n (91 + c) ∧ n (91 + c) ≤ 9) ∧ (∀ c : Int, 0 ≤ c → c < 8 → 0 ≤ n (99 + c) ∧ n (99 + c) ≤ 30) ∧ (∀ c : Int, 0 ≤ c → c < 8 → 0 ≤ n (107 + c) ∧ n (107 + c) ≤ 99) ∧ (∀ c : Int, 0 ≤ c → c < 8 → 0 ≤ n (115 + c) ∧ n (115 + c) ≤ 23) ∧ (∀ c : Int, 0 ≤ c → c < 8 → 0 ≤ n (123 + c) ∧ n (123 + c) ≤ 9) ∧ (∀ c : Int, 0 ≤ c → c < 8 → 0 ≤ n (131 + c) ∧ n (131 + c) ≤ 99)
theorem G2.c0 {n : Int → Int} (h : G2 n) : ∀ c : Int, 0 ≤ c → c < 8 → 0 ≤ n (91 + c) ∧ n (91 + c) ≤ 9 := h.1
theorem G2.c1 {n : Int → Int} (h : G2 n) : ∀ c : Int, 0 ≤ c → c < 8 → 0 ≤ n (99 + c) ∧ n (99 + c) ≤ 30 := h.2.1
theorem G2.c2 {n : Int → Int} (h : G2 n) : ∀ c : Int, 0 ≤ c → c < 8 → 0 ≤ n (107 + c) ∧ n (107 + c) ≤ 99 := h.2.2.1
theorem G2.c3 {n : Int → Int} (h : G2 n) : ∀ c : Int, 0 ≤ c → c < 8 → 0 ≤ n (115 + c) ∧ n (115 + c) ≤ 23 := h.2.2.2.1
theorem G2.c4 {n : Int → Int} (h : G2 n) : ∀ c : Int, 0 ≤ c → c < 8 → 0 ≤ n (123 + c) ∧ n (123 + c) ≤ 9 := h.2.2.2.2.1
theorem G2.c5 {n : Int → Int} (h : G2 n) : ∀ c : Int, 0 ≤ c → c < 8 → 0 ≤ n (131 + c) ∧ n (131 + c) ≤ 99 := h.2.2.2.2.2
theorem G2.mk {n : Int → Int} (c0 : ∀ c : Int, 0 ≤ c → c < 8 → 0 ≤ n (91 + c) ∧ n (91 + c) ≤ 9) (c1 : ∀ c : Int, 0 ≤ c → c < 8 → 0 ≤ n (99 + c) ∧ n (99 + c) ≤ 30) (c2 : ∀ c : Int, 0 ≤ c → c < 8 → 0 ≤ n (107 + c) ∧ n (107 + c) ≤ 99) (c3 : ∀ c : Int, 0 ≤ c → c < 8 → 0 ≤ n (115 + c) ∧ n (115 + c) ≤ 23) (c4 : ∀ c : Int, 0 ≤ c → c < 8 → 0 ≤ n (123 + c) ∧ n (123 + c) ≤ 9) (c5 : ∀ c : Int, 0 ≤ c → c < 8 → 0 ≤ n (131 + c) ∧ n (131 + c) ≤ 99) : G2 n := ⟨c0, c1, c2, c3, c4, c5⟩
def G3 (n : Int → Int) : Prop := (0 ≤ n 7) ∧ (n 7 ≤ 7) ∧ (∀ k : Int, 0 ≤ k → k < n 7 → 0 ≤ n (139 + k) ∧ n (139 + k) < n 1)
theorem G3.a7 {n : Int → Int} (h : G3 n) : 0 ≤ n 7 := h.1
theorem G3.b7 {n : Int → Int} (h : G3 n) : n 7 ≤ 7 := h.2.1
theorem G3.ar {n : Int → Int} (h : G3 n) : ∀ k : Int, 0 ≤ k → k < n 7 → 0 ≤ n (139 + k) ∧ n (139 + k) < n 1 := h.2.2
theorem G3.mk {n : Int → Int} (a7 : 0 ≤ n 7) (b7 : n 7 ≤ 7) (ar : ∀ k : Int, 0 ≤ k → k < n 7 → 0 ≤ n (139 + k) ∧ n (139 + k) < n 1) : G3 n := ⟨a7, b7, ar⟩
def G4 (n : Int → Int) : Prop := (∀ k : Int, 0 ≤ k → k < 25 → 0 ≤ n (146 + k) ∧ n (146 + k) ≤ 999)
theorem G4.bd {n : Int → Int} (h : G4 n) : ∀ k : Int, 0 ≤ k → k < 25 → 0 ≤ n (146 + k) ∧ n (146 + k) ≤ 999 := h
theorem G4.mk {n : Int → Int} (bd : ∀ k : Int, 0 ≤ k → k < 25 → 0 ≤ n (146 + k) ∧ n (146 + k) ≤ 999) : G4 n := bd
def G5 (n : Int → Int) : Prop := (0 ≤ n 8) ∧ (n 8 ≤ 60) ∧ (∀ k : Int, 0 ≤ k → k < n 8 → (0 ≤ n (171 + k) ∧ n (171 + k) < 32) ∨ (64 ≤ n (171 + k) ∧ n (171 + k) < 80))
theorem G5.a8 {n : Int → Int} (h : G5 n) : 0 ≤ n 8 := h.1
theorem G5.b8 {n : Int → Int} (h : G5 n) : n 8 ≤ 60 := h.2.1
theorem G5.le {n : Int → Int} (h : G5 n) : ∀ k : Int, 0 ≤ k → k < n 8 → (0 ≤ n (171 + k) ∧ n (171 + k) < 32) ∨ (64 ≤ n (171 + k) ∧ n (171 + k) < 80) := h.2.2
theorem G5.mk {n : Int → Int} (a8 : 0 ≤ n 8) (b8 : n 8 ≤ 60) (le : ∀ k : Int, 0 ≤ k → k < n 8 → (0 ≤ n (171 + k) ∧ n (171 + k) < 32) ∨ (64 ≤ n (171 + k) ∧ n (171 + k) < 80)) : G5 n := ⟨a8, b8, le⟩
def G6 (n : Int → Int) : Prop := (0 ≤ n 9) ∧ (n 9 ≤ 16) ∧ (∀ k : Int, 0 ≤ k → k < n 9 → (1 ≤ n (231 + k) ∧ n (231 + k) ≤ 6) ∨ (10 ≤ n (231 + k) ∧ n (231 + k) ≤ 33) ∨ (40 ≤ n (231 + k) ∧ n (231 + k) ≤ 44))
theorem G6.a9 {n : Int → Int} (h : G6 n) : 0 ≤ n 9 := h.1
theorem G6.b9 {n : Int → Int} (h : G6 n) : n 9 ≤ 16 := h.2.1
theorem G6.tx {n : Int → Int} (h : G6 n) : ∀ k : Int, 0 ≤ k → k < n 9 → (1 ≤ n (231 + k) ∧ n (231 + k) ≤ 6) ∨ (10 ≤ n (231 + k) ∧ n (231 + k) ≤ 33) ∨ (40 ≤ n (231 + k) ∧ n (231 + k) ≤ 44) := h.2.2
theorem G6.mk {n : Int → Int} (a9 : 0 ≤ n 9) (b9 : n 9 ≤ 16) (tx : ∀ k : Int, 0 ≤ k → k < n 9 → (1 ≤ n (231 + k) ∧ n (231 + k) ≤ 6) ∨ (10 ≤ n (231 + k) ∧ n (231 + k) ≤ 33) ∨ (40 ≤ n (231 + k) ∧ n (231 + k) ≤ 44)) : G6 n := ⟨a9, b9, tx⟩
def G7 (n : Int → Int) : Prop := (0 ≤ n 10) ∧ (n 10 ≤ 30) ∧ (∀ k : Int, 0 ≤ k → k < n 10 → 0 ≤ n (247 + k) ∧ n (247 + k) < 512 ∧ n (247 + k) / 8 % 32 ≤ 23)
theorem G7.a10 {n : Int → Int} (h : G7 n) : 0 ≤ n 10 := h.1
theorem G7.b10 {n : Int → Int} (h : G7 n) : n 10 ≤ 30 := h.2.1
theorem G7.no {n : Int → Int} (h : G7 n) : ∀ k : Int, 0 ≤ k → k < n 10 → 0 ≤ n (247 + k) ∧ n (247 + k) < 512 ∧ n (247 + k) / 8 % 32 ≤ 23 := h.2.2
theorem G7.mk {n : Int → Int} (a10 : 0 ≤ n 10) (b10 : n 10 ≤ 30) (no : ∀ k : Int, 0 ≤ k → k < n 10 → 0 ≤ n (247 + k) ∧ n (247 + k) < 512 ∧ n (247 + k) / 8 % 32 ≤ 23) : G7 n := ⟨a10, b10, no⟩
def G8 (n : Int → Int) : Prop := (0 ≤ n 2) ∧ (n 2 ≤ 23) ∧ (0 ≤ n 3) ∧ (n 3 ≤ 3) ∧ (0 ≤ n 4) ∧ (n 4 ≤ 3) ∧ (1 ≤ n 5) ∧ (n 5 ≤ 30) ∧ (-2147483648 ≤ n 6) ∧ (n 6 ≤ 2147483647)
theorem G8.a2 {n : Int → Int} (h : G8 n) : 0 ≤ n 2 := h.1
theorem G8.b2 {n : Int → Int} (h : G8 n) : n 2 ≤ 23 := h.2.1
theorem G8.a3 {n : Int → Int} (h : G8 n) : 0 ≤ n 3 := h.2.2.1
theorem G8.b3 {n : Int → Int} (h : G8 n) : n 3 ≤ 3 := h.2.2.2.1
theorem G8.a4 {n : Int → Int} (h : G8 n) : 0 ≤ n 4 := h.2.2.2.2.1
theorem G8.b4 {n : Int → Int} (h : G8 n) : n 4 ≤ 3 := h.2.2.2.2.2.1
theorem G8.a5 {n : Int → Int} (h : G8 n) : 1 ≤ n 5 := h.2.2.2.2.2.2.1
theorem G8.b5 {n : Int → Int} (h : G8 n) : n 5 ≤ 30 := h.2.2.2.2.2.2.2.1
theorem G8.a6 {n : Int → Int} (h : G8 n) : -2147483648 ≤ n 6 := h.2.2.2.2.2.2.2.2.1
theorem G8.b6 {n : Int → Int} (h : G8 n) : n 6 ≤ 2147483647 := h.2.2.2.2.2.2.2.2.2
theorem G8.mk {n : Int → Int} (a2 : 0 ≤ n 2) (b2 : n 2 ≤ 23) (a3 : 0 ≤ n 3) (b3 : n 3 ≤ 3) (a4 : 0 ≤ n 4) (b4 : n 4 ≤ 3) (a5 : 1 ≤ n 5) (b5 : n 5 ≤ 30) (a6 : -2147483648 ≤ n 6) (b6 : n 6 ≤ 2147483647) : G8 n := ⟨a2, b2, a3, b3, a4, b4, a5, b5, a6, b6⟩
theorem NI.g1 {n : Int → Int} (h : NI n) : G1 n := G1.mk h.a0 h.b0 h.a1 h.b1 h.oM h.oP h.kd h.ln h.ht h.ld h.bk h.mi h.cy h.po h.ds h.ou h.sm
theorem NI.g2 {n : Int → Int} (h : NI n) : G2 n := G2.mk h.c0 h.c1 h.c2 h.c3 h.c4 h.c5
theorem NI.g3 {n : Int → Int} (h : NI n) : G3 n := G3.mk h.a7 h.b7 h.ar
theorem NI.g4 {n : Int → Int} (h : NI n) : G4 n := G4.mk h.bd
theorem NI.g5 {n : Int → Int} (h : NI n) : G5 n := G5.mk h.a8 h.b8 h.le
theorem NI.g6 {n : Int → Int} (h : NI n) : G6 n := G6.mk h.a9 h.b9 h.tx
theorem NI.g7 {n : Int → Int} (h : NI n) : G7 n := G7.mk h.a10 h.b10 h.no
theorem NI.g8 {n : Int → Int} (h : NI n) : G8 n := G8.mk h.a2 h.b2 h.a3 h.b3 h.a4 h.b4 h.a5 h.b5 h.a6 h.b6
theorem NI.of {n : Int → Int} (g1 : G1 n) (g2 : G2 n) (g3 : G3 n) (g4 : G4 n) (g5 : G5 n) (g6 : G6 n) (g7 : G7 n) (g8 : G8 n) : NI n :=
  NI.mk g1.a0 g1.b0 g1.a1 g1.b1 g8.a2 g8.b2 g8.a3 g8.b3 g8.a4 g8.b4 g8.a5 g8.b5 g8.a6 g8.b6 g3.a7 g3.b7 g5.a8 g5.b8 g6.a9 g6.b9 g7.a10 g7.b10 g1.oM g1.oP g1.kd g1.ln g1.ht g1.ld g1.bk g1.mi g1.cy g2.c0 g2.c1 g2.c2 g2.c3 g2.c4 g2.c5 g3.ar g4.bd g5.le g6.tx g7.no g1.po g1.ds g1.ou g1.sm
theorem stand_no {n : Int → Int} (b0 : n 0 ≤ 5) (ou : ∀ l : Int, n 0 ≤ l → l < 5 → n (46 + l) = 0) {c : Int} (h : standN n c < 0) : ∀ l i : Int, 0 ≤ l → l < 5 → 0 ≤ i → i < n (46 + l) → n (51 + 8 * l + i) ≠ c := by
  intro l i h1 h2 h3 h4
  have hl : l < n 0 := by
    by_cases q : l < n 0
    · exact q
    · have := ou l (by omega) h2
      omega
  obtain ⟨k, rfl⟩ := Int.eq_ofNat_of_zero_le h1
  obtain ⟨i', rfl⟩ := Int.eq_ofNat_of_zero_le h3
  exact sO_no n c (n 0).toNat 0 h k (by omega) (by omega) i' h4
theorem stand_at {n : Int → Int} (b0 : n 0 ≤ 5) (oM : okM n) (ou : ∀ l : Int, n 0 ≤ l → l < 5 → n (46 + l) = 0) (ds : ∀ l i l' i' : Int, 0 ≤ l → l < 5 → 0 ≤ i → i < n (46 + l) → 0 ≤ l' → l' < 5 → 0 ≤ i' → i' < n (46 + l') → n (51 + 8 * l + i) = n (51 + 8 * l' + i') → l = l' ∧ i = i') : ∀ l i c : Int, 0 ≤ l → l < 5 → 0 ≤ i → i < n (46 + l) → n (51 + 8 * l + i) = c → standN n c = 8 * l + i := by
  intro l i c h1 h2 h3 h4 h5
  rcases stand_lo n c b0 oM with h | ⟨q1, q2, q3, q4, q5⟩
  · exact absurd h5 (stand_no b0 ou (by omega) l i h1 h2 h3 h4)
  · have e : 51 + standN n c = 51 + 8 * (standN n c / 8) + standN n c % 8 := by omega
    rw [e] at q5
    have := ds (standN n c / 8) (standN n c % 8) l i (by omega) (by omega) (by omega) q4 h1 h2 h3 h4 (q5.trans h5.symm)
    omega
theorem NI.st {n : Int → Int} (h : G1 n) : ∀ l i c : Int, 0 ≤ l → l < 5 → 0 ≤ i → i < n (46 + l) → n (51 + 8 * l + i) = c → standN n c = 8 * l + i := stand_at h.b0 h.oM (fun l h1 h2 => (h.ou l h1 h2).1) h.ds
/-- the same lanes, the same places -/
theorem sI_congr {n n' : Int → Int} (c l : Int) : ∀ (j i : Nat), (∀ k : Nat, i ≤ k → k < i + j → n' (51 + 8 * l + (k : Int)) = n (51 + 8 * l + (k : Int))) → sI n' c l i j = sI n c l i j
  | 0, _, _ => rfl
  | j + 1, i, h => by
    rw [sI, sI, h i (by omega) (by omega), sI_congr c l j (i + 1) (fun k h1 h2 => h k (by omega) (by omega))]
theorem stand_congr {n n' : Int → Int} (b0 : n 0 ≤ 5) (oM : okM n) (h : ∀ k : Int, k = 0 ∨ (46 ≤ k ∧ k ≤ 90) → n' k = n k) (c : Int) : standN n' c = standN n c := by
  unfold standN
  rw [h 0 (by omega)]
  have key : ∀ (j l : Nat), l + j ≤ 5 → sO n' c l j = sO n c l j := by
    intro j
    induction j with
    | zero => intro l _; rfl
    | succ j ih =>
      intro l hl
      have m := oM l (by omega) (by omega)
      rw [sO, sO, h _ (by omega), sI_congr c (l : Int) _ 0 (fun k h1 h2 => h _ (by omega)), ih (l + 1) (by omega)]
  exact key _ 0 (by omega)
theorem cntS_congr {n n' : Int → Int} (h : ∀ c, standN n' c = standN n c) : cntS n' = cntS n := by unfold cntS; simp only [h]
theorem G1_congr {n n' : Int → Int} (hN : G1 n) (h : ∀ k : Int, (k = 0 ∨ k = 1 ∨ (11 ≤ k ∧ k ≤ 90)) → n' k = n k) : G1 n' := by
  have e0 := h 0 (by omega)
  have e1 := h 1 (by omega)
  have b0 := hN.b0
  have hm : ∀ l : Int, 0 ≤ l → l < 5 → n' (46 + l) = n (46 + l) := fun l h1 h2 => h _ (by omega)
  have hp : ∀ l i : Int, 0 ≤ l → l < 5 → 0 ≤ i → i < n' (46 + l) → n' (51 + 8 * l + i) = n (51 + 8 * l + i) := fun l i h1 h2 h3 h4 => by
    have := hN.oM l h1 h2
    have := hm l h1 h2
    exact h _ (by omega)
  refine G1.mk ?_ ?_ ?_ ?_ ?_ ?_ ?_ ?_ ?_ ?_ ?_ ?_ ?_ ?_ ?_ ?_ ?_
  · rw [e0]; exact hN.a0
  · rw [e0]; exact hN.b0
  · rw [e1]; exact hN.a1
  · rw [e1]; exact hN.b1
  · intro l h1 h2; rw [hm l h1 h2]; exact hN.oM l h1 h2
  · intro l i h1 h2 h3 h4; rw [hp l i h1 h2 h3 h4]; rw [hm l h1 h2] at h4; exact hN.oP l i h1 h2 h3 h4
  · intro l h1 h2; rw [h _ (by omega)]; exact hN.kd l h1 h2
  · intro l h1 h2; rw [h _ (by omega)]; exact hN.ln l h1 h2
  · intro l h1 h2; rw [h _ (by omega)]; exact hN.ht l h1 h2
  · intro l h1 h2; rw [h _ (by omega)]; exact hN.ld l h1 h2
  · intro l h1 h2; rw [h _ (by omega)]; exact hN.bk l h1 h2
  · intro l h1 h2; rw [h _ (by omega)]; exact hN.mi l h1 h2
  · intro l h1 h2; rw [h _ (by omega)]; exact hN.cy l h1 h2
  · intro l i h1 h2 h3 h4; rw [hp l i h1 h2 h3 h4, e1]; rw [hm l h1 h2] at h4; exact hN.po l i h1 h2 h3 h4
  · intro l i l' i' h1 h2 h3 h4 g1 g2 g3 g4 q
    rw [hp l i h1 h2 h3 h4, hp l' i' g1 g2 g3 g4] at q
    rw [hm l h1 h2] at h4
    rw [hm l' g1 g2] at g4
    exact hN.ds l i l' i' h1 h2 h3 h4 g1 g2 g3 g4 q
  · intro l h1 h2
    rw [e0] at h1
    have a0 := hN.a0
    rw [h _ (by omega), h (36 + l) (by omega), h (41 + l) (by omega), h (31 + l) (by omega)]
    exact hN.ou l h1 h2
  · rw [cntS_congr (stand_congr hN.b0 hN.oM (fun k hk => h k (by omega))), h 46 (by omega), h 47 (by omega), h 48 (by omega), h 49 (by omega), h 50 (by omega)]
    exact hN.sm
theorem G2_congr {n n' : Int → Int} (hN : G2 n) (h : ∀ k : Int, (91 ≤ k ∧ k ≤ 138) → n' k = n k) : G2 n' := by
  refine G2.mk ?_ ?_ ?_ ?_ ?_ ?_
  · intro l h1 h2; rw [h _ (by omega)]; exact hN.c0 l h1 h2
  · intro l h1 h2; rw [h _ (by omega)]; exact hN.c1 l h1 h2
  · intro l h1 h2; rw [h _ (by omega)]; exact hN.c2 l h1 h2
  · intro l h1 h2; rw [h _ (by omega)]; exact hN.c3 l h1 h2
  · intro l h1 h2; rw [h _ (by omega)]; exact hN.c4 l h1 h2
  · intro l h1 h2; rw [h _ (by omega)]; exact hN.c5 l h1 h2
theorem G3_congr {n n' : Int → Int} (hN : G3 n) (h : ∀ k : Int, (k = 1 ∨ k = 7 ∨ (139 ≤ k ∧ k ≤ 145)) → n' k = n k) : G3 n' := by
  have e1 := h 1 (by omega)
  have e7 := h 7 (by omega)
  have b7 := hN.b7
  refine G3.mk ?_ ?_ ?_
  · rw [e7]; exact hN.a7
  · rw [e7]; exact hN.b7
  · intro k h1 h2; rw [h (139 + k) (by omega), e1]; exact hN.ar k h1 (by omega)
theorem G4_congr {n n' : Int → Int} (hN : G4 n) (h : ∀ k : Int, (146 ≤ k ∧ k ≤ 170) → n' k = n k) : G4 n' := by
  refine G4.mk ?_
  intro k h1 h2; rw [h (146 + k) (by omega)]; exact hN.bd k h1 h2
theorem G5_congr {n n' : Int → Int} (hN : G5 n) (h : ∀ k : Int, (k = 8 ∨ (171 ≤ k ∧ k ≤ 230)) → n' k = n k) : G5 n' := by
  have e8 := h 8 (by omega)
  have b8 := hN.b8
  refine G5.mk ?_ ?_ ?_
  · rw [e8]; exact hN.a8
  · rw [e8]; exact hN.b8
  · intro k h1 h2; rw [h (171 + k) (by omega)]; exact hN.le k h1 (by omega)
theorem G6_congr {n n' : Int → Int} (hN : G6 n) (h : ∀ k : Int, (k = 9 ∨ (231 ≤ k ∧ k ≤ 246)) → n' k = n k) : G6 n' := by
  have e8 := h 9 (by omega)
  have b8 := hN.b9
  refine G6.mk ?_ ?_ ?_
  · rw [e8]; exact hN.a9
  · rw [e8]; exact hN.b9
  · intro k h1 h2; rw [h (231 + k) (by omega)]; exact hN.tx k h1 (by omega)
theorem G7_congr {n n' : Int → Int} (hN : G7 n) (h : ∀ k : Int, (k = 10 ∨ (247 ≤ k ∧ k ≤ 276)) → n' k = n k) : G7 n' := by
  have e8 := h 10 (by omega)
  have b8 := hN.b10
  refine G7.mk ?_ ?_ ?_
  · rw [e8]; exact hN.a10
  · rw [e8]; exact hN.b10
  · intro k h1 h2; rw [h (247 + k) (by omega)]; exact hN.no k h1 (by omega)
theorem G8_congr {n n' : Int → Int} (hN : G8 n) (h : ∀ k : Int, (2 ≤ k ∧ k ≤ 6) → n' k = n k) : G8 n' := by
  refine G8.mk ?_ ?_ ?_ ?_ ?_ ?_ ?_ ?_ ?_ ?_
  · rw [h 2 (by omega)]; exact hN.a2
  · rw [h 2 (by omega)]; exact hN.b2
  · rw [h 3 (by omega)]; exact hN.a3
  · rw [h 3 (by omega)]; exact hN.b3
  · rw [h 4 (by omega)]; exact hN.a4
  · rw [h 4 (by omega)]; exact hN.b4
  · rw [h 5 (by omega)]; exact hN.a5
  · rw [h 5 (by omega)]; exact hN.b5
  · rw [h 6 (by omega)]; exact hN.a6
  · rw [h 6 (by omega)]; exact hN.b6
