/-! the class: the desk over the reference's row, what is kept, the whole relation -/
def RD (B : Nat) (σ : ex_S) (n : Int → Int) : Prop := (RG (B + 1) σ n) ∧ (σ (B + 13) 0 = n 8) ∧ (∀ k : Int, 0 ≤ k → k < n 8 → (0 ≤ σ (B + 14) k ∧ σ (B + 14) k < 8) ∧ (0 ≤ σ (B + 15) k ∧ σ (B + 15) k ≤ 5) ∧ n (171 + k) = σ (B + 14) k + 8 * (if σ (B + 15) k < 4 then σ (B + 15) k else σ (B + 15) k + 4)) ∧ (σ (B + 16) 0 = n 10) ∧ (∀ k : Int, 0 ≤ k → k < n 10 → (0 ≤ σ (B + 17) k ∧ σ (B + 17) k < 8) ∧ (0 ≤ σ (B + 18) k ∧ σ (B + 18) k ≤ 23) ∧ (σ (B + 19) k = 0 ∨ σ (B + 19) k = 1) ∧ n (247 + k) = σ (B + 17) k + 8 * σ (B + 18) k + 256 * σ (B + 19) k) ∧ (∀ k : Int, 0 ≤ k → k < 25 → σ (B + 20) k = n (146 + k)) ∧ (∀ k : Int, 0 ≤ k → k < n 9 → σ (B + 21) k = n (231 + k)) ∧ (∀ k : Int, 0 ≤ k → k < n 7 → σ (B + 22) k = n (139 + k)) ∧ (σ B 6 = n 9) ∧ (σ B 7 = n 7) ∧ (σ B 8 = n 2) ∧ (σ B 9 = n 3) ∧ (σ B 10 = n 4) ∧ (σ B 11 = n 5) ∧ (σ B 12 = n 6)
theorem RD.g {B : Nat} {σ : ex_S} {n : Int → Int} (h : RD B σ n) : RG (B + 1) σ n := h.1
theorem RD.lc {B : Nat} {σ : ex_S} {n : Int → Int} (h : RD B σ n) : σ (B + 13) 0 = n 8 := h.2.1
theorem RD.le {B : Nat} {σ : ex_S} {n : Int → Int} (h : RD B σ n) : ∀ k : Int, 0 ≤ k → k < n 8 → (0 ≤ σ (B + 14) k ∧ σ (B + 14) k < 8) ∧ (0 ≤ σ (B + 15) k ∧ σ (B + 15) k ≤ 5) ∧ n (171 + k) = σ (B + 14) k + 8 * (if σ (B + 15) k < 4 then σ (B + 15) k else σ (B + 15) k + 4) := h.2.2.1
theorem RD.kc {B : Nat} {σ : ex_S} {n : Int → Int} (h : RD B σ n) : σ (B + 16) 0 = n 10 := h.2.2.2.1
theorem RD.ky {B : Nat} {σ : ex_S} {n : Int → Int} (h : RD B σ n) : ∀ k : Int, 0 ≤ k → k < n 10 → (0 ≤ σ (B + 17) k ∧ σ (B + 17) k < 8) ∧ (0 ≤ σ (B + 18) k ∧ σ (B + 18) k ≤ 23) ∧ (σ (B + 19) k = 0 ∨ σ (B + 19) k = 1) ∧ n (247 + k) = σ (B + 17) k + 8 * σ (B + 18) k + 256 * σ (B + 19) k := h.2.2.2.2.1
theorem RD.bd {B : Nat} {σ : ex_S} {n : Int → Int} (h : RD B σ n) : ∀ k : Int, 0 ≤ k → k < 25 → σ (B + 20) k = n (146 + k) := h.2.2.2.2.2.1
theorem RD.tx {B : Nat} {σ : ex_S} {n : Int → Int} (h : RD B σ n) : ∀ k : Int, 0 ≤ k → k < n 9 → σ (B + 21) k = n (231 + k) := h.2.2.2.2.2.2.1
theorem RD.ev {B : Nat} {σ : ex_S} {n : Int → Int} (h : RD B σ n) : ∀ k : Int, 0 ≤ k → k < n 7 → σ (B + 22) k = n (139 + k) := h.2.2.2.2.2.2.2.1
theorem RD.i6 {B : Nat} {σ : ex_S} {n : Int → Int} (h : RD B σ n) : σ B 6 = n 9 := h.2.2.2.2.2.2.2.2.1
theorem RD.i7 {B : Nat} {σ : ex_S} {n : Int → Int} (h : RD B σ n) : σ B 7 = n 7 := h.2.2.2.2.2.2.2.2.2.1
theorem RD.i8 {B : Nat} {σ : ex_S} {n : Int → Int} (h : RD B σ n) : σ B 8 = n 2 := h.2.2.2.2.2.2.2.2.2.2.1
theorem RD.i9 {B : Nat} {σ : ex_S} {n : Int → Int} (h : RD B σ n) : σ B 9 = n 3 := h.2.2.2.2.2.2.2.2.2.2.2.1
theorem RD.i10 {B : Nat} {σ : ex_S} {n : Int → Int} (h : RD B σ n) : σ B 10 = n 4 := h.2.2.2.2.2.2.2.2.2.2.2.2.1
theorem RD.i11 {B : Nat} {σ : ex_S} {n : Int → Int} (h : RD B σ n) : σ B 11 = n 5 := h.2.2.2.2.2.2.2.2.2.2.2.2.2.1
theorem RD.i12 {B : Nat} {σ : ex_S} {n : Int → Int} (h : RD B σ n) : σ B 12 = n 6 := h.2.2.2.2.2.2.2.2.2.2.2.2.2.2
theorem RD.mk {B : Nat} {σ : ex_S} {n : Int → Int} (g : RG (B + 1) σ n) (lc : σ (B + 13) 0 = n 8) (le : ∀ k : Int, 0 ≤ k → k < n 8 → (0 ≤ σ (B + 14) k ∧ σ (B + 14) k < 8) ∧ (0 ≤ σ (B + 15) k ∧ σ (B + 15) k ≤ 5) ∧ n (171 + k) = σ (B + 14) k + 8 * (if σ (B + 15) k < 4 then σ (B + 15) k else σ (B + 15) k + 4)) (kc : σ (B + 16) 0 = n 10) (ky : ∀ k : Int, 0 ≤ k → k < n 10 → (0 ≤ σ (B + 17) k ∧ σ (B + 17) k < 8) ∧ (0 ≤ σ (B + 18) k ∧ σ (B + 18) k ≤ 23) ∧ (σ (B + 19) k = 0 ∨ σ (B + 19) k = 1) ∧ n (247 + k) = σ (B + 17) k + 8 * σ (B + 18) k + 256 * σ (B + 19) k) (bd : ∀ k : Int, 0 ≤ k → k < 25 → σ (B + 20) k = n (146 + k)) (tx : ∀ k : Int, 0 ≤ k → k < n 9 → σ (B + 21) k = n (231 + k)) (ev : ∀ k : Int, 0 ≤ k → k < n 7 → σ (B + 22) k = n (139 + k)) (i6 : σ B 6 = n 9) (i7 : σ B 7 = n 7) (i8 : σ B 8 = n 2) (i9 : σ B 9 = n 3) (i10 : σ B 10 = n 4) (i11 : σ B 11 = n 5) (i12 : σ B 12 = n 6) : RD B σ n := ⟨g, lc, le, kc, ky, bd, tx, ev, i6, i7, i8, i9, i10, i11, i12⟩
def RD5 (σ : ex_S) (n : Int → Int) : Prop := (RG6 σ n) ∧ (σ 18 0 = n 8) ∧ (∀ k : Int, 0 ≤ k → k < n 8 → (0 ≤ σ 19 k ∧ σ 19 k < 8) ∧ (0 ≤ σ 20 k ∧ σ 20 k ≤ 5) ∧ n (171 + k) = σ 19 k + 8 * (if σ 20 k < 4 then σ 20 k else σ 20 k + 4)) ∧ (σ 21 0 = n 10) ∧ (∀ k : Int, 0 ≤ k → k < n 10 → (0 ≤ σ 22 k ∧ σ 22 k < 8) ∧ (0 ≤ σ 23 k ∧ σ 23 k ≤ 23) ∧ (σ 24 k = 0 ∨ σ 24 k = 1) ∧ n (247 + k) = σ 22 k + 8 * σ 23 k + 256 * σ 24 k) ∧ (∀ k : Int, 0 ≤ k → k < 25 → σ 25 k = n (146 + k)) ∧ (∀ k : Int, 0 ≤ k → k < n 9 → σ 26 k = n (231 + k)) ∧ (∀ k : Int, 0 ≤ k → k < n 7 → σ 27 k = n (139 + k)) ∧ (σ 5 6 = n 9) ∧ (σ 5 7 = n 7) ∧ (σ 5 8 = n 2) ∧ (σ 5 9 = n 3) ∧ (σ 5 10 = n 4) ∧ (σ 5 11 = n 5) ∧ (σ 5 12 = n 6)
theorem RD5.g {σ : ex_S} {n : Int → Int} (h : RD5 σ n) : RG6 σ n := h.1
theorem RD5.lc {σ : ex_S} {n : Int → Int} (h : RD5 σ n) : σ 18 0 = n 8 := h.2.1
theorem RD5.le {σ : ex_S} {n : Int → Int} (h : RD5 σ n) : ∀ k : Int, 0 ≤ k → k < n 8 → (0 ≤ σ 19 k ∧ σ 19 k < 8) ∧ (0 ≤ σ 20 k ∧ σ 20 k ≤ 5) ∧ n (171 + k) = σ 19 k + 8 * (if σ 20 k < 4 then σ 20 k else σ 20 k + 4) := h.2.2.1
theorem RD5.kc {σ : ex_S} {n : Int → Int} (h : RD5 σ n) : σ 21 0 = n 10 := h.2.2.2.1
theorem RD5.ky {σ : ex_S} {n : Int → Int} (h : RD5 σ n) : ∀ k : Int, 0 ≤ k → k < n 10 → (0 ≤ σ 22 k ∧ σ 22 k < 8) ∧ (0 ≤ σ 23 k ∧ σ 23 k ≤ 23) ∧ (σ 24 k = 0 ∨ σ 24 k = 1) ∧ n (247 + k) = σ 22 k + 8 * σ 23 k + 256 * σ 24 k := h.2.2.2.2.1
theorem RD5.bd {σ : ex_S} {n : Int → Int} (h : RD5 σ n) : ∀ k : Int, 0 ≤ k → k < 25 → σ 25 k = n (146 + k) := h.2.2.2.2.2.1
theorem RD5.tx {σ : ex_S} {n : Int → Int} (h : RD5 σ n) : ∀ k : Int, 0 ≤ k → k < n 9 → σ 26 k = n (231 + k) := h.2.2.2.2.2.2.1
theorem RD5.ev {σ : ex_S} {n : Int → Int} (h : RD5 σ n) : ∀ k : Int, 0 ≤ k → k < n 7 → σ 27 k = n (139 + k) := h.2.2.2.2.2.2.2.1
theorem RD5.i6 {σ : ex_S} {n : Int → Int} (h : RD5 σ n) : σ 5 6 = n 9 := h.2.2.2.2.2.2.2.2.1
theorem RD5.i7 {σ : ex_S} {n : Int → Int} (h : RD5 σ n) : σ 5 7 = n 7 := h.2.2.2.2.2.2.2.2.2.1
theorem RD5.i8 {σ : ex_S} {n : Int → Int} (h : RD5 σ n) : σ 5 8 = n 2 := h.2.2.2.2.2.2.2.2.2.2.1
theorem RD5.i9 {σ : ex_S} {n : Int → Int} (h : RD5 σ n) : σ 5 9 = n 3 := h.2.2.2.2.2.2.2.2.2.2.2.1
theorem RD5.i10 {σ : ex_S} {n : Int → Int} (h : RD5 σ n) : σ 5 10 = n 4 := h.2.2.2.2.2.2.2.2.2.2.2.2.1
theorem RD5.i11 {σ : ex_S} {n : Int → Int} (h : RD5 σ n) : σ 5 11 = n 5 := h.2.2.2.2.2.2.2.2.2.2.2.2.2.1
theorem RD5.i12 {σ : ex_S} {n : Int → Int} (h : RD5 σ n) : σ 5 12 = n 6 := h.2.2.2.2.2.2.2.2.2.2.2.2.2.2
theorem RD5.mk {σ : ex_S} {n : Int → Int} (g : RG6 σ n) (lc : σ 18 0 = n 8) (le : ∀ k : Int, 0 ≤ k → k < n 8 → (0 ≤ σ 19 k ∧ σ 19 k < 8) ∧ (0 ≤ σ 20 k ∧ σ 20 k ≤ 5) ∧ n (171 + k) = σ 19 k + 8 * (if σ 20 k < 4 then σ 20 k else σ 20 k + 4)) (kc : σ 21 0 = n 10) (ky : ∀ k : Int, 0 ≤ k → k < n 10 → (0 ≤ σ 22 k ∧ σ 22 k < 8) ∧ (0 ≤ σ 23 k ∧ σ 23 k ≤ 23) ∧ (σ 24 k = 0 ∨ σ 24 k = 1) ∧ n (247 + k) = σ 22 k + 8 * σ 23 k + 256 * σ 24 k) (bd : ∀ k : Int, 0 ≤ k → k < 25 → σ 25 k = n (146 + k)) (tx : ∀ k : Int, 0 ≤ k → k < n 9 → σ 26 k = n (231 + k)) (ev : ∀ k : Int, 0 ≤ k → k < n 7 → σ 27 k = n (139 + k)) (i6 : σ 5 6 = n 9) (i7 : σ 5 7 = n 7) (i8 : σ 5 8 = n 2) (i9 : σ 5 9 = n 3) (i10 : σ 5 10 = n 4) (i11 : σ 5 11 = n 5) (i12 : σ 5 12 = n 6) : RD5 σ n := ⟨g, lc, le, kc, ky, bd, tx, ev, i6, i7, i8, i9, i10, i11, i12⟩
theorem RD5.of {σ : ex_S} {n : Int → Int} (h : RD 5 σ n) : RD5 σ n := h
theorem RD5.to {σ : ex_S} {n : Int → Int} (h : RD5 σ n) : RD 5 σ n := h
/-- the relation looks at the row's numbers alone -/
theorem NI_cg {n n' : Int → Int} (hN : NI n) (h : ∀ k : Int, 0 ≤ k → k < 277 → n' k = n k) : NI n' :=
  NI.of (G1_congr hN.g1 (fun k hk => h k (by omega) (by omega))) (G2_congr hN.g2 (fun k hk => h k (by omega) (by omega))) (G3_congr hN.g3 (fun k hk => h k (by omega) (by omega))) (G4_congr hN.g4 (fun k hk => h k (by omega) (by omega))) (G5_congr hN.g5 (fun k hk => h k (by omega) (by omega))) (G6_congr hN.g6 (fun k hk => h k (by omega) (by omega))) (G7_congr hN.g7 (fun k hk => h k (by omega) (by omega))) (G8_congr hN.g8 (fun k hk => h k (by omega) (by omega)))
theorem RG_cp {G G' : Nat} {σ σ' : ex_S} {n n' : Int → Int} (hR : RG G σ n) (hN : NI n) (h : ∀ k : Int, k = 0 ∨ k = 1 ∨ (11 ≤ k ∧ k < 139) → n' k = n k)
    (c0 : σ' G' 0 = σ G 0) (c0' : σ' G' 1 = σ G 1) (c1 : ∀ i : Int, 0 ≤ i → i < 5 → σ' (G' + 1) i = σ (G + 1) i) (c2 : ∀ i : Int, 0 ≤ i → i < 5 → σ' (G' + 2) i = σ (G + 2) i) (c3 : ∀ i : Int, 0 ≤ i → i < 5 → σ' (G' + 3) i = σ (G + 3) i) (c4 : ∀ i : Int, 0 ≤ i → i < 5 → σ' (G' + 4) i = σ (G + 4) i) (c5 : ∀ i : Int, 0 ≤ i → i < 5 → σ' (G' + 5) i = σ (G + 5) i) (c6 : ∀ i : Int, 0 ≤ i → i < 5 → σ' (G' + 6) i = σ (G + 6) i) (c7 : ∀ i : Int, 0 ≤ i → i < 5 → σ' (G' + 7) i = σ (G + 7) i) (c8 : ∀ i : Int, 0 ≤ i → i < 5 → σ' (G' + 8) i = σ (G + 8) i) (c9 : ∀ i : Int, 0 ≤ i → i < 40 → σ' (G' + 9) i = σ (G + 9) i) (c10 : ∀ i : Int, 0 ≤ i → i < 48 → σ' (G' + 10) i = σ (G + 10) i) (c11 : ∀ i : Int, 0 ≤ i → i < 8 → σ' (G' + 11) i = σ (G + 11) i) : RG G' σ' n' := by
  have b0 := hN.b0
  have b1 := hN.b1
  have e0 : n' 0 = n 0 := h 0 (by omega)
  have e1 : n' 1 = n 1 := h 1 (by omega)
  have hs : ∀ c, standN n' c = standN n c := stand_congr hN.b0 hN.oM (fun k hk => h k (by omega))
  refine RG.mk ?_ ?_ ?_ ?_ ?_ ?_ ?_ ?_ ?_ ?_ ?_ ?_ ?_ ?_
  · rw [c0, e0]; exact hR.la
  · rw [c0', e1]; exact hR.ca
  all_goals try rw [e0]
  all_goals try rw [e1]
  · intro x x1 x2; rw [c1 x x1 (by omega), h _ (by omega)]; exact hR.kd x x1 x2
  · intro x x1 x2; rw [c2 x x1 (by omega), h _ (by omega)]; exact hR.le x x1 x2
  · intro x x1 x2; rw [c3 x x1 (by omega), h _ (by omega)]; exact hR.ht x x1 x2
  · intro x x1 x2; rw [c4 x x1 (by omega), h _ (by omega), h _ (by omega)]; exact hR.lo x x1 x2
  · intro x x1 x2; rw [c4 x x1 (by omega)]; exact hR.ld x x1 x2
  · intro x x1 x2; rw [c5 x x1 (by omega), h _ (by omega)]; exact hR.mi x x1 x2
  · intro x x1 x2; rw [c6 x x1 (by omega), h _ (by omega)]; exact hR.cy x x1 x2
  · intro x x1 x2; rw [c7 x x1 (by omega), h _ (by omega)]; exact hR.bk x x1 x2
  · intro x x1 x2; rw [c8 x x1 (by omega), h _ (by omega)]; exact hR.st x x1 x2
  · intro x i x1 x2 i1 i2
    rw [h _ (by omega)] at i2
    have := hN.oM x x1 (by omega)
    rw [c9 _ (by omega) (by omega), h _ (by omega)]; exact hR.pl x i x1 x2 i1 i2
  · intro x f x1 x2 i1 i2
    rw [c10 _ (by omega) (by omega), h _ (by omega)]; exact hR.fa x f x1 x2 i1 i2
  · intro x x1 x2
    rw [c11 x x1 (by omega), hs]; exact hR.wh x x1 x2
theorem RG_fr {G : Nat} {σ σ' : ex_S} {n : Int → Int} (hR : RG G σ n) (hN : NI n) (h : ∀ a, G ≤ a → a ≤ G + 11 → σ' a = σ a) : RG G σ' n :=
  RG_cp hR hN (fun _ _ => rfl) (by rw [h G (by omega) (by omega)]) (by rw [h G (by omega) (by omega)]) (fun i _ _ => by rw [h _ (by omega) (by omega)]) (fun i _ _ => by rw [h _ (by omega) (by omega)]) (fun i _ _ => by rw [h _ (by omega) (by omega)]) (fun i _ _ => by rw [h _ (by omega) (by omega)]) (fun i _ _ => by rw [h _ (by omega) (by omega)]) (fun i _ _ => by rw [h _ (by omega) (by omega)]) (fun i _ _ => by rw [h _ (by omega) (by omega)]) (fun i _ _ => by rw [h _ (by omega) (by omega)]) (fun i _ _ => by rw [h _ (by omega) (by omega)]) (fun i _ _ => by rw [h _ (by omega) (by omega)]) (fun i _ _ => by rw [h _ (by omega) (by omega)])
/-- the rest of a desk, with its garage by itself -/
theorem RD_cp {B B' : Nat} {σ σ' : ex_S} {n n' : Int → Int} (hR : RD B σ n) (hN : NI n) (h : ∀ k : Int, (2 ≤ k ∧ k ≤ 10) ∨ (139 ≤ k ∧ k < 277) → n' k = n k) (hg : RG (B' + 1) σ' n')
    (c13 : σ' (B' + 13) 0 = σ (B + 13) 0) (c14 : ∀ i : Int, 0 ≤ i → i < 60 → σ' (B' + 14) i = σ (B + 14) i) (c15 : ∀ i : Int, 0 ≤ i → i < 60 → σ' (B' + 15) i = σ (B + 15) i) (c16 : σ' (B' + 16) 0 = σ (B + 16) 0) (c17 : ∀ i : Int, 0 ≤ i → i < 30 → σ' (B' + 17) i = σ (B + 17) i) (c18 : ∀ i : Int, 0 ≤ i → i < 30 → σ' (B' + 18) i = σ (B + 18) i) (c19 : ∀ i : Int, 0 ≤ i → i < 30 → σ' (B' + 19) i = σ (B + 19) i) (c20 : ∀ i : Int, 0 ≤ i → i < 25 → σ' (B' + 20) i = σ (B + 20) i) (c21 : ∀ i : Int, 0 ≤ i → i < 16 → σ' (B' + 21) i = σ (B + 21) i) (c22 : ∀ i : Int, 0 ≤ i → i < 7 → σ' (B' + 22) i = σ (B + 22) i)
    (d6 : σ' B' 6 = σ B 6) (d7 : σ' B' 7 = σ B 7) (d8 : σ' B' 8 = σ B 8) (d9 : σ' B' 9 = σ B 9) (d10 : σ' B' 10 = σ B 10) (d11 : σ' B' 11 = σ B 11) (d12 : σ' B' 12 = σ B 12) : RD B' σ' n' := by
  have b7 := hN.b7
  have b8 := hN.b8
  have b9 := hN.b9
  have b10 := hN.b10
  refine RD.mk hg ?_ ?_ ?_ ?_ ?_ ?_ ?_ ?_ ?_ ?_ ?_ ?_ ?_ ?_
  · rw [c13, h _ (by omega)]; exact hR.lc
  · intro k k1 k2
    rw [h _ (by omega)] at k2
    rw [c14 k k1 (by omega), c15 k k1 (by omega), h _ (by omega)]; exact hR.le k k1 k2
  · rw [c16, h _ (by omega)]; exact hR.kc
  · intro k k1 k2
    rw [h _ (by omega)] at k2
    rw [c17 k k1 (by omega), c18 k k1 (by omega), c19 k k1 (by omega), h _ (by omega)]; exact hR.ky k k1 k2
  · intro k k1 k2; rw [c20 k k1 (by omega), h _ (by omega)]; exact hR.bd k k1 k2
  · intro k k1 k2
    rw [h _ (by omega)] at k2
    rw [c21 k k1 (by omega), h _ (by omega)]; exact hR.tx k k1 k2
  · intro k k1 k2
    rw [h _ (by omega)] at k2
    rw [c22 k k1 (by omega), h _ (by omega)]; exact hR.ev k k1 k2
  · rw [d6, h _ (by omega)]; exact hR.i6
  · rw [d7, h _ (by omega)]; exact hR.i7
  · rw [d8, h _ (by omega)]; exact hR.i8
  · rw [d9, h _ (by omega)]; exact hR.i9
  · rw [d10, h _ (by omega)]; exact hR.i10
  · rw [d11, h _ (by omega)]; exact hR.i11
  · rw [d12, h _ (by omega)]; exact hR.i12
theorem RD_fr {B : Nat} {σ σ' : ex_S} {n n' : Int → Int} (hR : RD B σ n) (hN : NI n) (hn : ∀ k : Int, 0 ≤ k → k < 277 → n' k = n k) (h : ∀ a, B ≤ a → a ≤ B + 22 → σ' a = σ a) : RD B σ' n' :=
  RD_cp hR hN (fun k hk => hn k (by omega) (by omega)) (RG_cp hR.g hN (fun k hk => hn k (by omega) (by omega)) (by rw [h _ (by omega) (by omega)]) (by rw [h _ (by omega) (by omega)]) (fun i _ _ => by rw [h _ (by omega) (by omega)]) (fun i _ _ => by rw [h _ (by omega) (by omega)]) (fun i _ _ => by rw [h _ (by omega) (by omega)]) (fun i _ _ => by rw [h _ (by omega) (by omega)]) (fun i _ _ => by rw [h _ (by omega) (by omega)]) (fun i _ _ => by rw [h _ (by omega) (by omega)]) (fun i _ _ => by rw [h _ (by omega) (by omega)]) (fun i _ _ => by rw [h _ (by omega) (by omega)]) (fun i _ _ => by rw [h _ (by omega) (by omega)]) (fun i _ _ => by rw [h _ (by omega) (by omega)]) (fun i _ _ => by rw [h _ (by omega) (by omega)])) (by rw [h _ (by omega) (by omega)]) (fun i _ _ => by rw [h _ (by omega) (by omega)]) (fun i _ _ => by rw [h _ (by omega) (by omega)]) (by rw [h _ (by omega) (by omega)]) (fun i _ _ => by rw [h _ (by omega) (by omega)]) (fun i _ _ => by rw [h _ (by omega) (by omega)]) (fun i _ _ => by rw [h _ (by omega) (by omega)]) (fun i _ _ => by rw [h _ (by omega) (by omega)]) (fun i _ _ => by rw [h _ (by omega) (by omega)]) (fun i _ _ => by rw [h _ (by omega) (by omega)]) (by rw [h _ (by omega) (by omega)]) (by rw [h _ (by omega) (by omega)]) (by rw [h _ (by omega) (by omega)]) (by rw [h _ (by omega) (by omega)]) (by rw [h _ (by omega) (by omega)]) (by rw [h _ (by omega) (by omega)]) (by rw [h _ (by omega) (by omega)])
theorem RD_copy {A B : Nat} {σ : ex_S} {n n' : Int → Int} (hR : RD A σ n) (hN : NI n) (hn : ∀ k : Int, 0 ≤ k → k < 277 → n' k = n k) (h : A + 22 < B ∨ B + 22 < A) : RD B (dcp σ B A) n' :=
  RD_cp hR hN (fun k hk => hn k (by omega) (by omega)) (RG_cp hR.g hN (fun k hk => hn k (by omega) (by omega)) (dcp_o1_0 h) (dcp_o1_1 h) (fun _ a b => dcp_a2 h a b) (fun _ a b => dcp_a3 h a b) (fun _ a b => dcp_a4 h a b) (fun _ a b => dcp_a5 h a b) (fun _ a b => dcp_a6 h a b) (fun _ a b => dcp_a7 h a b) (fun _ a b => dcp_a8 h a b) (fun _ a b => dcp_a9 h a b) (fun _ a b => dcp_a10 h a b) (fun _ a b => dcp_a11 h a b) (fun _ a b => dcp_a12 h a b)) (dcp_o13_0 h) (fun _ a b => dcp_a14 h a b) (fun _ a b => dcp_a15 h a b) (dcp_o16_0 h) (fun _ a b => dcp_a17 h a b) (fun _ a b => dcp_a18 h a b) (fun _ a b => dcp_a19 h a b) (fun _ a b => dcp_a20 h a b) (fun _ a b => dcp_a21 h a b) (fun _ a b => dcp_a22 h a b) (dcp_o0_6 h) (dcp_o0_7 h) (dcp_o0_8 h) (dcp_o0_9 h) (dcp_o0_10 h) (dcp_o0_11 h) (dcp_o0_12 h)
theorem RG_tried {σ : ex_S} {n : Int → Int} (hR : RG6 σ n) (hN : NI n) : RG35 (gcp σ 34 5) n := by
  have h : 5 + 22 < 34 ∨ 34 + 22 < 5 := by omega
  exact RG_cp (G := 6) (G' := 35) hR hN (fun _ _ => rfl) (gcp_o1_0 h) (gcp_o1_1 h) (fun _ a b => gcp_a2 h a b) (fun _ a b => gcp_a3 h a b) (fun _ a b => gcp_a4 h a b) (fun _ a b => gcp_a5 h a b) (fun _ a b => gcp_a6 h a b) (fun _ a b => gcp_a7 h a b) (fun _ a b => gcp_a8 h a b) (fun _ a b => gcp_a9 h a b) (fun _ a b => gcp_a10 h a b) (fun _ a b => gcp_a11 h a b) (fun _ a b => gcp_a12 h a b)
/-- an earlier row, by its place -/
def pst (σ : ex_S) (j : Int) : Int → Int := fun i => σ 434 (277 * j + i)
def slt (p k j : Int) : Nat := 64 + 23 * ((p + 16 - k + j) % 16).toNat
def PR (σ : ex_S) : Prop := (0 ≤ σ 4 9) ∧ (σ 4 9 < 16) ∧ (σ 4 10 = σ 432 2) ∧ (0 ≤ σ 432 2) ∧ (σ 432 2 ≤ 16) ∧ (∀ j : Int, 0 ≤ j → j < σ 432 2 → NI (pst σ j) ∧ RD (slt (σ 4 9) (σ 432 2) j) σ (pst σ j))
theorem PR.p0 {σ : ex_S} (h : PR σ) : 0 ≤ σ 4 9 := h.1
theorem PR.p1 {σ : ex_S} (h : PR σ) : σ 4 9 < 16 := h.2.1
theorem PR.q {σ : ex_S} (h : PR σ) : σ 4 10 = σ 432 2 := h.2.2.1
theorem PR.k0 {σ : ex_S} (h : PR σ) : 0 ≤ σ 432 2 := h.2.2.2.1
theorem PR.k1 {σ : ex_S} (h : PR σ) : σ 432 2 ≤ 16 := h.2.2.2.2.1
theorem PR.h {σ : ex_S} (h : PR σ) : ∀ j : Int, 0 ≤ j → j < σ 432 2 → NI (pst σ j) ∧ RD (slt (σ 4 9) (σ 432 2) j) σ (pst σ j) := h.2.2.2.2.2
theorem PR.mk {σ : ex_S} (p0 : 0 ≤ σ 4 9) (p1 : σ 4 9 < 16) (q : σ 4 10 = σ 432 2) (k0 : 0 ≤ σ 432 2) (k1 : σ 432 2 ≤ 16) (h : ∀ j : Int, 0 ≤ j → j < σ 432 2 → NI (pst σ j) ∧ RD (slt (σ 4 9) (σ 432 2) j) σ (pst σ j)) : PR σ := ⟨p0, p1, q, k0, k1, h⟩
/-- a number of a sheet of b bits: with no sign in the class, with one in the reference -/
def NR (b u v : Int) : Prop := (b = 32 → u = v) ∧ (b = 8 → 0 ≤ u ∧ u < 256 ∧ v = if u < 128 then u else u - 256) ∧ (b = 16 → 0 ≤ u ∧ u < 65536 ∧ v = if u < 32768 then u else u - 65536)
def CI (σ : ex_S) : Prop := (ST σ) ∧ (NI (σ 433)) ∧ (RD5 σ (σ 433)) ∧ (PR σ) ∧ (σ 4 11 = σ 432 3) ∧ (SI (σ 435) (σ 436)) ∧ (∀ s : Int, 0 ≤ s → s ≤ 3 → σ 30 s = σ 435 s) ∧ (∀ s : Int, 0 ≤ s → s ≤ 3 → σ 31 s = σ 436 s) ∧ (∀ s i : Int, 0 ≤ s → s ≤ 3 → 0 ≤ i → i < 20 → NR (σ 435 s) (σ 32 (s * 20 + i)) (σ 437 (20 * s + i))) ∧ (∀ k : Int, 0 ≤ k → k < 80 → -2147483648 ≤ σ 437 k ∧ σ 437 k ≤ 2147483647) ∧ (∀ l : Int, 0 ≤ l → l < 5 → σ 447 l = 0)
theorem CI.st {σ : ex_S} (h : CI σ) : ST σ := h.1
theorem CI.ni {σ : ex_S} (h : CI σ) : NI (σ 433) := h.2.1
theorem CI.rd {σ : ex_S} (h : CI σ) : RD5 σ (σ 433) := h.2.2.1
theorem CI.pr {σ : ex_S} (h : CI σ) : PR σ := h.2.2.2.1
theorem CI.fn {σ : ex_S} (h : CI σ) : σ 4 11 = σ 432 3 := h.2.2.2.2.1
theorem CI.si {σ : ex_S} (h : CI σ) : SI (σ 435) (σ 436) := h.2.2.2.2.2.1
theorem CI.sb {σ : ex_S} (h : CI σ) : ∀ s : Int, 0 ≤ s → s ≤ 3 → σ 30 s = σ 435 s := h.2.2.2.2.2.2.1
theorem CI.sz {σ : ex_S} (h : CI σ) : ∀ s : Int, 0 ≤ s → s ≤ 3 → σ 31 s = σ 436 s := h.2.2.2.2.2.2.2.1
theorem CI.nu {σ : ex_S} (h : CI σ) : ∀ s i : Int, 0 ≤ s → s ≤ 3 → 0 ≤ i → i < 20 → NR (σ 435 s) (σ 32 (s * 20 + i)) (σ 437 (20 * s + i)) := h.2.2.2.2.2.2.2.2.1
theorem CI.rg {σ : ex_S} (h : CI σ) : ∀ k : Int, 0 ≤ k → k < 80 → -2147483648 ≤ σ 437 k ∧ σ 437 k ≤ 2147483647 := h.2.2.2.2.2.2.2.2.2.1
theorem CI.tk {σ : ex_S} (h : CI σ) : ∀ l : Int, 0 ≤ l → l < 5 → σ 447 l = 0 := h.2.2.2.2.2.2.2.2.2.2
theorem CI.mk {σ : ex_S} (st : ST σ) (ni : NI (σ 433)) (rd : RD5 σ (σ 433)) (pr : PR σ) (fn : σ 4 11 = σ 432 3) (si : SI (σ 435) (σ 436)) (sb : ∀ s : Int, 0 ≤ s → s ≤ 3 → σ 30 s = σ 435 s) (sz : ∀ s : Int, 0 ≤ s → s ≤ 3 → σ 31 s = σ 436 s) (nu : ∀ s i : Int, 0 ≤ s → s ≤ 3 → 0 ≤ i → i < 20 → NR (σ 435 s) (σ 32 (s * 20 + i)) (σ 437 (20 * s + i))) (rg : ∀ k : Int, 0 ≤ k → k < 80 → -2147483648 ≤ σ 437 k ∧ σ 437 k ≤ 2147483647) (tk : ∀ l : Int, 0 ≤ l → l < 5 → σ 447 l = 0) : CI σ := ⟨st, ni, rd, pr, fn, si, sb, sz, nu, rg, tk⟩
theorem ST_fr {σ σ' : ex_S} (h : ST σ) (h1 : σ' 1 = σ 1) (h2 : σ' 2 = σ 2) (h3 : σ' 3 = σ 3) : ST σ' := by
  unfold ST at *
  rw [h1, h2, h3]
  exact h
theorem PR_fr {σ σ' : ex_S} (h : PR σ) (h4 : σ' 4 9 = σ 4 9) (h4' : σ' 4 10 = σ 4 10) (hk : σ' 432 2 = σ 432 2) (hp : σ' 434 = σ 434) (hd : ∀ a, 64 ≤ a → a < 432 → σ' a = σ a) : PR σ' := by
  have k0 := h.k0
  have k1 := h.k1
  have p0 := h.p0
  have p1 := h.p1
  refine PR.mk ?_ ?_ ?_ ?_ ?_ ?_
  · rw [h4]; exact h.p0
  · rw [h4]; exact h.p1
  · rw [h4', hk]; exact h.q
  · rw [hk]; exact h.k0
  · rw [hk]; exact h.k1
  · intro j j0 j1
    rw [hk] at j1
    obtain ⟨a, b⟩ := h.h j j0 j1
    have e : pst σ' j = pst σ j := by unfold pst; rw [hp]
    rw [e, h4, hk]
    refine ⟨a, RD_fr b a (fun _ _ _ => rfl) (fun c c1 c2 => hd c ?_ ?_)⟩
    · unfold slt at c1; omega
    · unfold slt at c2; omega
/-- only what is scratch has changed -/
theorem ci_scr {σ σ' : ex_S} (h : CI σ) (hs : ∀ a, a < 33 ∨ (64 ≤ a ∧ a < 432) ∨ (433 ≤ a ∧ a ≤ 437) → σ' a = σ a) (h2 : σ' 432 2 = σ 432 2) (h3 : σ' 432 3 = σ 432 3) (ht : ∀ l : Int, 0 ≤ l → l < 5 → σ' 447 l = σ 447 l) : CI σ' := by
  have e4 : σ' 4 = σ 4 := hs 4 (by omega)
  have e433 : σ' 433 = σ 433 := hs 433 (by omega)
  refine CI.mk (ST_fr h.st (hs _ (by omega)) (hs _ (by omega)) (hs _ (by omega))) ?_ ?_ ?_ ?_ ?_ ?_ ?_ ?_ ?_ ?_
  · rw [e433]; exact h.ni
  · rw [e433]; exact RD_fr (B := 5) h.rd h.ni (fun _ _ _ => rfl) (fun a a1 a2 => hs a (by omega))
  · exact PR_fr h.pr (by rw [e4]) (by rw [e4]) h2 (hs _ (by omega)) (fun a a1 a2 => hs a (by omega))
  · rw [e4, h3]; exact h.fn
  · rw [hs 435 (by omega), hs 436 (by omega)]; exact h.si
  · rw [hs 435 (by omega), hs 30 (by omega)]; exact h.sb
  · rw [hs 436 (by omega), hs 31 (by omega)]; exact h.sz
  · rw [hs 435 (by omega), hs 32 (by omega), hs 437 (by omega)]; exact h.nu
  · rw [hs 437 (by omega)]; exact h.rg
  · intro l l0 l1; rw [ht l l0 l1]; exact h.tk l l0 l1
theorem ci_RS {σ τ : ex_S} (h : CI σ) (hr : RS (σ, τ)) : CI τ :=
  ci_scr h (fun a ha => by
    rcases ha with q | q | q
    · exact hr.lo a (by omega)
    · exact hr.lo a (by omega)
    · rcases (show a = 433 ∨ a = 434 ∨ a = 435 ∨ a = 436 ∨ a = 437 by omega) with rfl | rfl | rfl | rfl | rfl
      · exact hr.c433
      · exact hr.c434
      · exact hr.c435
      · exact hr.c436
      · exact hr.c437) hr.k2 hr.k3 (fun l l0 l1 => hr.tk l l0 l1)
/-- a finding is counted -/
def fC (σ : ex_S) : ex_S := ex_ar σ 4 (ex_u (σ 4) 11 (ex_wr (σ 4 11 + 1)))
theorem sp_132 {d : Nat} (hd : 0 < d) {L : Nat} {σ : ex_S} {w : Int} : ex_cd d 132 [vR 4, vI w] (SH L, σ) = some ([vI w], (SH L, fC σ)) := by
  rw [ex_cd_eq (by omega)]
  show ex_ev (d - 1) 132 0 [vR 4, vI w] [] (SH L, σ) = _
  unfold fC
  simp (disch := first | assumption | omega | ((repeat' first | exact ok_nil | apply ok_I | apply ok_R); done) | (simp (disch := first | omega | decide) only [ex_ar_same, ex_ar_diff, kM_diff, ex_u_same, ex_u_diff]; first | assumption | omega)) only [ev_132_0, gf_4_11, pf_4_11, x_dupI, x_dupR, x_push, x_ret1, xl_a0, xl_i1, y_iadd, i_wr_id, kM_diff, Int.reduceToNat, ex_ar_same, ex_ar_ar, ex_ar_diff, ex_u_same, ex_u_diff, b2i_t, b2i_f, ex_div_nn, ex_rem_nn, Int.toNat_zero, Int.toNat_one, Int.reduceAdd, Int.reduceSub, Int.reduceMul, Int.reduceNeg]
theorem xc_132 {rt d : Nat} {J : Nat → List ex_V → List ex_V → ex_H → Option ex_R} {is : List Instr} {ls st : List ex_V} {L : Nat} {σ : ex_S} {w : Int} (hd : 0 < d) (hok : okN 8 st = true) : ex_xs rt J (ex_cd d) (.invokevirtual 132 :: is) ls (vI w :: vR 4 :: st) (SH L, σ) = ex_xs rt J (ex_cd d) is ls (vI w :: st) (SH L, fC σ) := x_call1 (Or.inl rfl) rfl (sh_4 _) (Or.inl ⟨rfl, rfl⟩) (as := [vI w]) rfl rfl (okN_ok hok) rfl (sp_132 hd )
theorem ci_fnd {σ : ex_S} (h : CI σ) : CI (fndM (fC σ)) := by
  have e : ∀ a, a ≠ 4 → a ≠ 432 → fndM (fC σ) a = σ a := fun a h1 h2 => by unfold fndM fC; rw [ex_ar_diff _ _ _ h2, ex_ar_diff _ _ _ h1]
  have e4 : fndM (fC σ) 4 = ex_u (σ 4) 11 (ex_wr (σ 4 11 + 1)) := by unfold fndM fC; rw [ex_ar_diff _ _ _ (by decide), ex_ar_same]
  have e2 : fndM (fC σ) 432 = ex_u (σ 432) 3 (ex_wr (σ 432 3 + 1)) := by unfold fndM fC; rw [ex_ar_same, ex_ar_diff _ _ _ (by decide)]
  refine CI.mk (ST_fr h.st (e _ (by decide) (by decide)) (e _ (by decide) (by decide)) (e _ (by decide) (by decide))) ?_ ?_ ?_ ?_ ?_ ?_ ?_ ?_ ?_ ?_
  · rw [e 433 (by decide) (by decide)]; exact h.ni
  · rw [e 433 (by decide) (by decide)]; exact RD_fr (B := 5) h.rd h.ni (fun _ _ _ => rfl) (fun a a1 a2 => e a (by omega) (by omega))
  · exact PR_fr h.pr (by rw [e4, ex_u_diff _ _ (by decide)]) (by rw [e4, ex_u_diff _ _ (by decide)]) (by rw [e2, ex_u_diff _ _ (by decide)]) (e _ (by decide) (by decide)) (fun a a1 a2 => e a (by omega) (by omega))
  · rw [e4, e2, ex_u_same, ex_u_same, h.fn]
  · rw [e 435 (by decide) (by decide), e 436 (by decide) (by decide)]; exact h.si
  · rw [e 435 (by decide) (by decide), e 30 (by decide) (by decide)]; exact h.sb
  · rw [e 436 (by decide) (by decide), e 31 (by decide) (by decide)]; exact h.sz
  · rw [e 435 (by decide) (by decide), e 32 (by decide) (by decide), e 437 (by decide) (by decide)]; exact h.nu
  · rw [e 437 (by decide) (by decide)]; exact h.rg
  · rw [e 447 (by decide) (by decide)]; exact h.tk
/-- what is kept for undo -/
def kC (σ : ex_S) : ex_S := ex_ar (dcp σ (64 + 23 * (σ 4 9).toNat) 5) 4 (ex_u (ex_u (σ 4) 9 ((σ 4 9 + 1) % 16)) 10 (if σ 4 10 = 16 then 16 else σ 4 10 + 1))
theorem kC_ne (σ : ex_S) {a : Nat} (h1 : a ≠ 4) (h2 : a < 64 ∨ 432 ≤ a) (p0 : 0 ≤ σ 4 9) (p1 : σ 4 9 < 16) : kC σ a = σ a := by
  unfold kC
  rw [ex_ar_diff _ _ _ h1, dcp_ne (by omega)]
theorem pasta : ((List.range 16).all fun k => decide (([some 64, some 87, some 110, some 133, some 156, some 179, some 202, some 225, some 248, some 271, some 294, some 317, some 340, some 363, some 386, some 409] : List (Option Nat))[k]? = some (some (64 + 23 * k)))) = true := by decide +kernel
theorem pastc {k : Nat} (hk : k < 16) : ([some 64, some 87, some 110, some 133, some 156, some 179, some 202, some 225, some 248, some 271, some 294, some 317, some 340, some 363, some 386, some 409] : List (Option Nat))[k]? = some (some (64 + 23 * k)) := of_decide_eq_true (List.all_eq_true.mp pasta k (List.mem_range.mpr hk))
theorem aald_28 {rt : Nat} {J : Nat → List ex_V → List ex_V → ex_H → Option ex_R} {C : Nat → List ex_V → ex_H → Option ex_R} {is : List Instr} {ls st : List ex_V} {L : Nat} {σ : ex_S} {i : Int} (h0 : 0 ≤ i) (h1 : i < 16) : ex_xs rt J C (.aaload :: is) ls (vI i :: vR 28 :: st) (SH L, σ) = ex_xs rt J C is ls (vR (64 + 23 * i.toNat) :: st) (SH L, σ) := x_aald (sh_28 L) (by decide) h0 (pastc (by omega))
theorem sp_133 {d : Nat} (hd : 2 < d) {L : Nat} {σ : ex_S} (p0 : 0 ≤ σ 4 9) (p1 : σ 4 9 < 16) (q0 : 0 ≤ σ 4 10) (q1 : σ 4 10 ≤ 16) : ex_cd d 133 [vR 4] (SH L, σ) = some ([], (SH L, kC σ)) := by
  rw [ex_cd_eq (by omega)]
  show ex_ev (d - 1) 133 0 [vR 4, vL 0] [] (SH L, σ) = _
  have d5 := DC_5 L
  have dk := DC_k L (k := (σ 4 9).toNat) (by omega)
  have e4 : dcp σ (64 + 23 * (σ 4 9).toNat) 5 4 = σ 4 := dcp_ne (by omega)
  unfold kC
  by_cases h : σ 4 10 = 16
  · rw [if_pos h]
    have hm : (if σ 4 10 + 1 ≤ 16 then σ 4 10 + 1 else 16) = 16 := if_neg (by omega)
    simp (disch := first | assumption | omega | ((repeat' first | exact ok_nil | apply ok_I | apply ok_R); done) | (simp (disch := first | omega | decide) only [ex_ar_same, ex_ar_diff, kM_diff, ex_u_same, ex_u_diff]; first | assumption | omega)) only [aald_28, bx_7, e4, ev_133_0, ev_133_1, gf_4_0, gf_4_1, gf_4_10, gf_4_9, hm, pf_4_10, pf_4_9, x_fall, x_ifnull, x_irem, x_push, x_ret0, xc_237, xl_a0, xl_a1, xt_a1, y_iadd, i_wr_id, kM_diff, Int.reduceToNat, ex_ar_same, ex_ar_ar, ex_ar_diff, ex_u_same, ex_u_diff, b2i_t, b2i_f, ex_div_nn, ex_rem_nn, Int.toNat_zero, Int.toNat_one, Int.reduceAdd, Int.reduceSub, Int.reduceMul, Int.reduceNeg]
  · rw [if_neg h]
    have hm : (if σ 4 10 + 1 ≤ 16 then σ 4 10 + 1 else 16) = σ 4 10 + 1 := if_pos (by omega)
    simp (disch := first | assumption | omega | ((repeat' first | exact ok_nil | apply ok_I | apply ok_R); done) | (simp (disch := first | omega | decide) only [ex_ar_same, ex_ar_diff, kM_diff, ex_u_same, ex_u_diff]; first | assumption | omega)) only [aald_28, bx_7, e4, ev_133_0, ev_133_1, gf_4_0, gf_4_1, gf_4_10, gf_4_9, hm, pf_4_10, pf_4_9, x_fall, x_ifnull, x_irem, x_push, x_ret0, xc_237, xl_a0, xl_a1, xt_a1, y_iadd, i_wr_id, kM_diff, Int.reduceToNat, ex_ar_same, ex_ar_ar, ex_ar_diff, ex_u_same, ex_u_diff, b2i_t, b2i_f, ex_div_nn, ex_rem_nn, Int.toNat_zero, Int.toNat_one, Int.reduceAdd, Int.reduceSub, Int.reduceMul, Int.reduceNeg]
theorem xc_133 {rt d : Nat} {J : Nat → List ex_V → List ex_V → ex_H → Option ex_R} {is : List Instr} {ls st : List ex_V} {L : Nat} {σ : ex_S} (p0 : 0 ≤ σ 4 9) (p1 : σ 4 9 < 16) (q0 : 0 ≤ σ 4 10) (q1 : σ 4 10 ≤ 16) (hd : 2 < d) (hok : okN 8 st = true) : ex_xs rt J (ex_cd d) (.invokevirtual 133 :: is) ls (vR 4 :: st) (SH L, σ) = ex_xs rt J (ex_cd d) is ls (st) (SH L, kC σ) := x_call1 (Or.inl rfl) rfl (sh_4 _) (Or.inl ⟨rfl, rfl⟩) (as := []) rfl rfl (okN_ok hok) rfl (sp_133 hd p0 p1 q0 q1)
