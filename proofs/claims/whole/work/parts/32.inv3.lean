/-! each act keeps the invariant -/
theorem NI_comes {n : Int → Int} (hN : NI n) {c l : Int} (h1 : 0 ≤ c) (h2 : c < n 1) (h3 : 0 ≤ l) (h4 : l < n 0) (hs : standN n c < 0) (hc : n (41 + l) ≠ 12) : NI (comesF n c l) := by
  have b0 := hN.b0
  have b1 := hN.b1
  have m := hN.oM l h3 (by omega)
  have h8 : n (46 + l) < 8 := by
    have := cntS_lt n h1 (by omega) hs
    have := many_one hN h3 (show l < 5 by omega)
    omega
  have lo : ∀ k : Int, (k < 41 ∨ 91 ≤ k) → comesF n c l k = n k := fun k hk => comesF_ne n c l (by omega) (by omega) (by omega)
  exact NI.of (G1_comes hN.g1 h1 h2 h3 h4 hs hc h8).1 (G2_congr hN.g2 (fun k hk => lo k (by omega))) (G3_congr hN.g3 (fun k hk => lo k (by omega))) (G4_congr hN.g4 (fun k hk => lo k (by omega))) (G5_congr hN.g5 (fun k hk => lo k (by omega))) (G6_congr hN.g6 (fun k hk => lo k (by omega))) (G7_congr hN.g7 (fun k hk => lo k (by omega))) (G8_congr hN.g8 (fun k hk => lo k (by omega)))
theorem NI_goes {n : Int → Int} (hN : NI n) {l : Int} (h3 : 0 ≤ l) (h4 : l < n 0) (hc : n (41 + l) ≠ 12) (h8 : 0 < n (46 + l)) : NI (goesF n l) := by
  have b0 := hN.b0
  have lo : ∀ k : Int, (k < 41 ∨ 91 ≤ k) → goesF n l k = n k := fun k hk => goesF_ne n l (by omega) (by omega)
  exact NI.of (G1_goes hN.g1 h3 h4 hc h8 rfl).1 (G2_congr hN.g2 (fun k hk => lo k (by omega))) (G3_congr hN.g3 (fun k hk => lo k (by omega))) (G4_congr hN.g4 (fun k hk => lo k (by omega))) (G5_congr hN.g5 (fun k hk => lo k (by omega))) (G6_congr hN.g6 (fun k hk => lo k (by omega))) (G7_congr hN.g7 (fun k hk => lo k (by omega))) (G8_congr hN.g8 (fun k hk => lo k (by omega)))
/-- a free car: the last of its lane -/
theorem free_lo {n : Int → Int} (hN : NI n) {c : Int} (hf : freeP n c) : 0 ≤ standN n c ∧ standN n c / 8 < n 0 ∧ standN n c / 8 < 5 ∧ 0 < n (46 + standN n c / 8) ∧ standN n c % 8 = n (46 + standN n c / 8) - 1 ∧ n (51 + 8 * (standN n c / 8) + (n (46 + standN n c / 8) - 1)) = c ∧ n (41 + standN n c / 8) ≠ 12 ∧ n (31 + standN n c / 8) ≠ 1 := by
  obtain ⟨f1, f2, f3⟩ := hf
  unfold aheadN at f2
  have b0 := hN.b0
  rcases stand_lo n c hN.b0 hN.oM with h | ⟨q1, q2, q3, q4, q5⟩
  · omega
  · refine ⟨f1, q3, by omega, by omega, by omega, ?_, fun e => f3 (Or.inr e), fun e => f3 (Or.inl e)⟩
    rw [show 51 + 8 * (standN n c / 8) + (n (46 + standN n c / 8) - 1) = 51 + standN n c by omega]
    exact q5
theorem does_st {n : Int → Int} (hN : NI n) {c l : Int} (h1 : 0 ≤ c) (h2 : c < n 1) (h3 : 0 ≤ l) (h4 : l < n 0) (hf : freeP n c) (hl : standN n c / 8 ≠ l) (hc : n (41 + l) ≠ 12) : NI (doesF n c l) ∧ (∀ c', standN (doesF n c l) c' = if c' = c then 8 * l + n (46 + l) else standN n c') := by
  obtain ⟨f1, f2, f3, f4, f5, f6, f7, f8⟩ := free_lo hN hf
  have b0 := hN.b0
  have b1 := hN.b1
  have hg := NI_goes hN (show 0 ≤ standN n c / 8 by omega) f2 f7 f4
  have sg := (G1_goes hN.g1 (show 0 ≤ standN n c / 8 by omega) f2 f7 f4 f6).2
  have e41 : goesF n (standN n c / 8) (41 + l) = n (41 + l) := goesF_ne _ _ (by omega) (by omega)
  have e46 : goesF n (standN n c / 8) (46 + l) = n (46 + l) := goesF_ne _ _ (by omega) (by omega)
  have e0 : goesF n (standN n c / 8) 0 = n 0 := goesF_ne _ _ (by omega) (by omega)
  have e1 : goesF n (standN n c / 8) 1 = n 1 := goesF_ne _ _ (by omega) (by omega)
  have ss : standN (goesF n (standN n c / 8)) c < 0 := by rw [sg, if_pos rfl]; omega
  have hc2 := NI_comes hg h1 (by rw [e1]; exact h2) h3 (by rw [e0]; exact h4) ss (by rw [e41]; exact hc)
  have m := hN.oM l h3 (by omega)
  have h8 : n (46 + l) < 8 := by
    have := many_sum hN h3 (show l < 5 by omega) (show 0 ≤ standN n c / 8 by omega) f3 (fun e => hl e.symm)
    have := cntS_le n
    omega
  have sc := (G1_comes hg.g1 h1 (by rw [e1]; exact h2) h3 (by rw [e0]; exact h4) ss (by rw [e41]; exact hc) (by rw [e46]; exact h8)).2
  refine ⟨hc2, fun c' => ?_⟩
  unfold doesF
  rw [sc, e46, sg]
  by_cases q : c' = c
  · rw [if_pos q, if_pos q]
  · rw [if_neg q, if_neg q, if_neg q]
theorem G1_mod {n n' : Int → Int} (hN : G1 n) (h : ∀ k : Int, (k = 0 ∨ k = 1 ∨ (46 ≤ k ∧ k ≤ 90)) → n' k = n k)
    (kd : ∀ l : Int, 0 ≤ l → l < 5 → 0 ≤ n' (11 + l) ∧ n' (11 + l) ≤ 3) (ln : ∀ l : Int, 0 ≤ l → l < 5 → 0 ≤ n' (16 + l) ∧ n' (16 + l) ≤ 30) (ht : ∀ l : Int, 0 ≤ l → l < 5 → 0 ≤ n' (21 + l) ∧ n' (21 + l) ≤ 30) (ld : ∀ l : Int, 0 ≤ l → l < 5 → 0 ≤ n' (26 + l) ∧ n' (26 + l) ≤ 99) (bk : ∀ l : Int, 0 ≤ l → l < 5 → n' (31 + l) = 0 ∨ n' (31 + l) = 1) (mi : ∀ l : Int, 0 ≤ l → l < 5 → 0 ≤ n' (36 + l) ∧ n' (36 + l) ≤ 200) (cy : ∀ l : Int, 0 ≤ l → l < 5 → 0 ≤ n' (41 + l) ∧ n' (41 + l) ≤ 12) (ou : ∀ l : Int, n 0 ≤ l → l < 5 → n' (36 + l) = 100 ∧ n' (41 + l) = 0 ∧ n' (31 + l) = 0) : G1 n' := by
  have e0 := h 0 (by omega)
  have e1 := h 1 (by omega)
  have hm : ∀ l : Int, 0 ≤ l → l < 5 → n' (46 + l) = n (46 + l) := fun l h1 h2 => h _ (by omega)
  have hp : ∀ l i : Int, 0 ≤ l → l < 5 → 0 ≤ i → i < n' (46 + l) → n' (51 + 8 * l + i) = n (51 + 8 * l + i) := fun l i h1 h2 h3 h4 => by
    have := hN.oM l h1 h2
    have := hm l h1 h2
    exact h _ (by omega)
  refine G1.mk ?_ ?_ ?_ ?_ ?_ ?_ kd ln ht ld bk mi cy ?_ ?_ ?_ ?_
  · rw [e0]; exact hN.a0
  · rw [e0]; exact hN.b0
  · rw [e1]; exact hN.a1
  · rw [e1]; exact hN.b1
  · intro l h1 h2; rw [hm l h1 h2]; exact hN.oM l h1 h2
  · intro l i h1 h2 h3 h4; rw [hp l i h1 h2 h3 h4]; rw [hm l h1 h2] at h4; exact hN.oP l i h1 h2 h3 h4
  · intro l i h1 h2 h3 h4; rw [hp l i h1 h2 h3 h4, e1]; rw [hm l h1 h2] at h4; exact hN.po l i h1 h2 h3 h4
  · intro l i l' i' h1 h2 h3 h4 g1 g2 g3 g4 q
    rw [hp l i h1 h2 h3 h4, hp l' i' g1 g2 g3 g4] at q
    rw [hm l h1 h2] at h4
    rw [hm l' g1 g2] at g4
    exact hN.ds l i l' i' h1 h2 h3 h4 g1 g2 g3 g4 q
  · intro l h1 h2
    rw [e0] at h1
    have a0 := hN.a0
    have b0 := hN.b0
    rw [hm l (by omega) h2]
    exact ⟨(hN.ou l h1 h2).1, ou l h1 h2⟩
  · rw [cntS_congr (stand_congr hN.b0 hN.oM (fun k hk => h k (by omega))), h 46 (by omega), h 47 (by omega), h 48 (by omega), h 49 (by omega), h 50 (by omega)]
    exact hN.sm
theorem NI_breaks {n : Int → Int} (hN : NI n) {l z : Int} (h3 : 0 ≤ l) (h4 : l < n 0) (hz : z = 0 ∨ z = 1) : NI (ex_u n (31 + l) z) := by
  have b0 := hN.b0
  have lo : ∀ k : Int, k ≠ 31 + l → ex_u n (31 + l) z k = n k := fun k hk => ex_u_diff _ _ hk
  refine NI.of (G1_mod hN.g1 (fun k hk => lo k (by omega)) ?_ ?_ ?_ ?_ ?_ ?_ ?_ ?_) (G2_congr hN.g2 (fun k hk => lo k (by omega))) (G3_congr hN.g3 (fun k hk => lo k (by omega))) (G4_congr hN.g4 (fun k hk => lo k (by omega))) (G5_congr hN.g5 (fun k hk => lo k (by omega))) (G6_congr hN.g6 (fun k hk => lo k (by omega))) (G7_congr hN.g7 (fun k hk => lo k (by omega))) (G8_congr hN.g8 (fun k hk => lo k (by omega)))
  · intro l g1 g2; rw [lo _ (by omega)]; exact hN.kd l g1 g2
  · intro l g1 g2; rw [lo _ (by omega)]; exact hN.ln l g1 g2
  · intro l g1 g2; rw [lo _ (by omega)]; exact hN.ht l g1 g2
  · intro l g1 g2; rw [lo _ (by omega)]; exact hN.ld l g1 g2
  · intro l' g1 g2
    by_cases q : l' = l
    · rw [q, ex_u_same]; exact hz
    · rw [lo _ (by omega)]; exact hN.bk l' g1 g2
  · intro l g1 g2; rw [lo _ (by omega)]; exact hN.mi l g1 g2
  · intro l g1 g2; rw [lo _ (by omega)]; exact hN.cy l g1 g2
  · intro l' g1 g2
    rw [lo _ (by omega), lo _ (by omega), lo _ (by omega)]
    exact (hN.ou l' g1 g2).2
theorem NI_flood {n : Int → Int} (hN : NI n) {l z : Int} (h3 : 0 ≤ l) (h4 : l < n 0) (hz : 0 ≤ z ∧ z ≤ 200) : NI (ex_u n (36 + l) z) := by
  have b0 := hN.b0
  have lo : ∀ k : Int, k ≠ 36 + l → ex_u n (36 + l) z k = n k := fun k hk => ex_u_diff _ _ hk
  refine NI.of (G1_mod hN.g1 (fun k hk => lo k (by omega)) ?_ ?_ ?_ ?_ ?_ ?_ ?_ ?_) (G2_congr hN.g2 (fun k hk => lo k (by omega))) (G3_congr hN.g3 (fun k hk => lo k (by omega))) (G4_congr hN.g4 (fun k hk => lo k (by omega))) (G5_congr hN.g5 (fun k hk => lo k (by omega))) (G6_congr hN.g6 (fun k hk => lo k (by omega))) (G7_congr hN.g7 (fun k hk => lo k (by omega))) (G8_congr hN.g8 (fun k hk => lo k (by omega)))
  · intro l g1 g2; rw [lo _ (by omega)]; exact hN.kd l g1 g2
  · intro l g1 g2; rw [lo _ (by omega)]; exact hN.ln l g1 g2
  · intro l g1 g2; rw [lo _ (by omega)]; exact hN.ht l g1 g2
  · intro l g1 g2; rw [lo _ (by omega)]; exact hN.ld l g1 g2
  · intro l g1 g2; rw [lo _ (by omega)]; exact hN.bk l g1 g2
  · intro l' g1 g2
    by_cases q : l' = l
    · rw [q, ex_u_same]; exact hz
    · rw [lo _ (by omega)]; exact hN.mi l' g1 g2
  · intro l g1 g2; rw [lo _ (by omega)]; exact hN.cy l g1 g2
  · intro l' g1 g2
    rw [lo _ (by omega), lo _ (by omega), lo _ (by omega)]
    exact (hN.ou l' g1 g2).2
theorem NI_night {n : Int → Int} (hN : NI n) : NI (ex_u (nightF n 5) 2 0) := by
  have b0 := hN.b0
  have A : ∀ k : Int, ex_u (nightF n 5) 2 0 k = if k = 2 then 0 else if 41 ≤ k ∧ k < 46 then 0 else n k := fun k => by
    by_cases q : k = 2
    · rw [if_pos q, q, ex_u_same]
    · rw [if_neg q, ex_u_diff _ _ q]; rfl
  have lo : ∀ k : Int, k ≠ 2 → ¬ (41 ≤ k ∧ k < 46) → ex_u (nightF n 5) 2 0 k = n k := fun k h1 h2 => by rw [A, if_neg h1, if_neg h2]
  refine NI.of (G1_mod hN.g1 (fun k hk => lo k (by omega) (by omega)) ?_ ?_ ?_ ?_ ?_ ?_ ?_ ?_) (G2_congr hN.g2 (fun k hk => lo k (by omega) (by omega))) (G3_congr hN.g3 (fun k hk => lo k (by omega) (by omega))) (G4_congr hN.g4 (fun k hk => lo k (by omega) (by omega))) (G5_congr hN.g5 (fun k hk => lo k (by omega) (by omega))) (G6_congr hN.g6 (fun k hk => lo k (by omega) (by omega))) (G7_congr hN.g7 (fun k hk => lo k (by omega) (by omega))) (G8.mk ?_ ?_ ?_ ?_ ?_ ?_ ?_ ?_ ?_ ?_)
  · intro l g1 g2; rw [lo _ (by omega) (by omega)]; exact hN.kd l g1 g2
  · intro l g1 g2; rw [lo _ (by omega) (by omega)]; exact hN.ln l g1 g2
  · intro l g1 g2; rw [lo _ (by omega) (by omega)]; exact hN.ht l g1 g2
  · intro l g1 g2; rw [lo _ (by omega) (by omega)]; exact hN.ld l g1 g2
  · intro l g1 g2; rw [lo _ (by omega) (by omega)]; exact hN.bk l g1 g2
  · intro l g1 g2; rw [lo _ (by omega) (by omega)]; exact hN.mi l g1 g2
  · intro l g1 g2; rw [A, if_neg (by omega), if_pos (by omega)]; omega
  · intro l' g1 g2
    have a0 := hN.a0
    rw [lo _ (by omega) (by omega), A (41 + l'), if_neg (by omega), if_pos (by omega), lo _ (by omega) (by omega)]
    exact ⟨(hN.ou l' g1 g2).2.1, rfl, (hN.ou l' g1 g2).2.2.2⟩
  · rw [A, if_pos rfl]; omega
  · rw [A, if_pos rfl]; omega
  · rw [lo _ (by omega) (by omega)]; exact hN.a3
  · rw [lo _ (by omega) (by omega)]; exact hN.b3
  · rw [lo _ (by omega) (by omega)]; exact hN.a4
  · rw [lo _ (by omega) (by omega)]; exact hN.b4
  · rw [lo _ (by omega) (by omega)]; exact hN.a5
  · rw [lo _ (by omega) (by omega)]; exact hN.b5
  · rw [lo _ (by omega) (by omega)]; exact hN.a6
  · rw [lo _ (by omega) (by omega)]; exact hN.b6
theorem NI_u8 {n : Int → Int} (hN : NI n) {j z : Int} (hj : 2 ≤ j ∧ j ≤ 6) (hz : (j = 2 → 0 ≤ z ∧ z ≤ 23) ∧ (j = 3 → 0 ≤ z ∧ z ≤ 3) ∧ (j = 4 → 0 ≤ z ∧ z ≤ 3) ∧ (j = 5 → 1 ≤ z ∧ z ≤ 30) ∧ (j = 6 → -2147483648 ≤ z ∧ z ≤ 2147483647)) : NI (ex_u n j z) := by
  have lo : ∀ k : Int, k ≠ j → ex_u n j z k = n k := fun k hk => ex_u_diff _ _ hk
  have A : ∀ k : Int, ex_u n j z k = if k = j then z else n k := fun k => rfl
  refine NI.of (G1_congr hN.g1 (fun k hk => lo k (by omega))) (G2_congr hN.g2 (fun k hk => lo k (by omega))) (G3_congr hN.g3 (fun k hk => lo k (by omega))) (G4_congr hN.g4 (fun k hk => lo k (by omega))) (G5_congr hN.g5 (fun k hk => lo k (by omega))) (G6_congr hN.g6 (fun k hk => lo k (by omega))) (G7_congr hN.g7 (fun k hk => lo k (by omega))) ?_
  have := hN.a2
  have := hN.b2
  have := hN.a3
  have := hN.b3
  have := hN.a4
  have := hN.b4
  have := hN.a5
  have := hN.b5
  have := hN.a6
  have := hN.b6
  refine G8.mk ?_ ?_ ?_ ?_ ?_ ?_ ?_ ?_ ?_ ?_
  all_goals
    rw [A]
    split <;> omega
theorem NI_bid {n : Int → Int} (hN : NI n) {j z : Int} (hj : 0 ≤ j ∧ j < 25) (hz : 0 ≤ z ∧ z ≤ 999) : NI (ex_u n (146 + j) z) := by
  have lo : ∀ k : Int, k ≠ 146 + j → ex_u n (146 + j) z k = n k := fun k hk => ex_u_diff _ _ hk
  refine NI.of (G1_congr hN.g1 (fun k hk => lo k (by omega))) (G2_congr hN.g2 (fun k hk => lo k (by omega))) (G3_congr hN.g3 (fun k hk => lo k (by omega))) (G4.mk ?_) (G5_congr hN.g5 (fun k hk => lo k (by omega))) (G6_congr hN.g6 (fun k hk => lo k (by omega))) (G7_congr hN.g7 (fun k hk => lo k (by omega))) (G8_congr hN.g8 (fun k hk => lo k (by omega)))
  intro k h1 h2
  by_cases q : k = j
  · rw [q, ex_u_same]; exact hz
  · rw [lo _ (by omega)]; exact hN.bd k h1 h2
theorem NI_clear {n : Int → Int} (hN : NI n) : NI (ex_u n 7 0) := by
  have lo : ∀ k : Int, k ≠ 7 → ex_u n 7 0 k = n k := fun k hk => ex_u_diff _ _ hk
  refine NI.of (G1_congr hN.g1 (fun k hk => lo k (by omega))) (G2_congr hN.g2 (fun k hk => lo k (by omega))) (G3.mk ?_ ?_ ?_) (G4_congr hN.g4 (fun k hk => lo k (by omega))) (G5_congr hN.g5 (fun k hk => lo k (by omega))) (G6_congr hN.g6 (fun k hk => lo k (by omega))) (G7_congr hN.g7 (fun k hk => lo k (by omega))) (G8_congr hN.g8 (fun k hk => lo k (by omega)))
  · rw [ex_u_same]; omega
  · rw [ex_u_same]; omega
  · intro k h1 h2; rw [ex_u_same] at h2; omega
theorem NI_arrive {n : Int → Int} (hN : NI n) {c : Int} (h1 : 0 ≤ c) (h2 : c < n 1) (h7 : n 7 ≠ 7) : NI (ex_u (ex_u n (139 + n 7) c) 7 (n 7 + 1)) := by
  have a7 := hN.a7
  have b7 := hN.b7
  have lo : ∀ k : Int, k ≠ 7 → k ≠ 139 + n 7 → ex_u (ex_u n (139 + n 7) c) 7 (n 7 + 1) k = n k := fun k h1 h2 => by rw [ex_u_diff _ _ h1, ex_u_diff _ _ h2]
  refine NI.of (G1_congr hN.g1 (fun k hk => lo k (by omega) (by omega))) (G2_congr hN.g2 (fun k hk => lo k (by omega) (by omega))) (G3.mk ?_ ?_ ?_) (G4_congr hN.g4 (fun k hk => lo k (by omega) (by omega))) (G5_congr hN.g5 (fun k hk => lo k (by omega) (by omega))) (G6_congr hN.g6 (fun k hk => lo k (by omega) (by omega))) (G7_congr hN.g7 (fun k hk => lo k (by omega) (by omega))) (G8_congr hN.g8 (fun k hk => lo k (by omega) (by omega)))
  · rw [ex_u_same]; omega
  · rw [ex_u_same]; omega
  · intro k g1 g2
    rw [ex_u_same] at g2
    rw [lo 1 (by omega) (by omega), ex_u_diff _ _ (by omega)]
    by_cases q : k = n 7
    · rw [q, ex_u_same]; exact ⟨h1, h2⟩
    · rw [ex_u_diff _ _ (by omega)]; exact hN.ar k g1 (by omega)
theorem NI_note {n : Int → Int} (hN : NI n) {c h b : Int} (h1 : 0 ≤ c) (h2 : c < 8) (h3 : 0 ≤ h) (h4 : h ≤ 23) (hb : b = 0 ∨ b = 1) (h7 : n 10 ≠ 30) : NI (ex_u (ex_u n (247 + n 10) (c + 8 * h + 256 * b)) 10 (n 10 + 1)) := by
  have a7 := hN.a10
  have b7 := hN.b10
  have lo : ∀ k : Int, k ≠ 10 → k ≠ 247 + n 10 → ex_u (ex_u n (247 + n 10) (c + 8 * h + 256 * b)) 10 (n 10 + 1) k = n k := fun k h1 h2 => by rw [ex_u_diff _ _ h1, ex_u_diff _ _ h2]
  refine NI.of (G1_congr hN.g1 (fun k hk => lo k (by omega) (by omega))) (G2_congr hN.g2 (fun k hk => lo k (by omega) (by omega))) (G3_congr hN.g3 (fun k hk => lo k (by omega) (by omega))) (G4_congr hN.g4 (fun k hk => lo k (by omega) (by omega))) (G5_congr hN.g5 (fun k hk => lo k (by omega) (by omega))) (G6_congr hN.g6 (fun k hk => lo k (by omega) (by omega))) (G7.mk ?_ ?_ ?_) (G8_congr hN.g8 (fun k hk => lo k (by omega) (by omega)))
  · rw [ex_u_same]; omega
  · rw [ex_u_same]; omega
  · intro k g1 g2
    rw [ex_u_same] at g2
    rw [ex_u_diff _ _ (by omega)]
    by_cases q : k = n 10
    · rw [q, ex_u_same]; omega
    · rw [ex_u_diff _ _ (by omega)]; exact hN.no k g1 (by omega)
theorem ledF_at {n : Int → Int} (z k : Int) (h0 : 0 ≤ n 8) (h1 : n 8 ≤ 60) : ledF n z k = if k = 8 then (if n 8 = 60 then 60 else n 8 + 1) else if k = 171 + (if n 8 = 60 then 59 else n 8) then z else if n 8 = 60 ∧ 171 ≤ k ∧ k < 230 then n (k + 1) else n k := by
  unfold ledF
  by_cases h : n 8 = 60
  · rw [if_pos h, if_pos h, if_pos h]
    by_cases k8 : k = 8
    · rw [if_pos k8, k8, ex_u_same]
    · rw [if_neg k8, ex_u_diff _ _ k8]
      by_cases kz : k = 230
      · rw [kz, ex_u_same, if_pos (by omega)]
      · rw [ex_u_diff _ _ kz, if_neg (by omega), ex_u_diff _ _ k8]
        unfold shF
        by_cases kk : 171 ≤ k ∧ k < 230
        · rw [if_pos (by omega), if_pos (by omega)]
        · rw [if_neg (by omega), if_neg (by omega)]
  · rw [if_neg h, if_neg h, if_neg h]
    by_cases k8 : k = 8
    · rw [if_pos k8, k8, ex_u_same]
    · rw [if_neg k8, ex_u_diff _ _ k8]
      by_cases kz : k = 171 + n 8
      · rw [if_pos kz, kz, ex_u_same]
      · rw [if_neg kz, ex_u_diff _ _ kz, if_neg (by omega)]
theorem NI_led {n : Int → Int} (hN : NI n) {z : Int} (hz : (0 ≤ z ∧ z < 32) ∨ (64 ≤ z ∧ z < 80)) : NI (ledF n z) := by
  have a7 := hN.a8
  have b7 := hN.b8
  have A := fun k => ledF_at (n := n) z k a7 b7
  have lo : ∀ k : Int, k ≠ 8 → ¬ (171 ≤ k ∧ k ≤ 230) → ledF n z k = n k := fun k h1 h2 => by
    rw [A, if_neg h1, if_neg (by split <;> omega), if_neg (by omega)]
  refine NI.of (G1_congr hN.g1 (fun k hk => lo k (by omega) (by omega))) (G2_congr hN.g2 (fun k hk => lo k (by omega) (by omega))) (G3_congr hN.g3 (fun k hk => lo k (by omega) (by omega))) (G4_congr hN.g4 (fun k hk => lo k (by omega) (by omega))) (G5.mk ?_ ?_ ?_) (G6_congr hN.g6 (fun k hk => lo k (by omega) (by omega))) (G7_congr hN.g7 (fun k hk => lo k (by omega) (by omega))) (G8_congr hN.g8 (fun k hk => lo k (by omega) (by omega)))
  · rw [A, if_pos rfl]; split <;> omega
  · rw [A, if_pos rfl]; split <;> omega
  · intro k g1 g2
    rw [A, if_pos rfl] at g2
    rw [A, if_neg (by omega)]
    by_cases h : n 8 = 60
    · rw [if_pos h] at g2 ⊢
      by_cases q : k = 59
      · rw [if_pos (by omega)]; exact hz
      · rw [if_neg (by omega), if_pos (by omega)]
        have := hN.le (k + 1) (by omega) (by omega)
        rw [show 171 + (k + 1) = 171 + k + 1 by omega] at this
        exact this
    · rw [if_neg h] at g2 ⊢
      by_cases q : k = n 8
      · rw [if_pos (by omega)]; exact hz
      · rw [if_neg (by omega), if_neg (by omega)]
        exact hN.le k g1 (by omega)
theorem NI_text {n a : Int → Int} (hN : NI n) {s z : Int} (hz : 0 ≤ z) (hz2 : z ≤ 16) (hs : ∀ i : Int, 0 ≤ i → i < z → signP (a (20 * s + i))) : NI (txF (ex_u n 9 z) a s z.toNat) := by
  have A : ∀ k : Int, txF (ex_u n 9 z) a s z.toNat k = if 231 ≤ k ∧ k < 231 + z then a (20 * s + (k - 231)) else ex_u n 9 z k := fun k => by
    unfold txF
    by_cases q : 231 ≤ k ∧ k < 231 + z
    · rw [if_pos (by omega), if_pos q]
    · rw [if_neg (by omega), if_neg q]
  have lo : ∀ k : Int, k ≠ 9 → ¬ (231 ≤ k ∧ k ≤ 246) → txF (ex_u n 9 z) a s z.toNat k = n k := fun k h1 h2 => by
    rw [A, if_neg (by omega), ex_u_diff _ _ h1]
  have e9 : txF (ex_u n 9 z) a s z.toNat 9 = z := by rw [A, if_neg (by omega), ex_u_same]
  refine NI.of (G1_congr hN.g1 (fun k hk => lo k (by omega) (by omega))) (G2_congr hN.g2 (fun k hk => lo k (by omega) (by omega))) (G3_congr hN.g3 (fun k hk => lo k (by omega) (by omega))) (G4_congr hN.g4 (fun k hk => lo k (by omega) (by omega))) (G5_congr hN.g5 (fun k hk => lo k (by omega) (by omega))) (G6.mk ?_ ?_ ?_) (G7_congr hN.g7 (fun k hk => lo k (by omega) (by omega))) (G8_congr hN.g8 (fun k hk => lo k (by omega) (by omega)))
  · rw [e9]; exact hz
  · rw [e9]; exact hz2
  · intro k g1 g2
    rw [e9] at g2
    rw [A, if_pos (by omega), show 20 * s + (231 + k - 231) = 20 * s + k by omega]
    exact hs k g1 g2
theorem sgn_all (a : Int → Int) (s : Int) : ∀ (j i : Nat), sgnN a s i j = 1 → ∀ k : Nat, i ≤ k → k < i + j → signP (a (20 * s + (k : Int)))
  | 0, i, _, k, h1, h2 => by omega
  | j + 1, i, h, k, h1, h2 => by
    rw [sgnN] at h
    by_cases g : signP (a (20 * s + (i : Int)))
    · rw [if_pos g] at h
      by_cases e : k = i
      · rw [e]; exact g
      · exact sgn_all a s j (i + 1) h k (by omega) (by omega)
    · rw [if_neg g] at h; omega
theorem NI_tell {n : Int → Int} (hN : NI n) {c w v : Int} (h1 : 0 ≤ c) (h2 : c < 8) (h3 : 0 ≤ w) (h4 : w ≤ 2) (hv : 0 ≤ v ∧ v ≤ (if w = 0 then 23 else if w = 1 then 9 else 99)) : NI (ex_u n (115 + 8 * w + c) v) := by
  have lo : ∀ k : Int, k ≠ 115 + 8 * w + c → ex_u n (115 + 8 * w + c) v k = n k := fun k hk => ex_u_diff _ _ hk
  have A : ∀ k : Int, ex_u n (115 + 8 * w + c) v k = if k = 115 + 8 * w + c then v else n k := fun k => rfl
  refine NI.of (G1_congr hN.g1 (fun k hk => lo k (by omega))) (G2.mk ?_ ?_ ?_ ?_ ?_ ?_) (G3_congr hN.g3 (fun k hk => lo k (by omega))) (G4_congr hN.g4 (fun k hk => lo k (by omega))) (G5_congr hN.g5 (fun k hk => lo k (by omega))) (G6_congr hN.g6 (fun k hk => lo k (by omega))) (G7_congr hN.g7 (fun k hk => lo k (by omega))) (G8_congr hN.g8 (fun k hk => lo k (by omega)))
  · intro l g1 g2; rw [lo _ (by omega)]; exact hN.c0 l g1 g2
  · intro l g1 g2; rw [lo _ (by omega)]; exact hN.c1 l g1 g2
  · intro l g1 g2; rw [lo _ (by omega)]; exact hN.c2 l g1 g2
  · intro l g1 g2
    have := hN.c3 l g1 g2
    rw [A]
    by_cases q : 115 + l = 115 + 8 * w + c
    · rw [if_pos q]
      rw [if_pos (by omega)] at hv
      exact hv
    · rw [if_neg q]; exact this
  · intro l g1 g2
    have := hN.c4 l g1 g2
    rw [A]
    by_cases q : 123 + l = 115 + 8 * w + c
    · rw [if_pos q]
      rw [if_neg (by omega), if_pos (by omega)] at hv
      exact hv
    · rw [if_neg q]; exact this
  · intro l g1 g2
    have := hN.c5 l g1 g2
    rw [A]
    by_cases q : 131 + l = 115 + 8 * w + c
    · rw [if_pos q]
      rw [if_neg (by omega), if_neg (by omega)] at hv
      exact hv
    · rw [if_neg q]; exact this
theorem carF_at (n : Int → Int) (a b c h e w k : Int) (h0 : 0 ≤ n 1) (h1 : n 1 < 8) : carF n a b c h e w k = if k = 1 then n 1 + 1 else if k = 91 + n 1 then a else if k = 99 + n 1 then b else if k = 107 + n 1 then c else if k = 115 + n 1 then h else if k = 123 + n 1 then e else if k = 131 + n 1 then w else n k := by
  unfold carF
  by_cases q0 : k = 1
  · rw [if_pos q0, q0, ex_u_same]
  rw [if_neg q0, ex_u_diff _ _ q0]
  by_cases q6 : k = 131 + n 1
  · rw [if_neg (by omega), if_neg (by omega), if_neg (by omega), if_neg (by omega), if_neg (by omega), if_pos q6, q6, ex_u_same]
  rw [ex_u_diff _ _ q6]
  by_cases q5 : k = 123 + n 1
  · rw [if_neg (by omega), if_neg (by omega), if_neg (by omega), if_neg (by omega), if_pos q5, q5, ex_u_same]
  rw [ex_u_diff _ _ q5]
  by_cases q4 : k = 115 + n 1
  · rw [if_neg (by omega), if_neg (by omega), if_neg (by omega), if_pos q4, q4, ex_u_same]
  rw [ex_u_diff _ _ q4]
  by_cases q3 : k = 107 + n 1
  · rw [if_neg (by omega), if_neg (by omega), if_pos q3, q3, ex_u_same]
  rw [ex_u_diff _ _ q3]
  by_cases q2 : k = 99 + n 1
  · rw [if_neg (by omega), if_pos q2, q2, ex_u_same]
  rw [ex_u_diff _ _ q2]
  by_cases q1 : k = 91 + n 1
  · rw [if_pos q1, q1, ex_u_same]
  rw [ex_u_diff _ _ q1, if_neg q1, if_neg q2, if_neg q3, if_neg q4, if_neg q5, if_neg q6]
theorem NI_car {n : Int → Int} (hN : NI n) {a b c h e w : Int} (h1 : n 1 ≠ 8) (ok : (1 ≤ a ∧ a ≤ 9) ∧ (1 ≤ b ∧ b ≤ 30) ∧ (1 ≤ c ∧ c ≤ 99) ∧ (0 ≤ h ∧ h ≤ 23) ∧ (0 ≤ e ∧ e ≤ 9) ∧ (0 ≤ w ∧ w ≤ 99)) : NI (carF n a b c h e w) := by
  have a1 := hN.a1
  have b1 := hN.b1
  have A := fun k => carF_at n a b c h e w k a1 (by omega)
  have lo : ∀ k : Int, k ≠ 1 → ¬ (91 ≤ k ∧ k ≤ 138) → carF n a b c h e w k = n k := fun k g1 g2 => by
    rw [A, if_neg (by omega), if_neg (by omega), if_neg (by omega), if_neg (by omega), if_neg (by omega), if_neg (by omega), if_neg (by omega)]
  have e1 : carF n a b c h e w 1 = n 1 + 1 := by rw [A, if_pos rfl]
  have hm : ∀ l : Int, 0 ≤ l → l < 5 → carF n a b c h e w (46 + l) = n (46 + l) := fun l h1 h2 => lo _ (by omega) (by omega)
  have hp : ∀ l i : Int, 0 ≤ l → l < 5 → 0 ≤ i → i < carF n a b c h e w (46 + l) → carF n a b c h e w (51 + 8 * l + i) = n (51 + 8 * l + i) := fun l i h1 h2 h3 h4 => by
    have := hN.oM l h1 h2
    have := hm l h1 h2
    exact lo _ (by omega) (by omega)
  have e0 := lo 0 (by omega) (by omega)
  refine NI.of (G1.mk ?_ ?_ ?_ ?_ ?_ ?_ ?_ ?_ ?_ ?_ ?_ ?_ ?_ ?_ ?_ ?_ ?_) (G2.mk ?_ ?_ ?_ ?_ ?_ ?_) (G3.mk ?_ ?_ ?_) (G4_congr hN.g4 (fun k hk => lo k (by omega) (by omega))) (G5_congr hN.g5 (fun k hk => lo k (by omega) (by omega))) (G6_congr hN.g6 (fun k hk => lo k (by omega) (by omega))) (G7_congr hN.g7 (fun k hk => lo k (by omega) (by omega))) (G8_congr hN.g8 (fun k hk => lo k (by omega) (by omega)))
  · rw [e0]; exact hN.a0
  · rw [e0]; exact hN.b0
  · rw [e1]; omega
  · rw [e1]; omega
  · intro l h1 h2; rw [hm l h1 h2]; exact hN.oM l h1 h2
  · intro l i h1 h2 h3 h4; rw [hp l i h1 h2 h3 h4]; rw [hm l h1 h2] at h4; exact hN.oP l i h1 h2 h3 h4
  · intro l h1 h2; rw [lo _ (by omega) (by omega)]; exact hN.kd l h1 h2
  · intro l h1 h2; rw [lo _ (by omega) (by omega)]; exact hN.ln l h1 h2
  · intro l h1 h2; rw [lo _ (by omega) (by omega)]; exact hN.ht l h1 h2
  · intro l h1 h2; rw [lo _ (by omega) (by omega)]; exact hN.ld l h1 h2
  · intro l h1 h2; rw [lo _ (by omega) (by omega)]; exact hN.bk l h1 h2
  · intro l h1 h2; rw [lo _ (by omega) (by omega)]; exact hN.mi l h1 h2
  · intro l h1 h2; rw [lo _ (by omega) (by omega)]; exact hN.cy l h1 h2
  · intro l i h1 h2 h3 h4; rw [hp l i h1 h2 h3 h4, e1]; rw [hm l h1 h2] at h4; have := hN.po l i h1 h2 h3 h4; omega
  · intro l i l' i' h1 h2 h3 h4 g1 g2 g3 g4 q
    rw [hp l i h1 h2 h3 h4, hp l' i' g1 g2 g3 g4] at q
    rw [hm l h1 h2] at h4
    rw [hm l' g1 g2] at g4
    exact hN.ds l i l' i' h1 h2 h3 h4 g1 g2 g3 g4 q
  · intro l h1 h2
    rw [e0] at h1
    have a0 := hN.a0
    rw [hm l (by omega) h2, lo (36 + l) (by omega) (by omega), lo (41 + l) (by omega) (by omega), lo (31 + l) (by omega) (by omega)]
    exact hN.ou l h1 h2
  · rw [cntS_congr (stand_congr hN.b0 hN.oM (fun k hk => lo k (by omega) (by omega))), lo 46 (by omega) (by omega), lo 47 (by omega) (by omega), lo 48 (by omega) (by omega), lo 49 (by omega) (by omega), lo 50 (by omega) (by omega)]
    exact hN.sm
  · intro l g1 g2; have := hN.c0 l g1 g2; rw [A]; repeat' split
    all_goals omega
  · intro l g1 g2; have := hN.c1 l g1 g2; rw [A]; repeat' split
    all_goals omega
  · intro l g1 g2; have := hN.c2 l g1 g2; rw [A]; repeat' split
    all_goals omega
  · intro l g1 g2; have := hN.c3 l g1 g2; rw [A]; repeat' split
    all_goals omega
  · intro l g1 g2; have := hN.c4 l g1 g2; rw [A]; repeat' split
    all_goals omega
  · intro l g1 g2; have := hN.c5 l g1 g2; rw [A]; repeat' split
    all_goals omega
  · rw [lo 7 (by omega) (by omega)]; exact hN.a7
  · rw [lo 7 (by omega) (by omega)]; exact hN.b7
  · intro k g1 g2
    have b7 := hN.b7
    rw [lo 7 (by omega) (by omega)] at g2
    rw [lo _ (by omega) (by omega), e1]
    have := hN.ar k g1 g2
    omega
theorem laneF_at (n : Int → Int) (k a b c i : Int) (h0 : 0 ≤ n 0) (h1 : n 0 < 5) : laneF n k a b c i = if i = 0 then n 0 + 1 else if i = 11 + n 0 then k else if i = 16 + n 0 then a else if i = 21 + n 0 then b else if i = 26 + n 0 then (if k = 3 then c / 2 else c) else n i := by
  unfold laneF
  generalize (if k = 3 then c / 2 else c) = v
  by_cases q0 : i = 0
  · rw [if_pos q0, q0, ex_u_same]
  rw [if_neg q0, ex_u_diff _ _ q0]
  by_cases q4 : i = 26 + n 0
  · rw [if_neg (by omega), if_neg (by omega), if_neg (by omega), if_pos q4, q4, ex_u_same]
  rw [ex_u_diff _ _ q4]
  by_cases q3 : i = 21 + n 0
  · rw [if_neg (by omega), if_neg (by omega), if_pos q3, q3, ex_u_same]
  rw [ex_u_diff _ _ q3]
  by_cases q2 : i = 16 + n 0
  · rw [if_neg (by omega), if_pos q2, q2, ex_u_same]
  rw [ex_u_diff _ _ q2]
  by_cases q1 : i = 11 + n 0
  · rw [if_pos q1, q1, ex_u_same]
  rw [ex_u_diff _ _ q1, if_neg q1, if_neg q2, if_neg q3, if_neg q4]
theorem NI_lane {n : Int → Int} (hN : NI n) {k a b c : Int} (h1 : n 0 ≠ 5) (ok : (0 ≤ k ∧ k ≤ 3) ∧ (1 ≤ a ∧ a ≤ 30) ∧ (1 ≤ b ∧ b ≤ 30) ∧ (1 ≤ c ∧ c ≤ 99)) : NI (laneF n k a b c) ∧ ∀ c', standN (laneF n k a b c) c' = standN n c' := by
  have a0 := hN.a0
  have b0 := hN.b0
  have A := fun i => laneF_at n k a b c i a0 (by omega)
  have lo : ∀ i : Int, i ≠ 0 → ¬ (11 ≤ i ∧ i ≤ 30) → laneF n k a b c i = n i := fun k g1 g2 => by
    rw [A, if_neg (by omega), if_neg (by omega), if_neg (by omega), if_neg (by omega), if_neg (by omega)]
  have e0 : laneF n k a b c 0 = n 0 + 1 := by rw [A, if_pos rfl]
  have e1 := lo 1 (by omega) (by omega)
  have hm : ∀ l : Int, 0 ≤ l → l < 5 → laneF n k a b c (46 + l) = n (46 + l) := fun l h1 h2 => lo _ (by omega) (by omega)
  have hp : ∀ l i : Int, 0 ≤ l → l < 5 → 0 ≤ i → laneF n k a b c (51 + 8 * l + i) = n (51 + 8 * l + i) := fun l i h1 h2 h3 => lo _ (by omega) (by omega)
  have oM' : okM (laneF n k a b c) := fun l h1 h2 => by rw [hm l h1 h2]; exact hN.oM l h1 h2
  have ds' : ∀ l i l' i' : Int, 0 ≤ l → l < 5 → 0 ≤ i → i < laneF n k a b c (46 + l) → 0 ≤ l' → l' < 5 → 0 ≤ i' → i' < laneF n k a b c (46 + l') → laneF n k a b c (51 + 8 * l + i) = laneF n k a b c (51 + 8 * l' + i') → l = l' ∧ i = i' := by
    intro l i l' i' h1 h2 h3 h4 g1 g2 g3 g4 q
    rw [hp l i h1 h2 h3, hp l' i' g1 g2 g3] at q
    rw [hm l h1 h2] at h4
    rw [hm l' g1 g2] at g4
    exact hN.ds l i l' i' h1 h2 h3 h4 g1 g2 g3 g4 q
  have ou' : ∀ l : Int, laneF n k a b c 0 ≤ l → l < 5 → laneF n k a b c (46 + l) = 0 ∧ laneF n k a b c (36 + l) = 100 ∧ laneF n k a b c (41 + l) = 0 ∧ laneF n k a b c (31 + l) = 0 := by
    intro l h1 h2
    rw [e0] at h1
    rw [hm l (by omega) h2, lo (36 + l) (by omega) (by omega), lo (41 + l) (by omega) (by omega), lo (31 + l) (by omega) (by omega)]
    exact hN.ou l (by omega) h2
  have hst : ∀ c', standN (laneF n k a b c) c' = standN n c' := by
    intro c'
    refine stand_eq hN.b0 hN.oM oM' (by rw [e0]; omega) (fun l h1 h2 => (ou' l h1 h2).1) ds' (fun l h1 h2 => (hN.ou l h1 h2).1) hN.ds ?_
    intro l i g1 g2 g3
    rw [hm l g1 g2, hp l i g1 g2 g3]
  refine ⟨NI.of (G1.mk ?_ ?_ ?_ ?_ oM' ?_ ?_ ?_ ?_ ?_ ?_ ?_ ?_ ?_ ds' ou' ?_) (G2_congr hN.g2 (fun k hk => lo k (by omega) (by omega))) (G3_congr hN.g3 (fun k hk => lo k (by omega) (by omega))) (G4_congr hN.g4 (fun k hk => lo k (by omega) (by omega))) (G5_congr hN.g5 (fun k hk => lo k (by omega) (by omega))) (G6_congr hN.g6 (fun k hk => lo k (by omega) (by omega))) (G7_congr hN.g7 (fun k hk => lo k (by omega) (by omega))) (G8_congr hN.g8 (fun k hk => lo k (by omega) (by omega))), hst⟩
  · rw [e0]; omega
  · rw [e0]; omega
  · rw [e1]; exact hN.a1
  · rw [e1]; exact hN.b1
  · intro l i h1 h2 h3 h4; rw [hp l i h1 h2 h3]; rw [hm l h1 h2] at h4; exact hN.oP l i h1 h2 h3 h4
  · intro l g1 g2; have := hN.kd l g1 g2; rw [A]; repeat' split
    all_goals omega
  · intro l g1 g2; have := hN.ln l g1 g2; rw [A]; repeat' split
    all_goals omega
  · intro l g1 g2; have := hN.ht l g1 g2; rw [A]; repeat' split
    all_goals omega
  · intro l g1 g2; have := hN.ld l g1 g2; rw [A]; repeat' split
    all_goals omega
  · intro l h1 h2; rw [lo _ (by omega) (by omega)]; exact hN.bk l h1 h2
  · intro l h1 h2; rw [lo _ (by omega) (by omega)]; exact hN.mi l h1 h2
  · intro l h1 h2; rw [lo _ (by omega) (by omega)]; exact hN.cy l h1 h2
  · intro l i h1 h2 h3 h4; rw [hp l i h1 h2 h3, e1]; rw [hm l h1 h2] at h4; exact hN.po l i h1 h2 h3 h4
  · rw [cntS_congr hst, lo 46 (by omega) (by omega), lo 47 (by omega) (by omega), lo 48 (by omega) (by omega), lo 49 (by omega) (by omega), lo 50 (by omega) (by omega)]
    exact hN.sm
