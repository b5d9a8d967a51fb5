/-! a car comes, a car goes -/
theorem comesF_at (n : Int → Int) (c l k : Int) (h1 : 0 ≤ l) (h2 : l < 5) (h3 : 0 ≤ n (46 + l)) : comesF n c l k = if k = 41 + l then n k + cyc n l else if k = 46 + l then n k + 1 else if k = 51 + 8 * l + n (46 + l) then c else n k := by
  unfold comesF turnF
  have e : cyc (ex_u (ex_u n (51 + 8 * l + n (46 + l)) c) (46 + l) (n (46 + l) + 1)) l = cyc n l := by
    unfold cyc
    rw [ex_u_diff _ _ (by omega), ex_u_diff _ _ (by omega)]
  by_cases k1 : k = 41 + l
  · rw [if_pos k1, e, k1, ex_u_same, ex_u_diff _ _ (by omega), ex_u_diff _ _ (by omega)]
  · rw [if_neg k1, ex_u_diff _ _ k1]
    by_cases k2 : k = 46 + l
    · rw [if_pos k2, k2, ex_u_same]
    · rw [if_neg k2, ex_u_diff _ _ k2]
      by_cases k3 : k = 51 + 8 * l + n (46 + l)
      · rw [if_pos k3, k3, ex_u_same]
      · rw [if_neg k3, ex_u_diff _ _ k3]
theorem goesF_at (n : Int → Int) (l k : Int) (h1 : 0 ≤ l) (h2 : l < 5) : goesF n l k = if k = 41 + l then n k + cyc n l else if k = 46 + l then n k - 1 else n k := by
  unfold goesF turnF
  have e : cyc (ex_u n (46 + l) (n (46 + l) - 1)) l = cyc n l := by
    unfold cyc
    rw [ex_u_diff _ _ (by omega)]
  by_cases k1 : k = 41 + l
  · rw [if_pos k1, e, k1, ex_u_same, ex_u_diff _ _ (by omega)]
  · rw [if_neg k1, ex_u_diff _ _ k1]
    by_cases k2 : k = 46 + l
    · rw [if_pos k2, k2, ex_u_same]
    · rw [if_neg k2, ex_u_diff _ _ k2]
theorem cyc_bd (n : Int → Int) (l : Int) : 0 ≤ cyc n l ∧ cyc n l ≤ 1 := by
  unfold cyc
  split <;> omega
theorem cnt_up {n n' : Int → Int} {c : Int} (h1 : 0 ≤ c) (h2 : c < 8) (h : ∀ c', c' ≠ c → standN n' c' = standN n c') (hs : standN n c < 0) (hs' : 0 ≤ standN n' c) : cntS n' = cntS n + 1 := by
  unfold cntS
  have e1 := b2i_no hs
  have e2 := b2i_yes hs'
  rcases (show c = 0 ∨ c = 1 ∨ c = 2 ∨ c = 3 ∨ c = 4 ∨ c = 5 ∨ c = 6 ∨ c = 7 by omega) with e | e | e | e | e | e | e | e
  · subst e; rw [h 1 (by omega), h 2 (by omega), h 3 (by omega), h 4 (by omega), h 5 (by omega), h 6 (by omega), h 7 (by omega)]; omega
  · subst e; rw [h 0 (by omega), h 2 (by omega), h 3 (by omega), h 4 (by omega), h 5 (by omega), h 6 (by omega), h 7 (by omega)]; omega
  · subst e; rw [h 0 (by omega), h 1 (by omega), h 3 (by omega), h 4 (by omega), h 5 (by omega), h 6 (by omega), h 7 (by omega)]; omega
  · subst e; rw [h 0 (by omega), h 1 (by omega), h 2 (by omega), h 4 (by omega), h 5 (by omega), h 6 (by omega), h 7 (by omega)]; omega
  · subst e; rw [h 0 (by omega), h 1 (by omega), h 2 (by omega), h 3 (by omega), h 5 (by omega), h 6 (by omega), h 7 (by omega)]; omega
  · subst e; rw [h 0 (by omega), h 1 (by omega), h 2 (by omega), h 3 (by omega), h 4 (by omega), h 6 (by omega), h 7 (by omega)]; omega
  · subst e; rw [h 0 (by omega), h 1 (by omega), h 2 (by omega), h 3 (by omega), h 4 (by omega), h 5 (by omega), h 7 (by omega)]; omega
  · subst e; rw [h 0 (by omega), h 1 (by omega), h 2 (by omega), h 3 (by omega), h 4 (by omega), h 5 (by omega), h 6 (by omega)]; omega
theorem stand_eq {n n' : Int → Int} {c : Int} (b0 : n 0 ≤ 5) (oM : okM n) (oM' : okM n') (b0' : n' 0 ≤ 5) (ou' : ∀ l : Int, n' 0 ≤ l → l < 5 → n' (46 + l) = 0) (ds' : ∀ l i l' i' : Int, 0 ≤ l → l < 5 → 0 ≤ i → i < n' (46 + l) → 0 ≤ l' → l' < 5 → 0 ≤ i' → i' < n' (46 + l') → n' (51 + 8 * l + i) = n' (51 + 8 * l' + i') → l = l' ∧ i = i') (ou : ∀ l : Int, n 0 ≤ l → l < 5 → n (46 + l) = 0) (ds : ∀ l i l' i' : Int, 0 ≤ l → l < 5 → 0 ≤ i → i < n (46 + l) → 0 ≤ l' → l' < 5 → 0 ≤ i' → i' < n (46 + l') → n (51 + 8 * l + i) = n (51 + 8 * l' + i') → l = l' ∧ i = i') (h : ∀ l i : Int, 0 ≤ l → l < 5 → 0 ≤ i → ((i < n' (46 + l) ∧ n' (51 + 8 * l + i) = c) ↔ (i < n (46 + l) ∧ n (51 + 8 * l + i) = c))) : standN n' c = standN n c := by
  rcases stand_lo n c b0 oM with g | ⟨q1, q2, q3, q4, q5⟩
  · rcases stand_lo n' c b0' oM' with g' | ⟨p1, p2, p3, p4, p5⟩
    · rw [g, g']
    · rw [show 51 + standN n' c = 51 + 8 * (standN n' c / 8) + standN n' c % 8 by omega] at p5
      have := (h (standN n' c / 8) (standN n' c % 8) (by omega) (by omega) (by omega)).mp ⟨p4, p5⟩
      exact absurd this.2 (stand_no b0 ou (by omega) _ _ (by omega) (by omega) (by omega) this.1)
  · rw [show 51 + standN n c = 51 + 8 * (standN n c / 8) + standN n c % 8 by omega] at q5
    have := (h (standN n c / 8) (standN n c % 8) (by omega) (by omega) (by omega)).mpr ⟨q4, q5⟩
    have := stand_at b0' oM' ou' ds' _ _ c (by omega) (by omega) (by omega) this.1 this.2
    omega
theorem G1_comes {n : Int → Int} (hN : G1 n) {c l : Int} (h1 : 0 ≤ c) (h2 : c < n 1) (h3 : 0 ≤ l) (h4 : l < n 0) (hs : standN n c < 0) (hc : n (41 + l) ≠ 12) (h8 : n (46 + l) < 8) : G1 (comesF n c l) ∧ (∀ c', standN (comesF n c l) c' = if c' = c then 8 * l + n (46 + l) else standN n c') := by
  have b0 := hN.b0
  have b1 := hN.b1
  have m := hN.oM l h3 (by omega)
  have A := fun k => comesF_at n c l k h3 (by omega) m.1
  have lo : ∀ k : Int, (k < 41 ∨ 91 ≤ k) → comesF n c l k = n k := fun k hk => by rw [A, if_neg (by omega), if_neg (by omega), if_neg (by omega)]
  have e0 := lo 0 (by omega)
  have e1 := lo 1 (by omega)
  have hm : ∀ l' : Int, 0 ≤ l' → l' < 5 → comesF n c l (46 + l') = if l' = l then n (46 + l) + 1 else n (46 + l') := fun l' g1 g2 => by
    rw [A, if_neg (by omega)]
    by_cases q : l' = l
    · rw [if_pos (by omega), if_pos q, q]
    · rw [if_neg (by omega), if_neg (by omega), if_neg q]
  have hp : ∀ l' i : Int, 0 ≤ l' → l' < 5 → 0 ≤ i → i < 8 → comesF n c l (51 + 8 * l' + i) = if l' = l ∧ i = n (46 + l) then c else n (51 + 8 * l' + i) := fun l' i g1 g2 g3 g4 => by
    rw [A, if_neg (by omega), if_neg (by omega)]
    by_cases q : l' = l ∧ i = n (46 + l)
    · rw [if_pos (by omega), if_pos q]
    · rw [if_neg (by omega), if_neg q]
  have ns := stand_no hN.b0 (fun l h1 h2 => (hN.ou l h1 h2).1) hs
  have oM' : okM (comesF n c l) := fun l' g1 g2 => by
    have := hN.oM l' g1 g2
    rw [hm l' g1 g2]
    split <;> omega
  have pl : ∀ l' i : Int, 0 ≤ l' → l' < 5 → 0 ≤ i → i < comesF n c l (46 + l') → (l' = l ∧ i = n (46 + l) ∧ comesF n c l (51 + 8 * l' + i) = c) ∨ (¬ (l' = l ∧ i = n (46 + l)) ∧ i < n (46 + l') ∧ comesF n c l (51 + 8 * l' + i) = n (51 + 8 * l' + i)) := fun l' i g1 g2 g3 g4 => by
    have o := oM' l' g1 g2
    rw [hp l' i g1 g2 g3 (by omega)]
    rw [hm l' g1 g2] at g4
    by_cases q : l' = l ∧ i = n (46 + l)
    · rw [if_pos q]; exact Or.inl ⟨q.1, q.2, rfl⟩
    · rw [if_neg q]
      refine Or.inr ⟨q, ?_, rfl⟩
      by_cases q2 : l' = l
      · rw [if_pos q2] at g4
        rw [q2]
        omega
      · rw [if_neg q2] at g4
        exact g4
  have ou' : ∀ l' : Int, comesF n c l 0 ≤ l' → l' < 5 → comesF n c l (46 + l') = 0 ∧ comesF n c l (36 + l') = 100 ∧ comesF n c l (41 + l') = 0 ∧ comesF n c l (31 + l') = 0 := fun l' g1 g2 => by
    rw [e0] at g1
    have a0 := hN.a0
    have := hN.ou l' g1 g2
    rw [hm l' (by omega) g2, if_neg (by omega), lo (36 + l') (by omega), lo (31 + l') (by omega), A (41 + l'), if_neg (by omega), if_neg (by omega), if_neg (by omega)]
    exact this
  have ds' : ∀ l1 i l2 i' : Int, 0 ≤ l1 → l1 < 5 → 0 ≤ i → i < comesF n c l (46 + l1) → 0 ≤ l2 → l2 < 5 → 0 ≤ i' → i' < comesF n c l (46 + l2) → comesF n c l (51 + 8 * l1 + i) = comesF n c l (51 + 8 * l2 + i') → l1 = l2 ∧ i = i' := fun l1 i l2 i' g1 g2 g3 g4 k1 k2 k3 k4 q => by
    rcases pl l1 i g1 g2 g3 g4 with ⟨x1, x2, x3⟩ | ⟨x1, x2, x3⟩
    · rcases pl l2 i' k1 k2 k3 k4 with ⟨y1, y2, y3⟩ | ⟨y1, y2, y3⟩
      · omega
      · rw [x3, y3] at q
        exact absurd q.symm (ns l2 i' k1 k2 k3 y2)
    · rcases pl l2 i' k1 k2 k3 k4 with ⟨y1, y2, y3⟩ | ⟨y1, y2, y3⟩
      · rw [x3, y3] at q
        exact absurd q (ns l1 i g1 g2 g3 x2)
      · rw [x3, y3] at q
        exact hN.ds l1 i l2 i' g1 g2 g3 x2 k1 k2 k3 y2 q
  have hst : ∀ c', standN (comesF n c l) c' = if c' = c then 8 * l + n (46 + l) else standN n c' := by
    intro c'
    by_cases q : c' = c
    · rw [if_pos q, q]
      refine stand_at (by rw [e0]; exact b0) oM' (fun l h1 h2 => (ou' l h1 h2).1) ds' l (n (46 + l)) c h3 (by omega) m.1 ?_ ?_
      · rw [hm l h3 (by omega), if_pos rfl]; omega
      · rw [hp l _ h3 (by omega) m.1 h8, if_pos ⟨rfl, rfl⟩]
    · rw [if_neg q]
      refine stand_eq b0 hN.oM oM' (by rw [e0]; exact b0) (fun l h1 h2 => (ou' l h1 h2).1) ds' (fun l h1 h2 => (hN.ou l h1 h2).1) hN.ds ?_
      intro l' i g1 g2 g3
      constructor
      · rintro ⟨g4, g5⟩
        rcases pl l' i g1 g2 g3 g4 with ⟨x1, x2, x3⟩ | ⟨x1, x2, x3⟩
        · exact absurd (g5.symm.trans x3) q
        · exact ⟨x2, x3.symm.trans g5⟩
      · rintro ⟨g4, g5⟩
        have o := hN.oM l' g1 g2
        have z : ¬ (l' = l ∧ i = n (46 + l)) := fun z => by
          rw [z.1, z.2] at g4
          omega
        rw [hp l' i g1 g2 g3 (by omega), if_neg z, hm l' g1 g2]
        refine ⟨?_, g5⟩
        split
        · rename_i e; rw [e] at g4; omega
        · exact g4
  refine ⟨G1.mk ?_ ?_ ?_ ?_ oM' ?_ ?_ ?_ ?_ ?_ ?_ ?_ ?_ ?_ ds' ou' ?_, hst⟩
  · rw [e0]; exact hN.a0
  · rw [e0]; exact hN.b0
  · rw [e1]; exact hN.a1
  · rw [e1]; exact hN.b1
  · intro l' i g1 g2 g3 g4
    rcases pl l' i g1 g2 g3 g4 with ⟨x1, x2, x3⟩ | ⟨x1, x2, x3⟩
    · rw [x3]; omega
    · rw [x3]; exact hN.oP l' i g1 g2 g3 x2
  · intro l g1 g2; rw [lo _ (by omega)]; exact hN.kd l g1 g2
  · intro l g1 g2; rw [lo _ (by omega)]; exact hN.ln l g1 g2
  · intro l g1 g2; rw [lo _ (by omega)]; exact hN.ht l g1 g2
  · intro l g1 g2; rw [lo _ (by omega)]; exact hN.ld l g1 g2
  · intro l g1 g2; rw [lo _ (by omega)]; exact hN.bk l g1 g2
  · intro l g1 g2; rw [lo _ (by omega)]; exact hN.mi l g1 g2
  · intro l' g1 g2
    have y := hN.cy l' g1 g2
    have b := cyc_bd n l
    rw [A]
    by_cases q : l' = l
    · rw [if_pos (by omega), q]
      rw [q] at y
      omega
    · rw [if_neg (by omega), if_neg (by omega), if_neg (by omega)]
      exact y
  · intro l' i g1 g2 g3 g4
    rw [e1]
    rcases pl l' i g1 g2 g3 g4 with ⟨x1, x2, x3⟩ | ⟨x1, x2, x3⟩
    · rw [x3]; exact h2
    · rw [x3]; exact hN.po l' i g1 g2 g3 x2
  · rw [cnt_up (n := n) (c := c) h1 (by omega) (fun c' hc' => by rw [hst, if_neg hc']) hs (by rw [hst, if_pos rfl]; omega), ← hN.sm]
    have M0 := hm 0 (by omega) (by omega)
    have M1 := hm 1 (by omega) (by omega)
    have M2 := hm 2 (by omega) (by omega)
    have M3 := hm 3 (by omega) (by omega)
    have M4 := hm 4 (by omega) (by omega)
    simp only [Int.reduceAdd] at M0 M1 M2 M3 M4
    rw [M0, M1, M2, M3, M4]
    rcases (show l = 0 ∨ l = 1 ∨ l = 2 ∨ l = 3 ∨ l = 4 by omega) with e | e | e | e | e
    all_goals
      subst e
      simp (disch := omega) only [if_pos, if_neg, if_true, Int.reduceAdd]
      omega
theorem G1_goes {n : Int → Int} (hN : G1 n) {c l : Int} (h3 : 0 ≤ l) (h4 : l < n 0) (hc : n (41 + l) ≠ 12) (h8 : 0 < n (46 + l)) (hl : n (51 + 8 * l + (n (46 + l) - 1)) = c) : G1 (goesF n l) ∧ (∀ c', standN (goesF n l) c' = if c' = c then -1 else standN n c') := by
  have b0 := hN.b0
  have b1 := hN.b1
  have m := hN.oM l h3 (by omega)
  have A := fun k => goesF_at n l k h3 (by omega)
  have lo : ∀ k : Int, (k < 41 ∨ 51 ≤ k) → goesF n l k = n k := fun k hk => by rw [A, if_neg (by omega), if_neg (by omega)]
  have e0 := lo 0 (by omega)
  have e1 := lo 1 (by omega)
  have hm : ∀ l' : Int, 0 ≤ l' → l' < 5 → goesF n l (46 + l') = if l' = l then n (46 + l) - 1 else n (46 + l') := fun l' g1 g2 => by
    rw [A, if_neg (by omega)]
    by_cases q : l' = l
    · rw [if_pos (by omega), if_pos q, q]
    · rw [if_neg (by omega), if_neg q]
  have oM' : okM (goesF n l) := fun l' g1 g2 => by
    have := hN.oM l' g1 g2
    rw [hm l' g1 g2]
    split <;> omega
  have pl : ∀ l' i : Int, 0 ≤ l' → l' < 5 → 0 ≤ i → i < goesF n l (46 + l') → i < n (46 + l') ∧ ¬ (l' = l ∧ i = n (46 + l) - 1) ∧ goesF n l (51 + 8 * l' + i) = n (51 + 8 * l' + i) := fun l' i g1 g2 g3 g4 => by
    rw [hm l' g1 g2] at g4
    refine ⟨?_, ?_, lo _ (by omega)⟩
    · by_cases q2 : l' = l
      · rw [if_pos q2] at g4
        rw [q2]
        omega
      · rw [if_neg q2] at g4
        exact g4
    · rintro ⟨z1, z2⟩
      rw [if_pos z1] at g4
      omega
  have ou' : ∀ l' : Int, goesF n l 0 ≤ l' → l' < 5 → goesF n l (46 + l') = 0 ∧ goesF n l (36 + l') = 100 ∧ goesF n l (41 + l') = 0 ∧ goesF n l (31 + l') = 0 := fun l' g1 g2 => by
    rw [e0] at g1
    have a0 := hN.a0
    have := hN.ou l' g1 g2
    rw [hm l' (by omega) g2, if_neg (by omega), lo (36 + l') (by omega), lo (31 + l') (by omega), A (41 + l'), if_neg (by omega), if_neg (by omega)]
    exact this
  have ds' : ∀ l1 i l2 i' : Int, 0 ≤ l1 → l1 < 5 → 0 ≤ i → i < goesF n l (46 + l1) → 0 ≤ l2 → l2 < 5 → 0 ≤ i' → i' < goesF n l (46 + l2) → goesF n l (51 + 8 * l1 + i) = goesF n l (51 + 8 * l2 + i') → l1 = l2 ∧ i = i' := fun l1 i l2 i' g1 g2 g3 g4 k1 k2 k3 k4 q => by
    obtain ⟨x1, -, x3⟩ := pl l1 i g1 g2 g3 g4
    obtain ⟨y1, -, y3⟩ := pl l2 i' k1 k2 k3 k4
    rw [x3, y3] at q
    exact hN.ds l1 i l2 i' g1 g2 g3 x1 k1 k2 k3 y1 q
  have hst : ∀ c', standN (goesF n l) c' = if c' = c then -1 else standN n c' := by
    intro c'
    by_cases q : c' = c
    · rw [if_pos q, q]
      rcases stand_lo (goesF n l) c (by rw [e0]; exact b0) oM' with g | ⟨q1, q2, q3, q4, q5⟩
      · exact g
      · exfalso
        rw [e0] at q3
        rw [show 51 + standN (goesF n l) c = 51 + 8 * (standN (goesF n l) c / 8) + standN (goesF n l) c % 8 by omega] at q5
        obtain ⟨x1, x2, x3⟩ := pl _ _ (by omega) (by omega) (by omega) q4
        rw [x3] at q5
        have := hN.ds _ _ l (n (46 + l) - 1) (by omega) (by omega) (by omega) x1 h3 (by omega) (by omega) (by omega) (q5.trans hl.symm)
        exact x2 this
    · rw [if_neg q]
      refine stand_eq b0 hN.oM oM' (by rw [e0]; exact b0) (fun l h1 h2 => (ou' l h1 h2).1) ds' (fun l h1 h2 => (hN.ou l h1 h2).1) hN.ds ?_
      intro l' i g1 g2 g3
      constructor
      · rintro ⟨g4, g5⟩
        obtain ⟨x1, x2, x3⟩ := pl l' i g1 g2 g3 g4
        exact ⟨x1, x3.symm.trans g5⟩
      · rintro ⟨g4, g5⟩
        have z : ¬ (l' = l ∧ i = n (46 + l) - 1) := fun z => by
          rw [z.1, z.2, hl] at g5
          exact q g5.symm
        rw [lo (51 + 8 * l' + i) (by omega), hm l' g1 g2]
        refine ⟨?_, g5⟩
        split
        · rename_i e; rw [e] at g4; omega
        · exact g4
  refine ⟨G1.mk ?_ ?_ ?_ ?_ oM' ?_ ?_ ?_ ?_ ?_ ?_ ?_ ?_ ?_ ds' ou' ?_, hst⟩
  · rw [e0]; exact hN.a0
  · rw [e0]; exact hN.b0
  · rw [e1]; exact hN.a1
  · rw [e1]; exact hN.b1
  · intro l' i g1 g2 g3 g4
    obtain ⟨x1, -, x3⟩ := pl l' i g1 g2 g3 g4
    rw [x3]; exact hN.oP l' i g1 g2 g3 x1
  · intro l g1 g2; rw [lo _ (by omega)]; exact hN.kd l g1 g2
  · intro l g1 g2; rw [lo _ (by omega)]; exact hN.ln l g1 g2
  · intro l g1 g2; rw [lo _ (by omega)]; exact hN.ht l g1 g2
  · intro l g1 g2; rw [lo _ (by omega)]; exact hN.ld l g1 g2
  · intro l g1 g2; rw [lo _ (by omega)]; exact hN.bk l g1 g2
  · intro l g1 g2; rw [lo _ (by omega)]; exact hN.mi l g1 g2
  · intro l' g1 g2
    have y := hN.cy l' g1 g2
    have b := cyc_bd n l
    rw [A]
    by_cases q : l' = l
    · rw [if_pos (by omega), q]
      rw [q] at y
      omega
    · rw [if_neg (by omega), if_neg (by omega)]
      exact y
  · intro l' i g1 g2 g3 g4
    rw [e1]
    obtain ⟨x1, -, x3⟩ := pl l' i g1 g2 g3 g4
    rw [x3]; exact hN.po l' i g1 g2 g3 x1
  · have hp := hN.oP l (n (46 + l) - 1) h3 (by omega) (by omega) (by omega)
    have sc : standN n c = 8 * l + (n (46 + l) - 1) := NI.st hN l (n (46 + l) - 1) c h3 (by omega) (by omega) (by omega) hl
    have := cnt_up (n := goesF n l) (n' := n) (c := c) (by omega) (by omega) (fun c' hc' => by rw [hst, if_neg hc']) (by rw [hst, if_pos rfl]; omega) (by omega)
    have sm := hN.sm
    have M0 := hm 0 (by omega) (by omega)
    have M1 := hm 1 (by omega) (by omega)
    have M2 := hm 2 (by omega) (by omega)
    have M3 := hm 3 (by omega) (by omega)
    have M4 := hm 4 (by omega) (by omega)
    simp only [Int.reduceAdd] at M0 M1 M2 M3 M4
    rw [M0, M1, M2, M3, M4]
    rcases (show l = 0 ∨ l = 1 ∨ l = 2 ∨ l = 3 ∨ l = 4 by omega) with e | e | e | e | e
    all_goals
      subst e
      simp (disch := omega) only [if_pos, if_neg, if_true, Int.reduceAdd]
      omega
