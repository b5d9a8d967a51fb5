/-! what is made at the start: run once on a heap without the script, then the same with it -/
def okI : Instr → Bool
  | .iload _ => true
  | .aload _ => true
  | .istore _ => true
  | .astore _ => true
  | .iinc _ _ => true
  | .sipush _ => true
  | .iadd => true
  | .dup => true
  | .goto _ => true
  | .goto_w _ => true
  | .if_icmp _ _ => true
  | .return_ => true
  | .ret _ => true
  | .new _ => true
  | .newarray .int => true
  | .anewarray _ => true
  | .getfield _ => true
  | .putfield _ => true
  | .iastore => true
  | .aastore => true
  | .invokespecial _ => true
  | .invokedynamic k => k == 1
  | _ => false
def ex_x0 (rt : Nat) (J : Nat → List ex_V → List ex_V → ex_H → Option ex_R) (C : Nat → List ex_V → ex_H → Option ex_R) : List Instr → List ex_V → List ex_V → ex_H → Option ex_R
  | [], _, _, _ => none
  | i :: is, ls, st, h => if okI i = true then (match ex_st rt ls st h i with
    | none => none
    | some (.inl (ls', st', h')) => ex_x0 rt J C is ls' st' h'
    | some (.inr (.inl (b, ls', st', h'))) => J b ls' st' h'
    | some (.inr (.inr (.inl (m, as, rest, h')))) => (match C m as h' with
      | some (vs, h'') => ex_x0 rt J C is ls (vs ++ rest) h''
      | none => none)
    | some (.inr (.inr (.inr r))) => some r) else none
def ex_r0 : Nat → Nat → Nat → Nat → List ex_V → List ex_V → ex_H → Option ex_R
  | 0, _, _, _, _, _, _ => none
  | n + 1, d, m, b, ls, st, h => ex_x0 (ex_rt m) (fun b' ls' st' h' => ex_r0 n d m b' ls' st' h')
      (fun m' as h' => ex_k (fun d' => ex_r0 n d' m' 0 (ex_fr m' as) [] h') d) (ex_bk m b) ls st h
/-- the same cells but for the first four -/
def TH (B : List ex_C) (g : ex_S) (h h' : ex_H) : Prop := h'.1.length = h.1.length ∧ 4 ≤ h.1.length ∧ (∀ a, 4 ≤ a → h'.1[a]? = h.1[a]?) ∧ (∀ a, 4 ≤ a → h'.2 a = h.2 a) ∧ (∀ a, a < 4 → h'.1[a]? = B[a]?) ∧ (∀ a, a < 4 → h'.2 a = g a) ∧ (∀ a, a < 4 → ∃ n, h.1[a]? = some (cA n))
section THs
variable {B : List ex_C} {g : ex_S} {h h' : ex_H}
theorem TH.ar (T : TH B g h h') {a : Nat} {f : Int → Int} (ha : 4 ≤ a) : TH B g (h.1, ex_ar h.2 a f) (h'.1, ex_ar h'.2 a f) := by
  obtain ⟨t1, t2, t3, t4, t5, t6, t7⟩ := T
  refine ⟨t1, t2, t3, fun b hb => ?_, t5, fun b hb => ?_, t7⟩
  · show ex_ar h'.2 a f b = ex_ar h.2 a f b
    by_cases e : b = a
    · rw [e, ex_ar_same, ex_ar_same]
    · rw [ex_ar_diff _ _ _ e, ex_ar_diff _ _ _ e, t4 b hb]
  · show ex_ar h'.2 a f b = g b
    rw [ex_ar_diff _ _ _ (by omega), t6 b hb]
theorem TH.set (T : TH B g h h') {a : Nat} {c : ex_C} (ha : 4 ≤ a) : TH B g (h.1.set a c, h.2) (h'.1.set a c, h'.2) := by
  obtain ⟨t1, t2, t3, t4, t5, t6, t7⟩ := T
  refine ⟨by rw [List.length_set, List.length_set]; exact t1, by rw [List.length_set]; exact t2, fun b hb => ?_, t4, fun b hb => ?_, t6, fun b hb => ?_⟩
  · show (h'.1.set a c)[b]? = (h.1.set a c)[b]?
    rw [List.getElem?_set, List.getElem?_set, t1, t3 b hb]
  · show (h'.1.set a c)[b]? = B[b]?
    rw [List.getElem?_set, if_neg (by omega), t5 b hb]
  · show ∃ n, (h.1.set a c)[b]? = some (cA n)
    rw [List.getElem?_set, if_neg (by omega)]; exact t7 b hb
theorem TH.app (T : TH B g h h') {c : ex_C} : TH B g (h.1 ++ [c], h.2) (h'.1 ++ [c], h'.2) := by
  obtain ⟨t1, t2, t3, t4, t5, t6, t7⟩ := T
  refine ⟨by rw [List.length_append, List.length_append, t1], by rw [List.length_append]; omega, fun b hb => ?_, t4, fun b hb => ?_, t6, fun b hb => ?_⟩
  · show (h'.1 ++ [c])[b]? = (h.1 ++ [c])[b]?
    by_cases e : b < h.1.length
    · rw [List.getElem?_append_left (by omega), List.getElem?_append_left e, t3 b hb]
    · rw [List.getElem?_append_right (by omega), List.getElem?_append_right (by omega), t1]
  · show (h'.1 ++ [c])[b]? = B[b]?
    rw [List.getElem?_append_left (by omega), t5 b hb]
  · show ∃ n, (h.1 ++ [c])[b]? = some (cA n)
    rw [List.getElem?_append_left (by omega)]; exact t7 b hb
theorem TH.new (T : TH B g h h') {c : ex_C} {f : Int → Int} : TH B g (h.1 ++ [c], ex_ar h.2 h.1.length f) (h'.1 ++ [c], ex_ar h'.2 h'.1.length f) := by
  have k := (T.app (c := c)).ar (a := h.1.length) (f := f) T.2.1
  rw [T.1]
  exact k
theorem TH.hi (T : TH B g h h') {a c : Nat} {f : List (Option (Option Nat))} (e : h.1[a]? = some (cO c f)) : 4 ≤ a ∧ h'.1[a]? = some (cO c f) := by
  have ha : 4 ≤ a := by
    by_cases z : a < 4
    · obtain ⟨n, hn⟩ := T.2.2.2.2.2.2 a z
      rw [hn] at e; cases e
    · omega
  exact ⟨ha, (T.2.2.1 a ha).trans e⟩
end THs
def ex_hp (o : (List ex_V × List ex_V × ex_H) ⊕ ((Nat × List ex_V × List ex_V × ex_H) ⊕ ((Nat × List ex_V × List ex_V × ex_H) ⊕ ex_R))) (h' : ex_H) : (List ex_V × List ex_V × ex_H) ⊕ ((Nat × List ex_V × List ex_V × ex_H) ⊕ ((Nat × List ex_V × List ex_V × ex_H) ⊕ ex_R)) := match o with
  | .inl (ls, st, _) => .inl (ls, st, h')
  | .inr (.inl (b, ls, st, _)) => .inr (.inl (b, ls, st, h'))
  | .inr (.inr (.inl (m, as, rest, _))) => .inr (.inr (.inl (m, as, rest, h')))
  | .inr (.inr (.inr (vs, _))) => .inr (.inr (.inr (vs, h')))
theorem tr_if {B : List ex_C} {g : ex_S} {h h' : ex_H} {c : Jvm.ClassFile.Cond} {a b : Int} {t : Nat} {ls st : List ex_V} {o : (List ex_V × List ex_V × ex_H) ⊕ ((Nat × List ex_V × List ex_V × ex_H) ⊕ ((Nat × List ex_V × List ex_V × ex_H) ⊕ ex_R))} (he : ex_if c a b t ls st h = some o) (T : TH B g h h') : ∃ h'', ex_if c a b t ls st h' = some (ex_hp o h'') ∧ TH B g (ex_oh o) h'' := by
  by_cases q : ex_cP c a b
  · rw [ex_if_t q] at he
    cases he
    exact ⟨h', ex_if_t q, T⟩
  · rw [ex_if_f q] at he
    cases he
    exact ⟨h', ex_if_f q, T⟩
theorem tr_st {B : List ex_C} {g : ex_S} {h h' : ex_H} {rt : Nat} {ls st : List ex_V} {i : Instr} {o : (List ex_V × List ex_V × ex_H) ⊕ ((Nat × List ex_V × List ex_V × ex_H) ⊕ ((Nat × List ex_V × List ex_V × ex_H) ⊕ ex_R))} (ho : okI i = true) (he : ex_st rt ls st h i = some o) (T : TH B g h h') : ∃ h'', ex_st rt ls st h' i = some (ex_hp o h'') ∧ TH B g (ex_oh o) h'' := by
  unfold okI at ho
  split at ho
  · dsimp only [ex_st] at he ⊢
    split at he
    · next z hq => cases he; exact ⟨h', by first | rfl | (rw [hq]; rfl), T⟩
    · cases he
  · dsimp only [ex_st] at he ⊢
    split at he
    · next z hq => cases he; exact ⟨h', by first | rfl | (rw [hq]; rfl), T⟩
    · cases he
  · dsimp only [ex_st] at he ⊢
    split at he
    · split at he
      · next z => cases he; exact ⟨h', by rw [if_pos z]; rfl, T⟩
      · cases he
    · cases he
  · dsimp only [ex_st] at he ⊢
    split at he
    · split at he
      · next z => cases he; exact ⟨h', by rw [if_pos z]; rfl, T⟩
      · cases he
    · cases he
  · dsimp only [ex_st] at he ⊢
    split at he
    · next z hq => cases he; exact ⟨h', by first | rfl | (rw [hq]; rfl), T⟩
    · cases he
  · dsimp only [ex_st] at he ⊢
    cases he; exact ⟨h', rfl, T⟩
  · dsimp only [ex_st] at he ⊢
    unfold ex_bin at he ⊢
    split at he
    · cases he; exact ⟨h', rfl, T⟩
    · cases he
  · dsimp only [ex_st] at he ⊢
    split at he
    · split at he
      · next z => cases he; exact ⟨h', by rw [if_pos z]; rfl, T⟩
      · cases he
    · cases he
  · dsimp only [ex_st] at he ⊢
    cases he; exact ⟨h', rfl, T⟩
  · dsimp only [ex_st] at he ⊢
    cases he; exact ⟨h', rfl, T⟩
  · dsimp only [ex_st] at he ⊢
    split at he
    · exact tr_if he T
    · cases he
  · dsimp only [ex_st] at he ⊢
    split at he
    · split at he
      · next z => cases he; exact ⟨h', by rw [if_pos z]; rfl, T⟩
      · cases he
    · cases he
  · dsimp only [ex_st] at he ⊢
    split at he
    · cases he; exact ⟨h', rfl, T⟩
    · cases he
  · next cc =>
    dsimp only [ex_st] at he ⊢
    split at he
    · next f hq =>
      split at he
      · next z =>
        cases he
        refine ⟨(h'.1 ++ [cO cc f], ex_ar h'.2 h'.1.length (fun _ => 0)), ?_, T.new (c := cO cc f) (f := fun _ => 0)⟩
        rw [if_pos (by rw [T.1]; exact z), T.1]; rfl
      · cases he
    · cases he
  · dsimp only [ex_st] at he ⊢
    split at he
    · next n st' =>
      split at he
      · next z =>
        cases he
        refine ⟨(h'.1 ++ [cA n.toNat], ex_ar h'.2 h'.1.length (fun _ => 0)), ?_, T.new (c := cA n.toNat) (f := fun _ => 0)⟩
        rw [if_pos (by rw [T.1]; exact z), T.1]; rfl
      · cases he
    · cases he
  · dsimp only [ex_st] at he ⊢
    split at he
    · next n st' =>
      split at he
      · next z =>
        cases he
        refine ⟨(h'.1 ++ [cQ (List.replicate n.toNat none)], h'.2), ?_, T.app (c := cQ (List.replicate n.toNat none))⟩
        rw [if_pos (by rw [T.1]; exact z), T.1]; rfl
      · cases he
    · cases he
  · dsimp only [ex_st] at he ⊢
    split at he
    · next a st' =>
      split at he
      · next c f hq =>
        obtain ⟨ha, hq'⟩ := T.hi hq
        split at he
        · next z =>
          rw [hq']
          dsimp only
          rw [if_pos z]
          split at he
          · next hf => cases he; exact ⟨h', by rw [T.2.2.2.1 a ha]; rfl, T⟩
          · next hf => cases he; exact ⟨h', rfl, T⟩
          · cases he
        · cases he
      · cases he
    · cases he
  · dsimp only [ex_st] at he ⊢
    split at he
    · next v a st' =>
      split at he
      · next c f hq =>
        obtain ⟨ha, hq'⟩ := T.hi hq
        split at he
        · next z =>
          rw [hq']
          dsimp only
          rw [if_pos z]
          split at he
          · next hf => cases he; exact ⟨_, by rw [T.2.2.2.1 a ha]; rfl, T.ar ha⟩
          · next hf => cases he; exact ⟨_, rfl, T.set ha⟩
          · cases he
        · cases he
      · cases he
    · cases he
  · dsimp only [ex_st] at he ⊢
    split at he
    · next zz i a st' =>
      split at he
      · next n hq =>
        split at he
        · next z =>
          cases he
          refine ⟨(h'.1, ex_ar h'.2 a (ex_u (h.2 a) i zz)), ?_, T.ar z.1⟩
          rw [T.2.2.1 a z.1, hq]
          dsimp only
          rw [if_pos z, T.2.2.2.1 a z.1]; rfl
        · cases he
      · cases he
    · cases he
  · dsimp only [ex_st] at he ⊢
    split at he
    · next v i a st' =>
      split at he
      · next r hq =>
        split at he
        · next z =>
          split at he
          · next q hv =>
            obtain ⟨hv1, hv2⟩ := T.hi hv
            rw [if_pos hv1] at he
            cases he
            refine ⟨(h'.1.set a (cQ (r.set i.toNat (some v))), h'.2), ?_, T.set (c := cQ (r.set i.toNat (some v))) z.1⟩
            rw [T.2.2.1 a z.1, hq]
            dsimp only
            rw [if_pos z, hv2]
            exact if_pos hv1
          · cases he
        · cases he
      · cases he
    · cases he
  · dsimp only [ex_st] at he ⊢
    unfold ex_ca at he ⊢
    split at he
    · next k own n mL r hm =>
      split at he
      · next z =>
        rw [if_neg (by decide)] at he
        split at he
        · next a as hq =>
          split at he
          · next c f hc =>
            obtain ⟨ha, hc'⟩ := T.hi hc
            split at he
            · next y =>
              cases he
              refine ⟨h', ?_, T⟩
              rw [if_pos z, if_neg (by decide), hc']
              dsimp only
              rw [if_pos y]; rfl
            · cases he
          · cases he
        · cases he
      · cases he
    · cases he
  · next k =>
    have hk : k = 1 := by simpa using ho
    subst hk
    dsimp only [ex_st] at he ⊢
    rw [if_pos rfl] at he ⊢
    split at he
    · split at he
      · next z => cases he; exact ⟨h', by rw [if_pos z]; rfl, T⟩
      · cases he
    · cases he
  · cases ho
theorem tr_xs {B : List ex_C} {g : ex_S} {rt : Nat} {J J' : Nat → List ex_V → List ex_V → ex_H → Option ex_R} {C C' : Nat → List ex_V → ex_H → Option ex_R} (hJ : ∀ b ls st h h' r, J b ls st h = some r → TH B g h h' → ∃ h'', J' b ls st h' = some (r.1, h'') ∧ TH B g r.2 h'') (hC : ∀ m as h h' r, C m as h = some r → TH B g h h' → ∃ h'', C' m as h' = some (r.1, h'') ∧ TH B g r.2 h'') :
    ∀ (is : List Instr) (ls st : List ex_V) (h h' : ex_H) (r : ex_R), ex_x0 rt J C is ls st h = some r → TH B g h h' → ∃ h'', ex_xs rt J' C' is ls st h' = some (r.1, h'') ∧ TH B g r.2 h'' := by
  intro is
  induction is with
  | nil => intro ls st h h' r e; simp [ex_x0] at e
  | cons i is ih =>
    intro ls st h h' r e T
    unfold ex_x0 at e
    by_cases ho : okI i = true
    · rw [if_pos ho] at e
      unfold ex_xs
      cases hs : ex_st rt ls st h i with
      | none => rw [hs] at e; cases e
      | some o =>
        rw [hs] at e
        obtain ⟨h2, e2, T2⟩ := tr_st ho hs T
        rw [e2]
        obtain ⟨ls', st', h3⟩ | ⟨b, ls', st', h3⟩ | ⟨m, as, rest, h3⟩ | ⟨vs, h3⟩ := o
        · exact ih _ _ _ _ _ e T2
        · exact hJ _ _ _ _ _ _ e T2
        · dsimp only [ex_hp] at e ⊢
          cases hc : C m as h3 with
          | none => rw [hc] at e; cases e
          | some v =>
            obtain ⟨vs, h4⟩ := v
            rw [hc] at e
            obtain ⟨h5, e5, T5⟩ := hC _ _ _ _ _ hc T2
            rw [e5]
            exact ih _ _ _ _ _ e T5
        · cases e
          exact ⟨h2, rfl, T2⟩
    · rw [if_neg ho] at e; cases e
theorem tr_run {B : List ex_C} {g : ex_S} : ∀ (n d m b : Nat) (ls st : List ex_V) (h h' : ex_H) (r : ex_R), ex_r0 n d m b ls st h = some r → TH B g h h' → ∃ h'', ex_run n d m b ls st h' = some (r.1, h'') ∧ TH B g r.2 h'' := by
  intro n
  induction n with
  | zero => intro d m b ls st h h' r e; simp [ex_r0] at e
  | succ n ih =>
    intro d m b ls st h h' r e T
    unfold ex_r0 at e
    unfold ex_run
    refine tr_xs (fun b ls st h h' r e T => ih d m b ls st h h' r e T) (fun m as h h' r e T => ?_) _ _ _ _ _ _ e T
    cases d with
    | zero => cases e
    | succ d => exact ih _ _ _ _ _ _ _ _ e T
