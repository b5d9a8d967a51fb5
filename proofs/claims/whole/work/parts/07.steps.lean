/-! each instruction of the abstract machine is one of the machine -/
def ex_T (A : Nat → Prop) (t nn : Nat → Nat) (g : Nat → Int → Int) (U : State) (H : Heap) : Prop :=
  (∀ k, k < 4 → va_T .int (t k) (nn k) (fun j => .int (Int32.ofInt (g k (j : Int)))) A U H) ∧ (∀ k, k < 3 → va_Z "CellarCars$Garage" (ex_sN k) "[I" (.ref (t (k + 1))) A U H) ∧ (∀ own q, q ∈ ex_lk own → q.1 = 3 → va_Nw (ex_lw q) U) ∧ va_AO "CellarCars$Desk" U
abbrev ex_ty (A1 A2 : ClassId) : List (ClassId × FieldType) := [(A1, .int), (A2, .object "CellarCars$Desk")]
def ex_X (p : Program) (s : State) (m : MethodId) (args : Array Value) (meth : Method) (c : Code) (D : va_G) (A1 A2 : ClassId) (A : Nat → Prop) (t nn : Nat → Nat) (g : Nat → Int → Int) (own kd nL : Nat) (cc : ByteArray) : Prop :=
  p.tables.exec = Jvm.exec ∧ c.code = cc ∧ c.maxLocals = nL ∧ s.vm.findClass (ex_nm own) = some m.cls ∧ (∀ w ∈ lw_gd, w.before args s = true) ∧ (kd = 2 → meth.name = "<init>") ∧ va_K D vwCl (ex_ty A1 A2) s ∧ ex_T A t nn g s s.heap ∧ (∀ q, s.heap.size ≤ q → A q)
/-- what stays of the cells -/
def ex_B (t nn : Nat → Nat) (g : Nat → Int → Int) (ad : Nat → Nat) (h : ex_H) : Prop :=
  (∀ a i, ex_r32 (h.2 a i)) ∧ (∀ k, k < 4 → ad k = t k ∧ h.1[k]? = some (.inl (nn k)) ∧ h.2 k = g k) ∧ (∀ (a : Nat) (c : ex_C), h.1[a]? = some c → ex_cv h.1.length c) ∧ 4 ≤ h.1.length
def ex_Y (s : State) (D : va_G) (A1 A2 : ClassId) (A : Nat → Prop) (t nn : Nat → Nat) (g : Nat → Int → Int) (nL : Nat) (ad : Nat → Nat) (L : Array Slot) (H : Heap) (locs : List Loc) (ls st : List ex_V) (h : ex_H) : Prop :=
  va_P D vwCl (ex_W ad A1 A2 h) H ∧ va_D A (ex_W ad A1 A2 h) ∧ va_S A s.heap H locs ∧ ex_B t nn g ad h ∧ lv_has L nL (ex_pr ad ls) ∧ ls.length ≤ nL ∧ (∀ v ∈ ls, ex_rg h.1.length v) ∧ (∀ v ∈ st, ex_rg h.1.length v)
def ex_K (p : Program) (l : Launch) (e : Env) (R : Room) (s : State) (m : MethodId) (args : Array Value) (below : List Frame) (meth : Method) (c : Code) (Q : State → Prop) (D : va_G) (A1 A2 : ClassId) (A : Nat → Prop) (t nn : Nat → Nat) (g : Nat → Int → Int) (nL cells slots : Nat) (ad : Nat → Nat) (h : ex_H) (pc : Nat) (ls' st' : List ex_V) (h' : ex_H) : Prop :=
  ∀ (ad' : Nat → Nat) (L' : Array Slot) (H' : Heap) (locs' : List Loc) (cells' slots' : Nat), ex_ext ad ad' h.1.length → cells + h'.1.length = cells' + h.1.length → slots + ex_tot h'.1 = slots' + ex_tot h.1 → ex_Y s D A1 A2 A t nn g nL ad' L' H' locs' ls' st' h' →
    W p l e R s m args below meth c H' locs' cells' slots' Q (F0 m pc L' (st'.map (ex_vv ad')))
theorem ex_any {l : List (Instr × Nat)} {raw : Instr} {len : Nat} (h : l.any (fun q => decide (q = (raw, len))) = true) : (raw, len) ∈ l := by
  obtain ⟨q, h1, h2⟩ := List.any_eq_true.mp h
  have := of_decide_eq_true h2
  rw [← this]
  exact h1
theorem ck_n_mem {k : Nat} {f : Fin 4 → Instr} {q : Instr × Nat} (h : q ∈ ck_n k f) : ∃ j : Fin 4, (j : Nat) = k ∧ q = (f j, 1) := by
  unfold ck_n at h
  split at h
  · next hk => exact ⟨⟨k, hk⟩, rfl, List.mem_singleton.mp h⟩
  · cases h
theorem ck_lk_mem {own kd : Nat} {tg : Int} {x : Nat} (h : x ∈ ck_lk own kd tg) : ∃ q ∈ ex_lk own, q.1 = kd ∧ q.2.2.2 = tg ∧ q.2.2.1 = x := by
  unfold ck_lk at h
  obtain ⟨q, h1, h2⟩ := List.mem_filterMap.mp h
  split at h2
  · next hq => exact ⟨q, h1, hq.1, hq.2, Option.some.inj h2⟩
  · cases h2
theorem ex_lk_own {own : Nat} {q : ex_L} (h : q ∈ ex_lk own) : q.2.1 = own := by
  have key : ∀ (o : Nat) (L : List ex_L), L.all (fun q => decide (q.2.1 = o)) = true → ∀ q ∈ L, q.2.1 = o := fun o L hL q hq => of_decide_eq_true (List.all_eq_true.mp hL q hq)
  unfold ex_lk at h
  split at h <;> first | exact key _ _ (by decide +kernel) q h | cases h
theorem ex_mem_set {n : Nat} {ls : List ex_V} {k : Nat} {v : ex_V} (h : ∀ x ∈ ls, ex_rg n x) (hv : ex_rg n v) : ∀ x ∈ ls.set k v, ex_rg n x := by
  intro x hx
  rcases List.mem_or_eq_of_mem_set hx with h1 | h1
  · exact h x h1
  · rw [h1]; exact hv
section XS
variable {p : Program} {l : Launch} {e : Env} {R : Room} {s : State} {m : MethodId} {args : Array Value} {below : List Frame} {meth : Method} {c : Code} {H : Heap} {locs : List Loc} {cells slots : Nat} {Q : State → Prop}
variable {D : va_G} {A1 A2 : ClassId} {A : Nat → Prop} {t nn : Nat → Nat} {g : Nat → Int → Int} {own kd nL rt : Nat} {cc : ByteArray} {pcs : List Nat} {pc len : Nat} {raw : Instr}
variable {ad : Nat → Nat} {L : Array Slot} {ls st ls' st' : List ex_V} {h h' : ex_H}
/-- the heap stays, the locals stay -/
theorem ex_Y.sk (Y : ex_Y s D A1 A2 A t nn g nL ad L H locs ls st h) (hv : ∀ v ∈ st', ex_rg h.1.length v) : ex_Y s D A1 A2 A t nn g nL ad L H locs ls st' h := by
  obtain ⟨y1, y2, y3, y4, y5, y6, y7, y8⟩ := Y
  exact ⟨y1, y2, y3, y4, y5, y6, y7, hv⟩
theorem ex_K.go {pc' : Nat} (k : ex_K p l e R s m args below meth c Q D A1 A2 A t nn g nL cells slots ad h pc' ls' st' h) (Y : ex_Y s D A1 A2 A t nn g nL ad L H locs ls' st' h) : W p l e R s m args below meth c H locs cells slots Q (F0 m pc' L (st'.map (ex_vv ad))) :=
  k ad L H locs cells slots (fun _ _ => rfl) rfl rfl Y
theorem sw_iload {k : Nat} (X : ex_X p s m args meth c D A1 A2 A t nn g own kd nL cc) (Y : ex_Y s D A1 A2 A t nn g nL ad L H locs ls st h) (hd : decode cc pc = .ok (raw, len)) (hm : (raw, len) ∈ rw_i own kd pcs pc (.iload k)) (he : ex_st rt ls st h (.iload k) = oN ls' st' h')
    (kk : ex_K p l e R s m args below meth c Q D A1 A2 A t nn g nL cells slots ad h (pc + len) ls' st' h') : W p l e R s m args below meth c H locs cells slots Q (F0 m pc L (st.map (ex_vv ad))) := by
  obtain ⟨hx, hb, -⟩ := X
  dsimp only [ex_st] at he
  split at he
  · next z hz =>
    cases he
    have Y0 := Y
    obtain ⟨y1, y2, y3, y4, y5, y6, y7, y8⟩ := Y0
    have hL := ex_has_at y5 hz rfl
    have hr := y7 _ (List.mem_of_getElem? hz)
    have Y' : ex_Y s D A1 A2 A t nn g nL ad L H locs ls (.inl z :: st) h := Y.sk (fun v hv => by rcases List.mem_cons.mp hv with rfl | h1; exact hr; exact y8 v h1)
    rcases List.mem_cons.mp hm with h1 | h1
    · cases h1
      exact lv_iload hx hb hd hL (kk.go Y')
    · obtain ⟨j, hj, h2⟩ := ck_n_mem h1
      cases h2
      exact lv_iload_n hx hb hd hj hL (kk.go Y')
  · cases he
theorem sw_aload {k : Nat} (X : ex_X p s m args meth c D A1 A2 A t nn g own kd nL cc) (Y : ex_Y s D A1 A2 A t nn g nL ad L H locs ls st h) (hd : decode cc pc = .ok (raw, len)) (hm : (raw, len) ∈ rw_i own kd pcs pc (.aload k)) (he : ex_st rt ls st h (.aload k) = oN ls' st' h')
    (kk : ex_K p l e R s m args below meth c Q D A1 A2 A t nn g nL cells slots ad h (pc + len) ls' st' h') : W p l e R s m args below meth c H locs cells slots Q (F0 m pc L (st.map (ex_vv ad))) := by
  obtain ⟨hx, hb, -⟩ := X
  dsimp only [ex_st] at he
  split at he
  · next z hz =>
    cases he
    have Y0 := Y
    obtain ⟨y1, y2, y3, y4, y5, y6, y7, y8⟩ := Y0
    have hL := ex_has_at y5 hz rfl
    have hr := y7 _ (List.mem_of_getElem? hz)
    have Y' : ex_Y s D A1 A2 A t nn g nL ad L H locs ls (.inr (.inl z) :: st) h := Y.sk (fun v hv => by rcases List.mem_cons.mp hv with rfl | h1; exact hr; exact y8 v h1)
    rcases List.mem_cons.mp hm with h1 | h1
    · cases h1
      exact lv_aload hx hb hd hL (kk.go Y')
    · obtain ⟨j, hj, h2⟩ := ck_n_mem h1
      cases h2
      exact lv_aload_n hx hb hd hj hL (kk.go Y')
  · cases he
theorem ex_Y.loc {k : Nat} {v : ex_V} {w : Value} {L' : Array Slot} (Y : ex_Y s D A1 A2 A t nn g nL ad L H locs ls st h) (hw : w = ex_vv ad v) (hL : lv_has L' nL ((k, w) :: (ex_pr ad ls).filter (fun q => !(q.1 == k) && !(q.1 + 1 == k && q.2.category == 2)))) (hr : ex_rg h.1.length v) (hv : ∀ v ∈ st', ex_rg h.1.length v) : ex_Y s D A1 A2 A t nn g nL ad L' H locs (ls.set k v) st' h := by
  obtain ⟨y1, y2, y3, y4, y5, y6, y7, y8⟩ := Y
  exact ⟨y1, y2, y3, y4, ex_has_set hw hL, by rw [List.length_set]; exact y6, ex_mem_set y7 hr, hv⟩
theorem sw_istore {k : Nat} (X : ex_X p s m args meth c D A1 A2 A t nn g own kd nL cc) (Y : ex_Y s D A1 A2 A t nn g nL ad L H locs ls st h) (hd : decode cc pc = .ok (raw, len)) (hm : (raw, len) ∈ rw_i own kd pcs pc (.istore k)) (he : ex_st rt ls st h (.istore k) = oN ls' st' h')
    (kk : ex_K p l e R s m args below meth c Q D A1 A2 A t nn g nL cells slots ad h (pc + len) ls' st' h') : W p l e R s m args below meth c H locs cells slots Q (F0 m pc L (st.map (ex_vv ad))) := by
  obtain ⟨hx, hb, -⟩ := X
  dsimp only [ex_st] at he
  cases st with
  | nil => cases he
  | cons v0 st0 =>
    obtain z | z | z := v0
    · dsimp only at he
      split at he
      · next hk =>
        cases he
        have Y0 := Y
        obtain ⟨y1, y2, y3, y4, y5, y6, y7, y8⟩ := Y0
        have hr := y8 _ List.mem_cons_self
        have hs : ∀ v ∈ st', ex_rg h.1.length v := fun v hv => y8 v (List.mem_cons_of_mem _ hv)
        rcases List.mem_cons.mp hm with h1 | h1
        · cases h1
          exact lv_istore hx hb hd y5 (by omega) rfl (fun L' hL => kk.go (Y.loc (v := .inl z) rfl hL hr hs))
        · obtain ⟨j, hj, h2⟩ := ck_n_mem h1
          cases h2
          exact lv_istore_n hx hb hd hj y5 (by omega) rfl (fun L' hL => kk.go (Y.loc (v := .inl z) rfl hL hr hs))
      · cases he
    · cases he
    · cases he
theorem sw_astore {k : Nat} (X : ex_X p s m args meth c D A1 A2 A t nn g own kd nL cc) (Y : ex_Y s D A1 A2 A t nn g nL ad L H locs ls st h) (hd : decode cc pc = .ok (raw, len)) (hm : (raw, len) ∈ rw_i own kd pcs pc (.astore k)) (he : ex_st rt ls st h (.astore k) = oN ls' st' h')
    (kk : ex_K p l e R s m args below meth c Q D A1 A2 A t nn g nL cells slots ad h (pc + len) ls' st' h') : W p l e R s m args below meth c H locs cells slots Q (F0 m pc L (st.map (ex_vv ad))) := by
  obtain ⟨hx, hb, -⟩ := X
  dsimp only [ex_st] at he
  cases st with
  | nil => cases he
  | cons v0 st0 =>
    obtain z | z | z := v0
    · cases he
    · dsimp only at he
      split at he
      · next hk =>
        cases he
        have Y0 := Y
        obtain ⟨y1, y2, y3, y4, y5, y6, y7, y8⟩ := Y0
        have hr := y8 _ List.mem_cons_self
        have hs : ∀ v ∈ st', ex_rg h.1.length v := fun v hv => y8 v (List.mem_cons_of_mem _ hv)
        rcases List.mem_cons.mp hm with h1 | h1
        · cases h1
          exact lv_astore hx hb hd y5 (by omega) rfl (fun L' hL => kk.go (Y.loc (v := .inr (.inl z)) rfl hL hr hs))
        · obtain ⟨j, hj, h2⟩ := ck_n_mem h1
          cases h2
          exact lv_astore_n hx hb hd hj y5 (by omega) rfl (fun L' hL => kk.go (Y.loc (v := .inr (.inl z)) rfl hL hr hs))
      · cases he
    · cases he
theorem sw_iinc {k : Nat} {x : Int} (X : ex_X p s m args meth c D A1 A2 A t nn g own kd nL cc) (Y : ex_Y s D A1 A2 A t nn g nL ad L H locs ls st h) (hd : decode cc pc = .ok (raw, len)) (hm : (raw, len) ∈ rw_i own kd pcs pc (.iinc k x)) (he : ex_st rt ls st h (.iinc k x) = oN ls' st' h')
    (kk : ex_K p l e R s m args below meth c Q D A1 A2 A t nn g nL cells slots ad h (pc + len) ls' st' h') : W p l e R s m args below meth c H locs cells slots Q (F0 m pc L (st.map (ex_vv ad))) := by
  obtain ⟨hx, hb, -⟩ := X
  dsimp only [ex_st] at he
  split at he
  · next z hz =>
    cases he
    have Y0 := Y
    obtain ⟨y1, y2, y3, y4, y5, y6, y7, y8⟩ := Y0
    have hlt := (List.getElem?_eq_some_iff.mp hz).1
    have hm1 : (k, Value.int (Int32.ofInt z)) ∈ ex_pr ad ls := ex_pr_mem.mpr ⟨.inl z, hz, rfl, rfl⟩
    obtain ⟨i, hi⟩ := List.getElem?_of_mem hm1
    dsimp only [rw_i] at hm
    split at hm
    · cases List.mem_singleton.mp hm
      exact lv_iinc hx hb hd y5 hi rfl (by omega) rfl (fun L' hL => kk.go (Y.loc (v := .inl (ex_wr (z + x))) (by show _ = Value.int _; rw [i_of, Int32.ofInt_add]) hL (i_wr' _) y8))
    · cases hm
  · cases he
theorem sw_push {v : Int} (X : ex_X p s m args meth c D A1 A2 A t nn g own kd nL cc) (Y : ex_Y s D A1 A2 A t nn g nL ad L H locs ls st h) (hd : decode cc pc = .ok (raw, len)) (hm : (raw, len) ∈ rw_i own kd pcs pc (.sipush v)) (he : ex_st rt ls st h (.sipush v) = oN ls' st' h')
    (kk : ex_K p l e R s m args below meth c Q D A1 A2 A t nn g nL cells slots ad h (pc + len) ls' st' h') : W p l e R s m args below meth c H locs cells slots Q (F0 m pc L (st.map (ex_vv ad))) := by
  obtain ⟨hx, hb, hml, hown, hts, -⟩ := X
  cases he
  have y8 := Y.2.2.2.2.2.2.2
  have Y' : ex_r32 v → ex_Y s D A1 A2 A t nn g nL ad L H locs ls (.inl v :: st) h := fun hr => Y.sk (fun w hw => by rcases List.mem_cons.mp hw with rfl | h1; exact hr; exact y8 w h1)
  have cst : ∀ x, x ∈ ck_lk own 4 v → (Jvm.Cond.constant (ex_nm own) x (Int32.ofInt v)).before args s = true := by
    intro x hx
    obtain ⟨⟨q1, q2, q3, q4⟩, h1, h2, h3, h4⟩ := ck_lk_mem hx
    have ho := ex_lk_own h1
    dsimp only at h2 h3 h4 ho
    subst h2; subst h3; subst h4; subst ho
    exact hts _ (lw_lk h1 (fun q => by cases q))
  dsimp only [rw_i] at hm
  rcases List.mem_append.mp hm with h1 | h1
  · split at h1
    · next hv =>
      cases List.mem_singleton.mp h1
      exact lv_iconst hx hb hd rfl (kk.go (Y' (by unfold ex_r32; omega)))
    · cases h1
  · rcases List.mem_append.mp h1 with h1 | h1
    · split at h1
      · next hv =>
        cases List.mem_singleton.mp h1
        have hr : ex_r32 v := by unfold ex_r32; omega
        exact lv_bipush hx hb hd (v := Int32.ofInt v) (by rw [← Int32.toInt_inj, Int8.toInt_toInt32, i_to hr]; exact Int8.toInt_ofInt_of_le (by omega) (by omega)) (kk.go (Y' hr))
      · cases h1
    · rcases List.mem_append.mp h1 with h1 | h1
      · split at h1
        · next hv =>
          cases List.mem_singleton.mp h1
          have hr : ex_r32 v := by unfold ex_r32; omega
          exact lv_sipush hx hb hd (v := Int32.ofInt v) (by rw [← Int32.toInt_inj, Int16.toInt_toInt32, i_to hr]; exact Int16.toInt_ofInt_of_le (by omega) (by omega)) (kk.go (Y' hr))
        · cases h1
      · split at h1
        · next hv =>
          have hr : ex_r32 v := hv
          rcases List.mem_append.mp h1 with h1 | h1
          · obtain ⟨x, hx1, hx2⟩ := List.mem_map.mp h1
            cases hx2
            exact lv_ldc hx hb hown (cst x hx1) hd (kk.go (Y' hr))
          · obtain ⟨x, hx1, hx2⟩ := List.mem_map.mp h1
            cases hx2
            exact lv_ldcw hx hb hown (cst x hx1) hd (kk.go (Y' hr))
        · cases h1
/-- the top of the stack: its words' ranges -/
theorem ex_top2 {a b : ex_V} {n : Nat} {st0 : List ex_V} (y : ∀ v ∈ b :: a :: st0, ex_rg n v) : ex_rg n b ∧ ex_rg n a ∧ ∀ v ∈ st0, ex_rg n v :=
  ⟨y b List.mem_cons_self, y a (List.mem_cons_of_mem _ List.mem_cons_self), fun v hv => y v (List.mem_cons_of_mem _ (List.mem_cons_of_mem _ hv))⟩
theorem ex_cons1 {n : Nat} {v : ex_V} {st0 : List ex_V} (h1 : ex_rg n v) (h2 : ∀ w ∈ st0, ex_rg n w) : ∀ w ∈ v :: st0, ex_rg n w := fun w hw => by
  rcases List.mem_cons.mp hw with rfl | h; exact h1; exact h2 w h
theorem sw_bin {f : Int → Int → Int} {F : Int32 → Int32 → Int32} (Y : ex_Y s D A1 A2 A t nn g nL ad L H locs ls st h) (he : ex_bin f ls st h = oN ls' st' h') (hf : ∀ a b : Int, Int32.ofInt (f a b) = F (Int32.ofInt a) (Int32.ofInt b)) (hr : ∀ a b : Int, ex_r32 (f a b))
    (row : ∀ {x y : Int32} {rest : List Value}, W p l e R s m args below meth c H locs cells slots Q (F0 m (pc + 1) L (.int (F x y) :: rest)) → W p l e R s m args below meth c H locs cells slots Q (F0 m pc L (.int y :: .int x :: rest)))
    (kk : ex_K p l e R s m args below meth c Q D A1 A2 A t nn g nL cells slots ad h (pc + 1) ls' st' h') : W p l e R s m args below meth c H locs cells slots Q (F0 m pc L (st.map (ex_vv ad))) := by
  unfold ex_bin at he
  split at he
  · next b a st0 =>
    cases he
    obtain ⟨-, -, y⟩ := ex_top2 Y.2.2.2.2.2.2.2
    refine row (x := Int32.ofInt a) (y := Int32.ofInt b) ?_
    rw [← hf]
    exact kk.go (Y.sk (ex_cons1 (hr a b) y))
  · cases he
theorem ex_top1 {a : ex_V} {n : Nat} {st0 : List ex_V} (y : ∀ v ∈ a :: st0, ex_rg n v) : ex_rg n a ∧ ∀ v ∈ st0, ex_rg n v := ⟨y a List.mem_cons_self, fun v hv => y v (List.mem_cons_of_mem _ hv)⟩
theorem sw_div {F : Int32 → Int32 → Int32} {f : Int → Int → Int} (he : (match st with
      | .inl b :: .inl a :: st' => if b = 0 then none else oN ls (.inl (f a b) :: st') h
      | _ => none) = oN ls' st' h') (Y : ex_Y s D A1 A2 A t nn g nL ad L H locs ls st h) (hf : ∀ a b : Int, Int32.ofInt (f a b) = F (Int32.ofInt a) (Int32.ofInt b)) (hr : ∀ a b : Int, ex_r32 (f a b))
    (row : ∀ {x y : Int32} {rest : List Value}, ¬ y = 0 → W p l e R s m args below meth c H locs cells slots Q (F0 m (pc + 1) L (.int (F x y) :: rest)) → W p l e R s m args below meth c H locs cells slots Q (F0 m pc L (.int y :: .int x :: rest)))
    (kk : ex_K p l e R s m args below meth c Q D A1 A2 A t nn g nL cells slots ad h (pc + 1) ls' st' h') : W p l e R s m args below meth c H locs cells slots Q (F0 m pc L (st.map (ex_vv ad))) := by
  rcases st with _ | ⟨b | b | b, _ | ⟨a | a | a, st0⟩⟩
  · cases he
  · cases he
  · dsimp only at he
    by_cases hb : b = 0
    · rw [if_pos hb] at he; cases he
    · rw [if_neg hb] at he
      cases he
      obtain ⟨y1, -, y⟩ := ex_top2 Y.2.2.2.2.2.2.2
      refine row (x := Int32.ofInt a) (y := Int32.ofInt b) (fun q => hb ((i_eq0 y1).mp q)) ?_
      rw [← hf]
      exact kk.go (Y.sk (ex_cons1 (hr a b) y))
  all_goals cases he
theorem sw_i2l (X : ex_X p s m args meth c D A1 A2 A t nn g own kd nL cc) (Y : ex_Y s D A1 A2 A t nn g nL ad L H locs ls st h) (hd : decode cc pc = .ok (.i2l, 1)) (he : ex_st rt ls st h .i2l = oN ls' st' h')
    (kk : ex_K p l e R s m args below meth c Q D A1 A2 A t nn g nL cells slots ad h (pc + 1) ls' st' h') : W p l e R s m args below meth c H locs cells slots Q (F0 m pc L (st.map (ex_vv ad))) := by
  dsimp only [ex_st] at he
  split at he
  · next a st0 =>
    cases he
    obtain ⟨y1, y⟩ := ex_top1 Y.2.2.2.2.2.2.2
    have hr : ex_r32 a := y1
    have h64 : ex_r64 a := by unfold ex_r32 at hr; unfold ex_r64; omega
    refine lv_i2l X.1 X.2.1 hd (v := Int64.ofInt a) ?_ (kk.go (Y.sk (ex_cons1 h64 y)))
    rw [← Int64.toInt_inj, Int32.toInt_toInt64, i_to hr]
    unfold ex_r64 at h64
    exact (Int64.toInt_ofInt_of_le (by omega) (by omega)).symm
  · cases he
theorem l_r (x : Int64) : ex_r64 x.toInt := by
  have h1 := Int64.toInt_lt x
  have h2 := Int64.le_toInt x
  unfold ex_r64
  omega
theorem l_to {z : Int} (h : ex_r64 z) : (Int64.ofInt z).toInt = z := by
  unfold ex_r64 at h
  exact Int64.toInt_ofInt_of_le (by omega) (by omega)
theorem sw_ladd (X : ex_X p s m args meth c D A1 A2 A t nn g own kd nL cc) (Y : ex_Y s D A1 A2 A t nn g nL ad L H locs ls st h) (hd : decode cc pc = .ok (.ladd, 1)) (he : ex_st rt ls st h .ladd = oN ls' st' h')
    (kk : ex_K p l e R s m args below meth c Q D A1 A2 A t nn g nL cells slots ad h (pc + 1) ls' st' h') : W p l e R s m args below meth c H locs cells slots Q (F0 m pc L (st.map (ex_vv ad))) := by
  dsimp only [ex_st] at he
  split at he
  · next b a st0 =>
    cases he
    obtain ⟨y1, y2, y⟩ := ex_top2 Y.2.2.2.2.2.2.2
    refine lv_ladd X.1 X.2.1 (x := Int64.ofInt a) (y := Int64.ofInt b) hd ?_
    have e1 : Int64.ofInt a + Int64.ofInt b = Int64.ofInt (ex_w64 (a + b)) := by unfold ex_w64; rw [Int64.ofInt_toInt, Int64.ofInt_add]
    rw [e1]
    exact kk.go (Y.sk (st' := .inr (.inr (ex_w64 (a + b))) :: st0) (ex_cons1 (l_r _) y))
  · cases he
theorem sw_lcmp (X : ex_X p s m args meth c D A1 A2 A t nn g own kd nL cc) (Y : ex_Y s D A1 A2 A t nn g nL ad L H locs ls st h) (hd : decode cc pc = .ok (.lcmp, 1)) (he : ex_st rt ls st h .lcmp = oN ls' st' h')
    (kk : ex_K p l e R s m args below meth c Q D A1 A2 A t nn g nL cells slots ad h (pc + 1) ls' st' h') : W p l e R s m args below meth c H locs cells slots Q (F0 m pc L (st.map (ex_vv ad))) := by
  dsimp only [ex_st] at he
  split at he
  · next b a st0 =>
    cases he
    obtain ⟨y1, y2, y⟩ := ex_top2 Y.2.2.2.2.2.2.2
    refine W.lcmp X.1 X.2.1 (x := Int64.ofInt a) (y := Int64.ofInt b) hd ?_
    have e1 : lg_cmp (Int64.ofInt a) (Int64.ofInt b) = Int32.ofInt (if b < a then 1 else if a = b then 0 else -1) := by
      unfold lg_cmp
      simp only [gt_iff_lt, Int64.lt_iff_toInt_lt, ← Int64.toInt_inj, l_to y1, l_to y2]
      split
      · rfl
      · split <;> rfl
    rw [e1]
    exact kk.go (Y.sk (st' := .inl (if b < a then 1 else if a = b then 0 else -1) :: st0) (ex_cons1 (by show ex_r32 _; unfold ex_r32; split; omega; split <;> omega) y))
  · cases he
theorem sw_dup (X : ex_X p s m args meth c D A1 A2 A t nn g own kd nL cc) (Y : ex_Y s D A1 A2 A t nn g nL ad L H locs ls st h) (hd : decode cc pc = .ok (.dup, 1)) (he : ex_st rt ls st h .dup = oN ls' st' h')
    (kk : ex_K p l e R s m args below meth c Q D A1 A2 A t nn g nL cells slots ad h (pc + 1) ls' st' h') : W p l e R s m args below meth c H locs cells slots Q (F0 m pc L (st.map (ex_vv ad))) := by
  dsimp only [ex_st] at he
  split at he
  · next v st0 =>
    split at he
    · next hv =>
      cases he
      obtain ⟨y1, y⟩ := ex_top1 Y.2.2.2.2.2.2.2
      exact lv_dup X.1 X.2.1 hd (ex_cat hv) (kk.go (Y.sk (ex_cons1 y1 (ex_cons1 y1 y))))
    · cases he
  · cases he
theorem sw_dup2 (X : ex_X p s m args meth c D A1 A2 A t nn g own kd nL cc) (Y : ex_Y s D A1 A2 A t nn g nL ad L H locs ls st h) (hd : decode cc pc = .ok (.dup2, 1)) (he : ex_st rt ls st h .dup2 = oN ls' st' h')
    (kk : ex_K p l e R s m args below meth c Q D A1 A2 A t nn g nL cells slots ad h (pc + 1) ls' st' h') : W p l e R s m args below meth c H locs cells slots Q (F0 m pc L (st.map (ex_vv ad))) := by
  dsimp only [ex_st] at he
  split at he
  · next v w st0 =>
    split at he
    · next hv =>
      cases he
      obtain ⟨y1, y2, y⟩ := ex_top2 Y.2.2.2.2.2.2.2
      exact lv_dup2_11 X.1 X.2.1 hd (ex_cat hv.1) (ex_cat hv.2) (kk.go (Y.sk (ex_cons1 y1 (ex_cons1 y2 (ex_cons1 y1 (ex_cons1 y2 y))))))
    · cases he
  · cases he
theorem sw_pop (X : ex_X p s m args meth c D A1 A2 A t nn g own kd nL cc) (Y : ex_Y s D A1 A2 A t nn g nL ad L H locs ls st h) (hd : decode cc pc = .ok (.pop, 1)) (he : ex_st rt ls st h .pop = oN ls' st' h')
    (kk : ex_K p l e R s m args below meth c Q D A1 A2 A t nn g nL cells slots ad h (pc + 1) ls' st' h') : W p l e R s m args below meth c H locs cells slots Q (F0 m pc L (st.map (ex_vv ad))) := by
  dsimp only [ex_st] at he
  split at he
  · next v st0 =>
    split at he
    · next hv =>
      cases he
      obtain ⟨y1, y⟩ := ex_top1 Y.2.2.2.2.2.2.2
      exact lv_pop X.1 X.2.1 hd (ex_cat hv) (kk.go (Y.sk y))
    · cases he
  · cases he
theorem ex_W_arr {a n : Nat} (ha : 4 ≤ a) (hc : h.1[a]? = some (.inl n)) : (ex_W ad A1 A2 h)[a - 4]? = some (ad a, .inl (A1, n, .inl (fun j => Int32.ofInt (h.2 a (j : Int))))) := by
  rw [ex_W_at _ _ _ _ ha, hc]; rfl
theorem ex_W_qar {a : Nat} {r : List (Option Nat)} (ha : 4 ≤ a) (hc : h.1[a]? = some (.inr (.inl r))) : (ex_W ad A1 A2 h)[a - 4]? = some (ad a, .inl (A2, r.length, .inr (.inr (.inr (.inr (fun j => (r.getD j none).map ad)))))) := by
  rw [ex_W_at _ _ _ _ ha, hc]; rfl
theorem ex_W_obj {a k : Nat} {f : List (Option (Option Nat))} (ha : 4 ≤ a) (hc : h.1[a]? = some (.inr (.inr (k, f)))) : (ex_W ad A1 A2 h)[a - 4]? = some (ad a, .inr (k, f.mapIdx (ex_fv ad (h.2 a)))) := by
  rw [ex_W_at _ _ _ _ ha, hc]; rfl
theorem sw_alen (X : ex_X p s m args meth c D A1 A2 A t nn g own kd nL cc) (Y : ex_Y s D A1 A2 A t nn g nL ad L H locs ls st h) (hd : decode cc pc = .ok (.arraylength, 1)) (he : ex_st rt ls st h .arraylength = oN ls' st' h')
    (kk : ex_K p l e R s m args below meth c Q D A1 A2 A t nn g nL cells slots ad h (pc + 1) ls' st' h') : W p l e R s m args below meth c H locs cells slots Q (F0 m pc L (st.map (ex_vv ad))) := by
  obtain ⟨hx, hb, -, -, -, -, hK, hT, -⟩ := X
  dsimp only [ex_st] at he
  split at he
  · next a st0 =>
    split at he
    · next n hn =>
      cases he
      have Y0 := Y
      obtain ⟨hP, hD, hS, hB, -, -, -, y8⟩ := Y0
      obtain ⟨y1, y⟩ := ex_top1 y8
      have Y' := Y.sk (st' := .inl (ex_wr n) :: st0) (ex_cons1 (i_wr' _) y)
      have e1 : Int32.ofNat n = Int32.ofInt (ex_wr n) := by rw [i_of, i_nat]
      by_cases ha : 4 ≤ a
      · exact va_alen hx hb hK hP (a - 4) 0 (ex_W_arr ha hn) rfl e1 hd (kk.go Y')
      · obtain ⟨b1, b2, b3⟩ := hB.2.1 a (by omega)
        rw [b2] at hn
        cases hn
        show W p l e R s m args below meth c H locs cells slots Q (F0 m pc L (.ref (ad a) :: st0.map (ex_vv ad)))
        rw [b1]
        exact va_tlen hx hb (hT.1 a (by omega)) hS e1 hd (kk.go Y')
    · cases he
  · cases he
theorem sw_iald (X : ex_X p s m args meth c D A1 A2 A t nn g own kd nL cc) (Y : ex_Y s D A1 A2 A t nn g nL ad L H locs ls st h) (hd : decode cc pc = .ok (.iaload, 1)) (he : ex_st rt ls st h .iaload = oN ls' st' h')
    (kk : ex_K p l e R s m args below meth c Q D A1 A2 A t nn g nL cells slots ad h (pc + 1) ls' st' h') : W p l e R s m args below meth c H locs cells slots Q (F0 m pc L (st.map (ex_vv ad))) := by
  obtain ⟨hx, hb, -, -, -, -, hK, hT, -⟩ := X
  dsimp only [ex_st] at he
  split at he
  · next i a st0 =>
    split at he
    · next n hn =>
      split at he
      · next hi =>
        cases he
        have Y0 := Y
        obtain ⟨hP, hD, hS, hB, -, -, -, y8⟩ := Y0
        obtain ⟨y1, y2, y⟩ := ex_top2 y8
        have hr : ex_r32 i := y1
        have Y' := Y.sk (st' := .inl (h.2 a i) :: st0) (ex_cons1 (hB.1 a i) y)
        have hz : ((i.toNat : Nat) : Int) = i := Int.toNat_of_nonneg hi.1
        by_cases ha : 4 ≤ a
        · refine va_iald hx hb hK hP (a - 4) 0 (ex_W_arr ha hn) rfl (i_in hr hi.1 hi.2) hd ?_
          rw [i_cl hr hi.1, hz]
          exact kk.go Y'
        · obtain ⟨b1, b2, b3⟩ := hB.2.1 a (by omega)
          rw [b2] at hn
          cases hn
          show W p l e R s m args below meth c H locs cells slots Q (F0 m pc L (.int (Int32.ofInt i) :: .ref (ad a) :: st0.map (ex_vv ad)))
          rw [b1]
          refine va_ti hx hb (hT.1 a (by omega)) hS (i_in hr hi.1 hi.2) (v := .int (Int32.ofInt (h.2 a i))) ?_ hd (kk.go Y')
          rw [i_cl hr hi.1, hz, b3]
      · cases he
    · cases he
  · cases he
theorem ex_ar_self (σ : ex_S) (a : Nat) (f : Int → Int) : ex_ar σ a f a = f := by unfold ex_ar; rw [if_pos rfl]
theorem ex_ar_ne (σ : ex_S) {a b : Nat} (f : Int → Int) (hb : b ≠ a) : ex_ar σ a f b = σ b := by unfold ex_ar; rw [if_neg hb]
theorem ex_B.ar {a : Nat} {f : Int → Int} (hB : ex_B t nn g ad h) (ha : 4 ≤ a) (hf : ∀ i, ex_r32 (f i)) : ex_B t nn g ad (h.1, ex_ar h.2 a f) := by
  obtain ⟨b1, b2, b3, b4⟩ := hB
  refine ⟨fun b i => ?_, fun k hk => ?_, b3, b4⟩
  · show ex_r32 (ex_ar h.2 a f b i)
    by_cases hb : b = a
    · rw [hb, ex_ar_self]; exact hf i
    · rw [ex_ar_ne _ _ hb]; exact b1 b i
  · obtain ⟨c1, c2, c3⟩ := b2 k hk
    exact ⟨c1, c2, by show ex_ar h.2 a f k = g k; rw [ex_ar_ne _ _ (by omega)]; exact c3⟩
theorem ex_u_r {f : Int → Int} {i z : Int} (hf : ∀ j, ex_r32 (f j)) (hz : ex_r32 z) (j : Int) : ex_r32 (ex_u f i z j) := by
  unfold ex_u
  split
  · exact hz
  · exact hf j
/-- a cell of ints is written -/
theorem ex_Y.ar {a : Nat} {f : Int → Int} {H' : Heap} {locs' : List Loc} {E : va_E} (Y : ex_Y s D A1 A2 A t nn g nL ad L H locs ls st h) (ha : 4 ≤ a) {cx : ex_C} (hc : h.1[a]? = some cx) (hf : ∀ i, ex_r32 (f i)) (hE : E = ex_ce ad A1 A2 f cx) (hP : va_P D vwCl ((ex_W ad A1 A2 h).set (a - 4) (ad a, E)) H') (hD : va_D A ((ex_W ad A1 A2 h).set (a - 4) (ad a, E))) (hS : va_S A s.heap H' locs') (hv : ∀ v ∈ st', ex_rg h.1.length v) : ex_Y s D A1 A2 A t nn g nL ad L H' locs' ls st' (h.1, ex_ar h.2 a f) := by
  obtain ⟨y1, y2, y3, y4, y5, y6, y7, y8⟩ := Y
  have e : (ex_W ad A1 A2 h).set (a - 4) (ad a, E) = ex_W ad A1 A2 (h.1, ex_ar h.2 a f) := ex_W_set (h := h) (h' := (h.1, ex_ar h.2 a f)) (E := (ad a, E)) ha (c := cx) hc (fun _ _ => rfl) (fun b hb => ex_ar_ne _ _ hb) (by show _ = (ad a, ex_ce ad A1 A2 (ex_ar h.2 a f a) cx); rw [ex_ar_self, hE]) (List.getElem?_eq_some_iff.mp hc).1
  rw [e] at hP hD
  exact ⟨hP, hD, hS, y4.ar ha hf, y5, y6, y7, hv⟩
theorem sw_iast (X : ex_X p s m args meth c D A1 A2 A t nn g own kd nL cc) (Y : ex_Y s D A1 A2 A t nn g nL ad L H locs ls st h) (hd : decode cc pc = .ok (.iastore, 1)) (he : ex_st rt ls st h .iastore = oN ls' st' h')
    (kk : ex_K p l e R s m args below meth c Q D A1 A2 A t nn g nL cells slots ad h (pc + 1) ls' st' h') : W p l e R s m args below meth c H locs cells slots Q (F0 m pc L (st.map (ex_vv ad))) := by
  obtain ⟨hx, hb, -, -, -, -, hK, hT, -⟩ := X
  dsimp only [ex_st] at he
  split at he
  · next z i a st0 =>
    split at he
    · next n hn =>
      split at he
      · next hi =>
        cases he
        have Y0 := Y
        obtain ⟨hP, hD, hS, hB, -, -, -, y8⟩ := Y0
        obtain ⟨y1, y2, y⟩ := ex_top2 y8
        obtain ⟨y3, y⟩ := ex_top1 y
        have hr : ex_r32 i := y2
        have hz : ((i.toNat : Nat) : Int) = i := Int.toNat_of_nonneg hi.2.1
        refine va_iast hx hb hK hP hD hS (a - 4) 0 (ex_W_arr hi.1 hn) rfl (i_in hr hi.2.1 hi.2.2) hd (fun H1 locs1 hP1 hD1 hS1 => ?_)
        refine kk ad L H1 locs1 cells slots (fun _ _ => rfl) rfl rfl (Y.ar hi.1 hn (ex_u_r (hB.1 a) y1) ?_ hP1 hD1 hS1 y)
        refine congrArg (fun F => (Sum.inl (A1, n, Sum.inl F) : va_E)) (funext fun j => ?_)
        rw [i_cl hr hi.2.1]
        unfold upd ex_u
        by_cases hj : j = i.toNat
        · rw [if_pos hj, if_pos (by rw [hj]; exact hz)]
        · rw [if_neg hj, if_neg (by omega)]
      · cases he
    · cases he
  · cases he
theorem sw_aald (X : ex_X p s m args meth c D A1 A2 A t nn g own kd nL cc) (Y : ex_Y s D A1 A2 A t nn g nL ad L H locs ls st h) (hd : decode cc pc = .ok (.aaload, 1)) (he : ex_st rt ls st h .aaload = oN ls' st' h')
    (kk : ex_K p l e R s m args below meth c Q D A1 A2 A t nn g nL cells slots ad h (pc + 1) ls' st' h') : W p l e R s m args below meth c H locs cells slots Q (F0 m pc L (st.map (ex_vv ad))) := by
  obtain ⟨hx, hb, -, -, -, -, hK, hT, -⟩ := X
  dsimp only [ex_st] at he
  split at he
  · next i a st0 =>
    split at he
    · next r hn =>
      split at he
      · next hi =>
        split at he
        · next x hx1 =>
          cases he
          have Y0 := Y
          obtain ⟨hP, hD, hS, hB, -, -, -, y8⟩ := Y0
          obtain ⟨y1, y2, y⟩ := ex_top2 y8
          have hr : ex_r32 i := y1
          refine va_aldq hx hb hK hP (a - 4) 1 (ex_W_qar hi.1 hn) rfl (i_in hr hi.2.1 hi.2.2) hd ?_
          rw [i_cl hr hi.2.1, List.getD_eq_getElem?_getD, hx1]
          exact kk.go (Y.sk (st' := .inr (.inl x) :: st0) (ex_cons1 (hB.2.2.1 a _ hn i.toNat x hx1) y))
        · cases he
      · cases he
    · cases he
  · cases he
/-- a cell's references are written -/
theorem ex_Y.sh {a : Nat} {H' : Heap} {locs' : List Loc} {E : va_E} {cx cy : ex_C} (Y : ex_Y s D A1 A2 A t nn g nL ad L H locs ls st h) (ha : 4 ≤ a) (hc : h.1[a]? = some cx) (hcv : ex_cv h.1.length cy) (hE : E = ex_ce ad A1 A2 (h.2 a) cy) (hP : va_P D vwCl ((ex_W ad A1 A2 h).set (a - 4) (ad a, E)) H') (hD : va_D A ((ex_W ad A1 A2 h).set (a - 4) (ad a, E))) (hS : va_S A s.heap H' locs') (hv : ∀ v ∈ st', ex_rg h.1.length v) : ex_Y s D A1 A2 A t nn g nL ad L H' locs' ls st' (h.1.set a cy, h.2) := by
  obtain ⟨y1, y2, y3, ⟨b1, b2, b3, b4⟩, y5, y6, y7, y8⟩ := Y
  have hl := (List.getElem?_eq_some_iff.mp hc).1
  have e : (ex_W ad A1 A2 h).set (a - 4) (ad a, E) = ex_W ad A1 A2 (h.1.set a cy, h.2) := ex_W_set (h := h) (h' := (h.1.set a cy, h.2)) (E := (ad a, E)) ha (c := cy) (List.getElem?_set_self hl) (fun b hb => List.getElem?_set_ne (Ne.symm hb)) (fun b hb => rfl) (by rw [hE]) hl
  rw [e] at hP hD
  have hlen : (h.1.set a cy).length = h.1.length := List.length_set
  refine ⟨hP, hD, hS, ⟨b1, fun k hk => ?_, fun b cz hz => ?_, by show 4 ≤ (h.1.set a cy).length; rw [hlen]; exact b4⟩, y5, y6, ?_, ?_⟩
  · obtain ⟨c1, c2, c3⟩ := b2 k hk
    exact ⟨c1, by show (h.1.set a cy)[k]? = _; rw [List.getElem?_set_ne (by omega)]; exact c2, c3⟩
  · show ex_cv (h.1.set a cy).length cz
    rw [hlen]
    by_cases hb : b = a
    · subst hb
      have hz' : (h.1.set b cy)[b]? = some cz := hz
      rw [List.getElem?_set_self hl] at hz'
      cases hz'
      exact hcv
    · have hz' : (h.1.set a cy)[b]? = some cz := hz
      rw [List.getElem?_set_ne (Ne.symm hb)] at hz'
      exact b3 b cz hz'
  · show ∀ v ∈ ls, ex_rg (h.1.set a cy).length v
    rw [hlen]; exact y7
  · show ∀ v ∈ st', ex_rg (h.1.set a cy).length v
    rw [hlen]; exact hv
theorem sw_aast (X : ex_X p s m args meth c D A1 A2 A t nn g own kd nL cc) (Y : ex_Y s D A1 A2 A t nn g nL ad L H locs ls st h) (hd : decode cc pc = .ok (.aastore, 1)) (he : ex_st rt ls st h .aastore = oN ls' st' h')
    (kk : ex_K p l e R s m args below meth c Q D A1 A2 A t nn g nL cells slots ad h (pc + 1) ls' st' h') : W p l e R s m args below meth c H locs cells slots Q (F0 m pc L (st.map (ex_vv ad))) := by
  obtain ⟨hx, hb, -, -, -, -, hK, hT, -⟩ := X
  dsimp only [ex_st] at he
  split at he
  · next v i a st0 =>
    split at he
    · next r hn =>
      split at he
      · next hi =>
        split at he
        · next f hf =>
          split at he
          · next hv4 =>
            cases he
            have Y0 := Y
            obtain ⟨hP, hD, hS, hB, -, -, -, y8⟩ := Y0
            obtain ⟨y1, y2, y⟩ := ex_top2 y8
            obtain ⟨y3, y⟩ := ex_top1 y
            have hr : ex_r32 i := y2
            refine va_astq hx hb hK hP hD hS (a - 4) 1 (v - 4) 1 (r := (RX1, TX1, 13)) (ex_W_qar hi.1 hn) rfl (ex_W_obj hv4 hf) rfl (i_in hr hi.2.1 hi.2.2) hd (fun H1 locs1 hP1 hD1 hS1 => ?_)
            have hsz : ex_sz (.inr (.inl (r.set i.toNat (some v)))) = ex_sz (.inr (.inl r)) := by show (r.set i.toNat (some v)).length = r.length; exact List.length_set
            refine kk ad L H1 locs1 cells slots (fun _ _ => rfl) (by show cells + (h.1.set a _).length = _; rw [List.length_set]) (by show slots + ex_tot (h.1.set a _) = _; rw [ex_tot_set _ _ _ _ hn hsz]) (Y.sh hi.1 hn ?_ ?_ hP1 hD1 hS1 y)
            · intro k b hb
              by_cases hk : k = i.toNat
              · subst hk
                rw [List.getElem?_set_self (by omega)] at hb
                cases hb
                exact y1
              · rw [List.getElem?_set_ne (Ne.symm hk)] at hb
                exact hB.2.2.1 a _ hn k b hb
            · show (Sum.inl (A2, r.length, _) : va_E) = .inl (A2, (r.set i.toNat (some v)).length, _)
              rw [List.length_set]
              refine congrArg (fun F => (Sum.inl (A2, r.length, Sum.inr (Sum.inr (Sum.inr (Sum.inr F)))) : va_E)) (funext fun j => ?_)
              rw [i_cl hr hi.2.1]
              unfold va_up
              simp only [List.getD_eq_getElem?_getD]
              by_cases hj : j = i.toNat
              · subst hj
                rw [if_pos rfl, List.getElem?_set_self (by omega)]
                rfl
              · rw [if_neg hj, List.getElem?_set_ne (Ne.symm hj)]
          · cases he
        · cases he
      · cases he
    · cases he
  · cases he
/-- a new cell -/
theorem ex_Y.new {q : Nat} {H' : Heap} {E : va_E} {cx : ex_C} {σ : ex_S} (Y : ex_Y s D A1 A2 A t nn g nL ad L H locs ls st h) (hσ : ∀ b, b < h.1.length → σ b = h.2 b) (hσr : ∀ b i, ex_r32 (σ b i)) (hcv : ex_cv (h.1.length + 1) cx) (hE : ∀ ad' : Nat → Nat, E = ex_ce ad' A1 A2 (σ h.1.length) cx) (hP : va_P D vwCl (ex_W ad A1 A2 h ++ [(q, E)]) H') (hD : va_D A (ex_W ad A1 A2 h ++ [(q, E)])) (hS : va_S A s.heap H' locs) (hv : ∀ v ∈ st', ex_rg h.1.length v) :
    ex_ext ad (fun k => if k = h.1.length then q else ad k) h.1.length ∧ ex_Y s D A1 A2 A t nn g nL (fun k => if k = h.1.length then q else ad k) L H' locs ls (.inr (.inl h.1.length) :: st') (h.1 ++ [cx], σ) := by
  obtain ⟨y1, y2, y3, ⟨b1, b2, b3, b4⟩, y5, y6, y7, y8⟩ := Y
  have hext : ex_ext ad (fun k => if k = h.1.length then q else ad k) h.1.length := fun k hk => by show (if k = _ then _ else _) = _; rw [if_neg (by omega)]
  have e : ex_W ad A1 A2 h ++ [(q, E)] = ex_W (fun k => if k = h.1.length then q else ad k) A1 A2 (h.1 ++ [cx], σ) := ex_W_push b4 (by show (if h.1.length = _ then _ else _) = _; rw [if_pos rfl]) (hE _) (fun a ca ha hc => by
    have hl := (List.getElem?_eq_some_iff.mp hc).1
    exact ⟨hext a hl, by rw [hσ a hl]; exact ex_ce_ext hext (b3 a ca hc)⟩)
  rw [e] at hP hD
  have hlen : (h.1 ++ [cx]).length = h.1.length + 1 := by simp
  refine ⟨hext, hP, hD, hS, ⟨hσr, fun k hk => ?_, fun b cz hz => ?_, by show 4 ≤ (h.1 ++ [cx]).length; omega⟩, ex_has_sub y5 (fun w hw => ?_), y6, ?_, ?_⟩
  · obtain ⟨c1, c2, c3⟩ := b2 k hk
    refine ⟨(hext k (by omega)).trans c1, ?_, (hσ k (by omega)).trans c3⟩
    show (h.1 ++ [cx])[k]? = _
    rw [List.getElem?_append_left (by omega)]
    exact c2
  · show ex_cv (h.1 ++ [cx]).length cz
    rw [hlen]
    have hz' : (h.1 ++ [cx])[b]? = some cz := hz
    by_cases hb : b < h.1.length
    · rw [List.getElem?_append_left hb] at hz'
      exact ex_cv_le (by omega) (b3 b cz hz')
    · rw [List.getElem?_append_right (by omega)] at hz'
      have h0 : b - h.1.length < 1 := (List.getElem?_eq_some_iff.mp hz').1
      rw [show b - h.1.length = 0 by omega] at hz'
      cases hz'
      exact hcv
  · obtain ⟨v, h1, h2, h3⟩ := ex_pr_mem.mp hw
    exact ex_pr_mem.mpr ⟨v, h1, h2, by rw [h3]; exact ex_vv_ext hext (y7 v (List.mem_of_getElem? h1))⟩
  · intro v hv1
    show ex_rg (h.1 ++ [cx]).length v
    rw [hlen]
    exact ex_rg_le (by omega) (y7 v hv1)
  · intro v hv1
    show ex_rg (h.1 ++ [cx]).length v
    rw [hlen]
    rcases List.mem_cons.mp hv1 with rfl | h1
    · exact Nat.lt_succ_self _
    · exact ex_rg_le (by omega) (hv v h1)
theorem ex_z_r {b : Nat} {n : Nat} (hr : ∀ a i, ex_r32 (h.2 a i)) (i : Int) : ex_r32 (ex_ar h.2 n (fun _ => 0) b i) := by
  by_cases hb : b = n
  · rw [hb, ex_ar_self]; exact i_r0
  · rw [ex_ar_ne _ _ hb]; exact hr b i
theorem lw_gd_int : Cond.arrayClass .int ∈ lw_gd := lw_gd_mem (by decide +kernel) rfl
theorem sw_newa (X : ex_X p s m args meth c D A1 A2 A t nn g own kd nL cc) (Y : ex_Y s D A1 A2 A t nn g nL ad L H locs ls st h) (hd : decode cc pc = .ok (.newarray .int, 2)) (he : ex_st rt ls st h (.newarray .int) = oN ls' st' h')
    (hc : cells + h'.1.length ≤ R.cells + h.1.length) (hs : slots + ex_tot h'.1 ≤ R.slots + ex_tot h.1)
    (kk : ex_K p l e R s m args below meth c Q D A1 A2 A t nn g nL cells slots ad h (pc + 2) ls' st' h') : W p l e R s m args below meth c H locs cells slots Q (F0 m pc L (st.map (ex_vv ad))) := by
  obtain ⟨hx, hb, -, -, hts, -, hK, hT, hA⟩ := X
  dsimp only [ex_st] at he
  split at he
  · next n st0 =>
    split at he
    · next hn =>
      cases he
      have Y0 := Y
      obtain ⟨hP, hD, hS, hB, -, -, -, y8⟩ := Y0
      obtain ⟨y1, y⟩ := ex_top1 y8
      have hr : ex_r32 n := y1
      have hlen : (h.1 ++ [(.inl n.toNat : ex_C)]).length = h.1.length + 1 := by simp
      have htot : ex_tot (h.1 ++ [(.inl n.toNat : ex_C)]) = ex_tot h.1 + n.toNat := by rw [ex_tot_app]; simp [ex_tot, ex_sz]
      have hc' : cells + (h.1 ++ [(.inl n.toNat : ex_C)]).length ≤ R.cells + h.1.length := hc
      have hs' : slots + ex_tot (h.1 ++ [(.inl n.toNat : ex_C)]) ≤ R.slots + ex_tot h.1 := hs
      have harr : (Cond.arrayClass (Op.newarray.typeOf .int)).before args s = true := hts (.arrayClass .int) lw_gd_int
      refine va_newa (atype := .int) hx hb harr (ty := .int) rfl hK hP hD hS hA (N' := n.toNat) (a0 := (n.toNat, .inl (fun _ => 0))) (fun cA => rfl) (fun q => by have := (i_lt0 hr).mp q; omega) (i_cl hr hn.1) (by show n.toNat * 4 ≤ _; omega) (by omega) (by omega) hd (fun q cA H1 hK1 hP1 hD1 hS1 => ?_)
      have hcA : cA = A1 := by
        have r1 := va_nm_int (hK.2 0 _ rfl).2
        have r2 := va_nm_int (hK1.2 2 _ rfl).2
        exact Option.some.inj (r2.symm.trans r1)
      subst hcA
      obtain ⟨hext, Y'⟩ := Y.new (q := q) (cx := .inl n.toNat) (σ := ex_ar h.2 h.1.length (fun _ => 0)) (st' := st0) (fun b hb => ex_ar_ne _ _ (by omega)) (fun b i => ex_z_r hB.1 i) trivial (fun ad' => by rw [ex_ar_self]; rfl) hP1 hD1 hS1 y
      have w := kk _ L H1 locs (cells + 1) (slots + n.toNat) hext (by show cells + (h.1 ++ [(.inl n.toNat : ex_C)]).length = _; omega) (by show slots + ex_tot (h.1 ++ [(.inl n.toNat : ex_C)]) = _; omega) Y'
      rw [List.map_cons, ex_st_ext hext y] at w
      have e1 : ex_vv (fun k => if k = h.1.length then q else ad k) (.inr (.inl h.1.length)) = .ref q := by show Value.ref (if h.1.length = h.1.length then q else _) = _; rw [if_pos rfl]
      rw [e1] at w
      exact w
    · cases he
  · cases he
theorem sw_anew {k : Nat} (X : ex_X p s m args meth c D A1 A2 A t nn g own kd nL cc) (Y : ex_Y s D A1 A2 A t nn g nL ad L H locs ls st h) (hd : decode cc pc = .ok (raw, len)) (hm : (raw, len) ∈ rw_i own kd pcs pc (.anewarray k)) (he : ex_st rt ls st h (.anewarray k) = oN ls' st' h')
    (hc : cells + h'.1.length ≤ R.cells + h.1.length) (hs : slots + ex_tot h'.1 ≤ R.slots + ex_tot h.1)
    (kk : ex_K p l e R s m args below meth c Q D A1 A2 A t nn g nL cells slots ad h (pc + len) ls' st' h') : W p l e R s m args below meth c H locs cells slots Q (F0 m pc L (st.map (ex_vv ad))) := by
  obtain ⟨hx, hb, -, hown, hts, -, hK, hT, hA⟩ := X
  dsimp only [ex_st] at he
  split at he
  · next n st0 =>
    split at he
    · next hn =>
      cases he
      obtain ⟨hk1, hn⟩ := hn
      subst hk1
      obtain ⟨x, hx1, hx2⟩ := List.mem_map.mp hm
      cases hx2
      obtain ⟨⟨q1, q2, q3, q4⟩, h1, h2, h3, h4⟩ := ck_lk_mem hx1
      have ho := ex_lk_own h1
      dsimp only at h2 h3 h4 ho
      subst h2; subst h3; subst h4; subst ho
      have hlk := hts _ (lw_lk h1 (fun q => by cases q))
      have Y0 := Y
      obtain ⟨hP, hD, hS, hB, -, -, -, y8⟩ := Y0
      obtain ⟨y1, y⟩ := ex_top1 y8
      have hr : ex_r32 n := y1
      have hlen : (h.1 ++ [(.inr (.inl (List.replicate n.toNat none)) : ex_C)]).length = h.1.length + 1 := by simp
      have htot : ex_tot (h.1 ++ [(.inr (.inl (List.replicate n.toNat none)) : ex_C)]) = ex_tot h.1 + n.toNat := by rw [ex_tot_app]; simp [ex_tot, ex_sz]
      have hc' : cells + (h.1 ++ [(.inr (.inl (List.replicate n.toNat none)) : ex_C)]).length ≤ R.cells + h.1.length := hc
      have hs' : slots + ex_tot (h.1 ++ [(.inr (.inl (List.replicate n.toNat none)) : ex_C)]) ≤ R.slots + ex_tot h.1 := hs
      have hcl := i_cl hr hn.1
      refine W.anew hx hb hown hlk hT.2.2.2 rfl hd (n := Int32.ofInt n) rfl (fun q => by have := (i_lt0 hr).mp q; omega) (by rw [hcl]; omega) (by omega) (by rw [hcl]; omega) (fun cA kA comp f1 f2 f3 f4 => ?_)
      have hcA : cA = A2 := by
        obtain ⟨kB, cB, g1, g2, g3, g4⟩ := (hK.2 1 _ rfl).2
        exact Option.some.inj (f1.symm.trans g4)
      subst hcA
      rw [hcl]
      have hP1 : va_P D vwCl (ex_W ad A1 cA h ++ [(H.size, .inl (cA, n.toNat, .inr (.inr (.inr (.inr (fun _ => none))))))]) (H.push { cls := cA, slots := Array.replicate n.toNat .null, vm := .none }) := by
        refine (hP.kept (fun k x hx => ?_)).app (fun k x hx => ?_)
        · rw [Array.getElem?_push, if_neg (Nat.ne_of_lt (hP k x hx).lt)]
        · have hz : k < 1 := (List.getElem?_eq_some_iff.mp hx).1
          rw [show k = 0 by omega] at hx
          cases hx
          show (H.push _)[H.size]? = some (vp_cell _ _)
          rw [Array.getElem?_push, if_pos rfl, arrV_new]
          rfl
      have hD1 : va_D A (ex_W ad A1 cA h ++ [(H.size, .inl (cA, n.toNat, .inr (.inr (.inr (.inr (fun _ => none))))))]) := hD.push hP rfl (hA _ hS.1)
      have hS1 : va_S A s.heap (H.push { cls := cA, slots := Array.replicate n.toNat .null, vm := .none }) locs := by
        refine ⟨by rw [Array.size_push]; exact Nat.le_succ_of_le hS.1, fun x x1 x2 => ?_, hS.2.2⟩
        rw [Array.getElem?_push, if_neg (Nat.ne_of_lt (Nat.lt_of_lt_of_le x1 hS.1))]
        exact hS.2.1 x x1 x2
      obtain ⟨hext, Y'⟩ := Y.new (q := H.size) (cx := .inr (.inl (List.replicate n.toNat none))) (σ := h.2) (st' := st0) (fun b hb => rfl) hB.1 (fun k b hb => by
        have := List.mem_of_getElem? hb
        simp at this) (fun ad' => by
        show (Sum.inl (cA, n.toNat, _) : va_E) = .inl (cA, (List.replicate n.toNat (none : Option Nat)).length, _)
        rw [List.length_replicate]
        refine congrArg (fun F => (Sum.inl (cA, n.toNat, Sum.inr (Sum.inr (Sum.inr (Sum.inr F)))) : va_E)) (funext fun j => ?_)
        rw [List.getD_eq_getElem?_getD, List.getElem?_replicate]
        split <;> rfl) hP1 hD1 hS1 y
      have w := kk _ L _ locs (cells + 1) (slots + n.toNat) hext (by show cells + (h.1 ++ [(.inr (.inl (List.replicate n.toNat none)) : ex_C)]).length = _; omega) (by show slots + ex_tot (h.1 ++ [(.inr (.inl (List.replicate n.toNat none)) : ex_C)]) = _; omega) Y'
      rw [List.map_cons, ex_st_ext hext y] at w
      have e1 : ex_vv (fun k => if k = h.1.length then H.size else ad k) (.inr (.inl h.1.length)) = .ref H.size := by show Value.ref (if h.1.length = h.1.length then H.size else _) = _; rw [if_pos rfl]
      rw [e1] at w
      exact w
    · cases he
  · cases he
theorem nw_of {k : Nat} {f : List (Option (Option Nat))} (hk : ex_cf[k]? = some f) : ∃ T : u_T, vwCl[k]? = some (ex_nm k, T, f.length) ∧ (∀ j, j < f.length → (f[j]? = some none ∧ parseFieldDescriptor (T j).2.2.1 = some .int) ∨ (f[j]? = some (some none) ∧ ((∃ n, parseFieldDescriptor (T j).2.2.1 = some (.object n)) ∨ ∃ n, parseFieldDescriptor (T j).2.2.1 = some (.array n)))) ∧
    (∀ a, a < f.length → ∀ b, b < f.length → a ≠ b → (T a).2.1 ≠ (T b).2.1) ∧ (∀ j, j < f.length → (T j).1 = ex_nm k) ∧ Cond.instantiable (ex_nm k) f.length ∈ lw_tbl ∧ Cond.initialized (ex_nm k) ∈ lw_tbl ∧ (∀ w ∈ u_ws (ex_nm k) T f.length, w ∈ lw_gd) := by
  have hlt : k < 13 := by rw [← nw_cf.1]; exact (List.getElem?_eq_some_iff.mp hk).1
  have h0 := List.all_eq_true.mp nw_all k (List.mem_range.mpr hlt)
  unfold nw_ok at h0
  rw [hk] at h0
  cases hq : vwCl[k]? with
  | none => rw [hq] at h0; cases h0
  | some q =>
    obtain ⟨C, T, N⟩ := q
    rw [hq] at h0
    dsimp only at h0
    simp only [Bool.and_eq_true, decide_eq_true_eq] at h0
    obtain ⟨h1, h2, h3, h4, h5, h6, h7, h8⟩ := h0
    subst h1
    subst h5
    refine ⟨T, rfl, fun j hj => ?_, fun a ha b hb hab => ?_, fun j hj => ?_, h6, h7, fun w hw => ?_⟩
    · have := List.all_eq_true.mp h2 j (List.mem_range.mpr hj)
      split at this
      · next e1 => exact Or.inl ⟨e1, of_decide_eq_true this⟩
      · next e1 =>
        refine Or.inr ⟨e1, ?_⟩
        split at this
        · next n e2 => exact Or.inl ⟨n, e2⟩
        · next n e2 => exact Or.inr ⟨n, e2⟩
        · cases this
      · cases this
    · have := of_decide_eq_true (List.all_eq_true.mp (List.all_eq_true.mp h3 a (List.mem_range.mpr ha)) b (List.mem_range.mpr hb))
      exact this hab
    · exact of_decide_eq_true (List.all_eq_true.mp h4 j (List.mem_range.mpr hj))
    · have := List.all_eq_true.mp h8 w hw
      simp only [Bool.and_eq_true, decide_eq_true_eq] at this
      exact lw_gd_mem this.1 this.2
theorem nw_ty {f : List (Option (Option Nat))} {T : u_T} (hty : ∀ j, j < f.length → (f[j]? = some none ∧ parseFieldDescriptor (T j).2.2.1 = some .int) ∨ (f[j]? = some (some none) ∧ ((∃ n, parseFieldDescriptor (T j).2.2.1 = some (.object n)) ∨ ∃ n, parseFieldDescriptor (T j).2.2.1 = some (.array n)))) : ∀ j, j < f.length → parseFieldDescriptor (T j).2.2.1 = some (nw_t T j) := by
  intro j hj
  unfold nw_t
  rcases hty j hj with ⟨-, h⟩ | ⟨-, ⟨n, h⟩ | ⟨n, h⟩⟩ <;> rw [h] <;> rfl
theorem nw_lt {k : Nat} {f : List (Option (Option Nat))} (hk : ex_cf[k]? = some f) : k < 13 := by rw [← nw_cf.1]; exact (List.getElem?_eq_some_iff.mp hk).1
theorem ex_nm_cn {k : Nat} : ex_nm k = ex_cn.getD k "" := rfl
theorem sw_new {k : Nat} (X : ex_X p s m args meth c D A1 A2 A t nn g own kd nL cc) (Y : ex_Y s D A1 A2 A t nn g nL ad L H locs ls st h) (hd : decode cc pc = .ok (raw, len)) (hm : (raw, len) ∈ rw_i own kd pcs pc (.new k)) (he : ex_st rt ls st h (.new k) = oN ls' st' h')
    (hc : cells + h'.1.length ≤ R.cells + h.1.length) (hs : slots + ex_tot h'.1 ≤ R.slots + ex_tot h.1)
    (kk : ex_K p l e R s m args below meth c Q D A1 A2 A t nn g nL cells slots ad h (pc + len) ls' st' h') : W p l e R s m args below meth c H locs cells slots Q (F0 m pc L (st.map (ex_vv ad))) := by
  obtain ⟨hx, hb, -, hown, hts, -, hK, hT, hA⟩ := X
  dsimp only [ex_st] at he
  split at he
  · next f hf =>
    split at he
    · next h4 =>
      cases he
      obtain ⟨x, hx1, hx2⟩ := List.mem_map.mp hm
      cases hx2
      obtain ⟨⟨q1, q2, q3, q4⟩, h1, h2, h3, h5⟩ := ck_lk_mem hx1
      have ho := ex_lk_own h1
      dsimp only at h2 h3 h5 ho
      subst h2; subst h3; subst h5; subst ho
      have hlk := hts _ (lw_lk h1 (fun q => by cases q))
      obtain ⟨T, t1, t2, t3, t4, t5, t6, t7⟩ := nw_of hf
      have Y0 := Y
      obtain ⟨hP, hD, hS, hB, -, -, -, y8⟩ := Y0
      have hlen : (h.1 ++ [(.inr (.inr (k, f)) : ex_C)]).length = h.1.length + 1 := by simp
      have htot : ex_tot (h.1 ++ [(.inr (.inr (k, f)) : ex_C)]) = ex_tot h.1 + f.length := by rw [ex_tot_app]; simp [ex_tot, ex_sz]
      have hc' : cells + (h.1 ++ [(.inr (.inr (k, f)) : ex_C)]).length ≤ R.cells + h.1.length := hc
      have hs' : slots + ex_tot (h.1 ++ [(.inr (.inr (k, f)) : ex_C)]) ≤ R.slots + ex_tot h.1 := hs
      have hfv : ∀ (ad' : Nat → Nat), f.mapIdx (ex_fv ad' (fun _ => 0)) = f.mapIdx (ex_fv ad (fun _ => 0)) := by
        intro ad'
        apply List.ext_getElem?
        intro i
        rw [List.getElem?_mapIdx, List.getElem?_mapIdx]
        by_cases hi : i < f.length
        · rcases t2 i hi with ⟨e1, -⟩ | ⟨e1, -⟩ <;> rw [e1] <;> rfl
        · rw [List.getElem?_eq_none (by omega)]; rfl
      refine va_new (ci := k) (fs := f.mapIdx (ex_fv ad (fun _ => 0))) (C := ex_nm k) (T := T) (N := f.length) hx hb hts t7 (nw_t T) (nw_ty t2) hown hlk (hts _ (lw_gd_mem t5 rfl)) (hts _ (lw_gd_mem t6 rfl)) hK hP hD hS hA t1 (fun j hj => ?_) (by omega) (by omega) hd (fun q H1 hP1 hD1 hS1 => ?_)
      · unfold vp_V nw_t
        rw [List.getD_eq_getElem?_getD, List.getElem?_mapIdx]
        rcases t2 j hj with ⟨e1, e2⟩ | ⟨e1, ⟨n, e2⟩ | ⟨n, e2⟩⟩ <;> rw [e1, e2] <;> rfl
      · obtain ⟨hext, Y'⟩ := Y.new (q := q) (cx := .inr (.inr (k, f))) (σ := ex_ar h.2 h.1.length (fun _ => 0)) (st' := st) (fun b hb => ex_ar_ne _ _ (by omega)) (fun b i => ex_z_r hB.1 i) ⟨(fun i b hb => by
          have hi := (List.getElem?_eq_some_iff.mp hb).1
          rcases t2 i hi with ⟨e1, -⟩ | ⟨e1, -⟩ <;> rw [e1] at hb <;> cases hb), by rw [List.getD_eq_getElem?_getD, hf]; rfl⟩ (fun ad' => by rw [ex_ar_self]; show _ = (Sum.inr (k, f.mapIdx (ex_fv ad' (fun _ => 0))) : va_E); rw [hfv ad']) hP1 hD1 hS1 y8
        have w := kk _ L H1 locs (cells + 1) (slots + f.length) hext (by show cells + (h.1 ++ [(.inr (.inr (k, f)) : ex_C)]).length = _; omega) (by show slots + ex_tot (h.1 ++ [(.inr (.inr (k, f)) : ex_C)]) = _; omega) Y'
        rw [List.map_cons, ex_st_ext hext y8] at w
        have e1 : ex_vv (fun k => if k = h.1.length then q else ad k) (.inr (.inl h.1.length)) = .ref q := by show Value.ref (if h.1.length = h.1.length then q else _) = _; rw [if_pos rfl]
        rw [e1] at w
        exact w
    · cases he
  · cases he
/-- the link of a field -/
theorem fk_of {q x : Nat} (hx : x ∈ ck_lk own 1 (q : Int)) (hts : ∀ w ∈ lw_gd, w.before args s = true) : ∃ (f : List (Option (Option Nat))), ex_cf[q / 32]? = some f ∧ q % 32 < f.length ∧ ∀ T : u_T, vwCl[q / 32]? = some (ex_nm (q / 32), T, f.length) → (Cond.fieldLink (ex_nm own) x (T (q % 32)).1 (T (q % 32)).2.1 (T (q % 32)).2.2.1).before args s = true := by
  obtain ⟨⟨q1, q2, q3, q4⟩, h1, h2, h3, h5⟩ := ck_lk_mem hx
  have ho := ex_lk_own h1
  have hk := fk_all own _ h1
  dsimp only at h2 h3 h5 ho
  subst h2; subst h3; subst h5; subst ho
  have hlk := hts _ (lw_lk h1 (fun q => by cases q))
  unfold fk_ok at hk
  simp only [Bool.and_eq_true, decide_eq_true_eq] at hk
  obtain ⟨k1, k2⟩ := hk
  have hz : ((q : Int)).toNat = q := Int.toNat_natCast q
  have hlt := (k1 trivial).1
  rw [hz] at hlt k2
  have hf : ex_cf[q / 32]? = some (ex_cf[q / 32]'(by rw [nw_cf.1]; exact hlt)) := List.getElem?_eq_getElem _
  obtain ⟨T0, t1, -⟩ := nw_of hf
  rw [t1] at k2
  refine ⟨_, hf, (of_decide_eq_true k2) trivial, fun T hT => ?_⟩
  have e1 : ex_fT q = T (q % 32) := by unfold ex_fT; rw [hT]
  have e2 : ex_lw (1, q2, q3, (q : Int)) = Cond.fieldLink (ex_nm q2) q3 (T (q % 32)).1 (T (q % 32)).2.1 (T (q % 32)).2.2.1 := by
    show Cond.fieldLink (ex_nm q2) q3 (ex_fT ((q : Int)).toNat).1 (ex_fT ((q : Int)).toNat).2.1 (ex_fT ((q : Int)).toNat).2.2.1 = _
    rw [hz, e1]
  rw [← e2]
  exact hlk
theorem cv_at {n k : Nat} {f f0 : List (Option (Option Nat))} (h1 : ex_cv n (.inr (.inr (k, f)))) (h2 : ex_cf[k]? = some f0) : f.length = f0.length ∧ ∀ j : Nat, (f[j]?).map Option.isSome = (f0[j]?).map Option.isSome := by
  have e := h1.2
  rw [List.getD_eq_getElem?_getD, h2] at e
  have e' : f.map Option.isSome = f0.map Option.isSome := e
  refine ⟨by rw [← List.length_map (f := Option.isSome), e', List.length_map], fun j => ?_⟩
  rw [← List.getElem?_map, ← List.getElem?_map, e']
theorem sw_get {q : Nat} (X : ex_X p s m args meth c D A1 A2 A t nn g own kd nL cc) (Y : ex_Y s D A1 A2 A t nn g nL ad L H locs ls st h) (hd : decode cc pc = .ok (raw, len)) (hm : (raw, len) ∈ rw_i own kd pcs pc (.getfield q)) (he : ex_st rt ls st h (.getfield q) = oN ls' st' h')
    (kk : ex_K p l e R s m args below meth c Q D A1 A2 A t nn g nL cells slots ad h (pc + len) ls' st' h') : W p l e R s m args below meth c H locs cells slots Q (F0 m pc L (st.map (ex_vv ad))) := by
  obtain ⟨hx, hb, -, hown, hts, -, hK, hT, hA⟩ := X
  dsimp only [ex_st] at he
  split at he
  · next a st0 =>
    split at he
    · next k f hf =>
      split at he
      · next ha =>
        obtain ⟨ha, hk⟩ := ha
        subst hk
        obtain ⟨x, hx1, hx2⟩ := List.mem_map.mp hm
        cases hx2
        obtain ⟨f0, f1, f2, f3⟩ := fk_of hx1 hts
        obtain ⟨T, t1, t2, t3, t4, t5, t6, t7⟩ := nw_of f1
        have Y0 := Y
        obtain ⟨hP, hD, hS, hB, -, -, -, y8⟩ := Y0
        obtain ⟨y1, y⟩ := ex_top1 y8
        have hcv := hB.2.2.1 a _ hf
        split at he
        · next e1 =>
          cases he
          refine va_get (D := D) (ci := q / 32) (v := .int (Int32.ofInt (h.2 a ((q % 32 : Nat) : Int)))) (C := ex_nm (q / 32)) (T := T) (N := f0.length) hx hb hts t7 hown hK hP (a - 4) (ex_W_obj ha hf) t1 (q % 32) f2 (f3 T t1) (fun _ h9 => h9) (by rw [List.getElem?_mapIdx, e1]; rfl) hd (kk.go (Y.sk (st' := .inl (h.2 a ((q % 32 : Nat) : Int)) :: st0) (ex_cons1 (hB.1 _ _) y)))
        · next r e1 =>
          cases he
          refine va_get (D := D) (ci := q / 32) (v := .ref (ad r)) (C := ex_nm (q / 32)) (T := T) (N := f0.length) hx hb hts t7 hown hK hP (a - 4) (ex_W_obj ha hf) t1 (q % 32) f2 (f3 T t1) (fun _ h9 => h9) (by rw [List.getElem?_mapIdx, e1]; rfl) hd (kk.go (Y.sk (st' := .inr (.inl r) :: st0) (ex_cons1 (hcv.1 _ _ e1) y)))
        · cases he
      · cases he
    · cases he
  · cases he
theorem sw_put {q : Nat} (X : ex_X p s m args meth c D A1 A2 A t nn g own kd nL cc) (Y : ex_Y s D A1 A2 A t nn g nL ad L H locs ls st h) (hd : decode cc pc = .ok (raw, len)) (hm : (raw, len) ∈ rw_i own kd pcs pc (.putfield q)) (he : ex_st rt ls st h (.putfield q) = oN ls' st' h')
    (kk : ex_K p l e R s m args below meth c Q D A1 A2 A t nn g nL cells slots ad h (pc + len) ls' st' h') : W p l e R s m args below meth c H locs cells slots Q (F0 m pc L (st.map (ex_vv ad))) := by
  obtain ⟨hx, hb, -, hown, hts, hin, hK, hT, hA⟩ := X
  dsimp only [ex_st] at he
  split at he
  · next v a st0 =>
    split at he
    · next k f hf =>
      split at he
      · next ha =>
        obtain ⟨ha, hk⟩ := ha
        subst hk
        dsimp only [rw_i] at hm
        split at hm
        · next hfin =>
          obtain ⟨x, hx1, hx2⟩ := List.mem_map.mp hm
          cases hx2
          obtain ⟨f0, f1, f2, f3⟩ := fk_of hx1 hts
          obtain ⟨T, t1, t2, t3, t4, t5, t6, t7⟩ := nw_of f1
          have hfT : ex_fT q = T (q % 32) := by unfold ex_fT; rw [t1]
          have Y0 := Y
          obtain ⟨hP, hD, hS, hB, -, -, -, y8⟩ := Y0
          obtain ⟨y1, y2, y⟩ := ex_top2 y8
          have hcv := hB.2.2.1 a _ hf
          obtain ⟨cv1, cv2⟩ := cv_at hcv f1
          have cv3 := cv2 (q % 32)
          -- the row, for a value and its type
          have row : ∀ (w : Value) (ty : FieldType), parseFieldDescriptor (T (q % 32)).2.2.1 = some ty → narrow ty w = w → fits ty w = true → q % 32 < (f.mapIdx (ex_fv ad (h.2 a))).length →
              (∀ (H1 : Heap) (locs1 : List Loc), va_P D vwCl ((ex_W ad A1 A2 h).set (a - 4) (ad a, .inr (q / 32, (f.mapIdx (ex_fv ad (h.2 a))).set (q % 32) w))) H1 → va_D A ((ex_W ad A1 A2 h).set (a - 4) (ad a, .inr (q / 32, (f.mapIdx (ex_fv ad (h.2 a))).set (q % 32) w))) → va_S A s.heap H1 locs1 → W p l e R s m args below meth c H1 locs1 cells slots Q (F0 m (pc + 3) L (st0.map (ex_vv ad)))) →
              W p l e R s m args below meth c H locs cells slots Q (F0 m pc L (w :: .ref (ad a) :: st0.map (ex_vv ad))) := by
            intro w ty w1 w2 w3 w4 w5
            cases hF : (T (q % 32)).2.2.2 with
            | false => exact va_put (D := D) (ci := q / 32) (v := w) (ty := ty) (C := ex_nm (q / 32)) (T := T) (N := f0.length) hx hb hts t7 (nw_t T) (nw_ty t2) t3 hown hK hP hD hS (a - 4) (ex_W_obj ha hf) t1 (q % 32) f2 (f3 T t1) (fun _ h9 => h9) hF w1 w2 w3 w4 hd w5
            | true =>
              rw [hfT, hF] at hfin
              rcases hfin with h1 | ⟨h1, h2⟩
              · cases h1
              · exact va_putF (D := D) (ci := q / 32) (v := w) (ty := ty) (C := ex_nm (q / 32)) (T := T) (N := f0.length) hx hb hts t7 (nw_t T) (nw_ty t2) t3 hown hK hP hD hS (a - 4) (ex_W_obj ha hf) t1 (q % 32) f2 (f3 T t1) (fun _ h9 => h9) hF (hin h1) (by rw [t4 _ f2, h2]) w1 w2 w3 w4 hd w5
          split at he
          · next z e1 =>
            cases he
            have hlt := (List.getElem?_eq_some_iff.mp e1).1
            have hp : parseFieldDescriptor (T (q % 32)).2.2.1 = some .int := by
              rcases t2 (q % 32) f2 with ⟨g1, g2⟩ | ⟨g1, g2⟩
              · exact g2
              · rw [e1, g1] at cv3; cases cv3
            refine row (.int (Int32.ofInt z)) .int hp rfl rfl (by rw [List.length_mapIdx]; exact hlt) (fun H1 locs1 hP1 hD1 hS1 => ?_)
            refine kk ad L H1 locs1 cells slots (fun _ _ => rfl) rfl rfl (Y.ar ha hf (f := ex_u (h.2 a) ((q % 32 : Nat) : Int) z) (ex_u_r (hB.1 a) y1) ?_ hP1 hD1 hS1 y)
            show (Sum.inr (q / 32, _) : va_E) = .inr (q / 32, _)
            congr 2
            apply List.ext_getElem?
            intro i
            rw [List.getElem?_mapIdx]
            by_cases hi : i = q % 32
            · subst hi
              rw [List.getElem?_set_self (by rw [List.length_mapIdx]; exact hlt), e1]
              show _ = some (Value.int (Int32.ofInt (ex_u (h.2 a) ((q % 32 : Nat) : Int) z ((q % 32 : Nat) : Int))))
              unfold ex_u
              rw [if_pos rfl]
            · rw [List.getElem?_set_ne (Ne.symm hi), List.getElem?_mapIdx]
              cases f[i]? with
              | none => rfl
              | some u =>
                cases u with
                | some r => rfl
                | none =>
                  show some (Value.int (Int32.ofInt (h.2 a (i : Int)))) = some (Value.int (Int32.ofInt (ex_u (h.2 a) ((q % 32 : Nat) : Int) z (i : Int))))
                  unfold ex_u
                  rw [if_neg (by omega)]
          · next r0 r e1 =>
            cases he
            have hlt := (List.getElem?_eq_some_iff.mp e1).1
            have hp : ∃ ty, parseFieldDescriptor (T (q % 32)).2.2.1 = some ty ∧ narrow ty (.ref (ad r)) = .ref (ad r) ∧ fits ty (.ref (ad r)) = true := by
              rcases t2 (q % 32) f2 with ⟨g1, g2⟩ | ⟨g1, ⟨n, g2⟩ | ⟨n, g2⟩⟩
              · rw [e1, g1] at cv3; cases cv3
              · exact ⟨_, g2, rfl, rfl⟩
              · exact ⟨_, g2, rfl, rfl⟩
            obtain ⟨ty, p1, p2, p3⟩ := hp
            refine row (.ref (ad r)) ty p1 p2 p3 (by rw [List.length_mapIdx]; exact hlt) (fun H1 locs1 hP1 hD1 hS1 => ?_)
            have hsz : ex_sz (.inr (.inr (q / 32, f.set (q % 32) (some (some r))))) = ex_sz (.inr (.inr (q / 32, f))) := by show (f.set _ _).length = f.length; exact List.length_set
            refine kk ad L H1 locs1 cells slots (fun _ _ => rfl) (by show cells + (h.1.set a _).length = _; rw [List.length_set]) (by show slots + ex_tot (h.1.set a _) = _; rw [ex_tot_set _ _ _ _ hf hsz]) (Y.sh ha hf ⟨fun i b hb => ?_, ?_⟩ ?_ hP1 hD1 hS1 y)
            · by_cases hi : i = q % 32
              · subst hi
                rw [List.getElem?_set_self hlt] at hb
                cases hb
                exact y1
              · rw [List.getElem?_set_ne (Ne.symm hi)] at hb
                exact hcv.1 i b hb
            · rw [← hcv.2, List.map_set]
              apply List.ext_getElem?
              intro i
              by_cases hi : i = q % 32
              · subst hi
                rw [List.getElem?_set_self (by rw [List.length_map]; exact hlt), List.getElem?_map, e1]
                rfl
              · rw [List.getElem?_set_ne (Ne.symm hi)]
            · show (Sum.inr (q / 32, _) : va_E) = .inr (q / 32, _)
              congr 2
              apply List.ext_getElem?
              intro i
              rw [List.getElem?_mapIdx]
              by_cases hi : i = q % 32
              · subst hi
                rw [List.getElem?_set_self (by rw [List.length_mapIdx]; exact hlt), List.getElem?_set_self hlt]
                rfl
              · rw [List.getElem?_set_ne (Ne.symm hi), List.getElem?_set_ne (Ne.symm hi), List.getElem?_mapIdx]
          · cases he
        · cases hm
      · cases he
    · cases he
  · cases he
theorem sw_gets {k : Nat} (X : ex_X p s m args meth c D A1 A2 A t nn g own kd nL cc) (Y : ex_Y s D A1 A2 A t nn g nL ad L H locs ls st h) (hd : decode cc pc = .ok (raw, len)) (hm : (raw, len) ∈ rw_i own kd pcs pc (.getstatic k)) (he : ex_st rt ls st h (.getstatic k) = oN ls' st' h')
    (kk : ex_K p l e R s m args below meth c Q D A1 A2 A t nn g nL cells slots ad h (pc + len) ls' st' h') : W p l e R s m args below meth c H locs cells slots Q (F0 m pc L (st.map (ex_vv ad))) := by
  obtain ⟨hx, hb, -, hown, hts, hin, hK, hT, hA⟩ := X
  dsimp only [ex_st] at he
  split at he
  · next hk =>
    cases he
    obtain ⟨x, hx1, hx2⟩ := List.mem_map.mp hm
    cases hx2
    obtain ⟨⟨q1, q2, q3, q4⟩, h1, h2, h3, h5⟩ := ck_lk_mem hx1
    have ho := ex_lk_own h1
    dsimp only at h2 h3 h5 ho
    subst h2; subst h3; subst h5; subst ho
    have hlk := hts _ (lw_lk h1 (fun q => by cases q))
    have Y0 := Y
    obtain ⟨hP, hD, hS, hB, -, -, -, y8⟩ := Y0
    have e1 : ex_vv ad (.inr (.inl (k + 1))) = .ref (t (k + 1)) := by show Value.ref (ad (k + 1)) = _; rw [(hB.2.1 (k + 1) (by omega)).1]
    have w := kk.go (Y.sk (st' := .inr (.inl (k + 1)) :: st) (ex_cons1 (by show k + 1 < h.1.length; have := hB.2.2.2; omega) y8))
    rw [List.map_cons, e1] at w
    exact va_gets hx hb (hT.2.1 k hk) hS hown hlk (fun _ h9 => h9) hd w
  · cases he
end XS
