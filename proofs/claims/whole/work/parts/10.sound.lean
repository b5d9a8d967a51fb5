/-! a run of the abstract machine is a run of the machine -/
def ex_E (D : va_G) (A1 A2 : ClassId) (A : Nat → Prop) (t nn : Nat → Nat) (g : Nat → Int → Int) (ad : Nat → Nat) (h : ex_H) (U : State) : Prop :=
  va_P D vwCl (ex_W ad A1 A2 h) U.heap ∧ va_D A (ex_W ad A1 A2 h) ∧ va_K D vwCl (ex_ty A1 A2) U ∧ ex_T A t nn g U U.heap ∧ ex_B t nn g ad h ∧ (∀ q, U.heap.size ≤ q → A q)
def ex_Qc (D : va_G) (A1 A2 : ClassId) (A : Nat → Prop) (t nn : Nat → Nat) (g : Nat → Int → Int) (ad : Nat → Nat) (h1 : ex_H) (vs : List ex_V) (h2 : ex_H) : Array Value → State → Outcome → State → Prop := fun _ st oc tt =>
  ∃ (ad' : Nat → Nat) (w : Option Value), oc = .returned w ∧ w.toList = vs.map (ex_vv ad') ∧ ex_ext ad ad' h1.1.length ∧ va_P D vwCl (ex_W ad' A1 A2 h2) tt.heap ∧ va_D A (ex_W ad' A1 A2 h2) ∧ ex_B t nn g ad' h2 ∧ (∀ v ∈ vs, ex_rg h2.1.length v) ∧ va_F A st tt
def ex_rm (d mc ms : Nat) : Room := { frames := d + 1, cells := mc, slots := ms, locals := 64 * (d + 1) }
theorem ex_T.call {A : Nat → Prop} {t nn : Nat → Nat} {g : Nat → Int → Int} {u U : State} {H : Heap} (hv : u.vm = U.vm) (h : ex_T A t nn g u H) : ex_T A t nn g U H := by
  obtain ⟨h1, h2, h3, h4⟩ := h
  have ha : u.vm.Alike U.vm := by rw [hv]; exact Vm.Alike.refl _
  refine ⟨fun k hk => (h1 k hk).moved ha, fun k hk => (h2 k hk).moved ha, fun own q hq hq3 => ?_, h4.moved ha⟩
  refine va_Nw.same ?_ hv (h3 own q hq hq3)
  obtain ⟨q1, q2, q3, q4⟩ := q
  dsimp only at hq3
  subst hq3
  rfl
theorem ex_T.warm {A : Nat → Prop} {t nn : Nat → Nat} {g : Nat → Int → Int} {s U : State} {H : Heap} {locs : List Loc} (hW : s.WarmedH U.vm) (hS : va_S A s.heap H locs) (hU : U.heap = H) (h : ex_T A t nn g s s.heap) : ex_T A t nn g U U.heap := by
  obtain ⟨h1, h2, h3, h4⟩ := h
  have ha := hW.alike
  rw [hU]
  refine ⟨fun k hk => ((h1 k hk).moved ha).kept (fun a x y => hS.2.1 a x y), fun k hk => ((h2 k hk).moved ha).kept (fun a x y => hS.2.1 a x y), fun own q hq hq3 => ?_, h4.moved ha⟩
  have := h3 own q hq hq3
  obtain ⟨q1, q2, q3, q4⟩ := q
  dsimp only at hq3
  subst hq3
  exact va_Nw.warmM hW this
theorem ex_E.blind {D : va_G} {A1 A2 : ClassId} {A : Nat → Prop} {t nn : Nat → Nat} {g : Nat → Int → Int} {ad : Nat → Nat} {h : ex_H} {av : List Value} : FrameBlind (va_Pc av (ex_E D A1 A2 A t nn g ad h)) := by
  intro a U g mk hq
  obtain ⟨q0, q1, q2, q3, q4, q5, q6⟩ := hq
  exact ⟨q0, q1, q2, va_K.moved (u := U) (U := U.calling g mk a) (Vm.Alike.refl U.vm) q3, ex_T.call (u := U) (U := U.calling g mk a) rfl q4, q5, q6⟩
def ex_snd (l : Launch) (n : Nat) : Prop := ∀ (mi d b : Nat) (ls st : List ex_V) (h : ex_H) (r : ex_R), ex_run n d mi b ls st h = some r → ck_M mi = true →
  ∀ (kd own na nL rt : Nat) (y : MethodName) (cc : ByteArray) (mL' : Nat) (ret : Option FieldType) (pcs : List Nat), ex_mt[mi]? = some (kd, own, na, nL, rt) → ex_my[mi]? = some (y, cc, mL', ret) → ex_pc[mi]? = some pcs →
  ∀ (p : Program) (e : Env) (R : Room) (s : State) (m : MethodId) (args : Array Value) (below : List Frame) (meth : Method) (c : Code) (Q : State → Prop) (D : va_G) (A1 A2 : ClassId) (A : Nat → Prop) (t nn : Nat → Nat) (g : Nat → Int → Int),
  ex_X p s m args meth c D A1 A2 A t nn g own kd nL cc → d + 1 ≤ R.frames → 64 * (d + 1) ≤ R.locals →
  ∀ (ad : Nat → Nat) (L : Array Slot) (H : Heap) (locs : List Loc) (cells slots cF sF : Nat), ex_Y s D A1 A2 A t nn g nL ad L H locs ls st h → ls.length = nL → cells + r.2.1.length = cF + h.1.length → slots + ex_tot r.2.1 = sF + ex_tot h.1 → cF ≤ R.cells → sF ≤ R.slots →
  ∀ pc : Nat, pcs[b]? = some pc →
  (∀ (ad' : Nat → Nat) (L' : Array Slot) (H' : Heap) (locs' : List Loc) (pc' : Nat) (z : Int), r.1 = [.inl z] → (rt = 1 ∨ (rt = 2 ∧ (z = 0 ∨ z = 1))) → decode cc pc' = .ok (.ireturn, 1) → ex_ext ad ad' h.1.length → ex_Y s D A1 A2 A t nn g nL ad' L' H' locs' [] r.1 r.2 → W p l e R s m args below meth c H' locs' cF sF Q (F0 m pc' L' [.int (Int32.ofInt z)])) →
  (∀ (ad' : Nat → Nat) (L' : Array Slot) (H' : Heap) (locs' : List Loc) (pc' : Nat), r.1 = [] → rt = 0 → decode cc pc' = .ok (.return_, 1) → ex_ext ad ad' h.1.length → ex_Y s D A1 A2 A t nn g nL ad' L' H' locs' [] [] r.2 → W p l e R s m args below meth c H' locs' cF sF Q (F0 m pc' L' [])) →
  (∀ (ad' : Nat → Nat) (L' : Array Slot) (H' : Heap) (locs' : List Loc) (pc' : Nat), mi = 241 → pcs[1]? = some pc' → r.1.length = nL → ex_ext ad ad' h.1.length → ex_Y s D A1 A2 A t nn g nL ad' L' H' locs' r.1 [] r.2 → W p l e R s m args below meth c H' locs' cF sF Q (F0 m pc' L' [])) →
  W p l e R s m args below meth c H locs cells slots Q (F0 m pc L (st.map (ex_vv ad)))
/-- a method's contract out of its run -/
theorem ex_met {l : Launch} {n : Nat} (ih : ex_snd l n) {mi d : Nat} {as : List ex_V} {h1 : ex_H} {r : ex_R} (hrun : ex_run n d mi 0 (ex_fr mi as) [] h1 = some r) (hlt : mi < 241) {kd own na nL rt : Nat} {y : MethodName} {cc : ByteArray} (hmt : ex_mt[mi]? = some (kd, own, na, nL, rt)) (hmy : ex_my[mi]? = some (y, cc, nL, ex_rf rt)) (hcls : y.cls = ex_nm own) (hpl : plainFor y = true) (hkd2 : kd = 2 → y.name = "<init>")
    (hna : as.length = na) (hnL : na ≤ nL) (hsh : as.all ex_sh = true) (D : va_G) (A1 A2 : ClassId) (A : Nat → Prop) (t nn : Nat → Nat) (g : Nat → Int → Int) (ad : Nat → Nat) (hrg : ∀ v ∈ as, ex_rg h1.1.length v) :
    Met l y (ex_ws y cc nL (ex_rf rt)) (ex_rm d (r.2.1.length - h1.1.length) (ex_tot r.2.1 - ex_tot h1.1)) (va_Pc (as.map (ex_vv ad)) (ex_E D A1 A2 A t nn g ad h1)) (ex_Qc D A1 A2 A t nn g ad h1 r.1 r.2) (r.2.1.length - h1.1.length) (ex_tot r.2.1 - ex_tot h1.1) A := by
  refine va_MetF (cc := cc) (maxL := nL) (ret := ex_rf rt) hpl rfl ?_
  intro p e s m args below meth c s₁ B hml hv
  obtain ⟨rfl, hP, hD, hK, hT, hB, hA⟩ := hv
  have hts := atoms_spec (ws := ex_ws y cc nL (ex_rf rt)) B.pre
  have hown : s.vm.findClass y.cls = some m.cls := findClass_of_methodNamed B.named
  have hr := B.returns
  have hlocks := B.notSynchronized
  have hck := ck_all mi hlt
  have hck0 := hck
  have hgr := ex_run_gr _ _ _ _ _ _ _ _ hrun
  have X : ex_X p s m (as.map (ex_vv ad)).toArray meth c D A1 A2 A t nn g own kd nL cc := ⟨B.exec, B.bytes, hml, by rw [← hcls]; exact hown, fun w hw => hts w (List.mem_cons_of_mem _ hw), fun hk => by rw [← hkd2 hk]; exact (name_of_methodNamed B.named B.method).1, hK, hT, hA⟩
  unfold ck_M at hck
  rw [hmt, hmy] at hck
  cases hbs : ex_bs[mi]? with
  | none => rw [hbs] at hck; cases hck
  | some bs =>
    cases hpc : ex_pc[mi]? with
    | none => rw [hbs, hpc] at hck; cases hck
    | some pcs =>
      rw [hbs, hpc] at hck
      dsimp only at hck
      simp only [Bool.and_eq_true, decide_eq_true_eq] at hck
      have hl := lv_entry (as.map (ex_vv ad)) (n := nL) (by rw [ex_lgsl as hsh]; omega)
      rw [lg_entry_eq]
      generalize (lg_sl (as.map (ex_vv ad)) ++ List.replicate (nL - (lg_sl (as.map (ex_vv ad))).length) Slot.unset).toArray = L at hl ⊢
      have hfr : ex_fr mi as = as ++ List.replicate (nL - na) (.inr (.inr 0)) := by unfold ex_fr; rw [hmt]
      have Y : ex_Y s D A1 A2 A t nn g nL ad L s.heap [] (ex_fr mi as) [] h1 := by
        refine ⟨hP, hD, va_S.rf, hB, by rw [hfr]; exact ex_pr_args hsh hl, by rw [hfr, List.length_append, List.length_replicate]; omega, fun v hv => ?_, fun v hv => by cases hv⟩
        rw [hfr] at hv
        rcases List.mem_append.mp hv with h | h
        · exact hrg v h
        · rw [List.mem_replicate] at h
          rw [h.2]
          show ex_r64 0
          unfold ex_r64
          omega
      refine ih mi d 0 _ [] h1 r hrun hck0 kd own na nL rt y cc nL (ex_rf rt) pcs hmt hmy hpc p e _ s m _ below meth c _ D A1 A2 A t nn g X (Nat.le_refl _) (Nat.le_refl _) ad L s.heap [] 0 0 (r.2.1.length - h1.1.length) (ex_tot r.2.1 - ex_tot h1.1) Y (by rw [hfr, List.length_append, List.length_replicate]; omega) (by have := hgr.1; omega) (by have := hgr.2; omega) (Nat.le_refl _) (Nat.le_refl _) 0 hck.2.1 ?_ ?_ ?_
      · intro ad' L' H' locs' pc' z hz hrt hdg hext Y'
        obtain ⟨y1, y2, y3, y4, y5, y6, y7, y8⟩ := Y'
        have post : ∀ t9 : State, t9.heap = H' → s.WarmedH t9.vm → ex_Qc D A1 A2 A t nn g ad h1 r.1 r.2 (as.map (ex_vv ad)).toArray s (.returned (some (.int (Int32.ofInt z)))) t9 := fun t9 ht9 hW => ⟨ad', some (.int (Int32.ofInt z)), rfl, by rw [hz]; rfl, hext, by rw [ht9]; exact y1, y2, y4, y8, y3.F ht9⟩
        rcases hrt with h | ⟨h, h2⟩
        · subst h
          exact W.iret B.exec B.bytes hr post y3.2.2 hdg
        · subst h
          exact W.zret (ty := .boolean) B.exec B.bytes hr (by rcases h2 with rfl | rfl <;> rfl) post y3.2.2 hdg
      · intro ad' L' H' locs' pc' hz hrt hdg hext Y'
        obtain ⟨y1, y2, y3, y4, y5, y6, y7, y8⟩ := Y'
        subst hrt
        exact W.vret B.exec B.bytes hr (fun t9 ht9 hW => ⟨ad', none, rfl, by rw [hz]; rfl, hext, by rw [ht9]; exact y1, y2, y4, by rw [hz]; exact y8, y3.F ht9⟩) y3.2.2 hdg
      · intro ad' L' H' locs' pc' h241
        omega
section XM
variable {p : Program} {l : Launch} {e : Env} {R : Room} {s : State} {m : MethodId} {args : Array Value} {below : List Frame} {meth : Method} {c : Code} {H : Heap} {locs : List Loc} {cells slots : Nat} {Q : State → Prop}
variable {D : va_G} {A1 A2 : ClassId} {A : Nat → Prop} {t nn : Nat → Nat} {g : Nat → Int → Int} {own kd nL rt : Nat} {cc : ByteArray} {pcs : List Nat} {pc len : Nat} {raw : Instr}
variable {ad : Nat → Nat} {L : Array Slot} {ls st : List ex_V} {h : ex_H}
/-- behind a call -/
theorem sw_back {mc ms : Nat} {st0 : List Value} {rest : List ex_V} {a : Array Value} {vs : List ex_V} {h2 : ex_H} (hr : va_Run p l e R s m args below meth c H locs cells slots mc ms (F0 m pc L st0) (rest.map (ex_vv ad)) (ex_Qc D A1 A2 A t nn g ad h vs h2 a) A) (Y : ex_Y s D A1 A2 A t nn g nL ad L H locs ls st h) (hrest : ∀ v ∈ rest, ex_rg h.1.length v) (hgr : h.1.length ≤ h2.1.length)
    (kk : ∀ (ad' : Nat → Nat) (H' : Heap) (locs' : List Loc), ex_ext ad ad' h.1.length → ex_Y s D A1 A2 A t nn g nL ad' L H' locs' ls (vs ++ rest) h2 → W p l e R s m args below meth c H' locs' (cells + mc) (slots + ms) Q (F0 m (pc + 3) L ((vs ++ rest).map (ex_vv ad')))) : W p l e R s m args below meth c H locs cells slots Q (F0 m pc L st0) := by
  intro T hT X
  obtain ⟨v, st₀, t9, T', L9, h0, X', hL, e1, e2, ⟨ad', w, hw, hwl, hext, q1, q2, q3, q4, hz, hk⟩, st⟩ := hr T hT X
  cases hw
  rw [h0] at hz hk
  obtain ⟨y1, y2, y3, y4, y5, y6, y7, y8⟩ := Y
  have hS' : va_S A s.heap T'.heap (locs ++ L9) := ⟨Nat.le_trans y3.1 (by rw [e1]; exact hz), fun q x1 x2 => by rw [e1, hk q (Nat.lt_of_lt_of_le x1 y3.1) x2]; exact y3.2.1 q x1 x2, fun q hq => by
    rcases List.mem_append.mp hq with hh | hh
    · exact y3.2.2 q hh
    · exact hL q hh⟩
  have Y' : ex_Y s D A1 A2 A t nn g nL ad' L T'.heap (locs ++ L9) ls (vs ++ rest) h2 := by
    refine ⟨by rw [e1]; exact q1, q2, hS', q3, ex_has_sub y5 (fun w9 hw9 => ?_), y6, fun v9 hv9 => ex_rg_le hgr (y7 v9 hv9), fun v9 hv9 => ?_⟩
    · obtain ⟨v9, g1, g2, g3⟩ := ex_pr_mem.mp hw9
      exact ex_pr_mem.mpr ⟨v9, g1, g2, by rw [g3]; exact ex_vv_ext hext (y7 v9 (List.mem_of_getElem? g1))⟩
    · rcases List.mem_append.mp hv9 with hh | hh
      · exact q4 v9 hh
      · exact ex_rg_le hgr (hrest v9 hh)
  have w9 := kk ad' T'.heap (locs ++ L9) hext Y'
  rw [List.map_append, ← hwl, ex_st_ext hext hrest] at w9
  obtain ⟨t2, a1, b1⟩ := w9 T' rfl X'
  exact ⟨t2, st t2 a1, b1⟩
/-- a call -/
theorem sw_call {n d mi k : Nat} {i : Instr} (ih : ex_snd l n) (hi : (k = 0 ∧ i = .invokestatic mi) ∨ (k = 1 ∧ i = .invokevirtual mi) ∨ (k = 2 ∧ i = .invokespecial mi)) (X : ex_X p s m args meth c D A1 A2 A t nn g own kd nL cc) (Y : ex_Y s D A1 A2 A t nn g nL ad L H locs ls st h) (hd : decode cc pc = .ok (raw, len)) (hm : (raw, len) ∈ rw_i own kd pcs pc i) {as rest : List ex_V} {h' : ex_H} (he : ex_ca k mi st h = oC mi as rest h') {vs : List ex_V} {h2 : ex_H} (hrun : ex_run n d mi 0 (ex_fr mi as) [] h' = some (vs, h2))
    (hR1 : d + 2 ≤ R.frames) (hR2 : 64 * (d + 2) ≤ R.locals) (hc : cells + h2.1.length ≤ R.cells + h.1.length) (hs : slots + ex_tot h2.1 ≤ R.slots + ex_tot h.1)
    (kk : ∀ (ad' : Nat → Nat) (H' : Heap) (locs' : List Loc) (cells' slots' : Nat), ex_ext ad ad' h.1.length → cells + h2.1.length = cells' + h.1.length → slots + ex_tot h2.1 = slots' + ex_tot h.1 → ex_Y s D A1 A2 A t nn g nL ad' L H' locs' ls (vs ++ rest) h2 → W p l e R s m args below meth c H' locs' cells' slots' Q (F0 m (pc + len) L ((vs ++ rest).map (ex_vv ad')))) : W p l e R s m args below meth c H locs cells slots Q (F0 m pc L (st.map (ex_vv ad))) := by
  obtain ⟨hx, hb, hml, hown, hts, hin, hK, hT, hA⟩ := X
  -- the link
  have hlink : ∃ x : Nat, len = 3 ∧ mi < 241 ∧ ((raw = .invokestatic x ∧ k = 0) ∨ (raw = .invokevirtual x ∧ k = 1) ∨ (raw = .invokespecial x ∧ k = 2)) ∧ ((Cond.methodLink (ex_nm own) x (ex_y mi)).before args s = true ∨ (k = 2 ∧ va_Nw (.methodLinkNest (ex_nm own) x (ex_y mi) "CellarCars") s)) := by
    have two : ∀ x, x ∈ ck_lk own 2 (mi : Int) → mi < 241 ∧ (Cond.methodLink (ex_nm own) x (ex_y mi)).before args s = true := by
      intro x hx1
      obtain ⟨⟨q1, q2, q3, q4⟩, z1, z2, z3, z5⟩ := ck_lk_mem hx1
      have ho := ex_lk_own z1
      have hml := ml_all own _ z1
      dsimp only at z2 z3 z5 ho
      subst z2; subst z3; subst z5; subst ho
      have hm2 := (of_decide_eq_true hml) (Or.inl rfl)
      dsimp only at hm2
      have hlk := hts _ (lw_lk z1 (fun q => by cases q))
      have e9 : ((mi : Int)).toNat = mi := Int.toNat_natCast mi
      have e8 : ex_lw (2, q2, q3, (mi : Int)) = .methodLink (ex_nm q2) q3 (ex_y mi) := by show Cond.methodLink (ex_nm q2) q3 (ex_y ((mi : Int)).toNat) = _; rw [e9]
      rw [e8] at hlk
      exact ⟨by omega, hlk⟩
    have three : ∀ x, x ∈ ck_lk own 3 (mi : Int) → mi < 241 ∧ va_Nw (.methodLinkNest (ex_nm own) x (ex_y mi) "CellarCars") s := by
      intro x hx1
      obtain ⟨⟨q1, q2, q3, q4⟩, z1, z2, z3, z5⟩ := ck_lk_mem hx1
      have ho := ex_lk_own z1
      have hml := ml_all own _ z1
      dsimp only at z2 z3 z5 ho
      subst z2; subst z3; subst z5; subst ho
      have hm2 := (of_decide_eq_true hml) (Or.inr rfl)
      dsimp only at hm2
      have hlk := hT.2.2.1 q2 _ z1 rfl
      have e9 : ((mi : Int)).toNat = mi := Int.toNat_natCast mi
      have e8 : ex_lw (3, q2, q3, (mi : Int)) = .methodLinkNest (ex_nm q2) q3 (ex_y mi) "CellarCars" := by show Cond.methodLinkNest (ex_nm q2) q3 (ex_y ((mi : Int)).toNat) "CellarCars" = _; rw [e9]
      rw [e8] at hlk
      exact ⟨by omega, hlk⟩
    rcases hi with ⟨rfl, rfl⟩ | ⟨rfl, rfl⟩ | ⟨rfl, rfl⟩
    · obtain ⟨x, hx1, hx2⟩ := List.mem_map.mp hm
      cases hx2
      obtain ⟨a1, a2⟩ := two x hx1
      exact ⟨x, rfl, a1, Or.inl ⟨rfl, rfl⟩, Or.inl a2⟩
    · obtain ⟨x, hx1, hx2⟩ := List.mem_map.mp hm
      cases hx2
      obtain ⟨a1, a2⟩ := two x hx1
      exact ⟨x, rfl, a1, Or.inr (Or.inl ⟨rfl, rfl⟩), Or.inl a2⟩
    · rcases List.mem_append.mp hm with hm | hm
      · obtain ⟨x, hx1, hx2⟩ := List.mem_map.mp hm
        cases hx2
        obtain ⟨a1, a2⟩ := two x hx1
        exact ⟨x, rfl, a1, Or.inr (Or.inr ⟨rfl, rfl⟩), Or.inl a2⟩
      · obtain ⟨x, hx1, hx2⟩ := List.mem_map.mp hm
        cases hx2
        obtain ⟨a1, a2⟩ := three x hx1
        exact ⟨x, rfl, a1, Or.inr (Or.inr ⟨rfl, rfl⟩), Or.inr ⟨rfl, a2⟩⟩
  obtain ⟨x, rfl, hlt, hraw, hlk⟩ := hlink
  -- the callee
  unfold ex_ca at he
  cases hmt : ex_mt[mi]? with
  | none => rw [hmt] at he; cases he
  | some q =>
    obtain ⟨kd', own', na, nL', rt'⟩ := q
    rw [hmt] at he
    dsimp only at he
    by_cases hcond : kd' = k ∧ na ≤ st.length ∧ st.length ≤ na + 8 ∧ st.all ex_sh = true
    · rw [if_pos hcond] at he
      obtain ⟨hk, hn1, hn2, hsh⟩ := hcond
      subst hk
      obtain ⟨y, cc', my1, my2, my3, my4, ⟨my5a, my5b, my5c, my5d, my5e⟩, my6, my7, my8, my9, my10⟩ := mk_of hmt hlt
      have hey : ex_y mi = y := by unfold ex_y; rw [my1]
      rw [hey] at hlk
      -- arguments
      have hout : as = (st.take na).reverse ∧ rest = st.drop na ∧ h' = h ∧ (kd' ≠ 0 → ∃ (a0 : Nat) (as0 : List ex_V) (f0 : List (Option (Option Nat))), as = .inr (.inl a0) :: as0 ∧ h.1[a0]? = some (.inr (.inr (own', f0)))) := by
        by_cases hk0 : kd' = 0
        · rw [if_pos hk0] at he
          cases he
          exact ⟨rfl, rfl, rfl, fun z => absurd hk0 z⟩
        · rw [if_neg hk0] at he
          split at he
          · next a0 as0 ha0 =>
            split at he
            · next c0 f0 hf0 =>
              split at he
              · next hc0 =>
                subst hc0
                cases he
                exact ⟨rfl, rfl, rfl, fun _ => ⟨a0, as0, f0, ha0, hf0⟩⟩
              · cases he
            · cases he
          · cases he
      obtain ⟨has, hrest, hh, hrecv⟩ := hout
      subst hh
      have y8 := Y.2.2.2.2.2.2.2
      have hstk : st = as.reverse ++ rest := by rw [has, hrest, List.reverse_reverse, List.take_append_drop]
      have hlen : as.length = na := by rw [has, List.length_reverse, List.length_take]; omega
      have hall : ∀ v ∈ as, v ∈ st := fun v hv => by rw [hstk]; exact List.mem_append_left _ (List.mem_reverse.mpr hv)
      have hallr : ∀ v ∈ rest, v ∈ st := fun v hv => by rw [hstk]; exact List.mem_append_right _ hv
      have hsha : as.all ex_sh = true := List.all_eq_true.mpr (fun v hv => List.all_eq_true.mp hsh v (hall v hv))
      have hshr : rest.all ex_sh = true := List.all_eq_true.mpr (fun v hv => List.all_eq_true.mp hsh v (hallr v hv))
      have hrl : rest.length ≤ 8 := by rw [hrest, List.length_drop]; omega
      have M := ex_met ih hrun hlt hmt my1 my2 my3 (fun hk2 => (my5e hk2).1) hlen my5a hsha D A1 A2 A t nn g ad (fun v hv => y8 v (hall v hv))
      have hgr := ex_run_gr _ _ _ _ _ _ _ _ hrun
      have hg1 := hgr.1
      have hg2 := hgr.2
      dsimp only at hg1 hg2 M
      have Y0 := Y
      obtain ⟨hP, hD, hS, hB, hL, -, -, -⟩ := Y0
      have S : CallFix p m c cc nL s args lw_gd (ex_nm own) := ⟨hx, hb, hml, hown, hts⟩
      have hpre : ∀ U : State, U.heap = H → s.WarmedH U.vm → va_Pc (as.map (ex_vv ad)) (ex_E D A1 A2 A t nn g ad h') (as.map (ex_vv ad)).toArray U := fun U hU hW => ⟨rfl, by rw [hU]; exact hP, hD, va_K.moved hW.alike hK, hT.warm hW hS hU, hB, fun q hq => hA q (by rw [hU] at hq; exact Nat.le_trans hS.1 hq)⟩
      have hW8 : 2 * (F0 m pc L (st.map (ex_vv ad))).monitorRoom + ((rest.map (ex_vv ad)).map fun v => v.category).sum ≤ 8 := by show 2 * 0 + _ ≤ 8; rw [ex_catsum rest hshr]; omega
      have hroom : (ex_rm d (h2.1.length - h'.1.length) (ex_tot h2.1 - ex_tot h'.1)).frames + 1 ≤ R.frames ∧ 8 + (nL' + 11) + (ex_rm d (h2.1.length - h'.1.length) (ex_tot h2.1 - ex_tot h'.1)).locals ≤ R.locals := ⟨by show d + 1 + 1 ≤ _; omega, by show 8 + (nL' + 11) + 64 * (d + 1) ≤ _; omega⟩
      have hf : cells + (h2.1.length - h'.1.length) ≤ R.cells ∧ slots + (ex_tot h2.1 - ex_tot h'.1) ≤ R.slots := ⟨by omega, by omega⟩
      have fin : va_Run p l e R s m args below meth c H locs cells slots (h2.1.length - h'.1.length) (ex_tot h2.1 - ex_tot h'.1) (F0 m pc L (st.map (ex_vv ad))) (rest.map (ex_vv ad)) (ex_Qc D A1 A2 A t nn g ad h' vs h2 (as.map (ex_vv ad)).toArray) A → W p l e R s m args below meth c H locs cells slots Q (F0 m pc L (st.map (ex_vv ad))) := fun hr => sw_back hr Y (fun v hv => y8 v (hallr v hv)) hg1 (fun ad' H' locs' hext Y' => kk ad' H' locs' _ _ hext (by omega) (by omega) Y')
      rcases hraw with ⟨rfl, rfl⟩ | ⟨rfl, rfl⟩ | ⟨rfl, rfl⟩
      · -- static
        rcases hlk with hlk | ⟨hlk, -⟩
        · have hcb := callB_of (R := R) (rm := ex_rm d (h2.1.length - h'.1.length) (ex_tot h2.1 - ex_tot h'.1)) (own := ex_nm own) na hts (ex_good (y := y) (cc := cc') (mL := nL') (ret := ex_rf rt') my6) rfl rfl rfl (hts _ my7) hlk ⟨my4.1, my4.2.1, my4.2.2⟩ hroom
          refine fin (va_runS (As := as.map (ex_vv ad)) S M ⟨hcb, hts _ (my8 rfl)⟩ ⟨ex_E.blind, hpre⟩ rfl (by rw [List.length_map]; exact hlen) hL.1 ?_ hW8 hd hf)
          show st.map (ex_vv ad) = _
          rw [hstk, List.map_append, List.map_reverse]
        · cases hlk
      · -- instance
        rcases hlk with hlk | ⟨hlk, -⟩
        · obtain ⟨a0, as0, f0, ha0, hf0⟩ := hrecv (by decide)
          subst ha0
          have ha4 : 4 ≤ a0 := by
            rcases Nat.lt_or_ge a0 4 with hz | hz
            · rw [(hB.2.1 a0 hz).2.1] at hf0; cases hf0
            · exact hz
          have hvw : ∃ T : u_T, ∃ N : Nat, vwCl[own']? = some (ex_nm own', T, N) := by
            have hlt9 : own' < 13 := by
              obtain ⟨r9, q1, -⟩ := hP (a0 - 4) _ (ex_W_obj ha4 hf0)
              have := (List.getElem?_eq_some_iff.mp q1).1
              rw [nw_cf.2] at this
              exact this
            have hf9 : ex_cf[own']? = some (ex_cf[own']'(by rw [nw_cf.1]; exact hlt9)) := List.getElem?_eq_getElem _
            obtain ⟨T, t1, -⟩ := nw_of hf9
            exact ⟨T, _, t1⟩
          obtain ⟨T, N, hvw⟩ := hvw
          have hcb := callB_of (R := R) (rm := ex_rm d (h2.1.length - h'.1.length) (ex_tot h2.1 - ex_tot h'.1)) (own := ex_nm own) (na - 1) hts (ex_good (y := y) (cc := cc') (mL := nL') (ret := ex_rf rt') my6) rfl rfl rfl (hts _ my7) hlk ⟨my4.1, my4.2.1, my4.2.2⟩ hroom
          have hrec := va_recv hK hP hvw (ex_W_obj (A1 := A1) (A2 := A2) (ad := ad) ha4 hf0)
          refine fin (va_runV (C := y.cls) (b := ad a0) (As := as0.map (ex_vv ad)) S M ⟨hcb, hts _ (my9 (by decide)), hts _ (my10 rfl)⟩ ⟨ex_E.blind, by rw [my2]; exact hrec, hpre⟩ rfl (by rw [List.length_map, ← hlen, List.length_cons]; omega) hL.1 ?_ hW8 hd hf)
          show st.map (ex_vv ad) = _
          rw [hstk, List.map_append, List.map_reverse, List.map_cons, List.reverse_cons, List.append_assoc]
          rfl
        · cases hlk
      · -- constructor
        obtain ⟨a0, as0, f0, ha0, hf0⟩ := hrecv (by decide)
        subst ha0
        have hstk2 : (F0 m pc L (st.map (ex_vv ad))).stack = (as0.map (ex_vv ad)).reverse ++ .ref (ad a0) :: rest.map (ex_vv ad) := by
          show st.map (ex_vv ad) = _
          rw [hstk, List.map_append, List.map_reverse, List.map_cons, List.reverse_cons, List.append_assoc]
          rfl
        have hlen2 : (as0.map (ex_vv ad)).length = na - 1 := by rw [List.length_map, ← hlen, List.length_cons]; omega
        have hrt0 := (my5e rfl).2
        subst hrt0
        rcases hlk with hlk | ⟨-, hlk⟩
        · have hcb := cwI (R := R) (rm := ex_rm d (h2.1.length - h'.1.length) (ex_tot h2.1 - ex_tot h'.1)) (own := ex_nm own) (na - 1) hts (ex_good (y := y) (cc := cc') (mL := nL') (ret := none) my6) rfl rfl rfl (hts _ my7) hlk (hts _ (my9 (by decide))) (my5e rfl).1 ⟨my4.1, my4.2.1, my4.2.2⟩ hroom
          exact fin (va_runI (b := ad a0) (As := as0.map (ex_vv ad)) S M hcb ⟨ex_E.blind, hpre⟩ rfl hlen2 hL.1 hstk2 hW8 hd hf)
        · have hcb := va_cnB (R := R) (rm := ex_rm d (h2.1.length - h'.1.length) (ex_tot h2.1 - ex_tot h'.1)) (own := ex_nm own) (na - 1) hts (ex_good (y := y) (cc := cc') (mL := nL') (ret := none) my6) rfl rfl rfl hlk (hts _ my7) ⟨my4.1, my4.2.1, my4.2.2⟩ hroom
          exact fin (va_runIN (b := ad a0) (As := as0.map (ex_vv ad)) S M ⟨hcb, (my5e rfl).1, hts _ (my9 (by decide))⟩ ⟨ex_E.blind, hpre⟩ rfl hlen2 hL.1 hstk2 hW8 hd hf)
    · rw [if_neg hcond] at he; cases he
end XM
/-- instructions that only go on -/
def ex_isN : Instr → Bool
  | .if_icmp _ _ => false
  | .ifCond _ _ => false
  | .goto _ => false
  | .goto_w _ => false
  | .tableswitch _ _ _ _ => false
  | .lookupswitch _ _ => false
  | .invokestatic _ => false
  | .invokevirtual _ => false
  | .invokespecial _ => false
  | .ireturn => false
  | .return_ => false
  | .ret _ => false
  | _ => true
theorem ex_st_N {rt : Nat} {ls st : List ex_V} {h : ex_H} {i : Instr} (hi : ex_isN i = true) {o : (List ex_V × List ex_V × ex_H) ⊕ ((Nat × List ex_V × List ex_V × ex_H) ⊕ ((Nat × List ex_V × List ex_V × ex_H) ⊕ ex_R))} (he : ex_st rt ls st h i = some o) : ∃ ls' st' h', ex_st rt ls st h i = oN ls' st' h' := by
  rw [he]
  unfold ex_st at he
  split at he
  all_goals first
    | (cases he; done)
    | (cases hi; done)
    | (obtain ⟨st', rfl⟩ := ex_bin_gr he; exact ⟨_, _, _, rfl⟩)
    | (cases he; exact ⟨_, _, _, rfl⟩)
    | (repeat' split at he
       all_goals first
         | (cases he; done)
         | (cases he; exact ⟨_, _, _, rfl⟩))
theorem ex_st_len {rt : Nat} {ls st ls' st' : List ex_V} {h h' : ex_H} {i : Instr} (he : ex_st rt ls st h i = oN ls' st' h') : ls'.length = ls.length := by
  unfold ex_st at he
  split at he
  all_goals first
    | (cases he; done)
    | (obtain ⟨st9, h9⟩ := ex_bin_gr he; cases h9; rfl)
    | (cases he; rfl)
    | (exfalso; unfold ex_ca at he; repeat' split at he
       all_goals (cases he; done))
    | (repeat' split at he
       all_goals first
         | (cases he; done)
         | (cases he; rfl)
         | (cases he; exact List.length_set)
         | (unfold ex_if at he; split at he <;> (dsimp only [ex_br] at he; split at he <;> first | (cases he; done) | (cases he; rfl))))
theorem ck_step {own kd : Nat} {pcs : List Nat} {law : Bool} {cc : ByteArray} {pc : Nat} {i : Instr} {is : List Instr} (h : (match decode cc pc with
    | .ok (raw, len) => (rw_i own kd pcs pc i).any (fun q => decide (q = (raw, len))) && (ck_t pcs i && ck_L own kd pcs law cc (pc + len) is)
    | _ => false) = true) : ∃ (raw : Instr) (len : Nat), decode cc pc = .ok (raw, len) ∧ (raw, len) ∈ rw_i own kd pcs pc i ∧ ck_t pcs i = true ∧ ck_L own kd pcs law cc (pc + len) is = true := by
  split at h
  · next raw len hd =>
    simp only [Bool.and_eq_true] at h
    exact ⟨raw, len, hd, ex_any h.1, h.2.1, h.2.2⟩
  · cases h
def ex_KK (p : Program) (l : Launch) (e : Env) (R : Room) (s : State) (m : MethodId) (args : Array Value) (below : List Frame) (meth : Method) (c : Code) (Q : State → Prop) (D : va_G) (A1 A2 : ClassId) (A : Nat → Prop) (t nn : Nat → Nat) (g : Nat → Int → Int) (mi nL rt cF sF : Nat) (cc : ByteArray) (pcs : List Nat) (r : ex_R) (ad : Nat → Nat) (n : Nat) : Prop :=
  (∀ (ad' : Nat → Nat) (L' : Array Slot) (H' : Heap) (locs' : List Loc) (pc' : Nat) (z : Int), r.1 = [.inl z] → (rt = 1 ∨ (rt = 2 ∧ (z = 0 ∨ z = 1))) → decode cc pc' = .ok (.ireturn, 1) → ex_ext ad ad' n → ex_Y s D A1 A2 A t nn g nL ad' L' H' locs' [] r.1 r.2 → W p l e R s m args below meth c H' locs' cF sF Q (F0 m pc' L' [.int (Int32.ofInt z)])) ∧
  (∀ (ad' : Nat → Nat) (L' : Array Slot) (H' : Heap) (locs' : List Loc) (pc' : Nat), r.1 = [] → rt = 0 → decode cc pc' = .ok (.return_, 1) → ex_ext ad ad' n → ex_Y s D A1 A2 A t nn g nL ad' L' H' locs' [] [] r.2 → W p l e R s m args below meth c H' locs' cF sF Q (F0 m pc' L' [])) ∧
  (∀ (ad' : Nat → Nat) (L' : Array Slot) (H' : Heap) (locs' : List Loc) (pc' : Nat), mi = 241 → pcs[1]? = some pc' → r.1.length = nL → ex_ext ad ad' n → ex_Y s D A1 A2 A t nn g nL ad' L' H' locs' r.1 [] r.2 → W p l e R s m args below meth c H' locs' cF sF Q (F0 m pc' L' []))
theorem ex_KK.mono {p : Program} {l : Launch} {e : Env} {R : Room} {s : State} {m : MethodId} {args : Array Value} {below : List Frame} {meth : Method} {c : Code} {Q : State → Prop} {D : va_G} {A1 A2 : ClassId} {A : Nat → Prop} {t nn : Nat → Nat} {g : Nat → Int → Int} {mi nL rt cF sF : Nat} {cc : ByteArray} {pcs : List Nat} {r : ex_R} {ad ad1 : Nat → Nat} {n n1 : Nat} (h : ex_KK p l e R s m args below meth c Q D A1 A2 A t nn g mi nL rt cF sF cc pcs r ad n) (hx : ex_ext ad ad1 n) (hn : n ≤ n1) : ex_KK p l e R s m args below meth c Q D A1 A2 A t nn g mi nL rt cF sF cc pcs r ad1 n1 := by
  have tr : ∀ ad', ex_ext ad1 ad' n1 → ex_ext ad ad' n := fun ad' h9 k hk => (h9 k (by omega)).trans (hx k hk)
  exact ⟨fun ad' L' H' locs' pc' z a1 a2 a3 a4 a5 => h.1 ad' L' H' locs' pc' z a1 a2 a3 (tr ad' a4) a5, fun ad' L' H' locs' pc' a1 a2 a3 a4 a5 => h.2.1 ad' L' H' locs' pc' a1 a2 a3 (tr ad' a4) a5, fun ad' L' H' locs' pc' a1 a2 a3 a4 a5 => h.2.2 ad' L' H' locs' pc' a1 a2 a3 (tr ad' a4) a5⟩
theorem ex_Y.no {s : State} {D : va_G} {A1 A2 : ClassId} {A : Nat → Prop} {t nn : Nat → Nat} {g : Nat → Int → Int} {nL : Nat} {ad : Nat → Nat} {L : Array Slot} {H : Heap} {locs : List Loc} {ls st : List ex_V} {h : ex_H} (Y : ex_Y s D A1 A2 A t nn g nL ad L H locs ls st h) : ex_Y s D A1 A2 A t nn g nL ad L H locs [] st h := by
  obtain ⟨y1, y2, y3, y4, y5, y6, y7, y8⟩ := Y
  exact ⟨y1, y2, y3, y4, ex_has_sub y5 (fun q hq => by cases hq), Nat.zero_le _, (fun v hv => by cases hv), y8⟩
theorem ck_tgt {pcs : List Nat} {t : Int} (h : decide (t.toNat < pcs.length) = true) : ∃ pt, pcs[t.toNat]? = some pt := ⟨_, List.getElem?_eq_getElem (of_decide_eq_true h)⟩
theorem ck_lsw {pcs : List Nat} {pc : Nat} {df : Int} (a : Int) : ∀ (ps : List (Int × Int)), (ps.zip (ps.drop 1)).all (fun (a, next) => a.1 < next.1) = true → decide (df.toNat < pcs.length) = true → ps.all (fun q => decide (q.2.toNat < pcs.length)) = true →
    ((ps.map (fun q => (q.1, ck_of pcs pc q.2))).zip ((ps.map (fun q => (q.1, ck_of pcs pc q.2))).drop 1)).all (fun (a, next) => a.1 < next.1) = true ∧ (∃ pt, pcs[(Op.lookupswitch.offset ps df a).toNat]? = some pt) ∧ Op.lookupswitch.offset (ps.map (fun q => (q.1, ck_of pcs pc q.2))) (ck_of pcs pc df) a = ck_of pcs pc (Op.lookupswitch.offset ps df a) := by
  intro ps h1 h2 h3
  refine ⟨?_, ?_⟩
  · rw [← List.map_drop, List.zip_map, List.all_map]
    exact h1
  · clear h1
    induction ps with
    | nil => exact ⟨ck_tgt h2, rfl⟩
    | cons q ps ih =>
      rw [List.all_cons, Bool.and_eq_true] at h3
      obtain ⟨i1, i2⟩ := ih h3.2
      rw [List.map_cons, Op.lookupswitch.offset_cons, Op.lookupswitch.offset_cons]
      by_cases hq : q.1 = a
      · simp only [if_pos hq]
        refine ⟨ck_tgt h3.1, ?_⟩
        first | trivial | rfl
      · simp only [if_neg hq]
        exact ⟨i1, i2⟩
set_option maxHeartbeats 4000000 in
theorem ex_snd_all (l : Launch) : ∀ n, ex_snd l n := by
  intro n
  induction n with
  | zero =>
    intro mi d b ls st h r hrun
    simp [ex_run] at hrun
  | succ n ih =>
    intro mi d b ls st h r hrun hck kd own na nL rt y cc mL' ret pcs hmt hmy hpc p e R s m args below meth c Q D A1 A2 A t nn g X hR1 hR2 ad L H locs cells slots cF sF Y hlsn hc hs hcF hsF pc hpcb K1 K2 K3
    have KK : ex_KK p l e R s m args below meth c Q D A1 A2 A t nn g mi nL rt cF sF cc pcs r ad h.1.length := ⟨K1, K2, K3⟩
    clear K1 K2 K3
    have hrt : ex_rt mi = rt := by unfold ex_rt; rw [hmt]
    have hck0 := hck
    unfold ck_M at hck
    rw [hmt, hmy, hpc] at hck
    unfold ex_run at hrun
    rw [hrt] at hrun
    have gJ : ∀ b ls st h r, ex_run n d mi b ls st h = some r → ex_gr h.1 r.2.1 := fun b ls st h r e9 => ex_run_gr _ _ _ _ _ _ _ _ e9
    have gC : ∀ m' as h r, ex_k (fun d' => ex_run n d' m' 0 (ex_fr m' as) [] h) d = some r → ex_gr h.1 r.2.1 := by
      intro m' as h r e9
      cases d with
      | zero => cases e9
      | succ d => exact ex_run_gr _ _ _ _ _ _ _ _ e9
    -- along a block
    have inner : ∀ (is : List Instr) (pc : Nat) (ls st : List ex_V) (h : ex_H) (ad : Nat → Nat) (L : Array Slot) (H : Heap) (locs : List Loc) (cells slots : Nat), ck_L own kd pcs (decide (mi = 241)) cc pc is = true →
        ex_xs rt (fun b' ls' st' h' => ex_run n d mi b' ls' st' h') (fun m' as h' => ex_k (fun d' => ex_run n d' m' 0 (ex_fr m' as) [] h') d) is ls st h = some r →
        ex_Y s D A1 A2 A t nn g nL ad L H locs ls st h → ls.length = nL → cells + r.2.1.length = cF + h.1.length → slots + ex_tot r.2.1 = sF + ex_tot h.1 → ex_KK p l e R s m args below meth c Q D A1 A2 A t nn g mi nL rt cF sF cc pcs r ad h.1.length →
        W p l e R s m args below meth c H locs cells slots Q (F0 m pc L (st.map (ex_vv ad))) := by
      clear hc hs Y KK hrun hpcb hlsn
      intro is
      induction is with
      | nil => intro pc ls st h ad L H locs cells slots _ hxs; cases hxs
      | cons i is ihs =>
        intro pc ls st h ad L H locs cells slots hckL hxs Y hlsn hc hs KK
        -- what goes on
        have cont : ∀ (len : Nat) (ls' st' : List ex_V) (h' : ex_H), ck_L own kd pcs (decide (mi = 241)) cc (pc + len) is = true → ex_st rt ls st h i = oN ls' st' h' → ex_K p l e R s m args below meth c Q D A1 A2 A t nn g nL cells slots ad h (pc + len) ls' st' h' := by
          intro len ls' st' h' hr9 hst ad' L' H' locs' cells' slots' hext hcc hss Y'
          have hx9 := hxs
          unfold ex_xs at hx9
          rw [hst] at hx9
          exact ihs (pc + len) ls' st' h' ad' L' H' locs' cells' slots' hr9 hx9 Y' (by rw [ex_st_len hst]; exact hlsn) (by omega) (by omega) (KK.mono hext (ex_st_gr hst).1)
        have budget : ∀ (ls' st' : List ex_V) (h' : ex_H), ex_st rt ls st h i = oN ls' st' h' → cells + h'.1.length ≤ R.cells + h.1.length ∧ slots + ex_tot h'.1 ≤ R.slots + ex_tot h.1 := by
          intro ls' st' h' hst
          have hx9 := hxs
          unfold ex_xs at hx9
          rw [hst] at hx9
          have hgr := ex_xs_gr gJ gC _ _ _ _ _ hx9
          have g1 := hgr.1
          have g2 := hgr.2
          constructor <;> omega
        -- a jump
        have jump : ∀ (b' : Nat) (pt : Nat) (st' : List ex_V), pcs[b']? = some pt → ex_run n d mi b' ls st' h = some r → (∀ v ∈ st', ex_rg h.1.length v) → W p l e R s m args below meth c H locs cells slots Q (F0 m pt L (st'.map (ex_vv ad))) := fun b' pt st' hb' hr9 hv9 =>
          ih mi d b' ls st' h r hr9 hck0 kd own na nL rt y cc mL' ret pcs hmt hmy hpc p e R s m args below meth c Q D A1 A2 A t nn g X hR1 hR2 ad L H locs cells slots cF sF (Y.sk hv9) hlsn hc hs hcF hsF pt hb' KK.1 KK.2.1 KK.2.2
        have some9 : ∃ o, ex_st rt ls st h i = some o := by
          cases hst : ex_st rt ls st h i with
          | none => unfold ex_xs at hxs; rw [hst] at hxs; cases hxs
          | some o => exact ⟨o, rfl⟩
        obtain ⟨o9, ho9⟩ := some9
        have y8 := Y.2.2.2.2.2.2.2
        -- a call
        have call9 : ∀ (k mi' : Nat), (i = .invokestatic mi' ∧ k = 0) ∨ (i = .invokevirtual mi' ∧ k = 1) ∨ (i = .invokespecial mi' ∧ k = 2) → ex_ca k mi' st h = some o9 → ∀ (raw : Instr) (len : Nat), decode cc pc = .ok (raw, len) → (raw, len) ∈ rw_i own kd pcs pc i → ck_L own kd pcs (decide (mi = 241)) cc (pc + len) is = true → W p l e R s m args below meth c H locs cells slots Q (F0 m pc L (st.map (ex_vv ad))) := by
          intro k mi' hi hca raw len hd hm hr9
          have hoc : ∃ as rest, o9 = .inr (.inr (.inl (mi', as, rest, h))) := by
            unfold ex_ca at hca
            repeat' split at hca
            all_goals first | (cases hca; done) | (cases hca; exact ⟨_, _, rfl⟩)
          obtain ⟨as, rest, rfl⟩ := hoc
          have hx9 := hxs
          unfold ex_xs at hx9
          rw [ho9] at hx9
          dsimp only at hx9
          cases d with
          | zero => cases hx9
          | succ d' =>
            cases hrun9 : ex_run n d' mi' 0 (ex_fr mi' as) [] h with
            | none =>
              rw [show ex_k (fun d' => ex_run n d' mi' 0 (ex_fr mi' as) [] h) (d' + 1) = none from hrun9] at hx9
              cases hx9
            | some q9 =>
              obtain ⟨vs, h2⟩ := q9
              rw [show ex_k (fun d' => ex_run n d' mi' 0 (ex_fr mi' as) [] h) (d' + 1) = some (vs, h2) from hrun9] at hx9
              dsimp only at hx9
              have hgr := ex_xs_gr gJ gC _ _ _ _ _ hx9
              have hgr2 := ex_run_gr _ _ _ _ _ _ _ _ hrun9
              have g1 := hgr.1
              have g2 := hgr.2
              have g3 := hgr2.1
              have g4 := hgr2.2
              dsimp only at g1 g2 g3 g4
              exact sw_call (k := k) ih (by rcases hi with ⟨a1, a2⟩ | ⟨a1, a2⟩ | ⟨a1, a2⟩; exact Or.inl ⟨a2, a1⟩; exact Or.inr (Or.inl ⟨a2, a1⟩); exact Or.inr (Or.inr ⟨a2, a1⟩)) X Y hd hm hca hrun9 (by omega) (by omega) (by omega) (by omega) (fun ad' H' locs' cells' slots' hext hcc hss Y' => ihs (pc + len) ls (vs ++ rest) h2 ad' L H' locs' cells' slots' hr9 hx9 Y' hlsn (by omega) (by omega) (KK.mono hext g3))
        cases i
        case iload k =>
          obtain ⟨raw, len, hd, hm, -, hr9⟩ := ck_step hckL
          obtain ⟨ls', st', h', hst⟩ := ex_st_N rfl ho9
          exact sw_iload X Y hd hm hst (cont len ls' st' h' hr9 hst)
        case aload k =>
          obtain ⟨raw, len, hd, hm, -, hr9⟩ := ck_step hckL
          obtain ⟨ls', st', h', hst⟩ := ex_st_N rfl ho9
          exact sw_aload X Y hd hm hst (cont len ls' st' h' hr9 hst)
        case istore k =>
          obtain ⟨raw, len, hd, hm, -, hr9⟩ := ck_step hckL
          obtain ⟨ls', st', h', hst⟩ := ex_st_N rfl ho9
          exact sw_istore X Y hd hm hst (cont len ls' st' h' hr9 hst)
        case astore k =>
          obtain ⟨raw, len, hd, hm, -, hr9⟩ := ck_step hckL
          obtain ⟨ls', st', h', hst⟩ := ex_st_N rfl ho9
          exact sw_astore X Y hd hm hst (cont len ls' st' h' hr9 hst)
        case iinc k x =>
          obtain ⟨raw, len, hd, hm, -, hr9⟩ := ck_step hckL
          obtain ⟨ls', st', h', hst⟩ := ex_st_N rfl ho9
          exact sw_iinc X Y hd hm hst (cont len ls' st' h' hr9 hst)
        case sipush v =>
          obtain ⟨raw, len, hd, hm, -, hr9⟩ := ck_step hckL
          obtain ⟨ls', st', h', hst⟩ := ex_st_N rfl ho9
          exact sw_push X Y hd hm hst (cont len ls' st' h' hr9 hst)
        case getfield q =>
          obtain ⟨raw, len, hd, hm, -, hr9⟩ := ck_step hckL
          obtain ⟨ls', st', h', hst⟩ := ex_st_N rfl ho9
          exact sw_get X Y hd hm hst (cont len ls' st' h' hr9 hst)
        case putfield q =>
          obtain ⟨raw, len, hd, hm, -, hr9⟩ := ck_step hckL
          obtain ⟨ls', st', h', hst⟩ := ex_st_N rfl ho9
          exact sw_put X Y hd hm hst (cont len ls' st' h' hr9 hst)
        case getstatic k =>
          obtain ⟨raw, len, hd, hm, -, hr9⟩ := ck_step hckL
          obtain ⟨ls', st', h', hst⟩ := ex_st_N rfl ho9
          exact sw_gets X Y hd hm hst (cont len ls' st' h' hr9 hst)
        case ifnull tg =>
          obtain ⟨raw, len, hd, hm, -, hr9⟩ := ck_step hckL
          obtain ⟨ls', st', h', hst⟩ := ex_st_N rfl ho9
          exact sw_ifnull X Y hd hm hst (cont len ls' st' h' hr9 hst)
        case new k =>
          obtain ⟨raw, len, hd, hm, -, hr9⟩ := ck_step hckL
          obtain ⟨ls', st', h', hst⟩ := ex_st_N rfl ho9
          exact sw_new X Y hd hm hst (budget ls' st' h' hst).1 (budget ls' st' h' hst).2 (cont len ls' st' h' hr9 hst)
        case anewarray k =>
          obtain ⟨raw, len, hd, hm, -, hr9⟩ := ck_step hckL
          obtain ⟨ls', st', h', hst⟩ := ex_st_N rfl ho9
          exact sw_anew X Y hd hm hst (budget ls' st' h' hst).1 (budget ls' st' h' hst).2 (cont len ls' st' h' hr9 hst)
        case invokedynamic k =>
          obtain ⟨raw, len, hd, hm, -, hr9⟩ := ck_step hckL
          obtain ⟨ls', st', h', hst⟩ := ex_st_N rfl ho9
          exact sw_dyn (by omega) (by omega) X Y hd hm hst (cont len ls' st' h' hr9 hst)
        case newarray at9 =>
          cases at9
          case int =>
            obtain ⟨raw, len, hd, hm, -, hr9⟩ := ck_step hckL
            obtain ⟨ls', st', h', hst⟩ := ex_st_N rfl ho9
            cases List.mem_singleton.mp hm
            exact sw_newa X Y hd hst (budget ls' st' h' hst).1 (budget ls' st' h' hst).2 (cont _ ls' st' h' hr9 hst)
          all_goals cases ho9
        case i2l =>
          obtain ⟨raw, len, hd, hm, -, hr9⟩ := ck_step hckL
          obtain ⟨ls', st', h', hst⟩ := ex_st_N rfl ho9
          cases List.mem_singleton.mp hm
          exact sw_i2l X Y hd hst (cont _ ls' st' h' hr9 hst)
        case ladd =>
          obtain ⟨raw, len, hd, hm, -, hr9⟩ := ck_step hckL
          obtain ⟨ls', st', h', hst⟩ := ex_st_N rfl ho9
          cases List.mem_singleton.mp hm
          exact sw_ladd X Y hd hst (cont _ ls' st' h' hr9 hst)
        case lcmp =>
          obtain ⟨raw, len, hd, hm, -, hr9⟩ := ck_step hckL
          obtain ⟨ls', st', h', hst⟩ := ex_st_N rfl ho9
          cases List.mem_singleton.mp hm
          exact sw_lcmp X Y hd hst (cont _ ls' st' h' hr9 hst)
        case dup =>
          obtain ⟨raw, len, hd, hm, -, hr9⟩ := ck_step hckL
          obtain ⟨ls', st', h', hst⟩ := ex_st_N rfl ho9
          cases List.mem_singleton.mp hm
          exact sw_dup X Y hd hst (cont _ ls' st' h' hr9 hst)
        case dup2 =>
          obtain ⟨raw, len, hd, hm, -, hr9⟩ := ck_step hckL
          obtain ⟨ls', st', h', hst⟩ := ex_st_N rfl ho9
          cases List.mem_singleton.mp hm
          exact sw_dup2 X Y hd hst (cont _ ls' st' h' hr9 hst)
        case pop =>
          obtain ⟨raw, len, hd, hm, -, hr9⟩ := ck_step hckL
          obtain ⟨ls', st', h', hst⟩ := ex_st_N rfl ho9
          cases List.mem_singleton.mp hm
          exact sw_pop X Y hd hst (cont _ ls' st' h' hr9 hst)
        case arraylength =>
          obtain ⟨raw, len, hd, hm, -, hr9⟩ := ck_step hckL
          obtain ⟨ls', st', h', hst⟩ := ex_st_N rfl ho9
          cases List.mem_singleton.mp hm
          exact sw_alen X Y hd hst (cont _ ls' st' h' hr9 hst)
        case iaload =>
          obtain ⟨raw, len, hd, hm, -, hr9⟩ := ck_step hckL
          obtain ⟨ls', st', h', hst⟩ := ex_st_N rfl ho9
          cases List.mem_singleton.mp hm
          exact sw_iald X Y hd hst (cont _ ls' st' h' hr9 hst)
        case iastore =>
          obtain ⟨raw, len, hd, hm, -, hr9⟩ := ck_step hckL
          obtain ⟨ls', st', h', hst⟩ := ex_st_N rfl ho9
          cases List.mem_singleton.mp hm
          exact sw_iast X Y hd hst (cont _ ls' st' h' hr9 hst)
        case aaload =>
          obtain ⟨raw, len, hd, hm, -, hr9⟩ := ck_step hckL
          obtain ⟨ls', st', h', hst⟩ := ex_st_N rfl ho9
          cases List.mem_singleton.mp hm
          exact sw_aald X Y hd hst (cont _ ls' st' h' hr9 hst)
        case aastore =>
          obtain ⟨raw, len, hd, hm, -, hr9⟩ := ck_step hckL
          obtain ⟨ls', st', h', hst⟩ := ex_st_N rfl ho9
          cases List.mem_singleton.mp hm
          exact sw_aast X Y hd hst (cont _ ls' st' h' hr9 hst)
        case iadd =>
          obtain ⟨raw, len, hd, hm, -, hr9⟩ := ck_step hckL
          obtain ⟨ls', st', h', hst⟩ := ex_st_N rfl ho9
          cases List.mem_singleton.mp hm
          exact sw_bin (F := (· + ·)) Y hst (fun a b => by rw [i_of, Int32.ofInt_add]) (fun a b => i_wr _) (fun k9 => lv_iadd X.1 X.2.1 hd k9) (cont _ ls' st' h' hr9 hst)
        case isub =>
          obtain ⟨raw, len, hd, hm, -, hr9⟩ := ck_step hckL
          obtain ⟨ls', st', h', hst⟩ := ex_st_N rfl ho9
          cases List.mem_singleton.mp hm
          exact sw_bin (F := (· - ·)) Y hst (fun a b => by rw [i_of, Int32.ofInt_sub]) (fun a b => i_wr _) (fun k9 => lv_isub X.1 X.2.1 hd k9) (cont _ ls' st' h' hr9 hst)
        case imul =>
          obtain ⟨raw, len, hd, hm, -, hr9⟩ := ck_step hckL
          obtain ⟨ls', st', h', hst⟩ := ex_st_N rfl ho9
          cases List.mem_singleton.mp hm
          exact sw_bin (F := (· * ·)) Y hst (fun a b => by rw [i_of, Int32.ofInt_mul]) (fun a b => i_wr _) (fun k9 => lv_imul X.1 X.2.1 hd k9) (cont _ ls' st' h' hr9 hst)
        case iand =>
          obtain ⟨raw, len, hd, hm, -, hr9⟩ := ck_step hckL
          obtain ⟨ls', st', h', hst⟩ := ex_st_N rfl ho9
          cases List.mem_singleton.mp hm
          exact sw_bin (F := (· &&& ·)) Y hst (fun a b => by unfold ex_and; rw [Int32.ofInt_toInt]) (fun a b => i_wr _) (fun k9 => lv_iand X.1 X.2.1 hd k9) (cont _ ls' st' h' hr9 hst)
        case ior =>
          obtain ⟨raw, len, hd, hm, -, hr9⟩ := ck_step hckL
          obtain ⟨ls', st', h', hst⟩ := ex_st_N rfl ho9
          cases List.mem_singleton.mp hm
          exact sw_bin (F := (· ||| ·)) Y hst (fun a b => by unfold ex_or; rw [Int32.ofInt_toInt]) (fun a b => i_wr _) (fun k9 => lv_ior X.1 X.2.1 hd k9) (cont _ ls' st' h' hr9 hst)
        case ixor =>
          obtain ⟨raw, len, hd, hm, -, hr9⟩ := ck_step hckL
          obtain ⟨ls', st', h', hst⟩ := ex_st_N rfl ho9
          cases List.mem_singleton.mp hm
          exact sw_bin (F := (· ^^^ ·)) Y hst (fun a b => by unfold ex_xor; rw [Int32.ofInt_toInt]) (fun a b => i_wr _) (fun k9 => lv_ixor X.1 X.2.1 hd k9) (cont _ ls' st' h' hr9 hst)
        case ishl =>
          obtain ⟨raw, len, hd, hm, -, hr9⟩ := ck_step hckL
          obtain ⟨ls', st', h', hst⟩ := ex_st_N rfl ho9
          cases List.mem_singleton.mp hm
          exact sw_bin (F := (fun x y => x <<< (y &&& 31))) Y hst (fun a b => by unfold ex_shl; rw [Int32.ofInt_toInt]) (fun a b => i_wr _) (fun k9 => lv_ishl X.1 X.2.1 hd k9) (cont _ ls' st' h' hr9 hst)
        case ishr =>
          obtain ⟨raw, len, hd, hm, -, hr9⟩ := ck_step hckL
          obtain ⟨ls', st', h', hst⟩ := ex_st_N rfl ho9
          cases List.mem_singleton.mp hm
          exact sw_bin (F := (fun x y => x >>> (y &&& 31))) Y hst (fun a b => by unfold ex_shr; rw [Int32.ofInt_toInt]) (fun a b => i_wr _) (fun k9 => lv_ishr X.1 X.2.1 hd k9) (cont _ ls' st' h' hr9 hst)
        case iushr =>
          obtain ⟨raw, len, hd, hm, -, hr9⟩ := ck_step hckL
          obtain ⟨ls', st', h', hst⟩ := ex_st_N rfl ho9
          cases List.mem_singleton.mp hm
          exact sw_bin (F := (fun x y => (x.toUInt32 >>> (y.toUInt32 &&& Int32.toUInt32 31)).toInt32)) Y hst (fun a b => by unfold ex_ushr; rw [Int32.ofInt_toInt]) (fun a b => i_wr _) (fun k9 => lv_iushr X.1 X.2.1 hd rfl k9) (cont _ ls' st' h' hr9 hst)
        case idiv =>
          obtain ⟨raw, len, hd, hm, -, hr9⟩ := ck_step hckL
          obtain ⟨ls', st', h', hst⟩ := ex_st_N rfl ho9
          cases List.mem_singleton.mp hm
          exact sw_div (F := (fun x y => x / y)) (f := ex_div) hst Y (fun a b => by unfold ex_div; rw [Int32.ofInt_toInt]) (fun a b => i_wr _) (fun hne k9 => lv_idiv X.1 X.2.1 hd hne k9) (cont _ ls' st' h' hr9 hst)
        case irem =>
          obtain ⟨raw, len, hd, hm, -, hr9⟩ := ck_step hckL
          obtain ⟨ls', st', h', hst⟩ := ex_st_N rfl ho9
          cases List.mem_singleton.mp hm
          exact sw_div (F := (fun x y => x - x / y * y)) (f := ex_rem) hst Y (fun a b => by unfold ex_rem; rw [Int32.ofInt_toInt]) (fun a b => i_wr _) (fun hne k9 => lv_irem X.1 X.2.1 hd hne k9) (cont _ ls' st' h' hr9 hst)
        case invokestatic mi' =>
          obtain ⟨raw, len, hd, hm, -, hr9⟩ := ck_step hckL
          exact call9 0 mi' (Or.inl ⟨rfl, rfl⟩) ho9 raw len hd hm hr9
        case invokevirtual mi' =>
          obtain ⟨raw, len, hd, hm, -, hr9⟩ := ck_step hckL
          exact call9 1 mi' (Or.inr (Or.inl ⟨rfl, rfl⟩)) ho9 raw len hd hm hr9
        case invokespecial mi' =>
          obtain ⟨raw, len, hd, hm, -, hr9⟩ := ck_step hckL
          exact call9 2 mi' (Or.inr (Or.inr ⟨rfl, rfl⟩)) ho9 raw len hd hm hr9
        case goto t0 =>
          obtain ⟨raw, len, hd, hm, ht, hr9⟩ := ck_step hckL
          cases List.mem_singleton.mp hm
          obtain ⟨pt, hpt⟩ := ck_tgt ht
          exact lv_goto X.1 X.2.1 hd (ck_of_eq hpt) (jump _ pt st hpt hxs y8)
        case goto_w t0 => exact jump _ pc st (of_decide_eq_true hckL) hxs y8
        case if_icmp c0 t0 =>
          obtain ⟨raw, len, hd, hm, ht, hr9⟩ := ck_step hckL
          cases List.mem_singleton.mp hm
          obtain ⟨pt, hpt⟩ := ck_tgt ht
          rcases st with _ | ⟨b9 | b9 | b9, _ | ⟨a9 | a9 | a9, st0⟩⟩
          · cases ho9
          · cases ho9
          · obtain ⟨z1, z2, z3⟩ := ex_top2 y8
            refine sw_icmp X.1 X.2.1 z2 z1 hd hpt (fun hT9 => ?_) (fun hF9 => ?_)
            · have hst : ex_st rt ls (.inl b9 :: .inl a9 :: st0) h (.if_icmp c0 t0) = oJ t0.toNat ls st0 h := ex_if_t hT9
              unfold ex_xs at hxs
              rw [hst] at hxs
              exact jump _ pt st0 hpt hxs z3
            · have hst : ex_st rt ls (.inl b9 :: .inl a9 :: st0) h (.if_icmp c0 t0) = oN ls st0 h := ex_if_f hF9
              exact (cont 3 ls st0 h hr9 hst).go (Y.sk z3)
          all_goals cases ho9
        case ifCond c0 t0 =>
          obtain ⟨raw, len, hd, hm, ht, hr9⟩ := ck_step hckL
          cases List.mem_singleton.mp hm
          obtain ⟨pt, hpt⟩ := ck_tgt ht
          rcases st with _ | ⟨a9 | a9 | a9, st0⟩
          · cases ho9
          · obtain ⟨z2, z3⟩ := ex_top1 y8
            refine sw_if X.1 X.2.1 z2 hd hpt (fun hT9 => ?_) (fun hF9 => ?_)
            · have hst : ex_st rt ls (.inl a9 :: st0) h (.ifCond c0 t0) = oJ t0.toNat ls st0 h := ex_if_t hT9
              unfold ex_xs at hxs
              rw [hst] at hxs
              exact jump _ pt st0 hpt hxs z3
            · have hst : ex_st rt ls (.inl a9 :: st0) h (.ifCond c0 t0) = oN ls st0 h := ex_if_f hF9
              exact (cont 3 ls st0 h hr9 hst).go (Y.sk z3)
          all_goals cases ho9
        case tableswitch df lo hi of9 =>
          obtain ⟨raw, len, hd, hm, ht, hr9⟩ := ck_step hckL
          cases List.mem_singleton.mp hm
          simp only [ck_t, Bool.and_eq_true] at ht
          rcases st with _ | ⟨a9 | a9 | a9, st0⟩
          · cases ho9
          · obtain ⟨z2, z3⟩ := ex_top1 y8
            have hto : (Int32.ofInt a9).toInt = a9 := i_to z2
            by_cases hout : a9 < lo ∨ hi < a9
            · obtain ⟨pt, hpt⟩ := ck_tgt ht.1
              have hst : ex_st rt ls (.inl a9 :: st0) h (.tableswitch df lo hi of9) = oJ df.toNat ls st0 h := by dsimp only [ex_st]; rw [if_pos hout]
              unfold ex_xs at hxs
              rw [hst] at hxs
              exact lv_tableOut X.1 X.2.1 hd (by rw [hto]; exact hout) (ck_of_eq hpt) (jump _ pt st0 hpt hxs z3)
            · cases hof : of9[(a9 - lo).toNat]? with
              | none =>
                have hst : ex_st rt ls (.inl a9 :: st0) h (.tableswitch df lo hi of9) = none := by dsimp only [ex_st]; rw [if_neg hout, hof]
                rw [hst] at ho9
                cases ho9
              | some t9 =>
                have hmem : t9 ∈ of9.toList := by
                  rw [← Array.getElem?_toList] at hof
                  exact List.mem_of_getElem? hof
                obtain ⟨pt, hpt⟩ := ck_tgt (List.all_eq_true.mp ht.2 t9 hmem)
                have hst : ex_st rt ls (.inl a9 :: st0) h (.tableswitch df lo hi of9) = oJ t9.toNat ls st0 h := by dsimp only [ex_st]; rw [if_neg hout, hof]
                unfold ex_xs at hxs
                rw [hst] at hxs
                exact lv_tableIn X.1 X.2.1 hd (by rw [hto]; omega) (by rw [hto]; omega) (off := ck_of pcs pc t9) (by rw [hto, Array.getElem?_map, hof]; rfl) (ck_of_eq hpt) (jump _ pt st0 hpt hxs z3)
          all_goals cases ho9
        case lookupswitch df ps =>
          obtain ⟨raw, len, hd, hm, ht, hr9⟩ := ck_step hckL
          dsimp only [rw_i] at hm
          split at hm
          · next hord =>
            cases List.mem_singleton.mp hm
            simp only [ck_t, Bool.and_eq_true] at ht
            rcases st with _ | ⟨a9 | a9 | a9, st0⟩
            · cases ho9
            · obtain ⟨z2, z3⟩ := ex_top1 y8
              have hto : (Int32.ofInt a9).toInt = a9 := i_to z2
              obtain ⟨w1, w2, w3⟩ := ck_lsw (pcs := pcs) (pc := pc) (df := df) a9 ps.toList hord ht.1 ht.2
              obtain ⟨pt, hpt⟩ := w2
              exact lv_lookup X.1 X.2.1 hd (by rw [Array.toList_map]; exact w1) (off := ck_of pcs pc (Op.lookupswitch.offset ps.toList df a9)) (by rw [hto, Array.toList_map]; exact w3) (ck_of_eq hpt) (jump _ pt st0 hpt hxs z3)
            all_goals cases ho9
          · cases hm
        case ireturn =>
          obtain ⟨raw, len, hd, hm, ht, hr9⟩ := ck_step hckL
          cases List.mem_singleton.mp hm
          rcases st with _ | ⟨a9 | a9 | a9, _ | ⟨b9, st0⟩⟩
          · cases ho9
          · unfold ex_xs at hxs
            rw [ho9] at hxs
            dsimp only [ex_st] at ho9
            split at ho9
            · next hz =>
              cases ho9
              cases hxs
              have e1 : cells = cF := by dsimp only at hc; omega
              have e2 : slots = sF := by dsimp only at hs; omega
              subst e1
              subst e2
              exact KK.1 ad L H locs pc a9 rfl hz hd (fun _ _ => rfl) Y.no
            · cases ho9
          all_goals cases ho9
        case return_ =>
          obtain ⟨raw, len, hd, hm, ht, hr9⟩ := ck_step hckL
          cases List.mem_singleton.mp hm
          rcases st with _ | ⟨a9, st0⟩
          · unfold ex_xs at hxs
            rw [ho9] at hxs
            dsimp only [ex_st] at ho9
            split at ho9
            · next hz =>
              cases ho9
              cases hxs
              have e1 : cells = cF := by dsimp only at hc; omega
              have e2 : slots = sF := by dsimp only at hs; omega
              subst e1
              subst e2
              exact KK.2.1 ad L H locs pc rfl hz hd (fun _ _ => rfl) Y.no
            · cases ho9
          · cases ho9
        case ret k =>
          have hlaw : (decide (mi = 241) && decide (k = 1 ∧ pcs[1]? = some pc)) = true := hckL
          rw [Bool.and_eq_true] at hlaw
          rcases st with _ | ⟨a9, st0⟩
          · unfold ex_xs at hxs
            rw [ho9] at hxs
            dsimp only [ex_st] at ho9
            cases ho9
            cases hxs
            have e1 : cells = cF := by dsimp only at hc; omega
            have e2 : slots = sF := by dsimp only at hs; omega
            subst e1
            subst e2
            exact KK.2.2 ad L H locs pc (of_decide_eq_true hlaw.1) (of_decide_eq_true hlaw.2).2 hlsn (fun _ _ => rfl) Y
          · cases ho9
        all_goals cases ho9
    cases hbs : ex_bs[mi]? with
    | none => rw [hbs] at hck; cases hck
    | some bs =>
      rw [hbs] at hck
      dsimp only at hck
      simp only [Bool.and_eq_true, decide_eq_true_eq] at hck
      obtain ⟨q1, q2, q3⟩ := hck
      have hlt : b < bs.length := by rw [q1]; exact (List.getElem?_eq_some_iff.mp hpcb).1
      have hbk : ex_bk mi b = bs[b] := by
        have e9 : ex_bs.getD mi [] = bs := by rw [List.getD_eq_getElem?_getD, hbs]; rfl
        show (ex_bs.getD mi []).getD b [] = _
        rw [e9, List.getD_eq_getElem?_getD, List.getElem?_eq_getElem hlt]
        rfl
      rw [hbk] at hrun
      have hz : (List.zip pcs bs)[b]? = some (pc, bs[b]) := by
        rw [List.getElem?_zip_eq_some]
        exact ⟨hpcb, List.getElem?_eq_getElem hlt⟩
      have hcL := List.all_eq_true.mp q3 (pc, bs[b]) (List.mem_of_getElem? hz)
      exact inner bs[b] pc ls st h ad L H locs cells slots hcL hrun Y hlsn hc hs KK
