-- ===== end of PART A; then your names; then what follows =====
/-! THE CLAIM OUT OF ONE WALK OF THE LAW'S BODY. Your part is whole_start (and what it stands on); all else here is the same for every law, but numbers. -/
def R_law : String := "CellarCarsLaw"
def lw_P (b : Addr) (xs : List Int32) (args : Array Value) (s : State) : Prop := args = #[.ref b] ∧ s.IntsAt b xs ∧ xs.length ≤ 3584 ∧ (Jvm.Cond.and given_1 narrow_1).before args s = true
def lw_Q (_ : Array Value) (s : State) (o : Outcome) (t : State) : Prop := o = .returned (some (.int 1)) ∧ Framed s o t [] 600000 7302250
def lw_Z (below : List Frame) (a : Array Value) (s : State) : State → Prop := fun t => ∃ o, t.status = .running ∧ Ended t below o ∧ lw_Q a s o t
/-- the law's own end, with 1 on the stack, nothing written that was there before, its room as the claim has it -/
theorem lw_ret {p : Program} {l : Launch} {e : Env} {s : State} {m : MethodId} {below : List Frame} {meth : Method} {c : Code} {b : Nat} (hx : p.tables.exec = Jvm.exec) (hb : c.code = code) (hr : meth.sig.returnType = ret) (hlocks : meth.locks = false) {pc : Nat} {H : Heap} {ls : Array Slot} (hdg : decode code pc = .ok (.ireturn, 1)) : W p l e room_1 s m #[Value.ref b] below meth c H [] 600000 7302250 (lw_Z below #[Value.ref b] s) (F0 m pc ls [.int 1]) := by
  intro T hT X
  obtain ⟨fs, hret, hrun, hended, hW, hframe⟩ := X.leave (v := some (.int 1)) (hlocks := hlocks) (fun h => by rw [hr] at h; cases h)
  have hmeth' : T.vm.method? m = some meth := X.method'
  refine ⟨T.setFrames fs, ?_, .returned (some (.int 1)), hrun, hended, rfl, ⟨_, rfl⟩, hW, hframe⟩
  jvm_step X.here [X.here.top, hx, hb, hdg, hmeth', hr, ret, narrow_b1]
  (try refine ⟨rfl, ?_⟩); (try refine ⟨rfl, ?_⟩)
  first | (intro acts; rw [hret _ acts rfl rfl rfl]) | rw [hret _ _ rfl rfl rfl]
  exact Steps.refl _
/-- what holds at the law's entry: the machine, the code, the tables' words (any of lw_tbl by 'hts w (by decide +kernel)'), the script of L ints xs at the cell b, what the Statement gives of the start (any of its parts by flat_of_before) -/
def lw_At (p : Program) (s : State) (m : MethodId) (meth : Method) (c : Code) (b L : Nat) (xs : Nat → Int32) : Prop :=
  p.tables.exec = Jvm.exec ∧ c.code = code ∧ meth.sig.returnType = ret ∧ c.maxLocals = 4 ∧ s.vm.findClass R_law = some m.cls ∧ (∀ w ∈ lw_tbl, w.before #[Value.ref b] s = true) ∧ va_X b L xs s s.heap ∧ b < s.heap.size ∧ meth.locks = false ∧ (Jvm.Cond.and given_1 narrow_1).before #[Value.ref b] s = true
/-! from the pure facts of the law's loop to the walk of the law -/
theorem lw_mt : ex_mt[241]? = some (0, 16, 1, 4, 2) := by decide +kernel
theorem lw_my : ex_my[241]? = some (yL_law, cL_law, 4, some .boolean) := rfl
theorem lw_pc : ex_pc[241]? = some lw_pcs := rfl
theorem lw_q1 : lw_pcs[1]? = some 18 ∧ lw_pcs[63]? = some 18 ∧ lw_pcs[0]? = some 0 := by decide +kernel
def sh_cv (n : Nat) : ex_C → Bool
  | .inl _ => true
  | .inr (.inl r) => r.all (fun x => match x with
    | some b => decide (b < n)
    | none => true)
  | .inr (.inr (c, f)) => f.all (fun x => match x with
    | some (some b) => decide (b < n)
    | _ => true) && decide (f.map Option.isSome = (ex_cf.getD c []).map Option.isSome)
theorem sh_cv_ok {n : Nat} {c : ex_C} (h : sh_cv n c = true) : ex_cv n c := by
  obtain z | r | ⟨c, f⟩ := c
  · trivial
  · intro k b hb
    have := List.all_eq_true.mp h (some b) (List.mem_of_getElem? hb)
    exact of_decide_eq_true this
  · rw [sh_cv, Bool.and_eq_true] at h
    exact ⟨fun k b hb => of_decide_eq_true (List.all_eq_true.mp h.1 (some (some b)) (List.mem_of_getElem? hb)), of_decide_eq_true h.2⟩
set_option maxRecDepth 100000 in
theorem sh_all : SHT.all (sh_cv 449) = true ∧ SHT.length = 448 ∧ ex_tot SHT ≤ 20000 := by decide +kernel
theorem sh_len (L : Nat) : (SH L).length = 449 := by show SHT.length + 1 = 449; rw [sh_all.2.1]
theorem sh_tot (L : Nat) : ex_tot (SH L) = L + ex_tot SHT := by show (List.map ex_sz (cA L :: SHT)).sum = _; rw [List.map_cons, List.sum_cons]; rfl
theorem sh_ok (L : Nat) : ∀ (a : Nat) (c : ex_C), (SH L)[a]? = some c → ex_cv 449 c := by
  intro a c hc
  have hm := List.mem_of_getElem? hc
  rcases List.mem_cons.mp hm with rfl | h
  · trivial
  · exact sh_cv_ok (List.all_eq_true.mp sh_all.1 c h)
section LWS
variable {p : Program} {l : Launch} {e : Env} {s : State} {m : MethodId} {below : List Frame} {meth : Method} {c : Code} {b : Nat}
variable {D : va_G} {A1 A2 : ClassId} {A : Nat → Prop} {t nn : Nat → Nat} {g : Nat → Int → Int} {L : Nat}
/-- cells that came last are forgotten -/
theorem ex_Y.drop {nL : Nat} {ad : Nat → Nat} {La : Array Slot} {H : Heap} {locs : List Loc} {ls : List ex_V} {gb : List ex_C} {σ : ex_S} (Y : ex_Y s D A1 A2 A t nn g nL ad La H locs ls [] (SH L ++ gb, σ)) (hls : ∀ v ∈ ls, ex_rg 449 v) : ex_Y s D A1 A2 A t nn g nL ad La H locs ls [] (SH L, σ) := by
  obtain ⟨y1, y2, y3, ⟨b1, b2, b3, b4⟩, y5, y6, y7, y8⟩ := Y
  have hpre : ∀ (k : Nat) (q : Nat × va_E), (ex_W ad A1 A2 (SH L, σ))[k]? = some q → (ex_W ad A1 A2 (SH L ++ gb, σ))[k]? = some q := by
    intro k q hk
    have e1 : k = (4 + k) - 4 := by omega
    rw [e1, ex_W_at _ _ _ _ (by omega)] at hk
    rw [e1, ex_W_at _ _ _ _ (by omega)]
    cases hc : (SH L)[4 + k]? with
    | none =>
      have hk' : Option.map _ ((SH L)[4 + k]?) = some q := hk
      rw [hc] at hk'
      cases hk'
    | some cx =>
      have hk' : Option.map _ ((SH L)[4 + k]?) = some q := hk
      rw [hc] at hk'
      have hl := (List.getElem?_eq_some_iff.mp hc).1
      show Option.map _ ((SH L ++ gb)[4 + k]?) = some q
      rw [List.getElem?_append_left hl, hc]
      exact hk'
  refine ⟨fun k q hk => y1 k q (hpre k q hk), ⟨fun i j x y hi hj => y2.1 i j x y (hpre i x hi) (hpre j y hj), fun k q hk => y2.2 k q (hpre k q hk)⟩, y3, ⟨b1, fun k hk => ?_, fun a cx hc => ?_, ?_⟩, y5, y6, ?_, fun v hv => by cases hv⟩
  · obtain ⟨c1, c2, c3⟩ := b2 k hk
    refine ⟨c1, ?_, c3⟩
    have c2' : (SH L ++ gb)[k]? = some (.inl (nn k)) := c2
    rw [List.getElem?_append_left (by rw [sh_len]; omega)] at c2'
    exact c2'
  · show ex_cv (SH L).length cx
    rw [sh_len]
    exact sh_ok L a cx hc
  · show 4 ≤ (SH L).length
    rw [sh_len]; omega
  · show ∀ v ∈ ls, ex_rg (SH L).length v
    rw [sh_len]; exact hls
theorem lw_ls_rg {k : Nat} (hk : k ≤ 513) : ∀ v ∈ lw_ls k, ex_rg 449 v := by
  intro v hv
  simp only [lw_ls, List.mem_cons, List.not_mem_nil, or_false] at hv
  rcases hv with rfl | rfl | rfl | rfl
  · show (0 : Nat) < 449; omega
  · show (4 : Nat) < 449; omega
  · show (432 : Nat) < 449; omega
  · show ex_r32 (7 * (k : Int)); unfold ex_r32; omega
theorem lw_loop (hx : p.tables.exec = Jvm.exec) (hb : c.code = code) (hr : meth.sig.returnType = ret) (hlocks : meth.locks = false) (hAh : ∀ q, A q → s.heap.size ≤ q) (X : ex_X p s m #[Value.ref b] meth c D A1 A2 A t nn g 16 0 4 cL_law) (hL : L ≤ 3584) (RI : Nat → ex_S → Prop)
    (hS : ∀ k σ, k < 512 → 7 * k + 7 ≤ L → RI k σ → ∃ gb σ', ex_ev 40 241 63 (lw_ls k) [] (SH L, σ) = some (lw_ls (k + 1), (SH L ++ gb, σ')) ∧ RI (k + 1) σ' ∧ gb.length ≤ 1 ∧ ex_tot gb ≤ 4)
    (hE : ∀ k σ, ¬ (7 * k + 7 ≤ L) → RI k σ → ex_ev 40 241 63 (lw_ls k) [] (SH L, σ) = some ([vI 1], (SH L, σ))) :
    ∀ (j k : Nat) (σ : ex_S) (ad : Nat → Nat) (La : Array Slot) (H : Heap) (locs : List Loc) (cells slots : Nat), j + k = 513 → RI k σ → ex_Y s D A1 A2 A t nn g 4 ad La H locs (lw_ls k) [] (SH L, σ) → cells ≤ 449 + k → slots ≤ 30000 + 4 * k → W p l e room_1 s m #[Value.ref b] below meth c H locs cells slots (lw_Z below #[Value.ref b] s) (F0 m 18 La []) := by
  intro j
  induction j with
  | zero =>
    intro k σ ad La H locs cells slots hjk hI Y hc hs
    -- no script is so long
    have hno : ¬ (7 * k + 7 ≤ L) := by omega
    obtain ⟨n, hn⟩ := ex_ev_some.mp (hE k σ hno hI)
    refine ex_snd_all l n 241 40 63 (lw_ls k) [] (SH L, σ) _ hn ck_law 0 16 1 4 2 yL_law cL_law 4 _ lw_pcs lw_mt lw_my lw_pc p e room_1 s m _ below meth c _ D A1 A2 A t nn g X (by show 40 + 1 ≤ 2048; omega) (by show 64 * (40 + 1) ≤ 84000; omega) ad La H locs cells slots cells slots Y rfl rfl rfl (by show cells ≤ 600000; omega) (by show slots ≤ 7302250; omega) 18 lw_q1.2.1 ?_ (fun ad' L' H' locs' pc' hz => by cases hz) (fun ad' L' H' locs' pc' _ _ hlen => absurd hlen (by show ¬ ((1 : Nat) = 4); decide))
    · intro ad' L' H' locs' pc' z hz hrt hdg hext Y'
      cases hz
      refine va_forget (fun q hq => hAh _ (Y'.2.2.1.2.2 q hq)) (W.widen (k := 600000) (n := 7302250) (by omega) (by omega) (lw_ret hx hb hr hlocks hdg))
  | succ j ih =>
    intro k σ ad La H locs cells slots hjk hI Y hc hs
    by_cases hgo : 7 * k + 7 ≤ L
    · obtain ⟨gb, σ', hev, hI', hg1, hg2⟩ := hS k σ (by omega) hgo hI
      obtain ⟨n, hn⟩ := ex_ev_some.mp hev
      have e1 : (SH L ++ gb).length = (SH L).length + gb.length := List.length_append
      have e2 : ex_tot (SH L ++ gb) = ex_tot (SH L) + ex_tot gb := ex_tot_app _ _
      refine ex_snd_all l n 241 40 63 (lw_ls k) [] (SH L, σ) _ hn ck_law 0 16 1 4 2 yL_law cL_law 4 _ lw_pcs lw_mt lw_my lw_pc p e room_1 s m _ below meth c _ D A1 A2 A t nn g X (by show 40 + 1 ≤ 2048; omega) (by show 64 * (40 + 1) ≤ 84000; omega) ad La H locs cells slots (cells + gb.length) (slots + ex_tot gb) Y rfl (by show cells + (SH L ++ gb).length = cells + gb.length + (SH L).length; omega) (by show slots + ex_tot (SH L ++ gb) = slots + ex_tot gb + ex_tot (SH L); omega) (by show cells + gb.length ≤ 600000; omega) (by show slots + ex_tot gb ≤ 7302250; omega) 18 lw_q1.2.1 (fun ad' L' H' locs' pc' z hz => by cases hz) (fun ad' L' H' locs' pc' hz => by cases hz) (fun ad' L' H' locs' pc' _ hpc _ _ Y' => ?_)
      rw [lw_q1.1] at hpc
      cases hpc
      exact ih (k + 1) σ' ad' L' H' locs' _ _ (by omega) hI' (Y'.drop (lw_ls_rg (by omega))) (by omega) (by omega)
    · obtain ⟨n, hn⟩ := ex_ev_some.mp (hE k σ hgo hI)
      refine ex_snd_all l n 241 40 63 (lw_ls k) [] (SH L, σ) _ hn ck_law 0 16 1 4 2 yL_law cL_law 4 _ lw_pcs lw_mt lw_my lw_pc p e room_1 s m _ below meth c _ D A1 A2 A t nn g X (by show 40 + 1 ≤ 2048; omega) (by show 64 * (40 + 1) ≤ 84000; omega) ad La H locs cells slots cells slots Y rfl rfl rfl (by show cells ≤ 600000; omega) (by show slots ≤ 7302250; omega) 18 lw_q1.2.1 ?_ (fun ad' L' H' locs' pc' hz => by cases hz) (fun ad' L' H' locs' pc' _ _ hlen => absurd hlen (by show ¬ ((1 : Nat) = 4); decide))
      · intro ad' L' H' locs' pc' z hz hrt hdg hext Y'
        cases hz
        refine va_forget (fun q hq => hAh _ (Y'.2.2.1.2.2 q hq)) (W.widen (k := 600000) (n := 7302250) (by omega) (by omega) (lw_ret hx hb hr hlocks hdg))
end LWS
theorem lw_g_r (xs : Nat → Int32) (k : Nat) (i : Int) : ex_r32 (lw_g xs k i) := by
  unfold lw_g
  split
  · exact i_wr _
  · unfold lw_g1 ex_r32; split; omega; split <;> omega
  · unfold lw_g2 ex_r32; repeat' split
    all_goals omega
  · unfold lw_g3 ex_r32; repeat' split
    all_goals omega
  · exact i_r0
/-- YOUR PART of the skeleton, out of three pure facts of the law's table -/
theorem whole_open (RI : (Nat → Int32) → Nat → Nat → ex_S → Prop)
    (hI : ∀ (L : Nat) (xs : Nat → Int32), L ≤ 3584 → ∃ σ1, ex_ev 40 241 0 [vR 0, vL 0, vL 0, vL 0] [] (S0 L, lw_g xs) = some (lw_ls 0, (SH L, σ1)) ∧ RI xs L 0 σ1)
    (hS : ∀ (L : Nat) (xs : Nat → Int32) k σ, L ≤ 3584 → k < 512 → 7 * k + 7 ≤ L → RI xs L k σ → ∃ gb σ', ex_ev 40 241 63 (lw_ls k) [] (SH L, σ) = some (lw_ls (k + 1), (SH L ++ gb, σ')) ∧ RI xs L (k + 1) σ' ∧ gb.length ≤ 1 ∧ ex_tot gb ≤ 4)
    (hE : ∀ (L : Nat) (xs : Nat → Int32) k σ, L ≤ 3584 → ¬ (7 * k + 7 ≤ L) → RI xs L k σ → ex_ev 40 241 63 (lw_ls k) [] (SH L, σ) = some ([vI 1], (SH L, σ)))
    {p : Program} {e : Env} {s : State} {m : MethodId} {below : List Frame} {meth : Method} {c : Code} (l : Launch) {b L : Nat} {xs : Nat → Int32} (hL : L ≤ 3584) (C0 : lw_At p s m meth c b L xs) : W p l e room_1 s m #[Value.ref b] below meth c s.heap [] 0 0 (lw_Z below #[Value.ref b] s) (entryFrame m ([Value.ref b] : List Value).toArray 4) := by
  obtain ⟨hx, hb, hr, hml, hown, hts, hX, hbl, hlocks, hgv⟩ := id C0
  have hA : ∀ q : Nat, s.heap.size ≤ q → (fun q : Nat => s.heap.size ≤ q) q := fun _ h => h
  have hnA : ∀ a : Nat, a < s.heap.size → ¬ (fun q : Nat => s.heap.size ≤ q) a := fun a h => Nat.not_le.mpr h
  have htg : ∀ w ∈ lw_gd, w.before #[Value.ref b] s = true := fun w hw => hts w (List.mem_filter.mp hw).1
  have hfl := flat_of_before _ hgv
  -- classes
  have hcls : ∀ k : Nat, ∃ q9 : ClassId × (Nat → Nat), ∀ q : vw_C, vwCl[k]? = some q → u_Kn s q.1 q.2.1 q.2.2 q9.1 q9.2 := by
    intro k
    by_cases hk : k < 13
    · have hf : ex_cf[k]? = some (ex_cf[k]'(by rw [nw_cf.1]; exact hk)) := List.getElem?_eq_getElem _
      obtain ⟨T, t1, t2, t3, t4, t5, t6, t7⟩ := nw_of hf
      obtain ⟨cC, iS, hKn⟩ := u_known htg t7 (hts _ t5)
      refine ⟨(cC, iS), fun q hq => ?_⟩
      rw [t1] at hq
      cases hq
      exact hKn
    · refine ⟨(0, fun _ => 0), fun q hq => ?_⟩
      have := (List.getElem?_eq_some_iff.mp hq).1
      rw [nw_cf.2] at this
      exact absurd this hk
  obtain ⟨dd, hdd⟩ := Classical.axiomOfChoice hcls
  -- arrays
  obtain ⟨A1, kA, comp, a1, a2, a3⟩ := Cond.arrayClass_spec (hts (.arrayClass .int) (by decide +kernel))
  have hover : va_AO "CellarCars$Desk" s := va_AO.of (hts (.arrayOver (.object "CellarCars$Desk")) (by decide +kernel))
  obtain ⟨comp2, A2, kB, b1, b2, b3, b4, b5⟩ := Cond.arrayOver_spec hover
  have hK : va_K (fun k => (dd k).1, fun k => (dd k).2) vwCl (ex_ty A1 A2) s := by
    refine ⟨fun k q hq => hdd k q hq, fun k q hq => ?_⟩
    match k, hq with
    | 0, hq =>
      cases hq
      exact ⟨fun n z => ⟨fun k h => (by cases h), kA, a2, comp, a3⟩, a1⟩
    | 1, hq =>
      cases hq
      exact ⟨fun n z => ⟨fun k h => (by cases h), kB, b3, comp2, b4⟩, kB, comp2, b3, b4, b1, b5⟩
    | k + 2, hq => simp at hq
  -- the three tables
  have hini : (Cond.initialized "CellarCars$Garage").before #[Value.ref b] s = true := hts _ (by decide +kernel)
  obtain ⟨t1, e1, T1⟩ := va_Tof (args := #[Value.ref b]) (s := s) (tm := .static "CellarCars$Garage" "KIND_ABOVE" "[I") (ty := .int) (N := 4) (f := fun j => .int (Int32.ofInt (lw_g xs 1 (j : Int)))) (A := fun q : Nat => s.heap.size ≤ q) (by omega) (hfl _ (by decide +kernel)) (va_eqt (hfl (.eq (.length (.static "CellarCars$Garage" "KIND_ABOVE" "[I")) (.int 4)) (by decide +kernel))) (fun j hj => by
    rcases (show j = 0 ∨ j = 1 ∨ j = 2 ∨ j = 3 by omega) with rfl | rfl | rfl | rfl
    · exact va_eqt (hfl (.eq (.elem (.static "CellarCars$Garage" "KIND_ABOVE" "[I") (.int 0)) (.int (-1))) (by decide +kernel))
    · exact va_eqt (hfl (.eq (.elem (.static "CellarCars$Garage" "KIND_ABOVE" "[I") (.int 1)) (.int 0)) (by decide +kernel))
    · exact va_eqt (hfl (.eq (.elem (.static "CellarCars$Garage" "KIND_ABOVE" "[I") (.int 2)) (.int 0)) (by decide +kernel))
    · exact va_eqt (hfl (.eq (.elem (.static "CellarCars$Garage" "KIND_ABOVE" "[I") (.int 3)) (.int 1)) (by decide +kernel))) hnA
  obtain ⟨t2, e2, T2⟩ := va_Tof (args := #[Value.ref b]) (s := s) (tm := .static "CellarCars$Garage" "LEAST_FACT" "[I") (ty := .int) (N := 6) (f := fun j => .int (Int32.ofInt (lw_g xs 2 (j : Int)))) (A := fun q : Nat => s.heap.size ≤ q) (by omega) (hfl _ (by decide +kernel)) (va_eqt (hfl (.eq (.length (.static "CellarCars$Garage" "LEAST_FACT" "[I")) (.int 6)) (by decide +kernel))) (fun j hj => by
    rcases (show j = 0 ∨ j = 1 ∨ j = 2 ∨ j = 3 ∨ j = 4 ∨ j = 5 by omega) with rfl | rfl | rfl | rfl | rfl | rfl
    · exact va_eqt (hfl (.eq (.elem (.static "CellarCars$Garage" "LEAST_FACT" "[I") (.int 0)) (.int 1)) (by decide +kernel))
    · exact va_eqt (hfl (.eq (.elem (.static "CellarCars$Garage" "LEAST_FACT" "[I") (.int 1)) (.int 1)) (by decide +kernel))
    · exact va_eqt (hfl (.eq (.elem (.static "CellarCars$Garage" "LEAST_FACT" "[I") (.int 2)) (.int 1)) (by decide +kernel))
    · exact va_eqt (hfl (.eq (.elem (.static "CellarCars$Garage" "LEAST_FACT" "[I") (.int 3)) (.int 0)) (by decide +kernel))
    · exact va_eqt (hfl (.eq (.elem (.static "CellarCars$Garage" "LEAST_FACT" "[I") (.int 4)) (.int 0)) (by decide +kernel))
    · exact va_eqt (hfl (.eq (.elem (.static "CellarCars$Garage" "LEAST_FACT" "[I") (.int 5)) (.int 0)) (by decide +kernel))) hnA
  obtain ⟨t3, e3, T3⟩ := va_Tof (args := #[Value.ref b]) (s := s) (tm := .static "CellarCars$Garage" "MOST_FACT" "[I") (ty := .int) (N := 6) (f := fun j => .int (Int32.ofInt (lw_g xs 3 (j : Int)))) (A := fun q : Nat => s.heap.size ≤ q) (by omega) (hfl _ (by decide +kernel)) (va_eqt (hfl (.eq (.length (.static "CellarCars$Garage" "MOST_FACT" "[I")) (.int 6)) (by decide +kernel))) (fun j hj => by
    rcases (show j = 0 ∨ j = 1 ∨ j = 2 ∨ j = 3 ∨ j = 4 ∨ j = 5 by omega) with rfl | rfl | rfl | rfl | rfl | rfl
    · exact va_eqt (hfl (.eq (.elem (.static "CellarCars$Garage" "MOST_FACT" "[I") (.int 0)) (.int 9)) (by decide +kernel))
    · exact va_eqt (hfl (.eq (.elem (.static "CellarCars$Garage" "MOST_FACT" "[I") (.int 1)) (.int 30)) (by decide +kernel))
    · exact va_eqt (hfl (.eq (.elem (.static "CellarCars$Garage" "MOST_FACT" "[I") (.int 2)) (.int 99)) (by decide +kernel))
    · exact va_eqt (hfl (.eq (.elem (.static "CellarCars$Garage" "MOST_FACT" "[I") (.int 3)) (.int 23)) (by decide +kernel))
    · exact va_eqt (hfl (.eq (.elem (.static "CellarCars$Garage" "MOST_FACT" "[I") (.int 4)) (.int 9)) (by decide +kernel))
    · exact va_eqt (hfl (.eq (.elem (.static "CellarCars$Garage" "MOST_FACT" "[I") (.int 5)) (.int 99)) (by decide +kernel))) hnA
  have T0 : va_T .int b L (fun j => .int (Int32.ofInt (lw_g xs 0 (j : Int)))) (fun q : Nat => s.heap.size ≤ q) s s.heap := by
    obtain ⟨scr, h1, h2, h3, h4, h5⟩ := hX
    refine ⟨scr, h1, h2, h3, by omega, by rw [h4] <;> rfl, fun j hj => ?_, hnA b hbl⟩
    rw [h5 j hj]
    show some (Value.int (xs j)) = some (Value.int (Int32.ofInt ((xs ((j : Int)).toNat).toInt)))
    rw [Int.toNat_natCast, Int32.ofInt_toInt]
  let tt : Nat → Nat := fun k => match k with
    | 0 => b
    | 1 => t1
    | 2 => t2
    | _ => t3
  let nn : Nat → Nat := fun k => match k with
    | 0 => L
    | 1 => 4
    | _ => 6
  have hT : ex_T (fun q : Nat => s.heap.size ≤ q) tt nn (lw_g xs) s s.heap := by
    refine ⟨fun k hk => ?_, fun k hk => ?_, fun own q hq hq3 => ?_, hover⟩
    · rcases (show k = 0 ∨ k = 1 ∨ k = 2 ∨ k = 3 by omega) with rfl | rfl | rfl | rfl
      · exact T0
      · exact T1
      · exact T2
      · exact T3
    · rcases (show k = 0 ∨ k = 1 ∨ k = 2 by omega) with rfl | rfl | rfl
      · exact va_Zref (hts (.laysStatic "CellarCars$Garage" "KIND_ABOVE" "[I") (by decide +kernel)) hini e1 hnA
      · exact va_Zref (hts (.laysStatic "CellarCars$Garage" "LEAST_FACT" "[I") (by decide +kernel)) hini e2 hnA
      · exact va_Zref (hts (.laysStatic "CellarCars$Garage" "MOST_FACT" "[I") (by decide +kernel)) hini e3 hnA
    · have h9 := hts _ (ex_lk_in own q hq)
      obtain ⟨q1, q2, q3, q4⟩ := q
      dsimp only at hq3
      subst hq3
      exact va_Nw.of rfl h9
  have X : ex_X p s m #[Value.ref b] meth c (fun k => (dd k).1, fun k => (dd k).2) A1 A2 (fun q : Nat => s.heap.size ≤ q) tt nn (lw_g xs) 16 0 4 cL_law := ⟨hx, hb, hml, hown, htg, (fun h => by cases h), hK, hT, hA⟩
  have hl := lv_entry ([.ref b]) (n := 4) (Nat.le_of_ble_eq_true rfl)
  rw [lg_entry_eq]
  generalize (lg_sl ([.ref b]) ++ List.replicate (4 - (lg_sl ([.ref b])).length) Slot.unset).toArray = La at hl ⊢
  obtain ⟨σ1, hev, hI0⟩ := hI L xs hL
  obtain ⟨n, hn⟩ := ex_ev_some.mp hev
  have Y : ex_Y s (fun k => (dd k).1, fun k => (dd k).2) A1 A2 (fun q : Nat => s.heap.size ≤ q) tt nn (lw_g xs) 4 tt La s.heap [] [vR 0, vL 0, vL 0, vL 0] [] (S0 L, lw_g xs) := by
    refine ⟨fun k q h => by simp [ex_W, S0] at h, ⟨fun i j p q h => by simp [ex_W, S0] at h, fun k q h => by simp [ex_W, S0] at h⟩, va_S.rf, ⟨fun a i => lw_g_r xs a i, fun k hk => ?_, fun a cx hc => ?_, by show 4 ≤ 4; omega⟩, ?_, by show 4 ≤ 4; omega, fun v hv => ?_, fun v hv => by cases hv⟩
    · rcases (show k = 0 ∨ k = 1 ∨ k = 2 ∨ k = 3 by omega) with rfl | rfl | rfl | rfl <;> exact ⟨rfl, rfl, rfl⟩
    · have := List.mem_of_getElem? hc
      simp only [S0, List.mem_cons, List.not_mem_nil, or_false] at this
      rcases this with rfl | rfl | rfl | rfl <;> trivial
    · exact ex_pr_args (ad := tt) (as := [vR 0]) rfl (k := 3) hl
    · simp only [List.mem_cons, List.not_mem_nil, or_false] at hv
      rcases hv with rfl | rfl | rfl | rfl
      · show (0 : Nat) < 4; omega
      · show ex_r64 0; unfold ex_r64; omega
      · show ex_r64 0; unfold ex_r64; omega
      · show ex_r64 0; unfold ex_r64; omega
  have t0 : ex_tot (S0 L) = L + 16 := rfl
  have t9 := sh_tot L
  have t8 := sh_all.2.2
  have l9 := sh_len L
  have hgr := ex_run_gr _ _ _ _ _ _ _ _ hn
  have g2 : ex_tot (S0 L) ≤ ex_tot (SH L) := hgr.2
  refine ex_snd_all l n 241 40 0 _ [] (S0 L, lw_g xs) _ hn ck_law 0 16 1 4 2 yL_law cL_law 4 _ lw_pcs lw_mt lw_my lw_pc p e room_1 s m _ below meth c _ _ A1 A2 _ tt nn (lw_g xs) X (by show 40 + 1 ≤ 2048; omega) (by show 64 * (40 + 1) ≤ 84000; omega) tt La s.heap [] 0 0 445 (ex_tot (SH L) - ex_tot (S0 L)) Y rfl (by show 0 + (SH L).length = 445 + 4; omega) (by show 0 + ex_tot (SH L) = ex_tot (SH L) - ex_tot (S0 L) + ex_tot (S0 L); omega) (by show 445 ≤ 600000; omega) (by show ex_tot (SH L) - ex_tot (S0 L) ≤ 7302250; omega) 0 lw_q1.2.2 (fun ad' L' H' locs' pc' z hz => by cases hz) (fun ad' L' H' locs' pc' hz => by cases hz) (fun ad' L' H' locs' pc' _ hpc _ _ Y' => ?_)
  rw [lw_q1.1] at hpc
  cases hpc
  exact lw_loop hx hb hr hlocks (fun q h => h) X hL (RI xs L) (fun k σ => hS L xs k σ hL) (fun k σ => hE L xs k σ hL) 513 0 σ1 ad' L' H' locs' _ _ rfl hI0 Y' (by omega) (by omega)
theorem whole_start {p : Program} {e : Env} {s : State} {m : MethodId} {below : List Frame} {meth : Method} {c : Code} (l : Launch) {b L : Nat} {xs : Nat → Int32} (hL : L ≤ 3584) (C0 : lw_At p s m meth c b L xs) : W p l e room_1 s m #[Value.ref b] below meth c s.heap [] 0 0 (lw_Z below #[Value.ref b] s) (entryFrame m ([Value.ref b] : List Value).toArray 4) := by
  refine whole_open RI ?_ ?_ ?_ l hL C0
  · intro L xs _
    obtain ⟨σ1, h1, h2, h3⟩ := lw_init L xs
    refine ⟨σ1, h1, h2, by omega, fun i _ _ => ?_⟩
    rw [h3]
    exact lw_g_r xs 0 i
  · intro L xs k σ hL hk hk7 hI
    obtain ⟨h1, h2, h3⟩ := hI
    obtain ⟨gb, σ', e1, e2, e3, e4, e5⟩ := lw_step hL hk7 h1 h3
    exact ⟨gb, σ', e1, ⟨e2, by omega, by rw [e3]; exact h3⟩, e4, e5⟩
  · intro L xs k σ hL hk hI
    exact lw_end hL hI.2.1 hk
set_option maxHeartbeats 4000000 in
theorem lw_walk (l : Launch) (b : Addr) (xs : List Int32) : MetFree l x (headSpec (Jvm.Cond.code x code maxLocals ret :: tables_1) room_1) (lw_P b xs) (fun _ _ _ _ _ => True) lw_Q := by
  refine MetFree.of_bodyS (code := code) (maxLocals := maxLocals) (ret := ret) (by decide) ?_ ?_
  · intro args s m h hn
    obtain ⟨meth, c, h1, h2, h3, h4, h5, h6, -, -⟩ := Cond.code_spec hn (atoms_spec (ws := Jvm.Cond.code x code maxLocals ret :: tables_1) h _ List.mem_cons_self)
    exact ⟨meth, c, h1, h2, h3, h4, h5, h6⟩
  · intro p e s m args below meth c s₁ B hml0 hP _
    obtain ⟨rfl, hx, hbd, hgv⟩ := hP
    obtain ⟨scr, harrAt, hlist, hof, hsmall⟩ := hx
    obtain ⟨hcb, hkn, -, -⟩ := State.arrayAt?_spec harrAt
    have hown : s.vm.findClass R_law = some m.cls := findClass_of_methodNamed B.named
    have hts0 : ∀ c ∈ (Jvm.Cond.code x code maxLocals ret :: tables_1), c.before #[Value.ref b] s = true := atoms_spec (ws := Jvm.Cond.code x code maxLocals ret :: tables_1) B.pre
    have hts : ∀ w ∈ lw_tbl, w.before #[Value.ref b] s = true := k2_hts_sels lw_privs (fun w hw => hts0 w (List.mem_cons_of_mem _ hw)) lw_privs_ok
    have hml : c.maxLocals = 4 := B.maxLocals_eq (hts0 _ List.mem_cons_self)
    have X₀ : Stand p l e room_1 s m #[Value.ref b] below meth c s₁ [] 0 0 := Stand.of_body B
    have hh0 : s₁.heap = s.heap := by rw [B.state]; rfl
    have hsz : scr.slots.size = xs.length := by rw [← Array.length_toList, hlist, List.length_map]
    have hval : ∀ j : Nat, j < xs.length → scr.slots[j]? = some (.int (xs.getD j 0)) := fun j hj => by
      rw [← Array.getElem?_toList, hlist]
      simp [hj]
    have hbl : b < s.heap.size := (Array.getElem?_eq_some_iff.mp hcb).1
    have hX : va_X b xs.length (fun j => xs.getD j 0) s s.heap := ⟨scr, hcb, hof, hkn, hsz, hval⟩
    have K : W p l e room_1 s m #[Value.ref b] below meth c s₁.heap [] 0 0 (lw_Z below #[Value.ref b] s) (entryFrame m ([Value.ref b] : List Value).toArray 4) := by
      rw [hh0]
      exact whole_start l hbd ⟨B.exec, B.bytes, B.returns, hml, hown, hts, hX, hbl, B.notSynchronized, hgv⟩
    obtain ⟨t, a1, o, b1, b2, b3⟩ := K s₁ rfl X₀
    exact ⟨t, o, a1, b1, b2, b3⟩
theorem lw_pre_spec {args : Array Value} {s : State} (h : (Jvm.Cond.and given_1 narrow_1).before args s = true) (hr : rest_1_c.before args s = true) : ∃ (b : Addr) (xs : List Int32), lw_P b xs args s := by
  have hs := flat_of_before _ h
  have hq := flat_of_before _ hr
  have hc : (Cond.count 1).before args s = true := hs _ (by decide +kernel)
  have harr : (Cond.arrayOf (.arg 0) .int).before args s = true := hs _ (by decide +kernel)
  have hle : (Cond.le (.length (.arg 0)) (.int 3584)).before args s = true := hs _ (by decide +kernel)
  have hlen : (Cond.isInt (.length (.arg 0))).before args s = true := hq _ (by decide +kernel)
  have hall : (Cond.all (.arg 0) (.isInt (.elem (.arg 0) (.index 0)))).before args s = true := hq _ (by decide +kernel)
  obtain ⟨b, xs, hb, hx⟩ := State.ints_of_pre rfl harr hlen hall
  have hsm : xs.length < 2 ^ 31 := hx.choose_spec.2.2.2
  have hev : (Term.length (.arg 0)).eval args s none [] s = some (.int xs.length.toInt32) := hx.length_eval hb
  have hv := Cond.le_ints hev (show (Term.int 3584).eval args s none [] s = some (.int 3584) from rfl)
  have hd : xs.length.toInt32 ≤ 3584 := by
    simpa [Cond.before, Cond.holds, hv] using hle
  have hN : xs.length ≤ 3584 := (Int32.ofNat_le_ofNat hsm (by decide)).mp (show Int32.ofNat xs.length ≤ Int32.ofNat 3584 from hd)
  exact ⟨b, xs, Cond.one_arg hc (show args[0]? = some (.ref b) from hb), hx, hN, h⟩
theorem lw_comes (l : Launch) : Comes l x (Jvm.Cond.code x code maxLocals ret :: tables_1) room_1 (fun tb e args s => Calls_1 tb e args s ∧ rest_1 tb e args s ∧ Pre_1 tb e args s)
    (fun _ _ args s o t => lw_Q args s o t) := by
  intro p e ha hc hk s m args below hf hfit hheap happ hpre
  obtain ⟨b, xs, hP⟩ := lw_pre_spec hpre.2.2 hpre.2.1
  obtain ⟨k, o, h1, h2, h3, hQ⟩ := lw_walk l b xs p e ha hc hk s m args below hf ((Spec.applies_iff_loose hf).mp happ).1 hP trivial
  exact ⟨k, o, h1, h2, h3, hQ⟩
theorem lw_frame {s t : State} {o : Outcome} {args : Array Value} (h : Framed s o t [] 600000 7302250) :
    Framed s o t (fieldLocs frame_1_writes args s ++ arrayLocs frame_1_arrays args s ++ staticLocs frame_1_statics s) 600000 7302250 := h
theorem lw_limb (L : Cond) (hL : ∀ (args : Array Value) (s t : State), L.after args s (.returned (some (.int 1))) t = true) :
    ArmFor flags0 classFile x code maxLocals ret World_1 tables_1 room_1 Calls_1 rest_1 Pre_1
      (fun tb e a s o t => postC L tb e a s o t ∧ Framed s o t (fieldLocs frame_1_writes a s ++ arrayLocs frame_1_arrays a s ++ staticLocs frame_1_statics s) 600000 7302250) := by
  intro l _ _ _ p e ha hc hk s m args below hf hfit hheap happ hpre
  obtain ⟨k, o, h1, h2, h3, rfl, hF⟩ := lw_comes l p e ha hc hk s m args below hf hfit hheap happ hpre
  exact ⟨k, _, h1, h2, h3, hL args s _, lw_frame hF⟩
theorem i_vc : Claimed_1_1 ∧ Claimed_1_2 := ⟨lw_limb limb_1_1 (fun args s t => by simp [limb_1_1, Cond.after, Cond.holds, Cond.value]), lw_limb limb_1_2 (fun args s t => Cond.after_iff.mpr (by
  first | (rw [show limb_1_2 = Cond.eq .result (.int 1) from rfl, Cond.eq_ints (x := 1) (y := 1) rfl rfl]; simp; done) | (simp [limb_1_2, Cond.value, Term.eval]; done)))⟩
