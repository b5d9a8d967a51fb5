/-! cells only come -/
def ex_gr (l l' : List ex_C) : Prop := l.length ≤ l'.length ∧ ex_tot l ≤ ex_tot l'
theorem ex_gr.rf {l : List ex_C} : ex_gr l l := ⟨Nat.le_refl _, Nat.le_refl _⟩
theorem ex_gr.tr {l m n : List ex_C} (h : ex_gr l m) (k : ex_gr m n) : ex_gr l n := ⟨Nat.le_trans h.1 k.1, Nat.le_trans h.2 k.2⟩
theorem ex_gr.app {l m : List ex_C} : ex_gr l (l ++ m) := ⟨by rw [List.length_append]; omega, by rw [ex_tot_app]; omega⟩
theorem ex_gr.set {l : List ex_C} {a : Nat} {c c' : ex_C} (h : l[a]? = some c) (e : ex_sz c' = ex_sz c) : ex_gr l (l.set a c') := ⟨by rw [List.length_set]; omega, by rw [ex_tot_set l a c c' h e]; omega⟩
theorem ex_gr.setq {l : List ex_C} {a : Nat} {r r' : List (Option Nat)} (e : r'.length = r.length) (h : l[a]? = some (.inr (.inl r))) : ex_gr l (l.set a (.inr (.inl r'))) := ex_gr.set h e
theorem ex_gr.seto {l : List ex_C} {a k : Nat} {r r' : List (Option (Option Nat))} (e : r'.length = r.length) (h : l[a]? = some (.inr (.inr (k, r)))) : ex_gr l (l.set a (.inr (.inr (k, r')))) := ex_gr.set h e
theorem ex_bin_gr {f : Int → Int → Int} {ls st : List ex_V} {h : ex_H} {o : (List ex_V × List ex_V × ex_H) ⊕ ((Nat × List ex_V × List ex_V × ex_H) ⊕ ((Nat × List ex_V × List ex_V × ex_H) ⊕ ex_R))} (he : ex_bin f ls st h = some o) : ∃ st', o = .inl (ls, st', h) := by
  unfold ex_bin at he
  split at he
  · exact ⟨_, (Option.some.inj he).symm⟩
  · cases he
/-- the heap of an outcome -/
def ex_oh : ((List ex_V × List ex_V × ex_H) ⊕ ((Nat × List ex_V × List ex_V × ex_H) ⊕ ((Nat × List ex_V × List ex_V × ex_H) ⊕ ex_R))) → ex_H
  | .inl (_, _, h) => h
  | .inr (.inl (_, _, _, h)) => h
  | .inr (.inr (.inl (_, _, _, h))) => h
  | .inr (.inr (.inr (_, h))) => h
theorem ex_if_gr {c : Jvm.ClassFile.Cond} {a b : Int} {t : Nat} {ls st : List ex_V} {h : ex_H} {o : (List ex_V × List ex_V × ex_H) ⊕ ((Nat × List ex_V × List ex_V × ex_H) ⊕ ((Nat × List ex_V × List ex_V × ex_H) ⊕ ex_R))} (he : ex_if c a b t ls st h = some o) : ex_oh o = h := by
  unfold ex_if at he
  cases c <;> (dsimp only [ex_br] at he; split at he <;> (cases he; rfl))
theorem ex_ca_gr {kd m : Nat} {st : List ex_V} {h : ex_H} {o : (List ex_V × List ex_V × ex_H) ⊕ ((Nat × List ex_V × List ex_V × ex_H) ⊕ ((Nat × List ex_V × List ex_V × ex_H) ⊕ ex_R))} (he : ex_ca kd m st h = some o) : ex_oh o = h := by
  unfold ex_ca at he
  repeat' split at he
  all_goals first | (cases he; done) | (cases he; rfl)
theorem ex_st_gr {rt : Nat} {ls st : List ex_V} {h : ex_H} {i : Instr} {o : (List ex_V × List ex_V × ex_H) ⊕ ((Nat × List ex_V × List ex_V × ex_H) ⊕ ((Nat × List ex_V × List ex_V × ex_H) ⊕ ex_R))} (he : ex_st rt ls st h i = some o) : ex_gr h.1 (ex_oh o).1 := by
  unfold ex_st at he
  split at he
  all_goals first
    | (cases he; done)
    | (obtain ⟨st', rfl⟩ := ex_bin_gr he; exact ex_gr.rf)
    | (rw [ex_ca_gr he]; exact ex_gr.rf)
    | (cases he; exact ex_gr.rf)
    | (repeat' split at he
       all_goals first
         | (cases he; done)
         | (cases he; exact ex_gr.rf)
         | (cases he; exact ex_gr.app)
         | (rw [ex_if_gr he]; exact ex_gr.rf)
         | (cases he; exact ex_gr.setq List.length_set (by assumption))
         | (cases he; exact ex_gr.seto List.length_set (by assumption)))
theorem ex_xs_gr {rt : Nat} {J : Nat → List ex_V → List ex_V → ex_H → Option ex_R} {C : Nat → List ex_V → ex_H → Option ex_R} (hJ : ∀ b ls st h r, J b ls st h = some r → ex_gr h.1 r.2.1) (hC : ∀ m as h r, C m as h = some r → ex_gr h.1 r.2.1) :
    ∀ (is : List Instr) (ls st : List ex_V) (h : ex_H) (r : ex_R), ex_xs rt J C is ls st h = some r → ex_gr h.1 r.2.1 := by
  intro is
  induction is with
  | nil => intro ls st h r e; simp [ex_xs] at e
  | cons i is ih =>
    intro ls st h r e
    unfold ex_xs at e
    split at e
    · cases e
    · next hs => exact (ex_st_gr hs).tr (ih _ _ _ _ e)
    · next hs => exact (ex_st_gr hs).tr (hJ _ _ _ _ _ e)
    · next hs =>
      split at e
      · next hc => exact ((ex_st_gr hs).tr (hC _ _ _ _ hc)).tr (ih _ _ _ _ e)
      · cases e
    · next hs =>
      cases e
      exact ex_st_gr hs
theorem ex_run_gr : ∀ (n d m b : Nat) (ls st : List ex_V) (h : ex_H) (r : ex_R), ex_run n d m b ls st h = some r → ex_gr h.1 r.2.1 := by
  intro n
  induction n with
  | zero => intro d m b ls st h r e; simp [ex_run] at e
  | succ n ih =>
    intro d m b ls st h r e
    unfold ex_run at e
    refine ex_xs_gr (fun b ls st h r e => ih _ _ _ _ _ _ _ e) (fun m as h r e => ?_) _ _ _ _ _ e
    cases d with
    | zero => cases e
    | succ d => exact ih _ _ _ _ _ _ _ e
/-! jumps -/
def ex_cP (c : Jvm.ClassFile.Cond) (a b : Int) : Prop := match c with
  | .eq => a = b
  | .ne => a ≠ b
  | .lt => a < b
  | .ge => b ≤ a
  | .gt => b < a
  | .le => a ≤ b
theorem ex_if_t {c : Jvm.ClassFile.Cond} {a b : Int} {t : Nat} {ls st : List ex_V} {h : ex_H} (hc : ex_cP c a b) : ex_if c a b t ls st h = oJ t ls st h := by
  cases c <;> (unfold ex_cP at hc; dsimp only at hc; dsimp only [ex_if, ex_br]; rw [if_pos hc])
theorem ex_if_f {c : Jvm.ClassFile.Cond} {a b : Int} {t : Nat} {ls st : List ex_V} {h : ex_H} (hc : ¬ ex_cP c a b) : ex_if c a b t ls st h = oN ls st h := by
  cases c <;> (unfold ex_cP at hc; dsimp only at hc; dsimp only [ex_if, ex_br]; rw [if_neg hc])
theorem ck_of_eq {pcs : List Nat} {pc pt : Nat} {t : Int} (h : pcs[t.toNat]? = some pt) : (pc : Int) + ck_of pcs pc t = (pt : Int) := by
  unfold ck_of
  rw [List.getD_eq_getElem?_getD, h]
  show (pc : Int) + ((pt : Int) - pc) = pt
  omega
section XJ
variable {p : Program} {l : Launch} {e : Env} {R : Room} {s : State} {m : MethodId} {args : Array Value} {below : List Frame} {meth : Method} {c : Code} {H : Heap} {locs : List Loc} {cells slots : Nat} {Q : State → Prop}
variable {cc : ByteArray} {pcs : List Nat} {pc pt : Nat} {L : Array Slot} {rest : List Value}
theorem sw_icmp {c0 : Jvm.ClassFile.Cond} {tg a b : Int} (hx : p.tables.exec = Jvm.exec) (hb : c.code = cc) (ha : ex_r32 a) (hb2 : ex_r32 b) (hd : decode cc pc = .ok (.if_icmp c0 (ck_of pcs pc tg), 3)) (ht : pcs[tg.toNat]? = some pt)
    (kt : ex_cP c0 a b → W p l e R s m args below meth c H locs cells slots Q (F0 m pt L rest)) (kf : ¬ ex_cP c0 a b → W p l e R s m args below meth c H locs cells slots Q (F0 m (pc + 3) L rest)) : W p l e R s m args below meth c H locs cells slots Q (F0 m pc L (.int (Int32.ofInt b) :: .int (Int32.ofInt a) :: rest)) := by
  have h1 := ck_of_eq (pc := pc) ht
  cases c0 with
  | eq => exact lv_icmp_eq hx hb hd h1 (fun q => kt ((i_eq ha hb2).mp q)) (fun q => kf (fun z => q ((i_eq ha hb2).mpr z)))
  | ne => exact lv_icmp_ne hx hb hd h1 (fun q => kt (fun z => q ((i_eq ha hb2).mpr z))) (fun q => kf (fun z => z ((i_eq ha hb2).mp q)))
  | lt => exact lv_icmp_lt hx hb hd h1 (fun q => kt ((i_lt ha hb2).mp q)) (fun q => kf (fun z => q ((i_lt ha hb2).mpr z)))
  | ge => exact lv_icmp_ge hx hb hd h1 (fun q => kt ((i_le hb2 ha).mp q)) (fun q => kf (fun z => q ((i_le hb2 ha).mpr z)))
  | gt => exact lv_icmp_gt hx hb hd h1 (fun q => kt ((i_lt hb2 ha).mp q)) (fun q => kf (fun z => q ((i_lt hb2 ha).mpr z)))
  | le => exact lv_icmp_le hx hb hd h1 (fun q => kt ((i_le ha hb2).mp q)) (fun q => kf (fun z => q ((i_le ha hb2).mpr z)))
theorem sw_if {c0 : Jvm.ClassFile.Cond} {tg a : Int} (hx : p.tables.exec = Jvm.exec) (hb : c.code = cc) (ha : ex_r32 a) (hd : decode cc pc = .ok (.ifCond c0 (ck_of pcs pc tg), 3)) (ht : pcs[tg.toNat]? = some pt)
    (kt : ex_cP c0 a 0 → W p l e R s m args below meth c H locs cells slots Q (F0 m pt L rest)) (kf : ¬ ex_cP c0 a 0 → W p l e R s m args below meth c H locs cells slots Q (F0 m (pc + 3) L rest)) : W p l e R s m args below meth c H locs cells slots Q (F0 m pc L (.int (Int32.ofInt a) :: rest)) := by
  have h1 := ck_of_eq (pc := pc) ht
  have e0 : (0 : Int32) = Int32.ofInt 0 := rfl
  have hb2 := i_r0
  cases c0 with
  | eq => exact lv_if_eq hx hb hd h1 (fun q => kt ((i_eq ha hb2).mp (by rw [← e0]; exact q))) (fun q => kf (fun z => q (by rw [e0]; exact (i_eq ha hb2).mpr z)))
  | ne => exact lv_if_ne hx hb hd h1 (fun q => kt (fun z => q (by rw [e0]; exact (i_eq ha hb2).mpr z))) (fun q => kf (fun z => z ((i_eq ha hb2).mp (by rw [← e0]; exact q))))
  | lt => exact lv_if_lt hx hb hd h1 (fun q => kt ((i_lt ha hb2).mp (by rw [← e0]; exact q))) (fun q => kf (fun z => q (by rw [e0]; exact (i_lt ha hb2).mpr z)))
  | ge => exact lv_if_ge hx hb hd h1 (fun q => kt ((i_le hb2 ha).mp (by rw [← e0]; exact q))) (fun q => kf (fun z => q (by rw [e0]; exact (i_le hb2 ha).mpr z)))
  | gt => exact lv_if_gt hx hb hd h1 (fun q => kt ((i_lt hb2 ha).mp (by rw [← e0]; exact q))) (fun q => kf (fun z => q (by rw [e0]; exact (i_lt hb2 ha).mpr z)))
  | le => exact lv_if_le hx hb hd h1 (fun q => kt ((i_le ha hb2).mp (by rw [← e0]; exact q))) (fun q => kf (fun z => q (by rw [e0]; exact (i_le ha hb2).mpr z)))
end XJ
