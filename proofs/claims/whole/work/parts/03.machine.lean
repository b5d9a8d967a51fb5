/-! an abstract machine over the tables: whole numbers for ints, places in a list of cells for references -/
abbrev ex_V : Type := Int ⊕ (Nat ⊕ Int)
abbrev ex_C : Type := Nat ⊕ (List (Option Nat) ⊕ (Nat × List (Option (Option Nat))))
abbrev ex_S : Type := Nat → Int → Int
abbrev ex_H : Type := List ex_C × ex_S
abbrev ex_R : Type := List ex_V × ex_H
abbrev ex_O : Type := Option ((List ex_V × List ex_V × ex_H) ⊕ ((Nat × List ex_V × List ex_V × ex_H) ⊕ ((Nat × List ex_V × List ex_V × ex_H) ⊕ ex_R)))
abbrev vI (z : Int) : ex_V := .inl z
abbrev vR (a : Nat) : ex_V := .inr (.inl a)
abbrev vL (z : Int) : ex_V := .inr (.inr z)
abbrev cA (n : Nat) : ex_C := .inl n
abbrev cQ (r : List (Option Nat)) : ex_C := .inr (.inl r)
abbrev cO (c : Nat) (f : List (Option (Option Nat))) : ex_C := .inr (.inr (c, f))
abbrev oN (ls st : List ex_V) (h : ex_H) : ex_O := some (.inl (ls, st, h))
abbrev oJ (b : Nat) (ls st : List ex_V) (h : ex_H) : ex_O := some (.inr (.inl (b, ls, st, h)))
abbrev oC (m : Nat) (as rest : List ex_V) (h : ex_H) : ex_O := some (.inr (.inr (.inl (m, as, rest, h))))
abbrev oR (vs : List ex_V) (h : ex_H) : ex_O := some (.inr (.inr (.inr (vs, h))))
def ex_wr (z : Int) : Int := (Int32.ofInt z).toInt
def ex_w64 (z : Int) : Int := (Int64.ofInt z).toInt
def ex_u (f : Int → Int) (i z : Int) : Int → Int := fun j => if j = i then z else f j
def ex_ar (σ : ex_S) (a : Nat) (f : Int → Int) : ex_S := fun b => if b = a then f else σ b
def ex_and (a b : Int) : Int := (Int32.ofInt a &&& Int32.ofInt b).toInt
def ex_or (a b : Int) : Int := (Int32.ofInt a ||| Int32.ofInt b).toInt
def ex_xor (a b : Int) : Int := (Int32.ofInt a ^^^ Int32.ofInt b).toInt
def ex_shl (a b : Int) : Int := (Int32.ofInt a <<< (Int32.ofInt b &&& 31)).toInt
def ex_shr (a b : Int) : Int := (Int32.ofInt a >>> (Int32.ofInt b &&& 31)).toInt
def ex_ushr (a b : Int) : Int := ((Int32.ofInt a).toUInt32 >>> ((Int32.ofInt b).toUInt32 &&& Int32.toUInt32 31)).toInt32.toInt
def ex_div (a b : Int) : Int := (Int32.ofInt a / Int32.ofInt b).toInt
def ex_rem (a b : Int) : Int := (Int32.ofInt a - Int32.ofInt a / Int32.ofInt b * Int32.ofInt b).toInt
def ex_cpy (f g : Int → Int) (sp dp n : Int) : Int → Int := fun j => if dp ≤ j ∧ j < dp + n then f (sp + (j - dp)) else g j
def ex_sh : ex_V → Bool
  | .inr (.inr _) => false
  | _ => true
/-- a call: its arguments off the stack; the receiver is an object of the method's class -/
def ex_ca (kd m : Nat) (st : List ex_V) (h : ex_H) : ex_O := match ex_mt[m]? with
  | some (k, own, n, _, _) => if k = kd ∧ n ≤ st.length ∧ st.length ≤ n + 8 ∧ st.all ex_sh = true then
      (if kd = 0 then oC m (st.take n).reverse (st.drop n) h else match (st.take n).reverse with
        | .inr (.inl a) :: _ => (match h.1[a]? with
          | some (.inr (.inr (c, _))) => if c = own then oC m (st.take n).reverse (st.drop n) h else none
          | _ => none)
        | _ => none) else none
  | none => none
def ex_bin (f : Int → Int → Int) (ls st : List ex_V) (h : ex_H) : ex_O := match st with
  | .inl b :: .inl a :: st' => oN ls (.inl (f a b) :: st') h
  | _ => none
def ex_br (p : Prop) [Decidable p] (t : Nat) (ls st : List ex_V) (h : ex_H) : ex_O := if p then oJ t ls st h else oN ls st h
def ex_if (c : Jvm.ClassFile.Cond) (a b : Int) (t : Nat) (ls st : List ex_V) (h : ex_H) : ex_O := match c with
  | .eq => ex_br (a = b) t ls st h
  | .ne => ex_br (a ≠ b) t ls st h
  | .lt => ex_br (a < b) t ls st h
  | .ge => ex_br (b ≤ a) t ls st h
  | .gt => ex_br (b < a) t ls st h
  | .le => ex_br (a ≤ b) t ls st h
def ex_st (rt : Nat) (ls st : List ex_V) (h : ex_H) : Instr → ex_O
  | .iload k => match ls[k]? with
    | some (.inl z) => oN ls (.inl z :: st) h
    | _ => none
  | .aload k => match ls[k]? with
    | some (.inr (.inl a)) => oN ls (.inr (.inl a) :: st) h
    | _ => none
  | .istore k => match st with
    | .inl z :: st' => if k < ls.length then oN (ls.set k (.inl z)) st' h else none
    | _ => none
  | .astore k => match st with
    | .inr (.inl a) :: st' => if k < ls.length then oN (ls.set k (.inr (.inl a))) st' h else none
    | _ => none
  | .iinc k c => match ls[k]? with
    | some (.inl z) => oN (ls.set k (.inl (ex_wr (z + c)))) st h
    | _ => none
  | .sipush v => oN ls (.inl v :: st) h
  | .iadd => ex_bin (fun a b => ex_wr (a + b)) ls st h
  | .isub => ex_bin (fun a b => ex_wr (a - b)) ls st h
  | .imul => ex_bin (fun a b => ex_wr (a * b)) ls st h
  | .iand => ex_bin ex_and ls st h
  | .ior => ex_bin ex_or ls st h
  | .ixor => ex_bin ex_xor ls st h
  | .ishl => ex_bin ex_shl ls st h
  | .ishr => ex_bin ex_shr ls st h
  | .iushr => ex_bin ex_ushr ls st h
  | .idiv => match st with
    | .inl b :: .inl a :: st' => if b = 0 then none else oN ls (.inl (ex_div a b) :: st') h
    | _ => none
  | .irem => match st with
    | .inl b :: .inl a :: st' => if b = 0 then none else oN ls (.inl (ex_rem a b) :: st') h
    | _ => none
  | .i2l => match st with
    | .inl a :: st' => oN ls (.inr (.inr a) :: st') h
    | _ => none
  | .ladd => match st with
    | .inr (.inr b) :: .inr (.inr a) :: st' => oN ls (.inr (.inr (ex_w64 (a + b))) :: st') h
    | _ => none
  | .lcmp => match st with
    | .inr (.inr b) :: .inr (.inr a) :: st' => oN ls (.inl (if b < a then 1 else if a = b then 0 else -1) :: st') h
    | _ => none
  | .dup => match st with
    | v :: st' => if ex_sh v = true then oN ls (v :: v :: st') h else none
    | _ => none
  | .dup2 => match st with
    | v :: w :: st' => if ex_sh v = true ∧ ex_sh w = true then oN ls (v :: w :: v :: w :: st') h else none
    | _ => none
  | .pop => match st with
    | v :: st' => if ex_sh v = true then oN ls st' h else none
    | _ => none
  | .arraylength => match st with
    | .inr (.inl a) :: st' => (match h.1[a]? with
      | some (.inl n) => oN ls (.inl (ex_wr n) :: st') h
      | _ => none)
    | _ => none
  | .iaload => match st with
    | .inl i :: .inr (.inl a) :: st' => (match h.1[a]? with
      | some (.inl n) => if 0 ≤ i ∧ i < (n : Int) then oN ls (.inl (h.2 a i) :: st') h else none
      | _ => none)
    | _ => none
  | .iastore => match st with
    | .inl z :: .inl i :: .inr (.inl a) :: st' => (match h.1[a]? with
      | some (.inl n) => if 4 ≤ a ∧ 0 ≤ i ∧ i < (n : Int) then oN ls st' (h.1, ex_ar h.2 a (ex_u (h.2 a) i z)) else none
      | _ => none)
    | _ => none
  | .aaload => match st with
    | .inl i :: .inr (.inl a) :: st' => (match h.1[a]? with
      | some (.inr (.inl r)) => if 4 ≤ a ∧ 0 ≤ i ∧ i < (r.length : Int) then (match r[i.toNat]? with
        | some (some x) => oN ls (.inr (.inl x) :: st') h
        | _ => none) else none
      | _ => none)
    | _ => none
  | .aastore => match st with
    | .inr (.inl v) :: .inl i :: .inr (.inl a) :: st' => (match h.1[a]? with
      | some (.inr (.inl r)) => if 4 ≤ a ∧ 0 ≤ i ∧ i < (r.length : Int) then (match h.1[v]? with
        | some (.inr (.inr (1, _))) => if 4 ≤ v then oN ls st' (h.1.set a (.inr (.inl (r.set i.toNat (some v)))), h.2) else none
        | _ => none) else none
      | _ => none)
    | _ => none
  | .newarray .int => match st with
    | .inl n :: st' => if 0 ≤ n ∧ n ≤ 65536 ∧ 4 ≤ h.1.length then oN ls (.inr (.inl h.1.length) :: st') (h.1 ++ [.inl n.toNat], ex_ar h.2 h.1.length (fun _ => 0)) else none
    | _ => none
  | .anewarray c => match st with
    | .inl n :: st' => if c = 1 ∧ 0 ≤ n ∧ n ≤ 65536 ∧ 4 ≤ h.1.length then oN ls (.inr (.inl h.1.length) :: st') (h.1 ++ [.inr (.inl (List.replicate n.toNat none))], h.2) else none
    | _ => none
  | .new c => match ex_cf[c]? with
    | some f => if 4 ≤ h.1.length then oN ls (.inr (.inl h.1.length) :: st) (h.1 ++ [.inr (.inr (c, f))], ex_ar h.2 h.1.length (fun _ => 0)) else none
    | none => none
  | .getfield q => match st with
    | .inr (.inl a) :: st' => (match h.1[a]? with
      | some (.inr (.inr (c, f))) => if 4 ≤ a ∧ c = q / 32 then (match f[q % 32]? with
        | some none => oN ls (.inl (h.2 a ((q % 32 : Nat) : Int)) :: st') h
        | some (some (some x)) => oN ls (.inr (.inl x) :: st') h
        | _ => none) else none
      | _ => none)
    | _ => none
  | .putfield q => match st with
    | v :: .inr (.inl a) :: st' => (match h.1[a]? with
      | some (.inr (.inr (c, f))) => if 4 ≤ a ∧ c = q / 32 then (match f[q % 32]?, v with
        | some none, .inl z => oN ls st' (h.1, ex_ar h.2 a (ex_u (h.2 a) ((q % 32 : Nat) : Int) z))
        | some (some _), .inr (.inl x) => oN ls st' (h.1.set a (.inr (.inr (c, f.set (q % 32) (some (some x))))), h.2)
        | _, _ => none) else none
      | _ => none)
    | _ => none
  | .getstatic k => if k < 3 then oN ls (.inr (.inl (k + 1)) :: st) h else none
  | .if_icmp c t => match st with
    | .inl b :: .inl a :: st' => ex_if c a b t.toNat ls st' h
    | _ => none
  | .ifCond c t => match st with
    | .inl a :: st' => ex_if c a 0 t.toNat ls st' h
    | _ => none
  | .ifnull _ => match st with
    | .inr (.inl _) :: st' => oN ls st' h
    | _ => none
  | .goto t => oJ t.toNat ls st h
  | .goto_w t => oJ t.toNat ls st h
  | .tableswitch df lo hi of => match st with
    | .inl a :: st' => if a < lo ∨ hi < a then oJ df.toNat ls st' h else (match of[(a - lo).toNat]? with
      | some t => oJ t.toNat ls st' h
      | none => none)
    | _ => none
  | .lookupswitch df ps => match st with
    | .inl a :: st' => oJ (Op.lookupswitch.offset ps.toList df a).toNat ls st' h
    | _ => none
  | .invokestatic m => ex_ca 0 m st h
  | .invokevirtual m => ex_ca 1 m st h
  | .invokespecial m => ex_ca 2 m st h
  | .invokedynamic k => if k = 1 then (match st with
      | .inr (.inl _) :: st' => if st'.length ≤ 8 ∧ st'.all ex_sh = true then oN ls st' h else none
      | _ => none) else (match st with
      | .inl n :: .inl dp :: .inr (.inl b) :: .inl sp :: .inr (.inl a) :: st' => (match h.1[a]?, h.1[b]? with
        | some (.inl n0), some (.inl n1) => if 4 ≤ a ∧ 4 ≤ b ∧ 0 ≤ sp ∧ 0 ≤ dp ∧ 0 ≤ n ∧ sp + n ≤ (n0 : Int) ∧ dp + n ≤ (n1 : Int) ∧ st'.length ≤ 8 ∧ st'.all ex_sh = true then
            oN ls st' (h.1, ex_ar h.2 b (ex_cpy (h.2 a) (h.2 b) sp dp n)) else none
        | _, _ => none)
      | _ => none)
  | .ireturn => match st with
    | [.inl z] => if rt = 1 ∨ (rt = 2 ∧ (z = 0 ∨ z = 1)) then oR [.inl z] h else none
    | _ => none
  | .return_ => match st with
    | [] => if rt = 0 then oR [] h else none
    | _ => none
  | .ret _ => match st with
    | [] => oR ls h
    | _ => none
  | _ => none
/-- a stretch of code: what it does up to its next jump, or its end -/
def ex_xs (rt : Nat) (J : Nat → List ex_V → List ex_V → ex_H → Option ex_R) (C : Nat → List ex_V → ex_H → Option ex_R) : List Instr → List ex_V → List ex_V → ex_H → Option ex_R
  | [], _, _, _ => none
  | i :: is, ls, st, h => match ex_st rt ls st h i with
    | none => none
    | some (.inl (ls', st', h')) => ex_xs rt J C is ls' st' h'
    | some (.inr (.inl (b, ls', st', h'))) => J b ls' st' h'
    | some (.inr (.inr (.inl (m, as, rest, h')))) => (match C m as h' with
      | some (vs, h'') => ex_xs rt J C is ls (vs ++ rest) h''
      | none => none)
    | some (.inr (.inr (.inr r))) => some r
def ex_rt (m : Nat) : Nat := match ex_mt[m]? with
  | some (_, _, _, _, r) => r
  | none => 0
def ex_fr (m : Nat) (as : List ex_V) : List ex_V := match ex_mt[m]? with
  | some (_, _, n, mL, _) => as ++ List.replicate (mL - n) (.inr (.inr 0))
  | none => as
def ex_k (f : Nat → Option ex_R) (d : Nat) : Option ex_R := match d with
  | 0 => none
  | d' + 1 => f d'
/-- the machine: d calls deep at most, n jumps at most -/
def ex_run : Nat → Nat → Nat → Nat → List ex_V → List ex_V → ex_H → Option ex_R
  | 0, _, _, _, _, _, _ => none
  | n + 1, d, m, b, ls, st, h => ex_xs (ex_rt m) (fun b' ls' st' h' => ex_run n d m b' ls' st' h')
      (fun m' as h' => ex_k (fun d' => ex_run n d' m' 0 (ex_fr m' as) [] h') d) (ex_bk m b) ls st h
/-! more fuel, more depth: the same answer -/
theorem ex_xs_mono {rt : Nat} {J J' : Nat → List ex_V → List ex_V → ex_H → Option ex_R} {C C' : Nat → List ex_V → ex_H → Option ex_R} (hJ : ∀ b ls st h r, J b ls st h = some r → J' b ls st h = some r) (hC : ∀ m as h r, C m as h = some r → C' m as h = some r) :
    ∀ (is : List Instr) (ls st : List ex_V) (h : ex_H) (r : ex_R), ex_xs rt J C is ls st h = some r → ex_xs rt J' C' is ls st h = some r := by
  intro is
  induction is with
  | nil => intro ls st h r e; simp [ex_xs] at e
  | cons i is ih =>
    intro ls st h r e
    unfold ex_xs at e ⊢
    split at e
    · cases e
    · exact ih _ _ _ _ e
    · exact hJ _ _ _ _ _ e
    · split at e
      · next hc => rw [hC _ _ _ _ hc]; exact ih _ _ _ _ e
      · cases e
    · exact e
theorem ex_run_mono : ∀ (n d m b : Nat) (ls st : List ex_V) (h : ex_H) (r : ex_R), ex_run n d m b ls st h = some r → ∀ n' d' : Nat, n ≤ n' → d ≤ d' → ex_run n' d' m b ls st h = some r := by
  intro n
  induction n with
  | zero => intro d m b ls st h r e; simp [ex_run] at e
  | succ n ih =>
    intro d m b ls st h r e n' d' hn hd
    obtain ⟨n'', rfl⟩ : ∃ k, n' = k + 1 := ⟨n' - 1, by omega⟩
    unfold ex_run at e ⊢
    refine ex_xs_mono (fun b ls st h r e => ih _ _ _ _ _ _ _ e _ _ (by omega) hd) (fun m as h r e => ?_) _ _ _ _ _ e
    cases d with
    | zero => cases e
    | succ d =>
      obtain ⟨d'', rfl⟩ : ∃ k, d' = k + 1 := ⟨d' - 1, by omega⟩
      exact ih _ _ _ _ _ _ _ e _ _ (by omega) (by omega)
/-- what a run comes to, however long it is -/
noncomputable def ex_ev (d m b : Nat) (ls st : List ex_V) (h : ex_H) : Option ex_R := by
  classical exact if e : ∃ r n, ex_run n d m b ls st h = some r then some e.choose else none
noncomputable def ex_cl (d m : Nat) (as : List ex_V) (h : ex_H) : Option ex_R := ex_ev d m 0 (ex_fr m as) [] h
/-- a call that stands d deep -/
noncomputable def ex_cd (d m : Nat) (as : List ex_V) (h : ex_H) : Option ex_R := ex_k (fun d' => ex_cl d' m as h) d
theorem ex_ev_some {d m b : Nat} {ls st : List ex_V} {h : ex_H} {r : ex_R} : ex_ev d m b ls st h = some r ↔ ∃ n, ex_run n d m b ls st h = some r := by
  classical
  unfold ex_ev
  constructor
  · intro e
    split at e
    · next hx =>
      cases e
      exact hx.choose_spec
    · cases e
  · rintro ⟨n, e⟩
    have hx : ∃ r n, ex_run n d m b ls st h = some r := ⟨r, n, e⟩
    rw [dif_pos hx]
    obtain ⟨n2, e2⟩ := hx.choose_spec
    have a1 := ex_run_mono _ _ _ _ _ _ _ _ e (n + n2) d (by omega) (Nat.le_refl _)
    have a2 := ex_run_mono _ _ _ _ _ _ _ _ e2 (n + n2) d (by omega) (Nat.le_refl _)
    rw [a1] at a2
    exact congrArg some (Option.some.inj a2).symm
theorem ex_ev_mono {d d' m b : Nat} {ls st : List ex_V} {h : ex_H} {r : ex_R} (e : ex_ev d m b ls st h = some r) (hd : d ≤ d') : ex_ev d' m b ls st h = some r := by
  obtain ⟨n, e⟩ := ex_ev_some.mp e
  exact ex_ev_some.mpr ⟨n, ex_run_mono _ _ _ _ _ _ _ _ e _ _ (Nat.le_refl _) hd⟩
theorem ex_cl_mono {d d' m : Nat} {as : List ex_V} {h : ex_H} {r : ex_R} (e : ex_cl d m as h = some r) (hd : d ≤ d') : ex_cl d' m as h = some r := ex_ev_mono e hd
theorem ex_xs_cont {rt : Nat} {J : Nat → List ex_V → List ex_V → ex_H → Option ex_R} {C : Nat → List ex_V → ex_H → Option ex_R} {Jn : Nat → Nat → List ex_V → List ex_V → ex_H → Option ex_R} {Cn : Nat → Nat → List ex_V → ex_H → Option ex_R}
    (mJ : ∀ n n' b ls st h r, n ≤ n' → Jn n b ls st h = some r → Jn n' b ls st h = some r) (mC : ∀ n n' m as h r, n ≤ n' → Cn n m as h = some r → Cn n' m as h = some r)
    (hJ : ∀ b ls st h r, J b ls st h = some r → ∃ n, Jn n b ls st h = some r) (hC : ∀ m as h r, C m as h = some r → ∃ n, Cn n m as h = some r) :
    ∀ (is : List Instr) (ls st : List ex_V) (h : ex_H) (r : ex_R), ex_xs rt J C is ls st h = some r → ∃ n, ex_xs rt (Jn n) (Cn n) is ls st h = some r := by
  intro is
  induction is with
  | nil => intro ls st h r e; simp [ex_xs] at e
  | cons i is ih =>
    intro ls st h r e
    unfold ex_xs at e ⊢
    split at e
    · cases e
    · exact ih _ _ _ _ e
    · exact hJ _ _ _ _ _ e
    · split at e
      · next hc =>
        obtain ⟨n1, e1⟩ := hC _ _ _ _ hc
        obtain ⟨n2, e2⟩ := ih _ _ _ _ e
        refine ⟨n1 + n2, ?_⟩
        simp only [mC _ (n1 + n2) _ _ _ _ (by omega) e1]
        exact ex_xs_mono (fun b ls st h r e => mJ _ _ _ _ _ _ _ (by omega) e) (fun m as h r e => mC _ _ _ _ _ _ (by omega) e) _ _ _ _ _ e2
      · cases e
    · exact ⟨0, e⟩
theorem ex_ev_eq (d m b : Nat) (ls st : List ex_V) (h : ex_H) : ex_ev d m b ls st h = ex_xs (ex_rt m) (ex_ev d m) (ex_cd d) (ex_bk m b) ls st h := by
  have key : ∀ r, ex_ev d m b ls st h = some r ↔ ex_xs (ex_rt m) (ex_ev d m) (ex_cd d) (ex_bk m b) ls st h = some r := by
    intro r
    rw [ex_ev_some]
    constructor
    · rintro ⟨n, e⟩
      cases n with
      | zero => simp [ex_run] at e
      | succ n =>
        unfold ex_run at e
        refine ex_xs_mono (fun b ls st h r e => ex_ev_some.mpr ⟨n, e⟩) (fun m as h r e => ?_) _ _ _ _ _ e
        cases d with
        | zero => cases e
        | succ d => exact ex_ev_some.mpr ⟨n, e⟩
    · intro e
      obtain ⟨n, e⟩ := ex_xs_cont (Jn := fun n b' ls' st' h' => ex_run n d m b' ls' st' h') (Cn := fun n m' as h' => ex_k (fun d' => ex_run n d' m' 0 (ex_fr m' as) [] h') d) (fun n n' b ls st h r hn e => ex_run_mono _ _ _ _ _ _ _ _ e _ _ hn (Nat.le_refl _)) (fun n n' m as h r hn e => by
          cases d with
          | zero => cases e
          | succ d => exact ex_run_mono _ _ _ _ _ _ _ _ e _ _ hn (Nat.le_refl _)) (fun b ls st h r e => ex_ev_some.mp e) (fun m as h r e => by
          cases d with
          | zero => cases e
          | succ d => exact ex_ev_some.mp e) _ _ _ _ _ e
      exact ⟨n + 1, e⟩
  cases ha : ex_ev d m b ls st h with
  | some r => exact ((key r).mp ha).symm
  | none =>
    cases hb : ex_xs (ex_rt m) (ex_ev d m) (ex_cd d) (ex_bk m b) ls st h with
    | none => rfl
    | some r => rw [(key r).mpr hb] at ha; cases ha
theorem ex_cd_of {d d' m : Nat} {as : List ex_V} {h : ex_H} {r : ex_R} (e : ex_cl d m as h = some r) (hd : d < d') : ex_cd d' m as h = some r := by
  obtain ⟨k, rfl⟩ : ∃ k, d' = k + 1 := ⟨d' - 1, by omega⟩
  exact ex_cl_mono e (by omega)
