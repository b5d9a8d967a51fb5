/-! what remains of single instructions; the words of a method -/
theorem ex_catsum {ad : Nat → Nat} : ∀ (st : List ex_V), st.all ex_sh = true → ((st.map (ex_vv ad)).map fun v => v.category).sum = st.length
  | [], _ => rfl
  | v :: st, h => by
    rw [List.all_cons, Bool.and_eq_true] at h
    rw [List.map_cons, List.map_cons, List.sum_cons, ex_catsum st h.2, ex_cat h.1, List.length_cons]
    omega
theorem lw_obj : Cond.instanceMethod objectInit ∈ lw_gd ∧ Cond.code objectInit ⟨#[0xb1]⟩ 1 none ∈ lw_gd := ⟨lw_gd_mem (by decide +kernel) rfl, lw_gd_mem (by decide +kernel) rfl⟩
theorem lw_cpy : Cond.native arraycopyName ∈ lw_gd ∧ Cond.static arraycopyName ∈ lw_gd ∧ Cond.initialized "java/lang/System" ∈ lw_gd := ⟨lw_gd_mem (by decide +kernel) rfl, lw_gd_mem (by decide +kernel) rfl, lw_gd_mem (by decide +kernel) rfl⟩
theorem lw_nfw : nativeFrameWords "java/lang/System" "arraycopy" 5 ≤ 40 := by decide +kernel
section XC
variable {p : Program} {l : Launch} {e : Env} {R : Room} {s : State} {m : MethodId} {args : Array Value} {below : List Frame} {meth : Method} {c : Code} {H : Heap} {locs : List Loc} {cells slots : Nat} {Q : State → Prop}
variable {D : va_G} {A1 A2 : ClassId} {A : Nat → Prop} {t nn : Nat → Nat} {g : Nat → Int → Int} {own kd nL rt : Nat} {cc : ByteArray} {pcs : List Nat} {pc len : Nat} {raw : Instr}
variable {ad : Nat → Nat} {L : Array Slot} {ls st ls' st' : List ex_V} {h h' : ex_H}
theorem sw_ifnull {tg : Int} (X : ex_X p s m args meth c D A1 A2 A t nn g own kd nL cc) (Y : ex_Y s D A1 A2 A t nn g nL ad L H locs ls st h) (hd : decode cc pc = .ok (raw, len)) (hm : (raw, len) ∈ rw_i own kd pcs pc (.ifnull tg)) (he : ex_st rt ls st h (.ifnull tg) = oN ls' st' h')
    (kk : ex_K p l e R s m args below meth c Q D A1 A2 A t nn g nL cells slots ad h (pc + len) ls' st' h') : W p l e R s m args below meth c H locs cells slots Q (F0 m pc L (st.map (ex_vv ad))) := by
  cases List.mem_singleton.mp hm
  rcases st with _ | ⟨z | z | z, st0⟩
  · cases he
  · cases he
  · cases he
    exact lv_ifnull X.1 X.2.1 hd (kk.go (Y.sk (ex_top1 Y.2.2.2.2.2.2.2).2))
  · cases he
theorem sw_dyn {k : Nat} (hR1 : 1 ≤ R.frames) (hR2 : 64 ≤ R.locals) (X : ex_X p s m args meth c D A1 A2 A t nn g own kd nL cc) (Y : ex_Y s D A1 A2 A t nn g nL ad L H locs ls st h) (hd : decode cc pc = .ok (raw, len)) (hm : (raw, len) ∈ rw_i own kd pcs pc (.invokedynamic k)) (he : ex_st rt ls st h (.invokedynamic k) = oN ls' st' h')
    (kk : ex_K p l e R s m args below meth c Q D A1 A2 A t nn g nL cells slots ad h (pc + len) ls' st' h') : W p l e R s m args below meth c H locs cells slots Q (F0 m pc L (st.map (ex_vv ad))) := by
  obtain ⟨hx, hb, hml, hown, hts, -, hK, hT, hA⟩ := X
  dsimp only [ex_st] at he
  dsimp only [rw_i] at hm
  by_cases hk : k = 1
  · rw [if_pos hk] at he hm
    obtain ⟨x, hx1, hx2⟩ := List.mem_map.mp hm
    cases hx2
    obtain ⟨⟨q1, q2, q3, q4⟩, h1, h2, h3, h5⟩ := ck_lk_mem hx1
    have ho := ex_lk_own h1
    dsimp only at h2 h3 h5 ho
    subst h2; subst h3; subst h5; subst ho
    have hlk := hts _ (lw_lk h1 (fun q => by cases q))
    rcases st with _ | ⟨z | z | z, st0⟩
    · cases he
    · cases he
    · dsimp only at he
      by_cases hl : st0.length ≤ 8 ∧ st0.all ex_sh = true
      · rw [if_pos hl] at he
        cases he
        have hsz : L.size = nL := Y.2.2.2.2.1.1
        exact W.objInit (a := ad z) hx hb hown hlk (hts _ lw_obj.1) (hts _ lw_obj.2) rfl (by rw [hml]; exact hsz) rfl hd hR1 (by show 2 * 0 + _ + 12 ≤ _; rw [ex_catsum _ hl.2]; omega) (kk.go (Y.sk (ex_top1 Y.2.2.2.2.2.2.2).2))
      · rw [if_neg hl] at he; cases he
    · cases he
  · rw [if_neg hk] at he hm
    obtain ⟨x, hx1, hx2⟩ := List.mem_map.mp hm
    cases hx2
    obtain ⟨⟨q1, q2, q3, q4⟩, h1, h2, h3, h5⟩ := ck_lk_mem hx1
    have ho := ex_lk_own h1
    dsimp only at h2 h3 h5 ho
    subst h2; subst h3; subst h5; subst ho
    have hlk := hts _ (lw_lk h1 (fun q => by cases q))
    split at he
    · next n dp b sp a st0 =>
      split at he
      · next n0 n1 e0 e1 =>
        split at he
        · next hi =>
          cases he
          obtain ⟨i1, i2, i3, i4, i5, i6, i7, i8, i9⟩ := hi
          have Y0 := Y
          obtain ⟨hP, hD, hS, hB, hL, -, -, y8⟩ := Y0
          obtain ⟨z1, y⟩ := ex_top1 y8
          obtain ⟨z2, y⟩ := ex_top1 y
          obtain ⟨z3, y⟩ := ex_top1 y
          obtain ⟨z4, y⟩ := ex_top1 y
          obtain ⟨z5, y⟩ := ex_top1 y
          have rn : ex_r32 n := z1
          have rd : ex_r32 dp := z2
          have rs : ex_r32 sp := z4
          have hsz : L.size = nL := hL.1
          have kn := lw_nfw
          refine va_copyi hx hb (by rw [hml, hsz]) hown hlk (hts _ lw_cpy.1) (hts _ lw_cpy.2.1) (hts _ lw_cpy.2.2) hK hP hD hS (a - 4) (b - 4) 0 0 (ty := .int) (ex_W_arr i1 e0) (ex_W_arr i2 e1) rfl rfl rfl (fun q => by have := (i_lt0 rs).mp q; omega) (fun q => by have := (i_lt0 rd).mp q; omega) (fun q => by have := (i_lt0 rn).mp q; omega) (by rw [i_cl rs i3, i_cl rn i5]; omega) (by rw [i_cl rd i4, i_cl rn i5]; omega) (fun i _ => rfl) hR1 (by rw [ex_catsum _ i9]; omega) hd (fun H1 locs1 hP1 hD1 hS1 => ?_)
          refine kk ad L H1 locs1 cells slots (fun _ _ => rfl) rfl rfl (Y.ar i2 e1 (f := ex_cpy (h.2 a) (h.2 b) sp dp n) (fun j => ?_) ?_ hP1 hD1 hS1 y)
          · unfold ex_cpy
            split
            · exact hB.1 _ _
            · exact hB.1 _ _
          · refine congrArg (fun F => (Sum.inl (A1, n1, Sum.inl F) : va_E)) (funext fun j => ?_)
            rw [i_cl rs i3, i_cl rn i5, i_cl rd i4]
            unfold va_cpy ex_cpy
            by_cases hj : dp.toNat ≤ j ∧ j < dp.toNat + n.toNat
            · rw [if_pos hj, if_pos (by omega)]
              show Int32.ofInt (h.2 a ((sp.toNat + (j - dp.toNat) : Nat) : Int)) = Int32.ofInt (h.2 a (sp + ((j : Int) - dp)))
              rw [show ((sp.toNat + (j - dp.toNat) : Nat) : Int) = sp + ((j : Int) - dp) by omega]
            · rw [if_neg hj, if_neg (by omega)]
        · cases he
      · cases he
    · cases he
end XC
theorem mc_at {k n : Nat} (hc : ((ex_my.drop k).take n).map (fun q => some (Cond.code q.1 q.2.1 q.2.2.1 q.2.2.2)) = ((ex_mp.drop k).take n).map (fun p => lw_tbl[p.1]?)) {m : Nat} (h1 : k ≤ m) (h2 : m < k + n) {q : MethodName × ByteArray × Nat × Option FieldType} {r : Nat × Nat × Nat × Nat} (hq : ex_my[m]? = some q) (hr : ex_mp[m]? = some r) : lw_tbl[r.1]? = some (Cond.code q.1 q.2.1 q.2.2.1 q.2.2.2) := by
  have h := congrArg (fun l : List (Option Cond) => l[m - k]?) hc
  try dsimp only at h
  rw [List.getElem?_map, List.getElem?_map, List.getElem?_take_of_lt (by omega), List.getElem?_take_of_lt (by omega), List.getElem?_drop, List.getElem?_drop, show k + (m - k) = m by omega, hq, hr] at h
  exact (Option.some.inj h).symm
theorem mk_of {m kd own n mL r : Nat} (hm : ex_mt[m]? = some (kd, own, n, mL, r)) (hlt : m < 241) : ∃ (y : MethodName) (cc : ByteArray), ex_my[m]? = some (y, cc, mL, ex_rf r) ∧ y.cls = ex_nm own ∧ plainFor y = true ∧ (y.cls ≠ "java/lang/invoke/MethodHandle" ∧ y.cls ≠ "java/lang/invoke/VarHandle" ∧ (parseMethodDescriptor y.desc).map (fun d => d.parameters.length) = some (if kd = 0 then n else n - 1)) ∧
    (n ≤ mL ∧ mL ≤ 20 ∧ (kd = 0 ∨ 1 ≤ n) ∧ kd ≤ 2 ∧ (kd = 2 → y.name = "<init>" ∧ r = 0)) ∧ Cond.code y cc mL (ex_rf r) ∈ lw_gd ∧ Cond.initialized y.cls ∈ lw_gd ∧ (kd = 0 → Cond.static y ∈ lw_gd) ∧ (kd ≠ 0 → Cond.instanceMethod y ∈ lw_gd) ∧ (kd = 1 → Cond.selects y.cls y y ∈ lw_gd) := by
  have h := mk_all m hlt
  unfold mk_ok at h
  rw [hm] at h
  cases hy : ex_my[m]? with
  | none => rw [hy] at h; cases h
  | some q =>
    obtain ⟨y, cc, mL', ret⟩ := q
    cases hp : ex_mp[m]? with
    | none => rw [hy, hp] at h; cases h
    | some pp =>
      obtain ⟨p1, p2, p3, p4⟩ := pp
      rw [hy, hp] at h
      dsimp only at h
      simp only [Bool.and_eq_true, decide_eq_true_eq] at h
      obtain ⟨⟨a1, a2, a3, a4, a5, a6⟩, b1, ⟨c1, c2, c3, c4, c5⟩, d1, d2, d3⟩ := h
      subst a1
      subst a2
      have hcode : lw_tbl[p1]? = some (Cond.code y cc mL (ex_rf r)) := by
        by_cases h0 : m < 24
        · exact mc_at mc_g0 (by omega) (by omega) hy hp
        by_cases h1 : m < 48
        · exact mc_at mc_g1 (by omega) (by omega) hy hp
        by_cases h2 : m < 72
        · exact mc_at mc_g2 (by omega) (by omega) hy hp
        by_cases h3 : m < 96
        · exact mc_at mc_g3 (by omega) (by omega) hy hp
        by_cases h4 : m < 120
        · exact mc_at mc_g4 (by omega) (by omega) hy hp
        by_cases h5 : m < 144
        · exact mc_at mc_g5 (by omega) (by omega) hy hp
        by_cases h6 : m < 168
        · exact mc_at mc_g6 (by omega) (by omega) hy hp
        by_cases h7 : m < 192
        · exact mc_at mc_g7 (by omega) (by omega) hy hp
        by_cases h8 : m < 216
        · exact mc_at mc_g8 (by omega) (by omega) hy hp
        by_cases h9 : m < 240
        · exact mc_at mc_g9 (by omega) (by omega) hy hp
        · exact mc_at mc_g10 (by omega) (by omega) hy hp
      refine ⟨y, cc, rfl, a3, a4, ⟨a5, a6, b1⟩, ⟨c1, c2, c3, c4, c5⟩, lw_gd_mem (List.mem_of_getElem? hcode) rfl, lw_gd_mem (List.mem_of_getElem? d1) rfl, fun hk => ?_, fun hk => ?_, fun hk => lw_gd_mem (List.mem_of_getElem? (d3 hk)) rfl⟩
      · rw [if_pos hk] at d2
        exact lw_gd_mem (List.mem_of_getElem? d2) rfl
      · rw [if_neg hk] at d2
        exact lw_gd_mem (List.mem_of_getElem? d2) rfl
def ml_ok (q : ex_L) : Bool := decide (q.1 = 2 ∨ q.1 = 3 → 0 ≤ q.2.2.2 ∧ q.2.2.2 < 241)
theorem ml_all (own : Nat) : ∀ q ∈ ex_lk own, ml_ok q = true := by
  have key : ∀ (L : List ex_L), L.all ml_ok = true → ∀ q ∈ L, ml_ok q = true := fun L hL q hq => List.all_eq_true.mp hL q hq
  unfold ex_lk
  split <;> first | exact key _ (by decide +kernel) | (intro q hq; cases hq)
/-- the words of a method's contract -/
def ex_ws (y : MethodName) (cc : ByteArray) (mL : Nat) (ret : Option FieldType) : List Cond := Cond.code y cc mL ret :: lw_gd
theorem ex_good {y y' : MethodName} {cc cc' : ByteArray} {mL mL' : Nat} {ret ret' : Option FieldType} (h : Cond.code y' cc' mL' ret' ∈ lw_gd) : GoodIn lw_gd (ex_ws y' cc' mL' ret') := by
  intro w hw
  rcases List.mem_cons.mp hw with rfl | h1
  · exact ⟨h, good_of_word (lw_gd_good h)⟩
  · exact ⟨h1, good_of_word (lw_gd_good h1)⟩
/-- arguments as locals -/
theorem ex_args {ad : Nat → Nat} : ∀ (as : List ex_V) (i : Nat), as.all ex_sh = true → ∀ (k : Nat) (v : ex_V), as[k]? = some v → (i + k, ex_vv ad v) ∈ lv_args i (as.map (ex_vv ad))
  | [], i, _, k, v, h => by simp at h
  | a :: as, i, hs, 0, v, h => by
    have ha : a = v := by simpa using h
    subst ha
    rw [List.map_cons, lv_args]
    exact List.mem_cons_self
  | a :: as, i, hs, k + 1, v, h => by
    rw [List.all_cons, Bool.and_eq_true] at hs
    rw [List.map_cons, lv_args, ex_cat hs.1]
    have := ex_args (ad := ad) as (i + 1) hs.2 k v (by simpa using h)
    rw [show i + (k + 1) = i + 1 + k by omega]
    exact List.mem_cons_of_mem _ this
theorem ex_lgsl {ad : Nat → Nat} : ∀ (as : List ex_V), as.all ex_sh = true → (lg_sl (as.map (ex_vv ad))).length = as.length
  | [], _ => rfl
  | a :: as, hs => by
    rw [List.all_cons, Bool.and_eq_true] at hs
    have := ex_lgsl (ad := ad) as hs.2
    unfold lg_sl at this ⊢
    rw [List.map_cons, List.flatMap_cons, List.length_append, this, ex_cat hs.1]
    simp
    omega
theorem ex_pr_args {ad : Nat → Nat} {as : List ex_V} (hs : as.all ex_sh = true) {k : Nat} {L : Array Slot} {n : Nat} (h : lv_has L n (lv_args 0 (as.map (ex_vv ad)))) : lv_has L n (ex_pr ad (as ++ List.replicate k (.inr (.inr 0)))) := by
  refine ex_has_sub h (fun q hq => ?_)
  obtain ⟨v, h1, h2, h3⟩ := ex_pr_mem.mp hq
  by_cases hl : q.1 < as.length
  · rw [List.getElem?_append_left hl] at h1
    have := ex_args (ad := ad) as 0 hs q.1 v h1
    rw [Nat.zero_add, ← h3] at this
    exact this
  · rw [List.getElem?_append_right (by omega)] at h1
    have := List.mem_of_getElem? h1
    rw [List.mem_replicate] at this
    rw [this.2] at h2
    cases h2
