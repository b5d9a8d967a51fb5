/-! the law: nothing writes into the script; one call of the class, the same of the reference -/
theorem lw_ar {σ : ex_S} {a : Nat} {f : Int → Int} (h : 4 ≤ a) : ex_ar σ a f 0 = σ 0 := ex_ar_diff _ _ _ (by omega)
theorem ex_st_lw {rt : Nat} {ls st : List ex_V} {h : ex_H} {i : Instr} {o : (List ex_V × List ex_V × ex_H) ⊕ ((Nat × List ex_V × List ex_V × ex_H) ⊕ ((Nat × List ex_V × List ex_V × ex_H) ⊕ ex_R))} (he : ex_st rt ls st h i = some o) : (ex_oh o).2 0 = h.2 0 := by
  unfold ex_st at he
  split at he
  all_goals first
    | (cases he; done)
    | (obtain ⟨st', rfl⟩ := ex_bin_gr he; exact rfl)
    | (rw [ex_ca_gr he])
    | (repeat' split at he
       all_goals first
         | (cases he; done)
         | (rw [ex_if_gr he])
         | (cases he; exact lw_ar (by omega))
         | (cases he; exact rfl))
    | (cases he; exact rfl)
theorem ex_xs_lw {rt : Nat} {J : Nat → List ex_V → List ex_V → ex_H → Option ex_R} {C : Nat → List ex_V → ex_H → Option ex_R} (hJ : ∀ b ls st h r, J b ls st h = some r → r.2.2 0 = h.2 0) (hC : ∀ m as h r, C m as h = some r → r.2.2 0 = h.2 0) :
    ∀ (is : List Instr) (ls st : List ex_V) (h : ex_H) (r : ex_R), ex_xs rt J C is ls st h = some r → r.2.2 0 = h.2 0 := by
  intro is
  induction is with
  | nil => intro ls st h r e; simp [ex_xs] at e
  | cons i is ih =>
    intro ls st h r e
    unfold ex_xs at e
    split at e
    · cases e
    · next hs => exact (ih _ _ _ _ e).trans (ex_st_lw hs)
    · next hs => exact (hJ _ _ _ _ _ e).trans (ex_st_lw hs)
    · next hs =>
      split at e
      · next hc => exact ((ih _ _ _ _ e).trans (hC _ _ _ _ hc)).trans (ex_st_lw hs)
      · cases e
    · next hs =>
      cases e
      exact ex_st_lw hs
theorem ex_run_lw : ∀ (n d m b : Nat) (ls st : List ex_V) (h : ex_H) (r : ex_R), ex_run n d m b ls st h = some r → r.2.2 0 = h.2 0 := by
  intro n
  induction n with
  | zero => intro d m b ls st h r e; simp [ex_run] at e
  | succ n ih =>
    intro d m b ls st h r e
    unfold ex_run at e
    refine ex_xs_lw (fun b ls st h r e => ih _ _ _ _ _ _ _ e) (fun m as h r e => ?_) _ _ _ _ _ e
    cases d with
    | zero => cases e
    | succ d => exact ih _ _ _ _ _ _ _ e
theorem ex_cd_lw {d m : Nat} {as : List ex_V} {h : ex_H} {r : ex_R} (hd : 0 < d) (e : ex_cd d m as h = some r) : r.2.2 0 = h.2 0 := by
  rw [ex_cd_eq hd] at e
  obtain ⟨n, hn⟩ := ex_ev_some.mp e
  exact ex_run_lw _ _ _ _ _ _ _ _ hn
abbrev lw_ls (k : Nat) : List ex_V := [vR 0, vR 4, vR 432, vI (7 * (k : Int))]
def LW (L k : Nat) (σ : ex_S) (B : Nat) : Prop := ∃ gb σ', ex_ev 40 241 B (lw_ls k) [] (SH L, σ) = some (lw_ls (k + 1), (SH L ++ gb, σ')) ∧ CI σ' ∧ σ' 0 = σ 0 ∧ gb.length ≤ 1 ∧ ex_tot gb ≤ 4
section LWR
variable {rt d L : Nat} {J : Nat → List ex_V → List ex_V → ex_H → Option ex_R} {C : Nat → List ex_V → ex_H → Option ex_R} {is : List Instr} {ls st : List ex_V} {σ : ex_S} {H2 : ex_H} {r : Int}
theorem ld_0 {i : Int} (h0 : 0 ≤ i) (h1 : i < (L : Int)) : ex_xs rt J C (.iaload :: is) ls (vI i :: vR 0 :: st) (SH L, σ) = ex_xs rt J C is ls (vI (σ 0 i) :: st) (SH L, σ) := x_ald (n := L) rfl h0 h1
theorem ln_0 : ex_xs rt J C (.arraylength :: is) ls (vR 0 :: st) (SH L, σ) = ex_xs rt J C is ls (vI (ex_wr (L : Int)) :: st) (SH L, σ) := x_aln (n := L) rfl
theorem x_stop {k : Nat} {h : ex_H} : ex_xs rt J C (.ret k :: is) ls [] h = some (ls, h) := rfl
theorem xk_85 {a0 a1 a2 a3 : Int} (he : ex_cd d 85 (vR 4 :: [vI a0, vI a1, vI a2, vI a3]) (SH L, σ) = some ([vI r], H2)) (hok : okN 8 st = true) : ex_xs rt J (ex_cd d) (.invokevirtual 85 :: is) ls (vI a3 :: vI a2 :: vI a1 :: vI a0 :: vR 4 :: st) (SH L, σ) = ex_xs rt J (ex_cd d) is ls (vI r :: st) H2 := x_call1 (Or.inl rfl) rfl (sh_4 _) (Or.inl ⟨rfl, rfl⟩) (as := [vI a0, vI a1, vI a2, vI a3]) rfl rfl (okN_ok hok) rfl he
theorem xk_86 {a0 a1 : Int} (he : ex_cd d 86 (vR 4 :: [vI a0, vI a1]) (SH L, σ) = some ([vI r], H2)) (hok : okN 8 st = true) : ex_xs rt J (ex_cd d) (.invokevirtual 86 :: is) ls (vI a1 :: vI a0 :: vR 4 :: st) (SH L, σ) = ex_xs rt J (ex_cd d) is ls (vI r :: st) H2 := x_call1 (Or.inl rfl) rfl (sh_4 _) (Or.inl ⟨rfl, rfl⟩) (as := [vI a0, vI a1]) rfl rfl (okN_ok hok) rfl he
theorem xk_87 {a0 a1 : Int} (he : ex_cd d 87 (vR 4 :: [vI a0, vI a1]) (SH L, σ) = some ([vI r], H2)) (hok : okN 8 st = true) : ex_xs rt J (ex_cd d) (.invokevirtual 87 :: is) ls (vI a1 :: vI a0 :: vR 4 :: st) (SH L, σ) = ex_xs rt J (ex_cd d) is ls (vI r :: st) H2 := x_call1 (Or.inl rfl) rfl (sh_4 _) (Or.inl ⟨rfl, rfl⟩) (as := [vI a0, vI a1]) rfl rfl (okN_ok hok) rfl he
theorem xk_88 {a0 a1 : Int} (he : ex_cd d 88 (vR 4 :: [vI a0, vI a1]) (SH L, σ) = some ([vI r], H2)) (hok : okN 8 st = true) : ex_xs rt J (ex_cd d) (.invokevirtual 88 :: is) ls (vI a1 :: vI a0 :: vR 4 :: st) (SH L, σ) = ex_xs rt J (ex_cd d) is ls (vI r :: st) H2 := x_call1 (Or.inl rfl) rfl (sh_4 _) (Or.inl ⟨rfl, rfl⟩) (as := [vI a0, vI a1]) rfl rfl (okN_ok hok) rfl he
theorem xk_89 {a0 a1 a2 a3 a4 a5 : Int} (he : ex_cd d 89 (vR 4 :: [vI a0, vI a1, vI a2, vI a3, vI a4, vI a5]) (SH L, σ) = some ([vI r], H2)) (hok : okN 8 st = true) : ex_xs rt J (ex_cd d) (.invokevirtual 89 :: is) ls (vI a5 :: vI a4 :: vI a3 :: vI a2 :: vI a1 :: vI a0 :: vR 4 :: st) (SH L, σ) = ex_xs rt J (ex_cd d) is ls (vI r :: st) H2 := x_call1 (Or.inl rfl) rfl (sh_4 _) (Or.inl ⟨rfl, rfl⟩) (as := [vI a0, vI a1, vI a2, vI a3, vI a4, vI a5]) rfl rfl (okN_ok hok) rfl he
theorem xk_90 {a0 a1 : Int} (he : ex_cd d 90 (vR 4 :: [vI a0, vI a1]) (SH L, σ) = some ([vI r], H2)) (hok : okN 8 st = true) : ex_xs rt J (ex_cd d) (.invokevirtual 90 :: is) ls (vI a1 :: vI a0 :: vR 4 :: st) (SH L, σ) = ex_xs rt J (ex_cd d) is ls (vI r :: st) H2 := x_call1 (Or.inl rfl) rfl (sh_4 _) (Or.inl ⟨rfl, rfl⟩) (as := [vI a0, vI a1]) rfl rfl (okN_ok hok) rfl he
theorem xk_91 {a0 a1 a2 : Int} (he : ex_cd d 91 (vR 4 :: [vI a0, vI a1, vI a2]) (SH L, σ) = some ([vI r], H2)) (hok : okN 8 st = true) : ex_xs rt J (ex_cd d) (.invokevirtual 91 :: is) ls (vI a2 :: vI a1 :: vI a0 :: vR 4 :: st) (SH L, σ) = ex_xs rt J (ex_cd d) is ls (vI r :: st) H2 := x_call1 (Or.inl rfl) rfl (sh_4 _) (Or.inl ⟨rfl, rfl⟩) (as := [vI a0, vI a1, vI a2]) rfl rfl (okN_ok hok) rfl he
theorem xk_92 {a0 a1 : Int} (he : ex_cd d 92 (vR 4 :: [vI a0, vI a1]) (SH L, σ) = some ([vI r], H2)) (hok : okN 8 st = true) : ex_xs rt J (ex_cd d) (.invokevirtual 92 :: is) ls (vI a1 :: vI a0 :: vR 4 :: st) (SH L, σ) = ex_xs rt J (ex_cd d) is ls (vI r :: st) H2 := x_call1 (Or.inl rfl) rfl (sh_4 _) (Or.inl ⟨rfl, rfl⟩) (as := [vI a0, vI a1]) rfl rfl (okN_ok hok) rfl he
theorem xk_93 {a0 a1 : Int} (he : ex_cd d 93 (vR 4 :: [vI a0, vI a1]) (SH L, σ) = some ([vI r], H2)) (hok : okN 8 st = true) : ex_xs rt J (ex_cd d) (.invokevirtual 93 :: is) ls (vI a1 :: vI a0 :: vR 4 :: st) (SH L, σ) = ex_xs rt J (ex_cd d) is ls (vI r :: st) H2 := x_call1 (Or.inl rfl) rfl (sh_4 _) (Or.inl ⟨rfl, rfl⟩) (as := [vI a0, vI a1]) rfl rfl (okN_ok hok) rfl he
theorem xk_94 {a0 a1 : Int} (he : ex_cd d 94 (vR 4 :: [vI a0, vI a1]) (SH L, σ) = some ([vI r], H2)) (hok : okN 8 st = true) : ex_xs rt J (ex_cd d) (.invokevirtual 94 :: is) ls (vI a1 :: vI a0 :: vR 4 :: st) (SH L, σ) = ex_xs rt J (ex_cd d) is ls (vI r :: st) H2 := x_call1 (Or.inl rfl) rfl (sh_4 _) (Or.inl ⟨rfl, rfl⟩) (as := [vI a0, vI a1]) rfl rfl (okN_ok hok) rfl he
theorem xk_95 {a0 a1 : Int} (he : ex_cd d 95 (vR 4 :: [vI a0, vI a1]) (SH L, σ) = some ([vI r], H2)) (hok : okN 8 st = true) : ex_xs rt J (ex_cd d) (.invokevirtual 95 :: is) ls (vI a1 :: vI a0 :: vR 4 :: st) (SH L, σ) = ex_xs rt J (ex_cd d) is ls (vI r :: st) H2 := x_call1 (Or.inl rfl) rfl (sh_4 _) (Or.inl ⟨rfl, rfl⟩) (as := [vI a0, vI a1]) rfl rfl (okN_ok hok) rfl he
theorem xk_96 {a0 : Int} (he : ex_cd d 96 (vR 4 :: [vI a0]) (SH L, σ) = some ([vI r], H2)) (hok : okN 8 st = true) : ex_xs rt J (ex_cd d) (.invokevirtual 96 :: is) ls (vI a0 :: vR 4 :: st) (SH L, σ) = ex_xs rt J (ex_cd d) is ls (vI r :: st) H2 := x_call1 (Or.inl rfl) rfl (sh_4 _) (Or.inl ⟨rfl, rfl⟩) (as := [vI a0]) rfl rfl (okN_ok hok) rfl he
theorem xk_97 (he : ex_cd d 97 (vR 4 :: []) (SH L, σ) = some ([vI r], H2)) (hok : okN 8 st = true) : ex_xs rt J (ex_cd d) (.invokevirtual 97 :: is) ls (vR 4 :: st) (SH L, σ) = ex_xs rt J (ex_cd d) is ls (vI r :: st) H2 := x_call1 (Or.inl rfl) rfl (sh_4 _) (Or.inl ⟨rfl, rfl⟩) (as := []) rfl rfl (okN_ok hok) rfl he
theorem xk_98 {a0 : Int} (he : ex_cd d 98 (vR 4 :: [vI a0]) (SH L, σ) = some ([vI r], H2)) (hok : okN 8 st = true) : ex_xs rt J (ex_cd d) (.invokevirtual 98 :: is) ls (vI a0 :: vR 4 :: st) (SH L, σ) = ex_xs rt J (ex_cd d) is ls (vI r :: st) H2 := x_call1 (Or.inl rfl) rfl (sh_4 _) (Or.inl ⟨rfl, rfl⟩) (as := [vI a0]) rfl rfl (okN_ok hok) rfl he
theorem xk_99 {a0 : Int} (he : ex_cd d 99 (vR 4 :: [vI a0]) (SH L, σ) = some ([vI r], H2)) (hok : okN 8 st = true) : ex_xs rt J (ex_cd d) (.invokevirtual 99 :: is) ls (vI a0 :: vR 4 :: st) (SH L, σ) = ex_xs rt J (ex_cd d) is ls (vI r :: st) H2 := x_call1 (Or.inl rfl) rfl (sh_4 _) (Or.inl ⟨rfl, rfl⟩) (as := [vI a0]) rfl rfl (okN_ok hok) rfl he
theorem xk_100 {a0 : Int} (he : ex_cd d 100 (vR 4 :: [vI a0]) (SH L, σ) = some ([vI r], H2)) (hok : okN 8 st = true) : ex_xs rt J (ex_cd d) (.invokevirtual 100 :: is) ls (vI a0 :: vR 4 :: st) (SH L, σ) = ex_xs rt J (ex_cd d) is ls (vI r :: st) H2 := x_call1 (Or.inl rfl) rfl (sh_4 _) (Or.inl ⟨rfl, rfl⟩) (as := [vI a0]) rfl rfl (okN_ok hok) rfl he
theorem xk_101 {a0 a1 : Int} (he : ex_cd d 101 (vR 4 :: [vI a0, vI a1]) (SH L, σ) = some ([vI r], H2)) (hok : okN 8 st = true) : ex_xs rt J (ex_cd d) (.invokevirtual 101 :: is) ls (vI a1 :: vI a0 :: vR 4 :: st) (SH L, σ) = ex_xs rt J (ex_cd d) is ls (vI r :: st) H2 := x_call1 (Or.inl rfl) rfl (sh_4 _) (Or.inl ⟨rfl, rfl⟩) (as := [vI a0, vI a1]) rfl rfl (okN_ok hok) rfl he
theorem xk_102 {a0 a1 : Int} (he : ex_cd d 102 (vR 4 :: [vI a0, vI a1]) (SH L, σ) = some ([vI r], H2)) (hok : okN 8 st = true) : ex_xs rt J (ex_cd d) (.invokevirtual 102 :: is) ls (vI a1 :: vI a0 :: vR 4 :: st) (SH L, σ) = ex_xs rt J (ex_cd d) is ls (vI r :: st) H2 := x_call1 (Or.inl rfl) rfl (sh_4 _) (Or.inl ⟨rfl, rfl⟩) (as := [vI a0, vI a1]) rfl rfl (okN_ok hok) rfl he
theorem xk_103 {a0 : Int} (he : ex_cd d 103 (vR 4 :: [vI a0]) (SH L, σ) = some ([vI r], H2)) (hok : okN 8 st = true) : ex_xs rt J (ex_cd d) (.invokevirtual 103 :: is) ls (vI a0 :: vR 4 :: st) (SH L, σ) = ex_xs rt J (ex_cd d) is ls (vI r :: st) H2 := x_call1 (Or.inl rfl) rfl (sh_4 _) (Or.inl ⟨rfl, rfl⟩) (as := [vI a0]) rfl rfl (okN_ok hok) rfl he
theorem xk_104 {a0 : Int} (he : ex_cd d 104 (vR 4 :: [vI a0]) (SH L, σ) = some ([vI r], H2)) (hok : okN 8 st = true) : ex_xs rt J (ex_cd d) (.invokevirtual 104 :: is) ls (vI a0 :: vR 4 :: st) (SH L, σ) = ex_xs rt J (ex_cd d) is ls (vI r :: st) H2 := x_call1 (Or.inl rfl) rfl (sh_4 _) (Or.inl ⟨rfl, rfl⟩) (as := [vI a0]) rfl rfl (okN_ok hok) rfl he
theorem xk_105 (he : ex_cd d 105 (vR 4 :: []) (SH L, σ) = some ([vI r], H2)) (hok : okN 8 st = true) : ex_xs rt J (ex_cd d) (.invokevirtual 105 :: is) ls (vR 4 :: st) (SH L, σ) = ex_xs rt J (ex_cd d) is ls (vI r :: st) H2 := x_call1 (Or.inl rfl) rfl (sh_4 _) (Or.inl ⟨rfl, rfl⟩) (as := []) rfl rfl (okN_ok hok) rfl he
theorem xk_106 (he : ex_cd d 106 (vR 4 :: []) (SH L, σ) = some ([vI r], H2)) (hok : okN 8 st = true) : ex_xs rt J (ex_cd d) (.invokevirtual 106 :: is) ls (vR 4 :: st) (SH L, σ) = ex_xs rt J (ex_cd d) is ls (vI r :: st) H2 := x_call1 (Or.inl rfl) rfl (sh_4 _) (Or.inl ⟨rfl, rfl⟩) (as := []) rfl rfl (okN_ok hok) rfl he
theorem xk_107 {a0 : Int} (he : ex_cd d 107 (vR 4 :: [vI a0]) (SH L, σ) = some ([vI r], H2)) (hok : okN 8 st = true) : ex_xs rt J (ex_cd d) (.invokevirtual 107 :: is) ls (vI a0 :: vR 4 :: st) (SH L, σ) = ex_xs rt J (ex_cd d) is ls (vI r :: st) H2 := x_call1 (Or.inl rfl) rfl (sh_4 _) (Or.inl ⟨rfl, rfl⟩) (as := [vI a0]) rfl rfl (okN_ok hok) rfl he
theorem xk_108 {a0 : Int} (he : ex_cd d 108 (vR 4 :: [vI a0]) (SH L, σ) = some ([vI r], H2)) (hok : okN 8 st = true) : ex_xs rt J (ex_cd d) (.invokevirtual 108 :: is) ls (vI a0 :: vR 4 :: st) (SH L, σ) = ex_xs rt J (ex_cd d) is ls (vI r :: st) H2 := x_call1 (Or.inl rfl) rfl (sh_4 _) (Or.inl ⟨rfl, rfl⟩) (as := [vI a0]) rfl rfl (okN_ok hok) rfl he
theorem xk_109 (he : ex_cd d 109 (vR 4 :: []) (SH L, σ) = some ([vI r], H2)) (hok : okN 8 st = true) : ex_xs rt J (ex_cd d) (.invokevirtual 109 :: is) ls (vR 4 :: st) (SH L, σ) = ex_xs rt J (ex_cd d) is ls (vI r :: st) H2 := x_call1 (Or.inl rfl) rfl (sh_4 _) (Or.inl ⟨rfl, rfl⟩) (as := []) rfl rfl (okN_ok hok) rfl he
theorem xk_110 {a0 : Int} (he : ex_cd d 110 (vR 4 :: [vI a0]) (SH L, σ) = some ([vI r], H2)) (hok : okN 8 st = true) : ex_xs rt J (ex_cd d) (.invokevirtual 110 :: is) ls (vI a0 :: vR 4 :: st) (SH L, σ) = ex_xs rt J (ex_cd d) is ls (vI r :: st) H2 := x_call1 (Or.inl rfl) rfl (sh_4 _) (Or.inl ⟨rfl, rfl⟩) (as := [vI a0]) rfl rfl (okN_ok hok) rfl he
theorem xk_111 {a0 a1 a2 : Int} (he : ex_cd d 111 (vR 4 :: [vI a0, vI a1, vI a2]) (SH L, σ) = some ([vI r], H2)) (hok : okN 8 st = true) : ex_xs rt J (ex_cd d) (.invokevirtual 111 :: is) ls (vI a2 :: vI a1 :: vI a0 :: vR 4 :: st) (SH L, σ) = ex_xs rt J (ex_cd d) is ls (vI r :: st) H2 := x_call1 (Or.inl rfl) rfl (sh_4 _) (Or.inl ⟨rfl, rfl⟩) (as := [vI a0, vI a1, vI a2]) rfl rfl (okN_ok hok) rfl he
theorem xk_112 {a0 : Int} (he : ex_cd d 112 (vR 4 :: [vI a0]) (SH L, σ) = some ([vI r], H2)) (hok : okN 8 st = true) : ex_xs rt J (ex_cd d) (.invokevirtual 112 :: is) ls (vI a0 :: vR 4 :: st) (SH L, σ) = ex_xs rt J (ex_cd d) is ls (vI r :: st) H2 := x_call1 (Or.inl rfl) rfl (sh_4 _) (Or.inl ⟨rfl, rfl⟩) (as := [vI a0]) rfl rfl (okN_ok hok) rfl he
theorem xk_113 {a0 : Int} (he : ex_cd d 113 (vR 4 :: [vI a0]) (SH L, σ) = some ([vI r], H2)) (hok : okN 8 st = true) : ex_xs rt J (ex_cd d) (.invokevirtual 113 :: is) ls (vI a0 :: vR 4 :: st) (SH L, σ) = ex_xs rt J (ex_cd d) is ls (vI r :: st) H2 := x_call1 (Or.inl rfl) rfl (sh_4 _) (Or.inl ⟨rfl, rfl⟩) (as := [vI a0]) rfl rfl (okN_ok hok) rfl he
theorem xk_114 (he : ex_cd d 114 (vR 4 :: []) (SH L, σ) = some ([vI r], H2)) (hok : okN 8 st = true) : ex_xs rt J (ex_cd d) (.invokevirtual 114 :: is) ls (vR 4 :: st) (SH L, σ) = ex_xs rt J (ex_cd d) is ls (vI r :: st) H2 := x_call1 (Or.inl rfl) rfl (sh_4 _) (Or.inl ⟨rfl, rfl⟩) (as := []) rfl rfl (okN_ok hok) rfl he
theorem xk_115 {a0 : Int} (he : ex_cd d 115 (vR 4 :: [vI a0]) (SH L, σ) = some ([vI r], H2)) (hok : okN 8 st = true) : ex_xs rt J (ex_cd d) (.invokevirtual 115 :: is) ls (vI a0 :: vR 4 :: st) (SH L, σ) = ex_xs rt J (ex_cd d) is ls (vI r :: st) H2 := x_call1 (Or.inl rfl) rfl (sh_4 _) (Or.inl ⟨rfl, rfl⟩) (as := [vI a0]) rfl rfl (okN_ok hok) rfl he
theorem xk_116 {a0 a1 : Int} (he : ex_cd d 116 (vR 4 :: [vI a0, vI a1]) (SH L, σ) = some ([vI r], H2)) (hok : okN 8 st = true) : ex_xs rt J (ex_cd d) (.invokevirtual 116 :: is) ls (vI a1 :: vI a0 :: vR 4 :: st) (SH L, σ) = ex_xs rt J (ex_cd d) is ls (vI r :: st) H2 := x_call1 (Or.inl rfl) rfl (sh_4 _) (Or.inl ⟨rfl, rfl⟩) (as := [vI a0, vI a1]) rfl rfl (okN_ok hok) rfl he
theorem xk_117 {a0 a1 a2 : Int} (he : ex_cd d 117 (vR 4 :: [vI a0, vI a1, vI a2]) (SH L, σ) = some ([vI r], H2)) (hok : okN 8 st = true) : ex_xs rt J (ex_cd d) (.invokevirtual 117 :: is) ls (vI a2 :: vI a1 :: vI a0 :: vR 4 :: st) (SH L, σ) = ex_xs rt J (ex_cd d) is ls (vI r :: st) H2 := x_call1 (Or.inl rfl) rfl (sh_4 _) (Or.inl ⟨rfl, rfl⟩) (as := [vI a0, vI a1, vI a2]) rfl rfl (okN_ok hok) rfl he
theorem xk_118 {a0 : Int} (he : ex_cd d 118 (vR 4 :: [vI a0]) (SH L, σ) = some ([vI r], H2)) (hok : okN 8 st = true) : ex_xs rt J (ex_cd d) (.invokevirtual 118 :: is) ls (vI a0 :: vR 4 :: st) (SH L, σ) = ex_xs rt J (ex_cd d) is ls (vI r :: st) H2 := x_call1 (Or.inl rfl) rfl (sh_4 _) (Or.inl ⟨rfl, rfl⟩) (as := [vI a0]) rfl rfl (okN_ok hok) rfl he
theorem xk_119 (he : ex_cd d 119 (vR 4 :: []) (SH L, σ) = some ([vI r], H2)) (hok : okN 8 st = true) : ex_xs rt J (ex_cd d) (.invokevirtual 119 :: is) ls (vR 4 :: st) (SH L, σ) = ex_xs rt J (ex_cd d) is ls (vI r :: st) H2 := x_call1 (Or.inl rfl) rfl (sh_4 _) (Or.inl ⟨rfl, rfl⟩) (as := []) rfl rfl (okN_ok hok) rfl he
theorem xk_120 {a0 a1 a2 : Int} (he : ex_cd d 120 (vR 4 :: [vI a0, vI a1, vI a2]) (SH L, σ) = some ([vI r], H2)) (hok : okN 8 st = true) : ex_xs rt J (ex_cd d) (.invokevirtual 120 :: is) ls (vI a2 :: vI a1 :: vI a0 :: vR 4 :: st) (SH L, σ) = ex_xs rt J (ex_cd d) is ls (vI r :: st) H2 := x_call1 (Or.inl rfl) rfl (sh_4 _) (Or.inl ⟨rfl, rfl⟩) (as := [vI a0, vI a1, vI a2]) rfl rfl (okN_ok hok) rfl he
theorem xk_121 {a0 a1 : Int} (he : ex_cd d 121 (vR 4 :: [vI a0, vI a1]) (SH L, σ) = some ([vI r], H2)) (hok : okN 8 st = true) : ex_xs rt J (ex_cd d) (.invokevirtual 121 :: is) ls (vI a1 :: vI a0 :: vR 4 :: st) (SH L, σ) = ex_xs rt J (ex_cd d) is ls (vI r :: st) H2 := x_call1 (Or.inl rfl) rfl (sh_4 _) (Or.inl ⟨rfl, rfl⟩) (as := [vI a0, vI a1]) rfl rfl (okN_ok hok) rfl he
theorem xk_122 {a0 : Int} (he : ex_cd d 122 (vR 4 :: [vI a0]) (SH L, σ) = some ([vI r], H2)) (hok : okN 8 st = true) : ex_xs rt J (ex_cd d) (.invokevirtual 122 :: is) ls (vI a0 :: vR 4 :: st) (SH L, σ) = ex_xs rt J (ex_cd d) is ls (vI r :: st) H2 := x_call1 (Or.inl rfl) rfl (sh_4 _) (Or.inl ⟨rfl, rfl⟩) (as := [vI a0]) rfl rfl (okN_ok hok) rfl he
theorem xk_123 (he : ex_cd d 123 (vR 4 :: []) (SH L, σ) = some ([vI r], H2)) (hok : okN 8 st = true) : ex_xs rt J (ex_cd d) (.invokevirtual 123 :: is) ls (vR 4 :: st) (SH L, σ) = ex_xs rt J (ex_cd d) is ls (vI r :: st) H2 := x_call1 (Or.inl rfl) rfl (sh_4 _) (Or.inl ⟨rfl, rfl⟩) (as := []) rfl rfl (okN_ok hok) rfl he
theorem xk_124 {a0 : Int} (he : ex_cd d 124 (vR 4 :: [vI a0]) (SH L, σ) = some ([vI r], H2)) (hok : okN 8 st = true) : ex_xs rt J (ex_cd d) (.invokevirtual 124 :: is) ls (vI a0 :: vR 4 :: st) (SH L, σ) = ex_xs rt J (ex_cd d) is ls (vI r :: st) H2 := x_call1 (Or.inl rfl) rfl (sh_4 _) (Or.inl ⟨rfl, rfl⟩) (as := [vI a0]) rfl rfl (okN_ok hok) rfl he
theorem xk_125 {a0 a1 a2 : Int} (he : ex_cd d 125 (vR 4 :: [vI a0, vI a1, vI a2]) (SH L, σ) = some ([vI r], H2)) (hok : okN 8 st = true) : ex_xs rt J (ex_cd d) (.invokevirtual 125 :: is) ls (vI a2 :: vI a1 :: vI a0 :: vR 4 :: st) (SH L, σ) = ex_xs rt J (ex_cd d) is ls (vI r :: st) H2 := x_call1 (Or.inl rfl) rfl (sh_4 _) (Or.inl ⟨rfl, rfl⟩) (as := [vI a0, vI a1, vI a2]) rfl rfl (okN_ok hok) rfl he
theorem xk_126 {a0 a1 a2 : Int} (he : ex_cd d 126 (vR 4 :: [vI a0, vI a1, vI a2]) (SH L, σ) = some ([vI r], H2)) (hok : okN 8 st = true) : ex_xs rt J (ex_cd d) (.invokevirtual 126 :: is) ls (vI a2 :: vI a1 :: vI a0 :: vR 4 :: st) (SH L, σ) = ex_xs rt J (ex_cd d) is ls (vI r :: st) H2 := x_call1 (Or.inl rfl) rfl (sh_4 _) (Or.inl ⟨rfl, rfl⟩) (as := [vI a0, vI a1, vI a2]) rfl rfl (okN_ok hok) rfl he
theorem xk_127 {a0 a1 a2 : Int} (he : ex_cd d 127 (vR 4 :: [vI a0, vI a1, vI a2]) (SH L, σ) = some ([vI r], H2)) (hok : okN 8 st = true) : ex_xs rt J (ex_cd d) (.invokevirtual 127 :: is) ls (vI a2 :: vI a1 :: vI a0 :: vR 4 :: st) (SH L, σ) = ex_xs rt J (ex_cd d) is ls (vI r :: st) H2 := x_call1 (Or.inl rfl) rfl (sh_4 _) (Or.inl ⟨rfl, rfl⟩) (as := [vI a0, vI a1, vI a2]) rfl rfl (okN_ok hok) rfl he
theorem xk_128 {a0 a1 a2 : Int} (he : ex_cd d 128 (vR 4 :: [vI a0, vI a1, vI a2]) (SH L, σ) = some ([vI r], H2)) (hok : okN 8 st = true) : ex_xs rt J (ex_cd d) (.invokevirtual 128 :: is) ls (vI a2 :: vI a1 :: vI a0 :: vR 4 :: st) (SH L, σ) = ex_xs rt J (ex_cd d) is ls (vI r :: st) H2 := x_call1 (Or.inl rfl) rfl (sh_4 _) (Or.inl ⟨rfl, rfl⟩) (as := [vI a0, vI a1, vI a2]) rfl rfl (okN_ok hok) rfl he
theorem xk_129 {a0 a1 a2 a3 a4 : Int} (he : ex_cd d 129 (vR 4 :: [vI a0, vI a1, vI a2, vI a3, vI a4]) (SH L, σ) = some ([vI r], H2)) (hok : okN 8 st = true) : ex_xs rt J (ex_cd d) (.invokevirtual 129 :: is) ls (vI a4 :: vI a3 :: vI a2 :: vI a1 :: vI a0 :: vR 4 :: st) (SH L, σ) = ex_xs rt J (ex_cd d) is ls (vI r :: st) H2 := x_call1 (Or.inl rfl) rfl (sh_4 _) (Or.inl ⟨rfl, rfl⟩) (as := [vI a0, vI a1, vI a2, vI a3, vI a4]) rfl rfl (okN_ok hok) rfl he
theorem xk_130 (he : ex_cd d 130 (vR 4 :: []) (SH L, σ) = some ([vI r], H2)) (hok : okN 8 st = true) : ex_xs rt J (ex_cd d) (.invokevirtual 130 :: is) ls (vR 4 :: st) (SH L, σ) = ex_xs rt J (ex_cd d) is ls (vI r :: st) H2 := x_call1 (Or.inl rfl) rfl (sh_4 _) (Or.inl ⟨rfl, rfl⟩) (as := []) rfl rfl (okN_ok hok) rfl he
theorem xk_131 {a0 : Int} (he : ex_cd d 131 (vR 4 :: [vI a0]) (SH L, σ) = some ([vI r], H2)) (hok : okN 8 st = true) : ex_xs rt J (ex_cd d) (.invokevirtual 131 :: is) ls (vI a0 :: vR 4 :: st) (SH L, σ) = ex_xs rt J (ex_cd d) is ls (vI r :: st) H2 := x_call1 (Or.inl rfl) rfl (sh_4 _) (Or.inl ⟨rfl, rfl⟩) (as := [vI a0]) rfl rfl (okN_ok hok) rfl he
theorem xk_148 (he : ex_cd d 148 (vR 432 :: []) (SH L, σ) = some ([vI r], H2)) (hok : okN 8 st = true) : ex_xs rt J (ex_cd d) (.invokevirtual 148 :: is) ls (vR 432 :: st) (SH L, σ) = ex_xs rt J (ex_cd d) is ls (vI r :: st) H2 := x_call1 (Or.inl rfl) rfl (sh_432 _) (Or.inl ⟨rfl, rfl⟩) (as := []) rfl rfl (okN_ok hok) rfl he
theorem xk_149 {a0 a1 a2 a3 : Int} (he : ex_cd d 149 (vR 432 :: [vI a0, vI a1, vI a2, vI a3]) (SH L, σ) = some ([vI r], H2)) (hok : okN 8 st = true) : ex_xs rt J (ex_cd d) (.invokevirtual 149 :: is) ls (vI a3 :: vI a2 :: vI a1 :: vI a0 :: vR 432 :: st) (SH L, σ) = ex_xs rt J (ex_cd d) is ls (vI r :: st) H2 := x_call1 (Or.inl rfl) rfl (sh_432 _) (Or.inl ⟨rfl, rfl⟩) (as := [vI a0, vI a1, vI a2, vI a3]) rfl rfl (okN_ok hok) rfl he
theorem xk_151 {a0 a1 : Int} (he : ex_cd d 151 (vR 432 :: [vI a0, vI a1]) (SH L, σ) = some ([vI r], H2)) (hok : okN 8 st = true) : ex_xs rt J (ex_cd d) (.invokevirtual 151 :: is) ls (vI a1 :: vI a0 :: vR 432 :: st) (SH L, σ) = ex_xs rt J (ex_cd d) is ls (vI r :: st) H2 := x_call1 (Or.inl rfl) rfl (sh_432 _) (Or.inl ⟨rfl, rfl⟩) (as := [vI a0, vI a1]) rfl rfl (okN_ok hok) rfl he
theorem xk_154 {a0 a1 : Int} (he : ex_cd d 154 (vR 432 :: [vI a0, vI a1]) (SH L, σ) = some ([vI r], H2)) (hok : okN 8 st = true) : ex_xs rt J (ex_cd d) (.invokevirtual 154 :: is) ls (vI a1 :: vI a0 :: vR 432 :: st) (SH L, σ) = ex_xs rt J (ex_cd d) is ls (vI r :: st) H2 := x_call1 (Or.inl rfl) rfl (sh_432 _) (Or.inl ⟨rfl, rfl⟩) (as := [vI a0, vI a1]) rfl rfl (okN_ok hok) rfl he
theorem xk_155 {a0 a1 : Int} (he : ex_cd d 155 (vR 432 :: [vI a0, vI a1]) (SH L, σ) = some ([vI r], H2)) (hok : okN 8 st = true) : ex_xs rt J (ex_cd d) (.invokevirtual 155 :: is) ls (vI a1 :: vI a0 :: vR 432 :: st) (SH L, σ) = ex_xs rt J (ex_cd d) is ls (vI r :: st) H2 := x_call1 (Or.inl rfl) rfl (sh_432 _) (Or.inl ⟨rfl, rfl⟩) (as := [vI a0, vI a1]) rfl rfl (okN_ok hok) rfl he
theorem xk_156 {a0 a1 a2 a3 a4 a5 : Int} (he : ex_cd d 156 (vR 432 :: [vI a0, vI a1, vI a2, vI a3, vI a4, vI a5]) (SH L, σ) = some ([vI r], H2)) (hok : okN 8 st = true) : ex_xs rt J (ex_cd d) (.invokevirtual 156 :: is) ls (vI a5 :: vI a4 :: vI a3 :: vI a2 :: vI a1 :: vI a0 :: vR 432 :: st) (SH L, σ) = ex_xs rt J (ex_cd d) is ls (vI r :: st) H2 := x_call1 (Or.inl rfl) rfl (sh_432 _) (Or.inl ⟨rfl, rfl⟩) (as := [vI a0, vI a1, vI a2, vI a3, vI a4, vI a5]) rfl rfl (okN_ok hok) rfl he
theorem xk_159 {a0 a1 : Int} (he : ex_cd d 159 (vR 432 :: [vI a0, vI a1]) (SH L, σ) = some ([vI r], H2)) (hok : okN 8 st = true) : ex_xs rt J (ex_cd d) (.invokevirtual 159 :: is) ls (vI a1 :: vI a0 :: vR 432 :: st) (SH L, σ) = ex_xs rt J (ex_cd d) is ls (vI r :: st) H2 := x_call1 (Or.inl rfl) rfl (sh_432 _) (Or.inl ⟨rfl, rfl⟩) (as := [vI a0, vI a1]) rfl rfl (okN_ok hok) rfl he
theorem xk_160 {a0 a1 a2 : Int} (he : ex_cd d 160 (vR 432 :: [vI a0, vI a1, vI a2]) (SH L, σ) = some ([vI r], H2)) (hok : okN 8 st = true) : ex_xs rt J (ex_cd d) (.invokevirtual 160 :: is) ls (vI a2 :: vI a1 :: vI a0 :: vR 432 :: st) (SH L, σ) = ex_xs rt J (ex_cd d) is ls (vI r :: st) H2 := x_call1 (Or.inl rfl) rfl (sh_432 _) (Or.inl ⟨rfl, rfl⟩) (as := [vI a0, vI a1, vI a2]) rfl rfl (okN_ok hok) rfl he
theorem xk_161 {a0 a1 : Int} (he : ex_cd d 161 (vR 432 :: [vI a0, vI a1]) (SH L, σ) = some ([vI r], H2)) (hok : okN 8 st = true) : ex_xs rt J (ex_cd d) (.invokevirtual 161 :: is) ls (vI a1 :: vI a0 :: vR 432 :: st) (SH L, σ) = ex_xs rt J (ex_cd d) is ls (vI r :: st) H2 := x_call1 (Or.inl rfl) rfl (sh_432 _) (Or.inl ⟨rfl, rfl⟩) (as := [vI a0, vI a1]) rfl rfl (okN_ok hok) rfl he
theorem xk_163 {a0 a1 : Int} (he : ex_cd d 163 (vR 432 :: [vI a0, vI a1]) (SH L, σ) = some ([vI r], H2)) (hok : okN 8 st = true) : ex_xs rt J (ex_cd d) (.invokevirtual 163 :: is) ls (vI a1 :: vI a0 :: vR 432 :: st) (SH L, σ) = ex_xs rt J (ex_cd d) is ls (vI r :: st) H2 := x_call1 (Or.inl rfl) rfl (sh_432 _) (Or.inl ⟨rfl, rfl⟩) (as := [vI a0, vI a1]) rfl rfl (okN_ok hok) rfl he
theorem xk_169 {a0 a1 : Int} (he : ex_cd d 169 (vR 432 :: [vI a0, vI a1]) (SH L, σ) = some ([vI r], H2)) (hok : okN 8 st = true) : ex_xs rt J (ex_cd d) (.invokevirtual 169 :: is) ls (vI a1 :: vI a0 :: vR 432 :: st) (SH L, σ) = ex_xs rt J (ex_cd d) is ls (vI r :: st) H2 := x_call1 (Or.inl rfl) rfl (sh_432 _) (Or.inl ⟨rfl, rfl⟩) (as := [vI a0, vI a1]) rfl rfl (okN_ok hok) rfl he
theorem xk_173 {a0 a1 : Int} (he : ex_cd d 173 (vR 432 :: [vI a0, vI a1]) (SH L, σ) = some ([vI r], H2)) (hok : okN 8 st = true) : ex_xs rt J (ex_cd d) (.invokevirtual 173 :: is) ls (vI a1 :: vI a0 :: vR 432 :: st) (SH L, σ) = ex_xs rt J (ex_cd d) is ls (vI r :: st) H2 := x_call1 (Or.inl rfl) rfl (sh_432 _) (Or.inl ⟨rfl, rfl⟩) (as := [vI a0, vI a1]) rfl rfl (okN_ok hok) rfl he
theorem xk_174 {a0 : Int} (he : ex_cd d 174 (vR 432 :: [vI a0]) (SH L, σ) = some ([vI r], H2)) (hok : okN 8 st = true) : ex_xs rt J (ex_cd d) (.invokevirtual 174 :: is) ls (vI a0 :: vR 432 :: st) (SH L, σ) = ex_xs rt J (ex_cd d) is ls (vI r :: st) H2 := x_call1 (Or.inl rfl) rfl (sh_432 _) (Or.inl ⟨rfl, rfl⟩) (as := [vI a0]) rfl rfl (okN_ok hok) rfl he
theorem xk_175 (he : ex_cd d 175 (vR 432 :: []) (SH L, σ) = some ([vI r], H2)) (hok : okN 8 st = true) : ex_xs rt J (ex_cd d) (.invokevirtual 175 :: is) ls (vR 432 :: st) (SH L, σ) = ex_xs rt J (ex_cd d) is ls (vI r :: st) H2 := x_call1 (Or.inl rfl) rfl (sh_432 _) (Or.inl ⟨rfl, rfl⟩) (as := []) rfl rfl (okN_ok hok) rfl he
theorem xk_176 {a0 : Int} (he : ex_cd d 176 (vR 432 :: [vI a0]) (SH L, σ) = some ([vI r], H2)) (hok : okN 8 st = true) : ex_xs rt J (ex_cd d) (.invokevirtual 176 :: is) ls (vI a0 :: vR 432 :: st) (SH L, σ) = ex_xs rt J (ex_cd d) is ls (vI r :: st) H2 := x_call1 (Or.inl rfl) rfl (sh_432 _) (Or.inl ⟨rfl, rfl⟩) (as := [vI a0]) rfl rfl (okN_ok hok) rfl he
theorem xk_177 {a0 : Int} (he : ex_cd d 177 (vR 432 :: [vI a0]) (SH L, σ) = some ([vI r], H2)) (hok : okN 8 st = true) : ex_xs rt J (ex_cd d) (.invokevirtual 177 :: is) ls (vI a0 :: vR 432 :: st) (SH L, σ) = ex_xs rt J (ex_cd d) is ls (vI r :: st) H2 := x_call1 (Or.inl rfl) rfl (sh_432 _) (Or.inl ⟨rfl, rfl⟩) (as := [vI a0]) rfl rfl (okN_ok hok) rfl he
theorem xk_182 {a0 : Int} (he : ex_cd d 182 (vR 432 :: [vI a0]) (SH L, σ) = some ([vI r], H2)) (hok : okN 8 st = true) : ex_xs rt J (ex_cd d) (.invokevirtual 182 :: is) ls (vI a0 :: vR 432 :: st) (SH L, σ) = ex_xs rt J (ex_cd d) is ls (vI r :: st) H2 := x_call1 (Or.inl rfl) rfl (sh_432 _) (Or.inl ⟨rfl, rfl⟩) (as := [vI a0]) rfl rfl (okN_ok hok) rfl he
theorem xk_183 {a0 a1 : Int} (he : ex_cd d 183 (vR 432 :: [vI a0, vI a1]) (SH L, σ) = some ([vI r], H2)) (hok : okN 8 st = true) : ex_xs rt J (ex_cd d) (.invokevirtual 183 :: is) ls (vI a1 :: vI a0 :: vR 432 :: st) (SH L, σ) = ex_xs rt J (ex_cd d) is ls (vI r :: st) H2 := x_call1 (Or.inl rfl) rfl (sh_432 _) (Or.inl ⟨rfl, rfl⟩) (as := [vI a0, vI a1]) rfl rfl (okN_ok hok) rfl he
theorem xk_184 {a0 a1 : Int} (he : ex_cd d 184 (vR 432 :: [vI a0, vI a1]) (SH L, σ) = some ([vI r], H2)) (hok : okN 8 st = true) : ex_xs rt J (ex_cd d) (.invokevirtual 184 :: is) ls (vI a1 :: vI a0 :: vR 432 :: st) (SH L, σ) = ex_xs rt J (ex_cd d) is ls (vI r :: st) H2 := x_call1 (Or.inl rfl) rfl (sh_432 _) (Or.inl ⟨rfl, rfl⟩) (as := [vI a0, vI a1]) rfl rfl (okN_ok hok) rfl he
theorem xk_186 {a0 : Int} (he : ex_cd d 186 (vR 432 :: [vI a0]) (SH L, σ) = some ([vI r], H2)) (hok : okN 8 st = true) : ex_xs rt J (ex_cd d) (.invokevirtual 186 :: is) ls (vI a0 :: vR 432 :: st) (SH L, σ) = ex_xs rt J (ex_cd d) is ls (vI r :: st) H2 := x_call1 (Or.inl rfl) rfl (sh_432 _) (Or.inl ⟨rfl, rfl⟩) (as := [vI a0]) rfl rfl (okN_ok hok) rfl he
theorem xk_188 {a0 : Int} (he : ex_cd d 188 (vR 432 :: [vI a0]) (SH L, σ) = some ([vI r], H2)) (hok : okN 8 st = true) : ex_xs rt J (ex_cd d) (.invokevirtual 188 :: is) ls (vI a0 :: vR 432 :: st) (SH L, σ) = ex_xs rt J (ex_cd d) is ls (vI r :: st) H2 := x_call1 (Or.inl rfl) rfl (sh_432 _) (Or.inl ⟨rfl, rfl⟩) (as := [vI a0]) rfl rfl (okN_ok hok) rfl he
theorem xk_189 (he : ex_cd d 189 (vR 432 :: []) (SH L, σ) = some ([vI r], H2)) (hok : okN 8 st = true) : ex_xs rt J (ex_cd d) (.invokevirtual 189 :: is) ls (vR 432 :: st) (SH L, σ) = ex_xs rt J (ex_cd d) is ls (vI r :: st) H2 := x_call1 (Or.inl rfl) rfl (sh_432 _) (Or.inl ⟨rfl, rfl⟩) (as := []) rfl rfl (okN_ok hok) rfl he
theorem xk_193 (he : ex_cd d 193 (vR 432 :: []) (SH L, σ) = some ([vI r], H2)) (hok : okN 8 st = true) : ex_xs rt J (ex_cd d) (.invokevirtual 193 :: is) ls (vR 432 :: st) (SH L, σ) = ex_xs rt J (ex_cd d) is ls (vI r :: st) H2 := x_call1 (Or.inl rfl) rfl (sh_432 _) (Or.inl ⟨rfl, rfl⟩) (as := []) rfl rfl (okN_ok hok) rfl he
theorem xk_194 {a0 : Int} (he : ex_cd d 194 (vR 432 :: [vI a0]) (SH L, σ) = some ([vI r], H2)) (hok : okN 8 st = true) : ex_xs rt J (ex_cd d) (.invokevirtual 194 :: is) ls (vI a0 :: vR 432 :: st) (SH L, σ) = ex_xs rt J (ex_cd d) is ls (vI r :: st) H2 := x_call1 (Or.inl rfl) rfl (sh_432 _) (Or.inl ⟨rfl, rfl⟩) (as := [vI a0]) rfl rfl (okN_ok hok) rfl he
theorem xk_195 {a0 : Int} (he : ex_cd d 195 (vR 432 :: [vI a0]) (SH L, σ) = some ([vI r], H2)) (hok : okN 8 st = true) : ex_xs rt J (ex_cd d) (.invokevirtual 195 :: is) ls (vI a0 :: vR 432 :: st) (SH L, σ) = ex_xs rt J (ex_cd d) is ls (vI r :: st) H2 := x_call1 (Or.inl rfl) rfl (sh_432 _) (Or.inl ⟨rfl, rfl⟩) (as := [vI a0]) rfl rfl (okN_ok hok) rfl he
theorem xk_201 (he : ex_cd d 201 (vR 432 :: []) (SH L, σ) = some ([vI r], H2)) (hok : okN 8 st = true) : ex_xs rt J (ex_cd d) (.invokevirtual 201 :: is) ls (vR 432 :: st) (SH L, σ) = ex_xs rt J (ex_cd d) is ls (vI r :: st) H2 := x_call1 (Or.inl rfl) rfl (sh_432 _) (Or.inl ⟨rfl, rfl⟩) (as := []) rfl rfl (okN_ok hok) rfl he
theorem xk_202 {a0 : Int} (he : ex_cd d 202 (vR 432 :: [vI a0]) (SH L, σ) = some ([vI r], H2)) (hok : okN 8 st = true) : ex_xs rt J (ex_cd d) (.invokevirtual 202 :: is) ls (vI a0 :: vR 432 :: st) (SH L, σ) = ex_xs rt J (ex_cd d) is ls (vI r :: st) H2 := x_call1 (Or.inl rfl) rfl (sh_432 _) (Or.inl ⟨rfl, rfl⟩) (as := [vI a0]) rfl rfl (okN_ok hok) rfl he
theorem xk_203 {a0 a1 a2 : Int} (he : ex_cd d 203 (vR 432 :: [vI a0, vI a1, vI a2]) (SH L, σ) = some ([vI r], H2)) (hok : okN 8 st = true) : ex_xs rt J (ex_cd d) (.invokevirtual 203 :: is) ls (vI a2 :: vI a1 :: vI a0 :: vR 432 :: st) (SH L, σ) = ex_xs rt J (ex_cd d) is ls (vI r :: st) H2 := x_call1 (Or.inl rfl) rfl (sh_432 _) (Or.inl ⟨rfl, rfl⟩) (as := [vI a0, vI a1, vI a2]) rfl rfl (okN_ok hok) rfl he
theorem xk_206 {a0 : Int} (he : ex_cd d 206 (vR 432 :: [vI a0]) (SH L, σ) = some ([vI r], H2)) (hok : okN 8 st = true) : ex_xs rt J (ex_cd d) (.invokevirtual 206 :: is) ls (vI a0 :: vR 432 :: st) (SH L, σ) = ex_xs rt J (ex_cd d) is ls (vI r :: st) H2 := x_call1 (Or.inl rfl) rfl (sh_432 _) (Or.inl ⟨rfl, rfl⟩) (as := [vI a0]) rfl rfl (okN_ok hok) rfl he
theorem xk_207 {a0 : Int} (he : ex_cd d 207 (vR 432 :: [vI a0]) (SH L, σ) = some ([vI r], H2)) (hok : okN 8 st = true) : ex_xs rt J (ex_cd d) (.invokevirtual 207 :: is) ls (vI a0 :: vR 432 :: st) (SH L, σ) = ex_xs rt J (ex_cd d) is ls (vI r :: st) H2 := x_call1 (Or.inl rfl) rfl (sh_432 _) (Or.inl ⟨rfl, rfl⟩) (as := [vI a0]) rfl rfl (okN_ok hok) rfl he
theorem xk_208 (he : ex_cd d 208 (vR 432 :: []) (SH L, σ) = some ([vI r], H2)) (hok : okN 8 st = true) : ex_xs rt J (ex_cd d) (.invokevirtual 208 :: is) ls (vR 432 :: st) (SH L, σ) = ex_xs rt J (ex_cd d) is ls (vI r :: st) H2 := x_call1 (Or.inl rfl) rfl (sh_432 _) (Or.inl ⟨rfl, rfl⟩) (as := []) rfl rfl (okN_ok hok) rfl he
theorem xk_209 {a0 : Int} (he : ex_cd d 209 (vR 432 :: [vI a0]) (SH L, σ) = some ([vI r], H2)) (hok : okN 8 st = true) : ex_xs rt J (ex_cd d) (.invokevirtual 209 :: is) ls (vI a0 :: vR 432 :: st) (SH L, σ) = ex_xs rt J (ex_cd d) is ls (vI r :: st) H2 := x_call1 (Or.inl rfl) rfl (sh_432 _) (Or.inl ⟨rfl, rfl⟩) (as := [vI a0]) rfl rfl (okN_ok hok) rfl he
theorem xk_210 {a0 a1 : Int} (he : ex_cd d 210 (vR 432 :: [vI a0, vI a1]) (SH L, σ) = some ([vI r], H2)) (hok : okN 8 st = true) : ex_xs rt J (ex_cd d) (.invokevirtual 210 :: is) ls (vI a1 :: vI a0 :: vR 432 :: st) (SH L, σ) = ex_xs rt J (ex_cd d) is ls (vI r :: st) H2 := x_call1 (Or.inl rfl) rfl (sh_432 _) (Or.inl ⟨rfl, rfl⟩) (as := [vI a0, vI a1]) rfl rfl (okN_ok hok) rfl he
theorem xk_211 {a0 a1 a2 : Int} (he : ex_cd d 211 (vR 432 :: [vI a0, vI a1, vI a2]) (SH L, σ) = some ([vI r], H2)) (hok : okN 8 st = true) : ex_xs rt J (ex_cd d) (.invokevirtual 211 :: is) ls (vI a2 :: vI a1 :: vI a0 :: vR 432 :: st) (SH L, σ) = ex_xs rt J (ex_cd d) is ls (vI r :: st) H2 := x_call1 (Or.inl rfl) rfl (sh_432 _) (Or.inl ⟨rfl, rfl⟩) (as := [vI a0, vI a1, vI a2]) rfl rfl (okN_ok hok) rfl he
theorem xk_213 {a0 : Int} (he : ex_cd d 213 (vR 432 :: [vI a0]) (SH L, σ) = some ([vI r], H2)) (hok : okN 8 st = true) : ex_xs rt J (ex_cd d) (.invokevirtual 213 :: is) ls (vI a0 :: vR 432 :: st) (SH L, σ) = ex_xs rt J (ex_cd d) is ls (vI r :: st) H2 := x_call1 (Or.inl rfl) rfl (sh_432 _) (Or.inl ⟨rfl, rfl⟩) (as := [vI a0]) rfl rfl (okN_ok hok) rfl he
theorem xk_215 (he : ex_cd d 215 (vR 432 :: []) (SH L, σ) = some ([vI r], H2)) (hok : okN 8 st = true) : ex_xs rt J (ex_cd d) (.invokevirtual 215 :: is) ls (vR 432 :: st) (SH L, σ) = ex_xs rt J (ex_cd d) is ls (vI r :: st) H2 := x_call1 (Or.inl rfl) rfl (sh_432 _) (Or.inl ⟨rfl, rfl⟩) (as := []) rfl rfl (okN_ok hok) rfl he
theorem xk_219 {a0 a1 a2 : Int} (he : ex_cd d 219 (vR 432 :: [vI a0, vI a1, vI a2]) (SH L, σ) = some ([vI r], H2)) (hok : okN 8 st = true) : ex_xs rt J (ex_cd d) (.invokevirtual 219 :: is) ls (vI a2 :: vI a1 :: vI a0 :: vR 432 :: st) (SH L, σ) = ex_xs rt J (ex_cd d) is ls (vI r :: st) H2 := x_call1 (Or.inl rfl) rfl (sh_432 _) (Or.inl ⟨rfl, rfl⟩) (as := [vI a0, vI a1, vI a2]) rfl rfl (okN_ok hok) rfl he
theorem xk_220 {a0 a1 : Int} (he : ex_cd d 220 (vR 432 :: [vI a0, vI a1]) (SH L, σ) = some ([vI r], H2)) (hok : okN 8 st = true) : ex_xs rt J (ex_cd d) (.invokevirtual 220 :: is) ls (vI a1 :: vI a0 :: vR 432 :: st) (SH L, σ) = ex_xs rt J (ex_cd d) is ls (vI r :: st) H2 := x_call1 (Or.inl rfl) rfl (sh_432 _) (Or.inl ⟨rfl, rfl⟩) (as := [vI a0, vI a1]) rfl rfl (okN_ok hok) rfl he
theorem xk_221 {a0 : Int} (he : ex_cd d 221 (vR 432 :: [vI a0]) (SH L, σ) = some ([vI r], H2)) (hok : okN 8 st = true) : ex_xs rt J (ex_cd d) (.invokevirtual 221 :: is) ls (vI a0 :: vR 432 :: st) (SH L, σ) = ex_xs rt J (ex_cd d) is ls (vI r :: st) H2 := x_call1 (Or.inl rfl) rfl (sh_432 _) (Or.inl ⟨rfl, rfl⟩) (as := [vI a0]) rfl rfl (okN_ok hok) rfl he
theorem xk_225 (he : ex_cd d 225 (vR 432 :: []) (SH L, σ) = some ([vI r], H2)) (hok : okN 8 st = true) : ex_xs rt J (ex_cd d) (.invokevirtual 225 :: is) ls (vR 432 :: st) (SH L, σ) = ex_xs rt J (ex_cd d) is ls (vI r :: st) H2 := x_call1 (Or.inl rfl) rfl (sh_432 _) (Or.inl ⟨rfl, rfl⟩) (as := []) rfl rfl (okN_ok hok) rfl he
theorem xk_226 {a0 : Int} (he : ex_cd d 226 (vR 432 :: [vI a0]) (SH L, σ) = some ([vI r], H2)) (hok : okN 8 st = true) : ex_xs rt J (ex_cd d) (.invokevirtual 226 :: is) ls (vI a0 :: vR 432 :: st) (SH L, σ) = ex_xs rt J (ex_cd d) is ls (vI r :: st) H2 := x_call1 (Or.inl rfl) rfl (sh_432 _) (Or.inl ⟨rfl, rfl⟩) (as := [vI a0]) rfl rfl (okN_ok hok) rfl he
theorem xk_227 {a0 a1 a2 : Int} (he : ex_cd d 227 (vR 432 :: [vI a0, vI a1, vI a2]) (SH L, σ) = some ([vI r], H2)) (hok : okN 8 st = true) : ex_xs rt J (ex_cd d) (.invokevirtual 227 :: is) ls (vI a2 :: vI a1 :: vI a0 :: vR 432 :: st) (SH L, σ) = ex_xs rt J (ex_cd d) is ls (vI r :: st) H2 := x_call1 (Or.inl rfl) rfl (sh_432 _) (Or.inl ⟨rfl, rfl⟩) (as := [vI a0, vI a1, vI a2]) rfl rfl (okN_ok hok) rfl he
theorem xk_229 {a0 a1 a2 : Int} (he : ex_cd d 229 (vR 432 :: [vI a0, vI a1, vI a2]) (SH L, σ) = some ([vI r], H2)) (hok : okN 8 st = true) : ex_xs rt J (ex_cd d) (.invokevirtual 229 :: is) ls (vI a2 :: vI a1 :: vI a0 :: vR 432 :: st) (SH L, σ) = ex_xs rt J (ex_cd d) is ls (vI r :: st) H2 := x_call1 (Or.inl rfl) rfl (sh_432 _) (Or.inl ⟨rfl, rfl⟩) (as := [vI a0, vI a1, vI a2]) rfl rfl (okN_ok hok) rfl he
theorem xk_231 {a0 a1 a2 : Int} (he : ex_cd d 231 (vR 432 :: [vI a0, vI a1, vI a2]) (SH L, σ) = some ([vI r], H2)) (hok : okN 8 st = true) : ex_xs rt J (ex_cd d) (.invokevirtual 231 :: is) ls (vI a2 :: vI a1 :: vI a0 :: vR 432 :: st) (SH L, σ) = ex_xs rt J (ex_cd d) is ls (vI r :: st) H2 := x_call1 (Or.inl rfl) rfl (sh_432 _) (Or.inl ⟨rfl, rfl⟩) (as := [vI a0, vI a1, vI a2]) rfl rfl (okN_ok hok) rfl he
theorem xk_232 {a0 a1 a2 : Int} (he : ex_cd d 232 (vR 432 :: [vI a0, vI a1, vI a2]) (SH L, σ) = some ([vI r], H2)) (hok : okN 8 st = true) : ex_xs rt J (ex_cd d) (.invokevirtual 232 :: is) ls (vI a2 :: vI a1 :: vI a0 :: vR 432 :: st) (SH L, σ) = ex_xs rt J (ex_cd d) is ls (vI r :: st) H2 := x_call1 (Or.inl rfl) rfl (sh_432 _) (Or.inl ⟨rfl, rfl⟩) (as := [vI a0, vI a1, vI a2]) rfl rfl (okN_ok hok) rfl he
theorem xk_233 {a0 a1 a2 a3 a4 : Int} (he : ex_cd d 233 (vR 432 :: [vI a0, vI a1, vI a2, vI a3, vI a4]) (SH L, σ) = some ([vI r], H2)) (hok : okN 8 st = true) : ex_xs rt J (ex_cd d) (.invokevirtual 233 :: is) ls (vI a4 :: vI a3 :: vI a2 :: vI a1 :: vI a0 :: vR 432 :: st) (SH L, σ) = ex_xs rt J (ex_cd d) is ls (vI r :: st) H2 := x_call1 (Or.inl rfl) rfl (sh_432 _) (Or.inl ⟨rfl, rfl⟩) (as := [vI a0, vI a1, vI a2, vI a3, vI a4]) rfl rfl (okN_ok hok) rfl he
theorem xk_234 {a0 : Int} (he : ex_cd d 234 (vR 432 :: [vI a0]) (SH L, σ) = some ([vI r], H2)) (hok : okN 8 st = true) : ex_xs rt J (ex_cd d) (.invokevirtual 234 :: is) ls (vI a0 :: vR 432 :: st) (SH L, σ) = ex_xs rt J (ex_cd d) is ls (vI r :: st) H2 := x_call1 (Or.inl rfl) rfl (sh_432 _) (Or.inl ⟨rfl, rfl⟩) (as := [vI a0]) rfl rfl (okN_ok hok) rfl he
end LWR
theorem lwc_2 {L k : Nat} {σ : ex_S} (hL : L ≤ 3584) (hk : 7 * k + 7 ≤ L) (ck : CK 85 149 [vI (σ 0 (7 * (k : Int) + 1)), vI (σ 0 (7 * (k : Int) + 2)), vI (σ 0 (7 * (k : Int) + 3)), vI (σ 0 (7 * (k : Int) + 4))] σ L 40) : LW L k σ 2 := by
  obtain ⟨r, σ1, σ2, gb, h1, h2, h3, h4, h5, h6⟩ := ck
  have e0 : σ1 0 = σ 0 := ex_cd_lw (by decide) h1
  refine ⟨gb, σ2, ?_, h3, h4, h5, h6⟩
  rw [ev_241_2]
  simp (disch := first | assumption | omega | (repeat' first | exact ok_nil | apply ok_I | apply ok_R)) only [xl_a0, xl_a1, xl_a2, xl_i3, xn_3, x_push, y_iadd, ld_0, x_goto, x_fall, x_stop, y_cmp_eq_t, y_if_eq_t, y_if_eq_f, i_wr_id, e0, ev_241_61, ev_241_1, xk_85 h1, xk_149 h2, Int.reduceToNat, Int.toNat_zero, Int.toNat_one]
  rw [show 7 * (k : Int) + 7 = 7 * ((k + 1 : Nat) : Int) by omega]
theorem lwc_3 {L k : Nat} {σ : ex_S} (hL : L ≤ 3584) (hk : 7 * k + 7 ≤ L) (ck : CK 86 151 [vI (σ 0 (7 * (k : Int) + 1)), vI (σ 0 (7 * (k : Int) + 2))] σ L 40) : LW L k σ 3 := by
  obtain ⟨r, σ1, σ2, gb, h1, h2, h3, h4, h5, h6⟩ := ck
  have e0 : σ1 0 = σ 0 := ex_cd_lw (by decide) h1
  refine ⟨gb, σ2, ?_, h3, h4, h5, h6⟩
  rw [ev_241_3]
  simp (disch := first | assumption | omega | (repeat' first | exact ok_nil | apply ok_I | apply ok_R)) only [xl_a0, xl_a1, xl_a2, xl_i3, xn_3, x_push, y_iadd, ld_0, x_goto, x_fall, x_stop, y_cmp_eq_t, y_if_eq_t, y_if_eq_f, i_wr_id, e0, ev_241_61, ev_241_1, xk_86 h1, xk_151 h2, Int.reduceToNat, Int.toNat_zero, Int.toNat_one]
  rw [show 7 * (k : Int) + 7 = 7 * ((k + 1 : Nat) : Int) by omega]
theorem lwc_4 {L k : Nat} {σ : ex_S} (hL : L ≤ 3584) (hk : 7 * k + 7 ≤ L) (ck : CK 87 154 [vI (σ 0 (7 * (k : Int) + 1)), vI (σ 0 (7 * (k : Int) + 2))] σ L 40) : LW L k σ 4 := by
  obtain ⟨r, σ1, σ2, gb, h1, h2, h3, h4, h5, h6⟩ := ck
  have e0 : σ1 0 = σ 0 := ex_cd_lw (by decide) h1
  refine ⟨gb, σ2, ?_, h3, h4, h5, h6⟩
  rw [ev_241_4]
  simp (disch := first | assumption | omega | (repeat' first | exact ok_nil | apply ok_I | apply ok_R)) only [xl_a0, xl_a1, xl_a2, xl_i3, xn_3, x_push, y_iadd, ld_0, x_goto, x_fall, x_stop, y_cmp_eq_t, y_if_eq_t, y_if_eq_f, i_wr_id, e0, ev_241_61, ev_241_1, xk_87 h1, xk_154 h2, Int.reduceToNat, Int.toNat_zero, Int.toNat_one]
  rw [show 7 * (k : Int) + 7 = 7 * ((k + 1 : Nat) : Int) by omega]
theorem lwc_10 {L k : Nat} {σ : ex_S} (hL : L ≤ 3584) (hk : 7 * k + 7 ≤ L) (ck : CK 89 156 [vI (σ 0 (7 * (k : Int) + 1)), vI (σ 0 (7 * (k : Int) + 2)), vI (σ 0 (7 * (k : Int) + 3)), vI (σ 0 (7 * (k : Int) + 4)), vI (σ 0 (7 * (k : Int) + 5)), vI (σ 0 (7 * (k : Int) + 6))] σ L 40) : LW L k σ 10 := by
  obtain ⟨r, σ1, σ2, gb, h1, h2, h3, h4, h5, h6⟩ := ck
  have e0 : σ1 0 = σ 0 := ex_cd_lw (by decide) h1
  refine ⟨gb, σ2, ?_, h3, h4, h5, h6⟩
  rw [ev_241_10]
  simp (disch := first | assumption | omega | (repeat' first | exact ok_nil | apply ok_I | apply ok_R)) only [xl_a0, xl_a1, xl_a2, xl_i3, xn_3, x_push, y_iadd, ld_0, x_goto, x_fall, x_stop, y_cmp_eq_t, y_if_eq_t, y_if_eq_f, i_wr_id, e0, ev_241_61, ev_241_1, xk_89 h1, xk_156 h2, Int.reduceToNat, Int.toNat_zero, Int.toNat_one]
  rw [show 7 * (k : Int) + 7 = 7 * ((k + 1 : Nat) : Int) by omega]
theorem lwc_11 {L k : Nat} {σ : ex_S} (hL : L ≤ 3584) (hk : 7 * k + 7 ≤ L) (ck : CK 90 159 [vI (σ 0 (7 * (k : Int) + 1)), vI (σ 0 (7 * (k : Int) + 2))] σ L 40) : LW L k σ 11 := by
  obtain ⟨r, σ1, σ2, gb, h1, h2, h3, h4, h5, h6⟩ := ck
  have e0 : σ1 0 = σ 0 := ex_cd_lw (by decide) h1
  refine ⟨gb, σ2, ?_, h3, h4, h5, h6⟩
  rw [ev_241_11]
  simp (disch := first | assumption | omega | (repeat' first | exact ok_nil | apply ok_I | apply ok_R)) only [xl_a0, xl_a1, xl_a2, xl_i3, xn_3, x_push, y_iadd, ld_0, x_goto, x_fall, x_stop, y_cmp_eq_t, y_if_eq_t, y_if_eq_f, i_wr_id, e0, ev_241_61, ev_241_1, xk_90 h1, xk_159 h2, Int.reduceToNat, Int.toNat_zero, Int.toNat_one]
  rw [show 7 * (k : Int) + 7 = 7 * ((k + 1 : Nat) : Int) by omega]
theorem lwc_12 {L k : Nat} {σ : ex_S} (hL : L ≤ 3584) (hk : 7 * k + 7 ≤ L) (ck : CK 91 160 [vI (σ 0 (7 * (k : Int) + 1)), vI (σ 0 (7 * (k : Int) + 2)), vI (σ 0 (7 * (k : Int) + 3))] σ L 40) : LW L k σ 12 := by
  obtain ⟨r, σ1, σ2, gb, h1, h2, h3, h4, h5, h6⟩ := ck
  have e0 : σ1 0 = σ 0 := ex_cd_lw (by decide) h1
  refine ⟨gb, σ2, ?_, h3, h4, h5, h6⟩
  rw [ev_241_12]
  simp (disch := first | assumption | omega | (repeat' first | exact ok_nil | apply ok_I | apply ok_R)) only [xl_a0, xl_a1, xl_a2, xl_i3, xn_3, x_push, y_iadd, ld_0, x_goto, x_fall, x_stop, y_cmp_eq_t, y_if_eq_t, y_if_eq_f, i_wr_id, e0, ev_241_61, ev_241_1, xk_91 h1, xk_160 h2, Int.reduceToNat, Int.toNat_zero, Int.toNat_one]
  rw [show 7 * (k : Int) + 7 = 7 * ((k + 1 : Nat) : Int) by omega]
theorem lwc_13 {L k : Nat} {σ : ex_S} (hL : L ≤ 3584) (hk : 7 * k + 7 ≤ L) (ck : CK 92 161 [vI (σ 0 (7 * (k : Int) + 1)), vI (σ 0 (7 * (k : Int) + 2))] σ L 40) : LW L k σ 13 := by
  obtain ⟨r, σ1, σ2, gb, h1, h2, h3, h4, h5, h6⟩ := ck
  have e0 : σ1 0 = σ 0 := ex_cd_lw (by decide) h1
  refine ⟨gb, σ2, ?_, h3, h4, h5, h6⟩
  rw [ev_241_13]
  simp (disch := first | assumption | omega | (repeat' first | exact ok_nil | apply ok_I | apply ok_R)) only [xl_a0, xl_a1, xl_a2, xl_i3, xn_3, x_push, y_iadd, ld_0, x_goto, x_fall, x_stop, y_cmp_eq_t, y_if_eq_t, y_if_eq_f, i_wr_id, e0, ev_241_61, ev_241_1, xk_92 h1, xk_161 h2, Int.reduceToNat, Int.toNat_zero, Int.toNat_one]
  rw [show 7 * (k : Int) + 7 = 7 * ((k + 1 : Nat) : Int) by omega]
theorem lwc_14 {L k : Nat} {σ : ex_S} (hL : L ≤ 3584) (hk : 7 * k + 7 ≤ L) (ck : CK 93 163 [vI (σ 0 (7 * (k : Int) + 1)), vI (σ 0 (7 * (k : Int) + 2))] σ L 40) : LW L k σ 14 := by
  obtain ⟨r, σ1, σ2, gb, h1, h2, h3, h4, h5, h6⟩ := ck
  have e0 : σ1 0 = σ 0 := ex_cd_lw (by decide) h1
  refine ⟨gb, σ2, ?_, h3, h4, h5, h6⟩
  rw [ev_241_14]
  simp (disch := first | assumption | omega | (repeat' first | exact ok_nil | apply ok_I | apply ok_R)) only [xl_a0, xl_a1, xl_a2, xl_i3, xn_3, x_push, y_iadd, ld_0, x_goto, x_fall, x_stop, y_cmp_eq_t, y_if_eq_t, y_if_eq_f, i_wr_id, e0, ev_241_61, ev_241_1, xk_93 h1, xk_163 h2, Int.reduceToNat, Int.toNat_zero, Int.toNat_one]
  rw [show 7 * (k : Int) + 7 = 7 * ((k + 1 : Nat) : Int) by omega]
theorem lwc_15 {L k : Nat} {σ : ex_S} (hL : L ≤ 3584) (hk : 7 * k + 7 ≤ L) (ck : CK 94 169 [vI (σ 0 (7 * (k : Int) + 1)), vI (σ 0 (7 * (k : Int) + 2))] σ L 40) : LW L k σ 15 := by
  obtain ⟨r, σ1, σ2, gb, h1, h2, h3, h4, h5, h6⟩ := ck
  have e0 : σ1 0 = σ 0 := ex_cd_lw (by decide) h1
  refine ⟨gb, σ2, ?_, h3, h4, h5, h6⟩
  rw [ev_241_15]
  simp (disch := first | assumption | omega | (repeat' first | exact ok_nil | apply ok_I | apply ok_R)) only [xl_a0, xl_a1, xl_a2, xl_i3, xn_3, x_push, y_iadd, ld_0, x_goto, x_fall, x_stop, y_cmp_eq_t, y_if_eq_t, y_if_eq_f, i_wr_id, e0, ev_241_61, ev_241_1, xk_94 h1, xk_169 h2, Int.reduceToNat, Int.toNat_zero, Int.toNat_one]
  rw [show 7 * (k : Int) + 7 = 7 * ((k + 1 : Nat) : Int) by omega]
theorem lwc_16 {L k : Nat} {σ : ex_S} (hL : L ≤ 3584) (hk : 7 * k + 7 ≤ L) (ck : CK 95 173 [vI (σ 0 (7 * (k : Int) + 1)), vI (σ 0 (7 * (k : Int) + 2))] σ L 40) : LW L k σ 16 := by
  obtain ⟨r, σ1, σ2, gb, h1, h2, h3, h4, h5, h6⟩ := ck
  have e0 : σ1 0 = σ 0 := ex_cd_lw (by decide) h1
  refine ⟨gb, σ2, ?_, h3, h4, h5, h6⟩
  rw [ev_241_16]
  simp (disch := first | assumption | omega | (repeat' first | exact ok_nil | apply ok_I | apply ok_R)) only [xl_a0, xl_a1, xl_a2, xl_i3, xn_3, x_push, y_iadd, ld_0, x_goto, x_fall, x_stop, y_cmp_eq_t, y_if_eq_t, y_if_eq_f, i_wr_id, e0, ev_241_61, ev_241_1, xk_95 h1, xk_173 h2, Int.reduceToNat, Int.toNat_zero, Int.toNat_one]
  rw [show 7 * (k : Int) + 7 = 7 * ((k + 1 : Nat) : Int) by omega]
theorem lwc_17 {L k : Nat} {σ : ex_S} (hL : L ≤ 3584) (hk : 7 * k + 7 ≤ L) (ck : CK 96 174 [vI (σ 0 (7 * (k : Int) + 1))] σ L 40) : LW L k σ 17 := by
  obtain ⟨r, σ1, σ2, gb, h1, h2, h3, h4, h5, h6⟩ := ck
  have e0 : σ1 0 = σ 0 := ex_cd_lw (by decide) h1
  refine ⟨gb, σ2, ?_, h3, h4, h5, h6⟩
  rw [ev_241_17]
  simp (disch := first | assumption | omega | (repeat' first | exact ok_nil | apply ok_I | apply ok_R)) only [xl_a0, xl_a1, xl_a2, xl_i3, xn_3, x_push, y_iadd, ld_0, x_goto, x_fall, x_stop, y_cmp_eq_t, y_if_eq_t, y_if_eq_f, i_wr_id, e0, ev_241_61, ev_241_1, xk_96 h1, xk_174 h2, Int.reduceToNat, Int.toNat_zero, Int.toNat_one]
  rw [show 7 * (k : Int) + 7 = 7 * ((k + 1 : Nat) : Int) by omega]
theorem lwc_18 {L k : Nat} {σ : ex_S} (hL : L ≤ 3584) (hk : 7 * k + 7 ≤ L) (ck : CK 97 175 [] σ L 40) : LW L k σ 18 := by
  obtain ⟨r, σ1, σ2, gb, h1, h2, h3, h4, h5, h6⟩ := ck
  have e0 : σ1 0 = σ 0 := ex_cd_lw (by decide) h1
  refine ⟨gb, σ2, ?_, h3, h4, h5, h6⟩
  rw [ev_241_18]
  simp (disch := first | assumption | omega | (repeat' first | exact ok_nil | apply ok_I | apply ok_R)) only [xl_a0, xl_a1, xl_a2, xl_i3, xn_3, x_push, y_iadd, ld_0, x_goto, x_fall, x_stop, y_cmp_eq_t, y_if_eq_t, y_if_eq_f, i_wr_id, e0, ev_241_61, ev_241_1, xk_97 h1, xk_175 h2, Int.reduceToNat, Int.toNat_zero, Int.toNat_one]
  rw [show 7 * (k : Int) + 7 = 7 * ((k + 1 : Nat) : Int) by omega]
theorem lwc_19 {L k : Nat} {σ : ex_S} (hL : L ≤ 3584) (hk : 7 * k + 7 ≤ L) (ck : CK 98 176 [vI (σ 0 (7 * (k : Int) + 1))] σ L 40) : LW L k σ 19 := by
  obtain ⟨r, σ1, σ2, gb, h1, h2, h3, h4, h5, h6⟩ := ck
  have e0 : σ1 0 = σ 0 := ex_cd_lw (by decide) h1
  refine ⟨gb, σ2, ?_, h3, h4, h5, h6⟩
  rw [ev_241_19]
  simp (disch := first | assumption | omega | (repeat' first | exact ok_nil | apply ok_I | apply ok_R)) only [xl_a0, xl_a1, xl_a2, xl_i3, xn_3, x_push, y_iadd, ld_0, x_goto, x_fall, x_stop, y_cmp_eq_t, y_if_eq_t, y_if_eq_f, i_wr_id, e0, ev_241_61, ev_241_1, xk_98 h1, xk_176 h2, Int.reduceToNat, Int.toNat_zero, Int.toNat_one]
  rw [show 7 * (k : Int) + 7 = 7 * ((k + 1 : Nat) : Int) by omega]
theorem lwc_20 {L k : Nat} {σ : ex_S} (hL : L ≤ 3584) (hk : 7 * k + 7 ≤ L) (ck : CK 99 177 [vI (σ 0 (7 * (k : Int) + 1))] σ L 40) : LW L k σ 20 := by
  obtain ⟨r, σ1, σ2, gb, h1, h2, h3, h4, h5, h6⟩ := ck
  have e0 : σ1 0 = σ 0 := ex_cd_lw (by decide) h1
  refine ⟨gb, σ2, ?_, h3, h4, h5, h6⟩
  rw [ev_241_20]
  simp (disch := first | assumption | omega | (repeat' first | exact ok_nil | apply ok_I | apply ok_R)) only [xl_a0, xl_a1, xl_a2, xl_i3, xn_3, x_push, y_iadd, ld_0, x_goto, x_fall, x_stop, y_cmp_eq_t, y_if_eq_t, y_if_eq_f, i_wr_id, e0, ev_241_61, ev_241_1, xk_99 h1, xk_177 h2, Int.reduceToNat, Int.toNat_zero, Int.toNat_one]
  rw [show 7 * (k : Int) + 7 = 7 * ((k + 1 : Nat) : Int) by omega]
theorem lwc_21 {L k : Nat} {σ : ex_S} (hL : L ≤ 3584) (hk : 7 * k + 7 ≤ L) (ck : CK 100 182 [vI (σ 0 (7 * (k : Int) + 1))] σ L 40) : LW L k σ 21 := by
  obtain ⟨r, σ1, σ2, gb, h1, h2, h3, h4, h5, h6⟩ := ck
  have e0 : σ1 0 = σ 0 := ex_cd_lw (by decide) h1
  refine ⟨gb, σ2, ?_, h3, h4, h5, h6⟩
  rw [ev_241_21]
  simp (disch := first | assumption | omega | (repeat' first | exact ok_nil | apply ok_I | apply ok_R)) only [xl_a0, xl_a1, xl_a2, xl_i3, xn_3, x_push, y_iadd, ld_0, x_goto, x_fall, x_stop, y_cmp_eq_t, y_if_eq_t, y_if_eq_f, i_wr_id, e0, ev_241_61, ev_241_1, xk_100 h1, xk_182 h2, Int.reduceToNat, Int.toNat_zero, Int.toNat_one]
  rw [show 7 * (k : Int) + 7 = 7 * ((k + 1 : Nat) : Int) by omega]
theorem lwc_22 {L k : Nat} {σ : ex_S} (hL : L ≤ 3584) (hk : 7 * k + 7 ≤ L) (ck : CK 101 183 [vI (σ 0 (7 * (k : Int) + 1)), vI (σ 0 (7 * (k : Int) + 2))] σ L 40) : LW L k σ 22 := by
  obtain ⟨r, σ1, σ2, gb, h1, h2, h3, h4, h5, h6⟩ := ck
  have e0 : σ1 0 = σ 0 := ex_cd_lw (by decide) h1
  refine ⟨gb, σ2, ?_, h3, h4, h5, h6⟩
  rw [ev_241_22]
  simp (disch := first | assumption | omega | (repeat' first | exact ok_nil | apply ok_I | apply ok_R)) only [xl_a0, xl_a1, xl_a2, xl_i3, xn_3, x_push, y_iadd, ld_0, x_goto, x_fall, x_stop, y_cmp_eq_t, y_if_eq_t, y_if_eq_f, i_wr_id, e0, ev_241_61, ev_241_1, xk_101 h1, xk_183 h2, Int.reduceToNat, Int.toNat_zero, Int.toNat_one]
  rw [show 7 * (k : Int) + 7 = 7 * ((k + 1 : Nat) : Int) by omega]
theorem lwc_23 {L k : Nat} {σ : ex_S} (hL : L ≤ 3584) (hk : 7 * k + 7 ≤ L) (ck : CK 102 184 [vI (σ 0 (7 * (k : Int) + 1)), vI (σ 0 (7 * (k : Int) + 2))] σ L 40) : LW L k σ 23 := by
  obtain ⟨r, σ1, σ2, gb, h1, h2, h3, h4, h5, h6⟩ := ck
  have e0 : σ1 0 = σ 0 := ex_cd_lw (by decide) h1
  refine ⟨gb, σ2, ?_, h3, h4, h5, h6⟩
  rw [ev_241_23]
  simp (disch := first | assumption | omega | (repeat' first | exact ok_nil | apply ok_I | apply ok_R)) only [xl_a0, xl_a1, xl_a2, xl_i3, xn_3, x_push, y_iadd, ld_0, x_goto, x_fall, x_stop, y_cmp_eq_t, y_if_eq_t, y_if_eq_f, i_wr_id, e0, ev_241_61, ev_241_1, xk_102 h1, xk_184 h2, Int.reduceToNat, Int.toNat_zero, Int.toNat_one]
  rw [show 7 * (k : Int) + 7 = 7 * ((k + 1 : Nat) : Int) by omega]
theorem lwc_24 {L k : Nat} {σ : ex_S} (hL : L ≤ 3584) (hk : 7 * k + 7 ≤ L) (ck : CK 103 186 [vI (σ 0 (7 * (k : Int) + 1))] σ L 40) : LW L k σ 24 := by
  obtain ⟨r, σ1, σ2, gb, h1, h2, h3, h4, h5, h6⟩ := ck
  have e0 : σ1 0 = σ 0 := ex_cd_lw (by decide) h1
  refine ⟨gb, σ2, ?_, h3, h4, h5, h6⟩
  rw [ev_241_24]
  simp (disch := first | assumption | omega | (repeat' first | exact ok_nil | apply ok_I | apply ok_R)) only [xl_a0, xl_a1, xl_a2, xl_i3, xn_3, x_push, y_iadd, ld_0, x_goto, x_fall, x_stop, y_cmp_eq_t, y_if_eq_t, y_if_eq_f, i_wr_id, e0, ev_241_61, ev_241_1, xk_103 h1, xk_186 h2, Int.reduceToNat, Int.toNat_zero, Int.toNat_one]
  rw [show 7 * (k : Int) + 7 = 7 * ((k + 1 : Nat) : Int) by omega]
theorem lwc_25 {L k : Nat} {σ : ex_S} (hL : L ≤ 3584) (hk : 7 * k + 7 ≤ L) (ck : CK 104 188 [vI (σ 0 (7 * (k : Int) + 1))] σ L 40) : LW L k σ 25 := by
  obtain ⟨r, σ1, σ2, gb, h1, h2, h3, h4, h5, h6⟩ := ck
  have e0 : σ1 0 = σ 0 := ex_cd_lw (by decide) h1
  refine ⟨gb, σ2, ?_, h3, h4, h5, h6⟩
  rw [ev_241_25]
  simp (disch := first | assumption | omega | (repeat' first | exact ok_nil | apply ok_I | apply ok_R)) only [xl_a0, xl_a1, xl_a2, xl_i3, xn_3, x_push, y_iadd, ld_0, x_goto, x_fall, x_stop, y_cmp_eq_t, y_if_eq_t, y_if_eq_f, i_wr_id, e0, ev_241_61, ev_241_1, xk_104 h1, xk_188 h2, Int.reduceToNat, Int.toNat_zero, Int.toNat_one]
  rw [show 7 * (k : Int) + 7 = 7 * ((k + 1 : Nat) : Int) by omega]
theorem lwc_26 {L k : Nat} {σ : ex_S} (hL : L ≤ 3584) (hk : 7 * k + 7 ≤ L) (ck : CK 105 189 [] σ L 40) : LW L k σ 26 := by
  obtain ⟨r, σ1, σ2, gb, h1, h2, h3, h4, h5, h6⟩ := ck
  have e0 : σ1 0 = σ 0 := ex_cd_lw (by decide) h1
  refine ⟨gb, σ2, ?_, h3, h4, h5, h6⟩
  rw [ev_241_26]
  simp (disch := first | assumption | omega | (repeat' first | exact ok_nil | apply ok_I | apply ok_R)) only [xl_a0, xl_a1, xl_a2, xl_i3, xn_3, x_push, y_iadd, ld_0, x_goto, x_fall, x_stop, y_cmp_eq_t, y_if_eq_t, y_if_eq_f, i_wr_id, e0, ev_241_61, ev_241_1, xk_105 h1, xk_189 h2, Int.reduceToNat, Int.toNat_zero, Int.toNat_one]
  rw [show 7 * (k : Int) + 7 = 7 * ((k + 1 : Nat) : Int) by omega]
theorem lwc_27 {L k : Nat} {σ : ex_S} (hL : L ≤ 3584) (hk : 7 * k + 7 ≤ L) (ck : CK 106 193 [] σ L 40) : LW L k σ 27 := by
  obtain ⟨r, σ1, σ2, gb, h1, h2, h3, h4, h5, h6⟩ := ck
  have e0 : σ1 0 = σ 0 := ex_cd_lw (by decide) h1
  refine ⟨gb, σ2, ?_, h3, h4, h5, h6⟩
  rw [ev_241_27]
  simp (disch := first | assumption | omega | (repeat' first | exact ok_nil | apply ok_I | apply ok_R)) only [xl_a0, xl_a1, xl_a2, xl_i3, xn_3, x_push, y_iadd, ld_0, x_goto, x_fall, x_stop, y_cmp_eq_t, y_if_eq_t, y_if_eq_f, i_wr_id, e0, ev_241_61, ev_241_1, xk_106 h1, xk_193 h2, Int.reduceToNat, Int.toNat_zero, Int.toNat_one]
  rw [show 7 * (k : Int) + 7 = 7 * ((k + 1 : Nat) : Int) by omega]
theorem lwc_28 {L k : Nat} {σ : ex_S} (hL : L ≤ 3584) (hk : 7 * k + 7 ≤ L) (ck : CK 107 194 [vI (σ 0 (7 * (k : Int) + 1))] σ L 40) : LW L k σ 28 := by
  obtain ⟨r, σ1, σ2, gb, h1, h2, h3, h4, h5, h6⟩ := ck
  have e0 : σ1 0 = σ 0 := ex_cd_lw (by decide) h1
  refine ⟨gb, σ2, ?_, h3, h4, h5, h6⟩
  rw [ev_241_28]
  simp (disch := first | assumption | omega | (repeat' first | exact ok_nil | apply ok_I | apply ok_R)) only [xl_a0, xl_a1, xl_a2, xl_i3, xn_3, x_push, y_iadd, ld_0, x_goto, x_fall, x_stop, y_cmp_eq_t, y_if_eq_t, y_if_eq_f, i_wr_id, e0, ev_241_61, ev_241_1, xk_107 h1, xk_194 h2, Int.reduceToNat, Int.toNat_zero, Int.toNat_one]
  rw [show 7 * (k : Int) + 7 = 7 * ((k + 1 : Nat) : Int) by omega]
theorem lwc_29 {L k : Nat} {σ : ex_S} (hL : L ≤ 3584) (hk : 7 * k + 7 ≤ L) (ck : CK 108 195 [vI (σ 0 (7 * (k : Int) + 1))] σ L 40) : LW L k σ 29 := by
  obtain ⟨r, σ1, σ2, gb, h1, h2, h3, h4, h5, h6⟩ := ck
  have e0 : σ1 0 = σ 0 := ex_cd_lw (by decide) h1
  refine ⟨gb, σ2, ?_, h3, h4, h5, h6⟩
  rw [ev_241_29]
  simp (disch := first | assumption | omega | (repeat' first | exact ok_nil | apply ok_I | apply ok_R)) only [xl_a0, xl_a1, xl_a2, xl_i3, xn_3, x_push, y_iadd, ld_0, x_goto, x_fall, x_stop, y_cmp_eq_t, y_if_eq_t, y_if_eq_f, i_wr_id, e0, ev_241_61, ev_241_1, xk_108 h1, xk_195 h2, Int.reduceToNat, Int.toNat_zero, Int.toNat_one]
  rw [show 7 * (k : Int) + 7 = 7 * ((k + 1 : Nat) : Int) by omega]
theorem lwc_30 {L k : Nat} {σ : ex_S} (hL : L ≤ 3584) (hk : 7 * k + 7 ≤ L) (ck : CK 109 201 [] σ L 40) : LW L k σ 30 := by
  obtain ⟨r, σ1, σ2, gb, h1, h2, h3, h4, h5, h6⟩ := ck
  have e0 : σ1 0 = σ 0 := ex_cd_lw (by decide) h1
  refine ⟨gb, σ2, ?_, h3, h4, h5, h6⟩
  rw [ev_241_30]
  simp (disch := first | assumption | omega | (repeat' first | exact ok_nil | apply ok_I | apply ok_R)) only [xl_a0, xl_a1, xl_a2, xl_i3, xn_3, x_push, y_iadd, ld_0, x_goto, x_fall, x_stop, y_cmp_eq_t, y_if_eq_t, y_if_eq_f, i_wr_id, e0, ev_241_61, ev_241_1, xk_109 h1, xk_201 h2, Int.reduceToNat, Int.toNat_zero, Int.toNat_one]
  rw [show 7 * (k : Int) + 7 = 7 * ((k + 1 : Nat) : Int) by omega]
theorem lwc_31 {L k : Nat} {σ : ex_S} (hL : L ≤ 3584) (hk : 7 * k + 7 ≤ L) (ck : CK 110 202 [vI (σ 0 (7 * (k : Int) + 1))] σ L 40) : LW L k σ 31 := by
  obtain ⟨r, σ1, σ2, gb, h1, h2, h3, h4, h5, h6⟩ := ck
  have e0 : σ1 0 = σ 0 := ex_cd_lw (by decide) h1
  refine ⟨gb, σ2, ?_, h3, h4, h5, h6⟩
  rw [ev_241_31]
  simp (disch := first | assumption | omega | (repeat' first | exact ok_nil | apply ok_I | apply ok_R)) only [xl_a0, xl_a1, xl_a2, xl_i3, xn_3, x_push, y_iadd, ld_0, x_goto, x_fall, x_stop, y_cmp_eq_t, y_if_eq_t, y_if_eq_f, i_wr_id, e0, ev_241_61, ev_241_1, xk_110 h1, xk_202 h2, Int.reduceToNat, Int.toNat_zero, Int.toNat_one]
  rw [show 7 * (k : Int) + 7 = 7 * ((k + 1 : Nat) : Int) by omega]
theorem lwc_32 {L k : Nat} {σ : ex_S} (hL : L ≤ 3584) (hk : 7 * k + 7 ≤ L) (ck : CK 111 203 [vI (σ 0 (7 * (k : Int) + 1)), vI (σ 0 (7 * (k : Int) + 2)), vI (σ 0 (7 * (k : Int) + 3))] σ L 40) : LW L k σ 32 := by
  obtain ⟨r, σ1, σ2, gb, h1, h2, h3, h4, h5, h6⟩ := ck
  have e0 : σ1 0 = σ 0 := ex_cd_lw (by decide) h1
  refine ⟨gb, σ2, ?_, h3, h4, h5, h6⟩
  rw [ev_241_32]
  simp (disch := first | assumption | omega | (repeat' first | exact ok_nil | apply ok_I | apply ok_R)) only [xl_a0, xl_a1, xl_a2, xl_i3, xn_3, x_push, y_iadd, ld_0, x_goto, x_fall, x_stop, y_cmp_eq_t, y_if_eq_t, y_if_eq_f, i_wr_id, e0, ev_241_61, ev_241_1, xk_111 h1, xk_203 h2, Int.reduceToNat, Int.toNat_zero, Int.toNat_one]
  rw [show 7 * (k : Int) + 7 = 7 * ((k + 1 : Nat) : Int) by omega]
theorem lwc_33 {L k : Nat} {σ : ex_S} (hL : L ≤ 3584) (hk : 7 * k + 7 ≤ L) (ck : CK 112 206 [vI (σ 0 (7 * (k : Int) + 1))] σ L 40) : LW L k σ 33 := by
  obtain ⟨r, σ1, σ2, gb, h1, h2, h3, h4, h5, h6⟩ := ck
  have e0 : σ1 0 = σ 0 := ex_cd_lw (by decide) h1
  refine ⟨gb, σ2, ?_, h3, h4, h5, h6⟩
  rw [ev_241_33]
  simp (disch := first | assumption | omega | (repeat' first | exact ok_nil | apply ok_I | apply ok_R)) only [xl_a0, xl_a1, xl_a2, xl_i3, xn_3, x_push, y_iadd, ld_0, x_goto, x_fall, x_stop, y_cmp_eq_t, y_if_eq_t, y_if_eq_f, i_wr_id, e0, ev_241_61, ev_241_1, xk_112 h1, xk_206 h2, Int.reduceToNat, Int.toNat_zero, Int.toNat_one]
  rw [show 7 * (k : Int) + 7 = 7 * ((k + 1 : Nat) : Int) by omega]
theorem lwc_34 {L k : Nat} {σ : ex_S} (hL : L ≤ 3584) (hk : 7 * k + 7 ≤ L) (ck : CK 113 207 [vI (σ 0 (7 * (k : Int) + 1))] σ L 40) : LW L k σ 34 := by
  obtain ⟨r, σ1, σ2, gb, h1, h2, h3, h4, h5, h6⟩ := ck
  have e0 : σ1 0 = σ 0 := ex_cd_lw (by decide) h1
  refine ⟨gb, σ2, ?_, h3, h4, h5, h6⟩
  rw [ev_241_34]
  simp (disch := first | assumption | omega | (repeat' first | exact ok_nil | apply ok_I | apply ok_R)) only [xl_a0, xl_a1, xl_a2, xl_i3, xn_3, x_push, y_iadd, ld_0, x_goto, x_fall, x_stop, y_cmp_eq_t, y_if_eq_t, y_if_eq_f, i_wr_id, e0, ev_241_61, ev_241_1, xk_113 h1, xk_207 h2, Int.reduceToNat, Int.toNat_zero, Int.toNat_one]
  rw [show 7 * (k : Int) + 7 = 7 * ((k + 1 : Nat) : Int) by omega]
theorem lwc_35 {L k : Nat} {σ : ex_S} (hL : L ≤ 3584) (hk : 7 * k + 7 ≤ L) (ck : CK 114 208 [] σ L 40) : LW L k σ 35 := by
  obtain ⟨r, σ1, σ2, gb, h1, h2, h3, h4, h5, h6⟩ := ck
  have e0 : σ1 0 = σ 0 := ex_cd_lw (by decide) h1
  refine ⟨gb, σ2, ?_, h3, h4, h5, h6⟩
  rw [ev_241_35]
  simp (disch := first | assumption | omega | (repeat' first | exact ok_nil | apply ok_I | apply ok_R)) only [xl_a0, xl_a1, xl_a2, xl_i3, xn_3, x_push, y_iadd, ld_0, x_goto, x_fall, x_stop, y_cmp_eq_t, y_if_eq_t, y_if_eq_f, i_wr_id, e0, ev_241_61, ev_241_1, xk_114 h1, xk_208 h2, Int.reduceToNat, Int.toNat_zero, Int.toNat_one]
  rw [show 7 * (k : Int) + 7 = 7 * ((k + 1 : Nat) : Int) by omega]
theorem lwc_36 {L k : Nat} {σ : ex_S} (hL : L ≤ 3584) (hk : 7 * k + 7 ≤ L) (ck : CK 115 209 [vI (σ 0 (7 * (k : Int) + 1))] σ L 40) : LW L k σ 36 := by
  obtain ⟨r, σ1, σ2, gb, h1, h2, h3, h4, h5, h6⟩ := ck
  have e0 : σ1 0 = σ 0 := ex_cd_lw (by decide) h1
  refine ⟨gb, σ2, ?_, h3, h4, h5, h6⟩
  rw [ev_241_36]
  simp (disch := first | assumption | omega | (repeat' first | exact ok_nil | apply ok_I | apply ok_R)) only [xl_a0, xl_a1, xl_a2, xl_i3, xn_3, x_push, y_iadd, ld_0, x_goto, x_fall, x_stop, y_cmp_eq_t, y_if_eq_t, y_if_eq_f, i_wr_id, e0, ev_241_61, ev_241_1, xk_115 h1, xk_209 h2, Int.reduceToNat, Int.toNat_zero, Int.toNat_one]
  rw [show 7 * (k : Int) + 7 = 7 * ((k + 1 : Nat) : Int) by omega]
theorem lwc_42 {L k : Nat} {σ : ex_S} (hL : L ≤ 3584) (hk : 7 * k + 7 ≤ L) (ck : CK 117 211 [vI (σ 0 (7 * (k : Int) + 1)), vI (σ 0 (7 * (k : Int) + 2)), vI (σ 0 (7 * (k : Int) + 3))] σ L 40) : LW L k σ 42 := by
  obtain ⟨r, σ1, σ2, gb, h1, h2, h3, h4, h5, h6⟩ := ck
  have e0 : σ1 0 = σ 0 := ex_cd_lw (by decide) h1
  refine ⟨gb, σ2, ?_, h3, h4, h5, h6⟩
  rw [ev_241_42]
  simp (disch := first | assumption | omega | (repeat' first | exact ok_nil | apply ok_I | apply ok_R)) only [xl_a0, xl_a1, xl_a2, xl_i3, xn_3, x_push, y_iadd, ld_0, x_goto, x_fall, x_stop, y_cmp_eq_t, y_if_eq_t, y_if_eq_f, i_wr_id, e0, ev_241_61, ev_241_1, xk_117 h1, xk_211 h2, Int.reduceToNat, Int.toNat_zero, Int.toNat_one]
  rw [show 7 * (k : Int) + 7 = 7 * ((k + 1 : Nat) : Int) by omega]
theorem lwc_43 {L k : Nat} {σ : ex_S} (hL : L ≤ 3584) (hk : 7 * k + 7 ≤ L) (ck : CK 118 213 [vI (σ 0 (7 * (k : Int) + 1))] σ L 40) : LW L k σ 43 := by
  obtain ⟨r, σ1, σ2, gb, h1, h2, h3, h4, h5, h6⟩ := ck
  have e0 : σ1 0 = σ 0 := ex_cd_lw (by decide) h1
  refine ⟨gb, σ2, ?_, h3, h4, h5, h6⟩
  rw [ev_241_43]
  simp (disch := first | assumption | omega | (repeat' first | exact ok_nil | apply ok_I | apply ok_R)) only [xl_a0, xl_a1, xl_a2, xl_i3, xn_3, x_push, y_iadd, ld_0, x_goto, x_fall, x_stop, y_cmp_eq_t, y_if_eq_t, y_if_eq_f, i_wr_id, e0, ev_241_61, ev_241_1, xk_118 h1, xk_213 h2, Int.reduceToNat, Int.toNat_zero, Int.toNat_one]
  rw [show 7 * (k : Int) + 7 = 7 * ((k + 1 : Nat) : Int) by omega]
theorem lwc_44 {L k : Nat} {σ : ex_S} (hL : L ≤ 3584) (hk : 7 * k + 7 ≤ L) (ck : CK 119 215 [] σ L 40) : LW L k σ 44 := by
  obtain ⟨r, σ1, σ2, gb, h1, h2, h3, h4, h5, h6⟩ := ck
  have e0 : σ1 0 = σ 0 := ex_cd_lw (by decide) h1
  refine ⟨gb, σ2, ?_, h3, h4, h5, h6⟩
  rw [ev_241_44]
  simp (disch := first | assumption | omega | (repeat' first | exact ok_nil | apply ok_I | apply ok_R)) only [xl_a0, xl_a1, xl_a2, xl_i3, xn_3, x_push, y_iadd, ld_0, x_goto, x_fall, x_stop, y_cmp_eq_t, y_if_eq_t, y_if_eq_f, i_wr_id, e0, ev_241_61, ev_241_1, xk_119 h1, xk_215 h2, Int.reduceToNat, Int.toNat_zero, Int.toNat_one]
  rw [show 7 * (k : Int) + 7 = 7 * ((k + 1 : Nat) : Int) by omega]
theorem lwc_45 {L k : Nat} {σ : ex_S} (hL : L ≤ 3584) (hk : 7 * k + 7 ≤ L) (ck : CK 120 219 [vI (σ 0 (7 * (k : Int) + 1)), vI (σ 0 (7 * (k : Int) + 2)), vI (σ 0 (7 * (k : Int) + 3))] σ L 40) : LW L k σ 45 := by
  obtain ⟨r, σ1, σ2, gb, h1, h2, h3, h4, h5, h6⟩ := ck
  have e0 : σ1 0 = σ 0 := ex_cd_lw (by decide) h1
  refine ⟨gb, σ2, ?_, h3, h4, h5, h6⟩
  rw [ev_241_45]
  simp (disch := first | assumption | omega | (repeat' first | exact ok_nil | apply ok_I | apply ok_R)) only [xl_a0, xl_a1, xl_a2, xl_i3, xn_3, x_push, y_iadd, ld_0, x_goto, x_fall, x_stop, y_cmp_eq_t, y_if_eq_t, y_if_eq_f, i_wr_id, e0, ev_241_61, ev_241_1, xk_120 h1, xk_219 h2, Int.reduceToNat, Int.toNat_zero, Int.toNat_one]
  rw [show 7 * (k : Int) + 7 = 7 * ((k + 1 : Nat) : Int) by omega]
theorem lwc_46 {L k : Nat} {σ : ex_S} (hL : L ≤ 3584) (hk : 7 * k + 7 ≤ L) (ck : CK 121 220 [vI (σ 0 (7 * (k : Int) + 1)), vI (σ 0 (7 * (k : Int) + 2))] σ L 40) : LW L k σ 46 := by
  obtain ⟨r, σ1, σ2, gb, h1, h2, h3, h4, h5, h6⟩ := ck
  have e0 : σ1 0 = σ 0 := ex_cd_lw (by decide) h1
  refine ⟨gb, σ2, ?_, h3, h4, h5, h6⟩
  rw [ev_241_46]
  simp (disch := first | assumption | omega | (repeat' first | exact ok_nil | apply ok_I | apply ok_R)) only [xl_a0, xl_a1, xl_a2, xl_i3, xn_3, x_push, y_iadd, ld_0, x_goto, x_fall, x_stop, y_cmp_eq_t, y_if_eq_t, y_if_eq_f, i_wr_id, e0, ev_241_61, ev_241_1, xk_121 h1, xk_220 h2, Int.reduceToNat, Int.toNat_zero, Int.toNat_one]
  rw [show 7 * (k : Int) + 7 = 7 * ((k + 1 : Nat) : Int) by omega]
theorem lwc_47 {L k : Nat} {σ : ex_S} (hL : L ≤ 3584) (hk : 7 * k + 7 ≤ L) (ck : CK 122 221 [vI (σ 0 (7 * (k : Int) + 1))] σ L 40) : LW L k σ 47 := by
  obtain ⟨r, σ1, σ2, gb, h1, h2, h3, h4, h5, h6⟩ := ck
  have e0 : σ1 0 = σ 0 := ex_cd_lw (by decide) h1
  refine ⟨gb, σ2, ?_, h3, h4, h5, h6⟩
  rw [ev_241_47]
  simp (disch := first | assumption | omega | (repeat' first | exact ok_nil | apply ok_I | apply ok_R)) only [xl_a0, xl_a1, xl_a2, xl_i3, xn_3, x_push, y_iadd, ld_0, x_goto, x_fall, x_stop, y_cmp_eq_t, y_if_eq_t, y_if_eq_f, i_wr_id, e0, ev_241_61, ev_241_1, xk_122 h1, xk_221 h2, Int.reduceToNat, Int.toNat_zero, Int.toNat_one]
  rw [show 7 * (k : Int) + 7 = 7 * ((k + 1 : Nat) : Int) by omega]
theorem lwc_48 {L k : Nat} {σ : ex_S} (hL : L ≤ 3584) (hk : 7 * k + 7 ≤ L) (ck : CK 123 225 [] σ L 40) : LW L k σ 48 := by
  obtain ⟨r, σ1, σ2, gb, h1, h2, h3, h4, h5, h6⟩ := ck
  have e0 : σ1 0 = σ 0 := ex_cd_lw (by decide) h1
  refine ⟨gb, σ2, ?_, h3, h4, h5, h6⟩
  rw [ev_241_48]
  simp (disch := first | assumption | omega | (repeat' first | exact ok_nil | apply ok_I | apply ok_R)) only [xl_a0, xl_a1, xl_a2, xl_i3, xn_3, x_push, y_iadd, ld_0, x_goto, x_fall, x_stop, y_cmp_eq_t, y_if_eq_t, y_if_eq_f, i_wr_id, e0, ev_241_61, ev_241_1, xk_123 h1, xk_225 h2, Int.reduceToNat, Int.toNat_zero, Int.toNat_one]
  rw [show 7 * (k : Int) + 7 = 7 * ((k + 1 : Nat) : Int) by omega]
theorem lwc_49 {L k : Nat} {σ : ex_S} (hL : L ≤ 3584) (hk : 7 * k + 7 ≤ L) (ck : CK 124 226 [vI (σ 0 (7 * (k : Int) + 1))] σ L 40) : LW L k σ 49 := by
  obtain ⟨r, σ1, σ2, gb, h1, h2, h3, h4, h5, h6⟩ := ck
  have e0 : σ1 0 = σ 0 := ex_cd_lw (by decide) h1
  refine ⟨gb, σ2, ?_, h3, h4, h5, h6⟩
  rw [ev_241_49]
  simp (disch := first | assumption | omega | (repeat' first | exact ok_nil | apply ok_I | apply ok_R)) only [xl_a0, xl_a1, xl_a2, xl_i3, xn_3, x_push, y_iadd, ld_0, x_goto, x_fall, x_stop, y_cmp_eq_t, y_if_eq_t, y_if_eq_f, i_wr_id, e0, ev_241_61, ev_241_1, xk_124 h1, xk_226 h2, Int.reduceToNat, Int.toNat_zero, Int.toNat_one]
  rw [show 7 * (k : Int) + 7 = 7 * ((k + 1 : Nat) : Int) by omega]
theorem lwc_55 {L k : Nat} {σ : ex_S} (hL : L ≤ 3584) (hk : 7 * k + 7 ≤ L) (ck : CK 126 229 [vI (σ 0 (7 * (k : Int) + 1)), vI (σ 0 (7 * (k : Int) + 2)), vI (σ 0 (7 * (k : Int) + 3))] σ L 40) : LW L k σ 55 := by
  obtain ⟨r, σ1, σ2, gb, h1, h2, h3, h4, h5, h6⟩ := ck
  have e0 : σ1 0 = σ 0 := ex_cd_lw (by decide) h1
  refine ⟨gb, σ2, ?_, h3, h4, h5, h6⟩
  rw [ev_241_55]
  simp (disch := first | assumption | omega | (repeat' first | exact ok_nil | apply ok_I | apply ok_R)) only [xl_a0, xl_a1, xl_a2, xl_i3, xn_3, x_push, y_iadd, ld_0, x_goto, x_fall, x_stop, y_cmp_eq_t, y_if_eq_t, y_if_eq_f, i_wr_id, e0, ev_241_61, ev_241_1, xk_126 h1, xk_229 h2, Int.reduceToNat, Int.toNat_zero, Int.toNat_one]
  rw [show 7 * (k : Int) + 7 = 7 * ((k + 1 : Nat) : Int) by omega]
theorem lwc_56 {L k : Nat} {σ : ex_S} (hL : L ≤ 3584) (hk : 7 * k + 7 ≤ L) (ck : CK 127 231 [vI (σ 0 (7 * (k : Int) + 1)), vI (σ 0 (7 * (k : Int) + 2)), vI (σ 0 (7 * (k : Int) + 3))] σ L 40) : LW L k σ 56 := by
  obtain ⟨r, σ1, σ2, gb, h1, h2, h3, h4, h5, h6⟩ := ck
  have e0 : σ1 0 = σ 0 := ex_cd_lw (by decide) h1
  refine ⟨gb, σ2, ?_, h3, h4, h5, h6⟩
  rw [ev_241_56]
  simp (disch := first | assumption | omega | (repeat' first | exact ok_nil | apply ok_I | apply ok_R)) only [xl_a0, xl_a1, xl_a2, xl_i3, xn_3, x_push, y_iadd, ld_0, x_goto, x_fall, x_stop, y_cmp_eq_t, y_if_eq_t, y_if_eq_f, i_wr_id, e0, ev_241_61, ev_241_1, xk_127 h1, xk_231 h2, Int.reduceToNat, Int.toNat_zero, Int.toNat_one]
  rw [show 7 * (k : Int) + 7 = 7 * ((k + 1 : Nat) : Int) by omega]
theorem lwc_57 {L k : Nat} {σ : ex_S} (hL : L ≤ 3584) (hk : 7 * k + 7 ≤ L) (ck : CK 128 232 [vI (σ 0 (7 * (k : Int) + 1)), vI (σ 0 (7 * (k : Int) + 2)), vI (σ 0 (7 * (k : Int) + 3))] σ L 40) : LW L k σ 57 := by
  obtain ⟨r, σ1, σ2, gb, h1, h2, h3, h4, h5, h6⟩ := ck
  have e0 : σ1 0 = σ 0 := ex_cd_lw (by decide) h1
  refine ⟨gb, σ2, ?_, h3, h4, h5, h6⟩
  rw [ev_241_57]
  simp (disch := first | assumption | omega | (repeat' first | exact ok_nil | apply ok_I | apply ok_R)) only [xl_a0, xl_a1, xl_a2, xl_i3, xn_3, x_push, y_iadd, ld_0, x_goto, x_fall, x_stop, y_cmp_eq_t, y_if_eq_t, y_if_eq_f, i_wr_id, e0, ev_241_61, ev_241_1, xk_128 h1, xk_232 h2, Int.reduceToNat, Int.toNat_zero, Int.toNat_one]
  rw [show 7 * (k : Int) + 7 = 7 * ((k + 1 : Nat) : Int) by omega]
theorem lwc_58 {L k : Nat} {σ : ex_S} (hL : L ≤ 3584) (hk : 7 * k + 7 ≤ L) (ck : CK 129 233 [vI (σ 0 (7 * (k : Int) + 1)), vI (σ 0 (7 * (k : Int) + 2)), vI (σ 0 (7 * (k : Int) + 3)), vI (σ 0 (7 * (k : Int) + 4)), vI (σ 0 (7 * (k : Int) + 5))] σ L 40) : LW L k σ 58 := by
  obtain ⟨r, σ1, σ2, gb, h1, h2, h3, h4, h5, h6⟩ := ck
  have e0 : σ1 0 = σ 0 := ex_cd_lw (by decide) h1
  refine ⟨gb, σ2, ?_, h3, h4, h5, h6⟩
  rw [ev_241_58]
  simp (disch := first | assumption | omega | (repeat' first | exact ok_nil | apply ok_I | apply ok_R)) only [xl_a0, xl_a1, xl_a2, xl_i3, xn_3, x_push, y_iadd, ld_0, x_goto, x_fall, x_stop, y_cmp_eq_t, y_if_eq_t, y_if_eq_f, i_wr_id, e0, ev_241_61, ev_241_1, xk_129 h1, xk_233 h2, Int.reduceToNat, Int.toNat_zero, Int.toNat_one]
  rw [show 7 * (k : Int) + 7 = 7 * ((k + 1 : Nat) : Int) by omega]
theorem lwc_59 {L k : Nat} {σ : ex_S} (hL : L ≤ 3584) (hk : 7 * k + 7 ≤ L) (ck : CK 130 148 [] σ L 40) : LW L k σ 59 := by
  obtain ⟨r, σ1, σ2, gb, h1, h2, h3, h4, h5, h6⟩ := ck
  have e0 : σ1 0 = σ 0 := ex_cd_lw (by decide) h1
  refine ⟨gb, σ2, ?_, h3, h4, h5, h6⟩
  rw [ev_241_59]
  simp (disch := first | assumption | omega | (repeat' first | exact ok_nil | apply ok_I | apply ok_R)) only [xl_a0, xl_a1, xl_a2, xl_i3, xn_3, x_push, y_iadd, ld_0, x_goto, x_fall, x_stop, y_cmp_eq_t, y_if_eq_t, y_if_eq_f, i_wr_id, e0, ev_241_61, ev_241_1, xk_130 h1, xk_148 h2, Int.reduceToNat, Int.toNat_zero, Int.toNat_one]
  rw [show 7 * (k : Int) + 7 = 7 * ((k + 1 : Nat) : Int) by omega]
theorem lwc_60 {L k : Nat} {σ : ex_S} (hL : L ≤ 3584) (hk : 7 * k + 7 ≤ L) (ck : CK 131 234 [vI (σ 0 (7 * (k : Int) + 1))] σ L 40) : LW L k σ 60 := by
  obtain ⟨r, σ1, σ2, gb, h1, h2, h3, h4, h5, h6⟩ := ck
  have e0 : σ1 0 = σ 0 := ex_cd_lw (by decide) h1
  refine ⟨gb, σ2, ?_, h3, h4, h5, h6⟩
  rw [ev_241_60]
  simp (disch := first | assumption | omega | (repeat' first | exact ok_nil | apply ok_I | apply ok_R)) only [xl_a0, xl_a1, xl_a2, xl_i3, xn_3, x_push, y_iadd, ld_0, x_goto, x_fall, x_stop, y_cmp_eq_t, y_if_eq_t, y_if_eq_f, i_wr_id, e0, ev_241_61, ev_241_1, xk_131 h1, xk_234 h2, Int.reduceToNat, Int.toNat_zero, Int.toNat_one]
  rw [show 7 * (k : Int) + 7 = 7 * ((k + 1 : Nat) : Int) by omega]
theorem lwc_5 {L k : Nat} {σ : ex_S} (hL : L ≤ 3584) (hk : 7 * k + 7 ≤ L) (ck : ∀ z : Int, z = 0 ∨ z = 1 → CK 88 155 [vI (σ 0 (7 * (k : Int) + 1)), vI z] σ L 40) : LW L k σ 5 := by
  by_cases q : σ 0 (7 * (k : Int) + 2) = 0
  · obtain ⟨r, σ1, σ2, gb, h1, h2, h3, h4, h5, h6⟩ := ck 0 (Or.inl rfl)
    have e0 : σ1 0 = σ 0 := ex_cd_lw (by decide) h1
    refine ⟨gb, σ2, ?_, h3, h4, h5, h6⟩
    rw [ev_241_5]
    simp (disch := first | assumption | omega | (repeat' first | exact ok_nil | apply ok_I | apply ok_R)) only [xl_a0, xl_a1, xl_a2, xl_i3, xn_3, x_push, y_iadd, ld_0, x_goto, x_fall, x_stop, y_cmp_eq_t, y_if_eq_t, y_if_eq_f, i_wr_id, e0, ev_241_61, ev_241_1, ev_241_6, ev_241_7, ev_241_8, ev_241_9, xk_88 h1, xk_155 h2, Int.reduceToNat, Int.toNat_zero, Int.toNat_one]
    rw [show 7 * (k : Int) + 7 = 7 * ((k + 1 : Nat) : Int) by omega]
  · obtain ⟨r, σ1, σ2, gb, h1, h2, h3, h4, h5, h6⟩ := ck 1 (Or.inr rfl)
    have e0 : σ1 0 = σ 0 := ex_cd_lw (by decide) h1
    refine ⟨gb, σ2, ?_, h3, h4, h5, h6⟩
    rw [ev_241_5]
    simp (disch := first | assumption | omega | (repeat' first | exact ok_nil | apply ok_I | apply ok_R)) only [xl_a0, xl_a1, xl_a2, xl_i3, xn_3, x_push, y_iadd, ld_0, x_goto, x_fall, x_stop, y_cmp_eq_t, y_if_eq_t, y_if_eq_f, i_wr_id, e0, ev_241_61, ev_241_1, ev_241_6, ev_241_7, ev_241_8, ev_241_9, xk_88 h1, xk_155 h2, Int.reduceToNat, Int.toNat_zero, Int.toNat_one]
    rw [show 7 * (k : Int) + 7 = 7 * ((k + 1 : Nat) : Int) by omega]
theorem lwc_37 {L k : Nat} {σ : ex_S} (hL : L ≤ 3584) (hk : 7 * k + 7 ≤ L) (ck : ∀ z : Int, z = 0 ∨ z = 1 → CK 116 210 [vI (σ 0 (7 * (k : Int) + 1)), vI z] σ L 40) : LW L k σ 37 := by
  by_cases q : σ 0 (7 * (k : Int) + 2) = 0
  · obtain ⟨r, σ1, σ2, gb, h1, h2, h3, h4, h5, h6⟩ := ck 0 (Or.inl rfl)
    have e0 : σ1 0 = σ 0 := ex_cd_lw (by decide) h1
    refine ⟨gb, σ2, ?_, h3, h4, h5, h6⟩
    rw [ev_241_37]
    simp (disch := first | assumption | omega | (repeat' first | exact ok_nil | apply ok_I | apply ok_R)) only [xl_a0, xl_a1, xl_a2, xl_i3, xn_3, x_push, y_iadd, ld_0, x_goto, x_fall, x_stop, y_cmp_eq_t, y_if_eq_t, y_if_eq_f, i_wr_id, e0, ev_241_61, ev_241_1, ev_241_38, ev_241_39, ev_241_40, ev_241_41, xk_116 h1, xk_210 h2, Int.reduceToNat, Int.toNat_zero, Int.toNat_one]
    rw [show 7 * (k : Int) + 7 = 7 * ((k + 1 : Nat) : Int) by omega]
  · obtain ⟨r, σ1, σ2, gb, h1, h2, h3, h4, h5, h6⟩ := ck 1 (Or.inr rfl)
    have e0 : σ1 0 = σ 0 := ex_cd_lw (by decide) h1
    refine ⟨gb, σ2, ?_, h3, h4, h5, h6⟩
    rw [ev_241_37]
    simp (disch := first | assumption | omega | (repeat' first | exact ok_nil | apply ok_I | apply ok_R)) only [xl_a0, xl_a1, xl_a2, xl_i3, xn_3, x_push, y_iadd, ld_0, x_goto, x_fall, x_stop, y_cmp_eq_t, y_if_eq_t, y_if_eq_f, i_wr_id, e0, ev_241_61, ev_241_1, ev_241_38, ev_241_39, ev_241_40, ev_241_41, xk_116 h1, xk_210 h2, Int.reduceToNat, Int.toNat_zero, Int.toNat_one]
    rw [show 7 * (k : Int) + 7 = 7 * ((k + 1 : Nat) : Int) by omega]
theorem lwc_50 {L k : Nat} {σ : ex_S} (hL : L ≤ 3584) (hk : 7 * k + 7 ≤ L) (ck : ∀ z : Int, z = 0 ∨ z = 1 → CK 125 227 [vI (σ 0 (7 * (k : Int) + 1)), vI (σ 0 (7 * (k : Int) + 2)), vI z] σ L 40) : LW L k σ 50 := by
  by_cases q : σ 0 (7 * (k : Int) + 3) = 0
  · obtain ⟨r, σ1, σ2, gb, h1, h2, h3, h4, h5, h6⟩ := ck 0 (Or.inl rfl)
    have e0 : σ1 0 = σ 0 := ex_cd_lw (by decide) h1
    refine ⟨gb, σ2, ?_, h3, h4, h5, h6⟩
    rw [ev_241_50]
    simp (disch := first | assumption | omega | (repeat' first | exact ok_nil | apply ok_I | apply ok_R)) only [xl_a0, xl_a1, xl_a2, xl_i3, xn_3, x_push, y_iadd, ld_0, x_goto, x_fall, x_stop, y_cmp_eq_t, y_if_eq_t, y_if_eq_f, i_wr_id, e0, ev_241_61, ev_241_1, ev_241_51, ev_241_52, ev_241_53, ev_241_54, xk_125 h1, xk_227 h2, Int.reduceToNat, Int.toNat_zero, Int.toNat_one]
    rw [show 7 * (k : Int) + 7 = 7 * ((k + 1 : Nat) : Int) by omega]
  · obtain ⟨r, σ1, σ2, gb, h1, h2, h3, h4, h5, h6⟩ := ck 1 (Or.inr rfl)
    have e0 : σ1 0 = σ 0 := ex_cd_lw (by decide) h1
    refine ⟨gb, σ2, ?_, h3, h4, h5, h6⟩
    rw [ev_241_50]
    simp (disch := first | assumption | omega | (repeat' first | exact ok_nil | apply ok_I | apply ok_R)) only [xl_a0, xl_a1, xl_a2, xl_i3, xn_3, x_push, y_iadd, ld_0, x_goto, x_fall, x_stop, y_cmp_eq_t, y_if_eq_t, y_if_eq_f, i_wr_id, e0, ev_241_61, ev_241_1, ev_241_51, ev_241_52, ev_241_53, ev_241_54, xk_125 h1, xk_227 h2, Int.reduceToNat, Int.toNat_zero, Int.toNat_one]
    rw [show 7 * (k : Int) + 7 = 7 * ((k + 1 : Nat) : Int) by omega]
theorem and_63 (x : Int) : 0 ≤ ex_and x 63 ∧ ex_and x 63 < 64 := by
  generalize hX : (Int32.ofInt x).toBitVec = v
  have e1 : ex_and x 63 = ((v.toNat % 64 : Nat) : Int) := by
    unfold ex_and
    rw [← Int32.toInt_toBitVec, Int32.toBitVec_and, hX]
    have e : (v &&& (Int32.ofInt 63).toBitVec).toNat = v.toNat % 64 := by
      rw [BitVec.toNat_and]
      exact Nat.and_two_pow_sub_one_eq_mod v.toNat 6
    rw [bv_int (by rw [e]; omega), e]
  rw [e1]
  omega
theorem lw_disp {L k : Nat} {σ : ex_S} {v t : Int} (hL : L ≤ 3584) (hk : 7 * k + 7 ≤ L) (hv : ex_and (σ 0 (7 * (k : Int))) 63 = v) (q : ¬ (v < 0 ∨ 46 < v)) (ht : (#[2, 3, 4, 5, 10, 11, 12, 13, 14, 15, 16, 17, 18, 19, 20, 21, 22, 23, 24, 25, 26, 27, 28, 29, 30, 31, 32, 33, 34, 35, 36, 37, 42, 43, 44, 45, 46, 47, 48, 49, 50, 55, 56, 57, 58, 59, 60] : Array Int)[(v - 0).toNat]? = some t) : ex_ev 40 241 63 (lw_ls k) [] (SH L, σ) = ex_ev 40 241 t.toNat (lw_ls k) [] (SH L, σ) := by
  rw [ev_241_63]
  have w1 : ex_wr (L : Int) = (L : Int) := i_wr_id (by omega) (by omega)
  have w2 : ex_wr ((L : Int) - 7) = (L : Int) - 7 := i_wr_id (by omega) (by omega)
  simp (disch := first | assumption | omega | (repeat' first | exact ok_nil | apply ok_I | apply ok_R)) only [xl_a0, xl_i3, x_push, y_isub, y_iand, ld_0, ln_0, y_cmp_gt_f, w1, w2, hv, y_tab_k]
theorem lw_none {L k : Nat} {σ : ex_S} (hC : CI σ) (hL : L ≤ 3584) (hk : 7 * k + 7 ≤ L) (q : 46 < ex_and (σ 0 (7 * (k : Int))) 63) : LW L k σ 63 := by
  refine ⟨[], σ, ?_, hC, rfl, by decide, by decide⟩
  rw [List.append_nil, ev_241_63]
  have w1 : ex_wr (L : Int) = (L : Int) := i_wr_id (by omega) (by omega)
  have w2 : ex_wr ((L : Int) - 7) = (L : Int) - 7 := i_wr_id (by omega) (by omega)
  have w3 : ex_wr (7 * (k : Int) + 7) = 7 * (k : Int) + 7 := i_wr_id (by omega) (by omega)
  simp (disch := first | assumption | omega | (repeat' first | exact ok_nil | apply ok_I | apply ok_R)) only [xl_a0, xl_i3, xn_3, x_push, y_isub, y_iand, ld_0, ln_0, y_cmp_gt_f, w1, w2, w3, y_tab_d, ev_241_61, ev_241_1, x_goto, x_fall, x_stop, Int.reduceToNat]
  rw [show 7 * (k : Int) + 7 = 7 * ((k + 1 : Nat) : Int) by omega]
theorem lw_end {L k : Nat} {σ : ex_S} (hL : L ≤ 3584) (hk2 : k ≤ 513) (hk : ¬ 7 * k + 7 ≤ L) : ex_ev 40 241 63 (lw_ls k) [] (SH L, σ) = some ([vI 1], (SH L, σ)) := by
  rw [ev_241_63]
  have w1 : ex_wr (L : Int) = (L : Int) := i_wr_id (by omega) (by omega)
  have w2 : ex_wr ((L : Int) - 7) = (L : Int) - 7 := i_wr_id (by omega) (by omega)
  simp (disch := first | assumption | omega | (repeat' first | exact ok_nil | apply ok_I | apply ok_R)) only [xl_a0, xl_i3, x_push, y_isub, ln_0, y_cmp_gt_t, w1, w2, ev_241_62, x_ret2, Int.reduceToNat]
/-- what holds at the law's loop head -/
def RI (_ : Nat → Int32) (L k : Nat) (σ : ex_S) : Prop := CI σ ∧ k ≤ 513 ∧ ∀ i : Int, 0 ≤ i → i < (L : Int) → -2147483648 ≤ σ 0 i ∧ σ 0 i ≤ 2147483647
theorem lw_step {L k : Nat} {σ : ex_S} (hL : L ≤ 3584) (hk : 7 * k + 7 ≤ L) (hC : CI σ) (hr : ∀ i : Int, 0 ≤ i → i < (L : Int) → -2147483648 ≤ σ 0 i ∧ σ 0 i ≤ 2147483647) : LW L k σ 63 := by
  obtain ⟨v0, v1⟩ := and_63 (σ 0 (7 * (k : Int)))
  by_cases q : 46 < ex_and (σ 0 (7 * (k : Int))) 63
  · exact lw_none hC hL hk q
  · generalize hv : ex_and (σ 0 (7 * (k : Int))) 63 = v at v0 v1 q
    have a1 := hr (7 * (k : Int) + 1) (by omega) (by omega)
    have a2 := hr (7 * (k : Int) + 2) (by omega) (by omega)
    have a3 := hr (7 * (k : Int) + 3) (by omega) (by omega)
    have a4 := hr (7 * (k : Int) + 4) (by omega) (by omega)
    have a5 := hr (7 * (k : Int) + 5) (by omega) (by omega)
    have go : ∀ B : Nat, ex_ev 40 241 63 (lw_ls k) [] (SH L, σ) = ex_ev 40 241 B (lw_ls k) [] (SH L, σ) → LW L k σ B → LW L k σ 63 := fun B e h => by
      obtain ⟨gb, σ', h1, h2⟩ := h
      exact ⟨gb, σ', e.trans h1, h2⟩
    rcases (show v = 0 ∨ v = 1 ∨ v = 2 ∨ v = 3 ∨ v = 4 ∨ v = 5 ∨ v = 6 ∨ v = 7 ∨ v = 8 ∨ v = 9 ∨ v = 10 ∨ v = 11 ∨ v = 12 ∨ v = 13 ∨ v = 14 ∨ v = 15 ∨ v = 16 ∨ v = 17 ∨ v = 18 ∨ v = 19 ∨ v = 20 ∨ v = 21 ∨ v = 22 ∨ v = 23 ∨ v = 24 ∨ v = 25 ∨ v = 26 ∨ v = 27 ∨ v = 28 ∨ v = 29 ∨ v = 30 ∨ v = 31 ∨ v = 32 ∨ v = 33 ∨ v = 34 ∨ v = 35 ∨ v = 36 ∨ v = 37 ∨ v = 38 ∨ v = 39 ∨ v = 40 ∨ v = 41 ∨ v = 42 ∨ v = 43 ∨ v = 44 ∨ v = 45 ∨ v = 46 by omega) with rfl | rfl | rfl | rfl | rfl | rfl | rfl | rfl | rfl | rfl | rfl | rfl | rfl | rfl | rfl | rfl | rfl | rfl | rfl | rfl | rfl | rfl | rfl | rfl | rfl | rfl | rfl | rfl | rfl | rfl | rfl | rfl | rfl | rfl | rfl | rfl | rfl | rfl | rfl | rfl | rfl | rfl | rfl | rfl | rfl | rfl | rfl
    · exact go 2 (lw_disp hL hk hv (by decide) rfl) (lwc_2 hL hk (ck_85 hC (by decide)))
    · exact go 3 (lw_disp hL hk hv (by decide) rfl) (lwc_3 hL hk (ck_86 hC (by decide)))
    · exact go 4 (lw_disp hL hk hv (by decide) rfl) (lwc_4 hL hk (ck_87 hC (by decide)))
    · exact go 5 (lw_disp hL hk hv (by decide) rfl) (lwc_5 hL hk (fun z hz => ck_88 hC (by decide) hz))
    · exact go 10 (lw_disp hL hk hv (by decide) rfl) (lwc_10 hL hk (ck_89 hC (by decide)))
    · exact go 11 (lw_disp hL hk hv (by decide) rfl) (lwc_11 hL hk (ck_90 hC (by decide)))
    · exact go 12 (lw_disp hL hk hv (by decide) rfl) (lwc_12 hL hk (ck_91 hC (by decide)))
    · exact go 13 (lw_disp hL hk hv (by decide) rfl) (lwc_13 hL hk (ck_92 hC (by decide)))
    · exact go 14 (lw_disp hL hk hv (by decide) rfl) (lwc_14 hL hk (ck_93 hC (by decide)))
    · exact go 15 (lw_disp hL hk hv (by decide) rfl) (lwc_15 hL hk (ck_94 hC (by decide)))
    · exact go 16 (lw_disp hL hk hv (by decide) rfl) (lwc_16 hL hk (ck_95 hC (by decide)))
    · exact go 17 (lw_disp hL hk hv (by decide) rfl) (lwc_17 hL hk (ck_96 hC (by decide)))
    · exact go 18 (lw_disp hL hk hv (by decide) rfl) (lwc_18 hL hk (ck_97 hC (by decide)))
    · exact go 19 (lw_disp hL hk hv (by decide) rfl) (lwc_19 hL hk (ck_98 hC (by decide)))
    · exact go 20 (lw_disp hL hk hv (by decide) rfl) (lwc_20 hL hk (ck_99 hC (by decide)))
    · exact go 21 (lw_disp hL hk hv (by decide) rfl) (lwc_21 hL hk (ck_100 hC (by decide)))
    · exact go 22 (lw_disp hL hk hv (by decide) rfl) (lwc_22 hL hk (ck_101 hC (by decide)))
    · exact go 23 (lw_disp hL hk hv (by decide) rfl) (lwc_23 hL hk (ck_102 hC (by decide)))
    · exact go 24 (lw_disp hL hk hv (by decide) rfl) (lwc_24 hL hk (ck_103 hC (by decide)))
    · exact go 25 (lw_disp hL hk hv (by decide) rfl) (lwc_25 hL hk (ck_104 hC (by decide)))
    · exact go 26 (lw_disp hL hk hv (by decide) rfl) (lwc_26 hL hk (ck_105 hC (by decide)))
    · exact go 27 (lw_disp hL hk hv (by decide) rfl) (lwc_27 hL hk (ck_106 hC (by decide)))
    · exact go 28 (lw_disp hL hk hv (by decide) rfl) (lwc_28 hL hk (ck_107 hC (by decide)))
    · exact go 29 (lw_disp hL hk hv (by decide) rfl) (lwc_29 hL hk (ck_108 hC (by decide)))
    · exact go 30 (lw_disp hL hk hv (by decide) rfl) (lwc_30 hL hk (ck_109 hC (by decide)))
    · exact go 31 (lw_disp hL hk hv (by decide) rfl) (lwc_31 hL hk (ck_110 hC (by decide)))
    · exact go 32 (lw_disp hL hk hv (by decide) rfl) (lwc_32 hL hk (ck_111 hC (by decide)))
    · exact go 33 (lw_disp hL hk hv (by decide) rfl) (lwc_33 hL hk (ck_112 hC (by decide)))
    · exact go 34 (lw_disp hL hk hv (by decide) rfl) (lwc_34 hL hk (ck_113 hC (by decide)))
    · exact go 35 (lw_disp hL hk hv (by decide) rfl) (lwc_35 hL hk (ck_114 hC (by decide)))
    · exact go 36 (lw_disp hL hk hv (by decide) rfl) (lwc_36 hL hk (ck_115 hC (by decide)))
    · exact go 37 (lw_disp hL hk hv (by decide) rfl) (lwc_37 hL hk (fun z hz => ck_116 hC (by decide) hz))
    · exact go 42 (lw_disp hL hk hv (by decide) rfl) (lwc_42 hL hk (ck_117 hC (by decide)))
    · exact go 43 (lw_disp hL hk hv (by decide) rfl) (lwc_43 hL hk (ck_118 hC (by decide)))
    · exact go 44 (lw_disp hL hk hv (by decide) rfl) (lwc_44 hL hk (ck_119 hC (by decide)))
    · exact go 45 (lw_disp hL hk hv (by decide) rfl) (lwc_45 hL hk (ck_120 hC (by decide)))
    · exact go 46 (lw_disp hL hk hv (by decide) rfl) (lwc_46 hL hk (ck_121 hC (by decide)))
    · exact go 47 (lw_disp hL hk hv (by decide) rfl) (lwc_47 hL hk (ck_122 hC (by decide)))
    · exact go 48 (lw_disp hL hk hv (by decide) rfl) (lwc_48 hL hk (ck_123 hC (by decide)))
    · exact go 49 (lw_disp hL hk hv (by decide) rfl) (lwc_49 hL hk (ck_124 hC (by decide)))
    · exact go 50 (lw_disp hL hk hv (by decide) rfl) (lwc_50 hL hk (fun z hz => ck_125 hC (by decide) hz))
    · exact go 55 (lw_disp hL hk hv (by decide) rfl) (lwc_55 hL hk (ck_126 hC (by decide)))
    · exact go 56 (lw_disp hL hk hv (by decide) rfl) (lwc_56 hL hk (ck_127 hC (by decide)))
    · exact go 57 (lw_disp hL hk hv (by decide) rfl) (lwc_57 hL hk (ck_128 hC (by decide) a3.1 a3.2))
    · exact go 58 (lw_disp hL hk hv (by decide) rfl) (lwc_58 hL hk (ck_129 hC (by decide) a2.1 a2.2 a4.1 a4.2 a5.1 a5.2))
    · exact go 59 (lw_disp hL hk hv (by decide) rfl) (lwc_59 hL hk (ck_130 hC (by decide)))
    · exact go 60 (lw_disp hL hk hv (by decide) rfl) (lwc_60 hL hk (ck_131 hC (by decide)))
