/-! rules: read, rule and law by the class -/
def rC (t : Nat → Nat) (N : Nat) : List Int32 := if N = 0 then [] else (rE t (min N 40) 4 (true, 0)).2.1
theorem sFin_2 {N : Nat} {s : PS} : (sFin N s).2 = s.2 := by
  unfold sFin
  split
  · split <;> rfl
  · rfl
theorem eC_0 {p : Nat} {I I2 : Nat → Nat → Int32} {v w : Int32} (hx : xC (ti_wr I p 3 v) I2) : eC p I (ti_wr I2 1 1 w) := fun q a b _ => (ti_wr_n a).trans ((hx q a).trans (ti_wr_n b))
theorem eC_1 {p : Nat} {I I2 I3 : Nat → Nat → Int32} {v w : Int32} (hx : xC (ti_wr I p 3 v) I2) (h3 : eC p I2 I3) : eC p I (ti_wr I3 1 1 w) := fun q a b c => (ti_wr_n a).trans ((h3 q a b c).trans ((hx q a).trans (ti_wr_n b)))
theorem k_read_31 {I : Nat → Nat → Int32} {J : Nat → Nat → Int64} {R : Nat → Nat → Value} {t : Nat → Nat} {d N : Nat} (hT : cT I t N) : Cal lyC (d + 66) hX5_read 2 [.ref 31, .ref 1] (I, J, R) (fun r M' => r = some (.int (if (sFin N (rS4 t N)).1 = true then -1 else nI (sFin N (rS4 t N)).2)) ∧ ∃ I3, M' = (I3, J, R) ∧ eC 31 I I3 ∧ I3 1 1 = 0 ∧ cS 31 I3 (rC t N) ∧ (rS4 t N).2 ≤ min N 40) := by
  have hN80 := hT.2.1
  have hT0 : cT (ti_wr I 31 3 0) t N := ⟨hT.1, hT.2.1, hT.2.2⟩
  show Ev lyC (d + 66) hX5_read 0 [some (.ref 31), some (.ref 1)] [] (I, J, R) _
  refine ev_st dX5_read_0 rfl rfl ?_
  refine ev_iconst (v := 0) dX5_read_1 (by decide) ?_
  refine ev_putI dX5_read_2 fr_5_21 rfl rfl ?_
  refine ev_st dX5_read_5 rfl rfl ?_
  refine ev_bipush (v := 40) dX5_read_6 (by decide) ?_
  refine ev_call dX5_read_8 rfl rfl mr_5_40 rfl rfl rfl (k_open (I := ti_wr I 31 3 0) (T := 40) hT0 (by decide)) ?_
  rintro _ _ ⟨rfl, I2, rfl, hx2, hR2⟩
  have hS2 : cS 31 I2 [] := ⟨(congrFun (hx2 31 (by decide)) 3).trans ti_wr_at, fun k v e => by cases e⟩
  show Ev lyC (d + 66) hX5_read 11 [some (.ref 31), some (.ref 1)] [] (I2, J, R) _
  refine ev_st dX5_read_11 rfl rfl ?_
  refine ev_call dX5_read_12 rfl rfl mr_5_46 rfl rfl rfl (k_X9_size) ?_
  rintro _ _ ⟨e1, rfl⟩
  rw [hR2.1] at e1
  subst e1
  show Ev lyC (d + 66) hX5_read 15 [some (.ref 31), some (.ref 1)] [.int (nI N)] (I2, J, R) _
  refine ev_if_leN (t := 25) (a := N) dX5_read_15 (by decide) rfl (by omega) (fun c_15 => ?_) (fun c_15 => ?_)
  · refine ev_st dX5_read_25 rfl rfl ?_
    refine ev_call dX5_read_26 rfl rfl mr_5_52 rfl rfl rfl (k_close hR2) ?_
    have e4 : rS4 t N = (true, 0) := if_pos (by omega)
    rw [← e4] at hR2 ⊢
    rintro _ _ ⟨rfl, rfl⟩
    show Ev lyC (d + 66) hX5_read 29 [some (.ref 31), some (.ref 1)] [.int (if (sFin N (rS4 t N)).1 = true then -1 else nI (sFin N (rS4 t N)).2)] (ti_wr I2 1 1 0, J, R) _
    exact ev_iret dX5_read_29 rfl (⟨rfl, _, rfl, eC_0 hx2, ti_wr_at, by rw [rC, if_pos (by omega)]; exact hS2.x (by decide) xC.rf.w, hR2.le⟩)
  · refine ev_st dX5_read_18 rfl rfl ?_
    refine ev_st dX5_read_19 rfl rfl ?_
    refine ev_iconst (v := 0) dX5_read_20 (by decide) ?_
    refine ev_iconst (v := 0) dX5_read_21 (by decide) ?_
    refine ev_call dX5_read_22 rfl rfl mr_5_48 rfl rfl rfl (k_rE_31 (N := N) (show min N 40 ≤ 40 by omega) 4 (Nat.le_refl _) I2 J R (true, 0) [] _ (by omega) hR2 hS2 (Nat.zero_le _)) ?_
    rintro _ _ ⟨rfl, I3, rfl, hx3, hR3, hS3⟩
    show Ev lyC (d + 66) hX5_read 25 [some (.ref 31), some (.ref 1)] [] (I3, J, R) _
    refine ev_st dX5_read_25 rfl rfl ?_
    refine ev_call dX5_read_26 rfl rfl mr_5_52 rfl rfl rfl (k_close hR3) ?_
    have e4 : rS4 t N = (rE t (min N 40) 4 (true, 0)).1 := if_neg (by omega)
    rw [← e4] at hR3 ⊢
    rintro _ _ ⟨rfl, rfl⟩
    show Ev lyC (d + 66) hX5_read 29 [some (.ref 31), some (.ref 1)] [.int (if (sFin N (rS4 t N)).1 = true then -1 else nI (sFin N (rS4 t N)).2)] (ti_wr I3 1 1 0, J, R) _
    exact ev_iret dX5_read_29 rfl (⟨rfl, _, rfl, eC_1 hx2 hx3, ti_wr_at, by rw [rC, if_neg (by omega)]; rw [List.nil_append] at hS3; exact hS3.x (by decide) xC.rf.w, hR3.le⟩)
theorem k_read_35 {I : Nat → Nat → Int32} {J : Nat → Nat → Int64} {R : Nat → Nat → Value} {t : Nat → Nat} {d N : Nat} (hT : cT I t N) : Cal lyC (d + 66) hX5_read 2 [.ref 35, .ref 1] (I, J, R) (fun r M' => r = some (.int (if (sFin N (rS4 t N)).1 = true then -1 else nI (sFin N (rS4 t N)).2)) ∧ ∃ I3, M' = (I3, J, R) ∧ eC 35 I I3 ∧ I3 1 1 = 0 ∧ cS 35 I3 (rC t N) ∧ (rS4 t N).2 ≤ min N 40) := by
  have hN80 := hT.2.1
  have hT0 : cT (ti_wr I 35 3 0) t N := ⟨hT.1, hT.2.1, hT.2.2⟩
  show Ev lyC (d + 66) hX5_read 0 [some (.ref 35), some (.ref 1)] [] (I, J, R) _
  refine ev_st dX5_read_0 rfl rfl ?_
  refine ev_iconst (v := 0) dX5_read_1 (by decide) ?_
  refine ev_putI dX5_read_2 fr_5_21 rfl rfl ?_
  refine ev_st dX5_read_5 rfl rfl ?_
  refine ev_bipush (v := 40) dX5_read_6 (by decide) ?_
  refine ev_call dX5_read_8 rfl rfl mr_5_40 rfl rfl rfl (k_open (I := ti_wr I 35 3 0) (T := 40) hT0 (by decide)) ?_
  rintro _ _ ⟨rfl, I2, rfl, hx2, hR2⟩
  have hS2 : cS 35 I2 [] := ⟨(congrFun (hx2 35 (by decide)) 3).trans ti_wr_at, fun k v e => by cases e⟩
  show Ev lyC (d + 66) hX5_read 11 [some (.ref 35), some (.ref 1)] [] (I2, J, R) _
  refine ev_st dX5_read_11 rfl rfl ?_
  refine ev_call dX5_read_12 rfl rfl mr_5_46 rfl rfl rfl (k_X9_size) ?_
  rintro _ _ ⟨e1, rfl⟩
  rw [hR2.1] at e1
  subst e1
  show Ev lyC (d + 66) hX5_read 15 [some (.ref 35), some (.ref 1)] [.int (nI N)] (I2, J, R) _
  refine ev_if_leN (t := 25) (a := N) dX5_read_15 (by decide) rfl (by omega) (fun c_15 => ?_) (fun c_15 => ?_)
  · refine ev_st dX5_read_25 rfl rfl ?_
    refine ev_call dX5_read_26 rfl rfl mr_5_52 rfl rfl rfl (k_close hR2) ?_
    have e4 : rS4 t N = (true, 0) := if_pos (by omega)
    rw [← e4] at hR2 ⊢
    rintro _ _ ⟨rfl, rfl⟩
    show Ev lyC (d + 66) hX5_read 29 [some (.ref 35), some (.ref 1)] [.int (if (sFin N (rS4 t N)).1 = true then -1 else nI (sFin N (rS4 t N)).2)] (ti_wr I2 1 1 0, J, R) _
    exact ev_iret dX5_read_29 rfl (⟨rfl, _, rfl, eC_0 hx2, ti_wr_at, by rw [rC, if_pos (by omega)]; exact hS2.x (by decide) xC.rf.w, hR2.le⟩)
  · refine ev_st dX5_read_18 rfl rfl ?_
    refine ev_st dX5_read_19 rfl rfl ?_
    refine ev_iconst (v := 0) dX5_read_20 (by decide) ?_
    refine ev_iconst (v := 0) dX5_read_21 (by decide) ?_
    refine ev_call dX5_read_22 rfl rfl mr_5_48 rfl rfl rfl (k_rE_35 (N := N) (show min N 40 ≤ 40 by omega) 4 (Nat.le_refl _) I2 J R (true, 0) [] _ (by omega) hR2 hS2 (Nat.zero_le _)) ?_
    rintro _ _ ⟨rfl, I3, rfl, hx3, hR3, hS3⟩
    show Ev lyC (d + 66) hX5_read 25 [some (.ref 35), some (.ref 1)] [] (I3, J, R) _
    refine ev_st dX5_read_25 rfl rfl ?_
    refine ev_call dX5_read_26 rfl rfl mr_5_52 rfl rfl rfl (k_close hR3) ?_
    have e4 : rS4 t N = (rE t (min N 40) 4 (true, 0)).1 := if_neg (by omega)
    rw [← e4] at hR3 ⊢
    rintro _ _ ⟨rfl, rfl⟩
    show Ev lyC (d + 66) hX5_read 29 [some (.ref 35), some (.ref 1)] [.int (if (sFin N (rS4 t N)).1 = true then -1 else nI (sFin N (rS4 t N)).2)] (ti_wr I3 1 1 0, J, R) _
    exact ev_iret dX5_read_29 rfl (⟨rfl, _, rfl, eC_1 hx2 hx3, ti_wr_at, by rw [rC, if_neg (by omega)]; rw [List.nil_append] at hS3; exact hS3.x (by decide) xC.rf.w, hR3.le⟩)
theorem k_c12 {I : Nat → Nat → Int32} {J : Nat → Nat → Int64} {R : Nat → Nat → Value} {d : Nat} (v : Int32) : Cal lyC d hX11_cornerOrTwelve 1 [.int v] (I, J, R) (fun r M' => r = some (.int (if v < 0 then 12 else v)) ∧ M' = (I, J, R)) := by
  show Ev lyC d hX11_cornerOrTwelve 0 [some (.int v)] [] (I, J, R) _
  refine ev_st dX11_cornerOrTwelve_0 rfl rfl ?_
  refine ev_if_ge (t := 9) (x := v) dX11_cornerOrTwelve_1 (by decide) (fun c_1 => ?_) (fun c_1 => ?_)
  · refine ev_st dX11_cornerOrTwelve_9 rfl rfl ?_
    exact ev_iret dX11_cornerOrTwelve_10 rfl (⟨by rw [if_neg c_1], rfl⟩)
  · refine ev_bipush (v := 12) dX11_cornerOrTwelve_4 (by decide) ?_
    refine ev_goto (t := 10) dX11_cornerOrTwelve_6 (by decide) ?_
    exact ev_iret dX11_cornerOrTwelve_10 rfl (⟨by rw [if_pos c_1], rfl⟩)
theorem k_rule0_31 {I : Nat → Nat → Int32} {J : Nat → Nat → Int64} {R : Nat → Nat → Value} {t : Nat → Nat} {d N : Nat} (hT : cT I t N) (hp : R 0 11 = .ref 31) (hq : R 0 12 = .ref 35) (hok : ¬ (sFin N (rS4 t N)).1 = true) : Cal lyC (d + 67) hX11_rule 3 [.ref 0] (I, J, R) (fun r M' => r = some (.int (-1 - nI (rS4 t N).2)) ∧ ∃ I3, M' = (I3, J, R) ∧ eC 35 I I3 ∧ I3 1 1 = 0) := by
  show Ev lyC (d + 67) hX11_rule 0 [some (.ref 0), none, none] [] (I, J, R) _
  refine ev_st dX11_rule_0 rfl rfl ?_
  refine ev_getR (v := .ref 35) dX11_rule_1 fr_11_98 rfl rfl hq ?_
  refine ev_st dX11_rule_4 rfl rfl ?_
  refine ev_getC dX11_rule_5 fr_11_10 rfl rfl ?_
  refine ev_call dX11_rule_8 rfl rfl mr_11_142 rfl rfl rfl (k_read_35 hT) ?_
  rintro _ _ ⟨e1, I2, rfl, hx2, h12, hS2, hle2⟩
  rw [if_neg hok, sFin_2] at e1
  subst e1
  show Ev lyC (d + 67) hX11_rule 11 [some (.ref 0), none, none] [.int (nI ((rS4 t N).2))] (I2, J, R) _
  refine ev_st (L' := [some (.ref 0), some (.int (nI ((rS4 t N).2))), none]) dX11_rule_11 rfl rfl ?_
  refine ev_st dX11_rule_12 rfl rfl ?_
  refine ev_if_ltN (t := 20) (a := (rS4 t N).2) dX11_rule_13 (by decide) rfl (by omega) ?_
  refine ev_iconst (v := -1) dX11_rule_16 (by decide) ?_
  refine ev_st dX11_rule_17 rfl rfl ?_
  refine ev_st dX11_rule_18 rfl rfl ?_
  exact ev_iret dX11_rule_19 rfl (⟨rfl, I2, rfl, hx2, h12⟩)
theorem k_rule1_31 {I : Nat → Nat → Int32} {J : Nat → Nat → Int64} {R : Nat → Nat → Value} {t : Nat → Nat} {d N : Nat} (hT : cT I t N) (hp : R 0 11 = .ref 31) (hq : R 0 12 = .ref 35) (hok : (sFin N (rS4 t N)).1 = true) : Cal lyC (d + 67) hX11_rule 3 [.ref 0] (I, J, R) (fun r M' => r = some (.int 0) ∧ ∃ I3, M' = (I3, J, ti_wf (ti_wf R 0 11 (.ref 35)) 0 12 (.ref 31)) ∧ eC 35 I I3 ∧ I3 1 1 = 0 ∧ cS 35 I3 (rC t N) ∧ (rS4 t N).2 ≤ min N 40) := by
  show Ev lyC (d + 67) hX11_rule 0 [some (.ref 0), none, none] [] (I, J, R) _
  refine ev_st dX11_rule_0 rfl rfl ?_
  refine ev_getR (v := .ref 35) dX11_rule_1 fr_11_98 rfl rfl hq ?_
  refine ev_st dX11_rule_4 rfl rfl ?_
  refine ev_getC dX11_rule_5 fr_11_10 rfl rfl ?_
  refine ev_call dX11_rule_8 rfl rfl mr_11_142 rfl rfl rfl (k_read_35 hT) ?_
  rintro _ _ ⟨e1, I2, rfl, hx2, h12, hS2, hle2⟩
  rw [if_pos hok] at e1
  subst e1
  show Ev lyC (d + 67) hX11_rule 11 [some (.ref 0), none, none] [.int ((-1))] (I2, J, R) _
  refine ev_st (L' := [some (.ref 0), some (.int ((-1))), none]) dX11_rule_11 rfl rfl ?_
  refine ev_st dX11_rule_12 rfl rfl ?_
  refine ev_if_lt (t := 20) dX11_rule_13 (by decide) (fun _ => ?_) (fun q => absurd q (by decide))
  refine ev_st dX11_rule_20 rfl rfl ?_
  refine ev_getR (v := .ref 31) dX11_rule_21 fr_11_94 rfl rfl hp ?_
  refine ev_st (L' := [some (.ref 0), some (.int ((-1))), some (.ref 31)]) dX11_rule_24 rfl rfl ?_
  refine ev_st dX11_rule_25 rfl rfl ?_
  refine ev_st dX11_rule_26 rfl rfl ?_
  refine ev_getR (v := .ref 35) dX11_rule_27 fr_11_98 rfl rfl hq ?_
  refine ev_putR dX11_rule_30 fr_11_94 rfl rfl ?_
  refine ev_st dX11_rule_33 rfl rfl ?_
  refine ev_st dX11_rule_34 rfl rfl ?_
  refine ev_putR dX11_rule_35 fr_11_98 rfl rfl ?_
  refine ev_iconst (v := 0) dX11_rule_38 (by decide) ?_
  exact ev_iret dX11_rule_39 rfl (⟨rfl, I2, rfl, hx2, h12, hS2, hle2⟩)
theorem k_law0_31 {I : Nat → Nat → Int32} {J : Nat → Nat → Int64} {R : Nat → Nat → Value} {t : Nat → Nat} {d N : Nat} (hT : cT I t N) (hp : R 0 11 = .ref 31) (hq : R 0 12 = .ref 35) (hok : ¬ (sFin N (rS4 t N)).1 = true) : Cal lyC (d + 67) hX11_law 4 [.ref 0] (I, J, R) (fun r M' => r = some (.int (-10000 - nI (rS4 t N).2)) ∧ ∃ I3, M' = (I3, J, R) ∧ eC 35 I I3 ∧ I3 1 1 = 0) := by
  show Ev lyC (d + 67) hX11_law 0 [some (.ref 0), none, none, none] [] (I, J, R) _
  refine ev_st dX11_law_0 rfl rfl ?_
  refine ev_getR (v := .ref 35) dX11_law_1 fr_11_98 rfl rfl hq ?_
  refine ev_st dX11_law_4 rfl rfl ?_
  refine ev_getC dX11_law_5 fr_11_10 rfl rfl ?_
  refine ev_call dX11_law_8 rfl rfl mr_11_142 rfl rfl rfl (k_read_35 hT) ?_
  rintro _ _ ⟨e1, I2, rfl, hx2, h12, hS2, hle2⟩
  rw [if_neg hok, sFin_2] at e1
  subst e1
  show Ev lyC (d + 67) hX11_law 11 [some (.ref 0), none, none, none] [.int (nI ((rS4 t N).2))] (I2, J, R) _
  refine ev_st (L' := [some (.ref 0), some (.int (nI ((rS4 t N).2))), none, none]) dX11_law_11 rfl rfl ?_
  refine ev_st dX11_law_12 rfl rfl ?_
  refine ev_if_ltN (t := 22) (a := (rS4 t N).2) dX11_law_13 (by decide) rfl (by omega) ?_
  refine ev_sipush (v := -10000) dX11_law_16 (by decide) ?_
  refine ev_st dX11_law_19 rfl rfl ?_
  refine ev_st dX11_law_20 rfl rfl ?_
  exact ev_iret dX11_law_21 rfl (⟨rfl, I2, rfl, hx2, h12⟩)
theorem k_law2_31 {I : Nat → Nat → Int32} {J : Nat → Nat → Int64} {R : Nat → Nat → Value} {t : Nat → Nat} {d N : Nat} (hT : cT I t N) (hp : R 0 11 = .ref 31) (hq : R 0 12 = .ref 35) (hok : (sFin N (rS4 t N)).1 = true) (h3 : I 39 3 = 0) : Cal lyC (d + 67) hX11_law 4 [.ref 0] (I, J, R) (fun r M' => r = some (.int (-20000)) ∧ ∃ I3, M' = (I3, J, R) ∧ eC 35 I I3 ∧ I3 1 1 = 0) := by
  show Ev lyC (d + 67) hX11_law 0 [some (.ref 0), none, none, none] [] (I, J, R) _
  refine ev_st dX11_law_0 rfl rfl ?_
  refine ev_getR (v := .ref 35) dX11_law_1 fr_11_98 rfl rfl hq ?_
  refine ev_st dX11_law_4 rfl rfl ?_
  refine ev_getC dX11_law_5 fr_11_10 rfl rfl ?_
  refine ev_call dX11_law_8 rfl rfl mr_11_142 rfl rfl rfl (k_read_35 hT) ?_
  rintro _ _ ⟨e1, I2, rfl, hx2, h12, hS2, hle2⟩
  rw [if_pos hok] at e1
  subst e1
  show Ev lyC (d + 67) hX11_law 11 [some (.ref 0), none, none, none] [.int ((-1))] (I2, J, R) _
  refine ev_st (L' := [some (.ref 0), some (.int ((-1))), none, none]) dX11_law_11 rfl rfl ?_
  refine ev_st dX11_law_12 rfl rfl ?_
  refine ev_if_lt (t := 22) dX11_law_13 (by decide) (fun _ => ?_) (fun q => absurd q (by decide))
  refine ev_st dX11_law_22 rfl rfl ?_
  refine ev_getC dX11_law_23 fr_11_49 rfl rfl ?_
  refine ev_getI (v := 0) dX11_law_26 fr_11_162 rfl rfl ((congrFun (hx2 39 (by decide) (by decide) (by decide)) 3).trans h3) ?_
  refine ev_if_ne (t := 36) dX11_law_29 (by decide) (fun q => absurd q (by decide)) (fun _ => ?_)
  refine ev_sipush (v := -20000) dX11_law_32 (by decide) ?_
  exact ev_iret dX11_law_35 rfl (⟨rfl, I2, rfl, hx2, h12⟩)
theorem k_law_31 {I : Nat → Nat → Int32} {J : Nat → Nat → Int64} {R : Nat → Nat → Value} {t : Nat → Nat} {d N : Nat} (hT : cT I t N) (hp : R 0 11 = .ref 31) (hq : R 0 12 = .ref 35) {vo vr : Int32} (hok : (sFin N (rS4 t N)).1 = true) (h3 : ¬ I 39 3 = 0) (ho : ∀ I2, eC 35 I I2 → cS 35 I2 (rC t N) → Cal lyC (d + 66) hX3_firstStagger 4 [.ref 18, .ref 39, .ref 35] (I2, J, R) (fun r M' => r = some (.int vo) ∧ ∃ I3, M' = (I3, J, R) ∧ fC I2 I3 ∧ I3 3 = I2 3)) (hr : ∀ I2 I3, eC 35 I I2 → fC I2 I3 → Cal lyC (d + 66) hX3_firstStagger 4 [.ref 18, .ref 39, .ref 31] (I3, J, R) (fun r M' => r = some (.int vr) ∧ ∃ I4, M' = (I4, J, R) ∧ fC I3 I4 ∧ I4 3 = I3 3)) : Cal lyC (d + 67) hX11_law 4 [.ref 0] (I, J, R) (fun r M' => r = some (.int ((if vo < 0 then 12 else vo) - (if vr < 0 then 12 else vr))) ∧ ∃ I2 I4, M' = (ti_wr I4 3 1 (nI 2), ti_wl (ti_wl J 4 0 (if vo < 0 then 12 else vo).toInt64) 4 1 (if vr < 0 then 12 else vr).toInt64, R) ∧ eC 35 I I2 ∧ I2 1 1 = 0 ∧ cS 35 I2 (rC t N) ∧ (rS4 t N).2 ≤ min N 40 ∧ fC I2 I4 ∧ True) := by
  show Ev lyC (d + 67) hX11_law 0 [some (.ref 0), none, none, none] [] (I, J, R) _
  refine ev_st dX11_law_0 rfl rfl ?_
  refine ev_getR (v := .ref 35) dX11_law_1 fr_11_98 rfl rfl hq ?_
  refine ev_st dX11_law_4 rfl rfl ?_
  refine ev_getC dX11_law_5 fr_11_10 rfl rfl ?_
  refine ev_call dX11_law_8 rfl rfl mr_11_142 rfl rfl rfl (k_read_35 hT) ?_
  rintro _ _ ⟨e1, I2, rfl, hx2, h12, hS2, hle2⟩
  rw [if_pos hok] at e1
  subst e1
  show Ev lyC (d + 67) hX11_law 11 [some (.ref 0), none, none, none] [.int ((-1))] (I2, J, R) _
  refine ev_st (L' := [some (.ref 0), some (.int ((-1))), none, none]) dX11_law_11 rfl rfl ?_
  refine ev_st dX11_law_12 rfl rfl ?_
  refine ev_if_lt (t := 22) dX11_law_13 (by decide) (fun _ => ?_) (fun q => absurd q (by decide))
  refine ev_st dX11_law_22 rfl rfl ?_
  refine ev_getC dX11_law_23 fr_11_49 rfl rfl ?_
  refine ev_getI (v := I 39 3) dX11_law_26 fr_11_162 rfl rfl (congrFun (hx2 39 (by decide) (by decide) (by decide)) 3) ?_
  refine ev_if_ne (t := 36) (x := I 39 3) dX11_law_29 (by decide) (fun c_29 => ?_) (fun c_29 => ?_)
  · refine ev_st dX11_law_36 rfl rfl ?_
    refine ev_getC dX11_law_37 fr_11_65 rfl rfl ?_
    refine ev_st dX11_law_40 rfl rfl ?_
    refine ev_getC dX11_law_41 fr_11_49 rfl rfl ?_
    refine ev_st dX11_law_44 rfl rfl ?_
    refine ev_getR (v := .ref 35) dX11_law_45 fr_11_98 rfl rfl hq ?_
    refine ev_call dX11_law_48 rfl rfl mr_11_285 rfl rfl rfl (ho I2 hx2 hS2) ?_
    rintro _ _ ⟨rfl, I3, rfl, hf3, e33⟩
    show Ev lyC (d + 67) hX11_law 51 [some (.ref 0), some (.int ((-1))), none, none] [.int vo] (I3, J, R) _
    refine ev_call dX11_law_51 rfl rfl mr_11_389 rfl rfl rfl (k_c12 vo) ?_
    rintro _ _ ⟨rfl, rfl⟩
    show Ev lyC (d + 67) hX11_law 54 [some (.ref 0), some (.int ((-1))), none, none] [.int (if vo < 0 then 12 else vo)] (I3, J, R) _
    refine ev_st (L' := [some (.ref 0), some (.int ((-1))), some (.int (if vo < 0 then 12 else vo)), none]) dX11_law_54 rfl rfl ?_
    refine ev_st dX11_law_55 rfl rfl ?_
    refine ev_getC dX11_law_56 fr_11_65 rfl rfl ?_
    refine ev_st dX11_law_59 rfl rfl ?_
    refine ev_getC dX11_law_60 fr_11_49 rfl rfl ?_
    refine ev_st dX11_law_63 rfl rfl ?_
    refine ev_getR (v := .ref 31) dX11_law_64 fr_11_94 rfl rfl hp ?_
    refine ev_call dX11_law_67 rfl rfl mr_11_285 rfl rfl rfl (hr I2 I3 hx2 hf3) ?_
    rintro _ _ ⟨rfl, I4, rfl, hf4, e34⟩
    show Ev lyC (d + 67) hX11_law 70 [some (.ref 0), some (.int ((-1))), some (.int (if vo < 0 then 12 else vo)), none] [.int vr] (I4, J, R) _
    refine ev_call dX11_law_70 rfl rfl mr_11_389 rfl rfl rfl (k_c12 vr) ?_
    rintro _ _ ⟨rfl, rfl⟩
    show Ev lyC (d + 67) hX11_law 73 [some (.ref 0), some (.int ((-1))), some (.int (if vo < 0 then 12 else vo)), none] [.int (if vr < 0 then 12 else vr)] (I4, J, R) _
    refine ev_st (L' := [some (.ref 0), some (.int ((-1))), some (.int (if vo < 0 then 12 else vo)), some (.int (if vr < 0 then 12 else vr))]) dX11_law_73 rfl rfl ?_
    refine ev_st dX11_law_74 rfl rfl ?_
    refine ev_getC dX11_law_75 fr_11_19 rfl rfl ?_
    refine ev_st dX11_law_78 rfl rfl ?_
    refine ev_st dX11_law_79 rfl rfl ?_
    refine ev_st dX11_law_80 rfl rfl ?_
    refine ev_st dX11_law_81 rfl rfl ?_
    refine ev_call dX11_law_82 rfl rfl mr_11_205 rfl rfl rfl (k_tell2 ((if vo < 0 then 12 else vo).toInt64) ((if vr < 0 then 12 else vr).toInt64)) ?_
    rintro _ _ ⟨rfl, rfl⟩
    show Ev lyC (d + 67) hX11_law 85 [some (.ref 0), some (.int ((-1))), some (.int (if vo < 0 then 12 else vo)), some (.int (if vr < 0 then 12 else vr))] [] (ti_wr I4 3 1 (nI 2), ti_wl (ti_wl J 4 0 ((if vo < 0 then 12 else vo).toInt64)) 4 1 ((if vr < 0 then 12 else vr).toInt64), R) _
    refine ev_st dX11_law_85 rfl rfl ?_
    refine ev_st dX11_law_86 rfl rfl ?_
    refine ev_st dX11_law_87 rfl rfl ?_
    exact ev_iret dX11_law_88 rfl (⟨rfl, I2, I4, rfl, hx2, h12, hS2, hle2, hf3.tr hf4, trivial⟩)
  · exact absurd c_29 h3
theorem k_rule0_35 {I : Nat → Nat → Int32} {J : Nat → Nat → Int64} {R : Nat → Nat → Value} {t : Nat → Nat} {d N : Nat} (hT : cT I t N) (hp : R 0 11 = .ref 35) (hq : R 0 12 = .ref 31) (hok : ¬ (sFin N (rS4 t N)).1 = true) : Cal lyC (d + 67) hX11_rule 3 [.ref 0] (I, J, R) (fun r M' => r = some (.int (-1 - nI (rS4 t N).2)) ∧ ∃ I3, M' = (I3, J, R) ∧ eC 31 I I3 ∧ I3 1 1 = 0) := by
  show Ev lyC (d + 67) hX11_rule 0 [some (.ref 0), none, none] [] (I, J, R) _
  refine ev_st dX11_rule_0 rfl rfl ?_
  refine ev_getR (v := .ref 31) dX11_rule_1 fr_11_98 rfl rfl hq ?_
  refine ev_st dX11_rule_4 rfl rfl ?_
  refine ev_getC dX11_rule_5 fr_11_10 rfl rfl ?_
  refine ev_call dX11_rule_8 rfl rfl mr_11_142 rfl rfl rfl (k_read_31 hT) ?_
  rintro _ _ ⟨e1, I2, rfl, hx2, h12, hS2, hle2⟩
  rw [if_neg hok, sFin_2] at e1
  subst e1
  show Ev lyC (d + 67) hX11_rule 11 [some (.ref 0), none, none] [.int (nI ((rS4 t N).2))] (I2, J, R) _
  refine ev_st (L' := [some (.ref 0), some (.int (nI ((rS4 t N).2))), none]) dX11_rule_11 rfl rfl ?_
  refine ev_st dX11_rule_12 rfl rfl ?_
  refine ev_if_ltN (t := 20) (a := (rS4 t N).2) dX11_rule_13 (by decide) rfl (by omega) ?_
  refine ev_iconst (v := -1) dX11_rule_16 (by decide) ?_
  refine ev_st dX11_rule_17 rfl rfl ?_
  refine ev_st dX11_rule_18 rfl rfl ?_
  exact ev_iret dX11_rule_19 rfl (⟨rfl, I2, rfl, hx2, h12⟩)
theorem k_rule1_35 {I : Nat → Nat → Int32} {J : Nat → Nat → Int64} {R : Nat → Nat → Value} {t : Nat → Nat} {d N : Nat} (hT : cT I t N) (hp : R 0 11 = .ref 35) (hq : R 0 12 = .ref 31) (hok : (sFin N (rS4 t N)).1 = true) : Cal lyC (d + 67) hX11_rule 3 [.ref 0] (I, J, R) (fun r M' => r = some (.int 0) ∧ ∃ I3, M' = (I3, J, ti_wf (ti_wf R 0 11 (.ref 31)) 0 12 (.ref 35)) ∧ eC 31 I I3 ∧ I3 1 1 = 0 ∧ cS 31 I3 (rC t N) ∧ (rS4 t N).2 ≤ min N 40) := by
  show Ev lyC (d + 67) hX11_rule 0 [some (.ref 0), none, none] [] (I, J, R) _
  refine ev_st dX11_rule_0 rfl rfl ?_
  refine ev_getR (v := .ref 31) dX11_rule_1 fr_11_98 rfl rfl hq ?_
  refine ev_st dX11_rule_4 rfl rfl ?_
  refine ev_getC dX11_rule_5 fr_11_10 rfl rfl ?_
  refine ev_call dX11_rule_8 rfl rfl mr_11_142 rfl rfl rfl (k_read_31 hT) ?_
  rintro _ _ ⟨e1, I2, rfl, hx2, h12, hS2, hle2⟩
  rw [if_pos hok] at e1
  subst e1
  show Ev lyC (d + 67) hX11_rule 11 [some (.ref 0), none, none] [.int ((-1))] (I2, J, R) _
  refine ev_st (L' := [some (.ref 0), some (.int ((-1))), none]) dX11_rule_11 rfl rfl ?_
  refine ev_st dX11_rule_12 rfl rfl ?_
  refine ev_if_lt (t := 20) dX11_rule_13 (by decide) (fun _ => ?_) (fun q => absurd q (by decide))
  refine ev_st dX11_rule_20 rfl rfl ?_
  refine ev_getR (v := .ref 35) dX11_rule_21 fr_11_94 rfl rfl hp ?_
  refine ev_st (L' := [some (.ref 0), some (.int ((-1))), some (.ref 35)]) dX11_rule_24 rfl rfl ?_
  refine ev_st dX11_rule_25 rfl rfl ?_
  refine ev_st dX11_rule_26 rfl rfl ?_
  refine ev_getR (v := .ref 31) dX11_rule_27 fr_11_98 rfl rfl hq ?_
  refine ev_putR dX11_rule_30 fr_11_94 rfl rfl ?_
  refine ev_st dX11_rule_33 rfl rfl ?_
  refine ev_st dX11_rule_34 rfl rfl ?_
  refine ev_putR dX11_rule_35 fr_11_98 rfl rfl ?_
  refine ev_iconst (v := 0) dX11_rule_38 (by decide) ?_
  exact ev_iret dX11_rule_39 rfl (⟨rfl, I2, rfl, hx2, h12, hS2, hle2⟩)
theorem k_law0_35 {I : Nat → Nat → Int32} {J : Nat → Nat → Int64} {R : Nat → Nat → Value} {t : Nat → Nat} {d N : Nat} (hT : cT I t N) (hp : R 0 11 = .ref 35) (hq : R 0 12 = .ref 31) (hok : ¬ (sFin N (rS4 t N)).1 = true) : Cal lyC (d + 67) hX11_law 4 [.ref 0] (I, J, R) (fun r M' => r = some (.int (-10000 - nI (rS4 t N).2)) ∧ ∃ I3, M' = (I3, J, R) ∧ eC 31 I I3 ∧ I3 1 1 = 0) := by
  show Ev lyC (d + 67) hX11_law 0 [some (.ref 0), none, none, none] [] (I, J, R) _
  refine ev_st dX11_law_0 rfl rfl ?_
  refine ev_getR (v := .ref 31) dX11_law_1 fr_11_98 rfl rfl hq ?_
  refine ev_st dX11_law_4 rfl rfl ?_
  refine ev_getC dX11_law_5 fr_11_10 rfl rfl ?_
  refine ev_call dX11_law_8 rfl rfl mr_11_142 rfl rfl rfl (k_read_31 hT) ?_
  rintro _ _ ⟨e1, I2, rfl, hx2, h12, hS2, hle2⟩
  rw [if_neg hok, sFin_2] at e1
  subst e1
  show Ev lyC (d + 67) hX11_law 11 [some (.ref 0), none, none, none] [.int (nI ((rS4 t N).2))] (I2, J, R) _
  refine ev_st (L' := [some (.ref 0), some (.int (nI ((rS4 t N).2))), none, none]) dX11_law_11 rfl rfl ?_
  refine ev_st dX11_law_12 rfl rfl ?_
  refine ev_if_ltN (t := 22) (a := (rS4 t N).2) dX11_law_13 (by decide) rfl (by omega) ?_
  refine ev_sipush (v := -10000) dX11_law_16 (by decide) ?_
  refine ev_st dX11_law_19 rfl rfl ?_
  refine ev_st dX11_law_20 rfl rfl ?_
  exact ev_iret dX11_law_21 rfl (⟨rfl, I2, rfl, hx2, h12⟩)
theorem k_law2_35 {I : Nat → Nat → Int32} {J : Nat → Nat → Int64} {R : Nat → Nat → Value} {t : Nat → Nat} {d N : Nat} (hT : cT I t N) (hp : R 0 11 = .ref 35) (hq : R 0 12 = .ref 31) (hok : (sFin N (rS4 t N)).1 = true) (h3 : I 39 3 = 0) : Cal lyC (d + 67) hX11_law 4 [.ref 0] (I, J, R) (fun r M' => r = some (.int (-20000)) ∧ ∃ I3, M' = (I3, J, R) ∧ eC 31 I I3 ∧ I3 1 1 = 0) := by
  show Ev lyC (d + 67) hX11_law 0 [some (.ref 0), none, none, none] [] (I, J, R) _
  refine ev_st dX11_law_0 rfl rfl ?_
  refine ev_getR (v := .ref 31) dX11_law_1 fr_11_98 rfl rfl hq ?_
  refine ev_st dX11_law_4 rfl rfl ?_
  refine ev_getC dX11_law_5 fr_11_10 rfl rfl ?_
  refine ev_call dX11_law_8 rfl rfl mr_11_142 rfl rfl rfl (k_read_31 hT) ?_
  rintro _ _ ⟨e1, I2, rfl, hx2, h12, hS2, hle2⟩
  rw [if_pos hok] at e1
  subst e1
  show Ev lyC (d + 67) hX11_law 11 [some (.ref 0), none, none, none] [.int ((-1))] (I2, J, R) _
  refine ev_st (L' := [some (.ref 0), some (.int ((-1))), none, none]) dX11_law_11 rfl rfl ?_
  refine ev_st dX11_law_12 rfl rfl ?_
  refine ev_if_lt (t := 22) dX11_law_13 (by decide) (fun _ => ?_) (fun q => absurd q (by decide))
  refine ev_st dX11_law_22 rfl rfl ?_
  refine ev_getC dX11_law_23 fr_11_49 rfl rfl ?_
  refine ev_getI (v := 0) dX11_law_26 fr_11_162 rfl rfl ((congrFun (hx2 39 (by decide) (by decide) (by decide)) 3).trans h3) ?_
  refine ev_if_ne (t := 36) dX11_law_29 (by decide) (fun q => absurd q (by decide)) (fun _ => ?_)
  refine ev_sipush (v := -20000) dX11_law_32 (by decide) ?_
  exact ev_iret dX11_law_35 rfl (⟨rfl, I2, rfl, hx2, h12⟩)
theorem k_law_35 {I : Nat → Nat → Int32} {J : Nat → Nat → Int64} {R : Nat → Nat → Value} {t : Nat → Nat} {d N : Nat} (hT : cT I t N) (hp : R 0 11 = .ref 35) (hq : R 0 12 = .ref 31) {vo vr : Int32} (hok : (sFin N (rS4 t N)).1 = true) (h3 : ¬ I 39 3 = 0) (ho : ∀ I2, eC 31 I I2 → cS 31 I2 (rC t N) → Cal lyC (d + 66) hX3_firstStagger 4 [.ref 18, .ref 39, .ref 31] (I2, J, R) (fun r M' => r = some (.int vo) ∧ ∃ I3, M' = (I3, J, R) ∧ fC I2 I3 ∧ I3 3 = I2 3)) (hr : ∀ I2 I3, eC 31 I I2 → fC I2 I3 → Cal lyC (d + 66) hX3_firstStagger 4 [.ref 18, .ref 39, .ref 35] (I3, J, R) (fun r M' => r = some (.int vr) ∧ ∃ I4, M' = (I4, J, R) ∧ fC I3 I4 ∧ I4 3 = I3 3)) : Cal lyC (d + 67) hX11_law 4 [.ref 0] (I, J, R) (fun r M' => r = some (.int ((if vo < 0 then 12 else vo) - (if vr < 0 then 12 else vr))) ∧ ∃ I2 I4, M' = (ti_wr I4 3 1 (nI 2), ti_wl (ti_wl J 4 0 (if vo < 0 then 12 else vo).toInt64) 4 1 (if vr < 0 then 12 else vr).toInt64, R) ∧ eC 31 I I2 ∧ I2 1 1 = 0 ∧ cS 31 I2 (rC t N) ∧ (rS4 t N).2 ≤ min N 40 ∧ fC I2 I4 ∧ True) := by
  show Ev lyC (d + 67) hX11_law 0 [some (.ref 0), none, none, none] [] (I, J, R) _
  refine ev_st dX11_law_0 rfl rfl ?_
  refine ev_getR (v := .ref 31) dX11_law_1 fr_11_98 rfl rfl hq ?_
  refine ev_st dX11_law_4 rfl rfl ?_
  refine ev_getC dX11_law_5 fr_11_10 rfl rfl ?_
  refine ev_call dX11_law_8 rfl rfl mr_11_142 rfl rfl rfl (k_read_31 hT) ?_
  rintro _ _ ⟨e1, I2, rfl, hx2, h12, hS2, hle2⟩
  rw [if_pos hok] at e1
  subst e1
  show Ev lyC (d + 67) hX11_law 11 [some (.ref 0), none, none, none] [.int ((-1))] (I2, J, R) _
  refine ev_st (L' := [some (.ref 0), some (.int ((-1))), none, none]) dX11_law_11 rfl rfl ?_
  refine ev_st dX11_law_12 rfl rfl ?_
  refine ev_if_lt (t := 22) dX11_law_13 (by decide) (fun _ => ?_) (fun q => absurd q (by decide))
  refine ev_st dX11_law_22 rfl rfl ?_
  refine ev_getC dX11_law_23 fr_11_49 rfl rfl ?_
  refine ev_getI (v := I 39 3) dX11_law_26 fr_11_162 rfl rfl (congrFun (hx2 39 (by decide) (by decide) (by decide)) 3) ?_
  refine ev_if_ne (t := 36) (x := I 39 3) dX11_law_29 (by decide) (fun c_29 => ?_) (fun c_29 => ?_)
  · refine ev_st dX11_law_36 rfl rfl ?_
    refine ev_getC dX11_law_37 fr_11_65 rfl rfl ?_
    refine ev_st dX11_law_40 rfl rfl ?_
    refine ev_getC dX11_law_41 fr_11_49 rfl rfl ?_
    refine ev_st dX11_law_44 rfl rfl ?_
    refine ev_getR (v := .ref 31) dX11_law_45 fr_11_98 rfl rfl hq ?_
    refine ev_call dX11_law_48 rfl rfl mr_11_285 rfl rfl rfl (ho I2 hx2 hS2) ?_
    rintro _ _ ⟨rfl, I3, rfl, hf3, e33⟩
    show Ev lyC (d + 67) hX11_law 51 [some (.ref 0), some (.int ((-1))), none, none] [.int vo] (I3, J, R) _
    refine ev_call dX11_law_51 rfl rfl mr_11_389 rfl rfl rfl (k_c12 vo) ?_
    rintro _ _ ⟨rfl, rfl⟩
    show Ev lyC (d + 67) hX11_law 54 [some (.ref 0), some (.int ((-1))), none, none] [.int (if vo < 0 then 12 else vo)] (I3, J, R) _
    refine ev_st (L' := [some (.ref 0), some (.int ((-1))), some (.int (if vo < 0 then 12 else vo)), none]) dX11_law_54 rfl rfl ?_
    refine ev_st dX11_law_55 rfl rfl ?_
    refine ev_getC dX11_law_56 fr_11_65 rfl rfl ?_
    refine ev_st dX11_law_59 rfl rfl ?_
    refine ev_getC dX11_law_60 fr_11_49 rfl rfl ?_
    refine ev_st dX11_law_63 rfl rfl ?_
    refine ev_getR (v := .ref 35) dX11_law_64 fr_11_94 rfl rfl hp ?_
    refine ev_call dX11_law_67 rfl rfl mr_11_285 rfl rfl rfl (hr I2 I3 hx2 hf3) ?_
    rintro _ _ ⟨rfl, I4, rfl, hf4, e34⟩
    show Ev lyC (d + 67) hX11_law 70 [some (.ref 0), some (.int ((-1))), some (.int (if vo < 0 then 12 else vo)), none] [.int vr] (I4, J, R) _
    refine ev_call dX11_law_70 rfl rfl mr_11_389 rfl rfl rfl (k_c12 vr) ?_
    rintro _ _ ⟨rfl, rfl⟩
    show Ev lyC (d + 67) hX11_law 73 [some (.ref 0), some (.int ((-1))), some (.int (if vo < 0 then 12 else vo)), none] [.int (if vr < 0 then 12 else vr)] (I4, J, R) _
    refine ev_st (L' := [some (.ref 0), some (.int ((-1))), some (.int (if vo < 0 then 12 else vo)), some (.int (if vr < 0 then 12 else vr))]) dX11_law_73 rfl rfl ?_
    refine ev_st dX11_law_74 rfl rfl ?_
    refine ev_getC dX11_law_75 fr_11_19 rfl rfl ?_
    refine ev_st dX11_law_78 rfl rfl ?_
    refine ev_st dX11_law_79 rfl rfl ?_
    refine ev_st dX11_law_80 rfl rfl ?_
    refine ev_st dX11_law_81 rfl rfl ?_
    refine ev_call dX11_law_82 rfl rfl mr_11_205 rfl rfl rfl (k_tell2 ((if vo < 0 then 12 else vo).toInt64) ((if vr < 0 then 12 else vr).toInt64)) ?_
    rintro _ _ ⟨rfl, rfl⟩
    show Ev lyC (d + 67) hX11_law 85 [some (.ref 0), some (.int ((-1))), some (.int (if vo < 0 then 12 else vo)), some (.int (if vr < 0 then 12 else vr))] [] (ti_wr I4 3 1 (nI 2), ti_wl (ti_wl J 4 0 ((if vo < 0 then 12 else vo).toInt64)) 4 1 ((if vr < 0 then 12 else vr).toInt64), R) _
    refine ev_st dX11_law_85 rfl rfl ?_
    refine ev_st dX11_law_86 rfl rfl ?_
    refine ev_st dX11_law_87 rfl rfl ?_
    exact ev_iret dX11_law_88 rfl (⟨rfl, I2, I4, rfl, hx2, h12, hS2, hle2, hf3.tr hf4, trivial⟩)
  · exact absurd c_29 h3
