/-! the class: calls that hand on; sayings as sets -/
theorem k_fewest {I : Nat → Nat → Int32} {J : Nat → Nat → Int64} {R : Nat → Nat → Value} {d : Nat} {p : Nat} (hp : R 0 11 = .ref p) {Q : Option Value → TM → Prop} (hact : Cal lyC d hX8_smallest 6 [.ref 22, .ref 39, .ref p] (I, J, R) (fun r M' => (∃ v, r = some (.int v)) ∧ Q r M')) : Cal lyC (d + 1) hX11_fewest 1 [.ref 0] (I, J, R) Q := by
  show Ev lyC (d + 1) hX11_fewest 0 [some (.ref 0)] [] (I, J, R) _
  refine ev_st dX11_fewest_0 rfl rfl ?_
  refine ev_getC dX11_fewest_1 fr_11_74 rfl rfl ?_
  refine ev_st dX11_fewest_4 rfl rfl ?_
  refine ev_getC dX11_fewest_5 fr_11_49 rfl rfl ?_
  refine ev_st dX11_fewest_8 rfl rfl ?_
  refine ev_getR (v := .ref p) dX11_fewest_9 fr_11_94 rfl rfl hp ?_
  refine ev_call dX11_fewest_12 rfl rfl mr_11_304 rfl rfl rfl (hact) ?_
  rintro _ ⟨I3, J3, R3⟩ ⟨⟨vr, rfl⟩, hq⟩
  show Ev lyC (d + 1) hX11_fewest 15 [some (.ref 0)] [.int vr] (I3, J3, R3) _
  exact ev_iret dX11_fewest_15 rfl (hq)
theorem k_change {I : Nat → Nat → Int32} {J : Nat → Nat → Int64} {R : Nat → Nat → Value} {d : Nat} {p : Nat} (hp : R 0 11 = .ref p) {Q : Option Value → TM → Prop} (hact : Cal lyC d hX8_bestChange 7 [.ref 22, .ref 39, .ref p] (I, J, R) (fun r M' => (∃ v, r = some (.int v)) ∧ Q r M')) : Cal lyC (d + 1) hX11_change 1 [.ref 0] (I, J, R) Q := by
  show Ev lyC (d + 1) hX11_change 0 [some (.ref 0)] [] (I, J, R) _
  refine ev_st dX11_change_0 rfl rfl ?_
  refine ev_getC dX11_change_1 fr_11_74 rfl rfl ?_
  refine ev_st dX11_change_4 rfl rfl ?_
  refine ev_getC dX11_change_5 fr_11_49 rfl rfl ?_
  refine ev_st dX11_change_8 rfl rfl ?_
  refine ev_getR (v := .ref p) dX11_change_9 fr_11_94 rfl rfl hp ?_
  refine ev_call dX11_change_12 rfl rfl mr_11_307 rfl rfl rfl (hact) ?_
  rintro _ ⟨I3, J3, R3⟩ ⟨⟨vr, rfl⟩, hq⟩
  show Ev lyC (d + 1) hX11_change 15 [some (.ref 0)] [.int vr] (I3, J3, R3) _
  exact ev_iret dX11_change_15 rfl (hq)
theorem k_props {I : Nat → Nat → Int32} {J : Nat → Nat → Int64} {R : Nat → Nat → Value} {d : Nat} {p : Nat} (hp : R 0 11 = .ref p) {Q : Option Value → TM → Prop} (hact : Cal lyC d hX8_needed 5 [.ref 22, .ref 39, .ref p] (I, J, R) (fun r M' => (∃ v, r = some (.int v)) ∧ Q r M')) : Cal lyC (d + 1) hX11_props 1 [.ref 0] (I, J, R) Q := by
  show Ev lyC (d + 1) hX11_props 0 [some (.ref 0)] [] (I, J, R) _
  refine ev_st dX11_props_0 rfl rfl ?_
  refine ev_getC dX11_props_1 fr_11_74 rfl rfl ?_
  refine ev_st dX11_props_4 rfl rfl ?_
  refine ev_getC dX11_props_5 fr_11_49 rfl rfl ?_
  refine ev_st dX11_props_8 rfl rfl ?_
  refine ev_getR (v := .ref p) dX11_props_9 fr_11_94 rfl rfl hp ?_
  refine ev_call dX11_props_12 rfl rfl mr_11_310 rfl rfl rfl (hact) ?_
  rintro _ ⟨I3, J3, R3⟩ ⟨⟨vr, rfl⟩, hq⟩
  show Ev lyC (d + 1) hX11_props 15 [some (.ref 0)] [.int vr] (I3, J3, R3) _
  exact ev_iret dX11_props_15 rfl (hq)
theorem k_slant {I : Nat → Nat → Int32} {J : Nat → Nat → Int64} {R : Nat → Nat → Value} {d : Nat} {Q : Option Value → TM → Prop} (hact : Cal lyC d hX8_mostUneven 6 [.ref 22, .ref 39] (I, J, R) (fun r M' => (∃ v, r = some (.int v)) ∧ Q r M')) : Cal lyC (d + 1) hX11_slant 1 [.ref 0] (I, J, R) Q := by
  show Ev lyC (d + 1) hX11_slant 0 [some (.ref 0)] [] (I, J, R) _
  refine ev_st dX11_slant_0 rfl rfl ?_
  refine ev_getC dX11_slant_1 fr_11_74 rfl rfl ?_
  refine ev_st dX11_slant_4 rfl rfl ?_
  refine ev_getC dX11_slant_5 fr_11_49 rfl rfl ?_
  refine ev_call dX11_slant_8 rfl rfl mr_11_316 rfl rfl rfl (hact) ?_
  rintro _ ⟨I3, J3, R3⟩ ⟨⟨vr, rfl⟩, hq⟩
  show Ev lyC (d + 1) hX11_slant 11 [some (.ref 0)] [.int vr] (I3, J3, R3) _
  exact ev_iret dX11_slant_11 rfl (hq)
theorem k_could {I : Nat → Nat → Int32} {J : Nat → Nat → Int64} {R : Nat → Nat → Value} {d : Nat} {Q : Option Value → TM → Prop} (hact : Cal lyC d hX3_sayable 7 [.ref 18, .ref 39] (I, J, R) (fun r M' => (∃ v, r = some (.int v)) ∧ Q r M')) : Cal lyC (d + 1) hX11_could 1 [.ref 0] (I, J, R) Q := by
  show Ev lyC (d + 1) hX11_could 0 [some (.ref 0)] [] (I, J, R) _
  refine ev_st dX11_could_0 rfl rfl ?_
  refine ev_getC dX11_could_1 fr_11_65 rfl rfl ?_
  refine ev_st dX11_could_4 rfl rfl ?_
  refine ev_getC dX11_could_5 fr_11_49 rfl rfl ?_
  refine ev_call dX11_could_8 rfl rfl mr_11_298 rfl rfl rfl (hact) ?_
  rintro _ ⟨I3, J3, R3⟩ ⟨⟨vr, rfl⟩, hq⟩
  show Ev lyC (d + 1) hX11_could 11 [some (.ref 0)] [.int vr] (I3, J3, R3) _
  exact ev_iret dX11_could_11 rfl (hq)
theorem k_best {I : Nat → Nat → Int32} {J : Nat → Nat → Int64} {R : Nat → Nat → Value} {d : Nat} {Q : Option Value → TM → Prop} (hact : Cal lyC d hX1_mostLightening 9 [.ref 23, .int (I 39 5)] (I, J, R) (fun r M' => (∃ v, r = some (.int v)) ∧ Q r M')) : Cal lyC (d + 1) hX11_best 1 [.ref 0] (I, J, R) Q := by
  show Ev lyC (d + 1) hX11_best 0 [some (.ref 0)] [] (I, J, R) _
  refine ev_st dX11_best_0 rfl rfl ?_
  refine ev_getC dX11_best_1 fr_11_83 rfl rfl ?_
  refine ev_st dX11_best_4 rfl rfl ?_
  refine ev_getC dX11_best_5 fr_11_49 rfl rfl ?_
  refine ev_getI (v := I 39 5) dX11_best_8 fr_11_186 rfl rfl rfl ?_
  refine ev_call dX11_best_11 rfl rfl mr_11_337 rfl rfl rfl (hact) ?_
  rintro _ ⟨I3, J3, R3⟩ ⟨⟨vr, rfl⟩, hq⟩
  show Ev lyC (d + 1) hX11_best 14 [some (.ref 0)] [.int vr] (I3, J3, R3) _
  exact ev_iret dX11_best_14 rfl (hq)
theorem k_forget {I : Nat → Nat → Int32} {J : Nat → Nat → Int64} {R : Nat → Nat → Value} {d : Nat} {Q : Option Value → TM → Prop} (hact : Cal lyC d hX1_forgetOldWalks 2 [.ref 23] (I, J, R) (fun r M' => (∃ v, r = some (.int v)) ∧ Q r M')) : Cal lyC (d + 1) hX11_forget 1 [.ref 0] (I, J, R) Q := by
  show Ev lyC (d + 1) hX11_forget 0 [some (.ref 0)] [] (I, J, R) _
  refine ev_st dX11_forget_0 rfl rfl ?_
  refine ev_getC dX11_forget_1 fr_11_83 rfl rfl ?_
  refine ev_call dX11_forget_4 rfl rfl mr_11_344 rfl rfl rfl (hact) ?_
  rintro _ ⟨I3, J3, R3⟩ ⟨⟨vr, rfl⟩, hq⟩
  show Ev lyC (d + 1) hX11_forget 7 [some (.ref 0)] [.int vr] (I3, J3, R3) _
  exact ev_iret dX11_forget_7 rfl (hq)
theorem k_worlds {I : Nat → Nat → Int32} {J : Nat → Nat → Int64} {R : Nat → Nat → Value} {d : Nat} {Q : Option Value → TM → Prop} (hact : Cal lyC d hX1_countWorlds 1 [.ref 23] (I, J, R) (fun r M' => (∃ v, r = some (.int v)) ∧ Q r M')) : Cal lyC (d + 1) hX11_worlds 1 [.ref 0] (I, J, R) Q := by
  show Ev lyC (d + 1) hX11_worlds 0 [some (.ref 0)] [] (I, J, R) _
  refine ev_st dX11_worlds_0 rfl rfl ?_
  refine ev_getC dX11_worlds_1 fr_11_83 rfl rfl ?_
  refine ev_call dX11_worlds_4 rfl rfl mr_11_347 rfl rfl rfl (hact) ?_
  rintro _ ⟨I3, J3, R3⟩ ⟨⟨vr, rfl⟩, hq⟩
  show Ev lyC (d + 1) hX11_worlds 7 [some (.ref 0)] [.int vr] (I3, J3, R3) _
  exact ev_iret dX11_worlds_7 rfl (hq)
theorem k_sure {I : Nat → Nat → Int32} {J : Nat → Nat → Int64} {R : Nat → Nat → Value} {d : Nat} {Q : Option Value → TM → Prop} (hact : Cal lyC d hX1_trueInAll 1 [.ref 23] (I, J, R) (fun r M' => (∃ v, r = some (.int v)) ∧ Q r M')) : Cal lyC (d + 1) hX11_sure 1 [.ref 0] (I, J, R) Q := by
  show Ev lyC (d + 1) hX11_sure 0 [some (.ref 0)] [] (I, J, R) _
  refine ev_st dX11_sure_0 rfl rfl ?_
  refine ev_getC dX11_sure_1 fr_11_83 rfl rfl ?_
  refine ev_call dX11_sure_4 rfl rfl mr_11_350 rfl rfl rfl (hact) ?_
  rintro _ ⟨I3, J3, R3⟩ ⟨⟨vr, rfl⟩, hq⟩
  show Ev lyC (d + 1) hX11_sure 7 [some (.ref 0)] [.int vr] (I3, J3, R3) _
  exact ev_iret dX11_sure_7 rfl (hq)
theorem k_ask {I : Nat → Nat → Int32} {J : Nat → Nat → Int64} {R : Nat → Nat → Value} {d : Nat} {Q : Option Value → TM → Prop} (hact : Cal lyC d hX1_bestQuestion 5 [.ref 23] (I, J, R) (fun r M' => (∃ v, r = some (.int v)) ∧ Q r M')) : Cal lyC (d + 1) hX11_ask 1 [.ref 0] (I, J, R) Q := by
  show Ev lyC (d + 1) hX11_ask 0 [some (.ref 0)] [] (I, J, R) _
  refine ev_st dX11_ask_0 rfl rfl ?_
  refine ev_getC dX11_ask_1 fr_11_83 rfl rfl ?_
  refine ev_call dX11_ask_4 rfl rfl mr_11_353 rfl rfl rfl (hact) ?_
  rintro _ ⟨I3, J3, R3⟩ ⟨⟨vr, rfl⟩, hq⟩
  show Ev lyC (d + 1) hX11_ask 7 [some (.ref 0)] [.int vr] (I3, J3, R3) _
  exact ev_iret dX11_ask_7 rfl (hq)
theorem k_unsaid {I : Nat → Nat → Int32} {J : Nat → Nat → Int64} {R : Nat → Nat → Value} {d : Nat} {Q : Option Value → TM → Prop} (hact : Cal lyC d hX1_takeClaimsBack 2 [.ref 23] (I, J, R) (fun r M' => (∃ v, r = some (.int v)) ∧ Q r M')) : Cal lyC (d + 1) hX11_unsaid 1 [.ref 0] (I, J, R) Q := by
  show Ev lyC (d + 1) hX11_unsaid 0 [some (.ref 0)] [] (I, J, R) _
  refine ev_st dX11_unsaid_0 rfl rfl ?_
  refine ev_getC dX11_unsaid_1 fr_11_83 rfl rfl ?_
  refine ev_call dX11_unsaid_4 rfl rfl mr_11_370 rfl rfl rfl (hact) ?_
  rintro _ ⟨I3, J3, R3⟩ ⟨⟨vr, rfl⟩, hq⟩
  show Ev lyC (d + 1) hX11_unsaid 7 [some (.ref 0)] [.int vr] (I3, J3, R3) _
  exact ev_iret dX11_unsaid_7 rfl (hq)
theorem k_believe {I : Nat → Nat → Int32} {J : Nat → Nat → Int64} {R : Nat → Nat → Value} {d : Nat} {Q : Option Value → TM → Prop} (hact : Cal lyC d hX1_fewestDisbelieved 3 [.ref 23] (I, J, R) (fun r M' => (∃ v, r = some (.int v)) ∧ Q r M')) : Cal lyC (d + 1) hX11_believe 1 [.ref 0] (I, J, R) Q := by
  show Ev lyC (d + 1) hX11_believe 0 [some (.ref 0)] [] (I, J, R) _
  refine ev_st dX11_believe_0 rfl rfl ?_
  refine ev_getC dX11_believe_1 fr_11_83 rfl rfl ?_
  refine ev_call dX11_believe_4 rfl rfl mr_11_373 rfl rfl rfl (hact) ?_
  rintro _ ⟨I3, J3, R3⟩ ⟨⟨vr, rfl⟩, hq⟩
  show Ev lyC (d + 1) hX11_believe 7 [some (.ref 0)] [.int vr] (I3, J3, R3) _
  exact ev_iret dX11_believe_7 rfl (hq)
theorem k_first0 {I : Nat → Nat → Int32} {J : Nat → Nat → Int64} {R : Nat → Nat → Value} {d : Nat} (h0 : I 39 3 = 0) : Cal lyC d hX11_first 1 [.ref 0] (I, J, R) (fun r M' => r = some (.int (-3)) ∧ M' = (I, J, R)) := by
  show Ev lyC d hX11_first 0 [some (.ref 0)] [] (I, J, R) _
  refine ev_st dX11_first_0 rfl rfl ?_
  refine ev_getC dX11_first_1 fr_11_49 rfl rfl ?_
  refine ev_getI (v := 0) dX11_first_4 fr_11_162 rfl rfl h0 ?_
  refine ev_if_ne (t := 15) dX11_first_7 (by decide) (fun q => absurd q (by decide)) (fun _ => ?_)
  refine ev_bipush (v := -3) dX11_first_10 (by decide) ?_
  refine ev_goto (t := 30) dX11_first_12 (by decide) ?_
  exact ev_iret dX11_first_30 rfl (⟨rfl, rfl⟩)
theorem k_first {I : Nat → Nat → Int32} {J : Nat → Nat → Int64} {R : Nat → Nat → Value} {d : Nat} (h0 : ¬ I 39 3 = 0) {p : Nat} (hp : R 0 11 = .ref p) {Q : Option Value → TM → Prop} (hact : Cal lyC d hX3_firstStagger 4 [.ref 18, .ref 39, .ref p] (I, J, R) (fun r M' => (∃ v, r = some (.int v)) ∧ Q r M')) : Cal lyC (d + 1) hX11_first 1 [.ref 0] (I, J, R) Q := by
  show Ev lyC (d + 1) hX11_first 0 [some (.ref 0)] [] (I, J, R) _
  refine ev_st dX11_first_0 rfl rfl ?_
  refine ev_getC dX11_first_1 fr_11_49 rfl rfl ?_
  refine ev_getI (v := I 39 3) dX11_first_4 fr_11_162 rfl rfl rfl ?_
  refine ev_if_ne (t := 15) (x := I 39 3) dX11_first_7 (by decide) (fun c_7 => ?_) (fun c_7 => ?_)
  · refine ev_st dX11_first_15 rfl rfl ?_
    refine ev_getC dX11_first_16 fr_11_65 rfl rfl ?_
    refine ev_st dX11_first_19 rfl rfl ?_
    refine ev_getC dX11_first_20 fr_11_49 rfl rfl ?_
    refine ev_st dX11_first_23 rfl rfl ?_
    refine ev_getR (v := .ref p) dX11_first_24 fr_11_94 rfl rfl hp ?_
    refine ev_call dX11_first_27 rfl rfl mr_11_285 rfl rfl rfl (hact) ?_
    rintro _ ⟨I3, J3, R3⟩ ⟨⟨vr, rfl⟩, hq⟩
    show Ev lyC (d + 1) hX11_first 30 [some (.ref 0)] [.int vr] (I3, J3, R3) _
    exact ev_iret dX11_first_30 rfl (hq)
  · exact absurd c_7 h0
theorem k_bears0 {I : Nat → Nat → Int32} {J : Nat → Nat → Int64} {R : Nat → Nat → Value} {d : Nat} (h0 : I 39 3 = 0) : Cal lyC d hX11_bears 1 [.ref 0] (I, J, R) (fun r M' => r = some (.int (-3)) ∧ M' = (I, J, R)) := by
  show Ev lyC d hX11_bears 0 [some (.ref 0)] [] (I, J, R) _
  refine ev_st dX11_bears_0 rfl rfl ?_
  refine ev_getC dX11_bears_1 fr_11_49 rfl rfl ?_
  refine ev_getI (v := 0) dX11_bears_4 fr_11_162 rfl rfl h0 ?_
  refine ev_if_ne (t := 15) dX11_bears_7 (by decide) (fun q => absurd q (by decide)) (fun _ => ?_)
  refine ev_bipush (v := -3) dX11_bears_10 (by decide) ?_
  refine ev_goto (t := 30) dX11_bears_12 (by decide) ?_
  exact ev_iret dX11_bears_30 rfl (⟨rfl, rfl⟩)
theorem k_bears {I : Nat → Nat → Int32} {J : Nat → Nat → Int64} {R : Nat → Nat → Value} {d : Nat} (h0 : ¬ I 39 3 = 0) {p : Nat} (hp : R 0 11 = .ref p) {Q : Option Value → TM → Prop} (hact : Cal lyC d hX3_mostLoad 3 [.ref 18, .ref 39, .ref p] (I, J, R) (fun r M' => (∃ v, r = some (.int v)) ∧ Q r M')) : Cal lyC (d + 1) hX11_bears 1 [.ref 0] (I, J, R) Q := by
  show Ev lyC (d + 1) hX11_bears 0 [some (.ref 0)] [] (I, J, R) _
  refine ev_st dX11_bears_0 rfl rfl ?_
  refine ev_getC dX11_bears_1 fr_11_49 rfl rfl ?_
  refine ev_getI (v := I 39 3) dX11_bears_4 fr_11_162 rfl rfl rfl ?_
  refine ev_if_ne (t := 15) (x := I 39 3) dX11_bears_7 (by decide) (fun c_7 => ?_) (fun c_7 => ?_)
  · refine ev_st dX11_bears_15 rfl rfl ?_
    refine ev_getC dX11_bears_16 fr_11_65 rfl rfl ?_
    refine ev_st dX11_bears_19 rfl rfl ?_
    refine ev_getC dX11_bears_20 fr_11_49 rfl rfl ?_
    refine ev_st dX11_bears_23 rfl rfl ?_
    refine ev_getR (v := .ref p) dX11_bears_24 fr_11_94 rfl rfl hp ?_
    refine ev_call dX11_bears_27 rfl rfl mr_11_289 rfl rfl rfl (hact) ?_
    rintro _ ⟨I3, J3, R3⟩ ⟨⟨vr, rfl⟩, hq⟩
    show Ev lyC (d + 1) hX11_bears 30 [some (.ref 0)] [.int vr] (I3, J3, R3) _
    exact ev_iret dX11_bears_30 rfl (hq)
  · exact absurd c_7 h0
theorem k_hush0 {I : Nat → Nat → Int32} {J : Nat → Nat → Int64} {R : Nat → Nat → Value} {d : Nat} (h0 : I 39 3 = 0) : Cal lyC d hX11_hush 1 [.ref 0] (I, J, R) (fun r M' => r = some (.int (-3)) ∧ M' = (I, J, R)) := by
  show Ev lyC d hX11_hush 0 [some (.ref 0)] [] (I, J, R) _
  refine ev_st dX11_hush_0 rfl rfl ?_
  refine ev_getC dX11_hush_1 fr_11_49 rfl rfl ?_
  refine ev_getI (v := 0) dX11_hush_4 fr_11_162 rfl rfl h0 ?_
  refine ev_if_ne (t := 15) dX11_hush_7 (by decide) (fun q => absurd q (by decide)) (fun _ => ?_)
  refine ev_bipush (v := -3) dX11_hush_10 (by decide) ?_
  refine ev_goto (t := 30) dX11_hush_12 (by decide) ?_
  exact ev_iret dX11_hush_30 rfl (⟨rfl, rfl⟩)
theorem k_hush {I : Nat → Nat → Int32} {J : Nat → Nat → Int64} {R : Nat → Nat → Value} {d : Nat} (h0 : ¬ I 39 3 = 0) {p : Nat} (hp : R 0 11 = .ref p) {Q : Option Value → TM → Prop} (hact : Cal lyC d hX3_fewestSayings 5 [.ref 18, .ref 39, .ref p] (I, J, R) (fun r M' => (∃ v, r = some (.int v)) ∧ Q r M')) : Cal lyC (d + 1) hX11_hush 1 [.ref 0] (I, J, R) Q := by
  show Ev lyC (d + 1) hX11_hush 0 [some (.ref 0)] [] (I, J, R) _
  refine ev_st dX11_hush_0 rfl rfl ?_
  refine ev_getC dX11_hush_1 fr_11_49 rfl rfl ?_
  refine ev_getI (v := I 39 3) dX11_hush_4 fr_11_162 rfl rfl rfl ?_
  refine ev_if_ne (t := 15) (x := I 39 3) dX11_hush_7 (by decide) (fun c_7 => ?_) (fun c_7 => ?_)
  · refine ev_st dX11_hush_15 rfl rfl ?_
    refine ev_getC dX11_hush_16 fr_11_65 rfl rfl ?_
    refine ev_st dX11_hush_19 rfl rfl ?_
    refine ev_getC dX11_hush_20 fr_11_49 rfl rfl ?_
    refine ev_st dX11_hush_23 rfl rfl ?_
    refine ev_getR (v := .ref p) dX11_hush_24 fr_11_94 rfl rfl hp ?_
    refine ev_call dX11_hush_27 rfl rfl mr_11_292 rfl rfl rfl (hact) ?_
    rintro _ ⟨I3, J3, R3⟩ ⟨⟨vr, rfl⟩, hq⟩
    show Ev lyC (d + 1) hX11_hush 30 [some (.ref 0)] [.int vr] (I3, J3, R3) _
    exact ev_iret dX11_hush_30 rfl (hq)
  · exact absurd c_7 h0
theorem k_which0 {I : Nat → Nat → Int32} {J : Nat → Nat → Int64} {R : Nat → Nat → Value} {d : Nat} (h0 : I 39 3 = 0) : Cal lyC d hX11_which 1 [.ref 0] (I, J, R) (fun r M' => r = some (.int (-3)) ∧ M' = (I, J, R)) := by
  show Ev lyC d hX11_which 0 [some (.ref 0)] [] (I, J, R) _
  refine ev_st dX11_which_0 rfl rfl ?_
  refine ev_getC dX11_which_1 fr_11_49 rfl rfl ?_
  refine ev_getI (v := 0) dX11_which_4 fr_11_162 rfl rfl h0 ?_
  refine ev_if_ne (t := 15) dX11_which_7 (by decide) (fun q => absurd q (by decide)) (fun _ => ?_)
  refine ev_bipush (v := -3) dX11_which_10 (by decide) ?_
  refine ev_goto (t := 30) dX11_which_12 (by decide) ?_
  exact ev_iret dX11_which_30 rfl (⟨rfl, rfl⟩)
theorem k_which {I : Nat → Nat → Int32} {J : Nat → Nat → Int64} {R : Nat → Nat → Value} {d : Nat} (h0 : ¬ I 39 3 = 0) {p : Nat} (hp : R 0 11 = .ref p) {Q : Option Value → TM → Prop} (hact : Cal lyC d hX3_bestSeventh 7 [.ref 18, .ref 39, .ref p] (I, J, R) (fun r M' => (∃ v, r = some (.int v)) ∧ Q r M')) : Cal lyC (d + 1) hX11_which 1 [.ref 0] (I, J, R) Q := by
  show Ev lyC (d + 1) hX11_which 0 [some (.ref 0)] [] (I, J, R) _
  refine ev_st dX11_which_0 rfl rfl ?_
  refine ev_getC dX11_which_1 fr_11_49 rfl rfl ?_
  refine ev_getI (v := I 39 3) dX11_which_4 fr_11_162 rfl rfl rfl ?_
  refine ev_if_ne (t := 15) (x := I 39 3) dX11_which_7 (by decide) (fun c_7 => ?_) (fun c_7 => ?_)
  · refine ev_st dX11_which_15 rfl rfl ?_
    refine ev_getC dX11_which_16 fr_11_65 rfl rfl ?_
    refine ev_st dX11_which_19 rfl rfl ?_
    refine ev_getC dX11_which_20 fr_11_49 rfl rfl ?_
    refine ev_st dX11_which_23 rfl rfl ?_
    refine ev_getR (v := .ref p) dX11_which_24 fr_11_94 rfl rfl hp ?_
    refine ev_call dX11_which_27 rfl rfl mr_11_295 rfl rfl rfl (hact) ?_
    rintro _ ⟨I3, J3, R3⟩ ⟨⟨vr, rfl⟩, hq⟩
    show Ev lyC (d + 1) hX11_which 30 [some (.ref 0)] [.int vr] (I3, J3, R3) _
    exact ev_iret dX11_which_30 rfl (hq)
  · exact absurd c_7 h0
theorem k_ahead0 {I : Nat → Nat → Int32} {J : Nat → Nat → Int64} {R : Nat → Nat → Value} {d : Nat} (h0 : I 39 3 = 0) (x : Int32) : Cal lyC d hX11_ahead 2 [.ref 0, .int x] (I, J, R) (fun r M' => r = some (.int (-3)) ∧ M' = (I, J, R)) := by
  show Ev lyC d hX11_ahead 0 [some (.ref 0), some (.int x)] [] (I, J, R) _
  refine ev_st dX11_ahead_0 rfl rfl ?_
  refine ev_getC dX11_ahead_1 fr_11_49 rfl rfl ?_
  refine ev_getI (v := 0) dX11_ahead_4 fr_11_162 rfl rfl h0 ?_
  refine ev_if_ne (t := 13) dX11_ahead_7 (by decide) (fun q => absurd q (by decide)) (fun _ => ?_)
  refine ev_bipush (v := -3) dX11_ahead_10 (by decide) ?_
  exact ev_iret dX11_ahead_12 rfl (⟨rfl, rfl⟩)
theorem k_ahead1 {I : Nat → Nat → Int32} {J : Nat → Nat → Int64} {R : Nat → Nat → Value} {d : Nat} (h0 : ¬ I 39 3 = 0) {x : Int32} (hx : m_in x 0 12 = 0) : Cal lyC d hX11_ahead 2 [.ref 0, .int x] (I, J, R) (fun r M' => r = some (.int (-1)) ∧ M' = (I, J, R)) := by
  show Ev lyC d hX11_ahead 0 [some (.ref 0), some (.int x)] [] (I, J, R) _
  refine ev_st dX11_ahead_0 rfl rfl ?_
  refine ev_getC dX11_ahead_1 fr_11_49 rfl rfl ?_
  refine ev_getI (v := I 39 3) dX11_ahead_4 fr_11_162 rfl rfl rfl ?_
  refine ev_if_ne (t := 13) (x := I 39 3) dX11_ahead_7 (by decide) (fun c_7 => ?_) (fun c_7 => ?_)
  · refine ev_st dX11_ahead_13 rfl rfl ?_
    refine ev_if_lt (t := 23) (x := x) dX11_ahead_14 (by decide) (fun c_14 => ?_) (fun c_14 => ?_)
    · refine ev_iconst (v := -1) dX11_ahead_23 (by decide) ?_
      exact ev_iret dX11_ahead_24 rfl (⟨rfl, rfl⟩)
    · refine ev_st dX11_ahead_17 rfl rfl ?_
      refine ev_bipush (v := 12) dX11_ahead_18 (by decide) ?_
      refine ev_ic_le (t := 25) (x := x) (y := 12) dX11_ahead_20 (by decide) (fun c_20 => ?_) (fun c_20 => ?_)
      · exact absurd hx (by simp [m_in, c_14, c_20])
      · refine ev_iconst (v := -1) dX11_ahead_23 (by decide) ?_
        exact ev_iret dX11_ahead_24 rfl (⟨rfl, rfl⟩)
  · exact absurd c_7 h0
theorem k_ahead {I : Nat → Nat → Int32} {J : Nat → Nat → Int64} {R : Nat → Nat → Value} {d : Nat} (h0 : ¬ I 39 3 = 0) {m : Nat} (hm : m ≤ 12) {p : Nat} (hp : R 0 11 = .ref p) {Q : Option Value → TM → Prop} (hact : Cal lyC d hX3_staggersAhead 6 [.ref 18, .ref 39, .ref p, .int (nI m)] (I, J, R) (fun r M' => (∃ v, r = some (.int v)) ∧ Q r M')) : Cal lyC (d + 1) hX11_ahead 2 [.ref 0, .int (nI m)] (I, J, R) Q := by
  show Ev lyC (d + 1) hX11_ahead 0 [some (.ref 0), some (.int (nI m))] [] (I, J, R) _
  refine ev_st dX11_ahead_0 rfl rfl ?_
  refine ev_getC dX11_ahead_1 fr_11_49 rfl rfl ?_
  refine ev_getI (v := I 39 3) dX11_ahead_4 fr_11_162 rfl rfl rfl ?_
  refine ev_if_ne (t := 13) (x := I 39 3) dX11_ahead_7 (by decide) (fun c_7 => ?_) (fun c_7 => ?_)
  · refine ev_st dX11_ahead_13 rfl rfl ?_
    refine ev_if_ltN (t := 23) (a := m) dX11_ahead_14 (by decide) rfl (by omega) ?_
    refine ev_st dX11_ahead_17 rfl rfl ?_
    refine ev_bipush (v := 12) dX11_ahead_18 (by decide) ?_
    refine ev_ic_leN (t := 25) (a := m) (b := 12) dX11_ahead_20 (by decide) rfl rfl (by omega) (by omega) (fun c_20 => ?_) (fun c_20 => ?_)
    · refine ev_st dX11_ahead_25 rfl rfl ?_
      refine ev_getC dX11_ahead_26 fr_11_65 rfl rfl ?_
      refine ev_st dX11_ahead_29 rfl rfl ?_
      refine ev_getC dX11_ahead_30 fr_11_49 rfl rfl ?_
      refine ev_st dX11_ahead_33 rfl rfl ?_
      refine ev_getR (v := .ref p) dX11_ahead_34 fr_11_94 rfl rfl hp ?_
      refine ev_st dX11_ahead_37 rfl rfl ?_
      refine ev_call dX11_ahead_38 rfl rfl mr_11_281 rfl rfl rfl (hact) ?_
      rintro _ ⟨I3, J3, R3⟩ ⟨⟨vr, rfl⟩, hq⟩
      show Ev lyC (d + 1) hX11_ahead 41 [some (.ref 0), some (.int (nI m))] [.int vr] (I3, J3, R3) _
      exact ev_iret dX11_ahead_41 rfl (hq)
    · omega
  · exact absurd c_7 h0
theorem k_team0 {I : Nat → Nat → Int32} {J : Nat → Nat → Int64} {R : Nat → Nat → Value} {d : Nat} {x : Int32} (hx : m_in x 1 6 = 0) : Cal lyC d hX11_team 2 [.ref 0, .int x] (I, J, R) (fun r M' => r = some (.int (-1)) ∧ M' = (I, J, R)) := by
  show Ev lyC d hX11_team 0 [some (.ref 0), some (.int x)] [] (I, J, R) _
  refine ev_st dX11_team_0 rfl rfl ?_
  refine ev_iconst (v := 1) dX11_team_1 (by decide) ?_
  refine ev_ic_lt (t := 11) (x := x) (y := 1) dX11_team_2 (by decide) (fun c_2 => ?_) (fun c_2 => ?_)
  · refine ev_iconst (v := -1) dX11_team_11 (by decide) ?_
    exact ev_iret dX11_team_12 rfl (⟨rfl, rfl⟩)
  · refine ev_st dX11_team_5 rfl rfl ?_
    refine ev_bipush (v := 6) dX11_team_6 (by decide) ?_
    refine ev_ic_le (t := 13) (x := x) (y := 6) dX11_team_8 (by decide) (fun c_8 => ?_) (fun c_8 => ?_)
    · exact absurd hx (by simp [m_in, c_2, c_8])
    · refine ev_iconst (v := -1) dX11_team_11 (by decide) ?_
      exact ev_iret dX11_team_12 rfl (⟨rfl, rfl⟩)
theorem k_team2 {I : Nat → Nat → Int32} {J : Nat → Nat → Int64} {R : Nat → Nat → Value} {d n : Nat} (hn : I 8 3 = nI n) {x : Int32} (hx : m_in x 1 6 = 1) (hn2 : nI n < x) : Cal lyC d hX11_team 2 [.ref 0, .int x] (I, J, R) (fun r M' => r = some (.int (-2)) ∧ M' = (I, J, R)) := by
  show Ev lyC d hX11_team 0 [some (.ref 0), some (.int x)] [] (I, J, R) _
  refine ev_st dX11_team_0 rfl rfl ?_
  refine ev_iconst (v := 1) dX11_team_1 (by decide) ?_
  refine ev_ic_lt (t := 11) (x := x) (y := 1) dX11_team_2 (by decide) (fun c_2 => ?_) (fun c_2 => ?_)
  · exact absurd hx (by simp [m_in, c_2])
  · refine ev_st dX11_team_5 rfl rfl ?_
    refine ev_bipush (v := 6) dX11_team_6 (by decide) ?_
    refine ev_ic_le (t := 13) (x := x) (y := 6) dX11_team_8 (by decide) (fun c_8 => ?_) (fun c_8 => ?_)
    · refine ev_st dX11_team_13 rfl rfl ?_
      refine ev_st dX11_team_14 rfl rfl ?_
      refine ev_getC dX11_team_15 fr_11_35 rfl rfl ?_
      refine ev_getI (v := nI n) dX11_team_18 fr_11_137 rfl rfl hn ?_
      refine ev_ic_le (t := 29) (x := x) (y := nI n) dX11_team_21 (by decide) (fun c_21 => ?_) (fun c_21 => ?_)
      · exact absurd hn2 c_21
      · refine ev_bipush (v := -2) dX11_team_24 (by decide) ?_
        refine ev_goto (t := 45) dX11_team_26 (by decide) ?_
        exact ev_iret dX11_team_45 rfl (⟨rfl, rfl⟩)
    · exact absurd hx (by simp [m_in, c_2, c_8])
theorem k_team {I : Nat → Nat → Int32} {J : Nat → Nat → Int64} {R : Nat → Nat → Value} {d : Nat} {n : Nat} (hn : I 8 3 = nI n) {x : Int32} (hx : m_in x 1 6 = 1) (hn2 : ¬ nI n < x) {p : Nat} (hp : R 0 11 = .ref p) {Q : Option Value → TM → Prop} (hact : Cal lyC d hX8_strongest 4 [.ref 22, .ref 39, .ref p, .int x] (I, J, R) (fun r M' => (∃ v, r = some (.int v)) ∧ Q r M')) : Cal lyC (d + 1) hX11_team 2 [.ref 0, .int x] (I, J, R) Q := by
  show Ev lyC (d + 1) hX11_team 0 [some (.ref 0), some (.int x)] [] (I, J, R) _
  refine ev_st dX11_team_0 rfl rfl ?_
  refine ev_iconst (v := 1) dX11_team_1 (by decide) ?_
  refine ev_ic_lt (t := 11) (x := x) (y := 1) dX11_team_2 (by decide) (fun c_2 => ?_) (fun c_2 => ?_)
  · exact absurd hx (by simp [m_in, c_2])
  · refine ev_st dX11_team_5 rfl rfl ?_
    refine ev_bipush (v := 6) dX11_team_6 (by decide) ?_
    refine ev_ic_le (t := 13) (x := x) (y := 6) dX11_team_8 (by decide) (fun c_8 => ?_) (fun c_8 => ?_)
    · refine ev_st dX11_team_13 rfl rfl ?_
      refine ev_st dX11_team_14 rfl rfl ?_
      refine ev_getC dX11_team_15 fr_11_35 rfl rfl ?_
      refine ev_getI (v := nI n) dX11_team_18 fr_11_137 rfl rfl hn ?_
      refine ev_ic_le (t := 29) (x := x) (y := nI n) dX11_team_21 (by decide) (fun c_21 => ?_) (fun c_21 => ?_)
      · refine ev_st dX11_team_29 rfl rfl ?_
        refine ev_getC dX11_team_30 fr_11_74 rfl rfl ?_
        refine ev_st dX11_team_33 rfl rfl ?_
        refine ev_getC dX11_team_34 fr_11_49 rfl rfl ?_
        refine ev_st dX11_team_37 rfl rfl ?_
        refine ev_getR (v := .ref p) dX11_team_38 fr_11_94 rfl rfl hp ?_
        refine ev_st dX11_team_41 rfl rfl ?_
        refine ev_call dX11_team_42 rfl rfl mr_11_301 rfl rfl rfl (hact) ?_
        rintro _ ⟨I3, J3, R3⟩ ⟨⟨vr, rfl⟩, hq⟩
        show Ev lyC (d + 1) hX11_team 45 [some (.ref 0), some (.int x)] [.int vr] (I3, J3, R3) _
        exact ev_iret dX11_team_45 rfl (hq)
      · exact absurd c_21 hn2
    · exact absurd hx (by simp [m_in, c_2, c_8])
theorem k_years0 {I : Nat → Nat → Int32} {J : Nat → Nat → Int64} {R : Nat → Nat → Value} {d : Nat} {x y : Int32} (hx : m_in y 1 60 = 0) : Cal lyC d hX11_years 3 [.ref 0, .int x, .int y] (I, J, R) (fun r M' => r = some (.int (-1)) ∧ M' = (I, J, R)) := by
  show Ev lyC d hX11_years 0 [some (.ref 0), some (.int x), some (.int y)] [] (I, J, R) _
  refine ev_st dX11_years_0 rfl rfl ?_
  refine ev_iconst (v := 1) dX11_years_1 (by decide) ?_
  refine ev_ic_lt (t := 11) (x := y) (y := 1) dX11_years_2 (by decide) (fun c_2 => ?_) (fun c_2 => ?_)
  · refine ev_iconst (v := -1) dX11_years_11 (by decide) ?_
    refine ev_goto (t := 32) dX11_years_12 (by decide) ?_
    exact ev_iret dX11_years_32 rfl (⟨rfl, rfl⟩)
  · refine ev_st dX11_years_5 rfl rfl ?_
    refine ev_bipush (v := 60) dX11_years_6 (by decide) ?_
    refine ev_ic_le (t := 15) (x := y) (y := 60) dX11_years_8 (by decide) (fun c_8 => ?_) (fun c_8 => ?_)
    · exact absurd hx (by simp [m_in, c_2, c_8])
    · refine ev_iconst (v := -1) dX11_years_11 (by decide) ?_
      refine ev_goto (t := 32) dX11_years_12 (by decide) ?_
      exact ev_iret dX11_years_32 rfl (⟨rfl, rfl⟩)
theorem k_years {I : Nat → Nat → Int32} {J : Nat → Nat → Int64} {R : Nat → Nat → Value} {d : Nat} {m : Nat} (hm1 : 1 ≤ m) (hm60 : m ≤ 60) (x : Int32) {p : Nat} (hp : R 0 11 = .ref p) {Q : Option Value → TM → Prop} (hact : Cal lyC d hX3_staggersDrawn 6 [.ref 18, .ref 39, .ref p, .int x, .int (nI m)] (I, J, R) (fun r M' => (∃ v, r = some (.int v)) ∧ Q r M')) : Cal lyC (d + 1) hX11_years 3 [.ref 0, .int x, .int (nI m)] (I, J, R) Q := by
  show Ev lyC (d + 1) hX11_years 0 [some (.ref 0), some (.int x), some (.int (nI m))] [] (I, J, R) _
  refine ev_st dX11_years_0 rfl rfl ?_
  refine ev_iconst (v := 1) dX11_years_1 (by decide) ?_
  refine ev_ic_ltN (t := 11) (a := m) (b := 1) dX11_years_2 (by decide) rfl rfl (by omega) (by omega) (fun c_2 => ?_) (fun c_2 => ?_)
  · omega
  · refine ev_st dX11_years_5 rfl rfl ?_
    refine ev_bipush (v := 60) dX11_years_6 (by decide) ?_
    refine ev_ic_leN (t := 15) (a := m) (b := 60) dX11_years_8 (by decide) rfl rfl (by omega) (by omega) (fun c_8 => ?_) (fun c_8 => ?_)
    · refine ev_st dX11_years_15 rfl rfl ?_
      refine ev_getC dX11_years_16 fr_11_65 rfl rfl ?_
      refine ev_st dX11_years_19 rfl rfl ?_
      refine ev_getC dX11_years_20 fr_11_49 rfl rfl ?_
      refine ev_st dX11_years_23 rfl rfl ?_
      refine ev_getR (v := .ref p) dX11_years_24 fr_11_94 rfl rfl hp ?_
      refine ev_st dX11_years_27 rfl rfl ?_
      refine ev_st dX11_years_28 rfl rfl ?_
      refine ev_call dX11_years_29 rfl rfl mr_11_392 rfl rfl rfl (hact) ?_
      rintro _ ⟨I3, J3, R3⟩ ⟨⟨vr, rfl⟩, hq⟩
      show Ev lyC (d + 1) hX11_years 32 [some (.ref 0), some (.int x), some (.int (nI m))] [.int vr] (I3, J3, R3) _
      exact ev_iret dX11_years_32 rfl (hq)
    · omega
theorem k_slips0 {I : Nat → Nat → Int32} {J : Nat → Nat → Int64} {R : Nat → Nat → Value} {d : Nat} {x : Int32} (hx : m_in x 0 10 = 0) : Cal lyC d hX11_slips 2 [.ref 0, .int x] (I, J, R) (fun r M' => r = some (.int (-1)) ∧ M' = (I, J, R)) := by
  show Ev lyC d hX11_slips 0 [some (.ref 0), some (.int x)] [] (I, J, R) _
  refine ev_st dX11_slips_0 rfl rfl ?_
  refine ev_if_lt (t := 10) (x := x) dX11_slips_1 (by decide) (fun c_1 => ?_) (fun c_1 => ?_)
  · refine ev_iconst (v := -1) dX11_slips_10 (by decide) ?_
    exact ev_iret dX11_slips_11 rfl (⟨rfl, rfl⟩)
  · refine ev_st dX11_slips_4 rfl rfl ?_
    refine ev_bipush (v := 10) dX11_slips_5 (by decide) ?_
    refine ev_ic_le (t := 12) (x := x) (y := 10) dX11_slips_7 (by decide) (fun c_7 => ?_) (fun c_7 => ?_)
    · exact absurd hx (by simp [m_in, c_1, c_7])
    · refine ev_iconst (v := -1) dX11_slips_10 (by decide) ?_
      exact ev_iret dX11_slips_11 rfl (⟨rfl, rfl⟩)
theorem k_slips3 {I : Nat → Nat → Int32} {J : Nat → Nat → Int64} {R : Nat → Nat → Value} {d m : Nat} (hm : m ≤ 10) (h0 : I 39 3 = 0) : Cal lyC d hX11_slips 2 [.ref 0, .int (nI m)] (I, J, R) (fun r M' => r = some (.int (-3)) ∧ M' = (I, J, R)) := by
  show Ev lyC d hX11_slips 0 [some (.ref 0), some (.int (nI m))] [] (I, J, R) _
  refine ev_st dX11_slips_0 rfl rfl ?_
  refine ev_if_ltN (t := 10) (a := m) dX11_slips_1 (by decide) rfl (by omega) ?_
  refine ev_st dX11_slips_4 rfl rfl ?_
  refine ev_bipush (v := 10) dX11_slips_5 (by decide) ?_
  refine ev_ic_leN (t := 12) (a := m) (b := 10) dX11_slips_7 (by decide) rfl rfl (by omega) (by omega) (fun c_7 => ?_) (fun c_7 => ?_)
  · refine ev_st dX11_slips_12 rfl rfl ?_
    refine ev_getC dX11_slips_13 fr_11_49 rfl rfl ?_
    refine ev_getI (v := 0) dX11_slips_16 fr_11_162 rfl rfl h0 ?_
    refine ev_if_ne (t := 27) dX11_slips_19 (by decide) (fun q => absurd q (by decide)) (fun _ => ?_)
    refine ev_bipush (v := -3) dX11_slips_22 (by decide) ?_
    refine ev_goto (t := 43) dX11_slips_24 (by decide) ?_
    exact ev_iret dX11_slips_43 rfl (⟨rfl, rfl⟩)
  · omega
theorem k_slips {I : Nat → Nat → Int32} {J : Nat → Nat → Int64} {R : Nat → Nat → Value} {d : Nat} {m : Nat} (hm : m ≤ 10) (h0 : ¬ I 39 3 = 0) {p : Nat} (hp : R 0 11 = .ref p) {Q : Option Value → TM → Prop} (hact : Cal lyC d hX8_chanceToStand 7 [.ref 22, .ref 39, .ref p, .int (nI m)] (I, J, R) (fun r M' => (∃ v, r = some (.int v)) ∧ Q r M')) : Cal lyC (d + 1) hX11_slips 2 [.ref 0, .int (nI m)] (I, J, R) Q := by
  show Ev lyC (d + 1) hX11_slips 0 [some (.ref 0), some (.int (nI m))] [] (I, J, R) _
  refine ev_st dX11_slips_0 rfl rfl ?_
  refine ev_if_ltN (t := 10) (a := m) dX11_slips_1 (by decide) rfl (by omega) ?_
  refine ev_st dX11_slips_4 rfl rfl ?_
  refine ev_bipush (v := 10) dX11_slips_5 (by decide) ?_
  refine ev_ic_leN (t := 12) (a := m) (b := 10) dX11_slips_7 (by decide) rfl rfl (by omega) (by omega) (fun c_7 => ?_) (fun c_7 => ?_)
  · refine ev_st dX11_slips_12 rfl rfl ?_
    refine ev_getC dX11_slips_13 fr_11_49 rfl rfl ?_
    refine ev_getI (v := I 39 3) dX11_slips_16 fr_11_162 rfl rfl rfl ?_
    refine ev_if_ne (t := 27) (x := I 39 3) dX11_slips_19 (by decide) (fun c_19 => ?_) (fun c_19 => ?_)
    · refine ev_st dX11_slips_27 rfl rfl ?_
      refine ev_getC dX11_slips_28 fr_11_74 rfl rfl ?_
      refine ev_st dX11_slips_31 rfl rfl ?_
      refine ev_getC dX11_slips_32 fr_11_49 rfl rfl ?_
      refine ev_st dX11_slips_35 rfl rfl ?_
      refine ev_getR (v := .ref p) dX11_slips_36 fr_11_94 rfl rfl hp ?_
      refine ev_st dX11_slips_39 rfl rfl ?_
      refine ev_call dX11_slips_40 rfl rfl mr_11_376 rfl rfl rfl (hact) ?_
      rintro _ ⟨I3, J3, R3⟩ ⟨⟨vr, rfl⟩, hq⟩
      show Ev lyC (d + 1) hX11_slips 43 [some (.ref 0), some (.int (nI m))] [.int vr] (I3, J3, R3) _
      exact ev_iret dX11_slips_43 rfl (hq)
    · exact absurd c_19 h0
  · omega
def k_sum (f : Nat → Int32) (x : Int32) : Nat → Int32
  | 0 => 0
  | k + 1 => k_sum f x k + k_b x (nI k) * f k
def k_kn (f : Nat → Int32) (w : Int32) : Nat → Int32
  | 0 => 0
  | k + 1 => k_kn f w k ||| (k_b (f k) w <<< (nI k &&& 31))
theorem k_holds {I : Nat → Nat → Int32} {J : Nat → Nat → Int64} {R : Nat → Nat → Value} {d ns : Nat} (hns : I 11 4 = nI ns) (hns8 : ns ≤ 8) (x : Int32) : Cal lyC d hX6_holds 2 [.ref 11, .int x] (I, J, R) (fun r M' => r = some (.int (if (ix (2 ^ ns) x).isSome then 1 else 0)) ∧ M' = (I, J, R)) := by
  show Ev lyC d hX6_holds 0 [some (.ref 11), some (.int x)] [] (I, J, R) _
  refine ev_st dX6_holds_0 rfl rfl ?_
  refine ev_if_lt (t := 18) (x := x) dX6_holds_1 (by decide) (fun c_1 => ?_) (fun c_1 => ?_)
  · refine ev_iconst (v := 0) dX6_holds_18 (by decide) ?_
    exact ev_zret dX6_holds_19 rfl (by decide) (⟨by simp [ix, Int32.not_le.mpr c_1], rfl⟩)
  · refine ev_st dX6_holds_4 rfl rfl ?_
    refine ev_iconst (v := 1) dX6_holds_5 (by decide) ?_
    refine ev_st dX6_holds_6 rfl rfl ?_
    refine ev_getI (v := nI ns) dX6_holds_7 fr_6_21 rfl rfl hns ?_
    refine ev_ishlN (c := 2 ^ ns) dX6_holds_10 (sh1 ns hns8) ?_
    refine ev_ic_ge (t := 18) (x := x) (y := nI (2 ^ ns)) dX6_holds_11 (by decide) (fun c_11 => ?_) (fun c_11 => ?_)
    · refine ev_iconst (v := 0) dX6_holds_18 (by decide) ?_
      exact ev_zret dX6_holds_19 rfl (by decide) (⟨by simp [ix, Int32.not_lt.mp c_1, c_11], rfl⟩)
    · refine ev_iconst (v := 1) dX6_holds_14 (by decide) ?_
      refine ev_goto (t := 19) dX6_holds_15 (by decide) ?_
      exact ev_zret dX6_holds_19 rfl (by decide) (⟨by simp [ix, Int32.not_lt.mp c_1, c_11], rfl⟩)
set_option maxHeartbeats 1000000 in
theorem k_sumOf_weight {I : Nat → Nat → Int32} {J : Nat → Nat → Int64} {R : Nat → Nat → Value} {d ns : Nat} (hns : I 11 4 = nI ns) (hns8 : ns ≤ 8) (x : Int32) : Cal lyC d hX6_sumOf 5 [.ref 11, .ref 12, .int x] (I, J, R) (fun r M' => r = some (.int (k_sum (I 12) x ns)) ∧ M' = (I, J, R)) := by
  have loop : ∀ (k b : Nat) (m : Int32), b ≤ ns → ns - b < k → m = k_sum (I 12) x b → Ev lyC d hX6_sumOf 5 [some (.ref 11), some (.ref 12), some (.int x), some (.int m), some (.int (nI b))] [] (I, J, R) (fun r M' => r = some (.int (k_sum (I 12) x ns)) ∧ M' = (I, J, R)) := by
    intro k
    induction k with
    | zero => intro b m h1 h2; omega
    | succ k ih =>
      intro b m hb hk hm
      refine ev_st dX6_sumOf_5 rfl rfl ?_
      refine ev_st dX6_sumOf_7 rfl rfl ?_
      refine ev_getI (v := nI ns) dX6_sumOf_8 fr_6_21 rfl rfl hns ?_
      refine ev_ic_geN (t := 41) (a := b) (b := ns) dX6_sumOf_11 (by decide) rfl rfl (by omega) (by omega) (fun c_11 => ?_) (fun c_11 => ?_)
      · refine ev_st dX6_sumOf_41 rfl rfl ?_
        exact ev_iret dX6_sumOf_42 rfl (⟨by rw [hm, show b = ns by omega], rfl⟩)
      · refine ev_st dX6_sumOf_14 rfl rfl ?_
        refine ev_st dX6_sumOf_16 rfl rfl ?_
        refine ev_alen (v := 8) dX6_sumOf_17 rfl (by decide) rfl ?_
        refine ev_ic_geN (t := 41) (a := b) (b := 8) dX6_sumOf_18 (by decide) rfl rfl (by omega) (by omega) (fun c_18 => ?_) (fun c_18 => ?_)
        · omega
        · refine ev_st dX6_sumOf_21 rfl rfl ?_
          refine ev_st dX6_sumOf_22 rfl rfl ?_
          refine ev_st dX6_sumOf_23 rfl rfl ?_
          refine ev_st dX6_sumOf_25 rfl rfl ?_
          refine ev_iconst (v := 1) dX6_sumOf_26 (by decide) ?_
          refine ev_st dX6_sumOf_27 rfl rfl ?_
          refine ev_st dX6_sumOf_28 rfl rfl ?_
          refine ev_st dX6_sumOf_29 rfl rfl ?_
          refine ev_iald (j := b) (v := I 12 b) dX6_sumOf_31 rfl rfl (by omega) (by decide) rfl ?_
          refine ev_st dX6_sumOf_32 rfl rfl ?_
          refine ev_st dX6_sumOf_33 rfl rfl ?_
          refine ev_st (L' := [some (.ref 11), some (.ref 12), some (.int x), some (.int (m + (((x >>> ((nI b) &&& 31)) &&& 1) * (I 12 b)))), some (.int (nI b))]) dX6_sumOf_34 rfl rfl ?_
          refine ev_iincN (a := b) (b := b + 1) (L' := [some (.ref 11), some (.ref 12), some (.int x), some (.int (m + (((x >>> ((nI b) &&& 31)) &&& 1) * (I 12 b)))), some (.int (nI (b + 1)))]) dX6_sumOf_35 rfl (nI_1 _) rfl ?_
          refine ev_goto (t := 5) dX6_sumOf_38 (by decide) ?_
          exact ih _ _ (by omega) (by omega) (by simp [k_sum, k_b, hm, c_18])
  show Ev lyC d hX6_sumOf 0 [some (.ref 11), some (.ref 12), some (.int x), none, none] [] (I, J, R) _
  refine ev_iconst (v := 0) dX6_sumOf_0 (by decide) ?_
  refine ev_st (L' := [some (.ref 11), some (.ref 12), some (.int x), some (.int 0), none]) dX6_sumOf_1 rfl rfl ?_
  refine ev_iconst (v := 0) dX6_sumOf_2 (by decide) ?_
  refine ev_st (L' := [some (.ref 11), some (.ref 12), some (.int x), some (.int 0), some (.int 0)]) dX6_sumOf_3 rfl rfl ?_
  exact loop (ns + 1) 0 0 (by omega) (by omega) rfl
theorem k_weightOf {I : Nat → Nat → Int32} {J : Nat → Nat → Int64} {R : Nat → Nat → Value} {d ns : Nat} (hns : I 11 4 = nI ns) (hns8 : ns ≤ 8) (x : Int32) : Cal lyC (d + 1) hX6_weightOf 2 [.ref 11, .int x] (I, J, R) (fun r M' => r = some (.int (k_sum (I 12) x ns)) ∧ M' = (I, J, R)) := by
  show Ev lyC (d + 1) hX6_weightOf 0 [some (.ref 11), some (.int x)] [] (I, J, R) _
  refine ev_st dX6_weightOf_0 rfl rfl ?_
  refine ev_st dX6_weightOf_1 rfl rfl ?_
  refine ev_getC dX6_weightOf_2 fr_6_9 rfl rfl ?_
  refine ev_st dX6_weightOf_5 rfl rfl ?_
  refine ev_call dX6_weightOf_6 rfl rfl mr_6_28 rfl rfl rfl (k_sumOf_weight hns hns8 x) ?_
  rintro _ _ ⟨rfl, rfl⟩
  show Ev lyC (d + 1) hX6_weightOf 9 [some (.ref 11), some (.int x)] [.int (k_sum (I 12) x ns)] (I, J, R) _
  exact ev_iret dX6_weightOf_9 rfl (⟨rfl, rfl⟩)
set_option maxHeartbeats 1000000 in
theorem k_sumOf_harm {I : Nat → Nat → Int32} {J : Nat → Nat → Int64} {R : Nat → Nat → Value} {d ns : Nat} (hns : I 11 4 = nI ns) (hns8 : ns ≤ 8) (x : Int32) : Cal lyC d hX6_sumOf 5 [.ref 11, .ref 13, .int x] (I, J, R) (fun r M' => r = some (.int (k_sum (I 13) x ns)) ∧ M' = (I, J, R)) := by
  have loop : ∀ (k b : Nat) (m : Int32), b ≤ ns → ns - b < k → m = k_sum (I 13) x b → Ev lyC d hX6_sumOf 5 [some (.ref 11), some (.ref 13), some (.int x), some (.int m), some (.int (nI b))] [] (I, J, R) (fun r M' => r = some (.int (k_sum (I 13) x ns)) ∧ M' = (I, J, R)) := by
    intro k
    induction k with
    | zero => intro b m h1 h2; omega
    | succ k ih =>
      intro b m hb hk hm
      refine ev_st dX6_sumOf_5 rfl rfl ?_
      refine ev_st dX6_sumOf_7 rfl rfl ?_
      refine ev_getI (v := nI ns) dX6_sumOf_8 fr_6_21 rfl rfl hns ?_
      refine ev_ic_geN (t := 41) (a := b) (b := ns) dX6_sumOf_11 (by decide) rfl rfl (by omega) (by omega) (fun c_11 => ?_) (fun c_11 => ?_)
      · refine ev_st dX6_sumOf_41 rfl rfl ?_
        exact ev_iret dX6_sumOf_42 rfl (⟨by rw [hm, show b = ns by omega], rfl⟩)
      · refine ev_st dX6_sumOf_14 rfl rfl ?_
        refine ev_st dX6_sumOf_16 rfl rfl ?_
        refine ev_alen (v := 8) dX6_sumOf_17 rfl (by decide) rfl ?_
        refine ev_ic_geN (t := 41) (a := b) (b := 8) dX6_sumOf_18 (by decide) rfl rfl (by omega) (by omega) (fun c_18 => ?_) (fun c_18 => ?_)
        · omega
        · refine ev_st dX6_sumOf_21 rfl rfl ?_
          refine ev_st dX6_sumOf_22 rfl rfl ?_
          refine ev_st dX6_sumOf_23 rfl rfl ?_
          refine ev_st dX6_sumOf_25 rfl rfl ?_
          refine ev_iconst (v := 1) dX6_sumOf_26 (by decide) ?_
          refine ev_st dX6_sumOf_27 rfl rfl ?_
          refine ev_st dX6_sumOf_28 rfl rfl ?_
          refine ev_st dX6_sumOf_29 rfl rfl ?_
          refine ev_iald (j := b) (v := I 13 b) dX6_sumOf_31 rfl rfl (by omega) (by decide) rfl ?_
          refine ev_st dX6_sumOf_32 rfl rfl ?_
          refine ev_st dX6_sumOf_33 rfl rfl ?_
          refine ev_st (L' := [some (.ref 11), some (.ref 13), some (.int x), some (.int (m + (((x >>> ((nI b) &&& 31)) &&& 1) * (I 13 b)))), some (.int (nI b))]) dX6_sumOf_34 rfl rfl ?_
          refine ev_iincN (a := b) (b := b + 1) (L' := [some (.ref 11), some (.ref 13), some (.int x), some (.int (m + (((x >>> ((nI b) &&& 31)) &&& 1) * (I 13 b)))), some (.int (nI (b + 1)))]) dX6_sumOf_35 rfl (nI_1 _) rfl ?_
          refine ev_goto (t := 5) dX6_sumOf_38 (by decide) ?_
          exact ih _ _ (by omega) (by omega) (by simp [k_sum, k_b, hm, c_18])
  show Ev lyC d hX6_sumOf 0 [some (.ref 11), some (.ref 13), some (.int x), none, none] [] (I, J, R) _
  refine ev_iconst (v := 0) dX6_sumOf_0 (by decide) ?_
  refine ev_st (L' := [some (.ref 11), some (.ref 13), some (.int x), some (.int 0), none]) dX6_sumOf_1 rfl rfl ?_
  refine ev_iconst (v := 0) dX6_sumOf_2 (by decide) ?_
  refine ev_st (L' := [some (.ref 11), some (.ref 13), some (.int x), some (.int 0), some (.int 0)]) dX6_sumOf_3 rfl rfl ?_
  exact loop (ns + 1) 0 0 (by omega) (by omega) rfl
theorem k_harmOf {I : Nat → Nat → Int32} {J : Nat → Nat → Int64} {R : Nat → Nat → Value} {d ns : Nat} (hns : I 11 4 = nI ns) (hns8 : ns ≤ 8) (x : Int32) : Cal lyC (d + 1) hX6_harmOf 2 [.ref 11, .int x] (I, J, R) (fun r M' => r = some (.int (k_sum (I 13) x ns)) ∧ M' = (I, J, R)) := by
  show Ev lyC (d + 1) hX6_harmOf 0 [some (.ref 11), some (.int x)] [] (I, J, R) _
  refine ev_st dX6_harmOf_0 rfl rfl ?_
  refine ev_st dX6_harmOf_1 rfl rfl ?_
  refine ev_getC dX6_harmOf_2 fr_6_15 rfl rfl ?_
  refine ev_st dX6_harmOf_5 rfl rfl ?_
  refine ev_call dX6_harmOf_6 rfl rfl mr_6_28 rfl rfl rfl (k_sumOf_harm hns hns8 x) ?_
  rintro _ _ ⟨rfl, rfl⟩
  show Ev lyC (d + 1) hX6_harmOf 9 [some (.ref 11), some (.int x)] [.int (k_sum (I 13) x ns)] (I, J, R) _
  exact ev_iret dX6_harmOf_9 rfl (⟨rfl, rfl⟩)
set_option maxHeartbeats 1000000 in
theorem k_knownTo {I : Nat → Nat → Int32} {J : Nat → Nat → Int64} {R : Nat → Nat → Value} {d ns : Nat} (hns : I 11 4 = nI ns) (hns8 : ns ≤ 8) (x : Int32) : Cal lyC d hX6_knownTo 4 [.ref 11, .int x] (I, J, R) (fun r M' => r = some (.int (k_kn (I 14) x ns)) ∧ M' = (I, J, R)) := by
  have loop : ∀ (k b : Nat) (m : Int32), b ≤ ns → ns - b < k → m = k_kn (I 14) x b → Ev lyC d hX6_knownTo 4 [some (.ref 11), some (.int x), some (.int m), some (.int (nI b))] [] (I, J, R) (fun r M' => r = some (.int (k_kn (I 14) x ns)) ∧ M' = (I, J, R)) := by
    intro k
    induction k with
    | zero => intro b m h1 h2; omega
    | succ k ih =>
      intro b m hb hk hm
      refine ev_st dX6_knownTo_4 rfl rfl ?_
      refine ev_st dX6_knownTo_5 rfl rfl ?_
      refine ev_getI (v := nI ns) dX6_knownTo_6 fr_6_21 rfl rfl hns ?_
      refine ev_ic_geN (t := 33) (a := b) (b := ns) dX6_knownTo_9 (by decide) rfl rfl (by omega) (by omega) (fun c_9 => ?_) (fun c_9 => ?_)
      · refine ev_st dX6_knownTo_33 rfl rfl ?_
        exact ev_iret dX6_knownTo_34 rfl (⟨by rw [hm, show b = ns by omega], rfl⟩)
      · refine ev_st dX6_knownTo_12 rfl rfl ?_
        refine ev_st dX6_knownTo_13 rfl rfl ?_
        refine ev_getC dX6_knownTo_14 fr_6_18 rfl rfl ?_
        refine ev_st dX6_knownTo_17 rfl rfl ?_
        refine ev_iald (j := b) (v := I 14 b) dX6_knownTo_18 rfl rfl (by omega) (by decide) rfl ?_
        refine ev_st dX6_knownTo_19 rfl rfl ?_
        refine ev_st dX6_knownTo_20 rfl rfl ?_
        refine ev_iconst (v := 1) dX6_knownTo_21 (by decide) ?_
        refine ev_st dX6_knownTo_22 rfl rfl ?_
        refine ev_st dX6_knownTo_23 rfl rfl ?_
        refine ev_st dX6_knownTo_24 rfl rfl ?_
        refine ev_st dX6_knownTo_25 rfl rfl ?_
        refine ev_st (L' := [some (.ref 11), some (.int x), some (.int (m ||| ((((I 14 b) >>> (x &&& 31)) &&& 1) <<< ((nI b) &&& 31)))), some (.int (nI b))]) dX6_knownTo_26 rfl rfl ?_
        refine ev_iincN (a := b) (b := b + 1) (L' := [some (.ref 11), some (.int x), some (.int (m ||| ((((I 14 b) >>> (x &&& 31)) &&& 1) <<< ((nI b) &&& 31)))), some (.int (nI (b + 1)))]) dX6_knownTo_27 rfl (nI_1 _) rfl ?_
        refine ev_goto (t := 4) dX6_knownTo_30 (by decide) ?_
        exact ih _ _ (by omega) (by omega) (by simp [k_kn, k_b, hm])
  show Ev lyC d hX6_knownTo 0 [some (.ref 11), some (.int x), none, none] [] (I, J, R) _
  refine ev_iconst (v := 0) dX6_knownTo_0 (by decide) ?_
  refine ev_st (L' := [some (.ref 11), some (.int x), some (.int 0), none]) dX6_knownTo_1 rfl rfl ?_
  refine ev_iconst (v := 0) dX6_knownTo_2 (by decide) ?_
  refine ev_st (L' := [some (.ref 11), some (.int x), some (.int 0), some (.int 0)]) dX6_knownTo_3 rfl rfl ?_
  exact loop (ns + 1) 0 0 (by omega) (by omega) rfl
theorem k_lighter0 {I : Nat → Nat → Int32} {J : Nat → Nat → Int64} {R : Nat → Nat → Value} {d : Nat} {x : Int32} (hx : ix 4 x = none) : Cal lyC d hX11_lighter 3 [.ref 0, .int x] (I, J, R) (fun r M' => r = some (.int (-1)) ∧ M' = (I, J, R)) := by
  show Ev lyC d hX11_lighter 0 [some (.ref 0), some (.int x), none] [] (I, J, R) _
  refine ev_st dX11_lighter_0 rfl rfl ?_
  refine ev_if_lt (t := 9) (x := x) dX11_lighter_1 (by decide) (fun c_1 => ?_) (fun c_1 => ?_)
  · refine ev_iconst (v := -1) dX11_lighter_9 (by decide) ?_
    exact ev_iret dX11_lighter_10 rfl (⟨rfl, rfl⟩)
  · refine ev_st dX11_lighter_4 rfl rfl ?_
    refine ev_iconst (v := 4) dX11_lighter_5 (by decide) ?_
    refine ev_ic_lt (t := 11) (x := x) (y := 4) dX11_lighter_6 (by decide) (fun c_6 => ?_) (fun c_6 => ?_)
    · exact absurd hx (by simp [ix, Int32.not_lt.mp c_1, show x < nI 4 from c_6])
    · refine ev_iconst (v := -1) dX11_lighter_9 (by decide) ?_
      exact ev_iret dX11_lighter_10 rfl (⟨rfl, rfl⟩)
set_option maxHeartbeats 1000000 in
theorem k_lighter {I : Nat → Nat → Int32} {J : Nat → Nat → Int64} {R : Nat → Nat → Value} {d ns j : Nat} (hns : I 11 4 = nI ns) (hns8 : ns ≤ 8) (hj : j < 4) : Cal lyC (d + 3) hX11_lighter 3 [.ref 0, .int (nI j)] (I, J, R) (fun r M' => r = some (.int (k_sum (I 12) ((I 11 3 &&& k_kn (I 14) (nI j) ns) &&& (I 39 5 ^^^ (-1))) ns)) ∧ ∃ I3 J3, M' = (I3, J3, R) ∧ fC I I3 ∧ tC [((I 11 3 &&& k_kn (I 14) (nI j) ns) &&& (I 39 5 ^^^ (-1))).toInt64] I3 J3) := by
  show Ev lyC (d + 3) hX11_lighter 0 [some (.ref 0), some (.int (nI j)), none] [] (I, J, R) _
  refine ev_st dX11_lighter_0 rfl rfl ?_
  refine ev_if_ltN (t := 9) (a := j) dX11_lighter_1 (by decide) rfl (by omega) ?_
  refine ev_st dX11_lighter_4 rfl rfl ?_
  refine ev_iconst (v := 4) dX11_lighter_5 (by decide) ?_
  refine ev_ic_ltN (t := 11) (a := j) (b := 4) dX11_lighter_6 (by decide) rfl rfl (by omega) (by omega) (fun c_6 => ?_) (fun c_6 => ?_)
  · refine ev_st dX11_lighter_11 rfl rfl ?_
    refine ev_getC dX11_lighter_12 fr_11_42 rfl rfl ?_
    refine ev_getI (v := I 11 3) dX11_lighter_15 fr_11_325 rfl rfl rfl ?_
    refine ev_st dX11_lighter_18 rfl rfl ?_
    refine ev_getC dX11_lighter_19 fr_11_42 rfl rfl ?_
    refine ev_st dX11_lighter_22 rfl rfl ?_
    refine ev_call dX11_lighter_23 rfl rfl mr_11_328 rfl rfl rfl (k_knownTo (I := I) (J := J) hns hns8 (nI j)) ?_
    rintro _ _ ⟨rfl, rfl⟩
    show Ev lyC (d + 3) hX11_lighter 26 [some (.ref 0), some (.int (nI j)), none] [.int (k_kn (I 14) (nI j) ns), .int (I 11 3)] (I, J, R) _
    refine ev_st dX11_lighter_26 rfl rfl ?_
    refine ev_st dX11_lighter_27 rfl rfl ?_
    refine ev_getC dX11_lighter_28 fr_11_49 rfl rfl ?_
    refine ev_getI (v := I 39 5) dX11_lighter_31 fr_11_186 rfl rfl rfl ?_
    refine ev_iconst (v := -1) dX11_lighter_34 (by decide) ?_
    refine ev_st dX11_lighter_35 rfl rfl ?_
    refine ev_st dX11_lighter_36 rfl rfl ?_
    refine ev_st (L' := [some (.ref 0), some (.int (nI j)), some (.int (((I 11 3) &&& (k_kn (I 14) (nI j) ns)) &&& ((I 39 5) ^^^ ((-1)))))]) dX11_lighter_37 rfl rfl ?_
    refine ev_st dX11_lighter_38 rfl rfl ?_
    refine ev_getC dX11_lighter_39 fr_11_19 rfl rfl ?_
    refine ev_st dX11_lighter_42 rfl rfl ?_
    refine ev_st dX11_lighter_43 rfl rfl ?_
    refine ev_call dX11_lighter_44 rfl rfl mr_11_313 rfl rfl rfl (k_tell1 ((((I 11 3) &&& (k_kn (I 14) (nI j) ns)) &&& ((I 39 5) ^^^ ((-1)))).toInt64)) ?_
    rintro _ _ ⟨rfl, rfl⟩
    show Ev lyC (d + 3) hX11_lighter 47 [some (.ref 0), some (.int (nI j)), some (.int (((I 11 3) &&& (k_kn (I 14) (nI j) ns)) &&& ((I 39 5) ^^^ ((-1)))))] [] (ti_wr I 3 1 (nI 1), ti_wl J 4 0 ((((I 11 3) &&& (k_kn (I 14) (nI j) ns)) &&& ((I 39 5) ^^^ ((-1)))).toInt64), R) _
    refine ev_st dX11_lighter_47 rfl rfl ?_
    refine ev_getC dX11_lighter_48 fr_11_42 rfl rfl ?_
    refine ev_st dX11_lighter_51 rfl rfl ?_
    refine ev_call dX11_lighter_52 rfl rfl mr_11_331 rfl rfl rfl (k_weightOf (I := ti_wr I 3 1 (nI 1)) (J := ti_wl J 4 0 ((((I 11 3) &&& (k_kn (I 14) (nI j) ns)) &&& ((I 39 5) ^^^ ((-1)))).toInt64)) hns hns8 (((I 11 3) &&& (k_kn (I 14) (nI j) ns)) &&& ((I 39 5) ^^^ ((-1))))) ?_
    rintro _ _ ⟨rfl, rfl⟩
    show Ev lyC (d + 3) hX11_lighter 55 [some (.ref 0), some (.int (nI j)), some (.int (((I 11 3) &&& (k_kn (I 14) (nI j) ns)) &&& ((I 39 5) ^^^ ((-1)))))] [.int (k_sum (I 12) (((I 11 3) &&& (k_kn (I 14) (nI j) ns)) &&& ((I 39 5) ^^^ ((-1)))) ns)] (ti_wr I 3 1 (nI 1), ti_wl J 4 0 ((((I 11 3) &&& (k_kn (I 14) (nI j) ns)) &&& ((I 39 5) ^^^ ((-1)))).toInt64), R) _
    exact ev_iret dX11_lighter_55 rfl (⟨rfl, _, _, rfl, (fC.rf.w (p := 3) (k := 1) rfl _), tC1 rfl rfl⟩)
  · omega
def k_sec (f : Nat → Int32) (x : Int32) : Nat → Int32
  | 0 => 0
  | k + 1 => if bc (f k) = x then k_sec f x k ||| ((1 : Int32) <<< (nI k &&& 31)) else k_sec f x k
set_option maxHeartbeats 1000000 in
theorem k_knownToJust {I : Nat → Nat → Int32} {J : Nat → Nat → Int64} {R : Nat → Nat → Value} {d ns : Nat} (hns : I 11 4 = nI ns) (hns8 : ns ≤ 8) (x : Int32) : Cal lyC (d + 3) hX1_knownToJust 4 [.ref 23, .int x] (I, J, R) (fun r M' => r = some (.int (k_sec (I 14) x ns)) ∧ ∃ I3 J3, M' = (I3, J3, R) ∧ fC I I3 ∧ tC [(bc (k_sec (I 14) x ns)).toInt64, (k_sum (I 12) (k_sec (I 14) x ns) ns).toInt64] I3 J3) := by
  have loop : ∀ (k b : Nat) (m : Int32), b ≤ ns → ns - b < k → m = k_sec (I 14) x b → Ev lyC (d + 3) hX1_knownToJust 4 [some (.ref 23), some (.int x), some (.int m), some (.int (nI b))] [] (I, J, R) (fun r M' => r = some (.int (k_sec (I 14) x ns)) ∧ ∃ I3 J3, M' = (I3, J3, R) ∧ fC I I3 ∧ tC [(bc (k_sec (I 14) x ns)).toInt64, (k_sum (I 12) (k_sec (I 14) x ns) ns).toInt64] I3 J3) := by
    intro k
    induction k with
    | zero => intro b m h1 h2; omega
    | succ k ih =>
      intro b m hb hk hm
      refine ev_st dX1_knownToJust_4 rfl rfl ?_
      refine ev_st dX1_knownToJust_5 rfl rfl ?_
      refine ev_getC dX1_knownToJust_6 fr_1_30 rfl rfl ?_
      refine ev_getI (v := nI ns) dX1_knownToJust_9 fr_1_54 rfl rfl hns ?_
      refine ev_ic_geN (t := 43) (a := b) (b := ns) dX1_knownToJust_12 (by decide) rfl rfl (by omega) (by omega) (fun c_12 => ?_) (fun c_12 => ?_)
      · refine ev_st dX1_knownToJust_43 rfl rfl ?_
        refine ev_getC dX1_knownToJust_44 fr_1_34 rfl rfl ?_
        refine ev_st dX1_knownToJust_47 rfl rfl ?_
        refine ev_call dX1_knownToJust_48 rfl rfl mr_1_38 rfl rfl rfl (c_bc m) ?_
        rintro _ _ ⟨rfl, rfl⟩
        show Ev lyC (d + 3) hX1_knownToJust 51 [some (.ref 23), some (.int x), some (.int m), some (.int (nI b))] [.int (bc m), .ref 3] (I, J, R) _
        refine ev_st dX1_knownToJust_51 rfl rfl ?_
        refine ev_st dX1_knownToJust_52 rfl rfl ?_
        refine ev_getC dX1_knownToJust_53 fr_1_30 rfl rfl ?_
        refine ev_st dX1_knownToJust_56 rfl rfl ?_
        refine ev_call dX1_knownToJust_57 rfl rfl mr_1_63 rfl rfl rfl (k_weightOf (I := I) (J := J) hns hns8 m) ?_
        rintro _ _ ⟨rfl, rfl⟩
        show Ev lyC (d + 3) hX1_knownToJust 60 [some (.ref 23), some (.int x), some (.int m), some (.int (nI b))] [.int (k_sum (I 12) m ns), .long ((bc m).toInt64), .ref 3] (I, J, R) _
        refine ev_st dX1_knownToJust_60 rfl rfl ?_
        refine ev_call dX1_knownToJust_61 rfl rfl mr_1_66 rfl rfl rfl (k_tell2 ((bc m).toInt64) ((k_sum (I 12) m ns).toInt64)) ?_
        rintro _ _ ⟨rfl, rfl⟩
        show Ev lyC (d + 3) hX1_knownToJust 64 [some (.ref 23), some (.int x), some (.int m), some (.int (nI b))] [] (ti_wr I 3 1 (nI 2), ti_wl (ti_wl J 4 0 ((bc m).toInt64)) 4 1 ((k_sum (I 12) m ns).toInt64), R) _
        refine ev_st dX1_knownToJust_64 rfl rfl ?_
        exact ev_iret dX1_knownToJust_65 rfl (by subst hm; rw [show b = ns by omega]; exact ⟨rfl, _, _, rfl, (fC.rf.w (p := 3) (k := 1) rfl _), tC2 rfl rfl rfl⟩)
      · refine ev_st dX1_knownToJust_15 rfl rfl ?_
        refine ev_getC dX1_knownToJust_16 fr_1_30 rfl rfl ?_
        refine ev_getC dX1_knownToJust_19 fr_1_60 rfl rfl ?_
        refine ev_st dX1_knownToJust_22 rfl rfl ?_
        refine ev_iald (j := b) (v := I 14 b) dX1_knownToJust_23 rfl rfl (by omega) (by decide) rfl ?_
        refine ev_call dX1_knownToJust_24 rfl rfl mr_1_38 rfl rfl rfl (c_bc (I 14 b)) ?_
        rintro _ _ ⟨rfl, rfl⟩
        show Ev lyC (d + 3) hX1_knownToJust 27 [some (.ref 23), some (.int x), some (.int m), some (.int (nI b))] [.int (bc (I 14 b))] (I, J, R) _
        refine ev_st dX1_knownToJust_27 rfl rfl ?_
        refine ev_ic_ne (t := 37) (x := bc (I 14 b)) (y := x) dX1_knownToJust_28 (by decide) (fun c_28 => ?_) (fun c_28 => ?_)
        · refine ev_iincN (a := b) (b := b + 1) (L' := [some (.ref 23), some (.int x), some (.int m), some (.int (nI (b + 1)))]) dX1_knownToJust_37 rfl (nI_1 _) rfl ?_
          refine ev_goto (t := 4) dX1_knownToJust_40 (by decide) ?_
          exact ih _ _ (by omega) (by omega) (by simp [k_sec, hm, c_28])
        · refine ev_st dX1_knownToJust_31 rfl rfl ?_
          refine ev_iconst (v := 1) dX1_knownToJust_32 (by decide) ?_
          refine ev_st dX1_knownToJust_33 rfl rfl ?_
          refine ev_st dX1_knownToJust_34 rfl rfl ?_
          refine ev_st dX1_knownToJust_35 rfl rfl ?_
          refine ev_st (L' := [some (.ref 23), some (.int x), some (.int (m ||| ((1 : Int32) <<< ((nI b) &&& 31)))), some (.int (nI b))]) dX1_knownToJust_36 rfl rfl ?_
          refine ev_iincN (a := b) (b := b + 1) (L' := [some (.ref 23), some (.int x), some (.int (m ||| ((1 : Int32) <<< ((nI b) &&& 31)))), some (.int (nI (b + 1)))]) dX1_knownToJust_37 rfl (nI_1 _) rfl ?_
          refine ev_goto (t := 4) dX1_knownToJust_40 (by decide) ?_
          exact ih _ _ (by omega) (by omega) (by simp [k_sec, hm, c_28])
  show Ev lyC (d + 3) hX1_knownToJust 0 [some (.ref 23), some (.int x), none, none] [] (I, J, R) _
  refine ev_iconst (v := 0) dX1_knownToJust_0 (by decide) ?_
  refine ev_st (L' := [some (.ref 23), some (.int x), some (.int 0), none]) dX1_knownToJust_1 rfl rfl ?_
  refine ev_iconst (v := 0) dX1_knownToJust_2 (by decide) ?_
  refine ev_st (L' := [some (.ref 23), some (.int x), some (.int 0), some (.int 0)]) dX1_knownToJust_3 rfl rfl ?_
  exact loop (ns + 1) 0 0 (by omega) (by omega) rfl
theorem k_secret0 {I : Nat → Nat → Int32} {J : Nat → Nat → Int64} {R : Nat → Nat → Value} {d : Nat} {x : Int32} (hx : m_in x 0 4 = 0) : Cal lyC d hX11_secret 2 [.ref 0, .int x] (I, J, R) (fun r M' => r = some (.int (-1)) ∧ M' = (I, J, R)) := by
  show Ev lyC d hX11_secret 0 [some (.ref 0), some (.int x)] [] (I, J, R) _
  refine ev_st dX11_secret_0 rfl rfl ?_
  refine ev_if_lt (t := 9) (x := x) dX11_secret_1 (by decide) (fun c_1 => ?_) (fun c_1 => ?_)
  · refine ev_iconst (v := -1) dX11_secret_9 (by decide) ?_
    refine ev_goto (t := 21) dX11_secret_10 (by decide) ?_
    exact ev_iret dX11_secret_21 rfl (⟨rfl, rfl⟩)
  · refine ev_st dX11_secret_4 rfl rfl ?_
    refine ev_iconst (v := 4) dX11_secret_5 (by decide) ?_
    refine ev_ic_le (t := 13) (x := x) (y := 4) dX11_secret_6 (by decide) (fun c_6 => ?_) (fun c_6 => ?_)
    · exact absurd hx (by simp [m_in, c_1, c_6])
    · refine ev_iconst (v := -1) dX11_secret_9 (by decide) ?_
      refine ev_goto (t := 21) dX11_secret_10 (by decide) ?_
      exact ev_iret dX11_secret_21 rfl (⟨rfl, rfl⟩)
theorem k_secret {I : Nat → Nat → Int32} {J : Nat → Nat → Int64} {R : Nat → Nat → Value} {d : Nat} {x : Int32} (hx : m_in x 0 4 = 1) {Q : Option Value → TM → Prop} (hact : Cal lyC d hX1_knownToJust 4 [.ref 23, .int x] (I, J, R) (fun r M' => (∃ v, r = some (.int v)) ∧ Q r M')) : Cal lyC (d + 1) hX11_secret 2 [.ref 0, .int x] (I, J, R) Q := by
  show Ev lyC (d + 1) hX11_secret 0 [some (.ref 0), some (.int x)] [] (I, J, R) _
  refine ev_st dX11_secret_0 rfl rfl ?_
  refine ev_if_lt (t := 9) (x := x) dX11_secret_1 (by decide) (fun c_1 => ?_) (fun c_1 => ?_)
  · exact absurd hx (by simp [m_in, c_1])
  · refine ev_st dX11_secret_4 rfl rfl ?_
    refine ev_iconst (v := 4) dX11_secret_5 (by decide) ?_
    refine ev_ic_le (t := 13) (x := x) (y := 4) dX11_secret_6 (by decide) (fun c_6 => ?_) (fun c_6 => ?_)
    · refine ev_st dX11_secret_13 rfl rfl ?_
      refine ev_getC dX11_secret_14 fr_11_83 rfl rfl ?_
      refine ev_st dX11_secret_17 rfl rfl ?_
      refine ev_call dX11_secret_18 rfl rfl mr_11_334 rfl rfl rfl (hact) ?_
      rintro _ ⟨I3, J3, R3⟩ ⟨⟨vr, rfl⟩, hq⟩
      show Ev lyC (d + 1) hX11_secret 21 [some (.ref 0), some (.int x)] [.int vr] (I3, J3, R3) _
      exact ev_iret dX11_secret_21 rfl (hq)
    · exact absurd hx (by simp [m_in, c_1, c_6])
theorem k_cover0 {I : Nat → Nat → Int32} {J : Nat → Nat → Int64} {R : Nat → Nat → Value} {d ns : Nat} (hns : I 11 4 = nI ns) (hns8 : ns ≤ 8) {x : Int32} (hx : ix (2 ^ ns) x = none) : Cal lyC (d + 1) hX11_cover 2 [.ref 0, .int x] (I, J, R) (fun r M' => r = some (.int (-1)) ∧ M' = (I, J, R)) := by
  show Ev lyC (d + 1) hX11_cover 0 [some (.ref 0), some (.int x)] [] (I, J, R) _
  refine ev_st dX11_cover_0 rfl rfl ?_
  refine ev_getC dX11_cover_1 fr_11_42 rfl rfl ?_
  refine ev_st dX11_cover_4 rfl rfl ?_
  refine ev_call dX11_cover_5 rfl rfl mr_11_319 rfl rfl rfl ((by have K := k_holds (I := I) (J := J) (R := R) (d := d) hns hns8 x; simp only [hx, Option.isSome] at K; exact K)) ?_
  rintro _ _ ⟨rfl, rfl⟩
  show Ev lyC (d + 1) hX11_cover 8 [some (.ref 0), some (.int x)] [.int 0] (I, J, R) _
  refine ev_if_eq (t := 22) dX11_cover_8 (by decide) (fun _ => ?_) (fun q => absurd q (by decide))
  refine ev_iconst (v := -1) dX11_cover_22 (by decide) ?_
  exact ev_iret dX11_cover_23 rfl (⟨rfl, rfl⟩)
theorem k_cover {I : Nat → Nat → Int32} {J : Nat → Nat → Int64} {R : Nat → Nat → Value} {d : Nat} {ns j : Nat} (hns : I 11 4 = nI ns) (hns8 : ns ≤ 8) {x : Int32} (hx : ix (2 ^ ns) x = some j) {Q : Option Value → TM → Prop} (hact : Cal lyC d hX1_fewestKnowers 4 [.ref 23, .int x] (I, J, R) (fun r M' => (∃ v, r = some (.int v)) ∧ Q r M')) : Cal lyC (d + 1) hX11_cover 2 [.ref 0, .int x] (I, J, R) Q := by
  show Ev lyC (d + 1) hX11_cover 0 [some (.ref 0), some (.int x)] [] (I, J, R) _
  refine ev_st dX11_cover_0 rfl rfl ?_
  refine ev_getC dX11_cover_1 fr_11_42 rfl rfl ?_
  refine ev_st dX11_cover_4 rfl rfl ?_
  refine ev_call dX11_cover_5 rfl rfl mr_11_319 rfl rfl rfl ((by have K := k_holds (I := I) (J := J) (R := R) (d := d) hns hns8 x; simp only [hx, Option.isSome] at K; exact K)) ?_
  rintro _ _ ⟨rfl, rfl⟩
  show Ev lyC (d + 1) hX11_cover 8 [some (.ref 0), some (.int x)] [.int 1] (I, J, R) _
  refine ev_if_eq (t := 22) dX11_cover_8 (by decide) (fun q => absurd q (by decide)) (fun _ => ?_)
  refine ev_st dX11_cover_11 rfl rfl ?_
  refine ev_getC dX11_cover_12 fr_11_83 rfl rfl ?_
  refine ev_st dX11_cover_15 rfl rfl ?_
  refine ev_call dX11_cover_16 rfl rfl mr_11_322 rfl rfl rfl (hact) ?_
  rintro _ ⟨I3, J3, R3⟩ ⟨⟨vr, rfl⟩, hq⟩
  show Ev lyC (d + 1) hX11_cover 19 [some (.ref 0), some (.int x)] [.int vr] (I3, J3, R3) _
  refine ev_goto (t := 23) dX11_cover_19 (by decide) ?_
  exact ev_iret dX11_cover_23 rfl (hq)
