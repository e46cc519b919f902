/-! rules, by the class: steps held; a name read -/
/-- the steps that a rule of the class holds -/
def cS (p : Nat) (I : Nat → Nat → Int32) (C : List Int32) : Prop := I p 3 = nI C.length ∧ ∀ k v, C[k]? = some v → I (p + 1) k = v
/-- what reading a rule leaves alone -/
def eC (p : Nat) (I I3 : Nat → Nat → Int32) : Prop := ∀ q, q ≠ 1 → q ≠ p → q ≠ p + 1 → I3 q = I q
theorem eC.rf {p : Nat} {I : Nat → Nat → Int32} : eC p I I := fun _ _ _ _ => rfl
theorem eC.tr {p : Nat} {I I2 I3 : Nat → Nat → Int32} (h : eC p I I2) (g : eC p I2 I3) : eC p I I3 := fun q a b c => (g q a b c).trans (h q a b c)
theorem eC.x {p : Nat} {I I2 I3 : Nat → Nat → Int32} (h : eC p I I2) (g : xC I2 I3) : eC p I I3 := fun q a b c => (g q a).trans (h q a b c)
theorem cS.x {p : Nat} {I I3 : Nat → Nat → Int32} {C : List Int32} (h : cS p I C) (hp : p ≠ 1 ∧ p + 1 ≠ 1) (g : xC I I3) : cS p I3 C := ⟨(congrFun (g p hp.1) 3).trans h.1, fun k v e => (congrFun (g (p + 1) hp.2) k).trans (h.2 k v e)⟩
theorem cS.add {p : Nat} {I : Nat → Nat → Int32} {C : List Int32} {v : Int32} (h : cS p I C) : cS p (ti_wr (ti_wr I (p + 1) C.length v) p 3 (nI (C.length + 1))) (C ++ [v]) := by
  refine ⟨by rw [ti_wr_at, List.length_append]; rfl, fun k u e => ?_⟩
  rw [ti_wr_n (by omega)]
  by_cases hk : k = C.length
  · subst hk
    rw [List.getElem?_append_right (Nat.le_refl _), Nat.sub_self] at e
    cases e
    rw [ti_wr_at]
  · rw [wr_ne hk]
    refine h.2 k u ?_
    by_cases h2 : k < C.length
    · rwa [List.getElem?_append_left h2] at e
    · rw [List.getElem?_append_right (by omega)] at e
      have : (k - C.length) ≠ 0 := by omega
      obtain ⟨z, hz⟩ := Nat.exists_eq_succ_of_ne_zero this
      rw [hz] at e
      cases e
theorem eC.add {p : Nat} {I I2 : Nat → Nat → Int32} {k : Nat} {v w : Int32} (h : eC p I I2) : eC p I (ti_wr (ti_wr I2 (p + 1) k v) p 3 w) := fun q a b c => (ti_wr_n b).trans ((ti_wr_n c).trans (h q a b c))
theorem cR.add {p : Nat} {I : Nat → Nat → Int32} {t : Nat → Nat} {E N k : Nat} {s : PS} {v w : Int32} (h : cR I t E N s) (hp : 2 < p) : cR (ti_wr (ti_wr I (p + 1) k v) p 3 w) t E N s := cRn (by omega) (by omega) (cRn (by omega) (by omega) h)
theorem xC.add {p : Nat} {I : Nat → Nat → Int32} {C : List Int32} {k : Nat} {v : Int32} (h : cS p I C) (hp : p ≠ 1 ∧ p + 1 ≠ 1) : cS p (ti_wr I 1 k v) C := h.x hp xC.rf.w
/-- a name, or nothing -/
def gO (t : Nat → Nat) (E : Nat) (s : PS) : RR := if s.1 = true then gN t E s else (s, [], fun _ => 0)
theorem gO_no {t : Nat → Nat} {E : Nat} {s : PS} (h : s.1 = true → s.2 < E → lt7 (t s.2) = none) : (gO t E s).1 = (false, s.2) ∧ (gO t E s).2.1 = [] := by
  obtain ⟨b, a⟩ := s
  cases b
  · exact ⟨rfl, rfl⟩
  · unfold gO
    rw [if_pos rfl, gN.eq_def]
    split
    · next hx => rw [h rfl hx]; exact ⟨rfl, rfl⟩
    · exact ⟨rfl, rfl⟩
theorem i2c_n {c : Nat} (h : c < 256) : ((nI c).toUInt32 % 65536).toInt32 = nI c := by
  have : ∀ c, c < 256 → ((nI c).toUInt32 % 65536).toInt32 = nI c := by decide +kernel
  exact this c h
theorem ev_i2cN {lay : List TE} {d : Nat} {h : TH} {pc c : Nat} {L : TL} {st : List Value} {M : TM} {Q : Option Value → TM → Prop} (hd : decode h.2.1 pc = .ok (.i2c, 1)) (hc : c < 256) (kk : Ev lay d h (pc + 1) L (.int (nI c) :: st) M Q) : Ev lay d h pc L (.int (nI c) :: st) M Q := ev_st hd rfl (by simp only [ti_step, ti_u, i2c_n hc]) kk
theorem ix_n {c : Nat} (h : c < 256) (h2 : lt7 c = none) : ti_ix (nI c) = -1 := by
  have : ∀ c, c < 256 → lt7 c = none → ti_ix (nI c) = -1 := by decide +kernel
  exact this c h h2
theorem ix_s {c j : Nat} (h : c < 256) (h2 : lt7 c = some j) : ti_ix (nI c) = nI j := by
  have : ∀ c, c < 256 → ∀ j, j < 7 → lt7 c = some j → ti_ix (nI c) = nI j := by decide +kernel
  exact this c h j (lt7_s h2).2 h2
theorem c_rg {c : Nat} (h : c < 256) : (0 : Int32) ≤ nI c ∧ nI c ≤ 65535 := by
  have : ∀ c, c < 256 → (0 : Int32) ≤ nI c ∧ nI c ≤ 65535 := by decide +kernel
  exact this c h
theorem k_nameA_31 {I : Nat → Nat → Int32} {J : Nat → Nat → Int64} {R : Nat → Nat → Value} {t : Nat → Nat} {d E N : Nat} {s : PS} {C : List Int32} (hR : cR I t E N s) (hS : cS 31 I C) (hn : (gO t E s).1 = (false, s.2) ∧ (gO t E s).2.1 = []) : Cal lyC (d + 8) hX5_readName 4 [.ref 31, .ref 1, .int ((-1))] (I, J, R) (fun r M' => r = none ∧ ∃ I3, M' = (I3, J, R) ∧ eC 31 I I3 ∧ cR I3 t E N (gO t E s).1 ∧ cS 31 I3 (C ++ (gO t E s).2.1)) := by
  show Ev lyC (d + 8) hX5_readName 0 [some (.ref 31), some (.ref 1), some (.int ((-1))), none] [] (I, J, R) _
  refine ev_st dX5_readName_0 rfl rfl ?_
  refine ev_if_ge (t := 8) dX5_readName_1 (by decide) (fun q => absurd q (by decide)) (fun _ => ?_)
  refine ev_iconst (v := -1) dX5_readName_4 (by decide) ?_
  refine ev_goto (t := 15) dX5_readName_5 (by decide) ?_
  refine ev_st (L' := [some (.ref 31), some (.ref 1), some (.int ((-1))), some (.int ((-1)))]) dX5_readName_15 rfl rfl ?_
  refine ev_st dX5_readName_16 rfl rfl ?_
  refine ev_if_ge (t := 25) dX5_readName_17 (by decide) (fun q => absurd q (by decide)) (fun _ => ?_)
  refine ev_st dX5_readName_20 rfl rfl ?_
  refine ev_call dX5_readName_21 rfl rfl mr_5_91 rfl rfl rfl (k_refuse hR) ?_
  rintro _ _ ⟨rfl, I3, rfl, hx3, hR3⟩
  show Ev lyC (d + 8) hX5_readName 24 [some (.ref 31), some (.ref 1), some (.int ((-1))), some (.int ((-1)))] [] (I3, J, R) _
  exact ev_vret dX5_readName_24 rfl (⟨rfl, I3, rfl, eC.rf.x hx3, by rw [hn.1]; exact hR3, by rw [hn.2, List.append_nil]; exact hS.x (by decide) hx3⟩)
theorem k_nameB_31 {I : Nat → Nat → Int32} {J : Nat → Nat → Int64} {R : Nat → Nat → Value} {t : Nat → Nat} {d E N : Nat} {s : PS} {C : List Int32} (hR : cR I t E N s) (hS : cS 31 I C) {c : Nat} (hc : c < 256) (h7 : lt7 c = none) (hn : (gO t E s).1 = (false, s.2) ∧ (gO t E s).2.1 = []) : Cal lyC (d + 8) hX5_readName 4 [.ref 31, .ref 1, .int (nI c)] (I, J, R) (fun r M' => r = none ∧ ∃ I3, M' = (I3, J, R) ∧ eC 31 I I3 ∧ cR I3 t E N (gO t E s).1 ∧ cS 31 I3 (C ++ (gO t E s).2.1)) := by
  show Ev lyC (d + 8) hX5_readName 0 [some (.ref 31), some (.ref 1), some (.int (nI c)), none] [] (I, J, R) _
  refine ev_st dX5_readName_0 rfl rfl ?_
  refine ev_if_geN (t := 8) (a := c) dX5_readName_1 (by decide) rfl (by omega) ?_
  refine ev_ldcS (q := 900) dX5_readName_8 rfl ?_
  refine ev_st dX5_readName_10 rfl rfl ?_
  refine ev_i2cN dX5_readName_11 hc ?_
  refine ev_indexOf (by omega) dX5_readName_12 br_5_86 rfl (c_rg hc).1 (c_rg hc).2 ?_
  rw [ix_n hc h7]
  refine ev_st (L' := [some (.ref 31), some (.ref 1), some (.int (nI c)), some (.int ((-1)))]) dX5_readName_15 rfl rfl ?_
  refine ev_st dX5_readName_16 rfl rfl ?_
  refine ev_if_ge (t := 25) dX5_readName_17 (by decide) (fun q => absurd q (by decide)) (fun _ => ?_)
  refine ev_st dX5_readName_20 rfl rfl ?_
  refine ev_call dX5_readName_21 rfl rfl mr_5_91 rfl rfl rfl (k_refuse hR) ?_
  rintro _ _ ⟨rfl, I3, rfl, hx3, hR3⟩
  show Ev lyC (d + 8) hX5_readName 24 [some (.ref 31), some (.ref 1), some (.int (nI c)), some (.int ((-1)))] [] (I3, J, R) _
  exact ev_vret dX5_readName_24 rfl (⟨rfl, I3, rfl, eC.rf.x hx3, by rw [hn.1]; exact hR3, by rw [hn.2, List.append_nil]; exact hS.x (by decide) hx3⟩)
theorem k_nameC_31 {I : Nat → Nat → Int32} {J : Nat → Nat → Int64} {R : Nat → Nat → Value} {t : Nat → Nat} {d E N : Nat} {s : PS} {C : List Int32} (hR : cR I t E N s) (hS : cS 31 I C) {a c j : Nat} (hE : E ≤ 40) (hl : C.length ≤ s.2) (hc : c < 256) (h7 : lt7 c = some j) (hj : j < 7) (hs : s = (true, a)) (haE : a < E) (hta : t a = c) : Cal lyC (d + 8) hX5_readName 4 [.ref 31, .ref 1, .int (nI c)] (I, J, R) (fun r M' => r = none ∧ ∃ I3, M' = (I3, J, R) ∧ eC 31 I I3 ∧ cR I3 t E N (gO t E s).1 ∧ cS 31 I3 (C ++ (gO t E s).2.1)) := by
  subst hs
  have e1 : gO t E (true, a) = ((true, a + 1), [nI (1000 + j)], fun e => e j) := by unfold gO; rw [if_pos rfl, gN.eq_def, if_pos haE, hta, h7]
  have hl2 : C.length ≤ a := hl
  show Ev lyC (d + 8) hX5_readName 0 [some (.ref 31), some (.ref 1), some (.int (nI c)), none] [] (I, J, R) _
  refine ev_st dX5_readName_0 rfl rfl ?_
  refine ev_if_geN (t := 8) (a := c) dX5_readName_1 (by decide) rfl (by omega) ?_
  refine ev_ldcS (q := 900) dX5_readName_8 rfl ?_
  refine ev_st dX5_readName_10 rfl rfl ?_
  refine ev_i2cN dX5_readName_11 hc ?_
  refine ev_indexOf (by omega) dX5_readName_12 br_5_86 rfl (c_rg hc).1 (c_rg hc).2 ?_
  rw [ix_s hc h7]
  refine ev_st (L' := [some (.ref 31), some (.ref 1), some (.int (nI c)), some (.int (nI j))]) dX5_readName_15 rfl rfl ?_
  refine ev_st dX5_readName_16 rfl rfl ?_
  refine ev_if_geN (t := 25) (a := j) dX5_readName_17 (by decide) rfl (by omega) ?_
  refine ev_st dX5_readName_25 rfl rfl ?_
  refine ev_call dX5_readName_26 rfl rfl mr_5_65 rfl rfl rfl (k_skip hR haE) ?_
  rintro _ _ ⟨rfl, rfl⟩
  show Ev lyC (d + 8) hX5_readName 29 [some (.ref 31), some (.ref 1), some (.int (nI c)), some (.int (nI j))] [] (ti_wr I 1 2 (nI (a + 1)), J, R) _
  refine ev_st dX5_readName_29 rfl rfl ?_
  refine ev_sipush (v := 1000) dX5_readName_30 (by decide) ?_
  refine ev_st dX5_readName_33 rfl rfl ?_
  refine ev_iaddN (a := 1000) (b := j) (c := 1000 + j) dX5_readName_34 rfl rfl rfl ?_
  refine ev_call dX5_readName_35 rfl rfl mr_5_68 rfl rfl rfl (k_add1_31 (hS.x (by decide) xC.rf.w).1 (by omega) _) ?_
  rintro _ _ ⟨rfl, rfl⟩
  show Ev lyC (d + 8) hX5_readName 38 [some (.ref 31), some (.ref 1), some (.int (nI c)), some (.int (nI j))] [] (ti_wr (ti_wr (ti_wr I 1 2 (nI (a + 1))) 32 C.length (nI (1000 + j))) 31 3 (nI (C.length + 1)), J, R) _
  exact ev_vret dX5_readName_38 rfl (⟨rfl, _, rfl, (eC.rf.x xC.rf.w).add, by rw [e1]; exact (hR.at rfl (by omega)).add (by decide), by rw [e1]; exact (xC.add hS (by decide)).add⟩)
theorem k_readName_31 {I : Nat → Nat → Int32} {J : Nat → Nat → Int64} {R : Nat → Nat → Value} {t : Nat → Nat} {d E N : Nat} {s : PS} {C : List Int32} (hR : cR I t E N s) (hS : cS 31 I C)  (hE : E ≤ 40) (hl : C.length ≤ s.2) : Cal lyC (d + 8) hX5_readName 4 [.ref 31, .ref 1, .int (pk t E s)] (I, J, R) (fun r M' => r = none ∧ ∃ I3, M' = (I3, J, R) ∧ eC 31 I I3 ∧ cR I3 t E N (gO t E s).1 ∧ cS 31 I3 (C ++ (gO t E s).2.1)) := by
  obtain ⟨b, a⟩ := s
  cases b with
  | false => exact k_nameA_31 hR hS (gO_no (fun q => by cases q))
  | true =>
    by_cases haE : a < E
    · rw [show pk t E (true, a) = nI (t a) by unfold pk; rw [if_pos rfl, if_pos haE]]
      cases h7 : lt7 (t a) with
      | none => exact k_nameB_31 hR hS (hR.t a haE) h7 (gO_no (fun _ _ => h7))
      | some j => exact k_nameC_31 hR hS hE hl (hR.t a haE) h7 (lt7_s h7).2 rfl haE rfl
    · rw [show pk t E (true, a) = -1 by unfold pk; rw [if_pos rfl, if_neg haE]]
      exact k_nameA_31 hR hS (gO_no (fun _ q => absurd q haE))
theorem k_nameA_35 {I : Nat → Nat → Int32} {J : Nat → Nat → Int64} {R : Nat → Nat → Value} {t : Nat → Nat} {d E N : Nat} {s : PS} {C : List Int32} (hR : cR I t E N s) (hS : cS 35 I C) (hn : (gO t E s).1 = (false, s.2) ∧ (gO t E s).2.1 = []) : Cal lyC (d + 8) hX5_readName 4 [.ref 35, .ref 1, .int ((-1))] (I, J, R) (fun r M' => r = none ∧ ∃ I3, M' = (I3, J, R) ∧ eC 35 I I3 ∧ cR I3 t E N (gO t E s).1 ∧ cS 35 I3 (C ++ (gO t E s).2.1)) := by
  show Ev lyC (d + 8) hX5_readName 0 [some (.ref 35), some (.ref 1), some (.int ((-1))), none] [] (I, J, R) _
  refine ev_st dX5_readName_0 rfl rfl ?_
  refine ev_if_ge (t := 8) dX5_readName_1 (by decide) (fun q => absurd q (by decide)) (fun _ => ?_)
  refine ev_iconst (v := -1) dX5_readName_4 (by decide) ?_
  refine ev_goto (t := 15) dX5_readName_5 (by decide) ?_
  refine ev_st (L' := [some (.ref 35), some (.ref 1), some (.int ((-1))), some (.int ((-1)))]) dX5_readName_15 rfl rfl ?_
  refine ev_st dX5_readName_16 rfl rfl ?_
  refine ev_if_ge (t := 25) dX5_readName_17 (by decide) (fun q => absurd q (by decide)) (fun _ => ?_)
  refine ev_st dX5_readName_20 rfl rfl ?_
  refine ev_call dX5_readName_21 rfl rfl mr_5_91 rfl rfl rfl (k_refuse hR) ?_
  rintro _ _ ⟨rfl, I3, rfl, hx3, hR3⟩
  show Ev lyC (d + 8) hX5_readName 24 [some (.ref 35), some (.ref 1), some (.int ((-1))), some (.int ((-1)))] [] (I3, J, R) _
  exact ev_vret dX5_readName_24 rfl (⟨rfl, I3, rfl, eC.rf.x hx3, by rw [hn.1]; exact hR3, by rw [hn.2, List.append_nil]; exact hS.x (by decide) hx3⟩)
theorem k_nameB_35 {I : Nat → Nat → Int32} {J : Nat → Nat → Int64} {R : Nat → Nat → Value} {t : Nat → Nat} {d E N : Nat} {s : PS} {C : List Int32} (hR : cR I t E N s) (hS : cS 35 I C) {c : Nat} (hc : c < 256) (h7 : lt7 c = none) (hn : (gO t E s).1 = (false, s.2) ∧ (gO t E s).2.1 = []) : Cal lyC (d + 8) hX5_readName 4 [.ref 35, .ref 1, .int (nI c)] (I, J, R) (fun r M' => r = none ∧ ∃ I3, M' = (I3, J, R) ∧ eC 35 I I3 ∧ cR I3 t E N (gO t E s).1 ∧ cS 35 I3 (C ++ (gO t E s).2.1)) := by
  show Ev lyC (d + 8) hX5_readName 0 [some (.ref 35), some (.ref 1), some (.int (nI c)), none] [] (I, J, R) _
  refine ev_st dX5_readName_0 rfl rfl ?_
  refine ev_if_geN (t := 8) (a := c) dX5_readName_1 (by decide) rfl (by omega) ?_
  refine ev_ldcS (q := 900) dX5_readName_8 rfl ?_
  refine ev_st dX5_readName_10 rfl rfl ?_
  refine ev_i2cN dX5_readName_11 hc ?_
  refine ev_indexOf (by omega) dX5_readName_12 br_5_86 rfl (c_rg hc).1 (c_rg hc).2 ?_
  rw [ix_n hc h7]
  refine ev_st (L' := [some (.ref 35), some (.ref 1), some (.int (nI c)), some (.int ((-1)))]) dX5_readName_15 rfl rfl ?_
  refine ev_st dX5_readName_16 rfl rfl ?_
  refine ev_if_ge (t := 25) dX5_readName_17 (by decide) (fun q => absurd q (by decide)) (fun _ => ?_)
  refine ev_st dX5_readName_20 rfl rfl ?_
  refine ev_call dX5_readName_21 rfl rfl mr_5_91 rfl rfl rfl (k_refuse hR) ?_
  rintro _ _ ⟨rfl, I3, rfl, hx3, hR3⟩
  show Ev lyC (d + 8) hX5_readName 24 [some (.ref 35), some (.ref 1), some (.int (nI c)), some (.int ((-1)))] [] (I3, J, R) _
  exact ev_vret dX5_readName_24 rfl (⟨rfl, I3, rfl, eC.rf.x hx3, by rw [hn.1]; exact hR3, by rw [hn.2, List.append_nil]; exact hS.x (by decide) hx3⟩)
theorem k_nameC_35 {I : Nat → Nat → Int32} {J : Nat → Nat → Int64} {R : Nat → Nat → Value} {t : Nat → Nat} {d E N : Nat} {s : PS} {C : List Int32} (hR : cR I t E N s) (hS : cS 35 I C) {a c j : Nat} (hE : E ≤ 40) (hl : C.length ≤ s.2) (hc : c < 256) (h7 : lt7 c = some j) (hj : j < 7) (hs : s = (true, a)) (haE : a < E) (hta : t a = c) : Cal lyC (d + 8) hX5_readName 4 [.ref 35, .ref 1, .int (nI c)] (I, J, R) (fun r M' => r = none ∧ ∃ I3, M' = (I3, J, R) ∧ eC 35 I I3 ∧ cR I3 t E N (gO t E s).1 ∧ cS 35 I3 (C ++ (gO t E s).2.1)) := by
  subst hs
  have e1 : gO t E (true, a) = ((true, a + 1), [nI (1000 + j)], fun e => e j) := by unfold gO; rw [if_pos rfl, gN.eq_def, if_pos haE, hta, h7]
  have hl2 : C.length ≤ a := hl
  show Ev lyC (d + 8) hX5_readName 0 [some (.ref 35), some (.ref 1), some (.int (nI c)), none] [] (I, J, R) _
  refine ev_st dX5_readName_0 rfl rfl ?_
  refine ev_if_geN (t := 8) (a := c) dX5_readName_1 (by decide) rfl (by omega) ?_
  refine ev_ldcS (q := 900) dX5_readName_8 rfl ?_
  refine ev_st dX5_readName_10 rfl rfl ?_
  refine ev_i2cN dX5_readName_11 hc ?_
  refine ev_indexOf (by omega) dX5_readName_12 br_5_86 rfl (c_rg hc).1 (c_rg hc).2 ?_
  rw [ix_s hc h7]
  refine ev_st (L' := [some (.ref 35), some (.ref 1), some (.int (nI c)), some (.int (nI j))]) dX5_readName_15 rfl rfl ?_
  refine ev_st dX5_readName_16 rfl rfl ?_
  refine ev_if_geN (t := 25) (a := j) dX5_readName_17 (by decide) rfl (by omega) ?_
  refine ev_st dX5_readName_25 rfl rfl ?_
  refine ev_call dX5_readName_26 rfl rfl mr_5_65 rfl rfl rfl (k_skip hR haE) ?_
  rintro _ _ ⟨rfl, rfl⟩
  show Ev lyC (d + 8) hX5_readName 29 [some (.ref 35), some (.ref 1), some (.int (nI c)), some (.int (nI j))] [] (ti_wr I 1 2 (nI (a + 1)), J, R) _
  refine ev_st dX5_readName_29 rfl rfl ?_
  refine ev_sipush (v := 1000) dX5_readName_30 (by decide) ?_
  refine ev_st dX5_readName_33 rfl rfl ?_
  refine ev_iaddN (a := 1000) (b := j) (c := 1000 + j) dX5_readName_34 rfl rfl rfl ?_
  refine ev_call dX5_readName_35 rfl rfl mr_5_68 rfl rfl rfl (k_add1_35 (hS.x (by decide) xC.rf.w).1 (by omega) _) ?_
  rintro _ _ ⟨rfl, rfl⟩
  show Ev lyC (d + 8) hX5_readName 38 [some (.ref 35), some (.ref 1), some (.int (nI c)), some (.int (nI j))] [] (ti_wr (ti_wr (ti_wr I 1 2 (nI (a + 1))) 36 C.length (nI (1000 + j))) 35 3 (nI (C.length + 1)), J, R) _
  exact ev_vret dX5_readName_38 rfl (⟨rfl, _, rfl, (eC.rf.x xC.rf.w).add, by rw [e1]; exact (hR.at rfl (by omega)).add (by decide), by rw [e1]; exact (xC.add hS (by decide)).add⟩)
theorem k_readName_35 {I : Nat → Nat → Int32} {J : Nat → Nat → Int64} {R : Nat → Nat → Value} {t : Nat → Nat} {d E N : Nat} {s : PS} {C : List Int32} (hR : cR I t E N s) (hS : cS 35 I C)  (hE : E ≤ 40) (hl : C.length ≤ s.2) : Cal lyC (d + 8) hX5_readName 4 [.ref 35, .ref 1, .int (pk t E s)] (I, J, R) (fun r M' => r = none ∧ ∃ I3, M' = (I3, J, R) ∧ eC 35 I I3 ∧ cR I3 t E N (gO t E s).1 ∧ cS 35 I3 (C ++ (gO t E s).2.1)) := by
  obtain ⟨b, a⟩ := s
  cases b with
  | false => exact k_nameA_35 hR hS (gO_no (fun q => by cases q))
  | true =>
    by_cases haE : a < E
    · rw [show pk t E (true, a) = nI (t a) by unfold pk; rw [if_pos rfl, if_pos haE]]
      cases h7 : lt7 (t a) with
      | none => exact k_nameB_35 hR hS (hR.t a haE) h7 (gO_no (fun _ _ => h7))
      | some j => exact k_nameC_35 hR hS hE hl (hR.t a haE) h7 (lt7_s h7).2 rfl haE rfl
    · rw [show pk t E (true, a) = -1 by unfold pk; rw [if_pos rfl, if_neg haE]]
      exact k_nameA_35 hR hS (gO_no (fun _ q => absurd q haE))
