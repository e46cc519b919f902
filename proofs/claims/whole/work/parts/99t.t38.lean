/-! rules, by the class: things -/
/-- a method of the class that reads -/
def kQ (p : Nat) (I : Nat → Nat → Int32) (J : Nat → Nat → Int64) (R : Nat → Nat → Value) (t : Nat → Nat) (E N : Nat) (s : PS) (C : List Int32) (r : Option Value) (M : TM) : Prop := r = none ∧ ∃ I3, M = (I3, J, R) ∧ eC p I I3 ∧ cR I3 t E N s ∧ cS p I3 C
def kRd (h : TH) (mL p : Nat) (dep : Int32) (D0 : Nat) (t : Nat → Nat) (E N : Nat) (f : PS → RR) : Prop := ∀ (I : Nat → Nat → Int32) (J : Nat → Nat → Int64) (R : Nat → Nat → Value) (s : PS) (C : List Int32) (D : Nat), D0 ≤ D → cR I t E N s → cS p I C → C.length ≤ s.2 → Cal lyC D h mL [.ref p, .ref 1, .int dep] (I, J, R) (kQ p I J R t E N (f s).1 (C ++ (f s).2.1))
/-- the method of the class that reads what is joined, at a level -/
def kRj (l p : Nat) (dep : Int32) (D0 : Nat) (t : Nat → Nat) (E N : Nat) (f : PS → RR) : Prop := ∀ (I : Nat → Nat → Int32) (J : Nat → Nat → Int64) (R : Nat → Nat → Value) (s : PS) (C : List Int32) (D : Nat), D0 ≤ D → cR I t E N s → cS p I C → C.length ≤ s.2 → Cal lyC D hX5_readJoined 7 [.ref p, .ref 1, .int (nI l), .int dep] (I, J, R) (kQ p I J R t E N (f s).1 (C ++ (f s).2.1))
/-- a step is paid by a sign -/
def pay (f : PS → RR) : Prop := ∀ s, (f s).2.1.length + s.2 ≤ (f s).1.2
theorem pay_gN {t : Nat → Nat} {E : Nat} : pay (gN t E) := by
  intro s
  rw [gN.eq_def]
  split
  · split
    · show 1 + s.2 ≤ s.2 + 1; omega
    · show 0 + s.2 ≤ s.2; omega
  · show 0 + s.2 ≤ s.2; omega
theorem sNum3 {t : Nat → Nat} {E : Nat} {s : PS} (h1 : s.1 = true) (h : s.2 < E ∧ 48 ≤ t s.2 ∧ t s.2 ≤ 57) : (sNum t E 3 0 999 s).2.1 = true ∧ s.2 + 1 ≤ (sNum t E 3 0 999 s).2.2 := by
  have h2 : s.2 + 1 ≤ (sdig t E 3 0 s.2).2 := by
    rw [sdig_s h]
    exact (sdig_le 2 _ _).1
  have h3 := sdig_v (t := t) (E := E) 3 0 s.2
  unfold sNum
  rw [if_pos h1, if_neg (by omega), if_neg (by omega)]
  exact ⟨rfl, h2⟩
theorem sNeed_le {t : Nat → Nat} {E c : Nat} {s : PS} : s.2 ≤ (sNeed t E c s).2 := by
  unfold sNeed
  split
  · show s.2 ≤ s.2 + 1; omega
  · exact Nat.le_refl _
theorem pay_gB {t : Nat → Nat} {E : Nat} {f : Option (PS → RR)} (hf : ∀ g, f = some g → pay g) : pay (gB t E f) := by
  intro s
  rw [gB.eq_def]
  split
  · next h1 =>
    split
    · next h2 => have := (sNum3 h1 h2).2; show 1 + s.2 ≤ (sNum t E 3 0 999 s).2.2; omega
    · cases f with
      | none => exact pay_gN s
      | some g =>
        simp only
        split
        · have h3 := hf g rfl (true, s.2 + 1)
          have h4 := @sNeed_le t E 41 (g (true, s.2 + 1)).1
          show (g (true, s.2 + 1)).2.1.length + s.2 ≤ (sNeed t E 41 (g (true, s.2 + 1)).1).2
          have h5 : (g (true, s.2 + 1)).2.1.length + (s.2 + 1) ≤ (g (true, s.2 + 1)).1.2 := h3
          omega
        · exact pay_gN s
  · show 0 + s.2 ≤ s.2; omega
theorem sMin_le {t : Nat → Nat} {E : Nat} : ∀ (m : Nat) (s : PS), s.2 + (sMin t E m s).1 ≤ (sMin t E m s).2.2
  | 0, s => Nat.le_refl _
  | m + 1, s => by
    rw [sMin]
    split
    · have := sMin_le (t := t) (E := E) m (true, s.2 + 1)
      have h2 : s.2 + 1 + (sMin t E m (true, s.2 + 1)).1 ≤ (sMin t E m (true, s.2 + 1)).2.2 := this
      show s.2 + ((sMin t E m (true, s.2 + 1)).1 + 1) ≤ (sMin t E m (true, s.2 + 1)).2.2
      omega
    · exact Nat.le_refl _
theorem pay_gT {t : Nat → Nat} {E : Nat} {f : Option (PS → RR)} (hf : ∀ g, f = some g → pay g) : pay (gT t E f) := by
  intro s
  have h1 := sMin_le (t := t) (E := E) 40 s
  have h2 := pay_gB (t := t) (E := E) hf (sMin t E 40 s).2
  show ((gB t E f (sMin t E 40 s).2).2.1 ++ (if (sMin t E 40 s).1 % 2 = 1 then [2000] else [])).length + s.2 ≤ (gB t E f (sMin t E 40 s).2).1.2
  rw [List.length_append]
  split
  · show _ + 1 + s.2 ≤ _; omega
  · show _ + 0 + s.2 ≤ _; omega
theorem pay_gJ {t : Nat → Nat} {f : PS → RR} {a : RR} {z : Nat} (hf : pay f) (h : a.2.1.length + z ≤ a.1.2) : (gJ t f a).2.1.length + z ≤ (gJ t f a).1.2 := by
  have h3 : (f (true, a.1.2 + 1)).2.1.length + (a.1.2 + 1) ≤ (f (true, a.1.2 + 1)).1.2 := hf (true, a.1.2 + 1)
  show (a.2.1 ++ (f (true, a.1.2 + 1)).2.1 ++ [nI (2000 + t a.1.2)]).length + z ≤ (f (true, a.1.2 + 1)).1.2
  rw [List.length_append, List.length_append]
  show _ + _ + 1 + z ≤ _
  omega
theorem pay_gL {t : Nat → Nat} {E k1 k2 z : Nat} {f : PS → RR} (hf : pay f) : ∀ (m : Nat) (a : RR), a.2.1.length + z ≤ a.1.2 → (gL t E k1 k2 f m a).2.1.length + z ≤ (gL t E k1 k2 f m a).1.2
  | 0, a, h => h
  | m + 1, a, h => by
    rw [gL]
    split
    · exact pay_gL hf m _ (pay_gJ hf h)
    · exact h
theorem pay_gP {t : Nat → Nat} {E : Nat} {f : PS → RR} (hf : pay f) : pay (gP t E f) := fun s => pay_gL hf 40 (f s) (hf s)
theorem pay_gU {t : Nat → Nat} {E : Nat} {f : PS → RR} (hf : pay f) : pay (gU t E f) := fun s => pay_gL hf 40 (f s) (hf s)
theorem pay_gE {t : Nat → Nat} {E : Nat} {f : PS → RR} (hf : pay f) : pay (gE t E f) := by
  intro s
  unfold gE
  split
  · exact pay_gJ hf (hf s)
  · exact hf s
theorem pay_rE {t : Nat → Nat} {E : Nat} : ∀ r, pay (rE t E r)
  | 0 => pay_gE (pay_gU (pay_gP (pay_gT (fun g e => by cases e))))
  | r + 1 => pay_gE (pay_gU (pay_gP (pay_gT (fun g e => by cases e; exact pay_rE r))))
theorem tog1 {g : Int32} {v : Nat} (h : g = nI (v % 2)) (h0 : ¬ g = 0) : (0 : Int32) = nI ((v + 1) % 2) := by
  rcases Nat.mod_two_eq_zero_or_one v with q | q
  · rw [q] at h; exact absurd h h0
  · rw [show (v + 1) % 2 = 0 by omega]; rfl
theorem tog0 {g : Int32} {v : Nat} (h : g = nI (v % 2)) (h0 : g = 0) : (1 : Int32) = nI ((v + 1) % 2) := by
  rcases Nat.mod_two_eq_zero_or_one v with q | q
  · rw [show (v + 1) % 2 = 1 by omega]; rfl
  · rw [q] at h; rw [h] at h0; exact absurd h0 (by decide)
theorem cR.le {I : Nat → Nat → Int32} {t : Nat → Nat} {E N : Nat} {s : PS} (h : cR I t E N s) : s.2 ≤ E := h.2.2.2.2.2.1
theorem k_thN_31 {I I2 : Nat → Nat → Int32} {J : Nat → Nat → Int64} {R : Nat → Nat → Value} {t : Nat → Nat} {d E N : Nat} {s : PS} {C : List Int32} {dep g : Int32} {z4 : Option Value} (hx2 : eC 31 I I2) (hR2 : cR I2 t E N s) (hS2 : cS 31 I2 C) (hl : ¬ g = 0 → C.length < 40) : Ev lyC (d + 9) hX5_readThing 114 [some (.ref 31), some (.ref 1), some (.int dep), some (.int g), z4] [] (I2, J, R) (kQ 31 I J R t E N s (C ++ (if g = 0 then [] else [2000]))) := by
  refine ev_st dX5_readThing_114 rfl rfl ?_
  refine ev_if_eq (t := 125) (x := g) dX5_readThing_115 (by decide) (fun c_115 => ?_) (fun c_115 => ?_)
  · exact ev_vret dX5_readThing_125 rfl (⟨rfl, _, rfl, hx2, hR2, by rw [if_pos c_115, List.append_nil]; exact hS2⟩)
  · refine ev_st dX5_readThing_118 rfl rfl ?_
    refine ev_sipush (v := 2000) dX5_readThing_119 (by decide) ?_
    refine ev_call dX5_readThing_122 rfl rfl mr_5_68 rfl rfl rfl (k_add1_31 hS2.1 (hl c_115) _) ?_
    rintro _ _ ⟨rfl, rfl⟩
    show Ev lyC (d + 9) hX5_readThing 125 [some (.ref 31), some (.ref 1), some (.int dep), some (.int g), z4] [] (ti_wr (ti_wr I2 32 C.length 2000) 31 3 (nI (C.length + 1)), J, R) _
    exact ev_vret dX5_readThing_125 rfl (⟨rfl, _, rfl, hx2.add, hR2.add (by decide), by rw [if_neg c_115]; exact hS2.add⟩)
set_option maxHeartbeats 1000000 in
theorem k_thA_31 {I I2 : Nat → Nat → Int32} {J : Nat → Nat → Int64} {R : Nat → Nat → Value} {t : Nat → Nat} {d E N : Nat} {s : PS} {C : List Int32} {dep g : Int32} {z4 : Option Value} {f : Option (PS → RR)} (hf : ∀ g, f = some g → pay g) (hx2 : eC 31 I I2) (hR2 : cR I2 t E N s) (hS2 : cS 31 I2 C) (hl : C.length ≤ s.2) (hl1 : ¬ g = 0 → C.length + 1 ≤ s.2) (hE : E ≤ 40) (hpk : pk t E s = -1) (hB : gB t E f s = gO t E s) : Ev lyC (d + 9) hX5_readThing 37 [some (.ref 31), some (.ref 1), some (.int dep), some (.int g), z4] [] (I2, J, R) (kQ 31 I J R t E N (gB t E f s).1 (C ++ (gB t E f s).2.1 ++ (if g = 0 then [] else [2000]))) := by
  have hpay := pay_gB (t := t) (E := E) hf s
  have hle : (gB t E f s).1.2 ≤ E → ¬ g = 0 → (C ++ (gB t E f s).2.1).length < 40 := by
    intro q1 q2
    have := hl1 q2
    rw [List.length_append]
    omega
  refine ev_st dX5_readThing_37 rfl rfl ?_
  refine ev_call dX5_readThing_38 rfl rfl mr_5_59 rfl rfl rfl (k_peek hR2) ?_
  rintro _ _ ⟨e1, rfl⟩
  rw [hpk] at e1
  subst e1
  show Ev lyC (d + 9) hX5_readThing 41 [some (.ref 31), some (.ref 1), some (.int dep), some (.int g), z4] [.int ((-1))] (I2, J, R) _
  refine ev_st (L' := [some (.ref 31), some (.ref 1), some (.int dep), some (.int g), some (.int ((-1)))]) dX5_readThing_41 rfl rfl ?_
  refine ev_st dX5_readThing_43 rfl rfl ?_
  refine ev_bipush (v := 48) dX5_readThing_45 (by decide) ?_
  refine ev_ic_lt (t := 73) (x := (-1)) (y := 48) dX5_readThing_47 (by decide) (fun c_47 => ?_) (fun c_47 => ?_)
  · refine ev_st dX5_readThing_73 rfl rfl ?_
    refine ev_bipush (v := 40) dX5_readThing_75 (by decide) ?_
    refine ev_ic_ne (t := 107) (x := (-1)) (y := 40) dX5_readThing_77 (by decide) (fun c_77 => ?_) (fun c_77 => ?_)
    · refine ev_st dX5_readThing_107 rfl rfl ?_
      refine ev_st dX5_readThing_108 rfl rfl ?_
      refine ev_st dX5_readThing_109 rfl rfl ?_
      refine ev_call dX5_readThing_111 rfl rfl mr_5_81 rfl rfl rfl (hpk ▸ k_readName_31 hR2 hS2 hE hl) ?_
      rintro _ _ ⟨rfl, I3, rfl, hx3, hR3, hS3⟩
      show Ev lyC (d + 9) hX5_readThing 114 [some (.ref 31), some (.ref 1), some (.int dep), some (.int g), some (.int ((-1)))] [] (I3, J, R) _
      rw [← hB] at hR3 hS3
      exact k_thN_31 (hx2.tr hx3) hR3 hS3 (hle hR3.le)
    · exact absurd c_77 (by decide)
  · exact absurd c_47 (by decide)
set_option maxHeartbeats 1000000 in
theorem k_thB_31 {I I2 : Nat → Nat → Int32} {J : Nat → Nat → Int64} {R : Nat → Nat → Value} {t : Nat → Nat} {d E N : Nat} {s : PS} {C : List Int32} {dep g : Int32} {z4 : Option Value} {f : Option (PS → RR)} (hf : ∀ g, f = some g → pay g) (hx2 : eC 31 I I2) (hR2 : cR I2 t E N s) (hS2 : cS 31 I2 C) (hl : C.length ≤ s.2) (hl1 : ¬ g = 0 → C.length + 1 ≤ s.2) (hE : E ≤ 40) {c : Nat} (hc : c < 256) (hpk : pk t E s = nI c) (hnd : ¬ (48 ≤ c ∧ c ≤ 57)) (hnb : c ≠ 40) (hB : gB t E f s = gO t E s) : Ev lyC (d + 9) hX5_readThing 37 [some (.ref 31), some (.ref 1), some (.int dep), some (.int g), z4] [] (I2, J, R) (kQ 31 I J R t E N (gB t E f s).1 (C ++ (gB t E f s).2.1 ++ (if g = 0 then [] else [2000]))) := by
  have hpay := pay_gB (t := t) (E := E) hf s
  have hle : (gB t E f s).1.2 ≤ E → ¬ g = 0 → (C ++ (gB t E f s).2.1).length < 40 := by
    intro q1 q2
    have := hl1 q2
    rw [List.length_append]
    omega
  refine ev_st dX5_readThing_37 rfl rfl ?_
  refine ev_call dX5_readThing_38 rfl rfl mr_5_59 rfl rfl rfl (k_peek hR2) ?_
  rintro _ _ ⟨e1, rfl⟩
  rw [hpk] at e1
  subst e1
  show Ev lyC (d + 9) hX5_readThing 41 [some (.ref 31), some (.ref 1), some (.int dep), some (.int g), z4] [.int (nI c)] (I2, J, R) _
  refine ev_st (L' := [some (.ref 31), some (.ref 1), some (.int dep), some (.int g), some (.int (nI c))]) dX5_readThing_41 rfl rfl ?_
  refine ev_st dX5_readThing_43 rfl rfl ?_
  refine ev_bipush (v := 48) dX5_readThing_45 (by decide) ?_
  refine ev_ic_ltN (t := 73) (a := c) (b := 48) dX5_readThing_47 (by decide) rfl rfl (by omega) (by omega) (fun c_47 => ?_) (fun c_47 => ?_)
  · refine ev_st dX5_readThing_73 rfl rfl ?_
    refine ev_bipush (v := 40) dX5_readThing_75 (by decide) ?_
    refine ev_ic_neN (t := 107) (a := c) (b := 40) dX5_readThing_77 (by decide) rfl rfl (by omega) (by omega) (fun c_77 => ?_) (fun c_77 => ?_)
    · refine ev_st dX5_readThing_107 rfl rfl ?_
      refine ev_st dX5_readThing_108 rfl rfl ?_
      refine ev_st dX5_readThing_109 rfl rfl ?_
      refine ev_call dX5_readThing_111 rfl rfl mr_5_81 rfl rfl rfl (hpk ▸ k_readName_31 hR2 hS2 hE hl) ?_
      rintro _ _ ⟨rfl, I3, rfl, hx3, hR3, hS3⟩
      show Ev lyC (d + 9) hX5_readThing 114 [some (.ref 31), some (.ref 1), some (.int dep), some (.int g), some (.int (nI c))] [] (I3, J, R) _
      rw [← hB] at hR3 hS3
      exact k_thN_31 (hx2.tr hx3) hR3 hS3 (hle hR3.le)
    · omega
  · refine ev_st dX5_readThing_50 rfl rfl ?_
    refine ev_bipush (v := 57) dX5_readThing_52 (by decide) ?_
    refine ev_ic_gtN (t := 73) (a := c) (b := 57) dX5_readThing_54 (by decide) rfl rfl (by omega) (by omega) (fun c_54 => ?_) (fun c_54 => ?_)
    · refine ev_st dX5_readThing_73 rfl rfl ?_
      refine ev_bipush (v := 40) dX5_readThing_75 (by decide) ?_
      refine ev_ic_neN (t := 107) (a := c) (b := 40) dX5_readThing_77 (by decide) rfl rfl (by omega) (by omega) (fun c_77 => ?_) (fun c_77 => ?_)
      · refine ev_st dX5_readThing_107 rfl rfl ?_
        refine ev_st dX5_readThing_108 rfl rfl ?_
        refine ev_st dX5_readThing_109 rfl rfl ?_
        refine ev_call dX5_readThing_111 rfl rfl mr_5_81 rfl rfl rfl (hpk ▸ k_readName_31 hR2 hS2 hE hl) ?_
        rintro _ _ ⟨rfl, I3, rfl, hx3, hR3, hS3⟩
        show Ev lyC (d + 9) hX5_readThing 114 [some (.ref 31), some (.ref 1), some (.int dep), some (.int g), some (.int (nI c))] [] (I3, J, R) _
        rw [← hB] at hR3 hS3
        exact k_thN_31 (hx2.tr hx3) hR3 hS3 (hle hR3.le)
      · omega
    · omega
set_option maxHeartbeats 1000000 in
theorem k_thC_31 {I I2 : Nat → Nat → Int32} {J : Nat → Nat → Int64} {R : Nat → Nat → Value} {t : Nat → Nat} {d E N : Nat} {s : PS} {C : List Int32} {dep g : Int32} {z4 : Option Value} {f : Option (PS → RR)} (hf : ∀ g, f = some g → pay g) (hx2 : eC 31 I I2) (hR2 : cR I2 t E N s) (hS2 : cS 31 I2 C) (hl : C.length ≤ s.2) (hl1 : ¬ g = 0 → C.length + 1 ≤ s.2) (hE : E ≤ 40) (hpk : pk t E s = nI 40) (hB : gB t E f s = gO t E s) : Ev lyC (d + 9) hX5_readThing 37 [some (.ref 31), some (.ref 1), some (.int (nI 4)), some (.int g), z4] [] (I2, J, R) (kQ 31 I J R t E N (gB t E f s).1 (C ++ (gB t E f s).2.1 ++ (if g = 0 then [] else [2000]))) := by
  have hpay := pay_gB (t := t) (E := E) hf s
  have hle : (gB t E f s).1.2 ≤ E → ¬ g = 0 → (C ++ (gB t E f s).2.1).length < 40 := by
    intro q1 q2
    have := hl1 q2
    rw [List.length_append]
    omega
  refine ev_st dX5_readThing_37 rfl rfl ?_
  refine ev_call dX5_readThing_38 rfl rfl mr_5_59 rfl rfl rfl (k_peek hR2) ?_
  rintro _ _ ⟨e1, rfl⟩
  rw [hpk] at e1
  subst e1
  show Ev lyC (d + 9) hX5_readThing 41 [some (.ref 31), some (.ref 1), some (.int (nI 4)), some (.int g), z4] [.int (nI 40)] (I2, J, R) _
  refine ev_st (L' := [some (.ref 31), some (.ref 1), some (.int (nI 4)), some (.int g), some (.int (nI 40))]) dX5_readThing_41 rfl rfl ?_
  refine ev_st dX5_readThing_43 rfl rfl ?_
  refine ev_bipush (v := 48) dX5_readThing_45 (by decide) ?_
  refine ev_ic_ltN (t := 73) (a := 40) (b := 48) dX5_readThing_47 (by decide) rfl rfl (by omega) (by omega) (fun c_47 => ?_) (fun c_47 => ?_)
  · refine ev_st dX5_readThing_73 rfl rfl ?_
    refine ev_bipush (v := 40) dX5_readThing_75 (by decide) ?_
    refine ev_ic_neN (t := 107) (a := 40) (b := 40) dX5_readThing_77 (by decide) rfl rfl (by omega) (by omega) (fun c_77 => ?_) (fun c_77 => ?_)
    · omega
    · refine ev_st dX5_readThing_80 rfl rfl ?_
      refine ev_iconst (v := 4) dX5_readThing_81 (by decide) ?_
      refine ev_ic_geN (t := 107) (a := 4) (b := 4) dX5_readThing_82 (by decide) rfl rfl (by omega) (by omega) (fun c_82 => ?_) (fun c_82 => ?_)
      · refine ev_st dX5_readThing_107 rfl rfl ?_
        refine ev_st dX5_readThing_108 rfl rfl ?_
        refine ev_st dX5_readThing_109 rfl rfl ?_
        refine ev_call dX5_readThing_111 rfl rfl mr_5_81 rfl rfl rfl (hpk ▸ k_readName_31 hR2 hS2 hE hl) ?_
        rintro _ _ ⟨rfl, I3, rfl, hx3, hR3, hS3⟩
        show Ev lyC (d + 9) hX5_readThing 114 [some (.ref 31), some (.ref 1), some (.int (nI 4)), some (.int g), some (.int (nI 40))] [] (I3, J, R) _
        rw [← hB] at hR3 hS3
        exact k_thN_31 (hx2.tr hx3) hR3 hS3 (hle hR3.le)
      · omega
  · omega
set_option maxHeartbeats 1000000 in
theorem k_thD_31 {I I2 : Nat → Nat → Int32} {J : Nat → Nat → Int64} {R : Nat → Nat → Value} {t : Nat → Nat} {d E N : Nat} {s : PS} {C : List Int32} {dep g : Int32} {z4 : Option Value} {f : Option (PS → RR)} (hf : ∀ g, f = some g → pay g) (hx2 : eC 31 I I2) (hR2 : cR I2 t E N s) (hS2 : cS 31 I2 C) (hl : C.length ≤ s.2) (hl1 : ¬ g = 0 → C.length + 1 ≤ s.2) (hE : E ≤ 40) {c : Nat} (hc : 48 ≤ c ∧ c ≤ 57) (hpk : pk t E s = nI c) (hl2 : C.length < 40) (hB : (gB t E f s).1 = (sNum t E 3 0 999 s).2 ∧ (gB t E f s).2.1 = [nI (sNum t E 3 0 999 s).1]) : Ev lyC (d + 9) hX5_readThing 37 [some (.ref 31), some (.ref 1), some (.int dep), some (.int g), z4] [] (I2, J, R) (kQ 31 I J R t E N (gB t E f s).1 (C ++ (gB t E f s).2.1 ++ (if g = 0 then [] else [2000]))) := by
  have hpay := pay_gB (t := t) (E := E) hf s
  have hle : (gB t E f s).1.2 ≤ E → ¬ g = 0 → (C ++ (gB t E f s).2.1).length < 40 := by
    intro q1 q2
    have := hl1 q2
    rw [List.length_append]
    omega
  refine ev_st dX5_readThing_37 rfl rfl ?_
  refine ev_call dX5_readThing_38 rfl rfl mr_5_59 rfl rfl rfl (k_peek hR2) ?_
  rintro _ _ ⟨e1, rfl⟩
  rw [hpk] at e1
  subst e1
  show Ev lyC (d + 9) hX5_readThing 41 [some (.ref 31), some (.ref 1), some (.int dep), some (.int g), z4] [.int (nI c)] (I2, J, R) _
  refine ev_st (L' := [some (.ref 31), some (.ref 1), some (.int dep), some (.int g), some (.int (nI c))]) dX5_readThing_41 rfl rfl ?_
  refine ev_st dX5_readThing_43 rfl rfl ?_
  refine ev_bipush (v := 48) dX5_readThing_45 (by decide) ?_
  refine ev_ic_ltN (t := 73) (a := c) (b := 48) dX5_readThing_47 (by decide) rfl rfl (by omega) (by omega) (fun c_47 => ?_) (fun c_47 => ?_)
  · omega
  · refine ev_st dX5_readThing_50 rfl rfl ?_
    refine ev_bipush (v := 57) dX5_readThing_52 (by decide) ?_
    refine ev_ic_gtN (t := 73) (a := c) (b := 57) dX5_readThing_54 (by decide) rfl rfl (by omega) (by omega) (fun c_54 => ?_) (fun c_54 => ?_)
    · omega
    · refine ev_st dX5_readThing_57 rfl rfl ?_
      refine ev_st dX5_readThing_58 rfl rfl ?_
      refine ev_iconst (v := 3) dX5_readThing_59 (by decide) ?_
      refine ev_iconst (v := 0) dX5_readThing_60 (by decide) ?_
      refine ev_sipush (v := 999) dX5_readThing_61 (by decide) ?_
      refine ev_call dX5_readThing_64 rfl rfl mr_5_75 rfl rfl rfl (k_rn (m := 3) (lo := 0) (hi := 999) hR2 (by decide) (by decide) (by decide) (by decide)) ?_
      rintro _ _ ⟨rfl, I3, rfl, hx3, hR3⟩
      have hS3 := hS2.x (by decide) hx3
      show Ev lyC (d + 9) hX5_readThing 67 [some (.ref 31), some (.ref 1), some (.int dep), some (.int g), some (.int (nI c))] [.int (nI ((sNum t E 3 0 999 s).1)), .ref 31] (I3, J, R) _
      refine ev_call dX5_readThing_67 rfl rfl mr_5_68 rfl rfl rfl (k_add1_31 hS3.1 (by omega) _) ?_
      rintro _ _ ⟨rfl, rfl⟩
      show Ev lyC (d + 9) hX5_readThing 70 [some (.ref 31), some (.ref 1), some (.int dep), some (.int g), some (.int (nI c))] [] (ti_wr (ti_wr I3 32 C.length (nI ((sNum t E 3 0 999 s).1))) 31 3 (nI (C.length + 1)), J, R) _
      refine ev_goto (t := 114) dX5_readThing_70 (by decide) ?_
      refine (hB.1 ▸ hB.2 ▸ k_thN_31 (hx2.x hx3).add (hR3.add (by decide)) hS3.add (fun q => ?_))
      rw [← hB.2]
      exact hle (by rw [hB.1]; exact hR3.le) q
set_option maxHeartbeats 1000000 in
theorem k_thE_31 {I I2 : Nat → Nat → Int32} {J : Nat → Nat → Int64} {R : Nat → Nat → Value} {t : Nat → Nat} {d E N : Nat} {s : PS} {C : List Int32} {g : Int32} {z4 : Option Value} {f : Option (PS → RR)} (hf : ∀ g, f = some g → pay g) (hx2 : eC 31 I I2) (hR2 : cR I2 t E N s) (hS2 : cS 31 I2 C) (hl : C.length ≤ s.2) (hl1 : ¬ g = 0 → C.length + 1 ≤ s.2) (hE : E ≤ 40) {k D0 : Nat} {q : PS → RR} (hk : k < 4) (hd : D0 ≤ d + 8) (hC : kRj 0 31 (nI (k + 1)) D0 t E N q) (hft : s.1 = true) (haE : s.2 < E) (hpk : pk t E s = nI 40) (hB : (gB t E f s).1 = sNeed t E 41 (q (true, s.2 + 1)).1 ∧ (gB t E f s).2.1 = (q (true, s.2 + 1)).2.1) : Ev lyC (d + 9) hX5_readThing 37 [some (.ref 31), some (.ref 1), some (.int (nI k)), some (.int g), z4] [] (I2, J, R) (kQ 31 I J R t E N (gB t E f s).1 (C ++ (gB t E f s).2.1 ++ (if g = 0 then [] else [2000]))) := by
  have hpay := pay_gB (t := t) (E := E) hf s
  have hle : (gB t E f s).1.2 ≤ E → ¬ g = 0 → (C ++ (gB t E f s).2.1).length < 40 := by
    intro q1 q2
    have := hl1 q2
    rw [List.length_append]
    omega
  refine ev_st dX5_readThing_37 rfl rfl ?_
  refine ev_call dX5_readThing_38 rfl rfl mr_5_59 rfl rfl rfl (k_peek hR2) ?_
  rintro _ _ ⟨e1, rfl⟩
  rw [hpk] at e1
  subst e1
  show Ev lyC (d + 9) hX5_readThing 41 [some (.ref 31), some (.ref 1), some (.int (nI k)), some (.int g), z4] [.int (nI 40)] (I2, J, R) _
  refine ev_st (L' := [some (.ref 31), some (.ref 1), some (.int (nI k)), some (.int g), some (.int (nI 40))]) dX5_readThing_41 rfl rfl ?_
  refine ev_st dX5_readThing_43 rfl rfl ?_
  refine ev_bipush (v := 48) dX5_readThing_45 (by decide) ?_
  refine ev_ic_ltN (t := 73) (a := 40) (b := 48) dX5_readThing_47 (by decide) rfl rfl (by omega) (by omega) (fun c_47 => ?_) (fun c_47 => ?_)
  · refine ev_st dX5_readThing_73 rfl rfl ?_
    refine ev_bipush (v := 40) dX5_readThing_75 (by decide) ?_
    refine ev_ic_neN (t := 107) (a := 40) (b := 40) dX5_readThing_77 (by decide) rfl rfl (by omega) (by omega) (fun c_77 => ?_) (fun c_77 => ?_)
    · omega
    · refine ev_st dX5_readThing_80 rfl rfl ?_
      refine ev_iconst (v := 4) dX5_readThing_81 (by decide) ?_
      refine ev_ic_geN (t := 107) (a := k) (b := 4) dX5_readThing_82 (by decide) rfl rfl (by omega) (by omega) (fun c_82 => ?_) (fun c_82 => ?_)
      · omega
      · refine ev_st dX5_readThing_85 rfl rfl ?_
        refine ev_call dX5_readThing_86 rfl rfl mr_5_65 rfl rfl rfl (k_skip (hR2.fine hft) haE) ?_
        rintro _ _ ⟨rfl, rfl⟩
        show Ev lyC (d + 9) hX5_readThing 89 [some (.ref 31), some (.ref 1), some (.int (nI k)), some (.int g), some (.int (nI 40))] [] (ti_wr I2 1 2 (nI (s.2 + 1)), J, R) _
        refine ev_st dX5_readThing_89 rfl rfl ?_
        refine ev_st dX5_readThing_90 rfl rfl ?_
        refine ev_iconst (v := 0) dX5_readThing_91 (by decide) ?_
        refine ev_st dX5_readThing_92 rfl rfl ?_
        refine ev_iconst (v := 1) dX5_readThing_93 (by decide) ?_
        refine ev_iaddN (a := k) (b := 1) (c := k + 1) dX5_readThing_94 rfl rfl rfl ?_
        refine ev_call dX5_readThing_95 rfl rfl mr_5_48 rfl rfl rfl (hC _ J R (true, s.2 + 1) C _ (by omega) (hR2.at hft (by omega)) (xC.add hS2 (by decide)) (by show C.length ≤ s.2 + 1; omega)) ?_
        rintro _ _ ⟨rfl, I3, rfl, hx3, hR3, hS3⟩
        show Ev lyC (d + 9) hX5_readThing 98 [some (.ref 31), some (.ref 1), some (.int (nI k)), some (.int g), some (.int (nI 40))] [] (I3, J, R) _
        refine ev_st dX5_readThing_98 rfl rfl ?_
        refine ev_bipush (v := 41) dX5_readThing_99 (by decide) ?_
        refine ev_call dX5_readThing_101 rfl rfl mr_5_78 rfl rfl rfl (k_require (c := 41) hR3 (by decide)) ?_
        rintro _ _ ⟨rfl, I4, rfl, hx4, hR4⟩
        show Ev lyC (d + 9) hX5_readThing 104 [some (.ref 31), some (.ref 1), some (.int (nI k)), some (.int g), some (.int (nI 40))] [] (I4, J, R) _
        refine ev_goto (t := 114) dX5_readThing_104 (by decide) ?_
        have hRn := hR4
        rw [← hB.1] at hRn
        refine (hB.2 ▸ k_thN_31 (((hx2.x xC.rf.w).tr hx3).x hx4) hRn (hS3.x (by decide) hx4) (fun q => ?_))
        rw [← hB.2]
        exact hle hRn.le q
  · omega
theorem k_thN_35 {I I2 : Nat → Nat → Int32} {J : Nat → Nat → Int64} {R : Nat → Nat → Value} {t : Nat → Nat} {d E N : Nat} {s : PS} {C : List Int32} {dep g : Int32} {z4 : Option Value} (hx2 : eC 35 I I2) (hR2 : cR I2 t E N s) (hS2 : cS 35 I2 C) (hl : ¬ g = 0 → C.length < 40) : Ev lyC (d + 9) hX5_readThing 114 [some (.ref 35), some (.ref 1), some (.int dep), some (.int g), z4] [] (I2, J, R) (kQ 35 I J R t E N s (C ++ (if g = 0 then [] else [2000]))) := by
  refine ev_st dX5_readThing_114 rfl rfl ?_
  refine ev_if_eq (t := 125) (x := g) dX5_readThing_115 (by decide) (fun c_115 => ?_) (fun c_115 => ?_)
  · exact ev_vret dX5_readThing_125 rfl (⟨rfl, _, rfl, hx2, hR2, by rw [if_pos c_115, List.append_nil]; exact hS2⟩)
  · refine ev_st dX5_readThing_118 rfl rfl ?_
    refine ev_sipush (v := 2000) dX5_readThing_119 (by decide) ?_
    refine ev_call dX5_readThing_122 rfl rfl mr_5_68 rfl rfl rfl (k_add1_35 hS2.1 (hl c_115) _) ?_
    rintro _ _ ⟨rfl, rfl⟩
    show Ev lyC (d + 9) hX5_readThing 125 [some (.ref 35), some (.ref 1), some (.int dep), some (.int g), z4] [] (ti_wr (ti_wr I2 36 C.length 2000) 35 3 (nI (C.length + 1)), J, R) _
    exact ev_vret dX5_readThing_125 rfl (⟨rfl, _, rfl, hx2.add, hR2.add (by decide), by rw [if_neg c_115]; exact hS2.add⟩)
set_option maxHeartbeats 1000000 in
theorem k_thA_35 {I I2 : Nat → Nat → Int32} {J : Nat → Nat → Int64} {R : Nat → Nat → Value} {t : Nat → Nat} {d E N : Nat} {s : PS} {C : List Int32} {dep g : Int32} {z4 : Option Value} {f : Option (PS → RR)} (hf : ∀ g, f = some g → pay g) (hx2 : eC 35 I I2) (hR2 : cR I2 t E N s) (hS2 : cS 35 I2 C) (hl : C.length ≤ s.2) (hl1 : ¬ g = 0 → C.length + 1 ≤ s.2) (hE : E ≤ 40) (hpk : pk t E s = -1) (hB : gB t E f s = gO t E s) : Ev lyC (d + 9) hX5_readThing 37 [some (.ref 35), some (.ref 1), some (.int dep), some (.int g), z4] [] (I2, J, R) (kQ 35 I J R t E N (gB t E f s).1 (C ++ (gB t E f s).2.1 ++ (if g = 0 then [] else [2000]))) := by
  have hpay := pay_gB (t := t) (E := E) hf s
  have hle : (gB t E f s).1.2 ≤ E → ¬ g = 0 → (C ++ (gB t E f s).2.1).length < 40 := by
    intro q1 q2
    have := hl1 q2
    rw [List.length_append]
    omega
  refine ev_st dX5_readThing_37 rfl rfl ?_
  refine ev_call dX5_readThing_38 rfl rfl mr_5_59 rfl rfl rfl (k_peek hR2) ?_
  rintro _ _ ⟨e1, rfl⟩
  rw [hpk] at e1
  subst e1
  show Ev lyC (d + 9) hX5_readThing 41 [some (.ref 35), some (.ref 1), some (.int dep), some (.int g), z4] [.int ((-1))] (I2, J, R) _
  refine ev_st (L' := [some (.ref 35), some (.ref 1), some (.int dep), some (.int g), some (.int ((-1)))]) dX5_readThing_41 rfl rfl ?_
  refine ev_st dX5_readThing_43 rfl rfl ?_
  refine ev_bipush (v := 48) dX5_readThing_45 (by decide) ?_
  refine ev_ic_lt (t := 73) (x := (-1)) (y := 48) dX5_readThing_47 (by decide) (fun c_47 => ?_) (fun c_47 => ?_)
  · refine ev_st dX5_readThing_73 rfl rfl ?_
    refine ev_bipush (v := 40) dX5_readThing_75 (by decide) ?_
    refine ev_ic_ne (t := 107) (x := (-1)) (y := 40) dX5_readThing_77 (by decide) (fun c_77 => ?_) (fun c_77 => ?_)
    · refine ev_st dX5_readThing_107 rfl rfl ?_
      refine ev_st dX5_readThing_108 rfl rfl ?_
      refine ev_st dX5_readThing_109 rfl rfl ?_
      refine ev_call dX5_readThing_111 rfl rfl mr_5_81 rfl rfl rfl (hpk ▸ k_readName_35 hR2 hS2 hE hl) ?_
      rintro _ _ ⟨rfl, I3, rfl, hx3, hR3, hS3⟩
      show Ev lyC (d + 9) hX5_readThing 114 [some (.ref 35), some (.ref 1), some (.int dep), some (.int g), some (.int ((-1)))] [] (I3, J, R) _
      rw [← hB] at hR3 hS3
      exact k_thN_35 (hx2.tr hx3) hR3 hS3 (hle hR3.le)
    · exact absurd c_77 (by decide)
  · exact absurd c_47 (by decide)
set_option maxHeartbeats 1000000 in
theorem k_thB_35 {I I2 : Nat → Nat → Int32} {J : Nat → Nat → Int64} {R : Nat → Nat → Value} {t : Nat → Nat} {d E N : Nat} {s : PS} {C : List Int32} {dep g : Int32} {z4 : Option Value} {f : Option (PS → RR)} (hf : ∀ g, f = some g → pay g) (hx2 : eC 35 I I2) (hR2 : cR I2 t E N s) (hS2 : cS 35 I2 C) (hl : C.length ≤ s.2) (hl1 : ¬ g = 0 → C.length + 1 ≤ s.2) (hE : E ≤ 40) {c : Nat} (hc : c < 256) (hpk : pk t E s = nI c) (hnd : ¬ (48 ≤ c ∧ c ≤ 57)) (hnb : c ≠ 40) (hB : gB t E f s = gO t E s) : Ev lyC (d + 9) hX5_readThing 37 [some (.ref 35), some (.ref 1), some (.int dep), some (.int g), z4] [] (I2, J, R) (kQ 35 I J R t E N (gB t E f s).1 (C ++ (gB t E f s).2.1 ++ (if g = 0 then [] else [2000]))) := by
  have hpay := pay_gB (t := t) (E := E) hf s
  have hle : (gB t E f s).1.2 ≤ E → ¬ g = 0 → (C ++ (gB t E f s).2.1).length < 40 := by
    intro q1 q2
    have := hl1 q2
    rw [List.length_append]
    omega
  refine ev_st dX5_readThing_37 rfl rfl ?_
  refine ev_call dX5_readThing_38 rfl rfl mr_5_59 rfl rfl rfl (k_peek hR2) ?_
  rintro _ _ ⟨e1, rfl⟩
  rw [hpk] at e1
  subst e1
  show Ev lyC (d + 9) hX5_readThing 41 [some (.ref 35), some (.ref 1), some (.int dep), some (.int g), z4] [.int (nI c)] (I2, J, R) _
  refine ev_st (L' := [some (.ref 35), some (.ref 1), some (.int dep), some (.int g), some (.int (nI c))]) dX5_readThing_41 rfl rfl ?_
  refine ev_st dX5_readThing_43 rfl rfl ?_
  refine ev_bipush (v := 48) dX5_readThing_45 (by decide) ?_
  refine ev_ic_ltN (t := 73) (a := c) (b := 48) dX5_readThing_47 (by decide) rfl rfl (by omega) (by omega) (fun c_47 => ?_) (fun c_47 => ?_)
  · refine ev_st dX5_readThing_73 rfl rfl ?_
    refine ev_bipush (v := 40) dX5_readThing_75 (by decide) ?_
    refine ev_ic_neN (t := 107) (a := c) (b := 40) dX5_readThing_77 (by decide) rfl rfl (by omega) (by omega) (fun c_77 => ?_) (fun c_77 => ?_)
    · refine ev_st dX5_readThing_107 rfl rfl ?_
      refine ev_st dX5_readThing_108 rfl rfl ?_
      refine ev_st dX5_readThing_109 rfl rfl ?_
      refine ev_call dX5_readThing_111 rfl rfl mr_5_81 rfl rfl rfl (hpk ▸ k_readName_35 hR2 hS2 hE hl) ?_
      rintro _ _ ⟨rfl, I3, rfl, hx3, hR3, hS3⟩
      show Ev lyC (d + 9) hX5_readThing 114 [some (.ref 35), some (.ref 1), some (.int dep), some (.int g), some (.int (nI c))] [] (I3, J, R) _
      rw [← hB] at hR3 hS3
      exact k_thN_35 (hx2.tr hx3) hR3 hS3 (hle hR3.le)
    · omega
  · refine ev_st dX5_readThing_50 rfl rfl ?_
    refine ev_bipush (v := 57) dX5_readThing_52 (by decide) ?_
    refine ev_ic_gtN (t := 73) (a := c) (b := 57) dX5_readThing_54 (by decide) rfl rfl (by omega) (by omega) (fun c_54 => ?_) (fun c_54 => ?_)
    · refine ev_st dX5_readThing_73 rfl rfl ?_
      refine ev_bipush (v := 40) dX5_readThing_75 (by decide) ?_
      refine ev_ic_neN (t := 107) (a := c) (b := 40) dX5_readThing_77 (by decide) rfl rfl (by omega) (by omega) (fun c_77 => ?_) (fun c_77 => ?_)
      · refine ev_st dX5_readThing_107 rfl rfl ?_
        refine ev_st dX5_readThing_108 rfl rfl ?_
        refine ev_st dX5_readThing_109 rfl rfl ?_
        refine ev_call dX5_readThing_111 rfl rfl mr_5_81 rfl rfl rfl (hpk ▸ k_readName_35 hR2 hS2 hE hl) ?_
        rintro _ _ ⟨rfl, I3, rfl, hx3, hR3, hS3⟩
        show Ev lyC (d + 9) hX5_readThing 114 [some (.ref 35), some (.ref 1), some (.int dep), some (.int g), some (.int (nI c))] [] (I3, J, R) _
        rw [← hB] at hR3 hS3
        exact k_thN_35 (hx2.tr hx3) hR3 hS3 (hle hR3.le)
      · omega
    · omega
set_option maxHeartbeats 1000000 in
theorem k_thC_35 {I I2 : Nat → Nat → Int32} {J : Nat → Nat → Int64} {R : Nat → Nat → Value} {t : Nat → Nat} {d E N : Nat} {s : PS} {C : List Int32} {dep g : Int32} {z4 : Option Value} {f : Option (PS → RR)} (hf : ∀ g, f = some g → pay g) (hx2 : eC 35 I I2) (hR2 : cR I2 t E N s) (hS2 : cS 35 I2 C) (hl : C.length ≤ s.2) (hl1 : ¬ g = 0 → C.length + 1 ≤ s.2) (hE : E ≤ 40) (hpk : pk t E s = nI 40) (hB : gB t E f s = gO t E s) : Ev lyC (d + 9) hX5_readThing 37 [some (.ref 35), some (.ref 1), some (.int (nI 4)), some (.int g), z4] [] (I2, J, R) (kQ 35 I J R t E N (gB t E f s).1 (C ++ (gB t E f s).2.1 ++ (if g = 0 then [] else [2000]))) := by
  have hpay := pay_gB (t := t) (E := E) hf s
  have hle : (gB t E f s).1.2 ≤ E → ¬ g = 0 → (C ++ (gB t E f s).2.1).length < 40 := by
    intro q1 q2
    have := hl1 q2
    rw [List.length_append]
    omega
  refine ev_st dX5_readThing_37 rfl rfl ?_
  refine ev_call dX5_readThing_38 rfl rfl mr_5_59 rfl rfl rfl (k_peek hR2) ?_
  rintro _ _ ⟨e1, rfl⟩
  rw [hpk] at e1
  subst e1
  show Ev lyC (d + 9) hX5_readThing 41 [some (.ref 35), some (.ref 1), some (.int (nI 4)), some (.int g), z4] [.int (nI 40)] (I2, J, R) _
  refine ev_st (L' := [some (.ref 35), some (.ref 1), some (.int (nI 4)), some (.int g), some (.int (nI 40))]) dX5_readThing_41 rfl rfl ?_
  refine ev_st dX5_readThing_43 rfl rfl ?_
  refine ev_bipush (v := 48) dX5_readThing_45 (by decide) ?_
  refine ev_ic_ltN (t := 73) (a := 40) (b := 48) dX5_readThing_47 (by decide) rfl rfl (by omega) (by omega) (fun c_47 => ?_) (fun c_47 => ?_)
  · refine ev_st dX5_readThing_73 rfl rfl ?_
    refine ev_bipush (v := 40) dX5_readThing_75 (by decide) ?_
    refine ev_ic_neN (t := 107) (a := 40) (b := 40) dX5_readThing_77 (by decide) rfl rfl (by omega) (by omega) (fun c_77 => ?_) (fun c_77 => ?_)
    · omega
    · refine ev_st dX5_readThing_80 rfl rfl ?_
      refine ev_iconst (v := 4) dX5_readThing_81 (by decide) ?_
      refine ev_ic_geN (t := 107) (a := 4) (b := 4) dX5_readThing_82 (by decide) rfl rfl (by omega) (by omega) (fun c_82 => ?_) (fun c_82 => ?_)
      · refine ev_st dX5_readThing_107 rfl rfl ?_
        refine ev_st dX5_readThing_108 rfl rfl ?_
        refine ev_st dX5_readThing_109 rfl rfl ?_
        refine ev_call dX5_readThing_111 rfl rfl mr_5_81 rfl rfl rfl (hpk ▸ k_readName_35 hR2 hS2 hE hl) ?_
        rintro _ _ ⟨rfl, I3, rfl, hx3, hR3, hS3⟩
        show Ev lyC (d + 9) hX5_readThing 114 [some (.ref 35), some (.ref 1), some (.int (nI 4)), some (.int g), some (.int (nI 40))] [] (I3, J, R) _
        rw [← hB] at hR3 hS3
        exact k_thN_35 (hx2.tr hx3) hR3 hS3 (hle hR3.le)
      · omega
  · omega
set_option maxHeartbeats 1000000 in
theorem k_thD_35 {I I2 : Nat → Nat → Int32} {J : Nat → Nat → Int64} {R : Nat → Nat → Value} {t : Nat → Nat} {d E N : Nat} {s : PS} {C : List Int32} {dep g : Int32} {z4 : Option Value} {f : Option (PS → RR)} (hf : ∀ g, f = some g → pay g) (hx2 : eC 35 I I2) (hR2 : cR I2 t E N s) (hS2 : cS 35 I2 C) (hl : C.length ≤ s.2) (hl1 : ¬ g = 0 → C.length + 1 ≤ s.2) (hE : E ≤ 40) {c : Nat} (hc : 48 ≤ c ∧ c ≤ 57) (hpk : pk t E s = nI c) (hl2 : C.length < 40) (hB : (gB t E f s).1 = (sNum t E 3 0 999 s).2 ∧ (gB t E f s).2.1 = [nI (sNum t E 3 0 999 s).1]) : Ev lyC (d + 9) hX5_readThing 37 [some (.ref 35), some (.ref 1), some (.int dep), some (.int g), z4] [] (I2, J, R) (kQ 35 I J R t E N (gB t E f s).1 (C ++ (gB t E f s).2.1 ++ (if g = 0 then [] else [2000]))) := by
  have hpay := pay_gB (t := t) (E := E) hf s
  have hle : (gB t E f s).1.2 ≤ E → ¬ g = 0 → (C ++ (gB t E f s).2.1).length < 40 := by
    intro q1 q2
    have := hl1 q2
    rw [List.length_append]
    omega
  refine ev_st dX5_readThing_37 rfl rfl ?_
  refine ev_call dX5_readThing_38 rfl rfl mr_5_59 rfl rfl rfl (k_peek hR2) ?_
  rintro _ _ ⟨e1, rfl⟩
  rw [hpk] at e1
  subst e1
  show Ev lyC (d + 9) hX5_readThing 41 [some (.ref 35), some (.ref 1), some (.int dep), some (.int g), z4] [.int (nI c)] (I2, J, R) _
  refine ev_st (L' := [some (.ref 35), some (.ref 1), some (.int dep), some (.int g), some (.int (nI c))]) dX5_readThing_41 rfl rfl ?_
  refine ev_st dX5_readThing_43 rfl rfl ?_
  refine ev_bipush (v := 48) dX5_readThing_45 (by decide) ?_
  refine ev_ic_ltN (t := 73) (a := c) (b := 48) dX5_readThing_47 (by decide) rfl rfl (by omega) (by omega) (fun c_47 => ?_) (fun c_47 => ?_)
  · omega
  · refine ev_st dX5_readThing_50 rfl rfl ?_
    refine ev_bipush (v := 57) dX5_readThing_52 (by decide) ?_
    refine ev_ic_gtN (t := 73) (a := c) (b := 57) dX5_readThing_54 (by decide) rfl rfl (by omega) (by omega) (fun c_54 => ?_) (fun c_54 => ?_)
    · omega
    · refine ev_st dX5_readThing_57 rfl rfl ?_
      refine ev_st dX5_readThing_58 rfl rfl ?_
      refine ev_iconst (v := 3) dX5_readThing_59 (by decide) ?_
      refine ev_iconst (v := 0) dX5_readThing_60 (by decide) ?_
      refine ev_sipush (v := 999) dX5_readThing_61 (by decide) ?_
      refine ev_call dX5_readThing_64 rfl rfl mr_5_75 rfl rfl rfl (k_rn (m := 3) (lo := 0) (hi := 999) hR2 (by decide) (by decide) (by decide) (by decide)) ?_
      rintro _ _ ⟨rfl, I3, rfl, hx3, hR3⟩
      have hS3 := hS2.x (by decide) hx3
      show Ev lyC (d + 9) hX5_readThing 67 [some (.ref 35), some (.ref 1), some (.int dep), some (.int g), some (.int (nI c))] [.int (nI ((sNum t E 3 0 999 s).1)), .ref 35] (I3, J, R) _
      refine ev_call dX5_readThing_67 rfl rfl mr_5_68 rfl rfl rfl (k_add1_35 hS3.1 (by omega) _) ?_
      rintro _ _ ⟨rfl, rfl⟩
      show Ev lyC (d + 9) hX5_readThing 70 [some (.ref 35), some (.ref 1), some (.int dep), some (.int g), some (.int (nI c))] [] (ti_wr (ti_wr I3 36 C.length (nI ((sNum t E 3 0 999 s).1))) 35 3 (nI (C.length + 1)), J, R) _
      refine ev_goto (t := 114) dX5_readThing_70 (by decide) ?_
      refine (hB.1 ▸ hB.2 ▸ k_thN_35 (hx2.x hx3).add (hR3.add (by decide)) hS3.add (fun q => ?_))
      rw [← hB.2]
      exact hle (by rw [hB.1]; exact hR3.le) q
set_option maxHeartbeats 1000000 in
theorem k_thE_35 {I I2 : Nat → Nat → Int32} {J : Nat → Nat → Int64} {R : Nat → Nat → Value} {t : Nat → Nat} {d E N : Nat} {s : PS} {C : List Int32} {g : Int32} {z4 : Option Value} {f : Option (PS → RR)} (hf : ∀ g, f = some g → pay g) (hx2 : eC 35 I I2) (hR2 : cR I2 t E N s) (hS2 : cS 35 I2 C) (hl : C.length ≤ s.2) (hl1 : ¬ g = 0 → C.length + 1 ≤ s.2) (hE : E ≤ 40) {k D0 : Nat} {q : PS → RR} (hk : k < 4) (hd : D0 ≤ d + 8) (hC : kRj 0 35 (nI (k + 1)) D0 t E N q) (hft : s.1 = true) (haE : s.2 < E) (hpk : pk t E s = nI 40) (hB : (gB t E f s).1 = sNeed t E 41 (q (true, s.2 + 1)).1 ∧ (gB t E f s).2.1 = (q (true, s.2 + 1)).2.1) : Ev lyC (d + 9) hX5_readThing 37 [some (.ref 35), some (.ref 1), some (.int (nI k)), some (.int g), z4] [] (I2, J, R) (kQ 35 I J R t E N (gB t E f s).1 (C ++ (gB t E f s).2.1 ++ (if g = 0 then [] else [2000]))) := by
  have hpay := pay_gB (t := t) (E := E) hf s
  have hle : (gB t E f s).1.2 ≤ E → ¬ g = 0 → (C ++ (gB t E f s).2.1).length < 40 := by
    intro q1 q2
    have := hl1 q2
    rw [List.length_append]
    omega
  refine ev_st dX5_readThing_37 rfl rfl ?_
  refine ev_call dX5_readThing_38 rfl rfl mr_5_59 rfl rfl rfl (k_peek hR2) ?_
  rintro _ _ ⟨e1, rfl⟩
  rw [hpk] at e1
  subst e1
  show Ev lyC (d + 9) hX5_readThing 41 [some (.ref 35), some (.ref 1), some (.int (nI k)), some (.int g), z4] [.int (nI 40)] (I2, J, R) _
  refine ev_st (L' := [some (.ref 35), some (.ref 1), some (.int (nI k)), some (.int g), some (.int (nI 40))]) dX5_readThing_41 rfl rfl ?_
  refine ev_st dX5_readThing_43 rfl rfl ?_
  refine ev_bipush (v := 48) dX5_readThing_45 (by decide) ?_
  refine ev_ic_ltN (t := 73) (a := 40) (b := 48) dX5_readThing_47 (by decide) rfl rfl (by omega) (by omega) (fun c_47 => ?_) (fun c_47 => ?_)
  · refine ev_st dX5_readThing_73 rfl rfl ?_
    refine ev_bipush (v := 40) dX5_readThing_75 (by decide) ?_
    refine ev_ic_neN (t := 107) (a := 40) (b := 40) dX5_readThing_77 (by decide) rfl rfl (by omega) (by omega) (fun c_77 => ?_) (fun c_77 => ?_)
    · omega
    · refine ev_st dX5_readThing_80 rfl rfl ?_
      refine ev_iconst (v := 4) dX5_readThing_81 (by decide) ?_
      refine ev_ic_geN (t := 107) (a := k) (b := 4) dX5_readThing_82 (by decide) rfl rfl (by omega) (by omega) (fun c_82 => ?_) (fun c_82 => ?_)
      · omega
      · refine ev_st dX5_readThing_85 rfl rfl ?_
        refine ev_call dX5_readThing_86 rfl rfl mr_5_65 rfl rfl rfl (k_skip (hR2.fine hft) haE) ?_
        rintro _ _ ⟨rfl, rfl⟩
        show Ev lyC (d + 9) hX5_readThing 89 [some (.ref 35), some (.ref 1), some (.int (nI k)), some (.int g), some (.int (nI 40))] [] (ti_wr I2 1 2 (nI (s.2 + 1)), J, R) _
        refine ev_st dX5_readThing_89 rfl rfl ?_
        refine ev_st dX5_readThing_90 rfl rfl ?_
        refine ev_iconst (v := 0) dX5_readThing_91 (by decide) ?_
        refine ev_st dX5_readThing_92 rfl rfl ?_
        refine ev_iconst (v := 1) dX5_readThing_93 (by decide) ?_
        refine ev_iaddN (a := k) (b := 1) (c := k + 1) dX5_readThing_94 rfl rfl rfl ?_
        refine ev_call dX5_readThing_95 rfl rfl mr_5_48 rfl rfl rfl (hC _ J R (true, s.2 + 1) C _ (by omega) (hR2.at hft (by omega)) (xC.add hS2 (by decide)) (by show C.length ≤ s.2 + 1; omega)) ?_
        rintro _ _ ⟨rfl, I3, rfl, hx3, hR3, hS3⟩
        show Ev lyC (d + 9) hX5_readThing 98 [some (.ref 35), some (.ref 1), some (.int (nI k)), some (.int g), some (.int (nI 40))] [] (I3, J, R) _
        refine ev_st dX5_readThing_98 rfl rfl ?_
        refine ev_bipush (v := 41) dX5_readThing_99 (by decide) ?_
        refine ev_call dX5_readThing_101 rfl rfl mr_5_78 rfl rfl rfl (k_require (c := 41) hR3 (by decide)) ?_
        rintro _ _ ⟨rfl, I4, rfl, hx4, hR4⟩
        show Ev lyC (d + 9) hX5_readThing 104 [some (.ref 35), some (.ref 1), some (.int (nI k)), some (.int g), some (.int (nI 40))] [] (I4, J, R) _
        refine ev_goto (t := 114) dX5_readThing_104 (by decide) ?_
        have hRn := hR4
        rw [← hB.1] at hRn
        refine (hB.2 ▸ k_thN_35 (((hx2.x xC.rf.w).tr hx3).x hx4) hRn (hS3.x (by decide) hx4) (fun q => ?_))
        rw [← hB.2]
        exact hle hRn.le q
  · omega
