/-! rules, by the class: things, whole -/
theorem tog {g : Int32} {v : Nat} (h : g = nI (v % 2)) : (if g = 0 then [] else [2000] : List Int32) = (if v % 2 = 1 then [2000] else []) := by
  rcases Nat.mod_two_eq_zero_or_one v with q | q
  · rw [q] at h ⊢; subst h; rfl
  · rw [q] at h ⊢; subst h; rfl
theorem gBB_f {t : Nat → Nat} {E : Nat} {f : Option (PS → RR)} {s : PS} (h : ¬ s.1 = true) : gB t E f s = gO t E s := by
  rw [gB.eq_def, if_neg h, gO, if_neg h]
theorem gBB_n {t : Nat → Nat} {E : Nat} {f : Option (PS → RR)} {s : PS} (h : s.1 = true) (h2 : ¬ (s.2 < E ∧ 48 ≤ t s.2 ∧ t s.2 ≤ 57)) (h3 : f = none ∨ ¬ pk t E s = nI 40) : gB t E f s = gO t E s := by
  rw [gB.eq_def, if_pos h, if_neg h2, gO, if_pos h]
  cases f with
  | none => rfl
  | some g =>
    rcases h3 with q | q
    · cases q
    · exact if_neg q
theorem gBB_d {t : Nat → Nat} {E : Nat} {f : Option (PS → RR)} {s : PS} (h : s.1 = true) (h2 : s.2 < E ∧ 48 ≤ t s.2 ∧ t s.2 ≤ 57) : (gB t E f s).1 = (sNum t E 3 0 999 s).2 ∧ (gB t E f s).2.1 = [nI (sNum t E 3 0 999 s).1] := by
  rw [gB.eq_def, if_pos h, if_pos h2]
  exact ⟨rfl, rfl⟩
theorem gBB_b {t : Nat → Nat} {E : Nat} {q : PS → RR} {s : PS} (h : s.1 = true) (h2 : ¬ (s.2 < E ∧ 48 ≤ t s.2 ∧ t s.2 ≤ 57)) (h3 : pk t E s = nI 40) : (gB t E (some q) s).1 = sNeed t E 41 (q (true, s.2 + 1)).1 ∧ (gB t E (some q) s).2.1 = (q (true, s.2 + 1)).2.1 := by
  rw [gB.eq_def, if_pos h, if_neg h2]
  show (if pk t E s = nI 40 then _ else _ : RR).1 = _ ∧ (if pk t E s = nI 40 then _ else _ : RR).2.1 = _
  rw [if_pos h3]
  exact ⟨rfl, rfl⟩
theorem pk_no {t : Nat → Nat} {E : Nat} {s : PS} (h : s.1 = true → ¬ s.2 < E) : pk t E s = -1 := by
  unfold pk
  split
  · next q => rw [if_neg (h q)]
  · rfl
theorem pk_yes {t : Nat → Nat} {E : Nat} {s : PS} (h : s.1 = true) (h2 : s.2 < E) : pk t E s = nI (t s.2) := by
  unfold pk
  rw [if_pos h, if_pos h2]
theorem k_tail0_31 {I I2 : Nat → Nat → Int32} {J : Nat → Nat → Int64} {R : Nat → Nat → Value} {t : Nat → Nat} {d E N : Nat} {s : PS} {C : List Int32} {g : Int32} {z4 : Option Value} (hf : ∀ g, (none : Option (PS → RR)) = some g → pay g) (hx2 : eC 31 I I2) (hR2 : cR I2 t E N s) (hS2 : cS 31 I2 C) (hl : C.length ≤ s.2) (hl1 : ¬ g = 0 → C.length + 1 ≤ s.2) (hE : E ≤ 40) : Ev lyC (d + 9) hX5_readThing 37 [some (.ref 31), some (.ref 1), some (.int (nI 4)), some (.int g), z4] [] (I2, J, R) (kQ 31 I J R t E N (gB t E none s).1 (C ++ (gB t E none s).2.1 ++ (if g = 0 then [] else [2000]))) := by
  by_cases h1 : s.1 = true
  · by_cases h2 : s.2 < E
    · have hpk := pk_yes (t := t) h1 h2
      have ht := hR2.t s.2 h2
      by_cases h3 : 48 ≤ t s.2 ∧ t s.2 ≤ 57
      · exact k_thD_31 hf hx2 hR2 hS2 hl hl1 hE h3 hpk (by omega) (gBB_d h1 ⟨h2, h3⟩)
      · have h3' : ¬ (s.2 < E ∧ 48 ≤ t s.2 ∧ t s.2 ≤ 57) := fun q => h3 q.2
        by_cases h4 : t s.2 = 40
        · have hpk2 : pk t E s = nI 40 := by rw [hpk, h4]
          exact k_thC_31 (dep := 0) hf hx2 hR2 hS2 hl hl1 hE hpk2 (gBB_n h1 h3' (Or.inl rfl))
        · have hpk2 : ¬ pk t E s = nI 40 := fun q => h4 (pk_t (by decide) hR2.t q)
          exact k_thB_31 hf hx2 hR2 hS2 hl hl1 hE ht hpk h3 h4 (gBB_n h1 h3' (Or.inr hpk2))
    · have hpk : pk t E s = -1 := pk_no (fun _ => h2)
      exact k_thA_31 hf hx2 hR2 hS2 hl hl1 hE hpk (gBB_n h1 (fun q => h2 q.1) (Or.inr (by rw [hpk]; decide)))
  · exact k_thA_31 hf hx2 hR2 hS2 hl hl1 hE (pk_no (fun q => absurd q h1)) (gBB_f h1)
theorem k_tail1_31 {I I2 : Nat → Nat → Int32} {J : Nat → Nat → Int64} {R : Nat → Nat → Value} {t : Nat → Nat} {d E N : Nat} {s : PS} {C : List Int32} {g : Int32} {z4 : Option Value} {k D0 : Nat} {q : PS → RR} (hk : k < 4) (hd : D0 ≤ d + 8) (hC : kRj 0 31 (nI (k + 1)) D0 t E N q) (hf : ∀ g, some q = some g → pay g) (hx2 : eC 31 I I2) (hR2 : cR I2 t E N s) (hS2 : cS 31 I2 C) (hl : C.length ≤ s.2) (hl1 : ¬ g = 0 → C.length + 1 ≤ s.2) (hE : E ≤ 40) : Ev lyC (d + 9) hX5_readThing 37 [some (.ref 31), some (.ref 1), some (.int (nI k)), some (.int g), z4] [] (I2, J, R) (kQ 31 I J R t E N (gB t E (some q) s).1 (C ++ (gB t E (some q) s).2.1 ++ (if g = 0 then [] else [2000]))) := by
  by_cases h1 : s.1 = true
  · by_cases h2 : s.2 < E
    · have hpk := pk_yes (t := t) h1 h2
      have ht := hR2.t s.2 h2
      by_cases h3 : 48 ≤ t s.2 ∧ t s.2 ≤ 57
      · exact k_thD_31 hf hx2 hR2 hS2 hl hl1 hE h3 hpk (by omega) (gBB_d h1 ⟨h2, h3⟩)
      · have h3' : ¬ (s.2 < E ∧ 48 ≤ t s.2 ∧ t s.2 ≤ 57) := fun q => h3 q.2
        by_cases h4 : t s.2 = 40
        · have hpk2 : pk t E s = nI 40 := by rw [hpk, h4]
          exact k_thE_31 hf hx2 hR2 hS2 hl hl1 hE hk hd hC h1 h2 hpk2 (gBB_b h1 h3' hpk2)
        · have hpk2 : ¬ pk t E s = nI 40 := fun q => h4 (pk_t (by decide) hR2.t q)
          exact k_thB_31 hf hx2 hR2 hS2 hl hl1 hE ht hpk h3 h4 (gBB_n h1 h3' (Or.inr hpk2))
    · have hpk : pk t E s = -1 := pk_no (fun _ => h2)
      exact k_thA_31 hf hx2 hR2 hS2 hl hl1 hE hpk (gBB_n h1 (fun q => h2 q.1) (Or.inr (by rw [hpk]; decide)))
  · exact k_thA_31 hf hx2 hR2 hS2 hl hl1 hE (pk_no (fun q => absurd q h1)) (gBB_f h1)
set_option maxHeartbeats 1000000 in
theorem k_thL_31 {I : Nat → Nat → Int32} {J : Nat → Nat → Int64} {R : Nat → Nat → Value} {t : Nat → Nat} {d E N : Nat} {dep : Int32} {C : List Int32} {f : Option (PS → RR)} (K : ∀ (I2 : Nat → Nat → Int32) (s : PS) (g : Int32) (z4 : Option Value), eC 31 I I2 → cR I2 t E N s → cS 31 I2 C → C.length ≤ s.2 → (¬ g = 0 → C.length + 1 ≤ s.2) → Ev lyC (d + 9) hX5_readThing 37 [some (.ref 31), some (.ref 1), some (.int dep), some (.int g), z4] [] (I2, J, R) (kQ 31 I J R t E N (gB t E f s).1 (C ++ (gB t E f s).2.1 ++ (if g = 0 then [] else [2000])))) : ∀ (m b v : Nat) (s : PS) (g : Int32) (I2 : Nat → Nat → Int32), b + m = 40 → g = nI (v % 2) → eC 31 I I2 → cR I2 t E N s → cS 31 I2 C → C.length + v ≤ s.2 → Ev lyC (d + 9) hX5_readThing 5 [some (.ref 31), some (.ref 1), some (.int dep), some (.int g), some (.int (nI b))] [] (I2, J, R) (kQ 31 I J R t E N (gB t E f (sMin t E m s).2).1 (C ++ (gB t E f (sMin t E m s).2).2.1 ++ (if (v + (sMin t E m s).1) % 2 = 1 then [2000] else []))) := by
  intro m
  induction m with
  | zero =>
    intro b v s g I2 hb hg hx2 hR2 hS2 hl
    refine ev_st dX5_readThing_5 rfl rfl ?_
    refine ev_bipush (v := 40) dX5_readThing_7 (by decide) ?_
    refine ev_ic_geN (t := 37) (a := b) (b := 40) dX5_readThing_9 (by decide) rfl rfl (by omega) (by omega) (fun c_9 => ?_) (fun c_9 => ?_)
    · have h := K I2 s g (some (.int (nI b))) hx2 hR2 hS2 (by omega) (fun q => by
        rcases Nat.eq_zero_or_pos v with e | e
        · subst e; exact absurd hg q
        · omega)
      rw [tog hg] at h
      exact h
    · omega
  | succ m ih =>
    intro b v s g I2 hb hg hx2 hR2 hS2 hl
    by_cases hy : pk t E s = nI 45
    · refine ev_st dX5_readThing_5 rfl rfl ?_
      refine ev_bipush (v := 40) dX5_readThing_7 (by decide) ?_
      refine ev_ic_geN (t := 37) (a := b) (b := 40) dX5_readThing_9 (by decide) rfl rfl (by omega) (by omega) (fun c_9 => ?_) (fun c_9 => ?_)
      · omega
      · refine ev_st dX5_readThing_12 rfl rfl ?_
        refine ev_bipush (v := 45) dX5_readThing_13 (by decide) ?_
        refine ev_call dX5_readThing_15 rfl rfl mr_5_71 rfl rfl rfl (k_passes1 hR2 (by decide) hy) ?_
        rintro _ _ ⟨rfl, rfl⟩
        show Ev lyC (d + 9) hX5_readThing 18 [some (.ref 31), some (.ref 1), some (.int dep), some (.int g), some (.int (nI b))] [.int 1] (ti_wr I2 1 2 (nI (s.2 + 1)), J, R) _
        refine ev_if_eq (t := 37) dX5_readThing_18 (by decide) (fun q => absurd q (by decide)) (fun _ => ?_)
        refine ev_st dX5_readThing_21 rfl rfl ?_
        refine ev_if_ne (t := 29) (x := g) dX5_readThing_22 (by decide) (fun c_22 => ?_) (fun c_22 => ?_)
        · refine ev_iconst (v := 0) dX5_readThing_29 (by decide) ?_
          refine ev_st (L' := [some (.ref 31), some (.ref 1), some (.int dep), some (.int 0), some (.int (nI b))]) dX5_readThing_30 rfl rfl ?_
          refine ev_iincN (a := b) (b := b + 1) (L' := [some (.ref 31), some (.ref 1), some (.int dep), some (.int 0), some (.int (nI (b + 1)))]) dX5_readThing_31 rfl (nI_1 _) rfl ?_
          refine ev_goto (t := 5) dX5_readThing_34 (by decide) ?_
          have h := ih (b + 1) (v + 1) (true, s.2 + 1) _ _ (by omega) (tog1 hg c_22) (hx2.x xC.rf.w) (hR2.at (pkS_eq (by decide) hR2.t hy).1 (by have := (pkS_eq (by decide) hR2.t hy).2.1; omega)) (xC.add hS2 (by decide)) (by show C.length + (v + 1) ≤ s.2 + 1; omega)
          rw [sMin, if_pos hy]
          rw [show v + 1 + (sMin t E m (true, s.2 + 1)).1 = v + ((sMin t E m (true, s.2 + 1)).1 + 1) by omega] at h
          exact h
        · refine ev_iconst (v := 1) dX5_readThing_25 (by decide) ?_
          refine ev_goto (t := 30) dX5_readThing_26 (by decide) ?_
          refine ev_st (L' := [some (.ref 31), some (.ref 1), some (.int dep), some (.int 1), some (.int (nI b))]) dX5_readThing_30 rfl rfl ?_
          refine ev_iincN (a := b) (b := b + 1) (L' := [some (.ref 31), some (.ref 1), some (.int dep), some (.int 1), some (.int (nI (b + 1)))]) dX5_readThing_31 rfl (nI_1 _) rfl ?_
          refine ev_goto (t := 5) dX5_readThing_34 (by decide) ?_
          have h := ih (b + 1) (v + 1) (true, s.2 + 1) _ _ (by omega) (tog0 hg c_22) (hx2.x xC.rf.w) (hR2.at (pkS_eq (by decide) hR2.t hy).1 (by have := (pkS_eq (by decide) hR2.t hy).2.1; omega)) (xC.add hS2 (by decide)) (by show C.length + (v + 1) ≤ s.2 + 1; omega)
          rw [sMin, if_pos hy]
          rw [show v + 1 + (sMin t E m (true, s.2 + 1)).1 = v + ((sMin t E m (true, s.2 + 1)).1 + 1) by omega] at h
          exact h
    · refine ev_st dX5_readThing_5 rfl rfl ?_
      refine ev_bipush (v := 40) dX5_readThing_7 (by decide) ?_
      refine ev_ic_geN (t := 37) (a := b) (b := 40) dX5_readThing_9 (by decide) rfl rfl (by omega) (by omega) (fun c_9 => ?_) (fun c_9 => ?_)
      · omega
      · refine ev_st dX5_readThing_12 rfl rfl ?_
        refine ev_bipush (v := 45) dX5_readThing_13 (by decide) ?_
        refine ev_call dX5_readThing_15 rfl rfl mr_5_71 rfl rfl rfl (k_passes0 hR2 (by decide) hy) ?_
        rintro _ _ ⟨rfl, rfl⟩
        show Ev lyC (d + 9) hX5_readThing 18 [some (.ref 31), some (.ref 1), some (.int dep), some (.int g), some (.int (nI b))] [.int 0] (I2, J, R) _
        refine ev_if_eq (t := 37) dX5_readThing_18 (by decide) (fun _ => ?_) (fun q => absurd q (by decide))
        rw [sMin, if_neg hy]
        have h := K I2 s g (some (.int (nI b))) hx2 hR2 hS2 (by omega) (fun q => by
          rcases Nat.eq_zero_or_pos v with e | e
          · subst e; exact absurd hg q
          · omega)
        rw [tog hg] at h
        exact h
theorem k_thW_31 {I : Nat → Nat → Int32} {J : Nat → Nat → Int64} {R : Nat → Nat → Value} {t : Nat → Nat} {d E N : Nat} {dep : Int32} {C : List Int32} {f : Option (PS → RR)} {s : PS} (K : ∀ (I2 : Nat → Nat → Int32) (s : PS) (g : Int32) (z4 : Option Value), eC 31 I I2 → cR I2 t E N s → cS 31 I2 C → C.length ≤ s.2 → (¬ g = 0 → C.length + 1 ≤ s.2) → Ev lyC (d + 9) hX5_readThing 37 [some (.ref 31), some (.ref 1), some (.int dep), some (.int g), z4] [] (I2, J, R) (kQ 31 I J R t E N (gB t E f s).1 (C ++ (gB t E f s).2.1 ++ (if g = 0 then [] else [2000])))) (hR : cR I t E N s) (hS : cS 31 I C) (hl : C.length ≤ s.2) : Cal lyC (d + 9) hX5_readThing 5 [.ref 31, .ref 1, .int dep] (I, J, R) (kQ 31 I J R t E N (gT t E f s).1 (C ++ (gT t E f s).2.1)) := by
  show Ev lyC (d + 9) hX5_readThing 0 [some (.ref 31), some (.ref 1), some (.int dep), none, none] [] (I, J, R) _
  refine ev_iconst (v := 0) dX5_readThing_0 (by decide) ?_
  refine ev_st (L' := [some (.ref 31), some (.ref 1), some (.int dep), some (.int 0), none]) dX5_readThing_1 rfl rfl ?_
  refine ev_iconst (v := 0) dX5_readThing_2 (by decide) ?_
  refine ev_st (L' := [some (.ref 31), some (.ref 1), some (.int dep), some (.int 0), some (.int 0)]) dX5_readThing_3 rfl rfl ?_
  have h := k_thL_31 K 40 0 0 s 0 I (by omega) rfl eC.rf hR hS (by omega)
  rw [Nat.zero_add, List.append_assoc] at h
  exact h
theorem k_thing0_31 {t : Nat → Nat} {E N : Nat} (hE : E ≤ 40) : kRd hX5_readThing 5 31 (nI 4) 9 t E N (gT t E none) := by
  intro I J R s C D hD hR hS hl
  obtain ⟨d, rfl⟩ : ∃ d, D = d + 9 := ⟨D - 9, by omega⟩
  exact k_thW_31 (fun I2 s g z4 a b c e f => k_tail0_31 (fun g e => by cases e) a b c e f hE) hR hS hl
theorem k_thing1_31 {t : Nat → Nat} {E N D0 k : Nat} {q : PS → RR} (hE : E ≤ 40) (hk : k < 4) (hq : pay q) (hC : kRj 0 31 (nI (k + 1)) D0 t E N q) : kRd hX5_readThing 5 31 (nI k) (D0 + 9) t E N (gT t E (some q)) := by
  intro I J R s C D hD hR hS hl
  obtain ⟨d, rfl⟩ : ∃ d, D = d + 9 := ⟨D - 9, by omega⟩
  exact k_thW_31 (fun I2 s g z4 a b c e f => k_tail1_31 hk (by omega) hC (fun g e => by cases e; exact hq) a b c e f hE) hR hS hl
theorem k_tail0_35 {I I2 : Nat → Nat → Int32} {J : Nat → Nat → Int64} {R : Nat → Nat → Value} {t : Nat → Nat} {d E N : Nat} {s : PS} {C : List Int32} {g : Int32} {z4 : Option Value} (hf : ∀ g, (none : Option (PS → RR)) = some g → pay g) (hx2 : eC 35 I I2) (hR2 : cR I2 t E N s) (hS2 : cS 35 I2 C) (hl : C.length ≤ s.2) (hl1 : ¬ g = 0 → C.length + 1 ≤ s.2) (hE : E ≤ 40) : Ev lyC (d + 9) hX5_readThing 37 [some (.ref 35), some (.ref 1), some (.int (nI 4)), some (.int g), z4] [] (I2, J, R) (kQ 35 I J R t E N (gB t E none s).1 (C ++ (gB t E none s).2.1 ++ (if g = 0 then [] else [2000]))) := by
  by_cases h1 : s.1 = true
  · by_cases h2 : s.2 < E
    · have hpk := pk_yes (t := t) h1 h2
      have ht := hR2.t s.2 h2
      by_cases h3 : 48 ≤ t s.2 ∧ t s.2 ≤ 57
      · exact k_thD_35 hf hx2 hR2 hS2 hl hl1 hE h3 hpk (by omega) (gBB_d h1 ⟨h2, h3⟩)
      · have h3' : ¬ (s.2 < E ∧ 48 ≤ t s.2 ∧ t s.2 ≤ 57) := fun q => h3 q.2
        by_cases h4 : t s.2 = 40
        · have hpk2 : pk t E s = nI 40 := by rw [hpk, h4]
          exact k_thC_35 (dep := 0) hf hx2 hR2 hS2 hl hl1 hE hpk2 (gBB_n h1 h3' (Or.inl rfl))
        · have hpk2 : ¬ pk t E s = nI 40 := fun q => h4 (pk_t (by decide) hR2.t q)
          exact k_thB_35 hf hx2 hR2 hS2 hl hl1 hE ht hpk h3 h4 (gBB_n h1 h3' (Or.inr hpk2))
    · have hpk : pk t E s = -1 := pk_no (fun _ => h2)
      exact k_thA_35 hf hx2 hR2 hS2 hl hl1 hE hpk (gBB_n h1 (fun q => h2 q.1) (Or.inr (by rw [hpk]; decide)))
  · exact k_thA_35 hf hx2 hR2 hS2 hl hl1 hE (pk_no (fun q => absurd q h1)) (gBB_f h1)
theorem k_tail1_35 {I I2 : Nat → Nat → Int32} {J : Nat → Nat → Int64} {R : Nat → Nat → Value} {t : Nat → Nat} {d E N : Nat} {s : PS} {C : List Int32} {g : Int32} {z4 : Option Value} {k D0 : Nat} {q : PS → RR} (hk : k < 4) (hd : D0 ≤ d + 8) (hC : kRj 0 35 (nI (k + 1)) D0 t E N q) (hf : ∀ g, some q = some g → pay g) (hx2 : eC 35 I I2) (hR2 : cR I2 t E N s) (hS2 : cS 35 I2 C) (hl : C.length ≤ s.2) (hl1 : ¬ g = 0 → C.length + 1 ≤ s.2) (hE : E ≤ 40) : Ev lyC (d + 9) hX5_readThing 37 [some (.ref 35), some (.ref 1), some (.int (nI k)), some (.int g), z4] [] (I2, J, R) (kQ 35 I J R t E N (gB t E (some q) s).1 (C ++ (gB t E (some q) s).2.1 ++ (if g = 0 then [] else [2000]))) := by
  by_cases h1 : s.1 = true
  · by_cases h2 : s.2 < E
    · have hpk := pk_yes (t := t) h1 h2
      have ht := hR2.t s.2 h2
      by_cases h3 : 48 ≤ t s.2 ∧ t s.2 ≤ 57
      · exact k_thD_35 hf hx2 hR2 hS2 hl hl1 hE h3 hpk (by omega) (gBB_d h1 ⟨h2, h3⟩)
      · have h3' : ¬ (s.2 < E ∧ 48 ≤ t s.2 ∧ t s.2 ≤ 57) := fun q => h3 q.2
        by_cases h4 : t s.2 = 40
        · have hpk2 : pk t E s = nI 40 := by rw [hpk, h4]
          exact k_thE_35 hf hx2 hR2 hS2 hl hl1 hE hk hd hC h1 h2 hpk2 (gBB_b h1 h3' hpk2)
        · have hpk2 : ¬ pk t E s = nI 40 := fun q => h4 (pk_t (by decide) hR2.t q)
          exact k_thB_35 hf hx2 hR2 hS2 hl hl1 hE ht hpk h3 h4 (gBB_n h1 h3' (Or.inr hpk2))
    · have hpk : pk t E s = -1 := pk_no (fun _ => h2)
      exact k_thA_35 hf hx2 hR2 hS2 hl hl1 hE hpk (gBB_n h1 (fun q => h2 q.1) (Or.inr (by rw [hpk]; decide)))
  · exact k_thA_35 hf hx2 hR2 hS2 hl hl1 hE (pk_no (fun q => absurd q h1)) (gBB_f h1)
set_option maxHeartbeats 1000000 in
theorem k_thL_35 {I : Nat → Nat → Int32} {J : Nat → Nat → Int64} {R : Nat → Nat → Value} {t : Nat → Nat} {d E N : Nat} {dep : Int32} {C : List Int32} {f : Option (PS → RR)} (K : ∀ (I2 : Nat → Nat → Int32) (s : PS) (g : Int32) (z4 : Option Value), eC 35 I I2 → cR I2 t E N s → cS 35 I2 C → C.length ≤ s.2 → (¬ g = 0 → C.length + 1 ≤ s.2) → Ev lyC (d + 9) hX5_readThing 37 [some (.ref 35), some (.ref 1), some (.int dep), some (.int g), z4] [] (I2, J, R) (kQ 35 I J R t E N (gB t E f s).1 (C ++ (gB t E f s).2.1 ++ (if g = 0 then [] else [2000])))) : ∀ (m b v : Nat) (s : PS) (g : Int32) (I2 : Nat → Nat → Int32), b + m = 40 → g = nI (v % 2) → eC 35 I I2 → cR I2 t E N s → cS 35 I2 C → C.length + v ≤ s.2 → Ev lyC (d + 9) hX5_readThing 5 [some (.ref 35), some (.ref 1), some (.int dep), some (.int g), some (.int (nI b))] [] (I2, J, R) (kQ 35 I J R t E N (gB t E f (sMin t E m s).2).1 (C ++ (gB t E f (sMin t E m s).2).2.1 ++ (if (v + (sMin t E m s).1) % 2 = 1 then [2000] else []))) := by
  intro m
  induction m with
  | zero =>
    intro b v s g I2 hb hg hx2 hR2 hS2 hl
    refine ev_st dX5_readThing_5 rfl rfl ?_
    refine ev_bipush (v := 40) dX5_readThing_7 (by decide) ?_
    refine ev_ic_geN (t := 37) (a := b) (b := 40) dX5_readThing_9 (by decide) rfl rfl (by omega) (by omega) (fun c_9 => ?_) (fun c_9 => ?_)
    · have h := K I2 s g (some (.int (nI b))) hx2 hR2 hS2 (by omega) (fun q => by
        rcases Nat.eq_zero_or_pos v with e | e
        · subst e; exact absurd hg q
        · omega)
      rw [tog hg] at h
      exact h
    · omega
  | succ m ih =>
    intro b v s g I2 hb hg hx2 hR2 hS2 hl
    by_cases hy : pk t E s = nI 45
    · refine ev_st dX5_readThing_5 rfl rfl ?_
      refine ev_bipush (v := 40) dX5_readThing_7 (by decide) ?_
      refine ev_ic_geN (t := 37) (a := b) (b := 40) dX5_readThing_9 (by decide) rfl rfl (by omega) (by omega) (fun c_9 => ?_) (fun c_9 => ?_)
      · omega
      · refine ev_st dX5_readThing_12 rfl rfl ?_
        refine ev_bipush (v := 45) dX5_readThing_13 (by decide) ?_
        refine ev_call dX5_readThing_15 rfl rfl mr_5_71 rfl rfl rfl (k_passes1 hR2 (by decide) hy) ?_
        rintro _ _ ⟨rfl, rfl⟩
        show Ev lyC (d + 9) hX5_readThing 18 [some (.ref 35), some (.ref 1), some (.int dep), some (.int g), some (.int (nI b))] [.int 1] (ti_wr I2 1 2 (nI (s.2 + 1)), J, R) _
        refine ev_if_eq (t := 37) dX5_readThing_18 (by decide) (fun q => absurd q (by decide)) (fun _ => ?_)
        refine ev_st dX5_readThing_21 rfl rfl ?_
        refine ev_if_ne (t := 29) (x := g) dX5_readThing_22 (by decide) (fun c_22 => ?_) (fun c_22 => ?_)
        · refine ev_iconst (v := 0) dX5_readThing_29 (by decide) ?_
          refine ev_st (L' := [some (.ref 35), some (.ref 1), some (.int dep), some (.int 0), some (.int (nI b))]) dX5_readThing_30 rfl rfl ?_
          refine ev_iincN (a := b) (b := b + 1) (L' := [some (.ref 35), some (.ref 1), some (.int dep), some (.int 0), some (.int (nI (b + 1)))]) dX5_readThing_31 rfl (nI_1 _) rfl ?_
          refine ev_goto (t := 5) dX5_readThing_34 (by decide) ?_
          have h := ih (b + 1) (v + 1) (true, s.2 + 1) _ _ (by omega) (tog1 hg c_22) (hx2.x xC.rf.w) (hR2.at (pkS_eq (by decide) hR2.t hy).1 (by have := (pkS_eq (by decide) hR2.t hy).2.1; omega)) (xC.add hS2 (by decide)) (by show C.length + (v + 1) ≤ s.2 + 1; omega)
          rw [sMin, if_pos hy]
          rw [show v + 1 + (sMin t E m (true, s.2 + 1)).1 = v + ((sMin t E m (true, s.2 + 1)).1 + 1) by omega] at h
          exact h
        · refine ev_iconst (v := 1) dX5_readThing_25 (by decide) ?_
          refine ev_goto (t := 30) dX5_readThing_26 (by decide) ?_
          refine ev_st (L' := [some (.ref 35), some (.ref 1), some (.int dep), some (.int 1), some (.int (nI b))]) dX5_readThing_30 rfl rfl ?_
          refine ev_iincN (a := b) (b := b + 1) (L' := [some (.ref 35), some (.ref 1), some (.int dep), some (.int 1), some (.int (nI (b + 1)))]) dX5_readThing_31 rfl (nI_1 _) rfl ?_
          refine ev_goto (t := 5) dX5_readThing_34 (by decide) ?_
          have h := ih (b + 1) (v + 1) (true, s.2 + 1) _ _ (by omega) (tog0 hg c_22) (hx2.x xC.rf.w) (hR2.at (pkS_eq (by decide) hR2.t hy).1 (by have := (pkS_eq (by decide) hR2.t hy).2.1; omega)) (xC.add hS2 (by decide)) (by show C.length + (v + 1) ≤ s.2 + 1; omega)
          rw [sMin, if_pos hy]
          rw [show v + 1 + (sMin t E m (true, s.2 + 1)).1 = v + ((sMin t E m (true, s.2 + 1)).1 + 1) by omega] at h
          exact h
    · refine ev_st dX5_readThing_5 rfl rfl ?_
      refine ev_bipush (v := 40) dX5_readThing_7 (by decide) ?_
      refine ev_ic_geN (t := 37) (a := b) (b := 40) dX5_readThing_9 (by decide) rfl rfl (by omega) (by omega) (fun c_9 => ?_) (fun c_9 => ?_)
      · omega
      · refine ev_st dX5_readThing_12 rfl rfl ?_
        refine ev_bipush (v := 45) dX5_readThing_13 (by decide) ?_
        refine ev_call dX5_readThing_15 rfl rfl mr_5_71 rfl rfl rfl (k_passes0 hR2 (by decide) hy) ?_
        rintro _ _ ⟨rfl, rfl⟩
        show Ev lyC (d + 9) hX5_readThing 18 [some (.ref 35), some (.ref 1), some (.int dep), some (.int g), some (.int (nI b))] [.int 0] (I2, J, R) _
        refine ev_if_eq (t := 37) dX5_readThing_18 (by decide) (fun _ => ?_) (fun q => absurd q (by decide))
        rw [sMin, if_neg hy]
        have h := K I2 s g (some (.int (nI b))) hx2 hR2 hS2 (by omega) (fun q => by
          rcases Nat.eq_zero_or_pos v with e | e
          · subst e; exact absurd hg q
          · omega)
        rw [tog hg] at h
        exact h
theorem k_thW_35 {I : Nat → Nat → Int32} {J : Nat → Nat → Int64} {R : Nat → Nat → Value} {t : Nat → Nat} {d E N : Nat} {dep : Int32} {C : List Int32} {f : Option (PS → RR)} {s : PS} (K : ∀ (I2 : Nat → Nat → Int32) (s : PS) (g : Int32) (z4 : Option Value), eC 35 I I2 → cR I2 t E N s → cS 35 I2 C → C.length ≤ s.2 → (¬ g = 0 → C.length + 1 ≤ s.2) → Ev lyC (d + 9) hX5_readThing 37 [some (.ref 35), some (.ref 1), some (.int dep), some (.int g), z4] [] (I2, J, R) (kQ 35 I J R t E N (gB t E f s).1 (C ++ (gB t E f s).2.1 ++ (if g = 0 then [] else [2000])))) (hR : cR I t E N s) (hS : cS 35 I C) (hl : C.length ≤ s.2) : Cal lyC (d + 9) hX5_readThing 5 [.ref 35, .ref 1, .int dep] (I, J, R) (kQ 35 I J R t E N (gT t E f s).1 (C ++ (gT t E f s).2.1)) := by
  show Ev lyC (d + 9) hX5_readThing 0 [some (.ref 35), some (.ref 1), some (.int dep), none, none] [] (I, J, R) _
  refine ev_iconst (v := 0) dX5_readThing_0 (by decide) ?_
  refine ev_st (L' := [some (.ref 35), some (.ref 1), some (.int dep), some (.int 0), none]) dX5_readThing_1 rfl rfl ?_
  refine ev_iconst (v := 0) dX5_readThing_2 (by decide) ?_
  refine ev_st (L' := [some (.ref 35), some (.ref 1), some (.int dep), some (.int 0), some (.int 0)]) dX5_readThing_3 rfl rfl ?_
  have h := k_thL_35 K 40 0 0 s 0 I (by omega) rfl eC.rf hR hS (by omega)
  rw [Nat.zero_add, List.append_assoc] at h
  exact h
theorem k_thing0_35 {t : Nat → Nat} {E N : Nat} (hE : E ≤ 40) : kRd hX5_readThing 5 35 (nI 4) 9 t E N (gT t E none) := by
  intro I J R s C D hD hR hS hl
  obtain ⟨d, rfl⟩ : ∃ d, D = d + 9 := ⟨D - 9, by omega⟩
  exact k_thW_35 (fun I2 s g z4 a b c e f => k_tail0_35 (fun g e => by cases e) a b c e f hE) hR hS hl
theorem k_thing1_35 {t : Nat → Nat} {E N D0 k : Nat} {q : PS → RR} (hE : E ≤ 40) (hk : k < 4) (hq : pay q) (hC : kRj 0 35 (nI (k + 1)) D0 t E N q) : kRd hX5_readThing 5 35 (nI k) (D0 + 9) t E N (gT t E (some q)) := by
  intro I J R s C D hD hR hS hl
  obtain ⟨d, rfl⟩ : ∃ d, D = d + 9 := ⟨D - 9, by omega⟩
  exact k_thW_35 (fun I2 s g z4 a b c e f => k_tail1_35 hk (by omega) hC (fun g e => by cases e; exact hq) a b c e f hE) hR hS hl
