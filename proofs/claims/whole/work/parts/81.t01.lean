/-! texts: what is read of them; the class's reader -/
/-- a reader: fine at a place, or a fault at a place -/
abbrev PS : Type := Bool × Nat
def pk (t : Nat → Nat) (E : Nat) (s : PS) : Int32 := if s.1 = true then (if s.2 < E then nI (t s.2) else -1) else -1
/-- the class's reader over the text t of N signs, of which E are seen, at s -/
def cR (I : Nat → Nat → Int32) (t : Nat → Nat) (E N : Nat) (s : PS) : Prop := I 1 1 = nI N ∧ N ≤ 80 ∧ I 1 3 = nI E ∧ E ≤ N ∧ (∀ k, k < N → I 2 k = nI (t k) ∧ t k < 256) ∧ s.2 ≤ E ∧ (if s.1 = true then I 1 4 = -1 ∧ I 1 2 = nI s.2 else I 1 4 = nI s.2 ∧ ∃ a, a ≤ E ∧ I 1 2 = nI a)
/-- only the reader has changed -/
def xC (I I3 : Nat → Nat → Int32) : Prop := ∀ p, p ≠ 1 → I3 p = I p
theorem xC.rf {I : Nat → Nat → Int32} : xC I I := fun _ _ => rfl
theorem xC.tr {I I2 I3 : Nat → Nat → Int32} (h : xC I I2) (g : xC I2 I3) : xC I I3 := fun p a => (g p a).trans (h p a)
theorem xC.w {I I2 : Nat → Nat → Int32} {k : Nat} {v : Int32} (h : xC I I2) : xC I (ti_wr I2 1 k v) := fun p a => (ti_wr_n a).trans (h p a)
theorem cR.at {I : Nat → Nat → Int32} {t : Nat → Nat} {E N : Nat} {s : PS} {a : Nat} (h : cR I t E N s) (hs : s.1 = true) (ha : a ≤ E) : cR (ti_wr I 1 2 (nI a)) t E N (true, a) := by
  obtain ⟨h1, h2, h3, h4, h5, h6, h7⟩ := h
  rw [if_pos hs] at h7
  exact ⟨h1, h2, h3, h4, h5, ha, by rw [if_pos rfl]; exact ⟨h7.1, rfl⟩⟩
theorem cR.flt {I : Nat → Nat → Int32} {t : Nat → Nat} {E N : Nat} {s : PS} {e : Nat} (h : cR I t E N s) (he : e ≤ E) : cR (ti_wr I 1 4 (nI e)) t E N (false, e) := by
  obtain ⟨h1, h2, h3, h4, h5, h6, h7⟩ := h
  refine ⟨h1, h2, h3, h4, h5, he, ?_⟩
  rw [if_neg (by simp)]
  refine ⟨rfl, ?_⟩
  split at h7
  · exact ⟨_, h6, h7.2⟩
  · exact h7.2
theorem k_peekF {I : Nat → Nat → Int32} {J : Nat → Nat → Int64} {R : Nat → Nat → Value} {t : Nat → Nat} {d E N a : Nat} (hR : cR I t E N (true, a)) : Cal lyC d hX9_peek 1 [.ref 1] (I, J, R) (fun r M' => r = some (.int (pk t E (true, a))) ∧ M' = (I, J, R)) := by
  obtain ⟨h1, h2, h3, h4, h5, h6, h74, h72⟩ : _ ∧ _ ∧ _ ∧ _ ∧ _ ∧ _ ∧ _ ∧ _ := (by have h := hR; obtain ⟨h1, h2, h3, h4, h5, h6, h7⟩ := h; rw [if_pos rfl] at h7; exact ⟨h1, h2, h3, h4, h5, h6, h7.1, h7.2⟩ : I 1 1 = nI N ∧ N ≤ 80 ∧ I 1 3 = nI E ∧ E ≤ N ∧ (∀ k, k < N → I 2 k = nI (t k) ∧ t k < 256) ∧ a ≤ E ∧ I 1 4 = -1 ∧ I 1 2 = nI a)
  show Ev lyC d hX9_peek 0 [some (.ref 1)] [] (I, J, R) _
  refine ev_st dX9_peek_0 rfl rfl ?_
  refine ev_getI (v := (-1)) dX9_peek_1 fr_9_31 rfl rfl h74 ?_
  refine ev_if_ge (t := 18) dX9_peek_4 (by decide) (fun q => absurd q (by decide)) (fun _ => ?_)
  refine ev_st dX9_peek_7 rfl rfl ?_
  refine ev_getI (v := nI a) dX9_peek_8 fr_9_19 rfl rfl h72 ?_
  refine ev_st dX9_peek_11 rfl rfl ?_
  refine ev_getI (v := nI E) dX9_peek_12 fr_9_28 rfl rfl h3 ?_
  refine ev_ic_ltN (t := 22) (a := a) (b := E) dX9_peek_15 (by decide) rfl rfl (by omega) (by omega) (fun c_15 => ?_) (fun c_15 => ?_)
  · refine ev_st dX9_peek_22 rfl rfl ?_
    refine ev_getC dX9_peek_23 fr_9_11 rfl rfl ?_
    refine ev_st dX9_peek_26 rfl rfl ?_
    refine ev_getI (v := nI a) dX9_peek_27 fr_9_19 rfl rfl h72 ?_
    refine ev_cald (j := a) (v := nI (t a)) dX9_peek_30 rfl rfl (by omega) (by decide) (h5 a (by omega)).1 ?_
    exact ev_iret dX9_peek_31 rfl (⟨by rw [pk, if_pos rfl, if_pos c_15], rfl⟩)
  · refine ev_iconst (v := -1) dX9_peek_18 (by decide) ?_
    refine ev_goto (t := 31) dX9_peek_19 (by decide) ?_
    exact ev_iret dX9_peek_31 rfl (⟨by rw [pk, if_pos rfl, if_neg (show ¬ a < E by omega)], rfl⟩)
theorem k_peekE {I : Nat → Nat → Int32} {J : Nat → Nat → Int64} {R : Nat → Nat → Value} {t : Nat → Nat} {d E N e : Nat} (hR : cR I t E N (false, e)) : Cal lyC d hX9_peek 1 [.ref 1] (I, J, R) (fun r M' => r = some (.int (-1)) ∧ M' = (I, J, R)) := by
  obtain ⟨h1, h2, h3, h4, h5, h6, h74, b, hb, h72⟩ : _ ∧ _ ∧ _ ∧ _ ∧ _ ∧ _ ∧ _ ∧ ∃ b, _ ∧ _ := (by have h := hR; obtain ⟨h1, h2, h3, h4, h5, h6, h7⟩ := h; rw [if_neg (by simp)] at h7; exact ⟨h1, h2, h3, h4, h5, h6, h7.1, h7.2⟩ : I 1 1 = nI N ∧ N ≤ 80 ∧ I 1 3 = nI E ∧ E ≤ N ∧ (∀ k, k < N → I 2 k = nI (t k) ∧ t k < 256) ∧ e ≤ E ∧ I 1 4 = nI e ∧ ∃ b, b ≤ E ∧ I 1 2 = nI b)
  show Ev lyC d hX9_peek 0 [some (.ref 1)] [] (I, J, R) _
  refine ev_st dX9_peek_0 rfl rfl ?_
  refine ev_getI (v := nI e) dX9_peek_1 fr_9_31 rfl rfl h74 ?_
  refine ev_if_geN (t := 18) (a := e) dX9_peek_4 (by decide) rfl (by omega) ?_
  refine ev_iconst (v := -1) dX9_peek_18 (by decide) ?_
  refine ev_goto (t := 31) dX9_peek_19 (by decide) ?_
  exact ev_iret dX9_peek_31 rfl (⟨rfl, rfl⟩)
theorem k_peek {I : Nat → Nat → Int32} {J : Nat → Nat → Int64} {R : Nat → Nat → Value} {t : Nat → Nat} {d E N : Nat} {s : PS} (hR : cR I t E N s) : Cal lyC d hX9_peek 1 [.ref 1] (I, J, R) (fun r M' => r = some (.int (pk t E s)) ∧ M' = (I, J, R)) := by
  obtain ⟨b, a⟩ := s
  cases b
  · exact k_peekE hR
  · exact k_peekF hR
theorem k_skip {I : Nat → Nat → Int32} {J : Nat → Nat → Int64} {R : Nat → Nat → Value} {t : Nat → Nat} {d E N a : Nat} (hR : cR I t E N (true, a)) (hlt : a < E) : Cal lyC d hX9_skip 1 [.ref 1] (I, J, R) (fun r M' => r = none ∧ M' = (ti_wr I 1 2 (nI (a + 1)), J, R)) := by
  obtain ⟨h1, h2, h3, h4, h5, h6, h74, h72⟩ : _ ∧ _ ∧ _ ∧ _ ∧ _ ∧ _ ∧ _ ∧ _ := (by have h := hR; obtain ⟨h1, h2, h3, h4, h5, h6, h7⟩ := h; rw [if_pos rfl] at h7; exact ⟨h1, h2, h3, h4, h5, h6, h7.1, h7.2⟩ : I 1 1 = nI N ∧ N ≤ 80 ∧ I 1 3 = nI E ∧ E ≤ N ∧ (∀ k, k < N → I 2 k = nI (t k) ∧ t k < 256) ∧ a ≤ E ∧ I 1 4 = -1 ∧ I 1 2 = nI a)
  show Ev lyC d hX9_skip 0 [some (.ref 1)] [] (I, J, R) _
  refine ev_st dX9_skip_0 rfl rfl ?_
  refine ev_getI (v := nI a) dX9_skip_1 fr_9_19 rfl rfl h72 ?_
  refine ev_st dX9_skip_4 rfl rfl ?_
  refine ev_getI (v := nI E) dX9_skip_5 fr_9_28 rfl rfl h3 ?_
  refine ev_ic_geN (t := 21) (a := a) (b := E) dX9_skip_8 (by decide) rfl rfl (by omega) (by omega) (fun c_8 => ?_) (fun c_8 => ?_)
  · omega
  · refine ev_st dX9_skip_11 rfl rfl ?_
    refine ev_st dX9_skip_12 rfl rfl ?_
    refine ev_getI (v := nI a) dX9_skip_13 fr_9_19 rfl rfl h72 ?_
    refine ev_iconst (v := 1) dX9_skip_16 (by decide) ?_
    refine ev_iaddN (a := a) (b := 1) (c := a + 1) dX9_skip_17 rfl rfl rfl ?_
    refine ev_putI dX9_skip_18 fr_9_19 rfl rfl ?_
    exact ev_vret dX9_skip_21 rfl (⟨rfl, rfl⟩)
theorem k_refuseF {I : Nat → Nat → Int32} {J : Nat → Nat → Int64} {R : Nat → Nat → Value} {t : Nat → Nat} {d E N a : Nat} (hR : cR I t E N (true, a)) : Cal lyC d hX9_refuse 1 [.ref 1] (I, J, R) (fun r M' => r = none ∧ M' = (ti_wr I 1 4 (nI a), J, R)) := by
  obtain ⟨h1, h2, h3, h4, h5, h6, h74, h72⟩ : _ ∧ _ ∧ _ ∧ _ ∧ _ ∧ _ ∧ _ ∧ _ := (by have h := hR; obtain ⟨h1, h2, h3, h4, h5, h6, h7⟩ := h; rw [if_pos rfl] at h7; exact ⟨h1, h2, h3, h4, h5, h6, h7.1, h7.2⟩ : I 1 1 = nI N ∧ N ≤ 80 ∧ I 1 3 = nI E ∧ E ≤ N ∧ (∀ k, k < N → I 2 k = nI (t k) ∧ t k < 256) ∧ a ≤ E ∧ I 1 4 = -1 ∧ I 1 2 = nI a)
  show Ev lyC d hX9_refuse 0 [some (.ref 1)] [] (I, J, R) _
  refine ev_st dX9_refuse_0 rfl rfl ?_
  refine ev_getI (v := (-1)) dX9_refuse_1 fr_9_31 rfl rfl h74 ?_
  refine ev_if_ge (t := 15) dX9_refuse_4 (by decide) (fun q => absurd q (by decide)) (fun _ => ?_)
  refine ev_st dX9_refuse_7 rfl rfl ?_
  refine ev_st dX9_refuse_8 rfl rfl ?_
  refine ev_getI (v := nI a) dX9_refuse_9 fr_9_19 rfl rfl h72 ?_
  refine ev_putI dX9_refuse_12 fr_9_31 rfl rfl ?_
  exact ev_vret dX9_refuse_15 rfl (⟨rfl, rfl⟩)
theorem k_refuseE {I : Nat → Nat → Int32} {J : Nat → Nat → Int64} {R : Nat → Nat → Value} {t : Nat → Nat} {d E N e : Nat} (hR : cR I t E N (false, e)) : Cal lyC d hX9_refuse 1 [.ref 1] (I, J, R) (fun r M' => r = none ∧ M' = (I, J, R)) := by
  obtain ⟨h1, h2, h3, h4, h5, h6, h74, b, hb, h72⟩ : _ ∧ _ ∧ _ ∧ _ ∧ _ ∧ _ ∧ _ ∧ ∃ b, _ ∧ _ := (by have h := hR; obtain ⟨h1, h2, h3, h4, h5, h6, h7⟩ := h; rw [if_neg (by simp)] at h7; exact ⟨h1, h2, h3, h4, h5, h6, h7.1, h7.2⟩ : I 1 1 = nI N ∧ N ≤ 80 ∧ I 1 3 = nI E ∧ E ≤ N ∧ (∀ k, k < N → I 2 k = nI (t k) ∧ t k < 256) ∧ e ≤ E ∧ I 1 4 = nI e ∧ ∃ b, b ≤ E ∧ I 1 2 = nI b)
  show Ev lyC d hX9_refuse 0 [some (.ref 1)] [] (I, J, R) _
  refine ev_st dX9_refuse_0 rfl rfl ?_
  refine ev_getI (v := nI e) dX9_refuse_1 fr_9_31 rfl rfl h74 ?_
  refine ev_if_geN (t := 15) (a := e) dX9_refuse_4 (by decide) rfl (by omega) ?_
  exact ev_vret dX9_refuse_15 rfl (⟨rfl, rfl⟩)
theorem k_refuse {I : Nat → Nat → Int32} {J : Nat → Nat → Int64} {R : Nat → Nat → Value} {t : Nat → Nat} {d E N : Nat} {s : PS} (hR : cR I t E N s) : Cal lyC d hX9_refuse 1 [.ref 1] (I, J, R) (fun r M' => r = none ∧ ∃ I3, M' = (I3, J, R) ∧ xC I I3 ∧ cR I3 t E N (false, s.2)) := by
  obtain ⟨b, a⟩ := s
  cases b
  · exact (k_refuseE hR).imp (fun r M' ⟨e1, e2⟩ => ⟨e1, _, e2, xC.rf, hR⟩)
  · exact (k_refuseF hR).imp (fun r M' ⟨e1, e2⟩ => ⟨e1, _, e2, xC.rf.w, hR.flt hR.2.2.2.2.2.1⟩)
theorem pkS_eq {t : Nat → Nat} {E : Nat} {s : PS} {c : Nat} (hc : c < 2 ^ 31) (ht : ∀ k, k < E → t k < 256) (h : pk t E s = nI c) : s.1 = true ∧ s.2 < E ∧ t s.2 = c := by
  unfold pk at h
  split at h
  · next h1 =>
    split at h
    · next h2 => exact ⟨h1, h2, (nI_eq (by have := ht _ h2; omega) hc).mp h⟩
    · exact absurd (h ▸ (show (-1 : Int32) < 0 by decide)) (nI_pos hc)
  · exact absurd (h ▸ (show (-1 : Int32) < 0 by decide)) (nI_pos hc)
/-- pass a sign, if it is there -/
def sPass (t : Nat → Nat) (E : Nat) (c : Nat) (s : PS) : PS := if pk t E s = nI c then (true, s.2 + 1) else s
def sNeed (t : Nat → Nat) (E : Nat) (c : Nat) (s : PS) : PS := if pk t E s = nI c then (true, s.2 + 1) else (false, s.2)
theorem cR.t {I : Nat → Nat → Int32} {t : Nat → Nat} {E N : Nat} {s : PS} (h : cR I t E N s) : ∀ k, k < E → t k < 256 := fun k hk => (h.2.2.2.2.1 k (by have := h.2.2.2.1; omega)).2
theorem k_passes1 {I : Nat → Nat → Int32} {J : Nat → Nat → Int64} {R : Nat → Nat → Value} {t : Nat → Nat} {d E N c : Nat} {s : PS} (hR : cR I t E N s) (hc : c < 2 ^ 31) (hp : pk t E s = nI c) : Cal lyC (d + 1) hX9_passes 3 [.ref 1, .int (nI c)] (I, J, R) (fun r M' => r = some (.int 1) ∧ M' = (ti_wr I 1 2 (nI (s.2 + 1)), J, R)) := by
  obtain ⟨hs1, hlt, htc⟩ := pkS_eq hc hR.t hp
  have hRF : cR I t E N (true, s.2) := by have := hR; obtain ⟨b, a⟩ := s; cases b; (cases hs1); (exact this)
  show Ev lyC (d + 1) hX9_passes 0 [some (.ref 1), some (.int (nI c)), none] [] (I, J, R) _
  refine ev_st dX9_passes_0 rfl rfl ?_
  refine ev_call dX9_passes_1 rfl rfl mr_9_34 rfl rfl rfl (k_peek hR) ?_
  rintro _ _ ⟨rfl, rfl⟩
  show Ev lyC (d + 1) hX9_passes 4 [some (.ref 1), some (.int (nI c)), none] [.int (pk t E s)] (I, J, R) _
  refine ev_st dX9_passes_4 rfl rfl ?_
  refine ev_ic_ne (t := 12) (x := pk t E s) (y := nI c) dX9_passes_5 (by decide) (fun c_5 => ?_) (fun c_5 => ?_)
  · exact absurd hp c_5
  · refine ev_iconst (v := 1) dX9_passes_8 (by decide) ?_
    refine ev_goto (t := 13) dX9_passes_9 (by decide) ?_
    refine ev_st (L' := [some (.ref 1), some (.int (nI c)), some (.int 1)]) dX9_passes_13 rfl rfl ?_
    refine ev_st dX9_passes_14 rfl rfl ?_
    refine ev_if_eq (t := 22) dX9_passes_15 (by decide) (fun q => absurd q (by decide)) (fun _ => ?_)
    refine ev_st dX9_passes_18 rfl rfl ?_
    refine ev_call dX9_passes_19 rfl rfl mr_9_38 rfl rfl rfl (k_skip (a := s.2) hRF hlt) ?_
    rintro _ _ ⟨rfl, rfl⟩
    show Ev lyC (d + 1) hX9_passes 22 [some (.ref 1), some (.int (nI c)), some (.int 1)] [] (ti_wr I 1 2 (nI (s.2 + 1)), J, R) _
    refine ev_st dX9_passes_22 rfl rfl ?_
    exact ev_zret dX9_passes_23 rfl (by decide) (⟨rfl, rfl⟩)
theorem k_passes0 {I : Nat → Nat → Int32} {J : Nat → Nat → Int64} {R : Nat → Nat → Value} {t : Nat → Nat} {d E N c : Nat} {s : PS} (hR : cR I t E N s) (hc : c < 2 ^ 31) (hp : ¬ pk t E s = nI c) : Cal lyC (d + 1) hX9_passes 3 [.ref 1, .int (nI c)] (I, J, R) (fun r M' => r = some (.int 0) ∧ M' = (I, J, R)) := by
  show Ev lyC (d + 1) hX9_passes 0 [some (.ref 1), some (.int (nI c)), none] [] (I, J, R) _
  refine ev_st dX9_passes_0 rfl rfl ?_
  refine ev_call dX9_passes_1 rfl rfl mr_9_34 rfl rfl rfl (k_peek hR) ?_
  rintro _ _ ⟨rfl, rfl⟩
  show Ev lyC (d + 1) hX9_passes 4 [some (.ref 1), some (.int (nI c)), none] [.int (pk t E s)] (I, J, R) _
  refine ev_st dX9_passes_4 rfl rfl ?_
  refine ev_ic_ne (t := 12) (x := pk t E s) (y := nI c) dX9_passes_5 (by decide) (fun c_5 => ?_) (fun c_5 => ?_)
  · refine ev_iconst (v := 0) dX9_passes_12 (by decide) ?_
    refine ev_st (L' := [some (.ref 1), some (.int (nI c)), some (.int 0)]) dX9_passes_13 rfl rfl ?_
    refine ev_st dX9_passes_14 rfl rfl ?_
    refine ev_if_eq (t := 22) dX9_passes_15 (by decide) (fun _ => ?_) (fun q => absurd q (by decide))
    refine ev_st dX9_passes_22 rfl rfl ?_
    exact ev_zret dX9_passes_23 rfl (by decide) (⟨rfl, rfl⟩)
  · exact absurd c_5 hp
theorem cR.fine {I : Nat → Nat → Int32} {t : Nat → Nat} {E N : Nat} {s : PS} (h : cR I t E N s) (hs : s.1 = true) : cR I t E N (true, s.2) := by
  obtain ⟨b, a⟩ := s
  cases b
  · cases hs
  · exact h
theorem k_passes {I : Nat → Nat → Int32} {J : Nat → Nat → Int64} {R : Nat → Nat → Value} {t : Nat → Nat} {d E N c : Nat} {s : PS} (hR : cR I t E N s) (hc : c < 2 ^ 31) : Cal lyC (d + 1) hX9_passes 3 [.ref 1, .int (nI c)] (I, J, R) (fun r M' => r = some (.int (if pk t E s = nI c then 1 else 0)) ∧ ∃ I3, M' = (I3, J, R) ∧ xC I I3 ∧ cR I3 t E N (sPass t E c s)) := by
  by_cases hp : pk t E s = nI c
  · obtain ⟨hs1, hlt, htc⟩ := pkS_eq hc hR.t hp
    rw [if_pos hp, sPass, if_pos hp]
    exact (k_passes1 hR hc hp).imp (fun r M' ⟨e1, e2⟩ => ⟨e1, _, e2, xC.rf.w, hR.at hs1 (by omega)⟩)
  · rw [if_neg hp, sPass, if_neg hp]
    exact (k_passes0 hR hc hp).imp (fun r M' ⟨e1, e2⟩ => ⟨e1, _, e2, xC.rf, hR⟩)
theorem if01n {p : Prop} [Decidable p] (h : (if p then (1 : Int32) else 0) = 0) : ¬ p := by
  intro q; rw [if_pos q] at h; exact absurd h (by decide)
theorem k_require {I : Nat → Nat → Int32} {J : Nat → Nat → Int64} {R : Nat → Nat → Value} {t : Nat → Nat} {d E N c : Nat} {s : PS} (hR : cR I t E N s) (hc : c < 2 ^ 31) : Cal lyC (d + 2) hX9_require 2 [.ref 1, .int (nI c)] (I, J, R) (fun r M' => r = none ∧ ∃ I3, M' = (I3, J, R) ∧ xC I I3 ∧ cR I3 t E N (sNeed t E c s)) := by
  show Ev lyC (d + 2) hX9_require 0 [some (.ref 1), some (.int (nI c))] [] (I, J, R) _
  refine ev_st dX9_require_0 rfl rfl ?_
  refine ev_st dX9_require_1 rfl rfl ?_
  refine ev_call dX9_require_2 rfl rfl mr_9_41 rfl rfl rfl (k_passes hR hc) ?_
  rintro _ _ ⟨rfl, I2, rfl, hx2, hR2⟩
  show Ev lyC (d + 2) hX9_require 5 [some (.ref 1), some (.int (nI c))] [.int (if pk t E s = nI c then 1 else 0)] (I2, J, R) _
  refine ev_if_ne (t := 12) (x := if pk t E s = nI c then 1 else 0) dX9_require_5 (by decide) (fun c_5 => ?_) (fun c_5 => ?_)
  · exact ev_vret dX9_require_12 rfl (⟨rfl, _, rfl, hx2, by have q := if01 c_5; rw [sPass, if_pos q] at hR2; rw [sNeed, if_pos q]; exact hR2⟩)
  · refine ev_st dX9_require_8 rfl rfl ?_
    refine ev_call dX9_require_9 rfl rfl mr_9_45 rfl rfl rfl (k_refuse hR2) ?_
    rintro _ _ ⟨rfl, I3, rfl, hx3, hR3⟩
    show Ev lyC (d + 2) hX9_require 12 [some (.ref 1), some (.int (nI c))] [] (I3, J, R) _
    exact ev_vret dX9_require_12 rfl (⟨rfl, _, rfl, hx2.tr hx3, by have q := if01n c_5; rw [sPass, if_neg q] at hR3; rw [sNeed, if_neg q]; exact hR3⟩)
def sSev (t : Nat → Nat) (E l : Nat) (s : PS) : Int32 × PS := if pk t E s - 97 < nI l then (-1, s) else if pk t E s - 97 < 4 then (pk t E s - 97, (true, s.2 + 1)) else (-1, s)
theorem sev_ok {t : Nat → Nat} {E l : Nat} {s : PS} (hl : l ≤ 4) (ht : ∀ k, k < E → t k < 256) (h1 : ¬ pk t E s - 97 < nI l) (h2 : pk t E s - 97 < 4) : s.1 = true ∧ s.2 < E ∧ ∃ w, l ≤ w ∧ w < 4 ∧ t s.2 = 97 + w ∧ pk t E s - 97 = nI w := by
  unfold pk at h1 h2 ⊢
  by_cases e1 : s.1 = true
  · rw [if_pos e1] at h1 h2 ⊢
    by_cases e2 : s.2 < E
    · rw [if_pos e2] at h1 h2 ⊢
      have h256 := ht _ e2
      generalize t s.2 = x at h1 h2 h256 ⊢
      rw [show (97 : Int32) = iI 97 from rfl, nI_iI, iI_sub, nI_iI, iI_lt (by omega) (by omega) (by omega) (by omega)] at h1
      rw [show (97 : Int32) = iI 97 from rfl, nI_iI, iI_sub, show (4 : Int32) = iI 4 from rfl, iI_lt (by omega) (by omega) (by omega) (by omega)] at h2
      refine ⟨e1, e2, x - 97, by omega, by omega, by omega, ?_⟩
      rw [show (97 : Int32) = nI 97 from rfl]
      exact pk_sub (by omega)
    · rw [if_neg e2] at h1
      exact absurd (show (-1 : Int32) - 97 < nI l by rw [show (-1 : Int32) - 97 = iI (-98) from rfl, nI_iI, iI_lt (by omega) (by omega) (by omega) (by omega)]; omega) h1
  · rw [if_neg e1] at h1
    exact absurd (show (-1 : Int32) - 97 < nI l by rw [show (-1 : Int32) - 97 = iI (-98) from rfl, nI_iI, iI_lt (by omega) (by omega) (by omega) (by omega)]; omega) h1
theorem k_passSeventh {I : Nat → Nat → Int32} {J : Nat → Nat → Int64} {R : Nat → Nat → Value} {t : Nat → Nat} {d E N l : Nat} {s : PS} (hR : cR I t E N s) (hl : l ≤ 4) : Cal lyC (d + 1) hX9_passSeventh 3 [.ref 1, .int (nI l)] (I, J, R) (fun r M' => r = some (.int (sSev t E l s).1) ∧ ∃ I3, M' = (I3, J, R) ∧ xC I I3 ∧ cR I3 t E N (sSev t E l s).2) := by
  show Ev lyC (d + 1) hX9_passSeventh 0 [some (.ref 1), some (.int (nI l)), none] [] (I, J, R) _
  refine ev_st dX9_passSeventh_0 rfl rfl ?_
  refine ev_call dX9_passSeventh_1 rfl rfl mr_9_34 rfl rfl rfl (k_peek hR) ?_
  rintro _ _ ⟨rfl, rfl⟩
  show Ev lyC (d + 1) hX9_passSeventh 4 [some (.ref 1), some (.int (nI l)), none] [.int (pk t E s)] (I, J, R) _
  refine ev_bipush (v := 97) dX9_passSeventh_4 (by decide) ?_
  refine ev_st dX9_passSeventh_6 rfl rfl ?_
  refine ev_st (L' := [some (.ref 1), some (.int (nI l)), some (.int ((pk t E s) - 97))]) dX9_passSeventh_7 rfl rfl ?_
  refine ev_st dX9_passSeventh_8 rfl rfl ?_
  refine ev_st dX9_passSeventh_9 rfl rfl ?_
  refine ev_ic_lt (t := 18) (x := (pk t E s) - 97) (y := nI l) dX9_passSeventh_10 (by decide) (fun c_10 => ?_) (fun c_10 => ?_)
  · refine ev_iconst (v := -1) dX9_passSeventh_18 (by decide) ?_
    exact ev_iret dX9_passSeventh_19 rfl (⟨by rw [sSev, if_pos c_10], _, rfl, xC.rf, by rw [sSev, if_pos c_10]; exact hR⟩)
  · refine ev_st dX9_passSeventh_13 rfl rfl ?_
    refine ev_iconst (v := 4) dX9_passSeventh_14 (by decide) ?_
    refine ev_ic_lt (t := 20) (x := (pk t E s) - 97) (y := 4) dX9_passSeventh_15 (by decide) (fun c_15 => ?_) (fun c_15 => ?_)
    · refine ev_st dX9_passSeventh_20 rfl rfl ?_
      refine ev_call dX9_passSeventh_21 rfl rfl mr_9_38 rfl rfl rfl (k_skip (a := s.2) (hR.fine (sev_ok hl hR.t c_10 c_15).1) (sev_ok hl hR.t c_10 c_15).2.1) ?_
      rintro _ _ ⟨rfl, rfl⟩
      show Ev lyC (d + 1) hX9_passSeventh 24 [some (.ref 1), some (.int (nI l)), some (.int ((pk t E s) - 97))] [] (ti_wr I 1 2 (nI (s.2 + 1)), J, R) _
      refine ev_st dX9_passSeventh_24 rfl rfl ?_
      exact ev_iret dX9_passSeventh_25 rfl (⟨by rw [sSev, if_neg c_10, if_pos c_15], _, rfl, xC.rf.w, by rw [sSev, if_neg c_10, if_pos c_15]; exact hR.at (sev_ok hl hR.t c_10 c_15).1 (by have := (sev_ok hl hR.t c_10 c_15).2.1; omega)⟩)
    · refine ev_iconst (v := -1) dX9_passSeventh_18 (by decide) ?_
      exact ev_iret dX9_passSeventh_19 rfl (⟨by rw [sSev, if_neg c_10, if_neg c_15], _, rfl, xC.rf, by rw [sSev, if_neg c_10, if_neg c_15]; exact hR⟩)
