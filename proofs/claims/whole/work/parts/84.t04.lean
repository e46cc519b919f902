/-! texts: the model's reader -/
/-- the model's reader over the text t in the cell rp -/
def mR (rp : Nat) (I : Nat → Nat → Int32) (R : Nat → Nat → Value) (t : Nat → Nat) (E N T : Nat) (s : PS) : Prop := R 0 13 = .ref rp ∧ (rp = 6 ∧ N ≤ 80 ∨ (rp = 9 ∨ rp = 10) ∧ N ≤ 40) ∧ I 0 14 = nI N ∧ I 0 15 = nI T ∧ T ≤ 80 ∧ E = min N T ∧ (∀ k, k < N → I rp k = bI (t k) ∧ t k < 256) ∧ s.2 ≤ E ∧ (if s.1 = true then I 0 17 = -1 ∧ I 0 16 = nI s.2 else I 0 17 = nI s.2 ∧ ∃ a, a ≤ E ∧ I 0 16 = nI a)
def rF (I I3 : Nat → Nat → Int32) : Prop := (∀ p, p ≠ 0 → I3 p = I p) ∧ ∀ k, k ≠ 16 → k ≠ 17 → I3 0 k = I 0 k
theorem rF.rf {I : Nat → Nat → Int32} : rF I I := ⟨fun _ _ => rfl, fun _ _ _ => rfl⟩
theorem rF.tr {I I2 I3 : Nat → Nat → Int32} (h : rF I I2) (g : rF I2 I3) : rF I I3 := ⟨fun p a => (g.1 p a).trans (h.1 p a), fun k a b => (g.2 k a b).trans (h.2 k a b)⟩
theorem rF.w16 {I I2 : Nat → Nat → Int32} {v : Int32} (h : rF I I2) : rF I (ti_wr I2 0 16 v) := ⟨fun p a => (ti_wr_n a).trans (h.1 p a), fun k a b => (wr_ne a).trans (h.2 k a b)⟩
theorem rF.w17 {I I2 : Nat → Nat → Int32} {v : Int32} (h : rF I I2) : rF I (ti_wr I2 0 17 v) := ⟨fun p a => (ti_wr_n a).trans (h.1 p a), fun k a b => (wr_ne b).trans (h.2 k a b)⟩
theorem rF.p {I I3 : Nat → Nat → Int32} (h : rF I I3) (p : Nat) (hp : (p != 0) = true) : I3 p = I p := h.1 p (by simpa using hp)
theorem rF.f {I I3 : Nat → Nat → Int32} (h : rF I I3) (k : Nat) (hk : (k != 16 && k != 17) = true) : I3 0 k = I 0 k := by
  simp at hk
  exact h.2 k hk.1 hk.2
theorem mR.rp0 {rp : Nat} {I : Nat → Nat → Int32} {R : Nat → Nat → Value} {t : Nat → Nat} {E N T : Nat} {s : PS} (h : mR rp I R t E N T s) : rp ≠ 0 := by
  rcases h.2.1 with ⟨rfl, _⟩ | ⟨rfl | rfl, _⟩ <;> decide
theorem mR.at {rp : Nat} {I : Nat → Nat → Int32} {R : Nat → Nat → Value} {t : Nat → Nat} {E N T : Nat} {s : PS} {a : Nat} (h : mR rp I R t E N T s) (hs : s.1 = true) (ha : a ≤ E) : mR rp (ti_wr I 0 16 (nI a)) R t E N T (true, a) := by
  have h0 := h.rp0
  obtain ⟨h1, h2, h3, h4, h5, h6, h7, h8, h9⟩ := h
  rw [if_pos hs] at h9
  exact ⟨h1, h2, h3, h4, h5, h6, by rw [ti_wr_n h0]; exact h7, ha, by rw [if_pos rfl]; exact ⟨h9.1, rfl⟩⟩
theorem mR.flt {rp : Nat} {I : Nat → Nat → Int32} {R : Nat → Nat → Value} {t : Nat → Nat} {E N T : Nat} {s : PS} {e : Nat} (h : mR rp I R t E N T s) (he : e ≤ E) : mR rp (ti_wr I 0 17 (nI e)) R t E N T (false, e) := by
  have h0 := h.rp0
  obtain ⟨h1, h2, h3, h4, h5, h6, h7, h8, h9⟩ := h
  refine ⟨h1, h2, h3, h4, h5, h6, by rw [ti_wr_n h0]; exact h7, he, ?_⟩
  rw [if_neg (by simp)]
  refine ⟨rfl, ?_⟩
  split at h9
  · exact ⟨_, h8, h9.2⟩
  · exact h9.2
theorem mR.ly {rp : Nat} {I : Nat → Nat → Int32} {R : Nat → Nat → Value} {t : Nat → Nat} {E N T : Nat} {s : PS} (h : mR rp I R t E N T s) : ∃ nn, lyM[rp]? = some (.inr (.inl (1, nn))) ∧ N ≤ nn ∧ nn ≤ 80 := by
  rcases h.2.1 with ⟨rfl, q⟩ | ⟨rfl | rfl, q⟩
  · exact ⟨80, rfl, q, by decide⟩
  · exact ⟨40, rfl, q, by decide⟩
  · exact ⟨40, rfl, q, by decide⟩
theorem mR.t {rp : Nat} {I : Nat → Nat → Int32} {R : Nat → Nat → Value} {t : Nat → Nat} {E N T : Nat} {s : PS} (h : mR rp I R t E N T s) : ∀ k, k < E → t k < 256 := fun k hk => (h.2.2.2.2.2.2.1 k (by have := h.2.2.2.2.2.1; omega)).2
theorem mR.fine {rp : Nat} {I : Nat → Nat → Int32} {R : Nat → Nat → Value} {t : Nat → Nat} {E N T : Nat} {s : PS} (h : mR rp I R t E N T s) (hs : s.1 = true) : mR rp I R t E N T (true, s.2) := by
  obtain ⟨b, a⟩ := s
  cases b
  · cases hs
  · exact h
theorem b255 : ∀ x, x < 256 → bI x &&& 255 = nI x := by decide +kernel
theorem b128 : ∀ x, x < 128 → bI x = nI x := by decide +kernel
theorem neM1 {e : Nat} (h : e < 2 ^ 31) : ¬ nI e = -1 := fun q => nI_pos h (by rw [q]; decide)
theorem c_here {I : Nat → Nat → Int32} {J : Nat → Nat → Int64} {R : Nat → Nat → Value} {rp : Nat} {t : Nat → Nat} {d E N T a : Nat} (hR : mR rp I R t E N T (true, a)) : Cal lyM d hX12_here 1 [.ref 0] (I, J, R) (fun r M' => r = some (.int (pk t E (true, a))) ∧ M' = (I, J, R)) := by
  obtain ⟨nn, hly, hNn, hn80⟩ := hR.ly
  obtain ⟨hr13, h14, h15, hT80, hE, ht, haE, h17, h16⟩ : R 0 13 = .ref rp ∧ I 0 14 = nI N ∧ I 0 15 = nI T ∧ T ≤ 80 ∧ E = min N T ∧ (∀ k, k < N → I rp k = bI (t k) ∧ t k < 256) ∧ a ≤ E ∧ I 0 17 = -1 ∧ I 0 16 = nI a := (by obtain ⟨h1, h2, h3, h4, h5, h6, h7, h8, h9⟩ := hR; rw [if_pos rfl] at h9; exact ⟨h1, h3, h4, h5, h6, h7, h8, h9.1, h9.2⟩)
  have hEN : E ≤ N := by omega
  show Ev lyM d hX12_here 0 [some (.ref 0)] [] (I, J, R) _
  refine ev_st dX12_here_0 rfl rfl ?_
  refine ev_getI (v := nI a) dX12_here_1 fr_12_117 rfl rfl h16 ?_
  refine ev_st dX12_here_4 rfl rfl ?_
  refine ev_getI (v := nI N) dX12_here_5 fr_12_111 rfl rfl h14 ?_
  refine ev_ic_geN (t := 38) (a := a) (b := N) dX12_here_8 (by decide) rfl rfl (by omega) (by omega) (fun c_8 => ?_) (fun c_8 => ?_)
  · refine ev_iconst (v := -1) dX12_here_38 (by decide) ?_
    exact ev_iret dX12_here_39 rfl (⟨by rw [pk, if_pos rfl, if_neg (show ¬ a < E by omega)], rfl⟩)
  · refine ev_st dX12_here_11 rfl rfl ?_
    refine ev_getI (v := nI a) dX12_here_12 fr_12_117 rfl rfl h16 ?_
    refine ev_st dX12_here_15 rfl rfl ?_
    refine ev_getI (v := nI T) dX12_here_16 fr_12_114 rfl rfl h15 ?_
    refine ev_ic_geN (t := 38) (a := a) (b := T) dX12_here_19 (by decide) rfl rfl (by omega) (by omega) (fun c_19 => ?_) (fun c_19 => ?_)
    · refine ev_iconst (v := -1) dX12_here_38 (by decide) ?_
      exact ev_iret dX12_here_39 rfl (⟨by rw [pk, if_pos rfl, if_neg (show ¬ a < E by omega)], rfl⟩)
    · refine ev_st dX12_here_22 rfl rfl ?_
      refine ev_getR (v := .ref rp) dX12_here_23 fr_12_108 rfl rfl hr13 ?_
      refine ev_st dX12_here_26 rfl rfl ?_
      refine ev_getI (v := nI a) dX12_here_27 fr_12_117 rfl rfl h16 ?_
      refine ev_bald (j := a) (v := bI (t a)) dX12_here_30 hly (by decide) rfl (by omega) (by omega) (ht a (by omega)).1 ?_
      refine ev_sipush (v := 255) dX12_here_31 (by decide) ?_
      refine ev_st dX12_here_34 rfl rfl ?_
      refine ev_goto (t := 39) dX12_here_35 (by decide) ?_
      exact ev_iret dX12_here_39 rfl (⟨by rw [pk, if_pos rfl, if_pos (show a < E by omega), b255 _ (ht a (by omega)).2], rfl⟩)
theorem c_fineF {I : Nat → Nat → Int32} {J : Nat → Nat → Int64} {R : Nat → Nat → Value} {rp : Nat} {t : Nat → Nat} {d E N T a : Nat} (hR : mR rp I R t E N T (true, a)) : Cal lyM d hX12_fine 1 [.ref 0] (I, J, R) (fun r M' => r = some (.int 1) ∧ M' = (I, J, R)) := by
  obtain ⟨nn, hly, hNn, hn80⟩ := hR.ly
  obtain ⟨hr13, h14, h15, hT80, hE, ht, haE, h17, h16⟩ : R 0 13 = .ref rp ∧ I 0 14 = nI N ∧ I 0 15 = nI T ∧ T ≤ 80 ∧ E = min N T ∧ (∀ k, k < N → I rp k = bI (t k) ∧ t k < 256) ∧ a ≤ E ∧ I 0 17 = -1 ∧ I 0 16 = nI a := (by obtain ⟨h1, h2, h3, h4, h5, h6, h7, h8, h9⟩ := hR; rw [if_pos rfl] at h9; exact ⟨h1, h3, h4, h5, h6, h7, h8, h9.1, h9.2⟩)
  have hEN : E ≤ N := by omega
  show Ev lyM d hX12_fine 0 [some (.ref 0)] [] (I, J, R) _
  refine ev_st dX12_fine_0 rfl rfl ?_
  refine ev_getI (v := (-1)) dX12_fine_1 fr_12_120 rfl rfl h17 ?_
  refine ev_iconst (v := -1) dX12_fine_4 (by decide) ?_
  refine ev_ic_ne (t := 12) (x := (-1)) (y := (-1)) dX12_fine_5 (by decide) (fun c_5 => ?_) (fun c_5 => ?_)
  · exact absurd rfl c_5
  · refine ev_iconst (v := 1) dX12_fine_8 (by decide) ?_
    refine ev_goto (t := 13) dX12_fine_9 (by decide) ?_
    exact ev_zret dX12_fine_13 rfl (by decide) (⟨rfl, rfl⟩)
theorem c_fineE {I : Nat → Nat → Int32} {J : Nat → Nat → Int64} {R : Nat → Nat → Value} {rp : Nat} {t : Nat → Nat} {d E N T e : Nat} (hR : mR rp I R t E N T (false, e)) : Cal lyM d hX12_fine 1 [.ref 0] (I, J, R) (fun r M' => r = some (.int 0) ∧ M' = (I, J, R)) := by
  obtain ⟨nn, hly, hNn, hn80⟩ := hR.ly
  obtain ⟨hr13, h14, h15, hT80, hE, ht, haE, h17, b, hbE, h16⟩ : R 0 13 = .ref rp ∧ I 0 14 = nI N ∧ I 0 15 = nI T ∧ T ≤ 80 ∧ E = min N T ∧ (∀ k, k < N → I rp k = bI (t k) ∧ t k < 256) ∧ e ≤ E ∧ I 0 17 = nI e ∧ ∃ b, b ≤ E ∧ I 0 16 = nI b := (by obtain ⟨h1, h2, h3, h4, h5, h6, h7, h8, h9⟩ := hR; rw [if_neg (by simp)] at h9; exact ⟨h1, h3, h4, h5, h6, h7, h8, h9.1, h9.2⟩)
  have hEN : E ≤ N := by omega
  show Ev lyM d hX12_fine 0 [some (.ref 0)] [] (I, J, R) _
  refine ev_st dX12_fine_0 rfl rfl ?_
  refine ev_getI (v := nI e) dX12_fine_1 fr_12_120 rfl rfl h17 ?_
  refine ev_iconst (v := -1) dX12_fine_4 (by decide) ?_
  refine ev_ic_ne (t := 12) (x := nI e) (y := (-1)) dX12_fine_5 (by decide) (fun c_5 => ?_) (fun c_5 => ?_)
  · refine ev_iconst (v := 0) dX12_fine_12 (by decide) ?_
    exact ev_zret dX12_fine_13 rfl (by decide) (⟨rfl, rfl⟩)
  · exact absurd c_5 (neM1 (by omega))
theorem c_fine {I : Nat → Nat → Int32} {J : Nat → Nat → Int64} {R : Nat → Nat → Value} {rp : Nat} {t : Nat → Nat} {d E N T : Nat} {s : PS} (hR : mR rp I R t E N T s) : Cal lyM d hX12_fine 1 [.ref 0] (I, J, R) (fun r M' => r = some (.int (b2i s.1)) ∧ M' = (I, J, R)) := by
  obtain ⟨b, a⟩ := s
  cases b
  · exact c_fineE hR
  · exact c_fineF hR
theorem c_faultF {I : Nat → Nat → Int32} {J : Nat → Nat → Int64} {R : Nat → Nat → Value} {rp : Nat} {t : Nat → Nat} {d E N T a : Nat} (hR : mR rp I R t E N T (true, a)) (x : Int32) : Cal lyM (d + 1) hX12_fault 2 [.ref 0, .int x] (I, J, R) (fun r M' => r = none ∧ M' = (ti_wr I 0 17 x, J, R)) := by
  show Ev lyM (d + 1) hX12_fault 0 [some (.ref 0), some (.int x)] [] (I, J, R) _
  refine ev_st dX12_fault_0 rfl rfl ?_
  refine ev_call dX12_fault_1 rfl rfl mr_12_127 rfl rfl rfl (c_fineF hR) ?_
  rintro _ _ ⟨rfl, rfl⟩
  show Ev lyM (d + 1) hX12_fault 4 [some (.ref 0), some (.int x)] [.int 1] (I, J, R) _
  refine ev_if_eq (t := 12) dX12_fault_4 (by decide) (fun q => absurd q (by decide)) (fun _ => ?_)
  refine ev_st dX12_fault_7 rfl rfl ?_
  refine ev_st dX12_fault_8 rfl rfl ?_
  refine ev_putI dX12_fault_9 fr_12_120 rfl rfl ?_
  exact ev_vret dX12_fault_12 rfl (⟨rfl, rfl⟩)
theorem c_faultE {I : Nat → Nat → Int32} {J : Nat → Nat → Int64} {R : Nat → Nat → Value} {rp : Nat} {t : Nat → Nat} {d E N T e : Nat} (hR : mR rp I R t E N T (false, e)) (x : Int32) : Cal lyM (d + 1) hX12_fault 2 [.ref 0, .int x] (I, J, R) (fun r M' => r = none ∧ M' = (I, J, R)) := by
  show Ev lyM (d + 1) hX12_fault 0 [some (.ref 0), some (.int x)] [] (I, J, R) _
  refine ev_st dX12_fault_0 rfl rfl ?_
  refine ev_call dX12_fault_1 rfl rfl mr_12_127 rfl rfl rfl (c_fineE hR) ?_
  rintro _ _ ⟨rfl, rfl⟩
  show Ev lyM (d + 1) hX12_fault 4 [some (.ref 0), some (.int x)] [.int 0] (I, J, R) _
  refine ev_if_eq (t := 12) dX12_fault_4 (by decide) (fun _ => ?_) (fun q => absurd q (by decide))
  exact ev_vret dX12_fault_12 rfl (⟨rfl, rfl⟩)
theorem c_passesE {I : Nat → Nat → Int32} {J : Nat → Nat → Int64} {R : Nat → Nat → Value} {rp : Nat} {t : Nat → Nat} {d E N T e : Nat} (hR : mR rp I R t E N T (false, e)) (x : Int32) : Cal lyM (d + 1) hX12_passes 2 [.ref 0, .int x] (I, J, R) (fun r M' => r = some (.int 0) ∧ M' = (I, J, R)) := by
  show Ev lyM (d + 1) hX12_passes 0 [some (.ref 0), some (.int x)] [] (I, J, R) _
  refine ev_st dX12_passes_0 rfl rfl ?_
  refine ev_call dX12_passes_1 rfl rfl mr_12_127 rfl rfl rfl (c_fineE hR) ?_
  rintro _ _ ⟨rfl, rfl⟩
  show Ev lyM (d + 1) hX12_passes 4 [some (.ref 0), some (.int x)] [.int 0] (I, J, R) _
  refine ev_if_eq (t := 15) dX12_passes_4 (by decide) (fun _ => ?_) (fun q => absurd q (by decide))
  refine ev_iconst (v := 0) dX12_passes_15 (by decide) ?_
  exact ev_zret dX12_passes_16 rfl (by decide) (⟨rfl, rfl⟩)
theorem c_passes0 {I : Nat → Nat → Int32} {J : Nat → Nat → Int64} {R : Nat → Nat → Value} {rp : Nat} {t : Nat → Nat} {d E N T a : Nat} (hR : mR rp I R t E N T (true, a)) {x : Int32} (hp : ¬ pk t E (true, a) = x) : Cal lyM (d + 1) hX12_passes 2 [.ref 0, .int x] (I, J, R) (fun r M' => r = some (.int 0) ∧ M' = (I, J, R)) := by
  obtain ⟨nn, hly, hNn, hn80⟩ := hR.ly
  obtain ⟨hr13, h14, h15, hT80, hE, ht, haE, h17, h16⟩ : R 0 13 = .ref rp ∧ I 0 14 = nI N ∧ I 0 15 = nI T ∧ T ≤ 80 ∧ E = min N T ∧ (∀ k, k < N → I rp k = bI (t k) ∧ t k < 256) ∧ a ≤ E ∧ I 0 17 = -1 ∧ I 0 16 = nI a := (by obtain ⟨h1, h2, h3, h4, h5, h6, h7, h8, h9⟩ := hR; rw [if_pos rfl] at h9; exact ⟨h1, h3, h4, h5, h6, h7, h8, h9.1, h9.2⟩)
  have hEN : E ≤ N := by omega
  show Ev lyM (d + 1) hX12_passes 0 [some (.ref 0), some (.int x)] [] (I, J, R) _
  refine ev_st dX12_passes_0 rfl rfl ?_
  refine ev_call dX12_passes_1 rfl rfl mr_12_127 rfl rfl rfl (c_fineF hR) ?_
  rintro _ _ ⟨rfl, rfl⟩
  show Ev lyM (d + 1) hX12_passes 4 [some (.ref 0), some (.int x)] [.int 1] (I, J, R) _
  refine ev_if_eq (t := 15) dX12_passes_4 (by decide) (fun q => absurd q (by decide)) (fun _ => ?_)
  refine ev_st dX12_passes_7 rfl rfl ?_
  refine ev_call dX12_passes_8 rfl rfl mr_12_131 rfl rfl rfl (c_here hR) ?_
  rintro _ _ ⟨rfl, rfl⟩
  show Ev lyM (d + 1) hX12_passes 11 [some (.ref 0), some (.int x)] [.int (pk t E (true, a))] (I, J, R) _
  refine ev_st dX12_passes_11 rfl rfl ?_
  refine ev_ic_eq (t := 17) (x := pk t E (true, a)) (y := x) dX12_passes_12 (by decide) (fun c_12 => ?_) (fun c_12 => ?_)
  · exact absurd c_12 hp
  · refine ev_iconst (v := 0) dX12_passes_15 (by decide) ?_
    exact ev_zret dX12_passes_16 rfl (by decide) (⟨rfl, rfl⟩)
theorem c_passes1 {I : Nat → Nat → Int32} {J : Nat → Nat → Int64} {R : Nat → Nat → Value} {rp : Nat} {t : Nat → Nat} {d E N T a : Nat} (hR : mR rp I R t E N T (true, a)) {x : Int32} (hp : pk t E (true, a) = x) : Cal lyM (d + 1) hX12_passes 2 [.ref 0, .int x] (I, J, R) (fun r M' => r = some (.int 1) ∧ M' = (ti_wr I 0 16 (nI (a + 1)), J, R)) := by
  obtain ⟨nn, hly, hNn, hn80⟩ := hR.ly
  obtain ⟨hr13, h14, h15, hT80, hE, ht, haE, h17, h16⟩ : R 0 13 = .ref rp ∧ I 0 14 = nI N ∧ I 0 15 = nI T ∧ T ≤ 80 ∧ E = min N T ∧ (∀ k, k < N → I rp k = bI (t k) ∧ t k < 256) ∧ a ≤ E ∧ I 0 17 = -1 ∧ I 0 16 = nI a := (by obtain ⟨h1, h2, h3, h4, h5, h6, h7, h8, h9⟩ := hR; rw [if_pos rfl] at h9; exact ⟨h1, h3, h4, h5, h6, h7, h8, h9.1, h9.2⟩)
  have hEN : E ≤ N := by omega
  show Ev lyM (d + 1) hX12_passes 0 [some (.ref 0), some (.int x)] [] (I, J, R) _
  refine ev_st dX12_passes_0 rfl rfl ?_
  refine ev_call dX12_passes_1 rfl rfl mr_12_127 rfl rfl rfl (c_fineF hR) ?_
  rintro _ _ ⟨rfl, rfl⟩
  show Ev lyM (d + 1) hX12_passes 4 [some (.ref 0), some (.int x)] [.int 1] (I, J, R) _
  refine ev_if_eq (t := 15) dX12_passes_4 (by decide) (fun q => absurd q (by decide)) (fun _ => ?_)
  refine ev_st dX12_passes_7 rfl rfl ?_
  refine ev_call dX12_passes_8 rfl rfl mr_12_131 rfl rfl rfl (c_here hR) ?_
  rintro _ _ ⟨rfl, rfl⟩
  show Ev lyM (d + 1) hX12_passes 11 [some (.ref 0), some (.int x)] [.int (pk t E (true, a))] (I, J, R) _
  refine ev_st dX12_passes_11 rfl rfl ?_
  refine ev_ic_eq (t := 17) (x := pk t E (true, a)) (y := x) dX12_passes_12 (by decide) (fun c_12 => ?_) (fun c_12 => ?_)
  · refine ev_st dX12_passes_17 rfl rfl ?_
    refine ev_st dX12_passes_18 rfl rfl ?_
    refine ev_getI (v := nI a) dX12_passes_19 fr_12_117 rfl rfl h16 ?_
    refine ev_iconst (v := 1) dX12_passes_22 (by decide) ?_
    refine ev_iaddN (a := a) (b := 1) (c := a + 1) dX12_passes_23 rfl rfl rfl ?_
    refine ev_putI dX12_passes_24 fr_12_117 rfl rfl ?_
    refine ev_iconst (v := 1) dX12_passes_27 (by decide) ?_
    exact ev_zret dX12_passes_28 rfl (by decide) (⟨rfl, rfl⟩)
  · exact absurd hp c_12
theorem c_passes {I : Nat → Nat → Int32} {J : Nat → Nat → Int64} {R : Nat → Nat → Value} {rp : Nat} {t : Nat → Nat} {d E N T c : Nat} {s : PS} (hR : mR rp I R t E N T s) (hc : c < 2 ^ 31) : Cal lyM (d + 1) hX12_passes 2 [.ref 0, .int (nI c)] (I, J, R) (fun r M' => r = some (.int (if pk t E s = nI c then 1 else 0)) ∧ ∃ I3, M' = (I3, J, R) ∧ rF I I3 ∧ mR rp I3 R t E N T (sPass t E c s)) := by
  by_cases hp : pk t E s = nI c
  · obtain ⟨hs1, hlt, htc⟩ := pkS_eq hc hR.t hp
    rw [if_pos hp, sPass, if_pos hp]
    obtain ⟨b, a⟩ := s
    cases b
    · cases hs1
    · exact (c_passes1 hR hp).imp (fun r M' ⟨e1, e2⟩ => ⟨e1, _, e2, rF.rf.w16, hR.at rfl (by simp only at hlt; omega)⟩)
  · rw [if_neg hp, sPass, if_neg hp]
    obtain ⟨b, a⟩ := s
    cases b
    · exact (c_passesE hR (nI c)).imp (fun r M' ⟨e1, e2⟩ => ⟨e1, _, e2, rF.rf, hR⟩)
    · exact (c_passes0 hR hp).imp (fun r M' ⟨e1, e2⟩ => ⟨e1, _, e2, rF.rf, hR⟩)
theorem c_fault {I : Nat → Nat → Int32} {J : Nat → Nat → Int64} {R : Nat → Nat → Value} {rp : Nat} {t : Nat → Nat} {d E N T e : Nat} {s : PS} (hR : mR rp I R t E N T s) (he : e ≤ E) : Cal lyM (d + 1) hX12_fault 2 [.ref 0, .int (nI e)] (I, J, R) (fun r M' => r = none ∧ ∃ I3, M' = (I3, J, R) ∧ rF I I3 ∧ mR rp I3 R t E N T (if s.1 = true then (false, e) else s)) := by
  obtain ⟨b, a⟩ := s
  cases b
  · exact (c_faultE hR (nI e)).imp (fun r M' ⟨e1, e2⟩ => ⟨e1, _, e2, rF.rf, by rw [if_neg (by simp)]; exact hR⟩)
  · exact (c_faultF hR (nI e)).imp (fun r M' ⟨e1, e2⟩ => ⟨e1, _, e2, rF.rf.w17, by rw [if_pos rfl]; exact hR.flt he⟩)
theorem mR.g {rp : Nat} {I : Nat → Nat → Int32} {R : Nat → Nat → Value} {t : Nat → Nat} {E N T : Nat} {s : PS} (h : mR rp I R t E N T s) : ∃ g, I 0 16 = nI g ∧ g ≤ E ∧ (s.1 = true → g = s.2) := by
  obtain ⟨h1, h2, h3, h4, h5, h6, h7, h8, h9⟩ := h
  split at h9
  · exact ⟨_, h9.2, h8, fun _ => rfl⟩
  · next q =>
    obtain ⟨a, ha, e⟩ := h9.2
    exact ⟨a, e, ha, fun z => absurd z q⟩
theorem need_p {rp : Nat} {I : Nat → Nat → Int32} {R : Nat → Nat → Value} {t : Nat → Nat} {E N T c g : Nat} {s : PS} (q : ¬ pk t E s = nI c) (hg : (sPass t E c s).1 = true → g = (sPass t E c s).2) (h : mR rp I R t E N T (if (sPass t E c s).1 = true then (false, g) else sPass t E c s)) : mR rp I R t E N T (sNeed t E c s) := by
  rw [sPass, if_neg q] at h hg
  rw [sNeed, if_neg q]
  split at h
  · next e => rw [hg e] at h; exact h
  · next e =>
    obtain ⟨b, a⟩ := s
    cases b
    · exact h
    · exact absurd rfl e
theorem c_need {I : Nat → Nat → Int32} {J : Nat → Nat → Int64} {R : Nat → Nat → Value} {rp : Nat} {t : Nat → Nat} {d E N T c : Nat} {s : PS} (hR : mR rp I R t E N T s) (hc : c < 2 ^ 31) : Cal lyM (d + 2) hX12_need 2 [.ref 0, .int (nI c)] (I, J, R) (fun r M' => r = none ∧ ∃ I3, M' = (I3, J, R) ∧ rF I I3 ∧ mR rp I3 R t E N T (sNeed t E c s)) := by
  show Ev lyM (d + 2) hX12_need 0 [some (.ref 0), some (.int (nI c))] [] (I, J, R) _
  refine ev_st dX12_need_0 rfl rfl ?_
  refine ev_st dX12_need_1 rfl rfl ?_
  refine ev_call dX12_need_2 rfl rfl mr_12_135 rfl rfl rfl (c_passes hR hc) ?_
  rintro _ _ ⟨rfl, I2, rfl, hx2, hR2⟩
  show Ev lyM (d + 2) hX12_need 5 [some (.ref 0), some (.int (nI c))] [.int (if pk t E s = nI c then 1 else 0)] (I2, J, R) _
  refine ev_if_ne (t := 16) (x := if pk t E s = nI c then 1 else 0) dX12_need_5 (by decide) (fun c_5 => ?_) (fun c_5 => ?_)
  · exact ev_vret dX12_need_16 rfl (⟨rfl, _, rfl, hx2, by have q := if01 c_5; rw [sPass, if_pos q] at hR2; rw [sNeed, if_pos q]; exact hR2⟩)
  · obtain ⟨g, hg, hg2, hgs⟩ := hR2.g
    refine ev_st dX12_need_8 rfl rfl ?_
    refine ev_st dX12_need_9 rfl rfl ?_
    refine ev_getI (v := nI g) dX12_need_10 fr_12_117 rfl rfl hg ?_
    refine ev_call dX12_need_13 rfl rfl mr_12_139 rfl rfl rfl (c_fault (s := sPass t E c s) hR2 hg2) ?_
    rintro _ _ ⟨rfl, I3, rfl, hx3, hR3⟩
    show Ev lyM (d + 2) hX12_need 16 [some (.ref 0), some (.int (nI c))] [] (I3, J, R) _
    exact ev_vret dX12_need_16 rfl (⟨rfl, _, rfl, hx2.tr hx3, need_p (if01n c_5) hgs hR3⟩)
