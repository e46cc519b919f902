/-! texts: walk: the call of the class -/
def aK (t : Nat → Nat) (E j : Nat) : Nat := (aR t E (aS t E j)).1
def aV (t : Nat → Nat) (E j : Nat) : Nat := (aR t E (aS t E j)).2.1
theorem aK_ok {t : Nat → Nat} {E m : Nat} (h : aEnd t E m) (hf : (aS t E m).1 = true) : ∀ j, j < m → (aK t E j = 62 ∨ aK t E j = 118 ∧ aV t E j < 4 ∨ aK t E j = 116 ∨ aK t E j = 108 ∨ aK t E j = 115) ∧ aV t E j < 10 := by
  intro j hj
  have hg := h.2 j hj
  have h1 : (aS t E (j + 1)).1 = true := by
    by_cases e : j + 1 = m
    · rw [e]; exact hf
    · exact (h.2 (j + 1) (by omega)).1
  have q := aR_at (s := aS t E j) h1 hg.2
  exact ⟨q.2.2.2, q.2.2.1⟩
/-- the class, but for its text, its acts, the state that is marked -/
def wF (I I1 : Nat → Nat → Int32) : Prop := ∀ p, p ≠ 1 → p ≠ 30 → p ≠ 43 → p ≠ 44 → I1 p = I p
theorem wF.r {I I1 : Nat → Nat → Int32} (h : wF I I1) (p : Nat) (hp : (p != 1 && (p != 30 && (p != 43 && p != 44))) = true) : I1 p = I p := by
  simp at hp
  exact h p hp.1 hp.2.1 hp.2.2.1 hp.2.2.2
theorem kA.u {I I2 : Nat → Nat → Int32} {d n c p z : Nat} {rv : RV} (h : kA I d n c p z rv) (hs : wF I I2) : kA I2 d n c p z rv := by
  obtain ⟨h1, h2, h3, h4, h5, h6, h7⟩ := h
  rcases h5 with rfl | rfl
  · exact ⟨by rw [hs.r 8 rfl]; exact h1, h2, by rw [hs.r 5 rfl]; exact h3, h4, Or.inl rfl, by rw [hs.r 31 rfl]; exact h6, by rw [hs.r 32 rfl]; exact h7⟩
  · exact ⟨by rw [hs.r 8 rfl]; exact h1, h2, by rw [hs.r 5 rfl]; exact h3, h4, Or.inr rfl, by rw [hs.r 35 rfl]; exact h6, by rw [hs.r 36 rfl]; exact h7⟩
theorem ST.u {I I2 : Nat → Nat → Int32} {sp str tl sy : Nat → Int32} {n c ns : Nat} (h : ST I sp str tl sy n c ns) (hs : wF I I2) : ST I2 sp str tl sy n c ns := by
  unfold ST
  rw [hs.r 8 rfl, hs.r 5 rfl, hs.r 11 rfl, hs.r 6 rfl, hs.r 9 rfl, hs.r 10 rfl, hs.r 12 rfl, hs.r 13 rfl, hs.r 14 rfl]
  exact h
theorem mk_43 {I : Nat → Nat → Int32} : k_mk I 43 6 = I 39 6 := by
  unfold k_mk k_bm
  rw [wr_ne (by decide), ti_wr_at]
theorem mk_wF {I I2 : Nat → Nat → Int32} (h : ∀ p, p ≠ 1 → p ≠ 30 → I2 p = I p) : wF I (k_mk (ti_wr I2 1 1 0)) := by
  intro p a b c d
  rw [k_mk, k_bm_n c d, ti_wr_n a]
  exact h p a b
set_option maxHeartbeats 1000000 in
theorem k_walk0 {I : Nat → Nat → Int32} {J : Nat → Nat → Int64} {R : Nat → Nat → Value} {t : Nat → Nat} {d N m : Nat} (hT : cT I t N) (hend : aEnd t (min N 60) m) (hok : ¬ (sFin N (aS t (min N 60) m)).1 = true) : Cal lyC (d + 7) hX11_walk 5 [.ref 0] (I, J, R) (fun r M' => r = some (.int (-1 - nI (sFin N (aS t (min N 60) m)).2)) ∧ ∃ I3, M' = (I3, J, R) ∧ (∀ p, p ≠ 1 → p ≠ 30 → I3 p = I p) ∧ I3 1 1 = 0) := by
  have hN80 := hT.2.1
  have hm60 := aEnd_le hend.2
  show Ev lyC (d + 7) hX11_walk 0 [some (.ref 0), none, none, none, none] [] (I, J, R) _
  refine ev_st dX11_walk_0 rfl rfl ?_
  refine ev_call dX11_walk_1 rfl rfl mr_11_248 rfl rfl rfl (k_readActs hT) ?_
  rintro _ _ ⟨m2, I2, hw2, rfl, rfl, hx2, hR2, h30⟩
  obtain rfl := aEnd_u hend hw2
  have hf9 := sFin_le (N := N) hR2.2.2.2.2.2.1
  show Ev lyC (d + 7) hX11_walk 4 [some (.ref 0), none, none, none, none] [.int (nI m)] (I2, J, R) _
  refine ev_st (L' := [some (.ref 0), some (.int (nI m)), none, none, none]) dX11_walk_4 rfl rfl ?_
  refine ev_st dX11_walk_5 rfl rfl ?_
  refine ev_getC dX11_walk_6 fr_11_10 rfl rfl ?_
  refine ev_call dX11_walk_9 rfl rfl mr_11_134 rfl rfl rfl (k_close hR2) ?_
  rintro _ _ ⟨e1, rfl⟩
  rw [if_neg hok] at e1
  subst e1
  show Ev lyC (d + 7) hX11_walk 12 [some (.ref 0), some (.int (nI m)), none, none, none] [.int (nI ((sFin N (aS t (min N 60) m)).2))] (ti_wr I2 1 1 0, J, R) _
  refine ev_st (L' := [some (.ref 0), some (.int (nI m)), some (.int (nI ((sFin N (aS t (min N 60) m)).2))), none, none]) dX11_walk_12 rfl rfl ?_
  refine ev_st dX11_walk_13 rfl rfl ?_
  refine ev_if_ltN (t := 21) (a := (sFin N (aS t (min N 60) m)).2) dX11_walk_14 (by decide) rfl (by omega) ?_
  refine ev_iconst (v := -1) dX11_walk_17 (by decide) ?_
  refine ev_st dX11_walk_18 rfl rfl ?_
  refine ev_st dX11_walk_19 rfl rfl ?_
  exact ev_iret dX11_walk_20 rfl (⟨rfl, _, rfl, fun p a b => by rw [ti_wr_n a]; exact hx2 p a b, rfl⟩)
set_option maxHeartbeats 1000000 in
theorem k_walk1 {I : Nat → Nat → Int32} {J : Nat → Nat → Int64} {R : Nat → Nat → Value} {n c ns a p z rs x u : Nat} {rv : RV} {row sp str tl sy : Nat → Int32} {t : Nat → Nat} {d N m : Nat} (hT : cT I t N) (hend : aEnd t (min N 60) m) (hK : kA I d n c p z rv) (hst : ST I sp str tl sy n c ns) (hz : z = 0 ↔ rs = 0) (hr : SR (I 39) (I 40) row n ns) (hw : WS row n ns c a) (hp : R 0 11 = .ref p) (hx : I 15 4 = nI x) (hx12 : x < 12) (hu : I 15 5 = nI u) (hu12 : u ≤ 12) (hok : (sFin N (aS t (min N 60) m)).1 = true) : Cal lyC (d + 7) hX11_walk 5 [.ref 0] (I, J, R) (fun r M' => ∃ I2, (∀ p, p ≠ 1 → p ≠ 30 → I2 p = I p) ∧ wkQ (k_mk (ti_wr I2 1 1 0)) J R n c ns m x u (I 39 7) (aW sp str tl sy n c ns rs rv (aK t (min N 60)) (aV t (min N 60)) m 0 row a) r M') := by
  have hN80 := hT.2.1
  have hm60 := aEnd_le hend.2
  have h6 : I 39 6 = 0 ∨ I 39 6 = 1 := (by rw [hr.2.2.2.2.2.1]; exact hw.2.2.2.2.2.2.2.1)
  show Ev lyC (d + 7) hX11_walk 0 [some (.ref 0), none, none, none, none] [] (I, J, R) _
  refine ev_st dX11_walk_0 rfl rfl ?_
  refine ev_call dX11_walk_1 rfl rfl mr_11_248 rfl rfl rfl (k_readActs hT) ?_
  rintro _ _ ⟨m2, I2, hw2, rfl, rfl, hx2, hR2, h30⟩
  obtain rfl := aEnd_u hend hw2
  have hf9 := sFin_le (N := N) hR2.2.2.2.2.2.1
  show Ev lyC (d + 7) hX11_walk 4 [some (.ref 0), none, none, none, none] [.int (nI m)] (I2, J, R) _
  refine ev_st (L' := [some (.ref 0), some (.int (nI m)), none, none, none]) dX11_walk_4 rfl rfl ?_
  refine ev_st dX11_walk_5 rfl rfl ?_
  refine ev_getC dX11_walk_6 fr_11_10 rfl rfl ?_
  refine ev_call dX11_walk_9 rfl rfl mr_11_134 rfl rfl rfl (k_close hR2) ?_
  rintro _ _ ⟨e1, rfl⟩
  rw [if_pos hok] at e1
  subst e1
  show Ev lyC (d + 7) hX11_walk 12 [some (.ref 0), some (.int (nI m)), none, none, none] [.int ((-1))] (ti_wr I2 1 1 0, J, R) _
  refine ev_st (L' := [some (.ref 0), some (.int (nI m)), some (.int ((-1))), none, none]) dX11_walk_12 rfl rfl ?_
  refine ev_st dX11_walk_13 rfl rfl ?_
  refine ev_if_lt (t := 21) dX11_walk_14 (by decide) (fun _ => ?_) (fun q => absurd q (by decide))
  refine ev_st dX11_walk_21 rfl rfl ?_
  refine ev_getC dX11_walk_22 fr_11_56 rfl rfl ?_
  refine ev_st dX11_walk_25 rfl rfl ?_
  refine ev_getC dX11_walk_26 fr_11_49 rfl rfl ?_
  refine ev_call dX11_walk_29 rfl rfl mr_11_220 rfl rfl rfl (k_mark (I := ti_wr I2 1 1 0) (by rw [ti_wr_n (by decide), hx2 39 (by decide) (by decide)]; exact h6)) ?_
  rintro _ _ ⟨rfl, rfl⟩
  show Ev lyC (d + 7) hX11_walk 32 [some (.ref 0), some (.int (nI m)), some (.int ((-1))), none, none] [] (k_mk (ti_wr I2 1 1 0), J, R) _
  refine ev_st dX11_walk_32 rfl rfl ?_
  refine ev_getC dX11_walk_33 fr_11_49 rfl rfl ?_
  refine ev_getI (v := I 39 7) dX11_walk_36 fr_11_231 rfl rfl (by show k_mk (ti_wr I2 1 1 0) 39 7 = _; rw [(mk_wF hx2).r 39 rfl]) ?_
  refine ev_st (L' := [some (.ref 0), some (.int (nI m)), some (.int ((-1))), some (.int (I 39 7)), none]) dX11_walk_39 rfl rfl ?_
  refine ev_iconst (v := 0) dX11_walk_40 (by decide) ?_
  refine ev_st (L' := [some (.ref 0), some (.int (nI m)), some (.int ((-1))), some (.int (I 39 7)), some (.int 0)]) dX11_walk_41 rfl rfl ?_
  have hwf := mk_wF hx2
  refine (k_wkL (K := aK t (min N 60)) (V := aV t (min N 60)) (x := x) (u := u) (hK.u hwf) (hst.u hwf) hz hp (by omega) (aK_ok hend (sFin_f hok).1) (fun j hj => by rw [k_mk, k_bm_n (by decide) (by decide), ti_wr_n (by decide)]; exact h30 (sFin_f hok).1 j hj) (by rw [hwf.r 15 rfl]; exact hx) hx12 (by rw [hwf.r 15 rfl]; exact hu) hu12 (by rw [mk_43, ti_wr_n (by decide), hx2 39 (by decide) (by decide)]; exact h6) (m + 1) 0 row a _ (by omega) (by omega) qF.rf (by rw [hwf.r 39 rfl, hwf.r 40 rfl]; exact hr) hw rfl).imp ?_
  intro r M' h
  exact ⟨I2, hx2, h⟩
