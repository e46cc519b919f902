/-! texts: walk: the model -/
/-- the model while it reads ACTS -/
def bA (I I3 : Nat → Nat → Int32) : Prop := (∀ p, p ≠ 0 → p ≠ 15 → I3 p = I p) ∧ (∀ k, k ≠ 9 → k ≠ 12 → k ≠ 14 → k ≠ 15 → k ≠ 16 → k ≠ 17 → k ≠ 22 → I3 0 k = I 0 k) ∧ I3 0 9 = 0 ∧ I3 0 12 = 0
theorem bA.r {I I2 I3 : Nat → Nat → Int32} (h : bA I I2) (g : rF I2 I3) : bA I I3 := ⟨fun p a b => (g.1 p a).trans (h.1 p a b), fun k a b c d e f g' => (g.2 k e f).trans (h.2.1 k a b c d e f g'), (g.2 9 (by decide) (by decide)).trans h.2.2.1, (g.2 12 (by decide) (by decide)).trans h.2.2.2⟩
theorem bA.a {I I2 I3 : Nat → Nat → Int32} {k : Nat} (h : bA I I2) (g : aF k I2 I3) : bA I I3 := ⟨fun p a b => (g.1 p a b).trans (h.1 p a b), fun k a b c d e f g' => (g.2.1 k e f).trans (h.2.1 k a b c d e f g'), (g.2.1 9 (by decide) (by decide)).trans h.2.2.1, (g.2.1 12 (by decide) (by decide)).trans h.2.2.2⟩
theorem bA.k {I I3 : Nat → Nat → Int32} (h : bA I I3) (k : Nat) (hk : (k != 9 && (k != 12 && (k != 14 && (k != 15 && (k != 16 && (k != 17 && k != 22)))))) = true) : I3 0 k = I 0 k := by
  simp at hk
  exact h.2.1 k hk.1 hk.2.1 hk.2.2.1 hk.2.2.2.1 hk.2.2.2.2.1 hk.2.2.2.2.2.1 hk.2.2.2.2.2.2
theorem bA.p {I I3 : Nat → Nat → Int32} (h : bA I I3) (p : Nat) (hp : (p != 0 && p != 15) = true) : I3 p = I p := by
  simp at hp
  exact h.1 p hp.1 hp.2
theorem c_fine0 {I : Nat → Nat → Int32} {J : Nat → Nat → Int64} {R : Nat → Nat → Value} {rp : Nat} {t : Nat → Nat} {d E N T : Nat} {s : PS} (hR : mR rp I R t E N T s) (hs : s.1 = false) : Cal lyM d hX12_fine 1 [.ref 0] (I, J, R) (fun r M' => r = some (.int 0) ∧ M' = (I, J, R)) := by
  have h := c_fine (J := J) (d := d) hR
  rw [hs] at h
  exact h
theorem c_fine1 {I : Nat → Nat → Int32} {J : Nat → Nat → Int64} {R : Nat → Nat → Value} {rp : Nat} {t : Nat → Nat} {d E N T : Nat} {s : PS} (hR : mR rp I R t E N T s) (hs : s.1 = true) : Cal lyM d hX12_fine 1 [.ref 0] (I, J, R) (fun r M' => r = some (.int 1) ∧ M' = (I, J, R)) := by
  have h := c_fine (J := J) (d := d) hR
  rw [hs] at h
  exact h
/-- the walk refused at a sign -/
def wk0 (I : Nat → Nat → Int32) (J : Nat → Nat → Int64) (R : Nat → Nat → Value) (e : Nat) (r : Option Value) (M' : TM) : Prop := r = some (.int (-1 - nI e)) ∧ ∃ I3 R3, M' = (I3, J, R3) ∧ bA I I3 ∧ R3 0 19 = R 0 19
set_option maxHeartbeats 1000000 in
theorem c_wk44 {I : Nat → Nat → Int32} {J : Nat → Nat → Int64} {R : Nat → Nat → Value} {I2 : Nat → Nat → Int32} {R2 : Nat → Nat → Value} {t : Nat → Nat} {d N : Nat} {s : PS} {w1 : Int32} {z2 : Option Value} (hR2 : mR 6 I2 R2 t (min N 60) N 60 s) (hb2 : bA I I2) (h19 : R2 0 19 = R 0 19) (hok : (sFin N s).1 = false) : Ev lyM (d + 96) hX12_walk 44 [some (.ref 0), some (.int w1), z2] [] (I2, J, R2) (wk0 I J R (sFin N s).2) := by
  refine ev_st dX12_walk_44 rfl rfl ?_
  refine ev_call dX12_walk_45 rfl rfl mr_12_156 rfl rfl rfl (c_right hR2) ?_
  rintro _ _ ⟨e1, I3, rfl, hx3, hR3⟩
  rw [show (sFin N s).1 = false from hok] at e1
  subst e1
  show Ev lyM (d + 96) hX12_walk 48 [some (.ref 0), some (.int w1), z2] [.int 0] (I3, J, R2) _
  refine ev_if_ne (t := 58) dX12_walk_48 (by decide) (fun q => absurd q (by decide)) (fun _ => ?_)
  refine ev_iconst (v := -1) dX12_walk_51 (by decide) ?_
  refine ev_st dX12_walk_52 rfl rfl ?_
  refine ev_getI (v := nI ((sFin N s).2)) dX12_walk_53 fr_12_120 rfl rfl (by have h := hR3.2.2.2.2.2.2.2.2; rw [if_neg (by rw [hok]; decide)] at h; exact h.1) ?_
  refine ev_st dX12_walk_56 rfl rfl ?_
  exact ev_iret dX12_walk_57 rfl (⟨rfl, _, _, rfl, hb2.r hx3, h19⟩)
set_option maxHeartbeats 1000000 in
theorem c_wkF {I : Nat → Nat → Int32} {J : Nat → Nat → Int64} {R : Nat → Nat → Value} {I2 : Nat → Nat → Int32} {R2 : Nat → Nat → Value} {t : Nat → Nat} {d N : Nat} {s : PS} {w1 : Int32} {z2 : Option Value} (hR2 : mR 6 I2 R2 t (min N 60) N 60 s) (hb2 : bA I I2) (h19 : R2 0 19 = R 0 19) (hs : s.1 = false) : Ev lyM (d + 96) hX12_walk 13 [some (.ref 0), some (.int w1), z2] [] (I2, J, R2) (wk0 I J R s.2) := by
  refine ev_st dX12_walk_13 rfl rfl ?_
  refine ev_call dX12_walk_14 rfl rfl mr_12_127 rfl rfl rfl (c_fine0 hR2 hs) ?_
  rintro _ _ ⟨rfl, rfl⟩
  show Ev lyM (d + 96) hX12_walk 17 [some (.ref 0), some (.int w1), z2] [.int 0] (I2, J, R2) _
  refine ev_if_eq (t := 44) dX12_walk_17 (by decide) (fun _ => ?_) (fun q => absurd q (by decide))
  rw [show s.2 = (sFin N s).2 by rw [sFin, if_neg (by rw [hs]; decide)]]
  exact c_wk44 hR2 hb2 h19 (by rw [sFin, if_neg (by rw [hs]; decide)]; exact hs)
/-- what a walk leaves in the model: I with the acts read and the row laid aside -/
def wkM (I : Nat → Nat → Int32) (J : Nat → Nat → Int64) (R : Nat → Nat → Value) (m u : Nat) (w : Nat × (Nat → Int32) × Nat) (r : Option Value) (M' : TM) : Prop := ∃ I3 R3 I6, sM (va_up I 1 w.2.1) R I3 R3 ∧ r = some (.int (nI w.1)) ∧ M' = (I6, ti_wl (ti_wl J 7 0 (if w.1 < m then 1 else 0)) 7 1 ((w.2.1 28 - I 13 28).toInt64), R3) ∧ (∀ p, p ≠ 0 → I6 p = (if w.1 = 0 then I3 else ti_wr (va_up I3 12 (m_rem (I3 13) (I3 12) u)) 0 25 (nI (m_u1 u))) p) ∧ (∀ k, k ≠ 11 → I6 0 k = (if w.1 = 0 then I3 else ti_wr (va_up I3 12 (m_rem (I3 13) (I3 12) u)) 0 25 (nI (m_u1 u))) 0 k) ∧ I6 0 11 = nI 2
theorem mA.sv {I I2 : Nat → Nat → Int32} {R R2 : Nat → Nat → Value} {d n c rp rs : Nat} {rv : RV} {row : Nat → Int32} (h : mA I R d n c rp rs rv) (hs : sM (va_up I 1 row) R I2 R2) : mA I2 R2 d n c rp rs rv := by
  refine mA.x (I := va_up I 1 row) (R := R) ?_ hs.x
  obtain ⟨h1, h2, h3, h4, h5, h6, h7⟩ := h
  refine ⟨h1, h2, h3, h4, h5, h6, ?_⟩
  have e : va_up I 1 row rp = I rp := by rcases h7.1 with rfl | rfl <;> rfl
  rw [e]; exact h7
theorem aMo_0 {I : Nat → Nat → Int32} {J : Nat → Nat → Int64} {R : Nat → Nat → Value} {x : Int32} {M' : TM} {g : Option ((Nat → Int32) × Nat)} {r : Option Value} (h : aMo I J R r M' g) : (∃ g2 I3 R3, g = some g2 ∧ r = some (.int 1) ∧ M' = (I3, J, R3) ∧ sM (va_up I 1 g2.1) R I3 R3) ∨ (g = none ∧ r = some (.int 0) ∧ M' = (I, J, R)) := by
  cases g with
  | none => exact Or.inr ⟨rfl, h.1, h.2⟩
  | some g2 => obtain ⟨e1, I3, R3, e2, e3⟩ := h; exact Or.inl ⟨g2, I3, R3, rfl, e1, e2, e3⟩
theorem va_up2 {I : Nat → Nat → Int32} {q : Nat} {r r2 : Nat → Int32} : va_up (va_up I q r) q r2 = va_up I q r2 := by
  funext p
  by_cases e : p = q <;> simp [va_up, e]
set_option maxHeartbeats 1000000 in
theorem c_wkE {I : Nat → Nat → Int32} {J : Nat → Nat → Int64} {R : Nat → Nat → Value} {I3 : Nat → Nat → Int32} {R3 : Nat → Nat → Value} {d m b u a : Nat} {row : Nat → Int32} (hs3 : sM (va_up I 1 row) R I3 R3) (hb : b ≤ 60) (hm : m ≤ 60) (hu : I3 0 25 = nI u) (hu12 : u ≤ 12) : Ev lyM (d + 96) hX12_walk 108 [some (.ref 0), some (.int (nI m)), some (.int (nI b))] [] (I3, J, R3) (wkM I J R m u (b, row, a)) := by
  refine ev_st dX12_walk_108 rfl rfl ?_
  refine ev_if_leN (t := 120) (a := b) dX12_walk_109 (by decide) rfl (by omega) (fun c_109 => ?_) (fun c_109 => ?_)
  · refine ev_st dX12_walk_120 rfl rfl ?_
    refine ev_iconst (v := 0) dX12_walk_121 (by decide) ?_
    refine ev_putI dX12_walk_122 fr_12_92 rfl rfl ?_
    refine ev_st dX12_walk_125 rfl rfl ?_
    refine ev_st dX12_walk_126 rfl rfl ?_
    refine ev_st dX12_walk_127 rfl rfl ?_
    refine ev_ic_geN (t := 135) (a := b) (b := m) dX12_walk_128 (by decide) rfl rfl (by omega) (by omega) (fun c_128 => ?_) (fun c_128 => ?_)
    · refine ev_lconst (v := 0) dX12_walk_135 (by decide) ?_
      refine ev_call dX12_walk_136 rfl rfl mr_12_253 rfl rfl rfl (c_tell (m := 0) (by first | rfl | exact ti_wr_at) (by decide) 0) ?_
      rintro _ _ ⟨rfl, rfl⟩
      show Ev lyM (d + 96) hX12_walk 139 [some (.ref 0), some (.int (nI m)), some (.int (nI b))] [] (ti_wr (ti_wr I3 0 11 0) 0 11 (nI 1), ti_wl (J) 7 0 0, R3) _
      refine ev_st dX12_walk_139 rfl rfl ?_
      refine ev_st dX12_walk_140 rfl rfl ?_
      refine ev_getC dX12_walk_141 fr_12_9 rfl rfl ?_
      refine ev_bipush (v := 28) dX12_walk_144 (by decide) ?_
      refine ev_iald (j := 28) (v := row 28) dX12_walk_146 rfl rfl (by decide) (by decide) (by show I3 1 28 = _; rw [hs3.r 1 rfl]; rfl) ?_
      refine ev_st dX12_walk_147 rfl rfl ?_
      refine ev_getC dX12_walk_148 fr_12_52 rfl rfl ?_
      refine ev_bipush (v := 28) dX12_walk_151 (by decide) ?_
      refine ev_iald (j := 28) (v := I 13 28) dX12_walk_153 rfl rfl (by decide) (by decide) (by show I3 13 28 = _; rw [hs3.r 13 rfl]; rfl) ?_
      refine ev_st dX12_walk_154 rfl rfl ?_
      refine ev_st dX12_walk_155 rfl rfl ?_
      refine ev_call dX12_walk_156 rfl rfl mr_12_253 rfl rfl rfl (c_tell (m := 1) (by first | rfl | exact ti_wr_at) (by decide) (((row 28) - (I 13 28)).toInt64)) ?_
      rintro _ _ ⟨rfl, rfl⟩
      show Ev lyM (d + 96) hX12_walk 159 [some (.ref 0), some (.int (nI m)), some (.int (nI b))] [] (ti_wr (ti_wr (ti_wr I3 0 11 0) 0 11 (nI 1)) 0 11 (nI 2), ti_wl (ti_wl (J) 7 0 0) 7 1 (((row 28) - (I 13 28)).toInt64), R3) _
      refine ev_st dX12_walk_159 rfl rfl ?_
      exact ev_iret dX12_walk_160 rfl (⟨I3, R3, _, hs3, rfl, by rw [if_neg (show ¬ b < m by omega)], fun p hp => by rw [if_pos (show b = 0 by omega)]; simp only [ti_wr_n hp], fun k hk => by rw [if_pos (show b = 0 by omega)]; simp only [wr_ne hk], by rw [ti_wr_at]⟩)
    · refine ev_lconst (v := 1) dX12_walk_131 (by decide) ?_
      refine ev_goto (t := 136) dX12_walk_132 (by decide) ?_
      refine ev_call dX12_walk_136 rfl rfl mr_12_253 rfl rfl rfl (c_tell (m := 0) (by first | rfl | exact ti_wr_at) (by decide) 1) ?_
      rintro _ _ ⟨rfl, rfl⟩
      show Ev lyM (d + 96) hX12_walk 139 [some (.ref 0), some (.int (nI m)), some (.int (nI b))] [] (ti_wr (ti_wr I3 0 11 0) 0 11 (nI 1), ti_wl (J) 7 0 1, R3) _
      refine ev_st dX12_walk_139 rfl rfl ?_
      refine ev_st dX12_walk_140 rfl rfl ?_
      refine ev_getC dX12_walk_141 fr_12_9 rfl rfl ?_
      refine ev_bipush (v := 28) dX12_walk_144 (by decide) ?_
      refine ev_iald (j := 28) (v := row 28) dX12_walk_146 rfl rfl (by decide) (by decide) (by show I3 1 28 = _; rw [hs3.r 1 rfl]; rfl) ?_
      refine ev_st dX12_walk_147 rfl rfl ?_
      refine ev_getC dX12_walk_148 fr_12_52 rfl rfl ?_
      refine ev_bipush (v := 28) dX12_walk_151 (by decide) ?_
      refine ev_iald (j := 28) (v := I 13 28) dX12_walk_153 rfl rfl (by decide) (by decide) (by show I3 13 28 = _; rw [hs3.r 13 rfl]; rfl) ?_
      refine ev_st dX12_walk_154 rfl rfl ?_
      refine ev_st dX12_walk_155 rfl rfl ?_
      refine ev_call dX12_walk_156 rfl rfl mr_12_253 rfl rfl rfl (c_tell (m := 1) (by first | rfl | exact ti_wr_at) (by decide) (((row 28) - (I 13 28)).toInt64)) ?_
      rintro _ _ ⟨rfl, rfl⟩
      show Ev lyM (d + 96) hX12_walk 159 [some (.ref 0), some (.int (nI m)), some (.int (nI b))] [] (ti_wr (ti_wr (ti_wr I3 0 11 0) 0 11 (nI 1)) 0 11 (nI 2), ti_wl (ti_wl (J) 7 0 1) 7 1 (((row 28) - (I 13 28)).toInt64), R3) _
      refine ev_st dX12_walk_159 rfl rfl ?_
      exact ev_iret dX12_walk_160 rfl (⟨I3, R3, _, hs3, rfl, by rw [if_pos (show b < m by omega)], fun p hp => by rw [if_pos (show b = 0 by omega)]; simp only [ti_wr_n hp], fun k hk => by rw [if_pos (show b = 0 by omega)]; simp only [wr_ne hk], by rw [ti_wr_at]⟩)
  · refine ev_st dX12_walk_112 rfl rfl ?_
    refine ev_st dX12_walk_113 rfl rfl ?_
    refine ev_getC dX12_walk_114 fr_12_52 rfl rfl ?_
    refine ev_call dX12_walk_117 rfl rfl mr_12_272 rfl rfl rfl (c_remember_13 (I := I3) (u := u) hu hu12) ?_
    rintro _ _ ⟨rfl, rfl⟩
    show Ev lyM (d + 96) hX12_walk 120 [some (.ref 0), some (.int (nI m)), some (.int (nI b))] [] (ti_wr (va_up I3 12 (m_rem (I3 13) (I3 12) u)) 0 25 (nI (m_u1 u)), J, R3) _
    refine ev_st dX12_walk_120 rfl rfl ?_
    refine ev_iconst (v := 0) dX12_walk_121 (by decide) ?_
    refine ev_putI dX12_walk_122 fr_12_92 rfl rfl ?_
    refine ev_st dX12_walk_125 rfl rfl ?_
    refine ev_st dX12_walk_126 rfl rfl ?_
    refine ev_st dX12_walk_127 rfl rfl ?_
    refine ev_ic_geN (t := 135) (a := b) (b := m) dX12_walk_128 (by decide) rfl rfl (by omega) (by omega) (fun c_128 => ?_) (fun c_128 => ?_)
    · refine ev_lconst (v := 0) dX12_walk_135 (by decide) ?_
      refine ev_call dX12_walk_136 rfl rfl mr_12_253 rfl rfl rfl (c_tell (m := 0) (by first | rfl | exact ti_wr_at) (by decide) 0) ?_
      rintro _ _ ⟨rfl, rfl⟩
      show Ev lyM (d + 96) hX12_walk 139 [some (.ref 0), some (.int (nI m)), some (.int (nI b))] [] (ti_wr (ti_wr (ti_wr (va_up I3 12 (m_rem (I3 13) (I3 12) u)) 0 25 (nI (m_u1 u))) 0 11 0) 0 11 (nI 1), ti_wl (J) 7 0 0, R3) _
      refine ev_st dX12_walk_139 rfl rfl ?_
      refine ev_st dX12_walk_140 rfl rfl ?_
      refine ev_getC dX12_walk_141 fr_12_9 rfl rfl ?_
      refine ev_bipush (v := 28) dX12_walk_144 (by decide) ?_
      refine ev_iald (j := 28) (v := row 28) dX12_walk_146 rfl rfl (by decide) (by decide) (by show I3 1 28 = _; rw [hs3.r 1 rfl]; rfl) ?_
      refine ev_st dX12_walk_147 rfl rfl ?_
      refine ev_getC dX12_walk_148 fr_12_52 rfl rfl ?_
      refine ev_bipush (v := 28) dX12_walk_151 (by decide) ?_
      refine ev_iald (j := 28) (v := I 13 28) dX12_walk_153 rfl rfl (by decide) (by decide) (by show I3 13 28 = _; rw [hs3.r 13 rfl]; rfl) ?_
      refine ev_st dX12_walk_154 rfl rfl ?_
      refine ev_st dX12_walk_155 rfl rfl ?_
      refine ev_call dX12_walk_156 rfl rfl mr_12_253 rfl rfl rfl (c_tell (m := 1) (by first | rfl | exact ti_wr_at) (by decide) (((row 28) - (I 13 28)).toInt64)) ?_
      rintro _ _ ⟨rfl, rfl⟩
      show Ev lyM (d + 96) hX12_walk 159 [some (.ref 0), some (.int (nI m)), some (.int (nI b))] [] (ti_wr (ti_wr (ti_wr (ti_wr (va_up I3 12 (m_rem (I3 13) (I3 12) u)) 0 25 (nI (m_u1 u))) 0 11 0) 0 11 (nI 1)) 0 11 (nI 2), ti_wl (ti_wl (J) 7 0 0) 7 1 (((row 28) - (I 13 28)).toInt64), R3) _
      refine ev_st dX12_walk_159 rfl rfl ?_
      exact ev_iret dX12_walk_160 rfl (⟨I3, R3, _, hs3, rfl, by rw [if_neg (show ¬ b < m by omega)], fun p hp => by rw [if_neg (show ¬ b = 0 by omega)]; simp only [ti_wr_n hp], fun k hk => by rw [if_neg (show ¬ b = 0 by omega)]; simp only [wr_ne hk], by rw [ti_wr_at]⟩)
    · refine ev_lconst (v := 1) dX12_walk_131 (by decide) ?_
      refine ev_goto (t := 136) dX12_walk_132 (by decide) ?_
      refine ev_call dX12_walk_136 rfl rfl mr_12_253 rfl rfl rfl (c_tell (m := 0) (by first | rfl | exact ti_wr_at) (by decide) 1) ?_
      rintro _ _ ⟨rfl, rfl⟩
      show Ev lyM (d + 96) hX12_walk 139 [some (.ref 0), some (.int (nI m)), some (.int (nI b))] [] (ti_wr (ti_wr (ti_wr (va_up I3 12 (m_rem (I3 13) (I3 12) u)) 0 25 (nI (m_u1 u))) 0 11 0) 0 11 (nI 1), ti_wl (J) 7 0 1, R3) _
      refine ev_st dX12_walk_139 rfl rfl ?_
      refine ev_st dX12_walk_140 rfl rfl ?_
      refine ev_getC dX12_walk_141 fr_12_9 rfl rfl ?_
      refine ev_bipush (v := 28) dX12_walk_144 (by decide) ?_
      refine ev_iald (j := 28) (v := row 28) dX12_walk_146 rfl rfl (by decide) (by decide) (by show I3 1 28 = _; rw [hs3.r 1 rfl]; rfl) ?_
      refine ev_st dX12_walk_147 rfl rfl ?_
      refine ev_getC dX12_walk_148 fr_12_52 rfl rfl ?_
      refine ev_bipush (v := 28) dX12_walk_151 (by decide) ?_
      refine ev_iald (j := 28) (v := I 13 28) dX12_walk_153 rfl rfl (by decide) (by decide) (by show I3 13 28 = _; rw [hs3.r 13 rfl]; rfl) ?_
      refine ev_st dX12_walk_154 rfl rfl ?_
      refine ev_st dX12_walk_155 rfl rfl ?_
      refine ev_call dX12_walk_156 rfl rfl mr_12_253 rfl rfl rfl (c_tell (m := 1) (by first | rfl | exact ti_wr_at) (by decide) (((row 28) - (I 13 28)).toInt64)) ?_
      rintro _ _ ⟨rfl, rfl⟩
      show Ev lyM (d + 96) hX12_walk 159 [some (.ref 0), some (.int (nI m)), some (.int (nI b))] [] (ti_wr (ti_wr (ti_wr (ti_wr (va_up I3 12 (m_rem (I3 13) (I3 12) u)) 0 25 (nI (m_u1 u))) 0 11 0) 0 11 (nI 1)) 0 11 (nI 2), ti_wl (ti_wl (J) 7 0 1) 7 1 (((row 28) - (I 13 28)).toInt64), R3) _
      refine ev_st dX12_walk_159 rfl rfl ?_
      exact ev_iret dX12_walk_160 rfl (⟨I3, R3, _, hs3, rfl, by rw [if_pos (show b < m by omega)], fun p hp => by rw [if_neg (show ¬ b = 0 by omega)]; simp only [ti_wr_n hp], fun k hk => by rw [if_neg (show ¬ b = 0 by omega)]; simp only [wr_ne hk], by rw [ti_wr_at]⟩)
