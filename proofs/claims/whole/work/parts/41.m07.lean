/-! the model: looking ahead on another state -/
def mA (I : Nat → Nat → Int32) (R : Nat → Nat → Value) (d n c rp rs : Nat) (rv : RV) : Prop := I 0 3 = nI n ∧ n ≤ 8 ∧ I 0 1 = nI c ∧ c ≤ 12 ∧ I 0 21 = nI rs ∧ R 0 19 = .ref rp ∧ RU d rp (I rp) rs rv
theorem mA.b {I : Nat → Nat → Int32} {R : Nat → Nat → Value} {d n c a rp rs : Nat} {rv : RV} {row : Nat → Int32} (h : mA I R d n c rp rs rv) (ha : row 24 = nI a) (h12 : a ≤ 12) : mB 14 (va_up I 14 row) R d n c a rp rs rv := by
  obtain ⟨h1, h2, h3, h4, h5, h6, h7⟩ := h
  refine ⟨h1, h2, h3, h4, ha, h12, h5, h6, ?_⟩
  have : va_up I 14 row rp = I rp := by rcases h7.1 with rfl | rfl <;> rfl
  rw [this]; exact h7
theorem mA.b1 {I : Nat → Nat → Int32} {R : Nat → Nat → Value} {d n c a rp rs : Nat} {rv : RV} (h : mA I R d n c rp rs rv) (ha : I 1 24 = nI a) (h12 : a ≤ 12) : mB 1 I R d n c a rp rs rv := by
  obtain ⟨h1, h2, h3, h4, h5, h6, h7⟩ := h
  exact ⟨h1, h2, h3, h4, ha, h12, h5, h6, h7⟩
/-- FORCE of those that carry in a state -/
def m_FR (sp str tl : Nat → Int32) (n c rs : Nat) (rv : RV) (row : Nat → Int32) (a : Nat) : Int32 := m_fo rs rv str tl row (m_tl tl (m_cy row n) n) (m_st c sp a) (m_cy row n) n
def m_SG (sp str tl : Nat → Int32) (n c rs : Nat) (rv : RV) (row : Nat → Int32) (a : Nat) : Int32 := m_sg (m_FR sp str tl n c rs rv row a) (row 25 + m_st c sp a)
def m_NX (sp str tl : Nat → Int32) (n c rs : Nat) (rv : RV) (row : Nat → Int32) (a : Nat) : Nat → Int32 := m_gs row (m_SG sp str tl n c rs rv row a) n
theorem m_NX_24 {sp str tl : Nat → Int32} {n c rs : Nat} {rv : RV} {row : Nat → Int32} {a : Nat} (h : row 24 = nI a) : m_NX sp str tl n c rs rv row a 24 = nI (a + 1) := by
  simp only [m_NX, m_gs, upd]
  simp [h, nI_1]
/-- a step on the other state -/
theorem c_goT {I I2 : Nat → Nat → Int32} {J : Nat → Nat → Int64} {R R2 : Nat → Nat → Value} {d n c a rp rs : Nat} {rv : RV} {row : Nat → Int32} (h : mA I R d n c rp rs rv) (ha : row 24 = nI a) (h12 : a ≤ 12) (hs : sM (va_up I 14 row) R I2 R2) : Cal lyM (d + 94) hX12_goStep 4 [.ref 0, .ref 14] (I2, J, R2) (fun r M' => r = some (.int (m_SG (I 2) (I 3) (I 4) n c rs rv row a)) ∧ ∃ I3 R3, M' = (I3, J, R3) ∧ sM (va_up I 14 (m_NX (I 2) (I 3) (I 4) n c rs rv row a)) R I3 R3) := by
  have K := c_goStept (J := J) (h.b ha h12) hs
  rw [va_up_up] at K
  exact K
def m_fi (sp str tl : Nat → Int32) (n c rs : Nat) (rv : RV) : Nat → (Nat → Int32) → Nat → Int32
  | 0, _, _ => 12
  | k + 1, row, a => if m_SG sp str tl n c rs rv row a = 1 then nI a else m_fi sp str tl n c rs rv k (m_NX sp str tl n c rs rv row a) (a + 1)
set_option maxHeartbeats 1000000 in
theorem c_firstOfL {I : Nat → Nat → Int32} {J : Nat → Nat → Int64} {R : Nat → Nat → Value} {d n c rp rs : Nat} {rv : RV} (hA : mA I R d n c rp rs rv) : ∀ (k : Nat) (row : Nat → Int32) (a : Nat) (I2 : Nat → Nat → Int32) (R2 : Nat → Nat → Value), c - a < k → row 24 = nI a → a ≤ c → sM (va_up I 14 row) R I2 R2 → Ev lyM (d + 95) hX12_firstOf 12 [some (.ref 0)] [] (I2, J, R2) (fun r M' => r = some (.int (m_fi (I 2) (I 3) (I 4) n c rs rv (c - a) row a)) ∧ ∃ I3 R3 row2, M' = (I3, J, R3) ∧ sM (va_up I 14 row2) R I3 R3) := by
  intro k
  induction k with
  | zero => intro row a I2 R2 h1; omega
  | succ k ih =>
      intro row a I2 R2 hk ha hac hs
      have hc12 := hA.2.2.2.1
      have hn8 := hA.2.1
      have ha12 : a ≤ 12 := by omega
      have hc2 : I2 0 1 = nI c := by rw [hs.f 1 rfl]; exact hA.2.2.1
      have ha2 : I2 14 24 = nI a := by rw [hs.r 14 rfl, va_up_q]; exact ha
      have hn2 : I2 0 3 = nI n := by rw [hs.f 3 rfl]; exact hA.1
      refine ev_st dX12_firstOf_12 rfl rfl ?_
      refine ev_st dX12_firstOf_13 rfl rfl ?_
      refine ev_getC dX12_firstOf_14 fr_12_55 rfl rfl ?_
      refine ev_call dX12_firstOf_17 rfl rfl mr_12_261 rfl rfl rfl (c_isOnHillt hc2 hc12 ha2 ha12) ?_
      rintro _ _ ⟨rfl, rfl⟩
      show Ev lyM (d + 95) hX12_firstOf 20 [some (.ref 0)] [.int (if c ≤ a then 1 else 0)] (I2, J, R2) _
      refine ev_if_ne (t := 45) (x := if c ≤ a then 1 else 0) dX12_firstOf_20 (by decide) (fun c_20' => ?_) (fun c_20' => ?_)
      · have c_20 : c ≤ a := by simpa using c_20'
        refine ev_bipush (v := 12) dX12_firstOf_45 (by decide) ?_
        exact ev_iret dX12_firstOf_47 rfl (⟨by rw [show c - a = 0 by omega]; rfl, _, _, _, rfl, hs⟩)
      · have c_20 : a < c := by simpa using c_20'
        refine ev_st dX12_firstOf_23 rfl rfl ?_
        refine ev_st dX12_firstOf_24 rfl rfl ?_
        refine ev_getC dX12_firstOf_25 fr_12_55 rfl rfl ?_
        refine ev_call dX12_firstOf_28 rfl rfl mr_12_276 rfl rfl rfl (c_goT hA ha ha12 hs) ?_
        rintro _ _ ⟨rfl, I3, R3, rfl, hs3⟩
        show Ev lyM (d + 95) hX12_firstOf 31 [some (.ref 0)] [.int (m_SG (I 2) (I 3) (I 4) n c rs rv row a)] (I3, J, R3) _
        refine ev_iconst (v := 1) dX12_firstOf_31 (by decide) ?_
        refine ev_ic_ne (t := 12) (x := m_SG (I 2) (I 3) (I 4) n c rs rv row a) (y := 1) dX12_firstOf_32 (by decide) (fun c_32 => ?_) (fun c_32 => ?_)
        · have K := ih (m_NX (I 2) (I 3) (I 4) n c rs rv row a) (a + 1) _ _ (by omega) (m_NX_24 ha) (by omega) hs3
          rw [show m_fi (I 2) (I 3) (I 4) n c rs rv (c - (a + 1)) (m_NX (I 2) (I 3) (I 4) n c rs rv row a) (a + 1) = m_fi (I 2) (I 3) (I 4) n c rs rv (c - a) row a from by rw [show c - a = (c - (a + 1)) + 1 by omega]; simp only [m_fi, if_neg c_32]] at K
          exact K
        · refine ev_st dX12_firstOf_35 rfl rfl ?_
          refine ev_getC dX12_firstOf_36 fr_12_55 rfl rfl ?_
          refine ev_bipush (v := 24) dX12_firstOf_39 (by decide) ?_
          refine ev_iald (j := 24) (v := nI (a + 1)) dX12_firstOf_41 rfl rfl (by decide) (by decide) (by rw [hs3.r 14 rfl, va_up_q]; exact m_NX_24 ha) ?_
          refine ev_iconst (v := 1) dX12_firstOf_42 (by decide) ?_
          refine ev_isubN (a := a + 1) (b := 1) (c := a) dX12_firstOf_43 rfl rfl (by omega) (by omega) ?_
          exact ev_iret dX12_firstOf_44 rfl (⟨by rw [show c - a = (c - (a + 1)) + 1 by omega]; simp only [m_fi, if_pos c_32], _, _, _, rfl, hs3⟩)
/-- the other state, as the state is now -/
def m_tn (f g : Nat → Int32) : Nat → Int32 := m_lay f g 0 29
set_option maxHeartbeats 1000000 in
theorem c_firstOf {I I2 : Nat → Nat → Int32} {J : Nat → Nat → Int64} {R R2 : Nat → Nat → Value} {d n c a rp rs : Nat} {rv : RV} (hA : mA I R d n c rp rs rv) (ha : I 1 24 = nI a) (hac : a ≤ c) (hs : sM I R I2 R2) : Cal lyM (d + 95) hX12_firstOf 1 [.ref 0] (I2, J, R2) (fun r M' => r = some (.int (m_fi (I 2) (I 3) (I 4) n c rs rv (c - a) (m_tn (I 1) (I 14)) a)) ∧ ∃ I3 R3 row2, M' = (I3, J, R3) ∧ sM (va_up I 14 row2) R I3 R3) := by
  have hc12 := hA.2.2.2.1
  show Ev lyM (d + 95) hX12_firstOf 0 [some (.ref 0)] [] (I2, J, R2) _
  refine ev_st dX12_firstOf_0 rfl rfl ?_
  refine ev_getC dX12_firstOf_1 fr_12_9 rfl rfl ?_
  refine ev_st dX12_firstOf_4 rfl rfl ?_
  refine ev_getC dX12_firstOf_5 fr_12_55 rfl rfl ?_
  refine ev_iconst (v := 0) dX12_firstOf_8 (by decide) ?_
  refine ev_call dX12_firstOf_9 rfl rfl mr_12_257 rfl rfl rfl (c_lay_1_14 (I := I2) (k := 0) (by decide)) ?_
  rintro _ _ ⟨rfl, rfl⟩
  show Ev lyM (d + 95) hX12_firstOf 12 [some (.ref 0)] [] (va_up I2 14 (m_lay (I2 1) (I2 14) 0 29), J, R2) _
  rw [show I2 1 = I 1 from hs.r 1 rfl, show I2 14 = I 14 from hs.r 14 rfl]
  exact c_firstOfL hA (c + 1) _ a _ _ (by omega) ha (by omega) (hs.up 14 rfl _)
theorem mA.w {I : Nat → Nat → Int32} {R : Nat → Nat → Value} {d n c rp rs : Nat} {rv : RV} (h : mA I R d n c rp rs rv) : mA (ti_wr I 0 12 0) R d n c rp rs rv := by
  obtain ⟨h1, h2, h3, h4, h5, h6, h7⟩ := h
  refine ⟨h1, h2, h3, h4, h5, h6, ?_⟩
  have : ti_wr I 0 12 0 rp = I rp := by rcases h7.1 with rfl | rfl <;> rfl
  rw [this]; exact h7
theorem c_first0 {I : Nat → Nat → Int32} {J : Nat → Nat → Int64} {R : Nat → Nat → Value} {d n : Nat} (hn : I 0 3 = nI n) (hn8 : n ≤ 8) (h0 : m_cy (I 1) n = 0) : Cal lyM (d + 96) hX12_first 2 [.ref 0] (I, J, R) (fun r M' => r = some (.int (-3)) ∧ M' = (ti_wr I 0 12 0, J, R)) := by
  show Ev lyM (d + 96) hX12_first 0 [some (.ref 0), none] [] (I, J, R) _
  refine ev_st dX12_first_0 rfl rfl ?_
  refine ev_iconst (v := 0) dX12_first_1 (by decide) ?_
  refine ev_putI dX12_first_2 fr_12_89 rfl rfl ?_
  refine ev_st dX12_first_5 rfl rfl ?_
  refine ev_st dX12_first_6 rfl rfl ?_
  refine ev_getC dX12_first_7 fr_12_9 rfl rfl ?_
  refine ev_call dX12_first_10 rfl rfl mr_12_244 rfl rfl rfl (c_carry (I := ti_wr I 0 12 0) hn hn8) ?_
  rintro _ _ ⟨rfl, rfl⟩
  show Ev lyM (d + 96) hX12_first 13 [some (.ref 0), none] [.int (m_cy (I 1) n)] (ti_wr I 0 12 0, J, R) _
  refine ev_if_ne (t := 19) (x := m_cy (I 1) n) dX12_first_13 (by decide) (fun c_13 => ?_) (fun c_13 => ?_)
  · exact absurd h0 c_13
  · refine ev_bipush (v := -3) dX12_first_16 (by decide) ?_
    exact ev_iret dX12_first_18 rfl (⟨rfl, rfl⟩)
set_option maxHeartbeats 1000000 in
theorem c_first1 {I : Nat → Nat → Int32} {J : Nat → Nat → Int64} {R : Nat → Nat → Value} {d n c a rp rs : Nat} {rv : RV} (hA : mA I R d n c rp rs rv) (ha : I 1 24 = nI a) (hac : a ≤ c) (h0 : ¬ m_cy (I 1) n = 0) : Cal lyM (d + 96) hX12_first 2 [.ref 0] (I, J, R) (fun r M' => r = some (.int (if m_fi (I 2) (I 3) (I 4) n c rs rv (c - a) (m_tn (I 1) (I 14)) a = 12 then -2 else m_fi (I 2) (I 3) (I 4) n c rs rv (c - a) (m_tn (I 1) (I 14)) a)) ∧ ∃ I3 R3 row2, M' = (I3, J, R3) ∧ sM (va_up (ti_wr I 0 12 0) 14 row2) R I3 R3) := by
  have hn := hA.1
  have hn8 := hA.2.1
  show Ev lyM (d + 96) hX12_first 0 [some (.ref 0), none] [] (I, J, R) _
  refine ev_st dX12_first_0 rfl rfl ?_
  refine ev_iconst (v := 0) dX12_first_1 (by decide) ?_
  refine ev_putI dX12_first_2 fr_12_89 rfl rfl ?_
  refine ev_st dX12_first_5 rfl rfl ?_
  refine ev_st dX12_first_6 rfl rfl ?_
  refine ev_getC dX12_first_7 fr_12_9 rfl rfl ?_
  refine ev_call dX12_first_10 rfl rfl mr_12_244 rfl rfl rfl (c_carry (I := ti_wr I 0 12 0) hn hn8) ?_
  rintro _ _ ⟨rfl, rfl⟩
  show Ev lyM (d + 96) hX12_first 13 [some (.ref 0), none] [.int (m_cy (I 1) n)] (ti_wr I 0 12 0, J, R) _
  refine ev_if_ne (t := 19) (x := m_cy (I 1) n) dX12_first_13 (by decide) (fun c_13 => ?_) (fun c_13 => ?_)
  · refine ev_st dX12_first_19 rfl rfl ?_
    refine ev_call dX12_first_20 rfl rfl mr_12_313 rfl rfl rfl (c_firstOf (I := ti_wr I 0 12 0) hA.w ha hac sM.rf) ?_
    rintro _ _ ⟨rfl, I3, R3, row2, rfl, hs3⟩
    show Ev lyM (d + 96) hX12_first 23 [some (.ref 0), none] [.int (m_fi (I 2) (I 3) (I 4) n c rs rv (c - a) (m_tn (I 1) (I 14)) a)] (I3, J, R3) _
    refine ev_st (L' := [some (.ref 0), some (.int (m_fi (I 2) (I 3) (I 4) n c rs rv (c - a) (m_tn (I 1) (I 14)) a))]) dX12_first_23 rfl rfl ?_
    refine ev_st dX12_first_24 rfl rfl ?_
    refine ev_bipush (v := 12) dX12_first_25 (by decide) ?_
    refine ev_ic_ne (t := 35) (x := m_fi (I 2) (I 3) (I 4) n c rs rv (c - a) (m_tn (I 1) (I 14)) a) (y := 12) dX12_first_27 (by decide) (fun c_27 => ?_) (fun c_27 => ?_)
    · refine ev_st dX12_first_35 rfl rfl ?_
      exact ev_iret dX12_first_36 rfl (⟨by simp [c_27], _, _, _, rfl, hs3⟩)
    · refine ev_bipush (v := -2) dX12_first_30 (by decide) ?_
      refine ev_goto (t := 36) dX12_first_32 (by decide) ?_
      exact ev_iret dX12_first_36 rfl (⟨by simp [c_27], _, _, _, rfl, hs3⟩)
  · exact absurd c_13 h0
/-- n steps ahead, as far as the way goes: staggers, the state, the corner -/
def m_ah (sp str tl : Nat → Int32) (n c rs : Nat) (rv : RV) : Nat → (Nat → Int32) → Nat → Int32 → Int32 × (Nat → Int32) × Nat
  | 0, row, a, s => (s, row, a)
  | k + 1, row, a, s => if c ≤ a then (s, row, a) else m_ah sp str tl n c rs rv k (m_NX sp str tl n c rs rv row a) (a + 1) (s + m_SG sp str tl n c rs rv row a)
def m_sum (t : Nat → Int32) : Nat → Int32
  | 0 => 0
  | k + 1 => m_sum t k + t k
theorem m_ah_24 {sp str tl : Nat → Int32} {n c rs : Nat} {rv : RV} : ∀ (k : Nat) (row : Nat → Int32) (a : Nat) (s : Int32), row 24 = nI a → (m_ah sp str tl n c rs rv k row a s).2.1 24 = nI (m_ah sp str tl n c rs rv k row a s).2.2
  | 0, row, a, s, h => h
  | k + 1, row, a, s, h => by
    simp only [m_ah]
    split
    · exact h
    · exact m_ah_24 k _ _ _ (m_NX_24 h)
theorem m_ah_c {sp str tl : Nat → Int32} {n c rs : Nat} {rv : RV} : ∀ (k : Nat) (row : Nat → Int32) (a : Nat) (s : Int32), a ≤ c → (m_ah sp str tl n c rs rv k row a s).2.2 ≤ c
  | 0, row, a, s, h => h
  | k + 1, row, a, s, h => by
    simp only [m_ah]
    split
    · exact h
    · exact m_ah_c k _ _ _ (by omega)
set_option maxHeartbeats 1000000 in
theorem c_aheadS {I I2 : Nat → Nat → Int32} {J : Nat → Nat → Int64} {R R2 : Nat → Nat → Value} {d n : Nat} {row : Nat → Int32} {z s : Int32} (hn : I 0 3 = nI n) (hn8 : n ≤ 8) (hs : sM (va_up I 14 row) R I2 R2) : ∀ (k b : Nat) (m : Int32), b ≤ n → n - b < k → m = m_sum row b → Ev lyM (d + 96) hX12_ahead 85 [some (.ref 0), some (.int z), some (.int s), some (.int m), some (.int (nI b))] [] (I2, J, R2) (fun r M' => r = some (.int s) ∧ ∃ I3 R3 row2, M' = (I3, ti_wl (ti_wl J 7 0 (row 24).toInt64) 7 1 (m_sum row n).toInt64, R3) ∧ sM (va_up (ti_wr I 0 11 (nI 2)) 14 row2) R I3 R3) := by
  intro k
  induction k with
  | zero => intro b m h1 h2; omega
  | succ k ih =>
      intro b m hb hk hm
      have hn2 : I2 0 3 = nI n := by rw [hs.f 3 rfl]; exact hn
      refine ev_st dX12_ahead_85 rfl rfl ?_
      refine ev_st dX12_ahead_87 rfl rfl ?_
      refine ev_getI (v := nI n) dX12_ahead_88 fr_12_95 rfl rfl hn2 ?_
      refine ev_ic_geN (t := 110) (a := b) (b := n) dX12_ahead_91 (by decide) rfl rfl (by omega) (by omega) (fun c_91 => ?_) (fun c_91 => ?_)
      · refine ev_st dX12_ahead_110 rfl rfl ?_
        refine ev_iconst (v := 0) dX12_ahead_111 (by decide) ?_
        refine ev_putI dX12_ahead_112 fr_12_92 rfl rfl ?_
        refine ev_st dX12_ahead_115 rfl rfl ?_
        refine ev_st dX12_ahead_116 rfl rfl ?_
        refine ev_getC dX12_ahead_117 fr_12_55 rfl rfl ?_
        refine ev_bipush (v := 24) dX12_ahead_120 (by decide) ?_
        refine ev_iald (j := 24) (v := row 24) dX12_ahead_122 rfl rfl (by decide) (by decide) (by show I2 14 24 = _; rw [hs.r 14 rfl, va_up_q]) ?_
        refine ev_st dX12_ahead_123 rfl rfl ?_
        refine ev_call dX12_ahead_124 rfl rfl mr_12_253 rfl rfl rfl (c_tell (m := 0) rfl (by decide) ((row 24).toInt64)) ?_
        rintro _ _ ⟨rfl, rfl⟩
        show Ev lyM (d + 96) hX12_ahead 127 [some (.ref 0), some (.int z), some (.int s), some (.int m), some (.int (nI b))] [] (ti_wr (ti_wr I2 0 11 0) 0 11 (nI 1), ti_wl J 7 0 ((row 24).toInt64), R2) _
        refine ev_st dX12_ahead_127 rfl rfl ?_
        refine ev_st dX12_ahead_128 rfl rfl ?_
        refine ev_st dX12_ahead_129 rfl rfl ?_
        refine ev_call dX12_ahead_130 rfl rfl mr_12_253 rfl rfl rfl (c_tell (m := 1) rfl (by decide) m.toInt64) ?_
        rintro _ _ ⟨rfl, rfl⟩
        show Ev lyM (d + 96) hX12_ahead 133 [some (.ref 0), some (.int z), some (.int s), some (.int m), some (.int (nI b))] [] (ti_wr (ti_wr (ti_wr I2 0 11 0) 0 11 (nI 1)) 0 11 (nI 2), ti_wl (ti_wl J 7 0 ((row 24).toInt64)) 7 1 m.toInt64, R2) _
        refine ev_st dX12_ahead_133 rfl rfl ?_
        refine ev_iret dX12_ahead_134 rfl ⟨rfl, _, _, row, by rw [hm, show b = n by omega], ?_⟩
        refine ⟨fun p h0 h1 => ?_, fun k a1 a2 a3 a4 a5 => ?_, hs.2.2⟩
        · rw [ti_wr_n h0, ti_wr_n h0, ti_wr_n h0, hs.1 p h0 h1]
          by_cases h14 : p = 14
          · subst h14; rw [va_up_q, va_up_q]
          · rw [va_up_n h14, va_up_n h14, ti_wr_n h0]
        · have e1 := hs.2.1 k a1 a2 a3 a4 a5
          rw [va_up_n (by decide)] at e1 ⊢
          by_cases h11 : k = 11
          · subst h11; simp [ti_wr, va_up, upd]
          · simp [ti_wr, va_up, upd, h11, e1]
      · refine ev_st dX12_ahead_94 rfl rfl ?_
        refine ev_st dX12_ahead_95 rfl rfl ?_
        refine ev_getC dX12_ahead_96 fr_12_55 rfl rfl ?_
        refine ev_st dX12_ahead_99 rfl rfl ?_
        refine ev_iald (j := b) (v := row b) dX12_ahead_101 rfl rfl (by omega) (by decide) (by rw [hs.r 14 rfl, va_up_q]) ?_
        refine ev_st dX12_ahead_102 rfl rfl ?_
        refine ev_st (L' := [some (.ref 0), some (.int z), some (.int s), some (.int (m + (row b))), some (.int (nI b))]) dX12_ahead_103 rfl rfl ?_
        refine ev_iincN (a := b) (b := b + 1) (L' := [some (.ref 0), some (.int z), some (.int s), some (.int (m + (row b))), some (.int (nI (b + 1)))]) dX12_ahead_104 rfl (nI_1 _) rfl ?_
        refine ev_goto (t := 85) dX12_ahead_107 (by decide) ?_
        exact ih _ _ (by omega) (by omega) (by simp only [m_sum, hm])
