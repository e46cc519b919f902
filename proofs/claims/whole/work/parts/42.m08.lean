/-! the model: ahead, bears, rooms, draw, step, force, rest -/
set_option maxHeartbeats 1000000 in
theorem c_aheadL {I : Nat → Nat → Int32} {J : Nat → Nat → Int64} {R : Nat → Nat → Value} {d n c rp rs m : Nat} {rv : RV} (hm12 : m ≤ 12) (hA : mA I R d n c rp rs rv) : ∀ (z : Nat) (row : Nat → Int32) (a k : Nat) (s : Int32) (I2 : Nat → Nat → Int32) (R2 : Nat → Nat → Value), m - k < z → row 24 = nI a → a ≤ c → k ≤ m → sM (va_up I 14 row) R I2 R2 → Ev lyM (d + 96) hX12_ahead 47 [some (.ref 0), some (.int (nI m)), some (.int s), some (.int (nI k)), none] [] (I2, J, R2) (fun r M' => r = some (.int (m_ah (I 2) (I 3) (I 4) n c rs rv (m - k) row a s).1) ∧ ∃ I3 R3 row2, M' = (I3, ti_wl (ti_wl J 7 0 ((m_ah (I 2) (I 3) (I 4) n c rs rv (m - k) row a s).2.1 24).toInt64) 7 1 (m_sum (m_ah (I 2) (I 3) (I 4) n c rs rv (m - k) row a s).2.1 n).toInt64, R3) ∧ sM (va_up (ti_wr I 0 11 (nI 2)) 14 row2) R I3 R3) := by
  intro z
  induction z with
  | zero => intro row a k s I2 R2 h1; omega
  | succ z ih =>
      intro row a k s I2 R2 hz ha hac hkm hs
      have hc12 := hA.2.2.2.1
      have hn8 := hA.2.1
      have ha12 : a ≤ 12 := by omega
      have hc2 : I2 0 1 = nI c := by rw [hs.f 1 rfl]; exact hA.2.2.1
      have ha2 : I2 14 24 = nI a := by rw [hs.r 14 rfl, va_up_q]; exact ha
      have hn2 : I2 0 3 = nI n := by rw [hs.f 3 rfl]; exact hA.1
      refine ev_st dX12_ahead_47 rfl rfl ?_
      refine ev_st dX12_ahead_48 rfl rfl ?_
      refine ev_ic_geN (t := 80) (a := k) (b := m) dX12_ahead_49 (by decide) rfl rfl (by omega) (by omega) (fun c_49 => ?_) (fun c_49 => ?_)
      · refine ev_iconst (v := 0) dX12_ahead_80 (by decide) ?_
        refine ev_st (L' := [some (.ref 0), some (.int (nI m)), some (.int s), some (.int 0), none]) dX12_ahead_81 rfl rfl ?_
        refine ev_iconst (v := 0) dX12_ahead_82 (by decide) ?_
        refine ev_st (L' := [some (.ref 0), some (.int (nI m)), some (.int s), some (.int 0), some (.int 0)]) dX12_ahead_83 rfl rfl ?_
        have e0 : m_ah (I 2) (I 3) (I 4) n c rs rv (m - k) row a s = (s, row, a) := by rw [show m - k = 0 by omega]; rfl
        rw [e0]
        exact c_aheadS hA.1 hn8 hs (n + 1) 0 0 (by omega) (by omega) rfl
      · refine ev_st dX12_ahead_52 rfl rfl ?_
        refine ev_st dX12_ahead_53 rfl rfl ?_
        refine ev_getC dX12_ahead_54 fr_12_55 rfl rfl ?_
        refine ev_call dX12_ahead_57 rfl rfl mr_12_261 rfl rfl rfl (c_isOnHillt hc2 hc12 ha2 ha12) ?_
        rintro _ _ ⟨rfl, rfl⟩
        show Ev lyM (d + 96) hX12_ahead 60 [some (.ref 0), some (.int (nI m)), some (.int s), some (.int (nI k)), none] [.int (if c ≤ a then 1 else 0)] (I2, J, R2) _
        refine ev_if_ne (t := 80) (x := if c ≤ a then 1 else 0) dX12_ahead_60 (by decide) (fun c_60' => ?_) (fun c_60' => ?_)
        · have c_60 : c ≤ a := by simpa using c_60'
          refine ev_iconst (v := 0) dX12_ahead_80 (by decide) ?_
          refine ev_st (L' := [some (.ref 0), some (.int (nI m)), some (.int s), some (.int 0), none]) dX12_ahead_81 rfl rfl ?_
          refine ev_iconst (v := 0) dX12_ahead_82 (by decide) ?_
          refine ev_st (L' := [some (.ref 0), some (.int (nI m)), some (.int s), some (.int 0), some (.int 0)]) dX12_ahead_83 rfl rfl ?_
          have e0 : m_ah (I 2) (I 3) (I 4) n c rs rv (m - k) row a s = (s, row, a) := by cases hz : m - k with
                | zero => rfl
                | succ z => simp only [m_ah, if_pos c_60]
          rw [e0]
          exact c_aheadS hA.1 hn8 hs (n + 1) 0 0 (by omega) (by omega) rfl
        · have c_60 : a < c := by simpa using c_60'
          refine ev_st dX12_ahead_63 rfl rfl ?_
          refine ev_st dX12_ahead_64 rfl rfl ?_
          refine ev_st dX12_ahead_65 rfl rfl ?_
          refine ev_getC dX12_ahead_66 fr_12_55 rfl rfl ?_
          refine ev_call dX12_ahead_69 rfl rfl mr_12_276 rfl rfl rfl (Cal.mono (Nat.le_succ _) (c_goT hA ha ha12 hs)) ?_
          rintro _ _ ⟨rfl, I3, R3, rfl, hs3⟩
          show Ev lyM (d + 96) hX12_ahead 72 [some (.ref 0), some (.int (nI m)), some (.int s), some (.int (nI k)), none] [.int (m_SG (I 2) (I 3) (I 4) n c rs rv row a), .int s] (I3, J, R3) _
          refine ev_st dX12_ahead_72 rfl rfl ?_
          refine ev_st (L' := [some (.ref 0), some (.int (nI m)), some (.int (s + (m_SG (I 2) (I 3) (I 4) n c rs rv row a))), some (.int (nI k)), none]) dX12_ahead_73 rfl rfl ?_
          refine ev_iincN (a := k) (b := k + 1) (L' := [some (.ref 0), some (.int (nI m)), some (.int (s + (m_SG (I 2) (I 3) (I 4) n c rs rv row a))), some (.int (nI (k + 1))), none]) dX12_ahead_74 rfl (nI_1 _) rfl ?_
          refine ev_goto (t := 47) dX12_ahead_77 (by decide) ?_
          have K := ih (m_NX (I 2) (I 3) (I 4) n c rs rv row a) (a + 1) (k + 1) (s + m_SG (I 2) (I 3) (I 4) n c rs rv row a) _ _ (by omega) (m_NX_24 ha) (by omega) (by omega) hs3
          rw [show m_ah (I 2) (I 3) (I 4) n c rs rv (m - (k + 1)) (m_NX (I 2) (I 3) (I 4) n c rs rv row a) (a + 1) (s + m_SG (I 2) (I 3) (I 4) n c rs rv row a) = m_ah (I 2) (I 3) (I 4) n c rs rv (m - k) row a s from by rw [show m - k = (m - (k + 1)) + 1 by omega]; simp only [m_ah, if_neg (Nat.not_le.mpr c_60)]] at K
          exact K
theorem c_ahead3 {I : Nat → Nat → Int32} {J : Nat → Nat → Int64} {R : Nat → Nat → Value} {d n : Nat} (hn : I 0 3 = nI n) (hn8 : n ≤ 8) (h0 : m_cy (I 1) n = 0) (x : Int32) : Cal lyM (d + 96) hX12_ahead 5 [.ref 0, .int x] (I, J, R) (fun r M' => r = some (.int (-3)) ∧ M' = (ti_wr I 0 12 0, J, R)) := by
  show Ev lyM (d + 96) hX12_ahead 0 [some (.ref 0), some (.int x), none, none, none] [] (I, J, R) _
  refine ev_st dX12_ahead_0 rfl rfl ?_
  refine ev_iconst (v := 0) dX12_ahead_1 (by decide) ?_
  refine ev_putI dX12_ahead_2 fr_12_89 rfl rfl ?_
  refine ev_st dX12_ahead_5 rfl rfl ?_
  refine ev_st dX12_ahead_6 rfl rfl ?_
  refine ev_getC dX12_ahead_7 fr_12_9 rfl rfl ?_
  refine ev_call dX12_ahead_10 rfl rfl mr_12_244 rfl rfl rfl (c_carry (I := ti_wr I 0 12 0) hn hn8) ?_
  rintro _ _ ⟨rfl, rfl⟩
  show Ev lyM (d + 96) hX12_ahead 13 [some (.ref 0), some (.int x), none, none, none] [.int (m_cy (I 1) n)] (ti_wr I 0 12 0, J, R) _
  refine ev_if_ne (t := 19) (x := m_cy (I 1) n) dX12_ahead_13 (by decide) (fun c_13 => ?_) (fun c_13 => ?_)
  · exact absurd h0 c_13
  · refine ev_bipush (v := -3) dX12_ahead_16 (by decide) ?_
    exact ev_iret dX12_ahead_18 rfl (⟨rfl, rfl⟩)
theorem c_ahead1 {I : Nat → Nat → Int32} {J : Nat → Nat → Int64} {R : Nat → Nat → Value} {d n : Nat} (hn : I 0 3 = nI n) (hn8 : n ≤ 8) (h0 : ¬ m_cy (I 1) n = 0) {x : Int32} (hx : m_in x 0 12 = 0) : Cal lyM (d + 96) hX12_ahead 5 [.ref 0, .int x] (I, J, R) (fun r M' => r = some (.int (-1)) ∧ M' = (ti_wr I 0 12 0, J, R)) := by
  show Ev lyM (d + 96) hX12_ahead 0 [some (.ref 0), some (.int x), none, none, none] [] (I, J, R) _
  refine ev_st dX12_ahead_0 rfl rfl ?_
  refine ev_iconst (v := 0) dX12_ahead_1 (by decide) ?_
  refine ev_putI dX12_ahead_2 fr_12_89 rfl rfl ?_
  refine ev_st dX12_ahead_5 rfl rfl ?_
  refine ev_st dX12_ahead_6 rfl rfl ?_
  refine ev_getC dX12_ahead_7 fr_12_9 rfl rfl ?_
  refine ev_call dX12_ahead_10 rfl rfl mr_12_244 rfl rfl rfl (c_carry (I := ti_wr I 0 12 0) hn hn8) ?_
  rintro _ _ ⟨rfl, rfl⟩
  show Ev lyM (d + 96) hX12_ahead 13 [some (.ref 0), some (.int x), none, none, none] [.int (m_cy (I 1) n)] (ti_wr I 0 12 0, J, R) _
  refine ev_if_ne (t := 19) (x := m_cy (I 1) n) dX12_ahead_13 (by decide) (fun c_13 => ?_) (fun c_13 => ?_)
  · refine ev_st dX12_ahead_19 rfl rfl ?_
    refine ev_iconst (v := 0) dX12_ahead_20 (by decide) ?_
    refine ev_bipush (v := 12) dX12_ahead_21 (by decide) ?_
    refine ev_call dX12_ahead_23 rfl rfl mr_12_98 rfl rfl rfl (c_in0 hx) ?_
    rintro _ _ ⟨rfl, rfl⟩
    show Ev lyM (d + 96) hX12_ahead 26 [some (.ref 0), some (.int x), none, none, none] [.int 0] (ti_wr I 0 12 0, J, R) _
    refine ev_if_ne (t := 31) dX12_ahead_26 (by decide) (fun q => absurd q (by decide)) (fun _ => ?_)
    refine ev_iconst (v := -1) dX12_ahead_29 (by decide) ?_
    exact ev_iret dX12_ahead_30 rfl (⟨rfl, rfl⟩)
  · exact absurd c_13 h0
set_option maxHeartbeats 1000000 in
theorem c_ahead {I : Nat → Nat → Int32} {J : Nat → Nat → Int64} {R : Nat → Nat → Value} {d n c a rp rs : Nat} {rv : RV} {m : Nat} (hm12 : m ≤ 12) (hA : mA I R d n c rp rs rv) (ha : I 1 24 = nI a) (hac : a ≤ c) (h0 : ¬ m_cy (I 1) n = 0) : Cal lyM (d + 96) hX12_ahead 5 [.ref 0, .int (nI m)] (I, J, R) (fun r M' => r = some (.int (m_ah (I 2) (I 3) (I 4) n c rs rv m (m_tn (I 1) (I 14)) a 0).1) ∧ ∃ I3 R3 row2, M' = (I3, ti_wl (ti_wl J 7 0 ((m_ah (I 2) (I 3) (I 4) n c rs rv m (m_tn (I 1) (I 14)) a 0).2.1 24).toInt64) 7 1 (m_sum (m_ah (I 2) (I 3) (I 4) n c rs rv m (m_tn (I 1) (I 14)) a 0).2.1 n).toInt64, R3) ∧ sM (va_up (ti_wr (ti_wr I 0 12 0) 0 11 (nI 2)) 14 row2) R I3 R3) := by
  have hn := hA.1
  have hn8 := hA.2.1
  have hx : m_in (nI m) 0 12 = 1 := by rw [show (12 : Int32) = nI 12 from rfl, ix_inC (by decide), ix_nI (by decide) (by omega)]; rfl
  show Ev lyM (d + 96) hX12_ahead 0 [some (.ref 0), some (.int (nI m)), none, none, none] [] (I, J, R) _
  refine ev_st dX12_ahead_0 rfl rfl ?_
  refine ev_iconst (v := 0) dX12_ahead_1 (by decide) ?_
  refine ev_putI dX12_ahead_2 fr_12_89 rfl rfl ?_
  refine ev_st dX12_ahead_5 rfl rfl ?_
  refine ev_st dX12_ahead_6 rfl rfl ?_
  refine ev_getC dX12_ahead_7 fr_12_9 rfl rfl ?_
  refine ev_call dX12_ahead_10 rfl rfl mr_12_244 rfl rfl rfl (c_carry (I := ti_wr I 0 12 0) hn hn8) ?_
  rintro _ _ ⟨rfl, rfl⟩
  show Ev lyM (d + 96) hX12_ahead 13 [some (.ref 0), some (.int (nI m)), none, none, none] [.int (m_cy (I 1) n)] (ti_wr I 0 12 0, J, R) _
  refine ev_if_ne (t := 19) (x := m_cy (I 1) n) dX12_ahead_13 (by decide) (fun c_13 => ?_) (fun c_13 => ?_)
  · refine ev_st dX12_ahead_19 rfl rfl ?_
    refine ev_iconst (v := 0) dX12_ahead_20 (by decide) ?_
    refine ev_bipush (v := 12) dX12_ahead_21 (by decide) ?_
    refine ev_call dX12_ahead_23 rfl rfl mr_12_98 rfl rfl rfl (c_in1 hx) ?_
    rintro _ _ ⟨rfl, rfl⟩
    show Ev lyM (d + 96) hX12_ahead 26 [some (.ref 0), some (.int (nI m)), none, none, none] [.int 1] (ti_wr I 0 12 0, J, R) _
    refine ev_if_ne (t := 31) dX12_ahead_26 (by decide) (fun _ => ?_) (fun q => absurd q (by decide))
    refine ev_st dX12_ahead_31 rfl rfl ?_
    refine ev_getC dX12_ahead_32 fr_12_9 rfl rfl ?_
    refine ev_st dX12_ahead_35 rfl rfl ?_
    refine ev_getC dX12_ahead_36 fr_12_55 rfl rfl ?_
    refine ev_iconst (v := 0) dX12_ahead_39 (by decide) ?_
    refine ev_call dX12_ahead_40 rfl rfl mr_12_257 rfl rfl rfl (c_lay_1_14 (I := ti_wr I 0 12 0) (k := 0) (by decide)) ?_
    rintro _ _ ⟨rfl, rfl⟩
    show Ev lyM (d + 96) hX12_ahead 43 [some (.ref 0), some (.int (nI m)), none, none, none] [] (va_up (ti_wr I 0 12 0) 14 (m_tn (I 1) (I 14)), J, R) _
    refine ev_iconst (v := 0) dX12_ahead_43 (by decide) ?_
    refine ev_st (L' := [some (.ref 0), some (.int (nI m)), some (.int 0), none, none]) dX12_ahead_44 rfl rfl ?_
    refine ev_iconst (v := 0) dX12_ahead_45 (by decide) ?_
    refine ev_st (L' := [some (.ref 0), some (.int (nI m)), some (.int 0), some (.int 0), none]) dX12_ahead_46 rfl rfl ?_
    exact c_aheadL (I := ti_wr I 0 12 0) hm12 hA.w (m + 1) _ a 0 0 _ _ (by omega) ha hac (by omega) sM.rf
  · exact absurd c_13 h0
def m_dw (x : Int32) : Int32 := x * 1103515245 + 12345
def m_dr (x n : Int32) : Int32 := let y := (x.toUInt32 >>> ((16 : Int32).toUInt32 &&& Int32.toUInt32 31)).toInt32
  y - y / n * n
theorem c_draw {I : Nat → Nat → Int32} {J : Nat → Nat → Int64} {R : Nat → Nat → Value} {d : Nat} {n : Int32} (hn : ¬ n = 0) : Cal lyM d hX12_draw 2 [.ref 0, .int n] (I, J, R) (fun r M' => r = some (.int (m_dr (m_dw (I 0 38)) n)) ∧ M' = (ti_wr I 0 38 (m_dw (I 0 38)), J, R)) := by
  show Ev lyM d hX12_draw 0 [some (.ref 0), some (.int n)] [] (I, J, R) _
  refine ev_st dX12_draw_0 rfl rfl ?_
  refine ev_st dX12_draw_1 rfl rfl ?_
  refine ev_getI (v := I 0 38) dX12_draw_2 fr_12_385 rfl rfl rfl ?_
  refine ev_ldcw (v := 1103515245) dX12_draw_5 rfl ?_
  refine ev_st dX12_draw_8 rfl rfl ?_
  refine ev_sipush (v := 12345) dX12_draw_9 (by decide) ?_
  refine ev_st dX12_draw_12 rfl rfl ?_
  refine ev_putI dX12_draw_13 fr_12_385 rfl rfl ?_
  refine ev_st dX12_draw_16 rfl rfl ?_
  refine ev_getI (v := ((I 0 38) * 1103515245) + 12345) dX12_draw_17 fr_12_385 rfl rfl rfl ?_
  refine ev_bipush (v := 16) dX12_draw_20 (by decide) ?_
  refine ev_st dX12_draw_22 rfl rfl ?_
  refine ev_st dX12_draw_23 rfl rfl ?_
  refine ev_rem dX12_draw_24 hn ?_
  exact ev_iret dX12_draw_25 rfl (⟨rfl, rfl⟩)
set_option maxHeartbeats 1000000 in
theorem c_step_no {I : Nat → Nat → Int32} {J : Nat → Nat → Int64} {R : Nat → Nat → Value} {d n c a : Nat} (hn : I 0 3 = nI n) (hn8 : n ≤ 8) (hc : I 0 1 = nI c) (hc12 : c ≤ 12) (ha : I 1 24 = nI a) (ha12 : a ≤ 12) (hv : m_rS c a (m_cy (I 1) n) < 0) : Cal lyM (d + 96) hX12_step 3 [.ref 0] (I, J, R) (fun r M' => r = some (.int (m_rS c a (m_cy (I 1) n))) ∧ M' = (ti_wr I 0 12 0, J, R)) := by
  show Ev lyM (d + 96) hX12_step 0 [some (.ref 0), none, none] [] (I, J, R) _
  refine ev_st dX12_step_0 rfl rfl ?_
  refine ev_iconst (v := 0) dX12_step_1 (by decide) ?_
  refine ev_putI dX12_step_2 fr_12_89 rfl rfl ?_
  refine ev_st dX12_step_5 rfl rfl ?_
  refine ev_st dX12_step_6 rfl rfl ?_
  refine ev_getC dX12_step_7 fr_12_9 rfl rfl ?_
  refine ev_call dX12_step_10 rfl rfl mr_12_269 rfl rfl rfl (c_refusesStep (I := ti_wr I 0 12 0) hn hn8 hc hc12 ha ha12) ?_
  rintro _ _ ⟨rfl, rfl⟩
  show Ev lyM (d + 96) hX12_step 13 [some (.ref 0), none, none] [.int (m_rS c a (m_cy (I 1) n))] (ti_wr I 0 12 0, J, R) _
  refine ev_st (L' := [some (.ref 0), some (.int (m_rS c a (m_cy (I 1) n))), none]) dX12_step_13 rfl rfl ?_
  refine ev_st dX12_step_14 rfl rfl ?_
  refine ev_if_ge (t := 20) (x := m_rS c a (m_cy (I 1) n)) dX12_step_15 (by decide) (fun c_15 => ?_) (fun c_15 => ?_)
  · exact absurd hv c_15
  · refine ev_st dX12_step_18 rfl rfl ?_
    exact ev_iret dX12_step_19 rfl (⟨rfl, rfl⟩)
set_option maxHeartbeats 1000000 in
theorem c_step_ok {I : Nat → Nat → Int32} {J : Nat → Nat → Int64} {R : Nat → Nat → Value} {d n c a rp rs u : Nat} {rv : RV} (hA : mA I R d n c rp rs rv) (ha : I 1 24 = nI a) (hac : a ≤ c) (hu : I 0 25 = nI u) (hu12 : u ≤ 12) (hv : ¬ m_rS c a (m_cy (I 1) n) < 0) : Cal lyM (d + 96) hX12_step 3 [.ref 0] (I, J, R) (fun r M' => r = some (.int (m_SG (I 2) (I 3) (I 4) n c rs rv (I 1) a)) ∧ ∃ I3 R3, M' = (I3, ti_wl (ti_wl J 7 0 ((m_NX (I 2) (I 3) (I 4) n c rs rv (I 1) a) 24).toInt64) 7 1 ((m_NX (I 2) (I 3) (I 4) n c rs rv (I 1) a) 28).toInt64, R3) ∧ sM (ti_wr (m_ac I u (m_NX (I 2) (I 3) (I 4) n c rs rv (I 1) a)) 0 11 (nI 2)) R I3 R3) := by
  have hn := hA.1
  have hn8 := hA.2.1
  have hc := hA.2.2.1
  have hc12 := hA.2.2.2.1
  have ha12 : a ≤ 12 := by omega
  have hB : mB 1 (ti_wr (va_up (ti_wr I 0 12 0) 12 (m_rem (I 1) (I 12) u)) 0 25 (nI (m_u1 u))) R d n c a rp rs rv := by
    obtain ⟨h1, h2, h3, h4, h5, h6, h7⟩ := hA
    refine ⟨h1, h2, h3, h4, ha, ha12, h5, h6, ?_⟩
    have e : (ti_wr (va_up (ti_wr I 0 12 0) 12 (m_rem (I 1) (I 12) u)) 0 25 (nI (m_u1 u))) rp = I rp := by rcases h7.1 with rfl | rfl <;> rfl
    rw [e]; exact h7
  show Ev lyM (d + 96) hX12_step 0 [some (.ref 0), none, none] [] (I, J, R) _
  refine ev_st dX12_step_0 rfl rfl ?_
  refine ev_iconst (v := 0) dX12_step_1 (by decide) ?_
  refine ev_putI dX12_step_2 fr_12_89 rfl rfl ?_
  refine ev_st dX12_step_5 rfl rfl ?_
  refine ev_st dX12_step_6 rfl rfl ?_
  refine ev_getC dX12_step_7 fr_12_9 rfl rfl ?_
  refine ev_call dX12_step_10 rfl rfl mr_12_269 rfl rfl rfl (c_refusesStep (I := ti_wr I 0 12 0) hn hn8 hc hc12 ha ha12) ?_
  rintro _ _ ⟨rfl, rfl⟩
  show Ev lyM (d + 96) hX12_step 13 [some (.ref 0), none, none] [.int (m_rS c a (m_cy (I 1) n))] (ti_wr I 0 12 0, J, R) _
  refine ev_st (L' := [some (.ref 0), some (.int (m_rS c a (m_cy (I 1) n))), none]) dX12_step_13 rfl rfl ?_
  refine ev_st dX12_step_14 rfl rfl ?_
  refine ev_if_ge (t := 20) (x := m_rS c a (m_cy (I 1) n)) dX12_step_15 (by decide) (fun c_15 => ?_) (fun c_15 => ?_)
  · refine ev_st dX12_step_20 rfl rfl ?_
    refine ev_st dX12_step_21 rfl rfl ?_
    refine ev_getC dX12_step_22 fr_12_9 rfl rfl ?_
    refine ev_call dX12_step_25 rfl rfl mr_12_272 rfl rfl rfl (c_remember_1 (I := ti_wr I 0 12 0) hu hu12) ?_
    rintro _ _ ⟨rfl, rfl⟩
    show Ev lyM (d + 96) hX12_step 28 [some (.ref 0), some (.int (m_rS c a (m_cy (I 1) n))), none] [] (ti_wr (va_up (ti_wr I 0 12 0) 12 (m_rem (I 1) (I 12) u)) 0 25 (nI (m_u1 u)), J, R) _
    refine ev_st dX12_step_28 rfl rfl ?_
    refine ev_st dX12_step_29 rfl rfl ?_
    refine ev_getC dX12_step_30 fr_12_9 rfl rfl ?_
    refine ev_call dX12_step_33 rfl rfl mr_12_276 rfl rfl rfl (Cal.mono (Nat.le_succ _) (c_goStep (I := ti_wr (va_up (ti_wr I 0 12 0) 12 (m_rem (I 1) (I 12) u)) 0 25 (nI (m_u1 u))) hB sM.rf)) ?_
    rintro _ _ ⟨rfl, I3, R3, rfl, hs3⟩
    show Ev lyM (d + 96) hX12_step 36 [some (.ref 0), some (.int (m_rS c a (m_cy (I 1) n))), none] [.int (m_SG (I 2) (I 3) (I 4) n c rs rv (I 1) a)] (I3, J, R3) _
    refine ev_st (L' := [some (.ref 0), some (.int (m_rS c a (m_cy (I 1) n))), some (.int (m_SG (I 2) (I 3) (I 4) n c rs rv (I 1) a))]) dX12_step_36 rfl rfl ?_
    refine ev_st dX12_step_37 rfl rfl ?_
    refine ev_iconst (v := 0) dX12_step_38 (by decide) ?_
    refine ev_putI dX12_step_39 fr_12_92 rfl rfl ?_
    refine ev_st dX12_step_42 rfl rfl ?_
    refine ev_st dX12_step_43 rfl rfl ?_
    refine ev_getC dX12_step_44 fr_12_9 rfl rfl ?_
    refine ev_bipush (v := 24) dX12_step_47 (by decide) ?_
    refine ev_iald (j := 24) (v := (m_NX (I 2) (I 3) (I 4) n c rs rv (I 1) a) 24) dX12_step_49 rfl rfl (by decide) (by decide) (by show I3 1 24 = _; rw [hs3.r 1 rfl]; rfl) ?_
    refine ev_st dX12_step_50 rfl rfl ?_
    refine ev_call dX12_step_51 rfl rfl mr_12_253 rfl rfl rfl (c_tell (m := 0) rfl (by decide) (((m_NX (I 2) (I 3) (I 4) n c rs rv (I 1) a) 24).toInt64)) ?_
    rintro _ _ ⟨rfl, rfl⟩
    show Ev lyM (d + 96) hX12_step 54 [some (.ref 0), some (.int (m_rS c a (m_cy (I 1) n))), some (.int (m_SG (I 2) (I 3) (I 4) n c rs rv (I 1) a))] [] (ti_wr (ti_wr I3 0 11 0) 0 11 (nI 1), ti_wl J 7 0 (((m_NX (I 2) (I 3) (I 4) n c rs rv (I 1) a) 24).toInt64), R3) _
    refine ev_st dX12_step_54 rfl rfl ?_
    refine ev_st dX12_step_55 rfl rfl ?_
    refine ev_getC dX12_step_56 fr_12_9 rfl rfl ?_
    refine ev_bipush (v := 28) dX12_step_59 (by decide) ?_
    refine ev_iald (j := 28) (v := (m_NX (I 2) (I 3) (I 4) n c rs rv (I 1) a) 28) dX12_step_61 rfl rfl (by decide) (by decide) (by show I3 1 28 = _; rw [hs3.r 1 rfl]; rfl) ?_
    refine ev_st dX12_step_62 rfl rfl ?_
    refine ev_call dX12_step_63 rfl rfl mr_12_253 rfl rfl rfl (c_tell (m := 1) rfl (by decide) (((m_NX (I 2) (I 3) (I 4) n c rs rv (I 1) a) 28).toInt64)) ?_
    rintro _ _ ⟨rfl, rfl⟩
    show Ev lyM (d + 96) hX12_step 66 [some (.ref 0), some (.int (m_rS c a (m_cy (I 1) n))), some (.int (m_SG (I 2) (I 3) (I 4) n c rs rv (I 1) a))] [] (ti_wr (ti_wr (ti_wr I3 0 11 0) 0 11 (nI 1)) 0 11 (nI 2), ti_wl (ti_wl J 7 0 (((m_NX (I 2) (I 3) (I 4) n c rs rv (I 1) a) 24).toInt64)) 7 1 (((m_NX (I 2) (I 3) (I 4) n c rs rv (I 1) a) 28).toInt64), R3) _
    refine ev_st dX12_step_66 rfl rfl ?_
    refine ev_iret dX12_step_67 rfl ⟨rfl, _, _, rfl, ?_⟩
    refine ⟨fun p h0 h1 => ?_, fun k a1 a2 a3 a4 a5 => ?_, hs3.2.2⟩
    · rw [ti_wr_n h0, ti_wr_n h0, ti_wr_n h0, hs3.1 p h0 h1, ti_wr_n h0]; rfl
    · have e1 := hs3.2.1 k a1 a2 a3 a4 a5
      by_cases h11 : k = 11
      · subst h11; simp [ti_wr, va_up, upd]
      · have e2 : ti_wr (m_ac I u (m_NX (I 2) (I 3) (I 4) n c rs rv (I 1) a)) 0 11 (nI 2) 0 k = m_ac I u (m_NX (I 2) (I 3) (I 4) n c rs rv (I 1) a) 0 k := by simp [ti_wr, va_up, upd, h11]
        rw [e2]
        have e3 : I3 0 k = m_ac I u (m_NX (I 2) (I 3) (I 4) n c rs rv (I 1) a) 0 k := e1
        rw [← e3]; simp [ti_wr, va_up, upd, h11]
  · exact absurd c_15 hv
