/-! the model: teams -/
theorem sM.wr {I I2 : Nat → Nat → Int32} {R R2 : Nat → Nat → Value} (h : sM I R I2 R2) (p k : Nat) (v : Int32) : sM (ti_wr I p k v) R (ti_wr I2 p k v) R2 := by
  refine ⟨fun q h0 h1 => ?_, fun j a1 a2 a3 a4 a5 => ?_, h.2.2⟩
  · funext i
    have := h.1 q h0 h1
    simp only [ti_wr, va_up, upd, this]
    by_cases hq : q = p
    · subst hq; simp [this]
    · simp [hq]
  · have := h.2.1 j a1 a2 a3 a4 a5
    simp only [ti_wr, va_up, upd]
    by_cases hq : 0 = p
    · subst hq; by_cases hj : j = k <;> simp [upd, hj, this]
    · simp [hq, this]
/-- FORCE of a set in a state, and what is needed there -/
def m_FX (sp str tl : Nat → Int32) (n c rs : Nat) (rv : RV) (row : Nat → Int32) (a : Nat) (x : Int32) : Int32 := m_fo rs rv str tl row (m_tl tl x n) (m_st c sp a) x n
def m_ND (sp : Nat → Int32) (c : Nat) (row : Nat → Int32) (a : Nat) : Int32 := row 25 + m_st c sp a
/-- the strongest of k, of the sets below -/
def m_tm (F : Int32 → Int32) (kk : Int32) : Nat → Int32 × Int32
  | 0 => (0, -1)
  | s + 1 => if s = 0 then (0, -1) else if bc (nI s) = kk ∧ (m_tm F kk s).2 < F (nI s) then (nI s, F (nI s)) else m_tm F kk s
def m_fw (F : Int32 → Int32) (nd : Int32) : Nat → Int32
  | 0 => 0
  | s + 1 => if s = 0 then 0 else
    if 6 < bc (nI s) ∨ F (nI s) < nd ∨ (¬ m_fw F nd s = 0 ∧ bc (m_fw F nd s) < bc (nI s)) then m_fw F nd s
    else if m_fw F nd s = 0 ∨ bc (nI s) < bc (m_fw F nd s) ∨ F (m_fw F nd s) < F (nI s) then nI s else m_fw F nd s
theorem c_team0 {I : Nat → Nat → Int32} {J : Nat → Nat → Int64} {R : Nat → Nat → Value} {d : Nat} {x : Int32} (hx : m_in x 1 6 = 0) : Cal lyM (d + 96) hX12_team 5 [.ref 0, .int x] (I, J, R) (fun r M' => r = some (.int (-1)) ∧ M' = (ti_wr I 0 12 0, J, R)) := by
  show Ev lyM (d + 96) hX12_team 0 [some (.ref 0), some (.int x), none, none, none] [] (I, J, R) _
  refine ev_st dX12_team_0 rfl rfl ?_
  refine ev_iconst (v := 0) dX12_team_1 (by decide) ?_
  refine ev_putI dX12_team_2 fr_12_89 rfl rfl ?_
  refine ev_st dX12_team_5 rfl rfl ?_
  refine ev_iconst (v := 1) dX12_team_6 (by decide) ?_
  refine ev_bipush (v := 6) dX12_team_7 (by decide) ?_
  refine ev_call dX12_team_9 rfl rfl mr_12_98 rfl rfl rfl (c_in0 hx) ?_
  rintro _ _ ⟨rfl, rfl⟩
  show Ev lyM (d + 96) hX12_team 12 [some (.ref 0), some (.int x), none, none, none] [.int 0] (ti_wr I 0 12 0, J, R) _
  refine ev_if_ne (t := 17) dX12_team_12 (by decide) (fun q => absurd q (by decide)) (fun _ => ?_)
  refine ev_iconst (v := -1) dX12_team_15 (by decide) ?_
  exact ev_iret dX12_team_16 rfl (⟨rfl, rfl⟩)
theorem c_team2 {I : Nat → Nat → Int32} {J : Nat → Nat → Int64} {R : Nat → Nat → Value} {d n : Nat} (hn : I 0 3 = nI n) {x : Int32} (hx : m_in x 1 6 = 1) (hn2 : nI n < x) : Cal lyM (d + 96) hX12_team 5 [.ref 0, .int x] (I, J, R) (fun r M' => r = some (.int (-2)) ∧ M' = (ti_wr I 0 12 0, J, R)) := by
  show Ev lyM (d + 96) hX12_team 0 [some (.ref 0), some (.int x), none, none, none] [] (I, J, R) _
  refine ev_st dX12_team_0 rfl rfl ?_
  refine ev_iconst (v := 0) dX12_team_1 (by decide) ?_
  refine ev_putI dX12_team_2 fr_12_89 rfl rfl ?_
  refine ev_st dX12_team_5 rfl rfl ?_
  refine ev_iconst (v := 1) dX12_team_6 (by decide) ?_
  refine ev_bipush (v := 6) dX12_team_7 (by decide) ?_
  refine ev_call dX12_team_9 rfl rfl mr_12_98 rfl rfl rfl (c_in1 hx) ?_
  rintro _ _ ⟨rfl, rfl⟩
  show Ev lyM (d + 96) hX12_team 12 [some (.ref 0), some (.int x), none, none, none] [.int 1] (ti_wr I 0 12 0, J, R) _
  refine ev_if_ne (t := 17) dX12_team_12 (by decide) (fun _ => ?_) (fun q => absurd q (by decide))
  refine ev_st dX12_team_17 rfl rfl ?_
  refine ev_st dX12_team_18 rfl rfl ?_
  refine ev_getI (v := nI n) dX12_team_19 fr_12_95 rfl rfl hn ?_
  refine ev_ic_le (t := 28) (x := x) (y := nI n) dX12_team_22 (by decide) (fun c_22 => ?_) (fun c_22 => ?_)
  · exact absurd hn2 c_22
  · refine ev_bipush (v := -2) dX12_team_25 (by decide) ?_
    exact ev_iret dX12_team_27 rfl (⟨rfl, rfl⟩)
set_option maxHeartbeats 1000000 in
theorem c_team {I : Nat → Nat → Int32} {J : Nat → Nat → Int64} {R : Nat → Nat → Value} {d n c a rp rs : Nat} {rv : RV} (hA : mA I R d n c rp rs rv) (ha : I 1 24 = nI a) (hac : a ≤ c) {x : Int32} (hx : m_in x 1 6 = 1) (hn2 : ¬ nI n < x) : Cal lyM (d + 96) hX12_team 5 [.ref 0, .int x] (I, J, R) (fun r M' => r = some (.int (m_tm (m_FX (I 2) (I 3) (I 4) n c rs rv (I 1) a) x (2 ^ n)).2) ∧ ∃ I3 R3, M' = (I3, ti_wl J 7 0 (m_tm (m_FX (I 2) (I 3) (I 4) n c rs rv (I 1) a) x (2 ^ n)).1.toInt64, R3) ∧ sM (ti_wr (ti_wr I 0 12 0) 0 11 (nI 1)) R I3 R3) := by
  have hn := hA.1
  have hn8 := hA.2.1
  have hc12 := hA.2.2.2.1
  have ha12 : a ≤ 12 := by omega
  have hB : mB 1 (ti_wr I 0 12 0) R d n c a rp rs rv := hA.w.b1 ha ha12
  have hp := p256 hn8
  obtain ⟨nw, hw⟩ : ∃ nw, nw = 2 ^ n := ⟨_, rfl⟩
  have hw0 : 1 ≤ nw := hw ▸ Nat.one_le_two_pow
  rw [← hw] at hp
  have loop : ∀ (k b : Nat) (m l : Int32) (I2 : Nat → Nat → Int32) (R2 : Nat → Nat → Value), 1 ≤ b → b ≤ nw → nw - b < k → m = (m_tm (m_FX (I 2) (I 3) (I 4) n c rs rv (I 1) a) x b).1 → l = (m_tm (m_FX (I 2) (I 3) (I 4) n c rs rv (I 1) a) x b).2 → sM (ti_wr I 0 12 0) R I2 R2 → Ev lyM (d + 96) hX12_team 35 [some (.ref 0), some (.int x), some (.int m), some (.int l), some (.int (nI b))] [] (I2, J, R2) (fun r M' => r = some (.int (m_tm (m_FX (I 2) (I 3) (I 4) n c rs rv (I 1) a) x (2 ^ n)).2) ∧ ∃ I3 R3, M' = (I3, ti_wl J 7 0 (m_tm (m_FX (I 2) (I 3) (I 4) n c rs rv (I 1) a) x (2 ^ n)).1.toInt64, R3) ∧ sM (ti_wr (ti_wr I 0 12 0) 0 11 (nI 1)) R I3 R3) := by
    intro k
    induction k with
    | zero => intro b m l  I2 R2 h0 h1 h2; omega
    | succ k ih =>
      intro b m l  I2 R2 hb1 hb hk hm hl hs2
      refine ev_st dX12_team_35 rfl rfl ?_
      refine ev_iconst (v := 1) dX12_team_37 (by decide) ?_
      refine ev_st dX12_team_38 rfl rfl ?_
      refine ev_getI (v := nI n) dX12_team_39 fr_12_95 rfl rfl ((hs2.f 3 rfl).trans hn) ?_
      refine ev_ishlN (c := nw) dX12_team_42 (hw ▸ sh1 n hn8) ?_
      refine ev_ic_geN (t := 92) (a := b) (b := nw) dX12_team_43 (by decide) rfl rfl (by omega) (by omega) (fun c_43 => ?_) (fun c_43 => ?_)
      · refine ev_st dX12_team_92 rfl rfl ?_
        refine ev_iconst (v := 0) dX12_team_93 (by decide) ?_
        refine ev_putI dX12_team_94 fr_12_92 rfl rfl ?_
        refine ev_st dX12_team_97 rfl rfl ?_
        refine ev_st dX12_team_98 rfl rfl ?_
        refine ev_st dX12_team_99 rfl rfl ?_
        refine ev_call dX12_team_100 rfl rfl mr_12_253 rfl rfl rfl (c_tell (m := 0) rfl (by decide) m.toInt64) ?_
        rintro _ _ ⟨rfl, rfl⟩
        show Ev lyM (d + 96) hX12_team 103 [some (.ref 0), some (.int x), some (.int m), some (.int l), some (.int (nI b))] [] (ti_wr (ti_wr I2 0 11 0) 0 11 (nI 1), ti_wl J 7 0 m.toInt64, R2) _
        refine ev_st dX12_team_103 rfl rfl ?_
        exact ev_iret dX12_team_104 rfl (by subst hm; subst hl; rw [show b = 2 ^ n by omega]; exact ⟨rfl, _, _, rfl, by simpa only [ti_wr2] using hs2.wr 0 11 (nI 1)⟩)
      · refine ev_st dX12_team_46 rfl rfl ?_
        refine ev_call dX12_team_48 rfl rfl mr_12_214 rfl rfl rfl (c_bc (nI b)) ?_
        rintro _ _ ⟨rfl, rfl⟩
        show Ev lyM (d + 96) hX12_team 51 [some (.ref 0), some (.int x), some (.int m), some (.int l), some (.int (nI b))] [.int (bc (nI b))] (I2, J, R2) _
        refine ev_st dX12_team_51 rfl rfl ?_
        refine ev_ic_ne (t := 86) (x := bc (nI b)) (y := x) dX12_team_52 (by decide) (fun c_52 => ?_) (fun c_52 => ?_)
        · refine ev_iincN (a := b) (b := b + 1) (L' := [some (.ref 0), some (.int x), some (.int m), some (.int l), some (.int (nI (b + 1)))]) dX12_team_86 rfl (nI_1 _) rfl ?_
          refine ev_goto (t := 35) dX12_team_89 (by decide) ?_
          exact ih _ _ _ _ _ (by omega) (by omega) (by omega) (by simp [m_tm, show ¬ b = 0 by omega, hm, ← hl, c_52]) (by simp [m_tm, show ¬ b = 0 by omega, ← hl, c_52]) hs2
        · refine ev_st dX12_team_55 rfl rfl ?_
          refine ev_st dX12_team_56 rfl rfl ?_
          refine ev_getC dX12_team_57 fr_12_9 rfl rfl ?_
          refine ev_st dX12_team_60 rfl rfl ?_
          refine ev_call dX12_team_62 rfl rfl mr_12_230 rfl rfl rfl (Cal.mono (by omega) (c_forceOf (J := J) hB hs2 (nI b))) ?_
          rintro _ _ ⟨rfl, I3, R3, rfl, hs3⟩
          show Ev lyM (d + 96) hX12_team 65 [some (.ref 0), some (.int x), some (.int m), some (.int l), some (.int (nI b))] [.int (m_FX (I 2) (I 3) (I 4) n c rs rv (I 1) a (nI b))] (I3, J, R3) _
          refine ev_st dX12_team_65 rfl rfl ?_
          refine ev_ic_gt (t := 72) (x := m_FX (I 2) (I 3) (I 4) n c rs rv (I 1) a (nI b)) (y := l) dX12_team_66 (by decide) (fun c_66 => ?_) (fun c_66 => ?_)
          · refine ev_st dX12_team_72 rfl rfl ?_
            refine ev_st (L' := [some (.ref 0), some (.int x), some (.int (nI b)), some (.int l), some (.int (nI b))]) dX12_team_74 rfl rfl ?_
            refine ev_st dX12_team_75 rfl rfl ?_
            refine ev_st dX12_team_76 rfl rfl ?_
            refine ev_getC dX12_team_77 fr_12_9 rfl rfl ?_
            refine ev_st dX12_team_80 rfl rfl ?_
            refine ev_call dX12_team_82 rfl rfl mr_12_230 rfl rfl rfl (Cal.mono (by omega) (c_forceOf (J := J) hB hs3 (nI b))) ?_
            rintro _ _ ⟨rfl, I4, R4, rfl, hs4⟩
            show Ev lyM (d + 96) hX12_team 85 [some (.ref 0), some (.int x), some (.int (nI b)), some (.int l), some (.int (nI b))] [.int (m_FX (I 2) (I 3) (I 4) n c rs rv (I 1) a (nI b))] (I4, J, R4) _
            refine ev_st (L' := [some (.ref 0), some (.int x), some (.int (nI b)), some (.int (m_FX (I 2) (I 3) (I 4) n c rs rv (I 1) a (nI b))), some (.int (nI b))]) dX12_team_85 rfl rfl ?_
            refine ev_iincN (a := b) (b := b + 1) (L' := [some (.ref 0), some (.int x), some (.int (nI b)), some (.int (m_FX (I 2) (I 3) (I 4) n c rs rv (I 1) a (nI b))), some (.int (nI (b + 1)))]) dX12_team_86 rfl (nI_1 _) rfl ?_
            refine ev_goto (t := 35) dX12_team_89 (by decide) ?_
            exact ih _ _ _ _ _ (by omega) (by omega) (by omega) (by simp [m_tm, show ¬ b = 0 by omega, hm, ← hl, c_52, c_66]) (by simp [m_tm, show ¬ b = 0 by omega, ← hl, c_52, c_66]) hs4
          · refine ev_goto (t := 86) dX12_team_69 (by decide) ?_
            refine ev_iincN (a := b) (b := b + 1) (L' := [some (.ref 0), some (.int x), some (.int m), some (.int l), some (.int (nI (b + 1)))]) dX12_team_86 rfl (nI_1 _) rfl ?_
            refine ev_goto (t := 35) dX12_team_89 (by decide) ?_
            exact ih _ _ _ _ _ (by omega) (by omega) (by omega) (by simp [m_tm, show ¬ b = 0 by omega, hm, ← hl, c_52, c_66]) (by simp [m_tm, show ¬ b = 0 by omega, ← hl, c_52, c_66]) hs3
  show Ev lyM (d + 96) hX12_team 0 [some (.ref 0), some (.int x), none, none, none] [] (I, J, R) _
  refine ev_st dX12_team_0 rfl rfl ?_
  refine ev_iconst (v := 0) dX12_team_1 (by decide) ?_
  refine ev_putI dX12_team_2 fr_12_89 rfl rfl ?_
  refine ev_st dX12_team_5 rfl rfl ?_
  refine ev_iconst (v := 1) dX12_team_6 (by decide) ?_
  refine ev_bipush (v := 6) dX12_team_7 (by decide) ?_
  refine ev_call dX12_team_9 rfl rfl mr_12_98 rfl rfl rfl (c_in1 hx) ?_
  rintro _ _ ⟨rfl, rfl⟩
  show Ev lyM (d + 96) hX12_team 12 [some (.ref 0), some (.int x), none, none, none] [.int 1] (ti_wr I 0 12 0, J, R) _
  refine ev_if_ne (t := 17) dX12_team_12 (by decide) (fun _ => ?_) (fun q => absurd q (by decide))
  refine ev_st dX12_team_17 rfl rfl ?_
  refine ev_st dX12_team_18 rfl rfl ?_
  refine ev_getI (v := nI n) dX12_team_19 fr_12_95 rfl rfl hn ?_
  refine ev_ic_le (t := 28) (x := x) (y := nI n) dX12_team_22 (by decide) (fun c_22 => ?_) (fun c_22 => ?_)
  · refine ev_iconst (v := 0) dX12_team_28 (by decide) ?_
    refine ev_st (L' := [some (.ref 0), some (.int x), some (.int 0), none, none]) dX12_team_29 rfl rfl ?_
    refine ev_iconst (v := -1) dX12_team_30 (by decide) ?_
    refine ev_st (L' := [some (.ref 0), some (.int x), some (.int 0), some (.int ((-1))), none]) dX12_team_31 rfl rfl ?_
    refine ev_iconst (v := 1) dX12_team_32 (by decide) ?_
    refine ev_st (L' := [some (.ref 0), some (.int x), some (.int 0), some (.int ((-1))), some (.int 1)]) dX12_team_33 rfl rfl ?_
    exact loop (nw + 1) 1 0 (-1)  _ _ (by omega) (by omega) (by omega) rfl rfl sM.rf
  · exact absurd c_22 hn2
theorem if01b {p : Prop} [Decidable p] (h : (if p then (0 : Int32) else 1) = 0) : p := by
  by_cases q : p
  · exact q
  · rw [if_neg q] at h; exact absurd h (by decide)
theorem if01c {p : Prop} [Decidable p] (h : ¬ (if p then (0 : Int32) else 1) = 0) : ¬ p := by
  intro q; rw [if_pos q] at h; exact h rfl
theorem mA.b2 {I : Nat → Nat → Int32} {R : Nat → Nat → Value} {d n c a rp rs : Nat} {rv : RV} (h : mA I R d n c rp rs rv) (ha : I 1 24 = nI a) (h12 : a ≤ 12) (v : Int32) : mB 1 (ti_wr (ti_wr I 0 12 0) 0 11 v) R d n c a rp rs rv := by
  obtain ⟨h1, h2, h3, h4, h5, h6, h7⟩ := h
  refine ⟨h1, h2, h3, h4, ha, h12, h5, h6, ?_⟩
  have : ti_wr (ti_wr I 0 12 0) 0 11 v rp = I rp := by rcases h7.1 with rfl | rfl <;> rfl
  rw [this]; exact h7
set_option maxHeartbeats 1000000 in
theorem c_fewest {I : Nat → Nat → Int32} {J : Nat → Nat → Int64} {R : Nat → Nat → Value} {d n c a rp rs : Nat} {rv : RV} (hA : mA I R d n c rp rs rv) (ha : I 1 24 = nI a) (hac : a ≤ c) : Cal lyM (d + 96) hX12_fewest 4 [.ref 0] (I, J, R) (fun r M' => if m_fw (m_FX (I 2) (I 3) (I 4) n c rs rv (I 1) a) (m_ND (I 2) c (I 1) a) (2 ^ n) = 0 then r = some (.int (-2)) ∧ ∃ I3 R3, M' = (I3, J, R3) ∧ sM (ti_wr I 0 12 0) R I3 R3 else r = some (.int (bc (m_fw (m_FX (I 2) (I 3) (I 4) n c rs rv (I 1) a) (m_ND (I 2) c (I 1) a) (2 ^ n)))) ∧ ∃ I3 R3, M' = (I3, ti_wl (ti_wl J 7 0 (m_fw (m_FX (I 2) (I 3) (I 4) n c rs rv (I 1) a) (m_ND (I 2) c (I 1) a) (2 ^ n)).toInt64) 7 1 (m_FX (I 2) (I 3) (I 4) n c rs rv (I 1) a (m_fw (m_FX (I 2) (I 3) (I 4) n c rs rv (I 1) a) (m_ND (I 2) c (I 1) a) (2 ^ n))).toInt64, R3) ∧ sM (ti_wr (ti_wr I 0 12 0) 0 11 (nI 2)) R I3 R3) := by
  have hn := hA.1
  have hn8 := hA.2.1
  have hc12 := hA.2.2.2.1
  have ha12 : a ≤ 12 := by omega
  have hB : mB 1 (ti_wr I 0 12 0) R d n c a rp rs rv := hA.w.b1 ha ha12
  have hB1 := hA.b2 ha ha12 (nI 1)
  have hp := p256 hn8
  obtain ⟨nw, hw⟩ : ∃ nw, nw = 2 ^ n := ⟨_, rfl⟩
  have hw0 : 1 ≤ nw := hw ▸ Nat.one_le_two_pow
  rw [← hw] at hp
  have loop : ∀ (k b : Nat) (m : Int32) (z : Option Value) (I2 : Nat → Nat → Int32) (R2 : Nat → Nat → Value), 1 ≤ b → b ≤ nw → nw - b < k → m = m_fw (m_FX (I 2) (I 3) (I 4) n c rs rv (I 1) a) (m_ND (I 2) c (I 1) a) b → sM (ti_wr I 0 12 0) R I2 R2 → Ev lyM (d + 96) hX12_fewest 9 [some (.ref 0), some (.int m), some (.int (nI b)), z] [] (I2, J, R2) (fun r M' => if m_fw (m_FX (I 2) (I 3) (I 4) n c rs rv (I 1) a) (m_ND (I 2) c (I 1) a) (2 ^ n) = 0 then r = some (.int (-2)) ∧ ∃ I3 R3, M' = (I3, J, R3) ∧ sM (ti_wr I 0 12 0) R I3 R3 else r = some (.int (bc (m_fw (m_FX (I 2) (I 3) (I 4) n c rs rv (I 1) a) (m_ND (I 2) c (I 1) a) (2 ^ n)))) ∧ ∃ I3 R3, M' = (I3, ti_wl (ti_wl J 7 0 (m_fw (m_FX (I 2) (I 3) (I 4) n c rs rv (I 1) a) (m_ND (I 2) c (I 1) a) (2 ^ n)).toInt64) 7 1 (m_FX (I 2) (I 3) (I 4) n c rs rv (I 1) a (m_fw (m_FX (I 2) (I 3) (I 4) n c rs rv (I 1) a) (m_ND (I 2) c (I 1) a) (2 ^ n))).toInt64, R3) ∧ sM (ti_wr (ti_wr I 0 12 0) 0 11 (nI 2)) R I3 R3) := by
    intro k
    induction k with
    | zero => intro b m z I2 R2 h0 h1 h2; omega
    | succ k ih =>
      intro b m z I2 R2 hb1 hb hk hm hs2
      refine ev_st dX12_fewest_9 rfl rfl ?_
      refine ev_iconst (v := 1) dX12_fewest_10 (by decide) ?_
      refine ev_st dX12_fewest_11 rfl rfl ?_
      refine ev_getI (v := nI n) dX12_fewest_12 fr_12_95 rfl rfl ((hs2.f 3 rfl).trans hn) ?_
      refine ev_ishlN (c := nw) dX12_fewest_15 (hw ▸ sh1 n hn8) ?_
      refine ev_ic_geN (t := 98) (a := b) (b := nw) dX12_fewest_16 (by decide) rfl rfl (by omega) (by omega) (fun c_16 => ?_) (fun c_16 => ?_)
      · refine ev_st dX12_fewest_98 rfl rfl ?_
        refine ev_if_ne (t := 105) (x := m) dX12_fewest_99 (by decide) (fun c_99 => ?_) (fun c_99 => ?_)
        · refine ev_st dX12_fewest_105 rfl rfl ?_
          refine ev_iconst (v := 0) dX12_fewest_106 (by decide) ?_
          refine ev_putI dX12_fewest_107 fr_12_92 rfl rfl ?_
          refine ev_st dX12_fewest_110 rfl rfl ?_
          refine ev_st dX12_fewest_111 rfl rfl ?_
          refine ev_st dX12_fewest_112 rfl rfl ?_
          refine ev_call dX12_fewest_113 rfl rfl mr_12_253 rfl rfl rfl (c_tell (m := 0) rfl (by decide) m.toInt64) ?_
          rintro _ _ ⟨rfl, rfl⟩
          show Ev lyM (d + 96) hX12_fewest 116 [some (.ref 0), some (.int m), some (.int (nI b)), z] [] (ti_wr (ti_wr I2 0 11 0) 0 11 (nI 1), ti_wl J 7 0 m.toInt64, R2) _
          refine ev_st dX12_fewest_116 rfl rfl ?_
          refine ev_st dX12_fewest_117 rfl rfl ?_
          refine ev_st dX12_fewest_118 rfl rfl ?_
          refine ev_getC dX12_fewest_119 fr_12_9 rfl rfl ?_
          refine ev_st dX12_fewest_122 rfl rfl ?_
          refine ev_call dX12_fewest_123 rfl rfl mr_12_230 rfl rfl rfl (Cal.mono (by omega) (c_forceOf (J := ti_wl J 7 0 m.toInt64) (I := ti_wr (ti_wr I 0 12 0) 0 11 (nI 1)) hB1 (by simpa only [ti_wr2] using hs2.wr 0 11 (nI 1)) m)) ?_
          rintro _ _ ⟨rfl, I3, R3, rfl, hs3⟩
          show Ev lyM (d + 96) hX12_fewest 126 [some (.ref 0), some (.int m), some (.int (nI b)), z] [.int (m_FX (I 2) (I 3) (I 4) n c rs rv (I 1) a m), .ref 0] (I3, ti_wl J 7 0 m.toInt64, R3) _
          refine ev_st dX12_fewest_126 rfl rfl ?_
          refine ev_call dX12_fewest_127 rfl rfl mr_12_253 rfl rfl rfl (c_tell (m := 1) (hs3.f 11 rfl) (by decide) ((m_FX (I 2) (I 3) (I 4) n c rs rv (I 1) a m).toInt64)) ?_
          rintro _ _ ⟨rfl, rfl⟩
          show Ev lyM (d + 96) hX12_fewest 130 [some (.ref 0), some (.int m), some (.int (nI b)), z] [] (ti_wr I3 0 11 (nI 2), ti_wl (ti_wl J 7 0 m.toInt64) 7 1 ((m_FX (I 2) (I 3) (I 4) n c rs rv (I 1) a m).toInt64), R3) _
          refine ev_st dX12_fewest_130 rfl rfl ?_
          refine ev_call dX12_fewest_131 rfl rfl mr_12_214 rfl rfl rfl (c_bc m) ?_
          rintro _ _ ⟨rfl, rfl⟩
          show Ev lyM (d + 96) hX12_fewest 134 [some (.ref 0), some (.int m), some (.int (nI b)), z] [.int (bc m)] (ti_wr I3 0 11 (nI 2), ti_wl (ti_wl J 7 0 m.toInt64) 7 1 ((m_FX (I 2) (I 3) (I 4) n c rs rv (I 1) a m).toInt64), R3) _
          exact ev_iret dX12_fewest_134 rfl (by rw [show b = 2 ^ n by omega] at hm; rw [← hm, if_neg c_99]; exact ⟨rfl, _, _, rfl, by simpa only [ti_wr2] using hs3.wr 0 11 (nI 2)⟩)
        · refine ev_bipush (v := -2) dX12_fewest_102 (by decide) ?_
          exact ev_iret dX12_fewest_104 rfl (by rw [show b = 2 ^ n by omega] at hm; rw [← hm, if_pos c_99]; exact ⟨rfl, _, _, rfl, hs2⟩)
      · refine ev_st dX12_fewest_19 rfl rfl ?_
        refine ev_call dX12_fewest_20 rfl rfl mr_12_214 rfl rfl rfl (c_bc (nI b)) ?_
        rintro _ _ ⟨rfl, rfl⟩
        show Ev lyM (d + 96) hX12_fewest 23 [some (.ref 0), some (.int m), some (.int (nI b)), z] [.int (bc (nI b))] (I2, J, R2) _
        refine ev_st (L' := [some (.ref 0), some (.int m), some (.int (nI b)), some (.int (bc (nI b)))]) dX12_fewest_23 rfl rfl ?_
        refine ev_st dX12_fewest_24 rfl rfl ?_
        refine ev_bipush (v := 6) dX12_fewest_25 (by decide) ?_
        refine ev_ic_gt (t := 92) (x := bc (nI b)) (y := 6) dX12_fewest_27 (by decide) (fun c_27 => ?_) (fun c_27 => ?_)
        · refine ev_iincN (a := b) (b := b + 1) (L' := [some (.ref 0), some (.int m), some (.int (nI (b + 1))), some (.int (bc (nI b)))]) dX12_fewest_92 rfl (nI_1 _) rfl ?_
          refine ev_goto (t := 9) dX12_fewest_95 (by decide) ?_
          exact ih _ _ _ _ _ (by omega) (by omega) (by omega) (by simp [m_fw, show ¬ b = 0 by omega, ← hm, c_27]) hs2
        · refine ev_st dX12_fewest_30 rfl rfl ?_
          refine ev_st dX12_fewest_31 rfl rfl ?_
          refine ev_getC dX12_fewest_32 fr_12_9 rfl rfl ?_
          refine ev_st dX12_fewest_35 rfl rfl ?_
          refine ev_call dX12_fewest_36 rfl rfl mr_12_265 rfl rfl rfl (Cal.mono (by omega) (c_isFirm (J := J) hB hs2 (nI b))) ?_
          rintro _ _ ⟨rfl, I3, R3, rfl, hs3⟩
          show Ev lyM (d + 96) hX12_fewest 39 [some (.ref 0), some (.int m), some (.int (nI b)), some (.int (bc (nI b)))] [.int (if m_FX (I 2) (I 3) (I 4) n c rs rv (I 1) a (nI b) < m_ND (I 2) c (I 1) a then 0 else 1)] (I3, J, R3) _
          refine ev_if_eq (t := 92) (x := if m_FX (I 2) (I 3) (I 4) n c rs rv (I 1) a (nI b) < m_ND (I 2) c (I 1) a then 0 else 1) dX12_fewest_39 (by decide) (fun c_39 => ?_) (fun c_39 => ?_)
          · refine ev_iincN (a := b) (b := b + 1) (L' := [some (.ref 0), some (.int m), some (.int (nI (b + 1))), some (.int (bc (nI b)))]) dX12_fewest_92 rfl (nI_1 _) rfl ?_
            refine ev_goto (t := 9) dX12_fewest_95 (by decide) ?_
            exact ih _ _ _ _ _ (by omega) (by omega) (by omega) (by simp [m_fw, show ¬ b = 0 by omega, ← hm, c_27, (if01b c_39)]) hs3
          · refine ev_st dX12_fewest_42 rfl rfl ?_
            refine ev_if_eq (t := 57) (x := m) dX12_fewest_43 (by decide) (fun c_43 => ?_) (fun c_43 => ?_)
            · refine ev_st dX12_fewest_57 rfl rfl ?_
              refine ev_if_eq (t := 90) (x := m) dX12_fewest_58 (by decide) (fun c_58 => ?_) (fun c_58 => ?_)
              · refine ev_st dX12_fewest_90 rfl rfl ?_
                refine ev_st (L' := [some (.ref 0), some (.int (nI b)), some (.int (nI b)), some (.int (bc (nI b)))]) dX12_fewest_91 rfl rfl ?_
                refine ev_iincN (a := b) (b := b + 1) (L' := [some (.ref 0), some (.int (nI b)), some (.int (nI (b + 1))), some (.int (bc (nI b)))]) dX12_fewest_92 rfl (nI_1 _) rfl ?_
                refine ev_goto (t := 9) dX12_fewest_95 (by decide) ?_
                exact ih _ _ _ _ _ (by omega) (by omega) (by omega) (by simp [m_fw, show ¬ b = 0 by omega, ← hm, c_27, (if01c c_39), c_43, c_58]) hs3
              · exact absurd c_43 c_58
            · refine ev_st dX12_fewest_46 rfl rfl ?_
              refine ev_st dX12_fewest_47 rfl rfl ?_
              refine ev_call dX12_fewest_48 rfl rfl mr_12_214 rfl rfl rfl (c_bc m) ?_
              rintro _ _ ⟨rfl, rfl⟩
              show Ev lyM (d + 96) hX12_fewest 51 [some (.ref 0), some (.int m), some (.int (nI b)), some (.int (bc (nI b)))] [.int (bc m), .int (bc (nI b))] (I3, J, R3) _
              refine ev_ic_le (t := 57) (x := bc (nI b)) (y := bc m) dX12_fewest_51 (by decide) (fun c_51 => ?_) (fun c_51 => ?_)
              · refine ev_st dX12_fewest_57 rfl rfl ?_
                refine ev_if_eq (t := 90) (x := m) dX12_fewest_58 (by decide) (fun c_58 => ?_) (fun c_58 => ?_)
                · exact absurd c_58 c_43
                · refine ev_st dX12_fewest_61 rfl rfl ?_
                  refine ev_st dX12_fewest_62 rfl rfl ?_
                  refine ev_call dX12_fewest_63 rfl rfl mr_12_214 rfl rfl rfl (c_bc m) ?_
                  rintro _ _ ⟨rfl, rfl⟩
                  show Ev lyM (d + 96) hX12_fewest 66 [some (.ref 0), some (.int m), some (.int (nI b)), some (.int (bc (nI b)))] [.int (bc m), .int (bc (nI b))] (I3, J, R3) _
                  refine ev_ic_lt (t := 90) (x := bc (nI b)) (y := bc m) dX12_fewest_66 (by decide) (fun c_66 => ?_) (fun c_66 => ?_)
                  · refine ev_st dX12_fewest_90 rfl rfl ?_
                    refine ev_st (L' := [some (.ref 0), some (.int (nI b)), some (.int (nI b)), some (.int (bc (nI b)))]) dX12_fewest_91 rfl rfl ?_
                    refine ev_iincN (a := b) (b := b + 1) (L' := [some (.ref 0), some (.int (nI b)), some (.int (nI (b + 1))), some (.int (bc (nI b)))]) dX12_fewest_92 rfl (nI_1 _) rfl ?_
                    refine ev_goto (t := 9) dX12_fewest_95 (by decide) ?_
                    exact ih _ _ _ _ _ (by omega) (by omega) (by omega) (by simp [m_fw, show ¬ b = 0 by omega, ← hm, c_27, (if01c c_39), c_43, c_51, c_58, c_66]) hs3
                  · refine ev_st dX12_fewest_69 rfl rfl ?_
                    refine ev_st dX12_fewest_70 rfl rfl ?_
                    refine ev_getC dX12_fewest_71 fr_12_9 rfl rfl ?_
                    refine ev_st dX12_fewest_74 rfl rfl ?_
                    refine ev_call dX12_fewest_75 rfl rfl mr_12_230 rfl rfl rfl (Cal.mono (by omega) (c_forceOf (J := J) hB hs3 (nI b))) ?_
                    rintro _ _ ⟨rfl, I4, R4, rfl, hs4⟩
                    show Ev lyM (d + 96) hX12_fewest 78 [some (.ref 0), some (.int m), some (.int (nI b)), some (.int (bc (nI b)))] [.int (m_FX (I 2) (I 3) (I 4) n c rs rv (I 1) a (nI b))] (I4, J, R4) _
                    refine ev_st dX12_fewest_78 rfl rfl ?_
                    refine ev_st dX12_fewest_79 rfl rfl ?_
                    refine ev_getC dX12_fewest_80 fr_12_9 rfl rfl ?_
                    refine ev_st dX12_fewest_83 rfl rfl ?_
                    refine ev_call dX12_fewest_84 rfl rfl mr_12_230 rfl rfl rfl (Cal.mono (by omega) (c_forceOf (J := J) hB hs4 m)) ?_
                    rintro _ _ ⟨rfl, I5, R5, rfl, hs5⟩
                    show Ev lyM (d + 96) hX12_fewest 87 [some (.ref 0), some (.int m), some (.int (nI b)), some (.int (bc (nI b)))] [.int (m_FX (I 2) (I 3) (I 4) n c rs rv (I 1) a m), .int (m_FX (I 2) (I 3) (I 4) n c rs rv (I 1) a (nI b))] (I5, J, R5) _
                    refine ev_ic_le (t := 92) (x := m_FX (I 2) (I 3) (I 4) n c rs rv (I 1) a (nI b)) (y := m_FX (I 2) (I 3) (I 4) n c rs rv (I 1) a m) dX12_fewest_87 (by decide) (fun c_87 => ?_) (fun c_87 => ?_)
                    · refine ev_iincN (a := b) (b := b + 1) (L' := [some (.ref 0), some (.int m), some (.int (nI (b + 1))), some (.int (bc (nI b)))]) dX12_fewest_92 rfl (nI_1 _) rfl ?_
                      refine ev_goto (t := 9) dX12_fewest_95 (by decide) ?_
                      exact ih _ _ _ _ _ (by omega) (by omega) (by omega) (by simp [m_fw, show ¬ b = 0 by omega, ← hm, c_27, (if01c c_39), c_43, c_51, c_58, c_66, c_87]) hs5
                    · refine ev_st dX12_fewest_90 rfl rfl ?_
                      refine ev_st (L' := [some (.ref 0), some (.int (nI b)), some (.int (nI b)), some (.int (bc (nI b)))]) dX12_fewest_91 rfl rfl ?_
                      refine ev_iincN (a := b) (b := b + 1) (L' := [some (.ref 0), some (.int (nI b)), some (.int (nI (b + 1))), some (.int (bc (nI b)))]) dX12_fewest_92 rfl (nI_1 _) rfl ?_
                      refine ev_goto (t := 9) dX12_fewest_95 (by decide) ?_
                      exact ih _ _ _ _ _ (by omega) (by omega) (by omega) (by simp [m_fw, show ¬ b = 0 by omega, ← hm, c_27, (if01c c_39), c_43, c_51, c_58, c_66, c_87]) hs5
              · refine ev_goto (t := 92) dX12_fewest_54 (by decide) ?_
                refine ev_iincN (a := b) (b := b + 1) (L' := [some (.ref 0), some (.int m), some (.int (nI (b + 1))), some (.int (bc (nI b)))]) dX12_fewest_92 rfl (nI_1 _) rfl ?_
                refine ev_goto (t := 9) dX12_fewest_95 (by decide) ?_
                exact ih _ _ _ _ _ (by omega) (by omega) (by omega) (by simp [m_fw, show ¬ b = 0 by omega, ← hm, c_27, (if01c c_39), c_43, c_51]) hs3
  show Ev lyM (d + 96) hX12_fewest 0 [some (.ref 0), none, none, none] [] (I, J, R) _
  refine ev_st dX12_fewest_0 rfl rfl ?_
  refine ev_iconst (v := 0) dX12_fewest_1 (by decide) ?_
  refine ev_putI dX12_fewest_2 fr_12_89 rfl rfl ?_
  refine ev_iconst (v := 0) dX12_fewest_5 (by decide) ?_
  refine ev_st (L' := [some (.ref 0), some (.int 0), none, none]) dX12_fewest_6 rfl rfl ?_
  refine ev_iconst (v := 1) dX12_fewest_7 (by decide) ?_
  refine ev_st (L' := [some (.ref 0), some (.int 0), some (.int 1), none]) dX12_fewest_8 rfl rfl ?_
  exact loop (nw + 1) 1 0 _ _ _ (by omega) (by omega) (by omega) rfl sM.rf
def m_pr (F : Int32 → Int32) (nd x : Int32) : Nat → Int32
  | 0 => 0
  | b + 1 => m_pr F nd x b ||| (if ¬ m_has x (nI b) = 0 ∧ F (x &&& (((1 : Int32) <<< (nI b &&& 31)) ^^^ (-1))) < nd then (1 : Int32) <<< (nI b &&& 31) else 0)
set_option maxHeartbeats 1000000 in
theorem c_props {I : Nat → Nat → Int32} {J : Nat → Nat → Int64} {R : Nat → Nat → Value} {d n c a rp rs : Nat} {rv : RV} (hA : mA I R d n c rp rs rv) (ha : I 1 24 = nI a) (hac : a ≤ c) : Cal lyM (d + 96) hX12_props 4 [.ref 0] (I, J, R) (fun r M' => r = some (.int (m_pr (m_FX (I 2) (I 3) (I 4) n c rs rv (I 1) a) (m_ND (I 2) c (I 1) a) (m_cy (I 1) n) n)) ∧ ∃ I3 R3, M' = (I3, ti_wl J 7 0 (bc (m_pr (m_FX (I 2) (I 3) (I 4) n c rs rv (I 1) a) (m_ND (I 2) c (I 1) a) (m_cy (I 1) n) n)).toInt64, R3) ∧ sM (ti_wr (ti_wr I 0 12 0) 0 11 (nI 1)) R I3 R3) := by
  have hn := hA.1
  have hn8 := hA.2.1
  have hc12 := hA.2.2.2.1
  have ha12 : a ≤ 12 := by omega
  have hB : mB 1 (ti_wr I 0 12 0) R d n c a rp rs rv := hA.w.b1 ha ha12
  have loop : ∀ (k b : Nat) (m : Int32) (I2 : Nat → Nat → Int32) (R2 : Nat → Nat → Value), b ≤ n → n - b < k → m = m_pr (m_FX (I 2) (I 3) (I 4) n c rs rv (I 1) a) (m_ND (I 2) c (I 1) a) (m_cy (I 1) n) b → sM (ti_wr I 0 12 0) R I2 R2 → Ev lyM (d + 96) hX12_props 18 [some (.ref 0), some (.int (m_cy (I 1) n)), some (.int m), some (.int (nI b))] [] (I2, J, R2) (fun r M' => r = some (.int (m_pr (m_FX (I 2) (I 3) (I 4) n c rs rv (I 1) a) (m_ND (I 2) c (I 1) a) (m_cy (I 1) n) n)) ∧ ∃ I3 R3, M' = (I3, ti_wl J 7 0 (bc (m_pr (m_FX (I 2) (I 3) (I 4) n c rs rv (I 1) a) (m_ND (I 2) c (I 1) a) (m_cy (I 1) n) n)).toInt64, R3) ∧ sM (ti_wr (ti_wr I 0 12 0) 0 11 (nI 1)) R I3 R3) := by
    intro k
    induction k with
    | zero => intro b m  I2 R2 h1 h2; omega
    | succ k ih =>
      intro b m  I2 R2 hb hk hm hs2
      refine ev_st dX12_props_18 rfl rfl ?_
      refine ev_st dX12_props_19 rfl rfl ?_
      refine ev_getI (v := nI n) dX12_props_20 fr_12_95 rfl rfl ((hs2.f 3 rfl).trans hn) ?_
      refine ev_ic_geN (t := 68) (a := b) (b := n) dX12_props_23 (by decide) rfl rfl (by omega) (by omega) (fun c_23 => ?_) (fun c_23 => ?_)
      · refine ev_st dX12_props_68 rfl rfl ?_
        refine ev_iconst (v := 0) dX12_props_69 (by decide) ?_
        refine ev_putI dX12_props_70 fr_12_92 rfl rfl ?_
        refine ev_st dX12_props_73 rfl rfl ?_
        refine ev_st dX12_props_74 rfl rfl ?_
        refine ev_call dX12_props_75 rfl rfl mr_12_214 rfl rfl rfl (c_bc m) ?_
        rintro _ _ ⟨rfl, rfl⟩
        show Ev lyM (d + 96) hX12_props 78 [some (.ref 0), some (.int (m_cy (I 1) n)), some (.int m), some (.int (nI b))] [.int (bc m), .ref 0] (ti_wr I2 0 11 0, J, R2) _
        refine ev_st dX12_props_78 rfl rfl ?_
        refine ev_call dX12_props_79 rfl rfl mr_12_253 rfl rfl rfl (c_tell (m := 0) rfl (by decide) ((bc m).toInt64)) ?_
        rintro _ _ ⟨rfl, rfl⟩
        show Ev lyM (d + 96) hX12_props 82 [some (.ref 0), some (.int (m_cy (I 1) n)), some (.int m), some (.int (nI b))] [] (ti_wr (ti_wr I2 0 11 0) 0 11 (nI 1), ti_wl J 7 0 ((bc m).toInt64), R2) _
        refine ev_st dX12_props_82 rfl rfl ?_
        exact ev_iret dX12_props_83 rfl (by subst hm; rw [show b = n by omega]; exact ⟨rfl, _, _, rfl, by simpa only [ti_wr2] using hs2.wr 0 11 (nI 1)⟩)
      · refine ev_st dX12_props_26 rfl rfl ?_
        refine ev_st dX12_props_27 rfl rfl ?_
        refine ev_st dX12_props_28 rfl rfl ?_
        refine ev_call dX12_props_29 rfl rfl mr_12_201 rfl rfl rfl (c_has (m_cy (I 1) n) (nI b)) ?_
        rintro _ _ ⟨rfl, rfl⟩
        show Ev lyM (d + 96) hX12_props 32 [some (.ref 0), some (.int (m_cy (I 1) n)), some (.int m), some (.int (nI b))] [.int (m_has (m_cy (I 1) n) (nI b)), .int m] (I2, J, R2) _
        refine ev_if_eq (t := 59) (x := m_has (m_cy (I 1) n) (nI b)) dX12_props_32 (by decide) (fun c_32 => ?_) (fun c_32 => ?_)
        · refine ev_iconst (v := 0) dX12_props_59 (by decide) ?_
          refine ev_st dX12_props_60 rfl rfl ?_
          refine ev_st (L' := [some (.ref 0), some (.int (m_cy (I 1) n)), some (.int (m ||| 0)), some (.int (nI b))]) dX12_props_61 rfl rfl ?_
          refine ev_iincN (a := b) (b := b + 1) (L' := [some (.ref 0), some (.int (m_cy (I 1) n)), some (.int (m ||| 0)), some (.int (nI (b + 1)))]) dX12_props_62 rfl (nI_1 _) rfl ?_
          refine ev_goto (t := 18) dX12_props_65 (by decide) ?_
          exact ih _ _ _ _ (by omega) (by omega) (by simp only [m_pr, ← hm]; rw [if_neg (fun q => q.1 c_32)]) hs2
        · refine ev_st dX12_props_35 rfl rfl ?_
          refine ev_st dX12_props_36 rfl rfl ?_
          refine ev_getC dX12_props_37 fr_12_9 rfl rfl ?_
          refine ev_st dX12_props_40 rfl rfl ?_
          refine ev_iconst (v := 1) dX12_props_41 (by decide) ?_
          refine ev_st dX12_props_42 rfl rfl ?_
          refine ev_st dX12_props_43 rfl rfl ?_
          refine ev_iconst (v := -1) dX12_props_44 (by decide) ?_
          refine ev_st dX12_props_45 rfl rfl ?_
          refine ev_st dX12_props_46 rfl rfl ?_
          refine ev_call dX12_props_47 rfl rfl mr_12_265 rfl rfl rfl (Cal.mono (by omega) (c_isFirm (J := J) hB hs2 ((m_cy (I 1) n) &&& (((1 : Int32) <<< ((nI b) &&& 31)) ^^^ ((-1)))))) ?_
          rintro _ _ ⟨rfl, I3, R3, rfl, hs3⟩
          show Ev lyM (d + 96) hX12_props 50 [some (.ref 0), some (.int (m_cy (I 1) n)), some (.int m), some (.int (nI b))] [.int (if m_FX (I 2) (I 3) (I 4) n c rs rv (I 1) a ((m_cy (I 1) n) &&& (((1 : Int32) <<< ((nI b) &&& 31)) ^^^ ((-1)))) < m_ND (I 2) c (I 1) a then 0 else 1), .int m] (I3, J, R3) _
          refine ev_if_ne (t := 59) (x := if m_FX (I 2) (I 3) (I 4) n c rs rv (I 1) a ((m_cy (I 1) n) &&& (((1 : Int32) <<< ((nI b) &&& 31)) ^^^ ((-1)))) < m_ND (I 2) c (I 1) a then 0 else 1) dX12_props_50 (by decide) (fun c_50 => ?_) (fun c_50 => ?_)
          · refine ev_iconst (v := 0) dX12_props_59 (by decide) ?_
            refine ev_st dX12_props_60 rfl rfl ?_
            refine ev_st (L' := [some (.ref 0), some (.int (m_cy (I 1) n)), some (.int (m ||| 0)), some (.int (nI b))]) dX12_props_61 rfl rfl ?_
            refine ev_iincN (a := b) (b := b + 1) (L' := [some (.ref 0), some (.int (m_cy (I 1) n)), some (.int (m ||| 0)), some (.int (nI (b + 1)))]) dX12_props_62 rfl (nI_1 _) rfl ?_
            refine ev_goto (t := 18) dX12_props_65 (by decide) ?_
            exact ih _ _ _ _ (by omega) (by omega) (by simp only [m_pr, ← hm]; rw [if_neg (fun q => (if01c c_50) q.2)]) hs3
          · refine ev_iconst (v := 1) dX12_props_53 (by decide) ?_
            refine ev_st dX12_props_54 rfl rfl ?_
            refine ev_st dX12_props_55 rfl rfl ?_
            refine ev_goto (t := 60) dX12_props_56 (by decide) ?_
            refine ev_st dX12_props_60 rfl rfl ?_
            refine ev_st (L' := [some (.ref 0), some (.int (m_cy (I 1) n)), some (.int (m ||| ((1 : Int32) <<< ((nI b) &&& 31)))), some (.int (nI b))]) dX12_props_61 rfl rfl ?_
            refine ev_iincN (a := b) (b := b + 1) (L' := [some (.ref 0), some (.int (m_cy (I 1) n)), some (.int (m ||| ((1 : Int32) <<< ((nI b) &&& 31)))), some (.int (nI (b + 1)))]) dX12_props_62 rfl (nI_1 _) rfl ?_
            refine ev_goto (t := 18) dX12_props_65 (by decide) ?_
            exact ih _ _ _ _ (by omega) (by omega) (by simp only [m_pr, ← hm]; rw [if_pos ⟨c_32, (if01b c_50)⟩]) hs3
  show Ev lyM (d + 96) hX12_props 0 [some (.ref 0), none, none, none] [] (I, J, R) _
  refine ev_st dX12_props_0 rfl rfl ?_
  refine ev_iconst (v := 0) dX12_props_1 (by decide) ?_
  refine ev_putI dX12_props_2 fr_12_89 rfl rfl ?_
  refine ev_st dX12_props_5 rfl rfl ?_
  refine ev_st dX12_props_6 rfl rfl ?_
  refine ev_getC dX12_props_7 fr_12_9 rfl rfl ?_
  refine ev_call dX12_props_10 rfl rfl mr_12_244 rfl rfl rfl (c_carry (I := ti_wr I 0 12 0) hn hn8) ?_
  rintro _ _ ⟨rfl, rfl⟩
  show Ev lyM (d + 96) hX12_props 13 [some (.ref 0), none, none, none] [.int (m_cy (I 1) n)] (ti_wr I 0 12 0, J, R) _
  refine ev_st (L' := [some (.ref 0), some (.int (m_cy (I 1) n)), none, none]) dX12_props_13 rfl rfl ?_
  refine ev_iconst (v := 0) dX12_props_14 (by decide) ?_
  refine ev_st (L' := [some (.ref 0), some (.int (m_cy (I 1) n)), some (.int 0), none]) dX12_props_15 rfl rfl ?_
  refine ev_iconst (v := 0) dX12_props_16 (by decide) ?_
  refine ev_st (L' := [some (.ref 0), some (.int (m_cy (I 1) n)), some (.int 0), some (.int 0)]) dX12_props_17 rfl rfl ?_
  exact loop (n + 1) 0 0  _ _ (by omega) (by omega) rfl sM.rf
set_option maxHeartbeats 1000000 in
theorem c_force {I : Nat → Nat → Int32} {J : Nat → Nat → Int64} {R : Nat → Nat → Value} {d n c a rp rs : Nat} {rv : RV} (hA : mA I R d n c rp rs rv) (ha : I 1 24 = nI a) (hac : a ≤ c) : Cal lyM (d + 96) hX12_force 1 [.ref 0] (I, J, R) (fun r M' => r = some (.int (m_FX (I 2) (I 3) (I 4) n c rs rv (I 1) a (m_cy (I 1) n))) ∧ ∃ I3 R3, M' = (I3, ti_wl (ti_wl J 7 0 (m_ND (I 2) c (I 1) a).toInt64) 7 1 (bc (m_cy (I 1) n)).toInt64, R3) ∧ sM (ti_wr (ti_wr I 0 12 0) 0 11 (nI 2)) R I3 R3) := by
  have hn := hA.1
  have hn8 := hA.2.1
  have hc12 := hA.2.2.2.1
  have ha12 : a ≤ 12 := by omega
  have hB : mB 1 (ti_wr I 0 12 0) R d n c a rp rs rv := hA.w.b1 ha ha12
  show Ev lyM (d + 96) hX12_force 0 [some (.ref 0)] [] (I, J, R) _
  refine ev_st dX12_force_0 rfl rfl ?_
  refine ev_iconst (v := 0) dX12_force_1 (by decide) ?_
  refine ev_putI dX12_force_2 fr_12_89 rfl rfl ?_
  refine ev_st dX12_force_5 rfl rfl ?_
  refine ev_iconst (v := 0) dX12_force_6 (by decide) ?_
  refine ev_putI dX12_force_7 fr_12_92 rfl rfl ?_
  refine ev_st dX12_force_10 rfl rfl ?_
  refine ev_st dX12_force_11 rfl rfl ?_
  refine ev_st dX12_force_12 rfl rfl ?_
  refine ev_getC dX12_force_13 fr_12_9 rfl rfl ?_
  refine ev_call dX12_force_16 rfl rfl mr_12_234 rfl rfl rfl (c_needed0 (I := ti_wr (ti_wr I 0 12 0) 0 11 0) (hA.b2 ha ha12 0) sM.rf) ?_
  rintro _ _ ⟨rfl, rfl⟩
  show Ev lyM (d + 96) hX12_force 19 [some (.ref 0)] [.int (m_ND (I 2) c (I 1) a), .ref 0] (ti_wr (ti_wr I 0 12 0) 0 11 0, J, R) _
  refine ev_st dX12_force_19 rfl rfl ?_
  refine ev_call dX12_force_20 rfl rfl mr_12_253 rfl rfl rfl (c_tell (m := 0) rfl (by decide) ((m_ND (I 2) c (I 1) a).toInt64)) ?_
  rintro _ _ ⟨rfl, rfl⟩
  show Ev lyM (d + 96) hX12_force 23 [some (.ref 0)] [] (ti_wr (ti_wr (ti_wr I 0 12 0) 0 11 0) 0 11 (nI 1), ti_wl J 7 0 ((m_ND (I 2) c (I 1) a).toInt64), R) _
  refine ev_st dX12_force_23 rfl rfl ?_
  refine ev_st dX12_force_24 rfl rfl ?_
  refine ev_st dX12_force_25 rfl rfl ?_
  refine ev_getC dX12_force_26 fr_12_9 rfl rfl ?_
  refine ev_call dX12_force_29 rfl rfl mr_12_244 rfl rfl rfl (c_carry (I := ti_wr (ti_wr (ti_wr I 0 12 0) 0 11 0) 0 11 (nI 1)) hn hn8) ?_
  rintro _ _ ⟨rfl, rfl⟩
  show Ev lyM (d + 96) hX12_force 32 [some (.ref 0)] [.int (m_cy (I 1) n), .ref 0] (ti_wr (ti_wr (ti_wr I 0 12 0) 0 11 0) 0 11 (nI 1), ti_wl J 7 0 ((m_ND (I 2) c (I 1) a).toInt64), R) _
  refine ev_call dX12_force_32 rfl rfl mr_12_214 rfl rfl rfl (c_bc (m_cy (I 1) n)) ?_
  rintro _ _ ⟨rfl, rfl⟩
  show Ev lyM (d + 96) hX12_force 35 [some (.ref 0)] [.int (bc (m_cy (I 1) n)), .ref 0] (ti_wr (ti_wr (ti_wr I 0 12 0) 0 11 0) 0 11 (nI 1), ti_wl J 7 0 ((m_ND (I 2) c (I 1) a).toInt64), R) _
  refine ev_st dX12_force_35 rfl rfl ?_
  refine ev_call dX12_force_36 rfl rfl mr_12_253 rfl rfl rfl (c_tell (m := 1) rfl (by decide) ((bc (m_cy (I 1) n)).toInt64)) ?_
  rintro _ _ ⟨rfl, rfl⟩
  show Ev lyM (d + 96) hX12_force 39 [some (.ref 0)] [] (ti_wr (ti_wr (ti_wr (ti_wr I 0 12 0) 0 11 0) 0 11 (nI 1)) 0 11 (nI 2), ti_wl (ti_wl J 7 0 ((m_ND (I 2) c (I 1) a).toInt64)) 7 1 ((bc (m_cy (I 1) n)).toInt64), R) _
  refine ev_st dX12_force_39 rfl rfl ?_
  refine ev_st dX12_force_40 rfl rfl ?_
  refine ev_getC dX12_force_41 fr_12_9 rfl rfl ?_
  refine ev_st dX12_force_44 rfl rfl ?_
  refine ev_st dX12_force_45 rfl rfl ?_
  refine ev_getC dX12_force_46 fr_12_9 rfl rfl ?_
  refine ev_call dX12_force_49 rfl rfl mr_12_244 rfl rfl rfl (c_carry (I := ti_wr (ti_wr (ti_wr (ti_wr I 0 12 0) 0 11 0) 0 11 (nI 1)) 0 11 (nI 2)) hn hn8) ?_
  rintro _ _ ⟨rfl, rfl⟩
  show Ev lyM (d + 96) hX12_force 52 [some (.ref 0)] [.int (m_cy (I 1) n), .ref 1, .ref 0] (ti_wr (ti_wr (ti_wr (ti_wr I 0 12 0) 0 11 0) 0 11 (nI 1)) 0 11 (nI 2), ti_wl (ti_wl J 7 0 ((m_ND (I 2) c (I 1) a).toInt64)) 7 1 ((bc (m_cy (I 1) n)).toInt64), R) _
  refine ev_call dX12_force_52 rfl rfl mr_12_230 rfl rfl rfl (Cal.mono (by omega) (c_forceOf (I := ti_wr (ti_wr I 0 12 0) 0 11 (nI 2)) (hA.b2 ha ha12 (nI 2)) (by simp only [ti_wr2]; exact sM.rf) (m_cy (I 1) n))) ?_
  rintro _ _ ⟨rfl, I3, R3, rfl, hs3⟩
  show Ev lyM (d + 96) hX12_force 55 [some (.ref 0)] [.int (m_FX (I 2) (I 3) (I 4) n c rs rv (I 1) a (m_cy (I 1) n))] (I3, ti_wl (ti_wl J 7 0 ((m_ND (I 2) c (I 1) a).toInt64)) 7 1 ((bc (m_cy (I 1) n)).toInt64), R3) _
  exact ev_iret dX12_force_55 rfl (⟨rfl, _, _, rfl, hs3⟩)
