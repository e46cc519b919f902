/-! the class: bids at rest; counts, rows, bearers, sayings, sheets -/
/-- the row while bids are sought -/
def rsR (t : Nat × Nat × Nat) (I2 : Nat → Nat → Int32) (J2 : Nat → Nat → Int64) : Prop := tC (if t.1 = 0 then [] else [(nI t.2.1).toInt64, (nI t.2.2).toInt64]) I2 J2
theorem b2i_1 {b : Bool} (h : ¬ b2i b = 0) : b = true := b2i_ne h
theorem rI_le {v : Int32} {x : Nat} {t : Nat × Nat × Nat} : ∀ y, (m_rI v x t y).1 ≤ t.1 + y
  | 0 => Nat.le_refl _
  | y + 1 => by
    have := rI_le (v := v) (x := x) (t := t) y
    simp only [m_rI, m_r1]
    split
    · show (m_rI v x t y).1 + 1 ≤ _; omega
    · omega
theorem rO_le {v : Int32} : ∀ x, (m_rO v x).1 ≤ 10 * x
  | 0 => Nat.le_refl _
  | x + 1 => by
    have := rO_le (v := v) x
    have h2 := rI_le (v := v) (x := x) (t := m_rO v x) 10
    simp only [m_rO]
    omega
theorem k_rests0 {I : Nat → Nat → Int32} {J : Nat → Nat → Int64} {R : Nat → Nat → Value} {d : Nat} {x : Int32} (hx : m_in x 0 20 = 0) : Cal lyC (d + 3) hX11_rests 5 [.ref 0, .int x] (I, J, R) (fun r M' => r = some (.int (-1)) ∧ M' = (I, J, R)) := by
  show Ev lyC (d + 3) hX11_rests 0 [some (.ref 0), some (.int x), none, none, none] [] (I, J, R) _
  refine ev_st dX11_rests_0 rfl rfl ?_
  refine ev_if_lt (t := 10) (x := x) dX11_rests_1 (by decide) (fun c_1 => ?_) (fun c_1 => ?_)
  · refine ev_iconst (v := -1) dX11_rests_10 (by decide) ?_
    exact ev_iret dX11_rests_11 rfl (⟨rfl, rfl⟩)
  · refine ev_st dX11_rests_4 rfl rfl ?_
    refine ev_bipush (v := 20) dX11_rests_5 (by decide) ?_
    refine ev_ic_le (t := 12) (x := x) (y := 20) dX11_rests_7 (by decide) (fun c_7 => ?_) (fun c_7 => ?_)
    · exact absurd hx (by simp [m_in, c_1, c_7])
    · refine ev_iconst (v := -1) dX11_rests_10 (by decide) ?_
      exact ev_iret dX11_rests_11 rfl (⟨rfl, rfl⟩)
set_option maxHeartbeats 1000000 in
theorem k_rests {I : Nat → Nat → Int32} {J : Nat → Nat → Int64} {R : Nat → Nat → Value} {d : Nat} {x : Int32} (hx : m_in x 0 20 = 1) : Cal lyC (d + 3) hX11_rests 5 [.ref 0, .int x] (I, J, R) (fun r M' => r = some (.int (nI (m_rO x 10).1)) ∧ ∃ I3 J3, M' = (I3, J3, R) ∧ fC I I3 ∧ rsR (m_rO x 10) I3 J3) := by
  have loop : ∀ (k u : Nat) (t : Nat × Nat × Nat) (z : Option Value) (I2 : Nat → Nat → Int32) (J2 : Nat → Nat → Int64), u ≤ 10 → 10 - u < k → t = m_rO x u → fC I I2 → rsR t I2 J2 → Ev lyC (d + 3) hX11_rests 23 [some (.ref 0), some (.int x), some (.int (nI t.1)), some (.int (nI u)), z] [] (I2, J2, R) (fun r M' => r = some (.int (nI (m_rO x 10).1)) ∧ ∃ I3 J3, M' = (I3, J3, R) ∧ fC I I3 ∧ rsR (m_rO x 10) I3 J3) := by
    intro k
    induction k with
    | zero => intro u t z I2 J2 h1 h2; omega
    | succ k ih =>
      intro u t z I2 J2 hu hk ht0 hs2 hq
      have inner : u < 10 → ∀ (k2 b : Nat) (t : Nat × Nat × Nat) (I2 : Nat → Nat → Int32) (J2 : Nat → Nat → Int64), b ≤ 10 → 10 - b < k2 → t = m_rI x u (m_rO x u) b → fC I I2 → rsR t I2 J2 → Ev lyC (d + 3) hX11_rests 32 [some (.ref 0), some (.int x), some (.int (nI t.1)), some (.int (nI u)), some (.int (nI b))] [] (I2, J2, R) (fun r M' => r = some (.int (nI (m_rO x 10).1)) ∧ ∃ I3 J3, M' = (I3, J3, R) ∧ fC I I3 ∧ rsR (m_rO x 10) I3 J3) := by
        intro huc k2
        induction k2 with
        | zero => intro b t I2 J2 h1 h2; omega
        | succ k2 ih2 =>
          intro b t I2 J2 hb hk2 ht hs2 hq
          have htl : t.1 ≤ 110 := by have h1 := rI_le (v := x) (x := u) (t := m_rO x u) b; have h2 := rO_le (v := x) u; rw [ht]; omega
          refine ev_st dX11_rests_32 rfl rfl ?_
          refine ev_bipush (v := 9) dX11_rests_34 (by decide) ?_
          refine ev_ic_gtN (t := 84) (a := b) (b := 9) dX11_rests_36 (by decide) rfl rfl (by omega) (by omega) (fun c_36 => ?_) (fun c_36 => ?_)
          · refine ev_iincN (a := u) (b := u + 1) (L' := [some (.ref 0), some (.int x), some (.int (nI t.1)), some (.int (nI (u + 1))), some (.int (nI b))]) dX11_rests_84 rfl (nI_1 _) rfl ?_
            refine ev_goto (t := 23) dX11_rests_87 (by decide) ?_
            exact ih _ t _ _ _ (by omega) (by omega) (by rw [m_rO]; rw [show b = 10 by omega] at ht; exact ht) hs2 hq
          · refine ev_st dX11_rests_39 rfl rfl ?_
            refine ev_st dX11_rests_40 rfl rfl ?_
            refine ev_st dX11_rests_42 rfl rfl ?_
            refine ev_call dX11_rests_43 rfl rfl mr_11_382 rfl rfl rfl (k_isBestBid (I := I2) (J := J2) (nI u) (nI b) x) ?_
            rintro _ _ ⟨rfl, rfl⟩
            show Ev lyC (d + 3) hX11_rests 46 [some (.ref 0), some (.int x), some (.int (nI t.1)), some (.int (nI u)), some (.int (nI b))] [.int (b2i (m_ib (nI u) (nI b) x))] (I2, J2, R) _
            refine ev_if_eq (t := 78) (x := b2i (m_ib (nI u) (nI b) x)) dX11_rests_46 (by decide) (fun c_46 => ?_) (fun c_46 => ?_)
            · refine ev_iincN (a := b) (b := b + 1) (L' := [some (.ref 0), some (.int x), some (.int (nI t.1)), some (.int (nI u)), some (.int (nI (b + 1)))]) dX11_rests_78 rfl (nI_1 _) rfl ?_
              refine ev_goto (t := 32) dX11_rests_81 (by decide) ?_
              have e : m_r1 x u t b = t := by rw [m_r1, if_neg (by simp [m_rp, b2i0.mp c_46])]
              exact ih2 _ t _ _ (by omega) (by omega) (by rw [m_rI, ← ht, e]) hs2 hq
            · refine ev_st dX11_rests_49 rfl rfl ?_
              refine ev_st dX11_rests_51 rfl rfl ?_
              refine ev_st dX11_rests_52 rfl rfl ?_
              refine ev_call dX11_rests_53 rfl rfl mr_11_382 rfl rfl rfl (k_isBestBid (I := I2) (J := J2) (nI b) (nI u) x) ?_
              rintro _ _ ⟨rfl, rfl⟩
              show Ev lyC (d + 3) hX11_rests 56 [some (.ref 0), some (.int x), some (.int (nI t.1)), some (.int (nI u)), some (.int (nI b))] [.int (b2i (m_ib (nI b) (nI u) x))] (I2, J2, R) _
              refine ev_if_eq (t := 78) (x := b2i (m_ib (nI b) (nI u) x)) dX11_rests_56 (by decide) (fun c_56 => ?_) (fun c_56 => ?_)
              · refine ev_iincN (a := b) (b := b + 1) (L' := [some (.ref 0), some (.int x), some (.int (nI t.1)), some (.int (nI u)), some (.int (nI (b + 1)))]) dX11_rests_78 rfl (nI_1 _) rfl ?_
                refine ev_goto (t := 32) dX11_rests_81 (by decide) ?_
                have e : m_r1 x u t b = t := by rw [m_r1, if_neg (by simp [m_rp, b2i0.mp c_56])]
                exact ih2 _ t _ _ (by omega) (by omega) (by rw [m_rI, ← ht, e]) hs2 hq
              · refine ev_st dX11_rests_59 rfl rfl ?_
                refine ev_if_neN (t := 75) (a := t.1) dX11_rests_60 (by decide) rfl (by omega) (fun c_60 => ?_) (fun c_60 => ?_)
                · refine ev_iincN (a := t.1) (b := t.1 + 1) (L' := [some (.ref 0), some (.int x), some (.int (nI (t.1 + 1))), some (.int (nI u)), some (.int (nI b))]) dX11_rests_75 rfl (nI_1 _) rfl ?_
                  refine ev_iincN (a := b) (b := b + 1) (L' := [some (.ref 0), some (.int x), some (.int (nI (t.1 + 1))), some (.int (nI u)), some (.int (nI (b + 1)))]) dX11_rests_78 rfl (nI_1 _) rfl ?_
                  refine ev_goto (t := 32) dX11_rests_81 (by decide) ?_
                  have e : m_r1 x u t b = (t.1 + 1, t.2) := by rw [m_r1, if_pos (by simp [m_rp, b2i_1 c_46, b2i_1 c_56]), if_neg c_60]
                  exact ih2 _ (t.1 + 1, t.2) _ _ (by omega) (by omega) (by rw [m_rI, ← ht, e]) hs2 (by rw [rsR, if_neg c_60] at hq; exact hq)
                · refine ev_st dX11_rests_63 rfl rfl ?_
                  refine ev_getC dX11_rests_64 fr_11_19 rfl rfl ?_
                  refine ev_st dX11_rests_67 rfl rfl ?_
                  refine ev_st dX11_rests_68 rfl rfl ?_
                  refine ev_st dX11_rests_69 rfl rfl ?_
                  refine ev_st dX11_rests_71 rfl rfl ?_
                  refine ev_call dX11_rests_72 rfl rfl mr_11_205 rfl rfl rfl (k_tell2 ((nI u).toInt64) ((nI b).toInt64)) ?_
                  rintro _ _ ⟨rfl, rfl⟩
                  show Ev lyC (d + 3) hX11_rests 75 [some (.ref 0), some (.int x), some (.int (nI t.1)), some (.int (nI u)), some (.int (nI b))] [] (ti_wr I2 3 1 (nI 2), ti_wl (ti_wl J2 4 0 ((nI u).toInt64)) 4 1 ((nI b).toInt64), R) _
                  refine ev_iincN (a := t.1) (b := t.1 + 1) (L' := [some (.ref 0), some (.int x), some (.int (nI (t.1 + 1))), some (.int (nI u)), some (.int (nI b))]) dX11_rests_75 rfl (nI_1 _) rfl ?_
                  refine ev_iincN (a := b) (b := b + 1) (L' := [some (.ref 0), some (.int x), some (.int (nI (t.1 + 1))), some (.int (nI u)), some (.int (nI (b + 1)))]) dX11_rests_78 rfl (nI_1 _) rfl ?_
                  refine ev_goto (t := 32) dX11_rests_81 (by decide) ?_
                  have e : m_r1 x u t b = (t.1 + 1, (u, b)) := by rw [m_r1, if_pos (by simp [m_rp, b2i_1 c_46, b2i_1 c_56]), if_pos c_60]
                  exact ih2 _ (t.1 + 1, (u, b)) _ _ (by omega) (by omega) (by rw [m_rI, ← ht, e]) (hs2.w (p := 3) (k := 1) rfl _) (tC2 rfl rfl rfl)
      refine ev_st dX11_rests_23 rfl rfl ?_
      refine ev_bipush (v := 9) dX11_rests_24 (by decide) ?_
      refine ev_ic_gtN (t := 90) (a := u) (b := 9) dX11_rests_26 (by decide) rfl rfl (by omega) (by omega) (fun c_26 => ?_) (fun c_26 => ?_)
      · refine ev_st dX11_rests_90 rfl rfl ?_
        exact ev_iret dX11_rests_91 rfl (by rw [show u = 10 by omega] at ht0; rw [← ht0]; exact ⟨rfl, _, _, rfl, hs2, hq⟩)
      · refine ev_iconst (v := 0) dX11_rests_29 (by decide) ?_
        refine ev_st (L' := [some (.ref 0), some (.int x), some (.int (nI t.1)), some (.int (nI u)), some (.int 0)]) dX11_rests_30 rfl rfl ?_
        exact inner (by omega) 11 0 t _ _ (by omega) (by omega) (by rw [ht0]; rfl) hs2 hq
  show Ev lyC (d + 3) hX11_rests 0 [some (.ref 0), some (.int x), none, none, none] [] (I, J, R) _
  refine ev_st dX11_rests_0 rfl rfl ?_
  refine ev_if_lt (t := 10) (x := x) dX11_rests_1 (by decide) (fun c_1 => ?_) (fun c_1 => ?_)
  · exact absurd hx (by simp [m_in, c_1])
  · refine ev_st dX11_rests_4 rfl rfl ?_
    refine ev_bipush (v := 20) dX11_rests_5 (by decide) ?_
    refine ev_ic_le (t := 12) (x := x) (y := 20) dX11_rests_7 (by decide) (fun c_7 => ?_) (fun c_7 => ?_)
    · refine ev_iconst (v := 0) dX11_rests_12 (by decide) ?_
      refine ev_st (L' := [some (.ref 0), some (.int x), some (.int 0), none, none]) dX11_rests_13 rfl rfl ?_
      refine ev_st dX11_rests_14 rfl rfl ?_
      refine ev_getC dX11_rests_15 fr_11_19 rfl rfl ?_
      refine ev_call dX11_rests_18 rfl rfl mr_11_379 rfl rfl rfl (k_clear) ?_
      rintro _ _ ⟨rfl, rfl⟩
      show Ev lyC (d + 3) hX11_rests 21 [some (.ref 0), some (.int x), some (.int 0), none, none] [] (ti_wr I 3 1 0, J, R) _
      refine ev_iconst (v := 0) dX11_rests_21 (by decide) ?_
      refine ev_st (L' := [some (.ref 0), some (.int x), some (.int 0), some (.int 0), none]) dX11_rests_22 rfl rfl ?_
      exact loop 11 0 (0, 0, 0) _ _ _ (by omega) (by omega) rfl (fC.rf.w (p := 3) (k := 1) rfl _) ⟨rfl, fun k v h => by cases h⟩
    · exact absurd hx (by simp [m_in, c_1, c_7])
theorem k_X4_size {I : Nat → Nat → Int32} {J : Nat → Nat → Int64} {R : Nat → Nat → Value} {d : Nat} : Cal lyC d hX4_size 1 [.ref 3] (I, J, R) (fun r M' => r = some (.int (I 3 1)) ∧ M' = (I, J, R)) := by
  show Ev lyC d hX4_size 0 [some (.ref 3)] [] (I, J, R) _
  refine ev_st dX4_size_0 rfl rfl ?_
  refine ev_getI (v := I 3 1) dX4_size_1 fr_4_15 rfl rfl rfl ?_
  exact ev_iret dX4_size_4 rfl (⟨rfl, rfl⟩)
theorem k_X9_size {I : Nat → Nat → Int32} {J : Nat → Nat → Int64} {R : Nat → Nat → Value} {d : Nat} : Cal lyC d hX9_size 1 [.ref 1] (I, J, R) (fun r M' => r = some (.int (I 1 1)) ∧ M' = (I, J, R)) := by
  show Ev lyC d hX9_size 0 [some (.ref 1)] [] (I, J, R) _
  refine ev_st dX9_size_0 rfl rfl ?_
  refine ev_getI (v := I 1 1) dX9_size_1 fr_9_15 rfl rfl rfl ?_
  exact ev_iret dX9_size_4 rfl (⟨rfl, rfl⟩)
theorem k_count0 {I : Nat → Nat → Int32} {J : Nat → Nat → Int64} {R : Nat → Nat → Value} {d : Nat} : Cal lyC (d + 1) hX11_count 2 [.ref 0, .int 0] (I, J, R) (fun r M' => r = some (.int (I 5 2)) ∧ M' = (I, J, R)) := by
  show Ev lyC (d + 1) hX11_count 0 [some (.ref 0), some (.int 0)] [] (I, J, R) _
  refine ev_st dX11_count_0 rfl rfl ?_
  refine ev_ts (j := 0) (t := 80) dX11_count_1 rfl (by decide) (by decide) rfl (by decide) ?_
  refine ev_st dX11_count_80 rfl rfl ?_
  refine ev_getC dX11_count_81 fr_11_26 rfl rfl ?_
  refine ev_getI (v := I 5 2) dX11_count_84 fr_11_124 rfl rfl rfl ?_
  exact ev_iret dX11_count_87 rfl (⟨rfl, rfl⟩)
theorem k_count1 {I : Nat → Nat → Int32} {J : Nat → Nat → Int64} {R : Nat → Nat → Value} {d : Nat} : Cal lyC (d + 1) hX11_count 2 [.ref 0, .int 1] (I, J, R) (fun r M' => r = some (.int (I 8 3)) ∧ M' = (I, J, R)) := by
  show Ev lyC (d + 1) hX11_count 0 [some (.ref 0), some (.int 1)] [] (I, J, R) _
  refine ev_st dX11_count_0 rfl rfl ?_
  refine ev_ts (j := 1) (t := 88) dX11_count_1 rfl (by decide) (by decide) rfl (by decide) ?_
  refine ev_st dX11_count_88 rfl rfl ?_
  refine ev_getC dX11_count_89 fr_11_35 rfl rfl ?_
  refine ev_getI (v := I 8 3) dX11_count_92 fr_11_137 rfl rfl rfl ?_
  exact ev_iret dX11_count_95 rfl (⟨rfl, rfl⟩)
theorem k_count2 {I : Nat → Nat → Int32} {J : Nat → Nat → Int64} {R : Nat → Nat → Value} {d : Nat} : Cal lyC (d + 1) hX11_count 2 [.ref 0, .int 2] (I, J, R) (fun r M' => r = some (.int (I 11 4)) ∧ M' = (I, J, R)) := by
  show Ev lyC (d + 1) hX11_count 0 [some (.ref 0), some (.int 2)] [] (I, J, R) _
  refine ev_st dX11_count_0 rfl rfl ?_
  refine ev_ts (j := 2) (t := 96) dX11_count_1 rfl (by decide) (by decide) rfl (by decide) ?_
  refine ev_st dX11_count_96 rfl rfl ?_
  refine ev_getC dX11_count_97 fr_11_42 rfl rfl ?_
  refine ev_getI (v := I 11 4) dX11_count_100 fr_11_141 rfl rfl rfl ?_
  exact ev_iret dX11_count_103 rfl (⟨rfl, rfl⟩)
theorem k_count3 {I : Nat → Nat → Int32} {J : Nat → Nat → Int64} {R : Nat → Nat → Value} {d : Nat} : Cal lyC (d + 1) hX11_count 2 [.ref 0, .int 3] (I, J, R) (fun r M' => r = some (.int (I 39 1)) ∧ M' = (I, J, R)) := by
  show Ev lyC (d + 1) hX11_count 0 [some (.ref 0), some (.int 3)] [] (I, J, R) _
  refine ev_st dX11_count_0 rfl rfl ?_
  refine ev_ts (j := 3) (t := 104) dX11_count_1 rfl (by decide) (by decide) rfl (by decide) ?_
  refine ev_st dX11_count_104 rfl rfl ?_
  refine ev_getC dX11_count_105 fr_11_49 rfl rfl ?_
  refine ev_getI (v := I 39 1) dX11_count_108 fr_11_113 rfl rfl rfl ?_
  exact ev_iret dX11_count_111 rfl (⟨rfl, rfl⟩)
theorem k_count4 {I : Nat → Nat → Int32} {J : Nat → Nat → Int64} {R : Nat → Nat → Value} {d : Nat} : Cal lyC (d + 1) hX11_count 2 [.ref 0, .int 4] (I, J, R) (fun r M' => r = some (.int (I 39 2)) ∧ M' = (I, J, R)) := by
  show Ev lyC (d + 1) hX11_count 0 [some (.ref 0), some (.int 4)] [] (I, J, R) _
  refine ev_st dX11_count_0 rfl rfl ?_
  refine ev_ts (j := 4) (t := 112) dX11_count_1 rfl (by decide) (by decide) rfl (by decide) ?_
  refine ev_st dX11_count_112 rfl rfl ?_
  refine ev_getC dX11_count_113 fr_11_49 rfl rfl ?_
  refine ev_getI (v := I 39 2) dX11_count_116 fr_11_194 rfl rfl rfl ?_
  exact ev_iret dX11_count_119 rfl (⟨rfl, rfl⟩)
theorem k_count5 {I : Nat → Nat → Int32} {J : Nat → Nat → Int64} {R : Nat → Nat → Value} {d : Nat} : Cal lyC (d + 1) hX11_count 2 [.ref 0, .int 5] (I, J, R) (fun r M' => r = some (.int (I 39 3)) ∧ M' = (I, J, R)) := by
  show Ev lyC (d + 1) hX11_count 0 [some (.ref 0), some (.int 5)] [] (I, J, R) _
  refine ev_st dX11_count_0 rfl rfl ?_
  refine ev_ts (j := 5) (t := 120) dX11_count_1 rfl (by decide) (by decide) rfl (by decide) ?_
  refine ev_st dX11_count_120 rfl rfl ?_
  refine ev_getC dX11_count_121 fr_11_49 rfl rfl ?_
  refine ev_getI (v := I 39 3) dX11_count_124 fr_11_162 rfl rfl rfl ?_
  exact ev_iret dX11_count_127 rfl (⟨rfl, rfl⟩)
theorem k_count6 {I : Nat → Nat → Int32} {J : Nat → Nat → Int64} {R : Nat → Nat → Value} {d : Nat} : Cal lyC (d + 1) hX11_count 2 [.ref 0, .int 6] (I, J, R) (fun r M' => r = some (.int (I 39 4)) ∧ M' = (I, J, R)) := by
  show Ev lyC (d + 1) hX11_count 0 [some (.ref 0), some (.int 6)] [] (I, J, R) _
  refine ev_st dX11_count_0 rfl rfl ?_
  refine ev_ts (j := 6) (t := 128) dX11_count_1 rfl (by decide) (by decide) rfl (by decide) ?_
  refine ev_st dX11_count_128 rfl rfl ?_
  refine ev_getC dX11_count_129 fr_11_49 rfl rfl ?_
  refine ev_getI (v := I 39 4) dX11_count_132 fr_11_189 rfl rfl rfl ?_
  exact ev_iret dX11_count_135 rfl (⟨rfl, rfl⟩)
theorem k_count7 {I : Nat → Nat → Int32} {J : Nat → Nat → Int64} {R : Nat → Nat → Value} {d : Nat} : Cal lyC (d + 1) hX11_count 2 [.ref 0, .int 7] (I, J, R) (fun r M' => r = some (.int (I 39 5)) ∧ M' = (I, J, R)) := by
  show Ev lyC (d + 1) hX11_count 0 [some (.ref 0), some (.int 7)] [] (I, J, R) _
  refine ev_st dX11_count_0 rfl rfl ?_
  refine ev_ts (j := 7) (t := 136) dX11_count_1 rfl (by decide) (by decide) rfl (by decide) ?_
  refine ev_st dX11_count_136 rfl rfl ?_
  refine ev_getC dX11_count_137 fr_11_49 rfl rfl ?_
  refine ev_getI (v := I 39 5) dX11_count_140 fr_11_186 rfl rfl rfl ?_
  exact ev_iret dX11_count_143 rfl (⟨rfl, rfl⟩)
theorem k_count8 {I : Nat → Nat → Int32} {J : Nat → Nat → Int64} {R : Nat → Nat → Value} {d : Nat} (h6 : I 39 6 = 0 ∨ I 39 6 = 1) : Cal lyC (d + 1) hX11_count 2 [.ref 0, .int 8] (I, J, R) (fun r M' => r = some (.int (I 39 6)) ∧ M' = (I, J, R)) := by
  show Ev lyC (d + 1) hX11_count 0 [some (.ref 0), some (.int 8)] [] (I, J, R) _
  refine ev_st dX11_count_0 rfl rfl ?_
  refine ev_ts (j := 8) (t := 144) dX11_count_1 rfl (by decide) (by decide) rfl (by decide) ?_
  refine ev_st dX11_count_144 rfl rfl ?_
  refine ev_getC dX11_count_145 fr_11_49 rfl rfl ?_
  refine ev_getI (v := I 39 6) dX11_count_148 fr_11_117 rfl rfl rfl ?_
  refine ev_if_eq (t := 158) (x := I 39 6) dX11_count_151 (by decide) (fun c_151 => ?_) (fun c_151 => ?_)
  · refine ev_iconst (v := 0) dX11_count_158 (by decide) ?_
    exact ev_iret dX11_count_159 rfl (⟨by rw [c_151], rfl⟩)
  · refine ev_iconst (v := 1) dX11_count_154 (by decide) ?_
    refine ev_goto (t := 159) dX11_count_155 (by decide) ?_
    exact ev_iret dX11_count_159 rfl (⟨by rw [h6.resolve_left c_151], rfl⟩)
theorem k_count9 {I : Nat → Nat → Int32} {J : Nat → Nat → Int64} {R : Nat → Nat → Value} {d : Nat} : Cal lyC (d + 1) hX11_count 2 [.ref 0, .int 9] (I, J, R) (fun r M' => r = some (.int (I 39 7)) ∧ M' = (I, J, R)) := by
  show Ev lyC (d + 1) hX11_count 0 [some (.ref 0), some (.int 9)] [] (I, J, R) _
  refine ev_st dX11_count_0 rfl rfl ?_
  refine ev_ts (j := 9) (t := 160) dX11_count_1 rfl (by decide) (by decide) rfl (by decide) ?_
  refine ev_st dX11_count_160 rfl rfl ?_
  refine ev_getC dX11_count_161 fr_11_49 rfl rfl ?_
  refine ev_getI (v := I 39 7) dX11_count_164 fr_11_231 rfl rfl rfl ?_
  exact ev_iret dX11_count_167 rfl (⟨rfl, rfl⟩)
theorem k_count10 {I : Nat → Nat → Int32} {J : Nat → Nat → Int64} {R : Nat → Nat → Value} {d : Nat} : Cal lyC (d + 1) hX11_count 2 [.ref 0, .int 10] (I, J, R) (fun r M' => r = some (.int (I 23 4)) ∧ M' = (I, J, R)) := by
  show Ev lyC (d + 1) hX11_count 0 [some (.ref 0), some (.int 10)] [] (I, J, R) _
  refine ev_st dX11_count_0 rfl rfl ?_
  refine ev_ts (j := 10) (t := 168) dX11_count_1 rfl (by decide) (by decide) rfl (by decide) ?_
  refine ev_st dX11_count_168 rfl rfl ?_
  refine ev_getC dX11_count_169 fr_11_83 rfl rfl ?_
  refine ev_getI (v := I 23 4) dX11_count_172 fr_11_403 rfl rfl rfl ?_
  exact ev_iret dX11_count_175 rfl (⟨rfl, rfl⟩)
theorem k_count11 {I : Nat → Nat → Int32} {J : Nat → Nat → Int64} {R : Nat → Nat → Value} {d : Nat} : Cal lyC (d + 1) hX11_count 2 [.ref 0, .int 11] (I, J, R) (fun r M' => r = some (.int (I 23 8)) ∧ M' = (I, J, R)) := by
  show Ev lyC (d + 1) hX11_count 0 [some (.ref 0), some (.int 11)] [] (I, J, R) _
  refine ev_st dX11_count_0 rfl rfl ?_
  refine ev_ts (j := 11) (t := 176) dX11_count_1 rfl (by decide) (by decide) rfl (by decide) ?_
  refine ev_st dX11_count_176 rfl rfl ?_
  refine ev_getC dX11_count_177 fr_11_83 rfl rfl ?_
  refine ev_getI (v := I 23 8) dX11_count_180 fr_11_406 rfl rfl rfl ?_
  exact ev_iret dX11_count_183 rfl (⟨rfl, rfl⟩)
theorem k_count12 {I : Nat → Nat → Int32} {J : Nat → Nat → Int64} {R : Nat → Nat → Value} {d : Nat} : Cal lyC (d + 1) hX11_count 2 [.ref 0, .int 12] (I, J, R) (fun r M' => r = some (.int (I 15 5)) ∧ M' = (I, J, R)) := by
  show Ev lyC (d + 1) hX11_count 0 [some (.ref 0), some (.int 12)] [] (I, J, R) _
  refine ev_st dX11_count_0 rfl rfl ?_
  refine ev_ts (j := 12) (t := 184) dX11_count_1 rfl (by decide) (by decide) rfl (by decide) ?_
  refine ev_st dX11_count_184 rfl rfl ?_
  refine ev_getC dX11_count_185 fr_11_56 rfl rfl ?_
  refine ev_getI (v := I 15 5) dX11_count_188 fr_11_409 rfl rfl rfl ?_
  exact ev_iret dX11_count_191 rfl (⟨rfl, rfl⟩)
theorem k_count13 {I : Nat → Nat → Int32} {J : Nat → Nat → Int64} {R : Nat → Nat → Value} {d : Nat} : Cal lyC (d + 1) hX11_count 2 [.ref 0, .int 13] (I, J, R) (fun r M' => r = some (.int (I 3 1)) ∧ M' = (I, J, R)) := by
  show Ev lyC (d + 1) hX11_count 0 [some (.ref 0), some (.int 13)] [] (I, J, R) _
  refine ev_st dX11_count_0 rfl rfl ?_
  refine ev_ts (j := 13) (t := 192) dX11_count_1 rfl (by decide) (by decide) rfl (by decide) ?_
  refine ev_st dX11_count_192 rfl rfl ?_
  refine ev_getC dX11_count_193 fr_11_19 rfl rfl ?_
  refine ev_call dX11_count_196 rfl rfl mr_11_410 rfl rfl rfl (k_X4_size) ?_
  rintro _ _ ⟨rfl, rfl⟩
  show Ev lyC (d + 1) hX11_count 199 [some (.ref 0), some (.int 13)] [.int (I 3 1)] (I, J, R) _
  exact ev_iret dX11_count_199 rfl (⟨rfl, rfl⟩)
theorem k_count14 {I : Nat → Nat → Int32} {J : Nat → Nat → Int64} {R : Nat → Nat → Value} {d : Nat} : Cal lyC (d + 1) hX11_count 2 [.ref 0, .int 14] (I, J, R) (fun r M' => r = some (.int (I 1 1)) ∧ M' = (I, J, R)) := by
  show Ev lyC (d + 1) hX11_count 0 [some (.ref 0), some (.int 14)] [] (I, J, R) _
  refine ev_st dX11_count_0 rfl rfl ?_
  refine ev_ts (j := 14) (t := 200) dX11_count_1 rfl (by decide) (by decide) rfl (by decide) ?_
  refine ev_st dX11_count_200 rfl rfl ?_
  refine ev_getC dX11_count_201 fr_11_10 rfl rfl ?_
  refine ev_call dX11_count_204 rfl rfl mr_11_127 rfl rfl rfl (k_X9_size) ?_
  rintro _ _ ⟨rfl, rfl⟩
  show Ev lyC (d + 1) hX11_count 207 [some (.ref 0), some (.int 14)] [.int (I 1 1)] (I, J, R) _
  exact ev_iret dX11_count_207 rfl (⟨rfl, rfl⟩)
theorem k_count15 {I : Nat → Nat → Int32} {J : Nat → Nat → Int64} {R : Nat → Nat → Value} {d : Nat} : Cal lyC (d + 1) hX11_count 2 [.ref 0, .int 15] (I, J, R) (fun r M' => r = some (.int (bc (I 39 5))) ∧ M' = (I, J, R)) := by
  show Ev lyC (d + 1) hX11_count 0 [some (.ref 0), some (.int 15)] [] (I, J, R) _
  refine ev_st dX11_count_0 rfl rfl ?_
  refine ev_ts (j := 15) (t := 208) dX11_count_1 rfl (by decide) (by decide) rfl (by decide) ?_
  refine ev_st dX11_count_208 rfl rfl ?_
  refine ev_getC dX11_count_209 fr_11_49 rfl rfl ?_
  refine ev_getI (v := I 39 5) dX11_count_212 fr_11_186 rfl rfl rfl ?_
  refine ev_call dX11_count_215 rfl rfl mr_11_200 rfl rfl rfl (c_bc (I 39 5)) ?_
  rintro _ _ ⟨rfl, rfl⟩
  show Ev lyC (d + 1) hX11_count 218 [some (.ref 0), some (.int 15)] [.int (bc (I 39 5))] (I, J, R) _
  exact ev_iret dX11_count_218 rfl (⟨rfl, rfl⟩)
theorem k_countD {I : Nat → Nat → Int32} {J : Nat → Nat → Int64} {R : Nat → Nat → Value} {d : Nat} {x : Int32} (hx : ix 16 x = none) : Cal lyC (d + 1) hX11_count 2 [.ref 0, .int x] (I, J, R) (fun r M' => r = some (.int (-1)) ∧ M' = (I, J, R)) := by
  show Ev lyC (d + 1) hX11_count 0 [some (.ref 0), some (.int x)] [] (I, J, R) _
  refine ev_st dX11_count_0 rfl rfl ?_
  refine ev_tsD (j := 16) (t := 219) dX11_count_1 (by decide) (by decide) hx (by decide) ?_
  refine ev_iconst (v := -1) dX11_count_219 (by decide) ?_
  exact ev_iret dX11_count_220 rfl (⟨rfl, rfl⟩)
theorem k_rowAt {I : Nat → Nat → Int32} {J : Nat → Nat → Int64} {R : Nat → Nat → Value} {d m j : Nat} (hm : I 3 1 = nI m) (hm8 : m ≤ 8) (hj : j < m) : Cal lyC d hX4_at 2 [.ref 3, .int (nI j)] (I, J, R) (fun r M' => r = some (.long (J 4 j)) ∧ M' = (I, J, R)) := by
  show Ev lyC d hX4_at 0 [some (.ref 3), some (.int (nI j))] [] (I, J, R) _
  refine ev_st dX4_at_0 rfl rfl ?_
  refine ev_if_ltN (t := 21) (a := j) dX4_at_1 (by decide) rfl (by omega) ?_
  refine ev_st dX4_at_4 rfl rfl ?_
  refine ev_st dX4_at_5 rfl rfl ?_
  refine ev_getI (v := nI m) dX4_at_6 fr_4_15 rfl rfl hm ?_
  refine ev_ic_geN (t := 21) (a := j) (b := m) dX4_at_9 (by decide) rfl rfl (by omega) (by omega) (fun c_9 => ?_) (fun c_9 => ?_)
  · omega
  · refine ev_st dX4_at_12 rfl rfl ?_
    refine ev_getC dX4_at_13 fr_4_9 rfl rfl ?_
    refine ev_st dX4_at_16 rfl rfl ?_
    refine ev_lald (j := j) (v := J 4 j) dX4_at_17 rfl rfl (by omega) (by decide) rfl ?_
    refine ev_goto (t := 24) dX4_at_18 (by decide) ?_
    exact ev_lret dX4_at_24 rfl (⟨rfl, rfl⟩)
theorem k_row {I : Nat → Nat → Int32} {J : Nat → Nat → Int64} {R : Nat → Nat → Value} {d m j : Nat} (hm : I 3 1 = nI m) (hm8 : m ≤ 8) (hj : j < m) : Cal lyC (d + 1) hX11_row 2 [.ref 0, .int (nI j)] (I, J, R) (fun r M' => r = some (.long (J 4 j)) ∧ M' = (I, J, R)) := by
  show Ev lyC (d + 1) hX11_row 0 [some (.ref 0), some (.int (nI j))] [] (I, J, R) _
  refine ev_st dX11_row_0 rfl rfl ?_
  refine ev_if_ltN (t := 15) (a := j) dX11_row_1 (by decide) rfl (by omega) ?_
  refine ev_st dX11_row_4 rfl rfl ?_
  refine ev_st dX11_row_5 rfl rfl ?_
  refine ev_getC dX11_row_6 fr_11_19 rfl rfl ?_
  refine ev_call dX11_row_9 rfl rfl mr_11_410 rfl rfl rfl ((by have K := k_X4_size (I := I) (J := J) (R := R) (d := d); rw [hm] at K; exact K)) ?_
  rintro _ _ ⟨rfl, rfl⟩
  show Ev lyC (d + 1) hX11_row 12 [some (.ref 0), some (.int (nI j))] [.int (nI m), .int (nI j)] (I, J, R) _
  refine ev_ic_ltN (t := 26) (a := j) (b := m) dX11_row_12 (by decide) rfl rfl (by omega) (by omega) (fun c_12 => ?_) (fun c_12 => ?_)
  · refine ev_st dX11_row_26 rfl rfl ?_
    refine ev_getC dX11_row_27 fr_11_19 rfl rfl ?_
    refine ev_st dX11_row_30 rfl rfl ?_
    refine ev_call dX11_row_31 rfl rfl mr_11_413 rfl rfl rfl (k_rowAt hm hm8 hj) ?_
    rintro _ _ ⟨rfl, rfl⟩
    show Ev lyC (d + 1) hX11_row 34 [some (.ref 0), some (.int (nI j))] [.long (J 4 j)] (I, J, R) _
    exact ev_lret dX11_row_34 rfl (⟨rfl, rfl⟩)
  · omega
theorem k_bearer_0 {I : Nat → Nat → Int32} {J : Nat → Nat → Int64} {R : Nat → Nat → Value} {d n j : Nat} (hn : I 8 3 = nI n) (hn8 : n ≤ 8) (hx : ix n (nI j) = some j) : Cal lyC (d + 5) hX11_bearer 3 [.ref 0, .int (nI j), .int 0] (I, J, R) (fun r M' => r = some (.int (I 9 j)) ∧ M' = (I, J, R)) := by
  have hj : j < n := (ix_some (by omega) hx).1
  have hj8 : j < 8 := by omega
  show Ev lyC (d + 5) hX11_bearer 0 [some (.ref 0), some (.int (nI j)), some (.int 0)] [] (I, J, R) _
  refine ev_st dX11_bearer_0 rfl rfl ?_
  refine ev_getC dX11_bearer_1 fr_11_35 rfl rfl ?_
  refine ev_st dX11_bearer_4 rfl rfl ?_
  refine ev_call dX11_bearer_5 rfl rfl mr_11_143 rfl rfl rfl (k_hasF (I := I) hn fC.rf (v := 1) (by rw [hx]; rfl)) ?_
  rintro _ _ ⟨rfl, rfl⟩
  show Ev lyC (d + 5) hX11_bearer 8 [some (.ref 0), some (.int (nI j)), some (.int 0)] [.int 1] (I, J, R) _
  refine ev_if_ne (t := 21) dX11_bearer_8 (by decide) (fun _ => ?_) (fun q => absurd q (by decide))
  refine ev_st dX11_bearer_21 rfl rfl ?_
  refine ev_ts (j := 0) (t := 56) dX11_bearer_22 rfl (by decide) (by decide) rfl (by decide) ?_
  refine ev_st dX11_bearer_56 rfl rfl ?_
  refine ev_getC dX11_bearer_57 fr_11_35 rfl rfl ?_
  refine ev_getC dX11_bearer_60 fr_11_153 rfl rfl ?_
  refine ev_st dX11_bearer_63 rfl rfl ?_
  refine ev_iald (j := j) (v := I 9 j) dX11_bearer_64 rfl rfl (by omega) (by decide) rfl ?_
  exact ev_iret dX11_bearer_65 rfl (⟨rfl, rfl⟩)
theorem k_bearer_1 {I : Nat → Nat → Int32} {J : Nat → Nat → Int64} {R : Nat → Nat → Value} {d n j : Nat} (hn : I 8 3 = nI n) (hn8 : n ≤ 8) (hx : ix n (nI j) = some j) : Cal lyC (d + 5) hX11_bearer 3 [.ref 0, .int (nI j), .int 1] (I, J, R) (fun r M' => r = some (.int (I 10 j)) ∧ M' = (I, J, R)) := by
  have hj : j < n := (ix_some (by omega) hx).1
  have hj8 : j < 8 := by omega
  show Ev lyC (d + 5) hX11_bearer 0 [some (.ref 0), some (.int (nI j)), some (.int 1)] [] (I, J, R) _
  refine ev_st dX11_bearer_0 rfl rfl ?_
  refine ev_getC dX11_bearer_1 fr_11_35 rfl rfl ?_
  refine ev_st dX11_bearer_4 rfl rfl ?_
  refine ev_call dX11_bearer_5 rfl rfl mr_11_143 rfl rfl rfl (k_hasF (I := I) hn fC.rf (v := 1) (by rw [hx]; rfl)) ?_
  rintro _ _ ⟨rfl, rfl⟩
  show Ev lyC (d + 5) hX11_bearer 8 [some (.ref 0), some (.int (nI j)), some (.int 1)] [.int 1] (I, J, R) _
  refine ev_if_ne (t := 21) dX11_bearer_8 (by decide) (fun _ => ?_) (fun q => absurd q (by decide))
  refine ev_st dX11_bearer_21 rfl rfl ?_
  refine ev_ts (j := 1) (t := 66) dX11_bearer_22 rfl (by decide) (by decide) rfl (by decide) ?_
  refine ev_st dX11_bearer_66 rfl rfl ?_
  refine ev_getC dX11_bearer_67 fr_11_35 rfl rfl ?_
  refine ev_getC dX11_bearer_70 fr_11_156 rfl rfl ?_
  refine ev_st dX11_bearer_73 rfl rfl ?_
  refine ev_iald (j := j) (v := I 10 j) dX11_bearer_74 rfl rfl (by omega) (by decide) rfl ?_
  exact ev_iret dX11_bearer_75 rfl (⟨rfl, rfl⟩)
theorem k_bearer_2 {I : Nat → Nat → Int32} {J : Nat → Nat → Int64} {R : Nat → Nat → Value} {d n j : Nat} (hn : I 8 3 = nI n) (hn8 : n ≤ 8) (hx : ix n (nI j) = some j) : Cal lyC (d + 5) hX11_bearer 3 [.ref 0, .int (nI j), .int 2] (I, J, R) (fun r M' => r = some (.int (I 40 j)) ∧ M' = (I, J, R)) := by
  have hj : j < n := (ix_some (by omega) hx).1
  have hj8 : j < 8 := by omega
  show Ev lyC (d + 5) hX11_bearer 0 [some (.ref 0), some (.int (nI j)), some (.int 2)] [] (I, J, R) _
  refine ev_st dX11_bearer_0 rfl rfl ?_
  refine ev_getC dX11_bearer_1 fr_11_35 rfl rfl ?_
  refine ev_st dX11_bearer_4 rfl rfl ?_
  refine ev_call dX11_bearer_5 rfl rfl mr_11_143 rfl rfl rfl (k_hasF (I := I) hn fC.rf (v := 1) (by rw [hx]; rfl)) ?_
  rintro _ _ ⟨rfl, rfl⟩
  show Ev lyC (d + 5) hX11_bearer 8 [some (.ref 0), some (.int (nI j)), some (.int 2)] [.int 1] (I, J, R) _
  refine ev_if_ne (t := 21) dX11_bearer_8 (by decide) (fun _ => ?_) (fun q => absurd q (by decide))
  refine ev_st dX11_bearer_21 rfl rfl ?_
  refine ev_ts (j := 2) (t := 76) dX11_bearer_22 rfl (by decide) (by decide) rfl (by decide) ?_
  refine ev_st dX11_bearer_76 rfl rfl ?_
  refine ev_getC dX11_bearer_77 fr_11_49 rfl rfl ?_
  refine ev_getC dX11_bearer_80 fr_11_159 rfl rfl ?_
  refine ev_st dX11_bearer_83 rfl rfl ?_
  refine ev_iald (j := j) (v := I 40 j) dX11_bearer_84 rfl rfl (by omega) (by decide) rfl ?_
  exact ev_iret dX11_bearer_85 rfl (⟨rfl, rfl⟩)
theorem k_bearer_3 {I : Nat → Nat → Int32} {J : Nat → Nat → Int64} {R : Nat → Nat → Value} {d n j : Nat} (hn : I 8 3 = nI n) (hn8 : n ≤ 8) (hx : ix n (nI j) = some j) : Cal lyC (d + 5) hX11_bearer 3 [.ref 0, .int (nI j), .int 3] (I, J, R) (fun r M' => r = some (.int (k_b (I 39 3) (nI j))) ∧ M' = (I, J, R)) := by
  have hj : j < n := (ix_some (by omega) hx).1
  have hj8 : j < 8 := by omega
  show Ev lyC (d + 5) hX11_bearer 0 [some (.ref 0), some (.int (nI j)), some (.int 3)] [] (I, J, R) _
  refine ev_st dX11_bearer_0 rfl rfl ?_
  refine ev_getC dX11_bearer_1 fr_11_35 rfl rfl ?_
  refine ev_st dX11_bearer_4 rfl rfl ?_
  refine ev_call dX11_bearer_5 rfl rfl mr_11_143 rfl rfl rfl (k_hasF (I := I) hn fC.rf (v := 1) (by rw [hx]; rfl)) ?_
  rintro _ _ ⟨rfl, rfl⟩
  show Ev lyC (d + 5) hX11_bearer 8 [some (.ref 0), some (.int (nI j)), some (.int 3)] [.int 1] (I, J, R) _
  refine ev_if_ne (t := 21) dX11_bearer_8 (by decide) (fun _ => ?_) (fun q => absurd q (by decide))
  refine ev_st dX11_bearer_21 rfl rfl ?_
  refine ev_ts (j := 3) (t := 86) dX11_bearer_22 rfl (by decide) (by decide) rfl (by decide) ?_
  refine ev_st dX11_bearer_86 rfl rfl ?_
  refine ev_getC dX11_bearer_87 fr_11_49 rfl rfl ?_
  refine ev_getI (v := I 39 3) dX11_bearer_90 fr_11_162 rfl rfl rfl ?_
  refine ev_st dX11_bearer_93 rfl rfl ?_
  refine ev_st dX11_bearer_94 rfl rfl ?_
  refine ev_iconst (v := 1) dX11_bearer_95 (by decide) ?_
  refine ev_st dX11_bearer_96 rfl rfl ?_
  exact ev_iret dX11_bearer_97 rfl (⟨rfl, rfl⟩)
set_option maxHeartbeats 1000000 in
theorem k_bearer_4 {I : Nat → Nat → Int32} {J : Nat → Nat → Int64} {R : Nat → Nat → Value} {d n c a p z : Nat} {rv : RV} (hK : kA I d n c p z rv) (hp : R 0 11 = .ref p) (ha : I 39 1 = nI a) (ha12 : a ≤ 12) {j : Nat} (hx : ix n (nI j) = some j) : Cal lyC (d + 5) hX11_bearer 3 [.ref 0, .int (nI j), .int 4] (I, J, R) (fun r M' => r = some (.int (k_be z rv (I 9 j) (I 40 j) (I 10 j) (k_tl (I 10) (I 39 3 ||| ((1 : Int32) <<< (nI j &&& 31))) n) (bc (I 39 3 ||| ((1 : Int32) <<< (nI j &&& 31)))) (m_st c (I 6) a) (nI j))) ∧ ∃ I3, M' = (I3, J, R) ∧ fC I I3 ∧ I3 3 = I 3) := by
  have hn := hK.1
  have hn8 := hK.2.1
  have hj : j < n := (ix_some (by omega) hx).1
  have hj8 : j < 8 := by omega
  show Ev lyC (d + 5) hX11_bearer 0 [some (.ref 0), some (.int (nI j)), some (.int 4)] [] (I, J, R) _
  refine ev_st dX11_bearer_0 rfl rfl ?_
  refine ev_getC dX11_bearer_1 fr_11_35 rfl rfl ?_
  refine ev_st dX11_bearer_4 rfl rfl ?_
  refine ev_call dX11_bearer_5 rfl rfl mr_11_143 rfl rfl rfl (k_hasF (I := I) hn fC.rf (v := 1) (by rw [hx]; rfl)) ?_
  rintro _ _ ⟨rfl, rfl⟩
  show Ev lyC (d + 5) hX11_bearer 8 [some (.ref 0), some (.int (nI j)), some (.int 4)] [.int 1] (I, J, R) _
  refine ev_if_ne (t := 21) dX11_bearer_8 (by decide) (fun _ => ?_) (fun q => absurd q (by decide))
  refine ev_st dX11_bearer_21 rfl rfl ?_
  refine ev_ts (j := 4) (t := 98) dX11_bearer_22 rfl (by decide) (by decide) rfl (by decide) ?_
  refine ev_st dX11_bearer_98 rfl rfl ?_
  refine ev_getC dX11_bearer_99 fr_11_35 rfl rfl ?_
  refine ev_st dX11_bearer_102 rfl rfl ?_
  refine ev_getR (v := .ref p) dX11_bearer_103 fr_11_94 rfl rfl hp ?_
  refine ev_st dX11_bearer_106 rfl rfl ?_
  refine ev_st dX11_bearer_107 rfl rfl ?_
  refine ev_getC dX11_bearer_108 fr_11_49 rfl rfl ?_
  refine ev_getI (v := I 39 3) dX11_bearer_111 fr_11_162 rfl rfl rfl ?_
  refine ev_iconst (v := 1) dX11_bearer_114 (by decide) ?_
  refine ev_st dX11_bearer_115 rfl rfl ?_
  refine ev_st dX11_bearer_116 rfl rfl ?_
  refine ev_st dX11_bearer_117 rfl rfl ?_
  refine ev_st dX11_bearer_118 rfl rfl ?_
  refine ev_getC dX11_bearer_119 fr_11_49 rfl rfl ?_
  refine ev_getC dX11_bearer_122 fr_11_159 rfl rfl ?_
  refine ev_st dX11_bearer_125 rfl rfl ?_
  refine ev_iald (j := j) (v := I 40 j) dX11_bearer_126 rfl rfl (by omega) (by decide) rfl ?_
  refine ev_st dX11_bearer_127 rfl rfl ?_
  refine ev_getC dX11_bearer_128 fr_11_49 rfl rfl ?_
  refine ev_getI (v := nI a) dX11_bearer_131 fr_11_113 rfl rfl ha ?_
  refine ev_call dX11_bearer_134 rfl rfl mr_11_165 rfl rfl rfl (Cal.mono (by omega) (k_worth (I2 := I) (J := J) hK ha12 fC.rf hj8 ((I 39 3) ||| ((1 : Int32) <<< ((nI j) &&& 31))) (I 40 j))) ?_
  rintro _ _ ⟨rfl, I2, rfl, hs2, g2⟩
  show Ev lyC (d + 5) hX11_bearer 137 [some (.ref 0), some (.int (nI j)), some (.int 4)] [.int (k_be z rv (I 9 j) (I 40 j) (I 10 j) (k_tl (I 10) ((I 39 3) ||| ((1 : Int32) <<< ((nI j) &&& 31))) n) (bc ((I 39 3) ||| ((1 : Int32) <<< ((nI j) &&& 31)))) (m_st c (I 6) a) (nI j))] (I2, J, R) _
  exact ev_iret dX11_bearer_137 rfl (⟨rfl, _, rfl, hs2, g2.r 3 rfl⟩)
theorem tr01 {I : Nat → Nat → Int32} {s : Nat} : (if k_tr I s = 0 then (0 : Int32) else 1) = k_b (I 11 3) (nI s) := by
  unfold k_tr
  rcases k_b01 (I 11 3) (nI s) with e | e <;> rw [e] <;> decide
theorem k_saying_0 {I : Nat → Nat → Int32} {J : Nat → Nat → Int64} {R : Nat → Nat → Value} {d ns j : Nat} (hns : I 11 4 = nI ns) (hns8 : ns ≤ 8) (hx : ix ns (nI j) = some j) : Cal lyC (d + 1) hX11_saying 3 [.ref 0, .int (nI j), .int 0] (I, J, R) (fun r M' => r = some (.int (I 12 j)) ∧ M' = (I, J, R)) := by
  have hj : j < ns := (ix_some (by omega) hx).1
  have hj8 : j < 8 := by omega
  show Ev lyC (d + 1) hX11_saying 0 [some (.ref 0), some (.int (nI j)), some (.int 0)] [] (I, J, R) _
  refine ev_st dX11_saying_0 rfl rfl ?_
  refine ev_getC dX11_saying_1 fr_11_42 rfl rfl ?_
  refine ev_st dX11_saying_4 rfl rfl ?_
  refine ev_call dX11_saying_5 rfl rfl mr_11_171 rfl rfl rfl (k_hasSF (I := I) hns fC.rf (v := 1) (by rw [hx]; rfl)) ?_
  rintro _ _ ⟨rfl, rfl⟩
  show Ev lyC (d + 1) hX11_saying 8 [some (.ref 0), some (.int (nI j)), some (.int 0)] [.int 1] (I, J, R) _
  refine ev_if_ne (t := 21) dX11_saying_8 (by decide) (fun _ => ?_) (fun q => absurd q (by decide))
  refine ev_st dX11_saying_21 rfl rfl ?_
  refine ev_ts (j := 0) (t := 60) dX11_saying_22 rfl (by decide) (by decide) rfl (by decide) ?_
  refine ev_st dX11_saying_60 rfl rfl ?_
  refine ev_getC dX11_saying_61 fr_11_42 rfl rfl ?_
  refine ev_getC dX11_saying_64 fr_11_174 rfl rfl ?_
  refine ev_st dX11_saying_67 rfl rfl ?_
  refine ev_iald (j := j) (v := I 12 j) dX11_saying_68 rfl rfl (by omega) (by decide) rfl ?_
  exact ev_iret dX11_saying_69 rfl (⟨rfl, rfl⟩)
theorem k_saying_1 {I : Nat → Nat → Int32} {J : Nat → Nat → Int64} {R : Nat → Nat → Value} {d ns j : Nat} (hns : I 11 4 = nI ns) (hns8 : ns ≤ 8) (hx : ix ns (nI j) = some j) : Cal lyC (d + 1) hX11_saying 3 [.ref 0, .int (nI j), .int 1] (I, J, R) (fun r M' => r = some (.int (k_b (I 11 3) (nI j))) ∧ M' = (I, J, R)) := by
  have hj : j < ns := (ix_some (by omega) hx).1
  have hj8 : j < 8 := by omega
  show Ev lyC (d + 1) hX11_saying 0 [some (.ref 0), some (.int (nI j)), some (.int 1)] [] (I, J, R) _
  refine ev_st dX11_saying_0 rfl rfl ?_
  refine ev_getC dX11_saying_1 fr_11_42 rfl rfl ?_
  refine ev_st dX11_saying_4 rfl rfl ?_
  refine ev_call dX11_saying_5 rfl rfl mr_11_171 rfl rfl rfl (k_hasSF (I := I) hns fC.rf (v := 1) (by rw [hx]; rfl)) ?_
  rintro _ _ ⟨rfl, rfl⟩
  show Ev lyC (d + 1) hX11_saying 8 [some (.ref 0), some (.int (nI j)), some (.int 1)] [.int 1] (I, J, R) _
  refine ev_if_ne (t := 21) dX11_saying_8 (by decide) (fun _ => ?_) (fun q => absurd q (by decide))
  refine ev_st dX11_saying_21 rfl rfl ?_
  refine ev_ts (j := 1) (t := 70) dX11_saying_22 rfl (by decide) (by decide) rfl (by decide) ?_
  refine ev_st dX11_saying_70 rfl rfl ?_
  refine ev_getC dX11_saying_71 fr_11_42 rfl rfl ?_
  refine ev_st dX11_saying_74 rfl rfl ?_
  refine ev_call dX11_saying_75 rfl rfl mr_11_177 rfl rfl rfl (k_isTrue) ?_
  rintro _ _ ⟨rfl, rfl⟩
  show Ev lyC (d + 1) hX11_saying 78 [some (.ref 0), some (.int (nI j)), some (.int 1)] [.int (k_tr I j)] (I, J, R) _
  refine ev_if_eq (t := 85) (x := k_tr I j) dX11_saying_78 (by decide) (fun c_78 => ?_) (fun c_78 => ?_)
  · refine ev_iconst (v := 0) dX11_saying_85 (by decide) ?_
    exact ev_iret dX11_saying_86 rfl (⟨by rw [← tr01, if_pos c_78], rfl⟩)
  · refine ev_iconst (v := 1) dX11_saying_81 (by decide) ?_
    refine ev_goto (t := 86) dX11_saying_82 (by decide) ?_
    exact ev_iret dX11_saying_86 rfl (⟨by rw [← tr01, if_neg c_78], rfl⟩)
theorem k_saying_2 {I : Nat → Nat → Int32} {J : Nat → Nat → Int64} {R : Nat → Nat → Value} {d ns j : Nat} (hns : I 11 4 = nI ns) (hns8 : ns ≤ 8) (hx : ix ns (nI j) = some j) : Cal lyC (d + 1) hX11_saying 3 [.ref 0, .int (nI j), .int 2] (I, J, R) (fun r M' => r = some (.int (I 13 j)) ∧ M' = (I, J, R)) := by
  have hj : j < ns := (ix_some (by omega) hx).1
  have hj8 : j < 8 := by omega
  show Ev lyC (d + 1) hX11_saying 0 [some (.ref 0), some (.int (nI j)), some (.int 2)] [] (I, J, R) _
  refine ev_st dX11_saying_0 rfl rfl ?_
  refine ev_getC dX11_saying_1 fr_11_42 rfl rfl ?_
  refine ev_st dX11_saying_4 rfl rfl ?_
  refine ev_call dX11_saying_5 rfl rfl mr_11_171 rfl rfl rfl (k_hasSF (I := I) hns fC.rf (v := 1) (by rw [hx]; rfl)) ?_
  rintro _ _ ⟨rfl, rfl⟩
  show Ev lyC (d + 1) hX11_saying 8 [some (.ref 0), some (.int (nI j)), some (.int 2)] [.int 1] (I, J, R) _
  refine ev_if_ne (t := 21) dX11_saying_8 (by decide) (fun _ => ?_) (fun q => absurd q (by decide))
  refine ev_st dX11_saying_21 rfl rfl ?_
  refine ev_ts (j := 2) (t := 87) dX11_saying_22 rfl (by decide) (by decide) rfl (by decide) ?_
  refine ev_st dX11_saying_87 rfl rfl ?_
  refine ev_getC dX11_saying_88 fr_11_42 rfl rfl ?_
  refine ev_getC dX11_saying_91 fr_11_180 rfl rfl ?_
  refine ev_st dX11_saying_94 rfl rfl ?_
  refine ev_iald (j := j) (v := I 13 j) dX11_saying_95 rfl rfl (by omega) (by decide) rfl ?_
  exact ev_iret dX11_saying_96 rfl (⟨rfl, rfl⟩)
theorem k_saying_3 {I : Nat → Nat → Int32} {J : Nat → Nat → Int64} {R : Nat → Nat → Value} {d ns j : Nat} (hns : I 11 4 = nI ns) (hns8 : ns ≤ 8) (hx : ix ns (nI j) = some j) : Cal lyC (d + 1) hX11_saying 3 [.ref 0, .int (nI j), .int 3] (I, J, R) (fun r M' => r = some (.int (I 14 j)) ∧ M' = (I, J, R)) := by
  have hj : j < ns := (ix_some (by omega) hx).1
  have hj8 : j < 8 := by omega
  show Ev lyC (d + 1) hX11_saying 0 [some (.ref 0), some (.int (nI j)), some (.int 3)] [] (I, J, R) _
  refine ev_st dX11_saying_0 rfl rfl ?_
  refine ev_getC dX11_saying_1 fr_11_42 rfl rfl ?_
  refine ev_st dX11_saying_4 rfl rfl ?_
  refine ev_call dX11_saying_5 rfl rfl mr_11_171 rfl rfl rfl (k_hasSF (I := I) hns fC.rf (v := 1) (by rw [hx]; rfl)) ?_
  rintro _ _ ⟨rfl, rfl⟩
  show Ev lyC (d + 1) hX11_saying 8 [some (.ref 0), some (.int (nI j)), some (.int 3)] [.int 1] (I, J, R) _
  refine ev_if_ne (t := 21) dX11_saying_8 (by decide) (fun _ => ?_) (fun q => absurd q (by decide))
  refine ev_st dX11_saying_21 rfl rfl ?_
  refine ev_ts (j := 3) (t := 97) dX11_saying_22 rfl (by decide) (by decide) rfl (by decide) ?_
  refine ev_st dX11_saying_97 rfl rfl ?_
  refine ev_getC dX11_saying_98 fr_11_42 rfl rfl ?_
  refine ev_getC dX11_saying_101 fr_11_183 rfl rfl ?_
  refine ev_st dX11_saying_104 rfl rfl ?_
  refine ev_iald (j := j) (v := I 14 j) dX11_saying_105 rfl rfl (by omega) (by decide) rfl ?_
  exact ev_iret dX11_saying_106 rfl (⟨rfl, rfl⟩)
theorem k_saying_4 {I : Nat → Nat → Int32} {J : Nat → Nat → Int64} {R : Nat → Nat → Value} {d ns j : Nat} (hns : I 11 4 = nI ns) (hns8 : ns ≤ 8) (hx : ix ns (nI j) = some j) : Cal lyC (d + 1) hX11_saying 3 [.ref 0, .int (nI j), .int 4] (I, J, R) (fun r M' => r = some (.int (k_b (I 39 5) (nI j))) ∧ M' = (I, J, R)) := by
  have hj : j < ns := (ix_some (by omega) hx).1
  have hj8 : j < 8 := by omega
  show Ev lyC (d + 1) hX11_saying 0 [some (.ref 0), some (.int (nI j)), some (.int 4)] [] (I, J, R) _
  refine ev_st dX11_saying_0 rfl rfl ?_
  refine ev_getC dX11_saying_1 fr_11_42 rfl rfl ?_
  refine ev_st dX11_saying_4 rfl rfl ?_
  refine ev_call dX11_saying_5 rfl rfl mr_11_171 rfl rfl rfl (k_hasSF (I := I) hns fC.rf (v := 1) (by rw [hx]; rfl)) ?_
  rintro _ _ ⟨rfl, rfl⟩
  show Ev lyC (d + 1) hX11_saying 8 [some (.ref 0), some (.int (nI j)), some (.int 4)] [.int 1] (I, J, R) _
  refine ev_if_ne (t := 21) dX11_saying_8 (by decide) (fun _ => ?_) (fun q => absurd q (by decide))
  refine ev_st dX11_saying_21 rfl rfl ?_
  refine ev_ts (j := 4) (t := 107) dX11_saying_22 rfl (by decide) (by decide) rfl (by decide) ?_
  refine ev_st dX11_saying_107 rfl rfl ?_
  refine ev_getC dX11_saying_108 fr_11_49 rfl rfl ?_
  refine ev_getI (v := I 39 5) dX11_saying_111 fr_11_186 rfl rfl rfl ?_
  refine ev_st dX11_saying_114 rfl rfl ?_
  refine ev_st dX11_saying_115 rfl rfl ?_
  refine ev_iconst (v := 1) dX11_saying_116 (by decide) ?_
  refine ev_st dX11_saying_117 rfl rfl ?_
  exact ev_iret dX11_saying_118 rfl (⟨rfl, rfl⟩)
theorem k_saying_5 {I : Nat → Nat → Int32} {J : Nat → Nat → Int64} {R : Nat → Nat → Value} {d ns j : Nat} (hns : I 11 4 = nI ns) (hns8 : ns ≤ 8) (hx : ix ns (nI j) = some j) : Cal lyC (d + 1) hX11_saying 3 [.ref 0, .int (nI j), .int 5] (I, J, R) (fun r M' => r = some (.int (k_b (I 14 j) (I 39 4))) ∧ M' = (I, J, R)) := by
  have hj : j < ns := (ix_some (by omega) hx).1
  have hj8 : j < 8 := by omega
  show Ev lyC (d + 1) hX11_saying 0 [some (.ref 0), some (.int (nI j)), some (.int 5)] [] (I, J, R) _
  refine ev_st dX11_saying_0 rfl rfl ?_
  refine ev_getC dX11_saying_1 fr_11_42 rfl rfl ?_
  refine ev_st dX11_saying_4 rfl rfl ?_
  refine ev_call dX11_saying_5 rfl rfl mr_11_171 rfl rfl rfl (k_hasSF (I := I) hns fC.rf (v := 1) (by rw [hx]; rfl)) ?_
  rintro _ _ ⟨rfl, rfl⟩
  show Ev lyC (d + 1) hX11_saying 8 [some (.ref 0), some (.int (nI j)), some (.int 5)] [.int 1] (I, J, R) _
  refine ev_if_ne (t := 21) dX11_saying_8 (by decide) (fun _ => ?_) (fun q => absurd q (by decide))
  refine ev_st dX11_saying_21 rfl rfl ?_
  refine ev_ts (j := 5) (t := 119) dX11_saying_22 rfl (by decide) (by decide) rfl (by decide) ?_
  refine ev_st dX11_saying_119 rfl rfl ?_
  refine ev_getC dX11_saying_120 fr_11_42 rfl rfl ?_
  refine ev_getC dX11_saying_123 fr_11_183 rfl rfl ?_
  refine ev_st dX11_saying_126 rfl rfl ?_
  refine ev_iald (j := j) (v := I 14 j) dX11_saying_127 rfl rfl (by omega) (by decide) rfl ?_
  refine ev_st dX11_saying_128 rfl rfl ?_
  refine ev_getC dX11_saying_129 fr_11_49 rfl rfl ?_
  refine ev_getI (v := I 39 4) dX11_saying_132 fr_11_189 rfl rfl rfl ?_
  refine ev_st dX11_saying_135 rfl rfl ?_
  refine ev_iconst (v := 1) dX11_saying_136 (by decide) ?_
  refine ev_st dX11_saying_137 rfl rfl ?_
  exact ev_iret dX11_saying_138 rfl (⟨rfl, rfl⟩)
theorem k_entry {I : Nat → Nat → Int32} {J : Nat → Nat → Int64} {R : Nat → Nat → Value} {d : Nat} (x v : Int32) : Cal lyC d hX10_entry 2 [.int x, .int v] (I, J, R) (fun r M' => r = some (.int (m_en x v)) ∧ M' = (I, J, R)) := by
  show Ev lyC d hX10_entry 0 [some (.int x), some (.int v)] [] (I, J, R) _
  refine ev_st dX10_entry_0 rfl rfl ?_
  refine ev_if_ne (t := 9) (x := x) dX10_entry_1 (by decide) (fun c_1 => ?_) (fun c_1 => ?_)
  · refine ev_st dX10_entry_9 rfl rfl ?_
    refine ev_iconst (v := 1) dX10_entry_10 (by decide) ?_
    refine ev_ic_ne (t := 19) (x := x) (y := 1) dX10_entry_11 (by decide) (fun c_11 => ?_) (fun c_11 => ?_)
    · refine ev_st dX10_entry_19 rfl rfl ?_
      exact ev_iret dX10_entry_20 rfl (⟨by simp [m_en, c_1, c_11], rfl⟩)
    · refine ev_st dX10_entry_14 rfl rfl ?_
      refine ev_st dX10_entry_15 rfl rfl ?_
      refine ev_goto (t := 20) dX10_entry_16 (by decide) ?_
      exact ev_iret dX10_entry_20 rfl (⟨by simp [m_en, c_1, c_11], rfl⟩)
  · refine ev_st dX10_entry_4 rfl rfl ?_
    refine ev_st dX10_entry_5 rfl rfl ?_
    refine ev_goto (t := 20) dX10_entry_6 (by decide) ?_
    exact ev_iret dX10_entry_20 rfl (⟨by simp [m_en, c_1], rfl⟩)
def k_sh (kind nn f st : Int32) (k : Nat) : Int32 := if nI k < nn then k_wi (m_en kind (f + nI k * st)) 0 9 else 0
theorem wi_c9 (v : Int32) : k_wi v 0 9 = m_c9 v := by
  unfold k_wi m_c9
  by_cases a : v < 0
  · have b : v < 9 := Int32.lt_of_lt_of_le a (by decide)
    rw [if_pos a, if_pos b, if_neg (Int32.not_lt.mpr (Int32.le_of_lt a))]
  · rw [if_neg a]
    by_cases b : 9 < v
    · have b' : ¬ v < 9 := Int32.not_lt.mpr (Int32.le_of_lt b)
      rw [if_pos b, if_neg b', if_pos (by decide)]
    · rw [if_neg b]
      by_cases b' : v < 9
      · rw [if_pos b']
        by_cases z : 0 < v
        · rw [if_pos z]
        · rw [if_neg z]; exact Int32.le_antisymm (Int32.not_lt.mp z) (Int32.not_lt.mp a)
      · rw [if_neg b', if_pos (by decide)]; exact Int32.le_antisymm (Int32.not_lt.mp b) (Int32.not_lt.mp b')
theorem m_cp_0 {f g : Nat → Int32} : m_cp f g 0 = g := by funext j; simp [m_cp]
set_option maxHeartbeats 1000000 in
theorem k_copySheet {I : Nat → Nat → Int32} {J : Nat → Nat → Int64} {R : Nat → Nat → Value} {d c : Nat} (hc : I 5 2 = nI c) (hc12 : c ≤ 12) (x y f st : Int32) : Cal lyC (d + 1) hX10_copySheet 6 [.ref 5, .int x, .int y, .int f, .int st] (I, J, R) (fun r M' => r = none ∧ M' = (va_up I 6 (m_cp (k_sh x y f st) (I 6) c), J, R)) := by
  have loop : ∀ (k b : Nat), b ≤ c → c - b < k → Ev lyC (d + 1) hX10_copySheet 3 [some (.ref 5), some (.int x), some (.int y), some (.int f), some (.int st), some (.int (nI b))] [] (va_up I 6 (m_cp (k_sh x y f st) (I 6) b), J, R) (fun r M' => r = none ∧ M' = (va_up I 6 (m_cp (k_sh x y f st) (I 6) c), J, R)) := by
    intro k
    induction k with
    | zero => intro b h1 h2; omega
    | succ k ih =>
      intro b hb hk
      refine ev_st dX10_copySheet_3 rfl rfl ?_
      refine ev_st dX10_copySheet_5 rfl rfl ?_
      refine ev_getI (v := nI c) dX10_copySheet_6 fr_10_18 rfl rfl hc ?_
      refine ev_ic_geN (t := 52) (a := b) (b := c) dX10_copySheet_9 (by decide) rfl rfl (by omega) (by omega) (fun c_9 => ?_) (fun c_9 => ?_)
      · exact ev_vret dX10_copySheet_52 rfl (⟨rfl, by rw [show b = c by omega]⟩)
      · refine ev_st dX10_copySheet_12 rfl rfl ?_
        refine ev_getC dX10_copySheet_13 fr_10_9 rfl rfl ?_
        refine ev_st dX10_copySheet_16 rfl rfl ?_
        refine ev_st dX10_copySheet_18 rfl rfl ?_
        refine ev_st dX10_copySheet_20 rfl rfl ?_
        refine ev_ic_ge (t := 44) (x := nI b) (y := y) dX10_copySheet_21 (by decide) (fun c_21 => ?_) (fun c_21 => ?_)
        · refine ev_iconst (v := 0) dX10_copySheet_44 (by decide) ?_
          refine ev_iast (j := b) dX10_copySheet_45 rfl rfl (by omega) (by decide) ?_
          refine ev_iincN (a := b) (b := b + 1) (L' := [some (.ref 5), some (.int x), some (.int y), some (.int f), some (.int st), some (.int (nI (b + 1)))]) dX10_copySheet_46 rfl (nI_1 _) rfl ?_
          refine ev_goto (t := 3) dX10_copySheet_49 (by decide) ?_
          have e9 : ti_wr (va_up I 6 (m_cp (k_sh x y f st) (I 6) b)) 6 b 0 = va_up I 6 (m_cp (k_sh x y f st) (I 6) (b + 1)) := by rw [ti_wr_up, ← m_cp_s]; simp only [k_sh]; rw [if_neg c_21]
          rw [e9]
          exact ih _ (by omega) (by omega)
        · refine ev_st dX10_copySheet_24 rfl rfl ?_
          refine ev_st dX10_copySheet_25 rfl rfl ?_
          refine ev_st dX10_copySheet_26 rfl rfl ?_
          refine ev_st dX10_copySheet_28 rfl rfl ?_
          refine ev_st dX10_copySheet_30 rfl rfl ?_
          refine ev_st dX10_copySheet_31 rfl rfl ?_
          refine ev_call dX10_copySheet_32 rfl rfl mr_10_45 rfl rfl rfl (k_entry (I := va_up I 6 (m_cp (k_sh x y f st) (I 6) b)) x (f + ((nI b) * st))) ?_
          rintro _ _ ⟨rfl, rfl⟩
          show Ev lyC (d + 1) hX10_copySheet 35 [some (.ref 5), some (.int x), some (.int y), some (.int f), some (.int st), some (.int (nI b))] [.int (m_en x (f + ((nI b) * st))), .int (nI b), .ref 6] (va_up I 6 (m_cp (k_sh x y f st) (I 6) b), J, R) _
          refine ev_iconst (v := 0) dX10_copySheet_35 (by decide) ?_
          refine ev_bipush (v := 9) dX10_copySheet_36 (by decide) ?_
          refine ev_call dX10_copySheet_38 rfl rfl mr_10_49 rfl rfl rfl (k_within (m_en x (f + ((nI b) * st))) 0 9) ?_
          rintro _ _ ⟨rfl, rfl⟩
          show Ev lyC (d + 1) hX10_copySheet 41 [some (.ref 5), some (.int x), some (.int y), some (.int f), some (.int st), some (.int (nI b))] [.int (k_wi (m_en x (f + ((nI b) * st))) 0 9), .int (nI b), .ref 6] (va_up I 6 (m_cp (k_sh x y f st) (I 6) b), J, R) _
          refine ev_goto (t := 45) dX10_copySheet_41 (by decide) ?_
          refine ev_iast (j := b) dX10_copySheet_45 rfl rfl (by omega) (by decide) ?_
          refine ev_iincN (a := b) (b := b + 1) (L' := [some (.ref 5), some (.int x), some (.int y), some (.int f), some (.int st), some (.int (nI (b + 1)))]) dX10_copySheet_46 rfl (nI_1 _) rfl ?_
          refine ev_goto (t := 3) dX10_copySheet_49 (by decide) ?_
          have e9 : ti_wr (va_up I 6 (m_cp (k_sh x y f st) (I 6) b)) 6 b (k_wi (m_en x (f + ((nI b) * st))) 0 9) = va_up I 6 (m_cp (k_sh x y f st) (I 6) (b + 1)) := by rw [ti_wr_up, ← m_cp_s]; simp only [k_sh]; rw [if_pos c_21]
          rw [e9]
          exact ih _ (by omega) (by omega)
  show Ev lyC (d + 1) hX10_copySheet 0 [some (.ref 5), some (.int x), some (.int y), some (.int f), some (.int st), none] [] (I, J, R) _
  refine ev_iconst (v := 0) dX10_copySheet_0 (by decide) ?_
  refine ev_st (L' := [some (.ref 5), some (.int x), some (.int y), some (.int f), some (.int st), some (.int 0)]) dX10_copySheet_1 rfl rfl ?_
  have K := loop (c + 1) 0 (by omega) (by omega)
  rw [m_cp_0, va_up_id] at K
  exact K
set_option maxHeartbeats 1000000 in
theorem k_steepInAll {I : Nat → Nat → Int32} {J : Nat → Nat → Int64} {R : Nat → Nat → Value} {d c : Nat} (hc : I 5 2 = nI c) (hc12 : c ≤ 12) : Cal lyC d hX10_steepInAll 3 [.ref 5] (I, J, R) (fun r M' => r = some (.int (m_sum (I 6) c)) ∧ M' = (I, J, R)) := by
  have loop : ∀ (k b : Nat) (m : Int32), b ≤ c → c - b < k → m = m_sum (I 6) b → Ev lyC d hX10_steepInAll 4 [some (.ref 5), some (.int m), some (.int (nI b))] [] (I, J, R) (fun r M' => r = some (.int (m_sum (I 6) c)) ∧ M' = (I, J, R)) := by
    intro k
    induction k with
    | zero => intro b m h1 h2; omega
    | succ k ih =>
      intro b m hb hk hm
      refine ev_st dX10_steepInAll_4 rfl rfl ?_
      refine ev_st dX10_steepInAll_5 rfl rfl ?_
      refine ev_getI (v := nI c) dX10_steepInAll_6 fr_10_18 rfl rfl hc ?_
      refine ev_ic_geN (t := 27) (a := b) (b := c) dX10_steepInAll_9 (by decide) rfl rfl (by omega) (by omega) (fun c_9 => ?_) (fun c_9 => ?_)
      · refine ev_st dX10_steepInAll_27 rfl rfl ?_
        exact ev_iret dX10_steepInAll_28 rfl (⟨by rw [hm, show b = c by omega], rfl⟩)
      · refine ev_st dX10_steepInAll_12 rfl rfl ?_
        refine ev_st dX10_steepInAll_13 rfl rfl ?_
        refine ev_getC dX10_steepInAll_14 fr_10_9 rfl rfl ?_
        refine ev_st dX10_steepInAll_17 rfl rfl ?_
        refine ev_iald (j := b) (v := I 6 b) dX10_steepInAll_18 rfl rfl (by omega) (by decide) rfl ?_
        refine ev_st dX10_steepInAll_19 rfl rfl ?_
        refine ev_st (L' := [some (.ref 5), some (.int (m + (I 6 b))), some (.int (nI b))]) dX10_steepInAll_20 rfl rfl ?_
        refine ev_iincN (a := b) (b := b + 1) (L' := [some (.ref 5), some (.int (m + (I 6 b))), some (.int (nI (b + 1)))]) dX10_steepInAll_21 rfl (nI_1 _) rfl ?_
        refine ev_goto (t := 4) dX10_steepInAll_24 (by decide) ?_
        exact ih _ _ (by omega) (by omega) (by simp [m_sum, hm])
  show Ev lyC d hX10_steepInAll 0 [some (.ref 5), none, none] [] (I, J, R) _
  refine ev_iconst (v := 0) dX10_steepInAll_0 (by decide) ?_
  refine ev_st (L' := [some (.ref 5), some (.int 0), none]) dX10_steepInAll_1 rfl rfl ?_
  refine ev_iconst (v := 0) dX10_steepInAll_2 (by decide) ?_
  refine ev_st (L' := [some (.ref 5), some (.int 0), some (.int 0)]) dX10_steepInAll_3 rfl rfl ?_
  exact loop (c + 1) 0 0 (by omega) (by omega) rfl
theorem k_sheet1 {I : Nat → Nat → Int32} {J : Nat → Nat → Int64} {R : Nat → Nat → Value} {d : Nat} {x y f st : Int32} (hx : ¬ (m_in x 0 3 = 1 ∧ ¬ 12 < y)) : Cal lyC (d + 2) hX11_sheet 5 [.ref 0, .int x, .int y, .int f, .int st] (I, J, R) (fun r M' => r = some (.int (-1)) ∧ M' = (I, J, R)) := by
  show Ev lyC (d + 2) hX11_sheet 0 [some (.ref 0), some (.int x), some (.int y), some (.int f), some (.int st)] [] (I, J, R) _
  refine ev_st dX11_sheet_0 rfl rfl ?_
  refine ev_if_lt (t := 15) (x := x) dX11_sheet_1 (by decide) (fun c_1 => ?_) (fun c_1 => ?_)
  · refine ev_iconst (v := -1) dX11_sheet_15 (by decide) ?_
    exact ev_iret dX11_sheet_16 rfl (⟨rfl, rfl⟩)
  · refine ev_st dX11_sheet_4 rfl rfl ?_
    refine ev_iconst (v := 3) dX11_sheet_5 (by decide) ?_
    refine ev_ic_gt (t := 15) (x := x) (y := 3) dX11_sheet_6 (by decide) (fun c_6 => ?_) (fun c_6 => ?_)
    · refine ev_iconst (v := -1) dX11_sheet_15 (by decide) ?_
      exact ev_iret dX11_sheet_16 rfl (⟨rfl, rfl⟩)
    · refine ev_st dX11_sheet_9 rfl rfl ?_
      refine ev_bipush (v := 12) dX11_sheet_10 (by decide) ?_
      refine ev_ic_le (t := 17) (x := y) (y := 12) dX11_sheet_12 (by decide) (fun c_12 => ?_) (fun c_12 => ?_)
      · exact absurd ⟨by simp [m_in, c_1, c_6], c_12⟩ hx
      · refine ev_iconst (v := -1) dX11_sheet_15 (by decide) ?_
        exact ev_iret dX11_sheet_16 rfl (⟨rfl, rfl⟩)
theorem k_sheet2 {I : Nat → Nat → Int32} {J : Nat → Nat → Int64} {R : Nat → Nat → Value} {d : Nat} {x y f st : Int32} (hx : m_in x 0 3 = 1) (hy : ¬ 12 < y) (h3 : x < 3) (h0 : y < 0) : Cal lyC (d + 2) hX11_sheet 5 [.ref 0, .int x, .int y, .int f, .int st] (I, J, R) (fun r M' => r = some (.int (-2)) ∧ M' = (I, J, R)) := by
  show Ev lyC (d + 2) hX11_sheet 0 [some (.ref 0), some (.int x), some (.int y), some (.int f), some (.int st)] [] (I, J, R) _
  refine ev_st dX11_sheet_0 rfl rfl ?_
  refine ev_if_lt (t := 15) (x := x) dX11_sheet_1 (by decide) (fun c_1 => ?_) (fun c_1 => ?_)
  · exact absurd hx (by simp [m_in, c_1])
  · refine ev_st dX11_sheet_4 rfl rfl ?_
    refine ev_iconst (v := 3) dX11_sheet_5 (by decide) ?_
    refine ev_ic_gt (t := 15) (x := x) (y := 3) dX11_sheet_6 (by decide) (fun c_6 => ?_) (fun c_6 => ?_)
    · exact absurd hx (by simp [m_in, c_1, c_6])
    · refine ev_st dX11_sheet_9 rfl rfl ?_
      refine ev_bipush (v := 12) dX11_sheet_10 (by decide) ?_
      refine ev_ic_le (t := 17) (x := y) (y := 12) dX11_sheet_12 (by decide) (fun c_12 => ?_) (fun c_12 => ?_)
      · refine ev_st dX11_sheet_17 rfl rfl ?_
        refine ev_iconst (v := 3) dX11_sheet_18 (by decide) ?_
        refine ev_ic_ne (t := 37) (x := x) (y := 3) dX11_sheet_19 (by decide) (fun c_19 => ?_) (fun c_19 => ?_)
        · refine ev_st dX11_sheet_37 rfl rfl ?_
          refine ev_if_ge (t := 44) (x := y) dX11_sheet_38 (by decide) (fun c_38 => ?_) (fun c_38 => ?_)
          · exact absurd h0 c_38
          · refine ev_bipush (v := -2) dX11_sheet_41 (by decide) ?_
            exact ev_iret dX11_sheet_43 rfl (⟨rfl, rfl⟩)
        · exact absurd h3 (by rw [c_19]; decide)
      · exact absurd c_12 hy
theorem k_sheet3 {I : Nat → Nat → Int32} {J : Nat → Nat → Int64} {R : Nat → Nat → Value} {d c : Nat} (hc : I 5 2 = nI c) (hc12 : c ≤ 12) {y f st : Int32} (hy : ¬ 12 < y) : Cal lyC (d + 2) hX11_sheet 5 [.ref 0, .int 3, .int y, .int f, .int st] (I, J, R) (fun r M' => r = some (.int (-3)) ∧ M' = (va_up I 6 (m_cp (k_sh 3 0 f st) (I 6) c), J, R)) := by
  show Ev lyC (d + 2) hX11_sheet 0 [some (.ref 0), some (.int 3), some (.int y), some (.int f), some (.int st)] [] (I, J, R) _
  refine ev_st dX11_sheet_0 rfl rfl ?_
  refine ev_if_lt (t := 15) dX11_sheet_1 (by decide) (fun q => absurd q (by decide)) (fun _ => ?_)
  refine ev_st dX11_sheet_4 rfl rfl ?_
  refine ev_iconst (v := 3) dX11_sheet_5 (by decide) ?_
  refine ev_ic_gtN (t := 15) (a := 3) (b := 3) dX11_sheet_6 (by decide) rfl rfl (by omega) (by omega) (fun c_6 => ?_) (fun c_6 => ?_)
  · omega
  · refine ev_st dX11_sheet_9 rfl rfl ?_
    refine ev_bipush (v := 12) dX11_sheet_10 (by decide) ?_
    refine ev_ic_le (t := 17) (x := y) (y := 12) dX11_sheet_12 (by decide) (fun c_12 => ?_) (fun c_12 => ?_)
    · refine ev_st dX11_sheet_17 rfl rfl ?_
      refine ev_iconst (v := 3) dX11_sheet_18 (by decide) ?_
      refine ev_ic_neN (t := 37) (a := 3) (b := 3) dX11_sheet_19 (by decide) rfl rfl (by omega) (by omega) (fun c_19 => ?_) (fun c_19 => ?_)
      · omega
      · refine ev_st dX11_sheet_22 rfl rfl ?_
        refine ev_getC dX11_sheet_23 fr_11_26 rfl rfl ?_
        refine ev_st dX11_sheet_26 rfl rfl ?_
        refine ev_iconst (v := 0) dX11_sheet_27 (by decide) ?_
        refine ev_st dX11_sheet_28 rfl rfl ?_
        refine ev_st dX11_sheet_29 rfl rfl ?_
        refine ev_call dX11_sheet_31 rfl rfl mr_11_213 rfl rfl rfl (k_copySheet hc hc12 3 0 f st) ?_
        rintro _ _ ⟨rfl, rfl⟩
        show Ev lyC (d + 2) hX11_sheet 34 [some (.ref 0), some (.int 3), some (.int y), some (.int f), some (.int st)] [] (va_up I 6 (m_cp (k_sh 3 0 f st) (I 6) c), J, R) _
        refine ev_bipush (v := -3) dX11_sheet_34 (by decide) ?_
        exact ev_iret dX11_sheet_36 rfl (⟨rfl, rfl⟩)
    · exact absurd c_12 hy
theorem k_sheet {I : Nat → Nat → Int32} {J : Nat → Nat → Int64} {R : Nat → Nat → Value} {d c : Nat} (hc : I 5 2 = nI c) (hc12 : c ≤ 12) {x y f st : Int32} (hx : m_in x 0 3 = 1) (h3 : ¬ x = 3) (hy : ¬ 12 < y) (h0 : ¬ y < 0) : Cal lyC (d + 2) hX11_sheet 5 [.ref 0, .int x, .int y, .int f, .int st] (I, J, R) (fun r M' => r = some (.int (m_sum (m_cp (k_sh x y f st) (I 6) c) c)) ∧ M' = (va_up I 6 (m_cp (k_sh x y f st) (I 6) c), J, R)) := by
  show Ev lyC (d + 2) hX11_sheet 0 [some (.ref 0), some (.int x), some (.int y), some (.int f), some (.int st)] [] (I, J, R) _
  refine ev_st dX11_sheet_0 rfl rfl ?_
  refine ev_if_lt (t := 15) (x := x) dX11_sheet_1 (by decide) (fun c_1 => ?_) (fun c_1 => ?_)
  · exact absurd hx (by simp [m_in, c_1])
  · refine ev_st dX11_sheet_4 rfl rfl ?_
    refine ev_iconst (v := 3) dX11_sheet_5 (by decide) ?_
    refine ev_ic_gt (t := 15) (x := x) (y := 3) dX11_sheet_6 (by decide) (fun c_6 => ?_) (fun c_6 => ?_)
    · exact absurd hx (by simp [m_in, c_1, c_6])
    · refine ev_st dX11_sheet_9 rfl rfl ?_
      refine ev_bipush (v := 12) dX11_sheet_10 (by decide) ?_
      refine ev_ic_le (t := 17) (x := y) (y := 12) dX11_sheet_12 (by decide) (fun c_12 => ?_) (fun c_12 => ?_)
      · refine ev_st dX11_sheet_17 rfl rfl ?_
        refine ev_iconst (v := 3) dX11_sheet_18 (by decide) ?_
        refine ev_ic_ne (t := 37) (x := x) (y := 3) dX11_sheet_19 (by decide) (fun c_19 => ?_) (fun c_19 => ?_)
        · refine ev_st dX11_sheet_37 rfl rfl ?_
          refine ev_if_ge (t := 44) (x := y) dX11_sheet_38 (by decide) (fun c_38 => ?_) (fun c_38 => ?_)
          · refine ev_st dX11_sheet_44 rfl rfl ?_
            refine ev_getC dX11_sheet_45 fr_11_26 rfl rfl ?_
            refine ev_st dX11_sheet_48 rfl rfl ?_
            refine ev_st dX11_sheet_49 rfl rfl ?_
            refine ev_st dX11_sheet_50 rfl rfl ?_
            refine ev_st dX11_sheet_51 rfl rfl ?_
            refine ev_call dX11_sheet_53 rfl rfl mr_11_213 rfl rfl rfl (k_copySheet hc hc12 x y f st) ?_
            rintro _ _ ⟨rfl, rfl⟩
            show Ev lyC (d + 2) hX11_sheet 56 [some (.ref 0), some (.int x), some (.int y), some (.int f), some (.int st)] [] (va_up I 6 (m_cp (k_sh x y f st) (I 6) c), J, R) _
            refine ev_st dX11_sheet_56 rfl rfl ?_
            refine ev_getC dX11_sheet_57 fr_11_26 rfl rfl ?_
            refine ev_call dX11_sheet_60 rfl rfl mr_11_217 rfl rfl rfl (k_steepInAll (I := va_up I 6 (m_cp (k_sh x y f st) (I 6) c)) (by rw [va_up_n (by decide)]; exact hc) hc12) ?_
            rintro _ _ ⟨rfl, rfl⟩
            show Ev lyC (d + 2) hX11_sheet 63 [some (.ref 0), some (.int x), some (.int y), some (.int f), some (.int st)] [.int (m_sum (va_up I 6 (m_cp (k_sh x y f st) (I 6) c) 6) c)] (va_up I 6 (m_cp (k_sh x y f st) (I 6) c), J, R) _
            exact ev_iret dX11_sheet_63 rfl (⟨by rw [va_up_q], rfl⟩)
          · exact absurd c_38 h0
        · exact absurd c_19 h3
      · exact absurd c_12 hy
