set_option maxHeartbeats 4000000 in
theorem k_advance_31_39 {I I2 : Nat → Nat → Int32} {J : Nat → Nat → Int64} {R : Nat → Nat → Value} {d n c a z : Nat} {rv : RV} (hn : I 8 3 = nI n) (hn8 : n ≤ 8) (hc : I 5 2 = nI c) (hc12 : c ≤ 12) (ha : I 39 1 = nI a) (ha12 : a ≤ 12) (hz : I 31 3 = nI z) (hR : RC d 31 (I 32) z rv) (hs : sC I I2) : Cal lyC (d + 5) hX7_advance 5 [.ref 39, .ref 5, .ref 8, .ref 31] (I2, J, R) (fun r M' => r = some (.int (if m_rS c a (I 39 3) = 0 then m_sg (k_fo z rv (I 9) (I 10) (I 40) (k_tl (I 10) (I 39 3) n) (m_st c (I 6) a) (I 39 3) n) (I 39 2 + m_st c (I 6) a) else m_rS c a (I 39 3))) ∧ ∃ I3, M' = (I3, J, R) ∧ sC (if m_rS c a (I 39 3) = 0 then k_ad I 39 n (m_sg (k_fo z rv (I 9) (I 10) (I 40) (k_tl (I 10) (I 39 3) n) (m_st c (I 6) a) (I 39 3) n) (I 39 2 + m_st c (I 6) a)) else I) I3) := by
  show Ev lyC (d + 5) hX7_advance 0 [some (.ref 39), some (.ref 5), some (.ref 8), some (.ref 31), none] [] (I2, J, R) _
  refine ev_st dX7_advance_0 rfl rfl ?_
  refine ev_getI (v := nI a) dX7_advance_1 fr_7_25 rfl rfl (by rw [hs.r 39 rfl]; exact ha) ?_
  refine ev_st dX7_advance_4 rfl rfl ?_
  refine ev_getI (v := nI c) dX7_advance_5 fr_7_44 rfl rfl (by rw [hs.r 5 rfl]; exact hc) ?_
  refine ev_ic_ltN (t := 14) (a := a) (b := c) dX7_advance_8 (by decide) rfl rfl (by omega) (by omega) (fun c_8 => ?_) (fun c_8 => ?_)
  · refine ev_st dX7_advance_14 rfl rfl ?_
    refine ev_getI (v := I 39 3) dX7_advance_15 fr_7_28 rfl rfl (by rw [hs.r 39 rfl]) ?_
    refine ev_if_ne (t := 24) (x := I 39 3) dX7_advance_18 (by decide) (fun c_18 => ?_) (fun c_18 => ?_)
    · refine ev_st dX7_advance_24 rfl rfl ?_
      refine ev_st dX7_advance_25 rfl rfl ?_
      refine ev_st dX7_advance_26 rfl rfl ?_
      refine ev_getI (v := I 39 3) dX7_advance_27 fr_7_28 rfl rfl (by rw [hs.r 39 rfl]) ?_
      refine ev_st dX7_advance_30 rfl rfl ?_
      refine ev_call dX7_advance_31 rfl rfl mr_7_49 rfl rfl rfl (k_forceOf_31_39 hn hn8 hc hc12 ha ha12 hz hR hs (I 39 3)) ?_
      rintro _ _ ⟨rfl, I3, rfl, hs3⟩
      show Ev lyC (d + 5) hX7_advance 34 [some (.ref 39), some (.ref 5), some (.ref 8), some (.ref 31), none] [.int (k_fo z rv (I 9) (I 10) (I 40) (k_tl (I 10) (I 39 3) n) (m_st c (I 6) a) (I 39 3) n)] (I3, J, R) _
      refine ev_st dX7_advance_34 rfl rfl ?_
      refine ev_getI (v := I 39 2) dX7_advance_35 fr_7_15 rfl rfl (by rw [hs3.r 39 rfl]) ?_
      refine ev_st dX7_advance_38 rfl rfl ?_
      refine ev_st dX7_advance_39 rfl rfl ?_
      refine ev_getI (v := nI a) dX7_advance_40 fr_7_25 rfl rfl (by rw [hs3.r 39 rfl]; exact ha) ?_
      refine ev_call dX7_advance_43 rfl rfl mr_7_55 rfl rfl rfl ((by have K := k_steepAt (I := I3) (J := J) (R := R) (d := d + 4) (c := c) (a := a) (by rw [hs3.r 5 rfl]; exact hc) hc12 ha12; rw [hs3.r 6 rfl] at K; exact K)) ?_
      rintro _ _ ⟨rfl, rfl⟩
      show Ev lyC (d + 5) hX7_advance 46 [some (.ref 39), some (.ref 5), some (.ref 8), some (.ref 31), none] [.int (m_st c (I 6) a), .int (I 39 2), .int (k_fo z rv (I 9) (I 10) (I 40) (k_tl (I 10) (I 39 3) n) (m_st c (I 6) a) (I 39 3) n)] (I3, J, R) _
      refine ev_st dX7_advance_46 rfl rfl ?_
      refine ev_ic_ge (t := 54) (x := k_fo z rv (I 9) (I 10) (I 40) (k_tl (I 10) (I 39 3) n) (m_st c (I 6) a) (I 39 3) n) (y := (I 39 2) + (m_st c (I 6) a)) dX7_advance_47 (by decide) (fun c_47 => ?_) (fun c_47 => ?_)
      · refine ev_iconst (v := 0) dX7_advance_54 (by decide) ?_
        refine ev_st (L' := [some (.ref 39), some (.ref 5), some (.ref 8), some (.ref 31), some (.int 0)]) dX7_advance_55 rfl rfl ?_
        refine ev_st dX7_advance_57 rfl rfl ?_
        refine ev_st dX7_advance_58 rfl rfl ?_
        refine ev_getI (v := I 39 7) dX7_advance_59 fr_7_41 rfl rfl (by rw [hs3.r 39 rfl]) ?_
        refine ev_st dX7_advance_62 rfl rfl ?_
        refine ev_st dX7_advance_64 rfl rfl ?_
        refine ev_putI dX7_advance_65 fr_7_41 rfl rfl ?_
        refine ev_st dX7_advance_68 rfl rfl ?_
        refine ev_st dX7_advance_69 rfl rfl ?_
        refine ev_getI (v := nI n) dX7_advance_70 fr_7_59 rfl rfl (by show I3 8 3 = _; rw [hs3.r 8 rfl]; exact hn) ?_
        refine ev_iconst (v := 1) dX7_advance_73 (by decide) ?_
        refine ev_iconst (v := 2) dX7_advance_74 (by decide) ?_
        refine ev_st dX7_advance_75 rfl rfl ?_
        refine ev_imulN (a := 2) (b := 0) (c := 0) dX7_advance_77 rfl rfl rfl ?_
        refine ev_iaddN (a := 1) (b := 0) (c := 1) dX7_advance_78 rfl rfl rfl ?_
        refine ev_call dX7_advance_79 rfl rfl mr_7_62 rfl rfl rfl (k_moveOn_39 (I := ti_wr I3 39 7 ((I 39 7) + 0)) (n := n) hn8 (nI 1)) ?_
        rintro _ _ ⟨rfl, rfl⟩
        show Ev lyC (d + 5) hX7_advance 82 [some (.ref 39), some (.ref 5), some (.ref 8), some (.ref 31), some (.int 0)] [] (k_mv (ti_wr I3 39 7 ((I 39 7) + 0)) 39 n (nI 1), J, R) _
        refine ev_st dX7_advance_82 rfl rfl ?_
        exact ev_iret dX7_advance_84 rfl (⟨by simp [m_rS, Nat.not_le.mpr c_8, c_18, m_sg, c_47], by simp only [m_rS, if_neg (Nat.not_le.mpr c_8), if_neg c_18, if_true]; refine ⟨_, rfl, ?_⟩; simp only [m_sg, if_neg c_47]; exact (hs3.wr 39 rfl 7 _).mv rfl rfl _ _⟩)
      · refine ev_iconst (v := 1) dX7_advance_50 (by decide) ?_
        refine ev_goto (t := 55) dX7_advance_51 (by decide) ?_
        refine ev_st (L' := [some (.ref 39), some (.ref 5), some (.ref 8), some (.ref 31), some (.int 1)]) dX7_advance_55 rfl rfl ?_
        refine ev_st dX7_advance_57 rfl rfl ?_
        refine ev_st dX7_advance_58 rfl rfl ?_
        refine ev_getI (v := I 39 7) dX7_advance_59 fr_7_41 rfl rfl (by rw [hs3.r 39 rfl]) ?_
        refine ev_st dX7_advance_62 rfl rfl ?_
        refine ev_st dX7_advance_64 rfl rfl ?_
        refine ev_putI dX7_advance_65 fr_7_41 rfl rfl ?_
        refine ev_st dX7_advance_68 rfl rfl ?_
        refine ev_st dX7_advance_69 rfl rfl ?_
        refine ev_getI (v := nI n) dX7_advance_70 fr_7_59 rfl rfl (by show I3 8 3 = _; rw [hs3.r 8 rfl]; exact hn) ?_
        refine ev_iconst (v := 1) dX7_advance_73 (by decide) ?_
        refine ev_iconst (v := 2) dX7_advance_74 (by decide) ?_
        refine ev_st dX7_advance_75 rfl rfl ?_
        refine ev_imulN (a := 2) (b := 1) (c := 2) dX7_advance_77 rfl rfl rfl ?_
        refine ev_iaddN (a := 1) (b := 2) (c := 3) dX7_advance_78 rfl rfl rfl ?_
        refine ev_call dX7_advance_79 rfl rfl mr_7_62 rfl rfl rfl (k_moveOn_39 (I := ti_wr I3 39 7 ((I 39 7) + 1)) (n := n) hn8 (nI 3)) ?_
        rintro _ _ ⟨rfl, rfl⟩
        show Ev lyC (d + 5) hX7_advance 82 [some (.ref 39), some (.ref 5), some (.ref 8), some (.ref 31), some (.int 1)] [] (k_mv (ti_wr I3 39 7 ((I 39 7) + 1)) 39 n (nI 3), J, R) _
        refine ev_st dX7_advance_82 rfl rfl ?_
        exact ev_iret dX7_advance_84 rfl (⟨by simp [m_rS, Nat.not_le.mpr c_8, c_18, m_sg, c_47], by simp only [m_rS, if_neg (Nat.not_le.mpr c_8), if_neg c_18, if_true]; refine ⟨_, rfl, ?_⟩; simp only [m_sg, if_pos c_47]; exact (hs3.wr 39 rfl 7 _).mv rfl rfl _ _⟩)
    · refine ev_bipush (v := -3) dX7_advance_21 (by decide) ?_
      exact ev_iret dX7_advance_23 rfl (⟨by simp [m_rS, Nat.not_le.mpr c_8, c_18], by simp [m_rS, Nat.not_le.mpr c_8, c_18]; exact hs⟩)
  · refine ev_bipush (v := -2) dX7_advance_11 (by decide) ?_
    exact ev_iret dX7_advance_13 rfl (⟨by simp [m_rS, c_8], by simp [m_rS, c_8]; exact hs⟩)
set_option maxHeartbeats 4000000 in
theorem k_advance_35_39 {I I2 : Nat → Nat → Int32} {J : Nat → Nat → Int64} {R : Nat → Nat → Value} {d n c a z : Nat} {rv : RV} (hn : I 8 3 = nI n) (hn8 : n ≤ 8) (hc : I 5 2 = nI c) (hc12 : c ≤ 12) (ha : I 39 1 = nI a) (ha12 : a ≤ 12) (hz : I 35 3 = nI z) (hR : RC d 35 (I 36) z rv) (hs : sC I I2) : Cal lyC (d + 5) hX7_advance 5 [.ref 39, .ref 5, .ref 8, .ref 35] (I2, J, R) (fun r M' => r = some (.int (if m_rS c a (I 39 3) = 0 then m_sg (k_fo z rv (I 9) (I 10) (I 40) (k_tl (I 10) (I 39 3) n) (m_st c (I 6) a) (I 39 3) n) (I 39 2 + m_st c (I 6) a) else m_rS c a (I 39 3))) ∧ ∃ I3, M' = (I3, J, R) ∧ sC (if m_rS c a (I 39 3) = 0 then k_ad I 39 n (m_sg (k_fo z rv (I 9) (I 10) (I 40) (k_tl (I 10) (I 39 3) n) (m_st c (I 6) a) (I 39 3) n) (I 39 2 + m_st c (I 6) a)) else I) I3) := by
  show Ev lyC (d + 5) hX7_advance 0 [some (.ref 39), some (.ref 5), some (.ref 8), some (.ref 35), none] [] (I2, J, R) _
  refine ev_st dX7_advance_0 rfl rfl ?_
  refine ev_getI (v := nI a) dX7_advance_1 fr_7_25 rfl rfl (by rw [hs.r 39 rfl]; exact ha) ?_
  refine ev_st dX7_advance_4 rfl rfl ?_
  refine ev_getI (v := nI c) dX7_advance_5 fr_7_44 rfl rfl (by rw [hs.r 5 rfl]; exact hc) ?_
  refine ev_ic_ltN (t := 14) (a := a) (b := c) dX7_advance_8 (by decide) rfl rfl (by omega) (by omega) (fun c_8 => ?_) (fun c_8 => ?_)
  · refine ev_st dX7_advance_14 rfl rfl ?_
    refine ev_getI (v := I 39 3) dX7_advance_15 fr_7_28 rfl rfl (by rw [hs.r 39 rfl]) ?_
    refine ev_if_ne (t := 24) (x := I 39 3) dX7_advance_18 (by decide) (fun c_18 => ?_) (fun c_18 => ?_)
    · refine ev_st dX7_advance_24 rfl rfl ?_
      refine ev_st dX7_advance_25 rfl rfl ?_
      refine ev_st dX7_advance_26 rfl rfl ?_
      refine ev_getI (v := I 39 3) dX7_advance_27 fr_7_28 rfl rfl (by rw [hs.r 39 rfl]) ?_
      refine ev_st dX7_advance_30 rfl rfl ?_
      refine ev_call dX7_advance_31 rfl rfl mr_7_49 rfl rfl rfl (k_forceOf_35_39 hn hn8 hc hc12 ha ha12 hz hR hs (I 39 3)) ?_
      rintro _ _ ⟨rfl, I3, rfl, hs3⟩
      show Ev lyC (d + 5) hX7_advance 34 [some (.ref 39), some (.ref 5), some (.ref 8), some (.ref 35), none] [.int (k_fo z rv (I 9) (I 10) (I 40) (k_tl (I 10) (I 39 3) n) (m_st c (I 6) a) (I 39 3) n)] (I3, J, R) _
      refine ev_st dX7_advance_34 rfl rfl ?_
      refine ev_getI (v := I 39 2) dX7_advance_35 fr_7_15 rfl rfl (by rw [hs3.r 39 rfl]) ?_
      refine ev_st dX7_advance_38 rfl rfl ?_
      refine ev_st dX7_advance_39 rfl rfl ?_
      refine ev_getI (v := nI a) dX7_advance_40 fr_7_25 rfl rfl (by rw [hs3.r 39 rfl]; exact ha) ?_
      refine ev_call dX7_advance_43 rfl rfl mr_7_55 rfl rfl rfl ((by have K := k_steepAt (I := I3) (J := J) (R := R) (d := d + 4) (c := c) (a := a) (by rw [hs3.r 5 rfl]; exact hc) hc12 ha12; rw [hs3.r 6 rfl] at K; exact K)) ?_
      rintro _ _ ⟨rfl, rfl⟩
      show Ev lyC (d + 5) hX7_advance 46 [some (.ref 39), some (.ref 5), some (.ref 8), some (.ref 35), none] [.int (m_st c (I 6) a), .int (I 39 2), .int (k_fo z rv (I 9) (I 10) (I 40) (k_tl (I 10) (I 39 3) n) (m_st c (I 6) a) (I 39 3) n)] (I3, J, R) _
      refine ev_st dX7_advance_46 rfl rfl ?_
      refine ev_ic_ge (t := 54) (x := k_fo z rv (I 9) (I 10) (I 40) (k_tl (I 10) (I 39 3) n) (m_st c (I 6) a) (I 39 3) n) (y := (I 39 2) + (m_st c (I 6) a)) dX7_advance_47 (by decide) (fun c_47 => ?_) (fun c_47 => ?_)
      · refine ev_iconst (v := 0) dX7_advance_54 (by decide) ?_
        refine ev_st (L' := [some (.ref 39), some (.ref 5), some (.ref 8), some (.ref 35), some (.int 0)]) dX7_advance_55 rfl rfl ?_
        refine ev_st dX7_advance_57 rfl rfl ?_
        refine ev_st dX7_advance_58 rfl rfl ?_
        refine ev_getI (v := I 39 7) dX7_advance_59 fr_7_41 rfl rfl (by rw [hs3.r 39 rfl]) ?_
        refine ev_st dX7_advance_62 rfl rfl ?_
        refine ev_st dX7_advance_64 rfl rfl ?_
        refine ev_putI dX7_advance_65 fr_7_41 rfl rfl ?_
        refine ev_st dX7_advance_68 rfl rfl ?_
        refine ev_st dX7_advance_69 rfl rfl ?_
        refine ev_getI (v := nI n) dX7_advance_70 fr_7_59 rfl rfl (by show I3 8 3 = _; rw [hs3.r 8 rfl]; exact hn) ?_
        refine ev_iconst (v := 1) dX7_advance_73 (by decide) ?_
        refine ev_iconst (v := 2) dX7_advance_74 (by decide) ?_
        refine ev_st dX7_advance_75 rfl rfl ?_
        refine ev_imulN (a := 2) (b := 0) (c := 0) dX7_advance_77 rfl rfl rfl ?_
        refine ev_iaddN (a := 1) (b := 0) (c := 1) dX7_advance_78 rfl rfl rfl ?_
        refine ev_call dX7_advance_79 rfl rfl mr_7_62 rfl rfl rfl (k_moveOn_39 (I := ti_wr I3 39 7 ((I 39 7) + 0)) (n := n) hn8 (nI 1)) ?_
        rintro _ _ ⟨rfl, rfl⟩
        show Ev lyC (d + 5) hX7_advance 82 [some (.ref 39), some (.ref 5), some (.ref 8), some (.ref 35), some (.int 0)] [] (k_mv (ti_wr I3 39 7 ((I 39 7) + 0)) 39 n (nI 1), J, R) _
        refine ev_st dX7_advance_82 rfl rfl ?_
        exact ev_iret dX7_advance_84 rfl (⟨by simp [m_rS, Nat.not_le.mpr c_8, c_18, m_sg, c_47], by simp only [m_rS, if_neg (Nat.not_le.mpr c_8), if_neg c_18, if_true]; refine ⟨_, rfl, ?_⟩; simp only [m_sg, if_neg c_47]; exact (hs3.wr 39 rfl 7 _).mv rfl rfl _ _⟩)
      · refine ev_iconst (v := 1) dX7_advance_50 (by decide) ?_
        refine ev_goto (t := 55) dX7_advance_51 (by decide) ?_
        refine ev_st (L' := [some (.ref 39), some (.ref 5), some (.ref 8), some (.ref 35), some (.int 1)]) dX7_advance_55 rfl rfl ?_
        refine ev_st dX7_advance_57 rfl rfl ?_
        refine ev_st dX7_advance_58 rfl rfl ?_
        refine ev_getI (v := I 39 7) dX7_advance_59 fr_7_41 rfl rfl (by rw [hs3.r 39 rfl]) ?_
        refine ev_st dX7_advance_62 rfl rfl ?_
        refine ev_st dX7_advance_64 rfl rfl ?_
        refine ev_putI dX7_advance_65 fr_7_41 rfl rfl ?_
        refine ev_st dX7_advance_68 rfl rfl ?_
        refine ev_st dX7_advance_69 rfl rfl ?_
        refine ev_getI (v := nI n) dX7_advance_70 fr_7_59 rfl rfl (by show I3 8 3 = _; rw [hs3.r 8 rfl]; exact hn) ?_
        refine ev_iconst (v := 1) dX7_advance_73 (by decide) ?_
        refine ev_iconst (v := 2) dX7_advance_74 (by decide) ?_
        refine ev_st dX7_advance_75 rfl rfl ?_
        refine ev_imulN (a := 2) (b := 1) (c := 2) dX7_advance_77 rfl rfl rfl ?_
        refine ev_iaddN (a := 1) (b := 2) (c := 3) dX7_advance_78 rfl rfl rfl ?_
        refine ev_call dX7_advance_79 rfl rfl mr_7_62 rfl rfl rfl (k_moveOn_39 (I := ti_wr I3 39 7 ((I 39 7) + 1)) (n := n) hn8 (nI 3)) ?_
        rintro _ _ ⟨rfl, rfl⟩
        show Ev lyC (d + 5) hX7_advance 82 [some (.ref 39), some (.ref 5), some (.ref 8), some (.ref 35), some (.int 1)] [] (k_mv (ti_wr I3 39 7 ((I 39 7) + 1)) 39 n (nI 3), J, R) _
        refine ev_st dX7_advance_82 rfl rfl ?_
        exact ev_iret dX7_advance_84 rfl (⟨by simp [m_rS, Nat.not_le.mpr c_8, c_18, m_sg, c_47], by simp only [m_rS, if_neg (Nat.not_le.mpr c_8), if_neg c_18, if_true]; refine ⟨_, rfl, ?_⟩; simp only [m_sg, if_pos c_47]; exact (hs3.wr 39 rfl 7 _).mv rfl rfl _ _⟩)
    · refine ev_bipush (v := -3) dX7_advance_21 (by decide) ?_
      exact ev_iret dX7_advance_23 rfl (⟨by simp [m_rS, Nat.not_le.mpr c_8, c_18], by simp [m_rS, Nat.not_le.mpr c_8, c_18]; exact hs⟩)
  · refine ev_bipush (v := -2) dX7_advance_11 (by decide) ?_
    exact ev_iret dX7_advance_13 rfl (⟨by simp [m_rS, c_8], by simp [m_rS, c_8]; exact hs⟩)
set_option maxHeartbeats 4000000 in
theorem k_advance_31_41 {I I2 : Nat → Nat → Int32} {J : Nat → Nat → Int64} {R : Nat → Nat → Value} {d n c a z : Nat} {rv : RV} (hn : I 8 3 = nI n) (hn8 : n ≤ 8) (hc : I 5 2 = nI c) (hc12 : c ≤ 12) (ha : I 41 1 = nI a) (ha12 : a ≤ 12) (hz : I 31 3 = nI z) (hR : RC d 31 (I 32) z rv) (hs : sC I I2) : Cal lyC (d + 5) hX7_advance 5 [.ref 41, .ref 5, .ref 8, .ref 31] (I2, J, R) (fun r M' => r = some (.int (if m_rS c a (I 41 3) = 0 then m_sg (k_fo z rv (I 9) (I 10) (I 42) (k_tl (I 10) (I 41 3) n) (m_st c (I 6) a) (I 41 3) n) (I 41 2 + m_st c (I 6) a) else m_rS c a (I 41 3))) ∧ ∃ I3, M' = (I3, J, R) ∧ sC (if m_rS c a (I 41 3) = 0 then k_ad I 41 n (m_sg (k_fo z rv (I 9) (I 10) (I 42) (k_tl (I 10) (I 41 3) n) (m_st c (I 6) a) (I 41 3) n) (I 41 2 + m_st c (I 6) a)) else I) I3) := by
  show Ev lyC (d + 5) hX7_advance 0 [some (.ref 41), some (.ref 5), some (.ref 8), some (.ref 31), none] [] (I2, J, R) _
  refine ev_st dX7_advance_0 rfl rfl ?_
  refine ev_getI (v := nI a) dX7_advance_1 fr_7_25 rfl rfl (by rw [hs.r 41 rfl]; exact ha) ?_
  refine ev_st dX7_advance_4 rfl rfl ?_
  refine ev_getI (v := nI c) dX7_advance_5 fr_7_44 rfl rfl (by rw [hs.r 5 rfl]; exact hc) ?_
  refine ev_ic_ltN (t := 14) (a := a) (b := c) dX7_advance_8 (by decide) rfl rfl (by omega) (by omega) (fun c_8 => ?_) (fun c_8 => ?_)
  · refine ev_st dX7_advance_14 rfl rfl ?_
    refine ev_getI (v := I 41 3) dX7_advance_15 fr_7_28 rfl rfl (by rw [hs.r 41 rfl]) ?_
    refine ev_if_ne (t := 24) (x := I 41 3) dX7_advance_18 (by decide) (fun c_18 => ?_) (fun c_18 => ?_)
    · refine ev_st dX7_advance_24 rfl rfl ?_
      refine ev_st dX7_advance_25 rfl rfl ?_
      refine ev_st dX7_advance_26 rfl rfl ?_
      refine ev_getI (v := I 41 3) dX7_advance_27 fr_7_28 rfl rfl (by rw [hs.r 41 rfl]) ?_
      refine ev_st dX7_advance_30 rfl rfl ?_
      refine ev_call dX7_advance_31 rfl rfl mr_7_49 rfl rfl rfl (k_forceOf_31_41 hn hn8 hc hc12 ha ha12 hz hR hs (I 41 3)) ?_
      rintro _ _ ⟨rfl, I3, rfl, hs3⟩
      show Ev lyC (d + 5) hX7_advance 34 [some (.ref 41), some (.ref 5), some (.ref 8), some (.ref 31), none] [.int (k_fo z rv (I 9) (I 10) (I 42) (k_tl (I 10) (I 41 3) n) (m_st c (I 6) a) (I 41 3) n)] (I3, J, R) _
      refine ev_st dX7_advance_34 rfl rfl ?_
      refine ev_getI (v := I 41 2) dX7_advance_35 fr_7_15 rfl rfl (by rw [hs3.r 41 rfl]) ?_
      refine ev_st dX7_advance_38 rfl rfl ?_
      refine ev_st dX7_advance_39 rfl rfl ?_
      refine ev_getI (v := nI a) dX7_advance_40 fr_7_25 rfl rfl (by rw [hs3.r 41 rfl]; exact ha) ?_
      refine ev_call dX7_advance_43 rfl rfl mr_7_55 rfl rfl rfl ((by have K := k_steepAt (I := I3) (J := J) (R := R) (d := d + 4) (c := c) (a := a) (by rw [hs3.r 5 rfl]; exact hc) hc12 ha12; rw [hs3.r 6 rfl] at K; exact K)) ?_
      rintro _ _ ⟨rfl, rfl⟩
      show Ev lyC (d + 5) hX7_advance 46 [some (.ref 41), some (.ref 5), some (.ref 8), some (.ref 31), none] [.int (m_st c (I 6) a), .int (I 41 2), .int (k_fo z rv (I 9) (I 10) (I 42) (k_tl (I 10) (I 41 3) n) (m_st c (I 6) a) (I 41 3) n)] (I3, J, R) _
      refine ev_st dX7_advance_46 rfl rfl ?_
      refine ev_ic_ge (t := 54) (x := k_fo z rv (I 9) (I 10) (I 42) (k_tl (I 10) (I 41 3) n) (m_st c (I 6) a) (I 41 3) n) (y := (I 41 2) + (m_st c (I 6) a)) dX7_advance_47 (by decide) (fun c_47 => ?_) (fun c_47 => ?_)
      · refine ev_iconst (v := 0) dX7_advance_54 (by decide) ?_
        refine ev_st (L' := [some (.ref 41), some (.ref 5), some (.ref 8), some (.ref 31), some (.int 0)]) dX7_advance_55 rfl rfl ?_
        refine ev_st dX7_advance_57 rfl rfl ?_
        refine ev_st dX7_advance_58 rfl rfl ?_
        refine ev_getI (v := I 41 7) dX7_advance_59 fr_7_41 rfl rfl (by rw [hs3.r 41 rfl]) ?_
        refine ev_st dX7_advance_62 rfl rfl ?_
        refine ev_st dX7_advance_64 rfl rfl ?_
        refine ev_putI dX7_advance_65 fr_7_41 rfl rfl ?_
        refine ev_st dX7_advance_68 rfl rfl ?_
        refine ev_st dX7_advance_69 rfl rfl ?_
        refine ev_getI (v := nI n) dX7_advance_70 fr_7_59 rfl rfl (by show I3 8 3 = _; rw [hs3.r 8 rfl]; exact hn) ?_
        refine ev_iconst (v := 1) dX7_advance_73 (by decide) ?_
        refine ev_iconst (v := 2) dX7_advance_74 (by decide) ?_
        refine ev_st dX7_advance_75 rfl rfl ?_
        refine ev_imulN (a := 2) (b := 0) (c := 0) dX7_advance_77 rfl rfl rfl ?_
        refine ev_iaddN (a := 1) (b := 0) (c := 1) dX7_advance_78 rfl rfl rfl ?_
        refine ev_call dX7_advance_79 rfl rfl mr_7_62 rfl rfl rfl (k_moveOn_41 (I := ti_wr I3 41 7 ((I 41 7) + 0)) (n := n) hn8 (nI 1)) ?_
        rintro _ _ ⟨rfl, rfl⟩
        show Ev lyC (d + 5) hX7_advance 82 [some (.ref 41), some (.ref 5), some (.ref 8), some (.ref 31), some (.int 0)] [] (k_mv (ti_wr I3 41 7 ((I 41 7) + 0)) 41 n (nI 1), J, R) _
        refine ev_st dX7_advance_82 rfl rfl ?_
        exact ev_iret dX7_advance_84 rfl (⟨by simp [m_rS, Nat.not_le.mpr c_8, c_18, m_sg, c_47], by simp only [m_rS, if_neg (Nat.not_le.mpr c_8), if_neg c_18, if_true]; refine ⟨_, rfl, ?_⟩; simp only [m_sg, if_neg c_47]; exact (hs3.wr 41 rfl 7 _).mv rfl rfl _ _⟩)
      · refine ev_iconst (v := 1) dX7_advance_50 (by decide) ?_
        refine ev_goto (t := 55) dX7_advance_51 (by decide) ?_
        refine ev_st (L' := [some (.ref 41), some (.ref 5), some (.ref 8), some (.ref 31), some (.int 1)]) dX7_advance_55 rfl rfl ?_
        refine ev_st dX7_advance_57 rfl rfl ?_
        refine ev_st dX7_advance_58 rfl rfl ?_
        refine ev_getI (v := I 41 7) dX7_advance_59 fr_7_41 rfl rfl (by rw [hs3.r 41 rfl]) ?_
        refine ev_st dX7_advance_62 rfl rfl ?_
        refine ev_st dX7_advance_64 rfl rfl ?_
        refine ev_putI dX7_advance_65 fr_7_41 rfl rfl ?_
        refine ev_st dX7_advance_68 rfl rfl ?_
        refine ev_st dX7_advance_69 rfl rfl ?_
        refine ev_getI (v := nI n) dX7_advance_70 fr_7_59 rfl rfl (by show I3 8 3 = _; rw [hs3.r 8 rfl]; exact hn) ?_
        refine ev_iconst (v := 1) dX7_advance_73 (by decide) ?_
        refine ev_iconst (v := 2) dX7_advance_74 (by decide) ?_
        refine ev_st dX7_advance_75 rfl rfl ?_
        refine ev_imulN (a := 2) (b := 1) (c := 2) dX7_advance_77 rfl rfl rfl ?_
        refine ev_iaddN (a := 1) (b := 2) (c := 3) dX7_advance_78 rfl rfl rfl ?_
        refine ev_call dX7_advance_79 rfl rfl mr_7_62 rfl rfl rfl (k_moveOn_41 (I := ti_wr I3 41 7 ((I 41 7) + 1)) (n := n) hn8 (nI 3)) ?_
        rintro _ _ ⟨rfl, rfl⟩
        show Ev lyC (d + 5) hX7_advance 82 [some (.ref 41), some (.ref 5), some (.ref 8), some (.ref 31), some (.int 1)] [] (k_mv (ti_wr I3 41 7 ((I 41 7) + 1)) 41 n (nI 3), J, R) _
        refine ev_st dX7_advance_82 rfl rfl ?_
        exact ev_iret dX7_advance_84 rfl (⟨by simp [m_rS, Nat.not_le.mpr c_8, c_18, m_sg, c_47], by simp only [m_rS, if_neg (Nat.not_le.mpr c_8), if_neg c_18, if_true]; refine ⟨_, rfl, ?_⟩; simp only [m_sg, if_pos c_47]; exact (hs3.wr 41 rfl 7 _).mv rfl rfl _ _⟩)
    · refine ev_bipush (v := -3) dX7_advance_21 (by decide) ?_
      exact ev_iret dX7_advance_23 rfl (⟨by simp [m_rS, Nat.not_le.mpr c_8, c_18], by simp [m_rS, Nat.not_le.mpr c_8, c_18]; exact hs⟩)
  · refine ev_bipush (v := -2) dX7_advance_11 (by decide) ?_
    exact ev_iret dX7_advance_13 rfl (⟨by simp [m_rS, c_8], by simp [m_rS, c_8]; exact hs⟩)
set_option maxHeartbeats 4000000 in
theorem k_advance_35_41 {I I2 : Nat → Nat → Int32} {J : Nat → Nat → Int64} {R : Nat → Nat → Value} {d n c a z : Nat} {rv : RV} (hn : I 8 3 = nI n) (hn8 : n ≤ 8) (hc : I 5 2 = nI c) (hc12 : c ≤ 12) (ha : I 41 1 = nI a) (ha12 : a ≤ 12) (hz : I 35 3 = nI z) (hR : RC d 35 (I 36) z rv) (hs : sC I I2) : Cal lyC (d + 5) hX7_advance 5 [.ref 41, .ref 5, .ref 8, .ref 35] (I2, J, R) (fun r M' => r = some (.int (if m_rS c a (I 41 3) = 0 then m_sg (k_fo z rv (I 9) (I 10) (I 42) (k_tl (I 10) (I 41 3) n) (m_st c (I 6) a) (I 41 3) n) (I 41 2 + m_st c (I 6) a) else m_rS c a (I 41 3))) ∧ ∃ I3, M' = (I3, J, R) ∧ sC (if m_rS c a (I 41 3) = 0 then k_ad I 41 n (m_sg (k_fo z rv (I 9) (I 10) (I 42) (k_tl (I 10) (I 41 3) n) (m_st c (I 6) a) (I 41 3) n) (I 41 2 + m_st c (I 6) a)) else I) I3) := by
  show Ev lyC (d + 5) hX7_advance 0 [some (.ref 41), some (.ref 5), some (.ref 8), some (.ref 35), none] [] (I2, J, R) _
  refine ev_st dX7_advance_0 rfl rfl ?_
  refine ev_getI (v := nI a) dX7_advance_1 fr_7_25 rfl rfl (by rw [hs.r 41 rfl]; exact ha) ?_
  refine ev_st dX7_advance_4 rfl rfl ?_
  refine ev_getI (v := nI c) dX7_advance_5 fr_7_44 rfl rfl (by rw [hs.r 5 rfl]; exact hc) ?_
  refine ev_ic_ltN (t := 14) (a := a) (b := c) dX7_advance_8 (by decide) rfl rfl (by omega) (by omega) (fun c_8 => ?_) (fun c_8 => ?_)
  · refine ev_st dX7_advance_14 rfl rfl ?_
    refine ev_getI (v := I 41 3) dX7_advance_15 fr_7_28 rfl rfl (by rw [hs.r 41 rfl]) ?_
    refine ev_if_ne (t := 24) (x := I 41 3) dX7_advance_18 (by decide) (fun c_18 => ?_) (fun c_18 => ?_)
    · refine ev_st dX7_advance_24 rfl rfl ?_
      refine ev_st dX7_advance_25 rfl rfl ?_
      refine ev_st dX7_advance_26 rfl rfl ?_
      refine ev_getI (v := I 41 3) dX7_advance_27 fr_7_28 rfl rfl (by rw [hs.r 41 rfl]) ?_
      refine ev_st dX7_advance_30 rfl rfl ?_
      refine ev_call dX7_advance_31 rfl rfl mr_7_49 rfl rfl rfl (k_forceOf_35_41 hn hn8 hc hc12 ha ha12 hz hR hs (I 41 3)) ?_
      rintro _ _ ⟨rfl, I3, rfl, hs3⟩
      show Ev lyC (d + 5) hX7_advance 34 [some (.ref 41), some (.ref 5), some (.ref 8), some (.ref 35), none] [.int (k_fo z rv (I 9) (I 10) (I 42) (k_tl (I 10) (I 41 3) n) (m_st c (I 6) a) (I 41 3) n)] (I3, J, R) _
      refine ev_st dX7_advance_34 rfl rfl ?_
      refine ev_getI (v := I 41 2) dX7_advance_35 fr_7_15 rfl rfl (by rw [hs3.r 41 rfl]) ?_
      refine ev_st dX7_advance_38 rfl rfl ?_
      refine ev_st dX7_advance_39 rfl rfl ?_
      refine ev_getI (v := nI a) dX7_advance_40 fr_7_25 rfl rfl (by rw [hs3.r 41 rfl]; exact ha) ?_
      refine ev_call dX7_advance_43 rfl rfl mr_7_55 rfl rfl rfl ((by have K := k_steepAt (I := I3) (J := J) (R := R) (d := d + 4) (c := c) (a := a) (by rw [hs3.r 5 rfl]; exact hc) hc12 ha12; rw [hs3.r 6 rfl] at K; exact K)) ?_
      rintro _ _ ⟨rfl, rfl⟩
      show Ev lyC (d + 5) hX7_advance 46 [some (.ref 41), some (.ref 5), some (.ref 8), some (.ref 35), none] [.int (m_st c (I 6) a), .int (I 41 2), .int (k_fo z rv (I 9) (I 10) (I 42) (k_tl (I 10) (I 41 3) n) (m_st c (I 6) a) (I 41 3) n)] (I3, J, R) _
      refine ev_st dX7_advance_46 rfl rfl ?_
      refine ev_ic_ge (t := 54) (x := k_fo z rv (I 9) (I 10) (I 42) (k_tl (I 10) (I 41 3) n) (m_st c (I 6) a) (I 41 3) n) (y := (I 41 2) + (m_st c (I 6) a)) dX7_advance_47 (by decide) (fun c_47 => ?_) (fun c_47 => ?_)
      · refine ev_iconst (v := 0) dX7_advance_54 (by decide) ?_
        refine ev_st (L' := [some (.ref 41), some (.ref 5), some (.ref 8), some (.ref 35), some (.int 0)]) dX7_advance_55 rfl rfl ?_
        refine ev_st dX7_advance_57 rfl rfl ?_
        refine ev_st dX7_advance_58 rfl rfl ?_
        refine ev_getI (v := I 41 7) dX7_advance_59 fr_7_41 rfl rfl (by rw [hs3.r 41 rfl]) ?_
        refine ev_st dX7_advance_62 rfl rfl ?_
        refine ev_st dX7_advance_64 rfl rfl ?_
        refine ev_putI dX7_advance_65 fr_7_41 rfl rfl ?_
        refine ev_st dX7_advance_68 rfl rfl ?_
        refine ev_st dX7_advance_69 rfl rfl ?_
        refine ev_getI (v := nI n) dX7_advance_70 fr_7_59 rfl rfl (by show I3 8 3 = _; rw [hs3.r 8 rfl]; exact hn) ?_
        refine ev_iconst (v := 1) dX7_advance_73 (by decide) ?_
        refine ev_iconst (v := 2) dX7_advance_74 (by decide) ?_
        refine ev_st dX7_advance_75 rfl rfl ?_
        refine ev_imulN (a := 2) (b := 0) (c := 0) dX7_advance_77 rfl rfl rfl ?_
        refine ev_iaddN (a := 1) (b := 0) (c := 1) dX7_advance_78 rfl rfl rfl ?_
        refine ev_call dX7_advance_79 rfl rfl mr_7_62 rfl rfl rfl (k_moveOn_41 (I := ti_wr I3 41 7 ((I 41 7) + 0)) (n := n) hn8 (nI 1)) ?_
        rintro _ _ ⟨rfl, rfl⟩
        show Ev lyC (d + 5) hX7_advance 82 [some (.ref 41), some (.ref 5), some (.ref 8), some (.ref 35), some (.int 0)] [] (k_mv (ti_wr I3 41 7 ((I 41 7) + 0)) 41 n (nI 1), J, R) _
        refine ev_st dX7_advance_82 rfl rfl ?_
        exact ev_iret dX7_advance_84 rfl (⟨by simp [m_rS, Nat.not_le.mpr c_8, c_18, m_sg, c_47], by simp only [m_rS, if_neg (Nat.not_le.mpr c_8), if_neg c_18, if_true]; refine ⟨_, rfl, ?_⟩; simp only [m_sg, if_neg c_47]; exact (hs3.wr 41 rfl 7 _).mv rfl rfl _ _⟩)
      · refine ev_iconst (v := 1) dX7_advance_50 (by decide) ?_
        refine ev_goto (t := 55) dX7_advance_51 (by decide) ?_
        refine ev_st (L' := [some (.ref 41), some (.ref 5), some (.ref 8), some (.ref 35), some (.int 1)]) dX7_advance_55 rfl rfl ?_
        refine ev_st dX7_advance_57 rfl rfl ?_
        refine ev_st dX7_advance_58 rfl rfl ?_
        refine ev_getI (v := I 41 7) dX7_advance_59 fr_7_41 rfl rfl (by rw [hs3.r 41 rfl]) ?_
        refine ev_st dX7_advance_62 rfl rfl ?_
        refine ev_st dX7_advance_64 rfl rfl ?_
        refine ev_putI dX7_advance_65 fr_7_41 rfl rfl ?_
        refine ev_st dX7_advance_68 rfl rfl ?_
        refine ev_st dX7_advance_69 rfl rfl ?_
        refine ev_getI (v := nI n) dX7_advance_70 fr_7_59 rfl rfl (by show I3 8 3 = _; rw [hs3.r 8 rfl]; exact hn) ?_
        refine ev_iconst (v := 1) dX7_advance_73 (by decide) ?_
        refine ev_iconst (v := 2) dX7_advance_74 (by decide) ?_
        refine ev_st dX7_advance_75 rfl rfl ?_
        refine ev_imulN (a := 2) (b := 1) (c := 2) dX7_advance_77 rfl rfl rfl ?_
        refine ev_iaddN (a := 1) (b := 2) (c := 3) dX7_advance_78 rfl rfl rfl ?_
        refine ev_call dX7_advance_79 rfl rfl mr_7_62 rfl rfl rfl (k_moveOn_41 (I := ti_wr I3 41 7 ((I 41 7) + 1)) (n := n) hn8 (nI 3)) ?_
        rintro _ _ ⟨rfl, rfl⟩
        show Ev lyC (d + 5) hX7_advance 82 [some (.ref 41), some (.ref 5), some (.ref 8), some (.ref 35), some (.int 1)] [] (k_mv (ti_wr I3 41 7 ((I 41 7) + 1)) 41 n (nI 3), J, R) _
        refine ev_st dX7_advance_82 rfl rfl ?_
        exact ev_iret dX7_advance_84 rfl (⟨by simp [m_rS, Nat.not_le.mpr c_8, c_18, m_sg, c_47], by simp only [m_rS, if_neg (Nat.not_le.mpr c_8), if_neg c_18, if_true]; refine ⟨_, rfl, ?_⟩; simp only [m_sg, if_pos c_47]; exact (hs3.wr 41 rfl 7 _).mv rfl rfl _ _⟩)
    · refine ev_bipush (v := -3) dX7_advance_21 (by decide) ?_
      exact ev_iret dX7_advance_23 rfl (⟨by simp [m_rS, Nat.not_le.mpr c_8, c_18], by simp [m_rS, Nat.not_le.mpr c_8, c_18]; exact hs⟩)
  · refine ev_bipush (v := -2) dX7_advance_11 (by decide) ?_
    exact ev_iret dX7_advance_13 rfl (⟨by simp [m_rS, c_8], by simp [m_rS, c_8]; exact hs⟩)
