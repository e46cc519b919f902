/-! the model: the calls of the walk -/
theorem rT_ok {n : Nat} {row : Nat → Int32} {x : Int32} (hn : n ≤ 8) (h : ¬ m_rT n row x < 0) : ∃ j, j < n ∧ x = nI j ∧ ix n x = some j ∧ m_rT n row x = 0 := by
  unfold m_rT at h ⊢
  cases hx : ix n x with
  | none => rw [hx] at h; exact absurd (show (-1 : Int32) < 0 by decide) h
  | some j =>
    obtain ⟨h1, h2⟩ := ix_some (by omega) hx
    rw [hx] at h
    refine ⟨j, h1, h2, rfl, ?_⟩
    simp only at h ⊢
    split at h
    · exact absurd (by decide) h
    · split at h
      · exact absurd (by decide) h
      · rename_i a b
        simp [a, b]
theorem rL_ok {n : Nat} {row : Nat → Int32} {x : Int32} (hn : n ≤ 8) (h : ¬ m_rL n row x < 0) : ∃ j, j < n ∧ x = nI j ∧ ix n x = some j ∧ m_rL n row x = 0 := by
  unfold m_rL at h ⊢
  cases hx : ix n x with
  | none => rw [hx] at h; exact absurd (show (-1 : Int32) < 0 by decide) h
  | some j =>
    obtain ⟨h1, h2⟩ := ix_some (by omega) hx
    rw [hx] at h
    refine ⟨j, h1, h2, rfl, ?_⟩
    simp only at h ⊢
    split at h
    · exact absurd (by decide) h
    · rename_i a
      simp [a]
theorem rY_ok {ns c a : Nat} {sy row : Nat → Int32} {x : Int32} (hn : ns ≤ 8) (h : ¬ m_rY ns c a sy row x < 0) : ∃ s, s < ns ∧ x = nI s ∧ ix ns x = some s ∧ m_rY ns c a sy row x = 0 := by
  unfold m_rY at h ⊢
  cases hx : ix ns x with
  | none => rw [hx] at h; exact absurd (show (-1 : Int32) < 0 by decide) h
  | some j =>
    obtain ⟨h1, h2⟩ := ix_some (by omega) hx
    rw [hx] at h
    refine ⟨j, h1, h2, rfl, ?_⟩
    simp only at h ⊢
    repeat' split at h
    all_goals first | exact absurd (by decide) h | simp_all
set_option maxHeartbeats 4000000 in
theorem c_take_no {I : Nat → Nat → Int32} {J : Nat → Nat → Int64} {R : Nat → Nat → Value} {d n u : Nat} (hn : I 0 3 = nI n) (hn8 : n ≤ 8) (hu : I 0 25 = nI u) (hu12 : u ≤ 12) (x : Int32) (hv : m_rT n (I 1) x < 0) : Cal lyM (d + 3) hX12_take 3 [.ref 0, .int x] (I, J, R) (fun r M' => r = some (.int (m_rT n (I 1) x)) ∧ M' = (ti_wr I 0 12 0, J, R)) := by
  show Ev lyM (d + 3) hX12_take 0 [some (.ref 0), some (.int x), none] [] (I, J, R) _
  refine ev_st dX12_take_0 rfl rfl ?_
  refine ev_iconst (v := 0) dX12_take_1 (by decide) ?_
  refine ev_putI dX12_take_2 fr_12_89 rfl rfl ?_
  refine ev_st dX12_take_5 rfl rfl ?_
  refine ev_st dX12_take_6 rfl rfl ?_
  refine ev_getC dX12_take_7 fr_12_9 rfl rfl ?_
  refine ev_st dX12_take_10 rfl rfl ?_
  refine ev_call dX12_take_11 rfl rfl mr_12_279 rfl rfl rfl (c_refusesTake (I := ti_wr I 0 12 0) hn hn8 x) ?_
  rintro _ _ ⟨rfl, rfl⟩
  show Ev lyM (d + 3) hX12_take 14 [some (.ref 0), some (.int x), none] [.int (m_rT n (I 1) x)] (ti_wr I 0 12 0, J, R) _
  refine ev_st (L' := [some (.ref 0), some (.int x), some (.int (m_rT n (I 1) x))]) dX12_take_14 rfl rfl ?_
  refine ev_st dX12_take_15 rfl rfl ?_
  refine ev_if_ge (t := 21) (x := m_rT n (I 1) x) dX12_take_16 (by decide) (fun c_16 => ?_) (fun c_16 => ?_)
  · exact absurd hv c_16
  · refine ev_st dX12_take_19 rfl rfl ?_
    exact ev_iret dX12_take_20 rfl (⟨rfl, rfl⟩)
set_option maxHeartbeats 4000000 in
theorem c_take_ok {I : Nat → Nat → Int32} {J : Nat → Nat → Int64} {R : Nat → Nat → Value} {d n u : Nat} (hn : I 0 3 = nI n) (hn8 : n ≤ 8) (hu : I 0 25 = nI u) (hu12 : u ≤ 12) {j : Nat} (hj : j < n) (hv : ¬ m_rT n (I 1) (nI j) < 0) : Cal lyM (d + 3) hX12_take 3 [.ref 0, .int (nI j)] (I, J, R) (fun r M' => r = some (.int (bc (m_cy (upd (I 1) (8 + j) 1) n))) ∧ M' = (m_ac I u (upd (I 1) (8 + j) 1), J, R)) := by
  show Ev lyM (d + 3) hX12_take 0 [some (.ref 0), some (.int (nI j)), none] [] (I, J, R) _
  refine ev_st dX12_take_0 rfl rfl ?_
  refine ev_iconst (v := 0) dX12_take_1 (by decide) ?_
  refine ev_putI dX12_take_2 fr_12_89 rfl rfl ?_
  refine ev_st dX12_take_5 rfl rfl ?_
  refine ev_st dX12_take_6 rfl rfl ?_
  refine ev_getC dX12_take_7 fr_12_9 rfl rfl ?_
  refine ev_st dX12_take_10 rfl rfl ?_
  refine ev_call dX12_take_11 rfl rfl mr_12_279 rfl rfl rfl (c_refusesTake (I := ti_wr I 0 12 0) hn hn8 (nI j)) ?_
  rintro _ _ ⟨rfl, rfl⟩
  show Ev lyM (d + 3) hX12_take 14 [some (.ref 0), some (.int (nI j)), none] [.int (m_rT n (I 1) (nI j))] (ti_wr I 0 12 0, J, R) _
  refine ev_st (L' := [some (.ref 0), some (.int (nI j)), some (.int (m_rT n (I 1) (nI j)))]) dX12_take_14 rfl rfl ?_
  refine ev_st dX12_take_15 rfl rfl ?_
  refine ev_if_ge (t := 21) (x := m_rT n (I 1) (nI j)) dX12_take_16 (by decide) (fun c_16 => ?_) (fun c_16 => ?_)
  · refine ev_st dX12_take_21 rfl rfl ?_
    refine ev_st dX12_take_22 rfl rfl ?_
    refine ev_getC dX12_take_23 fr_12_9 rfl rfl ?_
    refine ev_call dX12_take_26 rfl rfl mr_12_272 rfl rfl rfl (c_remember_1 (I := ti_wr I 0 12 0) hu hu12) ?_
    rintro _ _ ⟨rfl, rfl⟩
    show Ev lyM (d + 3) hX12_take 29 [some (.ref 0), some (.int (nI j)), some (.int (m_rT n (I 1) (nI j)))] [] (ti_wr (va_up (ti_wr I 0 12 0) 12 (m_rem (I 1) (I 12) u)) 0 25 (nI (m_u1 u)), J, R) _
    refine ev_st dX12_take_29 rfl rfl ?_
    refine ev_getC dX12_take_30 fr_12_9 rfl rfl ?_
    refine ev_bipush (v := 8) dX12_take_33 (by decide) ?_
    refine ev_st dX12_take_35 rfl rfl ?_
    refine ev_iaddN (a := 8) (b := j) (c := 8 + j) dX12_take_36 rfl rfl rfl ?_
    refine ev_iconst (v := 1) dX12_take_37 (by decide) ?_
    refine ev_iast (j := 8 + j) dX12_take_38 rfl rfl (by omega) (by decide) ?_
    refine ev_st dX12_take_39 rfl rfl ?_
    refine ev_st dX12_take_40 rfl rfl ?_
    refine ev_getC dX12_take_41 fr_12_9 rfl rfl ?_
    refine ev_call dX12_take_44 rfl rfl mr_12_244 rfl rfl rfl (c_carry (I := ti_wr (ti_wr (va_up (ti_wr I 0 12 0) 12 (m_rem (I 1) (I 12) u)) 0 25 (nI (m_u1 u))) 1 (8 + j) 1) hn hn8) ?_
    rintro _ _ ⟨rfl, rfl⟩
    show Ev lyM (d + 3) hX12_take 47 [some (.ref 0), some (.int (nI j)), some (.int (m_rT n (I 1) (nI j)))] [.int (m_cy ((ti_wr (ti_wr (va_up (ti_wr I 0 12 0) 12 (m_rem (I 1) (I 12) u)) 0 25 (nI (m_u1 u))) 1 (8 + j) 1) 1) n)] (ti_wr (ti_wr (va_up (ti_wr I 0 12 0) 12 (m_rem (I 1) (I 12) u)) 0 25 (nI (m_u1 u))) 1 (8 + j) 1, J, R) _
    refine ev_call dX12_take_47 rfl rfl mr_12_214 rfl rfl rfl (c_bc (m_cy ((ti_wr (ti_wr (va_up (ti_wr I 0 12 0) 12 (m_rem (I 1) (I 12) u)) 0 25 (nI (m_u1 u))) 1 (8 + j) 1) 1) n)) ?_
    rintro _ _ ⟨rfl, rfl⟩
    show Ev lyM (d + 3) hX12_take 50 [some (.ref 0), some (.int (nI j)), some (.int (m_rT n (I 1) (nI j)))] [.int (bc (m_cy ((ti_wr (ti_wr (va_up (ti_wr I 0 12 0) 12 (m_rem (I 1) (I 12) u)) 0 25 (nI (m_u1 u))) 1 (8 + j) 1) 1) n))] (ti_wr (ti_wr (va_up (ti_wr I 0 12 0) 12 (m_rem (I 1) (I 12) u)) 0 25 (nI (m_u1 u))) 1 (8 + j) 1, J, R) _
    exact ev_iret dX12_take_50 rfl (⟨rfl, rfl⟩)
  · exact absurd c_16 hv
set_option maxHeartbeats 4000000 in
theorem c_leave_no {I : Nat → Nat → Int32} {J : Nat → Nat → Int64} {R : Nat → Nat → Value} {d n u : Nat} (hn : I 0 3 = nI n) (hn8 : n ≤ 8) (hu : I 0 25 = nI u) (hu12 : u ≤ 12) (x : Int32) (hv : m_rL n (I 1) x < 0) : Cal lyM (d + 3) hX12_leave 3 [.ref 0, .int x] (I, J, R) (fun r M' => r = some (.int (m_rL n (I 1) x)) ∧ M' = (ti_wr I 0 12 0, J, R)) := by
  show Ev lyM (d + 3) hX12_leave 0 [some (.ref 0), some (.int x), none] [] (I, J, R) _
  refine ev_st dX12_leave_0 rfl rfl ?_
  refine ev_iconst (v := 0) dX12_leave_1 (by decide) ?_
  refine ev_putI dX12_leave_2 fr_12_89 rfl rfl ?_
  refine ev_st dX12_leave_5 rfl rfl ?_
  refine ev_st dX12_leave_6 rfl rfl ?_
  refine ev_call dX12_leave_7 rfl rfl mr_12_282 rfl rfl rfl (c_refusesLeave (I := ti_wr I 0 12 0) hn hn8 x) ?_
  rintro _ _ ⟨rfl, rfl⟩
  show Ev lyM (d + 3) hX12_leave 10 [some (.ref 0), some (.int x), none] [.int (m_rL n (I 1) x)] (ti_wr I 0 12 0, J, R) _
  refine ev_st (L' := [some (.ref 0), some (.int x), some (.int (m_rL n (I 1) x))]) dX12_leave_10 rfl rfl ?_
  refine ev_st dX12_leave_11 rfl rfl ?_
  refine ev_if_ge (t := 17) (x := m_rL n (I 1) x) dX12_leave_12 (by decide) (fun c_12 => ?_) (fun c_12 => ?_)
  · exact absurd hv c_12
  · refine ev_st dX12_leave_15 rfl rfl ?_
    exact ev_iret dX12_leave_16 rfl (⟨rfl, rfl⟩)
set_option maxHeartbeats 4000000 in
theorem c_leave_ok {I : Nat → Nat → Int32} {J : Nat → Nat → Int64} {R : Nat → Nat → Value} {d n u : Nat} (hn : I 0 3 = nI n) (hn8 : n ≤ 8) (hu : I 0 25 = nI u) (hu12 : u ≤ 12) {j : Nat} (hj : j < n) (hv : ¬ m_rL n (I 1) (nI j) < 0) : Cal lyM (d + 3) hX12_leave 3 [.ref 0, .int (nI j)] (I, J, R) (fun r M' => r = some (.int (bc (m_cy (upd (I 1) (8 + j) 0) n))) ∧ M' = (m_ac I u (upd (I 1) (8 + j) 0), J, R)) := by
  show Ev lyM (d + 3) hX12_leave 0 [some (.ref 0), some (.int (nI j)), none] [] (I, J, R) _
  refine ev_st dX12_leave_0 rfl rfl ?_
  refine ev_iconst (v := 0) dX12_leave_1 (by decide) ?_
  refine ev_putI dX12_leave_2 fr_12_89 rfl rfl ?_
  refine ev_st dX12_leave_5 rfl rfl ?_
  refine ev_st dX12_leave_6 rfl rfl ?_
  refine ev_call dX12_leave_7 rfl rfl mr_12_282 rfl rfl rfl (c_refusesLeave (I := ti_wr I 0 12 0) hn hn8 (nI j)) ?_
  rintro _ _ ⟨rfl, rfl⟩
  show Ev lyM (d + 3) hX12_leave 10 [some (.ref 0), some (.int (nI j)), none] [.int (m_rL n (I 1) (nI j))] (ti_wr I 0 12 0, J, R) _
  refine ev_st (L' := [some (.ref 0), some (.int (nI j)), some (.int (m_rL n (I 1) (nI j)))]) dX12_leave_10 rfl rfl ?_
  refine ev_st dX12_leave_11 rfl rfl ?_
  refine ev_if_ge (t := 17) (x := m_rL n (I 1) (nI j)) dX12_leave_12 (by decide) (fun c_12 => ?_) (fun c_12 => ?_)
  · refine ev_st dX12_leave_17 rfl rfl ?_
    refine ev_st dX12_leave_18 rfl rfl ?_
    refine ev_getC dX12_leave_19 fr_12_9 rfl rfl ?_
    refine ev_call dX12_leave_22 rfl rfl mr_12_272 rfl rfl rfl (c_remember_1 (I := ti_wr I 0 12 0) hu hu12) ?_
    rintro _ _ ⟨rfl, rfl⟩
    show Ev lyM (d + 3) hX12_leave 25 [some (.ref 0), some (.int (nI j)), some (.int (m_rL n (I 1) (nI j)))] [] (ti_wr (va_up (ti_wr I 0 12 0) 12 (m_rem (I 1) (I 12) u)) 0 25 (nI (m_u1 u)), J, R) _
    refine ev_st dX12_leave_25 rfl rfl ?_
    refine ev_getC dX12_leave_26 fr_12_9 rfl rfl ?_
    refine ev_bipush (v := 8) dX12_leave_29 (by decide) ?_
    refine ev_st dX12_leave_31 rfl rfl ?_
    refine ev_iaddN (a := 8) (b := j) (c := 8 + j) dX12_leave_32 rfl rfl rfl ?_
    refine ev_iconst (v := 0) dX12_leave_33 (by decide) ?_
    refine ev_iast (j := 8 + j) dX12_leave_34 rfl rfl (by omega) (by decide) ?_
    refine ev_st dX12_leave_35 rfl rfl ?_
    refine ev_st dX12_leave_36 rfl rfl ?_
    refine ev_getC dX12_leave_37 fr_12_9 rfl rfl ?_
    refine ev_call dX12_leave_40 rfl rfl mr_12_244 rfl rfl rfl (c_carry (I := ti_wr (ti_wr (va_up (ti_wr I 0 12 0) 12 (m_rem (I 1) (I 12) u)) 0 25 (nI (m_u1 u))) 1 (8 + j) 0) hn hn8) ?_
    rintro _ _ ⟨rfl, rfl⟩
    show Ev lyM (d + 3) hX12_leave 43 [some (.ref 0), some (.int (nI j)), some (.int (m_rL n (I 1) (nI j)))] [.int (m_cy ((ti_wr (ti_wr (va_up (ti_wr I 0 12 0) 12 (m_rem (I 1) (I 12) u)) 0 25 (nI (m_u1 u))) 1 (8 + j) 0) 1) n)] (ti_wr (ti_wr (va_up (ti_wr I 0 12 0) 12 (m_rem (I 1) (I 12) u)) 0 25 (nI (m_u1 u))) 1 (8 + j) 0, J, R) _
    refine ev_call dX12_leave_43 rfl rfl mr_12_214 rfl rfl rfl (c_bc (m_cy ((ti_wr (ti_wr (va_up (ti_wr I 0 12 0) 12 (m_rem (I 1) (I 12) u)) 0 25 (nI (m_u1 u))) 1 (8 + j) 0) 1) n)) ?_
    rintro _ _ ⟨rfl, rfl⟩
    show Ev lyM (d + 3) hX12_leave 46 [some (.ref 0), some (.int (nI j)), some (.int (m_rL n (I 1) (nI j)))] [.int (bc (m_cy ((ti_wr (ti_wr (va_up (ti_wr I 0 12 0) 12 (m_rem (I 1) (I 12) u)) 0 25 (nI (m_u1 u))) 1 (8 + j) 0) 1) n))] (ti_wr (ti_wr (va_up (ti_wr I 0 12 0) 12 (m_rem (I 1) (I 12) u)) 0 25 (nI (m_u1 u))) 1 (8 + j) 0, J, R) _
    exact ev_iret dX12_leave_46 rfl (⟨rfl, rfl⟩)
  · exact absurd c_12 hv
set_option maxHeartbeats 4000000 in
theorem c_seventh_no {I : Nat → Nat → Int32} {J : Nat → Nat → Int64} {R : Nat → Nat → Value} {d u : Nat} (hu : I 0 25 = nI u) (hu12 : u ≤ 12) (x : Int32) (hv : m_rV (I 1) x < 0) : Cal lyM (d + 3) hX12_seventh 4 [.ref 0, .int x] (I, J, R) (fun r M' => r = some (.int (m_rV (I 1) x)) ∧ M' = (ti_wr I 0 12 0, J, R)) := by
  show Ev lyM (d + 3) hX12_seventh 0 [some (.ref 0), some (.int x), none, none] [] (I, J, R) _
  refine ev_st dX12_seventh_0 rfl rfl ?_
  refine ev_iconst (v := 0) dX12_seventh_1 (by decide) ?_
  refine ev_putI dX12_seventh_2 fr_12_89 rfl rfl ?_
  refine ev_st dX12_seventh_5 rfl rfl ?_
  refine ev_st dX12_seventh_6 rfl rfl ?_
  refine ev_call dX12_seventh_7 rfl rfl mr_12_288 rfl rfl rfl (c_refusesSeventh (I := ti_wr I 0 12 0) x) ?_
  rintro _ _ ⟨rfl, rfl⟩
  show Ev lyM (d + 3) hX12_seventh 10 [some (.ref 0), some (.int x), none, none] [.int (m_rV (I 1) x)] (ti_wr I 0 12 0, J, R) _
  refine ev_st (L' := [some (.ref 0), some (.int x), some (.int (m_rV (I 1) x)), none]) dX12_seventh_10 rfl rfl ?_
  refine ev_st dX12_seventh_11 rfl rfl ?_
  refine ev_if_ge (t := 17) (x := m_rV (I 1) x) dX12_seventh_12 (by decide) (fun c_12 => ?_) (fun c_12 => ?_)
  · exact absurd hv c_12
  · refine ev_st dX12_seventh_15 rfl rfl ?_
    exact ev_iret dX12_seventh_16 rfl (⟨rfl, rfl⟩)
set_option maxHeartbeats 4000000 in
theorem c_seventh_ok {I : Nat → Nat → Int32} {J : Nat → Nat → Int64} {R : Nat → Nat → Value} {d u : Nat} (hu : I 0 25 = nI u) (hu12 : u ≤ 12) (x : Int32) (hv : ¬ m_rV (I 1) x < 0) : Cal lyM (d + 3) hX12_seventh 4 [.ref 0, .int (x)] (I, J, R) (fun r M' => r = some (.int (I 1 26)) ∧ M' = (m_ac I u (upd (I 1) 26 x), J, R)) := by
  show Ev lyM (d + 3) hX12_seventh 0 [some (.ref 0), some (.int x), none, none] [] (I, J, R) _
  refine ev_st dX12_seventh_0 rfl rfl ?_
  refine ev_iconst (v := 0) dX12_seventh_1 (by decide) ?_
  refine ev_putI dX12_seventh_2 fr_12_89 rfl rfl ?_
  refine ev_st dX12_seventh_5 rfl rfl ?_
  refine ev_st dX12_seventh_6 rfl rfl ?_
  refine ev_call dX12_seventh_7 rfl rfl mr_12_288 rfl rfl rfl (c_refusesSeventh (I := ti_wr I 0 12 0) x) ?_
  rintro _ _ ⟨rfl, rfl⟩
  show Ev lyM (d + 3) hX12_seventh 10 [some (.ref 0), some (.int x), none, none] [.int (m_rV (I 1) x)] (ti_wr I 0 12 0, J, R) _
  refine ev_st (L' := [some (.ref 0), some (.int x), some (.int (m_rV (I 1) x)), none]) dX12_seventh_10 rfl rfl ?_
  refine ev_st dX12_seventh_11 rfl rfl ?_
  refine ev_if_ge (t := 17) (x := m_rV (I 1) x) dX12_seventh_12 (by decide) (fun c_12 => ?_) (fun c_12 => ?_)
  · refine ev_st dX12_seventh_17 rfl rfl ?_
    refine ev_st dX12_seventh_18 rfl rfl ?_
    refine ev_getC dX12_seventh_19 fr_12_9 rfl rfl ?_
    refine ev_call dX12_seventh_22 rfl rfl mr_12_272 rfl rfl rfl (c_remember_1 (I := ti_wr I 0 12 0) hu hu12) ?_
    rintro _ _ ⟨rfl, rfl⟩
    show Ev lyM (d + 3) hX12_seventh 25 [some (.ref 0), some (.int x), some (.int (m_rV (I 1) x)), none] [] (ti_wr (va_up (ti_wr I 0 12 0) 12 (m_rem (I 1) (I 12) u)) 0 25 (nI (m_u1 u)), J, R) _
    refine ev_st dX12_seventh_25 rfl rfl ?_
    refine ev_getC dX12_seventh_26 fr_12_9 rfl rfl ?_
    refine ev_bipush (v := 26) dX12_seventh_29 (by decide) ?_
    refine ev_iald (j := 26) (v := ti_wr (va_up (ti_wr I 0 12 0) 12 (m_rem (I 1) (I 12) u)) 0 25 (nI (m_u1 u)) 1 26) dX12_seventh_31 rfl rfl (by decide) (by decide) rfl ?_
    refine ev_st (L' := [some (.ref 0), some (.int x), some (.int (m_rV (I 1) x)), some (.int (ti_wr (va_up (ti_wr I 0 12 0) 12 (m_rem (I 1) (I 12) u)) 0 25 (nI (m_u1 u)) 1 26))]) dX12_seventh_32 rfl rfl ?_
    refine ev_st dX12_seventh_33 rfl rfl ?_
    refine ev_getC dX12_seventh_34 fr_12_9 rfl rfl ?_
    refine ev_bipush (v := 26) dX12_seventh_37 (by decide) ?_
    refine ev_st dX12_seventh_39 rfl rfl ?_
    refine ev_iast (j := 26) dX12_seventh_40 rfl rfl (by decide) (by decide) ?_
    refine ev_st dX12_seventh_41 rfl rfl ?_
    exact ev_iret dX12_seventh_42 rfl (⟨rfl, rfl⟩)
  · exact absurd c_12 hv
set_option maxHeartbeats 4000000 in
theorem c_say_no {I : Nat → Nat → Int32} {J : Nat → Nat → Int64} {R : Nat → Nat → Value} {d ns c a u : Nat} (hns : I 0 6 = nI ns) (hns8 : ns ≤ 8) (hc : I 0 1 = nI c) (hc12 : c ≤ 12) (ha : I 1 24 = nI a) (ha12 : a ≤ 12) (hu : I 0 25 = nI u) (hu12 : u ≤ 12) (x : Int32) (hv : m_rY ns c a (I 5) (I 1) x < 0) : Cal lyM (d + 4) hX12_say 3 [.ref 0, .int x] (I, J, R) (fun r M' => r = some (.int (m_rY ns c a (I 5) (I 1) x)) ∧ M' = (ti_wr I 0 12 0, J, R)) := by
  show Ev lyM (d + 4) hX12_say 0 [some (.ref 0), some (.int x), none] [] (I, J, R) _
  refine ev_st dX12_say_0 rfl rfl ?_
  refine ev_iconst (v := 0) dX12_say_1 (by decide) ?_
  refine ev_putI dX12_say_2 fr_12_89 rfl rfl ?_
  refine ev_st dX12_say_5 rfl rfl ?_
  refine ev_st dX12_say_6 rfl rfl ?_
  refine ev_getC dX12_say_7 fr_12_9 rfl rfl ?_
  refine ev_st dX12_say_10 rfl rfl ?_
  refine ev_call dX12_say_11 rfl rfl mr_12_300 rfl rfl rfl (c_refusesSay (I := ti_wr I 0 12 0) hns hns8 hc hc12 ha ha12 x) ?_
  rintro _ _ ⟨rfl, rfl⟩
  show Ev lyM (d + 4) hX12_say 14 [some (.ref 0), some (.int x), none] [.int (m_rY ns c a (I 5) (I 1) x)] (ti_wr I 0 12 0, J, R) _
  refine ev_st (L' := [some (.ref 0), some (.int x), some (.int (m_rY ns c a (I 5) (I 1) x))]) dX12_say_14 rfl rfl ?_
  refine ev_st dX12_say_15 rfl rfl ?_
  refine ev_if_ge (t := 21) (x := m_rY ns c a (I 5) (I 1) x) dX12_say_16 (by decide) (fun c_16 => ?_) (fun c_16 => ?_)
  · exact absurd hv c_16
  · refine ev_st dX12_say_19 rfl rfl ?_
    exact ev_iret dX12_say_20 rfl (⟨rfl, rfl⟩)
set_option maxHeartbeats 4000000 in
theorem c_say_ok {I : Nat → Nat → Int32} {J : Nat → Nat → Int64} {R : Nat → Nat → Value} {d ns c a u : Nat} (hns : I 0 6 = nI ns) (hns8 : ns ≤ 8) (hc : I 0 1 = nI c) (hc12 : c ≤ 12) (ha : I 1 24 = nI a) (ha12 : a ≤ 12) (hu : I 0 25 = nI u) (hu12 : u ≤ 12) {s : Nat} (hj : s < ns) (hv : ¬ m_rY ns c a (I 5) (I 1) (nI s) < 0) : Cal lyM (d + 4) hX12_say 3 [.ref 0, .int (nI s)] (I, J, R) (fun r M' => r = some (.int (m_gy (I 5) (I 1) s 25)) ∧ M' = (m_ac I u (m_gy (I 5) (I 1) s), J, R)) := by
  show Ev lyM (d + 4) hX12_say 0 [some (.ref 0), some (.int (nI s)), none] [] (I, J, R) _
  refine ev_st dX12_say_0 rfl rfl ?_
  refine ev_iconst (v := 0) dX12_say_1 (by decide) ?_
  refine ev_putI dX12_say_2 fr_12_89 rfl rfl ?_
  refine ev_st dX12_say_5 rfl rfl ?_
  refine ev_st dX12_say_6 rfl rfl ?_
  refine ev_getC dX12_say_7 fr_12_9 rfl rfl ?_
  refine ev_st dX12_say_10 rfl rfl ?_
  refine ev_call dX12_say_11 rfl rfl mr_12_300 rfl rfl rfl (c_refusesSay (I := ti_wr I 0 12 0) hns hns8 hc hc12 ha ha12 (nI s)) ?_
  rintro _ _ ⟨rfl, rfl⟩
  show Ev lyM (d + 4) hX12_say 14 [some (.ref 0), some (.int (nI s)), none] [.int (m_rY ns c a (I 5) (I 1) (nI s))] (ti_wr I 0 12 0, J, R) _
  refine ev_st (L' := [some (.ref 0), some (.int (nI s)), some (.int (m_rY ns c a (I 5) (I 1) (nI s)))]) dX12_say_14 rfl rfl ?_
  refine ev_st dX12_say_15 rfl rfl ?_
  refine ev_if_ge (t := 21) (x := m_rY ns c a (I 5) (I 1) (nI s)) dX12_say_16 (by decide) (fun c_16 => ?_) (fun c_16 => ?_)
  · refine ev_st dX12_say_21 rfl rfl ?_
    refine ev_st dX12_say_22 rfl rfl ?_
    refine ev_getC dX12_say_23 fr_12_9 rfl rfl ?_
    refine ev_call dX12_say_26 rfl rfl mr_12_272 rfl rfl rfl (c_remember_1 (I := ti_wr I 0 12 0) hu hu12) ?_
    rintro _ _ ⟨rfl, rfl⟩
    show Ev lyM (d + 4) hX12_say 29 [some (.ref 0), some (.int (nI s)), some (.int (m_rY ns c a (I 5) (I 1) (nI s)))] [] (ti_wr (va_up (ti_wr I 0 12 0) 12 (m_rem (I 1) (I 12) u)) 0 25 (nI (m_u1 u)), J, R) _
    refine ev_st dX12_say_29 rfl rfl ?_
    refine ev_st dX12_say_30 rfl rfl ?_
    refine ev_getC dX12_say_31 fr_12_9 rfl rfl ?_
    refine ev_st dX12_say_34 rfl rfl ?_
    refine ev_call dX12_say_35 rfl rfl mr_12_303 rfl rfl rfl (c_goSay (I := ti_wr (va_up (ti_wr I 0 12 0) 12 (m_rem (I 1) (I 12) u)) 0 25 (nI (m_u1 u))) (s := s) (by omega)) ?_
    rintro _ _ ⟨rfl, rfl⟩
    show Ev lyM (d + 4) hX12_say 38 [some (.ref 0), some (.int (nI s)), some (.int (m_rY ns c a (I 5) (I 1) (nI s)))] [] (va_up (ti_wr (va_up (ti_wr I 0 12 0) 12 (m_rem (I 1) (I 12) u)) 0 25 (nI (m_u1 u))) 1 (m_gy (I 5) (I 1) s), J, R) _
    refine ev_st dX12_say_38 rfl rfl ?_
    refine ev_getC dX12_say_39 fr_12_9 rfl rfl ?_
    refine ev_bipush (v := 25) dX12_say_42 (by decide) ?_
    refine ev_iald (j := 25) (v := va_up (ti_wr (va_up (ti_wr I 0 12 0) 12 (m_rem (I 1) (I 12) u)) 0 25 (nI (m_u1 u))) 1 (m_gy (I 5) (I 1) s) 1 25) dX12_say_44 rfl rfl (by decide) (by decide) rfl ?_
    exact ev_iret dX12_say_45 rfl (⟨rfl, rfl⟩)
  · exact absurd c_16 hv
theorem c_load0 {I : Nat → Nat → Int32} {J : Nat → Nat → Int64} {R : Nat → Nat → Value} {d : Nat} {x : Int32} (hx : m_in x 0 999 = 0) : Cal lyM (d + 1) hX12_load 3 [.ref 0, .int x] (I, J, R) (fun r M' => r = some (.int (-1)) ∧ M' = (ti_wr I 0 12 0, J, R)) := by
  show Ev lyM (d + 1) hX12_load 0 [some (.ref 0), some (.int x), none] [] (I, J, R) _
  refine ev_st dX12_load_0 rfl rfl ?_
  refine ev_iconst (v := 0) dX12_load_1 (by decide) ?_
  refine ev_putI dX12_load_2 fr_12_89 rfl rfl ?_
  refine ev_st dX12_load_5 rfl rfl ?_
  refine ev_iconst (v := 0) dX12_load_6 (by decide) ?_
  refine ev_sipush (v := 999) dX12_load_7 (by decide) ?_
  refine ev_call dX12_load_10 rfl rfl mr_12_98 rfl rfl rfl (c_in0 hx) ?_
  rintro _ _ ⟨rfl, rfl⟩
  show Ev lyM (d + 1) hX12_load 13 [some (.ref 0), some (.int x), none] [.int 0] (ti_wr I 0 12 0, J, R) _
  refine ev_if_ne (t := 18) dX12_load_13 (by decide) (fun q => absurd q (by decide)) (fun _ => ?_)
  refine ev_iconst (v := -1) dX12_load_16 (by decide) ?_
  exact ev_iret dX12_load_17 rfl (⟨rfl, rfl⟩)
theorem c_load1 {I : Nat → Nat → Int32} {J : Nat → Nat → Int64} {R : Nat → Nat → Value} {d : Nat} {x : Int32} (hx : m_in x 0 999 = 1) : Cal lyM (d + 1) hX12_load 3 [.ref 0, .int x] (I, J, R) (fun r M' => r = some (.int (I 1 25)) ∧ M' = (ti_wr (ti_wr I 0 12 0) 1 25 x, J, R)) := by
  show Ev lyM (d + 1) hX12_load 0 [some (.ref 0), some (.int x), none] [] (I, J, R) _
  refine ev_st dX12_load_0 rfl rfl ?_
  refine ev_iconst (v := 0) dX12_load_1 (by decide) ?_
  refine ev_putI dX12_load_2 fr_12_89 rfl rfl ?_
  refine ev_st dX12_load_5 rfl rfl ?_
  refine ev_iconst (v := 0) dX12_load_6 (by decide) ?_
  refine ev_sipush (v := 999) dX12_load_7 (by decide) ?_
  refine ev_call dX12_load_10 rfl rfl mr_12_98 rfl rfl rfl (c_in1 hx) ?_
  rintro _ _ ⟨rfl, rfl⟩
  show Ev lyM (d + 1) hX12_load 13 [some (.ref 0), some (.int x), none] [.int 1] (ti_wr I 0 12 0, J, R) _
  refine ev_if_ne (t := 18) dX12_load_13 (by decide) (fun _ => ?_) (fun q => absurd q (by decide))
  refine ev_st dX12_load_18 rfl rfl ?_
  refine ev_getC dX12_load_19 fr_12_9 rfl rfl ?_
  refine ev_bipush (v := 25) dX12_load_22 (by decide) ?_
  refine ev_iald (j := 25) (v := I 1 25) dX12_load_24 rfl rfl (by decide) (by decide) rfl ?_
  refine ev_st (L' := [some (.ref 0), some (.int x), some (.int (I 1 25))]) dX12_load_25 rfl rfl ?_
  refine ev_st dX12_load_26 rfl rfl ?_
  refine ev_getC dX12_load_27 fr_12_9 rfl rfl ?_
  refine ev_bipush (v := 25) dX12_load_30 (by decide) ?_
  refine ev_st dX12_load_32 rfl rfl ?_
  refine ev_iast (j := 25) dX12_load_33 rfl rfl (by decide) (by decide) ?_
  refine ev_st dX12_load_34 rfl rfl ?_
  exact ev_iret dX12_load_35 rfl (⟨rfl, rfl⟩)
theorem c_undo0 {I : Nat → Nat → Int32} {J : Nat → Nat → Int64} {R : Nat → Nat → Value} {d u : Nat} (hu : I 0 25 = nI u) (h0 : u = 0) : Cal lyM d hX12_undo 2 [.ref 0] (I, J, R) (fun r M' => r = some (.int (-1)) ∧ M' = (ti_wr I 0 12 0, J, R)) := by
  have hu12 : u ≤ 12 := by omega
  show Ev lyM d hX12_undo 0 [some (.ref 0), none] [] (I, J, R) _
  refine ev_st dX12_undo_0 rfl rfl ?_
  refine ev_iconst (v := 0) dX12_undo_1 (by decide) ?_
  refine ev_putI dX12_undo_2 fr_12_89 rfl rfl ?_
  refine ev_st dX12_undo_5 rfl rfl ?_
  refine ev_getI (v := nI u) dX12_undo_6 fr_12_147 rfl rfl hu ?_
  refine ev_if_neN (t := 14) (a := u) dX12_undo_9 (by decide) rfl (by omega) (fun c_9 => ?_) (fun c_9 => ?_)
  · exact absurd h0 c_9
  · refine ev_iconst (v := -1) dX12_undo_12 (by decide) ?_
    exact ev_iret dX12_undo_13 rfl (⟨rfl, rfl⟩)
set_option maxHeartbeats 4000000 in
theorem c_undo1 {I : Nat → Nat → Int32} {J : Nat → Nat → Int64} {R : Nat → Nat → Value} {d u : Nat} (hu : I 0 25 = nI (u + 1)) (hu12 : u + 1 ≤ 12) : Cal lyM d hX12_undo 2 [.ref 0] (I, J, R) (fun r M' => r = some (.int (nI u)) ∧ M' = (va_up (ti_wr (ti_wr I 0 12 0) 0 25 (nI u)) 1 (m_lay (fun j => I 12 (29 * u + j)) (I 1) 0 29), J, R)) := by
  have loop : ∀ (z b : Nat), b ≤ 29 → 29 - b < z → Ev lyM d hX12_undo 26 [some (.ref 0), some (.int (nI b))] [] (va_up (ti_wr (ti_wr I 0 12 0) 0 25 (nI u)) 1 (m_lay (fun j => I 12 (29 * u + j)) (I 1) 0 b), J, R) (fun r M' => r = some (.int (nI u)) ∧ M' = (va_up (ti_wr (ti_wr I 0 12 0) 0 25 (nI u)) 1 (m_lay (fun j => I 12 (29 * u + j)) (I 1) 0 29), J, R)) := by
    intro z
    induction z with
    | zero => intro b h1 h2; omega
    | succ z ih =>
      intro b hb hz
      refine ev_st dX12_undo_26 rfl rfl ?_
      refine ev_bipush (v := 29) dX12_undo_27 (by decide) ?_
      refine ev_ic_geN (t := 58) (a := b) (b := 29) dX12_undo_29 (by decide) rfl rfl (by omega) (by omega) (fun c_29 => ?_) (fun c_29 => ?_)
      · refine ev_st dX12_undo_58 rfl rfl ?_
        refine ev_getI (v := nI u) dX12_undo_59 fr_12_147 rfl rfl rfl ?_
        exact ev_iret dX12_undo_62 rfl (⟨rfl, by rw [show b = 29 by omega]⟩)
      · refine ev_st dX12_undo_32 rfl rfl ?_
        refine ev_getC dX12_undo_33 fr_12_9 rfl rfl ?_
        refine ev_st dX12_undo_36 rfl rfl ?_
        refine ev_st dX12_undo_37 rfl rfl ?_
        refine ev_getC dX12_undo_38 fr_12_49 rfl rfl ?_
        refine ev_bipush (v := 29) dX12_undo_41 (by decide) ?_
        refine ev_st dX12_undo_43 rfl rfl ?_
        refine ev_getI (v := nI u) dX12_undo_44 fr_12_147 rfl rfl rfl ?_
        refine ev_imulN (a := 29) (b := u) (c := 29 * u) dX12_undo_47 rfl rfl rfl ?_
        refine ev_st dX12_undo_48 rfl rfl ?_
        refine ev_iaddN (a := 29 * u) (b := b) (c := 29 * u + b) dX12_undo_49 rfl rfl rfl ?_
        refine ev_iald (j := 29 * u + b) (v := I 12 (29 * u + b)) dX12_undo_50 rfl rfl (by omega) (by decide) rfl ?_
        refine ev_iast (j := b) dX12_undo_51 rfl rfl (by omega) (by decide) ?_
        refine ev_iincN (a := b) (b := b + 1) (L' := [some (.ref 0), some (.int (nI (b + 1)))]) dX12_undo_52 rfl (nI_1 _) rfl ?_
        refine ev_goto (t := 26) dX12_undo_55 (by decide) ?_
        rw [ti_wr_up]
        have e9 := m_lay_s (f := fun j => I 12 (29 * u + j)) (g := I 1) (k := 0) (b := b)
        rw [Nat.zero_add] at e9
        rw [e9]
        exact ih _ (by omega) (by omega)
  show Ev lyM d hX12_undo 0 [some (.ref 0), none] [] (I, J, R) _
  refine ev_st dX12_undo_0 rfl rfl ?_
  refine ev_iconst (v := 0) dX12_undo_1 (by decide) ?_
  refine ev_putI dX12_undo_2 fr_12_89 rfl rfl ?_
  refine ev_st dX12_undo_5 rfl rfl ?_
  refine ev_getI (v := nI (u + 1)) dX12_undo_6 fr_12_147 rfl rfl hu ?_
  refine ev_if_neN (t := 14) (a := u + 1) dX12_undo_9 (by decide) rfl (by omega) (fun c_9 => ?_) (fun c_9 => ?_)
  · refine ev_st dX12_undo_14 rfl rfl ?_
    refine ev_st dX12_undo_15 rfl rfl ?_
    refine ev_getI (v := nI (u + 1)) dX12_undo_16 fr_12_147 rfl rfl hu ?_
    refine ev_iconst (v := 1) dX12_undo_19 (by decide) ?_
    refine ev_isubN (a := u + 1) (b := 1) (c := u) dX12_undo_20 rfl rfl (by omega) (by omega) ?_
    refine ev_putI dX12_undo_21 fr_12_147 rfl rfl ?_
    refine ev_iconst (v := 0) dX12_undo_24 (by decide) ?_
    refine ev_st (L' := [some (.ref 0), some (.int 0)]) dX12_undo_25 rfl rfl ?_
    have K := loop 30 0 (by omega) (by omega)
    rw [m_lay_0] at K
    have e8 : va_up (ti_wr (ti_wr I 0 12 0) 0 25 (nI u)) 1 (I 1) = ti_wr (ti_wr I 0 12 0) 0 25 (nI u) := va_up_id (I := ti_wr (ti_wr I 0 12 0) 0 25 (nI u)) (q := 1)
    rw [e8] at K
    exact K
  · exact absurd c_9 (by omega)
theorem c_keep0 {I : Nat → Nat → Int32} {J : Nat → Nat → Int64} {R : Nat → Nat → Value} {d : Nat} {x : Int32} (hx : m_in x 0 1 = 0) : Cal lyM (d + 1) hX12_keep 2 [.ref 0, .int x] (I, J, R) (fun r M' => r = some (.int 0) ∧ M' = (ti_wr I 0 12 0, J, R)) := by
  show Ev lyM (d + 1) hX12_keep 0 [some (.ref 0), some (.int x)] [] (I, J, R) _
  refine ev_st dX12_keep_0 rfl rfl ?_
  refine ev_iconst (v := 0) dX12_keep_1 (by decide) ?_
  refine ev_putI dX12_keep_2 fr_12_89 rfl rfl ?_
  refine ev_st dX12_keep_5 rfl rfl ?_
  refine ev_iconst (v := 0) dX12_keep_6 (by decide) ?_
  refine ev_iconst (v := 1) dX12_keep_7 (by decide) ?_
  refine ev_call dX12_keep_8 rfl rfl mr_12_98 rfl rfl rfl (c_in0 hx) ?_
  rintro _ _ ⟨rfl, rfl⟩
  show Ev lyM (d + 1) hX12_keep 11 [some (.ref 0), some (.int x)] [.int 0] (ti_wr I 0 12 0, J, R) _
  refine ev_if_ne (t := 16) dX12_keep_11 (by decide) (fun q => absurd q (by decide)) (fun _ => ?_)
  refine ev_iconst (v := 0) dX12_keep_14 (by decide) ?_
  exact ev_zret dX12_keep_15 rfl (by decide) (⟨rfl, rfl⟩)
set_option maxHeartbeats 4000000 in
theorem c_keep1 {I : Nat → Nat → Int32} {J : Nat → Nat → Int64} {R : Nat → Nat → Value} {d j : Nat} (hj : j < 2) : Cal lyM (d + 1) hX12_keep 2 [.ref 0, .int (nI j)] (I, J, R) (fun r M' => r = some (.int 1) ∧ M' = (va_up (ti_wr (ti_wr (ti_wr I 0 12 0) 23 j 1) 24 j (I 0 39)) 22 (m_lay (I 1) (I 22) (29 * j) 29), J, R)) := by
  have hx : m_in (nI j) 0 1 = 1 := by rw [show (1 : Int32) = nI 1 from rfl, ix_inC (by decide), ix_nI (by decide) hj]; rfl
  show Ev lyM (d + 1) hX12_keep 0 [some (.ref 0), some (.int (nI j))] [] (I, J, R) _
  refine ev_st dX12_keep_0 rfl rfl ?_
  refine ev_iconst (v := 0) dX12_keep_1 (by decide) ?_
  refine ev_putI dX12_keep_2 fr_12_89 rfl rfl ?_
  refine ev_st dX12_keep_5 rfl rfl ?_
  refine ev_iconst (v := 0) dX12_keep_6 (by decide) ?_
  refine ev_iconst (v := 1) dX12_keep_7 (by decide) ?_
  refine ev_call dX12_keep_8 rfl rfl mr_12_98 rfl rfl rfl (c_in1 hx) ?_
  rintro _ _ ⟨rfl, rfl⟩
  show Ev lyM (d + 1) hX12_keep 11 [some (.ref 0), some (.int (nI j))] [.int 1] (ti_wr I 0 12 0, J, R) _
  refine ev_if_ne (t := 16) dX12_keep_11 (by decide) (fun _ => ?_) (fun q => absurd q (by decide))
  refine ev_st dX12_keep_16 rfl rfl ?_
  refine ev_getC dX12_keep_17 fr_12_82 rfl rfl ?_
  refine ev_st dX12_keep_20 rfl rfl ?_
  refine ev_iconst (v := 1) dX12_keep_21 (by decide) ?_
  refine ev_zast (j := j) dX12_keep_22 rfl rfl (by omega) (by decide) (by decide) ?_
  refine ev_st dX12_keep_23 rfl rfl ?_
  refine ev_getC dX12_keep_24 fr_12_86 rfl rfl ?_
  refine ev_st dX12_keep_27 rfl rfl ?_
  refine ev_st dX12_keep_28 rfl rfl ?_
  refine ev_getI (v := I 0 39) dX12_keep_29 fr_12_150 rfl rfl rfl ?_
  refine ev_iast (j := j) dX12_keep_32 rfl rfl (by omega) (by decide) ?_
  refine ev_st dX12_keep_33 rfl rfl ?_
  refine ev_getC dX12_keep_34 fr_12_9 rfl rfl ?_
  refine ev_st dX12_keep_37 rfl rfl ?_
  refine ev_getC dX12_keep_38 fr_12_79 rfl rfl ?_
  refine ev_bipush (v := 29) dX12_keep_41 (by decide) ?_
  refine ev_st dX12_keep_43 rfl rfl ?_
  refine ev_imulN (a := 29) (b := j) (c := 29 * j) dX12_keep_44 rfl rfl rfl ?_
  refine ev_call dX12_keep_45 rfl rfl mr_12_257 rfl rfl rfl (c_lay_1_22 (I := ti_wr (ti_wr (ti_wr I 0 12 0) 23 j 1) 24 j (I 0 39)) (k := 29 * j) (by omega)) ?_
  rintro _ _ ⟨rfl, rfl⟩
  show Ev lyM (d + 1) hX12_keep 48 [some (.ref 0), some (.int (nI j))] [] (va_up (ti_wr (ti_wr (ti_wr I 0 12 0) 23 j 1) 24 j (I 0 39)) 22 (m_lay (I 1) (I 22) (29 * j) 29), J, R) _
  refine ev_iconst (v := 1) dX12_keep_48 (by decide) ?_
  exact ev_zret dX12_keep_49 rfl (by decide) (⟨rfl, rfl⟩)
theorem c_again0 {I : Nat → Nat → Int32} {J : Nat → Nat → Int64} {R : Nat → Nat → Value} {d : Nat} {x : Int32} (hx : m_in x 0 1 = 0) : Cal lyM (d + 1) hX12_again 3 [.ref 0, .int x] (I, J, R) (fun r M' => r = some (.int 0) ∧ M' = (ti_wr I 0 12 0, J, R)) := by
  show Ev lyM (d + 1) hX12_again 0 [some (.ref 0), some (.int x), none] [] (I, J, R) _
  refine ev_st dX12_again_0 rfl rfl ?_
  refine ev_iconst (v := 0) dX12_again_1 (by decide) ?_
  refine ev_putI dX12_again_2 fr_12_89 rfl rfl ?_
  refine ev_st dX12_again_5 rfl rfl ?_
  refine ev_iconst (v := 0) dX12_again_6 (by decide) ?_
  refine ev_iconst (v := 1) dX12_again_7 (by decide) ?_
  refine ev_call dX12_again_8 rfl rfl mr_12_98 rfl rfl rfl (c_in0 hx) ?_
  rintro _ _ ⟨rfl, rfl⟩
  show Ev lyM (d + 1) hX12_again 11 [some (.ref 0), some (.int x), none] [.int 0] (ti_wr I 0 12 0, J, R) _
  refine ev_if_eq (t := 36) dX12_again_11 (by decide) (fun _ => ?_) (fun q => absurd q (by decide))
  refine ev_iconst (v := 0) dX12_again_36 (by decide) ?_
  exact ev_zret dX12_again_37 rfl (by decide) (⟨rfl, rfl⟩)
set_option maxHeartbeats 4000000 in
theorem c_againN {I : Nat → Nat → Int32} {J : Nat → Nat → Int64} {R : Nat → Nat → Value} {d j : Nat} (hj : j < 2) (hk : ¬ (¬ I 23 j = 0 ∧ I 24 j = I 0 39)) : Cal lyM (d + 1) hX12_again 3 [.ref 0, .int (nI j)] (I, J, R) (fun r M' => r = some (.int 0) ∧ M' = (ti_wr I 0 12 0, J, R)) := by
  have hx : m_in (nI j) 0 1 = 1 := by rw [show (1 : Int32) = nI 1 from rfl, ix_inC (by decide), ix_nI (by decide) hj]; rfl
  show Ev lyM (d + 1) hX12_again 0 [some (.ref 0), some (.int (nI j)), none] [] (I, J, R) _
  refine ev_st dX12_again_0 rfl rfl ?_
  refine ev_iconst (v := 0) dX12_again_1 (by decide) ?_
  refine ev_putI dX12_again_2 fr_12_89 rfl rfl ?_
  refine ev_st dX12_again_5 rfl rfl ?_
  refine ev_iconst (v := 0) dX12_again_6 (by decide) ?_
  refine ev_iconst (v := 1) dX12_again_7 (by decide) ?_
  refine ev_call dX12_again_8 rfl rfl mr_12_98 rfl rfl rfl (c_in1 hx) ?_
  rintro _ _ ⟨rfl, rfl⟩
  show Ev lyM (d + 1) hX12_again 11 [some (.ref 0), some (.int (nI j)), none] [.int 1] (ti_wr I 0 12 0, J, R) _
  refine ev_if_eq (t := 36) dX12_again_11 (by decide) (fun q => absurd q (by decide)) (fun _ => ?_)
  refine ev_st dX12_again_14 rfl rfl ?_
  refine ev_getC dX12_again_15 fr_12_82 rfl rfl ?_
  refine ev_st dX12_again_18 rfl rfl ?_
  refine ev_bald (j := j) (v := I 23 j) dX12_again_19 rfl (by decide) rfl (by omega) (by decide) rfl ?_
  refine ev_if_eq (t := 36) (x := I 23 j) dX12_again_20 (by decide) (fun c_20 => ?_) (fun c_20 => ?_)
  · refine ev_iconst (v := 0) dX12_again_36 (by decide) ?_
    exact ev_zret dX12_again_37 rfl (by decide) (⟨rfl, rfl⟩)
  · refine ev_st dX12_again_23 rfl rfl ?_
    refine ev_getC dX12_again_24 fr_12_86 rfl rfl ?_
    refine ev_st dX12_again_27 rfl rfl ?_
    refine ev_iald (j := j) (v := I 24 j) dX12_again_28 rfl rfl (by omega) (by decide) rfl ?_
    refine ev_st dX12_again_29 rfl rfl ?_
    refine ev_getI (v := I 0 39) dX12_again_30 fr_12_150 rfl rfl rfl ?_
    refine ev_ic_eq (t := 38) (x := I 24 j) (y := I 0 39) dX12_again_33 (by decide) (fun c_33 => ?_) (fun c_33 => ?_)
    · exact absurd ⟨c_20, c_33⟩ hk
    · refine ev_iconst (v := 0) dX12_again_36 (by decide) ?_
      exact ev_zret dX12_again_37 rfl (by decide) (⟨rfl, rfl⟩)
set_option maxHeartbeats 4000000 in
theorem c_againY {I : Nat → Nat → Int32} {J : Nat → Nat → Int64} {R : Nat → Nat → Value} {d j : Nat} (hj : j < 2) (hk : ¬ I 23 j = 0 ∧ I 24 j = I 0 39) : Cal lyM (d + 1) hX12_again 3 [.ref 0, .int (nI j)] (I, J, R) (fun r M' => r = some (.int 1) ∧ M' = (ti_wr (va_up (ti_wr I 0 12 0) 1 (m_lay (fun i => I 22 (29 * j + i)) (I 1) 0 29)) 0 25 0, J, R)) := by
  have hx : m_in (nI j) 0 1 = 1 := by rw [show (1 : Int32) = nI 1 from rfl, ix_inC (by decide), ix_nI (by decide) hj]; rfl
  have loop : ∀ (z b : Nat), b ≤ 29 → 29 - b < z → Ev lyM (d + 1) hX12_again 40 [some (.ref 0), some (.int (nI j)), some (.int (nI b))] [] (va_up (ti_wr I 0 12 0) 1 (m_lay (fun i => I 22 (29 * j + i)) (I 1) 0 b), J, R) (fun r M' => r = some (.int 1) ∧ M' = (ti_wr (va_up (ti_wr I 0 12 0) 1 (m_lay (fun i => I 22 (29 * j + i)) (I 1) 0 29)) 0 25 0, J, R)) := by
    intro z
    induction z with
    | zero => intro b h1 h2; omega
    | succ z ih =>
      intro b hb hz
      refine ev_st dX12_again_40 rfl rfl ?_
      refine ev_bipush (v := 29) dX12_again_41 (by decide) ?_
      refine ev_ic_geN (t := 69) (a := b) (b := 29) dX12_again_43 (by decide) rfl rfl (by omega) (by omega) (fun c_43 => ?_) (fun c_43 => ?_)
      · refine ev_st dX12_again_69 rfl rfl ?_
        refine ev_iconst (v := 0) dX12_again_70 (by decide) ?_
        refine ev_putI dX12_again_71 fr_12_147 rfl rfl ?_
        refine ev_iconst (v := 1) dX12_again_74 (by decide) ?_
        exact ev_zret dX12_again_75 rfl (by decide) (⟨rfl, by rw [show b = 29 by omega]⟩)
      · refine ev_st dX12_again_46 rfl rfl ?_
        refine ev_getC dX12_again_47 fr_12_9 rfl rfl ?_
        refine ev_st dX12_again_50 rfl rfl ?_
        refine ev_st dX12_again_51 rfl rfl ?_
        refine ev_getC dX12_again_52 fr_12_79 rfl rfl ?_
        refine ev_bipush (v := 29) dX12_again_55 (by decide) ?_
        refine ev_st dX12_again_57 rfl rfl ?_
        refine ev_imulN (a := 29) (b := j) (c := 29 * j) dX12_again_58 rfl rfl rfl ?_
        refine ev_st dX12_again_59 rfl rfl ?_
        refine ev_iaddN (a := 29 * j) (b := b) (c := 29 * j + b) dX12_again_60 rfl rfl rfl ?_
        refine ev_iald (j := 29 * j + b) (v := I 22 (29 * j + b)) dX12_again_61 rfl rfl (by omega) (by decide) rfl ?_
        refine ev_iast (j := b) dX12_again_62 rfl rfl (by omega) (by decide) ?_
        refine ev_iincN (a := b) (b := b + 1) (L' := [some (.ref 0), some (.int (nI j)), some (.int (nI (b + 1)))]) dX12_again_63 rfl (nI_1 _) rfl ?_
        refine ev_goto (t := 40) dX12_again_66 (by decide) ?_
        rw [ti_wr_up]
        have e9 := m_lay_s (f := fun i => I 22 (29 * j + i)) (g := I 1) (k := 0) (b := b)
        rw [Nat.zero_add] at e9
        rw [e9]
        exact ih _ (by omega) (by omega)
  show Ev lyM (d + 1) hX12_again 0 [some (.ref 0), some (.int (nI j)), none] [] (I, J, R) _
  refine ev_st dX12_again_0 rfl rfl ?_
  refine ev_iconst (v := 0) dX12_again_1 (by decide) ?_
  refine ev_putI dX12_again_2 fr_12_89 rfl rfl ?_
  refine ev_st dX12_again_5 rfl rfl ?_
  refine ev_iconst (v := 0) dX12_again_6 (by decide) ?_
  refine ev_iconst (v := 1) dX12_again_7 (by decide) ?_
  refine ev_call dX12_again_8 rfl rfl mr_12_98 rfl rfl rfl (c_in1 hx) ?_
  rintro _ _ ⟨rfl, rfl⟩
  show Ev lyM (d + 1) hX12_again 11 [some (.ref 0), some (.int (nI j)), none] [.int 1] (ti_wr I 0 12 0, J, R) _
  refine ev_if_eq (t := 36) dX12_again_11 (by decide) (fun q => absurd q (by decide)) (fun _ => ?_)
  refine ev_st dX12_again_14 rfl rfl ?_
  refine ev_getC dX12_again_15 fr_12_82 rfl rfl ?_
  refine ev_st dX12_again_18 rfl rfl ?_
  refine ev_bald (j := j) (v := I 23 j) dX12_again_19 rfl (by decide) rfl (by omega) (by decide) rfl ?_
  refine ev_if_eq (t := 36) (x := I 23 j) dX12_again_20 (by decide) (fun c_20 => ?_) (fun c_20 => ?_)
  · exact absurd c_20 hk.1
  · refine ev_st dX12_again_23 rfl rfl ?_
    refine ev_getC dX12_again_24 fr_12_86 rfl rfl ?_
    refine ev_st dX12_again_27 rfl rfl ?_
    refine ev_iald (j := j) (v := I 24 j) dX12_again_28 rfl rfl (by omega) (by decide) rfl ?_
    refine ev_st dX12_again_29 rfl rfl ?_
    refine ev_getI (v := I 0 39) dX12_again_30 fr_12_150 rfl rfl rfl ?_
    refine ev_ic_eq (t := 38) (x := I 24 j) (y := I 0 39) dX12_again_33 (by decide) (fun c_33 => ?_) (fun c_33 => ?_)
    · refine ev_iconst (v := 0) dX12_again_38 (by decide) ?_
      refine ev_st (L' := [some (.ref 0), some (.int (nI j)), some (.int 0)]) dX12_again_39 rfl rfl ?_
      have K := loop 30 0 (by omega) (by omega)
      rw [m_lay_0] at K
      have e8 : va_up (ti_wr I 0 12 0) 1 (I 1) = ti_wr I 0 12 0 := va_up_id (I := ti_wr I 0 12 0) (q := 1)
      rw [e8] at K
      exact K
    · exact absurd hk.2 c_33
