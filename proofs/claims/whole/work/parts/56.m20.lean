/-! the model: rows, bearers, sayings, sheets -/
theorem ti_wr_at {I : Nat → Nat → Int32} {p k : Nat} {v : Int32} : ti_wr I p k v p k = v := by simp [ti_wr, va_up, upd]
theorem c_lost {I : Nat → Nat → Int32} {J : Nat → Nat → Int64} {R : Nat → Nat → Value} {d : Nat} : Cal lyM d hX12_lost 1 [.ref 0] (I, J, R) (fun r M' => r = some (.int 0) ∧ M' = (ti_wr I 0 12 1, J, R)) := by
  show Ev lyM d hX12_lost 0 [some (.ref 0)] [] (I, J, R) _
  refine ev_st dX12_lost_0 rfl rfl ?_
  refine ev_iconst (v := 1) dX12_lost_1 (by decide) ?_
  refine ev_putI dX12_lost_2 fr_12_89 rfl rfl ?_
  refine ev_iconst (v := 0) dX12_lost_5 (by decide) ?_
  exact ev_iret dX12_lost_6 rfl (⟨rfl, rfl⟩)
theorem c_row0 {I : Nat → Nat → Int32} {J : Nat → Nat → Int64} {R : Nat → Nat → Value} {d m : Nat} (hm : I 0 11 = nI m) (hm16 : m ≤ 16) {x : Int32} (hx : ix m x = none) : Cal lyM (d + 1) hX12_row 2 [.ref 0, .int x] (I, J, R) (fun r M' => r = some (.long 0) ∧ M' = (ti_wr I 0 12 1, J, R)) := by
  show Ev lyM (d + 1) hX12_row 0 [some (.ref 0), some (.int x)] [] (I, J, R) _
  refine ev_st dX12_row_0 rfl rfl ?_
  refine ev_iconst (v := 0) dX12_row_1 (by decide) ?_
  refine ev_putI dX12_row_2 fr_12_89 rfl rfl ?_
  refine ev_st dX12_row_5 rfl rfl ?_
  refine ev_iconst (v := 0) dX12_row_6 (by decide) ?_
  refine ev_st dX12_row_7 rfl rfl ?_
  refine ev_getI (v := nI m) dX12_row_8 fr_12_92 rfl rfl hm ?_
  refine ev_iconst (v := 1) dX12_row_11 (by decide) ?_
  refine ev_st dX12_row_12 rfl rfl ?_
  refine ev_call dX12_row_13 rfl rfl mr_12_98 rfl rfl rfl (c_in0 (by rw [ix_in (by omega), hx]; rfl)) ?_
  rintro _ _ ⟨rfl, rfl⟩
  show Ev lyM (d + 1) hX12_row 16 [some (.ref 0), some (.int x)] [.int 0] (ti_wr I 0 12 0, J, R) _
  refine ev_if_eq (t := 28) dX12_row_16 (by decide) (fun _ => ?_) (fun q => absurd q (by decide))
  refine ev_st dX12_row_28 rfl rfl ?_
  refine ev_call dX12_row_29 rfl rfl mr_12_241 rfl rfl rfl (c_lost) ?_
  rintro _ _ ⟨rfl, rfl⟩
  show Ev lyM (d + 1) hX12_row 32 [some (.ref 0), some (.int x)] [.int 0] (ti_wr (ti_wr I 0 12 0) 0 12 1, J, R) _
  refine ev_st dX12_row_32 rfl rfl ?_
  exact ev_lret dX12_row_33 rfl (⟨rfl, by rw [ti_wr2]⟩)
theorem c_row {I : Nat → Nat → Int32} {J : Nat → Nat → Int64} {R : Nat → Nat → Value} {d m j : Nat} (hm : I 0 11 = nI m) (hm16 : m ≤ 16) (hx : ix m (nI j) = some j) : Cal lyM (d + 1) hX12_row 2 [.ref 0, .int (nI j)] (I, J, R) (fun r M' => r = some (.long (J 7 j)) ∧ M' = (ti_wr I 0 12 0, J, R)) := by
  have hj : j < m := (ix_some (by omega) hx).1
  show Ev lyM (d + 1) hX12_row 0 [some (.ref 0), some (.int (nI j))] [] (I, J, R) _
  refine ev_st dX12_row_0 rfl rfl ?_
  refine ev_iconst (v := 0) dX12_row_1 (by decide) ?_
  refine ev_putI dX12_row_2 fr_12_89 rfl rfl ?_
  refine ev_st dX12_row_5 rfl rfl ?_
  refine ev_iconst (v := 0) dX12_row_6 (by decide) ?_
  refine ev_st dX12_row_7 rfl rfl ?_
  refine ev_getI (v := nI m) dX12_row_8 fr_12_92 rfl rfl hm ?_
  refine ev_iconst (v := 1) dX12_row_11 (by decide) ?_
  refine ev_st dX12_row_12 rfl rfl ?_
  refine ev_call dX12_row_13 rfl rfl mr_12_98 rfl rfl rfl (c_in1 (by rw [ix_in (by omega), hx]; rfl)) ?_
  rintro _ _ ⟨rfl, rfl⟩
  show Ev lyM (d + 1) hX12_row 16 [some (.ref 0), some (.int (nI j))] [.int 1] (ti_wr I 0 12 0, J, R) _
  refine ev_if_eq (t := 28) dX12_row_16 (by decide) (fun q => absurd q (by decide)) (fun _ => ?_)
  refine ev_st dX12_row_19 rfl rfl ?_
  refine ev_getC dX12_row_20 fr_12_33 rfl rfl ?_
  refine ev_st dX12_row_23 rfl rfl ?_
  refine ev_lald (j := j) (v := J 7 j) dX12_row_24 rfl rfl (by omega) (by decide) rfl ?_
  refine ev_goto (t := 33) dX12_row_25 (by decide) ?_
  exact ev_lret dX12_row_33 rfl (⟨rfl, rfl⟩)
theorem c_bearer0 {I : Nat → Nat → Int32} {J : Nat → Nat → Int64} {R : Nat → Nat → Value} {d n : Nat} (hn : I 0 3 = nI n) (hn8 : n ≤ 8) {x y : Int32} (hx : ¬ ((ix n x).isSome = true ∧ m_in y 0 4 = 1)) : Cal lyM (d + 96) hX12_bearer 3 [.ref 0, .int x, .int y] (I, J, R) (fun r M' => r = some (.int 0) ∧ M' = (ti_wr I 0 12 1, J, R)) := by
  show Ev lyM (d + 96) hX12_bearer 0 [some (.ref 0), some (.int x), some (.int y)] [] (I, J, R) _
  refine ev_st dX12_bearer_0 rfl rfl ?_
  refine ev_iconst (v := 0) dX12_bearer_1 (by decide) ?_
  refine ev_putI dX12_bearer_2 fr_12_89 rfl rfl ?_
  refine ev_st dX12_bearer_5 rfl rfl ?_
  refine ev_st dX12_bearer_6 rfl rfl ?_
  refine ev_call dX12_bearer_7 rfl rfl mr_12_237 rfl rfl rfl (c_isMan (I := ti_wr I 0 12 0) hn hn8 x) ?_
  rintro _ _ ⟨rfl, rfl⟩
  show Ev lyM (d + 96) hX12_bearer 10 [some (.ref 0), some (.int x), some (.int y)] [.int (if (ix n x).isSome then 1 else 0)] (ti_wr I 0 12 0, J, R) _
  refine ev_if_eq (t := 22) (x := if (ix n x).isSome then 1 else 0) dX12_bearer_10 (by decide) (fun c_10 => ?_) (fun c_10 => ?_)
  · refine ev_st dX12_bearer_22 rfl rfl ?_
    refine ev_call dX12_bearer_23 rfl rfl mr_12_241 rfl rfl rfl (c_lost) ?_
    rintro _ _ ⟨rfl, rfl⟩
    show Ev lyM (d + 96) hX12_bearer 26 [some (.ref 0), some (.int x), some (.int y)] [.int 0] (ti_wr (ti_wr I 0 12 0) 0 12 1, J, R) _
    exact ev_iret dX12_bearer_26 rfl (⟨rfl, by rw [ti_wr2]⟩)
  · refine ev_st dX12_bearer_13 rfl rfl ?_
    refine ev_iconst (v := 0) dX12_bearer_14 (by decide) ?_
    refine ev_iconst (v := 4) dX12_bearer_15 (by decide) ?_
    refine ev_call dX12_bearer_16 rfl rfl mr_12_98 rfl rfl rfl (c_in y 0 4) ?_
    rintro _ _ ⟨rfl, rfl⟩
    show Ev lyM (d + 96) hX12_bearer 19 [some (.ref 0), some (.int x), some (.int y)] [.int (m_in y 0 4)] (ti_wr I 0 12 0, J, R) _
    refine ev_if_ne (t := 27) (x := m_in y 0 4) dX12_bearer_19 (by decide) (fun c_19 => ?_) (fun c_19 => ?_)
    · exact absurd ⟨if01 c_10, m_in1 c_19⟩ hx
    · refine ev_st dX12_bearer_22 rfl rfl ?_
      refine ev_call dX12_bearer_23 rfl rfl mr_12_241 rfl rfl rfl (c_lost) ?_
      rintro _ _ ⟨rfl, rfl⟩
      show Ev lyM (d + 96) hX12_bearer 26 [some (.ref 0), some (.int x), some (.int y)] [.int 0] (ti_wr (ti_wr I 0 12 0) 0 12 1, J, R) _
      exact ev_iret dX12_bearer_26 rfl (⟨rfl, by rw [ti_wr2]⟩)
theorem c_bearer_0 {I : Nat → Nat → Int32} {J : Nat → Nat → Int64} {R : Nat → Nat → Value} {d n j : Nat} (hn : I 0 3 = nI n) (hn8 : n ≤ 8) (hx : ix n (nI j) = some j) : Cal lyM (d + 96) hX12_bearer 3 [.ref 0, .int (nI j), .int 0] (I, J, R) (fun r M' => r = some (.int (I 3 j)) ∧ M' = (ti_wr I 0 12 0, J, R)) := by
  have hj : j < n := (ix_some (by omega) hx).1
  show Ev lyM (d + 96) hX12_bearer 0 [some (.ref 0), some (.int (nI j)), some (.int 0)] [] (I, J, R) _
  refine ev_st dX12_bearer_0 rfl rfl ?_
  refine ev_iconst (v := 0) dX12_bearer_1 (by decide) ?_
  refine ev_putI dX12_bearer_2 fr_12_89 rfl rfl ?_
  refine ev_st dX12_bearer_5 rfl rfl ?_
  refine ev_st dX12_bearer_6 rfl rfl ?_
  refine ev_call dX12_bearer_7 rfl rfl mr_12_237 rfl rfl rfl ((by have K := c_isMan (I := ti_wr I 0 12 0) (J := J) (R := R) (d := d + 94) hn hn8 (nI j); rw [hx] at K; exact K)) ?_
  rintro _ _ ⟨rfl, rfl⟩
  show Ev lyM (d + 96) hX12_bearer 10 [some (.ref 0), some (.int (nI j)), some (.int 0)] [.int 1] (ti_wr I 0 12 0, J, R) _
  refine ev_if_eq (t := 22) dX12_bearer_10 (by decide) (fun q => absurd q (by decide)) (fun _ => ?_)
  refine ev_st dX12_bearer_13 rfl rfl ?_
  refine ev_iconst (v := 0) dX12_bearer_14 (by decide) ?_
  refine ev_iconst (v := 4) dX12_bearer_15 (by decide) ?_
  refine ev_call dX12_bearer_16 rfl rfl mr_12_98 rfl rfl rfl (c_in1 rfl) ?_
  rintro _ _ ⟨rfl, rfl⟩
  show Ev lyM (d + 96) hX12_bearer 19 [some (.ref 0), some (.int (nI j)), some (.int 0)] [.int 1] (ti_wr I 0 12 0, J, R) _
  refine ev_if_ne (t := 27) dX12_bearer_19 (by decide) (fun _ => ?_) (fun q => absurd q (by decide))
  refine ev_st dX12_bearer_27 rfl rfl ?_
  refine ev_ts (j := 0) (t := 60) dX12_bearer_28 rfl (by decide) (by decide) rfl (by decide) ?_
  refine ev_st dX12_bearer_60 rfl rfl ?_
  refine ev_getC dX12_bearer_61 fr_12_20 rfl rfl ?_
  refine ev_st dX12_bearer_64 rfl rfl ?_
  refine ev_iald (j := j) (v := I 3 j) dX12_bearer_65 rfl rfl (by omega) (by decide) rfl ?_
  exact ev_iret dX12_bearer_66 rfl (⟨rfl, rfl⟩)
theorem c_bearer_1 {I : Nat → Nat → Int32} {J : Nat → Nat → Int64} {R : Nat → Nat → Value} {d n j : Nat} (hn : I 0 3 = nI n) (hn8 : n ≤ 8) (hx : ix n (nI j) = some j) : Cal lyM (d + 96) hX12_bearer 3 [.ref 0, .int (nI j), .int 1] (I, J, R) (fun r M' => r = some (.int (I 4 j)) ∧ M' = (ti_wr I 0 12 0, J, R)) := by
  have hj : j < n := (ix_some (by omega) hx).1
  show Ev lyM (d + 96) hX12_bearer 0 [some (.ref 0), some (.int (nI j)), some (.int 1)] [] (I, J, R) _
  refine ev_st dX12_bearer_0 rfl rfl ?_
  refine ev_iconst (v := 0) dX12_bearer_1 (by decide) ?_
  refine ev_putI dX12_bearer_2 fr_12_89 rfl rfl ?_
  refine ev_st dX12_bearer_5 rfl rfl ?_
  refine ev_st dX12_bearer_6 rfl rfl ?_
  refine ev_call dX12_bearer_7 rfl rfl mr_12_237 rfl rfl rfl ((by have K := c_isMan (I := ti_wr I 0 12 0) (J := J) (R := R) (d := d + 94) hn hn8 (nI j); rw [hx] at K; exact K)) ?_
  rintro _ _ ⟨rfl, rfl⟩
  show Ev lyM (d + 96) hX12_bearer 10 [some (.ref 0), some (.int (nI j)), some (.int 1)] [.int 1] (ti_wr I 0 12 0, J, R) _
  refine ev_if_eq (t := 22) dX12_bearer_10 (by decide) (fun q => absurd q (by decide)) (fun _ => ?_)
  refine ev_st dX12_bearer_13 rfl rfl ?_
  refine ev_iconst (v := 0) dX12_bearer_14 (by decide) ?_
  refine ev_iconst (v := 4) dX12_bearer_15 (by decide) ?_
  refine ev_call dX12_bearer_16 rfl rfl mr_12_98 rfl rfl rfl (c_in1 rfl) ?_
  rintro _ _ ⟨rfl, rfl⟩
  show Ev lyM (d + 96) hX12_bearer 19 [some (.ref 0), some (.int (nI j)), some (.int 1)] [.int 1] (ti_wr I 0 12 0, J, R) _
  refine ev_if_ne (t := 27) dX12_bearer_19 (by decide) (fun _ => ?_) (fun q => absurd q (by decide))
  refine ev_st dX12_bearer_27 rfl rfl ?_
  refine ev_ts (j := 1) (t := 67) dX12_bearer_28 rfl (by decide) (by decide) rfl (by decide) ?_
  refine ev_st dX12_bearer_67 rfl rfl ?_
  refine ev_getC dX12_bearer_68 fr_12_23 rfl rfl ?_
  refine ev_st dX12_bearer_71 rfl rfl ?_
  refine ev_iald (j := j) (v := I 4 j) dX12_bearer_72 rfl rfl (by omega) (by decide) rfl ?_
  exact ev_iret dX12_bearer_73 rfl (⟨rfl, rfl⟩)
theorem c_bearer_2 {I : Nat → Nat → Int32} {J : Nat → Nat → Int64} {R : Nat → Nat → Value} {d n j : Nat} (hn : I 0 3 = nI n) (hn8 : n ≤ 8) (hx : ix n (nI j) = some j) : Cal lyM (d + 96) hX12_bearer 3 [.ref 0, .int (nI j), .int 2] (I, J, R) (fun r M' => r = some (.int (I 1 j)) ∧ M' = (ti_wr I 0 12 0, J, R)) := by
  have hj : j < n := (ix_some (by omega) hx).1
  show Ev lyM (d + 96) hX12_bearer 0 [some (.ref 0), some (.int (nI j)), some (.int 2)] [] (I, J, R) _
  refine ev_st dX12_bearer_0 rfl rfl ?_
  refine ev_iconst (v := 0) dX12_bearer_1 (by decide) ?_
  refine ev_putI dX12_bearer_2 fr_12_89 rfl rfl ?_
  refine ev_st dX12_bearer_5 rfl rfl ?_
  refine ev_st dX12_bearer_6 rfl rfl ?_
  refine ev_call dX12_bearer_7 rfl rfl mr_12_237 rfl rfl rfl ((by have K := c_isMan (I := ti_wr I 0 12 0) (J := J) (R := R) (d := d + 94) hn hn8 (nI j); rw [hx] at K; exact K)) ?_
  rintro _ _ ⟨rfl, rfl⟩
  show Ev lyM (d + 96) hX12_bearer 10 [some (.ref 0), some (.int (nI j)), some (.int 2)] [.int 1] (ti_wr I 0 12 0, J, R) _
  refine ev_if_eq (t := 22) dX12_bearer_10 (by decide) (fun q => absurd q (by decide)) (fun _ => ?_)
  refine ev_st dX12_bearer_13 rfl rfl ?_
  refine ev_iconst (v := 0) dX12_bearer_14 (by decide) ?_
  refine ev_iconst (v := 4) dX12_bearer_15 (by decide) ?_
  refine ev_call dX12_bearer_16 rfl rfl mr_12_98 rfl rfl rfl (c_in1 rfl) ?_
  rintro _ _ ⟨rfl, rfl⟩
  show Ev lyM (d + 96) hX12_bearer 19 [some (.ref 0), some (.int (nI j)), some (.int 2)] [.int 1] (ti_wr I 0 12 0, J, R) _
  refine ev_if_ne (t := 27) dX12_bearer_19 (by decide) (fun _ => ?_) (fun q => absurd q (by decide))
  refine ev_st dX12_bearer_27 rfl rfl ?_
  refine ev_ts (j := 2) (t := 74) dX12_bearer_28 rfl (by decide) (by decide) rfl (by decide) ?_
  refine ev_st dX12_bearer_74 rfl rfl ?_
  refine ev_getC dX12_bearer_75 fr_12_9 rfl rfl ?_
  refine ev_st dX12_bearer_78 rfl rfl ?_
  refine ev_iald (j := j) (v := I 1 j) dX12_bearer_79 rfl rfl (by omega) (by decide) rfl ?_
  exact ev_iret dX12_bearer_80 rfl (⟨rfl, rfl⟩)
theorem c_bearer_3 {I : Nat → Nat → Int32} {J : Nat → Nat → Int64} {R : Nat → Nat → Value} {d n j : Nat} (hn : I 0 3 = nI n) (hn8 : n ≤ 8) (hx : ix n (nI j) = some j) : Cal lyM (d + 96) hX12_bearer 3 [.ref 0, .int (nI j), .int 3] (I, J, R) (fun r M' => r = some (.int (I 1 (8 + j))) ∧ M' = (ti_wr I 0 12 0, J, R)) := by
  have hj : j < n := (ix_some (by omega) hx).1
  show Ev lyM (d + 96) hX12_bearer 0 [some (.ref 0), some (.int (nI j)), some (.int 3)] [] (I, J, R) _
  refine ev_st dX12_bearer_0 rfl rfl ?_
  refine ev_iconst (v := 0) dX12_bearer_1 (by decide) ?_
  refine ev_putI dX12_bearer_2 fr_12_89 rfl rfl ?_
  refine ev_st dX12_bearer_5 rfl rfl ?_
  refine ev_st dX12_bearer_6 rfl rfl ?_
  refine ev_call dX12_bearer_7 rfl rfl mr_12_237 rfl rfl rfl ((by have K := c_isMan (I := ti_wr I 0 12 0) (J := J) (R := R) (d := d + 94) hn hn8 (nI j); rw [hx] at K; exact K)) ?_
  rintro _ _ ⟨rfl, rfl⟩
  show Ev lyM (d + 96) hX12_bearer 10 [some (.ref 0), some (.int (nI j)), some (.int 3)] [.int 1] (ti_wr I 0 12 0, J, R) _
  refine ev_if_eq (t := 22) dX12_bearer_10 (by decide) (fun q => absurd q (by decide)) (fun _ => ?_)
  refine ev_st dX12_bearer_13 rfl rfl ?_
  refine ev_iconst (v := 0) dX12_bearer_14 (by decide) ?_
  refine ev_iconst (v := 4) dX12_bearer_15 (by decide) ?_
  refine ev_call dX12_bearer_16 rfl rfl mr_12_98 rfl rfl rfl (c_in1 rfl) ?_
  rintro _ _ ⟨rfl, rfl⟩
  show Ev lyM (d + 96) hX12_bearer 19 [some (.ref 0), some (.int (nI j)), some (.int 3)] [.int 1] (ti_wr I 0 12 0, J, R) _
  refine ev_if_ne (t := 27) dX12_bearer_19 (by decide) (fun _ => ?_) (fun q => absurd q (by decide))
  refine ev_st dX12_bearer_27 rfl rfl ?_
  refine ev_ts (j := 3) (t := 81) dX12_bearer_28 rfl (by decide) (by decide) rfl (by decide) ?_
  refine ev_st dX12_bearer_81 rfl rfl ?_
  refine ev_getC dX12_bearer_82 fr_12_9 rfl rfl ?_
  refine ev_bipush (v := 8) dX12_bearer_85 (by decide) ?_
  refine ev_st dX12_bearer_87 rfl rfl ?_
  refine ev_iaddN (a := 8) (b := j) (c := 8 + j) dX12_bearer_88 rfl rfl rfl ?_
  refine ev_iald (j := 8 + j) (v := I 1 (8 + j)) dX12_bearer_89 rfl rfl (by omega) (by decide) rfl ?_
  exact ev_iret dX12_bearer_90 rfl (⟨rfl, rfl⟩)
set_option maxHeartbeats 1000000 in
theorem c_bearer_4 {I : Nat → Nat → Int32} {J : Nat → Nat → Int64} {R : Nat → Nat → Value} {d n c a rp rs : Nat} {rv : RV} (hA : mA I R d n c rp rs rv) (ha : I 1 24 = nI a) (hac : a ≤ c) {j : Nat} (hx : ix n (nI j) = some j) : Cal lyM (d + 96) hX12_bearer 3 [.ref 0, .int (nI j), .int 4] (I, J, R) (fun r M' => r = some (.int (m_be rs rv (I 3) (I 4) (I 1) (m_tl (I 4) (m_cy (I 1) n ||| ((1 : Int32) <<< (nI j &&& 31))) n) (m_st c (I 2) a) j (m_cy (I 1) n ||| ((1 : Int32) <<< (nI j &&& 31))))) ∧ ∃ I3 R3, M' = (I3, J, R3) ∧ sM (ti_wr I 0 12 0) R I3 R3) := by
  have hn := hA.1
  have hn8 := hA.2.1
  have hc12 := hA.2.2.2.1
  have ha12 : a ≤ 12 := by omega
  have hB : mB 1 (ti_wr I 0 12 0) R d n c a rp rs rv := hA.w.b1 ha ha12
  have hj : j < n := (ix_some (by omega) hx).1
  show Ev lyM (d + 96) hX12_bearer 0 [some (.ref 0), some (.int (nI j)), some (.int 4)] [] (I, J, R) _
  refine ev_st dX12_bearer_0 rfl rfl ?_
  refine ev_iconst (v := 0) dX12_bearer_1 (by decide) ?_
  refine ev_putI dX12_bearer_2 fr_12_89 rfl rfl ?_
  refine ev_st dX12_bearer_5 rfl rfl ?_
  refine ev_st dX12_bearer_6 rfl rfl ?_
  refine ev_call dX12_bearer_7 rfl rfl mr_12_237 rfl rfl rfl ((by have K := c_isMan (I := ti_wr I 0 12 0) (J := J) (R := R) (d := d + 94) hn hn8 (nI j); rw [hx] at K; exact K)) ?_
  rintro _ _ ⟨rfl, rfl⟩
  show Ev lyM (d + 96) hX12_bearer 10 [some (.ref 0), some (.int (nI j)), some (.int 4)] [.int 1] (ti_wr I 0 12 0, J, R) _
  refine ev_if_eq (t := 22) dX12_bearer_10 (by decide) (fun q => absurd q (by decide)) (fun _ => ?_)
  refine ev_st dX12_bearer_13 rfl rfl ?_
  refine ev_iconst (v := 0) dX12_bearer_14 (by decide) ?_
  refine ev_iconst (v := 4) dX12_bearer_15 (by decide) ?_
  refine ev_call dX12_bearer_16 rfl rfl mr_12_98 rfl rfl rfl (c_in1 rfl) ?_
  rintro _ _ ⟨rfl, rfl⟩
  show Ev lyM (d + 96) hX12_bearer 19 [some (.ref 0), some (.int (nI j)), some (.int 4)] [.int 1] (ti_wr I 0 12 0, J, R) _
  refine ev_if_ne (t := 27) dX12_bearer_19 (by decide) (fun _ => ?_) (fun q => absurd q (by decide))
  refine ev_st dX12_bearer_27 rfl rfl ?_
  refine ev_tsD (j := 4) (t := 91) dX12_bearer_28 (by decide) (by decide) rfl (by decide) ?_
  refine ev_st dX12_bearer_91 rfl rfl ?_
  refine ev_st dX12_bearer_92 rfl rfl ?_
  refine ev_getC dX12_bearer_93 fr_12_9 rfl rfl ?_
  refine ev_st dX12_bearer_96 rfl rfl ?_
  refine ev_st dX12_bearer_97 rfl rfl ?_
  refine ev_st dX12_bearer_98 rfl rfl ?_
  refine ev_getC dX12_bearer_99 fr_12_9 rfl rfl ?_
  refine ev_call dX12_bearer_102 rfl rfl mr_12_244 rfl rfl rfl (c_carry (I := ti_wr I 0 12 0) hn hn8) ?_
  rintro _ _ ⟨rfl, rfl⟩
  show Ev lyM (d + 96) hX12_bearer 105 [some (.ref 0), some (.int (nI j)), some (.int 4)] [.int (m_cy (I 1) n), .int (nI j), .ref 1, .ref 0] (ti_wr I 0 12 0, J, R) _
  refine ev_iconst (v := 1) dX12_bearer_105 (by decide) ?_
  refine ev_st dX12_bearer_106 rfl rfl ?_
  refine ev_st dX12_bearer_107 rfl rfl ?_
  refine ev_st dX12_bearer_108 rfl rfl ?_
  refine ev_call dX12_bearer_109 rfl rfl mr_12_226 rfl rfl rfl (Cal.mono (by omega) (c_bearsOfS (I := ti_wr I 0 12 0) (J := J) hB sM.rf hj (m_cy (I 1) n ||| ((1 : Int32) <<< (nI j &&& 31))))) ?_
  rintro _ _ ⟨rfl, I3, R3, rfl, hs3⟩
  show Ev lyM (d + 96) hX12_bearer 112 [some (.ref 0), some (.int (nI j)), some (.int 4)] [.int (m_be rs rv (I 3) (I 4) (I 1) (m_tl (I 4) (m_cy (I 1) n ||| ((1 : Int32) <<< (nI j &&& 31))) n) (m_st c (I 2) a) j (m_cy (I 1) n ||| ((1 : Int32) <<< (nI j &&& 31))))] (I3, J, R3) _
  exact ev_iret dX12_bearer_112 rfl (⟨rfl, _, _, rfl, hs3⟩)
theorem c_saying0 {I : Nat → Nat → Int32} {J : Nat → Nat → Int64} {R : Nat → Nat → Value} {d ns : Nat} (hns : I 0 6 = nI ns) (hns8 : ns ≤ 8) {x y : Int32} (hx : ¬ ((ix ns x).isSome = true ∧ m_in y 0 5 = 1)) : Cal lyM (d + 2) hX12_saying 3 [.ref 0, .int x, .int y] (I, J, R) (fun r M' => r = some (.int 0) ∧ M' = (ti_wr I 0 12 1, J, R)) := by
  show Ev lyM (d + 2) hX12_saying 0 [some (.ref 0), some (.int x), some (.int y)] [] (I, J, R) _
  refine ev_st dX12_saying_0 rfl rfl ?_
  refine ev_iconst (v := 0) dX12_saying_1 (by decide) ?_
  refine ev_putI dX12_saying_2 fr_12_89 rfl rfl ?_
  refine ev_st dX12_saying_5 rfl rfl ?_
  refine ev_st dX12_saying_6 rfl rfl ?_
  refine ev_call dX12_saying_7 rfl rfl mr_12_247 rfl rfl rfl (c_isSaying (I := ti_wr I 0 12 0) hns hns8 x) ?_
  rintro _ _ ⟨rfl, rfl⟩
  show Ev lyM (d + 2) hX12_saying 10 [some (.ref 0), some (.int x), some (.int y)] [.int (if (ix ns x).isSome then 1 else 0)] (ti_wr I 0 12 0, J, R) _
  refine ev_if_eq (t := 22) (x := if (ix ns x).isSome then 1 else 0) dX12_saying_10 (by decide) (fun c_10 => ?_) (fun c_10 => ?_)
  · refine ev_st dX12_saying_22 rfl rfl ?_
    refine ev_call dX12_saying_23 rfl rfl mr_12_241 rfl rfl rfl (c_lost) ?_
    rintro _ _ ⟨rfl, rfl⟩
    show Ev lyM (d + 2) hX12_saying 26 [some (.ref 0), some (.int x), some (.int y)] [.int 0] (ti_wr (ti_wr I 0 12 0) 0 12 1, J, R) _
    exact ev_iret dX12_saying_26 rfl (⟨rfl, by rw [ti_wr2]⟩)
  · refine ev_st dX12_saying_13 rfl rfl ?_
    refine ev_iconst (v := 0) dX12_saying_14 (by decide) ?_
    refine ev_iconst (v := 5) dX12_saying_15 (by decide) ?_
    refine ev_call dX12_saying_16 rfl rfl mr_12_98 rfl rfl rfl (c_in y 0 5) ?_
    rintro _ _ ⟨rfl, rfl⟩
    show Ev lyM (d + 2) hX12_saying 19 [some (.ref 0), some (.int x), some (.int y)] [.int (m_in y 0 5)] (ti_wr I 0 12 0, J, R) _
    refine ev_if_ne (t := 27) (x := m_in y 0 5) dX12_saying_19 (by decide) (fun c_19 => ?_) (fun c_19 => ?_)
    · exact absurd ⟨if01 c_10, m_in1 c_19⟩ hx
    · refine ev_st dX12_saying_22 rfl rfl ?_
      refine ev_call dX12_saying_23 rfl rfl mr_12_241 rfl rfl rfl (c_lost) ?_
      rintro _ _ ⟨rfl, rfl⟩
      show Ev lyM (d + 2) hX12_saying 26 [some (.ref 0), some (.int x), some (.int y)] [.int 0] (ti_wr (ti_wr I 0 12 0) 0 12 1, J, R) _
      exact ev_iret dX12_saying_26 rfl (⟨rfl, by rw [ti_wr2]⟩)
theorem c_saying_k {I : Nat → Nat → Int32} {J : Nat → Nat → Int64} {R : Nat → Nat → Value} {d ns j q : Nat} (hns : I 0 6 = nI ns) (hns8 : ns ≤ 8) (hx : ix ns (nI j) = some j) (hq : q < 4) : Cal lyM (d + 2) hX12_saying 3 [.ref 0, .int (nI j), .int (nI q)] (I, J, R) (fun r M' => r = some (.int (I 5 (4 * j + q))) ∧ M' = (ti_wr I 0 12 0, J, R)) := by
  have hj : j < ns := (ix_some (by omega) hx).1
  show Ev lyM (d + 2) hX12_saying 0 [some (.ref 0), some (.int (nI j)), some (.int (nI q))] [] (I, J, R) _
  refine ev_st dX12_saying_0 rfl rfl ?_
  refine ev_iconst (v := 0) dX12_saying_1 (by decide) ?_
  refine ev_putI dX12_saying_2 fr_12_89 rfl rfl ?_
  refine ev_st dX12_saying_5 rfl rfl ?_
  refine ev_st dX12_saying_6 rfl rfl ?_
  refine ev_call dX12_saying_7 rfl rfl mr_12_247 rfl rfl rfl ((by have K := c_isSaying (I := ti_wr I 0 12 0) (J := J) (R := R) (d := d) hns hns8 (nI j); rw [hx] at K; exact K)) ?_
  rintro _ _ ⟨rfl, rfl⟩
  show Ev lyM (d + 2) hX12_saying 10 [some (.ref 0), some (.int (nI j)), some (.int (nI q))] [.int 1] (ti_wr I 0 12 0, J, R) _
  refine ev_if_eq (t := 22) dX12_saying_10 (by decide) (fun q => absurd q (by decide)) (fun _ => ?_)
  refine ev_st dX12_saying_13 rfl rfl ?_
  refine ev_iconst (v := 0) dX12_saying_14 (by decide) ?_
  refine ev_iconst (v := 5) dX12_saying_15 (by decide) ?_
  refine ev_call dX12_saying_16 rfl rfl mr_12_98 rfl rfl rfl (c_in1 (by rw [show (5 : Int32) = nI 5 from rfl, ix_inC (by decide), ix_nI (by decide) (by omega)]; rfl)) ?_
  rintro _ _ ⟨rfl, rfl⟩
  show Ev lyM (d + 2) hX12_saying 19 [some (.ref 0), some (.int (nI j)), some (.int (nI q))] [.int 1] (ti_wr I 0 12 0, J, R) _
  refine ev_if_ne (t := 27) dX12_saying_19 (by decide) (fun _ => ?_) (fun q => absurd q (by decide))
  refine ev_st dX12_saying_27 rfl rfl ?_
  refine ev_iconst (v := 4) dX12_saying_28 (by decide) ?_
  refine ev_ic_geN (t := 45) (a := q) (b := 4) dX12_saying_29 (by decide) rfl rfl (by omega) (by omega) (fun c_29 => ?_) (fun c_29 => ?_)
  · omega
  · refine ev_st dX12_saying_32 rfl rfl ?_
    refine ev_getC dX12_saying_33 fr_12_26 rfl rfl ?_
    refine ev_iconst (v := 4) dX12_saying_36 (by decide) ?_
    refine ev_st dX12_saying_37 rfl rfl ?_
    refine ev_imulN (a := 4) (b := j) (c := 4 * j) dX12_saying_38 rfl rfl rfl ?_
    refine ev_st dX12_saying_39 rfl rfl ?_
    refine ev_iaddN (a := 4 * j) (b := q) (c := 4 * j + q) dX12_saying_40 rfl rfl rfl ?_
    refine ev_iald (j := 4 * j + q) (v := I 5 (4 * j + q)) dX12_saying_41 rfl rfl (by omega) (by decide) rfl ?_
    refine ev_goto (t := 82) dX12_saying_42 (by decide) ?_
    exact ev_iret dX12_saying_82 rfl (⟨rfl, rfl⟩)
theorem c_saying_4 {I : Nat → Nat → Int32} {J : Nat → Nat → Int64} {R : Nat → Nat → Value} {d ns j : Nat} (hns : I 0 6 = nI ns) (hns8 : ns ≤ 8) (hx : ix ns (nI j) = some j) : Cal lyM (d + 2) hX12_saying 3 [.ref 0, .int (nI j), .int (nI 4)] (I, J, R) (fun r M' => r = some (.int (I 1 (16 + j))) ∧ M' = (ti_wr I 0 12 0, J, R)) := by
  have hj : j < ns := (ix_some (by omega) hx).1
  show Ev lyM (d + 2) hX12_saying 0 [some (.ref 0), some (.int (nI j)), some (.int (nI 4))] [] (I, J, R) _
  refine ev_st dX12_saying_0 rfl rfl ?_
  refine ev_iconst (v := 0) dX12_saying_1 (by decide) ?_
  refine ev_putI dX12_saying_2 fr_12_89 rfl rfl ?_
  refine ev_st dX12_saying_5 rfl rfl ?_
  refine ev_st dX12_saying_6 rfl rfl ?_
  refine ev_call dX12_saying_7 rfl rfl mr_12_247 rfl rfl rfl ((by have K := c_isSaying (I := ti_wr I 0 12 0) (J := J) (R := R) (d := d) hns hns8 (nI j); rw [hx] at K; exact K)) ?_
  rintro _ _ ⟨rfl, rfl⟩
  show Ev lyM (d + 2) hX12_saying 10 [some (.ref 0), some (.int (nI j)), some (.int (nI 4))] [.int 1] (ti_wr I 0 12 0, J, R) _
  refine ev_if_eq (t := 22) dX12_saying_10 (by decide) (fun q => absurd q (by decide)) (fun _ => ?_)
  refine ev_st dX12_saying_13 rfl rfl ?_
  refine ev_iconst (v := 0) dX12_saying_14 (by decide) ?_
  refine ev_iconst (v := 5) dX12_saying_15 (by decide) ?_
  refine ev_call dX12_saying_16 rfl rfl mr_12_98 rfl rfl rfl (c_in1 rfl) ?_
  rintro _ _ ⟨rfl, rfl⟩
  show Ev lyM (d + 2) hX12_saying 19 [some (.ref 0), some (.int (nI j)), some (.int (nI 4))] [.int 1] (ti_wr I 0 12 0, J, R) _
  refine ev_if_ne (t := 27) dX12_saying_19 (by decide) (fun _ => ?_) (fun q => absurd q (by decide))
  refine ev_st dX12_saying_27 rfl rfl ?_
  refine ev_iconst (v := 4) dX12_saying_28 (by decide) ?_
  refine ev_ic_geN (t := 45) (a := 4) (b := 4) dX12_saying_29 (by decide) rfl rfl (by omega) (by omega) (fun c_29 => ?_) (fun c_29 => ?_)
  · refine ev_st dX12_saying_45 rfl rfl ?_
    refine ev_iconst (v := 4) dX12_saying_46 (by decide) ?_
    refine ev_ic_neN (t := 62) (a := 4) (b := 4) dX12_saying_47 (by decide) rfl rfl (by omega) (by omega) (fun c_47 => ?_) (fun c_47 => ?_)
    · omega
    · refine ev_st dX12_saying_50 rfl rfl ?_
      refine ev_getC dX12_saying_51 fr_12_9 rfl rfl ?_
      refine ev_bipush (v := 16) dX12_saying_54 (by decide) ?_
      refine ev_st dX12_saying_56 rfl rfl ?_
      refine ev_iaddN (a := 16) (b := j) (c := 16 + j) dX12_saying_57 rfl rfl rfl ?_
      refine ev_iald (j := 16 + j) (v := I 1 (16 + j)) dX12_saying_58 rfl rfl (by omega) (by decide) rfl ?_
      refine ev_goto (t := 82) dX12_saying_59 (by decide) ?_
      exact ev_iret dX12_saying_82 rfl (⟨rfl, rfl⟩)
  · omega
theorem c_saying_5 {I : Nat → Nat → Int32} {J : Nat → Nat → Int64} {R : Nat → Nat → Value} {d ns j : Nat} (hns : I 0 6 = nI ns) (hns8 : ns ≤ 8) (hx : ix ns (nI j) = some j) : Cal lyM (d + 2) hX12_saying 3 [.ref 0, .int (nI j), .int (nI 5)] (I, J, R) (fun r M' => r = some (.int (m_kn (I 5) (I 1 26) j)) ∧ M' = (ti_wr I 0 12 0, J, R)) := by
  have hj : j < ns := (ix_some (by omega) hx).1
  show Ev lyM (d + 2) hX12_saying 0 [some (.ref 0), some (.int (nI j)), some (.int (nI 5))] [] (I, J, R) _
  refine ev_st dX12_saying_0 rfl rfl ?_
  refine ev_iconst (v := 0) dX12_saying_1 (by decide) ?_
  refine ev_putI dX12_saying_2 fr_12_89 rfl rfl ?_
  refine ev_st dX12_saying_5 rfl rfl ?_
  refine ev_st dX12_saying_6 rfl rfl ?_
  refine ev_call dX12_saying_7 rfl rfl mr_12_247 rfl rfl rfl ((by have K := c_isSaying (I := ti_wr I 0 12 0) (J := J) (R := R) (d := d) hns hns8 (nI j); rw [hx] at K; exact K)) ?_
  rintro _ _ ⟨rfl, rfl⟩
  show Ev lyM (d + 2) hX12_saying 10 [some (.ref 0), some (.int (nI j)), some (.int (nI 5))] [.int 1] (ti_wr I 0 12 0, J, R) _
  refine ev_if_eq (t := 22) dX12_saying_10 (by decide) (fun q => absurd q (by decide)) (fun _ => ?_)
  refine ev_st dX12_saying_13 rfl rfl ?_
  refine ev_iconst (v := 0) dX12_saying_14 (by decide) ?_
  refine ev_iconst (v := 5) dX12_saying_15 (by decide) ?_
  refine ev_call dX12_saying_16 rfl rfl mr_12_98 rfl rfl rfl (c_in1 rfl) ?_
  rintro _ _ ⟨rfl, rfl⟩
  show Ev lyM (d + 2) hX12_saying 19 [some (.ref 0), some (.int (nI j)), some (.int (nI 5))] [.int 1] (ti_wr I 0 12 0, J, R) _
  refine ev_if_ne (t := 27) dX12_saying_19 (by decide) (fun _ => ?_) (fun q => absurd q (by decide))
  refine ev_st dX12_saying_27 rfl rfl ?_
  refine ev_iconst (v := 4) dX12_saying_28 (by decide) ?_
  refine ev_ic_geN (t := 45) (a := 5) (b := 4) dX12_saying_29 (by decide) rfl rfl (by omega) (by omega) (fun c_29 => ?_) (fun c_29 => ?_)
  · refine ev_st dX12_saying_45 rfl rfl ?_
    refine ev_iconst (v := 4) dX12_saying_46 (by decide) ?_
    refine ev_ic_neN (t := 62) (a := 5) (b := 4) dX12_saying_47 (by decide) rfl rfl (by omega) (by omega) (fun c_47 => ?_) (fun c_47 => ?_)
    · refine ev_st dX12_saying_62 rfl rfl ?_
      refine ev_st dX12_saying_63 rfl rfl ?_
      refine ev_getC dX12_saying_64 fr_12_9 rfl rfl ?_
      refine ev_bipush (v := 26) dX12_saying_67 (by decide) ?_
      refine ev_iald (j := 26) (v := I 1 26) dX12_saying_69 rfl rfl (by decide) (by decide) rfl ?_
      refine ev_st dX12_saying_70 rfl rfl ?_
      refine ev_call dX12_saying_71 rfl rfl mr_12_250 rfl rfl rfl (c_doesKnow (I := ti_wr I 0 12 0) (s := j) (by omega) (I 1 26)) ?_
      rintro _ _ ⟨rfl, rfl⟩
      show Ev lyM (d + 2) hX12_saying 74 [some (.ref 0), some (.int (nI j)), some (.int (nI 5))] [.int (m_kn (I 5) (I 1 26) j)] (ti_wr I 0 12 0, J, R) _
      refine ev_if_eq (t := 81) (x := m_kn (I 5) (I 1 26) j) dX12_saying_74 (by decide) (fun c_74 => ?_) (fun c_74 => ?_)
      · refine ev_iconst (v := 0) dX12_saying_81 (by decide) ?_
        exact ev_iret dX12_saying_82 rfl (⟨by rw [show m_kn (I 5) (I 1 26) j = 0 from c_74], rfl⟩)
      · refine ev_iconst (v := 1) dX12_saying_77 (by decide) ?_
        refine ev_goto (t := 82) dX12_saying_78 (by decide) ?_
        exact ev_iret dX12_saying_82 rfl (⟨by rw [show m_kn (I 5) (I 1 26) j = 1 from (m_has01 _ _).resolve_left c_74], rfl⟩)
    · omega
  · omega
def m_en (kind v : Int32) : Int32 := if kind = 0 then v.toInt8.toInt32 else if kind = 1 then v.toInt16.toInt32 else v
def m_c9 (e : Int32) : Int32 := if 0 < (if e < 9 then e else 9) then (if e < 9 then e else 9) else 0
def m_sh (kind nn f st : Int32) (k : Nat) : Int32 := if kind = 3 then 0 else if nI k < nn then m_c9 (m_en kind (f + nI k * st)) else 0
theorem sh_step (f st : Int32) (k : Nat) : f + nI k * st + st = f + nI (k + 1) * st := by rw [nI_succ, Int32.add_mul, Int32.one_mul, Int32.add_assoc]
theorem sh_0 (f st : Int32) : f = f + nI 0 * st := by rw [nI_0, Int32.zero_mul, Int32.add_zero]
theorem c_sheet1 {I : Nat → Nat → Int32} {J : Nat → Nat → Int64} {R : Nat → Nat → Value} {d : Nat} {x y f st : Int32} (hx : ¬ (m_in x 0 3 = 1 ∧ ¬ 12 < y)) : Cal lyM (d + 1) hX12_sheet 9 [.ref 0, .int x, .int y, .int f, .int st] (I, J, R) (fun r M' => r = some (.int (-1)) ∧ M' = (ti_wr I 0 12 0, J, R)) := by
  show Ev lyM (d + 1) hX12_sheet 0 [some (.ref 0), some (.int x), some (.int y), some (.int f), some (.int st), none, none, none, none] [] (I, J, R) _
  refine ev_st dX12_sheet_0 rfl rfl ?_
  refine ev_iconst (v := 0) dX12_sheet_1 (by decide) ?_
  refine ev_putI dX12_sheet_2 fr_12_89 rfl rfl ?_
  refine ev_st dX12_sheet_5 rfl rfl ?_
  refine ev_iconst (v := 0) dX12_sheet_6 (by decide) ?_
  refine ev_iconst (v := 3) dX12_sheet_7 (by decide) ?_
  refine ev_call dX12_sheet_8 rfl rfl mr_12_98 rfl rfl rfl (c_in x 0 3) ?_
  rintro _ _ ⟨rfl, rfl⟩
  show Ev lyM (d + 1) hX12_sheet 11 [some (.ref 0), some (.int x), some (.int y), some (.int f), some (.int st), none, none, none, none] [.int (m_in x 0 3)] (ti_wr I 0 12 0, J, R) _
  refine ev_if_eq (t := 20) (x := m_in x 0 3) dX12_sheet_11 (by decide) (fun c_11 => ?_) (fun c_11 => ?_)
  · refine ev_iconst (v := -1) dX12_sheet_20 (by decide) ?_
    exact ev_iret dX12_sheet_21 rfl (⟨rfl, rfl⟩)
  · refine ev_st dX12_sheet_14 rfl rfl ?_
    refine ev_bipush (v := 12) dX12_sheet_15 (by decide) ?_
    refine ev_ic_le (t := 22) (x := y) (y := 12) dX12_sheet_17 (by decide) (fun c_17 => ?_) (fun c_17 => ?_)
    · exact absurd ⟨m_in1 c_11, c_17⟩ hx
    · refine ev_iconst (v := -1) dX12_sheet_20 (by decide) ?_
      exact ev_iret dX12_sheet_21 rfl (⟨rfl, rfl⟩)
theorem c_sheet2 {I : Nat → Nat → Int32} {J : Nat → Nat → Int64} {R : Nat → Nat → Value} {d : Nat} {x y f st : Int32} (hx : m_in x 0 3 = 1) (hy : ¬ 12 < y) (h3 : x < 3) (h0 : y < 0) : Cal lyM (d + 1) hX12_sheet 9 [.ref 0, .int x, .int y, .int f, .int st] (I, J, R) (fun r M' => r = some (.int (-2)) ∧ M' = (ti_wr I 0 12 0, J, R)) := by
  show Ev lyM (d + 1) hX12_sheet 0 [some (.ref 0), some (.int x), some (.int y), some (.int f), some (.int st), none, none, none, none] [] (I, J, R) _
  refine ev_st dX12_sheet_0 rfl rfl ?_
  refine ev_iconst (v := 0) dX12_sheet_1 (by decide) ?_
  refine ev_putI dX12_sheet_2 fr_12_89 rfl rfl ?_
  refine ev_st dX12_sheet_5 rfl rfl ?_
  refine ev_iconst (v := 0) dX12_sheet_6 (by decide) ?_
  refine ev_iconst (v := 3) dX12_sheet_7 (by decide) ?_
  refine ev_call dX12_sheet_8 rfl rfl mr_12_98 rfl rfl rfl (c_in1 hx) ?_
  rintro _ _ ⟨rfl, rfl⟩
  show Ev lyM (d + 1) hX12_sheet 11 [some (.ref 0), some (.int x), some (.int y), some (.int f), some (.int st), none, none, none, none] [.int 1] (ti_wr I 0 12 0, J, R) _
  refine ev_if_eq (t := 20) dX12_sheet_11 (by decide) (fun q => absurd q (by decide)) (fun _ => ?_)
  refine ev_st dX12_sheet_14 rfl rfl ?_
  refine ev_bipush (v := 12) dX12_sheet_15 (by decide) ?_
  refine ev_ic_le (t := 22) (x := y) (y := 12) dX12_sheet_17 (by decide) (fun c_17 => ?_) (fun c_17 => ?_)
  · refine ev_st dX12_sheet_22 rfl rfl ?_
    refine ev_iconst (v := 3) dX12_sheet_23 (by decide) ?_
    refine ev_ic_ge (t := 34) (x := x) (y := 3) dX12_sheet_24 (by decide) (fun c_24 => ?_) (fun c_24 => ?_)
    · exact absurd h3 c_24
    · refine ev_st dX12_sheet_27 rfl rfl ?_
      refine ev_if_ge (t := 34) (x := y) dX12_sheet_28 (by decide) (fun c_28 => ?_) (fun c_28 => ?_)
      · exact absurd h0 c_28
      · refine ev_bipush (v := -2) dX12_sheet_31 (by decide) ?_
        exact ev_iret dX12_sheet_33 rfl (⟨rfl, rfl⟩)
  · exact absurd c_17 hy
theorem va_up_id2 {I : Nat → Nat → Int32} : va_up (ti_wr I 0 12 0) 2 (I 2) = ti_wr I 0 12 0 := va_up_id
set_option maxHeartbeats 1000000 in
theorem c_sheet {I : Nat → Nat → Int32} {J : Nat → Nat → Int64} {R : Nat → Nat → Value} {d c : Nat} (hc : I 0 1 = nI c) (hc12 : c ≤ 12) {x y f st : Int32} (hx : m_in x 0 3 = 1) (hy : ¬ 12 < y) (h0 : ¬ (x < 3 ∧ y < 0)) : Cal lyM (d + 1) hX12_sheet 9 [.ref 0, .int x, .int y, .int f, .int st] (I, J, R) (fun r M' => r = some (.int (if x = 3 then -3 else m_sum (m_sh x y f st) c)) ∧ M' = (va_up (ti_wr I 0 12 0) 2 (m_cp (m_sh x y f st) (I 2) c), J, R)) := by
  have loop : ∀ (k b : Nat) (z : Option Value), b ≤ c → c - b < k → Ev lyM (d + 1) hX12_sheet 43 [some (.ref 0), some (.int x), some (.int y), some (.int f), some (.int st), some (.int (m_sum (m_sh x y f st) b)), some (.int (f + nI b * st)), some (.int (nI b)), z] [] (va_up (ti_wr I 0 12 0) 2 (m_cp (m_sh x y f st) (I 2) b), J, R) (fun r M' => r = some (.int (if x = 3 then -3 else m_sum (m_sh x y f st) c)) ∧ M' = (va_up (ti_wr I 0 12 0) 2 (m_cp (m_sh x y f st) (I 2) c), J, R)) := by
    intro k
    induction k with
    | zero => intro b z h1 h2; omega
    | succ k ih =>
      intro b z hb hk
      refine ev_st dX12_sheet_43 rfl rfl ?_
      refine ev_st dX12_sheet_45 rfl rfl ?_
      refine ev_getI (v := nI c) dX12_sheet_46 fr_12_13 rfl rfl hc ?_
      refine ev_ic_geN (t := 135) (a := b) (b := c) dX12_sheet_49 (by decide) rfl rfl (by omega) (by omega) (fun c_49 => ?_) (fun c_49 => ?_)
      · refine ev_st dX12_sheet_135 rfl rfl ?_
        refine ev_iconst (v := 3) dX12_sheet_136 (by decide) ?_
        refine ev_ic_ne (t := 145) (x := x) (y := 3) dX12_sheet_137 (by decide) (fun c_137 => ?_) (fun c_137 => ?_)
        · refine ev_st dX12_sheet_145 rfl rfl ?_
          exact ev_iret dX12_sheet_147 rfl (⟨by rw [if_neg c_137, show b = c by omega], by rw [show b = c by omega]⟩)
        · refine ev_bipush (v := -3) dX12_sheet_140 (by decide) ?_
          refine ev_goto (t := 147) dX12_sheet_142 (by decide) ?_
          exact ev_iret dX12_sheet_147 rfl (⟨by rw [if_pos c_137], by rw [show b = c by omega]⟩)
      · refine ev_st dX12_sheet_52 rfl rfl ?_
        refine ev_if_ne (t := 62) (x := x) dX12_sheet_53 (by decide) (fun c_53 => ?_) (fun c_53 => ?_)
        · refine ev_st dX12_sheet_62 rfl rfl ?_
          refine ev_iconst (v := 1) dX12_sheet_63 (by decide) ?_
          refine ev_ic_ne (t := 73) (x := x) (y := 1) dX12_sheet_64 (by decide) (fun c_64 => ?_) (fun c_64 => ?_)
          · refine ev_st dX12_sheet_73 rfl rfl ?_
            refine ev_st (L' := [some (.ref 0), some (.int x), some (.int y), some (.int f), some (.int st), some (.int (m_sum (m_sh x y f st) b)), some (.int (f + nI b * st)), some (.int (nI b)), some (.int (f + nI b * st))]) dX12_sheet_75 rfl rfl ?_
            refine ev_st dX12_sheet_77 rfl rfl ?_
            refine ev_getC dX12_sheet_78 fr_12_17 rfl rfl ?_
            refine ev_st dX12_sheet_81 rfl rfl ?_
            refine ev_st dX12_sheet_83 rfl rfl ?_
            refine ev_iconst (v := 3) dX12_sheet_84 (by decide) ?_
            refine ev_ic_eq (t := 94) (x := x) (y := 3) dX12_sheet_85 (by decide) (fun c_85 => ?_) (fun c_85 => ?_)
            · refine ev_iconst (v := 0) dX12_sheet_94 (by decide) ?_
              refine ev_goto (t := 109) dX12_sheet_95 (by decide) ?_
              refine ev_iast (j := b) dX12_sheet_109 rfl rfl (by omega) (by decide) ?_
              refine ev_st dX12_sheet_110 rfl rfl ?_
              refine ev_st dX12_sheet_112 rfl rfl ?_
              refine ev_getC dX12_sheet_113 fr_12_17 rfl rfl ?_
              refine ev_st dX12_sheet_116 rfl rfl ?_
              refine ev_iald (j := b) (v := 0) dX12_sheet_118 rfl rfl (by omega) (by decide) ti_wr_at ?_
              refine ev_st dX12_sheet_119 rfl rfl ?_
              refine ev_st (L' := [some (.ref 0), some (.int x), some (.int y), some (.int f), some (.int st), some (.int ((m_sum (m_sh x y f st) b) + 0)), some (.int (f + nI b * st)), some (.int (nI b)), some (.int (f + nI b * st))]) dX12_sheet_120 rfl rfl ?_
              refine ev_st dX12_sheet_122 rfl rfl ?_
              refine ev_st dX12_sheet_124 rfl rfl ?_
              refine ev_st dX12_sheet_126 rfl rfl ?_
              refine ev_st (L' := [some (.ref 0), some (.int x), some (.int y), some (.int f), some (.int st), some (.int ((m_sum (m_sh x y f st) b) + 0)), some (.int ((f + nI b * st) + st)), some (.int (nI b)), some (.int (f + nI b * st))]) dX12_sheet_127 rfl rfl ?_
              refine ev_iincN (a := b) (b := b + 1) (L' := [some (.ref 0), some (.int x), some (.int y), some (.int f), some (.int st), some (.int ((m_sum (m_sh x y f st) b) + 0)), some (.int ((f + nI b * st) + st)), some (.int (nI (b + 1))), some (.int (f + nI b * st))]) dX12_sheet_129 rfl (nI_1 _) rfl ?_
              refine ev_goto (t := 43) dX12_sheet_132 (by decide) ?_
              have ev : ((0 : Int32)) = m_sh x y f st b := by simp only [m_sh, m_en, m_c9, if_neg c_53, if_neg c_64, if_pos c_85]
              have K := fun z => ih (b + 1) z (by omega) (by omega)
              simp only [m_sum] at K
              rw [← sh_step, ← m_cp_s, ← ti_wr_up, ← ev] at K
              exact K _
            · refine ev_st dX12_sheet_88 rfl rfl ?_
              refine ev_st dX12_sheet_90 rfl rfl ?_
              refine ev_ic_lt (t := 98) (x := nI b) (y := y) dX12_sheet_91 (by decide) (fun c_91 => ?_) (fun c_91 => ?_)
              · refine ev_iconst (v := 0) dX12_sheet_98 (by decide) ?_
                refine ev_bipush (v := 9) dX12_sheet_99 (by decide) ?_
                refine ev_st dX12_sheet_101 rfl rfl ?_
                refine ev_min (v := if (f + nI b * st) < 9 then (f + nI b * st) else 9) dX12_sheet_103 br_12_223 rfl rfl ?_
                refine ev_max (v := if 0 < (if (f + nI b * st) < 9 then (f + nI b * st) else 9) then (if (f + nI b * st) < 9 then (f + nI b * st) else 9) else 0) dX12_sheet_106 br_12_205 rfl rfl ?_
                refine ev_iast (j := b) dX12_sheet_109 rfl rfl (by omega) (by decide) ?_
                refine ev_st dX12_sheet_110 rfl rfl ?_
                refine ev_st dX12_sheet_112 rfl rfl ?_
                refine ev_getC dX12_sheet_113 fr_12_17 rfl rfl ?_
                refine ev_st dX12_sheet_116 rfl rfl ?_
                refine ev_iald (j := b) (v := if 0 < (if (f + nI b * st) < 9 then (f + nI b * st) else 9) then (if (f + nI b * st) < 9 then (f + nI b * st) else 9) else 0) dX12_sheet_118 rfl rfl (by omega) (by decide) ti_wr_at ?_
                refine ev_st dX12_sheet_119 rfl rfl ?_
                refine ev_st (L' := [some (.ref 0), some (.int x), some (.int y), some (.int f), some (.int st), some (.int ((m_sum (m_sh x y f st) b) + (if 0 < (if (f + nI b * st) < 9 then (f + nI b * st) else 9) then (if (f + nI b * st) < 9 then (f + nI b * st) else 9) else 0))), some (.int (f + nI b * st)), some (.int (nI b)), some (.int (f + nI b * st))]) dX12_sheet_120 rfl rfl ?_
                refine ev_st dX12_sheet_122 rfl rfl ?_
                refine ev_st dX12_sheet_124 rfl rfl ?_
                refine ev_st dX12_sheet_126 rfl rfl ?_
                refine ev_st (L' := [some (.ref 0), some (.int x), some (.int y), some (.int f), some (.int st), some (.int ((m_sum (m_sh x y f st) b) + (if 0 < (if (f + nI b * st) < 9 then (f + nI b * st) else 9) then (if (f + nI b * st) < 9 then (f + nI b * st) else 9) else 0))), some (.int ((f + nI b * st) + st)), some (.int (nI b)), some (.int (f + nI b * st))]) dX12_sheet_127 rfl rfl ?_
                refine ev_iincN (a := b) (b := b + 1) (L' := [some (.ref 0), some (.int x), some (.int y), some (.int f), some (.int st), some (.int ((m_sum (m_sh x y f st) b) + (if 0 < (if (f + nI b * st) < 9 then (f + nI b * st) else 9) then (if (f + nI b * st) < 9 then (f + nI b * st) else 9) else 0))), some (.int ((f + nI b * st) + st)), some (.int (nI (b + 1))), some (.int (f + nI b * st))]) dX12_sheet_129 rfl (nI_1 _) rfl ?_
                refine ev_goto (t := 43) dX12_sheet_132 (by decide) ?_
                have ev : (if 0 < (if (f + nI b * st) < 9 then (f + nI b * st) else 9) then (if (f + nI b * st) < 9 then (f + nI b * st) else 9) else 0) = m_sh x y f st b := by simp only [m_sh, m_en, m_c9, if_neg c_53, if_neg c_64, if_neg c_85, if_pos c_91]
                have K := fun z => ih (b + 1) z (by omega) (by omega)
                simp only [m_sum] at K
                rw [← sh_step, ← m_cp_s, ← ti_wr_up, ← ev] at K
                exact K _
              · refine ev_iconst (v := 0) dX12_sheet_94 (by decide) ?_
                refine ev_goto (t := 109) dX12_sheet_95 (by decide) ?_
                refine ev_iast (j := b) dX12_sheet_109 rfl rfl (by omega) (by decide) ?_
                refine ev_st dX12_sheet_110 rfl rfl ?_
                refine ev_st dX12_sheet_112 rfl rfl ?_
                refine ev_getC dX12_sheet_113 fr_12_17 rfl rfl ?_
                refine ev_st dX12_sheet_116 rfl rfl ?_
                refine ev_iald (j := b) (v := 0) dX12_sheet_118 rfl rfl (by omega) (by decide) ti_wr_at ?_
                refine ev_st dX12_sheet_119 rfl rfl ?_
                refine ev_st (L' := [some (.ref 0), some (.int x), some (.int y), some (.int f), some (.int st), some (.int ((m_sum (m_sh x y f st) b) + 0)), some (.int (f + nI b * st)), some (.int (nI b)), some (.int (f + nI b * st))]) dX12_sheet_120 rfl rfl ?_
                refine ev_st dX12_sheet_122 rfl rfl ?_
                refine ev_st dX12_sheet_124 rfl rfl ?_
                refine ev_st dX12_sheet_126 rfl rfl ?_
                refine ev_st (L' := [some (.ref 0), some (.int x), some (.int y), some (.int f), some (.int st), some (.int ((m_sum (m_sh x y f st) b) + 0)), some (.int ((f + nI b * st) + st)), some (.int (nI b)), some (.int (f + nI b * st))]) dX12_sheet_127 rfl rfl ?_
                refine ev_iincN (a := b) (b := b + 1) (L' := [some (.ref 0), some (.int x), some (.int y), some (.int f), some (.int st), some (.int ((m_sum (m_sh x y f st) b) + 0)), some (.int ((f + nI b * st) + st)), some (.int (nI (b + 1))), some (.int (f + nI b * st))]) dX12_sheet_129 rfl (nI_1 _) rfl ?_
                refine ev_goto (t := 43) dX12_sheet_132 (by decide) ?_
                have ev : ((0 : Int32)) = m_sh x y f st b := by simp only [m_sh, m_en, m_c9, if_neg c_53, if_neg c_64, if_neg c_85, if_neg c_91]
                have K := fun z => ih (b + 1) z (by omega) (by omega)
                simp only [m_sum] at K
                rw [← sh_step, ← m_cp_s, ← ti_wr_up, ← ev] at K
                exact K _
          · refine ev_st dX12_sheet_67 rfl rfl ?_
            refine ev_st dX12_sheet_69 rfl rfl ?_
            refine ev_goto (t := 75) dX12_sheet_70 (by decide) ?_
            refine ev_st (L' := [some (.ref 0), some (.int x), some (.int y), some (.int f), some (.int st), some (.int (m_sum (m_sh x y f st) b)), some (.int (f + nI b * st)), some (.int (nI b)), some (.int ((f + nI b * st).toInt16.toInt32))]) dX12_sheet_75 rfl rfl ?_
            refine ev_st dX12_sheet_77 rfl rfl ?_
            refine ev_getC dX12_sheet_78 fr_12_17 rfl rfl ?_
            refine ev_st dX12_sheet_81 rfl rfl ?_
            refine ev_st dX12_sheet_83 rfl rfl ?_
            refine ev_iconst (v := 3) dX12_sheet_84 (by decide) ?_
            refine ev_ic_eq (t := 94) (x := x) (y := 3) dX12_sheet_85 (by decide) (fun c_85 => ?_) (fun c_85 => ?_)
            · refine ev_iconst (v := 0) dX12_sheet_94 (by decide) ?_
              refine ev_goto (t := 109) dX12_sheet_95 (by decide) ?_
              refine ev_iast (j := b) dX12_sheet_109 rfl rfl (by omega) (by decide) ?_
              refine ev_st dX12_sheet_110 rfl rfl ?_
              refine ev_st dX12_sheet_112 rfl rfl ?_
              refine ev_getC dX12_sheet_113 fr_12_17 rfl rfl ?_
              refine ev_st dX12_sheet_116 rfl rfl ?_
              refine ev_iald (j := b) (v := 0) dX12_sheet_118 rfl rfl (by omega) (by decide) ti_wr_at ?_
              refine ev_st dX12_sheet_119 rfl rfl ?_
              refine ev_st (L' := [some (.ref 0), some (.int x), some (.int y), some (.int f), some (.int st), some (.int ((m_sum (m_sh x y f st) b) + 0)), some (.int (f + nI b * st)), some (.int (nI b)), some (.int ((f + nI b * st).toInt16.toInt32))]) dX12_sheet_120 rfl rfl ?_
              refine ev_st dX12_sheet_122 rfl rfl ?_
              refine ev_st dX12_sheet_124 rfl rfl ?_
              refine ev_st dX12_sheet_126 rfl rfl ?_
              refine ev_st (L' := [some (.ref 0), some (.int x), some (.int y), some (.int f), some (.int st), some (.int ((m_sum (m_sh x y f st) b) + 0)), some (.int ((f + nI b * st) + st)), some (.int (nI b)), some (.int ((f + nI b * st).toInt16.toInt32))]) dX12_sheet_127 rfl rfl ?_
              refine ev_iincN (a := b) (b := b + 1) (L' := [some (.ref 0), some (.int x), some (.int y), some (.int f), some (.int st), some (.int ((m_sum (m_sh x y f st) b) + 0)), some (.int ((f + nI b * st) + st)), some (.int (nI (b + 1))), some (.int ((f + nI b * st).toInt16.toInt32))]) dX12_sheet_129 rfl (nI_1 _) rfl ?_
              refine ev_goto (t := 43) dX12_sheet_132 (by decide) ?_
              have ev : ((0 : Int32)) = m_sh x y f st b := by simp only [m_sh, m_en, m_c9, if_neg c_53, if_pos c_64, if_pos c_85]
              have K := fun z => ih (b + 1) z (by omega) (by omega)
              simp only [m_sum] at K
              rw [← sh_step, ← m_cp_s, ← ti_wr_up, ← ev] at K
              exact K _
            · refine ev_st dX12_sheet_88 rfl rfl ?_
              refine ev_st dX12_sheet_90 rfl rfl ?_
              refine ev_ic_lt (t := 98) (x := nI b) (y := y) dX12_sheet_91 (by decide) (fun c_91 => ?_) (fun c_91 => ?_)
              · refine ev_iconst (v := 0) dX12_sheet_98 (by decide) ?_
                refine ev_bipush (v := 9) dX12_sheet_99 (by decide) ?_
                refine ev_st dX12_sheet_101 rfl rfl ?_
                refine ev_min (v := if ((f + nI b * st).toInt16.toInt32) < 9 then ((f + nI b * st).toInt16.toInt32) else 9) dX12_sheet_103 br_12_223 rfl rfl ?_
                refine ev_max (v := if 0 < (if ((f + nI b * st).toInt16.toInt32) < 9 then ((f + nI b * st).toInt16.toInt32) else 9) then (if ((f + nI b * st).toInt16.toInt32) < 9 then ((f + nI b * st).toInt16.toInt32) else 9) else 0) dX12_sheet_106 br_12_205 rfl rfl ?_
                refine ev_iast (j := b) dX12_sheet_109 rfl rfl (by omega) (by decide) ?_
                refine ev_st dX12_sheet_110 rfl rfl ?_
                refine ev_st dX12_sheet_112 rfl rfl ?_
                refine ev_getC dX12_sheet_113 fr_12_17 rfl rfl ?_
                refine ev_st dX12_sheet_116 rfl rfl ?_
                refine ev_iald (j := b) (v := if 0 < (if ((f + nI b * st).toInt16.toInt32) < 9 then ((f + nI b * st).toInt16.toInt32) else 9) then (if ((f + nI b * st).toInt16.toInt32) < 9 then ((f + nI b * st).toInt16.toInt32) else 9) else 0) dX12_sheet_118 rfl rfl (by omega) (by decide) ti_wr_at ?_
                refine ev_st dX12_sheet_119 rfl rfl ?_
                refine ev_st (L' := [some (.ref 0), some (.int x), some (.int y), some (.int f), some (.int st), some (.int ((m_sum (m_sh x y f st) b) + (if 0 < (if ((f + nI b * st).toInt16.toInt32) < 9 then ((f + nI b * st).toInt16.toInt32) else 9) then (if ((f + nI b * st).toInt16.toInt32) < 9 then ((f + nI b * st).toInt16.toInt32) else 9) else 0))), some (.int (f + nI b * st)), some (.int (nI b)), some (.int ((f + nI b * st).toInt16.toInt32))]) dX12_sheet_120 rfl rfl ?_
                refine ev_st dX12_sheet_122 rfl rfl ?_
                refine ev_st dX12_sheet_124 rfl rfl ?_
                refine ev_st dX12_sheet_126 rfl rfl ?_
                refine ev_st (L' := [some (.ref 0), some (.int x), some (.int y), some (.int f), some (.int st), some (.int ((m_sum (m_sh x y f st) b) + (if 0 < (if ((f + nI b * st).toInt16.toInt32) < 9 then ((f + nI b * st).toInt16.toInt32) else 9) then (if ((f + nI b * st).toInt16.toInt32) < 9 then ((f + nI b * st).toInt16.toInt32) else 9) else 0))), some (.int ((f + nI b * st) + st)), some (.int (nI b)), some (.int ((f + nI b * st).toInt16.toInt32))]) dX12_sheet_127 rfl rfl ?_
                refine ev_iincN (a := b) (b := b + 1) (L' := [some (.ref 0), some (.int x), some (.int y), some (.int f), some (.int st), some (.int ((m_sum (m_sh x y f st) b) + (if 0 < (if ((f + nI b * st).toInt16.toInt32) < 9 then ((f + nI b * st).toInt16.toInt32) else 9) then (if ((f + nI b * st).toInt16.toInt32) < 9 then ((f + nI b * st).toInt16.toInt32) else 9) else 0))), some (.int ((f + nI b * st) + st)), some (.int (nI (b + 1))), some (.int ((f + nI b * st).toInt16.toInt32))]) dX12_sheet_129 rfl (nI_1 _) rfl ?_
                refine ev_goto (t := 43) dX12_sheet_132 (by decide) ?_
                have ev : (if 0 < (if ((f + nI b * st).toInt16.toInt32) < 9 then ((f + nI b * st).toInt16.toInt32) else 9) then (if ((f + nI b * st).toInt16.toInt32) < 9 then ((f + nI b * st).toInt16.toInt32) else 9) else 0) = m_sh x y f st b := by simp only [m_sh, m_en, m_c9, if_neg c_53, if_pos c_64, if_neg c_85, if_pos c_91]
                have K := fun z => ih (b + 1) z (by omega) (by omega)
                simp only [m_sum] at K
                rw [← sh_step, ← m_cp_s, ← ti_wr_up, ← ev] at K
                exact K _
              · refine ev_iconst (v := 0) dX12_sheet_94 (by decide) ?_
                refine ev_goto (t := 109) dX12_sheet_95 (by decide) ?_
                refine ev_iast (j := b) dX12_sheet_109 rfl rfl (by omega) (by decide) ?_
                refine ev_st dX12_sheet_110 rfl rfl ?_
                refine ev_st dX12_sheet_112 rfl rfl ?_
                refine ev_getC dX12_sheet_113 fr_12_17 rfl rfl ?_
                refine ev_st dX12_sheet_116 rfl rfl ?_
                refine ev_iald (j := b) (v := 0) dX12_sheet_118 rfl rfl (by omega) (by decide) ti_wr_at ?_
                refine ev_st dX12_sheet_119 rfl rfl ?_
                refine ev_st (L' := [some (.ref 0), some (.int x), some (.int y), some (.int f), some (.int st), some (.int ((m_sum (m_sh x y f st) b) + 0)), some (.int (f + nI b * st)), some (.int (nI b)), some (.int ((f + nI b * st).toInt16.toInt32))]) dX12_sheet_120 rfl rfl ?_
                refine ev_st dX12_sheet_122 rfl rfl ?_
                refine ev_st dX12_sheet_124 rfl rfl ?_
                refine ev_st dX12_sheet_126 rfl rfl ?_
                refine ev_st (L' := [some (.ref 0), some (.int x), some (.int y), some (.int f), some (.int st), some (.int ((m_sum (m_sh x y f st) b) + 0)), some (.int ((f + nI b * st) + st)), some (.int (nI b)), some (.int ((f + nI b * st).toInt16.toInt32))]) dX12_sheet_127 rfl rfl ?_
                refine ev_iincN (a := b) (b := b + 1) (L' := [some (.ref 0), some (.int x), some (.int y), some (.int f), some (.int st), some (.int ((m_sum (m_sh x y f st) b) + 0)), some (.int ((f + nI b * st) + st)), some (.int (nI (b + 1))), some (.int ((f + nI b * st).toInt16.toInt32))]) dX12_sheet_129 rfl (nI_1 _) rfl ?_
                refine ev_goto (t := 43) dX12_sheet_132 (by decide) ?_
                have ev : ((0 : Int32)) = m_sh x y f st b := by simp only [m_sh, m_en, m_c9, if_neg c_53, if_pos c_64, if_neg c_85, if_neg c_91]
                have K := fun z => ih (b + 1) z (by omega) (by omega)
                simp only [m_sum] at K
                rw [← sh_step, ← m_cp_s, ← ti_wr_up, ← ev] at K
                exact K _
        · refine ev_st dX12_sheet_56 rfl rfl ?_
          refine ev_st dX12_sheet_58 rfl rfl ?_
          refine ev_goto (t := 75) dX12_sheet_59 (by decide) ?_
          refine ev_st (L' := [some (.ref 0), some (.int x), some (.int y), some (.int f), some (.int st), some (.int (m_sum (m_sh x y f st) b)), some (.int (f + nI b * st)), some (.int (nI b)), some (.int ((f + nI b * st).toInt8.toInt32))]) dX12_sheet_75 rfl rfl ?_
          refine ev_st dX12_sheet_77 rfl rfl ?_
          refine ev_getC dX12_sheet_78 fr_12_17 rfl rfl ?_
          refine ev_st dX12_sheet_81 rfl rfl ?_
          refine ev_st dX12_sheet_83 rfl rfl ?_
          refine ev_iconst (v := 3) dX12_sheet_84 (by decide) ?_
          refine ev_ic_eq (t := 94) (x := x) (y := 3) dX12_sheet_85 (by decide) (fun c_85 => ?_) (fun c_85 => ?_)
          · refine ev_iconst (v := 0) dX12_sheet_94 (by decide) ?_
            refine ev_goto (t := 109) dX12_sheet_95 (by decide) ?_
            refine ev_iast (j := b) dX12_sheet_109 rfl rfl (by omega) (by decide) ?_
            refine ev_st dX12_sheet_110 rfl rfl ?_
            refine ev_st dX12_sheet_112 rfl rfl ?_
            refine ev_getC dX12_sheet_113 fr_12_17 rfl rfl ?_
            refine ev_st dX12_sheet_116 rfl rfl ?_
            refine ev_iald (j := b) (v := 0) dX12_sheet_118 rfl rfl (by omega) (by decide) ti_wr_at ?_
            refine ev_st dX12_sheet_119 rfl rfl ?_
            refine ev_st (L' := [some (.ref 0), some (.int x), some (.int y), some (.int f), some (.int st), some (.int ((m_sum (m_sh x y f st) b) + 0)), some (.int (f + nI b * st)), some (.int (nI b)), some (.int ((f + nI b * st).toInt8.toInt32))]) dX12_sheet_120 rfl rfl ?_
            refine ev_st dX12_sheet_122 rfl rfl ?_
            refine ev_st dX12_sheet_124 rfl rfl ?_
            refine ev_st dX12_sheet_126 rfl rfl ?_
            refine ev_st (L' := [some (.ref 0), some (.int x), some (.int y), some (.int f), some (.int st), some (.int ((m_sum (m_sh x y f st) b) + 0)), some (.int ((f + nI b * st) + st)), some (.int (nI b)), some (.int ((f + nI b * st).toInt8.toInt32))]) dX12_sheet_127 rfl rfl ?_
            refine ev_iincN (a := b) (b := b + 1) (L' := [some (.ref 0), some (.int x), some (.int y), some (.int f), some (.int st), some (.int ((m_sum (m_sh x y f st) b) + 0)), some (.int ((f + nI b * st) + st)), some (.int (nI (b + 1))), some (.int ((f + nI b * st).toInt8.toInt32))]) dX12_sheet_129 rfl (nI_1 _) rfl ?_
            refine ev_goto (t := 43) dX12_sheet_132 (by decide) ?_
            have ev : ((0 : Int32)) = m_sh x y f st b := by simp only [m_sh, m_en, m_c9, if_pos c_53, if_pos c_85]
            have K := fun z => ih (b + 1) z (by omega) (by omega)
            simp only [m_sum] at K
            rw [← sh_step, ← m_cp_s, ← ti_wr_up, ← ev] at K
            exact K _
          · refine ev_st dX12_sheet_88 rfl rfl ?_
            refine ev_st dX12_sheet_90 rfl rfl ?_
            refine ev_ic_lt (t := 98) (x := nI b) (y := y) dX12_sheet_91 (by decide) (fun c_91 => ?_) (fun c_91 => ?_)
            · refine ev_iconst (v := 0) dX12_sheet_98 (by decide) ?_
              refine ev_bipush (v := 9) dX12_sheet_99 (by decide) ?_
              refine ev_st dX12_sheet_101 rfl rfl ?_
              refine ev_min (v := if ((f + nI b * st).toInt8.toInt32) < 9 then ((f + nI b * st).toInt8.toInt32) else 9) dX12_sheet_103 br_12_223 rfl rfl ?_
              refine ev_max (v := if 0 < (if ((f + nI b * st).toInt8.toInt32) < 9 then ((f + nI b * st).toInt8.toInt32) else 9) then (if ((f + nI b * st).toInt8.toInt32) < 9 then ((f + nI b * st).toInt8.toInt32) else 9) else 0) dX12_sheet_106 br_12_205 rfl rfl ?_
              refine ev_iast (j := b) dX12_sheet_109 rfl rfl (by omega) (by decide) ?_
              refine ev_st dX12_sheet_110 rfl rfl ?_
              refine ev_st dX12_sheet_112 rfl rfl ?_
              refine ev_getC dX12_sheet_113 fr_12_17 rfl rfl ?_
              refine ev_st dX12_sheet_116 rfl rfl ?_
              refine ev_iald (j := b) (v := if 0 < (if ((f + nI b * st).toInt8.toInt32) < 9 then ((f + nI b * st).toInt8.toInt32) else 9) then (if ((f + nI b * st).toInt8.toInt32) < 9 then ((f + nI b * st).toInt8.toInt32) else 9) else 0) dX12_sheet_118 rfl rfl (by omega) (by decide) ti_wr_at ?_
              refine ev_st dX12_sheet_119 rfl rfl ?_
              refine ev_st (L' := [some (.ref 0), some (.int x), some (.int y), some (.int f), some (.int st), some (.int ((m_sum (m_sh x y f st) b) + (if 0 < (if ((f + nI b * st).toInt8.toInt32) < 9 then ((f + nI b * st).toInt8.toInt32) else 9) then (if ((f + nI b * st).toInt8.toInt32) < 9 then ((f + nI b * st).toInt8.toInt32) else 9) else 0))), some (.int (f + nI b * st)), some (.int (nI b)), some (.int ((f + nI b * st).toInt8.toInt32))]) dX12_sheet_120 rfl rfl ?_
              refine ev_st dX12_sheet_122 rfl rfl ?_
              refine ev_st dX12_sheet_124 rfl rfl ?_
              refine ev_st dX12_sheet_126 rfl rfl ?_
              refine ev_st (L' := [some (.ref 0), some (.int x), some (.int y), some (.int f), some (.int st), some (.int ((m_sum (m_sh x y f st) b) + (if 0 < (if ((f + nI b * st).toInt8.toInt32) < 9 then ((f + nI b * st).toInt8.toInt32) else 9) then (if ((f + nI b * st).toInt8.toInt32) < 9 then ((f + nI b * st).toInt8.toInt32) else 9) else 0))), some (.int ((f + nI b * st) + st)), some (.int (nI b)), some (.int ((f + nI b * st).toInt8.toInt32))]) dX12_sheet_127 rfl rfl ?_
              refine ev_iincN (a := b) (b := b + 1) (L' := [some (.ref 0), some (.int x), some (.int y), some (.int f), some (.int st), some (.int ((m_sum (m_sh x y f st) b) + (if 0 < (if ((f + nI b * st).toInt8.toInt32) < 9 then ((f + nI b * st).toInt8.toInt32) else 9) then (if ((f + nI b * st).toInt8.toInt32) < 9 then ((f + nI b * st).toInt8.toInt32) else 9) else 0))), some (.int ((f + nI b * st) + st)), some (.int (nI (b + 1))), some (.int ((f + nI b * st).toInt8.toInt32))]) dX12_sheet_129 rfl (nI_1 _) rfl ?_
              refine ev_goto (t := 43) dX12_sheet_132 (by decide) ?_
              have ev : (if 0 < (if ((f + nI b * st).toInt8.toInt32) < 9 then ((f + nI b * st).toInt8.toInt32) else 9) then (if ((f + nI b * st).toInt8.toInt32) < 9 then ((f + nI b * st).toInt8.toInt32) else 9) else 0) = m_sh x y f st b := by simp only [m_sh, m_en, m_c9, if_pos c_53, if_neg c_85, if_pos c_91]
              have K := fun z => ih (b + 1) z (by omega) (by omega)
              simp only [m_sum] at K
              rw [← sh_step, ← m_cp_s, ← ti_wr_up, ← ev] at K
              exact K _
            · refine ev_iconst (v := 0) dX12_sheet_94 (by decide) ?_
              refine ev_goto (t := 109) dX12_sheet_95 (by decide) ?_
              refine ev_iast (j := b) dX12_sheet_109 rfl rfl (by omega) (by decide) ?_
              refine ev_st dX12_sheet_110 rfl rfl ?_
              refine ev_st dX12_sheet_112 rfl rfl ?_
              refine ev_getC dX12_sheet_113 fr_12_17 rfl rfl ?_
              refine ev_st dX12_sheet_116 rfl rfl ?_
              refine ev_iald (j := b) (v := 0) dX12_sheet_118 rfl rfl (by omega) (by decide) ti_wr_at ?_
              refine ev_st dX12_sheet_119 rfl rfl ?_
              refine ev_st (L' := [some (.ref 0), some (.int x), some (.int y), some (.int f), some (.int st), some (.int ((m_sum (m_sh x y f st) b) + 0)), some (.int (f + nI b * st)), some (.int (nI b)), some (.int ((f + nI b * st).toInt8.toInt32))]) dX12_sheet_120 rfl rfl ?_
              refine ev_st dX12_sheet_122 rfl rfl ?_
              refine ev_st dX12_sheet_124 rfl rfl ?_
              refine ev_st dX12_sheet_126 rfl rfl ?_
              refine ev_st (L' := [some (.ref 0), some (.int x), some (.int y), some (.int f), some (.int st), some (.int ((m_sum (m_sh x y f st) b) + 0)), some (.int ((f + nI b * st) + st)), some (.int (nI b)), some (.int ((f + nI b * st).toInt8.toInt32))]) dX12_sheet_127 rfl rfl ?_
              refine ev_iincN (a := b) (b := b + 1) (L' := [some (.ref 0), some (.int x), some (.int y), some (.int f), some (.int st), some (.int ((m_sum (m_sh x y f st) b) + 0)), some (.int ((f + nI b * st) + st)), some (.int (nI (b + 1))), some (.int ((f + nI b * st).toInt8.toInt32))]) dX12_sheet_129 rfl (nI_1 _) rfl ?_
              refine ev_goto (t := 43) dX12_sheet_132 (by decide) ?_
              have ev : ((0 : Int32)) = m_sh x y f st b := by simp only [m_sh, m_en, m_c9, if_pos c_53, if_neg c_85, if_neg c_91]
              have K := fun z => ih (b + 1) z (by omega) (by omega)
              simp only [m_sum] at K
              rw [← sh_step, ← m_cp_s, ← ti_wr_up, ← ev] at K
              exact K _
  show Ev lyM (d + 1) hX12_sheet 0 [some (.ref 0), some (.int x), some (.int y), some (.int f), some (.int st), none, none, none, none] [] (I, J, R) _
  refine ev_st dX12_sheet_0 rfl rfl ?_
  refine ev_iconst (v := 0) dX12_sheet_1 (by decide) ?_
  refine ev_putI dX12_sheet_2 fr_12_89 rfl rfl ?_
  refine ev_st dX12_sheet_5 rfl rfl ?_
  refine ev_iconst (v := 0) dX12_sheet_6 (by decide) ?_
  refine ev_iconst (v := 3) dX12_sheet_7 (by decide) ?_
  refine ev_call dX12_sheet_8 rfl rfl mr_12_98 rfl rfl rfl (c_in1 hx) ?_
  rintro _ _ ⟨rfl, rfl⟩
  show Ev lyM (d + 1) hX12_sheet 11 [some (.ref 0), some (.int x), some (.int y), some (.int f), some (.int st), none, none, none, none] [.int 1] (ti_wr I 0 12 0, J, R) _
  refine ev_if_eq (t := 20) dX12_sheet_11 (by decide) (fun q => absurd q (by decide)) (fun _ => ?_)
  refine ev_st dX12_sheet_14 rfl rfl ?_
  refine ev_bipush (v := 12) dX12_sheet_15 (by decide) ?_
  refine ev_ic_le (t := 22) (x := y) (y := 12) dX12_sheet_17 (by decide) (fun c_17 => ?_) (fun c_17 => ?_)
  · refine ev_st dX12_sheet_22 rfl rfl ?_
    refine ev_iconst (v := 3) dX12_sheet_23 (by decide) ?_
    refine ev_ic_ge (t := 34) (x := x) (y := 3) dX12_sheet_24 (by decide) (fun c_24 => ?_) (fun c_24 => ?_)
    · refine ev_iconst (v := 0) dX12_sheet_34 (by decide) ?_
      refine ev_st (L' := [some (.ref 0), some (.int x), some (.int y), some (.int f), some (.int st), some (.int 0), none, none, none]) dX12_sheet_35 rfl rfl ?_
      refine ev_st dX12_sheet_37 rfl rfl ?_
      refine ev_st (L' := [some (.ref 0), some (.int x), some (.int y), some (.int f), some (.int st), some (.int 0), some (.int f), none, none]) dX12_sheet_38 rfl rfl ?_
      refine ev_iconst (v := 0) dX12_sheet_40 (by decide) ?_
      refine ev_st (L' := [some (.ref 0), some (.int x), some (.int y), some (.int f), some (.int st), some (.int 0), some (.int f), some (.int 0), none]) dX12_sheet_41 rfl rfl ?_
      have K := loop (c + 1) 0 none (by omega) (by omega)
      rw [← sh_0, show m_cp (m_sh x y f st) (I 2) 0 = I 2 from by funext j; simp [m_cp], va_up_id2] at K
      exact K
    · refine ev_st dX12_sheet_27 rfl rfl ?_
      refine ev_if_ge (t := 34) (x := y) dX12_sheet_28 (by decide) (fun c_28 => ?_) (fun c_28 => ?_)
      · refine ev_iconst (v := 0) dX12_sheet_34 (by decide) ?_
        refine ev_st (L' := [some (.ref 0), some (.int x), some (.int y), some (.int f), some (.int st), some (.int 0), none, none, none]) dX12_sheet_35 rfl rfl ?_
        refine ev_st dX12_sheet_37 rfl rfl ?_
        refine ev_st (L' := [some (.ref 0), some (.int x), some (.int y), some (.int f), some (.int st), some (.int 0), some (.int f), none, none]) dX12_sheet_38 rfl rfl ?_
        refine ev_iconst (v := 0) dX12_sheet_40 (by decide) ?_
        refine ev_st (L' := [some (.ref 0), some (.int x), some (.int y), some (.int f), some (.int st), some (.int 0), some (.int f), some (.int 0), none]) dX12_sheet_41 rfl rfl ?_
        have K := loop (c + 1) 0 none (by omega) (by omega)
        rw [← sh_0, show m_cp (m_sh x y f st) (I 2) 0 = I 2 from by funext j; simp [m_cp], va_up_id2] at K
        exact K
      · exact absurd ⟨c_24, c_28⟩ h0
  · exact absurd c_17 hy
