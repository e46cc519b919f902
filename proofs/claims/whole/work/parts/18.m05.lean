/-! the model: what refuses an act, the acts, and the calls that do them -/
def m_rS (c a : Nat) (cy : Int32) : Int32 := if c ≤ a then -2 else if cy = 0 then -3 else 0
def m_rT (n : Nat) (row : Nat → Int32) (x : Int32) : Int32 := match ix n x with
  | none => -1
  | some j => if row (8 + j) = 1 then -2 else if bc (m_cy row n) = 6 then -3 else 0
def m_rL (n : Nat) (row : Nat → Int32) (x : Int32) : Int32 := match ix n x with
  | none => -1
  | some j => if row (8 + j) = 0 then -2 else 0
def m_rV (row : Nat → Int32) (x : Int32) : Int32 := match ix 4 x with
  | none => -1
  | some _ => if row 26 = x then -2 else 0
def m_tr (sy : Nat → Int32) (s : Nat) : Int32 := if sy (4 * s + 1) = 1 then 1 else 0
def m_kn (sy : Nat → Int32) (w : Int32) (s : Nat) : Int32 := m_has (sy (4 * s + 3)) w
def m_rY (ns c a : Nat) (sy row : Nat → Int32) (x : Int32) : Int32 := match ix ns x with
  | none => -1
  | some s => if row (16 + s) = 1 then -2 else if m_kn sy (row 26) s = 0 then -3 else if row 27 = 1 then -4 else if c ≤ a then -5 else 0
def m_lb (sy : Nat → Int32) (ld : Int32) (s : Nat) : Int32 :=
  let v := if m_tr sy s = 0 then ld + sy (4 * s) else ld - sy (4 * s)
  let m := if v < 999 then v else 999
  if 0 < m then m else 0
def m_gy (sy row : Nat → Int32) (s : Nat) : Nat → Int32 := upd (upd (upd row 25 (m_lb sy (row 25) s)) (16 + s) 1) 27 1
/-- an act that can be undone: the state as it was is remembered, the row is now this -/
def m_ac (I : Nat → Nat → Int32) (u : Nat) (row : Nat → Int32) : Nat → Nat → Int32 := va_up (ti_wr (va_up (ti_wr I 0 12 0) 12 (m_rem (I 1) (I 12) u)) 0 25 (nI (m_u1 u))) 1 row
theorem c_isOnHill {I : Nat → Nat → Int32} {J : Nat → Nat → Int64} {R : Nat → Nat → Value} {d c a : Nat} (hc : I 0 1 = nI c) (hc12 : c ≤ 12) (ha : I 1 24 = nI a) (ha12 : a ≤ 12) : Cal lyM d hX12_isOnHill 2 [.ref 0, .ref 1] (I, J, R) (fun r M' => r = some (.int (if c ≤ a then 1 else 0)) ∧ M' = (I, J, R)) := by
  show Ev lyM d hX12_isOnHill 0 [some (.ref 0), some (.ref 1)] [] (I, J, R) _
  refine ev_st dX12_isOnHill_0 rfl rfl ?_
  refine ev_bipush (v := 24) dX12_isOnHill_1 (by decide) ?_
  refine ev_iald (j := 24) (v := nI a) dX12_isOnHill_3 rfl rfl (by decide) (by decide) ha ?_
  refine ev_st dX12_isOnHill_4 rfl rfl ?_
  refine ev_getI (v := nI c) dX12_isOnHill_5 fr_12_13 rfl rfl hc ?_
  refine ev_ic_ltN (t := 15) (a := a) (b := c) dX12_isOnHill_8 (by decide) rfl rfl (by omega) (by omega) (fun c_8 => ?_) (fun c_8 => ?_)
  · refine ev_iconst (v := 0) dX12_isOnHill_15 (by decide) ?_
    exact ev_zret dX12_isOnHill_16 rfl (by decide) (⟨by simp [c_8, Nat.not_le.mpr c_8], rfl⟩)
  · refine ev_iconst (v := 1) dX12_isOnHill_11 (by decide) ?_
    refine ev_goto (t := 16) dX12_isOnHill_12 (by decide) ?_
    exact ev_zret dX12_isOnHill_16 rfl (by decide) (⟨by simp [c_8], rfl⟩)
theorem c_refusesStep {I : Nat → Nat → Int32} {J : Nat → Nat → Int64} {R : Nat → Nat → Value} {d n c a : Nat} (hn : I 0 3 = nI n) (hn8 : n ≤ 8) (hc : I 0 1 = nI c) (hc12 : c ≤ 12) (ha : I 1 24 = nI a) (ha12 : a ≤ 12) : Cal lyM (d + 1) hX12_refusesStep 2 [.ref 0, .ref 1] (I, J, R) (fun r M' => r = some (.int (m_rS c a (m_cy (I 1) n))) ∧ M' = (I, J, R)) := by
  show Ev lyM (d + 1) hX12_refusesStep 0 [some (.ref 0), some (.ref 1)] [] (I, J, R) _
  refine ev_st dX12_refusesStep_0 rfl rfl ?_
  refine ev_st dX12_refusesStep_1 rfl rfl ?_
  refine ev_call dX12_refusesStep_2 rfl rfl mr_12_261 rfl rfl rfl (c_isOnHill hc hc12 ha ha12) ?_
  rintro _ _ ⟨rfl, rfl⟩
  show Ev lyM (d + 1) hX12_refusesStep 5 [some (.ref 0), some (.ref 1)] [.int (if c ≤ a then 1 else 0)] (I, J, R) _
  refine ev_if_eq (t := 13) (x := if c ≤ a then 1 else 0) dX12_refusesStep_5 (by decide) (fun c_5 => ?_) (fun c_5 => ?_)
  · refine ev_st dX12_refusesStep_13 rfl rfl ?_
    refine ev_st dX12_refusesStep_14 rfl rfl ?_
    refine ev_call dX12_refusesStep_15 rfl rfl mr_12_244 rfl rfl rfl (c_carry hn hn8) ?_
    rintro _ _ ⟨rfl, rfl⟩
    show Ev lyM (d + 1) hX12_refusesStep 18 [some (.ref 0), some (.ref 1)] [.int (m_cy (I 1) n)] (I, J, R) _
    refine ev_if_ne (t := 26) (x := m_cy (I 1) n) dX12_refusesStep_18 (by decide) (fun c_18 => ?_) (fun c_18 => ?_)
    · refine ev_iconst (v := 0) dX12_refusesStep_26 (by decide) ?_
      exact ev_iret dX12_refusesStep_27 rfl (⟨by simp [m_rS, (show ¬ c ≤ a by simpa using c_5), c_18], rfl⟩)
    · refine ev_bipush (v := -3) dX12_refusesStep_21 (by decide) ?_
      refine ev_goto (t := 27) dX12_refusesStep_23 (by decide) ?_
      exact ev_iret dX12_refusesStep_27 rfl (⟨by simp [m_rS, (show ¬ c ≤ a by simpa using c_5), c_18], rfl⟩)
  · refine ev_bipush (v := -2) dX12_refusesStep_8 (by decide) ?_
    refine ev_goto (t := 27) dX12_refusesStep_10 (by decide) ?_
    exact ev_iret dX12_refusesStep_27 rfl (⟨by simp [m_rS, (show c ≤ a by simpa using c_5)], rfl⟩)
set_option maxHeartbeats 4000000 in
theorem c_refusesTake {I : Nat → Nat → Int32} {J : Nat → Nat → Int64} {R : Nat → Nat → Value} {d n : Nat} (hn : I 0 3 = nI n) (hn8 : n ≤ 8) (x : Int32) : Cal lyM (d + 2) hX12_refusesTake 3 [.ref 0, .ref 1, .int x] (I, J, R) (fun r M' => r = some (.int (m_rT n (I 1) x)) ∧ M' = (I, J, R)) := by
  cases hx : ix n x with
  | none =>
    show Ev lyM (d + 2) hX12_refusesTake 0 [some (.ref 0), some (.ref 1), some (.int x)] [] (I, J, R) _
    refine ev_st dX12_refusesTake_0 rfl rfl ?_
    refine ev_st dX12_refusesTake_1 rfl rfl ?_
    refine ev_call dX12_refusesTake_2 rfl rfl mr_12_237 rfl rfl rfl ((by have K := c_isMan (J := J) (R := R) (d := d) hn hn8 x; simp only [hx, Option.isSome] at K; exact K)) ?_
    rintro _ _ ⟨rfl, rfl⟩
    show Ev lyM (d + 2) hX12_refusesTake 5 [some (.ref 0), some (.ref 1), some (.int x)] [.int 0] (I, J, R) _
    refine ev_if_ne (t := 10) dX12_refusesTake_5 (by decide) (fun q => absurd q (by decide)) (fun _ => ?_)
    refine ev_iconst (v := -1) dX12_refusesTake_8 (by decide) ?_
    exact ev_iret dX12_refusesTake_9 rfl (⟨by simp [m_rT, hx], rfl⟩)
  | some j =>
    obtain ⟨hj, rfl⟩ := ix_some (by omega) hx
    show Ev lyM (d + 2) hX12_refusesTake 0 [some (.ref 0), some (.ref 1), some (.int (nI j))] [] (I, J, R) _
    refine ev_st dX12_refusesTake_0 rfl rfl ?_
    refine ev_st dX12_refusesTake_1 rfl rfl ?_
    refine ev_call dX12_refusesTake_2 rfl rfl mr_12_237 rfl rfl rfl ((by have K := c_isMan (J := J) (R := R) (d := d) hn hn8 (nI j); simp only [hx, Option.isSome] at K; exact K)) ?_
    rintro _ _ ⟨rfl, rfl⟩
    show Ev lyM (d + 2) hX12_refusesTake 5 [some (.ref 0), some (.ref 1), some (.int (nI j))] [.int 1] (I, J, R) _
    refine ev_if_ne (t := 10) dX12_refusesTake_5 (by decide) (fun _ => ?_) (fun q => absurd q (by decide))
    refine ev_st dX12_refusesTake_10 rfl rfl ?_
    refine ev_bipush (v := 8) dX12_refusesTake_11 (by decide) ?_
    refine ev_st dX12_refusesTake_13 rfl rfl ?_
    refine ev_iaddN (a := 8) (b := j) (c := 8 + j) dX12_refusesTake_14 rfl rfl rfl ?_
    refine ev_iald (j := 8 + j) (v := I 1 (8 + j)) dX12_refusesTake_15 rfl rfl (by omega) (by decide) rfl ?_
    refine ev_iconst (v := 1) dX12_refusesTake_16 (by decide) ?_
    refine ev_ic_ne (t := 23) (x := I 1 (8 + j)) (y := 1) dX12_refusesTake_17 (by decide) (fun c_17 => ?_) (fun c_17 => ?_)
    · refine ev_st dX12_refusesTake_23 rfl rfl ?_
      refine ev_st dX12_refusesTake_24 rfl rfl ?_
      refine ev_call dX12_refusesTake_25 rfl rfl mr_12_244 rfl rfl rfl (c_carry hn hn8) ?_
      rintro _ _ ⟨rfl, rfl⟩
      show Ev lyM (d + 2) hX12_refusesTake 28 [some (.ref 0), some (.ref 1), some (.int (nI j))] [.int (m_cy (I 1) n)] (I, J, R) _
      refine ev_call dX12_refusesTake_28 rfl rfl mr_12_214 rfl rfl rfl (c_bc (m_cy (I 1) n)) ?_
      rintro _ _ ⟨rfl, rfl⟩
      show Ev lyM (d + 2) hX12_refusesTake 31 [some (.ref 0), some (.ref 1), some (.int (nI j))] [.int (bc (m_cy (I 1) n))] (I, J, R) _
      refine ev_bipush (v := 6) dX12_refusesTake_31 (by decide) ?_
      refine ev_ic_ne (t := 41) (x := bc (m_cy (I 1) n)) (y := 6) dX12_refusesTake_33 (by decide) (fun c_33 => ?_) (fun c_33 => ?_)
      · refine ev_iconst (v := 0) dX12_refusesTake_41 (by decide) ?_
        exact ev_iret dX12_refusesTake_42 rfl (⟨by simp [m_rT, hx, c_17, c_33], rfl⟩)
      · refine ev_bipush (v := -3) dX12_refusesTake_36 (by decide) ?_
        refine ev_goto (t := 42) dX12_refusesTake_38 (by decide) ?_
        exact ev_iret dX12_refusesTake_42 rfl (⟨by simp [m_rT, hx, c_17, c_33], rfl⟩)
    · refine ev_bipush (v := -2) dX12_refusesTake_20 (by decide) ?_
      exact ev_iret dX12_refusesTake_22 rfl (⟨by simp [m_rT, hx, c_17], rfl⟩)
set_option maxHeartbeats 4000000 in
theorem c_refusesLeave {I : Nat → Nat → Int32} {J : Nat → Nat → Int64} {R : Nat → Nat → Value} {d n : Nat} (hn : I 0 3 = nI n) (hn8 : n ≤ 8) (x : Int32) : Cal lyM (d + 2) hX12_refusesLeave 2 [.ref 0, .int x] (I, J, R) (fun r M' => r = some (.int (m_rL n (I 1) x)) ∧ M' = (I, J, R)) := by
  cases hx : ix n x with
  | none =>
    show Ev lyM (d + 2) hX12_refusesLeave 0 [some (.ref 0), some (.int x)] [] (I, J, R) _
    refine ev_st dX12_refusesLeave_0 rfl rfl ?_
    refine ev_st dX12_refusesLeave_1 rfl rfl ?_
    refine ev_call dX12_refusesLeave_2 rfl rfl mr_12_237 rfl rfl rfl ((by have K := c_isMan (J := J) (R := R) (d := d) hn hn8 x; simp only [hx, Option.isSome] at K; exact K)) ?_
    rintro _ _ ⟨rfl, rfl⟩
    show Ev lyM (d + 2) hX12_refusesLeave 5 [some (.ref 0), some (.int x)] [.int 0] (I, J, R) _
    refine ev_if_ne (t := 10) dX12_refusesLeave_5 (by decide) (fun q => absurd q (by decide)) (fun _ => ?_)
    refine ev_iconst (v := -1) dX12_refusesLeave_8 (by decide) ?_
    exact ev_iret dX12_refusesLeave_9 rfl (⟨by simp [m_rL, hx], rfl⟩)
  | some j =>
    obtain ⟨hj, rfl⟩ := ix_some (by omega) hx
    show Ev lyM (d + 2) hX12_refusesLeave 0 [some (.ref 0), some (.int (nI j))] [] (I, J, R) _
    refine ev_st dX12_refusesLeave_0 rfl rfl ?_
    refine ev_st dX12_refusesLeave_1 rfl rfl ?_
    refine ev_call dX12_refusesLeave_2 rfl rfl mr_12_237 rfl rfl rfl ((by have K := c_isMan (J := J) (R := R) (d := d) hn hn8 (nI j); simp only [hx, Option.isSome] at K; exact K)) ?_
    rintro _ _ ⟨rfl, rfl⟩
    show Ev lyM (d + 2) hX12_refusesLeave 5 [some (.ref 0), some (.int (nI j))] [.int 1] (I, J, R) _
    refine ev_if_ne (t := 10) dX12_refusesLeave_5 (by decide) (fun _ => ?_) (fun q => absurd q (by decide))
    refine ev_st dX12_refusesLeave_10 rfl rfl ?_
    refine ev_getC dX12_refusesLeave_11 fr_12_9 rfl rfl ?_
    refine ev_bipush (v := 8) dX12_refusesLeave_14 (by decide) ?_
    refine ev_st dX12_refusesLeave_16 rfl rfl ?_
    refine ev_iaddN (a := 8) (b := j) (c := 8 + j) dX12_refusesLeave_17 rfl rfl rfl ?_
    refine ev_iald (j := 8 + j) (v := I 1 (8 + j)) dX12_refusesLeave_18 rfl rfl (by omega) (by decide) rfl ?_
    refine ev_if_ne (t := 27) (x := I 1 (8 + j)) dX12_refusesLeave_19 (by decide) (fun c_19 => ?_) (fun c_19 => ?_)
    · refine ev_iconst (v := 0) dX12_refusesLeave_27 (by decide) ?_
      exact ev_iret dX12_refusesLeave_28 rfl (⟨by simp [m_rL, hx, c_19], rfl⟩)
    · refine ev_bipush (v := -2) dX12_refusesLeave_22 (by decide) ?_
      refine ev_goto (t := 28) dX12_refusesLeave_24 (by decide) ?_
      exact ev_iret dX12_refusesLeave_28 rfl (⟨by simp [m_rL, hx, c_19], rfl⟩)
theorem c_refusesSeventh {I : Nat → Nat → Int32} {J : Nat → Nat → Int64} {R : Nat → Nat → Value} {d : Nat} (x : Int32) : Cal lyM (d + 2) hX12_refusesSeventh 2 [.ref 0, .int x] (I, J, R) (fun r M' => r = some (.int (m_rV (I 1) x)) ∧ M' = (I, J, R)) := by
  cases hx : ix 4 x with
  | none =>
    show Ev lyM (d + 2) hX12_refusesSeventh 0 [some (.ref 0), some (.int x)] [] (I, J, R) _
    refine ev_st dX12_refusesSeventh_0 rfl rfl ?_
    refine ev_call dX12_refusesSeventh_1 rfl rfl mr_12_285 rfl rfl rfl ((by have K := c_isSeventh (lay := lyM) (M := (I, J, R)) (d := d) x; simp only [hx, Option.isSome] at K; exact K)) ?_
    rintro _ _ ⟨rfl, rfl⟩
    show Ev lyM (d + 2) hX12_refusesSeventh 4 [some (.ref 0), some (.int x)] [.int 0] (I, J, R) _
    refine ev_if_ne (t := 9) dX12_refusesSeventh_4 (by decide) (fun q => absurd q (by decide)) (fun _ => ?_)
    refine ev_iconst (v := -1) dX12_refusesSeventh_7 (by decide) ?_
    exact ev_iret dX12_refusesSeventh_8 rfl (⟨by simp [m_rV, hx], rfl⟩)
  | some j =>
    show Ev lyM (d + 2) hX12_refusesSeventh 0 [some (.ref 0), some (.int x)] [] (I, J, R) _
    refine ev_st dX12_refusesSeventh_0 rfl rfl ?_
    refine ev_call dX12_refusesSeventh_1 rfl rfl mr_12_285 rfl rfl rfl ((by have K := c_isSeventh (lay := lyM) (M := (I, J, R)) (d := d) x; simp only [hx, Option.isSome] at K; exact K)) ?_
    rintro _ _ ⟨rfl, rfl⟩
    show Ev lyM (d + 2) hX12_refusesSeventh 4 [some (.ref 0), some (.int x)] [.int 1] (I, J, R) _
    refine ev_if_ne (t := 9) dX12_refusesSeventh_4 (by decide) (fun _ => ?_) (fun q => absurd q (by decide))
    refine ev_st dX12_refusesSeventh_9 rfl rfl ?_
    refine ev_getC dX12_refusesSeventh_10 fr_12_9 rfl rfl ?_
    refine ev_bipush (v := 26) dX12_refusesSeventh_13 (by decide) ?_
    refine ev_iald (j := 26) (v := I 1 26) dX12_refusesSeventh_15 rfl rfl (by decide) (by decide) rfl ?_
    refine ev_st dX12_refusesSeventh_16 rfl rfl ?_
    refine ev_ic_ne (t := 25) (x := I 1 26) (y := x) dX12_refusesSeventh_17 (by decide) (fun c_17 => ?_) (fun c_17 => ?_)
    · refine ev_iconst (v := 0) dX12_refusesSeventh_25 (by decide) ?_
      exact ev_iret dX12_refusesSeventh_26 rfl (⟨by simp [m_rV, hx, c_17], rfl⟩)
    · refine ev_bipush (v := -2) dX12_refusesSeventh_20 (by decide) ?_
      refine ev_goto (t := 26) dX12_refusesSeventh_22 (by decide) ?_
      exact ev_iret dX12_refusesSeventh_26 rfl (⟨by simp [m_rV, hx, c_17], rfl⟩)
theorem c_heavy {I : Nat → Nat → Int32} {J : Nat → Nat → Int64} {R : Nat → Nat → Value} {d s : Nat} (hs8 : s < 8) : Cal lyM d hX12_heavy 2 [.ref 0, .int (nI s)] (I, J, R) (fun r M' => r = some (.int (I 5 (4 * s))) ∧ M' = (I, J, R)) := by
  show Ev lyM d hX12_heavy 0 [some (.ref 0), some (.int (nI s))] [] (I, J, R) _
  refine ev_st dX12_heavy_0 rfl rfl ?_
  refine ev_getC dX12_heavy_1 fr_12_26 rfl rfl ?_
  refine ev_iconst (v := 4) dX12_heavy_4 (by decide) ?_
  refine ev_st dX12_heavy_5 rfl rfl ?_
  refine ev_imulN (a := 4) (b := s) (c := 4 * s) dX12_heavy_6 rfl rfl rfl ?_
  refine ev_iald (j := 4 * s) (v := I 5 (4 * s)) dX12_heavy_7 rfl rfl (by omega) (by decide) rfl ?_
  exact ev_iret dX12_heavy_8 rfl (⟨rfl, rfl⟩)
theorem c_isTrue {I : Nat → Nat → Int32} {J : Nat → Nat → Int64} {R : Nat → Nat → Value} {d s : Nat} (hs8 : s < 8) : Cal lyM d hX12_isTrue 2 [.ref 0, .int (nI s)] (I, J, R) (fun r M' => r = some (.int (m_tr (I 5) s)) ∧ M' = (I, J, R)) := by
  show Ev lyM d hX12_isTrue 0 [some (.ref 0), some (.int (nI s))] [] (I, J, R) _
  refine ev_st dX12_isTrue_0 rfl rfl ?_
  refine ev_getC dX12_isTrue_1 fr_12_26 rfl rfl ?_
  refine ev_iconst (v := 4) dX12_isTrue_4 (by decide) ?_
  refine ev_st dX12_isTrue_5 rfl rfl ?_
  refine ev_imulN (a := 4) (b := s) (c := 4 * s) dX12_isTrue_6 rfl rfl rfl ?_
  refine ev_iconst (v := 1) dX12_isTrue_7 (by decide) ?_
  refine ev_iaddN (a := 4 * s) (b := 1) (c := 4 * s + 1) dX12_isTrue_8 rfl rfl rfl ?_
  refine ev_iald (j := 4 * s + 1) (v := I 5 (4 * s + 1)) dX12_isTrue_9 rfl rfl (by omega) (by decide) rfl ?_
  refine ev_iconst (v := 1) dX12_isTrue_10 (by decide) ?_
  refine ev_ic_ne (t := 18) (x := I 5 (4 * s + 1)) (y := 1) dX12_isTrue_11 (by decide) (fun c_11 => ?_) (fun c_11 => ?_)
  · refine ev_iconst (v := 0) dX12_isTrue_18 (by decide) ?_
    exact ev_zret dX12_isTrue_19 rfl (by decide) (⟨by simp [m_tr, c_11], rfl⟩)
  · refine ev_iconst (v := 1) dX12_isTrue_14 (by decide) ?_
    refine ev_goto (t := 19) dX12_isTrue_15 (by decide) ?_
    exact ev_zret dX12_isTrue_19 rfl (by decide) (⟨by simp [m_tr, c_11], rfl⟩)
theorem m_has01 (x k : Int32) : m_has x k = 0 ∨ m_has x k = 1 := by unfold m_has; split <;> simp
theorem c_doesKnow {I : Nat → Nat → Int32} {J : Nat → Nat → Int64} {R : Nat → Nat → Value} {d s : Nat} (hs8 : s < 8) (w : Int32) : Cal lyM (d + 1) hX12_doesKnow 3 [.ref 0, .int w, .int (nI s)] (I, J, R) (fun r M' => r = some (.int (m_kn (I 5) w s)) ∧ M' = (I, J, R)) := by
  show Ev lyM (d + 1) hX12_doesKnow 0 [some (.ref 0), some (.int w), some (.int (nI s))] [] (I, J, R) _
  refine ev_st dX12_doesKnow_0 rfl rfl ?_
  refine ev_getC dX12_doesKnow_1 fr_12_26 rfl rfl ?_
  refine ev_iconst (v := 4) dX12_doesKnow_4 (by decide) ?_
  refine ev_st dX12_doesKnow_5 rfl rfl ?_
  refine ev_imulN (a := 4) (b := s) (c := 4 * s) dX12_doesKnow_6 rfl rfl rfl ?_
  refine ev_iconst (v := 3) dX12_doesKnow_7 (by decide) ?_
  refine ev_iaddN (a := 4 * s) (b := 3) (c := 4 * s + 3) dX12_doesKnow_8 rfl rfl rfl ?_
  refine ev_iald (j := 4 * s + 3) (v := I 5 (4 * s + 3)) dX12_doesKnow_9 rfl rfl (by omega) (by decide) rfl ?_
  refine ev_st dX12_doesKnow_10 rfl rfl ?_
  refine ev_call dX12_doesKnow_11 rfl rfl mr_12_201 rfl rfl rfl (c_has (I 5 (4 * s + 3)) w) ?_
  rintro _ _ ⟨rfl, rfl⟩
  show Ev lyM (d + 1) hX12_doesKnow 14 [some (.ref 0), some (.int w), some (.int (nI s))] [.int (m_has (I 5 (4 * s + 3)) w)] (I, J, R) _
  exact ev_zret dX12_doesKnow_14 rfl (m_has01 _ _) (⟨rfl, rfl⟩)
theorem c_loadBy {I : Nat → Nat → Int32} {J : Nat → Nat → Int64} {R : Nat → Nat → Value} {d s : Nat} (hs8 : s < 8) (l : Int32) : Cal lyM (d + 1) hX12_loadBy 3 [.ref 0, .int l, .int (nI s)] (I, J, R) (fun r M' => r = some (.int (m_lb (I 5) l s)) ∧ M' = (I, J, R)) := by
  show Ev lyM (d + 1) hX12_loadBy 0 [some (.ref 0), some (.int l), some (.int (nI s))] [] (I, J, R) _
  refine ev_iconst (v := 0) dX12_loadBy_0 (by decide) ?_
  refine ev_sipush (v := 999) dX12_loadBy_1 (by decide) ?_
  refine ev_st dX12_loadBy_4 rfl rfl ?_
  refine ev_st dX12_loadBy_5 rfl rfl ?_
  refine ev_call dX12_loadBy_6 rfl rfl mr_12_291 rfl rfl rfl (c_isTrue hs8) ?_
  rintro _ _ ⟨rfl, rfl⟩
  show Ev lyM (d + 1) hX12_loadBy 9 [some (.ref 0), some (.int l), some (.int (nI s))] [.int (m_tr (I 5) s), .int 999, .int 0] (I, J, R) _
  refine ev_if_eq (t := 22) (x := m_tr (I 5) s) dX12_loadBy_9 (by decide) (fun c_9 => ?_) (fun c_9 => ?_)
  · refine ev_st dX12_loadBy_22 rfl rfl ?_
    refine ev_st dX12_loadBy_23 rfl rfl ?_
    refine ev_st dX12_loadBy_24 rfl rfl ?_
    refine ev_call dX12_loadBy_25 rfl rfl mr_12_294 rfl rfl rfl (c_heavy hs8) ?_
    rintro _ _ ⟨rfl, rfl⟩
    show Ev lyM (d + 1) hX12_loadBy 28 [some (.ref 0), some (.int l), some (.int (nI s))] [.int (I 5 (4 * s)), .int l, .int 999, .int 0] (I, J, R) _
    refine ev_st dX12_loadBy_28 rfl rfl ?_
    refine ev_min (v := if (l + (I 5 (4 * s))) < 999 then (l + (I 5 (4 * s))) else 999) dX12_loadBy_29 br_12_223 rfl rfl ?_
    refine ev_max (v := if 0 < (if (l + (I 5 (4 * s))) < 999 then (l + (I 5 (4 * s))) else 999) then (if (l + (I 5 (4 * s))) < 999 then (l + (I 5 (4 * s))) else 999) else 0) dX12_loadBy_32 br_12_205 rfl rfl ?_
    exact ev_iret dX12_loadBy_35 rfl (⟨by simp [m_lb, c_9], rfl⟩)
  · refine ev_st dX12_loadBy_12 rfl rfl ?_
    refine ev_st dX12_loadBy_13 rfl rfl ?_
    refine ev_st dX12_loadBy_14 rfl rfl ?_
    refine ev_call dX12_loadBy_15 rfl rfl mr_12_294 rfl rfl rfl (c_heavy hs8) ?_
    rintro _ _ ⟨rfl, rfl⟩
    show Ev lyM (d + 1) hX12_loadBy 18 [some (.ref 0), some (.int l), some (.int (nI s))] [.int (I 5 (4 * s)), .int l, .int 999, .int 0] (I, J, R) _
    refine ev_st dX12_loadBy_18 rfl rfl ?_
    refine ev_goto (t := 29) dX12_loadBy_19 (by decide) ?_
    refine ev_min (v := if (l - (I 5 (4 * s))) < 999 then (l - (I 5 (4 * s))) else 999) dX12_loadBy_29 br_12_223 rfl rfl ?_
    refine ev_max (v := if 0 < (if (l - (I 5 (4 * s))) < 999 then (l - (I 5 (4 * s))) else 999) then (if (l - (I 5 (4 * s))) < 999 then (l - (I 5 (4 * s))) else 999) else 0) dX12_loadBy_32 br_12_205 rfl rfl ?_
    exact ev_iret dX12_loadBy_35 rfl (⟨by simp [m_lb, c_9], rfl⟩)
set_option maxHeartbeats 4000000 in
theorem c_refusesSay {I : Nat → Nat → Int32} {J : Nat → Nat → Int64} {R : Nat → Nat → Value} {d ns c a : Nat} (hn : I 0 6 = nI ns) (hn8 : ns ≤ 8) (hc : I 0 1 = nI c) (hc12 : c ≤ 12) (ha : I 1 24 = nI a) (ha12 : a ≤ 12) (x : Int32) : Cal lyM (d + 3) hX12_refusesSay 3 [.ref 0, .ref 1, .int x] (I, J, R) (fun r M' => r = some (.int (m_rY ns c a (I 5) (I 1) x)) ∧ M' = (I, J, R)) := by
  cases hx : ix ns x with
  | none =>
    show Ev lyM (d + 3) hX12_refusesSay 0 [some (.ref 0), some (.ref 1), some (.int x)] [] (I, J, R) _
    refine ev_st dX12_refusesSay_0 rfl rfl ?_
    refine ev_st dX12_refusesSay_1 rfl rfl ?_
    refine ev_call dX12_refusesSay_2 rfl rfl mr_12_247 rfl rfl rfl ((by have K := c_isSaying (J := J) (R := R) (d := d + 1) hn hn8 x; simp only [hx, Option.isSome] at K; exact K)) ?_
    rintro _ _ ⟨rfl, rfl⟩
    show Ev lyM (d + 3) hX12_refusesSay 5 [some (.ref 0), some (.ref 1), some (.int x)] [.int 0] (I, J, R) _
    refine ev_if_ne (t := 10) dX12_refusesSay_5 (by decide) (fun q => absurd q (by decide)) (fun _ => ?_)
    refine ev_iconst (v := -1) dX12_refusesSay_8 (by decide) ?_
    exact ev_iret dX12_refusesSay_9 rfl (⟨by simp [m_rY, hx], rfl⟩)
  | some j =>
    obtain ⟨hj, rfl⟩ := ix_some (by omega) hx
    show Ev lyM (d + 3) hX12_refusesSay 0 [some (.ref 0), some (.ref 1), some (.int (nI j))] [] (I, J, R) _
    refine ev_st dX12_refusesSay_0 rfl rfl ?_
    refine ev_st dX12_refusesSay_1 rfl rfl ?_
    refine ev_call dX12_refusesSay_2 rfl rfl mr_12_247 rfl rfl rfl ((by have K := c_isSaying (J := J) (R := R) (d := d + 1) hn hn8 (nI j); simp only [hx, Option.isSome] at K; exact K)) ?_
    rintro _ _ ⟨rfl, rfl⟩
    show Ev lyM (d + 3) hX12_refusesSay 5 [some (.ref 0), some (.ref 1), some (.int (nI j))] [.int 1] (I, J, R) _
    refine ev_if_ne (t := 10) dX12_refusesSay_5 (by decide) (fun _ => ?_) (fun q => absurd q (by decide))
    refine ev_st dX12_refusesSay_10 rfl rfl ?_
    refine ev_bipush (v := 16) dX12_refusesSay_11 (by decide) ?_
    refine ev_st dX12_refusesSay_13 rfl rfl ?_
    refine ev_iaddN (a := 16) (b := j) (c := 16 + j) dX12_refusesSay_14 rfl rfl rfl ?_
    refine ev_iald (j := 16 + j) (v := I 1 (16 + j)) dX12_refusesSay_15 rfl rfl (by omega) (by decide) rfl ?_
    refine ev_iconst (v := 1) dX12_refusesSay_16 (by decide) ?_
    refine ev_ic_ne (t := 23) (x := I 1 (16 + j)) (y := 1) dX12_refusesSay_17 (by decide) (fun c_17 => ?_) (fun c_17 => ?_)
    · refine ev_st dX12_refusesSay_23 rfl rfl ?_
      refine ev_st dX12_refusesSay_24 rfl rfl ?_
      refine ev_bipush (v := 26) dX12_refusesSay_25 (by decide) ?_
      refine ev_iald (j := 26) (v := I 1 26) dX12_refusesSay_27 rfl rfl (by decide) (by decide) rfl ?_
      refine ev_st dX12_refusesSay_28 rfl rfl ?_
      refine ev_call dX12_refusesSay_29 rfl rfl mr_12_250 rfl rfl rfl (c_doesKnow (by omega) (I 1 26)) ?_
      rintro _ _ ⟨rfl, rfl⟩
      show Ev lyM (d + 3) hX12_refusesSay 32 [some (.ref 0), some (.ref 1), some (.int (nI j))] [.int (m_kn (I 5) (I 1 26) j)] (I, J, R) _
      refine ev_if_ne (t := 38) (x := m_kn (I 5) (I 1 26) j) dX12_refusesSay_32 (by decide) (fun c_32 => ?_) (fun c_32 => ?_)
      · refine ev_st dX12_refusesSay_38 rfl rfl ?_
        refine ev_bipush (v := 27) dX12_refusesSay_39 (by decide) ?_
        refine ev_iald (j := 27) (v := I 1 27) dX12_refusesSay_41 rfl rfl (by decide) (by decide) rfl ?_
        refine ev_iconst (v := 1) dX12_refusesSay_42 (by decide) ?_
        refine ev_ic_ne (t := 49) (x := I 1 27) (y := 1) dX12_refusesSay_43 (by decide) (fun c_43 => ?_) (fun c_43 => ?_)
        · refine ev_st dX12_refusesSay_49 rfl rfl ?_
          refine ev_st dX12_refusesSay_50 rfl rfl ?_
          refine ev_call dX12_refusesSay_51 rfl rfl mr_12_261 rfl rfl rfl (c_isOnHill hc hc12 ha ha12) ?_
          rintro _ _ ⟨rfl, rfl⟩
          show Ev lyM (d + 3) hX12_refusesSay 54 [some (.ref 0), some (.ref 1), some (.int (nI j))] [.int (if c ≤ a then 1 else 0)] (I, J, R) _
          refine ev_if_eq (t := 62) (x := if c ≤ a then 1 else 0) dX12_refusesSay_54 (by decide) (fun c_54 => ?_) (fun c_54 => ?_)
          · refine ev_iconst (v := 0) dX12_refusesSay_62 (by decide) ?_
            exact ev_iret dX12_refusesSay_63 rfl (⟨by simp [m_rY, hx, c_17, c_32, c_43, (show ¬ c ≤ a by simpa using c_54)], rfl⟩)
          · refine ev_bipush (v := -5) dX12_refusesSay_57 (by decide) ?_
            refine ev_goto (t := 63) dX12_refusesSay_59 (by decide) ?_
            exact ev_iret dX12_refusesSay_63 rfl (⟨by simp [m_rY, hx, c_17, c_32, c_43, (show c ≤ a by simpa using c_54)], rfl⟩)
        · refine ev_bipush (v := -4) dX12_refusesSay_46 (by decide) ?_
          exact ev_iret dX12_refusesSay_48 rfl (⟨by simp [m_rY, hx, c_17, c_32, c_43], rfl⟩)
      · refine ev_bipush (v := -3) dX12_refusesSay_35 (by decide) ?_
        exact ev_iret dX12_refusesSay_37 rfl (⟨by simp [m_rY, hx, c_17, c_32], rfl⟩)
    · refine ev_bipush (v := -2) dX12_refusesSay_20 (by decide) ?_
      exact ev_iret dX12_refusesSay_22 rfl (⟨by simp [m_rY, hx, c_17], rfl⟩)
theorem va_up_up {I : Nat → Nat → Int32} {q : Nat} {r r2 : Nat → Int32} : va_up (va_up I q r) q r2 = va_up I q r2 := by
  funext p j
  by_cases h : p = q <;> simp [va_up, h]
theorem c_goSay {I : Nat → Nat → Int32} {J : Nat → Nat → Int64} {R : Nat → Nat → Value} {d s : Nat} (hs8 : s < 8) : Cal lyM (d + 2) hX12_goSay 3 [.ref 0, .ref 1, .int (nI s)] (I, J, R) (fun r M' => r = none ∧ M' = (va_up I 1 (m_gy (I 5) (I 1) s), J, R)) := by
  show Ev lyM (d + 2) hX12_goSay 0 [some (.ref 0), some (.ref 1), some (.int (nI s))] [] (I, J, R) _
  refine ev_st dX12_goSay_0 rfl rfl ?_
  refine ev_bipush (v := 25) dX12_goSay_1 (by decide) ?_
  refine ev_st dX12_goSay_3 rfl rfl ?_
  refine ev_st dX12_goSay_4 rfl rfl ?_
  refine ev_bipush (v := 25) dX12_goSay_5 (by decide) ?_
  refine ev_iald (j := 25) (v := I 1 25) dX12_goSay_7 rfl rfl (by decide) (by decide) rfl ?_
  refine ev_st dX12_goSay_8 rfl rfl ?_
  refine ev_call dX12_goSay_9 rfl rfl mr_12_297 rfl rfl rfl (c_loadBy hs8 (I 1 25)) ?_
  rintro _ _ ⟨rfl, rfl⟩
  show Ev lyM (d + 2) hX12_goSay 12 [some (.ref 0), some (.ref 1), some (.int (nI s))] [.int (m_lb (I 5) (I 1 25) s), .int 25, .ref 1] (I, J, R) _
  refine ev_iast (j := 25) dX12_goSay_12 rfl rfl (by decide) (by decide) ?_
  refine ev_st dX12_goSay_13 rfl rfl ?_
  refine ev_bipush (v := 16) dX12_goSay_14 (by decide) ?_
  refine ev_st dX12_goSay_16 rfl rfl ?_
  refine ev_iaddN (a := 16) (b := s) (c := 16 + s) dX12_goSay_17 rfl rfl rfl ?_
  refine ev_iconst (v := 1) dX12_goSay_18 (by decide) ?_
  refine ev_iast (j := 16 + s) dX12_goSay_19 rfl rfl (by omega) (by decide) ?_
  refine ev_st dX12_goSay_20 rfl rfl ?_
  refine ev_bipush (v := 27) dX12_goSay_21 (by decide) ?_
  refine ev_iconst (v := 1) dX12_goSay_23 (by decide) ?_
  refine ev_iast (j := 27) dX12_goSay_24 rfl rfl (by decide) (by decide) ?_
  exact ev_vret dX12_goSay_25 rfl (⟨rfl, by simp only [m_gy, ti_wr, va_up_up]; rfl⟩)
theorem c_isOnHillt {I : Nat → Nat → Int32} {J : Nat → Nat → Int64} {R : Nat → Nat → Value} {d c a : Nat} (hc : I 0 1 = nI c) (hc12 : c ≤ 12) (ha : I 14 24 = nI a) (ha12 : a ≤ 12) : Cal lyM d hX12_isOnHill 2 [.ref 0, .ref 14] (I, J, R) (fun r M' => r = some (.int (if c ≤ a then 1 else 0)) ∧ M' = (I, J, R)) := by
  show Ev lyM d hX12_isOnHill 0 [some (.ref 0), some (.ref 14)] [] (I, J, R) _
  refine ev_st dX12_isOnHill_0 rfl rfl ?_
  refine ev_bipush (v := 24) dX12_isOnHill_1 (by decide) ?_
  refine ev_iald (j := 24) (v := nI a) dX12_isOnHill_3 rfl rfl (by decide) (by decide) ha ?_
  refine ev_st dX12_isOnHill_4 rfl rfl ?_
  refine ev_getI (v := nI c) dX12_isOnHill_5 fr_12_13 rfl rfl hc ?_
  refine ev_ic_ltN (t := 15) (a := a) (b := c) dX12_isOnHill_8 (by decide) rfl rfl (by omega) (by omega) (fun c_8 => ?_) (fun c_8 => ?_)
  · refine ev_iconst (v := 0) dX12_isOnHill_15 (by decide) ?_
    exact ev_zret dX12_isOnHill_16 rfl (by decide) (⟨by simp [c_8, Nat.not_le.mpr c_8], rfl⟩)
  · refine ev_iconst (v := 1) dX12_isOnHill_11 (by decide) ?_
    refine ev_goto (t := 16) dX12_isOnHill_12 (by decide) ?_
    exact ev_zret dX12_isOnHill_16 rfl (by decide) (⟨by simp [c_8], rfl⟩)
theorem c_refusesStept {I : Nat → Nat → Int32} {J : Nat → Nat → Int64} {R : Nat → Nat → Value} {d n c a : Nat} (hn : I 0 3 = nI n) (hn8 : n ≤ 8) (hc : I 0 1 = nI c) (hc12 : c ≤ 12) (ha : I 14 24 = nI a) (ha12 : a ≤ 12) : Cal lyM (d + 1) hX12_refusesStep 2 [.ref 0, .ref 14] (I, J, R) (fun r M' => r = some (.int (m_rS c a (m_cy (I 14) n))) ∧ M' = (I, J, R)) := by
  show Ev lyM (d + 1) hX12_refusesStep 0 [some (.ref 0), some (.ref 14)] [] (I, J, R) _
  refine ev_st dX12_refusesStep_0 rfl rfl ?_
  refine ev_st dX12_refusesStep_1 rfl rfl ?_
  refine ev_call dX12_refusesStep_2 rfl rfl mr_12_261 rfl rfl rfl (c_isOnHillt hc hc12 ha ha12) ?_
  rintro _ _ ⟨rfl, rfl⟩
  show Ev lyM (d + 1) hX12_refusesStep 5 [some (.ref 0), some (.ref 14)] [.int (if c ≤ a then 1 else 0)] (I, J, R) _
  refine ev_if_eq (t := 13) (x := if c ≤ a then 1 else 0) dX12_refusesStep_5 (by decide) (fun c_5 => ?_) (fun c_5 => ?_)
  · refine ev_st dX12_refusesStep_13 rfl rfl ?_
    refine ev_st dX12_refusesStep_14 rfl rfl ?_
    refine ev_call dX12_refusesStep_15 rfl rfl mr_12_244 rfl rfl rfl (c_carryt hn hn8) ?_
    rintro _ _ ⟨rfl, rfl⟩
    show Ev lyM (d + 1) hX12_refusesStep 18 [some (.ref 0), some (.ref 14)] [.int (m_cy (I 14) n)] (I, J, R) _
    refine ev_if_ne (t := 26) (x := m_cy (I 14) n) dX12_refusesStep_18 (by decide) (fun c_18 => ?_) (fun c_18 => ?_)
    · refine ev_iconst (v := 0) dX12_refusesStep_26 (by decide) ?_
      exact ev_iret dX12_refusesStep_27 rfl (⟨by simp [m_rS, (show ¬ c ≤ a by simpa using c_5), c_18], rfl⟩)
    · refine ev_bipush (v := -3) dX12_refusesStep_21 (by decide) ?_
      refine ev_goto (t := 27) dX12_refusesStep_23 (by decide) ?_
      exact ev_iret dX12_refusesStep_27 rfl (⟨by simp [m_rS, (show ¬ c ≤ a by simpa using c_5), c_18], rfl⟩)
  · refine ev_bipush (v := -2) dX12_refusesStep_8 (by decide) ?_
    refine ev_goto (t := 27) dX12_refusesStep_10 (by decide) ?_
    exact ev_iret dX12_refusesStep_27 rfl (⟨by simp [m_rS, (show c ≤ a by simpa using c_5)], rfl⟩)
set_option maxHeartbeats 4000000 in
theorem c_refusesTaket {I : Nat → Nat → Int32} {J : Nat → Nat → Int64} {R : Nat → Nat → Value} {d n : Nat} (hn : I 0 3 = nI n) (hn8 : n ≤ 8) (x : Int32) : Cal lyM (d + 2) hX12_refusesTake 3 [.ref 0, .ref 14, .int x] (I, J, R) (fun r M' => r = some (.int (m_rT n (I 14) x)) ∧ M' = (I, J, R)) := by
  cases hx : ix n x with
  | none =>
    show Ev lyM (d + 2) hX12_refusesTake 0 [some (.ref 0), some (.ref 14), some (.int x)] [] (I, J, R) _
    refine ev_st dX12_refusesTake_0 rfl rfl ?_
    refine ev_st dX12_refusesTake_1 rfl rfl ?_
    refine ev_call dX12_refusesTake_2 rfl rfl mr_12_237 rfl rfl rfl ((by have K := c_isMan (J := J) (R := R) (d := d) hn hn8 x; simp only [hx, Option.isSome] at K; exact K)) ?_
    rintro _ _ ⟨rfl, rfl⟩
    show Ev lyM (d + 2) hX12_refusesTake 5 [some (.ref 0), some (.ref 14), some (.int x)] [.int 0] (I, J, R) _
    refine ev_if_ne (t := 10) dX12_refusesTake_5 (by decide) (fun q => absurd q (by decide)) (fun _ => ?_)
    refine ev_iconst (v := -1) dX12_refusesTake_8 (by decide) ?_
    exact ev_iret dX12_refusesTake_9 rfl (⟨by simp [m_rT, hx], rfl⟩)
  | some j =>
    obtain ⟨hj, rfl⟩ := ix_some (by omega) hx
    show Ev lyM (d + 2) hX12_refusesTake 0 [some (.ref 0), some (.ref 14), some (.int (nI j))] [] (I, J, R) _
    refine ev_st dX12_refusesTake_0 rfl rfl ?_
    refine ev_st dX12_refusesTake_1 rfl rfl ?_
    refine ev_call dX12_refusesTake_2 rfl rfl mr_12_237 rfl rfl rfl ((by have K := c_isMan (J := J) (R := R) (d := d) hn hn8 (nI j); simp only [hx, Option.isSome] at K; exact K)) ?_
    rintro _ _ ⟨rfl, rfl⟩
    show Ev lyM (d + 2) hX12_refusesTake 5 [some (.ref 0), some (.ref 14), some (.int (nI j))] [.int 1] (I, J, R) _
    refine ev_if_ne (t := 10) dX12_refusesTake_5 (by decide) (fun _ => ?_) (fun q => absurd q (by decide))
    refine ev_st dX12_refusesTake_10 rfl rfl ?_
    refine ev_bipush (v := 8) dX12_refusesTake_11 (by decide) ?_
    refine ev_st dX12_refusesTake_13 rfl rfl ?_
    refine ev_iaddN (a := 8) (b := j) (c := 8 + j) dX12_refusesTake_14 rfl rfl rfl ?_
    refine ev_iald (j := 8 + j) (v := I 14 (8 + j)) dX12_refusesTake_15 rfl rfl (by omega) (by decide) rfl ?_
    refine ev_iconst (v := 1) dX12_refusesTake_16 (by decide) ?_
    refine ev_ic_ne (t := 23) (x := I 14 (8 + j)) (y := 1) dX12_refusesTake_17 (by decide) (fun c_17 => ?_) (fun c_17 => ?_)
    · refine ev_st dX12_refusesTake_23 rfl rfl ?_
      refine ev_st dX12_refusesTake_24 rfl rfl ?_
      refine ev_call dX12_refusesTake_25 rfl rfl mr_12_244 rfl rfl rfl (c_carryt hn hn8) ?_
      rintro _ _ ⟨rfl, rfl⟩
      show Ev lyM (d + 2) hX12_refusesTake 28 [some (.ref 0), some (.ref 14), some (.int (nI j))] [.int (m_cy (I 14) n)] (I, J, R) _
      refine ev_call dX12_refusesTake_28 rfl rfl mr_12_214 rfl rfl rfl (c_bc (m_cy (I 14) n)) ?_
      rintro _ _ ⟨rfl, rfl⟩
      show Ev lyM (d + 2) hX12_refusesTake 31 [some (.ref 0), some (.ref 14), some (.int (nI j))] [.int (bc (m_cy (I 14) n))] (I, J, R) _
      refine ev_bipush (v := 6) dX12_refusesTake_31 (by decide) ?_
      refine ev_ic_ne (t := 41) (x := bc (m_cy (I 14) n)) (y := 6) dX12_refusesTake_33 (by decide) (fun c_33 => ?_) (fun c_33 => ?_)
      · refine ev_iconst (v := 0) dX12_refusesTake_41 (by decide) ?_
        exact ev_iret dX12_refusesTake_42 rfl (⟨by simp [m_rT, hx, c_17, c_33], rfl⟩)
      · refine ev_bipush (v := -3) dX12_refusesTake_36 (by decide) ?_
        refine ev_goto (t := 42) dX12_refusesTake_38 (by decide) ?_
        exact ev_iret dX12_refusesTake_42 rfl (⟨by simp [m_rT, hx, c_17, c_33], rfl⟩)
    · refine ev_bipush (v := -2) dX12_refusesTake_20 (by decide) ?_
      exact ev_iret dX12_refusesTake_22 rfl (⟨by simp [m_rT, hx, c_17], rfl⟩)
set_option maxHeartbeats 4000000 in
theorem c_refusesSayt {I : Nat → Nat → Int32} {J : Nat → Nat → Int64} {R : Nat → Nat → Value} {d ns c a : Nat} (hn : I 0 6 = nI ns) (hn8 : ns ≤ 8) (hc : I 0 1 = nI c) (hc12 : c ≤ 12) (ha : I 14 24 = nI a) (ha12 : a ≤ 12) (x : Int32) : Cal lyM (d + 3) hX12_refusesSay 3 [.ref 0, .ref 14, .int x] (I, J, R) (fun r M' => r = some (.int (m_rY ns c a (I 5) (I 14) x)) ∧ M' = (I, J, R)) := by
  cases hx : ix ns x with
  | none =>
    show Ev lyM (d + 3) hX12_refusesSay 0 [some (.ref 0), some (.ref 14), some (.int x)] [] (I, J, R) _
    refine ev_st dX12_refusesSay_0 rfl rfl ?_
    refine ev_st dX12_refusesSay_1 rfl rfl ?_
    refine ev_call dX12_refusesSay_2 rfl rfl mr_12_247 rfl rfl rfl ((by have K := c_isSaying (J := J) (R := R) (d := d + 1) hn hn8 x; simp only [hx, Option.isSome] at K; exact K)) ?_
    rintro _ _ ⟨rfl, rfl⟩
    show Ev lyM (d + 3) hX12_refusesSay 5 [some (.ref 0), some (.ref 14), some (.int x)] [.int 0] (I, J, R) _
    refine ev_if_ne (t := 10) dX12_refusesSay_5 (by decide) (fun q => absurd q (by decide)) (fun _ => ?_)
    refine ev_iconst (v := -1) dX12_refusesSay_8 (by decide) ?_
    exact ev_iret dX12_refusesSay_9 rfl (⟨by simp [m_rY, hx], rfl⟩)
  | some j =>
    obtain ⟨hj, rfl⟩ := ix_some (by omega) hx
    show Ev lyM (d + 3) hX12_refusesSay 0 [some (.ref 0), some (.ref 14), some (.int (nI j))] [] (I, J, R) _
    refine ev_st dX12_refusesSay_0 rfl rfl ?_
    refine ev_st dX12_refusesSay_1 rfl rfl ?_
    refine ev_call dX12_refusesSay_2 rfl rfl mr_12_247 rfl rfl rfl ((by have K := c_isSaying (J := J) (R := R) (d := d + 1) hn hn8 (nI j); simp only [hx, Option.isSome] at K; exact K)) ?_
    rintro _ _ ⟨rfl, rfl⟩
    show Ev lyM (d + 3) hX12_refusesSay 5 [some (.ref 0), some (.ref 14), some (.int (nI j))] [.int 1] (I, J, R) _
    refine ev_if_ne (t := 10) dX12_refusesSay_5 (by decide) (fun _ => ?_) (fun q => absurd q (by decide))
    refine ev_st dX12_refusesSay_10 rfl rfl ?_
    refine ev_bipush (v := 16) dX12_refusesSay_11 (by decide) ?_
    refine ev_st dX12_refusesSay_13 rfl rfl ?_
    refine ev_iaddN (a := 16) (b := j) (c := 16 + j) dX12_refusesSay_14 rfl rfl rfl ?_
    refine ev_iald (j := 16 + j) (v := I 14 (16 + j)) dX12_refusesSay_15 rfl rfl (by omega) (by decide) rfl ?_
    refine ev_iconst (v := 1) dX12_refusesSay_16 (by decide) ?_
    refine ev_ic_ne (t := 23) (x := I 14 (16 + j)) (y := 1) dX12_refusesSay_17 (by decide) (fun c_17 => ?_) (fun c_17 => ?_)
    · refine ev_st dX12_refusesSay_23 rfl rfl ?_
      refine ev_st dX12_refusesSay_24 rfl rfl ?_
      refine ev_bipush (v := 26) dX12_refusesSay_25 (by decide) ?_
      refine ev_iald (j := 26) (v := I 14 26) dX12_refusesSay_27 rfl rfl (by decide) (by decide) rfl ?_
      refine ev_st dX12_refusesSay_28 rfl rfl ?_
      refine ev_call dX12_refusesSay_29 rfl rfl mr_12_250 rfl rfl rfl (c_doesKnow (by omega) (I 14 26)) ?_
      rintro _ _ ⟨rfl, rfl⟩
      show Ev lyM (d + 3) hX12_refusesSay 32 [some (.ref 0), some (.ref 14), some (.int (nI j))] [.int (m_kn (I 5) (I 14 26) j)] (I, J, R) _
      refine ev_if_ne (t := 38) (x := m_kn (I 5) (I 14 26) j) dX12_refusesSay_32 (by decide) (fun c_32 => ?_) (fun c_32 => ?_)
      · refine ev_st dX12_refusesSay_38 rfl rfl ?_
        refine ev_bipush (v := 27) dX12_refusesSay_39 (by decide) ?_
        refine ev_iald (j := 27) (v := I 14 27) dX12_refusesSay_41 rfl rfl (by decide) (by decide) rfl ?_
        refine ev_iconst (v := 1) dX12_refusesSay_42 (by decide) ?_
        refine ev_ic_ne (t := 49) (x := I 14 27) (y := 1) dX12_refusesSay_43 (by decide) (fun c_43 => ?_) (fun c_43 => ?_)
        · refine ev_st dX12_refusesSay_49 rfl rfl ?_
          refine ev_st dX12_refusesSay_50 rfl rfl ?_
          refine ev_call dX12_refusesSay_51 rfl rfl mr_12_261 rfl rfl rfl (c_isOnHillt hc hc12 ha ha12) ?_
          rintro _ _ ⟨rfl, rfl⟩
          show Ev lyM (d + 3) hX12_refusesSay 54 [some (.ref 0), some (.ref 14), some (.int (nI j))] [.int (if c ≤ a then 1 else 0)] (I, J, R) _
          refine ev_if_eq (t := 62) (x := if c ≤ a then 1 else 0) dX12_refusesSay_54 (by decide) (fun c_54 => ?_) (fun c_54 => ?_)
          · refine ev_iconst (v := 0) dX12_refusesSay_62 (by decide) ?_
            exact ev_iret dX12_refusesSay_63 rfl (⟨by simp [m_rY, hx, c_17, c_32, c_43, (show ¬ c ≤ a by simpa using c_54)], rfl⟩)
          · refine ev_bipush (v := -5) dX12_refusesSay_57 (by decide) ?_
            refine ev_goto (t := 63) dX12_refusesSay_59 (by decide) ?_
            exact ev_iret dX12_refusesSay_63 rfl (⟨by simp [m_rY, hx, c_17, c_32, c_43, (show c ≤ a by simpa using c_54)], rfl⟩)
        · refine ev_bipush (v := -4) dX12_refusesSay_46 (by decide) ?_
          exact ev_iret dX12_refusesSay_48 rfl (⟨by simp [m_rY, hx, c_17, c_32, c_43], rfl⟩)
      · refine ev_bipush (v := -3) dX12_refusesSay_35 (by decide) ?_
        exact ev_iret dX12_refusesSay_37 rfl (⟨by simp [m_rY, hx, c_17, c_32], rfl⟩)
    · refine ev_bipush (v := -2) dX12_refusesSay_20 (by decide) ?_
      exact ev_iret dX12_refusesSay_22 rfl (⟨by simp [m_rY, hx, c_17], rfl⟩)
theorem c_goSayt {I : Nat → Nat → Int32} {J : Nat → Nat → Int64} {R : Nat → Nat → Value} {d s : Nat} (hs8 : s < 8) : Cal lyM (d + 2) hX12_goSay 3 [.ref 0, .ref 14, .int (nI s)] (I, J, R) (fun r M' => r = none ∧ M' = (va_up I 14 (m_gy (I 5) (I 14) s), J, R)) := by
  show Ev lyM (d + 2) hX12_goSay 0 [some (.ref 0), some (.ref 14), some (.int (nI s))] [] (I, J, R) _
  refine ev_st dX12_goSay_0 rfl rfl ?_
  refine ev_bipush (v := 25) dX12_goSay_1 (by decide) ?_
  refine ev_st dX12_goSay_3 rfl rfl ?_
  refine ev_st dX12_goSay_4 rfl rfl ?_
  refine ev_bipush (v := 25) dX12_goSay_5 (by decide) ?_
  refine ev_iald (j := 25) (v := I 14 25) dX12_goSay_7 rfl rfl (by decide) (by decide) rfl ?_
  refine ev_st dX12_goSay_8 rfl rfl ?_
  refine ev_call dX12_goSay_9 rfl rfl mr_12_297 rfl rfl rfl (c_loadBy hs8 (I 14 25)) ?_
  rintro _ _ ⟨rfl, rfl⟩
  show Ev lyM (d + 2) hX12_goSay 12 [some (.ref 0), some (.ref 14), some (.int (nI s))] [.int (m_lb (I 5) (I 14 25) s), .int 25, .ref 14] (I, J, R) _
  refine ev_iast (j := 25) dX12_goSay_12 rfl rfl (by decide) (by decide) ?_
  refine ev_st dX12_goSay_13 rfl rfl ?_
  refine ev_bipush (v := 16) dX12_goSay_14 (by decide) ?_
  refine ev_st dX12_goSay_16 rfl rfl ?_
  refine ev_iaddN (a := 16) (b := s) (c := 16 + s) dX12_goSay_17 rfl rfl rfl ?_
  refine ev_iconst (v := 1) dX12_goSay_18 (by decide) ?_
  refine ev_iast (j := 16 + s) dX12_goSay_19 rfl rfl (by omega) (by decide) ?_
  refine ev_st dX12_goSay_20 rfl rfl ?_
  refine ev_bipush (v := 27) dX12_goSay_21 (by decide) ?_
  refine ev_iconst (v := 1) dX12_goSay_23 (by decide) ?_
  refine ev_iast (j := 27) dX12_goSay_24 rfl rfl (by decide) (by decide) ?_
  exact ev_vret dX12_goSay_25 rfl (⟨rfl, by simp only [m_gy, ti_wr, va_up_up]; rfl⟩)
