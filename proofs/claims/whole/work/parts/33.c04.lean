/-! the class: what brings states back; the calls of the walk -/
theorem rem11 : ∀ x, x < 12 → nI (x + 12) - 1 - (nI (x + 12) - 1) / 12 * 12 = nI ((x + 11) % 12) := by decide
def k_bb (I : Nat → Nat → Int32) (x u : Nat) : Nat → Nat → Int32 := ti_wr (k_bm (ti_wr I 15 4 (nI x)) 39 40 (39 + 2 * (x + 3)) (39 + 2 * (x + 3) + 1)) 15 5 (nI u)
theorem k_bringBack0 {I : Nat → Nat → Int32} {J : Nat → Nat → Int64} {R : Nat → Nat → Value} {d : Nat} (hu : I 15 5 = 0) : Cal lyC (d + 2) hX2_bringBack 2 [.ref 15, .ref 39] (I, J, R) (fun r M' => r = some (.int (-1)) ∧ M' = (I, J, R)) := by
  show Ev lyC (d + 2) hX2_bringBack 0 [some (.ref 15), some (.ref 39)] [] (I, J, R) _
  refine ev_st dX2_bringBack_0 rfl rfl ?_
  refine ev_getI (v := 0) dX2_bringBack_1 fr_2_25 rfl rfl hu ?_
  refine ev_if_ne (t := 9) dX2_bringBack_4 (by decide) (fun q => absurd q (by decide)) (fun _ => ?_)
  refine ev_iconst (v := -1) dX2_bringBack_7 (by decide) ?_
  exact ev_iret dX2_bringBack_8 rfl (⟨rfl, rfl⟩)
set_option maxHeartbeats 1000000 in
theorem k_bringBack1 {I : Nat → Nat → Int32} {J : Nat → Nat → Int64} {R : Nat → Nat → Value} {d x u x2 : Nat} (hu : I 15 5 = nI (u + 1)) (hu12 : u + 1 ≤ 12) (hx : I 15 4 = nI x) (hx12 : x < 12) (hx2 : x2 = (x + 11) % 12) (h6 : I (39 + 2 * (x2 + 3)) 6 = 0 ∨ I (39 + 2 * (x2 + 3)) 6 = 1) : Cal lyC (d + 2) hX2_bringBack 2 [.ref 15, .ref 39] (I, J, R) (fun r M' => r = some (.int (nI u)) ∧ M' = (k_bb I x2 u, J, R)) := by
  have hl : x2 < 12 := by omega
  have h6 : ti_wr I 15 4 (nI x2) (39 + 2 * (x2 + 3)) 6 = 0 ∨ ti_wr I 15 4 (nI x2) (39 + 2 * (x2 + 3)) 6 = 1 := by rw [ti_wr_n (by omega)]; exact h6
  show Ev lyC (d + 2) hX2_bringBack 0 [some (.ref 15), some (.ref 39)] [] (I, J, R) _
  refine ev_st dX2_bringBack_0 rfl rfl ?_
  refine ev_getI (v := nI (u + 1)) dX2_bringBack_1 fr_2_25 rfl rfl hu ?_
  refine ev_if_neN (t := 9) (a := u + 1) dX2_bringBack_4 (by decide) rfl (by omega) (fun c_4 => ?_) (fun c_4 => ?_)
  · refine ev_st dX2_bringBack_9 rfl rfl ?_
    refine ev_st dX2_bringBack_10 rfl rfl ?_
    refine ev_getI (v := nI x) dX2_bringBack_11 fr_2_36 rfl rfl hx ?_
    refine ev_bipush (v := 12) dX2_bringBack_14 (by decide) ?_
    refine ev_iaddN (a := x) (b := 12) (c := x + 12) dX2_bringBack_16 rfl rfl rfl ?_
    refine ev_iconst (v := 1) dX2_bringBack_17 (by decide) ?_
    refine ev_st dX2_bringBack_18 rfl rfl ?_
    refine ev_bipush (v := 12) dX2_bringBack_19 (by decide) ?_
    refine ev_rem dX2_bringBack_21 (by decide) ?_
    rw [rem11 x hx12, ← hx2]
    refine ev_putI dX2_bringBack_22 fr_2_36 rfl rfl ?_
    refine ev_st dX2_bringBack_25 rfl rfl ?_
    refine ev_st dX2_bringBack_26 rfl rfl ?_
    refine ev_getC dX2_bringBack_27 fr_2_13 rfl rfl ?_
    refine ev_st dX2_bringBack_30 rfl rfl ?_
    refine ev_getI (v := nI x2) dX2_bringBack_31 fr_2_36 rfl rfl rfl ?_
    refine ev_aald (j := x2) (q := 39 + 2 * (x2 + 3)) dX2_bringBack_34 rfl rfl (by omega) (ring_at x2 (by omega)) ?_
    refine ev_call dX2_bringBack_35 rfl rfl mr_2_32 rfl rfl rfl (k_becomeXY (I := ti_wr I 15 4 (nI x2)) (x := 0) (y := x2 + 3) (by omega) (by omega) (by omega) h6) ?_
    rintro _ _ ⟨rfl, rfl⟩
    show Ev lyC (d + 2) hX2_bringBack 38 [some (.ref 15), some (.ref 39)] [] (k_bm (ti_wr I 15 4 (nI x2)) 39 40 (39 + 2 * (x2 + 3)) (39 + 2 * (x2 + 3) + 1), J, R) _
    refine ev_st dX2_bringBack_38 rfl rfl ?_
    refine ev_st dX2_bringBack_39 rfl rfl ?_
    refine ev_getI (v := nI (u + 1)) dX2_bringBack_40 fr_2_25 rfl rfl (by rw [k_bm_n (by decide) (by decide)]; exact hu) ?_
    refine ev_iconst (v := 1) dX2_bringBack_43 (by decide) ?_
    refine ev_isubN (a := u + 1) (b := 1) (c := u) dX2_bringBack_44 rfl rfl (by omega) (by omega) ?_
    refine ev_putI dX2_bringBack_45 fr_2_25 rfl rfl ?_
    refine ev_st dX2_bringBack_48 rfl rfl ?_
    refine ev_getI (v := nI u) dX2_bringBack_49 fr_2_25 rfl rfl rfl ?_
    exact ev_iret dX2_bringBack_52 rfl (⟨rfl, rfl⟩)
  · exact absurd c_4 (by omega)
theorem ix2_none {x : Int32} (h : ix 2 x = none) : x < 0 ∨ ¬ x < 2 := by
  unfold ix at h
  split at h
  · cases h
  · rename_i q
    by_cases a : x < 0
    · exact Or.inl a
    · exact Or.inr fun b => q ⟨Int32.not_lt.mp a, b⟩
theorem k_keepUnder0 {I : Nat → Nat → Int32} {J : Nat → Nat → Int64} {R : Nat → Nat → Value} {d : Nat} {x : Int32} (hx : x < 0 ∨ ¬ x < 2) : Cal lyC (d + 2) hX2_keepUnder 3 [.ref 15, .int x, .ref 39] (I, J, R) (fun r M' => r = some (.int 0) ∧ M' = (I, J, R)) := by
  show Ev lyC (d + 2) hX2_keepUnder 0 [some (.ref 15), some (.int x), some (.ref 39)] [] (I, J, R) _
  refine ev_st dX2_keepUnder_0 rfl rfl ?_
  refine ev_if_lt (t := 9) (x := x) dX2_keepUnder_1 (by decide) (fun c_1 => ?_) (fun c_1 => ?_)
  · refine ev_iconst (v := 0) dX2_keepUnder_9 (by decide) ?_
    exact ev_zret dX2_keepUnder_10 rfl (by decide) (⟨rfl, rfl⟩)
  · refine ev_st dX2_keepUnder_4 rfl rfl ?_
    refine ev_iconst (v := 2) dX2_keepUnder_5 (by decide) ?_
    refine ev_ic_lt (t := 11) (x := x) (y := 2) dX2_keepUnder_6 (by decide) (fun c_6 => ?_) (fun c_6 => ?_)
    · exact absurd c_6 (hx.resolve_left c_1)
    · refine ev_iconst (v := 0) dX2_keepUnder_9 (by decide) ?_
      exact ev_zret dX2_keepUnder_10 rfl (by decide) (⟨rfl, rfl⟩)
set_option maxHeartbeats 1000000 in
theorem k_keepUnder1 {I : Nat → Nat → Int32} {J : Nat → Nat → Int64} {R : Nat → Nat → Value} {d j : Nat} (hj : j < 2) (h6 : I 39 6 = 0 ∨ I 39 6 = 1) : Cal lyC (d + 2) hX2_keepUnder 3 [.ref 15, .int (nI j), .ref 39] (I, J, R) (fun r M' => r = some (.int 1) ∧ M' = (ti_wr (k_bm I (39 + 2 * (j + 15)) (39 + 2 * (j + 15) + 1) 39 40) 15 3 (I 15 3 ||| (1 <<< (nI j &&& 31))), J, R)) := by
  show Ev lyC (d + 2) hX2_keepUnder 0 [some (.ref 15), some (.int (nI j)), some (.ref 39)] [] (I, J, R) _
  refine ev_st dX2_keepUnder_0 rfl rfl ?_
  refine ev_if_ltN (t := 9) (a := j) dX2_keepUnder_1 (by decide) rfl (by omega) ?_
  refine ev_st dX2_keepUnder_4 rfl rfl ?_
  refine ev_iconst (v := 2) dX2_keepUnder_5 (by decide) ?_
  refine ev_ic_ltN (t := 11) (a := j) (b := 2) dX2_keepUnder_6 (by decide) rfl rfl (by omega) (by omega) (fun c_6 => ?_) (fun c_6 => ?_)
  · refine ev_st dX2_keepUnder_11 rfl rfl ?_
    refine ev_getC dX2_keepUnder_12 fr_2_17 rfl rfl ?_
    refine ev_st dX2_keepUnder_15 rfl rfl ?_
    refine ev_aald (j := j) (q := 39 + 2 * (j + 15)) dX2_keepUnder_16 rfl rfl (by omega) (kept_at j hj) ?_
    refine ev_st dX2_keepUnder_17 rfl rfl ?_
    refine ev_call dX2_keepUnder_18 rfl rfl mr_2_32 (ck_st (j + 15) (show j + 15 < 17 by omega) 0 (by decide)) rfl rfl (k_becomeXY (I := I) (x := j + 15) (y := 0) (by omega) (by omega) (by omega) h6) ?_
    rintro _ _ ⟨rfl, rfl⟩
    show Ev lyC (d + 2) hX2_keepUnder 21 [some (.ref 15), some (.int (nI j)), some (.ref 39)] [] (k_bm I (39 + 2 * (j + 15)) (39 + 2 * (j + 15) + 1) 39 40, J, R) _
    refine ev_st dX2_keepUnder_21 rfl rfl ?_
    refine ev_st dX2_keepUnder_22 rfl rfl ?_
    refine ev_getI (v := I 15 3) dX2_keepUnder_23 fr_2_29 rfl rfl (by rw [k_bm_n (by omega) (by omega)]) ?_
    refine ev_iconst (v := 1) dX2_keepUnder_26 (by decide) ?_
    refine ev_st dX2_keepUnder_27 rfl rfl ?_
    refine ev_st dX2_keepUnder_28 rfl rfl ?_
    refine ev_st dX2_keepUnder_29 rfl rfl ?_
    refine ev_putI dX2_keepUnder_30 fr_2_29 rfl rfl ?_
    refine ev_iconst (v := 1) dX2_keepUnder_33 (by decide) ?_
    exact ev_zret dX2_keepUnder_34 rfl (by decide) (⟨rfl, rfl⟩)
  · exact absurd hj (by omega)
theorem k_bringKept0 {I : Nat → Nat → Int32} {J : Nat → Nat → Int64} {R : Nat → Nat → Value} {d : Nat} {x : Int32} (hx : x < 0 ∨ ¬ x < 2) : Cal lyC (d + 2) hX2_bringBackKept 3 [.ref 15, .int x, .ref 39] (I, J, R) (fun r M' => r = some (.int 0) ∧ M' = (I, J, R)) := by
  show Ev lyC (d + 2) hX2_bringBackKept 0 [some (.ref 15), some (.int x), some (.ref 39)] [] (I, J, R) _
  refine ev_st dX2_bringBackKept_0 rfl rfl ?_
  refine ev_if_lt (t := 20) (x := x) dX2_bringBackKept_1 (by decide) (fun c_1 => ?_) (fun c_1 => ?_)
  · refine ev_iconst (v := 0) dX2_bringBackKept_20 (by decide) ?_
    exact ev_zret dX2_bringBackKept_21 rfl (by decide) (⟨rfl, rfl⟩)
  · refine ev_st dX2_bringBackKept_4 rfl rfl ?_
    refine ev_iconst (v := 2) dX2_bringBackKept_5 (by decide) ?_
    refine ev_ic_ge (t := 20) (x := x) (y := 2) dX2_bringBackKept_6 (by decide) (fun c_6 => ?_) (fun c_6 => ?_)
    · refine ev_iconst (v := 0) dX2_bringBackKept_20 (by decide) ?_
      exact ev_zret dX2_bringBackKept_21 rfl (by decide) (⟨rfl, rfl⟩)
    · exact absurd c_6 (hx.resolve_left c_1)
set_option maxHeartbeats 1000000 in
theorem k_bringKeptN {I : Nat → Nat → Int32} {J : Nat → Nat → Int64} {R : Nat → Nat → Value} {d j : Nat} (hj : j < 2) (hk : k_b (I 15 3) (nI j) = 0) : Cal lyC (d + 2) hX2_bringBackKept 3 [.ref 15, .int (nI j), .ref 39] (I, J, R) (fun r M' => r = some (.int 0) ∧ M' = (I, J, R)) := by
  show Ev lyC (d + 2) hX2_bringBackKept 0 [some (.ref 15), some (.int (nI j)), some (.ref 39)] [] (I, J, R) _
  refine ev_st dX2_bringBackKept_0 rfl rfl ?_
  refine ev_if_ltN (t := 20) (a := j) dX2_bringBackKept_1 (by decide) rfl (by omega) ?_
  refine ev_st dX2_bringBackKept_4 rfl rfl ?_
  refine ev_iconst (v := 2) dX2_bringBackKept_5 (by decide) ?_
  refine ev_ic_geN (t := 20) (a := j) (b := 2) dX2_bringBackKept_6 (by decide) rfl rfl (by omega) (by omega) (fun c_6 => ?_) (fun c_6 => ?_)
  · exact absurd hj (by omega)
  · refine ev_st dX2_bringBackKept_9 rfl rfl ?_
    refine ev_getI (v := I 15 3) dX2_bringBackKept_10 fr_2_29 rfl rfl rfl ?_
    refine ev_st dX2_bringBackKept_13 rfl rfl ?_
    refine ev_st dX2_bringBackKept_14 rfl rfl ?_
    refine ev_iconst (v := 1) dX2_bringBackKept_15 (by decide) ?_
    refine ev_st dX2_bringBackKept_16 rfl rfl ?_
    refine ev_if_ne (t := 22) (x := ((I 15 3) >>> ((nI j) &&& 31)) &&& 1) dX2_bringBackKept_17 (by decide) (fun c_17 => ?_) (fun c_17 => ?_)
    · exact absurd hk c_17
    · refine ev_iconst (v := 0) dX2_bringBackKept_20 (by decide) ?_
      exact ev_zret dX2_bringBackKept_21 rfl (by decide) (⟨rfl, rfl⟩)
set_option maxHeartbeats 1000000 in
theorem k_bringKeptY {I : Nat → Nat → Int32} {J : Nat → Nat → Int64} {R : Nat → Nat → Value} {d j : Nat} (hj : j < 2) (hk : ¬ k_b (I 15 3) (nI j) = 0) (h6 : I (39 + 2 * (j + 15)) 6 = 0 ∨ I (39 + 2 * (j + 15)) 6 = 1) : Cal lyC (d + 2) hX2_bringBackKept 3 [.ref 15, .int (nI j), .ref 39] (I, J, R) (fun r M' => r = some (.int 1) ∧ M' = (ti_wr (k_bm I 39 40 (39 + 2 * (j + 15)) (39 + 2 * (j + 15) + 1)) 15 5 0, J, R)) := by
  show Ev lyC (d + 2) hX2_bringBackKept 0 [some (.ref 15), some (.int (nI j)), some (.ref 39)] [] (I, J, R) _
  refine ev_st dX2_bringBackKept_0 rfl rfl ?_
  refine ev_if_ltN (t := 20) (a := j) dX2_bringBackKept_1 (by decide) rfl (by omega) ?_
  refine ev_st dX2_bringBackKept_4 rfl rfl ?_
  refine ev_iconst (v := 2) dX2_bringBackKept_5 (by decide) ?_
  refine ev_ic_geN (t := 20) (a := j) (b := 2) dX2_bringBackKept_6 (by decide) rfl rfl (by omega) (by omega) (fun c_6 => ?_) (fun c_6 => ?_)
  · exact absurd hj (by omega)
  · refine ev_st dX2_bringBackKept_9 rfl rfl ?_
    refine ev_getI (v := I 15 3) dX2_bringBackKept_10 fr_2_29 rfl rfl rfl ?_
    refine ev_st dX2_bringBackKept_13 rfl rfl ?_
    refine ev_st dX2_bringBackKept_14 rfl rfl ?_
    refine ev_iconst (v := 1) dX2_bringBackKept_15 (by decide) ?_
    refine ev_st dX2_bringBackKept_16 rfl rfl ?_
    refine ev_if_ne (t := 22) (x := ((I 15 3) >>> ((nI j) &&& 31)) &&& 1) dX2_bringBackKept_17 (by decide) (fun c_17 => ?_) (fun c_17 => ?_)
    · refine ev_st dX2_bringBackKept_22 rfl rfl ?_
      refine ev_st dX2_bringBackKept_23 rfl rfl ?_
      refine ev_getC dX2_bringBackKept_24 fr_2_17 rfl rfl ?_
      refine ev_st dX2_bringBackKept_27 rfl rfl ?_
      refine ev_aald (j := j) (q := 39 + 2 * (j + 15)) dX2_bringBackKept_28 rfl rfl (by omega) (kept_at j hj) ?_
      refine ev_call dX2_bringBackKept_29 rfl rfl mr_2_32 rfl rfl rfl (k_becomeXY (I := I) (x := 0) (y := j + 15) (by omega) (by omega) (by omega) h6) ?_
      rintro _ _ ⟨rfl, rfl⟩
      show Ev lyC (d + 2) hX2_bringBackKept 32 [some (.ref 15), some (.int (nI j)), some (.ref 39)] [] (k_bm I 39 40 (39 + 2 * (j + 15)) (39 + 2 * (j + 15) + 1), J, R) _
      refine ev_st dX2_bringBackKept_32 rfl rfl ?_
      refine ev_iconst (v := 0) dX2_bringBackKept_33 (by decide) ?_
      refine ev_putI dX2_bringBackKept_34 fr_2_25 rfl rfl ?_
      refine ev_iconst (v := 1) dX2_bringBackKept_37 (by decide) ?_
      exact ev_zret dX2_bringBackKept_38 rfl (by decide) (⟨rfl, rfl⟩)
    · exact absurd c_17 hk
set_option maxHeartbeats 1000000 in
theorem k_take_no {I I2 : Nat → Nat → Int32} {J : Nat → Nat → Int64} {R : Nat → Nat → Value} {d : Nat} {v y : Int32} (h6 : I 39 6 = 0 ∨ I 39 6 = 1) (hact : Cal lyC (d + 5) hX7_takeHold 3 [.ref 39, .ref 8, .int y] (k_mk I, J, R) (fun r M' => r = some (.int v) ∧ M' = (I2, J, R))) (hv : v < 0)  : Cal lyC (d + 6) hX11_take 2 [.ref 0, .int y] (I, J, R) (fun r M' => r = some (.int v) ∧ M' = (I2, J, R)) := by
  show Ev lyC (d + 6) hX11_take 0 [some (.ref 0), some (.int y)] [] (I, J, R) _
  refine ev_st dX11_take_0 rfl rfl ?_
  refine ev_getC dX11_take_1 fr_11_56 rfl rfl ?_
  refine ev_st dX11_take_4 rfl rfl ?_
  refine ev_getC dX11_take_5 fr_11_49 rfl rfl ?_
  refine ev_call dX11_take_8 rfl rfl mr_11_220 rfl rfl rfl (k_mark h6) ?_
  rintro _ _ ⟨rfl, rfl⟩
  show Ev lyC (d + 6) hX11_take 11 [some (.ref 0), some (.int y)] [] (k_mk I, J, R) _
  refine ev_st dX11_take_11 rfl rfl ?_
  refine ev_getC dX11_take_12 fr_11_56 rfl rfl ?_
  refine ev_st dX11_take_15 rfl rfl ?_
  refine ev_getC dX11_take_16 fr_11_49 rfl rfl ?_
  refine ev_st dX11_take_19 rfl rfl ?_
  refine ev_getC dX11_take_20 fr_11_35 rfl rfl ?_
  refine ev_st dX11_take_23 rfl rfl ?_
  refine ev_call dX11_take_24 rfl rfl mr_11_234 rfl rfl rfl (hact) ?_
  rintro _ _ ⟨rfl, rfl⟩
  show Ev lyC (d + 6) hX11_take 27 [some (.ref 0), some (.int y)] [.int v, .ref 15] (I2, J, R) _
  refine ev_call dX11_take_27 rfl rfl mr_11_228 rfl rfl rfl (k_settle_no (v := v) hv) ?_
  rintro _ _ ⟨rfl, rfl⟩
  show Ev lyC (d + 6) hX11_take 30 [some (.ref 0), some (.int y)] [.int v] (I2, J, R) _
  exact ev_iret dX11_take_30 rfl (⟨rfl, rfl⟩)
set_option maxHeartbeats 1000000 in
theorem k_take_ok {I I2 : Nat → Nat → Int32} {J : Nat → Nat → Int64} {R : Nat → Nat → Value} {d x u : Nat} {v y : Int32} (h6 : I 39 6 = 0 ∨ I 39 6 = 1) (hact : Cal lyC (d + 5) hX7_takeHold 3 [.ref 39, .ref 8, .int y] (k_mk I, J, R) (fun r M' => r = some (.int v) ∧ M' = (I2, J, R))) (hv : ¬ v < 0) (hx : I2 15 4 = nI x) (hx12 : x < 12) (hu : I2 15 5 = nI u) (hu12 : u ≤ 12) (h62 : I2 43 6 = 0 ∨ I2 43 6 = 1) : Cal lyC (d + 6) hX11_take 2 [.ref 0, .int y] (I, J, R) (fun r M' => r = some (.int v) ∧ M' = (k_se I2 x u, J, R)) := by
  show Ev lyC (d + 6) hX11_take 0 [some (.ref 0), some (.int y)] [] (I, J, R) _
  refine ev_st dX11_take_0 rfl rfl ?_
  refine ev_getC dX11_take_1 fr_11_56 rfl rfl ?_
  refine ev_st dX11_take_4 rfl rfl ?_
  refine ev_getC dX11_take_5 fr_11_49 rfl rfl ?_
  refine ev_call dX11_take_8 rfl rfl mr_11_220 rfl rfl rfl (k_mark h6) ?_
  rintro _ _ ⟨rfl, rfl⟩
  show Ev lyC (d + 6) hX11_take 11 [some (.ref 0), some (.int y)] [] (k_mk I, J, R) _
  refine ev_st dX11_take_11 rfl rfl ?_
  refine ev_getC dX11_take_12 fr_11_56 rfl rfl ?_
  refine ev_st dX11_take_15 rfl rfl ?_
  refine ev_getC dX11_take_16 fr_11_49 rfl rfl ?_
  refine ev_st dX11_take_19 rfl rfl ?_
  refine ev_getC dX11_take_20 fr_11_35 rfl rfl ?_
  refine ev_st dX11_take_23 rfl rfl ?_
  refine ev_call dX11_take_24 rfl rfl mr_11_234 rfl rfl rfl (hact) ?_
  rintro _ _ ⟨rfl, rfl⟩
  show Ev lyC (d + 6) hX11_take 27 [some (.ref 0), some (.int y)] [.int v, .ref 15] (I2, J, R) _
  refine ev_call dX11_take_27 rfl rfl mr_11_228 rfl rfl rfl (k_settle (I := I2) (v := v) hv hx hx12 hu hu12 h62) ?_
  rintro _ _ ⟨rfl, rfl⟩
  show Ev lyC (d + 6) hX11_take 30 [some (.ref 0), some (.int y)] [.int v] (k_se I2 x u, J, R) _
  exact ev_iret dX11_take_30 rfl (⟨rfl, rfl⟩)
set_option maxHeartbeats 1000000 in
theorem k_leave_no {I I2 : Nat → Nat → Int32} {J : Nat → Nat → Int64} {R : Nat → Nat → Value} {d : Nat} {v y : Int32} (h6 : I 39 6 = 0 ∨ I 39 6 = 1) (hact : Cal lyC (d + 5) hX7_letGo 3 [.ref 39, .ref 8, .int y] (k_mk I, J, R) (fun r M' => r = some (.int v) ∧ M' = (I2, J, R))) (hv : v < 0)  : Cal lyC (d + 6) hX11_leave 2 [.ref 0, .int y] (I, J, R) (fun r M' => r = some (.int v) ∧ M' = (I2, J, R)) := by
  show Ev lyC (d + 6) hX11_leave 0 [some (.ref 0), some (.int y)] [] (I, J, R) _
  refine ev_st dX11_leave_0 rfl rfl ?_
  refine ev_getC dX11_leave_1 fr_11_56 rfl rfl ?_
  refine ev_st dX11_leave_4 rfl rfl ?_
  refine ev_getC dX11_leave_5 fr_11_49 rfl rfl ?_
  refine ev_call dX11_leave_8 rfl rfl mr_11_220 rfl rfl rfl (k_mark h6) ?_
  rintro _ _ ⟨rfl, rfl⟩
  show Ev lyC (d + 6) hX11_leave 11 [some (.ref 0), some (.int y)] [] (k_mk I, J, R) _
  refine ev_st dX11_leave_11 rfl rfl ?_
  refine ev_getC dX11_leave_12 fr_11_56 rfl rfl ?_
  refine ev_st dX11_leave_15 rfl rfl ?_
  refine ev_getC dX11_leave_16 fr_11_49 rfl rfl ?_
  refine ev_st dX11_leave_19 rfl rfl ?_
  refine ev_getC dX11_leave_20 fr_11_35 rfl rfl ?_
  refine ev_st dX11_leave_23 rfl rfl ?_
  refine ev_call dX11_leave_24 rfl rfl mr_11_238 rfl rfl rfl (hact) ?_
  rintro _ _ ⟨rfl, rfl⟩
  show Ev lyC (d + 6) hX11_leave 27 [some (.ref 0), some (.int y)] [.int v, .ref 15] (I2, J, R) _
  refine ev_call dX11_leave_27 rfl rfl mr_11_228 rfl rfl rfl (k_settle_no (v := v) hv) ?_
  rintro _ _ ⟨rfl, rfl⟩
  show Ev lyC (d + 6) hX11_leave 30 [some (.ref 0), some (.int y)] [.int v] (I2, J, R) _
  exact ev_iret dX11_leave_30 rfl (⟨rfl, rfl⟩)
set_option maxHeartbeats 1000000 in
theorem k_leave_ok {I I2 : Nat → Nat → Int32} {J : Nat → Nat → Int64} {R : Nat → Nat → Value} {d x u : Nat} {v y : Int32} (h6 : I 39 6 = 0 ∨ I 39 6 = 1) (hact : Cal lyC (d + 5) hX7_letGo 3 [.ref 39, .ref 8, .int y] (k_mk I, J, R) (fun r M' => r = some (.int v) ∧ M' = (I2, J, R))) (hv : ¬ v < 0) (hx : I2 15 4 = nI x) (hx12 : x < 12) (hu : I2 15 5 = nI u) (hu12 : u ≤ 12) (h62 : I2 43 6 = 0 ∨ I2 43 6 = 1) : Cal lyC (d + 6) hX11_leave 2 [.ref 0, .int y] (I, J, R) (fun r M' => r = some (.int v) ∧ M' = (k_se I2 x u, J, R)) := by
  show Ev lyC (d + 6) hX11_leave 0 [some (.ref 0), some (.int y)] [] (I, J, R) _
  refine ev_st dX11_leave_0 rfl rfl ?_
  refine ev_getC dX11_leave_1 fr_11_56 rfl rfl ?_
  refine ev_st dX11_leave_4 rfl rfl ?_
  refine ev_getC dX11_leave_5 fr_11_49 rfl rfl ?_
  refine ev_call dX11_leave_8 rfl rfl mr_11_220 rfl rfl rfl (k_mark h6) ?_
  rintro _ _ ⟨rfl, rfl⟩
  show Ev lyC (d + 6) hX11_leave 11 [some (.ref 0), some (.int y)] [] (k_mk I, J, R) _
  refine ev_st dX11_leave_11 rfl rfl ?_
  refine ev_getC dX11_leave_12 fr_11_56 rfl rfl ?_
  refine ev_st dX11_leave_15 rfl rfl ?_
  refine ev_getC dX11_leave_16 fr_11_49 rfl rfl ?_
  refine ev_st dX11_leave_19 rfl rfl ?_
  refine ev_getC dX11_leave_20 fr_11_35 rfl rfl ?_
  refine ev_st dX11_leave_23 rfl rfl ?_
  refine ev_call dX11_leave_24 rfl rfl mr_11_238 rfl rfl rfl (hact) ?_
  rintro _ _ ⟨rfl, rfl⟩
  show Ev lyC (d + 6) hX11_leave 27 [some (.ref 0), some (.int y)] [.int v, .ref 15] (I2, J, R) _
  refine ev_call dX11_leave_27 rfl rfl mr_11_228 rfl rfl rfl (k_settle (I := I2) (v := v) hv hx hx12 hu hu12 h62) ?_
  rintro _ _ ⟨rfl, rfl⟩
  show Ev lyC (d + 6) hX11_leave 30 [some (.ref 0), some (.int y)] [.int v] (k_se I2 x u, J, R) _
  exact ev_iret dX11_leave_30 rfl (⟨rfl, rfl⟩)
set_option maxHeartbeats 1000000 in
theorem k_seventh_no {I I2 : Nat → Nat → Int32} {J : Nat → Nat → Int64} {R : Nat → Nat → Value} {d : Nat} {v y : Int32} (h6 : I 39 6 = 0 ∨ I 39 6 = 1) (hact : Cal lyC (d + 5) hX7_follow 3 [.ref 39, .int y] (k_mk I, J, R) (fun r M' => r = some (.int v) ∧ M' = (I2, J, R))) (hv : v < 0)  : Cal lyC (d + 6) hX11_seventh 2 [.ref 0, .int y] (I, J, R) (fun r M' => r = some (.int v) ∧ M' = (I2, J, R)) := by
  show Ev lyC (d + 6) hX11_seventh 0 [some (.ref 0), some (.int y)] [] (I, J, R) _
  refine ev_st dX11_seventh_0 rfl rfl ?_
  refine ev_getC dX11_seventh_1 fr_11_56 rfl rfl ?_
  refine ev_st dX11_seventh_4 rfl rfl ?_
  refine ev_getC dX11_seventh_5 fr_11_49 rfl rfl ?_
  refine ev_call dX11_seventh_8 rfl rfl mr_11_220 rfl rfl rfl (k_mark h6) ?_
  rintro _ _ ⟨rfl, rfl⟩
  show Ev lyC (d + 6) hX11_seventh 11 [some (.ref 0), some (.int y)] [] (k_mk I, J, R) _
  refine ev_st dX11_seventh_11 rfl rfl ?_
  refine ev_getC dX11_seventh_12 fr_11_56 rfl rfl ?_
  refine ev_st dX11_seventh_15 rfl rfl ?_
  refine ev_getC dX11_seventh_16 fr_11_49 rfl rfl ?_
  refine ev_st dX11_seventh_19 rfl rfl ?_
  refine ev_call dX11_seventh_20 rfl rfl mr_11_241 rfl rfl rfl (hact) ?_
  rintro _ _ ⟨rfl, rfl⟩
  show Ev lyC (d + 6) hX11_seventh 23 [some (.ref 0), some (.int y)] [.int v, .ref 15] (I2, J, R) _
  refine ev_call dX11_seventh_23 rfl rfl mr_11_228 rfl rfl rfl (k_settle_no (v := v) hv) ?_
  rintro _ _ ⟨rfl, rfl⟩
  show Ev lyC (d + 6) hX11_seventh 26 [some (.ref 0), some (.int y)] [.int v] (I2, J, R) _
  exact ev_iret dX11_seventh_26 rfl (⟨rfl, rfl⟩)
set_option maxHeartbeats 1000000 in
theorem k_seventh_ok {I I2 : Nat → Nat → Int32} {J : Nat → Nat → Int64} {R : Nat → Nat → Value} {d x u : Nat} {v y : Int32} (h6 : I 39 6 = 0 ∨ I 39 6 = 1) (hact : Cal lyC (d + 5) hX7_follow 3 [.ref 39, .int y] (k_mk I, J, R) (fun r M' => r = some (.int v) ∧ M' = (I2, J, R))) (hv : ¬ v < 0) (hx : I2 15 4 = nI x) (hx12 : x < 12) (hu : I2 15 5 = nI u) (hu12 : u ≤ 12) (h62 : I2 43 6 = 0 ∨ I2 43 6 = 1) : Cal lyC (d + 6) hX11_seventh 2 [.ref 0, .int y] (I, J, R) (fun r M' => r = some (.int v) ∧ M' = (k_se I2 x u, J, R)) := by
  show Ev lyC (d + 6) hX11_seventh 0 [some (.ref 0), some (.int y)] [] (I, J, R) _
  refine ev_st dX11_seventh_0 rfl rfl ?_
  refine ev_getC dX11_seventh_1 fr_11_56 rfl rfl ?_
  refine ev_st dX11_seventh_4 rfl rfl ?_
  refine ev_getC dX11_seventh_5 fr_11_49 rfl rfl ?_
  refine ev_call dX11_seventh_8 rfl rfl mr_11_220 rfl rfl rfl (k_mark h6) ?_
  rintro _ _ ⟨rfl, rfl⟩
  show Ev lyC (d + 6) hX11_seventh 11 [some (.ref 0), some (.int y)] [] (k_mk I, J, R) _
  refine ev_st dX11_seventh_11 rfl rfl ?_
  refine ev_getC dX11_seventh_12 fr_11_56 rfl rfl ?_
  refine ev_st dX11_seventh_15 rfl rfl ?_
  refine ev_getC dX11_seventh_16 fr_11_49 rfl rfl ?_
  refine ev_st dX11_seventh_19 rfl rfl ?_
  refine ev_call dX11_seventh_20 rfl rfl mr_11_241 rfl rfl rfl (hact) ?_
  rintro _ _ ⟨rfl, rfl⟩
  show Ev lyC (d + 6) hX11_seventh 23 [some (.ref 0), some (.int y)] [.int v, .ref 15] (I2, J, R) _
  refine ev_call dX11_seventh_23 rfl rfl mr_11_228 rfl rfl rfl (k_settle (I := I2) (v := v) hv hx hx12 hu hu12 h62) ?_
  rintro _ _ ⟨rfl, rfl⟩
  show Ev lyC (d + 6) hX11_seventh 26 [some (.ref 0), some (.int y)] [.int v] (k_se I2 x u, J, R) _
  exact ev_iret dX11_seventh_26 rfl (⟨rfl, rfl⟩)
set_option maxHeartbeats 1000000 in
theorem k_say_no {I I2 : Nat → Nat → Int32} {J : Nat → Nat → Int64} {R : Nat → Nat → Value} {d : Nat} {v y : Int32} (h6 : I 39 6 = 0 ∨ I 39 6 = 1) (hact : Cal lyC (d + 5) hX7_speak 5 [.ref 39, .ref 5, .ref 11, .int y] (k_mk I, J, R) (fun r M' => r = some (.int v) ∧ M' = (I2, J, R))) (hv : v < 0)  : Cal lyC (d + 6) hX11_say 2 [.ref 0, .int y] (I, J, R) (fun r M' => r = some (.int v) ∧ M' = (I2, J, R)) := by
  show Ev lyC (d + 6) hX11_say 0 [some (.ref 0), some (.int y)] [] (I, J, R) _
  refine ev_st dX11_say_0 rfl rfl ?_
  refine ev_getC dX11_say_1 fr_11_56 rfl rfl ?_
  refine ev_st dX11_say_4 rfl rfl ?_
  refine ev_getC dX11_say_5 fr_11_49 rfl rfl ?_
  refine ev_call dX11_say_8 rfl rfl mr_11_220 rfl rfl rfl (k_mark h6) ?_
  rintro _ _ ⟨rfl, rfl⟩
  show Ev lyC (d + 6) hX11_say 11 [some (.ref 0), some (.int y)] [] (k_mk I, J, R) _
  refine ev_st dX11_say_11 rfl rfl ?_
  refine ev_getC dX11_say_12 fr_11_56 rfl rfl ?_
  refine ev_st dX11_say_15 rfl rfl ?_
  refine ev_getC dX11_say_16 fr_11_49 rfl rfl ?_
  refine ev_st dX11_say_19 rfl rfl ?_
  refine ev_getC dX11_say_20 fr_11_26 rfl rfl ?_
  refine ev_st dX11_say_23 rfl rfl ?_
  refine ev_getC dX11_say_24 fr_11_42 rfl rfl ?_
  refine ev_st dX11_say_27 rfl rfl ?_
  refine ev_call dX11_say_28 rfl rfl mr_11_244 rfl rfl rfl (hact) ?_
  rintro _ _ ⟨rfl, rfl⟩
  show Ev lyC (d + 6) hX11_say 31 [some (.ref 0), some (.int y)] [.int v, .ref 15] (I2, J, R) _
  refine ev_call dX11_say_31 rfl rfl mr_11_228 rfl rfl rfl (k_settle_no (v := v) hv) ?_
  rintro _ _ ⟨rfl, rfl⟩
  show Ev lyC (d + 6) hX11_say 34 [some (.ref 0), some (.int y)] [.int v] (I2, J, R) _
  exact ev_iret dX11_say_34 rfl (⟨rfl, rfl⟩)
set_option maxHeartbeats 1000000 in
theorem k_say_ok {I I2 : Nat → Nat → Int32} {J : Nat → Nat → Int64} {R : Nat → Nat → Value} {d x u : Nat} {v y : Int32} (h6 : I 39 6 = 0 ∨ I 39 6 = 1) (hact : Cal lyC (d + 5) hX7_speak 5 [.ref 39, .ref 5, .ref 11, .int y] (k_mk I, J, R) (fun r M' => r = some (.int v) ∧ M' = (I2, J, R))) (hv : ¬ v < 0) (hx : I2 15 4 = nI x) (hx12 : x < 12) (hu : I2 15 5 = nI u) (hu12 : u ≤ 12) (h62 : I2 43 6 = 0 ∨ I2 43 6 = 1) : Cal lyC (d + 6) hX11_say 2 [.ref 0, .int y] (I, J, R) (fun r M' => r = some (.int v) ∧ M' = (k_se I2 x u, J, R)) := by
  show Ev lyC (d + 6) hX11_say 0 [some (.ref 0), some (.int y)] [] (I, J, R) _
  refine ev_st dX11_say_0 rfl rfl ?_
  refine ev_getC dX11_say_1 fr_11_56 rfl rfl ?_
  refine ev_st dX11_say_4 rfl rfl ?_
  refine ev_getC dX11_say_5 fr_11_49 rfl rfl ?_
  refine ev_call dX11_say_8 rfl rfl mr_11_220 rfl rfl rfl (k_mark h6) ?_
  rintro _ _ ⟨rfl, rfl⟩
  show Ev lyC (d + 6) hX11_say 11 [some (.ref 0), some (.int y)] [] (k_mk I, J, R) _
  refine ev_st dX11_say_11 rfl rfl ?_
  refine ev_getC dX11_say_12 fr_11_56 rfl rfl ?_
  refine ev_st dX11_say_15 rfl rfl ?_
  refine ev_getC dX11_say_16 fr_11_49 rfl rfl ?_
  refine ev_st dX11_say_19 rfl rfl ?_
  refine ev_getC dX11_say_20 fr_11_26 rfl rfl ?_
  refine ev_st dX11_say_23 rfl rfl ?_
  refine ev_getC dX11_say_24 fr_11_42 rfl rfl ?_
  refine ev_st dX11_say_27 rfl rfl ?_
  refine ev_call dX11_say_28 rfl rfl mr_11_244 rfl rfl rfl (hact) ?_
  rintro _ _ ⟨rfl, rfl⟩
  show Ev lyC (d + 6) hX11_say 31 [some (.ref 0), some (.int y)] [.int v, .ref 15] (I2, J, R) _
  refine ev_call dX11_say_31 rfl rfl mr_11_228 rfl rfl rfl (k_settle (I := I2) (v := v) hv hx hx12 hu hu12 h62) ?_
  rintro _ _ ⟨rfl, rfl⟩
  show Ev lyC (d + 6) hX11_say 34 [some (.ref 0), some (.int y)] [.int v] (k_se I2 x u, J, R) _
  exact ev_iret dX11_say_34 rfl (⟨rfl, rfl⟩)
set_option maxHeartbeats 1000000 in
theorem k_step_31_no {I I2 : Nat → Nat → Int32} {J : Nat → Nat → Int64} {R : Nat → Nat → Value} {d : Nat} {v : Int32} (h6 : I 39 6 = 0 ∨ I 39 6 = 1) (hp : R 0 11 = .ref 31) (hact : Cal lyC (d + 5) hX7_advance 5 [.ref 39, .ref 5, .ref 8, .ref 31] (k_mk I, J, R) (fun r M' => r = some (.int v) ∧ M' = (I2, J, R))) (hv : v < 0)  : Cal lyC (d + 6) hX11_step 2 [.ref 0] (I, J, R) (fun r M' => r = some (.int v) ∧ M' = (I2, J, R)) := by
  show Ev lyC (d + 6) hX11_step 0 [some (.ref 0), none] [] (I, J, R) _
  refine ev_st dX11_step_0 rfl rfl ?_
  refine ev_getC dX11_step_1 fr_11_56 rfl rfl ?_
  refine ev_st dX11_step_4 rfl rfl ?_
  refine ev_getC dX11_step_5 fr_11_49 rfl rfl ?_
  refine ev_call dX11_step_8 rfl rfl mr_11_220 rfl rfl rfl (k_mark h6) ?_
  rintro _ _ ⟨rfl, rfl⟩
  show Ev lyC (d + 6) hX11_step 11 [some (.ref 0), none] [] (k_mk I, J, R) _
  refine ev_st dX11_step_11 rfl rfl ?_
  refine ev_getC dX11_step_12 fr_11_56 rfl rfl ?_
  refine ev_st dX11_step_15 rfl rfl ?_
  refine ev_getC dX11_step_16 fr_11_49 rfl rfl ?_
  refine ev_st dX11_step_19 rfl rfl ?_
  refine ev_getC dX11_step_20 fr_11_26 rfl rfl ?_
  refine ev_st dX11_step_23 rfl rfl ?_
  refine ev_getC dX11_step_24 fr_11_35 rfl rfl ?_
  refine ev_st dX11_step_27 rfl rfl ?_
  refine ev_getR (v := .ref 31) dX11_step_28 fr_11_94 rfl rfl hp ?_
  refine ev_call dX11_step_31 rfl rfl mr_11_224 rfl rfl rfl (hact) ?_
  rintro _ _ ⟨rfl, rfl⟩
  show Ev lyC (d + 6) hX11_step 34 [some (.ref 0), none] [.int v, .ref 15] (I2, J, R) _
  refine ev_call dX11_step_34 rfl rfl mr_11_228 rfl rfl rfl (k_settle_no (v := v) hv) ?_
  rintro _ _ ⟨rfl, rfl⟩
  show Ev lyC (d + 6) hX11_step 37 [some (.ref 0), none] [.int v] (I2, J, R) _
  refine ev_st (L' := [some (.ref 0), some (.int v)]) dX11_step_37 rfl rfl ?_
  refine ev_st dX11_step_38 rfl rfl ?_
  refine ev_if_lt (t := 65) (x := v) dX11_step_39 (by decide) (fun c_39 => ?_) (fun c_39 => ?_)
  · refine ev_st dX11_step_65 rfl rfl ?_
    exact ev_iret dX11_step_66 rfl (⟨rfl, rfl⟩)
  · exact absurd hv c_39
set_option maxHeartbeats 1000000 in
theorem k_step_31_ok {I I2 : Nat → Nat → Int32} {J : Nat → Nat → Int64} {R : Nat → Nat → Value} {d x u : Nat} {v : Int32} (h6 : I 39 6 = 0 ∨ I 39 6 = 1) (hp : R 0 11 = .ref 31) (hact : Cal lyC (d + 5) hX7_advance 5 [.ref 39, .ref 5, .ref 8, .ref 31] (k_mk I, J, R) (fun r M' => r = some (.int v) ∧ M' = (I2, J, R))) (hv : ¬ v < 0) (hx : I2 15 4 = nI x) (hx12 : x < 12) (hu : I2 15 5 = nI u) (hu12 : u ≤ 12) (h62 : I2 43 6 = 0 ∨ I2 43 6 = 1) : Cal lyC (d + 6) hX11_step 2 [.ref 0] (I, J, R) (fun r M' => r = some (.int v) ∧ M' = (ti_wr (k_se I2 x u) 3 1 (nI 2), ti_wl (ti_wl J 4 0 (I2 39 1).toInt64) 4 1 (I2 39 7).toInt64, R)) := by
  show Ev lyC (d + 6) hX11_step 0 [some (.ref 0), none] [] (I, J, R) _
  refine ev_st dX11_step_0 rfl rfl ?_
  refine ev_getC dX11_step_1 fr_11_56 rfl rfl ?_
  refine ev_st dX11_step_4 rfl rfl ?_
  refine ev_getC dX11_step_5 fr_11_49 rfl rfl ?_
  refine ev_call dX11_step_8 rfl rfl mr_11_220 rfl rfl rfl (k_mark h6) ?_
  rintro _ _ ⟨rfl, rfl⟩
  show Ev lyC (d + 6) hX11_step 11 [some (.ref 0), none] [] (k_mk I, J, R) _
  refine ev_st dX11_step_11 rfl rfl ?_
  refine ev_getC dX11_step_12 fr_11_56 rfl rfl ?_
  refine ev_st dX11_step_15 rfl rfl ?_
  refine ev_getC dX11_step_16 fr_11_49 rfl rfl ?_
  refine ev_st dX11_step_19 rfl rfl ?_
  refine ev_getC dX11_step_20 fr_11_26 rfl rfl ?_
  refine ev_st dX11_step_23 rfl rfl ?_
  refine ev_getC dX11_step_24 fr_11_35 rfl rfl ?_
  refine ev_st dX11_step_27 rfl rfl ?_
  refine ev_getR (v := .ref 31) dX11_step_28 fr_11_94 rfl rfl hp ?_
  refine ev_call dX11_step_31 rfl rfl mr_11_224 rfl rfl rfl (hact) ?_
  rintro _ _ ⟨rfl, rfl⟩
  show Ev lyC (d + 6) hX11_step 34 [some (.ref 0), none] [.int v, .ref 15] (I2, J, R) _
  refine ev_call dX11_step_34 rfl rfl mr_11_228 rfl rfl rfl (k_settle (I := I2) (v := v) hv hx hx12 hu hu12 h62) ?_
  rintro _ _ ⟨rfl, rfl⟩
  show Ev lyC (d + 6) hX11_step 37 [some (.ref 0), none] [.int v] (k_se I2 x u, J, R) _
  refine ev_st (L' := [some (.ref 0), some (.int v)]) dX11_step_37 rfl rfl ?_
  refine ev_st dX11_step_38 rfl rfl ?_
  refine ev_if_lt (t := 65) (x := v) dX11_step_39 (by decide) (fun c_39 => ?_) (fun c_39 => ?_)
  · exact absurd c_39 hv
  · refine ev_st dX11_step_42 rfl rfl ?_
    refine ev_getC dX11_step_43 fr_11_19 rfl rfl ?_
    refine ev_st dX11_step_46 rfl rfl ?_
    refine ev_getC dX11_step_47 fr_11_49 rfl rfl ?_
    refine ev_getI (v := I2 39 1) dX11_step_50 fr_11_113 rfl rfl (by unfold k_se; rw [ti_wr_n (by decide), ti_wr_n (by decide), k_bm_n (by omega) (by omega)]) ?_
    refine ev_st dX11_step_53 rfl rfl ?_
    refine ev_st dX11_step_54 rfl rfl ?_
    refine ev_getC dX11_step_55 fr_11_49 rfl rfl ?_
    refine ev_getI (v := I2 39 7) dX11_step_58 fr_11_231 rfl rfl (by unfold k_se; rw [ti_wr_n (by decide), ti_wr_n (by decide), k_bm_n (by omega) (by omega)]) ?_
    refine ev_st dX11_step_61 rfl rfl ?_
    refine ev_call dX11_step_62 rfl rfl mr_11_205 rfl rfl rfl (k_tell2 ((I2 39 1).toInt64) ((I2 39 7).toInt64)) ?_
    rintro _ _ ⟨rfl, rfl⟩
    show Ev lyC (d + 6) hX11_step 65 [some (.ref 0), some (.int v)] [] (ti_wr (k_se I2 x u) 3 1 (nI 2), ti_wl (ti_wl J 4 0 ((I2 39 1).toInt64)) 4 1 ((I2 39 7).toInt64), R) _
    refine ev_st dX11_step_65 rfl rfl ?_
    exact ev_iret dX11_step_66 rfl (⟨rfl, rfl⟩)
set_option maxHeartbeats 1000000 in
theorem k_step_35_no {I I2 : Nat → Nat → Int32} {J : Nat → Nat → Int64} {R : Nat → Nat → Value} {d : Nat} {v : Int32} (h6 : I 39 6 = 0 ∨ I 39 6 = 1) (hp : R 0 11 = .ref 35) (hact : Cal lyC (d + 5) hX7_advance 5 [.ref 39, .ref 5, .ref 8, .ref 35] (k_mk I, J, R) (fun r M' => r = some (.int v) ∧ M' = (I2, J, R))) (hv : v < 0)  : Cal lyC (d + 6) hX11_step 2 [.ref 0] (I, J, R) (fun r M' => r = some (.int v) ∧ M' = (I2, J, R)) := by
  show Ev lyC (d + 6) hX11_step 0 [some (.ref 0), none] [] (I, J, R) _
  refine ev_st dX11_step_0 rfl rfl ?_
  refine ev_getC dX11_step_1 fr_11_56 rfl rfl ?_
  refine ev_st dX11_step_4 rfl rfl ?_
  refine ev_getC dX11_step_5 fr_11_49 rfl rfl ?_
  refine ev_call dX11_step_8 rfl rfl mr_11_220 rfl rfl rfl (k_mark h6) ?_
  rintro _ _ ⟨rfl, rfl⟩
  show Ev lyC (d + 6) hX11_step 11 [some (.ref 0), none] [] (k_mk I, J, R) _
  refine ev_st dX11_step_11 rfl rfl ?_
  refine ev_getC dX11_step_12 fr_11_56 rfl rfl ?_
  refine ev_st dX11_step_15 rfl rfl ?_
  refine ev_getC dX11_step_16 fr_11_49 rfl rfl ?_
  refine ev_st dX11_step_19 rfl rfl ?_
  refine ev_getC dX11_step_20 fr_11_26 rfl rfl ?_
  refine ev_st dX11_step_23 rfl rfl ?_
  refine ev_getC dX11_step_24 fr_11_35 rfl rfl ?_
  refine ev_st dX11_step_27 rfl rfl ?_
  refine ev_getR (v := .ref 35) dX11_step_28 fr_11_94 rfl rfl hp ?_
  refine ev_call dX11_step_31 rfl rfl mr_11_224 rfl rfl rfl (hact) ?_
  rintro _ _ ⟨rfl, rfl⟩
  show Ev lyC (d + 6) hX11_step 34 [some (.ref 0), none] [.int v, .ref 15] (I2, J, R) _
  refine ev_call dX11_step_34 rfl rfl mr_11_228 rfl rfl rfl (k_settle_no (v := v) hv) ?_
  rintro _ _ ⟨rfl, rfl⟩
  show Ev lyC (d + 6) hX11_step 37 [some (.ref 0), none] [.int v] (I2, J, R) _
  refine ev_st (L' := [some (.ref 0), some (.int v)]) dX11_step_37 rfl rfl ?_
  refine ev_st dX11_step_38 rfl rfl ?_
  refine ev_if_lt (t := 65) (x := v) dX11_step_39 (by decide) (fun c_39 => ?_) (fun c_39 => ?_)
  · refine ev_st dX11_step_65 rfl rfl ?_
    exact ev_iret dX11_step_66 rfl (⟨rfl, rfl⟩)
  · exact absurd hv c_39
set_option maxHeartbeats 1000000 in
theorem k_step_35_ok {I I2 : Nat → Nat → Int32} {J : Nat → Nat → Int64} {R : Nat → Nat → Value} {d x u : Nat} {v : Int32} (h6 : I 39 6 = 0 ∨ I 39 6 = 1) (hp : R 0 11 = .ref 35) (hact : Cal lyC (d + 5) hX7_advance 5 [.ref 39, .ref 5, .ref 8, .ref 35] (k_mk I, J, R) (fun r M' => r = some (.int v) ∧ M' = (I2, J, R))) (hv : ¬ v < 0) (hx : I2 15 4 = nI x) (hx12 : x < 12) (hu : I2 15 5 = nI u) (hu12 : u ≤ 12) (h62 : I2 43 6 = 0 ∨ I2 43 6 = 1) : Cal lyC (d + 6) hX11_step 2 [.ref 0] (I, J, R) (fun r M' => r = some (.int v) ∧ M' = (ti_wr (k_se I2 x u) 3 1 (nI 2), ti_wl (ti_wl J 4 0 (I2 39 1).toInt64) 4 1 (I2 39 7).toInt64, R)) := by
  show Ev lyC (d + 6) hX11_step 0 [some (.ref 0), none] [] (I, J, R) _
  refine ev_st dX11_step_0 rfl rfl ?_
  refine ev_getC dX11_step_1 fr_11_56 rfl rfl ?_
  refine ev_st dX11_step_4 rfl rfl ?_
  refine ev_getC dX11_step_5 fr_11_49 rfl rfl ?_
  refine ev_call dX11_step_8 rfl rfl mr_11_220 rfl rfl rfl (k_mark h6) ?_
  rintro _ _ ⟨rfl, rfl⟩
  show Ev lyC (d + 6) hX11_step 11 [some (.ref 0), none] [] (k_mk I, J, R) _
  refine ev_st dX11_step_11 rfl rfl ?_
  refine ev_getC dX11_step_12 fr_11_56 rfl rfl ?_
  refine ev_st dX11_step_15 rfl rfl ?_
  refine ev_getC dX11_step_16 fr_11_49 rfl rfl ?_
  refine ev_st dX11_step_19 rfl rfl ?_
  refine ev_getC dX11_step_20 fr_11_26 rfl rfl ?_
  refine ev_st dX11_step_23 rfl rfl ?_
  refine ev_getC dX11_step_24 fr_11_35 rfl rfl ?_
  refine ev_st dX11_step_27 rfl rfl ?_
  refine ev_getR (v := .ref 35) dX11_step_28 fr_11_94 rfl rfl hp ?_
  refine ev_call dX11_step_31 rfl rfl mr_11_224 rfl rfl rfl (hact) ?_
  rintro _ _ ⟨rfl, rfl⟩
  show Ev lyC (d + 6) hX11_step 34 [some (.ref 0), none] [.int v, .ref 15] (I2, J, R) _
  refine ev_call dX11_step_34 rfl rfl mr_11_228 rfl rfl rfl (k_settle (I := I2) (v := v) hv hx hx12 hu hu12 h62) ?_
  rintro _ _ ⟨rfl, rfl⟩
  show Ev lyC (d + 6) hX11_step 37 [some (.ref 0), none] [.int v] (k_se I2 x u, J, R) _
  refine ev_st (L' := [some (.ref 0), some (.int v)]) dX11_step_37 rfl rfl ?_
  refine ev_st dX11_step_38 rfl rfl ?_
  refine ev_if_lt (t := 65) (x := v) dX11_step_39 (by decide) (fun c_39 => ?_) (fun c_39 => ?_)
  · exact absurd c_39 hv
  · refine ev_st dX11_step_42 rfl rfl ?_
    refine ev_getC dX11_step_43 fr_11_19 rfl rfl ?_
    refine ev_st dX11_step_46 rfl rfl ?_
    refine ev_getC dX11_step_47 fr_11_49 rfl rfl ?_
    refine ev_getI (v := I2 39 1) dX11_step_50 fr_11_113 rfl rfl (by unfold k_se; rw [ti_wr_n (by decide), ti_wr_n (by decide), k_bm_n (by omega) (by omega)]) ?_
    refine ev_st dX11_step_53 rfl rfl ?_
    refine ev_st dX11_step_54 rfl rfl ?_
    refine ev_getC dX11_step_55 fr_11_49 rfl rfl ?_
    refine ev_getI (v := I2 39 7) dX11_step_58 fr_11_231 rfl rfl (by unfold k_se; rw [ti_wr_n (by decide), ti_wr_n (by decide), k_bm_n (by omega) (by omega)]) ?_
    refine ev_st dX11_step_61 rfl rfl ?_
    refine ev_call dX11_step_62 rfl rfl mr_11_205 rfl rfl rfl (k_tell2 ((I2 39 1).toInt64) ((I2 39 7).toInt64)) ?_
    rintro _ _ ⟨rfl, rfl⟩
    show Ev lyC (d + 6) hX11_step 65 [some (.ref 0), some (.int v)] [] (ti_wr (k_se I2 x u) 3 1 (nI 2), ti_wl (ti_wl J 4 0 ((I2 39 1).toInt64)) 4 1 ((I2 39 7).toInt64), R) _
    refine ev_st dX11_step_65 rfl rfl ?_
    exact ev_iret dX11_step_66 rfl (⟨rfl, rfl⟩)
theorem k_load0 {I : Nat → Nat → Int32} {J : Nat → Nat → Int64} {R : Nat → Nat → Value} {d : Nat} {x : Int32} (hx : x < 0 ∨ 999 < x) : Cal lyC d hX11_load 3 [.ref 0, .int x] (I, J, R) (fun r M' => r = some (.int (-1)) ∧ M' = (I, J, R)) := by
  show Ev lyC d hX11_load 0 [some (.ref 0), some (.int x), none] [] (I, J, R) _
  refine ev_st dX11_load_0 rfl rfl ?_
  refine ev_if_lt (t := 11) (x := x) dX11_load_1 (by decide) (fun c_1 => ?_) (fun c_1 => ?_)
  · refine ev_iconst (v := -1) dX11_load_11 (by decide) ?_
    exact ev_iret dX11_load_12 rfl (⟨rfl, rfl⟩)
  · refine ev_st dX11_load_4 rfl rfl ?_
    refine ev_sipush (v := 999) dX11_load_5 (by decide) ?_
    refine ev_ic_le (t := 13) (x := x) (y := 999) dX11_load_8 (by decide) (fun c_8 => ?_) (fun c_8 => ?_)
    · exact absurd (hx.resolve_left c_1) c_8
    · refine ev_iconst (v := -1) dX11_load_11 (by decide) ?_
      exact ev_iret dX11_load_12 rfl (⟨rfl, rfl⟩)
theorem k_load1 {I : Nat → Nat → Int32} {J : Nat → Nat → Int64} {R : Nat → Nat → Value} {d : Nat} {x : Int32} (h0 : ¬ x < 0) (h9 : ¬ 999 < x) : Cal lyC d hX11_load 3 [.ref 0, .int x] (I, J, R) (fun r M' => r = some (.int (I 39 2)) ∧ M' = (ti_wr I 39 2 x, J, R)) := by
  show Ev lyC d hX11_load 0 [some (.ref 0), some (.int x), none] [] (I, J, R) _
  refine ev_st dX11_load_0 rfl rfl ?_
  refine ev_if_lt (t := 11) (x := x) dX11_load_1 (by decide) (fun c_1 => ?_) (fun c_1 => ?_)
  · exact absurd c_1 h0
  · refine ev_st dX11_load_4 rfl rfl ?_
    refine ev_sipush (v := 999) dX11_load_5 (by decide) ?_
    refine ev_ic_le (t := 13) (x := x) (y := 999) dX11_load_8 (by decide) (fun c_8 => ?_) (fun c_8 => ?_)
    · refine ev_st dX11_load_13 rfl rfl ?_
      refine ev_getC dX11_load_14 fr_11_49 rfl rfl ?_
      refine ev_getI (v := I 39 2) dX11_load_17 fr_11_194 rfl rfl rfl ?_
      refine ev_st (L' := [some (.ref 0), some (.int x), some (.int (I 39 2))]) dX11_load_20 rfl rfl ?_
      refine ev_st dX11_load_21 rfl rfl ?_
      refine ev_getC dX11_load_22 fr_11_49 rfl rfl ?_
      refine ev_st dX11_load_25 rfl rfl ?_
      refine ev_putI dX11_load_26 fr_11_194 rfl rfl ?_
      refine ev_st dX11_load_29 rfl rfl ?_
      exact ev_iret dX11_load_30 rfl (⟨rfl, rfl⟩)
    · exact absurd c_8 h9
theorem k_undo {I I2 : Nat → Nat → Int32} {J : Nat → Nat → Int64} {R : Nat → Nat → Value} {d : Nat} {v : Int32} (hact : Cal lyC (d + 2) hX2_bringBack 2 [.ref 15, .ref 39] (I, J, R) (fun r M' => r = some (.int v) ∧ M' = (I2, J, R))) : Cal lyC (d + 3) hX11_undo 1 [.ref 0] (I, J, R) (fun r M' => r = some (.int v) ∧ M' = (I2, J, R)) := by
  show Ev lyC (d + 3) hX11_undo 0 [some (.ref 0)] [] (I, J, R) _
  refine ev_st dX11_undo_0 rfl rfl ?_
  refine ev_getC dX11_undo_1 fr_11_56 rfl rfl ?_
  refine ev_st dX11_undo_4 rfl rfl ?_
  refine ev_getC dX11_undo_5 fr_11_49 rfl rfl ?_
  refine ev_call dX11_undo_8 rfl rfl mr_11_277 rfl rfl rfl (hact) ?_
  rintro _ _ ⟨rfl, rfl⟩
  show Ev lyC (d + 3) hX11_undo 11 [some (.ref 0)] [.int v] (I2, J, R) _
  exact ev_iret dX11_undo_11 rfl (⟨rfl, rfl⟩)
theorem k_keep {I I2 : Nat → Nat → Int32} {J : Nat → Nat → Int64} {R : Nat → Nat → Value} {d : Nat} {v y : Int32} (hact : Cal lyC (d + 2) hX2_keepUnder 3 [.ref 15, .int y, .ref 39] (I, J, R) (fun r M' => r = some (.int v) ∧ M' = (I2, J, R))) (hv : v = 0 ∨ v = 1) : Cal lyC (d + 3) hX11_keep 2 [.ref 0, .int y] (I, J, R) (fun r M' => r = some (.int v) ∧ M' = (I2, J, R)) := by
  show Ev lyC (d + 3) hX11_keep 0 [some (.ref 0), some (.int y)] [] (I, J, R) _
  refine ev_st dX11_keep_0 rfl rfl ?_
  refine ev_getC dX11_keep_1 fr_11_56 rfl rfl ?_
  refine ev_st dX11_keep_4 rfl rfl ?_
  refine ev_st dX11_keep_5 rfl rfl ?_
  refine ev_getC dX11_keep_6 fr_11_49 rfl rfl ?_
  refine ev_call dX11_keep_9 rfl rfl mr_11_396 rfl rfl rfl (hact) ?_
  rintro _ _ ⟨rfl, rfl⟩
  show Ev lyC (d + 3) hX11_keep 12 [some (.ref 0), some (.int y)] [.int v] (I2, J, R) _
  exact ev_zret dX11_keep_12 rfl hv (⟨rfl, rfl⟩)
theorem k_again {I I2 : Nat → Nat → Int32} {J : Nat → Nat → Int64} {R : Nat → Nat → Value} {d : Nat} {v y : Int32} (hact : Cal lyC (d + 2) hX2_bringBackKept 3 [.ref 15, .int y, .ref 39] (I, J, R) (fun r M' => r = some (.int v) ∧ M' = (I2, J, R))) (hv : v = 0 ∨ v = 1) : Cal lyC (d + 3) hX11_again 2 [.ref 0, .int y] (I, J, R) (fun r M' => r = some (.int v) ∧ M' = (I2, J, R)) := by
  show Ev lyC (d + 3) hX11_again 0 [some (.ref 0), some (.int y)] [] (I, J, R) _
  refine ev_st dX11_again_0 rfl rfl ?_
  refine ev_getC dX11_again_1 fr_11_56 rfl rfl ?_
  refine ev_st dX11_again_4 rfl rfl ?_
  refine ev_st dX11_again_5 rfl rfl ?_
  refine ev_getC dX11_again_6 fr_11_49 rfl rfl ?_
  refine ev_call dX11_again_9 rfl rfl mr_11_400 rfl rfl rfl (hact) ?_
  rintro _ _ ⟨rfl, rfl⟩
  show Ev lyC (d + 3) hX11_again 12 [some (.ref 0), some (.int y)] [.int v] (I2, J, R) _
  exact ev_zret dX11_again_12 rfl hv (⟨rfl, rfl⟩)
