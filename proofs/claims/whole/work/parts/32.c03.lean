/-! the class: the row, states that become others, the history, the calls of the walk -/
theorem k_clear {I : Nat → Nat → Int32} {J : Nat → Nat → Int64} {R : Nat → Nat → Value} {d : Nat} : Cal lyC d hX4_clear 1 [.ref 3] (I, J, R) (fun r M' => r = none ∧ M' = (ti_wr I 3 1 0, J, R)) := by
  show Ev lyC d hX4_clear 0 [some (.ref 3)] [] (I, J, R) _
  refine ev_st dX4_clear_0 rfl rfl ?_
  refine ev_iconst (v := 0) dX4_clear_1 (by decide) ?_
  refine ev_putI dX4_clear_2 fr_4_15 rfl rfl ?_
  exact ev_vret dX4_clear_5 rfl (⟨rfl, rfl⟩)
theorem k_add {I : Nat → Nat → Int32} {J : Nat → Nat → Int64} {R : Nat → Nat → Value} {d m : Nat} (hm : I 3 1 = nI m) (hm8 : m < 8) (v : Int64) : Cal lyC d hX4_add 3 [.ref 3, .long v] (I, J, R) (fun r M' => r = none ∧ M' = (ti_wr I 3 1 (nI (m + 1)), ti_wl J 4 m v, R)) := by
  show Ev lyC d hX4_add 0 [some (.ref 3), some (.long v), none] [] (I, J, R) _
  refine ev_st dX4_add_0 rfl rfl ?_
  refine ev_getI (v := nI m) dX4_add_1 fr_4_15 rfl rfl hm ?_
  refine ev_st dX4_add_4 rfl rfl ?_
  refine ev_getC dX4_add_5 fr_4_9 rfl rfl ?_
  refine ev_alen (v := 8) dX4_add_8 rfl (by decide) rfl ?_
  refine ev_ic_geN (t := 32) (a := m) (b := 8) dX4_add_9 (by decide) rfl rfl (by omega) (by omega) (fun c_9 => ?_) (fun c_9 => ?_)
  · exact absurd hm8 (by omega)
  · refine ev_st dX4_add_12 rfl rfl ?_
    refine ev_getC dX4_add_13 fr_4_9 rfl rfl ?_
    refine ev_st dX4_add_16 rfl rfl ?_
    refine ev_getI (v := nI m) dX4_add_17 fr_4_15 rfl rfl hm ?_
    refine ev_st dX4_add_20 rfl rfl ?_
    refine ev_last (j := m) dX4_add_21 rfl rfl (by omega) (by decide) ?_
    refine ev_st dX4_add_22 rfl rfl ?_
    refine ev_st dX4_add_23 rfl rfl ?_
    refine ev_getI (v := nI m) dX4_add_24 fr_4_15 rfl rfl hm ?_
    refine ev_iconst (v := 1) dX4_add_27 (by decide) ?_
    refine ev_iaddN (a := m) (b := 1) (c := m + 1) dX4_add_28 rfl rfl rfl ?_
    refine ev_putI dX4_add_29 fr_4_15 rfl rfl ?_
    exact ev_vret dX4_add_32 rfl (⟨rfl, rfl⟩)
theorem ti_wr2 {I : Nat → Nat → Int32} {p k : Nat} {x y : Int32} : ti_wr (ti_wr I p k x) p k y = ti_wr I p k y := by
  funext a b
  by_cases h : a = p
  · subst h
    by_cases h2 : b = k <;> simp [ti_wr, va_up, upd, h2]
  · simp [ti_wr, va_up, h]
theorem ti_wr_n {I : Nat → Nat → Int32} {p k q : Nat} {x : Int32} (h : q ≠ p) : ti_wr I p k x q = I q := by funext b; simp [ti_wr, va_up, h]
theorem k_tell1 {I : Nat → Nat → Int32} {J : Nat → Nat → Int64} {R : Nat → Nat → Value} {d : Nat} (v : Int64) : Cal lyC (d + 1) hX4_tell 3 [.ref 3, .long v] (I, J, R) (fun r M' => r = none ∧ M' = (ti_wr I 3 1 (nI 1), ti_wl J 4 0 v, R)) := by
  show Ev lyC (d + 1) hX4_tell 0 [some (.ref 3), some (.long v), none] [] (I, J, R) _
  refine ev_st dX4_tell_0 rfl rfl ?_
  refine ev_call dX4_tell_1 rfl rfl mr_4_19 rfl rfl rfl (k_clear) ?_
  rintro _ _ ⟨rfl, rfl⟩
  show Ev lyC (d + 1) hX4_tell 4 [some (.ref 3), some (.long v), none] [] (ti_wr I 3 1 0, J, R) _
  refine ev_st dX4_tell_4 rfl rfl ?_
  refine ev_st dX4_tell_5 rfl rfl ?_
  refine ev_call dX4_tell_6 rfl rfl mr_4_22 rfl rfl rfl (k_add (m := 0) rfl (by decide) v) ?_
  rintro _ _ ⟨rfl, rfl⟩
  show Ev lyC (d + 1) hX4_tell 9 [some (.ref 3), some (.long v), none] [] (ti_wr (ti_wr I 3 1 0) 3 1 (nI 1), ti_wl J 4 0 v, R) _
  exact ev_vret dX4_tell_9 rfl (⟨rfl, by simp only [ti_wr2]⟩)
theorem k_tell2 {I : Nat → Nat → Int32} {J : Nat → Nat → Int64} {R : Nat → Nat → Value} {d : Nat} (v u : Int64) : Cal lyC (d + 2) hX4_tell_ 5 [.ref 3, .long v, .long u] (I, J, R) (fun r M' => r = none ∧ M' = (ti_wr I 3 1 (nI 2), ti_wl (ti_wl J 4 0 v) 4 1 u, R)) := by
  show Ev lyC (d + 2) hX4_tell_ 0 [some (.ref 3), some (.long v), none, some (.long u), none] [] (I, J, R) _
  refine ev_st dX4_tell__0 rfl rfl ?_
  refine ev_st dX4_tell__1 rfl rfl ?_
  refine ev_call dX4_tell__2 rfl rfl mr_4_26 rfl rfl rfl (k_tell1 v) ?_
  rintro _ _ ⟨rfl, rfl⟩
  show Ev lyC (d + 2) hX4_tell_ 5 [some (.ref 3), some (.long v), none, some (.long u), none] [] (ti_wr I 3 1 (nI 1), ti_wl J 4 0 v, R) _
  refine ev_st dX4_tell__5 rfl rfl ?_
  refine ev_st dX4_tell__6 rfl rfl ?_
  refine ev_call dX4_tell__7 rfl rfl mr_4_22 rfl rfl rfl (k_add (m := 1) rfl (by decide) u) ?_
  rintro _ _ ⟨rfl, rfl⟩
  show Ev lyC (d + 2) hX4_tell_ 10 [some (.ref 3), some (.long v), none, some (.long u), none] [] (ti_wr (ti_wr I 3 1 (nI 1)) 3 1 (nI 2), ti_wl (ti_wl J 4 0 v) 4 1 u, R) _
  exact ev_vret dX4_tell__10 rfl (⟨rfl, by simp only [ti_wr2]⟩)
/-- a state becomes another -/
def k_bm (I : Nat → Nat → Int32) (p t p2 t2 : Nat) : Nat → Nat → Int32 := ti_wr (ti_wr (ti_wr (ti_wr (ti_wr (ti_wr (ti_wr (va_up I t (va_cpy (I t2) (I t) 0 0 8)) p 1 (I p2 1)) p 2 (I p2 2)) p 3 (I p2 3)) p 4 (I p2 4)) p 5 (I p2 5)) p 6 (I p2 6)) p 7 (I p2 7)
theorem k_bm_n {I : Nat → Nat → Int32} {p t p2 t2 q : Nat} (h1 : q ≠ p) (h2 : q ≠ t) : k_bm I p t p2 t2 q = I q := by
  unfold k_bm
  simp only [ti_wr_n h1]
  exact va_up_n h2
theorem k_bm_t {I : Nat → Nat → Int32} {p t p2 t2 j : Nat} (h : t ≠ p) (hj : j < 8) : k_bm I p t p2 t2 t j = I t2 j := by
  unfold k_bm
  simp only [ti_wr_n h]
  rw [va_up_q]
  simp [va_cpy, hj]
theorem k_bm_p {I : Nat → Nat → Int32} {p t p2 t2 : Nat} : ∀ k, 1 ≤ k → k ≤ 7 → k_bm I p t p2 t2 p k = I p2 k := by
  intro k h1 h7
  unfold k_bm
  rcases (by omega : k = 1 ∨ k = 2 ∨ k = 3 ∨ k = 4 ∨ k = 5 ∨ k = 6 ∨ k = 7) with rfl | rfl | rfl | rfl | rfl | rfl | rfl <;> simp [ti_wr, va_up, upd]
set_option maxHeartbeats 1000000 in
theorem k_become {I : Nat → Nat → Int32} {J : Nat → Nat → Int64} {R : Nat → Nat → Value} {d p t p2 t2 : Nat} (hp : lyC[p]? = some (.inl (7, [(1, t), (0, 0), (0, 0), (0, 0), (0, 0), (0, 0), (0, 0), (0, 0)]))) (ht : lyC[t]? = some (.inr (.inl (0, 8)))) (hp2 : lyC[p2]? = some (.inl (7, [(1, t2), (0, 0), (0, 0), (0, 0), (0, 0), (0, 0), (0, 0), (0, 0)]))) (ht2 : lyC[t2]? = some (.inr (.inl (0, 8)))) (hpp : p2 ≠ p) (htp : p2 ≠ t) (h6 : I p2 6 = 0 ∨ I p2 6 = 1) : Cal lyC (d + 1) hX7_become 2 [.ref p, .ref p2] (I, J, R) (fun r M' => r = none ∧ M' = (k_bm I p t p2 t2, J, R)) := by
  show Ev lyC (d + 1) hX7_become 0 [some (.ref p), some (.ref p2)] [] (I, J, R) _
  refine ev_st dX7_become_0 rfl rfl ?_
  refine ev_getC dX7_become_1 fr_7_9 hp2 rfl ?_
  refine ev_iconst (v := 0) dX7_become_4 (by decide) ?_
  refine ev_st dX7_become_5 rfl rfl ?_
  refine ev_getC dX7_become_6 fr_7_9 hp rfl ?_
  refine ev_iconst (v := 0) dX7_become_9 (by decide) ?_
  refine ev_bipush (v := 8) dX7_become_10 (by decide) ?_
  refine ev_copy (n := 8) (sp := 0) (dp := 0) dX7_become_12 br_7_19 rfl ht2 ht rfl rfl rfl (by decide) (by decide) (by decide) (by decide) ?_
  refine ev_st dX7_become_15 rfl rfl ?_
  refine ev_st dX7_become_16 rfl rfl ?_
  refine ev_getI (v := I p2 1) dX7_become_17 fr_7_25 hp2 rfl (by simp only [ti_wr_n hpp, va_up_n htp]) ?_
  refine ev_putI dX7_become_20 fr_7_25 hp rfl ?_
  refine ev_st dX7_become_23 rfl rfl ?_
  refine ev_st dX7_become_24 rfl rfl ?_
  refine ev_getI (v := I p2 2) dX7_become_25 fr_7_15 hp2 rfl (by simp only [ti_wr_n hpp, va_up_n htp]) ?_
  refine ev_putI dX7_become_28 fr_7_15 hp rfl ?_
  refine ev_st dX7_become_31 rfl rfl ?_
  refine ev_st dX7_become_32 rfl rfl ?_
  refine ev_getI (v := I p2 3) dX7_become_33 fr_7_28 hp2 rfl (by simp only [ti_wr_n hpp, va_up_n htp]) ?_
  refine ev_putI dX7_become_36 fr_7_28 hp rfl ?_
  refine ev_st dX7_become_39 rfl rfl ?_
  refine ev_st dX7_become_40 rfl rfl ?_
  refine ev_getI (v := I p2 4) dX7_become_41 fr_7_31 hp2 rfl (by simp only [ti_wr_n hpp, va_up_n htp]) ?_
  refine ev_putI dX7_become_44 fr_7_31 hp rfl ?_
  refine ev_st dX7_become_47 rfl rfl ?_
  refine ev_st dX7_become_48 rfl rfl ?_
  refine ev_getI (v := I p2 5) dX7_become_49 fr_7_34 hp2 rfl (by simp only [ti_wr_n hpp, va_up_n htp]) ?_
  refine ev_putI dX7_become_52 fr_7_34 hp rfl ?_
  refine ev_st dX7_become_55 rfl rfl ?_
  refine ev_st dX7_become_56 rfl rfl ?_
  refine ev_getI (v := I p2 6) dX7_become_57 fr_7_37 hp2 rfl (by simp only [ti_wr_n hpp, va_up_n htp]) ?_
  refine ev_putZ dX7_become_60 fr_7_37 hp rfl h6 ?_
  refine ev_st dX7_become_63 rfl rfl ?_
  refine ev_st dX7_become_64 rfl rfl ?_
  refine ev_getI (v := I p2 7) dX7_become_65 fr_7_41 hp2 rfl (by simp only [ti_wr_n hpp, va_up_n htp]) ?_
  refine ev_putI dX7_become_68 fr_7_41 hp rfl ?_
  exact ev_vret dX7_become_71 rfl (⟨rfl, rfl⟩)
theorem st_o : ∀ x, x < 17 → lyC[39 + 2 * x]? = some (.inl (7, [(1, 39 + 2 * x + 1), (0, 0), (0, 0), (0, 0), (0, 0), (0, 0), (0, 0), (0, 0)])) := fun x hx => match x, hx with
  | 0, _ => rfl
  | 1, _ => rfl
  | 2, _ => rfl
  | 3, _ => rfl
  | 4, _ => rfl
  | 5, _ => rfl
  | 6, _ => rfl
  | 7, _ => rfl
  | 8, _ => rfl
  | 9, _ => rfl
  | 10, _ => rfl
  | 11, _ => rfl
  | 12, _ => rfl
  | 13, _ => rfl
  | 14, _ => rfl
  | 15, _ => rfl
  | 16, _ => rfl
  | n + 17, h => absurd h (by omega)
theorem st_t : ∀ x, x < 17 → lyC[39 + 2 * x + 1]? = some (.inr (.inl (0, 8))) := fun x hx => match x, hx with
  | 0, _ => rfl
  | 1, _ => rfl
  | 2, _ => rfl
  | 3, _ => rfl
  | 4, _ => rfl
  | 5, _ => rfl
  | 6, _ => rfl
  | 7, _ => rfl
  | 8, _ => rfl
  | 9, _ => rfl
  | 10, _ => rfl
  | 11, _ => rfl
  | 12, _ => rfl
  | 13, _ => rfl
  | 14, _ => rfl
  | 15, _ => rfl
  | 16, _ => rfl
  | n + 17, h => absurd h (by omega)
theorem ring_at : ∀ x, x < 12 → ([45, 47, 49, 51, 53, 55, 57, 59, 61, 63, 65, 67] : List Nat)[x]? = some (39 + 2 * (x + 3)) := by decide
theorem kept_at : ∀ x, x < 2 → ([69, 71] : List Nat)[x]? = some (39 + 2 * (x + 15)) := by decide
theorem ck_st : ∀ x, x < 17 → ∀ y, y < 17 → ti_ck lyC true 0 7 2 2 [.ref (39 + 2 * y), .ref (39 + 2 * x)] = true := by decide
theorem min12 : ∀ u, u ≤ 12 → (if (12 : Int32) < nI (u + 1) then 12 else nI (u + 1)) = nI (m_u1 u) := by decide
/-- state x becomes state y -/
theorem k_becomeXY {I : Nat → Nat → Int32} {J : Nat → Nat → Int64} {R : Nat → Nat → Value} {d x y : Nat} (hx : x < 17) (hy : y < 17) (hxy : x ≠ y) (h6 : I (39 + 2 * y) 6 = 0 ∨ I (39 + 2 * y) 6 = 1) : Cal lyC (d + 1) hX7_become 2 [.ref (39 + 2 * x), .ref (39 + 2 * y)] (I, J, R) (fun r M' => r = none ∧ M' = (k_bm I (39 + 2 * x) (39 + 2 * x + 1) (39 + 2 * y) (39 + 2 * y + 1), J, R)) :=
  k_become (st_o x hx) (st_t x hx) (st_o y hy) (st_t y hy) (by omega) (by omega) h6
def k_mk (I : Nat → Nat → Int32) : Nat → Nat → Int32 := k_bm I 43 44 39 40
def k_se (I : Nat → Nat → Int32) (x u : Nat) : Nat → Nat → Int32 := ti_wr (ti_wr (k_bm I (39 + 2 * (x + 3)) (39 + 2 * (x + 3) + 1) 43 44) 15 4 (nI ((x + 1) % 12))) 15 5 (nI (m_u1 u))
theorem k_mark {I : Nat → Nat → Int32} {J : Nat → Nat → Int64} {R : Nat → Nat → Value} {d : Nat} (h6 : I 39 6 = 0 ∨ I 39 6 = 1) : Cal lyC (d + 2) hX2_mark 2 [.ref 15, .ref 39] (I, J, R) (fun r M' => r = none ∧ M' = (k_mk I, J, R)) := by
  show Ev lyC (d + 2) hX2_mark 0 [some (.ref 15), some (.ref 39)] [] (I, J, R) _
  refine ev_st dX2_mark_0 rfl rfl ?_
  refine ev_getC dX2_mark_1 fr_2_21 rfl rfl ?_
  refine ev_st dX2_mark_4 rfl rfl ?_
  refine ev_call dX2_mark_5 rfl rfl mr_2_32 rfl rfl rfl (k_becomeXY (I := I) (x := 2) (y := 0) (by omega) (by omega) (by omega) h6) ?_
  rintro _ _ ⟨rfl, rfl⟩
  show Ev lyC (d + 2) hX2_mark 8 [some (.ref 15), some (.ref 39)] [] (k_bm I 43 44 39 40, J, R) _
  exact ev_vret dX2_mark_8 rfl (⟨rfl, rfl⟩)
theorem k_forgetAll {I : Nat → Nat → Int32} {J : Nat → Nat → Int64} {R : Nat → Nat → Value} {d : Nat} : Cal lyC d hX2_forgetAll 1 [.ref 15] (I, J, R) (fun r M' => r = none ∧ M' = (ti_wr (ti_wr I 15 5 0) 15 3 0, J, R)) := by
  show Ev lyC d hX2_forgetAll 0 [some (.ref 15)] [] (I, J, R) _
  refine ev_st dX2_forgetAll_0 rfl rfl ?_
  refine ev_iconst (v := 0) dX2_forgetAll_1 (by decide) ?_
  refine ev_putI dX2_forgetAll_2 fr_2_25 rfl rfl ?_
  refine ev_st dX2_forgetAll_5 rfl rfl ?_
  refine ev_iconst (v := 0) dX2_forgetAll_6 (by decide) ?_
  refine ev_putI dX2_forgetAll_7 fr_2_29 rfl rfl ?_
  exact ev_vret dX2_forgetAll_10 rfl (⟨rfl, rfl⟩)
theorem k_settle_no {I : Nat → Nat → Int32} {J : Nat → Nat → Int64} {R : Nat → Nat → Value} {d : Nat} {v : Int32} (hv : v < 0) : Cal lyC (d + 2) hX2_settle 2 [.ref 15, .int v] (I, J, R) (fun r M' => r = some (.int v) ∧ M' = (I, J, R)) := by
  show Ev lyC (d + 2) hX2_settle 0 [some (.ref 15), some (.int v)] [] (I, J, R) _
  refine ev_st dX2_settle_0 rfl rfl ?_
  refine ev_if_lt (t := 48) (x := v) dX2_settle_1 (by decide) (fun c_1 => ?_) (fun c_1 => ?_)
  · refine ev_st dX2_settle_48 rfl rfl ?_
    exact ev_iret dX2_settle_49 rfl (⟨rfl, rfl⟩)
  · exact absurd hv c_1
set_option maxHeartbeats 1000000 in
theorem k_settle {I : Nat → Nat → Int32} {J : Nat → Nat → Int64} {R : Nat → Nat → Value} {d x u : Nat} {v : Int32} (hv : ¬ v < 0) (hx : I 15 4 = nI x) (hx12 : x < 12) (hu : I 15 5 = nI u) (hu12 : u ≤ 12) (h6 : I 43 6 = 0 ∨ I 43 6 = 1) : Cal lyC (d + 2) hX2_settle 2 [.ref 15, .int v] (I, J, R) (fun r M' => r = some (.int v) ∧ M' = (k_se I x u, J, R)) := by
  show Ev lyC (d + 2) hX2_settle 0 [some (.ref 15), some (.int v)] [] (I, J, R) _
  refine ev_st dX2_settle_0 rfl rfl ?_
  refine ev_if_lt (t := 48) (x := v) dX2_settle_1 (by decide) (fun c_1 => ?_) (fun c_1 => ?_)
  · exact absurd c_1 hv
  · refine ev_st dX2_settle_4 rfl rfl ?_
    refine ev_getC dX2_settle_5 fr_2_13 rfl rfl ?_
    refine ev_st dX2_settle_8 rfl rfl ?_
    refine ev_getI (v := nI x) dX2_settle_9 fr_2_36 rfl rfl hx ?_
    refine ev_aald (j := x) (q := 39 + 2 * (x + 3)) dX2_settle_12 rfl rfl (by omega) (ring_at x (by omega)) ?_
    refine ev_st dX2_settle_13 rfl rfl ?_
    refine ev_getC dX2_settle_14 fr_2_21 rfl rfl ?_
    refine ev_call dX2_settle_17 rfl rfl mr_2_32 (ck_st (x + 3) (show x + 3 < 17 by omega) 2 (by decide)) rfl rfl (k_becomeXY (I := I) (x := x + 3) (y := 2) (by omega) (by omega) (by omega) h6) ?_
    rintro _ _ ⟨rfl, rfl⟩
    show Ev lyC (d + 2) hX2_settle 20 [some (.ref 15), some (.int v)] [] (k_bm I (39 + 2 * (x + 3)) (39 + 2 * (x + 3) + 1) 43 44, J, R) _
    refine ev_st dX2_settle_20 rfl rfl ?_
    refine ev_st dX2_settle_21 rfl rfl ?_
    refine ev_getI (v := nI x) dX2_settle_22 fr_2_36 rfl rfl (by rw [k_bm_n (by omega) (by omega)]; exact hx) ?_
    refine ev_iconst (v := 1) dX2_settle_25 (by decide) ?_
    refine ev_iaddN (a := x) (b := 1) (c := x + 1) dX2_settle_26 rfl rfl rfl ?_
    refine ev_bipush (v := 12) dX2_settle_27 (by decide) ?_
    refine ev_rem dX2_settle_29 (by decide) ?_
    rw [show nI (x + 1) - nI (x + 1) / 12 * 12 = nI ((x + 1) % 12) from pk_rem (d := 12) (by omega) (by decide) (by decide)]
    refine ev_putI dX2_settle_30 fr_2_36 rfl rfl ?_
    refine ev_st dX2_settle_33 rfl rfl ?_
    refine ev_st dX2_settle_34 rfl rfl ?_
    refine ev_getI (v := nI u) dX2_settle_35 fr_2_25 rfl rfl (by show ti_wr (k_bm I _ _ _ _) 15 4 _ 15 5 = _; simp only [ti_wr, va_up, upd]; simp; rw [k_bm_n (by omega) (by omega)]; exact hu) ?_
    refine ev_iconst (v := 1) dX2_settle_38 (by decide) ?_
    refine ev_iaddN (a := u) (b := 1) (c := u + 1) dX2_settle_39 rfl rfl rfl ?_
    refine ev_bipush (v := 12) dX2_settle_40 (by decide) ?_
    refine ev_min (v := nI (m_u1 u)) dX2_settle_42 br_2_39 rfl (min12 u hu12) ?_
    refine ev_putI dX2_settle_45 fr_2_25 rfl rfl ?_
    refine ev_st dX2_settle_48 rfl rfl ?_
    exact ev_iret dX2_settle_49 rfl (⟨rfl, rfl⟩)
