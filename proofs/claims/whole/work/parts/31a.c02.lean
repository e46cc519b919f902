/-! the class: states and what is done to them -/
theorem sC.up {I I2 : Nat → Nat → Int32} (h : sC I I2) (p : Nat) (r : Nat → Int32) : sC (va_up I p r) (va_up I2 p r) := by
  intro x a b c d
  by_cases hx : x = p
  · subst hx; rw [va_up_q, va_up_q]
  · rw [va_up_n hx, va_up_n hx]; exact h x a b c d
theorem sC.wr {I I2 : Nat → Nat → Int32} (h : sC I I2) (p : Nat) (hp : (p != 33 && (p != 34 && (p != 37 && p != 38))) = true) (k : Nat) (v : Int32) : sC (ti_wr I p k v) (ti_wr I2 p k v) := by
  unfold ti_wr
  rw [h.r p hp]
  exact h.up p _
/-- one BEARER moves on -/
def k_m1 (cy : Int32) (t : Nat → Int32) (mo : Int32) (b : Nat) : Int32 := k_wi (t b + (if k_b cy (nI b) = 0 then -2 else mo)) 0 99
def k_mp (cy : Int32) (t : Nat → Int32) (mo : Int32) (b : Nat) : Nat → Int32 := fun j => if j < b then k_m1 cy t mo j else t j
theorem k_mp_0 {cy : Int32} {t : Nat → Int32} {mo : Int32} : k_mp cy t mo 0 = t := by funext j; simp [k_mp]
theorem k_mp_s {cy : Int32} {t : Nat → Int32} {mo : Int32} {b : Nat} : upd (k_mp cy t mo b) b (k_m1 cy t mo b) = k_mp cy t mo (b + 1) := by
  funext j
  by_cases h : j = b
  · subst h; simp [upd, k_mp]
  · by_cases h2 : j < b
    · simp [upd, k_mp, h, h2, Nat.lt_succ_of_lt h2]
    · have : ¬ j < b + 1 := by omega
      simp [upd, k_mp, h, h2, this]
theorem k_mp_hi {cy : Int32} {t : Nat → Int32} {mo : Int32} {b j : Nat} (h : b ≤ j) : k_mp cy t mo b j = t j := by simp [k_mp, Nat.not_lt.mpr h]
/-- a state that has moved on -/
def k_mv (I : Nat → Nat → Int32) (q n : Nat) (mo : Int32) : Nat → Nat → Int32 := ti_wr (ti_wr (va_up I (q + 1) (k_mp (I q 3) (I (q + 1)) mo n)) q 1 (I q 1 + 1)) q 6 0
def k_ad (I : Nat → Nat → Int32) (q n : Nat) (sg : Int32) : Nat → Nat → Int32 := k_mv (ti_wr I q 7 (I q 7 + sg)) q n (1 + 2 * sg)
theorem sC.mv {I I2 : Nat → Nat → Int32} (h : sC I I2) {q : Nat} (hq : (q != 33 && (q != 34 && (q != 37 && q != 38))) = true) (hq1 : (q + 1 != 33 && (q + 1 != 34 && (q + 1 != 37 && q + 1 != 38))) = true) (n : Nat) (mo : Int32) : sC (k_mv I q n mo) (k_mv I2 q n mo) := by
  unfold k_mv
  rw [h.r q hq, h.r (q + 1) hq1]
  exact ((h.up (q + 1) _).wr q hq 1 _).wr q hq 6 _
def k_tr (I : Nat → Nat → Int32) (s : Nat) : Int32 := if k_b (I 11 3) (nI s) = 0 then 0 else 1
def k_la (I : Nat → Nat → Int32) (l : Int32) (s : Nat) : Int32 := k_wi (if k_tr I s = 0 then l + I 12 s else l - I 12 s) 0 999
def k_hi (I : Nat → Nat → Int32) (q c a s : Nat) : Int32 := if ¬ k_b (I q 5) (nI s) = 0 then -2 else if k_b (I 14 s) (I q 4) = 0 then -3 else if ¬ I q 6 = 0 then -4 else if a < c then 0 else -5
def k_sp (I : Nat → Nat → Int32) (q s : Nat) : Nat → Nat → Int32 := ti_wr (ti_wr (ti_wr I q 2 (k_la I (I q 2) s)) q 5 (I q 5 ||| (1 <<< (nI s &&& 31)))) q 6 1
theorem k_isTrue {I : Nat → Nat → Int32} {J : Nat → Nat → Int64} {R : Nat → Nat → Value} {d s : Nat} : Cal lyC d hX6_isTrue 2 [.ref 11, .int (nI s)] (I, J, R) (fun r M' => r = some (.int (k_tr I s)) ∧ M' = (I, J, R)) := by
  show Ev lyC d hX6_isTrue 0 [some (.ref 11), some (.int (nI s))] [] (I, J, R) _
  refine ev_st dX6_isTrue_0 rfl rfl ?_
  refine ev_getI (v := I 11 3) dX6_isTrue_1 fr_6_25 rfl rfl rfl ?_
  refine ev_st dX6_isTrue_4 rfl rfl ?_
  refine ev_st dX6_isTrue_5 rfl rfl ?_
  refine ev_iconst (v := 1) dX6_isTrue_6 (by decide) ?_
  refine ev_st dX6_isTrue_7 rfl rfl ?_
  refine ev_if_eq (t := 15) (x := ((I 11 3) >>> ((nI s) &&& 31)) &&& 1) dX6_isTrue_8 (by decide) (fun c_8 => ?_) (fun c_8 => ?_)
  · refine ev_iconst (v := 0) dX6_isTrue_15 (by decide) ?_
    exact ev_zret dX6_isTrue_16 rfl (by decide) (⟨by simp [k_tr, k_b, c_8], rfl⟩)
  · refine ev_iconst (v := 1) dX6_isTrue_11 (by decide) ?_
    refine ev_goto (t := 16) dX6_isTrue_12 (by decide) ?_
    exact ev_zret dX6_isTrue_16 rfl (by decide) (⟨by simp [k_tr, k_b, c_8], rfl⟩)
theorem k_loadAfter {I : Nat → Nat → Int32} {J : Nat → Nat → Int64} {R : Nat → Nat → Value} {d s : Nat} (hs8 : s < 8) (l : Int32) : Cal lyC (d + 1) hX6_loadAfter 3 [.ref 11, .int l, .int (nI s)] (I, J, R) (fun r M' => r = some (.int (k_la I l s)) ∧ M' = (I, J, R)) := by
  show Ev lyC (d + 1) hX6_loadAfter 0 [some (.ref 11), some (.int l), some (.int (nI s))] [] (I, J, R) _
  refine ev_st dX6_loadAfter_0 rfl rfl ?_
  refine ev_st dX6_loadAfter_1 rfl rfl ?_
  refine ev_call dX6_loadAfter_2 rfl rfl mr_6_32 rfl rfl rfl (k_isTrue) ?_
  rintro _ _ ⟨rfl, rfl⟩
  show Ev lyC (d + 1) hX6_loadAfter 5 [some (.ref 11), some (.int l), some (.int (nI s))] [.int (k_tr I s)] (I, J, R) _
  refine ev_if_eq (t := 19) (x := k_tr I s) dX6_loadAfter_5 (by decide) (fun c_5 => ?_) (fun c_5 => ?_)
  · refine ev_st dX6_loadAfter_19 rfl rfl ?_
    refine ev_st dX6_loadAfter_20 rfl rfl ?_
    refine ev_getC dX6_loadAfter_21 fr_6_9 rfl rfl ?_
    refine ev_st dX6_loadAfter_24 rfl rfl ?_
    refine ev_iald (j := s) (v := I 12 s) dX6_loadAfter_25 rfl rfl (by omega) (by decide) rfl ?_
    refine ev_st dX6_loadAfter_26 rfl rfl ?_
    refine ev_iconst (v := 0) dX6_loadAfter_27 (by decide) ?_
    refine ev_sipush (v := 999) dX6_loadAfter_28 (by decide) ?_
    refine ev_call dX6_loadAfter_31 rfl rfl mr_6_36 rfl rfl rfl (k_within (l + (I 12 s)) 0 999) ?_
    rintro _ _ ⟨rfl, rfl⟩
    show Ev lyC (d + 1) hX6_loadAfter 34 [some (.ref 11), some (.int l), some (.int (nI s))] [.int (k_wi (l + (I 12 s)) 0 999)] (I, J, R) _
    exact ev_iret dX6_loadAfter_34 rfl (⟨by simp [k_la, c_5], rfl⟩)
  · refine ev_st dX6_loadAfter_8 rfl rfl ?_
    refine ev_st dX6_loadAfter_9 rfl rfl ?_
    refine ev_getC dX6_loadAfter_10 fr_6_9 rfl rfl ?_
    refine ev_st dX6_loadAfter_13 rfl rfl ?_
    refine ev_iald (j := s) (v := I 12 s) dX6_loadAfter_14 rfl rfl (by omega) (by decide) rfl ?_
    refine ev_st dX6_loadAfter_15 rfl rfl ?_
    refine ev_goto (t := 27) dX6_loadAfter_16 (by decide) ?_
    refine ev_iconst (v := 0) dX6_loadAfter_27 (by decide) ?_
    refine ev_sipush (v := 999) dX6_loadAfter_28 (by decide) ?_
    refine ev_call dX6_loadAfter_31 rfl rfl mr_6_36 rfl rfl rfl (k_within (l - (I 12 s)) 0 999) ?_
    rintro _ _ ⟨rfl, rfl⟩
    show Ev lyC (d + 1) hX6_loadAfter 34 [some (.ref 11), some (.int l), some (.int (nI s))] [.int (k_wi (l - (I 12 s)) 0 999)] (I, J, R) _
    exact ev_iret dX6_loadAfter_34 rfl (⟨by simp [k_la, c_5], rfl⟩)
theorem k_takeHold_39_none {I : Nat → Nat → Int32} {J : Nat → Nat → Int64} {R : Nat → Nat → Value} {d n : Nat} (hn : I 8 3 = nI n) {x : Int32} (hx : ix n x = none) : Cal lyC (d + 1) hX7_takeHold 3 [.ref 39, .ref 8, .int x] (I, J, R) (fun r M' => r = some (.int (-1)) ∧ M' = (I, J, R)) := by
  show Ev lyC (d + 1) hX7_takeHold 0 [some (.ref 39), some (.ref 8), some (.int x)] [] (I, J, R) _
  refine ev_st dX7_takeHold_0 rfl rfl ?_
  refine ev_st dX7_takeHold_1 rfl rfl ?_
  refine ev_call dX7_takeHold_2 rfl rfl mr_7_70 rfl rfl rfl ((by have K := k_X0_has (J := J) (R := R) (d := d) hn x; simp only [hx, Option.isSome] at K; exact K)) ?_
  rintro _ _ ⟨rfl, rfl⟩
  show Ev lyC (d + 1) hX7_takeHold 5 [some (.ref 39), some (.ref 8), some (.int x)] [.int 0] (I, J, R) _
  refine ev_if_ne (t := 10) dX7_takeHold_5 (by decide) (fun q => absurd q (by decide)) (fun _ => ?_)
  refine ev_iconst (v := -1) dX7_takeHold_8 (by decide) ?_
  exact ev_iret dX7_takeHold_9 rfl (⟨rfl, rfl⟩)
set_option maxHeartbeats 4000000 in
theorem k_takeHold_39 {I : Nat → Nat → Int32} {J : Nat → Nat → Int64} {R : Nat → Nat → Value} {d n j : Nat} (hn : I 8 3 = nI n) (hx : ix n (nI j) = some j) : Cal lyC (d + 1) hX7_takeHold 3 [.ref 39, .ref 8, .int (nI j)] (I, J, R) (fun r M' => if ¬ k_b (I 39 3) (nI j) = 0 then r = some (.int (-2)) ∧ M' = (I, J, R) else if bc (I 39 3) < 6 then r = some (.int (bc (I 39 3 ||| (1 <<< (nI j &&& 31))))) ∧ M' = (ti_wr I 39 3 (I 39 3 ||| (1 <<< (nI j &&& 31))), J, R) else r = some (.int (-3)) ∧ M' = (I, J, R)) := by
  show Ev lyC (d + 1) hX7_takeHold 0 [some (.ref 39), some (.ref 8), some (.int (nI j))] [] (I, J, R) _
  refine ev_st dX7_takeHold_0 rfl rfl ?_
  refine ev_st dX7_takeHold_1 rfl rfl ?_
  refine ev_call dX7_takeHold_2 rfl rfl mr_7_70 rfl rfl rfl ((by have K := k_X0_has (J := J) (R := R) (d := d) hn (nI j); simp only [hx, Option.isSome] at K; exact K)) ?_
  rintro _ _ ⟨rfl, rfl⟩
  show Ev lyC (d + 1) hX7_takeHold 5 [some (.ref 39), some (.ref 8), some (.int (nI j))] [.int 1] (I, J, R) _
  refine ev_if_ne (t := 10) dX7_takeHold_5 (by decide) (fun _ => ?_) (fun q => absurd q (by decide))
  refine ev_st dX7_takeHold_10 rfl rfl ?_
  refine ev_getI (v := I 39 3) dX7_takeHold_11 fr_7_28 rfl rfl rfl ?_
  refine ev_st dX7_takeHold_14 rfl rfl ?_
  refine ev_st dX7_takeHold_15 rfl rfl ?_
  refine ev_iconst (v := 1) dX7_takeHold_16 (by decide) ?_
  refine ev_st dX7_takeHold_17 rfl rfl ?_
  refine ev_if_eq (t := 24) (x := ((I 39 3) >>> ((nI j) &&& 31)) &&& 1) dX7_takeHold_18 (by decide) (fun c_18 => ?_) (fun c_18 => ?_)
  · refine ev_st dX7_takeHold_24 rfl rfl ?_
    refine ev_getI (v := I 39 3) dX7_takeHold_25 fr_7_28 rfl rfl rfl ?_
    refine ev_call dX7_takeHold_28 rfl rfl mr_7_74 rfl rfl rfl (c_bc (I 39 3)) ?_
    rintro _ _ ⟨rfl, rfl⟩
    show Ev lyC (d + 1) hX7_takeHold 31 [some (.ref 39), some (.ref 8), some (.int (nI j))] [.int (bc (I 39 3))] (I, J, R) _
    refine ev_bipush (v := 6) dX7_takeHold_31 (by decide) ?_
    refine ev_ic_lt (t := 39) (x := bc (I 39 3)) (y := 6) dX7_takeHold_33 (by decide) (fun c_33 => ?_) (fun c_33 => ?_)
    · refine ev_st dX7_takeHold_39 rfl rfl ?_
      refine ev_st dX7_takeHold_40 rfl rfl ?_
      refine ev_getI (v := I 39 3) dX7_takeHold_41 fr_7_28 rfl rfl rfl ?_
      refine ev_iconst (v := 1) dX7_takeHold_44 (by decide) ?_
      refine ev_st dX7_takeHold_45 rfl rfl ?_
      refine ev_st dX7_takeHold_46 rfl rfl ?_
      refine ev_st dX7_takeHold_47 rfl rfl ?_
      refine ev_putI dX7_takeHold_48 fr_7_28 rfl rfl ?_
      refine ev_st dX7_takeHold_51 rfl rfl ?_
      refine ev_getI (v := (I 39 3) ||| (1 <<< ((nI j) &&& 31))) dX7_takeHold_52 fr_7_28 rfl rfl rfl ?_
      refine ev_call dX7_takeHold_55 rfl rfl mr_7_74 rfl rfl rfl (c_bc ((I 39 3) ||| (1 <<< ((nI j) &&& 31)))) ?_
      rintro _ _ ⟨rfl, rfl⟩
      show Ev lyC (d + 1) hX7_takeHold 58 [some (.ref 39), some (.ref 8), some (.int (nI j))] [.int (bc ((I 39 3) ||| (1 <<< ((nI j) &&& 31))))] (ti_wr I 39 3 ((I 39 3) ||| (1 <<< ((nI j) &&& 31))), J, R) _
      exact ev_iret dX7_takeHold_58 rfl (by rw [if_neg (show ¬ ¬ k_b (I 39 3) (nI j) = 0 from fun h => h c_18), if_pos c_33]; exact ⟨rfl, rfl⟩)
    · refine ev_bipush (v := -3) dX7_takeHold_36 (by decide) ?_
      exact ev_iret dX7_takeHold_38 rfl (by rw [if_neg (show ¬ ¬ k_b (I 39 3) (nI j) = 0 from fun h => h c_18), if_neg c_33]; exact ⟨rfl, rfl⟩)
  · refine ev_bipush (v := -2) dX7_takeHold_21 (by decide) ?_
    exact ev_iret dX7_takeHold_23 rfl (by rw [if_pos (show ¬ k_b (I 39 3) (nI j) = 0 from c_18)]; exact ⟨rfl, rfl⟩)
theorem k_letGo_39_none {I : Nat → Nat → Int32} {J : Nat → Nat → Int64} {R : Nat → Nat → Value} {d n : Nat} (hn : I 8 3 = nI n) {x : Int32} (hx : ix n x = none) : Cal lyC (d + 1) hX7_letGo 3 [.ref 39, .ref 8, .int x] (I, J, R) (fun r M' => r = some (.int (-1)) ∧ M' = (I, J, R)) := by
  show Ev lyC (d + 1) hX7_letGo 0 [some (.ref 39), some (.ref 8), some (.int x)] [] (I, J, R) _
  refine ev_st dX7_letGo_0 rfl rfl ?_
  refine ev_st dX7_letGo_1 rfl rfl ?_
  refine ev_call dX7_letGo_2 rfl rfl mr_7_70 rfl rfl rfl ((by have K := k_X0_has (J := J) (R := R) (d := d) hn x; simp only [hx, Option.isSome] at K; exact K)) ?_
  rintro _ _ ⟨rfl, rfl⟩
  show Ev lyC (d + 1) hX7_letGo 5 [some (.ref 39), some (.ref 8), some (.int x)] [.int 0] (I, J, R) _
  refine ev_if_ne (t := 10) dX7_letGo_5 (by decide) (fun q => absurd q (by decide)) (fun _ => ?_)
  refine ev_iconst (v := -1) dX7_letGo_8 (by decide) ?_
  exact ev_iret dX7_letGo_9 rfl (⟨rfl, rfl⟩)
set_option maxHeartbeats 4000000 in
theorem k_letGo_39 {I : Nat → Nat → Int32} {J : Nat → Nat → Int64} {R : Nat → Nat → Value} {d n j : Nat} (hn : I 8 3 = nI n) (hx : ix n (nI j) = some j) : Cal lyC (d + 1) hX7_letGo 3 [.ref 39, .ref 8, .int (nI j)] (I, J, R) (fun r M' => if k_b (I 39 3) (nI j) = 0 then r = some (.int (-2)) ∧ M' = (I, J, R) else r = some (.int (bc (I 39 3 &&& ((1 <<< (nI j &&& 31)) ^^^ (-1))))) ∧ M' = (ti_wr I 39 3 (I 39 3 &&& ((1 <<< (nI j &&& 31)) ^^^ (-1))), J, R)) := by
  show Ev lyC (d + 1) hX7_letGo 0 [some (.ref 39), some (.ref 8), some (.int (nI j))] [] (I, J, R) _
  refine ev_st dX7_letGo_0 rfl rfl ?_
  refine ev_st dX7_letGo_1 rfl rfl ?_
  refine ev_call dX7_letGo_2 rfl rfl mr_7_70 rfl rfl rfl ((by have K := k_X0_has (J := J) (R := R) (d := d) hn (nI j); simp only [hx, Option.isSome] at K; exact K)) ?_
  rintro _ _ ⟨rfl, rfl⟩
  show Ev lyC (d + 1) hX7_letGo 5 [some (.ref 39), some (.ref 8), some (.int (nI j))] [.int 1] (I, J, R) _
  refine ev_if_ne (t := 10) dX7_letGo_5 (by decide) (fun _ => ?_) (fun q => absurd q (by decide))
  refine ev_st dX7_letGo_10 rfl rfl ?_
  refine ev_getI (v := I 39 3) dX7_letGo_11 fr_7_28 rfl rfl rfl ?_
  refine ev_st dX7_letGo_14 rfl rfl ?_
  refine ev_st dX7_letGo_15 rfl rfl ?_
  refine ev_iconst (v := 1) dX7_letGo_16 (by decide) ?_
  refine ev_st dX7_letGo_17 rfl rfl ?_
  refine ev_if_ne (t := 24) (x := ((I 39 3) >>> ((nI j) &&& 31)) &&& 1) dX7_letGo_18 (by decide) (fun c_18 => ?_) (fun c_18 => ?_)
  · refine ev_st dX7_letGo_24 rfl rfl ?_
    refine ev_st dX7_letGo_25 rfl rfl ?_
    refine ev_getI (v := I 39 3) dX7_letGo_26 fr_7_28 rfl rfl rfl ?_
    refine ev_iconst (v := 1) dX7_letGo_29 (by decide) ?_
    refine ev_st dX7_letGo_30 rfl rfl ?_
    refine ev_st dX7_letGo_31 rfl rfl ?_
    refine ev_iconst (v := -1) dX7_letGo_32 (by decide) ?_
    refine ev_st dX7_letGo_33 rfl rfl ?_
    refine ev_st dX7_letGo_34 rfl rfl ?_
    refine ev_putI dX7_letGo_35 fr_7_28 rfl rfl ?_
    refine ev_st dX7_letGo_38 rfl rfl ?_
    refine ev_getI (v := (I 39 3) &&& ((1 <<< ((nI j) &&& 31)) ^^^ ((-1)))) dX7_letGo_39 fr_7_28 rfl rfl rfl ?_
    refine ev_call dX7_letGo_42 rfl rfl mr_7_74 rfl rfl rfl (c_bc ((I 39 3) &&& ((1 <<< ((nI j) &&& 31)) ^^^ ((-1))))) ?_
    rintro _ _ ⟨rfl, rfl⟩
    show Ev lyC (d + 1) hX7_letGo 45 [some (.ref 39), some (.ref 8), some (.int (nI j))] [.int (bc ((I 39 3) &&& ((1 <<< ((nI j) &&& 31)) ^^^ ((-1)))))] (ti_wr I 39 3 ((I 39 3) &&& ((1 <<< ((nI j) &&& 31)) ^^^ ((-1)))), J, R) _
    exact ev_iret dX7_letGo_45 rfl (by rw [if_neg (show ¬ k_b (I 39 3) (nI j) = 0 from c_18)]; exact ⟨rfl, rfl⟩)
  · refine ev_bipush (v := -2) dX7_letGo_21 (by decide) ?_
    exact ev_iret dX7_letGo_23 rfl (by rw [if_pos (show k_b (I 39 3) (nI j) = 0 from c_18)]; exact ⟨rfl, rfl⟩)
theorem k_follow_39 {I : Nat → Nat → Int32} {J : Nat → Nat → Int64} {R : Nat → Nat → Value} {d : Nat} (x : Int32) : Cal lyC d hX7_follow 3 [.ref 39, .int x] (I, J, R) (fun r M' => r = some (.int (if x < 0 then -1 else if x < 4 then (if x = I 39 4 then -2 else I 39 4) else -1)) ∧ M' = (if x < 0 then I else if x < 4 then (if x = I 39 4 then I else ti_wr I 39 4 x) else I, J, R)) := by
  show Ev lyC d hX7_follow 0 [some (.ref 39), some (.int x), none] [] (I, J, R) _
  refine ev_st dX7_follow_0 rfl rfl ?_
  refine ev_if_lt (t := 9) (x := x) dX7_follow_1 (by decide) (fun c_1 => ?_) (fun c_1 => ?_)
  · refine ev_iconst (v := -1) dX7_follow_9 (by decide) ?_
    exact ev_iret dX7_follow_10 rfl (⟨by simp [c_1], by simp [c_1]⟩)
  · refine ev_st dX7_follow_4 rfl rfl ?_
    refine ev_iconst (v := 4) dX7_follow_5 (by decide) ?_
    refine ev_ic_lt (t := 11) (x := x) (y := 4) dX7_follow_6 (by decide) (fun c_6 => ?_) (fun c_6 => ?_)
    · refine ev_st dX7_follow_11 rfl rfl ?_
      refine ev_st dX7_follow_12 rfl rfl ?_
      refine ev_getI (v := I 39 4) dX7_follow_13 fr_7_31 rfl rfl rfl ?_
      refine ev_ic_ne (t := 22) (x := x) (y := I 39 4) dX7_follow_16 (by decide) (fun c_16 => ?_) (fun c_16 => ?_)
      · refine ev_st dX7_follow_22 rfl rfl ?_
        refine ev_getI (v := I 39 4) dX7_follow_23 fr_7_31 rfl rfl rfl ?_
        refine ev_st (L' := [some (.ref 39), some (.int x), some (.int (I 39 4))]) dX7_follow_26 rfl rfl ?_
        refine ev_st dX7_follow_27 rfl rfl ?_
        refine ev_st dX7_follow_28 rfl rfl ?_
        refine ev_putI dX7_follow_29 fr_7_31 rfl rfl ?_
        refine ev_st dX7_follow_32 rfl rfl ?_
        exact ev_iret dX7_follow_33 rfl (⟨by simp [c_1, c_6, c_16], by simp [c_1, c_6, c_16]⟩)
      · refine ev_bipush (v := -2) dX7_follow_19 (by decide) ?_
        exact ev_iret dX7_follow_21 rfl (⟨by rw [if_neg c_1, if_pos c_6, if_pos c_16], by rw [if_neg c_1, if_pos c_6, if_pos c_16]⟩)
    · refine ev_iconst (v := -1) dX7_follow_9 (by decide) ?_
      exact ev_iret dX7_follow_10 rfl (⟨by simp [c_1, c_6], by simp [c_1, c_6]⟩)
theorem k_hindranceTo_39 {I : Nat → Nat → Int32} {J : Nat → Nat → Int64} {R : Nat → Nat → Value} {d c a s : Nat} (hc : I 5 2 = nI c) (hc12 : c ≤ 12) (ha : I 39 1 = nI a) (ha12 : a ≤ 12) (hs8 : s < 8) : Cal lyC d hX7_hindranceTo 4 [.ref 39, .ref 5, .ref 11, .int (nI s)] (I, J, R) (fun r M' => r = some (.int (k_hi I 39 c a s)) ∧ M' = (I, J, R)) := by
  show Ev lyC d hX7_hindranceTo 0 [some (.ref 39), some (.ref 5), some (.ref 11), some (.int (nI s))] [] (I, J, R) _
  refine ev_st dX7_hindranceTo_0 rfl rfl ?_
  refine ev_getI (v := I 39 5) dX7_hindranceTo_1 fr_7_34 rfl rfl rfl ?_
  refine ev_st dX7_hindranceTo_4 rfl rfl ?_
  refine ev_st dX7_hindranceTo_5 rfl rfl ?_
  refine ev_iconst (v := 1) dX7_hindranceTo_6 (by decide) ?_
  refine ev_st dX7_hindranceTo_7 rfl rfl ?_
  refine ev_if_eq (t := 14) (x := ((I 39 5) >>> ((nI s) &&& 31)) &&& 1) dX7_hindranceTo_8 (by decide) (fun c_8 => ?_) (fun c_8 => ?_)
  · refine ev_st dX7_hindranceTo_14 rfl rfl ?_
    refine ev_getC dX7_hindranceTo_15 fr_7_90 rfl rfl ?_
    refine ev_st dX7_hindranceTo_18 rfl rfl ?_
    refine ev_iald (j := s) (v := I 14 s) dX7_hindranceTo_19 rfl rfl (by omega) (by decide) rfl ?_
    refine ev_st dX7_hindranceTo_20 rfl rfl ?_
    refine ev_getI (v := I 39 4) dX7_hindranceTo_21 fr_7_31 rfl rfl rfl ?_
    refine ev_st dX7_hindranceTo_24 rfl rfl ?_
    refine ev_iconst (v := 1) dX7_hindranceTo_25 (by decide) ?_
    refine ev_st dX7_hindranceTo_26 rfl rfl ?_
    refine ev_if_ne (t := 33) (x := ((I 14 s) >>> ((I 39 4) &&& 31)) &&& 1) dX7_hindranceTo_27 (by decide) (fun c_27 => ?_) (fun c_27 => ?_)
    · refine ev_st dX7_hindranceTo_33 rfl rfl ?_
      refine ev_getI (v := I 39 6) dX7_hindranceTo_34 fr_7_37 rfl rfl rfl ?_
      refine ev_if_eq (t := 43) (x := I 39 6) dX7_hindranceTo_37 (by decide) (fun c_37 => ?_) (fun c_37 => ?_)
      · refine ev_st dX7_hindranceTo_43 rfl rfl ?_
        refine ev_getI (v := nI a) dX7_hindranceTo_44 fr_7_25 rfl rfl ha ?_
        refine ev_st dX7_hindranceTo_47 rfl rfl ?_
        refine ev_getI (v := nI c) dX7_hindranceTo_48 fr_7_44 rfl rfl hc ?_
        refine ev_ic_ltN (t := 59) (a := a) (b := c) dX7_hindranceTo_51 (by decide) rfl rfl (by omega) (by omega) (fun c_51 => ?_) (fun c_51 => ?_)
        · refine ev_iconst (v := 0) dX7_hindranceTo_59 (by decide) ?_
          exact ev_iret dX7_hindranceTo_60 rfl (⟨by simp [k_hi, k_b, c_8, c_27, c_37, c_51], rfl⟩)
        · refine ev_bipush (v := -5) dX7_hindranceTo_54 (by decide) ?_
          refine ev_goto (t := 60) dX7_hindranceTo_56 (by decide) ?_
          exact ev_iret dX7_hindranceTo_60 rfl (⟨by simp [k_hi, k_b, c_8, c_27, c_37, Nat.not_lt.mpr c_51], rfl⟩)
      · refine ev_bipush (v := -4) dX7_hindranceTo_40 (by decide) ?_
        exact ev_iret dX7_hindranceTo_42 rfl (⟨by simp [k_hi, k_b, c_8, c_27, c_37], rfl⟩)
    · refine ev_bipush (v := -3) dX7_hindranceTo_30 (by decide) ?_
      exact ev_iret dX7_hindranceTo_32 rfl (⟨by simp [k_hi, k_b, c_8, c_27], rfl⟩)
  · refine ev_bipush (v := -2) dX7_hindranceTo_11 (by decide) ?_
    exact ev_iret dX7_hindranceTo_13 rfl (⟨by simp [k_hi, k_b, c_8], rfl⟩)
theorem k_speak_39_none {I : Nat → Nat → Int32} {J : Nat → Nat → Int64} {R : Nat → Nat → Value} {d n : Nat} (hn : I 11 4 = nI n) {x : Int32} (hx : ix n x = none) : Cal lyC (d + 3) hX7_speak 5 [.ref 39, .ref 5, .ref 11, .int x] (I, J, R) (fun r M' => r = some (.int (-1)) ∧ M' = (I, J, R)) := by
  show Ev lyC (d + 3) hX7_speak 0 [some (.ref 39), some (.ref 5), some (.ref 11), some (.int x), none] [] (I, J, R) _
  refine ev_st dX7_speak_0 rfl rfl ?_
  refine ev_st dX7_speak_1 rfl rfl ?_
  refine ev_call dX7_speak_2 rfl rfl mr_7_79 rfl rfl rfl ((by have K := k_X6_has (J := J) (R := R) (d := d + 2) hn x; simp only [hx, Option.isSome] at K; exact K)) ?_
  rintro _ _ ⟨rfl, rfl⟩
  show Ev lyC (d + 3) hX7_speak 5 [some (.ref 39), some (.ref 5), some (.ref 11), some (.int x), none] [.int 0] (I, J, R) _
  refine ev_if_ne (t := 10) dX7_speak_5 (by decide) (fun q => absurd q (by decide)) (fun _ => ?_)
  refine ev_iconst (v := -1) dX7_speak_8 (by decide) ?_
  exact ev_iret dX7_speak_9 rfl (⟨rfl, rfl⟩)
set_option maxHeartbeats 4000000 in
theorem k_speak_39 {I : Nat → Nat → Int32} {J : Nat → Nat → Int64} {R : Nat → Nat → Value} {d n c a s : Nat} (hn : I 11 4 = nI n) (hc : I 5 2 = nI c) (hc12 : c ≤ 12) (ha : I 39 1 = nI a) (ha12 : a ≤ 12) (hs8 : s < 8) (hx : ix n (nI s) = some s) : Cal lyC (d + 3) hX7_speak 5 [.ref 39, .ref 5, .ref 11, .int (nI s)] (I, J, R) (fun r M' => if k_hi I 39 c a s = 0 then r = some (.int (k_sp I 39 s 39 2)) ∧ M' = (k_sp I 39 s, J, R) else r = some (.int (k_hi I 39 c a s)) ∧ M' = (I, J, R)) := by
  show Ev lyC (d + 3) hX7_speak 0 [some (.ref 39), some (.ref 5), some (.ref 11), some (.int (nI s)), none] [] (I, J, R) _
  refine ev_st dX7_speak_0 rfl rfl ?_
  refine ev_st dX7_speak_1 rfl rfl ?_
  refine ev_call dX7_speak_2 rfl rfl mr_7_79 rfl rfl rfl ((by have K := k_X6_has (J := J) (R := R) (d := d + 2) hn (nI s); simp only [hx, Option.isSome] at K; exact K)) ?_
  rintro _ _ ⟨rfl, rfl⟩
  show Ev lyC (d + 3) hX7_speak 5 [some (.ref 39), some (.ref 5), some (.ref 11), some (.int (nI s)), none] [.int 1] (I, J, R) _
  refine ev_if_ne (t := 10) dX7_speak_5 (by decide) (fun _ => ?_) (fun q => absurd q (by decide))
  refine ev_st dX7_speak_10 rfl rfl ?_
  refine ev_st dX7_speak_11 rfl rfl ?_
  refine ev_st dX7_speak_12 rfl rfl ?_
  refine ev_st dX7_speak_13 rfl rfl ?_
  refine ev_call dX7_speak_14 rfl rfl mr_7_82 rfl rfl rfl (k_hindranceTo_39 hc hc12 ha ha12 hs8) ?_
  rintro _ _ ⟨rfl, rfl⟩
  show Ev lyC (d + 3) hX7_speak 17 [some (.ref 39), some (.ref 5), some (.ref 11), some (.int (nI s)), none] [.int (k_hi I 39 c a s)] (I, J, R) _
  refine ev_st (L' := [some (.ref 39), some (.ref 5), some (.ref 11), some (.int (nI s)), some (.int (k_hi I 39 c a s))]) dX7_speak_17 rfl rfl ?_
  refine ev_st dX7_speak_19 rfl rfl ?_
  refine ev_if_ne (t := 54) (x := k_hi I 39 c a s) dX7_speak_21 (by decide) (fun c_21 => ?_) (fun c_21 => ?_)
  · refine ev_st dX7_speak_54 rfl rfl ?_
    refine ev_if_ne (t := 66) (x := k_hi I 39 c a s) dX7_speak_56 (by decide) (fun c_56 => ?_) (fun c_56 => ?_)
    · refine ev_st dX7_speak_66 rfl rfl ?_
      exact ev_iret dX7_speak_68 rfl (by rw [if_neg c_21]; exact ⟨rfl, rfl⟩)
    · refine ev_st dX7_speak_59 rfl rfl ?_
      refine ev_getI (v := I 39 2) dX7_speak_60 fr_7_15 rfl rfl rfl ?_
      refine ev_goto (t := 68) dX7_speak_63 (by decide) ?_
      exact ev_iret dX7_speak_68 rfl (absurd c_56 c_21)
  · refine ev_st dX7_speak_24 rfl rfl ?_
    refine ev_st dX7_speak_25 rfl rfl ?_
    refine ev_st dX7_speak_26 rfl rfl ?_
    refine ev_getI (v := I 39 2) dX7_speak_27 fr_7_15 rfl rfl rfl ?_
    refine ev_st dX7_speak_30 rfl rfl ?_
    refine ev_call dX7_speak_31 rfl rfl mr_7_86 rfl rfl rfl (k_loadAfter hs8 (I 39 2)) ?_
    rintro _ _ ⟨rfl, rfl⟩
    show Ev lyC (d + 3) hX7_speak 34 [some (.ref 39), some (.ref 5), some (.ref 11), some (.int (nI s)), some (.int (k_hi I 39 c a s))] [.int (k_la I (I 39 2) s), .ref 39] (I, J, R) _
    refine ev_putI dX7_speak_34 fr_7_15 rfl rfl ?_
    refine ev_st dX7_speak_37 rfl rfl ?_
    refine ev_st dX7_speak_38 rfl rfl ?_
    refine ev_getI (v := I 39 5) dX7_speak_39 fr_7_34 rfl rfl rfl ?_
    refine ev_iconst (v := 1) dX7_speak_42 (by decide) ?_
    refine ev_st dX7_speak_43 rfl rfl ?_
    refine ev_st dX7_speak_44 rfl rfl ?_
    refine ev_st dX7_speak_45 rfl rfl ?_
    refine ev_putI dX7_speak_46 fr_7_34 rfl rfl ?_
    refine ev_st dX7_speak_49 rfl rfl ?_
    refine ev_iconst (v := 1) dX7_speak_50 (by decide) ?_
    refine ev_putZ dX7_speak_51 fr_7_37 rfl rfl (by decide) ?_
    refine ev_st dX7_speak_54 rfl rfl ?_
    refine ev_if_ne (t := 66) (x := k_hi I 39 c a s) dX7_speak_56 (by decide) (fun c_56 => ?_) (fun c_56 => ?_)
    · refine ev_st dX7_speak_66 rfl rfl ?_
      exact ev_iret dX7_speak_68 rfl (absurd c_21 c_56)
    · refine ev_st dX7_speak_59 rfl rfl ?_
      refine ev_getI (v := k_la I (I 39 2) s) dX7_speak_60 fr_7_15 rfl rfl rfl ?_
      refine ev_goto (t := 68) dX7_speak_63 (by decide) ?_
      exact ev_iret dX7_speak_68 rfl (by rw [if_pos c_21]; exact ⟨rfl, rfl⟩)
theorem k_takeHold_41_none {I : Nat → Nat → Int32} {J : Nat → Nat → Int64} {R : Nat → Nat → Value} {d n : Nat} (hn : I 8 3 = nI n) {x : Int32} (hx : ix n x = none) : Cal lyC (d + 1) hX7_takeHold 3 [.ref 41, .ref 8, .int x] (I, J, R) (fun r M' => r = some (.int (-1)) ∧ M' = (I, J, R)) := by
  show Ev lyC (d + 1) hX7_takeHold 0 [some (.ref 41), some (.ref 8), some (.int x)] [] (I, J, R) _
  refine ev_st dX7_takeHold_0 rfl rfl ?_
  refine ev_st dX7_takeHold_1 rfl rfl ?_
  refine ev_call dX7_takeHold_2 rfl rfl mr_7_70 rfl rfl rfl ((by have K := k_X0_has (J := J) (R := R) (d := d) hn x; simp only [hx, Option.isSome] at K; exact K)) ?_
  rintro _ _ ⟨rfl, rfl⟩
  show Ev lyC (d + 1) hX7_takeHold 5 [some (.ref 41), some (.ref 8), some (.int x)] [.int 0] (I, J, R) _
  refine ev_if_ne (t := 10) dX7_takeHold_5 (by decide) (fun q => absurd q (by decide)) (fun _ => ?_)
  refine ev_iconst (v := -1) dX7_takeHold_8 (by decide) ?_
  exact ev_iret dX7_takeHold_9 rfl (⟨rfl, rfl⟩)
set_option maxHeartbeats 4000000 in
theorem k_takeHold_41 {I : Nat → Nat → Int32} {J : Nat → Nat → Int64} {R : Nat → Nat → Value} {d n j : Nat} (hn : I 8 3 = nI n) (hx : ix n (nI j) = some j) : Cal lyC (d + 1) hX7_takeHold 3 [.ref 41, .ref 8, .int (nI j)] (I, J, R) (fun r M' => if ¬ k_b (I 41 3) (nI j) = 0 then r = some (.int (-2)) ∧ M' = (I, J, R) else if bc (I 41 3) < 6 then r = some (.int (bc (I 41 3 ||| (1 <<< (nI j &&& 31))))) ∧ M' = (ti_wr I 41 3 (I 41 3 ||| (1 <<< (nI j &&& 31))), J, R) else r = some (.int (-3)) ∧ M' = (I, J, R)) := by
  show Ev lyC (d + 1) hX7_takeHold 0 [some (.ref 41), some (.ref 8), some (.int (nI j))] [] (I, J, R) _
  refine ev_st dX7_takeHold_0 rfl rfl ?_
  refine ev_st dX7_takeHold_1 rfl rfl ?_
  refine ev_call dX7_takeHold_2 rfl rfl mr_7_70 rfl rfl rfl ((by have K := k_X0_has (J := J) (R := R) (d := d) hn (nI j); simp only [hx, Option.isSome] at K; exact K)) ?_
  rintro _ _ ⟨rfl, rfl⟩
  show Ev lyC (d + 1) hX7_takeHold 5 [some (.ref 41), some (.ref 8), some (.int (nI j))] [.int 1] (I, J, R) _
  refine ev_if_ne (t := 10) dX7_takeHold_5 (by decide) (fun _ => ?_) (fun q => absurd q (by decide))
  refine ev_st dX7_takeHold_10 rfl rfl ?_
  refine ev_getI (v := I 41 3) dX7_takeHold_11 fr_7_28 rfl rfl rfl ?_
  refine ev_st dX7_takeHold_14 rfl rfl ?_
  refine ev_st dX7_takeHold_15 rfl rfl ?_
  refine ev_iconst (v := 1) dX7_takeHold_16 (by decide) ?_
  refine ev_st dX7_takeHold_17 rfl rfl ?_
  refine ev_if_eq (t := 24) (x := ((I 41 3) >>> ((nI j) &&& 31)) &&& 1) dX7_takeHold_18 (by decide) (fun c_18 => ?_) (fun c_18 => ?_)
  · refine ev_st dX7_takeHold_24 rfl rfl ?_
    refine ev_getI (v := I 41 3) dX7_takeHold_25 fr_7_28 rfl rfl rfl ?_
    refine ev_call dX7_takeHold_28 rfl rfl mr_7_74 rfl rfl rfl (c_bc (I 41 3)) ?_
    rintro _ _ ⟨rfl, rfl⟩
    show Ev lyC (d + 1) hX7_takeHold 31 [some (.ref 41), some (.ref 8), some (.int (nI j))] [.int (bc (I 41 3))] (I, J, R) _
    refine ev_bipush (v := 6) dX7_takeHold_31 (by decide) ?_
    refine ev_ic_lt (t := 39) (x := bc (I 41 3)) (y := 6) dX7_takeHold_33 (by decide) (fun c_33 => ?_) (fun c_33 => ?_)
    · refine ev_st dX7_takeHold_39 rfl rfl ?_
      refine ev_st dX7_takeHold_40 rfl rfl ?_
      refine ev_getI (v := I 41 3) dX7_takeHold_41 fr_7_28 rfl rfl rfl ?_
      refine ev_iconst (v := 1) dX7_takeHold_44 (by decide) ?_
      refine ev_st dX7_takeHold_45 rfl rfl ?_
      refine ev_st dX7_takeHold_46 rfl rfl ?_
      refine ev_st dX7_takeHold_47 rfl rfl ?_
      refine ev_putI dX7_takeHold_48 fr_7_28 rfl rfl ?_
      refine ev_st dX7_takeHold_51 rfl rfl ?_
      refine ev_getI (v := (I 41 3) ||| (1 <<< ((nI j) &&& 31))) dX7_takeHold_52 fr_7_28 rfl rfl rfl ?_
      refine ev_call dX7_takeHold_55 rfl rfl mr_7_74 rfl rfl rfl (c_bc ((I 41 3) ||| (1 <<< ((nI j) &&& 31)))) ?_
      rintro _ _ ⟨rfl, rfl⟩
      show Ev lyC (d + 1) hX7_takeHold 58 [some (.ref 41), some (.ref 8), some (.int (nI j))] [.int (bc ((I 41 3) ||| (1 <<< ((nI j) &&& 31))))] (ti_wr I 41 3 ((I 41 3) ||| (1 <<< ((nI j) &&& 31))), J, R) _
      exact ev_iret dX7_takeHold_58 rfl (by rw [if_neg (show ¬ ¬ k_b (I 41 3) (nI j) = 0 from fun h => h c_18), if_pos c_33]; exact ⟨rfl, rfl⟩)
    · refine ev_bipush (v := -3) dX7_takeHold_36 (by decide) ?_
      exact ev_iret dX7_takeHold_38 rfl (by rw [if_neg (show ¬ ¬ k_b (I 41 3) (nI j) = 0 from fun h => h c_18), if_neg c_33]; exact ⟨rfl, rfl⟩)
  · refine ev_bipush (v := -2) dX7_takeHold_21 (by decide) ?_
    exact ev_iret dX7_takeHold_23 rfl (by rw [if_pos (show ¬ k_b (I 41 3) (nI j) = 0 from c_18)]; exact ⟨rfl, rfl⟩)
theorem k_letGo_41_none {I : Nat → Nat → Int32} {J : Nat → Nat → Int64} {R : Nat → Nat → Value} {d n : Nat} (hn : I 8 3 = nI n) {x : Int32} (hx : ix n x = none) : Cal lyC (d + 1) hX7_letGo 3 [.ref 41, .ref 8, .int x] (I, J, R) (fun r M' => r = some (.int (-1)) ∧ M' = (I, J, R)) := by
  show Ev lyC (d + 1) hX7_letGo 0 [some (.ref 41), some (.ref 8), some (.int x)] [] (I, J, R) _
  refine ev_st dX7_letGo_0 rfl rfl ?_
  refine ev_st dX7_letGo_1 rfl rfl ?_
  refine ev_call dX7_letGo_2 rfl rfl mr_7_70 rfl rfl rfl ((by have K := k_X0_has (J := J) (R := R) (d := d) hn x; simp only [hx, Option.isSome] at K; exact K)) ?_
  rintro _ _ ⟨rfl, rfl⟩
  show Ev lyC (d + 1) hX7_letGo 5 [some (.ref 41), some (.ref 8), some (.int x)] [.int 0] (I, J, R) _
  refine ev_if_ne (t := 10) dX7_letGo_5 (by decide) (fun q => absurd q (by decide)) (fun _ => ?_)
  refine ev_iconst (v := -1) dX7_letGo_8 (by decide) ?_
  exact ev_iret dX7_letGo_9 rfl (⟨rfl, rfl⟩)
set_option maxHeartbeats 4000000 in
theorem k_letGo_41 {I : Nat → Nat → Int32} {J : Nat → Nat → Int64} {R : Nat → Nat → Value} {d n j : Nat} (hn : I 8 3 = nI n) (hx : ix n (nI j) = some j) : Cal lyC (d + 1) hX7_letGo 3 [.ref 41, .ref 8, .int (nI j)] (I, J, R) (fun r M' => if k_b (I 41 3) (nI j) = 0 then r = some (.int (-2)) ∧ M' = (I, J, R) else r = some (.int (bc (I 41 3 &&& ((1 <<< (nI j &&& 31)) ^^^ (-1))))) ∧ M' = (ti_wr I 41 3 (I 41 3 &&& ((1 <<< (nI j &&& 31)) ^^^ (-1))), J, R)) := by
  show Ev lyC (d + 1) hX7_letGo 0 [some (.ref 41), some (.ref 8), some (.int (nI j))] [] (I, J, R) _
  refine ev_st dX7_letGo_0 rfl rfl ?_
  refine ev_st dX7_letGo_1 rfl rfl ?_
  refine ev_call dX7_letGo_2 rfl rfl mr_7_70 rfl rfl rfl ((by have K := k_X0_has (J := J) (R := R) (d := d) hn (nI j); simp only [hx, Option.isSome] at K; exact K)) ?_
  rintro _ _ ⟨rfl, rfl⟩
  show Ev lyC (d + 1) hX7_letGo 5 [some (.ref 41), some (.ref 8), some (.int (nI j))] [.int 1] (I, J, R) _
  refine ev_if_ne (t := 10) dX7_letGo_5 (by decide) (fun _ => ?_) (fun q => absurd q (by decide))
  refine ev_st dX7_letGo_10 rfl rfl ?_
  refine ev_getI (v := I 41 3) dX7_letGo_11 fr_7_28 rfl rfl rfl ?_
  refine ev_st dX7_letGo_14 rfl rfl ?_
  refine ev_st dX7_letGo_15 rfl rfl ?_
  refine ev_iconst (v := 1) dX7_letGo_16 (by decide) ?_
  refine ev_st dX7_letGo_17 rfl rfl ?_
  refine ev_if_ne (t := 24) (x := ((I 41 3) >>> ((nI j) &&& 31)) &&& 1) dX7_letGo_18 (by decide) (fun c_18 => ?_) (fun c_18 => ?_)
  · refine ev_st dX7_letGo_24 rfl rfl ?_
    refine ev_st dX7_letGo_25 rfl rfl ?_
    refine ev_getI (v := I 41 3) dX7_letGo_26 fr_7_28 rfl rfl rfl ?_
    refine ev_iconst (v := 1) dX7_letGo_29 (by decide) ?_
    refine ev_st dX7_letGo_30 rfl rfl ?_
    refine ev_st dX7_letGo_31 rfl rfl ?_
    refine ev_iconst (v := -1) dX7_letGo_32 (by decide) ?_
    refine ev_st dX7_letGo_33 rfl rfl ?_
    refine ev_st dX7_letGo_34 rfl rfl ?_
    refine ev_putI dX7_letGo_35 fr_7_28 rfl rfl ?_
    refine ev_st dX7_letGo_38 rfl rfl ?_
    refine ev_getI (v := (I 41 3) &&& ((1 <<< ((nI j) &&& 31)) ^^^ ((-1)))) dX7_letGo_39 fr_7_28 rfl rfl rfl ?_
    refine ev_call dX7_letGo_42 rfl rfl mr_7_74 rfl rfl rfl (c_bc ((I 41 3) &&& ((1 <<< ((nI j) &&& 31)) ^^^ ((-1))))) ?_
    rintro _ _ ⟨rfl, rfl⟩
    show Ev lyC (d + 1) hX7_letGo 45 [some (.ref 41), some (.ref 8), some (.int (nI j))] [.int (bc ((I 41 3) &&& ((1 <<< ((nI j) &&& 31)) ^^^ ((-1)))))] (ti_wr I 41 3 ((I 41 3) &&& ((1 <<< ((nI j) &&& 31)) ^^^ ((-1)))), J, R) _
    exact ev_iret dX7_letGo_45 rfl (by rw [if_neg (show ¬ k_b (I 41 3) (nI j) = 0 from c_18)]; exact ⟨rfl, rfl⟩)
  · refine ev_bipush (v := -2) dX7_letGo_21 (by decide) ?_
    exact ev_iret dX7_letGo_23 rfl (by rw [if_pos (show k_b (I 41 3) (nI j) = 0 from c_18)]; exact ⟨rfl, rfl⟩)
theorem k_follow_41 {I : Nat → Nat → Int32} {J : Nat → Nat → Int64} {R : Nat → Nat → Value} {d : Nat} (x : Int32) : Cal lyC d hX7_follow 3 [.ref 41, .int x] (I, J, R) (fun r M' => r = some (.int (if x < 0 then -1 else if x < 4 then (if x = I 41 4 then -2 else I 41 4) else -1)) ∧ M' = (if x < 0 then I else if x < 4 then (if x = I 41 4 then I else ti_wr I 41 4 x) else I, J, R)) := by
  show Ev lyC d hX7_follow 0 [some (.ref 41), some (.int x), none] [] (I, J, R) _
  refine ev_st dX7_follow_0 rfl rfl ?_
  refine ev_if_lt (t := 9) (x := x) dX7_follow_1 (by decide) (fun c_1 => ?_) (fun c_1 => ?_)
  · refine ev_iconst (v := -1) dX7_follow_9 (by decide) ?_
    exact ev_iret dX7_follow_10 rfl (⟨by simp [c_1], by simp [c_1]⟩)
  · refine ev_st dX7_follow_4 rfl rfl ?_
    refine ev_iconst (v := 4) dX7_follow_5 (by decide) ?_
    refine ev_ic_lt (t := 11) (x := x) (y := 4) dX7_follow_6 (by decide) (fun c_6 => ?_) (fun c_6 => ?_)
    · refine ev_st dX7_follow_11 rfl rfl ?_
      refine ev_st dX7_follow_12 rfl rfl ?_
      refine ev_getI (v := I 41 4) dX7_follow_13 fr_7_31 rfl rfl rfl ?_
      refine ev_ic_ne (t := 22) (x := x) (y := I 41 4) dX7_follow_16 (by decide) (fun c_16 => ?_) (fun c_16 => ?_)
      · refine ev_st dX7_follow_22 rfl rfl ?_
        refine ev_getI (v := I 41 4) dX7_follow_23 fr_7_31 rfl rfl rfl ?_
        refine ev_st (L' := [some (.ref 41), some (.int x), some (.int (I 41 4))]) dX7_follow_26 rfl rfl ?_
        refine ev_st dX7_follow_27 rfl rfl ?_
        refine ev_st dX7_follow_28 rfl rfl ?_
        refine ev_putI dX7_follow_29 fr_7_31 rfl rfl ?_
        refine ev_st dX7_follow_32 rfl rfl ?_
        exact ev_iret dX7_follow_33 rfl (⟨by simp [c_1, c_6, c_16], by simp [c_1, c_6, c_16]⟩)
      · refine ev_bipush (v := -2) dX7_follow_19 (by decide) ?_
        exact ev_iret dX7_follow_21 rfl (⟨by rw [if_neg c_1, if_pos c_6, if_pos c_16], by rw [if_neg c_1, if_pos c_6, if_pos c_16]⟩)
    · refine ev_iconst (v := -1) dX7_follow_9 (by decide) ?_
      exact ev_iret dX7_follow_10 rfl (⟨by simp [c_1, c_6], by simp [c_1, c_6]⟩)
theorem k_hindranceTo_41 {I : Nat → Nat → Int32} {J : Nat → Nat → Int64} {R : Nat → Nat → Value} {d c a s : Nat} (hc : I 5 2 = nI c) (hc12 : c ≤ 12) (ha : I 41 1 = nI a) (ha12 : a ≤ 12) (hs8 : s < 8) : Cal lyC d hX7_hindranceTo 4 [.ref 41, .ref 5, .ref 11, .int (nI s)] (I, J, R) (fun r M' => r = some (.int (k_hi I 41 c a s)) ∧ M' = (I, J, R)) := by
  show Ev lyC d hX7_hindranceTo 0 [some (.ref 41), some (.ref 5), some (.ref 11), some (.int (nI s))] [] (I, J, R) _
  refine ev_st dX7_hindranceTo_0 rfl rfl ?_
  refine ev_getI (v := I 41 5) dX7_hindranceTo_1 fr_7_34 rfl rfl rfl ?_
  refine ev_st dX7_hindranceTo_4 rfl rfl ?_
  refine ev_st dX7_hindranceTo_5 rfl rfl ?_
  refine ev_iconst (v := 1) dX7_hindranceTo_6 (by decide) ?_
  refine ev_st dX7_hindranceTo_7 rfl rfl ?_
  refine ev_if_eq (t := 14) (x := ((I 41 5) >>> ((nI s) &&& 31)) &&& 1) dX7_hindranceTo_8 (by decide) (fun c_8 => ?_) (fun c_8 => ?_)
  · refine ev_st dX7_hindranceTo_14 rfl rfl ?_
    refine ev_getC dX7_hindranceTo_15 fr_7_90 rfl rfl ?_
    refine ev_st dX7_hindranceTo_18 rfl rfl ?_
    refine ev_iald (j := s) (v := I 14 s) dX7_hindranceTo_19 rfl rfl (by omega) (by decide) rfl ?_
    refine ev_st dX7_hindranceTo_20 rfl rfl ?_
    refine ev_getI (v := I 41 4) dX7_hindranceTo_21 fr_7_31 rfl rfl rfl ?_
    refine ev_st dX7_hindranceTo_24 rfl rfl ?_
    refine ev_iconst (v := 1) dX7_hindranceTo_25 (by decide) ?_
    refine ev_st dX7_hindranceTo_26 rfl rfl ?_
    refine ev_if_ne (t := 33) (x := ((I 14 s) >>> ((I 41 4) &&& 31)) &&& 1) dX7_hindranceTo_27 (by decide) (fun c_27 => ?_) (fun c_27 => ?_)
    · refine ev_st dX7_hindranceTo_33 rfl rfl ?_
      refine ev_getI (v := I 41 6) dX7_hindranceTo_34 fr_7_37 rfl rfl rfl ?_
      refine ev_if_eq (t := 43) (x := I 41 6) dX7_hindranceTo_37 (by decide) (fun c_37 => ?_) (fun c_37 => ?_)
      · refine ev_st dX7_hindranceTo_43 rfl rfl ?_
        refine ev_getI (v := nI a) dX7_hindranceTo_44 fr_7_25 rfl rfl ha ?_
        refine ev_st dX7_hindranceTo_47 rfl rfl ?_
        refine ev_getI (v := nI c) dX7_hindranceTo_48 fr_7_44 rfl rfl hc ?_
        refine ev_ic_ltN (t := 59) (a := a) (b := c) dX7_hindranceTo_51 (by decide) rfl rfl (by omega) (by omega) (fun c_51 => ?_) (fun c_51 => ?_)
        · refine ev_iconst (v := 0) dX7_hindranceTo_59 (by decide) ?_
          exact ev_iret dX7_hindranceTo_60 rfl (⟨by simp [k_hi, k_b, c_8, c_27, c_37, c_51], rfl⟩)
        · refine ev_bipush (v := -5) dX7_hindranceTo_54 (by decide) ?_
          refine ev_goto (t := 60) dX7_hindranceTo_56 (by decide) ?_
          exact ev_iret dX7_hindranceTo_60 rfl (⟨by simp [k_hi, k_b, c_8, c_27, c_37, Nat.not_lt.mpr c_51], rfl⟩)
      · refine ev_bipush (v := -4) dX7_hindranceTo_40 (by decide) ?_
        exact ev_iret dX7_hindranceTo_42 rfl (⟨by simp [k_hi, k_b, c_8, c_27, c_37], rfl⟩)
    · refine ev_bipush (v := -3) dX7_hindranceTo_30 (by decide) ?_
      exact ev_iret dX7_hindranceTo_32 rfl (⟨by simp [k_hi, k_b, c_8, c_27], rfl⟩)
  · refine ev_bipush (v := -2) dX7_hindranceTo_11 (by decide) ?_
    exact ev_iret dX7_hindranceTo_13 rfl (⟨by simp [k_hi, k_b, c_8], rfl⟩)
theorem k_speak_41_none {I : Nat → Nat → Int32} {J : Nat → Nat → Int64} {R : Nat → Nat → Value} {d n : Nat} (hn : I 11 4 = nI n) {x : Int32} (hx : ix n x = none) : Cal lyC (d + 3) hX7_speak 5 [.ref 41, .ref 5, .ref 11, .int x] (I, J, R) (fun r M' => r = some (.int (-1)) ∧ M' = (I, J, R)) := by
  show Ev lyC (d + 3) hX7_speak 0 [some (.ref 41), some (.ref 5), some (.ref 11), some (.int x), none] [] (I, J, R) _
  refine ev_st dX7_speak_0 rfl rfl ?_
  refine ev_st dX7_speak_1 rfl rfl ?_
  refine ev_call dX7_speak_2 rfl rfl mr_7_79 rfl rfl rfl ((by have K := k_X6_has (J := J) (R := R) (d := d + 2) hn x; simp only [hx, Option.isSome] at K; exact K)) ?_
  rintro _ _ ⟨rfl, rfl⟩
  show Ev lyC (d + 3) hX7_speak 5 [some (.ref 41), some (.ref 5), some (.ref 11), some (.int x), none] [.int 0] (I, J, R) _
  refine ev_if_ne (t := 10) dX7_speak_5 (by decide) (fun q => absurd q (by decide)) (fun _ => ?_)
  refine ev_iconst (v := -1) dX7_speak_8 (by decide) ?_
  exact ev_iret dX7_speak_9 rfl (⟨rfl, rfl⟩)
set_option maxHeartbeats 4000000 in
theorem k_speak_41 {I : Nat → Nat → Int32} {J : Nat → Nat → Int64} {R : Nat → Nat → Value} {d n c a s : Nat} (hn : I 11 4 = nI n) (hc : I 5 2 = nI c) (hc12 : c ≤ 12) (ha : I 41 1 = nI a) (ha12 : a ≤ 12) (hs8 : s < 8) (hx : ix n (nI s) = some s) : Cal lyC (d + 3) hX7_speak 5 [.ref 41, .ref 5, .ref 11, .int (nI s)] (I, J, R) (fun r M' => if k_hi I 41 c a s = 0 then r = some (.int (k_sp I 41 s 41 2)) ∧ M' = (k_sp I 41 s, J, R) else r = some (.int (k_hi I 41 c a s)) ∧ M' = (I, J, R)) := by
  show Ev lyC (d + 3) hX7_speak 0 [some (.ref 41), some (.ref 5), some (.ref 11), some (.int (nI s)), none] [] (I, J, R) _
  refine ev_st dX7_speak_0 rfl rfl ?_
  refine ev_st dX7_speak_1 rfl rfl ?_
  refine ev_call dX7_speak_2 rfl rfl mr_7_79 rfl rfl rfl ((by have K := k_X6_has (J := J) (R := R) (d := d + 2) hn (nI s); simp only [hx, Option.isSome] at K; exact K)) ?_
  rintro _ _ ⟨rfl, rfl⟩
  show Ev lyC (d + 3) hX7_speak 5 [some (.ref 41), some (.ref 5), some (.ref 11), some (.int (nI s)), none] [.int 1] (I, J, R) _
  refine ev_if_ne (t := 10) dX7_speak_5 (by decide) (fun _ => ?_) (fun q => absurd q (by decide))
  refine ev_st dX7_speak_10 rfl rfl ?_
  refine ev_st dX7_speak_11 rfl rfl ?_
  refine ev_st dX7_speak_12 rfl rfl ?_
  refine ev_st dX7_speak_13 rfl rfl ?_
  refine ev_call dX7_speak_14 rfl rfl mr_7_82 rfl rfl rfl (k_hindranceTo_41 hc hc12 ha ha12 hs8) ?_
  rintro _ _ ⟨rfl, rfl⟩
  show Ev lyC (d + 3) hX7_speak 17 [some (.ref 41), some (.ref 5), some (.ref 11), some (.int (nI s)), none] [.int (k_hi I 41 c a s)] (I, J, R) _
  refine ev_st (L' := [some (.ref 41), some (.ref 5), some (.ref 11), some (.int (nI s)), some (.int (k_hi I 41 c a s))]) dX7_speak_17 rfl rfl ?_
  refine ev_st dX7_speak_19 rfl rfl ?_
  refine ev_if_ne (t := 54) (x := k_hi I 41 c a s) dX7_speak_21 (by decide) (fun c_21 => ?_) (fun c_21 => ?_)
  · refine ev_st dX7_speak_54 rfl rfl ?_
    refine ev_if_ne (t := 66) (x := k_hi I 41 c a s) dX7_speak_56 (by decide) (fun c_56 => ?_) (fun c_56 => ?_)
    · refine ev_st dX7_speak_66 rfl rfl ?_
      exact ev_iret dX7_speak_68 rfl (by rw [if_neg c_21]; exact ⟨rfl, rfl⟩)
    · refine ev_st dX7_speak_59 rfl rfl ?_
      refine ev_getI (v := I 41 2) dX7_speak_60 fr_7_15 rfl rfl rfl ?_
      refine ev_goto (t := 68) dX7_speak_63 (by decide) ?_
      exact ev_iret dX7_speak_68 rfl (absurd c_56 c_21)
  · refine ev_st dX7_speak_24 rfl rfl ?_
    refine ev_st dX7_speak_25 rfl rfl ?_
    refine ev_st dX7_speak_26 rfl rfl ?_
    refine ev_getI (v := I 41 2) dX7_speak_27 fr_7_15 rfl rfl rfl ?_
    refine ev_st dX7_speak_30 rfl rfl ?_
    refine ev_call dX7_speak_31 rfl rfl mr_7_86 rfl rfl rfl (k_loadAfter hs8 (I 41 2)) ?_
    rintro _ _ ⟨rfl, rfl⟩
    show Ev lyC (d + 3) hX7_speak 34 [some (.ref 41), some (.ref 5), some (.ref 11), some (.int (nI s)), some (.int (k_hi I 41 c a s))] [.int (k_la I (I 41 2) s), .ref 41] (I, J, R) _
    refine ev_putI dX7_speak_34 fr_7_15 rfl rfl ?_
    refine ev_st dX7_speak_37 rfl rfl ?_
    refine ev_st dX7_speak_38 rfl rfl ?_
    refine ev_getI (v := I 41 5) dX7_speak_39 fr_7_34 rfl rfl rfl ?_
    refine ev_iconst (v := 1) dX7_speak_42 (by decide) ?_
    refine ev_st dX7_speak_43 rfl rfl ?_
    refine ev_st dX7_speak_44 rfl rfl ?_
    refine ev_st dX7_speak_45 rfl rfl ?_
    refine ev_putI dX7_speak_46 fr_7_34 rfl rfl ?_
    refine ev_st dX7_speak_49 rfl rfl ?_
    refine ev_iconst (v := 1) dX7_speak_50 (by decide) ?_
    refine ev_putZ dX7_speak_51 fr_7_37 rfl rfl (by decide) ?_
    refine ev_st dX7_speak_54 rfl rfl ?_
    refine ev_if_ne (t := 66) (x := k_hi I 41 c a s) dX7_speak_56 (by decide) (fun c_56 => ?_) (fun c_56 => ?_)
    · refine ev_st dX7_speak_66 rfl rfl ?_
      exact ev_iret dX7_speak_68 rfl (absurd c_21 c_56)
    · refine ev_st dX7_speak_59 rfl rfl ?_
      refine ev_getI (v := k_la I (I 41 2) s) dX7_speak_60 fr_7_15 rfl rfl rfl ?_
      refine ev_goto (t := 68) dX7_speak_63 (by decide) ?_
      exact ev_iret dX7_speak_68 rfl (by rw [if_pos c_21]; exact ⟨rfl, rfl⟩)
