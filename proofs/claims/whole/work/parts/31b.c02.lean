set_option maxHeartbeats 4000000 in
theorem k_moveOn_39 {I : Nat → Nat → Int32} {J : Nat → Nat → Int64} {R : Nat → Nat → Value} {d n : Nat} (hn8 : n ≤ 8) (mo : Int32) : Cal lyC (d + 1) hX7_moveOn 5 [.ref 39, .int (nI n), .int mo] (I, J, R) (fun r M' => r = none ∧ M' = (k_mv I 39 n mo, J, R)) := by
  have loop : ∀ (k b : Nat) (o : Option Value), b ≤ n → n - b < k → Ev lyC (d + 1) hX7_moveOn 2 [some (.ref 39), some (.int (nI n)), some (.int mo), some (.int (nI b)), o] [] (va_up I 40 (k_mp (I 39 3) (I 40) mo b), J, R) (fun r M' => r = none ∧ M' = (k_mv I 39 n mo, J, R)) := by
    intro k
    induction k with
    | zero => intro b o h1 h2; omega
    | succ k ih =>
      intro b o hb hk
      refine ev_st dX7_moveOn_2 rfl rfl ?_
      refine ev_st dX7_moveOn_3 rfl rfl ?_
      refine ev_ic_geN (t := 53) (a := b) (b := n) dX7_moveOn_4 (by decide) rfl rfl (by omega) (by omega) (fun c_4 => ?_) (fun c_4 => ?_)
      · refine ev_st dX7_moveOn_53 rfl rfl ?_
        refine ev_st dX7_moveOn_54 rfl rfl ?_
        refine ev_getI (v := I 39 1) dX7_moveOn_55 fr_7_25 rfl rfl (by rw [va_up_n (by decide)]) ?_
        refine ev_iconst (v := 1) dX7_moveOn_58 (by decide) ?_
        refine ev_st dX7_moveOn_59 rfl rfl ?_
        refine ev_putI dX7_moveOn_60 fr_7_25 rfl rfl ?_
        refine ev_st dX7_moveOn_63 rfl rfl ?_
        refine ev_iconst (v := 0) dX7_moveOn_64 (by decide) ?_
        refine ev_putZ dX7_moveOn_65 fr_7_37 rfl rfl (by decide) ?_
        exact ev_vret dX7_moveOn_68 rfl (⟨rfl, by rw [show b = n by omega]; rfl⟩)
      · refine ev_st dX7_moveOn_7 rfl rfl ?_
        refine ev_getI (v := I 39 3) dX7_moveOn_8 fr_7_28 rfl rfl (by rw [va_up_n (by decide)]) ?_
        refine ev_st dX7_moveOn_11 rfl rfl ?_
        refine ev_st dX7_moveOn_12 rfl rfl ?_
        refine ev_iconst (v := 1) dX7_moveOn_13 (by decide) ?_
        refine ev_st dX7_moveOn_14 rfl rfl ?_
        refine ev_if_eq (t := 22) (x := ((I 39 3) >>> ((nI b) &&& 31)) &&& 1) dX7_moveOn_15 (by decide) (fun c_15 => ?_) (fun c_15 => ?_)
        · refine ev_bipush (v := -2) dX7_moveOn_22 (by decide) ?_
          refine ev_st (L' := [some (.ref 39), some (.int (nI n)), some (.int mo), some (.int (nI b)), some (.int ((-2)))]) dX7_moveOn_24 rfl rfl ?_
          refine ev_st dX7_moveOn_26 rfl rfl ?_
          refine ev_getC dX7_moveOn_27 fr_7_9 rfl rfl ?_
          refine ev_st dX7_moveOn_30 rfl rfl ?_
          refine ev_st dX7_moveOn_31 rfl rfl ?_
          refine ev_getC dX7_moveOn_32 fr_7_9 rfl rfl ?_
          refine ev_st dX7_moveOn_35 rfl rfl ?_
          refine ev_iald (j := b) (v := I 40 b) dX7_moveOn_36 rfl rfl (by omega) (by decide) (by rw [va_up_q]; exact k_mp_hi (by omega)) ?_
          refine ev_st dX7_moveOn_37 rfl rfl ?_
          refine ev_st dX7_moveOn_39 rfl rfl ?_
          refine ev_iconst (v := 0) dX7_moveOn_40 (by decide) ?_
          refine ev_bipush (v := 99) dX7_moveOn_41 (by decide) ?_
          refine ev_call dX7_moveOn_43 rfl rfl mr_7_66 rfl rfl rfl (k_within ((I 40 b) + ((-2))) 0 99) ?_
          rintro _ _ ⟨rfl, rfl⟩
          show Ev lyC (d + 1) hX7_moveOn 46 [some (.ref 39), some (.int (nI n)), some (.int mo), some (.int (nI b)), some (.int ((-2)))] [.int (k_wi ((I 40 b) + ((-2))) 0 99), .int (nI b), .ref 40] (va_up I 40 (k_mp (I 39 3) (I 40) mo b), J, R) _
          refine ev_iast (j := b) dX7_moveOn_46 rfl rfl (by omega) (by decide) ?_
          refine ev_iincN (a := b) (b := b + 1) (L' := [some (.ref 39), some (.int (nI n)), some (.int mo), some (.int (nI (b + 1))), some (.int ((-2)))]) dX7_moveOn_47 rfl (nI_1 _) rfl ?_
          refine ev_goto (t := 2) dX7_moveOn_50 (by decide) ?_
          have e9 : ti_wr (va_up I 40 (k_mp (I 39 3) (I 40) mo b)) 40 b (k_wi ((I 40 b) + ((-2))) 0 99) = va_up I 40 (k_mp (I 39 3) (I 40) mo (b + 1)) := by rw [ti_wr_up, ← k_mp_s]; simp [k_m1, k_b, c_15]
          rw [e9]
          exact ih _ _ (by omega) (by omega)
        · refine ev_st dX7_moveOn_18 rfl rfl ?_
          refine ev_goto (t := 24) dX7_moveOn_19 (by decide) ?_
          refine ev_st (L' := [some (.ref 39), some (.int (nI n)), some (.int mo), some (.int (nI b)), some (.int mo)]) dX7_moveOn_24 rfl rfl ?_
          refine ev_st dX7_moveOn_26 rfl rfl ?_
          refine ev_getC dX7_moveOn_27 fr_7_9 rfl rfl ?_
          refine ev_st dX7_moveOn_30 rfl rfl ?_
          refine ev_st dX7_moveOn_31 rfl rfl ?_
          refine ev_getC dX7_moveOn_32 fr_7_9 rfl rfl ?_
          refine ev_st dX7_moveOn_35 rfl rfl ?_
          refine ev_iald (j := b) (v := I 40 b) dX7_moveOn_36 rfl rfl (by omega) (by decide) (by rw [va_up_q]; exact k_mp_hi (by omega)) ?_
          refine ev_st dX7_moveOn_37 rfl rfl ?_
          refine ev_st dX7_moveOn_39 rfl rfl ?_
          refine ev_iconst (v := 0) dX7_moveOn_40 (by decide) ?_
          refine ev_bipush (v := 99) dX7_moveOn_41 (by decide) ?_
          refine ev_call dX7_moveOn_43 rfl rfl mr_7_66 rfl rfl rfl (k_within ((I 40 b) + mo) 0 99) ?_
          rintro _ _ ⟨rfl, rfl⟩
          show Ev lyC (d + 1) hX7_moveOn 46 [some (.ref 39), some (.int (nI n)), some (.int mo), some (.int (nI b)), some (.int mo)] [.int (k_wi ((I 40 b) + mo) 0 99), .int (nI b), .ref 40] (va_up I 40 (k_mp (I 39 3) (I 40) mo b), J, R) _
          refine ev_iast (j := b) dX7_moveOn_46 rfl rfl (by omega) (by decide) ?_
          refine ev_iincN (a := b) (b := b + 1) (L' := [some (.ref 39), some (.int (nI n)), some (.int mo), some (.int (nI (b + 1))), some (.int mo)]) dX7_moveOn_47 rfl (nI_1 _) rfl ?_
          refine ev_goto (t := 2) dX7_moveOn_50 (by decide) ?_
          have e9 : ti_wr (va_up I 40 (k_mp (I 39 3) (I 40) mo b)) 40 b (k_wi ((I 40 b) + mo) 0 99) = va_up I 40 (k_mp (I 39 3) (I 40) mo (b + 1)) := by rw [ti_wr_up, ← k_mp_s]; simp [k_m1, k_b, c_15]
          rw [e9]
          exact ih _ _ (by omega) (by omega)
  show Ev lyC (d + 1) hX7_moveOn 0 [some (.ref 39), some (.int (nI n)), some (.int mo), none, none] [] (I, J, R) _
  refine ev_iconst (v := 0) dX7_moveOn_0 (by decide) ?_
  refine ev_st (L' := [some (.ref 39), some (.int (nI n)), some (.int mo), some (.int 0), none]) dX7_moveOn_1 rfl rfl ?_
  have K := loop (n + 1) 0 none (by omega) (by omega)
  rw [k_mp_0, va_up_id] at K
  exact K
set_option maxHeartbeats 4000000 in
theorem k_moveOn_41 {I : Nat → Nat → Int32} {J : Nat → Nat → Int64} {R : Nat → Nat → Value} {d n : Nat} (hn8 : n ≤ 8) (mo : Int32) : Cal lyC (d + 1) hX7_moveOn 5 [.ref 41, .int (nI n), .int mo] (I, J, R) (fun r M' => r = none ∧ M' = (k_mv I 41 n mo, J, R)) := by
  have loop : ∀ (k b : Nat) (o : Option Value), b ≤ n → n - b < k → Ev lyC (d + 1) hX7_moveOn 2 [some (.ref 41), some (.int (nI n)), some (.int mo), some (.int (nI b)), o] [] (va_up I 42 (k_mp (I 41 3) (I 42) mo b), J, R) (fun r M' => r = none ∧ M' = (k_mv I 41 n mo, J, R)) := by
    intro k
    induction k with
    | zero => intro b o h1 h2; omega
    | succ k ih =>
      intro b o hb hk
      refine ev_st dX7_moveOn_2 rfl rfl ?_
      refine ev_st dX7_moveOn_3 rfl rfl ?_
      refine ev_ic_geN (t := 53) (a := b) (b := n) dX7_moveOn_4 (by decide) rfl rfl (by omega) (by omega) (fun c_4 => ?_) (fun c_4 => ?_)
      · refine ev_st dX7_moveOn_53 rfl rfl ?_
        refine ev_st dX7_moveOn_54 rfl rfl ?_
        refine ev_getI (v := I 41 1) dX7_moveOn_55 fr_7_25 rfl rfl (by rw [va_up_n (by decide)]) ?_
        refine ev_iconst (v := 1) dX7_moveOn_58 (by decide) ?_
        refine ev_st dX7_moveOn_59 rfl rfl ?_
        refine ev_putI dX7_moveOn_60 fr_7_25 rfl rfl ?_
        refine ev_st dX7_moveOn_63 rfl rfl ?_
        refine ev_iconst (v := 0) dX7_moveOn_64 (by decide) ?_
        refine ev_putZ dX7_moveOn_65 fr_7_37 rfl rfl (by decide) ?_
        exact ev_vret dX7_moveOn_68 rfl (⟨rfl, by rw [show b = n by omega]; rfl⟩)
      · refine ev_st dX7_moveOn_7 rfl rfl ?_
        refine ev_getI (v := I 41 3) dX7_moveOn_8 fr_7_28 rfl rfl (by rw [va_up_n (by decide)]) ?_
        refine ev_st dX7_moveOn_11 rfl rfl ?_
        refine ev_st dX7_moveOn_12 rfl rfl ?_
        refine ev_iconst (v := 1) dX7_moveOn_13 (by decide) ?_
        refine ev_st dX7_moveOn_14 rfl rfl ?_
        refine ev_if_eq (t := 22) (x := ((I 41 3) >>> ((nI b) &&& 31)) &&& 1) dX7_moveOn_15 (by decide) (fun c_15 => ?_) (fun c_15 => ?_)
        · refine ev_bipush (v := -2) dX7_moveOn_22 (by decide) ?_
          refine ev_st (L' := [some (.ref 41), some (.int (nI n)), some (.int mo), some (.int (nI b)), some (.int ((-2)))]) dX7_moveOn_24 rfl rfl ?_
          refine ev_st dX7_moveOn_26 rfl rfl ?_
          refine ev_getC dX7_moveOn_27 fr_7_9 rfl rfl ?_
          refine ev_st dX7_moveOn_30 rfl rfl ?_
          refine ev_st dX7_moveOn_31 rfl rfl ?_
          refine ev_getC dX7_moveOn_32 fr_7_9 rfl rfl ?_
          refine ev_st dX7_moveOn_35 rfl rfl ?_
          refine ev_iald (j := b) (v := I 42 b) dX7_moveOn_36 rfl rfl (by omega) (by decide) (by rw [va_up_q]; exact k_mp_hi (by omega)) ?_
          refine ev_st dX7_moveOn_37 rfl rfl ?_
          refine ev_st dX7_moveOn_39 rfl rfl ?_
          refine ev_iconst (v := 0) dX7_moveOn_40 (by decide) ?_
          refine ev_bipush (v := 99) dX7_moveOn_41 (by decide) ?_
          refine ev_call dX7_moveOn_43 rfl rfl mr_7_66 rfl rfl rfl (k_within ((I 42 b) + ((-2))) 0 99) ?_
          rintro _ _ ⟨rfl, rfl⟩
          show Ev lyC (d + 1) hX7_moveOn 46 [some (.ref 41), some (.int (nI n)), some (.int mo), some (.int (nI b)), some (.int ((-2)))] [.int (k_wi ((I 42 b) + ((-2))) 0 99), .int (nI b), .ref 42] (va_up I 42 (k_mp (I 41 3) (I 42) mo b), J, R) _
          refine ev_iast (j := b) dX7_moveOn_46 rfl rfl (by omega) (by decide) ?_
          refine ev_iincN (a := b) (b := b + 1) (L' := [some (.ref 41), some (.int (nI n)), some (.int mo), some (.int (nI (b + 1))), some (.int ((-2)))]) dX7_moveOn_47 rfl (nI_1 _) rfl ?_
          refine ev_goto (t := 2) dX7_moveOn_50 (by decide) ?_
          have e9 : ti_wr (va_up I 42 (k_mp (I 41 3) (I 42) mo b)) 42 b (k_wi ((I 42 b) + ((-2))) 0 99) = va_up I 42 (k_mp (I 41 3) (I 42) mo (b + 1)) := by rw [ti_wr_up, ← k_mp_s]; simp [k_m1, k_b, c_15]
          rw [e9]
          exact ih _ _ (by omega) (by omega)
        · refine ev_st dX7_moveOn_18 rfl rfl ?_
          refine ev_goto (t := 24) dX7_moveOn_19 (by decide) ?_
          refine ev_st (L' := [some (.ref 41), some (.int (nI n)), some (.int mo), some (.int (nI b)), some (.int mo)]) dX7_moveOn_24 rfl rfl ?_
          refine ev_st dX7_moveOn_26 rfl rfl ?_
          refine ev_getC dX7_moveOn_27 fr_7_9 rfl rfl ?_
          refine ev_st dX7_moveOn_30 rfl rfl ?_
          refine ev_st dX7_moveOn_31 rfl rfl ?_
          refine ev_getC dX7_moveOn_32 fr_7_9 rfl rfl ?_
          refine ev_st dX7_moveOn_35 rfl rfl ?_
          refine ev_iald (j := b) (v := I 42 b) dX7_moveOn_36 rfl rfl (by omega) (by decide) (by rw [va_up_q]; exact k_mp_hi (by omega)) ?_
          refine ev_st dX7_moveOn_37 rfl rfl ?_
          refine ev_st dX7_moveOn_39 rfl rfl ?_
          refine ev_iconst (v := 0) dX7_moveOn_40 (by decide) ?_
          refine ev_bipush (v := 99) dX7_moveOn_41 (by decide) ?_
          refine ev_call dX7_moveOn_43 rfl rfl mr_7_66 rfl rfl rfl (k_within ((I 42 b) + mo) 0 99) ?_
          rintro _ _ ⟨rfl, rfl⟩
          show Ev lyC (d + 1) hX7_moveOn 46 [some (.ref 41), some (.int (nI n)), some (.int mo), some (.int (nI b)), some (.int mo)] [.int (k_wi ((I 42 b) + mo) 0 99), .int (nI b), .ref 42] (va_up I 42 (k_mp (I 41 3) (I 42) mo b), J, R) _
          refine ev_iast (j := b) dX7_moveOn_46 rfl rfl (by omega) (by decide) ?_
          refine ev_iincN (a := b) (b := b + 1) (L' := [some (.ref 41), some (.int (nI n)), some (.int mo), some (.int (nI (b + 1))), some (.int mo)]) dX7_moveOn_47 rfl (nI_1 _) rfl ?_
          refine ev_goto (t := 2) dX7_moveOn_50 (by decide) ?_
          have e9 : ti_wr (va_up I 42 (k_mp (I 41 3) (I 42) mo b)) 42 b (k_wi ((I 42 b) + mo) 0 99) = va_up I 42 (k_mp (I 41 3) (I 42) mo (b + 1)) := by rw [ti_wr_up, ← k_mp_s]; simp [k_m1, k_b, c_15]
          rw [e9]
          exact ih _ _ (by omega) (by omega)
  show Ev lyC (d + 1) hX7_moveOn 0 [some (.ref 41), some (.int (nI n)), some (.int mo), none, none] [] (I, J, R) _
  refine ev_iconst (v := 0) dX7_moveOn_0 (by decide) ?_
  refine ev_st (L' := [some (.ref 41), some (.int (nI n)), some (.int mo), some (.int 0), none]) dX7_moveOn_1 rfl rfl ?_
  have K := loop (n + 1) 0 none (by omega) (by omega)
  rw [k_mp_0, va_up_id] at K
  exact K
