/-! the model: sums over sayings, worlds, claims -/
/-- the weight of those, of the first k SAYINGS -/
def m_hv (sy : Nat → Int32) (x : Int32) : Nat → Int32
  | 0 => 0
  | k + 1 => m_hv sy x k + (if m_has x (nI k) = 0 then 0 else sy (4 * k))
/-- which of the first k a man knows, unsaid, true or not as asked -/
def m_kb (sy row : Nat → Int32) (w t : Int32) : Nat → Int32
  | 0 => 0
  | k + 1 => m_kb sy row w t k ||| (if m_kn sy w k = 0 then 0 else if row (16 + k) = 0 then (if m_tr sy k = t then (1 : Int32) <<< (nI k &&& 31) else 0) else 0)
set_option maxHeartbeats 1000000 in
theorem c_heavyOf {I : Nat → Nat → Int32} {J : Nat → Nat → Int64} {R : Nat → Nat → Value} {d ns : Nat} (hns : I 0 6 = nI ns) (hns8 : ns ≤ 8) (x : Int32) : Cal lyM (d + 1) hX12_heavyOf 4 [.ref 0, .int x] (I, J, R) (fun r M' => r = some (.int (m_hv (I 5) x ns)) ∧ M' = (I, J, R)) := by
  have loop : ∀ (k b : Nat) (m : Int32), b ≤ ns → ns - b < k → m = m_hv (I 5) x b → Ev lyM (d + 1) hX12_heavyOf 4 [some (.ref 0), some (.int x), some (.int m), some (.int (nI b))] [] (I, J, R) (fun r M' => r = some (.int (m_hv (I 5) x ns)) ∧ M' = (I, J, R)) := by
    intro k
    induction k with
    | zero => intro b m h1 h2; omega
    | succ k ih =>
      intro b m hb hk hm
      refine ev_st dX12_heavyOf_4 rfl rfl ?_
      refine ev_st dX12_heavyOf_5 rfl rfl ?_
      refine ev_getI (v := nI ns) dX12_heavyOf_6 fr_12_102 rfl rfl hns ?_
      refine ev_ic_geN (t := 38) (a := b) (b := ns) dX12_heavyOf_9 (by decide) rfl rfl (by omega) (by omega) (fun c_9 => ?_) (fun c_9 => ?_)
      · refine ev_st dX12_heavyOf_38 rfl rfl ?_
        exact ev_iret dX12_heavyOf_39 rfl (⟨by rw [hm, show b = ns by omega], rfl⟩)
      · refine ev_st dX12_heavyOf_12 rfl rfl ?_
        refine ev_st dX12_heavyOf_13 rfl rfl ?_
        refine ev_st dX12_heavyOf_14 rfl rfl ?_
        refine ev_call dX12_heavyOf_15 rfl rfl mr_12_201 rfl rfl rfl (c_has x (nI b)) ?_
        rintro _ _ ⟨rfl, rfl⟩
        show Ev lyM (d + 1) hX12_heavyOf 18 [some (.ref 0), some (.int x), some (.int m), some (.int (nI b))] [.int (m_has x (nI b)), .int m] (I, J, R) _
        refine ev_if_eq (t := 29) (x := m_has x (nI b)) dX12_heavyOf_18 (by decide) (fun c_18 => ?_) (fun c_18 => ?_)
        · refine ev_iconst (v := 0) dX12_heavyOf_29 (by decide) ?_
          refine ev_st dX12_heavyOf_30 rfl rfl ?_
          refine ev_st (L' := [some (.ref 0), some (.int x), some (.int (m + 0)), some (.int (nI b))]) dX12_heavyOf_31 rfl rfl ?_
          refine ev_iincN (a := b) (b := b + 1) (L' := [some (.ref 0), some (.int x), some (.int (m + 0)), some (.int (nI (b + 1)))]) dX12_heavyOf_32 rfl (nI_1 _) rfl ?_
          refine ev_goto (t := 4) dX12_heavyOf_35 (by decide) ?_
          exact ih _ _ (by omega) (by omega) (by simp [m_hv, hm, c_18])
        · refine ev_st dX12_heavyOf_21 rfl rfl ?_
          refine ev_st dX12_heavyOf_22 rfl rfl ?_
          refine ev_call dX12_heavyOf_23 rfl rfl mr_12_294 rfl rfl rfl (c_heavy (s := b) (by omega)) ?_
          rintro _ _ ⟨rfl, rfl⟩
          show Ev lyM (d + 1) hX12_heavyOf 26 [some (.ref 0), some (.int x), some (.int m), some (.int (nI b))] [.int (I 5 (4 * b)), .int m] (I, J, R) _
          refine ev_goto (t := 30) dX12_heavyOf_26 (by decide) ?_
          refine ev_st dX12_heavyOf_30 rfl rfl ?_
          refine ev_st (L' := [some (.ref 0), some (.int x), some (.int (m + (I 5 (4 * b)))), some (.int (nI b))]) dX12_heavyOf_31 rfl rfl ?_
          refine ev_iincN (a := b) (b := b + 1) (L' := [some (.ref 0), some (.int x), some (.int (m + (I 5 (4 * b)))), some (.int (nI (b + 1)))]) dX12_heavyOf_32 rfl (nI_1 _) rfl ?_
          refine ev_goto (t := 4) dX12_heavyOf_35 (by decide) ?_
          exact ih _ _ (by omega) (by omega) (by simp [m_hv, hm, c_18])
  show Ev lyM (d + 1) hX12_heavyOf 0 [some (.ref 0), some (.int x), none, none] [] (I, J, R) _
  refine ev_iconst (v := 0) dX12_heavyOf_0 (by decide) ?_
  refine ev_st (L' := [some (.ref 0), some (.int x), some (.int 0), none]) dX12_heavyOf_1 rfl rfl ?_
  refine ev_iconst (v := 0) dX12_heavyOf_2 (by decide) ?_
  refine ev_st (L' := [some (.ref 0), some (.int x), some (.int 0), some (.int 0)]) dX12_heavyOf_3 rfl rfl ?_
  exact loop (ns + 1) 0 0 (by omega) (by omega) rfl
set_option maxHeartbeats 1000000 in
theorem c_knownBy {I : Nat → Nat → Int32} {J : Nat → Nat → Int64} {R : Nat → Nat → Value} {d ns : Nat} (hns : I 0 6 = nI ns) (hns8 : ns ≤ 8) (w t : Int32) : Cal lyM (d + 2) hX12_knownBy 5 [.ref 0, .int w, .int t] (I, J, R) (fun r M' => r = some (.int (m_kb (I 5) (I 1) w t ns)) ∧ M' = (I, J, R)) := by
  have loop : ∀ (k b : Nat) (m : Int32), b ≤ ns → ns - b < k → m = m_kb (I 5) (I 1) w t b → Ev lyM (d + 2) hX12_knownBy 5 [some (.ref 0), some (.int w), some (.int t), some (.int m), some (.int (nI b))] [] (I, J, R) (fun r M' => r = some (.int (m_kb (I 5) (I 1) w t ns)) ∧ M' = (I, J, R)) := by
    intro k
    induction k with
    | zero => intro b m h1 h2; omega
    | succ k ih =>
      intro b m hb hk hm
      refine ev_st dX12_knownBy_5 rfl rfl ?_
      refine ev_st dX12_knownBy_7 rfl rfl ?_
      refine ev_getI (v := nI ns) dX12_knownBy_8 fr_12_102 rfl rfl hns ?_
      refine ev_ic_geN (t := 64) (a := b) (b := ns) dX12_knownBy_11 (by decide) rfl rfl (by omega) (by omega) (fun c_11 => ?_) (fun c_11 => ?_)
      · refine ev_st dX12_knownBy_64 rfl rfl ?_
        exact ev_iret dX12_knownBy_65 rfl (⟨by rw [hm, show b = ns by omega], rfl⟩)
      · refine ev_st dX12_knownBy_14 rfl rfl ?_
        refine ev_st dX12_knownBy_15 rfl rfl ?_
        refine ev_st dX12_knownBy_16 rfl rfl ?_
        refine ev_st dX12_knownBy_17 rfl rfl ?_
        refine ev_call dX12_knownBy_19 rfl rfl mr_12_250 rfl rfl rfl (c_doesKnow (s := b) (by omega) w) ?_
        rintro _ _ ⟨rfl, rfl⟩
        show Ev lyM (d + 2) hX12_knownBy 22 [some (.ref 0), some (.int w), some (.int t), some (.int m), some (.int (nI b))] [.int (m_kn (I 5) w b), .int m] (I, J, R) _
        refine ev_if_eq (t := 55) (x := m_kn (I 5) w b) dX12_knownBy_22 (by decide) (fun c_22 => ?_) (fun c_22 => ?_)
        · refine ev_iconst (v := 0) dX12_knownBy_55 (by decide) ?_
          refine ev_st dX12_knownBy_56 rfl rfl ?_
          refine ev_st (L' := [some (.ref 0), some (.int w), some (.int t), some (.int (m ||| 0)), some (.int (nI b))]) dX12_knownBy_57 rfl rfl ?_
          refine ev_iincN (a := b) (b := b + 1) (L' := [some (.ref 0), some (.int w), some (.int t), some (.int (m ||| 0)), some (.int (nI (b + 1)))]) dX12_knownBy_58 rfl (nI_1 _) rfl ?_
          refine ev_goto (t := 5) dX12_knownBy_61 (by decide) ?_
          exact ih _ _ (by omega) (by omega) (by simp [m_kb, hm, c_22])
        · refine ev_st dX12_knownBy_25 rfl rfl ?_
          refine ev_getC dX12_knownBy_26 fr_12_9 rfl rfl ?_
          refine ev_bipush (v := 16) dX12_knownBy_29 (by decide) ?_
          refine ev_st dX12_knownBy_31 rfl rfl ?_
          refine ev_iaddN (a := 16) (b := b) (c := 16 + b) dX12_knownBy_33 rfl rfl rfl ?_
          refine ev_iald (j := 16 + b) (v := I 1 (16 + b)) dX12_knownBy_34 rfl rfl (by omega) (by decide) rfl ?_
          refine ev_if_ne (t := 55) (x := I 1 (16 + b)) dX12_knownBy_35 (by decide) (fun c_35 => ?_) (fun c_35 => ?_)
          · refine ev_iconst (v := 0) dX12_knownBy_55 (by decide) ?_
            refine ev_st dX12_knownBy_56 rfl rfl ?_
            refine ev_st (L' := [some (.ref 0), some (.int w), some (.int t), some (.int (m ||| 0)), some (.int (nI b))]) dX12_knownBy_57 rfl rfl ?_
            refine ev_iincN (a := b) (b := b + 1) (L' := [some (.ref 0), some (.int w), some (.int t), some (.int (m ||| 0)), some (.int (nI (b + 1)))]) dX12_knownBy_58 rfl (nI_1 _) rfl ?_
            refine ev_goto (t := 5) dX12_knownBy_61 (by decide) ?_
            exact ih _ _ (by omega) (by omega) (by simp [m_kb, hm, c_22, c_35])
          · refine ev_st dX12_knownBy_38 rfl rfl ?_
            refine ev_st dX12_knownBy_39 rfl rfl ?_
            refine ev_call dX12_knownBy_41 rfl rfl mr_12_291 rfl rfl rfl (c_isTrue (s := b) (by omega)) ?_
            rintro _ _ ⟨rfl, rfl⟩
            show Ev lyM (d + 2) hX12_knownBy 44 [some (.ref 0), some (.int w), some (.int t), some (.int m), some (.int (nI b))] [.int (m_tr (I 5) b), .int m] (I, J, R) _
            refine ev_st dX12_knownBy_44 rfl rfl ?_
            refine ev_ic_ne (t := 55) (x := m_tr (I 5) b) (y := t) dX12_knownBy_45 (by decide) (fun c_45 => ?_) (fun c_45 => ?_)
            · refine ev_iconst (v := 0) dX12_knownBy_55 (by decide) ?_
              refine ev_st dX12_knownBy_56 rfl rfl ?_
              refine ev_st (L' := [some (.ref 0), some (.int w), some (.int t), some (.int (m ||| 0)), some (.int (nI b))]) dX12_knownBy_57 rfl rfl ?_
              refine ev_iincN (a := b) (b := b + 1) (L' := [some (.ref 0), some (.int w), some (.int t), some (.int (m ||| 0)), some (.int (nI (b + 1)))]) dX12_knownBy_58 rfl (nI_1 _) rfl ?_
              refine ev_goto (t := 5) dX12_knownBy_61 (by decide) ?_
              exact ih _ _ (by omega) (by omega) (by simp [m_kb, hm, c_22, c_35, c_45])
            · refine ev_iconst (v := 1) dX12_knownBy_48 (by decide) ?_
              refine ev_st dX12_knownBy_49 rfl rfl ?_
              refine ev_st dX12_knownBy_51 rfl rfl ?_
              refine ev_goto (t := 56) dX12_knownBy_52 (by decide) ?_
              refine ev_st dX12_knownBy_56 rfl rfl ?_
              refine ev_st (L' := [some (.ref 0), some (.int w), some (.int t), some (.int (m ||| (1 <<< ((nI b) &&& 31)))), some (.int (nI b))]) dX12_knownBy_57 rfl rfl ?_
              refine ev_iincN (a := b) (b := b + 1) (L' := [some (.ref 0), some (.int w), some (.int t), some (.int (m ||| (1 <<< ((nI b) &&& 31)))), some (.int (nI (b + 1)))]) dX12_knownBy_58 rfl (nI_1 _) rfl ?_
              refine ev_goto (t := 5) dX12_knownBy_61 (by decide) ?_
              exact ih _ _ (by omega) (by omega) (by simp [m_kb, hm, c_22, c_35, c_45])
  show Ev lyM (d + 2) hX12_knownBy 0 [some (.ref 0), some (.int w), some (.int t), none, none] [] (I, J, R) _
  refine ev_iconst (v := 0) dX12_knownBy_0 (by decide) ?_
  refine ev_st (L' := [some (.ref 0), some (.int w), some (.int t), some (.int 0), none]) dX12_knownBy_1 rfl rfl ?_
  refine ev_iconst (v := 0) dX12_knownBy_2 (by decide) ?_
  refine ev_st (L' := [some (.ref 0), some (.int w), some (.int t), some (.int 0), some (.int 0)]) dX12_knownBy_3 rfl rfl ?_
  exact loop (ns + 1) 0 0 (by omega) (by omega) rfl
set_option maxHeartbeats 1000000 in
theorem c_saidBits {I : Nat → Nat → Int32} {J : Nat → Nat → Int64} {R : Nat → Nat → Value} {d ns : Nat} (hns : I 0 6 = nI ns) (hns8 : ns ≤ 8) : Cal lyM d hX12_saidBits 3 [.ref 0] (I, J, R) (fun r M' => r = some (.int (m_bt (fun s => I 1 (16 + s)) ns)) ∧ M' = (I, J, R)) := by
  have loop : ∀ (k b : Nat) (m : Int32), b ≤ ns → ns - b < k → m = m_bt (fun s => I 1 (16 + s)) b → Ev lyM d hX12_saidBits 4 [some (.ref 0), some (.int m), some (.int (nI b))] [] (I, J, R) (fun r M' => r = some (.int (m_bt (fun s => I 1 (16 + s)) ns)) ∧ M' = (I, J, R)) := by
    intro k
    induction k with
    | zero => intro b m h1 h2; omega
    | succ k ih =>
      intro b m hb hk hm
      refine ev_st dX12_saidBits_4 rfl rfl ?_
      refine ev_st dX12_saidBits_5 rfl rfl ?_
      refine ev_getI (v := nI ns) dX12_saidBits_6 fr_12_102 rfl rfl hns ?_
      refine ev_ic_geN (t := 32) (a := b) (b := ns) dX12_saidBits_9 (by decide) rfl rfl (by omega) (by omega) (fun c_9 => ?_) (fun c_9 => ?_)
      · refine ev_st dX12_saidBits_32 rfl rfl ?_
        exact ev_iret dX12_saidBits_33 rfl (⟨by rw [hm, show b = ns by omega], rfl⟩)
      · refine ev_st dX12_saidBits_12 rfl rfl ?_
        refine ev_st dX12_saidBits_13 rfl rfl ?_
        refine ev_getC dX12_saidBits_14 fr_12_9 rfl rfl ?_
        refine ev_bipush (v := 16) dX12_saidBits_17 (by decide) ?_
        refine ev_st dX12_saidBits_19 rfl rfl ?_
        refine ev_iaddN (a := 16) (b := b) (c := 16 + b) dX12_saidBits_20 rfl rfl rfl ?_
        refine ev_iald (j := 16 + b) (v := I 1 (16 + b)) dX12_saidBits_21 rfl rfl (by omega) (by decide) rfl ?_
        refine ev_st dX12_saidBits_22 rfl rfl ?_
        refine ev_st dX12_saidBits_23 rfl rfl ?_
        refine ev_st dX12_saidBits_24 rfl rfl ?_
        refine ev_st (L' := [some (.ref 0), some (.int (m ||| ((I 1 (16 + b)) <<< ((nI b) &&& 31)))), some (.int (nI b))]) dX12_saidBits_25 rfl rfl ?_
        refine ev_iincN (a := b) (b := b + 1) (L' := [some (.ref 0), some (.int (m ||| ((I 1 (16 + b)) <<< ((nI b) &&& 31)))), some (.int (nI (b + 1)))]) dX12_saidBits_26 rfl (nI_1 _) rfl ?_
        refine ev_goto (t := 4) dX12_saidBits_29 (by decide) ?_
        exact ih _ _ (by omega) (by omega) (by simp [m_bt, hm])
  show Ev lyM d hX12_saidBits 0 [some (.ref 0), none, none] [] (I, J, R) _
  refine ev_iconst (v := 0) dX12_saidBits_0 (by decide) ?_
  refine ev_st (L' := [some (.ref 0), some (.int 0), none]) dX12_saidBits_1 rfl rfl ?_
  refine ev_iconst (v := 0) dX12_saidBits_2 (by decide) ?_
  refine ev_st (L' := [some (.ref 0), some (.int 0), some (.int 0)]) dX12_saidBits_3 rfl rfl ?_
  exact loop (ns + 1) 0 0 (by omega) (by omega) rfl
/-- all below k -/
def allB (f : Nat → Bool) : Nat → Bool
  | 0 => true
  | k + 1 => allB f k && f k
theorem allB_f {f : Nat → Bool} {b : Nat} (h : f b = false) : ∀ n, b < n → allB f n = false
  | 0, q => by omega
  | n + 1, q => by
    simp only [allB]
    by_cases hb : b = n
    · subst hb; rw [h]; simp
    · rw [allB_f h n (by omega)]; simp
/-- does the set know those -/
def m_cv (sy : Nat → Int32) (w x : Int32) : Nat → Bool := allB (fun k => m_has x (nI k) == 0 || !((sy (4 * k + 3) &&& w) == 0))
def b2i (b : Bool) : Int32 := if b then 1 else 0
theorem b2i01 (b : Bool) : b2i b = 0 ∨ b2i b = 1 := by cases b <;> decide
set_option maxHeartbeats 1000000 in
theorem c_doCover {I : Nat → Nat → Int32} {J : Nat → Nat → Int64} {R : Nat → Nat → Value} {d ns : Nat} (hns : I 0 6 = nI ns) (hns8 : ns ≤ 8) (w x : Int32) : Cal lyM (d + 1) hX12_doCover 4 [.ref 0, .int w, .int x] (I, J, R) (fun r M' => r = some (.int (b2i (m_cv (I 5) w x ns))) ∧ M' = (I, J, R)) := by
  have loop : ∀ (k b : Nat), b ≤ ns → ns - b < k → m_cv (I 5) w x b = true → Ev lyM (d + 1) hX12_doCover 2 [some (.ref 0), some (.int w), some (.int x), some (.int (nI b))] [] (I, J, R) (fun r M' => r = some (.int (b2i (m_cv (I 5) w x ns))) ∧ M' = (I, J, R)) := by
    intro k
    induction k with
    | zero => intro b h1 h2; omega
    | succ k ih =>
      intro b hb hk hm
      refine ev_st dX12_doCover_2 rfl rfl ?_
      refine ev_st dX12_doCover_3 rfl rfl ?_
      refine ev_getI (v := nI ns) dX12_doCover_4 fr_12_102 rfl rfl hns ?_
      refine ev_ic_geN (t := 41) (a := b) (b := ns) dX12_doCover_7 (by decide) rfl rfl (by omega) (by omega) (fun c_7 => ?_) (fun c_7 => ?_)
      · refine ev_iconst (v := 1) dX12_doCover_41 (by decide) ?_
        exact ev_zret dX12_doCover_42 rfl (by decide) (⟨by rw [← show b = ns by omega, hm]; rfl, rfl⟩)
      · refine ev_st dX12_doCover_10 rfl rfl ?_
        refine ev_st dX12_doCover_11 rfl rfl ?_
        refine ev_call dX12_doCover_12 rfl rfl mr_12_201 rfl rfl rfl (c_has x (nI b)) ?_
        rintro _ _ ⟨rfl, rfl⟩
        show Ev lyM (d + 1) hX12_doCover 15 [some (.ref 0), some (.int w), some (.int x), some (.int (nI b))] [.int (m_has x (nI b))] (I, J, R) _
        refine ev_if_eq (t := 35) (x := m_has x (nI b)) dX12_doCover_15 (by decide) (fun c_15 => ?_) (fun c_15 => ?_)
        · refine ev_iincN (a := b) (b := b + 1) (L' := [some (.ref 0), some (.int w), some (.int x), some (.int (nI (b + 1)))]) dX12_doCover_35 rfl (nI_1 _) rfl ?_
          refine ev_goto (t := 2) dX12_doCover_38 (by decide) ?_
          exact ih _ (by omega) (by omega) (by simp only [m_cv, allB]; simp only [m_cv] at hm; rw [hm]; simp [c_15])
        · refine ev_st dX12_doCover_18 rfl rfl ?_
          refine ev_getC dX12_doCover_19 fr_12_26 rfl rfl ?_
          refine ev_iconst (v := 4) dX12_doCover_22 (by decide) ?_
          refine ev_st dX12_doCover_23 rfl rfl ?_
          refine ev_imulN (a := 4) (b := b) (c := 4 * b) dX12_doCover_24 rfl rfl rfl ?_
          refine ev_iconst (v := 3) dX12_doCover_25 (by decide) ?_
          refine ev_iaddN (a := 4 * b) (b := 3) (c := 4 * b + 3) dX12_doCover_26 rfl rfl rfl ?_
          refine ev_iald (j := 4 * b + 3) (v := I 5 (4 * b + 3)) dX12_doCover_27 rfl rfl (by omega) (by decide) rfl ?_
          refine ev_st dX12_doCover_28 rfl rfl ?_
          refine ev_st dX12_doCover_29 rfl rfl ?_
          refine ev_if_ne (t := 35) (x := (I 5 (4 * b + 3)) &&& w) dX12_doCover_30 (by decide) (fun c_30 => ?_) (fun c_30 => ?_)
          · refine ev_iincN (a := b) (b := b + 1) (L' := [some (.ref 0), some (.int w), some (.int x), some (.int (nI (b + 1)))]) dX12_doCover_35 rfl (nI_1 _) rfl ?_
            refine ev_goto (t := 2) dX12_doCover_38 (by decide) ?_
            exact ih _ (by omega) (by omega) (by simp only [m_cv, allB]; simp only [m_cv] at hm; rw [hm]; simp [c_15, c_30])
          · refine ev_iconst (v := 0) dX12_doCover_33 (by decide) ?_
            exact ev_zret dX12_doCover_34 rfl (by decide) (⟨by rw [show m_cv (I 5) w x ns = false from allB_f (b := b) (by simp [c_15, c_30]) ns c_7]; rfl, rfl⟩)
  show Ev lyM (d + 1) hX12_doCover 0 [some (.ref 0), some (.int w), some (.int x), none] [] (I, J, R) _
  refine ev_iconst (v := 0) dX12_doCover_0 (by decide) ?_
  refine ev_st (L' := [some (.ref 0), some (.int w), some (.int x), some (.int 0)]) dX12_doCover_1 rfl rfl ?_
  exact loop (ns + 1) 0 (by omega) (by omega) rfl
theorem c_lighter0 {I : Nat → Nat → Int32} {J : Nat → Nat → Int64} {R : Nat → Nat → Value} {d : Nat} {x : Int32} (hx : ix 4 x = none) : Cal lyM (d + 4) hX12_lighter 2 [.ref 0, .int x] (I, J, R) (fun r M' => r = some (.int (-1)) ∧ M' = (ti_wr I 0 12 0, J, R)) := by
  show Ev lyM (d + 4) hX12_lighter 0 [some (.ref 0), some (.int x)] [] (I, J, R) _
  refine ev_st dX12_lighter_0 rfl rfl ?_
  refine ev_iconst (v := 0) dX12_lighter_1 (by decide) ?_
  refine ev_putI dX12_lighter_2 fr_12_89 rfl rfl ?_
  refine ev_st dX12_lighter_5 rfl rfl ?_
  refine ev_call dX12_lighter_6 rfl rfl mr_12_285 rfl rfl rfl ((by have K := c_isSeventh (lay := lyM) (M := (ti_wr I 0 12 0, J, R)) (d := d + 2) x; simp only [hx, Option.isSome] at K; exact K)) ?_
  rintro _ _ ⟨rfl, rfl⟩
  show Ev lyM (d + 4) hX12_lighter 9 [some (.ref 0), some (.int x)] [.int 0] (ti_wr I 0 12 0, J, R) _
  refine ev_if_ne (t := 14) dX12_lighter_9 (by decide) (fun q => absurd q (by decide)) (fun _ => ?_)
  refine ev_iconst (v := -1) dX12_lighter_12 (by decide) ?_
  exact ev_iret dX12_lighter_13 rfl (⟨rfl, rfl⟩)
set_option maxHeartbeats 1000000 in
theorem c_lighter {I : Nat → Nat → Int32} {J : Nat → Nat → Int64} {R : Nat → Nat → Value} {d ns j : Nat} (hns : I 0 6 = nI ns) (hns8 : ns ≤ 8) {x : Int32} (hx : ix 4 x = some j) : Cal lyM (d + 4) hX12_lighter 2 [.ref 0, .int x] (I, J, R) (fun r M' => r = some (.int (m_hv (I 5) (m_kb (I 5) (I 1) x 1 ns) ns)) ∧ M' = (ti_wr (ti_wr I 0 12 0) 0 11 (nI 1), ti_wl J 7 0 (m_kb (I 5) (I 1) x 1 ns).toInt64, R)) := by
  show Ev lyM (d + 4) hX12_lighter 0 [some (.ref 0), some (.int x)] [] (I, J, R) _
  refine ev_st dX12_lighter_0 rfl rfl ?_
  refine ev_iconst (v := 0) dX12_lighter_1 (by decide) ?_
  refine ev_putI dX12_lighter_2 fr_12_89 rfl rfl ?_
  refine ev_st dX12_lighter_5 rfl rfl ?_
  refine ev_call dX12_lighter_6 rfl rfl mr_12_285 rfl rfl rfl ((by have K := c_isSeventh (lay := lyM) (M := (ti_wr I 0 12 0, J, R)) (d := d + 2) x; simp only [hx, Option.isSome] at K; exact K)) ?_
  rintro _ _ ⟨rfl, rfl⟩
  show Ev lyM (d + 4) hX12_lighter 9 [some (.ref 0), some (.int x)] [.int 1] (ti_wr I 0 12 0, J, R) _
  refine ev_if_ne (t := 14) dX12_lighter_9 (by decide) (fun _ => ?_) (fun q => absurd q (by decide))
  refine ev_st dX12_lighter_14 rfl rfl ?_
  refine ev_iconst (v := 0) dX12_lighter_15 (by decide) ?_
  refine ev_putI dX12_lighter_16 fr_12_92 rfl rfl ?_
  refine ev_st dX12_lighter_19 rfl rfl ?_
  refine ev_st dX12_lighter_20 rfl rfl ?_
  refine ev_st dX12_lighter_21 rfl rfl ?_
  refine ev_iconst (v := 1) dX12_lighter_22 (by decide) ?_
  refine ev_call dX12_lighter_23 rfl rfl mr_12_339 rfl rfl rfl (c_knownBy (I := ti_wr (ti_wr I 0 12 0) 0 11 0) hns hns8 x 1) ?_
  rintro _ _ ⟨rfl, rfl⟩
  show Ev lyM (d + 4) hX12_lighter 26 [some (.ref 0), some (.int x)] [.int (m_kb (I 5) (I 1) x 1 ns), .ref 0] (ti_wr (ti_wr I 0 12 0) 0 11 0, J, R) _
  refine ev_st dX12_lighter_26 rfl rfl ?_
  refine ev_call dX12_lighter_27 rfl rfl mr_12_253 rfl rfl rfl (c_tell (m := 0) rfl (by decide) ((m_kb (I 5) (I 1) x 1 ns).toInt64)) ?_
  rintro _ _ ⟨rfl, rfl⟩
  show Ev lyM (d + 4) hX12_lighter 30 [some (.ref 0), some (.int x)] [] (ti_wr (ti_wr (ti_wr I 0 12 0) 0 11 0) 0 11 (nI 1), ti_wl J 7 0 ((m_kb (I 5) (I 1) x 1 ns).toInt64), R) _
  refine ev_st dX12_lighter_30 rfl rfl ?_
  refine ev_st dX12_lighter_31 rfl rfl ?_
  refine ev_st dX12_lighter_32 rfl rfl ?_
  refine ev_iconst (v := 1) dX12_lighter_33 (by decide) ?_
  refine ev_call dX12_lighter_34 rfl rfl mr_12_339 rfl rfl rfl (c_knownBy (I := ti_wr (ti_wr (ti_wr I 0 12 0) 0 11 0) 0 11 (nI 1)) hns hns8 x 1) ?_
  rintro _ _ ⟨rfl, rfl⟩
  show Ev lyM (d + 4) hX12_lighter 37 [some (.ref 0), some (.int x)] [.int (m_kb (I 5) (I 1) x 1 ns), .ref 0] (ti_wr (ti_wr (ti_wr I 0 12 0) 0 11 0) 0 11 (nI 1), ti_wl J 7 0 ((m_kb (I 5) (I 1) x 1 ns).toInt64), R) _
  refine ev_call dX12_lighter_37 rfl rfl mr_12_343 rfl rfl rfl (c_heavyOf (I := ti_wr (ti_wr (ti_wr I 0 12 0) 0 11 0) 0 11 (nI 1)) hns hns8 (m_kb (I 5) (I 1) x 1 ns)) ?_
  rintro _ _ ⟨rfl, rfl⟩
  show Ev lyM (d + 4) hX12_lighter 40 [some (.ref 0), some (.int x)] [.int (m_hv (I 5) (m_kb (I 5) (I 1) x 1 ns) ns)] (ti_wr (ti_wr (ti_wr I 0 12 0) 0 11 0) 0 11 (nI 1), ti_wl J 7 0 ((m_kb (I 5) (I 1) x 1 ns).toInt64), R) _
  exact ev_iret dX12_lighter_40 rfl (⟨rfl, by simp only [ti_wr2]⟩)
