/-! the model, small methods -/
def m_in (v a b : Int32) : Int32 := if v < a then 0 else if b < v then 0 else 1
def m_has (x k : Int32) : Int32 := if (x >>> (k &&& 31)) &&& 1 = 1 then 1 else 0
theorem c_in {lay : List TE} {M : TM} {d : Nat} (v a b : Int32) : Cal lay d hX12_in 3 [.int v, .int a, .int b] M (fun r M' => r = some (.int (m_in v a b)) ∧ M' = M) := by
  show Ev lay d hX12_in 0 [some (.int v), some (.int a), some (.int b)] [] M _
  refine ev_st dX12_in_0 rfl rfl ?_
  refine ev_st dX12_in_1 rfl rfl ?_
  refine ev_ic_lt (t := 14) (x := v) (y := a) dX12_in_2 (by decide) (fun c_2 => ?_) (fun c_2 => ?_)
  · refine ev_iconst (v := 0) dX12_in_14 (by decide) ?_
    exact ev_zret dX12_in_15 rfl (by decide) (⟨by simp [m_in, c_2], rfl⟩)
  · refine ev_st dX12_in_5 rfl rfl ?_
    refine ev_st dX12_in_6 rfl rfl ?_
    refine ev_ic_gt (t := 14) (x := v) (y := b) dX12_in_7 (by decide) (fun c_7 => ?_) (fun c_7 => ?_)
    · refine ev_iconst (v := 0) dX12_in_14 (by decide) ?_
      exact ev_zret dX12_in_15 rfl (by decide) (⟨by simp [m_in, c_2, c_7], rfl⟩)
    · refine ev_iconst (v := 1) dX12_in_10 (by decide) ?_
      refine ev_goto (t := 15) dX12_in_11 (by decide) ?_
      exact ev_zret dX12_in_15 rfl (by decide) (⟨by simp [m_in, c_2, c_7], rfl⟩)
theorem c_has {lay : List TE} {M : TM} {d : Nat} (x k : Int32) : Cal lay d hX12_has 2 [.int x, .int k] M (fun r M' => r = some (.int (m_has x k)) ∧ M' = M) := by
  show Ev lay d hX12_has 0 [some (.int x), some (.int k)] [] M _
  refine ev_st dX12_has_0 rfl rfl ?_
  refine ev_st dX12_has_1 rfl rfl ?_
  refine ev_st dX12_has_2 rfl rfl ?_
  refine ev_iconst (v := 1) dX12_has_3 (by decide) ?_
  refine ev_st dX12_has_4 rfl rfl ?_
  refine ev_iconst (v := 1) dX12_has_5 (by decide) ?_
  refine ev_ic_ne (t := 13) (x := (x >>> (k &&& 31)) &&& 1) (y := 1) dX12_has_6 (by decide) (fun c_6 => ?_) (fun c_6 => ?_)
  · refine ev_iconst (v := 0) dX12_has_13 (by decide) ?_
    exact ev_zret dX12_has_14 rfl (by decide) (⟨by simp [m_has, c_6], rfl⟩)
  · refine ev_iconst (v := 1) dX12_has_9 (by decide) ?_
    refine ev_goto (t := 14) dX12_has_10 (by decide) ?_
    exact ev_zret dX12_has_14 rfl (by decide) (⟨by simp [m_has, c_6], rfl⟩)
/-- the greatest height of those, of the first n -/
def m_tl (t : Nat → Int32) (x : Int32) : Nat → Int32
  | 0 => 0
  | n + 1 => if m_has x (nI n) = 0 then m_tl t x n else if m_tl t x n < t n then t n else m_tl t x n
theorem c_tallest {I : Nat → Nat → Int32} {J : Nat → Nat → Int64} {R : Nat → Nat → Value} {n d : Nat} (hn : I 0 3 = nI n) (hn8 : n ≤ 8) (x : Int32) : Cal lyM (d + 1) hX12_tallest 4 [.ref 0, .int x] (I, J, R) (fun r M' => r = some (.int (m_tl (I 4) x n)) ∧ M' = (I, J, R)) := by
  have loop : ∀ (k b : Nat) (m : Int32), b ≤ n → n - b < k → m = m_tl (I 4) x b → Ev lyM (d + 1) hX12_tallest 4 [some (.ref 0), some (.int x), some (.int m), some (.int (nI b))] [] (I, J, R) (fun r M' => r = some (.int (m_tl (I 4) x n)) ∧ M' = (I, J, R)) := by
    intro k
    induction k with
    | zero => intro b m h1 h2; omega
    | succ k ih =>
      intro b m hb hk hm
      refine ev_st dX12_tallest_4 rfl rfl ?_
      refine ev_st dX12_tallest_5 rfl rfl ?_
      refine ev_getI (v := nI n) dX12_tallest_6 fr_12_95 rfl rfl hn ?_
      refine ev_ic_geN (t := 37) (a := b) (b := n) dX12_tallest_9 (by decide) rfl rfl (by omega) (by omega) (fun c_9 => ?_) (fun c_9 => ?_)
      · refine ev_st dX12_tallest_37 rfl rfl ?_
        exact ev_iret dX12_tallest_38 rfl (⟨by rw [hm, show b = n by omega], rfl⟩)
      · refine ev_st dX12_tallest_12 rfl rfl ?_
        refine ev_st dX12_tallest_13 rfl rfl ?_
        refine ev_call dX12_tallest_14 rfl rfl mr_12_201 rfl rfl rfl (c_has x (nI b)) ?_
        rintro _ _ ⟨rfl, rfl⟩
        show Ev lyM (d + 1) hX12_tallest 17 [some (.ref 0), some (.int x), some (.int m), some (.int (nI b))] [.int (m_has x (nI b))] (I, J, R) _
        refine ev_if_eq (t := 31) (x := m_has x (nI b)) dX12_tallest_17 (by decide) (fun c_17 => ?_) (fun c_17 => ?_)
        · refine ev_iincN (a := b) (b := b + 1) (L' := [some (.ref 0), some (.int x), some (.int m), some (.int (nI (b + 1)))]) dX12_tallest_31 rfl (nI_1 _) rfl ?_
          refine ev_goto (t := 4) dX12_tallest_34 (by decide) ?_
          exact ih _ _ (by omega) (by omega) (by simp [m_tl, hm, c_17])
        · refine ev_st dX12_tallest_20 rfl rfl ?_
          refine ev_st dX12_tallest_21 rfl rfl ?_
          refine ev_getC dX12_tallest_22 fr_12_23 rfl rfl ?_
          refine ev_st dX12_tallest_25 rfl rfl ?_
          refine ev_iald (j := b) (v := I 4 b) dX12_tallest_26 rfl rfl (by omega) (by decide) rfl ?_
          refine ev_max (v := if m < (I 4 b) then (I 4 b) else m) dX12_tallest_27 br_12_205 rfl rfl ?_
          refine ev_st (L' := [some (.ref 0), some (.int x), some (.int (if m < (I 4 b) then (I 4 b) else m)), some (.int (nI b))]) dX12_tallest_30 rfl rfl ?_
          refine ev_iincN (a := b) (b := b + 1) (L' := [some (.ref 0), some (.int x), some (.int (if m < (I 4 b) then (I 4 b) else m)), some (.int (nI (b + 1)))]) dX12_tallest_31 rfl (nI_1 _) rfl ?_
          refine ev_goto (t := 4) dX12_tallest_34 (by decide) ?_
          exact ih _ _ (by omega) (by omega) (by simp [m_tl, hm, c_17])
  show Ev lyM (d + 1) hX12_tallest 0 [some (.ref 0), some (.int x), none, none] [] (I, J, R) _
  refine ev_iconst (v := 0) dX12_tallest_0 (by decide) ?_
  refine ev_st (L' := [some (.ref 0), some (.int x), some (.int 0), none]) dX12_tallest_1 rfl rfl ?_
  refine ev_iconst (v := 0) dX12_tallest_2 (by decide) ?_
  refine ev_st (L' := [some (.ref 0), some (.int x), some (.int 0), some (.int 0)]) dX12_tallest_3 rfl rfl ?_
  exact loop (n + 1) 0 0 (by omega) (by omega) rfl
