/-! the class: ways, bearers, the rule's word, force -/
def k_wi (v a b : Int32) : Int32 := if v < a then a else if b < v then b else v
/-- a bit -/
def k_b (x k : Int32) : Int32 := (x >>> (k &&& 31)) &&& 1
def k_tl (t : Nat → Int32) (x : Int32) : Nat → Int32
  | 0 => 0
  | n + 1 => if k_b x (nI n) = 0 then k_tl t x n else if k_tl t x n < t n then t n else k_tl t x n
/-- what a Rule may leave behind: its stack and its names -/
def sC (I I2 : Nat → Nat → Int32) : Prop := ∀ p, p ≠ 33 → p ≠ 34 → p ≠ 37 → p ≠ 38 → I2 p = I p
theorem sC.rf {I : Nat → Nat → Int32} : sC I I := fun _ _ _ _ _ => rfl
theorem sC.tr {I I2 I3 : Nat → Nat → Int32} (h : sC I I2) (g : sC I2 I3) : sC I I3 := fun p a b c d => (g p a b c d).trans (h p a b c d)
theorem sC.r {I I2 : Nat → Nat → Int32} (h : sC I I2) (p : Nat) (hp : (p != 33 && (p != 34 && (p != 37 && p != 38))) = true) : I2 p = I p := by
  simp at hp
  exact h p hp.1 hp.2.1 hp.2.2.1 hp.2.2.2
/-- THE RULE in the object at p: z steps that tell rv -/
def RC (d p : Nat) (s : Nat → Int32) (z : Nat) (rv : RV) : Prop := z ≤ 40 ∧ (0 < z → ∀ (I : Nat → Nat → Int32) (J : Nat → Nat → Int64) (R : Nat → Nat → Value), I (p + 1) = s → I p 3 = nI z →
  Cal lyC (d + 2) hX5_compute 4 [.ref p] (I, J, R) (fun r M => r = some (.int (rv (I (p + 3) 0) (I (p + 3) 1) (I (p + 3) 2) (I (p + 3) 3) (I (p + 3) 4) (I (p + 3) 5) (I (p + 3) 6))) ∧ ∃ g, M = (va_up I (p + 2) g, J, R)))
def k_be (z : Nat) (rv : RV) (s t h x n c i : Int32) : Int32 := if z = 0 then k_wi (s - t / 3 - (x - h)) 0 99 else k_wi (rv s t h x n c i) 0 99
def k_fo (z : Nat) (rv : RV) (str tl a : Nat → Int32) (mo st x : Int32) : Nat → Int32
  | 0 => 0
  | k + 1 => if k_b x (nI k) = 0 then k_fo z rv str tl a mo st x k else k_fo z rv str tl a mo st x k + k_be z rv (str k) (a k) (tl k) mo (bc x) st (nI k)
theorem k_within {lay : List TE} {M : TM} {d : Nat} (v a b : Int32) : Cal lay d hX11_within 3 [.int v, .int a, .int b] M (fun r M' => r = some (.int (k_wi v a b)) ∧ M' = M) := by
  show Ev lay d hX11_within 0 [some (.int v), some (.int a), some (.int b)] [] M _
  refine ev_st dX11_within_0 rfl rfl ?_
  refine ev_st dX11_within_1 rfl rfl ?_
  refine ev_ic_ge (t := 9) (x := v) (y := a) dX11_within_2 (by decide) (fun c_2 => ?_) (fun c_2 => ?_)
  · refine ev_st dX11_within_9 rfl rfl ?_
    refine ev_st dX11_within_10 rfl rfl ?_
    refine ev_ic_le (t := 18) (x := v) (y := b) dX11_within_11 (by decide) (fun c_11 => ?_) (fun c_11 => ?_)
    · refine ev_st dX11_within_18 rfl rfl ?_
      exact ev_iret dX11_within_19 rfl (⟨by simp [k_wi, c_2, c_11], rfl⟩)
    · refine ev_st dX11_within_14 rfl rfl ?_
      refine ev_goto (t := 19) dX11_within_15 (by decide) ?_
      exact ev_iret dX11_within_19 rfl (⟨by simp [k_wi, c_2, c_11], rfl⟩)
  · refine ev_st dX11_within_5 rfl rfl ?_
    refine ev_goto (t := 19) dX11_within_6 (by decide) ?_
    exact ev_iret dX11_within_19 rfl (⟨by simp [k_wi, c_2], rfl⟩)
theorem k_steepAt {I : Nat → Nat → Int32} {J : Nat → Nat → Int64} {R : Nat → Nat → Value} {d c a : Nat} (hc : I 5 2 = nI c) (hc12 : c ≤ 12) (ha12 : a ≤ 12) : Cal lyC d hX10_steepAt 2 [.ref 5, .int (nI a)] (I, J, R) (fun r M' => r = some (.int (m_st c (I 6) a)) ∧ M' = (I, J, R)) := by
  show Ev lyC d hX10_steepAt 0 [some (.ref 5), some (.int (nI a))] [] (I, J, R) _
  refine ev_st dX10_steepAt_0 rfl rfl ?_
  refine ev_if_ltN (t := 21) (a := a) dX10_steepAt_1 (by decide) rfl (by omega) ?_
  refine ev_st dX10_steepAt_4 rfl rfl ?_
  refine ev_st dX10_steepAt_5 rfl rfl ?_
  refine ev_getI (v := nI c) dX10_steepAt_6 fr_10_18 rfl rfl hc ?_
  refine ev_ic_geN (t := 21) (a := a) (b := c) dX10_steepAt_9 (by decide) rfl rfl (by omega) (by omega) (fun c_9 => ?_) (fun c_9 => ?_)
  · refine ev_iconst (v := 0) dX10_steepAt_21 (by decide) ?_
    exact ev_iret dX10_steepAt_22 rfl (⟨by simp [m_st, Nat.not_lt.mpr c_9], rfl⟩)
  · refine ev_st dX10_steepAt_12 rfl rfl ?_
    refine ev_getC dX10_steepAt_13 fr_10_9 rfl rfl ?_
    refine ev_st dX10_steepAt_16 rfl rfl ?_
    refine ev_iald (j := a) (v := I 6 a) dX10_steepAt_17 rfl rfl (by omega) (by decide) rfl ?_
    refine ev_goto (t := 22) dX10_steepAt_18 (by decide) ?_
    exact ev_iret dX10_steepAt_22 rfl (⟨by simp [m_st, c_9], rfl⟩)
theorem k_X0_has {I : Nat → Nat → Int32} {J : Nat → Nat → Int64} {R : Nat → Nat → Value} {d n : Nat} (hn : I 8 3 = nI n) (x : Int32) : Cal lyC d hX0_has 2 [.ref 8, .int x] (I, J, R) (fun r M' => r = some (.int (if (ix n x).isSome then 1 else 0)) ∧ M' = (I, J, R)) := by
  show Ev lyC d hX0_has 0 [some (.ref 8), some (.int x)] [] (I, J, R) _
  refine ev_st dX0_has_0 rfl rfl ?_
  refine ev_if_lt (t := 16) (x := x) dX0_has_1 (by decide) (fun c_1 => ?_) (fun c_1 => ?_)
  · refine ev_iconst (v := 0) dX0_has_16 (by decide) ?_
    exact ev_zret dX0_has_17 rfl (by decide) (⟨by simp [ix, Int32.not_le.mpr c_1], rfl⟩)
  · refine ev_st dX0_has_4 rfl rfl ?_
    refine ev_st dX0_has_5 rfl rfl ?_
    refine ev_getI (v := nI n) dX0_has_6 fr_0_22 rfl rfl hn ?_
    refine ev_ic_ge (t := 16) (x := x) (y := nI n) dX0_has_9 (by decide) (fun c_9 => ?_) (fun c_9 => ?_)
    · refine ev_iconst (v := 0) dX0_has_16 (by decide) ?_
      exact ev_zret dX0_has_17 rfl (by decide) (⟨by simp [ix, Int32.not_lt.mp c_1, c_9], rfl⟩)
    · refine ev_iconst (v := 1) dX0_has_12 (by decide) ?_
      refine ev_goto (t := 17) dX0_has_13 (by decide) ?_
      exact ev_zret dX0_has_17 rfl (by decide) (⟨by simp [ix, Int32.not_lt.mp c_1, c_9], rfl⟩)
theorem k_X6_has {I : Nat → Nat → Int32} {J : Nat → Nat → Int64} {R : Nat → Nat → Value} {d n : Nat} (hn : I 11 4 = nI n) (x : Int32) : Cal lyC d hX6_has 2 [.ref 11, .int x] (I, J, R) (fun r M' => r = some (.int (if (ix n x).isSome then 1 else 0)) ∧ M' = (I, J, R)) := by
  show Ev lyC d hX6_has 0 [some (.ref 11), some (.int x)] [] (I, J, R) _
  refine ev_st dX6_has_0 rfl rfl ?_
  refine ev_if_lt (t := 16) (x := x) dX6_has_1 (by decide) (fun c_1 => ?_) (fun c_1 => ?_)
  · refine ev_iconst (v := 0) dX6_has_16 (by decide) ?_
    exact ev_zret dX6_has_17 rfl (by decide) (⟨by simp [ix, Int32.not_le.mpr c_1], rfl⟩)
  · refine ev_st dX6_has_4 rfl rfl ?_
    refine ev_st dX6_has_5 rfl rfl ?_
    refine ev_getI (v := nI n) dX6_has_6 fr_6_21 rfl rfl hn ?_
    refine ev_ic_ge (t := 16) (x := x) (y := nI n) dX6_has_9 (by decide) (fun c_9 => ?_) (fun c_9 => ?_)
    · refine ev_iconst (v := 0) dX6_has_16 (by decide) ?_
      exact ev_zret dX6_has_17 rfl (by decide) (⟨by simp [ix, Int32.not_lt.mp c_1, c_9], rfl⟩)
    · refine ev_iconst (v := 1) dX6_has_12 (by decide) ?_
      refine ev_goto (t := 17) dX6_has_13 (by decide) ?_
      exact ev_zret dX6_has_17 rfl (by decide) (⟨by simp [ix, Int32.not_lt.mp c_1, c_9], rfl⟩)
theorem k_tallestOf {I : Nat → Nat → Int32} {J : Nat → Nat → Int64} {R : Nat → Nat → Value} {d n : Nat} (hn : I 8 3 = nI n) (hn8 : n ≤ 8) (x : Int32) : Cal lyC d hX0_tallestOf 4 [.ref 8, .int x] (I, J, R) (fun r M' => r = some (.int (k_tl (I 10) x n)) ∧ M' = (I, J, R)) := by
  have loop : ∀ (k b : Nat) (m : Int32), b ≤ n → n - b < k → m = k_tl (I 10) x b → Ev lyC d hX0_tallestOf 4 [some (.ref 8), some (.int x), some (.int m), some (.int (nI b))] [] (I, J, R) (fun r M' => r = some (.int (k_tl (I 10) x n)) ∧ M' = (I, J, R)) := by
    intro k
    induction k with
    | zero => intro b m h1 h2; omega
    | succ k ih =>
      intro b m hb hk hm
      refine ev_st dX0_tallestOf_4 rfl rfl ?_
      refine ev_st dX0_tallestOf_5 rfl rfl ?_
      refine ev_getI (v := nI n) dX0_tallestOf_6 fr_0_22 rfl rfl hn ?_
      refine ev_ic_geN (t := 43) (a := b) (b := n) dX0_tallestOf_9 (by decide) rfl rfl (by omega) (by omega) (fun c_9 => ?_) (fun c_9 => ?_)
      · refine ev_st dX0_tallestOf_43 rfl rfl ?_
        exact ev_iret dX0_tallestOf_44 rfl (⟨by rw [hm, show b = n by omega], rfl⟩)
      · refine ev_st dX0_tallestOf_12 rfl rfl ?_
        refine ev_st dX0_tallestOf_13 rfl rfl ?_
        refine ev_st dX0_tallestOf_14 rfl rfl ?_
        refine ev_iconst (v := 1) dX0_tallestOf_15 (by decide) ?_
        refine ev_st dX0_tallestOf_16 rfl rfl ?_
        refine ev_if_eq (t := 37) (x := (x >>> ((nI b) &&& 31)) &&& 1) dX0_tallestOf_17 (by decide) (fun c_17 => ?_) (fun c_17 => ?_)
        · refine ev_iincN (a := b) (b := b + 1) (L' := [some (.ref 8), some (.int x), some (.int m), some (.int (nI (b + 1)))]) dX0_tallestOf_37 rfl (nI_1 _) rfl ?_
          refine ev_goto (t := 4) dX0_tallestOf_40 (by decide) ?_
          exact ih _ _ (by omega) (by omega) (by simp [k_tl, ← hm, k_b, c_17])
        · refine ev_st dX0_tallestOf_20 rfl rfl ?_
          refine ev_getC dX0_tallestOf_21 fr_0_15 rfl rfl ?_
          refine ev_st dX0_tallestOf_24 rfl rfl ?_
          refine ev_iald (j := b) (v := I 10 b) dX0_tallestOf_25 rfl rfl (by omega) (by decide) rfl ?_
          refine ev_st dX0_tallestOf_26 rfl rfl ?_
          refine ev_ic_le (t := 37) (x := I 10 b) (y := m) dX0_tallestOf_27 (by decide) (fun c_27 => ?_) (fun c_27 => ?_)
          · refine ev_iincN (a := b) (b := b + 1) (L' := [some (.ref 8), some (.int x), some (.int m), some (.int (nI (b + 1)))]) dX0_tallestOf_37 rfl (nI_1 _) rfl ?_
            refine ev_goto (t := 4) dX0_tallestOf_40 (by decide) ?_
            exact ih _ _ (by omega) (by omega) (by simp [k_tl, ← hm, k_b, c_17, c_27])
          · refine ev_st dX0_tallestOf_30 rfl rfl ?_
            refine ev_getC dX0_tallestOf_31 fr_0_15 rfl rfl ?_
            refine ev_st dX0_tallestOf_34 rfl rfl ?_
            refine ev_iald (j := b) (v := I 10 b) dX0_tallestOf_35 rfl rfl (by omega) (by decide) rfl ?_
            refine ev_st (L' := [some (.ref 8), some (.int x), some (.int (I 10 b)), some (.int (nI b))]) dX0_tallestOf_36 rfl rfl ?_
            refine ev_iincN (a := b) (b := b + 1) (L' := [some (.ref 8), some (.int x), some (.int (I 10 b)), some (.int (nI (b + 1)))]) dX0_tallestOf_37 rfl (nI_1 _) rfl ?_
            refine ev_goto (t := 4) dX0_tallestOf_40 (by decide) ?_
            exact ih _ _ (by omega) (by omega) (by simp [k_tl, ← hm, k_b, c_17, c_27])
  show Ev lyC d hX0_tallestOf 0 [some (.ref 8), some (.int x), none, none] [] (I, J, R) _
  refine ev_iconst (v := 0) dX0_tallestOf_0 (by decide) ?_
  refine ev_st (L' := [some (.ref 8), some (.int x), some (.int 0), none]) dX0_tallestOf_1 rfl rfl ?_
  refine ev_iconst (v := 0) dX0_tallestOf_2 (by decide) ?_
  refine ev_st (L' := [some (.ref 8), some (.int x), some (.int 0), some (.int 0)]) dX0_tallestOf_3 rfl rfl ?_
  exact loop (n + 1) 0 0 (by omega) (by omega) rfl
set_option maxHeartbeats 4000000 in
theorem k_tell_31 {I : Nat → Nat → Int32} {J : Nat → Nat → Int64} {R : Nat → Nat → Value} {d z : Nat} {rv : RV} (hz : I 31 3 = nI z) (hR : RC d 31 (I 32) z rv) (s t h x n c i : Int32) : Cal lyC (d + 3) hX5_tell 8 [.ref 31, .int s, .int t, .int h, .int x, .int n, .int c, .int i] (I, J, R) (fun r M' => r = some (.int (k_be z rv s t h x n c i)) ∧ ∃ I2, M' = (I2, J, R) ∧ sC I I2) := by
  have hz40 := hR.1
  show Ev lyC (d + 3) hX5_tell 0 [some (.ref 31), some (.int s), some (.int t), some (.int h), some (.int x), some (.int n), some (.int c), some (.int i)] [] (I, J, R) _
  refine ev_st dX5_tell_0 rfl rfl ?_
  refine ev_getI (v := nI z) dX5_tell_1 fr_5_21 rfl rfl hz ?_
  refine ev_if_neN (t := 24) (a := z) dX5_tell_4 (by decide) rfl (by omega) (fun c_4 => ?_) (fun c_4 => ?_)
  · refine ev_st dX5_tell_24 rfl rfl ?_
    refine ev_getC dX5_tell_25 fr_5_18 rfl rfl ?_
    refine ev_iconst (v := 0) dX5_tell_28 (by decide) ?_
    refine ev_st dX5_tell_29 rfl rfl ?_
    refine ev_iast (j := 0) dX5_tell_30 rfl rfl (by decide) (by decide) ?_
    refine ev_st dX5_tell_31 rfl rfl ?_
    refine ev_getC dX5_tell_32 fr_5_18 rfl rfl ?_
    refine ev_iconst (v := 1) dX5_tell_35 (by decide) ?_
    refine ev_st dX5_tell_36 rfl rfl ?_
    refine ev_iast (j := 1) dX5_tell_37 rfl rfl (by decide) (by decide) ?_
    refine ev_st dX5_tell_38 rfl rfl ?_
    refine ev_getC dX5_tell_39 fr_5_18 rfl rfl ?_
    refine ev_iconst (v := 2) dX5_tell_42 (by decide) ?_
    refine ev_st dX5_tell_43 rfl rfl ?_
    refine ev_iast (j := 2) dX5_tell_44 rfl rfl (by decide) (by decide) ?_
    refine ev_st dX5_tell_45 rfl rfl ?_
    refine ev_getC dX5_tell_46 fr_5_18 rfl rfl ?_
    refine ev_iconst (v := 3) dX5_tell_49 (by decide) ?_
    refine ev_st dX5_tell_50 rfl rfl ?_
    refine ev_iast (j := 3) dX5_tell_52 rfl rfl (by decide) (by decide) ?_
    refine ev_st dX5_tell_53 rfl rfl ?_
    refine ev_getC dX5_tell_54 fr_5_18 rfl rfl ?_
    refine ev_iconst (v := 4) dX5_tell_57 (by decide) ?_
    refine ev_st dX5_tell_58 rfl rfl ?_
    refine ev_iast (j := 4) dX5_tell_60 rfl rfl (by decide) (by decide) ?_
    refine ev_st dX5_tell_61 rfl rfl ?_
    refine ev_getC dX5_tell_62 fr_5_18 rfl rfl ?_
    refine ev_iconst (v := 5) dX5_tell_65 (by decide) ?_
    refine ev_st dX5_tell_66 rfl rfl ?_
    refine ev_iast (j := 5) dX5_tell_68 rfl rfl (by decide) (by decide) ?_
    refine ev_st dX5_tell_69 rfl rfl ?_
    refine ev_getC dX5_tell_70 fr_5_18 rfl rfl ?_
    refine ev_bipush (v := 6) dX5_tell_73 (by decide) ?_
    refine ev_st dX5_tell_75 rfl rfl ?_
    refine ev_iast (j := 6) dX5_tell_77 rfl rfl (by decide) (by decide) ?_
    refine ev_st dX5_tell_78 rfl rfl ?_
    refine ev_call dX5_tell_79 rfl rfl mr_5_29 rfl rfl rfl (hR.2 (Nat.pos_of_ne_zero c_4) (ti_wr (ti_wr (ti_wr (ti_wr (ti_wr (ti_wr (ti_wr I 34 0 s) 34 1 t) 34 2 h) 34 3 x) 34 4 n) 34 5 c) 34 6 i) J R rfl hz) ?_
    rintro _ _ ⟨rfl, g, rfl⟩
    show Ev lyC (d + 3) hX5_tell 82 [some (.ref 31), some (.int s), some (.int t), some (.int h), some (.int x), some (.int n), some (.int c), some (.int i)] [.int (rv s t h x n c i)] (va_up (ti_wr (ti_wr (ti_wr (ti_wr (ti_wr (ti_wr (ti_wr I 34 0 s) 34 1 t) 34 2 h) 34 3 x) 34 4 n) 34 5 c) 34 6 i) 33 g, J, R) _
    refine ev_iconst (v := 0) dX5_tell_82 (by decide) ?_
    refine ev_bipush (v := 99) dX5_tell_83 (by decide) ?_
    refine ev_call dX5_tell_85 rfl rfl mr_5_25 rfl rfl rfl (k_within (rv s t h x n c i) 0 99) ?_
    rintro _ _ ⟨rfl, rfl⟩
    show Ev lyC (d + 3) hX5_tell 88 [some (.ref 31), some (.int s), some (.int t), some (.int h), some (.int x), some (.int n), some (.int c), some (.int i)] [.int (k_wi (rv s t h x n c i) 0 99)] (va_up (ti_wr (ti_wr (ti_wr (ti_wr (ti_wr (ti_wr (ti_wr I 34 0 s) 34 1 t) 34 2 h) 34 3 x) 34 4 n) 34 5 c) 34 6 i) 33 g, J, R) _
    exact ev_iret dX5_tell_88 rfl (⟨by simp [k_be, c_4], _, rfl, fun q a1 a2 a3 a4 => by simp [ti_wr, va_up, a1, a2, a3, a4]⟩)
  · refine ev_st dX5_tell_7 rfl rfl ?_
    refine ev_st dX5_tell_8 rfl rfl ?_
    refine ev_iconst (v := 3) dX5_tell_9 (by decide) ?_
    refine ev_div dX5_tell_10 (by decide) ?_
    refine ev_st dX5_tell_11 rfl rfl ?_
    refine ev_st dX5_tell_12 rfl rfl ?_
    refine ev_st dX5_tell_14 rfl rfl ?_
    refine ev_st dX5_tell_15 rfl rfl ?_
    refine ev_st dX5_tell_16 rfl rfl ?_
    refine ev_iconst (v := 0) dX5_tell_17 (by decide) ?_
    refine ev_bipush (v := 99) dX5_tell_18 (by decide) ?_
    refine ev_call dX5_tell_20 rfl rfl mr_5_25 rfl rfl rfl (k_within ((s - (t / 3)) - (x - h)) 0 99) ?_
    rintro _ _ ⟨rfl, rfl⟩
    show Ev lyC (d + 3) hX5_tell 23 [some (.ref 31), some (.int s), some (.int t), some (.int h), some (.int x), some (.int n), some (.int c), some (.int i)] [.int (k_wi ((s - (t / 3)) - (x - h)) 0 99)] (I, J, R) _
    exact ev_iret dX5_tell_23 rfl (⟨by simp [k_be, c_4], _, rfl, sC.rf⟩)
theorem k_tellS_31 {I I2 : Nat → Nat → Int32} {J : Nat → Nat → Int64} {R : Nat → Nat → Value} {d z : Nat} {rv : RV} (hz : I 31 3 = nI z) (hR : RC d 31 (I 32) z rv) (hs : sC I I2) (s t h x n c i : Int32) : Cal lyC (d + 3) hX5_tell 8 [.ref 31, .int s, .int t, .int h, .int x, .int n, .int c, .int i] (I2, J, R) (fun r M' => r = some (.int (k_be z rv s t h x n c i)) ∧ ∃ I3, M' = (I3, J, R) ∧ sC I I3) := by
  have K := k_tell_31 (I := I2) (J := J) (R := R) (d := d) (z := z) (rv := rv) (by rw [hs.r 31 rfl]; exact hz) (by rw [hs.r 32 rfl]; exact hR) s t h x n c i
  exact K.imp (fun r M' ⟨e1, I3, e2, e3⟩ => ⟨e1, I3, e2, hs.tr e3⟩)
set_option maxHeartbeats 4000000 in
theorem k_forceOf_31_39 {I I2 : Nat → Nat → Int32} {J : Nat → Nat → Int64} {R : Nat → Nat → Value} {d n c a z : Nat} {rv : RV} (hn : I 8 3 = nI n) (hn8 : n ≤ 8) (hc : I 5 2 = nI c) (hc12 : c ≤ 12) (ha : I 39 1 = nI a) (ha12 : a ≤ 12) (hz : I 31 3 = nI z) (hR : RC d 31 (I 32) z rv) (hs : sC I I2) (x : Int32) : Cal lyC (d + 4) hX0_forceOf 9 [.ref 8, .ref 31, .int x, .ref 39] (I2, J, R) (fun r M' => r = some (.int (k_fo z rv (I 9) (I 10) (I 40) (k_tl (I 10) x n) (m_st c (I 6) a) x n)) ∧ ∃ I3, M' = (I3, J, R) ∧ sC I I3) := by
  have loop : ∀ (k b : Nat) (m : Int32) (I2 : Nat → Nat → Int32), b ≤ n → n - b < k → m = k_fo z rv (I 9) (I 10) (I 40) (k_tl (I 10) x n) (m_st c (I 6) a) x b → sC I I2 → Ev lyC (d + 4) hX0_forceOf 32 [some (.ref 8), some (.ref 31), some (.int x), some (.ref 39), some (.int (k_tl (I 10) x n)), some (.int (bc x)), some (.int (m_st c (I 6) a)), some (.int m), some (.int (nI b))] [] (I2, J, R) (fun r M' => r = some (.int (k_fo z rv (I 9) (I 10) (I 40) (k_tl (I 10) x n) (m_st c (I 6) a) x n)) ∧ ∃ I3, M' = (I3, J, R) ∧ sC I I3) := by
    intro k
    induction k with
    | zero => intro b m I2 h1 h2; omega
    | succ k ih =>
      intro b m I2 hb hk hm hs
      refine ev_st dX0_forceOf_32 rfl rfl ?_
      refine ev_st dX0_forceOf_34 rfl rfl ?_
      refine ev_getI (v := nI n) dX0_forceOf_35 fr_0_22 rfl rfl (by rw [hs.r 8 rfl]; exact hn) ?_
      refine ev_ic_geN (t := 94) (a := b) (b := n) dX0_forceOf_38 (by decide) rfl rfl (by omega) (by omega) (fun c_38 => ?_) (fun c_38 => ?_)
      · refine ev_st dX0_forceOf_94 rfl rfl ?_
        exact ev_iret dX0_forceOf_96 rfl (⟨by rw [hm, show b = n by omega], _, rfl, hs⟩)
      · refine ev_st dX0_forceOf_41 rfl rfl ?_
        refine ev_st dX0_forceOf_42 rfl rfl ?_
        refine ev_st dX0_forceOf_44 rfl rfl ?_
        refine ev_iconst (v := 1) dX0_forceOf_45 (by decide) ?_
        refine ev_st dX0_forceOf_46 rfl rfl ?_
        refine ev_if_eq (t := 88) (x := (x >>> ((nI b) &&& 31)) &&& 1) dX0_forceOf_47 (by decide) (fun c_47 => ?_) (fun c_47 => ?_)
        · refine ev_iincN (a := b) (b := b + 1) (L' := [some (.ref 8), some (.ref 31), some (.int x), some (.ref 39), some (.int (k_tl (I 10) x n)), some (.int (bc x)), some (.int (m_st c (I 6) a)), some (.int m), some (.int (nI (b + 1)))]) dX0_forceOf_88 rfl (nI_1 _) rfl ?_
          refine ev_goto (t := 32) dX0_forceOf_91 (by decide) ?_
          exact ih _ _ _ (by omega) (by omega) (by simp [k_fo, hm, k_b, c_47]) hs
        · refine ev_st dX0_forceOf_50 rfl rfl ?_
          refine ev_st dX0_forceOf_52 rfl rfl ?_
          refine ev_st dX0_forceOf_53 rfl rfl ?_
          refine ev_getC dX0_forceOf_54 fr_0_9 rfl rfl ?_
          refine ev_st dX0_forceOf_57 rfl rfl ?_
          refine ev_iald (j := b) (v := I 9 b) dX0_forceOf_59 rfl rfl (by omega) (by decide) (by rw [hs.r 9 rfl]) ?_
          refine ev_st dX0_forceOf_60 rfl rfl ?_
          refine ev_getC dX0_forceOf_61 fr_0_69 rfl rfl ?_
          refine ev_st dX0_forceOf_64 rfl rfl ?_
          refine ev_iald (j := b) (v := I 40 b) dX0_forceOf_66 rfl rfl (by omega) (by decide) (by rw [hs.r 40 rfl]) ?_
          refine ev_st dX0_forceOf_67 rfl rfl ?_
          refine ev_getC dX0_forceOf_68 fr_0_15 rfl rfl ?_
          refine ev_st dX0_forceOf_71 rfl rfl ?_
          refine ev_iald (j := b) (v := I 10 b) dX0_forceOf_73 rfl rfl (by omega) (by decide) (by rw [hs.r 10 rfl]) ?_
          refine ev_st dX0_forceOf_74 rfl rfl ?_
          refine ev_st dX0_forceOf_76 rfl rfl ?_
          refine ev_st dX0_forceOf_78 rfl rfl ?_
          refine ev_st dX0_forceOf_80 rfl rfl ?_
          refine ev_call dX0_forceOf_82 rfl rfl mr_0_72 rfl rfl rfl (k_tellS_31 hz hR hs (I 9 b) (I 40 b) (I 10 b) (k_tl (I 10) x n) (bc x) (m_st c (I 6) a) (nI b)) ?_
          rintro _ _ ⟨rfl, I3, rfl, hs3⟩
          show Ev lyC (d + 4) hX0_forceOf 85 [some (.ref 8), some (.ref 31), some (.int x), some (.ref 39), some (.int (k_tl (I 10) x n)), some (.int (bc x)), some (.int (m_st c (I 6) a)), some (.int m), some (.int (nI b))] [.int (k_be z rv (I 9 b) (I 40 b) (I 10 b) (k_tl (I 10) x n) (bc x) (m_st c (I 6) a) (nI b)), .int m] (I3, J, R) _
          refine ev_st dX0_forceOf_85 rfl rfl ?_
          refine ev_st (L' := [some (.ref 8), some (.ref 31), some (.int x), some (.ref 39), some (.int (k_tl (I 10) x n)), some (.int (bc x)), some (.int (m_st c (I 6) a)), some (.int (m + (k_be z rv (I 9 b) (I 40 b) (I 10 b) (k_tl (I 10) x n) (bc x) (m_st c (I 6) a) (nI b)))), some (.int (nI b))]) dX0_forceOf_86 rfl rfl ?_
          refine ev_iincN (a := b) (b := b + 1) (L' := [some (.ref 8), some (.ref 31), some (.int x), some (.ref 39), some (.int (k_tl (I 10) x n)), some (.int (bc x)), some (.int (m_st c (I 6) a)), some (.int (m + (k_be z rv (I 9 b) (I 40 b) (I 10 b) (k_tl (I 10) x n) (bc x) (m_st c (I 6) a) (nI b)))), some (.int (nI (b + 1)))]) dX0_forceOf_88 rfl (nI_1 _) rfl ?_
          refine ev_goto (t := 32) dX0_forceOf_91 (by decide) ?_
          exact ih _ _ _ (by omega) (by omega) (by simp [k_fo, hm, k_b, c_47]) hs3
  show Ev lyC (d + 4) hX0_forceOf 0 [some (.ref 8), some (.ref 31), some (.int x), some (.ref 39), none, none, none, none, none] [] (I2, J, R) _
  refine ev_st dX0_forceOf_0 rfl rfl ?_
  refine ev_st dX0_forceOf_1 rfl rfl ?_
  refine ev_call dX0_forceOf_2 rfl rfl mr_0_50 rfl rfl rfl ((by have K := k_tallestOf (I := I2) (J := J) (R := R) (d := d + 3) (by rw [hs.r 8 rfl]; exact hn) hn8 x; rw [hs.r 10 rfl] at K; exact K)) ?_
  rintro _ _ ⟨rfl, rfl⟩
  show Ev lyC (d + 4) hX0_forceOf 5 [some (.ref 8), some (.ref 31), some (.int x), some (.ref 39), none, none, none, none, none] [.int (k_tl (I 10) x n)] (I2, J, R) _
  refine ev_st (L' := [some (.ref 8), some (.ref 31), some (.int x), some (.ref 39), some (.int (k_tl (I 10) x n)), none, none, none, none]) dX0_forceOf_5 rfl rfl ?_
  refine ev_st dX0_forceOf_7 rfl rfl ?_
  refine ev_call dX0_forceOf_8 rfl rfl mr_0_54 rfl rfl rfl (c_bc x) ?_
  rintro _ _ ⟨rfl, rfl⟩
  show Ev lyC (d + 4) hX0_forceOf 11 [some (.ref 8), some (.ref 31), some (.int x), some (.ref 39), some (.int (k_tl (I 10) x n)), none, none, none, none] [.int (bc x)] (I2, J, R) _
  refine ev_st (L' := [some (.ref 8), some (.ref 31), some (.int x), some (.ref 39), some (.int (k_tl (I 10) x n)), some (.int (bc x)), none, none, none]) dX0_forceOf_11 rfl rfl ?_
  refine ev_st dX0_forceOf_13 rfl rfl ?_
  refine ev_getC dX0_forceOf_14 fr_0_18 rfl rfl ?_
  refine ev_st dX0_forceOf_17 rfl rfl ?_
  refine ev_getI (v := nI a) dX0_forceOf_18 fr_0_59 rfl rfl (by rw [hs.r 39 rfl]; exact ha) ?_
  refine ev_call dX0_forceOf_21 rfl rfl mr_0_64 rfl rfl rfl ((by have K := k_steepAt (I := I2) (J := J) (R := R) (d := d + 3) (c := c) (a := a) (by rw [hs.r 5 rfl]; exact hc) hc12 ha12; rw [hs.r 6 rfl] at K; exact K)) ?_
  rintro _ _ ⟨rfl, rfl⟩
  show Ev lyC (d + 4) hX0_forceOf 24 [some (.ref 8), some (.ref 31), some (.int x), some (.ref 39), some (.int (k_tl (I 10) x n)), some (.int (bc x)), none, none, none] [.int (m_st c (I 6) a)] (I2, J, R) _
  refine ev_st (L' := [some (.ref 8), some (.ref 31), some (.int x), some (.ref 39), some (.int (k_tl (I 10) x n)), some (.int (bc x)), some (.int (m_st c (I 6) a)), none, none]) dX0_forceOf_24 rfl rfl ?_
  refine ev_iconst (v := 0) dX0_forceOf_26 (by decide) ?_
  refine ev_st (L' := [some (.ref 8), some (.ref 31), some (.int x), some (.ref 39), some (.int (k_tl (I 10) x n)), some (.int (bc x)), some (.int (m_st c (I 6) a)), some (.int 0), none]) dX0_forceOf_27 rfl rfl ?_
  refine ev_iconst (v := 0) dX0_forceOf_29 (by decide) ?_
  refine ev_st (L' := [some (.ref 8), some (.ref 31), some (.int x), some (.ref 39), some (.int (k_tl (I 10) x n)), some (.int (bc x)), some (.int (m_st c (I 6) a)), some (.int 0), some (.int 0)]) dX0_forceOf_30 rfl rfl ?_
  exact loop (n + 1) 0 0 _ (by omega) (by omega) rfl hs
set_option maxHeartbeats 4000000 in
theorem k_forceOf_31_41 {I I2 : Nat → Nat → Int32} {J : Nat → Nat → Int64} {R : Nat → Nat → Value} {d n c a z : Nat} {rv : RV} (hn : I 8 3 = nI n) (hn8 : n ≤ 8) (hc : I 5 2 = nI c) (hc12 : c ≤ 12) (ha : I 41 1 = nI a) (ha12 : a ≤ 12) (hz : I 31 3 = nI z) (hR : RC d 31 (I 32) z rv) (hs : sC I I2) (x : Int32) : Cal lyC (d + 4) hX0_forceOf 9 [.ref 8, .ref 31, .int x, .ref 41] (I2, J, R) (fun r M' => r = some (.int (k_fo z rv (I 9) (I 10) (I 42) (k_tl (I 10) x n) (m_st c (I 6) a) x n)) ∧ ∃ I3, M' = (I3, J, R) ∧ sC I I3) := by
  have loop : ∀ (k b : Nat) (m : Int32) (I2 : Nat → Nat → Int32), b ≤ n → n - b < k → m = k_fo z rv (I 9) (I 10) (I 42) (k_tl (I 10) x n) (m_st c (I 6) a) x b → sC I I2 → Ev lyC (d + 4) hX0_forceOf 32 [some (.ref 8), some (.ref 31), some (.int x), some (.ref 41), some (.int (k_tl (I 10) x n)), some (.int (bc x)), some (.int (m_st c (I 6) a)), some (.int m), some (.int (nI b))] [] (I2, J, R) (fun r M' => r = some (.int (k_fo z rv (I 9) (I 10) (I 42) (k_tl (I 10) x n) (m_st c (I 6) a) x n)) ∧ ∃ I3, M' = (I3, J, R) ∧ sC I I3) := by
    intro k
    induction k with
    | zero => intro b m I2 h1 h2; omega
    | succ k ih =>
      intro b m I2 hb hk hm hs
      refine ev_st dX0_forceOf_32 rfl rfl ?_
      refine ev_st dX0_forceOf_34 rfl rfl ?_
      refine ev_getI (v := nI n) dX0_forceOf_35 fr_0_22 rfl rfl (by rw [hs.r 8 rfl]; exact hn) ?_
      refine ev_ic_geN (t := 94) (a := b) (b := n) dX0_forceOf_38 (by decide) rfl rfl (by omega) (by omega) (fun c_38 => ?_) (fun c_38 => ?_)
      · refine ev_st dX0_forceOf_94 rfl rfl ?_
        exact ev_iret dX0_forceOf_96 rfl (⟨by rw [hm, show b = n by omega], _, rfl, hs⟩)
      · refine ev_st dX0_forceOf_41 rfl rfl ?_
        refine ev_st dX0_forceOf_42 rfl rfl ?_
        refine ev_st dX0_forceOf_44 rfl rfl ?_
        refine ev_iconst (v := 1) dX0_forceOf_45 (by decide) ?_
        refine ev_st dX0_forceOf_46 rfl rfl ?_
        refine ev_if_eq (t := 88) (x := (x >>> ((nI b) &&& 31)) &&& 1) dX0_forceOf_47 (by decide) (fun c_47 => ?_) (fun c_47 => ?_)
        · refine ev_iincN (a := b) (b := b + 1) (L' := [some (.ref 8), some (.ref 31), some (.int x), some (.ref 41), some (.int (k_tl (I 10) x n)), some (.int (bc x)), some (.int (m_st c (I 6) a)), some (.int m), some (.int (nI (b + 1)))]) dX0_forceOf_88 rfl (nI_1 _) rfl ?_
          refine ev_goto (t := 32) dX0_forceOf_91 (by decide) ?_
          exact ih _ _ _ (by omega) (by omega) (by simp [k_fo, hm, k_b, c_47]) hs
        · refine ev_st dX0_forceOf_50 rfl rfl ?_
          refine ev_st dX0_forceOf_52 rfl rfl ?_
          refine ev_st dX0_forceOf_53 rfl rfl ?_
          refine ev_getC dX0_forceOf_54 fr_0_9 rfl rfl ?_
          refine ev_st dX0_forceOf_57 rfl rfl ?_
          refine ev_iald (j := b) (v := I 9 b) dX0_forceOf_59 rfl rfl (by omega) (by decide) (by rw [hs.r 9 rfl]) ?_
          refine ev_st dX0_forceOf_60 rfl rfl ?_
          refine ev_getC dX0_forceOf_61 fr_0_69 rfl rfl ?_
          refine ev_st dX0_forceOf_64 rfl rfl ?_
          refine ev_iald (j := b) (v := I 42 b) dX0_forceOf_66 rfl rfl (by omega) (by decide) (by rw [hs.r 42 rfl]) ?_
          refine ev_st dX0_forceOf_67 rfl rfl ?_
          refine ev_getC dX0_forceOf_68 fr_0_15 rfl rfl ?_
          refine ev_st dX0_forceOf_71 rfl rfl ?_
          refine ev_iald (j := b) (v := I 10 b) dX0_forceOf_73 rfl rfl (by omega) (by decide) (by rw [hs.r 10 rfl]) ?_
          refine ev_st dX0_forceOf_74 rfl rfl ?_
          refine ev_st dX0_forceOf_76 rfl rfl ?_
          refine ev_st dX0_forceOf_78 rfl rfl ?_
          refine ev_st dX0_forceOf_80 rfl rfl ?_
          refine ev_call dX0_forceOf_82 rfl rfl mr_0_72 rfl rfl rfl (k_tellS_31 hz hR hs (I 9 b) (I 42 b) (I 10 b) (k_tl (I 10) x n) (bc x) (m_st c (I 6) a) (nI b)) ?_
          rintro _ _ ⟨rfl, I3, rfl, hs3⟩
          show Ev lyC (d + 4) hX0_forceOf 85 [some (.ref 8), some (.ref 31), some (.int x), some (.ref 41), some (.int (k_tl (I 10) x n)), some (.int (bc x)), some (.int (m_st c (I 6) a)), some (.int m), some (.int (nI b))] [.int (k_be z rv (I 9 b) (I 42 b) (I 10 b) (k_tl (I 10) x n) (bc x) (m_st c (I 6) a) (nI b)), .int m] (I3, J, R) _
          refine ev_st dX0_forceOf_85 rfl rfl ?_
          refine ev_st (L' := [some (.ref 8), some (.ref 31), some (.int x), some (.ref 41), some (.int (k_tl (I 10) x n)), some (.int (bc x)), some (.int (m_st c (I 6) a)), some (.int (m + (k_be z rv (I 9 b) (I 42 b) (I 10 b) (k_tl (I 10) x n) (bc x) (m_st c (I 6) a) (nI b)))), some (.int (nI b))]) dX0_forceOf_86 rfl rfl ?_
          refine ev_iincN (a := b) (b := b + 1) (L' := [some (.ref 8), some (.ref 31), some (.int x), some (.ref 41), some (.int (k_tl (I 10) x n)), some (.int (bc x)), some (.int (m_st c (I 6) a)), some (.int (m + (k_be z rv (I 9 b) (I 42 b) (I 10 b) (k_tl (I 10) x n) (bc x) (m_st c (I 6) a) (nI b)))), some (.int (nI (b + 1)))]) dX0_forceOf_88 rfl (nI_1 _) rfl ?_
          refine ev_goto (t := 32) dX0_forceOf_91 (by decide) ?_
          exact ih _ _ _ (by omega) (by omega) (by simp [k_fo, hm, k_b, c_47]) hs3
  show Ev lyC (d + 4) hX0_forceOf 0 [some (.ref 8), some (.ref 31), some (.int x), some (.ref 41), none, none, none, none, none] [] (I2, J, R) _
  refine ev_st dX0_forceOf_0 rfl rfl ?_
  refine ev_st dX0_forceOf_1 rfl rfl ?_
  refine ev_call dX0_forceOf_2 rfl rfl mr_0_50 rfl rfl rfl ((by have K := k_tallestOf (I := I2) (J := J) (R := R) (d := d + 3) (by rw [hs.r 8 rfl]; exact hn) hn8 x; rw [hs.r 10 rfl] at K; exact K)) ?_
  rintro _ _ ⟨rfl, rfl⟩
  show Ev lyC (d + 4) hX0_forceOf 5 [some (.ref 8), some (.ref 31), some (.int x), some (.ref 41), none, none, none, none, none] [.int (k_tl (I 10) x n)] (I2, J, R) _
  refine ev_st (L' := [some (.ref 8), some (.ref 31), some (.int x), some (.ref 41), some (.int (k_tl (I 10) x n)), none, none, none, none]) dX0_forceOf_5 rfl rfl ?_
  refine ev_st dX0_forceOf_7 rfl rfl ?_
  refine ev_call dX0_forceOf_8 rfl rfl mr_0_54 rfl rfl rfl (c_bc x) ?_
  rintro _ _ ⟨rfl, rfl⟩
  show Ev lyC (d + 4) hX0_forceOf 11 [some (.ref 8), some (.ref 31), some (.int x), some (.ref 41), some (.int (k_tl (I 10) x n)), none, none, none, none] [.int (bc x)] (I2, J, R) _
  refine ev_st (L' := [some (.ref 8), some (.ref 31), some (.int x), some (.ref 41), some (.int (k_tl (I 10) x n)), some (.int (bc x)), none, none, none]) dX0_forceOf_11 rfl rfl ?_
  refine ev_st dX0_forceOf_13 rfl rfl ?_
  refine ev_getC dX0_forceOf_14 fr_0_18 rfl rfl ?_
  refine ev_st dX0_forceOf_17 rfl rfl ?_
  refine ev_getI (v := nI a) dX0_forceOf_18 fr_0_59 rfl rfl (by rw [hs.r 41 rfl]; exact ha) ?_
  refine ev_call dX0_forceOf_21 rfl rfl mr_0_64 rfl rfl rfl ((by have K := k_steepAt (I := I2) (J := J) (R := R) (d := d + 3) (c := c) (a := a) (by rw [hs.r 5 rfl]; exact hc) hc12 ha12; rw [hs.r 6 rfl] at K; exact K)) ?_
  rintro _ _ ⟨rfl, rfl⟩
  show Ev lyC (d + 4) hX0_forceOf 24 [some (.ref 8), some (.ref 31), some (.int x), some (.ref 41), some (.int (k_tl (I 10) x n)), some (.int (bc x)), none, none, none] [.int (m_st c (I 6) a)] (I2, J, R) _
  refine ev_st (L' := [some (.ref 8), some (.ref 31), some (.int x), some (.ref 41), some (.int (k_tl (I 10) x n)), some (.int (bc x)), some (.int (m_st c (I 6) a)), none, none]) dX0_forceOf_24 rfl rfl ?_
  refine ev_iconst (v := 0) dX0_forceOf_26 (by decide) ?_
  refine ev_st (L' := [some (.ref 8), some (.ref 31), some (.int x), some (.ref 41), some (.int (k_tl (I 10) x n)), some (.int (bc x)), some (.int (m_st c (I 6) a)), some (.int 0), none]) dX0_forceOf_27 rfl rfl ?_
  refine ev_iconst (v := 0) dX0_forceOf_29 (by decide) ?_
  refine ev_st (L' := [some (.ref 8), some (.ref 31), some (.int x), some (.ref 41), some (.int (k_tl (I 10) x n)), some (.int (bc x)), some (.int (m_st c (I 6) a)), some (.int 0), some (.int 0)]) dX0_forceOf_30 rfl rfl ?_
  exact loop (n + 1) 0 0 _ (by omega) (by omega) rfl hs
set_option maxHeartbeats 4000000 in
theorem k_tell_35 {I : Nat → Nat → Int32} {J : Nat → Nat → Int64} {R : Nat → Nat → Value} {d z : Nat} {rv : RV} (hz : I 35 3 = nI z) (hR : RC d 35 (I 36) z rv) (s t h x n c i : Int32) : Cal lyC (d + 3) hX5_tell 8 [.ref 35, .int s, .int t, .int h, .int x, .int n, .int c, .int i] (I, J, R) (fun r M' => r = some (.int (k_be z rv s t h x n c i)) ∧ ∃ I2, M' = (I2, J, R) ∧ sC I I2) := by
  have hz40 := hR.1
  show Ev lyC (d + 3) hX5_tell 0 [some (.ref 35), some (.int s), some (.int t), some (.int h), some (.int x), some (.int n), some (.int c), some (.int i)] [] (I, J, R) _
  refine ev_st dX5_tell_0 rfl rfl ?_
  refine ev_getI (v := nI z) dX5_tell_1 fr_5_21 rfl rfl hz ?_
  refine ev_if_neN (t := 24) (a := z) dX5_tell_4 (by decide) rfl (by omega) (fun c_4 => ?_) (fun c_4 => ?_)
  · refine ev_st dX5_tell_24 rfl rfl ?_
    refine ev_getC dX5_tell_25 fr_5_18 rfl rfl ?_
    refine ev_iconst (v := 0) dX5_tell_28 (by decide) ?_
    refine ev_st dX5_tell_29 rfl rfl ?_
    refine ev_iast (j := 0) dX5_tell_30 rfl rfl (by decide) (by decide) ?_
    refine ev_st dX5_tell_31 rfl rfl ?_
    refine ev_getC dX5_tell_32 fr_5_18 rfl rfl ?_
    refine ev_iconst (v := 1) dX5_tell_35 (by decide) ?_
    refine ev_st dX5_tell_36 rfl rfl ?_
    refine ev_iast (j := 1) dX5_tell_37 rfl rfl (by decide) (by decide) ?_
    refine ev_st dX5_tell_38 rfl rfl ?_
    refine ev_getC dX5_tell_39 fr_5_18 rfl rfl ?_
    refine ev_iconst (v := 2) dX5_tell_42 (by decide) ?_
    refine ev_st dX5_tell_43 rfl rfl ?_
    refine ev_iast (j := 2) dX5_tell_44 rfl rfl (by decide) (by decide) ?_
    refine ev_st dX5_tell_45 rfl rfl ?_
    refine ev_getC dX5_tell_46 fr_5_18 rfl rfl ?_
    refine ev_iconst (v := 3) dX5_tell_49 (by decide) ?_
    refine ev_st dX5_tell_50 rfl rfl ?_
    refine ev_iast (j := 3) dX5_tell_52 rfl rfl (by decide) (by decide) ?_
    refine ev_st dX5_tell_53 rfl rfl ?_
    refine ev_getC dX5_tell_54 fr_5_18 rfl rfl ?_
    refine ev_iconst (v := 4) dX5_tell_57 (by decide) ?_
    refine ev_st dX5_tell_58 rfl rfl ?_
    refine ev_iast (j := 4) dX5_tell_60 rfl rfl (by decide) (by decide) ?_
    refine ev_st dX5_tell_61 rfl rfl ?_
    refine ev_getC dX5_tell_62 fr_5_18 rfl rfl ?_
    refine ev_iconst (v := 5) dX5_tell_65 (by decide) ?_
    refine ev_st dX5_tell_66 rfl rfl ?_
    refine ev_iast (j := 5) dX5_tell_68 rfl rfl (by decide) (by decide) ?_
    refine ev_st dX5_tell_69 rfl rfl ?_
    refine ev_getC dX5_tell_70 fr_5_18 rfl rfl ?_
    refine ev_bipush (v := 6) dX5_tell_73 (by decide) ?_
    refine ev_st dX5_tell_75 rfl rfl ?_
    refine ev_iast (j := 6) dX5_tell_77 rfl rfl (by decide) (by decide) ?_
    refine ev_st dX5_tell_78 rfl rfl ?_
    refine ev_call dX5_tell_79 rfl rfl mr_5_29 rfl rfl rfl (hR.2 (Nat.pos_of_ne_zero c_4) (ti_wr (ti_wr (ti_wr (ti_wr (ti_wr (ti_wr (ti_wr I 38 0 s) 38 1 t) 38 2 h) 38 3 x) 38 4 n) 38 5 c) 38 6 i) J R rfl hz) ?_
    rintro _ _ ⟨rfl, g, rfl⟩
    show Ev lyC (d + 3) hX5_tell 82 [some (.ref 35), some (.int s), some (.int t), some (.int h), some (.int x), some (.int n), some (.int c), some (.int i)] [.int (rv s t h x n c i)] (va_up (ti_wr (ti_wr (ti_wr (ti_wr (ti_wr (ti_wr (ti_wr I 38 0 s) 38 1 t) 38 2 h) 38 3 x) 38 4 n) 38 5 c) 38 6 i) 37 g, J, R) _
    refine ev_iconst (v := 0) dX5_tell_82 (by decide) ?_
    refine ev_bipush (v := 99) dX5_tell_83 (by decide) ?_
    refine ev_call dX5_tell_85 rfl rfl mr_5_25 rfl rfl rfl (k_within (rv s t h x n c i) 0 99) ?_
    rintro _ _ ⟨rfl, rfl⟩
    show Ev lyC (d + 3) hX5_tell 88 [some (.ref 35), some (.int s), some (.int t), some (.int h), some (.int x), some (.int n), some (.int c), some (.int i)] [.int (k_wi (rv s t h x n c i) 0 99)] (va_up (ti_wr (ti_wr (ti_wr (ti_wr (ti_wr (ti_wr (ti_wr I 38 0 s) 38 1 t) 38 2 h) 38 3 x) 38 4 n) 38 5 c) 38 6 i) 37 g, J, R) _
    exact ev_iret dX5_tell_88 rfl (⟨by simp [k_be, c_4], _, rfl, fun q a1 a2 a3 a4 => by simp [ti_wr, va_up, a1, a2, a3, a4]⟩)
  · refine ev_st dX5_tell_7 rfl rfl ?_
    refine ev_st dX5_tell_8 rfl rfl ?_
    refine ev_iconst (v := 3) dX5_tell_9 (by decide) ?_
    refine ev_div dX5_tell_10 (by decide) ?_
    refine ev_st dX5_tell_11 rfl rfl ?_
    refine ev_st dX5_tell_12 rfl rfl ?_
    refine ev_st dX5_tell_14 rfl rfl ?_
    refine ev_st dX5_tell_15 rfl rfl ?_
    refine ev_st dX5_tell_16 rfl rfl ?_
    refine ev_iconst (v := 0) dX5_tell_17 (by decide) ?_
    refine ev_bipush (v := 99) dX5_tell_18 (by decide) ?_
    refine ev_call dX5_tell_20 rfl rfl mr_5_25 rfl rfl rfl (k_within ((s - (t / 3)) - (x - h)) 0 99) ?_
    rintro _ _ ⟨rfl, rfl⟩
    show Ev lyC (d + 3) hX5_tell 23 [some (.ref 35), some (.int s), some (.int t), some (.int h), some (.int x), some (.int n), some (.int c), some (.int i)] [.int (k_wi ((s - (t / 3)) - (x - h)) 0 99)] (I, J, R) _
    exact ev_iret dX5_tell_23 rfl (⟨by simp [k_be, c_4], _, rfl, sC.rf⟩)
theorem k_tellS_35 {I I2 : Nat → Nat → Int32} {J : Nat → Nat → Int64} {R : Nat → Nat → Value} {d z : Nat} {rv : RV} (hz : I 35 3 = nI z) (hR : RC d 35 (I 36) z rv) (hs : sC I I2) (s t h x n c i : Int32) : Cal lyC (d + 3) hX5_tell 8 [.ref 35, .int s, .int t, .int h, .int x, .int n, .int c, .int i] (I2, J, R) (fun r M' => r = some (.int (k_be z rv s t h x n c i)) ∧ ∃ I3, M' = (I3, J, R) ∧ sC I I3) := by
  have K := k_tell_35 (I := I2) (J := J) (R := R) (d := d) (z := z) (rv := rv) (by rw [hs.r 35 rfl]; exact hz) (by rw [hs.r 36 rfl]; exact hR) s t h x n c i
  exact K.imp (fun r M' ⟨e1, I3, e2, e3⟩ => ⟨e1, I3, e2, hs.tr e3⟩)
set_option maxHeartbeats 4000000 in
theorem k_forceOf_35_39 {I I2 : Nat → Nat → Int32} {J : Nat → Nat → Int64} {R : Nat → Nat → Value} {d n c a z : Nat} {rv : RV} (hn : I 8 3 = nI n) (hn8 : n ≤ 8) (hc : I 5 2 = nI c) (hc12 : c ≤ 12) (ha : I 39 1 = nI a) (ha12 : a ≤ 12) (hz : I 35 3 = nI z) (hR : RC d 35 (I 36) z rv) (hs : sC I I2) (x : Int32) : Cal lyC (d + 4) hX0_forceOf 9 [.ref 8, .ref 35, .int x, .ref 39] (I2, J, R) (fun r M' => r = some (.int (k_fo z rv (I 9) (I 10) (I 40) (k_tl (I 10) x n) (m_st c (I 6) a) x n)) ∧ ∃ I3, M' = (I3, J, R) ∧ sC I I3) := by
  have loop : ∀ (k b : Nat) (m : Int32) (I2 : Nat → Nat → Int32), b ≤ n → n - b < k → m = k_fo z rv (I 9) (I 10) (I 40) (k_tl (I 10) x n) (m_st c (I 6) a) x b → sC I I2 → Ev lyC (d + 4) hX0_forceOf 32 [some (.ref 8), some (.ref 35), some (.int x), some (.ref 39), some (.int (k_tl (I 10) x n)), some (.int (bc x)), some (.int (m_st c (I 6) a)), some (.int m), some (.int (nI b))] [] (I2, J, R) (fun r M' => r = some (.int (k_fo z rv (I 9) (I 10) (I 40) (k_tl (I 10) x n) (m_st c (I 6) a) x n)) ∧ ∃ I3, M' = (I3, J, R) ∧ sC I I3) := by
    intro k
    induction k with
    | zero => intro b m I2 h1 h2; omega
    | succ k ih =>
      intro b m I2 hb hk hm hs
      refine ev_st dX0_forceOf_32 rfl rfl ?_
      refine ev_st dX0_forceOf_34 rfl rfl ?_
      refine ev_getI (v := nI n) dX0_forceOf_35 fr_0_22 rfl rfl (by rw [hs.r 8 rfl]; exact hn) ?_
      refine ev_ic_geN (t := 94) (a := b) (b := n) dX0_forceOf_38 (by decide) rfl rfl (by omega) (by omega) (fun c_38 => ?_) (fun c_38 => ?_)
      · refine ev_st dX0_forceOf_94 rfl rfl ?_
        exact ev_iret dX0_forceOf_96 rfl (⟨by rw [hm, show b = n by omega], _, rfl, hs⟩)
      · refine ev_st dX0_forceOf_41 rfl rfl ?_
        refine ev_st dX0_forceOf_42 rfl rfl ?_
        refine ev_st dX0_forceOf_44 rfl rfl ?_
        refine ev_iconst (v := 1) dX0_forceOf_45 (by decide) ?_
        refine ev_st dX0_forceOf_46 rfl rfl ?_
        refine ev_if_eq (t := 88) (x := (x >>> ((nI b) &&& 31)) &&& 1) dX0_forceOf_47 (by decide) (fun c_47 => ?_) (fun c_47 => ?_)
        · refine ev_iincN (a := b) (b := b + 1) (L' := [some (.ref 8), some (.ref 35), some (.int x), some (.ref 39), some (.int (k_tl (I 10) x n)), some (.int (bc x)), some (.int (m_st c (I 6) a)), some (.int m), some (.int (nI (b + 1)))]) dX0_forceOf_88 rfl (nI_1 _) rfl ?_
          refine ev_goto (t := 32) dX0_forceOf_91 (by decide) ?_
          exact ih _ _ _ (by omega) (by omega) (by simp [k_fo, hm, k_b, c_47]) hs
        · refine ev_st dX0_forceOf_50 rfl rfl ?_
          refine ev_st dX0_forceOf_52 rfl rfl ?_
          refine ev_st dX0_forceOf_53 rfl rfl ?_
          refine ev_getC dX0_forceOf_54 fr_0_9 rfl rfl ?_
          refine ev_st dX0_forceOf_57 rfl rfl ?_
          refine ev_iald (j := b) (v := I 9 b) dX0_forceOf_59 rfl rfl (by omega) (by decide) (by rw [hs.r 9 rfl]) ?_
          refine ev_st dX0_forceOf_60 rfl rfl ?_
          refine ev_getC dX0_forceOf_61 fr_0_69 rfl rfl ?_
          refine ev_st dX0_forceOf_64 rfl rfl ?_
          refine ev_iald (j := b) (v := I 40 b) dX0_forceOf_66 rfl rfl (by omega) (by decide) (by rw [hs.r 40 rfl]) ?_
          refine ev_st dX0_forceOf_67 rfl rfl ?_
          refine ev_getC dX0_forceOf_68 fr_0_15 rfl rfl ?_
          refine ev_st dX0_forceOf_71 rfl rfl ?_
          refine ev_iald (j := b) (v := I 10 b) dX0_forceOf_73 rfl rfl (by omega) (by decide) (by rw [hs.r 10 rfl]) ?_
          refine ev_st dX0_forceOf_74 rfl rfl ?_
          refine ev_st dX0_forceOf_76 rfl rfl ?_
          refine ev_st dX0_forceOf_78 rfl rfl ?_
          refine ev_st dX0_forceOf_80 rfl rfl ?_
          refine ev_call dX0_forceOf_82 rfl rfl mr_0_72 rfl rfl rfl (k_tellS_35 hz hR hs (I 9 b) (I 40 b) (I 10 b) (k_tl (I 10) x n) (bc x) (m_st c (I 6) a) (nI b)) ?_
          rintro _ _ ⟨rfl, I3, rfl, hs3⟩
          show Ev lyC (d + 4) hX0_forceOf 85 [some (.ref 8), some (.ref 35), some (.int x), some (.ref 39), some (.int (k_tl (I 10) x n)), some (.int (bc x)), some (.int (m_st c (I 6) a)), some (.int m), some (.int (nI b))] [.int (k_be z rv (I 9 b) (I 40 b) (I 10 b) (k_tl (I 10) x n) (bc x) (m_st c (I 6) a) (nI b)), .int m] (I3, J, R) _
          refine ev_st dX0_forceOf_85 rfl rfl ?_
          refine ev_st (L' := [some (.ref 8), some (.ref 35), some (.int x), some (.ref 39), some (.int (k_tl (I 10) x n)), some (.int (bc x)), some (.int (m_st c (I 6) a)), some (.int (m + (k_be z rv (I 9 b) (I 40 b) (I 10 b) (k_tl (I 10) x n) (bc x) (m_st c (I 6) a) (nI b)))), some (.int (nI b))]) dX0_forceOf_86 rfl rfl ?_
          refine ev_iincN (a := b) (b := b + 1) (L' := [some (.ref 8), some (.ref 35), some (.int x), some (.ref 39), some (.int (k_tl (I 10) x n)), some (.int (bc x)), some (.int (m_st c (I 6) a)), some (.int (m + (k_be z rv (I 9 b) (I 40 b) (I 10 b) (k_tl (I 10) x n) (bc x) (m_st c (I 6) a) (nI b)))), some (.int (nI (b + 1)))]) dX0_forceOf_88 rfl (nI_1 _) rfl ?_
          refine ev_goto (t := 32) dX0_forceOf_91 (by decide) ?_
          exact ih _ _ _ (by omega) (by omega) (by simp [k_fo, hm, k_b, c_47]) hs3
  show Ev lyC (d + 4) hX0_forceOf 0 [some (.ref 8), some (.ref 35), some (.int x), some (.ref 39), none, none, none, none, none] [] (I2, J, R) _
  refine ev_st dX0_forceOf_0 rfl rfl ?_
  refine ev_st dX0_forceOf_1 rfl rfl ?_
  refine ev_call dX0_forceOf_2 rfl rfl mr_0_50 rfl rfl rfl ((by have K := k_tallestOf (I := I2) (J := J) (R := R) (d := d + 3) (by rw [hs.r 8 rfl]; exact hn) hn8 x; rw [hs.r 10 rfl] at K; exact K)) ?_
  rintro _ _ ⟨rfl, rfl⟩
  show Ev lyC (d + 4) hX0_forceOf 5 [some (.ref 8), some (.ref 35), some (.int x), some (.ref 39), none, none, none, none, none] [.int (k_tl (I 10) x n)] (I2, J, R) _
  refine ev_st (L' := [some (.ref 8), some (.ref 35), some (.int x), some (.ref 39), some (.int (k_tl (I 10) x n)), none, none, none, none]) dX0_forceOf_5 rfl rfl ?_
  refine ev_st dX0_forceOf_7 rfl rfl ?_
  refine ev_call dX0_forceOf_8 rfl rfl mr_0_54 rfl rfl rfl (c_bc x) ?_
  rintro _ _ ⟨rfl, rfl⟩
  show Ev lyC (d + 4) hX0_forceOf 11 [some (.ref 8), some (.ref 35), some (.int x), some (.ref 39), some (.int (k_tl (I 10) x n)), none, none, none, none] [.int (bc x)] (I2, J, R) _
  refine ev_st (L' := [some (.ref 8), some (.ref 35), some (.int x), some (.ref 39), some (.int (k_tl (I 10) x n)), some (.int (bc x)), none, none, none]) dX0_forceOf_11 rfl rfl ?_
  refine ev_st dX0_forceOf_13 rfl rfl ?_
  refine ev_getC dX0_forceOf_14 fr_0_18 rfl rfl ?_
  refine ev_st dX0_forceOf_17 rfl rfl ?_
  refine ev_getI (v := nI a) dX0_forceOf_18 fr_0_59 rfl rfl (by rw [hs.r 39 rfl]; exact ha) ?_
  refine ev_call dX0_forceOf_21 rfl rfl mr_0_64 rfl rfl rfl ((by have K := k_steepAt (I := I2) (J := J) (R := R) (d := d + 3) (c := c) (a := a) (by rw [hs.r 5 rfl]; exact hc) hc12 ha12; rw [hs.r 6 rfl] at K; exact K)) ?_
  rintro _ _ ⟨rfl, rfl⟩
  show Ev lyC (d + 4) hX0_forceOf 24 [some (.ref 8), some (.ref 35), some (.int x), some (.ref 39), some (.int (k_tl (I 10) x n)), some (.int (bc x)), none, none, none] [.int (m_st c (I 6) a)] (I2, J, R) _
  refine ev_st (L' := [some (.ref 8), some (.ref 35), some (.int x), some (.ref 39), some (.int (k_tl (I 10) x n)), some (.int (bc x)), some (.int (m_st c (I 6) a)), none, none]) dX0_forceOf_24 rfl rfl ?_
  refine ev_iconst (v := 0) dX0_forceOf_26 (by decide) ?_
  refine ev_st (L' := [some (.ref 8), some (.ref 35), some (.int x), some (.ref 39), some (.int (k_tl (I 10) x n)), some (.int (bc x)), some (.int (m_st c (I 6) a)), some (.int 0), none]) dX0_forceOf_27 rfl rfl ?_
  refine ev_iconst (v := 0) dX0_forceOf_29 (by decide) ?_
  refine ev_st (L' := [some (.ref 8), some (.ref 35), some (.int x), some (.ref 39), some (.int (k_tl (I 10) x n)), some (.int (bc x)), some (.int (m_st c (I 6) a)), some (.int 0), some (.int 0)]) dX0_forceOf_30 rfl rfl ?_
  exact loop (n + 1) 0 0 _ (by omega) (by omega) rfl hs
set_option maxHeartbeats 4000000 in
theorem k_forceOf_35_41 {I I2 : Nat → Nat → Int32} {J : Nat → Nat → Int64} {R : Nat → Nat → Value} {d n c a z : Nat} {rv : RV} (hn : I 8 3 = nI n) (hn8 : n ≤ 8) (hc : I 5 2 = nI c) (hc12 : c ≤ 12) (ha : I 41 1 = nI a) (ha12 : a ≤ 12) (hz : I 35 3 = nI z) (hR : RC d 35 (I 36) z rv) (hs : sC I I2) (x : Int32) : Cal lyC (d + 4) hX0_forceOf 9 [.ref 8, .ref 35, .int x, .ref 41] (I2, J, R) (fun r M' => r = some (.int (k_fo z rv (I 9) (I 10) (I 42) (k_tl (I 10) x n) (m_st c (I 6) a) x n)) ∧ ∃ I3, M' = (I3, J, R) ∧ sC I I3) := by
  have loop : ∀ (k b : Nat) (m : Int32) (I2 : Nat → Nat → Int32), b ≤ n → n - b < k → m = k_fo z rv (I 9) (I 10) (I 42) (k_tl (I 10) x n) (m_st c (I 6) a) x b → sC I I2 → Ev lyC (d + 4) hX0_forceOf 32 [some (.ref 8), some (.ref 35), some (.int x), some (.ref 41), some (.int (k_tl (I 10) x n)), some (.int (bc x)), some (.int (m_st c (I 6) a)), some (.int m), some (.int (nI b))] [] (I2, J, R) (fun r M' => r = some (.int (k_fo z rv (I 9) (I 10) (I 42) (k_tl (I 10) x n) (m_st c (I 6) a) x n)) ∧ ∃ I3, M' = (I3, J, R) ∧ sC I I3) := by
    intro k
    induction k with
    | zero => intro b m I2 h1 h2; omega
    | succ k ih =>
      intro b m I2 hb hk hm hs
      refine ev_st dX0_forceOf_32 rfl rfl ?_
      refine ev_st dX0_forceOf_34 rfl rfl ?_
      refine ev_getI (v := nI n) dX0_forceOf_35 fr_0_22 rfl rfl (by rw [hs.r 8 rfl]; exact hn) ?_
      refine ev_ic_geN (t := 94) (a := b) (b := n) dX0_forceOf_38 (by decide) rfl rfl (by omega) (by omega) (fun c_38 => ?_) (fun c_38 => ?_)
      · refine ev_st dX0_forceOf_94 rfl rfl ?_
        exact ev_iret dX0_forceOf_96 rfl (⟨by rw [hm, show b = n by omega], _, rfl, hs⟩)
      · refine ev_st dX0_forceOf_41 rfl rfl ?_
        refine ev_st dX0_forceOf_42 rfl rfl ?_
        refine ev_st dX0_forceOf_44 rfl rfl ?_
        refine ev_iconst (v := 1) dX0_forceOf_45 (by decide) ?_
        refine ev_st dX0_forceOf_46 rfl rfl ?_
        refine ev_if_eq (t := 88) (x := (x >>> ((nI b) &&& 31)) &&& 1) dX0_forceOf_47 (by decide) (fun c_47 => ?_) (fun c_47 => ?_)
        · refine ev_iincN (a := b) (b := b + 1) (L' := [some (.ref 8), some (.ref 35), some (.int x), some (.ref 41), some (.int (k_tl (I 10) x n)), some (.int (bc x)), some (.int (m_st c (I 6) a)), some (.int m), some (.int (nI (b + 1)))]) dX0_forceOf_88 rfl (nI_1 _) rfl ?_
          refine ev_goto (t := 32) dX0_forceOf_91 (by decide) ?_
          exact ih _ _ _ (by omega) (by omega) (by simp [k_fo, hm, k_b, c_47]) hs
        · refine ev_st dX0_forceOf_50 rfl rfl ?_
          refine ev_st dX0_forceOf_52 rfl rfl ?_
          refine ev_st dX0_forceOf_53 rfl rfl ?_
          refine ev_getC dX0_forceOf_54 fr_0_9 rfl rfl ?_
          refine ev_st dX0_forceOf_57 rfl rfl ?_
          refine ev_iald (j := b) (v := I 9 b) dX0_forceOf_59 rfl rfl (by omega) (by decide) (by rw [hs.r 9 rfl]) ?_
          refine ev_st dX0_forceOf_60 rfl rfl ?_
          refine ev_getC dX0_forceOf_61 fr_0_69 rfl rfl ?_
          refine ev_st dX0_forceOf_64 rfl rfl ?_
          refine ev_iald (j := b) (v := I 42 b) dX0_forceOf_66 rfl rfl (by omega) (by decide) (by rw [hs.r 42 rfl]) ?_
          refine ev_st dX0_forceOf_67 rfl rfl ?_
          refine ev_getC dX0_forceOf_68 fr_0_15 rfl rfl ?_
          refine ev_st dX0_forceOf_71 rfl rfl ?_
          refine ev_iald (j := b) (v := I 10 b) dX0_forceOf_73 rfl rfl (by omega) (by decide) (by rw [hs.r 10 rfl]) ?_
          refine ev_st dX0_forceOf_74 rfl rfl ?_
          refine ev_st dX0_forceOf_76 rfl rfl ?_
          refine ev_st dX0_forceOf_78 rfl rfl ?_
          refine ev_st dX0_forceOf_80 rfl rfl ?_
          refine ev_call dX0_forceOf_82 rfl rfl mr_0_72 rfl rfl rfl (k_tellS_35 hz hR hs (I 9 b) (I 42 b) (I 10 b) (k_tl (I 10) x n) (bc x) (m_st c (I 6) a) (nI b)) ?_
          rintro _ _ ⟨rfl, I3, rfl, hs3⟩
          show Ev lyC (d + 4) hX0_forceOf 85 [some (.ref 8), some (.ref 35), some (.int x), some (.ref 41), some (.int (k_tl (I 10) x n)), some (.int (bc x)), some (.int (m_st c (I 6) a)), some (.int m), some (.int (nI b))] [.int (k_be z rv (I 9 b) (I 42 b) (I 10 b) (k_tl (I 10) x n) (bc x) (m_st c (I 6) a) (nI b)), .int m] (I3, J, R) _
          refine ev_st dX0_forceOf_85 rfl rfl ?_
          refine ev_st (L' := [some (.ref 8), some (.ref 35), some (.int x), some (.ref 41), some (.int (k_tl (I 10) x n)), some (.int (bc x)), some (.int (m_st c (I 6) a)), some (.int (m + (k_be z rv (I 9 b) (I 42 b) (I 10 b) (k_tl (I 10) x n) (bc x) (m_st c (I 6) a) (nI b)))), some (.int (nI b))]) dX0_forceOf_86 rfl rfl ?_
          refine ev_iincN (a := b) (b := b + 1) (L' := [some (.ref 8), some (.ref 35), some (.int x), some (.ref 41), some (.int (k_tl (I 10) x n)), some (.int (bc x)), some (.int (m_st c (I 6) a)), some (.int (m + (k_be z rv (I 9 b) (I 42 b) (I 10 b) (k_tl (I 10) x n) (bc x) (m_st c (I 6) a) (nI b)))), some (.int (nI (b + 1)))]) dX0_forceOf_88 rfl (nI_1 _) rfl ?_
          refine ev_goto (t := 32) dX0_forceOf_91 (by decide) ?_
          exact ih _ _ _ (by omega) (by omega) (by simp [k_fo, hm, k_b, c_47]) hs3
  show Ev lyC (d + 4) hX0_forceOf 0 [some (.ref 8), some (.ref 35), some (.int x), some (.ref 41), none, none, none, none, none] [] (I2, J, R) _
  refine ev_st dX0_forceOf_0 rfl rfl ?_
  refine ev_st dX0_forceOf_1 rfl rfl ?_
  refine ev_call dX0_forceOf_2 rfl rfl mr_0_50 rfl rfl rfl ((by have K := k_tallestOf (I := I2) (J := J) (R := R) (d := d + 3) (by rw [hs.r 8 rfl]; exact hn) hn8 x; rw [hs.r 10 rfl] at K; exact K)) ?_
  rintro _ _ ⟨rfl, rfl⟩
  show Ev lyC (d + 4) hX0_forceOf 5 [some (.ref 8), some (.ref 35), some (.int x), some (.ref 41), none, none, none, none, none] [.int (k_tl (I 10) x n)] (I2, J, R) _
  refine ev_st (L' := [some (.ref 8), some (.ref 35), some (.int x), some (.ref 41), some (.int (k_tl (I 10) x n)), none, none, none, none]) dX0_forceOf_5 rfl rfl ?_
  refine ev_st dX0_forceOf_7 rfl rfl ?_
  refine ev_call dX0_forceOf_8 rfl rfl mr_0_54 rfl rfl rfl (c_bc x) ?_
  rintro _ _ ⟨rfl, rfl⟩
  show Ev lyC (d + 4) hX0_forceOf 11 [some (.ref 8), some (.ref 35), some (.int x), some (.ref 41), some (.int (k_tl (I 10) x n)), none, none, none, none] [.int (bc x)] (I2, J, R) _
  refine ev_st (L' := [some (.ref 8), some (.ref 35), some (.int x), some (.ref 41), some (.int (k_tl (I 10) x n)), some (.int (bc x)), none, none, none]) dX0_forceOf_11 rfl rfl ?_
  refine ev_st dX0_forceOf_13 rfl rfl ?_
  refine ev_getC dX0_forceOf_14 fr_0_18 rfl rfl ?_
  refine ev_st dX0_forceOf_17 rfl rfl ?_
  refine ev_getI (v := nI a) dX0_forceOf_18 fr_0_59 rfl rfl (by rw [hs.r 41 rfl]; exact ha) ?_
  refine ev_call dX0_forceOf_21 rfl rfl mr_0_64 rfl rfl rfl ((by have K := k_steepAt (I := I2) (J := J) (R := R) (d := d + 3) (c := c) (a := a) (by rw [hs.r 5 rfl]; exact hc) hc12 ha12; rw [hs.r 6 rfl] at K; exact K)) ?_
  rintro _ _ ⟨rfl, rfl⟩
  show Ev lyC (d + 4) hX0_forceOf 24 [some (.ref 8), some (.ref 35), some (.int x), some (.ref 41), some (.int (k_tl (I 10) x n)), some (.int (bc x)), none, none, none] [.int (m_st c (I 6) a)] (I2, J, R) _
  refine ev_st (L' := [some (.ref 8), some (.ref 35), some (.int x), some (.ref 41), some (.int (k_tl (I 10) x n)), some (.int (bc x)), some (.int (m_st c (I 6) a)), none, none]) dX0_forceOf_24 rfl rfl ?_
  refine ev_iconst (v := 0) dX0_forceOf_26 (by decide) ?_
  refine ev_st (L' := [some (.ref 8), some (.ref 35), some (.int x), some (.ref 41), some (.int (k_tl (I 10) x n)), some (.int (bc x)), some (.int (m_st c (I 6) a)), some (.int 0), none]) dX0_forceOf_27 rfl rfl ?_
  refine ev_iconst (v := 0) dX0_forceOf_29 (by decide) ?_
  refine ev_st (L' := [some (.ref 8), some (.ref 35), some (.int x), some (.ref 41), some (.int (k_tl (I 10) x n)), some (.int (bc x)), some (.int (m_st c (I 6) a)), some (.int 0), some (.int 0)]) dX0_forceOf_30 rfl rfl ?_
  exact loop (n + 1) 0 0 _ (by omega) (by omega) rfl hs
