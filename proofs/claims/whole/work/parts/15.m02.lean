/-! the model: steep, carry, what one bears, force -/
def bc (x : Int32) : Int32 :=
  let a := x - ((x.toUInt32 >>> ((1 : Int32).toUInt32 &&& Int32.toUInt32 31)).toInt32 &&& 1431655765)
  let b := (a &&& 858993459) + ((a.toUInt32 >>> ((2 : Int32).toUInt32 &&& Int32.toUInt32 31)).toInt32 &&& 858993459)
  let c := (b + (b.toUInt32 >>> ((4 : Int32).toUInt32 &&& Int32.toUInt32 31)).toInt32) &&& 252645135
  let e := c + (c.toUInt32 >>> ((8 : Int32).toUInt32 &&& Int32.toUInt32 31)).toInt32
  let f := e + (e.toUInt32 >>> ((16 : Int32).toUInt32 &&& Int32.toUInt32 31)).toInt32
  f &&& 63
theorem c_bc {lay : List TE} {M : TM} {d : Nat} (x : Int32) : Cal lay d hJ6_bitCount_0f7a4 1 [.int x] M (fun r M' => r = some (.int (bc x)) ∧ M' = M) := by
  show Ev lay d hJ6_bitCount_0f7a4 0 [some (.int x)] [] M _
  refine ev_st dJ6_bitCount_0f7a4_0 rfl rfl ?_
  refine ev_st dJ6_bitCount_0f7a4_1 rfl rfl ?_
  refine ev_iconst (v := 1) dJ6_bitCount_0f7a4_2 (by decide) ?_
  refine ev_st dJ6_bitCount_0f7a4_3 rfl rfl ?_
  refine ev_ldcw (v := 1431655765) dJ6_bitCount_0f7a4_4 rfl ?_
  refine ev_st dJ6_bitCount_0f7a4_7 rfl rfl ?_
  refine ev_st dJ6_bitCount_0f7a4_8 rfl rfl ?_
  refine ev_st (L' := [some (.int (x - (((x.toUInt32 >>> ((1 : Int32).toUInt32 &&& Int32.toUInt32 31)).toInt32) &&& 1431655765)))]) dJ6_bitCount_0f7a4_9 rfl rfl ?_
  refine ev_st dJ6_bitCount_0f7a4_10 rfl rfl ?_
  refine ev_ldcw (v := 858993459) dJ6_bitCount_0f7a4_11 rfl ?_
  refine ev_st dJ6_bitCount_0f7a4_14 rfl rfl ?_
  refine ev_st dJ6_bitCount_0f7a4_15 rfl rfl ?_
  refine ev_iconst (v := 2) dJ6_bitCount_0f7a4_16 (by decide) ?_
  refine ev_st dJ6_bitCount_0f7a4_17 rfl rfl ?_
  refine ev_ldcw (v := 858993459) dJ6_bitCount_0f7a4_18 rfl ?_
  refine ev_st dJ6_bitCount_0f7a4_21 rfl rfl ?_
  refine ev_st dJ6_bitCount_0f7a4_22 rfl rfl ?_
  refine ev_st (L' := [some (.int (((x - (((x.toUInt32 >>> ((1 : Int32).toUInt32 &&& Int32.toUInt32 31)).toInt32) &&& 1431655765)) &&& 858993459) + ((((x - (((x.toUInt32 >>> ((1 : Int32).toUInt32 &&& Int32.toUInt32 31)).toInt32) &&& 1431655765)).toUInt32 >>> ((2 : Int32).toUInt32 &&& Int32.toUInt32 31)).toInt32) &&& 858993459)))]) dJ6_bitCount_0f7a4_23 rfl rfl ?_
  refine ev_st dJ6_bitCount_0f7a4_24 rfl rfl ?_
  refine ev_st dJ6_bitCount_0f7a4_25 rfl rfl ?_
  refine ev_iconst (v := 4) dJ6_bitCount_0f7a4_26 (by decide) ?_
  refine ev_st dJ6_bitCount_0f7a4_27 rfl rfl ?_
  refine ev_st dJ6_bitCount_0f7a4_28 rfl rfl ?_
  refine ev_ldcw (v := 252645135) dJ6_bitCount_0f7a4_29 rfl ?_
  refine ev_st dJ6_bitCount_0f7a4_32 rfl rfl ?_
  refine ev_st (L' := [some (.int (((((x - (((x.toUInt32 >>> ((1 : Int32).toUInt32 &&& Int32.toUInt32 31)).toInt32) &&& 1431655765)) &&& 858993459) + ((((x - (((x.toUInt32 >>> ((1 : Int32).toUInt32 &&& Int32.toUInt32 31)).toInt32) &&& 1431655765)).toUInt32 >>> ((2 : Int32).toUInt32 &&& Int32.toUInt32 31)).toInt32) &&& 858993459)) + (((((x - (((x.toUInt32 >>> ((1 : Int32).toUInt32 &&& Int32.toUInt32 31)).toInt32) &&& 1431655765)) &&& 858993459) + ((((x - (((x.toUInt32 >>> ((1 : Int32).toUInt32 &&& Int32.toUInt32 31)).toInt32) &&& 1431655765)).toUInt32 >>> ((2 : Int32).toUInt32 &&& Int32.toUInt32 31)).toInt32) &&& 858993459)).toUInt32 >>> ((4 : Int32).toUInt32 &&& Int32.toUInt32 31)).toInt32)) &&& 252645135))]) dJ6_bitCount_0f7a4_33 rfl rfl ?_
  refine ev_st dJ6_bitCount_0f7a4_34 rfl rfl ?_
  refine ev_st dJ6_bitCount_0f7a4_35 rfl rfl ?_
  refine ev_bipush (v := 8) dJ6_bitCount_0f7a4_36 (by decide) ?_
  refine ev_st dJ6_bitCount_0f7a4_38 rfl rfl ?_
  refine ev_st dJ6_bitCount_0f7a4_39 rfl rfl ?_
  refine ev_st (L' := [some (.int ((((((x - (((x.toUInt32 >>> ((1 : Int32).toUInt32 &&& Int32.toUInt32 31)).toInt32) &&& 1431655765)) &&& 858993459) + ((((x - (((x.toUInt32 >>> ((1 : Int32).toUInt32 &&& Int32.toUInt32 31)).toInt32) &&& 1431655765)).toUInt32 >>> ((2 : Int32).toUInt32 &&& Int32.toUInt32 31)).toInt32) &&& 858993459)) + (((((x - (((x.toUInt32 >>> ((1 : Int32).toUInt32 &&& Int32.toUInt32 31)).toInt32) &&& 1431655765)) &&& 858993459) + ((((x - (((x.toUInt32 >>> ((1 : Int32).toUInt32 &&& Int32.toUInt32 31)).toInt32) &&& 1431655765)).toUInt32 >>> ((2 : Int32).toUInt32 &&& Int32.toUInt32 31)).toInt32) &&& 858993459)).toUInt32 >>> ((4 : Int32).toUInt32 &&& Int32.toUInt32 31)).toInt32)) &&& 252645135) + (((((((x - (((x.toUInt32 >>> ((1 : Int32).toUInt32 &&& Int32.toUInt32 31)).toInt32) &&& 1431655765)) &&& 858993459) + ((((x - (((x.toUInt32 >>> ((1 : Int32).toUInt32 &&& Int32.toUInt32 31)).toInt32) &&& 1431655765)).toUInt32 >>> ((2 : Int32).toUInt32 &&& Int32.toUInt32 31)).toInt32) &&& 858993459)) + (((((x - (((x.toUInt32 >>> ((1 : Int32).toUInt32 &&& Int32.toUInt32 31)).toInt32) &&& 1431655765)) &&& 858993459) + ((((x - (((x.toUInt32 >>> ((1 : Int32).toUInt32 &&& Int32.toUInt32 31)).toInt32) &&& 1431655765)).toUInt32 >>> ((2 : Int32).toUInt32 &&& Int32.toUInt32 31)).toInt32) &&& 858993459)).toUInt32 >>> ((4 : Int32).toUInt32 &&& Int32.toUInt32 31)).toInt32)) &&& 252645135).toUInt32 >>> ((8 : Int32).toUInt32 &&& Int32.toUInt32 31)).toInt32)))]) dJ6_bitCount_0f7a4_40 rfl rfl ?_
  refine ev_st dJ6_bitCount_0f7a4_41 rfl rfl ?_
  refine ev_st dJ6_bitCount_0f7a4_42 rfl rfl ?_
  refine ev_bipush (v := 16) dJ6_bitCount_0f7a4_43 (by decide) ?_
  refine ev_st dJ6_bitCount_0f7a4_45 rfl rfl ?_
  refine ev_st dJ6_bitCount_0f7a4_46 rfl rfl ?_
  refine ev_st (L' := [some (.int (((((((x - (((x.toUInt32 >>> ((1 : Int32).toUInt32 &&& Int32.toUInt32 31)).toInt32) &&& 1431655765)) &&& 858993459) + ((((x - (((x.toUInt32 >>> ((1 : Int32).toUInt32 &&& Int32.toUInt32 31)).toInt32) &&& 1431655765)).toUInt32 >>> ((2 : Int32).toUInt32 &&& Int32.toUInt32 31)).toInt32) &&& 858993459)) + (((((x - (((x.toUInt32 >>> ((1 : Int32).toUInt32 &&& Int32.toUInt32 31)).toInt32) &&& 1431655765)) &&& 858993459) + ((((x - (((x.toUInt32 >>> ((1 : Int32).toUInt32 &&& Int32.toUInt32 31)).toInt32) &&& 1431655765)).toUInt32 >>> ((2 : Int32).toUInt32 &&& Int32.toUInt32 31)).toInt32) &&& 858993459)).toUInt32 >>> ((4 : Int32).toUInt32 &&& Int32.toUInt32 31)).toInt32)) &&& 252645135) + (((((((x - (((x.toUInt32 >>> ((1 : Int32).toUInt32 &&& Int32.toUInt32 31)).toInt32) &&& 1431655765)) &&& 858993459) + ((((x - (((x.toUInt32 >>> ((1 : Int32).toUInt32 &&& Int32.toUInt32 31)).toInt32) &&& 1431655765)).toUInt32 >>> ((2 : Int32).toUInt32 &&& Int32.toUInt32 31)).toInt32) &&& 858993459)) + (((((x - (((x.toUInt32 >>> ((1 : Int32).toUInt32 &&& Int32.toUInt32 31)).toInt32) &&& 1431655765)) &&& 858993459) + ((((x - (((x.toUInt32 >>> ((1 : Int32).toUInt32 &&& Int32.toUInt32 31)).toInt32) &&& 1431655765)).toUInt32 >>> ((2 : Int32).toUInt32 &&& Int32.toUInt32 31)).toInt32) &&& 858993459)).toUInt32 >>> ((4 : Int32).toUInt32 &&& Int32.toUInt32 31)).toInt32)) &&& 252645135).toUInt32 >>> ((8 : Int32).toUInt32 &&& Int32.toUInt32 31)).toInt32)) + ((((((((x - (((x.toUInt32 >>> ((1 : Int32).toUInt32 &&& Int32.toUInt32 31)).toInt32) &&& 1431655765)) &&& 858993459) + ((((x - (((x.toUInt32 >>> ((1 : Int32).toUInt32 &&& Int32.toUInt32 31)).toInt32) &&& 1431655765)).toUInt32 >>> ((2 : Int32).toUInt32 &&& Int32.toUInt32 31)).toInt32) &&& 858993459)) + (((((x - (((x.toUInt32 >>> ((1 : Int32).toUInt32 &&& Int32.toUInt32 31)).toInt32) &&& 1431655765)) &&& 858993459) + ((((x - (((x.toUInt32 >>> ((1 : Int32).toUInt32 &&& Int32.toUInt32 31)).toInt32) &&& 1431655765)).toUInt32 >>> ((2 : Int32).toUInt32 &&& Int32.toUInt32 31)).toInt32) &&& 858993459)).toUInt32 >>> ((4 : Int32).toUInt32 &&& Int32.toUInt32 31)).toInt32)) &&& 252645135) + (((((((x - (((x.toUInt32 >>> ((1 : Int32).toUInt32 &&& Int32.toUInt32 31)).toInt32) &&& 1431655765)) &&& 858993459) + ((((x - (((x.toUInt32 >>> ((1 : Int32).toUInt32 &&& Int32.toUInt32 31)).toInt32) &&& 1431655765)).toUInt32 >>> ((2 : Int32).toUInt32 &&& Int32.toUInt32 31)).toInt32) &&& 858993459)) + (((((x - (((x.toUInt32 >>> ((1 : Int32).toUInt32 &&& Int32.toUInt32 31)).toInt32) &&& 1431655765)) &&& 858993459) + ((((x - (((x.toUInt32 >>> ((1 : Int32).toUInt32 &&& Int32.toUInt32 31)).toInt32) &&& 1431655765)).toUInt32 >>> ((2 : Int32).toUInt32 &&& Int32.toUInt32 31)).toInt32) &&& 858993459)).toUInt32 >>> ((4 : Int32).toUInt32 &&& Int32.toUInt32 31)).toInt32)) &&& 252645135).toUInt32 >>> ((8 : Int32).toUInt32 &&& Int32.toUInt32 31)).toInt32)).toUInt32 >>> ((16 : Int32).toUInt32 &&& Int32.toUInt32 31)).toInt32)))]) dJ6_bitCount_0f7a4_47 rfl rfl ?_
  refine ev_st dJ6_bitCount_0f7a4_48 rfl rfl ?_
  refine ev_bipush (v := 63) dJ6_bitCount_0f7a4_49 (by decide) ?_
  refine ev_st dJ6_bitCount_0f7a4_51 rfl rfl ?_
  exact ev_iret dJ6_bitCount_0f7a4_52 rfl (⟨rfl, rfl⟩)
def m_st (c : Nat) (sp : Nat → Int32) (k : Nat) : Int32 := if k < c then sp k else 0
def m_cl (v : Int32) : Int32 := if 0 < (if v < 99 then v else 99) then (if v < 99 then v else 99) else 0
abbrev RV : Type := Int32 → Int32 → Int32 → Int32 → Int32 → Int32 → Int32 → Int32
def m_be (rs : Nat) (rv : RV) (str tl a : Nat → Int32) (mo st : Int32) (b : Nat) (x : Int32) : Int32 := m_cl (if rs = 0 then str b - a b / 3 - (mo - tl b) else rv (str b) (a b) (tl b) mo (bc x) st (nI b))
/-- FORCE of those among the first k -/
def m_fo (rs : Nat) (rv : RV) (str tl a : Nat → Int32) (mo st : Int32) (x : Int32) : Nat → Int32
  | 0 => 0
  | k + 1 => m_fo rs rv str tl a mo st x k + (if m_has x (nI k) = 0 then 0 else m_be rs rv str tl a mo st k x)
/-- the bits of those that carry, among the first k -/
def m_cy (a : Nat → Int32) : Nat → Int32
  | 0 => 0
  | k + 1 => m_cy a k ||| (a (8 + k) <<< (nI k &&& 31))
/-- what the model's own scratch is: asked, and the reader's fields -/
def sM (I : Nat → Nat → Int32) (R : Nat → Nat → Value) (I2 : Nat → Nat → Int32) (R2 : Nat → Nat → Value) : Prop := (∀ p, p ≠ 0 → p ≠ 11 → I2 p = I p) ∧ (∀ k, k ≠ 14 → k ≠ 15 → k ≠ 16 → k ≠ 17 → k ≠ 22 → I2 0 k = I 0 k) ∧ R2 0 19 = R 0 19
theorem sM.rf {I : Nat → Nat → Int32} {R : Nat → Nat → Value} : sM I R I R := ⟨fun _ _ _ => rfl, fun _ _ _ _ _ _ => rfl, rfl⟩
theorem sM.tr {I I2 I3 : Nat → Nat → Int32} {R R2 R3 : Nat → Nat → Value} (h : sM I R I2 R2) (g : sM I2 R2 I3 R3) : sM I R I3 R3 := ⟨fun p a b => (g.1 p a b).trans (h.1 p a b), fun k a b c d e => (g.2.1 k a b c d e).trans (h.2.1 k a b c d e), g.2.2.trans h.2.2⟩
/-- THE RULE at the cell rp, of rs signs, tells rv -/
def RU (d rp : Nat) (t : Nat → Int32) (rs : Nat) (rv : RV) : Prop := (rp = 9 ∨ rp = 10) ∧ rs ≤ 40 ∧ (0 < rs → ∀ (I : Nat → Nat → Int32) (J : Nat → Nat → Int64) (R : Nat → Nat → Value), I rp = t → R 0 13 = .ref rp → I 0 14 = nI rs → I 0 15 = 40 → I 0 16 = 0 → I 0 17 = -1 → I 0 22 = 1 →
  Cal lyM (d + 90) hX12_held 3 [.ref 0, .int 0] (I, J, R) (fun r M => r = some (.int (rv (I 11 0) (I 11 1) (I 11 2) (I 11 3) (I 11 4) (I 11 5) (I 11 6))) ∧ M = (ti_wr I 0 16 (nI rs), J, R)))
theorem c_begin {I : Nat → Nat → Int32} {J : Nat → Nat → Int64} {R : Nat → Nat → Value} {d rp : Nat} (n t : Int32) : Cal lyM d hX12_begin 4 [.ref 0, .ref rp, .int n, .int t] (I, J, R) (fun r M' => r = none ∧ M' = (ti_wr (ti_wr (ti_wr (ti_wr I 0 14 n) 0 15 t) 0 16 0) 0 17 (-1), J, ti_wf R 0 13 (.ref rp))) := by
  show Ev lyM d hX12_begin 0 [some (.ref 0), some (.ref rp), some (.int n), some (.int t)] [] (I, J, R) _
  refine ev_st dX12_begin_0 rfl rfl ?_
  refine ev_st dX12_begin_1 rfl rfl ?_
  refine ev_putR dX12_begin_2 fr_12_108 rfl rfl ?_
  refine ev_st dX12_begin_5 rfl rfl ?_
  refine ev_st dX12_begin_6 rfl rfl ?_
  refine ev_putI dX12_begin_7 fr_12_111 rfl rfl ?_
  refine ev_st dX12_begin_10 rfl rfl ?_
  refine ev_st dX12_begin_11 rfl rfl ?_
  refine ev_putI dX12_begin_12 fr_12_114 rfl rfl ?_
  refine ev_st dX12_begin_15 rfl rfl ?_
  refine ev_iconst (v := 0) dX12_begin_16 (by decide) ?_
  refine ev_putI dX12_begin_17 fr_12_117 rfl rfl ?_
  refine ev_st dX12_begin_20 rfl rfl ?_
  refine ev_iconst (v := -1) dX12_begin_21 (by decide) ?_
  refine ev_putI dX12_begin_22 fr_12_120 rfl rfl ?_
  exact ev_vret dX12_begin_25 rfl (⟨rfl, rfl⟩)
theorem c_steepOf {I : Nat → Nat → Int32} {J : Nat → Nat → Int64} {R : Nat → Nat → Value} {d c a : Nat} (hc : I 0 1 = nI c) (hc12 : c ≤ 12) (ha : I 1 24 = nI a) (ha12 : a ≤ 12) : Cal lyM d hX12_steepOf 2 [.ref 0, .ref 1] (I, J, R) (fun r M' => r = some (.int (m_st c (I 2) a)) ∧ M' = (I, J, R)) := by
  show Ev lyM d hX12_steepOf 0 [some (.ref 0), some (.ref 1)] [] (I, J, R) _
  refine ev_st dX12_steepOf_0 rfl rfl ?_
  refine ev_bipush (v := 24) dX12_steepOf_1 (by decide) ?_
  refine ev_iald (j := 24) (v := nI a) dX12_steepOf_3 rfl rfl (by decide) (by decide) ha ?_
  refine ev_st dX12_steepOf_4 rfl rfl ?_
  refine ev_getI (v := nI c) dX12_steepOf_5 fr_12_13 rfl rfl hc ?_
  refine ev_ic_geN (t := 23) (a := a) (b := c) dX12_steepOf_8 (by decide) rfl rfl (by omega) (by omega) (fun c_8 => ?_) (fun c_8 => ?_)
  · refine ev_iconst (v := 0) dX12_steepOf_23 (by decide) ?_
    exact ev_iret dX12_steepOf_24 rfl (⟨by simp [m_st, Nat.not_lt.mpr c_8], rfl⟩)
  · refine ev_st dX12_steepOf_11 rfl rfl ?_
    refine ev_getC dX12_steepOf_12 fr_12_17 rfl rfl ?_
    refine ev_st dX12_steepOf_15 rfl rfl ?_
    refine ev_bipush (v := 24) dX12_steepOf_16 (by decide) ?_
    refine ev_iald (j := 24) (v := nI a) dX12_steepOf_18 rfl rfl (by decide) (by decide) ha ?_
    refine ev_iald (j := a) (v := I 2 a) dX12_steepOf_19 rfl rfl (by omega) (by decide) rfl ?_
    refine ev_goto (t := 24) dX12_steepOf_20 (by decide) ?_
    exact ev_iret dX12_steepOf_24 rfl (⟨by simp [m_st, c_8], rfl⟩)
theorem c_carry {I : Nat → Nat → Int32} {J : Nat → Nat → Int64} {R : Nat → Nat → Value} {d n : Nat} (hn : I 0 3 = nI n) (hn8 : n ≤ 8) : Cal lyM d hX12_carry 4 [.ref 0, .ref 1] (I, J, R) (fun r M' => r = some (.int (m_cy (I 1) n)) ∧ M' = (I, J, R)) := by
  have loop : ∀ (k b : Nat) (m : Int32), b ≤ n → n - b < k → m = m_cy (I 1) b → Ev lyM d hX12_carry 4 [some (.ref 0), some (.ref 1), some (.int m), some (.int (nI b))] [] (I, J, R) (fun r M' => r = some (.int (m_cy (I 1) n)) ∧ M' = (I, J, R)) := by
    intro k
    induction k with
    | zero => intro b m h1 h2; omega
    | succ k ih =>
      intro b m hb hk hm
      refine ev_st dX12_carry_4 rfl rfl ?_
      refine ev_st dX12_carry_5 rfl rfl ?_
      refine ev_getI (v := nI n) dX12_carry_6 fr_12_95 rfl rfl hn ?_
      refine ev_ic_geN (t := 29) (a := b) (b := n) dX12_carry_9 (by decide) rfl rfl (by omega) (by omega) (fun c_9 => ?_) (fun c_9 => ?_)
      · refine ev_st dX12_carry_29 rfl rfl ?_
        exact ev_iret dX12_carry_30 rfl (⟨by rw [hm, show b = n by omega], rfl⟩)
      · refine ev_st dX12_carry_12 rfl rfl ?_
        refine ev_st dX12_carry_13 rfl rfl ?_
        refine ev_bipush (v := 8) dX12_carry_14 (by decide) ?_
        refine ev_st dX12_carry_16 rfl rfl ?_
        refine ev_iaddN (a := 8) (b := b) (c := 8 + b) dX12_carry_17 rfl rfl rfl ?_
        refine ev_iald (j := 8 + b) (v := I 1 (8 + b)) dX12_carry_18 rfl rfl (by omega) (by decide) rfl ?_
        refine ev_st dX12_carry_19 rfl rfl ?_
        refine ev_st dX12_carry_20 rfl rfl ?_
        refine ev_st dX12_carry_21 rfl rfl ?_
        refine ev_st (L' := [some (.ref 0), some (.ref 1), some (.int (m ||| ((I 1 (8 + b)) <<< ((nI b) &&& 31)))), some (.int (nI b))]) dX12_carry_22 rfl rfl ?_
        refine ev_iincN (a := b) (b := b + 1) (L' := [some (.ref 0), some (.ref 1), some (.int (m ||| ((I 1 (8 + b)) <<< ((nI b) &&& 31)))), some (.int (nI (b + 1)))]) dX12_carry_23 rfl (nI_1 _) rfl ?_
        refine ev_goto (t := 4) dX12_carry_26 (by decide) ?_
        exact ih _ _ (by omega) (by omega) (by simp [m_cy, hm])
  show Ev lyM d hX12_carry 0 [some (.ref 0), some (.ref 1), none, none] [] (I, J, R) _
  refine ev_iconst (v := 0) dX12_carry_0 (by decide) ?_
  refine ev_st (L' := [some (.ref 0), some (.ref 1), some (.int 0), none]) dX12_carry_1 rfl rfl ?_
  refine ev_iconst (v := 0) dX12_carry_2 (by decide) ?_
  refine ev_st (L' := [some (.ref 0), some (.ref 1), some (.int 0), some (.int 0)]) dX12_carry_3 rfl rfl ?_
  exact loop (n + 1) 0 0 (by omega) (by omega) rfl
set_option maxHeartbeats 4000000 in
theorem c_bearsOf {I : Nat → Nat → Int32} {J : Nat → Nat → Int64} {R : Nat → Nat → Value} {d n c a rp rs : Nat} {rv : RV} (hn : I 0 3 = nI n) (hn8 : n ≤ 8) (hc : I 0 1 = nI c) (hc12 : c ≤ 12) (ha : I 1 24 = nI a) (ha12 : a ≤ 12) (hrs : I 0 21 = nI rs) (hrp : R 0 19 = .ref rp) (hRU : RU d rp (I rp) rs rv) {b : Nat} (hb : b < n) (x : Int32) : Cal lyM (d + 91) hX12_bearsOf 6 [.ref 0, .ref 1, .int (nI b), .int x] (I, J, R) (fun r M' => r = some (.int (m_be rs rv (I 3) (I 4) (I 1) (m_tl (I 4) x n) (m_st c (I 2) a) b x)) ∧ ∃ I2 R2, M' = (I2, J, R2) ∧ sM I R I2 R2) := by
  have hrs40 := hRU.2.1
  show Ev lyM (d + 91) hX12_bearsOf 0 [some (.ref 0), some (.ref 1), some (.int (nI b)), some (.int x), none, none] [] (I, J, R) _
  refine ev_st dX12_bearsOf_0 rfl rfl ?_
  refine ev_st dX12_bearsOf_1 rfl rfl ?_
  refine ev_call dX12_bearsOf_2 rfl rfl mr_12_211 rfl rfl rfl (c_tallest hn hn8 x) ?_
  rintro _ _ ⟨rfl, rfl⟩
  show Ev lyM (d + 91) hX12_bearsOf 5 [some (.ref 0), some (.ref 1), some (.int (nI b)), some (.int x), none, none] [.int (m_tl (I 4) x n)] (I, J, R) _
  refine ev_st (L' := [some (.ref 0), some (.ref 1), some (.int (nI b)), some (.int x), some (.int (m_tl (I 4) x n)), none]) dX12_bearsOf_5 rfl rfl ?_
  refine ev_st dX12_bearsOf_7 rfl rfl ?_
  refine ev_getC dX12_bearsOf_8 fr_12_20 rfl rfl ?_
  refine ev_st dX12_bearsOf_11 rfl rfl ?_
  refine ev_iald (j := b) (v := I 3 b) dX12_bearsOf_12 rfl rfl (by omega) (by decide) rfl ?_
  refine ev_st dX12_bearsOf_13 rfl rfl ?_
  refine ev_st dX12_bearsOf_14 rfl rfl ?_
  refine ev_iald (j := b) (v := I 1 b) dX12_bearsOf_15 rfl rfl (by omega) (by decide) rfl ?_
  refine ev_iconst (v := 3) dX12_bearsOf_16 (by decide) ?_
  refine ev_div dX12_bearsOf_17 (by decide) ?_
  refine ev_st dX12_bearsOf_18 rfl rfl ?_
  refine ev_st dX12_bearsOf_19 rfl rfl ?_
  refine ev_st dX12_bearsOf_21 rfl rfl ?_
  refine ev_getC dX12_bearsOf_22 fr_12_23 rfl rfl ?_
  refine ev_st dX12_bearsOf_25 rfl rfl ?_
  refine ev_iald (j := b) (v := I 4 b) dX12_bearsOf_26 rfl rfl (by omega) (by decide) rfl ?_
  refine ev_st dX12_bearsOf_27 rfl rfl ?_
  refine ev_st dX12_bearsOf_28 rfl rfl ?_
  refine ev_st (L' := [some (.ref 0), some (.ref 1), some (.int (nI b)), some (.int x), some (.int (m_tl (I 4) x n)), some (.int (((I 3 b) - ((I 1 b) / 3)) - ((m_tl (I 4) x n) - (I 4 b))))]) dX12_bearsOf_29 rfl rfl ?_
  refine ev_st dX12_bearsOf_31 rfl rfl ?_
  refine ev_getI (v := nI rs) dX12_bearsOf_32 fr_12_198 rfl rfl hrs ?_
  refine ev_if_leN (t := 139) (a := rs) dX12_bearsOf_35 (by decide) rfl (by omega) (fun c_35 => ?_) (fun c_35 => ?_)
  · refine ev_iconst (v := 0) dX12_bearsOf_139 (by decide) ?_
    refine ev_bipush (v := 99) dX12_bearsOf_140 (by decide) ?_
    refine ev_st dX12_bearsOf_142 rfl rfl ?_
    refine ev_min (v := if (((I 3 b) - ((I 1 b) / 3)) - ((m_tl (I 4) x n) - (I 4 b))) < 99 then (((I 3 b) - ((I 1 b) / 3)) - ((m_tl (I 4) x n) - (I 4 b))) else 99) dX12_bearsOf_144 br_12_223 rfl rfl ?_
    refine ev_max (v := if 0 < (if (((I 3 b) - ((I 1 b) / 3)) - ((m_tl (I 4) x n) - (I 4 b))) < 99 then (((I 3 b) - ((I 1 b) / 3)) - ((m_tl (I 4) x n) - (I 4 b))) else 99) then (if (((I 3 b) - ((I 1 b) / 3)) - ((m_tl (I 4) x n) - (I 4 b))) < 99 then (((I 3 b) - ((I 1 b) / 3)) - ((m_tl (I 4) x n) - (I 4 b))) else 99) else 0) dX12_bearsOf_147 br_12_205 rfl rfl ?_
    exact ev_iret dX12_bearsOf_150 rfl (⟨by simp [m_be, m_cl, c_35], _, _, rfl, sM.rf⟩)
  · refine ev_st dX12_bearsOf_38 rfl rfl ?_
    refine ev_getC dX12_bearsOf_39 fr_12_46 rfl rfl ?_
    refine ev_iconst (v := 0) dX12_bearsOf_42 (by decide) ?_
    refine ev_st dX12_bearsOf_43 rfl rfl ?_
    refine ev_getC dX12_bearsOf_44 fr_12_20 rfl rfl ?_
    refine ev_st dX12_bearsOf_47 rfl rfl ?_
    refine ev_iald (j := b) (v := I 3 b) dX12_bearsOf_48 rfl rfl (by omega) (by decide) rfl ?_
    refine ev_iast (j := 0) dX12_bearsOf_49 rfl rfl (by decide) (by decide) ?_
    refine ev_st dX12_bearsOf_50 rfl rfl ?_
    refine ev_getC dX12_bearsOf_51 fr_12_46 rfl rfl ?_
    refine ev_iconst (v := 1) dX12_bearsOf_54 (by decide) ?_
    refine ev_st dX12_bearsOf_55 rfl rfl ?_
    refine ev_st dX12_bearsOf_56 rfl rfl ?_
    refine ev_iald (j := b) (v := I 1 b) dX12_bearsOf_57 rfl rfl (by omega) (by decide) rfl ?_
    refine ev_iast (j := 1) dX12_bearsOf_58 rfl rfl (by decide) (by decide) ?_
    refine ev_st dX12_bearsOf_59 rfl rfl ?_
    refine ev_getC dX12_bearsOf_60 fr_12_46 rfl rfl ?_
    refine ev_iconst (v := 2) dX12_bearsOf_63 (by decide) ?_
    refine ev_st dX12_bearsOf_64 rfl rfl ?_
    refine ev_getC dX12_bearsOf_65 fr_12_23 rfl rfl ?_
    refine ev_st dX12_bearsOf_68 rfl rfl ?_
    refine ev_iald (j := b) (v := I 4 b) dX12_bearsOf_69 rfl rfl (by omega) (by decide) rfl ?_
    refine ev_iast (j := 2) dX12_bearsOf_70 rfl rfl (by decide) (by decide) ?_
    refine ev_st dX12_bearsOf_71 rfl rfl ?_
    refine ev_getC dX12_bearsOf_72 fr_12_46 rfl rfl ?_
    refine ev_iconst (v := 3) dX12_bearsOf_75 (by decide) ?_
    refine ev_st dX12_bearsOf_76 rfl rfl ?_
    refine ev_iast (j := 3) dX12_bearsOf_78 rfl rfl (by decide) (by decide) ?_
    refine ev_st dX12_bearsOf_79 rfl rfl ?_
    refine ev_getC dX12_bearsOf_80 fr_12_46 rfl rfl ?_
    refine ev_iconst (v := 4) dX12_bearsOf_83 (by decide) ?_
    refine ev_st dX12_bearsOf_84 rfl rfl ?_
    refine ev_call dX12_bearsOf_85 rfl rfl mr_12_214 rfl rfl rfl (c_bc x) ?_
    rintro _ _ ⟨rfl, rfl⟩
    show Ev lyM (d + 91) hX12_bearsOf 88 [some (.ref 0), some (.ref 1), some (.int (nI b)), some (.int x), some (.int (m_tl (I 4) x n)), some (.int (((I 3 b) - ((I 1 b) / 3)) - ((m_tl (I 4) x n) - (I 4 b))))] [.int (bc x), .int 4, .ref 11] (ti_wr (ti_wr (ti_wr (ti_wr I 11 0 (I 3 b)) 11 1 (I 1 b)) 11 2 (I 4 b)) 11 3 (m_tl (I 4) x n), J, R) _
    refine ev_iast (j := 4) dX12_bearsOf_88 rfl rfl (by decide) (by decide) ?_
    refine ev_st dX12_bearsOf_89 rfl rfl ?_
    refine ev_getC dX12_bearsOf_90 fr_12_46 rfl rfl ?_
    refine ev_iconst (v := 5) dX12_bearsOf_93 (by decide) ?_
    refine ev_st dX12_bearsOf_94 rfl rfl ?_
    refine ev_st dX12_bearsOf_95 rfl rfl ?_
    refine ev_call dX12_bearsOf_96 rfl rfl mr_12_219 rfl rfl rfl (c_steepOf (I := (ti_wr (ti_wr (ti_wr (ti_wr (ti_wr I 11 0 (I 3 b)) 11 1 (I 1 b)) 11 2 (I 4 b)) 11 3 (m_tl (I 4) x n)) 11 4 (bc x))) hc hc12 ha ha12) ?_
    rintro _ _ ⟨rfl, rfl⟩
    show Ev lyM (d + 91) hX12_bearsOf 99 [some (.ref 0), some (.ref 1), some (.int (nI b)), some (.int x), some (.int (m_tl (I 4) x n)), some (.int (((I 3 b) - ((I 1 b) / 3)) - ((m_tl (I 4) x n) - (I 4 b))))] [.int (m_st c (I 2) a), .int 5, .ref 11] (ti_wr (ti_wr (ti_wr (ti_wr (ti_wr I 11 0 (I 3 b)) 11 1 (I 1 b)) 11 2 (I 4 b)) 11 3 (m_tl (I 4) x n)) 11 4 (bc x), J, R) _
    refine ev_iast (j := 5) dX12_bearsOf_99 rfl rfl (by decide) (by decide) ?_
    refine ev_st dX12_bearsOf_100 rfl rfl ?_
    refine ev_getC dX12_bearsOf_101 fr_12_46 rfl rfl ?_
    refine ev_bipush (v := 6) dX12_bearsOf_104 (by decide) ?_
    refine ev_st dX12_bearsOf_106 rfl rfl ?_
    refine ev_iast (j := 6) dX12_bearsOf_107 rfl rfl (by decide) (by decide) ?_
    refine ev_st dX12_bearsOf_108 rfl rfl ?_
    refine ev_st dX12_bearsOf_109 rfl rfl ?_
    refine ev_getR (v := .ref rp) dX12_bearsOf_110 fr_12_40 rfl rfl hrp ?_
    refine ev_st dX12_bearsOf_113 rfl rfl ?_
    refine ev_getI (v := nI rs) dX12_bearsOf_114 fr_12_198 rfl rfl hrs ?_
    refine ev_bipush (v := 40) dX12_bearsOf_117 (by decide) ?_
    refine ev_call dX12_bearsOf_119 rfl rfl mr_12_123 rfl rfl rfl (c_begin (nI rs) 40) ?_
    rintro _ _ ⟨rfl, rfl⟩
    show Ev lyM (d + 91) hX12_bearsOf 122 [some (.ref 0), some (.ref 1), some (.int (nI b)), some (.int x), some (.int (m_tl (I 4) x n)), some (.int (((I 3 b) - ((I 1 b) / 3)) - ((m_tl (I 4) x n) - (I 4 b))))] [] (ti_wr (ti_wr (ti_wr (ti_wr (ti_wr (ti_wr (ti_wr (ti_wr (ti_wr (ti_wr (ti_wr I 11 0 (I 3 b)) 11 1 (I 1 b)) 11 2 (I 4 b)) 11 3 (m_tl (I 4) x n)) 11 4 (bc x)) 11 5 (m_st c (I 2) a)) 11 6 (nI b)) 0 14 (nI rs)) 0 15 40) 0 16 0) 0 17 ((-1)), J, ti_wf R 0 13 (.ref rp)) _
    refine ev_st dX12_bearsOf_122 rfl rfl ?_
    refine ev_iconst (v := 1) dX12_bearsOf_123 (by decide) ?_
    refine ev_putZ dX12_bearsOf_124 fr_12_191 rfl rfl (by decide) ?_
    refine ev_st dX12_bearsOf_127 rfl rfl ?_
    refine ev_iconst (v := 0) dX12_bearsOf_128 (by decide) ?_
    have hT : (ti_wr (ti_wr (ti_wr (ti_wr (ti_wr (ti_wr (ti_wr (ti_wr (ti_wr (ti_wr (ti_wr (ti_wr I 11 0 (I 3 b)) 11 1 (I 1 b)) 11 2 (I 4 b)) 11 3 (m_tl (I 4) x n)) 11 4 (bc x)) 11 5 (m_st c (I 2) a)) 11 6 (nI b)) 0 14 (nI rs)) 0 15 40) 0 16 0) 0 17 ((-1))) 0 22 1) rp = I rp := by rcases hRU.1 with rfl | rfl <;> rfl
    refine ev_call dX12_bearsOf_129 rfl rfl mr_12_185 rfl rfl rfl (hRU.2.2 c_35 _ _ _ hT rfl rfl rfl rfl rfl rfl) ?_
    rintro _ _ ⟨rfl, rfl⟩
    show Ev lyM (d + 91) hX12_bearsOf 132 [some (.ref 0), some (.ref 1), some (.int (nI b)), some (.int x), some (.int (m_tl (I 4) x n)), some (.int (((I 3 b) - ((I 1 b) / 3)) - ((m_tl (I 4) x n) - (I 4 b))))] [.int (rv (I 3 b) (I 1 b) (I 4 b) (m_tl (I 4) x n) (bc x) (m_st c (I 2) a) (nI b))] (ti_wr (ti_wr (ti_wr (ti_wr (ti_wr (ti_wr (ti_wr (ti_wr (ti_wr (ti_wr (ti_wr (ti_wr (ti_wr I 11 0 (I 3 b)) 11 1 (I 1 b)) 11 2 (I 4 b)) 11 3 (m_tl (I 4) x n)) 11 4 (bc x)) 11 5 (m_st c (I 2) a)) 11 6 (nI b)) 0 14 (nI rs)) 0 15 40) 0 16 0) 0 17 ((-1))) 0 22 1) 0 16 (nI rs), J, ti_wf R 0 13 (.ref rp)) _
    refine ev_st (L' := [some (.ref 0), some (.ref 1), some (.int (nI b)), some (.int x), some (.int (m_tl (I 4) x n)), some (.int (rv (I 3 b) (I 1 b) (I 4 b) (m_tl (I 4) x n) (bc x) (m_st c (I 2) a) (nI b)))]) dX12_bearsOf_132 rfl rfl ?_
    refine ev_st dX12_bearsOf_134 rfl rfl ?_
    refine ev_iconst (v := 0) dX12_bearsOf_135 (by decide) ?_
    refine ev_putZ dX12_bearsOf_136 fr_12_191 rfl rfl (by decide) ?_
    refine ev_iconst (v := 0) dX12_bearsOf_139 (by decide) ?_
    refine ev_bipush (v := 99) dX12_bearsOf_140 (by decide) ?_
    refine ev_st dX12_bearsOf_142 rfl rfl ?_
    refine ev_min (v := if (rv (I 3 b) (I 1 b) (I 4 b) (m_tl (I 4) x n) (bc x) (m_st c (I 2) a) (nI b)) < 99 then (rv (I 3 b) (I 1 b) (I 4 b) (m_tl (I 4) x n) (bc x) (m_st c (I 2) a) (nI b)) else 99) dX12_bearsOf_144 br_12_223 rfl rfl ?_
    refine ev_max (v := if 0 < (if (rv (I 3 b) (I 1 b) (I 4 b) (m_tl (I 4) x n) (bc x) (m_st c (I 2) a) (nI b)) < 99 then (rv (I 3 b) (I 1 b) (I 4 b) (m_tl (I 4) x n) (bc x) (m_st c (I 2) a) (nI b)) else 99) then (if (rv (I 3 b) (I 1 b) (I 4 b) (m_tl (I 4) x n) (bc x) (m_st c (I 2) a) (nI b)) < 99 then (rv (I 3 b) (I 1 b) (I 4 b) (m_tl (I 4) x n) (bc x) (m_st c (I 2) a) (nI b)) else 99) else 0) dX12_bearsOf_147 br_12_205 rfl rfl ?_
    refine ev_iret dX12_bearsOf_150 rfl ⟨by simp [m_be, m_cl, show ¬ rs = 0 from by omega], _, _, rfl, fun p h0 h1 => ?_, fun k a1 a2 a3 a4 a5 => ?_, ?_⟩
    · simp [ti_wr, va_up, h0, h1]
    · simp [ti_wr, va_up, upd, a1, a2, a3, a4, a5]
    · simp [ti_wf, va_up]
theorem c_steepOft {I : Nat → Nat → Int32} {J : Nat → Nat → Int64} {R : Nat → Nat → Value} {d c a : Nat} (hc : I 0 1 = nI c) (hc12 : c ≤ 12) (ha : I 14 24 = nI a) (ha12 : a ≤ 12) : Cal lyM d hX12_steepOf 2 [.ref 0, .ref 14] (I, J, R) (fun r M' => r = some (.int (m_st c (I 2) a)) ∧ M' = (I, J, R)) := by
  show Ev lyM d hX12_steepOf 0 [some (.ref 0), some (.ref 14)] [] (I, J, R) _
  refine ev_st dX12_steepOf_0 rfl rfl ?_
  refine ev_bipush (v := 24) dX12_steepOf_1 (by decide) ?_
  refine ev_iald (j := 24) (v := nI a) dX12_steepOf_3 rfl rfl (by decide) (by decide) ha ?_
  refine ev_st dX12_steepOf_4 rfl rfl ?_
  refine ev_getI (v := nI c) dX12_steepOf_5 fr_12_13 rfl rfl hc ?_
  refine ev_ic_geN (t := 23) (a := a) (b := c) dX12_steepOf_8 (by decide) rfl rfl (by omega) (by omega) (fun c_8 => ?_) (fun c_8 => ?_)
  · refine ev_iconst (v := 0) dX12_steepOf_23 (by decide) ?_
    exact ev_iret dX12_steepOf_24 rfl (⟨by simp [m_st, Nat.not_lt.mpr c_8], rfl⟩)
  · refine ev_st dX12_steepOf_11 rfl rfl ?_
    refine ev_getC dX12_steepOf_12 fr_12_17 rfl rfl ?_
    refine ev_st dX12_steepOf_15 rfl rfl ?_
    refine ev_bipush (v := 24) dX12_steepOf_16 (by decide) ?_
    refine ev_iald (j := 24) (v := nI a) dX12_steepOf_18 rfl rfl (by decide) (by decide) ha ?_
    refine ev_iald (j := a) (v := I 2 a) dX12_steepOf_19 rfl rfl (by omega) (by decide) rfl ?_
    refine ev_goto (t := 24) dX12_steepOf_20 (by decide) ?_
    exact ev_iret dX12_steepOf_24 rfl (⟨by simp [m_st, c_8], rfl⟩)
theorem c_carryt {I : Nat → Nat → Int32} {J : Nat → Nat → Int64} {R : Nat → Nat → Value} {d n : Nat} (hn : I 0 3 = nI n) (hn8 : n ≤ 8) : Cal lyM d hX12_carry 4 [.ref 0, .ref 14] (I, J, R) (fun r M' => r = some (.int (m_cy (I 14) n)) ∧ M' = (I, J, R)) := by
  have loop : ∀ (k b : Nat) (m : Int32), b ≤ n → n - b < k → m = m_cy (I 14) b → Ev lyM d hX12_carry 4 [some (.ref 0), some (.ref 14), some (.int m), some (.int (nI b))] [] (I, J, R) (fun r M' => r = some (.int (m_cy (I 14) n)) ∧ M' = (I, J, R)) := by
    intro k
    induction k with
    | zero => intro b m h1 h2; omega
    | succ k ih =>
      intro b m hb hk hm
      refine ev_st dX12_carry_4 rfl rfl ?_
      refine ev_st dX12_carry_5 rfl rfl ?_
      refine ev_getI (v := nI n) dX12_carry_6 fr_12_95 rfl rfl hn ?_
      refine ev_ic_geN (t := 29) (a := b) (b := n) dX12_carry_9 (by decide) rfl rfl (by omega) (by omega) (fun c_9 => ?_) (fun c_9 => ?_)
      · refine ev_st dX12_carry_29 rfl rfl ?_
        exact ev_iret dX12_carry_30 rfl (⟨by rw [hm, show b = n by omega], rfl⟩)
      · refine ev_st dX12_carry_12 rfl rfl ?_
        refine ev_st dX12_carry_13 rfl rfl ?_
        refine ev_bipush (v := 8) dX12_carry_14 (by decide) ?_
        refine ev_st dX12_carry_16 rfl rfl ?_
        refine ev_iaddN (a := 8) (b := b) (c := 8 + b) dX12_carry_17 rfl rfl rfl ?_
        refine ev_iald (j := 8 + b) (v := I 14 (8 + b)) dX12_carry_18 rfl rfl (by omega) (by decide) rfl ?_
        refine ev_st dX12_carry_19 rfl rfl ?_
        refine ev_st dX12_carry_20 rfl rfl ?_
        refine ev_st dX12_carry_21 rfl rfl ?_
        refine ev_st (L' := [some (.ref 0), some (.ref 14), some (.int (m ||| ((I 14 (8 + b)) <<< ((nI b) &&& 31)))), some (.int (nI b))]) dX12_carry_22 rfl rfl ?_
        refine ev_iincN (a := b) (b := b + 1) (L' := [some (.ref 0), some (.ref 14), some (.int (m ||| ((I 14 (8 + b)) <<< ((nI b) &&& 31)))), some (.int (nI (b + 1)))]) dX12_carry_23 rfl (nI_1 _) rfl ?_
        refine ev_goto (t := 4) dX12_carry_26 (by decide) ?_
        exact ih _ _ (by omega) (by omega) (by simp [m_cy, hm])
  show Ev lyM d hX12_carry 0 [some (.ref 0), some (.ref 14), none, none] [] (I, J, R) _
  refine ev_iconst (v := 0) dX12_carry_0 (by decide) ?_
  refine ev_st (L' := [some (.ref 0), some (.ref 14), some (.int 0), none]) dX12_carry_1 rfl rfl ?_
  refine ev_iconst (v := 0) dX12_carry_2 (by decide) ?_
  refine ev_st (L' := [some (.ref 0), some (.ref 14), some (.int 0), some (.int 0)]) dX12_carry_3 rfl rfl ?_
  exact loop (n + 1) 0 0 (by omega) (by omega) rfl
set_option maxHeartbeats 4000000 in
theorem c_bearsOft {I : Nat → Nat → Int32} {J : Nat → Nat → Int64} {R : Nat → Nat → Value} {d n c a rp rs : Nat} {rv : RV} (hn : I 0 3 = nI n) (hn8 : n ≤ 8) (hc : I 0 1 = nI c) (hc12 : c ≤ 12) (ha : I 14 24 = nI a) (ha12 : a ≤ 12) (hrs : I 0 21 = nI rs) (hrp : R 0 19 = .ref rp) (hRU : RU d rp (I rp) rs rv) {b : Nat} (hb : b < n) (x : Int32) : Cal lyM (d + 91) hX12_bearsOf 6 [.ref 0, .ref 14, .int (nI b), .int x] (I, J, R) (fun r M' => r = some (.int (m_be rs rv (I 3) (I 4) (I 14) (m_tl (I 4) x n) (m_st c (I 2) a) b x)) ∧ ∃ I2 R2, M' = (I2, J, R2) ∧ sM I R I2 R2) := by
  have hrs40 := hRU.2.1
  show Ev lyM (d + 91) hX12_bearsOf 0 [some (.ref 0), some (.ref 14), some (.int (nI b)), some (.int x), none, none] [] (I, J, R) _
  refine ev_st dX12_bearsOf_0 rfl rfl ?_
  refine ev_st dX12_bearsOf_1 rfl rfl ?_
  refine ev_call dX12_bearsOf_2 rfl rfl mr_12_211 rfl rfl rfl (c_tallest hn hn8 x) ?_
  rintro _ _ ⟨rfl, rfl⟩
  show Ev lyM (d + 91) hX12_bearsOf 5 [some (.ref 0), some (.ref 14), some (.int (nI b)), some (.int x), none, none] [.int (m_tl (I 4) x n)] (I, J, R) _
  refine ev_st (L' := [some (.ref 0), some (.ref 14), some (.int (nI b)), some (.int x), some (.int (m_tl (I 4) x n)), none]) dX12_bearsOf_5 rfl rfl ?_
  refine ev_st dX12_bearsOf_7 rfl rfl ?_
  refine ev_getC dX12_bearsOf_8 fr_12_20 rfl rfl ?_
  refine ev_st dX12_bearsOf_11 rfl rfl ?_
  refine ev_iald (j := b) (v := I 3 b) dX12_bearsOf_12 rfl rfl (by omega) (by decide) rfl ?_
  refine ev_st dX12_bearsOf_13 rfl rfl ?_
  refine ev_st dX12_bearsOf_14 rfl rfl ?_
  refine ev_iald (j := b) (v := I 14 b) dX12_bearsOf_15 rfl rfl (by omega) (by decide) rfl ?_
  refine ev_iconst (v := 3) dX12_bearsOf_16 (by decide) ?_
  refine ev_div dX12_bearsOf_17 (by decide) ?_
  refine ev_st dX12_bearsOf_18 rfl rfl ?_
  refine ev_st dX12_bearsOf_19 rfl rfl ?_
  refine ev_st dX12_bearsOf_21 rfl rfl ?_
  refine ev_getC dX12_bearsOf_22 fr_12_23 rfl rfl ?_
  refine ev_st dX12_bearsOf_25 rfl rfl ?_
  refine ev_iald (j := b) (v := I 4 b) dX12_bearsOf_26 rfl rfl (by omega) (by decide) rfl ?_
  refine ev_st dX12_bearsOf_27 rfl rfl ?_
  refine ev_st dX12_bearsOf_28 rfl rfl ?_
  refine ev_st (L' := [some (.ref 0), some (.ref 14), some (.int (nI b)), some (.int x), some (.int (m_tl (I 4) x n)), some (.int (((I 3 b) - ((I 14 b) / 3)) - ((m_tl (I 4) x n) - (I 4 b))))]) dX12_bearsOf_29 rfl rfl ?_
  refine ev_st dX12_bearsOf_31 rfl rfl ?_
  refine ev_getI (v := nI rs) dX12_bearsOf_32 fr_12_198 rfl rfl hrs ?_
  refine ev_if_leN (t := 139) (a := rs) dX12_bearsOf_35 (by decide) rfl (by omega) (fun c_35 => ?_) (fun c_35 => ?_)
  · refine ev_iconst (v := 0) dX12_bearsOf_139 (by decide) ?_
    refine ev_bipush (v := 99) dX12_bearsOf_140 (by decide) ?_
    refine ev_st dX12_bearsOf_142 rfl rfl ?_
    refine ev_min (v := if (((I 3 b) - ((I 14 b) / 3)) - ((m_tl (I 4) x n) - (I 4 b))) < 99 then (((I 3 b) - ((I 14 b) / 3)) - ((m_tl (I 4) x n) - (I 4 b))) else 99) dX12_bearsOf_144 br_12_223 rfl rfl ?_
    refine ev_max (v := if 0 < (if (((I 3 b) - ((I 14 b) / 3)) - ((m_tl (I 4) x n) - (I 4 b))) < 99 then (((I 3 b) - ((I 14 b) / 3)) - ((m_tl (I 4) x n) - (I 4 b))) else 99) then (if (((I 3 b) - ((I 14 b) / 3)) - ((m_tl (I 4) x n) - (I 4 b))) < 99 then (((I 3 b) - ((I 14 b) / 3)) - ((m_tl (I 4) x n) - (I 4 b))) else 99) else 0) dX12_bearsOf_147 br_12_205 rfl rfl ?_
    exact ev_iret dX12_bearsOf_150 rfl (⟨by simp [m_be, m_cl, c_35], _, _, rfl, sM.rf⟩)
  · refine ev_st dX12_bearsOf_38 rfl rfl ?_
    refine ev_getC dX12_bearsOf_39 fr_12_46 rfl rfl ?_
    refine ev_iconst (v := 0) dX12_bearsOf_42 (by decide) ?_
    refine ev_st dX12_bearsOf_43 rfl rfl ?_
    refine ev_getC dX12_bearsOf_44 fr_12_20 rfl rfl ?_
    refine ev_st dX12_bearsOf_47 rfl rfl ?_
    refine ev_iald (j := b) (v := I 3 b) dX12_bearsOf_48 rfl rfl (by omega) (by decide) rfl ?_
    refine ev_iast (j := 0) dX12_bearsOf_49 rfl rfl (by decide) (by decide) ?_
    refine ev_st dX12_bearsOf_50 rfl rfl ?_
    refine ev_getC dX12_bearsOf_51 fr_12_46 rfl rfl ?_
    refine ev_iconst (v := 1) dX12_bearsOf_54 (by decide) ?_
    refine ev_st dX12_bearsOf_55 rfl rfl ?_
    refine ev_st dX12_bearsOf_56 rfl rfl ?_
    refine ev_iald (j := b) (v := I 14 b) dX12_bearsOf_57 rfl rfl (by omega) (by decide) rfl ?_
    refine ev_iast (j := 1) dX12_bearsOf_58 rfl rfl (by decide) (by decide) ?_
    refine ev_st dX12_bearsOf_59 rfl rfl ?_
    refine ev_getC dX12_bearsOf_60 fr_12_46 rfl rfl ?_
    refine ev_iconst (v := 2) dX12_bearsOf_63 (by decide) ?_
    refine ev_st dX12_bearsOf_64 rfl rfl ?_
    refine ev_getC dX12_bearsOf_65 fr_12_23 rfl rfl ?_
    refine ev_st dX12_bearsOf_68 rfl rfl ?_
    refine ev_iald (j := b) (v := I 4 b) dX12_bearsOf_69 rfl rfl (by omega) (by decide) rfl ?_
    refine ev_iast (j := 2) dX12_bearsOf_70 rfl rfl (by decide) (by decide) ?_
    refine ev_st dX12_bearsOf_71 rfl rfl ?_
    refine ev_getC dX12_bearsOf_72 fr_12_46 rfl rfl ?_
    refine ev_iconst (v := 3) dX12_bearsOf_75 (by decide) ?_
    refine ev_st dX12_bearsOf_76 rfl rfl ?_
    refine ev_iast (j := 3) dX12_bearsOf_78 rfl rfl (by decide) (by decide) ?_
    refine ev_st dX12_bearsOf_79 rfl rfl ?_
    refine ev_getC dX12_bearsOf_80 fr_12_46 rfl rfl ?_
    refine ev_iconst (v := 4) dX12_bearsOf_83 (by decide) ?_
    refine ev_st dX12_bearsOf_84 rfl rfl ?_
    refine ev_call dX12_bearsOf_85 rfl rfl mr_12_214 rfl rfl rfl (c_bc x) ?_
    rintro _ _ ⟨rfl, rfl⟩
    show Ev lyM (d + 91) hX12_bearsOf 88 [some (.ref 0), some (.ref 14), some (.int (nI b)), some (.int x), some (.int (m_tl (I 4) x n)), some (.int (((I 3 b) - ((I 14 b) / 3)) - ((m_tl (I 4) x n) - (I 4 b))))] [.int (bc x), .int 4, .ref 11] (ti_wr (ti_wr (ti_wr (ti_wr I 11 0 (I 3 b)) 11 1 (I 14 b)) 11 2 (I 4 b)) 11 3 (m_tl (I 4) x n), J, R) _
    refine ev_iast (j := 4) dX12_bearsOf_88 rfl rfl (by decide) (by decide) ?_
    refine ev_st dX12_bearsOf_89 rfl rfl ?_
    refine ev_getC dX12_bearsOf_90 fr_12_46 rfl rfl ?_
    refine ev_iconst (v := 5) dX12_bearsOf_93 (by decide) ?_
    refine ev_st dX12_bearsOf_94 rfl rfl ?_
    refine ev_st dX12_bearsOf_95 rfl rfl ?_
    refine ev_call dX12_bearsOf_96 rfl rfl mr_12_219 rfl rfl rfl (c_steepOft (I := (ti_wr (ti_wr (ti_wr (ti_wr (ti_wr I 11 0 (I 3 b)) 11 1 (I 14 b)) 11 2 (I 4 b)) 11 3 (m_tl (I 4) x n)) 11 4 (bc x))) hc hc12 ha ha12) ?_
    rintro _ _ ⟨rfl, rfl⟩
    show Ev lyM (d + 91) hX12_bearsOf 99 [some (.ref 0), some (.ref 14), some (.int (nI b)), some (.int x), some (.int (m_tl (I 4) x n)), some (.int (((I 3 b) - ((I 14 b) / 3)) - ((m_tl (I 4) x n) - (I 4 b))))] [.int (m_st c (I 2) a), .int 5, .ref 11] (ti_wr (ti_wr (ti_wr (ti_wr (ti_wr I 11 0 (I 3 b)) 11 1 (I 14 b)) 11 2 (I 4 b)) 11 3 (m_tl (I 4) x n)) 11 4 (bc x), J, R) _
    refine ev_iast (j := 5) dX12_bearsOf_99 rfl rfl (by decide) (by decide) ?_
    refine ev_st dX12_bearsOf_100 rfl rfl ?_
    refine ev_getC dX12_bearsOf_101 fr_12_46 rfl rfl ?_
    refine ev_bipush (v := 6) dX12_bearsOf_104 (by decide) ?_
    refine ev_st dX12_bearsOf_106 rfl rfl ?_
    refine ev_iast (j := 6) dX12_bearsOf_107 rfl rfl (by decide) (by decide) ?_
    refine ev_st dX12_bearsOf_108 rfl rfl ?_
    refine ev_st dX12_bearsOf_109 rfl rfl ?_
    refine ev_getR (v := .ref rp) dX12_bearsOf_110 fr_12_40 rfl rfl hrp ?_
    refine ev_st dX12_bearsOf_113 rfl rfl ?_
    refine ev_getI (v := nI rs) dX12_bearsOf_114 fr_12_198 rfl rfl hrs ?_
    refine ev_bipush (v := 40) dX12_bearsOf_117 (by decide) ?_
    refine ev_call dX12_bearsOf_119 rfl rfl mr_12_123 rfl rfl rfl (c_begin (nI rs) 40) ?_
    rintro _ _ ⟨rfl, rfl⟩
    show Ev lyM (d + 91) hX12_bearsOf 122 [some (.ref 0), some (.ref 14), some (.int (nI b)), some (.int x), some (.int (m_tl (I 4) x n)), some (.int (((I 3 b) - ((I 14 b) / 3)) - ((m_tl (I 4) x n) - (I 4 b))))] [] (ti_wr (ti_wr (ti_wr (ti_wr (ti_wr (ti_wr (ti_wr (ti_wr (ti_wr (ti_wr (ti_wr I 11 0 (I 3 b)) 11 1 (I 14 b)) 11 2 (I 4 b)) 11 3 (m_tl (I 4) x n)) 11 4 (bc x)) 11 5 (m_st c (I 2) a)) 11 6 (nI b)) 0 14 (nI rs)) 0 15 40) 0 16 0) 0 17 ((-1)), J, ti_wf R 0 13 (.ref rp)) _
    refine ev_st dX12_bearsOf_122 rfl rfl ?_
    refine ev_iconst (v := 1) dX12_bearsOf_123 (by decide) ?_
    refine ev_putZ dX12_bearsOf_124 fr_12_191 rfl rfl (by decide) ?_
    refine ev_st dX12_bearsOf_127 rfl rfl ?_
    refine ev_iconst (v := 0) dX12_bearsOf_128 (by decide) ?_
    have hT : (ti_wr (ti_wr (ti_wr (ti_wr (ti_wr (ti_wr (ti_wr (ti_wr (ti_wr (ti_wr (ti_wr (ti_wr I 11 0 (I 3 b)) 11 1 (I 14 b)) 11 2 (I 4 b)) 11 3 (m_tl (I 4) x n)) 11 4 (bc x)) 11 5 (m_st c (I 2) a)) 11 6 (nI b)) 0 14 (nI rs)) 0 15 40) 0 16 0) 0 17 ((-1))) 0 22 1) rp = I rp := by rcases hRU.1 with rfl | rfl <;> rfl
    refine ev_call dX12_bearsOf_129 rfl rfl mr_12_185 rfl rfl rfl (hRU.2.2 c_35 _ _ _ hT rfl rfl rfl rfl rfl rfl) ?_
    rintro _ _ ⟨rfl, rfl⟩
    show Ev lyM (d + 91) hX12_bearsOf 132 [some (.ref 0), some (.ref 14), some (.int (nI b)), some (.int x), some (.int (m_tl (I 4) x n)), some (.int (((I 3 b) - ((I 14 b) / 3)) - ((m_tl (I 4) x n) - (I 4 b))))] [.int (rv (I 3 b) (I 14 b) (I 4 b) (m_tl (I 4) x n) (bc x) (m_st c (I 2) a) (nI b))] (ti_wr (ti_wr (ti_wr (ti_wr (ti_wr (ti_wr (ti_wr (ti_wr (ti_wr (ti_wr (ti_wr (ti_wr (ti_wr I 11 0 (I 3 b)) 11 1 (I 14 b)) 11 2 (I 4 b)) 11 3 (m_tl (I 4) x n)) 11 4 (bc x)) 11 5 (m_st c (I 2) a)) 11 6 (nI b)) 0 14 (nI rs)) 0 15 40) 0 16 0) 0 17 ((-1))) 0 22 1) 0 16 (nI rs), J, ti_wf R 0 13 (.ref rp)) _
    refine ev_st (L' := [some (.ref 0), some (.ref 14), some (.int (nI b)), some (.int x), some (.int (m_tl (I 4) x n)), some (.int (rv (I 3 b) (I 14 b) (I 4 b) (m_tl (I 4) x n) (bc x) (m_st c (I 2) a) (nI b)))]) dX12_bearsOf_132 rfl rfl ?_
    refine ev_st dX12_bearsOf_134 rfl rfl ?_
    refine ev_iconst (v := 0) dX12_bearsOf_135 (by decide) ?_
    refine ev_putZ dX12_bearsOf_136 fr_12_191 rfl rfl (by decide) ?_
    refine ev_iconst (v := 0) dX12_bearsOf_139 (by decide) ?_
    refine ev_bipush (v := 99) dX12_bearsOf_140 (by decide) ?_
    refine ev_st dX12_bearsOf_142 rfl rfl ?_
    refine ev_min (v := if (rv (I 3 b) (I 14 b) (I 4 b) (m_tl (I 4) x n) (bc x) (m_st c (I 2) a) (nI b)) < 99 then (rv (I 3 b) (I 14 b) (I 4 b) (m_tl (I 4) x n) (bc x) (m_st c (I 2) a) (nI b)) else 99) dX12_bearsOf_144 br_12_223 rfl rfl ?_
    refine ev_max (v := if 0 < (if (rv (I 3 b) (I 14 b) (I 4 b) (m_tl (I 4) x n) (bc x) (m_st c (I 2) a) (nI b)) < 99 then (rv (I 3 b) (I 14 b) (I 4 b) (m_tl (I 4) x n) (bc x) (m_st c (I 2) a) (nI b)) else 99) then (if (rv (I 3 b) (I 14 b) (I 4 b) (m_tl (I 4) x n) (bc x) (m_st c (I 2) a) (nI b)) < 99 then (rv (I 3 b) (I 14 b) (I 4 b) (m_tl (I 4) x n) (bc x) (m_st c (I 2) a) (nI b)) else 99) else 0) dX12_bearsOf_147 br_12_205 rfl rfl ?_
    refine ev_iret dX12_bearsOf_150 rfl ⟨by simp [m_be, m_cl, show ¬ rs = 0 from by omega], _, _, rfl, fun p h0 h1 => ?_, fun k a1 a2 a3 a4 a5 => ?_, ?_⟩
    · simp [ti_wr, va_up, h0, h1]
    · simp [ti_wr, va_up, upd, a1, a2, a3, a4, a5]
    · simp [ti_wf, va_up]
