/-! the class: frames; FORCE, teams -/
/-- places of the class that a call may leave as it likes -/
def fS (p : Nat) : Bool := p == 3 || p == 7 || p == 18 || p == 19 || p == 20 || p == 21 || p == 22 || p == 23 || p == 29 || p == 30 || p == 33 || p == 34 || p == 37 || p == 38 || p == 41 || p == 42 || p == 43 || p == 44
def fW (p k : Nat) : Bool := fS p && (p != 23 || (k != 4 && k != 8))
def fC (I I2 : Nat → Nat → Int32) : Prop := (∀ p, fS p = false → I2 p = I p) ∧ I2 23 4 = I 23 4 ∧ I2 23 8 = I 23 8
theorem fC.rf {I : Nat → Nat → Int32} : fC I I := ⟨fun _ _ => rfl, rfl, rfl⟩
theorem fC.tr {I I2 I3 : Nat → Nat → Int32} (h : fC I I2) (g : fC I2 I3) : fC I I3 := ⟨fun p a => (g.1 p a).trans (h.1 p a), g.2.1.trans h.2.1, g.2.2.trans h.2.2⟩
theorem fC.r {I I2 : Nat → Nat → Int32} (h : fC I I2) (p : Nat) (hp : fS p = false) : I2 p = I p := h.1 p hp
theorem fC.w {I I2 : Nat → Nat → Int32} {p k : Nat} (h : fC I I2) (hp : fW p k = true) (v : Int32) : fC I (ti_wr I2 p k v) := by
  rw [fW, Bool.and_eq_true, Bool.or_eq_true, Bool.and_eq_true] at hp
  refine ⟨fun q hq => ?_, ?_, ?_⟩
  · rw [ti_wr_n (by intro e; subst e; rw [hp.1] at hq; cases hq)]
    exact h.1 q hq
  · by_cases e : p = 23
    · subst e
      have h4 : (4 : Nat) ≠ k := fun z => by subst z; simp at hp
      rw [show ti_wr I2 23 k v 23 4 = I2 23 4 by simp [ti_wr, va_up, upd, h4]]; exact h.2.1
    · rw [ti_wr_n (fun z => e z.symm)]; exact h.2.1
  · by_cases e : p = 23
    · subst e
      have h4 : (8 : Nat) ≠ k := fun z => by subst z; simp at hp
      rw [show ti_wr I2 23 k v 23 8 = I2 23 8 by simp [ti_wr, va_up, upd, h4]]; exact h.2.2
    · rw [ti_wr_n (fun z => e z.symm)]; exact h.2.2
theorem fC.u {I I2 : Nat → Nat → Int32} {p : Nat} (h : fC I I2) (hp : (fS p && p != 23) = true) (g : Nat → Int32) : fC I (va_up I2 p g) := by
  rw [Bool.and_eq_true] at hp
  have e : (23 : Nat) ≠ p := fun z => by subst z; simp at hp
  refine ⟨fun q hq => ?_, ?_, ?_⟩
  · rw [va_up_n (by intro e; subst e; rw [hp.1] at hq; cases hq)]
    exact h.1 q hq
  · rw [va_up_n e]; exact h.2.1
  · rw [va_up_n e]; exact h.2.2
theorem fC.s {I I2 I3 : Nat → Nat → Int32} (h : fC I I2) (g : sC I2 I3) : fC I I3 := by
  refine ⟨fun p hp => ?_, ?_, ?_⟩
  · rw [g p (by intro e; subst e; cases hp) (by intro e; subst e; cases hp) (by intro e; subst e; cases hp) (by intro e; subst e; cases hp)]
    exact h.1 p hp
  · rw [g.r 23 rfl]; exact h.2.1
  · rw [g.r 23 rfl]; exact h.2.2
/-- the row tells these numbers -/
def tC (l : List Int64) (I : Nat → Nat → Int32) (J : Nat → Nat → Int64) : Prop := I 3 1 = nI l.length ∧ ∀ k v, l[k]? = some v → J 4 k = v
/-- the row is as it was -/
def uC (I : Nat → Nat → Int32) (J : Nat → Nat → Int64) (I3 : Nat → Nat → Int32) (J3 : Nat → Nat → Int64) : Prop := I3 3 = I 3 ∧ J3 = J
theorem ti_wl_at {J : Nat → Nat → Int64} {p k : Nat} {v : Int64} : ti_wl J p k v p k = v := by simp [ti_wl, va_up, vp_updL]
theorem tC1 {I : Nat → Nat → Int32} {J : Nat → Nat → Int64} {v : Int64} (h : I 3 1 = nI 1) (h0 : J 4 0 = v) : tC [v] I J := by
  refine ⟨h, fun k w hk => ?_⟩
  match k, hk with
  | 0, hk => cases hk; exact h0
theorem tC2 {I : Nat → Nat → Int32} {J : Nat → Nat → Int64} {v w : Int64} (h : I 3 1 = nI 2) (h0 : J 4 0 = v) (h1 : J 4 1 = w) : tC [v, w] I J := by
  refine ⟨h, fun k x hk => ?_⟩
  match k, hk with
  | 0, hk => cases hk; exact h0
  | 1, hk => cases hk; exact h1
def kA (I : Nat → Nat → Int32) (d n c p z : Nat) (rv : RV) : Prop := I 8 3 = nI n ∧ n ≤ 8 ∧ I 5 2 = nI c ∧ c ≤ 12 ∧ (p = 31 ∨ p = 35) ∧ I p 3 = nI z ∧ RC d p (I (p + 1)) z rv
theorem kA.f {I I2 : Nat → Nat → Int32} {d n c p z : Nat} {rv : RV} (h : kA I d n c p z rv) (hs : fC I I2) : kA I2 d n c p z rv := by
  obtain ⟨h1, h2, h3, h4, h5, h6, h7⟩ := h
  refine ⟨by rw [hs.r 8 rfl]; exact h1, h2, by rw [hs.r 5 rfl]; exact h3, h4, h5, ?_, ?_⟩
  · rcases h5 with rfl | rfl
    · rw [hs.r 31 rfl]; exact h6
    · rw [hs.r 35 rfl]; exact h6
  · rcases h5 with rfl | rfl
    · rw [hs.r 32 rfl]; exact h7
    · rw [hs.r 36 rfl]; exact h7
def k_FX (sp str tl : Nat → Int32) (n c z : Nat) (rv : RV) (td : Nat → Int32) (a : Nat) (x : Int32) : Int32 := k_fo z rv str tl td (k_tl tl x n) (m_st c sp a) x n
/-- FORCE of a set here is F -/
def kF (I : Nat → Nat → Int32) (R : Nat → Nat → Value) (d p : Nat) (F : Int32 → Int32) : Prop := ∀ (I2 : Nat → Nat → Int32) (J : Nat → Nat → Int64) (x : Int32), fC I I2 → Cal lyC (d + 4) hX0_forceOf 9 [.ref 8, .ref p, .int x, .ref 39] (I2, J, R) (fun r M' => r = some (.int (F x)) ∧ ∃ I3, M' = (I3, J, R) ∧ fC I I3 ∧ sC I2 I3)
theorem kA.kF {I : Nat → Nat → Int32} {R : Nat → Nat → Value} {d n c p z a : Nat} {rv : RV} (hK : kA I d n c p z rv) (ha : I 39 1 = nI a) (ha12 : a ≤ 12) : kF I R d p (k_FX (I 6) (I 9) (I 10) n c z rv (I 40) a) := by
  intro I2 J x hs
  obtain ⟨h1, h2, h3, h4, h5, h6, h7⟩ := hK.f hs
  have ha2 : I2 39 1 = nI a := by rw [hs.r 39 rfl]; exact ha
  rcases h5 with rfl | rfl
  · have K := k_forceOf_31_39 (J := J) (R := R) h1 h2 h3 h4 ha2 ha12 h6 h7 sC.rf x
    rw [hs.r 9 rfl, hs.r 10 rfl, hs.r 40 rfl, hs.r 6 rfl] at K
    exact K.imp (fun r M' ⟨e1, I3, e2, e3⟩ => ⟨e1, I3, e2, hs.s e3, e3⟩)
  · have K := k_forceOf_35_39 (J := J) (R := R) h1 h2 h3 h4 ha2 ha12 h6 h7 sC.rf x
    rw [hs.r 9 rfl, hs.r 10 rfl, hs.r 40 rfl, hs.r 6 rfl] at K
    exact K.imp (fun r M' ⟨e1, I3, e2, e3⟩ => ⟨e1, I3, e2, hs.s e3, e3⟩)
theorem k_steepF {I I2 : Nat → Nat → Int32} {J : Nat → Nat → Int64} {R : Nat → Nat → Value} {d c a : Nat} (hc : I 5 2 = nI c) (hc12 : c ≤ 12) (ha12 : a ≤ 12) (hs : fC I I2) : Cal lyC d hX10_steepAt 2 [.ref 5, .int (nI a)] (I2, J, R) (fun r M' => r = some (.int (m_st c (I 6) a)) ∧ M' = (I2, J, R)) := by
  have K := k_steepAt (I := I2) (J := J) (R := R) (d := d) (c := c) (a := a) (by rw [hs.r 5 rfl]; exact hc) hc12 ha12
  rw [hs.r 6 rfl] at K
  exact K
theorem k_tallF {I I2 : Nat → Nat → Int32} {J : Nat → Nat → Int64} {R : Nat → Nat → Value} {d n : Nat} (hn : I 8 3 = nI n) (hn8 : n ≤ 8) (hs : fC I I2) (x : Int32) : Cal lyC d hX0_tallestOf 4 [.ref 8, .int x] (I2, J, R) (fun r M' => r = some (.int (k_tl (I 10) x n)) ∧ M' = (I2, J, R)) := by
  have K := k_tallestOf (I := I2) (J := J) (R := R) (d := d) (n := n) (by rw [hs.r 8 rfl]; exact hn) hn8 x
  rw [hs.r 10 rfl] at K
  exact K
theorem k_hasF {I I2 : Nat → Nat → Int32} {J : Nat → Nat → Int64} {R : Nat → Nat → Value} {d n : Nat} (hn : I 8 3 = nI n) (hs : fC I I2) {x v : Int32} (hv : (if (ix n x).isSome then 1 else 0) = v) : Cal lyC d hX0_has 2 [.ref 8, .int x] (I2, J, R) (fun r M' => r = some (.int v) ∧ M' = (I2, J, R)) := by
  subst hv
  exact k_X0_has (I := I2) (by rw [hs.r 8 rfl]; exact hn) x
theorem k_hasSF {I I2 : Nat → Nat → Int32} {J : Nat → Nat → Int64} {R : Nat → Nat → Value} {d n : Nat} (hn : I 11 4 = nI n) (hs : fC I I2) {x v : Int32} (hv : (if (ix n x).isSome then 1 else 0) = v) : Cal lyC d hX6_has 2 [.ref 11, .int x] (I2, J, R) (fun r M' => r = some (.int v) ∧ M' = (I2, J, R)) := by
  subst hv
  exact k_X6_has (I := I2) (by rw [hs.r 11 rfl]; exact hn) x
theorem k_nh {I I2 : Nat → Nat → Int32} {J : Nat → Nat → Int64} {R : Nat → Nat → Value} {d c a : Nat} (hc : I 5 2 = nI c) (hc12 : c ≤ 12) (ha : I 39 1 = nI a) (ha12 : a ≤ 12) (hs2 : fC I I2) : Cal lyC (d + 1) hX8_neededHere 2 [.ref 22, .ref 39] (I2, J, R) (fun r M' => r = some (.int (I 39 2 + m_st c (I 6) a)) ∧ M' = (I2, J, R)) := by
  show Ev lyC (d + 1) hX8_neededHere 0 [some (.ref 22), some (.ref 39)] [] (I2, J, R) _
  refine ev_st dX8_neededHere_0 rfl rfl ?_
  refine ev_getI (v := I 39 2) dX8_neededHere_1 fr_8_23 rfl rfl (congrFun (hs2.r 39 rfl) 2) ?_
  refine ev_st dX8_neededHere_4 rfl rfl ?_
  refine ev_getC dX8_neededHere_5 fr_8_9 rfl rfl ?_
  refine ev_st dX8_neededHere_8 rfl rfl ?_
  refine ev_getI (v := nI a) dX8_neededHere_9 fr_8_29 rfl rfl ((congrFun (hs2.r 39 rfl) 1).trans ha) ?_
  refine ev_call dX8_neededHere_12 rfl rfl mr_8_32 rfl rfl rfl (k_steepF (I := I) (I2 := I2) (J := J) hc hc12 ha12 hs2) ?_
  rintro _ _ ⟨rfl, rfl⟩
  show Ev lyC (d + 1) hX8_neededHere 15 [some (.ref 22), some (.ref 39)] [.int (m_st c (I 6) a), .int (I 39 2)] (I2, J, R) _
  refine ev_st dX8_neededHere_15 rfl rfl ?_
  exact ev_iret dX8_neededHere_16 rfl (⟨rfl, rfl⟩)
set_option maxHeartbeats 1000000 in
theorem k_worth_31 {I I2 : Nat → Nat → Int32} {J : Nat → Nat → Int64} {R : Nat → Nat → Value} {d n c a z j : Nat} {rv : RV} (hn : I 8 3 = nI n) (hn8 : n ≤ 8) (hc : I 5 2 = nI c) (hc12 : c ≤ 12) (ha12 : a ≤ 12) (hz : I2 31 3 = nI z) (hR : RC d 31 (I2 32) z rv) (hs2 : fC I I2) (hj : j < 8) (x t : Int32) : Cal lyC (d + 4) hX0_worth 6 [.ref 8, .ref 31, .int (nI j), .int x, .int t, .int (nI a)] (I2, J, R) (fun r M' => r = some (.int (k_be z rv (I 9 j) t (I 10 j) (k_tl (I 10) x n) (bc x) (m_st c (I 6) a) (nI j))) ∧ ∃ I3, M' = (I3, J, R) ∧ fC I I3 ∧ sC I2 I3) := by
  show Ev lyC (d + 4) hX0_worth 0 [some (.ref 8), some (.ref 31), some (.int (nI j)), some (.int x), some (.int t), some (.int (nI a))] [] (I2, J, R) _
  refine ev_st dX0_worth_0 rfl rfl ?_
  refine ev_st dX0_worth_1 rfl rfl ?_
  refine ev_getC dX0_worth_2 fr_0_9 rfl rfl ?_
  refine ev_st dX0_worth_5 rfl rfl ?_
  refine ev_iald (j := j) (v := I 9 j) dX0_worth_6 rfl rfl (by omega) (by decide) (congrFun (hs2.r 9 rfl) j) ?_
  refine ev_st dX0_worth_7 rfl rfl ?_
  refine ev_st dX0_worth_9 rfl rfl ?_
  refine ev_getC dX0_worth_10 fr_0_15 rfl rfl ?_
  refine ev_st dX0_worth_13 rfl rfl ?_
  refine ev_iald (j := j) (v := I 10 j) dX0_worth_14 rfl rfl (by omega) (by decide) (congrFun (hs2.r 10 rfl) j) ?_
  refine ev_st dX0_worth_15 rfl rfl ?_
  refine ev_st dX0_worth_16 rfl rfl ?_
  refine ev_call dX0_worth_17 rfl rfl mr_0_50 rfl rfl rfl (k_tallF hn hn8 hs2 x) ?_
  rintro _ _ ⟨rfl, rfl⟩
  show Ev lyC (d + 4) hX0_worth 20 [some (.ref 8), some (.ref 31), some (.int (nI j)), some (.int x), some (.int t), some (.int (nI a))] [.int (k_tl (I 10) x n), .int (I 10 j), .int t, .int (I 9 j), .ref 31] (I2, J, R) _
  refine ev_st dX0_worth_20 rfl rfl ?_
  refine ev_call dX0_worth_21 rfl rfl mr_0_54 rfl rfl rfl (c_bc x) ?_
  rintro _ _ ⟨rfl, rfl⟩
  show Ev lyC (d + 4) hX0_worth 24 [some (.ref 8), some (.ref 31), some (.int (nI j)), some (.int x), some (.int t), some (.int (nI a))] [.int (bc x), .int (k_tl (I 10) x n), .int (I 10 j), .int t, .int (I 9 j), .ref 31] (I2, J, R) _
  refine ev_st dX0_worth_24 rfl rfl ?_
  refine ev_getC dX0_worth_25 fr_0_18 rfl rfl ?_
  refine ev_st dX0_worth_28 rfl rfl ?_
  refine ev_call dX0_worth_30 rfl rfl mr_0_64 rfl rfl rfl (k_steepF (I := I) (I2 := I2) (J := J) hc hc12 ha12 hs2) ?_
  rintro _ _ ⟨rfl, rfl⟩
  show Ev lyC (d + 4) hX0_worth 33 [some (.ref 8), some (.ref 31), some (.int (nI j)), some (.int x), some (.int t), some (.int (nI a))] [.int (m_st c (I 6) a), .int (bc x), .int (k_tl (I 10) x n), .int (I 10 j), .int t, .int (I 9 j), .ref 31] (I2, J, R) _
  refine ev_st dX0_worth_33 rfl rfl ?_
  refine ev_call dX0_worth_34 rfl rfl mr_0_72 rfl rfl rfl (Cal.mono (by omega) (k_tell_31 (I := I2) (J := J) hz hR (I 9 j) t (I 10 j) (k_tl (I 10) x n) (bc x) (m_st c (I 6) a) (nI j))) ?_
  rintro _ _ ⟨rfl, I3, rfl, g3⟩
  have hs3 := hs2.s g3
  show Ev lyC (d + 4) hX0_worth 37 [some (.ref 8), some (.ref 31), some (.int (nI j)), some (.int x), some (.int t), some (.int (nI a))] [.int (k_be z rv (I 9 j) t (I 10 j) (k_tl (I 10) x n) (bc x) (m_st c (I 6) a) (nI j))] (I3, J, R) _
  exact ev_iret dX0_worth_37 rfl (⟨rfl, _, rfl, hs3, g3⟩)
set_option maxHeartbeats 1000000 in
theorem k_worth_35 {I I2 : Nat → Nat → Int32} {J : Nat → Nat → Int64} {R : Nat → Nat → Value} {d n c a z j : Nat} {rv : RV} (hn : I 8 3 = nI n) (hn8 : n ≤ 8) (hc : I 5 2 = nI c) (hc12 : c ≤ 12) (ha12 : a ≤ 12) (hz : I2 35 3 = nI z) (hR : RC d 35 (I2 36) z rv) (hs2 : fC I I2) (hj : j < 8) (x t : Int32) : Cal lyC (d + 4) hX0_worth 6 [.ref 8, .ref 35, .int (nI j), .int x, .int t, .int (nI a)] (I2, J, R) (fun r M' => r = some (.int (k_be z rv (I 9 j) t (I 10 j) (k_tl (I 10) x n) (bc x) (m_st c (I 6) a) (nI j))) ∧ ∃ I3, M' = (I3, J, R) ∧ fC I I3 ∧ sC I2 I3) := by
  show Ev lyC (d + 4) hX0_worth 0 [some (.ref 8), some (.ref 35), some (.int (nI j)), some (.int x), some (.int t), some (.int (nI a))] [] (I2, J, R) _
  refine ev_st dX0_worth_0 rfl rfl ?_
  refine ev_st dX0_worth_1 rfl rfl ?_
  refine ev_getC dX0_worth_2 fr_0_9 rfl rfl ?_
  refine ev_st dX0_worth_5 rfl rfl ?_
  refine ev_iald (j := j) (v := I 9 j) dX0_worth_6 rfl rfl (by omega) (by decide) (congrFun (hs2.r 9 rfl) j) ?_
  refine ev_st dX0_worth_7 rfl rfl ?_
  refine ev_st dX0_worth_9 rfl rfl ?_
  refine ev_getC dX0_worth_10 fr_0_15 rfl rfl ?_
  refine ev_st dX0_worth_13 rfl rfl ?_
  refine ev_iald (j := j) (v := I 10 j) dX0_worth_14 rfl rfl (by omega) (by decide) (congrFun (hs2.r 10 rfl) j) ?_
  refine ev_st dX0_worth_15 rfl rfl ?_
  refine ev_st dX0_worth_16 rfl rfl ?_
  refine ev_call dX0_worth_17 rfl rfl mr_0_50 rfl rfl rfl (k_tallF hn hn8 hs2 x) ?_
  rintro _ _ ⟨rfl, rfl⟩
  show Ev lyC (d + 4) hX0_worth 20 [some (.ref 8), some (.ref 35), some (.int (nI j)), some (.int x), some (.int t), some (.int (nI a))] [.int (k_tl (I 10) x n), .int (I 10 j), .int t, .int (I 9 j), .ref 35] (I2, J, R) _
  refine ev_st dX0_worth_20 rfl rfl ?_
  refine ev_call dX0_worth_21 rfl rfl mr_0_54 rfl rfl rfl (c_bc x) ?_
  rintro _ _ ⟨rfl, rfl⟩
  show Ev lyC (d + 4) hX0_worth 24 [some (.ref 8), some (.ref 35), some (.int (nI j)), some (.int x), some (.int t), some (.int (nI a))] [.int (bc x), .int (k_tl (I 10) x n), .int (I 10 j), .int t, .int (I 9 j), .ref 35] (I2, J, R) _
  refine ev_st dX0_worth_24 rfl rfl ?_
  refine ev_getC dX0_worth_25 fr_0_18 rfl rfl ?_
  refine ev_st dX0_worth_28 rfl rfl ?_
  refine ev_call dX0_worth_30 rfl rfl mr_0_64 rfl rfl rfl (k_steepF (I := I) (I2 := I2) (J := J) hc hc12 ha12 hs2) ?_
  rintro _ _ ⟨rfl, rfl⟩
  show Ev lyC (d + 4) hX0_worth 33 [some (.ref 8), some (.ref 35), some (.int (nI j)), some (.int x), some (.int t), some (.int (nI a))] [.int (m_st c (I 6) a), .int (bc x), .int (k_tl (I 10) x n), .int (I 10 j), .int t, .int (I 9 j), .ref 35] (I2, J, R) _
  refine ev_st dX0_worth_33 rfl rfl ?_
  refine ev_call dX0_worth_34 rfl rfl mr_0_72 rfl rfl rfl (Cal.mono (by omega) (k_tell_35 (I := I2) (J := J) hz hR (I 9 j) t (I 10 j) (k_tl (I 10) x n) (bc x) (m_st c (I 6) a) (nI j))) ?_
  rintro _ _ ⟨rfl, I3, rfl, g3⟩
  have hs3 := hs2.s g3
  show Ev lyC (d + 4) hX0_worth 37 [some (.ref 8), some (.ref 35), some (.int (nI j)), some (.int x), some (.int t), some (.int (nI a))] [.int (k_be z rv (I 9 j) t (I 10 j) (k_tl (I 10) x n) (bc x) (m_st c (I 6) a) (nI j))] (I3, J, R) _
  exact ev_iret dX0_worth_37 rfl (⟨rfl, _, rfl, hs3, g3⟩)
theorem k_worth {I I2 : Nat → Nat → Int32} {J : Nat → Nat → Int64} {R : Nat → Nat → Value} {d n c a p z j : Nat} {rv : RV} (hK : kA I d n c p z rv) (ha12 : a ≤ 12) (hs2 : fC I I2) (hj : j < 8) (x t : Int32) : Cal lyC (d + 4) hX0_worth 6 [.ref 8, .ref p, .int (nI j), .int x, .int t, .int (nI a)] (I2, J, R) (fun r M' => r = some (.int (k_be z rv (I 9 j) t (I 10 j) (k_tl (I 10) x n) (bc x) (m_st c (I 6) a) (nI j))) ∧ ∃ I3, M' = (I3, J, R) ∧ fC I I3 ∧ sC I2 I3) := by
  obtain ⟨h1, h2, h3, h4, h5, h6, h7⟩ := hK
  obtain ⟨g1, g2, g3, g4, g5, g6, g7⟩ := kA.f ⟨h1, h2, h3, h4, h5, h6, h7⟩ hs2
  rcases h5 with rfl | rfl
  · exact k_worth_31 h1 h2 h3 h4 ha12 g6 g7 hs2 hj x t
  · exact k_worth_35 h1 h2 h3 h4 ha12 g6 g7 hs2 hj x t
set_option maxHeartbeats 1000000 in
theorem k_force {I : Nat → Nat → Int32} {J : Nat → Nat → Int64} {R : Nat → Nat → Value} {d n c a p z : Nat} {rv : RV} (hK : kA I d n c p z rv) (hp : R 0 11 = .ref p) (ha : I 39 1 = nI a) (ha12 : a ≤ 12) : Cal lyC (d + 5) hX11_force 1 [.ref 0] (I, J, R) (fun r M' => r = some (.int (k_FX (I 6) (I 9) (I 10) n c z rv (I 40) a (I 39 3))) ∧ ∃ I3 J3, M' = (I3, J3, R) ∧ fC I I3 ∧ tC [(I 39 2 + m_st c (I 6) a).toInt64, (bc (I 39 3)).toInt64] I3 J3) := by
  have hn := hK.1
  have hn8 := hK.2.1
  have hc := hK.2.2.1
  have hc12 := hK.2.2.2.1
  have hF := hK.kF (R := R) ha ha12
  obtain ⟨F, eF⟩ : ∃ F, F = k_FX (I 6) (I 9) (I 10) n c z rv (I 40) a := ⟨_, rfl⟩
  rw [← eF] at hF ⊢
  show Ev lyC (d + 5) hX11_force 0 [some (.ref 0)] [] (I, J, R) _
  refine ev_st dX11_force_0 rfl rfl ?_
  refine ev_getC dX11_force_1 fr_11_19 rfl rfl ?_
  refine ev_st dX11_force_4 rfl rfl ?_
  refine ev_getC dX11_force_5 fr_11_49 rfl rfl ?_
  refine ev_getI (v := I 39 2) dX11_force_8 fr_11_194 rfl rfl rfl ?_
  refine ev_st dX11_force_11 rfl rfl ?_
  refine ev_getC dX11_force_12 fr_11_26 rfl rfl ?_
  refine ev_st dX11_force_15 rfl rfl ?_
  refine ev_getC dX11_force_16 fr_11_49 rfl rfl ?_
  refine ev_getI (v := nI a) dX11_force_19 fr_11_113 rfl rfl ha ?_
  refine ev_call dX11_force_22 rfl rfl mr_11_197 rfl rfl rfl (k_steepF (I := I) (I2 := I) (J := J) hc hc12 ha12 fC.rf) ?_
  rintro _ _ ⟨rfl, rfl⟩
  show Ev lyC (d + 5) hX11_force 25 [some (.ref 0)] [.int (m_st c (I 6) a), .int (I 39 2), .ref 3] (I, J, R) _
  refine ev_st dX11_force_25 rfl rfl ?_
  refine ev_st dX11_force_26 rfl rfl ?_
  refine ev_st dX11_force_27 rfl rfl ?_
  refine ev_getC dX11_force_28 fr_11_49 rfl rfl ?_
  refine ev_getI (v := I 39 3) dX11_force_31 fr_11_162 rfl rfl rfl ?_
  refine ev_call dX11_force_34 rfl rfl mr_11_200 rfl rfl rfl (c_bc (I 39 3)) ?_
  rintro _ _ ⟨rfl, rfl⟩
  show Ev lyC (d + 5) hX11_force 37 [some (.ref 0)] [.int (bc (I 39 3)), .long (((I 39 2) + (m_st c (I 6) a)).toInt64), .ref 3] (I, J, R) _
  refine ev_st dX11_force_37 rfl rfl ?_
  refine ev_call dX11_force_38 rfl rfl mr_11_205 rfl rfl rfl (k_tell2 (((I 39 2) + (m_st c (I 6) a)).toInt64) ((bc (I 39 3)).toInt64)) ?_
  rintro _ _ ⟨rfl, rfl⟩
  show Ev lyC (d + 5) hX11_force 41 [some (.ref 0)] [] (ti_wr I 3 1 (nI 2), ti_wl (ti_wl J 4 0 (((I 39 2) + (m_st c (I 6) a)).toInt64)) 4 1 ((bc (I 39 3)).toInt64), R) _
  refine ev_st dX11_force_41 rfl rfl ?_
  refine ev_getC dX11_force_42 fr_11_35 rfl rfl ?_
  refine ev_st dX11_force_45 rfl rfl ?_
  refine ev_getR (v := .ref p) dX11_force_46 fr_11_94 rfl rfl hp ?_
  refine ev_st dX11_force_49 rfl rfl ?_
  refine ev_getC dX11_force_50 fr_11_49 rfl rfl ?_
  refine ev_getI (v := I 39 3) dX11_force_53 fr_11_162 rfl rfl rfl ?_
  refine ev_st dX11_force_56 rfl rfl ?_
  refine ev_getC dX11_force_57 fr_11_49 rfl rfl ?_
  refine ev_call dX11_force_60 rfl rfl mr_11_209 rfl rfl rfl (Cal.mono (by omega) (hF (ti_wr I 3 1 (nI 2)) (ti_wl (ti_wl J 4 0 (((I 39 2) + (m_st c (I 6) a)).toInt64)) 4 1 ((bc (I 39 3)).toInt64)) (I 39 3) (fC.rf.w (p := 3) (k := 1) rfl _))) ?_
  rintro _ _ ⟨rfl, I2, rfl, hs2, g2⟩
  show Ev lyC (d + 5) hX11_force 63 [some (.ref 0)] [.int (F (I 39 3))] (I2, ti_wl (ti_wl J 4 0 (((I 39 2) + (m_st c (I 6) a)).toInt64)) 4 1 ((bc (I 39 3)).toInt64), R) _
  exact ev_iret dX11_force_63 rfl (⟨rfl, _, _, rfl, hs2, tC2 (congrFun (g2.r 3 rfl) 1) rfl rfl⟩)
theorem k_rest0 {I : Nat → Nat → Int32} {J : Nat → Nat → Int64} {R : Nat → Nat → Value} {d n : Nat} (hn : I 8 3 = nI n) {x : Int32} (hx : ix n x = none) : Cal lyC (d + 5) hX11_rest 2 [.ref 0, .int x] (I, J, R) (fun r M' => r = some (.int (-1)) ∧ M' = (I, J, R)) := by
  show Ev lyC (d + 5) hX11_rest 0 [some (.ref 0), some (.int x)] [] (I, J, R) _
  refine ev_st dX11_rest_0 rfl rfl ?_
  refine ev_getC dX11_rest_1 fr_11_35 rfl rfl ?_
  refine ev_st dX11_rest_4 rfl rfl ?_
  refine ev_call dX11_rest_5 rfl rfl mr_11_143 rfl rfl rfl (k_hasF (I := I) hn fC.rf (v := 0) (by rw [hx]; rfl)) ?_
  rintro _ _ ⟨rfl, rfl⟩
  show Ev lyC (d + 5) hX11_rest 8 [some (.ref 0), some (.int x)] [.int 0] (I, J, R) _
  refine ev_if_ne (t := 13) dX11_rest_8 (by decide) (fun q => absurd q (by decide)) (fun _ => ?_)
  refine ev_iconst (v := -1) dX11_rest_11 (by decide) ?_
  exact ev_iret dX11_rest_12 rfl (⟨rfl, rfl⟩)
set_option maxHeartbeats 1000000 in
theorem k_rest {I : Nat → Nat → Int32} {J : Nat → Nat → Int64} {R : Nat → Nat → Value} {d n c a p z : Nat} {rv : RV} (hK : kA I d n c p z rv) (hp : R 0 11 = .ref p) (ha : I 39 1 = nI a) (ha12 : a ≤ 12) {j : Nat} (hx : ix n (nI j) = some j) : Cal lyC (d + 5) hX11_rest 2 [.ref 0, .int (nI j)] (I, J, R) (fun r M' => r = some (.int ((I 40 j + 1) / 2)) ∧ ∃ I3 J3, M' = (I3, J3, R) ∧ fC I I3 ∧ tC [(k_be z rv (I 9 j) 0 (I 10 j) (k_tl (I 10) ((1 : Int32) <<< (nI j &&& 31)) n) (bc ((1 : Int32) <<< (nI j &&& 31))) (m_st c (I 6) a) (nI j)).toInt64] I3 J3) := by
  have hn := hK.1
  have hn8 := hK.2.1
  have hj8 : j < 8 := by have := (ix_some (by omega) hx).1; omega
  show Ev lyC (d + 5) hX11_rest 0 [some (.ref 0), some (.int (nI j))] [] (I, J, R) _
  refine ev_st dX11_rest_0 rfl rfl ?_
  refine ev_getC dX11_rest_1 fr_11_35 rfl rfl ?_
  refine ev_st dX11_rest_4 rfl rfl ?_
  refine ev_call dX11_rest_5 rfl rfl mr_11_143 rfl rfl rfl (k_hasF (I := I) hn fC.rf (v := 1) (by rw [hx]; rfl)) ?_
  rintro _ _ ⟨rfl, rfl⟩
  show Ev lyC (d + 5) hX11_rest 8 [some (.ref 0), some (.int (nI j))] [.int 1] (I, J, R) _
  refine ev_if_ne (t := 13) dX11_rest_8 (by decide) (fun _ => ?_) (fun q => absurd q (by decide))
  refine ev_st dX11_rest_13 rfl rfl ?_
  refine ev_getC dX11_rest_14 fr_11_19 rfl rfl ?_
  refine ev_st dX11_rest_17 rfl rfl ?_
  refine ev_getC dX11_rest_18 fr_11_35 rfl rfl ?_
  refine ev_st dX11_rest_21 rfl rfl ?_
  refine ev_getR (v := .ref p) dX11_rest_22 fr_11_94 rfl rfl hp ?_
  refine ev_st dX11_rest_25 rfl rfl ?_
  refine ev_iconst (v := 1) dX11_rest_26 (by decide) ?_
  refine ev_st dX11_rest_27 rfl rfl ?_
  refine ev_st dX11_rest_28 rfl rfl ?_
  refine ev_iconst (v := 0) dX11_rest_29 (by decide) ?_
  refine ev_st dX11_rest_30 rfl rfl ?_
  refine ev_getC dX11_rest_31 fr_11_49 rfl rfl ?_
  refine ev_getI (v := nI a) dX11_rest_34 fr_11_113 rfl rfl ha ?_
  refine ev_call dX11_rest_37 rfl rfl mr_11_165 rfl rfl rfl (Cal.mono (by omega) (k_worth (I2 := I) (J := J) hK ha12 fC.rf hj8 ((1 : Int32) <<< ((nI j) &&& 31)) 0)) ?_
  rintro _ _ ⟨rfl, I2, rfl, hs2, g2⟩
  show Ev lyC (d + 5) hX11_rest 40 [some (.ref 0), some (.int (nI j))] [.int (k_be z rv (I 9 j) 0 (I 10 j) (k_tl (I 10) ((1 : Int32) <<< ((nI j) &&& 31)) n) (bc ((1 : Int32) <<< ((nI j) &&& 31))) (m_st c (I 6) a) (nI j)), .ref 3] (I2, J, R) _
  refine ev_st dX11_rest_40 rfl rfl ?_
  refine ev_call dX11_rest_41 rfl rfl mr_11_313 rfl rfl rfl (k_tell1 ((k_be z rv (I 9 j) 0 (I 10 j) (k_tl (I 10) ((1 : Int32) <<< ((nI j) &&& 31)) n) (bc ((1 : Int32) <<< ((nI j) &&& 31))) (m_st c (I 6) a) (nI j)).toInt64)) ?_
  rintro _ _ ⟨rfl, rfl⟩
  show Ev lyC (d + 5) hX11_rest 44 [some (.ref 0), some (.int (nI j))] [] (ti_wr I2 3 1 (nI 1), ti_wl J 4 0 ((k_be z rv (I 9 j) 0 (I 10 j) (k_tl (I 10) ((1 : Int32) <<< ((nI j) &&& 31)) n) (bc ((1 : Int32) <<< ((nI j) &&& 31))) (m_st c (I 6) a) (nI j)).toInt64), R) _
  refine ev_st dX11_rest_44 rfl rfl ?_
  refine ev_getC dX11_rest_45 fr_11_49 rfl rfl ?_
  refine ev_getC dX11_rest_48 fr_11_159 rfl rfl ?_
  refine ev_st dX11_rest_51 rfl rfl ?_
  refine ev_iald (j := j) (v := I 40 j) dX11_rest_52 rfl rfl (by omega) (by decide) (congrFun (hs2.r 40 rfl) j) ?_
  refine ev_iconst (v := 1) dX11_rest_53 (by decide) ?_
  refine ev_st dX11_rest_54 rfl rfl ?_
  refine ev_iconst (v := 2) dX11_rest_55 (by decide) ?_
  refine ev_div dX11_rest_56 (by decide) ?_
  exact ev_iret dX11_rest_57 rfl (⟨rfl, _, _, rfl, (hs2.w (p := 3) (k := 1) rfl _), tC1 rfl rfl⟩)

set_option maxHeartbeats 1000000 in
theorem k_sof {I I2 : Nat → Nat → Int32} {J : Nat → Nat → Int64} {R : Nat → Nat → Value} {d n p : Nat} {F : Int32 → Int32} (hn : I 8 3 = nI n) (hn8 : n ≤ 8) (hF : kF I R d p F) (hs2 : fC I I2) (x : Int32) : Cal lyC (d + 5) hX8_strongestOf 7 [.ref 22, .ref 39, .ref p, .int x] (I2, J, R) (fun r M' => r = some (.int (m_tm F x (2 ^ n)).1) ∧ ∃ I3, M' = (I3, J, R) ∧ fC I I3 ∧ I3 3 = I2 3 ∧ I3 22 3 = (m_tm F x (2 ^ n)).2) := by
  obtain ⟨I0, e0⟩ : ∃ I0, I0 = I2 := ⟨_, rfl⟩
  rw [show I2 3 = I0 3 by rw [e0]]
  have hp2 := p256 hn8
  obtain ⟨nw, hw⟩ : ∃ nw, nw = 2 ^ n := ⟨_, rfl⟩
  have hw0 : 1 ≤ nw := hw ▸ Nat.one_le_two_pow
  rw [← hw] at hp2 ⊢
  have loop : ∀ (k b : Nat) (m : Int32) (z : Option Value) (I2 : Nat → Nat → Int32), 1 ≤ b → b ≤ nw → nw - b < k → m = (m_tm F x b).1 → fC I I2 → I2 3 = I0 3 → I2 22 3 = (m_tm F x b).2 → Ev lyC (d + 5) hX8_strongestOf 11 [some (.ref 22), some (.ref 39), some (.ref p), some (.int x), some (.int m), some (.int (nI b)), z] [] (I2, J, R) (fun r M' => r = some (.int (m_tm F x (nw)).1) ∧ ∃ I3, M' = (I3, J, R) ∧ fC I I3 ∧ I3 3 = I0 3 ∧ I3 22 3 = (m_tm F x (nw)).2) := by
    intro k
    induction k with
    | zero => intro b m z I2  h0 h1 h2; omega
    | succ k ih =>
      intro b m z I2  hb1 hb hk hm hs2 h3 h22
      refine ev_st dX8_strongestOf_11 rfl rfl ?_
      refine ev_iconst (v := 1) dX8_strongestOf_13 (by decide) ?_
      refine ev_st dX8_strongestOf_14 rfl rfl ?_
      refine ev_getC dX8_strongestOf_15 fr_8_15 rfl rfl ?_
      refine ev_getI (v := nI n) dX8_strongestOf_18 fr_8_51 rfl rfl ((congrFun (hs2.r 8 rfl) 3).trans hn) ?_
      refine ev_ishlN (c := nw) dX8_strongestOf_21 (hw ▸ sh1 n hn8) ?_
      refine ev_ic_geN (t := 72) (a := b) (b := nw) dX8_strongestOf_22 (by decide) rfl rfl (by omega) (by omega) (fun c_22 => ?_) (fun c_22 => ?_)
      · refine ev_st dX8_strongestOf_72 rfl rfl ?_
        exact ev_iret dX8_strongestOf_74 rfl (by rw [show b = nw by omega] at hm h22; exact ⟨by rw [hm], _, rfl, hs2, h3, h22⟩)
      · refine ev_st dX8_strongestOf_25 rfl rfl ?_
        refine ev_call dX8_strongestOf_27 rfl rfl mr_8_56 rfl rfl rfl (c_bc (nI b)) ?_
        rintro _ _ ⟨rfl, rfl⟩
        show Ev lyC (d + 5) hX8_strongestOf 30 [some (.ref 22), some (.ref 39), some (.ref p), some (.int x), some (.int m), some (.int (nI b)), z] [.int (bc (nI b))] (I2, J, R) _
        refine ev_st dX8_strongestOf_30 rfl rfl ?_
        refine ev_ic_ne (t := 66) (x := bc (nI b)) (y := x) dX8_strongestOf_31 (by decide) (fun c_31 => ?_) (fun c_31 => ?_)
        · refine ev_iincN (a := b) (b := b + 1) (L' := [some (.ref 22), some (.ref 39), some (.ref p), some (.int x), some (.int m), some (.int (nI (b + 1))), z]) dX8_strongestOf_66 rfl (nI_1 _) rfl ?_
          refine ev_goto (t := 11) dX8_strongestOf_69 (by decide) ?_
          exact ih _ _ _ _ (by omega) (by omega) (by omega) (by simp [m_tm, show ¬ b = 0 by omega, hm, ← h22, c_31]) hs2 h3 (by simp [m_tm, show ¬ b = 0 by omega, ← h22, c_31])
        · refine ev_st dX8_strongestOf_34 rfl rfl ?_
          refine ev_getC dX8_strongestOf_35 fr_8_15 rfl rfl ?_
          refine ev_st dX8_strongestOf_38 rfl rfl ?_
          refine ev_st dX8_strongestOf_39 rfl rfl ?_
          refine ev_st dX8_strongestOf_41 rfl rfl ?_
          refine ev_call dX8_strongestOf_42 rfl rfl mr_8_61 rfl rfl rfl (Cal.mono (by omega) (hF I2 J (nI b) hs2)) ?_
          rintro _ _ ⟨rfl, I3, rfl, hs3, g3⟩
          show Ev lyC (d + 5) hX8_strongestOf 45 [some (.ref 22), some (.ref 39), some (.ref p), some (.int x), some (.int m), some (.int (nI b)), z] [.int (F (nI b))] (I3, J, R) _
          refine ev_st (L' := [some (.ref 22), some (.ref 39), some (.ref p), some (.int x), some (.int m), some (.int (nI b)), some (.int (F (nI b)))]) dX8_strongestOf_45 rfl rfl ?_
          refine ev_st dX8_strongestOf_47 rfl rfl ?_
          refine ev_st dX8_strongestOf_49 rfl rfl ?_
          refine ev_getI (v := I2 22 3) dX8_strongestOf_50 fr_8_48 rfl rfl (congrFun (g3.r 22 rfl) 3) ?_
          refine ev_ic_le (t := 66) (x := F (nI b)) (y := I2 22 3) dX8_strongestOf_53 (by decide) (fun c_53 => ?_) (fun c_53 => ?_)
          · refine ev_iincN (a := b) (b := b + 1) (L' := [some (.ref 22), some (.ref 39), some (.ref p), some (.int x), some (.int m), some (.int (nI (b + 1))), some (.int (F (nI b)))]) dX8_strongestOf_66 rfl (nI_1 _) rfl ?_
            refine ev_goto (t := 11) dX8_strongestOf_69 (by decide) ?_
            exact ih _ _ _ _ (by omega) (by omega) (by omega) (by simp [m_tm, show ¬ b = 0 by omega, hm, ← h22, c_31, c_53]) hs3 ((g3.r 3 rfl).trans h3) (by simp [m_tm, show ¬ b = 0 by omega, ← h22, c_31, c_53]; exact (congrFun (g3.r 22 rfl) 3))
          · refine ev_st dX8_strongestOf_56 rfl rfl ?_
            refine ev_st (L' := [some (.ref 22), some (.ref 39), some (.ref p), some (.int x), some (.int (nI b)), some (.int (nI b)), some (.int (F (nI b)))]) dX8_strongestOf_58 rfl rfl ?_
            refine ev_st dX8_strongestOf_60 rfl rfl ?_
            refine ev_st dX8_strongestOf_61 rfl rfl ?_
            refine ev_putI dX8_strongestOf_63 fr_8_48 rfl rfl ?_
            refine ev_iincN (a := b) (b := b + 1) (L' := [some (.ref 22), some (.ref 39), some (.ref p), some (.int x), some (.int (nI b)), some (.int (nI (b + 1))), some (.int (F (nI b)))]) dX8_strongestOf_66 rfl (nI_1 _) rfl ?_
            refine ev_goto (t := 11) dX8_strongestOf_69 (by decide) ?_
            exact ih _ _ _ _ (by omega) (by omega) (by omega) (by simp [m_tm, show ¬ b = 0 by omega, hm, ← h22, c_31, c_53]) (hs3.w (p := 22) (k := 3) rfl _) ((g3.r 3 rfl).trans h3) (by simp [m_tm, show ¬ b = 0 by omega, ← h22, c_31, c_53]; rfl)
  show Ev lyC (d + 5) hX8_strongestOf 0 [some (.ref 22), some (.ref 39), some (.ref p), some (.int x), none, none, none] [] (I2, J, R) _
  refine ev_iconst (v := 0) dX8_strongestOf_0 (by decide) ?_
  refine ev_st (L' := [some (.ref 22), some (.ref 39), some (.ref p), some (.int x), some (.int 0), none, none]) dX8_strongestOf_1 rfl rfl ?_
  refine ev_st dX8_strongestOf_3 rfl rfl ?_
  refine ev_iconst (v := -1) dX8_strongestOf_4 (by decide) ?_
  refine ev_putI dX8_strongestOf_5 fr_8_48 rfl rfl ?_
  refine ev_iconst (v := 1) dX8_strongestOf_8 (by decide) ?_
  refine ev_st (L' := [some (.ref 22), some (.ref 39), some (.ref p), some (.int x), some (.int 0), some (.int 1), none]) dX8_strongestOf_9 rfl rfl ?_
  exact loop (nw + 1) 1 0 _ _ (by omega) (by omega) (by omega) rfl (hs2.w (p := 22) (k := 3) rfl _) (by rw [e0]; rfl) rfl
