/-! the model: ranges, laying states aside, the walk's acts -/
/-- a number as a place below n -/
def ix (n : Nat) (x : Int32) : Option Nat := if 0 ≤ x ∧ x < nI n then some x.toNatClampNeg else none
theorem ix_some {n : Nat} {x : Int32} {j : Nat} (hn : n < 2 ^ 31) (h : ix n x = some j) : j < n ∧ x = nI j := by
  unfold ix at h
  split at h
  · rename_i hc
    cases h
    obtain ⟨j, h1, h2⟩ := nI_of (Int32.not_lt.mpr hc.1)
    subst h2
    rw [nI_clamp h1]
    exact ⟨(nI_ltI h1 hn).mp hc.2, rfl⟩
  · cases h
theorem ix_nI {n j : Nat} (hn : n < 2 ^ 31) (hj : j < n) : ix n (nI j) = some j := by
  unfold ix
  rw [if_pos ⟨nI_pos' (by omega), nI_lt hj hn⟩, nI_clamp (by omega)]
theorem ix_in {n : Nat} (hn : n < 2 ^ 30) (x : Int32) : m_in x 0 (nI n - 1) = if (ix n x).isSome then 1 else 0 := by
  have e1 : (nI n - 1).toInt = (n : Int) - 1 := pk_sub_toInt (b := 1) hn (by decide)
  unfold m_in ix
  by_cases h0 : x < 0
  · have : ¬ 0 ≤ x := fun q => absurd h0 (Int32.not_lt.mpr q)
    simp [h0, this]
  · have h1 : 0 ≤ x := Int32.not_lt.mp h0
    by_cases h2 : nI n - 1 < x
    · have : ¬ x < nI n := by
        intro q
        have a := Int32.lt_iff_toInt_lt.mp h2
        have b := Int32.lt_iff_toInt_lt.mp q
        rw [e1] at a
        rw [nI_toInt (by omega)] at b
        omega
      simp [h0, h2, this]
    · have : x < nI n := by
        apply Int32.lt_iff_toInt_lt.mpr
        have a : x.toInt ≤ (nI n - 1).toInt := Int32.le_iff_toInt_le.mp (Int32.not_lt.mp h2)
        rw [nI_toInt (by omega)]
        omega
      simp [h0, h1, h2, this]
theorem ix_inC {k : Nat} (hk : k < 2 ^ 29) (x : Int32) : m_in x 0 (nI k) = if (ix (k + 1) x).isSome then 1 else 0 := by
  have := ix_in (n := k + 1) (by omega) x
  rw [show nI (k + 1) - 1 = nI k from nI_pred k] at this
  exact this
theorem c_in1 {lay : List TE} {M : TM} {d : Nat} {v a b : Int32} (h : m_in v a b = 1) : Cal lay d hX12_in 3 [.int v, .int a, .int b] M (fun r M' => r = some (.int 1) ∧ M' = M) := by
  have := c_in (lay := lay) (M := M) (d := d) v a b
  rw [h] at this; exact this
theorem c_in0 {lay : List TE} {M : TM} {d : Nat} {v a b : Int32} (h : m_in v a b = 0) : Cal lay d hX12_in 3 [.int v, .int a, .int b] M (fun r M' => r = some (.int 0) ∧ M' = M) := by
  have := c_in (lay := lay) (M := M) (d := d) v a b
  rw [h] at this; exact this
theorem c_isMan {I : Nat → Nat → Int32} {J : Nat → Nat → Int64} {R : Nat → Nat → Value} {d n : Nat} (hn : I 0 3 = nI n) (hn8 : n ≤ 8) (x : Int32) : Cal lyM (d + 1) hX12_isMan 2 [.ref 0, .int x] (I, J, R) (fun r M' => r = some (.int (if (ix n x).isSome then 1 else 0)) ∧ M' = (I, J, R)) := by
  show Ev lyM (d + 1) hX12_isMan 0 [some (.ref 0), some (.int x)] [] (I, J, R) _
  refine ev_st dX12_isMan_0 rfl rfl ?_
  refine ev_iconst (v := 0) dX12_isMan_1 (by decide) ?_
  refine ev_st dX12_isMan_2 rfl rfl ?_
  refine ev_getI (v := nI n) dX12_isMan_3 fr_12_95 rfl rfl hn ?_
  refine ev_iconst (v := 1) dX12_isMan_6 (by decide) ?_
  refine ev_st dX12_isMan_7 rfl rfl ?_
  refine ev_call dX12_isMan_8 rfl rfl mr_12_98 rfl rfl rfl (c_in x 0 ((nI n) - 1)) ?_
  rintro _ _ ⟨rfl, rfl⟩
  show Ev lyM (d + 1) hX12_isMan 11 [some (.ref 0), some (.int x)] [.int (m_in x 0 ((nI n) - 1))] (I, J, R) _
  exact ev_zret dX12_isMan_11 rfl (by rw [ix_in (by omega)]; cases (ix n x).isSome <;> decide) (⟨by rw [ix_in (by omega)], rfl⟩)
theorem c_isSaying {I : Nat → Nat → Int32} {J : Nat → Nat → Int64} {R : Nat → Nat → Value} {d n : Nat} (hn : I 0 6 = nI n) (hn8 : n ≤ 8) (x : Int32) : Cal lyM (d + 1) hX12_isSaying 2 [.ref 0, .int x] (I, J, R) (fun r M' => r = some (.int (if (ix n x).isSome then 1 else 0)) ∧ M' = (I, J, R)) := by
  show Ev lyM (d + 1) hX12_isSaying 0 [some (.ref 0), some (.int x)] [] (I, J, R) _
  refine ev_st dX12_isSaying_0 rfl rfl ?_
  refine ev_iconst (v := 0) dX12_isSaying_1 (by decide) ?_
  refine ev_st dX12_isSaying_2 rfl rfl ?_
  refine ev_getI (v := nI n) dX12_isSaying_3 fr_12_102 rfl rfl hn ?_
  refine ev_iconst (v := 1) dX12_isSaying_6 (by decide) ?_
  refine ev_st dX12_isSaying_7 rfl rfl ?_
  refine ev_call dX12_isSaying_8 rfl rfl mr_12_98 rfl rfl rfl (c_in x 0 ((nI n) - 1)) ?_
  rintro _ _ ⟨rfl, rfl⟩
  show Ev lyM (d + 1) hX12_isSaying 11 [some (.ref 0), some (.int x)] [.int (m_in x 0 ((nI n) - 1))] (I, J, R) _
  exact ev_zret dX12_isSaying_11 rfl (by rw [ix_in (by omega)]; cases (ix n x).isSome <;> decide) (⟨by rw [ix_in (by omega)], rfl⟩)
theorem sh1 : ∀ n, n ≤ 8 → (1 : Int32) <<< (nI n &&& 31) = nI (2 ^ n) := by decide
theorem sz : ∀ n, n ≤ 8 → 1 ≤ 2 ^ n ∧ 2 ^ n ≤ 256 := by decide
theorem c_areSayings {I : Nat → Nat → Int32} {J : Nat → Nat → Int64} {R : Nat → Nat → Value} {d n : Nat} (hn : I 0 6 = nI n) (hn8 : n ≤ 8) (x : Int32) : Cal lyM (d + 1) hX12_areSayings 2 [.ref 0, .int x] (I, J, R) (fun r M' => r = some (.int (if (ix (2 ^ n) x).isSome then 1 else 0)) ∧ M' = (I, J, R)) := by
  show Ev lyM (d + 1) hX12_areSayings 0 [some (.ref 0), some (.int x)] [] (I, J, R) _
  refine ev_st dX12_areSayings_0 rfl rfl ?_
  refine ev_iconst (v := 0) dX12_areSayings_1 (by decide) ?_
  refine ev_iconst (v := 1) dX12_areSayings_2 (by decide) ?_
  refine ev_st dX12_areSayings_3 rfl rfl ?_
  refine ev_getI (v := nI n) dX12_areSayings_4 fr_12_102 rfl rfl hn ?_
  refine ev_st dX12_areSayings_7 rfl rfl ?_
  refine ev_iconst (v := 1) dX12_areSayings_8 (by decide) ?_
  refine ev_st dX12_areSayings_9 rfl rfl ?_
  refine ev_call dX12_areSayings_10 rfl rfl mr_12_98 rfl rfl rfl (c_in x 0 ((1 <<< ((nI n) &&& 31)) - 1)) ?_
  rintro _ _ ⟨rfl, rfl⟩
  show Ev lyM (d + 1) hX12_areSayings 13 [some (.ref 0), some (.int x)] [.int (m_in x 0 ((1 <<< ((nI n) &&& 31)) - 1))] (I, J, R) _
  exact ev_zret dX12_areSayings_13 rfl (by rw [sh1 n hn8, ix_in (by have := sz n hn8; omega)]; cases (ix (2 ^ n) x).isSome <;> decide) (⟨by rw [sh1 n hn8, ix_in (by have := sz n hn8; omega)], rfl⟩)
theorem c_isSeventh {lay : List TE} {M : TM} {d : Nat} (x : Int32) : Cal lay (d + 1) hX12_isSeventh 1 [.int x] M (fun r M' => r = some (.int (if (ix 4 x).isSome then 1 else 0)) ∧ M' = M) := by
  obtain ⟨I, J, R⟩ := M
  show Ev lay (d + 1) hX12_isSeventh 0 [some (.int x)] [] (I, J, R) _
  refine ev_st dX12_isSeventh_0 rfl rfl ?_
  refine ev_iconst (v := 0) dX12_isSeventh_1 (by decide) ?_
  refine ev_iconst (v := 3) dX12_isSeventh_2 (by decide) ?_
  refine ev_call dX12_isSeventh_3 rfl rfl mr_12_98 rfl rfl rfl (c_in x 0 3) ?_
  rintro _ _ ⟨rfl, rfl⟩
  show Ev lay (d + 1) hX12_isSeventh 6 [some (.int x)] [.int (m_in x 0 3)] (I, J, R) _
  exact ev_zret dX12_isSeventh_6 rfl (by rw [show (3 : Int32) = nI 3 from rfl, ix_inC (by decide)]; cases (ix 4 x).isSome <;> decide) (⟨by rw [show (3 : Int32) = nI 3 from rfl, ix_inC (by decide)], rfl⟩)
theorem c_tell {I : Nat → Nat → Int32} {J : Nat → Nat → Int64} {R : Nat → Nat → Value} {d m : Nat} (hm : I 0 11 = nI m) (hm16 : m < 16) (v : Int64) : Cal lyM d hX12_tell 3 [.ref 0, .long v] (I, J, R) (fun r M' => r = none ∧ M' = (ti_wr I 0 11 (nI (m + 1)), ti_wl J 7 m v, R)) := by
  show Ev lyM d hX12_tell 0 [some (.ref 0), some (.long v), none] [] (I, J, R) _
  refine ev_st dX12_tell_0 rfl rfl ?_
  refine ev_getC dX12_tell_1 fr_12_33 rfl rfl ?_
  refine ev_st dX12_tell_4 rfl rfl ?_
  refine ev_getI (v := nI m) dX12_tell_5 fr_12_92 rfl rfl hm ?_
  refine ev_st dX12_tell_8 rfl rfl ?_
  refine ev_last (j := m) dX12_tell_9 rfl rfl (by omega) (by decide) ?_
  refine ev_st dX12_tell_10 rfl rfl ?_
  refine ev_st dX12_tell_11 rfl rfl ?_
  refine ev_getI (v := nI m) dX12_tell_12 fr_12_92 rfl rfl hm ?_
  refine ev_iconst (v := 1) dX12_tell_15 (by decide) ?_
  refine ev_iaddN (a := m) (b := 1) (c := m + 1) dX12_tell_16 rfl rfl rfl ?_
  refine ev_putI dX12_tell_17 fr_12_92 rfl rfl ?_
  exact ev_vret dX12_tell_20 rfl (⟨rfl, rfl⟩)
def m_lay (f g : Nat → Int32) (k b : Nat) : Nat → Int32 := fun j => if k ≤ j ∧ j < k + b then f (j - k) else g j
theorem m_lay_0 {f g : Nat → Int32} {k : Nat} : m_lay f g k 0 = g := by
  funext j
  have : ¬ (k ≤ j ∧ j < k + 0) := by omega
  simp only [m_lay, if_neg this]
theorem m_lay_s {f g : Nat → Int32} {k b : Nat} : upd (m_lay f g k b) (k + b) (f b) = m_lay f g k (b + 1) := by
  funext j
  by_cases h : j = k + b
  · subst h
    simp [upd, m_lay]
  · by_cases h2 : k ≤ j ∧ j < k + b
    · have h3 : k ≤ j ∧ j < k + (b + 1) := by omega
      simp [upd, m_lay, h, h2, h3]
    · have h3 : ¬ (k ≤ j ∧ j < k + (b + 1)) := by omega
      simp only [upd, m_lay, h, if_neg h2, if_neg h3, if_false]
theorem c_lay_1_14 {I : Nat → Nat → Int32} {J : Nat → Nat → Int64} {R : Nat → Nat → Value} {d k : Nat} (hk : k + 29 ≤ 29) : Cal lyM d hX12_lay 4 [.ref 1, .ref 14, .int (nI k)] (I, J, R) (fun r M' => r = none ∧ M' = (va_up I 14 (m_lay (I 1) (I 14) k 29), J, R)) := by
  have loop : ∀ (z b : Nat), b ≤ 29 → 29 - b < z → Ev lyM d hX12_lay 2 [some (.ref 1), some (.ref 14), some (.int (nI k)), some (.int (nI b))] [] (va_up I 14 (m_lay (I 1) (I 14) k b), J, R) (fun r M' => r = none ∧ M' = (va_up I 14 (m_lay (I 1) (I 14) k 29), J, R)) := by
    intro z
    induction z with
    | zero => intro b h1 h2; omega
    | succ z ih =>
      intro b hb hz
      refine ev_st dX12_lay_2 rfl rfl ?_
      refine ev_bipush (v := 29) dX12_lay_3 (by decide) ?_
      refine ev_ic_geN (t := 22) (a := b) (b := 29) dX12_lay_5 (by decide) rfl rfl (by omega) (by omega) (fun c_5 => ?_) (fun c_5 => ?_)
      · exact ev_vret dX12_lay_22 rfl (⟨rfl, by rw [show b = 29 by omega]⟩)
      · refine ev_st dX12_lay_8 rfl rfl ?_
        refine ev_st dX12_lay_9 rfl rfl ?_
        refine ev_st dX12_lay_10 rfl rfl ?_
        refine ev_iaddN (a := k) (b := b) (c := k + b) dX12_lay_11 rfl rfl rfl ?_
        refine ev_st dX12_lay_12 rfl rfl ?_
        refine ev_st dX12_lay_13 rfl rfl ?_
        refine ev_iald (j := b) (v := I 1 b) dX12_lay_14 rfl rfl (by omega) (by decide) (by rw [va_up_n (by decide)]) ?_
        refine ev_iast (j := k + b) dX12_lay_15 rfl rfl (by omega) (by decide) ?_
        refine ev_iincN (a := b) (b := b + 1) (L' := [some (.ref 1), some (.ref 14), some (.int (nI k)), some (.int (nI (b + 1)))]) dX12_lay_16 rfl (nI_1 _) rfl ?_
        refine ev_goto (t := 2) dX12_lay_19 (by decide) ?_
        rw [ti_wr_up, m_lay_s]
        exact ih _ (by omega) (by omega)
  show Ev lyM d hX12_lay 0 [some (.ref 1), some (.ref 14), some (.int (nI k)), none] [] (I, J, R) _
  refine ev_iconst (v := 0) dX12_lay_0 (by decide) ?_
  refine ev_st (L' := [some (.ref 1), some (.ref 14), some (.int (nI k)), some (.int 0)]) dX12_lay_1 rfl rfl ?_
  have K := loop 30 0 (by omega) (by omega)
  rw [m_lay_0, va_up_id] at K
  exact K
theorem c_lay_1_13 {I : Nat → Nat → Int32} {J : Nat → Nat → Int64} {R : Nat → Nat → Value} {d k : Nat} (hk : k + 29 ≤ 29) : Cal lyM d hX12_lay 4 [.ref 1, .ref 13, .int (nI k)] (I, J, R) (fun r M' => r = none ∧ M' = (va_up I 13 (m_lay (I 1) (I 13) k 29), J, R)) := by
  have loop : ∀ (z b : Nat), b ≤ 29 → 29 - b < z → Ev lyM d hX12_lay 2 [some (.ref 1), some (.ref 13), some (.int (nI k)), some (.int (nI b))] [] (va_up I 13 (m_lay (I 1) (I 13) k b), J, R) (fun r M' => r = none ∧ M' = (va_up I 13 (m_lay (I 1) (I 13) k 29), J, R)) := by
    intro z
    induction z with
    | zero => intro b h1 h2; omega
    | succ z ih =>
      intro b hb hz
      refine ev_st dX12_lay_2 rfl rfl ?_
      refine ev_bipush (v := 29) dX12_lay_3 (by decide) ?_
      refine ev_ic_geN (t := 22) (a := b) (b := 29) dX12_lay_5 (by decide) rfl rfl (by omega) (by omega) (fun c_5 => ?_) (fun c_5 => ?_)
      · exact ev_vret dX12_lay_22 rfl (⟨rfl, by rw [show b = 29 by omega]⟩)
      · refine ev_st dX12_lay_8 rfl rfl ?_
        refine ev_st dX12_lay_9 rfl rfl ?_
        refine ev_st dX12_lay_10 rfl rfl ?_
        refine ev_iaddN (a := k) (b := b) (c := k + b) dX12_lay_11 rfl rfl rfl ?_
        refine ev_st dX12_lay_12 rfl rfl ?_
        refine ev_st dX12_lay_13 rfl rfl ?_
        refine ev_iald (j := b) (v := I 1 b) dX12_lay_14 rfl rfl (by omega) (by decide) (by rw [va_up_n (by decide)]) ?_
        refine ev_iast (j := k + b) dX12_lay_15 rfl rfl (by omega) (by decide) ?_
        refine ev_iincN (a := b) (b := b + 1) (L' := [some (.ref 1), some (.ref 13), some (.int (nI k)), some (.int (nI (b + 1)))]) dX12_lay_16 rfl (nI_1 _) rfl ?_
        refine ev_goto (t := 2) dX12_lay_19 (by decide) ?_
        rw [ti_wr_up, m_lay_s]
        exact ih _ (by omega) (by omega)
  show Ev lyM d hX12_lay 0 [some (.ref 1), some (.ref 13), some (.int (nI k)), none] [] (I, J, R) _
  refine ev_iconst (v := 0) dX12_lay_0 (by decide) ?_
  refine ev_st (L' := [some (.ref 1), some (.ref 13), some (.int (nI k)), some (.int 0)]) dX12_lay_1 rfl rfl ?_
  have K := loop 30 0 (by omega) (by omega)
  rw [m_lay_0, va_up_id] at K
  exact K
theorem c_lay_1_12 {I : Nat → Nat → Int32} {J : Nat → Nat → Int64} {R : Nat → Nat → Value} {d k : Nat} (hk : k + 29 ≤ 348) : Cal lyM d hX12_lay 4 [.ref 1, .ref 12, .int (nI k)] (I, J, R) (fun r M' => r = none ∧ M' = (va_up I 12 (m_lay (I 1) (I 12) k 29), J, R)) := by
  have loop : ∀ (z b : Nat), b ≤ 29 → 29 - b < z → Ev lyM d hX12_lay 2 [some (.ref 1), some (.ref 12), some (.int (nI k)), some (.int (nI b))] [] (va_up I 12 (m_lay (I 1) (I 12) k b), J, R) (fun r M' => r = none ∧ M' = (va_up I 12 (m_lay (I 1) (I 12) k 29), J, R)) := by
    intro z
    induction z with
    | zero => intro b h1 h2; omega
    | succ z ih =>
      intro b hb hz
      refine ev_st dX12_lay_2 rfl rfl ?_
      refine ev_bipush (v := 29) dX12_lay_3 (by decide) ?_
      refine ev_ic_geN (t := 22) (a := b) (b := 29) dX12_lay_5 (by decide) rfl rfl (by omega) (by omega) (fun c_5 => ?_) (fun c_5 => ?_)
      · exact ev_vret dX12_lay_22 rfl (⟨rfl, by rw [show b = 29 by omega]⟩)
      · refine ev_st dX12_lay_8 rfl rfl ?_
        refine ev_st dX12_lay_9 rfl rfl ?_
        refine ev_st dX12_lay_10 rfl rfl ?_
        refine ev_iaddN (a := k) (b := b) (c := k + b) dX12_lay_11 rfl rfl rfl ?_
        refine ev_st dX12_lay_12 rfl rfl ?_
        refine ev_st dX12_lay_13 rfl rfl ?_
        refine ev_iald (j := b) (v := I 1 b) dX12_lay_14 rfl rfl (by omega) (by decide) (by rw [va_up_n (by decide)]) ?_
        refine ev_iast (j := k + b) dX12_lay_15 rfl rfl (by omega) (by decide) ?_
        refine ev_iincN (a := b) (b := b + 1) (L' := [some (.ref 1), some (.ref 12), some (.int (nI k)), some (.int (nI (b + 1)))]) dX12_lay_16 rfl (nI_1 _) rfl ?_
        refine ev_goto (t := 2) dX12_lay_19 (by decide) ?_
        rw [ti_wr_up, m_lay_s]
        exact ih _ (by omega) (by omega)
  show Ev lyM d hX12_lay 0 [some (.ref 1), some (.ref 12), some (.int (nI k)), none] [] (I, J, R) _
  refine ev_iconst (v := 0) dX12_lay_0 (by decide) ?_
  refine ev_st (L' := [some (.ref 1), some (.ref 12), some (.int (nI k)), some (.int 0)]) dX12_lay_1 rfl rfl ?_
  have K := loop 30 0 (by omega) (by omega)
  rw [m_lay_0, va_up_id] at K
  exact K
theorem c_lay_13_12 {I : Nat → Nat → Int32} {J : Nat → Nat → Int64} {R : Nat → Nat → Value} {d k : Nat} (hk : k + 29 ≤ 348) : Cal lyM d hX12_lay 4 [.ref 13, .ref 12, .int (nI k)] (I, J, R) (fun r M' => r = none ∧ M' = (va_up I 12 (m_lay (I 13) (I 12) k 29), J, R)) := by
  have loop : ∀ (z b : Nat), b ≤ 29 → 29 - b < z → Ev lyM d hX12_lay 2 [some (.ref 13), some (.ref 12), some (.int (nI k)), some (.int (nI b))] [] (va_up I 12 (m_lay (I 13) (I 12) k b), J, R) (fun r M' => r = none ∧ M' = (va_up I 12 (m_lay (I 13) (I 12) k 29), J, R)) := by
    intro z
    induction z with
    | zero => intro b h1 h2; omega
    | succ z ih =>
      intro b hb hz
      refine ev_st dX12_lay_2 rfl rfl ?_
      refine ev_bipush (v := 29) dX12_lay_3 (by decide) ?_
      refine ev_ic_geN (t := 22) (a := b) (b := 29) dX12_lay_5 (by decide) rfl rfl (by omega) (by omega) (fun c_5 => ?_) (fun c_5 => ?_)
      · exact ev_vret dX12_lay_22 rfl (⟨rfl, by rw [show b = 29 by omega]⟩)
      · refine ev_st dX12_lay_8 rfl rfl ?_
        refine ev_st dX12_lay_9 rfl rfl ?_
        refine ev_st dX12_lay_10 rfl rfl ?_
        refine ev_iaddN (a := k) (b := b) (c := k + b) dX12_lay_11 rfl rfl rfl ?_
        refine ev_st dX12_lay_12 rfl rfl ?_
        refine ev_st dX12_lay_13 rfl rfl ?_
        refine ev_iald (j := b) (v := I 13 b) dX12_lay_14 rfl rfl (by omega) (by decide) (by rw [va_up_n (by decide)]) ?_
        refine ev_iast (j := k + b) dX12_lay_15 rfl rfl (by omega) (by decide) ?_
        refine ev_iincN (a := b) (b := b + 1) (L' := [some (.ref 13), some (.ref 12), some (.int (nI k)), some (.int (nI (b + 1)))]) dX12_lay_16 rfl (nI_1 _) rfl ?_
        refine ev_goto (t := 2) dX12_lay_19 (by decide) ?_
        rw [ti_wr_up, m_lay_s]
        exact ih _ (by omega) (by omega)
  show Ev lyM d hX12_lay 0 [some (.ref 13), some (.ref 12), some (.int (nI k)), none] [] (I, J, R) _
  refine ev_iconst (v := 0) dX12_lay_0 (by decide) ?_
  refine ev_st (L' := [some (.ref 13), some (.ref 12), some (.int (nI k)), some (.int 0)]) dX12_lay_1 rfl rfl ?_
  have K := loop 30 0 (by omega) (by omega)
  rw [m_lay_0, va_up_id] at K
  exact K
theorem c_lay_1_22 {I : Nat → Nat → Int32} {J : Nat → Nat → Int64} {R : Nat → Nat → Value} {d k : Nat} (hk : k + 29 ≤ 58) : Cal lyM d hX12_lay 4 [.ref 1, .ref 22, .int (nI k)] (I, J, R) (fun r M' => r = none ∧ M' = (va_up I 22 (m_lay (I 1) (I 22) k 29), J, R)) := by
  have loop : ∀ (z b : Nat), b ≤ 29 → 29 - b < z → Ev lyM d hX12_lay 2 [some (.ref 1), some (.ref 22), some (.int (nI k)), some (.int (nI b))] [] (va_up I 22 (m_lay (I 1) (I 22) k b), J, R) (fun r M' => r = none ∧ M' = (va_up I 22 (m_lay (I 1) (I 22) k 29), J, R)) := by
    intro z
    induction z with
    | zero => intro b h1 h2; omega
    | succ z ih =>
      intro b hb hz
      refine ev_st dX12_lay_2 rfl rfl ?_
      refine ev_bipush (v := 29) dX12_lay_3 (by decide) ?_
      refine ev_ic_geN (t := 22) (a := b) (b := 29) dX12_lay_5 (by decide) rfl rfl (by omega) (by omega) (fun c_5 => ?_) (fun c_5 => ?_)
      · exact ev_vret dX12_lay_22 rfl (⟨rfl, by rw [show b = 29 by omega]⟩)
      · refine ev_st dX12_lay_8 rfl rfl ?_
        refine ev_st dX12_lay_9 rfl rfl ?_
        refine ev_st dX12_lay_10 rfl rfl ?_
        refine ev_iaddN (a := k) (b := b) (c := k + b) dX12_lay_11 rfl rfl rfl ?_
        refine ev_st dX12_lay_12 rfl rfl ?_
        refine ev_st dX12_lay_13 rfl rfl ?_
        refine ev_iald (j := b) (v := I 1 b) dX12_lay_14 rfl rfl (by omega) (by decide) (by rw [va_up_n (by decide)]) ?_
        refine ev_iast (j := k + b) dX12_lay_15 rfl rfl (by omega) (by decide) ?_
        refine ev_iincN (a := b) (b := b + 1) (L' := [some (.ref 1), some (.ref 22), some (.int (nI k)), some (.int (nI (b + 1)))]) dX12_lay_16 rfl (nI_1 _) rfl ?_
        refine ev_goto (t := 2) dX12_lay_19 (by decide) ?_
        rw [ti_wr_up, m_lay_s]
        exact ih _ (by omega) (by omega)
  show Ev lyM d hX12_lay 0 [some (.ref 1), some (.ref 22), some (.int (nI k)), none] [] (I, J, R) _
  refine ev_iconst (v := 0) dX12_lay_0 (by decide) ?_
  refine ev_st (L' := [some (.ref 1), some (.ref 22), some (.int (nI k)), some (.int 0)]) dX12_lay_1 rfl rfl ?_
  have K := loop 30 0 (by omega) (by omega)
  rw [m_lay_0, va_up_id] at K
  exact K
/-- the remembered rows: the eldest falls out where there are twelve -/
def m_shp (g : Nat → Int32) (b : Nat) : Nat → Int32 := fun j => if j < b then g (j + 29) else g j
theorem m_shp_0 {g : Nat → Int32} : m_shp g 0 = g := by funext j; simp [m_shp]
theorem m_shp_s {g : Nat → Int32} {b : Nat} : upd (m_shp g b) b (g (b + 29)) = m_shp g (b + 1) := by
  funext j
  by_cases h : j = b
  · subst h; simp [upd, m_shp]
  · by_cases h2 : j < b
    · simp [upd, m_shp, h, h2, Nat.lt_succ_of_lt h2]
    · have : ¬ j < b + 1 := by omega
      simp [upd, m_shp, h, h2, this]
def m_rem (w g : Nat → Int32) (u : Nat) : Nat → Int32 := if u = 12 then m_lay w (m_shp g 319) 319 29 else m_lay w g (29 * u) 29
def m_u1 (u : Nat) : Nat := if u = 12 then 12 else u + 1
set_option maxHeartbeats 4000000 in
theorem c_remL_1 {I : Nat → Nat → Int32} {J : Nat → Nat → Int64} {R : Nat → Nat → Value} {d u : Nat} (hu : I 0 25 = nI u) (h12 : u = 12) : ∀ (z b : Nat), b ≤ 319 → 319 - b < z → Ev lyM (d + 1) hX12_remember 11 [some (.ref 0), some (.ref 1), some (.int (nI b))] [] (va_up I 12 (m_shp (I 12) b), J, R) (fun r M' => r = none ∧ M' = (ti_wr (va_up I 12 (m_rem (I 1) (I 12) u)) 0 25 (nI (m_u1 u)), J, R)) := by
  subst h12
  intro z
  induction z with
  | zero => intro b h1 h2; omega
  | succ z ih =>
      intro b hb hz
      refine ev_st dX12_remember_11 rfl rfl ?_
      refine ev_sipush (v := 319) dX12_remember_12 (by decide) ?_
      refine ev_ic_geN (t := 39) (a := b) (b := 319) dX12_remember_15 (by decide) rfl rfl (by omega) (by omega) (fun c_15 => ?_) (fun c_15 => ?_)
      · refine ev_st dX12_remember_39 rfl rfl ?_
        refine ev_st dX12_remember_40 rfl rfl ?_
        refine ev_getI (v := 12) dX12_remember_41 fr_12_147 rfl rfl (by rw [va_up_n (by decide), hu]; rfl) ?_
        refine ev_iconst (v := 1) dX12_remember_44 (by decide) ?_
        refine ev_st (st' := [.int 11, .ref 0]) dX12_remember_45 rfl (by rfl) ?_
        refine ev_putI dX12_remember_46 fr_12_147 rfl rfl ?_
        refine ev_st dX12_remember_49 rfl rfl ?_
        refine ev_st dX12_remember_50 rfl rfl ?_
        refine ev_getC dX12_remember_51 fr_12_49 rfl rfl ?_
        refine ev_bipush (v := 29) dX12_remember_54 (by decide) ?_
        refine ev_st dX12_remember_56 rfl rfl ?_
        refine ev_getI (v := 11) dX12_remember_57 fr_12_147 rfl rfl (by simp [ti_wr, va_up, upd]) ?_
        refine ev_imulN (a := 29) (b := 11) (c := 319) dX12_remember_60 rfl rfl rfl ?_
        refine ev_call dX12_remember_61 rfl rfl mr_12_257 rfl rfl rfl (c_lay_1_12 (I := ti_wr (va_up I 12 (m_shp (I 12) b)) 0 25 11) (k := 319) (by omega)) ?_
        rintro _ _ ⟨rfl, rfl⟩
        show Ev lyM (d + 1) hX12_remember 64 [some (.ref 0), some (.ref 1), some (.int (nI b))] [] (va_up (ti_wr (va_up I 12 (m_shp (I 12) b)) 0 25 11) 12 (m_lay ((ti_wr (va_up I 12 (m_shp (I 12) b)) 0 25 11) 1) ((ti_wr (va_up I 12 (m_shp (I 12) b)) 0 25 11) 12) 319 29), J, R) _
        refine ev_st dX12_remember_64 rfl rfl ?_
        refine ev_st dX12_remember_65 rfl rfl ?_
        refine ev_getI (v := 11) dX12_remember_66 fr_12_147 rfl rfl (by simp [ti_wr, va_up, upd]) ?_
        refine ev_iconst (v := 1) dX12_remember_69 (by decide) ?_
        refine ev_iaddN (a := 11) (b := 1) (c := 12) dX12_remember_70 rfl rfl rfl ?_
        refine ev_putI dX12_remember_71 fr_12_147 rfl rfl ?_
        refine ev_vret dX12_remember_74 rfl ⟨rfl, ?_⟩
        have hb9 : b = 319 := by omega
        subst hb9
        congr 1
        funext x y
        by_cases h0 : x = 0
        · subst h0; by_cases h25 : y = 25
          · subst h25; simp [ti_wr, va_up, upd, m_u1]
          · simp [ti_wr, va_up, upd, h25]
        · by_cases h12 : x = 12
          · subst h12; simp [ti_wr, va_up, upd, m_rem]
          · simp [ti_wr, va_up, upd, h0, h12]
      · refine ev_st dX12_remember_18 rfl rfl ?_
        refine ev_getC dX12_remember_19 fr_12_49 rfl rfl ?_
        refine ev_st dX12_remember_22 rfl rfl ?_
        refine ev_st dX12_remember_23 rfl rfl ?_
        refine ev_getC dX12_remember_24 fr_12_49 rfl rfl ?_
        refine ev_st dX12_remember_27 rfl rfl ?_
        refine ev_bipush (v := 29) dX12_remember_28 (by decide) ?_
        refine ev_iaddN (a := b) (b := 29) (c := b + 29) dX12_remember_30 rfl rfl rfl ?_
        refine ev_iald (j := b + 29) (v := I 12 (b + 29)) dX12_remember_31 rfl rfl (by omega) (by decide) (by rw [va_up_q]; simp only [m_shp, if_neg (show ¬ b + 29 < b by omega)]) ?_
        refine ev_iast (j := b) dX12_remember_32 rfl rfl (by omega) (by decide) ?_
        refine ev_iincN (a := b) (b := b + 1) (L' := [some (.ref 0), some (.ref 1), some (.int (nI (b + 1)))]) dX12_remember_33 rfl (nI_1 _) rfl ?_
        refine ev_goto (t := 11) dX12_remember_36 (by decide) ?_
        rw [ti_wr_up, m_shp_s]
        exact ih _ (by omega) (by omega)
set_option maxHeartbeats 4000000 in
theorem c_remember_1 {I : Nat → Nat → Int32} {J : Nat → Nat → Int64} {R : Nat → Nat → Value} {d u : Nat} (hu : I 0 25 = nI u) (hu12 : u ≤ 12) : Cal lyM (d + 1) hX12_remember 3 [.ref 0, .ref 1] (I, J, R) (fun r M' => r = none ∧ M' = (ti_wr (va_up I 12 (m_rem (I 1) (I 12) u)) 0 25 (nI (m_u1 u)), J, R)) := by
  show Ev lyM (d + 1) hX12_remember 0 [some (.ref 0), some (.ref 1), none] [] (I, J, R) _
  refine ev_st dX12_remember_0 rfl rfl ?_
  refine ev_getI (v := nI u) dX12_remember_1 fr_12_147 rfl rfl hu ?_
  refine ev_bipush (v := 12) dX12_remember_4 (by decide) ?_
  refine ev_ic_neN (t := 49) (a := u) (b := 12) dX12_remember_6 (by decide) rfl rfl (by omega) (by omega) (fun c_6 => ?_) (fun c_6 => ?_)
  · refine ev_st dX12_remember_49 rfl rfl ?_
    refine ev_st dX12_remember_50 rfl rfl ?_
    refine ev_getC dX12_remember_51 fr_12_49 rfl rfl ?_
    refine ev_bipush (v := 29) dX12_remember_54 (by decide) ?_
    refine ev_st dX12_remember_56 rfl rfl ?_
    refine ev_getI (v := nI u) dX12_remember_57 fr_12_147 rfl rfl hu ?_
    refine ev_imulN (a := 29) (b := u) (c := 29 * u) dX12_remember_60 rfl rfl rfl ?_
    refine ev_call dX12_remember_61 rfl rfl mr_12_257 rfl rfl rfl (c_lay_1_12 (I := I) (k := 29 * u) (by omega)) ?_
    rintro _ _ ⟨rfl, rfl⟩
    show Ev lyM (d + 1) hX12_remember 64 [some (.ref 0), some (.ref 1), none] [] (va_up I 12 (m_lay (I 1) (I 12) (29 * u) 29), J, R) _
    refine ev_st dX12_remember_64 rfl rfl ?_
    refine ev_st dX12_remember_65 rfl rfl ?_
    refine ev_getI (v := nI u) dX12_remember_66 fr_12_147 rfl rfl (by rw [va_up_n (by decide)]; exact hu) ?_
    refine ev_iconst (v := 1) dX12_remember_69 (by decide) ?_
    refine ev_iaddN (a := u) (b := 1) (c := u + 1) dX12_remember_70 rfl rfl rfl ?_
    refine ev_putI dX12_remember_71 fr_12_147 rfl rfl ?_
    exact ev_vret dX12_remember_74 rfl ⟨rfl, by simp [m_rem, m_u1, c_6]⟩
  · refine ev_iconst (v := 0) dX12_remember_9 (by decide) ?_
    refine ev_st (L' := [some (.ref 0), some (.ref 1), some (.int 0)]) dX12_remember_10 rfl rfl ?_
    have K := c_remL_1 (J := J) (R := R) (d := d) hu c_6 320 0 (by omega) (by omega)
    rw [m_shp_0, va_up_id] at K
    exact K
set_option maxHeartbeats 4000000 in
theorem c_remL_13 {I : Nat → Nat → Int32} {J : Nat → Nat → Int64} {R : Nat → Nat → Value} {d u : Nat} (hu : I 0 25 = nI u) (h12 : u = 12) : ∀ (z b : Nat), b ≤ 319 → 319 - b < z → Ev lyM (d + 1) hX12_remember 11 [some (.ref 0), some (.ref 13), some (.int (nI b))] [] (va_up I 12 (m_shp (I 12) b), J, R) (fun r M' => r = none ∧ M' = (ti_wr (va_up I 12 (m_rem (I 13) (I 12) u)) 0 25 (nI (m_u1 u)), J, R)) := by
  subst h12
  intro z
  induction z with
  | zero => intro b h1 h2; omega
  | succ z ih =>
      intro b hb hz
      refine ev_st dX12_remember_11 rfl rfl ?_
      refine ev_sipush (v := 319) dX12_remember_12 (by decide) ?_
      refine ev_ic_geN (t := 39) (a := b) (b := 319) dX12_remember_15 (by decide) rfl rfl (by omega) (by omega) (fun c_15 => ?_) (fun c_15 => ?_)
      · refine ev_st dX12_remember_39 rfl rfl ?_
        refine ev_st dX12_remember_40 rfl rfl ?_
        refine ev_getI (v := 12) dX12_remember_41 fr_12_147 rfl rfl (by rw [va_up_n (by decide), hu]; rfl) ?_
        refine ev_iconst (v := 1) dX12_remember_44 (by decide) ?_
        refine ev_st (st' := [.int 11, .ref 0]) dX12_remember_45 rfl (by rfl) ?_
        refine ev_putI dX12_remember_46 fr_12_147 rfl rfl ?_
        refine ev_st dX12_remember_49 rfl rfl ?_
        refine ev_st dX12_remember_50 rfl rfl ?_
        refine ev_getC dX12_remember_51 fr_12_49 rfl rfl ?_
        refine ev_bipush (v := 29) dX12_remember_54 (by decide) ?_
        refine ev_st dX12_remember_56 rfl rfl ?_
        refine ev_getI (v := 11) dX12_remember_57 fr_12_147 rfl rfl (by simp [ti_wr, va_up, upd]) ?_
        refine ev_imulN (a := 29) (b := 11) (c := 319) dX12_remember_60 rfl rfl rfl ?_
        refine ev_call dX12_remember_61 rfl rfl mr_12_257 rfl rfl rfl (c_lay_13_12 (I := ti_wr (va_up I 12 (m_shp (I 12) b)) 0 25 11) (k := 319) (by omega)) ?_
        rintro _ _ ⟨rfl, rfl⟩
        show Ev lyM (d + 1) hX12_remember 64 [some (.ref 0), some (.ref 13), some (.int (nI b))] [] (va_up (ti_wr (va_up I 12 (m_shp (I 12) b)) 0 25 11) 12 (m_lay ((ti_wr (va_up I 12 (m_shp (I 12) b)) 0 25 11) 13) ((ti_wr (va_up I 12 (m_shp (I 12) b)) 0 25 11) 12) 319 29), J, R) _
        refine ev_st dX12_remember_64 rfl rfl ?_
        refine ev_st dX12_remember_65 rfl rfl ?_
        refine ev_getI (v := 11) dX12_remember_66 fr_12_147 rfl rfl (by simp [ti_wr, va_up, upd]) ?_
        refine ev_iconst (v := 1) dX12_remember_69 (by decide) ?_
        refine ev_iaddN (a := 11) (b := 1) (c := 12) dX12_remember_70 rfl rfl rfl ?_
        refine ev_putI dX12_remember_71 fr_12_147 rfl rfl ?_
        refine ev_vret dX12_remember_74 rfl ⟨rfl, ?_⟩
        have hb9 : b = 319 := by omega
        subst hb9
        congr 1
        funext x y
        by_cases h0 : x = 0
        · subst h0; by_cases h25 : y = 25
          · subst h25; simp [ti_wr, va_up, upd, m_u1]
          · simp [ti_wr, va_up, upd, h25]
        · by_cases h12 : x = 12
          · subst h12; simp [ti_wr, va_up, upd, m_rem]
          · simp [ti_wr, va_up, upd, h0, h12]
      · refine ev_st dX12_remember_18 rfl rfl ?_
        refine ev_getC dX12_remember_19 fr_12_49 rfl rfl ?_
        refine ev_st dX12_remember_22 rfl rfl ?_
        refine ev_st dX12_remember_23 rfl rfl ?_
        refine ev_getC dX12_remember_24 fr_12_49 rfl rfl ?_
        refine ev_st dX12_remember_27 rfl rfl ?_
        refine ev_bipush (v := 29) dX12_remember_28 (by decide) ?_
        refine ev_iaddN (a := b) (b := 29) (c := b + 29) dX12_remember_30 rfl rfl rfl ?_
        refine ev_iald (j := b + 29) (v := I 12 (b + 29)) dX12_remember_31 rfl rfl (by omega) (by decide) (by rw [va_up_q]; simp only [m_shp, if_neg (show ¬ b + 29 < b by omega)]) ?_
        refine ev_iast (j := b) dX12_remember_32 rfl rfl (by omega) (by decide) ?_
        refine ev_iincN (a := b) (b := b + 1) (L' := [some (.ref 0), some (.ref 13), some (.int (nI (b + 1)))]) dX12_remember_33 rfl (nI_1 _) rfl ?_
        refine ev_goto (t := 11) dX12_remember_36 (by decide) ?_
        rw [ti_wr_up, m_shp_s]
        exact ih _ (by omega) (by omega)
set_option maxHeartbeats 4000000 in
theorem c_remember_13 {I : Nat → Nat → Int32} {J : Nat → Nat → Int64} {R : Nat → Nat → Value} {d u : Nat} (hu : I 0 25 = nI u) (hu12 : u ≤ 12) : Cal lyM (d + 1) hX12_remember 3 [.ref 0, .ref 13] (I, J, R) (fun r M' => r = none ∧ M' = (ti_wr (va_up I 12 (m_rem (I 13) (I 12) u)) 0 25 (nI (m_u1 u)), J, R)) := by
  show Ev lyM (d + 1) hX12_remember 0 [some (.ref 0), some (.ref 13), none] [] (I, J, R) _
  refine ev_st dX12_remember_0 rfl rfl ?_
  refine ev_getI (v := nI u) dX12_remember_1 fr_12_147 rfl rfl hu ?_
  refine ev_bipush (v := 12) dX12_remember_4 (by decide) ?_
  refine ev_ic_neN (t := 49) (a := u) (b := 12) dX12_remember_6 (by decide) rfl rfl (by omega) (by omega) (fun c_6 => ?_) (fun c_6 => ?_)
  · refine ev_st dX12_remember_49 rfl rfl ?_
    refine ev_st dX12_remember_50 rfl rfl ?_
    refine ev_getC dX12_remember_51 fr_12_49 rfl rfl ?_
    refine ev_bipush (v := 29) dX12_remember_54 (by decide) ?_
    refine ev_st dX12_remember_56 rfl rfl ?_
    refine ev_getI (v := nI u) dX12_remember_57 fr_12_147 rfl rfl hu ?_
    refine ev_imulN (a := 29) (b := u) (c := 29 * u) dX12_remember_60 rfl rfl rfl ?_
    refine ev_call dX12_remember_61 rfl rfl mr_12_257 rfl rfl rfl (c_lay_13_12 (I := I) (k := 29 * u) (by omega)) ?_
    rintro _ _ ⟨rfl, rfl⟩
    show Ev lyM (d + 1) hX12_remember 64 [some (.ref 0), some (.ref 13), none] [] (va_up I 12 (m_lay (I 13) (I 12) (29 * u) 29), J, R) _
    refine ev_st dX12_remember_64 rfl rfl ?_
    refine ev_st dX12_remember_65 rfl rfl ?_
    refine ev_getI (v := nI u) dX12_remember_66 fr_12_147 rfl rfl (by rw [va_up_n (by decide)]; exact hu) ?_
    refine ev_iconst (v := 1) dX12_remember_69 (by decide) ?_
    refine ev_iaddN (a := u) (b := 1) (c := u + 1) dX12_remember_70 rfl rfl rfl ?_
    refine ev_putI dX12_remember_71 fr_12_147 rfl rfl ?_
    exact ev_vret dX12_remember_74 rfl ⟨rfl, by simp [m_rem, m_u1, c_6]⟩
  · refine ev_iconst (v := 0) dX12_remember_9 (by decide) ?_
    refine ev_st (L' := [some (.ref 0), some (.ref 13), some (.int 0)]) dX12_remember_10 rfl rfl ?_
    have K := c_remL_13 (J := J) (R := R) (d := d) hu c_6 320 0 (by omega) (by omega)
    rw [m_shp_0, va_up_id] at K
    exact K
