/-! texts: numbers read by the model; its beginnings and ends -/
theorem c_numE {I : Nat → Nat → Int32} {J : Nat → Nat → Int64} {R : Nat → Nat → Value} {rp : Nat} {t : Nat → Nat} {d E N T e m : Nat} (hR : mR rp I R t E N T (false, e)) (hm1 : 1 ≤ m) (hm3 : m ≤ 3) : Cal lyM (d + 3) hX12_number 4 [.ref 0, .int (nI m)] (I, J, R) (fun r M' => r = some (.int 0) ∧ M' = (I, J, R)) := by
  show Ev lyM (d + 3) hX12_number 0 [some (.ref 0), some (.int (nI m)), none, none] [] (I, J, R) _
  refine ev_st dX12_number_0 rfl rfl ?_
  refine ev_bipush (v := 48) dX12_number_1 (by decide) ?_
  refine ev_bipush (v := 10) dX12_number_3 (by decide) ?_
  refine ev_call dX12_number_5 rfl rfl mr_12_143 rfl rfl rfl (c_oneE hR) ?_
  rintro _ _ ⟨rfl, rfl⟩
  show Ev lyM (d + 3) hX12_number 8 [some (.ref 0), some (.int (nI m)), none, none] [.int 0] (I, J, R) _
  refine ev_st (L' := [some (.ref 0), some (.int (nI m)), some (.int 0), none]) dX12_number_8 rfl rfl ?_
  refine ev_iconst (v := 1) dX12_number_9 (by decide) ?_
  refine ev_st (L' := [some (.ref 0), some (.int (nI m)), some (.int 0), some (.int 1)]) dX12_number_10 rfl rfl ?_
  refine ev_st dX12_number_11 rfl rfl ?_
  refine ev_st dX12_number_12 rfl rfl ?_
  refine ev_ic_geN (t := 57) (a := 1) (b := m) dX12_number_13 (by decide) rfl rfl (by omega) (by omega) (fun c_13 => ?_) (fun c_13 => ?_)
  · refine ev_st dX12_number_57 rfl rfl ?_
    exact ev_iret dX12_number_58 rfl (⟨rfl, rfl⟩)
  · refine ev_st dX12_number_16 rfl rfl ?_
    refine ev_call dX12_number_17 rfl rfl mr_12_127 rfl rfl rfl (c_fineE hR) ?_
    rintro _ _ ⟨rfl, rfl⟩
    show Ev lyM (d + 3) hX12_number 20 [some (.ref 0), some (.int (nI m)), some (.int 0), some (.int 1)] [.int 0] (I, J, R) _
    refine ev_if_eq (t := 57) dX12_number_20 (by decide) (fun _ => ?_) (fun q => absurd q (by decide))
    refine ev_st dX12_number_57 rfl rfl ?_
    exact ev_iret dX12_number_58 rfl (⟨rfl, rfl⟩)
theorem one_dig {t : Nat → Nat} {E a : Nat} (h : a < E ∧ 48 ≤ t a ∧ t a ≤ 57) : sOne t E 48 10 (true, a) = (t a - 48, (true, a + 1)) := by
  rw [sOne, if_pos rfl, if_pos (show a < E ∧ 48 ≤ t a ∧ t a < 48 + 10 from ⟨h.1, h.2.1, by have := h.2.2; omega⟩)]
theorem one_nod {t : Nat → Nat} {E a : Nat} (h : ¬ (a < E ∧ 48 ≤ t a ∧ t a ≤ 57)) : sOne t E 48 10 (true, a) = (0, (false, a)) := by
  rw [sOne, if_pos rfl, if_neg (show ¬ (a < E ∧ 48 ≤ t a ∧ t a < 48 + 10) from fun q => h ⟨q.1, q.2.1, by have := q.2.2; omega⟩)]
theorem num_ok {t : Nat → Nat} {E m a v a2 : Nat} (hr : sdig t E m 0 a = (v, a2)) (h : ¬ a2 = a) (hv : v < 1000) : sNum t E m 0 999 (true, a) = (v, (true, a2)) := by
  rw [sNum, if_pos rfl, hr, if_neg (show ¬ (v, a2).2 = (true, a).2 from h), if_neg (show ¬ ((v, a2).1 < 0 ∨ 999 < (v, a2).1) by simp; omega)]
theorem num_no {t : Nat → Nat} {E m a : Nat} (h : ¬ (a < E ∧ 48 ≤ t a ∧ t a ≤ 57)) : sNum t E m 0 999 (true, a) = (0, (false, a)) := by
  rw [sNum, if_pos rfl, sdig_n h, if_pos rfl]
set_option maxHeartbeats 1000000 in
theorem c_numF {I : Nat → Nat → Int32} {J : Nat → Nat → Int64} {R : Nat → Nat → Value} {rp : Nat} {t : Nat → Nat} {d E N T a m : Nat} (hR : mR rp I R t E N T (true, a)) (hm1 : 1 ≤ m) (hm3 : m ≤ 3) : Cal lyM (d + 3) hX12_number 4 [.ref 0, .int (nI m)] (I, J, R) (fun r M' => r = some (.int (nI (sNum t E m 0 999 (true, a)).1)) ∧ ∃ I3, M' = (I3, J, R) ∧ rF I I3 ∧ mR rp I3 R t E N T (sNum t E m 0 999 (true, a)).2) := by
  have loop : ∀ (k b v a2 : Nat) (I2 : Nat → Nat → Int32), 1 ≤ b → b ≤ m → m - b < k → a2 = a + b → v < 10 ^ b → rF I I2 → mR rp I2 R t E N T (true, a2) → sdig t E (m - b) v a2 = sdig t E m 0 a → Ev lyM (d + 3) hX12_number 11 [some (.ref 0), some (.int (nI m)), some (.int (nI v)), some (.int (nI b))] [] (I2, J, R) (fun r M' => r = some (.int (nI (sNum t E m 0 999 (true, a)).1)) ∧ ∃ I3, M' = (I3, J, R) ∧ rF I I3 ∧ mR rp I3 R t E N T (sNum t E m 0 999 (true, a)).2) := by
    intro k
    induction k with
    | zero => intro b v a2 I2 h0 h1 h2; omega
    | succ k ih =>
      intro b v a2 I2 hb1 hb hk ha2 hv hx2 hR2 hT
      have hv3 : v < 1000 := Nat.lt_of_lt_of_le hv (Nat.pow_le_pow_right (by decide) (show b ≤ 3 by omega) : 10 ^ b ≤ 10 ^ 3)
      refine ev_st dX12_number_11 rfl rfl ?_
      refine ev_st dX12_number_12 rfl rfl ?_
      refine ev_ic_geN (t := 57) (a := b) (b := m) dX12_number_13 (by decide) rfl rfl (by omega) (by omega) (fun c_13 => ?_) (fun c_13 => ?_)
      · refine ev_st dX12_number_57 rfl rfl ?_
        exact ev_iret dX12_number_58 rfl (by rw [num_ok (v := v) (a2 := a2) (by rw [← hT, show m - b = 0 by omega, sdig]) (by omega) (by omega)]; exact ⟨rfl, _, rfl, hx2, hR2⟩)
      · refine ev_st dX12_number_16 rfl rfl ?_
        refine ev_call dX12_number_17 rfl rfl mr_12_127 rfl rfl rfl (c_fineF hR2) ?_
        rintro _ _ ⟨rfl, rfl⟩
        show Ev lyM (d + 3) hX12_number 20 [some (.ref 0), some (.int (nI m)), some (.int (nI v)), some (.int (nI b))] [.int 1] (I2, J, R) _
        refine ev_if_eq (t := 57) dX12_number_20 (by decide) (fun q => absurd q (by decide)) (fun _ => ?_)
        refine ev_st dX12_number_23 rfl rfl ?_
        refine ev_call dX12_number_24 rfl rfl mr_12_131 rfl rfl rfl (c_here hR2) ?_
        rintro _ _ ⟨rfl, rfl⟩
        show Ev lyM (d + 3) hX12_number 27 [some (.ref 0), some (.int (nI m)), some (.int (nI v)), some (.int (nI b))] [.int (pk t E (true, a2))] (I2, J, R) _
        refine ev_bipush (v := 48) dX12_number_27 (by decide) ?_
        refine ev_bipush (v := 57) dX12_number_29 (by decide) ?_
        refine ev_call dX12_number_31 rfl rfl mr_12_98 rfl rfl rfl (c_inP hR2.t (by decide) (by decide)) ?_
        rintro _ _ ⟨rfl, rfl⟩
        show Ev lyM (d + 3) hX12_number 34 [some (.ref 0), some (.int (nI m)), some (.int (nI v)), some (.int (nI b))] [.int (if a2 < E ∧ 48 ≤ t a2 ∧ t a2 ≤ 57 then 1 else 0)] (I2, J, R) _
        refine ev_if_eq (t := 57) (x := if a2 < E ∧ 48 ≤ t a2 ∧ t a2 ≤ 57 then 1 else 0) dX12_number_34 (by decide) (fun c_34 => ?_) (fun c_34 => ?_)
        · refine ev_st dX12_number_57 rfl rfl ?_
          exact ev_iret dX12_number_58 rfl (by rw [num_ok (v := v) (a2 := a2) (by rw [← hT, sdig_n (if01n c_34)]) (by omega) (by omega)]; exact ⟨rfl, _, rfl, hx2, hR2⟩)
        · refine ev_bipush (v := 10) dX12_number_37 (by decide) ?_
          refine ev_st dX12_number_39 rfl rfl ?_
          refine ev_imulN (a := 10) (b := v) (c := 10 * v) dX12_number_40 rfl rfl rfl ?_
          refine ev_st dX12_number_41 rfl rfl ?_
          refine ev_bipush (v := 48) dX12_number_42 (by decide) ?_
          refine ev_bipush (v := 10) dX12_number_44 (by decide) ?_
          refine ev_call dX12_number_46 rfl rfl mr_12_143 rfl rfl rfl ((c_one (f := 48) (m := 10) hR2 (by decide) (by decide))) ?_
          rintro _ _ ⟨e1, I3, rfl, hx3, hR3⟩
          rw [one_dig (if01 c_34)] at e1 hR3
          subst e1
          show Ev lyM (d + 3) hX12_number 49 [some (.ref 0), some (.int (nI m)), some (.int (nI v)), some (.int (nI b))] [.int (nI (t a2 - 48)), .int (nI (10 * v))] (I3, J, R) _
          refine ev_iaddN (a := 10 * v) (b := t a2 - 48) (c := 10 * v + (t a2 - 48)) dX12_number_49 rfl rfl rfl ?_
          refine ev_st (L' := [some (.ref 0), some (.int (nI m)), some (.int (nI (10 * v + (t a2 - 48)))), some (.int (nI b))]) dX12_number_50 rfl rfl ?_
          refine ev_iincN (a := b) (b := b + 1) (L' := [some (.ref 0), some (.int (nI m)), some (.int (nI (10 * v + (t a2 - 48)))), some (.int (nI (b + 1)))]) dX12_number_51 rfl (nI_1 _) rfl ?_
          refine ev_goto (t := 11) dX12_number_54 (by decide) ?_
          have hd := if01 c_34
          exact ih _ _ _ _ (by omega) (by omega) (by omega) (by omega) (by have := hd.2.2; rw [Nat.pow_succ]; omega) (hx2.tr hx3) hR3 (by rw [← hT, show m - b = (m - (b + 1)) + 1 by omega, sdig_s hd, Nat.mul_comm 10 v])
  by_cases hd : a < E ∧ 48 ≤ t a ∧ t a ≤ 57
  · show Ev lyM (d + 3) hX12_number 0 [some (.ref 0), some (.int (nI m)), none, none] [] (I, J, R) _
    refine ev_st dX12_number_0 rfl rfl ?_
    refine ev_bipush (v := 48) dX12_number_1 (by decide) ?_
    refine ev_bipush (v := 10) dX12_number_3 (by decide) ?_
    refine ev_call dX12_number_5 rfl rfl mr_12_143 rfl rfl rfl ((c_one (f := 48) (m := 10) hR (by decide) (by decide))) ?_
    rintro _ _ ⟨e1, I2, rfl, hx2, hR2⟩
    rw [one_dig hd] at e1 hR2
    subst e1
    show Ev lyM (d + 3) hX12_number 8 [some (.ref 0), some (.int (nI m)), none, none] [.int (nI (t a - 48))] (I2, J, R) _
    refine ev_st (L' := [some (.ref 0), some (.int (nI m)), some (.int (nI (t a - 48))), none]) dX12_number_8 rfl rfl ?_
    refine ev_iconst (v := 1) dX12_number_9 (by decide) ?_
    refine ev_st (L' := [some (.ref 0), some (.int (nI m)), some (.int (nI (t a - 48))), some (.int 1)]) dX12_number_10 rfl rfl ?_
    exact loop (m + 1) 1 (t a - 48) (a + 1) I2 (by omega) (by omega) (by omega) (by omega) (by have := hd.2.2; omega) hx2 hR2 (by rw [show m = (m - 1) + 1 by omega, sdig_s hd]; simp)
  · show Ev lyM (d + 3) hX12_number 0 [some (.ref 0), some (.int (nI m)), none, none] [] (I, J, R) _
    refine ev_st dX12_number_0 rfl rfl ?_
    refine ev_bipush (v := 48) dX12_number_1 (by decide) ?_
    refine ev_bipush (v := 10) dX12_number_3 (by decide) ?_
    refine ev_call dX12_number_5 rfl rfl mr_12_143 rfl rfl rfl ((c_one (f := 48) (m := 10) hR (by decide) (by decide))) ?_
    rintro _ _ ⟨e1, I2, rfl, hx2, hR2⟩
    rw [one_nod hd] at e1 hR2
    subst e1
    show Ev lyM (d + 3) hX12_number 8 [some (.ref 0), some (.int (nI m)), none, none] [.int 0] (I2, J, R) _
    refine ev_st (L' := [some (.ref 0), some (.int (nI m)), some (.int 0), none]) dX12_number_8 rfl rfl ?_
    refine ev_iconst (v := 1) dX12_number_9 (by decide) ?_
    refine ev_st (L' := [some (.ref 0), some (.int (nI m)), some (.int 0), some (.int 1)]) dX12_number_10 rfl rfl ?_
    refine ev_st dX12_number_11 rfl rfl ?_
    refine ev_st dX12_number_12 rfl rfl ?_
    refine ev_ic_geN (t := 57) (a := 1) (b := m) dX12_number_13 (by decide) rfl rfl (by omega) (by omega) (fun c_13 => ?_) (fun c_13 => ?_)
    · refine ev_st dX12_number_57 rfl rfl ?_
      exact ev_iret dX12_number_58 rfl (by rw [num_no hd]; exact ⟨rfl, _, rfl, hx2, hR2⟩)
    · refine ev_st dX12_number_16 rfl rfl ?_
      refine ev_call dX12_number_17 rfl rfl mr_12_127 rfl rfl rfl (c_fineE hR2) ?_
      rintro _ _ ⟨rfl, rfl⟩
      show Ev lyM (d + 3) hX12_number 20 [some (.ref 0), some (.int (nI m)), some (.int 0), some (.int 1)] [.int 0] (I2, J, R) _
      refine ev_if_eq (t := 57) dX12_number_20 (by decide) (fun _ => ?_) (fun q => absurd q (by decide))
      refine ev_st dX12_number_57 rfl rfl ?_
      exact ev_iret dX12_number_58 rfl (by rw [num_no hd]; exact ⟨rfl, _, rfl, hx2, hR2⟩)
theorem c_num {I : Nat → Nat → Int32} {J : Nat → Nat → Int64} {R : Nat → Nat → Value} {rp : Nat} {t : Nat → Nat} {d E N T m : Nat} {s : PS} (hR : mR rp I R t E N T s) (hm1 : 1 ≤ m) (hm3 : m ≤ 3) : Cal lyM (d + 3) hX12_number 4 [.ref 0, .int (nI m)] (I, J, R) (fun r M' => r = some (.int (nI (sNum t E m 0 999 s).1)) ∧ ∃ I3, M' = (I3, J, R) ∧ rF I I3 ∧ mR rp I3 R t E N T (sNum t E m 0 999 s).2) := by
  obtain ⟨b, a⟩ := s
  cases b
  · rw [show sNum t E m 0 999 (false, a) = (0, (false, a)) by rw [sNum, if_neg (by simp)]]
    exact (c_numE hR hm1 hm3).imp (fun r M' ⟨e1, e2⟩ => ⟨e1, _, e2, rF.rf, hR⟩)
  · exact c_numF hR hm1 hm3
theorem sdig_le {t : Nat → Nat} {E : Nat} : ∀ m v a, a ≤ (sdig t E m v a).2 ∧ (a ≤ E → (sdig t E m v a).2 ≤ E)
  | 0, v, a => ⟨Nat.le_refl _, fun h => h⟩
  | m + 1, v, a => by
    rw [sdig]
    split
    · next h =>
      have ih := sdig_le (t := t) (E := E) m (v * 10 + (t a - 48)) (a + 1)
      exact ⟨by omega, fun _ => ih.2 h.1⟩
    · exact ⟨Nat.le_refl _, fun h => h⟩
theorem sdig_v {t : Nat → Nat} {E : Nat} : ∀ m v a, (sdig t E m v a).1 < (v + 1) * 10 ^ m
  | 0, v, a => by show v < (v + 1) * 1; omega
  | m + 1, v, a => by
    rw [sdig]
    split
    · next h =>
      have ih := sdig_v (t := t) (E := E) m (v * 10 + (t a - 48)) (a + 1)
      refine Nat.lt_of_lt_of_le ih ?_
      rw [Nat.pow_succ, Nat.mul_comm (10 ^ m) 10, ← Nat.mul_assoc]
      exact Nat.mul_le_mul_right _ (by have := h.2.2; omega)
    · show v < (v + 1) * 10 ^ (m + 1)
      have : 1 ≤ 10 ^ (m + 1) := Nat.pow_pos (by decide)
      exact Nat.lt_of_lt_of_le (Nat.lt_succ_self v) (Nat.le_mul_of_pos_right _ this)
/-- a number of wide bounds, then bounds -/
theorem num_bd {t : Nat → Nat} {E m lo hi : Nat} {s : PS} (hm : m ≤ 2) (hhi : hi ≤ 999) : sNum t E m lo hi s = if (sNum t E m 0 999 s).2.1 = true ∧ ((sNum t E m 0 999 s).1 < lo ∨ hi < (sNum t E m 0 999 s).1) then ((sNum t E m 0 999 s).1, (false, (sNum t E m 0 999 s).2.2 - 1)) else sNum t E m 0 999 s := by
  unfold sNum
  by_cases h : s.1 = true
  · simp only [if_pos h]
    have hv := sdig_v (t := t) (E := E) m 0 s.2
    have h100 : 10 ^ m ≤ 100 := Nat.le_trans (Nat.pow_le_pow_right (by decide) hm) (by decide)
    by_cases e : (sdig t E m 0 s.2).2 = s.2
    · simp only [if_pos e]
      rw [if_neg (fun q => by cases q.1)]
    · simp only [if_neg e]
      rw [if_neg (show ¬ ((sdig t E m 0 s.2).1 < 0 ∨ 999 < (sdig t E m 0 s.2).1) by omega)]
      by_cases q : (sdig t E m 0 s.2).1 < lo ∨ hi < (sdig t E m 0 s.2).1
      · rw [if_pos q, if_pos ⟨rfl, q⟩]
      · rw [if_neg q, if_neg (fun z => q z.2)]
  · simp only [if_neg h]
    rw [if_neg (fun q => h q.1)]
theorem in1_iff {v hi : Nat} (hv : v < 1000) (hh : hi ≤ 999) : m_in (nI v) 1 (nI hi) = if v < 1 ∨ hi < v then 0 else 1 := by
  unfold m_in
  rw [show (1 : Int32) = nI 1 from rfl]
  by_cases h1 : v < 1
  · rw [if_pos ((nI_ltI (by omega) (by decide)).mpr h1), if_pos (Or.inl h1)]
  · rw [if_neg (fun q => h1 ((nI_ltI (by omega) (by decide)).mp q))]
    by_cases h2 : hi < v
    · rw [if_pos ((nI_ltI (by omega) (by omega)).mpr h2), if_pos (Or.inr h2)]
    · rw [if_neg (fun q => h2 ((nI_ltI (by omega) (by omega)).mp q)), if_neg (by omega)]
theorem bd_bad {t : Nat → Nat} {E hi g : Nat} {s : PS} (h1 : (sNum t E 2 0 999 s).2.1 = true) (h2 : m_in (nI (sNum t E 2 0 999 s).1) 1 (nI hi) = 0) (hg : (sNum t E 2 0 999 s).2.1 = true → g = (sNum t E 2 0 999 s).2.2) (hv : (sNum t E 2 0 999 s).1 < 1000) (hh : hi ≤ 999) : sNum t E 2 1 hi s = ((sNum t E 2 0 999 s).1, (false, (sNum t E 2 0 999 s).2.2 - 1)) := by
  rw [in1_iff hv hh] at h2
  have q : (sNum t E 2 0 999 s).1 < 1 ∨ hi < (sNum t E 2 0 999 s).1 := by
    by_cases q : (sNum t E 2 0 999 s).1 < 1 ∨ hi < (sNum t E 2 0 999 s).1
    · exact q
    · rw [if_neg q] at h2; exact absurd h2 (by decide)
  rw [num_bd (by decide) hh, if_pos ⟨h1, q⟩]
theorem bd_ok {t : Nat → Nat} {E hi : Nat} {s : PS} (h : (sNum t E 2 0 999 s).2.1 = false ∨ ¬ m_in (nI (sNum t E 2 0 999 s).1) 1 (nI hi) = 0) (hv : (sNum t E 2 0 999 s).1 < 1000) (hh : hi ≤ 999) : sNum t E 2 1 hi s = sNum t E 2 0 999 s := by
  rw [num_bd (by decide) hh, if_neg]
  rintro ⟨q1, q2⟩
  rcases h with h | h
  · rw [h] at q1; cases q1
  · rw [in1_iff hv hh, if_pos q2] at h; exact h rfl
theorem num_v {t : Nat → Nat} {E m lo hi : Nat} {s : PS} (hm : m ≤ 3) : (sNum t E m lo hi s).1 < 1000 := by
  have hv := sdig_v (t := t) (E := E) m 0 s.2
  have h100 : 10 ^ m ≤ 1000 := Nat.le_trans (Nat.pow_le_pow_right (by decide) hm) (by decide)
  unfold sNum
  split
  · split
    · show 0 < 1000; decide
    · split
      · show (sdig t E m 0 s.2).1 < 1000; omega
      · show (sdig t E m 0 s.2).1 < 1000; omega
  · show 0 < 1000; decide
theorem num_at {rp : Nat} {I : Nat → Nat → Int32} {R : Nat → Nat → Value} {t : Nat → Nat} {E N T m lo hi : Nat} {s s2 : PS} (h : mR rp I R t E N T s2) (h1 : s2.1 = true) (e : s2 = (sNum t E m lo hi s).2) : 1 ≤ s2.2 := by
  subst e
  unfold sNum at h1 ⊢
  split at h1
  · next q =>
    rw [if_pos q]
    have := (sdig_le (t := t) (E := E) m 0 s.2).1
    split at h1
    · cases h1
    · next q2 =>
      rw [if_neg q2]
      split at h1
      · cases h1
      · next q3 => rw [if_neg q3]; show 1 ≤ (sdig t E m 0 s.2).2; omega
  · next q => exact absurd h1 q
set_option maxHeartbeats 1000000 in
theorem c_bounded {I : Nat → Nat → Int32} {J : Nat → Nat → Int64} {R : Nat → Nat → Value} {rp : Nat} {t : Nat → Nat} {d E N T hi : Nat} {s : PS} (hR : mR rp I R t E N T s) (hhi : hi ≤ 999) : Cal lyM (d + 4) hX12_bounded 3 [.ref 0, .int (nI hi)] (I, J, R) (fun r M' => r = some (.int (nI (sNum t E 2 1 hi s).1)) ∧ ∃ I3, M' = (I3, J, R) ∧ rF I I3 ∧ mR rp I3 R t E N T (sNum t E 2 1 hi s).2) := by
  have hv9 : (sNum t E 2 0 999 s).1 < 1000 := num_v (by decide)
  show Ev lyM (d + 4) hX12_bounded 0 [some (.ref 0), some (.int (nI hi)), none] [] (I, J, R) _
  refine ev_st dX12_bounded_0 rfl rfl ?_
  refine ev_iconst (v := 2) dX12_bounded_1 (by decide) ?_
  refine ev_call dX12_bounded_2 rfl rfl mr_12_162 rfl rfl rfl (c_num hR (by decide) (by decide)) ?_
  rintro _ _ ⟨rfl, I2, rfl, hx2, hR2⟩
  obtain ⟨g, hg, hgE, hgs⟩ := hR2.g
  show Ev lyM (d + 4) hX12_bounded 5 [some (.ref 0), some (.int (nI hi)), none] [.int (nI ((sNum t E 2 0 999 s).1))] (I2, J, R) _
  refine ev_st (L' := [some (.ref 0), some (.int (nI hi)), some (.int (nI ((sNum t E 2 0 999 s).1)))]) dX12_bounded_5 rfl rfl ?_
  refine ev_st dX12_bounded_6 rfl rfl ?_
  refine ev_call dX12_bounded_7 rfl rfl mr_12_127 rfl rfl rfl (c_fine hR2) ?_
  rintro _ _ ⟨rfl, rfl⟩
  show Ev lyM (d + 4) hX12_bounded 10 [some (.ref 0), some (.int (nI hi)), some (.int (nI ((sNum t E 2 0 999 s).1)))] [.int (b2i (sNum t E 2 0 999 s).2.1)] (I2, J, R) _
  refine ev_if_eq (t := 32) (x := b2i (sNum t E 2 0 999 s).2.1) dX12_bounded_10 (by decide) (fun c_10 => ?_) (fun c_10 => ?_)
  · refine ev_st dX12_bounded_32 rfl rfl ?_
    exact ev_iret dX12_bounded_33 rfl (by rw [bd_ok (Or.inl (b2i0.mp c_10)) hv9 hhi]; exact ⟨rfl, _, rfl, hx2, hR2⟩)
  · refine ev_st dX12_bounded_13 rfl rfl ?_
    refine ev_iconst (v := 1) dX12_bounded_14 (by decide) ?_
    refine ev_st dX12_bounded_15 rfl rfl ?_
    refine ev_call dX12_bounded_16 rfl rfl mr_12_98 rfl rfl rfl (c_in _ _ _) ?_
    rintro _ _ ⟨rfl, rfl⟩
    show Ev lyM (d + 4) hX12_bounded 19 [some (.ref 0), some (.int (nI hi)), some (.int (nI ((sNum t E 2 0 999 s).1)))] [.int (m_in (nI (sNum t E 2 0 999 s).1) 1 (nI hi))] (I2, J, R) _
    refine ev_if_ne (t := 32) (x := m_in (nI (sNum t E 2 0 999 s).1) 1 (nI hi)) dX12_bounded_19 (by decide) (fun c_19 => ?_) (fun c_19 => ?_)
    · refine ev_st dX12_bounded_32 rfl rfl ?_
      exact ev_iret dX12_bounded_33 rfl (by rw [bd_ok (Or.inr c_19) hv9 hhi]; exact ⟨rfl, _, rfl, hx2, hR2⟩)
    · refine ev_st dX12_bounded_22 rfl rfl ?_
      refine ev_st dX12_bounded_23 rfl rfl ?_
      refine ev_getI (v := nI g) dX12_bounded_24 fr_12_117 rfl rfl hg ?_
      refine ev_iconst (v := 1) dX12_bounded_27 (by decide) ?_
      refine ev_isubN (a := g) (b := 1) (c := g - 1) dX12_bounded_28 rfl rfl (by have := num_at hR2 (b2i_ne c_10) rfl; rw [hgs (b2i_ne c_10)]; exact this) rfl ?_
      refine ev_call dX12_bounded_29 rfl rfl mr_12_139 rfl rfl rfl (c_fault hR2 (e := g - 1) (by omega)) ?_
      rintro _ _ ⟨rfl, I3, rfl, hx3, hR3⟩
      show Ev lyM (d + 4) hX12_bounded 32 [some (.ref 0), some (.int (nI hi)), some (.int (nI ((sNum t E 2 0 999 s).1)))] [] (I3, J, R) _
      refine ev_st dX12_bounded_32 rfl rfl ?_
      exact ev_iret dX12_bounded_33 rfl (by rw [bd_bad (b2i_ne c_10) c_19 hgs hv9 hhi]; exact ⟨rfl, _, rfl, hx2.tr hx3, by rw [if_pos (b2i_ne c_10), hgs (b2i_ne c_10)] at hR3; exact hR3⟩)
