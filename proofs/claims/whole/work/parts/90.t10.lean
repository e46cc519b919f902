/-! texts: bearers: the calls of both -/
theorem bEnd_8 {t : Nat → Nat} {E m n : Nat} (h : bEnd t E m n) (hok : (lS t E m n (bS t E m n)).1 = true) : m + n < 8 := by
  unfold lS at hok
  split at hok
  · cases hok
  · omega
theorem bEnd_9 {t : Nat → Nat} {E m n : Nat} (h : bEnd t E m n) : n ≤ 8 := by
  by_cases q : n = 0
  · omega
  · have := more_m (h.2 (n - 1) (by omega)); omega
theorem sFin_f {N : Nat} {s : PS} (h : (sFin N s).1 = true) : s.1 = true ∧ sFin N s = s := by
  unfold sFin at h ⊢
  split at h
  · next q =>
    split at h
    · cases h
    · next q2 => exact ⟨q, by rw [if_pos q, if_neg q2]⟩
  · next q => exact absurd h q
theorem k_bearersE {I : Nat → Nat → Int32} {J : Nat → Nat → Int64} {R : Nat → Nat → Value} {t : Nat → Nat} {d : Nat} (hT : cT I t 0) : Cal lyC (d + 5) hX11_bearers 3 [.ref 0] (I, J, R) (fun r M' => r = some (.int 0) ∧ M' = (I, J, R)) := by
  show Ev lyC (d + 5) hX11_bearers 0 [some (.ref 0), none, none] [] (I, J, R) _
  refine ev_st dX11_bearers_0 rfl rfl ?_
  refine ev_getC dX11_bearers_1 fr_11_10 rfl rfl ?_
  refine ev_call dX11_bearers_4 rfl rfl mr_11_127 rfl rfl rfl ((by have K := k_X9_size (I := I) (J := J) (R := R) (d := d + 4); rw [hT.1] at K; exact K)) ?_
  rintro _ _ ⟨rfl, rfl⟩
  show Ev lyC (d + 5) hX11_bearers 7 [some (.ref 0), none, none] [.int 0] (I, J, R) _
  refine ev_if_ne (t := 12) dX11_bearers_7 (by decide) (fun q => absurd q (by decide)) (fun _ => ?_)
  refine ev_iconst (v := 0) dX11_bearers_10 (by decide) ?_
  exact ev_iret dX11_bearers_11 rfl (⟨rfl, rfl⟩)
set_option maxHeartbeats 1000000 in
theorem k_bearers0 {I : Nat → Nat → Int32} {J : Nat → Nat → Int64} {R : Nat → Nat → Value} {t : Nat → Nat} {d N m n : Nat} (hT : cT I t N) (hN : 0 < N) (hm0 : I 8 3 = nI m) (hm8 : m ≤ 8) (hw : bEnd t (min N 48) m n) (hok : ¬ (sFin N (lS t (min N 48) m n (bS t (min N 48) m n))).1 = true) : Cal lyC (d + 5) hX11_bearers 3 [.ref 0] (I, J, R) (fun r M' => r = some (.int (-1 - nI (sFin N (lS t (min N 48) m n (bS t (min N 48) m n))).2)) ∧ ∃ I3, M' = (I3, J, R) ∧ (∀ p, p ≠ 1 → p ≠ 9 → p ≠ 10 → I3 p = I p) ∧ I3 1 1 = 0 ∧ (∀ k, k < m → I3 9 k = I 9 k ∧ I3 10 k = I 10 k)) := by
  have hn8 := bEnd_9 hw
  have hN80 := hT.2.1
  show Ev lyC (d + 5) hX11_bearers 0 [some (.ref 0), none, none] [] (I, J, R) _
  refine ev_st dX11_bearers_0 rfl rfl ?_
  refine ev_getC dX11_bearers_1 fr_11_10 rfl rfl ?_
  refine ev_call dX11_bearers_4 rfl rfl mr_11_127 rfl rfl rfl ((by have K := k_X9_size (I := I) (J := J) (R := R) (d := d + 4); rw [hT.1] at K; exact K)) ?_
  rintro _ _ ⟨rfl, rfl⟩
  show Ev lyC (d + 5) hX11_bearers 7 [some (.ref 0), none, none] [.int (nI N)] (I, J, R) _
  refine ev_if_neN (t := 12) (a := N) dX11_bearers_7 (by decide) rfl (by omega) (fun c_7 => ?_) (fun c_7 => ?_)
  · refine ev_st dX11_bearers_12 rfl rfl ?_
    refine ev_getC dX11_bearers_13 fr_11_35 rfl rfl ?_
    refine ev_st dX11_bearers_16 rfl rfl ?_
    refine ev_getC dX11_bearers_17 fr_11_10 rfl rfl ?_
    refine ev_call dX11_bearers_20 rfl rfl mr_11_131 rfl rfl rfl (k_readLines hT hm0 hm8) ?_
    rintro _ _ ⟨n2, I2, hw2, e1, rfl, hx, hk9, hn9, hR2⟩
    obtain rfl := bEnd_u hw hw2
    subst e1
    have hf9 := sFin_le (N := N) hR2.2.2.2.2.2.1
    show Ev lyC (d + 5) hX11_bearers 23 [some (.ref 0), none, none] [.int (nI (n + 1))] (I2, J, R) _
    refine ev_st (L' := [some (.ref 0), some (.int (nI (n + 1))), none]) dX11_bearers_23 rfl rfl ?_
    refine ev_st dX11_bearers_24 rfl rfl ?_
    refine ev_getC dX11_bearers_25 fr_11_10 rfl rfl ?_
    refine ev_call dX11_bearers_28 rfl rfl mr_11_134 rfl rfl rfl (k_close hR2) ?_
    rintro _ _ ⟨e1, rfl⟩
    rw [if_neg hok] at e1
    subst e1
    show Ev lyC (d + 5) hX11_bearers 31 [some (.ref 0), some (.int (nI (n + 1))), none] [.int (nI ((sFin N (lS t (min N 48) m n (bS t (min N 48) m n))).2))] (ti_wr I2 1 1 0, J, R) _
    refine ev_st (L' := [some (.ref 0), some (.int (nI (n + 1))), some (.int (nI ((sFin N (lS t (min N 48) m n (bS t (min N 48) m n))).2)))]) dX11_bearers_31 rfl rfl ?_
    refine ev_st dX11_bearers_32 rfl rfl ?_
    refine ev_if_ltN (t := 40) (a := (sFin N (lS t (min N 48) m n (bS t (min N 48) m n))).2) dX11_bearers_33 (by decide) rfl (by omega) ?_
    refine ev_iconst (v := -1) dX11_bearers_36 (by decide) ?_
    refine ev_st dX11_bearers_37 rfl rfl ?_
    refine ev_st dX11_bearers_38 rfl rfl ?_
    exact ev_iret dX11_bearers_39 rfl (⟨rfl, _, rfl, fun p a b c => by rw [ti_wr_n a]; exact hx p a b c, rfl, fun k hk => by rw [ti_wr_n (by decide), ti_wr_n (by decide)]; exact hk9 k hk⟩)
  · omega
set_option maxHeartbeats 1000000 in
theorem k_bearers1 {I : Nat → Nat → Int32} {J : Nat → Nat → Int64} {R : Nat → Nat → Value} {t : Nat → Nat} {d N m n : Nat} (hT : cT I t N) (hN : 0 < N) (hm0 : I 8 3 = nI m) (hm8 : m ≤ 8) (hw : bEnd t (min N 48) m n) (hok : (sFin N (lS t (min N 48) m n (bS t (min N 48) m n))).1 = true) : Cal lyC (d + 5) hX11_bearers 3 [.ref 0] (I, J, R) (fun r M' => r = some (.int (nI (n + 1))) ∧ ∃ I3, M' = (I3, J, R) ∧ (∀ p, p ≠ 1 → p ≠ 8 → p ≠ 9 → p ≠ 10 → p ≠ 15 → I3 p = I p) ∧ I3 1 1 = 0 ∧ I3 8 3 = nI (m + (n + 1)) ∧ (∀ k, k < m → I3 9 k = I 9 k ∧ I3 10 k = I 10 k) ∧ (∀ i, i < n + 1 → I3 9 (m + i) = nI (lA t (min N 48) (bS t (min N 48) m i)) ∧ I3 10 (m + i) = nI (lB t (min N 48) (bS t (min N 48) m i))) ∧ I3 15 = upd (upd (I 15) 5 0) 3 0) := by
  have hn8 := bEnd_9 hw
  have hN80 := hT.2.1
  have hm7 := bEnd_8 hw (sFin_f hok).1
  show Ev lyC (d + 5) hX11_bearers 0 [some (.ref 0), none, none] [] (I, J, R) _
  refine ev_st dX11_bearers_0 rfl rfl ?_
  refine ev_getC dX11_bearers_1 fr_11_10 rfl rfl ?_
  refine ev_call dX11_bearers_4 rfl rfl mr_11_127 rfl rfl rfl ((by have K := k_X9_size (I := I) (J := J) (R := R) (d := d + 4); rw [hT.1] at K; exact K)) ?_
  rintro _ _ ⟨rfl, rfl⟩
  show Ev lyC (d + 5) hX11_bearers 7 [some (.ref 0), none, none] [.int (nI N)] (I, J, R) _
  refine ev_if_neN (t := 12) (a := N) dX11_bearers_7 (by decide) rfl (by omega) (fun c_7 => ?_) (fun c_7 => ?_)
  · refine ev_st dX11_bearers_12 rfl rfl ?_
    refine ev_getC dX11_bearers_13 fr_11_35 rfl rfl ?_
    refine ev_st dX11_bearers_16 rfl rfl ?_
    refine ev_getC dX11_bearers_17 fr_11_10 rfl rfl ?_
    refine ev_call dX11_bearers_20 rfl rfl mr_11_131 rfl rfl rfl (k_readLines hT hm0 hm8) ?_
    rintro _ _ ⟨n2, I2, hw2, e1, rfl, hx, hk9, hn9, hR2⟩
    obtain rfl := bEnd_u hw hw2
    subst e1
    have hf9 := sFin_le (N := N) hR2.2.2.2.2.2.1
    show Ev lyC (d + 5) hX11_bearers 23 [some (.ref 0), none, none] [.int (nI (n + 1))] (I2, J, R) _
    refine ev_st (L' := [some (.ref 0), some (.int (nI (n + 1))), none]) dX11_bearers_23 rfl rfl ?_
    refine ev_st dX11_bearers_24 rfl rfl ?_
    refine ev_getC dX11_bearers_25 fr_11_10 rfl rfl ?_
    refine ev_call dX11_bearers_28 rfl rfl mr_11_134 rfl rfl rfl (k_close hR2) ?_
    rintro _ _ ⟨e1, rfl⟩
    rw [if_pos hok] at e1
    subst e1
    show Ev lyC (d + 5) hX11_bearers 31 [some (.ref 0), some (.int (nI (n + 1))), none] [.int ((-1))] (ti_wr I2 1 1 0, J, R) _
    refine ev_st (L' := [some (.ref 0), some (.int (nI (n + 1))), some (.int ((-1)))]) dX11_bearers_31 rfl rfl ?_
    refine ev_st dX11_bearers_32 rfl rfl ?_
    refine ev_if_lt (t := 40) dX11_bearers_33 (by decide) (fun _ => ?_) (fun q => absurd q (by decide))
    refine ev_st dX11_bearers_40 rfl rfl ?_
    refine ev_getC dX11_bearers_41 fr_11_35 rfl rfl ?_
    refine ev_st dX11_bearers_44 rfl rfl ?_
    refine ev_getI (v := nI m) dX11_bearers_45 fr_11_137 rfl rfl ((congrFun (hx 8 (by decide) (by decide) (by decide)) 3).trans hm0) ?_
    refine ev_st dX11_bearers_48 rfl rfl ?_
    refine ev_iaddN (a := m) (b := n + 1) (c := m + (n + 1)) dX11_bearers_49 rfl rfl rfl ?_
    refine ev_putI dX11_bearers_50 fr_11_137 rfl rfl ?_
    refine ev_st dX11_bearers_53 rfl rfl ?_
    refine ev_getC dX11_bearers_54 fr_11_56 rfl rfl ?_
    refine ev_call dX11_bearers_57 rfl rfl mr_11_121 rfl rfl rfl (k_forgetAll) ?_
    rintro _ _ ⟨rfl, rfl⟩
    show Ev lyC (d + 5) hX11_bearers 60 [some (.ref 0), some (.int (nI (n + 1))), some (.int ((-1)))] [] (ti_wr (ti_wr (ti_wr (ti_wr I2 1 1 0) 8 3 (nI (m + (n + 1)))) 15 5 0) 15 3 0, J, R) _
    refine ev_st dX11_bearers_60 rfl rfl ?_
    exact ev_iret dX11_bearers_61 rfl (⟨rfl, _, rfl, fun p a b c d e => by simp only [ti_wr_n a, ti_wr_n b, ti_wr_n e]; exact hx p a c d, rfl, rfl, fun k hk => hk9 k hk, fun i hi => hn9 i hi (by omega), by rw [wr_q, wr_q, ti_wr_n (by decide), ti_wr_n (by decide), hx 15 (by decide) (by decide) (by decide)]⟩)
  · omega
set_option maxHeartbeats 1000000 in
theorem c_bearersE {I : Nat → Nat → Int32} {J : Nat → Nat → Int64} {R : Nat → Nat → Value} {t : Nat → Nat} {d : Nat} (hT : mT I t 0) : Cal lyM (d + 7) hX12_bearers 4 [.ref 0] (I, J, R) (fun r M' => r = some (.int 0) ∧ ∃ I3 R3, M' = (I3, J, R3) ∧ bF8 I I3 ∧ R3 0 19 = R 0 19) := by
  have hT0 : mT (ti_wr I 0 12 0) t 0 := ⟨hT.1, hT.2.1, hT.2.2⟩
  show Ev lyM (d + 7) hX12_bearers 0 [some (.ref 0), none, none, none] [] (I, J, R) _
  refine ev_st dX12_bearers_0 rfl rfl ?_
  refine ev_iconst (v := 0) dX12_bearers_1 (by decide) ?_
  refine ev_putI dX12_bearers_2 fr_12_89 rfl rfl ?_
  refine ev_st dX12_bearers_5 rfl rfl ?_
  refine ev_bipush (v := 48) dX12_bearers_6 (by decide) ?_
  refine ev_call dX12_bearers_8 rfl rfl mr_12_153 rfl rfl rfl (c_beginText (I := ti_wr I 0 12 0) (T := 48) hT0 (by decide) rfl) ?_
  rintro _ _ ⟨rfl, I2, R2, rfl, hb2, h19, hR2⟩
  have hb0 : bF8 I I2 := ⟨fun p a b => (hb2.1 p a).trans (ti_wr_n a), fun k a b c d e f g => (hb2.2.1 k a b c d e f g).trans (wr_ne b), hb2.2.2.1, hb2.2.2.2⟩
  show Ev lyM (d + 7) hX12_bearers 11 [some (.ref 0), none, none, none] [] (I2, J, R2) _
  refine ev_st dX12_bearers_11 rfl rfl ?_
  refine ev_getI (v := 0) dX12_bearers_12 fr_12_111 rfl rfl hR2.2.2.1 ?_
  refine ev_if_ne (t := 20) dX12_bearers_15 (by decide) (fun q => absurd q (by decide)) (fun _ => ?_)
  refine ev_iconst (v := 0) dX12_bearers_18 (by decide) ?_
  exact ev_iret dX12_bearers_19 rfl (⟨rfl, _, _, rfl, hb0, h19⟩)
set_option maxHeartbeats 1000000 in
theorem c_bearers0 {I : Nat → Nat → Int32} {J : Nat → Nat → Int64} {R : Nat → Nat → Value} {I2 : Nat → Nat → Int32} {R2 : Nat → Nat → Value} {t : Nat → Nat} {d N m n : Nat} {w2 : Int32} {z3 : Option Value} (hm0 : I 0 3 = nI m) (hm8 : m ≤ 8) (hR2 : mR 6 I2 R2 t (min N 48) N 48 (lS t (min N 48) m n (bS t (min N 48) m n))) (hw : bEnd t (min N 48) m n) (hb : bF8 I I2) (h19 : R2 0 19 = R 0 19) (h8 : (lS t (min N 48) m n (bS t (min N 48) m n)).1 = true → ∀ i, i < n + 1 → I2 8 (2 * i) = nI (lA t (min N 48) (bS t (min N 48) m i)) ∧ I2 8 (2 * i + 1) = nI (lB t (min N 48) (bS t (min N 48) m i))) (hok : (sFin N (lS t (min N 48) m n (bS t (min N 48) m n))).1 = false) : Ev lyM (d + 7) hX12_bearers 110 [some (.ref 0), some (.int (nI (n + 1))), some (.int w2), z3] [] (I2, J, R2) (fun r M' => ∃ n I3 R3, bEnd t (min N 48) m n ∧ M' = (I3, J, R3) ∧ R3 0 19 = R 0 19 ∧ if (sFin N (lS t (min N 48) m n (bS t (min N 48) m n))).1 = true then r = some (.int (nI (n + 1))) ∧ (∀ p, p ≠ 0 → p ≠ 1 → p ≠ 3 → p ≠ 4 → p ≠ 8 → I3 p = I p) ∧ (∀ k, k ≠ 3 → k ≠ 9 → k ≠ 12 → k ≠ 14 → k ≠ 15 → k ≠ 16 → k ≠ 17 → k ≠ 22 → k ≠ 25 → k ≠ 39 → I3 0 k = I 0 k) ∧ I3 0 9 = 0 ∧ I3 0 12 = 0 ∧ I3 0 3 = nI (m + (n + 1)) ∧ (∀ k, k < m → I3 3 k = I 3 k ∧ I3 4 k = I 4 k) ∧ (∀ i, i < n + 1 → I3 3 (m + i) = nI (lA t (min N 48) (bS t (min N 48) m i)) ∧ I3 4 (m + i) = nI (lB t (min N 48) (bS t (min N 48) m i))) ∧ (∀ i, i < n + 1 → I3 1 (m + i) = 0 ∧ I3 1 (8 + (m + i)) = 0) ∧ (∀ k, (k < m ∨ 8 ≤ k ∧ k < 8 + m ∨ 16 ≤ k) → I3 1 k = I 1 k) ∧ I3 0 25 = 0 ∧ I3 0 39 = I 0 39 + 1 else r = some (.int (-1 - nI (sFin N (lS t (min N 48) m n (bS t (min N 48) m n))).2)) ∧ bF8 I I3) := by
  have hn8 := bEnd_9 hw
  refine ev_st dX12_bearers_110 rfl rfl ?_
  refine ev_call dX12_bearers_111 rfl rfl mr_12_156 rfl rfl rfl (c_right hR2) ?_
  rintro _ _ ⟨e1, I3, rfl, hx3, hR3⟩
  rw [show (sFin N (lS t (min N 48) m n (bS t (min N 48) m n))).1 = false from hok] at e1
  subst e1
  show Ev lyM (d + 7) hX12_bearers 114 [some (.ref 0), some (.int (nI (n + 1))), some (.int w2), z3] [.int 0] (I3, J, R2) _
  refine ev_if_ne (t := 124) dX12_bearers_114 (by decide) (fun q => absurd q (by decide)) (fun _ => ?_)
  refine ev_iconst (v := -1) dX12_bearers_117 (by decide) ?_
  refine ev_st dX12_bearers_118 rfl rfl ?_
  refine ev_getI (v := nI ((sFin N (lS t (min N 48) m n (bS t (min N 48) m n))).2)) dX12_bearers_119 fr_12_120 rfl rfl (by have h := hR3.2.2.2.2.2.2.2.2; rw [if_neg (by rw [hok]; decide)] at h; exact h.1) ?_
  refine ev_st dX12_bearers_122 rfl rfl ?_
  exact ev_iret dX12_bearers_123 rfl (⟨n, _, _, hw, rfl, h19, by rw [if_neg (by rw [hok]; decide)]; exact ⟨rfl, hb.r hx3⟩⟩)
set_option maxHeartbeats 1000000 in
theorem c_layB {I : Nat → Nat → Int32} {J : Nat → Nat → Int64} {R : Nat → Nat → Value} {d m q : Nat} {w2 : Int32} (hmq : m + q ≤ 8) : ∀ (k b : Nat) (I2 : Nat → Nat → Int32), b ≤ q → q - b < k → (∀ p, p ≠ 0 → p ≠ 1 → p ≠ 3 → p ≠ 4 → I2 p = I p) → (∀ k, k ≠ 3 → I2 0 k = I 0 k) → I2 0 3 = nI (m + b) → (∀ k, k < m → I2 3 k = I 3 k ∧ I2 4 k = I 4 k) → (∀ i, i < b → I2 3 (m + i) = I 8 (2 * i) ∧ I2 4 (m + i) = I 8 (2 * i + 1)) → (∀ i, i < b → I2 1 (m + i) = 0 ∧ I2 1 (8 + (m + i)) = 0) → (∀ k, (k < m ∨ 8 ≤ k ∧ k < 8 + m ∨ 16 ≤ k) → I2 1 k = I 1 k) → Ev lyM (d + 7) hX12_bearers 126 [some (.ref 0), some (.int (nI q)), some (.int w2), some (.int (nI b))] [] (I2, J, R) (fun r M' => r = some (.int (nI q)) ∧ ∃ I3, M' = (I3, J, R) ∧ (∀ p, p ≠ 0 → p ≠ 1 → p ≠ 3 → p ≠ 4 → I3 p = I p) ∧ (∀ k, k ≠ 3 → k ≠ 25 → k ≠ 39 → I3 0 k = I 0 k) ∧ I3 0 3 = nI (m + q) ∧ (∀ k, k < m → I3 3 k = I 3 k ∧ I3 4 k = I 4 k) ∧ (∀ i, i < q → I3 3 (m + i) = I 8 (2 * i) ∧ I3 4 (m + i) = I 8 (2 * i + 1)) ∧ (∀ i, i < q → I3 1 (m + i) = 0 ∧ I3 1 (8 + (m + i)) = 0) ∧ (∀ k, (k < m ∨ 8 ≤ k ∧ k < 8 + m ∨ 16 ≤ k) → I3 1 k = I 1 k) ∧ I3 0 25 = 0 ∧ I3 0 39 = I 0 39 + 1) := by
  intro k
  induction k with
  | zero => intro b I2 h1 h2; omega
  | succ k ih =>
    intro b I2 hb hk hx2 h02 h03 h34 hn3 hz1 h1k
    refine ev_st dX12_bearers_126 rfl rfl ?_
    refine ev_st dX12_bearers_127 rfl rfl ?_
    refine ev_ic_geN (t := 206) (a := b) (b := q) dX12_bearers_128 (by decide) rfl rfl (by omega) (by omega) (fun c_128 => ?_) (fun c_128 => ?_)
    · refine ev_st dX12_bearers_206 rfl rfl ?_
      refine ev_call dX12_bearers_207 rfl rfl mr_12_159 rfl rfl rfl (c_told) ?_
      rintro _ _ ⟨rfl, rfl⟩
      show Ev lyM (d + 7) hX12_bearers 210 [some (.ref 0), some (.int (nI q)), some (.int w2), some (.int (nI b))] [] (ti_wr (ti_wr I2 0 25 0) 0 39 (I2 0 39 + 1), J, R) _
      refine ev_st dX12_bearers_210 rfl rfl ?_
      exact ev_iret dX12_bearers_211 rfl (by have e9 : b = q := (by omega); subst e9; exact ⟨rfl, _, rfl, fun p a c d e => by simp only [ti_wr_n a]; exact hx2 p a c d e, fun k a b c => by rw [wr_ne c, wr_ne b]; exact h02 k a, h03, h34, hn3, hz1, h1k, rfl, by rw [ti_wr_at, h02 39 (by decide)]⟩)
    · refine ev_st dX12_bearers_131 rfl rfl ?_
      refine ev_getC dX12_bearers_132 fr_12_20 rfl rfl ?_
      refine ev_st dX12_bearers_135 rfl rfl ?_
      refine ev_getI (v := nI (m + b)) dX12_bearers_136 fr_12_95 rfl rfl h03 ?_
      refine ev_st dX12_bearers_139 rfl rfl ?_
      refine ev_getC dX12_bearers_140 fr_12_37 rfl rfl ?_
      refine ev_iconst (v := 2) dX12_bearers_143 (by decide) ?_
      refine ev_st dX12_bearers_144 rfl rfl ?_
      refine ev_imulN (a := 2) (b := b) (c := 2 * b) dX12_bearers_145 rfl rfl rfl ?_
      refine ev_iald (j := 2 * b) (v := I 8 (2 * b)) dX12_bearers_146 rfl rfl (by omega) (by decide) (by show I2 8 _ = _; rw [hx2 8 (by decide) (by decide) (by decide) (by decide)]) ?_
      refine ev_iast (j := m + b) dX12_bearers_147 rfl rfl (by omega) (by decide) ?_
      refine ev_st dX12_bearers_148 rfl rfl ?_
      refine ev_getC dX12_bearers_149 fr_12_23 rfl rfl ?_
      refine ev_st dX12_bearers_152 rfl rfl ?_
      refine ev_getI (v := nI (m + b)) dX12_bearers_153 fr_12_95 rfl rfl h03 ?_
      refine ev_st dX12_bearers_156 rfl rfl ?_
      refine ev_getC dX12_bearers_157 fr_12_37 rfl rfl ?_
      refine ev_iconst (v := 2) dX12_bearers_160 (by decide) ?_
      refine ev_st dX12_bearers_161 rfl rfl ?_
      refine ev_imulN (a := 2) (b := b) (c := 2 * b) dX12_bearers_162 rfl rfl rfl ?_
      refine ev_iconst (v := 1) dX12_bearers_163 (by decide) ?_
      refine ev_iaddN (a := 2 * b) (b := 1) (c := 2 * b + 1) dX12_bearers_164 rfl rfl rfl ?_
      refine ev_iald (j := 2 * b + 1) (v := I 8 (2 * b + 1)) dX12_bearers_165 rfl rfl (by omega) (by decide) (by show I2 8 _ = _; rw [hx2 8 (by decide) (by decide) (by decide) (by decide)]) ?_
      refine ev_iast (j := m + b) dX12_bearers_166 rfl rfl (by omega) (by decide) ?_
      refine ev_st dX12_bearers_167 rfl rfl ?_
      refine ev_getC dX12_bearers_168 fr_12_9 rfl rfl ?_
      refine ev_st dX12_bearers_171 rfl rfl ?_
      refine ev_getI (v := nI (m + b)) dX12_bearers_172 fr_12_95 rfl rfl h03 ?_
      refine ev_iconst (v := 0) dX12_bearers_175 (by decide) ?_
      refine ev_iast (j := m + b) dX12_bearers_176 rfl rfl (by omega) (by decide) ?_
      refine ev_st dX12_bearers_177 rfl rfl ?_
      refine ev_getC dX12_bearers_178 fr_12_9 rfl rfl ?_
      refine ev_bipush (v := 8) dX12_bearers_181 (by decide) ?_
      refine ev_st dX12_bearers_183 rfl rfl ?_
      refine ev_getI (v := nI (m + b)) dX12_bearers_184 fr_12_95 rfl rfl h03 ?_
      refine ev_iaddN (a := 8) (b := m + b) (c := 8 + (m + b)) dX12_bearers_187 rfl rfl rfl ?_
      refine ev_iconst (v := 0) dX12_bearers_188 (by decide) ?_
      refine ev_iast (j := 8 + (m + b)) dX12_bearers_189 rfl rfl (by omega) (by decide) ?_
      refine ev_st dX12_bearers_190 rfl rfl ?_
      refine ev_st dX12_bearers_191 rfl rfl ?_
      refine ev_getI (v := nI (m + b)) dX12_bearers_192 fr_12_95 rfl rfl h03 ?_
      refine ev_iconst (v := 1) dX12_bearers_195 (by decide) ?_
      refine ev_iaddN (a := m + b) (b := 1) (c := m + b + 1) dX12_bearers_196 rfl rfl rfl ?_
      refine ev_putI dX12_bearers_197 fr_12_95 rfl rfl ?_
      refine ev_iincN (a := b) (b := b + 1) (L' := [some (.ref 0), some (.int (nI q)), some (.int w2), some (.int (nI (b + 1)))]) dX12_bearers_200 rfl (nI_1 _) rfl ?_
      refine ev_goto (t := 126) dX12_bearers_203 (by decide) ?_
      refine ih _ _ (by omega) (by omega) (fun p a c d e => ?_) (fun k hk => ?_) (by rw [ti_wr_at, Nat.add_assoc]) (fun k hk => ?_) (fun i hi => ?_) (fun i hi => ?_) (fun k hk => ?_)
      · simp only [ti_wr_n a, ti_wr_n c, ti_wr_n d, ti_wr_n e]; exact hx2 p a c d e
      · rw [wr_ne hk, ti_wr_n (by decide), ti_wr_n (by decide), ti_wr_n (by decide), ti_wr_n (by decide)]; exact h02 k hk
      · rw [ti_wr_n (by decide), ti_wr_n (by decide), ti_wr_n (by decide), ti_wr_n (by decide), wr_ne (by omega), ti_wr_n (by decide), ti_wr_n (by decide), ti_wr_n (by decide), wr_ne (by omega), ti_wr_n (by decide)]; exact h34 k hk
      · by_cases e : i = b
        · subst e; exact ⟨by rw [ti_wr_n (by decide), ti_wr_n (by decide), ti_wr_n (by decide), ti_wr_n (by decide), ti_wr_at], by rw [ti_wr_n (by decide), ti_wr_n (by decide), ti_wr_n (by decide), ti_wr_at]⟩
        · rw [ti_wr_n (by decide), ti_wr_n (by decide), ti_wr_n (by decide), ti_wr_n (by decide), wr_ne (by omega), ti_wr_n (by decide), ti_wr_n (by decide), ti_wr_n (by decide), wr_ne (by omega), ti_wr_n (by decide)]; exact hn3 i (by omega)
      · by_cases e : i = b
        · subst e; exact ⟨by rw [ti_wr_n (by decide), wr_ne (by omega), ti_wr_at], by rw [ti_wr_n (by decide), ti_wr_at]⟩
        · exact ⟨by rw [ti_wr_n (by decide), wr_ne (by omega), wr_ne (by omega), ti_wr_n (by decide), ti_wr_n (by decide)]; exact (hz1 i (by omega)).1, by rw [ti_wr_n (by decide), wr_ne (by omega), wr_ne (by omega), ti_wr_n (by decide), ti_wr_n (by decide)]; exact (hz1 i (by omega)).2⟩
      · rw [ti_wr_n (by decide), wr_ne (by omega), wr_ne (by omega), ti_wr_n (by decide), ti_wr_n (by decide)]; exact h1k k hk
set_option maxHeartbeats 1000000 in
theorem c_bearers1 {I : Nat → Nat → Int32} {J : Nat → Nat → Int64} {R : Nat → Nat → Value} {I2 : Nat → Nat → Int32} {R2 : Nat → Nat → Value} {t : Nat → Nat} {d N m n : Nat} {w2 : Int32} {z3 : Option Value} (hm0 : I 0 3 = nI m) (hm8 : m ≤ 8) (hR2 : mR 6 I2 R2 t (min N 48) N 48 (lS t (min N 48) m n (bS t (min N 48) m n))) (hw : bEnd t (min N 48) m n) (hb : bF8 I I2) (h19 : R2 0 19 = R 0 19) (h8 : (lS t (min N 48) m n (bS t (min N 48) m n)).1 = true → ∀ i, i < n + 1 → I2 8 (2 * i) = nI (lA t (min N 48) (bS t (min N 48) m i)) ∧ I2 8 (2 * i + 1) = nI (lB t (min N 48) (bS t (min N 48) m i))) (hok : (sFin N (lS t (min N 48) m n (bS t (min N 48) m n))).1 = true) : Ev lyM (d + 7) hX12_bearers 110 [some (.ref 0), some (.int (nI (n + 1))), some (.int w2), z3] [] (I2, J, R2) (fun r M' => ∃ n I3 R3, bEnd t (min N 48) m n ∧ M' = (I3, J, R3) ∧ R3 0 19 = R 0 19 ∧ if (sFin N (lS t (min N 48) m n (bS t (min N 48) m n))).1 = true then r = some (.int (nI (n + 1))) ∧ (∀ p, p ≠ 0 → p ≠ 1 → p ≠ 3 → p ≠ 4 → p ≠ 8 → I3 p = I p) ∧ (∀ k, k ≠ 3 → k ≠ 9 → k ≠ 12 → k ≠ 14 → k ≠ 15 → k ≠ 16 → k ≠ 17 → k ≠ 22 → k ≠ 25 → k ≠ 39 → I3 0 k = I 0 k) ∧ I3 0 9 = 0 ∧ I3 0 12 = 0 ∧ I3 0 3 = nI (m + (n + 1)) ∧ (∀ k, k < m → I3 3 k = I 3 k ∧ I3 4 k = I 4 k) ∧ (∀ i, i < n + 1 → I3 3 (m + i) = nI (lA t (min N 48) (bS t (min N 48) m i)) ∧ I3 4 (m + i) = nI (lB t (min N 48) (bS t (min N 48) m i))) ∧ (∀ i, i < n + 1 → I3 1 (m + i) = 0 ∧ I3 1 (8 + (m + i)) = 0) ∧ (∀ k, (k < m ∨ 8 ≤ k ∧ k < 8 + m ∨ 16 ≤ k) → I3 1 k = I 1 k) ∧ I3 0 25 = 0 ∧ I3 0 39 = I 0 39 + 1 else r = some (.int (-1 - nI (sFin N (lS t (min N 48) m n (bS t (min N 48) m n))).2)) ∧ bF8 I I3) := by
  have hm7 := bEnd_8 hw (sFin_f (N := N) (by rw [hok])).1
  refine ev_st dX12_bearers_110 rfl rfl ?_
  refine ev_call dX12_bearers_111 rfl rfl mr_12_156 rfl rfl rfl (c_right hR2) ?_
  rintro _ _ ⟨e1, I3, rfl, hx3, hR3⟩
  rw [show (sFin N (lS t (min N 48) m n (bS t (min N 48) m n))).1 = true from hok] at e1
  subst e1
  show Ev lyM (d + 7) hX12_bearers 114 [some (.ref 0), some (.int (nI (n + 1))), some (.int w2), z3] [.int 1] (I3, J, R2) _
  refine ev_if_ne (t := 124) dX12_bearers_114 (by decide) (fun _ => ?_) (fun q => absurd q (by decide))
  refine ev_iconst (v := 0) dX12_bearers_124 (by decide) ?_
  refine ev_st (L' := [some (.ref 0), some (.int (nI (n + 1))), some (.int w2), some (.int 0)]) dX12_bearers_125 rfl rfl ?_
  have hb3 := hb.r hx3
  have h03 : I3 0 3 = nI m := (hb3.k 3 rfl).trans hm0
  refine (c_layB (I := I3) (J := J) (R := R2) (d := d) (m := m) (q := n + 1) (by omega) (n + 2) 0 I3 (by omega) (by omega) (fun _ _ _ _ _ => rfl) (fun _ _ => rfl) h03 (fun _ _ => ⟨rfl, rfl⟩) (fun i hi => by omega) (fun i hi => by omega) (fun _ _ => rfl)).imp ?_
  rintro r M' ⟨e1, I4, e2, g1, g2, g3, g4, g5, g6, g7, g8, g9⟩
  refine ⟨n, I4, R2, hw, e2, h19, ?_⟩
  rw [if_pos (by rw [hok])]
  have h8' := h8 (sFin_f (N := N) (by rw [hok])).1
  refine ⟨e1, fun p a b c d e => (g1 p a b c d).trans (hb3.1 p a e), fun k k3 k9 k12 k14 k15 k16 k17 k22 k25 k39 => (g2 k k3 k25 k39).trans (hb3.2.1 k k9 k12 k14 k15 k16 k17 k22), (g2 9 (by decide) (by decide) (by decide)).trans hb3.2.2.1, (g2 12 (by decide) (by decide) (by decide)).trans hb3.2.2.2, g3, fun k hk => ?_, fun i hi => ?_, g6, fun k hk => ?_, g8, ?_⟩
  · rw [(g4 k hk).1, (g4 k hk).2, hb3.p 3 rfl, hb3.p 4 rfl]; exact ⟨rfl, rfl⟩
  · rw [(g5 i hi).1, (g5 i hi).2, hx3.p 8 rfl]; exact h8' i hi
  · rw [g7 k hk, hb3.p 1 rfl]
  · rw [g9, hb3.k 39 rfl]
theorem num_f {t : Nat → Nat} {E m lo hi : Nat} {s : PS} (h : (sNum t E m lo hi s).2.1 = true) : s.1 = true := by
  unfold sNum at h
  split at h
  · next q => exact q
  · next q => exact absurd h q
theorem lB_one {t : Nat → Nat} {E m i : Nat} {s : PS} (hlt : m + i < 8) (h : (lS t E m i s).1 = true) : (sOne t E 49 9 (sNeed t E 44 (sNum t E 2 1 40 s).2)).1 + 1 = lB t E s := by
  rw [lS, if_neg (by omega)] at h
  exact one_num1.2 h (num_f h)
set_option maxHeartbeats 2000000 in
theorem c_bearers {I : Nat → Nat → Int32} {J : Nat → Nat → Int64} {R : Nat → Nat → Value} {t : Nat → Nat} {d N m : Nat} (hT : mT I t N) (hN : 0 < N) (hm0 : I 0 3 = nI m) (hm8 : m ≤ 8) : Cal lyM (d + 7) hX12_bearers 4 [.ref 0] (I, J, R) (fun r M' => ∃ n I3 R3, bEnd t (min N 48) m n ∧ M' = (I3, J, R3) ∧ R3 0 19 = R 0 19 ∧ if (sFin N (lS t (min N 48) m n (bS t (min N 48) m n))).1 = true then r = some (.int (nI (n + 1))) ∧ (∀ p, p ≠ 0 → p ≠ 1 → p ≠ 3 → p ≠ 4 → p ≠ 8 → I3 p = I p) ∧ (∀ k, k ≠ 3 → k ≠ 9 → k ≠ 12 → k ≠ 14 → k ≠ 15 → k ≠ 16 → k ≠ 17 → k ≠ 22 → k ≠ 25 → k ≠ 39 → I3 0 k = I 0 k) ∧ I3 0 9 = 0 ∧ I3 0 12 = 0 ∧ I3 0 3 = nI (m + (n + 1)) ∧ (∀ k, k < m → I3 3 k = I 3 k ∧ I3 4 k = I 4 k) ∧ (∀ i, i < n + 1 → I3 3 (m + i) = nI (lA t (min N 48) (bS t (min N 48) m i)) ∧ I3 4 (m + i) = nI (lB t (min N 48) (bS t (min N 48) m i))) ∧ (∀ i, i < n + 1 → I3 1 (m + i) = 0 ∧ I3 1 (8 + (m + i)) = 0) ∧ (∀ k, (k < m ∨ 8 ≤ k ∧ k < 8 + m ∨ 16 ≤ k) → I3 1 k = I 1 k) ∧ I3 0 25 = 0 ∧ I3 0 39 = I 0 39 + 1 else r = some (.int (-1 - nI (sFin N (lS t (min N 48) m n (bS t (min N 48) m n))).2)) ∧ bF8 I I3) := by
  have hT0 : mT (ti_wr I 0 12 0) t N := ⟨hT.1, hT.2.1, hT.2.2⟩
  have hN80 := hT.2.1
  show Ev lyM (d + 7) hX12_bearers 0 [some (.ref 0), none, none, none] [] (I, J, R) _
  refine ev_st dX12_bearers_0 rfl rfl ?_
  refine ev_iconst (v := 0) dX12_bearers_1 (by decide) ?_
  refine ev_putI dX12_bearers_2 fr_12_89 rfl rfl ?_
  refine ev_st dX12_bearers_5 rfl rfl ?_
  refine ev_bipush (v := 48) dX12_bearers_6 (by decide) ?_
  refine ev_call dX12_bearers_8 rfl rfl mr_12_153 rfl rfl rfl (c_beginText (I := ti_wr I 0 12 0) (T := 48) hT0 (by decide) rfl) ?_
  rintro _ _ ⟨rfl, I2, R2, rfl, hb2, h19, hR2⟩
  have hb0 : bF8 I I2 := ⟨fun p a b => (hb2.1 p a).trans (ti_wr_n a), fun k a b c d e f g => (hb2.2.1 k a b c d e f g).trans (wr_ne b), hb2.2.2.1, hb2.2.2.2⟩
  have loop : ∀ (k b : Nat) (w2 : Int32) (z3 : Option Value) (I2 : Nat → Nat → Int32), b ≤ 9 → 9 - b < k → mR 6 I2 R2 t (min N 48) N 48 (bS t (min N 48) m b) → bF8 I I2 → (∀ i, i < b → I2 8 (2 * i) = nI (lA t (min N 48) (bS t (min N 48) m i)) ∧ I2 8 (2 * i + 1) = nI (lB t (min N 48) (bS t (min N 48) m i))) → (∀ j, j < b → more t (min N 48) (lS t (min N 48) m j (bS t (min N 48) m j))) → (bS t (min N 48) m b).1 = true → Ev lyM (d + 7) hX12_bearers 35 [some (.ref 0), some (.int (nI b)), some (.int w2), z3] [] (I2, J, R2) (fun r M' => ∃ n I3 R3, bEnd t (min N 48) m n ∧ M' = (I3, J, R3) ∧ R3 0 19 = R 0 19 ∧ if (sFin N (lS t (min N 48) m n (bS t (min N 48) m n))).1 = true then r = some (.int (nI (n + 1))) ∧ (∀ p, p ≠ 0 → p ≠ 1 → p ≠ 3 → p ≠ 4 → p ≠ 8 → I3 p = I p) ∧ (∀ k, k ≠ 3 → k ≠ 9 → k ≠ 12 → k ≠ 14 → k ≠ 15 → k ≠ 16 → k ≠ 17 → k ≠ 22 → k ≠ 25 → k ≠ 39 → I3 0 k = I 0 k) ∧ I3 0 9 = 0 ∧ I3 0 12 = 0 ∧ I3 0 3 = nI (m + (n + 1)) ∧ (∀ k, k < m → I3 3 k = I 3 k ∧ I3 4 k = I 4 k) ∧ (∀ i, i < n + 1 → I3 3 (m + i) = nI (lA t (min N 48) (bS t (min N 48) m i)) ∧ I3 4 (m + i) = nI (lB t (min N 48) (bS t (min N 48) m i))) ∧ (∀ i, i < n + 1 → I3 1 (m + i) = 0 ∧ I3 1 (8 + (m + i)) = 0) ∧ (∀ k, (k < m ∨ 8 ≤ k ∧ k < 8 + m ∨ 16 ≤ k) → I3 1 k = I 1 k) ∧ I3 0 25 = 0 ∧ I3 0 39 = I 0 39 + 1 else r = some (.int (-1 - nI (sFin N (lS t (min N 48) m n (bS t (min N 48) m n))).2)) ∧ bF8 I I3) := by
    intro k
    induction k with
    | zero => intro b w2 z3 I2 h1 h2; omega
    | succ k ih =>
      intro b w2 z3 I2 hb hk hR2 hb2 h8 hmo hf
      have hb8 : b ≤ 8 := by by_cases q : b = 0; (omega); (have := more_m (hmo (b - 1) (by omega)); omega)
      have hmb : m + b ≤ 8 := by by_cases q : b = 0; (omega); (have := more_m (hmo (b - 1) (by omega)); omega)
      refine ev_st dX12_bearers_35 rfl rfl ?_
      refine ev_getI (v := nI m) dX12_bearers_36 fr_12_95 rfl rfl ((hb2.k 3 rfl).trans hm0) ?_
      refine ev_st dX12_bearers_39 rfl rfl ?_
      refine ev_iaddN (a := m) (b := b) (c := m + b) dX12_bearers_40 rfl rfl rfl ?_
      refine ev_bipush (v := 8) dX12_bearers_41 (by decide) ?_
      refine ev_ic_neN (t := 57) (a := m + b) (b := 8) dX12_bearers_43 (by decide) rfl rfl (by omega) (by omega) (fun c_43 => ?_) (fun c_43 => ?_)
      · refine ev_st dX12_bearers_57 rfl rfl ?_
        refine ev_getC dX12_bearers_58 fr_12_37 rfl rfl ?_
        refine ev_iconst (v := 2) dX12_bearers_61 (by decide) ?_
        refine ev_st dX12_bearers_62 rfl rfl ?_
        refine ev_imulN (a := 2) (b := b) (c := 2 * b) dX12_bearers_63 rfl rfl rfl ?_
        refine ev_st dX12_bearers_64 rfl rfl ?_
        refine ev_bipush (v := 40) dX12_bearers_65 (by decide) ?_
        refine ev_call dX12_bearers_67 rfl rfl mr_12_166 rfl rfl rfl (c_bounded (hi := 40) hR2 (by decide)) ?_
        rintro _ _ ⟨rfl, I3, rfl, hx3, hR3⟩
        show Ev lyM (d + 7) hX12_bearers 70 [some (.ref 0), some (.int (nI b)), some (.int w2), z3] [.int (nI (lA t (min N 48) (bS t (min N 48) m b))), .int (nI (2 * b)), .ref 8] (I3, J, R2) _
        refine ev_iast (j := 2 * b) dX12_bearers_70 rfl rfl (by omega) (by decide) ?_
        refine ev_st dX12_bearers_71 rfl rfl ?_
        refine ev_bipush (v := 44) dX12_bearers_72 (by decide) ?_
        refine ev_call dX12_bearers_74 rfl rfl mr_12_169 rfl rfl rfl (c_need (c := 44) (mR8 hR3) (by decide)) ?_
        rintro _ _ ⟨rfl, I4, rfl, hx4, hR4⟩
        show Ev lyM (d + 7) hX12_bearers 77 [some (.ref 0), some (.int (nI b)), some (.int w2), z3] [] (I4, J, R2) _
        refine ev_st dX12_bearers_77 rfl rfl ?_
        refine ev_getC dX12_bearers_78 fr_12_37 rfl rfl ?_
        refine ev_iconst (v := 2) dX12_bearers_81 (by decide) ?_
        refine ev_st dX12_bearers_82 rfl rfl ?_
        refine ev_imulN (a := 2) (b := b) (c := 2 * b) dX12_bearers_83 rfl rfl rfl ?_
        refine ev_iconst (v := 1) dX12_bearers_84 (by decide) ?_
        refine ev_iaddN (a := 2 * b) (b := 1) (c := 2 * b + 1) dX12_bearers_85 rfl rfl rfl ?_
        refine ev_st dX12_bearers_86 rfl rfl ?_
        refine ev_bipush (v := 49) dX12_bearers_87 (by decide) ?_
        refine ev_bipush (v := 9) dX12_bearers_89 (by decide) ?_
        refine ev_call dX12_bearers_91 rfl rfl mr_12_143 rfl rfl rfl (c_one (f := 49) (m := 9) hR4 (by decide) (by decide)) ?_
        rintro _ _ ⟨rfl, I5, rfl, hx5, hR5⟩
        rw [one_num1.1] at hR5
        show Ev lyM (d + 7) hX12_bearers 94 [some (.ref 0), some (.int (nI b)), some (.int w2), z3] [.int (nI ((sOne t (min N 48) 49 9 (sNeed t (min N 48) 44 (sNum t (min N 48) 2 1 40 (bS t (min N 48) m b)).2)).1)), .int (nI (2 * b + 1)), .ref 8] (I5, J, R2) _
        refine ev_iconst (v := 1) dX12_bearers_94 (by decide) ?_
        refine ev_iaddN (a := (sOne t (min N 48) 49 9 (sNeed t (min N 48) 44 (sNum t (min N 48) 2 1 40 (bS t (min N 48) m b)).2)).1) (b := 1) (c := (sOne t (min N 48) 49 9 (sNeed t (min N 48) 44 (sNum t (min N 48) 2 1 40 (bS t (min N 48) m b)).2)).1 + 1) dX12_bearers_95 rfl rfl rfl ?_
        refine ev_iast (j := 2 * b + 1) dX12_bearers_96 rfl rfl (by omega) (by decide) ?_
        refine ev_iincN (a := b) (b := b + 1) (L' := [some (.ref 0), some (.int (nI (b + 1))), some (.int w2), z3]) dX12_bearers_97 rfl (nI_1 _) rfl ?_
        refine ev_st dX12_bearers_100 rfl rfl ?_
        refine ev_bipush (v := 59) dX12_bearers_101 (by decide) ?_
        refine ev_call dX12_bearers_103 rfl rfl mr_12_135 rfl rfl rfl (c_passes (s := (lS t (min N 48) m b (bS t (min N 48) m b))) (c := 59) (by have q := mR8 (k := 2 * b + 1) (v := nI ((sOne t (min N 48) 49 9 (sNeed t (min N 48) 44 (sNum t (min N 48) 2 1 40 (bS t (min N 48) m b)).2)).1 + 1)) hR5; rw [lS, if_neg (by omega)]; exact q) (by decide)) ?_
        rintro _ _ ⟨rfl, I6, rfl, hx6, hR6⟩
        show Ev lyM (d + 7) hX12_bearers 106 [some (.ref 0), some (.int (nI (b + 1))), some (.int w2), z3] [.int (if pk t (min N 48) (lS t (min N 48) m b (bS t (min N 48) m b)) = nI 59 then 1 else 0)] (I6, J, R2) _
        refine ev_st (L' := [some (.ref 0), some (.int (nI (b + 1))), some (.int (if pk t (min N 48) (lS t (min N 48) m b (bS t (min N 48) m b)) = nI 59 then 1 else 0)), z3]) dX12_bearers_106 rfl rfl ?_
        refine ev_goto (t := 24) dX12_bearers_107 (by decide) ?_
        refine ev_st dX12_bearers_24 rfl rfl ?_
        refine ev_if_eq (t := 110) (x := if pk t (min N 48) (lS t (min N 48) m b (bS t (min N 48) m b)) = nI 59 then 1 else 0) dX12_bearers_25 (by decide) (fun c_25 => ?_) (fun c_25 => ?_)
        · have hw9 : bEnd t (min N 48) m b := ⟨if01n c_25, hmo⟩
          rw [sPass, if_neg (if01n c_25)] at hR6
          have hlt : m + b < 8 := by omega
          have h8n : (lS t (min N 48) m b (bS t (min N 48) m b)).1 = true → ∀ i, i < b + 1 → I6 8 (2 * i) = nI (lA t (min N 48) (bS t (min N 48) m i)) ∧ I6 8 (2 * i + 1) = nI (lB t (min N 48) (bS t (min N 48) m i)) := (fun hfin i hi => by by_cases e : i = b; (subst e; exact ⟨by rw [hx6.p 8 rfl, wr_ne (by omega), hx5.p 8 rfl, hx4.p 8 rfl, ti_wr_at], by rw [hx6.p 8 rfl, ti_wr_at]; congr 1; exact lB_one hlt hfin⟩); (exact ⟨by rw [hx6.p 8 rfl, wr_ne (by omega), hx5.p 8 rfl, hx4.p 8 rfl, wr_ne (by omega), hx3.p 8 rfl]; exact (h8 i (by omega)).1, by rw [hx6.p 8 rfl, wr_ne (by omega), hx5.p 8 rfl, hx4.p 8 rfl, wr_ne (by omega), hx3.p 8 rfl]; exact (h8 i (by omega)).2⟩))
          by_cases hok : (sFin N (lS t (min N 48) m b (bS t (min N 48) m b))).1 = true
          · exact c_bearers1 hm0 hm8 hR6 hw9 ((((hb2.r hx3).w.r hx4).r hx5).w.r hx6) h19 h8n hok
          · exact c_bearers0 hm0 hm8 hR6 hw9 ((((hb2.r hx3).w.r hx4).r hx5).w.r hx6) h19 h8n (by simpa using hok)
        · refine ev_st dX12_bearers_28 rfl rfl ?_
          refine ev_call dX12_bearers_29 rfl rfl mr_12_127 rfl rfl rfl (c_fineF (a := (lS t (min N 48) m b (bS t (min N 48) m b)).2 + 1) (by rw [sPass, if_pos (if01 c_25)] at hR6; exact hR6)) ?_
          rintro _ _ ⟨rfl, rfl⟩
          show Ev lyM (d + 7) hX12_bearers 32 [some (.ref 0), some (.int (nI (b + 1))), some (.int (if pk t (min N 48) (lS t (min N 48) m b (bS t (min N 48) m b)) = nI 59 then 1 else 0)), z3] [.int 1] (I6, J, R2) _
          refine ev_if_eq (t := 110) dX12_bearers_32 (by decide) (fun q => absurd q (by decide)) (fun _ => ?_)
          have hlt : m + b < 8 := by omega
          have h8n : (lS t (min N 48) m b (bS t (min N 48) m b)).1 = true → ∀ i, i < b + 1 → I6 8 (2 * i) = nI (lA t (min N 48) (bS t (min N 48) m i)) ∧ I6 8 (2 * i + 1) = nI (lB t (min N 48) (bS t (min N 48) m i)) := (fun hfin i hi => by by_cases e : i = b; (subst e; exact ⟨by rw [hx6.p 8 rfl, wr_ne (by omega), hx5.p 8 rfl, hx4.p 8 rfl, ti_wr_at], by rw [hx6.p 8 rfl, ti_wr_at]; congr 1; exact lB_one hlt hfin⟩); (exact ⟨by rw [hx6.p 8 rfl, wr_ne (by omega), hx5.p 8 rfl, hx4.p 8 rfl, wr_ne (by omega), hx3.p 8 rfl]; exact (h8 i (by omega)).1, by rw [hx6.p 8 rfl, wr_ne (by omega), hx5.p 8 rfl, hx4.p 8 rfl, wr_ne (by omega), hx3.p 8 rfl]; exact (h8 i (by omega)).2⟩))
          exact ih _ _ _ _ (by omega) (by omega) hR6 ((((hb2.r hx3).w.r hx4).r hx5).w.r hx6) (h8n (more_f (if01 c_25)).1) (all_b hmo (if01 c_25)) (by show (sPass t (min N 48) 59 (lS t (min N 48) m b (bS t (min N 48) m b))).1 = true; rw [sPass, if_pos (if01 c_25)])
      · refine ev_st dX12_bearers_46 rfl rfl ?_
        refine ev_st dX12_bearers_47 rfl rfl ?_
        refine ev_getI (v := nI ((bS t (min N 48) m b).2)) dX12_bearers_48 fr_12_117 rfl rfl (by have h := hR2.2.2.2.2.2.2.2.2; rw [if_pos hf] at h; exact h.2) ?_
        refine ev_call dX12_bearers_51 rfl rfl mr_12_139 rfl rfl rfl (c_fault hR2 (e := (bS t (min N 48) m b).2) hR2.2.2.2.2.2.2.2.1) ?_
        rintro _ _ ⟨rfl, I5, rfl, hx5, hR5⟩
        rw [if_pos hf] at hR5
        show Ev lyM (d + 7) hX12_bearers 54 [some (.ref 0), some (.int (nI b)), some (.int w2), z3] [] (I5, J, R2) _
        refine ev_goto (t := 97) dX12_bearers_54 (by decide) ?_
        refine ev_iincN (a := b) (b := b + 1) (L' := [some (.ref 0), some (.int (nI (b + 1))), some (.int w2), z3]) dX12_bearers_97 rfl (nI_1 _) rfl ?_
        refine ev_st dX12_bearers_100 rfl rfl ?_
        refine ev_bipush (v := 59) dX12_bearers_101 (by decide) ?_
        refine ev_call dX12_bearers_103 rfl rfl mr_12_135 rfl rfl rfl (c_passes (s := (lS t (min N 48) m b (bS t (min N 48) m b))) (c := 59) (by rw [lS, if_pos (by omega)]; exact hR5) (by decide)) ?_
        rintro _ _ ⟨rfl, I6, rfl, hx6, hR6⟩
        show Ev lyM (d + 7) hX12_bearers 106 [some (.ref 0), some (.int (nI (b + 1))), some (.int w2), z3] [.int (if pk t (min N 48) (lS t (min N 48) m b (bS t (min N 48) m b)) = nI 59 then 1 else 0)] (I6, J, R2) _
        refine ev_st (L' := [some (.ref 0), some (.int (nI (b + 1))), some (.int (if pk t (min N 48) (lS t (min N 48) m b (bS t (min N 48) m b)) = nI 59 then 1 else 0)), z3]) dX12_bearers_106 rfl rfl ?_
        refine ev_goto (t := 24) dX12_bearers_107 (by decide) ?_
        refine ev_st dX12_bearers_24 rfl rfl ?_
        refine ev_if_eq (t := 110) (x := if pk t (min N 48) (lS t (min N 48) m b (bS t (min N 48) m b)) = nI 59 then 1 else 0) dX12_bearers_25 (by decide) (fun c_25 => ?_) (fun c_25 => ?_)
        · have hw9 : bEnd t (min N 48) m b := ⟨if01n c_25, hmo⟩
          rw [sPass, if_neg (if01n c_25)] at hR6
          by_cases hok : (sFin N (lS t (min N 48) m b (bS t (min N 48) m b))).1 = true
          · exact absurd (sFin_f hok).1 (by rw [lS, if_pos (by omega)]; simp)
          · exact c_bearers0 hm0 hm8 hR6 hw9 ((hb2.r hx5).r hx6) h19 (fun q => absurd q (by rw [lS, if_pos (by omega)]; simp)) (by simpa using hok)
        · refine ev_st dX12_bearers_28 rfl rfl ?_
          refine ev_call dX12_bearers_29 rfl rfl mr_12_127 rfl rfl rfl (c_fineF (a := (lS t (min N 48) m b (bS t (min N 48) m b)).2 + 1) (by rw [sPass, if_pos (if01 c_25)] at hR6; exact hR6)) ?_
          rintro _ _ ⟨rfl, rfl⟩
          show Ev lyM (d + 7) hX12_bearers 32 [some (.ref 0), some (.int (nI (b + 1))), some (.int (if pk t (min N 48) (lS t (min N 48) m b (bS t (min N 48) m b)) = nI 59 then 1 else 0)), z3] [.int 1] (I6, J, R2) _
          refine ev_if_eq (t := 110) dX12_bearers_32 (by decide) (fun q => absurd q (by decide)) (fun _ => ?_)
          exact absurd (more_m (m := m) (i := b) (if01 c_25)) (by omega)
  show Ev lyM (d + 7) hX12_bearers 11 [some (.ref 0), none, none, none] [] (I2, J, R2) _
  refine ev_st dX12_bearers_11 rfl rfl ?_
  refine ev_getI (v := nI N) dX12_bearers_12 fr_12_111 rfl rfl hR2.2.2.1 ?_
  refine ev_if_neN (t := 20) (a := N) dX12_bearers_15 (by decide) rfl (by omega) (fun c_15 => ?_) (fun c_15 => ?_)
  · refine ev_iconst (v := 0) dX12_bearers_20 (by decide) ?_
    refine ev_st (L' := [some (.ref 0), some (.int 0), none, none]) dX12_bearers_21 rfl rfl ?_
    refine ev_iconst (v := 1) dX12_bearers_22 (by decide) ?_
    refine ev_st (L' := [some (.ref 0), some (.int 0), some (.int 1), none]) dX12_bearers_23 rfl rfl ?_
    refine ev_st dX12_bearers_24 rfl rfl ?_
    refine ev_if_eq (t := 110) dX12_bearers_25 (by decide) (fun q => absurd q (by decide)) (fun _ => ?_)
    refine ev_st dX12_bearers_28 rfl rfl ?_
    refine ev_call dX12_bearers_29 rfl rfl mr_12_127 rfl rfl rfl (c_fineF hR2) ?_
    rintro _ _ ⟨rfl, rfl⟩
    show Ev lyM (d + 7) hX12_bearers 32 [some (.ref 0), some (.int 0), some (.int 1), none] [.int 1] (I2, J, R2) _
    refine ev_if_eq (t := 110) dX12_bearers_32 (by decide) (fun q => absurd q (by decide)) (fun _ => ?_)
    exact loop 10 0 _ _ I2 (by omega) (by omega) hR2 hb0 (fun i hi => by omega) (fun j hj => by omega) rfl
  · omega
