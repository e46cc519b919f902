/-! texts: ways, by both -/
theorem c_rightF {I : Nat → Nat → Int32} {J : Nat → Nat → Int64} {R : Nat → Nat → Value} {rp : Nat} {t : Nat → Nat} {d E N T a : Nat} (hR : mR rp I R t E N T (true, a)) : Cal lyM (d + 2) hX12_wasRight 1 [.ref 0] (I, J, R) (fun r M' => r = some (.int (b2i (sFin N (true, a)).1)) ∧ ∃ I3, M' = (I3, J, R) ∧ rF I I3 ∧ mR rp I3 R t E N T (sFin N (true, a))) := by
  obtain ⟨nn, hly, hNn, hn80⟩ := hR.ly
  obtain ⟨hr13, h14, h15, hT80, hE, ht, haE, h17, h16⟩ : R 0 13 = .ref rp ∧ I 0 14 = nI N ∧ I 0 15 = nI T ∧ T ≤ 80 ∧ E = min N T ∧ (∀ k, k < N → I rp k = bI (t k) ∧ t k < 256) ∧ a ≤ E ∧ I 0 17 = -1 ∧ I 0 16 = nI a := (by obtain ⟨h1, h2, h3, h4, h5, h6, h7, h8, h9⟩ := hR; rw [if_pos rfl] at h9; exact ⟨h1, h3, h4, h5, h6, h7, h8, h9.1, h9.2⟩)
  have hEN : E ≤ N := by omega
  show Ev lyM (d + 2) hX12_wasRight 0 [some (.ref 0)] [] (I, J, R) _
  refine ev_st dX12_wasRight_0 rfl rfl ?_
  refine ev_getI (v := nI a) dX12_wasRight_1 fr_12_117 rfl rfl h16 ?_
  refine ev_st dX12_wasRight_4 rfl rfl ?_
  refine ev_getI (v := nI N) dX12_wasRight_5 fr_12_111 rfl rfl h14 ?_
  refine ev_ic_geN (t := 19) (a := a) (b := N) dX12_wasRight_8 (by decide) rfl rfl (by omega) (by omega) (fun c_8 => ?_) (fun c_8 => ?_)
  · refine ev_st dX12_wasRight_19 rfl rfl ?_
    refine ev_call dX12_wasRight_20 rfl rfl mr_12_127 rfl rfl rfl (c_fineF hR) ?_
    rintro _ _ ⟨rfl, rfl⟩
    show Ev lyM (d + 2) hX12_wasRight 23 [some (.ref 0)] [.int 1] (I, J, R) _
    exact ev_zret dX12_wasRight_23 rfl (by decide) (by rw [sFin, if_pos rfl, if_neg (show ¬ a < N by omega)]; exact ⟨rfl, _, rfl, rF.rf, hR⟩)
  · refine ev_st dX12_wasRight_11 rfl rfl ?_
    refine ev_st dX12_wasRight_12 rfl rfl ?_
    refine ev_getI (v := nI a) dX12_wasRight_13 fr_12_117 rfl rfl h16 ?_
    refine ev_call dX12_wasRight_16 rfl rfl mr_12_139 rfl rfl rfl (c_faultF hR (nI a)) ?_
    rintro _ _ ⟨rfl, rfl⟩
    show Ev lyM (d + 2) hX12_wasRight 19 [some (.ref 0)] [] (ti_wr I 0 17 (nI a), J, R) _
    refine ev_st dX12_wasRight_19 rfl rfl ?_
    refine ev_call dX12_wasRight_20 rfl rfl mr_12_127 rfl rfl rfl (c_fineE (e := a) (hR.flt haE)) ?_
    rintro _ _ ⟨rfl, rfl⟩
    show Ev lyM (d + 2) hX12_wasRight 23 [some (.ref 0)] [.int 0] (ti_wr I 0 17 (nI a), J, R) _
    exact ev_zret dX12_wasRight_23 rfl (by decide) (by rw [sFin, if_pos rfl, if_pos (show a < N by omega)]; exact ⟨rfl, _, rfl, rF.rf.w17, hR.flt haE⟩)
theorem c_rightE {I : Nat → Nat → Int32} {J : Nat → Nat → Int64} {R : Nat → Nat → Value} {rp : Nat} {t : Nat → Nat} {d E N T e : Nat} (hR : mR rp I R t E N T (false, e)) : Cal lyM (d + 2) hX12_wasRight 1 [.ref 0] (I, J, R) (fun r M' => r = some (.int 0) ∧ M' = (I, J, R)) := by
  obtain ⟨nn, hly, hNn, hn80⟩ := hR.ly
  obtain ⟨hr13, h14, h15, hT80, hE, ht, haE, h17, b, hbE, h16⟩ : R 0 13 = .ref rp ∧ I 0 14 = nI N ∧ I 0 15 = nI T ∧ T ≤ 80 ∧ E = min N T ∧ (∀ k, k < N → I rp k = bI (t k) ∧ t k < 256) ∧ e ≤ E ∧ I 0 17 = nI e ∧ ∃ b, b ≤ E ∧ I 0 16 = nI b := (by obtain ⟨h1, h2, h3, h4, h5, h6, h7, h8, h9⟩ := hR; rw [if_neg (by simp)] at h9; exact ⟨h1, h3, h4, h5, h6, h7, h8, h9.1, h9.2⟩)
  have hEN : E ≤ N := by omega
  show Ev lyM (d + 2) hX12_wasRight 0 [some (.ref 0)] [] (I, J, R) _
  refine ev_st dX12_wasRight_0 rfl rfl ?_
  refine ev_getI (v := nI b) dX12_wasRight_1 fr_12_117 rfl rfl h16 ?_
  refine ev_st dX12_wasRight_4 rfl rfl ?_
  refine ev_getI (v := nI N) dX12_wasRight_5 fr_12_111 rfl rfl h14 ?_
  refine ev_ic_geN (t := 19) (a := b) (b := N) dX12_wasRight_8 (by decide) rfl rfl (by omega) (by omega) (fun c_8 => ?_) (fun c_8 => ?_)
  · refine ev_st dX12_wasRight_19 rfl rfl ?_
    refine ev_call dX12_wasRight_20 rfl rfl mr_12_127 rfl rfl rfl (c_fineE hR) ?_
    rintro _ _ ⟨rfl, rfl⟩
    show Ev lyM (d + 2) hX12_wasRight 23 [some (.ref 0)] [.int 0] (I, J, R) _
    exact ev_zret dX12_wasRight_23 rfl (by decide) (⟨rfl, rfl⟩)
  · refine ev_st dX12_wasRight_11 rfl rfl ?_
    refine ev_st dX12_wasRight_12 rfl rfl ?_
    refine ev_getI (v := nI b) dX12_wasRight_13 fr_12_117 rfl rfl h16 ?_
    refine ev_call dX12_wasRight_16 rfl rfl mr_12_139 rfl rfl rfl (c_faultE hR (nI b)) ?_
    rintro _ _ ⟨rfl, rfl⟩
    show Ev lyM (d + 2) hX12_wasRight 19 [some (.ref 0)] [] (I, J, R) _
    refine ev_st dX12_wasRight_19 rfl rfl ?_
    refine ev_call dX12_wasRight_20 rfl rfl mr_12_127 rfl rfl rfl (c_fineE hR) ?_
    rintro _ _ ⟨rfl, rfl⟩
    show Ev lyM (d + 2) hX12_wasRight 23 [some (.ref 0)] [.int 0] (I, J, R) _
    exact ev_zret dX12_wasRight_23 rfl (by decide) (⟨rfl, rfl⟩)
theorem c_right {I : Nat → Nat → Int32} {J : Nat → Nat → Int64} {R : Nat → Nat → Value} {rp : Nat} {t : Nat → Nat} {d E N T : Nat} {s : PS} (hR : mR rp I R t E N T s) : Cal lyM (d + 2) hX12_wasRight 1 [.ref 0] (I, J, R) (fun r M' => r = some (.int (b2i (sFin N s).1)) ∧ ∃ I3, M' = (I3, J, R) ∧ rF I I3 ∧ mR rp I3 R t E N T (sFin N s)) := by
  obtain ⟨b, a⟩ := s
  cases b
  · rw [show sFin N (false, a) = (false, a) by rw [sFin, if_neg (by simp)]]
    exact (c_rightE hR).imp (fun r M' ⟨e1, e2⟩ => ⟨e1, _, e2, rF.rf, hR⟩)
  · exact c_rightF hR
/-- what a call leaves of the model that begins a text: the reader's fields, the text's length, thrown -/
def bF (I I3 : Nat → Nat → Int32) : Prop := (∀ p, p ≠ 0 → I3 p = I p) ∧ (∀ k, k ≠ 9 → k ≠ 12 → k ≠ 14 → k ≠ 15 → k ≠ 16 → k ≠ 17 → k ≠ 22 → I3 0 k = I 0 k) ∧ I3 0 9 = 0 ∧ I3 0 12 = 0
theorem bF.r {I I2 I3 : Nat → Nat → Int32} (h : bF I I2) (g : rF I2 I3) : bF I I3 := ⟨fun p a => (g.1 p a).trans (h.1 p a), fun k a b c d e f g' => (g.2 k e f).trans (h.2.1 k a b c d e f g'), (g.2 9 (by decide) (by decide)).trans h.2.2.1, (g.2 12 (by decide) (by decide)).trans h.2.2.2⟩
theorem bF.k {I I3 : Nat → Nat → Int32} (h : bF I I3) (k : Nat) (hk : (k != 9 && (k != 12 && (k != 14 && (k != 15 && (k != 16 && (k != 17 && k != 22)))))) = true) : I3 0 k = I 0 k := by
  simp at hk
  exact h.2.1 k hk.1 hk.2.1 hk.2.2.1 hk.2.2.2.1 hk.2.2.2.2.1 hk.2.2.2.2.2.1 hk.2.2.2.2.2.2
theorem bF.p {I I3 : Nat → Nat → Int32} (h : bF I I3) (p : Nat) (hp : (p != 0) = true) : I3 p = I p := h.1 p (by simpa using hp)
theorem c_beginText {I : Nat → Nat → Int32} {J : Nat → Nat → Int64} {R : Nat → Nat → Value} {t : Nat → Nat} {d N T : Nat} (hT : mT I t N) (hT80 : T ≤ 80) (h12 : I 0 12 = 0) : Cal lyM (d + 1) hX12_beginText 2 [.ref 0, .int (nI T)] (I, J, R) (fun r M' => r = none ∧ ∃ I3 R3, M' = (I3, J, R3) ∧ bF I I3 ∧ R3 0 19 = R 0 19 ∧ mR 6 I3 R3 t (min N T) N T (true, 0)) := by
  obtain ⟨h9, h80, ht⟩ := hT
  show Ev lyM (d + 1) hX12_beginText 0 [some (.ref 0), some (.int (nI T))] [] (I, J, R) _
  refine ev_st dX12_beginText_0 rfl rfl ?_
  refine ev_st dX12_beginText_1 rfl rfl ?_
  refine ev_getC dX12_beginText_2 fr_12_29 rfl rfl ?_
  refine ev_st dX12_beginText_5 rfl rfl ?_
  refine ev_getI (v := nI N) dX12_beginText_6 fr_12_105 rfl rfl h9 ?_
  refine ev_st dX12_beginText_9 rfl rfl ?_
  refine ev_call dX12_beginText_10 rfl rfl mr_12_123 rfl rfl rfl (c_begin (nI N) (nI T)) ?_
  rintro _ _ ⟨rfl, rfl⟩
  show Ev lyM (d + 1) hX12_beginText 13 [some (.ref 0), some (.int (nI T))] [] (ti_wr (ti_wr (ti_wr (ti_wr I 0 14 (nI N)) 0 15 (nI T)) 0 16 0) 0 17 ((-1)), J, ti_wf R 0 13 (.ref 6)) _
  refine ev_st dX12_beginText_13 rfl rfl ?_
  refine ev_iconst (v := 0) dX12_beginText_14 (by decide) ?_
  refine ev_putI dX12_beginText_15 fr_12_105 rfl rfl ?_
  exact ev_vret dX12_beginText_18 rfl (⟨rfl, _, _, rfl, ⟨fun p a => by simp only [ti_wr_n a], fun k a b c d e f g => by simp only [wr_ne a, wr_ne b, wr_ne c, wr_ne d, wr_ne e, wr_ne f], rfl, h12⟩, rfl, rfl, Or.inl ⟨rfl, h80⟩, rfl, rfl, hT80, rfl, ht, Nat.zero_le _, by rw [if_pos rfl]; exact ⟨rfl, rfl⟩⟩)
theorem c_told {I : Nat → Nat → Int32} {J : Nat → Nat → Int64} {R : Nat → Nat → Value} {d : Nat} : Cal lyM d hX12_told 1 [.ref 0] (I, J, R) (fun r M' => r = none ∧ M' = (ti_wr (ti_wr I 0 25 0) 0 39 (I 0 39 + 1), J, R)) := by
  show Ev lyM d hX12_told 0 [some (.ref 0)] [] (I, J, R) _
  refine ev_st dX12_told_0 rfl rfl ?_
  refine ev_iconst (v := 0) dX12_told_1 (by decide) ?_
  refine ev_putI dX12_told_2 fr_12_147 rfl rfl ?_
  refine ev_st dX12_told_5 rfl rfl ?_
  refine ev_st dX12_told_6 rfl rfl ?_
  refine ev_getI (v := I 0 39) dX12_told_7 fr_12_150 rfl rfl rfl ?_
  refine ev_iconst (v := 1) dX12_told_10 (by decide) ?_
  refine ev_st dX12_told_11 rfl rfl ?_
  refine ev_putI dX12_told_12 fr_12_150 rfl rfl ?_
  exact ev_vret dX12_told_15 rfl (⟨rfl, rfl⟩)
/-- the reader behind n digits of a way -/
def wS (t : Nat → Nat) (E : Nat) : Nat → PS
  | 0 => (true, 0)
  | n + 1 => (sNum t E 1 0 9 (wS t E n)).2
def wV (t : Nat → Nat) (E n : Nat) : Nat := (sNum t E 1 0 9 (wS t E n)).1
def goes (E : Nat) (s : PS) : Prop := s.1 = true ∧ s.2 < E
/-- the way has n corners, if all is right -/
def wEnd (t : Nat → Nat) (E n : Nat) : Prop := 1 ≤ n ∧ ¬ goes E (wS t E n) ∧ ∀ j, 1 ≤ j → j < n → goes E (wS t E j)
theorem wEnd_u {t : Nat → Nat} {E n m : Nat} (h : wEnd t E n) (g : wEnd t E m) : n = m := by
  rcases (by omega : n < m ∨ n = m ∨ m < n) with q | q | q
  · exact absurd (g.2.2 n h.1 q) h.2.1
  · exact q
  · exact absurd (h.2.2 m g.1 q) g.2.1
theorem pkS_m1 {t : Nat → Nat} {E : Nat} {s : PS} (ht : ∀ k, k < E → t k < 256) : pk t E s = -1 ↔ ¬ goes E s := by
  unfold pk goes
  by_cases h1 : s.1 = true
  · rw [if_pos h1]
    by_cases h2 : s.2 < E
    · rw [if_pos h2]
      exact ⟨fun q => absurd q (neM1 (by have := ht _ h2; omega)), fun q => absurd ⟨h1, h2⟩ q⟩
    · rw [if_neg h2]; exact ⟨fun _ q => h2 q.2, fun _ => rfl⟩
  · rw [if_neg h1]; exact ⟨fun _ q => h1 q.1, fun _ => rfl⟩
theorem num1_at {t : Nat → Nat} {E : Nat} {s : PS} (h : (sNum t E 1 0 9 s).2.1 = true) : s.1 = true ∧ (sNum t E 1 0 9 s).2.2 = s.2 + 1 ∧ s.2 < E ∧ (sNum t E 1 0 9 s).1 ≤ 9 := by
  rw [← one_num] at h ⊢
  unfold sOne at h ⊢
  by_cases h1 : s.1 = true
  · rw [if_pos h1] at h ⊢
    by_cases h2 : s.2 < E ∧ 48 ≤ t s.2 ∧ t s.2 < 48 + 10
    · rw [if_pos h2]; exact ⟨h1, rfl, h2.1, by show t s.2 - 48 ≤ 9; omega⟩
    · rw [if_neg h2] at h; cases h
  · rw [if_neg h1] at h; exact absurd h h1
theorem wS_at {t : Nat → Nat} {E : Nat} : ∀ n, (wS t E n).1 = true → (wS t E n).2 = n ∧ n ≤ E
  | 0, _ => ⟨rfl, Nat.zero_le _⟩
  | n + 1, h => by
    have k := num1_at h
    have ih := wS_at n k.1
    exact ⟨by show (sNum t E 1 0 9 (wS t E n)).2.2 = n + 1; rw [k.2.1, ih.1], by have := k.2.2.1; rw [ih.1] at this; omega⟩
theorem wEnd_le {t : Nat → Nat} {E n : Nat} (hE : E ≤ 12) (h : wEnd t E n) : n ≤ 12 := by
  by_cases q : n = 1
  · omega
  · have g := h.2.2 (n - 1) (by have := h.1; omega) (by have := h.1; omega)
    have := (wS_at (n - 1) g.1).1
    have := g.2
    omega
theorem wV9 {t : Nat → Nat} {E n k : Nat} (h : (wS t E n).1 = true) (hk : k < n) : wV t E k ≤ 9 := by
  have : ∀ j, j ≤ n → (wS t E j).1 = true := by
    intro j hj
    obtain ⟨i, rfl⟩ : ∃ i, n = j + i := ⟨n - j, by omega⟩
    clear hj hk
    induction i with
    | zero => exact h
    | succ i ih => exact ih (num1_at h).1
  exact (num1_at (this (k + 1) (by omega))).2.2.2
theorem cR7 {I : Nat → Nat → Int32} {t : Nat → Nat} {E N k : Nat} {s : PS} {v : Int32} (h : cR I t E N s) : cR (ti_wr I 7 k v) t E N s := by
  unfold cR
  rw [ti_wr_n (show (1 : Nat) ≠ 7 by decide), ti_wr_n (show (2 : Nat) ≠ 7 by decide)]
  exact h
set_option maxHeartbeats 1000000 in
theorem k_way2_1 {I I2 : Nat → Nat → Int32} {J : Nat → Nat → Int64} {R : Nat → Nat → Value} {t : Nat → Nat} {d N n : Nat} (hR : cR I2 t (min N 12) N (wS t (min N 12) n)) (hw : wEnd t (min N 12) n) (hx : ∀ p, p ≠ 1 → p ≠ 5 → p ≠ 6 → p ≠ 7 → I2 p = I p) (h7 : ∀ k, k < n → I2 7 k = nI (wV t (min N 12) k)) (h5 : I2 5 = I 5) (h6 : I2 6 = I 6) (hok : (sFin N (wS t (min N 12) n)).1 = true) : Ev lyC (d + 2) hX10_read 39 [some (.ref 5), some (.ref 1), some (.int (nI n)), none] [] (I2, J, R) (fun r M' => ∃ n I3, wEnd t (min N 12) n ∧ M' = (I3, J, R) ∧ (∀ p, p ≠ 1 → p ≠ 5 → p ≠ 6 → p ≠ 7 → I3 p = I p) ∧ I3 1 1 = 0 ∧ if (sFin N (wS t (min N 12) n)).1 = true then r = some (.int (-1)) ∧ I3 5 2 = nI n ∧ (∀ k, k < n → I3 6 k = nI (wV t (min N 12) k)) else r = some (.int (nI (sFin N (wS t (min N 12) n)).2)) ∧ I3 5 = I 5 ∧ I3 6 = I 6) := by
  have hn12 := wEnd_le (by omega) hw
  have hn1 := hw.1
  have hE : min N 12 ≤ 12 := by omega
  have hR6 := hR.2.2.2.2.2.1
  have hf2 : (sFin N (wS t (min N 12) n)).2 ≤ 12 := by unfold sFin; split; (split; (exact Nat.le_trans hR6 hE); (exact Nat.le_trans hR6 hE)); (exact Nat.le_trans hR6 hE)
  refine ev_st dX10_read_39 rfl rfl ?_
  refine ev_call dX10_read_40 rfl rfl mr_10_36 rfl rfl rfl (k_close hR) ?_
  rintro _ _ ⟨e1, rfl⟩
  rw [if_pos hok] at e1
  subst e1
  show Ev lyC (d + 2) hX10_read 43 [some (.ref 5), some (.ref 1), some (.int (nI n)), none] [.int ((-1))] (ti_wr I2 1 1 0, J, R) _
  refine ev_st (L' := [some (.ref 5), some (.ref 1), some (.int (nI n)), some (.int ((-1)))]) dX10_read_43 rfl rfl ?_
  refine ev_st dX10_read_44 rfl rfl ?_
  refine ev_if_ge (t := 67) dX10_read_45 (by decide) (fun q => absurd q (by decide)) (fun _ => ?_)
  refine ev_st dX10_read_48 rfl rfl ?_
  refine ev_getC dX10_read_49 fr_10_15 rfl rfl ?_
  refine ev_iconst (v := 0) dX10_read_52 (by decide) ?_
  refine ev_st dX10_read_53 rfl rfl ?_
  refine ev_getC dX10_read_54 fr_10_9 rfl rfl ?_
  refine ev_iconst (v := 0) dX10_read_57 (by decide) ?_
  refine ev_st dX10_read_58 rfl rfl ?_
  refine ev_copy (n := n) (sp := 0) (dp := 0) dX10_read_59 br_10_39 rfl rfl rfl rfl rfl rfl (by omega) (by omega) (by decide) (by decide) ?_
  refine ev_st dX10_read_62 rfl rfl ?_
  refine ev_st dX10_read_63 rfl rfl ?_
  refine ev_putI dX10_read_64 fr_10_18 rfl rfl ?_
  refine ev_st dX10_read_67 rfl rfl ?_
  exact ev_iret dX10_read_68 rfl (⟨n, _, hw, rfl, fun p a b c d => by rw [ti_wr_n b, va_up_n c, ti_wr_n a]; exact hx p a b c d, rfl, by rw [if_pos hok]; exact ⟨rfl, rfl, fun k hk => by rw [ti_wr_n (by decide), va_up_q]; simp only [va_cpy, Nat.zero_le, Nat.zero_add, Nat.sub_zero, hk, true_and, if_true]; exact h7 k hk⟩⟩)
set_option maxHeartbeats 1000000 in
theorem k_way2_0 {I I2 : Nat → Nat → Int32} {J : Nat → Nat → Int64} {R : Nat → Nat → Value} {t : Nat → Nat} {d N n : Nat} (hR : cR I2 t (min N 12) N (wS t (min N 12) n)) (hw : wEnd t (min N 12) n) (hx : ∀ p, p ≠ 1 → p ≠ 5 → p ≠ 6 → p ≠ 7 → I2 p = I p) (h7 : ∀ k, k < n → I2 7 k = nI (wV t (min N 12) k)) (h5 : I2 5 = I 5) (h6 : I2 6 = I 6) (hok : ¬ (sFin N (wS t (min N 12) n)).1 = true) : Ev lyC (d + 2) hX10_read 39 [some (.ref 5), some (.ref 1), some (.int (nI n)), none] [] (I2, J, R) (fun r M' => ∃ n I3, wEnd t (min N 12) n ∧ M' = (I3, J, R) ∧ (∀ p, p ≠ 1 → p ≠ 5 → p ≠ 6 → p ≠ 7 → I3 p = I p) ∧ I3 1 1 = 0 ∧ if (sFin N (wS t (min N 12) n)).1 = true then r = some (.int (-1)) ∧ I3 5 2 = nI n ∧ (∀ k, k < n → I3 6 k = nI (wV t (min N 12) k)) else r = some (.int (nI (sFin N (wS t (min N 12) n)).2)) ∧ I3 5 = I 5 ∧ I3 6 = I 6) := by
  have hn12 := wEnd_le (by omega) hw
  have hn1 := hw.1
  have hE : min N 12 ≤ 12 := by omega
  have hR6 := hR.2.2.2.2.2.1
  have hf2 : (sFin N (wS t (min N 12) n)).2 ≤ 12 := by unfold sFin; split; (split; (exact Nat.le_trans hR6 hE); (exact Nat.le_trans hR6 hE)); (exact Nat.le_trans hR6 hE)
  refine ev_st dX10_read_39 rfl rfl ?_
  refine ev_call dX10_read_40 rfl rfl mr_10_36 rfl rfl rfl (k_close hR) ?_
  rintro _ _ ⟨e1, rfl⟩
  rw [if_neg hok] at e1
  subst e1
  show Ev lyC (d + 2) hX10_read 43 [some (.ref 5), some (.ref 1), some (.int (nI n)), none] [.int (nI ((sFin N (wS t (min N 12) n)).2))] (ti_wr I2 1 1 0, J, R) _
  refine ev_st (L' := [some (.ref 5), some (.ref 1), some (.int (nI n)), some (.int (nI ((sFin N (wS t (min N 12) n)).2)))]) dX10_read_43 rfl rfl ?_
  refine ev_st dX10_read_44 rfl rfl ?_
  refine ev_if_geN (t := 67) (a := (sFin N (wS t (min N 12) n)).2) dX10_read_45 (by decide) rfl (by omega) ?_
  refine ev_st dX10_read_67 rfl rfl ?_
  exact ev_iret dX10_read_68 rfl (⟨n, _, hw, rfl, fun p a b c d => by rw [ti_wr_n a]; exact hx p a b c d, rfl, by rw [if_neg hok]; exact ⟨rfl, by rw [ti_wr_n (by decide)]; exact h5, by rw [ti_wr_n (by decide)]; exact h6⟩⟩)
set_option maxHeartbeats 1000000 in
theorem k_wayRead {I : Nat → Nat → Int32} {J : Nat → Nat → Int64} {R : Nat → Nat → Value} {t : Nat → Nat} {d N : Nat} (hT : cT I t N) : Cal lyC (d + 2) hX10_read 4 [.ref 5, .ref 1] (I, J, R) (fun r M' => ∃ n I3, wEnd t (min N 12) n ∧ M' = (I3, J, R) ∧ (∀ p, p ≠ 1 → p ≠ 5 → p ≠ 6 → p ≠ 7 → I3 p = I p) ∧ I3 1 1 = 0 ∧ if (sFin N (wS t (min N 12) n)).1 = true then r = some (.int (-1)) ∧ I3 5 2 = nI n ∧ (∀ k, k < n → I3 6 k = nI (wV t (min N 12) k)) else r = some (.int (nI (sFin N (wS t (min N 12) n)).2)) ∧ I3 5 = I 5 ∧ I3 6 = I 6) := by
  have loop : ∀ (k b : Nat) (I2 : Nat → Nat → Int32), b < 12 → 12 - b < k → (∀ p, p ≠ 1 → p ≠ 5 → p ≠ 6 → p ≠ 7 → I2 p = I p) → cR I2 t (min N 12) N (wS t (min N 12) b) → (∀ k, k < b → I2 7 k = nI (wV t (min N 12) k)) → I2 5 = I 5 → I2 6 = I 6 → (∀ j, 1 ≤ j → j < b + 1 → goes (min N 12) (wS t (min N 12) j)) → Ev lyC (d + 2) hX10_read 8 [some (.ref 5), some (.ref 1), some (.int (nI b)), none] [] (I2, J, R) (fun r M' => ∃ n I3, wEnd t (min N 12) n ∧ M' = (I3, J, R) ∧ (∀ p, p ≠ 1 → p ≠ 5 → p ≠ 6 → p ≠ 7 → I3 p = I p) ∧ I3 1 1 = 0 ∧ if (sFin N (wS t (min N 12) n)).1 = true then r = some (.int (-1)) ∧ I3 5 2 = nI n ∧ (∀ k, k < n → I3 6 k = nI (wV t (min N 12) k)) else r = some (.int (nI (sFin N (wS t (min N 12) n)).2)) ∧ I3 5 = I 5 ∧ I3 6 = I 6) := by
    intro k
    induction k with
    | zero => intro b I2 h1 h2; omega
    | succ k ih =>
      intro b I2 hb hk hx2 hR2 h7 h5 h6 hg
      refine ev_st dX10_read_8 rfl rfl ?_
      refine ev_getC dX10_read_9 fr_10_15 rfl rfl ?_
      refine ev_st dX10_read_12 rfl rfl ?_
      refine ev_st dX10_read_13 rfl rfl ?_
      refine ev_iconst (v := 1) dX10_read_14 (by decide) ?_
      refine ev_iconst (v := 0) dX10_read_15 (by decide) ?_
      refine ev_bipush (v := 9) dX10_read_16 (by decide) ?_
      refine ev_call dX10_read_18 rfl rfl mr_10_28 rfl rfl rfl (k_rn (m := 1) (lo := 0) (hi := 9) hR2 (by decide) (by decide) (by decide) (by decide)) ?_
      rintro _ _ ⟨rfl, I3, rfl, hx3, hR3⟩
      show Ev lyC (d + 2) hX10_read 21 [some (.ref 5), some (.ref 1), some (.int (nI b)), none] [.int (nI (wV t (min N 12) b)), .int (nI b), .ref 7] (I3, J, R) _
      refine ev_iast (j := b) dX10_read_21 rfl rfl (by omega) (by decide) ?_
      refine ev_iincN (a := b) (b := b + 1) (L' := [some (.ref 5), some (.ref 1), some (.int (nI (b + 1))), none]) dX10_read_22 rfl (nI_1 _) rfl ?_
      refine ev_st dX10_read_25 rfl rfl ?_
      refine ev_bipush (v := 12) dX10_read_26 (by decide) ?_
      refine ev_ic_geN (t := 39) (a := b + 1) (b := 12) dX10_read_28 (by decide) rfl rfl (by omega) (by omega) (fun c_28 => ?_) (fun c_28 => ?_)
      · have hw9 : wEnd t (min N 12) (b + 1) := ⟨by omega, (by intro g; have := (wS_at (b + 1) g.1).1; have := g.2; omega), hg⟩
        have hx9 : ∀ p, p ≠ 1 → p ≠ 5 → p ≠ 6 → p ≠ 7 → ti_wr I3 7 b (nI (wV t (min N 12) b)) p = I p := fun p a b c d => by rw [ti_wr_n d, hx3 p a]; exact hx2 p a b c d
        have h79 : ∀ k, k < b + 1 → ti_wr I3 7 b (nI (wV t (min N 12) b)) 7 k = nI (wV t (min N 12) k) := fun k hk => by by_cases e : k = b; (rw [e, ti_wr_at]); (rw [wr_ne e, hx3 7 (by decide)]; exact h7 k (by omega))
        have h59 : ti_wr I3 7 b (nI (wV t (min N 12) b)) 5 = I 5 := by rw [ti_wr_n (by decide), hx3 5 (by decide)]; exact h5
        have h69 : ti_wr I3 7 b (nI (wV t (min N 12) b)) 6 = I 6 := by rw [ti_wr_n (by decide), hx3 6 (by decide)]; exact h6
        by_cases hok : (sFin N (wS t (min N 12) (b + 1))).1 = true
        · exact k_way2_1 (cR7 hR3) hw9 hx9 h79 h59 h69 hok
        · exact k_way2_0 (cR7 hR3) hw9 hx9 h79 h59 h69 hok
      · refine ev_st dX10_read_31 rfl rfl ?_
        refine ev_call dX10_read_32 rfl rfl mr_10_32 rfl rfl rfl (k_peek (s := wS t (min N 12) (b + 1)) (cR7 hR3)) ?_
        rintro _ _ ⟨rfl, rfl⟩
        show Ev lyC (d + 2) hX10_read 35 [some (.ref 5), some (.ref 1), some (.int (nI (b + 1))), none] [.int (pk t (min N 12) (wS t (min N 12) (b + 1)))] (ti_wr I3 7 b (nI (wV t (min N 12) b)), J, R) _
        refine ev_iconst (v := -1) dX10_read_35 (by decide) ?_
        refine ev_ic_ne (t := 8) (x := pk t (min N 12) (wS t (min N 12) (b + 1))) (y := (-1)) dX10_read_36 (by decide) (fun c_36 => ?_) (fun c_36 => ?_)
        · exact ih _ _ (by omega) (by omega) (fun p a b c d => by rw [ti_wr_n d, hx3 p a]; exact hx2 p a b c d) (cR7 hR3) (fun k hk => by by_cases e : k = b; (rw [e, ti_wr_at]); (rw [wr_ne e, hx3 7 (by decide)]; exact h7 k (by omega))) (by rw [ti_wr_n (by decide), hx3 5 (by decide)]; exact h5) (by rw [ti_wr_n (by decide), hx3 6 (by decide)]; exact h6) (all_1 hg (Classical.byContradiction fun q => c_36 ((pkS_m1 hR3.t).mpr q)))
        · have hw9 : wEnd t (min N 12) (b + 1) := ⟨by omega, ((pkS_m1 hR3.t).mp c_36), hg⟩
          have hx9 : ∀ p, p ≠ 1 → p ≠ 5 → p ≠ 6 → p ≠ 7 → ti_wr I3 7 b (nI (wV t (min N 12) b)) p = I p := fun p a b c d => by rw [ti_wr_n d, hx3 p a]; exact hx2 p a b c d
          have h79 : ∀ k, k < b + 1 → ti_wr I3 7 b (nI (wV t (min N 12) b)) 7 k = nI (wV t (min N 12) k) := fun k hk => by by_cases e : k = b; (rw [e, ti_wr_at]); (rw [wr_ne e, hx3 7 (by decide)]; exact h7 k (by omega))
          have h59 : ti_wr I3 7 b (nI (wV t (min N 12) b)) 5 = I 5 := by rw [ti_wr_n (by decide), hx3 5 (by decide)]; exact h5
          have h69 : ti_wr I3 7 b (nI (wV t (min N 12) b)) 6 = I 6 := by rw [ti_wr_n (by decide), hx3 6 (by decide)]; exact h6
          by_cases hok : (sFin N (wS t (min N 12) (b + 1))).1 = true
          · exact k_way2_1 (cR7 hR3) hw9 hx9 h79 h59 h69 hok
          · exact k_way2_0 (cR7 hR3) hw9 hx9 h79 h59 h69 hok
  show Ev lyC (d + 2) hX10_read 0 [some (.ref 5), some (.ref 1), none, none] [] (I, J, R) _
  refine ev_st dX10_read_0 rfl rfl ?_
  refine ev_bipush (v := 12) dX10_read_1 (by decide) ?_
  refine ev_call dX10_read_3 rfl rfl mr_10_22 rfl rfl rfl (k_open hT (by decide)) ?_
  rintro _ _ ⟨rfl, I2, rfl, hx2, hR2⟩
  show Ev lyC (d + 2) hX10_read 6 [some (.ref 5), some (.ref 1), none, none] [] (I2, J, R) _
  refine ev_iconst (v := 0) dX10_read_6 (by decide) ?_
  refine ev_st (L' := [some (.ref 5), some (.ref 1), some (.int 0), none]) dX10_read_7 rfl rfl ?_
  exact loop 13 0 I2 (by omega) (by omega) (fun p a b c d => hx2 p a) hR2 (fun k hk => by omega) (hx2 5 (by decide)) (hx2 6 (by decide)) (fun j h1 h2 => by omega)
