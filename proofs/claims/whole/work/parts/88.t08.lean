/-! texts: ways, by both: the calls -/
theorem sFin_le {N E : Nat} {s : PS} (h : s.2 ≤ E) : (sFin N s).2 ≤ E := by
  unfold sFin
  split
  · split
    · exact h
    · exact h
  · exact h
theorem wS_le {t : Nat → Nat} {E : Nat} : ∀ n, (wS t E n).2 ≤ E
  | 0 => Nat.zero_le _
  | n + 1 => by
    show (sNum t E 1 0 9 (wS t E n)).2.2 ≤ E
    have ih := wS_le (t := t) (E := E) n
    have := (sdig_le (t := t) (E := E) 1 0 (wS t E n).2).2 ih
    unfold sNum
    split
    · split
      · exact ih
      · split
        · show (sdig t E 1 0 (wS t E n).2).2 - 1 ≤ E; omega
        · exact this
    · exact ih
theorem k_way0 {I : Nat → Nat → Int32} {J : Nat → Nat → Int64} {R : Nat → Nat → Value} {t : Nat → Nat} {d N n : Nat} (hT : cT I t N) (hw : wEnd t (min N 12) n) (hok : ¬ (sFin N (wS t (min N 12) n)).1 = true) : Cal lyC (d + 3) hX11_way 2 [.ref 0] (I, J, R) (fun r M' => r = some (.int (-1 - nI (sFin N (wS t (min N 12) n)).2)) ∧ ∃ I3, M' = (I3, J, R) ∧ (∀ p, p ≠ 1 → p ≠ 7 → I3 p = I p) ∧ I3 1 1 = 0) := by
  have hn12 := wEnd_le (by omega) hw
  have hf2 : (sFin N (wS t (min N 12) n)).2 ≤ 12 := Nat.le_trans (sFin_le (wS_le n)) (by omega)
  show Ev lyC (d + 3) hX11_way 0 [some (.ref 0), none] [] (I, J, R) _
  refine ev_st dX11_way_0 rfl rfl ?_
  refine ev_getC dX11_way_1 fr_11_26 rfl rfl ?_
  refine ev_st dX11_way_4 rfl rfl ?_
  refine ev_getC dX11_way_5 fr_11_10 rfl rfl ?_
  refine ev_call dX11_way_8 rfl rfl mr_11_109 rfl rfl rfl (k_wayRead hT) ?_
  rintro _ _ ⟨n2, I2, hw2, rfl, hx, h11, hq⟩
  obtain rfl := wEnd_u hw hw2
  rw [if_neg hok] at hq
  obtain ⟨rfl, h5, h6⟩ := hq
  show Ev lyC (d + 3) hX11_way 11 [some (.ref 0), none] [.int (nI ((sFin N (wS t (min N 12) n)).2))] (I2, J, R) _
  refine ev_st (L' := [some (.ref 0), some (.int (nI ((sFin N (wS t (min N 12) n)).2)))]) dX11_way_11 rfl rfl ?_
  refine ev_st dX11_way_12 rfl rfl ?_
  refine ev_if_ltN (t := 20) (a := (sFin N (wS t (min N 12) n)).2) dX11_way_13 (by decide) rfl (by omega) ?_
  refine ev_iconst (v := -1) dX11_way_16 (by decide) ?_
  refine ev_st dX11_way_17 rfl rfl ?_
  refine ev_st dX11_way_18 rfl rfl ?_
  exact ev_iret dX11_way_19 rfl (⟨rfl, _, rfl, fun p a b => by by_cases e5 : p = 5; (rw [e5]; exact h5); (by_cases e6 : p = 6; (rw [e6]; exact h6); (exact hx p a e5 e6 b)), h11⟩)
theorem k_way1 {I : Nat → Nat → Int32} {J : Nat → Nat → Int64} {R : Nat → Nat → Value} {t : Nat → Nat} {d N n : Nat} (hT : cT I t N) (hw : wEnd t (min N 12) n) (hok : (sFin N (wS t (min N 12) n)).1 = true) : Cal lyC (d + 3) hX11_way 2 [.ref 0] (I, J, R) (fun r M' => r = some (.int (nI n)) ∧ ∃ I3, M' = (I3, J, R) ∧ (∀ p, p ≠ 1 → p ≠ 5 → p ≠ 6 → p ≠ 7 → p ≠ 15 → p ≠ 39 → I3 p = I p) ∧ I3 1 1 = 0 ∧ I3 5 2 = nI n ∧ (∀ k, k < n → I3 6 k = nI (wV t (min N 12) k)) ∧ I3 39 = upd (upd (I 39) 1 0) 6 0 ∧ I3 15 = upd (upd (I 15) 5 0) 3 0) := by
  have hn12 := wEnd_le (by omega) hw
  have hf2 : (sFin N (wS t (min N 12) n)).2 ≤ 12 := Nat.le_trans (sFin_le (wS_le n)) (by omega)
  show Ev lyC (d + 3) hX11_way 0 [some (.ref 0), none] [] (I, J, R) _
  refine ev_st dX11_way_0 rfl rfl ?_
  refine ev_getC dX11_way_1 fr_11_26 rfl rfl ?_
  refine ev_st dX11_way_4 rfl rfl ?_
  refine ev_getC dX11_way_5 fr_11_10 rfl rfl ?_
  refine ev_call dX11_way_8 rfl rfl mr_11_109 rfl rfl rfl (k_wayRead hT) ?_
  rintro _ _ ⟨n2, I2, hw2, rfl, hx, h11, hq⟩
  obtain rfl := wEnd_u hw hw2
  rw [if_pos hok] at hq
  obtain ⟨rfl, h5, h6⟩ := hq
  show Ev lyC (d + 3) hX11_way 11 [some (.ref 0), none] [.int ((-1))] (I2, J, R) _
  refine ev_st (L' := [some (.ref 0), some (.int ((-1)))]) dX11_way_11 rfl rfl ?_
  refine ev_st dX11_way_12 rfl rfl ?_
  refine ev_if_lt (t := 20) dX11_way_13 (by decide) (fun _ => ?_) (fun q => absurd q (by decide))
  refine ev_st dX11_way_20 rfl rfl ?_
  refine ev_getC dX11_way_21 fr_11_49 rfl rfl ?_
  refine ev_iconst (v := 0) dX11_way_24 (by decide) ?_
  refine ev_putI dX11_way_25 fr_11_113 rfl rfl ?_
  refine ev_st dX11_way_28 rfl rfl ?_
  refine ev_getC dX11_way_29 fr_11_49 rfl rfl ?_
  refine ev_iconst (v := 0) dX11_way_32 (by decide) ?_
  refine ev_putZ dX11_way_33 fr_11_117 rfl rfl (by decide) ?_
  refine ev_st dX11_way_36 rfl rfl ?_
  refine ev_getC dX11_way_37 fr_11_56 rfl rfl ?_
  refine ev_call dX11_way_40 rfl rfl mr_11_121 rfl rfl rfl (k_forgetAll) ?_
  rintro _ _ ⟨rfl, rfl⟩
  show Ev lyC (d + 3) hX11_way 43 [some (.ref 0), some (.int ((-1)))] [] (ti_wr (ti_wr (ti_wr (ti_wr I2 39 1 0) 39 6 0) 15 5 0) 15 3 0, J, R) _
  refine ev_st dX11_way_43 rfl rfl ?_
  refine ev_getC dX11_way_44 fr_11_26 rfl rfl ?_
  refine ev_getI (v := nI n) dX11_way_47 fr_11_124 rfl rfl h5 ?_
  exact ev_iret dX11_way_50 rfl (⟨rfl, _, rfl, fun p a b c d e f => by simp only [ti_wr_n e, ti_wr_n f]; exact hx p a b c d, h11, h5, h6, by rw [ti_wr_n (by decide), ti_wr_n (by decide), wr_q, wr_q, hx 39 (by decide) (by decide) (by decide) (by decide)], by rw [wr_q, wr_q, ti_wr_n (by decide), ti_wr_n (by decide), hx 15 (by decide) (by decide) (by decide) (by decide)]⟩)
theorem pk_fine {t : Nat → Nat} {E : Nat} {s : PS} (h : s.1 = true) : pk t E (true, s.2) = pk t E s := by
  obtain ⟨b, a⟩ := s
  cases b
  · cases h
  · rfl
theorem mR8 {rp : Nat} {I : Nat → Nat → Int32} {R : Nat → Nat → Value} {t : Nat → Nat} {E N T k : Nat} {s : PS} {v : Int32} (h : mR rp I R t E N T s) : mR rp (ti_wr I 8 k v) R t E N T s := by
  have h0 : rp ≠ 8 := by rcases h.2.1 with ⟨rfl, _⟩ | ⟨rfl | rfl, _⟩ <;> decide
  unfold mR
  rw [ti_wr_n (show (0 : Nat) ≠ 8 by decide), ti_wr_n h0]
  exact h
/-- the model while it reads: but for comes -/
def bF8 (I I3 : Nat → Nat → Int32) : Prop := (∀ p, p ≠ 0 → p ≠ 8 → I3 p = I p) ∧ (∀ k, k ≠ 9 → k ≠ 12 → k ≠ 14 → k ≠ 15 → k ≠ 16 → k ≠ 17 → k ≠ 22 → I3 0 k = I 0 k) ∧ I3 0 9 = 0 ∧ I3 0 12 = 0
theorem bF.b8 {I I3 : Nat → Nat → Int32} (h : bF I I3) : bF8 I I3 := ⟨fun p a _ => h.1 p a, h.2.1, h.2.2.1, h.2.2.2⟩
theorem bF8.r {I I2 I3 : Nat → Nat → Int32} (h : bF8 I I2) (g : rF I2 I3) : bF8 I I3 := ⟨fun p a b => (g.1 p a).trans (h.1 p a b), fun k a b c d e f g' => (g.2 k e f).trans (h.2.1 k a b c d e f g'), (g.2 9 (by decide) (by decide)).trans h.2.2.1, (g.2 12 (by decide) (by decide)).trans h.2.2.2⟩
theorem bF8.w {I I2 : Nat → Nat → Int32} {k : Nat} {v : Int32} (h : bF8 I I2) : bF8 I (ti_wr I2 8 k v) := ⟨fun p a b => (ti_wr_n b).trans (h.1 p a b), fun k a b c d e f g => by rw [ti_wr_n (by decide)]; exact h.2.1 k a b c d e f g, by rw [ti_wr_n (by decide)]; exact h.2.2.1, by rw [ti_wr_n (by decide)]; exact h.2.2.2⟩
theorem bF8.k {I I3 : Nat → Nat → Int32} (h : bF8 I I3) (k : Nat) (hk : (k != 9 && (k != 12 && (k != 14 && (k != 15 && (k != 16 && (k != 17 && k != 22)))))) = true) : I3 0 k = I 0 k := by
  simp at hk
  exact h.2.1 k hk.1 hk.2.1 hk.2.2.1 hk.2.2.2.1 hk.2.2.2.2.1 hk.2.2.2.2.2.1 hk.2.2.2.2.2.2
theorem bF8.p {I I3 : Nat → Nat → Int32} (h : bF8 I I3) (p : Nat) (hp : (p != 0 && p != 8) = true) : I3 p = I p := by
  simp at hp
  exact h.1 p hp.1 hp.2
set_option maxHeartbeats 1000000 in
theorem c_way0 {I : Nat → Nat → Int32} {J : Nat → Nat → Int64} {R : Nat → Nat → Value} {I2 : Nat → Nat → Int32} {R2 : Nat → Nat → Value} {t : Nat → Nat} {d N n : Nat} (hR2 : mR 6 I2 R2 t (min N 12) N 12 (wS t (min N 12) n)) (hw : wEnd t (min N 12) n) (hb : bF8 I I2) (h19 : R2 0 19 = R 0 19) (h8 : ∀ k, k < n → I2 8 k = nI (wV t (min N 12) k)) (hok : (sFin N (wS t (min N 12) n)).1 = false) : Ev lyM (d + 3) hX12_way 52 [some (.ref 0), some (.int (nI n)), none] [] (I2, J, R2) (fun r M' => ∃ n I3 R3, wEnd t (min N 12) n ∧ M' = (I3, J, R3) ∧ R3 0 19 = R 0 19 ∧ if (sFin N (wS t (min N 12) n)).1 = true then r = some (.int (nI n)) ∧ (∀ p, p ≠ 0 → p ≠ 1 → p ≠ 2 → p ≠ 8 → I3 p = I p) ∧ (∀ k, k ≠ 1 → k ≠ 9 → k ≠ 12 → k ≠ 14 → k ≠ 15 → k ≠ 16 → k ≠ 17 → k ≠ 22 → k ≠ 25 → k ≠ 39 → I3 0 k = I 0 k) ∧ I3 0 9 = 0 ∧ I3 0 12 = 0 ∧ I3 0 1 = nI n ∧ (∀ k, k < n → I3 2 k = nI (wV t (min N 12) k)) ∧ I3 1 = upd (upd (I 1) 24 0) 27 0 ∧ I3 0 25 = 0 ∧ I3 0 39 = I 0 39 + 1 else r = some (.int (-1 - nI (sFin N (wS t (min N 12) n)).2)) ∧ bF8 I I3) := by
  refine ev_st dX12_way_52 rfl rfl ?_
  refine ev_call dX12_way_53 rfl rfl mr_12_156 rfl rfl rfl (c_right hR2) ?_
  rintro _ _ ⟨e1, I3, rfl, hx3, hR3⟩
  rw [show (sFin N (wS t (min N 12) n)).1 = false from hok] at e1
  subst e1
  show Ev lyM (d + 3) hX12_way 56 [some (.ref 0), some (.int (nI n)), none] [.int 0] (I3, J, R2) _
  refine ev_if_ne (t := 66) dX12_way_56 (by decide) (fun q => absurd q (by decide)) (fun _ => ?_)
  refine ev_iconst (v := -1) dX12_way_59 (by decide) ?_
  refine ev_st dX12_way_60 rfl rfl ?_
  refine ev_getI (v := nI ((sFin N (wS t (min N 12) n)).2)) dX12_way_61 fr_12_120 rfl rfl (by have h := hR3.2.2.2.2.2.2.2.2; rw [if_neg (by rw [hok]; decide)] at h; exact h.1) ?_
  refine ev_st dX12_way_64 rfl rfl ?_
  exact ev_iret dX12_way_65 rfl (⟨n, _, _, hw, rfl, h19, by rw [if_neg (by rw [hok]; decide)]; exact ⟨rfl, hb.r hx3⟩⟩)
set_option maxHeartbeats 1000000 in
theorem c_wayC {I : Nat → Nat → Int32} {J : Nat → Nat → Int64} {R : Nat → Nat → Value} {d n : Nat} (hn : n ≤ 12) : ∀ (k b : Nat), b ≤ 12 → 12 - b < k → Ev lyM (d + 3) hX12_way 73 [some (.ref 0), some (.int (nI n)), some (.int (nI b))] [] (va_up I 2 (m_cp (fun k => if k < n then I 8 k else 0) (I 2) b), J, R) (fun r M' => r = some (.int (nI n)) ∧ M' = (ti_wr (ti_wr (ti_wr (ti_wr (va_up I 2 (m_cp (fun k => if k < n then I 8 k else 0) (I 2) 12)) 1 24 0) 1 27 0) 0 25 0) 0 39 (I 0 39 + 1), J, R)) := by
  intro k
  induction k with
  | zero => intro b h1 h2; omega
  | succ k ih =>
    intro b hb hk
    refine ev_st dX12_way_73 rfl rfl ?_
    refine ev_bipush (v := 12) dX12_way_74 (by decide) ?_
    refine ev_ic_geN (t := 106) (a := b) (b := 12) dX12_way_76 (by decide) rfl rfl (by omega) (by omega) (fun c_76 => ?_) (fun c_76 => ?_)
    · refine ev_st dX12_way_106 rfl rfl ?_
      refine ev_getC dX12_way_107 fr_12_9 rfl rfl ?_
      refine ev_bipush (v := 24) dX12_way_110 (by decide) ?_
      refine ev_iconst (v := 0) dX12_way_112 (by decide) ?_
      refine ev_iast (j := 24) dX12_way_113 rfl rfl (by decide) (by decide) ?_
      refine ev_st dX12_way_114 rfl rfl ?_
      refine ev_getC dX12_way_115 fr_12_9 rfl rfl ?_
      refine ev_bipush (v := 27) dX12_way_118 (by decide) ?_
      refine ev_iconst (v := 0) dX12_way_120 (by decide) ?_
      refine ev_iast (j := 27) dX12_way_121 rfl rfl (by decide) (by decide) ?_
      refine ev_st dX12_way_122 rfl rfl ?_
      refine ev_call dX12_way_123 rfl rfl mr_12_159 rfl rfl rfl (c_told) ?_
      rintro _ _ ⟨rfl, rfl⟩
      show Ev lyM (d + 3) hX12_way 126 [some (.ref 0), some (.int (nI n)), some (.int (nI b))] [] (ti_wr (ti_wr (ti_wr (ti_wr (va_up I 2 (m_cp (fun k => if k < n then I 8 k else 0) (I 2) b)) 1 24 0) 1 27 0) 0 25 0) 0 39 (I 0 39 + 1), J, R) _
      refine ev_st dX12_way_126 rfl rfl ?_
      exact ev_iret dX12_way_127 rfl (⟨rfl, by rw [show b = 12 by omega]⟩)
    · refine ev_st dX12_way_79 rfl rfl ?_
      refine ev_getC dX12_way_80 fr_12_17 rfl rfl ?_
      refine ev_st dX12_way_83 rfl rfl ?_
      refine ev_st dX12_way_84 rfl rfl ?_
      refine ev_st dX12_way_85 rfl rfl ?_
      refine ev_ic_geN (t := 98) (a := b) (b := n) dX12_way_86 (by decide) rfl rfl (by omega) (by omega) (fun c_86 => ?_) (fun c_86 => ?_)
      · refine ev_iconst (v := 0) dX12_way_98 (by decide) ?_
        refine ev_iast (j := b) dX12_way_99 rfl rfl (by omega) (by decide) ?_
        refine ev_iincN (a := b) (b := b + 1) (L' := [some (.ref 0), some (.int (nI n)), some (.int (nI (b + 1)))]) dX12_way_100 rfl (nI_1 _) rfl ?_
        refine ev_goto (t := 73) dX12_way_103 (by decide) ?_
        have e9 : ti_wr (va_up I 2 (m_cp (fun k => if k < n then I 8 k else 0) (I 2) b)) 2 b 0 = va_up I 2 (m_cp (fun k => if k < n then I 8 k else 0) (I 2) (b + 1)) := by rw [ti_wr_up, ← m_cp_s, if_neg (Nat.not_lt.mpr c_86)]
        rw [e9]
        exact ih _ (by omega) (by omega)
      · refine ev_st dX12_way_89 rfl rfl ?_
        refine ev_getC dX12_way_90 fr_12_37 rfl rfl ?_
        refine ev_st dX12_way_93 rfl rfl ?_
        refine ev_iald (j := b) (v := I 8 b) dX12_way_94 rfl rfl (by omega) (by decide) rfl ?_
        refine ev_goto (t := 99) dX12_way_95 (by decide) ?_
        refine ev_iast (j := b) dX12_way_99 rfl rfl (by omega) (by decide) ?_
        refine ev_iincN (a := b) (b := b + 1) (L' := [some (.ref 0), some (.int (nI n)), some (.int (nI (b + 1)))]) dX12_way_100 rfl (nI_1 _) rfl ?_
        refine ev_goto (t := 73) dX12_way_103 (by decide) ?_
        have e9 : ti_wr (va_up I 2 (m_cp (fun k => if k < n then I 8 k else 0) (I 2) b)) 2 b (I 8 b) = va_up I 2 (m_cp (fun k => if k < n then I 8 k else 0) (I 2) (b + 1)) := by rw [ti_wr_up, ← m_cp_s, if_pos c_86]
        rw [e9]
        exact ih _ (by omega) (by omega)
set_option maxHeartbeats 1000000 in
theorem c_way1 {I : Nat → Nat → Int32} {J : Nat → Nat → Int64} {R : Nat → Nat → Value} {I2 : Nat → Nat → Int32} {R2 : Nat → Nat → Value} {t : Nat → Nat} {d N n : Nat} (hR2 : mR 6 I2 R2 t (min N 12) N 12 (wS t (min N 12) n)) (hw : wEnd t (min N 12) n) (hb : bF8 I I2) (h19 : R2 0 19 = R 0 19) (h8 : ∀ k, k < n → I2 8 k = nI (wV t (min N 12) k)) (hok : (sFin N (wS t (min N 12) n)).1 = true) : Ev lyM (d + 3) hX12_way 52 [some (.ref 0), some (.int (nI n)), none] [] (I2, J, R2) (fun r M' => ∃ n I3 R3, wEnd t (min N 12) n ∧ M' = (I3, J, R3) ∧ R3 0 19 = R 0 19 ∧ if (sFin N (wS t (min N 12) n)).1 = true then r = some (.int (nI n)) ∧ (∀ p, p ≠ 0 → p ≠ 1 → p ≠ 2 → p ≠ 8 → I3 p = I p) ∧ (∀ k, k ≠ 1 → k ≠ 9 → k ≠ 12 → k ≠ 14 → k ≠ 15 → k ≠ 16 → k ≠ 17 → k ≠ 22 → k ≠ 25 → k ≠ 39 → I3 0 k = I 0 k) ∧ I3 0 9 = 0 ∧ I3 0 12 = 0 ∧ I3 0 1 = nI n ∧ (∀ k, k < n → I3 2 k = nI (wV t (min N 12) k)) ∧ I3 1 = upd (upd (I 1) 24 0) 27 0 ∧ I3 0 25 = 0 ∧ I3 0 39 = I 0 39 + 1 else r = some (.int (-1 - nI (sFin N (wS t (min N 12) n)).2)) ∧ bF8 I I3) := by
  have hn12 := wEnd_le (by omega) hw
  refine ev_st dX12_way_52 rfl rfl ?_
  refine ev_call dX12_way_53 rfl rfl mr_12_156 rfl rfl rfl (c_right hR2) ?_
  rintro _ _ ⟨e1, I3, rfl, hx3, hR3⟩
  rw [show (sFin N (wS t (min N 12) n)).1 = true from hok] at e1
  subst e1
  show Ev lyM (d + 3) hX12_way 56 [some (.ref 0), some (.int (nI n)), none] [.int 1] (I3, J, R2) _
  refine ev_if_ne (t := 66) dX12_way_56 (by decide) (fun _ => ?_) (fun q => absurd q (by decide))
  refine ev_st dX12_way_66 rfl rfl ?_
  refine ev_st dX12_way_67 rfl rfl ?_
  refine ev_putI dX12_way_68 fr_12_13 rfl rfl ?_
  refine ev_iconst (v := 0) dX12_way_71 (by decide) ?_
  refine ev_st (L' := [some (.ref 0), some (.int (nI n)), some (.int 0)]) dX12_way_72 rfl rfl ?_
  have K := c_wayC (I := ti_wr I3 0 1 (nI n)) (J := J) (R := R2) (d := d) hn12 13 0 (by omega) (by omega)
  rw [m_cp_0, va_up_id] at K
  refine K.imp ?_
  rintro r M' ⟨e1, e2⟩
  refine ⟨n, _, _, hw, e2, h19, ?_⟩
  rw [if_pos (by rw [hok])]
  have hb3 := hb.r hx3
  refine ⟨e1, fun p a b c d => ?_, fun k k1 k9 k12 k14 k15 k16 k17 k22 k25 k39 => ?_, hb3.2.2.1, hb3.2.2.2, rfl, fun k hk => ?_, ?_, rfl, ?_⟩
  · simp only [ti_wr_n a, ti_wr_n b, va_up_n c]; exact hb3.1 p a d
  · simp only [wr_ne k39, wr_ne k25, wr_ne k1, ti_wr_n (show (0 : Nat) ≠ 1 by decide), va_up_n (show (0 : Nat) ≠ 2 by decide)]; exact hb3.2.1 k k9 k12 k14 k15 k16 k17 k22
  · rw [ti_wr_n (by decide), ti_wr_n (by decide), ti_wr_n (by decide), ti_wr_n (by decide), va_up_q, m_cp, if_pos (by omega), if_pos hk]
    rw [ti_wr_n (by decide), hx3.p 8 rfl]; exact h8 k hk
  · rw [ti_wr_n (by decide), ti_wr_n (by decide), wr_q, wr_q, va_up_n (by decide), ti_wr_n (by decide), hb3.p 1 rfl]
  · show ti_wr I3 0 1 (nI n) 0 39 + 1 = _
    rw [wr_ne (by decide), hb3.k 39 rfl]
theorem all_b2 {P : Nat → Prop} {b : Nat} (h : ∀ j, 1 ≤ j → j < b → P j) (hb : P b) : ∀ j, 1 ≤ j → j < b + 1 → P j := by
  intro j h1 h2
  rcases (by omega : j < b ∨ j = b) with q | q
  · exact h j h1 q
  · rw [q]; exact hb
set_option maxHeartbeats 1000000 in
theorem c_way {I : Nat → Nat → Int32} {J : Nat → Nat → Int64} {R : Nat → Nat → Value} {t : Nat → Nat} {d N : Nat} (hT : mT I t N) : Cal lyM (d + 3) hX12_way 3 [.ref 0] (I, J, R) (fun r M' => ∃ n I3 R3, wEnd t (min N 12) n ∧ M' = (I3, J, R3) ∧ R3 0 19 = R 0 19 ∧ if (sFin N (wS t (min N 12) n)).1 = true then r = some (.int (nI n)) ∧ (∀ p, p ≠ 0 → p ≠ 1 → p ≠ 2 → p ≠ 8 → I3 p = I p) ∧ (∀ k, k ≠ 1 → k ≠ 9 → k ≠ 12 → k ≠ 14 → k ≠ 15 → k ≠ 16 → k ≠ 17 → k ≠ 22 → k ≠ 25 → k ≠ 39 → I3 0 k = I 0 k) ∧ I3 0 9 = 0 ∧ I3 0 12 = 0 ∧ I3 0 1 = nI n ∧ (∀ k, k < n → I3 2 k = nI (wV t (min N 12) k)) ∧ I3 1 = upd (upd (I 1) 24 0) 27 0 ∧ I3 0 25 = 0 ∧ I3 0 39 = I 0 39 + 1 else r = some (.int (-1 - nI (sFin N (wS t (min N 12) n)).2)) ∧ bF8 I I3) := by
  have hT0 : mT (ti_wr I 0 12 0) t N := ⟨hT.1, hT.2.1, hT.2.2⟩
  have loop : ∀ (k b : Nat) (I2 : Nat → Nat → Int32) (R2 : Nat → Nat → Value), b ≤ 13 → 13 - b < k → mR 6 I2 R2 t (min N 12) N 12 (wS t (min N 12) b) → bF8 I I2 → R2 0 19 = R 0 19 → (∀ k, k < b → I2 8 k = nI (wV t (min N 12) k)) → (∀ j, 1 ≤ j → j < b → goes (min N 12) (wS t (min N 12) j)) → Ev lyM (d + 3) hX12_way 13 [some (.ref 0), some (.int (nI b)), none] [] (I2, J, R2) (fun r M' => ∃ n I3 R3, wEnd t (min N 12) n ∧ M' = (I3, J, R3) ∧ R3 0 19 = R 0 19 ∧ if (sFin N (wS t (min N 12) n)).1 = true then r = some (.int (nI n)) ∧ (∀ p, p ≠ 0 → p ≠ 1 → p ≠ 2 → p ≠ 8 → I3 p = I p) ∧ (∀ k, k ≠ 1 → k ≠ 9 → k ≠ 12 → k ≠ 14 → k ≠ 15 → k ≠ 16 → k ≠ 17 → k ≠ 22 → k ≠ 25 → k ≠ 39 → I3 0 k = I 0 k) ∧ I3 0 9 = 0 ∧ I3 0 12 = 0 ∧ I3 0 1 = nI n ∧ (∀ k, k < n → I3 2 k = nI (wV t (min N 12) k)) ∧ I3 1 = upd (upd (I 1) 24 0) 27 0 ∧ I3 0 25 = 0 ∧ I3 0 39 = I 0 39 + 1 else r = some (.int (-1 - nI (sFin N (wS t (min N 12) n)).2)) ∧ bF8 I I3) := by
    intro k
    induction k with
    | zero => intro b I2 R2 h1 h2; omega
    | succ k ih =>
      intro b I2 R2 hb hk hR2 hb2 h19 h8 hg
      have hb12 : (wS t (min N 12) b).1 = true → goes (min N 12) (wS t (min N 12) b) → b < 12 := fun h1 h2 => by have := (wS_at b h1).1; have := h2.2; omega
      have hb13 : b < 13 ∨ ¬ (wS t (min N 12) b).1 = true := by by_cases q : (wS t (min N 12) b).1 = true; (have := (wS_at b q).2; left; omega); (right; exact q)
      refine ev_st dX12_way_13 rfl rfl ?_
      refine ev_call dX12_way_14 rfl rfl mr_12_127 rfl rfl rfl (c_fine hR2) ?_
      rintro _ _ ⟨rfl, rfl⟩
      show Ev lyM (d + 3) hX12_way 17 [some (.ref 0), some (.int (nI b)), none] [.int (b2i (wS t (min N 12) b).1)] (I2, J, R2) _
      refine ev_if_eq (t := 52) (x := b2i (wS t (min N 12) b).1) dX12_way_17 (by decide) (fun c_17 => ?_) (fun c_17 => ?_)
      · have hw9 : wEnd t (min N 12) b := ⟨by by_cases e : b = 0; (subst e; exact absurd (show (true : Bool) = false from b2i0.mp c_17) (by decide)); omega, (fun g => by have h := g.1; rw [b2i0.mp c_17] at h; cases h), hg⟩
        by_cases hok : (sFin N (wS t (min N 12) b)).1 = true
        · exact c_way1 hR2 hw9 hb2 h19 h8 hok
        · exact c_way0 hR2 hw9 hb2 h19 h8 (by simpa using hok)
      · refine ev_st dX12_way_20 rfl rfl ?_
        refine ev_if_eqN (t := 32) (a := b) dX12_way_21 (by decide) rfl (by omega) (fun c_21 => ?_) (fun c_21 => ?_)
        · refine ev_st dX12_way_32 rfl rfl ?_
          refine ev_getC dX12_way_33 fr_12_37 rfl rfl ?_
          refine ev_st dX12_way_36 rfl rfl ?_
          refine ev_st dX12_way_37 rfl rfl ?_
          refine ev_bipush (v := 48) dX12_way_38 (by decide) ?_
          refine ev_bipush (v := 10) dX12_way_40 (by decide) ?_
          refine ev_call dX12_way_42 rfl rfl mr_12_143 rfl rfl rfl (c_one (f := 48) (m := 10) hR2 (by decide) (by decide)) ?_
          rintro _ _ ⟨e1, I3, rfl, hx3, hR3⟩
          rw [one_num] at e1 hR3
          obtain rfl : _ = some (Value.int (nI (wV t (min N 12) b))) := e1
          show Ev lyM (d + 3) hX12_way 45 [some (.ref 0), some (.int (nI b)), none] [.int (nI (wV t (min N 12) b)), .int (nI b), .ref 8] (I3, J, R2) _
          refine ev_iast (j := b) dX12_way_45 rfl rfl (by omega) (by decide) ?_
          refine ev_iincN (a := b) (b := b + 1) (L' := [some (.ref 0), some (.int (nI (b + 1))), none]) dX12_way_46 rfl (nI_1 _) rfl ?_
          refine ev_goto (t := 13) dX12_way_49 (by decide) ?_
          have hb99 : b < 13 := hb13.resolve_right (fun q => q (b2i_ne c_17))
          exact ih _ _ _ (by omega) (by omega) (mR8 hR3) (hb2.r hx3).w h19 (fun k hk => by by_cases e : k = b; (rw [e, ti_wr_at]); (rw [wr_ne e, hx3.p 8 rfl]; exact h8 k (by omega))) (fun j h1 h2 => by omega)
        · refine ev_st dX12_way_24 rfl rfl ?_
          refine ev_call dX12_way_25 rfl rfl mr_12_131 rfl rfl rfl (c_here (hR2.fine (b2i_ne c_17))) ?_
          rintro _ _ ⟨rfl, rfl⟩
          rw [pk_fine (b2i_ne c_17)]
          show Ev lyM (d + 3) hX12_way 28 [some (.ref 0), some (.int (nI b)), none] [.int (pk t (min N 12) (wS t (min N 12) b))] (I2, J, R2) _
          refine ev_iconst (v := -1) dX12_way_28 (by decide) ?_
          refine ev_ic_eq (t := 52) (x := pk t (min N 12) (wS t (min N 12) b)) (y := (-1)) dX12_way_29 (by decide) (fun c_29 => ?_) (fun c_29 => ?_)
          · have hw9 : wEnd t (min N 12) b := ⟨by omega, ((pkS_m1 hR2.t).mp c_29), hg⟩
            by_cases hok : (sFin N (wS t (min N 12) b)).1 = true
            · exact c_way1 hR2 hw9 hb2 h19 h8 hok
            · exact c_way0 hR2 hw9 hb2 h19 h8 (by simpa using hok)
          · refine ev_st dX12_way_32 rfl rfl ?_
            refine ev_getC dX12_way_33 fr_12_37 rfl rfl ?_
            refine ev_st dX12_way_36 rfl rfl ?_
            refine ev_st dX12_way_37 rfl rfl ?_
            refine ev_bipush (v := 48) dX12_way_38 (by decide) ?_
            refine ev_bipush (v := 10) dX12_way_40 (by decide) ?_
            refine ev_call dX12_way_42 rfl rfl mr_12_143 rfl rfl rfl (c_one (f := 48) (m := 10) hR2 (by decide) (by decide)) ?_
            rintro _ _ ⟨e1, I3, rfl, hx3, hR3⟩
            rw [one_num] at e1 hR3
            obtain rfl : _ = some (Value.int (nI (wV t (min N 12) b))) := e1
            show Ev lyM (d + 3) hX12_way 45 [some (.ref 0), some (.int (nI b)), none] [.int (nI (wV t (min N 12) b)), .int (nI b), .ref 8] (I3, J, R2) _
            refine ev_iast (j := b) dX12_way_45 rfl rfl (by omega) (by decide) ?_
            refine ev_iincN (a := b) (b := b + 1) (L' := [some (.ref 0), some (.int (nI (b + 1))), none]) dX12_way_46 rfl (nI_1 _) rfl ?_
            refine ev_goto (t := 13) dX12_way_49 (by decide) ?_
            have hb99 : b < 13 := hb13.resolve_right (fun q => q (b2i_ne c_17))
            exact ih _ _ _ (by omega) (by omega) (mR8 hR3) (hb2.r hx3).w h19 (fun k hk => by by_cases e : k = b; (rw [e, ti_wr_at]); (rw [wr_ne e, hx3.p 8 rfl]; exact h8 k (by omega))) (all_b2 hg (Classical.byContradiction fun q => c_29 ((pkS_m1 hR2.t).mpr q)))
  show Ev lyM (d + 3) hX12_way 0 [some (.ref 0), none, none] [] (I, J, R) _
  refine ev_st dX12_way_0 rfl rfl ?_
  refine ev_iconst (v := 0) dX12_way_1 (by decide) ?_
  refine ev_putI dX12_way_2 fr_12_89 rfl rfl ?_
  refine ev_st dX12_way_5 rfl rfl ?_
  refine ev_bipush (v := 12) dX12_way_6 (by decide) ?_
  refine ev_call dX12_way_8 rfl rfl mr_12_153 rfl rfl rfl (c_beginText (I := ti_wr I 0 12 0) (T := 12) hT0 (by decide) rfl) ?_
  rintro _ _ ⟨rfl, I2, R2, rfl, hb2, h19, hR2⟩
  have hb0 : bF8 I I2 := ⟨fun p a b => (hb2.1 p a).trans (ti_wr_n a), fun k a b c d e f g => (hb2.2.1 k a b c d e f g).trans (wr_ne b), hb2.2.2.1, hb2.2.2.2⟩
  show Ev lyM (d + 3) hX12_way 11 [some (.ref 0), none, none] [] (I2, J, R2) _
  refine ev_iconst (v := 0) dX12_way_11 (by decide) ?_
  refine ev_st (L' := [some (.ref 0), some (.int 0), none]) dX12_way_12 rfl rfl ?_
  exact loop 15 0 I2 R2 (by omega) (by omega) hR2 hb0 h19 (fun k hk => by omega) (fun j h1 h2 => by omega)
