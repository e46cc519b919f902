/-! the class: how far it goes, tried on another state -/
theorem SR.ext {f t row row' : Nat → Int32} {n ns : Nat} (hn : n ≤ 8) (hns : ns ≤ 8) (h : ∀ j, j < 29 → row' j = row j) (hr : SR f t row n ns) : SR f t row' n ns := by
  obtain ⟨h1, h2, h3, h4, h5, h6, h7, h8, h9⟩ := hr
  refine ⟨by rw [h 24 (by omega)]; exact h1, by rw [h 25 (by omega)]; exact h2, ?_, by rw [h 26 (by omega)]; exact h4, ?_, by rw [h 27 (by omega)]; exact h6, by rw [h 28 (by omega)]; exact h7, fun b hb => by rw [h b (by omega)]; exact h8 b hb, h9⟩
  · rw [h3]; exact bt_ext n (fun b hb => (h (8 + b) (by omega)).symm)
  · rw [h5]; exact bt_ext ns (fun b hb => (h (16 + b) (by omega)).symm)
theorem WS.ext {row row' : Nat → Int32} {n ns c a : Nat} (hn : n ≤ 8) (hns : ns ≤ 8) (h : ∀ j, j < 29 → row' j = row j) (hr : WS row n ns c a) : WS row' n ns c a := by
  obtain ⟨h1, h2, h3, h4, h5, h6, h7, h8, h9⟩ := hr
  refine ⟨by rw [h 24 (by omega)]; exact h1, h2, fun b hb => by rw [h b (by omega)]; exact h3 b hb, fun b hb => ?_, fun b hb => ?_, by rw [h 25 (by omega)]; exact h6, by rw [h 26 (by omega)]; exact h7, by rw [h 27 (by omega)]; exact h8, ?_⟩
  · show row' (8 + b) = 0 ∨ row' (8 + b) = 1
    rw [h _ (by omega)]; exact h4 b hb
  · show row' (16 + b) = 0 ∨ row' (16 + b) = 1
    rw [h _ (by omega)]; exact h5 b hb
  · rw [bN_ext n (fun b hb => h (8 + b) (by omega))]; exact h9
theorem t_bec {I : Nat → Nat → Int32} {J : Nat → Nat → Int64} {R : Nat → Nat → Value} {d n c ns a : Nat} {row : Nat → Int32} (hn : n ≤ 8) (hr : SR (I 39) (I 40) row n ns) (hw : WS row n ns c a) : Cal lyC (d + 1) hX7_become 2 [.ref 41, .ref 39] (I, J, R) (fun r M' => r = none ∧ ∃ I3, M' = (I3, J, R) ∧ fC I I3 ∧ I3 3 = I 3 ∧ SR (I3 41) (I3 42) row n ns) := by
  have h6 : I 39 6 = 0 ∨ I 39 6 = 1 := by rw [hr.2.2.2.2.2.1]; exact hw.2.2.2.2.2.2.2.1
  refine (k_becomeXY (I := I) (J := J) (R := R) (x := 1) (y := 0) (by decide) (by decide) (by decide) h6).imp ?_
  rintro r M' ⟨e1, e2⟩
  refine ⟨e1, _, e2, ⟨fun p hp => k_bm_n (fun e => by subst e; cases hp) (fun e => by subst e; cases hp), by rw [k_bm_n (by decide) (by decide)], by rw [k_bm_n (by decide) (by decide)]⟩, k_bm_n (by decide) (by decide), ?_⟩
  obtain ⟨h1, h2, h3, h4, h5, h6, h7, h8, h9⟩ := hr
  have e := fun k a b => k_bm_p (I := I) (p := 41) (t := 42) (p2 := 39) (t2 := 40) k a b
  refine ⟨(e 1 (by omega) (by omega)).trans h1, (e 2 (by omega) (by omega)).trans h2, (e 3 (by omega) (by omega)).trans h3, (e 4 (by omega) (by omega)).trans h4, (e 5 (by omega) (by omega)).trans h5, (e 6 (by omega) (by omega)).trans h6, (e 7 (by omega) (by omega)).trans h7, fun b hb => ?_, fun b hb hb8 => ?_⟩
  · exact (k_bm_t (by decide) (by omega)).trans (h8 b hb)
  · exact (k_bm_t (by decide) hb8).trans (h9 b hb hb8)
theorem NX_cy {sp str tl row : Nat → Int32} {n c rs a : Nat} {rv : RV} (hn : n ≤ 8) : m_cy (m_NX sp str tl n c rs rv row a) n = m_cy row n := by
  rw [m_cy_bt, m_cy_bt]
  exact bt_ext n (fun b hb => gs_hi (by omega) (by omega))
theorem rS_ok {c a : Nat} {x : Int32} (h : a < c) (h0 : ¬ x = 0) : m_rS c a x = 0 := by rw [m_rS, if_neg (Nat.not_le.mpr h), if_neg h0]
theorem t_adv {I I2 : Nat → Nat → Int32} {J : Nat → Nat → Int64} {R : Nat → Nat → Value} {d n c ns a p z rs : Nat} {rv : RV} {row sp str tl sy : Nat → Int32} (hK : kA I d n c p z rv) (hst : ST I sp str tl sy n c ns) (hz : z = 0 ↔ rs = 0) (hs : fC I I2) (hr : SR (I2 41) (I2 42) row n ns) (hw : WS row n ns c a) (hac : a < c) (h0 : ¬ m_cy row n = 0) : Cal lyC (d + 5) hX7_advance 5 [.ref 41, .ref 5, .ref 8, .ref p] (I2, J, R) (fun r M' => r = some (.int (m_SG sp str tl n c rs rv row a)) ∧ ∃ I3, M' = (I3, J, R) ∧ fC I I3 ∧ qF 41 I2 I3 ∧ SR (I3 41) (I3 42) (m_NX sp str tl n c rs rv row a) n ns ∧ WS (m_NX sp str tl n c rs rv row a) n ns c (a + 1) ∧ ¬ m_cy (m_NX sp str tl n c rs rv row a) n = 0) := by
  have e := rS_ok hac h0
  refine (a_adv (Or.inr rfl) (hK.f hs) (hst.f hs) hz hr hw).imp ?_
  rintro r M' ⟨e1, I3, e2, e3, e4⟩
  rw [if_pos e] at e1 e4
  exact ⟨e1, I3, e2, e3.f hs, e3, e4, hw.gs hst.2.1 hst.2.2.2.2.2.2.1 (sg01 _ _) hac, by rw [NX_cy hst.2.1]; exact h0⟩
theorem fi_12 {sp str tl : Nat → Int32} {n c rs : Nat} {rv : RV} {row : Nat → Int32} {b : Nat} (hb : b < 12) : ¬ nI b = 12 := by
  rw [show (12 : Int32) = nI 12 from rfl, nI_eq (by omega) (by decide)]; omega
set_option maxHeartbeats 1000000 in
theorem k_firstStagger {I : Nat → Nat → Int32} {J : Nat → Nat → Int64} {R : Nat → Nat → Value} {d n c ns a p z rs : Nat} {rv : RV} {row sp str tl sy : Nat → Int32} (hK : kA I d n c p z rv) (hst : ST I sp str tl sy n c ns) (hz : z = 0 ↔ rs = 0) (hr : SR (I 39) (I 40) row n ns) (hw : WS row n ns c a) (h0 : ¬ m_cy row n = 0) : Cal lyC (d + 6) hX3_firstStagger 4 [.ref 18, .ref 39, .ref p] (I, J, R) (fun r M' => r = some (.int (if m_fi sp str tl n c rs rv (c - a) row a = 12 then -2 else m_fi sp str tl n c rs rv (c - a) row a)) ∧ ∃ I3, M' = (I3, J, R) ∧ fC I I3 ∧ I3 3 = I 3) := by
  have hn := hK.1
  have hn8 := hK.2.1
  have hc := hK.2.2.1
  have hc12 := hK.2.2.2.1
  have hns8 := hst.2.2.2.2.2.2.1
  have ha : I 39 1 = nI a := hr.1.trans hw.1
  have hac := hw.2.1
  have ha12 : a ≤ 12 := by omega
  have loop : ∀ (k b : Nat) (I2 : Nat → Nat → Int32) (row2 : Nat → Int32), a ≤ b → b ≤ c → c - b < k → fC I I2 → SR (I2 41) (I2 42) row2 n ns → WS row2 n ns c b → ¬ m_cy row2 n = 0 → I2 3 = I 3 → m_fi sp str tl n c rs rv (c - b) row2 b = m_fi sp str tl n c rs rv (c - a) row a → Ev lyC (d + 6) hX3_firstStagger 13 [some (.ref 18), some (.ref 39), some (.ref p), some (.int (nI b))] [] (I2, J, R) (fun r M' => r = some (.int (if m_fi sp str tl n c rs rv (c - a) row a = 12 then -2 else m_fi sp str tl n c rs rv (c - a) row a)) ∧ ∃ I3, M' = (I3, J, R) ∧ fC I I3 ∧ I3 3 = I 3) := by
    intro k
    induction k with
    | zero => intro b   I2  row2 h0 h1 h2; omega
    | succ k ih =>
      intro b   I2  row2 hb1 hb hk  hs2 hsr hws h0 h3 hT
      refine ev_st dX3_firstStagger_13 rfl rfl ?_
      refine ev_st dX3_firstStagger_14 rfl rfl ?_
      refine ev_getC dX3_firstStagger_15 fr_3_28 rfl rfl ?_
      refine ev_getI (v := nI c) dX3_firstStagger_18 fr_3_52 rfl rfl ((congrFun (hs2.r 5 rfl) 2).trans hc) ?_
      refine ev_ic_geN (t := 52) (a := b) (b := c) dX3_firstStagger_21 (by decide) rfl rfl (by omega) (by omega) (fun c_21 => ?_) (fun c_21 => ?_)
      · refine ev_bipush (v := -2) dX3_firstStagger_52 (by decide) ?_
        exact ev_iret dX3_firstStagger_54 rfl (⟨by rw [← hT, show c - b = 0 by omega]; rfl, _, rfl, hs2, h3⟩)
      · refine ev_st dX3_firstStagger_24 rfl rfl ?_
        refine ev_getC dX3_firstStagger_25 fr_3_12 rfl rfl ?_
        refine ev_st dX3_firstStagger_28 rfl rfl ?_
        refine ev_getC dX3_firstStagger_29 fr_3_28 rfl rfl ?_
        refine ev_st dX3_firstStagger_32 rfl rfl ?_
        refine ev_getC dX3_firstStagger_33 fr_3_32 rfl rfl ?_
        refine ev_st dX3_firstStagger_36 rfl rfl ?_
        refine ev_call dX3_firstStagger_37 rfl rfl mr_3_57 rfl rfl rfl (Cal.mono (by omega) (t_adv (I2 := I2) (J := J) hK hst hz hs2 hsr hws (by omega) h0)) ?_
        rintro _ _ ⟨rfl, I3, rfl, hs3, g3, hsr3, hws3, h03⟩
        show Ev lyC (d + 6) hX3_firstStagger 40 [some (.ref 18), some (.ref 39), some (.ref p), some (.int (nI b))] [.int (m_SG sp str tl n c rs rv row2 b)] (I3, J, R) _
        refine ev_iconst (v := 1) dX3_firstStagger_40 (by decide) ?_
        refine ev_ic_ne (t := 46) (x := m_SG sp str tl n c rs rv row2 b) (y := 1) dX3_firstStagger_41 (by decide) (fun c_41 => ?_) (fun c_41 => ?_)
        · refine ev_iincN (a := b) (b := b + 1) (L' := [some (.ref 18), some (.ref 39), some (.ref p), some (.int (nI (b + 1)))]) dX3_firstStagger_46 rfl (nI_1 _) rfl ?_
          refine ev_goto (t := 13) dX3_firstStagger_49 (by decide) ?_
          exact ih _ _ _ (by omega) (by omega) (by omega) hs3 hsr3 hws3 h03 ((g3.r 3 rfl).trans h3) (by rw [← hT, show c - b = (c - (b + 1)) + 1 by omega, m_fi, if_neg c_41])
        · refine ev_st dX3_firstStagger_44 rfl rfl ?_
          exact ev_iret dX3_firstStagger_45 rfl (⟨by rw [← hT, show c - b = (c - (b + 1)) + 1 by omega, m_fi, if_pos c_41, if_neg (fi_12 (sp := sp) (str := str) (tl := tl) (n := n) (c := c) (rs := rs) (rv := rv) (row := row) (by omega))], _, rfl, hs3, (g3.r 3 rfl).trans h3⟩)
  show Ev lyC (d + 6) hX3_firstStagger 0 [some (.ref 18), some (.ref 39), some (.ref p), none] [] (I, J, R) _
  refine ev_st dX3_firstStagger_0 rfl rfl ?_
  refine ev_getC dX3_firstStagger_1 fr_3_12 rfl rfl ?_
  refine ev_st dX3_firstStagger_4 rfl rfl ?_
  refine ev_call dX3_firstStagger_5 rfl rfl mr_3_44 rfl rfl rfl (t_bec hn8 hr hw) ?_
  rintro _ _ ⟨rfl, I2, rfl, hs2, h3, hsr⟩
  show Ev lyC (d + 6) hX3_firstStagger 8 [some (.ref 18), some (.ref 39), some (.ref p), none] [] (I2, J, R) _
  refine ev_st dX3_firstStagger_8 rfl rfl ?_
  refine ev_getI (v := nI a) dX3_firstStagger_9 fr_3_48 rfl rfl ((congrFun (hs2.r 39 rfl) 1).trans ha) ?_
  refine ev_st (L' := [some (.ref 18), some (.ref 39), some (.ref p), some (.int (nI a))]) dX3_firstStagger_12 rfl rfl ?_
  exact loop (c + 1) a   _ _ (by omega) (by omega) (by omega)  hs2 hsr hw h0 h3 rfl
theorem ah_28 {sp str tl : Nat → Int32} {n c rs : Nat} {rv : RV} : ∀ (k : Nat) (row : Nat → Int32) (a : Nat) (s : Int32), (m_ah sp str tl n c rs rv k row a s).1 + row 28 = (m_ah sp str tl n c rs rv k row a s).2.1 28 + s
  | 0, row, a, s => by simp only [m_ah]; exact Int32.add_comm _ _
  | k + 1, row, a, s => by
    simp only [m_ah]
    split
    · exact Int32.add_comm _ _
    · have ih := ah_28 (sp := sp) (str := str) (tl := tl) (n := n) (c := c) (rs := rs) (rv := rv) k (m_NX sp str tl n c rs rv row a) (a + 1) (s + m_SG sp str tl n c rs rv row a)
      have e : m_NX sp str tl n c rs rv row a 28 = row 28 + m_SG sp str tl n c rs rv row a := gs_28
      rw [e, ← Int32.add_assoc, ← Int32.add_assoc] at ih
      have := congrArg (fun x => x - m_SG sp str tl n c rs rv row a) ih
      simp only [Int32.add_sub_cancel] at this
      exact this
set_option maxHeartbeats 1000000 in
theorem k_sAhead2 {I : Nat → Nat → Int32} {J : Nat → Nat → Int64} {R : Nat → Nat → Value} {d n c ns a p z rs : Nat} {rv : RV} {row sp str tl sy : Nat → Int32} (hK : kA I d n c p z rv) (hst : ST I sp str tl sy n c ns) (hz : z = 0 ↔ rs = 0) (hr : SR (I 39) (I 40) row n ns) (hw : WS row n ns c a) {row2 : Nat → Int32} {m : Nat} {I2 : Nat → Nat → Int32} (hs2 : fC I I2) (hsr : SR (I2 41) (I2 42) row2 n ns) : ∀ (k b : Nat) (m2 : Int32), b ≤ n → n - b < k → m2 = m_sum row2 b → Ev lyC (d + 6) hX3_staggersAhead 63 [some (.ref 18), some (.ref 39), some (.ref p), some (.int (nI m)), some (.int m2), some (.int (nI b))] [] (I2, J, R) (fun r M' => r = some (.int (row2 28 - row 28)) ∧ ∃ I3 J3, M' = (I3, J3, R) ∧ fC I I3 ∧ tC [(row2 24).toInt64, (m_sum row2 n).toInt64] I3 J3) := by
  have hn := hK.1
  have hn8 := hK.2.1
  have hc := hK.2.2.1
  have hc12 := hK.2.2.2.1
  have hns8 := hst.2.2.2.2.2.2.1
  have ha : I 39 1 = nI a := hr.1.trans hw.1
  have hac := hw.2.1
  have ha12 : a ≤ 12 := by omega
  intro k
  induction k with
  | zero => intro b m2 h1 h2; omega
  | succ k ih =>
      intro b m2 hb hk hm
      refine ev_st dX3_staggersAhead_63 rfl rfl ?_
      refine ev_st dX3_staggersAhead_65 rfl rfl ?_
      refine ev_getC dX3_staggersAhead_66 fr_3_32 rfl rfl ?_
      refine ev_getI (v := nI n) dX3_staggersAhead_69 fr_3_61 rfl rfl ((congrFun (hs2.r 8 rfl) 3).trans hn) ?_
      refine ev_ic_geN (t := 96) (a := b) (b := n) dX3_staggersAhead_72 (by decide) rfl rfl (by omega) (by omega) (fun c_72 => ?_) (fun c_72 => ?_)
      · refine ev_st dX3_staggersAhead_96 rfl rfl ?_
        refine ev_getC dX3_staggersAhead_97 fr_3_40 rfl rfl ?_
        refine ev_st dX3_staggersAhead_100 rfl rfl ?_
        refine ev_getC dX3_staggersAhead_101 fr_3_12 rfl rfl ?_
        refine ev_getI (v := I2 41 1) dX3_staggersAhead_104 fr_3_48 rfl rfl rfl ?_
        refine ev_st dX3_staggersAhead_107 rfl rfl ?_
        refine ev_st dX3_staggersAhead_108 rfl rfl ?_
        refine ev_st dX3_staggersAhead_110 rfl rfl ?_
        refine ev_call dX3_staggersAhead_111 rfl rfl mr_3_69 rfl rfl rfl (k_tell2 ((I2 41 1).toInt64) m2.toInt64) ?_
        rintro _ _ ⟨rfl, rfl⟩
        show Ev lyC (d + 6) hX3_staggersAhead 114 [some (.ref 18), some (.ref 39), some (.ref p), some (.int (nI m)), some (.int m2), some (.int (nI b))] [] (ti_wr I2 3 1 (nI 2), ti_wl (ti_wl J 4 0 ((I2 41 1).toInt64)) 4 1 m2.toInt64, R) _
        refine ev_st dX3_staggersAhead_114 rfl rfl ?_
        refine ev_getC dX3_staggersAhead_115 fr_3_12 rfl rfl ?_
        refine ev_getI (v := I2 41 7) dX3_staggersAhead_118 fr_3_75 rfl rfl rfl ?_
        refine ev_st dX3_staggersAhead_121 rfl rfl ?_
        refine ev_getI (v := I 39 7) dX3_staggersAhead_122 fr_3_75 rfl rfl (congrFun (hs2.r 39 rfl) 7) ?_
        refine ev_st dX3_staggersAhead_125 rfl rfl ?_
        exact ev_iret dX3_staggersAhead_126 rfl (by rw [show b = n by omega] at hm; exact ⟨by rw [hsr.2.2.2.2.2.2.1, hr.2.2.2.2.2.2.1], _, _, rfl, (hs2.w (p := 3) (k := 1) rfl _), tC2 rfl (by rw [← hsr.1]; rfl) (by rw [← hm]; rfl)⟩)
      · refine ev_st dX3_staggersAhead_75 rfl rfl ?_
        refine ev_st dX3_staggersAhead_77 rfl rfl ?_
        refine ev_getC dX3_staggersAhead_78 fr_3_12 rfl rfl ?_
        refine ev_getC dX3_staggersAhead_81 fr_3_66 rfl rfl ?_
        refine ev_st dX3_staggersAhead_84 rfl rfl ?_
        refine ev_iald (j := b) (v := I2 42 b) dX3_staggersAhead_86 rfl rfl (by omega) (by decide) rfl ?_
        refine ev_st dX3_staggersAhead_87 rfl rfl ?_
        refine ev_st (L' := [some (.ref 18), some (.ref 39), some (.ref p), some (.int (nI m)), some (.int (m2 + (I2 42 b))), some (.int (nI b))]) dX3_staggersAhead_88 rfl rfl ?_
        refine ev_iincN (a := b) (b := b + 1) (L' := [some (.ref 18), some (.ref 39), some (.ref p), some (.int (nI m)), some (.int (m2 + (I2 42 b))), some (.int (nI (b + 1)))]) dX3_staggersAhead_90 rfl (nI_1 _) rfl ?_
        refine ev_goto (t := 63) dX3_staggersAhead_93 (by decide) ?_
        exact ih _ _ (by omega) (by omega) (by simp only [m_sum, ← hm]; rw [hsr.2.2.2.2.2.2.2.1 b (by omega)])
set_option maxHeartbeats 1000000 in
theorem k_staggersAhead {I : Nat → Nat → Int32} {J : Nat → Nat → Int64} {R : Nat → Nat → Value} {d n c ns a p z rs : Nat} {rv : RV} {row sp str tl sy : Nat → Int32} (hK : kA I d n c p z rv) (hst : ST I sp str tl sy n c ns) (hz : z = 0 ↔ rs = 0) (hr : SR (I 39) (I 40) row n ns) (hw : WS row n ns c a) (h0 : ¬ m_cy row n = 0) {m : Nat} (hm12 : m ≤ 12) : Cal lyC (d + 6) hX3_staggersAhead 6 [.ref 18, .ref 39, .ref p, .int (nI m)] (I, J, R) (fun r M' => r = some (.int ((m_ah sp str tl n c rs rv m row a 0).2.1 28 - row 28)) ∧ ∃ I3 J3, M' = (I3, J3, R) ∧ fC I I3 ∧ tC [((m_ah sp str tl n c rs rv m row a 0).2.1 24).toInt64, (m_sum (m_ah sp str tl n c rs rv m row a 0).2.1 n).toInt64] I3 J3) := by
  have hn := hK.1
  have hn8 := hK.2.1
  have hc := hK.2.2.1
  have hc12 := hK.2.2.2.1
  have hns8 := hst.2.2.2.2.2.2.1
  have ha : I 39 1 = nI a := hr.1.trans hw.1
  have hac := hw.2.1
  have ha12 : a ≤ 12 := by omega
  have loop : ∀ (k b : Nat) (z : Option Value) (I2 : Nat → Nat → Int32) (row2 : Nat → Int32) (a2 : Nat) (s2 : Int32), b ≤ m → m - b < k → fC I I2 → SR (I2 41) (I2 42) row2 n ns → WS row2 n ns c a2 → ¬ m_cy row2 n = 0 → (m_ah sp str tl n c rs rv (m - b) row2 a2 s2).2.1 = (m_ah sp str tl n c rs rv m row a 0).2.1 → Ev lyC (d + 6) hX3_staggersAhead 11 [some (.ref 18), some (.ref 39), some (.ref p), some (.int (nI m)), some (.int (nI b)), z] [] (I2, J, R) (fun r M' => r = some (.int ((m_ah sp str tl n c rs rv m row a 0).2.1 28 - row 28)) ∧ ∃ I3 J3, M' = (I3, J3, R) ∧ fC I I3 ∧ tC [((m_ah sp str tl n c rs rv m row a 0).2.1 24).toInt64, (m_sum (m_ah sp str tl n c rs rv m row a 0).2.1 n).toInt64] I3 J3) := by
    intro k
    induction k with
    | zero => intro b  z I2  row2 a2 s2 h1 h2; omega
    | succ k ih =>
      intro b  z I2  row2 a2 s2 hb hk  hs2 hsr hws h0 hT
      have ha2 := hws.2.1
      refine ev_st dX3_staggersAhead_11 rfl rfl ?_
      refine ev_st dX3_staggersAhead_13 rfl rfl ?_
      refine ev_ic_geN (t := 57) (a := b) (b := m) dX3_staggersAhead_14 (by decide) rfl rfl (by omega) (by omega) (fun c_14 => ?_) (fun c_14 => ?_)
      · refine ev_iconst (v := 0) dX3_staggersAhead_57 (by decide) ?_
        refine ev_st (L' := [some (.ref 18), some (.ref 39), some (.ref p), some (.int (nI m)), some (.int 0), z]) dX3_staggersAhead_58 rfl rfl ?_
        refine ev_iconst (v := 0) dX3_staggersAhead_60 (by decide) ?_
        refine ev_st (L' := [some (.ref 18), some (.ref 39), some (.ref p), some (.int (nI m)), some (.int 0), some (.int 0)]) dX3_staggersAhead_61 rfl rfl ?_
        rw [show m - b = 0 by omega, m_ah] at hT
        have K := k_sAhead2 (J := J) (R := R) (p := p) (m := m) hK hst hz hr hw hs2 hsr (n + 1) 0 0 (by omega) (by omega) rfl
        rw [← show row2 = (m_ah sp str tl n c rs rv m row a 0).2.1 from hT]
        exact K
      · refine ev_st dX3_staggersAhead_17 rfl rfl ?_
        refine ev_getC dX3_staggersAhead_18 fr_3_12 rfl rfl ?_
        refine ev_getI (v := nI a2) dX3_staggersAhead_21 fr_3_48 rfl rfl (hsr.1.trans hws.1) ?_
        refine ev_st dX3_staggersAhead_24 rfl rfl ?_
        refine ev_getC dX3_staggersAhead_25 fr_3_28 rfl rfl ?_
        refine ev_getI (v := nI c) dX3_staggersAhead_28 fr_3_52 rfl rfl ((congrFun (hs2.r 5 rfl) 2).trans hc) ?_
        refine ev_ic_geN (t := 57) (a := a2) (b := c) dX3_staggersAhead_31 (by decide) rfl rfl (by omega) (by omega) (fun c_31 => ?_) (fun c_31 => ?_)
        · refine ev_iconst (v := 0) dX3_staggersAhead_57 (by decide) ?_
          refine ev_st (L' := [some (.ref 18), some (.ref 39), some (.ref p), some (.int (nI m)), some (.int 0), z]) dX3_staggersAhead_58 rfl rfl ?_
          refine ev_iconst (v := 0) dX3_staggersAhead_60 (by decide) ?_
          refine ev_st (L' := [some (.ref 18), some (.ref 39), some (.ref p), some (.int (nI m)), some (.int 0), some (.int 0)]) dX3_staggersAhead_61 rfl rfl ?_
          rw [show m - b = (m - (b + 1)) + 1 by omega, m_ah, if_pos (by omega)] at hT
          have K := k_sAhead2 (J := J) (R := R) (p := p) (m := m) hK hst hz hr hw hs2 hsr (n + 1) 0 0 (by omega) (by omega) rfl
          rw [← show row2 = (m_ah sp str tl n c rs rv m row a 0).2.1 from hT]
          exact K
        · refine ev_st dX3_staggersAhead_34 rfl rfl ?_
          refine ev_getC dX3_staggersAhead_35 fr_3_12 rfl rfl ?_
          refine ev_st dX3_staggersAhead_38 rfl rfl ?_
          refine ev_getC dX3_staggersAhead_39 fr_3_28 rfl rfl ?_
          refine ev_st dX3_staggersAhead_42 rfl rfl ?_
          refine ev_getC dX3_staggersAhead_43 fr_3_32 rfl rfl ?_
          refine ev_st dX3_staggersAhead_46 rfl rfl ?_
          refine ev_call dX3_staggersAhead_47 rfl rfl mr_3_57 rfl rfl rfl (Cal.mono (by omega) (t_adv (I2 := I2) (J := J) hK hst hz hs2 hsr hws (by omega) h0)) ?_
          rintro _ _ ⟨rfl, I3, rfl, hs3, g3, hsr3, hws3, h03⟩
          show Ev lyC (d + 6) hX3_staggersAhead 50 [some (.ref 18), some (.ref 39), some (.ref p), some (.int (nI m)), some (.int (nI b)), z] [.int (m_SG sp str tl n c rs rv row2 a2)] (I3, J, R) _
          refine ev_st dX3_staggersAhead_50 rfl rfl ?_
          refine ev_iincN (a := b) (b := b + 1) (L' := [some (.ref 18), some (.ref 39), some (.ref p), some (.int (nI m)), some (.int (nI (b + 1))), z]) dX3_staggersAhead_51 rfl (nI_1 _) rfl ?_
          refine ev_goto (t := 11) dX3_staggersAhead_54 (by decide) ?_
          exact ih _ _ _ _ _ _ (by omega) (by omega) hs3 hsr3 hws3 h03 (by rw [← hT, show m - b = (m - (b + 1)) + 1 by omega, m_ah, if_neg (by omega)])
  show Ev lyC (d + 6) hX3_staggersAhead 0 [some (.ref 18), some (.ref 39), some (.ref p), some (.int (nI m)), none, none] [] (I, J, R) _
  refine ev_st dX3_staggersAhead_0 rfl rfl ?_
  refine ev_getC dX3_staggersAhead_1 fr_3_12 rfl rfl ?_
  refine ev_st dX3_staggersAhead_4 rfl rfl ?_
  refine ev_call dX3_staggersAhead_5 rfl rfl mr_3_44 rfl rfl rfl (t_bec hn8 hr hw) ?_
  rintro _ _ ⟨rfl, I2, rfl, hs2, h3, hsr⟩
  show Ev lyC (d + 6) hX3_staggersAhead 8 [some (.ref 18), some (.ref 39), some (.ref p), some (.int (nI m)), none, none] [] (I2, J, R) _
  refine ev_iconst (v := 0) dX3_staggersAhead_8 (by decide) ?_
  refine ev_st (L' := [some (.ref 18), some (.ref 39), some (.ref p), some (.int (nI m)), some (.int 0), none]) dX3_staggersAhead_9 rfl rfl ?_
  exact loop (m + 1) 0  _ _ _ _ _ (by omega) (by omega)  hs2 hsr hw h0 rfl
