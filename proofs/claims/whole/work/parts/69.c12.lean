/-! the class: drawn walks -/
theorem ev_remN {lay : List TE} {d pc c : Nat} {h : TH} {L : TL} {st : List Value} {M : TM} {Q : Option Value → TM → Prop} {x y : Int32} (hd : decode h.2.1 pc = .ok (.irem, 1)) (hy : ¬ y = 0) (hv : x - x / y * y = nI c) (kk : Ev lay d h (pc + 1) L (.int (nI c) :: st) M Q) : Ev lay d h pc L (.int y :: .int x :: st) M Q := by
  rw [← hv] at kk
  exact ev_rem hd hy kk
theorem k_drawC {I : Nat → Nat → Int32} {J : Nat → Nat → Int64} {R : Nat → Nat → Value} {d m v : Nat} {x : Int32} (h0 : 0 < m) (hm : m < 2 ^ 31) (hx : I 18 8 = x) (hv : drN (m_dw x) % m = v) : Cal lyC d hX3_draw 2 [.ref 18, .int (nI m)] (I, J, R) (fun r M' => r = some (.int (nI v)) ∧ M' = (ti_wr I 18 8 (m_dw x), J, R)) := by
  subst hx; subst hv
  exact k_draw h0 hm
/-- what a drawn act leaves -/
def qD (I I2 : Nat → Nat → Int32) (J : Nat → Nat → Int64) (R : Nat → Nat → Value) (n ns c : Nat) (T : (Nat → Int32) × Nat × Int32) (r : Option Value) (M' : TM) : Prop := r = none ∧ ∃ I3, M' = (I3, J, R) ∧ fC I I3 ∧ I3 3 = I2 3 ∧ SR (I3 41) (I3 42) T.1 n ns ∧ WS T.1 n ns c T.2.1 ∧ I3 18 8 = T.2.2
theorem wr18 {I : Nat → Nat → Int32} {v : Int32} {p : Nat} (h : p ≠ 18) : ti_wr I 18 8 v p = I p := ti_wr_n h
theorem y_stay {I I2 : Nat → Nat → Int32} {J : Nat → Nat → Int64} {R : Nat → Nat → Value} {n ns c a2 : Nat} {row2 : Nat → Int32} {x : Int32} {T : (Nat → Int32) × Nat × Int32} (hs2 : fC I I2) (hsr : SR (I2 41) (I2 42) row2 n ns) (hws : WS row2 n ns c a2) (hT : T = (row2, a2, x)) : qD I I2 J R n ns c T none (ti_wr I2 18 8 x, J, R) := by
  subst hT
  exact ⟨rfl, _, rfl, hs2.w (p := 18) (k := 8) rfl _, ti_wr_n (by decide), by rw [ti_wr_n (by decide), ti_wr_n (by decide)]; exact hsr, hws, ti_wr_at⟩
theorem y_go {I I2 I1 I3 : Nat → Nat → Int32} {J : Nat → Nat → Int64} {R : Nat → Nat → Value} {n ns c a3 : Nat} {row3 : Nat → Int32} {x : Int32} {T : (Nat → Int32) × Nat × Int32} (hs1 : fC I I1) (h3 : I1 3 = I2 3) (h18 : I1 18 8 = x) (g : qF 41 I1 I3) (hsr : SR (I3 41) (I3 42) row3 n ns) (hws : WS row3 n ns c a3) (hT : T = (row3, a3, x)) : qD I I2 J R n ns c T none (I3, J, R) := by
  subst hT
  exact ⟨rfl, _, rfl, g.f hs1, (g.r 3 rfl).trans h3, hsr, hws, (congrFun (g.r 18 rfl) 8).trans h18⟩
theorem rem4 : ∀ w, w < 4 → nI (w + 1) - nI (w + 1) / 4 * 4 = nI ((w + 1) % 4) ∧ ¬ nI w = nI ((w + 1) % 4) := by decide
theorem y_post0 {I I2 I1 I3 : Nat → Nat → Int32} {J : Nat → Nat → Int64} {R : Nat → Nat → Value} {n ns c a2 rs : Nat} {row2 sp str tl sy : Nat → Int32} {x2 : Int32} {rv : RV} (hst : ST I sp str tl sy n c ns) (hs1 : fC I I1) (h3 : I1 3 = I2 3) (h18 : I1 18 8 = m_dw x2) (g : qF 41 I1 I3) (hsr : SR (I3 41) (I3 42) (if m_rS c a2 (m_cy row2 n) = 0 then m_NX sp str tl n c rs rv row2 a2 else row2) n ns) (hws : WS row2 n ns c a2) (hk : drN (m_dw x2) % 4 = 0) : qD I I2 J R n ns c (m_y1 sp str tl sy n c ns rs rv (row2, a2, x2)) none (I3, J, R) := by
  by_cases e : m_rS c a2 (m_cy row2 n) = 0
  · rw [if_pos e] at hsr
    exact y_go hs1 h3 h18 g hsr (hws.gs hst.2.1 hst.2.2.2.2.2.2.1 (sg01 _ _) (rS_lt e)) (by simp only [m_y1]; rw [if_pos hk, if_pos e])
  · rw [if_neg e] at hsr
    exact y_go hs1 h3 h18 g hsr hws (by simp only [m_y1]; rw [if_pos hk, if_neg e])
set_option maxHeartbeats 1000000 in
theorem k_dd0  {I I2 : Nat → Nat → Int32} {J : Nat → Nat → Int64} {R : Nat → Nat → Value} {d n c ns a2 p z rs : Nat} {rv : RV} {row2 sp str tl sy : Nat → Int32} {x2 : Int32} (hK : kA I d n c p z rv) (hst : ST I sp str tl sy n c ns) (hz : z = 0 ↔ rs = 0) (hs2 : fC I I2) (hsr : SR (I2 41) (I2 42) row2 n ns) (hws : WS row2 n ns c a2) (h18 : I2 18 8 = x2) (hk : drN (m_dw x2) % 4 = 0) : Cal lyC (d + 6) hX3_doDrawn 2 [.ref 18, .ref p] (I2, J, R) (qD I I2 J R n ns c (m_y1 sp str tl sy n c ns rs rv (row2, a2, x2))) := by
  have hn := hK.1
  have hn8 := hK.2.1
  have hns := hst.2.2.2.2.2.1
  have hns8 := hst.2.2.2.2.2.2.1
  have hs1 : fC I (ti_wr I2 18 8 (m_dw x2)) := hs2.w (p := 18) (k := 8) rfl _
  have hs3 : fC I (ti_wr I2 18 8 (m_dw (m_dw x2))) := hs2.w (p := 18) (k := 8) rfl _
  have hr1 : ∀ v, SR (ti_wr I2 18 8 v 41) (ti_wr I2 18 8 v 42) row2 n ns := fun v => by rw [ti_wr_n (by decide), ti_wr_n (by decide)]; exact hsr
  show Ev lyC (d + 6) hX3_doDrawn 0 [some (.ref 18), some (.ref p)] [] (I2, J, R) _
  refine ev_st dX3_doDrawn_0 rfl rfl ?_
  refine ev_iconst (v := 4) dX3_doDrawn_1 (by decide) ?_
  refine ev_call dX3_doDrawn_2 rfl rfl mr_3_158 rfl rfl rfl (k_drawC (m := 4) (v := 0) (by decide) (by decide) h18 hk) ?_
  rintro _ _ ⟨rfl, rfl⟩
  show Ev lyC (d + 6) hX3_doDrawn 5 [some (.ref 18), some (.ref p)] [.int (nI 0)] (ti_wr I2 18 8 (m_dw x2), J, R) _
  refine ev_ts (j := 0) (t := 32) dX3_doDrawn_5 rfl (by decide) (by decide) rfl (by decide) ?_
  refine ev_st dX3_doDrawn_32 rfl rfl ?_
  refine ev_getC dX3_doDrawn_33 fr_3_12 rfl rfl ?_
  refine ev_st dX3_doDrawn_36 rfl rfl ?_
  refine ev_getC dX3_doDrawn_37 fr_3_28 rfl rfl ?_
  refine ev_st dX3_doDrawn_40 rfl rfl ?_
  refine ev_getC dX3_doDrawn_41 fr_3_32 rfl rfl ?_
  refine ev_st dX3_doDrawn_44 rfl rfl ?_
  refine ev_call dX3_doDrawn_45 rfl rfl mr_3_57 rfl rfl rfl (Cal.mono (by omega) (a_adv (I := ti_wr I2 18 8 (m_dw x2)) (J := J) (Or.inr rfl) (hK.f hs1) (hst.f hs1) hz (hr1 _) hws)) ?_
  rintro _ _ ⟨rfl, I3, rfl, g3, hsr3⟩
  show Ev lyC (d + 6) hX3_doDrawn 48 [some (.ref 18), some (.ref p)] [.int (if m_rS c a2 (m_cy row2 n) = 0 then m_SG sp str tl n c rs rv row2 a2 else m_rS c a2 (m_cy row2 n))] (I3, J, R) _
  refine ev_st dX3_doDrawn_48 rfl rfl ?_
  exact ev_vret dX3_doDrawn_49 rfl (y_post0 hst hs1 (ti_wr_n (by decide)) ti_wr_at g3 hsr3 hws hk)
set_option maxHeartbeats 1000000 in
theorem k_dd1  {I I2 : Nat → Nat → Int32} {J : Nat → Nat → Int64} {R : Nat → Nat → Value} {d n c ns a2 p z rs : Nat} {rv : RV} {row2 sp str tl sy : Nat → Int32} {x2 : Int32} (hK : kA I d n c p z rv) (hst : ST I sp str tl sy n c ns) (hz : z = 0 ↔ rs = 0) (hs2 : fC I I2) (hsr : SR (I2 41) (I2 42) row2 n ns) (hws : WS row2 n ns c a2) (h18 : I2 18 8 = x2) (hk : drN (m_dw x2) % 4 = 1) : Cal lyC (d + 6) hX3_doDrawn 2 [.ref 18, .ref p] (I2, J, R) (qD I I2 J R n ns c (m_y1 sp str tl sy n c ns rs rv (row2, a2, x2))) := by
  have hn := hK.1
  have hn8 := hK.2.1
  have hns := hst.2.2.2.2.2.1
  have hns8 := hst.2.2.2.2.2.2.1
  have hs1 : fC I (ti_wr I2 18 8 (m_dw x2)) := hs2.w (p := 18) (k := 8) rfl _
  have hs3 : fC I (ti_wr I2 18 8 (m_dw (m_dw x2))) := hs2.w (p := 18) (k := 8) rfl _
  have hr1 : ∀ v, SR (ti_wr I2 18 8 v 41) (ti_wr I2 18 8 v 42) row2 n ns := fun v => by rw [ti_wr_n (by decide), ti_wr_n (by decide)]; exact hsr
  show Ev lyC (d + 6) hX3_doDrawn 0 [some (.ref 18), some (.ref p)] [] (I2, J, R) _
  refine ev_st dX3_doDrawn_0 rfl rfl ?_
  refine ev_iconst (v := 4) dX3_doDrawn_1 (by decide) ?_
  refine ev_call dX3_doDrawn_2 rfl rfl mr_3_158 rfl rfl rfl (k_drawC (m := 4) (v := 1) (by decide) (by decide) h18 hk) ?_
  rintro _ _ ⟨rfl, rfl⟩
  show Ev lyC (d + 6) hX3_doDrawn 5 [some (.ref 18), some (.ref p)] [.int (nI 1)] (ti_wr I2 18 8 (m_dw x2), J, R) _
  refine ev_ts (j := 1) (t := 50) dX3_doDrawn_5 rfl (by decide) (by decide) rfl (by decide) ?_
  refine ev_st dX3_doDrawn_50 rfl rfl ?_
  refine ev_getC dX3_doDrawn_51 fr_3_32 rfl rfl ?_
  refine ev_getI (v := nI n) dX3_doDrawn_54 fr_3_61 rfl rfl ((congrFun (hs2.r 8 rfl) 3).trans hn) ?_
  refine ev_if_leN (t := 75) (a := n) dX3_doDrawn_57 (by decide) rfl (by omega) (fun c_57 => ?_) (fun c_57 => ?_)
  · exact ev_vret dX3_doDrawn_75 rfl (y_stay hs2 hsr hws (by simp only [m_y1]; rw [if_neg (by omega), if_pos hk, if_pos c_57]))
  · refine ev_st dX3_doDrawn_60 rfl rfl ?_
    refine ev_st dX3_doDrawn_61 rfl rfl ?_
    refine ev_st dX3_doDrawn_62 rfl rfl ?_
    refine ev_getC dX3_doDrawn_63 fr_3_32 rfl rfl ?_
    refine ev_getI (v := nI n) dX3_doDrawn_66 fr_3_61 rfl rfl ((congrFun (hs2.r 8 rfl) 3).trans hn) ?_
    refine ev_call dX3_doDrawn_69 rfl rfl mr_3_158 rfl rfl rfl ((by have K := k_drawC (I := ti_wr I2 18 8 (m_dw x2)) (J := J) (R := R) (d := d + 5) (m := n) (x := m_dw x2) (by omega) (by omega) ti_wr_at rfl; rw [ti_wr2] at K; exact K)) ?_
    rintro _ _ ⟨rfl, rfl⟩
    show Ev lyC (d + 6) hX3_doDrawn 72 [some (.ref 18), some (.ref p)] [.int (nI (drN (m_dw (m_dw x2)) % n)), .ref 18] (ti_wr I2 18 8 (m_dw (m_dw x2)), J, R) _
    refine ev_call dX3_doDrawn_72 rfl rfl mr_3_161 rfl rfl rfl (k_turn (I := ti_wr I2 18 8 (m_dw (m_dw x2))) (by rw [hs3.r 8 rfl]; exact hn) hn8 (hr1 _) hws (Nat.mod_lt _ (by omega))) ?_
    rintro _ _ ⟨rfl, I3, rfl, g3, hsr3, hws3⟩
    show Ev lyC (d + 6) hX3_doDrawn 75 [some (.ref 18), some (.ref p)] [] (I3, J, R) _
    exact ev_vret dX3_doDrawn_75 rfl (y_go hs3 (ti_wr_n (by decide)) ti_wr_at g3 hsr3 hws3 (by simp only [m_y1]; rw [if_neg (by omega), if_pos hk, if_neg (by omega), m_tu]; split <;> (try split) <;> rfl))
theorem y_post2 {I I2 I3 : Nat → Nat → Int32} {J J3 : Nat → Nat → Int64} {R R3 : Nat → Nat → Value} {n ns c a2 rs : Nat} {row2 sp str tl sy : Nat → Int32} {x2 v : Int32} {rv : RV} (hs2 : fC I I2) (hsr : SR (I2 41) (I2 42) row2 n ns) (hws : WS row2 n ns c a2) (hk : drN (m_dw x2) % 4 = 2) (h0 : ¬ ns = 0) (hq : aSp 41 n ns c a2 sy row2 (drN (m_dw (m_dw x2)) % ns) (ti_wr I2 18 8 (m_dw (m_dw x2))) J R (some (.int v)) (I3, J3, R3)) : qD I I2 J R n ns c (m_y1 sp str tl sy n c ns rs rv (row2, a2, x2)) none (I3, J3, R3) := by
  rcases hq with ⟨h1, h2, h3⟩ | ⟨h1, h3, I4, h4, h5, h6, h7⟩
  · rw [h3]
    exact y_stay hs2 hsr hws (by simp only [m_y1]; rw [if_neg (by omega), if_neg (by omega), if_pos hk, if_neg h0, if_neg (by intro z; rw [z] at h1; exact absurd h1 (by decide))])
  · rw [h4]
    exact y_go (hs2.w (p := 18) (k := 8) rfl _) (ti_wr_n (by decide)) ti_wr_at h5 h6 h7 (by simp only [m_y1]; rw [if_neg (by omega), if_neg (by omega), if_pos hk, if_neg h0, if_pos h1])
set_option maxHeartbeats 1000000 in
theorem k_dd2  {I I2 : Nat → Nat → Int32} {J : Nat → Nat → Int64} {R : Nat → Nat → Value} {d n c ns a2 p z rs : Nat} {rv : RV} {row2 sp str tl sy : Nat → Int32} {x2 : Int32} (hK : kA I d n c p z rv) (hst : ST I sp str tl sy n c ns) (hz : z = 0 ↔ rs = 0) (hs2 : fC I I2) (hsr : SR (I2 41) (I2 42) row2 n ns) (hws : WS row2 n ns c a2) (h18 : I2 18 8 = x2) (hk : drN (m_dw x2) % 4 = 2) : Cal lyC (d + 6) hX3_doDrawn 2 [.ref 18, .ref p] (I2, J, R) (qD I I2 J R n ns c (m_y1 sp str tl sy n c ns rs rv (row2, a2, x2))) := by
  have hn := hK.1
  have hn8 := hK.2.1
  have hns := hst.2.2.2.2.2.1
  have hns8 := hst.2.2.2.2.2.2.1
  have hs1 : fC I (ti_wr I2 18 8 (m_dw x2)) := hs2.w (p := 18) (k := 8) rfl _
  have hs3 : fC I (ti_wr I2 18 8 (m_dw (m_dw x2))) := hs2.w (p := 18) (k := 8) rfl _
  have hr1 : ∀ v, SR (ti_wr I2 18 8 v 41) (ti_wr I2 18 8 v 42) row2 n ns := fun v => by rw [ti_wr_n (by decide), ti_wr_n (by decide)]; exact hsr
  show Ev lyC (d + 6) hX3_doDrawn 0 [some (.ref 18), some (.ref p)] [] (I2, J, R) _
  refine ev_st dX3_doDrawn_0 rfl rfl ?_
  refine ev_iconst (v := 4) dX3_doDrawn_1 (by decide) ?_
  refine ev_call dX3_doDrawn_2 rfl rfl mr_3_158 rfl rfl rfl (k_drawC (m := 4) (v := 2) (by decide) (by decide) h18 hk) ?_
  rintro _ _ ⟨rfl, rfl⟩
  show Ev lyC (d + 6) hX3_doDrawn 5 [some (.ref 18), some (.ref p)] [.int (nI 2)] (ti_wr I2 18 8 (m_dw x2), J, R) _
  refine ev_ts (j := 2) (t := 76) dX3_doDrawn_5 rfl (by decide) (by decide) rfl (by decide) ?_
  refine ev_st dX3_doDrawn_76 rfl rfl ?_
  refine ev_getC dX3_doDrawn_77 fr_3_36 rfl rfl ?_
  refine ev_getI (v := nI ns) dX3_doDrawn_80 fr_3_143 rfl rfl ((congrFun (hs2.r 11 rfl) 4).trans hns) ?_
  refine ev_if_leN (t := 113) (a := ns) dX3_doDrawn_83 (by decide) rfl (by omega) (fun c_83 => ?_) (fun c_83 => ?_)
  · exact ev_vret dX3_doDrawn_113 rfl (y_stay hs2 hsr hws (by simp only [m_y1]; rw [if_neg (by omega), if_neg (by omega), if_pos hk, if_pos c_83]))
  · refine ev_st dX3_doDrawn_86 rfl rfl ?_
    refine ev_getC dX3_doDrawn_87 fr_3_12 rfl rfl ?_
    refine ev_st dX3_doDrawn_90 rfl rfl ?_
    refine ev_getC dX3_doDrawn_91 fr_3_28 rfl rfl ?_
    refine ev_st dX3_doDrawn_94 rfl rfl ?_
    refine ev_getC dX3_doDrawn_95 fr_3_36 rfl rfl ?_
    refine ev_st dX3_doDrawn_98 rfl rfl ?_
    refine ev_st dX3_doDrawn_99 rfl rfl ?_
    refine ev_getC dX3_doDrawn_100 fr_3_36 rfl rfl ?_
    refine ev_getI (v := nI ns) dX3_doDrawn_103 fr_3_143 rfl rfl ((congrFun (hs2.r 11 rfl) 4).trans hns) ?_
    refine ev_call dX3_doDrawn_106 rfl rfl mr_3_158 rfl rfl rfl ((by have K := k_drawC (I := ti_wr I2 18 8 (m_dw x2)) (J := J) (R := R) (d := d + 5) (m := ns) (x := m_dw x2) (by omega) (by omega) ti_wr_at rfl; rw [ti_wr2] at K; exact K)) ?_
    rintro _ _ ⟨rfl, rfl⟩
    show Ev lyC (d + 6) hX3_doDrawn 109 [some (.ref 18), some (.ref p)] [.int (nI (drN (m_dw (m_dw x2)) % ns)), .ref 11, .ref 5, .ref 41] (ti_wr I2 18 8 (m_dw (m_dw x2)), J, R) _
    refine ev_call dX3_doDrawn_109 rfl rfl mr_3_165 rfl rfl rfl (a_speak (I := ti_wr I2 18 8 (m_dw (m_dw x2))) (Or.inr rfl) (hst.f hs3) (hr1 _) hws (Nat.mod_lt _ (by omega))) ?_
    rintro r ⟨I3, J3, R3⟩ hq
    have hq0 : ∃ vr, r = some (.int vr) := by rcases hq with ⟨_, h, _⟩ | ⟨_, h, _⟩ <;> exact ⟨_, h⟩
    obtain ⟨vr, rfl⟩ := hq0
    show Ev lyC (d + 6) hX3_doDrawn 112 [some (.ref 18), some (.ref p)] [.int vr] (I3, J3, R3) _
    refine ev_st dX3_doDrawn_112 rfl rfl ?_
    exact ev_vret dX3_doDrawn_113 rfl (y_post2 hs2 hsr hws hk (by omega) hq)
theorem y_post3 {I I2 I3 : Nat → Nat → Int32} {J J3 : Nat → Nat → Int64} {R R3 : Nat → Nat → Value} {n ns c a2 rs w : Nat} {row2 sp str tl sy : Nat → Int32} {x2 v : Int32} {rv : RV} (hs2 : fC I I2) (hk : drN (m_dw x2) % 4 = 3) (hw : w < 4) (e26 : row2 26 = nI w) (hq : aFw 41 n ns c a2 row2 ((w + 1) % 4) (ti_wr I2 18 8 (m_dw x2)) J R (some (.int v)) (I3, J3, R3)) : qD I I2 J R n ns c (m_y1 sp str tl sy n c ns rs rv (row2, a2, x2)) none (I3, J3, R3) := by
  rcases hq with ⟨h1, h2, h3⟩ | ⟨h1, h3, I4, h4, h5, h6, h7⟩
  · rw [e26] at h1; exact absurd h1 (rem4 w hw).2
  · rw [h4]
    refine y_go (hs2.w (p := 18) (k := 8) rfl _) (ti_wr_n (by decide)) ti_wr_at h5 h6 h7 ?_
    simp only [m_y1]
    rw [if_neg (by omega), if_neg (by omega), if_neg (by omega), e26, nI_1, (rem4 w hw).1]
set_option maxHeartbeats 1000000 in
theorem k_dd3  {I I2 : Nat → Nat → Int32} {J : Nat → Nat → Int64} {R : Nat → Nat → Value} {d n c ns a2 p z rs : Nat} {rv : RV} {row2 sp str tl sy : Nat → Int32} {x2 : Int32} (hK : kA I d n c p z rv) (hst : ST I sp str tl sy n c ns) (hz : z = 0 ↔ rs = 0) (hs2 : fC I I2) (hsr : SR (I2 41) (I2 42) row2 n ns) (hws : WS row2 n ns c a2) (h18 : I2 18 8 = x2) (hk3 : drN (m_dw x2) % 4 = 3) : Cal lyC (d + 6) hX3_doDrawn 2 [.ref 18, .ref p] (I2, J, R) (qD I I2 J R n ns c (m_y1 sp str tl sy n c ns rs rv (row2, a2, x2))) := by
  have hn := hK.1
  have hn8 := hK.2.1
  have hns := hst.2.2.2.2.2.1
  have hns8 := hst.2.2.2.2.2.2.1
  have hs1 : fC I (ti_wr I2 18 8 (m_dw x2)) := hs2.w (p := 18) (k := 8) rfl _
  have hs3 : fC I (ti_wr I2 18 8 (m_dw (m_dw x2))) := hs2.w (p := 18) (k := 8) rfl _
  have hr1 : ∀ v, SR (ti_wr I2 18 8 v 41) (ti_wr I2 18 8 v 42) row2 n ns := fun v => by rw [ti_wr_n (by decide), ti_wr_n (by decide)]; exact hsr
  obtain ⟨w, hw4, e26⟩ := hws.2.2.2.2.2.2.1
  have hk := hk3
  show Ev lyC (d + 6) hX3_doDrawn 0 [some (.ref 18), some (.ref p)] [] (I2, J, R) _
  refine ev_st dX3_doDrawn_0 rfl rfl ?_
  refine ev_iconst (v := 4) dX3_doDrawn_1 (by decide) ?_
  refine ev_call dX3_doDrawn_2 rfl rfl mr_3_158 rfl rfl rfl (k_drawC (m := 4) (v := 3) (by decide) (by decide) h18 hk) ?_
  rintro _ _ ⟨rfl, rfl⟩
  show Ev lyC (d + 6) hX3_doDrawn 5 [some (.ref 18), some (.ref p)] [.int (nI 3)] (ti_wr I2 18 8 (m_dw x2), J, R) _
  refine ev_tsD (j := 3) (t := 114) dX3_doDrawn_5 (by decide) (by decide) rfl (by decide) ?_
  refine ev_st dX3_doDrawn_114 rfl rfl ?_
  refine ev_getC dX3_doDrawn_115 fr_3_12 rfl rfl ?_
  refine ev_st dX3_doDrawn_118 rfl rfl ?_
  refine ev_getC dX3_doDrawn_119 fr_3_12 rfl rfl ?_
  refine ev_getI (v := nI w) dX3_doDrawn_122 fr_3_103 rfl rfl (hsr.2.2.2.1.trans e26) ?_
  refine ev_iconst (v := 1) dX3_doDrawn_125 (by decide) ?_
  refine ev_iaddN (a := w) (b := 1) (c := w + 1) dX3_doDrawn_126 rfl rfl rfl ?_
  refine ev_iconst (v := 4) dX3_doDrawn_127 (by decide) ?_
  refine ev_remN (c := (w + 1) % 4) dX3_doDrawn_128 (by decide) (rem4 w hw4).1 ?_
  refine ev_call dX3_doDrawn_129 rfl rfl mr_3_168 rfl rfl rfl (a_follow (I := ti_wr I2 18 8 (m_dw x2)) (w := (w + 1) % 4) (Or.inr rfl) hn8 hns8 (hr1 _) hws (by omega)) ?_
  rintro r ⟨I3, J3, R3⟩ hq
  have hq0 : ∃ vr, r = some (.int vr) := by rcases hq with ⟨_, h, _⟩ | ⟨_, h, _⟩ <;> exact ⟨_, h⟩
  obtain ⟨vr, rfl⟩ := hq0
  show Ev lyC (d + 6) hX3_doDrawn 132 [some (.ref 18), some (.ref p)] [.int vr] (I3, J3, R3) _
  refine ev_st dX3_doDrawn_132 rfl rfl ?_
  exact ev_vret dX3_doDrawn_133 rfl (y_post3 hs2 hk3 hw4 e26 hq)
theorem k_dd {I I2 : Nat → Nat → Int32} {J : Nat → Nat → Int64} {R : Nat → Nat → Value} {d n c ns a2 p z rs : Nat} {rv : RV} {row2 sp str tl sy : Nat → Int32} {x2 : Int32} (hK : kA I d n c p z rv) (hst : ST I sp str tl sy n c ns) (hz : z = 0 ↔ rs = 0) (hs2 : fC I I2) (hsr : SR (I2 41) (I2 42) row2 n ns) (hws : WS row2 n ns c a2) (h18 : I2 18 8 = x2) : Cal lyC (d + 6) hX3_doDrawn 2 [.ref 18, .ref p] (I2, J, R) (qD I I2 J R n ns c (m_y1 sp str tl sy n c ns rs rv (row2, a2, x2))) := by
  rcases (by omega : drN (m_dw x2) % 4 = 0 ∨ drN (m_dw x2) % 4 = 1 ∨ drN (m_dw x2) % 4 = 2 ∨ drN (m_dw x2) % 4 = 3) with h | h | h | h
  · exact k_dd0 hK hst hz hs2 hsr hws h18 h
  · exact k_dd1 hK hst hz hs2 hsr hws h18 h
  · exact k_dd2 hK hst hz hs2 hsr hws h18 h
  · exact k_dd3 hK hst hz hs2 hsr hws h18 h
set_option maxHeartbeats 1000000 in
theorem k_staggersDrawn {I : Nat → Nat → Int32} {J : Nat → Nat → Int64} {R : Nat → Nat → Value} {d n c ns a p z rs : Nat} {rv : RV} {row sp str tl sy : Nat → Int32} (hK : kA I d n c p z rv) (hst : ST I sp str tl sy n c ns) (hz : z = 0 ↔ rs = 0) (hr : SR (I 39) (I 40) row n ns) (hw : WS row n ns c a) {m : Nat} (hm60 : m ≤ 60) (x : Int32) : Cal lyC (d + 7) hX3_staggersDrawn 6 [.ref 18, .ref 39, .ref p, .int x, .int (nI m)] (I, J, R) (fun r M' => r = some (.int ((m_ys sp str tl sy n c ns rs rv (row, a, x) m).1 28 - row 28)) ∧ ∃ I3 J3, M' = (I3, J3, R) ∧ fC I I3 ∧ tC [((m_ys sp str tl sy n c ns rs rv (row, a, x) m).1 24).toInt64, ((m_ys sp str tl sy n c ns rs rv (row, a, x) m).1 25).toInt64] I3 J3) := by
  have hn := hK.1
  have hn8 := hK.2.1
  have hc := hK.2.2.1
  have hc12 := hK.2.2.2.1
  have hns8 := hst.2.2.2.2.2.2.1
  have ha : I 39 1 = nI a := hr.1.trans hw.1
  have hac := hw.2.1
  have ha12 : a ≤ 12 := by omega
  have loop : ∀ (k b : Nat) (I2 : Nat → Nat → Int32), b ≤ m → m - b < k → fC I I2 → SR (I2 41) (I2 42) (m_ys sp str tl sy n c ns rs rv (row, a, x) b).1 n ns → WS (m_ys sp str tl sy n c ns rs rv (row, a, x) b).1 n ns c (m_ys sp str tl sy n c ns rs rv (row, a, x) b).2.1 → I2 18 8 = (m_ys sp str tl sy n c ns rs rv (row, a, x) b).2.2 → Ev lyC (d + 7) hX3_staggersDrawn 16 [some (.ref 18), some (.ref 39), some (.ref p), some (.int x), some (.int (nI m)), some (.int (nI b))] [] (I2, J, R) (fun r M' => r = some (.int ((m_ys sp str tl sy n c ns rs rv (row, a, x) m).1 28 - row 28)) ∧ ∃ I3 J3, M' = (I3, J3, R) ∧ fC I I3 ∧ tC [((m_ys sp str tl sy n c ns rs rv (row, a, x) m).1 24).toInt64, ((m_ys sp str tl sy n c ns rs rv (row, a, x) m).1 25).toInt64] I3 J3) := by
    intro k
    induction k with
    | zero => intro b   I2   h1 h2; omega
    | succ k ih =>
      intro b   I2   hb hk  hs2 hsr hws h18
      refine ev_st dX3_staggersDrawn_16 rfl rfl ?_
      refine ev_st dX3_staggersDrawn_18 rfl rfl ?_
      refine ev_ic_geN (t := 34) (a := b) (b := m) dX3_staggersDrawn_20 (by decide) rfl rfl (by omega) (by omega) (fun c_20 => ?_) (fun c_20 => ?_)
      · refine ev_st dX3_staggersDrawn_34 rfl rfl ?_
        refine ev_getC dX3_staggersDrawn_35 fr_3_40 rfl rfl ?_
        refine ev_st dX3_staggersDrawn_38 rfl rfl ?_
        refine ev_getC dX3_staggersDrawn_39 fr_3_12 rfl rfl ?_
        refine ev_getI (v := I2 41 1) dX3_staggersDrawn_42 fr_3_48 rfl rfl rfl ?_
        refine ev_st dX3_staggersDrawn_45 rfl rfl ?_
        refine ev_st dX3_staggersDrawn_46 rfl rfl ?_
        refine ev_getC dX3_staggersDrawn_47 fr_3_12 rfl rfl ?_
        refine ev_getI (v := I2 41 2) dX3_staggersDrawn_50 fr_3_125 rfl rfl rfl ?_
        refine ev_st dX3_staggersDrawn_53 rfl rfl ?_
        refine ev_call dX3_staggersDrawn_54 rfl rfl mr_3_69 rfl rfl rfl (k_tell2 ((I2 41 1).toInt64) ((I2 41 2).toInt64)) ?_
        rintro _ _ ⟨rfl, rfl⟩
        show Ev lyC (d + 7) hX3_staggersDrawn 57 [some (.ref 18), some (.ref 39), some (.ref p), some (.int x), some (.int (nI m)), some (.int (nI b))] [] (ti_wr I2 3 1 (nI 2), ti_wl (ti_wl J 4 0 ((I2 41 1).toInt64)) 4 1 ((I2 41 2).toInt64), R) _
        refine ev_st dX3_staggersDrawn_57 rfl rfl ?_
        refine ev_getC dX3_staggersDrawn_58 fr_3_12 rfl rfl ?_
        refine ev_getI (v := I2 41 7) dX3_staggersDrawn_61 fr_3_75 rfl rfl rfl ?_
        refine ev_st dX3_staggersDrawn_64 rfl rfl ?_
        refine ev_getI (v := I 39 7) dX3_staggersDrawn_65 fr_3_75 rfl rfl (congrFun (hs2.r 39 rfl) 7) ?_
        refine ev_st dX3_staggersDrawn_68 rfl rfl ?_
        exact ev_iret dX3_staggersDrawn_69 rfl (by rw [show b = m by omega] at hsr; exact ⟨by rw [hsr.2.2.2.2.2.2.1, hr.2.2.2.2.2.2.1], _, _, rfl, (hs2.w (p := 3) (k := 1) rfl _), tC2 rfl (by rw [← hsr.1]; rfl) (by rw [← hsr.2.1]; rfl)⟩)
      · refine ev_st dX3_staggersDrawn_23 rfl rfl ?_
        refine ev_st dX3_staggersDrawn_24 rfl rfl ?_
        refine ev_call dX3_staggersDrawn_25 rfl rfl mr_3_154 rfl rfl rfl (Cal.mono (by omega) (k_dd (I2 := I2) (J := J) hK hst hz hs2 hsr hws h18)) ?_
        rintro _ _ ⟨rfl, I3, rfl, hs3, e3, hsr3, hws3, e18⟩
        show Ev lyC (d + 7) hX3_staggersDrawn 28 [some (.ref 18), some (.ref 39), some (.ref p), some (.int x), some (.int (nI m)), some (.int (nI b))] [] (I3, J, R) _
        refine ev_iincN (a := b) (b := b + 1) (L' := [some (.ref 18), some (.ref 39), some (.ref p), some (.int x), some (.int (nI m)), some (.int (nI (b + 1)))]) dX3_staggersDrawn_28 rfl (nI_1 _) rfl ?_
        refine ev_goto (t := 16) dX3_staggersDrawn_31 (by decide) ?_
        exact ih _ _ (by omega) (by omega) hs3 hsr3 hws3 e18
  show Ev lyC (d + 7) hX3_staggersDrawn 0 [some (.ref 18), some (.ref 39), some (.ref p), some (.int x), some (.int (nI m)), none] [] (I, J, R) _
  refine ev_st dX3_staggersDrawn_0 rfl rfl ?_
  refine ev_getC dX3_staggersDrawn_1 fr_3_12 rfl rfl ?_
  refine ev_st dX3_staggersDrawn_4 rfl rfl ?_
  refine ev_call dX3_staggersDrawn_5 rfl rfl mr_3_44 rfl rfl rfl (t_bec hn8 hr hw) ?_
  rintro _ _ ⟨rfl, I2, rfl, hs2, h3, hsr⟩
  show Ev lyC (d + 7) hX3_staggersDrawn 8 [some (.ref 18), some (.ref 39), some (.ref p), some (.int x), some (.int (nI m)), none] [] (I2, J, R) _
  refine ev_st dX3_staggersDrawn_8 rfl rfl ?_
  refine ev_st dX3_staggersDrawn_9 rfl rfl ?_
  refine ev_putI dX3_staggersDrawn_10 fr_3_151 rfl rfl ?_
  refine ev_iconst (v := 0) dX3_staggersDrawn_13 (by decide) ?_
  refine ev_st (L' := [some (.ref 18), some (.ref 39), some (.ref p), some (.int x), some (.int (nI m)), some (.int 0)]) dX3_staggersDrawn_14 rfl rfl ?_
  exact loop (m + 1) 0   _ (by omega) (by omega)  (hs2.w (p := 18) (k := 8) rfl _) (by rw [ti_wr_n (by decide), ti_wr_n (by decide)]; exact hsr) hw ti_wr_at
