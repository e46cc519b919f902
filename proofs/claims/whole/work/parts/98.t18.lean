/-! texts: one ACT done by both -/
/-- one ACT on a row: what comes of it, or nothing if it is refused -/
def aGo (sp str tl sy : Nat → Int32) (n c ns rs : Nat) (rv : RV) (k v : Nat) (row : Nat → Int32) (a : Nat) : Option ((Nat → Int32) × Nat) :=
  if k = 62 then (if m_rS c a (m_cy row n) = 0 then some (m_NX sp str tl n c rs rv row a, a + 1) else none)
  else if k = 116 then (if m_rT n row (nI v) = 0 then some (upd row (8 + v) 1, a) else none)
  else if k = 108 then (if m_rL n row (nI v) = 0 then some (upd row (8 + v) 0, a) else none)
  else if k = 118 then (if m_rV row (nI v) = 0 then some (upd row 26 (nI v), a) else none)
  else (if m_rY ns c a sy row (nI v) = 0 then some (m_gy sy row v, a) else none)
def aPo (I3 : Nat → Nat → Int32) (n c ns : Nat) (row : Nat → Int32) (x : Int32) : Option ((Nat → Int32) × Nat) → Prop
  | none => x < 0 ∧ SR (I3 39) (I3 40) row n ns
  | some g => ¬ x < 0 ∧ SR (I3 39) (I3 40) g.1 n ns ∧ WS g.1 n ns c g.2
def aPq (n c ns : Nat) (row : Nat → Int32) (g : Option ((Nat → Int32) × Nat)) (I : Nat → Nat → Int32) (J : Nat → Nat → Int64) (R : Nat → Nat → Value) (r : Option Value) (M' : TM) : Prop := ∃ x I3, r = some (.int x) ∧ M' = (I3, J, R) ∧ qF 39 I I3 ∧ aPo I3 n c ns row x g
theorem ev_andV {lay : List TE} {d pc : Nat} {h : TH} {L : TL} {st : List Value} {M : TM} {Q : Option Value → TM → Prop} {x y z : Int32} (hd : decode h.2.1 pc = .ok (.iand, 1)) (hz : x &&& y = z) (kk : Ev lay d h (pc + 1) L (.int z :: st) M Q) : Ev lay d h pc L (.int y :: .int x :: st) M Q := by
  subst hz
  exact ev_st hd rfl rfl kk
theorem ev_shrV {lay : List TE} {d pc : Nat} {h : TH} {L : TL} {st : List Value} {M : TM} {Q : Option Value → TM → Prop} {x y z : Int32} (hd : decode h.2.1 pc = .ok (.ishr, 1)) (hz : x >>> (y &&& 31) = z) (kk : Ev lay d h (pc + 1) L (.int z :: st) M Q) : Ev lay d h pc L (.int y :: .int x :: st) M Q := by
  subst hz
  exact ev_st hd rfl rfl kk
theorem rT_n {n : Nat} {row : Nat → Int32} {x : Int32} (h : ix n x = none) : m_rT n row x = -1 := by rw [m_rT, h]
theorem rL_n {n : Nat} {row : Nat → Int32} {x : Int32} (h : ix n x = none) : m_rL n row x = -1 := by rw [m_rL, h]
theorem rY_n {ns c a : Nat} {sy row : Nat → Int32} {x : Int32} (h : ix ns x = none) : m_rY ns c a sy row x = -1 := by rw [m_rY, h]
theorem ix_not {n v : Nat} (hn : n < 2 ^ 31) (hv : v < 2 ^ 31) (h : ¬ v < n) : ix n (nI v) = none := by
  cases e : ix n (nI v) with
  | none => rfl
  | some j =>
    have q := ix_some hn e
    exact absurd ((nI_eq hv (by omega)).mp q.2) (by omega)
theorem rV_v {row : Nat → Int32} {w : Nat} (h : w < 4) : m_rV row (nI w) = if row 26 = nI w then -2 else 0 := by rw [m_rV, ix_nI (by decide) h]
theorem neg_ne {x : Int32} (h : x < 0) : ¬ x = 0 := by rintro rfl; exact absurd h (by decide)

theorem rS_cases {c a : Nat} {x : Int32} : m_rS c a x = 0 ∨ m_rS c a x < 0 := by
  unfold m_rS
  split
  · right; decide
  · split
    · right; decide
    · left; rfl
theorem p_adv {I : Nat → Nat → Int32} {J : Nat → Nat → Int64} {R : Nat → Nat → Value} {d n c ns a p z rs v : Nat} {rv : RV} {row sp str tl sy : Nat → Int32} (hK : kA I d n c p z rv) (hst : ST I sp str tl sy n c ns) (hz : z = 0 ↔ rs = 0) (hr : SR (I 39) (I 40) row n ns) (hw : WS row n ns c a) : Cal lyC (d + 5) hX7_advance 5 [.ref 39, .ref 5, .ref 8, .ref p] (I, J, R) (aPq n c ns row (aGo sp str tl sy n c ns rs rv 62 v row a) I J R) := by
  refine (a_adv (Or.inl rfl) hK hst hz hr hw).imp ?_
  rintro _ _ ⟨rfl, I3, rfl, hq, hs⟩
  refine ⟨_, I3, rfl, rfl, hq, ?_⟩
  rw [aGo, if_pos rfl]
  rcases rS_cases (c := c) (a := a) (x := m_cy row n) with q | q
  · rw [if_pos q] at hs ⊢
    rw [if_pos q]
    refine ⟨?_, hs, WS.gs hK.2.1 hst.2.2.2.2.2.2.1 hw (sg01 _ _) (rS_lt q)⟩
    rcases sg01 (m_FR sp str tl n c rs rv row a) (row 25 + m_st c sp a) with e | e
    · rw [show m_SG sp str tl n c rs rv row a = 0 from e]; decide
    · rw [show m_SG sp str tl n c rs rv row a = 1 from e]; decide
  · rw [if_neg (neg_ne q)] at hs ⊢
    rw [if_neg (neg_ne q)]
    exact ⟨q, hs⟩
theorem cyb_pos {row : Nat → Int32} {n : Nat} (hn : n ≤ 8) (hb : b01 (fun b => row (8 + b)) n) : ¬ bc (m_cy row n) < 0 := by
  rw [m_cy_bt, bt_bN n hn hb, bc_cN (bN256 hn)]
  exact nI_pos (by have := cN_8 _ (bN256 (g := fun b => row (8 + b)) hn); omega)
theorem p_take {I : Nat → Nat → Int32} {J : Nat → Nat → Int64} {R : Nat → Nat → Value} {d n c ns a p z rs v : Nat} {rv : RV} {row sp str tl sy : Nat → Int32} (hK : kA I d n c p z rv) (hst : ST I sp str tl sy n c ns) (hz : z = 0 ↔ rs = 0) (hr : SR (I 39) (I 40) row n ns) (hw : WS row n ns c a) (hv : v < 10) : Cal lyC (d + 5) hX7_takeHold 3 [.ref 39, .ref 8, .int (nI v)] (I, J, R) (aPq n c ns row (aGo sp str tl sy n c ns rs rv 116 v row a) I J R) := by
  have hn8 := hK.2.1
  by_cases hj : v < n
  · refine (a_take (d := d + 4) (Or.inl rfl) hK.1 hn8 hr hw hj).imp ?_
    rintro _ _ (⟨e1, rfl, rfl⟩ | ⟨e1, rfl, I3, rfl, hq, hs, hw2⟩)
    · exact ⟨_, _, rfl, rfl, qF.rf, by rw [aGo, if_neg (by decide), if_pos rfl, if_neg (neg_ne e1)]; exact ⟨e1, hr⟩⟩
    · exact ⟨_, _, rfl, rfl, hq, by rw [aGo, if_neg (by decide), if_pos rfl, if_pos e1]; exact ⟨cyb_pos hn8 hw2.2.2.2.1, hs, hw2⟩⟩
  · have hx := ix_not (n := n) (v := v) (by omega) (by omega) hj
    refine (k_takeHold_39_none (d := d + 4) hK.1 hx).imp ?_
    rintro _ _ ⟨rfl, rfl⟩
    exact ⟨_, _, rfl, rfl, qF.rf, by rw [aGo, if_neg (by decide), if_pos rfl, rT_n hx, if_neg (by decide)]; exact ⟨by decide, hr⟩⟩
theorem p_leave {I : Nat → Nat → Int32} {J : Nat → Nat → Int64} {R : Nat → Nat → Value} {d n c ns a p z rs v : Nat} {rv : RV} {row sp str tl sy : Nat → Int32} (hK : kA I d n c p z rv) (hst : ST I sp str tl sy n c ns) (hz : z = 0 ↔ rs = 0) (hr : SR (I 39) (I 40) row n ns) (hw : WS row n ns c a) (hv : v < 10) : Cal lyC (d + 5) hX7_letGo 3 [.ref 39, .ref 8, .int (nI v)] (I, J, R) (aPq n c ns row (aGo sp str tl sy n c ns rs rv 108 v row a) I J R) := by
  have hn8 := hK.2.1
  by_cases hj : v < n
  · refine (a_leave (d := d + 4) (Or.inl rfl) hK.1 hn8 hr hw hj).imp ?_
    rintro _ _ (⟨e1, _, rfl, rfl⟩ | ⟨e1, _, rfl, I3, rfl, hq, hs, hw2⟩)
    · exact ⟨_, _, rfl, rfl, qF.rf, by rw [aGo, if_neg (by decide), if_neg (by decide), if_pos rfl, if_neg (neg_ne e1)]; exact ⟨e1, hr⟩⟩
    · exact ⟨_, _, rfl, rfl, hq, by rw [aGo, if_neg (by decide), if_neg (by decide), if_pos rfl, if_pos e1]; exact ⟨cyb_pos hn8 hw2.2.2.2.1, hs, hw2⟩⟩
  · have hx := ix_not (n := n) (v := v) (by omega) (by omega) hj
    refine (k_letGo_39_none (d := d + 4) hK.1 hx).imp ?_
    rintro _ _ ⟨rfl, rfl⟩
    exact ⟨_, _, rfl, rfl, qF.rf, by rw [aGo, if_neg (by decide), if_neg (by decide), if_pos rfl, rL_n hx, if_neg (by decide)]; exact ⟨by decide, hr⟩⟩
theorem p_follow {I : Nat → Nat → Int32} {J : Nat → Nat → Int64} {R : Nat → Nat → Value} {d n c ns a p z rs v : Nat} {rv : RV} {row sp str tl sy : Nat → Int32} (hK : kA I d n c p z rv) (hst : ST I sp str tl sy n c ns) (hz : z = 0 ↔ rs = 0) (hr : SR (I 39) (I 40) row n ns) (hw : WS row n ns c a) (hv : v < 4) : Cal lyC (d + 5) hX7_follow 3 [.ref 39, .int (nI v)] (I, J, R) (aPq n c ns row (aGo sp str tl sy n c ns rs rv 118 v row a) I J R) := by
  refine (a_follow (d := d + 5) (Or.inl rfl) hK.2.1 hst.2.2.2.2.2.2.1 hr hw hv).imp ?_
  rintro _ _ (⟨e1, rfl, rfl⟩ | ⟨e1, rfl, I3, rfl, hq, hs, hw2⟩)
  · exact ⟨_, _, rfl, rfl, qF.rf, by rw [aGo, if_neg (by decide), if_neg (by decide), if_neg (by decide), if_pos rfl, rV_v hv, if_pos e1, if_neg (by decide)]; exact ⟨by decide, hr⟩⟩
  · obtain ⟨w, hw4, e2⟩ := hw.2.2.2.2.2.2.1
    exact ⟨_, _, rfl, rfl, hq, by rw [aGo, if_neg (by decide), if_neg (by decide), if_neg (by decide), if_pos rfl, rV_v hv, if_neg e1, if_pos rfl]; exact ⟨by rw [e2]; exact nI_pos (by omega), hs, hw2⟩⟩
theorem p_speak {I : Nat → Nat → Int32} {J : Nat → Nat → Int64} {R : Nat → Nat → Value} {d n c ns a p z rs v : Nat} {rv : RV} {row sp str tl sy : Nat → Int32} (hK : kA I d n c p z rv) (hst : ST I sp str tl sy n c ns) (hz : z = 0 ↔ rs = 0) (hr : SR (I 39) (I 40) row n ns) (hw : WS row n ns c a) (hv : v < 10) : Cal lyC (d + 5) hX7_speak 5 [.ref 39, .ref 5, .ref 11, .int (nI v)] (I, J, R) (aPq n c ns row (aGo sp str tl sy n c ns rs rv 115 v row a) I J R) := by
  have hns8 := hst.2.2.2.2.2.2.1
  by_cases hj : v < ns
  · refine (a_speak (d := d + 2) (Or.inl rfl) hst hr hw hj).imp ?_
    rintro _ _ (⟨e1, rfl, rfl⟩ | ⟨e1, rfl, I3, rfl, hq, hs, hw2⟩)
    · exact ⟨_, _, rfl, rfl, qF.rf, by rw [aGo, if_neg (by decide), if_neg (by decide), if_neg (by decide), if_neg (by decide), if_neg (neg_ne e1)]; exact ⟨e1, hr⟩⟩
    · refine ⟨_, _, rfl, rfl, hq, ?_⟩
      rw [aGo, if_neg (by decide), if_neg (by decide), if_neg (by decide), if_neg (by decide), if_pos e1]
      refine ⟨?_, hs, hw2⟩
      obtain ⟨l, hl, e⟩ := hw2.2.2.2.2.2.1
      rw [e]; exact nI_pos (by omega)
  · have hx := ix_not (n := ns) (v := v) (by omega) (by omega) hj
    refine (k_speak_39_none (d := d + 2) hst.2.2.2.2.2.1 hx).imp ?_
    rintro _ _ ⟨rfl, rfl⟩
    exact ⟨_, _, rfl, rfl, qF.rf, by rw [aGo, if_neg (by decide), if_neg (by decide), if_neg (by decide), if_neg (by decide), rY_n hx, if_neg (by decide)]; exact ⟨by decide, hr⟩⟩
theorem pa_62 : ∀ v, v < 16 → nI (62 * 16 + v) &&& 15 = nI v ∧ nI (62 * 16 + v) >>> ((4 : Int32) &&& 31) = 62 := by decide +kernel
theorem pa_116 : ∀ v, v < 16 → nI (116 * 16 + v) &&& 15 = nI v ∧ nI (116 * 16 + v) >>> ((4 : Int32) &&& 31) = 116 := by decide +kernel
theorem pa_108 : ∀ v, v < 16 → nI (108 * 16 + v) &&& 15 = nI v ∧ nI (108 * 16 + v) >>> ((4 : Int32) &&& 31) = 108 := by decide +kernel
theorem pa_118 : ∀ v, v < 16 → nI (118 * 16 + v) &&& 15 = nI v ∧ nI (118 * 16 + v) >>> ((4 : Int32) &&& 31) = 118 := by decide +kernel
theorem pa_115 : ∀ v, v < 16 → nI (115 * 16 + v) &&& 15 = nI v ∧ nI (115 * 16 + v) >>> ((4 : Int32) &&& 31) = 115 := by decide +kernel
theorem k_perform62 {I : Nat → Nat → Int32} {J : Nat → Nat → Int64} {R : Nat → Nat → Value} {d n c ns a p z rs v : Nat} {rv : RV} {row sp str tl sy : Nat → Int32} (hK : kA I d n c p z rv) (hst : ST I sp str tl sy n c ns) (hz : z = 0 ↔ rs = 0) (hr : SR (I 39) (I 40) row n ns) (hw : WS row n ns c a) (hp : R 0 11 = .ref p) (hv : v < 10) : Cal lyC (d + 6) hX11_perform 3 [.ref 0, .int (nI (62 * 16 + v))] (I, J, R) (aPq n c ns row (aGo sp str tl sy n c ns rs rv 62 v row a) I J R) := by
  show Ev lyC (d + 6) hX11_perform 0 [some (.ref 0), some (.int (nI (62 * 16 + v))), none] [] (I, J, R) _
  refine ev_st dX11_perform_0 rfl rfl ?_
  refine ev_bipush (v := 15) dX11_perform_1 (by decide) ?_
  refine ev_andV (z := nI v) dX11_perform_3 (pa_62 v (by omega)).1 ?_
  refine ev_st (L' := [some (.ref 0), some (.int (nI (62 * 16 + v))), some (.int (nI v))]) dX11_perform_4 rfl rfl ?_
  refine ev_st dX11_perform_5 rfl rfl ?_
  refine ev_iconst (v := 4) dX11_perform_6 (by decide) ?_
  refine ev_shrV (z := 62) dX11_perform_7 (pa_62 v (by omega)).2 ?_
  refine ev_ls (t := 60) dX11_perform_8 (by decide) (by decide) ?_
  refine ev_st dX11_perform_60 rfl rfl ?_
  refine ev_getC dX11_perform_61 fr_11_49 rfl rfl ?_
  refine ev_st dX11_perform_64 rfl rfl ?_
  refine ev_getC dX11_perform_65 fr_11_26 rfl rfl ?_
  refine ev_st dX11_perform_68 rfl rfl ?_
  refine ev_getC dX11_perform_69 fr_11_35 rfl rfl ?_
  refine ev_st dX11_perform_72 rfl rfl ?_
  refine ev_getR (v := .ref p) dX11_perform_73 fr_11_94 rfl rfl hp ?_
  refine ev_call dX11_perform_76 rfl rfl mr_11_224 rfl rfl rfl (p_adv (v := v) hK hst hz hr hw) ?_
  rintro _ _ ⟨x, I3, rfl, rfl, hx3, hg3⟩
  show Ev lyC (d + 6) hX11_perform 79 [some (.ref 0), some (.int (nI (62 * 16 + v))), some (.int (nI v))] [.int x] (I3, J, R) _
  exact ev_iret dX11_perform_79 rfl (⟨x, I3, rfl, rfl, hx3, hg3⟩)
theorem k_perform116 {I : Nat → Nat → Int32} {J : Nat → Nat → Int64} {R : Nat → Nat → Value} {d n c ns a p z rs v : Nat} {rv : RV} {row sp str tl sy : Nat → Int32} (hK : kA I d n c p z rv) (hst : ST I sp str tl sy n c ns) (hz : z = 0 ↔ rs = 0) (hr : SR (I 39) (I 40) row n ns) (hw : WS row n ns c a) (hp : R 0 11 = .ref p) (hv : v < 10) : Cal lyC (d + 6) hX11_perform 3 [.ref 0, .int (nI (116 * 16 + v))] (I, J, R) (aPq n c ns row (aGo sp str tl sy n c ns rs rv 116 v row a) I J R) := by
  show Ev lyC (d + 6) hX11_perform 0 [some (.ref 0), some (.int (nI (116 * 16 + v))), none] [] (I, J, R) _
  refine ev_st dX11_perform_0 rfl rfl ?_
  refine ev_bipush (v := 15) dX11_perform_1 (by decide) ?_
  refine ev_andV (z := nI v) dX11_perform_3 (pa_116 v (by omega)).1 ?_
  refine ev_st (L' := [some (.ref 0), some (.int (nI (116 * 16 + v))), some (.int (nI v))]) dX11_perform_4 rfl rfl ?_
  refine ev_st dX11_perform_5 rfl rfl ?_
  refine ev_iconst (v := 4) dX11_perform_6 (by decide) ?_
  refine ev_shrV (z := 116) dX11_perform_7 (pa_116 v (by omega)).2 ?_
  refine ev_ls (t := 80) dX11_perform_8 (by decide) (by decide) ?_
  refine ev_st dX11_perform_80 rfl rfl ?_
  refine ev_getC dX11_perform_81 fr_11_49 rfl rfl ?_
  refine ev_st dX11_perform_84 rfl rfl ?_
  refine ev_getC dX11_perform_85 fr_11_35 rfl rfl ?_
  refine ev_st dX11_perform_88 rfl rfl ?_
  refine ev_call dX11_perform_89 rfl rfl mr_11_234 rfl rfl rfl (p_take hK hst hz hr hw hv) ?_
  rintro _ _ ⟨x, I3, rfl, rfl, hx3, hg3⟩
  show Ev lyC (d + 6) hX11_perform 92 [some (.ref 0), some (.int (nI (116 * 16 + v))), some (.int (nI v))] [.int x] (I3, J, R) _
  exact ev_iret dX11_perform_92 rfl (⟨x, I3, rfl, rfl, hx3, hg3⟩)
theorem k_perform108 {I : Nat → Nat → Int32} {J : Nat → Nat → Int64} {R : Nat → Nat → Value} {d n c ns a p z rs v : Nat} {rv : RV} {row sp str tl sy : Nat → Int32} (hK : kA I d n c p z rv) (hst : ST I sp str tl sy n c ns) (hz : z = 0 ↔ rs = 0) (hr : SR (I 39) (I 40) row n ns) (hw : WS row n ns c a) (hp : R 0 11 = .ref p) (hv : v < 10) : Cal lyC (d + 6) hX11_perform 3 [.ref 0, .int (nI (108 * 16 + v))] (I, J, R) (aPq n c ns row (aGo sp str tl sy n c ns rs rv 108 v row a) I J R) := by
  show Ev lyC (d + 6) hX11_perform 0 [some (.ref 0), some (.int (nI (108 * 16 + v))), none] [] (I, J, R) _
  refine ev_st dX11_perform_0 rfl rfl ?_
  refine ev_bipush (v := 15) dX11_perform_1 (by decide) ?_
  refine ev_andV (z := nI v) dX11_perform_3 (pa_108 v (by omega)).1 ?_
  refine ev_st (L' := [some (.ref 0), some (.int (nI (108 * 16 + v))), some (.int (nI v))]) dX11_perform_4 rfl rfl ?_
  refine ev_st dX11_perform_5 rfl rfl ?_
  refine ev_iconst (v := 4) dX11_perform_6 (by decide) ?_
  refine ev_shrV (z := 108) dX11_perform_7 (pa_108 v (by omega)).2 ?_
  refine ev_ls (t := 93) dX11_perform_8 (by decide) (by decide) ?_
  refine ev_st dX11_perform_93 rfl rfl ?_
  refine ev_getC dX11_perform_94 fr_11_49 rfl rfl ?_
  refine ev_st dX11_perform_97 rfl rfl ?_
  refine ev_getC dX11_perform_98 fr_11_35 rfl rfl ?_
  refine ev_st dX11_perform_101 rfl rfl ?_
  refine ev_call dX11_perform_102 rfl rfl mr_11_238 rfl rfl rfl (p_leave hK hst hz hr hw hv) ?_
  rintro _ _ ⟨x, I3, rfl, rfl, hx3, hg3⟩
  show Ev lyC (d + 6) hX11_perform 105 [some (.ref 0), some (.int (nI (108 * 16 + v))), some (.int (nI v))] [.int x] (I3, J, R) _
  exact ev_iret dX11_perform_105 rfl (⟨x, I3, rfl, rfl, hx3, hg3⟩)
theorem k_perform118 {I : Nat → Nat → Int32} {J : Nat → Nat → Int64} {R : Nat → Nat → Value} {d n c ns a p z rs v : Nat} {rv : RV} {row sp str tl sy : Nat → Int32} (hK : kA I d n c p z rv) (hst : ST I sp str tl sy n c ns) (hz : z = 0 ↔ rs = 0) (hr : SR (I 39) (I 40) row n ns) (hw : WS row n ns c a) (hp : R 0 11 = .ref p) (hv : v < 4) : Cal lyC (d + 6) hX11_perform 3 [.ref 0, .int (nI (118 * 16 + v))] (I, J, R) (aPq n c ns row (aGo sp str tl sy n c ns rs rv 118 v row a) I J R) := by
  show Ev lyC (d + 6) hX11_perform 0 [some (.ref 0), some (.int (nI (118 * 16 + v))), none] [] (I, J, R) _
  refine ev_st dX11_perform_0 rfl rfl ?_
  refine ev_bipush (v := 15) dX11_perform_1 (by decide) ?_
  refine ev_andV (z := nI v) dX11_perform_3 (pa_118 v (by omega)).1 ?_
  refine ev_st (L' := [some (.ref 0), some (.int (nI (118 * 16 + v))), some (.int (nI v))]) dX11_perform_4 rfl rfl ?_
  refine ev_st dX11_perform_5 rfl rfl ?_
  refine ev_iconst (v := 4) dX11_perform_6 (by decide) ?_
  refine ev_shrV (z := 118) dX11_perform_7 (pa_118 v (by omega)).2 ?_
  refine ev_ls (t := 106) dX11_perform_8 (by decide) (by decide) ?_
  refine ev_st dX11_perform_106 rfl rfl ?_
  refine ev_getC dX11_perform_107 fr_11_49 rfl rfl ?_
  refine ev_st dX11_perform_110 rfl rfl ?_
  refine ev_call dX11_perform_111 rfl rfl mr_11_241 rfl rfl rfl (p_follow hK hst hz hr hw hv) ?_
  rintro _ _ ⟨x, I3, rfl, rfl, hx3, hg3⟩
  show Ev lyC (d + 6) hX11_perform 114 [some (.ref 0), some (.int (nI (118 * 16 + v))), some (.int (nI v))] [.int x] (I3, J, R) _
  exact ev_iret dX11_perform_114 rfl (⟨x, I3, rfl, rfl, hx3, hg3⟩)
theorem k_perform115 {I : Nat → Nat → Int32} {J : Nat → Nat → Int64} {R : Nat → Nat → Value} {d n c ns a p z rs v : Nat} {rv : RV} {row sp str tl sy : Nat → Int32} (hK : kA I d n c p z rv) (hst : ST I sp str tl sy n c ns) (hz : z = 0 ↔ rs = 0) (hr : SR (I 39) (I 40) row n ns) (hw : WS row n ns c a) (hp : R 0 11 = .ref p) (hv : v < 10) : Cal lyC (d + 6) hX11_perform 3 [.ref 0, .int (nI (115 * 16 + v))] (I, J, R) (aPq n c ns row (aGo sp str tl sy n c ns rs rv 115 v row a) I J R) := by
  show Ev lyC (d + 6) hX11_perform 0 [some (.ref 0), some (.int (nI (115 * 16 + v))), none] [] (I, J, R) _
  refine ev_st dX11_perform_0 rfl rfl ?_
  refine ev_bipush (v := 15) dX11_perform_1 (by decide) ?_
  refine ev_andV (z := nI v) dX11_perform_3 (pa_115 v (by omega)).1 ?_
  refine ev_st (L' := [some (.ref 0), some (.int (nI (115 * 16 + v))), some (.int (nI v))]) dX11_perform_4 rfl rfl ?_
  refine ev_st dX11_perform_5 rfl rfl ?_
  refine ev_iconst (v := 4) dX11_perform_6 (by decide) ?_
  refine ev_shrV (z := 115) dX11_perform_7 (pa_115 v (by omega)).2 ?_
  refine ev_ls (t := 115) dX11_perform_8 (by decide) (by decide) ?_
  refine ev_st dX11_perform_115 rfl rfl ?_
  refine ev_getC dX11_perform_116 fr_11_49 rfl rfl ?_
  refine ev_st dX11_perform_119 rfl rfl ?_
  refine ev_getC dX11_perform_120 fr_11_26 rfl rfl ?_
  refine ev_st dX11_perform_123 rfl rfl ?_
  refine ev_getC dX11_perform_124 fr_11_42 rfl rfl ?_
  refine ev_st dX11_perform_127 rfl rfl ?_
  refine ev_call dX11_perform_128 rfl rfl mr_11_244 rfl rfl rfl (p_speak hK hst hz hr hw hv) ?_
  rintro _ _ ⟨x, I3, rfl, rfl, hx3, hg3⟩
  show Ev lyC (d + 6) hX11_perform 131 [some (.ref 0), some (.int (nI (115 * 16 + v))), some (.int (nI v))] [.int x] (I3, J, R) _
  exact ev_iret dX11_perform_131 rfl (⟨x, I3, rfl, rfl, hx3, hg3⟩)
