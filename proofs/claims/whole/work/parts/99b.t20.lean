/-! texts: walk: the class -/
/-- ACTS done one behind the other, till one is refused: how many, the row, where -/
def aW (sp str tl sy : Nat → Int32) (n c ns rs : Nat) (rv : RV) (K V : Nat → Nat) : Nat → Nat → (Nat → Int32) → Nat → Nat × (Nat → Int32) × Nat
  | 0, i, row, a => (i, row, a)
  | m + 1, i, row, a => match aGo sp str tl sy n c ns rs rv (K i) (V i) row a with
    | none => (i, row, a)
    | some g => aW sp str tl sy n c ns rs rv K V m (i + 1) g.1 g.2
theorem aW_s {sp str tl sy : Nat → Int32} {n c ns rs : Nat} {rv : RV} {K V : Nat → Nat} {m b a : Nat} {row : Nat → Int32} {g : (Nat → Int32) × Nat} (h : aGo sp str tl sy n c ns rs rv (K b) (V b) row a = some g) (hb : b < m) : aW sp str tl sy n c ns rs rv K V (m - b) b row a = aW sp str tl sy n c ns rs rv K V (m - (b + 1)) (b + 1) g.1 g.2 := by
  rw [show m - b = (m - (b + 1)) + 1 by omega, aW, h]
theorem aW_n {sp str tl sy : Nat → Int32} {n c ns rs : Nat} {rv : RV} {K V : Nat → Nat} {m b a : Nat} {row : Nat → Int32} (h : aGo sp str tl sy n c ns rs rv (K b) (V b) row a = none) : aW sp str tl sy n c ns rs rv K V (m - b) b row a = (b, row, a) := by
  cases e : m - b with
  | zero => rfl
  | succ q => rw [aW, h]
theorem aW_0 {sp str tl sy : Nat → Int32} {n c ns rs : Nat} {rv : RV} {K V : Nat → Nat} {m b a : Nat} {row : Nat → Int32} (h : m ≤ b) : aW sp str tl sy n c ns rs rv K V (m - b) b row a = (b, row, a) := by
  rw [show m - b = 0 by omega, aW]
theorem aPo_neg {I3 : Nat → Nat → Int32} {n c ns : Nat} {row : Nat → Int32} {x : Int32} {g : Option ((Nat → Int32) × Nat)} (h : aPo I3 n c ns row x g) (hx : x < 0) : g = none ∧ SR (I3 39) (I3 40) row n ns := by
  cases g with
  | none => exact ⟨rfl, h.2⟩
  | some g => exact absurd hx h.1
theorem aPo_pos {I3 : Nat → Nat → Int32} {n c ns : Nat} {row : Nat → Int32} {x : Int32} {g : Option ((Nat → Int32) × Nat)} (h : aPo I3 n c ns row x g) (hx : ¬ x < 0) : ∃ g2, g = some g2 ∧ SR (I3 39) (I3 40) g2.1 n ns ∧ WS g2.1 n ns c g2.2 := by
  cases g with
  | none => exact absurd h.1 hx
  | some g => exact ⟨g, rfl, h.2⟩
theorem kA.q {I I2 : Nat → Nat → Int32} {d n c p z : Nat} {rv : RV} (h : kA I d n c p z rv) (hs : qF 39 I I2) : kA I2 d n c p z rv := by
  obtain ⟨h1, h2, h3, h4, h5, h6, h7⟩ := h
  rcases h5 with rfl | rfl
  · exact ⟨by rw [hs.r 8 rfl]; exact h1, h2, by rw [hs.r 5 rfl]; exact h3, h4, Or.inl rfl, by rw [hs.r 31 rfl]; exact h6, by rw [hs.r 32 rfl]; exact h7⟩
  · exact ⟨by rw [hs.r 8 rfl]; exact h1, h2, by rw [hs.r 5 rfl]; exact h3, h4, Or.inr rfl, by rw [hs.r 35 rfl]; exact h6, by rw [hs.r 36 rfl]; exact h7⟩
theorem ST.q {I I2 : Nat → Nat → Int32} {sp str tl sy : Nat → Int32} {n c ns : Nat} (h : ST I sp str tl sy n c ns) (hs : qF 39 I I2) : ST I2 sp str tl sy n c ns := by
  unfold ST
  rw [hs.r 8 rfl, hs.r 5 rfl, hs.r 11 rfl, hs.r 6 rfl, hs.r 9 rfl, hs.r 10 rfl, hs.r 12 rfl, hs.r 13 rfl, hs.r 14 rfl]
  exact h
theorem se_39 {I : Nat → Nat → Int32} {x u : Nat} : k_se I x u 39 = I 39 := by
  unfold k_se
  rw [ti_wr_n (by decide), ti_wr_n (by decide), k_bm_n (by omega) (by omega)]
set_option maxHeartbeats 1000000 in
theorem k_wkE {I : Nat → Nat → Int32} {J : Nat → Nat → Int64} {R : Nat → Nat → Value} {d m b x u : Nat} {st : Int32} (hb : b ≤ 60) (hm : m ≤ 60) (hx : I 15 4 = nI x) (hx12 : x < 12) (hu : I 15 5 = nI u) (hu12 : u ≤ 12) (h43 : I 43 6 = 0 ∨ I 43 6 = 1) : Ev lyC (d + 7) hX11_walk 69 [some (.ref 0), some (.int (nI m)), some (.int ((-1))), some (.int st), some (.int (nI b))] [] (I, J, R) (fun r M' => r = some (.int (nI b)) ∧ M' = (ti_wr (if b = 0 then I else k_se I x u) 3 1 (nI 2), ti_wl (ti_wl J 4 0 (if b < m then 1 else 0)) 4 1 ((I 39 7 - st).toInt64), R)) := by
  refine ev_st dX11_walk_69 rfl rfl ?_
  refine ev_if_leN (t := 84) (a := b) dX11_walk_71 (by decide) rfl (by omega) (fun c_71 => ?_) (fun c_71 => ?_)
  · refine ev_st dX11_walk_84 rfl rfl ?_
    refine ev_getC dX11_walk_85 fr_11_19 rfl rfl ?_
    refine ev_st dX11_walk_88 rfl rfl ?_
    refine ev_st dX11_walk_90 rfl rfl ?_
    refine ev_ic_geN (t := 98) (a := b) (b := m) dX11_walk_91 (by decide) rfl rfl (by omega) (by omega) (fun c_91 => ?_) (fun c_91 => ?_)
    · refine ev_lconst (v := 0) dX11_walk_98 (by decide) ?_
      refine ev_st dX11_walk_99 rfl rfl ?_
      refine ev_getC dX11_walk_100 fr_11_49 rfl rfl ?_
      refine ev_getI (v := I 39 7) dX11_walk_103 fr_11_231 rfl rfl (by first | rfl | exact congrFun se_39 7) ?_
      refine ev_st dX11_walk_106 rfl rfl ?_
      refine ev_st dX11_walk_107 rfl rfl ?_
      refine ev_st dX11_walk_108 rfl rfl ?_
      refine ev_call dX11_walk_109 rfl rfl mr_11_205 rfl rfl rfl (k_tell2 0 (((I 39 7) - st).toInt64)) ?_
      rintro _ _ ⟨rfl, rfl⟩
      show Ev lyC (d + 7) hX11_walk 112 [some (.ref 0), some (.int (nI m)), some (.int ((-1))), some (.int st), some (.int (nI b))] [] (ti_wr (I) 3 1 (nI 2), ti_wl (ti_wl J 4 0 0) 4 1 (((I 39 7) - st).toInt64), R) _
      refine ev_st dX11_walk_112 rfl rfl ?_
      exact ev_iret dX11_walk_114 rfl (⟨rfl, by rw [if_pos (show b = 0 by omega), if_neg (show ¬ b < m by omega)]⟩)
    · refine ev_lconst (v := 1) dX11_walk_94 (by decide) ?_
      refine ev_goto (t := 99) dX11_walk_95 (by decide) ?_
      refine ev_st dX11_walk_99 rfl rfl ?_
      refine ev_getC dX11_walk_100 fr_11_49 rfl rfl ?_
      refine ev_getI (v := I 39 7) dX11_walk_103 fr_11_231 rfl rfl (by first | rfl | exact congrFun se_39 7) ?_
      refine ev_st dX11_walk_106 rfl rfl ?_
      refine ev_st dX11_walk_107 rfl rfl ?_
      refine ev_st dX11_walk_108 rfl rfl ?_
      refine ev_call dX11_walk_109 rfl rfl mr_11_205 rfl rfl rfl (k_tell2 1 (((I 39 7) - st).toInt64)) ?_
      rintro _ _ ⟨rfl, rfl⟩
      show Ev lyC (d + 7) hX11_walk 112 [some (.ref 0), some (.int (nI m)), some (.int ((-1))), some (.int st), some (.int (nI b))] [] (ti_wr (I) 3 1 (nI 2), ti_wl (ti_wl J 4 0 1) 4 1 (((I 39 7) - st).toInt64), R) _
      refine ev_st dX11_walk_112 rfl rfl ?_
      exact ev_iret dX11_walk_114 rfl (⟨rfl, by rw [if_pos (show b = 0 by omega), if_pos (show b < m by omega)]⟩)
  · refine ev_st dX11_walk_74 rfl rfl ?_
    refine ev_getC dX11_walk_75 fr_11_56 rfl rfl ?_
    refine ev_st dX11_walk_78 rfl rfl ?_
    refine ev_call dX11_walk_80 rfl rfl mr_11_228 rfl rfl rfl (k_settle (v := nI b) (nI_pos (by omega)) hx hx12 hu hu12 h43) ?_
    rintro _ _ ⟨rfl, rfl⟩
    show Ev lyC (d + 7) hX11_walk 83 [some (.ref 0), some (.int (nI m)), some (.int ((-1))), some (.int st), some (.int (nI b))] [.int (nI b)] (k_se I x u, J, R) _
    refine ev_st dX11_walk_83 rfl rfl ?_
    refine ev_st dX11_walk_84 rfl rfl ?_
    refine ev_getC dX11_walk_85 fr_11_19 rfl rfl ?_
    refine ev_st dX11_walk_88 rfl rfl ?_
    refine ev_st dX11_walk_90 rfl rfl ?_
    refine ev_ic_geN (t := 98) (a := b) (b := m) dX11_walk_91 (by decide) rfl rfl (by omega) (by omega) (fun c_91 => ?_) (fun c_91 => ?_)
    · refine ev_lconst (v := 0) dX11_walk_98 (by decide) ?_
      refine ev_st dX11_walk_99 rfl rfl ?_
      refine ev_getC dX11_walk_100 fr_11_49 rfl rfl ?_
      refine ev_getI (v := I 39 7) dX11_walk_103 fr_11_231 rfl rfl (by first | rfl | exact congrFun se_39 7) ?_
      refine ev_st dX11_walk_106 rfl rfl ?_
      refine ev_st dX11_walk_107 rfl rfl ?_
      refine ev_st dX11_walk_108 rfl rfl ?_
      refine ev_call dX11_walk_109 rfl rfl mr_11_205 rfl rfl rfl (k_tell2 0 (((I 39 7) - st).toInt64)) ?_
      rintro _ _ ⟨rfl, rfl⟩
      show Ev lyC (d + 7) hX11_walk 112 [some (.ref 0), some (.int (nI m)), some (.int ((-1))), some (.int st), some (.int (nI b))] [] (ti_wr (k_se I x u) 3 1 (nI 2), ti_wl (ti_wl J 4 0 0) 4 1 (((I 39 7) - st).toInt64), R) _
      refine ev_st dX11_walk_112 rfl rfl ?_
      exact ev_iret dX11_walk_114 rfl (⟨rfl, by rw [if_neg (show ¬ b = 0 by omega), if_neg (show ¬ b < m by omega)]⟩)
    · refine ev_lconst (v := 1) dX11_walk_94 (by decide) ?_
      refine ev_goto (t := 99) dX11_walk_95 (by decide) ?_
      refine ev_st dX11_walk_99 rfl rfl ?_
      refine ev_getC dX11_walk_100 fr_11_49 rfl rfl ?_
      refine ev_getI (v := I 39 7) dX11_walk_103 fr_11_231 rfl rfl (by first | rfl | exact congrFun se_39 7) ?_
      refine ev_st dX11_walk_106 rfl rfl ?_
      refine ev_st dX11_walk_107 rfl rfl ?_
      refine ev_st dX11_walk_108 rfl rfl ?_
      refine ev_call dX11_walk_109 rfl rfl mr_11_205 rfl rfl rfl (k_tell2 1 (((I 39 7) - st).toInt64)) ?_
      rintro _ _ ⟨rfl, rfl⟩
      show Ev lyC (d + 7) hX11_walk 112 [some (.ref 0), some (.int (nI m)), some (.int ((-1))), some (.int st), some (.int (nI b))] [] (ti_wr (k_se I x u) 3 1 (nI 2), ti_wl (ti_wl J 4 0 1) 4 1 (((I 39 7) - st).toInt64), R) _
      refine ev_st dX11_walk_112 rfl rfl ?_
      exact ev_iret dX11_walk_114 rfl (⟨rfl, by rw [if_neg (show ¬ b = 0 by omega), if_pos (show b < m by omega)]⟩)
/-- what a walk of m ACTS leaves -/
def wkQ (I : Nat → Nat → Int32) (J : Nat → Nat → Int64) (R : Nat → Nat → Value) (n c ns m x u : Nat) (st : Int32) (w : Nat × (Nat → Int32) × Nat) (r : Option Value) (M' : TM) : Prop := ∃ I3, qF 39 I I3 ∧ SR (I3 39) (I3 40) w.2.1 n ns ∧ WS w.2.1 n ns c w.2.2 ∧ r = some (.int (nI w.1)) ∧ M' = (ti_wr (if w.1 = 0 then I3 else k_se I3 x u) 3 1 (nI 2), ti_wl (ti_wl J 4 0 (if w.1 < m then 1 else 0)) 4 1 ((w.2.1 28 - st).toInt64), R)
theorem wkQ_e {I I3 : Nat → Nat → Int32} {J : Nat → Nat → Int64} {R : Nat → Nat → Value} {n c ns m x u b a : Nat} {row : Nat → Int32} {st : Int32} {w : Nat × (Nat → Int32) × Nat} {d : Nat} (e : (b, row, a) = w) (hq : qF 39 I I3) (hr : SR (I3 39) (I3 40) row n ns) (hw : WS row n ns c a) (hb : b ≤ 60) (hm : m ≤ 60) (hx : I 15 4 = nI x) (hx12 : x < 12) (hu : I 15 5 = nI u) (hu12 : u ≤ 12) (h43 : I 43 6 = 0 ∨ I 43 6 = 1) : Ev lyC (d + 7) hX11_walk 69 [some (.ref 0), some (.int (nI m)), some (.int ((-1))), some (.int st), some (.int (nI b))] [] (I3, J, R) (wkQ I J R n c ns m x u st w) := by
  subst e
  refine (k_wkE (I := I3) hb hm (by rw [hq.r 15 rfl]; exact hx) hx12 (by rw [hq.r 15 rfl]; exact hu) hu12 (by rw [hq.r 43 rfl]; exact h43)).imp ?_
  rintro _ _ ⟨rfl, rfl⟩
  exact ⟨I3, hq, hr, hw, rfl, by rw [hr.2.2.2.2.2.2.1]⟩
set_option maxHeartbeats 1000000 in
theorem k_wkL {I : Nat → Nat → Int32} {J : Nat → Nat → Int64} {R : Nat → Nat → Value} {d n c ns a p z rs m x u : Nat} {rv : RV} {row sp str tl sy : Nat → Int32} {K V : Nat → Nat} {st : Int32} (hK : kA I d n c p z rv) (hst : ST I sp str tl sy n c ns) (hz : z = 0 ↔ rs = 0) (hp : R 0 11 = .ref p) (hm : m ≤ 60) (hk : ∀ j, j < m → (K j = 62 ∨ K j = 118 ∧ V j < 4 ∨ K j = 116 ∨ K j = 108 ∨ K j = 115) ∧ V j < 10) (h30 : ∀ j, j < m → I 30 j = nI (K j * 16 + V j)) (hx : I 15 4 = nI x) (hx12 : x < 12) (hu : I 15 5 = nI u) (hu12 : u ≤ 12) (h43 : I 43 6 = 0 ∨ I 43 6 = 1) : ∀ (k b : Nat) (row2 : Nat → Int32) (a2 : Nat) (I2 : Nat → Nat → Int32), b ≤ m → m - b < k → qF 39 I I2 → SR (I2 39) (I2 40) row2 n ns → WS row2 n ns c a2 → aW sp str tl sy n c ns rs rv K V (m - b) b row2 a2 = (aW sp str tl sy n c ns rs rv K V m 0 row a) → Ev lyC (d + 7) hX11_walk 43 [some (.ref 0), some (.int (nI m)), some (.int ((-1))), some (.int st), some (.int (nI b))] [] (I2, J, R) (wkQ I J R n c ns m x u st (aW sp str tl sy n c ns rs rv K V m 0 row a)) := by
  intro k
  induction k with
  | zero => intro b row2 a2 I2 h1 h2; omega
  | succ k ih =>
    intro b row2 a2 I2 hb hkk hq2 hr2 hw2 e9
    refine ev_st dX11_walk_43 rfl rfl ?_
    refine ev_st dX11_walk_45 rfl rfl ?_
    refine ev_ic_geN (t := 69) (a := b) (b := m) dX11_walk_46 (by decide) rfl rfl (by omega) (by omega) (fun c_46 => ?_) (fun c_46 => ?_)
    · exact wkQ_e ((aW_0 (by omega)).symm.trans e9) hq2 hr2 hw2 (by omega) hm hx hx12 hu hu12 h43
    · refine ev_st dX11_walk_49 rfl rfl ?_
      refine ev_st dX11_walk_50 rfl rfl ?_
      refine ev_getC dX11_walk_51 fr_11_87 rfl rfl ?_
      refine ev_st dX11_walk_54 rfl rfl ?_
      refine ev_iald (j := b) (v := nI (K b * 16 + V b)) dX11_walk_56 rfl rfl (by omega) (by decide) ((congrFun (hq2.r 30 rfl) b).trans (h30 b (by omega))) ?_
      refine ev_call dX11_walk_57 rfl rfl mr_11_251 rfl rfl rfl (k_perform (k := K b) (v := V b) (hK.q hq2) (hst.q hq2) hz hr2 hw2 hp (hk b (by omega)).1 (hk b (by omega)).2) ?_
      rintro _ _ ⟨x9, I3, rfl, rfl, hq3, hg3⟩
      show Ev lyC (d + 7) hX11_walk 60 [some (.ref 0), some (.int (nI m)), some (.int ((-1))), some (.int st), some (.int (nI b))] [.int x9] (I3, J, R) _
      refine ev_if_lt (t := 69) (x := x9) dX11_walk_60 (by decide) (fun c_60 => ?_) (fun c_60 => ?_)
      · obtain ⟨e5, hr5⟩ := aPo_neg hg3 c_60
        exact wkQ_e ((aW_n (m := m) e5).symm.trans e9) (hq2.tr hq3) hr5 hw2 (by omega) hm hx hx12 hu hu12 h43
      · refine ev_iincN (a := b) (b := b + 1) (L' := [some (.ref 0), some (.int (nI m)), some (.int ((-1))), some (.int st), some (.int (nI (b + 1)))]) dX11_walk_63 rfl (nI_1 _) rfl ?_
        refine ev_goto (t := 43) dX11_walk_66 (by decide) ?_
        obtain ⟨g5, e5, hr5, hw5⟩ := aPo_pos hg3 c_60
        exact ih _ _ _ _ (by omega) (by omega) (hq2.tr hq3) hr5 hw5 ((aW_s e5 (by omega)).symm.trans e9)
