/-! the class: what could be said; drawn walks -/
theorem t_hind {I : Nat → Nat → Int32} {J : Nat → Nat → Int64} {R : Nat → Nat → Value} {d n c ns a s : Nat} {row sp str tl sy : Nat → Int32} (hst : ST I sp str tl sy n c ns) (hr : SR (I 39) (I 40) row n ns) (hw : WS row n ns c a) (hs : s < ns) : Cal lyC d hX7_hindranceTo 4 [.ref 39, .ref 5, .ref 11, .int (nI s)] (I, J, R) (fun r M' => r = some (.int (m_rY ns c a sy row (nI s))) ∧ M' = (I, J, R)) := by
  rw [← hi_eq hst hr hw hs]
  have h8 := hst.2.2.2.2.2.2.1
  exact k_hindranceTo_39 hst.2.2.1 hst.2.2.2.1 (hr.1.trans hw.1) (Nat.le_trans hw.2.1 hst.2.2.2.1) (by omega)
theorem t_la {I : Nat → Nat → Int32} {J : Nat → Nat → Int64} {R : Nat → Nat → Value} {d n c ns s : Nat} {sp str tl sy : Nat → Int32} (hst : ST I sp str tl sy n c ns) (hs : s < ns) (l : Int32) : Cal lyC (d + 1) hX6_loadAfter 3 [.ref 11, .int l, .int (nI s)] (I, J, R) (fun r M' => r = some (.int (m_lb sy l s)) ∧ M' = (I, J, R)) := by
  rw [← la_eq hst hs l]
  have h8 := hst.2.2.2.2.2.2.1
  exact k_loadAfter (by omega) l
theorem ne_m1 {l : Int32} (h : ¬ l < 0) : ¬ l = -1 := fun q => h (by rw [q]; decide)
theorem rY_nn {ns c a : Nat} {sy row : Nat → Int32} {x : Int32} (h : ¬ m_rY ns c a sy row x = 0) : m_rY ns c a sy row x < 0 := rY_neg.resolve_left h
theorem rY_z {ns c a : Nat} {sy row : Nat → Int32} {x : Int32} (h : m_rY ns c a sy row x = 0) : ¬ m_rY ns c a sy row x < 0 := by rw [h]; decide
set_option maxHeartbeats 1000000 in
theorem k_sayable {I : Nat → Nat → Int32} {J : Nat → Nat → Int64} {R : Nat → Nat → Value} {d n c ns a : Nat} {row sp str tl sy : Nat → Int32} (hst : ST I sp str tl sy n c ns) (hr : SR (I 39) (I 40) row n ns) (hw : WS row n ns c a) : Cal lyC (d + 4) hX3_sayable 7 [.ref 18, .ref 39] (I, J, R) (fun r M' => r = some (.int ((m_co sy row ns c a ns).1)) ∧ ∃ I3 J3, M' = (I3, J3, R) ∧ fC I I3 ∧ tC [((m_co sy row ns c a ns).2.1).toInt64, ((m_co sy row ns c a ns).2.2).toInt64] I3 J3) := by
  have hns := hst.2.2.2.2.2.1
  have hns8 := hst.2.2.2.2.2.2.1
  have loop : ∀ (k b : Nat) (m l o : Int32) (z : Option Value), b ≤ ns → ns - b < k → (m, l, o) = m_co sy row ns c a b → (l = -1 ∨ ¬ l < 0) → Ev lyC (d + 4) hX3_sayable 13 [some (.ref 18), some (.ref 39), some (.int m), some (.int l), some (.int o), some (.int (nI b)), z] [] (I, J, R) (fun r M' => r = some (.int ((m_co sy row ns c a ns).1)) ∧ ∃ I3 J3, M' = (I3, J3, R) ∧ fC I I3 ∧ tC [((m_co sy row ns c a ns).2.1).toInt64, ((m_co sy row ns c a ns).2.2).toInt64] I3 J3) := by
    intro k
    induction k with
    | zero => intro b m l o z h1 h2; omega
    | succ k ih =>
      intro b m l o z hb hk ht hl
      refine ev_st dX3_sayable_13 rfl rfl ?_
      refine ev_st dX3_sayable_15 rfl rfl ?_
      refine ev_getC dX3_sayable_16 fr_3_36 rfl rfl ?_
      refine ev_getI (v := nI ns) dX3_sayable_19 fr_3_143 rfl rfl hns ?_
      refine ev_ic_geN (t := 88) (a := b) (b := ns) dX3_sayable_22 (by decide) rfl rfl (by omega) (by omega) (fun c_22 => ?_) (fun c_22 => ?_)
      · refine ev_st dX3_sayable_88 rfl rfl ?_
        refine ev_getC dX3_sayable_89 fr_3_40 rfl rfl ?_
        refine ev_st dX3_sayable_92 rfl rfl ?_
        refine ev_st dX3_sayable_93 rfl rfl ?_
        refine ev_st dX3_sayable_94 rfl rfl ?_
        refine ev_st dX3_sayable_96 rfl rfl ?_
        refine ev_call dX3_sayable_97 rfl rfl mr_3_69 rfl rfl rfl (k_tell2 l.toInt64 o.toInt64) ?_
        rintro _ _ ⟨rfl, rfl⟩
        show Ev lyC (d + 4) hX3_sayable 100 [some (.ref 18), some (.ref 39), some (.int m), some (.int l), some (.int o), some (.int (nI b)), z] [] (ti_wr I 3 1 (nI 2), ti_wl (ti_wl J 4 0 l.toInt64) 4 1 o.toInt64, R) _
        refine ev_st dX3_sayable_100 rfl rfl ?_
        exact ev_iret dX3_sayable_101 rfl (by rw [show b = ns by omega] at ht; rw [← ht]; exact ⟨rfl, _, _, rfl, (fC.rf.w (p := 3) (k := 1) rfl _), tC2 rfl rfl rfl⟩)
      · refine ev_st dX3_sayable_25 rfl rfl ?_
        refine ev_st dX3_sayable_26 rfl rfl ?_
        refine ev_getC dX3_sayable_27 fr_3_28 rfl rfl ?_
        refine ev_st dX3_sayable_30 rfl rfl ?_
        refine ev_getC dX3_sayable_31 fr_3_36 rfl rfl ?_
        refine ev_st dX3_sayable_34 rfl rfl ?_
        refine ev_call dX3_sayable_36 rfl rfl mr_3_147 rfl rfl rfl (t_hind hst hr hw (by omega)) ?_
        rintro _ _ ⟨rfl, rfl⟩
        show Ev lyC (d + 4) hX3_sayable 39 [some (.ref 18), some (.ref 39), some (.int m), some (.int l), some (.int o), some (.int (nI b)), z] [.int (m_rY ns c a sy row (nI b))] (I, J, R) _
        refine ev_if_ne (t := 82) (x := m_rY ns c a sy row (nI b)) dX3_sayable_39 (by decide) (fun c_39 => ?_) (fun c_39 => ?_)
        · refine ev_iincN (a := b) (b := b + 1) (L' := [some (.ref 18), some (.ref 39), some (.int m), some (.int l), some (.int o), some (.int (nI (b + 1))), z]) dX3_sayable_82 rfl (nI_1 _) rfl ?_
          refine ev_goto (t := 13) dX3_sayable_85 (by decide) ?_
          exact ih _ _ _ _ _ (by omega) (by omega) (by simp only [m_co, ← ht]; rw [if_pos (rY_nn c_39)]) hl
        · refine ev_st dX3_sayable_42 rfl rfl ?_
          refine ev_getC dX3_sayable_43 fr_3_36 rfl rfl ?_
          refine ev_st dX3_sayable_46 rfl rfl ?_
          refine ev_getI (v := row 25) dX3_sayable_47 fr_3_125 rfl rfl hr.2.1 ?_
          refine ev_st dX3_sayable_50 rfl rfl ?_
          refine ev_call dX3_sayable_52 rfl rfl mr_3_144 rfl rfl rfl (t_la hst (by omega) (row 25)) ?_
          rintro _ _ ⟨rfl, rfl⟩
          show Ev lyC (d + 4) hX3_sayable 55 [some (.ref 18), some (.ref 39), some (.int m), some (.int l), some (.int o), some (.int (nI b)), z] [.int (m_lb sy (row 25) b)] (I, J, R) _
          refine ev_st (L' := [some (.ref 18), some (.ref 39), some (.int m), some (.int l), some (.int o), some (.int (nI b)), some (.int (m_lb sy (row 25) b))]) dX3_sayable_55 rfl rfl ?_
          refine ev_st dX3_sayable_57 rfl rfl ?_
          refine ev_if_lt (t := 68) (x := l) dX3_sayable_58 (by decide) (fun c_58 => ?_) (fun c_58 => ?_)
          · refine ev_st dX3_sayable_68 rfl rfl ?_
            refine ev_st (L' := [some (.ref 18), some (.ref 39), some (.int m), some (.int (nI b)), some (.int o), some (.int (nI b)), some (.int (m_lb sy (row 25) b))]) dX3_sayable_70 rfl rfl ?_
            refine ev_st dX3_sayable_71 rfl rfl ?_
            refine ev_st (L' := [some (.ref 18), some (.ref 39), some (.int m), some (.int (nI b)), some (.int (m_lb sy (row 25) b)), some (.int (nI b)), some (.int (m_lb sy (row 25) b))]) dX3_sayable_73 rfl rfl ?_
            refine ev_st dX3_sayable_75 rfl rfl ?_
            refine ev_iconst (v := 1) dX3_sayable_76 (by decide) ?_
            refine ev_st dX3_sayable_77 rfl rfl ?_
            refine ev_st dX3_sayable_79 rfl rfl ?_
            refine ev_st dX3_sayable_80 rfl rfl ?_
            refine ev_st (L' := [some (.ref 18), some (.ref 39), some (.int (m ||| ((1 : Int32) <<< ((nI b) &&& 31)))), some (.int (nI b)), some (.int (m_lb sy (row 25) b)), some (.int (nI b)), some (.int (m_lb sy (row 25) b))]) dX3_sayable_81 rfl rfl ?_
            refine ev_iincN (a := b) (b := b + 1) (L' := [some (.ref 18), some (.ref 39), some (.int (m ||| ((1 : Int32) <<< ((nI b) &&& 31)))), some (.int (nI b)), some (.int (m_lb sy (row 25) b)), some (.int (nI (b + 1))), some (.int (m_lb sy (row 25) b))]) dX3_sayable_82 rfl (nI_1 _) rfl ?_
            refine ev_goto (t := 13) dX3_sayable_85 (by decide) ?_
            exact ih _ _ _ _ _ (by omega) (by omega) (by simp only [m_co, ← ht]; rw [if_neg (rY_z c_39), if_pos (hl.resolve_right (fun q => q c_58))]) (Or.inr (nI_pos (by omega)))
          · refine ev_st dX3_sayable_61 rfl rfl ?_
            refine ev_st dX3_sayable_63 rfl rfl ?_
            refine ev_ic_ge (t := 75) (x := m_lb sy (row 25) b) (y := o) dX3_sayable_65 (by decide) (fun c_65 => ?_) (fun c_65 => ?_)
            · refine ev_st dX3_sayable_75 rfl rfl ?_
              refine ev_iconst (v := 1) dX3_sayable_76 (by decide) ?_
              refine ev_st dX3_sayable_77 rfl rfl ?_
              refine ev_st dX3_sayable_79 rfl rfl ?_
              refine ev_st dX3_sayable_80 rfl rfl ?_
              refine ev_st (L' := [some (.ref 18), some (.ref 39), some (.int (m ||| ((1 : Int32) <<< ((nI b) &&& 31)))), some (.int l), some (.int o), some (.int (nI b)), some (.int (m_lb sy (row 25) b))]) dX3_sayable_81 rfl rfl ?_
              refine ev_iincN (a := b) (b := b + 1) (L' := [some (.ref 18), some (.ref 39), some (.int (m ||| ((1 : Int32) <<< ((nI b) &&& 31)))), some (.int l), some (.int o), some (.int (nI (b + 1))), some (.int (m_lb sy (row 25) b))]) dX3_sayable_82 rfl (nI_1 _) rfl ?_
              refine ev_goto (t := 13) dX3_sayable_85 (by decide) ?_
              exact ih _ _ _ _ _ (by omega) (by omega) (by simp only [m_co, ← ht]; rw [if_neg (rY_z c_39), if_neg (ne_m1 c_58), if_neg c_65]) hl
            · refine ev_st dX3_sayable_68 rfl rfl ?_
              refine ev_st (L' := [some (.ref 18), some (.ref 39), some (.int m), some (.int (nI b)), some (.int o), some (.int (nI b)), some (.int (m_lb sy (row 25) b))]) dX3_sayable_70 rfl rfl ?_
              refine ev_st dX3_sayable_71 rfl rfl ?_
              refine ev_st (L' := [some (.ref 18), some (.ref 39), some (.int m), some (.int (nI b)), some (.int (m_lb sy (row 25) b)), some (.int (nI b)), some (.int (m_lb sy (row 25) b))]) dX3_sayable_73 rfl rfl ?_
              refine ev_st dX3_sayable_75 rfl rfl ?_
              refine ev_iconst (v := 1) dX3_sayable_76 (by decide) ?_
              refine ev_st dX3_sayable_77 rfl rfl ?_
              refine ev_st dX3_sayable_79 rfl rfl ?_
              refine ev_st dX3_sayable_80 rfl rfl ?_
              refine ev_st (L' := [some (.ref 18), some (.ref 39), some (.int (m ||| ((1 : Int32) <<< ((nI b) &&& 31)))), some (.int (nI b)), some (.int (m_lb sy (row 25) b)), some (.int (nI b)), some (.int (m_lb sy (row 25) b))]) dX3_sayable_81 rfl rfl ?_
              refine ev_iincN (a := b) (b := b + 1) (L' := [some (.ref 18), some (.ref 39), some (.int (m ||| ((1 : Int32) <<< ((nI b) &&& 31)))), some (.int (nI b)), some (.int (m_lb sy (row 25) b)), some (.int (nI (b + 1))), some (.int (m_lb sy (row 25) b))]) dX3_sayable_82 rfl (nI_1 _) rfl ?_
              refine ev_goto (t := 13) dX3_sayable_85 (by decide) ?_
              exact ih _ _ _ _ _ (by omega) (by omega) (by simp only [m_co, ← ht]; rw [if_neg (rY_z c_39), if_neg (ne_m1 c_58), if_pos c_65]) (Or.inr (nI_pos (by omega)))
  show Ev lyC (d + 4) hX3_sayable 0 [some (.ref 18), some (.ref 39), none, none, none, none, none] [] (I, J, R) _
  refine ev_iconst (v := 0) dX3_sayable_0 (by decide) ?_
  refine ev_st (L' := [some (.ref 18), some (.ref 39), some (.int 0), none, none, none, none]) dX3_sayable_1 rfl rfl ?_
  refine ev_iconst (v := -1) dX3_sayable_2 (by decide) ?_
  refine ev_st (L' := [some (.ref 18), some (.ref 39), some (.int 0), some (.int ((-1))), none, none, none]) dX3_sayable_3 rfl rfl ?_
  refine ev_st dX3_sayable_4 rfl rfl ?_
  refine ev_getI (v := row 25) dX3_sayable_5 fr_3_125 rfl rfl hr.2.1 ?_
  refine ev_st (L' := [some (.ref 18), some (.ref 39), some (.int 0), some (.int ((-1))), some (.int (row 25)), none, none]) dX3_sayable_8 rfl rfl ?_
  refine ev_iconst (v := 0) dX3_sayable_10 (by decide) ?_
  refine ev_st (L' := [some (.ref 18), some (.ref 39), some (.int 0), some (.int ((-1))), some (.int (row 25)), some (.int 0), none]) dX3_sayable_11 rfl rfl ?_
  exact loop (ns + 1) 0 0 (-1) (row 25) _ (by omega) (by omega) rfl (Or.inl rfl)
set_option maxHeartbeats 1000000 in
theorem k_draw {I : Nat → Nat → Int32} {J : Nat → Nat → Int64} {R : Nat → Nat → Value} {d m : Nat} (h0 : 0 < m) (hm : m < 2 ^ 31) : Cal lyC d hX3_draw 2 [.ref 18, .int (nI m)] (I, J, R) (fun r M' => r = some (.int (nI (drN (m_dw (I 18 8)) % m))) ∧ M' = (ti_wr I 18 8 (m_dw (I 18 8)), J, R)) := by
  show Ev lyC d hX3_draw 0 [some (.ref 18), some (.int (nI m))] [] (I, J, R) _
  refine ev_st dX3_draw_0 rfl rfl ?_
  refine ev_st dX3_draw_1 rfl rfl ?_
  refine ev_getI (v := I 18 8) dX3_draw_2 fr_3_151 rfl rfl rfl ?_
  refine ev_ldc (v := 1103515245) dX3_draw_5 rfl ?_
  refine ev_st dX3_draw_7 rfl rfl ?_
  refine ev_sipush (v := 12345) dX3_draw_8 (by decide) ?_
  refine ev_st dX3_draw_11 rfl rfl ?_
  refine ev_putI dX3_draw_12 fr_3_151 rfl rfl ?_
  refine ev_st dX3_draw_15 rfl rfl ?_
  refine ev_if_leN (t := 31) (a := m) dX3_draw_16 (by decide) rfl (by omega) (fun c_16 => ?_) (fun c_16 => ?_)
  · omega
  · refine ev_st dX3_draw_19 rfl rfl ?_
    refine ev_getI (v := ((I 18 8) * 1103515245) + 12345) dX3_draw_20 fr_3_151 rfl rfl rfl ?_
    refine ev_bipush (v := 16) dX3_draw_23 (by decide) ?_
    refine ev_st dX3_draw_25 rfl rfl ?_
    refine ev_st dX3_draw_26 rfl rfl ?_
    refine ev_rem dX3_draw_27 (fun q => by have := (nI_eq (b := 0) (by omega) (by decide)).mp q; omega) ?_
    refine ev_goto (t := 32) dX3_draw_28 (by decide) ?_
    exact ev_iret dX3_draw_32 rfl (⟨by rw [← dr_nI (m_dw (I 18 8)) h0 hm]; rfl, rfl⟩)
/-- a bearer that is drawn turns -/
def m_tu (n : Nat) (row : Nat → Int32) (j : Nat) : Nat → Int32 := if row (8 + j) = 1 then upd row (8 + j) 0 else if m_rT n row (nI j) = 0 then upd row (8 + j) 1 else row
def qT (n ns c a : Nat) (I : Nat → Nat → Int32) (J : Nat → Nat → Int64) (R : Nat → Nat → Value) (row : Nat → Int32) (r : Option Value) (M' : TM) : Prop := r = none ∧ ∃ I3, M' = (I3, J, R) ∧ qF 41 I I3 ∧ SR (I3 41) (I3 42) row n ns ∧ WS row n ns c a
theorem bc_nn {row : Nat → Int32} {n ns c a : Nat} (hn : n ≤ 8) (hw : WS row n ns c a) : ¬ bc (m_cy row n) < 0 := by
  rw [m_cy_bt, bt_bN n hn hw.2.2.2.1, bc_cN (bN256 hn)]
  exact nI_pos (by have := cN_8 _ (bN256 (g := fun b => row (8 + b)) hn); omega)
theorem qF.tr {q : Nat} {I I2 I3 : Nat → Nat → Int32} (h : qF q I I2) (g : qF q I2 I3) : qF q I I3 := fun p a b c d e f => (g p a b c d e f).trans (h p a b c d e f)
theorem turn_a {I : Nat → Nat → Int32} {J J3 : Nat → Nat → Int64} {R R3 : Nat → Nat → Value} {I3 : Nat → Nat → Int32} {n ns c a j : Nat} {row : Nat → Int32} {v : Int32} (hn : n ≤ 8) (hw : WS row n ns c a) (hq : aLv 41 n ns c a row j I J R (some (.int v)) (I3, J3, R3)) (h : ¬ v < 0) : qT n ns c a I J R (m_tu n row j) none (I3, J3, R3) := by
  rcases hq with ⟨h1, h2, h3, h4⟩ | ⟨h1, h2, h3, I4, h4, h5, h6, h7⟩
  · cases h3; exact absurd h1 h
  · rw [m_tu, if_pos h2]; exact ⟨rfl, I4, h4, h5, h6, h7⟩
theorem turn_b {I : Nat → Nat → Int32} {J J3 : Nat → Nat → Int64} {R R3 : Nat → Nat → Value} {I3 : Nat → Nat → Int32} {n ns c a j : Nat} {row : Nat → Int32} {v : Int32} (h0 : row (8 + j) = 0) (hr : SR (I 41) (I 42) row n ns) (hw : WS row n ns c a) (hq : aTk 41 n ns c a row j I J R (some (.int v)) (I3, J3, R3)) : qT n ns c a I J R (m_tu n row j) none (I3, J3, R3) := by
  rw [m_tu, if_neg (by rw [h0]; decide)]
  rcases hq with ⟨h1, h2, h3⟩ | ⟨h1, h3, I4, h4, h5, h6, h7⟩
  · rw [if_neg (by intro z; rw [z] at h1; exact absurd h1 (by decide))]; exact ⟨rfl, _, h3, qF.rf, hr, hw⟩
  · rw [if_pos h1]; exact ⟨rfl, I4, h4, h5, h6, h7⟩
theorem turn_c {I : Nat → Nat → Int32} {J J3 : Nat → Nat → Int64} {R R3 : Nat → Nat → Value} {I3 : Nat → Nat → Int32} {n ns c a j : Nat} {row : Nat → Int32} {v : Int32} (hn : n ≤ 8) (hq : aLv 41 n ns c a row j I J R (some (.int v)) (I3, J3, R3)) (h : v < 0) : row (8 + j) = 0 ∧ I3 = I ∧ J3 = J ∧ R3 = R := by
  rcases hq with ⟨h1, h2, h3, h4⟩ | ⟨h1, h2, h3, I4, h4, h5, h6, h7⟩
  · cases h4; exact ⟨h2, rfl, rfl, rfl⟩
  · cases h3; exact absurd h (bc_nn hn h7)
set_option maxHeartbeats 1000000 in
theorem k_turn {I : Nat → Nat → Int32} {J : Nat → Nat → Int64} {R : Nat → Nat → Value} {d n c ns a j : Nat} {row : Nat → Int32} (hn : I 8 3 = nI n) (hn8 : n ≤ 8) (hr : SR (I 41) (I 42) row n ns) (hw : WS row n ns c a) (hj : j < n) : Cal lyC (d + 2) hX3_turn 2 [.ref 18, .int (nI j)] (I, J, R) (qT n ns c a I J R (m_tu n row j)) := by
  show Ev lyC (d + 2) hX3_turn 0 [some (.ref 18), some (.int (nI j))] [] (I, J, R) _
  refine ev_st dX3_turn_0 rfl rfl ?_
  refine ev_getC dX3_turn_1 fr_3_12 rfl rfl ?_
  refine ev_st dX3_turn_4 rfl rfl ?_
  refine ev_getC dX3_turn_5 fr_3_32 rfl rfl ?_
  refine ev_st dX3_turn_8 rfl rfl ?_
  refine ev_call dX3_turn_9 rfl rfl mr_3_171 rfl rfl rfl (a_leave (Or.inr rfl) hn hn8 hr hw hj) ?_
  rintro r ⟨I3, J3, R3⟩ hq
  have hq0 : ∃ vr, r = some (.int vr) := by rcases hq with ⟨_, _, h, _⟩ | ⟨_, _, h, _⟩ <;> exact ⟨_, h⟩
  obtain ⟨vr, rfl⟩ := hq0
  show Ev lyC (d + 2) hX3_turn 12 [some (.ref 18), some (.int (nI j))] [.int vr] (I3, J3, R3) _
  refine ev_if_ge (t := 28) (x := vr) dX3_turn_12 (by decide) (fun c_12 => ?_) (fun c_12 => ?_)
  · exact ev_vret dX3_turn_28 rfl (turn_a hn8 hw hq c_12)
  · obtain ⟨e0, rfl, rfl, rfl⟩ := turn_c hn8 hq c_12
    refine ev_st dX3_turn_15 rfl rfl ?_
    refine ev_getC dX3_turn_16 fr_3_12 rfl rfl ?_
    refine ev_st dX3_turn_19 rfl rfl ?_
    refine ev_getC dX3_turn_20 fr_3_32 rfl rfl ?_
    refine ev_st dX3_turn_23 rfl rfl ?_
    refine ev_call dX3_turn_24 rfl rfl mr_3_175 rfl rfl rfl (a_take (Or.inr rfl) hn hn8 hr hw hj) ?_
    rintro r2 ⟨I4, J4, R4⟩ hq2
    have hq3 : ∃ v2, r2 = some (.int v2) := by rcases hq2 with ⟨_, h, _⟩ | ⟨_, h, _⟩ <;> exact ⟨_, h⟩
    obtain ⟨v2, rfl⟩ := hq3
    show Ev lyC (d + 2) hX3_turn 27 [some (.ref 18), some (.int (nI j))] [.int v2] (I4, J4, R4) _
    refine ev_st dX3_turn_27 rfl rfl ?_
    exact ev_vret dX3_turn_28 rfl (turn_b e0 hr hw hq2)
