/-! the class: which -/
def k_wh (h : Nat → Int32) : Nat → Int32 × Int32
  | 0 => (-2, 4)
  | w + 1 => if h w < 0 then k_wh h w else if h w < (k_wh h w).2 then (nI w, h w) else k_wh h w
theorem k_wh_nn {h : Nat → Int32} : ∀ w, w ≤ 4 → (k_wh h w).1 = -2 ∨ ¬ (k_wh h w).1 < 0
  | 0, _ => Or.inl rfl
  | w + 1, hw => by
    have ih := k_wh_nn (h := h) w (by omega)
    simp only [k_wh]
    split
    · exact ih
    · split
      · exact Or.inr (nI_pos (by omega))
      · exact ih
theorem wh_end {h : Nat → Int32} {m l : Int32} (ht : (m, l) = k_wh h 4) (hm : m < 0) : m = (k_wh h 4).1 ∧ (k_wh h 4).1 = -2 := by
  have e : m = (k_wh h 4).1 := by rw [← ht]
  exact ⟨e, (k_wh_nn 4 (Nat.le_refl _)).resolve_right (fun q => q (by rw [← e]; exact hm))⟩
/-- the first m of the numbers in the row -/
def rwW (h : Nat → Int32) (m : Nat) (I : Nat → Nat → Int32) (J : Nat → Nat → Int64) : Prop := I 3 1 = nI m ∧ ∀ k, k < m → J 4 k = (h k).toInt64
set_option maxHeartbeats 1000000 in
theorem k_seven2 {I : Nat → Nat → Int32} {J : Nat → Nat → Int64} {R : Nat → Nat → Value} {d n c ns a p z rs : Nat} {rv : RV} {row sp str tl sy : Nat → Int32} (hK : kA I d n c p z rv) (hst : ST I sp str tl sy n c ns) (hz : z = 0 ↔ rs = 0) (hr : SR (I 39) (I 40) row n ns) (hw : WS row n ns c a) {m l : Int32} {z : Option Value} (hm : m = (k_wh (fun w => m_hn (k_FB sy (m_RM sp str tl n c rs rv row a) (fun j => k_bn (m_RM sp str tl n c rs rv row a) c (c - j)) c ns a (row 27) (row 25) ((I 11 3 &&& k_kn (I 14) (nI w) ns) &&& (I 39 5 ^^^ (-1))))) 4).1) (hne : ¬ (k_wh (fun w => m_hn (k_FB sy (m_RM sp str tl n c rs rv row a) (fun j => k_bn (m_RM sp str tl n c rs rv row a) c (c - j)) c ns a (row 27) (row 25) ((I 11 3 &&& k_kn (I 14) (nI w) ns) &&& (I 39 5 ^^^ (-1))))) 4).1 = -2) : ∀ (k b : Nat) (I2 : Nat → Nat → Int32) (J2 : Nat → Nat → Int64), b ≤ 4 → 4 - b < k → fC I I2 → (∀ j, a ≤ j → j < c → I2 19 j = m_RM sp str tl n c rs rv row a j) → (∀ j, a ≤ j → j ≤ c → I2 20 j = k_bn (m_RM sp str tl n c rs rv row a) c (c - j)) → rwW (fun w => m_hn (k_FB sy (m_RM sp str tl n c rs rv row a) (fun j => k_bn (m_RM sp str tl n c rs rv row a) c (c - j)) c ns a (row 27) (row 25) ((I 11 3 &&& k_kn (I 14) (nI w) ns) &&& (I 39 5 ^^^ (-1))))) b I2 J2 → Ev lyC (d + 8) hX3_bestSeventh 69 [some (.ref 18), some (.ref 39), some (.ref p), some (.int m), some (.int l), some (.int (nI b)), z] [] (I2, J2, R) (fun r M' => r = some (.int (k_wh (fun w => m_hn (k_FB sy (m_RM sp str tl n c rs rv row a) (fun j => k_bn (m_RM sp str tl n c rs rv row a) c (c - j)) c ns a (row 27) (row 25) ((I 11 3 &&& k_kn (I 14) (nI w) ns) &&& (I 39 5 ^^^ (-1))))) 4).1) ∧ ∃ I3 J3, M' = (I3, J3, R) ∧ fC I I3 ∧ if (k_wh (fun w => m_hn (k_FB sy (m_RM sp str tl n c rs rv row a) (fun j => k_bn (m_RM sp str tl n c rs rv row a) c (c - j)) c ns a (row 27) (row 25) ((I 11 3 &&& k_kn (I 14) (nI w) ns) &&& (I 39 5 ^^^ (-1))))) 4).1 = -2 then uC I J I3 J3 else rwW (fun w => m_hn (k_FB sy (m_RM sp str tl n c rs rv row a) (fun j => k_bn (m_RM sp str tl n c rs rv row a) c (c - j)) c ns a (row 27) (row 25) ((I 11 3 &&& k_kn (I 14) (nI w) ns) &&& (I 39 5 ^^^ (-1))))) 4 I3 J3) := by
  have hn := hK.1
  have hn8 := hK.2.1
  have hc := hK.2.2.1
  have hc12 := hK.2.2.2.1
  have hns8 := hst.2.2.2.2.2.2.1
  have ha : I 39 1 = nI a := hr.1.trans hw.1
  have hac := hw.2.1
  have ha12 : a ≤ 12 := by omega
  intro k
  induction k with
  | zero => intro b I2 J2 h1 h2; omega
  | succ k ih =>
    intro b I2 J2 hb hk hs2 h19 h20 hrw
    refine ev_st dX3_bestSeventh_69 rfl rfl ?_
    refine ev_iconst (v := 4) dX3_bestSeventh_71 (by decide) ?_
    refine ev_ic_geN (t := 96) (a := b) (b := 4) dX3_bestSeventh_72 (by decide) rfl rfl (by omega) (by omega) (fun c_72 => ?_) (fun c_72 => ?_)
    · refine ev_st dX3_bestSeventh_96 rfl rfl ?_
      exact ev_iret dX3_bestSeventh_97 rfl (by rw [show b = 4 by omega] at hrw; rw [hm]; exact ⟨rfl, _, _, rfl, hs2, by rw [if_neg hne]; exact hrw⟩)
    · refine ev_st dX3_bestSeventh_75 rfl rfl ?_
      refine ev_getC dX3_bestSeventh_76 fr_3_40 rfl rfl ?_
      refine ev_st dX3_bestSeventh_79 rfl rfl ?_
      refine ev_st dX3_bestSeventh_80 rfl rfl ?_
      refine ev_st dX3_bestSeventh_81 rfl rfl ?_
      refine ev_call dX3_bestSeventh_83 rfl rfl mr_3_106 rfl rfl rfl (Cal.mono (by omega) (k_fewestBy (I2 := I2) (J := J2) (d := d) (B := m_RM sp str tl n c rs rv row a) (BO := (fun j => k_bn (m_RM sp str tl n c rs rv row a) c (c - j))) hst hr hw h19 h20 (by rw [Nat.sub_self]; rfl) hs2 (nI b))) ?_
      rintro _ _ ⟨rfl, I3, rfl, g3, hpl3⟩
      have hs3 := (hF0 g3).f hs2
      show Ev lyC (d + 8) hX3_bestSeventh 86 [some (.ref 18), some (.ref 39), some (.ref p), some (.int m), some (.int l), some (.int (nI b)), z] [.int (m_hn (k_FB sy (m_RM sp str tl n c rs rv row a) (fun j => k_bn (m_RM sp str tl n c rs rv row a) c (c - j)) c ns a (row 27) (row 25) ((I 11 3 &&& k_kn (I 14) (nI b) ns) &&& (I 39 5 ^^^ (-1))))), .ref 3] (I3, J2, R) _
      refine ev_st dX3_bestSeventh_86 rfl rfl ?_
      refine ev_call dX3_bestSeventh_87 rfl rfl mr_3_117 rfl rfl rfl (k_add (I := I3) (J := J2) (m := b) ((congrFun (g3 3 (by decide)) 1).trans hrw.1) (by omega) ((m_hn (k_FB sy (m_RM sp str tl n c rs rv row a) (fun j => k_bn (m_RM sp str tl n c rs rv row a) c (c - j)) c ns a (row 27) (row 25) ((I 11 3 &&& k_kn (I 14) (nI b) ns) &&& (I 39 5 ^^^ (-1))))).toInt64)) ?_
      rintro _ _ ⟨rfl, rfl⟩
      show Ev lyC (d + 8) hX3_bestSeventh 90 [some (.ref 18), some (.ref 39), some (.ref p), some (.int m), some (.int l), some (.int (nI b)), z] [] (ti_wr I3 3 1 (nI (b + 1)), ti_wl J2 4 b ((m_hn (k_FB sy (m_RM sp str tl n c rs rv row a) (fun j => k_bn (m_RM sp str tl n c rs rv row a) c (c - j)) c ns a (row 27) (row 25) ((I 11 3 &&& k_kn (I 14) (nI b) ns) &&& (I 39 5 ^^^ (-1))))).toInt64), R) _
      refine ev_iincN (a := b) (b := b + 1) (L' := [some (.ref 18), some (.ref 39), some (.ref p), some (.int m), some (.int l), some (.int (nI (b + 1))), z]) dX3_bestSeventh_90 rfl (nI_1 _) rfl ?_
      refine ev_goto (t := 69) dX3_bestSeventh_93 (by decide) ?_
      refine ih _ _ _ (by omega) (by omega) (hs3.w (p := 3) (k := 1) rfl _) (fun j p q => by rw [ti_wr_n (by decide), g3 19 (by decide)]; exact h19 j p q) (fun j p q => by rw [ti_wr_n (by decide), g3 20 (by decide)]; exact h20 j p q) ⟨ti_wr_at, fun k2 hk2 => ?_⟩
      by_cases e : k2 = b
      · subst e; exact ti_wl_at
      · rw [wl_ne e]; exact hrw.2 k2 (by omega)
set_option maxHeartbeats 1000000 in
theorem k_bestSeventh {I : Nat → Nat → Int32} {J : Nat → Nat → Int64} {R : Nat → Nat → Value} {d n c ns a p z rs : Nat} {rv : RV} {row sp str tl sy : Nat → Int32} (hK : kA I d n c p z rv) (hst : ST I sp str tl sy n c ns) (hz : z = 0 ↔ rs = 0) (hr : SR (I 39) (I 40) row n ns) (hw : WS row n ns c a) : Cal lyC (d + 8) hX3_bestSeventh 7 [.ref 18, .ref 39, .ref p] (I, J, R) (fun r M' => r = some (.int (k_wh (fun w => m_hn (k_FB sy (m_RM sp str tl n c rs rv row a) (fun j => k_bn (m_RM sp str tl n c rs rv row a) c (c - j)) c ns a (row 27) (row 25) ((I 11 3 &&& k_kn (I 14) (nI w) ns) &&& (I 39 5 ^^^ (-1))))) 4).1) ∧ ∃ I3 J3, M' = (I3, J3, R) ∧ fC I I3 ∧ if (k_wh (fun w => m_hn (k_FB sy (m_RM sp str tl n c rs rv row a) (fun j => k_bn (m_RM sp str tl n c rs rv row a) c (c - j)) c ns a (row 27) (row 25) ((I 11 3 &&& k_kn (I 14) (nI w) ns) &&& (I 39 5 ^^^ (-1))))) 4).1 = -2 then uC I J I3 J3 else rwW (fun w => m_hn (k_FB sy (m_RM sp str tl n c rs rv row a) (fun j => k_bn (m_RM sp str tl n c rs rv row a) c (c - j)) c ns a (row 27) (row 25) ((I 11 3 &&& k_kn (I 14) (nI w) ns) &&& (I 39 5 ^^^ (-1))))) 4 I3 J3) := by
  have hn := hK.1
  have hn8 := hK.2.1
  have hc := hK.2.2.1
  have hc12 := hK.2.2.2.1
  have hns8 := hst.2.2.2.2.2.2.1
  have ha : I 39 1 = nI a := hr.1.trans hw.1
  have hac := hw.2.1
  have ha12 : a ≤ 12 := by omega
  have loop : ∀ (k b : Nat) (m l : Int32) (z : Option Value) (I2 : Nat → Nat → Int32), b ≤ 4 → 4 - b < k → (m, l) = k_wh (fun w => m_hn (k_FB sy (m_RM sp str tl n c rs rv row a) (fun j => k_bn (m_RM sp str tl n c rs rv row a) c (c - j)) c ns a (row 27) (row 25) ((I 11 3 &&& k_kn (I 14) (nI w) ns) &&& (I 39 5 ^^^ (-1))))) b → fC I I2 → I2 3 = I 3 → (∀ j, a ≤ j → j < c → I2 19 j = m_RM sp str tl n c rs rv row a j) → (∀ j, a ≤ j → j ≤ c → I2 20 j = k_bn (m_RM sp str tl n c rs rv row a) c (c - j)) → Ev lyC (d + 8) hX3_bestSeventh 15 [some (.ref 18), some (.ref 39), some (.ref p), some (.int m), some (.int l), some (.int (nI b)), z] [] (I2, J, R) (fun r M' => r = some (.int (k_wh (fun w => m_hn (k_FB sy (m_RM sp str tl n c rs rv row a) (fun j => k_bn (m_RM sp str tl n c rs rv row a) c (c - j)) c ns a (row 27) (row 25) ((I 11 3 &&& k_kn (I 14) (nI w) ns) &&& (I 39 5 ^^^ (-1))))) 4).1) ∧ ∃ I3 J3, M' = (I3, J3, R) ∧ fC I I3 ∧ if (k_wh (fun w => m_hn (k_FB sy (m_RM sp str tl n c rs rv row a) (fun j => k_bn (m_RM sp str tl n c rs rv row a) c (c - j)) c ns a (row 27) (row 25) ((I 11 3 &&& k_kn (I 14) (nI w) ns) &&& (I 39 5 ^^^ (-1))))) 4).1 = -2 then uC I J I3 J3 else rwW (fun w => m_hn (k_FB sy (m_RM sp str tl n c rs rv row a) (fun j => k_bn (m_RM sp str tl n c rs rv row a) c (c - j)) c ns a (row 27) (row 25) ((I 11 3 &&& k_kn (I 14) (nI w) ns) &&& (I 39 5 ^^^ (-1))))) 4 I3 J3) := by
    intro k
    induction k with
    | zero => intro b m l z I2 h1 h2; omega
    | succ k ih =>
      intro b m l z I2 hb hk ht hs2 h3 h19 h20
      refine ev_st dX3_bestSeventh_15 rfl rfl ?_
      refine ev_iconst (v := 4) dX3_bestSeventh_17 (by decide) ?_
      refine ev_ic_geN (t := 55) (a := b) (b := 4) dX3_bestSeventh_18 (by decide) rfl rfl (by omega) (by omega) (fun c_18 => ?_) (fun c_18 => ?_)
      · refine ev_st dX3_bestSeventh_55 rfl rfl ?_
        refine ev_if_lt (t := 96) (x := m) dX3_bestSeventh_56 (by decide) (fun c_56 => ?_) (fun c_56 => ?_)
        · refine ev_st dX3_bestSeventh_96 rfl rfl ?_
          exact ev_iret dX3_bestSeventh_97 rfl (by rw [show b = 4 by omega] at ht; obtain ⟨hm, e2⟩ := wh_end ht c_56; rw [hm]; exact ⟨rfl, _, _, rfl, hs2, by rw [if_pos e2]; exact ⟨h3, rfl⟩⟩)
        · refine ev_st dX3_bestSeventh_59 rfl rfl ?_
          refine ev_getC dX3_bestSeventh_60 fr_3_40 rfl rfl ?_
          refine ev_call dX3_bestSeventh_63 rfl rfl mr_3_110 rfl rfl rfl (k_clear) ?_
          rintro _ _ ⟨rfl, rfl⟩
          show Ev lyC (d + 8) hX3_bestSeventh 66 [some (.ref 18), some (.ref 39), some (.ref p), some (.int m), some (.int l), some (.int (nI b)), z] [] (ti_wr I2 3 1 0, J, R) _
          refine ev_iconst (v := 0) dX3_bestSeventh_66 (by decide) ?_
          refine ev_st (L' := [some (.ref 18), some (.ref 39), some (.ref p), some (.int m), some (.int l), some (.int 0), z]) dX3_bestSeventh_67 rfl rfl ?_
          rw [show b = 4 by omega] at ht
          have hm : m = (k_wh (fun w => m_hn (k_FB sy (m_RM sp str tl n c rs rv row a) (fun j => k_bn (m_RM sp str tl n c rs rv row a) c (c - j)) c ns a (row 27) (row 25) ((I 11 3 &&& k_kn (I 14) (nI w) ns) &&& (I 39 5 ^^^ (-1))))) 4).1 := by rw [← ht]
          exact k_seven2 (p := p) hK hst hz hr hw hm (fun q => c_56 (by rw [hm, q]; decide)) 5 0 _ _ (by omega) (by omega) (hs2.w (p := 3) (k := 1) rfl _) (fun j p q => by rw [ti_wr_n (by decide)]; exact h19 j p q) (fun j p q => by rw [ti_wr_n (by decide)]; exact h20 j p q) ⟨rfl, fun k2 q => by omega⟩
      · refine ev_st dX3_bestSeventh_21 rfl rfl ?_
        refine ev_st dX3_bestSeventh_22 rfl rfl ?_
        refine ev_st dX3_bestSeventh_23 rfl rfl ?_
        refine ev_call dX3_bestSeventh_25 rfl rfl mr_3_106 rfl rfl rfl (Cal.mono (by omega) (k_fewestBy (I2 := I2) (J := J) (d := d) (B := m_RM sp str tl n c rs rv row a) (BO := (fun j => k_bn (m_RM sp str tl n c rs rv row a) c (c - j))) hst hr hw h19 h20 (by rw [Nat.sub_self]; rfl) hs2 (nI b))) ?_
        rintro _ _ ⟨rfl, I3, rfl, g3, hpl3⟩
        have hs3 := (hF0 g3).f hs2
        show Ev lyC (d + 8) hX3_bestSeventh 28 [some (.ref 18), some (.ref 39), some (.ref p), some (.int m), some (.int l), some (.int (nI b)), z] [.int (m_hn (k_FB sy (m_RM sp str tl n c rs rv row a) (fun j => k_bn (m_RM sp str tl n c rs rv row a) c (c - j)) c ns a (row 27) (row 25) ((I 11 3 &&& k_kn (I 14) (nI b) ns) &&& (I 39 5 ^^^ (-1)))))] (I3, J, R) _
        refine ev_st (L' := [some (.ref 18), some (.ref 39), some (.ref p), some (.int m), some (.int l), some (.int (nI b)), some (.int (m_hn (k_FB sy (m_RM sp str tl n c rs rv row a) (fun j => k_bn (m_RM sp str tl n c rs rv row a) c (c - j)) c ns a (row 27) (row 25) ((I 11 3 &&& k_kn (I 14) (nI b) ns) &&& (I 39 5 ^^^ (-1))))))]) dX3_bestSeventh_28 rfl rfl ?_
        refine ev_st dX3_bestSeventh_30 rfl rfl ?_
        refine ev_if_lt (t := 49) (x := m_hn (k_FB sy (m_RM sp str tl n c rs rv row a) (fun j => k_bn (m_RM sp str tl n c rs rv row a) c (c - j)) c ns a (row 27) (row 25) ((I 11 3 &&& k_kn (I 14) (nI b) ns) &&& (I 39 5 ^^^ (-1))))) dX3_bestSeventh_32 (by decide) (fun c_32 => ?_) (fun c_32 => ?_)
        · refine ev_iincN (a := b) (b := b + 1) (L' := [some (.ref 18), some (.ref 39), some (.ref p), some (.int m), some (.int l), some (.int (nI (b + 1))), some (.int (m_hn (k_FB sy (m_RM sp str tl n c rs rv row a) (fun j => k_bn (m_RM sp str tl n c rs rv row a) c (c - j)) c ns a (row 27) (row 25) ((I 11 3 &&& k_kn (I 14) (nI b) ns) &&& (I 39 5 ^^^ (-1))))))]) dX3_bestSeventh_49 rfl (nI_1 _) rfl ?_
          refine ev_goto (t := 15) dX3_bestSeventh_52 (by decide) ?_
          exact ih _ _ _ _ _ (by omega) (by omega) (by simp only [k_wh, ← ht]; rw [if_pos c_32]) hs3 ((g3 3 (by decide)).trans h3) (fun j p q => by rw [g3 19 (by decide)]; exact h19 j p q) (fun j p q => by rw [g3 20 (by decide)]; exact h20 j p q)
        · refine ev_st dX3_bestSeventh_35 rfl rfl ?_
          refine ev_st dX3_bestSeventh_37 rfl rfl ?_
          refine ev_ic_ge (t := 49) (x := m_hn (k_FB sy (m_RM sp str tl n c rs rv row a) (fun j => k_bn (m_RM sp str tl n c rs rv row a) c (c - j)) c ns a (row 27) (row 25) ((I 11 3 &&& k_kn (I 14) (nI b) ns) &&& (I 39 5 ^^^ (-1))))) (y := l) dX3_bestSeventh_39 (by decide) (fun c_39 => ?_) (fun c_39 => ?_)
          · refine ev_iincN (a := b) (b := b + 1) (L' := [some (.ref 18), some (.ref 39), some (.ref p), some (.int m), some (.int l), some (.int (nI (b + 1))), some (.int (m_hn (k_FB sy (m_RM sp str tl n c rs rv row a) (fun j => k_bn (m_RM sp str tl n c rs rv row a) c (c - j)) c ns a (row 27) (row 25) ((I 11 3 &&& k_kn (I 14) (nI b) ns) &&& (I 39 5 ^^^ (-1))))))]) dX3_bestSeventh_49 rfl (nI_1 _) rfl ?_
            refine ev_goto (t := 15) dX3_bestSeventh_52 (by decide) ?_
            exact ih _ _ _ _ _ (by omega) (by omega) (by simp only [k_wh, ← ht]; rw [if_neg c_32, if_neg c_39]) hs3 ((g3 3 (by decide)).trans h3) (fun j p q => by rw [g3 19 (by decide)]; exact h19 j p q) (fun j p q => by rw [g3 20 (by decide)]; exact h20 j p q)
          · refine ev_st dX3_bestSeventh_42 rfl rfl ?_
            refine ev_st (L' := [some (.ref 18), some (.ref 39), some (.ref p), some (.int (nI b)), some (.int l), some (.int (nI b)), some (.int (m_hn (k_FB sy (m_RM sp str tl n c rs rv row a) (fun j => k_bn (m_RM sp str tl n c rs rv row a) c (c - j)) c ns a (row 27) (row 25) ((I 11 3 &&& k_kn (I 14) (nI b) ns) &&& (I 39 5 ^^^ (-1))))))]) dX3_bestSeventh_44 rfl rfl ?_
            refine ev_st dX3_bestSeventh_45 rfl rfl ?_
            refine ev_st (L' := [some (.ref 18), some (.ref 39), some (.ref p), some (.int (nI b)), some (.int (m_hn (k_FB sy (m_RM sp str tl n c rs rv row a) (fun j => k_bn (m_RM sp str tl n c rs rv row a) c (c - j)) c ns a (row 27) (row 25) ((I 11 3 &&& k_kn (I 14) (nI b) ns) &&& (I 39 5 ^^^ (-1)))))), some (.int (nI b)), some (.int (m_hn (k_FB sy (m_RM sp str tl n c rs rv row a) (fun j => k_bn (m_RM sp str tl n c rs rv row a) c (c - j)) c ns a (row 27) (row 25) ((I 11 3 &&& k_kn (I 14) (nI b) ns) &&& (I 39 5 ^^^ (-1))))))]) dX3_bestSeventh_47 rfl rfl ?_
            refine ev_iincN (a := b) (b := b + 1) (L' := [some (.ref 18), some (.ref 39), some (.ref p), some (.int (nI b)), some (.int (m_hn (k_FB sy (m_RM sp str tl n c rs rv row a) (fun j => k_bn (m_RM sp str tl n c rs rv row a) c (c - j)) c ns a (row 27) (row 25) ((I 11 3 &&& k_kn (I 14) (nI b) ns) &&& (I 39 5 ^^^ (-1)))))), some (.int (nI (b + 1))), some (.int (m_hn (k_FB sy (m_RM sp str tl n c rs rv row a) (fun j => k_bn (m_RM sp str tl n c rs rv row a) c (c - j)) c ns a (row 27) (row 25) ((I 11 3 &&& k_kn (I 14) (nI b) ns) &&& (I 39 5 ^^^ (-1))))))]) dX3_bestSeventh_49 rfl (nI_1 _) rfl ?_
            refine ev_goto (t := 15) dX3_bestSeventh_52 (by decide) ?_
            exact ih _ _ _ _ _ (by omega) (by omega) (by simp only [k_wh, ← ht]; rw [if_neg c_32, if_pos c_39]) hs3 ((g3 3 (by decide)).trans h3) (fun j p q => by rw [g3 19 (by decide)]; exact h19 j p q) (fun j p q => by rw [g3 20 (by decide)]; exact h20 j p q)
  show Ev lyC (d + 8) hX3_bestSeventh 0 [some (.ref 18), some (.ref 39), some (.ref p), none, none, none, none] [] (I, J, R) _
  refine ev_st dX3_bestSeventh_0 rfl rfl ?_
  refine ev_st dX3_bestSeventh_1 rfl rfl ?_
  refine ev_st dX3_bestSeventh_2 rfl rfl ?_
  refine ev_call dX3_bestSeventh_3 rfl rfl mr_3_78 rfl rfl rfl (Cal.mono (by omega) (k_findBorne hK hst hz hr hw)) ?_
  rintro _ _ ⟨rfl, I2, rfl, hs2, h3, h19, h20⟩
  show Ev lyC (d + 8) hX3_bestSeventh 6 [some (.ref 18), some (.ref 39), some (.ref p), none, none, none, none] [] (I2, J, R) _
  refine ev_bipush (v := -2) dX3_bestSeventh_6 (by decide) ?_
  refine ev_st (L' := [some (.ref 18), some (.ref 39), some (.ref p), some (.int ((-2))), none, none, none]) dX3_bestSeventh_8 rfl rfl ?_
  refine ev_iconst (v := 4) dX3_bestSeventh_9 (by decide) ?_
  refine ev_st (L' := [some (.ref 18), some (.ref 39), some (.ref p), some (.int ((-2))), some (.int 4), none, none]) dX3_bestSeventh_10 rfl rfl ?_
  refine ev_iconst (v := 0) dX3_bestSeventh_12 (by decide) ?_
  refine ev_st (L' := [some (.ref 18), some (.ref 39), some (.ref p), some (.int ((-2))), some (.int 4), some (.int 0), none]) dX3_bestSeventh_13 rfl rfl ?_
  exact loop 5 0 (-2) 4 _ I2 (by omega) (by omega) rfl hs2 h3 h19 h20
