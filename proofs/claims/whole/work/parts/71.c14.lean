/-! the class: the survey of worlds, what is sure, what to ask; who must be disbelieved -/
theorem sV_no {P : Nat → Bool} {ns b : Nat} {I : Nat → Nat → Int32} (hP : P b = false) (hv : sV P ns b I) : sV P ns (b + 1) I := by
  obtain ⟨h1, h2, h3, h4, h5⟩ := hv
  have e : ¬ P b = true := by rw [hP]; decide
  exact ⟨by rw [wN, if_neg e]; exact h1, by rw [wL, if_neg e]; exact h2, by rw [wA, if_neg e]; exact h3, by rw [wE, if_neg e]; exact h4, fun s hs => by rw [wT, if_neg e]; exact h5 s hs⟩
set_option maxHeartbeats 1000000 in
theorem k_survey2 {I : Nat → Nat → Int32} {J : Nat → Nat → Int64} {R : Nat → Nat → Value} {d n c ns no : Nat} {sp str tl sy : Nat → Int32} (hst : ST I sp str tl sy n c ns) (hno : I 23 4 = nI no) (hno8 : no ≤ 8) : ∀ (k b : Nat) (I2 : Nat → Nat → Int32), b ≤ 2 ^ ns → 2 ^ ns - b < k → fC I I2 → I2 3 = I 3 → sV (fun w => m_iw sy (I 24) (I 25) ns no (nI w)) ns b I2 → Ev lyC (d + 3) hX1_surveyWorlds 48 [some (.ref 23), some (.int (nI b))] [] (I2, J, R) (fun r M' => r = none ∧ ∃ I3, M' = (I3, J, R) ∧ fC I I3 ∧ I3 3 = I 3 ∧ sV (fun w => m_iw sy (I 24) (I 25) ns no (nI w)) ns (2 ^ ns) I3) := by
  have hns := hst.2.2.2.2.2.1
  have hns8 := hst.2.2.2.2.2.2.1
  have hp2 := p256 hns8
  obtain ⟨nw, hw⟩ : ∃ nw, nw = 2 ^ ns := ⟨_, rfl⟩
  rw [← hw] at hp2 ⊢
  intro k
  induction k with
  | zero => intro b I2 h1 h2; omega
  | succ k ih =>
    intro b I2 hb hk hs2 h3 hv
    refine ev_st dX1_surveyWorlds_48 rfl rfl ?_
    refine ev_iconst (v := 1) dX1_surveyWorlds_49 (by decide) ?_
    refine ev_st dX1_surveyWorlds_50 rfl rfl ?_
    refine ev_getC dX1_surveyWorlds_51 fr_1_30 rfl rfl ?_
    refine ev_getI (v := nI ns) dX1_surveyWorlds_54 fr_1_54 rfl rfl ((congrFun (hs2.r 11 rfl) 4).trans hns) ?_
    refine ev_ishlN (c := nw) dX1_surveyWorlds_57 (hw ▸ sh1 ns hns8) ?_
    refine ev_ic_geN (t := 80) (a := b) (b := nw) dX1_surveyWorlds_58 (by decide) rfl rfl (by omega) (by omega) (fun c_58 => ?_) (fun c_58 => ?_)
    · exact ev_vret dX1_surveyWorlds_80 rfl (⟨rfl, _, rfl, hs2, h3, by rw [show b = nw by omega] at hv; exact hv⟩)
    · refine ev_st dX1_surveyWorlds_61 rfl rfl ?_
      refine ev_st dX1_surveyWorlds_62 rfl rfl ?_
      refine ev_call dX1_surveyWorlds_63 rfl rfl mr_1_99 rfl rfl rfl (t_fits hst hno hno8 hs2 (nI b)) ?_
      rintro _ _ ⟨rfl, rfl⟩
      show Ev lyC (d + 3) hX1_surveyWorlds 66 [some (.ref 23), some (.int (nI b))] [.int (b2i (m_iw sy (I 24) (I 25) ns no (nI b)))] (I2, J, R) _
      refine ev_if_eq (t := 74) (x := b2i (m_iw sy (I 24) (I 25) ns no (nI b))) dX1_surveyWorlds_66 (by decide) (fun c_66 => ?_) (fun c_66 => ?_)
      · refine ev_iincN (a := b) (b := b + 1) (L' := [some (.ref 23), some (.int (nI (b + 1)))]) dX1_surveyWorlds_74 rfl (nI_1 _) rfl ?_
        refine ev_goto (t := 48) dX1_surveyWorlds_77 (by decide) ?_
        exact ih _ _ (by omega) (by omega) hs2 h3 (sV_no (b2i0.mp c_66) hv)
      · refine ev_st dX1_surveyWorlds_69 rfl rfl ?_
        refine ev_st dX1_surveyWorlds_70 rfl rfl ?_
        refine ev_call dX1_surveyWorlds_71 rfl rfl mr_1_103 rfl rfl rfl (t_note (P := (fun w => m_iw sy (I 24) (I 25) ns no (nI w))) hst hs2 (by omega) (b2i_ne c_66) hv) ?_
        rintro _ _ ⟨rfl, I3, rfl, hs3, e3, hv3⟩
        show Ev lyC (d + 3) hX1_surveyWorlds 74 [some (.ref 23), some (.int (nI b))] [] (I3, J, R) _
        refine ev_iincN (a := b) (b := b + 1) (L' := [some (.ref 23), some (.int (nI (b + 1)))]) dX1_surveyWorlds_74 rfl (nI_1 _) rfl ?_
        refine ev_goto (t := 48) dX1_surveyWorlds_77 (by decide) ?_
        exact ih _ _ (by omega) (by omega) hs3 (e3.trans h3) hv3
set_option maxHeartbeats 1000000 in
theorem k_survey {I : Nat → Nat → Int32} {J : Nat → Nat → Int64} {R : Nat → Nat → Value} {d n c ns no : Nat} {sp str tl sy : Nat → Int32} (hst : ST I sp str tl sy n c ns) (hno : I 23 4 = nI no) (hno8 : no ≤ 8) : Cal lyC (d + 3) hX1_surveyWorlds 2 [.ref 23] (I, J, R) (fun r M' => r = none ∧ ∃ I3, M' = (I3, J, R) ∧ fC I I3 ∧ I3 3 = I 3 ∧ sV (fun w => m_iw sy (I 24) (I 25) ns no (nI w)) ns (2 ^ ns) I3) := by
  have hns := hst.2.2.2.2.2.1
  have hns8 := hst.2.2.2.2.2.2.1
  have loop : ∀ (k b : Nat) (I2 : Nat → Nat → Int32), b ≤ ns → ns - b < k → fC I I2 → I2 3 = I 3 → I2 23 9 = 0 → I2 23 10 = -1 → I2 23 11 = -1 → I2 23 12 = 0 → (∀ s, s < b → I2 29 s = 0) → Ev lyC (d + 3) hX1_surveyWorlds 22 [some (.ref 23), some (.int (nI b))] [] (I2, J, R) (fun r M' => r = none ∧ ∃ I3, M' = (I3, J, R) ∧ fC I I3 ∧ I3 3 = I 3 ∧ sV (fun w => m_iw sy (I 24) (I 25) ns no (nI w)) ns (2 ^ ns) I3) := by
    intro k
    induction k with
    | zero => intro b   I2   h1 h2; omega
    | succ k ih =>
      intro b   I2   hb hk  hs2 h3 h9 h10 h11 h12 h29
      refine ev_st dX1_surveyWorlds_22 rfl rfl ?_
      refine ev_st dX1_surveyWorlds_23 rfl rfl ?_
      refine ev_getC dX1_surveyWorlds_24 fr_1_30 rfl rfl ?_
      refine ev_getI (v := nI ns) dX1_surveyWorlds_27 fr_1_54 rfl rfl ((congrFun (hs2.r 11 rfl) 4).trans hns) ?_
      refine ev_ic_geN (t := 46) (a := b) (b := ns) dX1_surveyWorlds_30 (by decide) rfl rfl (by omega) (by omega) (fun c_30 => ?_) (fun c_30 => ?_)
      · refine ev_iconst (v := 0) dX1_surveyWorlds_46 (by decide) ?_
        refine ev_st (L' := [some (.ref 23), some (.int 0)]) dX1_surveyWorlds_47 rfl rfl ?_
        exact k_survey2 hst hno hno8 (2 ^ ns + 1) 0 I2 (Nat.zero_le _) (Nat.lt_succ_of_le (Nat.sub_le _ _)) hs2 h3 ⟨h9, h10, h11, h12, fun s q => h29 s (by omega)⟩
      · refine ev_st dX1_surveyWorlds_33 rfl rfl ?_
        refine ev_getC dX1_surveyWorlds_34 fr_1_27 rfl rfl ?_
        refine ev_st dX1_surveyWorlds_37 rfl rfl ?_
        refine ev_iconst (v := 0) dX1_surveyWorlds_38 (by decide) ?_
        refine ev_iast (j := b) dX1_surveyWorlds_39 rfl rfl (by omega) (by decide) ?_
        refine ev_iincN (a := b) (b := b + 1) (L' := [some (.ref 23), some (.int (nI (b + 1)))]) dX1_surveyWorlds_40 rfl (nI_1 _) rfl ?_
        refine ev_goto (t := 22) dX1_surveyWorlds_43 (by decide) ?_
        exact ih _ _ (by omega) (by omega) (hs2.w (p := 29) (k := b) rfl _) (by rw [ti_wr_n (by decide)]; exact h3) h9 h10 h11 h12 (fun s q => by by_cases e : s = b; (rw [e, ti_wr_at]); (rw [wr_ne e]; exact h29 s (by omega)))
  show Ev lyC (d + 3) hX1_surveyWorlds 0 [some (.ref 23), none] [] (I, J, R) _
  refine ev_st dX1_surveyWorlds_0 rfl rfl ?_
  refine ev_iconst (v := 0) dX1_surveyWorlds_1 (by decide) ?_
  refine ev_putI dX1_surveyWorlds_2 fr_1_84 rfl rfl ?_
  refine ev_st dX1_surveyWorlds_5 rfl rfl ?_
  refine ev_iconst (v := -1) dX1_surveyWorlds_6 (by decide) ?_
  refine ev_putI dX1_surveyWorlds_7 fr_1_81 rfl rfl ?_
  refine ev_st dX1_surveyWorlds_10 rfl rfl ?_
  refine ev_iconst (v := -1) dX1_surveyWorlds_11 (by decide) ?_
  refine ev_putI dX1_surveyWorlds_12 fr_1_90 rfl rfl ?_
  refine ev_st dX1_surveyWorlds_15 rfl rfl ?_
  refine ev_iconst (v := 0) dX1_surveyWorlds_16 (by decide) ?_
  refine ev_putI dX1_surveyWorlds_17 fr_1_87 rfl rfl ?_
  refine ev_iconst (v := 0) dX1_surveyWorlds_20 (by decide) ?_
  refine ev_st (L' := [some (.ref 23), some (.int 0)]) dX1_surveyWorlds_21 rfl rfl ?_
  exact loop (ns + 1) 0   _ (by omega) (by omega)  ((((fC.rf.w (p := 23) (k := 9) rfl _).w (p := 23) (k := 10) rfl _).w (p := 23) (k := 11) rfl _).w (p := 23) (k := 12) rfl _) rfl rfl rfl rfl rfl (fun s q => by omega)
set_option maxHeartbeats 1000000 in
theorem k_countWorlds {I : Nat → Nat → Int32} {J : Nat → Nat → Int64} {R : Nat → Nat → Value} {d n c ns no : Nat} {sp str tl sy : Nat → Int32} (hst : ST I sp str tl sy n c ns) (hno : I 23 4 = nI no) (hno8 : no ≤ 8) : Cal lyC (d + 4) hX1_countWorlds 1 [.ref 23] (I, J, R) (fun r M' => r = some (.int (nI (wN (fun w => m_iw sy (I 24) (I 25) ns no (nI w)) (2 ^ ns)))) ∧ ∃ I3 J3, M' = (I3, J3, R) ∧ fC I I3 ∧ tC [(wL (fun w => m_iw sy (I 24) (I 25) ns no (nI w)) (2 ^ ns)).toInt64] I3 J3) := by
  show Ev lyC (d + 4) hX1_countWorlds 0 [some (.ref 23)] [] (I, J, R) _
  refine ev_st dX1_countWorlds_0 rfl rfl ?_
  refine ev_call dX1_countWorlds_1 rfl rfl mr_1_78 rfl rfl rfl (k_survey hst hno hno8) ?_
  rintro _ _ ⟨rfl, I2, rfl, hs2, h3, hv⟩
  show Ev lyC (d + 4) hX1_countWorlds 4 [some (.ref 23)] [] (I2, J, R) _
  refine ev_st dX1_countWorlds_4 rfl rfl ?_
  refine ev_getC dX1_countWorlds_5 fr_1_34 rfl rfl ?_
  refine ev_st dX1_countWorlds_8 rfl rfl ?_
  refine ev_getI (v := wL (fun w => m_iw sy (I 24) (I 25) ns no (nI w)) (2 ^ ns)) dX1_countWorlds_9 fr_1_81 rfl rfl hv.2.1 ?_
  refine ev_st dX1_countWorlds_12 rfl rfl ?_
  refine ev_call dX1_countWorlds_13 rfl rfl mr_1_48 rfl rfl rfl (k_tell1 ((wL (fun w => m_iw sy (I 24) (I 25) ns no (nI w)) (2 ^ ns)).toInt64)) ?_
  rintro _ _ ⟨rfl, rfl⟩
  show Ev lyC (d + 4) hX1_countWorlds 16 [some (.ref 23)] [] (ti_wr I2 3 1 (nI 1), ti_wl J 4 0 ((wL (fun w => m_iw sy (I 24) (I 25) ns no (nI w)) (2 ^ ns)).toInt64), R) _
  refine ev_st dX1_countWorlds_16 rfl rfl ?_
  refine ev_getI (v := nI (wN (fun w => m_iw sy (I 24) (I 25) ns no (nI w)) (2 ^ ns))) dX1_countWorlds_17 fr_1_84 rfl rfl hv.1 ?_
  exact ev_iret dX1_countWorlds_20 rfl (⟨rfl, _, _, rfl, (hs2.w (p := 3) (k := 1) rfl _), tC1 rfl rfl⟩)
set_option maxHeartbeats 1000000 in
theorem k_trueInAll {I : Nat → Nat → Int32} {J : Nat → Nat → Int64} {R : Nat → Nat → Value} {d n c ns no : Nat} {sp str tl sy : Nat → Int32} (hst : ST I sp str tl sy n c ns) (hno : I 23 4 = nI no) (hno8 : no ≤ 8) : Cal lyC (d + 4) hX1_trueInAll 1 [.ref 23] (I, J, R) (fun r M' => ∃ I3 J3, M' = (I3, J3, R) ∧ fC I I3 ∧ if wN (fun w => m_iw sy (I 24) (I 25) ns no (nI w)) (2 ^ ns) = 0 then r = some (.int 0) ∧ tC [0] I3 J3 else r = some (.int (wA (fun w => m_iw sy (I 24) (I 25) ns no (nI w)) (2 ^ ns))) ∧ tC [((((1 : Int32) <<< (nI ns &&& 31)) - 1) &&& (wE (fun w => m_iw sy (I 24) (I 25) ns no (nI w)) (2 ^ ns) ^^^ (-1))).toInt64] I3 J3) := by
  have hns := hst.2.2.2.2.2.1
  have hns8 := hst.2.2.2.2.2.2.1
  have hwn := Nat.le_trans (wN_le (P := (fun w => m_iw sy (I 24) (I 25) ns no (nI w))) (2 ^ ns)) (p256 hns8)
  show Ev lyC (d + 4) hX1_trueInAll 0 [some (.ref 23)] [] (I, J, R) _
  refine ev_st dX1_trueInAll_0 rfl rfl ?_
  refine ev_call dX1_trueInAll_1 rfl rfl mr_1_78 rfl rfl rfl (k_survey hst hno hno8) ?_
  rintro _ _ ⟨rfl, I2, rfl, hs2, h3, hv⟩
  show Ev lyC (d + 4) hX1_trueInAll 4 [some (.ref 23)] [] (I2, J, R) _
  refine ev_st dX1_trueInAll_4 rfl rfl ?_
  refine ev_getI (v := nI (wN (fun w => m_iw sy (I 24) (I 25) ns no (nI w)) (2 ^ ns))) dX1_trueInAll_5 fr_1_84 rfl rfl hv.1 ?_
  refine ev_if_neN (t := 21) (a := wN (fun w => m_iw sy (I 24) (I 25) ns no (nI w)) (2 ^ ns)) dX1_trueInAll_8 (by decide) rfl (by omega) (fun c_8 => ?_) (fun c_8 => ?_)
  · refine ev_st dX1_trueInAll_21 rfl rfl ?_
    refine ev_getC dX1_trueInAll_22 fr_1_34 rfl rfl ?_
    refine ev_iconst (v := 1) dX1_trueInAll_25 (by decide) ?_
    refine ev_st dX1_trueInAll_26 rfl rfl ?_
    refine ev_getC dX1_trueInAll_27 fr_1_30 rfl rfl ?_
    refine ev_getI (v := nI ns) dX1_trueInAll_30 fr_1_54 rfl rfl ((congrFun (hs2.r 11 rfl) 4).trans hns) ?_
    refine ev_st dX1_trueInAll_33 rfl rfl ?_
    refine ev_iconst (v := 1) dX1_trueInAll_34 (by decide) ?_
    refine ev_st dX1_trueInAll_35 rfl rfl ?_
    refine ev_st dX1_trueInAll_36 rfl rfl ?_
    refine ev_getI (v := wE (fun w => m_iw sy (I 24) (I 25) ns no (nI w)) (2 ^ ns)) dX1_trueInAll_37 fr_1_87 rfl rfl hv.2.2.2.1 ?_
    refine ev_iconst (v := -1) dX1_trueInAll_40 (by decide) ?_
    refine ev_st dX1_trueInAll_41 rfl rfl ?_
    refine ev_st dX1_trueInAll_42 rfl rfl ?_
    refine ev_st dX1_trueInAll_43 rfl rfl ?_
    refine ev_call dX1_trueInAll_44 rfl rfl mr_1_48 rfl rfl rfl (k_tell1 (((((1 : Int32) <<< ((nI ns) &&& 31)) - 1) &&& ((wE (fun w => m_iw sy (I 24) (I 25) ns no (nI w)) (2 ^ ns)) ^^^ ((-1)))).toInt64)) ?_
    rintro _ _ ⟨rfl, rfl⟩
    show Ev lyC (d + 4) hX1_trueInAll 47 [some (.ref 23)] [] (ti_wr I2 3 1 (nI 1), ti_wl J 4 0 (((((1 : Int32) <<< ((nI ns) &&& 31)) - 1) &&& ((wE (fun w => m_iw sy (I 24) (I 25) ns no (nI w)) (2 ^ ns)) ^^^ ((-1)))).toInt64), R) _
    refine ev_st dX1_trueInAll_47 rfl rfl ?_
    refine ev_getI (v := wA (fun w => m_iw sy (I 24) (I 25) ns no (nI w)) (2 ^ ns)) dX1_trueInAll_48 fr_1_90 rfl rfl hv.2.2.1 ?_
    exact ev_iret dX1_trueInAll_51 rfl (⟨_, _, rfl, (hs2.w (p := 3) (k := 1) rfl _), by rw [if_neg c_8]; exact ⟨rfl, tC1 rfl rfl⟩⟩)
  · refine ev_st dX1_trueInAll_11 rfl rfl ?_
    refine ev_getC dX1_trueInAll_12 fr_1_34 rfl rfl ?_
    refine ev_lconst (v := 0) dX1_trueInAll_15 (by decide) ?_
    refine ev_call dX1_trueInAll_16 rfl rfl mr_1_48 rfl rfl rfl (k_tell1 0) ?_
    rintro _ _ ⟨rfl, rfl⟩
    show Ev lyC (d + 4) hX1_trueInAll 19 [some (.ref 23)] [] (ti_wr I2 3 1 (nI 1), ti_wl J 4 0 0, R) _
    refine ev_iconst (v := 0) dX1_trueInAll_19 (by decide) ?_
    exact ev_iret dX1_trueInAll_20 rfl (⟨_, _, rfl, (hs2.w (p := 3) (k := 1) rfl _), by rw [if_pos c_8]; exact ⟨rfl, tC1 rfl rfl⟩⟩)
def k_bq (f : Nat → Nat) (z : Nat) : Nat → Nat × Nat
  | 0 => (0, z + 1)
  | s + 1 => if f s < (k_bq f z s).2 then (s, f s) else k_bq f z s
theorem max_nI {a b : Nat} (ha : a < 2 ^ 31) (hb : b < 2 ^ 31) : (if nI a < nI b then nI b else nI a) = nI (max a b) := by
  by_cases h : a < b
  · rw [if_pos ((nI_ltI ha hb).mpr h), Nat.max_eq_right (by omega)]
  · rw [if_neg (fun q => h ((nI_ltI ha hb).mp q)), Nat.max_eq_left (by omega)]
theorem bq_le {f : Nat → Nat} {z m : Nat} (hf : ∀ s, f s ≤ m) (hz : z + 1 ≤ m) : ∀ s, (k_bq f z s).2 ≤ m
  | 0 => hz
  | s + 1 => by
    have := bq_le hf hz s
    simp only [k_bq]
    split
    · exact hf s
    · exact this
set_option maxHeartbeats 1000000 in
theorem k_bestQuestion {I : Nat → Nat → Int32} {J : Nat → Nat → Int64} {R : Nat → Nat → Value} {d n c ns no : Nat} {sp str tl sy : Nat → Int32} (hst : ST I sp str tl sy n c ns) (hno : I 23 4 = nI no) (hno8 : no ≤ 8) : Cal lyC (d + 4) hX1_bestQuestion 5 [.ref 23] (I, J, R) (fun r M' => ∃ I3 J3, M' = (I3, J3, R) ∧ fC I I3 ∧ if wN (fun w => m_iw sy (I 24) (I 25) ns no (nI w)) (2 ^ ns) = 0 ∨ ns = 0 then r = some (.int (-2)) ∧ uC I J I3 J3 else r = some (.int (nI (k_bq (fun s => max (wT (fun w => m_iw sy (I 24) (I 25) ns no (nI w)) s (2 ^ ns)) (wN (fun w => m_iw sy (I 24) (I 25) ns no (nI w)) (2 ^ ns) - wT (fun w => m_iw sy (I 24) (I 25) ns no (nI w)) s (2 ^ ns))) (wN (fun w => m_iw sy (I 24) (I 25) ns no (nI w)) (2 ^ ns)) ns).1)) ∧ tC [(nI (k_bq (fun s => max (wT (fun w => m_iw sy (I 24) (I 25) ns no (nI w)) s (2 ^ ns)) (wN (fun w => m_iw sy (I 24) (I 25) ns no (nI w)) (2 ^ ns) - wT (fun w => m_iw sy (I 24) (I 25) ns no (nI w)) s (2 ^ ns))) (wN (fun w => m_iw sy (I 24) (I 25) ns no (nI w)) (2 ^ ns)) ns).2).toInt64] I3 J3) := by
  have hns := hst.2.2.2.2.2.1
  have hns8 := hst.2.2.2.2.2.2.1
  have hwn := Nat.le_trans (wN_le (P := (fun w => m_iw sy (I 24) (I 25) ns no (nI w))) (2 ^ ns)) (p256 hns8)
  show Ev lyC (d + 4) hX1_bestQuestion 0 [some (.ref 23), none, none, none, none] [] (I, J, R) _
  refine ev_st dX1_bestQuestion_0 rfl rfl ?_
  refine ev_call dX1_bestQuestion_1 rfl rfl mr_1_78 rfl rfl rfl (k_survey hst hno hno8) ?_
  rintro _ _ ⟨rfl, I2, rfl, hs2, h3, hv⟩
  show Ev lyC (d + 4) hX1_bestQuestion 4 [some (.ref 23), none, none, none, none] [] (I2, J, R) _
  refine ev_st dX1_bestQuestion_4 rfl rfl ?_
  refine ev_getI (v := nI (wN (fun w => m_iw sy (I 24) (I 25) ns no (nI w)) (2 ^ ns))) dX1_bestQuestion_5 fr_1_84 rfl rfl hv.1 ?_
  refine ev_if_eqN (t := 21) (a := wN (fun w => m_iw sy (I 24) (I 25) ns no (nI w)) (2 ^ ns)) dX1_bestQuestion_8 (by decide) rfl (by omega) (fun c_8 => ?_) (fun c_8 => ?_)
  · refine ev_bipush (v := -2) dX1_bestQuestion_21 (by decide) ?_
    exact ev_iret dX1_bestQuestion_23 rfl (⟨_, _, rfl, hs2, by rw [if_pos (Or.inl c_8)]; exact ⟨rfl, h3, rfl⟩⟩)
  · refine ev_st dX1_bestQuestion_11 rfl rfl ?_
    refine ev_getC dX1_bestQuestion_12 fr_1_30 rfl rfl ?_
    refine ev_getI (v := nI ns) dX1_bestQuestion_15 fr_1_54 rfl rfl ((congrFun (hs2.r 11 rfl) 4).trans hns) ?_
    refine ev_if_neN (t := 24) (a := ns) dX1_bestQuestion_18 (by decide) rfl (by omega) (fun c_18 => ?_) (fun c_18 => ?_)
    · refine ev_iconst (v := 0) dX1_bestQuestion_24 (by decide) ?_
      refine ev_st (L' := [some (.ref 23), some (.int 0), none, none, none]) dX1_bestQuestion_25 rfl rfl ?_
      refine ev_st dX1_bestQuestion_26 rfl rfl ?_
      refine ev_getI (v := nI (wN (fun w => m_iw sy (I 24) (I 25) ns no (nI w)) (2 ^ ns))) dX1_bestQuestion_27 fr_1_84 rfl rfl hv.1 ?_
      refine ev_iconst (v := 1) dX1_bestQuestion_30 (by decide) ?_
      refine ev_iaddN (a := wN (fun w => m_iw sy (I 24) (I 25) ns no (nI w)) (2 ^ ns)) (b := 1) (c := wN (fun w => m_iw sy (I 24) (I 25) ns no (nI w)) (2 ^ ns) + 1) dX1_bestQuestion_31 rfl rfl rfl ?_
      refine ev_st (L' := [some (.ref 23), some (.int 0), some (.int (nI (wN (fun w => m_iw sy (I 24) (I 25) ns no (nI w)) (2 ^ ns) + 1))), none, none]) dX1_bestQuestion_32 rfl rfl ?_
      refine ev_iconst (v := 0) dX1_bestQuestion_33 (by decide) ?_
      refine ev_st (L' := [some (.ref 23), some (.int 0), some (.int (nI (wN (fun w => m_iw sy (I 24) (I 25) ns no (nI w)) (2 ^ ns) + 1))), some (.int 0), none]) dX1_bestQuestion_34 rfl rfl ?_
      have hne : ¬ (wN (fun w => m_iw sy (I 24) (I 25) ns no (nI w)) (2 ^ ns) = 0 ∨ ns = 0) := fun q => q.elim (by omega) (by omega)
      have loop : ∀ (k b m l : Nat) (z : Option Value), b ≤ ns → ns - b < k → (m, l) = k_bq (fun s => max (wT (fun w => m_iw sy (I 24) (I 25) ns no (nI w)) s (2 ^ ns)) (wN (fun w => m_iw sy (I 24) (I 25) ns no (nI w)) (2 ^ ns) - wT (fun w => m_iw sy (I 24) (I 25) ns no (nI w)) s (2 ^ ns))) (wN (fun w => m_iw sy (I 24) (I 25) ns no (nI w)) (2 ^ ns)) b → Ev lyC (d + 4) hX1_bestQuestion 35 [some (.ref 23), some (.int (nI m)), some (.int (nI l)), some (.int (nI b)), z] [] (I2, J, R) (fun r M' => ∃ I3 J3, M' = (I3, J3, R) ∧ fC I I3 ∧ if wN (fun w => m_iw sy (I 24) (I 25) ns no (nI w)) (2 ^ ns) = 0 ∨ ns = 0 then r = some (.int (-2)) ∧ uC I J I3 J3 else r = some (.int (nI (k_bq (fun s => max (wT (fun w => m_iw sy (I 24) (I 25) ns no (nI w)) s (2 ^ ns)) (wN (fun w => m_iw sy (I 24) (I 25) ns no (nI w)) (2 ^ ns) - wT (fun w => m_iw sy (I 24) (I 25) ns no (nI w)) s (2 ^ ns))) (wN (fun w => m_iw sy (I 24) (I 25) ns no (nI w)) (2 ^ ns)) ns).1)) ∧ tC [(nI (k_bq (fun s => max (wT (fun w => m_iw sy (I 24) (I 25) ns no (nI w)) s (2 ^ ns)) (wN (fun w => m_iw sy (I 24) (I 25) ns no (nI w)) (2 ^ ns) - wT (fun w => m_iw sy (I 24) (I 25) ns no (nI w)) s (2 ^ ns))) (wN (fun w => m_iw sy (I 24) (I 25) ns no (nI w)) (2 ^ ns)) ns).2).toInt64] I3 J3) := by
        intro k
        induction k with
        | zero => intro b m l z h1 h2; omega
        | succ k ih =>
            intro b m l z hb hk ht
            have hl : l ≤ 257 := by have e := bq_le (f := (fun s => max (wT (fun w => m_iw sy (I 24) (I 25) ns no (nI w)) s (2 ^ ns)) (wN (fun w => m_iw sy (I 24) (I 25) ns no (nI w)) (2 ^ ns) - wT (fun w => m_iw sy (I 24) (I 25) ns no (nI w)) s (2 ^ ns)))) (z := wN (fun w => m_iw sy (I 24) (I 25) ns no (nI w)) (2 ^ ns)) (m := 257) (fun s => by have := wT_le (P := (fun w => m_iw sy (I 24) (I 25) ns no (nI w))) (s := s) (2 ^ ns); omega) (by omega) b; rw [← ht] at e; exact e
            have hwb := wT_le (P := (fun w => m_iw sy (I 24) (I 25) ns no (nI w))) (s := b) (2 ^ ns)
            refine ev_st dX1_bestQuestion_35 rfl rfl ?_
            refine ev_st dX1_bestQuestion_36 rfl rfl ?_
            refine ev_getC dX1_bestQuestion_37 fr_1_30 rfl rfl ?_
            refine ev_getI (v := nI ns) dX1_bestQuestion_40 fr_1_54 rfl rfl ((congrFun (hs2.r 11 rfl) 4).trans hns) ?_
            refine ev_ic_geN (t := 85) (a := b) (b := ns) dX1_bestQuestion_43 (by decide) rfl rfl (by omega) (by omega) (fun c_43 => ?_) (fun c_43 => ?_)
            · refine ev_st dX1_bestQuestion_85 rfl rfl ?_
              refine ev_getC dX1_bestQuestion_86 fr_1_34 rfl rfl ?_
              refine ev_st dX1_bestQuestion_89 rfl rfl ?_
              refine ev_st dX1_bestQuestion_90 rfl rfl ?_
              refine ev_call dX1_bestQuestion_91 rfl rfl mr_1_48 rfl rfl rfl (k_tell1 ((nI l).toInt64)) ?_
              rintro _ _ ⟨rfl, rfl⟩
              show Ev lyC (d + 4) hX1_bestQuestion 94 [some (.ref 23), some (.int (nI m)), some (.int (nI l)), some (.int (nI b)), z] [] (ti_wr I2 3 1 (nI 1), ti_wl J 4 0 ((nI l).toInt64), R) _
              refine ev_st dX1_bestQuestion_94 rfl rfl ?_
              exact ev_iret dX1_bestQuestion_95 rfl (⟨_, _, rfl, (hs2.w (p := 3) (k := 1) rfl _), by rw [if_neg hne]; rw [show b = ns by omega] at ht; rw [← ht]; exact ⟨rfl, tC1 rfl rfl⟩⟩)
            · refine ev_st dX1_bestQuestion_46 rfl rfl ?_
              refine ev_getC dX1_bestQuestion_47 fr_1_27 rfl rfl ?_
              refine ev_st dX1_bestQuestion_50 rfl rfl ?_
              refine ev_iald (j := b) (v := nI (wT (fun w => m_iw sy (I 24) (I 25) ns no (nI w)) b (2 ^ ns))) dX1_bestQuestion_51 rfl rfl (by omega) (by decide) (hv.2.2.2.2 b (by omega)) ?_
              refine ev_st dX1_bestQuestion_52 rfl rfl ?_
              refine ev_getI (v := nI (wN (fun w => m_iw sy (I 24) (I 25) ns no (nI w)) (2 ^ ns))) dX1_bestQuestion_53 fr_1_84 rfl rfl hv.1 ?_
              refine ev_st dX1_bestQuestion_56 rfl rfl ?_
              refine ev_getC dX1_bestQuestion_57 fr_1_27 rfl rfl ?_
              refine ev_st dX1_bestQuestion_60 rfl rfl ?_
              refine ev_iald (j := b) (v := nI (wT (fun w => m_iw sy (I 24) (I 25) ns no (nI w)) b (2 ^ ns))) dX1_bestQuestion_61 rfl rfl (by omega) (by decide) (hv.2.2.2.2 b (by omega)) ?_
              refine ev_isubN (a := wN (fun w => m_iw sy (I 24) (I 25) ns no (nI w)) (2 ^ ns)) (b := wT (fun w => m_iw sy (I 24) (I 25) ns no (nI w)) b (2 ^ ns)) (c := wN (fun w => m_iw sy (I 24) (I 25) ns no (nI w)) (2 ^ ns) - (wT (fun w => m_iw sy (I 24) (I 25) ns no (nI w)) b (2 ^ ns))) dX1_bestQuestion_62 rfl rfl (wT_le _) rfl ?_
              refine ev_max (v := nI (max (wT (fun w => m_iw sy (I 24) (I 25) ns no (nI w)) b (2 ^ ns)) (wN (fun w => m_iw sy (I 24) (I 25) ns no (nI w)) (2 ^ ns) - wT (fun w => m_iw sy (I 24) (I 25) ns no (nI w)) b (2 ^ ns)))) dX1_bestQuestion_63 br_1_93 rfl (max_nI (by have := wT_le (P := (fun w => m_iw sy (I 24) (I 25) ns no (nI w))) (s := b) (2 ^ ns); omega) (by omega)) ?_
              refine ev_st (L' := [some (.ref 23), some (.int (nI m)), some (.int (nI l)), some (.int (nI b)), some (.int (nI (max (wT (fun w => m_iw sy (I 24) (I 25) ns no (nI w)) b (2 ^ ns)) (wN (fun w => m_iw sy (I 24) (I 25) ns no (nI w)) (2 ^ ns) - wT (fun w => m_iw sy (I 24) (I 25) ns no (nI w)) b (2 ^ ns)))))]) dX1_bestQuestion_66 rfl rfl ?_
              refine ev_st dX1_bestQuestion_68 rfl rfl ?_
              refine ev_st dX1_bestQuestion_70 rfl rfl ?_
              refine ev_ic_geN (t := 79) (a := max (wT (fun w => m_iw sy (I 24) (I 25) ns no (nI w)) b (2 ^ ns)) (wN (fun w => m_iw sy (I 24) (I 25) ns no (nI w)) (2 ^ ns) - wT (fun w => m_iw sy (I 24) (I 25) ns no (nI w)) b (2 ^ ns))) (b := l) dX1_bestQuestion_71 (by decide) rfl rfl (by omega) (by omega) (fun c_71 => ?_) (fun c_71 => ?_)
              · refine ev_iincN (a := b) (b := b + 1) (L' := [some (.ref 23), some (.int (nI m)), some (.int (nI l)), some (.int (nI (b + 1))), some (.int (nI (max (wT (fun w => m_iw sy (I 24) (I 25) ns no (nI w)) b (2 ^ ns)) (wN (fun w => m_iw sy (I 24) (I 25) ns no (nI w)) (2 ^ ns) - wT (fun w => m_iw sy (I 24) (I 25) ns no (nI w)) b (2 ^ ns)))))]) dX1_bestQuestion_79 rfl (nI_1 _) rfl ?_
                refine ev_goto (t := 35) dX1_bestQuestion_82 (by decide) ?_
                exact ih _ _ _ _ (by omega) (by omega) (by simp only [k_bq, ← ht]; rw [if_neg (Nat.not_lt.mpr c_71)])
              · refine ev_st dX1_bestQuestion_74 rfl rfl ?_
                refine ev_st (L' := [some (.ref 23), some (.int (nI b)), some (.int (nI l)), some (.int (nI b)), some (.int (nI (max (wT (fun w => m_iw sy (I 24) (I 25) ns no (nI w)) b (2 ^ ns)) (wN (fun w => m_iw sy (I 24) (I 25) ns no (nI w)) (2 ^ ns) - wT (fun w => m_iw sy (I 24) (I 25) ns no (nI w)) b (2 ^ ns)))))]) dX1_bestQuestion_75 rfl rfl ?_
                refine ev_st dX1_bestQuestion_76 rfl rfl ?_
                refine ev_st (L' := [some (.ref 23), some (.int (nI b)), some (.int (nI (max (wT (fun w => m_iw sy (I 24) (I 25) ns no (nI w)) b (2 ^ ns)) (wN (fun w => m_iw sy (I 24) (I 25) ns no (nI w)) (2 ^ ns) - wT (fun w => m_iw sy (I 24) (I 25) ns no (nI w)) b (2 ^ ns))))), some (.int (nI b)), some (.int (nI (max (wT (fun w => m_iw sy (I 24) (I 25) ns no (nI w)) b (2 ^ ns)) (wN (fun w => m_iw sy (I 24) (I 25) ns no (nI w)) (2 ^ ns) - wT (fun w => m_iw sy (I 24) (I 25) ns no (nI w)) b (2 ^ ns)))))]) dX1_bestQuestion_78 rfl rfl ?_
                refine ev_iincN (a := b) (b := b + 1) (L' := [some (.ref 23), some (.int (nI b)), some (.int (nI (max (wT (fun w => m_iw sy (I 24) (I 25) ns no (nI w)) b (2 ^ ns)) (wN (fun w => m_iw sy (I 24) (I 25) ns no (nI w)) (2 ^ ns) - wT (fun w => m_iw sy (I 24) (I 25) ns no (nI w)) b (2 ^ ns))))), some (.int (nI (b + 1))), some (.int (nI (max (wT (fun w => m_iw sy (I 24) (I 25) ns no (nI w)) b (2 ^ ns)) (wN (fun w => m_iw sy (I 24) (I 25) ns no (nI w)) (2 ^ ns) - wT (fun w => m_iw sy (I 24) (I 25) ns no (nI w)) b (2 ^ ns)))))]) dX1_bestQuestion_79 rfl (nI_1 _) rfl ?_
                refine ev_goto (t := 35) dX1_bestQuestion_82 (by decide) ?_
                exact ih _ _ _ _ (by omega) (by omega) (by simp only [k_bq, ← ht]; rw [if_pos c_71])
      exact loop (ns + 1) 0 0 (wN (fun w => m_iw sy (I 24) (I 25) ns no (nI w)) (2 ^ ns) + 1) _ (by omega) (by omega) rfl
    · refine ev_bipush (v := -2) dX1_bestQuestion_21 (by decide) ?_
      exact ev_iret dX1_bestQuestion_23 rfl (⟨_, _, rfl, hs2, by rw [if_pos (Or.inr c_18)]; exact ⟨rfl, h3, rfl⟩⟩)
