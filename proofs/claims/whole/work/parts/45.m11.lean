/-! the model: worlds, claims -/
theorem ev_ishlN {lay : List TE} {d pc c : Nat} {h : TH} {L : TL} {st : List Value} {M : TM} {Q : Option Value → TM → Prop} {x y : Int32} (hd : decode h.2.1 pc = .ok (.ishl, 1)) (hx : x <<< (y &&& 31) = nI c) (kk : Ev lay d h (pc + 1) L (.int (nI c) :: st) M Q) : Ev lay d h pc L (.int y :: .int x :: st) M Q := by
  rw [← hx] at kk
  exact ev_st hd rfl rfl kk
theorem p256 {n : Nat} (h : n ≤ 8) : 2 ^ n ≤ 256 := Nat.pow_le_pow_right (by decide) h
/-- fits a world the old walks -/
def m_iw (sy of ob : Nat → Int32) (ns no : Nat) (x : Int32) : Bool := allB (fun k => m_hv sy (of k &&& x) ns - m_hv sy (of k &&& (x ^^^ (-1))) ns == ob k) no
def m_wf (sy of ob : Nat → Int32) (ns no : Nat) (s i : Int32) : Nat → Int32
  | 0 => 0
  | k + 1 => m_wf sy of ob ns no s i k + (if (nI k >>> (s &&& 31)) &&& 1 = i ∧ m_iw sy of ob ns no (nI k) = true then 1 else 0)

set_option maxHeartbeats 1000000 in
theorem c_isWorld {I : Nat → Nat → Int32} {J : Nat → Nat → Int64} {R : Nat → Nat → Value} {d ns no : Nat} (hns : I 0 6 = nI ns) (hns8 : ns ≤ 8) (hno : I 0 33 = nI no) (hno8 : no ≤ 8) (x : Int32) : Cal lyM (d + 2) hX12_isWorld 3 [.ref 0, .int x] (I, J, R) (fun r M' => r = some (.int (b2i (m_iw (I 5) (I 18) (I 19) ns no x))) ∧ M' = (I, J, R)) := by
  have loop : ∀ (k b : Nat), b ≤ no → no - b < k → allB (fun k => m_hv (I 5) (I 18 k &&& x) ns - m_hv (I 5) (I 18 k &&& (x ^^^ (-1))) ns == I 19 k) b = true → Ev lyM (d + 2) hX12_isWorld 2 [some (.ref 0), some (.int x), some (.int (nI b))] [] (I, J, R) (fun r M' => r = some (.int (b2i (m_iw (I 5) (I 18) (I 19) ns no x))) ∧ M' = (I, J, R)) := by
    intro k
    induction k with
    | zero => intro b h1 h2; omega
    | succ k ih =>
      intro b hb hk hm
      refine ev_st dX12_isWorld_2 rfl rfl ?_
      refine ev_st dX12_isWorld_3 rfl rfl ?_
      refine ev_getI (v := nI no) dX12_isWorld_4 fr_12_346 rfl rfl hno ?_
      refine ev_ic_geN (t := 54) (a := b) (b := no) dX12_isWorld_7 (by decide) rfl rfl (by omega) (by omega) (fun c_7 => ?_) (fun c_7 => ?_)
      · refine ev_iconst (v := 1) dX12_isWorld_54 (by decide) ?_
        exact ev_zret dX12_isWorld_55 rfl (by decide) (⟨by rw [show b = no by omega] at hm; simp only [m_iw, hm]; rfl, rfl⟩)
      · refine ev_st dX12_isWorld_10 rfl rfl ?_
        refine ev_st dX12_isWorld_11 rfl rfl ?_
        refine ev_getC dX12_isWorld_12 fr_12_67 rfl rfl ?_
        refine ev_st dX12_isWorld_15 rfl rfl ?_
        refine ev_iald (j := b) (v := I 18 b) dX12_isWorld_16 rfl rfl (by omega) (by decide) rfl ?_
        refine ev_st dX12_isWorld_17 rfl rfl ?_
        refine ev_st dX12_isWorld_18 rfl rfl ?_
        refine ev_call dX12_isWorld_19 rfl rfl mr_12_343 rfl rfl rfl (c_heavyOf (I := I) hns hns8 ((I 18 b) &&& x)) ?_
        rintro _ _ ⟨rfl, rfl⟩
        show Ev lyM (d + 2) hX12_isWorld 22 [some (.ref 0), some (.int x), some (.int (nI b))] [.int (m_hv (I 5) ((I 18 b) &&& x) ns)] (I, J, R) _
        refine ev_st dX12_isWorld_22 rfl rfl ?_
        refine ev_st dX12_isWorld_23 rfl rfl ?_
        refine ev_getC dX12_isWorld_24 fr_12_67 rfl rfl ?_
        refine ev_st dX12_isWorld_27 rfl rfl ?_
        refine ev_iald (j := b) (v := I 18 b) dX12_isWorld_28 rfl rfl (by omega) (by decide) rfl ?_
        refine ev_st dX12_isWorld_29 rfl rfl ?_
        refine ev_iconst (v := -1) dX12_isWorld_30 (by decide) ?_
        refine ev_st dX12_isWorld_31 rfl rfl ?_
        refine ev_st dX12_isWorld_32 rfl rfl ?_
        refine ev_call dX12_isWorld_33 rfl rfl mr_12_343 rfl rfl rfl (c_heavyOf (I := I) hns hns8 ((I 18 b) &&& (x ^^^ ((-1))))) ?_
        rintro _ _ ⟨rfl, rfl⟩
        show Ev lyM (d + 2) hX12_isWorld 36 [some (.ref 0), some (.int x), some (.int (nI b))] [.int (m_hv (I 5) ((I 18 b) &&& (x ^^^ ((-1)))) ns), .int (m_hv (I 5) ((I 18 b) &&& x) ns)] (I, J, R) _
        refine ev_st dX12_isWorld_36 rfl rfl ?_
        refine ev_st dX12_isWorld_37 rfl rfl ?_
        refine ev_getC dX12_isWorld_38 fr_12_70 rfl rfl ?_
        refine ev_st dX12_isWorld_41 rfl rfl ?_
        refine ev_iald (j := b) (v := I 19 b) dX12_isWorld_42 rfl rfl (by omega) (by decide) rfl ?_
        refine ev_ic_eq (t := 48) (x := (m_hv (I 5) ((I 18 b) &&& x) ns) - (m_hv (I 5) ((I 18 b) &&& (x ^^^ ((-1)))) ns)) (y := I 19 b) dX12_isWorld_43 (by decide) (fun c_43 => ?_) (fun c_43 => ?_)
        · refine ev_iincN (a := b) (b := b + 1) (L' := [some (.ref 0), some (.int x), some (.int (nI (b + 1)))]) dX12_isWorld_48 rfl (nI_1 _) rfl ?_
          refine ev_goto (t := 2) dX12_isWorld_51 (by decide) ?_
          exact ih _ (by omega) (by omega) (by simp only [allB]; rw [hm]; simpa using c_43)
        · refine ev_iconst (v := 0) dX12_isWorld_46 (by decide) ?_
          exact ev_zret dX12_isWorld_47 rfl (by decide) (⟨by rw [show m_iw (I 5) (I 18) (I 19) ns no x = false from allB_f (b := b) (by simpa using c_43) no c_7]; rfl, rfl⟩)
  show Ev lyM (d + 2) hX12_isWorld 0 [some (.ref 0), some (.int x), none] [] (I, J, R) _
  refine ev_iconst (v := 0) dX12_isWorld_0 (by decide) ?_
  refine ev_st (L' := [some (.ref 0), some (.int x), some (.int 0)]) dX12_isWorld_1 rfl rfl ?_
  exact loop (no + 1) 0 (by omega) (by omega) rfl
set_option maxHeartbeats 1000000 in
theorem c_worldsIf {I : Nat → Nat → Int32} {J : Nat → Nat → Int64} {R : Nat → Nat → Value} {d ns no : Nat} (hns : I 0 6 = nI ns) (hns8 : ns ≤ 8) (hno : I 0 33 = nI no) (hno8 : no ≤ 8) (s i : Int32) : Cal lyM (d + 3) hX12_worldsIf 5 [.ref 0, .int s, .int i] (I, J, R) (fun r M' => r = some (.int (m_wf (I 5) (I 18) (I 19) ns no s i (2 ^ ns))) ∧ M' = (I, J, R)) := by
  have hp := p256 hns8
  obtain ⟨nw, hw⟩ : ∃ nw, nw = 2 ^ ns := ⟨_, rfl⟩
  rw [← hw] at hp
  have loop : ∀ (k b : Nat) (m : Int32), b ≤ nw → nw - b < k → m = m_wf (I 5) (I 18) (I 19) ns no s i b → Ev lyM (d + 3) hX12_worldsIf 5 [some (.ref 0), some (.int s), some (.int i), some (.int m), some (.int (nI b))] [] (I, J, R) (fun r M' => r = some (.int (m_wf (I 5) (I 18) (I 19) ns no s i (2 ^ ns))) ∧ M' = (I, J, R)) := by
    intro k
    induction k with
    | zero => intro b m  h1 h2; omega
    | succ k ih =>
      intro b m  hb hk hm
      refine ev_st dX12_worldsIf_5 rfl rfl ?_
      refine ev_iconst (v := 1) dX12_worldsIf_7 (by decide) ?_
      refine ev_st dX12_worldsIf_8 rfl rfl ?_
      refine ev_getI (v := nI ns) dX12_worldsIf_9 fr_12_102 rfl rfl hns ?_
      refine ev_ishlN (c := nw) dX12_worldsIf_12 (hw ▸ sh1 ns hns8) ?_
      refine ev_ic_geN (t := 49) (a := b) (b := nw) dX12_worldsIf_13 (by decide) rfl rfl (by omega) (by omega) (fun c_13 => ?_) (fun c_13 => ?_)
      · refine ev_st dX12_worldsIf_49 rfl rfl ?_
        exact ev_iret dX12_worldsIf_50 rfl (by subst hm; rw [show b = 2 ^ ns by omega]; exact ⟨rfl, rfl⟩)
      · refine ev_st dX12_worldsIf_16 rfl rfl ?_
        refine ev_st dX12_worldsIf_17 rfl rfl ?_
        refine ev_st dX12_worldsIf_19 rfl rfl ?_
        refine ev_st dX12_worldsIf_20 rfl rfl ?_
        refine ev_iconst (v := 1) dX12_worldsIf_21 (by decide) ?_
        refine ev_st dX12_worldsIf_22 rfl rfl ?_
        refine ev_st dX12_worldsIf_23 rfl rfl ?_
        refine ev_ic_ne (t := 40) (x := ((nI b) >>> (s &&& 31)) &&& 1) (y := i) dX12_worldsIf_24 (by decide) (fun c_24 => ?_) (fun c_24 => ?_)
        · refine ev_iconst (v := 0) dX12_worldsIf_40 (by decide) ?_
          refine ev_st dX12_worldsIf_41 rfl rfl ?_
          refine ev_st (L' := [some (.ref 0), some (.int s), some (.int i), some (.int (m + 0)), some (.int (nI b))]) dX12_worldsIf_42 rfl rfl ?_
          refine ev_iincN (a := b) (b := b + 1) (L' := [some (.ref 0), some (.int s), some (.int i), some (.int (m + 0)), some (.int (nI (b + 1)))]) dX12_worldsIf_43 rfl (nI_1 _) rfl ?_
          refine ev_goto (t := 5) dX12_worldsIf_46 (by decide) ?_
          exact ih _ _ (by omega) (by omega) (by simp [m_wf, ← hm, c_24])
        · refine ev_st dX12_worldsIf_27 rfl rfl ?_
          refine ev_st dX12_worldsIf_28 rfl rfl ?_
          refine ev_call dX12_worldsIf_30 rfl rfl mr_12_349 rfl rfl rfl (c_isWorld (I := I) hns hns8 hno hno8 (nI b)) ?_
          rintro _ _ ⟨rfl, rfl⟩
          show Ev lyM (d + 3) hX12_worldsIf 33 [some (.ref 0), some (.int s), some (.int i), some (.int m), some (.int (nI b))] [.int (b2i (m_iw (I 5) (I 18) (I 19) ns no (nI b))), .int m] (I, J, R) _
          refine ev_if_eq (t := 40) (x := b2i (m_iw (I 5) (I 18) (I 19) ns no (nI b))) dX12_worldsIf_33 (by decide) (fun c_33 => ?_) (fun c_33 => ?_)
          · refine ev_iconst (v := 0) dX12_worldsIf_40 (by decide) ?_
            refine ev_st dX12_worldsIf_41 rfl rfl ?_
            refine ev_st (L' := [some (.ref 0), some (.int s), some (.int i), some (.int (m + 0)), some (.int (nI b))]) dX12_worldsIf_42 rfl rfl ?_
            refine ev_iincN (a := b) (b := b + 1) (L' := [some (.ref 0), some (.int s), some (.int i), some (.int (m + 0)), some (.int (nI (b + 1)))]) dX12_worldsIf_43 rfl (nI_1 _) rfl ?_
            refine ev_goto (t := 5) dX12_worldsIf_46 (by decide) ?_
            exact ih _ _ (by omega) (by omega) (by rw [b2i0] at c_33; simp [m_wf, ← hm, c_24, c_33])
          · refine ev_iconst (v := 1) dX12_worldsIf_36 (by decide) ?_
            refine ev_goto (t := 41) dX12_worldsIf_37 (by decide) ?_
            refine ev_st dX12_worldsIf_41 rfl rfl ?_
            refine ev_st (L' := [some (.ref 0), some (.int s), some (.int i), some (.int (m + 1)), some (.int (nI b))]) dX12_worldsIf_42 rfl rfl ?_
            refine ev_iincN (a := b) (b := b + 1) (L' := [some (.ref 0), some (.int s), some (.int i), some (.int (m + 1)), some (.int (nI (b + 1)))]) dX12_worldsIf_43 rfl (nI_1 _) rfl ?_
            refine ev_goto (t := 5) dX12_worldsIf_46 (by decide) ?_
            exact ih _ _ (by omega) (by omega) (by rw [b2i0] at c_33; simp [m_wf, ← hm, c_24, c_33])
  show Ev lyM (d + 3) hX12_worldsIf 0 [some (.ref 0), some (.int s), some (.int i), none, none] [] (I, J, R) _
  refine ev_iconst (v := 0) dX12_worldsIf_0 (by decide) ?_
  refine ev_st (L' := [some (.ref 0), some (.int s), some (.int i), some (.int 0), none]) dX12_worldsIf_1 rfl rfl ?_
  refine ev_iconst (v := 0) dX12_worldsIf_2 (by decide) ?_
  refine ev_st (L' := [some (.ref 0), some (.int s), some (.int i), some (.int 0), some (.int 0)]) dX12_worldsIf_3 rfl rfl ?_
  exact loop (nw + 1) 0 0  (by omega) (by omega) rfl
def m_wo (sy of ob : Nat → Int32) (ns no : Nat) : Nat → Int32 × Int32
  | 0 => (0, -1)
  | k + 1 => if m_iw sy of ob ns no (nI k) = true then ((m_wo sy of ob ns no k).1 + 1, if (m_wo sy of ob ns no k).1 = 0 then nI k else (m_wo sy of ob ns no k).2) else m_wo sy of ob ns no k
set_option maxHeartbeats 1000000 in
theorem c_worlds {I : Nat → Nat → Int32} {J : Nat → Nat → Int64} {R : Nat → Nat → Value} {d ns no : Nat} (hns : I 0 6 = nI ns) (hns8 : ns ≤ 8) (hno : I 0 33 = nI no) (hno8 : no ≤ 8) : Cal lyM (d + 3) hX12_worlds 4 [.ref 0] (I, J, R) (fun r M' => r = some (.int ((m_wo (I 5) (I 18) (I 19) ns no (2 ^ ns)).1)) ∧ M' = (ti_wr (ti_wr I 0 12 0) 0 11 (nI 1), ti_wl J 7 0 ((m_wo (I 5) (I 18) (I 19) ns no (2 ^ ns)).2).toInt64, R)) := by
  have hp := p256 hns8
  obtain ⟨nw, hw⟩ : ∃ nw, nw = 2 ^ ns := ⟨_, rfl⟩
  rw [← hw] at hp
  have loop : ∀ (k b : Nat) (m l : Int32), b ≤ nw → nw - b < k → m = (m_wo (I 5) (I 18) (I 19) ns no b).1 → l = (m_wo (I 5) (I 18) (I 19) ns no b).2 → Ev lyM (d + 3) hX12_worlds 11 [some (.ref 0), some (.int m), some (.int l), some (.int (nI b))] [] (ti_wr I 0 12 0, J, R) (fun r M' => r = some (.int ((m_wo (I 5) (I 18) (I 19) ns no (2 ^ ns)).1)) ∧ M' = (ti_wr (ti_wr I 0 12 0) 0 11 (nI 1), ti_wl J 7 0 ((m_wo (I 5) (I 18) (I 19) ns no (2 ^ ns)).2).toInt64, R)) := by
    intro k
    induction k with
    | zero => intro b m l  h1 h2; omega
    | succ k ih =>
      intro b m l  hb hk hm hl
      refine ev_st dX12_worlds_11 rfl rfl ?_
      refine ev_iconst (v := 1) dX12_worlds_12 (by decide) ?_
      refine ev_st dX12_worlds_13 rfl rfl ?_
      refine ev_getI (v := nI ns) dX12_worlds_14 fr_12_102 rfl rfl hns ?_
      refine ev_ishlN (c := nw) dX12_worlds_17 (hw ▸ sh1 ns hns8) ?_
      refine ev_ic_geN (t := 51) (a := b) (b := nw) dX12_worlds_18 (by decide) rfl rfl (by omega) (by omega) (fun c_18 => ?_) (fun c_18 => ?_)
      · refine ev_st dX12_worlds_51 rfl rfl ?_
        refine ev_iconst (v := 0) dX12_worlds_52 (by decide) ?_
        refine ev_putI dX12_worlds_53 fr_12_92 rfl rfl ?_
        refine ev_st dX12_worlds_56 rfl rfl ?_
        refine ev_st dX12_worlds_57 rfl rfl ?_
        refine ev_st dX12_worlds_58 rfl rfl ?_
        refine ev_call dX12_worlds_59 rfl rfl mr_12_253 rfl rfl rfl (c_tell (m := 0) rfl (by decide) l.toInt64) ?_
        rintro _ _ ⟨rfl, rfl⟩
        show Ev lyM (d + 3) hX12_worlds 62 [some (.ref 0), some (.int m), some (.int l), some (.int (nI b))] [] (ti_wr (ti_wr (ti_wr I 0 12 0) 0 11 0) 0 11 (nI 1), ti_wl J 7 0 l.toInt64, R) _
        refine ev_st dX12_worlds_62 rfl rfl ?_
        exact ev_iret dX12_worlds_63 rfl (by subst hm; subst hl; rw [show b = 2 ^ ns by omega]; exact ⟨rfl, by simp only [ti_wr2]⟩)
      · refine ev_st dX12_worlds_21 rfl rfl ?_
        refine ev_st dX12_worlds_22 rfl rfl ?_
        refine ev_call dX12_worlds_23 rfl rfl mr_12_349 rfl rfl rfl (c_isWorld (I := ti_wr I 0 12 0) hns hns8 hno hno8 (nI b)) ?_
        rintro _ _ ⟨rfl, rfl⟩
        show Ev lyM (d + 3) hX12_worlds 26 [some (.ref 0), some (.int m), some (.int l), some (.int (nI b))] [.int (b2i (m_iw (I 5) (I 18) (I 19) ns no (nI b)))] (ti_wr I 0 12 0, J, R) _
        refine ev_if_ne (t := 32) (x := b2i (m_iw (I 5) (I 18) (I 19) ns no (nI b))) dX12_worlds_26 (by decide) (fun c_26 => ?_) (fun c_26 => ?_)
        · refine ev_st dX12_worlds_32 rfl rfl ?_
          refine ev_if_ne (t := 40) (x := m) dX12_worlds_33 (by decide) (fun c_33 => ?_) (fun c_33 => ?_)
          · refine ev_st dX12_worlds_40 rfl rfl ?_
            refine ev_st (L' := [some (.ref 0), some (.int m), some (.int l), some (.int (nI b))]) dX12_worlds_41 rfl rfl ?_
            refine ev_iinc (x := m) (v := m + 1) (L' := [some (.ref 0), some (.int (m + 1)), some (.int l), some (.int (nI b))]) dX12_worlds_42 rfl rfl rfl ?_
            refine ev_iincN (a := b) (b := b + 1) (L' := [some (.ref 0), some (.int (m + 1)), some (.int l), some (.int (nI (b + 1)))]) dX12_worlds_45 rfl (nI_1 _) rfl ?_
            refine ev_goto (t := 11) dX12_worlds_48 (by decide) ?_
            exact ih _ _ _ (by omega) (by omega) (by rw [b2i0] at c_26; simp [m_wo, hm, hl, c_26, (show _ from hm ▸ c_33)]) (by rw [b2i0] at c_26; simp [m_wo, hm, hl, c_26, (show _ from hm ▸ c_33)])
          · refine ev_st dX12_worlds_36 rfl rfl ?_
            refine ev_goto (t := 41) dX12_worlds_37 (by decide) ?_
            refine ev_st (L' := [some (.ref 0), some (.int m), some (.int (nI b)), some (.int (nI b))]) dX12_worlds_41 rfl rfl ?_
            refine ev_iinc (x := m) (v := m + 1) (L' := [some (.ref 0), some (.int (m + 1)), some (.int (nI b)), some (.int (nI b))]) dX12_worlds_42 rfl rfl rfl ?_
            refine ev_iincN (a := b) (b := b + 1) (L' := [some (.ref 0), some (.int (m + 1)), some (.int (nI b)), some (.int (nI (b + 1)))]) dX12_worlds_45 rfl (nI_1 _) rfl ?_
            refine ev_goto (t := 11) dX12_worlds_48 (by decide) ?_
            exact ih _ _ _ (by omega) (by omega) (by rw [b2i0] at c_26; simp [m_wo, hm, hl, c_26, (show _ from hm ▸ c_33)]) (by rw [b2i0] at c_26; simp [m_wo, hm, hl, c_26, (show _ from hm ▸ c_33)])
        · refine ev_goto (t := 45) dX12_worlds_29 (by decide) ?_
          refine ev_iincN (a := b) (b := b + 1) (L' := [some (.ref 0), some (.int m), some (.int l), some (.int (nI (b + 1)))]) dX12_worlds_45 rfl (nI_1 _) rfl ?_
          refine ev_goto (t := 11) dX12_worlds_48 (by decide) ?_
          exact ih _ _ _ (by omega) (by omega) (by rw [b2i0] at c_26; simp [m_wo, hm, hl, c_26]) (by rw [b2i0] at c_26; simp [m_wo, hm, hl, c_26])
  show Ev lyM (d + 3) hX12_worlds 0 [some (.ref 0), none, none, none] [] (I, J, R) _
  refine ev_st dX12_worlds_0 rfl rfl ?_
  refine ev_iconst (v := 0) dX12_worlds_1 (by decide) ?_
  refine ev_putI dX12_worlds_2 fr_12_89 rfl rfl ?_
  refine ev_iconst (v := 0) dX12_worlds_5 (by decide) ?_
  refine ev_st (L' := [some (.ref 0), some (.int 0), none, none]) dX12_worlds_6 rfl rfl ?_
  refine ev_iconst (v := -1) dX12_worlds_7 (by decide) ?_
  refine ev_st (L' := [some (.ref 0), some (.int 0), some (.int ((-1))), none]) dX12_worlds_8 rfl rfl ?_
  refine ev_iconst (v := 0) dX12_worlds_9 (by decide) ?_
  refine ev_st (L' := [some (.ref 0), some (.int 0), some (.int ((-1))), some (.int 0)]) dX12_worlds_10 rfl rfl ?_
  exact loop (nw + 1) 0 0 (-1)  (by omega) (by omega) rfl rfl
def m_su (sy of ob : Nat → Int32) (ns no : Nat) : Nat → Int32 × Int32
  | 0 => (0, 0)
  | k + 1 => ((m_su sy of ob ns no k).1 ||| (if 0 < m_wf sy of ob ns no (nI k) 1 (2 ^ ns) ∧ m_wf sy of ob ns no (nI k) 0 (2 ^ ns) = 0 then (1 : Int32) <<< (nI k &&& 31) else 0), (m_su sy of ob ns no k).2 ||| (if m_wf sy of ob ns no (nI k) 1 (2 ^ ns) = 0 ∧ 0 < m_wf sy of ob ns no (nI k) 0 (2 ^ ns) then (1 : Int32) <<< (nI k &&& 31) else 0))
set_option maxHeartbeats 1000000 in
theorem c_sure {I : Nat → Nat → Int32} {J : Nat → Nat → Int64} {R : Nat → Nat → Value} {d ns no : Nat} (hns : I 0 6 = nI ns) (hns8 : ns ≤ 8) (hno : I 0 33 = nI no) (hno8 : no ≤ 8) : Cal lyM (d + 4) hX12_sure 6 [.ref 0] (I, J, R) (fun r M' => r = some (.int ((m_su (I 5) (I 18) (I 19) ns no ns).1)) ∧ M' = (ti_wr (ti_wr I 0 12 0) 0 11 (nI 1), ti_wl J 7 0 ((m_su (I 5) (I 18) (I 19) ns no ns).2).toInt64, R)) := by
  have loop : ∀ (k b : Nat) (m l : Int32) (z1 z2 : Option Value), b ≤ ns → ns - b < k → m = (m_su (I 5) (I 18) (I 19) ns no b).1 → l = (m_su (I 5) (I 18) (I 19) ns no b).2 → Ev lyM (d + 4) hX12_sure 11 [some (.ref 0), some (.int m), some (.int l), some (.int (nI b)), z1, z2] [] (ti_wr I 0 12 0, J, R) (fun r M' => r = some (.int ((m_su (I 5) (I 18) (I 19) ns no ns).1)) ∧ M' = (ti_wr (ti_wr I 0 12 0) 0 11 (nI 1), ti_wl J 7 0 ((m_su (I 5) (I 18) (I 19) ns no ns).2).toInt64, R)) := by
    intro k
    induction k with
    | zero => intro b m l z1 z2 h1 h2; omega
    | succ k ih =>
      intro b m l z1 z2 hb hk hm hl
      refine ev_st dX12_sure_11 rfl rfl ?_
      refine ev_st dX12_sure_12 rfl rfl ?_
      refine ev_getI (v := nI ns) dX12_sure_13 fr_12_102 rfl rfl hns ?_
      refine ev_ic_geN (t := 81) (a := b) (b := ns) dX12_sure_16 (by decide) rfl rfl (by omega) (by omega) (fun c_16 => ?_) (fun c_16 => ?_)
      · refine ev_st dX12_sure_81 rfl rfl ?_
        refine ev_iconst (v := 0) dX12_sure_82 (by decide) ?_
        refine ev_putI dX12_sure_83 fr_12_92 rfl rfl ?_
        refine ev_st dX12_sure_86 rfl rfl ?_
        refine ev_st dX12_sure_87 rfl rfl ?_
        refine ev_st dX12_sure_88 rfl rfl ?_
        refine ev_call dX12_sure_89 rfl rfl mr_12_253 rfl rfl rfl (c_tell (m := 0) rfl (by decide) l.toInt64) ?_
        rintro _ _ ⟨rfl, rfl⟩
        show Ev lyM (d + 4) hX12_sure 92 [some (.ref 0), some (.int m), some (.int l), some (.int (nI b)), z1, z2] [] (ti_wr (ti_wr (ti_wr I 0 12 0) 0 11 0) 0 11 (nI 1), ti_wl J 7 0 l.toInt64, R) _
        refine ev_st dX12_sure_92 rfl rfl ?_
        exact ev_iret dX12_sure_93 rfl (by subst hm; subst hl; rw [show b = ns by omega]; exact ⟨rfl, by simp only [ti_wr2]⟩)
      · refine ev_st dX12_sure_19 rfl rfl ?_
        refine ev_st dX12_sure_20 rfl rfl ?_
        refine ev_iconst (v := 1) dX12_sure_21 (by decide) ?_
        refine ev_call dX12_sure_22 rfl rfl mr_12_352 rfl rfl rfl (c_worldsIf (I := ti_wr I 0 12 0) hns hns8 hno hno8 (nI b) 1) ?_
        rintro _ _ ⟨rfl, rfl⟩
        show Ev lyM (d + 4) hX12_sure 25 [some (.ref 0), some (.int m), some (.int l), some (.int (nI b)), z1, z2] [.int (m_wf (I 5) (I 18) (I 19) ns no (nI b) 1 (2 ^ ns))] (ti_wr I 0 12 0, J, R) _
        refine ev_st (L' := [some (.ref 0), some (.int m), some (.int l), some (.int (nI b)), some (.int (m_wf (I 5) (I 18) (I 19) ns no (nI b) 1 (2 ^ ns))), z2]) dX12_sure_25 rfl rfl ?_
        refine ev_st dX12_sure_27 rfl rfl ?_
        refine ev_st dX12_sure_28 rfl rfl ?_
        refine ev_iconst (v := 0) dX12_sure_29 (by decide) ?_
        refine ev_call dX12_sure_30 rfl rfl mr_12_352 rfl rfl rfl (c_worldsIf (I := ti_wr I 0 12 0) hns hns8 hno hno8 (nI b) 0) ?_
        rintro _ _ ⟨rfl, rfl⟩
        show Ev lyM (d + 4) hX12_sure 33 [some (.ref 0), some (.int m), some (.int l), some (.int (nI b)), some (.int (m_wf (I 5) (I 18) (I 19) ns no (nI b) 1 (2 ^ ns))), z2] [.int (m_wf (I 5) (I 18) (I 19) ns no (nI b) 0 (2 ^ ns))] (ti_wr I 0 12 0, J, R) _
        refine ev_st (L' := [some (.ref 0), some (.int m), some (.int l), some (.int (nI b)), some (.int (m_wf (I 5) (I 18) (I 19) ns no (nI b) 1 (2 ^ ns))), some (.int (m_wf (I 5) (I 18) (I 19) ns no (nI b) 0 (2 ^ ns)))]) dX12_sure_33 rfl rfl ?_
        refine ev_st dX12_sure_35 rfl rfl ?_
        refine ev_st dX12_sure_36 rfl rfl ?_
        refine ev_if_le (t := 52) (x := m_wf (I 5) (I 18) (I 19) ns no (nI b) 1 (2 ^ ns)) dX12_sure_38 (by decide) (fun c_38 => ?_) (fun c_38 => ?_)
        · refine ev_iconst (v := 0) dX12_sure_52 (by decide) ?_
          refine ev_st dX12_sure_53 rfl rfl ?_
          refine ev_st (L' := [some (.ref 0), some (.int (m ||| 0)), some (.int l), some (.int (nI b)), some (.int (m_wf (I 5) (I 18) (I 19) ns no (nI b) 1 (2 ^ ns))), some (.int (m_wf (I 5) (I 18) (I 19) ns no (nI b) 0 (2 ^ ns)))]) dX12_sure_54 rfl rfl ?_
          refine ev_st dX12_sure_55 rfl rfl ?_
          refine ev_st dX12_sure_56 rfl rfl ?_
          refine ev_if_ne (t := 72) (x := m_wf (I 5) (I 18) (I 19) ns no (nI b) 1 (2 ^ ns)) dX12_sure_58 (by decide) (fun c_58 => ?_) (fun c_58 => ?_)
          · refine ev_iconst (v := 0) dX12_sure_72 (by decide) ?_
            refine ev_st dX12_sure_73 rfl rfl ?_
            refine ev_st (L' := [some (.ref 0), some (.int (m ||| 0)), some (.int (l ||| 0)), some (.int (nI b)), some (.int (m_wf (I 5) (I 18) (I 19) ns no (nI b) 1 (2 ^ ns))), some (.int (m_wf (I 5) (I 18) (I 19) ns no (nI b) 0 (2 ^ ns)))]) dX12_sure_74 rfl rfl ?_
            refine ev_iincN (a := b) (b := b + 1) (L' := [some (.ref 0), some (.int (m ||| 0)), some (.int (l ||| 0)), some (.int (nI (b + 1))), some (.int (m_wf (I 5) (I 18) (I 19) ns no (nI b) 1 (2 ^ ns))), some (.int (m_wf (I 5) (I 18) (I 19) ns no (nI b) 0 (2 ^ ns)))]) dX12_sure_75 rfl (nI_1 _) rfl ?_
            refine ev_goto (t := 11) dX12_sure_78 (by decide) ?_
            exact ih _ _ _ _ _ (by omega) (by omega) (by simp [m_su, hm, c_38, c_58]) (by simp [m_su, hl, c_38, c_58])
          · refine ev_st dX12_sure_61 rfl rfl ?_
            refine ev_if_le (t := 72) (x := m_wf (I 5) (I 18) (I 19) ns no (nI b) 0 (2 ^ ns)) dX12_sure_63 (by decide) (fun c_63 => ?_) (fun c_63 => ?_)
            · refine ev_iconst (v := 0) dX12_sure_72 (by decide) ?_
              refine ev_st dX12_sure_73 rfl rfl ?_
              refine ev_st (L' := [some (.ref 0), some (.int (m ||| 0)), some (.int (l ||| 0)), some (.int (nI b)), some (.int (m_wf (I 5) (I 18) (I 19) ns no (nI b) 1 (2 ^ ns))), some (.int (m_wf (I 5) (I 18) (I 19) ns no (nI b) 0 (2 ^ ns)))]) dX12_sure_74 rfl rfl ?_
              refine ev_iincN (a := b) (b := b + 1) (L' := [some (.ref 0), some (.int (m ||| 0)), some (.int (l ||| 0)), some (.int (nI (b + 1))), some (.int (m_wf (I 5) (I 18) (I 19) ns no (nI b) 1 (2 ^ ns))), some (.int (m_wf (I 5) (I 18) (I 19) ns no (nI b) 0 (2 ^ ns)))]) dX12_sure_75 rfl (nI_1 _) rfl ?_
              refine ev_goto (t := 11) dX12_sure_78 (by decide) ?_
              exact ih _ _ _ _ _ (by omega) (by omega) (by simp [m_su, hm, c_38, c_58, c_63]) (by simp [m_su, hl, c_38, c_58, c_63])
            · refine ev_iconst (v := 1) dX12_sure_66 (by decide) ?_
              refine ev_st dX12_sure_67 rfl rfl ?_
              refine ev_st dX12_sure_68 rfl rfl ?_
              refine ev_goto (t := 73) dX12_sure_69 (by decide) ?_
              refine ev_st dX12_sure_73 rfl rfl ?_
              refine ev_st (L' := [some (.ref 0), some (.int (m ||| 0)), some (.int (l ||| ((1 : Int32) <<< ((nI b) &&& 31)))), some (.int (nI b)), some (.int (m_wf (I 5) (I 18) (I 19) ns no (nI b) 1 (2 ^ ns))), some (.int (m_wf (I 5) (I 18) (I 19) ns no (nI b) 0 (2 ^ ns)))]) dX12_sure_74 rfl rfl ?_
              refine ev_iincN (a := b) (b := b + 1) (L' := [some (.ref 0), some (.int (m ||| 0)), some (.int (l ||| ((1 : Int32) <<< ((nI b) &&& 31)))), some (.int (nI (b + 1))), some (.int (m_wf (I 5) (I 18) (I 19) ns no (nI b) 1 (2 ^ ns))), some (.int (m_wf (I 5) (I 18) (I 19) ns no (nI b) 0 (2 ^ ns)))]) dX12_sure_75 rfl (nI_1 _) rfl ?_
              refine ev_goto (t := 11) dX12_sure_78 (by decide) ?_
              exact ih _ _ _ _ _ (by omega) (by omega) (by simp [m_su, hm, c_38, c_58, c_63]) (by simp [m_su, hl, c_38, c_58, c_63])
        · refine ev_st dX12_sure_41 rfl rfl ?_
          refine ev_if_ne (t := 52) (x := m_wf (I 5) (I 18) (I 19) ns no (nI b) 0 (2 ^ ns)) dX12_sure_43 (by decide) (fun c_43 => ?_) (fun c_43 => ?_)
          · refine ev_iconst (v := 0) dX12_sure_52 (by decide) ?_
            refine ev_st dX12_sure_53 rfl rfl ?_
            refine ev_st (L' := [some (.ref 0), some (.int (m ||| 0)), some (.int l), some (.int (nI b)), some (.int (m_wf (I 5) (I 18) (I 19) ns no (nI b) 1 (2 ^ ns))), some (.int (m_wf (I 5) (I 18) (I 19) ns no (nI b) 0 (2 ^ ns)))]) dX12_sure_54 rfl rfl ?_
            refine ev_st dX12_sure_55 rfl rfl ?_
            refine ev_st dX12_sure_56 rfl rfl ?_
            refine ev_if_ne (t := 72) (x := m_wf (I 5) (I 18) (I 19) ns no (nI b) 1 (2 ^ ns)) dX12_sure_58 (by decide) (fun c_58 => ?_) (fun c_58 => ?_)
            · refine ev_iconst (v := 0) dX12_sure_72 (by decide) ?_
              refine ev_st dX12_sure_73 rfl rfl ?_
              refine ev_st (L' := [some (.ref 0), some (.int (m ||| 0)), some (.int (l ||| 0)), some (.int (nI b)), some (.int (m_wf (I 5) (I 18) (I 19) ns no (nI b) 1 (2 ^ ns))), some (.int (m_wf (I 5) (I 18) (I 19) ns no (nI b) 0 (2 ^ ns)))]) dX12_sure_74 rfl rfl ?_
              refine ev_iincN (a := b) (b := b + 1) (L' := [some (.ref 0), some (.int (m ||| 0)), some (.int (l ||| 0)), some (.int (nI (b + 1))), some (.int (m_wf (I 5) (I 18) (I 19) ns no (nI b) 1 (2 ^ ns))), some (.int (m_wf (I 5) (I 18) (I 19) ns no (nI b) 0 (2 ^ ns)))]) dX12_sure_75 rfl (nI_1 _) rfl ?_
              refine ev_goto (t := 11) dX12_sure_78 (by decide) ?_
              exact ih _ _ _ _ _ (by omega) (by omega) (by simp [m_su, hm, c_38, c_43, c_58]) (by simp [m_su, hl, c_38, c_43, c_58])
            · refine ev_st dX12_sure_61 rfl rfl ?_
              refine ev_if_le (t := 72) (x := m_wf (I 5) (I 18) (I 19) ns no (nI b) 0 (2 ^ ns)) dX12_sure_63 (by decide) (fun c_63 => ?_) (fun c_63 => ?_)
              · refine ev_iconst (v := 0) dX12_sure_72 (by decide) ?_
                refine ev_st dX12_sure_73 rfl rfl ?_
                refine ev_st (L' := [some (.ref 0), some (.int (m ||| 0)), some (.int (l ||| 0)), some (.int (nI b)), some (.int (m_wf (I 5) (I 18) (I 19) ns no (nI b) 1 (2 ^ ns))), some (.int (m_wf (I 5) (I 18) (I 19) ns no (nI b) 0 (2 ^ ns)))]) dX12_sure_74 rfl rfl ?_
                refine ev_iincN (a := b) (b := b + 1) (L' := [some (.ref 0), some (.int (m ||| 0)), some (.int (l ||| 0)), some (.int (nI (b + 1))), some (.int (m_wf (I 5) (I 18) (I 19) ns no (nI b) 1 (2 ^ ns))), some (.int (m_wf (I 5) (I 18) (I 19) ns no (nI b) 0 (2 ^ ns)))]) dX12_sure_75 rfl (nI_1 _) rfl ?_
                refine ev_goto (t := 11) dX12_sure_78 (by decide) ?_
                exact absurd c_38 (by rw [c_58]; decide)
              · refine ev_iconst (v := 1) dX12_sure_66 (by decide) ?_
                refine ev_st dX12_sure_67 rfl rfl ?_
                refine ev_st dX12_sure_68 rfl rfl ?_
                refine ev_goto (t := 73) dX12_sure_69 (by decide) ?_
                refine ev_st dX12_sure_73 rfl rfl ?_
                refine ev_st (L' := [some (.ref 0), some (.int (m ||| 0)), some (.int (l ||| ((1 : Int32) <<< ((nI b) &&& 31)))), some (.int (nI b)), some (.int (m_wf (I 5) (I 18) (I 19) ns no (nI b) 1 (2 ^ ns))), some (.int (m_wf (I 5) (I 18) (I 19) ns no (nI b) 0 (2 ^ ns)))]) dX12_sure_74 rfl rfl ?_
                refine ev_iincN (a := b) (b := b + 1) (L' := [some (.ref 0), some (.int (m ||| 0)), some (.int (l ||| ((1 : Int32) <<< ((nI b) &&& 31)))), some (.int (nI (b + 1))), some (.int (m_wf (I 5) (I 18) (I 19) ns no (nI b) 1 (2 ^ ns))), some (.int (m_wf (I 5) (I 18) (I 19) ns no (nI b) 0 (2 ^ ns)))]) dX12_sure_75 rfl (nI_1 _) rfl ?_
                refine ev_goto (t := 11) dX12_sure_78 (by decide) ?_
                exact absurd c_38 (by rw [c_58]; decide)
          · refine ev_iconst (v := 1) dX12_sure_46 (by decide) ?_
            refine ev_st dX12_sure_47 rfl rfl ?_
            refine ev_st dX12_sure_48 rfl rfl ?_
            refine ev_goto (t := 53) dX12_sure_49 (by decide) ?_
            refine ev_st dX12_sure_53 rfl rfl ?_
            refine ev_st (L' := [some (.ref 0), some (.int (m ||| ((1 : Int32) <<< ((nI b) &&& 31)))), some (.int l), some (.int (nI b)), some (.int (m_wf (I 5) (I 18) (I 19) ns no (nI b) 1 (2 ^ ns))), some (.int (m_wf (I 5) (I 18) (I 19) ns no (nI b) 0 (2 ^ ns)))]) dX12_sure_54 rfl rfl ?_
            refine ev_st dX12_sure_55 rfl rfl ?_
            refine ev_st dX12_sure_56 rfl rfl ?_
            refine ev_if_ne (t := 72) (x := m_wf (I 5) (I 18) (I 19) ns no (nI b) 1 (2 ^ ns)) dX12_sure_58 (by decide) (fun c_58 => ?_) (fun c_58 => ?_)
            · refine ev_iconst (v := 0) dX12_sure_72 (by decide) ?_
              refine ev_st dX12_sure_73 rfl rfl ?_
              refine ev_st (L' := [some (.ref 0), some (.int (m ||| ((1 : Int32) <<< ((nI b) &&& 31)))), some (.int (l ||| 0)), some (.int (nI b)), some (.int (m_wf (I 5) (I 18) (I 19) ns no (nI b) 1 (2 ^ ns))), some (.int (m_wf (I 5) (I 18) (I 19) ns no (nI b) 0 (2 ^ ns)))]) dX12_sure_74 rfl rfl ?_
              refine ev_iincN (a := b) (b := b + 1) (L' := [some (.ref 0), some (.int (m ||| ((1 : Int32) <<< ((nI b) &&& 31)))), some (.int (l ||| 0)), some (.int (nI (b + 1))), some (.int (m_wf (I 5) (I 18) (I 19) ns no (nI b) 1 (2 ^ ns))), some (.int (m_wf (I 5) (I 18) (I 19) ns no (nI b) 0 (2 ^ ns)))]) dX12_sure_75 rfl (nI_1 _) rfl ?_
              refine ev_goto (t := 11) dX12_sure_78 (by decide) ?_
              exact ih _ _ _ _ _ (by omega) (by omega) (by simp [m_su, hm, c_38, c_43, c_58]) (by simp [m_su, hl, c_38, c_43, c_58])
            · refine ev_st dX12_sure_61 rfl rfl ?_
              refine ev_if_le (t := 72) (x := m_wf (I 5) (I 18) (I 19) ns no (nI b) 0 (2 ^ ns)) dX12_sure_63 (by decide) (fun c_63 => ?_) (fun c_63 => ?_)
              · refine ev_iconst (v := 0) dX12_sure_72 (by decide) ?_
                refine ev_st dX12_sure_73 rfl rfl ?_
                refine ev_st (L' := [some (.ref 0), some (.int (m ||| ((1 : Int32) <<< ((nI b) &&& 31)))), some (.int (l ||| 0)), some (.int (nI b)), some (.int (m_wf (I 5) (I 18) (I 19) ns no (nI b) 1 (2 ^ ns))), some (.int (m_wf (I 5) (I 18) (I 19) ns no (nI b) 0 (2 ^ ns)))]) dX12_sure_74 rfl rfl ?_
                refine ev_iincN (a := b) (b := b + 1) (L' := [some (.ref 0), some (.int (m ||| ((1 : Int32) <<< ((nI b) &&& 31)))), some (.int (l ||| 0)), some (.int (nI (b + 1))), some (.int (m_wf (I 5) (I 18) (I 19) ns no (nI b) 1 (2 ^ ns))), some (.int (m_wf (I 5) (I 18) (I 19) ns no (nI b) 0 (2 ^ ns)))]) dX12_sure_75 rfl (nI_1 _) rfl ?_
                refine ev_goto (t := 11) dX12_sure_78 (by decide) ?_
                exact absurd c_38 (by rw [c_58]; decide)
              · refine ev_iconst (v := 1) dX12_sure_66 (by decide) ?_
                refine ev_st dX12_sure_67 rfl rfl ?_
                refine ev_st dX12_sure_68 rfl rfl ?_
                refine ev_goto (t := 73) dX12_sure_69 (by decide) ?_
                refine ev_st dX12_sure_73 rfl rfl ?_
                refine ev_st (L' := [some (.ref 0), some (.int (m ||| ((1 : Int32) <<< ((nI b) &&& 31)))), some (.int (l ||| ((1 : Int32) <<< ((nI b) &&& 31)))), some (.int (nI b)), some (.int (m_wf (I 5) (I 18) (I 19) ns no (nI b) 1 (2 ^ ns))), some (.int (m_wf (I 5) (I 18) (I 19) ns no (nI b) 0 (2 ^ ns)))]) dX12_sure_74 rfl rfl ?_
                refine ev_iincN (a := b) (b := b + 1) (L' := [some (.ref 0), some (.int (m ||| ((1 : Int32) <<< ((nI b) &&& 31)))), some (.int (l ||| ((1 : Int32) <<< ((nI b) &&& 31)))), some (.int (nI (b + 1))), some (.int (m_wf (I 5) (I 18) (I 19) ns no (nI b) 1 (2 ^ ns))), some (.int (m_wf (I 5) (I 18) (I 19) ns no (nI b) 0 (2 ^ ns)))]) dX12_sure_75 rfl (nI_1 _) rfl ?_
                refine ev_goto (t := 11) dX12_sure_78 (by decide) ?_
                exact absurd c_38 (by rw [c_58]; decide)
  show Ev lyM (d + 4) hX12_sure 0 [some (.ref 0), none, none, none, none, none] [] (I, J, R) _
  refine ev_st dX12_sure_0 rfl rfl ?_
  refine ev_iconst (v := 0) dX12_sure_1 (by decide) ?_
  refine ev_putI dX12_sure_2 fr_12_89 rfl rfl ?_
  refine ev_iconst (v := 0) dX12_sure_5 (by decide) ?_
  refine ev_st (L' := [some (.ref 0), some (.int 0), none, none, none, none]) dX12_sure_6 rfl rfl ?_
  refine ev_iconst (v := 0) dX12_sure_7 (by decide) ?_
  refine ev_st (L' := [some (.ref 0), some (.int 0), some (.int 0), none, none, none]) dX12_sure_8 rfl rfl ?_
  refine ev_iconst (v := 0) dX12_sure_9 (by decide) ?_
  refine ev_st (L' := [some (.ref 0), some (.int 0), some (.int 0), some (.int 0), none, none]) dX12_sure_10 rfl rfl ?_
  exact loop (ns + 1) 0 0 0 _ _ (by omega) (by omega) rfl rfl
def m_mx (sy of ob : Nat → Int32) (ns no : Nat) (k : Int32) : Int32 := if m_wf sy of ob ns no k 1 (2 ^ ns) < m_wf sy of ob ns no k 0 (2 ^ ns) then m_wf sy of ob ns no k 0 (2 ^ ns) else m_wf sy of ob ns no k 1 (2 ^ ns)
def m_as (sy of ob : Nat → Int32) (ns no : Nat) : Nat → Int32 × Int32
  | 0 => (-1, 1000000)
  | k + 1 => if m_mx sy of ob ns no (nI k) < (m_as sy of ob ns no k).2 then (nI k, m_mx sy of ob ns no (nI k)) else m_as sy of ob ns no k
set_option maxHeartbeats 1000000 in
theorem c_ask {I : Nat → Nat → Int32} {J : Nat → Nat → Int64} {R : Nat → Nat → Value} {d ns no : Nat} (hns : I 0 6 = nI ns) (hns8 : ns ≤ 8) (hno : I 0 33 = nI no) (hno8 : no ≤ 8) : Cal lyM (d + 4) hX12_ask 5 [.ref 0] (I, J, R) (fun r M' => if (m_as (I 5) (I 18) (I 19) ns no ns).1 = -1 ∨ (m_as (I 5) (I 18) (I 19) ns no ns).2 = 0 then r = some (.int (-2)) ∧ M' = (ti_wr I 0 12 0, J, R) else r = some (.int (m_as (I 5) (I 18) (I 19) ns no ns).1) ∧ M' = (ti_wr (ti_wr I 0 12 0) 0 11 (nI 1), ti_wl J 7 0 ((m_as (I 5) (I 18) (I 19) ns no ns).2).toInt64, R)) := by
  have loop : ∀ (k b : Nat) (m l : Int32) (z1 : Option Value), b ≤ ns → ns - b < k → m = (m_as (I 5) (I 18) (I 19) ns no b).1 → l = (m_as (I 5) (I 18) (I 19) ns no b).2 → Ev lyM (d + 4) hX12_ask 13 [some (.ref 0), some (.int m), some (.int l), some (.int (nI b)), z1] [] (ti_wr I 0 12 0, J, R) (fun r M' => if (m_as (I 5) (I 18) (I 19) ns no ns).1 = -1 ∨ (m_as (I 5) (I 18) (I 19) ns no ns).2 = 0 then r = some (.int (-2)) ∧ M' = (ti_wr I 0 12 0, J, R) else r = some (.int (m_as (I 5) (I 18) (I 19) ns no ns).1) ∧ M' = (ti_wr (ti_wr I 0 12 0) 0 11 (nI 1), ti_wl J 7 0 ((m_as (I 5) (I 18) (I 19) ns no ns).2).toInt64, R)) := by
    intro k
    induction k with
    | zero => intro b m l z1 h1 h2; omega
    | succ k ih =>
      intro b m l z1 hb hk hm hl
      refine ev_st dX12_ask_13 rfl rfl ?_
      refine ev_st dX12_ask_14 rfl rfl ?_
      refine ev_getI (v := nI ns) dX12_ask_15 fr_12_102 rfl rfl hns ?_
      refine ev_ic_geN (t := 58) (a := b) (b := ns) dX12_ask_18 (by decide) rfl rfl (by omega) (by omega) (fun c_18 => ?_) (fun c_18 => ?_)
      · refine ev_st dX12_ask_58 rfl rfl ?_
        refine ev_iconst (v := -1) dX12_ask_59 (by decide) ?_
        refine ev_ic_eq (t := 67) (x := m) (y := (-1)) dX12_ask_60 (by decide) (fun c_60 => ?_) (fun c_60 => ?_)
        · refine ev_bipush (v := -2) dX12_ask_67 (by decide) ?_
          exact ev_iret dX12_ask_69 rfl (by rw [show b = ns by omega] at hm hl; rw [← hm, ← hl]; rw [if_pos (Or.inl c_60)]; exact ⟨rfl, rfl⟩)
        · refine ev_st dX12_ask_63 rfl rfl ?_
          refine ev_if_ne (t := 70) (x := l) dX12_ask_64 (by decide) (fun c_64 => ?_) (fun c_64 => ?_)
          · refine ev_st dX12_ask_70 rfl rfl ?_
            refine ev_iconst (v := 0) dX12_ask_71 (by decide) ?_
            refine ev_putI dX12_ask_72 fr_12_92 rfl rfl ?_
            refine ev_st dX12_ask_75 rfl rfl ?_
            refine ev_st dX12_ask_76 rfl rfl ?_
            refine ev_st dX12_ask_77 rfl rfl ?_
            refine ev_call dX12_ask_78 rfl rfl mr_12_253 rfl rfl rfl (c_tell (m := 0) rfl (by decide) l.toInt64) ?_
            rintro _ _ ⟨rfl, rfl⟩
            show Ev lyM (d + 4) hX12_ask 81 [some (.ref 0), some (.int m), some (.int l), some (.int (nI b)), z1] [] (ti_wr (ti_wr (ti_wr I 0 12 0) 0 11 0) 0 11 (nI 1), ti_wl J 7 0 l.toInt64, R) _
            refine ev_st dX12_ask_81 rfl rfl ?_
            exact ev_iret dX12_ask_82 rfl (by rw [show b = ns by omega] at hm hl; rw [← hm, ← hl]; rw [if_neg (not_or.mpr ⟨c_60, c_64⟩)]; exact ⟨rfl, by simp only [ti_wr2]⟩)
          · refine ev_bipush (v := -2) dX12_ask_67 (by decide) ?_
            exact ev_iret dX12_ask_69 rfl (by rw [show b = ns by omega] at hm hl; rw [← hm, ← hl]; rw [if_pos (Or.inr c_64)]; exact ⟨rfl, rfl⟩)
      · refine ev_st dX12_ask_21 rfl rfl ?_
        refine ev_st dX12_ask_22 rfl rfl ?_
        refine ev_iconst (v := 1) dX12_ask_23 (by decide) ?_
        refine ev_call dX12_ask_24 rfl rfl mr_12_352 rfl rfl rfl (c_worldsIf (I := ti_wr I 0 12 0) hns hns8 hno hno8 (nI b) 1) ?_
        rintro _ _ ⟨rfl, rfl⟩
        show Ev lyM (d + 4) hX12_ask 27 [some (.ref 0), some (.int m), some (.int l), some (.int (nI b)), z1] [.int (m_wf (I 5) (I 18) (I 19) ns no (nI b) 1 (2 ^ ns))] (ti_wr I 0 12 0, J, R) _
        refine ev_st dX12_ask_27 rfl rfl ?_
        refine ev_st dX12_ask_28 rfl rfl ?_
        refine ev_iconst (v := 0) dX12_ask_29 (by decide) ?_
        refine ev_call dX12_ask_30 rfl rfl mr_12_352 rfl rfl rfl (c_worldsIf (I := ti_wr I 0 12 0) hns hns8 hno hno8 (nI b) 0) ?_
        rintro _ _ ⟨rfl, rfl⟩
        show Ev lyM (d + 4) hX12_ask 33 [some (.ref 0), some (.int m), some (.int l), some (.int (nI b)), z1] [.int (m_wf (I 5) (I 18) (I 19) ns no (nI b) 0 (2 ^ ns)), .int (m_wf (I 5) (I 18) (I 19) ns no (nI b) 1 (2 ^ ns))] (ti_wr I 0 12 0, J, R) _
        refine ev_max (v := m_mx (I 5) (I 18) (I 19) ns no (nI b)) dX12_ask_33 br_12_205 rfl rfl ?_
        refine ev_st (L' := [some (.ref 0), some (.int m), some (.int l), some (.int (nI b)), some (.int (m_mx (I 5) (I 18) (I 19) ns no (nI b)))]) dX12_ask_36 rfl rfl ?_
        refine ev_st dX12_ask_38 rfl rfl ?_
        refine ev_st dX12_ask_40 rfl rfl ?_
        refine ev_ic_lt (t := 47) (x := m_mx (I 5) (I 18) (I 19) ns no (nI b)) (y := l) dX12_ask_41 (by decide) (fun c_41 => ?_) (fun c_41 => ?_)
        · refine ev_st dX12_ask_47 rfl rfl ?_
          refine ev_st (L' := [some (.ref 0), some (.int (nI b)), some (.int l), some (.int (nI b)), some (.int (m_mx (I 5) (I 18) (I 19) ns no (nI b)))]) dX12_ask_48 rfl rfl ?_
          refine ev_st dX12_ask_49 rfl rfl ?_
          refine ev_st (L' := [some (.ref 0), some (.int (nI b)), some (.int (m_mx (I 5) (I 18) (I 19) ns no (nI b))), some (.int (nI b)), some (.int (m_mx (I 5) (I 18) (I 19) ns no (nI b)))]) dX12_ask_51 rfl rfl ?_
          refine ev_iincN (a := b) (b := b + 1) (L' := [some (.ref 0), some (.int (nI b)), some (.int (m_mx (I 5) (I 18) (I 19) ns no (nI b))), some (.int (nI (b + 1))), some (.int (m_mx (I 5) (I 18) (I 19) ns no (nI b)))]) dX12_ask_52 rfl (nI_1 _) rfl ?_
          refine ev_goto (t := 13) dX12_ask_55 (by decide) ?_
          exact ih _ _ _ _ (by omega) (by omega) (by simp [m_as, hm, ← hl, c_41]) (by simp [m_as, ← hl, c_41])
        · refine ev_goto (t := 52) dX12_ask_44 (by decide) ?_
          refine ev_iincN (a := b) (b := b + 1) (L' := [some (.ref 0), some (.int m), some (.int l), some (.int (nI (b + 1))), some (.int (m_mx (I 5) (I 18) (I 19) ns no (nI b)))]) dX12_ask_52 rfl (nI_1 _) rfl ?_
          refine ev_goto (t := 13) dX12_ask_55 (by decide) ?_
          exact ih _ _ _ _ (by omega) (by omega) (by simp [m_as, hm, ← hl, c_41]) (by simp [m_as, ← hl, c_41])
  show Ev lyM (d + 4) hX12_ask 0 [some (.ref 0), none, none, none, none] [] (I, J, R) _
  refine ev_st dX12_ask_0 rfl rfl ?_
  refine ev_iconst (v := 0) dX12_ask_1 (by decide) ?_
  refine ev_putI dX12_ask_2 fr_12_89 rfl rfl ?_
  refine ev_iconst (v := -1) dX12_ask_5 (by decide) ?_
  refine ev_st (L' := [some (.ref 0), some (.int ((-1))), none, none, none]) dX12_ask_6 rfl rfl ?_
  refine ev_ldcw (v := 1000000) dX12_ask_7 rfl ?_
  refine ev_st (L' := [some (.ref 0), some (.int ((-1))), some (.int 1000000), none, none]) dX12_ask_10 rfl rfl ?_
  refine ev_iconst (v := 0) dX12_ask_11 (by decide) ?_
  refine ev_st (L' := [some (.ref 0), some (.int ((-1))), some (.int 1000000), some (.int 0), none]) dX12_ask_12 rfl rfl ?_
  exact loop (ns + 1) 0 (-1) 1000000 _ (by omega) (by omega) rfl rfl
theorem c_claim0 {I : Nat → Nat → Int32} {J : Nat → Nat → Int64} {R : Nat → Nat → Value} {d ns nc : Nat} (hns : I 0 6 = nI ns) (hns8 : ns ≤ 8) (hnc : I 0 37 = nI nc) (hnc16 : nc ≤ 16) {w s i : Int32} (hx : ¬ ((ix 4 w).isSome = true ∧ (ix ns s).isSome = true ∧ m_in i 0 1 = 1 ∧ nc < 16)) : Cal lyM (d + 2) hX12_claim 4 [.ref 0, .int w, .int s, .int i] (I, J, R) (fun r M' => r = some (.int (-1)) ∧ M' = (ti_wr I 0 12 0, J, R)) := by
  show Ev lyM (d + 2) hX12_claim 0 [some (.ref 0), some (.int w), some (.int s), some (.int i)] [] (I, J, R) _
  refine ev_st dX12_claim_0 rfl rfl ?_
  refine ev_iconst (v := 0) dX12_claim_1 (by decide) ?_
  refine ev_putI dX12_claim_2 fr_12_89 rfl rfl ?_
  refine ev_st dX12_claim_5 rfl rfl ?_
  refine ev_call dX12_claim_6 rfl rfl mr_12_285 rfl rfl rfl (c_isSeventh (lay := lyM) (M := (ti_wr I 0 12 0, J, R)) w) ?_
  rintro _ _ ⟨rfl, rfl⟩
  show Ev lyM (d + 2) hX12_claim 9 [some (.ref 0), some (.int w), some (.int s), some (.int i)] [.int (if (ix 4 w).isSome then 1 else 0)] (ti_wr I 0 12 0, J, R) _
  refine ev_if_eq (t := 38) (x := if (ix 4 w).isSome then 1 else 0) dX12_claim_9 (by decide) (fun c_9 => ?_) (fun c_9 => ?_)
  · refine ev_iconst (v := -1) dX12_claim_38 (by decide) ?_
    exact ev_iret dX12_claim_39 rfl (⟨rfl, rfl⟩)
  · refine ev_st dX12_claim_12 rfl rfl ?_
    refine ev_st dX12_claim_13 rfl rfl ?_
    refine ev_call dX12_claim_14 rfl rfl mr_12_247 rfl rfl rfl (c_isSaying (I := ti_wr I 0 12 0) hns hns8 s) ?_
    rintro _ _ ⟨rfl, rfl⟩
    show Ev lyM (d + 2) hX12_claim 17 [some (.ref 0), some (.int w), some (.int s), some (.int i)] [.int (if (ix ns s).isSome then 1 else 0)] (ti_wr I 0 12 0, J, R) _
    refine ev_if_eq (t := 38) (x := if (ix ns s).isSome then 1 else 0) dX12_claim_17 (by decide) (fun c_17 => ?_) (fun c_17 => ?_)
    · refine ev_iconst (v := -1) dX12_claim_38 (by decide) ?_
      exact ev_iret dX12_claim_39 rfl (⟨rfl, rfl⟩)
    · refine ev_st dX12_claim_20 rfl rfl ?_
      refine ev_iconst (v := 0) dX12_claim_21 (by decide) ?_
      refine ev_iconst (v := 1) dX12_claim_22 (by decide) ?_
      refine ev_call dX12_claim_23 rfl rfl mr_12_98 rfl rfl rfl (c_in i 0 1) ?_
      rintro _ _ ⟨rfl, rfl⟩
      show Ev lyM (d + 2) hX12_claim 26 [some (.ref 0), some (.int w), some (.int s), some (.int i)] [.int (m_in i 0 1)] (ti_wr I 0 12 0, J, R) _
      refine ev_if_eq (t := 38) (x := m_in i 0 1) dX12_claim_26 (by decide) (fun c_26 => ?_) (fun c_26 => ?_)
      · refine ev_iconst (v := -1) dX12_claim_38 (by decide) ?_
        exact ev_iret dX12_claim_39 rfl (⟨rfl, rfl⟩)
      · refine ev_st dX12_claim_29 rfl rfl ?_
        refine ev_getI (v := nI nc) dX12_claim_30 fr_12_362 rfl rfl hnc ?_
        refine ev_bipush (v := 16) dX12_claim_33 (by decide) ?_
        refine ev_ic_neN (t := 40) (a := nc) (b := 16) dX12_claim_35 (by decide) rfl rfl (by omega) (by omega) (fun c_35 => ?_) (fun c_35 => ?_)
        · exact absurd ⟨if01 c_9, if01 c_17, m_in1 c_26, by omega⟩ hx
        · refine ev_iconst (v := -1) dX12_claim_38 (by decide) ?_
          exact ev_iret dX12_claim_39 rfl (⟨rfl, rfl⟩)
theorem c_claim {I : Nat → Nat → Int32} {J : Nat → Nat → Int64} {R : Nat → Nat → Value} {d ns nc : Nat} (hns : I 0 6 = nI ns) (hns8 : ns ≤ 8) (hnc : I 0 37 = nI nc) (hnc16 : nc ≤ 16) {w s i : Int32} (hw : (ix 4 w).isSome = true) (hs : (ix ns s).isSome = true) (hi : m_in i 0 1 = 1) (h16 : nc < 16) : Cal lyM (d + 2) hX12_claim 4 [.ref 0, .int w, .int s, .int i] (I, J, R) (fun r M' => r = some (.int (nI (nc + 1))) ∧ M' = (ti_wr (ti_wr (ti_wr (ti_wr (ti_wr I 0 12 0) 21 (3 * nc) w) 21 (3 * nc + 1) s) 21 (3 * nc + 2) i) 0 37 (nI (nc + 1)), J, R)) := by
  show Ev lyM (d + 2) hX12_claim 0 [some (.ref 0), some (.int w), some (.int s), some (.int i)] [] (I, J, R) _
  refine ev_st dX12_claim_0 rfl rfl ?_
  refine ev_iconst (v := 0) dX12_claim_1 (by decide) ?_
  refine ev_putI dX12_claim_2 fr_12_89 rfl rfl ?_
  refine ev_st dX12_claim_5 rfl rfl ?_
  refine ev_call dX12_claim_6 rfl rfl mr_12_285 rfl rfl rfl (c_isSeventh (lay := lyM) (M := (ti_wr I 0 12 0, J, R)) w) ?_
  rintro _ _ ⟨rfl, rfl⟩
  show Ev lyM (d + 2) hX12_claim 9 [some (.ref 0), some (.int w), some (.int s), some (.int i)] [.int (if (ix 4 w).isSome then 1 else 0)] (ti_wr I 0 12 0, J, R) _
  refine ev_if_eq (t := 38) (x := if (ix 4 w).isSome then 1 else 0) dX12_claim_9 (by decide) (fun c_9 => ?_) (fun c_9 => ?_)
  · exact absurd c_9 (by rw [if_pos hw]; decide)
  · refine ev_st dX12_claim_12 rfl rfl ?_
    refine ev_st dX12_claim_13 rfl rfl ?_
    refine ev_call dX12_claim_14 rfl rfl mr_12_247 rfl rfl rfl (c_isSaying (I := ti_wr I 0 12 0) hns hns8 s) ?_
    rintro _ _ ⟨rfl, rfl⟩
    show Ev lyM (d + 2) hX12_claim 17 [some (.ref 0), some (.int w), some (.int s), some (.int i)] [.int (if (ix ns s).isSome then 1 else 0)] (ti_wr I 0 12 0, J, R) _
    refine ev_if_eq (t := 38) (x := if (ix ns s).isSome then 1 else 0) dX12_claim_17 (by decide) (fun c_17 => ?_) (fun c_17 => ?_)
    · exact absurd c_17 (by rw [if_pos hs]; decide)
    · refine ev_st dX12_claim_20 rfl rfl ?_
      refine ev_iconst (v := 0) dX12_claim_21 (by decide) ?_
      refine ev_iconst (v := 1) dX12_claim_22 (by decide) ?_
      refine ev_call dX12_claim_23 rfl rfl mr_12_98 rfl rfl rfl (c_in1 hi) ?_
      rintro _ _ ⟨rfl, rfl⟩
      show Ev lyM (d + 2) hX12_claim 26 [some (.ref 0), some (.int w), some (.int s), some (.int i)] [.int 1] (ti_wr I 0 12 0, J, R) _
      refine ev_if_eq (t := 38) dX12_claim_26 (by decide) (fun q => absurd q (by decide)) (fun _ => ?_)
      refine ev_st dX12_claim_29 rfl rfl ?_
      refine ev_getI (v := nI nc) dX12_claim_30 fr_12_362 rfl rfl hnc ?_
      refine ev_bipush (v := 16) dX12_claim_33 (by decide) ?_
      refine ev_ic_neN (t := 40) (a := nc) (b := 16) dX12_claim_35 (by decide) rfl rfl (by omega) (by omega) (fun c_35 => ?_) (fun c_35 => ?_)
      · refine ev_st dX12_claim_40 rfl rfl ?_
        refine ev_getC dX12_claim_41 fr_12_76 rfl rfl ?_
        refine ev_iconst (v := 3) dX12_claim_44 (by decide) ?_
        refine ev_st dX12_claim_45 rfl rfl ?_
        refine ev_getI (v := nI nc) dX12_claim_46 fr_12_362 rfl rfl hnc ?_
        refine ev_imulN (a := 3) (b := nc) (c := 3 * nc) dX12_claim_49 rfl rfl rfl ?_
        refine ev_st dX12_claim_50 rfl rfl ?_
        refine ev_iast (j := 3 * nc) dX12_claim_51 rfl rfl (by omega) (by decide) ?_
        refine ev_st dX12_claim_52 rfl rfl ?_
        refine ev_getC dX12_claim_53 fr_12_76 rfl rfl ?_
        refine ev_iconst (v := 3) dX12_claim_56 (by decide) ?_
        refine ev_st dX12_claim_57 rfl rfl ?_
        refine ev_getI (v := nI nc) dX12_claim_58 fr_12_362 rfl rfl hnc ?_
        refine ev_imulN (a := 3) (b := nc) (c := 3 * nc) dX12_claim_61 rfl rfl rfl ?_
        refine ev_iconst (v := 1) dX12_claim_62 (by decide) ?_
        refine ev_iaddN (a := 3 * nc) (b := 1) (c := 3 * nc + 1) dX12_claim_63 rfl rfl rfl ?_
        refine ev_st dX12_claim_64 rfl rfl ?_
        refine ev_iast (j := 3 * nc + 1) dX12_claim_65 rfl rfl (by omega) (by decide) ?_
        refine ev_st dX12_claim_66 rfl rfl ?_
        refine ev_getC dX12_claim_67 fr_12_76 rfl rfl ?_
        refine ev_iconst (v := 3) dX12_claim_70 (by decide) ?_
        refine ev_st dX12_claim_71 rfl rfl ?_
        refine ev_getI (v := nI nc) dX12_claim_72 fr_12_362 rfl rfl hnc ?_
        refine ev_imulN (a := 3) (b := nc) (c := 3 * nc) dX12_claim_75 rfl rfl rfl ?_
        refine ev_iconst (v := 2) dX12_claim_76 (by decide) ?_
        refine ev_iaddN (a := 3 * nc) (b := 2) (c := 3 * nc + 2) dX12_claim_77 rfl rfl rfl ?_
        refine ev_st dX12_claim_78 rfl rfl ?_
        refine ev_iast (j := 3 * nc + 2) dX12_claim_79 rfl rfl (by omega) (by decide) ?_
        refine ev_st dX12_claim_80 rfl rfl ?_
        refine ev_st dX12_claim_81 rfl rfl ?_
        refine ev_getI (v := nI nc) dX12_claim_82 fr_12_362 rfl rfl hnc ?_
        refine ev_iconst (v := 1) dX12_claim_85 (by decide) ?_
        refine ev_iaddN (a := nc) (b := 1) (c := nc + 1) dX12_claim_86 rfl rfl rfl ?_
        refine ev_putI dX12_claim_87 fr_12_362 rfl rfl ?_
        refine ev_st dX12_claim_90 rfl rfl ?_
        refine ev_getI (v := nI (nc + 1)) dX12_claim_91 fr_12_362 rfl rfl rfl ?_
        exact ev_iret dX12_claim_94 rfl (⟨rfl, rfl⟩)
      · omega
/-- the claims i and j don't contradict, but for those of x -/
def m_ag (cl : Nat → Int32) (x : Int32) (i j : Nat) : Bool := decide (¬ m_has x (cl (3 * i)) = 0) || (decide (¬ m_has x (cl (3 * j)) = 0) || (decide (¬ cl (3 * i + 1) = cl (3 * j + 1)) || decide (cl (3 * i + 2) = cl (3 * j + 2))))
def m_da (cl : Nat → Int32) (x : Int32) : Nat → Bool := allB (fun i => allB (m_ag cl x i) i)
set_option maxHeartbeats 1000000 in
theorem c_doAgree {I : Nat → Nat → Int32} {J : Nat → Nat → Int64} {R : Nat → Nat → Value} {d nc : Nat} (hnc : I 0 37 = nI nc) (hnc16 : nc ≤ 16) (x : Int32) : Cal lyM (d + 1) hX12_doAgree 4 [.ref 0, .int x] (I, J, R) (fun r M' => r = some (.int (b2i (m_da (I 21) x nc))) ∧ M' = (I, J, R)) := by
  have loop : ∀ (k a : Nat) (z : Option Value), a ≤ nc → nc - a < k → m_da (I 21) x a = true → Ev lyM (d + 1) hX12_doAgree 2 [some (.ref 0), some (.int x), some (.int (nI a)), z] [] (I, J, R) (fun r M' => r = some (.int (b2i (m_da (I 21) x nc))) ∧ M' = (I, J, R)) := by
    intro k
    induction k with
    | zero => intro a z h1 h2; omega
    | succ k ih =>
      intro a z ha hk hm
      have inner : a < nc → ∀ (k2 b : Nat), b ≤ a → a - b < k2 → allB (m_ag (I 21) x a) b = true → Ev lyM (d + 1) hX12_doAgree 12 [some (.ref 0), some (.int x), some (.int (nI a)), some (.int (nI b))] [] (I, J, R) (fun r M' => r = some (.int (b2i (m_da (I 21) x nc))) ∧ M' = (I, J, R)) := by
        intro hac k2
        induction k2 with
        | zero => intro b h1 h2; omega
        | succ k2 ih2 =>
          intro b hb hk2 hj
          refine ev_st dX12_doAgree_12 rfl rfl ?_
          refine ev_st dX12_doAgree_13 rfl rfl ?_
          refine ev_ic_geN (t := 104) (a := b) (b := a) dX12_doAgree_14 (by decide) rfl rfl (by omega) (by omega) (fun c_14 => ?_) (fun c_14 => ?_)
          · refine ev_iincN (a := a) (b := a + 1) (L' := [some (.ref 0), some (.int x), some (.int (nI (a + 1))), some (.int (nI b))]) dX12_doAgree_104 rfl (nI_1 _) rfl ?_
            refine ev_goto (t := 2) dX12_doAgree_107 (by decide) ?_
            exact ih _ _ (by omega) (by omega) (by simp only [m_da, allB]; simp only [m_da] at hm; rw [show b = a by omega] at hj; rw [hm, hj]; rfl)
          · refine ev_st dX12_doAgree_17 rfl rfl ?_
            refine ev_st dX12_doAgree_18 rfl rfl ?_
            refine ev_getC dX12_doAgree_19 fr_12_76 rfl rfl ?_
            refine ev_iconst (v := 3) dX12_doAgree_22 (by decide) ?_
            refine ev_st dX12_doAgree_23 rfl rfl ?_
            refine ev_imulN (a := 3) (b := a) (c := 3 * a) dX12_doAgree_24 rfl rfl rfl ?_
            refine ev_iald (j := 3 * a) (v := I 21 (3 * a)) dX12_doAgree_25 rfl rfl (by omega) (by decide) rfl ?_
            refine ev_call dX12_doAgree_26 rfl rfl mr_12_201 rfl rfl rfl (c_has x (I 21 (3 * a))) ?_
            rintro _ _ ⟨rfl, rfl⟩
            show Ev lyM (d + 1) hX12_doAgree 29 [some (.ref 0), some (.int x), some (.int (nI a)), some (.int (nI b))] [.int (m_has x (I 21 (3 * a)))] (I, J, R) _
            refine ev_if_ne (t := 98) (x := m_has x (I 21 (3 * a))) dX12_doAgree_29 (by decide) (fun c_29 => ?_) (fun c_29 => ?_)
            · refine ev_iincN (a := b) (b := b + 1) (L' := [some (.ref 0), some (.int x), some (.int (nI a)), some (.int (nI (b + 1)))]) dX12_doAgree_98 rfl (nI_1 _) rfl ?_
              refine ev_goto (t := 12) dX12_doAgree_101 (by decide) ?_
              exact ih2 _ (by omega) (by omega) (by simp only [allB, hj]; simp [m_ag, c_29])
            · refine ev_st dX12_doAgree_32 rfl rfl ?_
              refine ev_st dX12_doAgree_33 rfl rfl ?_
              refine ev_getC dX12_doAgree_34 fr_12_76 rfl rfl ?_
              refine ev_iconst (v := 3) dX12_doAgree_37 (by decide) ?_
              refine ev_st dX12_doAgree_38 rfl rfl ?_
              refine ev_imulN (a := 3) (b := b) (c := 3 * b) dX12_doAgree_39 rfl rfl rfl ?_
              refine ev_iald (j := 3 * b) (v := I 21 (3 * b)) dX12_doAgree_40 rfl rfl (by omega) (by decide) rfl ?_
              refine ev_call dX12_doAgree_41 rfl rfl mr_12_201 rfl rfl rfl (c_has x (I 21 (3 * b))) ?_
              rintro _ _ ⟨rfl, rfl⟩
              show Ev lyM (d + 1) hX12_doAgree 44 [some (.ref 0), some (.int x), some (.int (nI a)), some (.int (nI b))] [.int (m_has x (I 21 (3 * b)))] (I, J, R) _
              refine ev_if_eq (t := 50) (x := m_has x (I 21 (3 * b))) dX12_doAgree_44 (by decide) (fun c_44 => ?_) (fun c_44 => ?_)
              · refine ev_st dX12_doAgree_50 rfl rfl ?_
                refine ev_getC dX12_doAgree_51 fr_12_76 rfl rfl ?_
                refine ev_iconst (v := 3) dX12_doAgree_54 (by decide) ?_
                refine ev_st dX12_doAgree_55 rfl rfl ?_
                refine ev_imulN (a := 3) (b := a) (c := 3 * a) dX12_doAgree_56 rfl rfl rfl ?_
                refine ev_iconst (v := 1) dX12_doAgree_57 (by decide) ?_
                refine ev_iaddN (a := 3 * a) (b := 1) (c := 3 * a + 1) dX12_doAgree_58 rfl rfl rfl ?_
                refine ev_iald (j := 3 * a + 1) (v := I 21 (3 * a + 1)) dX12_doAgree_59 rfl rfl (by omega) (by decide) rfl ?_
                refine ev_st dX12_doAgree_60 rfl rfl ?_
                refine ev_getC dX12_doAgree_61 fr_12_76 rfl rfl ?_
                refine ev_iconst (v := 3) dX12_doAgree_64 (by decide) ?_
                refine ev_st dX12_doAgree_65 rfl rfl ?_
                refine ev_imulN (a := 3) (b := b) (c := 3 * b) dX12_doAgree_66 rfl rfl rfl ?_
                refine ev_iconst (v := 1) dX12_doAgree_67 (by decide) ?_
                refine ev_iaddN (a := 3 * b) (b := 1) (c := 3 * b + 1) dX12_doAgree_68 rfl rfl rfl ?_
                refine ev_iald (j := 3 * b + 1) (v := I 21 (3 * b + 1)) dX12_doAgree_69 rfl rfl (by omega) (by decide) rfl ?_
                refine ev_ic_ne (t := 98) (x := I 21 (3 * a + 1)) (y := I 21 (3 * b + 1)) dX12_doAgree_70 (by decide) (fun c_70 => ?_) (fun c_70 => ?_)
                · refine ev_iincN (a := b) (b := b + 1) (L' := [some (.ref 0), some (.int x), some (.int (nI a)), some (.int (nI (b + 1)))]) dX12_doAgree_98 rfl (nI_1 _) rfl ?_
                  refine ev_goto (t := 12) dX12_doAgree_101 (by decide) ?_
                  exact ih2 _ (by omega) (by omega) (by simp only [allB, hj]; simp [m_ag, c_29, c_44, c_70])
                · refine ev_st dX12_doAgree_73 rfl rfl ?_
                  refine ev_getC dX12_doAgree_74 fr_12_76 rfl rfl ?_
                  refine ev_iconst (v := 3) dX12_doAgree_77 (by decide) ?_
                  refine ev_st dX12_doAgree_78 rfl rfl ?_
                  refine ev_imulN (a := 3) (b := a) (c := 3 * a) dX12_doAgree_79 rfl rfl rfl ?_
                  refine ev_iconst (v := 2) dX12_doAgree_80 (by decide) ?_
                  refine ev_iaddN (a := 3 * a) (b := 2) (c := 3 * a + 2) dX12_doAgree_81 rfl rfl rfl ?_
                  refine ev_iald (j := 3 * a + 2) (v := I 21 (3 * a + 2)) dX12_doAgree_82 rfl rfl (by omega) (by decide) rfl ?_
                  refine ev_st dX12_doAgree_83 rfl rfl ?_
                  refine ev_getC dX12_doAgree_84 fr_12_76 rfl rfl ?_
                  refine ev_iconst (v := 3) dX12_doAgree_87 (by decide) ?_
                  refine ev_st dX12_doAgree_88 rfl rfl ?_
                  refine ev_imulN (a := 3) (b := b) (c := 3 * b) dX12_doAgree_89 rfl rfl rfl ?_
                  refine ev_iconst (v := 2) dX12_doAgree_90 (by decide) ?_
                  refine ev_iaddN (a := 3 * b) (b := 2) (c := 3 * b + 2) dX12_doAgree_91 rfl rfl rfl ?_
                  refine ev_iald (j := 3 * b + 2) (v := I 21 (3 * b + 2)) dX12_doAgree_92 rfl rfl (by omega) (by decide) rfl ?_
                  refine ev_ic_eq (t := 98) (x := I 21 (3 * a + 2)) (y := I 21 (3 * b + 2)) dX12_doAgree_93 (by decide) (fun c_93 => ?_) (fun c_93 => ?_)
                  · refine ev_iincN (a := b) (b := b + 1) (L' := [some (.ref 0), some (.int x), some (.int (nI a)), some (.int (nI (b + 1)))]) dX12_doAgree_98 rfl (nI_1 _) rfl ?_
                    refine ev_goto (t := 12) dX12_doAgree_101 (by decide) ?_
                    exact ih2 _ (by omega) (by omega) (by simp only [allB, hj]; simp [m_ag, c_29, c_44, c_70, c_93])
                  · refine ev_iconst (v := 0) dX12_doAgree_96 (by decide) ?_
                    exact ev_zret dX12_doAgree_97 rfl (by decide) (⟨by rw [show m_da (I 21) x nc = false from allB_f (f := fun i => allB (m_ag (I 21) x i) i) (b := a) (allB_f (b := b) (by simp [m_ag, c_29, c_44, c_70, c_93]) a c_14) nc hac]; rfl, rfl⟩)
              · refine ev_goto (t := 98) dX12_doAgree_47 (by decide) ?_
                refine ev_iincN (a := b) (b := b + 1) (L' := [some (.ref 0), some (.int x), some (.int (nI a)), some (.int (nI (b + 1)))]) dX12_doAgree_98 rfl (nI_1 _) rfl ?_
                refine ev_goto (t := 12) dX12_doAgree_101 (by decide) ?_
                exact ih2 _ (by omega) (by omega) (by simp only [allB, hj]; simp [m_ag, c_29, c_44])
      refine ev_st dX12_doAgree_2 rfl rfl ?_
      refine ev_st dX12_doAgree_3 rfl rfl ?_
      refine ev_getI (v := nI nc) dX12_doAgree_4 fr_12_362 rfl rfl hnc ?_
      refine ev_ic_geN (t := 110) (a := a) (b := nc) dX12_doAgree_7 (by decide) rfl rfl (by omega) (by omega) (fun c_7 => ?_) (fun c_7 => ?_)
      · refine ev_iconst (v := 1) dX12_doAgree_110 (by decide) ?_
        exact ev_zret dX12_doAgree_111 rfl (by decide) (⟨by rw [show a = nc by omega] at hm; rw [hm]; rfl, rfl⟩)
      · refine ev_iconst (v := 0) dX12_doAgree_10 (by decide) ?_
        refine ev_st (L' := [some (.ref 0), some (.int x), some (.int (nI a)), some (.int 0)]) dX12_doAgree_11 rfl rfl ?_
        exact inner c_7 (a + 1) 0 (by omega) (by omega) rfl
  show Ev lyM (d + 1) hX12_doAgree 0 [some (.ref 0), some (.int x), none, none] [] (I, J, R) _
  refine ev_iconst (v := 0) dX12_doAgree_0 (by decide) ?_
  refine ev_st (L' := [some (.ref 0), some (.int x), some (.int 0), none]) dX12_doAgree_1 rfl rfl ?_
  exact loop (nc + 1) 0 _ (by omega) (by omega) rfl
def m_bl (cl : Nat → Int32) (nc : Nat) : Nat → Int32
  | 0 => 15
  | k + 1 => if bc (nI k) < bc (m_bl cl nc k) ∧ m_da cl (nI k) nc = true then nI k else m_bl cl nc k
set_option maxHeartbeats 1000000 in
theorem c_believe {I : Nat → Nat → Int32} {J : Nat → Nat → Int64} {R : Nat → Nat → Value} {d nc : Nat} (hnc : I 0 37 = nI nc) (hnc16 : nc ≤ 16) : Cal lyM (d + 2) hX12_believe 3 [.ref 0] (I, J, R) (fun r M' => r = some (.int (bc (m_bl (I 21) nc 16))) ∧ M' = (ti_wr (ti_wr I 0 12 0) 0 11 (nI 1), ti_wl J 7 0 (m_bl (I 21) nc 16).toInt64, R)) := by
  have loop : ∀ (k b : Nat) (m : Int32), b ≤ 16 → 16 - b < k → m = m_bl (I 21) nc b → Ev lyM (d + 2) hX12_believe 10 [some (.ref 0), some (.int m), some (.int (nI b))] [] (ti_wr I 0 12 0, J, R) (fun r M' => r = some (.int (bc (m_bl (I 21) nc 16))) ∧ M' = (ti_wr (ti_wr I 0 12 0) 0 11 (nI 1), ti_wl J 7 0 (m_bl (I 21) nc 16).toInt64, R)) := by
    intro k
    induction k with
    | zero => intro b m  h1 h2; omega
    | succ k ih =>
      intro b m  hb hk hm
      refine ev_st dX12_believe_10 rfl rfl ?_
      refine ev_bipush (v := 16) dX12_believe_11 (by decide) ?_
      refine ev_ic_geN (t := 43) (a := b) (b := 16) dX12_believe_13 (by decide) rfl rfl (by omega) (by omega) (fun c_13 => ?_) (fun c_13 => ?_)
      · refine ev_st dX12_believe_43 rfl rfl ?_
        refine ev_iconst (v := 0) dX12_believe_44 (by decide) ?_
        refine ev_putI dX12_believe_45 fr_12_92 rfl rfl ?_
        refine ev_st dX12_believe_48 rfl rfl ?_
        refine ev_st dX12_believe_49 rfl rfl ?_
        refine ev_st dX12_believe_50 rfl rfl ?_
        refine ev_call dX12_believe_51 rfl rfl mr_12_253 rfl rfl rfl (c_tell (m := 0) rfl (by decide) m.toInt64) ?_
        rintro _ _ ⟨rfl, rfl⟩
        show Ev lyM (d + 2) hX12_believe 54 [some (.ref 0), some (.int m), some (.int (nI b))] [] (ti_wr (ti_wr (ti_wr I 0 12 0) 0 11 0) 0 11 (nI 1), ti_wl J 7 0 m.toInt64, R) _
        refine ev_st dX12_believe_54 rfl rfl ?_
        refine ev_call dX12_believe_55 rfl rfl mr_12_214 rfl rfl rfl (c_bc m) ?_
        rintro _ _ ⟨rfl, rfl⟩
        show Ev lyM (d + 2) hX12_believe 58 [some (.ref 0), some (.int m), some (.int (nI b))] [.int (bc m)] (ti_wr (ti_wr (ti_wr I 0 12 0) 0 11 0) 0 11 (nI 1), ti_wl J 7 0 m.toInt64, R) _
        exact ev_iret dX12_believe_58 rfl (by subst hm; rw [show b = 16 by omega]; exact ⟨rfl, by simp only [ti_wr2]⟩)
      · refine ev_st dX12_believe_16 rfl rfl ?_
        refine ev_call dX12_believe_17 rfl rfl mr_12_214 rfl rfl rfl (c_bc (nI b)) ?_
        rintro _ _ ⟨rfl, rfl⟩
        show Ev lyM (d + 2) hX12_believe 20 [some (.ref 0), some (.int m), some (.int (nI b))] [.int (bc (nI b))] (ti_wr I 0 12 0, J, R) _
        refine ev_st dX12_believe_20 rfl rfl ?_
        refine ev_call dX12_believe_21 rfl rfl mr_12_214 rfl rfl rfl (c_bc m) ?_
        rintro _ _ ⟨rfl, rfl⟩
        show Ev lyM (d + 2) hX12_believe 24 [some (.ref 0), some (.int m), some (.int (nI b))] [.int (bc m), .int (bc (nI b))] (ti_wr I 0 12 0, J, R) _
        refine ev_ic_ge (t := 37) (x := bc (nI b)) (y := bc m) dX12_believe_24 (by decide) (fun c_24 => ?_) (fun c_24 => ?_)
        · refine ev_iincN (a := b) (b := b + 1) (L' := [some (.ref 0), some (.int m), some (.int (nI (b + 1)))]) dX12_believe_37 rfl (nI_1 _) rfl ?_
          refine ev_goto (t := 10) dX12_believe_40 (by decide) ?_
          exact ih _ _ (by omega) (by omega) (by simp [m_bl, ← hm, c_24])
        · refine ev_st dX12_believe_27 rfl rfl ?_
          refine ev_st dX12_believe_28 rfl rfl ?_
          refine ev_call dX12_believe_29 rfl rfl mr_12_365 rfl rfl rfl (c_doAgree (I := ti_wr I 0 12 0) hnc hnc16 (nI b)) ?_
          rintro _ _ ⟨rfl, rfl⟩
          show Ev lyM (d + 2) hX12_believe 32 [some (.ref 0), some (.int m), some (.int (nI b))] [.int (b2i (m_da (I 21) (nI b) nc))] (ti_wr I 0 12 0, J, R) _
          refine ev_if_eq (t := 37) (x := b2i (m_da (I 21) (nI b) nc)) dX12_believe_32 (by decide) (fun c_32 => ?_) (fun c_32 => ?_)
          · refine ev_iincN (a := b) (b := b + 1) (L' := [some (.ref 0), some (.int m), some (.int (nI (b + 1)))]) dX12_believe_37 rfl (nI_1 _) rfl ?_
            refine ev_goto (t := 10) dX12_believe_40 (by decide) ?_
            exact ih _ _ (by omega) (by omega) (by rw [b2i0] at c_32; simp [m_bl, ← hm, c_24, c_32])
          · refine ev_st dX12_believe_35 rfl rfl ?_
            refine ev_st (L' := [some (.ref 0), some (.int (nI b)), some (.int (nI b))]) dX12_believe_36 rfl rfl ?_
            refine ev_iincN (a := b) (b := b + 1) (L' := [some (.ref 0), some (.int (nI b)), some (.int (nI (b + 1)))]) dX12_believe_37 rfl (nI_1 _) rfl ?_
            refine ev_goto (t := 10) dX12_believe_40 (by decide) ?_
            exact ih _ _ (by omega) (by omega) (by rw [b2i0] at c_32; simp [m_bl, ← hm, c_24, c_32])
  show Ev lyM (d + 2) hX12_believe 0 [some (.ref 0), none, none] [] (I, J, R) _
  refine ev_st dX12_believe_0 rfl rfl ?_
  refine ev_iconst (v := 0) dX12_believe_1 (by decide) ?_
  refine ev_putI dX12_believe_2 fr_12_89 rfl rfl ?_
  refine ev_bipush (v := 15) dX12_believe_5 (by decide) ?_
  refine ev_st (L' := [some (.ref 0), some (.int 15), none]) dX12_believe_7 rfl rfl ?_
  refine ev_iconst (v := 0) dX12_believe_8 (by decide) ?_
  refine ev_st (L' := [some (.ref 0), some (.int 15), some (.int 0)]) dX12_believe_9 rfl rfl ?_
  exact loop (16 + 1) 0 15  (by omega) (by omega) rfl
