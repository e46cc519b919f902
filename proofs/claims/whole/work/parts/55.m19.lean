/-! the model: bids, counts, rows, bearers, sayings, sheets -/
theorem ev_ts {lay : List TE} {d pc len j t : Nat} {h : TH} {L : TL} {st : List Value} {M : TM} {Q : Option Value → TM → Prop} {x : Int32} {dflt hi off : Int} {offs : Array Int} (hd : decode h.2.1 pc = .ok (.tableswitch dflt 0 hi offs, len)) (hx : x = nI j) (hj : j < 2 ^ 31) (hh : (j : Int) ≤ hi) (ho : offs[j]? = some off) (ht : ti_jmp pc off = some t) (kk : Ev lay d h t L st M Q) : Ev lay d h pc L (.int x :: st) M Q := by
  subst hx
  have e : (nI j).toInt = (j : Int) := nI_toInt hj
  refine ev_st hd rfl ?_ kk
  simp only [ti_step, ti_ts, e]
  rw [if_neg (by omega)]
  rw [show ((j : Int) - 0).toNat = j by omega, ho]
  simp [ht]
theorem ev_tsD {lay : List TE} {d pc len j t : Nat} {h : TH} {L : TL} {st : List Value} {M : TM} {Q : Option Value → TM → Prop} {x : Int32} {dflt hi : Int} {offs : Array Int} (hd : decode h.2.1 pc = .ok (.tableswitch dflt 0 hi offs, len)) (hh : (j : Int) = hi + 1) (hj : j < 2 ^ 31) (hx : ix j x = none) (ht : ti_jmp pc dflt = some t) (kk : Ev lay d h t L st M Q) : Ev lay d h pc L (.int x :: st) M Q := by
  refine ev_st hd rfl ?_ kk
  simp only [ti_step, ti_ts]
  rw [if_pos]
  · simp [ht]
  · unfold ix at hx
    split at hx
    · cases hx
    · next q =>
      rw [Int32.le_iff_toInt_le, Int32.lt_iff_toInt_lt, nI_toInt hj] at q
      have : (0 : Int32).toInt = 0 := rfl
      omega
def m_get (mine others v : Int32) : Int32 := if others < mine then 0 else if mine = others then (if mine / 2 < v then mine / 2 else v) else (if mine < v then mine else v)
def m_ib (mine others v : Int32) : Bool := allB (fun x => !decide (m_get mine others v < m_get (nI x) others v)) 10
def m_rp (v : Int32) (x y : Nat) : Bool := m_ib (nI x) (nI y) v && m_ib (nI y) (nI x) v
def m_r1 (v : Int32) (x : Nat) (t : Nat × Nat × Nat) (y : Nat) : Nat × Nat × Nat := if m_rp v x y then (t.1 + 1, if t.1 = 0 then (x, y) else t.2) else t
def m_rI (v : Int32) (x : Nat) (t : Nat × Nat × Nat) : Nat → Nat × Nat × Nat
  | 0 => t
  | y + 1 => m_r1 v x (m_rI v x t y) y
def m_rO (v : Int32) : Nat → Nat × Nat × Nat
  | 0 => (0, 0, 0)
  | x + 1 => m_rI v x (m_rO v x) 10
def rsz (t : Nat × Nat × Nat) : Int32 := if t.1 = 0 then 0 else nI 2
def rsJ (q : Nat) (J : Nat → Nat → Int64) (t : Nat × Nat × Nat) : Nat → Nat → Int64 := if t.1 = 0 then J else ti_wl (ti_wl J q 0 (nI t.2.1).toInt64) q 1 (nI t.2.2).toInt64
theorem c_gets {I : Nat → Nat → Int32} {J : Nat → Nat → Int64} {R : Nat → Nat → Value} {d : Nat} (x y v : Int32) : Cal lyM (d + 1) hX12_gets 3 [.int x, .int y, .int v] (I, J, R) (fun r M' => r = some (.int (m_get x y v)) ∧ M' = (I, J, R)) := by
  show Ev lyM (d + 1) hX12_gets 0 [some (.int x), some (.int y), some (.int v)] [] (I, J, R) _
  refine ev_st dX12_gets_0 rfl rfl ?_
  refine ev_st dX12_gets_1 rfl rfl ?_
  refine ev_ic_le (t := 9) (x := x) (y := y) dX12_gets_2 (by decide) (fun c_2 => ?_) (fun c_2 => ?_)
  · refine ev_st dX12_gets_9 rfl rfl ?_
    refine ev_st dX12_gets_10 rfl rfl ?_
    refine ev_st dX12_gets_11 rfl rfl ?_
    refine ev_ic_ne (t := 21) (x := x) (y := y) dX12_gets_12 (by decide) (fun c_12 => ?_) (fun c_12 => ?_)
    · refine ev_st dX12_gets_21 rfl rfl ?_
      refine ev_min (v := if x < v then x else v) dX12_gets_22 br_12_223 rfl rfl ?_
      exact ev_iret dX12_gets_25 rfl (⟨by simp only [m_get, if_neg c_2, if_neg c_12], rfl⟩)
    · refine ev_st dX12_gets_15 rfl rfl ?_
      refine ev_iconst (v := 2) dX12_gets_16 (by decide) ?_
      refine ev_div dX12_gets_17 (by decide) ?_
      refine ev_goto (t := 22) dX12_gets_18 (by decide) ?_
      refine ev_min (v := if (x / 2) < v then (x / 2) else v) dX12_gets_22 br_12_223 rfl rfl ?_
      exact ev_iret dX12_gets_25 rfl (⟨by simp only [m_get, if_neg c_2, if_pos c_12], rfl⟩)
  · refine ev_iconst (v := 0) dX12_gets_5 (by decide) ?_
    refine ev_goto (t := 25) dX12_gets_6 (by decide) ?_
    exact ev_iret dX12_gets_25 rfl (⟨by simp only [m_get, if_pos c_2], rfl⟩)
set_option maxHeartbeats 1000000 in
theorem c_isBest {I : Nat → Nat → Int32} {J : Nat → Nat → Int64} {R : Nat → Nat → Value} {d : Nat} (x y v : Int32) : Cal lyM (d + 2) hX12_isBest 4 [.int x, .int y, .int v] (I, J, R) (fun r M' => r = some (.int (b2i (m_ib x y v))) ∧ M' = (I, J, R)) := by
  have loop : ∀ (k b : Nat), b ≤ 10 → 10 - b < k → allB (fun z => !decide (m_get x y v < m_get (nI z) y v)) b = true → Ev lyM (d + 2) hX12_isBest 2 [some (.int x), some (.int y), some (.int v), some (.int (nI b))] [] (I, J, R) (fun r M' => r = some (.int (b2i (m_ib x y v))) ∧ M' = (I, J, R)) := by
    intro k
    induction k with
    | zero => intro b h1 h2; omega
    | succ k ih =>
      intro b hb hk hm
      refine ev_st dX12_isBest_2 rfl rfl ?_
      refine ev_bipush (v := 9) dX12_isBest_3 (by decide) ?_
      refine ev_ic_gtN (t := 31) (a := b) (b := 9) dX12_isBest_5 (by decide) rfl rfl (by omega) (by omega) (fun c_5 => ?_) (fun c_5 => ?_)
      · refine ev_iconst (v := 1) dX12_isBest_31 (by decide) ?_
        exact ev_zret dX12_isBest_32 rfl (by decide) (⟨by rw [show b = 10 by omega] at hm; rw [m_ib, hm]; rfl, rfl⟩)
      · refine ev_st dX12_isBest_8 rfl rfl ?_
        refine ev_st dX12_isBest_9 rfl rfl ?_
        refine ev_st dX12_isBest_10 rfl rfl ?_
        refine ev_call dX12_isBest_11 rfl rfl mr_12_378 rfl rfl rfl (c_gets (nI b) y v) ?_
        rintro _ _ ⟨rfl, rfl⟩
        show Ev lyM (d + 2) hX12_isBest 14 [some (.int x), some (.int y), some (.int v), some (.int (nI b))] [.int (m_get (nI b) y v)] (I, J, R) _
        refine ev_st dX12_isBest_14 rfl rfl ?_
        refine ev_st dX12_isBest_15 rfl rfl ?_
        refine ev_st dX12_isBest_16 rfl rfl ?_
        refine ev_call dX12_isBest_17 rfl rfl mr_12_378 rfl rfl rfl (c_gets x y v) ?_
        rintro _ _ ⟨rfl, rfl⟩
        show Ev lyM (d + 2) hX12_isBest 20 [some (.int x), some (.int y), some (.int v), some (.int (nI b))] [.int (m_get x y v), .int (m_get (nI b) y v)] (I, J, R) _
        refine ev_ic_le (t := 25) (x := m_get (nI b) y v) (y := m_get x y v) dX12_isBest_20 (by decide) (fun c_20 => ?_) (fun c_20 => ?_)
        · refine ev_iincN (a := b) (b := b + 1) (L' := [some (.int x), some (.int y), some (.int v), some (.int (nI (b + 1)))]) dX12_isBest_25 rfl (nI_1 _) rfl ?_
          refine ev_goto (t := 2) dX12_isBest_28 (by decide) ?_
          exact ih _ (by omega) (by omega) (by simp only [allB]; rw [hm]; simp [c_20])
        · refine ev_iconst (v := 0) dX12_isBest_23 (by decide) ?_
          exact ev_zret dX12_isBest_24 rfl (by decide) (⟨by rw [show m_ib x y v = false from allB_f (b := b) (by simp [c_20]) 10 (by omega)]; rfl, rfl⟩)
  show Ev lyM (d + 2) hX12_isBest 0 [some (.int x), some (.int y), some (.int v), none] [] (I, J, R) _
  refine ev_iconst (v := 0) dX12_isBest_0 (by decide) ?_
  refine ev_st (L' := [some (.int x), some (.int y), some (.int v), some (.int 0)]) dX12_isBest_1 rfl rfl ?_
  exact loop 11 0 (by omega) (by omega) rfl
theorem c_rests0 {I : Nat → Nat → Int32} {J : Nat → Nat → Int64} {R : Nat → Nat → Value} {d : Nat} {x : Int32} (hx : m_in x 0 20 = 0) : Cal lyM (d + 3) hX12_rests 5 [.ref 0, .int x] (I, J, R) (fun r M' => r = some (.int (-1)) ∧ M' = (ti_wr I 0 12 0, J, R)) := by
  show Ev lyM (d + 3) hX12_rests 0 [some (.ref 0), some (.int x), none, none, none] [] (I, J, R) _
  refine ev_st dX12_rests_0 rfl rfl ?_
  refine ev_iconst (v := 0) dX12_rests_1 (by decide) ?_
  refine ev_putI dX12_rests_2 fr_12_89 rfl rfl ?_
  refine ev_st dX12_rests_5 rfl rfl ?_
  refine ev_iconst (v := 0) dX12_rests_6 (by decide) ?_
  refine ev_bipush (v := 20) dX12_rests_7 (by decide) ?_
  refine ev_call dX12_rests_9 rfl rfl mr_12_98 rfl rfl rfl (c_in0 hx) ?_
  rintro _ _ ⟨rfl, rfl⟩
  show Ev lyM (d + 3) hX12_rests 12 [some (.ref 0), some (.int x), none, none, none] [.int 0] (ti_wr I 0 12 0, J, R) _
  refine ev_if_ne (t := 17) dX12_rests_12 (by decide) (fun q => absurd q (by decide)) (fun _ => ?_)
  refine ev_iconst (v := -1) dX12_rests_15 (by decide) ?_
  exact ev_iret dX12_rests_16 rfl (⟨rfl, rfl⟩)
set_option maxHeartbeats 1000000 in
theorem c_rests {I : Nat → Nat → Int32} {J : Nat → Nat → Int64} {R : Nat → Nat → Value} {d : Nat} {x : Int32} (hx : m_in x 0 20 = 1) : Cal lyM (d + 3) hX12_rests 5 [.ref 0, .int x] (I, J, R) (fun r M' => r = some (.int (nI (m_rO x 10).1)) ∧ M' = (ti_wr (ti_wr I 0 12 0) 0 11 (rsz (m_rO x 10)), rsJ 7 J (m_rO x 10), R)) := by
  have loop : ∀ (k u : Nat) (t : Nat × Nat × Nat) (z : Option Value), u ≤ 10 → 10 - u < k → t = m_rO x u → t.1 ≤ 10 * u → Ev lyM (d + 3) hX12_rests 26 [some (.ref 0), some (.int x), some (.int (nI t.1)), some (.int (nI u)), z] [] (ti_wr (ti_wr I 0 12 0) 0 11 (rsz t), rsJ 7 J t, R) (fun r M' => r = some (.int (nI (m_rO x 10).1)) ∧ M' = (ti_wr (ti_wr I 0 12 0) 0 11 (rsz (m_rO x 10)), rsJ 7 J (m_rO x 10), R)) := by
    intro k
    induction k with
    | zero => intro u t z h1 h2; omega
    | succ k ih =>
      intro u t z hu hk ht0 hn0
      have inner : u < 10 → ∀ (k2 b : Nat) (t : Nat × Nat × Nat), b ≤ 10 → 10 - b < k2 → t = m_rI x u (m_rO x u) b → t.1 ≤ 10 * u + b → Ev lyM (d + 3) hX12_rests 35 [some (.ref 0), some (.int x), some (.int (nI t.1)), some (.int (nI u)), some (.int (nI b))] [] (ti_wr (ti_wr I 0 12 0) 0 11 (rsz t), rsJ 7 J t, R) (fun r M' => r = some (.int (nI (m_rO x 10).1)) ∧ M' = (ti_wr (ti_wr I 0 12 0) 0 11 (rsz (m_rO x 10)), rsJ 7 J (m_rO x 10), R)) := by
        intro huc k2
        induction k2 with
        | zero => intro b t h1 h2; omega
        | succ k2 ih2 =>
          intro b t hb hk2 ht hn0
          refine ev_st dX12_rests_35 rfl rfl ?_
          refine ev_bipush (v := 9) dX12_rests_37 (by decide) ?_
          refine ev_ic_gtN (t := 91) (a := b) (b := 9) dX12_rests_39 (by decide) rfl rfl (by omega) (by omega) (fun c_39 => ?_) (fun c_39 => ?_)
          · refine ev_iincN (a := u) (b := u + 1) (L' := [some (.ref 0), some (.int x), some (.int (nI t.1)), some (.int (nI (u + 1))), some (.int (nI b))]) dX12_rests_91 rfl (nI_1 _) rfl ?_
            refine ev_goto (t := 26) dX12_rests_94 (by decide) ?_
            exact ih _ _ _ (by omega) (by omega) (by rw [show b = 10 by omega] at ht; exact ht) (by omega)
          · refine ev_st dX12_rests_42 rfl rfl ?_
            refine ev_st dX12_rests_43 rfl rfl ?_
            refine ev_st dX12_rests_45 rfl rfl ?_
            refine ev_call dX12_rests_46 rfl rfl mr_12_382 rfl rfl rfl (c_isBest (I := ti_wr (ti_wr I 0 12 0) 0 11 (rsz t)) (J := rsJ 7 J t) (nI u) (nI b) x) ?_
            rintro _ _ ⟨rfl, rfl⟩
            show Ev lyM (d + 3) hX12_rests 49 [some (.ref 0), some (.int x), some (.int (nI t.1)), some (.int (nI u)), some (.int (nI b))] [.int (b2i (m_ib (nI u) (nI b) x))] (ti_wr (ti_wr I 0 12 0) 0 11 (rsz t), rsJ 7 J t, R) _
            refine ev_if_eq (t := 85) (x := b2i (m_ib (nI u) (nI b) x)) dX12_rests_49 (by decide) (fun c_49 => ?_) (fun c_49 => ?_)
            · refine ev_iincN (a := b) (b := b + 1) (L' := [some (.ref 0), some (.int x), some (.int (nI t.1)), some (.int (nI u)), some (.int (nI (b + 1)))]) dX12_rests_85 rfl (nI_1 _) rfl ?_
              refine ev_goto (t := 35) dX12_rests_88 (by decide) ?_
              have e : m_r1 x u t b = t := by rw [m_r1, if_neg (by simp [m_rp, b2i0.mp c_49])]
              exact ih2 _ t (by omega) (by omega) (by rw [m_rI, ← ht, e]) (by omega)
            · refine ev_st dX12_rests_52 rfl rfl ?_
              refine ev_st dX12_rests_54 rfl rfl ?_
              refine ev_st dX12_rests_55 rfl rfl ?_
              refine ev_call dX12_rests_56 rfl rfl mr_12_382 rfl rfl rfl (c_isBest (I := ti_wr (ti_wr I 0 12 0) 0 11 (rsz t)) (J := rsJ 7 J t) (nI b) (nI u) x) ?_
              rintro _ _ ⟨rfl, rfl⟩
              show Ev lyM (d + 3) hX12_rests 59 [some (.ref 0), some (.int x), some (.int (nI t.1)), some (.int (nI u)), some (.int (nI b))] [.int (b2i (m_ib (nI b) (nI u) x))] (ti_wr (ti_wr I 0 12 0) 0 11 (rsz t), rsJ 7 J t, R) _
              refine ev_if_ne (t := 65) (x := b2i (m_ib (nI b) (nI u) x)) dX12_rests_59 (by decide) (fun c_59 => ?_) (fun c_59 => ?_)
              · refine ev_st dX12_rests_65 rfl rfl ?_
                refine ev_if_neN (t := 82) (a := t.1) dX12_rests_66 (by decide) rfl (by omega) (fun c_66 => ?_) (fun c_66 => ?_)
                · refine ev_iincN (a := t.1) (b := t.1 + 1) (L' := [some (.ref 0), some (.int x), some (.int (nI (t.1 + 1))), some (.int (nI u)), some (.int (nI b))]) dX12_rests_82 rfl (nI_1 _) rfl ?_
                  refine ev_iincN (a := b) (b := b + 1) (L' := [some (.ref 0), some (.int x), some (.int (nI (t.1 + 1))), some (.int (nI u)), some (.int (nI (b + 1)))]) dX12_rests_85 rfl (nI_1 _) rfl ?_
                  refine ev_goto (t := 35) dX12_rests_88 (by decide) ?_
                  have e : m_r1 x u t b = (t.1 + 1, t.2) := by rw [m_r1, if_pos (by simp [m_rp, b2i1 c_49, b2i1 c_59]), if_neg c_66]
                  have K := ih2 (b + 1) (t.1 + 1, t.2) (by omega) (by omega) (by rw [m_rI, ← ht, e]) (by show t.1 + 1 ≤ _; omega)
                  rw [show rsz (t.1 + 1, t.2) = rsz t by rw [rsz, rsz, if_neg c_66]; rfl, show rsJ 7 J (t.1 + 1, t.2) = rsJ 7 J t by rw [rsJ, rsJ, if_neg c_66]; rfl] at K
                  exact K
                · refine ev_st dX12_rests_69 rfl rfl ?_
                  refine ev_st dX12_rests_70 rfl rfl ?_
                  refine ev_st dX12_rests_71 rfl rfl ?_
                  refine ev_call dX12_rests_72 rfl rfl mr_12_253 rfl rfl rfl (c_tell (m := 0) (show rsz t = nI 0 by rw [rsz, if_pos c_66]; rfl) (by decide) ((nI u).toInt64)) ?_
                  rintro _ _ ⟨rfl, rfl⟩
                  show Ev lyM (d + 3) hX12_rests 75 [some (.ref 0), some (.int x), some (.int (nI t.1)), some (.int (nI u)), some (.int (nI b))] [] (ti_wr (ti_wr (ti_wr I 0 12 0) 0 11 (rsz t)) 0 11 (nI 1), ti_wl (rsJ 7 J t) 7 0 ((nI u).toInt64), R) _
                  refine ev_st dX12_rests_75 rfl rfl ?_
                  refine ev_st dX12_rests_76 rfl rfl ?_
                  refine ev_st dX12_rests_78 rfl rfl ?_
                  refine ev_call dX12_rests_79 rfl rfl mr_12_253 rfl rfl rfl (c_tell (m := 1) rfl (by decide) ((nI b).toInt64)) ?_
                  rintro _ _ ⟨rfl, rfl⟩
                  show Ev lyM (d + 3) hX12_rests 82 [some (.ref 0), some (.int x), some (.int (nI t.1)), some (.int (nI u)), some (.int (nI b))] [] (ti_wr (ti_wr (ti_wr (ti_wr I 0 12 0) 0 11 (rsz t)) 0 11 (nI 1)) 0 11 (nI 2), ti_wl (ti_wl (rsJ 7 J t) 7 0 ((nI u).toInt64)) 7 1 ((nI b).toInt64), R) _
                  refine ev_iincN (a := t.1) (b := t.1 + 1) (L' := [some (.ref 0), some (.int x), some (.int (nI (t.1 + 1))), some (.int (nI u)), some (.int (nI b))]) dX12_rests_82 rfl (nI_1 _) rfl ?_
                  refine ev_iincN (a := b) (b := b + 1) (L' := [some (.ref 0), some (.int x), some (.int (nI (t.1 + 1))), some (.int (nI u)), some (.int (nI (b + 1)))]) dX12_rests_85 rfl (nI_1 _) rfl ?_
                  refine ev_goto (t := 35) dX12_rests_88 (by decide) ?_
                  have e : m_r1 x u t b = (t.1 + 1, (u, b)) := by rw [m_r1, if_pos (by simp [m_rp, b2i1 c_49, b2i1 c_59]), if_pos c_66]
                  have K := ih2 (b + 1) (t.1 + 1, (u, b)) (by omega) (by omega) (by rw [m_rI, ← ht, e]) (by show t.1 + 1 ≤ _; omega)
                  rw [show rsz (t.1 + 1, (u, b)) = nI 2 from rfl, show rsJ 7 J (t.1 + 1, (u, b)) = ti_wl (ti_wl (rsJ 7 J t) 7 0 (nI u).toInt64) 7 1 (nI b).toInt64 by rw [rsJ, rsJ, if_pos c_66]; rfl] at K
                  rw [ti_wr2, ti_wr2]
                  exact K
              · refine ev_goto (t := 85) dX12_rests_62 (by decide) ?_
                refine ev_iincN (a := b) (b := b + 1) (L' := [some (.ref 0), some (.int x), some (.int (nI t.1)), some (.int (nI u)), some (.int (nI (b + 1)))]) dX12_rests_85 rfl (nI_1 _) rfl ?_
                refine ev_goto (t := 35) dX12_rests_88 (by decide) ?_
                have e : m_r1 x u t b = t := by rw [m_r1, if_neg (by simp [m_rp, b2i0.mp c_59])]
                exact ih2 _ t (by omega) (by omega) (by rw [m_rI, ← ht, e]) (by omega)
      refine ev_st dX12_rests_26 rfl rfl ?_
      refine ev_bipush (v := 9) dX12_rests_27 (by decide) ?_
      refine ev_ic_gtN (t := 97) (a := u) (b := 9) dX12_rests_29 (by decide) rfl rfl (by omega) (by omega) (fun c_29 => ?_) (fun c_29 => ?_)
      · refine ev_st dX12_rests_97 rfl rfl ?_
        exact ev_iret dX12_rests_98 rfl (by rw [show u = 10 by omega] at ht0; rw [← ht0]; exact ⟨rfl, rfl⟩)
      · refine ev_iconst (v := 0) dX12_rests_32 (by decide) ?_
        refine ev_st (L' := [some (.ref 0), some (.int x), some (.int (nI t.1)), some (.int (nI u)), some (.int 0)]) dX12_rests_33 rfl rfl ?_
        exact inner (by omega) 11 0 t (by omega) (by omega) ht0 (by omega)
  show Ev lyM (d + 3) hX12_rests 0 [some (.ref 0), some (.int x), none, none, none] [] (I, J, R) _
  refine ev_st dX12_rests_0 rfl rfl ?_
  refine ev_iconst (v := 0) dX12_rests_1 (by decide) ?_
  refine ev_putI dX12_rests_2 fr_12_89 rfl rfl ?_
  refine ev_st dX12_rests_5 rfl rfl ?_
  refine ev_iconst (v := 0) dX12_rests_6 (by decide) ?_
  refine ev_bipush (v := 20) dX12_rests_7 (by decide) ?_
  refine ev_call dX12_rests_9 rfl rfl mr_12_98 rfl rfl rfl (c_in1 hx) ?_
  rintro _ _ ⟨rfl, rfl⟩
  show Ev lyM (d + 3) hX12_rests 12 [some (.ref 0), some (.int x), none, none, none] [.int 1] (ti_wr I 0 12 0, J, R) _
  refine ev_if_ne (t := 17) dX12_rests_12 (by decide) (fun _ => ?_) (fun q => absurd q (by decide))
  refine ev_iconst (v := 0) dX12_rests_17 (by decide) ?_
  refine ev_st (L' := [some (.ref 0), some (.int x), some (.int 0), none, none]) dX12_rests_18 rfl rfl ?_
  refine ev_st dX12_rests_19 rfl rfl ?_
  refine ev_iconst (v := 0) dX12_rests_20 (by decide) ?_
  refine ev_putI dX12_rests_21 fr_12_92 rfl rfl ?_
  refine ev_iconst (v := 0) dX12_rests_24 (by decide) ?_
  refine ev_st (L' := [some (.ref 0), some (.int x), some (.int 0), some (.int 0), none]) dX12_rests_25 rfl rfl ?_
  exact loop 11 0 (0, 0, 0) _ (by omega) (by omega) rfl (by omega)
theorem c_count0 {I : Nat → Nat → Int32} {J : Nat → Nat → Int64} {R : Nat → Nat → Value} {d n ns : Nat} (hn : I 0 3 = nI n) (hn8 : n ≤ 8) (hns : I 0 6 = nI ns) (hns8 : ns ≤ 8) : Cal lyM (d + 1) hX12_count 2 [.ref 0, .int 0] (I, J, R) (fun r M' => r = some (.int (I 0 1)) ∧ M' = (ti_wr I 0 12 0, J, R)) := by
  show Ev lyM (d + 1) hX12_count 0 [some (.ref 0), some (.int 0)] [] (I, J, R) _
  refine ev_st dX12_count_0 rfl rfl ?_
  refine ev_iconst (v := 0) dX12_count_1 (by decide) ?_
  refine ev_putI dX12_count_2 fr_12_89 rfl rfl ?_
  refine ev_st dX12_count_5 rfl rfl ?_
  refine ev_ts (j := 0) (t := 84) dX12_count_6 rfl (by decide) (by decide) rfl (by decide) ?_
  refine ev_st dX12_count_84 rfl rfl ?_
  refine ev_getI (v := I 0 1) dX12_count_85 fr_12_13 rfl rfl rfl ?_
  exact ev_iret dX12_count_88 rfl (⟨rfl, rfl⟩)
theorem c_count1 {I : Nat → Nat → Int32} {J : Nat → Nat → Int64} {R : Nat → Nat → Value} {d n ns : Nat} (hn : I 0 3 = nI n) (hn8 : n ≤ 8) (hns : I 0 6 = nI ns) (hns8 : ns ≤ 8) : Cal lyM (d + 1) hX12_count 2 [.ref 0, .int 1] (I, J, R) (fun r M' => r = some (.int (I 0 3)) ∧ M' = (ti_wr I 0 12 0, J, R)) := by
  show Ev lyM (d + 1) hX12_count 0 [some (.ref 0), some (.int 1)] [] (I, J, R) _
  refine ev_st dX12_count_0 rfl rfl ?_
  refine ev_iconst (v := 0) dX12_count_1 (by decide) ?_
  refine ev_putI dX12_count_2 fr_12_89 rfl rfl ?_
  refine ev_st dX12_count_5 rfl rfl ?_
  refine ev_ts (j := 1) (t := 89) dX12_count_6 rfl (by decide) (by decide) rfl (by decide) ?_
  refine ev_st dX12_count_89 rfl rfl ?_
  refine ev_getI (v := I 0 3) dX12_count_90 fr_12_95 rfl rfl rfl ?_
  exact ev_iret dX12_count_93 rfl (⟨rfl, rfl⟩)
theorem c_count2 {I : Nat → Nat → Int32} {J : Nat → Nat → Int64} {R : Nat → Nat → Value} {d n ns : Nat} (hn : I 0 3 = nI n) (hn8 : n ≤ 8) (hns : I 0 6 = nI ns) (hns8 : ns ≤ 8) : Cal lyM (d + 1) hX12_count 2 [.ref 0, .int 2] (I, J, R) (fun r M' => r = some (.int (I 0 6)) ∧ M' = (ti_wr I 0 12 0, J, R)) := by
  show Ev lyM (d + 1) hX12_count 0 [some (.ref 0), some (.int 2)] [] (I, J, R) _
  refine ev_st dX12_count_0 rfl rfl ?_
  refine ev_iconst (v := 0) dX12_count_1 (by decide) ?_
  refine ev_putI dX12_count_2 fr_12_89 rfl rfl ?_
  refine ev_st dX12_count_5 rfl rfl ?_
  refine ev_ts (j := 2) (t := 94) dX12_count_6 rfl (by decide) (by decide) rfl (by decide) ?_
  refine ev_st dX12_count_94 rfl rfl ?_
  refine ev_getI (v := I 0 6) dX12_count_95 fr_12_102 rfl rfl rfl ?_
  exact ev_iret dX12_count_98 rfl (⟨rfl, rfl⟩)
theorem c_count3 {I : Nat → Nat → Int32} {J : Nat → Nat → Int64} {R : Nat → Nat → Value} {d n ns : Nat} (hn : I 0 3 = nI n) (hn8 : n ≤ 8) (hns : I 0 6 = nI ns) (hns8 : ns ≤ 8) : Cal lyM (d + 1) hX12_count 2 [.ref 0, .int 3] (I, J, R) (fun r M' => r = some (.int (I 1 24)) ∧ M' = (ti_wr I 0 12 0, J, R)) := by
  show Ev lyM (d + 1) hX12_count 0 [some (.ref 0), some (.int 3)] [] (I, J, R) _
  refine ev_st dX12_count_0 rfl rfl ?_
  refine ev_iconst (v := 0) dX12_count_1 (by decide) ?_
  refine ev_putI dX12_count_2 fr_12_89 rfl rfl ?_
  refine ev_st dX12_count_5 rfl rfl ?_
  refine ev_ts (j := 3) (t := 99) dX12_count_6 rfl (by decide) (by decide) rfl (by decide) ?_
  refine ev_st dX12_count_99 rfl rfl ?_
  refine ev_getC dX12_count_100 fr_12_9 rfl rfl ?_
  refine ev_bipush (v := 24) dX12_count_103 (by decide) ?_
  refine ev_iald (j := 24) (v := I 1 24) dX12_count_105 rfl rfl (by decide) (by decide) rfl ?_
  exact ev_iret dX12_count_106 rfl (⟨rfl, rfl⟩)
theorem c_count4 {I : Nat → Nat → Int32} {J : Nat → Nat → Int64} {R : Nat → Nat → Value} {d n ns : Nat} (hn : I 0 3 = nI n) (hn8 : n ≤ 8) (hns : I 0 6 = nI ns) (hns8 : ns ≤ 8) : Cal lyM (d + 1) hX12_count 2 [.ref 0, .int 4] (I, J, R) (fun r M' => r = some (.int (I 1 25)) ∧ M' = (ti_wr I 0 12 0, J, R)) := by
  show Ev lyM (d + 1) hX12_count 0 [some (.ref 0), some (.int 4)] [] (I, J, R) _
  refine ev_st dX12_count_0 rfl rfl ?_
  refine ev_iconst (v := 0) dX12_count_1 (by decide) ?_
  refine ev_putI dX12_count_2 fr_12_89 rfl rfl ?_
  refine ev_st dX12_count_5 rfl rfl ?_
  refine ev_ts (j := 4) (t := 107) dX12_count_6 rfl (by decide) (by decide) rfl (by decide) ?_
  refine ev_st dX12_count_107 rfl rfl ?_
  refine ev_getC dX12_count_108 fr_12_9 rfl rfl ?_
  refine ev_bipush (v := 25) dX12_count_111 (by decide) ?_
  refine ev_iald (j := 25) (v := I 1 25) dX12_count_113 rfl rfl (by decide) (by decide) rfl ?_
  exact ev_iret dX12_count_114 rfl (⟨rfl, rfl⟩)
theorem c_count5 {I : Nat → Nat → Int32} {J : Nat → Nat → Int64} {R : Nat → Nat → Value} {d n ns : Nat} (hn : I 0 3 = nI n) (hn8 : n ≤ 8) (hns : I 0 6 = nI ns) (hns8 : ns ≤ 8) : Cal lyM (d + 1) hX12_count 2 [.ref 0, .int 5] (I, J, R) (fun r M' => r = some (.int (m_cy (I 1) n)) ∧ M' = (ti_wr I 0 12 0, J, R)) := by
  show Ev lyM (d + 1) hX12_count 0 [some (.ref 0), some (.int 5)] [] (I, J, R) _
  refine ev_st dX12_count_0 rfl rfl ?_
  refine ev_iconst (v := 0) dX12_count_1 (by decide) ?_
  refine ev_putI dX12_count_2 fr_12_89 rfl rfl ?_
  refine ev_st dX12_count_5 rfl rfl ?_
  refine ev_ts (j := 5) (t := 115) dX12_count_6 rfl (by decide) (by decide) rfl (by decide) ?_
  refine ev_st dX12_count_115 rfl rfl ?_
  refine ev_st dX12_count_116 rfl rfl ?_
  refine ev_getC dX12_count_117 fr_12_9 rfl rfl ?_
  refine ev_call dX12_count_120 rfl rfl mr_12_244 rfl rfl rfl (c_carry (I := ti_wr I 0 12 0) hn hn8) ?_
  rintro _ _ ⟨rfl, rfl⟩
  show Ev lyM (d + 1) hX12_count 123 [some (.ref 0), some (.int 5)] [.int (m_cy (I 1) n)] (ti_wr I 0 12 0, J, R) _
  exact ev_iret dX12_count_123 rfl (⟨rfl, rfl⟩)
theorem c_count6 {I : Nat → Nat → Int32} {J : Nat → Nat → Int64} {R : Nat → Nat → Value} {d n ns : Nat} (hn : I 0 3 = nI n) (hn8 : n ≤ 8) (hns : I 0 6 = nI ns) (hns8 : ns ≤ 8) : Cal lyM (d + 1) hX12_count 2 [.ref 0, .int 6] (I, J, R) (fun r M' => r = some (.int (I 1 26)) ∧ M' = (ti_wr I 0 12 0, J, R)) := by
  show Ev lyM (d + 1) hX12_count 0 [some (.ref 0), some (.int 6)] [] (I, J, R) _
  refine ev_st dX12_count_0 rfl rfl ?_
  refine ev_iconst (v := 0) dX12_count_1 (by decide) ?_
  refine ev_putI dX12_count_2 fr_12_89 rfl rfl ?_
  refine ev_st dX12_count_5 rfl rfl ?_
  refine ev_ts (j := 6) (t := 124) dX12_count_6 rfl (by decide) (by decide) rfl (by decide) ?_
  refine ev_st dX12_count_124 rfl rfl ?_
  refine ev_getC dX12_count_125 fr_12_9 rfl rfl ?_
  refine ev_bipush (v := 26) dX12_count_128 (by decide) ?_
  refine ev_iald (j := 26) (v := I 1 26) dX12_count_130 rfl rfl (by decide) (by decide) rfl ?_
  exact ev_iret dX12_count_131 rfl (⟨rfl, rfl⟩)
theorem c_count7 {I : Nat → Nat → Int32} {J : Nat → Nat → Int64} {R : Nat → Nat → Value} {d n ns : Nat} (hn : I 0 3 = nI n) (hn8 : n ≤ 8) (hns : I 0 6 = nI ns) (hns8 : ns ≤ 8) : Cal lyM (d + 1) hX12_count 2 [.ref 0, .int 7] (I, J, R) (fun r M' => r = some (.int (m_bt (fun s => I 1 (16 + s)) ns)) ∧ M' = (ti_wr I 0 12 0, J, R)) := by
  show Ev lyM (d + 1) hX12_count 0 [some (.ref 0), some (.int 7)] [] (I, J, R) _
  refine ev_st dX12_count_0 rfl rfl ?_
  refine ev_iconst (v := 0) dX12_count_1 (by decide) ?_
  refine ev_putI dX12_count_2 fr_12_89 rfl rfl ?_
  refine ev_st dX12_count_5 rfl rfl ?_
  refine ev_ts (j := 7) (t := 132) dX12_count_6 rfl (by decide) (by decide) rfl (by decide) ?_
  refine ev_st dX12_count_132 rfl rfl ?_
  refine ev_call dX12_count_133 rfl rfl mr_12_323 rfl rfl rfl (c_saidBits (I := ti_wr I 0 12 0) hns hns8) ?_
  rintro _ _ ⟨rfl, rfl⟩
  show Ev lyM (d + 1) hX12_count 136 [some (.ref 0), some (.int 7)] [.int (m_bt (fun s => I 1 (16 + s)) ns)] (ti_wr I 0 12 0, J, R) _
  exact ev_iret dX12_count_136 rfl (⟨rfl, rfl⟩)
theorem c_count8 {I : Nat → Nat → Int32} {J : Nat → Nat → Int64} {R : Nat → Nat → Value} {d n ns : Nat} (hn : I 0 3 = nI n) (hn8 : n ≤ 8) (hns : I 0 6 = nI ns) (hns8 : ns ≤ 8) : Cal lyM (d + 1) hX12_count 2 [.ref 0, .int 8] (I, J, R) (fun r M' => r = some (.int (I 1 27)) ∧ M' = (ti_wr I 0 12 0, J, R)) := by
  show Ev lyM (d + 1) hX12_count 0 [some (.ref 0), some (.int 8)] [] (I, J, R) _
  refine ev_st dX12_count_0 rfl rfl ?_
  refine ev_iconst (v := 0) dX12_count_1 (by decide) ?_
  refine ev_putI dX12_count_2 fr_12_89 rfl rfl ?_
  refine ev_st dX12_count_5 rfl rfl ?_
  refine ev_ts (j := 8) (t := 137) dX12_count_6 rfl (by decide) (by decide) rfl (by decide) ?_
  refine ev_st dX12_count_137 rfl rfl ?_
  refine ev_getC dX12_count_138 fr_12_9 rfl rfl ?_
  refine ev_bipush (v := 27) dX12_count_141 (by decide) ?_
  refine ev_iald (j := 27) (v := I 1 27) dX12_count_143 rfl rfl (by decide) (by decide) rfl ?_
  exact ev_iret dX12_count_144 rfl (⟨rfl, rfl⟩)
theorem c_count9 {I : Nat → Nat → Int32} {J : Nat → Nat → Int64} {R : Nat → Nat → Value} {d n ns : Nat} (hn : I 0 3 = nI n) (hn8 : n ≤ 8) (hns : I 0 6 = nI ns) (hns8 : ns ≤ 8) : Cal lyM (d + 1) hX12_count 2 [.ref 0, .int 9] (I, J, R) (fun r M' => r = some (.int (I 1 28)) ∧ M' = (ti_wr I 0 12 0, J, R)) := by
  show Ev lyM (d + 1) hX12_count 0 [some (.ref 0), some (.int 9)] [] (I, J, R) _
  refine ev_st dX12_count_0 rfl rfl ?_
  refine ev_iconst (v := 0) dX12_count_1 (by decide) ?_
  refine ev_putI dX12_count_2 fr_12_89 rfl rfl ?_
  refine ev_st dX12_count_5 rfl rfl ?_
  refine ev_ts (j := 9) (t := 145) dX12_count_6 rfl (by decide) (by decide) rfl (by decide) ?_
  refine ev_st dX12_count_145 rfl rfl ?_
  refine ev_getC dX12_count_146 fr_12_9 rfl rfl ?_
  refine ev_bipush (v := 28) dX12_count_149 (by decide) ?_
  refine ev_iald (j := 28) (v := I 1 28) dX12_count_151 rfl rfl (by decide) (by decide) rfl ?_
  exact ev_iret dX12_count_152 rfl (⟨rfl, rfl⟩)
theorem c_count10 {I : Nat → Nat → Int32} {J : Nat → Nat → Int64} {R : Nat → Nat → Value} {d n ns : Nat} (hn : I 0 3 = nI n) (hn8 : n ≤ 8) (hns : I 0 6 = nI ns) (hns8 : ns ≤ 8) : Cal lyM (d + 1) hX12_count 2 [.ref 0, .int 10] (I, J, R) (fun r M' => r = some (.int (I 0 33)) ∧ M' = (ti_wr I 0 12 0, J, R)) := by
  show Ev lyM (d + 1) hX12_count 0 [some (.ref 0), some (.int 10)] [] (I, J, R) _
  refine ev_st dX12_count_0 rfl rfl ?_
  refine ev_iconst (v := 0) dX12_count_1 (by decide) ?_
  refine ev_putI dX12_count_2 fr_12_89 rfl rfl ?_
  refine ev_st dX12_count_5 rfl rfl ?_
  refine ev_ts (j := 10) (t := 153) dX12_count_6 rfl (by decide) (by decide) rfl (by decide) ?_
  refine ev_st dX12_count_153 rfl rfl ?_
  refine ev_getI (v := I 0 33) dX12_count_154 fr_12_346 rfl rfl rfl ?_
  exact ev_iret dX12_count_157 rfl (⟨rfl, rfl⟩)
theorem c_count11 {I : Nat → Nat → Int32} {J : Nat → Nat → Int64} {R : Nat → Nat → Value} {d n ns : Nat} (hn : I 0 3 = nI n) (hn8 : n ≤ 8) (hns : I 0 6 = nI ns) (hns8 : ns ≤ 8) : Cal lyM (d + 1) hX12_count 2 [.ref 0, .int 11] (I, J, R) (fun r M' => r = some (.int (I 0 37)) ∧ M' = (ti_wr I 0 12 0, J, R)) := by
  show Ev lyM (d + 1) hX12_count 0 [some (.ref 0), some (.int 11)] [] (I, J, R) _
  refine ev_st dX12_count_0 rfl rfl ?_
  refine ev_iconst (v := 0) dX12_count_1 (by decide) ?_
  refine ev_putI dX12_count_2 fr_12_89 rfl rfl ?_
  refine ev_st dX12_count_5 rfl rfl ?_
  refine ev_ts (j := 11) (t := 158) dX12_count_6 rfl (by decide) (by decide) rfl (by decide) ?_
  refine ev_st dX12_count_158 rfl rfl ?_
  refine ev_getI (v := I 0 37) dX12_count_159 fr_12_362 rfl rfl rfl ?_
  exact ev_iret dX12_count_162 rfl (⟨rfl, rfl⟩)
theorem c_count12 {I : Nat → Nat → Int32} {J : Nat → Nat → Int64} {R : Nat → Nat → Value} {d n ns : Nat} (hn : I 0 3 = nI n) (hn8 : n ≤ 8) (hns : I 0 6 = nI ns) (hns8 : ns ≤ 8) : Cal lyM (d + 1) hX12_count 2 [.ref 0, .int 12] (I, J, R) (fun r M' => r = some (.int (I 0 25)) ∧ M' = (ti_wr I 0 12 0, J, R)) := by
  show Ev lyM (d + 1) hX12_count 0 [some (.ref 0), some (.int 12)] [] (I, J, R) _
  refine ev_st dX12_count_0 rfl rfl ?_
  refine ev_iconst (v := 0) dX12_count_1 (by decide) ?_
  refine ev_putI dX12_count_2 fr_12_89 rfl rfl ?_
  refine ev_st dX12_count_5 rfl rfl ?_
  refine ev_ts (j := 12) (t := 163) dX12_count_6 rfl (by decide) (by decide) rfl (by decide) ?_
  refine ev_st dX12_count_163 rfl rfl ?_
  refine ev_getI (v := I 0 25) dX12_count_164 fr_12_147 rfl rfl rfl ?_
  exact ev_iret dX12_count_167 rfl (⟨rfl, rfl⟩)
theorem c_count13 {I : Nat → Nat → Int32} {J : Nat → Nat → Int64} {R : Nat → Nat → Value} {d n ns : Nat} (hn : I 0 3 = nI n) (hn8 : n ≤ 8) (hns : I 0 6 = nI ns) (hns8 : ns ≤ 8) : Cal lyM (d + 1) hX12_count 2 [.ref 0, .int 13] (I, J, R) (fun r M' => r = some (.int (I 0 11)) ∧ M' = (ti_wr I 0 12 0, J, R)) := by
  show Ev lyM (d + 1) hX12_count 0 [some (.ref 0), some (.int 13)] [] (I, J, R) _
  refine ev_st dX12_count_0 rfl rfl ?_
  refine ev_iconst (v := 0) dX12_count_1 (by decide) ?_
  refine ev_putI dX12_count_2 fr_12_89 rfl rfl ?_
  refine ev_st dX12_count_5 rfl rfl ?_
  refine ev_ts (j := 13) (t := 168) dX12_count_6 rfl (by decide) (by decide) rfl (by decide) ?_
  refine ev_st dX12_count_168 rfl rfl ?_
  refine ev_getI (v := I 0 11) dX12_count_169 fr_12_92 rfl rfl rfl ?_
  exact ev_iret dX12_count_172 rfl (⟨rfl, rfl⟩)
theorem c_count14 {I : Nat → Nat → Int32} {J : Nat → Nat → Int64} {R : Nat → Nat → Value} {d n ns : Nat} (hn : I 0 3 = nI n) (hn8 : n ≤ 8) (hns : I 0 6 = nI ns) (hns8 : ns ≤ 8) : Cal lyM (d + 1) hX12_count 2 [.ref 0, .int 14] (I, J, R) (fun r M' => r = some (.int (I 0 9)) ∧ M' = (ti_wr I 0 12 0, J, R)) := by
  show Ev lyM (d + 1) hX12_count 0 [some (.ref 0), some (.int 14)] [] (I, J, R) _
  refine ev_st dX12_count_0 rfl rfl ?_
  refine ev_iconst (v := 0) dX12_count_1 (by decide) ?_
  refine ev_putI dX12_count_2 fr_12_89 rfl rfl ?_
  refine ev_st dX12_count_5 rfl rfl ?_
  refine ev_ts (j := 14) (t := 173) dX12_count_6 rfl (by decide) (by decide) rfl (by decide) ?_
  refine ev_st dX12_count_173 rfl rfl ?_
  refine ev_getI (v := I 0 9) dX12_count_174 fr_12_105 rfl rfl rfl ?_
  exact ev_iret dX12_count_177 rfl (⟨rfl, rfl⟩)
theorem c_count15 {I : Nat → Nat → Int32} {J : Nat → Nat → Int64} {R : Nat → Nat → Value} {d n ns : Nat} (hn : I 0 3 = nI n) (hn8 : n ≤ 8) (hns : I 0 6 = nI ns) (hns8 : ns ≤ 8) : Cal lyM (d + 1) hX12_count 2 [.ref 0, .int 15] (I, J, R) (fun r M' => r = some (.int (bc (m_bt (fun s => I 1 (16 + s)) ns))) ∧ M' = (ti_wr I 0 12 0, J, R)) := by
  show Ev lyM (d + 1) hX12_count 0 [some (.ref 0), some (.int 15)] [] (I, J, R) _
  refine ev_st dX12_count_0 rfl rfl ?_
  refine ev_iconst (v := 0) dX12_count_1 (by decide) ?_
  refine ev_putI dX12_count_2 fr_12_89 rfl rfl ?_
  refine ev_st dX12_count_5 rfl rfl ?_
  refine ev_ts (j := 15) (t := 178) dX12_count_6 rfl (by decide) (by decide) rfl (by decide) ?_
  refine ev_st dX12_count_178 rfl rfl ?_
  refine ev_call dX12_count_179 rfl rfl mr_12_323 rfl rfl rfl (c_saidBits (I := ti_wr I 0 12 0) hns hns8) ?_
  rintro _ _ ⟨rfl, rfl⟩
  show Ev lyM (d + 1) hX12_count 182 [some (.ref 0), some (.int 15)] [.int (m_bt (fun s => I 1 (16 + s)) ns)] (ti_wr I 0 12 0, J, R) _
  refine ev_call dX12_count_182 rfl rfl mr_12_214 rfl rfl rfl (c_bc (m_bt (fun s => I 1 (16 + s)) ns)) ?_
  rintro _ _ ⟨rfl, rfl⟩
  show Ev lyM (d + 1) hX12_count 185 [some (.ref 0), some (.int 15)] [.int (bc (m_bt (fun s => I 1 (16 + s)) ns))] (ti_wr I 0 12 0, J, R) _
  exact ev_iret dX12_count_185 rfl (⟨rfl, rfl⟩)
theorem c_countD {I : Nat → Nat → Int32} {J : Nat → Nat → Int64} {R : Nat → Nat → Value} {d : Nat} {x : Int32} (hx : ix 16 x = none) : Cal lyM (d + 1) hX12_count 2 [.ref 0, .int x] (I, J, R) (fun r M' => r = some (.int (-1)) ∧ M' = (ti_wr I 0 12 0, J, R)) := by
  show Ev lyM (d + 1) hX12_count 0 [some (.ref 0), some (.int x)] [] (I, J, R) _
  refine ev_st dX12_count_0 rfl rfl ?_
  refine ev_iconst (v := 0) dX12_count_1 (by decide) ?_
  refine ev_putI dX12_count_2 fr_12_89 rfl rfl ?_
  refine ev_st dX12_count_5 rfl rfl ?_
  refine ev_tsD (j := 16) (t := 186) dX12_count_6 (by decide) (by decide) hx (by decide) ?_
  refine ev_iconst (v := -1) dX12_count_186 (by decide) ?_
  exact ev_iret dX12_count_187 rfl (⟨rfl, rfl⟩)
