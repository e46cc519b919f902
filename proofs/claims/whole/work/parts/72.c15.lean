/-! the class: who must be disbelieved; bids; counts, rows, bearers, sayings, sheets -/
def k_ag (w s i : Nat → Int32) (x : Int32) : Nat → Int32 × Int32
  | 0 => (0, 0)
  | k + 1 => if k_b x (w k) = 0 then ((k_ag w s i x k).1 ||| (i k <<< (s k &&& 31)), (k_ag w s i x k).2 ||| ((1 - i k) <<< (s k &&& 31))) else k_ag w s i x k
def k_da (w s i : Nat → Int32) (nc : Nat) (x : Int32) : Bool := decide ((k_ag w s i x nc).1 &&& (k_ag w s i x nc).2 = 0)
set_option maxHeartbeats 1000000 in
theorem k_agree {I : Nat → Nat → Int32} {J : Nat → Nat → Int64} {R : Nat → Nat → Value} {d nc : Nat} (hnc : I 23 8 = nI nc) (hnc16 : nc ≤ 16) (x : Int32) : Cal lyC d hX1_agreeWithout 5 [.ref 23, .int x] (I, J, R) (fun r M' => r = some (.int (b2i (k_da (I 26) (I 27) (I 28) nc x))) ∧ M' = (I, J, R)) := by
  have loop : ∀ (k b : Nat) (m l : Int32), b ≤ nc → nc - b < k → (m, l) = k_ag (I 26) (I 27) (I 28) x b → Ev lyC d hX1_agreeWithout 7 [some (.ref 23), some (.int x), some (.int m), some (.int l), some (.int (nI b))] [] (I, J, R) (fun r M' => r = some (.int (b2i (k_da (I 26) (I 27) (I 28) nc x))) ∧ M' = (I, J, R)) := by
    intro k
    induction k with
    | zero => intro b m l h1 h2; omega
    | succ k ih =>
      intro b m l hb hk ht
      refine ev_st dX1_agreeWithout_7 rfl rfl ?_
      refine ev_st dX1_agreeWithout_9 rfl rfl ?_
      refine ev_getI (v := nI nc) dX1_agreeWithout_10 fr_1_119 rfl rfl hnc ?_
      refine ev_ic_geN (t := 74) (a := b) (b := nc) dX1_agreeWithout_13 (by decide) rfl rfl (by omega) (by omega) (fun c_13 => ?_) (fun c_13 => ?_)
      · refine ev_st dX1_agreeWithout_74 rfl rfl ?_
        refine ev_st dX1_agreeWithout_75 rfl rfl ?_
        refine ev_st dX1_agreeWithout_76 rfl rfl ?_
        refine ev_if_ne (t := 84) (x := m &&& l) dX1_agreeWithout_77 (by decide) (fun c_77 => ?_) (fun c_77 => ?_)
        · refine ev_iconst (v := 0) dX1_agreeWithout_84 (by decide) ?_
          exact ev_zret dX1_agreeWithout_85 rfl (by decide) (⟨by rw [show b = nc by omega] at ht; rw [k_da, ← ht]; simp [b2i, c_77], rfl⟩)
        · refine ev_iconst (v := 1) dX1_agreeWithout_80 (by decide) ?_
          refine ev_goto (t := 85) dX1_agreeWithout_81 (by decide) ?_
          exact ev_zret dX1_agreeWithout_85 rfl (by decide) (⟨by rw [show b = nc by omega] at ht; rw [k_da, ← ht]; simp [b2i, c_77], rfl⟩)
      · refine ev_st dX1_agreeWithout_16 rfl rfl ?_
        refine ev_st dX1_agreeWithout_17 rfl rfl ?_
        refine ev_getC dX1_agreeWithout_18 fr_1_18 rfl rfl ?_
        refine ev_st dX1_agreeWithout_21 rfl rfl ?_
        refine ev_iald (j := b) (v := I 26 b) dX1_agreeWithout_23 rfl rfl (by omega) (by decide) rfl ?_
        refine ev_st dX1_agreeWithout_24 rfl rfl ?_
        refine ev_iconst (v := 1) dX1_agreeWithout_25 (by decide) ?_
        refine ev_st dX1_agreeWithout_26 rfl rfl ?_
        refine ev_if_ne (t := 68) (x := (x >>> ((I 26 b) &&& 31)) &&& 1) dX1_agreeWithout_27 (by decide) (fun c_27 => ?_) (fun c_27 => ?_)
        · refine ev_iincN (a := b) (b := b + 1) (L' := [some (.ref 23), some (.int x), some (.int m), some (.int l), some (.int (nI (b + 1)))]) dX1_agreeWithout_68 rfl (nI_1 _) rfl ?_
          refine ev_goto (t := 7) dX1_agreeWithout_71 (by decide) ?_
          exact ih _ _ _ (by omega) (by omega) (by simp only [k_ag, ← ht]; rw [if_neg (show ¬ k_b x (I 26 b) = 0 from c_27)])
        · refine ev_st dX1_agreeWithout_30 rfl rfl ?_
          refine ev_st dX1_agreeWithout_31 rfl rfl ?_
          refine ev_getC dX1_agreeWithout_32 fr_1_24 rfl rfl ?_
          refine ev_st dX1_agreeWithout_35 rfl rfl ?_
          refine ev_iald (j := b) (v := I 28 b) dX1_agreeWithout_37 rfl rfl (by omega) (by decide) rfl ?_
          refine ev_st dX1_agreeWithout_38 rfl rfl ?_
          refine ev_getC dX1_agreeWithout_39 fr_1_21 rfl rfl ?_
          refine ev_st dX1_agreeWithout_42 rfl rfl ?_
          refine ev_iald (j := b) (v := I 27 b) dX1_agreeWithout_44 rfl rfl (by omega) (by decide) rfl ?_
          refine ev_st dX1_agreeWithout_45 rfl rfl ?_
          refine ev_st dX1_agreeWithout_46 rfl rfl ?_
          refine ev_st (L' := [some (.ref 23), some (.int x), some (.int (m ||| ((I 28 b) <<< ((I 27 b) &&& 31)))), some (.int l), some (.int (nI b))]) dX1_agreeWithout_47 rfl rfl ?_
          refine ev_st dX1_agreeWithout_48 rfl rfl ?_
          refine ev_iconst (v := 1) dX1_agreeWithout_49 (by decide) ?_
          refine ev_st dX1_agreeWithout_50 rfl rfl ?_
          refine ev_getC dX1_agreeWithout_51 fr_1_24 rfl rfl ?_
          refine ev_st dX1_agreeWithout_54 rfl rfl ?_
          refine ev_iald (j := b) (v := I 28 b) dX1_agreeWithout_56 rfl rfl (by omega) (by decide) rfl ?_
          refine ev_st dX1_agreeWithout_57 rfl rfl ?_
          refine ev_st dX1_agreeWithout_58 rfl rfl ?_
          refine ev_getC dX1_agreeWithout_59 fr_1_21 rfl rfl ?_
          refine ev_st dX1_agreeWithout_62 rfl rfl ?_
          refine ev_iald (j := b) (v := I 27 b) dX1_agreeWithout_64 rfl rfl (by omega) (by decide) rfl ?_
          refine ev_st dX1_agreeWithout_65 rfl rfl ?_
          refine ev_st dX1_agreeWithout_66 rfl rfl ?_
          refine ev_st (L' := [some (.ref 23), some (.int x), some (.int (m ||| ((I 28 b) <<< ((I 27 b) &&& 31)))), some (.int (l ||| ((1 - (I 28 b)) <<< ((I 27 b) &&& 31)))), some (.int (nI b))]) dX1_agreeWithout_67 rfl rfl ?_
          refine ev_iincN (a := b) (b := b + 1) (L' := [some (.ref 23), some (.int x), some (.int (m ||| ((I 28 b) <<< ((I 27 b) &&& 31)))), some (.int (l ||| ((1 - (I 28 b)) <<< ((I 27 b) &&& 31)))), some (.int (nI (b + 1)))]) dX1_agreeWithout_68 rfl (nI_1 _) rfl ?_
          refine ev_goto (t := 7) dX1_agreeWithout_71 (by decide) ?_
          exact ih _ _ _ (by omega) (by omega) (by simp only [k_ag, ← ht]; rw [if_pos (show k_b x (I 26 b) = 0 from c_27)])
  show Ev lyC d hX1_agreeWithout 0 [some (.ref 23), some (.int x), none, none, none] [] (I, J, R) _
  refine ev_iconst (v := 0) dX1_agreeWithout_0 (by decide) ?_
  refine ev_st (L' := [some (.ref 23), some (.int x), some (.int 0), none, none]) dX1_agreeWithout_1 rfl rfl ?_
  refine ev_iconst (v := 0) dX1_agreeWithout_2 (by decide) ?_
  refine ev_st (L' := [some (.ref 23), some (.int x), some (.int 0), some (.int 0), none]) dX1_agreeWithout_3 rfl rfl ?_
  refine ev_iconst (v := 0) dX1_agreeWithout_4 (by decide) ?_
  refine ev_st (L' := [some (.ref 23), some (.int x), some (.int 0), some (.int 0), some (.int 0)]) dX1_agreeWithout_5 rfl rfl ?_
  exact loop (nc + 1) 0 0 0 (by omega) (by omega) rfl
set_option maxHeartbeats 1000000 in
theorem k_fewestDis {I : Nat → Nat → Int32} {J : Nat → Nat → Int64} {R : Nat → Nat → Value} {d nc : Nat} (hnc : I 23 8 = nI nc) (hnc16 : nc ≤ 16) : Cal lyC (d + 2) hX1_fewestDisbelieved 3 [.ref 23] (I, J, R) (fun r M' => ∃ I3 J3, M' = (I3, J3, R) ∧ fC I I3 ∧ fsR (fun t => k_da (I 26) (I 27) (I 28) nc (nI t)) 4 (fun _ => r = some (.int 4) ∧ tC [15] I3 J3) (fun s => r = some (.int (nI (cN s))) ∧ tC [(nI s).toInt64] I3 J3)) := by
  have loop : ∀ (k u : Nat) (z : Option Value), u ≤ 4 → 4 - u < k → (∀ t, t < 16 → cN t < u → k_da (I 26) (I 27) (I 28) nc (nI t) = false) → Ev lyC (d + 2) hX1_fewestDisbelieved 2 [some (.ref 23), some (.int (nI u)), z] [] (I, J, R) (fun r M' => ∃ I3 J3, M' = (I3, J3, R) ∧ fC I I3 ∧ fsR (fun t => k_da (I 26) (I 27) (I 28) nc (nI t)) 4 (fun _ => r = some (.int 4) ∧ tC [15] I3 J3) (fun s => r = some (.int (nI (cN s))) ∧ tC [(nI s).toInt64] I3 J3)) := by
    intro k
    induction k with
    | zero => intro u z h1 h2; omega
    | succ k ih =>
      intro u z hu hk hA
      have inner : u < 4 → ∀ (k2 b : Nat), b ≤ 16 → 16 - b < k2 → (∀ t, t < b → cN t = u → k_da (I 26) (I 27) (I 28) nc (nI t) = false) → Ev lyC (d + 2) hX1_fewestDisbelieved 9 [some (.ref 23), some (.int (nI u)), some (.int (nI b))] [] (I, J, R) (fun r M' => ∃ I3 J3, M' = (I3, J3, R) ∧ fC I I3 ∧ fsR (fun t => k_da (I 26) (I 27) (I 28) nc (nI t)) 4 (fun _ => r = some (.int 4) ∧ tC [15] I3 J3) (fun s => r = some (.int (nI (cN s))) ∧ tC [(nI s).toInt64] I3 J3)) := by
        intro hun k2
        induction k2 with
        | zero => intro b h1 h2; omega
        | succ k2 ih2 =>
          intro b hb hk2 hB
          have hcb : b < 16 → cN b ≤ 8 := fun q => cN_8 b (by omega)
          refine ev_st dX1_fewestDisbelieved_9 rfl rfl ?_
          refine ev_bipush (v := 16) dX1_fewestDisbelieved_10 (by decide) ?_
          refine ev_ic_geN (t := 48) (a := b) (b := 16) dX1_fewestDisbelieved_12 (by decide) rfl rfl (by omega) (by omega) (fun c_12 => ?_) (fun c_12 => ?_)
          · refine ev_iincN (a := u) (b := u + 1) (L' := [some (.ref 23), some (.int (nI (u + 1))), some (.int (nI b))]) dX1_fewestDisbelieved_48 rfl (nI_1 _) rfl ?_
            refine ev_goto (t := 2) dX1_fewestDisbelieved_51 (by decide) ?_
            exact ih _ _ (by omega) (by omega) (fun t h1 h2 => (Nat.lt_succ_iff_lt_or_eq.mp h2).elim (hA t h1) (hB t (by omega)))
          · refine ev_st dX1_fewestDisbelieved_15 rfl rfl ?_
            refine ev_call dX1_fewestDisbelieved_16 rfl rfl mr_1_38 rfl rfl rfl (c_bcN (by omega)) ?_
            rintro _ _ ⟨rfl, rfl⟩
            show Ev lyC (d + 2) hX1_fewestDisbelieved 19 [some (.ref 23), some (.int (nI u)), some (.int (nI b))] [.int (nI (cN b))] (I, J, R) _
            refine ev_st dX1_fewestDisbelieved_19 rfl rfl ?_
            refine ev_ic_neN (t := 42) (a := cN b) (b := u) dX1_fewestDisbelieved_20 (by decide) rfl rfl (by omega) (by omega) (fun c_20 => ?_) (fun c_20 => ?_)
            · refine ev_iincN (a := b) (b := b + 1) (L' := [some (.ref 23), some (.int (nI u)), some (.int (nI (b + 1)))]) dX1_fewestDisbelieved_42 rfl (nI_1 _) rfl ?_
              refine ev_goto (t := 9) dX1_fewestDisbelieved_45 (by decide) ?_
              exact ih2 _ (by omega) (by omega) (all_b hB (fun e => absurd e c_20))
            · refine ev_st dX1_fewestDisbelieved_23 rfl rfl ?_
              refine ev_st dX1_fewestDisbelieved_24 rfl rfl ?_
              refine ev_call dX1_fewestDisbelieved_25 rfl rfl mr_1_122 rfl rfl rfl (k_agree hnc hnc16 (nI b)) ?_
              rintro _ _ ⟨rfl, rfl⟩
              show Ev lyC (d + 2) hX1_fewestDisbelieved 28 [some (.ref 23), some (.int (nI u)), some (.int (nI b))] [.int (b2i (k_da (I 26) (I 27) (I 28) nc (nI b)))] (I, J, R) _
              refine ev_if_eq (t := 42) (x := b2i (k_da (I 26) (I 27) (I 28) nc (nI b))) dX1_fewestDisbelieved_28 (by decide) (fun c_28 => ?_) (fun c_28 => ?_)
              · refine ev_iincN (a := b) (b := b + 1) (L' := [some (.ref 23), some (.int (nI u)), some (.int (nI (b + 1)))]) dX1_fewestDisbelieved_42 rfl (nI_1 _) rfl ?_
                refine ev_goto (t := 9) dX1_fewestDisbelieved_45 (by decide) ?_
                exact ih2 _ (by omega) (by omega) (all_b hB (fun e => b2i0.mp c_28))
              · refine ev_st dX1_fewestDisbelieved_31 rfl rfl ?_
                refine ev_getC dX1_fewestDisbelieved_32 fr_1_34 rfl rfl ?_
                refine ev_st dX1_fewestDisbelieved_35 rfl rfl ?_
                refine ev_st dX1_fewestDisbelieved_36 rfl rfl ?_
                refine ev_call dX1_fewestDisbelieved_37 rfl rfl mr_1_48 rfl rfl rfl (k_tell1 ((nI b).toInt64)) ?_
                rintro _ _ ⟨rfl, rfl⟩
                show Ev lyC (d + 2) hX1_fewestDisbelieved 40 [some (.ref 23), some (.int (nI u)), some (.int (nI b))] [] (ti_wr I 3 1 (nI 1), ti_wl J 4 0 ((nI b).toInt64), R) _
                refine ev_st dX1_fewestDisbelieved_40 rfl rfl ?_
                exact ev_iret dX1_fewestDisbelieved_41 rfl (⟨_, _, rfl, (fC.rf.w (p := 3) (k := 1) rfl _), Or.inl ⟨b, by omega, by omega, b2i_ne c_28, fun t h1 h2 => h2.elim (fun q => hA t h1 (by omega)) (fun q => hB t q.2 (by omega)), by rw [c_20], tC1 rfl rfl⟩⟩)
      refine ev_st dX1_fewestDisbelieved_2 rfl rfl ?_
      refine ev_iconst (v := 4) dX1_fewestDisbelieved_3 (by decide) ?_
      refine ev_ic_geN (t := 54) (a := u) (b := 4) dX1_fewestDisbelieved_4 (by decide) rfl rfl (by omega) (by omega) (fun c_4 => ?_) (fun c_4 => ?_)
      · refine ev_st dX1_fewestDisbelieved_54 rfl rfl ?_
        refine ev_getC dX1_fewestDisbelieved_55 fr_1_34 rfl rfl ?_
        refine ev_ldc2 (v := 15) dX1_fewestDisbelieved_58 rfl ?_
        refine ev_call dX1_fewestDisbelieved_61 rfl rfl mr_1_48 rfl rfl rfl (k_tell1 15) ?_
        rintro _ _ ⟨rfl, rfl⟩
        show Ev lyC (d + 2) hX1_fewestDisbelieved 64 [some (.ref 23), some (.int (nI u)), z] [] (ti_wr I 3 1 (nI 1), ti_wl J 4 0 15, R) _
        refine ev_iconst (v := 4) dX1_fewestDisbelieved_64 (by decide) ?_
        exact ev_iret dX1_fewestDisbelieved_65 rfl (⟨_, _, rfl, fC.rf.w (p := 3) (k := 1) rfl _, Or.inr ⟨fun t h1 h2 => hA t h1 (by omega), rfl, tC1 rfl rfl⟩⟩)
      · refine ev_iconst (v := 0) dX1_fewestDisbelieved_7 (by decide) ?_
        refine ev_st (L' := [some (.ref 23), some (.int (nI u)), some (.int 0)]) dX1_fewestDisbelieved_8 rfl rfl ?_
        exact inner (by omega) 17 0 (by omega) (by omega) (fun t h1 h2 => by omega)
  show Ev lyC (d + 2) hX1_fewestDisbelieved 0 [some (.ref 23), none, none] [] (I, J, R) _
  refine ev_iconst (v := 0) dX1_fewestDisbelieved_0 (by decide) ?_
  refine ev_st (L' := [some (.ref 23), some (.int 0), none]) dX1_fewestDisbelieved_1 rfl rfl ?_
  exact loop (4 + 1) 0 _ (by omega) (by omega) (fun t h1 h2 => by omega)
def k_bg (x y v : Int32) : Int32 := if y < x then 0 else if x = y then (if x / 2 < v then x / 2 else v) else (if x < v then x else v)
def k_bb9 (x y v : Int32) : Bool := allB (fun k => !decide (k_bg x y v < k_bg (nI k) y v)) 10
theorem k_bidGets {I : Nat → Nat → Int32} {J : Nat → Nat → Int64} {R : Nat → Nat → Value} {d : Nat} (x y v : Int32) : Cal lyC (d + 1) hX11_bidGets 3 [.int x, .int y, .int v] (I, J, R) (fun r M' => r = some (.int (k_bg x y v)) ∧ M' = (I, J, R)) := by
  show Ev lyC (d + 1) hX11_bidGets 0 [some (.int x), some (.int y), some (.int v)] [] (I, J, R) _
  refine ev_st dX11_bidGets_0 rfl rfl ?_
  refine ev_st dX11_bidGets_1 rfl rfl ?_
  refine ev_ic_le (t := 7) (x := x) (y := y) dX11_bidGets_2 (by decide) (fun c_2 => ?_) (fun c_2 => ?_)
  · refine ev_st dX11_bidGets_7 rfl rfl ?_
    refine ev_st dX11_bidGets_8 rfl rfl ?_
    refine ev_st dX11_bidGets_9 rfl rfl ?_
    refine ev_ic_ne (t := 19) (x := x) (y := y) dX11_bidGets_10 (by decide) (fun c_10 => ?_) (fun c_10 => ?_)
    · refine ev_st dX11_bidGets_19 rfl rfl ?_
      refine ev_min (v := if x < v then x else v) dX11_bidGets_20 br_11_356 rfl rfl ?_
      exact ev_iret dX11_bidGets_23 rfl (⟨by simp [k_bg, c_2, c_10], rfl⟩)
    · refine ev_st dX11_bidGets_13 rfl rfl ?_
      refine ev_iconst (v := 2) dX11_bidGets_14 (by decide) ?_
      refine ev_div dX11_bidGets_15 (by decide) ?_
      refine ev_goto (t := 20) dX11_bidGets_16 (by decide) ?_
      refine ev_min (v := if (x / 2) < v then (x / 2) else v) dX11_bidGets_20 br_11_356 rfl rfl ?_
      exact ev_iret dX11_bidGets_23 rfl (⟨by simp [k_bg, c_2, c_10], rfl⟩)
  · refine ev_iconst (v := 0) dX11_bidGets_5 (by decide) ?_
    exact ev_iret dX11_bidGets_6 rfl (⟨by simp [k_bg, c_2], rfl⟩)
set_option maxHeartbeats 1000000 in
theorem k_isBestBid {I : Nat → Nat → Int32} {J : Nat → Nat → Int64} {R : Nat → Nat → Value} {d : Nat} (x y v : Int32) : Cal lyC (d + 2) hX11_isBestBid 5 [.int x, .int y, .int v] (I, J, R) (fun r M' => r = some (.int (b2i (k_bb9 x y v))) ∧ M' = (I, J, R)) := by
  have loop : ∀ (k b : Nat), b ≤ 10 → 10 - b < k → allB (fun k => !decide (k_bg x y v < k_bg (nI k) y v)) b = true → Ev lyC (d + 2) hX11_isBestBid 10 [some (.int x), some (.int y), some (.int v), some (.int (k_bg x y v)), some (.int (nI b))] [] (I, J, R) (fun r M' => r = some (.int (b2i (k_bb9 x y v))) ∧ M' = (I, J, R)) := by
    intro k
    induction k with
    | zero => intro b h1 h2; omega
    | succ k ih =>
      intro b hb hk hm
      refine ev_st dX11_isBestBid_10 rfl rfl ?_
      refine ev_bipush (v := 9) dX11_isBestBid_12 (by decide) ?_
      refine ev_ic_gtN (t := 36) (a := b) (b := 9) dX11_isBestBid_14 (by decide) rfl rfl (by omega) (by omega) (fun c_14 => ?_) (fun c_14 => ?_)
      · refine ev_iconst (v := 1) dX11_isBestBid_36 (by decide) ?_
        exact ev_zret dX11_isBestBid_37 rfl (by decide) (⟨by rw [show b = 10 by omega] at hm; rw [show k_bb9 x y v = allB (fun k => !decide (k_bg x y v < k_bg (nI k) y v)) 10 from rfl, hm]; rfl, rfl⟩)
      · refine ev_st dX11_isBestBid_17 rfl rfl ?_
        refine ev_st dX11_isBestBid_19 rfl rfl ?_
        refine ev_st dX11_isBestBid_20 rfl rfl ?_
        refine ev_call dX11_isBestBid_21 rfl rfl mr_11_386 rfl rfl rfl (k_bidGets (I := I) (J := J) (nI b) y v) ?_
        rintro _ _ ⟨rfl, rfl⟩
        show Ev lyC (d + 2) hX11_isBestBid 24 [some (.int x), some (.int y), some (.int v), some (.int (k_bg x y v)), some (.int (nI b))] [.int (k_bg (nI b) y v)] (I, J, R) _
        refine ev_st dX11_isBestBid_24 rfl rfl ?_
        refine ev_ic_le (t := 30) (x := k_bg (nI b) y v) (y := k_bg x y v) dX11_isBestBid_25 (by decide) (fun c_25 => ?_) (fun c_25 => ?_)
        · refine ev_iincN (a := b) (b := b + 1) (L' := [some (.int x), some (.int y), some (.int v), some (.int (k_bg x y v)), some (.int (nI (b + 1)))]) dX11_isBestBid_30 rfl (nI_1 _) rfl ?_
          refine ev_goto (t := 10) dX11_isBestBid_33 (by decide) ?_
          exact ih _ (by omega) (by omega) (by simp only [allB]; rw [hm]; simp [c_25])
        · refine ev_iconst (v := 0) dX11_isBestBid_28 (by decide) ?_
          exact ev_zret dX11_isBestBid_29 rfl (by decide) (⟨by rw [show k_bb9 x y v = false from allB_f (f := fun k => !decide (k_bg x y v < k_bg (nI k) y v)) (b := b) (by simp [c_25]) 10 (by omega)]; rfl, rfl⟩)
  show Ev lyC (d + 2) hX11_isBestBid 0 [some (.int x), some (.int y), some (.int v), none, none] [] (I, J, R) _
  refine ev_st dX11_isBestBid_0 rfl rfl ?_
  refine ev_st dX11_isBestBid_1 rfl rfl ?_
  refine ev_st dX11_isBestBid_2 rfl rfl ?_
  refine ev_call dX11_isBestBid_3 rfl rfl mr_11_386 rfl rfl rfl (k_bidGets (I := I) (J := J) x y v) ?_
  rintro _ _ ⟨rfl, rfl⟩
  show Ev lyC (d + 2) hX11_isBestBid 6 [some (.int x), some (.int y), some (.int v), none, none] [.int (k_bg x y v)] (I, J, R) _
  refine ev_st (L' := [some (.int x), some (.int y), some (.int v), some (.int (k_bg x y v)), none]) dX11_isBestBid_6 rfl rfl ?_
  refine ev_iconst (v := 0) dX11_isBestBid_7 (by decide) ?_
  refine ev_st (L' := [some (.int x), some (.int y), some (.int v), some (.int (k_bg x y v)), some (.int 0)]) dX11_isBestBid_8 rfl rfl ?_
  exact loop 11 0 (by omega) (by omega) rfl
