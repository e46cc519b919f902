/-! the class: who knows, best; old walks, claims -/
theorem c_bcN {lay : List TE} {M : TM} {d b : Nat} (hb : b < 256) : Cal lay d hJ6_bitCount_0f7a4 1 [.int (nI b)] M (fun r M' => r = some (.int (nI (cN b))) ∧ M' = M) := by
  rw [← cN_bc b hb]; exact c_bc _
def k_cv (f : Nat → Int32) (w x : Int32) : Nat → Bool := allB (fun k => decide (k_b x (nI k) = 0) || !decide (f k &&& w = 0))
/-- the first set of the fewest, by number then by set -/
def fsR (P : Nat → Bool) (mo : Nat) (no yes : Nat → Prop) : Prop := (∃ s, s < 16 ∧ cN s < mo ∧ P s = true ∧ (∀ t, t < 16 → (cN t < cN s ∨ (cN t = cN s ∧ t < s)) → P t = false) ∧ yes s) ∨ ((∀ t, t < 16 → cN t < mo → P t = false) ∧ no 0)
set_option maxHeartbeats 1000000 in
theorem k_knowAll {I : Nat → Nat → Int32} {J : Nat → Nat → Int64} {R : Nat → Nat → Value} {d ns : Nat} (hns : I 11 4 = nI ns) (hns8 : ns ≤ 8) (w x : Int32) : Cal lyC d hX1_knowAll 4 [.ref 23, .int w, .int x] (I, J, R) (fun r M' => r = some (.int (b2i (k_cv (I 14) w x ns))) ∧ M' = (I, J, R)) := by
  have loop : ∀ (k b : Nat), b ≤ ns → ns - b < k → allB (fun k => decide (k_b x (nI k) = 0) || !decide (I 14 k &&& w = 0)) b = true → Ev lyC d hX1_knowAll 2 [some (.ref 23), some (.int w), some (.int x), some (.int (nI b))] [] (I, J, R) (fun r M' => r = some (.int (b2i (k_cv (I 14) w x ns))) ∧ M' = (I, J, R)) := by
    intro k
    induction k with
    | zero => intro b h1 h2; omega
    | succ k ih =>
      intro b hb hk hm
      refine ev_st dX1_knowAll_2 rfl rfl ?_
      refine ev_st dX1_knowAll_3 rfl rfl ?_
      refine ev_getC dX1_knowAll_4 fr_1_30 rfl rfl ?_
      refine ev_getI (v := nI ns) dX1_knowAll_7 fr_1_54 rfl rfl hns ?_
      refine ev_ic_geN (t := 43) (a := b) (b := ns) dX1_knowAll_10 (by decide) rfl rfl (by omega) (by omega) (fun c_10 => ?_) (fun c_10 => ?_)
      · refine ev_iconst (v := 1) dX1_knowAll_43 (by decide) ?_
        exact ev_zret dX1_knowAll_44 rfl (by decide) (⟨by rw [show b = ns by omega] at hm; rw [show k_cv (I 14) w x ns = allB (fun k => decide (k_b x (nI k) = 0) || !decide (I 14 k &&& w = 0)) ns from rfl, hm]; rfl, rfl⟩)
      · refine ev_st dX1_knowAll_13 rfl rfl ?_
        refine ev_st dX1_knowAll_14 rfl rfl ?_
        refine ev_st dX1_knowAll_15 rfl rfl ?_
        refine ev_iconst (v := 1) dX1_knowAll_16 (by decide) ?_
        refine ev_st dX1_knowAll_17 rfl rfl ?_
        refine ev_if_eq (t := 37) (x := (x >>> ((nI b) &&& 31)) &&& 1) dX1_knowAll_18 (by decide) (fun c_18 => ?_) (fun c_18 => ?_)
        · refine ev_iincN (a := b) (b := b + 1) (L' := [some (.ref 23), some (.int w), some (.int x), some (.int (nI (b + 1)))]) dX1_knowAll_37 rfl (nI_1 _) rfl ?_
          refine ev_goto (t := 2) dX1_knowAll_40 (by decide) ?_
          exact ih _ (by omega) (by omega) (by simp only [allB]; rw [hm]; simp [k_b, c_18])
        · refine ev_st dX1_knowAll_21 rfl rfl ?_
          refine ev_getC dX1_knowAll_22 fr_1_30 rfl rfl ?_
          refine ev_getC dX1_knowAll_25 fr_1_60 rfl rfl ?_
          refine ev_st dX1_knowAll_28 rfl rfl ?_
          refine ev_iald (j := b) (v := I 14 b) dX1_knowAll_29 rfl rfl (by omega) (by decide) rfl ?_
          refine ev_st dX1_knowAll_30 rfl rfl ?_
          refine ev_st dX1_knowAll_31 rfl rfl ?_
          refine ev_if_ne (t := 37) (x := (I 14 b) &&& w) dX1_knowAll_32 (by decide) (fun c_32 => ?_) (fun c_32 => ?_)
          · refine ev_iincN (a := b) (b := b + 1) (L' := [some (.ref 23), some (.int w), some (.int x), some (.int (nI (b + 1)))]) dX1_knowAll_37 rfl (nI_1 _) rfl ?_
            refine ev_goto (t := 2) dX1_knowAll_40 (by decide) ?_
            exact ih _ (by omega) (by omega) (by simp only [allB]; rw [hm]; simp [k_b, c_18, c_32])
          · refine ev_iconst (v := 0) dX1_knowAll_35 (by decide) ?_
            exact ev_zret dX1_knowAll_36 rfl (by decide) (⟨by rw [show k_cv (I 14) w x ns = false from allB_f (f := fun k => decide (k_b x (nI k) = 0) || !decide (I 14 k &&& w = 0)) (b := b) (by simp [k_b, c_18, c_32]) ns c_10]; rfl, rfl⟩)
  show Ev lyC d hX1_knowAll 0 [some (.ref 23), some (.int w), some (.int x), none] [] (I, J, R) _
  refine ev_iconst (v := 0) dX1_knowAll_0 (by decide) ?_
  refine ev_st (L' := [some (.ref 23), some (.int w), some (.int x), some (.int 0)]) dX1_knowAll_1 rfl rfl ?_
  exact loop (ns + 1) 0 (by omega) (by omega) rfl
set_option maxHeartbeats 1000000 in
theorem k_fewestKnowers {I : Nat → Nat → Int32} {J : Nat → Nat → Int64} {R : Nat → Nat → Value} {d ns : Nat} (hns : I 11 4 = nI ns) (hns8 : ns ≤ 8) (x : Int32) : Cal lyC (d + 2) hX1_fewestKnowers 4 [.ref 23, .int x] (I, J, R) (fun r M' => ∃ I3 J3, M' = (I3, J3, R) ∧ fC I I3 ∧ fsR (fun t => k_cv (I 14) (nI t) x ns) 5 (fun _ => r = some (.int (-2)) ∧ uC I J I3 J3) (fun s => r = some (.int (nI (cN s))) ∧ tC [(nI s).toInt64] I3 J3)) := by
  have loop : ∀ (k u : Nat) (z : Option Value), u ≤ 5 → 5 - u < k → (∀ t, t < 16 → cN t < u → k_cv (I 14) (nI t) x ns = false) → Ev lyC (d + 2) hX1_fewestKnowers 2 [some (.ref 23), some (.int x), some (.int (nI u)), z] [] (I, J, R) (fun r M' => ∃ I3 J3, M' = (I3, J3, R) ∧ fC I I3 ∧ fsR (fun t => k_cv (I 14) (nI t) x ns) 5 (fun _ => r = some (.int (-2)) ∧ uC I J I3 J3) (fun s => r = some (.int (nI (cN s))) ∧ tC [(nI s).toInt64] I3 J3)) := by
    intro k
    induction k with
    | zero => intro u z h1 h2; omega
    | succ k ih =>
      intro u z hu hk hA
      have inner : u < 5 → ∀ (k2 b : Nat), b ≤ 16 → 16 - b < k2 → (∀ t, t < b → cN t = u → k_cv (I 14) (nI t) x ns = false) → Ev lyC (d + 2) hX1_fewestKnowers 9 [some (.ref 23), some (.int x), some (.int (nI u)), some (.int (nI b))] [] (I, J, R) (fun r M' => ∃ I3 J3, M' = (I3, J3, R) ∧ fC I I3 ∧ fsR (fun t => k_cv (I 14) (nI t) x ns) 5 (fun _ => r = some (.int (-2)) ∧ uC I J I3 J3) (fun s => r = some (.int (nI (cN s))) ∧ tC [(nI s).toInt64] I3 J3)) := by
        intro hun k2
        induction k2 with
        | zero => intro b h1 h2; omega
        | succ k2 ih2 =>
          intro b hb hk2 hB
          have hcb : b < 16 → cN b ≤ 8 := fun q => cN_8 b (by omega)
          refine ev_st dX1_fewestKnowers_9 rfl rfl ?_
          refine ev_bipush (v := 16) dX1_fewestKnowers_10 (by decide) ?_
          refine ev_ic_geN (t := 49) (a := b) (b := 16) dX1_fewestKnowers_12 (by decide) rfl rfl (by omega) (by omega) (fun c_12 => ?_) (fun c_12 => ?_)
          · refine ev_iincN (a := u) (b := u + 1) (L' := [some (.ref 23), some (.int x), some (.int (nI (u + 1))), some (.int (nI b))]) dX1_fewestKnowers_49 rfl (nI_1 _) rfl ?_
            refine ev_goto (t := 2) dX1_fewestKnowers_52 (by decide) ?_
            exact ih _ _ (by omega) (by omega) (fun t h1 h2 => (Nat.lt_succ_iff_lt_or_eq.mp h2).elim (hA t h1) (hB t (by omega)))
          · refine ev_st dX1_fewestKnowers_15 rfl rfl ?_
            refine ev_call dX1_fewestKnowers_16 rfl rfl mr_1_38 rfl rfl rfl (c_bcN (by omega)) ?_
            rintro _ _ ⟨rfl, rfl⟩
            show Ev lyC (d + 2) hX1_fewestKnowers 19 [some (.ref 23), some (.int x), some (.int (nI u)), some (.int (nI b))] [.int (nI (cN b))] (I, J, R) _
            refine ev_st dX1_fewestKnowers_19 rfl rfl ?_
            refine ev_ic_neN (t := 43) (a := cN b) (b := u) dX1_fewestKnowers_20 (by decide) rfl rfl (by omega) (by omega) (fun c_20 => ?_) (fun c_20 => ?_)
            · refine ev_iincN (a := b) (b := b + 1) (L' := [some (.ref 23), some (.int x), some (.int (nI u)), some (.int (nI (b + 1)))]) dX1_fewestKnowers_43 rfl (nI_1 _) rfl ?_
              refine ev_goto (t := 9) dX1_fewestKnowers_46 (by decide) ?_
              exact ih2 _ (by omega) (by omega) (all_b hB (fun e => absurd e c_20))
            · refine ev_st dX1_fewestKnowers_23 rfl rfl ?_
              refine ev_st dX1_fewestKnowers_24 rfl rfl ?_
              refine ev_st dX1_fewestKnowers_25 rfl rfl ?_
              refine ev_call dX1_fewestKnowers_26 rfl rfl mr_1_44 rfl rfl rfl (k_knowAll (I := I) (J := J) hns hns8 (nI b) x) ?_
              rintro _ _ ⟨rfl, rfl⟩
              show Ev lyC (d + 2) hX1_fewestKnowers 29 [some (.ref 23), some (.int x), some (.int (nI u)), some (.int (nI b))] [.int (b2i (k_cv (I 14) (nI b) x ns))] (I, J, R) _
              refine ev_if_eq (t := 43) (x := b2i (k_cv (I 14) (nI b) x ns)) dX1_fewestKnowers_29 (by decide) (fun c_29 => ?_) (fun c_29 => ?_)
              · refine ev_iincN (a := b) (b := b + 1) (L' := [some (.ref 23), some (.int x), some (.int (nI u)), some (.int (nI (b + 1)))]) dX1_fewestKnowers_43 rfl (nI_1 _) rfl ?_
                refine ev_goto (t := 9) dX1_fewestKnowers_46 (by decide) ?_
                exact ih2 _ (by omega) (by omega) (all_b hB (fun e => b2i0.mp c_29))
              · refine ev_st dX1_fewestKnowers_32 rfl rfl ?_
                refine ev_getC dX1_fewestKnowers_33 fr_1_34 rfl rfl ?_
                refine ev_st dX1_fewestKnowers_36 rfl rfl ?_
                refine ev_st dX1_fewestKnowers_37 rfl rfl ?_
                refine ev_call dX1_fewestKnowers_38 rfl rfl mr_1_48 rfl rfl rfl (k_tell1 ((nI b).toInt64)) ?_
                rintro _ _ ⟨rfl, rfl⟩
                show Ev lyC (d + 2) hX1_fewestKnowers 41 [some (.ref 23), some (.int x), some (.int (nI u)), some (.int (nI b))] [] (ti_wr I 3 1 (nI 1), ti_wl J 4 0 ((nI b).toInt64), R) _
                refine ev_st dX1_fewestKnowers_41 rfl rfl ?_
                exact ev_iret dX1_fewestKnowers_42 rfl (⟨_, _, rfl, (fC.rf.w (p := 3) (k := 1) rfl _), Or.inl ⟨b, by omega, by omega, b2i_ne c_29, fun t h1 h2 => h2.elim (fun q => hA t h1 (by omega)) (fun q => hB t q.2 (by omega)), by rw [c_20], tC1 rfl rfl⟩⟩)
      refine ev_st dX1_fewestKnowers_2 rfl rfl ?_
      refine ev_iconst (v := 4) dX1_fewestKnowers_3 (by decide) ?_
      refine ev_ic_gtN (t := 55) (a := u) (b := 4) dX1_fewestKnowers_4 (by decide) rfl rfl (by omega) (by omega) (fun c_4 => ?_) (fun c_4 => ?_)
      · refine ev_bipush (v := -2) dX1_fewestKnowers_55 (by decide) ?_
        exact ev_iret dX1_fewestKnowers_57 rfl (⟨_, _, rfl, fC.rf, Or.inr ⟨fun t h1 h2 => hA t h1 (by omega), rfl, rfl, rfl⟩⟩)
      · refine ev_iconst (v := 0) dX1_fewestKnowers_7 (by decide) ?_
        refine ev_st (L' := [some (.ref 23), some (.int x), some (.int (nI u)), some (.int 0)]) dX1_fewestKnowers_8 rfl rfl ?_
        exact inner (by omega) 17 0 (by omega) (by omega) (fun t h1 h2 => by omega)
  show Ev lyC (d + 2) hX1_fewestKnowers 0 [some (.ref 23), some (.int x), none, none] [] (I, J, R) _
  refine ev_iconst (v := 0) dX1_fewestKnowers_0 (by decide) ?_
  refine ev_st (L' := [some (.ref 23), some (.int x), some (.int 0), none]) dX1_fewestKnowers_1 rfl rfl ?_
  exact loop (5 + 1) 0 _ (by omega) (by omega) (fun t h1 h2 => by omega)
def k_ml (mu fa : Nat → Int32) : Nat → Int32 × Int32 × Int32
  | 0 => (-1, 0, 0)
  | b + 1 => if (k_ml mu fa b).1 < 0 then (nI b, mu b, fa b) else if (k_ml mu fa b).2.1 < mu b then (nI b, mu b, fa b) else if mu b = (k_ml mu fa b).2.1 then (if fa b < (k_ml mu fa b).2.2 then (nI b, mu b, fa b) else k_ml mu fa b) else k_ml mu fa b
set_option maxHeartbeats 1000000 in
theorem k_mostLightening {I : Nat → Nat → Int32} {J : Nat → Nat → Int64} {R : Nat → Nat → Value} {d ns : Nat} (hns : I 11 4 = nI ns) (hns8 : ns ≤ 8) (x : Int32) : Cal lyC (d + 3) hX1_mostLightening 9 [.ref 23, .int x] (I, J, R) (fun r M' => r = some (.int ((k_ml (fun b => k_sum (I 12) ((k_kn (I 14) (nI b) ns &&& (x ^^^ (-1))) &&& I 11 3) ns) (fun b => bc ((k_kn (I 14) (nI b) ns &&& (x ^^^ (-1))) &&& (I 11 3 ^^^ (-1)))) 4).1)) ∧ ∃ I3 J3, M' = (I3, J3, R) ∧ fC I I3 ∧ tC [((k_ml (fun b => k_sum (I 12) ((k_kn (I 14) (nI b) ns &&& (x ^^^ (-1))) &&& I 11 3) ns) (fun b => bc ((k_kn (I 14) (nI b) ns &&& (x ^^^ (-1))) &&& (I 11 3 ^^^ (-1)))) 4).2.1).toInt64, ((k_ml (fun b => k_sum (I 12) ((k_kn (I 14) (nI b) ns &&& (x ^^^ (-1))) &&& I 11 3) ns) (fun b => bc ((k_kn (I 14) (nI b) ns &&& (x ^^^ (-1))) &&& (I 11 3 ^^^ (-1)))) 4).2.2).toInt64] I3 J3) := by
  have loop : ∀ (k b : Nat) (m l o : Int32) (z6 z7 z8 : Option Value), b ≤ 4 → 4 - b < k → (m, l, o) = k_ml (fun b => k_sum (I 12) ((k_kn (I 14) (nI b) ns &&& (x ^^^ (-1))) &&& I 11 3) ns) (fun b => bc ((k_kn (I 14) (nI b) ns &&& (x ^^^ (-1))) &&& (I 11 3 ^^^ (-1)))) b → Ev lyC (d + 3) hX1_mostLightening 10 [some (.ref 23), some (.int x), some (.int m), some (.int l), some (.int o), some (.int (nI b)), z6, z7, z8] [] (I, J, R) (fun r M' => r = some (.int ((k_ml (fun b => k_sum (I 12) ((k_kn (I 14) (nI b) ns &&& (x ^^^ (-1))) &&& I 11 3) ns) (fun b => bc ((k_kn (I 14) (nI b) ns &&& (x ^^^ (-1))) &&& (I 11 3 ^^^ (-1)))) 4).1)) ∧ ∃ I3 J3, M' = (I3, J3, R) ∧ fC I I3 ∧ tC [((k_ml (fun b => k_sum (I 12) ((k_kn (I 14) (nI b) ns &&& (x ^^^ (-1))) &&& I 11 3) ns) (fun b => bc ((k_kn (I 14) (nI b) ns &&& (x ^^^ (-1))) &&& (I 11 3 ^^^ (-1)))) 4).2.1).toInt64, ((k_ml (fun b => k_sum (I 12) ((k_kn (I 14) (nI b) ns &&& (x ^^^ (-1))) &&& I 11 3) ns) (fun b => bc ((k_kn (I 14) (nI b) ns &&& (x ^^^ (-1))) &&& (I 11 3 ^^^ (-1)))) 4).2.2).toInt64] I3 J3) := by
    intro k
    induction k with
    | zero => intro b m l o z6 z7 z8 h1 h2; omega
    | succ k ih =>
      intro b m l o z6 z7 z8 hb hk ht
      refine ev_st dX1_mostLightening_10 rfl rfl ?_
      refine ev_iconst (v := 4) dX1_mostLightening_12 (by decide) ?_
      refine ev_ic_geN (t := 106) (a := b) (b := 4) dX1_mostLightening_13 (by decide) rfl rfl (by omega) (by omega) (fun c_13 => ?_) (fun c_13 => ?_)
      · refine ev_st dX1_mostLightening_106 rfl rfl ?_
        refine ev_getC dX1_mostLightening_107 fr_1_34 rfl rfl ?_
        refine ev_st dX1_mostLightening_110 rfl rfl ?_
        refine ev_st dX1_mostLightening_111 rfl rfl ?_
        refine ev_st dX1_mostLightening_112 rfl rfl ?_
        refine ev_st dX1_mostLightening_114 rfl rfl ?_
        refine ev_call dX1_mostLightening_115 rfl rfl mr_1_66 rfl rfl rfl (k_tell2 l.toInt64 o.toInt64) ?_
        rintro _ _ ⟨rfl, rfl⟩
        show Ev lyC (d + 3) hX1_mostLightening 118 [some (.ref 23), some (.int x), some (.int m), some (.int l), some (.int o), some (.int (nI b)), z6, z7, z8] [] (ti_wr I 3 1 (nI 2), ti_wl (ti_wl J 4 0 l.toInt64) 4 1 o.toInt64, R) _
        refine ev_st dX1_mostLightening_118 rfl rfl ?_
        exact ev_iret dX1_mostLightening_119 rfl (by rw [show b = 4 by omega] at ht; rw [← ht]; exact ⟨rfl, _, _, rfl, (fC.rf.w (p := 3) (k := 1) rfl _), tC2 rfl rfl rfl⟩)
      · refine ev_st dX1_mostLightening_16 rfl rfl ?_
        refine ev_getC dX1_mostLightening_17 fr_1_30 rfl rfl ?_
        refine ev_st dX1_mostLightening_20 rfl rfl ?_
        refine ev_call dX1_mostLightening_22 rfl rfl mr_1_69 rfl rfl rfl (k_knownTo (I := I) (J := J) hns hns8 (nI b)) ?_
        rintro _ _ ⟨rfl, rfl⟩
        show Ev lyC (d + 3) hX1_mostLightening 25 [some (.ref 23), some (.int x), some (.int m), some (.int l), some (.int o), some (.int (nI b)), z6, z7, z8] [.int (k_kn (I 14) (nI b) ns)] (I, J, R) _
        refine ev_st dX1_mostLightening_25 rfl rfl ?_
        refine ev_iconst (v := -1) dX1_mostLightening_26 (by decide) ?_
        refine ev_st dX1_mostLightening_27 rfl rfl ?_
        refine ev_st dX1_mostLightening_28 rfl rfl ?_
        refine ev_st (L' := [some (.ref 23), some (.int x), some (.int m), some (.int l), some (.int o), some (.int (nI b)), some (.int ((k_kn (I 14) (nI b) ns) &&& (x ^^^ ((-1))))), z7, z8]) dX1_mostLightening_29 rfl rfl ?_
        refine ev_st dX1_mostLightening_31 rfl rfl ?_
        refine ev_getC dX1_mostLightening_32 fr_1_30 rfl rfl ?_
        refine ev_st dX1_mostLightening_35 rfl rfl ?_
        refine ev_st dX1_mostLightening_37 rfl rfl ?_
        refine ev_getC dX1_mostLightening_38 fr_1_30 rfl rfl ?_
        refine ev_getI (v := I 11 3) dX1_mostLightening_41 fr_1_72 rfl rfl rfl ?_
        refine ev_st dX1_mostLightening_44 rfl rfl ?_
        refine ev_call dX1_mostLightening_45 rfl rfl mr_1_63 rfl rfl rfl (k_weightOf (I := I) (J := J) hns hns8 (((k_kn (I 14) (nI b) ns) &&& (x ^^^ ((-1)))) &&& (I 11 3))) ?_
        rintro _ _ ⟨rfl, rfl⟩
        show Ev lyC (d + 3) hX1_mostLightening 48 [some (.ref 23), some (.int x), some (.int m), some (.int l), some (.int o), some (.int (nI b)), some (.int ((k_kn (I 14) (nI b) ns) &&& (x ^^^ ((-1))))), z7, z8] [.int (k_sum (I 12) (((k_kn (I 14) (nI b) ns) &&& (x ^^^ ((-1)))) &&& (I 11 3)) ns)] (I, J, R) _
        refine ev_st (L' := [some (.ref 23), some (.int x), some (.int m), some (.int l), some (.int o), some (.int (nI b)), some (.int ((k_kn (I 14) (nI b) ns) &&& (x ^^^ ((-1))))), some (.int (k_sum (I 12) (((k_kn (I 14) (nI b) ns) &&& (x ^^^ ((-1)))) &&& (I 11 3)) ns)), z8]) dX1_mostLightening_48 rfl rfl ?_
        refine ev_st dX1_mostLightening_50 rfl rfl ?_
        refine ev_st dX1_mostLightening_52 rfl rfl ?_
        refine ev_getC dX1_mostLightening_53 fr_1_30 rfl rfl ?_
        refine ev_getI (v := I 11 3) dX1_mostLightening_56 fr_1_72 rfl rfl rfl ?_
        refine ev_iconst (v := -1) dX1_mostLightening_59 (by decide) ?_
        refine ev_st dX1_mostLightening_60 rfl rfl ?_
        refine ev_st dX1_mostLightening_61 rfl rfl ?_
        refine ev_call dX1_mostLightening_62 rfl rfl mr_1_38 rfl rfl rfl (c_bc (((k_kn (I 14) (nI b) ns) &&& (x ^^^ ((-1)))) &&& ((I 11 3) ^^^ ((-1))))) ?_
        rintro _ _ ⟨rfl, rfl⟩
        show Ev lyC (d + 3) hX1_mostLightening 65 [some (.ref 23), some (.int x), some (.int m), some (.int l), some (.int o), some (.int (nI b)), some (.int ((k_kn (I 14) (nI b) ns) &&& (x ^^^ ((-1))))), some (.int (k_sum (I 12) (((k_kn (I 14) (nI b) ns) &&& (x ^^^ ((-1)))) &&& (I 11 3)) ns)), z8] [.int (bc (((k_kn (I 14) (nI b) ns) &&& (x ^^^ ((-1)))) &&& ((I 11 3) ^^^ ((-1)))))] (I, J, R) _
        refine ev_st (L' := [some (.ref 23), some (.int x), some (.int m), some (.int l), some (.int o), some (.int (nI b)), some (.int ((k_kn (I 14) (nI b) ns) &&& (x ^^^ ((-1))))), some (.int (k_sum (I 12) (((k_kn (I 14) (nI b) ns) &&& (x ^^^ ((-1)))) &&& (I 11 3)) ns)), some (.int (bc (((k_kn (I 14) (nI b) ns) &&& (x ^^^ ((-1)))) &&& ((I 11 3) ^^^ ((-1))))))]) dX1_mostLightening_65 rfl rfl ?_
        refine ev_st dX1_mostLightening_67 rfl rfl ?_
        refine ev_if_lt (t := 90) (x := m) dX1_mostLightening_68 (by decide) (fun c_68 => ?_) (fun c_68 => ?_)
        · refine ev_st dX1_mostLightening_90 rfl rfl ?_
          refine ev_st (L' := [some (.ref 23), some (.int x), some (.int (nI b)), some (.int l), some (.int o), some (.int (nI b)), some (.int ((k_kn (I 14) (nI b) ns) &&& (x ^^^ ((-1))))), some (.int (k_sum (I 12) (((k_kn (I 14) (nI b) ns) &&& (x ^^^ ((-1)))) &&& (I 11 3)) ns)), some (.int (bc (((k_kn (I 14) (nI b) ns) &&& (x ^^^ ((-1)))) &&& ((I 11 3) ^^^ ((-1))))))]) dX1_mostLightening_92 rfl rfl ?_
          refine ev_st dX1_mostLightening_93 rfl rfl ?_
          refine ev_st (L' := [some (.ref 23), some (.int x), some (.int (nI b)), some (.int (k_sum (I 12) (((k_kn (I 14) (nI b) ns) &&& (x ^^^ ((-1)))) &&& (I 11 3)) ns)), some (.int o), some (.int (nI b)), some (.int ((k_kn (I 14) (nI b) ns) &&& (x ^^^ ((-1))))), some (.int (k_sum (I 12) (((k_kn (I 14) (nI b) ns) &&& (x ^^^ ((-1)))) &&& (I 11 3)) ns)), some (.int (bc (((k_kn (I 14) (nI b) ns) &&& (x ^^^ ((-1)))) &&& ((I 11 3) ^^^ ((-1))))))]) dX1_mostLightening_95 rfl rfl ?_
          refine ev_st dX1_mostLightening_96 rfl rfl ?_
          refine ev_st (L' := [some (.ref 23), some (.int x), some (.int (nI b)), some (.int (k_sum (I 12) (((k_kn (I 14) (nI b) ns) &&& (x ^^^ ((-1)))) &&& (I 11 3)) ns)), some (.int (bc (((k_kn (I 14) (nI b) ns) &&& (x ^^^ ((-1)))) &&& ((I 11 3) ^^^ ((-1)))))), some (.int (nI b)), some (.int ((k_kn (I 14) (nI b) ns) &&& (x ^^^ ((-1))))), some (.int (k_sum (I 12) (((k_kn (I 14) (nI b) ns) &&& (x ^^^ ((-1)))) &&& (I 11 3)) ns)), some (.int (bc (((k_kn (I 14) (nI b) ns) &&& (x ^^^ ((-1)))) &&& ((I 11 3) ^^^ ((-1))))))]) dX1_mostLightening_98 rfl rfl ?_
          refine ev_iincN (a := b) (b := b + 1) (L' := [some (.ref 23), some (.int x), some (.int (nI b)), some (.int (k_sum (I 12) (((k_kn (I 14) (nI b) ns) &&& (x ^^^ ((-1)))) &&& (I 11 3)) ns)), some (.int (bc (((k_kn (I 14) (nI b) ns) &&& (x ^^^ ((-1)))) &&& ((I 11 3) ^^^ ((-1)))))), some (.int (nI (b + 1))), some (.int ((k_kn (I 14) (nI b) ns) &&& (x ^^^ ((-1))))), some (.int (k_sum (I 12) (((k_kn (I 14) (nI b) ns) &&& (x ^^^ ((-1)))) &&& (I 11 3)) ns)), some (.int (bc (((k_kn (I 14) (nI b) ns) &&& (x ^^^ ((-1)))) &&& ((I 11 3) ^^^ ((-1))))))]) dX1_mostLightening_100 rfl (nI_1 _) rfl ?_
          refine ev_goto (t := 10) dX1_mostLightening_103 (by decide) ?_
          exact ih _ _ _ _ _ _ _ (by omega) (by omega) (by simp only [k_ml, ← ht]; rw [if_pos c_68])
        · refine ev_st dX1_mostLightening_71 rfl rfl ?_
          refine ev_st dX1_mostLightening_73 rfl rfl ?_
          refine ev_ic_gt (t := 90) (x := k_sum (I 12) (((k_kn (I 14) (nI b) ns) &&& (x ^^^ ((-1)))) &&& (I 11 3)) ns) (y := l) dX1_mostLightening_74 (by decide) (fun c_74 => ?_) (fun c_74 => ?_)
          · refine ev_st dX1_mostLightening_90 rfl rfl ?_
            refine ev_st (L' := [some (.ref 23), some (.int x), some (.int (nI b)), some (.int l), some (.int o), some (.int (nI b)), some (.int ((k_kn (I 14) (nI b) ns) &&& (x ^^^ ((-1))))), some (.int (k_sum (I 12) (((k_kn (I 14) (nI b) ns) &&& (x ^^^ ((-1)))) &&& (I 11 3)) ns)), some (.int (bc (((k_kn (I 14) (nI b) ns) &&& (x ^^^ ((-1)))) &&& ((I 11 3) ^^^ ((-1))))))]) dX1_mostLightening_92 rfl rfl ?_
            refine ev_st dX1_mostLightening_93 rfl rfl ?_
            refine ev_st (L' := [some (.ref 23), some (.int x), some (.int (nI b)), some (.int (k_sum (I 12) (((k_kn (I 14) (nI b) ns) &&& (x ^^^ ((-1)))) &&& (I 11 3)) ns)), some (.int o), some (.int (nI b)), some (.int ((k_kn (I 14) (nI b) ns) &&& (x ^^^ ((-1))))), some (.int (k_sum (I 12) (((k_kn (I 14) (nI b) ns) &&& (x ^^^ ((-1)))) &&& (I 11 3)) ns)), some (.int (bc (((k_kn (I 14) (nI b) ns) &&& (x ^^^ ((-1)))) &&& ((I 11 3) ^^^ ((-1))))))]) dX1_mostLightening_95 rfl rfl ?_
            refine ev_st dX1_mostLightening_96 rfl rfl ?_
            refine ev_st (L' := [some (.ref 23), some (.int x), some (.int (nI b)), some (.int (k_sum (I 12) (((k_kn (I 14) (nI b) ns) &&& (x ^^^ ((-1)))) &&& (I 11 3)) ns)), some (.int (bc (((k_kn (I 14) (nI b) ns) &&& (x ^^^ ((-1)))) &&& ((I 11 3) ^^^ ((-1)))))), some (.int (nI b)), some (.int ((k_kn (I 14) (nI b) ns) &&& (x ^^^ ((-1))))), some (.int (k_sum (I 12) (((k_kn (I 14) (nI b) ns) &&& (x ^^^ ((-1)))) &&& (I 11 3)) ns)), some (.int (bc (((k_kn (I 14) (nI b) ns) &&& (x ^^^ ((-1)))) &&& ((I 11 3) ^^^ ((-1))))))]) dX1_mostLightening_98 rfl rfl ?_
            refine ev_iincN (a := b) (b := b + 1) (L' := [some (.ref 23), some (.int x), some (.int (nI b)), some (.int (k_sum (I 12) (((k_kn (I 14) (nI b) ns) &&& (x ^^^ ((-1)))) &&& (I 11 3)) ns)), some (.int (bc (((k_kn (I 14) (nI b) ns) &&& (x ^^^ ((-1)))) &&& ((I 11 3) ^^^ ((-1)))))), some (.int (nI (b + 1))), some (.int ((k_kn (I 14) (nI b) ns) &&& (x ^^^ ((-1))))), some (.int (k_sum (I 12) (((k_kn (I 14) (nI b) ns) &&& (x ^^^ ((-1)))) &&& (I 11 3)) ns)), some (.int (bc (((k_kn (I 14) (nI b) ns) &&& (x ^^^ ((-1)))) &&& ((I 11 3) ^^^ ((-1))))))]) dX1_mostLightening_100 rfl (nI_1 _) rfl ?_
            refine ev_goto (t := 10) dX1_mostLightening_103 (by decide) ?_
            exact ih _ _ _ _ _ _ _ (by omega) (by omega) (by simp only [k_ml, ← ht]; rw [if_neg c_68, if_pos c_74])
          · refine ev_st dX1_mostLightening_77 rfl rfl ?_
            refine ev_st dX1_mostLightening_79 rfl rfl ?_
            refine ev_ic_ne (t := 100) (x := k_sum (I 12) (((k_kn (I 14) (nI b) ns) &&& (x ^^^ ((-1)))) &&& (I 11 3)) ns) (y := l) dX1_mostLightening_80 (by decide) (fun c_80 => ?_) (fun c_80 => ?_)
            · refine ev_iincN (a := b) (b := b + 1) (L' := [some (.ref 23), some (.int x), some (.int m), some (.int l), some (.int o), some (.int (nI (b + 1))), some (.int ((k_kn (I 14) (nI b) ns) &&& (x ^^^ ((-1))))), some (.int (k_sum (I 12) (((k_kn (I 14) (nI b) ns) &&& (x ^^^ ((-1)))) &&& (I 11 3)) ns)), some (.int (bc (((k_kn (I 14) (nI b) ns) &&& (x ^^^ ((-1)))) &&& ((I 11 3) ^^^ ((-1))))))]) dX1_mostLightening_100 rfl (nI_1 _) rfl ?_
              refine ev_goto (t := 10) dX1_mostLightening_103 (by decide) ?_
              exact ih _ _ _ _ _ _ _ (by omega) (by omega) (by simp only [k_ml, ← ht]; rw [if_neg c_68, if_neg c_74, if_neg c_80])
            · refine ev_st dX1_mostLightening_83 rfl rfl ?_
              refine ev_st dX1_mostLightening_85 rfl rfl ?_
              refine ev_ic_ge (t := 100) (x := bc (((k_kn (I 14) (nI b) ns) &&& (x ^^^ ((-1)))) &&& ((I 11 3) ^^^ ((-1))))) (y := o) dX1_mostLightening_87 (by decide) (fun c_87 => ?_) (fun c_87 => ?_)
              · refine ev_iincN (a := b) (b := b + 1) (L' := [some (.ref 23), some (.int x), some (.int m), some (.int l), some (.int o), some (.int (nI (b + 1))), some (.int ((k_kn (I 14) (nI b) ns) &&& (x ^^^ ((-1))))), some (.int (k_sum (I 12) (((k_kn (I 14) (nI b) ns) &&& (x ^^^ ((-1)))) &&& (I 11 3)) ns)), some (.int (bc (((k_kn (I 14) (nI b) ns) &&& (x ^^^ ((-1)))) &&& ((I 11 3) ^^^ ((-1))))))]) dX1_mostLightening_100 rfl (nI_1 _) rfl ?_
                refine ev_goto (t := 10) dX1_mostLightening_103 (by decide) ?_
                exact ih _ _ _ _ _ _ _ (by omega) (by omega) (by simp only [k_ml, ← ht]; rw [if_neg c_68, if_neg c_74, if_pos c_80, if_neg c_87])
              · refine ev_st dX1_mostLightening_90 rfl rfl ?_
                refine ev_st (L' := [some (.ref 23), some (.int x), some (.int (nI b)), some (.int l), some (.int o), some (.int (nI b)), some (.int ((k_kn (I 14) (nI b) ns) &&& (x ^^^ ((-1))))), some (.int (k_sum (I 12) (((k_kn (I 14) (nI b) ns) &&& (x ^^^ ((-1)))) &&& (I 11 3)) ns)), some (.int (bc (((k_kn (I 14) (nI b) ns) &&& (x ^^^ ((-1)))) &&& ((I 11 3) ^^^ ((-1))))))]) dX1_mostLightening_92 rfl rfl ?_
                refine ev_st dX1_mostLightening_93 rfl rfl ?_
                refine ev_st (L' := [some (.ref 23), some (.int x), some (.int (nI b)), some (.int (k_sum (I 12) (((k_kn (I 14) (nI b) ns) &&& (x ^^^ ((-1)))) &&& (I 11 3)) ns)), some (.int o), some (.int (nI b)), some (.int ((k_kn (I 14) (nI b) ns) &&& (x ^^^ ((-1))))), some (.int (k_sum (I 12) (((k_kn (I 14) (nI b) ns) &&& (x ^^^ ((-1)))) &&& (I 11 3)) ns)), some (.int (bc (((k_kn (I 14) (nI b) ns) &&& (x ^^^ ((-1)))) &&& ((I 11 3) ^^^ ((-1))))))]) dX1_mostLightening_95 rfl rfl ?_
                refine ev_st dX1_mostLightening_96 rfl rfl ?_
                refine ev_st (L' := [some (.ref 23), some (.int x), some (.int (nI b)), some (.int (k_sum (I 12) (((k_kn (I 14) (nI b) ns) &&& (x ^^^ ((-1)))) &&& (I 11 3)) ns)), some (.int (bc (((k_kn (I 14) (nI b) ns) &&& (x ^^^ ((-1)))) &&& ((I 11 3) ^^^ ((-1)))))), some (.int (nI b)), some (.int ((k_kn (I 14) (nI b) ns) &&& (x ^^^ ((-1))))), some (.int (k_sum (I 12) (((k_kn (I 14) (nI b) ns) &&& (x ^^^ ((-1)))) &&& (I 11 3)) ns)), some (.int (bc (((k_kn (I 14) (nI b) ns) &&& (x ^^^ ((-1)))) &&& ((I 11 3) ^^^ ((-1))))))]) dX1_mostLightening_98 rfl rfl ?_
                refine ev_iincN (a := b) (b := b + 1) (L' := [some (.ref 23), some (.int x), some (.int (nI b)), some (.int (k_sum (I 12) (((k_kn (I 14) (nI b) ns) &&& (x ^^^ ((-1)))) &&& (I 11 3)) ns)), some (.int (bc (((k_kn (I 14) (nI b) ns) &&& (x ^^^ ((-1)))) &&& ((I 11 3) ^^^ ((-1)))))), some (.int (nI (b + 1))), some (.int ((k_kn (I 14) (nI b) ns) &&& (x ^^^ ((-1))))), some (.int (k_sum (I 12) (((k_kn (I 14) (nI b) ns) &&& (x ^^^ ((-1)))) &&& (I 11 3)) ns)), some (.int (bc (((k_kn (I 14) (nI b) ns) &&& (x ^^^ ((-1)))) &&& ((I 11 3) ^^^ ((-1))))))]) dX1_mostLightening_100 rfl (nI_1 _) rfl ?_
                refine ev_goto (t := 10) dX1_mostLightening_103 (by decide) ?_
                exact ih _ _ _ _ _ _ _ (by omega) (by omega) (by simp only [k_ml, ← ht]; rw [if_neg c_68, if_neg c_74, if_pos c_80, if_pos c_87])
  show Ev lyC (d + 3) hX1_mostLightening 0 [some (.ref 23), some (.int x), none, none, none, none, none, none, none] [] (I, J, R) _
  refine ev_iconst (v := -1) dX1_mostLightening_0 (by decide) ?_
  refine ev_st (L' := [some (.ref 23), some (.int x), some (.int ((-1))), none, none, none, none, none, none]) dX1_mostLightening_1 rfl rfl ?_
  refine ev_iconst (v := 0) dX1_mostLightening_2 (by decide) ?_
  refine ev_st (L' := [some (.ref 23), some (.int x), some (.int ((-1))), some (.int 0), none, none, none, none, none]) dX1_mostLightening_3 rfl rfl ?_
  refine ev_iconst (v := 0) dX1_mostLightening_4 (by decide) ?_
  refine ev_st (L' := [some (.ref 23), some (.int x), some (.int ((-1))), some (.int 0), some (.int 0), none, none, none, none]) dX1_mostLightening_5 rfl rfl ?_
  refine ev_iconst (v := 0) dX1_mostLightening_7 (by decide) ?_
  refine ev_st (L' := [some (.ref 23), some (.int x), some (.int ((-1))), some (.int 0), some (.int 0), some (.int 0), none, none, none]) dX1_mostLightening_8 rfl rfl ?_
  exact loop 5 0 (-1) 0 0 _ _ _ (by omega) (by omega) rfl
theorem k_forgetOld {I : Nat → Nat → Int32} {J : Nat → Nat → Int64} {R : Nat → Nat → Value} {d : Nat} : Cal lyC d hX1_forgetOldWalks 2 [.ref 23] (I, J, R) (fun r M' => r = some (.int (I 23 4)) ∧ M' = (ti_wr I 23 4 0, J, R)) := by
  show Ev lyC d hX1_forgetOldWalks 0 [some (.ref 23), none] [] (I, J, R) _
  refine ev_st dX1_forgetOldWalks_0 rfl rfl ?_
  refine ev_getI (v := I 23 4) dX1_forgetOldWalks_1 fr_1_75 rfl rfl rfl ?_
  refine ev_st (L' := [some (.ref 23), some (.int (I 23 4))]) dX1_forgetOldWalks_4 rfl rfl ?_
  refine ev_st dX1_forgetOldWalks_5 rfl rfl ?_
  refine ev_iconst (v := 0) dX1_forgetOldWalks_6 (by decide) ?_
  refine ev_putI dX1_forgetOldWalks_7 fr_1_75 rfl rfl ?_
  refine ev_st dX1_forgetOldWalks_10 rfl rfl ?_
  exact ev_iret dX1_forgetOldWalks_11 rfl (⟨rfl, rfl⟩)
theorem k_takeBack {I : Nat → Nat → Int32} {J : Nat → Nat → Int64} {R : Nat → Nat → Value} {d : Nat} : Cal lyC d hX1_takeClaimsBack 2 [.ref 23] (I, J, R) (fun r M' => r = some (.int (I 23 8)) ∧ M' = (ti_wr I 23 8 0, J, R)) := by
  show Ev lyC d hX1_takeClaimsBack 0 [some (.ref 23), none] [] (I, J, R) _
  refine ev_st dX1_takeClaimsBack_0 rfl rfl ?_
  refine ev_getI (v := I 23 8) dX1_takeClaimsBack_1 fr_1_119 rfl rfl rfl ?_
  refine ev_st (L' := [some (.ref 23), some (.int (I 23 8))]) dX1_takeClaimsBack_4 rfl rfl ?_
  refine ev_st dX1_takeClaimsBack_5 rfl rfl ?_
  refine ev_iconst (v := 0) dX1_takeClaimsBack_6 (by decide) ?_
  refine ev_putI dX1_takeClaimsBack_7 fr_1_119 rfl rfl ?_
  refine ev_st dX1_takeClaimsBack_10 rfl rfl ?_
  exact ev_iret dX1_takeClaimsBack_11 rfl (⟨rfl, rfl⟩)
theorem k_addOld0 {I : Nat → Nat → Int32} {J : Nat → Nat → Int64} {R : Nat → Nat → Value} {d no : Nat} (hno : I 23 4 = nI no) (hno8 : no ≤ 8) {x v : Int32} (hx : ¬ (m_in v (-160) 160 = 1 ∧ no < 8)) : Cal lyC d hX1_addOldWalk 3 [.ref 23, .int x, .int v] (I, J, R) (fun r M' => r = some (.int (-1)) ∧ M' = (I, J, R)) := by
  show Ev lyC d hX1_addOldWalk 0 [some (.ref 23), some (.int x), some (.int v)] [] (I, J, R) _
  refine ev_st dX1_addOldWalk_0 rfl rfl ?_
  refine ev_sipush (v := -160) dX1_addOldWalk_1 (by decide) ?_
  refine ev_ic_lt (t := 23) (x := v) (y := (-160)) dX1_addOldWalk_4 (by decide) (fun c_4 => ?_) (fun c_4 => ?_)
  · refine ev_iconst (v := -1) dX1_addOldWalk_23 (by decide) ?_
    exact ev_iret dX1_addOldWalk_24 rfl (⟨rfl, rfl⟩)
  · refine ev_st dX1_addOldWalk_7 rfl rfl ?_
    refine ev_sipush (v := 160) dX1_addOldWalk_8 (by decide) ?_
    refine ev_ic_gt (t := 23) (x := v) (y := 160) dX1_addOldWalk_11 (by decide) (fun c_11 => ?_) (fun c_11 => ?_)
    · refine ev_iconst (v := -1) dX1_addOldWalk_23 (by decide) ?_
      exact ev_iret dX1_addOldWalk_24 rfl (⟨rfl, rfl⟩)
    · refine ev_st dX1_addOldWalk_14 rfl rfl ?_
      refine ev_getI (v := nI no) dX1_addOldWalk_15 fr_1_75 rfl rfl hno ?_
      refine ev_bipush (v := 8) dX1_addOldWalk_18 (by decide) ?_
      refine ev_ic_ltN (t := 25) (a := no) (b := 8) dX1_addOldWalk_20 (by decide) rfl rfl (by omega) (by omega) (fun c_20 => ?_) (fun c_20 => ?_)
      · exact absurd ⟨by simp [m_in, c_4, c_11], c_20⟩ hx
      · refine ev_iconst (v := -1) dX1_addOldWalk_23 (by decide) ?_
        exact ev_iret dX1_addOldWalk_24 rfl (⟨rfl, rfl⟩)
theorem k_addOld {I : Nat → Nat → Int32} {J : Nat → Nat → Int64} {R : Nat → Nat → Value} {d no : Nat} (hno : I 23 4 = nI no) (hno8 : no ≤ 8) {x v : Int32} (hv : m_in v (-160) 160 = 1) (h8 : no < 8) : Cal lyC d hX1_addOldWalk 3 [.ref 23, .int x, .int v] (I, J, R) (fun r M' => r = some (.int (nI (no + 1))) ∧ M' = (ti_wr (ti_wr (ti_wr I 24 no x) 25 no v) 23 4 (nI (no + 1)), J, R)) := by
  show Ev lyC d hX1_addOldWalk 0 [some (.ref 23), some (.int x), some (.int v)] [] (I, J, R) _
  refine ev_st dX1_addOldWalk_0 rfl rfl ?_
  refine ev_sipush (v := -160) dX1_addOldWalk_1 (by decide) ?_
  refine ev_ic_lt (t := 23) (x := v) (y := (-160)) dX1_addOldWalk_4 (by decide) (fun c_4 => ?_) (fun c_4 => ?_)
  · exact absurd hv (by simp [m_in, c_4])
  · refine ev_st dX1_addOldWalk_7 rfl rfl ?_
    refine ev_sipush (v := 160) dX1_addOldWalk_8 (by decide) ?_
    refine ev_ic_gt (t := 23) (x := v) (y := 160) dX1_addOldWalk_11 (by decide) (fun c_11 => ?_) (fun c_11 => ?_)
    · exact absurd hv (by simp [m_in, c_4, c_11])
    · refine ev_st dX1_addOldWalk_14 rfl rfl ?_
      refine ev_getI (v := nI no) dX1_addOldWalk_15 fr_1_75 rfl rfl hno ?_
      refine ev_bipush (v := 8) dX1_addOldWalk_18 (by decide) ?_
      refine ev_ic_ltN (t := 25) (a := no) (b := 8) dX1_addOldWalk_20 (by decide) rfl rfl (by omega) (by omega) (fun c_20 => ?_) (fun c_20 => ?_)
      · refine ev_st dX1_addOldWalk_25 rfl rfl ?_
        refine ev_getC dX1_addOldWalk_26 fr_1_11 rfl rfl ?_
        refine ev_st dX1_addOldWalk_29 rfl rfl ?_
        refine ev_getI (v := nI no) dX1_addOldWalk_30 fr_1_75 rfl rfl hno ?_
        refine ev_st dX1_addOldWalk_33 rfl rfl ?_
        refine ev_iast (j := no) dX1_addOldWalk_34 rfl rfl (by omega) (by decide) ?_
        refine ev_st dX1_addOldWalk_35 rfl rfl ?_
        refine ev_getC dX1_addOldWalk_36 fr_1_15 rfl rfl ?_
        refine ev_st dX1_addOldWalk_39 rfl rfl ?_
        refine ev_getI (v := nI no) dX1_addOldWalk_40 fr_1_75 rfl rfl hno ?_
        refine ev_st dX1_addOldWalk_43 rfl rfl ?_
        refine ev_iast (j := no) dX1_addOldWalk_44 rfl rfl (by omega) (by decide) ?_
        refine ev_st dX1_addOldWalk_45 rfl rfl ?_
        refine ev_st dX1_addOldWalk_46 rfl rfl ?_
        refine ev_getI (v := nI no) dX1_addOldWalk_47 fr_1_75 rfl rfl hno ?_
        refine ev_iconst (v := 1) dX1_addOldWalk_50 (by decide) ?_
        refine ev_iaddN (a := no) (b := 1) (c := no + 1) dX1_addOldWalk_51 rfl rfl rfl ?_
        refine ev_putI dX1_addOldWalk_52 fr_1_75 rfl rfl ?_
        refine ev_st dX1_addOldWalk_55 rfl rfl ?_
        refine ev_getI (v := nI (no + 1)) dX1_addOldWalk_56 fr_1_75 rfl rfl rfl ?_
        exact ev_iret dX1_addOldWalk_59 rfl (⟨rfl, rfl⟩)
      · omega
theorem k_addClaim0 {I : Nat → Nat → Int32} {J : Nat → Nat → Int64} {R : Nat → Nat → Value} {d : Nat} (h16 : I 23 8 = nI 16) (w s i : Int32) : Cal lyC d hX1_addClaim 4 [.ref 23, .int w, .int s, .int i] (I, J, R) (fun r M' => r = some (.int (-1)) ∧ M' = (I, J, R)) := by
  show Ev lyC d hX1_addClaim 0 [some (.ref 23), some (.int w), some (.int s), some (.int i)] [] (I, J, R) _
  refine ev_st dX1_addClaim_0 rfl rfl ?_
  refine ev_getI (v := nI 16) dX1_addClaim_1 fr_1_119 rfl rfl h16 ?_
  refine ev_bipush (v := 16) dX1_addClaim_4 (by decide) ?_
  refine ev_ic_ltN (t := 11) (a := 16) (b := 16) dX1_addClaim_6 (by decide) rfl rfl (by omega) (by omega) (fun c_6 => ?_) (fun c_6 => ?_)
  · omega
  · refine ev_iconst (v := -1) dX1_addClaim_9 (by decide) ?_
    exact ev_iret dX1_addClaim_10 rfl (⟨rfl, rfl⟩)
theorem k_addClaim {I : Nat → Nat → Int32} {J : Nat → Nat → Int64} {R : Nat → Nat → Value} {d nc : Nat} (hnc : I 23 8 = nI nc) (h16 : nc < 16) (w s i : Int32) : Cal lyC d hX1_addClaim 4 [.ref 23, .int w, .int s, .int i] (I, J, R) (fun r M' => r = some (.int (nI (nc + 1))) ∧ M' = (ti_wr (ti_wr (ti_wr (ti_wr I 26 nc w) 27 nc s) 28 nc i) 23 8 (nI (nc + 1)), J, R)) := by
  show Ev lyC d hX1_addClaim 0 [some (.ref 23), some (.int w), some (.int s), some (.int i)] [] (I, J, R) _
  refine ev_st dX1_addClaim_0 rfl rfl ?_
  refine ev_getI (v := nI nc) dX1_addClaim_1 fr_1_119 rfl rfl hnc ?_
  refine ev_bipush (v := 16) dX1_addClaim_4 (by decide) ?_
  refine ev_ic_ltN (t := 11) (a := nc) (b := 16) dX1_addClaim_6 (by decide) rfl rfl (by omega) (by omega) (fun c_6 => ?_) (fun c_6 => ?_)
  · refine ev_st dX1_addClaim_11 rfl rfl ?_
    refine ev_getC dX1_addClaim_12 fr_1_18 rfl rfl ?_
    refine ev_st dX1_addClaim_15 rfl rfl ?_
    refine ev_getI (v := nI nc) dX1_addClaim_16 fr_1_119 rfl rfl hnc ?_
    refine ev_st dX1_addClaim_19 rfl rfl ?_
    refine ev_iast (j := nc) dX1_addClaim_20 rfl rfl (by omega) (by decide) ?_
    refine ev_st dX1_addClaim_21 rfl rfl ?_
    refine ev_getC dX1_addClaim_22 fr_1_21 rfl rfl ?_
    refine ev_st dX1_addClaim_25 rfl rfl ?_
    refine ev_getI (v := nI nc) dX1_addClaim_26 fr_1_119 rfl rfl hnc ?_
    refine ev_st dX1_addClaim_29 rfl rfl ?_
    refine ev_iast (j := nc) dX1_addClaim_30 rfl rfl (by omega) (by decide) ?_
    refine ev_st dX1_addClaim_31 rfl rfl ?_
    refine ev_getC dX1_addClaim_32 fr_1_24 rfl rfl ?_
    refine ev_st dX1_addClaim_35 rfl rfl ?_
    refine ev_getI (v := nI nc) dX1_addClaim_36 fr_1_119 rfl rfl hnc ?_
    refine ev_st dX1_addClaim_39 rfl rfl ?_
    refine ev_iast (j := nc) dX1_addClaim_40 rfl rfl (by omega) (by decide) ?_
    refine ev_st dX1_addClaim_41 rfl rfl ?_
    refine ev_st dX1_addClaim_42 rfl rfl ?_
    refine ev_getI (v := nI nc) dX1_addClaim_43 fr_1_119 rfl rfl hnc ?_
    refine ev_iconst (v := 1) dX1_addClaim_46 (by decide) ?_
    refine ev_iaddN (a := nc) (b := 1) (c := nc + 1) dX1_addClaim_47 rfl rfl rfl ?_
    refine ev_putI dX1_addClaim_48 fr_1_119 rfl rfl ?_
    refine ev_st dX1_addClaim_51 rfl rfl ?_
    refine ev_getI (v := nI (nc + 1)) dX1_addClaim_52 fr_1_119 rfl rfl rfl ?_
    exact ev_iret dX1_addClaim_55 rfl (⟨rfl, rfl⟩)
  · omega
theorem k_old0 {I : Nat → Nat → Int32} {J : Nat → Nat → Int64} {R : Nat → Nat → Value} {d ns : Nat} (hns : I 11 4 = nI ns) (hns8 : ns ≤ 8) {x v : Int32} (hx : ix (2 ^ ns) x = none) : Cal lyC (d + 1) hX11_old 3 [.ref 0, .int x, .int v] (I, J, R) (fun r M' => r = some (.int (-1)) ∧ M' = (I, J, R)) := by
  show Ev lyC (d + 1) hX11_old 0 [some (.ref 0), some (.int x), some (.int v)] [] (I, J, R) _
  refine ev_st dX11_old_0 rfl rfl ?_
  refine ev_getC dX11_old_1 fr_11_42 rfl rfl ?_
  refine ev_st dX11_old_4 rfl rfl ?_
  refine ev_call dX11_old_5 rfl rfl mr_11_319 rfl rfl rfl ((by have K := k_holds (I := I) (J := J) (R := R) (d := d) hns hns8 x; simp only [hx, Option.isSome] at K; exact Cal.mono (by omega) K)) ?_
  rintro _ _ ⟨rfl, rfl⟩
  show Ev lyC (d + 1) hX11_old 8 [some (.ref 0), some (.int x), some (.int v)] [.int 0] (I, J, R) _
  refine ev_if_eq (t := 23) dX11_old_8 (by decide) (fun _ => ?_) (fun q => absurd q (by decide))
  refine ev_iconst (v := -1) dX11_old_23 (by decide) ?_
  exact ev_iret dX11_old_24 rfl (⟨rfl, rfl⟩)
theorem k_old {I : Nat → Nat → Int32} {J : Nat → Nat → Int64} {R : Nat → Nat → Value} {d : Nat} {ns j : Nat} (hns : I 11 4 = nI ns) (hns8 : ns ≤ 8) {x v : Int32} (hx : ix (2 ^ ns) x = some j) {Q : Option Value → TM → Prop} (hact : Cal lyC d hX1_addOldWalk 3 [.ref 23, .int x, .int v] (I, J, R) (fun r M' => (∃ v, r = some (.int v)) ∧ Q r M')) : Cal lyC (d + 1) hX11_old 3 [.ref 0, .int x, .int v] (I, J, R) Q := by
  show Ev lyC (d + 1) hX11_old 0 [some (.ref 0), some (.int x), some (.int v)] [] (I, J, R) _
  refine ev_st dX11_old_0 rfl rfl ?_
  refine ev_getC dX11_old_1 fr_11_42 rfl rfl ?_
  refine ev_st dX11_old_4 rfl rfl ?_
  refine ev_call dX11_old_5 rfl rfl mr_11_319 rfl rfl rfl ((by have K := k_holds (I := I) (J := J) (R := R) (d := d) hns hns8 x; simp only [hx, Option.isSome] at K; exact Cal.mono (by omega) K)) ?_
  rintro _ _ ⟨rfl, rfl⟩
  show Ev lyC (d + 1) hX11_old 8 [some (.ref 0), some (.int x), some (.int v)] [.int 1] (I, J, R) _
  refine ev_if_eq (t := 23) dX11_old_8 (by decide) (fun q => absurd q (by decide)) (fun _ => ?_)
  refine ev_st dX11_old_11 rfl rfl ?_
  refine ev_getC dX11_old_12 fr_11_83 rfl rfl ?_
  refine ev_st dX11_old_15 rfl rfl ?_
  refine ev_st dX11_old_16 rfl rfl ?_
  refine ev_call dX11_old_17 rfl rfl mr_11_340 rfl rfl rfl (hact) ?_
  rintro _ ⟨I3, J3, R3⟩ ⟨⟨vr, rfl⟩, hq⟩
  show Ev lyC (d + 1) hX11_old 20 [some (.ref 0), some (.int x), some (.int v)] [.int vr] (I3, J3, R3) _
  refine ev_goto (t := 24) dX11_old_20 (by decide) ?_
  exact ev_iret dX11_old_24 rfl (hq)
