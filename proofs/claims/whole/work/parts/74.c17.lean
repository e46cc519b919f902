/-! the class: the strongest team; claims; slips by chance -/
theorem k_strongest {I : Nat → Nat → Int32} {J : Nat → Nat → Int64} {R : Nat → Nat → Value} {d n p : Nat} {F : Int32 → Int32} (hn : I 8 3 = nI n) (hn8 : n ≤ 8) (hF : kF I R d p F) (x : Int32) : Cal lyC (d + 6) hX8_strongest 4 [.ref 22, .ref 39, .ref p, .int x] (I, J, R) (fun r M' => r = some (.int ((m_tm F x (2 ^ n)).2)) ∧ ∃ I3 J3, M' = (I3, J3, R) ∧ fC I I3 ∧ tC [((m_tm F x (2 ^ n)).1).toInt64] I3 J3) := by
  show Ev lyC (d + 6) hX8_strongest 0 [some (.ref 22), some (.ref 39), some (.ref p), some (.int x)] [] (I, J, R) _
  refine ev_st dX8_strongest_0 rfl rfl ?_
  refine ev_getC dX8_strongest_1 fr_8_19 rfl rfl ?_
  refine ev_st dX8_strongest_4 rfl rfl ?_
  refine ev_st dX8_strongest_5 rfl rfl ?_
  refine ev_st dX8_strongest_6 rfl rfl ?_
  refine ev_st dX8_strongest_7 rfl rfl ?_
  refine ev_call dX8_strongest_8 rfl rfl mr_8_38 rfl rfl rfl (Cal.mono (by omega) (k_sof (I2 := I) (J := J) hn hn8 hF fC.rf x)) ?_
  rintro _ _ ⟨rfl, I2, rfl, hs2, e3, e22⟩
  show Ev lyC (d + 6) hX8_strongest 11 [some (.ref 22), some (.ref 39), some (.ref p), some (.int x)] [.int ((m_tm F x (2 ^ n)).1), .ref 3] (I2, J, R) _
  refine ev_st dX8_strongest_11 rfl rfl ?_
  refine ev_call dX8_strongest_12 rfl rfl mr_8_42 rfl rfl rfl (k_tell1 (((m_tm F x (2 ^ n)).1).toInt64)) ?_
  rintro _ _ ⟨rfl, rfl⟩
  show Ev lyC (d + 6) hX8_strongest 15 [some (.ref 22), some (.ref 39), some (.ref p), some (.int x)] [] (ti_wr I2 3 1 (nI 1), ti_wl J 4 0 (((m_tm F x (2 ^ n)).1).toInt64), R) _
  refine ev_st dX8_strongest_15 rfl rfl ?_
  refine ev_getI (v := (m_tm F x (2 ^ n)).2) dX8_strongest_16 fr_8_48 rfl rfl e22 ?_
  exact ev_iret dX8_strongest_19 rfl (⟨rfl, _, _, rfl, (hs2.w (p := 3) (k := 1) rfl _), tC1 rfl rfl⟩)
theorem ix4_ok {w : Int32} (h0 : ¬ w < 0) (h4 : w < 4) : (ix 4 w).isSome = true := by
  unfold ix
  rw [if_pos ⟨Int32.not_lt.mp h0, show w < nI 4 from h4⟩]; rfl
theorem ix4_no {w : Int32} (h : w < 0 ∨ ¬ w < 4) : ¬ (ix 4 w).isSome = true := by
  unfold ix
  intro q
  split at q
  · next e => exact h.elim (fun z => absurd e.1 (Int32.not_le.mpr z)) (fun z => z e.2)
  · cases q
theorem k_claim0 {I : Nat → Nat → Int32} {J : Nat → Nat → Int64} {R : Nat → Nat → Value} {d ns : Nat} (hns : I 11 4 = nI ns) {w s i : Int32} (hx : ¬ ((ix 4 w).isSome = true ∧ (ix ns s).isSome = true ∧ m_in i 0 1 = 1)) : Cal lyC (d + 1) hX11_claim 4 [.ref 0, .int w, .int s, .int i] (I, J, R) (fun r M' => r = some (.int (-1)) ∧ M' = (I, J, R)) := by
  show Ev lyC (d + 1) hX11_claim 0 [some (.ref 0), some (.int w), some (.int s), some (.int i)] [] (I, J, R) _
  refine ev_st dX11_claim_0 rfl rfl ?_
  refine ev_if_lt (t := 29) (x := w) dX11_claim_1 (by decide) (fun c_1 => ?_) (fun c_1 => ?_)
  · refine ev_iconst (v := -1) dX11_claim_29 (by decide) ?_
    exact ev_iret dX11_claim_30 rfl (⟨rfl, rfl⟩)
  · refine ev_st dX11_claim_4 rfl rfl ?_
    refine ev_iconst (v := 4) dX11_claim_5 (by decide) ?_
    refine ev_ic_ge (t := 29) (x := w) (y := 4) dX11_claim_6 (by decide) (fun c_6 => ?_) (fun c_6 => ?_)
    · refine ev_iconst (v := -1) dX11_claim_29 (by decide) ?_
      exact ev_iret dX11_claim_30 rfl (⟨rfl, rfl⟩)
    · refine ev_st dX11_claim_9 rfl rfl ?_
      refine ev_getC dX11_claim_10 fr_11_42 rfl rfl ?_
      refine ev_st dX11_claim_13 rfl rfl ?_
      refine ev_call dX11_claim_14 rfl rfl mr_11_171 rfl rfl rfl (k_X6_has (I := I) (J := J) (R := R) hns s) ?_
      rintro _ _ ⟨rfl, rfl⟩
      show Ev lyC (d + 1) hX11_claim 17 [some (.ref 0), some (.int w), some (.int s), some (.int i)] [.int (if (ix ns s).isSome then 1 else 0)] (I, J, R) _
      refine ev_if_eq (t := 29) (x := if (ix ns s).isSome then 1 else 0) dX11_claim_17 (by decide) (fun c_17 => ?_) (fun c_17 => ?_)
      · refine ev_iconst (v := -1) dX11_claim_29 (by decide) ?_
        exact ev_iret dX11_claim_30 rfl (⟨rfl, rfl⟩)
      · refine ev_st dX11_claim_20 rfl rfl ?_
        refine ev_if_lt (t := 29) (x := i) dX11_claim_21 (by decide) (fun c_21 => ?_) (fun c_21 => ?_)
        · refine ev_iconst (v := -1) dX11_claim_29 (by decide) ?_
          exact ev_iret dX11_claim_30 rfl (⟨rfl, rfl⟩)
        · refine ev_st dX11_claim_24 rfl rfl ?_
          refine ev_iconst (v := 1) dX11_claim_25 (by decide) ?_
          refine ev_ic_le (t := 31) (x := i) (y := 1) dX11_claim_26 (by decide) (fun c_26 => ?_) (fun c_26 => ?_)
          · exact absurd ⟨ix4_ok c_1 c_6, if01 c_17, by simp [m_in, c_21, c_26]⟩ hx
          · refine ev_iconst (v := -1) dX11_claim_29 (by decide) ?_
            exact ev_iret dX11_claim_30 rfl (⟨rfl, rfl⟩)
theorem k_claim {I : Nat → Nat → Int32} {J : Nat → Nat → Int64} {R : Nat → Nat → Value} {d : Nat} {ns : Nat} (hns : I 11 4 = nI ns) {w s i : Int32} (hw : (ix 4 w).isSome = true) (hs : (ix ns s).isSome = true) (hi : m_in i 0 1 = 1) {Q : Option Value → TM → Prop} (hact : Cal lyC d hX1_addClaim 4 [.ref 23, .int w, .int s, .int i] (I, J, R) (fun r M' => (∃ v, r = some (.int v)) ∧ Q r M')) : Cal lyC (d + 1) hX11_claim 4 [.ref 0, .int w, .int s, .int i] (I, J, R) Q := by
  show Ev lyC (d + 1) hX11_claim 0 [some (.ref 0), some (.int w), some (.int s), some (.int i)] [] (I, J, R) _
  refine ev_st dX11_claim_0 rfl rfl ?_
  refine ev_if_lt (t := 29) (x := w) dX11_claim_1 (by decide) (fun c_1 => ?_) (fun c_1 => ?_)
  · exact absurd hw (ix4_no (Or.inl c_1))
  · refine ev_st dX11_claim_4 rfl rfl ?_
    refine ev_iconst (v := 4) dX11_claim_5 (by decide) ?_
    refine ev_ic_ge (t := 29) (x := w) (y := 4) dX11_claim_6 (by decide) (fun c_6 => ?_) (fun c_6 => ?_)
    · exact absurd hw (ix4_no (Or.inr c_6))
    · refine ev_st dX11_claim_9 rfl rfl ?_
      refine ev_getC dX11_claim_10 fr_11_42 rfl rfl ?_
      refine ev_st dX11_claim_13 rfl rfl ?_
      refine ev_call dX11_claim_14 rfl rfl mr_11_171 rfl rfl rfl (k_X6_has (I := I) (J := J) (R := R) hns s) ?_
      rintro _ _ ⟨rfl, rfl⟩
      show Ev lyC (d + 1) hX11_claim 17 [some (.ref 0), some (.int w), some (.int s), some (.int i)] [.int (if (ix ns s).isSome then 1 else 0)] (I, J, R) _
      refine ev_if_eq (t := 29) (x := if (ix ns s).isSome then 1 else 0) dX11_claim_17 (by decide) (fun c_17 => ?_) (fun c_17 => ?_)
      · exact absurd (show (1 : Int32) = 0 by rw [if_pos hs] at c_17; exact c_17) (by decide)
      · refine ev_st dX11_claim_20 rfl rfl ?_
        refine ev_if_lt (t := 29) (x := i) dX11_claim_21 (by decide) (fun c_21 => ?_) (fun c_21 => ?_)
        · exact absurd hi (by simp [m_in, c_21])
        · refine ev_st dX11_claim_24 rfl rfl ?_
          refine ev_iconst (v := 1) dX11_claim_25 (by decide) ?_
          refine ev_ic_le (t := 31) (x := i) (y := 1) dX11_claim_26 (by decide) (fun c_26 => ?_) (fun c_26 => ?_)
          · refine ev_st dX11_claim_31 rfl rfl ?_
            refine ev_getC dX11_claim_32 fr_11_83 rfl rfl ?_
            refine ev_st dX11_claim_35 rfl rfl ?_
            refine ev_st dX11_claim_36 rfl rfl ?_
            refine ev_st dX11_claim_37 rfl rfl ?_
            refine ev_call dX11_claim_38 rfl rfl mr_11_367 rfl rfl rfl (hact) ?_
            rintro _ ⟨I3, J3, R3⟩ ⟨⟨vr, rfl⟩, hq⟩
            show Ev lyC (d + 1) hX11_claim 41 [some (.ref 0), some (.int w), some (.int s), some (.int i)] [.int vr] (I3, J3, R3) _
            exact ev_iret dX11_claim_41 rfl (hq)
          · exact absurd hi (by simp [m_in, c_21, c_26])
set_option maxHeartbeats 1000000 in
theorem gc_step {I : Nat → Nat → Int32} {J : Nat → Nat → Int64} {R : Nat → Nat → Value} {d g l b : Nat} {x y : Int32} {z : Option Value} {Q : Option Value → TM → Prop} (hg : g < 2 ^ 31) (hl : l < 2 ^ 31) (h0 : 0 < l) (hb : b < 64) (kk : Ev lyC (d + 1) hX8_commonDivisor 15 [some (.int x), some (.int y), some (.int (nI l)), some (.int (nI (g % l))), some (.int (nI (b + 1))), some (.int (nI (g % l)))] [] (I, J, R) Q) : Ev lyC (d + 1) hX8_commonDivisor 15 [some (.int x), some (.int y), some (.int (nI g)), some (.int (nI l)), some (.int (nI b)), z] [] (I, J, R) Q := by
  refine ev_st dX8_commonDivisor_15 rfl rfl ?_
  refine ev_bipush (v := 64) dX8_commonDivisor_17 (by decide) ?_
  refine ev_ic_geN (t := 42) (a := b) (b := 64) dX8_commonDivisor_19 (by decide) rfl rfl (by omega) (by omega) (fun c_19 => ?_) (fun c_19 => ?_)
  · omega
  · refine ev_st dX8_commonDivisor_22 rfl rfl ?_
    refine ev_if_leN (t := 42) (a := l) dX8_commonDivisor_23 (by decide) rfl (by omega) (fun c_23 => ?_) (fun c_23 => ?_)
    · omega
    · refine ev_st dX8_commonDivisor_26 rfl rfl ?_
      refine ev_st dX8_commonDivisor_27 rfl rfl ?_
      refine ev_remN (c := g % l) dX8_commonDivisor_28 (fun q => by have := (nI_eq (b := 0) (by omega) (by decide)).mp q; omega) (pk_rem (by omega) (by omega) (by omega)) ?_
      refine ev_st (L' := [some (.int x), some (.int y), some (.int (nI g)), some (.int (nI l)), some (.int (nI b)), some (.int (nI (g % l)))]) dX8_commonDivisor_29 rfl rfl ?_
      refine ev_st dX8_commonDivisor_31 rfl rfl ?_
      refine ev_st (L' := [some (.int x), some (.int y), some (.int (nI l)), some (.int (nI l)), some (.int (nI b)), some (.int (nI (g % l)))]) dX8_commonDivisor_32 rfl rfl ?_
      refine ev_st dX8_commonDivisor_33 rfl rfl ?_
      refine ev_st (L' := [some (.int x), some (.int y), some (.int (nI l)), some (.int (nI (g % l))), some (.int (nI b)), some (.int (nI (g % l)))]) dX8_commonDivisor_35 rfl rfl ?_
      refine ev_iincN (a := b) (b := b + 1) (L' := [some (.int x), some (.int y), some (.int (nI l)), some (.int (nI (g % l))), some (.int (nI (b + 1))), some (.int (nI (g % l)))]) dX8_commonDivisor_36 rfl (nI_1 _) rfl ?_
      refine ev_goto (t := 15) dX8_commonDivisor_39 (by decide) ?_
      exact kk
set_option maxHeartbeats 1000000 in
theorem gc_end {I : Nat → Nat → Int32} {J : Nat → Nat → Int64} {R : Nat → Nat → Value} {d g b : Nat} {x y : Int32} {z : Option Value} {Q : Option Value → TM → Prop} (hb : b ≤ 64) (hq : Q (some (.int (nI g))) (I, J, R)) : Ev lyC (d + 1) hX8_commonDivisor 15 [some (.int x), some (.int y), some (.int (nI g)), some (.int 0), some (.int (nI b)), z] [] (I, J, R) Q := by
  refine ev_st dX8_commonDivisor_15 rfl rfl ?_
  refine ev_bipush (v := 64) dX8_commonDivisor_17 (by decide) ?_
  refine ev_ic_geN (t := 42) (a := b) (b := 64) dX8_commonDivisor_19 (by decide) rfl rfl (by omega) (by omega) (fun c_19 => ?_) (fun c_19 => ?_)
  · refine ev_st dX8_commonDivisor_42 rfl rfl ?_
    exact ev_iret dX8_commonDivisor_43 rfl (hq)
  · refine ev_st dX8_commonDivisor_22 rfl rfl ?_
    refine ev_if_le (t := 42) dX8_commonDivisor_23 (by decide) (fun _ => ?_) (fun q => absurd q (by decide))
    refine ev_st dX8_commonDivisor_42 rfl rfl ?_
    exact ev_iret dX8_commonDivisor_43 rfl (hq)
theorem gc_loop {I : Nat → Nat → Int32} {J : Nat → Nat → Int64} {R : Nat → Nat → Value} {d : Nat} {x y : Int32} {Q : Option Value → TM → Prop} : ∀ (k g l b : Nat) (z : Option Value), g < 2 ^ 31 → l < 2 ^ 31 → l < 2 ^ k → b + 2 * k ≤ 64 → Q (some (.int (nI (Nat.gcd g l)))) (I, J, R) → Ev lyC (d + 1) hX8_commonDivisor 15 [some (.int x), some (.int y), some (.int (nI g)), some (.int (nI l)), some (.int (nI b)), z] [] (I, J, R) Q
  | 0, g, l, b, z, hg, hl31, hl, hb, hq => by
    have e : l = 0 := by omega
    subst e
    rw [Nat.gcd_zero_right] at hq
    exact gc_end (by omega) hq
  | k + 1, g, l, b, z, hg, hl31, hl, hb, hq => by
    by_cases h0 : l = 0
    · subst h0
      rw [Nat.gcd_zero_right] at hq
      exact gc_end (by omega) hq
    · refine gc_step hg hl31 (by omega) (by omega) ?_
      have hr := Nat.mod_lt g (show 0 < l by omega)
      have e1 : Nat.gcd l (g % l) = Nat.gcd g l := by rw [Nat.gcd_comm g l, Nat.gcd_rec l g, Nat.gcd_comm]
      by_cases h1 : g % l = 0
      · have e2 : Nat.gcd g l = l := by rw [← e1, h1, Nat.gcd_zero_right]
        rw [h1]
        rw [e2] at hq
        exact gc_end (by omega) hq
      · refine gc_step hl31 (by omega) (by omega) (by omega) ?_
        have e2 : Nat.gcd (g % l) (l % (g % l)) = Nat.gcd g l := by rw [← e1, Nat.gcd_comm l, Nat.gcd_rec (g % l) l, Nat.gcd_comm]
        have hr2 := Nat.mod_lt l (show 0 < g % l by omega)
        have h2 : 2 * (l % (g % l)) < l ∨ 2 * (l % (g % l)) ≤ l := by
          by_cases c : 2 * (g % l) ≤ l
          · left; omega
          · right
            have : l % (g % l) = l - g % l := by
              rw [Nat.mod_eq_sub_mod (by omega), Nat.mod_eq_of_lt (by omega)]
            omega
        exact gc_loop k _ _ _ _ (by omega) (by omega) (by rw [Nat.pow_succ] at hl; omega) (by omega) (by rw [e2]; exact hq)
theorem min_nI {a b : Nat} (ha : a < 2 ^ 31) (hb : b < 2 ^ 31) : (if nI b < nI a then nI b else nI a) = nI (min a b) := by
  by_cases h : b < a
  · rw [if_pos ((nI_ltI hb ha).mpr h), Nat.min_eq_right (by omega)]
  · rw [if_neg (fun q => h ((nI_ltI hb ha).mp q)), Nat.min_eq_left (by omega)]
theorem gcd_mm (a b : Nat) : Nat.gcd (max a b) (min a b) = Nat.gcd a b := by
  by_cases h : a ≤ b
  · rw [Nat.max_eq_right h, Nat.min_eq_left h, Nat.gcd_comm]
  · rw [Nat.max_eq_left (by omega), Nat.min_eq_right (by omega)]
set_option maxHeartbeats 1000000 in
theorem k_gcd {I : Nat → Nat → Int32} {J : Nat → Nat → Int64} {R : Nat → Nat → Value} {d x y : Nat} (hx : x < 2 ^ 30) (hy : y < 2 ^ 30) : Cal lyC (d + 1) hX8_commonDivisor 6 [.int (nI x), .int (nI y)] (I, J, R) (fun r M' => r = some (.int (nI (Nat.gcd x y))) ∧ M' = (I, J, R)) := by
  have hmn : min x y < 2 ^ 30 := by omega
  show Ev lyC (d + 1) hX8_commonDivisor 0 [some (.int (nI x)), some (.int (nI y)), none, none, none, none] [] (I, J, R) _
  refine ev_st dX8_commonDivisor_0 rfl rfl ?_
  refine ev_st dX8_commonDivisor_1 rfl rfl ?_
  refine ev_max (v := nI (max x y)) dX8_commonDivisor_2 br_8_95 rfl (max_nI (by omega) (by omega)) ?_
  refine ev_st (L' := [some (.int (nI x)), some (.int (nI y)), some (.int (nI (max x y))), none, none, none]) dX8_commonDivisor_5 rfl rfl ?_
  refine ev_st dX8_commonDivisor_6 rfl rfl ?_
  refine ev_st dX8_commonDivisor_7 rfl rfl ?_
  refine ev_min (v := nI (min x y)) dX8_commonDivisor_8 br_8_65 rfl (min_nI (by omega) (by omega)) ?_
  refine ev_st (L' := [some (.int (nI x)), some (.int (nI y)), some (.int (nI (max x y))), some (.int (nI (min x y))), none, none]) dX8_commonDivisor_11 rfl rfl ?_
  refine ev_iconst (v := 0) dX8_commonDivisor_12 (by decide) ?_
  refine ev_st (L' := [some (.int (nI x)), some (.int (nI y)), some (.int (nI (max x y))), some (.int (nI (min x y))), some (.int 0), none]) dX8_commonDivisor_13 rfl rfl ?_
  exact gc_loop 30 _ _ 0 _ (by omega) (by omega) (by omega) (by omega) ⟨by rw [gcd_mm], rfl⟩
