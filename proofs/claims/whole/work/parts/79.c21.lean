/-! the class: hush, which -/
def k_f3 (h : Nat → Option (List (Nat × Nat))) : Nat → Nat → Option (Nat × List (Nat × Nat))
  | 0, _ => none
  | k + 1, nu => match h nu with
    | some L => some (nu, L)
    | none => k_f3 h k (nu + 1)
def k_FB (sy B BO : Nat → Int32) (c ns a : Nat) (spk ld x : Int32) : Option (Nat × List (Nat × Nat)) :=
  if BO a < ld then (if ¬ spk = 0 ∧ B a < ld then none else k_f3 (fun nu => k_hl sy B BO c ns nu (if spk = 0 then a else a + 1) x ld) 3 1) else some (0, [])
theorem f3_s {h : Nat → Option (List (Nat × Nat))} {k nu : Nat} {L : List (Nat × Nat)} (e : h nu = some L) : k_f3 h (k + 1) nu = some (nu, L) := by rw [k_f3, e]
theorem f3_n {h : Nat → Option (List (Nat × Nat))} {k nu : Nat} (e : h nu = none) : k_f3 h (k + 1) nu = k_f3 h k (nu + 1) := by rw [k_f3, e]
theorem glL_some {ok : Nat → Bool} {rec : Nat → Option (List (Nat × Nat))} {L : List (Nat × Nat)} : ∀ k s, m_glL ok rec k s = some L → ∃ t, s ≤ t ∧ t < s + k ∧ ok t = true ∧ rec t = some L
  | 0, s, h => by cases h
  | k + 1, s, h => by
    by_cases e : ok s = true
    · cases hr : rec s with
      | none =>
        rw [gl_none e hr] at h
        obtain ⟨t, h1, h2, h3⟩ := glL_some k (s + 1) h
        exact ⟨t, by omega, by omega, h3⟩
      | some L' =>
        rw [gl_some e hr] at h
        cases h
        exact ⟨s, by omega, by omega, e, hr⟩
    · rw [gl_no (by simpa using e)] at h
      obtain ⟨t, h1, h2, h3⟩ := glL_some k (s + 1) h
      exact ⟨t, by omega, by omega, h3⟩
theorem hl_j {sy B BO : Nat → Int32} {c ns : Nat} : ∀ nu j x ld L, k_hl sy B BO c ns nu j x ld = some L → L.length = nu ∧ j < c ∧ ∀ (i : Nat) (y : Nat × Nat), L[i]? = some y → y.1 = j + i ∧ y.2 < ns
  | 0, j, x, ld, L, h => by cases h
  | nu + 1, j, x, ld, L, h => by
    rw [k_hl_s] at h
    by_cases hc : c ≤ j
    · rw [if_pos hc] at h; cases h
    · rw [if_neg hc] at h
      obtain ⟨t, h1, h2, h3, h4⟩ := glL_some _ _ h
      unfold k_hr at h4
      by_cases e : nu = 0
      · rw [if_pos e] at h4
        split at h4
        · cases h4
        · cases h4
          refine ⟨by rw [e]; rfl, by omega, fun i y hy => ?_⟩
          cases i with
          | zero => cases hy; exact ⟨rfl, by show t < ns; omega⟩
          | succ i => cases hy
      · rw [if_neg e] at h4
        split at h4
        · cases h4
        · obtain ⟨L0, e0, rfl⟩ := Option.map_eq_some_iff.mp h4
          obtain ⟨g1, g2, g3⟩ := hl_j nu _ _ _ _ e0
          refine ⟨by rw [List.length_cons, g1], by omega, fun i y hy => ?_⟩
          cases i with
          | zero => cases hy; exact ⟨rfl, by show t < ns; omega⟩
          | succ i =>
            obtain ⟨q1, q2⟩ := g3 i y hy
            exact ⟨by omega, q2⟩
theorem f3_some {h : Nat → Option (List (Nat × Nat))} : ∀ k nu z L, k_f3 h k nu = some (z, L) → nu ≤ z ∧ z < nu + k ∧ h z = some L
  | 0, nu, z, L, e => by cases e
  | k + 1, nu, z, L, e => by
    cases hr : h nu with
    | none =>
      rw [f3_n hr] at e
      obtain ⟨h1, h2, h3⟩ := f3_some k (nu + 1) z L e
      exact ⟨by omega, by omega, h3⟩
    | some L' =>
      rw [f3_s hr] at e
      cases e
      exact ⟨by omega, by omega, hr⟩
theorem FB_some {sy B BO : Nat → Int32} {c ns a z : Nat} {spk ld x : Int32} {L : List (Nat × Nat)} (h : k_FB sy B BO c ns a spk ld x = some (z, L)) : z ≤ 3 ∧ L.length = z ∧ ∀ (i : Nat) (y : Nat × Nat), L[i]? = some y → y.1 = (if spk = 0 then a else a + 1) + i ∧ y.2 < ns := by
  unfold k_FB at h
  split at h
  · split at h
    · cases h
    · obtain ⟨h1, h2, h3⟩ := f3_some _ _ _ _ h
      obtain ⟨g1, g2, g3⟩ := hl_j _ _ _ _ _ h3
      exact ⟨by omega, g1, g3⟩
  · cases h; exact ⟨by omega, rfl, fun i y hy => by cases hy⟩
theorem hF0 {I I2 : Nat → Nat → Int32} (h : ∀ p, p ≠ 21 → I2 p = I p) : hF 0 I I2 := ⟨h, fun i hi => by omega⟩
theorem hF.f {pl : Nat} {I I2 I3 : Nat → Nat → Int32} (g : hF pl I2 I3) (h : fC I I2) : fC I I3 := by
  refine ⟨fun p hp => ?_, ?_, ?_⟩
  · rw [g.1 p (fun e => by subst e; cases hp)]; exact h.1 p hp
  · rw [g.1 23 (by decide)]; exact h.2.1
  · rw [g.1 23 (by decide)]; exact h.2.2
theorem k_fts {I : Nat → Nat → Int32} {J : Nat → Nat → Int64} {R : Nat → Nat → Value} {d a : Nat} {spk : Int32} (ha : I 39 1 = nI a) (h6 : I 39 6 = spk) : Cal lyC d hX3_firstToSpeak 1 [.ref 39] (I, J, R) (fun r M' => r = some (.int (nI (if spk = 0 then a else a + 1))) ∧ M' = (I, J, R)) := by
  show Ev lyC d hX3_firstToSpeak 0 [some (.ref 39)] [] (I, J, R) _
  refine ev_st dX3_firstToSpeak_0 rfl rfl ?_
  refine ev_getI (v := spk) dX3_firstToSpeak_1 fr_3_121 rfl rfl h6 ?_
  refine ev_if_eq (t := 16) (x := spk) dX3_firstToSpeak_4 (by decide) (fun c_4 => ?_) (fun c_4 => ?_)
  · refine ev_st dX3_firstToSpeak_16 rfl rfl ?_
    refine ev_getI (v := nI a) dX3_firstToSpeak_17 fr_3_48 rfl rfl ha ?_
    exact ev_iret dX3_firstToSpeak_20 rfl (⟨by rw [if_pos c_4], rfl⟩)
  · refine ev_st dX3_firstToSpeak_7 rfl rfl ?_
    refine ev_getI (v := nI a) dX3_firstToSpeak_8 fr_3_48 rfl rfl ha ?_
    refine ev_iconst (v := 1) dX3_firstToSpeak_11 (by decide) ?_
    refine ev_iaddN (a := a) (b := 1) (c := a + 1) dX3_firstToSpeak_12 rfl rfl rfl ?_
    refine ev_goto (t := 20) dX3_firstToSpeak_13 (by decide) ?_
    exact ev_iret dX3_firstToSpeak_20 rfl (⟨by rw [if_neg c_4], rfl⟩)
theorem k_knF {I I2 : Nat → Nat → Int32} {J : Nat → Nat → Int64} {R : Nat → Nat → Value} {d n c ns : Nat} {sp str tl sy : Nat → Int32} (hst : ST I sp str tl sy n c ns) (hs : fC I I2) (x : Int32) : Cal lyC d hX6_knownTo 4 [.ref 11, .int x] (I2, J, R) (fun r M' => r = some (.int (k_kn (I 14) x ns)) ∧ M' = (I2, J, R)) := by
  have K := k_knownTo (I := I2) (J := J) (R := R) (d := d) (ns := ns) (by rw [hs.r 11 rfl]; exact hst.2.2.2.2.2.1) hst.2.2.2.2.2.2.1 x
  rw [hs.r 14 rfl] at K
  exact K
set_option maxHeartbeats 1000000 in
theorem k_fewestBy {I I2 : Nat → Nat → Int32} {J : Nat → Nat → Int64} {R : Nat → Nat → Value} {d n c ns a : Nat} {row sp str tl sy B BO : Nat → Int32} (hst : ST I sp str tl sy n c ns) (hr : SR (I 39) (I 40) row n ns) (hw : WS row n ns c a) (hB : ∀ q, a ≤ q → q < c → I2 19 q = B q) (hBO : ∀ q, a ≤ q → q ≤ c → I2 20 q = BO q) (hBc : BO c = 999) (hs2 : fC I I2) (w : Int32) : Cal lyC (d + 7) hX3_fewestBy 5 [.ref 18, .ref 39, .int w] (I2, J, R) (fun r M' => r = some (.int (m_hn (k_FB sy B BO c ns a (row 27) (row 25) ((I 11 3 &&& k_kn (I 14) w ns) &&& (I 39 5 ^^^ (-1)))))) ∧ ∃ I3, M' = (I3, J, R) ∧ (∀ p, p ≠ 21 → I3 p = I2 p) ∧ ∀ z L, k_FB sy B BO c ns a (row 27) (row 25) ((I 11 3 &&& k_kn (I 14) w ns) &&& (I 39 5 ^^^ (-1))) = some (z, L) → plL (I3 21) 0 L) := by
  have hc := hst.2.2.1
  have hc12 := hst.2.2.2.1
  have hns := hst.2.2.2.2.2.1
  have hns8 := hst.2.2.2.2.2.2.1
  have ha : I 39 1 = nI a := hr.1.trans hw.1
  have hac := hw.2.1
  have hlt : BO a < row 25 → a < c := fun q => Nat.lt_of_le_of_ne hac (fun e => by subst e; rw [hBc] at q; obtain ⟨l, hl, el⟩ := hw.2.2.2.2.2.1; rw [el, show (999 : Int32) = nI 999 from rfl, nI_ltI (by decide) (by omega)] at q; omega)
  have loop : BO a < row 25 → ∀ (k b : Nat) (I4 : Nat → Nat → Int32), 1 ≤ b → b ≤ 4 → 4 - b < k → (∀ p, p ≠ 21 → I4 p = I2 p) → k_f3 (fun nu => k_hl sy B BO c ns nu (if row 27 = 0 then a else a + 1) ((I 11 3 &&& k_kn (I 14) w ns) &&& (I 39 5 ^^^ (-1))) (row 25)) (4 - b) b = k_FB sy B BO c ns a (row 27) (row 25) ((I 11 3 &&& k_kn (I 14) w ns) &&& (I 39 5 ^^^ (-1))) → Ev lyC (d + 7) hX3_fewestBy 71 [some (.ref 18), some (.ref 39), some (.int w), some (.int (((I 11 3 &&& k_kn (I 14) w ns) &&& (I 39 5 ^^^ (-1))))), some (.int (nI b))] [] (I4, J, R) (fun r M' => r = some (.int (m_hn (k_FB sy B BO c ns a (row 27) (row 25) ((I 11 3 &&& k_kn (I 14) w ns) &&& (I 39 5 ^^^ (-1)))))) ∧ ∃ I3, M' = (I3, J, R) ∧ (∀ p, p ≠ 21 → I3 p = I2 p) ∧ ∀ z L, k_FB sy B BO c ns a (row 27) (row 25) ((I 11 3 &&& k_kn (I 14) w ns) &&& (I 39 5 ^^^ (-1))) = some (z, L) → plL (I3 21) 0 L) := by
    intro hlo k
    have hacl := hlt hlo
    induction k with
    | zero => intro b I4 h0 h1 h2; omega
    | succ k ih =>
      intro b I4 hb1 hb hk g4 hT
      have hs4 : fC I I4 := (hF0 g4).f hs2
      refine ev_st dX3_fewestBy_71 rfl rfl ?_
      refine ev_iconst (v := 3) dX3_fewestBy_73 (by decide) ?_
      refine ev_ic_gtN (t := 105) (a := b) (b := 3) dX3_fewestBy_74 (by decide) rfl rfl (by omega) (by omega) (fun c_74 => ?_) (fun c_74 => ?_)
      · refine ev_bipush (v := -2) dX3_fewestBy_105 (by decide) ?_
        exact ev_iret dX3_fewestBy_107 rfl (⟨by rw [← hT, show 4 - b = 0 by omega]; rfl, _, rfl, g4, fun z L hL => by rw [← hT, show 4 - b = 0 by omega] at hL; cases hL⟩)
      · refine ev_st dX3_fewestBy_77 rfl rfl ?_
        refine ev_st dX3_fewestBy_78 rfl rfl ?_
        refine ev_st dX3_fewestBy_79 rfl rfl ?_
        refine ev_call dX3_fewestBy_80 rfl rfl mr_3_113 rfl rfl rfl (k_fts (I := I4) ((congrFun (hs4.r 39 rfl) 1).trans ha) ((congrFun (hs4.r 39 rfl) 6).trans hr.2.2.2.2.2.1)) ?_
        rintro _ _ ⟨rfl, rfl⟩
        show Ev lyC (d + 7) hX3_fewestBy 83 [some (.ref 18), some (.ref 39), some (.int w), some (.int (((I 11 3 &&& k_kn (I 14) w ns) &&& (I 39 5 ^^^ (-1))))), some (.int (nI b))] [.int (nI (if row 27 = 0 then a else a + 1)), .int (((I 11 3 &&& k_kn (I 14) w ns) &&& (I 39 5 ^^^ (-1)))), .ref 18] (I4, J, R) _
        refine ev_st dX3_fewestBy_83 rfl rfl ?_
        refine ev_getI (v := row 25) dX3_fewestBy_84 fr_3_125 rfl rfl ((congrFun (hs4.r 39 rfl) 2).trans hr.2.1) ?_
        refine ev_iconst (v := 0) dX3_fewestBy_87 (by decide) ?_
        refine ev_st dX3_fewestBy_88 rfl rfl ?_
        refine ev_call dX3_fewestBy_90 rfl rfl mr_3_139 rfl rfl rfl (Cal.mono (by omega) (k_hushes (J := J) (R := R) (d := d) (a := a) (B := B) (BO := BO) b (if row 27 = 0 then a else a + 1) 0 b ((I 11 3 &&& k_kn (I 14) w ns) &&& (I 39 5 ^^^ (-1))) (row 25) I4 (by omega) (by omega) (by split <;> omega) (by split <;> omega) (hst.f hs4) (fun q h1 h2 => by rw [g4 19 (by decide)]; exact hB q h1 h2) (fun q h1 h2 => by rw [g4 20 (by decide)]; exact hBO q h1 h2))) ?_
        rintro _ _ ⟨rfl, I5, rfl, g5, hpl⟩
        show Ev lyC (d + 7) hX3_fewestBy 93 [some (.ref 18), some (.ref 39), some (.int w), some (.int (((I 11 3 &&& k_kn (I 14) w ns) &&& (I 39 5 ^^^ (-1))))), some (.int (nI b))] [.int (b2i ((fun nu => k_hl sy B BO c ns nu (if row 27 = 0 then a else a + 1) ((I 11 3 &&& k_kn (I 14) w ns) &&& (I 39 5 ^^^ (-1))) (row 25)) b).isSome)] (I5, J, R) _
        refine ev_if_eq (t := 99) (x := b2i ((fun nu => k_hl sy B BO c ns nu (if row 27 = 0 then a else a + 1) ((I 11 3 &&& k_kn (I 14) w ns) &&& (I 39 5 ^^^ (-1))) (row 25)) b).isSome) dX3_fewestBy_93 (by decide) (fun c_93 => ?_) (fun c_93 => ?_)
        · refine ev_iincN (a := b) (b := b + 1) (L' := [some (.ref 18), some (.ref 39), some (.int w), some (.int (((I 11 3 &&& k_kn (I 14) w ns) &&& (I 39 5 ^^^ (-1))))), some (.int (nI (b + 1)))]) dX3_fewestBy_99 rfl (nI_1 _) rfl ?_
          refine ev_goto (t := 71) dX3_fewestBy_102 (by decide) ?_
          have e0 := isSome0 c_93
          exact ih _ _ (by omega) (by omega) (by omega) (fun p hp => (g5.1 p hp).trans (g4 p hp)) (by rw [← hT, show 4 - b = (3 - b) + 1 by omega, f3_n e0, show 4 - (b + 1) = 3 - b by omega])
        · obtain ⟨L0, e0⟩ := isSome1 c_93
          refine ev_st dX3_fewestBy_96 rfl rfl ?_
          exact ev_iret dX3_fewestBy_98 rfl (⟨by rw [← hT, show 4 - b = (3 - b) + 1 by omega, f3_s e0]; rfl, _, rfl, fun p hp => (g5.1 p hp).trans (g4 p hp), fun z L hL => by rw [← hT, show 4 - b = (3 - b) + 1 by omega, f3_s e0] at hL; cases hL; exact hpl L0 e0⟩)
  show Ev lyC (d + 7) hX3_fewestBy 0 [some (.ref 18), some (.ref 39), some (.int w), none, none] [] (I2, J, R) _
  refine ev_st dX3_fewestBy_0 rfl rfl ?_
  refine ev_getI (v := row 25) dX3_fewestBy_1 fr_3_125 rfl rfl ((congrFun (hs2.r 39 rfl) 2).trans hr.2.1) ?_
  refine ev_st dX3_fewestBy_4 rfl rfl ?_
  refine ev_getC dX3_fewestBy_5 fr_3_22 rfl rfl ?_
  refine ev_st dX3_fewestBy_8 rfl rfl ?_
  refine ev_getI (v := nI a) dX3_fewestBy_9 fr_3_48 rfl rfl ((congrFun (hs2.r 39 rfl) 1).trans ha) ?_
  refine ev_iald (j := a) (v := BO a) dX3_fewestBy_12 rfl rfl (by omega) (by decide) (hBO a (Nat.le_refl _) hac) ?_
  refine ev_ic_gt (t := 18) (x := row 25) (y := BO a) dX3_fewestBy_13 (by decide) (fun c_13 => ?_) (fun c_13 => ?_)
  · refine ev_st dX3_fewestBy_18 rfl rfl ?_
    refine ev_getI (v := row 27) dX3_fewestBy_19 fr_3_121 rfl rfl ((congrFun (hs2.r 39 rfl) 6).trans hr.2.2.2.2.2.1) ?_
    refine ev_if_eq (t := 44) (x := row 27) dX3_fewestBy_22 (by decide) (fun c_22 => ?_) (fun c_22 => ?_)
    · refine ev_st dX3_fewestBy_44 rfl rfl ?_
      refine ev_getC dX3_fewestBy_45 fr_3_36 rfl rfl ?_
      refine ev_getI (v := I 11 3) dX3_fewestBy_48 fr_3_128 rfl rfl (congrFun (hs2.r 11 rfl) 3) ?_
      refine ev_st dX3_fewestBy_51 rfl rfl ?_
      refine ev_getC dX3_fewestBy_52 fr_3_36 rfl rfl ?_
      refine ev_st dX3_fewestBy_55 rfl rfl ?_
      refine ev_call dX3_fewestBy_56 rfl rfl mr_3_133 rfl rfl rfl (k_knF hst hs2 w) ?_
      rintro _ _ ⟨rfl, rfl⟩
      show Ev lyC (d + 7) hX3_fewestBy 59 [some (.ref 18), some (.ref 39), some (.int w), none, none] [.int (k_kn (I 14) w ns), .int (I 11 3)] (I2, J, R) _
      refine ev_st dX3_fewestBy_59 rfl rfl ?_
      refine ev_st dX3_fewestBy_60 rfl rfl ?_
      refine ev_getI (v := I 39 5) dX3_fewestBy_61 fr_3_136 rfl rfl (congrFun (hs2.r 39 rfl) 5) ?_
      refine ev_iconst (v := -1) dX3_fewestBy_64 (by decide) ?_
      refine ev_st dX3_fewestBy_65 rfl rfl ?_
      refine ev_st dX3_fewestBy_66 rfl rfl ?_
      refine ev_st (L' := [some (.ref 18), some (.ref 39), some (.int w), some (.int (((I 11 3) &&& (k_kn (I 14) w ns)) &&& ((I 39 5) ^^^ ((-1))))), none]) dX3_fewestBy_67 rfl rfl ?_
      refine ev_iconst (v := 1) dX3_fewestBy_68 (by decide) ?_
      refine ev_st (L' := [some (.ref 18), some (.ref 39), some (.int w), some (.int (((I 11 3) &&& (k_kn (I 14) w ns)) &&& ((I 39 5) ^^^ ((-1))))), some (.int 1)]) dX3_fewestBy_69 rfl rfl ?_
      exact loop c_13 4 1 I2 (by omega) (by omega) (by omega) (fun _ _ => rfl) (by rw [k_FB, if_pos c_13, if_neg (show ¬ (¬ row 27 = 0 ∧ B a < row 25) from fun q => q.1 c_22)])
    · refine ev_st dX3_fewestBy_25 rfl rfl ?_
      refine ev_getI (v := row 25) dX3_fewestBy_26 fr_3_125 rfl rfl ((congrFun (hs2.r 39 rfl) 2).trans hr.2.1) ?_
      refine ev_st dX3_fewestBy_29 rfl rfl ?_
      refine ev_getC dX3_fewestBy_30 fr_3_18 rfl rfl ?_
      refine ev_st dX3_fewestBy_33 rfl rfl ?_
      refine ev_getI (v := nI a) dX3_fewestBy_34 fr_3_48 rfl rfl ((congrFun (hs2.r 39 rfl) 1).trans ha) ?_
      refine ev_iald (j := a) (v := B a) dX3_fewestBy_37 rfl rfl (by omega) (by decide) (hB a (Nat.le_refl _) (hlt c_13)) ?_
      refine ev_ic_le (t := 44) (x := row 25) (y := B a) dX3_fewestBy_38 (by decide) (fun c_38 => ?_) (fun c_38 => ?_)
      · refine ev_st dX3_fewestBy_44 rfl rfl ?_
        refine ev_getC dX3_fewestBy_45 fr_3_36 rfl rfl ?_
        refine ev_getI (v := I 11 3) dX3_fewestBy_48 fr_3_128 rfl rfl (congrFun (hs2.r 11 rfl) 3) ?_
        refine ev_st dX3_fewestBy_51 rfl rfl ?_
        refine ev_getC dX3_fewestBy_52 fr_3_36 rfl rfl ?_
        refine ev_st dX3_fewestBy_55 rfl rfl ?_
        refine ev_call dX3_fewestBy_56 rfl rfl mr_3_133 rfl rfl rfl (k_knF hst hs2 w) ?_
        rintro _ _ ⟨rfl, rfl⟩
        show Ev lyC (d + 7) hX3_fewestBy 59 [some (.ref 18), some (.ref 39), some (.int w), none, none] [.int (k_kn (I 14) w ns), .int (I 11 3)] (I2, J, R) _
        refine ev_st dX3_fewestBy_59 rfl rfl ?_
        refine ev_st dX3_fewestBy_60 rfl rfl ?_
        refine ev_getI (v := I 39 5) dX3_fewestBy_61 fr_3_136 rfl rfl (congrFun (hs2.r 39 rfl) 5) ?_
        refine ev_iconst (v := -1) dX3_fewestBy_64 (by decide) ?_
        refine ev_st dX3_fewestBy_65 rfl rfl ?_
        refine ev_st dX3_fewestBy_66 rfl rfl ?_
        refine ev_st (L' := [some (.ref 18), some (.ref 39), some (.int w), some (.int (((I 11 3) &&& (k_kn (I 14) w ns)) &&& ((I 39 5) ^^^ ((-1))))), none]) dX3_fewestBy_67 rfl rfl ?_
        refine ev_iconst (v := 1) dX3_fewestBy_68 (by decide) ?_
        refine ev_st (L' := [some (.ref 18), some (.ref 39), some (.int w), some (.int (((I 11 3) &&& (k_kn (I 14) w ns)) &&& ((I 39 5) ^^^ ((-1))))), some (.int 1)]) dX3_fewestBy_69 rfl rfl ?_
        exact loop c_13 4 1 I2 (by omega) (by omega) (by omega) (fun _ _ => rfl) (by rw [k_FB, if_pos c_13, if_neg (show ¬ (¬ row 27 = 0 ∧ B a < row 25) from fun q => c_38 q.2)])
      · refine ev_bipush (v := -2) dX3_fewestBy_41 (by decide) ?_
        exact ev_iret dX3_fewestBy_43 rfl (⟨by rw [k_FB, if_pos c_13, if_pos ⟨c_22, c_38⟩]; rfl, _, rfl, fun _ _ => rfl, fun z L hL => by rw [k_FB, if_pos c_13, if_pos ⟨c_22, c_38⟩] at hL; cases hL⟩)
  · refine ev_iconst (v := 0) dX3_fewestBy_16 (by decide) ?_
    exact ev_iret dX3_fewestBy_17 rfl (⟨by rw [k_FB, if_neg c_13]; rfl, _, rfl, fun _ _ => rfl, fun z L hL => by rw [k_FB, if_neg c_13] at hL; cases hL; exact fun i x q => by cases q⟩)
theorem wl_ne {J : Nat → Nat → Int64} {p k j : Nat} {v : Int64} (h : ¬ j = k) : ti_wl J p k v p j = J p j := by simp [ti_wl, va_up, vp_updL, h]
theorem wr_ne3 {I : Nat → Nat → Int32} {x y : Int32} : ti_wr (ti_wr I 3 1 x) 3 1 y 21 = I 21 := by rw [ti_wr_n (by decide), ti_wr_n (by decide)]
set_option maxHeartbeats 1000000 in
theorem k_fsay2 {I : Nat → Nat → Int32} {J : Nat → Nat → Int64} {R : Nat → Nat → Value} {d n c ns a p z rs : Nat} {rv : RV} {row sp str tl sy : Nat → Int32} (hK : kA I d n c p z rv) (hst : ST I sp str tl sy n c ns) (hz : z = 0 ↔ rs = 0) (hr : SR (I 39) (I 40) row n ns) (hw : WS row n ns c a) {I3 : Nat → Nat → Int32} {z : Nat} {L : List (Nat × Nat)} (hFB : (k_FB sy (m_RM sp str tl n c rs rv row a) (fun j => k_bn (m_RM sp str tl n c rs rv row a) c (c - j)) c ns a (row 27) (row 25) ((I 11 3 &&& k_kn (I 14) (row 26) ns) &&& (I 39 5 ^^^ (-1)))) = some (z, L)) (hpl : ∀ z L, (k_FB sy (m_RM sp str tl n c rs rv row a) (fun j => k_bn (m_RM sp str tl n c rs rv row a) c (c - j)) c ns a (row 27) (row 25) ((I 11 3 &&& k_kn (I 14) (row 26) ns) &&& (I 39 5 ^^^ (-1)))) = some (z, L) → plL (I3 21) 0 L) : ∀ (k b : Nat) (I4 : Nat → Nat → Int32) (J4 : Nat → Nat → Int64), b ≤ z → z - b < k → fC I I4 → I4 21 = I3 21 → I4 3 1 = nI (2 * b) → (∀ i x, i < b → L[i]? = some x → J4 4 (2 * i) = (nI x.1).toInt64 ∧ J4 4 (2 * i + 1) = (nI x.2).toInt64) → Ev lyC (d + 8) hX3_fewestSayings 30 [some (.ref 18), some (.ref 39), some (.ref p), some (.int (nI z)), some (.int (nI b))] [] (I4, J4, R) (fun r M' => r = some (.int (m_hn (k_FB sy (m_RM sp str tl n c rs rv row a) (fun j => k_bn (m_RM sp str tl n c rs rv row a) c (c - j)) c ns a (row 27) (row 25) ((I 11 3 &&& k_kn (I 14) (row 26) ns) &&& (I 39 5 ^^^ (-1)))))) ∧ ∃ I3 J3, M' = (I3, J3, R) ∧ fC I I3 ∧ ((k_FB sy (m_RM sp str tl n c rs rv row a) (fun j => k_bn (m_RM sp str tl n c rs rv row a) c (c - j)) c ns a (row 27) (row 25) ((I 11 3 &&& k_kn (I 14) (row 26) ns) &&& (I 39 5 ^^^ (-1)))) = none → uC I J I3 J3) ∧ ∀ z L, (k_FB sy (m_RM sp str tl n c rs rv row a) (fun j => k_bn (m_RM sp str tl n c rs rv row a) c (c - j)) c ns a (row 27) (row 25) ((I 11 3 &&& k_kn (I 14) (row 26) ns) &&& (I 39 5 ^^^ (-1)))) = some (z, L) → I3 3 1 = nI (2 * z) ∧ ∀ i x, L[i]? = some x → J3 4 (2 * i) = (nI x.1).toInt64 ∧ J3 4 (2 * i + 1) = (nI x.2).toInt64) := by
  have hn := hK.1
  have hn8 := hK.2.1
  have hc := hK.2.2.1
  have hc12 := hK.2.2.2.1
  have hns8 := hst.2.2.2.2.2.2.1
  have ha : I 39 1 = nI a := hr.1.trans hw.1
  have hac := hw.2.1
  have ha12 : a ≤ 12 := by omega
  have hfb := FB_some hFB
  intro k
  induction k with
  | zero => intro b I4 J4 h1 h2; omega
  | succ k ih =>
      intro b I4 J4 hb hk hs4 h21 h31 hJ
      have hz3 := hfb.1
      have hzl := hfb.2.1
      refine ev_st dX3_fewestSayings_30 rfl rfl ?_
      refine ev_st dX3_fewestSayings_32 rfl rfl ?_
      refine ev_ic_geN (t := 72) (a := b) (b := z) dX3_fewestSayings_33 (by decide) rfl rfl (by omega) (by omega) (fun c_33 => ?_) (fun c_33 => ?_)
      · refine ev_st dX3_fewestSayings_72 rfl rfl ?_
        exact ev_iret dX3_fewestSayings_73 rfl (⟨by rw [hFB]; rfl, _, _, rfl, hs4, (fun q => by rw [hFB] at q; cases q), fun z2 L2 q => by rw [hFB] at q; cases q; exact ⟨by rw [h31, show b = z by omega], fun i y hy => hJ i y (by have := List.getElem?_eq_some_iff.mp hy; obtain ⟨q1, _⟩ := this; omega) hy⟩⟩)
      · obtain ⟨x, hx⟩ : ∃ x, L[b]? = some x := ⟨L[b]'(by omega), List.getElem?_eq_getElem (by omega)⟩
        refine ev_st dX3_fewestSayings_36 rfl rfl ?_
        refine ev_getC dX3_fewestSayings_37 fr_3_40 rfl rfl ?_
        refine ev_st dX3_fewestSayings_40 rfl rfl ?_
        refine ev_call dX3_fewestSayings_41 rfl rfl mr_3_113 rfl rfl rfl (k_fts (I := I4) ((congrFun (hs4.r 39 rfl) 1).trans ha) ((congrFun (hs4.r 39 rfl) 6).trans hr.2.2.2.2.2.1)) ?_
        rintro _ _ ⟨rfl, rfl⟩
        show Ev lyC (d + 8) hX3_fewestSayings 44 [some (.ref 18), some (.ref 39), some (.ref p), some (.int (nI z)), some (.int (nI b))] [.int (nI ((if row 27 = 0 then a else a + 1))), .ref 3] (I4, J4, R) _
        refine ev_st dX3_fewestSayings_44 rfl rfl ?_
        refine ev_iaddN (a := (if row 27 = 0 then a else a + 1)) (b := b) (c := (if row 27 = 0 then a else a + 1) + b) dX3_fewestSayings_46 rfl rfl rfl ?_
        refine ev_st dX3_fewestSayings_47 rfl rfl ?_
        refine ev_call dX3_fewestSayings_48 rfl rfl mr_3_117 rfl rfl rfl (k_add (I := I4) (J := J4) (m := 2 * b) h31 (by omega) ((nI ((if row 27 = 0 then a else a + 1) + b)).toInt64)) ?_
        rintro _ _ ⟨rfl, rfl⟩
        show Ev lyC (d + 8) hX3_fewestSayings 51 [some (.ref 18), some (.ref 39), some (.ref p), some (.int (nI z)), some (.int (nI b))] [] (ti_wr I4 3 1 (nI (2 * b + 1)), ti_wl J4 4 (2 * b) ((nI ((if row 27 = 0 then a else a + 1) + b)).toInt64), R) _
        refine ev_st dX3_fewestSayings_51 rfl rfl ?_
        refine ev_getC dX3_fewestSayings_52 fr_3_40 rfl rfl ?_
        refine ev_st dX3_fewestSayings_55 rfl rfl ?_
        refine ev_getC dX3_fewestSayings_56 fr_3_25 rfl rfl ?_
        refine ev_st dX3_fewestSayings_59 rfl rfl ?_
        refine ev_iald (j := b) (v := nI x.2) dX3_fewestSayings_61 rfl rfl (by omega) (by decide) (by rw [ti_wr_n (by decide), h21]; have := hpl _ _ hFB b x hx; rw [Nat.zero_add] at this; exact this) ?_
        refine ev_st dX3_fewestSayings_62 rfl rfl ?_
        refine ev_call dX3_fewestSayings_63 rfl rfl mr_3_117 rfl rfl rfl (k_add (I := ti_wr I4 3 1 (nI (2 * b + 1))) (m := 2 * b + 1) ti_wr_at (by omega) ((nI x.2).toInt64)) ?_
        rintro _ _ ⟨rfl, rfl⟩
        show Ev lyC (d + 8) hX3_fewestSayings 66 [some (.ref 18), some (.ref 39), some (.ref p), some (.int (nI z)), some (.int (nI b))] [] (ti_wr (ti_wr I4 3 1 (nI (2 * b + 1))) 3 1 (nI (2 * b + 1 + 1)), ti_wl (ti_wl J4 4 (2 * b) ((nI ((if row 27 = 0 then a else a + 1) + b)).toInt64)) 4 (2 * b + 1) ((nI x.2).toInt64), R) _
        refine ev_iincN (a := b) (b := b + 1) (L' := [some (.ref 18), some (.ref 39), some (.ref p), some (.int (nI z)), some (.int (nI (b + 1)))]) dX3_fewestSayings_66 rfl (nI_1 _) rfl ?_
        refine ev_goto (t := 30) dX3_fewestSayings_69 (by decide) ?_
        have e1 : x.1 = (if row 27 = 0 then a else a + 1) + b := (hfb.2.2 b x hx).1
        refine ih _ _ _ (by omega) (by omega) ((hs4.w (p := 3) (k := 1) rfl _).w (p := 3) (k := 1) rfl _) (by rw [wr_ne3]; exact h21) (by rw [ti_wr_at]; congr 1) (fun i y hi hy => ?_)
        by_cases e : i = b
        · subst e
          rw [hx] at hy
          cases hy
          exact ⟨by rw [wl_ne (by omega), ti_wl_at, e1], ti_wl_at⟩
        · have := hJ i y (by omega) hy
          exact ⟨by rw [wl_ne (by omega), wl_ne (by omega)]; exact this.1, by rw [wl_ne (by omega), wl_ne (by omega)]; exact this.2⟩
set_option maxHeartbeats 1000000 in
theorem k_fewestSayings0 {I : Nat → Nat → Int32} {J : Nat → Nat → Int64} {R : Nat → Nat → Value} {d n c ns a p z rs : Nat} {rv : RV} {row sp str tl sy : Nat → Int32} (hK : kA I d n c p z rv) (hst : ST I sp str tl sy n c ns) (hz : z = 0 ↔ rs = 0) (hr : SR (I 39) (I 40) row n ns) (hw : WS row n ns c a) (hFB : (k_FB sy (m_RM sp str tl n c rs rv row a) (fun j => k_bn (m_RM sp str tl n c rs rv row a) c (c - j)) c ns a (row 27) (row 25) ((I 11 3 &&& k_kn (I 14) (row 26) ns) &&& (I 39 5 ^^^ (-1)))) = none) : Cal lyC (d + 8) hX3_fewestSayings 5 [.ref 18, .ref 39, .ref p] (I, J, R) (fun r M' => r = some (.int (m_hn (k_FB sy (m_RM sp str tl n c rs rv row a) (fun j => k_bn (m_RM sp str tl n c rs rv row a) c (c - j)) c ns a (row 27) (row 25) ((I 11 3 &&& k_kn (I 14) (row 26) ns) &&& (I 39 5 ^^^ (-1)))))) ∧ ∃ I3 J3, M' = (I3, J3, R) ∧ fC I I3 ∧ ((k_FB sy (m_RM sp str tl n c rs rv row a) (fun j => k_bn (m_RM sp str tl n c rs rv row a) c (c - j)) c ns a (row 27) (row 25) ((I 11 3 &&& k_kn (I 14) (row 26) ns) &&& (I 39 5 ^^^ (-1)))) = none → uC I J I3 J3) ∧ ∀ z L, (k_FB sy (m_RM sp str tl n c rs rv row a) (fun j => k_bn (m_RM sp str tl n c rs rv row a) c (c - j)) c ns a (row 27) (row 25) ((I 11 3 &&& k_kn (I 14) (row 26) ns) &&& (I 39 5 ^^^ (-1)))) = some (z, L) → I3 3 1 = nI (2 * z) ∧ ∀ i x, L[i]? = some x → J3 4 (2 * i) = (nI x.1).toInt64 ∧ J3 4 (2 * i + 1) = (nI x.2).toInt64) := by
  have hn := hK.1
  have hn8 := hK.2.1
  have hc := hK.2.2.1
  have hc12 := hK.2.2.2.1
  have hns8 := hst.2.2.2.2.2.2.1
  have ha : I 39 1 = nI a := hr.1.trans hw.1
  have hac := hw.2.1
  have ha12 : a ≤ 12 := by omega
  have hneg : m_hn (k_FB sy (m_RM sp str tl n c rs rv row a) (fun j => k_bn (m_RM sp str tl n c rs rv row a) c (c - j)) c ns a (row 27) (row 25) ((I 11 3 &&& k_kn (I 14) (row 26) ns) &&& (I 39 5 ^^^ (-1)))) = -2 := by rw [hFB]; rfl
  show Ev lyC (d + 8) hX3_fewestSayings 0 [some (.ref 18), some (.ref 39), some (.ref p), none, none] [] (I, J, R) _
  refine ev_st dX3_fewestSayings_0 rfl rfl ?_
  refine ev_st dX3_fewestSayings_1 rfl rfl ?_
  refine ev_st dX3_fewestSayings_2 rfl rfl ?_
  refine ev_call dX3_fewestSayings_3 rfl rfl mr_3_78 rfl rfl rfl (Cal.mono (by omega) (k_findBorne hK hst hz hr hw)) ?_
  rintro _ _ ⟨rfl, I2, rfl, hs2, h3, h19, h20⟩
  show Ev lyC (d + 8) hX3_fewestSayings 6 [some (.ref 18), some (.ref 39), some (.ref p), none, none] [] (I2, J, R) _
  refine ev_st dX3_fewestSayings_6 rfl rfl ?_
  refine ev_st dX3_fewestSayings_7 rfl rfl ?_
  refine ev_st dX3_fewestSayings_8 rfl rfl ?_
  refine ev_getI (v := row 26) dX3_fewestSayings_9 fr_3_103 rfl rfl ((congrFun (hs2.r 39 rfl) 4).trans hr.2.2.2.1) ?_
  refine ev_call dX3_fewestSayings_12 rfl rfl mr_3_106 rfl rfl rfl (Cal.mono (by omega) (k_fewestBy (I2 := I2) (J := J) (d := d) (B := m_RM sp str tl n c rs rv row a) (BO := (fun j => k_bn (m_RM sp str tl n c rs rv row a) c (c - j))) hst hr hw h19 h20 (by rw [Nat.sub_self]; rfl) hs2 (row 26))) ?_
  rintro _ _ ⟨e1, I3, rfl, g3, hpl3⟩
  rw [hneg] at e1
  subst e1
  have hs3 := (hF0 g3).f hs2
  show Ev lyC (d + 8) hX3_fewestSayings 15 [some (.ref 18), some (.ref 39), some (.ref p), none, none] [.int ((-2))] (I3, J, R) _
  refine ev_st (L' := [some (.ref 18), some (.ref 39), some (.ref p), some (.int ((-2))), none]) dX3_fewestSayings_15 rfl rfl ?_
  refine ev_st dX3_fewestSayings_16 rfl rfl ?_
  refine ev_if_lt (t := 72) dX3_fewestSayings_17 (by decide) (fun _ => ?_) (fun q => absurd q (by decide))
  refine ev_st dX3_fewestSayings_72 rfl rfl ?_
  exact ev_iret dX3_fewestSayings_73 rfl (⟨by rw [hneg], _, _, rfl, hs3, fun _ => ⟨(g3 3 (by decide)).trans h3, rfl⟩, fun z L q => by rw [hFB] at q; cases q⟩)
set_option maxHeartbeats 1000000 in
theorem k_fewestSayings1 {I : Nat → Nat → Int32} {J : Nat → Nat → Int64} {R : Nat → Nat → Value} {d n c ns a p z rs : Nat} {rv : RV} {row sp str tl sy : Nat → Int32} (hK : kA I d n c p z rv) (hst : ST I sp str tl sy n c ns) (hz : z = 0 ↔ rs = 0) (hr : SR (I 39) (I 40) row n ns) (hw : WS row n ns c a) {z : Nat} {L : List (Nat × Nat)} (hFB : (k_FB sy (m_RM sp str tl n c rs rv row a) (fun j => k_bn (m_RM sp str tl n c rs rv row a) c (c - j)) c ns a (row 27) (row 25) ((I 11 3 &&& k_kn (I 14) (row 26) ns) &&& (I 39 5 ^^^ (-1)))) = some (z, L)) : Cal lyC (d + 8) hX3_fewestSayings 5 [.ref 18, .ref 39, .ref p] (I, J, R) (fun r M' => r = some (.int (m_hn (k_FB sy (m_RM sp str tl n c rs rv row a) (fun j => k_bn (m_RM sp str tl n c rs rv row a) c (c - j)) c ns a (row 27) (row 25) ((I 11 3 &&& k_kn (I 14) (row 26) ns) &&& (I 39 5 ^^^ (-1)))))) ∧ ∃ I3 J3, M' = (I3, J3, R) ∧ fC I I3 ∧ ((k_FB sy (m_RM sp str tl n c rs rv row a) (fun j => k_bn (m_RM sp str tl n c rs rv row a) c (c - j)) c ns a (row 27) (row 25) ((I 11 3 &&& k_kn (I 14) (row 26) ns) &&& (I 39 5 ^^^ (-1)))) = none → uC I J I3 J3) ∧ ∀ z L, (k_FB sy (m_RM sp str tl n c rs rv row a) (fun j => k_bn (m_RM sp str tl n c rs rv row a) c (c - j)) c ns a (row 27) (row 25) ((I 11 3 &&& k_kn (I 14) (row 26) ns) &&& (I 39 5 ^^^ (-1)))) = some (z, L) → I3 3 1 = nI (2 * z) ∧ ∀ i x, L[i]? = some x → J3 4 (2 * i) = (nI x.1).toInt64 ∧ J3 4 (2 * i + 1) = (nI x.2).toInt64) := by
  have hn := hK.1
  have hn8 := hK.2.1
  have hc := hK.2.2.1
  have hc12 := hK.2.2.2.1
  have hns8 := hst.2.2.2.2.2.2.1
  have ha : I 39 1 = nI a := hr.1.trans hw.1
  have hac := hw.2.1
  have ha12 : a ≤ 12 := by omega
  have hz3 := (FB_some hFB).1
  have hnn : m_hn (k_FB sy (m_RM sp str tl n c rs rv row a) (fun j => k_bn (m_RM sp str tl n c rs rv row a) c (c - j)) c ns a (row 27) (row 25) ((I 11 3 &&& k_kn (I 14) (row 26) ns) &&& (I 39 5 ^^^ (-1)))) = nI z := by rw [hFB]; rfl
  show Ev lyC (d + 8) hX3_fewestSayings 0 [some (.ref 18), some (.ref 39), some (.ref p), none, none] [] (I, J, R) _
  refine ev_st dX3_fewestSayings_0 rfl rfl ?_
  refine ev_st dX3_fewestSayings_1 rfl rfl ?_
  refine ev_st dX3_fewestSayings_2 rfl rfl ?_
  refine ev_call dX3_fewestSayings_3 rfl rfl mr_3_78 rfl rfl rfl (Cal.mono (by omega) (k_findBorne hK hst hz hr hw)) ?_
  rintro _ _ ⟨rfl, I2, rfl, hs2, h3, h19, h20⟩
  show Ev lyC (d + 8) hX3_fewestSayings 6 [some (.ref 18), some (.ref 39), some (.ref p), none, none] [] (I2, J, R) _
  refine ev_st dX3_fewestSayings_6 rfl rfl ?_
  refine ev_st dX3_fewestSayings_7 rfl rfl ?_
  refine ev_st dX3_fewestSayings_8 rfl rfl ?_
  refine ev_getI (v := row 26) dX3_fewestSayings_9 fr_3_103 rfl rfl ((congrFun (hs2.r 39 rfl) 4).trans hr.2.2.2.1) ?_
  refine ev_call dX3_fewestSayings_12 rfl rfl mr_3_106 rfl rfl rfl (Cal.mono (by omega) (k_fewestBy (I2 := I2) (J := J) (d := d) (B := m_RM sp str tl n c rs rv row a) (BO := (fun j => k_bn (m_RM sp str tl n c rs rv row a) c (c - j))) hst hr hw h19 h20 (by rw [Nat.sub_self]; rfl) hs2 (row 26))) ?_
  rintro _ _ ⟨e1, I3, rfl, g3, hpl3⟩
  rw [hnn] at e1
  subst e1
  have hs3 := (hF0 g3).f hs2
  show Ev lyC (d + 8) hX3_fewestSayings 15 [some (.ref 18), some (.ref 39), some (.ref p), none, none] [.int (nI z)] (I3, J, R) _
  refine ev_st (L' := [some (.ref 18), some (.ref 39), some (.ref p), some (.int (nI z)), none]) dX3_fewestSayings_15 rfl rfl ?_
  refine ev_st dX3_fewestSayings_16 rfl rfl ?_
  refine ev_if_ltN (t := 72) (a := z) dX3_fewestSayings_17 (by decide) rfl (by omega) ?_
  refine ev_st dX3_fewestSayings_20 rfl rfl ?_
  refine ev_getC dX3_fewestSayings_21 fr_3_40 rfl rfl ?_
  refine ev_call dX3_fewestSayings_24 rfl rfl mr_3_110 rfl rfl rfl (k_clear) ?_
  rintro _ _ ⟨rfl, rfl⟩
  show Ev lyC (d + 8) hX3_fewestSayings 27 [some (.ref 18), some (.ref 39), some (.ref p), some (.int (nI z)), none] [] (ti_wr I3 3 1 0, J, R) _
  refine ev_iconst (v := 0) dX3_fewestSayings_27 (by decide) ?_
  refine ev_st (L' := [some (.ref 18), some (.ref 39), some (.ref p), some (.int (nI z)), some (.int 0)]) dX3_fewestSayings_28 rfl rfl ?_
  exact k_fsay2 (p := p) hK hst hz hr hw hFB hpl3 (z + 1) 0 _ _ (by omega) (by omega) (hs3.w (p := 3) (k := 1) rfl _) (by rw [ti_wr_n (by decide)]) ti_wr_at (fun i x hi => by omega)
