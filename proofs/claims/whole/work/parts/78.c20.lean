/-! the class: widow, hush, which -/
theorem k_widow0 {I : Nat → Nat → Int32} {J : Nat → Nat → Int64} {R : Nat → Nat → Value} {d ns : Nat} (hns : I 11 4 = nI ns) (hns8 : ns ≤ 8) {x y : Int32} (hx : ¬ ((ix (2 ^ ns) x).isSome = true ∧ m_in y 0 12 = 1)) : Cal lyC (d + 4) hX11_widow 5 [.ref 0, .int x, .int y] (I, J, R) (fun r M' => r = some (.int (-1)) ∧ M' = (I, J, R)) := by
  show Ev lyC (d + 4) hX11_widow 0 [some (.ref 0), some (.int x), some (.int y), none, none] [] (I, J, R) _
  refine ev_st dX11_widow_0 rfl rfl ?_
  refine ev_getC dX11_widow_1 fr_11_42 rfl rfl ?_
  refine ev_st dX11_widow_4 rfl rfl ?_
  refine ev_call dX11_widow_5 rfl rfl mr_11_319 rfl rfl rfl (k_holds (I := I) (J := J) (R := R) hns hns8 x) ?_
  rintro _ _ ⟨rfl, rfl⟩
  show Ev lyC (d + 4) hX11_widow 8 [some (.ref 0), some (.int x), some (.int y), none, none] [.int (if (ix (2 ^ ns) x).isSome then 1 else 0)] (I, J, R) _
  refine ev_if_eq (t := 21) (x := if (ix (2 ^ ns) x).isSome then 1 else 0) dX11_widow_8 (by decide) (fun c_8 => ?_) (fun c_8 => ?_)
  · refine ev_iconst (v := -1) dX11_widow_21 (by decide) ?_
    exact ev_iret dX11_widow_22 rfl (⟨rfl, rfl⟩)
  · refine ev_st dX11_widow_11 rfl rfl ?_
    refine ev_if_lt (t := 21) (x := y) dX11_widow_12 (by decide) (fun c_12 => ?_) (fun c_12 => ?_)
    · refine ev_iconst (v := -1) dX11_widow_21 (by decide) ?_
      exact ev_iret dX11_widow_22 rfl (⟨rfl, rfl⟩)
    · refine ev_st dX11_widow_15 rfl rfl ?_
      refine ev_bipush (v := 12) dX11_widow_16 (by decide) ?_
      refine ev_ic_le (t := 23) (x := y) (y := 12) dX11_widow_18 (by decide) (fun c_18 => ?_) (fun c_18 => ?_)
      · exact absurd ⟨if01 c_8, by simp [m_in, c_12, c_18]⟩ hx
      · refine ev_iconst (v := -1) dX11_widow_21 (by decide) ?_
        exact ev_iret dX11_widow_22 rfl (⟨rfl, rfl⟩)
theorem k_widow3 {I : Nat → Nat → Int32} {J : Nat → Nat → Int64} {R : Nat → Nat → Value} {d ns c a v e : Nat} (hns : I 11 4 = nI ns) (hns8 : ns ≤ 8) (hc : I 5 2 = nI c) (hc12 : c ≤ 12) (ha : I 39 1 = nI a) (hac : a ≤ c) (hv : v < 2 ^ ns) (he : e ≤ 12) (h3 : 6 < cN v ∨ ¬ nI v &&& I 39 5 = 0) : Cal lyC (d + 4) hX11_widow 5 [.ref 0, .int (nI v), .int (nI e)] (I, J, R) (fun r M' => r = some (.int (-3)) ∧ M' = (I, J, R)) := by
  have hx := areOk hns8 hv
  have hv8 := wv256 hns8 hv
  have h8 := cN_8 v hv8
  show Ev lyC (d + 4) hX11_widow 0 [some (.ref 0), some (.int (nI v)), some (.int (nI e)), none, none] [] (I, J, R) _
  refine ev_st dX11_widow_0 rfl rfl ?_
  refine ev_getC dX11_widow_1 fr_11_42 rfl rfl ?_
  refine ev_st dX11_widow_4 rfl rfl ?_
  refine ev_call dX11_widow_5 rfl rfl mr_11_319 rfl rfl rfl ((by have K := k_holds (I := I) (J := J) (R := R) (d := d + 3) hns hns8 (nI v); simp only [hx, Option.isSome] at K; exact K)) ?_
  rintro _ _ ⟨rfl, rfl⟩
  show Ev lyC (d + 4) hX11_widow 8 [some (.ref 0), some (.int (nI v)), some (.int (nI e)), none, none] [.int 1] (I, J, R) _
  refine ev_if_eq (t := 21) dX11_widow_8 (by decide) (fun q => absurd q (by decide)) (fun _ => ?_)
  refine ev_st dX11_widow_11 rfl rfl ?_
  refine ev_if_ltN (t := 21) (a := e) dX11_widow_12 (by decide) rfl (by omega) ?_
  refine ev_st dX11_widow_15 rfl rfl ?_
  refine ev_bipush (v := 12) dX11_widow_16 (by decide) ?_
  refine ev_ic_leN (t := 23) (a := e) (b := 12) dX11_widow_18 (by decide) rfl rfl (by omega) (by omega) (fun c_18 => ?_) (fun c_18 => ?_)
  · refine ev_st dX11_widow_23 rfl rfl ?_
    refine ev_call dX11_widow_24 rfl rfl mr_11_200 rfl rfl rfl (c_bcN hv8) ?_
    rintro _ _ ⟨rfl, rfl⟩
    show Ev lyC (d + 4) hX11_widow 27 [some (.ref 0), some (.int (nI v)), some (.int (nI e)), none, none] [.int (nI (cN v))] (I, J, R) _
    refine ev_st (L' := [some (.ref 0), some (.int (nI v)), some (.int (nI e)), some (.int (nI (cN v))), none]) dX11_widow_27 rfl rfl ?_
    refine ev_st dX11_widow_28 rfl rfl ?_
    refine ev_bipush (v := 6) dX11_widow_29 (by decide) ?_
    refine ev_ic_gtN (t := 46) (a := cN v) (b := 6) dX11_widow_31 (by decide) rfl rfl (by omega) (by omega) (fun c_31 => ?_) (fun c_31 => ?_)
    · refine ev_bipush (v := -3) dX11_widow_46 (by decide) ?_
      exact ev_iret dX11_widow_48 rfl (⟨rfl, rfl⟩)
    · refine ev_st dX11_widow_34 rfl rfl ?_
      refine ev_st dX11_widow_35 rfl rfl ?_
      refine ev_getC dX11_widow_36 fr_11_49 rfl rfl ?_
      refine ev_getI (v := I 39 5) dX11_widow_39 fr_11_186 rfl rfl rfl ?_
      refine ev_st dX11_widow_42 rfl rfl ?_
      refine ev_if_eq (t := 49) (x := (nI v) &&& (I 39 5)) dX11_widow_43 (by decide) (fun c_43 => ?_) (fun c_43 => ?_)
      · exact absurd (h3.resolve_left (by omega)) (fun q => q c_43)
      · refine ev_bipush (v := -3) dX11_widow_46 (by decide) ?_
        exact ev_iret dX11_widow_48 rfl (⟨rfl, rfl⟩)
  · omega
theorem k_widow2 {I : Nat → Nat → Int32} {J : Nat → Nat → Int64} {R : Nat → Nat → Value} {d ns c a v e : Nat} (hns : I 11 4 = nI ns) (hns8 : ns ≤ 8) (hc : I 5 2 = nI c) (hc12 : c ≤ 12) (ha : I 39 1 = nI a) (hac : a ≤ c) (hv : v < 2 ^ ns) (he : e ≤ 12) (h6 : cN v ≤ 6) (h0 : nI v &&& I 39 5 = 0) (h2 : c - a < cN v) : Cal lyC (d + 4) hX11_widow 5 [.ref 0, .int (nI v), .int (nI e)] (I, J, R) (fun r M' => r = some (.int (-2)) ∧ M' = (I, J, R)) := by
  have hx := areOk hns8 hv
  have hv8 := wv256 hns8 hv
  have h8 := cN_8 v hv8
  show Ev lyC (d + 4) hX11_widow 0 [some (.ref 0), some (.int (nI v)), some (.int (nI e)), none, none] [] (I, J, R) _
  refine ev_st dX11_widow_0 rfl rfl ?_
  refine ev_getC dX11_widow_1 fr_11_42 rfl rfl ?_
  refine ev_st dX11_widow_4 rfl rfl ?_
  refine ev_call dX11_widow_5 rfl rfl mr_11_319 rfl rfl rfl ((by have K := k_holds (I := I) (J := J) (R := R) (d := d + 3) hns hns8 (nI v); simp only [hx, Option.isSome] at K; exact K)) ?_
  rintro _ _ ⟨rfl, rfl⟩
  show Ev lyC (d + 4) hX11_widow 8 [some (.ref 0), some (.int (nI v)), some (.int (nI e)), none, none] [.int 1] (I, J, R) _
  refine ev_if_eq (t := 21) dX11_widow_8 (by decide) (fun q => absurd q (by decide)) (fun _ => ?_)
  refine ev_st dX11_widow_11 rfl rfl ?_
  refine ev_if_ltN (t := 21) (a := e) dX11_widow_12 (by decide) rfl (by omega) ?_
  refine ev_st dX11_widow_15 rfl rfl ?_
  refine ev_bipush (v := 12) dX11_widow_16 (by decide) ?_
  refine ev_ic_leN (t := 23) (a := e) (b := 12) dX11_widow_18 (by decide) rfl rfl (by omega) (by omega) (fun c_18 => ?_) (fun c_18 => ?_)
  · refine ev_st dX11_widow_23 rfl rfl ?_
    refine ev_call dX11_widow_24 rfl rfl mr_11_200 rfl rfl rfl (c_bcN hv8) ?_
    rintro _ _ ⟨rfl, rfl⟩
    show Ev lyC (d + 4) hX11_widow 27 [some (.ref 0), some (.int (nI v)), some (.int (nI e)), none, none] [.int (nI (cN v))] (I, J, R) _
    refine ev_st (L' := [some (.ref 0), some (.int (nI v)), some (.int (nI e)), some (.int (nI (cN v))), none]) dX11_widow_27 rfl rfl ?_
    refine ev_st dX11_widow_28 rfl rfl ?_
    refine ev_bipush (v := 6) dX11_widow_29 (by decide) ?_
    refine ev_ic_gtN (t := 46) (a := cN v) (b := 6) dX11_widow_31 (by decide) rfl rfl (by omega) (by omega) (fun c_31 => ?_) (fun c_31 => ?_)
    · omega
    · refine ev_st dX11_widow_34 rfl rfl ?_
      refine ev_st dX11_widow_35 rfl rfl ?_
      refine ev_getC dX11_widow_36 fr_11_49 rfl rfl ?_
      refine ev_getI (v := I 39 5) dX11_widow_39 fr_11_186 rfl rfl rfl ?_
      refine ev_st dX11_widow_42 rfl rfl ?_
      refine ev_if_eq (t := 49) (x := (nI v) &&& (I 39 5)) dX11_widow_43 (by decide) (fun c_43 => ?_) (fun c_43 => ?_)
      · refine ev_st dX11_widow_49 rfl rfl ?_
        refine ev_st dX11_widow_50 rfl rfl ?_
        refine ev_getC dX11_widow_51 fr_11_26 rfl rfl ?_
        refine ev_getI (v := nI c) dX11_widow_54 fr_11_124 rfl rfl hc ?_
        refine ev_st dX11_widow_57 rfl rfl ?_
        refine ev_getC dX11_widow_58 fr_11_49 rfl rfl ?_
        refine ev_getI (v := nI a) dX11_widow_61 fr_11_113 rfl rfl ha ?_
        refine ev_isubN (a := c) (b := a) (c := c - a) dX11_widow_64 rfl rfl hac rfl ?_
        refine ev_ic_leN (t := 71) (a := cN v) (b := c - a) dX11_widow_65 (by decide) rfl rfl (by omega) (by omega) (fun c_65 => ?_) (fun c_65 => ?_)
        · omega
        · refine ev_bipush (v := -2) dX11_widow_68 (by decide) ?_
          exact ev_iret dX11_widow_70 rfl (⟨rfl, rfl⟩)
      · exact absurd h0 c_43
  · omega
theorem unh : ∀ n, n ≤ 8 → ∀ e, e ≤ 12 → ∀ a, a ≤ 12 → (if (0 : Int32) < (if nI e - nI a < nI n then nI e - nI a else nI n) then (if nI e - nI a < nI n then nI e - nI a else nI n) else 0) = nI (min n (e - a)) := by decide +kernel
theorem k_widow {I : Nat → Nat → Int32} {J : Nat → Nat → Int64} {R : Nat → Nat → Value} {d : Nat} {ns c a v e : Nat} (hns : I 11 4 = nI ns) (hns8 : ns ≤ 8) (hc : I 5 2 = nI c) (hc12 : c ≤ 12) (ha : I 39 1 = nI a) (hac : a ≤ c) (hv : v < 2 ^ ns) (he : e ≤ 12) (h6 : cN v ≤ 6) (h0 : nI v &&& I 39 5 = 0) (h2 : cN v ≤ c - a) {Q : Option Value → TM → Prop} (hact : Cal lyC (d + 3) hX1_leastHarm 7 [.ref 23, .int (nI v), .int (nI (min (cN v) (e - a)))] (I, J, R) (fun r M' => (∃ v, r = some (.int v)) ∧ Q r M')) : Cal lyC (d + 4) hX11_widow 5 [.ref 0, .int (nI v), .int (nI e)] (I, J, R) Q := by
  have hx := areOk hns8 hv
  have hv8 := wv256 hns8 hv
  have h8 := cN_8 v hv8
  show Ev lyC (d + 4) hX11_widow 0 [some (.ref 0), some (.int (nI v)), some (.int (nI e)), none, none] [] (I, J, R) _
  refine ev_st dX11_widow_0 rfl rfl ?_
  refine ev_getC dX11_widow_1 fr_11_42 rfl rfl ?_
  refine ev_st dX11_widow_4 rfl rfl ?_
  refine ev_call dX11_widow_5 rfl rfl mr_11_319 rfl rfl rfl ((by have K := k_holds (I := I) (J := J) (R := R) (d := d + 3) hns hns8 (nI v); simp only [hx, Option.isSome] at K; exact K)) ?_
  rintro _ _ ⟨rfl, rfl⟩
  show Ev lyC (d + 4) hX11_widow 8 [some (.ref 0), some (.int (nI v)), some (.int (nI e)), none, none] [.int 1] (I, J, R) _
  refine ev_if_eq (t := 21) dX11_widow_8 (by decide) (fun q => absurd q (by decide)) (fun _ => ?_)
  refine ev_st dX11_widow_11 rfl rfl ?_
  refine ev_if_ltN (t := 21) (a := e) dX11_widow_12 (by decide) rfl (by omega) ?_
  refine ev_st dX11_widow_15 rfl rfl ?_
  refine ev_bipush (v := 12) dX11_widow_16 (by decide) ?_
  refine ev_ic_leN (t := 23) (a := e) (b := 12) dX11_widow_18 (by decide) rfl rfl (by omega) (by omega) (fun c_18 => ?_) (fun c_18 => ?_)
  · refine ev_st dX11_widow_23 rfl rfl ?_
    refine ev_call dX11_widow_24 rfl rfl mr_11_200 rfl rfl rfl (c_bcN hv8) ?_
    rintro _ _ ⟨rfl, rfl⟩
    show Ev lyC (d + 4) hX11_widow 27 [some (.ref 0), some (.int (nI v)), some (.int (nI e)), none, none] [.int (nI (cN v))] (I, J, R) _
    refine ev_st (L' := [some (.ref 0), some (.int (nI v)), some (.int (nI e)), some (.int (nI (cN v))), none]) dX11_widow_27 rfl rfl ?_
    refine ev_st dX11_widow_28 rfl rfl ?_
    refine ev_bipush (v := 6) dX11_widow_29 (by decide) ?_
    refine ev_ic_gtN (t := 46) (a := cN v) (b := 6) dX11_widow_31 (by decide) rfl rfl (by omega) (by omega) (fun c_31 => ?_) (fun c_31 => ?_)
    · omega
    · refine ev_st dX11_widow_34 rfl rfl ?_
      refine ev_st dX11_widow_35 rfl rfl ?_
      refine ev_getC dX11_widow_36 fr_11_49 rfl rfl ?_
      refine ev_getI (v := I 39 5) dX11_widow_39 fr_11_186 rfl rfl rfl ?_
      refine ev_st dX11_widow_42 rfl rfl ?_
      refine ev_if_eq (t := 49) (x := (nI v) &&& (I 39 5)) dX11_widow_43 (by decide) (fun c_43 => ?_) (fun c_43 => ?_)
      · refine ev_st dX11_widow_49 rfl rfl ?_
        refine ev_st dX11_widow_50 rfl rfl ?_
        refine ev_getC dX11_widow_51 fr_11_26 rfl rfl ?_
        refine ev_getI (v := nI c) dX11_widow_54 fr_11_124 rfl rfl hc ?_
        refine ev_st dX11_widow_57 rfl rfl ?_
        refine ev_getC dX11_widow_58 fr_11_49 rfl rfl ?_
        refine ev_getI (v := nI a) dX11_widow_61 fr_11_113 rfl rfl ha ?_
        refine ev_isubN (a := c) (b := a) (c := c - a) dX11_widow_64 rfl rfl hac rfl ?_
        refine ev_ic_leN (t := 71) (a := cN v) (b := c - a) dX11_widow_65 (by decide) rfl rfl (by omega) (by omega) (fun c_65 => ?_) (fun c_65 => ?_)
        · refine ev_iconst (v := 0) dX11_widow_71 (by decide) ?_
          refine ev_st dX11_widow_72 rfl rfl ?_
          refine ev_st dX11_widow_73 rfl rfl ?_
          refine ev_st dX11_widow_74 rfl rfl ?_
          refine ev_getC dX11_widow_75 fr_11_49 rfl rfl ?_
          refine ev_getI (v := nI a) dX11_widow_78 fr_11_113 rfl rfl ha ?_
          refine ev_st dX11_widow_81 rfl rfl ?_
          refine ev_min (v := if ((nI e) - (nI a)) < (nI (cN v)) then ((nI e) - (nI a)) else (nI (cN v))) dX11_widow_82 br_11_356 rfl rfl ?_
          refine ev_max (v := nI (min (cN v) (e - a))) dX11_widow_85 br_11_361 rfl (unh _ h8 _ he _ (by omega)) ?_
          refine ev_st (L' := [some (.ref 0), some (.int (nI v)), some (.int (nI e)), some (.int (nI (cN v))), some (.int (nI (min (cN v) (e - a))))]) dX11_widow_88 rfl rfl ?_
          refine ev_st dX11_widow_90 rfl rfl ?_
          refine ev_getC dX11_widow_91 fr_11_83 rfl rfl ?_
          refine ev_st dX11_widow_94 rfl rfl ?_
          refine ev_st dX11_widow_95 rfl rfl ?_
          refine ev_call dX11_widow_97 rfl rfl mr_11_364 rfl rfl rfl (hact) ?_
          rintro _ ⟨I3, J3, R3⟩ ⟨⟨vr, rfl⟩, hq⟩
          show Ev lyC (d + 4) hX11_widow 100 [some (.ref 0), some (.int (nI v)), some (.int (nI e)), some (.int (nI (cN v))), some (.int (nI (min (cN v) (e - a))))] [.int vr] (I3, J3, R3) _
          exact ev_iret dX11_widow_100 rfl (hq)
        · omega
      · exact absurd h0 c_43
  · omega
/-- the class's search: true sayings one behind the other -/
def k_ok (x : Int32) (s : Nat) : Bool := !decide (k_b x (nI s) = 0)
def k_hl (sy B BO : Nat → Int32) (c ns : Nat) : Nat → Nat → Int32 → Int32 → Option (List (Nat × Nat))
  | 0, _, _, _ => none
  | lf + 1, j, x, ld => if c ≤ j then none else m_glL (k_ok x) (fun s => if lf = 0 then (if BO j < m_lb sy ld s then none else some [(j, s)]) else if B j < m_lb sy ld s then none else (k_hl sy B BO c ns lf (j + 1) (x &&& (((1 : Int32) <<< (nI s &&& 31)) ^^^ (-1))) (m_lb sy ld s)).map ((j, s) :: ·)) ns 0
def k_hr (sy B BO : Nat → Int32) (c ns lf j : Nat) (x ld : Int32) (s : Nat) : Option (List (Nat × Nat)) := if lf = 0 then (if BO j < m_lb sy ld s then none else some [(j, s)]) else if B j < m_lb sy ld s then none else (k_hl sy B BO c ns lf (j + 1) (x &&& (((1 : Int32) <<< (nI s &&& 31)) ^^^ (-1))) (m_lb sy ld s)).map ((j, s) :: ·)
theorem k_hl_s {sy B BO : Nat → Int32} {c ns lf j : Nat} {x ld : Int32} : k_hl sy B BO c ns (lf + 1) j x ld = if c ≤ j then none else m_glL (k_ok x) (k_hr sy B BO c ns lf j x ld) ns 0 := rfl
theorem gl_no {ok : Nat → Bool} {rec : Nat → Option (List (Nat × Nat))} {k s : Nat} (h : ok s = false) : m_glL ok rec (k + 1) s = m_glL ok rec k (s + 1) := by rw [m_glL, if_neg (by rw [h]; decide)]
theorem gl_none {ok : Nat → Bool} {rec : Nat → Option (List (Nat × Nat))} {k s : Nat} (h : ok s = true) (hr : rec s = none) : m_glL ok rec (k + 1) s = m_glL ok rec k (s + 1) := by rw [m_glL, if_pos h, hr]
theorem gl_some {ok : Nat → Bool} {rec : Nat → Option (List (Nat × Nat))} {k s : Nat} {L : List (Nat × Nat)} (h : ok s = true) (hr : rec s = some L) : m_glL ok rec (k + 1) s = some L := by rw [m_glL, if_pos h, hr]
/-- what the plan holds of a list, from place t on -/
def plL (f : Nat → Int32) (t : Nat) (L : List (Nat × Nat)) : Prop := ∀ i x, L[i]? = some x → f (t + i) = nI x.2
theorem plL_cons {f : Nat → Int32} {t j s : Nat} {L : List (Nat × Nat)} (h : plL f (t + 1) L) (h1 : f t = nI s) : plL f t ((j, s) :: L) := by
  intro i x hx
  cases i with
  | zero => cases hx; exact h1
  | succ i =>
    have := h i x hx
    rw [show t + (i + 1) = t + 1 + i by omega]
    exact this
/-- what a search leaves: the plan from pl on -/
def hF (pl : Nat) (I I3 : Nat → Nat → Int32) : Prop := (∀ p, p ≠ 21 → I3 p = I p) ∧ ∀ i, i < pl → I3 21 i = I 21 i
theorem hF.rf {pl : Nat} {I : Nat → Nat → Int32} : hF pl I I := ⟨fun _ _ => rfl, fun _ _ => rfl⟩
theorem hF.r {pl : Nat} {I I3 : Nat → Nat → Int32} (h : hF pl I I3) (p : Nat) (hp : (p != 21) = true) : I3 p = I p := h.1 p (by simpa using hp)
theorem hF.wp {pl : Nat} {I I2 : Nat → Nat → Int32} {v : Int32} (h : hF pl I I2) : hF pl I (ti_wr I2 21 pl v) := ⟨fun p hp => (ti_wr_n hp).trans (h.1 p hp), fun i hi => (wr_ne (by omega)).trans (h.2 i hi)⟩
theorem hF.tr {pl : Nat} {I I2 I3 : Nat → Nat → Int32} (h : hF pl I I2) (g : hF (pl + 1) I2 I3) : hF pl I I3 := ⟨fun p hp => (g.1 p hp).trans (h.1 p hp), fun i hi => (g.2 i (by omega)).trans (h.2 i hi)⟩
theorem ST.h {I I2 : Nat → Nat → Int32} {sp str tl sy : Nat → Int32} {n c ns : Nat} (h : ST I sp str tl sy n c ns) (hs : ∀ p, p ≠ 21 → I2 p = I p) : ST I2 sp str tl sy n c ns := by
  unfold ST
  rw [hs 8 (by decide), hs 5 (by decide), hs 11 (by decide), hs 6 (by decide), hs 9 (by decide), hs 10 (by decide), hs 12 (by decide), hs 13 (by decide), hs 14 (by decide)]
  exact h
def hQ (o : Option (List (Nat × Nat))) (pl : Nat) (I2 : Nat → Nat → Int32) (J : Nat → Nat → Int64) (R : Nat → Nat → Value) (r : Option Value) (M' : TM) : Prop := r = some (.int (b2i o.isSome)) ∧ ∃ I3, M' = (I3, J, R) ∧ hF pl I2 I3 ∧ ∀ L, o = some L → plL (I3 21) pl L
theorem isSome0 {α : Type} {o : Option α} (h : b2i o.isSome = 0) : o = none := by
  cases o with
  | none => rfl
  | some v => exact absurd (show b2i true = 0 from h) (by decide)
theorem isSome1 {α : Type} {o : Option α} (h : ¬ b2i o.isSome = 0) : ∃ L, o = some L := by
  cases o with
  | none => exact absurd rfl h
  | some v => exact ⟨_, rfl⟩
set_option maxHeartbeats 2000000 in
theorem k_hushes {J : Nat → Nat → Int64} {R : Nat → Nat → Value} {d n c ns a : Nat} {sp str tl sy B BO : Nat → Int32} : ∀ (lf j pl nu : Nat) (x ld : Int32) (I : Nat → Nat → Int32), nu = pl + lf → pl + lf ≤ 3 → a ≤ j → j ≤ 13 → ST I sp str tl sy n c ns → (∀ q, a ≤ q → q < c → I 19 q = B q) → (∀ q, a ≤ q → q ≤ c → I 20 q = BO q) → Cal lyC (d + lf + 2) hX3_hushes 9 [.ref 18, .int x, .int (nI j), .int ld, .int (nI pl), .int (nI nu)] (I, J, R) (hQ (k_hl sy B BO c ns lf j x ld) pl I J R) := by
  intro lf
  induction lf with
  | zero =>
    intro j pl nu x ld I hnu hpl3 hja hj13 hst hB hBO
    show Ev lyC (d + 0 + 2) hX3_hushes 0 [some (.ref 18), some (.int x), some (.int (nI j)), some (.int ld), some (.int (nI pl)), some (.int (nI nu)), none, none, none] [] (I, J, R) _
    refine ev_st dX3_hushes_0 rfl rfl ?_
    refine ev_st dX3_hushes_2 rfl rfl ?_
    refine ev_ic_geN (t := 24) (a := pl) (b := nu) dX3_hushes_4 (by decide) rfl rfl (by omega) (by omega) (fun c_4 => ?_) (fun c_4 => ?_)
    · refine ev_iconst (v := 0) dX3_hushes_24 (by decide) ?_
      exact ev_zret dX3_hushes_25 rfl (by decide) (⟨rfl, _, rfl, hF.rf, fun L hL => by cases hL⟩)
    · omega
  | succ lf ihlf =>
    intro j pl nu x ld I hnu hpl3 hja hj13 hst hB hBO
    have hc := hst.2.2.1
    have hc12 := hst.2.2.2.1
    have hns := hst.2.2.2.2.2.1
    have hns8 := hst.2.2.2.2.2.2.1
    rw [show d + (lf + 1) + 2 = d + lf + 3 by omega]
    have loop : ∀ (k b : Nat) (z7 z8 : Option Value) (I2 : Nat → Nat → Int32), j < c → b ≤ ns → ns - b < k → hF pl I I2 → m_glL (k_ok x) (k_hr sy B BO c ns lf j x ld) (ns - b) b = k_hl sy B BO c ns (lf + 1) j x ld → Ev lyC (d + lf + 3) hX3_hushes 29 [some (.ref 18), some (.int x), some (.int (nI j)), some (.int ld), some (.int (nI pl)), some (.int (nI nu)), some (.int (nI b)), z7, z8] [] (I2, J, R) (hQ (k_hl sy B BO c ns (lf + 1) j x ld) pl I J R) := by
      intro k
      induction k with
      | zero => intro b z7 z8 I2 hjc h1 h2; omega
      | succ k ih =>
        intro b z7 z8 I2 hjc hb hk hs2 hT
        refine ev_st dX3_hushes_29 rfl rfl ?_
        refine ev_st dX3_hushes_31 rfl rfl ?_
        refine ev_getC dX3_hushes_32 fr_3_36 rfl rfl ?_
        refine ev_getI (v := nI ns) dX3_hushes_35 fr_3_143 rfl rfl ((congrFun (hs2.r 11 rfl) 4).trans hns) ?_
        refine ev_ic_geN (t := 156) (a := b) (b := ns) dX3_hushes_38 (by decide) rfl rfl (by omega) (by omega) (fun c_38 => ?_) (fun c_38 => ?_)
        · refine ev_iconst (v := 0) dX3_hushes_156 (by decide) ?_
          exact ev_zret dX3_hushes_157 rfl (by decide) (⟨by rw [← hT, show ns - b = 0 by omega]; rfl, _, rfl, hs2, fun L hL => by rw [← hT, show ns - b = 0 by omega] at hL; cases hL⟩)
        · refine ev_st dX3_hushes_41 rfl rfl ?_
          refine ev_st dX3_hushes_42 rfl rfl ?_
          refine ev_st dX3_hushes_44 rfl rfl ?_
          refine ev_iconst (v := 1) dX3_hushes_45 (by decide) ?_
          refine ev_st dX3_hushes_46 rfl rfl ?_
          refine ev_if_eq (t := 150) (x := (x >>> ((nI b) &&& 31)) &&& 1) dX3_hushes_47 (by decide) (fun c_47 => ?_) (fun c_47 => ?_)
          · refine ev_iincN (a := b) (b := b + 1) (L' := [some (.ref 18), some (.int x), some (.int (nI j)), some (.int ld), some (.int (nI pl)), some (.int (nI nu)), some (.int (nI (b + 1))), z7, z8]) dX3_hushes_150 rfl (nI_1 _) rfl ?_
            refine ev_goto (t := 29) dX3_hushes_153 (by decide) ?_
            exact ih _ _ _ _ hjc (by omega) (by omega) hs2 (by rw [← hT, show ns - b = (ns - (b + 1)) + 1 by omega, gl_no (by simp [k_ok, k_b, c_47])])
          · refine ev_st dX3_hushes_50 rfl rfl ?_
            refine ev_getC dX3_hushes_51 fr_3_36 rfl rfl ?_
            refine ev_st dX3_hushes_54 rfl rfl ?_
            refine ev_st dX3_hushes_55 rfl rfl ?_
            refine ev_call dX3_hushes_57 rfl rfl mr_3_144 rfl rfl rfl (Cal.mono (by omega) (t_la (I := I2) (J := J) (R := R) (d := 0) (hst.h hs2.1) (s := b) (by omega) ld)) ?_
            rintro _ _ ⟨rfl, rfl⟩
            show Ev lyC (d + lf + 3) hX3_hushes 60 [some (.ref 18), some (.int x), some (.int (nI j)), some (.int ld), some (.int (nI pl)), some (.int (nI nu)), some (.int (nI b)), z7, z8] [.int (m_lb sy ld b)] (I2, J, R) _
            refine ev_st (L' := [some (.ref 18), some (.int x), some (.int (nI j)), some (.int ld), some (.int (nI pl)), some (.int (nI nu)), some (.int (nI b)), some (.int (m_lb sy ld b)), z8]) dX3_hushes_60 rfl rfl ?_
            refine ev_st dX3_hushes_62 rfl rfl ?_
            refine ev_getC dX3_hushes_63 fr_3_25 rfl rfl ?_
            refine ev_st dX3_hushes_66 rfl rfl ?_
            refine ev_st dX3_hushes_68 rfl rfl ?_
            refine ev_iast (j := pl) dX3_hushes_70 rfl rfl (by omega) (by decide) ?_
            refine ev_st dX3_hushes_71 rfl rfl ?_
            refine ev_iconst (v := 1) dX3_hushes_73 (by decide) ?_
            refine ev_iaddN (a := pl) (b := 1) (c := pl + 1) dX3_hushes_74 rfl rfl rfl ?_
            refine ev_st dX3_hushes_75 rfl rfl ?_
            refine ev_ic_neN (t := 99) (a := pl + 1) (b := nu) dX3_hushes_77 (by decide) rfl rfl (by omega) (by omega) (fun c_77 => ?_) (fun c_77 => ?_)
            · refine ev_st dX3_hushes_99 rfl rfl ?_
              refine ev_st dX3_hushes_101 rfl rfl ?_
              refine ev_getC dX3_hushes_102 fr_3_18 rfl rfl ?_
              refine ev_st dX3_hushes_105 rfl rfl ?_
              refine ev_iald (j := j) (v := B j) dX3_hushes_106 rfl rfl (by omega) (by decide) (by rw [(hs2.wp (v := nI b)).1 19 (by decide)]; exact hB j hja (by omega)) ?_
              refine ev_ic_gt (t := 140) (x := m_lb sy ld b) (y := B j) dX3_hushes_107 (by decide) (fun c_107 => ?_) (fun c_107 => ?_)
              · refine ev_iconst (v := 0) dX3_hushes_140 (by decide) ?_
                refine ev_st (L' := [some (.ref 18), some (.int x), some (.int (nI j)), some (.int ld), some (.int (nI pl)), some (.int (nI nu)), some (.int (nI b)), some (.int (m_lb sy ld b)), some (.int 0)]) dX3_hushes_141 rfl rfl ?_
                refine ev_st dX3_hushes_143 rfl rfl ?_
                refine ev_if_eq (t := 150) dX3_hushes_145 (by decide) (fun _ => ?_) (fun q => absurd q (by decide))
                refine ev_iincN (a := b) (b := b + 1) (L' := [some (.ref 18), some (.int x), some (.int (nI j)), some (.int ld), some (.int (nI pl)), some (.int (nI nu)), some (.int (nI (b + 1))), some (.int (m_lb sy ld b)), some (.int 0)]) dX3_hushes_150 rfl (nI_1 _) rfl ?_
                refine ev_goto (t := 29) dX3_hushes_153 (by decide) ?_
                exact ih _ _ _ _ hjc (by omega) (by omega) (hs2.wp (v := nI b)) (by rw [← hT, show ns - b = (ns - (b + 1)) + 1 by omega, gl_none (by simp [k_ok, k_b, c_47]) (by rw [k_hr, if_neg (by omega), if_pos c_107])])
              · refine ev_st dX3_hushes_110 rfl rfl ?_
                refine ev_st dX3_hushes_111 rfl rfl ?_
                refine ev_iconst (v := 1) dX3_hushes_112 (by decide) ?_
                refine ev_st dX3_hushes_113 rfl rfl ?_
                refine ev_st dX3_hushes_115 rfl rfl ?_
                refine ev_iconst (v := -1) dX3_hushes_116 (by decide) ?_
                refine ev_st dX3_hushes_117 rfl rfl ?_
                refine ev_st dX3_hushes_118 rfl rfl ?_
                refine ev_st dX3_hushes_119 rfl rfl ?_
                refine ev_iconst (v := 1) dX3_hushes_120 (by decide) ?_
                refine ev_iaddN (a := j) (b := 1) (c := j + 1) dX3_hushes_121 rfl rfl rfl ?_
                refine ev_st dX3_hushes_122 rfl rfl ?_
                refine ev_st dX3_hushes_124 rfl rfl ?_
                refine ev_iconst (v := 1) dX3_hushes_126 (by decide) ?_
                refine ev_iaddN (a := pl) (b := 1) (c := pl + 1) dX3_hushes_127 rfl rfl rfl ?_
                refine ev_st dX3_hushes_128 rfl rfl ?_
                refine ev_call dX3_hushes_130 rfl rfl mr_3_139 rfl rfl rfl (ihlf (j + 1) (pl + 1) nu (x &&& (((1 : Int32) <<< (nI b &&& 31)) ^^^ (-1))) (m_lb sy ld b) (ti_wr I2 21 pl (nI b)) (by omega) (by omega) (by omega) (by omega) (hst.h (hs2.wp (v := nI b)).1) (fun q h1 h2 => by rw [(hs2.wp (v := nI b)).1 19 (by decide)]; exact hB q h1 h2) (fun q h1 h2 => by rw [(hs2.wp (v := nI b)).1 20 (by decide)]; exact hBO q h1 h2)) ?_
                rintro _ _ ⟨rfl, I3, rfl, g3, hpl⟩
                show Ev lyC (d + lf + 3) hX3_hushes 133 [some (.ref 18), some (.int x), some (.int (nI j)), some (.int ld), some (.int (nI pl)), some (.int (nI nu)), some (.int (nI b)), some (.int (m_lb sy ld b)), z8] [.int (b2i (k_hl sy B BO c ns lf (j + 1) (x &&& (((1 : Int32) <<< (nI b &&& 31)) ^^^ (-1))) (m_lb sy ld b)).isSome)] (I3, J, R) _
                refine ev_if_eq (t := 140) (x := b2i (k_hl sy B BO c ns lf (j + 1) (x &&& (((1 : Int32) <<< (nI b &&& 31)) ^^^ (-1))) (m_lb sy ld b)).isSome) dX3_hushes_133 (by decide) (fun c_133 => ?_) (fun c_133 => ?_)
                · refine ev_iconst (v := 0) dX3_hushes_140 (by decide) ?_
                  refine ev_st (L' := [some (.ref 18), some (.int x), some (.int (nI j)), some (.int ld), some (.int (nI pl)), some (.int (nI nu)), some (.int (nI b)), some (.int (m_lb sy ld b)), some (.int 0)]) dX3_hushes_141 rfl rfl ?_
                  refine ev_st dX3_hushes_143 rfl rfl ?_
                  refine ev_if_eq (t := 150) dX3_hushes_145 (by decide) (fun _ => ?_) (fun q => absurd q (by decide))
                  refine ev_iincN (a := b) (b := b + 1) (L' := [some (.ref 18), some (.int x), some (.int (nI j)), some (.int ld), some (.int (nI pl)), some (.int (nI nu)), some (.int (nI (b + 1))), some (.int (m_lb sy ld b)), some (.int 0)]) dX3_hushes_150 rfl (nI_1 _) rfl ?_
                  refine ev_goto (t := 29) dX3_hushes_153 (by decide) ?_
                  have e0 := isSome0 c_133
                  exact ih _ _ _ _ hjc (by omega) (by omega) ((hs2.wp (v := nI b)).tr g3) (by rw [← hT, show ns - b = (ns - (b + 1)) + 1 by omega, gl_none (by simp [k_ok, k_b, c_47]) (by rw [k_hr, if_neg (by omega), if_neg c_107, e0]; rfl)])
                · obtain ⟨L0, e0⟩ := isSome1 c_133
                  refine ev_iconst (v := 1) dX3_hushes_136 (by decide) ?_
                  refine ev_goto (t := 141) dX3_hushes_137 (by decide) ?_
                  refine ev_st (L' := [some (.ref 18), some (.int x), some (.int (nI j)), some (.int ld), some (.int (nI pl)), some (.int (nI nu)), some (.int (nI b)), some (.int (m_lb sy ld b)), some (.int 1)]) dX3_hushes_141 rfl rfl ?_
                  refine ev_st dX3_hushes_143 rfl rfl ?_
                  refine ev_if_eq (t := 150) dX3_hushes_145 (by decide) (fun q => absurd q (by decide)) (fun _ => ?_)
                  refine ev_iconst (v := 1) dX3_hushes_148 (by decide) ?_
                  exact ev_zret dX3_hushes_149 rfl (by decide) (⟨by rw [← hT, show ns - b = (ns - (b + 1)) + 1 by omega, gl_some (L := (j, b) :: L0) (by simp [k_ok, k_b, c_47]) (by rw [k_hr, if_neg (by omega), if_neg c_107, e0]; rfl)]; rfl, _, rfl, (hs2.wp (v := nI b)).tr g3, fun L hL => by rw [← hT, show ns - b = (ns - (b + 1)) + 1 by omega, gl_some (L := (j, b) :: L0) (by simp [k_ok, k_b, c_47]) (by rw [k_hr, if_neg (by omega), if_neg c_107, e0]; rfl)] at hL; cases hL; exact plL_cons (hpl L0 e0) ((g3.2 pl (by omega)).trans ti_wr_at)⟩)
            · refine ev_st dX3_hushes_80 rfl rfl ?_
              refine ev_st dX3_hushes_82 rfl rfl ?_
              refine ev_getC dX3_hushes_83 fr_3_22 rfl rfl ?_
              refine ev_st dX3_hushes_86 rfl rfl ?_
              refine ev_iald (j := j) (v := BO j) dX3_hushes_87 rfl rfl (by omega) (by decide) (by rw [(hs2.wp (v := nI b)).1 20 (by decide)]; exact hBO j hja (by omega)) ?_
              refine ev_ic_gt (t := 95) (x := m_lb sy ld b) (y := BO j) dX3_hushes_88 (by decide) (fun c_88 => ?_) (fun c_88 => ?_)
              · refine ev_iconst (v := 0) dX3_hushes_95 (by decide) ?_
                refine ev_goto (t := 141) dX3_hushes_96 (by decide) ?_
                refine ev_st (L' := [some (.ref 18), some (.int x), some (.int (nI j)), some (.int ld), some (.int (nI pl)), some (.int (nI nu)), some (.int (nI b)), some (.int (m_lb sy ld b)), some (.int 0)]) dX3_hushes_141 rfl rfl ?_
                refine ev_st dX3_hushes_143 rfl rfl ?_
                refine ev_if_eq (t := 150) dX3_hushes_145 (by decide) (fun _ => ?_) (fun q => absurd q (by decide))
                refine ev_iincN (a := b) (b := b + 1) (L' := [some (.ref 18), some (.int x), some (.int (nI j)), some (.int ld), some (.int (nI pl)), some (.int (nI nu)), some (.int (nI (b + 1))), some (.int (m_lb sy ld b)), some (.int 0)]) dX3_hushes_150 rfl (nI_1 _) rfl ?_
                refine ev_goto (t := 29) dX3_hushes_153 (by decide) ?_
                exact ih _ _ _ _ hjc (by omega) (by omega) (hs2.wp (v := nI b)) (by rw [← hT, show ns - b = (ns - (b + 1)) + 1 by omega, gl_none (by simp [k_ok, k_b, c_47]) (by rw [k_hr, if_pos (by omega), if_pos c_88])])
              · refine ev_iconst (v := 1) dX3_hushes_91 (by decide) ?_
                refine ev_goto (t := 141) dX3_hushes_92 (by decide) ?_
                refine ev_st (L' := [some (.ref 18), some (.int x), some (.int (nI j)), some (.int ld), some (.int (nI pl)), some (.int (nI nu)), some (.int (nI b)), some (.int (m_lb sy ld b)), some (.int 1)]) dX3_hushes_141 rfl rfl ?_
                refine ev_st dX3_hushes_143 rfl rfl ?_
                refine ev_if_eq (t := 150) dX3_hushes_145 (by decide) (fun q => absurd q (by decide)) (fun _ => ?_)
                refine ev_iconst (v := 1) dX3_hushes_148 (by decide) ?_
                exact ev_zret dX3_hushes_149 rfl (by decide) (⟨by rw [← hT, show ns - b = (ns - (b + 1)) + 1 by omega, gl_some (L := [(j, b)]) (by simp [k_ok, k_b, c_47]) (by rw [k_hr, if_pos (by omega), if_neg c_88])]; rfl, _, rfl, hs2.wp (v := nI b), fun L hL => by rw [← hT, show ns - b = (ns - (b + 1)) + 1 by omega, gl_some (L := [(j, b)]) (by simp [k_ok, k_b, c_47]) (by rw [k_hr, if_pos (by omega), if_neg c_88])] at hL; cases hL; exact plL_cons (fun i x q => by cases q) ti_wr_at⟩)
    show Ev lyC (d + lf + 3) hX3_hushes 0 [some (.ref 18), some (.int x), some (.int (nI j)), some (.int ld), some (.int (nI pl)), some (.int (nI nu)), none, none, none] [] (I, J, R) _
    refine ev_st dX3_hushes_0 rfl rfl ?_
    refine ev_st dX3_hushes_2 rfl rfl ?_
    refine ev_ic_geN (t := 24) (a := pl) (b := nu) dX3_hushes_4 (by decide) rfl rfl (by omega) (by omega) (fun c_4 => ?_) (fun c_4 => ?_)
    · omega
    · refine ev_st dX3_hushes_7 rfl rfl ?_
      refine ev_iconst (v := 3) dX3_hushes_9 (by decide) ?_
      refine ev_ic_geN (t := 24) (a := pl) (b := 3) dX3_hushes_10 (by decide) rfl rfl (by omega) (by omega) (fun c_10 => ?_) (fun c_10 => ?_)
      · omega
      · refine ev_st dX3_hushes_13 rfl rfl ?_
        refine ev_st dX3_hushes_14 rfl rfl ?_
        refine ev_getC dX3_hushes_15 fr_3_28 rfl rfl ?_
        refine ev_getI (v := nI c) dX3_hushes_18 fr_3_52 rfl rfl hc ?_
        refine ev_ic_ltN (t := 26) (a := j) (b := c) dX3_hushes_21 (by decide) rfl rfl (by omega) (by omega) (fun c_21 => ?_) (fun c_21 => ?_)
        · refine ev_iconst (v := 0) dX3_hushes_26 (by decide) ?_
          refine ev_st (L' := [some (.ref 18), some (.int x), some (.int (nI j)), some (.int ld), some (.int (nI pl)), some (.int (nI nu)), some (.int 0), none, none]) dX3_hushes_27 rfl rfl ?_
          exact loop (ns + 1) 0 _ _ I (by omega) (by omega) (by omega) hF.rf (by rw [k_hl_s, if_neg (by omega)]; rfl)
        · refine ev_iconst (v := 0) dX3_hushes_24 (by decide) ?_
          exact ev_zret dX3_hushes_25 rfl (by decide) (⟨by rw [k_hl_s, if_pos c_21]; rfl, _, rfl, hF.rf, fun L hL => by rw [k_hl_s, if_pos c_21] at hL; cases hL⟩)
