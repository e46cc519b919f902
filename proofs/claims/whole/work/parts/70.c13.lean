/-! the class: worlds; claims -/
theorem sum_hv {f sy : Nat → Int32} {x : Int32} : ∀ n, (∀ k, k < n → f k = sy (4 * k)) → k_sum f x n = m_hv sy x n
  | 0, _ => rfl
  | n + 1, h => by
    simp only [k_sum, m_hv, has_kb]
    rw [sum_hv n (fun k hk => h k (by omega)), h n (by omega)]
    rcases k_b01 x (nI n) with e | e
    · rw [e, if_pos rfl, Int32.zero_mul]
    · rw [e, if_neg (by decide), Int32.one_mul]
theorem t_weight {I I2 : Nat → Nat → Int32} {J : Nat → Nat → Int64} {R : Nat → Nat → Value} {d n c ns : Nat} {sp str tl sy : Nat → Int32} (hst : ST I sp str tl sy n c ns) (hs : fC I I2) (x : Int32) : Cal lyC (d + 1) hX6_weightOf 2 [.ref 11, .int x] (I2, J, R) (fun r M' => r = some (.int (m_hv sy x ns)) ∧ M' = (I2, J, R)) := by
  obtain ⟨_, _, _, _, _, h1, h2, _, _, h3, _⟩ := hst.f hs
  rw [← sum_hv (f := I2 12) ns (fun k hk => (h3 k hk).1)]
  exact k_weightOf h1 h2 x
def wN (P : Nat → Bool) : Nat → Nat
  | 0 => 0
  | b + 1 => if P b = true then wN P b + 1 else wN P b
def wL (P : Nat → Bool) : Nat → Int32
  | 0 => -1
  | b + 1 => if P b = true then (if wN P b = 0 then nI b else wL P b) else wL P b
def wA (P : Nat → Bool) : Nat → Int32
  | 0 => -1
  | b + 1 => if P b = true then wA P b &&& nI b else wA P b
def wE (P : Nat → Bool) : Nat → Int32
  | 0 => 0
  | b + 1 => if P b = true then wE P b ||| nI b else wE P b
def wT (P : Nat → Bool) (s : Nat) : Nat → Nat
  | 0 => 0
  | b + 1 => if P b = true then wT P s b + b / 2 ^ s % 2 else wT P s b
theorem wT_le {P : Nat → Bool} {s : Nat} : ∀ b, wT P s b ≤ wN P b
  | 0 => Nat.le_refl _
  | b + 1 => by
    have := wT_le (P := P) (s := s) b
    simp only [wT, wN]
    split <;> omega
theorem wN_le {P : Nat → Bool} : ∀ b, wN P b ≤ b
  | 0 => Nat.le_refl _
  | b + 1 => by
    have := wN_le (P := P) b
    simp only [wN]
    split <;> omega
/-- what a survey has found -/
def sV (P : Nat → Bool) (ns b : Nat) (I : Nat → Nat → Int32) : Prop := I 23 9 = nI (wN P b) ∧ I 23 10 = wL P b ∧ I 23 11 = wA P b ∧ I 23 12 = wE P b ∧ ∀ s, s < ns → I 29 s = nI (wT P s b)
def k_np (f : Nat → Int32) (x : Int32) (b : Nat) : Nat → Int32 := fun j => if j < b then f j + k_b x (nI j) else f j
theorem k_np_0 {f : Nat → Int32} {x : Int32} : k_np f x 0 = f := by funext j; simp [k_np]
theorem k_np_s {f : Nat → Int32} {x : Int32} {b : Nat} : upd (k_np f x b) b (f b + k_b x (nI b)) = k_np f x (b + 1) := by
  funext j
  by_cases h : j = b
  · subst h; simp [upd, k_np]
  · by_cases h2 : j < b
    · simp [upd, k_np, h, h2, Nat.lt_succ_of_lt h2]
    · have : ¬ j < b + 1 := by omega
      simp [upd, k_np, h, h2, this]
theorem k_np_hi {f : Nat → Int32} {x : Int32} {b : Nat} : k_np f x b b = f b := by simp [k_np]
set_option maxHeartbeats 1000000 in
theorem t_fits {I I2 : Nat → Nat → Int32} {J : Nat → Nat → Int64} {R : Nat → Nat → Value} {d n c ns no : Nat} {sp str tl sy : Nat → Int32} (hst : ST I sp str tl sy n c ns) (hno : I 23 4 = nI no) (hno8 : no ≤ 8) (hs2 : fC I I2) (x : Int32) : Cal lyC (d + 2) hX1_fitsAll 5 [.ref 23, .int x] (I2, J, R) (fun r M' => r = some (.int (b2i (m_iw sy (I 24) (I 25) ns no x))) ∧ M' = (I2, J, R)) := by
  have hns := hst.2.2.2.2.2.1
  have hns8 := hst.2.2.2.2.2.2.1
  have loop : ∀ (k b : Nat) (z3 z4 : Option Value), b ≤ no → no - b < k → allB (fun k => m_hv sy (I 24 k &&& x) ns - m_hv sy (I 24 k &&& (x ^^^ (-1))) ns == I 25 k) b = true → Ev lyC (d + 2) hX1_fitsAll 2 [some (.ref 23), some (.int x), some (.int (nI b)), z3, z4] [] (I2, J, R) (fun r M' => r = some (.int (b2i (m_iw sy (I 24) (I 25) ns no x))) ∧ M' = (I2, J, R)) := by
    intro k
    induction k with
    | zero => intro b z3 z4 h1 h2; omega
    | succ k ih =>
      intro b z3 z4 hb hk hm
      refine ev_st dX1_fitsAll_2 rfl rfl ?_
      refine ev_st dX1_fitsAll_3 rfl rfl ?_
      refine ev_getI (v := nI no) dX1_fitsAll_4 fr_1_75 rfl rfl (hs2.2.1.trans hno) ?_
      refine ev_ic_geN (t := 66) (a := b) (b := no) dX1_fitsAll_7 (by decide) rfl rfl (by omega) (by omega) (fun c_7 => ?_) (fun c_7 => ?_)
      · refine ev_iconst (v := 1) dX1_fitsAll_66 (by decide) ?_
        exact ev_zret dX1_fitsAll_67 rfl (by decide) (⟨by rw [show b = no by omega] at hm; rw [show m_iw sy (I 24) (I 25) ns no x = allB (fun k => m_hv sy (I 24 k &&& x) ns - m_hv sy (I 24 k &&& (x ^^^ (-1))) ns == I 25 k) no from rfl, hm]; rfl, rfl⟩)
      · refine ev_st dX1_fitsAll_10 rfl rfl ?_
        refine ev_getC dX1_fitsAll_11 fr_1_30 rfl rfl ?_
        refine ev_st dX1_fitsAll_14 rfl rfl ?_
        refine ev_getC dX1_fitsAll_15 fr_1_11 rfl rfl ?_
        refine ev_st dX1_fitsAll_18 rfl rfl ?_
        refine ev_iald (j := b) (v := I 24 b) dX1_fitsAll_19 rfl rfl (by omega) (by decide) (congrFun (hs2.r 24 rfl) b) ?_
        refine ev_st dX1_fitsAll_20 rfl rfl ?_
        refine ev_st dX1_fitsAll_21 rfl rfl ?_
        refine ev_call dX1_fitsAll_22 rfl rfl mr_1_63 rfl rfl rfl (t_weight hst hs2 ((I 24 b) &&& x)) ?_
        rintro _ _ ⟨rfl, rfl⟩
        show Ev lyC (d + 2) hX1_fitsAll 25 [some (.ref 23), some (.int x), some (.int (nI b)), z3, z4] [.int (m_hv sy ((I 24 b) &&& x) ns)] (I2, J, R) _
        refine ev_st (L' := [some (.ref 23), some (.int x), some (.int (nI b)), some (.int (m_hv sy ((I 24 b) &&& x) ns)), z4]) dX1_fitsAll_25 rfl rfl ?_
        refine ev_st dX1_fitsAll_26 rfl rfl ?_
        refine ev_getC dX1_fitsAll_27 fr_1_30 rfl rfl ?_
        refine ev_st dX1_fitsAll_30 rfl rfl ?_
        refine ev_getC dX1_fitsAll_31 fr_1_11 rfl rfl ?_
        refine ev_st dX1_fitsAll_34 rfl rfl ?_
        refine ev_iald (j := b) (v := I 24 b) dX1_fitsAll_35 rfl rfl (by omega) (by decide) (congrFun (hs2.r 24 rfl) b) ?_
        refine ev_st dX1_fitsAll_36 rfl rfl ?_
        refine ev_iconst (v := -1) dX1_fitsAll_37 (by decide) ?_
        refine ev_st dX1_fitsAll_38 rfl rfl ?_
        refine ev_st dX1_fitsAll_39 rfl rfl ?_
        refine ev_call dX1_fitsAll_40 rfl rfl mr_1_63 rfl rfl rfl (t_weight hst hs2 ((I 24 b) &&& (x ^^^ ((-1))))) ?_
        rintro _ _ ⟨rfl, rfl⟩
        show Ev lyC (d + 2) hX1_fitsAll 43 [some (.ref 23), some (.int x), some (.int (nI b)), some (.int (m_hv sy ((I 24 b) &&& x) ns)), z4] [.int (m_hv sy ((I 24 b) &&& (x ^^^ ((-1)))) ns)] (I2, J, R) _
        refine ev_st (L' := [some (.ref 23), some (.int x), some (.int (nI b)), some (.int (m_hv sy ((I 24 b) &&& x) ns)), some (.int (m_hv sy ((I 24 b) &&& (x ^^^ ((-1)))) ns))]) dX1_fitsAll_43 rfl rfl ?_
        refine ev_st dX1_fitsAll_45 rfl rfl ?_
        refine ev_st dX1_fitsAll_46 rfl rfl ?_
        refine ev_st dX1_fitsAll_48 rfl rfl ?_
        refine ev_st dX1_fitsAll_49 rfl rfl ?_
        refine ev_getC dX1_fitsAll_50 fr_1_15 rfl rfl ?_
        refine ev_st dX1_fitsAll_53 rfl rfl ?_
        refine ev_iald (j := b) (v := I 25 b) dX1_fitsAll_54 rfl rfl (by omega) (by decide) (congrFun (hs2.r 25 rfl) b) ?_
        refine ev_ic_eq (t := 60) (x := (m_hv sy ((I 24 b) &&& x) ns) - (m_hv sy ((I 24 b) &&& (x ^^^ ((-1)))) ns)) (y := I 25 b) dX1_fitsAll_55 (by decide) (fun c_55 => ?_) (fun c_55 => ?_)
        · refine ev_iincN (a := b) (b := b + 1) (L' := [some (.ref 23), some (.int x), some (.int (nI (b + 1))), some (.int (m_hv sy ((I 24 b) &&& x) ns)), some (.int (m_hv sy ((I 24 b) &&& (x ^^^ ((-1)))) ns))]) dX1_fitsAll_60 rfl (nI_1 _) rfl ?_
          refine ev_goto (t := 2) dX1_fitsAll_63 (by decide) ?_
          exact ih _ _ _ (by omega) (by omega) (by simp only [allB]; rw [hm]; simpa using c_55)
        · refine ev_iconst (v := 0) dX1_fitsAll_58 (by decide) ?_
          exact ev_zret dX1_fitsAll_59 rfl (by decide) (⟨by rw [show m_iw sy (I 24) (I 25) ns no x = false from allB_f (f := fun k => m_hv sy (I 24 k &&& x) ns - m_hv sy (I 24 k &&& (x ^^^ (-1))) ns == I 25 k) (b := b) (by simpa using c_55) no c_7]; rfl, rfl⟩)
  show Ev lyC (d + 2) hX1_fitsAll 0 [some (.ref 23), some (.int x), none, none, none] [] (I2, J, R) _
  refine ev_iconst (v := 0) dX1_fitsAll_0 (by decide) ?_
  refine ev_st (L' := [some (.ref 23), some (.int x), some (.int 0), none, none]) dX1_fitsAll_1 rfl rfl ?_
  exact loop (no + 1) 0 _ _ (by omega) (by omega) rfl
set_option maxHeartbeats 1000000 in
theorem k_noteL {I : Nat → Nat → Int32} {J : Nat → Nat → Int64} {R : Nat → Nat → Value} {d ns : Nat} (hns : I 11 4 = nI ns) (hns8 : ns ≤ 8) (x : Int32) : ∀ (k b : Nat), b ≤ ns → ns - b < k → Ev lyC d hX1_noteWorld 44 [some (.ref 23), some (.int x), some (.int (nI b))] [] (va_up I 29 (k_np (I 29) x b), J, R) (fun r M' => r = none ∧ M' = (va_up I 29 (k_np (I 29) x ns), J, R)) := by
  intro k
  induction k with
  | zero => intro b h1 h2; omega
  | succ k ih =>
    intro b hb hk
    refine ev_st dX1_noteWorld_44 rfl rfl ?_
    refine ev_st dX1_noteWorld_45 rfl rfl ?_
    refine ev_getC dX1_noteWorld_46 fr_1_30 rfl rfl ?_
    refine ev_getI (v := nI ns) dX1_noteWorld_49 fr_1_54 rfl rfl hns ?_
    refine ev_ic_geN (t := 75) (a := b) (b := ns) dX1_noteWorld_52 (by decide) rfl rfl (by omega) (by omega) (fun c_52 => ?_) (fun c_52 => ?_)
    · exact ev_vret dX1_noteWorld_75 rfl (⟨rfl, by rw [show b = ns by omega]⟩)
    · refine ev_st dX1_noteWorld_55 rfl rfl ?_
      refine ev_getC dX1_noteWorld_56 fr_1_27 rfl rfl ?_
      refine ev_st dX1_noteWorld_59 rfl rfl ?_
      refine ev_st dX1_noteWorld_60 rfl rfl ?_
      refine ev_iald (j := b) (v := I 29 b) dX1_noteWorld_61 rfl rfl (by omega) (by decide) (by rw [va_up_q]; exact k_np_hi) ?_
      refine ev_st dX1_noteWorld_62 rfl rfl ?_
      refine ev_st dX1_noteWorld_63 rfl rfl ?_
      refine ev_st dX1_noteWorld_64 rfl rfl ?_
      refine ev_iconst (v := 1) dX1_noteWorld_65 (by decide) ?_
      refine ev_st dX1_noteWorld_66 rfl rfl ?_
      refine ev_st dX1_noteWorld_67 rfl rfl ?_
      refine ev_iast (j := b) dX1_noteWorld_68 rfl rfl (by omega) (by decide) ?_
      refine ev_iincN (a := b) (b := b + 1) (L' := [some (.ref 23), some (.int x), some (.int (nI (b + 1)))]) dX1_noteWorld_69 rfl (nI_1 _) rfl ?_
      refine ev_goto (t := 44) dX1_noteWorld_72 (by decide) ?_
      have e9 : ti_wr (va_up I 29 (k_np (I 29) x b)) 29 b ((I 29 b) + ((x >>> ((nI b) &&& 31)) &&& 1)) = va_up I 29 (k_np (I 29) x (b + 1)) := by rw [ti_wr_up, ← k_np_s]; rfl
      rw [e9]
      exact ih _ (by omega) (by omega)
theorem note_sV {P : Nat → Bool} {ns b : Nat} {I I3 : Nat → Nat → Int32} (hb : b < 256) (hns : ns ≤ 8) (hP : P b = true) (hv : sV P ns b I) (e10 : I3 23 10 = if wN P b = 0 then nI b else I 23 10) (e9 : I3 23 9 = nI (wN P b + 1)) (e11 : I3 23 11 = I 23 11 &&& nI b) (e12 : I3 23 12 = I 23 12 ||| nI b) (e0 : I3 29 = I3 29) (e29 : ∀ s, s < ns → I3 29 s = I 29 s + k_b (nI b) (nI s)) : sV P ns (b + 1) I3 := by
  obtain ⟨h1, h2, h3, h4, h5⟩ := hv
  refine ⟨by rw [e9, wN, if_pos hP], by rw [e10, wL, if_pos hP, h2], by rw [e11, wA, if_pos hP, h3], by rw [e12, wE, if_pos hP, h4], fun s hs => ?_⟩
  rw [e29 s hs, h5 s hs, k_b_nI hb (by omega), nI_add, wT, if_pos hP]
set_option maxHeartbeats 1000000 in
theorem t_note {I I2 : Nat → Nat → Int32} {J : Nat → Nat → Int64} {R : Nat → Nat → Value} {d n c ns b : Nat} {sp str tl sy : Nat → Int32} {P : Nat → Bool} (hst : ST I sp str tl sy n c ns) (hs2 : fC I I2) (hb8 : b < 256) (hP : P b = true) (hv : sV P ns b I2) : Cal lyC d hX1_noteWorld 3 [.ref 23, .int (nI b)] (I2, J, R) (fun r M' => r = none ∧ ∃ I3, M' = (I3, J, R) ∧ fC I I3 ∧ I3 3 = I2 3 ∧ sV P ns (b + 1) I3) := by
  have hns := hst.2.2.2.2.2.1
  have hns8 := hst.2.2.2.2.2.2.1
  have hwn := wN_le (P := P) b
  show Ev lyC d hX1_noteWorld 0 [some (.ref 23), some (.int (nI b)), none] [] (I2, J, R) _
  refine ev_st dX1_noteWorld_0 rfl rfl ?_
  refine ev_getI (v := nI (wN P b)) dX1_noteWorld_1 fr_1_84 rfl rfl hv.1 ?_
  refine ev_if_neN (t := 12) (a := wN P b) dX1_noteWorld_4 (by decide) rfl (by omega) (fun c_4 => ?_) (fun c_4 => ?_)
  · refine ev_st dX1_noteWorld_12 rfl rfl ?_
    refine ev_st dX1_noteWorld_13 rfl rfl ?_
    refine ev_getI (v := nI (wN P b)) dX1_noteWorld_14 fr_1_84 rfl rfl hv.1 ?_
    refine ev_iconst (v := 1) dX1_noteWorld_17 (by decide) ?_
    refine ev_iaddN (a := wN P b) (b := 1) (c := wN P b + 1) dX1_noteWorld_18 rfl rfl rfl ?_
    refine ev_putI dX1_noteWorld_19 fr_1_84 rfl rfl ?_
    refine ev_st dX1_noteWorld_22 rfl rfl ?_
    refine ev_st dX1_noteWorld_23 rfl rfl ?_
    refine ev_getI (v := I2 23 11) dX1_noteWorld_24 fr_1_90 rfl rfl rfl ?_
    refine ev_st dX1_noteWorld_27 rfl rfl ?_
    refine ev_st dX1_noteWorld_28 rfl rfl ?_
    refine ev_putI dX1_noteWorld_29 fr_1_90 rfl rfl ?_
    refine ev_st dX1_noteWorld_32 rfl rfl ?_
    refine ev_st dX1_noteWorld_33 rfl rfl ?_
    refine ev_getI (v := I2 23 12) dX1_noteWorld_34 fr_1_87 rfl rfl rfl ?_
    refine ev_st dX1_noteWorld_37 rfl rfl ?_
    refine ev_st dX1_noteWorld_38 rfl rfl ?_
    refine ev_putI dX1_noteWorld_39 fr_1_87 rfl rfl ?_
    refine ev_iconst (v := 0) dX1_noteWorld_42 (by decide) ?_
    refine ev_st (L' := [some (.ref 23), some (.int (nI b)), some (.int 0)]) dX1_noteWorld_43 rfl rfl ?_
    have K := k_noteL (I := ti_wr (ti_wr (ti_wr I2 23 9 (nI (wN P b + 1))) 23 11 ((I2 23 11) &&& (nI b))) 23 12 ((I2 23 12) ||| (nI b))) (J := J) (R := R) (d := d) (ns := ns) ((congrFun (hs2.r 11 rfl) 4).trans hns) hns8 (nI b) (ns + 1) 0 (by omega) (by omega)
    rw [k_np_0, va_up_id] at K
    exact K.imp (fun r M' ⟨e1, e2⟩ => ⟨e1, _, e2, (((hs2.w (p := 23) (k := 9) rfl _).w (p := 23) (k := 11) rfl _).w (p := 23) (k := 12) rfl _).u rfl _, rfl, note_sV hb8 hns8 hP hv (by rw [if_neg c_4]; rfl) rfl rfl rfl rfl (fun s hs => if_pos hs)⟩)
  · refine ev_st dX1_noteWorld_7 rfl rfl ?_
    refine ev_st dX1_noteWorld_8 rfl rfl ?_
    refine ev_putI dX1_noteWorld_9 fr_1_81 rfl rfl ?_
    refine ev_st dX1_noteWorld_12 rfl rfl ?_
    refine ev_st dX1_noteWorld_13 rfl rfl ?_
    refine ev_getI (v := nI (wN P b)) dX1_noteWorld_14 fr_1_84 rfl rfl hv.1 ?_
    refine ev_iconst (v := 1) dX1_noteWorld_17 (by decide) ?_
    refine ev_iaddN (a := wN P b) (b := 1) (c := wN P b + 1) dX1_noteWorld_18 rfl rfl rfl ?_
    refine ev_putI dX1_noteWorld_19 fr_1_84 rfl rfl ?_
    refine ev_st dX1_noteWorld_22 rfl rfl ?_
    refine ev_st dX1_noteWorld_23 rfl rfl ?_
    refine ev_getI (v := I2 23 11) dX1_noteWorld_24 fr_1_90 rfl rfl rfl ?_
    refine ev_st dX1_noteWorld_27 rfl rfl ?_
    refine ev_st dX1_noteWorld_28 rfl rfl ?_
    refine ev_putI dX1_noteWorld_29 fr_1_90 rfl rfl ?_
    refine ev_st dX1_noteWorld_32 rfl rfl ?_
    refine ev_st dX1_noteWorld_33 rfl rfl ?_
    refine ev_getI (v := I2 23 12) dX1_noteWorld_34 fr_1_87 rfl rfl rfl ?_
    refine ev_st dX1_noteWorld_37 rfl rfl ?_
    refine ev_st dX1_noteWorld_38 rfl rfl ?_
    refine ev_putI dX1_noteWorld_39 fr_1_87 rfl rfl ?_
    refine ev_iconst (v := 0) dX1_noteWorld_42 (by decide) ?_
    refine ev_st (L' := [some (.ref 23), some (.int (nI b)), some (.int 0)]) dX1_noteWorld_43 rfl rfl ?_
    have K := k_noteL (I := ti_wr (ti_wr (ti_wr (ti_wr I2 23 10 (nI b)) 23 9 (nI (wN P b + 1))) 23 11 ((I2 23 11) &&& (nI b))) 23 12 ((I2 23 12) ||| (nI b))) (J := J) (R := R) (d := d) (ns := ns) ((congrFun (hs2.r 11 rfl) 4).trans hns) hns8 (nI b) (ns + 1) 0 (by omega) (by omega)
    rw [k_np_0, va_up_id] at K
    exact K.imp (fun r M' ⟨e1, e2⟩ => ⟨e1, _, e2, ((((hs2.w (p := 23) (k := 10) rfl _).w (p := 23) (k := 9) rfl _).w (p := 23) (k := 11) rfl _).w (p := 23) (k := 12) rfl _).u rfl _, rfl, note_sV hb8 hns8 hP hv (by rw [if_pos c_4]; rfl) rfl rfl rfl rfl (fun s hs => if_pos hs)⟩)
