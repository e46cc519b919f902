/-! the class: the smallest team, changes, props, slants -/
theorem all_1 {P : Nat → Prop} {b : Nat} (h : ∀ j, 1 ≤ j → j < b → P j) (hb : P b) : ∀ j, 1 ≤ j → j < b + 1 → P j := by
  intro j h1 h2
  rcases (by omega : j < b ∨ j = b) with q | q
  · exact h j h1 q
  · rw [q]; exact hb
theorem all_b {P : Nat → Prop} {b : Nat} (h : ∀ j, j < b → P j) (hb : P b) : ∀ j, j < b + 1 → P j := by
  intro j h2
  rcases (by omega : j < b ∨ j = b) with q | q
  · exact h j q
  · rw [q]; exact hb
theorem b2i_ne {b : Bool} (h : ¬ b2i b = 0) : b = true := by
  cases b
  · exact absurd rfl h
  · rfl
def k_sm (T : Nat → Int32 × Int32) (nd : Int32) (mo : Nat) (I : Nat → Nat → Int32) (J : Nat → Nat → Int64) (r : Option Value) (I3 : Nat → Nat → Int32) (J3 : Nat → Nat → Int64) : Prop :=
  (∃ k, 1 ≤ k ∧ k ≤ mo ∧ (∀ j, 1 ≤ j → j < k → (T j).2 < nd) ∧ ¬ (T k).2 < nd ∧ r = some (.int (nI k)) ∧ tC [(T k).1.toInt64, (T k).2.toInt64] I3 J3) ∨
  ((∀ j, 1 ≤ j → j ≤ mo → (T j).2 < nd) ∧ r = some (.int (-2)) ∧ uC I J I3 J3)
theorem min6 : ∀ n, n ≤ 8 → (if (6 : Int32) < nI n then 6 else nI n) = nI (min n 6) := by decide
set_option maxHeartbeats 1000000 in
theorem k_smallest {I : Nat → Nat → Int32} {J : Nat → Nat → Int64} {R : Nat → Nat → Value} {d n c a p mo : Nat} {F : Int32 → Int32} (hn : I 8 3 = nI n) (hn8 : n ≤ 8) (hc : I 5 2 = nI c) (hc12 : c ≤ 12) (ha : I 39 1 = nI a) (ha12 : a ≤ 12) (hF : kF I R d p F) (hmo : mo = min n 6) : Cal lyC (d + 6) hX8_smallest 6 [.ref 22, .ref 39, .ref p] (I, J, R) (fun r M' => ∃ I3 J3, M' = (I3, J3, R) ∧ fC I I3 ∧ k_sm (fun j => m_tm F (nI j) (2 ^ n)) (I 39 2 + m_st c (I 6) a) mo I J r I3 J3) := by
  have hmo6 : mo ≤ 6 := by omega
  have loop : ∀ (k b : Nat) (z : Option Value) (I2 : Nat → Nat → Int32), 1 ≤ b → b ≤ mo + 1 → mo + 1 - b < k → fC I I2 → I2 3 = I 3 → (∀ j, 1 ≤ j → j < b → (m_tm F (nI j) (2 ^ n)).2 < I 39 2 + m_st c (I 6) a) → Ev lyC (d + 6) hX8_smallest 16 [some (.ref 22), some (.ref 39), some (.ref p), some (.int (nI mo)), some (.int (nI b)), z] [] (I2, J, R) (fun r M' => ∃ I3 J3, M' = (I3, J3, R) ∧ fC I I3 ∧ k_sm (fun j => m_tm F (nI j) (2 ^ n)) (I 39 2 + m_st c (I 6) a) mo I J r I3 J3) := by
    intro k
    induction k with
    | zero => intro b  z I2  h0 h1 h2; omega
    | succ k ih =>
      intro b  z I2  hb1 hb hk  hs2 h3 hall
      refine ev_st dX8_smallest_16 rfl rfl ?_
      refine ev_st dX8_smallest_18 rfl rfl ?_
      refine ev_ic_gtN (t := 68) (a := b) (b := mo) dX8_smallest_19 (by decide) rfl rfl (by omega) (by omega) (fun c_19 => ?_) (fun c_19 => ?_)
      · refine ev_bipush (v := -2) dX8_smallest_68 (by decide) ?_
        exact ev_iret dX8_smallest_70 rfl (⟨_, _, rfl, hs2, Or.inr ⟨fun j h1 h2 => hall j h1 (by omega), rfl, h3, rfl⟩⟩)
      · refine ev_st dX8_smallest_22 rfl rfl ?_
        refine ev_st dX8_smallest_23 rfl rfl ?_
        refine ev_st dX8_smallest_24 rfl rfl ?_
        refine ev_st dX8_smallest_25 rfl rfl ?_
        refine ev_call dX8_smallest_27 rfl rfl mr_8_38 rfl rfl rfl (Cal.mono (by omega) (k_sof (I2 := I2) (J := J) hn hn8 hF hs2 (nI b))) ?_
        rintro _ _ ⟨rfl, I3, rfl, hs3, e3, e22⟩
        show Ev lyC (d + 6) hX8_smallest 30 [some (.ref 22), some (.ref 39), some (.ref p), some (.int (nI mo)), some (.int (nI b)), z] [.int ((m_tm F (nI b) (2 ^ n)).1)] (I3, J, R) _
        refine ev_st (L' := [some (.ref 22), some (.ref 39), some (.ref p), some (.int (nI mo)), some (.int (nI b)), some (.int ((m_tm F (nI b) (2 ^ n)).1))]) dX8_smallest_30 rfl rfl ?_
        refine ev_st dX8_smallest_32 rfl rfl ?_
        refine ev_getI (v := (m_tm F (nI b) (2 ^ n)).2) dX8_smallest_33 fr_8_48 rfl rfl e22 ?_
        refine ev_st dX8_smallest_36 rfl rfl ?_
        refine ev_st dX8_smallest_37 rfl rfl ?_
        refine ev_call dX8_smallest_38 rfl rfl mr_8_71 rfl rfl rfl (k_nh (I2 := I3) (J := J) hc hc12 ha ha12 hs3) ?_
        rintro _ _ ⟨rfl, rfl⟩
        show Ev lyC (d + 6) hX8_smallest 41 [some (.ref 22), some (.ref 39), some (.ref p), some (.int (nI mo)), some (.int (nI b)), some (.int ((m_tm F (nI b) (2 ^ n)).1))] [.int (I 39 2 + m_st c (I 6) a), .int ((m_tm F (nI b) (2 ^ n)).2)] (I3, J, R) _
        refine ev_ic_lt (t := 62) (x := (m_tm F (nI b) (2 ^ n)).2) (y := I 39 2 + m_st c (I 6) a) dX8_smallest_41 (by decide) (fun c_41 => ?_) (fun c_41 => ?_)
        · refine ev_iincN (a := b) (b := b + 1) (L' := [some (.ref 22), some (.ref 39), some (.ref p), some (.int (nI mo)), some (.int (nI (b + 1))), some (.int ((m_tm F (nI b) (2 ^ n)).1))]) dX8_smallest_62 rfl (nI_1 _) rfl ?_
          refine ev_goto (t := 16) dX8_smallest_65 (by decide) ?_
          exact ih _ _ _ (by omega) (by omega) (by omega) hs3 (e3.trans h3) (all_1 hall c_41)
        · refine ev_st dX8_smallest_44 rfl rfl ?_
          refine ev_getC dX8_smallest_45 fr_8_19 rfl rfl ?_
          refine ev_st dX8_smallest_48 rfl rfl ?_
          refine ev_st dX8_smallest_50 rfl rfl ?_
          refine ev_st dX8_smallest_51 rfl rfl ?_
          refine ev_getI (v := (m_tm F (nI b) (2 ^ n)).2) dX8_smallest_52 fr_8_48 rfl rfl e22 ?_
          refine ev_st dX8_smallest_55 rfl rfl ?_
          refine ev_call dX8_smallest_56 rfl rfl mr_8_75 rfl rfl rfl (k_tell2 (((m_tm F (nI b) (2 ^ n)).1).toInt64) (((m_tm F (nI b) (2 ^ n)).2).toInt64)) ?_
          rintro _ _ ⟨rfl, rfl⟩
          show Ev lyC (d + 6) hX8_smallest 59 [some (.ref 22), some (.ref 39), some (.ref p), some (.int (nI mo)), some (.int (nI b)), some (.int ((m_tm F (nI b) (2 ^ n)).1))] [] (ti_wr I3 3 1 (nI 2), ti_wl (ti_wl J 4 0 (((m_tm F (nI b) (2 ^ n)).1).toInt64)) 4 1 (((m_tm F (nI b) (2 ^ n)).2).toInt64), R) _
          refine ev_st dX8_smallest_59 rfl rfl ?_
          exact ev_iret dX8_smallest_61 rfl (⟨_, _, rfl, (hs3.w (p := 3) (k := 1) rfl _), Or.inl ⟨b, by omega, by omega, hall, c_41, rfl, tC2 rfl rfl rfl⟩⟩)
  show Ev lyC (d + 6) hX8_smallest 0 [some (.ref 22), some (.ref 39), some (.ref p), none, none, none] [] (I, J, R) _
  refine ev_st dX8_smallest_0 rfl rfl ?_
  refine ev_getC dX8_smallest_1 fr_8_15 rfl rfl ?_
  refine ev_getI (v := nI n) dX8_smallest_4 fr_8_51 rfl rfl hn ?_
  refine ev_bipush (v := 6) dX8_smallest_7 (by decide) ?_
  refine ev_min (v := nI mo) dX8_smallest_9 br_8_65 rfl (by rw [hmo]; exact min6 n hn8) ?_
  refine ev_st (L' := [some (.ref 22), some (.ref 39), some (.ref p), some (.int (nI mo)), none, none]) dX8_smallest_12 rfl rfl ?_
  refine ev_iconst (v := 1) dX8_smallest_13 (by decide) ?_
  refine ev_st (L' := [some (.ref 22), some (.ref 39), some (.ref p), some (.int (nI mo)), some (.int 1), none]) dX8_smallest_14 rfl rfl ?_
  exact loop (mo + 1 + 1) 1  _ _ (by omega) (by omega) (by omega)  fC.rf rfl (fun j h1 h2 => by omega)
def k_pr (F : Int32 → Int32) (nd x : Int32) : Nat → Int32
  | 0 => 0
  | b + 1 => if k_b x (nI b) = 0 then k_pr F nd x b else if F (x ^^^ ((1 : Int32) <<< (nI b &&& 31))) < nd then k_pr F nd x b ||| ((1 : Int32) <<< (nI b &&& 31)) else k_pr F nd x b
set_option maxHeartbeats 1000000 in
theorem k_needed {I : Nat → Nat → Int32} {J : Nat → Nat → Int64} {R : Nat → Nat → Value} {d n c a p : Nat} {F : Int32 → Int32} (hn : I 8 3 = nI n) (hn8 : n ≤ 8) (hc : I 5 2 = nI c) (hc12 : c ≤ 12) (ha : I 39 1 = nI a) (ha12 : a ≤ 12) (hF : kF I R d p F) : Cal lyC (d + 6) hX8_needed 5 [.ref 22, .ref 39, .ref p] (I, J, R) (fun r M' => r = some (.int (k_pr F (I 39 2 + m_st c (I 6) a) (I 39 3) n)) ∧ ∃ I3 J3, M' = (I3, J3, R) ∧ fC I I3 ∧ tC [(bc (k_pr F (I 39 2 + m_st c (I 6) a) (I 39 3) n)).toInt64] I3 J3) := by
  have loop : ∀ (k b : Nat) (m : Int32) (I2 : Nat → Nat → Int32), b ≤ n → n - b < k → m = k_pr F (I 39 2 + m_st c (I 6) a) (I 39 3) b → fC I I2 → Ev lyC (d + 6) hX8_needed 5 [some (.ref 22), some (.ref 39), some (.ref p), some (.int m), some (.int (nI b))] [] (I2, J, R) (fun r M' => r = some (.int (k_pr F (I 39 2 + m_st c (I 6) a) (I 39 3) n)) ∧ ∃ I3 J3, M' = (I3, J3, R) ∧ fC I I3 ∧ tC [(bc (k_pr F (I 39 2 + m_st c (I 6) a) (I 39 3) n)).toInt64] I3 J3) := by
    intro k
    induction k with
    | zero => intro b m  I2  h1 h2; omega
    | succ k ih =>
      intro b m  I2  hb hk hm hs2 
      refine ev_st dX8_needed_5 rfl rfl ?_
      refine ev_st dX8_needed_7 rfl rfl ?_
      refine ev_getC dX8_needed_8 fr_8_15 rfl rfl ?_
      refine ev_getI (v := nI n) dX8_needed_11 fr_8_51 rfl rfl ((congrFun (hs2.r 8 rfl) 3).trans hn) ?_
      refine ev_ic_geN (t := 68) (a := b) (b := n) dX8_needed_14 (by decide) rfl rfl (by omega) (by omega) (fun c_14 => ?_) (fun c_14 => ?_)
      · refine ev_st dX8_needed_68 rfl rfl ?_
        refine ev_getC dX8_needed_69 fr_8_19 rfl rfl ?_
        refine ev_st dX8_needed_72 rfl rfl ?_
        refine ev_call dX8_needed_73 rfl rfl mr_8_56 rfl rfl rfl (c_bc m) ?_
        rintro _ _ ⟨rfl, rfl⟩
        show Ev lyC (d + 6) hX8_needed 76 [some (.ref 22), some (.ref 39), some (.ref p), some (.int m), some (.int (nI b))] [.int (bc m), .ref 3] (I2, J, R) _
        refine ev_st dX8_needed_76 rfl rfl ?_
        refine ev_call dX8_needed_77 rfl rfl mr_8_42 rfl rfl rfl (k_tell1 ((bc m).toInt64)) ?_
        rintro _ _ ⟨rfl, rfl⟩
        show Ev lyC (d + 6) hX8_needed 80 [some (.ref 22), some (.ref 39), some (.ref p), some (.int m), some (.int (nI b))] [] (ti_wr I2 3 1 (nI 1), ti_wl J 4 0 ((bc m).toInt64), R) _
        refine ev_st dX8_needed_80 rfl rfl ?_
        exact ev_iret dX8_needed_81 rfl (by subst hm; rw [show b = n by omega]; exact ⟨rfl, _, _, rfl, (hs2.w (p := 3) (k := 1) rfl _), tC1 rfl rfl⟩)
      · refine ev_st dX8_needed_17 rfl rfl ?_
        refine ev_getI (v := I 39 3) dX8_needed_18 fr_8_78 rfl rfl (congrFun (hs2.r 39 rfl) 3) ?_
        refine ev_st dX8_needed_21 rfl rfl ?_
        refine ev_st dX8_needed_23 rfl rfl ?_
        refine ev_iconst (v := 1) dX8_needed_24 (by decide) ?_
        refine ev_st dX8_needed_25 rfl rfl ?_
        refine ev_if_eq (t := 62) (x := ((I 39 3) >>> ((nI b) &&& 31)) &&& 1) dX8_needed_26 (by decide) (fun c_26 => ?_) (fun c_26 => ?_)
        · refine ev_iincN (a := b) (b := b + 1) (L' := [some (.ref 22), some (.ref 39), some (.ref p), some (.int m), some (.int (nI (b + 1)))]) dX8_needed_62 rfl (nI_1 _) rfl ?_
          refine ev_goto (t := 5) dX8_needed_65 (by decide) ?_
          exact ih _ _ _ (by omega) (by omega) (by simp only [k_pr, ← hm]; rw [if_pos (show k_b (I 39 3) (nI b) = 0 from c_26)]) hs2
        · refine ev_st dX8_needed_29 rfl rfl ?_
          refine ev_getC dX8_needed_30 fr_8_15 rfl rfl ?_
          refine ev_st dX8_needed_33 rfl rfl ?_
          refine ev_st dX8_needed_34 rfl rfl ?_
          refine ev_getI (v := I 39 3) dX8_needed_35 fr_8_78 rfl rfl (congrFun (hs2.r 39 rfl) 3) ?_
          refine ev_iconst (v := 1) dX8_needed_38 (by decide) ?_
          refine ev_st dX8_needed_39 rfl rfl ?_
          refine ev_st dX8_needed_41 rfl rfl ?_
          refine ev_st dX8_needed_42 rfl rfl ?_
          refine ev_st dX8_needed_43 rfl rfl ?_
          refine ev_call dX8_needed_44 rfl rfl mr_8_61 rfl rfl rfl (Cal.mono (by omega) (hF I2 J ((I 39 3) ^^^ ((1 : Int32) <<< ((nI b) &&& 31))) hs2)) ?_
          rintro _ _ ⟨rfl, I3, rfl, hs3, g3⟩
          show Ev lyC (d + 6) hX8_needed 47 [some (.ref 22), some (.ref 39), some (.ref p), some (.int m), some (.int (nI b))] [.int (F ((I 39 3) ^^^ ((1 : Int32) <<< ((nI b) &&& 31))))] (I3, J, R) _
          refine ev_st dX8_needed_47 rfl rfl ?_
          refine ev_st dX8_needed_48 rfl rfl ?_
          refine ev_call dX8_needed_49 rfl rfl mr_8_71 rfl rfl rfl (k_nh (I2 := I3) (J := J) hc hc12 ha ha12 hs3) ?_
          rintro _ _ ⟨rfl, rfl⟩
          show Ev lyC (d + 6) hX8_needed 52 [some (.ref 22), some (.ref 39), some (.ref p), some (.int m), some (.int (nI b))] [.int (I 39 2 + m_st c (I 6) a), .int (F ((I 39 3) ^^^ ((1 : Int32) <<< ((nI b) &&& 31))))] (I3, J, R) _
          refine ev_ic_ge (t := 62) (x := F ((I 39 3) ^^^ ((1 : Int32) <<< ((nI b) &&& 31)))) (y := I 39 2 + m_st c (I 6) a) dX8_needed_52 (by decide) (fun c_52 => ?_) (fun c_52 => ?_)
          · refine ev_iincN (a := b) (b := b + 1) (L' := [some (.ref 22), some (.ref 39), some (.ref p), some (.int m), some (.int (nI (b + 1)))]) dX8_needed_62 rfl (nI_1 _) rfl ?_
            refine ev_goto (t := 5) dX8_needed_65 (by decide) ?_
            exact ih _ _ _ (by omega) (by omega) (by simp only [k_pr, ← hm]; rw [if_neg (show ¬ k_b (I 39 3) (nI b) = 0 from c_26), if_neg c_52]) hs3
          · refine ev_st dX8_needed_55 rfl rfl ?_
            refine ev_iconst (v := 1) dX8_needed_56 (by decide) ?_
            refine ev_st dX8_needed_57 rfl rfl ?_
            refine ev_st dX8_needed_59 rfl rfl ?_
            refine ev_st dX8_needed_60 rfl rfl ?_
            refine ev_st (L' := [some (.ref 22), some (.ref 39), some (.ref p), some (.int (m ||| ((1 : Int32) <<< ((nI b) &&& 31)))), some (.int (nI b))]) dX8_needed_61 rfl rfl ?_
            refine ev_iincN (a := b) (b := b + 1) (L' := [some (.ref 22), some (.ref 39), some (.ref p), some (.int (m ||| ((1 : Int32) <<< ((nI b) &&& 31)))), some (.int (nI (b + 1)))]) dX8_needed_62 rfl (nI_1 _) rfl ?_
            refine ev_goto (t := 5) dX8_needed_65 (by decide) ?_
            exact ih _ _ _ (by omega) (by omega) (by simp only [k_pr, ← hm]; rw [if_neg (show ¬ k_b (I 39 3) (nI b) = 0 from c_26), if_pos c_52]) hs3
  show Ev lyC (d + 6) hX8_needed 0 [some (.ref 22), some (.ref 39), some (.ref p), none, none] [] (I, J, R) _
  refine ev_iconst (v := 0) dX8_needed_0 (by decide) ?_
  refine ev_st (L' := [some (.ref 22), some (.ref 39), some (.ref p), some (.int 0), none]) dX8_needed_1 rfl rfl ?_
  refine ev_iconst (v := 0) dX8_needed_2 (by decide) ?_
  refine ev_st (L' := [some (.ref 22), some (.ref 39), some (.ref p), some (.int 0), some (.int 0)]) dX8_needed_3 rfl rfl ?_
  exact loop (n + 1) 0 0  _ (by omega) (by omega) rfl fC.rf 
def k_ch1 (F : Int32 → Int32) (x : Int32) (a : Nat) (t : Int32 × Int32 × Int32) (b : Nat) : Int32 × Int32 × Int32 := if k_b x (nI a) = 1 then (if k_b x (nI b) = 0 then (if t.1 < F ((x ^^^ ((1 : Int32) <<< (nI a &&& 31))) ^^^ ((1 : Int32) <<< (nI b &&& 31))) then (F ((x ^^^ ((1 : Int32) <<< (nI a &&& 31))) ^^^ ((1 : Int32) <<< (nI b &&& 31))), nI a, nI b) else t) else t) else t
def k_chI (F : Int32 → Int32) (x : Int32) (a : Nat) (t : Int32 × Int32 × Int32) : Nat → Int32 × Int32 × Int32
  | 0 => t
  | b + 1 => k_ch1 F x a (k_chI F x a t b) b
def k_chO (F : Int32 → Int32) (x : Int32) (n : Nat) : Nat → Int32 × Int32 × Int32
  | 0 => (-2, -1, -1)
  | a + 1 => k_chI F x a (k_chO F x n a) n
def k_sl1 (h : Nat → Int32) (x : Int32) (a : Nat) (t : Int32 × Int32 × Int32) (b : Nat) : Int32 × Int32 × Int32 := if ((x >>> (nI a &&& 31)) &&& (x >>> (nI b &&& 31))) &&& 1 = 0 then t else if t.1 < m_ab (h a - h b) then (m_ab (h a - h b), nI a, nI b) else t
def k_slI (h : Nat → Int32) (x : Int32) (a : Nat) (t : Int32 × Int32 × Int32) : Nat → Int32 × Int32 × Int32
  | 0 => t
  | b + 1 => if b ≤ a then t else k_sl1 h x a (k_slI h x a t b) b
theorem k_slI_le {h : Nat → Int32} {x : Int32} {a : Nat} {t : Int32 × Int32 × Int32} : ∀ b, b ≤ a + 1 → k_slI h x a t b = t
  | 0, _ => rfl
  | b + 1, q => by simp only [k_slI, if_pos (by omega : b ≤ a)]
def k_slO (h : Nat → Int32) (x : Int32) (n : Nat) : Nat → Int32 × Int32 × Int32
  | 0 => (-2, -1, -1)
  | a + 1 => k_slI h x a (k_slO h x n a) n
/-- the row while the best is sought -/
def chR (I : Nat → Nat → Int32) (J : Nat → Nat → Int64) (t : Int32 × Int32 × Int32) (I2 : Nat → Nat → Int32) (J2 : Nat → Nat → Int64) : Prop := (t.1 = -2 → uC I J I2 J2) ∧ (¬ t.1 = -2 → tC [t.2.1.toInt64, t.2.2.toInt64] I2 J2)
theorem chR.s {I I2 I3 : Nat → Nat → Int32} {J J2 : Nat → Nat → Int64} {t : Int32 × Int32 × Int32} (h : chR I J t I2 J2) (e : I3 3 = I2 3) : chR I J t I3 J2 := ⟨fun q => ⟨e.trans (h.1 q).1, (h.1 q).2⟩, fun q => ⟨by rw [e]; exact (h.2 q).1, (h.2 q).2⟩⟩
theorem ab_ne (v : Int32) : ¬ m_ab v = -2 := by
  unfold m_ab
  split
  · next h => intro e; rw [e] at h; exact absurd h (by decide)
  · next h =>
    intro e
    have h2 : v = 2 := by
      have := congrArg (fun x => 0 - x) e
      simpa using this
    rw [h2] at h
    exact h (by decide)
set_option maxHeartbeats 1000000 in
theorem k_bestChange {I : Nat → Nat → Int32} {J : Nat → Nat → Int64} {R : Nat → Nat → Value} {d n p : Nat} {F : Int32 → Int32} (hn : I 8 3 = nI n) (hn8 : n ≤ 8) (hF : kF I R d p F) (hF0 : ∀ x, ¬ F x = -2) : Cal lyC (d + 6) hX8_bestChange 7 [.ref 22, .ref 39, .ref p] (I, J, R) (fun r M' => r = some (.int (k_chO F (I 39 3) n n).1) ∧ ∃ I3 J3, M' = (I3, J3, R) ∧ fC I I3 ∧ chR I J (k_chO F (I 39 3) n n) I3 J3) := by
  have loop : ∀ (k u : Nat) (m : Int32) (z5 z6 : Option Value) (I2 : Nat → Nat → Int32) (J2 : Nat → Nat → Int64), u ≤ n → n - u < k → m = (k_chO F (I 39 3) n u).1 → fC I I2 → chR I J (k_chO F (I 39 3) n u) I2 J2 → Ev lyC (d + 6) hX8_bestChange 6 [some (.ref 22), some (.ref 39), some (.ref p), some (.int m), some (.int (nI u)), z5, z6] [] (I2, J2, R) (fun r M' => r = some (.int (k_chO F (I 39 3) n n).1) ∧ ∃ I3 J3, M' = (I3, J3, R) ∧ fC I I3 ∧ chR I J (k_chO F (I 39 3) n n) I3 J3) := by
    intro k
    induction k with
    | zero => intro u m z5 z6 I2 J2 h1 h2; omega
    | succ k ih =>
      intro u m z5 z6 I2 J2 hu hk hm0 hs2 hq
      have inner : u < n → ∀ (k2 b : Nat) (m : Int32) (z6 : Option Value) (I2 : Nat → Nat → Int32) (J2 : Nat → Nat → Int64), 0 ≤ b → b ≤ n → n - b < k2 → m = (k_chI F (I 39 3) u (k_chO F (I 39 3) n u) b).1 → fC I I2 → chR I J (k_chI F (I 39 3) u (k_chO F (I 39 3) n u) b) I2 J2 → Ev lyC (d + 6) hX8_bestChange 21 [some (.ref 22), some (.ref 39), some (.ref p), some (.int m), some (.int (nI u)), some (.int (nI b)), z6] [] (I2, J2, R) (fun r M' => r = some (.int (k_chO F (I 39 3) n n).1) ∧ ∃ I3 J3, M' = (I3, J3, R) ∧ fC I I3 ∧ chR I J (k_chO F (I 39 3) n n) I3 J3) := by
        intro huc k2
        induction k2 with
        | zero => intro b m z6 I2 J2 h0 h1 h2; omega
        | succ k2 ih2 =>
          intro b m z6 I2 J2 hb0 hb hk2 hm hs2 hq
          refine ev_st dX8_bestChange_21 rfl rfl ?_
          refine ev_st dX8_bestChange_23 rfl rfl ?_
          refine ev_getC dX8_bestChange_24 fr_8_15 rfl rfl ?_
          refine ev_getI (v := nI n) dX8_bestChange_27 fr_8_51 rfl rfl ((congrFun (hs2.r 8 rfl) 3).trans hn) ?_
          refine ev_ic_geN (t := 111) (a := b) (b := n) dX8_bestChange_30 (by decide) rfl rfl (by omega) (by omega) (fun c_30 => ?_) (fun c_30 => ?_)
          · refine ev_iincN (a := u) (b := u + 1) (L' := [some (.ref 22), some (.ref 39), some (.ref p), some (.int m), some (.int (nI (u + 1))), some (.int (nI b)), z6]) dX8_bestChange_111 rfl (nI_1 _) rfl ?_
            refine ev_goto (t := 6) dX8_bestChange_114 (by decide) ?_
            rw [show b = n by omega] at hm hq
            exact ih _ _ _ _ _ _ (by omega) (by omega) hm hs2 hq
          · refine ev_st dX8_bestChange_33 rfl rfl ?_
            refine ev_getI (v := I 39 3) dX8_bestChange_34 fr_8_78 rfl rfl (congrFun (hs2.r 39 rfl) 3) ?_
            refine ev_st dX8_bestChange_37 rfl rfl ?_
            refine ev_st dX8_bestChange_39 rfl rfl ?_
            refine ev_iconst (v := 1) dX8_bestChange_40 (by decide) ?_
            refine ev_st dX8_bestChange_41 rfl rfl ?_
            refine ev_iconst (v := 1) dX8_bestChange_42 (by decide) ?_
            refine ev_ic_ne (t := 105) (x := ((I 39 3) >>> ((nI u) &&& 31)) &&& 1) (y := 1) dX8_bestChange_43 (by decide) (fun c_43 => ?_) (fun c_43 => ?_)
            · refine ev_iincN (a := b) (b := b + 1) (L' := [some (.ref 22), some (.ref 39), some (.ref p), some (.int m), some (.int (nI u)), some (.int (nI (b + 1))), z6]) dX8_bestChange_105 rfl (nI_1 _) rfl ?_
              refine ev_goto (t := 21) dX8_bestChange_108 (by decide) ?_
              have et : k_chI F (I 39 3) u (k_chO F (I 39 3) n u) (b + 1) = k_chI F (I 39 3) u (k_chO F (I 39 3) n u) b := by simp only [k_chI, k_ch1, ← hm, if_neg (show ¬ k_b (I 39 3) (nI u) = 1 from c_43)]
              exact ih2 _ _ _ _ _ (by omega) (by omega) (by omega) (by rw [et]; exact hm) hs2 (by rw [et]; exact chR.s hq rfl)
            · refine ev_st dX8_bestChange_46 rfl rfl ?_
              refine ev_getI (v := I 39 3) dX8_bestChange_47 fr_8_78 rfl rfl (congrFun (hs2.r 39 rfl) 3) ?_
              refine ev_st dX8_bestChange_50 rfl rfl ?_
              refine ev_st dX8_bestChange_52 rfl rfl ?_
              refine ev_iconst (v := 1) dX8_bestChange_53 (by decide) ?_
              refine ev_st dX8_bestChange_54 rfl rfl ?_
              refine ev_if_ne (t := 105) (x := ((I 39 3) >>> ((nI b) &&& 31)) &&& 1) dX8_bestChange_55 (by decide) (fun c_55 => ?_) (fun c_55 => ?_)
              · refine ev_iincN (a := b) (b := b + 1) (L' := [some (.ref 22), some (.ref 39), some (.ref p), some (.int m), some (.int (nI u)), some (.int (nI (b + 1))), z6]) dX8_bestChange_105 rfl (nI_1 _) rfl ?_
                refine ev_goto (t := 21) dX8_bestChange_108 (by decide) ?_
                have et : k_chI F (I 39 3) u (k_chO F (I 39 3) n u) (b + 1) = k_chI F (I 39 3) u (k_chO F (I 39 3) n u) b := by simp only [k_chI, k_ch1, ← hm, if_pos (show k_b (I 39 3) (nI u) = 1 from c_43), if_neg (show ¬ k_b (I 39 3) (nI b) = 0 from c_55)]
                exact ih2 _ _ _ _ _ (by omega) (by omega) (by omega) (by rw [et]; exact hm) hs2 (by rw [et]; exact chR.s hq rfl)
              · refine ev_st dX8_bestChange_58 rfl rfl ?_
                refine ev_getC dX8_bestChange_59 fr_8_15 rfl rfl ?_
                refine ev_st dX8_bestChange_62 rfl rfl ?_
                refine ev_st dX8_bestChange_63 rfl rfl ?_
                refine ev_getI (v := I 39 3) dX8_bestChange_64 fr_8_78 rfl rfl (congrFun (hs2.r 39 rfl) 3) ?_
                refine ev_iconst (v := 1) dX8_bestChange_67 (by decide) ?_
                refine ev_st dX8_bestChange_68 rfl rfl ?_
                refine ev_st dX8_bestChange_70 rfl rfl ?_
                refine ev_st dX8_bestChange_71 rfl rfl ?_
                refine ev_iconst (v := 1) dX8_bestChange_72 (by decide) ?_
                refine ev_st dX8_bestChange_73 rfl rfl ?_
                refine ev_st dX8_bestChange_75 rfl rfl ?_
                refine ev_st dX8_bestChange_76 rfl rfl ?_
                refine ev_st dX8_bestChange_77 rfl rfl ?_
                refine ev_call dX8_bestChange_78 rfl rfl mr_8_61 rfl rfl rfl (Cal.mono (by omega) (hF I2 J2 (((I 39 3) ^^^ ((1 : Int32) <<< ((nI u) &&& 31))) ^^^ ((1 : Int32) <<< ((nI b) &&& 31))) hs2)) ?_
                rintro _ _ ⟨rfl, I3, rfl, hs3, g3⟩
                show Ev lyC (d + 6) hX8_bestChange 81 [some (.ref 22), some (.ref 39), some (.ref p), some (.int m), some (.int (nI u)), some (.int (nI b)), z6] [.int (F (((I 39 3) ^^^ ((1 : Int32) <<< ((nI u) &&& 31))) ^^^ ((1 : Int32) <<< ((nI b) &&& 31))))] (I3, J2, R) _
                refine ev_st (L' := [some (.ref 22), some (.ref 39), some (.ref p), some (.int m), some (.int (nI u)), some (.int (nI b)), some (.int (F (((I 39 3) ^^^ ((1 : Int32) <<< ((nI u) &&& 31))) ^^^ ((1 : Int32) <<< ((nI b) &&& 31)))))]) dX8_bestChange_81 rfl rfl ?_
                refine ev_st dX8_bestChange_83 rfl rfl ?_
                refine ev_st dX8_bestChange_85 rfl rfl ?_
                refine ev_ic_le (t := 105) (x := F (((I 39 3) ^^^ ((1 : Int32) <<< ((nI u) &&& 31))) ^^^ ((1 : Int32) <<< ((nI b) &&& 31)))) (y := m) dX8_bestChange_86 (by decide) (fun c_86 => ?_) (fun c_86 => ?_)
                · refine ev_iincN (a := b) (b := b + 1) (L' := [some (.ref 22), some (.ref 39), some (.ref p), some (.int m), some (.int (nI u)), some (.int (nI (b + 1))), some (.int (F (((I 39 3) ^^^ ((1 : Int32) <<< ((nI u) &&& 31))) ^^^ ((1 : Int32) <<< ((nI b) &&& 31)))))]) dX8_bestChange_105 rfl (nI_1 _) rfl ?_
                  refine ev_goto (t := 21) dX8_bestChange_108 (by decide) ?_
                  have et : k_chI F (I 39 3) u (k_chO F (I 39 3) n u) (b + 1) = k_chI F (I 39 3) u (k_chO F (I 39 3) n u) b := by simp only [k_chI, k_ch1, ← hm, if_pos (show k_b (I 39 3) (nI u) = 1 from c_43), if_pos (show k_b (I 39 3) (nI b) = 0 from c_55), if_neg c_86]
                  exact ih2 _ _ _ _ _ (by omega) (by omega) (by omega) (by rw [et]; exact hm) hs3 (by rw [et]; exact chR.s hq (g3.r 3 rfl))
                · refine ev_st dX8_bestChange_89 rfl rfl ?_
                  refine ev_st (L' := [some (.ref 22), some (.ref 39), some (.ref p), some (.int (F (((I 39 3) ^^^ ((1 : Int32) <<< ((nI u) &&& 31))) ^^^ ((1 : Int32) <<< ((nI b) &&& 31))))), some (.int (nI u)), some (.int (nI b)), some (.int (F (((I 39 3) ^^^ ((1 : Int32) <<< ((nI u) &&& 31))) ^^^ ((1 : Int32) <<< ((nI b) &&& 31)))))]) dX8_bestChange_91 rfl rfl ?_
                  refine ev_st dX8_bestChange_92 rfl rfl ?_
                  refine ev_getC dX8_bestChange_93 fr_8_19 rfl rfl ?_
                  refine ev_st dX8_bestChange_96 rfl rfl ?_
                  refine ev_st dX8_bestChange_98 rfl rfl ?_
                  refine ev_st dX8_bestChange_99 rfl rfl ?_
                  refine ev_st dX8_bestChange_101 rfl rfl ?_
                  refine ev_call dX8_bestChange_102 rfl rfl mr_8_75 rfl rfl rfl (k_tell2 ((nI u).toInt64) ((nI b).toInt64)) ?_
                  rintro _ _ ⟨rfl, rfl⟩
                  show Ev lyC (d + 6) hX8_bestChange 105 [some (.ref 22), some (.ref 39), some (.ref p), some (.int (F (((I 39 3) ^^^ ((1 : Int32) <<< ((nI u) &&& 31))) ^^^ ((1 : Int32) <<< ((nI b) &&& 31))))), some (.int (nI u)), some (.int (nI b)), some (.int (F (((I 39 3) ^^^ ((1 : Int32) <<< ((nI u) &&& 31))) ^^^ ((1 : Int32) <<< ((nI b) &&& 31)))))] [] (ti_wr I3 3 1 (nI 2), ti_wl (ti_wl J2 4 0 ((nI u).toInt64)) 4 1 ((nI b).toInt64), R) _
                  refine ev_iincN (a := b) (b := b + 1) (L' := [some (.ref 22), some (.ref 39), some (.ref p), some (.int (F (((I 39 3) ^^^ ((1 : Int32) <<< ((nI u) &&& 31))) ^^^ ((1 : Int32) <<< ((nI b) &&& 31))))), some (.int (nI u)), some (.int (nI (b + 1))), some (.int (F (((I 39 3) ^^^ ((1 : Int32) <<< ((nI u) &&& 31))) ^^^ ((1 : Int32) <<< ((nI b) &&& 31)))))]) dX8_bestChange_105 rfl (nI_1 _) rfl ?_
                  refine ev_goto (t := 21) dX8_bestChange_108 (by decide) ?_
                  have et : k_chI F (I 39 3) u (k_chO F (I 39 3) n u) (b + 1) = (F ((I 39 3 ^^^ ((1 : Int32) <<< (nI u &&& 31))) ^^^ ((1 : Int32) <<< (nI b &&& 31))), nI u, nI b) := by simp only [k_chI, k_ch1, ← hm, if_pos (show k_b (I 39 3) (nI u) = 1 from c_43), if_pos (show k_b (I 39 3) (nI b) = 0 from c_55), if_pos c_86]
                  exact ih2 _ _ _ _ _ (by omega) (by omega) (by omega) (by rw [et]) (hs3.w (p := 3) (k := 1) rfl _) (by rw [et]; exact ⟨fun q => absurd q (hF0 _), fun _ => tC2 rfl rfl rfl⟩)
      refine ev_st dX8_bestChange_6 rfl rfl ?_
      refine ev_st dX8_bestChange_8 rfl rfl ?_
      refine ev_getC dX8_bestChange_9 fr_8_15 rfl rfl ?_
      refine ev_getI (v := nI n) dX8_bestChange_12 fr_8_51 rfl rfl ((congrFun (hs2.r 8 rfl) 3).trans hn) ?_
      refine ev_ic_geN (t := 117) (a := u) (b := n) dX8_bestChange_15 (by decide) rfl rfl (by omega) (by omega) (fun c_15 => ?_) (fun c_15 => ?_)
      · refine ev_st dX8_bestChange_117 rfl rfl ?_
        exact ev_iret dX8_bestChange_118 rfl (by rw [show u = n by omega] at hm0 hq; exact ⟨by rw [hm0], _, _, rfl, hs2, hq⟩)
      · refine ev_iconst (v := 0) dX8_bestChange_18 (by decide) ?_
        refine ev_st (L' := [some (.ref 22), some (.ref 39), some (.ref p), some (.int m), some (.int (nI u)), some (.int 0), z6]) dX8_bestChange_19 rfl rfl ?_
        exact inner c_15 (n + 1) 0 _ _ _ _ (by omega) (by omega) (by omega) (by rw [hm0, k_chI]) hs2 (by exact hq)
  show Ev lyC (d + 6) hX8_bestChange 0 [some (.ref 22), some (.ref 39), some (.ref p), none, none, none, none] [] (I, J, R) _
  refine ev_bipush (v := -2) dX8_bestChange_0 (by decide) ?_
  refine ev_st (L' := [some (.ref 22), some (.ref 39), some (.ref p), some (.int ((-2))), none, none, none]) dX8_bestChange_2 rfl rfl ?_
  refine ev_iconst (v := 0) dX8_bestChange_3 (by decide) ?_
  refine ev_st (L' := [some (.ref 22), some (.ref 39), some (.ref p), some (.int ((-2))), some (.int 0), none, none]) dX8_bestChange_4 rfl rfl ?_
  exact loop (n + 1) 0 (-2) _ _ _ _ (by omega) (by omega) rfl fC.rf ⟨fun _ => ⟨rfl, rfl⟩, fun q => absurd rfl q⟩
set_option maxHeartbeats 1000000 in
theorem k_mostUneven {I : Nat → Nat → Int32} {J : Nat → Nat → Int64} {R : Nat → Nat → Value} {d n : Nat} (hn : I 8 3 = nI n) (hn8 : n ≤ 8) : Cal lyC (d + 6) hX8_mostUneven 6 [.ref 22, .ref 39] (I, J, R) (fun r M' => r = some (.int (k_slO (I 10) (I 39 3) n n).1) ∧ ∃ I3 J3, M' = (I3, J3, R) ∧ fC I I3 ∧ chR I J (k_slO (I 10) (I 39 3) n n) I3 J3) := by
  have loop : ∀ (k u : Nat) (m : Int32) (z5 z6 : Option Value) (I2 : Nat → Nat → Int32) (J2 : Nat → Nat → Int64), u ≤ n → n - u < k → m = (k_slO (I 10) (I 39 3) n u).1 → fC I I2 → chR I J (k_slO (I 10) (I 39 3) n u) I2 J2 → Ev lyC (d + 6) hX8_mostUneven 5 [some (.ref 22), some (.ref 39), some (.int m), some (.int (nI u)), z5, z6] [] (I2, J2, R) (fun r M' => r = some (.int (k_slO (I 10) (I 39 3) n n).1) ∧ ∃ I3 J3, M' = (I3, J3, R) ∧ fC I I3 ∧ chR I J (k_slO (I 10) (I 39 3) n n) I3 J3) := by
    intro k
    induction k with
    | zero => intro u m z5 z6 I2 J2 h1 h2; omega
    | succ k ih =>
      intro u m z5 z6 I2 J2 hu hk hm0 hs2 hq
      have inner : u < n → ∀ (k2 b : Nat) (m : Int32) (z6 : Option Value) (I2 : Nat → Nat → Int32) (J2 : Nat → Nat → Int64), u + 1 ≤ b → b ≤ n → n - b < k2 → m = (k_slI (I 10) (I 39 3) u (k_slO (I 10) (I 39 3) n u) b).1 → fC I I2 → chR I J (k_slI (I 10) (I 39 3) u (k_slO (I 10) (I 39 3) n u) b) I2 J2 → Ev lyC (d + 6) hX8_mostUneven 21 [some (.ref 22), some (.ref 39), some (.int m), some (.int (nI u)), some (.int (nI b)), z6] [] (I2, J2, R) (fun r M' => r = some (.int (k_slO (I 10) (I 39 3) n n).1) ∧ ∃ I3 J3, M' = (I3, J3, R) ∧ fC I I3 ∧ chR I J (k_slO (I 10) (I 39 3) n n) I3 J3) := by
        intro huc k2
        induction k2 with
        | zero => intro b m z6 I2 J2 h0 h1 h2; omega
        | succ k2 ih2 =>
          intro b m z6 I2 J2 hb0 hb hk2 hm hs2 hq
          refine ev_st dX8_mostUneven_21 rfl rfl ?_
          refine ev_st dX8_mostUneven_23 rfl rfl ?_
          refine ev_getC dX8_mostUneven_24 fr_8_15 rfl rfl ?_
          refine ev_getI (v := nI n) dX8_mostUneven_27 fr_8_51 rfl rfl ((congrFun (hs2.r 8 rfl) 3).trans hn) ?_
          refine ev_ic_geN (t := 104) (a := b) (b := n) dX8_mostUneven_30 (by decide) rfl rfl (by omega) (by omega) (fun c_30 => ?_) (fun c_30 => ?_)
          · refine ev_iincN (a := u) (b := u + 1) (L' := [some (.ref 22), some (.ref 39), some (.int m), some (.int (nI (u + 1))), some (.int (nI b)), z6]) dX8_mostUneven_104 rfl (nI_1 _) rfl ?_
            refine ev_goto (t := 5) dX8_mostUneven_107 (by decide) ?_
            rw [show b = n by omega] at hm hq
            exact ih _ _ _ _ _ _ (by omega) (by omega) hm hs2 hq
          · refine ev_st dX8_mostUneven_33 rfl rfl ?_
            refine ev_getI (v := I 39 3) dX8_mostUneven_34 fr_8_78 rfl rfl (congrFun (hs2.r 39 rfl) 3) ?_
            refine ev_st dX8_mostUneven_37 rfl rfl ?_
            refine ev_st dX8_mostUneven_38 rfl rfl ?_
            refine ev_st dX8_mostUneven_39 rfl rfl ?_
            refine ev_getI (v := I 39 3) dX8_mostUneven_40 fr_8_78 rfl rfl (congrFun (hs2.r 39 rfl) 3) ?_
            refine ev_st dX8_mostUneven_43 rfl rfl ?_
            refine ev_st dX8_mostUneven_45 rfl rfl ?_
            refine ev_st dX8_mostUneven_46 rfl rfl ?_
            refine ev_iconst (v := 1) dX8_mostUneven_47 (by decide) ?_
            refine ev_st dX8_mostUneven_48 rfl rfl ?_
            refine ev_if_eq (t := 98) (x := (((I 39 3) >>> ((nI u) &&& 31)) &&& ((I 39 3) >>> ((nI b) &&& 31))) &&& 1) dX8_mostUneven_49 (by decide) (fun c_49 => ?_) (fun c_49 => ?_)
            · refine ev_iincN (a := b) (b := b + 1) (L' := [some (.ref 22), some (.ref 39), some (.int m), some (.int (nI u)), some (.int (nI (b + 1))), z6]) dX8_mostUneven_98 rfl (nI_1 _) rfl ?_
              refine ev_goto (t := 21) dX8_mostUneven_101 (by decide) ?_
              have et : k_slI (I 10) (I 39 3) u (k_slO (I 10) (I 39 3) n u) (b + 1) = k_slI (I 10) (I 39 3) u (k_slO (I 10) (I 39 3) n u) b := by simp only [k_slI, if_neg (by omega : ¬ b ≤ u), k_sl1, ← hm, if_pos c_49]
              exact ih2 _ _ _ _ _ (by omega) (by omega) (by omega) (by rw [et]; exact hm) hs2 (by rw [et]; exact chR.s hq rfl)
            · refine ev_st dX8_mostUneven_52 rfl rfl ?_
              refine ev_getC dX8_mostUneven_53 fr_8_15 rfl rfl ?_
              refine ev_getC dX8_mostUneven_56 fr_8_81 rfl rfl ?_
              refine ev_st dX8_mostUneven_59 rfl rfl ?_
              refine ev_iald (j := u) (v := I 10 u) dX8_mostUneven_60 rfl rfl (by omega) (by decide) (congrFun (hs2.r 10 rfl) u) ?_
              refine ev_st dX8_mostUneven_61 rfl rfl ?_
              refine ev_getC dX8_mostUneven_62 fr_8_15 rfl rfl ?_
              refine ev_getC dX8_mostUneven_65 fr_8_81 rfl rfl ?_
              refine ev_st dX8_mostUneven_68 rfl rfl ?_
              refine ev_iald (j := b) (v := I 10 b) dX8_mostUneven_70 rfl rfl (by omega) (by decide) (congrFun (hs2.r 10 rfl) b) ?_
              refine ev_st dX8_mostUneven_71 rfl rfl ?_
              refine ev_abs (v := m_ab (I 10 u - I 10 b)) dX8_mostUneven_72 br_8_85 rfl rfl ?_
              refine ev_st (L' := [some (.ref 22), some (.ref 39), some (.int m), some (.int (nI u)), some (.int (nI b)), some (.int (m_ab (I 10 u - I 10 b)))]) dX8_mostUneven_75 rfl rfl ?_
              refine ev_st dX8_mostUneven_77 rfl rfl ?_
              refine ev_st dX8_mostUneven_79 rfl rfl ?_
              refine ev_ic_le (t := 98) (x := m_ab (I 10 u - I 10 b)) (y := m) dX8_mostUneven_80 (by decide) (fun c_80 => ?_) (fun c_80 => ?_)
              · refine ev_iincN (a := b) (b := b + 1) (L' := [some (.ref 22), some (.ref 39), some (.int m), some (.int (nI u)), some (.int (nI (b + 1))), some (.int (m_ab (I 10 u - I 10 b)))]) dX8_mostUneven_98 rfl (nI_1 _) rfl ?_
                refine ev_goto (t := 21) dX8_mostUneven_101 (by decide) ?_
                have et : k_slI (I 10) (I 39 3) u (k_slO (I 10) (I 39 3) n u) (b + 1) = k_slI (I 10) (I 39 3) u (k_slO (I 10) (I 39 3) n u) b := by simp only [k_slI, if_neg (by omega : ¬ b ≤ u), k_sl1, ← hm, if_neg c_49, if_neg c_80]
                exact ih2 _ _ _ _ _ (by omega) (by omega) (by omega) (by rw [et]; exact hm) hs2 (by rw [et]; exact chR.s hq rfl)
              · refine ev_st dX8_mostUneven_83 rfl rfl ?_
                refine ev_st (L' := [some (.ref 22), some (.ref 39), some (.int (m_ab (I 10 u - I 10 b))), some (.int (nI u)), some (.int (nI b)), some (.int (m_ab (I 10 u - I 10 b)))]) dX8_mostUneven_85 rfl rfl ?_
                refine ev_st dX8_mostUneven_86 rfl rfl ?_
                refine ev_getC dX8_mostUneven_87 fr_8_19 rfl rfl ?_
                refine ev_st dX8_mostUneven_90 rfl rfl ?_
                refine ev_st dX8_mostUneven_91 rfl rfl ?_
                refine ev_st dX8_mostUneven_92 rfl rfl ?_
                refine ev_st dX8_mostUneven_94 rfl rfl ?_
                refine ev_call dX8_mostUneven_95 rfl rfl mr_8_75 rfl rfl rfl (k_tell2 ((nI u).toInt64) ((nI b).toInt64)) ?_
                rintro _ _ ⟨rfl, rfl⟩
                show Ev lyC (d + 6) hX8_mostUneven 98 [some (.ref 22), some (.ref 39), some (.int (m_ab (I 10 u - I 10 b))), some (.int (nI u)), some (.int (nI b)), some (.int (m_ab (I 10 u - I 10 b)))] [] (ti_wr I2 3 1 (nI 2), ti_wl (ti_wl J2 4 0 ((nI u).toInt64)) 4 1 ((nI b).toInt64), R) _
                refine ev_iincN (a := b) (b := b + 1) (L' := [some (.ref 22), some (.ref 39), some (.int (m_ab (I 10 u - I 10 b))), some (.int (nI u)), some (.int (nI (b + 1))), some (.int (m_ab (I 10 u - I 10 b)))]) dX8_mostUneven_98 rfl (nI_1 _) rfl ?_
                refine ev_goto (t := 21) dX8_mostUneven_101 (by decide) ?_
                have et : k_slI (I 10) (I 39 3) u (k_slO (I 10) (I 39 3) n u) (b + 1) = (m_ab (I 10 u - I 10 b), nI u, nI b) := by simp only [k_slI, if_neg (by omega : ¬ b ≤ u), k_sl1, ← hm, if_neg c_49, if_pos c_80]
                exact ih2 _ _ _ _ _ (by omega) (by omega) (by omega) (by rw [et]) (hs2.w (p := 3) (k := 1) rfl _) (by rw [et]; exact ⟨fun q => absurd q (ab_ne _), fun _ => tC2 rfl rfl rfl⟩)
      refine ev_st dX8_mostUneven_5 rfl rfl ?_
      refine ev_st dX8_mostUneven_6 rfl rfl ?_
      refine ev_getC dX8_mostUneven_7 fr_8_15 rfl rfl ?_
      refine ev_getI (v := nI n) dX8_mostUneven_10 fr_8_51 rfl rfl ((congrFun (hs2.r 8 rfl) 3).trans hn) ?_
      refine ev_ic_geN (t := 110) (a := u) (b := n) dX8_mostUneven_13 (by decide) rfl rfl (by omega) (by omega) (fun c_13 => ?_) (fun c_13 => ?_)
      · refine ev_st dX8_mostUneven_110 rfl rfl ?_
        exact ev_iret dX8_mostUneven_111 rfl (by rw [show u = n by omega] at hm0 hq; exact ⟨by rw [hm0], _, _, rfl, hs2, hq⟩)
      · refine ev_st dX8_mostUneven_16 rfl rfl ?_
        refine ev_iconst (v := 1) dX8_mostUneven_17 (by decide) ?_
        refine ev_iaddN (a := u) (b := 1) (c := u + 1) dX8_mostUneven_18 rfl rfl rfl ?_
        refine ev_st (L' := [some (.ref 22), some (.ref 39), some (.int m), some (.int (nI u)), some (.int (nI (u + 1))), z6]) dX8_mostUneven_19 rfl rfl ?_
        exact inner c_13 (n + 1) (u + 1) _ _ _ _ (by omega) (by omega) (by omega) (by rw [hm0, k_slI_le _ (by omega)]) hs2 (by rw [k_slI_le _ (by omega)]; exact hq)
  show Ev lyC (d + 6) hX8_mostUneven 0 [some (.ref 22), some (.ref 39), none, none, none, none] [] (I, J, R) _
  refine ev_bipush (v := -2) dX8_mostUneven_0 (by decide) ?_
  refine ev_st (L' := [some (.ref 22), some (.ref 39), some (.int ((-2))), none, none, none]) dX8_mostUneven_2 rfl rfl ?_
  refine ev_iconst (v := 0) dX8_mostUneven_3 (by decide) ?_
  refine ev_st (L' := [some (.ref 22), some (.ref 39), some (.int ((-2))), some (.int 0), none, none]) dX8_mostUneven_4 rfl rfl ?_
  exact loop (n + 1) 0 (-2) _ _ _ _ (by omega) (by omega) rfl fC.rf ⟨fun _ => ⟨rfl, rfl⟩, fun q => absurd rfl q⟩
