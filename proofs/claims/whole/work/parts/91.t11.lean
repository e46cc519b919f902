/-! texts: sayings, by the class -/
/-- who knows, letters rising: with at most f letters, from l on -/
def kn (t : Nat → Nat) (E : Nat) : Nat → Nat → PS → Int32 → Int32 × PS
  | 0, _, s, c => (c, s)
  | f + 1, l, s, c => if s.1 = true ∧ s.2 < E ∧ 97 + l ≤ t s.2 ∧ t s.2 ≤ 100 then kn t E f (t s.2 - 97 + 1) (true, s.2 + 1) (c ||| ((1 : Int32) <<< (nI (t s.2 - 97) &&& 31))) else (c, s)
theorem kn_s {t : Nat → Nat} {E f l : Nat} {s : PS} {c : Int32} (h : s.1 = true ∧ s.2 < E ∧ 97 + l ≤ t s.2 ∧ t s.2 ≤ 100) : kn t E (f + 1) l s c = kn t E f (t s.2 - 97 + 1) (true, s.2 + 1) (c ||| ((1 : Int32) <<< (nI (t s.2 - 97) &&& 31))) := by rw [kn, if_pos h]
theorem kn_n {t : Nat → Nat} {E f l : Nat} {s : PS} {c : Int32} (h : ¬ (s.1 = true ∧ s.2 < E ∧ 97 + l ≤ t s.2 ∧ t s.2 ≤ 100)) : kn t E (f + 1) l s c = (c, s) := by rw [kn, if_neg h]
theorem sev_iff {t : Nat → Nat} {E l : Nat} {s : PS} (hl : l ≤ 4) (ht : ∀ k, k < E → t k < 256) : sSev t E l s = if s.1 = true ∧ s.2 < E ∧ 97 + l ≤ t s.2 ∧ t s.2 ≤ 100 then (nI (t s.2 - 97), (true, s.2 + 1)) else (-1, s) := by
  unfold sSev
  by_cases h1 : pk t E s - 97 < nI l
  · rw [if_pos h1, if_neg]
    rintro ⟨q1, q2, q3, q4⟩
    unfold pk at h1
    rw [if_pos q1, if_pos q2, show (97 : Int32) = nI 97 from rfl, pk_sub (by omega), nI_ltI (by omega) (by omega)] at h1
    omega
  · rw [if_neg h1]
    by_cases h2 : pk t E s - 97 < 4
    · obtain ⟨e1, e2, w, hw1, hw2, hw3, hw4⟩ := sev_ok hl ht h1 h2
      rw [if_pos h2, if_pos ⟨e1, e2, by omega, by omega⟩, hw4, show t s.2 - 97 = w by omega]
    · rw [if_neg h2, if_neg]
      rintro ⟨q1, q2, q3, q4⟩
      unfold pk at h2
      rw [if_pos q1, if_pos q2, show (97 : Int32) = nI 97 from rfl, pk_sub (by omega), show (4 : Int32) = nI 4 from rfl, nI_ltI (by omega) (by decide)] at h2
      omega
def yH (t : Nat → Nat) (E : Nat) (s : PS) : Nat := (sNum t E 2 1 20 s).1
def y1 (t : Nat → Nat) (E : Nat) (s : PS) : PS := (sNum t E 2 1 20 s).2
def yP (t : Nat → Nat) (E : Nat) (s : PS) : Bool := decide (pk t E (y1 t E s) = nI 43)
def y2 (t : Nat → Nat) (E : Nat) (s : PS) : PS := if pk t E (y1 t E s) = nI 43 then sPass t E 43 (y1 t E s) else sNeed t E 45 (y1 t E s)
def yHm (t : Nat → Nat) (E : Nat) (s : PS) : Nat := (sNum t E 1 0 9 (y2 t E s)).1
def y3 (t : Nat → Nat) (E : Nat) (s : PS) : PS := (sNum t E 1 0 9 (y2 t E s)).2
def yK (t : Nat → Nat) (E : Nat) (s : PS) : Int32 := (kn t E 5 0 (y3 t E s) 0).1
def yS (t : Nat → Nat) (E m i : Nat) (s : PS) : PS := if 8 ≤ m + i then (false, s.2) else (kn t E 5 0 (y3 t E s) 0).2
def gS (t : Nat → Nat) (E m : Nat) : Nat → PS
  | 0 => (true, 0)
  | i + 1 => sPass t E 59 (yS t E m i (gS t E m i))
def yEnd (t : Nat → Nat) (E m n : Nat) : Prop := ¬ more t E (yS t E m n (gS t E m n)) ∧ ∀ j, j < n → more t E (yS t E m j (gS t E m j))
theorem yEnd_u {t : Nat → Nat} {E m n k : Nat} (h : yEnd t E m n) (g : yEnd t E m k) : n = k := by
  rcases (by omega : n < k ∨ n = k ∨ k < n) with q | q | q
  · exact absurd (g.2 n q) h.1
  · exact q
  · exact absurd (h.2 k q) g.1
theorem ymore_m {t : Nat → Nat} {E m i : Nat} {s : PS} (h : more t E (yS t E m i s)) : m + i < 8 := by
  have := (more_f h).1
  unfold yS at this
  split at this
  · cases this
  · omega
theorem yEnd_9 {t : Nat → Nat} {E m n : Nat} (h : yEnd t E m n) : n ≤ 8 := by
  by_cases q : n = 0
  · omega
  · have := ymore_m (h.2 (n - 1) (by omega)); omega
theorem yEnd_8 {t : Nat → Nat} {E m n : Nat} (h : yEnd t E m n) (hok : (yS t E m n (gS t E m n)).1 = true) : m + n < 8 := by
  unfold yS at hok
  split at hok
  · cases hok
  · omega
def tset (v j : Nat) (p : Bool) : Nat := (v - v / 2 ^ j % 2 * 2 ^ j) + (if p = true then 2 ^ j else 0)
theorem tt_clr : ∀ v, v < 256 → ∀ j, j < 8 → nI v &&& (((1 : Int32) <<< (nI j &&& 31)) ^^^ (-1)) = nI (tset v j false) ∧ tset v j false < 256 := by decide +kernel
theorem tt_set : ∀ v, v < 256 → ∀ j, j < 8 → (nI (tset v j false)) ||| ((1 : Int32) <<< (nI j &&& 31)) = nI (tset v j true) ∧ tset v j true < 256 := by decide +kernel
theorem tt_bit : ∀ v, v < 256 → ∀ j, j < 8 → ∀ k, k < 8 → tset v j false / 2 ^ k % 2 = (if k = j then 0 else v / 2 ^ k % 2) ∧ tset v j true / 2 ^ k % 2 = (if k = j then 1 else v / 2 ^ k % 2) := by decide +kernel
set_option maxHeartbeats 1000000 in
theorem k_readKnowers {I : Nat → Nat → Int32} {J : Nat → Nat → Int64} {R : Nat → Nat → Value} {t : Nat → Nat} {d E N : Nat} {s : PS} (hR : cR I t E N s) : Cal lyC (d + 2) hX6_readKnowers 4 [.ref 1] (I, J, R) (fun r M' => r = some (.int (kn t E 5 0 s 0).1) ∧ ∃ I3, M' = (I3, J, R) ∧ xC I I3 ∧ cR I3 t E N (kn t E 5 0 s 0).2) := by
  have fin : ∀ (b : Nat) (c : Int32) (s2 : PS) (I2 : Nat → Nat → Int32), b ≤ 4 → xC I I2 → cR I2 t E N s2 → (c, s2) = kn t E 5 0 s 0 → Ev lyC (d + 2) hX6_readKnowers 10 [some (.ref 1), some (.int c), some (.int ((-1))), some (.int (nI b))] [] (I2, J, R) (fun r M' => r = some (.int (kn t E 5 0 s 0).1) ∧ ∃ I3, M' = (I3, J, R) ∧ xC I I3 ∧ cR I3 t E N (kn t E 5 0 s 0).2) := by
    intro b c s2 I2 hb hx2 hR2 hT
    refine ev_st dX6_readKnowers_10 rfl rfl ?_
    refine ev_iconst (v := 4) dX6_readKnowers_11 (by decide) ?_
    refine ev_ic_geN (t := 39) (a := b) (b := 4) dX6_readKnowers_12 (by decide) rfl rfl (by omega) (by omega) (fun c_12 => ?_) (fun c_12 => ?_)
    · refine ev_st dX6_readKnowers_39 rfl rfl ?_
      exact ev_iret dX6_readKnowers_40 rfl (⟨by rw [← hT], _, rfl, hx2, by rw [← hT]; exact hR2⟩)
    · refine ev_st dX6_readKnowers_15 rfl rfl ?_
      refine ev_if_lt (t := 39) dX6_readKnowers_16 (by decide) (fun _ => ?_) (fun q => absurd q (by decide))
      refine ev_st dX6_readKnowers_39 rfl rfl ?_
      exact ev_iret dX6_readKnowers_40 rfl (⟨by rw [← hT], _, rfl, hx2, by rw [← hT]; exact hR2⟩)
  have loop : ∀ (k b : Nat) (c : Int32) (w : Nat) (s2 : PS) (I2 : Nat → Nat → Int32), w < 4 → b ≤ w → 4 - b < k → xC I I2 → cR I2 t E N s2 → kn t E (4 - b) (w + 1) s2 (c ||| ((1 : Int32) <<< (nI w &&& 31))) = kn t E 5 0 s 0 → Ev lyC (d + 2) hX6_readKnowers 10 [some (.ref 1), some (.int c), some (.int (nI w)), some (.int (nI b))] [] (I2, J, R) (fun r M' => r = some (.int (kn t E 5 0 s 0).1) ∧ ∃ I3, M' = (I3, J, R) ∧ xC I I3 ∧ cR I3 t E N (kn t E 5 0 s 0).2) := by
    intro k
    induction k with
    | zero => intro b c w s2 I2 h0 h1 h2; omega
    | succ k ih =>
      intro b c w s2 I2 hw4 hb hk hx2 hR2 hT
      refine ev_st dX6_readKnowers_10 rfl rfl ?_
      refine ev_iconst (v := 4) dX6_readKnowers_11 (by decide) ?_
      refine ev_ic_geN (t := 39) (a := b) (b := 4) dX6_readKnowers_12 (by decide) rfl rfl (by omega) (by omega) (fun c_12 => ?_) (fun c_12 => ?_)
      · omega
      · refine ev_st dX6_readKnowers_15 rfl rfl ?_
        refine ev_if_ltN (t := 39) (a := w) dX6_readKnowers_16 (by decide) rfl (by omega) ?_
        refine ev_st dX6_readKnowers_19 rfl rfl ?_
        refine ev_iconst (v := 1) dX6_readKnowers_20 (by decide) ?_
        refine ev_st dX6_readKnowers_21 rfl rfl ?_
        refine ev_st dX6_readKnowers_22 rfl rfl ?_
        refine ev_st dX6_readKnowers_23 rfl rfl ?_
        refine ev_st (L' := [some (.ref 1), some (.int (c ||| ((1 : Int32) <<< ((nI w) &&& 31)))), some (.int (nI w)), some (.int (nI b))]) dX6_readKnowers_24 rfl rfl ?_
        refine ev_st dX6_readKnowers_25 rfl rfl ?_
        refine ev_st dX6_readKnowers_26 rfl rfl ?_
        refine ev_iconst (v := 1) dX6_readKnowers_27 (by decide) ?_
        refine ev_iaddN (a := w) (b := 1) (c := w + 1) dX6_readKnowers_28 rfl rfl rfl ?_
        refine ev_call dX6_readKnowers_29 rfl rfl mr_6_66 rfl rfl rfl (k_passSeventh (l := w + 1) hR2 (by omega)) ?_
        rintro _ _ ⟨rfl, I3, rfl, hx3, hR3⟩
        show Ev lyC (d + 2) hX6_readKnowers 32 [some (.ref 1), some (.int (c ||| ((1 : Int32) <<< ((nI w) &&& 31)))), some (.int (nI w)), some (.int (nI b))] [.int ((sSev t E (w + 1) s2).1)] (I3, J, R) _
        refine ev_st (L' := [some (.ref 1), some (.int (c ||| ((1 : Int32) <<< ((nI w) &&& 31)))), some (.int ((sSev t E (w + 1) s2).1)), some (.int (nI b))]) dX6_readKnowers_32 rfl rfl ?_
        refine ev_iincN (a := b) (b := b + 1) (L' := [some (.ref 1), some (.int (c ||| ((1 : Int32) <<< ((nI w) &&& 31)))), some (.int ((sSev t E (w + 1) s2).1)), some (.int (nI (b + 1)))]) dX6_readKnowers_33 rfl (nI_1 _) rfl ?_
        refine ev_goto (t := 10) dX6_readKnowers_36 (by decide) ?_
        rw [sev_iff (by omega) hR2.t] at hR3 ⊢
        by_cases q : s2.1 = true ∧ s2.2 < E ∧ 97 + (w + 1) ≤ t s2.2 ∧ t s2.2 ≤ 100
        · rw [if_pos q] at hR3 ⊢
          exact ih _ _ _ _ _ (by omega) (by omega) (by omega) (hx2.tr hx3) hR3 (by rw [← hT, show 4 - b = (4 - (b + 1)) + 1 by omega, kn_s q])
        · rw [if_neg q] at hR3 ⊢
          exact fin _ _ _ _ (by omega) (hx2.tr hx3) hR3 (by rw [← hT, show 4 - b = (4 - (b + 1)) + 1 by omega, kn_n q])
  show Ev lyC (d + 2) hX6_readKnowers 0 [some (.ref 1), none, none, none] [] (I, J, R) _
  refine ev_iconst (v := 0) dX6_readKnowers_0 (by decide) ?_
  refine ev_st (L' := [some (.ref 1), some (.int 0), none, none]) dX6_readKnowers_1 rfl rfl ?_
  refine ev_st dX6_readKnowers_2 rfl rfl ?_
  refine ev_iconst (v := 0) dX6_readKnowers_3 (by decide) ?_
  refine ev_call dX6_readKnowers_4 rfl rfl mr_6_66 rfl rfl rfl (k_passSeventh (l := 0) hR (by decide)) ?_
  rintro _ _ ⟨rfl, I2, rfl, hx2, hR2⟩
  show Ev lyC (d + 2) hX6_readKnowers 7 [some (.ref 1), some (.int 0), none, none] [.int ((sSev t E 0 s).1)] (I2, J, R) _
  refine ev_st (L' := [some (.ref 1), some (.int 0), some (.int ((sSev t E 0 s).1)), none]) dX6_readKnowers_7 rfl rfl ?_
  refine ev_iconst (v := 0) dX6_readKnowers_8 (by decide) ?_
  refine ev_st (L' := [some (.ref 1), some (.int 0), some (.int ((sSev t E 0 s).1)), some (.int 0)]) dX6_readKnowers_9 rfl rfl ?_
  rw [sev_iff (by decide) hR.t] at hR2 ⊢
  by_cases q : s.1 = true ∧ s.2 < E ∧ 97 + 0 ≤ t s.2 ∧ t s.2 ≤ 100
  · rw [if_pos q] at hR2 ⊢
    exact loop 5 0 0 (t s.2 - 97) (true, s.2 + 1) I2 (by omega) (by omega) (by omega) hx2 hR2 (kn_s (f := 4) q).symm
  · rw [if_neg q] at hR2 ⊢
    exact fin 0 0 s I2 (by omega) hx2 hR2 (kn_n (f := 4) q).symm
theorem ev_iandN {lay : List TE} {d pc c : Nat} {h : TH} {L : TL} {st : List Value} {M : TM} {Q : Option Value → TM → Prop} {x y : Int32} (hd : decode h.2.1 pc = .ok (.iand, 1)) (hx : x &&& y = nI c) (kk : Ev lay d h (pc + 1) L (.int (nI c) :: st) M Q) : Ev lay d h pc L (.int y :: .int x :: st) M Q := by
  rw [← hx] at kk
  exact ev_st hd rfl rfl kk
theorem ev_iorN {lay : List TE} {d pc c : Nat} {h : TH} {L : TL} {st : List Value} {M : TM} {Q : Option Value → TM → Prop} {x y : Int32} (hd : decode h.2.1 pc = .ok (.ior, 1)) (hx : x ||| y = nI c) (kk : Ev lay d h (pc + 1) L (.int (nI c) :: st) M Q) : Ev lay d h pc L (.int y :: .int x :: st) M Q := by
  rw [← hx] at kk
  exact ev_st hd rfl rfl kk
set_option maxHeartbeats 1000000 in
theorem k_readSay {I : Nat → Nat → Int32} {J : Nat → Nat → Int64} {R : Nat → Nat → Value} {t : Nat → Nat} {d E N j v : Nat} {s : PS} (hR : cR I t E N s) (hj : j ≤ 16) (htr : I 11 3 = nI v) (hv : v < 256) : Cal lyC (d + 3) hX6_readLine 3 [.ref 11, .ref 1, .int (nI j)] (I, J, R) (fun r M' => r = none ∧ ∃ I3, M' = (I3, J, R) ∧ (∀ p, p ≠ 1 → p ≠ 11 → p ≠ 12 → p ≠ 13 → p ≠ 14 → I3 p = I p) ∧ I3 11 4 = I 11 4 ∧ (∀ k, k ≠ j → I3 12 k = I 12 k ∧ I3 13 k = I 13 k ∧ I3 14 k = I 14 k) ∧ (8 ≤ j → I3 11 = I 11) ∧ (j < 8 → I3 12 j = nI (yH t E s) ∧ I3 13 j = nI (yHm t E s) ∧ I3 14 j = yK t E s ∧ I3 11 3 = nI (tset v j (yP t E s))) ∧ cR I3 t E N (yS t E j 0 s)) := by
  show Ev lyC (d + 3) hX6_readLine 0 [some (.ref 11), some (.ref 1), some (.int (nI j))] [] (I, J, R) _
  refine ev_st dX6_readLine_0 rfl rfl ?_
  refine ev_bipush (v := 8) dX6_readLine_1 (by decide) ?_
  refine ev_ic_ltN (t := 11) (a := j) (b := 8) dX6_readLine_3 (by decide) rfl rfl (by omega) (by omega) (fun c_3 => ?_) (fun c_3 => ?_)
  · refine ev_st dX6_readLine_11 rfl rfl ?_
    refine ev_getC dX6_readLine_12 fr_6_9 rfl rfl ?_
    refine ev_st dX6_readLine_15 rfl rfl ?_
    refine ev_st dX6_readLine_16 rfl rfl ?_
    refine ev_iconst (v := 2) dX6_readLine_17 (by decide) ?_
    refine ev_iconst (v := 1) dX6_readLine_18 (by decide) ?_
    refine ev_bipush (v := 20) dX6_readLine_19 (by decide) ?_
    refine ev_call dX6_readLine_21 rfl rfl mr_6_56 rfl rfl rfl (k_rn (m := 2) (lo := 1) (hi := 20) hR (by decide) (by decide) (by decide) (by decide)) ?_
    rintro _ _ ⟨rfl, I2, rfl, hx2, hR2⟩
    show Ev lyC (d + 3) hX6_readLine 24 [some (.ref 11), some (.ref 1), some (.int (nI j))] [.int (nI (yH t E s)), .int (nI j), .ref 12] (I2, J, R) _
    refine ev_iast (j := j) dX6_readLine_24 rfl rfl (by omega) (by decide) ?_
    refine ev_st dX6_readLine_25 rfl rfl ?_
    refine ev_st dX6_readLine_26 rfl rfl ?_
    refine ev_getI (v := nI v) dX6_readLine_27 fr_6_25 rfl rfl ((congrFun (hx2 11 (by decide)) 3).trans htr) ?_
    refine ev_iconst (v := 1) dX6_readLine_30 (by decide) ?_
    refine ev_st dX6_readLine_31 rfl rfl ?_
    refine ev_st dX6_readLine_32 rfl rfl ?_
    refine ev_iconst (v := -1) dX6_readLine_33 (by decide) ?_
    refine ev_st dX6_readLine_34 rfl rfl ?_
    refine ev_iandN (c := tset v j false) dX6_readLine_35 (tt_clr v hv j (by omega)).1 ?_
    refine ev_putI dX6_readLine_36 fr_6_25 rfl rfl ?_
    refine ev_st dX6_readLine_39 rfl rfl ?_
    refine ev_bipush (v := 43) dX6_readLine_40 (by decide) ?_
    refine ev_call dX6_readLine_42 rfl rfl mr_6_50 rfl rfl rfl (k_passes (s := y1 t E s) (c := 43) (cRn (p := 11) (by decide) (by decide) (cRn (p := 12) (by decide) (by decide) hR2)) (by decide)) ?_
    rintro _ _ ⟨rfl, I4, rfl, hx4, hR4⟩
    show Ev lyC (d + 3) hX6_readLine 45 [some (.ref 11), some (.ref 1), some (.int (nI j))] [.int (if pk t E (y1 t E s) = nI 43 then 1 else 0)] (I4, J, R) _
    refine ev_if_eq (t := 63) (x := if pk t E (y1 t E s) = nI 43 then 1 else 0) dX6_readLine_45 (by decide) (fun c_45 => ?_) (fun c_45 => ?_)
    · refine ev_st dX6_readLine_63 rfl rfl ?_
      refine ev_bipush (v := 45) dX6_readLine_64 (by decide) ?_
      refine ev_call dX6_readLine_66 rfl rfl mr_6_59 rfl rfl rfl (k_require (s := y1 t E s) (c := 45) (by have q := hR4; rw [sPass, if_neg (if01n c_45)] at q; exact q) (by decide)) ?_
      rintro _ _ ⟨rfl, I5, rfl, hx5, hR5⟩
      have hR5 : cR I5 t E N (y2 t E s) := by rw [y2, if_neg (if01n c_45)]; exact hR5
      show Ev lyC (d + 3) hX6_readLine 69 [some (.ref 11), some (.ref 1), some (.int (nI j))] [] (I5, J, R) _
      refine ev_st dX6_readLine_69 rfl rfl ?_
      refine ev_getC dX6_readLine_70 fr_6_15 rfl rfl ?_
      refine ev_st dX6_readLine_73 rfl rfl ?_
      refine ev_st dX6_readLine_74 rfl rfl ?_
      refine ev_iconst (v := 1) dX6_readLine_75 (by decide) ?_
      refine ev_iconst (v := 0) dX6_readLine_76 (by decide) ?_
      refine ev_bipush (v := 9) dX6_readLine_77 (by decide) ?_
      refine ev_call dX6_readLine_79 rfl rfl mr_6_56 rfl rfl rfl (k_rn (m := 1) (lo := 0) (hi := 9) (s := y2 t E s) hR5 (by decide) (by decide) (by decide) (by decide)) ?_
      rintro _ _ ⟨rfl, I6, rfl, hx6, hR6⟩
      show Ev lyC (d + 3) hX6_readLine 82 [some (.ref 11), some (.ref 1), some (.int (nI j))] [.int (nI (yHm t E s)), .int (nI j), .ref 13] (I6, J, R) _
      refine ev_iast (j := j) dX6_readLine_82 rfl rfl (by omega) (by decide) ?_
      refine ev_st dX6_readLine_83 rfl rfl ?_
      refine ev_getC dX6_readLine_84 fr_6_18 rfl rfl ?_
      refine ev_st dX6_readLine_87 rfl rfl ?_
      refine ev_st dX6_readLine_88 rfl rfl ?_
      refine ev_call dX6_readLine_89 rfl rfl mr_6_62 rfl rfl rfl (k_readKnowers (s := y3 t E s) (cRn (p := 13) (by decide) (by decide) hR6)) ?_
      rintro _ _ ⟨rfl, I7, rfl, hx7, hR7⟩
      show Ev lyC (d + 3) hX6_readLine 92 [some (.ref 11), some (.ref 1), some (.int (nI j))] [.int (yK t E s), .int (nI j), .ref 14] (I7, J, R) _
      refine ev_iast (j := j) dX6_readLine_92 rfl rfl (by omega) (by decide) ?_
      exact ev_vret dX6_readLine_93 rfl (⟨rfl, _, rfl, fun p a b c d e => by simp only [ti_wr_n e, ti_wr_n d, hx7 p a, hx6 p a, hx5 p a, ti_wr_n b, hx4 p a, ti_wr_n c, hx2 p a], by rw [ti_wr_n (by decide), hx7 11 (by decide), ti_wr_n (by decide), hx6 11 (by decide), hx5 11 (by decide), hx4 11 (by decide), wr_ne (by decide), ti_wr_n (by decide), hx2 11 (by decide)], fun k hk => ⟨by rw [ti_wr_n (by decide), hx7 12 (by decide), ti_wr_n (by decide), hx6 12 (by decide), hx5 12 (by decide), hx4 12 (by decide), ti_wr_n (by decide), wr_ne hk, hx2 12 (by decide)], by rw [ti_wr_n (by decide), hx7 13 (by decide), wr_ne hk, hx6 13 (by decide), hx5 13 (by decide), hx4 13 (by decide), ti_wr_n (by decide), ti_wr_n (by decide), hx2 13 (by decide)], by rw [wr_ne hk, hx7 14 (by decide), ti_wr_n (by decide), hx6 14 (by decide), hx5 14 (by decide), hx4 14 (by decide), ti_wr_n (by decide), ti_wr_n (by decide), hx2 14 (by decide)]⟩, fun q => absurd q (by omega), fun _ => ⟨by rw [ti_wr_n (by decide), hx7 12 (by decide), ti_wr_n (by decide), hx6 12 (by decide), hx5 12 (by decide), hx4 12 (by decide), ti_wr_n (by decide), ti_wr_at], by rw [ti_wr_n (by decide), hx7 13 (by decide), ti_wr_at], ti_wr_at, by rw [ti_wr_n (by decide), hx7 11 (by decide), ti_wr_n (by decide), hx6 11 (by decide), hx5 11 (by decide), hx4 11 (by decide), ti_wr_at, show yP t E s = false from decide_eq_false (if01n c_45)]⟩, by rw [yS, if_neg (by omega)]; exact cRn (by decide) (by decide) hR7⟩)
    · refine ev_st dX6_readLine_48 rfl rfl ?_
      refine ev_st dX6_readLine_49 rfl rfl ?_
      refine ev_getI (v := nI (tset v j false)) dX6_readLine_50 fr_6_25 rfl rfl (by rw [hx4 11 (by decide)]; rfl) ?_
      refine ev_iconst (v := 1) dX6_readLine_53 (by decide) ?_
      refine ev_st dX6_readLine_54 rfl rfl ?_
      refine ev_st dX6_readLine_55 rfl rfl ?_
      refine ev_iorN (c := tset v j true) dX6_readLine_56 (tt_set v hv j (by omega)).1 ?_
      refine ev_putI dX6_readLine_57 fr_6_25 rfl rfl ?_
      refine ev_goto (t := 69) dX6_readLine_60 (by decide) ?_
      have hR5 : cR (ti_wr I4 11 3 (nI (tset v j true))) t E N (y2 t E s) := by rw [y2, if_pos (if01 c_45)]; exact cRn (by decide) (by decide) hR4
      refine ev_st dX6_readLine_69 rfl rfl ?_
      refine ev_getC dX6_readLine_70 fr_6_15 rfl rfl ?_
      refine ev_st dX6_readLine_73 rfl rfl ?_
      refine ev_st dX6_readLine_74 rfl rfl ?_
      refine ev_iconst (v := 1) dX6_readLine_75 (by decide) ?_
      refine ev_iconst (v := 0) dX6_readLine_76 (by decide) ?_
      refine ev_bipush (v := 9) dX6_readLine_77 (by decide) ?_
      refine ev_call dX6_readLine_79 rfl rfl mr_6_56 rfl rfl rfl (k_rn (m := 1) (lo := 0) (hi := 9) (s := y2 t E s) hR5 (by decide) (by decide) (by decide) (by decide)) ?_
      rintro _ _ ⟨rfl, I6, rfl, hx6, hR6⟩
      show Ev lyC (d + 3) hX6_readLine 82 [some (.ref 11), some (.ref 1), some (.int (nI j))] [.int (nI (yHm t E s)), .int (nI j), .ref 13] (I6, J, R) _
      refine ev_iast (j := j) dX6_readLine_82 rfl rfl (by omega) (by decide) ?_
      refine ev_st dX6_readLine_83 rfl rfl ?_
      refine ev_getC dX6_readLine_84 fr_6_18 rfl rfl ?_
      refine ev_st dX6_readLine_87 rfl rfl ?_
      refine ev_st dX6_readLine_88 rfl rfl ?_
      refine ev_call dX6_readLine_89 rfl rfl mr_6_62 rfl rfl rfl (k_readKnowers (s := y3 t E s) (cRn (p := 13) (by decide) (by decide) hR6)) ?_
      rintro _ _ ⟨rfl, I7, rfl, hx7, hR7⟩
      show Ev lyC (d + 3) hX6_readLine 92 [some (.ref 11), some (.ref 1), some (.int (nI j))] [.int (yK t E s), .int (nI j), .ref 14] (I7, J, R) _
      refine ev_iast (j := j) dX6_readLine_92 rfl rfl (by omega) (by decide) ?_
      exact ev_vret dX6_readLine_93 rfl (⟨rfl, _, rfl, fun p a b c d e => by simp only [ti_wr_n e, ti_wr_n d, hx7 p a, hx6 p a, ti_wr_n b, hx4 p a, ti_wr_n c, hx2 p a], by rw [ti_wr_n (by decide), hx7 11 (by decide), ti_wr_n (by decide), hx6 11 (by decide), wr_ne (by decide), hx4 11 (by decide), wr_ne (by decide), ti_wr_n (by decide), hx2 11 (by decide)], fun k hk => ⟨by rw [ti_wr_n (by decide), hx7 12 (by decide), ti_wr_n (by decide), hx6 12 (by decide), ti_wr_n (by decide), hx4 12 (by decide), ti_wr_n (by decide), wr_ne hk, hx2 12 (by decide)], by rw [ti_wr_n (by decide), hx7 13 (by decide), wr_ne hk, hx6 13 (by decide), ti_wr_n (by decide), hx4 13 (by decide), ti_wr_n (by decide), ti_wr_n (by decide), hx2 13 (by decide)], by rw [wr_ne hk, hx7 14 (by decide), ti_wr_n (by decide), hx6 14 (by decide), ti_wr_n (by decide), hx4 14 (by decide), ti_wr_n (by decide), ti_wr_n (by decide), hx2 14 (by decide)]⟩, fun q => absurd q (by omega), fun _ => ⟨by rw [ti_wr_n (by decide), hx7 12 (by decide), ti_wr_n (by decide), hx6 12 (by decide), ti_wr_n (by decide), hx4 12 (by decide), ti_wr_n (by decide), ti_wr_at], by rw [ti_wr_n (by decide), hx7 13 (by decide), ti_wr_at], ti_wr_at, by rw [ti_wr_n (by decide), hx7 11 (by decide), ti_wr_n (by decide), hx6 11 (by decide), ti_wr_at, show yP t E s = true from decide_eq_true (if01 c_45)]⟩, by rw [yS, if_neg (by omega)]; exact cRn (by decide) (by decide) hR7⟩)
  · refine ev_st dX6_readLine_6 rfl rfl ?_
    refine ev_call dX6_readLine_7 rfl rfl mr_6_53 rfl rfl rfl (k_refuse hR) ?_
    rintro _ _ ⟨rfl, I3, rfl, hx3, hR3⟩
    show Ev lyC (d + 3) hX6_readLine 10 [some (.ref 11), some (.ref 1), some (.int (nI j))] [] (I3, J, R) _
    exact ev_vret dX6_readLine_10 rfl (⟨rfl, _, rfl, fun p a _ _ _ _ => hx3 p a, by rw [hx3 11 (by decide)], fun k _ => ⟨by rw [hx3 12 (by decide)], by rw [hx3 13 (by decide)], by rw [hx3 14 (by decide)]⟩, fun _ => hx3 11 (by decide), fun q => absurd q (by omega), by rw [yS, if_pos (by omega)]; exact hR3⟩)
