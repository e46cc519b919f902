/-! texts: bearers, by the class -/
/-- a line of a bearer -/
def lA (t : Nat → Nat) (E : Nat) (s : PS) : Nat := (sNum t E 2 1 40 s).1
def lB (t : Nat → Nat) (E : Nat) (s : PS) : Nat := (sNum t E 1 1 9 (sNeed t E 44 (sNum t E 2 1 40 s).2)).1
def lS (t : Nat → Nat) (E m i : Nat) (s : PS) : PS := if 8 ≤ m + i then (false, s.2) else (sNum t E 1 1 9 (sNeed t E 44 (sNum t E 2 1 40 s).2)).2
def bS (t : Nat → Nat) (E m : Nat) : Nat → PS
  | 0 => (true, 0)
  | i + 1 => sPass t E 59 (lS t E m i (bS t E m i))
abbrev more (t : Nat → Nat) (E : Nat) (s : PS) : Prop := pk t E s = nI 59
/-- n lines, of which the last is not followed by another -/
def bEnd (t : Nat → Nat) (E m n : Nat) : Prop := ¬ more t E (lS t E m n (bS t E m n)) ∧ ∀ j, j < n → more t E (lS t E m j (bS t E m j))
theorem bEnd_u {t : Nat → Nat} {E m n k : Nat} (h : bEnd t E m n) (g : bEnd t E m k) : n = k := by
  rcases (by omega : n < k ∨ n = k ∨ k < n) with q | q | q
  · exact absurd (g.2 n q) h.1
  · exact q
  · exact absurd (h.2 k q) g.1
theorem more_f {t : Nat → Nat} {E : Nat} {s : PS} (h : more t E s) : s.1 = true ∧ s.2 < E := by
  have h : pk t E s = nI 59 := h
  unfold pk at h
  split at h
  · next h1 =>
    split at h
    · next h2 => exact ⟨h1, h2⟩
    · exact absurd h (by decide)
  · exact absurd h (by decide)
theorem more_m {t : Nat → Nat} {E m i : Nat} {s : PS} (h : more t E (lS t E m i s)) : m + i < 8 := by
  have := (more_f h).1
  unfold lS at this
  split at this
  · cases this
  · omega
theorem num_le {t : Nat → Nat} {E m lo hi : Nat} {s : PS} (h : s.2 ≤ E) : (sNum t E m lo hi s).2.2 ≤ E := by
  have := (sdig_le (t := t) (E := E) m 0 s.2).2 h
  unfold sNum
  split
  · split
    · exact h
    · split
      · show (sdig t E m 0 s.2).2 - 1 ≤ E; omega
      · exact this
  · exact h
theorem cRn {I : Nat → Nat → Int32} {t : Nat → Nat} {E N p k : Nat} {s : PS} {v : Int32} (h1 : p ≠ 1) (h2 : p ≠ 2) (h : cR I t E N s) : cR (ti_wr I p k v) t E N s := by
  unfold cR
  rw [ti_wr_n h1.symm, ti_wr_n h2.symm]
  exact h
set_option maxHeartbeats 1000000 in
theorem k_readLine {I : Nat → Nat → Int32} {J : Nat → Nat → Int64} {R : Nat → Nat → Value} {t : Nat → Nat} {d E N j : Nat} {s : PS} (hR : cR I t E N s) (hj : j ≤ 16) : Cal lyC (d + 3) hX0_readLine 3 [.ref 8, .ref 1, .int (nI j)] (I, J, R) (fun r M' => r = none ∧ ∃ I3, M' = (I3, J, R) ∧ (∀ p, p ≠ 1 → p ≠ 9 → p ≠ 10 → I3 p = I p) ∧ (∀ k, k ≠ j → I3 9 k = I 9 k ∧ I3 10 k = I 10 k) ∧ (j < 8 → I3 9 j = nI (lA t E s) ∧ I3 10 j = nI (lB t E s)) ∧ cR I3 t E N (lS t E j 0 s)) := by
  show Ev lyC (d + 3) hX0_readLine 0 [some (.ref 8), some (.ref 1), some (.int (nI j))] [] (I, J, R) _
  refine ev_st dX0_readLine_0 rfl rfl ?_
  refine ev_bipush (v := 8) dX0_readLine_1 (by decide) ?_
  refine ev_ic_ltN (t := 11) (a := j) (b := 8) dX0_readLine_3 (by decide) rfl rfl (by omega) (by omega) (fun c_3 => ?_) (fun c_3 => ?_)
  · refine ev_st dX0_readLine_11 rfl rfl ?_
    refine ev_getC dX0_readLine_12 fr_0_9 rfl rfl ?_
    refine ev_st dX0_readLine_15 rfl rfl ?_
    refine ev_st dX0_readLine_16 rfl rfl ?_
    refine ev_iconst (v := 2) dX0_readLine_17 (by decide) ?_
    refine ev_iconst (v := 1) dX0_readLine_18 (by decide) ?_
    refine ev_bipush (v := 40) dX0_readLine_19 (by decide) ?_
    refine ev_call dX0_readLine_21 rfl rfl mr_0_43 rfl rfl rfl (k_rn (m := 2) (lo := 1) (hi := 40) hR (by decide) (by decide) (by decide) (by decide)) ?_
    rintro _ _ ⟨rfl, I2, rfl, hx2, hR2⟩
    show Ev lyC (d + 3) hX0_readLine 24 [some (.ref 8), some (.ref 1), some (.int (nI j))] [.int (nI (lA t E s)), .int (nI j), .ref 9] (I2, J, R) _
    refine ev_iast (j := j) dX0_readLine_24 rfl rfl (by omega) (by decide) ?_
    refine ev_st dX0_readLine_25 rfl rfl ?_
    refine ev_bipush (v := 44) dX0_readLine_26 (by decide) ?_
    refine ev_call dX0_readLine_28 rfl rfl mr_0_47 rfl rfl rfl (k_require (c := 44) (cRn (p := 9) (by decide) (by decide) hR2) (by decide)) ?_
    rintro _ _ ⟨rfl, I3, rfl, hx3, hR3⟩
    show Ev lyC (d + 3) hX0_readLine 31 [some (.ref 8), some (.ref 1), some (.int (nI j))] [] (I3, J, R) _
    refine ev_st dX0_readLine_31 rfl rfl ?_
    refine ev_getC dX0_readLine_32 fr_0_15 rfl rfl ?_
    refine ev_st dX0_readLine_35 rfl rfl ?_
    refine ev_st dX0_readLine_36 rfl rfl ?_
    refine ev_iconst (v := 1) dX0_readLine_37 (by decide) ?_
    refine ev_iconst (v := 1) dX0_readLine_38 (by decide) ?_
    refine ev_bipush (v := 9) dX0_readLine_39 (by decide) ?_
    refine ev_call dX0_readLine_41 rfl rfl mr_0_43 rfl rfl rfl (k_rn (m := 1) (lo := 1) (hi := 9) hR3 (by decide) (by decide) (by decide) (by decide)) ?_
    rintro _ _ ⟨rfl, I4, rfl, hx4, hR4⟩
    show Ev lyC (d + 3) hX0_readLine 44 [some (.ref 8), some (.ref 1), some (.int (nI j))] [.int (nI (lB t E s)), .int (nI j), .ref 10] (I4, J, R) _
    refine ev_iast (j := j) dX0_readLine_44 rfl rfl (by omega) (by decide) ?_
    exact ev_vret dX0_readLine_45 rfl (⟨rfl, _, rfl, fun p a b c => by rw [ti_wr_n c, hx4 p a, hx3 p a, ti_wr_n b, hx2 p a], fun k hk => ⟨by rw [ti_wr_n (by decide), hx4 9 (by decide), hx3 9 (by decide), wr_ne hk, hx2 9 (by decide)], by rw [wr_ne hk, hx4 10 (by decide), hx3 10 (by decide), ti_wr_n (by decide), hx2 10 (by decide)]⟩, fun _ => ⟨by rw [ti_wr_n (by decide), hx4 9 (by decide), hx3 9 (by decide), ti_wr_at], ti_wr_at⟩, by rw [lS, if_neg (by omega)]; exact cRn (by decide) (by decide) hR4⟩)
  · refine ev_st dX0_readLine_6 rfl rfl ?_
    refine ev_call dX0_readLine_7 rfl rfl mr_0_40 rfl rfl rfl (k_refuse hR) ?_
    rintro _ _ ⟨rfl, I3, rfl, hx3, hR3⟩
    show Ev lyC (d + 3) hX0_readLine 10 [some (.ref 8), some (.ref 1), some (.int (nI j))] [] (I3, J, R) _
    exact ev_vret dX0_readLine_10 rfl (⟨rfl, _, rfl, fun p a _ _ => hx3 p a, fun k _ => ⟨by rw [hx3 9 (by decide)], by rw [hx3 10 (by decide)]⟩, fun q => absurd q (by omega), by rw [lS, if_pos (by omega)]; exact hR3⟩)
set_option maxHeartbeats 1000000 in
theorem k_readLines {I : Nat → Nat → Int32} {J : Nat → Nat → Int64} {R : Nat → Nat → Value} {t : Nat → Nat} {d N m : Nat} (hT : cT I t N) (hm0 : I 8 3 = nI m) (hm8 : m ≤ 8) : Cal lyC (d + 4) hX0_readLines 3 [.ref 8, .ref 1] (I, J, R) (fun r M' => ∃ n I3, bEnd t (min N 48) m n ∧ r = some (.int (nI (n + 1))) ∧ M' = (I3, J, R) ∧ (∀ p, p ≠ 1 → p ≠ 9 → p ≠ 10 → I3 p = I p) ∧ (∀ k, k < m → I3 9 k = I 9 k ∧ I3 10 k = I 10 k) ∧ (∀ i, i < n + 1 → m + i < 8 → I3 9 (m + i) = nI (lA t (min N 48) (bS t (min N 48) m i)) ∧ I3 10 (m + i) = nI (lB t (min N 48) (bS t (min N 48) m i))) ∧ cR I3 t (min N 48) N (lS t (min N 48) m n (bS t (min N 48) m n))) := by
  have loop : ∀ (k b : Nat) (I2 : Nat → Nat → Int32), b ≤ 8 → 9 - b < k → (∀ p, p ≠ 1 → p ≠ 9 → p ≠ 10 → I2 p = I p) → cR I2 t (min N 48) N (bS t (min N 48) m b) → (∀ k, k < m → I2 9 k = I 9 k ∧ I2 10 k = I 10 k) → (∀ i, i < b → m + i < 8 → I2 9 (m + i) = nI (lA t (min N 48) (bS t (min N 48) m i)) ∧ I2 10 (m + i) = nI (lB t (min N 48) (bS t (min N 48) m i))) → (∀ j, j < b → more t (min N 48) (lS t (min N 48) m j (bS t (min N 48) m j))) → Ev lyC (d + 4) hX0_readLines 8 [some (.ref 8), some (.ref 1), some (.int (nI b))] [] (I2, J, R) (fun r M' => ∃ n I3, bEnd t (min N 48) m n ∧ r = some (.int (nI (n + 1))) ∧ M' = (I3, J, R) ∧ (∀ p, p ≠ 1 → p ≠ 9 → p ≠ 10 → I3 p = I p) ∧ (∀ k, k < m → I3 9 k = I 9 k ∧ I3 10 k = I 10 k) ∧ (∀ i, i < n + 1 → m + i < 8 → I3 9 (m + i) = nI (lA t (min N 48) (bS t (min N 48) m i)) ∧ I3 10 (m + i) = nI (lB t (min N 48) (bS t (min N 48) m i))) ∧ cR I3 t (min N 48) N (lS t (min N 48) m n (bS t (min N 48) m n))) := by
    intro k
    induction k with
    | zero => intro b I2 h1 h2; omega
    | succ k ih =>
      intro b I2 hb hk hx2 hR2 h9 h10 hm
      refine ev_st dX0_readLines_8 rfl rfl ?_
      refine ev_st dX0_readLines_9 rfl rfl ?_
      refine ev_st dX0_readLines_10 rfl rfl ?_
      refine ev_getI (v := nI m) dX0_readLines_11 fr_0_22 rfl rfl ((congrFun (hx2 8 (by decide) (by decide) (by decide)) 3).trans hm0) ?_
      refine ev_st dX0_readLines_14 rfl rfl ?_
      refine ev_iaddN (a := m) (b := b) (c := m + b) dX0_readLines_15 rfl rfl rfl ?_
      refine ev_call dX0_readLines_16 rfl rfl mr_0_32 rfl rfl rfl (k_readLine hR2 (by omega)) ?_
      rintro _ _ ⟨rfl, I3, rfl, hx3, hk3, hj3, hR3⟩
      rw [show lS t (min N 48) (m + b) 0 (bS t (min N 48) m b) = lS t (min N 48) m b (bS t (min N 48) m b) from rfl] at hR3
      show Ev lyC (d + 4) hX0_readLines 19 [some (.ref 8), some (.ref 1), some (.int (nI b))] [] (I3, J, R) _
      refine ev_iincN (a := b) (b := b + 1) (L' := [some (.ref 8), some (.ref 1), some (.int (nI (b + 1)))]) dX0_readLines_19 rfl (nI_1 _) rfl ?_
      refine ev_st dX0_readLines_22 rfl rfl ?_
      refine ev_bipush (v := 8) dX0_readLines_23 (by decide) ?_
      refine ev_ic_gtN (t := 37) (a := b + 1) (b := 8) dX0_readLines_25 (by decide) rfl rfl (by omega) (by omega) (fun c_25 => ?_) (fun c_25 => ?_)
      · refine ev_st dX0_readLines_37 rfl rfl ?_
        exact ev_iret dX0_readLines_38 rfl (⟨b, _, ⟨fun q => by have := more_m q; omega, hm⟩, rfl, rfl, fun p x y z => (hx3 p x y z).trans (hx2 p x y z), (fun k hk => by have := hk3 k (by omega); have := h9 k hk; exact ⟨by rw [(hk3 k (by omega)).1]; exact (h9 k hk).1, by rw [(hk3 k (by omega)).2]; exact (h9 k hk).2⟩), (fun i hi hi8 => by by_cases e : i = b; (subst e; exact hj3 hi8); (exact ⟨by rw [(hk3 (m + i) (by omega)).1]; exact (h10 i (by omega) hi8).1, by rw [(hk3 (m + i) (by omega)).2]; exact (h10 i (by omega) hi8).2⟩)), hR3⟩)
      · refine ev_st dX0_readLines_28 rfl rfl ?_
        refine ev_bipush (v := 59) dX0_readLines_29 (by decide) ?_
        refine ev_call dX0_readLines_31 rfl rfl mr_0_36 rfl rfl rfl (k_passes (c := 59) hR3 (by decide)) ?_
        rintro _ _ ⟨rfl, I4, rfl, hx4, hR4⟩
        show Ev lyC (d + 4) hX0_readLines 34 [some (.ref 8), some (.ref 1), some (.int (nI (b + 1)))] [.int (if pk t (min N 48) (lS t (min N 48) m b (bS t (min N 48) m b)) = nI 59 then 1 else 0)] (I4, J, R) _
        refine ev_if_ne (t := 8) (x := if pk t (min N 48) (lS t (min N 48) m b (bS t (min N 48) m b)) = nI 59 then 1 else 0) dX0_readLines_34 (by decide) (fun c_34 => ?_) (fun c_34 => ?_)
        · exact ih _ _ (by omega) (by omega) (fun p x y z => (hx4 p x).trans ((hx3 p x y z).trans (hx2 p x y z))) hR4 (fun k hk => by have := hk3 k (by omega); have := h9 k hk; exact ⟨by rw [hx4 9 (by decide), (hk3 k (by omega)).1]; exact (h9 k hk).1, by rw [hx4 10 (by decide), (hk3 k (by omega)).2]; exact (h9 k hk).2⟩) (fun i hi hi8 => by by_cases e : i = b; (subst e; exact ⟨by rw [hx4 9 (by decide)]; exact (hj3 hi8).1, by rw [hx4 10 (by decide)]; exact (hj3 hi8).2⟩); (exact ⟨by rw [hx4 9 (by decide), (hk3 (m + i) (by omega)).1]; exact (h10 i (by omega) hi8).1, by rw [hx4 10 (by decide), (hk3 (m + i) (by omega)).2]; exact (h10 i (by omega) hi8).2⟩)) (all_b hm (if01 c_34))
        · refine ev_st dX0_readLines_37 rfl rfl ?_
          exact ev_iret dX0_readLines_38 rfl (⟨b, _, ⟨if01n c_34, hm⟩, rfl, rfl, fun p x y z => (hx4 p x).trans ((hx3 p x y z).trans (hx2 p x y z)), (fun k hk => by have := hk3 k (by omega); have := h9 k hk; exact ⟨by rw [hx4 9 (by decide), (hk3 k (by omega)).1]; exact (h9 k hk).1, by rw [hx4 10 (by decide), (hk3 k (by omega)).2]; exact (h9 k hk).2⟩), (fun i hi hi8 => by by_cases e : i = b; (subst e; exact ⟨by rw [hx4 9 (by decide)]; exact (hj3 hi8).1, by rw [hx4 10 (by decide)]; exact (hj3 hi8).2⟩); (exact ⟨by rw [hx4 9 (by decide), (hk3 (m + i) (by omega)).1]; exact (h10 i (by omega) hi8).1, by rw [hx4 10 (by decide), (hk3 (m + i) (by omega)).2]; exact (h10 i (by omega) hi8).2⟩)), by rw [sPass, if_neg (if01n c_34)] at hR4; exact hR4⟩)
  show Ev lyC (d + 4) hX0_readLines 0 [some (.ref 8), some (.ref 1), none] [] (I, J, R) _
  refine ev_st dX0_readLines_0 rfl rfl ?_
  refine ev_bipush (v := 48) dX0_readLines_1 (by decide) ?_
  refine ev_call dX0_readLines_3 rfl rfl mr_0_26 rfl rfl rfl (k_open hT (by decide)) ?_
  rintro _ _ ⟨rfl, I2, rfl, hx2, hR2⟩
  show Ev lyC (d + 4) hX0_readLines 6 [some (.ref 8), some (.ref 1), none] [] (I2, J, R) _
  refine ev_iconst (v := 0) dX0_readLines_6 (by decide) ?_
  refine ev_st (L' := [some (.ref 8), some (.ref 1), some (.int 0)]) dX0_readLines_7 rfl rfl ?_
  exact loop 10 0 I2 (by omega) (by omega) (fun p x _ _ => hx2 p x) hR2 (fun k hk => ⟨by rw [hx2 9 (by decide)], by rw [hx2 10 (by decide)]⟩) (fun i hi => by omega) (fun j hj => by omega)
