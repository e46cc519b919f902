/-! texts: sayings: the class's call -/
def tv (t : Nat → Nat) (E m v : Nat) : Nat → Nat
  | 0 => v
  | i + 1 => if m + i < 8 then tset (tv t E m v i) (m + i) (yP t E (gS t E m i)) else tv t E m v i
theorem tset_lt {v j : Nat} {p : Bool} (hv : v < 256) (hj : j < 8) : tset v j p < 256 := by
  cases p
  · exact (tt_clr v hv j hj).2
  · exact (tt_set v hv j hj).2
theorem tv_lt {t : Nat → Nat} {E m v : Nat} (hv : v < 256) : ∀ i, tv t E m v i < 256
  | 0 => hv
  | i + 1 => by
    have ih := tv_lt (t := t) (E := E) (m := m) hv i
    simp only [tv]
    split
    · next h => exact tset_lt ih h
    · exact ih
theorem tset_bit {v j k : Nat} {p : Bool} (hv : v < 256) (hj : j < 8) (hk : k < 8) : tset v j p / 2 ^ k % 2 = if k = j then (if p = true then 1 else 0) else v / 2 ^ k % 2 := by
  have := tt_bit v hv j hj k hk
  cases p
  · rw [this.1]; simp
  · rw [this.2]; simp
theorem tv_old {t : Nat → Nat} {E m v k : Nat} (hv : v < 256) (hk : k < m) (hm : m ≤ 8) : ∀ i, tv t E m v i / 2 ^ k % 2 = v / 2 ^ k % 2
  | 0 => rfl
  | i + 1 => by
    have ih := tv_old (t := t) (E := E) hv hk hm i
    simp only [tv]
    split
    · next h => rw [tset_bit (tv_lt hv i) h (by omega), if_neg (by omega)]; exact ih
    · exact ih
theorem tv_new {t : Nat → Nat} {E m v j : Nat} (hv : v < 256) (hj : m + j < 8) : ∀ i, j < i → tv t E m v i / 2 ^ (m + j) % 2 = if yP t E (gS t E m j) = true then 1 else 0
  | 0, h => by omega
  | i + 1, h => by
    simp only [tv]
    by_cases e : j = i
    · subst e
      rw [if_pos hj, tset_bit (tv_lt hv j) hj hj, if_pos rfl]
    · have ih := tv_new (t := t) (E := E) hv hj i (by omega)
      split
      · next h2 => rw [tset_bit (tv_lt hv i) h2 hj, if_neg (by omega)]; exact ih
      · exact ih
set_option maxHeartbeats 1000000 in
theorem k_readSays {I : Nat → Nat → Int32} {J : Nat → Nat → Int64} {R : Nat → Nat → Value} {t : Nat → Nat} {d N m v : Nat} (hT : cT I t N) (hm0 : I 11 4 = nI m) (hm8 : m ≤ 8) (htr : I 11 3 = nI v) (hv : v < 256) : Cal lyC (d + 4) hX6_readLines 3 [.ref 11, .ref 1] (I, J, R) (fun r M' => ∃ n I3, yEnd t (min N 76) m n ∧ r = some (.int (nI (n + 1))) ∧ M' = (I3, J, R) ∧ (∀ p, p ≠ 1 → p ≠ 11 → p ≠ 12 → p ≠ 13 → p ≠ 14 → I3 p = I p) ∧ I3 11 4 = nI m ∧ I3 11 3 = nI (tv t (min N 76) m v (n + 1)) ∧ (∀ k, k < m → I3 12 k = I 12 k ∧ I3 13 k = I 13 k ∧ I3 14 k = I 14 k) ∧ (∀ i, i < n + 1 → m + i < 8 → I3 12 (m + i) = nI (yH t (min N 76) (gS t (min N 76) m i)) ∧ I3 13 (m + i) = nI (yHm t (min N 76) (gS t (min N 76) m i)) ∧ I3 14 (m + i) = yK t (min N 76) (gS t (min N 76) m i)) ∧ cR I3 t (min N 76) N (yS t (min N 76) m n (gS t (min N 76) m n))) := by
  have loop : ∀ (k b : Nat) (I2 : Nat → Nat → Int32), b ≤ 8 → 9 - b < k → (∀ p, p ≠ 1 → p ≠ 11 → p ≠ 12 → p ≠ 13 → p ≠ 14 → I2 p = I p) → I2 11 4 = nI m → I2 11 3 = nI (tv t (min N 76) m v b) → cR I2 t (min N 76) N (gS t (min N 76) m b) → (∀ k, k < m → I2 12 k = I 12 k ∧ I2 13 k = I 13 k ∧ I2 14 k = I 14 k) → (∀ i, i < b → m + i < 8 → I2 12 (m + i) = nI (yH t (min N 76) (gS t (min N 76) m i)) ∧ I2 13 (m + i) = nI (yHm t (min N 76) (gS t (min N 76) m i)) ∧ I2 14 (m + i) = yK t (min N 76) (gS t (min N 76) m i)) → (∀ j, j < b → more t (min N 76) (yS t (min N 76) m j (gS t (min N 76) m j))) → Ev lyC (d + 4) hX6_readLines 8 [some (.ref 11), some (.ref 1), some (.int (nI b))] [] (I2, J, R) (fun r M' => ∃ n I3, yEnd t (min N 76) m n ∧ r = some (.int (nI (n + 1))) ∧ M' = (I3, J, R) ∧ (∀ p, p ≠ 1 → p ≠ 11 → p ≠ 12 → p ≠ 13 → p ≠ 14 → I3 p = I p) ∧ I3 11 4 = nI m ∧ I3 11 3 = nI (tv t (min N 76) m v (n + 1)) ∧ (∀ k, k < m → I3 12 k = I 12 k ∧ I3 13 k = I 13 k ∧ I3 14 k = I 14 k) ∧ (∀ i, i < n + 1 → m + i < 8 → I3 12 (m + i) = nI (yH t (min N 76) (gS t (min N 76) m i)) ∧ I3 13 (m + i) = nI (yHm t (min N 76) (gS t (min N 76) m i)) ∧ I3 14 (m + i) = yK t (min N 76) (gS t (min N 76) m i)) ∧ cR I3 t (min N 76) N (yS t (min N 76) m n (gS t (min N 76) m n))) := by
    intro k
    induction k with
    | zero => intro b I2 h1 h2; omega
    | succ k ih =>
      intro b I2 hb hk hx2 h4 htr2 hR2 h9 h10 hm
      refine ev_st dX6_readLines_8 rfl rfl ?_
      refine ev_st dX6_readLines_9 rfl rfl ?_
      refine ev_st dX6_readLines_10 rfl rfl ?_
      refine ev_getI (v := nI m) dX6_readLines_11 fr_6_21 rfl rfl h4 ?_
      refine ev_st dX6_readLines_14 rfl rfl ?_
      refine ev_iaddN (a := m) (b := b) (c := m + b) dX6_readLines_15 rfl rfl rfl ?_
      refine ev_call dX6_readLines_16 rfl rfl mr_6_46 rfl rfl rfl (k_readSay hR2 (by omega) htr2 (tv_lt hv b)) ?_
      rintro _ _ ⟨rfl, I3, rfl, hx3, h114, hk3, h11, hj3, hR3⟩
      rw [show yS t (min N 76) (m + b) 0 (gS t (min N 76) m b) = yS t (min N 76) m b (gS t (min N 76) m b) from rfl] at hR3
      have htr3 : I3 11 3 = nI (tv t (min N 76) m v (b + 1)) := by rw [tv]; split; (next q => exact (hj3 q).2.2.2); (next q => rw [h11 (by omega)]; exact htr2)
      show Ev lyC (d + 4) hX6_readLines 19 [some (.ref 11), some (.ref 1), some (.int (nI b))] [] (I3, J, R) _
      refine ev_iincN (a := b) (b := b + 1) (L' := [some (.ref 11), some (.ref 1), some (.int (nI (b + 1)))]) dX6_readLines_19 rfl (nI_1 _) rfl ?_
      refine ev_st dX6_readLines_22 rfl rfl ?_
      refine ev_bipush (v := 8) dX6_readLines_23 (by decide) ?_
      refine ev_ic_gtN (t := 37) (a := b + 1) (b := 8) dX6_readLines_25 (by decide) rfl rfl (by omega) (by omega) (fun c_25 => ?_) (fun c_25 => ?_)
      · refine ev_st dX6_readLines_37 rfl rfl ?_
        exact ev_iret dX6_readLines_38 rfl (⟨b, _, ⟨fun q => by have := ymore_m q; omega, hm⟩, rfl, rfl, fun p x y z u w => (hx3 p x y z u w).trans (hx2 p x y z u w), h114.trans h4, htr3, (fun k hk => ⟨by rw [(hk3 k (by omega)).1]; exact (h9 k hk).1, by rw [(hk3 k (by omega)).2.1]; exact (h9 k hk).2.1, by rw [(hk3 k (by omega)).2.2]; exact (h9 k hk).2.2⟩), (fun i hi hi8 => by by_cases e : i = b; (subst e; exact ⟨(hj3 hi8).1, (hj3 hi8).2.1, (hj3 hi8).2.2.1⟩); (exact ⟨by rw [(hk3 (m + i) (by omega)).1]; exact (h10 i (by omega) hi8).1, by rw [(hk3 (m + i) (by omega)).2.1]; exact (h10 i (by omega) hi8).2.1, by rw [(hk3 (m + i) (by omega)).2.2]; exact (h10 i (by omega) hi8).2.2⟩)), hR3⟩)
      · refine ev_st dX6_readLines_28 rfl rfl ?_
        refine ev_bipush (v := 59) dX6_readLines_29 (by decide) ?_
        refine ev_call dX6_readLines_31 rfl rfl mr_6_50 rfl rfl rfl (k_passes (c := 59) hR3 (by decide)) ?_
        rintro _ _ ⟨rfl, I4, rfl, hx4, hR4⟩
        show Ev lyC (d + 4) hX6_readLines 34 [some (.ref 11), some (.ref 1), some (.int (nI (b + 1)))] [.int (if pk t (min N 76) (yS t (min N 76) m b (gS t (min N 76) m b)) = nI 59 then 1 else 0)] (I4, J, R) _
        refine ev_if_ne (t := 8) (x := if pk t (min N 76) (yS t (min N 76) m b (gS t (min N 76) m b)) = nI 59 then 1 else 0) dX6_readLines_34 (by decide) (fun c_34 => ?_) (fun c_34 => ?_)
        · exact ih _ _ (by omega) (by omega) (fun p x y z u w => (hx4 p x).trans ((hx3 p x y z u w).trans (hx2 p x y z u w))) ((congrFun (hx4 11 (by decide)) 4).trans (h114.trans h4)) ((congrFun (hx4 11 (by decide)) 3).trans htr3) hR4 (fun k hk => ⟨by rw [hx4 12 (by decide), (hk3 k (by omega)).1]; exact (h9 k hk).1, by rw [hx4 13 (by decide), (hk3 k (by omega)).2.1]; exact (h9 k hk).2.1, by rw [hx4 14 (by decide), (hk3 k (by omega)).2.2]; exact (h9 k hk).2.2⟩) (fun i hi hi8 => by by_cases e : i = b; (subst e; exact ⟨(congrFun (hx4 12 (by decide)) _).trans (hj3 hi8).1, (congrFun (hx4 13 (by decide)) _).trans (hj3 hi8).2.1, (congrFun (hx4 14 (by decide)) _).trans (hj3 hi8).2.2.1⟩); (exact ⟨by rw [hx4 12 (by decide), (hk3 (m + i) (by omega)).1]; exact (h10 i (by omega) hi8).1, by rw [hx4 13 (by decide), (hk3 (m + i) (by omega)).2.1]; exact (h10 i (by omega) hi8).2.1, by rw [hx4 14 (by decide), (hk3 (m + i) (by omega)).2.2]; exact (h10 i (by omega) hi8).2.2⟩)) (all_b hm (if01 c_34))
        · refine ev_st dX6_readLines_37 rfl rfl ?_
          exact ev_iret dX6_readLines_38 rfl (⟨b, _, ⟨if01n c_34, hm⟩, rfl, rfl, fun p x y z u w => (hx4 p x).trans ((hx3 p x y z u w).trans (hx2 p x y z u w)), (congrFun (hx4 11 (by decide)) 4).trans (h114.trans h4), (congrFun (hx4 11 (by decide)) 3).trans htr3, (fun k hk => ⟨by rw [hx4 12 (by decide), (hk3 k (by omega)).1]; exact (h9 k hk).1, by rw [hx4 13 (by decide), (hk3 k (by omega)).2.1]; exact (h9 k hk).2.1, by rw [hx4 14 (by decide), (hk3 k (by omega)).2.2]; exact (h9 k hk).2.2⟩), (fun i hi hi8 => by by_cases e : i = b; (subst e; exact ⟨(congrFun (hx4 12 (by decide)) _).trans (hj3 hi8).1, (congrFun (hx4 13 (by decide)) _).trans (hj3 hi8).2.1, (congrFun (hx4 14 (by decide)) _).trans (hj3 hi8).2.2.1⟩); (exact ⟨by rw [hx4 12 (by decide), (hk3 (m + i) (by omega)).1]; exact (h10 i (by omega) hi8).1, by rw [hx4 13 (by decide), (hk3 (m + i) (by omega)).2.1]; exact (h10 i (by omega) hi8).2.1, by rw [hx4 14 (by decide), (hk3 (m + i) (by omega)).2.2]; exact (h10 i (by omega) hi8).2.2⟩)), by rw [sPass, if_neg (if01n c_34)] at hR4; exact hR4⟩)
  show Ev lyC (d + 4) hX6_readLines 0 [some (.ref 11), some (.ref 1), none] [] (I, J, R) _
  refine ev_st dX6_readLines_0 rfl rfl ?_
  refine ev_bipush (v := 76) dX6_readLines_1 (by decide) ?_
  refine ev_call dX6_readLines_3 rfl rfl mr_6_40 rfl rfl rfl (k_open hT (by decide)) ?_
  rintro _ _ ⟨rfl, I2, rfl, hx2, hR2⟩
  show Ev lyC (d + 4) hX6_readLines 6 [some (.ref 11), some (.ref 1), none] [] (I2, J, R) _
  refine ev_iconst (v := 0) dX6_readLines_6 (by decide) ?_
  refine ev_st (L' := [some (.ref 11), some (.ref 1), some (.int 0)]) dX6_readLines_7 rfl rfl ?_
  exact loop 10 0 I2 (by omega) (by omega) (fun p x _ _ _ _ => hx2 p x) ((congrFun (hx2 11 (by decide)) 4).trans hm0) ((congrFun (hx2 11 (by decide)) 3).trans htr) hR2 (fun k hk => ⟨by rw [hx2 12 (by decide)], by rw [hx2 13 (by decide)], by rw [hx2 14 (by decide)]⟩) (fun i hi => by omega) (fun j hj => by omega)
theorem k_sayingsE {I : Nat → Nat → Int32} {J : Nat → Nat → Int64} {R : Nat → Nat → Value} {t : Nat → Nat} {d : Nat} (hT : cT I t 0) : Cal lyC (d + 5) hX11_sayings 3 [.ref 0] (I, J, R) (fun r M' => r = some (.int 0) ∧ M' = (I, J, R)) := by
  show Ev lyC (d + 5) hX11_sayings 0 [some (.ref 0), none, none] [] (I, J, R) _
  refine ev_st dX11_sayings_0 rfl rfl ?_
  refine ev_getC dX11_sayings_1 fr_11_10 rfl rfl ?_
  refine ev_call dX11_sayings_4 rfl rfl mr_11_127 rfl rfl rfl ((by have K := k_X9_size (I := I) (J := J) (R := R) (d := d + 4); rw [hT.1] at K; exact K)) ?_
  rintro _ _ ⟨rfl, rfl⟩
  show Ev lyC (d + 5) hX11_sayings 7 [some (.ref 0), none, none] [.int 0] (I, J, R) _
  refine ev_if_ne (t := 12) dX11_sayings_7 (by decide) (fun q => absurd q (by decide)) (fun _ => ?_)
  refine ev_iconst (v := 0) dX11_sayings_10 (by decide) ?_
  exact ev_iret dX11_sayings_11 rfl (⟨rfl, rfl⟩)
set_option maxHeartbeats 1000000 in
theorem k_sayings0 {I : Nat → Nat → Int32} {J : Nat → Nat → Int64} {R : Nat → Nat → Value} {t : Nat → Nat} {d N m n v : Nat} (hT : cT I t N) (hN : 0 < N) (hm0 : I 11 4 = nI m) (hm8 : m ≤ 8) (htr : I 11 3 = nI v) (hv : v < 256) (hw : yEnd t (min N 76) m n) (hok : ¬ (sFin N (yS t (min N 76) m n (gS t (min N 76) m n))).1 = true) : Cal lyC (d + 5) hX11_sayings 3 [.ref 0] (I, J, R) (fun r M' => r = some (.int (-1 - nI (sFin N (yS t (min N 76) m n (gS t (min N 76) m n))).2)) ∧ ∃ I3, M' = (I3, J, R) ∧ (∀ p, p ≠ 1 → p ≠ 11 → p ≠ 12 → p ≠ 13 → p ≠ 14 → I3 p = I p) ∧ I3 1 1 = 0 ∧ I3 11 4 = nI m ∧ I3 11 3 = nI (tv t (min N 76) m v (n + 1)) ∧ (∀ k, k < m → I3 12 k = I 12 k ∧ I3 13 k = I 13 k ∧ I3 14 k = I 14 k)) := by
  have hn8 := yEnd_9 hw
  have hN80 := hT.2.1
  show Ev lyC (d + 5) hX11_sayings 0 [some (.ref 0), none, none] [] (I, J, R) _
  refine ev_st dX11_sayings_0 rfl rfl ?_
  refine ev_getC dX11_sayings_1 fr_11_10 rfl rfl ?_
  refine ev_call dX11_sayings_4 rfl rfl mr_11_127 rfl rfl rfl ((by have K := k_X9_size (I := I) (J := J) (R := R) (d := d + 4); rw [hT.1] at K; exact K)) ?_
  rintro _ _ ⟨rfl, rfl⟩
  show Ev lyC (d + 5) hX11_sayings 7 [some (.ref 0), none, none] [.int (nI N)] (I, J, R) _
  refine ev_if_neN (t := 12) (a := N) dX11_sayings_7 (by decide) rfl (by omega) (fun c_7 => ?_) (fun c_7 => ?_)
  · refine ev_st dX11_sayings_12 rfl rfl ?_
    refine ev_getC dX11_sayings_13 fr_11_42 rfl rfl ?_
    refine ev_st dX11_sayings_16 rfl rfl ?_
    refine ev_getC dX11_sayings_17 fr_11_10 rfl rfl ?_
    refine ev_call dX11_sayings_20 rfl rfl mr_11_140 rfl rfl rfl (k_readSays hT hm0 hm8 htr hv) ?_
    rintro _ _ ⟨n2, I2, hw2, e1, rfl, hx, h4, htr2, hk9, hn9, hR2⟩
    obtain rfl := yEnd_u hw hw2
    subst e1
    have hf9 := sFin_le (N := N) hR2.2.2.2.2.2.1
    show Ev lyC (d + 5) hX11_sayings 23 [some (.ref 0), none, none] [.int (nI (n + 1))] (I2, J, R) _
    refine ev_st (L' := [some (.ref 0), some (.int (nI (n + 1))), none]) dX11_sayings_23 rfl rfl ?_
    refine ev_st dX11_sayings_24 rfl rfl ?_
    refine ev_getC dX11_sayings_25 fr_11_10 rfl rfl ?_
    refine ev_call dX11_sayings_28 rfl rfl mr_11_134 rfl rfl rfl (k_close hR2) ?_
    rintro _ _ ⟨e1, rfl⟩
    rw [if_neg hok] at e1
    subst e1
    show Ev lyC (d + 5) hX11_sayings 31 [some (.ref 0), some (.int (nI (n + 1))), none] [.int (nI ((sFin N (yS t (min N 76) m n (gS t (min N 76) m n))).2))] (ti_wr I2 1 1 0, J, R) _
    refine ev_st (L' := [some (.ref 0), some (.int (nI (n + 1))), some (.int (nI ((sFin N (yS t (min N 76) m n (gS t (min N 76) m n))).2)))]) dX11_sayings_31 rfl rfl ?_
    refine ev_st dX11_sayings_32 rfl rfl ?_
    refine ev_if_ltN (t := 40) (a := (sFin N (yS t (min N 76) m n (gS t (min N 76) m n))).2) dX11_sayings_33 (by decide) rfl (by omega) ?_
    refine ev_iconst (v := -1) dX11_sayings_36 (by decide) ?_
    refine ev_st dX11_sayings_37 rfl rfl ?_
    refine ev_st dX11_sayings_38 rfl rfl ?_
    exact ev_iret dX11_sayings_39 rfl (⟨rfl, _, rfl, fun p a b c d e => by rw [ti_wr_n a]; exact hx p a b c d e, rfl, h4, htr2, fun k hk => hk9 k hk⟩)
  · omega
set_option maxHeartbeats 1000000 in
theorem k_sayings1 {I : Nat → Nat → Int32} {J : Nat → Nat → Int64} {R : Nat → Nat → Value} {t : Nat → Nat} {d N m n v : Nat} (hT : cT I t N) (hN : 0 < N) (hm0 : I 11 4 = nI m) (hm8 : m ≤ 8) (htr : I 11 3 = nI v) (hv : v < 256) (hw : yEnd t (min N 76) m n) (hok : (sFin N (yS t (min N 76) m n (gS t (min N 76) m n))).1 = true) : Cal lyC (d + 5) hX11_sayings 3 [.ref 0] (I, J, R) (fun r M' => r = some (.int (nI (n + 1))) ∧ ∃ I3, M' = (I3, J, R) ∧ (∀ p, p ≠ 1 → p ≠ 11 → p ≠ 12 → p ≠ 13 → p ≠ 14 → p ≠ 15 → I3 p = I p) ∧ I3 1 1 = 0 ∧ I3 11 4 = nI (m + (n + 1)) ∧ I3 11 3 = nI (tv t (min N 76) m v (n + 1)) ∧ (∀ k, k < m → I3 12 k = I 12 k ∧ I3 13 k = I 13 k ∧ I3 14 k = I 14 k) ∧ (∀ i, i < n + 1 → I3 12 (m + i) = nI (yH t (min N 76) (gS t (min N 76) m i)) ∧ I3 13 (m + i) = nI (yHm t (min N 76) (gS t (min N 76) m i)) ∧ I3 14 (m + i) = yK t (min N 76) (gS t (min N 76) m i)) ∧ I3 15 = upd (upd (I 15) 5 0) 3 0) := by
  have hn8 := yEnd_9 hw
  have hN80 := hT.2.1
  have hm7 := yEnd_8 hw (sFin_f hok).1
  show Ev lyC (d + 5) hX11_sayings 0 [some (.ref 0), none, none] [] (I, J, R) _
  refine ev_st dX11_sayings_0 rfl rfl ?_
  refine ev_getC dX11_sayings_1 fr_11_10 rfl rfl ?_
  refine ev_call dX11_sayings_4 rfl rfl mr_11_127 rfl rfl rfl ((by have K := k_X9_size (I := I) (J := J) (R := R) (d := d + 4); rw [hT.1] at K; exact K)) ?_
  rintro _ _ ⟨rfl, rfl⟩
  show Ev lyC (d + 5) hX11_sayings 7 [some (.ref 0), none, none] [.int (nI N)] (I, J, R) _
  refine ev_if_neN (t := 12) (a := N) dX11_sayings_7 (by decide) rfl (by omega) (fun c_7 => ?_) (fun c_7 => ?_)
  · refine ev_st dX11_sayings_12 rfl rfl ?_
    refine ev_getC dX11_sayings_13 fr_11_42 rfl rfl ?_
    refine ev_st dX11_sayings_16 rfl rfl ?_
    refine ev_getC dX11_sayings_17 fr_11_10 rfl rfl ?_
    refine ev_call dX11_sayings_20 rfl rfl mr_11_140 rfl rfl rfl (k_readSays hT hm0 hm8 htr hv) ?_
    rintro _ _ ⟨n2, I2, hw2, e1, rfl, hx, h4, htr2, hk9, hn9, hR2⟩
    obtain rfl := yEnd_u hw hw2
    subst e1
    have hf9 := sFin_le (N := N) hR2.2.2.2.2.2.1
    show Ev lyC (d + 5) hX11_sayings 23 [some (.ref 0), none, none] [.int (nI (n + 1))] (I2, J, R) _
    refine ev_st (L' := [some (.ref 0), some (.int (nI (n + 1))), none]) dX11_sayings_23 rfl rfl ?_
    refine ev_st dX11_sayings_24 rfl rfl ?_
    refine ev_getC dX11_sayings_25 fr_11_10 rfl rfl ?_
    refine ev_call dX11_sayings_28 rfl rfl mr_11_134 rfl rfl rfl (k_close hR2) ?_
    rintro _ _ ⟨e1, rfl⟩
    rw [if_pos hok] at e1
    subst e1
    show Ev lyC (d + 5) hX11_sayings 31 [some (.ref 0), some (.int (nI (n + 1))), none] [.int ((-1))] (ti_wr I2 1 1 0, J, R) _
    refine ev_st (L' := [some (.ref 0), some (.int (nI (n + 1))), some (.int ((-1)))]) dX11_sayings_31 rfl rfl ?_
    refine ev_st dX11_sayings_32 rfl rfl ?_
    refine ev_if_lt (t := 40) dX11_sayings_33 (by decide) (fun _ => ?_) (fun q => absurd q (by decide))
    refine ev_st dX11_sayings_40 rfl rfl ?_
    refine ev_getC dX11_sayings_41 fr_11_42 rfl rfl ?_
    refine ev_st dX11_sayings_44 rfl rfl ?_
    refine ev_getI (v := nI m) dX11_sayings_45 fr_11_141 rfl rfl h4 ?_
    refine ev_st dX11_sayings_48 rfl rfl ?_
    refine ev_iaddN (a := m) (b := n + 1) (c := m + (n + 1)) dX11_sayings_49 rfl rfl rfl ?_
    refine ev_putI dX11_sayings_50 fr_11_141 rfl rfl ?_
    refine ev_st dX11_sayings_53 rfl rfl ?_
    refine ev_getC dX11_sayings_54 fr_11_56 rfl rfl ?_
    refine ev_call dX11_sayings_57 rfl rfl mr_11_121 rfl rfl rfl (k_forgetAll) ?_
    rintro _ _ ⟨rfl, rfl⟩
    show Ev lyC (d + 5) hX11_sayings 60 [some (.ref 0), some (.int (nI (n + 1))), some (.int ((-1)))] [] (ti_wr (ti_wr (ti_wr (ti_wr I2 1 1 0) 11 4 (nI (m + (n + 1)))) 15 5 0) 15 3 0, J, R) _
    refine ev_st dX11_sayings_60 rfl rfl ?_
    exact ev_iret dX11_sayings_61 rfl (⟨rfl, _, rfl, fun p a b c d e f => by simp only [ti_wr_n a, ti_wr_n b, ti_wr_n f]; exact hx p a b c d e, rfl, rfl, htr2, fun k hk => hk9 k hk, fun i hi => hn9 i hi (by omega), by rw [wr_q, wr_q, ti_wr_n (by decide), ti_wr_n (by decide), hx 15 (by decide) (by decide) (by decide) (by decide) (by decide)]⟩)
  · omega
