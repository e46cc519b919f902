/-! texts: sayings: the model's call -/
set_option maxHeartbeats 1000000 in
theorem c_readSaying {I : Nat → Nat → Int32} {J : Nat → Nat → Int64} {R : Nat → Nat → Value} {t : Nat → Nat} {d E N T k : Nat} {s : PS} (hR : mR 6 I R t E N T s) (hk : k + 4 ≤ 44) : Cal lyM (d + 5) hX12_readSaying 4 [.ref 0, .int (nI k)] (I, J, R) (fun r M' => r = none ∧ ∃ I3, M' = (I3, J, R) ∧ k8F k I I3 ∧ I3 8 k = nI (yH t E s) ∧ I3 8 (k + 1) = b2i (yP t E s) ∧ I3 8 (k + 2) = nI (yHm t E s) ∧ I3 8 (k + 3) = yK t E s ∧ mR 6 I3 R t E N T (yF t E (kn t E 5 0 (y3 t E s) 0).2)) := by
  show Ev lyM (d + 5) hX12_readSaying 0 [some (.ref 0), some (.int (nI k)), none, none] [] (I, J, R) _
  refine ev_st dX12_readSaying_0 rfl rfl ?_
  refine ev_getC dX12_readSaying_1 fr_12_37 rfl rfl ?_
  refine ev_st dX12_readSaying_4 rfl rfl ?_
  refine ev_st dX12_readSaying_5 rfl rfl ?_
  refine ev_bipush (v := 20) dX12_readSaying_6 (by decide) ?_
  refine ev_call dX12_readSaying_8 rfl rfl mr_12_166 rfl rfl rfl (c_bounded (hi := 20) hR (by decide)) ?_
  rintro _ _ ⟨rfl, I2, rfl, hx2, hR2⟩
  show Ev lyM (d + 5) hX12_readSaying 11 [some (.ref 0), some (.int (nI k)), none, none] [.int (nI (yH t E s)), .int (nI k), .ref 8] (I2, J, R) _
  refine ev_iast (j := k) dX12_readSaying_11 rfl rfl (by omega) (by decide) ?_
  refine ev_st dX12_readSaying_12 rfl rfl ?_
  refine ev_getC dX12_readSaying_13 fr_12_37 rfl rfl ?_
  refine ev_st dX12_readSaying_16 rfl rfl ?_
  refine ev_iconst (v := 1) dX12_readSaying_17 (by decide) ?_
  refine ev_iaddN (a := k) (b := 1) (c := k + 1) dX12_readSaying_18 rfl rfl rfl ?_
  refine ev_st dX12_readSaying_19 rfl rfl ?_
  refine ev_bipush (v := 43) dX12_readSaying_20 (by decide) ?_
  refine ev_call dX12_readSaying_22 rfl rfl mr_12_135 rfl rfl rfl (c_passes (s := y1 t E s) (c := 43) (mR8 hR2) (by decide)) ?_
  rintro _ _ ⟨rfl, I3, rfl, hx3, hR3⟩
  show Ev lyM (d + 5) hX12_readSaying 25 [some (.ref 0), some (.int (nI k)), none, none] [.int (if pk t E (y1 t E s) = nI 43 then 1 else 0), .int (nI (k + 1)), .ref 8] (I3, J, R) _
  refine ev_if_eq (t := 32) (x := if pk t E (y1 t E s) = nI 43 then 1 else 0) dX12_readSaying_25 (by decide) (fun c_25 => ?_) (fun c_25 => ?_)
  · refine ev_iconst (v := 0) dX12_readSaying_32 (by decide) ?_
    refine ev_iast (j := k + 1) dX12_readSaying_33 rfl rfl (by omega) (by decide) ?_
    refine ev_st dX12_readSaying_34 rfl rfl ?_
    refine ev_getC dX12_readSaying_35 fr_12_37 rfl rfl ?_
    refine ev_st dX12_readSaying_38 rfl rfl ?_
    refine ev_iconst (v := 1) dX12_readSaying_39 (by decide) ?_
    refine ev_iaddN (a := k) (b := 1) (c := k + 1) dX12_readSaying_40 rfl rfl rfl ?_
    refine ev_iald (j := k + 1) (v := 0) dX12_readSaying_41 rfl rfl (by omega) (by decide) ti_wr_at ?_
    refine ev_if_ne (t := 51) dX12_readSaying_42 (by decide) (fun q => absurd q (by decide)) (fun _ => ?_)
    refine ev_st dX12_readSaying_45 rfl rfl ?_
    refine ev_bipush (v := 45) dX12_readSaying_46 (by decide) ?_
    refine ev_call dX12_readSaying_48 rfl rfl mr_12_169 rfl rfl rfl (c_need (s := y1 t E s) (c := 45) (mR8 (by have q := hR3; rw [sPass, if_neg (if01n c_25)] at q; exact q)) (by decide)) ?_
    rintro _ _ ⟨rfl, I4, rfl, hx4, hR4⟩
    have hR4 : mR 6 I4 R t E N T (y2 t E s) := by rw [y2, if_neg (if01n c_25)]; exact hR4
    show Ev lyM (d + 5) hX12_readSaying 51 [some (.ref 0), some (.int (nI k)), none, none] [] (I4, J, R) _
    refine ev_st dX12_readSaying_51 rfl rfl ?_
    refine ev_getC dX12_readSaying_52 fr_12_37 rfl rfl ?_
    refine ev_st dX12_readSaying_55 rfl rfl ?_
    refine ev_iconst (v := 2) dX12_readSaying_56 (by decide) ?_
    refine ev_iaddN (a := k) (b := 2) (c := k + 2) dX12_readSaying_57 rfl rfl rfl ?_
    refine ev_st dX12_readSaying_58 rfl rfl ?_
    refine ev_bipush (v := 48) dX12_readSaying_59 (by decide) ?_
    refine ev_bipush (v := 10) dX12_readSaying_61 (by decide) ?_
    refine ev_call dX12_readSaying_63 rfl rfl mr_12_143 rfl rfl rfl (c_one (s := y2 t E s) (f := 48) (m := 10) hR4 (by decide) (by decide)) ?_
    rintro _ _ ⟨e1, I5, rfl, hx5, hR5⟩
    rw [one_num] at e1 hR5
    obtain rfl : _ = some (Value.int (nI (yHm t E s))) := e1
    show Ev lyM (d + 5) hX12_readSaying 66 [some (.ref 0), some (.int (nI k)), none, none] [.int (nI (yHm t E s)), .int (nI (k + 2)), .ref 8] (I5, J, R) _
    refine ev_iast (j := k + 2) dX12_readSaying_66 rfl rfl (by omega) (by decide) ?_
    refine ev_st dX12_readSaying_67 rfl rfl ?_
    refine ev_getC dX12_readSaying_68 fr_12_37 rfl rfl ?_
    refine ev_st dX12_readSaying_71 rfl rfl ?_
    refine ev_iconst (v := 3) dX12_readSaying_72 (by decide) ?_
    refine ev_iaddN (a := k) (b := 3) (c := k + 3) dX12_readSaying_73 rfl rfl rfl ?_
    refine ev_iconst (v := 0) dX12_readSaying_74 (by decide) ?_
    refine ev_iast (j := k + 3) dX12_readSaying_75 rfl rfl (by omega) (by decide) ?_
    refine ev_iconst (v := -1) dX12_readSaying_76 (by decide) ?_
    refine ev_st (L' := [some (.ref 0), some (.int (nI k)), some (.int ((-1))), none]) dX12_readSaying_77 rfl rfl ?_
    refine (c_letters (I := ti_wr (ti_wr I5 8 (k + 2) (nI (yHm t E s))) 8 (k + 3) 0) (J := J) (R := R) (d := d) (T := T) (K := kn t E 5 0 (y3 t E s) 0) (by omega) 6 0 0 _ 0 (y3 t E s) _ (by omega) (by omega) (by omega) k8F.rf (fun _ _ => rfl) ti_wr_at (mR8 (mR8 hR5)) rfl).imp ?_
    rintro r M' ⟨e1, I6, e2, g1, g2, g3, g4⟩
    have hfr : k8F k I (ti_wr (ti_wr I5 8 (k + 2) (nI (yHm t E s))) 8 (k + 3) 0) := (((((((((k8F.rf (k := k)).r hx2).w (by omega) (by omega)).r hx3).w (by omega) (by omega)).r hx4).r hx5).w (i := k + 2) (by omega) (by omega)).w (i := k + 3) (by omega) (by omega))
    refine ⟨e1, I6, e2, ⟨fun p a b => (g1.1 p a b).trans (hfr.1 p a b), fun j a b => (g1.2.1 j a b).trans (hfr.2.1 j a b), fun j a => (g1.2.2 j a).trans (hfr.2.2 j a)⟩, ?_, ?_, ?_, g3, g4⟩
    · rw [g2 k (by omega), wr_ne (by omega), wr_ne (by omega), hx5.p 8 rfl, hx4.p 8 rfl, wr_ne (by omega), hx3.p 8 rfl, ti_wr_at]
    · rw [g2 (k + 1) (by omega), wr_ne (by omega), wr_ne (by omega), hx5.p 8 rfl, hx4.p 8 rfl, ti_wr_at]; rw [show yP t E s = false from decide_eq_false (if01n c_25)]; rfl
    · rw [g2 (k + 2) (by omega), wr_ne (by omega), ti_wr_at]
  · refine ev_iconst (v := 1) dX12_readSaying_28 (by decide) ?_
    refine ev_goto (t := 33) dX12_readSaying_29 (by decide) ?_
    refine ev_iast (j := k + 1) dX12_readSaying_33 rfl rfl (by omega) (by decide) ?_
    refine ev_st dX12_readSaying_34 rfl rfl ?_
    refine ev_getC dX12_readSaying_35 fr_12_37 rfl rfl ?_
    refine ev_st dX12_readSaying_38 rfl rfl ?_
    refine ev_iconst (v := 1) dX12_readSaying_39 (by decide) ?_
    refine ev_iaddN (a := k) (b := 1) (c := k + 1) dX12_readSaying_40 rfl rfl rfl ?_
    refine ev_iald (j := k + 1) (v := 1) dX12_readSaying_41 rfl rfl (by omega) (by decide) ti_wr_at ?_
    refine ev_if_ne (t := 51) dX12_readSaying_42 (by decide) (fun _ => ?_) (fun q => absurd q (by decide))
    have hR4 : mR 6 (ti_wr I3 8 (k + 1) 1) R t E N T (y2 t E s) := by rw [y2, if_pos (if01 c_25)]; exact mR8 hR3
    refine ev_st dX12_readSaying_51 rfl rfl ?_
    refine ev_getC dX12_readSaying_52 fr_12_37 rfl rfl ?_
    refine ev_st dX12_readSaying_55 rfl rfl ?_
    refine ev_iconst (v := 2) dX12_readSaying_56 (by decide) ?_
    refine ev_iaddN (a := k) (b := 2) (c := k + 2) dX12_readSaying_57 rfl rfl rfl ?_
    refine ev_st dX12_readSaying_58 rfl rfl ?_
    refine ev_bipush (v := 48) dX12_readSaying_59 (by decide) ?_
    refine ev_bipush (v := 10) dX12_readSaying_61 (by decide) ?_
    refine ev_call dX12_readSaying_63 rfl rfl mr_12_143 rfl rfl rfl (c_one (s := y2 t E s) (f := 48) (m := 10) hR4 (by decide) (by decide)) ?_
    rintro _ _ ⟨e1, I5, rfl, hx5, hR5⟩
    rw [one_num] at e1 hR5
    obtain rfl : _ = some (Value.int (nI (yHm t E s))) := e1
    show Ev lyM (d + 5) hX12_readSaying 66 [some (.ref 0), some (.int (nI k)), none, none] [.int (nI (yHm t E s)), .int (nI (k + 2)), .ref 8] (I5, J, R) _
    refine ev_iast (j := k + 2) dX12_readSaying_66 rfl rfl (by omega) (by decide) ?_
    refine ev_st dX12_readSaying_67 rfl rfl ?_
    refine ev_getC dX12_readSaying_68 fr_12_37 rfl rfl ?_
    refine ev_st dX12_readSaying_71 rfl rfl ?_
    refine ev_iconst (v := 3) dX12_readSaying_72 (by decide) ?_
    refine ev_iaddN (a := k) (b := 3) (c := k + 3) dX12_readSaying_73 rfl rfl rfl ?_
    refine ev_iconst (v := 0) dX12_readSaying_74 (by decide) ?_
    refine ev_iast (j := k + 3) dX12_readSaying_75 rfl rfl (by omega) (by decide) ?_
    refine ev_iconst (v := -1) dX12_readSaying_76 (by decide) ?_
    refine ev_st (L' := [some (.ref 0), some (.int (nI k)), some (.int ((-1))), none]) dX12_readSaying_77 rfl rfl ?_
    refine (c_letters (I := ti_wr (ti_wr I5 8 (k + 2) (nI (yHm t E s))) 8 (k + 3) 0) (J := J) (R := R) (d := d) (T := T) (K := kn t E 5 0 (y3 t E s) 0) (by omega) 6 0 0 _ 0 (y3 t E s) _ (by omega) (by omega) (by omega) k8F.rf (fun _ _ => rfl) ti_wr_at (mR8 (mR8 hR5)) rfl).imp ?_
    rintro r M' ⟨e1, I6, e2, g1, g2, g3, g4⟩
    have hfr : k8F k I (ti_wr (ti_wr I5 8 (k + 2) (nI (yHm t E s))) 8 (k + 3) 0) := ((((((((k8F.rf (k := k)).r hx2).w (by omega) (by omega)).r hx3).w (by omega) (by omega)).r hx5).w (i := k + 2) (by omega) (by omega)).w (i := k + 3) (by omega) (by omega))
    refine ⟨e1, I6, e2, ⟨fun p a b => (g1.1 p a b).trans (hfr.1 p a b), fun j a b => (g1.2.1 j a b).trans (hfr.2.1 j a b), fun j a => (g1.2.2 j a).trans (hfr.2.2 j a)⟩, ?_, ?_, ?_, g3, g4⟩
    · rw [g2 k (by omega), wr_ne (by omega), wr_ne (by omega), hx5.p 8 rfl, wr_ne (by omega), hx3.p 8 rfl, ti_wr_at]
    · rw [g2 (k + 1) (by omega), wr_ne (by omega), wr_ne (by omega), hx5.p 8 rfl, ti_wr_at]; rw [show yP t E s = true from decide_eq_true (if01 c_25)]; rfl
    · rw [g2 (k + 2) (by omega), wr_ne (by omega), ti_wr_at]
set_option maxHeartbeats 1000000 in
theorem c_sayingsE {I : Nat → Nat → Int32} {J : Nat → Nat → Int64} {R : Nat → Nat → Value} {t : Nat → Nat} {d : Nat} (hT : mT I t 0) : Cal lyM (d + 7) hX12_sayings 4 [.ref 0] (I, J, R) (fun r M' => r = some (.int 0) ∧ ∃ I3 R3, M' = (I3, J, R3) ∧ bF8 I I3 ∧ R3 0 19 = R 0 19) := by
  have hT0 : mT (ti_wr I 0 12 0) t 0 := ⟨hT.1, hT.2.1, hT.2.2⟩
  show Ev lyM (d + 7) hX12_sayings 0 [some (.ref 0), none, none, none] [] (I, J, R) _
  refine ev_st dX12_sayings_0 rfl rfl ?_
  refine ev_iconst (v := 0) dX12_sayings_1 (by decide) ?_
  refine ev_putI dX12_sayings_2 fr_12_89 rfl rfl ?_
  refine ev_st dX12_sayings_5 rfl rfl ?_
  refine ev_bipush (v := 76) dX12_sayings_6 (by decide) ?_
  refine ev_call dX12_sayings_8 rfl rfl mr_12_153 rfl rfl rfl (c_beginText (I := ti_wr I 0 12 0) (T := 76) hT0 (by decide) rfl) ?_
  rintro _ _ ⟨rfl, I2, R2, rfl, hb2, h19, hR2⟩
  have hb0 : bF8 I I2 := ⟨fun p a b => (hb2.1 p a).trans (ti_wr_n a), fun k a b c d e f g => (hb2.2.1 k a b c d e f g).trans (wr_ne b), hb2.2.2.1, hb2.2.2.2⟩
  show Ev lyM (d + 7) hX12_sayings 11 [some (.ref 0), none, none, none] [] (I2, J, R2) _
  refine ev_st dX12_sayings_11 rfl rfl ?_
  refine ev_getI (v := 0) dX12_sayings_12 fr_12_111 rfl rfl hR2.2.2.1 ?_
  refine ev_if_ne (t := 20) dX12_sayings_15 (by decide) (fun q => absurd q (by decide)) (fun _ => ?_)
  refine ev_iconst (v := 0) dX12_sayings_18 (by decide) ?_
  exact ev_iret dX12_sayings_19 rfl (⟨rfl, _, _, rfl, hb0, h19⟩)
set_option maxHeartbeats 1000000 in
theorem c_sayings0 {I : Nat → Nat → Int32} {J : Nat → Nat → Int64} {R : Nat → Nat → Value} {I2 : Nat → Nat → Int32} {R2 : Nat → Nat → Value} {t : Nat → Nat} {d N m n : Nat} {w2 : Int32} {z3 : Option Value} (hm0 : I 0 6 = nI m) (hm8 : m ≤ 8) (hR2 : mR 6 I2 R2 t (min N 76) N 76 (yF t (min N 76) (yS t (min N 76) m n (gS t (min N 76) m n)))) (hw : yEnd t (min N 76) m n) (hb : bF8 I I2) (h19 : R2 0 19 = R 0 19) (h8 : (yF t (min N 76) (yS t (min N 76) m n (gS t (min N 76) m n))).1 = true → ∀ i, i < n + 1 → I2 8 (4 * i + 0) = nI (yH t (min N 76) (gS t (min N 76) m i)) ∧ I2 8 (4 * i + 1) = b2i (yP t (min N 76) (gS t (min N 76) m i)) ∧ I2 8 (4 * i + 2) = nI (yHm t (min N 76) (gS t (min N 76) m i)) ∧ I2 8 (4 * i + 3) = yK t (min N 76) (gS t (min N 76) m i)) (hok : (sFin N (yS t (min N 76) m n (gS t (min N 76) m n))).1 = false) : Ev lyM (d + 7) hX12_sayings 77 [some (.ref 0), some (.int (nI (n + 1))), some (.int w2), z3] [] (I2, J, R2) (fun r M' => ∃ n I3 R3, yEnd t (min N 76) m n ∧ M' = (I3, J, R3) ∧ R3 0 19 = R 0 19 ∧ if (sFin N (yS t (min N 76) m n (gS t (min N 76) m n))).1 = true then r = some (.int (nI (n + 1))) ∧ (∀ p, p ≠ 0 → p ≠ 1 → p ≠ 5 → p ≠ 8 → I3 p = I p) ∧ (∀ k, k ≠ 6 → k ≠ 9 → k ≠ 12 → k ≠ 14 → k ≠ 15 → k ≠ 16 → k ≠ 17 → k ≠ 22 → k ≠ 25 → k ≠ 39 → I3 0 k = I 0 k) ∧ I3 0 9 = 0 ∧ I3 0 12 = 0 ∧ I3 0 6 = nI (m + (n + 1)) ∧ (∀ k, k < 4 * m → I3 5 k = I 5 k) ∧ (∀ i, i < n + 1 → I3 5 (4 * (m + i) + 0) = nI (yH t (min N 76) (gS t (min N 76) m i)) ∧ I3 5 (4 * (m + i) + 1) = b2i (yP t (min N 76) (gS t (min N 76) m i)) ∧ I3 5 (4 * (m + i) + 2) = nI (yHm t (min N 76) (gS t (min N 76) m i)) ∧ I3 5 (4 * (m + i) + 3) = yK t (min N 76) (gS t (min N 76) m i)) ∧ (∀ i, i < n + 1 → I3 1 (16 + (m + i)) = 0) ∧ (∀ k, (k < 16 + m ∨ 24 ≤ k) → I3 1 k = I 1 k) ∧ I3 0 25 = 0 ∧ I3 0 39 = I 0 39 + 1 else r = some (.int (-1 - nI (sFin N (yS t (min N 76) m n (gS t (min N 76) m n))).2)) ∧ bF8 I I3) := by
  have hn8 := yEnd_9 hw
  refine ev_st dX12_sayings_77 rfl rfl ?_
  refine ev_call dX12_sayings_78 rfl rfl mr_12_156 rfl rfl rfl (c_right hR2) ?_
  rintro _ _ ⟨e1, I3, rfl, hx3, hR3⟩
  rw [yF_fin (by have h := hR2.2.2.2.2.2.1; omega)] at e1 hR3
  rw [show (sFin N (yS t (min N 76) m n (gS t (min N 76) m n))).1 = false from hok] at e1
  subst e1
  show Ev lyM (d + 7) hX12_sayings 81 [some (.ref 0), some (.int (nI (n + 1))), some (.int w2), z3] [.int 0] (I3, J, R2) _
  refine ev_if_ne (t := 91) dX12_sayings_81 (by decide) (fun q => absurd q (by decide)) (fun _ => ?_)
  refine ev_iconst (v := -1) dX12_sayings_84 (by decide) ?_
  refine ev_st dX12_sayings_85 rfl rfl ?_
  refine ev_getI (v := nI ((sFin N (yS t (min N 76) m n (gS t (min N 76) m n))).2)) dX12_sayings_86 fr_12_120 rfl rfl (by have h := hR3.2.2.2.2.2.2.2.2; rw [if_neg (by rw [hok]; decide)] at h; exact h.1) ?_
  refine ev_st dX12_sayings_89 rfl rfl ?_
  exact ev_iret dX12_sayings_90 rfl (⟨n, _, _, hw, rfl, h19, by rw [if_neg (by rw [hok]; decide)]; exact ⟨rfl, hb.r hx3⟩⟩)
def c5 (f g : Nat → Int32) (m b : Nat) : Nat → Int32 := fun j => if 4 * m ≤ j ∧ j < 4 * m + b then f (j - 4 * m) else g j
theorem c5_s {f g : Nat → Int32} {m b : Nat} : upd (c5 f g m b) (4 * m + b) (f b) = c5 f g m (b + 1) := by
  funext j
  by_cases h : j = 4 * m + b
  · subst h; simp only [upd, if_true, c5]; rw [if_pos (by omega), show 4 * m + b - 4 * m = b by omega]
  · rw [upd_ne h]
    simp only [c5]
    by_cases h2 : 4 * m ≤ j ∧ j < 4 * m + b
    · rw [if_pos h2, if_pos (by omega)]
    · rw [if_neg h2, if_neg (by omega)]
theorem c5_0 {f g : Nat → Int32} {m : Nat} : c5 f g m 0 = g := by funext j; simp only [c5]; rw [if_neg (by omega)]
set_option maxHeartbeats 1000000 in
theorem c_laySay {I : Nat → Nat → Int32} {J : Nat → Nat → Int64} {R : Nat → Nat → Value} {d m q : Nat} {w2 : Int32} (hmq : m + q ≤ 8) : ∀ (k b : Nat) (I2 : Nat → Nat → Int32), b ≤ q → q - b < k → (∀ p, p ≠ 0 → p ≠ 1 → I2 p = I p) → (∀ k, k ≠ 6 → I2 0 k = I 0 k) → I2 0 6 = nI (m + b) → (∀ i, i < b → I2 1 (16 + (m + i)) = 0) → (∀ k, (k < 16 + m ∨ 24 ≤ k) → I2 1 k = I 1 k) → Ev lyM (d + 7) hX12_sayings 127 [some (.ref 0), some (.int (nI q)), some (.int w2), some (.int (nI b))] [] (I2, J, R) (fun r M' => r = some (.int (nI q)) ∧ ∃ I3, M' = (I3, J, R) ∧ (∀ p, p ≠ 0 → p ≠ 1 → I3 p = I p) ∧ (∀ k, k ≠ 6 → k ≠ 25 → k ≠ 39 → I3 0 k = I 0 k) ∧ I3 0 6 = nI (m + q) ∧ (∀ i, i < q → I3 1 (16 + (m + i)) = 0) ∧ (∀ k, (k < 16 + m ∨ 24 ≤ k) → I3 1 k = I 1 k) ∧ I3 0 25 = 0 ∧ I3 0 39 = I 0 39 + 1) := by
  intro k
  induction k with
  | zero => intro b I2 h1 h2; omega
  | succ k ih =>
    intro b I2 hb hk hx2 h02 h06 hz1 h1k
    refine ev_st dX12_sayings_127 rfl rfl ?_
    refine ev_st dX12_sayings_128 rfl rfl ?_
    refine ev_ic_geN (t := 161) (a := b) (b := q) dX12_sayings_129 (by decide) rfl rfl (by omega) (by omega) (fun c_129 => ?_) (fun c_129 => ?_)
    · refine ev_st dX12_sayings_161 rfl rfl ?_
      refine ev_call dX12_sayings_162 rfl rfl mr_12_159 rfl rfl rfl (c_told) ?_
      rintro _ _ ⟨rfl, rfl⟩
      show Ev lyM (d + 7) hX12_sayings 165 [some (.ref 0), some (.int (nI q)), some (.int w2), some (.int (nI b))] [] (ti_wr (ti_wr I2 0 25 0) 0 39 (I2 0 39 + 1), J, R) _
      refine ev_st dX12_sayings_165 rfl rfl ?_
      exact ev_iret dX12_sayings_166 rfl (by have e9 : b = q := (by omega); subst e9; exact ⟨rfl, _, rfl, fun p a c => by simp only [ti_wr_n a]; exact hx2 p a c, fun k a b c => by rw [wr_ne c, wr_ne b]; exact h02 k a, h06, hz1, h1k, rfl, by rw [ti_wr_at, h02 39 (by decide)]⟩)
    · refine ev_st dX12_sayings_132 rfl rfl ?_
      refine ev_getC dX12_sayings_133 fr_12_9 rfl rfl ?_
      refine ev_bipush (v := 16) dX12_sayings_136 (by decide) ?_
      refine ev_st dX12_sayings_138 rfl rfl ?_
      refine ev_getI (v := nI (m + b)) dX12_sayings_139 fr_12_102 rfl rfl h06 ?_
      refine ev_iaddN (a := 16) (b := m + b) (c := 16 + (m + b)) dX12_sayings_142 rfl rfl rfl ?_
      refine ev_iconst (v := 0) dX12_sayings_143 (by decide) ?_
      refine ev_iast (j := 16 + (m + b)) dX12_sayings_144 rfl rfl (by omega) (by decide) ?_
      refine ev_st dX12_sayings_145 rfl rfl ?_
      refine ev_st dX12_sayings_146 rfl rfl ?_
      refine ev_getI (v := nI (m + b)) dX12_sayings_147 fr_12_102 rfl rfl h06 ?_
      refine ev_iconst (v := 1) dX12_sayings_150 (by decide) ?_
      refine ev_iaddN (a := m + b) (b := 1) (c := m + b + 1) dX12_sayings_151 rfl rfl rfl ?_
      refine ev_putI dX12_sayings_152 fr_12_102 rfl rfl ?_
      refine ev_iincN (a := b) (b := b + 1) (L' := [some (.ref 0), some (.int (nI q)), some (.int w2), some (.int (nI (b + 1)))]) dX12_sayings_155 rfl (nI_1 _) rfl ?_
      refine ev_goto (t := 127) dX12_sayings_158 (by decide) ?_
      refine ih _ _ (by omega) (by omega) (fun p a c => by rw [ti_wr_n a, ti_wr_n c]; exact hx2 p a c) (fun k hk => by rw [wr_ne hk, ti_wr_n (by decide)]; exact h02 k hk) (by rw [ti_wr_at, Nat.add_assoc]) (fun i hi => ?_) (fun k hk => by rw [ti_wr_n (by decide), wr_ne (by omega)]; exact h1k k hk)
      by_cases e : i = b
      · subst e; rw [ti_wr_n (by decide), ti_wr_at]
      · rw [ti_wr_n (by decide), wr_ne (by omega)]; exact hz1 i (by omega)
set_option maxHeartbeats 1000000 in
theorem c_cpySay {I : Nat → Nat → Int32} {J : Nat → Nat → Int64} {R : Nat → Nat → Value} {d m q : Nat} {w2 : Int32} (hmq : m + q ≤ 8) (hm0 : I 0 6 = nI m) : ∀ (k b : Nat), b ≤ 4 * q → 4 * q - b < k → Ev lyM (d + 7) hX12_sayings 93 [some (.ref 0), some (.int (nI q)), some (.int w2), some (.int (nI b))] [] (va_up I 5 (c5 (I 8) (I 5) m b), J, R) (fun r M' => r = some (.int (nI q)) ∧ ∃ I3, M' = (I3, J, R) ∧ (∀ p, p ≠ 0 → p ≠ 1 → p ≠ 5 → I3 p = I p) ∧ I3 5 = c5 (I 8) (I 5) m (4 * q) ∧ (∀ k, k ≠ 6 → k ≠ 25 → k ≠ 39 → I3 0 k = I 0 k) ∧ I3 0 6 = nI (m + q) ∧ (∀ i, i < q → I3 1 (16 + (m + i)) = 0) ∧ (∀ k, (k < 16 + m ∨ 24 ≤ k) → I3 1 k = I 1 k) ∧ I3 0 25 = 0 ∧ I3 0 39 = I 0 39 + 1) := by
  intro k
  induction k with
  | zero => intro b h1 h2; omega
  | succ k ih =>
    intro b hb hk
    refine ev_st dX12_sayings_93 rfl rfl ?_
    refine ev_iconst (v := 4) dX12_sayings_94 (by decide) ?_
    refine ev_st dX12_sayings_95 rfl rfl ?_
    refine ev_imulN (a := 4) (b := q) (c := 4 * q) dX12_sayings_96 rfl rfl rfl ?_
    refine ev_ic_geN (t := 125) (a := b) (b := 4 * q) dX12_sayings_97 (by decide) rfl rfl (by omega) (by omega) (fun c_97 => ?_) (fun c_97 => ?_)
    · refine ev_iconst (v := 0) dX12_sayings_125 (by decide) ?_
      refine ev_st (L' := [some (.ref 0), some (.int (nI q)), some (.int w2), some (.int 0)]) dX12_sayings_126 rfl rfl ?_
      obtain rfl : b = 4 * q := by omega
      refine (c_laySay (I := va_up I 5 (c5 (I 8) (I 5) m (4 * q))) (J := J) (R := R) (d := d) (w2 := w2) hmq (q + 1) 0 _ (by omega) (by omega) (fun _ _ _ => rfl) (fun _ _ => rfl) (by rw [va_up_n (by decide)]; exact hm0) (fun i hi => by omega) (fun _ _ => rfl)).imp ?_
      rintro r M' ⟨e1, I3, e2, g1, g2, g3, g4, g5, g6, g7⟩
      exact ⟨e1, I3, e2, fun p a b c => (g1 p a b).trans (va_up_n c), (g1 5 (by decide) (by decide)).trans va_up_q, fun k a b c => (g2 k a b c).trans (by rw [va_up_n (by decide)]), g3, g4, fun k hk => (g5 k hk).trans (by rw [va_up_n (by decide)]), g6, by rw [g7, va_up_n (by decide)]⟩
    · refine ev_st dX12_sayings_100 rfl rfl ?_
      refine ev_getC dX12_sayings_101 fr_12_26 rfl rfl ?_
      refine ev_iconst (v := 4) dX12_sayings_104 (by decide) ?_
      refine ev_st dX12_sayings_105 rfl rfl ?_
      refine ev_getI (v := nI m) dX12_sayings_106 fr_12_102 rfl rfl hm0 ?_
      refine ev_imulN (a := 4) (b := m) (c := 4 * m) dX12_sayings_109 rfl rfl rfl ?_
      refine ev_st dX12_sayings_110 rfl rfl ?_
      refine ev_iaddN (a := 4 * m) (b := b) (c := 4 * m + b) dX12_sayings_111 rfl rfl rfl ?_
      refine ev_st dX12_sayings_112 rfl rfl ?_
      refine ev_getC dX12_sayings_113 fr_12_37 rfl rfl ?_
      refine ev_st dX12_sayings_116 rfl rfl ?_
      refine ev_iald (j := b) (v := I 8 b) dX12_sayings_117 rfl rfl (by omega) (by decide) rfl ?_
      refine ev_iast (j := 4 * m + b) dX12_sayings_118 rfl rfl (by omega) (by decide) ?_
      refine ev_iincN (a := b) (b := b + 1) (L' := [some (.ref 0), some (.int (nI q)), some (.int w2), some (.int (nI (b + 1)))]) dX12_sayings_119 rfl (nI_1 _) rfl ?_
      refine ev_goto (t := 93) dX12_sayings_122 (by decide) ?_
      have e9 : ti_wr (va_up I 5 (c5 (I 8) (I 5) m b)) 5 (4 * m + b) (I 8 b) = va_up I 5 (c5 (I 8) (I 5) m (b + 1)) := by rw [ti_wr_up, c5_s]
      rw [e9]
      exact ih _ (by omega) (by omega)
