/-! rules: a rule read by the model -/
theorem mR22 {rp : Nat} {I : Nat → Nat → Int32} {R : Nat → Nat → Value} {t : Nat → Nat} {E N T : Nat} {s : PS} {v : Int32} (h : mR rp I R t E N T s) : mR rp (ti_wr I 0 22 v) R t E N T s := by
  have h0 := h.rp0
  unfold mR
  rw [wr_ne (show (14 : Nat) ≠ 22 by decide), wr_ne (show (15 : Nat) ≠ 22 by decide), wr_ne (show (16 : Nat) ≠ 22 by decide), wr_ne (show (17 : Nat) ≠ 22 by decide), ti_wr_n h0]
  exact h
theorem bF.w22 {I I2 : Nat → Nat → Int32} {v : Int32} (h : bF I I2) : bF I (ti_wr I2 0 22 v) := ⟨fun p a => (ti_wr_n a).trans (h.1 p a), fun k a b c d e f g => (wr_ne g).trans (h.2.1 k a b c d e f g), (wr_ne (by decide)).trans h.2.2.1, (wr_ne (by decide)).trans h.2.2.2⟩
/-- the state behind a rule's text -/
def rS4 (t : Nat → Nat) (N : Nat) : PS := if N = 0 then (true, 0) else (rE t (min N 40) 4 (true, 0)).1
theorem c_readRule {I : Nat → Nat → Int32} {J : Nat → Nat → Int64} {R : Nat → Nat → Value} {t : Nat → Nat} {d N : Nat} (hT : mT I t N) (h12 : I 0 12 = 0) : Cal lyM (d + 91) hX12_readRule 1 [.ref 0] (I, J, R) (fun r M' => r = some (.int (b2i (sFin N (rS4 t N)).1)) ∧ ∃ I3 R3, M' = (I3, J, R3) ∧ bF I I3 ∧ R3 0 19 = R 0 19 ∧ mR 6 I3 R3 t (min N 40) N 40 (sFin N (rS4 t N))) := by
  have hN80 := hT.2.1
  have hb01 : b2i (sFin N (rS4 t N)).1 = 0 ∨ b2i (sFin N (rS4 t N)).1 = 1 := by cases (sFin N (rS4 t N)).1; (exact Or.inl rfl); (exact Or.inr rfl)
  show Ev lyM (d + 91) hX12_readRule 0 [some (.ref 0)] [] (I, J, R) _
  refine ev_st dX12_readRule_0 rfl rfl ?_
  refine ev_bipush (v := 40) dX12_readRule_1 (by decide) ?_
  refine ev_call dX12_readRule_3 rfl rfl mr_12_153 rfl rfl rfl (c_beginText (T := 40) hT (by decide) h12) ?_
  rintro _ _ ⟨rfl, I2, R2, rfl, hb2, h19, hR2⟩
  show Ev lyM (d + 91) hX12_readRule 6 [some (.ref 0)] [] (I2, J, R2) _
  refine ev_st dX12_readRule_6 rfl rfl ?_
  refine ev_iconst (v := 0) dX12_readRule_7 (by decide) ?_
  refine ev_putZ dX12_readRule_8 fr_12_191 rfl rfl (by decide) ?_
  refine ev_st dX12_readRule_11 rfl rfl ?_
  refine ev_getI (v := nI N) dX12_readRule_12 fr_12_111 rfl rfl hR2.2.2.1 ?_
  refine ev_if_leN (t := 24) (a := N) dX12_readRule_15 (by decide) rfl (by omega) (fun c_15 => ?_) (fun c_15 => ?_)
  · refine ev_st dX12_readRule_24 rfl rfl ?_
    refine ev_call dX12_readRule_25 rfl rfl mr_12_156 rfl rfl rfl (c_right (s := rS4 t N) (by rw [rS4, if_pos (by omega)]; exact mR22 hR2)) ?_
    rintro _ _ ⟨rfl, I4, rfl, hx4, hR4⟩
    show Ev lyM (d + 91) hX12_readRule 28 [some (.ref 0)] [.int (b2i (sFin N (rS4 t N)).1)] (I4, J, R2) _
    exact ev_zret dX12_readRule_28 rfl (by first | exact Or.inl rfl | exact Or.inr rfl | assumption) (⟨rfl, _, _, rfl, ((hb2.w22).r hx4), h19, hR4⟩)
  · refine ev_st dX12_readRule_18 rfl rfl ?_
    refine ev_iconst (v := 0) dX12_readRule_19 (by decide) ?_
    refine ev_call dX12_readRule_20 rfl rfl mr_12_185 rfl rfl rfl (c_rE (fl := 0) hR2.t (by omega) 4 (Nat.le_refl _) (ti_wr I2 0 22 0) J R2 (true, 0) (d + 90) (by simp only [gF]; omega) (mR22 hR2) (by rw [ti_wr_at])) ?_
    rintro _ _ ⟨x, I3, rfl, rfl, hx3, hR3, _⟩
    show Ev lyM (d + 91) hX12_readRule 23 [some (.ref 0)] [.int x] (I3, J, R2) _
    refine ev_st dX12_readRule_23 rfl rfl ?_
    refine ev_st dX12_readRule_24 rfl rfl ?_
    refine ev_call dX12_readRule_25 rfl rfl mr_12_156 rfl rfl rfl (c_right (s := rS4 t N) (by rw [rS4, if_neg (by omega)]; exact hR3)) ?_
    rintro _ _ ⟨rfl, I4, rfl, hx4, hR4⟩
    show Ev lyM (d + 91) hX12_readRule 28 [some (.ref 0)] [.int (b2i (sFin N (rS4 t N)).1)] (I4, J, R2) _
    exact ev_zret dX12_readRule_28 rfl (by first | exact Or.inl rfl | exact Or.inr rfl | assumption) (⟨rfl, _, _, rfl, (((hb2.w22).r hx3).r hx4), h19, hR4⟩)
