/-! rules: rule: the model, refused -/
theorem c_rule0 {I : Nat → Nat → Int32} {J : Nat → Nat → Int64} {R : Nat → Nat → Value} {t : Nat → Nat} {d N : Nat} (hT : mT I t N) (hok : (sFin N (rS4 t N)).1 = false) : Cal lyM (d + 92) hX12_rule 3 [.ref 0] (I, J, R) (fun r M' => r = some (.int (-1 - nI (sFin N (rS4 t N)).2)) ∧ ∃ I3 R3, M' = (I3, J, R3) ∧ bF I I3 ∧ R3 0 19 = R 0 19) := by
  have hT0 : mT (ti_wr I 0 12 0) t N := ⟨hT.1, hT.2.1, hT.2.2⟩
  show Ev lyM (d + 92) hX12_rule 0 [some (.ref 0), none, none] [] (I, J, R) _
  refine ev_st dX12_rule_0 rfl rfl ?_
  refine ev_iconst (v := 0) dX12_rule_1 (by decide) ?_
  refine ev_putI dX12_rule_2 fr_12_89 rfl rfl ?_
  refine ev_st dX12_rule_5 rfl rfl ?_
  refine ev_getI (v := nI N) dX12_rule_6 fr_12_105 rfl rfl hT.1 ?_
  refine ev_st (L' := [some (.ref 0), some (.int (nI N)), none]) dX12_rule_9 rfl rfl ?_
  refine ev_st dX12_rule_10 rfl rfl ?_
  refine ev_call dX12_rule_11 rfl rfl mr_12_195 rfl rfl rfl (c_readRule (I := ti_wr I 0 12 0) hT0 rfl) ?_
  rintro _ _ ⟨e1, I2, R2, rfl, hb2, h19, hR2⟩
  rw [hok] at e1
  subst e1
  show Ev lyM (d + 92) hX12_rule 14 [some (.ref 0), some (.int (nI N)), none] [.int 0] (I2, J, R2) _
  refine ev_if_ne (t := 24) dX12_rule_14 (by decide) (fun q => absurd q (by decide)) (fun _ => ?_)
  refine ev_iconst (v := -1) dX12_rule_17 (by decide) ?_
  refine ev_st dX12_rule_18 rfl rfl ?_
  refine ev_getI (v := nI ((sFin N (rS4 t N)).2)) dX12_rule_19 fr_12_120 rfl rfl (by have h := hR2.2.2.2.2.2.2.2.2; rw [if_neg (by rw [hok]; decide)] at h; exact h.1) ?_
  refine ev_st dX12_rule_22 rfl rfl ?_
  exact ev_iret dX12_rule_23 rfl (⟨rfl, _, _, rfl, ⟨fun p a => (hb2.1 p a).trans (ti_wr_n a), fun k a b c d e f g => (hb2.2.1 k a b c d e f g).trans (wr_ne b), hb2.2.2.1, hb2.2.2.2⟩, h19⟩)
