/-! bears by the model, nobody carries -/
theorem c_bears3 {I : Nat → Nat → Int32} {J : Nat → Nat → Int64} {R : Nat → Nat → Value} {d n : Nat} (hn : I 0 3 = nI n) (hn8 : n ≤ 8) (h0 : m_cy (I 1) n = 0) : Cal lyM (d + 96) hX12_bears 2 [.ref 0] (I, J, R) (fun r M' => r = some (.int (-3)) ∧ M' = (ti_wr I 0 12 0, J, R)) := by
  show Ev lyM (d + 96) hX12_bears 0 [some (.ref 0), none] [] (I, J, R) _
  refine ev_st dX12_bears_0 rfl rfl ?_
  refine ev_iconst (v := 0) dX12_bears_1 (by decide) ?_
  refine ev_putI dX12_bears_2 fr_12_89 rfl rfl ?_
  refine ev_st dX12_bears_5 rfl rfl ?_
  refine ev_st dX12_bears_6 rfl rfl ?_
  refine ev_getC dX12_bears_7 fr_12_9 rfl rfl ?_
  refine ev_call dX12_bears_10 rfl rfl mr_12_244 rfl rfl rfl (c_carry (I := ti_wr I 0 12 0) hn hn8) ?_
  rintro _ _ ⟨e1, rfl⟩
  rw [show m_cy (ti_wr I 0 12 0 1) n = 0 from h0] at e1
  subst e1
  show Ev lyM (d + 96) hX12_bears 13 [some (.ref 0), none] [.int 0] (ti_wr I 0 12 0, J, R) _
  refine ev_if_ne (t := 19) dX12_bears_13 (by decide) (fun q => absurd q (by decide)) (fun _ => ?_)
  refine ev_bipush (v := -3) dX12_bears_16 (by decide) ?_
  exact ev_iret dX12_bears_18 rfl (⟨rfl, rfl⟩)
