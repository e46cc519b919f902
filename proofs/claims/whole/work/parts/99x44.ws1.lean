/-! the law's start: what the tables and the Statement's premises give -/
theorem w_arr {args : Array Value} {s : State} {ty : FieldType} (h : (Cond.arrayClass ty).before args s = true) : ∃ cA, s.vm.findClass ("[" ++ ty.toString) = some cA ∧ ArrOfT s cA ty := by
  obtain ⟨c, k, comp, h1, h2, h3⟩ := Cond.arrayClass_spec h
  exact ⟨c, h1, fun n z => ⟨fun k h => (by cases h), k, h2, comp, h3⟩⟩
theorem w_ref {s : State} (h : va_AO RX7 s) : ∃ cA, ArrOfT s cA (.object RX7) ∧ va_RA s cA (.object RX7) := by
  obtain ⟨comp, c, k, h1, -, h2, h3, h4⟩ := Cond.arrayOver_spec h
  exact ⟨c, fun n z => ⟨fun k h => (by cases h), k, h2, comp, h3⟩, k, comp, h2, h3, h1, h4⟩
theorem w_cls {args : Array Value} {s : State} (hts : ∀ w ∈ ti_T, w.before args s = true) : ∀ c : Nat, ∃ x : ClassId × (Nat → Nat), ∀ q, vwCl[c]? = some q → u_Kn s q.1 q.2.1 q.2.2 x.1 x.2 := by
  have key : ∀ {C : String} {T : u_T} {N : Nat}, ti_KOK (C, T, N) → Cond.instantiable C N ∈ ti_T → ∃ x : ClassId × (Nat → Nat), ∀ q, some (C, T, N) = some q → u_Kn s q.1 q.2.1 q.2.2 x.1 x.2 := by
    intro C T N hk hi
    obtain ⟨cC, iS, h⟩ := u_known hts hk.1 (hts _ hi)
    exact ⟨(cC, iS), fun q hq => by cases hq; exact h⟩
  intro c
  match c with
  | 0 => exact key ti_kok_0 xw_n_0
  | 1 => exact key ti_kok_1 xw_n_1
  | 2 => exact key ti_kok_2 xw_n_2
  | 3 => exact key ti_kok_3 xw_n_3
  | 4 => exact key ti_kok_4 xw_n_4
  | 5 => exact key ti_kok_5 xw_n_5
  | 6 => exact key ti_kok_6 xw_n_6
  | 7 => exact key ti_kok_7 xw_n_7
  | 8 => exact key ti_kok_8 xw_n_8
  | 9 => exact key ti_kok_9 xw_n_9
  | 10 => exact key ti_kok_10 xw_n_10
  | 11 => exact key ti_kok_11 xl_n_11
  | 12 => exact key ti_kok_12 xl_n_12
  | n + 13 => exact ⟨(0, fun _ => 0), fun q hq => by simp [vwCl] at hq⟩
theorem w_K {args : Array Value} {s : State} (hts : ∀ w ∈ ti_T, w.before args s = true) (hAO : va_AO RX7 s) : ∃ (D : va_G) (ca : Nat → ClassId), va_K D vwCl (ti_tys ca) s := by
  obtain ⟨F, hF⟩ := Classical.skolem.mp (w_cls hts)
  obtain ⟨c0, a0, b0⟩ := w_arr (hts _ xw_a_int)
  obtain ⟨c1, a1, b1⟩ := w_arr (hts _ xw_a_byte)
  obtain ⟨c2, a2, b2⟩ := w_arr (hts _ xw_a_char)
  obtain ⟨c3, a3, b3⟩ := w_arr (hts _ xw_a_boolean)
  obtain ⟨c4, a4, b4⟩ := w_arr (hts _ xw_a_long)
  obtain ⟨c5, a5, b5⟩ := w_ref hAO
  refine ⟨(fun c => (F c).1, fun c => (F c).2), fun k => [c0, c1, c2, c3, c4, c5].getD k 0, fun c q hq => hF c q hq, fun k q hq => ?_⟩
  match k, hq with
  | 0, hq => cases hq; exact ⟨b0, a0⟩
  | 1, hq => cases hq; exact ⟨b1, a1⟩
  | 2, hq => cases hq; exact ⟨b2, a2⟩
  | 3, hq => cases hq; exact ⟨b3, a3⟩
  | 4, hq => cases hq; exact ⟨b4, a4⟩
  | 5, hq => cases hq; exact ⟨a5, b5⟩
  | n + 6, hq => simp [ti_tys] at hq
