/-! texts: numbers read by the class; opening and closing; signs appended -/
/-- at most m digits from a place on: the number, the place behind it -/
def sdig (t : Nat → Nat) (E : Nat) : Nat → Nat → Nat → Nat × Nat
  | 0, v, a => (v, a)
  | m + 1, v, a => if a < E ∧ 48 ≤ t a ∧ t a ≤ 57 then sdig t E m (v * 10 + (t a - 48)) (a + 1) else (v, a)
def sNum (t : Nat → Nat) (E m lo hi : Nat) (s : PS) : Nat × PS := if s.1 = true then (if (sdig t E m 0 s.2).2 = s.2 then (0, (false, s.2)) else if (sdig t E m 0 s.2).1 < lo ∨ hi < (sdig t E m 0 s.2).1 then ((sdig t E m 0 s.2).1, (false, (sdig t E m 0 s.2).2 - 1)) else ((sdig t E m 0 s.2).1, (true, (sdig t E m 0 s.2).2))) else (0, s)
theorem dg_ok {t : Nat → Nat} {E a : Nat} (ht : ∀ k, k < E → t k < 256) (h1 : ¬ pk t E (true, a) < 48) (h2 : ¬ 57 < pk t E (true, a)) : a < E ∧ 48 ≤ t a ∧ t a ≤ 57 ∧ pk t E (true, a) = nI (t a) := by
  unfold pk at h1 h2 ⊢
  rw [if_pos rfl] at h1 h2 ⊢
  simp only at h1 h2 ⊢
  by_cases e : a < E
  · rw [if_pos e] at h1 h2 ⊢
    have h256 := ht _ e
    rw [show (48 : Int32) = nI 48 from rfl, nI_ltI (by omega) (by decide)] at h1
    rw [show (57 : Int32) = nI 57 from rfl, nI_ltI (by decide) (by omega)] at h2
    exact ⟨e, by omega, by omega, rfl⟩
  · rw [if_neg e] at h1
    exact absurd (show (-1 : Int32) < 48 by decide) h1
theorem dg_no {t : Nat → Nat} {E a : Nat} (h : pk t E (true, a) < 48 ∨ 57 < pk t E (true, a)) (ht : ∀ k, k < E → t k < 256) : ¬ (a < E ∧ 48 ≤ t a ∧ t a ≤ 57) := by
  rintro ⟨e, e1, e2⟩
  unfold pk at h
  rw [if_pos rfl] at h
  simp only at h
  rw [if_pos e, show (48 : Int32) = nI 48 from rfl, show (57 : Int32) = nI 57 from rfl, nI_ltI (by omega) (by decide), nI_ltI (by decide) (by omega)] at h
  omega
theorem sdig_s {t : Nat → Nat} {E m v a : Nat} (h : a < E ∧ 48 ≤ t a ∧ t a ≤ 57) : sdig t E (m + 1) v a = sdig t E m (v * 10 + (t a - 48)) (a + 1) := by rw [sdig, if_pos h]
theorem sdig_n {t : Nat → Nat} {E m v a : Nat} (h : ¬ (a < E ∧ 48 ≤ t a ∧ t a ≤ 57)) : sdig t E m v a = (v, a) := by
  cases m
  · rfl
  · rw [sdig, if_neg h]
theorem k_rnE {I : Nat → Nat → Int32} {J : Nat → Nat → Int64} {R : Nat → Nat → Value} {t : Nat → Nat} {d E N m lo hi e : Nat} (hR : cR I t E N (false, e)) (hm1 : 1 ≤ m) (hm3 : m ≤ 3) (hlo : lo ≤ 999) (hhi : hi ≤ 999) : Cal lyC (d + 1) hX9_readNumber 7 [.ref 1, .int (nI m), .int (nI lo), .int (nI hi)] (I, J, R) (fun r M' => r = some (.int 0) ∧ M' = (I, J, R)) := by
  show Ev lyC (d + 1) hX9_readNumber 0 [some (.ref 1), some (.int (nI m)), some (.int (nI lo)), some (.int (nI hi)), none, none, none] [] (I, J, R) _
  refine ev_iconst (v := 0) dX9_readNumber_0 (by decide) ?_
  refine ev_st (L' := [some (.ref 1), some (.int (nI m)), some (.int (nI lo)), some (.int (nI hi)), some (.int 0), none, none]) dX9_readNumber_1 rfl rfl ?_
  refine ev_iconst (v := 0) dX9_readNumber_3 (by decide) ?_
  refine ev_st (L' := [some (.ref 1), some (.int (nI m)), some (.int (nI lo)), some (.int (nI hi)), some (.int 0), some (.int 0), none]) dX9_readNumber_4 rfl rfl ?_
  refine ev_st dX9_readNumber_6 rfl rfl ?_
  refine ev_call dX9_readNumber_7 rfl rfl mr_9_34 rfl rfl rfl (k_peekE hR) ?_
  rintro _ _ ⟨rfl, rfl⟩
  show Ev lyC (d + 1) hX9_readNumber 10 [some (.ref 1), some (.int (nI m)), some (.int (nI lo)), some (.int (nI hi)), some (.int 0), some (.int 0), none] [.int ((-1))] (I, J, R) _
  refine ev_st (L' := [some (.ref 1), some (.int (nI m)), some (.int (nI lo)), some (.int (nI hi)), some (.int 0), some (.int 0), some (.int ((-1)))]) dX9_readNumber_10 rfl rfl ?_
  refine ev_st dX9_readNumber_12 rfl rfl ?_
  refine ev_st dX9_readNumber_14 rfl rfl ?_
  refine ev_ic_geN (t := 61) (a := 0) (b := m) dX9_readNumber_15 (by decide) rfl rfl (by omega) (by omega) (fun c_15 => ?_) (fun c_15 => ?_)
  · omega
  · refine ev_st dX9_readNumber_18 rfl rfl ?_
    refine ev_bipush (v := 48) dX9_readNumber_20 (by decide) ?_
    refine ev_ic_lt (t := 61) (x := (-1)) (y := 48) dX9_readNumber_22 (by decide) (fun c_22 => ?_) (fun c_22 => ?_)
    · refine ev_st dX9_readNumber_61 rfl rfl ?_
      refine ev_if_ne (t := 73) dX9_readNumber_63 (by decide) (fun q => absurd q (by decide)) (fun _ => ?_)
      refine ev_st dX9_readNumber_66 rfl rfl ?_
      refine ev_call dX9_readNumber_67 rfl rfl mr_9_45 rfl rfl rfl (k_refuseE hR) ?_
      rintro _ _ ⟨rfl, rfl⟩
      show Ev lyC (d + 1) hX9_readNumber 70 [some (.ref 1), some (.int (nI m)), some (.int (nI lo)), some (.int (nI hi)), some (.int 0), some (.int 0), some (.int ((-1)))] [] (I, J, R) _
      refine ev_goto (t := 95) dX9_readNumber_70 (by decide) ?_
      refine ev_st dX9_readNumber_95 rfl rfl ?_
      exact ev_iret dX9_readNumber_97 rfl (⟨rfl, rfl⟩)
    · exact absurd (show (-1 : Int32) < 48 by decide) c_22
theorem rn_post0 {I I3 : Nat → Nat → Int32} {J : Nat → Nat → Int64} {R : Nat → Nat → Value} {t : Nat → Nat} {E N m lo hi a v a2 : Nat} (hr : (v, a2) = sdig t E m 0 a) (h : a2 = a ∧ v = 0) (hx : xC I I3) (hR : cR I3 t E N (false, a2)) : some (Value.int (nI v)) = some (.int (nI (sNum t E m lo hi (true, a)).1)) ∧ ∃ I4, (I3, J, R) = (I4, J, R) ∧ xC I I4 ∧ cR I4 t E N (sNum t E m lo hi (true, a)).2 := by
  obtain ⟨rfl, rfl⟩ := h
  rw [sNum, if_pos rfl, if_pos (by rw [← hr])]
  exact ⟨rfl, _, rfl, hx, hR⟩
theorem rn_post1 {I I3 : Nat → Nat → Int32} {J : Nat → Nat → Int64} {R : Nat → Nat → Value} {t : Nat → Nat} {E N m lo hi a v a2 : Nat} (hr : (v, a2) = sdig t E m 0 a) (h : ¬ a2 = a) (hv : v < lo ∨ hi < v) (hx : xC I I3) (hR : cR I3 t E N (false, a2 - 1)) : some (Value.int (nI v)) = some (.int (nI (sNum t E m lo hi (true, a)).1)) ∧ ∃ I4, (I3, J, R) = (I4, J, R) ∧ xC I I4 ∧ cR I4 t E N (sNum t E m lo hi (true, a)).2 := by
  rw [sNum, if_pos rfl, if_neg (by rw [← hr]; exact h), if_pos (by rw [← hr]; exact hv), ← hr]
  exact ⟨rfl, _, rfl, hx, hR⟩
theorem rn_post2 {I I3 : Nat → Nat → Int32} {J : Nat → Nat → Int64} {R : Nat → Nat → Value} {t : Nat → Nat} {E N m lo hi a v a2 : Nat} (hr : (v, a2) = sdig t E m 0 a) (h : ¬ a2 = a) (hv : ¬ (v < lo ∨ hi < v)) (hx : xC I I3) (hR : cR I3 t E N (true, a2)) : some (Value.int (nI v)) = some (.int (nI (sNum t E m lo hi (true, a)).1)) ∧ ∃ I4, (I3, J, R) = (I4, J, R) ∧ xC I I4 ∧ cR I4 t E N (sNum t E m lo hi (true, a)).2 := by
  rw [sNum, if_pos rfl, if_neg (by rw [← hr]; exact h), if_neg (by rw [← hr]; exact hv), ← hr]
  exact ⟨rfl, _, rfl, hx, hR⟩
set_option maxHeartbeats 1000000 in
theorem k_rnF {I : Nat → Nat → Int32} {J : Nat → Nat → Int64} {R : Nat → Nat → Value} {t : Nat → Nat} {d E N m lo hi a : Nat} (hR : cR I t E N (true, a)) (hm1 : 1 ≤ m) (hm3 : m ≤ 3) (hlo : lo ≤ 999) (hhi : hi ≤ 999) : Cal lyC (d + 1) hX9_readNumber 7 [.ref 1, .int (nI m), .int (nI lo), .int (nI hi)] (I, J, R) (fun r M' => r = some (.int (nI (sNum t E m lo hi (true, a)).1)) ∧ ∃ I3, M' = (I3, J, R) ∧ xC I I3 ∧ cR I3 t E N (sNum t E m lo hi (true, a)).2) := by
  have loop : ∀ (k b v a2 : Nat) (I2 : Nat → Nat → Int32), b ≤ m → m - b < k → a2 = a + b → v < 10 ^ b → (b = 0 → v = 0) → xC I I2 → cR I2 t E N (true, a2) → sdig t E (m - b) v a2 = sdig t E m 0 a → Ev lyC (d + 1) hX9_readNumber 12 [some (.ref 1), some (.int (nI m)), some (.int (nI lo)), some (.int (nI hi)), some (.int (nI v)), some (.int (nI b)), some (.int (pk t E (true, a2)))] [] (I2, J, R) (fun r M' => r = some (.int (nI (sNum t E m lo hi (true, a)).1)) ∧ ∃ I3, M' = (I3, J, R) ∧ xC I I3 ∧ cR I3 t E N (sNum t E m lo hi (true, a)).2) := by
    intro k
    induction k with
    | zero => intro b v a2 I2 h1 h2; omega
    | succ k ih =>
      intro b v a2 I2 hb hk ha2 hv hv0 hx2 hR2 hT
      have hv3 : v < 1000 := Nat.lt_of_lt_of_le hv (Nat.pow_le_pow_right (by decide) (show b ≤ 3 by omega) : 10 ^ b ≤ 10 ^ 3)
      have hE80 : E ≤ 80 := Nat.le_trans hR2.2.2.2.1 hR2.2.1
      have haE : a2 ≤ E := hR2.2.2.2.2.2.1
      have h72 : I2 1 2 = nI a2 := by have h := hR2.2.2.2.2.2.2; rw [if_pos rfl] at h; exact h.2
      refine ev_st dX9_readNumber_12 rfl rfl ?_
      refine ev_st dX9_readNumber_14 rfl rfl ?_
      refine ev_ic_geN (t := 61) (a := b) (b := m) dX9_readNumber_15 (by decide) rfl rfl (by omega) (by omega) (fun c_15 => ?_) (fun c_15 => ?_)
      · refine ev_st dX9_readNumber_61 rfl rfl ?_
        refine ev_if_neN (t := 73) (a := b) dX9_readNumber_63 (by decide) rfl (by omega) (fun c_63 => ?_) (fun c_63 => ?_)
        · refine ev_st dX9_readNumber_73 rfl rfl ?_
          refine ev_st dX9_readNumber_75 rfl rfl ?_
          refine ev_ic_ltN (t := 85) (a := v) (b := lo) dX9_readNumber_76 (by decide) rfl rfl (by omega) (by omega) (fun c_76 => ?_) (fun c_76 => ?_)
          · refine ev_st dX9_readNumber_85 rfl rfl ?_
            refine ev_st dX9_readNumber_86 rfl rfl ?_
            refine ev_getI (v := nI a2) dX9_readNumber_87 fr_9_19 rfl rfl h72 ?_
            refine ev_iconst (v := 1) dX9_readNumber_90 (by decide) ?_
            refine ev_isubN (a := a2) (b := 1) (c := a2 - 1) dX9_readNumber_91 rfl rfl (by omega) rfl ?_
            refine ev_putI dX9_readNumber_92 fr_9_31 rfl rfl ?_
            refine ev_st dX9_readNumber_95 rfl rfl ?_
            exact ev_iret dX9_readNumber_97 rfl (rn_post1 (by rw [show m - b = 0 by omega] at hT; exact hT) (by omega) (Or.inl c_76) (hx2.w) (hR2.flt (by omega)))
          · refine ev_st dX9_readNumber_79 rfl rfl ?_
            refine ev_st dX9_readNumber_81 rfl rfl ?_
            refine ev_ic_leN (t := 95) (a := v) (b := hi) dX9_readNumber_82 (by decide) rfl rfl (by omega) (by omega) (fun c_82 => ?_) (fun c_82 => ?_)
            · refine ev_st dX9_readNumber_95 rfl rfl ?_
              exact ev_iret dX9_readNumber_97 rfl (rn_post2 (by rw [show m - b = 0 by omega] at hT; exact hT) (by omega) (by omega) hx2 hR2)
            · refine ev_st dX9_readNumber_85 rfl rfl ?_
              refine ev_st dX9_readNumber_86 rfl rfl ?_
              refine ev_getI (v := nI a2) dX9_readNumber_87 fr_9_19 rfl rfl h72 ?_
              refine ev_iconst (v := 1) dX9_readNumber_90 (by decide) ?_
              refine ev_isubN (a := a2) (b := 1) (c := a2 - 1) dX9_readNumber_91 rfl rfl (by omega) rfl ?_
              refine ev_putI dX9_readNumber_92 fr_9_31 rfl rfl ?_
              refine ev_st dX9_readNumber_95 rfl rfl ?_
              exact ev_iret dX9_readNumber_97 rfl (rn_post1 (by rw [show m - b = 0 by omega] at hT; exact hT) (by omega) (Or.inr c_82) (hx2.w) (hR2.flt (by omega)))
        · refine ev_st dX9_readNumber_66 rfl rfl ?_
          refine ev_call dX9_readNumber_67 rfl rfl mr_9_45 rfl rfl rfl (k_refuseF (a := a2) hR2) ?_
          rintro _ _ ⟨rfl, rfl⟩
          show Ev lyC (d + 1) hX9_readNumber 70 [some (.ref 1), some (.int (nI m)), some (.int (nI lo)), some (.int (nI hi)), some (.int (nI v)), some (.int (nI b)), some (.int (pk t E (true, a2)))] [] (ti_wr I2 1 4 (nI a2), J, R) _
          refine ev_goto (t := 95) dX9_readNumber_70 (by decide) ?_
          refine ev_st dX9_readNumber_95 rfl rfl ?_
          exact ev_iret dX9_readNumber_97 rfl (rn_post0 (by rw [show m - b = 0 by omega] at hT; exact hT) (by omega) (hx2.w) (hR2.flt (by omega)))
      · refine ev_st dX9_readNumber_18 rfl rfl ?_
        refine ev_bipush (v := 48) dX9_readNumber_20 (by decide) ?_
        refine ev_ic_lt (t := 61) (x := pk t E (true, a2)) (y := 48) dX9_readNumber_22 (by decide) (fun c_22 => ?_) (fun c_22 => ?_)
        · refine ev_st dX9_readNumber_61 rfl rfl ?_
          refine ev_if_neN (t := 73) (a := b) dX9_readNumber_63 (by decide) rfl (by omega) (fun c_63 => ?_) (fun c_63 => ?_)
          · refine ev_st dX9_readNumber_73 rfl rfl ?_
            refine ev_st dX9_readNumber_75 rfl rfl ?_
            refine ev_ic_ltN (t := 85) (a := v) (b := lo) dX9_readNumber_76 (by decide) rfl rfl (by omega) (by omega) (fun c_76 => ?_) (fun c_76 => ?_)
            · refine ev_st dX9_readNumber_85 rfl rfl ?_
              refine ev_st dX9_readNumber_86 rfl rfl ?_
              refine ev_getI (v := nI a2) dX9_readNumber_87 fr_9_19 rfl rfl h72 ?_
              refine ev_iconst (v := 1) dX9_readNumber_90 (by decide) ?_
              refine ev_isubN (a := a2) (b := 1) (c := a2 - 1) dX9_readNumber_91 rfl rfl (by omega) rfl ?_
              refine ev_putI dX9_readNumber_92 fr_9_31 rfl rfl ?_
              refine ev_st dX9_readNumber_95 rfl rfl ?_
              exact ev_iret dX9_readNumber_97 rfl (rn_post1 (by rw [sdig_n (dg_no (Or.inl c_22) hR2.t)] at hT; exact hT) (by omega) (Or.inl c_76) (hx2.w) (hR2.flt (by omega)))
            · refine ev_st dX9_readNumber_79 rfl rfl ?_
              refine ev_st dX9_readNumber_81 rfl rfl ?_
              refine ev_ic_leN (t := 95) (a := v) (b := hi) dX9_readNumber_82 (by decide) rfl rfl (by omega) (by omega) (fun c_82 => ?_) (fun c_82 => ?_)
              · refine ev_st dX9_readNumber_95 rfl rfl ?_
                exact ev_iret dX9_readNumber_97 rfl (rn_post2 (by rw [sdig_n (dg_no (Or.inl c_22) hR2.t)] at hT; exact hT) (by omega) (by omega) hx2 hR2)
              · refine ev_st dX9_readNumber_85 rfl rfl ?_
                refine ev_st dX9_readNumber_86 rfl rfl ?_
                refine ev_getI (v := nI a2) dX9_readNumber_87 fr_9_19 rfl rfl h72 ?_
                refine ev_iconst (v := 1) dX9_readNumber_90 (by decide) ?_
                refine ev_isubN (a := a2) (b := 1) (c := a2 - 1) dX9_readNumber_91 rfl rfl (by omega) rfl ?_
                refine ev_putI dX9_readNumber_92 fr_9_31 rfl rfl ?_
                refine ev_st dX9_readNumber_95 rfl rfl ?_
                exact ev_iret dX9_readNumber_97 rfl (rn_post1 (by rw [sdig_n (dg_no (Or.inl c_22) hR2.t)] at hT; exact hT) (by omega) (Or.inr c_82) (hx2.w) (hR2.flt (by omega)))
          · refine ev_st dX9_readNumber_66 rfl rfl ?_
            refine ev_call dX9_readNumber_67 rfl rfl mr_9_45 rfl rfl rfl (k_refuseF (a := a2) hR2) ?_
            rintro _ _ ⟨rfl, rfl⟩
            show Ev lyC (d + 1) hX9_readNumber 70 [some (.ref 1), some (.int (nI m)), some (.int (nI lo)), some (.int (nI hi)), some (.int (nI v)), some (.int (nI b)), some (.int (pk t E (true, a2)))] [] (ti_wr I2 1 4 (nI a2), J, R) _
            refine ev_goto (t := 95) dX9_readNumber_70 (by decide) ?_
            refine ev_st dX9_readNumber_95 rfl rfl ?_
            exact ev_iret dX9_readNumber_97 rfl (rn_post0 (by rw [sdig_n (dg_no (Or.inl c_22) hR2.t)] at hT; exact hT) (by omega) (hx2.w) (hR2.flt (by omega)))
        · refine ev_st dX9_readNumber_25 rfl rfl ?_
          refine ev_bipush (v := 57) dX9_readNumber_27 (by decide) ?_
          refine ev_ic_gt (t := 61) (x := pk t E (true, a2)) (y := 57) dX9_readNumber_29 (by decide) (fun c_29 => ?_) (fun c_29 => ?_)
          · refine ev_st dX9_readNumber_61 rfl rfl ?_
            refine ev_if_neN (t := 73) (a := b) dX9_readNumber_63 (by decide) rfl (by omega) (fun c_63 => ?_) (fun c_63 => ?_)
            · refine ev_st dX9_readNumber_73 rfl rfl ?_
              refine ev_st dX9_readNumber_75 rfl rfl ?_
              refine ev_ic_ltN (t := 85) (a := v) (b := lo) dX9_readNumber_76 (by decide) rfl rfl (by omega) (by omega) (fun c_76 => ?_) (fun c_76 => ?_)
              · refine ev_st dX9_readNumber_85 rfl rfl ?_
                refine ev_st dX9_readNumber_86 rfl rfl ?_
                refine ev_getI (v := nI a2) dX9_readNumber_87 fr_9_19 rfl rfl h72 ?_
                refine ev_iconst (v := 1) dX9_readNumber_90 (by decide) ?_
                refine ev_isubN (a := a2) (b := 1) (c := a2 - 1) dX9_readNumber_91 rfl rfl (by omega) rfl ?_
                refine ev_putI dX9_readNumber_92 fr_9_31 rfl rfl ?_
                refine ev_st dX9_readNumber_95 rfl rfl ?_
                exact ev_iret dX9_readNumber_97 rfl (rn_post1 (by rw [sdig_n (dg_no (Or.inr c_29) hR2.t)] at hT; exact hT) (by omega) (Or.inl c_76) (hx2.w) (hR2.flt (by omega)))
              · refine ev_st dX9_readNumber_79 rfl rfl ?_
                refine ev_st dX9_readNumber_81 rfl rfl ?_
                refine ev_ic_leN (t := 95) (a := v) (b := hi) dX9_readNumber_82 (by decide) rfl rfl (by omega) (by omega) (fun c_82 => ?_) (fun c_82 => ?_)
                · refine ev_st dX9_readNumber_95 rfl rfl ?_
                  exact ev_iret dX9_readNumber_97 rfl (rn_post2 (by rw [sdig_n (dg_no (Or.inr c_29) hR2.t)] at hT; exact hT) (by omega) (by omega) hx2 hR2)
                · refine ev_st dX9_readNumber_85 rfl rfl ?_
                  refine ev_st dX9_readNumber_86 rfl rfl ?_
                  refine ev_getI (v := nI a2) dX9_readNumber_87 fr_9_19 rfl rfl h72 ?_
                  refine ev_iconst (v := 1) dX9_readNumber_90 (by decide) ?_
                  refine ev_isubN (a := a2) (b := 1) (c := a2 - 1) dX9_readNumber_91 rfl rfl (by omega) rfl ?_
                  refine ev_putI dX9_readNumber_92 fr_9_31 rfl rfl ?_
                  refine ev_st dX9_readNumber_95 rfl rfl ?_
                  exact ev_iret dX9_readNumber_97 rfl (rn_post1 (by rw [sdig_n (dg_no (Or.inr c_29) hR2.t)] at hT; exact hT) (by omega) (Or.inr c_82) (hx2.w) (hR2.flt (by omega)))
            · refine ev_st dX9_readNumber_66 rfl rfl ?_
              refine ev_call dX9_readNumber_67 rfl rfl mr_9_45 rfl rfl rfl (k_refuseF (a := a2) hR2) ?_
              rintro _ _ ⟨rfl, rfl⟩
              show Ev lyC (d + 1) hX9_readNumber 70 [some (.ref 1), some (.int (nI m)), some (.int (nI lo)), some (.int (nI hi)), some (.int (nI v)), some (.int (nI b)), some (.int (pk t E (true, a2)))] [] (ti_wr I2 1 4 (nI a2), J, R) _
              refine ev_goto (t := 95) dX9_readNumber_70 (by decide) ?_
              refine ev_st dX9_readNumber_95 rfl rfl ?_
              exact ev_iret dX9_readNumber_97 rfl (rn_post0 (by rw [sdig_n (dg_no (Or.inr c_29) hR2.t)] at hT; exact hT) (by omega) (hx2.w) (hR2.flt (by omega)))
          · refine ev_st dX9_readNumber_32 rfl rfl ?_
            refine ev_bipush (v := 10) dX9_readNumber_34 (by decide) ?_
            refine ev_imulN (a := v) (b := 10) (c := v * 10) dX9_readNumber_36 rfl rfl rfl ?_
            refine ev_st dX9_readNumber_37 rfl rfl ?_
            refine ev_bipush (v := 48) dX9_readNumber_39 (by decide) ?_
            refine ev_isubN (a := t a2) (b := 48) (c := t a2 - 48) dX9_readNumber_41 (dg_ok hR2.t c_22 c_29).2.2.2 rfl (dg_ok hR2.t c_22 c_29).2.1 rfl ?_
            refine ev_iaddN (a := v * 10) (b := t a2 - 48) (c := v * 10 + (t a2 - 48)) dX9_readNumber_42 rfl rfl rfl ?_
            refine ev_st (L' := [some (.ref 1), some (.int (nI m)), some (.int (nI lo)), some (.int (nI hi)), some (.int (nI (v * 10 + (t a2 - 48)))), some (.int (nI b)), some (.int (pk t E (true, a2)))]) dX9_readNumber_43 rfl rfl ?_
            refine ev_iincN (a := b) (b := b + 1) (L' := [some (.ref 1), some (.int (nI m)), some (.int (nI lo)), some (.int (nI hi)), some (.int (nI (v * 10 + (t a2 - 48)))), some (.int (nI (b + 1))), some (.int (pk t E (true, a2)))]) dX9_readNumber_45 rfl (nI_1 _) rfl ?_
            refine ev_st dX9_readNumber_48 rfl rfl ?_
            refine ev_call dX9_readNumber_49 rfl rfl mr_9_38 rfl rfl rfl (k_skip (a := a2) hR2 (dg_ok hR2.t c_22 c_29).1) ?_
            rintro _ _ ⟨rfl, rfl⟩
            show Ev lyC (d + 1) hX9_readNumber 52 [some (.ref 1), some (.int (nI m)), some (.int (nI lo)), some (.int (nI hi)), some (.int (nI (v * 10 + (t a2 - 48)))), some (.int (nI (b + 1))), some (.int (pk t E (true, a2)))] [] (ti_wr I2 1 2 (nI (a2 + 1)), J, R) _
            refine ev_st dX9_readNumber_52 rfl rfl ?_
            refine ev_call dX9_readNumber_53 rfl rfl mr_9_34 rfl rfl rfl (k_peekF (a := a2 + 1) (hR2.at rfl (dg_ok hR2.t c_22 c_29).1)) ?_
            rintro _ _ ⟨rfl, rfl⟩
            show Ev lyC (d + 1) hX9_readNumber 56 [some (.ref 1), some (.int (nI m)), some (.int (nI lo)), some (.int (nI hi)), some (.int (nI (v * 10 + (t a2 - 48)))), some (.int (nI (b + 1))), some (.int (pk t E (true, a2)))] [.int (pk t E (true, a2 + 1))] (ti_wr I2 1 2 (nI (a2 + 1)), J, R) _
            refine ev_st (L' := [some (.ref 1), some (.int (nI m)), some (.int (nI lo)), some (.int (nI hi)), some (.int (nI (v * 10 + (t a2 - 48)))), some (.int (nI (b + 1))), some (.int (pk t E (true, a2 + 1)))]) dX9_readNumber_56 rfl rfl ?_
            refine ev_goto (t := 12) dX9_readNumber_58 (by decide) ?_
            have hd := dg_ok hR2.t c_22 c_29
            exact ih _ _ _ _ (by omega) (by omega) (by omega) (by have := hd.2.2.1; rw [Nat.pow_succ]; omega) (by omega) (hx2.w) (hR2.at rfl (by omega)) (by rw [← hT, show m - b = (m - (b + 1)) + 1 by omega, sdig_s ⟨hd.1, hd.2.1, hd.2.2.1⟩])
  show Ev lyC (d + 1) hX9_readNumber 0 [some (.ref 1), some (.int (nI m)), some (.int (nI lo)), some (.int (nI hi)), none, none, none] [] (I, J, R) _
  refine ev_iconst (v := 0) dX9_readNumber_0 (by decide) ?_
  refine ev_st (L' := [some (.ref 1), some (.int (nI m)), some (.int (nI lo)), some (.int (nI hi)), some (.int 0), none, none]) dX9_readNumber_1 rfl rfl ?_
  refine ev_iconst (v := 0) dX9_readNumber_3 (by decide) ?_
  refine ev_st (L' := [some (.ref 1), some (.int (nI m)), some (.int (nI lo)), some (.int (nI hi)), some (.int 0), some (.int 0), none]) dX9_readNumber_4 rfl rfl ?_
  refine ev_st dX9_readNumber_6 rfl rfl ?_
  refine ev_call dX9_readNumber_7 rfl rfl mr_9_34 rfl rfl rfl (k_peekF hR) ?_
  rintro _ _ ⟨rfl, rfl⟩
  show Ev lyC (d + 1) hX9_readNumber 10 [some (.ref 1), some (.int (nI m)), some (.int (nI lo)), some (.int (nI hi)), some (.int 0), some (.int 0), none] [.int (pk t E (true, a))] (I, J, R) _
  refine ev_st (L' := [some (.ref 1), some (.int (nI m)), some (.int (nI lo)), some (.int (nI hi)), some (.int 0), some (.int 0), some (.int (pk t E (true, a)))]) dX9_readNumber_10 rfl rfl ?_
  exact loop (m + 1) 0 0 a I (by omega) (by omega) (by omega) (by decide) (by omega) xC.rf hR rfl
theorem k_rn {I : Nat → Nat → Int32} {J : Nat → Nat → Int64} {R : Nat → Nat → Value} {t : Nat → Nat} {d E N m lo hi : Nat} {s : PS} (hR : cR I t E N s) (hm1 : 1 ≤ m) (hm3 : m ≤ 3) (hlo : lo ≤ 999) (hhi : hi ≤ 999) : Cal lyC (d + 1) hX9_readNumber 7 [.ref 1, .int (nI m), .int (nI lo), .int (nI hi)] (I, J, R) (fun r M' => r = some (.int (nI (sNum t E m lo hi s).1)) ∧ ∃ I3, M' = (I3, J, R) ∧ xC I I3 ∧ cR I3 t E N (sNum t E m lo hi s).2) := by
  obtain ⟨b, a⟩ := s
  cases b
  · rw [show sNum t E m lo hi (false, a) = (0, (false, a)) by rw [sNum, if_neg (by simp)]]
    exact (k_rnE hR hm1 hm3 hlo hhi).imp (fun r M' ⟨e1, e2⟩ => ⟨e1, _, e2, xC.rf, hR⟩)
  · exact k_rnF hR hm1 hm3 hlo hhi
/-- a text of N signs lies in the class -/
def cT (I : Nat → Nat → Int32) (t : Nat → Nat) (N : Nat) : Prop := I 1 1 = nI N ∧ N ≤ 80 ∧ ∀ k, k < N → I 2 k = nI (t k) ∧ t k < 256
/-- how a reading ends: what is left unread is a fault -/
def sFin (N : Nat) (s : PS) : PS := if s.1 = true then (if s.2 < N then (false, s.2) else s) else s
theorem k_open {I : Nat → Nat → Int32} {J : Nat → Nat → Int64} {R : Nat → Nat → Value} {t : Nat → Nat} {d N T : Nat} (hT : cT I t N) (hT80 : T ≤ 80) : Cal lyC (d + 1) hX9_open 2 [.ref 1, .int (nI T)] (I, J, R) (fun r M' => r = none ∧ ∃ I3, M' = (I3, J, R) ∧ xC I I3 ∧ cR I3 t (min N T) N (true, 0)) := by
  obtain ⟨h1, h2, h5⟩ := hT
  show Ev lyC (d + 1) hX9_open 0 [some (.ref 1), some (.int (nI T))] [] (I, J, R) _
  refine ev_st dX9_open_0 rfl rfl ?_
  refine ev_iconst (v := 0) dX9_open_1 (by decide) ?_
  refine ev_putI dX9_open_2 fr_9_19 rfl rfl ?_
  refine ev_st dX9_open_5 rfl rfl ?_
  refine ev_st dX9_open_6 rfl rfl ?_
  refine ev_getI (v := nI N) dX9_open_7 fr_9_15 rfl rfl h1 ?_
  refine ev_st dX9_open_10 rfl rfl ?_
  refine ev_min (v := nI (min N T)) dX9_open_11 br_9_22 rfl (min_nI (by omega) (by omega)) ?_
  refine ev_putI dX9_open_14 fr_9_28 rfl rfl ?_
  refine ev_st dX9_open_17 rfl rfl ?_
  refine ev_iconst (v := -1) dX9_open_18 (by decide) ?_
  refine ev_putI dX9_open_19 fr_9_31 rfl rfl ?_
  exact ev_vret dX9_open_22 rfl (⟨rfl, _, rfl, xC.rf.w.w.w, h1, h2, rfl, by omega, h5, by omega, by rw [if_pos rfl]; exact ⟨rfl, rfl⟩⟩)
theorem k_closeF {I : Nat → Nat → Int32} {J : Nat → Nat → Int64} {R : Nat → Nat → Value} {t : Nat → Nat} {d E N a : Nat} (hR : cR I t E N (true, a)) : Cal lyC d hX9_close 2 [.ref 1] (I, J, R) (fun r M' => r = some (.int (if (sFin N (true, a)).1 = true then -1 else nI (sFin N (true, a)).2)) ∧ M' = (ti_wr I 1 1 0, J, R)) := by
  obtain ⟨h1, h2, h3, h4, h5, h6, h74, h72⟩ : _ ∧ _ ∧ _ ∧ _ ∧ _ ∧ _ ∧ _ ∧ _ := (by have h := hR; obtain ⟨h1, h2, h3, h4, h5, h6, h7⟩ := h; rw [if_pos rfl] at h7; exact ⟨h1, h2, h3, h4, h5, h6, h7.1, h7.2⟩ : I 1 1 = nI N ∧ N ≤ 80 ∧ I 1 3 = nI E ∧ E ≤ N ∧ (∀ k, k < N → I 2 k = nI (t k) ∧ t k < 256) ∧ a ≤ E ∧ I 1 4 = -1 ∧ I 1 2 = nI a)
  show Ev lyC d hX9_close 0 [some (.ref 1), none] [] (I, J, R) _
  refine ev_st dX9_close_0 rfl rfl ?_
  refine ev_getI (v := (-1)) dX9_close_1 fr_9_31 rfl rfl h74 ?_
  refine ev_st (L' := [some (.ref 1), some (.int ((-1)))]) dX9_close_4 rfl rfl ?_
  refine ev_st dX9_close_5 rfl rfl ?_
  refine ev_if_ge (t := 25) dX9_close_6 (by decide) (fun q => absurd q (by decide)) (fun _ => ?_)
  refine ev_st dX9_close_9 rfl rfl ?_
  refine ev_getI (v := nI a) dX9_close_10 fr_9_19 rfl rfl h72 ?_
  refine ev_st dX9_close_13 rfl rfl ?_
  refine ev_getI (v := nI E) dX9_close_14 fr_9_28 rfl rfl h3 ?_
  refine ev_ic_geN (t := 25) (a := a) (b := E) dX9_close_17 (by decide) rfl rfl (by omega) (by omega) (fun c_17 => ?_) (fun c_17 => ?_)
  · refine ev_st dX9_close_25 rfl rfl ?_
    refine ev_if_ge (t := 45) dX9_close_26 (by decide) (fun q => absurd q (by decide)) (fun _ => ?_)
    refine ev_st dX9_close_29 rfl rfl ?_
    refine ev_getI (v := nI E) dX9_close_30 fr_9_28 rfl rfl h3 ?_
    refine ev_st dX9_close_33 rfl rfl ?_
    refine ev_getI (v := nI N) dX9_close_34 fr_9_15 rfl rfl h1 ?_
    refine ev_ic_geN (t := 45) (a := E) (b := N) dX9_close_37 (by decide) rfl rfl (by omega) (by omega) (fun c_37 => ?_) (fun c_37 => ?_)
    · refine ev_st dX9_close_45 rfl rfl ?_
      refine ev_iconst (v := 0) dX9_close_46 (by decide) ?_
      refine ev_putI dX9_close_47 fr_9_15 rfl rfl ?_
      refine ev_st dX9_close_50 rfl rfl ?_
      exact ev_iret dX9_close_51 rfl (⟨by rw [sFin, if_pos rfl, if_neg (show ¬ a < N by omega), if_pos rfl], rfl⟩)
    · refine ev_st dX9_close_40 rfl rfl ?_
      refine ev_getI (v := nI E) dX9_close_41 fr_9_28 rfl rfl h3 ?_
      refine ev_st (L' := [some (.ref 1), some (.int (nI E))]) dX9_close_44 rfl rfl ?_
      refine ev_st dX9_close_45 rfl rfl ?_
      refine ev_iconst (v := 0) dX9_close_46 (by decide) ?_
      refine ev_putI dX9_close_47 fr_9_15 rfl rfl ?_
      refine ev_st dX9_close_50 rfl rfl ?_
      exact ev_iret dX9_close_51 rfl (⟨by rw [sFin, if_pos rfl, if_pos (show a < N by omega), if_neg (by simp), show E = a by omega], rfl⟩)
  · refine ev_st dX9_close_20 rfl rfl ?_
    refine ev_getI (v := nI a) dX9_close_21 fr_9_19 rfl rfl h72 ?_
    refine ev_st (L' := [some (.ref 1), some (.int (nI a))]) dX9_close_24 rfl rfl ?_
    refine ev_st dX9_close_25 rfl rfl ?_
    refine ev_if_geN (t := 45) (a := a) dX9_close_26 (by decide) rfl (by omega) ?_
    refine ev_st dX9_close_45 rfl rfl ?_
    refine ev_iconst (v := 0) dX9_close_46 (by decide) ?_
    refine ev_putI dX9_close_47 fr_9_15 rfl rfl ?_
    refine ev_st dX9_close_50 rfl rfl ?_
    exact ev_iret dX9_close_51 rfl (⟨by rw [sFin, if_pos rfl, if_pos (show a < N by omega), if_neg (by simp)], rfl⟩)
theorem k_closeE {I : Nat → Nat → Int32} {J : Nat → Nat → Int64} {R : Nat → Nat → Value} {t : Nat → Nat} {d E N e : Nat} (hR : cR I t E N (false, e)) : Cal lyC d hX9_close 2 [.ref 1] (I, J, R) (fun r M' => r = some (.int (if (sFin N (false, e)).1 = true then -1 else nI (sFin N (false, e)).2)) ∧ M' = (ti_wr I 1 1 0, J, R)) := by
  obtain ⟨h1, h2, h3, h4, h5, h6, h74, b, hb, h72⟩ : _ ∧ _ ∧ _ ∧ _ ∧ _ ∧ _ ∧ _ ∧ ∃ b, _ ∧ _ := (by have h := hR; obtain ⟨h1, h2, h3, h4, h5, h6, h7⟩ := h; rw [if_neg (by simp)] at h7; exact ⟨h1, h2, h3, h4, h5, h6, h7.1, h7.2⟩ : I 1 1 = nI N ∧ N ≤ 80 ∧ I 1 3 = nI E ∧ E ≤ N ∧ (∀ k, k < N → I 2 k = nI (t k) ∧ t k < 256) ∧ e ≤ E ∧ I 1 4 = nI e ∧ ∃ b, b ≤ E ∧ I 1 2 = nI b)
  show Ev lyC d hX9_close 0 [some (.ref 1), none] [] (I, J, R) _
  refine ev_st dX9_close_0 rfl rfl ?_
  refine ev_getI (v := nI e) dX9_close_1 fr_9_31 rfl rfl h74 ?_
  refine ev_st (L' := [some (.ref 1), some (.int (nI e))]) dX9_close_4 rfl rfl ?_
  refine ev_st dX9_close_5 rfl rfl ?_
  refine ev_if_geN (t := 25) (a := e) dX9_close_6 (by decide) rfl (by omega) ?_
  refine ev_st dX9_close_25 rfl rfl ?_
  refine ev_if_geN (t := 45) (a := e) dX9_close_26 (by decide) rfl (by omega) ?_
  refine ev_st dX9_close_45 rfl rfl ?_
  refine ev_iconst (v := 0) dX9_close_46 (by decide) ?_
  refine ev_putI dX9_close_47 fr_9_15 rfl rfl ?_
  refine ev_st dX9_close_50 rfl rfl ?_
  exact ev_iret dX9_close_51 rfl (⟨by rw [sFin, if_neg (by simp), if_neg (by simp)], rfl⟩)
theorem k_close {I : Nat → Nat → Int32} {J : Nat → Nat → Int64} {R : Nat → Nat → Value} {t : Nat → Nat} {d E N : Nat} {s : PS} (hR : cR I t E N s) : Cal lyC d hX9_close 2 [.ref 1] (I, J, R) (fun r M' => r = some (.int (if (sFin N s).1 = true then -1 else nI (sFin N s).2)) ∧ M' = (ti_wr I 1 1 0, J, R)) := by
  obtain ⟨b, a⟩ := s
  cases b
  · exact k_closeE hR
  · exact k_closeF hR
theorem ix_le {N : Nat} {x : Int32} (h80 : N ≤ 80) (h0 : ¬ x < 0) (h : ¬ nI N < x) : ix (N + 1) x = some x.toNatClampNeg := by
  unfold ix
  rw [if_pos]
  obtain ⟨j, hj, rfl⟩ := nI_of2 (M := nI N) (n := N) (by rw [nI_toInt (by omega)]) h0 (Int32.not_lt.mp h)
  exact ⟨Int32.not_lt.mp h0, (nI_ltI (by omega) (by omega)).mpr (by omega)⟩
theorem k_shorten0 {I : Nat → Nat → Int32} {J : Nat → Nat → Int64} {R : Nat → Nat → Value} {d N : Nat} (h1 : I 1 1 = nI N) (h80 : N ≤ 80) {x : Int32} (hx : ix (N + 1) x = none) : Cal lyC d hX9_shorten 2 [.ref 1, .int x] (I, J, R) (fun r M' => r = some (.int 0) ∧ M' = (I, J, R)) := by
  show Ev lyC d hX9_shorten 0 [some (.ref 1), some (.int x)] [] (I, J, R) _
  refine ev_st dX9_shorten_0 rfl rfl ?_
  refine ev_if_lt (t := 12) (x := x) dX9_shorten_1 (by decide) (fun c_1 => ?_) (fun c_1 => ?_)
  · refine ev_iconst (v := 0) dX9_shorten_12 (by decide) ?_
    exact ev_zret dX9_shorten_13 rfl (by decide) (⟨rfl, rfl⟩)
  · refine ev_st dX9_shorten_4 rfl rfl ?_
    refine ev_st dX9_shorten_5 rfl rfl ?_
    refine ev_getI (v := nI N) dX9_shorten_6 fr_9_15 rfl rfl h1 ?_
    refine ev_ic_le (t := 14) (x := x) (y := nI N) dX9_shorten_9 (by decide) (fun c_9 => ?_) (fun c_9 => ?_)
    · exact absurd hx (by rw [ix_le h80 c_1 c_9]; simp)
    · refine ev_iconst (v := 0) dX9_shorten_12 (by decide) ?_
      exact ev_zret dX9_shorten_13 rfl (by decide) (⟨rfl, rfl⟩)
theorem k_shorten1 {I : Nat → Nat → Int32} {J : Nat → Nat → Int64} {R : Nat → Nat → Value} {d N m : Nat} (h1 : I 1 1 = nI N) (h80 : N ≤ 80) (hm : m ≤ N) : Cal lyC d hX9_shorten 2 [.ref 1, .int (nI m)] (I, J, R) (fun r M' => r = some (.int 1) ∧ M' = (ti_wr I 1 1 (nI m), J, R)) := by
  show Ev lyC d hX9_shorten 0 [some (.ref 1), some (.int (nI m))] [] (I, J, R) _
  refine ev_st dX9_shorten_0 rfl rfl ?_
  refine ev_if_ltN (t := 12) (a := m) dX9_shorten_1 (by decide) rfl (by omega) ?_
  refine ev_st dX9_shorten_4 rfl rfl ?_
  refine ev_st dX9_shorten_5 rfl rfl ?_
  refine ev_getI (v := nI N) dX9_shorten_6 fr_9_15 rfl rfl h1 ?_
  refine ev_ic_leN (t := 14) (a := m) (b := N) dX9_shorten_9 (by decide) rfl rfl (by omega) (by omega) (fun c_9 => ?_) (fun c_9 => ?_)
  · refine ev_st dX9_shorten_14 rfl rfl ?_
    refine ev_st dX9_shorten_15 rfl rfl ?_
    refine ev_putI dX9_shorten_16 fr_9_15 rfl rfl ?_
    refine ev_iconst (v := 1) dX9_shorten_19 (by decide) ?_
    exact ev_zret dX9_shorten_20 rfl (by decide) (⟨rfl, rfl⟩)
  · omega
def chr4 (v : Int32) (sh : Int32) : Int32 := vp_nar .char (((v.toUInt32 >>> (sh.toUInt32 &&& Int32.toUInt32 31)).toInt32 &&& 255).toUInt32 % 65536).toInt32
