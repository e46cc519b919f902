/-! texts: numbers read by the model; its beginnings and ends -/
def sOne (t : Nat → Nat) (E f m : Nat) (s : PS) : Nat × PS := if s.1 = true then (if s.2 < E ∧ f ≤ t s.2 ∧ t s.2 < f + m then (t s.2 - f, (true, s.2 + 1)) else (0, (false, s.2))) else (0, s)
theorem in_ok {t : Nat → Nat} {E a f g : Nat} (ht : ∀ k, k < E → t k < 256) (hf : f < 256) (hg : g < 256) : m_in (pk t E (true, a)) (nI f) (nI g) = if a < E ∧ f ≤ t a ∧ t a ≤ g then 1 else 0 := by
  unfold m_in pk
  rw [if_pos rfl]
  simp only
  by_cases e : a < E
  · rw [if_pos e]
    have h256 := ht _ e
    by_cases h1 : t a < f
    · rw [if_pos ((nI_ltI (by omega) (by omega)).mpr h1), if_neg (by omega)]
    · rw [if_neg (fun q => h1 ((nI_ltI (by omega) (by omega)).mp q))]
      by_cases h2 : g < t a
      · rw [if_pos ((nI_ltI (by omega) (by omega)).mpr h2), if_neg (by omega)]
      · rw [if_neg (fun q => h2 ((nI_ltI (by omega) (by omega)).mp q)), if_pos ⟨e, by omega, by omega⟩]
  · rw [if_neg e, if_pos (show (-1 : Int32) < nI f by rw [show (-1 : Int32) = iI (-1) from rfl, nI_iI, iI_lt (by omega) (by omega) (by omega) (by omega)]; omega), if_neg (by omega)]
theorem c_inP {I : Nat → Nat → Int32} {J : Nat → Nat → Int64} {R : Nat → Nat → Value} {t : Nat → Nat} {d E a f g : Nat} (ht : ∀ k, k < E → t k < 256) (hf : f < 256) (hg : g < 256) : Cal lyM d hX12_in 3 [.int (pk t E (true, a)), .int (nI f), .int (nI g)] (I, J, R) (fun r M' => r = some (.int (if a < E ∧ f ≤ t a ∧ t a ≤ g then 1 else 0)) ∧ M' = (I, J, R)) := by
  rw [← in_ok ht hf hg]; exact c_in _ _ _
theorem c_oneE {I : Nat → Nat → Int32} {J : Nat → Nat → Int64} {R : Nat → Nat → Value} {rp : Nat} {t : Nat → Nat} {d E N T e f m : Nat} (hR : mR rp I R t E N T (false, e)) : Cal lyM (d + 2) hX12_oneOf 3 [.ref 0, .int (nI f), .int (nI m)] (I, J, R) (fun r M' => r = some (.int 0) ∧ M' = (I, J, R)) := by
  show Ev lyM (d + 2) hX12_oneOf 0 [some (.ref 0), some (.int (nI f)), some (.int (nI m))] [] (I, J, R) _
  refine ev_st dX12_oneOf_0 rfl rfl ?_
  refine ev_call dX12_oneOf_1 rfl rfl mr_12_127 rfl rfl rfl (c_fineE hR) ?_
  rintro _ _ ⟨rfl, rfl⟩
  show Ev lyM (d + 2) hX12_oneOf 4 [some (.ref 0), some (.int (nI f)), some (.int (nI m))] [.int 0] (I, J, R) _
  refine ev_if_ne (t := 9) dX12_oneOf_4 (by decide) (fun q => absurd q (by decide)) (fun _ => ?_)
  refine ev_iconst (v := 0) dX12_oneOf_7 (by decide) ?_
  exact ev_iret dX12_oneOf_8 rfl (⟨rfl, rfl⟩)
set_option maxHeartbeats 1000000 in
theorem c_oneF {I : Nat → Nat → Int32} {J : Nat → Nat → Int64} {R : Nat → Nat → Value} {rp : Nat} {t : Nat → Nat} {d E N T a f m : Nat} (hR : mR rp I R t E N T (true, a)) (hf : f + m ≤ 128) (hm : 1 ≤ m) : Cal lyM (d + 2) hX12_oneOf 3 [.ref 0, .int (nI f), .int (nI m)] (I, J, R) (fun r M' => r = some (.int (nI (sOne t E f m (true, a)).1)) ∧ ∃ I3, M' = (I3, J, R) ∧ rF I I3 ∧ mR rp I3 R t E N T (sOne t E f m (true, a)).2) := by
  obtain ⟨nn, hly, hNn, hn80⟩ := hR.ly
  obtain ⟨hr13, h14, h15, hT80, hE, ht, haE, h17, h16⟩ : R 0 13 = .ref rp ∧ I 0 14 = nI N ∧ I 0 15 = nI T ∧ T ≤ 80 ∧ E = min N T ∧ (∀ k, k < N → I rp k = bI (t k) ∧ t k < 256) ∧ a ≤ E ∧ I 0 17 = -1 ∧ I 0 16 = nI a := (by obtain ⟨h1, h2, h3, h4, h5, h6, h7, h8, h9⟩ := hR; rw [if_pos rfl] at h9; exact ⟨h1, h3, h4, h5, h6, h7, h8, h9.1, h9.2⟩)
  have hEN : E ≤ N := by omega
  show Ev lyM (d + 2) hX12_oneOf 0 [some (.ref 0), some (.int (nI f)), some (.int (nI m))] [] (I, J, R) _
  refine ev_st dX12_oneOf_0 rfl rfl ?_
  refine ev_call dX12_oneOf_1 rfl rfl mr_12_127 rfl rfl rfl (c_fineF hR) ?_
  rintro _ _ ⟨rfl, rfl⟩
  show Ev lyM (d + 2) hX12_oneOf 4 [some (.ref 0), some (.int (nI f)), some (.int (nI m))] [.int 1] (I, J, R) _
  refine ev_if_ne (t := 9) dX12_oneOf_4 (by decide) (fun _ => ?_) (fun q => absurd q (by decide))
  refine ev_st dX12_oneOf_9 rfl rfl ?_
  refine ev_call dX12_oneOf_10 rfl rfl mr_12_131 rfl rfl rfl (c_here hR) ?_
  rintro _ _ ⟨rfl, rfl⟩
  show Ev lyM (d + 2) hX12_oneOf 13 [some (.ref 0), some (.int (nI f)), some (.int (nI m))] [.int (pk t E (true, a))] (I, J, R) _
  refine ev_st dX12_oneOf_13 rfl rfl ?_
  refine ev_st dX12_oneOf_14 rfl rfl ?_
  refine ev_st dX12_oneOf_15 rfl rfl ?_
  refine ev_iaddN (a := f) (b := m) (c := f + m) dX12_oneOf_16 rfl rfl rfl ?_
  refine ev_iconst (v := 1) dX12_oneOf_17 (by decide) ?_
  refine ev_isubN (a := f + m) (b := 1) (c := f + m - 1) dX12_oneOf_18 rfl rfl (by omega) rfl ?_
  refine ev_call dX12_oneOf_19 rfl rfl mr_12_98 rfl rfl rfl (c_inP hR.t (by omega) (by omega)) ?_
  rintro _ _ ⟨rfl, rfl⟩
  show Ev lyM (d + 2) hX12_oneOf 22 [some (.ref 0), some (.int (nI f)), some (.int (nI m))] [.int (if a < E ∧ f ≤ t a ∧ t a ≤ f + m - 1 then 1 else 0)] (I, J, R) _
  refine ev_if_ne (t := 35) (x := if a < E ∧ f ≤ t a ∧ t a ≤ f + m - 1 then 1 else 0) dX12_oneOf_22 (by decide) (fun c_22 => ?_) (fun c_22 => ?_)
  · refine ev_st dX12_oneOf_35 rfl rfl ?_
    refine ev_st dX12_oneOf_36 rfl rfl ?_
    refine ev_getI (v := nI a) dX12_oneOf_37 fr_12_117 rfl rfl h16 ?_
    refine ev_iconst (v := 1) dX12_oneOf_40 (by decide) ?_
    refine ev_iaddN (a := a) (b := 1) (c := a + 1) dX12_oneOf_41 rfl rfl rfl ?_
    refine ev_putI dX12_oneOf_42 fr_12_117 rfl rfl ?_
    refine ev_st dX12_oneOf_45 rfl rfl ?_
    refine ev_getR (v := .ref rp) dX12_oneOf_46 fr_12_108 rfl rfl hr13 ?_
    refine ev_st dX12_oneOf_49 rfl rfl ?_
    refine ev_getI (v := nI (a + 1)) dX12_oneOf_50 fr_12_117 rfl rfl rfl ?_
    refine ev_iconst (v := 1) dX12_oneOf_53 (by decide) ?_
    refine ev_isubN (a := a + 1) (b := 1) (c := a + 1 - 1) dX12_oneOf_54 rfl rfl (by omega) rfl ?_
    refine ev_bald (j := a) (v := nI (t a)) dX12_oneOf_55 hly (by decide) rfl (by have := (if01 c_22).1; omega) (by omega) (by rw [ti_wr_n hR.rp0, (ht a (by have := (if01 c_22).1; omega)).1, b128 _ (by have := (if01 c_22).2.2; omega)]) ?_
    refine ev_st dX12_oneOf_56 rfl rfl ?_
    refine ev_isubN (a := t a) (b := f) (c := t a - f) dX12_oneOf_57 rfl rfl (if01 c_22).2.1 rfl ?_
    exact ev_iret dX12_oneOf_58 rfl (⟨by rw [sOne, if_pos rfl, if_pos (show a < E ∧ f ≤ t a ∧ t a < f + m from ⟨(if01 c_22).1, (if01 c_22).2.1, by have := (if01 c_22).2.2; omega⟩)], _, rfl, rF.rf.w16, by rw [sOne, if_pos rfl, if_pos (show a < E ∧ f ≤ t a ∧ t a < f + m from ⟨(if01 c_22).1, (if01 c_22).2.1, by have := (if01 c_22).2.2; omega⟩)]; exact hR.at rfl (if01 c_22).1⟩)
  · refine ev_st dX12_oneOf_25 rfl rfl ?_
    refine ev_st dX12_oneOf_26 rfl rfl ?_
    refine ev_getI (v := nI a) dX12_oneOf_27 fr_12_117 rfl rfl h16 ?_
    refine ev_call dX12_oneOf_30 rfl rfl mr_12_139 rfl rfl rfl (c_faultF hR (nI a)) ?_
    rintro _ _ ⟨rfl, rfl⟩
    show Ev lyM (d + 2) hX12_oneOf 33 [some (.ref 0), some (.int (nI f)), some (.int (nI m))] [] (ti_wr I 0 17 (nI a), J, R) _
    refine ev_iconst (v := 0) dX12_oneOf_33 (by decide) ?_
    exact ev_iret dX12_oneOf_34 rfl (⟨by rw [sOne, if_pos rfl, if_neg (show ¬ (a < E ∧ f ≤ t a ∧ t a < f + m) from fun q => if01n c_22 ⟨q.1, q.2.1, by omega⟩)]; rfl, _, rfl, rF.rf.w17, by rw [sOne, if_pos rfl, if_neg (show ¬ (a < E ∧ f ≤ t a ∧ t a < f + m) from fun q => if01n c_22 ⟨q.1, q.2.1, by omega⟩)]; exact hR.flt haE⟩)
theorem c_one {I : Nat → Nat → Int32} {J : Nat → Nat → Int64} {R : Nat → Nat → Value} {rp : Nat} {t : Nat → Nat} {d E N T f m : Nat} {s : PS} (hR : mR rp I R t E N T s) (hf : f + m ≤ 128) (hm : 1 ≤ m) : Cal lyM (d + 2) hX12_oneOf 3 [.ref 0, .int (nI f), .int (nI m)] (I, J, R) (fun r M' => r = some (.int (nI (sOne t E f m s).1)) ∧ ∃ I3, M' = (I3, J, R) ∧ rF I I3 ∧ mR rp I3 R t E N T (sOne t E f m s).2) := by
  obtain ⟨b, a⟩ := s
  cases b
  · rw [show sOne t E f m (false, a) = (0, (false, a)) by rw [sOne, if_neg (by simp)]]
    exact (c_oneE hR).imp (fun r M' ⟨e1, e2⟩ => ⟨e1, _, e2, rF.rf, hR⟩)
  · exact c_oneF hR hf hm
/-- one digit is a number of one digit -/
theorem one_num {t : Nat → Nat} {E : Nat} {s : PS} : sOne t E 48 10 s = sNum t E 1 0 9 s := by
  unfold sOne sNum
  by_cases h : s.1 = true
  · rw [if_pos h, if_pos h]
    by_cases q : s.2 < E ∧ 48 ≤ t s.2 ∧ t s.2 ≤ 57
    · have e : sdig t E 1 0 s.2 = (t s.2 - 48, s.2 + 1) := by rw [sdig_s q, sdig]; simp
      rw [if_pos ⟨q.1, q.2.1, by omega⟩, e, if_neg (show ¬ (t s.2 - 48, s.2 + 1).2 = s.2 by simp), if_neg (show ¬ ((t s.2 - 48, s.2 + 1).1 < 0 ∨ 9 < (t s.2 - 48, s.2 + 1).1) by simp; omega)]
    · rw [if_neg (fun z => q ⟨z.1, z.2.1, by omega⟩), sdig_n q, if_pos rfl]
  · rw [if_neg h, if_neg h]
theorem one_num1 {t : Nat → Nat} {E : Nat} {s : PS} : (sOne t E 49 9 s).2 = (sNum t E 1 1 9 s).2 ∧ ((sNum t E 1 1 9 s).2.1 = true → s.1 = true → (sOne t E 49 9 s).1 + 1 = (sNum t E 1 1 9 s).1) := by
  unfold sOne sNum
  by_cases h : s.1 = true
  · rw [if_pos h, if_pos h]
    by_cases q : s.2 < E ∧ 48 ≤ t s.2 ∧ t s.2 ≤ 57
    · have e : sdig t E 1 0 s.2 = (t s.2 - 48, s.2 + 1) := by rw [sdig_s q, sdig]; simp
      rw [e, if_neg (show ¬ (t s.2 - 48, s.2 + 1).2 = s.2 by simp)]
      by_cases z : t s.2 = 48
      · rw [if_neg (by omega), if_pos (show ((t s.2 - 48, s.2 + 1).1 < 1 ∨ 9 < (t s.2 - 48, s.2 + 1).1) by simp; omega)]
        exact ⟨by simp, fun e => by cases e⟩
      · rw [if_pos ⟨q.1, by omega, by omega⟩, if_neg (show ¬ ((t s.2 - 48, s.2 + 1).1 < 1 ∨ 9 < (t s.2 - 48, s.2 + 1).1) by simp; omega)]
        exact ⟨rfl, fun _ _ => by show t s.2 - 49 + 1 = t s.2 - 48; omega⟩
    · rw [if_neg (fun z => q ⟨z.1, by omega, by omega⟩), sdig_n q, if_pos rfl]
      exact ⟨rfl, fun e => by cases e⟩
  · rw [if_neg h, if_neg h]
    exact ⟨rfl, fun _ e => absurd e h⟩
