/-! rules: held by the model -/
theorem gE_y {t : Nat → Nat} {E c : Nat} {f : PS → RR} {s : PS} (hc : c = 60 ∨ c = 62 ∨ c = 61) (h : pk t E (f s).1 = nI c) : gE t E f s = gJ t f (f s) := by
  rw [gE, if_pos]
  rcases hc with rfl | rfl | rfl
  · exact Or.inl h
  · exact Or.inr (Or.inl h)
  · exact Or.inr (Or.inr h)
theorem gE_q {t : Nat → Nat} {E N T c rp : Nat} {f : PS → RR} {s : PS} {fl x y v : Int32} {I I2 I3 I4 : Nat → Nat → Int32} {J : Nat → Nat → Int64} {R : Nat → Nat → Value} (hc : c = 60 ∨ c = 62 ∨ c = 61) (ht : ∀ k, k < E → t k < 256) (hp : pk t E (f s).1 = nI c) (h2 : rF I I2) (h3 : rF I2 I3) (h4 : rF I3 I4) (hR : mR rp I4 R t E N T (f (true, (f s).1.2 + 1)).1) (hx : (f s).1.1 = true → x = (f s).2.2 (fun j => if fl = 0 then 0 else I 11 j)) (hy : (f (true, (f s).1.2 + 1)).1.1 = true → y = (f (true, (f s).1.2 + 1)).2.2 (fun j => if fl = 0 then 0 else I3 11 j)) (hv : v = jn c x y) : ∃ x2 I5, some (Value.int v) = some (.int x2) ∧ (I4, J, R) = (I5, J, R) ∧ rF I I5 ∧ mR rp I5 R t E N T (gE t E f s).1 ∧ ((gE t E f s).1.1 = true → x2 = (gE t E f s).2.2 (fun j => if fl = 0 then 0 else I 11 j)) := by
  rw [gE_y hc hp]
  have q := pkS_eq (show c < 2 ^ 31 by omega) ht hp
  rw [show I3 11 = I 11 from (h3.p 11 rfl).trans (h2.p 11 rfl)] at hy
  refine ⟨v, I4, rfl, rfl, (h2.tr h3).tr h4, hR, ?_⟩
  have hj := mRd_j (t := t) (f := f) (a := f s) q.1 hx hy
  rw [q.2.2] at hj
  rw [hv]
  exact hj
set_option maxHeartbeats 1000000 in
theorem c_held {rp : Nat} {t : Nat → Nat} {E N T : Nat} {dep fl : Int32} {F : Nat → Nat} {f : PS → RR} (hC : mRd hX12_sum 5 dep rp t E N T fl F f) (hF : ∀ {p q : Nat}, p ≤ q → F q ≤ F p) (h1 : ∀ p, 1 ≤ F p) (hadv : adv f) : mRd hX12_held 3 dep rp t E N T fl (fun p => F p + 1) (gE t E f) := by
  intro I J R s D hD hR hfl
  simp only at hD
  have h1s := h1 s.2
  obtain ⟨d, rfl⟩ : ∃ d, D = d + 2 := ⟨D - 2, by omega⟩
  show Ev lyM (d + 2) hX12_held 0 [some (.ref 0), some (.int dep), none] [] (I, J, R) _
  by_cases n60 : pk t E (f s).1 = nI 60
  · have hfine : (f s).1.1 = true := (pkS_eq (by decide) hR.t n60).1
    refine ev_st dX12_held_0 rfl rfl ?_
    refine ev_st dX12_held_1 rfl rfl ?_
    refine ev_call dX12_held_2 rfl rfl mr_12_176 rfl rfl rfl (hC I J R s (d + 1) (by omega) hR hfl) ?_
    rintro _ _ ⟨x, I2, rfl, rfl, hx2, hR2, hv2⟩
    show Ev lyM (d + 2) hX12_held 5 [some (.ref 0), some (.int dep), none] [.int x] (I2, J, R) _
    refine ev_st (L' := [some (.ref 0), some (.int dep), some (.int x)]) dX12_held_5 rfl rfl ?_
    refine ev_st dX12_held_6 rfl rfl ?_
    refine ev_bipush (v := 60) dX12_held_7 (by decide) ?_
    refine ev_call dX12_held_9 rfl rfl mr_12_135 rfl rfl rfl (c_passes (c := 60) hR2 (by decide)) ?_
    rintro _ _ ⟨e1, I3, rfl, hx3, hR3⟩
    rw [if_pos n60] at e1
    rw [sPass, if_pos n60] at hR3
    subst e1
    show Ev lyM (d + 2) hX12_held 12 [some (.ref 0), some (.int dep), some (.int x)] [.int 1] (I3, J, R) _
    refine ev_if_eq (t := 30) dX12_held_12 (by decide) (fun q => absurd q (by decide)) (fun _ => ?_)
    refine ev_st dX12_held_15 rfl rfl ?_
    refine ev_st dX12_held_16 rfl rfl ?_
    refine ev_st dX12_held_17 rfl rfl ?_
    refine ev_call dX12_held_18 rfl rfl mr_12_176 rfl rfl rfl (hC I3 J R (true, (f s).1.2 + 1) (d + 1) (Nat.le_trans (hF (p := s.2) (by have := (hadv s hfine).2; simp only; omega)) (by omega)) hR3 ((hx3.f 22 rfl).trans ((hx2.f 22 rfl).trans hfl))) ?_
    rintro _ _ ⟨y, I9, rfl, rfl, hx9, hR9, hv9⟩
    show Ev lyM (d + 2) hX12_held 21 [some (.ref 0), some (.int dep), some (.int x)] [.int y, .int x] (I9, J, R) _
    refine ev_ic_ge (t := 28) (x := x) (y := y) dX12_held_21 (by decide) (fun c_21 => ?_) (fun c_21 => ?_)
    · refine ev_iconst (v := 0) dX12_held_28 (by decide) ?_
      exact ev_iret dX12_held_29 rfl (gE_q (c := 60) (by decide) hR2.t n60 hx2 hx3 hx9 hR9 hv2 hv9 (by rw [jn, if_pos rfl, if_neg c_21]))
    · refine ev_iconst (v := 1) dX12_held_24 (by decide) ?_
      refine ev_goto (t := 29) dX12_held_25 (by decide) ?_
      exact ev_iret dX12_held_29 rfl (gE_q (c := 60) (by decide) hR2.t n60 hx2 hx3 hx9 hR9 hv2 hv9 (by rw [jn, if_pos rfl, if_pos c_21]))
  · by_cases n62 : pk t E (f s).1 = nI 62
    · have hfine : (f s).1.1 = true := (pkS_eq (by decide) hR.t n62).1
      refine ev_st dX12_held_0 rfl rfl ?_
      refine ev_st dX12_held_1 rfl rfl ?_
      refine ev_call dX12_held_2 rfl rfl mr_12_176 rfl rfl rfl (hC I J R s (d + 1) (by omega) hR hfl) ?_
      rintro _ _ ⟨x, I2, rfl, rfl, hx2, hR2, hv2⟩
      show Ev lyM (d + 2) hX12_held 5 [some (.ref 0), some (.int dep), none] [.int x] (I2, J, R) _
      refine ev_st (L' := [some (.ref 0), some (.int dep), some (.int x)]) dX12_held_5 rfl rfl ?_
      refine ev_st dX12_held_6 rfl rfl ?_
      refine ev_bipush (v := 60) dX12_held_7 (by decide) ?_
      refine ev_call dX12_held_9 rfl rfl mr_12_135 rfl rfl rfl (c_passes (c := 60) hR2 (by decide)) ?_
      rintro _ _ ⟨e1, I3, rfl, hx3, hR3⟩
      rw [if_neg n60] at e1
      rw [sPass, if_neg n60] at hR3
      subst e1
      show Ev lyM (d + 2) hX12_held 12 [some (.ref 0), some (.int dep), some (.int x)] [.int 0] (I3, J, R) _
      refine ev_if_eq (t := 30) dX12_held_12 (by decide) (fun _ => ?_) (fun q => absurd q (by decide))
      refine ev_st dX12_held_30 rfl rfl ?_
      refine ev_bipush (v := 62) dX12_held_31 (by decide) ?_
      refine ev_call dX12_held_33 rfl rfl mr_12_135 rfl rfl rfl (c_passes (c := 62) hR3 (by decide)) ?_
      rintro _ _ ⟨e1, I4, rfl, hx4, hR4⟩
      rw [if_pos n62] at e1
      rw [sPass, if_pos n62] at hR4
      subst e1
      show Ev lyM (d + 2) hX12_held 36 [some (.ref 0), some (.int dep), some (.int x)] [.int 1] (I4, J, R) _
      refine ev_if_eq (t := 54) dX12_held_36 (by decide) (fun q => absurd q (by decide)) (fun _ => ?_)
      refine ev_st dX12_held_39 rfl rfl ?_
      refine ev_st dX12_held_40 rfl rfl ?_
      refine ev_st dX12_held_41 rfl rfl ?_
      refine ev_call dX12_held_42 rfl rfl mr_12_176 rfl rfl rfl (hC I4 J R (true, (f s).1.2 + 1) (d + 1) (Nat.le_trans (hF (p := s.2) (by have := (hadv s hfine).2; simp only; omega)) (by omega)) hR4 ((hx4.f 22 rfl).trans ((hx3.f 22 rfl).trans ((hx2.f 22 rfl).trans hfl)))) ?_
      rintro _ _ ⟨y, I9, rfl, rfl, hx9, hR9, hv9⟩
      show Ev lyM (d + 2) hX12_held 45 [some (.ref 0), some (.int dep), some (.int x)] [.int y, .int x] (I9, J, R) _
      refine ev_ic_le (t := 52) (x := x) (y := y) dX12_held_45 (by decide) (fun c_45 => ?_) (fun c_45 => ?_)
      · refine ev_iconst (v := 0) dX12_held_52 (by decide) ?_
        exact ev_iret dX12_held_53 rfl (gE_q (c := 62) (by decide) hR2.t n62 (hx2.tr hx3) hx4 hx9 hR9 hv2 hv9 (by rw [jn, if_neg (by decide), if_pos rfl, if_neg c_45]))
      · refine ev_iconst (v := 1) dX12_held_48 (by decide) ?_
        refine ev_goto (t := 53) dX12_held_49 (by decide) ?_
        exact ev_iret dX12_held_53 rfl (gE_q (c := 62) (by decide) hR2.t n62 (hx2.tr hx3) hx4 hx9 hR9 hv2 hv9 (by rw [jn, if_neg (by decide), if_pos rfl, if_pos c_45]))
    · by_cases n61 : pk t E (f s).1 = nI 61
      · have hfine : (f s).1.1 = true := (pkS_eq (by decide) hR.t n61).1
        refine ev_st dX12_held_0 rfl rfl ?_
        refine ev_st dX12_held_1 rfl rfl ?_
        refine ev_call dX12_held_2 rfl rfl mr_12_176 rfl rfl rfl (hC I J R s (d + 1) (by omega) hR hfl) ?_
        rintro _ _ ⟨x, I2, rfl, rfl, hx2, hR2, hv2⟩
        show Ev lyM (d + 2) hX12_held 5 [some (.ref 0), some (.int dep), none] [.int x] (I2, J, R) _
        refine ev_st (L' := [some (.ref 0), some (.int dep), some (.int x)]) dX12_held_5 rfl rfl ?_
        refine ev_st dX12_held_6 rfl rfl ?_
        refine ev_bipush (v := 60) dX12_held_7 (by decide) ?_
        refine ev_call dX12_held_9 rfl rfl mr_12_135 rfl rfl rfl (c_passes (c := 60) hR2 (by decide)) ?_
        rintro _ _ ⟨e1, I3, rfl, hx3, hR3⟩
        rw [if_neg n60] at e1
        rw [sPass, if_neg n60] at hR3
        subst e1
        show Ev lyM (d + 2) hX12_held 12 [some (.ref 0), some (.int dep), some (.int x)] [.int 0] (I3, J, R) _
        refine ev_if_eq (t := 30) dX12_held_12 (by decide) (fun _ => ?_) (fun q => absurd q (by decide))
        refine ev_st dX12_held_30 rfl rfl ?_
        refine ev_bipush (v := 62) dX12_held_31 (by decide) ?_
        refine ev_call dX12_held_33 rfl rfl mr_12_135 rfl rfl rfl (c_passes (c := 62) hR3 (by decide)) ?_
        rintro _ _ ⟨e1, I4, rfl, hx4, hR4⟩
        rw [if_neg n62] at e1
        rw [sPass, if_neg n62] at hR4
        subst e1
        show Ev lyM (d + 2) hX12_held 36 [some (.ref 0), some (.int dep), some (.int x)] [.int 0] (I4, J, R) _
        refine ev_if_eq (t := 54) dX12_held_36 (by decide) (fun _ => ?_) (fun q => absurd q (by decide))
        refine ev_st dX12_held_54 rfl rfl ?_
        refine ev_bipush (v := 61) dX12_held_55 (by decide) ?_
        refine ev_call dX12_held_57 rfl rfl mr_12_135 rfl rfl rfl (c_passes (c := 61) hR4 (by decide)) ?_
        rintro _ _ ⟨e1, I5, rfl, hx5, hR5⟩
        rw [if_pos n61] at e1
        rw [sPass, if_pos n61] at hR5
        subst e1
        show Ev lyM (d + 2) hX12_held 60 [some (.ref 0), some (.int dep), some (.int x)] [.int 1] (I5, J, R) _
        refine ev_if_eq (t := 78) dX12_held_60 (by decide) (fun q => absurd q (by decide)) (fun _ => ?_)
        refine ev_st dX12_held_63 rfl rfl ?_
        refine ev_st dX12_held_64 rfl rfl ?_
        refine ev_st dX12_held_65 rfl rfl ?_
        refine ev_call dX12_held_66 rfl rfl mr_12_176 rfl rfl rfl (hC I5 J R (true, (f s).1.2 + 1) (d + 1) (Nat.le_trans (hF (p := s.2) (by have := (hadv s hfine).2; simp only; omega)) (by omega)) hR5 ((hx5.f 22 rfl).trans ((hx4.f 22 rfl).trans ((hx3.f 22 rfl).trans ((hx2.f 22 rfl).trans hfl))))) ?_
        rintro _ _ ⟨y, I9, rfl, rfl, hx9, hR9, hv9⟩
        show Ev lyM (d + 2) hX12_held 69 [some (.ref 0), some (.int dep), some (.int x)] [.int y, .int x] (I9, J, R) _
        refine ev_ic_ne (t := 76) (x := x) (y := y) dX12_held_69 (by decide) (fun c_69 => ?_) (fun c_69 => ?_)
        · refine ev_iconst (v := 0) dX12_held_76 (by decide) ?_
          exact ev_iret dX12_held_77 rfl (gE_q (c := 61) (by decide) hR2.t n61 ((hx2.tr hx3).tr hx4) hx5 hx9 hR9 hv2 hv9 (by rw [jn, if_neg (by decide), if_neg (by decide), if_pos rfl, if_neg c_69]))
        · refine ev_iconst (v := 1) dX12_held_72 (by decide) ?_
          refine ev_goto (t := 77) dX12_held_73 (by decide) ?_
          exact ev_iret dX12_held_77 rfl (gE_q (c := 61) (by decide) hR2.t n61 ((hx2.tr hx3).tr hx4) hx5 hx9 hR9 hv2 hv9 (by rw [jn, if_neg (by decide), if_neg (by decide), if_pos rfl, if_pos c_69]))
      · skip
        refine ev_st dX12_held_0 rfl rfl ?_
        refine ev_st dX12_held_1 rfl rfl ?_
        refine ev_call dX12_held_2 rfl rfl mr_12_176 rfl rfl rfl (hC I J R s (d + 1) (by omega) hR hfl) ?_
        rintro _ _ ⟨x, I2, rfl, rfl, hx2, hR2, hv2⟩
        show Ev lyM (d + 2) hX12_held 5 [some (.ref 0), some (.int dep), none] [.int x] (I2, J, R) _
        refine ev_st (L' := [some (.ref 0), some (.int dep), some (.int x)]) dX12_held_5 rfl rfl ?_
        refine ev_st dX12_held_6 rfl rfl ?_
        refine ev_bipush (v := 60) dX12_held_7 (by decide) ?_
        refine ev_call dX12_held_9 rfl rfl mr_12_135 rfl rfl rfl (c_passes (c := 60) hR2 (by decide)) ?_
        rintro _ _ ⟨e1, I3, rfl, hx3, hR3⟩
        rw [if_neg n60] at e1
        rw [sPass, if_neg n60] at hR3
        subst e1
        show Ev lyM (d + 2) hX12_held 12 [some (.ref 0), some (.int dep), some (.int x)] [.int 0] (I3, J, R) _
        refine ev_if_eq (t := 30) dX12_held_12 (by decide) (fun _ => ?_) (fun q => absurd q (by decide))
        refine ev_st dX12_held_30 rfl rfl ?_
        refine ev_bipush (v := 62) dX12_held_31 (by decide) ?_
        refine ev_call dX12_held_33 rfl rfl mr_12_135 rfl rfl rfl (c_passes (c := 62) hR3 (by decide)) ?_
        rintro _ _ ⟨e1, I4, rfl, hx4, hR4⟩
        rw [if_neg n62] at e1
        rw [sPass, if_neg n62] at hR4
        subst e1
        show Ev lyM (d + 2) hX12_held 36 [some (.ref 0), some (.int dep), some (.int x)] [.int 0] (I4, J, R) _
        refine ev_if_eq (t := 54) dX12_held_36 (by decide) (fun _ => ?_) (fun q => absurd q (by decide))
        refine ev_st dX12_held_54 rfl rfl ?_
        refine ev_bipush (v := 61) dX12_held_55 (by decide) ?_
        refine ev_call dX12_held_57 rfl rfl mr_12_135 rfl rfl rfl (c_passes (c := 61) hR4 (by decide)) ?_
        rintro _ _ ⟨e1, I5, rfl, hx5, hR5⟩
        rw [if_neg n61] at e1
        rw [sPass, if_neg n61] at hR5
        subst e1
        show Ev lyM (d + 2) hX12_held 60 [some (.ref 0), some (.int dep), some (.int x)] [.int 0] (I5, J, R) _
        refine ev_if_eq (t := 78) dX12_held_60 (by decide) (fun _ => ?_) (fun q => absurd q (by decide))
        refine ev_st dX12_held_78 rfl rfl ?_
        exact ev_iret dX12_held_79 rfl (⟨x, _, rfl, rfl, ((hx2.tr hx3).tr hx4).tr hx5, by rw [gE, if_neg (fun q => q.elim n60 (fun q => q.elim n62 n61))]; exact hR5, by rw [gE, if_neg (fun q => q.elim n60 (fun q => q.elim n62 n61))]; exact hv2⟩)
