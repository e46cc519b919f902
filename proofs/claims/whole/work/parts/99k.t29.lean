/-! rules: things by the model: all but the signs ahead -/
def thQ (rp : Nat) (t : Nat → Nat) (E N T : Nat) (fl : Int32) (I : Nat → Nat → Int32) (J : Nat → Nat → Int64) (R : Nat → Nat → Value) (g : RR) (r : Option Value) (M' : TM) : Prop := ∃ x I3, r = some (.int x) ∧ M' = (I3, J, R) ∧ rF I I3 ∧ mR rp I3 R t E N T g.1 ∧ (g.1.1 = true → x = g.2.2 (fun j => if fl = 0 then 0 else I 11 j))
theorem c_letterN {I : Nat → Nat → Int32} {J : Nat → Nat → Int64} {R : Nat → Nat → Value} {d : Nat} : Cal lyM d hX12_letterOf 1 [.int ((-1))] (I, J, R) (fun r M' => r = some (.int (-1)) ∧ M' = (I, J, R)) := by
  show Ev lyM d hX12_letterOf 0 [some (.int ((-1)))] [] (I, J, R) _
  refine ev_st dX12_letterOf_0 rfl rfl ?_
  refine ev_bipush (v := 115) dX12_letterOf_1 (by decide) ?_
  refine ev_ic_ne (t := 10) (x := (-1)) (y := 115) dX12_letterOf_3 (by decide) (fun c_3 => ?_) (fun c_3 => ?_)
  · refine ev_st dX12_letterOf_10 rfl rfl ?_
    refine ev_bipush (v := 116) dX12_letterOf_11 (by decide) ?_
    refine ev_ic_ne (t := 20) (x := (-1)) (y := 116) dX12_letterOf_13 (by decide) (fun c_13 => ?_) (fun c_13 => ?_)
    · refine ev_st dX12_letterOf_20 rfl rfl ?_
      refine ev_bipush (v := 104) dX12_letterOf_21 (by decide) ?_
      refine ev_ic_ne (t := 30) (x := (-1)) (y := 104) dX12_letterOf_23 (by decide) (fun c_23 => ?_) (fun c_23 => ?_)
      · refine ev_st dX12_letterOf_30 rfl rfl ?_
        refine ev_bipush (v := 120) dX12_letterOf_31 (by decide) ?_
        refine ev_ic_ne (t := 40) (x := (-1)) (y := 120) dX12_letterOf_33 (by decide) (fun c_33 => ?_) (fun c_33 => ?_)
        · refine ev_st dX12_letterOf_40 rfl rfl ?_
          refine ev_bipush (v := 110) dX12_letterOf_41 (by decide) ?_
          refine ev_ic_ne (t := 50) (x := (-1)) (y := 110) dX12_letterOf_43 (by decide) (fun c_43 => ?_) (fun c_43 => ?_)
          · refine ev_st dX12_letterOf_50 rfl rfl ?_
            refine ev_bipush (v := 99) dX12_letterOf_51 (by decide) ?_
            refine ev_ic_ne (t := 60) (x := (-1)) (y := 99) dX12_letterOf_53 (by decide) (fun c_53 => ?_) (fun c_53 => ?_)
            · refine ev_st dX12_letterOf_60 rfl rfl ?_
              refine ev_bipush (v := 105) dX12_letterOf_61 (by decide) ?_
              refine ev_ic_ne (t := 71) (x := (-1)) (y := 105) dX12_letterOf_63 (by decide) (fun c_63 => ?_) (fun c_63 => ?_)
              · refine ev_iconst (v := -1) dX12_letterOf_71 (by decide) ?_
                exact ev_iret dX12_letterOf_72 rfl (⟨rfl, rfl⟩)
              · exact absurd c_63 (by decide)
            · exact absurd c_53 (by decide)
          · exact absurd c_43 (by decide)
        · exact absurd c_33 (by decide)
      · exact absurd c_23 (by decide)
    · exact absurd c_13 (by decide)
  · exact absurd c_3 (by decide)
theorem c_letM {I : Nat → Nat → Int32} {J : Nat → Nat → Int64} {R : Nat → Nat → Value} {t : Nat → Nat} {d E a : Nat} (ht : ∀ k, k < E → t k < 256) : Cal lyM d hX12_letterOf 1 [.int (pk t E (true, a))] (I, J, R) (fun r M' => r = some (.int (match (if a < E then lt7 (t a) else none) with | some j => nI j | none => -1)) ∧ M' = (I, J, R)) := by
  by_cases h : a < E
  · rw [pk_at h, if_pos h]; exact c_letterOf (ht a h)
  · rw [if_neg h, pk, if_pos rfl, if_neg h]; exact c_letterN
theorem c_thA {I : Nat → Nat → Int32} {J : Nat → Nat → Int64} {R : Nat → Nat → Value} {rp : Nat} {t : Nat → Nat} {d dep E N T : Nat} {fl : Int32} {s : PS} {f : Option (PS → RR)} (hR : mR rp I R t E N T s) (hs : s.1 = false) : Cal lyM (d + 5) hX12_thing 4 [.ref 0, .int (nI dep)] (I, J, R) (thQ rp t E N T fl I J R (gB t E f s)) := by
  have n45 : ¬ pk t E s = nI 45 := fun q => absurd (hs.symm.trans (pkS_eq (by decide) hR.t q).1) (by decide)
  have hg : gB t E f s = (s, [], fun _ => 0) := by rw [gB.eq_def, if_neg (by rw [hs]; decide)]
  show Ev lyM (d + 5) hX12_thing 0 [some (.ref 0), some (.int (nI dep)), none, none] [] (I, J, R) _
  refine ev_st dX12_thing_0 rfl rfl ?_
  refine ev_bipush (v := 45) dX12_thing_1 (by decide) ?_
  refine ev_call dX12_thing_3 rfl rfl mr_12_135 rfl rfl rfl (c_passes (c := 45) hR (by decide)) ?_
  rintro _ _ ⟨e1, I2, rfl, hx2, hR2⟩
  rw [if_neg n45] at e1
  rw [sPass, if_neg n45] at hR2
  subst e1
  show Ev lyM (d + 5) hX12_thing 6 [some (.ref 0), some (.int (nI dep)), none, none] [.int 0] (I2, J, R) _
  refine ev_if_eq (t := 16) dX12_thing_6 (by decide) (fun _ => ?_) (fun q => absurd q (by decide))
  refine ev_st dX12_thing_16 rfl rfl ?_
  refine ev_call dX12_thing_17 rfl rfl mr_12_127 rfl rfl rfl (c_fine0 hR2 hs) ?_
  rintro _ _ ⟨rfl, rfl⟩
  show Ev lyM (d + 5) hX12_thing 20 [some (.ref 0), some (.int (nI dep)), none, none] [.int 0] (I2, J, R) _
  refine ev_if_ne (t := 25) dX12_thing_20 (by decide) (fun q => absurd q (by decide)) (fun _ => ?_)
  refine ev_iconst (v := 0) dX12_thing_23 (by decide) ?_
  exact ev_iret dX12_thing_24 rfl (⟨_, _, rfl, rfl, hx2, by rw [hg]; exact hR2, by rw [hg]; exact fun q => absurd (hs.symm.trans q) (by decide)⟩)
theorem c_thD {I : Nat → Nat → Int32} {J : Nat → Nat → Int64} {R : Nat → Nat → Value} {rp : Nat} {t : Nat → Nat} {d dep E N T a : Nat} {fl : Int32} (hR : mR rp I R t E N T (true, a)) (hfl : I 0 22 = fl) {f : Option (PS → RR)} (hlt : a < E) (h48 : 48 ≤ t a) (h57 : t a ≤ 57) : Cal lyM (d + 5) hX12_thing 4 [.ref 0, .int (nI dep)] (I, J, R) (thQ rp t E N T fl I J R (gB t E f (true, a))) := by
  have haE : a ≤ E := hR.2.2.2.2.2.2.2.1
  have hE80 : E ≤ 80 := (by have := hR.2.2.2.2.1; have := hR.2.2.2.2.2.1; omega)
  have n45 : ¬ pk t E (true, a) = nI 45 := (by rw [pk_at hlt, nI_eq (by have := hR.t a hlt; omega) (by decide)]; omega)
  have h256 := hR.t a hlt
  have hg : gB t E f (true, a) = ((sNum t E 3 0 999 (true, a)).2, [nI (sNum t E 3 0 999 (true, a)).1], fun _ => nI (sNum t E 3 0 999 (true, a)).1) := by rw [gB.eq_def, if_pos rfl, if_pos ⟨hlt, h48, h57⟩]
  show Ev lyM (d + 5) hX12_thing 0 [some (.ref 0), some (.int (nI dep)), none, none] [] (I, J, R) _
  refine ev_st dX12_thing_0 rfl rfl ?_
  refine ev_bipush (v := 45) dX12_thing_1 (by decide) ?_
  refine ev_call dX12_thing_3 rfl rfl mr_12_135 rfl rfl rfl (c_passes (c := 45) hR (by decide)) ?_
  rintro _ _ ⟨e1, I2, rfl, hx2, hR2⟩
  rw [if_neg n45] at e1
  rw [sPass, if_neg n45] at hR2
  subst e1
  show Ev lyM (d + 5) hX12_thing 6 [some (.ref 0), some (.int (nI dep)), none, none] [.int 0] (I2, J, R) _
  refine ev_if_eq (t := 16) dX12_thing_6 (by decide) (fun _ => ?_) (fun q => absurd q (by decide))
  refine ev_st dX12_thing_16 rfl rfl ?_
  refine ev_call dX12_thing_17 rfl rfl mr_12_127 rfl rfl rfl (c_fineF hR2) ?_
  rintro _ _ ⟨rfl, rfl⟩
  show Ev lyM (d + 5) hX12_thing 20 [some (.ref 0), some (.int (nI dep)), none, none] [.int 1] (I2, J, R) _
  refine ev_if_ne (t := 25) dX12_thing_20 (by decide) (fun _ => ?_) (fun q => absurd q (by decide))
  refine ev_st dX12_thing_25 rfl rfl ?_
  refine ev_call dX12_thing_26 rfl rfl mr_12_131 rfl rfl rfl ((pk_at hlt ▸ c_here hR2)) ?_
  rintro _ _ ⟨rfl, rfl⟩
  show Ev lyM (d + 5) hX12_thing 29 [some (.ref 0), some (.int (nI dep)), none, none] [.int (nI (t a))] (I2, J, R) _
  refine ev_st (L' := [some (.ref 0), some (.int (nI dep)), some (.int (nI (t a))), none]) dX12_thing_29 rfl rfl ?_
  refine ev_st dX12_thing_30 rfl rfl ?_
  refine ev_bipush (v := 40) dX12_thing_31 (by decide) ?_
  refine ev_ic_neN (t := 67) (a := t a) (b := 40) dX12_thing_33 (by decide) rfl rfl (by omega) (by omega) (fun c_33 => ?_) (fun c_33 => ?_)
  · refine ev_st dX12_thing_67 rfl rfl ?_
    refine ev_bipush (v := 48) dX12_thing_68 (by decide) ?_
    refine ev_bipush (v := 57) dX12_thing_70 (by decide) ?_
    refine ev_call dX12_thing_72 rfl rfl mr_12_98 rfl rfl rfl ((pk_at hlt ▸ c_inP (f := 48) (g := 57) (a := a) hR2.t (by decide) (by decide))) ?_
    rintro _ _ ⟨rfl, rfl⟩
    show Ev lyM (d + 5) hX12_thing 75 [some (.ref 0), some (.int (nI dep)), some (.int (nI (t a))), none] [.int (if a < E ∧ 48 ≤ t a ∧ t a ≤ 57 then 1 else 0)] (I2, J, R) _
    refine ev_if_eq (t := 84) (x := if a < E ∧ 48 ≤ t a ∧ t a ≤ 57 then 1 else 0) dX12_thing_75 (by decide) (fun c_75 => ?_) (fun c_75 => ?_)
    · exact absurd ⟨hlt, h48, h57⟩ (if01n c_75)
    · refine ev_st dX12_thing_78 rfl rfl ?_
      refine ev_iconst (v := 3) dX12_thing_79 (by decide) ?_
      refine ev_call dX12_thing_80 rfl rfl mr_12_162 rfl rfl rfl (c_num (m := 3) hR2 (by decide) (by decide)) ?_
      rintro _ _ ⟨rfl, I3, rfl, hx3, hR3⟩
      show Ev lyM (d + 5) hX12_thing 83 [some (.ref 0), some (.int (nI dep)), some (.int (nI (t a))), none] [.int (nI ((sNum t E 3 0 999 (true, a)).1))] (I3, J, R) _
      exact ev_iret dX12_thing_83 rfl (⟨_, _, rfl, rfl, hx2.tr hx3, by rw [hg]; exact hR3, by rw [hg]; exact fun _ => rfl⟩)
  · omega
theorem need_t {t : Nat → Nat} {E c : Nat} {s : PS} (hc : c < 2 ^ 31) (ht : ∀ k, k < E → t k < 256) (h : (sNeed t E c s).1 = true) : s.1 = true := by
  unfold sNeed at h
  split at h
  · next q => exact (pkS_eq hc ht q).1
  · cases h
theorem c_thP {I : Nat → Nat → Int32} {J : Nat → Nat → Int64} {R : Nat → Nat → Value} {rp : Nat} {t : Nat → Nat} {d dep E N T a : Nat} {fl : Int32} (hR : mR rp I R t E N T (true, a)) (hfl : I 0 22 = fl) {f : PS → RR} {F : Nat → Nat} (hC : mRd hX12_held 3 (nI (dep + 1)) rp t E N T fl F f) (hD : F (a + 1) ≤ d + 4) (hdep : dep < 4) (hlt : a < E) (h40 : t a = 40) : Cal lyM (d + 5) hX12_thing 4 [.ref 0, .int (nI dep)] (I, J, R) (thQ rp t E N T fl I J R (gB t E (some f) (true, a))) := by
  have haE : a ≤ E := hR.2.2.2.2.2.2.2.1
  have hE80 : E ≤ 80 := (by have := hR.2.2.2.2.1; have := hR.2.2.2.2.2.1; omega)
  have n45 : ¬ pk t E (true, a) = nI 45 := (by rw [pk_at hlt, nI_eq (by have := hR.t a hlt; omega) (by decide)]; omega)
  have hg : gB t E (some f) (true, a) = (sNeed t E 41 (f (true, a + 1)).1, (f (true, a + 1)).2.1, (f (true, a + 1)).2.2) := by rw [gB, if_pos rfl, if_neg (by simp only; omega)]; simp only; rw [if_pos (pk_c hlt h40)]
  show Ev lyM (d + 5) hX12_thing 0 [some (.ref 0), some (.int (nI dep)), none, none] [] (I, J, R) _
  refine ev_st dX12_thing_0 rfl rfl ?_
  refine ev_bipush (v := 45) dX12_thing_1 (by decide) ?_
  refine ev_call dX12_thing_3 rfl rfl mr_12_135 rfl rfl rfl (c_passes (c := 45) hR (by decide)) ?_
  rintro _ _ ⟨e1, I2, rfl, hx2, hR2⟩
  rw [if_neg n45] at e1
  rw [sPass, if_neg n45] at hR2
  subst e1
  show Ev lyM (d + 5) hX12_thing 6 [some (.ref 0), some (.int (nI dep)), none, none] [.int 0] (I2, J, R) _
  refine ev_if_eq (t := 16) dX12_thing_6 (by decide) (fun _ => ?_) (fun q => absurd q (by decide))
  refine ev_st dX12_thing_16 rfl rfl ?_
  refine ev_call dX12_thing_17 rfl rfl mr_12_127 rfl rfl rfl (c_fineF hR2) ?_
  rintro _ _ ⟨rfl, rfl⟩
  show Ev lyM (d + 5) hX12_thing 20 [some (.ref 0), some (.int (nI dep)), none, none] [.int 1] (I2, J, R) _
  refine ev_if_ne (t := 25) dX12_thing_20 (by decide) (fun _ => ?_) (fun q => absurd q (by decide))
  refine ev_st dX12_thing_25 rfl rfl ?_
  refine ev_call dX12_thing_26 rfl rfl mr_12_131 rfl rfl rfl ((pk_c hlt h40 ▸ c_here hR2)) ?_
  rintro _ _ ⟨rfl, rfl⟩
  show Ev lyM (d + 5) hX12_thing 29 [some (.ref 0), some (.int (nI dep)), none, none] [.int 40] (I2, J, R) _
  refine ev_st (L' := [some (.ref 0), some (.int (nI dep)), some (.int 40), none]) dX12_thing_29 rfl rfl ?_
  refine ev_st dX12_thing_30 rfl rfl ?_
  refine ev_bipush (v := 40) dX12_thing_31 (by decide) ?_
  refine ev_ic_neN (t := 67) (a := 40) (b := 40) dX12_thing_33 (by decide) rfl rfl (by omega) (by omega) (fun c_33 => ?_) (fun c_33 => ?_)
  · exact absurd rfl c_33
  · refine ev_st dX12_thing_36 rfl rfl ?_
    refine ev_iconst (v := 4) dX12_thing_37 (by decide) ?_
    refine ev_ic_geN (t := 67) (a := dep) (b := 4) dX12_thing_38 (by decide) rfl rfl (by omega) (by omega) (fun c_38 => ?_) (fun c_38 => ?_)
    · omega
    · refine ev_st dX12_thing_41 rfl rfl ?_
      refine ev_st dX12_thing_42 rfl rfl ?_
      refine ev_getI (v := nI a) dX12_thing_43 fr_12_117 rfl rfl (by have h := hR2.2.2.2.2.2.2.2.2; rw [if_pos rfl] at h; exact h.2) ?_
      refine ev_iconst (v := 1) dX12_thing_46 (by decide) ?_
      refine ev_iaddN (a := a) (b := 1) (c := a + 1) dX12_thing_47 rfl rfl rfl ?_
      refine ev_putI dX12_thing_48 fr_12_117 rfl rfl ?_
      refine ev_st dX12_thing_51 rfl rfl ?_
      refine ev_st dX12_thing_52 rfl rfl ?_
      refine ev_iconst (v := 1) dX12_thing_53 (by decide) ?_
      refine ev_iaddN (a := dep) (b := 1) (c := dep + 1) dX12_thing_54 rfl rfl rfl ?_
      refine ev_call dX12_thing_55 rfl rfl mr_12_185 rfl rfl rfl (hC _ J R (true, a + 1) (d + 4) hD (hR2.at rfl hlt) (by rw [wr_ne (by decide), hx2.f 22 rfl]; exact hfl)) ?_
      rintro _ _ ⟨x, I3, rfl, rfl, hx3, hR3, hv3⟩
      show Ev lyM (d + 5) hX12_thing 58 [some (.ref 0), some (.int (nI dep)), some (.int 40), none] [.int x] (I3, J, R) _
      refine ev_st (L' := [some (.ref 0), some (.int (nI dep)), some (.int 40), some (.int x)]) dX12_thing_58 rfl rfl ?_
      refine ev_st dX12_thing_59 rfl rfl ?_
      refine ev_bipush (v := 41) dX12_thing_60 (by decide) ?_
      refine ev_call dX12_thing_62 rfl rfl mr_12_169 rfl rfl rfl (c_need (c := 41) hR3 (by decide)) ?_
      rintro _ _ ⟨rfl, I4, rfl, hx4, hR4⟩
      show Ev lyM (d + 5) hX12_thing 65 [some (.ref 0), some (.int (nI dep)), some (.int 40), some (.int x)] [] (I4, J, R) _
      refine ev_st dX12_thing_65 rfl rfl ?_
      exact ev_iret dX12_thing_66 rfl (⟨_, _, rfl, rfl, ((hx2.w16).tr hx3).tr hx4, by rw [hg]; exact hR4, by rw [hg]; exact fun q => (hv3 (need_t (by decide) hR4.t q)).trans (by rw [show ti_wr I2 0 16 (nI (a + 1)) 11 = I 11 from hx2.p 11 rfl])⟩)
