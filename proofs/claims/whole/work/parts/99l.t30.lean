/-! rules: things by the model: names and faults -/
theorem lt7_s {c j : Nat} (h : lt7 c = some j) : 99 ≤ c ∧ j < 7 := by
  unfold lt7 at h
  repeat' split at h
  all_goals first | (cases h; omega) | cases h
theorem c_thN {I : Nat → Nat → Int32} {J : Nat → Nat → Int64} {R : Nat → Nat → Value} {rp : Nat} {t : Nat → Nat} {d dep E N T a : Nat} {fl : Int32} (hR : mR rp I R t E N T (true, a)) (hfl : I 0 22 = fl) {f : Option (PS → RR)} {j : Nat} (hlt : a < E) (hl : lt7 (t a) = some j) (hg : gB t E f (true, a) = ((true, a + 1), [nI (1000 + j)], fun e => e j)) : Cal lyM (d + 5) hX12_thing 4 [.ref 0, .int (nI dep)] (I, J, R) (thQ rp t E N T fl I J R (gB t E f (true, a))) := by
  have haE : a ≤ E := hR.2.2.2.2.2.2.2.1
  have hE80 : E ≤ 80 := (by have := hR.2.2.2.2.1; have := hR.2.2.2.2.2.1; omega)
  have h99 := lt7_s hl
  have n45 : ¬ pk t E (true, a) = nI 45 := (by rw [pk_at hlt, nI_eq (by have := hR.t a hlt; omega) (by decide)]; omega)
  have h256 := hR.t a hlt
  show Ev lyM (d + 5) hX12_thing 0 [some (.ref 0), some (.int (nI dep)), none, none] [] (I, J, R) _
  refine ev_st dX12_thing_0 rfl rfl ?_
  refine ev_bipush (v := 45) dX12_thing_1 (by decide) ?_
  refine ev_call dX12_thing_3 rfl rfl mr_12_135 rfl rfl rfl (c_passes (c := 45) hR (by decide)) ?_
  rintro _ _ ⟨e1, I2, rfl, hx2, hR2⟩
  rw [if_neg n45] at e1
  rw [sPass, if_neg n45] at hR2
  subst e1
  show Ev lyM (d + 5) hX12_thing 6 [some (.ref 0), some (.int (nI dep)), none, none] [.int 0] (I2, J, R) _
  refine ev_if_eq (t := 16) dX12_thing_6 (by decide) (fun _ => ?_) (fun q => absurd q (by decide))
  refine ev_st dX12_thing_16 rfl rfl ?_
  refine ev_call dX12_thing_17 rfl rfl mr_12_127 rfl rfl rfl (c_fineF hR2) ?_
  rintro _ _ ⟨rfl, rfl⟩
  show Ev lyM (d + 5) hX12_thing 20 [some (.ref 0), some (.int (nI dep)), none, none] [.int 1] (I2, J, R) _
  refine ev_if_ne (t := 25) dX12_thing_20 (by decide) (fun _ => ?_) (fun q => absurd q (by decide))
  refine ev_st dX12_thing_25 rfl rfl ?_
  refine ev_call dX12_thing_26 rfl rfl mr_12_131 rfl rfl rfl ((pk_at hlt ▸ c_here hR2)) ?_
  rintro _ _ ⟨rfl, rfl⟩
  show Ev lyM (d + 5) hX12_thing 29 [some (.ref 0), some (.int (nI dep)), none, none] [.int (nI (t a))] (I2, J, R) _
  refine ev_st (L' := [some (.ref 0), some (.int (nI dep)), some (.int (nI (t a))), none]) dX12_thing_29 rfl rfl ?_
  refine ev_st dX12_thing_30 rfl rfl ?_
  refine ev_bipush (v := 40) dX12_thing_31 (by decide) ?_
  refine ev_ic_neN (t := 67) (a := t a) (b := 40) dX12_thing_33 (by decide) rfl rfl (by omega) (by omega) (fun c_33 => ?_) (fun c_33 => ?_)
  · refine ev_st dX12_thing_67 rfl rfl ?_
    refine ev_bipush (v := 48) dX12_thing_68 (by decide) ?_
    refine ev_bipush (v := 57) dX12_thing_70 (by decide) ?_
    refine ev_call dX12_thing_72 rfl rfl mr_12_98 rfl rfl rfl ((pk_at hlt ▸ c_inP (f := 48) (g := 57) (a := a) hR2.t (by decide) (by decide))) ?_
    rintro _ _ ⟨rfl, rfl⟩
    show Ev lyM (d + 5) hX12_thing 75 [some (.ref 0), some (.int (nI dep)), some (.int (nI (t a))), none] [.int (if a < E ∧ 48 ≤ t a ∧ t a ≤ 57 then 1 else 0)] (I2, J, R) _
    refine ev_if_eq (t := 84) (x := if a < E ∧ 48 ≤ t a ∧ t a ≤ 57 then 1 else 0) dX12_thing_75 (by decide) (fun c_75 => ?_) (fun c_75 => ?_)
    · refine ev_st dX12_thing_84 rfl rfl ?_
      refine ev_call dX12_thing_85 rfl rfl mr_12_188 rfl rfl rfl ((by have K := c_letterOf (I := I2) (J := J) (R := R) (d := d + 4) (c := t a) h256; rw [hl] at K; exact K)) ?_
      rintro _ _ ⟨rfl, rfl⟩
      show Ev lyM (d + 5) hX12_thing 88 [some (.ref 0), some (.int (nI dep)), some (.int (nI (t a))), none] [.int (nI j)] (I2, J, R) _
      refine ev_iconst (v := -1) dX12_thing_88 (by decide) ?_
      refine ev_ic_ne (t := 102) (x := nI j) (y := (-1)) dX12_thing_89 (by decide) (fun c_89 => ?_) (fun c_89 => ?_)
      · refine ev_st dX12_thing_102 rfl rfl ?_
        refine ev_st dX12_thing_103 rfl rfl ?_
        refine ev_getI (v := nI a) dX12_thing_104 fr_12_117 rfl rfl (by have h := hR2.2.2.2.2.2.2.2.2; rw [if_pos rfl] at h; exact h.2) ?_
        refine ev_iconst (v := 1) dX12_thing_107 (by decide) ?_
        refine ev_iaddN (a := a) (b := 1) (c := a + 1) dX12_thing_108 rfl rfl rfl ?_
        refine ev_putI dX12_thing_109 fr_12_117 rfl rfl ?_
        refine ev_st dX12_thing_112 rfl rfl ?_
        refine ev_getI (v := fl) dX12_thing_113 fr_12_191 rfl rfl (by show I2 0 22 = fl; rw [hx2.f 22 rfl]; exact hfl) ?_
        refine ev_if_eq (t := 131) (x := fl) dX12_thing_116 (by decide) (fun c_116 => ?_) (fun c_116 => ?_)
        · refine ev_iconst (v := 0) dX12_thing_131 (by decide) ?_
          exact ev_iret dX12_thing_132 rfl (⟨_, _, rfl, rfl, hx2.w16, by rw [hg]; exact hR2.at rfl hlt, by rw [hg]; exact fun _ => by simp [c_116]⟩)
        · refine ev_st dX12_thing_119 rfl rfl ?_
          refine ev_getC dX12_thing_120 fr_12_46 rfl rfl ?_
          refine ev_st dX12_thing_123 rfl rfl ?_
          refine ev_call dX12_thing_124 rfl rfl mr_12_188 rfl rfl rfl ((by have K := c_letterOf (I := ti_wr I2 0 16 (nI (a + 1))) (J := J) (R := R) (d := d + 4) (c := t a) h256; rw [hl] at K; exact K)) ?_
          rintro _ _ ⟨rfl, rfl⟩
          show Ev lyM (d + 5) hX12_thing 127 [some (.ref 0), some (.int (nI dep)), some (.int (nI (t a))), none] [.int (nI j), .ref 11] (ti_wr I2 0 16 (nI (a + 1)), J, R) _
          refine ev_iald (j := j) (v := I 11 j) dX12_thing_127 rfl rfl (by omega) (by decide) (by show I2 11 j = _; rw [hx2.p 11 rfl]) ?_
          refine ev_goto (t := 132) dX12_thing_128 (by decide) ?_
          exact ev_iret dX12_thing_132 rfl (⟨_, _, rfl, rfl, hx2.w16, by rw [hg]; exact hR2.at rfl hlt, by rw [hg]; exact fun _ => by simp [c_116]⟩)
      · exact absurd c_89 (neM1 (by omega))
    · exact absurd (if01 c_75).2.2 (by omega)
  · omega
theorem c_thX {I : Nat → Nat → Int32} {J : Nat → Nat → Int64} {R : Nat → Nat → Value} {rp : Nat} {t : Nat → Nat} {d dep E N T a : Nat} {fl : Int32} (hR : mR rp I R t E N T (true, a)) (hfl : I 0 22 = fl) {f : Option (PS → RR)} (n45 : ¬ pk t E (true, a) = nI 45) (h40 : ¬ (pk t E (true, a) = nI 40 ∧ dep < 4)) (hdep : dep ≤ 4) (hnd : ¬ (a < E ∧ 48 ≤ t a ∧ t a ≤ 57)) (hl : (if a < E then lt7 (t a) else none) = none) (hg : gB t E f (true, a) = ((false, a), [], fun _ => 0)) : Cal lyM (d + 5) hX12_thing 4 [.ref 0, .int (nI dep)] (I, J, R) (thQ rp t E N T fl I J R (gB t E f (true, a))) := by
  have haE : a ≤ E := hR.2.2.2.2.2.2.2.1
  have hE80 : E ≤ 80 := (by have := hR.2.2.2.2.1; have := hR.2.2.2.2.2.1; omega)
  show Ev lyM (d + 5) hX12_thing 0 [some (.ref 0), some (.int (nI dep)), none, none] [] (I, J, R) _
  refine ev_st dX12_thing_0 rfl rfl ?_
  refine ev_bipush (v := 45) dX12_thing_1 (by decide) ?_
  refine ev_call dX12_thing_3 rfl rfl mr_12_135 rfl rfl rfl (c_passes (c := 45) hR (by decide)) ?_
  rintro _ _ ⟨e1, I2, rfl, hx2, hR2⟩
  rw [if_neg n45] at e1
  rw [sPass, if_neg n45] at hR2
  subst e1
  show Ev lyM (d + 5) hX12_thing 6 [some (.ref 0), some (.int (nI dep)), none, none] [.int 0] (I2, J, R) _
  refine ev_if_eq (t := 16) dX12_thing_6 (by decide) (fun _ => ?_) (fun q => absurd q (by decide))
  refine ev_st dX12_thing_16 rfl rfl ?_
  refine ev_call dX12_thing_17 rfl rfl mr_12_127 rfl rfl rfl (c_fineF hR2) ?_
  rintro _ _ ⟨rfl, rfl⟩
  show Ev lyM (d + 5) hX12_thing 20 [some (.ref 0), some (.int (nI dep)), none, none] [.int 1] (I2, J, R) _
  refine ev_if_ne (t := 25) dX12_thing_20 (by decide) (fun _ => ?_) (fun q => absurd q (by decide))
  refine ev_st dX12_thing_25 rfl rfl ?_
  refine ev_call dX12_thing_26 rfl rfl mr_12_131 rfl rfl rfl (c_here hR2) ?_
  rintro _ _ ⟨rfl, rfl⟩
  show Ev lyM (d + 5) hX12_thing 29 [some (.ref 0), some (.int (nI dep)), none, none] [.int (pk t E (true, a))] (I2, J, R) _
  refine ev_st (L' := [some (.ref 0), some (.int (nI dep)), some (.int (pk t E (true, a))), none]) dX12_thing_29 rfl rfl ?_
  refine ev_st dX12_thing_30 rfl rfl ?_
  refine ev_bipush (v := 40) dX12_thing_31 (by decide) ?_
  refine ev_ic_ne (t := 67) (x := pk t E (true, a)) (y := 40) dX12_thing_33 (by decide) (fun c_33 => ?_) (fun c_33 => ?_)
  · refine ev_st dX12_thing_67 rfl rfl ?_
    refine ev_bipush (v := 48) dX12_thing_68 (by decide) ?_
    refine ev_bipush (v := 57) dX12_thing_70 (by decide) ?_
    refine ev_call dX12_thing_72 rfl rfl mr_12_98 rfl rfl rfl (c_inP (f := 48) (g := 57) (a := a) hR2.t (by decide) (by decide)) ?_
    rintro _ _ ⟨rfl, rfl⟩
    show Ev lyM (d + 5) hX12_thing 75 [some (.ref 0), some (.int (nI dep)), some (.int (pk t E (true, a))), none] [.int (if a < E ∧ 48 ≤ t a ∧ t a ≤ 57 then 1 else 0)] (I2, J, R) _
    refine ev_if_eq (t := 84) (x := if a < E ∧ 48 ≤ t a ∧ t a ≤ 57 then 1 else 0) dX12_thing_75 (by decide) (fun c_75 => ?_) (fun c_75 => ?_)
    · refine ev_st dX12_thing_84 rfl rfl ?_
      refine ev_call dX12_thing_85 rfl rfl mr_12_188 rfl rfl rfl ((by have K := c_letM (I := I2) (J := J) (R := R) (d := d + 4) (a := a) hR2.t; rw [hl] at K; exact K)) ?_
      rintro _ _ ⟨rfl, rfl⟩
      show Ev lyM (d + 5) hX12_thing 88 [some (.ref 0), some (.int (nI dep)), some (.int (pk t E (true, a))), none] [.int ((-1))] (I2, J, R) _
      refine ev_iconst (v := -1) dX12_thing_88 (by decide) ?_
      refine ev_ic_ne (t := 102) (x := (-1)) (y := (-1)) dX12_thing_89 (by decide) (fun c_89 => ?_) (fun c_89 => ?_)
      · exact absurd rfl c_89
      · refine ev_st dX12_thing_92 rfl rfl ?_
        refine ev_st dX12_thing_93 rfl rfl ?_
        refine ev_getI (v := nI a) dX12_thing_94 fr_12_117 rfl rfl (by have h := hR2.2.2.2.2.2.2.2.2; rw [if_pos rfl] at h; exact h.2) ?_
        refine ev_call dX12_thing_97 rfl rfl mr_12_139 rfl rfl rfl (c_fault hR2 (e := a) haE) ?_
        rintro _ _ ⟨rfl, I3, rfl, hx3, hR3⟩
        rw [if_pos rfl] at hR3
        show Ev lyM (d + 5) hX12_thing 100 [some (.ref 0), some (.int (nI dep)), some (.int (pk t E (true, a))), none] [] (I3, J, R) _
        refine ev_iconst (v := 0) dX12_thing_100 (by decide) ?_
        exact ev_iret dX12_thing_101 rfl (⟨_, _, rfl, rfl, hx2.tr hx3, by rw [hg]; exact hR3, by rw [hg]; exact fun q => by cases q⟩)
    · exact absurd (if01 c_75) hnd
  · refine ev_st dX12_thing_36 rfl rfl ?_
    refine ev_iconst (v := 4) dX12_thing_37 (by decide) ?_
    refine ev_ic_geN (t := 67) (a := dep) (b := 4) dX12_thing_38 (by decide) rfl rfl (by omega) (by omega) (fun c_38 => ?_) (fun c_38 => ?_)
    · refine ev_st dX12_thing_67 rfl rfl ?_
      refine ev_bipush (v := 48) dX12_thing_68 (by decide) ?_
      refine ev_bipush (v := 57) dX12_thing_70 (by decide) ?_
      refine ev_call dX12_thing_72 rfl rfl mr_12_98 rfl rfl rfl (c_inP (f := 48) (g := 57) (a := a) hR2.t (by decide) (by decide)) ?_
      rintro _ _ ⟨rfl, rfl⟩
      show Ev lyM (d + 5) hX12_thing 75 [some (.ref 0), some (.int (nI dep)), some (.int (pk t E (true, a))), none] [.int (if a < E ∧ 48 ≤ t a ∧ t a ≤ 57 then 1 else 0)] (I2, J, R) _
      refine ev_if_eq (t := 84) (x := if a < E ∧ 48 ≤ t a ∧ t a ≤ 57 then 1 else 0) dX12_thing_75 (by decide) (fun c_75 => ?_) (fun c_75 => ?_)
      · refine ev_st dX12_thing_84 rfl rfl ?_
        refine ev_call dX12_thing_85 rfl rfl mr_12_188 rfl rfl rfl ((by have K := c_letM (I := I2) (J := J) (R := R) (d := d + 4) (a := a) hR2.t; rw [hl] at K; exact K)) ?_
        rintro _ _ ⟨rfl, rfl⟩
        show Ev lyM (d + 5) hX12_thing 88 [some (.ref 0), some (.int (nI dep)), some (.int (pk t E (true, a))), none] [.int ((-1))] (I2, J, R) _
        refine ev_iconst (v := -1) dX12_thing_88 (by decide) ?_
        refine ev_ic_ne (t := 102) (x := (-1)) (y := (-1)) dX12_thing_89 (by decide) (fun c_89 => ?_) (fun c_89 => ?_)
        · exact absurd rfl c_89
        · refine ev_st dX12_thing_92 rfl rfl ?_
          refine ev_st dX12_thing_93 rfl rfl ?_
          refine ev_getI (v := nI a) dX12_thing_94 fr_12_117 rfl rfl (by have h := hR2.2.2.2.2.2.2.2.2; rw [if_pos rfl] at h; exact h.2) ?_
          refine ev_call dX12_thing_97 rfl rfl mr_12_139 rfl rfl rfl (c_fault hR2 (e := a) haE) ?_
          rintro _ _ ⟨rfl, I3, rfl, hx3, hR3⟩
          rw [if_pos rfl] at hR3
          show Ev lyM (d + 5) hX12_thing 100 [some (.ref 0), some (.int (nI dep)), some (.int (pk t E (true, a))), none] [] (I3, J, R) _
          refine ev_iconst (v := 0) dX12_thing_100 (by decide) ?_
          exact ev_iret dX12_thing_101 rfl (⟨_, _, rfl, rfl, hx2.tr hx3, by rw [hg]; exact hR3, by rw [hg]; exact fun q => by cases q⟩)
      · exact absurd (if01 c_75) hnd
    · exact absurd ⟨c_33, by omega⟩ h40
