/-! the class: what the widow hears -/
def k_lr (s o : Int32) : Bool := !decide (((s ^^^ o) &&& (-(s ^^^ o))) &&& s = 0)
def k_lh (H : Nat → Int32) (v u : Nat) : Nat → Nat × Int32
  | 0 => (0, -1)
  | b + 1 => if nI b &&& (nI v ^^^ (-1)) = 0 then (if cN b = u then (if (k_lh H v u b).2 < H b then (b, H b) else if H b = (k_lh H v u b).2 then (if k_lr (nI b) (nI (k_lh H v u b).1) = true then (b, H b) else k_lh H v u b) else k_lh H v u b) else k_lh H v u b) else k_lh H v u b
theorem lh_in {H : Nat → Int32} {v u : Nat} (hv : v < 256) : ∀ b, b ≤ v + 1 → (k_lh H v u b).1 < 256 ∧ nI (k_lh H v u b).1 &&& (nI v ^^^ (-1)) = 0
  | 0, _ => ⟨show 0 < 256 by decide, show nI 0 &&& _ = 0 by rw [nI_0, Int32.zero_and]⟩
  | b + 1, hb => by
    have ih := lh_in (H := H) (u := u) hv b (by omega)
    simp only [k_lh]
    split
    · next h =>
      split
      · split
        · exact ⟨by show b < 256; omega, h⟩
        · split
          · split
            · exact ⟨by show b < 256; omega, h⟩
            · exact ih
          · exact ih
      · exact ih
    · exact ih
def mbr (x : Int32) : Nat → List Int64
  | 0 => []
  | b + 1 => if k_b x (nI b) = 0 then mbr x b else mbr x b ++ [(nI b).toInt64]
theorem mbr_mono {x : Int32} {a : Nat} : ∀ b, a ≤ b → (mbr x a).length ≤ (mbr x b).length
  | 0, h => by rw [show a = 0 by omega]; exact Nat.le_refl _
  | b + 1, h => by
    by_cases e : a = b + 1
    · rw [e]; exact Nat.le_refl _
    · have := mbr_mono (x := x) b (show a ≤ b by omega)
      simp only [mbr]
      split
      · exact this
      · rw [List.length_append]; omega
theorem mbr_s {x : Int32} {b : Nat} (h : ¬ k_b x (nI b) = 0) : (mbr x b).length + 1 = (mbr x (b + 1)).length := by
  rw [mbr, if_neg h, List.length_append]; rfl
theorem mbr_cN : ∀ h, h < 256 → (mbr (nI h) 8).length = cN h := by decide +kernel
theorem tC_add {l : List Int64} {I : Nat → Nat → Int32} {J : Nat → Nat → Int64} {v : Int64} (h : tC l I J) : tC (l ++ [v]) (ti_wr I 3 1 (nI (l.length + 1))) (ti_wl J 4 l.length v) := by
  refine ⟨by rw [ti_wr_at, List.length_append]; rfl, fun k w hk => ?_⟩
  by_cases e : k = l.length
  · subst e
    rw [List.getElem?_append_right (Nat.le_refl _), Nat.sub_self] at hk
    cases hk
    exact ti_wl_at
  · by_cases e2 : k < l.length
    · rw [List.getElem?_append_left e2] at hk
      rw [show ti_wl J 4 l.length v 4 k = J 4 k by simp [ti_wl, va_up, vp_updL, e]]
      exact h.2 k w hk
    · rw [List.getElem?_append_right (by omega)] at hk
      obtain ⟨q, hq⟩ : ∃ q, k - l.length = q + 1 := ⟨k - l.length - 1, by omega⟩
      rw [hq] at hk
      cases hk
theorem k_lesser {I : Nat → Nat → Int32} {J : Nat → Nat → Int64} {R : Nat → Nat → Value} {d : Nat} (s t : Int32) : Cal lyC d hX1_isLesserRow 3 [.int s, .int t] (I, J, R) (fun r M' => r = some (.int (b2i (k_lr s t))) ∧ M' = (I, J, R)) := by
  show Ev lyC d hX1_isLesserRow 0 [some (.int s), some (.int t), none] [] (I, J, R) _
  refine ev_st dX1_isLesserRow_0 rfl rfl ?_
  refine ev_st dX1_isLesserRow_1 rfl rfl ?_
  refine ev_st dX1_isLesserRow_2 rfl rfl ?_
  refine ev_st (L' := [some (.int s), some (.int t), some (.int (s ^^^ t))]) dX1_isLesserRow_3 rfl rfl ?_
  refine ev_st dX1_isLesserRow_4 rfl rfl ?_
  refine ev_st dX1_isLesserRow_5 rfl rfl ?_
  refine ev_st dX1_isLesserRow_6 rfl rfl ?_
  refine ev_st dX1_isLesserRow_7 rfl rfl ?_
  refine ev_st dX1_isLesserRow_8 rfl rfl ?_
  refine ev_st dX1_isLesserRow_9 rfl rfl ?_
  refine ev_if_eq (t := 17) (x := ((s ^^^ t) &&& (-(s ^^^ t))) &&& s) dX1_isLesserRow_10 (by decide) (fun c_10 => ?_) (fun c_10 => ?_)
  · refine ev_iconst (v := 0) dX1_isLesserRow_17 (by decide) ?_
    exact ev_zret dX1_isLesserRow_18 rfl (by decide) (⟨by simp [k_lr, b2i, c_10], rfl⟩)
  · refine ev_iconst (v := 1) dX1_isLesserRow_13 (by decide) ?_
    refine ev_goto (t := 18) dX1_isLesserRow_14 (by decide) ?_
    exact ev_zret dX1_isLesserRow_18 rfl (by decide) (⟨by simp [k_lr, b2i, c_10], rfl⟩)
set_option maxHeartbeats 1000000 in
theorem k_addMembers {I I2 : Nat → Nat → Int32} {J2 : Nat → Nat → Int64} {R : Nat → Nat → Value} {d : Nat} {l : List Int64} {x : Int32} (hs2 : fC I I2) (hq : tC l I2 J2) (hl : l.length + (mbr x 8).length ≤ 8) : Cal lyC (d + 1) hX4_addMembers 3 [.ref 3, .int x] (I2, J2, R) (fun r M' => r = none ∧ ∃ I3 J3, M' = (I3, J3, R) ∧ fC I I3 ∧ tC (l ++ mbr x 8) I3 J3) := by
  have loop : ∀ (k b : Nat) (I2 : Nat → Nat → Int32) (J2 : Nat → Nat → Int64), b ≤ 8 → 8 - b < k → tC (l ++ mbr x b) I2 J2 → fC I I2 → Ev lyC (d + 1) hX4_addMembers 2 [some (.ref 3), some (.int x), some (.int (nI b))] [] (I2, J2, R) (fun r M' => r = none ∧ ∃ I3 J3, M' = (I3, J3, R) ∧ fC I I3 ∧ tC (l ++ mbr x 8) I3 J3) := by
    intro k
    induction k with
    | zero => intro b I2 J2 h1 h2; omega
    | succ k ih =>
      intro b I2 J2 hb hk hq hs2
      refine ev_st dX4_addMembers_2 rfl rfl ?_
      refine ev_bipush (v := 8) dX4_addMembers_3 (by decide) ?_
      refine ev_ic_geN (t := 28) (a := b) (b := 8) dX4_addMembers_5 (by decide) rfl rfl (by omega) (by omega) (fun c_5 => ?_) (fun c_5 => ?_)
      · exact ev_vret dX4_addMembers_28 rfl (⟨rfl, _, _, rfl, hs2, by rw [show b = 8 by omega] at hq; exact hq⟩)
      · refine ev_st dX4_addMembers_8 rfl rfl ?_
        refine ev_st dX4_addMembers_9 rfl rfl ?_
        refine ev_st dX4_addMembers_10 rfl rfl ?_
        refine ev_iconst (v := 1) dX4_addMembers_11 (by decide) ?_
        refine ev_st dX4_addMembers_12 rfl rfl ?_
        refine ev_if_eq (t := 22) (x := (x >>> ((nI b) &&& 31)) &&& 1) dX4_addMembers_13 (by decide) (fun c_13 => ?_) (fun c_13 => ?_)
        · refine ev_iincN (a := b) (b := b + 1) (L' := [some (.ref 3), some (.int x), some (.int (nI (b + 1)))]) dX4_addMembers_22 rfl (nI_1 _) rfl ?_
          refine ev_goto (t := 2) dX4_addMembers_25 (by decide) ?_
          exact ih _ _ _ (by omega) (by omega) (by rw [mbr, if_pos (show k_b x (nI b) = 0 from c_13)]; exact hq) hs2
        · refine ev_st dX4_addMembers_16 rfl rfl ?_
          refine ev_st dX4_addMembers_17 rfl rfl ?_
          refine ev_st dX4_addMembers_18 rfl rfl ?_
          refine ev_call dX4_addMembers_19 rfl rfl mr_4_22 rfl rfl rfl (k_add (I := I2) (J := J2) (m := (l ++ mbr x b).length) hq.1 (by have h1 := mbr_s (show ¬ k_b x (nI b) = 0 from c_13); have h2 := mbr_mono (x := x) 8 (show b + 1 ≤ 8 by omega); rw [List.length_append]; omega) (nI b).toInt64) ?_
          rintro _ _ ⟨rfl, rfl⟩
          show Ev lyC (d + 1) hX4_addMembers 22 [some (.ref 3), some (.int x), some (.int (nI b))] [] (ti_wr I2 3 1 (nI ((l ++ mbr x b).length + 1)), ti_wl J2 4 ((l ++ mbr x b).length) ((nI b).toInt64), R) _
          refine ev_iincN (a := b) (b := b + 1) (L' := [some (.ref 3), some (.int x), some (.int (nI (b + 1)))]) dX4_addMembers_22 rfl (nI_1 _) rfl ?_
          refine ev_goto (t := 2) dX4_addMembers_25 (by decide) ?_
          exact ih _ _ _ (by omega) (by omega) (by rw [mbr, if_neg (show ¬ k_b x (nI b) = 0 from c_13), ← List.append_assoc]; exact tC_add hq) (hs2.w (p := 3) (k := 1) rfl _)
  show Ev lyC (d + 1) hX4_addMembers 0 [some (.ref 3), some (.int x), none] [] (I2, J2, R) _
  refine ev_iconst (v := 0) dX4_addMembers_0 (by decide) ?_
  refine ev_st (L' := [some (.ref 3), some (.int x), some (.int 0)]) dX4_addMembers_1 rfl rfl ?_
  exact loop 9 0 _ _ (by omega) (by omega) (by rw [mbr, List.append_nil]; exact hq) hs2
theorem k_harmF {I I2 : Nat → Nat → Int32} {J : Nat → Nat → Int64} {R : Nat → Nat → Value} {d ns : Nat} (hns : I 11 4 = nI ns) (hns8 : ns ≤ 8) (hs : fC I I2) (x : Int32) : Cal lyC (d + 1) hX6_harmOf 2 [.ref 11, .int x] (I2, J, R) (fun r M' => r = some (.int (k_sum (I 13) x ns)) ∧ M' = (I2, J, R)) := by
  have K := k_harmOf (I := I2) (J := J) (R := R) (d := d) (ns := ns) (by rw [hs.r 11 rfl]; exact hns) hns8 x
  rw [hs.r 13 rfl] at K
  exact K
set_option maxHeartbeats 1000000 in
theorem k_leastHarm {I : Nat → Nat → Int32} {J : Nat → Nat → Int64} {R : Nat → Nat → Value} {d ns v u : Nat} (hns : I 11 4 = nI ns) (hns8 : ns ≤ 8) (hv : v < 256) (hu : u ≤ 8) : Cal lyC (d + 3) hX1_leastHarm 7 [.ref 23, .int (nI v), .int (nI u)] (I, J, R) (fun r M' => r = some (.int (k_sum (I 13) (nI v &&& (nI (k_lh (fun b => k_sum (I 13) (nI b) ns) v u (v + 1)).1 ^^^ (-1))) ns)) ∧ ∃ I3 J3, M' = (I3, J3, R) ∧ fC I I3 ∧ tC (mbr (nI (k_lh (fun b => k_sum (I 13) (nI b) ns) v u (v + 1)).1) 8 ++ mbr (nI v &&& (nI (k_lh (fun b => k_sum (I 13) (nI b) ns) v u (v + 1)).1 ^^^ (-1))) 8) I3 J3) := by
  have hu8 : cN v ≤ 8 := cN_8 v hv
  have hin := lh_in (H := (fun b => k_sum (I 13) (nI b) ns)) (u := u) hv (v + 1) (Nat.le_refl _)
  have fin : ∀ (o : Int32) (b : Nat) (z : Option Value) (h : Nat), h < 256 → nI h &&& (nI v ^^^ (-1)) = 0 → h = h → Ev lyC (d + 3) hX1_leastHarm 79 [some (.ref 23), some (.int (nI v)), some (.int (nI u)), some (.int (nI h)), some (.int o), some (.int (nI b)), z] [] (I, J, R) (fun r M' => r = some (.int (k_sum (I 13) (nI v &&& (nI h ^^^ (-1))) ns)) ∧ ∃ I3 J3, M' = (I3, J3, R) ∧ fC I I3 ∧ tC (mbr (nI h) 8 ++ mbr (nI v &&& (nI h ^^^ (-1))) 8) I3 J3) := by
    intro o b z h hh hz _
    have hs := sub_set v hv h hh hz
    refine ev_st dX1_leastHarm_79 rfl rfl ?_
    refine ev_getC dX1_leastHarm_80 fr_1_34 rfl rfl ?_
    refine ev_call dX1_leastHarm_83 rfl rfl mr_1_113 rfl rfl rfl (k_clear) ?_
    rintro _ _ ⟨rfl, rfl⟩
    show Ev lyC (d + 3) hX1_leastHarm 86 [some (.ref 23), some (.int (nI v)), some (.int (nI u)), some (.int (nI h)), some (.int o), some (.int (nI b)), z] [] (ti_wr I 3 1 0, J, R) _
    refine ev_st dX1_leastHarm_86 rfl rfl ?_
    refine ev_getC dX1_leastHarm_87 fr_1_34 rfl rfl ?_
    refine ev_st dX1_leastHarm_90 rfl rfl ?_
    refine ev_call dX1_leastHarm_91 rfl rfl mr_1_116 rfl rfl rfl (k_addMembers (I := I) (l := []) (fC.rf.w (p := 3) (k := 1) rfl _) ⟨rfl, fun k v q => by cases q⟩ (by rw [mbr_cN h hh]; show 0 + cN h ≤ 8; omega)) ?_
    rintro _ _ ⟨rfl, I2, J2, rfl, hs2, hq2⟩
    show Ev lyC (d + 3) hX1_leastHarm 94 [some (.ref 23), some (.int (nI v)), some (.int (nI u)), some (.int (nI h)), some (.int o), some (.int (nI b)), z] [] (I2, J2, R) _
    refine ev_st dX1_leastHarm_94 rfl rfl ?_
    refine ev_getC dX1_leastHarm_95 fr_1_34 rfl rfl ?_
    refine ev_st dX1_leastHarm_98 rfl rfl ?_
    refine ev_st dX1_leastHarm_99 rfl rfl ?_
    refine ev_iconst (v := -1) dX1_leastHarm_100 (by decide) ?_
    refine ev_st dX1_leastHarm_101 rfl rfl ?_
    refine ev_st dX1_leastHarm_102 rfl rfl ?_
    refine ev_call dX1_leastHarm_103 rfl rfl mr_1_116 rfl rfl rfl (k_addMembers hs2 hq2 (by rw [List.nil_append, hs.2.1, mbr_cN h hh, mbr_cN (v - h) (by omega)]; omega)) ?_
    rintro _ _ ⟨rfl, I3, J3, rfl, hs3, hq3⟩
    show Ev lyC (d + 3) hX1_leastHarm 106 [some (.ref 23), some (.int (nI v)), some (.int (nI u)), some (.int (nI h)), some (.int o), some (.int (nI b)), z] [] (I3, J3, R) _
    refine ev_st dX1_leastHarm_106 rfl rfl ?_
    refine ev_getC dX1_leastHarm_107 fr_1_30 rfl rfl ?_
    refine ev_st dX1_leastHarm_110 rfl rfl ?_
    refine ev_st dX1_leastHarm_111 rfl rfl ?_
    refine ev_iconst (v := -1) dX1_leastHarm_112 (by decide) ?_
    refine ev_st dX1_leastHarm_113 rfl rfl ?_
    refine ev_st dX1_leastHarm_114 rfl rfl ?_
    refine ev_call dX1_leastHarm_115 rfl rfl mr_1_107 rfl rfl rfl (k_harmF hns hns8 hs3 ((nI v) &&& ((nI h) ^^^ ((-1))))) ?_
    rintro _ _ ⟨rfl, rfl⟩
    show Ev lyC (d + 3) hX1_leastHarm 118 [some (.ref 23), some (.int (nI v)), some (.int (nI u)), some (.int (nI h)), some (.int o), some (.int (nI b)), z] [.int (k_sum (I 13) ((nI v) &&& ((nI h) ^^^ ((-1)))) ns)] (I3, J3, R) _
    exact ev_iret dX1_leastHarm_118 rfl (⟨rfl, _, _, rfl, hs3, hq3⟩)
  have loop : ∀ (k b h : Nat) (o : Int32) (z : Option Value), b ≤ v + 1 → v + 1 - b < k → (h, o) = k_lh (fun b => k_sum (I 13) (nI b) ns) v u b → Ev lyC (d + 3) hX1_leastHarm 8 [some (.ref 23), some (.int (nI v)), some (.int (nI u)), some (.int (nI h)), some (.int o), some (.int (nI b)), z] [] (I, J, R) (fun r M' => r = some (.int (k_sum (I 13) (nI v &&& (nI (k_lh (fun b => k_sum (I 13) (nI b) ns) v u (v + 1)).1 ^^^ (-1))) ns)) ∧ ∃ I3 J3, M' = (I3, J3, R) ∧ fC I I3 ∧ tC (mbr (nI (k_lh (fun b => k_sum (I 13) (nI b) ns) v u (v + 1)).1) 8 ++ mbr (nI v &&& (nI (k_lh (fun b => k_sum (I 13) (nI b) ns) v u (v + 1)).1 ^^^ (-1))) 8) I3 J3) := by
    intro k
    induction k with
    | zero => intro b h o z h1 h2; omega
    | succ k ih =>
      intro b h o z hb hk ht
      have hub : cN b ≤ 8 ∨ 256 ≤ b := by by_cases q : b < 256; (exact Or.inl (cN_8 b q)); (exact Or.inr (by omega))
      refine ev_st dX1_leastHarm_8 rfl rfl ?_
      refine ev_st dX1_leastHarm_10 rfl rfl ?_
      refine ev_ic_gtN (t := 79) (a := b) (b := v) dX1_leastHarm_11 (by decide) rfl rfl (by omega) (by omega) (fun c_11 => ?_) (fun c_11 => ?_)
      · have eb : b = v + 1 := by omega
        rw [eb] at ht
        have h1 : h = (k_lh (fun b => k_sum (I 13) (nI b) ns) v u (v + 1)).1 := by rw [← ht]
        rw [← h1] at hin ⊢
        exact fin _ _ _ h hin.1 hin.2 rfl
      · refine ev_st dX1_leastHarm_14 rfl rfl ?_
        refine ev_st dX1_leastHarm_16 rfl rfl ?_
        refine ev_iconst (v := -1) dX1_leastHarm_17 (by decide) ?_
        refine ev_st dX1_leastHarm_18 rfl rfl ?_
        refine ev_st dX1_leastHarm_19 rfl rfl ?_
        refine ev_if_ne (t := 73) (x := (nI b) &&& ((nI v) ^^^ ((-1)))) dX1_leastHarm_20 (by decide) (fun c_20 => ?_) (fun c_20 => ?_)
        · refine ev_iincN (a := b) (b := b + 1) (L' := [some (.ref 23), some (.int (nI v)), some (.int (nI u)), some (.int (nI h)), some (.int o), some (.int (nI (b + 1))), z]) dX1_leastHarm_73 rfl (nI_1 _) rfl ?_
          refine ev_goto (t := 8) dX1_leastHarm_76 (by decide) ?_
          exact ih _ _ _ _ (by omega) (by omega) (by simp only [k_lh, ← ht]; rw [if_neg c_20])
        · refine ev_st dX1_leastHarm_23 rfl rfl ?_
          refine ev_call dX1_leastHarm_25 rfl rfl mr_1_38 rfl rfl rfl (c_bcN (by omega)) ?_
          rintro _ _ ⟨rfl, rfl⟩
          show Ev lyC (d + 3) hX1_leastHarm 28 [some (.ref 23), some (.int (nI v)), some (.int (nI u)), some (.int (nI h)), some (.int o), some (.int (nI b)), z] [.int (nI (cN b))] (I, J, R) _
          refine ev_st dX1_leastHarm_28 rfl rfl ?_
          refine ev_ic_neN (t := 73) (a := cN b) (b := u) dX1_leastHarm_29 (by decide) rfl rfl (by omega) (by omega) (fun c_29 => ?_) (fun c_29 => ?_)
          · refine ev_iincN (a := b) (b := b + 1) (L' := [some (.ref 23), some (.int (nI v)), some (.int (nI u)), some (.int (nI h)), some (.int o), some (.int (nI (b + 1))), z]) dX1_leastHarm_73 rfl (nI_1 _) rfl ?_
            refine ev_goto (t := 8) dX1_leastHarm_76 (by decide) ?_
            exact ih _ _ _ _ (by omega) (by omega) (by simp only [k_lh, ← ht]; rw [if_pos c_20, if_neg c_29])
          · refine ev_st dX1_leastHarm_32 rfl rfl ?_
            refine ev_getC dX1_leastHarm_33 fr_1_30 rfl rfl ?_
            refine ev_st dX1_leastHarm_36 rfl rfl ?_
            refine ev_call dX1_leastHarm_38 rfl rfl mr_1_107 rfl rfl rfl (k_harmF hns hns8 fC.rf (nI b)) ?_
            rintro _ _ ⟨rfl, rfl⟩
            show Ev lyC (d + 3) hX1_leastHarm 41 [some (.ref 23), some (.int (nI v)), some (.int (nI u)), some (.int (nI h)), some (.int o), some (.int (nI b)), z] [.int (k_sum (I 13) (nI b) ns)] (I, J, R) _
            refine ev_st (L' := [some (.ref 23), some (.int (nI v)), some (.int (nI u)), some (.int (nI h)), some (.int o), some (.int (nI b)), some (.int (k_sum (I 13) (nI b) ns))]) dX1_leastHarm_41 rfl rfl ?_
            refine ev_st dX1_leastHarm_43 rfl rfl ?_
            refine ev_st dX1_leastHarm_45 rfl rfl ?_
            refine ev_ic_gt (t := 66) (x := k_sum (I 13) (nI b) ns) (y := o) dX1_leastHarm_47 (by decide) (fun c_47 => ?_) (fun c_47 => ?_)
            · refine ev_st dX1_leastHarm_66 rfl rfl ?_
              refine ev_st (L' := [some (.ref 23), some (.int (nI v)), some (.int (nI u)), some (.int (nI b)), some (.int o), some (.int (nI b)), some (.int (k_sum (I 13) (nI b) ns))]) dX1_leastHarm_68 rfl rfl ?_
              refine ev_st dX1_leastHarm_69 rfl rfl ?_
              refine ev_st (L' := [some (.ref 23), some (.int (nI v)), some (.int (nI u)), some (.int (nI b)), some (.int (k_sum (I 13) (nI b) ns)), some (.int (nI b)), some (.int (k_sum (I 13) (nI b) ns))]) dX1_leastHarm_71 rfl rfl ?_
              refine ev_iincN (a := b) (b := b + 1) (L' := [some (.ref 23), some (.int (nI v)), some (.int (nI u)), some (.int (nI b)), some (.int (k_sum (I 13) (nI b) ns)), some (.int (nI (b + 1))), some (.int (k_sum (I 13) (nI b) ns))]) dX1_leastHarm_73 rfl (nI_1 _) rfl ?_
              refine ev_goto (t := 8) dX1_leastHarm_76 (by decide) ?_
              exact ih _ _ _ _ (by omega) (by omega) (by simp only [k_lh, ← ht]; rw [if_pos c_20, if_pos c_29, if_pos c_47])
            · refine ev_st dX1_leastHarm_50 rfl rfl ?_
              refine ev_st dX1_leastHarm_52 rfl rfl ?_
              refine ev_ic_ne (t := 73) (x := k_sum (I 13) (nI b) ns) (y := o) dX1_leastHarm_54 (by decide) (fun c_54 => ?_) (fun c_54 => ?_)
              · refine ev_iincN (a := b) (b := b + 1) (L' := [some (.ref 23), some (.int (nI v)), some (.int (nI u)), some (.int (nI h)), some (.int o), some (.int (nI (b + 1))), some (.int (k_sum (I 13) (nI b) ns))]) dX1_leastHarm_73 rfl (nI_1 _) rfl ?_
                refine ev_goto (t := 8) dX1_leastHarm_76 (by decide) ?_
                exact ih _ _ _ _ (by omega) (by omega) (by simp only [k_lh, ← ht]; rw [if_pos c_20, if_pos c_29, if_neg c_47, if_neg c_54])
              · refine ev_st dX1_leastHarm_57 rfl rfl ?_
                refine ev_st dX1_leastHarm_59 rfl rfl ?_
                refine ev_call dX1_leastHarm_60 rfl rfl mr_1_110 rfl rfl rfl (k_lesser (nI b) (nI h)) ?_
                rintro _ _ ⟨rfl, rfl⟩
                show Ev lyC (d + 3) hX1_leastHarm 63 [some (.ref 23), some (.int (nI v)), some (.int (nI u)), some (.int (nI h)), some (.int o), some (.int (nI b)), some (.int (k_sum (I 13) (nI b) ns))] [.int (b2i (k_lr (nI b) (nI h)))] (I, J, R) _
                refine ev_if_eq (t := 73) (x := b2i (k_lr (nI b) (nI h))) dX1_leastHarm_63 (by decide) (fun c_63 => ?_) (fun c_63 => ?_)
                · refine ev_iincN (a := b) (b := b + 1) (L' := [some (.ref 23), some (.int (nI v)), some (.int (nI u)), some (.int (nI h)), some (.int o), some (.int (nI (b + 1))), some (.int (k_sum (I 13) (nI b) ns))]) dX1_leastHarm_73 rfl (nI_1 _) rfl ?_
                  refine ev_goto (t := 8) dX1_leastHarm_76 (by decide) ?_
                  exact ih _ _ _ _ (by omega) (by omega) (by simp only [k_lh, ← ht]; rw [if_pos c_20, if_pos c_29, if_neg c_47, if_pos c_54, if_neg (by rw [b2i0.mp c_63]; decide)])
                · refine ev_st dX1_leastHarm_66 rfl rfl ?_
                  refine ev_st (L' := [some (.ref 23), some (.int (nI v)), some (.int (nI u)), some (.int (nI b)), some (.int o), some (.int (nI b)), some (.int (k_sum (I 13) (nI b) ns))]) dX1_leastHarm_68 rfl rfl ?_
                  refine ev_st dX1_leastHarm_69 rfl rfl ?_
                  refine ev_st (L' := [some (.ref 23), some (.int (nI v)), some (.int (nI u)), some (.int (nI b)), some (.int (k_sum (I 13) (nI b) ns)), some (.int (nI b)), some (.int (k_sum (I 13) (nI b) ns))]) dX1_leastHarm_71 rfl rfl ?_
                  refine ev_iincN (a := b) (b := b + 1) (L' := [some (.ref 23), some (.int (nI v)), some (.int (nI u)), some (.int (nI b)), some (.int (k_sum (I 13) (nI b) ns)), some (.int (nI (b + 1))), some (.int (k_sum (I 13) (nI b) ns))]) dX1_leastHarm_73 rfl (nI_1 _) rfl ?_
                  refine ev_goto (t := 8) dX1_leastHarm_76 (by decide) ?_
                  exact ih _ _ _ _ (by omega) (by omega) (by simp only [k_lh, ← ht]; rw [if_pos c_20, if_pos c_29, if_neg c_47, if_pos c_54, if_pos (b2i_ne c_63)])
  show Ev lyC (d + 3) hX1_leastHarm 0 [some (.ref 23), some (.int (nI v)), some (.int (nI u)), none, none, none, none] [] (I, J, R) _
  refine ev_iconst (v := 0) dX1_leastHarm_0 (by decide) ?_
  refine ev_st (L' := [some (.ref 23), some (.int (nI v)), some (.int (nI u)), some (.int 0), none, none, none]) dX1_leastHarm_1 rfl rfl ?_
  refine ev_iconst (v := -1) dX1_leastHarm_2 (by decide) ?_
  refine ev_st (L' := [some (.ref 23), some (.int (nI v)), some (.int (nI u)), some (.int 0), some (.int ((-1))), none, none]) dX1_leastHarm_3 rfl rfl ?_
  refine ev_iconst (v := 0) dX1_leastHarm_5 (by decide) ?_
  refine ev_st (L' := [some (.ref 23), some (.int (nI v)), some (.int (nI u)), some (.int 0), some (.int ((-1))), some (.int 0), none]) dX1_leastHarm_6 rfl rfl ?_
  exact loop (v + 2) 0 0 (-1) _ (by omega) (by omega) rfl
