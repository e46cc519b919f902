/-! rules, by the class: products, sums, what is held -/
theorem gJ_app {t : Nat → Nat} {f : PS → RR} {a : RR} {C : List Int32} {c : Nat} (h : t a.1.2 = c) : C ++ (gJ t f a).2.1 = C ++ a.2.1 ++ (f (true, a.1.2 + 1)).2.1 ++ [nI (2000 + c)] := by
  subst h
  show C ++ (a.2.1 ++ (f (true, a.1.2 + 1)).2.1 ++ [nI (2000 + t a.1.2)]) = _
  rw [List.append_assoc, List.append_assoc, List.append_assoc]
set_option maxHeartbeats 1000000 in
theorem k_prodL_31 {I : Nat → Nat → Int32} {J : Nat → Nat → Int64} {R : Nat → Nat → Value} {t : Nat → Nat} {d E N D0 : Nat} {dep : Int32} {C : List Int32} {f : PS → RR} (hC : kRd hX5_readThing 5 31 dep D0 t E N f) (hp : pay f) (hE : E ≤ 40) (hD : D0 ≤ d) : ∀ (m b : Nat) (a : RR) (z4 : Option Value) (I2 : Nat → Nat → Int32) (fin : RR), b + m = 40 → eC 31 I I2 → cR I2 t E N a.1 → cS 31 I2 (C ++ a.2.1) → (C ++ a.2.1).length ≤ a.1.2 → gL t E 42 47 f m a = fin → Ev lyC (d + 1) hX5_readProduct 8 [some (.ref 31), some (.ref 1), some (.int dep), some (.int (nI b)), z4] [] (I2, J, R) (kQ 31 I J R t E N fin.1 (C ++ fin.2.1)) := by
  intro m
  induction m with
  | zero =>
    intro b a z4 I2 fin hb hx2 hR2 hS2 hl e9
    rw [gL] at e9
    refine ev_st dX5_readProduct_8 rfl rfl ?_
    refine ev_bipush (v := 40) dX5_readProduct_9 (by decide) ?_
    refine ev_ic_geN (t := 61) (a := b) (b := 40) dX5_readProduct_11 (by decide) rfl rfl (by omega) (by omega) (fun c_11 => ?_) (fun c_11 => ?_)
    · exact ev_vret dX5_readProduct_61 rfl (e9 ▸ ⟨rfl, _, rfl, hx2, hR2, hS2⟩)
    · omega
  | succ m ih =>
    intro b a z4 I2 fin hb hx2 hR2 hS2 hl e9
    by_cases hk : pk t E a.1 = nI 42
    · skip
      have hft := (pkS_eq (by decide) hR2.t hk).1
      have haE := (pkS_eq (by decide) hR2.t hk).2.1
      have ht := (pkS_eq (by decide) hR2.t hk).2.2
      refine ev_st dX5_readProduct_8 rfl rfl ?_
      refine ev_bipush (v := 40) dX5_readProduct_9 (by decide) ?_
      refine ev_ic_geN (t := 61) (a := b) (b := 40) dX5_readProduct_11 (by decide) rfl rfl (by omega) (by omega) (fun c_11 => ?_) (fun c_11 => ?_)
      · omega
      · refine ev_st dX5_readProduct_14 rfl rfl ?_
        refine ev_call dX5_readProduct_15 rfl rfl mr_5_58 rfl rfl rfl (k_peek hR2) ?_
        rintro _ _ ⟨e1, rfl⟩
        rw [hk] at e1
        subst e1
        show Ev lyC (d + 1) hX5_readProduct 18 [some (.ref 31), some (.ref 1), some (.int dep), some (.int (nI b)), z4] [.int (nI 42)] (I2, J, R) _
        refine ev_st (L' := [some (.ref 31), some (.ref 1), some (.int dep), some (.int (nI b)), some (.int (nI 42))]) dX5_readProduct_18 rfl rfl ?_
        refine ev_st dX5_readProduct_20 rfl rfl ?_
        refine ev_bipush (v := 42) dX5_readProduct_22 (by decide) ?_
        refine ev_ic_eqN (t := 35) (a := 42) (b := 42) dX5_readProduct_24 (by decide) rfl rfl (by omega) (by omega) (fun c_24 => ?_) (fun c_24 => ?_)
        · refine ev_st dX5_readProduct_35 rfl rfl ?_
          refine ev_call dX5_readProduct_36 rfl rfl mr_5_61 rfl rfl rfl (k_skip (hR2.fine hft) haE) ?_
          rintro _ _ ⟨rfl, rfl⟩
          show Ev lyC (d + 1) hX5_readProduct 39 [some (.ref 31), some (.ref 1), some (.int dep), some (.int (nI b)), some (.int (nI 42))] [] (ti_wr I2 1 2 (nI (a.1.2 + 1)), J, R) _
          refine ev_st dX5_readProduct_39 rfl rfl ?_
          refine ev_st dX5_readProduct_40 rfl rfl ?_
          refine ev_st dX5_readProduct_41 rfl rfl ?_
          refine ev_call dX5_readProduct_42 rfl rfl mr_5_70 rfl rfl rfl (hC _ J R (true, a.1.2 + 1) _ _ hD (hR2.at hft (by omega)) (xC.add hS2 (by decide)) (by show _ ≤ a.1.2 + 1; omega)) ?_
          rintro _ _ ⟨rfl, I3, rfl, hx3, hR3, hS3⟩
          have hp3 : (f (true, a.1.2 + 1)).2.1.length + (a.1.2 + 1) ≤ (f (true, a.1.2 + 1)).1.2 := hp (true, a.1.2 + 1)
          have hle3 := hR3.le
          have hl3 : (C ++ a.2.1 ++ (f (true, a.1.2 + 1)).2.1).length + 1 ≤ (f (true, a.1.2 + 1)).1.2 := by rw [List.length_append]; omega
          show Ev lyC (d + 1) hX5_readProduct 45 [some (.ref 31), some (.ref 1), some (.int dep), some (.int (nI b)), some (.int (nI 42))] [] (I3, J, R) _
          refine ev_st dX5_readProduct_45 rfl rfl ?_
          refine ev_sipush (v := 2000) dX5_readProduct_46 (by decide) ?_
          refine ev_st dX5_readProduct_49 rfl rfl ?_
          refine ev_iaddN (a := 2000) (b := 42) (c := 2042) dX5_readProduct_51 rfl rfl rfl ?_
          refine ev_call dX5_readProduct_52 rfl rfl mr_5_64 rfl rfl rfl (k_add1_31 hS3.1 (by omega) _) ?_
          rintro _ _ ⟨rfl, rfl⟩
          show Ev lyC (d + 1) hX5_readProduct 55 [some (.ref 31), some (.ref 1), some (.int dep), some (.int (nI b)), some (.int (nI 42))] [] (ti_wr (ti_wr I3 32 ((C ++ a.2.1 ++ (f (true, a.1.2 + 1)).2.1).length) (nI 2042)) 31 3 (nI ((C ++ a.2.1 ++ (f (true, a.1.2 + 1)).2.1).length + 1)), J, R) _
          refine ev_iincN (a := b) (b := b + 1) (L' := [some (.ref 31), some (.ref 1), some (.int dep), some (.int (nI (b + 1))), some (.int (nI 42))]) dX5_readProduct_55 rfl (nI_1 _) rfl ?_
          refine ev_goto (t := 8) dX5_readProduct_58 (by decide) ?_
          refine ih (b + 1) (gJ t f a) _ _ fin (by omega) (((hx2.x xC.rf.w).tr hx3).add) (hR3.add (by decide)) ?_ ?_ ?_
          · rw [gJ_app ht]; exact hS3.add
          · rw [gJ_app ht, List.length_append]; exact hl3
          · rw [gL, if_pos (Or.inl hk)] at e9; exact e9
        · omega
    · by_cases hk2 : pk t E a.1 = nI 47
      · have hk1 := hk
        clear hk
        have hk := hk2
        have hft := (pkS_eq (by decide) hR2.t hk).1
        have haE := (pkS_eq (by decide) hR2.t hk).2.1
        have ht := (pkS_eq (by decide) hR2.t hk).2.2
        refine ev_st dX5_readProduct_8 rfl rfl ?_
        refine ev_bipush (v := 40) dX5_readProduct_9 (by decide) ?_
        refine ev_ic_geN (t := 61) (a := b) (b := 40) dX5_readProduct_11 (by decide) rfl rfl (by omega) (by omega) (fun c_11 => ?_) (fun c_11 => ?_)
        · omega
        · refine ev_st dX5_readProduct_14 rfl rfl ?_
          refine ev_call dX5_readProduct_15 rfl rfl mr_5_58 rfl rfl rfl (k_peek hR2) ?_
          rintro _ _ ⟨e1, rfl⟩
          rw [hk] at e1
          subst e1
          show Ev lyC (d + 1) hX5_readProduct 18 [some (.ref 31), some (.ref 1), some (.int dep), some (.int (nI b)), z4] [.int (nI 47)] (I2, J, R) _
          refine ev_st (L' := [some (.ref 31), some (.ref 1), some (.int dep), some (.int (nI b)), some (.int (nI 47))]) dX5_readProduct_18 rfl rfl ?_
          refine ev_st dX5_readProduct_20 rfl rfl ?_
          refine ev_bipush (v := 42) dX5_readProduct_22 (by decide) ?_
          refine ev_ic_eqN (t := 35) (a := 47) (b := 42) dX5_readProduct_24 (by decide) rfl rfl (by omega) (by omega) (fun c_24 => ?_) (fun c_24 => ?_)
          · omega
          · refine ev_st dX5_readProduct_27 rfl rfl ?_
            refine ev_bipush (v := 47) dX5_readProduct_29 (by decide) ?_
            refine ev_ic_eqN (t := 35) (a := 47) (b := 47) dX5_readProduct_31 (by decide) rfl rfl (by omega) (by omega) (fun c_31 => ?_) (fun c_31 => ?_)
            · refine ev_st dX5_readProduct_35 rfl rfl ?_
              refine ev_call dX5_readProduct_36 rfl rfl mr_5_61 rfl rfl rfl (k_skip (hR2.fine hft) haE) ?_
              rintro _ _ ⟨rfl, rfl⟩
              show Ev lyC (d + 1) hX5_readProduct 39 [some (.ref 31), some (.ref 1), some (.int dep), some (.int (nI b)), some (.int (nI 47))] [] (ti_wr I2 1 2 (nI (a.1.2 + 1)), J, R) _
              refine ev_st dX5_readProduct_39 rfl rfl ?_
              refine ev_st dX5_readProduct_40 rfl rfl ?_
              refine ev_st dX5_readProduct_41 rfl rfl ?_
              refine ev_call dX5_readProduct_42 rfl rfl mr_5_70 rfl rfl rfl (hC _ J R (true, a.1.2 + 1) _ _ hD (hR2.at hft (by omega)) (xC.add hS2 (by decide)) (by show _ ≤ a.1.2 + 1; omega)) ?_
              rintro _ _ ⟨rfl, I3, rfl, hx3, hR3, hS3⟩
              have hp3 : (f (true, a.1.2 + 1)).2.1.length + (a.1.2 + 1) ≤ (f (true, a.1.2 + 1)).1.2 := hp (true, a.1.2 + 1)
              have hle3 := hR3.le
              have hl3 : (C ++ a.2.1 ++ (f (true, a.1.2 + 1)).2.1).length + 1 ≤ (f (true, a.1.2 + 1)).1.2 := by rw [List.length_append]; omega
              show Ev lyC (d + 1) hX5_readProduct 45 [some (.ref 31), some (.ref 1), some (.int dep), some (.int (nI b)), some (.int (nI 47))] [] (I3, J, R) _
              refine ev_st dX5_readProduct_45 rfl rfl ?_
              refine ev_sipush (v := 2000) dX5_readProduct_46 (by decide) ?_
              refine ev_st dX5_readProduct_49 rfl rfl ?_
              refine ev_iaddN (a := 2000) (b := 47) (c := 2047) dX5_readProduct_51 rfl rfl rfl ?_
              refine ev_call dX5_readProduct_52 rfl rfl mr_5_64 rfl rfl rfl (k_add1_31 hS3.1 (by omega) _) ?_
              rintro _ _ ⟨rfl, rfl⟩
              show Ev lyC (d + 1) hX5_readProduct 55 [some (.ref 31), some (.ref 1), some (.int dep), some (.int (nI b)), some (.int (nI 47))] [] (ti_wr (ti_wr I3 32 ((C ++ a.2.1 ++ (f (true, a.1.2 + 1)).2.1).length) (nI 2047)) 31 3 (nI ((C ++ a.2.1 ++ (f (true, a.1.2 + 1)).2.1).length + 1)), J, R) _
              refine ev_iincN (a := b) (b := b + 1) (L' := [some (.ref 31), some (.ref 1), some (.int dep), some (.int (nI (b + 1))), some (.int (nI 47))]) dX5_readProduct_55 rfl (nI_1 _) rfl ?_
              refine ev_goto (t := 8) dX5_readProduct_58 (by decide) ?_
              refine ih (b + 1) (gJ t f a) _ _ fin (by omega) (((hx2.x xC.rf.w).tr hx3).add) (hR3.add (by decide)) ?_ ?_ ?_
              · rw [gJ_app ht]; exact hS3.add
              · rw [gJ_app ht, List.length_append]; exact hl3
              · rw [gL, if_pos (Or.inr hk)] at e9; exact e9
            · omega
      · skip
        rw [gL, if_neg (fun q => q.elim hk hk2)] at e9
        refine ev_st dX5_readProduct_8 rfl rfl ?_
        refine ev_bipush (v := 40) dX5_readProduct_9 (by decide) ?_
        refine ev_ic_geN (t := 61) (a := b) (b := 40) dX5_readProduct_11 (by decide) rfl rfl (by omega) (by omega) (fun c_11 => ?_) (fun c_11 => ?_)
        · omega
        · refine ev_st dX5_readProduct_14 rfl rfl ?_
          refine ev_call dX5_readProduct_15 rfl rfl mr_5_58 rfl rfl rfl (k_peek hR2) ?_
          rintro _ _ ⟨e1, rfl⟩
          subst e1
          show Ev lyC (d + 1) hX5_readProduct 18 [some (.ref 31), some (.ref 1), some (.int dep), some (.int (nI b)), z4] [.int (pk t E a.1)] (I2, J, R) _
          refine ev_st (L' := [some (.ref 31), some (.ref 1), some (.int dep), some (.int (nI b)), some (.int (pk t E a.1))]) dX5_readProduct_18 rfl rfl ?_
          refine ev_st dX5_readProduct_20 rfl rfl ?_
          refine ev_bipush (v := 42) dX5_readProduct_22 (by decide) ?_
          refine ev_ic_eq (t := 35) (x := pk t E a.1) (y := 42) dX5_readProduct_24 (by decide) (fun c_24 => ?_) (fun c_24 => ?_)
          · exact absurd c_24 hk
          · refine ev_st dX5_readProduct_27 rfl rfl ?_
            refine ev_bipush (v := 47) dX5_readProduct_29 (by decide) ?_
            refine ev_ic_eq (t := 35) (x := pk t E a.1) (y := 47) dX5_readProduct_31 (by decide) (fun c_31 => ?_) (fun c_31 => ?_)
            · exact absurd c_31 hk2
            · exact ev_vret dX5_readProduct_34 rfl (e9 ▸ ⟨rfl, _, rfl, hx2, hR2, hS2⟩)
set_option maxHeartbeats 1000000 in
theorem k_prod_31 {t : Nat → Nat} {E N D0 : Nat} {dep : Int32} {f : PS → RR} (hC : kRd hX5_readThing 5 31 dep D0 t E N f) (hp : pay f) (hE : E ≤ 40) : kRd hX5_readProduct 5 31 dep (D0 + 1) t E N (gP t E f) := by
  intro I J R s C D hD0 hR hS hl
  obtain ⟨d, rfl⟩ : ∃ d, D = d + 1 := ⟨D - 1, by omega⟩
  have hD : D0 ≤ d := by omega
  show Ev lyC (d + 1) hX5_readProduct 0 [some (.ref 31), some (.ref 1), some (.int dep), none, none] [] (I, J, R) _
  refine ev_st dX5_readProduct_0 rfl rfl ?_
  refine ev_st dX5_readProduct_1 rfl rfl ?_
  refine ev_st dX5_readProduct_2 rfl rfl ?_
  refine ev_call dX5_readProduct_3 rfl rfl mr_5_70 rfl rfl rfl (hC I J R s C _ hD hR hS hl) ?_
  rintro _ _ ⟨rfl, I3, rfl, hx3, hR3, hS3⟩
  show Ev lyC (d + 1) hX5_readProduct 6 [some (.ref 31), some (.ref 1), some (.int dep), none, none] [] (I3, J, R) _
  refine ev_iconst (v := 0) dX5_readProduct_6 (by decide) ?_
  refine ev_st (L' := [some (.ref 31), some (.ref 1), some (.int dep), some (.int 0), none]) dX5_readProduct_7 rfl rfl ?_
  exact k_prodL_31 hC hp hE hD 40 0 (f s) _ _ _ (by omega) hx3 hR3 hS3 (by have := hp s; rw [List.length_append]; omega) rfl
set_option maxHeartbeats 1000000 in
theorem k_sumL_31 {I : Nat → Nat → Int32} {J : Nat → Nat → Int64} {R : Nat → Nat → Value} {t : Nat → Nat} {d E N D0 : Nat} {dep : Int32} {C : List Int32} {f : PS → RR} (hC : kRd hX5_readProduct 5 31 dep D0 t E N f) (hp : pay f) (hE : E ≤ 40) (hD : D0 ≤ d) : ∀ (m b : Nat) (a : RR) (z4 : Option Value) (I2 : Nat → Nat → Int32) (fin : RR), b + m = 40 → eC 31 I I2 → cR I2 t E N a.1 → cS 31 I2 (C ++ a.2.1) → (C ++ a.2.1).length ≤ a.1.2 → gL t E 43 45 f m a = fin → Ev lyC (d + 1) hX5_readSum 8 [some (.ref 31), some (.ref 1), some (.int dep), some (.int (nI b)), z4] [] (I2, J, R) (kQ 31 I J R t E N fin.1 (C ++ fin.2.1)) := by
  intro m
  induction m with
  | zero =>
    intro b a z4 I2 fin hb hx2 hR2 hS2 hl e9
    rw [gL] at e9
    refine ev_st dX5_readSum_8 rfl rfl ?_
    refine ev_bipush (v := 40) dX5_readSum_9 (by decide) ?_
    refine ev_ic_geN (t := 61) (a := b) (b := 40) dX5_readSum_11 (by decide) rfl rfl (by omega) (by omega) (fun c_11 => ?_) (fun c_11 => ?_)
    · exact ev_vret dX5_readSum_61 rfl (e9 ▸ ⟨rfl, _, rfl, hx2, hR2, hS2⟩)
    · omega
  | succ m ih =>
    intro b a z4 I2 fin hb hx2 hR2 hS2 hl e9
    by_cases hk : pk t E a.1 = nI 43
    · skip
      have hft := (pkS_eq (by decide) hR2.t hk).1
      have haE := (pkS_eq (by decide) hR2.t hk).2.1
      have ht := (pkS_eq (by decide) hR2.t hk).2.2
      refine ev_st dX5_readSum_8 rfl rfl ?_
      refine ev_bipush (v := 40) dX5_readSum_9 (by decide) ?_
      refine ev_ic_geN (t := 61) (a := b) (b := 40) dX5_readSum_11 (by decide) rfl rfl (by omega) (by omega) (fun c_11 => ?_) (fun c_11 => ?_)
      · omega
      · refine ev_st dX5_readSum_14 rfl rfl ?_
        refine ev_call dX5_readSum_15 rfl rfl mr_5_58 rfl rfl rfl (k_peek hR2) ?_
        rintro _ _ ⟨e1, rfl⟩
        rw [hk] at e1
        subst e1
        show Ev lyC (d + 1) hX5_readSum 18 [some (.ref 31), some (.ref 1), some (.int dep), some (.int (nI b)), z4] [.int (nI 43)] (I2, J, R) _
        refine ev_st (L' := [some (.ref 31), some (.ref 1), some (.int dep), some (.int (nI b)), some (.int (nI 43))]) dX5_readSum_18 rfl rfl ?_
        refine ev_st dX5_readSum_20 rfl rfl ?_
        refine ev_bipush (v := 43) dX5_readSum_22 (by decide) ?_
        refine ev_ic_eqN (t := 35) (a := 43) (b := 43) dX5_readSum_24 (by decide) rfl rfl (by omega) (by omega) (fun c_24 => ?_) (fun c_24 => ?_)
        · refine ev_st dX5_readSum_35 rfl rfl ?_
          refine ev_call dX5_readSum_36 rfl rfl mr_5_61 rfl rfl rfl (k_skip (hR2.fine hft) haE) ?_
          rintro _ _ ⟨rfl, rfl⟩
          show Ev lyC (d + 1) hX5_readSum 39 [some (.ref 31), some (.ref 1), some (.int dep), some (.int (nI b)), some (.int (nI 43))] [] (ti_wr I2 1 2 (nI (a.1.2 + 1)), J, R) _
          refine ev_st dX5_readSum_39 rfl rfl ?_
          refine ev_st dX5_readSum_40 rfl rfl ?_
          refine ev_st dX5_readSum_41 rfl rfl ?_
          refine ev_call dX5_readSum_42 rfl rfl mr_5_67 rfl rfl rfl (hC _ J R (true, a.1.2 + 1) _ _ hD (hR2.at hft (by omega)) (xC.add hS2 (by decide)) (by show _ ≤ a.1.2 + 1; omega)) ?_
          rintro _ _ ⟨rfl, I3, rfl, hx3, hR3, hS3⟩
          have hp3 : (f (true, a.1.2 + 1)).2.1.length + (a.1.2 + 1) ≤ (f (true, a.1.2 + 1)).1.2 := hp (true, a.1.2 + 1)
          have hle3 := hR3.le
          have hl3 : (C ++ a.2.1 ++ (f (true, a.1.2 + 1)).2.1).length + 1 ≤ (f (true, a.1.2 + 1)).1.2 := by rw [List.length_append]; omega
          show Ev lyC (d + 1) hX5_readSum 45 [some (.ref 31), some (.ref 1), some (.int dep), some (.int (nI b)), some (.int (nI 43))] [] (I3, J, R) _
          refine ev_st dX5_readSum_45 rfl rfl ?_
          refine ev_sipush (v := 2000) dX5_readSum_46 (by decide) ?_
          refine ev_st dX5_readSum_49 rfl rfl ?_
          refine ev_iaddN (a := 2000) (b := 43) (c := 2043) dX5_readSum_51 rfl rfl rfl ?_
          refine ev_call dX5_readSum_52 rfl rfl mr_5_64 rfl rfl rfl (k_add1_31 hS3.1 (by omega) _) ?_
          rintro _ _ ⟨rfl, rfl⟩
          show Ev lyC (d + 1) hX5_readSum 55 [some (.ref 31), some (.ref 1), some (.int dep), some (.int (nI b)), some (.int (nI 43))] [] (ti_wr (ti_wr I3 32 ((C ++ a.2.1 ++ (f (true, a.1.2 + 1)).2.1).length) (nI 2043)) 31 3 (nI ((C ++ a.2.1 ++ (f (true, a.1.2 + 1)).2.1).length + 1)), J, R) _
          refine ev_iincN (a := b) (b := b + 1) (L' := [some (.ref 31), some (.ref 1), some (.int dep), some (.int (nI (b + 1))), some (.int (nI 43))]) dX5_readSum_55 rfl (nI_1 _) rfl ?_
          refine ev_goto (t := 8) dX5_readSum_58 (by decide) ?_
          refine ih (b + 1) (gJ t f a) _ _ fin (by omega) (((hx2.x xC.rf.w).tr hx3).add) (hR3.add (by decide)) ?_ ?_ ?_
          · rw [gJ_app ht]; exact hS3.add
          · rw [gJ_app ht, List.length_append]; exact hl3
          · rw [gL, if_pos (Or.inl hk)] at e9; exact e9
        · omega
    · by_cases hk2 : pk t E a.1 = nI 45
      · have hk1 := hk
        clear hk
        have hk := hk2
        have hft := (pkS_eq (by decide) hR2.t hk).1
        have haE := (pkS_eq (by decide) hR2.t hk).2.1
        have ht := (pkS_eq (by decide) hR2.t hk).2.2
        refine ev_st dX5_readSum_8 rfl rfl ?_
        refine ev_bipush (v := 40) dX5_readSum_9 (by decide) ?_
        refine ev_ic_geN (t := 61) (a := b) (b := 40) dX5_readSum_11 (by decide) rfl rfl (by omega) (by omega) (fun c_11 => ?_) (fun c_11 => ?_)
        · omega
        · refine ev_st dX5_readSum_14 rfl rfl ?_
          refine ev_call dX5_readSum_15 rfl rfl mr_5_58 rfl rfl rfl (k_peek hR2) ?_
          rintro _ _ ⟨e1, rfl⟩
          rw [hk] at e1
          subst e1
          show Ev lyC (d + 1) hX5_readSum 18 [some (.ref 31), some (.ref 1), some (.int dep), some (.int (nI b)), z4] [.int (nI 45)] (I2, J, R) _
          refine ev_st (L' := [some (.ref 31), some (.ref 1), some (.int dep), some (.int (nI b)), some (.int (nI 45))]) dX5_readSum_18 rfl rfl ?_
          refine ev_st dX5_readSum_20 rfl rfl ?_
          refine ev_bipush (v := 43) dX5_readSum_22 (by decide) ?_
          refine ev_ic_eqN (t := 35) (a := 45) (b := 43) dX5_readSum_24 (by decide) rfl rfl (by omega) (by omega) (fun c_24 => ?_) (fun c_24 => ?_)
          · omega
          · refine ev_st dX5_readSum_27 rfl rfl ?_
            refine ev_bipush (v := 45) dX5_readSum_29 (by decide) ?_
            refine ev_ic_eqN (t := 35) (a := 45) (b := 45) dX5_readSum_31 (by decide) rfl rfl (by omega) (by omega) (fun c_31 => ?_) (fun c_31 => ?_)
            · refine ev_st dX5_readSum_35 rfl rfl ?_
              refine ev_call dX5_readSum_36 rfl rfl mr_5_61 rfl rfl rfl (k_skip (hR2.fine hft) haE) ?_
              rintro _ _ ⟨rfl, rfl⟩
              show Ev lyC (d + 1) hX5_readSum 39 [some (.ref 31), some (.ref 1), some (.int dep), some (.int (nI b)), some (.int (nI 45))] [] (ti_wr I2 1 2 (nI (a.1.2 + 1)), J, R) _
              refine ev_st dX5_readSum_39 rfl rfl ?_
              refine ev_st dX5_readSum_40 rfl rfl ?_
              refine ev_st dX5_readSum_41 rfl rfl ?_
              refine ev_call dX5_readSum_42 rfl rfl mr_5_67 rfl rfl rfl (hC _ J R (true, a.1.2 + 1) _ _ hD (hR2.at hft (by omega)) (xC.add hS2 (by decide)) (by show _ ≤ a.1.2 + 1; omega)) ?_
              rintro _ _ ⟨rfl, I3, rfl, hx3, hR3, hS3⟩
              have hp3 : (f (true, a.1.2 + 1)).2.1.length + (a.1.2 + 1) ≤ (f (true, a.1.2 + 1)).1.2 := hp (true, a.1.2 + 1)
              have hle3 := hR3.le
              have hl3 : (C ++ a.2.1 ++ (f (true, a.1.2 + 1)).2.1).length + 1 ≤ (f (true, a.1.2 + 1)).1.2 := by rw [List.length_append]; omega
              show Ev lyC (d + 1) hX5_readSum 45 [some (.ref 31), some (.ref 1), some (.int dep), some (.int (nI b)), some (.int (nI 45))] [] (I3, J, R) _
              refine ev_st dX5_readSum_45 rfl rfl ?_
              refine ev_sipush (v := 2000) dX5_readSum_46 (by decide) ?_
              refine ev_st dX5_readSum_49 rfl rfl ?_
              refine ev_iaddN (a := 2000) (b := 45) (c := 2045) dX5_readSum_51 rfl rfl rfl ?_
              refine ev_call dX5_readSum_52 rfl rfl mr_5_64 rfl rfl rfl (k_add1_31 hS3.1 (by omega) _) ?_
              rintro _ _ ⟨rfl, rfl⟩
              show Ev lyC (d + 1) hX5_readSum 55 [some (.ref 31), some (.ref 1), some (.int dep), some (.int (nI b)), some (.int (nI 45))] [] (ti_wr (ti_wr I3 32 ((C ++ a.2.1 ++ (f (true, a.1.2 + 1)).2.1).length) (nI 2045)) 31 3 (nI ((C ++ a.2.1 ++ (f (true, a.1.2 + 1)).2.1).length + 1)), J, R) _
              refine ev_iincN (a := b) (b := b + 1) (L' := [some (.ref 31), some (.ref 1), some (.int dep), some (.int (nI (b + 1))), some (.int (nI 45))]) dX5_readSum_55 rfl (nI_1 _) rfl ?_
              refine ev_goto (t := 8) dX5_readSum_58 (by decide) ?_
              refine ih (b + 1) (gJ t f a) _ _ fin (by omega) (((hx2.x xC.rf.w).tr hx3).add) (hR3.add (by decide)) ?_ ?_ ?_
              · rw [gJ_app ht]; exact hS3.add
              · rw [gJ_app ht, List.length_append]; exact hl3
              · rw [gL, if_pos (Or.inr hk)] at e9; exact e9
            · omega
      · skip
        rw [gL, if_neg (fun q => q.elim hk hk2)] at e9
        refine ev_st dX5_readSum_8 rfl rfl ?_
        refine ev_bipush (v := 40) dX5_readSum_9 (by decide) ?_
        refine ev_ic_geN (t := 61) (a := b) (b := 40) dX5_readSum_11 (by decide) rfl rfl (by omega) (by omega) (fun c_11 => ?_) (fun c_11 => ?_)
        · omega
        · refine ev_st dX5_readSum_14 rfl rfl ?_
          refine ev_call dX5_readSum_15 rfl rfl mr_5_58 rfl rfl rfl (k_peek hR2) ?_
          rintro _ _ ⟨e1, rfl⟩
          subst e1
          show Ev lyC (d + 1) hX5_readSum 18 [some (.ref 31), some (.ref 1), some (.int dep), some (.int (nI b)), z4] [.int (pk t E a.1)] (I2, J, R) _
          refine ev_st (L' := [some (.ref 31), some (.ref 1), some (.int dep), some (.int (nI b)), some (.int (pk t E a.1))]) dX5_readSum_18 rfl rfl ?_
          refine ev_st dX5_readSum_20 rfl rfl ?_
          refine ev_bipush (v := 43) dX5_readSum_22 (by decide) ?_
          refine ev_ic_eq (t := 35) (x := pk t E a.1) (y := 43) dX5_readSum_24 (by decide) (fun c_24 => ?_) (fun c_24 => ?_)
          · exact absurd c_24 hk
          · refine ev_st dX5_readSum_27 rfl rfl ?_
            refine ev_bipush (v := 45) dX5_readSum_29 (by decide) ?_
            refine ev_ic_eq (t := 35) (x := pk t E a.1) (y := 45) dX5_readSum_31 (by decide) (fun c_31 => ?_) (fun c_31 => ?_)
            · exact absurd c_31 hk2
            · exact ev_vret dX5_readSum_34 rfl (e9 ▸ ⟨rfl, _, rfl, hx2, hR2, hS2⟩)
set_option maxHeartbeats 1000000 in
theorem k_sum_31 {t : Nat → Nat} {E N D0 : Nat} {dep : Int32} {f : PS → RR} (hC : kRd hX5_readProduct 5 31 dep D0 t E N f) (hp : pay f) (hE : E ≤ 40) : kRd hX5_readSum 5 31 dep (D0 + 1) t E N (gU t E f) := by
  intro I J R s C D hD0 hR hS hl
  obtain ⟨d, rfl⟩ : ∃ d, D = d + 1 := ⟨D - 1, by omega⟩
  have hD : D0 ≤ d := by omega
  show Ev lyC (d + 1) hX5_readSum 0 [some (.ref 31), some (.ref 1), some (.int dep), none, none] [] (I, J, R) _
  refine ev_st dX5_readSum_0 rfl rfl ?_
  refine ev_st dX5_readSum_1 rfl rfl ?_
  refine ev_st dX5_readSum_2 rfl rfl ?_
  refine ev_call dX5_readSum_3 rfl rfl mr_5_67 rfl rfl rfl (hC I J R s C _ hD hR hS hl) ?_
  rintro _ _ ⟨rfl, I3, rfl, hx3, hR3, hS3⟩
  show Ev lyC (d + 1) hX5_readSum 6 [some (.ref 31), some (.ref 1), some (.int dep), none, none] [] (I3, J, R) _
  refine ev_iconst (v := 0) dX5_readSum_6 (by decide) ?_
  refine ev_st (L' := [some (.ref 31), some (.ref 1), some (.int dep), some (.int 0), none]) dX5_readSum_7 rfl rfl ?_
  exact k_sumL_31 hC hp hE hD 40 0 (f s) _ _ _ (by omega) hx3 hR3 hS3 (by have := hp s; rw [List.length_append]; omega) rfl
set_option maxHeartbeats 1000000 in
theorem k_expr_31 {t : Nat → Nat} {E N D0 : Nat} {dep : Int32} {f : PS → RR} (hC : kRd hX5_readSum 5 31 dep D0 t E N f) (hp : pay f) (hE : E ≤ 40) : kRd hX5_readExpression 4 31 dep (D0 + 1) t E N (gE t E f) := by
  intro I J R s C D hD0 hR hS hl
  obtain ⟨d, rfl⟩ : ∃ d, D = d + 1 := ⟨D - 1, by omega⟩
  have hD : D0 ≤ d := by omega
  show Ev lyC (d + 1) hX5_readExpression 0 [some (.ref 31), some (.ref 1), some (.int dep), none] [] (I, J, R) _
  refine ev_st dX5_readExpression_0 rfl rfl ?_
  refine ev_st dX5_readExpression_1 rfl rfl ?_
  refine ev_st dX5_readExpression_2 rfl rfl ?_
  refine ev_call dX5_readExpression_3 rfl rfl mr_5_55 rfl rfl rfl (hC I J R s C _ hD hR hS hl) ?_
  rintro _ _ ⟨rfl, I2, rfl, hx2, hR2, hS2⟩
  have hl2 : (C ++ (f s).2.1).length ≤ (f s).1.2 := by have := hp s; rw [List.length_append]; omega
  show Ev lyC (d + 1) hX5_readExpression 6 [some (.ref 31), some (.ref 1), some (.int dep), none] [] (I2, J, R) _
  skip
  by_cases hk : pk t E (f s).1 = nI 60
  · skip
    have hft := (pkS_eq (by decide) hR2.t hk).1
    have haE := (pkS_eq (by decide) hR2.t hk).2.1
    have ht := (pkS_eq (by decide) hR2.t hk).2.2
    have hg : gE t E f s = gJ t f (f s) := by unfold gE; exact if_pos (Or.inl hk)
    refine ev_st dX5_readExpression_6 rfl rfl ?_
    refine ev_call dX5_readExpression_7 rfl rfl mr_5_58 rfl rfl rfl (k_peek hR2) ?_
    rintro _ _ ⟨e1, rfl⟩
    rw [hk] at e1
    subst e1
    show Ev lyC (d + 1) hX5_readExpression 10 [some (.ref 31), some (.ref 1), some (.int dep), none] [.int (nI 60)] (I2, J, R) _
    refine ev_st (L' := [some (.ref 31), some (.ref 1), some (.int dep), some (.int (nI 60))]) dX5_readExpression_10 rfl rfl ?_
    refine ev_st dX5_readExpression_11 rfl rfl ?_
    refine ev_bipush (v := 60) dX5_readExpression_12 (by decide) ?_
    refine ev_ic_eqN (t := 29) (a := 60) (b := 60) dX5_readExpression_14 (by decide) rfl rfl (by omega) (by omega) (fun c_14 => ?_) (fun c_14 => ?_)
    · refine ev_st dX5_readExpression_29 rfl rfl ?_
      refine ev_call dX5_readExpression_30 rfl rfl mr_5_61 rfl rfl rfl (k_skip (hR2.fine hft) haE) ?_
      rintro _ _ ⟨rfl, rfl⟩
      show Ev lyC (d + 1) hX5_readExpression 33 [some (.ref 31), some (.ref 1), some (.int dep), some (.int (nI 60))] [] (ti_wr I2 1 2 (nI ((f s).1.2 + 1)), J, R) _
      refine ev_st dX5_readExpression_33 rfl rfl ?_
      refine ev_st dX5_readExpression_34 rfl rfl ?_
      refine ev_st dX5_readExpression_35 rfl rfl ?_
      refine ev_call dX5_readExpression_36 rfl rfl mr_5_55 rfl rfl rfl (hC _ J R (true, (f s).1.2 + 1) _ _ hD (hR2.at hft (by omega)) (xC.add hS2 (by decide)) (by show _ ≤ (f s).1.2 + 1; omega)) ?_
      rintro _ _ ⟨rfl, I3, rfl, hx3, hR3, hS3⟩
      have hp3 : (f (true, (f s).1.2 + 1)).2.1.length + ((f s).1.2 + 1) ≤ (f (true, (f s).1.2 + 1)).1.2 := hp (true, (f s).1.2 + 1)
      have hle3 := hR3.le
      have hl3 : (C ++ (f s).2.1 ++ (f (true, (f s).1.2 + 1)).2.1).length + 1 ≤ (f (true, (f s).1.2 + 1)).1.2 := by rw [List.length_append]; omega
      show Ev lyC (d + 1) hX5_readExpression 39 [some (.ref 31), some (.ref 1), some (.int dep), some (.int (nI 60))] [] (I3, J, R) _
      refine ev_st dX5_readExpression_39 rfl rfl ?_
      refine ev_sipush (v := 2000) dX5_readExpression_40 (by decide) ?_
      refine ev_st dX5_readExpression_43 rfl rfl ?_
      refine ev_iaddN (a := 2000) (b := 60) (c := 2060) dX5_readExpression_44 rfl rfl rfl ?_
      refine ev_call dX5_readExpression_45 rfl rfl mr_5_64 rfl rfl rfl (k_add1_31 hS3.1 (by omega) _) ?_
      rintro _ _ ⟨rfl, rfl⟩
      show Ev lyC (d + 1) hX5_readExpression 48 [some (.ref 31), some (.ref 1), some (.int dep), some (.int (nI 60))] [] (ti_wr (ti_wr I3 32 ((C ++ (f s).2.1 ++ (f (true, (f s).1.2 + 1)).2.1).length) (nI 2060)) 31 3 (nI ((C ++ (f s).2.1 ++ (f (true, (f s).1.2 + 1)).2.1).length + 1)), J, R) _
      exact ev_vret dX5_readExpression_48 rfl (⟨rfl, _, rfl, ((hx2.x xC.rf.w).tr hx3).add, by rw [hg]; exact hR3.add (by decide), by rw [hg, gJ_app ht]; exact hS3.add⟩)
    · omega
  · have hn60 := hk
    clear hk
    by_cases hk : pk t E (f s).1 = nI 62
    · skip
      have hft := (pkS_eq (by decide) hR2.t hk).1
      have haE := (pkS_eq (by decide) hR2.t hk).2.1
      have ht := (pkS_eq (by decide) hR2.t hk).2.2
      have hg : gE t E f s = gJ t f (f s) := by unfold gE; exact if_pos (Or.inr (Or.inl hk))
      refine ev_st dX5_readExpression_6 rfl rfl ?_
      refine ev_call dX5_readExpression_7 rfl rfl mr_5_58 rfl rfl rfl (k_peek hR2) ?_
      rintro _ _ ⟨e1, rfl⟩
      rw [hk] at e1
      subst e1
      show Ev lyC (d + 1) hX5_readExpression 10 [some (.ref 31), some (.ref 1), some (.int dep), none] [.int (nI 62)] (I2, J, R) _
      refine ev_st (L' := [some (.ref 31), some (.ref 1), some (.int dep), some (.int (nI 62))]) dX5_readExpression_10 rfl rfl ?_
      refine ev_st dX5_readExpression_11 rfl rfl ?_
      refine ev_bipush (v := 60) dX5_readExpression_12 (by decide) ?_
      refine ev_ic_eqN (t := 29) (a := 62) (b := 60) dX5_readExpression_14 (by decide) rfl rfl (by omega) (by omega) (fun c_14 => ?_) (fun c_14 => ?_)
      · omega
      · refine ev_st dX5_readExpression_17 rfl rfl ?_
        refine ev_bipush (v := 62) dX5_readExpression_18 (by decide) ?_
        refine ev_ic_eqN (t := 29) (a := 62) (b := 62) dX5_readExpression_20 (by decide) rfl rfl (by omega) (by omega) (fun c_20 => ?_) (fun c_20 => ?_)
        · refine ev_st dX5_readExpression_29 rfl rfl ?_
          refine ev_call dX5_readExpression_30 rfl rfl mr_5_61 rfl rfl rfl (k_skip (hR2.fine hft) haE) ?_
          rintro _ _ ⟨rfl, rfl⟩
          show Ev lyC (d + 1) hX5_readExpression 33 [some (.ref 31), some (.ref 1), some (.int dep), some (.int (nI 62))] [] (ti_wr I2 1 2 (nI ((f s).1.2 + 1)), J, R) _
          refine ev_st dX5_readExpression_33 rfl rfl ?_
          refine ev_st dX5_readExpression_34 rfl rfl ?_
          refine ev_st dX5_readExpression_35 rfl rfl ?_
          refine ev_call dX5_readExpression_36 rfl rfl mr_5_55 rfl rfl rfl (hC _ J R (true, (f s).1.2 + 1) _ _ hD (hR2.at hft (by omega)) (xC.add hS2 (by decide)) (by show _ ≤ (f s).1.2 + 1; omega)) ?_
          rintro _ _ ⟨rfl, I3, rfl, hx3, hR3, hS3⟩
          have hp3 : (f (true, (f s).1.2 + 1)).2.1.length + ((f s).1.2 + 1) ≤ (f (true, (f s).1.2 + 1)).1.2 := hp (true, (f s).1.2 + 1)
          have hle3 := hR3.le
          have hl3 : (C ++ (f s).2.1 ++ (f (true, (f s).1.2 + 1)).2.1).length + 1 ≤ (f (true, (f s).1.2 + 1)).1.2 := by rw [List.length_append]; omega
          show Ev lyC (d + 1) hX5_readExpression 39 [some (.ref 31), some (.ref 1), some (.int dep), some (.int (nI 62))] [] (I3, J, R) _
          refine ev_st dX5_readExpression_39 rfl rfl ?_
          refine ev_sipush (v := 2000) dX5_readExpression_40 (by decide) ?_
          refine ev_st dX5_readExpression_43 rfl rfl ?_
          refine ev_iaddN (a := 2000) (b := 62) (c := 2062) dX5_readExpression_44 rfl rfl rfl ?_
          refine ev_call dX5_readExpression_45 rfl rfl mr_5_64 rfl rfl rfl (k_add1_31 hS3.1 (by omega) _) ?_
          rintro _ _ ⟨rfl, rfl⟩
          show Ev lyC (d + 1) hX5_readExpression 48 [some (.ref 31), some (.ref 1), some (.int dep), some (.int (nI 62))] [] (ti_wr (ti_wr I3 32 ((C ++ (f s).2.1 ++ (f (true, (f s).1.2 + 1)).2.1).length) (nI 2062)) 31 3 (nI ((C ++ (f s).2.1 ++ (f (true, (f s).1.2 + 1)).2.1).length + 1)), J, R) _
          exact ev_vret dX5_readExpression_48 rfl (⟨rfl, _, rfl, ((hx2.x xC.rf.w).tr hx3).add, by rw [hg]; exact hR3.add (by decide), by rw [hg, gJ_app ht]; exact hS3.add⟩)
        · omega
    · have hn62 := hk
      clear hk
      by_cases hk : pk t E (f s).1 = nI 61
      · skip
        have hft := (pkS_eq (by decide) hR2.t hk).1
        have haE := (pkS_eq (by decide) hR2.t hk).2.1
        have ht := (pkS_eq (by decide) hR2.t hk).2.2
        have hg : gE t E f s = gJ t f (f s) := by unfold gE; exact if_pos (Or.inr (Or.inr hk))
        refine ev_st dX5_readExpression_6 rfl rfl ?_
        refine ev_call dX5_readExpression_7 rfl rfl mr_5_58 rfl rfl rfl (k_peek hR2) ?_
        rintro _ _ ⟨e1, rfl⟩
        rw [hk] at e1
        subst e1
        show Ev lyC (d + 1) hX5_readExpression 10 [some (.ref 31), some (.ref 1), some (.int dep), none] [.int (nI 61)] (I2, J, R) _
        refine ev_st (L' := [some (.ref 31), some (.ref 1), some (.int dep), some (.int (nI 61))]) dX5_readExpression_10 rfl rfl ?_
        refine ev_st dX5_readExpression_11 rfl rfl ?_
        refine ev_bipush (v := 60) dX5_readExpression_12 (by decide) ?_
        refine ev_ic_eqN (t := 29) (a := 61) (b := 60) dX5_readExpression_14 (by decide) rfl rfl (by omega) (by omega) (fun c_14 => ?_) (fun c_14 => ?_)
        · omega
        · refine ev_st dX5_readExpression_17 rfl rfl ?_
          refine ev_bipush (v := 62) dX5_readExpression_18 (by decide) ?_
          refine ev_ic_eqN (t := 29) (a := 61) (b := 62) dX5_readExpression_20 (by decide) rfl rfl (by omega) (by omega) (fun c_20 => ?_) (fun c_20 => ?_)
          · omega
          · refine ev_st dX5_readExpression_23 rfl rfl ?_
            refine ev_bipush (v := 61) dX5_readExpression_24 (by decide) ?_
            refine ev_ic_neN (t := 48) (a := 61) (b := 61) dX5_readExpression_26 (by decide) rfl rfl (by omega) (by omega) (fun c_26 => ?_) (fun c_26 => ?_)
            · omega
            · refine ev_st dX5_readExpression_29 rfl rfl ?_
              refine ev_call dX5_readExpression_30 rfl rfl mr_5_61 rfl rfl rfl (k_skip (hR2.fine hft) haE) ?_
              rintro _ _ ⟨rfl, rfl⟩
              show Ev lyC (d + 1) hX5_readExpression 33 [some (.ref 31), some (.ref 1), some (.int dep), some (.int (nI 61))] [] (ti_wr I2 1 2 (nI ((f s).1.2 + 1)), J, R) _
              refine ev_st dX5_readExpression_33 rfl rfl ?_
              refine ev_st dX5_readExpression_34 rfl rfl ?_
              refine ev_st dX5_readExpression_35 rfl rfl ?_
              refine ev_call dX5_readExpression_36 rfl rfl mr_5_55 rfl rfl rfl (hC _ J R (true, (f s).1.2 + 1) _ _ hD (hR2.at hft (by omega)) (xC.add hS2 (by decide)) (by show _ ≤ (f s).1.2 + 1; omega)) ?_
              rintro _ _ ⟨rfl, I3, rfl, hx3, hR3, hS3⟩
              have hp3 : (f (true, (f s).1.2 + 1)).2.1.length + ((f s).1.2 + 1) ≤ (f (true, (f s).1.2 + 1)).1.2 := hp (true, (f s).1.2 + 1)
              have hle3 := hR3.le
              have hl3 : (C ++ (f s).2.1 ++ (f (true, (f s).1.2 + 1)).2.1).length + 1 ≤ (f (true, (f s).1.2 + 1)).1.2 := by rw [List.length_append]; omega
              show Ev lyC (d + 1) hX5_readExpression 39 [some (.ref 31), some (.ref 1), some (.int dep), some (.int (nI 61))] [] (I3, J, R) _
              refine ev_st dX5_readExpression_39 rfl rfl ?_
              refine ev_sipush (v := 2000) dX5_readExpression_40 (by decide) ?_
              refine ev_st dX5_readExpression_43 rfl rfl ?_
              refine ev_iaddN (a := 2000) (b := 61) (c := 2061) dX5_readExpression_44 rfl rfl rfl ?_
              refine ev_call dX5_readExpression_45 rfl rfl mr_5_64 rfl rfl rfl (k_add1_31 hS3.1 (by omega) _) ?_
              rintro _ _ ⟨rfl, rfl⟩
              show Ev lyC (d + 1) hX5_readExpression 48 [some (.ref 31), some (.ref 1), some (.int dep), some (.int (nI 61))] [] (ti_wr (ti_wr I3 32 ((C ++ (f s).2.1 ++ (f (true, (f s).1.2 + 1)).2.1).length) (nI 2061)) 31 3 (nI ((C ++ (f s).2.1 ++ (f (true, (f s).1.2 + 1)).2.1).length + 1)), J, R) _
              exact ev_vret dX5_readExpression_48 rfl (⟨rfl, _, rfl, ((hx2.x xC.rf.w).tr hx3).add, by rw [hg]; exact hR3.add (by decide), by rw [hg, gJ_app ht]; exact hS3.add⟩)
      · have hn61 := hk
        clear hk
        have hg : gE t E f s = f s := by unfold gE; exact if_neg (fun q => q.elim hn60 (fun q => q.elim hn62 hn61))
        refine ev_st dX5_readExpression_6 rfl rfl ?_
        refine ev_call dX5_readExpression_7 rfl rfl mr_5_58 rfl rfl rfl (k_peek hR2) ?_
        rintro _ _ ⟨e1, rfl⟩
        subst e1
        show Ev lyC (d + 1) hX5_readExpression 10 [some (.ref 31), some (.ref 1), some (.int dep), none] [.int (pk t E (f s).1)] (I2, J, R) _
        refine ev_st (L' := [some (.ref 31), some (.ref 1), some (.int dep), some (.int (pk t E (f s).1))]) dX5_readExpression_10 rfl rfl ?_
        refine ev_st dX5_readExpression_11 rfl rfl ?_
        refine ev_bipush (v := 60) dX5_readExpression_12 (by decide) ?_
        refine ev_ic_eq (t := 29) (x := pk t E (f s).1) (y := 60) dX5_readExpression_14 (by decide) (fun c_14 => ?_) (fun c_14 => ?_)
        · exact absurd c_14 hn60
        · refine ev_st dX5_readExpression_17 rfl rfl ?_
          refine ev_bipush (v := 62) dX5_readExpression_18 (by decide) ?_
          refine ev_ic_eq (t := 29) (x := pk t E (f s).1) (y := 62) dX5_readExpression_20 (by decide) (fun c_20 => ?_) (fun c_20 => ?_)
          · exact absurd c_20 hn62
          · refine ev_st dX5_readExpression_23 rfl rfl ?_
            refine ev_bipush (v := 61) dX5_readExpression_24 (by decide) ?_
            refine ev_ic_ne (t := 48) (x := pk t E (f s).1) (y := 61) dX5_readExpression_26 (by decide) (fun c_26 => ?_) (fun c_26 => ?_)
            · exact ev_vret dX5_readExpression_48 rfl (⟨rfl, _, rfl, hx2, by rw [hg]; exact hR2, by rw [hg]; exact hS2⟩)
            · exact absurd c_26 hn61
theorem k_rE_31 {t : Nat → Nat} {E N : Nat} (hE : E ≤ 40) : ∀ r, r ≤ 4 → kRd hX5_readExpression 4 31 (nI (4 - r)) (12 * r + 12) t E N (rE t E r)
  | 0, _ => k_expr_31 (k_sum_31 (k_prod_31 (k_thing0_31 hE) (pay_gT (fun g e => by cases e)) hE) (pay_gP (pay_gT (fun g e => by cases e))) hE) (pay_gU (pay_gP (pay_gT (fun g e => by cases e)))) hE
  | r + 1, hr => by
    have h := k_rE_31 (t := t) (N := N) hE r (by omega)
    rw [show 4 - r = 4 - (r + 1) + 1 by omega] at h
    have hq : ∀ g, some (rE t E r) = some g → pay g := fun g e => by cases e; exact pay_rE r
    exact k_expr_31 (k_sum_31 (k_prod_31 (k_thing1_31 hE (by omega) (pay_rE r) h) (pay_gT hq) hE) (pay_gP (pay_gT hq)) hE) (pay_gU (pay_gP (pay_gT hq))) hE
set_option maxHeartbeats 1000000 in
theorem k_prodL_35 {I : Nat → Nat → Int32} {J : Nat → Nat → Int64} {R : Nat → Nat → Value} {t : Nat → Nat} {d E N D0 : Nat} {dep : Int32} {C : List Int32} {f : PS → RR} (hC : kRd hX5_readThing 5 35 dep D0 t E N f) (hp : pay f) (hE : E ≤ 40) (hD : D0 ≤ d) : ∀ (m b : Nat) (a : RR) (z4 : Option Value) (I2 : Nat → Nat → Int32) (fin : RR), b + m = 40 → eC 35 I I2 → cR I2 t E N a.1 → cS 35 I2 (C ++ a.2.1) → (C ++ a.2.1).length ≤ a.1.2 → gL t E 42 47 f m a = fin → Ev lyC (d + 1) hX5_readProduct 8 [some (.ref 35), some (.ref 1), some (.int dep), some (.int (nI b)), z4] [] (I2, J, R) (kQ 35 I J R t E N fin.1 (C ++ fin.2.1)) := by
  intro m
  induction m with
  | zero =>
    intro b a z4 I2 fin hb hx2 hR2 hS2 hl e9
    rw [gL] at e9
    refine ev_st dX5_readProduct_8 rfl rfl ?_
    refine ev_bipush (v := 40) dX5_readProduct_9 (by decide) ?_
    refine ev_ic_geN (t := 61) (a := b) (b := 40) dX5_readProduct_11 (by decide) rfl rfl (by omega) (by omega) (fun c_11 => ?_) (fun c_11 => ?_)
    · exact ev_vret dX5_readProduct_61 rfl (e9 ▸ ⟨rfl, _, rfl, hx2, hR2, hS2⟩)
    · omega
  | succ m ih =>
    intro b a z4 I2 fin hb hx2 hR2 hS2 hl e9
    by_cases hk : pk t E a.1 = nI 42
    · skip
      have hft := (pkS_eq (by decide) hR2.t hk).1
      have haE := (pkS_eq (by decide) hR2.t hk).2.1
      have ht := (pkS_eq (by decide) hR2.t hk).2.2
      refine ev_st dX5_readProduct_8 rfl rfl ?_
      refine ev_bipush (v := 40) dX5_readProduct_9 (by decide) ?_
      refine ev_ic_geN (t := 61) (a := b) (b := 40) dX5_readProduct_11 (by decide) rfl rfl (by omega) (by omega) (fun c_11 => ?_) (fun c_11 => ?_)
      · omega
      · refine ev_st dX5_readProduct_14 rfl rfl ?_
        refine ev_call dX5_readProduct_15 rfl rfl mr_5_58 rfl rfl rfl (k_peek hR2) ?_
        rintro _ _ ⟨e1, rfl⟩
        rw [hk] at e1
        subst e1
        show Ev lyC (d + 1) hX5_readProduct 18 [some (.ref 35), some (.ref 1), some (.int dep), some (.int (nI b)), z4] [.int (nI 42)] (I2, J, R) _
        refine ev_st (L' := [some (.ref 35), some (.ref 1), some (.int dep), some (.int (nI b)), some (.int (nI 42))]) dX5_readProduct_18 rfl rfl ?_
        refine ev_st dX5_readProduct_20 rfl rfl ?_
        refine ev_bipush (v := 42) dX5_readProduct_22 (by decide) ?_
        refine ev_ic_eqN (t := 35) (a := 42) (b := 42) dX5_readProduct_24 (by decide) rfl rfl (by omega) (by omega) (fun c_24 => ?_) (fun c_24 => ?_)
        · refine ev_st dX5_readProduct_35 rfl rfl ?_
          refine ev_call dX5_readProduct_36 rfl rfl mr_5_61 rfl rfl rfl (k_skip (hR2.fine hft) haE) ?_
          rintro _ _ ⟨rfl, rfl⟩
          show Ev lyC (d + 1) hX5_readProduct 39 [some (.ref 35), some (.ref 1), some (.int dep), some (.int (nI b)), some (.int (nI 42))] [] (ti_wr I2 1 2 (nI (a.1.2 + 1)), J, R) _
          refine ev_st dX5_readProduct_39 rfl rfl ?_
          refine ev_st dX5_readProduct_40 rfl rfl ?_
          refine ev_st dX5_readProduct_41 rfl rfl ?_
          refine ev_call dX5_readProduct_42 rfl rfl mr_5_70 rfl rfl rfl (hC _ J R (true, a.1.2 + 1) _ _ hD (hR2.at hft (by omega)) (xC.add hS2 (by decide)) (by show _ ≤ a.1.2 + 1; omega)) ?_
          rintro _ _ ⟨rfl, I3, rfl, hx3, hR3, hS3⟩
          have hp3 : (f (true, a.1.2 + 1)).2.1.length + (a.1.2 + 1) ≤ (f (true, a.1.2 + 1)).1.2 := hp (true, a.1.2 + 1)
          have hle3 := hR3.le
          have hl3 : (C ++ a.2.1 ++ (f (true, a.1.2 + 1)).2.1).length + 1 ≤ (f (true, a.1.2 + 1)).1.2 := by rw [List.length_append]; omega
          show Ev lyC (d + 1) hX5_readProduct 45 [some (.ref 35), some (.ref 1), some (.int dep), some (.int (nI b)), some (.int (nI 42))] [] (I3, J, R) _
          refine ev_st dX5_readProduct_45 rfl rfl ?_
          refine ev_sipush (v := 2000) dX5_readProduct_46 (by decide) ?_
          refine ev_st dX5_readProduct_49 rfl rfl ?_
          refine ev_iaddN (a := 2000) (b := 42) (c := 2042) dX5_readProduct_51 rfl rfl rfl ?_
          refine ev_call dX5_readProduct_52 rfl rfl mr_5_64 rfl rfl rfl (k_add1_35 hS3.1 (by omega) _) ?_
          rintro _ _ ⟨rfl, rfl⟩
          show Ev lyC (d + 1) hX5_readProduct 55 [some (.ref 35), some (.ref 1), some (.int dep), some (.int (nI b)), some (.int (nI 42))] [] (ti_wr (ti_wr I3 36 ((C ++ a.2.1 ++ (f (true, a.1.2 + 1)).2.1).length) (nI 2042)) 35 3 (nI ((C ++ a.2.1 ++ (f (true, a.1.2 + 1)).2.1).length + 1)), J, R) _
          refine ev_iincN (a := b) (b := b + 1) (L' := [some (.ref 35), some (.ref 1), some (.int dep), some (.int (nI (b + 1))), some (.int (nI 42))]) dX5_readProduct_55 rfl (nI_1 _) rfl ?_
          refine ev_goto (t := 8) dX5_readProduct_58 (by decide) ?_
          refine ih (b + 1) (gJ t f a) _ _ fin (by omega) (((hx2.x xC.rf.w).tr hx3).add) (hR3.add (by decide)) ?_ ?_ ?_
          · rw [gJ_app ht]; exact hS3.add
          · rw [gJ_app ht, List.length_append]; exact hl3
          · rw [gL, if_pos (Or.inl hk)] at e9; exact e9
        · omega
    · by_cases hk2 : pk t E a.1 = nI 47
      · have hk1 := hk
        clear hk
        have hk := hk2
        have hft := (pkS_eq (by decide) hR2.t hk).1
        have haE := (pkS_eq (by decide) hR2.t hk).2.1
        have ht := (pkS_eq (by decide) hR2.t hk).2.2
        refine ev_st dX5_readProduct_8 rfl rfl ?_
        refine ev_bipush (v := 40) dX5_readProduct_9 (by decide) ?_
        refine ev_ic_geN (t := 61) (a := b) (b := 40) dX5_readProduct_11 (by decide) rfl rfl (by omega) (by omega) (fun c_11 => ?_) (fun c_11 => ?_)
        · omega
        · refine ev_st dX5_readProduct_14 rfl rfl ?_
          refine ev_call dX5_readProduct_15 rfl rfl mr_5_58 rfl rfl rfl (k_peek hR2) ?_
          rintro _ _ ⟨e1, rfl⟩
          rw [hk] at e1
          subst e1
          show Ev lyC (d + 1) hX5_readProduct 18 [some (.ref 35), some (.ref 1), some (.int dep), some (.int (nI b)), z4] [.int (nI 47)] (I2, J, R) _
          refine ev_st (L' := [some (.ref 35), some (.ref 1), some (.int dep), some (.int (nI b)), some (.int (nI 47))]) dX5_readProduct_18 rfl rfl ?_
          refine ev_st dX5_readProduct_20 rfl rfl ?_
          refine ev_bipush (v := 42) dX5_readProduct_22 (by decide) ?_
          refine ev_ic_eqN (t := 35) (a := 47) (b := 42) dX5_readProduct_24 (by decide) rfl rfl (by omega) (by omega) (fun c_24 => ?_) (fun c_24 => ?_)
          · omega
          · refine ev_st dX5_readProduct_27 rfl rfl ?_
            refine ev_bipush (v := 47) dX5_readProduct_29 (by decide) ?_
            refine ev_ic_eqN (t := 35) (a := 47) (b := 47) dX5_readProduct_31 (by decide) rfl rfl (by omega) (by omega) (fun c_31 => ?_) (fun c_31 => ?_)
            · refine ev_st dX5_readProduct_35 rfl rfl ?_
              refine ev_call dX5_readProduct_36 rfl rfl mr_5_61 rfl rfl rfl (k_skip (hR2.fine hft) haE) ?_
              rintro _ _ ⟨rfl, rfl⟩
              show Ev lyC (d + 1) hX5_readProduct 39 [some (.ref 35), some (.ref 1), some (.int dep), some (.int (nI b)), some (.int (nI 47))] [] (ti_wr I2 1 2 (nI (a.1.2 + 1)), J, R) _
              refine ev_st dX5_readProduct_39 rfl rfl ?_
              refine ev_st dX5_readProduct_40 rfl rfl ?_
              refine ev_st dX5_readProduct_41 rfl rfl ?_
              refine ev_call dX5_readProduct_42 rfl rfl mr_5_70 rfl rfl rfl (hC _ J R (true, a.1.2 + 1) _ _ hD (hR2.at hft (by omega)) (xC.add hS2 (by decide)) (by show _ ≤ a.1.2 + 1; omega)) ?_
              rintro _ _ ⟨rfl, I3, rfl, hx3, hR3, hS3⟩
              have hp3 : (f (true, a.1.2 + 1)).2.1.length + (a.1.2 + 1) ≤ (f (true, a.1.2 + 1)).1.2 := hp (true, a.1.2 + 1)
              have hle3 := hR3.le
              have hl3 : (C ++ a.2.1 ++ (f (true, a.1.2 + 1)).2.1).length + 1 ≤ (f (true, a.1.2 + 1)).1.2 := by rw [List.length_append]; omega
              show Ev lyC (d + 1) hX5_readProduct 45 [some (.ref 35), some (.ref 1), some (.int dep), some (.int (nI b)), some (.int (nI 47))] [] (I3, J, R) _
              refine ev_st dX5_readProduct_45 rfl rfl ?_
              refine ev_sipush (v := 2000) dX5_readProduct_46 (by decide) ?_
              refine ev_st dX5_readProduct_49 rfl rfl ?_
              refine ev_iaddN (a := 2000) (b := 47) (c := 2047) dX5_readProduct_51 rfl rfl rfl ?_
              refine ev_call dX5_readProduct_52 rfl rfl mr_5_64 rfl rfl rfl (k_add1_35 hS3.1 (by omega) _) ?_
              rintro _ _ ⟨rfl, rfl⟩
              show Ev lyC (d + 1) hX5_readProduct 55 [some (.ref 35), some (.ref 1), some (.int dep), some (.int (nI b)), some (.int (nI 47))] [] (ti_wr (ti_wr I3 36 ((C ++ a.2.1 ++ (f (true, a.1.2 + 1)).2.1).length) (nI 2047)) 35 3 (nI ((C ++ a.2.1 ++ (f (true, a.1.2 + 1)).2.1).length + 1)), J, R) _
              refine ev_iincN (a := b) (b := b + 1) (L' := [some (.ref 35), some (.ref 1), some (.int dep), some (.int (nI (b + 1))), some (.int (nI 47))]) dX5_readProduct_55 rfl (nI_1 _) rfl ?_
              refine ev_goto (t := 8) dX5_readProduct_58 (by decide) ?_
              refine ih (b + 1) (gJ t f a) _ _ fin (by omega) (((hx2.x xC.rf.w).tr hx3).add) (hR3.add (by decide)) ?_ ?_ ?_
              · rw [gJ_app ht]; exact hS3.add
              · rw [gJ_app ht, List.length_append]; exact hl3
              · rw [gL, if_pos (Or.inr hk)] at e9; exact e9
            · omega
      · skip
        rw [gL, if_neg (fun q => q.elim hk hk2)] at e9
        refine ev_st dX5_readProduct_8 rfl rfl ?_
        refine ev_bipush (v := 40) dX5_readProduct_9 (by decide) ?_
        refine ev_ic_geN (t := 61) (a := b) (b := 40) dX5_readProduct_11 (by decide) rfl rfl (by omega) (by omega) (fun c_11 => ?_) (fun c_11 => ?_)
        · omega
        · refine ev_st dX5_readProduct_14 rfl rfl ?_
          refine ev_call dX5_readProduct_15 rfl rfl mr_5_58 rfl rfl rfl (k_peek hR2) ?_
          rintro _ _ ⟨e1, rfl⟩
          subst e1
          show Ev lyC (d + 1) hX5_readProduct 18 [some (.ref 35), some (.ref 1), some (.int dep), some (.int (nI b)), z4] [.int (pk t E a.1)] (I2, J, R) _
          refine ev_st (L' := [some (.ref 35), some (.ref 1), some (.int dep), some (.int (nI b)), some (.int (pk t E a.1))]) dX5_readProduct_18 rfl rfl ?_
          refine ev_st dX5_readProduct_20 rfl rfl ?_
          refine ev_bipush (v := 42) dX5_readProduct_22 (by decide) ?_
          refine ev_ic_eq (t := 35) (x := pk t E a.1) (y := 42) dX5_readProduct_24 (by decide) (fun c_24 => ?_) (fun c_24 => ?_)
          · exact absurd c_24 hk
          · refine ev_st dX5_readProduct_27 rfl rfl ?_
            refine ev_bipush (v := 47) dX5_readProduct_29 (by decide) ?_
            refine ev_ic_eq (t := 35) (x := pk t E a.1) (y := 47) dX5_readProduct_31 (by decide) (fun c_31 => ?_) (fun c_31 => ?_)
            · exact absurd c_31 hk2
            · exact ev_vret dX5_readProduct_34 rfl (e9 ▸ ⟨rfl, _, rfl, hx2, hR2, hS2⟩)
set_option maxHeartbeats 1000000 in
theorem k_prod_35 {t : Nat → Nat} {E N D0 : Nat} {dep : Int32} {f : PS → RR} (hC : kRd hX5_readThing 5 35 dep D0 t E N f) (hp : pay f) (hE : E ≤ 40) : kRd hX5_readProduct 5 35 dep (D0 + 1) t E N (gP t E f) := by
  intro I J R s C D hD0 hR hS hl
  obtain ⟨d, rfl⟩ : ∃ d, D = d + 1 := ⟨D - 1, by omega⟩
  have hD : D0 ≤ d := by omega
  show Ev lyC (d + 1) hX5_readProduct 0 [some (.ref 35), some (.ref 1), some (.int dep), none, none] [] (I, J, R) _
  refine ev_st dX5_readProduct_0 rfl rfl ?_
  refine ev_st dX5_readProduct_1 rfl rfl ?_
  refine ev_st dX5_readProduct_2 rfl rfl ?_
  refine ev_call dX5_readProduct_3 rfl rfl mr_5_70 rfl rfl rfl (hC I J R s C _ hD hR hS hl) ?_
  rintro _ _ ⟨rfl, I3, rfl, hx3, hR3, hS3⟩
  show Ev lyC (d + 1) hX5_readProduct 6 [some (.ref 35), some (.ref 1), some (.int dep), none, none] [] (I3, J, R) _
  refine ev_iconst (v := 0) dX5_readProduct_6 (by decide) ?_
  refine ev_st (L' := [some (.ref 35), some (.ref 1), some (.int dep), some (.int 0), none]) dX5_readProduct_7 rfl rfl ?_
  exact k_prodL_35 hC hp hE hD 40 0 (f s) _ _ _ (by omega) hx3 hR3 hS3 (by have := hp s; rw [List.length_append]; omega) rfl
set_option maxHeartbeats 1000000 in
theorem k_sumL_35 {I : Nat → Nat → Int32} {J : Nat → Nat → Int64} {R : Nat → Nat → Value} {t : Nat → Nat} {d E N D0 : Nat} {dep : Int32} {C : List Int32} {f : PS → RR} (hC : kRd hX5_readProduct 5 35 dep D0 t E N f) (hp : pay f) (hE : E ≤ 40) (hD : D0 ≤ d) : ∀ (m b : Nat) (a : RR) (z4 : Option Value) (I2 : Nat → Nat → Int32) (fin : RR), b + m = 40 → eC 35 I I2 → cR I2 t E N a.1 → cS 35 I2 (C ++ a.2.1) → (C ++ a.2.1).length ≤ a.1.2 → gL t E 43 45 f m a = fin → Ev lyC (d + 1) hX5_readSum 8 [some (.ref 35), some (.ref 1), some (.int dep), some (.int (nI b)), z4] [] (I2, J, R) (kQ 35 I J R t E N fin.1 (C ++ fin.2.1)) := by
  intro m
  induction m with
  | zero =>
    intro b a z4 I2 fin hb hx2 hR2 hS2 hl e9
    rw [gL] at e9
    refine ev_st dX5_readSum_8 rfl rfl ?_
    refine ev_bipush (v := 40) dX5_readSum_9 (by decide) ?_
    refine ev_ic_geN (t := 61) (a := b) (b := 40) dX5_readSum_11 (by decide) rfl rfl (by omega) (by omega) (fun c_11 => ?_) (fun c_11 => ?_)
    · exact ev_vret dX5_readSum_61 rfl (e9 ▸ ⟨rfl, _, rfl, hx2, hR2, hS2⟩)
    · omega
  | succ m ih =>
    intro b a z4 I2 fin hb hx2 hR2 hS2 hl e9
    by_cases hk : pk t E a.1 = nI 43
    · skip
      have hft := (pkS_eq (by decide) hR2.t hk).1
      have haE := (pkS_eq (by decide) hR2.t hk).2.1
      have ht := (pkS_eq (by decide) hR2.t hk).2.2
      refine ev_st dX5_readSum_8 rfl rfl ?_
      refine ev_bipush (v := 40) dX5_readSum_9 (by decide) ?_
      refine ev_ic_geN (t := 61) (a := b) (b := 40) dX5_readSum_11 (by decide) rfl rfl (by omega) (by omega) (fun c_11 => ?_) (fun c_11 => ?_)
      · omega
      · refine ev_st dX5_readSum_14 rfl rfl ?_
        refine ev_call dX5_readSum_15 rfl rfl mr_5_58 rfl rfl rfl (k_peek hR2) ?_
        rintro _ _ ⟨e1, rfl⟩
        rw [hk] at e1
        subst e1
        show Ev lyC (d + 1) hX5_readSum 18 [some (.ref 35), some (.ref 1), some (.int dep), some (.int (nI b)), z4] [.int (nI 43)] (I2, J, R) _
        refine ev_st (L' := [some (.ref 35), some (.ref 1), some (.int dep), some (.int (nI b)), some (.int (nI 43))]) dX5_readSum_18 rfl rfl ?_
        refine ev_st dX5_readSum_20 rfl rfl ?_
        refine ev_bipush (v := 43) dX5_readSum_22 (by decide) ?_
        refine ev_ic_eqN (t := 35) (a := 43) (b := 43) dX5_readSum_24 (by decide) rfl rfl (by omega) (by omega) (fun c_24 => ?_) (fun c_24 => ?_)
        · refine ev_st dX5_readSum_35 rfl rfl ?_
          refine ev_call dX5_readSum_36 rfl rfl mr_5_61 rfl rfl rfl (k_skip (hR2.fine hft) haE) ?_
          rintro _ _ ⟨rfl, rfl⟩
          show Ev lyC (d + 1) hX5_readSum 39 [some (.ref 35), some (.ref 1), some (.int dep), some (.int (nI b)), some (.int (nI 43))] [] (ti_wr I2 1 2 (nI (a.1.2 + 1)), J, R) _
          refine ev_st dX5_readSum_39 rfl rfl ?_
          refine ev_st dX5_readSum_40 rfl rfl ?_
          refine ev_st dX5_readSum_41 rfl rfl ?_
          refine ev_call dX5_readSum_42 rfl rfl mr_5_67 rfl rfl rfl (hC _ J R (true, a.1.2 + 1) _ _ hD (hR2.at hft (by omega)) (xC.add hS2 (by decide)) (by show _ ≤ a.1.2 + 1; omega)) ?_
          rintro _ _ ⟨rfl, I3, rfl, hx3, hR3, hS3⟩
          have hp3 : (f (true, a.1.2 + 1)).2.1.length + (a.1.2 + 1) ≤ (f (true, a.1.2 + 1)).1.2 := hp (true, a.1.2 + 1)
          have hle3 := hR3.le
          have hl3 : (C ++ a.2.1 ++ (f (true, a.1.2 + 1)).2.1).length + 1 ≤ (f (true, a.1.2 + 1)).1.2 := by rw [List.length_append]; omega
          show Ev lyC (d + 1) hX5_readSum 45 [some (.ref 35), some (.ref 1), some (.int dep), some (.int (nI b)), some (.int (nI 43))] [] (I3, J, R) _
          refine ev_st dX5_readSum_45 rfl rfl ?_
          refine ev_sipush (v := 2000) dX5_readSum_46 (by decide) ?_
          refine ev_st dX5_readSum_49 rfl rfl ?_
          refine ev_iaddN (a := 2000) (b := 43) (c := 2043) dX5_readSum_51 rfl rfl rfl ?_
          refine ev_call dX5_readSum_52 rfl rfl mr_5_64 rfl rfl rfl (k_add1_35 hS3.1 (by omega) _) ?_
          rintro _ _ ⟨rfl, rfl⟩
          show Ev lyC (d + 1) hX5_readSum 55 [some (.ref 35), some (.ref 1), some (.int dep), some (.int (nI b)), some (.int (nI 43))] [] (ti_wr (ti_wr I3 36 ((C ++ a.2.1 ++ (f (true, a.1.2 + 1)).2.1).length) (nI 2043)) 35 3 (nI ((C ++ a.2.1 ++ (f (true, a.1.2 + 1)).2.1).length + 1)), J, R) _
          refine ev_iincN (a := b) (b := b + 1) (L' := [some (.ref 35), some (.ref 1), some (.int dep), some (.int (nI (b + 1))), some (.int (nI 43))]) dX5_readSum_55 rfl (nI_1 _) rfl ?_
          refine ev_goto (t := 8) dX5_readSum_58 (by decide) ?_
          refine ih (b + 1) (gJ t f a) _ _ fin (by omega) (((hx2.x xC.rf.w).tr hx3).add) (hR3.add (by decide)) ?_ ?_ ?_
          · rw [gJ_app ht]; exact hS3.add
          · rw [gJ_app ht, List.length_append]; exact hl3
          · rw [gL, if_pos (Or.inl hk)] at e9; exact e9
        · omega
    · by_cases hk2 : pk t E a.1 = nI 45
      · have hk1 := hk
        clear hk
        have hk := hk2
        have hft := (pkS_eq (by decide) hR2.t hk).1
        have haE := (pkS_eq (by decide) hR2.t hk).2.1
        have ht := (pkS_eq (by decide) hR2.t hk).2.2
        refine ev_st dX5_readSum_8 rfl rfl ?_
        refine ev_bipush (v := 40) dX5_readSum_9 (by decide) ?_
        refine ev_ic_geN (t := 61) (a := b) (b := 40) dX5_readSum_11 (by decide) rfl rfl (by omega) (by omega) (fun c_11 => ?_) (fun c_11 => ?_)
        · omega
        · refine ev_st dX5_readSum_14 rfl rfl ?_
          refine ev_call dX5_readSum_15 rfl rfl mr_5_58 rfl rfl rfl (k_peek hR2) ?_
          rintro _ _ ⟨e1, rfl⟩
          rw [hk] at e1
          subst e1
          show Ev lyC (d + 1) hX5_readSum 18 [some (.ref 35), some (.ref 1), some (.int dep), some (.int (nI b)), z4] [.int (nI 45)] (I2, J, R) _
          refine ev_st (L' := [some (.ref 35), some (.ref 1), some (.int dep), some (.int (nI b)), some (.int (nI 45))]) dX5_readSum_18 rfl rfl ?_
          refine ev_st dX5_readSum_20 rfl rfl ?_
          refine ev_bipush (v := 43) dX5_readSum_22 (by decide) ?_
          refine ev_ic_eqN (t := 35) (a := 45) (b := 43) dX5_readSum_24 (by decide) rfl rfl (by omega) (by omega) (fun c_24 => ?_) (fun c_24 => ?_)
          · omega
          · refine ev_st dX5_readSum_27 rfl rfl ?_
            refine ev_bipush (v := 45) dX5_readSum_29 (by decide) ?_
            refine ev_ic_eqN (t := 35) (a := 45) (b := 45) dX5_readSum_31 (by decide) rfl rfl (by omega) (by omega) (fun c_31 => ?_) (fun c_31 => ?_)
            · refine ev_st dX5_readSum_35 rfl rfl ?_
              refine ev_call dX5_readSum_36 rfl rfl mr_5_61 rfl rfl rfl (k_skip (hR2.fine hft) haE) ?_
              rintro _ _ ⟨rfl, rfl⟩
              show Ev lyC (d + 1) hX5_readSum 39 [some (.ref 35), some (.ref 1), some (.int dep), some (.int (nI b)), some (.int (nI 45))] [] (ti_wr I2 1 2 (nI (a.1.2 + 1)), J, R) _
              refine ev_st dX5_readSum_39 rfl rfl ?_
              refine ev_st dX5_readSum_40 rfl rfl ?_
              refine ev_st dX5_readSum_41 rfl rfl ?_
              refine ev_call dX5_readSum_42 rfl rfl mr_5_67 rfl rfl rfl (hC _ J R (true, a.1.2 + 1) _ _ hD (hR2.at hft (by omega)) (xC.add hS2 (by decide)) (by show _ ≤ a.1.2 + 1; omega)) ?_
              rintro _ _ ⟨rfl, I3, rfl, hx3, hR3, hS3⟩
              have hp3 : (f (true, a.1.2 + 1)).2.1.length + (a.1.2 + 1) ≤ (f (true, a.1.2 + 1)).1.2 := hp (true, a.1.2 + 1)
              have hle3 := hR3.le
              have hl3 : (C ++ a.2.1 ++ (f (true, a.1.2 + 1)).2.1).length + 1 ≤ (f (true, a.1.2 + 1)).1.2 := by rw [List.length_append]; omega
              show Ev lyC (d + 1) hX5_readSum 45 [some (.ref 35), some (.ref 1), some (.int dep), some (.int (nI b)), some (.int (nI 45))] [] (I3, J, R) _
              refine ev_st dX5_readSum_45 rfl rfl ?_
              refine ev_sipush (v := 2000) dX5_readSum_46 (by decide) ?_
              refine ev_st dX5_readSum_49 rfl rfl ?_
              refine ev_iaddN (a := 2000) (b := 45) (c := 2045) dX5_readSum_51 rfl rfl rfl ?_
              refine ev_call dX5_readSum_52 rfl rfl mr_5_64 rfl rfl rfl (k_add1_35 hS3.1 (by omega) _) ?_
              rintro _ _ ⟨rfl, rfl⟩
              show Ev lyC (d + 1) hX5_readSum 55 [some (.ref 35), some (.ref 1), some (.int dep), some (.int (nI b)), some (.int (nI 45))] [] (ti_wr (ti_wr I3 36 ((C ++ a.2.1 ++ (f (true, a.1.2 + 1)).2.1).length) (nI 2045)) 35 3 (nI ((C ++ a.2.1 ++ (f (true, a.1.2 + 1)).2.1).length + 1)), J, R) _
              refine ev_iincN (a := b) (b := b + 1) (L' := [some (.ref 35), some (.ref 1), some (.int dep), some (.int (nI (b + 1))), some (.int (nI 45))]) dX5_readSum_55 rfl (nI_1 _) rfl ?_
              refine ev_goto (t := 8) dX5_readSum_58 (by decide) ?_
              refine ih (b + 1) (gJ t f a) _ _ fin (by omega) (((hx2.x xC.rf.w).tr hx3).add) (hR3.add (by decide)) ?_ ?_ ?_
              · rw [gJ_app ht]; exact hS3.add
              · rw [gJ_app ht, List.length_append]; exact hl3
              · rw [gL, if_pos (Or.inr hk)] at e9; exact e9
            · omega
      · skip
        rw [gL, if_neg (fun q => q.elim hk hk2)] at e9
        refine ev_st dX5_readSum_8 rfl rfl ?_
        refine ev_bipush (v := 40) dX5_readSum_9 (by decide) ?_
        refine ev_ic_geN (t := 61) (a := b) (b := 40) dX5_readSum_11 (by decide) rfl rfl (by omega) (by omega) (fun c_11 => ?_) (fun c_11 => ?_)
        · omega
        · refine ev_st dX5_readSum_14 rfl rfl ?_
          refine ev_call dX5_readSum_15 rfl rfl mr_5_58 rfl rfl rfl (k_peek hR2) ?_
          rintro _ _ ⟨e1, rfl⟩
          subst e1
          show Ev lyC (d + 1) hX5_readSum 18 [some (.ref 35), some (.ref 1), some (.int dep), some (.int (nI b)), z4] [.int (pk t E a.1)] (I2, J, R) _
          refine ev_st (L' := [some (.ref 35), some (.ref 1), some (.int dep), some (.int (nI b)), some (.int (pk t E a.1))]) dX5_readSum_18 rfl rfl ?_
          refine ev_st dX5_readSum_20 rfl rfl ?_
          refine ev_bipush (v := 43) dX5_readSum_22 (by decide) ?_
          refine ev_ic_eq (t := 35) (x := pk t E a.1) (y := 43) dX5_readSum_24 (by decide) (fun c_24 => ?_) (fun c_24 => ?_)
          · exact absurd c_24 hk
          · refine ev_st dX5_readSum_27 rfl rfl ?_
            refine ev_bipush (v := 45) dX5_readSum_29 (by decide) ?_
            refine ev_ic_eq (t := 35) (x := pk t E a.1) (y := 45) dX5_readSum_31 (by decide) (fun c_31 => ?_) (fun c_31 => ?_)
            · exact absurd c_31 hk2
            · exact ev_vret dX5_readSum_34 rfl (e9 ▸ ⟨rfl, _, rfl, hx2, hR2, hS2⟩)
set_option maxHeartbeats 1000000 in
theorem k_sum_35 {t : Nat → Nat} {E N D0 : Nat} {dep : Int32} {f : PS → RR} (hC : kRd hX5_readProduct 5 35 dep D0 t E N f) (hp : pay f) (hE : E ≤ 40) : kRd hX5_readSum 5 35 dep (D0 + 1) t E N (gU t E f) := by
  intro I J R s C D hD0 hR hS hl
  obtain ⟨d, rfl⟩ : ∃ d, D = d + 1 := ⟨D - 1, by omega⟩
  have hD : D0 ≤ d := by omega
  show Ev lyC (d + 1) hX5_readSum 0 [some (.ref 35), some (.ref 1), some (.int dep), none, none] [] (I, J, R) _
  refine ev_st dX5_readSum_0 rfl rfl ?_
  refine ev_st dX5_readSum_1 rfl rfl ?_
  refine ev_st dX5_readSum_2 rfl rfl ?_
  refine ev_call dX5_readSum_3 rfl rfl mr_5_67 rfl rfl rfl (hC I J R s C _ hD hR hS hl) ?_
  rintro _ _ ⟨rfl, I3, rfl, hx3, hR3, hS3⟩
  show Ev lyC (d + 1) hX5_readSum 6 [some (.ref 35), some (.ref 1), some (.int dep), none, none] [] (I3, J, R) _
  refine ev_iconst (v := 0) dX5_readSum_6 (by decide) ?_
  refine ev_st (L' := [some (.ref 35), some (.ref 1), some (.int dep), some (.int 0), none]) dX5_readSum_7 rfl rfl ?_
  exact k_sumL_35 hC hp hE hD 40 0 (f s) _ _ _ (by omega) hx3 hR3 hS3 (by have := hp s; rw [List.length_append]; omega) rfl
set_option maxHeartbeats 1000000 in
theorem k_expr_35 {t : Nat → Nat} {E N D0 : Nat} {dep : Int32} {f : PS → RR} (hC : kRd hX5_readSum 5 35 dep D0 t E N f) (hp : pay f) (hE : E ≤ 40) : kRd hX5_readExpression 4 35 dep (D0 + 1) t E N (gE t E f) := by
  intro I J R s C D hD0 hR hS hl
  obtain ⟨d, rfl⟩ : ∃ d, D = d + 1 := ⟨D - 1, by omega⟩
  have hD : D0 ≤ d := by omega
  show Ev lyC (d + 1) hX5_readExpression 0 [some (.ref 35), some (.ref 1), some (.int dep), none] [] (I, J, R) _
  refine ev_st dX5_readExpression_0 rfl rfl ?_
  refine ev_st dX5_readExpression_1 rfl rfl ?_
  refine ev_st dX5_readExpression_2 rfl rfl ?_
  refine ev_call dX5_readExpression_3 rfl rfl mr_5_55 rfl rfl rfl (hC I J R s C _ hD hR hS hl) ?_
  rintro _ _ ⟨rfl, I2, rfl, hx2, hR2, hS2⟩
  have hl2 : (C ++ (f s).2.1).length ≤ (f s).1.2 := by have := hp s; rw [List.length_append]; omega
  show Ev lyC (d + 1) hX5_readExpression 6 [some (.ref 35), some (.ref 1), some (.int dep), none] [] (I2, J, R) _
  skip
  by_cases hk : pk t E (f s).1 = nI 60
  · skip
    have hft := (pkS_eq (by decide) hR2.t hk).1
    have haE := (pkS_eq (by decide) hR2.t hk).2.1
    have ht := (pkS_eq (by decide) hR2.t hk).2.2
    have hg : gE t E f s = gJ t f (f s) := by unfold gE; exact if_pos (Or.inl hk)
    refine ev_st dX5_readExpression_6 rfl rfl ?_
    refine ev_call dX5_readExpression_7 rfl rfl mr_5_58 rfl rfl rfl (k_peek hR2) ?_
    rintro _ _ ⟨e1, rfl⟩
    rw [hk] at e1
    subst e1
    show Ev lyC (d + 1) hX5_readExpression 10 [some (.ref 35), some (.ref 1), some (.int dep), none] [.int (nI 60)] (I2, J, R) _
    refine ev_st (L' := [some (.ref 35), some (.ref 1), some (.int dep), some (.int (nI 60))]) dX5_readExpression_10 rfl rfl ?_
    refine ev_st dX5_readExpression_11 rfl rfl ?_
    refine ev_bipush (v := 60) dX5_readExpression_12 (by decide) ?_
    refine ev_ic_eqN (t := 29) (a := 60) (b := 60) dX5_readExpression_14 (by decide) rfl rfl (by omega) (by omega) (fun c_14 => ?_) (fun c_14 => ?_)
    · refine ev_st dX5_readExpression_29 rfl rfl ?_
      refine ev_call dX5_readExpression_30 rfl rfl mr_5_61 rfl rfl rfl (k_skip (hR2.fine hft) haE) ?_
      rintro _ _ ⟨rfl, rfl⟩
      show Ev lyC (d + 1) hX5_readExpression 33 [some (.ref 35), some (.ref 1), some (.int dep), some (.int (nI 60))] [] (ti_wr I2 1 2 (nI ((f s).1.2 + 1)), J, R) _
      refine ev_st dX5_readExpression_33 rfl rfl ?_
      refine ev_st dX5_readExpression_34 rfl rfl ?_
      refine ev_st dX5_readExpression_35 rfl rfl ?_
      refine ev_call dX5_readExpression_36 rfl rfl mr_5_55 rfl rfl rfl (hC _ J R (true, (f s).1.2 + 1) _ _ hD (hR2.at hft (by omega)) (xC.add hS2 (by decide)) (by show _ ≤ (f s).1.2 + 1; omega)) ?_
      rintro _ _ ⟨rfl, I3, rfl, hx3, hR3, hS3⟩
      have hp3 : (f (true, (f s).1.2 + 1)).2.1.length + ((f s).1.2 + 1) ≤ (f (true, (f s).1.2 + 1)).1.2 := hp (true, (f s).1.2 + 1)
      have hle3 := hR3.le
      have hl3 : (C ++ (f s).2.1 ++ (f (true, (f s).1.2 + 1)).2.1).length + 1 ≤ (f (true, (f s).1.2 + 1)).1.2 := by rw [List.length_append]; omega
      show Ev lyC (d + 1) hX5_readExpression 39 [some (.ref 35), some (.ref 1), some (.int dep), some (.int (nI 60))] [] (I3, J, R) _
      refine ev_st dX5_readExpression_39 rfl rfl ?_
      refine ev_sipush (v := 2000) dX5_readExpression_40 (by decide) ?_
      refine ev_st dX5_readExpression_43 rfl rfl ?_
      refine ev_iaddN (a := 2000) (b := 60) (c := 2060) dX5_readExpression_44 rfl rfl rfl ?_
      refine ev_call dX5_readExpression_45 rfl rfl mr_5_64 rfl rfl rfl (k_add1_35 hS3.1 (by omega) _) ?_
      rintro _ _ ⟨rfl, rfl⟩
      show Ev lyC (d + 1) hX5_readExpression 48 [some (.ref 35), some (.ref 1), some (.int dep), some (.int (nI 60))] [] (ti_wr (ti_wr I3 36 ((C ++ (f s).2.1 ++ (f (true, (f s).1.2 + 1)).2.1).length) (nI 2060)) 35 3 (nI ((C ++ (f s).2.1 ++ (f (true, (f s).1.2 + 1)).2.1).length + 1)), J, R) _
      exact ev_vret dX5_readExpression_48 rfl (⟨rfl, _, rfl, ((hx2.x xC.rf.w).tr hx3).add, by rw [hg]; exact hR3.add (by decide), by rw [hg, gJ_app ht]; exact hS3.add⟩)
    · omega
  · have hn60 := hk
    clear hk
    by_cases hk : pk t E (f s).1 = nI 62
    · skip
      have hft := (pkS_eq (by decide) hR2.t hk).1
      have haE := (pkS_eq (by decide) hR2.t hk).2.1
      have ht := (pkS_eq (by decide) hR2.t hk).2.2
      have hg : gE t E f s = gJ t f (f s) := by unfold gE; exact if_pos (Or.inr (Or.inl hk))
      refine ev_st dX5_readExpression_6 rfl rfl ?_
      refine ev_call dX5_readExpression_7 rfl rfl mr_5_58 rfl rfl rfl (k_peek hR2) ?_
      rintro _ _ ⟨e1, rfl⟩
      rw [hk] at e1
      subst e1
      show Ev lyC (d + 1) hX5_readExpression 10 [some (.ref 35), some (.ref 1), some (.int dep), none] [.int (nI 62)] (I2, J, R) _
      refine ev_st (L' := [some (.ref 35), some (.ref 1), some (.int dep), some (.int (nI 62))]) dX5_readExpression_10 rfl rfl ?_
      refine ev_st dX5_readExpression_11 rfl rfl ?_
      refine ev_bipush (v := 60) dX5_readExpression_12 (by decide) ?_
      refine ev_ic_eqN (t := 29) (a := 62) (b := 60) dX5_readExpression_14 (by decide) rfl rfl (by omega) (by omega) (fun c_14 => ?_) (fun c_14 => ?_)
      · omega
      · refine ev_st dX5_readExpression_17 rfl rfl ?_
        refine ev_bipush (v := 62) dX5_readExpression_18 (by decide) ?_
        refine ev_ic_eqN (t := 29) (a := 62) (b := 62) dX5_readExpression_20 (by decide) rfl rfl (by omega) (by omega) (fun c_20 => ?_) (fun c_20 => ?_)
        · refine ev_st dX5_readExpression_29 rfl rfl ?_
          refine ev_call dX5_readExpression_30 rfl rfl mr_5_61 rfl rfl rfl (k_skip (hR2.fine hft) haE) ?_
          rintro _ _ ⟨rfl, rfl⟩
          show Ev lyC (d + 1) hX5_readExpression 33 [some (.ref 35), some (.ref 1), some (.int dep), some (.int (nI 62))] [] (ti_wr I2 1 2 (nI ((f s).1.2 + 1)), J, R) _
          refine ev_st dX5_readExpression_33 rfl rfl ?_
          refine ev_st dX5_readExpression_34 rfl rfl ?_
          refine ev_st dX5_readExpression_35 rfl rfl ?_
          refine ev_call dX5_readExpression_36 rfl rfl mr_5_55 rfl rfl rfl (hC _ J R (true, (f s).1.2 + 1) _ _ hD (hR2.at hft (by omega)) (xC.add hS2 (by decide)) (by show _ ≤ (f s).1.2 + 1; omega)) ?_
          rintro _ _ ⟨rfl, I3, rfl, hx3, hR3, hS3⟩
          have hp3 : (f (true, (f s).1.2 + 1)).2.1.length + ((f s).1.2 + 1) ≤ (f (true, (f s).1.2 + 1)).1.2 := hp (true, (f s).1.2 + 1)
          have hle3 := hR3.le
          have hl3 : (C ++ (f s).2.1 ++ (f (true, (f s).1.2 + 1)).2.1).length + 1 ≤ (f (true, (f s).1.2 + 1)).1.2 := by rw [List.length_append]; omega
          show Ev lyC (d + 1) hX5_readExpression 39 [some (.ref 35), some (.ref 1), some (.int dep), some (.int (nI 62))] [] (I3, J, R) _
          refine ev_st dX5_readExpression_39 rfl rfl ?_
          refine ev_sipush (v := 2000) dX5_readExpression_40 (by decide) ?_
          refine ev_st dX5_readExpression_43 rfl rfl ?_
          refine ev_iaddN (a := 2000) (b := 62) (c := 2062) dX5_readExpression_44 rfl rfl rfl ?_
          refine ev_call dX5_readExpression_45 rfl rfl mr_5_64 rfl rfl rfl (k_add1_35 hS3.1 (by omega) _) ?_
          rintro _ _ ⟨rfl, rfl⟩
          show Ev lyC (d + 1) hX5_readExpression 48 [some (.ref 35), some (.ref 1), some (.int dep), some (.int (nI 62))] [] (ti_wr (ti_wr I3 36 ((C ++ (f s).2.1 ++ (f (true, (f s).1.2 + 1)).2.1).length) (nI 2062)) 35 3 (nI ((C ++ (f s).2.1 ++ (f (true, (f s).1.2 + 1)).2.1).length + 1)), J, R) _
          exact ev_vret dX5_readExpression_48 rfl (⟨rfl, _, rfl, ((hx2.x xC.rf.w).tr hx3).add, by rw [hg]; exact hR3.add (by decide), by rw [hg, gJ_app ht]; exact hS3.add⟩)
        · omega
    · have hn62 := hk
      clear hk
      by_cases hk : pk t E (f s).1 = nI 61
      · skip
        have hft := (pkS_eq (by decide) hR2.t hk).1
        have haE := (pkS_eq (by decide) hR2.t hk).2.1
        have ht := (pkS_eq (by decide) hR2.t hk).2.2
        have hg : gE t E f s = gJ t f (f s) := by unfold gE; exact if_pos (Or.inr (Or.inr hk))
        refine ev_st dX5_readExpression_6 rfl rfl ?_
        refine ev_call dX5_readExpression_7 rfl rfl mr_5_58 rfl rfl rfl (k_peek hR2) ?_
        rintro _ _ ⟨e1, rfl⟩
        rw [hk] at e1
        subst e1
        show Ev lyC (d + 1) hX5_readExpression 10 [some (.ref 35), some (.ref 1), some (.int dep), none] [.int (nI 61)] (I2, J, R) _
        refine ev_st (L' := [some (.ref 35), some (.ref 1), some (.int dep), some (.int (nI 61))]) dX5_readExpression_10 rfl rfl ?_
        refine ev_st dX5_readExpression_11 rfl rfl ?_
        refine ev_bipush (v := 60) dX5_readExpression_12 (by decide) ?_
        refine ev_ic_eqN (t := 29) (a := 61) (b := 60) dX5_readExpression_14 (by decide) rfl rfl (by omega) (by omega) (fun c_14 => ?_) (fun c_14 => ?_)
        · omega
        · refine ev_st dX5_readExpression_17 rfl rfl ?_
          refine ev_bipush (v := 62) dX5_readExpression_18 (by decide) ?_
          refine ev_ic_eqN (t := 29) (a := 61) (b := 62) dX5_readExpression_20 (by decide) rfl rfl (by omega) (by omega) (fun c_20 => ?_) (fun c_20 => ?_)
          · omega
          · refine ev_st dX5_readExpression_23 rfl rfl ?_
            refine ev_bipush (v := 61) dX5_readExpression_24 (by decide) ?_
            refine ev_ic_neN (t := 48) (a := 61) (b := 61) dX5_readExpression_26 (by decide) rfl rfl (by omega) (by omega) (fun c_26 => ?_) (fun c_26 => ?_)
            · omega
            · refine ev_st dX5_readExpression_29 rfl rfl ?_
              refine ev_call dX5_readExpression_30 rfl rfl mr_5_61 rfl rfl rfl (k_skip (hR2.fine hft) haE) ?_
              rintro _ _ ⟨rfl, rfl⟩
              show Ev lyC (d + 1) hX5_readExpression 33 [some (.ref 35), some (.ref 1), some (.int dep), some (.int (nI 61))] [] (ti_wr I2 1 2 (nI ((f s).1.2 + 1)), J, R) _
              refine ev_st dX5_readExpression_33 rfl rfl ?_
              refine ev_st dX5_readExpression_34 rfl rfl ?_
              refine ev_st dX5_readExpression_35 rfl rfl ?_
              refine ev_call dX5_readExpression_36 rfl rfl mr_5_55 rfl rfl rfl (hC _ J R (true, (f s).1.2 + 1) _ _ hD (hR2.at hft (by omega)) (xC.add hS2 (by decide)) (by show _ ≤ (f s).1.2 + 1; omega)) ?_
              rintro _ _ ⟨rfl, I3, rfl, hx3, hR3, hS3⟩
              have hp3 : (f (true, (f s).1.2 + 1)).2.1.length + ((f s).1.2 + 1) ≤ (f (true, (f s).1.2 + 1)).1.2 := hp (true, (f s).1.2 + 1)
              have hle3 := hR3.le
              have hl3 : (C ++ (f s).2.1 ++ (f (true, (f s).1.2 + 1)).2.1).length + 1 ≤ (f (true, (f s).1.2 + 1)).1.2 := by rw [List.length_append]; omega
              show Ev lyC (d + 1) hX5_readExpression 39 [some (.ref 35), some (.ref 1), some (.int dep), some (.int (nI 61))] [] (I3, J, R) _
              refine ev_st dX5_readExpression_39 rfl rfl ?_
              refine ev_sipush (v := 2000) dX5_readExpression_40 (by decide) ?_
              refine ev_st dX5_readExpression_43 rfl rfl ?_
              refine ev_iaddN (a := 2000) (b := 61) (c := 2061) dX5_readExpression_44 rfl rfl rfl ?_
              refine ev_call dX5_readExpression_45 rfl rfl mr_5_64 rfl rfl rfl (k_add1_35 hS3.1 (by omega) _) ?_
              rintro _ _ ⟨rfl, rfl⟩
              show Ev lyC (d + 1) hX5_readExpression 48 [some (.ref 35), some (.ref 1), some (.int dep), some (.int (nI 61))] [] (ti_wr (ti_wr I3 36 ((C ++ (f s).2.1 ++ (f (true, (f s).1.2 + 1)).2.1).length) (nI 2061)) 35 3 (nI ((C ++ (f s).2.1 ++ (f (true, (f s).1.2 + 1)).2.1).length + 1)), J, R) _
              exact ev_vret dX5_readExpression_48 rfl (⟨rfl, _, rfl, ((hx2.x xC.rf.w).tr hx3).add, by rw [hg]; exact hR3.add (by decide), by rw [hg, gJ_app ht]; exact hS3.add⟩)
      · have hn61 := hk
        clear hk
        have hg : gE t E f s = f s := by unfold gE; exact if_neg (fun q => q.elim hn60 (fun q => q.elim hn62 hn61))
        refine ev_st dX5_readExpression_6 rfl rfl ?_
        refine ev_call dX5_readExpression_7 rfl rfl mr_5_58 rfl rfl rfl (k_peek hR2) ?_
        rintro _ _ ⟨e1, rfl⟩
        subst e1
        show Ev lyC (d + 1) hX5_readExpression 10 [some (.ref 35), some (.ref 1), some (.int dep), none] [.int (pk t E (f s).1)] (I2, J, R) _
        refine ev_st (L' := [some (.ref 35), some (.ref 1), some (.int dep), some (.int (pk t E (f s).1))]) dX5_readExpression_10 rfl rfl ?_
        refine ev_st dX5_readExpression_11 rfl rfl ?_
        refine ev_bipush (v := 60) dX5_readExpression_12 (by decide) ?_
        refine ev_ic_eq (t := 29) (x := pk t E (f s).1) (y := 60) dX5_readExpression_14 (by decide) (fun c_14 => ?_) (fun c_14 => ?_)
        · exact absurd c_14 hn60
        · refine ev_st dX5_readExpression_17 rfl rfl ?_
          refine ev_bipush (v := 62) dX5_readExpression_18 (by decide) ?_
          refine ev_ic_eq (t := 29) (x := pk t E (f s).1) (y := 62) dX5_readExpression_20 (by decide) (fun c_20 => ?_) (fun c_20 => ?_)
          · exact absurd c_20 hn62
          · refine ev_st dX5_readExpression_23 rfl rfl ?_
            refine ev_bipush (v := 61) dX5_readExpression_24 (by decide) ?_
            refine ev_ic_ne (t := 48) (x := pk t E (f s).1) (y := 61) dX5_readExpression_26 (by decide) (fun c_26 => ?_) (fun c_26 => ?_)
            · exact ev_vret dX5_readExpression_48 rfl (⟨rfl, _, rfl, hx2, by rw [hg]; exact hR2, by rw [hg]; exact hS2⟩)
            · exact absurd c_26 hn61
theorem k_rE_35 {t : Nat → Nat} {E N : Nat} (hE : E ≤ 40) : ∀ r, r ≤ 4 → kRd hX5_readExpression 4 35 (nI (4 - r)) (12 * r + 12) t E N (rE t E r)
  | 0, _ => k_expr_35 (k_sum_35 (k_prod_35 (k_thing0_35 hE) (pay_gT (fun g e => by cases e)) hE) (pay_gP (pay_gT (fun g e => by cases e))) hE) (pay_gU (pay_gP (pay_gT (fun g e => by cases e)))) hE
  | r + 1, hr => by
    have h := k_rE_35 (t := t) (N := N) hE r (by omega)
    rw [show 4 - r = 4 - (r + 1) + 1 by omega] at h
    have hq : ∀ g, some (rE t E r) = some g → pay g := fun g e => by cases e; exact pay_rE r
    exact k_expr_35 (k_sum_35 (k_prod_35 (k_thing1_35 hE (by omega) (pay_rE r) h) (pay_gT hq) hE) (pay_gP (pay_gT hq)) hE) (pay_gU (pay_gP (pay_gT hq))) hE
