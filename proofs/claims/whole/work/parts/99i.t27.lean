/-! rules: sums and products by the model, whole -/
set_option maxHeartbeats 1000000 in
theorem c_sumL {I : Nat → Nat → Int32} {J : Nat → Nat → Int64} {R : Nat → Nat → Value} {d rp : Nat} {t : Nat → Nat} {E N T : Nat} {dep fl : Int32} {F : Nat → Nat} {f : PS → RR} {s : PS} {fin : RR} (hC : mRd hX12_product 5 dep rp t E N T fl F f) (hF : ∀ {p q : Nat}, p ≤ q → F q ≤ F p) (hadv : adv f) (hE40 : E ≤ 40) (hfl : I 0 22 = fl) (hD : F (s.2 + 1) ≤ d) : ∀ (m : Nat) (a : RR) (x : Int32) (z3 z4 : Option Value) (I2 : Nat → Nat → Int32), rF I I2 → mR rp I2 R t E N T a.1 → (a.1.1 = true → x = a.2.2 (fun j => if fl = 0 then 0 else I 11 j)) → (a.1.1 = true → s.2 + (40 - m) ≤ a.1.2) → gL t E 43 45 f m a = fin → Ev lyM (d + 1) hX12_sum 6 [some (.ref 0), some (.int dep), some (.int x), z3, z4] [] (I2, J, R) (fun r M' => ∃ x I3, r = some (.int x) ∧ M' = (I3, J, R) ∧ rF I I3 ∧ mR rp I3 R t E N T fin.1 ∧ (fin.1.1 = true → x = fin.2.2 (fun j => if fl = 0 then 0 else I 11 j))) := by
  intro m
  induction m with
  | zero =>
    intro a x z3 z4 I2 hx2 hR2 hv2 hpo e9
    cases hf : a.1.1
    · skip
      refine ev_st dX12_sum_6 rfl rfl ?_
      refine ev_call dX12_sum_7 rfl rfl mr_12_127 rfl rfl rfl (c_fine0 hR2 hf) ?_
      rintro _ _ ⟨rfl, rfl⟩
      show Ev lyM (d + 1) hX12_sum 10 [some (.ref 0), some (.int dep), some (.int x), z3, z4] [.int 0] (I2, J, R) _
      refine ev_if_eq (t := 82) dX12_sum_10 (by decide) (fun _ => ?_) (fun q => absurd q (by decide))
      refine ev_st dX12_sum_82 rfl rfl ?_
      exact ev_iret dX12_sum_83 rfl (by rw [gL_n (noP (by decide) hR2.t (by rw [hf]; decide))] at e9; exact ⟨x, I2, rfl, rfl, hx2, e9 ▸ hR2, e9 ▸ hv2⟩)
    · have hpos := hpo hf
      have hm1 : pk t E a.1 = -1 := (pkS_m1 hR2.t).mpr (fun q => by have := q.2; omega)
      have n1 : ¬ pk t E a.1 = 43 := by rw [hm1]; decide
      have n2 : ¬ pk t E a.1 = 45 := by rw [hm1]; decide
      refine ev_st dX12_sum_6 rfl rfl ?_
      refine ev_call dX12_sum_7 rfl rfl mr_12_127 rfl rfl rfl (c_fine1 hR2 hf) ?_
      rintro _ _ ⟨rfl, rfl⟩
      show Ev lyM (d + 1) hX12_sum 10 [some (.ref 0), some (.int dep), some (.int x), z3, z4] [.int 1] (I2, J, R) _
      refine ev_if_eq (t := 82) dX12_sum_10 (by decide) (fun q => absurd q (by decide)) (fun _ => ?_)
      refine ev_st dX12_sum_13 rfl rfl ?_
      refine ev_call dX12_sum_14 rfl rfl mr_12_131 rfl rfl rfl ((pk_f hf ▸ c_here (hR2.fine hf))) ?_
      rintro _ _ ⟨rfl, rfl⟩
      show Ev lyM (d + 1) hX12_sum 17 [some (.ref 0), some (.int dep), some (.int x), z3, z4] [.int (pk t E a.1)] (I2, J, R) _
      refine ev_bipush (v := 43) dX12_sum_17 (by decide) ?_
      refine ev_ic_eq (t := 31) (x := pk t E a.1) (y := 43) dX12_sum_19 (by decide) (fun c_19 => ?_) (fun c_19 => ?_)
      · exact absurd c_19 n1
      · refine ev_st dX12_sum_22 rfl rfl ?_
        refine ev_call dX12_sum_23 rfl rfl mr_12_131 rfl rfl rfl ((pk_f hf ▸ c_here (hR2.fine hf))) ?_
        rintro _ _ ⟨rfl, rfl⟩
        show Ev lyM (d + 1) hX12_sum 26 [some (.ref 0), some (.int dep), some (.int x), z3, z4] [.int (pk t E a.1)] (I2, J, R) _
        refine ev_bipush (v := 45) dX12_sum_26 (by decide) ?_
        refine ev_ic_ne (t := 82) (x := pk t E a.1) (y := 45) dX12_sum_28 (by decide) (fun c_28 => ?_) (fun c_28 => ?_)
        · refine ev_st dX12_sum_82 rfl rfl ?_
          exact ev_iret dX12_sum_83 rfl (by rw [gL_n (fun q => q.elim n1 n2)] at e9; exact ⟨x, I2, rfl, rfl, hx2, e9 ▸ hR2, e9 ▸ hv2⟩)
        · exact absurd c_28 n2
  | succ m ih =>
    intro a x z3 z4 I2 hx2 hR2 hv2 hpo e9
    have hfl2 : ti_wr I2 0 16 (nI (a.1.2 + 1)) 0 22 = fl := by rw [wr_ne (by decide), hx2.f 22 rfl]; exact hfl
    have hx11 : I2 11 = I 11 := hx2.p 11 rfl
    cases hf : a.1.1
    · skip
      refine ev_st dX12_sum_6 rfl rfl ?_
      refine ev_call dX12_sum_7 rfl rfl mr_12_127 rfl rfl rfl (c_fine0 hR2 hf) ?_
      rintro _ _ ⟨rfl, rfl⟩
      show Ev lyM (d + 1) hX12_sum 10 [some (.ref 0), some (.int dep), some (.int x), z3, z4] [.int 0] (I2, J, R) _
      refine ev_if_eq (t := 82) dX12_sum_10 (by decide) (fun _ => ?_) (fun q => absurd q (by decide))
      refine ev_st dX12_sum_82 rfl rfl ?_
      exact ev_iret dX12_sum_83 rfl (by rw [gL_n (noP (by decide) hR2.t (by rw [hf]; decide))] at e9; exact ⟨x, I2, rfl, rfl, hx2, e9 ▸ hR2, e9 ▸ hv2⟩)
    · have h16 : I2 0 16 = nI a.1.2 := (by have h := hR2.2.2.2.2.2.2.2.2; rw [if_pos hf] at h; exact h.2)
      have haE : a.1.2 ≤ E := hR2.2.2.2.2.2.2.2.1
      by_cases hp : pk t E a.1 = nI 43
      · have hlt := pk_x (by decide) hR2.t hp
        refine ev_st dX12_sum_6 rfl rfl ?_
        refine ev_call dX12_sum_7 rfl rfl mr_12_127 rfl rfl rfl (c_fine1 hR2 hf) ?_
        rintro _ _ ⟨rfl, rfl⟩
        show Ev lyM (d + 1) hX12_sum 10 [some (.ref 0), some (.int dep), some (.int x), z3, z4] [.int 1] (I2, J, R) _
        refine ev_if_eq (t := 82) dX12_sum_10 (by decide) (fun q => absurd q (by decide)) (fun _ => ?_)
        refine ev_st dX12_sum_13 rfl rfl ?_
        refine ev_call dX12_sum_14 rfl rfl mr_12_131 rfl rfl rfl ((((pk_f hf).trans hp) ▸ c_here (hR2.fine hf))) ?_
        rintro _ _ ⟨rfl, rfl⟩
        show Ev lyM (d + 1) hX12_sum 17 [some (.ref 0), some (.int dep), some (.int x), z3, z4] [.int 43] (I2, J, R) _
        refine ev_bipush (v := 43) dX12_sum_17 (by decide) ?_
        refine ev_ic_eqN (t := 31) (a := 43) (b := 43) dX12_sum_19 (by decide) rfl rfl (by omega) (by omega) (fun c_19 => ?_) (fun c_19 => ?_)
        · refine ev_st dX12_sum_31 rfl rfl ?_
          refine ev_call dX12_sum_32 rfl rfl mr_12_131 rfl rfl rfl ((((pk_f hf).trans hp) ▸ c_here (hR2.fine hf))) ?_
          rintro _ _ ⟨rfl, rfl⟩
          show Ev lyM (d + 1) hX12_sum 35 [some (.ref 0), some (.int dep), some (.int x), z3, z4] [.int 43] (I2, J, R) _
          refine ev_bipush (v := 43) dX12_sum_35 (by decide) ?_
          refine ev_ic_neN (t := 44) (a := 43) (b := 43) dX12_sum_37 (by decide) rfl rfl (by omega) (by omega) (fun c_37 => ?_) (fun c_37 => ?_)
          · exact absurd rfl c_37
          · refine ev_iconst (v := 1) dX12_sum_40 (by decide) ?_
            refine ev_goto (t := 45) dX12_sum_41 (by decide) ?_
            refine ev_st (L' := [some (.ref 0), some (.int dep), some (.int x), some (.int 1), z4]) dX12_sum_45 rfl rfl ?_
            refine ev_st dX12_sum_46 rfl rfl ?_
            refine ev_st dX12_sum_47 rfl rfl ?_
            refine ev_getI (v := nI a.1.2) dX12_sum_48 fr_12_117 rfl rfl h16 ?_
            refine ev_iconst (v := 1) dX12_sum_51 (by decide) ?_
            refine ev_iaddN (a := a.1.2) (b := 1) (c := a.1.2 + 1) dX12_sum_52 rfl rfl rfl ?_
            refine ev_putI dX12_sum_53 fr_12_117 rfl rfl ?_
            refine ev_st dX12_sum_56 rfl rfl ?_
            refine ev_st dX12_sum_57 rfl rfl ?_
            refine ev_call dX12_sum_58 rfl rfl mr_12_179 rfl rfl rfl (hC _ J R (true, a.1.2 + 1) d (Nat.le_trans (hF (by have := hpo hf; simp only; omega)) hD) (hR2.at hf hlt) hfl2) ?_
            rintro _ _ ⟨y, I3, rfl, rfl, hx3, hR3, hv3⟩
            show Ev lyM (d + 1) hX12_sum 61 [some (.ref 0), some (.int dep), some (.int x), some (.int 1), z4] [.int y] (I3, J, R) _
            refine ev_st (L' := [some (.ref 0), some (.int dep), some (.int x), some (.int 1), some (.int y)]) dX12_sum_61 rfl rfl ?_
            refine ev_st dX12_sum_63 rfl rfl ?_
            refine ev_if_eq (t := 74) dX12_sum_64 (by decide) (fun q => absurd q (by decide)) (fun _ => ?_)
            refine ev_st dX12_sum_67 rfl rfl ?_
            refine ev_st dX12_sum_68 rfl rfl ?_
            refine ev_st dX12_sum_70 rfl rfl ?_
            refine ev_goto (t := 78) dX12_sum_71 (by decide) ?_
            refine ev_st (L' := [some (.ref 0), some (.int dep), some (.int (x + y)), some (.int 1), some (.int y)]) dX12_sum_78 rfl rfl ?_
            refine ev_goto (t := 6) dX12_sum_79 (by decide) ?_
            have htc : t a.1.2 = 43 := pk_t (by decide) hR2.t hp
            have hj := mRd_j (t := t) hf hv2 (fun q => (hv3 q).trans (by rw [show ti_wr I2 0 16 (nI (a.1.2 + 1)) 11 = I 11 from hx11]))
            exact ih (gJ t f a) _ _ _ _ ((hx2.w16).tr hx3) hR3 (fun q => (show _ = jn (t a.1.2) x y by rw [htc, jn]; simp).trans (hj q)) (fun q => by have := (hadv _ q).2; show s.2 + (40 - m) ≤ (f (true, a.1.2 + 1)).1.2; simp only at this; have := hpo hf; omega) ((by rw [gL, if_pos (Or.inl hp)] at e9; exact e9))
        · exact absurd rfl c_19
      · have n1 : ¬ pk t E a.1 = 43 := hp
        by_cases hp : pk t E a.1 = nI 45
        · have hlt := pk_x (by decide) hR2.t hp
          refine ev_st dX12_sum_6 rfl rfl ?_
          refine ev_call dX12_sum_7 rfl rfl mr_12_127 rfl rfl rfl (c_fine1 hR2 hf) ?_
          rintro _ _ ⟨rfl, rfl⟩
          show Ev lyM (d + 1) hX12_sum 10 [some (.ref 0), some (.int dep), some (.int x), z3, z4] [.int 1] (I2, J, R) _
          refine ev_if_eq (t := 82) dX12_sum_10 (by decide) (fun q => absurd q (by decide)) (fun _ => ?_)
          refine ev_st dX12_sum_13 rfl rfl ?_
          refine ev_call dX12_sum_14 rfl rfl mr_12_131 rfl rfl rfl ((((pk_f hf).trans hp) ▸ c_here (hR2.fine hf))) ?_
          rintro _ _ ⟨rfl, rfl⟩
          show Ev lyM (d + 1) hX12_sum 17 [some (.ref 0), some (.int dep), some (.int x), z3, z4] [.int 45] (I2, J, R) _
          refine ev_bipush (v := 43) dX12_sum_17 (by decide) ?_
          refine ev_ic_eqN (t := 31) (a := 45) (b := 43) dX12_sum_19 (by decide) rfl rfl (by omega) (by omega) (fun c_19 => ?_) (fun c_19 => ?_)
          · exact absurd c_19 (by decide)
          · refine ev_st dX12_sum_22 rfl rfl ?_
            refine ev_call dX12_sum_23 rfl rfl mr_12_131 rfl rfl rfl ((((pk_f hf).trans hp) ▸ c_here (hR2.fine hf))) ?_
            rintro _ _ ⟨rfl, rfl⟩
            show Ev lyM (d + 1) hX12_sum 26 [some (.ref 0), some (.int dep), some (.int x), z3, z4] [.int 45] (I2, J, R) _
            refine ev_bipush (v := 45) dX12_sum_26 (by decide) ?_
            refine ev_ic_neN (t := 82) (a := 45) (b := 45) dX12_sum_28 (by decide) rfl rfl (by omega) (by omega) (fun c_28 => ?_) (fun c_28 => ?_)
            · exact absurd rfl c_28
            · refine ev_st dX12_sum_31 rfl rfl ?_
              refine ev_call dX12_sum_32 rfl rfl mr_12_131 rfl rfl rfl ((((pk_f hf).trans hp) ▸ c_here (hR2.fine hf))) ?_
              rintro _ _ ⟨rfl, rfl⟩
              show Ev lyM (d + 1) hX12_sum 35 [some (.ref 0), some (.int dep), some (.int x), z3, z4] [.int 45] (I2, J, R) _
              refine ev_bipush (v := 43) dX12_sum_35 (by decide) ?_
              refine ev_ic_neN (t := 44) (a := 45) (b := 43) dX12_sum_37 (by decide) rfl rfl (by omega) (by omega) (fun c_37 => ?_) (fun c_37 => ?_)
              · refine ev_iconst (v := 0) dX12_sum_44 (by decide) ?_
                refine ev_st (L' := [some (.ref 0), some (.int dep), some (.int x), some (.int 0), z4]) dX12_sum_45 rfl rfl ?_
                refine ev_st dX12_sum_46 rfl rfl ?_
                refine ev_st dX12_sum_47 rfl rfl ?_
                refine ev_getI (v := nI a.1.2) dX12_sum_48 fr_12_117 rfl rfl h16 ?_
                refine ev_iconst (v := 1) dX12_sum_51 (by decide) ?_
                refine ev_iaddN (a := a.1.2) (b := 1) (c := a.1.2 + 1) dX12_sum_52 rfl rfl rfl ?_
                refine ev_putI dX12_sum_53 fr_12_117 rfl rfl ?_
                refine ev_st dX12_sum_56 rfl rfl ?_
                refine ev_st dX12_sum_57 rfl rfl ?_
                refine ev_call dX12_sum_58 rfl rfl mr_12_179 rfl rfl rfl (hC _ J R (true, a.1.2 + 1) d (Nat.le_trans (hF (by have := hpo hf; simp only; omega)) hD) (hR2.at hf hlt) hfl2) ?_
                rintro _ _ ⟨y, I3, rfl, rfl, hx3, hR3, hv3⟩
                show Ev lyM (d + 1) hX12_sum 61 [some (.ref 0), some (.int dep), some (.int x), some (.int 0), z4] [.int y] (I3, J, R) _
                refine ev_st (L' := [some (.ref 0), some (.int dep), some (.int x), some (.int 0), some (.int y)]) dX12_sum_61 rfl rfl ?_
                refine ev_st dX12_sum_63 rfl rfl ?_
                refine ev_if_eq (t := 74) dX12_sum_64 (by decide) (fun _ => ?_) (fun q => absurd q (by decide))
                refine ev_st dX12_sum_74 rfl rfl ?_
                refine ev_st dX12_sum_75 rfl rfl ?_
                refine ev_st dX12_sum_77 rfl rfl ?_
                refine ev_st (L' := [some (.ref 0), some (.int dep), some (.int (x - y)), some (.int 0), some (.int y)]) dX12_sum_78 rfl rfl ?_
                refine ev_goto (t := 6) dX12_sum_79 (by decide) ?_
                have htc : t a.1.2 = 45 := pk_t (by decide) hR2.t hp
                have hj := mRd_j (t := t) hf hv2 (fun q => (hv3 q).trans (by rw [show ti_wr I2 0 16 (nI (a.1.2 + 1)) 11 = I 11 from hx11]))
                exact ih (gJ t f a) _ _ _ _ ((hx2.w16).tr hx3) hR3 (fun q => (show _ = jn (t a.1.2) x y by rw [htc, jn]; simp).trans (hj q)) (fun q => by have := (hadv _ q).2; show s.2 + (40 - m) ≤ (f (true, a.1.2 + 1)).1.2; simp only at this; have := hpo hf; omega) ((by rw [gL, if_pos (Or.inr hp)] at e9; exact e9))
              · exact absurd c_37 (by decide)
        · have n2 : ¬ pk t E a.1 = 45 := hp
          refine ev_st dX12_sum_6 rfl rfl ?_
          refine ev_call dX12_sum_7 rfl rfl mr_12_127 rfl rfl rfl (c_fine1 hR2 hf) ?_
          rintro _ _ ⟨rfl, rfl⟩
          show Ev lyM (d + 1) hX12_sum 10 [some (.ref 0), some (.int dep), some (.int x), z3, z4] [.int 1] (I2, J, R) _
          refine ev_if_eq (t := 82) dX12_sum_10 (by decide) (fun q => absurd q (by decide)) (fun _ => ?_)
          refine ev_st dX12_sum_13 rfl rfl ?_
          refine ev_call dX12_sum_14 rfl rfl mr_12_131 rfl rfl rfl ((pk_f hf ▸ c_here (hR2.fine hf))) ?_
          rintro _ _ ⟨rfl, rfl⟩
          show Ev lyM (d + 1) hX12_sum 17 [some (.ref 0), some (.int dep), some (.int x), z3, z4] [.int (pk t E a.1)] (I2, J, R) _
          refine ev_bipush (v := 43) dX12_sum_17 (by decide) ?_
          refine ev_ic_eq (t := 31) (x := pk t E a.1) (y := 43) dX12_sum_19 (by decide) (fun c_19 => ?_) (fun c_19 => ?_)
          · exact absurd c_19 n1
          · refine ev_st dX12_sum_22 rfl rfl ?_
            refine ev_call dX12_sum_23 rfl rfl mr_12_131 rfl rfl rfl ((pk_f hf ▸ c_here (hR2.fine hf))) ?_
            rintro _ _ ⟨rfl, rfl⟩
            show Ev lyM (d + 1) hX12_sum 26 [some (.ref 0), some (.int dep), some (.int x), z3, z4] [.int (pk t E a.1)] (I2, J, R) _
            refine ev_bipush (v := 45) dX12_sum_26 (by decide) ?_
            refine ev_ic_ne (t := 82) (x := pk t E a.1) (y := 45) dX12_sum_28 (by decide) (fun c_28 => ?_) (fun c_28 => ?_)
            · refine ev_st dX12_sum_82 rfl rfl ?_
              exact ev_iret dX12_sum_83 rfl (by rw [gL_n (fun q => q.elim n1 n2)] at e9; exact ⟨x, I2, rfl, rfl, hx2, e9 ▸ hR2, e9 ▸ hv2⟩)
            · exact absurd c_28 n2
theorem adv_gJ {t : Nat → Nat} {f : PS → RR} {a : RR} (hf : adv f) (h : (gJ t f a).1.1 = true) : a.1.2 + 1 ≤ (gJ t f a).1.2 := by
  have q := (hf (true, a.1.2 + 1) h).2
  show a.1.2 + 1 ≤ (f (true, a.1.2 + 1)).1.2
  simp only at q
  omega
theorem adv_gL {t : Nat → Nat} {E k1 k2 : Nat} {f : PS → RR} (hf : adv f) (hk : k1 < 2 ^ 31 ∧ k2 < 2 ^ 31) (ht : ∀ k, k < E → t k < 256) : ∀ (m : Nat) (a : RR), (gL t E k1 k2 f m a).1.1 = true → a.1.1 = true ∧ a.1.2 ≤ (gL t E k1 k2 f m a).1.2
  | 0, a, h => ⟨h, Nat.le_refl _⟩
  | m + 1, a, h => by
    rw [gL] at h ⊢
    split at h
    · next q =>
      rw [if_pos q]
      have ih := adv_gL hf hk ht m (gJ t f a) h
      have := adv_gJ (t := t) hf ih.1
      exact ⟨Classical.byContradiction fun z => noP hk ht z q, by omega⟩
    · next q => rw [if_neg q]; exact ⟨h, Nat.le_refl _⟩
theorem adv_gLf {t : Nat → Nat} {E k1 k2 m : Nat} {f : PS → RR} (hf : adv f) (hk : k1 < 2 ^ 31 ∧ k2 < 2 ^ 31) (ht : ∀ k, k < E → t k < 256) : adv (fun s => gL t E k1 k2 f m (f s)) := by
  intro s h
  have q := adv_gL hf hk ht m (f s) h
  have q2 := hf s q.1
  exact ⟨q2.1, Nat.le_trans q2.2 q.2⟩
theorem adv_gP {t : Nat → Nat} {E : Nat} {f : PS → RR} (hf : adv f) (ht : ∀ k, k < E → t k < 256) : adv (gP t E f) := adv_gLf hf (by decide) ht
theorem adv_gU {t : Nat → Nat} {E : Nat} {f : PS → RR} (hf : adv f) (ht : ∀ k, k < E → t k < 256) : adv (gU t E f) := adv_gLf hf (by decide) ht
theorem adv_gE {t : Nat → Nat} {E : Nat} {f : PS → RR} (hf : adv f) (ht : ∀ k, k < E → t k < 256) : adv (gE t E f) := by
  intro s h
  unfold gE at h ⊢
  split at h
  · next q =>
    rw [if_pos q]
    have h1 : (f s).1.1 = true := by
      rcases q with q | q | q
      · exact (pkS_eq (by decide) ht q).1
      · exact (pkS_eq (by decide) ht q).1
      · exact (pkS_eq (by decide) ht q).1
    have q2 := hf s h1
    have := adv_gJ (t := t) hf h
    exact ⟨q2.1, by have := q2.2; omega⟩
  · next q => rw [if_neg q]; exact hf s h
theorem c_prod {rp : Nat} {t : Nat → Nat} {E N T : Nat} {dep fl : Int32} {F : Nat → Nat} {f : PS → RR} (hC : mRd hX12_thing 4 dep rp t E N T fl F f) (hF : ∀ {p q : Nat}, p ≤ q → F q ≤ F p) (hadv : adv f) (hE40 : E ≤ 40) : mRd hX12_product 5 dep rp t E N T fl (fun p => F p + 1) (gP t E f) := by
  intro I J R s D hD hR hfl
  simp only at hD
  obtain ⟨d, rfl⟩ : ∃ d, D = d + 1 := ⟨D - 1, by omega⟩
  show Ev lyM (d + 1) hX12_product 0 [some (.ref 0), some (.int dep), none, none, none] [] (I, J, R) _
  refine ev_st dX12_product_0 rfl rfl ?_
  refine ev_st dX12_product_1 rfl rfl ?_
  refine ev_call dX12_product_2 rfl rfl mr_12_182 rfl rfl rfl (hC I J R s d (by omega) hR hfl) ?_
  rintro _ _ ⟨x, I2, rfl, rfl, hx2, hR2, hv2⟩
  show Ev lyM (d + 1) hX12_product 5 [some (.ref 0), some (.int dep), none, none, none] [.int x] (I2, J, R) _
  refine ev_st (L' := [some (.ref 0), some (.int dep), some (.int x), none, none]) dX12_product_5 rfl rfl ?_
  exact c_prodL hC hF hadv hE40 hfl (Nat.le_trans (hF (Nat.le_succ _)) (show F s.2 ≤ d by omega)) 40 (f s) x none none I2 hx2 hR2 hv2 (fun q => by have := (hadv s q).2; omega) rfl
theorem c_sum {rp : Nat} {t : Nat → Nat} {E N T : Nat} {dep fl : Int32} {F : Nat → Nat} {f : PS → RR} (hC : mRd hX12_product 5 dep rp t E N T fl F f) (hF : ∀ {p q : Nat}, p ≤ q → F q ≤ F p) (hadv : adv f) (hE40 : E ≤ 40) : mRd hX12_sum 5 dep rp t E N T fl (fun p => F p + 1) (gU t E f) := by
  intro I J R s D hD hR hfl
  simp only at hD
  obtain ⟨d, rfl⟩ : ∃ d, D = d + 1 := ⟨D - 1, by omega⟩
  show Ev lyM (d + 1) hX12_sum 0 [some (.ref 0), some (.int dep), none, none, none] [] (I, J, R) _
  refine ev_st dX12_sum_0 rfl rfl ?_
  refine ev_st dX12_sum_1 rfl rfl ?_
  refine ev_call dX12_sum_2 rfl rfl mr_12_179 rfl rfl rfl (hC I J R s d (by omega) hR hfl) ?_
  rintro _ _ ⟨x, I2, rfl, rfl, hx2, hR2, hv2⟩
  show Ev lyM (d + 1) hX12_sum 5 [some (.ref 0), some (.int dep), none, none, none] [.int x] (I2, J, R) _
  refine ev_st (L' := [some (.ref 0), some (.int dep), some (.int x), none, none]) dX12_sum_5 rfl rfl ?_
  exact c_sumL hC hF hadv hE40 hfl (Nat.le_trans (hF (Nat.le_succ _)) (show F s.2 ≤ d by omega)) 40 (f s) x none none I2 hx2 hR2 hv2 (fun q => by have := (hadv s q).2; omega) rfl
