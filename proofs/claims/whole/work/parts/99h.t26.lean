/-! rules: what both read of a text; sums and products by the model -/
/-- read: the state, the steps of the class, the value of the seven names -/
abbrev RR : Type := PS × List Int32 × ((Nat → Int32) → Int32)
def sMin (t : Nat → Nat) (E : Nat) : Nat → PS → Nat × PS
  | 0, s => (0, s)
  | m + 1, s => if pk t E s = nI 45 then ((sMin t E m (true, s.2 + 1)).1 + 1, (sMin t E m (true, s.2 + 1)).2) else (0, s)
def gN (t : Nat → Nat) (E : Nat) (s : PS) : RR := if s.2 < E then (match lt7 (t s.2) with
  | some j => ((true, s.2 + 1), [nI (1000 + j)], fun e => e j)
  | none => ((false, s.2), [], fun _ => 0)) else ((false, s.2), [], fun _ => 0)
def gB (t : Nat → Nat) (E : Nat) (f : Option (PS → RR)) (s : PS) : RR :=
  if s.1 = true then (if s.2 < E ∧ 48 ≤ t s.2 ∧ t s.2 ≤ 57 then ((sNum t E 3 0 999 s).2, [nI (sNum t E 3 0 999 s).1], fun _ => nI (sNum t E 3 0 999 s).1)
    else match f with
      | some f => if pk t E s = nI 40 then (sNeed t E 41 (f (true, s.2 + 1)).1, (f (true, s.2 + 1)).2.1, (f (true, s.2 + 1)).2.2) else gN t E s
      | none => gN t E s)
  else (s, [], fun _ => 0)
def gT (t : Nat → Nat) (E : Nat) (f : Option (PS → RR)) (s : PS) : RR := ((gB t E f (sMin t E 40 s).2).1, (gB t E f (sMin t E 40 s).2).2.1 ++ (if (sMin t E 40 s).1 % 2 = 1 then [2000] else []), fun e => if (sMin t E 40 s).1 % 2 = 1 then -((gB t E f (sMin t E 40 s).2).2.2 e) else (gB t E f (sMin t E 40 s).2).2.2 e)
/-- behind what was read: a sign, and what is read behind it -/
def gJ (t : Nat → Nat) (f : PS → RR) (a : RR) : RR := ((f (true, a.1.2 + 1)).1, a.2.1 ++ (f (true, a.1.2 + 1)).2.1 ++ [nI (2000 + t a.1.2)], fun e => jn (t a.1.2) (a.2.2 e) ((f (true, a.1.2 + 1)).2.2 e))
def gL (t : Nat → Nat) (E k1 k2 : Nat) (f : PS → RR) : Nat → RR → RR
  | 0, a => a
  | m + 1, a => if pk t E a.1 = nI k1 ∨ pk t E a.1 = nI k2 then gL t E k1 k2 f m (gJ t f a) else a
def gE (t : Nat → Nat) (E : Nat) (f : PS → RR) (s : PS) : RR := if pk t E (f s).1 = nI 60 ∨ pk t E (f s).1 = nI 62 ∨ pk t E (f s).1 = nI 61 then gJ t f (f s) else f s
def gP (t : Nat → Nat) (E : Nat) (f : PS → RR) (s : PS) : RR := gL t E 42 47 f 40 (f s)
def gU (t : Nat → Nat) (E : Nat) (f : PS → RR) (s : PS) : RR := gL t E 43 45 f 40 (f s)
def rE (t : Nat → Nat) (E : Nat) : Nat → PS → RR
  | 0 => gE t E (gU t E (gP t E (gT t E none)))
  | r + 1 => gE t E (gU t E (gP t E (gT t E (some (rE t E r)))))
/-- what is read takes a sign at least -/
def adv (f : PS → RR) : Prop := ∀ s, (f s).1.1 = true → s.1 = true ∧ s.2 + 1 ≤ (f s).1.2
theorem gL_n {t : Nat → Nat} {E k1 k2 m : Nat} {f : PS → RR} {a : RR} (h : ¬ (pk t E a.1 = nI k1 ∨ pk t E a.1 = nI k2)) : gL t E k1 k2 f m a = a := by
  cases m
  · rfl
  · rw [gL, if_neg h]
/-- a method of the model that reads -/
def mRd (h : TH) (mL : Nat) (dep : Int32) (rp : Nat) (t : Nat → Nat) (E N T : Nat) (fl : Int32) (F : Nat → Nat) (f : PS → RR) : Prop := ∀ (I : Nat → Nat → Int32) (J : Nat → Nat → Int64) (R : Nat → Nat → Value) (s : PS) (D : Nat), F s.2 ≤ D → mR rp I R t E N T s → I 0 22 = fl → Cal lyM D h mL [.ref 0, .int dep] (I, J, R) (fun r M' => ∃ x I3, r = some (.int x) ∧ M' = (I3, J, R) ∧ rF I I3 ∧ mR rp I3 R t E N T (f s).1 ∧ ((f s).1.1 = true → x = (f s).2.2 (fun j => if fl = 0 then 0 else I 11 j)))
theorem mRd_j {f : PS → RR} {t : Nat → Nat} {a : RR} {x y : Int32} {e : Nat → Int32} (hf : a.1.1 = true) (hx : a.1.1 = true → x = a.2.2 e) (hy : (f (true, a.1.2 + 1)).1.1 = true → y = (f (true, a.1.2 + 1)).2.2 e) : (gJ t f a).1.1 = true → jn (t a.1.2) x y = (gJ t f a).2.2 e := by
  intro h
  rw [hx hf, hy h]
  rfl
theorem pk_t {t : Nat → Nat} {E c : Nat} {s : PS} (hc : c < 2 ^ 31) (ht : ∀ k, k < E → t k < 256) (h : pk t E s = nI c) : t s.2 = c := (pkS_eq hc ht h).2.2
theorem pk_x {t : Nat → Nat} {E c : Nat} {s : PS} (hc : c < 2 ^ 31) (ht : ∀ k, k < E → t k < 256) (h : pk t E s = nI c) : s.2 < E := (pkS_eq hc ht h).2.1
theorem pk_f {t : Nat → Nat} {E : Nat} {s : PS} (hf : s.1 = true) : pk t E (true, s.2) = pk t E s := by
  obtain ⟨b, a⟩ := s
  cases b
  · cases hf
  · rfl
theorem noP {t : Nat → Nat} {E k1 k2 : Nat} {s : PS} (hk : k1 < 2 ^ 31 ∧ k2 < 2 ^ 31) (ht : ∀ k, k < E → t k < 256) (h : ¬ s.1 = true) : ¬ (pk t E s = nI k1 ∨ pk t E s = nI k2) := fun q => h (q.elim (fun q => (pkS_eq hk.1 ht q).1) (fun q => (pkS_eq hk.2 ht q).1))
set_option maxHeartbeats 1000000 in
theorem c_prodL {I : Nat → Nat → Int32} {J : Nat → Nat → Int64} {R : Nat → Nat → Value} {d rp : Nat} {t : Nat → Nat} {E N T : Nat} {dep fl : Int32} {F : Nat → Nat} {f : PS → RR} {s : PS} {fin : RR} (hC : mRd hX12_thing 4 dep rp t E N T fl F f) (hF : ∀ {p q : Nat}, p ≤ q → F q ≤ F p) (hadv : adv f) (hE40 : E ≤ 40) (hfl : I 0 22 = fl) (hD : F (s.2 + 1) ≤ d) : ∀ (m : Nat) (a : RR) (x : Int32) (z3 z4 : Option Value) (I2 : Nat → Nat → Int32), rF I I2 → mR rp I2 R t E N T a.1 → (a.1.1 = true → x = a.2.2 (fun j => if fl = 0 then 0 else I 11 j)) → (a.1.1 = true → s.2 + (40 - m) ≤ a.1.2) → gL t E 42 47 f m a = fin → Ev lyM (d + 1) hX12_product 6 [some (.ref 0), some (.int dep), some (.int x), z3, z4] [] (I2, J, R) (fun r M' => ∃ x I3, r = some (.int x) ∧ M' = (I3, J, R) ∧ rF I I3 ∧ mR rp I3 R t E N T fin.1 ∧ (fin.1.1 = true → x = fin.2.2 (fun j => if fl = 0 then 0 else I 11 j))) := by
  intro m
  induction m with
  | zero =>
    intro a x z3 z4 I2 hx2 hR2 hv2 hpo e9
    cases hf : a.1.1
    · skip
      refine ev_st dX12_product_6 rfl rfl ?_
      refine ev_call dX12_product_7 rfl rfl mr_12_127 rfl rfl rfl (c_fine0 hR2 hf) ?_
      rintro _ _ ⟨rfl, rfl⟩
      show Ev lyM (d + 1) hX12_product 10 [some (.ref 0), some (.int dep), some (.int x), z3, z4] [.int 0] (I2, J, R) _
      refine ev_if_eq (t := 91) dX12_product_10 (by decide) (fun _ => ?_) (fun q => absurd q (by decide))
      refine ev_st dX12_product_91 rfl rfl ?_
      exact ev_iret dX12_product_92 rfl (by rw [gL_n (noP (by decide) hR2.t (by rw [hf]; decide))] at e9; exact ⟨x, I2, rfl, rfl, hx2, e9 ▸ hR2, e9 ▸ hv2⟩)
    · have hpos := hpo hf
      have hm1 : pk t E a.1 = -1 := (pkS_m1 hR2.t).mpr (fun q => by have := q.2; omega)
      have n1 : ¬ pk t E a.1 = 42 := by rw [hm1]; decide
      have n2 : ¬ pk t E a.1 = 47 := by rw [hm1]; decide
      refine ev_st dX12_product_6 rfl rfl ?_
      refine ev_call dX12_product_7 rfl rfl mr_12_127 rfl rfl rfl (c_fine1 hR2 hf) ?_
      rintro _ _ ⟨rfl, rfl⟩
      show Ev lyM (d + 1) hX12_product 10 [some (.ref 0), some (.int dep), some (.int x), z3, z4] [.int 1] (I2, J, R) _
      refine ev_if_eq (t := 91) dX12_product_10 (by decide) (fun q => absurd q (by decide)) (fun _ => ?_)
      refine ev_st dX12_product_13 rfl rfl ?_
      refine ev_call dX12_product_14 rfl rfl mr_12_131 rfl rfl rfl ((pk_f hf ▸ c_here (hR2.fine hf))) ?_
      rintro _ _ ⟨rfl, rfl⟩
      show Ev lyM (d + 1) hX12_product 17 [some (.ref 0), some (.int dep), some (.int x), z3, z4] [.int (pk t E a.1)] (I2, J, R) _
      refine ev_bipush (v := 42) dX12_product_17 (by decide) ?_
      refine ev_ic_eq (t := 31) (x := pk t E a.1) (y := 42) dX12_product_19 (by decide) (fun c_19 => ?_) (fun c_19 => ?_)
      · exact absurd c_19 n1
      · refine ev_st dX12_product_22 rfl rfl ?_
        refine ev_call dX12_product_23 rfl rfl mr_12_131 rfl rfl rfl ((pk_f hf ▸ c_here (hR2.fine hf))) ?_
        rintro _ _ ⟨rfl, rfl⟩
        show Ev lyM (d + 1) hX12_product 26 [some (.ref 0), some (.int dep), some (.int x), z3, z4] [.int (pk t E a.1)] (I2, J, R) _
        refine ev_bipush (v := 47) dX12_product_26 (by decide) ?_
        refine ev_ic_ne (t := 91) (x := pk t E a.1) (y := 47) dX12_product_28 (by decide) (fun c_28 => ?_) (fun c_28 => ?_)
        · refine ev_st dX12_product_91 rfl rfl ?_
          exact ev_iret dX12_product_92 rfl (by rw [gL_n (fun q => q.elim n1 n2)] at e9; exact ⟨x, I2, rfl, rfl, hx2, e9 ▸ hR2, e9 ▸ hv2⟩)
        · exact absurd c_28 n2
  | succ m ih =>
    intro a x z3 z4 I2 hx2 hR2 hv2 hpo e9
    have hfl2 : ti_wr I2 0 16 (nI (a.1.2 + 1)) 0 22 = fl := by rw [wr_ne (by decide), hx2.f 22 rfl]; exact hfl
    have hx11 : I2 11 = I 11 := hx2.p 11 rfl
    cases hf : a.1.1
    · skip
      refine ev_st dX12_product_6 rfl rfl ?_
      refine ev_call dX12_product_7 rfl rfl mr_12_127 rfl rfl rfl (c_fine0 hR2 hf) ?_
      rintro _ _ ⟨rfl, rfl⟩
      show Ev lyM (d + 1) hX12_product 10 [some (.ref 0), some (.int dep), some (.int x), z3, z4] [.int 0] (I2, J, R) _
      refine ev_if_eq (t := 91) dX12_product_10 (by decide) (fun _ => ?_) (fun q => absurd q (by decide))
      refine ev_st dX12_product_91 rfl rfl ?_
      exact ev_iret dX12_product_92 rfl (by rw [gL_n (noP (by decide) hR2.t (by rw [hf]; decide))] at e9; exact ⟨x, I2, rfl, rfl, hx2, e9 ▸ hR2, e9 ▸ hv2⟩)
    · have h16 : I2 0 16 = nI a.1.2 := (by have h := hR2.2.2.2.2.2.2.2.2; rw [if_pos hf] at h; exact h.2)
      have haE : a.1.2 ≤ E := hR2.2.2.2.2.2.2.2.1
      by_cases hp : pk t E a.1 = nI 42
      · have hlt := pk_x (by decide) hR2.t hp
        refine ev_st dX12_product_6 rfl rfl ?_
        refine ev_call dX12_product_7 rfl rfl mr_12_127 rfl rfl rfl (c_fine1 hR2 hf) ?_
        rintro _ _ ⟨rfl, rfl⟩
        show Ev lyM (d + 1) hX12_product 10 [some (.ref 0), some (.int dep), some (.int x), z3, z4] [.int 1] (I2, J, R) _
        refine ev_if_eq (t := 91) dX12_product_10 (by decide) (fun q => absurd q (by decide)) (fun _ => ?_)
        refine ev_st dX12_product_13 rfl rfl ?_
        refine ev_call dX12_product_14 rfl rfl mr_12_131 rfl rfl rfl ((((pk_f hf).trans hp) ▸ c_here (hR2.fine hf))) ?_
        rintro _ _ ⟨rfl, rfl⟩
        show Ev lyM (d + 1) hX12_product 17 [some (.ref 0), some (.int dep), some (.int x), z3, z4] [.int 42] (I2, J, R) _
        refine ev_bipush (v := 42) dX12_product_17 (by decide) ?_
        refine ev_ic_eqN (t := 31) (a := 42) (b := 42) dX12_product_19 (by decide) rfl rfl (by omega) (by omega) (fun c_19 => ?_) (fun c_19 => ?_)
        · refine ev_st dX12_product_31 rfl rfl ?_
          refine ev_call dX12_product_32 rfl rfl mr_12_131 rfl rfl rfl ((((pk_f hf).trans hp) ▸ c_here (hR2.fine hf))) ?_
          rintro _ _ ⟨rfl, rfl⟩
          show Ev lyM (d + 1) hX12_product 35 [some (.ref 0), some (.int dep), some (.int x), z3, z4] [.int 42] (I2, J, R) _
          refine ev_bipush (v := 42) dX12_product_35 (by decide) ?_
          refine ev_ic_neN (t := 44) (a := 42) (b := 42) dX12_product_37 (by decide) rfl rfl (by omega) (by omega) (fun c_37 => ?_) (fun c_37 => ?_)
          · exact absurd rfl c_37
          · refine ev_iconst (v := 1) dX12_product_40 (by decide) ?_
            refine ev_goto (t := 45) dX12_product_41 (by decide) ?_
            refine ev_st (L' := [some (.ref 0), some (.int dep), some (.int x), some (.int 1), z4]) dX12_product_45 rfl rfl ?_
            refine ev_st dX12_product_46 rfl rfl ?_
            refine ev_st dX12_product_47 rfl rfl ?_
            refine ev_getI (v := nI a.1.2) dX12_product_48 fr_12_117 rfl rfl h16 ?_
            refine ev_iconst (v := 1) dX12_product_51 (by decide) ?_
            refine ev_iaddN (a := a.1.2) (b := 1) (c := a.1.2 + 1) dX12_product_52 rfl rfl rfl ?_
            refine ev_putI dX12_product_53 fr_12_117 rfl rfl ?_
            refine ev_st dX12_product_56 rfl rfl ?_
            refine ev_st dX12_product_57 rfl rfl ?_
            refine ev_call dX12_product_58 rfl rfl mr_12_182 rfl rfl rfl (hC _ J R (true, a.1.2 + 1) d (Nat.le_trans (hF (by have := hpo hf; simp only; omega)) hD) (hR2.at hf hlt) hfl2) ?_
            rintro _ _ ⟨y, I3, rfl, rfl, hx3, hR3, hv3⟩
            show Ev lyM (d + 1) hX12_product 61 [some (.ref 0), some (.int dep), some (.int x), some (.int 1), z4] [.int y] (I3, J, R) _
            refine ev_st (L' := [some (.ref 0), some (.int dep), some (.int x), some (.int 1), some (.int y)]) dX12_product_61 rfl rfl ?_
            refine ev_st dX12_product_63 rfl rfl ?_
            refine ev_if_eq (t := 74) dX12_product_64 (by decide) (fun q => absurd q (by decide)) (fun _ => ?_)
            refine ev_st dX12_product_67 rfl rfl ?_
            refine ev_st dX12_product_68 rfl rfl ?_
            refine ev_st dX12_product_70 rfl rfl ?_
            refine ev_goto (t := 87) dX12_product_71 (by decide) ?_
            refine ev_st (L' := [some (.ref 0), some (.int dep), some (.int (x * y)), some (.int 1), some (.int y)]) dX12_product_87 rfl rfl ?_
            refine ev_goto (t := 6) dX12_product_88 (by decide) ?_
            have htc : t a.1.2 = 42 := pk_t (by decide) hR2.t hp
            have hj := mRd_j (t := t) hf hv2 (fun q => (hv3 q).trans (by rw [show ti_wr I2 0 16 (nI (a.1.2 + 1)) 11 = I 11 from hx11]))
            exact ih (gJ t f a) _ _ _ _ ((hx2.w16).tr hx3) hR3 (fun q => (show _ = jn (t a.1.2) x y by rw [htc, jn]; simp).trans (hj q)) (fun q => by have := (hadv _ q).2; show s.2 + (40 - m) ≤ (f (true, a.1.2 + 1)).1.2; simp only at this; have := hpo hf; omega) ((by rw [gL, if_pos (Or.inl hp)] at e9; exact e9))
        · exact absurd rfl c_19
      · have n1 : ¬ pk t E a.1 = 42 := hp
        by_cases hp : pk t E a.1 = nI 47
        · have hlt := pk_x (by decide) hR2.t hp
          refine ev_st dX12_product_6 rfl rfl ?_
          refine ev_call dX12_product_7 rfl rfl mr_12_127 rfl rfl rfl (c_fine1 hR2 hf) ?_
          rintro _ _ ⟨rfl, rfl⟩
          show Ev lyM (d + 1) hX12_product 10 [some (.ref 0), some (.int dep), some (.int x), z3, z4] [.int 1] (I2, J, R) _
          refine ev_if_eq (t := 91) dX12_product_10 (by decide) (fun q => absurd q (by decide)) (fun _ => ?_)
          refine ev_st dX12_product_13 rfl rfl ?_
          refine ev_call dX12_product_14 rfl rfl mr_12_131 rfl rfl rfl ((((pk_f hf).trans hp) ▸ c_here (hR2.fine hf))) ?_
          rintro _ _ ⟨rfl, rfl⟩
          show Ev lyM (d + 1) hX12_product 17 [some (.ref 0), some (.int dep), some (.int x), z3, z4] [.int 47] (I2, J, R) _
          refine ev_bipush (v := 42) dX12_product_17 (by decide) ?_
          refine ev_ic_eqN (t := 31) (a := 47) (b := 42) dX12_product_19 (by decide) rfl rfl (by omega) (by omega) (fun c_19 => ?_) (fun c_19 => ?_)
          · exact absurd c_19 (by decide)
          · refine ev_st dX12_product_22 rfl rfl ?_
            refine ev_call dX12_product_23 rfl rfl mr_12_131 rfl rfl rfl ((((pk_f hf).trans hp) ▸ c_here (hR2.fine hf))) ?_
            rintro _ _ ⟨rfl, rfl⟩
            show Ev lyM (d + 1) hX12_product 26 [some (.ref 0), some (.int dep), some (.int x), z3, z4] [.int 47] (I2, J, R) _
            refine ev_bipush (v := 47) dX12_product_26 (by decide) ?_
            refine ev_ic_neN (t := 91) (a := 47) (b := 47) dX12_product_28 (by decide) rfl rfl (by omega) (by omega) (fun c_28 => ?_) (fun c_28 => ?_)
            · exact absurd rfl c_28
            · refine ev_st dX12_product_31 rfl rfl ?_
              refine ev_call dX12_product_32 rfl rfl mr_12_131 rfl rfl rfl ((((pk_f hf).trans hp) ▸ c_here (hR2.fine hf))) ?_
              rintro _ _ ⟨rfl, rfl⟩
              show Ev lyM (d + 1) hX12_product 35 [some (.ref 0), some (.int dep), some (.int x), z3, z4] [.int 47] (I2, J, R) _
              refine ev_bipush (v := 42) dX12_product_35 (by decide) ?_
              refine ev_ic_neN (t := 44) (a := 47) (b := 42) dX12_product_37 (by decide) rfl rfl (by omega) (by omega) (fun c_37 => ?_) (fun c_37 => ?_)
              · refine ev_iconst (v := 0) dX12_product_44 (by decide) ?_
                refine ev_st (L' := [some (.ref 0), some (.int dep), some (.int x), some (.int 0), z4]) dX12_product_45 rfl rfl ?_
                refine ev_st dX12_product_46 rfl rfl ?_
                refine ev_st dX12_product_47 rfl rfl ?_
                refine ev_getI (v := nI a.1.2) dX12_product_48 fr_12_117 rfl rfl h16 ?_
                refine ev_iconst (v := 1) dX12_product_51 (by decide) ?_
                refine ev_iaddN (a := a.1.2) (b := 1) (c := a.1.2 + 1) dX12_product_52 rfl rfl rfl ?_
                refine ev_putI dX12_product_53 fr_12_117 rfl rfl ?_
                refine ev_st dX12_product_56 rfl rfl ?_
                refine ev_st dX12_product_57 rfl rfl ?_
                refine ev_call dX12_product_58 rfl rfl mr_12_182 rfl rfl rfl (hC _ J R (true, a.1.2 + 1) d (Nat.le_trans (hF (by have := hpo hf; simp only; omega)) hD) (hR2.at hf hlt) hfl2) ?_
                rintro _ _ ⟨y, I3, rfl, rfl, hx3, hR3, hv3⟩
                show Ev lyM (d + 1) hX12_product 61 [some (.ref 0), some (.int dep), some (.int x), some (.int 0), z4] [.int y] (I3, J, R) _
                refine ev_st (L' := [some (.ref 0), some (.int dep), some (.int x), some (.int 0), some (.int y)]) dX12_product_61 rfl rfl ?_
                refine ev_st dX12_product_63 rfl rfl ?_
                refine ev_if_eq (t := 74) dX12_product_64 (by decide) (fun _ => ?_) (fun q => absurd q (by decide))
                refine ev_st dX12_product_74 rfl rfl ?_
                refine ev_if_ne (t := 83) (x := y) dX12_product_76 (by decide) (fun c_76 => ?_) (fun c_76 => ?_)
                · refine ev_st dX12_product_83 rfl rfl ?_
                  refine ev_st dX12_product_84 rfl rfl ?_
                  refine ev_div dX12_product_86 c_76 ?_
                  refine ev_st (L' := [some (.ref 0), some (.int dep), some (.int (x / y)), some (.int 0), some (.int y)]) dX12_product_87 rfl rfl ?_
                  refine ev_goto (t := 6) dX12_product_88 (by decide) ?_
                  have htc : t a.1.2 = 47 := pk_t (by decide) hR2.t hp
                  have hj := mRd_j (t := t) hf hv2 (fun q => (hv3 q).trans (by rw [show ti_wr I2 0 16 (nI (a.1.2 + 1)) 11 = I 11 from hx11]))
                  exact ih (gJ t f a) _ _ _ _ ((hx2.w16).tr hx3) hR3 (fun q => (show _ = jn (t a.1.2) x y by rw [htc, jn]; simp [c_76]).trans (hj q)) (fun q => by have := (hadv _ q).2; show s.2 + (40 - m) ≤ (f (true, a.1.2 + 1)).1.2; simp only at this; have := hpo hf; omega) ((by rw [gL, if_pos (Or.inr hp)] at e9; exact e9))
                · refine ev_iconst (v := 0) dX12_product_79 (by decide) ?_
                  refine ev_goto (t := 87) dX12_product_80 (by decide) ?_
                  refine ev_st (L' := [some (.ref 0), some (.int dep), some (.int 0), some (.int 0), some (.int y)]) dX12_product_87 rfl rfl ?_
                  refine ev_goto (t := 6) dX12_product_88 (by decide) ?_
                  have htc : t a.1.2 = 47 := pk_t (by decide) hR2.t hp
                  have hj := mRd_j (t := t) hf hv2 (fun q => (hv3 q).trans (by rw [show ti_wr I2 0 16 (nI (a.1.2 + 1)) 11 = I 11 from hx11]))
                  exact ih (gJ t f a) _ _ _ _ ((hx2.w16).tr hx3) hR3 (fun q => (show _ = jn (t a.1.2) x y by rw [htc, jn]; simp [c_76]).trans (hj q)) (fun q => by have := (hadv _ q).2; show s.2 + (40 - m) ≤ (f (true, a.1.2 + 1)).1.2; simp only at this; have := hpo hf; omega) ((by rw [gL, if_pos (Or.inr hp)] at e9; exact e9))
              · exact absurd c_37 (by decide)
        · have n2 : ¬ pk t E a.1 = 47 := hp
          refine ev_st dX12_product_6 rfl rfl ?_
          refine ev_call dX12_product_7 rfl rfl mr_12_127 rfl rfl rfl (c_fine1 hR2 hf) ?_
          rintro _ _ ⟨rfl, rfl⟩
          show Ev lyM (d + 1) hX12_product 10 [some (.ref 0), some (.int dep), some (.int x), z3, z4] [.int 1] (I2, J, R) _
          refine ev_if_eq (t := 91) dX12_product_10 (by decide) (fun q => absurd q (by decide)) (fun _ => ?_)
          refine ev_st dX12_product_13 rfl rfl ?_
          refine ev_call dX12_product_14 rfl rfl mr_12_131 rfl rfl rfl ((pk_f hf ▸ c_here (hR2.fine hf))) ?_
          rintro _ _ ⟨rfl, rfl⟩
          show Ev lyM (d + 1) hX12_product 17 [some (.ref 0), some (.int dep), some (.int x), z3, z4] [.int (pk t E a.1)] (I2, J, R) _
          refine ev_bipush (v := 42) dX12_product_17 (by decide) ?_
          refine ev_ic_eq (t := 31) (x := pk t E a.1) (y := 42) dX12_product_19 (by decide) (fun c_19 => ?_) (fun c_19 => ?_)
          · exact absurd c_19 n1
          · refine ev_st dX12_product_22 rfl rfl ?_
            refine ev_call dX12_product_23 rfl rfl mr_12_131 rfl rfl rfl ((pk_f hf ▸ c_here (hR2.fine hf))) ?_
            rintro _ _ ⟨rfl, rfl⟩
            show Ev lyM (d + 1) hX12_product 26 [some (.ref 0), some (.int dep), some (.int x), z3, z4] [.int (pk t E a.1)] (I2, J, R) _
            refine ev_bipush (v := 47) dX12_product_26 (by decide) ?_
            refine ev_ic_ne (t := 91) (x := pk t E a.1) (y := 47) dX12_product_28 (by decide) (fun c_28 => ?_) (fun c_28 => ?_)
            · refine ev_st dX12_product_91 rfl rfl ?_
              exact ev_iret dX12_product_92 rfl (by rw [gL_n (fun q => q.elim n1 n2)] at e9; exact ⟨x, I2, rfl, rfl, hx2, e9 ▸ hR2, e9 ▸ hv2⟩)
            · exact absurd c_28 n2
