/-! texts: walk: the call of the model, whole -/
theorem mA.bA {I I2 : Nat → Nat → Int32} {R R2 : Nat → Nat → Value} {d n c rp rs : Nat} {rv : RV} {g : Nat → Int32} (h : mA I R d n c rp rs rv) (hb : bA I I2) (h19 : R2 0 19 = R 0 19) : mA (va_up I2 13 g) R2 d n c rp rs rv := by
  obtain ⟨h1, h2, h3, h4, h5, h6, h7⟩ := h
  refine ⟨(hb.k 3 rfl).trans h1, h2, (hb.k 1 rfl).trans h3, h4, (hb.k 21 rfl).trans h5, h19.trans h6, ?_⟩
  have e : va_up I2 13 g rp = I rp := by
    rcases h7.1 with rfl | rfl
    · exact hb.p 9 rfl
    · exact hb.p 10 rfl
  rw [e]; exact h7
/-- what the model's walk leaves -/
def wkX (I : Nat → Nat → Int32) (J : Nat → Nat → Int64) (R : Nat → Nat → Value) (t : Nat → Nat) (N n c ns rs u a : Nat) (rv : RV) (r : Option Value) (M' : TM) : Prop := ∃ m, aEnd t (min N 60) m ∧ if (sFin N (aS t (min N 60) m)).1 = true then (∃ I3 R3, bA I I3 ∧ R3 0 19 = R 0 19 ∧ wkM (va_up I3 13 (m_lay (I3 1) (I3 13) 0 29)) J R3 m u (aW (I 2) (I 3) (I 4) (I 5) n c ns rs rv (aK t (min N 60)) (aV t (min N 60)) m 0 (I 1) a) r M') else wk0 I J R (sFin N (aS t (min N 60) m)).2 r M'
set_option maxHeartbeats 1000000 in
theorem c_wk1 {I : Nat → Nat → Int32} {J : Nat → Nat → Int64} {R : Nat → Nat → Value} {I2 : Nat → Nat → Int32} {R2 : Nat → Nat → Value} {t : Nat → Nat} {d n c ns a rp rs u N m : Nat} {rv : RV} {z2 : Option Value} (hA : mA I R d n c rp rs rv) (hns : I 0 6 = nI ns) (hns8 : ns ≤ 8) (ha : I 1 24 = nI a) (hac : a ≤ c) (hu : I 0 25 = nI u) (hu12 : u ≤ 12) (hend : aEnd t (min N 60) m) (hR2 : mR 6 I2 R2 t (min N 60) N 60 (aS t (min N 60) m)) (hb2 : bA I I2) (h19 : R2 0 19 = R 0 19) (h15 : (aS t (min N 60) m).1 = true → ∀ j, j < m → I2 15 (2 * j) = nI (aK t (min N 60) j) ∧ (¬ aK t (min N 60) j = 62 → I2 15 (2 * j + 1) = nI (aV t (min N 60) j))) (hok : (sFin N (aS t (min N 60) m)).1 = true) : Ev lyM (d + 96) hX12_walk 44 [some (.ref 0), some (.int (nI m)), z2] [] (I2, J, R2) (wkX I J R t N n c ns rs u a rv) := by
  refine ev_st dX12_walk_44 rfl rfl ?_
  refine ev_call dX12_walk_45 rfl rfl mr_12_156 rfl rfl rfl (c_right hR2) ?_
  rintro _ _ ⟨e1, I3, rfl, hx3, hR3⟩
  rw [show (sFin N (aS t (min N 60) m)).1 = true from hok] at e1
  subst e1
  show Ev lyM (d + 96) hX12_walk 48 [some (.ref 0), some (.int (nI m)), z2] [.int 1] (I3, J, R2) _
  refine ev_if_ne (t := 58) dX12_walk_48 (by decide) (fun _ => ?_) (fun q => absurd q (by decide))
  refine ev_st dX12_walk_58 rfl rfl ?_
  refine ev_getC dX12_walk_59 fr_12_9 rfl rfl ?_
  refine ev_st dX12_walk_62 rfl rfl ?_
  refine ev_getC dX12_walk_63 fr_12_52 rfl rfl ?_
  refine ev_iconst (v := 0) dX12_walk_66 (by decide) ?_
  refine ev_call dX12_walk_67 rfl rfl mr_12_257 rfl rfl rfl (c_lay_1_13 (k := 0) (by decide)) ?_
  rintro _ _ ⟨rfl, rfl⟩
  show Ev lyM (d + 96) hX12_walk 70 [some (.ref 0), some (.int (nI m)), z2] [] (va_up I3 13 (m_lay (I3 1) (I3 13) 0 29), J, R2) _
  refine ev_iconst (v := 0) dX12_walk_70 (by decide) ?_
  refine ev_st (L' := [some (.ref 0), some (.int (nI m)), some (.int 0)]) dX12_walk_71 rfl rfl ?_
  have hb3 := hb2.r hx3
  have hL := c_wkL (J := J) (I := (va_up I3 13 (m_lay (I3 1) (I3 13) 0 29))) (R := R2) (K := aK t (min N 60)) (V := aV t (min N 60)) (m := m) (row := I 1) (a := a) (hA.bA hb3 h19) ((hb3.k 6 rfl).trans hns) hns8 (by have := aEnd_le hend.2; omega) (aK_ok hend (sFin_f hok).1) (fun j hj => by rw [show (va_up I3 13 (m_lay (I3 1) (I3 13) 0 29)) 15 = I3 15 from rfl, hx3.p 15 rfl]; exact h15 (sFin_f hok).1 j hj) ((hb3.k 25 rfl).trans hu) hu12 (m + 1) 0 (I 1) a (va_up I3 13 (m_lay (I3 1) (I3 13) 0 29)) R2 (by omega) (by omega) (by rw [← show (va_up I3 13 (m_lay (I3 1) (I3 13) 0 29)) 1 = I 1 from hb3.p 1 rfl, va_up_id]; exact sM.rf) ha hac rfl
  rw [show (va_up I3 13 (m_lay (I3 1) (I3 13) 0 29)) 2 = I 2 from hb3.p 2 rfl, show (va_up I3 13 (m_lay (I3 1) (I3 13) 0 29)) 3 = I 3 from hb3.p 3 rfl, show (va_up I3 13 (m_lay (I3 1) (I3 13) 0 29)) 4 = I 4 from hb3.p 4 rfl, show (va_up I3 13 (m_lay (I3 1) (I3 13) 0 29)) 5 = I 5 from hb3.p 5 rfl] at hL
  refine hL.imp ?_
  intro r M' h
  exact ⟨m, hend, by rw [if_pos hok]; exact ⟨I3, R2, hb3, h19, h⟩⟩
theorem c_wk {I : Nat → Nat → Int32} {J : Nat → Nat → Int64} {R : Nat → Nat → Value} {I2 : Nat → Nat → Int32} {R2 : Nat → Nat → Value} {t : Nat → Nat} {d n c ns a rp rs u N m : Nat} {rv : RV} {z2 : Option Value} (hA : mA I R d n c rp rs rv) (hns : I 0 6 = nI ns) (hns8 : ns ≤ 8) (ha : I 1 24 = nI a) (hac : a ≤ c) (hu : I 0 25 = nI u) (hu12 : u ≤ 12) (hend : aEnd t (min N 60) m) (hR2 : mR 6 I2 R2 t (min N 60) N 60 (aS t (min N 60) m)) (hb2 : bA I I2) (h19 : R2 0 19 = R 0 19) (h15 : (aS t (min N 60) m).1 = true → ∀ j, j < m → I2 15 (2 * j) = nI (aK t (min N 60) j) ∧ (¬ aK t (min N 60) j = 62 → I2 15 (2 * j + 1) = nI (aV t (min N 60) j))) : Ev lyM (d + 96) hX12_walk 44 [some (.ref 0), some (.int (nI m)), z2] [] (I2, J, R2) (wkX I J R t N n c ns rs u a rv) := by
  by_cases hok : (sFin N (aS t (min N 60) m)).1 = true
  · exact c_wk1 hA hns hns8 ha hac hu hu12 hend hR2 hb2 h19 h15 hok
  · refine (c_wk44 hR2 hb2 h19 (by simpa using hok)).imp ?_
    intro r M' h
    exact ⟨m, hend, by rw [if_neg hok]; exact h⟩
theorem c15_v {I2 I3 : Nat → Nat → Int32} {t : Nat → Nat} {E b : Nat} (hF : aF (2 * b) I2 I3) (h : ∀ j, j < b → I2 15 (2 * j) = nI (aK t E j) ∧ (¬ aK t E j = 62 → I2 15 (2 * j + 1) = nI (aV t E j))) (hv : (aR t E (aS t E b)).2.2.1 = true → I3 15 (2 * b) = nI (aR t E (aS t E b)).1 ∧ (¬ (aR t E (aS t E b)).1 = 62 → I3 15 (2 * b + 1) = nI (aR t E (aS t E b)).2.1)) : (aS t E (b + 1)).1 = true → ∀ j, j < b + 1 → I3 15 (2 * j) = nI (aK t E j) ∧ (¬ aK t E j = 62 → I3 15 (2 * j + 1) = nI (aV t E j)) := by
  intro h1 j hj
  by_cases e : j = b
  · subst e; exact hv h1
  · rw [hF.2.2 (2 * j) (by omega) (by omega), hF.2.2 (2 * j + 1) (by omega) (by omega)]
    exact h j (by omega)
set_option maxHeartbeats 1000000 in
theorem c_walk {I : Nat → Nat → Int32} {J : Nat → Nat → Int64} {R : Nat → Nat → Value} {t : Nat → Nat} {d n c ns a rp rs u N : Nat} {rv : RV} (hT : mT I t N) (hA : mA I R d n c rp rs rv) (hns : I 0 6 = nI ns) (hns8 : ns ≤ 8) (ha : I 1 24 = nI a) (hac : a ≤ c) (hu : I 0 25 = nI u) (hu12 : u ≤ 12) : Cal lyM (d + 96) hX12_walk 3 [.ref 0] (I, J, R) (wkX I J R t N n c ns rs u a rv) := by
  have hT0 : mT (ti_wr I 0 12 0) t N := ⟨hT.1, hT.2.1, hT.2.2⟩
  have hN80 := hT.2.1
  have loop : ∀ (k b : Nat) (z2 : Option Value) (I2 : Nat → Nat → Int32) (R2 : Nat → Nat → Value), b ≤ 60 → 60 - b < k → mR 6 I2 R2 t (min N 60) N 60 (aS t (min N 60) b) → bA I I2 → R2 0 19 = R 0 19 → ((aS t (min N 60) b).1 = true → ∀ j, j < b → I2 15 (2 * j) = nI (aK t (min N 60) j) ∧ (¬ aK t (min N 60) j = 62 → I2 15 (2 * j + 1) = nI (aV t (min N 60) j))) → (∀ j, j < b → goes (min N 60) (aS t (min N 60) j)) → Ev lyM (d + 96) hX12_walk 13 [some (.ref 0), some (.int (nI b)), z2] [] (I2, J, R2) (wkX I J R t N n c ns rs u a rv) := by
    intro k
    induction k with
    | zero => intro b z2 I2 R2 h1 h2; omega
    | succ k ih =>
      intro b z2 I2 R2 hb hk hR2 hb2 h19 h15 hg
      have hEb := hR2.2.2.2.2.2.2.2.1
      cases hf : (aS t (min N 60) b).1
      · skip
        refine ev_st dX12_walk_13 rfl rfl ?_
        refine ev_call dX12_walk_14 rfl rfl mr_12_127 rfl rfl rfl (c_fine0 hR2 hf) ?_
        rintro _ _ ⟨rfl, rfl⟩
        show Ev lyM (d + 96) hX12_walk 17 [some (.ref 0), some (.int (nI b)), z2] [.int 0] (I2, J, R2) _
        refine ev_if_eq (t := 44) dX12_walk_17 (by decide) (fun _ => ?_) (fun q => absurd q (by decide))
        exact c_wk hA hns hns8 ha hac hu hu12 ⟨fun q => absurd (hf.symm.trans q.1) (by decide), hg⟩ hR2 hb2 h19 h15
      · have hbb := aS_at b hg hf
        by_cases hlt : (aS t (min N 60) b).2 < (min N 60)
        · skip
          refine ev_st dX12_walk_13 rfl rfl ?_
          refine ev_call dX12_walk_14 rfl rfl mr_12_127 rfl rfl rfl (c_fine1 hR2 hf) ?_
          rintro _ _ ⟨rfl, rfl⟩
          show Ev lyM (d + 96) hX12_walk 17 [some (.ref 0), some (.int (nI b)), z2] [.int 1] (I2, J, R2) _
          refine ev_if_eq (t := 44) dX12_walk_17 (by decide) (fun q => absurd q (by decide)) (fun _ => ?_)
          refine ev_st dX12_walk_20 rfl rfl ?_
          refine ev_getI (v := nI ((aS t (min N 60) b).2)) dX12_walk_21 fr_12_117 rfl rfl (by have h := hR2.2.2.2.2.2.2.2.2; rw [if_pos hf] at h; exact h.2) ?_
          refine ev_st dX12_walk_24 rfl rfl ?_
          refine ev_getI (v := nI N) dX12_walk_25 fr_12_111 rfl rfl hR2.2.2.1 ?_
          refine ev_ic_geN (t := 44) (a := (aS t (min N 60) b).2) (b := N) dX12_walk_28 (by decide) rfl rfl (by omega) (by omega) (fun c_28 => ?_) (fun c_28 => ?_)
          · omega
          · refine ev_st dX12_walk_31 rfl rfl ?_
            refine ev_iconst (v := 2) dX12_walk_32 (by decide) ?_
            refine ev_st dX12_walk_33 rfl rfl ?_
            refine ev_imulN (a := 2) (b := b) (c := 2 * b) dX12_walk_34 rfl rfl rfl ?_
            refine ev_call dX12_walk_35 rfl rfl mr_12_307 rfl rfl rfl (c_readAct (k := 2 * b) hR2 ⟨hf, hlt⟩ (by omega)) ?_
            rintro _ _ ⟨rfl, I3, rfl, hF3, hR3, hv3⟩
            show Ev lyM (d + 96) hX12_walk 38 [some (.ref 0), some (.int (nI b)), z2] [] (I3, J, R2) _
            refine ev_iincN (a := b) (b := b + 1) (L' := [some (.ref 0), some (.int (nI (b + 1))), z2]) dX12_walk_38 rfl (nI_1 _) rfl ?_
            refine ev_goto (t := 13) dX12_walk_41 (by decide) ?_
            exact ih _ _ _ _ (by omega) (by omega) hR3 (hb2.a hF3) h19 (c15_v hF3 (h15 hf) hv3) (all_b hg ⟨hf, hlt⟩)
        · skip
          refine ev_st dX12_walk_13 rfl rfl ?_
          refine ev_call dX12_walk_14 rfl rfl mr_12_127 rfl rfl rfl (c_fine1 hR2 hf) ?_
          rintro _ _ ⟨rfl, rfl⟩
          show Ev lyM (d + 96) hX12_walk 17 [some (.ref 0), some (.int (nI b)), z2] [.int 1] (I2, J, R2) _
          refine ev_if_eq (t := 44) dX12_walk_17 (by decide) (fun q => absurd q (by decide)) (fun _ => ?_)
          refine ev_st dX12_walk_20 rfl rfl ?_
          refine ev_getI (v := nI ((aS t (min N 60) b).2)) dX12_walk_21 fr_12_117 rfl rfl (by have h := hR2.2.2.2.2.2.2.2.2; rw [if_pos hf] at h; exact h.2) ?_
          refine ev_st dX12_walk_24 rfl rfl ?_
          refine ev_getI (v := nI N) dX12_walk_25 fr_12_111 rfl rfl hR2.2.2.1 ?_
          refine ev_ic_geN (t := 44) (a := (aS t (min N 60) b).2) (b := N) dX12_walk_28 (by decide) rfl rfl (by omega) (by omega) (fun c_28 => ?_) (fun c_28 => ?_)
          · exact c_wk hA hns hns8 ha hac hu hu12 ⟨fun q => hlt q.2, hg⟩ hR2 hb2 h19 h15
          · refine ev_st dX12_walk_31 rfl rfl ?_
            refine ev_iconst (v := 2) dX12_walk_32 (by decide) ?_
            refine ev_st dX12_walk_33 rfl rfl ?_
            refine ev_imulN (a := 2) (b := b) (c := 2 * b) dX12_walk_34 rfl rfl rfl ?_
            refine ev_call dX12_walk_35 rfl rfl mr_12_307 rfl rfl rfl (c_readAct60 (hR2.fine hf) hlt) ?_
            rintro _ _ ⟨rfl, I3, rfl, hx3, hR3⟩
            show Ev lyM (d + 96) hX12_walk 38 [some (.ref 0), some (.int (nI b)), z2] [] (I3, J, R2) _
            refine ev_iincN (a := b) (b := b + 1) (L' := [some (.ref 0), some (.int (nI (b + 1))), z2]) dX12_walk_38 rfl (nI_1 _) rfl ?_
            refine ev_goto (t := 13) dX12_walk_41 (by decide) ?_
            refine (c_wkF hR3 (hb2.r hx3) h19 rfl).imp ?_
            intro r M' h
            have e9 : sFin N (aS t (min N 60) b) = (false, (aS t (min N 60) b).2) := by rw [sFin, if_pos hf, if_pos (by omega)]
            exact ⟨b, ⟨fun q => hlt q.2, hg⟩, by rw [e9, if_neg (by simp)]; exact h⟩
  show Ev lyM (d + 96) hX12_walk 0 [some (.ref 0), none, none] [] (I, J, R) _
  refine ev_st dX12_walk_0 rfl rfl ?_
  refine ev_iconst (v := 0) dX12_walk_1 (by decide) ?_
  refine ev_putI dX12_walk_2 fr_12_89 rfl rfl ?_
  refine ev_st dX12_walk_5 rfl rfl ?_
  refine ev_bipush (v := 60) dX12_walk_6 (by decide) ?_
  refine ev_call dX12_walk_8 rfl rfl mr_12_153 rfl rfl rfl (c_beginText (I := ti_wr I 0 12 0) (T := 60) hT0 (by decide) rfl) ?_
  rintro _ _ ⟨rfl, I2, R2, rfl, hb2, h19, hR2⟩
  show Ev lyM (d + 96) hX12_walk 11 [some (.ref 0), none, none] [] (I2, J, R2) _
  refine ev_iconst (v := 0) dX12_walk_11 (by decide) ?_
  refine ev_st (L' := [some (.ref 0), some (.int 0), none]) dX12_walk_12 rfl rfl ?_
  have hb0 : bA I I2 := ⟨fun p a _ => (hb2.1 p a).trans (ti_wr_n a), fun k a b c d e f g => (hb2.2.1 k a b c d e f g).trans (wr_ne b), hb2.2.2.1, hb2.2.2.2⟩
  exact loop 62 0 _ I2 R2 (by omega) (by omega) hR2 hb0 h19 (fun _ j hj => by omega) (fun j hj => by omega)
