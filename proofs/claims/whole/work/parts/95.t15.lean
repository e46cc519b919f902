/-! texts: sayings: the model's call -/
set_option maxHeartbeats 1000000 in
theorem c_sayings1 {I : Nat → Nat → Int32} {J : Nat → Nat → Int64} {R : Nat → Nat → Value} {I2 : Nat → Nat → Int32} {R2 : Nat → Nat → Value} {t : Nat → Nat} {d N m n : Nat} {w2 : Int32} {z3 : Option Value} (hm0 : I 0 6 = nI m) (hm8 : m ≤ 8) (hR2 : mR 6 I2 R2 t (min N 76) N 76 (yF t (min N 76) (yS t (min N 76) m n (gS t (min N 76) m n)))) (hw : yEnd t (min N 76) m n) (hb : bF8 I I2) (h19 : R2 0 19 = R 0 19) (h8 : (yF t (min N 76) (yS t (min N 76) m n (gS t (min N 76) m n))).1 = true → ∀ i, i < n + 1 → I2 8 (4 * i + 0) = nI (yH t (min N 76) (gS t (min N 76) m i)) ∧ I2 8 (4 * i + 1) = b2i (yP t (min N 76) (gS t (min N 76) m i)) ∧ I2 8 (4 * i + 2) = nI (yHm t (min N 76) (gS t (min N 76) m i)) ∧ I2 8 (4 * i + 3) = yK t (min N 76) (gS t (min N 76) m i)) (hok : (sFin N (yS t (min N 76) m n (gS t (min N 76) m n))).1 = true) : Ev lyM (d + 7) hX12_sayings 77 [some (.ref 0), some (.int (nI (n + 1))), some (.int w2), z3] [] (I2, J, R2) (fun r M' => ∃ n I3 R3, yEnd t (min N 76) m n ∧ M' = (I3, J, R3) ∧ R3 0 19 = R 0 19 ∧ if (sFin N (yS t (min N 76) m n (gS t (min N 76) m n))).1 = true then r = some (.int (nI (n + 1))) ∧ (∀ p, p ≠ 0 → p ≠ 1 → p ≠ 5 → p ≠ 8 → I3 p = I p) ∧ (∀ k, k ≠ 6 → k ≠ 9 → k ≠ 12 → k ≠ 14 → k ≠ 15 → k ≠ 16 → k ≠ 17 → k ≠ 22 → k ≠ 25 → k ≠ 39 → I3 0 k = I 0 k) ∧ I3 0 9 = 0 ∧ I3 0 12 = 0 ∧ I3 0 6 = nI (m + (n + 1)) ∧ (∀ k, k < 4 * m → I3 5 k = I 5 k) ∧ (∀ i, i < n + 1 → I3 5 (4 * (m + i) + 0) = nI (yH t (min N 76) (gS t (min N 76) m i)) ∧ I3 5 (4 * (m + i) + 1) = b2i (yP t (min N 76) (gS t (min N 76) m i)) ∧ I3 5 (4 * (m + i) + 2) = nI (yHm t (min N 76) (gS t (min N 76) m i)) ∧ I3 5 (4 * (m + i) + 3) = yK t (min N 76) (gS t (min N 76) m i)) ∧ (∀ i, i < n + 1 → I3 1 (16 + (m + i)) = 0) ∧ (∀ k, (k < 16 + m ∨ 24 ≤ k) → I3 1 k = I 1 k) ∧ I3 0 25 = 0 ∧ I3 0 39 = I 0 39 + 1 else r = some (.int (-1 - nI (sFin N (yS t (min N 76) m n (gS t (min N 76) m n))).2)) ∧ bF8 I I3) := by
  have hm7 := yEnd_8 hw (sFin_f (N := N) (by rw [hok])).1
  refine ev_st dX12_sayings_77 rfl rfl ?_
  refine ev_call dX12_sayings_78 rfl rfl mr_12_156 rfl rfl rfl (c_right hR2) ?_
  rintro _ _ ⟨e1, I3, rfl, hx3, hR3⟩
  rw [yF_fin (by have h := hR2.2.2.2.2.2.1; omega)] at e1 hR3
  rw [show (sFin N (yS t (min N 76) m n (gS t (min N 76) m n))).1 = true from hok] at e1
  subst e1
  show Ev lyM (d + 7) hX12_sayings 81 [some (.ref 0), some (.int (nI (n + 1))), some (.int w2), z3] [.int 1] (I3, J, R2) _
  refine ev_if_ne (t := 91) dX12_sayings_81 (by decide) (fun _ => ?_) (fun q => absurd q (by decide))
  refine ev_iconst (v := 0) dX12_sayings_91 (by decide) ?_
  refine ev_st (L' := [some (.ref 0), some (.int (nI (n + 1))), some (.int w2), some (.int 0)]) dX12_sayings_92 rfl rfl ?_
  have hb3 := hb.r hx3
  have h06 : I3 0 6 = nI m := (hb3.k 6 rfl).trans hm0
  have K := c_cpySay (I := I3) (J := J) (R := R2) (d := d) (w2 := w2) (m := m) (q := n + 1) (by omega) h06 (4 * (n + 1) + 1) 0 (by omega) (by omega)
  rw [c5_0, va_up_id] at K
  refine K.imp ?_
  rintro r M' ⟨e1, I4, e2, g1, g5, g2, g3, g6, g7, g8, g9⟩
  refine ⟨n, I4, R2, hw, e2, h19, ?_⟩
  rw [if_pos (by rw [hok])]
  have h8' := h8 (sFin_f (N := N) (by rw [yF_fin (by have h := hR2.2.2.2.2.2.1; omega), hok])).1
  refine ⟨e1, fun p a b c d => (g1 p a b c).trans (hb3.1 p a d), fun k k6 k9 k12 k14 k15 k16 k17 k22 k25 k39 => (g2 k k6 k25 k39).trans (hb3.2.1 k k9 k12 k14 k15 k16 k17 k22), (g2 9 (by decide) (by decide) (by decide)).trans hb3.2.2.1, (g2 12 (by decide) (by decide) (by decide)).trans hb3.2.2.2, g3, fun k hk => ?_, fun i hi => ?_, g6, fun k hk => (g7 k hk).trans (by rw [hb3.p 1 rfl]), g8, by rw [g9, hb3.k 39 rfl]⟩
  · rw [g5, c5, if_neg (by omega), hb3.p 5 rfl]
  · have e : ∀ j, j < 4 → I4 5 (4 * (m + i) + j) = I2 8 (4 * i + j) := fun j hj => by rw [g5, c5, if_pos (by omega), hx3.p 8 rfl, show 4 * (m + i) + j - 4 * m = 4 * i + j by omega]
    have q := h8' i hi
    exact ⟨(e 0 (by omega)).trans q.1, (e 1 (by omega)).trans q.2.1, (e 2 (by omega)).trans q.2.2.1, (e 3 (by omega)).trans q.2.2.2⟩
theorem bF8.k8 {I I2 I3 : Nat → Nat → Int32} {k : Nat} (h : bF8 I I2) (g : k8F k I2 I3) : bF8 I I3 := ⟨fun p a b => (g.1 p a b).trans (h.1 p a b), fun k a b c d e f g' => (g.2.1 k e f).trans (h.2.1 k a b c d e f g'), (g.2.1 9 (by decide) (by decide)).trans h.2.2.1, (g.2.1 12 (by decide) (by decide)).trans h.2.2.2⟩
set_option maxHeartbeats 2000000 in
theorem c_sayings {I : Nat → Nat → Int32} {J : Nat → Nat → Int64} {R : Nat → Nat → Value} {t : Nat → Nat} {d N m : Nat} (hT : mT I t N) (hN : 0 < N) (hm0 : I 0 6 = nI m) (hm8 : m ≤ 8) : Cal lyM (d + 7) hX12_sayings 4 [.ref 0] (I, J, R) (fun r M' => ∃ n I3 R3, yEnd t (min N 76) m n ∧ M' = (I3, J, R3) ∧ R3 0 19 = R 0 19 ∧ if (sFin N (yS t (min N 76) m n (gS t (min N 76) m n))).1 = true then r = some (.int (nI (n + 1))) ∧ (∀ p, p ≠ 0 → p ≠ 1 → p ≠ 5 → p ≠ 8 → I3 p = I p) ∧ (∀ k, k ≠ 6 → k ≠ 9 → k ≠ 12 → k ≠ 14 → k ≠ 15 → k ≠ 16 → k ≠ 17 → k ≠ 22 → k ≠ 25 → k ≠ 39 → I3 0 k = I 0 k) ∧ I3 0 9 = 0 ∧ I3 0 12 = 0 ∧ I3 0 6 = nI (m + (n + 1)) ∧ (∀ k, k < 4 * m → I3 5 k = I 5 k) ∧ (∀ i, i < n + 1 → I3 5 (4 * (m + i) + 0) = nI (yH t (min N 76) (gS t (min N 76) m i)) ∧ I3 5 (4 * (m + i) + 1) = b2i (yP t (min N 76) (gS t (min N 76) m i)) ∧ I3 5 (4 * (m + i) + 2) = nI (yHm t (min N 76) (gS t (min N 76) m i)) ∧ I3 5 (4 * (m + i) + 3) = yK t (min N 76) (gS t (min N 76) m i)) ∧ (∀ i, i < n + 1 → I3 1 (16 + (m + i)) = 0) ∧ (∀ k, (k < 16 + m ∨ 24 ≤ k) → I3 1 k = I 1 k) ∧ I3 0 25 = 0 ∧ I3 0 39 = I 0 39 + 1 else r = some (.int (-1 - nI (sFin N (yS t (min N 76) m n (gS t (min N 76) m n))).2)) ∧ bF8 I I3) := by
  have hT0 : mT (ti_wr I 0 12 0) t N := ⟨hT.1, hT.2.1, hT.2.2⟩
  have hN80 := hT.2.1
  show Ev lyM (d + 7) hX12_sayings 0 [some (.ref 0), none, none, none] [] (I, J, R) _
  refine ev_st dX12_sayings_0 rfl rfl ?_
  refine ev_iconst (v := 0) dX12_sayings_1 (by decide) ?_
  refine ev_putI dX12_sayings_2 fr_12_89 rfl rfl ?_
  refine ev_st dX12_sayings_5 rfl rfl ?_
  refine ev_bipush (v := 76) dX12_sayings_6 (by decide) ?_
  refine ev_call dX12_sayings_8 rfl rfl mr_12_153 rfl rfl rfl (c_beginText (I := ti_wr I 0 12 0) (T := 76) hT0 (by decide) rfl) ?_
  rintro _ _ ⟨rfl, I2, R2, rfl, hb2, h19, hR2⟩
  have hb0 : bF8 I I2 := ⟨fun p a b => (hb2.1 p a).trans (ti_wr_n a), fun k a b c d e f g => (hb2.2.1 k a b c d e f g).trans (wr_ne b), hb2.2.2.1, hb2.2.2.2⟩
  have loop : ∀ (k b : Nat) (w2 : Int32) (z3 : Option Value) (I2 : Nat → Nat → Int32), b ≤ 9 → 9 - b < k → mR 6 I2 R2 t (min N 76) N 76 (gS t (min N 76) m b) → bF8 I I2 → (∀ i, i < b → I2 8 (4 * i + 0) = nI (yH t (min N 76) (gS t (min N 76) m i)) ∧ I2 8 (4 * i + 1) = b2i (yP t (min N 76) (gS t (min N 76) m i)) ∧ I2 8 (4 * i + 2) = nI (yHm t (min N 76) (gS t (min N 76) m i)) ∧ I2 8 (4 * i + 3) = yK t (min N 76) (gS t (min N 76) m i)) → (∀ j, j < b → more t (min N 76) (yS t (min N 76) m j (gS t (min N 76) m j))) → (gS t (min N 76) m b).1 = true → Ev lyM (d + 7) hX12_sayings 35 [some (.ref 0), some (.int (nI b)), some (.int w2), z3] [] (I2, J, R2) (fun r M' => ∃ n I3 R3, yEnd t (min N 76) m n ∧ M' = (I3, J, R3) ∧ R3 0 19 = R 0 19 ∧ if (sFin N (yS t (min N 76) m n (gS t (min N 76) m n))).1 = true then r = some (.int (nI (n + 1))) ∧ (∀ p, p ≠ 0 → p ≠ 1 → p ≠ 5 → p ≠ 8 → I3 p = I p) ∧ (∀ k, k ≠ 6 → k ≠ 9 → k ≠ 12 → k ≠ 14 → k ≠ 15 → k ≠ 16 → k ≠ 17 → k ≠ 22 → k ≠ 25 → k ≠ 39 → I3 0 k = I 0 k) ∧ I3 0 9 = 0 ∧ I3 0 12 = 0 ∧ I3 0 6 = nI (m + (n + 1)) ∧ (∀ k, k < 4 * m → I3 5 k = I 5 k) ∧ (∀ i, i < n + 1 → I3 5 (4 * (m + i) + 0) = nI (yH t (min N 76) (gS t (min N 76) m i)) ∧ I3 5 (4 * (m + i) + 1) = b2i (yP t (min N 76) (gS t (min N 76) m i)) ∧ I3 5 (4 * (m + i) + 2) = nI (yHm t (min N 76) (gS t (min N 76) m i)) ∧ I3 5 (4 * (m + i) + 3) = yK t (min N 76) (gS t (min N 76) m i)) ∧ (∀ i, i < n + 1 → I3 1 (16 + (m + i)) = 0) ∧ (∀ k, (k < 16 + m ∨ 24 ≤ k) → I3 1 k = I 1 k) ∧ I3 0 25 = 0 ∧ I3 0 39 = I 0 39 + 1 else r = some (.int (-1 - nI (sFin N (yS t (min N 76) m n (gS t (min N 76) m n))).2)) ∧ bF8 I I3) := by
    intro k
    induction k with
    | zero => intro b w2 z3 I2 h1 h2; omega
    | succ k ih =>
      intro b w2 z3 I2 hb hk hR2 hb2 h8 hmo hf
      have hb8 : b ≤ 8 := by by_cases q : b = 0; (omega); (have := ymore_m (hmo (b - 1) (by omega)); omega)
      have hmb : m + b ≤ 8 := by by_cases q : b = 0; (omega); (have := ymore_m (hmo (b - 1) (by omega)); omega)
      refine ev_st dX12_sayings_35 rfl rfl ?_
      refine ev_getI (v := nI m) dX12_sayings_36 fr_12_102 rfl rfl ((hb2.k 6 rfl).trans hm0) ?_
      refine ev_st dX12_sayings_39 rfl rfl ?_
      refine ev_iaddN (a := m) (b := b) (c := m + b) dX12_sayings_40 rfl rfl rfl ?_
      refine ev_bipush (v := 8) dX12_sayings_41 (by decide) ?_
      refine ev_ic_neN (t := 57) (a := m + b) (b := 8) dX12_sayings_43 (by decide) rfl rfl (by omega) (by omega) (fun c_43 => ?_) (fun c_43 => ?_)
      · refine ev_st dX12_sayings_57 rfl rfl ?_
        refine ev_iconst (v := 4) dX12_sayings_58 (by decide) ?_
        refine ev_st dX12_sayings_59 rfl rfl ?_
        refine ev_imulN (a := 4) (b := b) (c := 4 * b) dX12_sayings_60 rfl rfl rfl ?_
        refine ev_call dX12_sayings_61 rfl rfl mr_12_173 rfl rfl rfl (c_readSaying (k := 4 * b) hR2 (by omega)) ?_
        rintro _ _ ⟨rfl, I5, rfl, hx5, v0, v1, v2, v3, hR5⟩
        show Ev lyM (d + 7) hX12_sayings 64 [some (.ref 0), some (.int (nI b)), some (.int w2), z3] [] (I5, J, R2) _
        refine ev_iincN (a := b) (b := b + 1) (L' := [some (.ref 0), some (.int (nI (b + 1))), some (.int w2), z3]) dX12_sayings_64 rfl (nI_1 _) rfl ?_
        refine ev_st dX12_sayings_67 rfl rfl ?_
        refine ev_bipush (v := 59) dX12_sayings_68 (by decide) ?_
        refine ev_call dX12_sayings_70 rfl rfl mr_12_135 rfl rfl rfl (c_passes (s := yF t (min N 76) (yS t (min N 76) m b (gS t (min N 76) m b))) (c := 59) (by rw [yS, if_neg (by omega)]; exact hR5) (by decide)) ?_
        rintro _ _ ⟨rfl, I6, rfl, hx6, hR6⟩
        show Ev lyM (d + 7) hX12_sayings 73 [some (.ref 0), some (.int (nI (b + 1))), some (.int w2), z3] [.int (if pk t (min N 76) (yF t (min N 76) (yS t (min N 76) m b (gS t (min N 76) m b))) = nI 59 then 1 else 0)] (I6, J, R2) _
        refine ev_st (L' := [some (.ref 0), some (.int (nI (b + 1))), some (.int (if pk t (min N 76) (yF t (min N 76) (yS t (min N 76) m b (gS t (min N 76) m b))) = nI 59 then 1 else 0)), z3]) dX12_sayings_73 rfl rfl ?_
        refine ev_goto (t := 24) dX12_sayings_74 (by decide) ?_
        refine ev_st dX12_sayings_24 rfl rfl ?_
        refine ev_if_eq (t := 77) (x := if pk t (min N 76) (yF t (min N 76) (yS t (min N 76) m b (gS t (min N 76) m b))) = nI 59 then 1 else 0) dX12_sayings_25 (by decide) (fun c_25 => ?_) (fun c_25 => ?_)
        · have hnm : ¬ more t (min N 76) (yS t (min N 76) m b (gS t (min N 76) m b)) := fun q => if01n c_25 ((yF_more hR2.t).mpr q)
          have hw9 : yEnd t (min N 76) m b := ⟨hnm, hmo⟩
          rw [sPass, if_neg (if01n c_25)] at hR6
          have h8n : ∀ i, i < b + 1 → I6 8 (4 * i + 0) = nI (yH t (min N 76) (gS t (min N 76) m i)) ∧ I6 8 (4 * i + 1) = b2i (yP t (min N 76) (gS t (min N 76) m i)) ∧ I6 8 (4 * i + 2) = nI (yHm t (min N 76) (gS t (min N 76) m i)) ∧ I6 8 (4 * i + 3) = yK t (min N 76) (gS t (min N 76) m i) := (fun i hi => by by_cases e : i = b; (subst e; rw [hx6.p 8 rfl]; exact ⟨v0, v1, v2, v3⟩); (have q := h8 i (by omega); rw [hx6.p 8 rfl]; exact ⟨by rw [hx5.2.2 _ (by omega)]; exact q.1, by rw [hx5.2.2 _ (by omega)]; exact q.2.1, by rw [hx5.2.2 _ (by omega)]; exact q.2.2.1, by rw [hx5.2.2 _ (by omega)]; exact q.2.2.2⟩))
          by_cases hok : (sFin N (yS t (min N 76) m b (gS t (min N 76) m b))).1 = true
          · exact c_sayings1 hm0 hm8 hR6 hw9 ((hb2.k8 hx5).r hx6) h19 (fun _ => h8n) hok
          · exact c_sayings0 hm0 hm8 hR6 hw9 ((hb2.k8 hx5).r hx6) h19 (fun _ => h8n) (by simpa using hok)
        · refine ev_st dX12_sayings_28 rfl rfl ?_
          refine ev_call dX12_sayings_29 rfl rfl mr_12_127 rfl rfl rfl (c_fineF (a := (yF t (min N 76) (yS t (min N 76) m b (gS t (min N 76) m b))).2 + 1) (by rw [sPass, if_pos (if01 c_25)] at hR6; exact hR6)) ?_
          rintro _ _ ⟨rfl, rfl⟩
          show Ev lyM (d + 7) hX12_sayings 32 [some (.ref 0), some (.int (nI (b + 1))), some (.int (if pk t (min N 76) (yF t (min N 76) (yS t (min N 76) m b (gS t (min N 76) m b))) = nI 59 then 1 else 0)), z3] [.int 1] (I6, J, R2) _
          refine ev_if_eq (t := 77) dX12_sayings_32 (by decide) (fun q => absurd q (by decide)) (fun _ => ?_)
          have h8n : ∀ i, i < b + 1 → I6 8 (4 * i + 0) = nI (yH t (min N 76) (gS t (min N 76) m i)) ∧ I6 8 (4 * i + 1) = b2i (yP t (min N 76) (gS t (min N 76) m i)) ∧ I6 8 (4 * i + 2) = nI (yHm t (min N 76) (gS t (min N 76) m i)) ∧ I6 8 (4 * i + 3) = yK t (min N 76) (gS t (min N 76) m i) := (fun i hi => by by_cases e : i = b; (subst e; rw [hx6.p 8 rfl]; exact ⟨v0, v1, v2, v3⟩); (have q := h8 i (by omega); rw [hx6.p 8 rfl]; exact ⟨by rw [hx5.2.2 _ (by omega)]; exact q.1, by rw [hx5.2.2 _ (by omega)]; exact q.2.1, by rw [hx5.2.2 _ (by omega)]; exact q.2.2.1, by rw [hx5.2.2 _ (by omega)]; exact q.2.2.2⟩))
          rw [yF_pass ((yF_more hR2.t).mp (if01 c_25)) hR2.t] at hR6
          exact ih _ _ _ _ (by omega) (by omega) hR6 ((hb2.k8 hx5).r hx6) h8n (all_b hmo ((yF_more hR2.t).mp (if01 c_25))) (by show (sPass t (min N 76) 59 (yS t (min N 76) m b (gS t (min N 76) m b))).1 = true; rw [sPass, if_pos ((yF_more hR2.t).mp (if01 c_25))])
      · refine ev_st dX12_sayings_46 rfl rfl ?_
        refine ev_st dX12_sayings_47 rfl rfl ?_
        refine ev_getI (v := nI ((gS t (min N 76) m b).2)) dX12_sayings_48 fr_12_117 rfl rfl (by have h := hR2.2.2.2.2.2.2.2.2; rw [if_pos hf] at h; exact h.2) ?_
        refine ev_call dX12_sayings_51 rfl rfl mr_12_139 rfl rfl rfl (c_fault hR2 (e := (gS t (min N 76) m b).2) hR2.2.2.2.2.2.2.2.1) ?_
        rintro _ _ ⟨rfl, I5, rfl, hx5, hR5⟩
        rw [if_pos hf] at hR5
        show Ev lyM (d + 7) hX12_sayings 54 [some (.ref 0), some (.int (nI b)), some (.int w2), z3] [] (I5, J, R2) _
        refine ev_goto (t := 64) dX12_sayings_54 (by decide) ?_
        refine ev_iincN (a := b) (b := b + 1) (L' := [some (.ref 0), some (.int (nI (b + 1))), some (.int w2), z3]) dX12_sayings_64 rfl (nI_1 _) rfl ?_
        refine ev_st dX12_sayings_67 rfl rfl ?_
        refine ev_bipush (v := 59) dX12_sayings_68 (by decide) ?_
        refine ev_call dX12_sayings_70 rfl rfl mr_12_135 rfl rfl rfl (c_passes (s := yF t (min N 76) (yS t (min N 76) m b (gS t (min N 76) m b))) (c := 59) (by rw [yS, if_pos (by omega), yF_n (by simp)]; exact hR5) (by decide)) ?_
        rintro _ _ ⟨rfl, I6, rfl, hx6, hR6⟩
        show Ev lyM (d + 7) hX12_sayings 73 [some (.ref 0), some (.int (nI (b + 1))), some (.int w2), z3] [.int (if pk t (min N 76) (yF t (min N 76) (yS t (min N 76) m b (gS t (min N 76) m b))) = nI 59 then 1 else 0)] (I6, J, R2) _
        refine ev_st (L' := [some (.ref 0), some (.int (nI (b + 1))), some (.int (if pk t (min N 76) (yF t (min N 76) (yS t (min N 76) m b (gS t (min N 76) m b))) = nI 59 then 1 else 0)), z3]) dX12_sayings_73 rfl rfl ?_
        refine ev_goto (t := 24) dX12_sayings_74 (by decide) ?_
        refine ev_st dX12_sayings_24 rfl rfl ?_
        refine ev_if_eq (t := 77) (x := if pk t (min N 76) (yF t (min N 76) (yS t (min N 76) m b (gS t (min N 76) m b))) = nI 59 then 1 else 0) dX12_sayings_25 (by decide) (fun c_25 => ?_) (fun c_25 => ?_)
        · have hnm : ¬ more t (min N 76) (yS t (min N 76) m b (gS t (min N 76) m b)) := fun q => if01n c_25 ((yF_more hR2.t).mpr q)
          have hw9 : yEnd t (min N 76) m b := ⟨hnm, hmo⟩
          rw [sPass, if_neg (if01n c_25)] at hR6
          by_cases hok : (sFin N (yS t (min N 76) m b (gS t (min N 76) m b))).1 = true
          · exact absurd (sFin_f hok).1 (by rw [yS, if_pos (by omega)]; simp)
          · exact c_sayings0 hm0 hm8 hR6 hw9 ((hb2.r hx5).r hx6) h19 (fun q => absurd q (by rw [yS, if_pos (by omega), yF_n (by simp)]; simp)) (by simpa using hok)
        · refine ev_st dX12_sayings_28 rfl rfl ?_
          refine ev_call dX12_sayings_29 rfl rfl mr_12_127 rfl rfl rfl (c_fineF (a := (yF t (min N 76) (yS t (min N 76) m b (gS t (min N 76) m b))).2 + 1) (by rw [sPass, if_pos (if01 c_25)] at hR6; exact hR6)) ?_
          rintro _ _ ⟨rfl, rfl⟩
          show Ev lyM (d + 7) hX12_sayings 32 [some (.ref 0), some (.int (nI (b + 1))), some (.int (if pk t (min N 76) (yF t (min N 76) (yS t (min N 76) m b (gS t (min N 76) m b))) = nI 59 then 1 else 0)), z3] [.int 1] (I6, J, R2) _
          refine ev_if_eq (t := 77) dX12_sayings_32 (by decide) (fun q => absurd q (by decide)) (fun _ => ?_)
          exact absurd (ymore_m (m := m) (i := b) ((yF_more hR2.t).mp (if01 c_25))) (by omega)
  show Ev lyM (d + 7) hX12_sayings 11 [some (.ref 0), none, none, none] [] (I2, J, R2) _
  refine ev_st dX12_sayings_11 rfl rfl ?_
  refine ev_getI (v := nI N) dX12_sayings_12 fr_12_111 rfl rfl hR2.2.2.1 ?_
  refine ev_if_neN (t := 20) (a := N) dX12_sayings_15 (by decide) rfl (by omega) (fun c_15 => ?_) (fun c_15 => ?_)
  · refine ev_iconst (v := 0) dX12_sayings_20 (by decide) ?_
    refine ev_st (L' := [some (.ref 0), some (.int 0), none, none]) dX12_sayings_21 rfl rfl ?_
    refine ev_iconst (v := 1) dX12_sayings_22 (by decide) ?_
    refine ev_st (L' := [some (.ref 0), some (.int 0), some (.int 1), none]) dX12_sayings_23 rfl rfl ?_
    refine ev_st dX12_sayings_24 rfl rfl ?_
    refine ev_if_eq (t := 77) dX12_sayings_25 (by decide) (fun q => absurd q (by decide)) (fun _ => ?_)
    refine ev_st dX12_sayings_28 rfl rfl ?_
    refine ev_call dX12_sayings_29 rfl rfl mr_12_127 rfl rfl rfl (c_fineF hR2) ?_
    rintro _ _ ⟨rfl, rfl⟩
    show Ev lyM (d + 7) hX12_sayings 32 [some (.ref 0), some (.int 0), some (.int 1), none] [.int 1] (I2, J, R2) _
    refine ev_if_eq (t := 77) dX12_sayings_32 (by decide) (fun q => absurd q (by decide)) (fun _ => ?_)
    exact loop 10 0 _ _ I2 (by omega) (by omega) hR2 hb0 (fun i hi => by omega) (fun j hj => by omega) rfl
  · omega
