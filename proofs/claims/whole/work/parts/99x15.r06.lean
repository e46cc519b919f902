/-! calls by both, five: kept ones, undo, sheet -/
theorem kb_or {X : Int32} {j i : Nat} (hj : j < 8) (hi : i < 8) : k_b (X ||| ((1 : Int32) <<< (nI j &&& 31))) (nI i) = if i = j then 1 else k_b X (nI i) := by
  rw [kb_bt _ (by omega), kb_bt _ (by omega), b_or, sh1_bt hj (by omega)]
  by_cases e : i = j
  · simp [e]
  · simp [e]
theorem in_01 {y : Int32} (h : m_in y 0 1 = 0) : y < 0 ∨ ¬ y < 2 := by
  unfold m_in at h
  split at h
  · next g => exact Or.inl g
  · split at h
    · next g => exact Or.inr (fun q => by
        have h1 := Int32.lt_iff_toInt_lt.mp g
        have h2 := Int32.lt_iff_toInt_lt.mp q
        have e1 : (1 : Int32).toInt = 1 := by decide
        have e2 : (2 : Int32).toInt = 2 := by decide
        omega)
    · exact absurd h (by decide)
theorem lay0 {f g : Nat → Int32} {j : Nat} (h : j < 29) : m_lay f g 0 29 j = f j := if_pos ⟨Nat.zero_le _, by omega⟩
theorem b_keep {n c ns a p q z rs u x m no nc N ce k : Nat} {rv : RV} {t : Nat → Nat} {I K : Nat → Nat → Int32} {J L : Nat → Nat → Int64} {R S : Nat → Nat → Value} (h : RB n c ns a p q z rs u x m no nc N ce k rv t I J R K L S) (y : Int32) : Bo hX11_keep 2 hX12_keep 2 [.int y] k I J R K L S := by
  have hst := h.1.1
  have hn8 := hst.2.1
  have hc12 := hst.2.2.2.1
  have hns8 := hst.2.2.2.2.2.2.1
  have hkn := h.1.2.1
  have hkc := h.1.2.2.1
  have hkns := h.1.2.2.2.1
  have sr := h.2.1.1
  have ws := h.2.1.2
  have hp := h.2.2.1.1
  have hz := h.2.2.1.2.2.2.2.2.2.2.2
  have ha := ws.1
  have hac := ws.2.1
  have ha12 : a ≤ 12 := Nat.le_trans hac hc12
  have hcy := sr.cy
  have ha39 : I 39 1 = nI a := sr.1.trans ws.1
  have hrow := h.2.2.2.2.2.2.2.1
  rcases in01 y 0 1 with hi | hi
  · exact Bo.no h (k_keep (d := 0) (k_keepUnder0 (in_01 hi)) (Or.inl rfl)) (c_keep0 (d := 0) hi) (by omega) (by omega)
  · obtain ⟨j, hj, rfl⟩ := in_n (n := 1) (by decide) hi
    refine Bo.of (k_keep (d := 0) (k_keepUnder1 (by omega) (mk_6 h)) (Or.inr rfl)) (c_keep1 (d := 0) (by omega)) (by omega) (by omega) ?_
    rintro _ _ rfl rfl
    obtain ⟨h1, h2, h3, h4, h5, h6, h7, h8, h9, h10⟩ := h
    have hj2 : j = 0 ∨ j = 1 := by omega
    have hC0 : ∀ p, p ∉ [15, 69, 70, 71, 72] → (ti_wr (k_bm I (39 + 2 * (j + 15)) (39 + 2 * (j + 15) + 1) 39 40) 15 3 (I 15 3 ||| ((1 : Int32) <<< (nI j &&& 31)))) p = I p := fun p hp => by
      have a1 := ne_of_nin hp (by decide : 15 ∈ _)
      have a2 := ne_of_nin hp (by decide : 69 ∈ _)
      have a3 := ne_of_nin hp (by decide : 70 ∈ _)
      have a4 := ne_of_nin hp (by decide : 71 ∈ _)
      have a5 := ne_of_nin hp (by decide : 72 ∈ _)
      rw [ti_wr_n a1, k_bm_n (by omega) (by omega)]
    have h15 : ∀ k, k ≠ 3 → (ti_wr (k_bm I (39 + 2 * (j + 15)) (39 + 2 * (j + 15) + 1) 39 40) 15 3 (I 15 3 ||| ((1 : Int32) <<< (nI j &&& 31)))) 15 k = I 15 k := fun k hk => by
      rw [wr_ne hk, k_bm_n (by omega) (by omega)]
    have hC : ∀ p, p ∉ [15, 69, 70, 71, 72] → (ti_wr (k_bm I (39 + 2 * (j + 15)) (39 + 2 * (j + 15) + 1) 39 40) 15 3 (I 15 3 ||| ((1 : Int32) <<< (nI j &&& 31)))) p = I p := hC0
    have hP : ∀ p, p ∉ [0, 22, 23, 24] → (va_up (ti_wr (ti_wr (ti_wr K 0 12 0) 23 j 1) 24 j (K 0 39)) 22 (m_lay (K 1) (K 22) (29 * j) 29)) p = K p := fun p hp => by
      rw [va_up_n (ne_of_nin hp (by decide)), ti_wr_n (ne_of_nin hp (by decide)), ti_wr_n (ne_of_nin hp (by decide)), ti_wr_n (ne_of_nin hp (by decide))]
    have hF : ∀ k, k ∉ [12] → (va_up (ti_wr (ti_wr (ti_wr K 0 12 0) 23 j 1) 24 j (K 0 39)) 22 (m_lay (K 1) (K 22) (29 * j) 29)) 0 k = K 0 k := fun k hp => by
      rw [va_up_n (by decide), ti_wr_n (by decide), ti_wr_n (by decide), wr_ne (ne_of_nin hp (by decide))]
    refine ⟨n, c, ns, a, p, q, z, rs, u, x, m, no, nc, N, ce, rv, t, ?_, ?_, ?_, ?_, ?_, ?_, ?_, ?_, ?_, ?_⟩
    · exact h1.L hC hP hF (by decide) (by decide) (by decide)
    · exact h2.L hC hP (by decide) (by decide)
    · exact h3.L hC hP hF rfl (by decide) (by decide) (by decide)
    · obtain ⟨b1, b2, b3, b4, b5, b6⟩ := h4
      refine ⟨(h15 5 (by decide)).trans b1, b2, (hF 25 (by decide)).trans b3, (h15 4 (by decide)).trans b4, b5, fun i hi => ?_⟩
      have g1 := @rp_in x u i
      have g2 : ∀ p ∈ LH, p ≠ 15 → p ∉ [15, 69, 70, 71, 72] := by decide
      have n1 : rp x u i ≠ 15 ∧ rp x u i + 1 ≠ 15 := by unfold rp; omega
      show ∃ ai, SR ((ti_wr (k_bm I (39 + 2 * (j + 15)) (39 + 2 * (j + 15) + 1) 39 40) 15 3 (I 15 3 ||| ((1 : Int32) <<< (nI j &&& 31)))) (rp x u i)) ((ti_wr (k_bm I (39 + 2 * (j + 15)) (39 + 2 * (j + 15) + 1) 39 40) 15 3 (I 15 3 ||| ((1 : Int32) <<< (nI j &&& 31)))) (rp x u i + 1)) (fun j_1 => (va_up (ti_wr (ti_wr (ti_wr K 0 12 0) 23 j 1) 24 j (K 0 39)) 22 (m_lay (K 1) (K 22) (29 * j) 29)) 12 (29 * i + j_1)) n ns ∧ WS (fun j_1 => (va_up (ti_wr (ti_wr (ti_wr K 0 12 0) 23 j 1) 24 j (K 0 39)) 22 (m_lay (K 1) (K 22) (29 * j) 29)) 12 (29 * i + j_1)) n ns c ai
      rw [hC _ (g2 _ g1.1 n1.1), hC _ (g2 _ g1.2 n1.2), hP 12 (by decide)]
      exact b6 i hi
    · intro i hi
      show (k_b ((ti_wr (k_bm I (39 + 2 * (j + 15)) (39 + 2 * (j + 15) + 1) 39 40) 15 3 (I 15 3 ||| ((1 : Int32) <<< (nI j &&& 31)))) 15 3) (nI i) = 0 ∧ ¬ (¬ (va_up (ti_wr (ti_wr (ti_wr K 0 12 0) 23 j 1) 24 j (K 0 39)) 22 (m_lay (K 1) (K 22) (29 * j) 29)) 23 i = 0 ∧ (va_up (ti_wr (ti_wr (ti_wr K 0 12 0) 23 j 1) 24 j (K 0 39)) 22 (m_lay (K 1) (K 22) (29 * j) 29)) 24 i = (va_up (ti_wr (ti_wr (ti_wr K 0 12 0) 23 j 1) 24 j (K 0 39)) 22 (m_lay (K 1) (K 22) (29 * j) 29)) 0 39)) ∨ (k_b ((ti_wr (k_bm I (39 + 2 * (j + 15)) (39 + 2 * (j + 15) + 1) 39 40) 15 3 (I 15 3 ||| ((1 : Int32) <<< (nI j &&& 31)))) 15 3) (nI i) = 1 ∧ (¬ (va_up (ti_wr (ti_wr (ti_wr K 0 12 0) 23 j 1) 24 j (K 0 39)) 22 (m_lay (K 1) (K 22) (29 * j) 29)) 23 i = 0 ∧ (va_up (ti_wr (ti_wr (ti_wr K 0 12 0) 23 j 1) 24 j (K 0 39)) 22 (m_lay (K 1) (K 22) (29 * j) 29)) 24 i = (va_up (ti_wr (ti_wr (ti_wr K 0 12 0) 23 j 1) 24 j (K 0 39)) 22 (m_lay (K 1) (K 22) (29 * j) 29)) 0 39) ∧ ∃ ai, SR ((ti_wr (k_bm I (39 + 2 * (j + 15)) (39 + 2 * (j + 15) + 1) 39 40) 15 3 (I 15 3 ||| ((1 : Int32) <<< (nI j &&& 31)))) (39 + 2 * (i + 15))) ((ti_wr (k_bm I (39 + 2 * (j + 15)) (39 + 2 * (j + 15) + 1) 39 40) 15 3 (I 15 3 ||| ((1 : Int32) <<< (nI j &&& 31)))) (39 + 2 * (i + 15) + 1)) (fun j_1 => (va_up (ti_wr (ti_wr (ti_wr K 0 12 0) 23 j 1) 24 j (K 0 39)) 22 (m_lay (K 1) (K 22) (29 * j) 29)) 22 (29 * i + j_1)) n ns ∧ WS (fun j_1 => (va_up (ti_wr (ti_wr (ti_wr K 0 12 0) 23 j 1) 24 j (K 0 39)) 22 (m_lay (K 1) (K 22) (29 * j) 29)) 22 (29 * i + j_1)) n ns c ai)
      rw [ti_wr_at, hF 39 (by decide), va_up_n (q := 22) (p := 23) (by decide), ti_wr_n (q := 23) (p := 24) (by decide), va_up_n (q := 22) (p := 24) (by decide), va_up_q, kb_or (by omega) (by omega)]
      by_cases e : i = j
      · subst e
        right
        rw [if_pos rfl, ti_wr_at, ti_wr_at, ti_wr_n (by omega), ti_wr_n (by omega)]
        have er : ∀ l, l < 29 → m_lay (K 1) (K 22) (29 * i) 29 (29 * i + l) = K 1 l := fun l hl => lay_in hl
        refine ⟨rfl, ⟨by decide, rfl⟩, a, ?_, ws.ext hn8 hns8 er⟩
        exact (sr.fx hn8 (fun k k1 k7 => k_bm_p k k1 k7) (fun b hb => k_bm_t (by omega) hb)).ext hn8 hns8 er
      · rw [if_neg e, wr_ne e, wr_ne e, ti_wr_n (q := 23) (p := 0) (by decide), ti_wr_n (q := 24) (p := 23) (by decide), ti_wr_n (q := 24) (p := 0) (by decide), ti_wr_n (q := 39 + 2 * (i + 15)) (p := 15) (by omega), ti_wr_n (q := 39 + 2 * (i + 15) + 1) (p := 15) (by omega), k_bm_n (q := 39 + 2 * (i + 15)) (by omega) (by omega), k_bm_n (q := 39 + 2 * (i + 15) + 1) (by omega) (by omega)]
        have er : ∀ l, l < 29 → m_lay (K 1) (K 22) (29 * j) 29 (29 * i + l) = K 22 (29 * i + l) := fun l hl => by
          unfold m_lay
          rw [if_neg (by omega)]
        rcases h5 i hi with g | ⟨g1, g2, ai, g3, g4⟩
        · exact Or.inl g
        · exact Or.inr ⟨g1, g2, ai, g3.ext hn8 hns8 er, g4.ext hn8 hns8 er⟩
    · obtain ⟨b1, b2, b3⟩ := h6
      refine ⟨(hF 39 (by decide)).trans b1, by omega, fun i hi => ?_⟩
      show ∃ y, (va_up (ti_wr (ti_wr (ti_wr K 0 12 0) 23 j 1) 24 j (K 0 39)) 22 (m_lay (K 1) (K 22) (29 * j) 29)) 24 i = nI y ∧ y ≤ ce
      rw [va_up_n (by decide)]
      by_cases e : i = j
      · exact ⟨ce, by rw [e, ti_wr_at]; exact b1, Nat.le_refl _⟩
      · rw [wr_ne e, ti_wr_n (by decide), ti_wr_n (by decide)]
        exact b3 i hi
    · exact h7.L hC hP hF (by decide) (by decide) (by decide)
    · exact h8.L hC hF (by decide) (by decide)
    · exact h9.L hC hP hF (by decide) (by decide) (by decide)
    · exact h10.L hC hP hF (by decide) (by decide) (by decide)
theorem b_again {n c ns a p q z rs u x m no nc N ce k : Nat} {rv : RV} {t : Nat → Nat} {I K : Nat → Nat → Int32} {J L : Nat → Nat → Int64} {R S : Nat → Nat → Value} (h : RB n c ns a p q z rs u x m no nc N ce k rv t I J R K L S) (y : Int32) : Bo hX11_again 2 hX12_again 3 [.int y] k I J R K L S := by
  have hst := h.1.1
  have hn8 := hst.2.1
  have hc12 := hst.2.2.2.1
  have hns8 := hst.2.2.2.2.2.2.1
  have hkn := h.1.2.1
  have hkc := h.1.2.2.1
  have hkns := h.1.2.2.2.1
  have sr := h.2.1.1
  have ws := h.2.1.2
  have hp := h.2.2.1.1
  have hz := h.2.2.1.2.2.2.2.2.2.2.2
  have ha := ws.1
  have hac := ws.2.1
  have ha12 : a ≤ 12 := Nat.le_trans hac hc12
  have hcy := sr.cy
  have ha39 : I 39 1 = nI a := sr.1.trans ws.1
  have hrow := h.2.2.2.2.2.2.2.1
  rcases in01 y 0 1 with hi | hi
  · exact Bo.no h (k_again (d := 0) (k_bringKept0 (in_01 hi)) (Or.inl rfl)) (c_again0 (d := 0) hi) (by omega) (by omega)
  · obtain ⟨j, hj, rfl⟩ := in_n (n := 1) (by decide) hi
    rcases h.2.2.2.2.1 j (by omega) with ⟨g1, g2⟩ | ⟨g1, g2, ai, g3, g4⟩
    · exact Bo.no h (k_again (d := 0) (k_bringKeptN (by omega) g1) (Or.inl rfl)) (c_againN (d := 0) (by omega) g2) (by omega) (by omega)
    · refine Bo.of (k_again (d := 0) (k_bringKeptY (by omega) (by rw [g1]; decide) (by rw [g3.2.2.2.2.2.1]; exact g4.2.2.2.2.2.2.2.1)) (Or.inr rfl)) (c_againY (d := 0) (by omega) g2) (by omega) (by omega) ?_
      rintro _ _ rfl rfl
      obtain ⟨h1, h2, h3, h4, h5, h6, h7, h8, h9, h10⟩ := h
      have hC : ∀ p, p ∉ [15, 39, 40] → (ti_wr (k_bm I 39 40 (39 + 2 * (j + 15)) (39 + 2 * (j + 15) + 1)) 15 5 0) p = I p := fun p hp => by
        rw [ti_wr_n (ne_of_nin hp (by decide)), k_bm_n (ne_of_nin hp (by decide)) (ne_of_nin hp (by decide))]
      have hP : ∀ p, p ∉ [0, 1] → (ti_wr (va_up (ti_wr K 0 12 0) 1 (m_lay (fun i => K 22 (29 * j + i)) (K 1) 0 29)) 0 25 0) p = K p := fun p hp => by
        rw [ti_wr_n (ne_of_nin hp (by decide)), va_up_n (ne_of_nin hp (by decide)), ti_wr_n (ne_of_nin hp (by decide))]
      have hF : ∀ k, k ∉ [12, 25] → (ti_wr (va_up (ti_wr K 0 12 0) 1 (m_lay (fun i => K 22 (29 * j + i)) (K 1) 0 29)) 0 25 0) 0 k = K 0 k := fun k hp => by
        rw [wr_ne (ne_of_nin hp (by decide)), va_up_n (by decide), wr_ne (ne_of_nin hp (by decide))]
      have h15 : ∀ k, k ≠ 5 → (ti_wr (k_bm I 39 40 (39 + 2 * (j + 15)) (39 + 2 * (j + 15) + 1)) 15 5 0) 15 k = I 15 k := fun k hk => by
        rw [wr_ne hk, k_bm_n (by decide) (by decide)]
      have j25 : (ti_wr (va_up (ti_wr K 0 12 0) 1 (m_lay (fun i => K 22 (29 * j + i)) (K 1) 0 29)) 0 25 0) 0 25 = nI 0 := ti_wr_at
      have i5 : (ti_wr (k_bm I 39 40 (39 + 2 * (j + 15)) (39 + 2 * (j + 15) + 1)) 15 5 0) 15 5 = nI 0 := ti_wr_at
      refine ⟨n, c, ns, ai, p, q, z, rs, 0, x, m, no, nc, N, ce, rv, t, ?_, ?_, ?_, ?_, ?_, ?_, ?_, ?_, ?_, ?_⟩
      · exact h1.L hC hP hF (by decide) (by decide) (by decide)
      · show SR ((ti_wr (k_bm I 39 40 (39 + 2 * (j + 15)) (39 + 2 * (j + 15) + 1)) 15 5 0) 39) ((ti_wr (k_bm I 39 40 (39 + 2 * (j + 15)) (39 + 2 * (j + 15) + 1)) 15 5 0) 40) ((ti_wr (va_up (ti_wr K 0 12 0) 1 (m_lay (fun i => K 22 (29 * j + i)) (K 1) 0 29)) 0 25 0) 1) n ns ∧ WS ((ti_wr (va_up (ti_wr K 0 12 0) 1 (m_lay (fun i => K 22 (29 * j + i)) (K 1) 0 29)) 0 25 0) 1) n ns c ai
        rw [ti_wr_n (q := 39) (by decide), ti_wr_n (q := 40) (by decide), ti_wr_n (q := 1) (by decide), va_up_q]
        have er : ∀ l, l < 29 → m_lay (fun i => K 22 (29 * j + i)) (K 1) 0 29 l = K 22 (29 * j + l) := fun l hl => lay0 hl
        exact ⟨(g3.fx hn8 (fun k k1 k7 => k_bm_p k k1 k7) (fun b hb => k_bm_t (by decide) hb)).ext hn8 hns8 er, g4.ext hn8 hns8 er⟩
      · exact h3.L hC hP hF rfl (by decide) (by decide) (by decide)
      · exact ⟨i5, by omega, j25, (h15 4 (by decide)).trans h4.2.2.2.1, h4.2.2.2.2.1, fun i hi => absurd hi (Nat.not_lt_zero i)⟩
      · exact h5.cg (fun p hp hn => hC p (by revert p; decide)) (h15 3 (by decide)) (fun p hp => hP p (by revert p; decide)) (hF 39 (by decide))
      · exact h6.L hP hF (by decide) (by decide)
      · exact h7.L hC hP hF (by decide) (by decide) (by decide)
      · exact h8.L hC hF (by decide) (by decide)
      · exact h9.L hC hP hF (by decide) (by decide) (by decide)
      · exact h10.L hC hP hF (by decide) (by decide) (by decide)
theorem b_undo {n c ns a p q z rs u x m no nc N ce k : Nat} {rv : RV} {t : Nat → Nat} {I K : Nat → Nat → Int32} {J L : Nat → Nat → Int64} {R S : Nat → Nat → Value} (h : RB n c ns a p q z rs u x m no nc N ce k rv t I J R K L S)  : Bo hX11_undo 1 hX12_undo 2 [] k I J R K L S := by
  have hst := h.1.1
  have hn8 := hst.2.1
  have hc12 := hst.2.2.2.1
  have hns8 := hst.2.2.2.2.2.2.1
  have hkn := h.1.2.1
  have hkc := h.1.2.2.1
  have hkns := h.1.2.2.2.1
  have sr := h.2.1.1
  have ws := h.2.1.2
  have hp := h.2.2.1.1
  have hz := h.2.2.1.2.2.2.2.2.2.2.2
  have ha := ws.1
  have hac := ws.2.1
  have ha12 : a ≤ 12 := Nat.le_trans hac hc12
  have hcy := sr.cy
  have ha39 : I 39 1 = nI a := sr.1.trans ws.1
  have hrow := h.2.2.2.2.2.2.2.1
  obtain ⟨b1, b2, b3, b4, b5, b6⟩ := h.2.2.2.1
  by_cases hu0 : u = 0
  · exact Bo.no h (k_undo (d := 0) (k_bringBack0 (by rw [b1, hu0]; rfl))) (c_undo0 (d := 0) b3 hu0) (by omega) (by omega)
  · obtain ⟨u2, rfl⟩ : ∃ u2, u = u2 + 1 := ⟨u - 1, by omega⟩
    obtain ⟨x2, hx2⟩ : ∃ x2, x2 = (x + 11) % 12 := ⟨_, rfl⟩
    obtain ⟨ai, g3, g4⟩ := b6 u2 (by omega)
    have ep : rp x (u2 + 1) u2 = 39 + 2 * (x2 + 3) := by unfold rp; omega
    rw [ep] at g3
    have hx12 : x2 < 12 := by omega
    refine Bo.of (k_undo (d := 0) (k_bringBack1 b1 b2 b4 b5 hx2 (by rw [g3.2.2.2.2.2.1]; exact g4.2.2.2.2.2.2.2.1))) (c_undo1 (d := 0) b3 b2) (by omega) (by omega) ?_
    rintro _ _ rfl rfl
    obtain ⟨h1, h2, h3, h4, h5, h6, h7, h8, h9, h10⟩ := h
    have hC : ∀ p, p ∉ [15, 39, 40] → (k_bb I x2 u2) p = I p := fun p hp => by
      unfold k_bb
      rw [ti_wr_n (ne_of_nin hp (by decide)), k_bm_n (ne_of_nin hp (by decide)) (ne_of_nin hp (by decide)), ti_wr_n (ne_of_nin hp (by decide))]
    have hP : ∀ p, p ∉ [0, 1] → (va_up (ti_wr (ti_wr K 0 12 0) 0 25 (nI u2)) 1 (m_lay (fun j => K 12 (29 * u2 + j)) (K 1) 0 29)) p = K p := fun p hp => by
      rw [va_up_n (ne_of_nin hp (by decide)), ti_wr_n (ne_of_nin hp (by decide)), ti_wr_n (ne_of_nin hp (by decide))]
    have hF : ∀ k, k ∉ [12, 25] → (va_up (ti_wr (ti_wr K 0 12 0) 0 25 (nI u2)) 1 (m_lay (fun j => K 12 (29 * u2 + j)) (K 1) 0 29)) 0 k = K 0 k := fun k hp => by
      rw [va_up_n (by decide), wr_ne (ne_of_nin hp (by decide)), wr_ne (ne_of_nin hp (by decide))]
    have i5 : (k_bb I x2 u2) 15 5 = nI u2 := ti_wr_at
    have j25 : (va_up (ti_wr (ti_wr K 0 12 0) 0 25 (nI u2)) 1 (m_lay (fun j => K 12 (29 * u2 + j)) (K 1) 0 29)) 0 25 = nI u2 := (congrFun (va_up_n (by decide)) 25).trans ti_wr_at
    have i4 : (k_bb I x2 u2) 15 4 = nI x2 := by
      unfold k_bb
      rw [wr_ne (by decide), k_bm_n (by decide) (by decide), ti_wr_at]
    have i3 : (k_bb I x2 u2) 15 3 = I 15 3 := by
      unfold k_bb
      rw [wr_ne (by decide), k_bm_n (by decide) (by decide), wr_ne (by decide)]
    refine ⟨n, c, ns, ai, p, q, z, rs, u2, x2, m, no, nc, N, ce, rv, t, ?_, ?_, ?_, ?_, ?_, ?_, ?_, ?_, ?_, ?_⟩
    · exact h1.L hC hP hF (by decide) (by decide) (by decide)
    · show SR ((k_bb I x2 u2) 39) ((k_bb I x2 u2) 40) ((va_up (ti_wr (ti_wr K 0 12 0) 0 25 (nI u2)) 1 (m_lay (fun j => K 12 (29 * u2 + j)) (K 1) 0 29)) 1) n ns ∧ WS ((va_up (ti_wr (ti_wr K 0 12 0) 0 25 (nI u2)) 1 (m_lay (fun j => K 12 (29 * u2 + j)) (K 1) 0 29)) 1) n ns c ai
      rw [va_up_q]
      have er : ∀ l, l < 29 → m_lay (fun j => K 12 (29 * u2 + j)) (K 1) 0 29 l = K 12 (29 * u2 + l) := fun l hl => lay0 hl
      refine ⟨(g3.fx hn8 (fun k k1 k7 => ?_) (fun b hb => ?_)).ext hn8 hns8 er, g4.ext hn8 hns8 er⟩
      · unfold k_bb
        rw [ti_wr_n (by decide), k_bm_p k k1 k7, ti_wr_n (by omega)]
      · unfold k_bb
        rw [ti_wr_n (by decide), k_bm_t (by decide) hb, ti_wr_n (by omega)]
    · exact h3.L hC hP hF rfl (by decide) (by decide) (by decide)
    · refine ⟨i5, by omega, j25, i4, hx12, fun i hi => ?_⟩
      have e2 : rp x2 u2 i = rp x (u2 + 1) i := by unfold rp; omega
      have g2 : ∀ p ∈ LH, p ≠ 15 → p ∉ [15, 39, 40] := by decide
      have n1 : rp x (u2 + 1) i ≠ 15 ∧ rp x (u2 + 1) i + 1 ≠ 15 := by unfold rp; omega
      show ∃ ai, SR ((k_bb I x2 u2) (rp x2 u2 i)) ((k_bb I x2 u2) (rp x2 u2 i + 1)) (fun j_1 => (va_up (ti_wr (ti_wr K 0 12 0) 0 25 (nI u2)) 1 (m_lay (fun j => K 12 (29 * u2 + j)) (K 1) 0 29)) 12 (29 * i + j_1)) n ns ∧ WS (fun j_1 => (va_up (ti_wr (ti_wr K 0 12 0) 0 25 (nI u2)) 1 (m_lay (fun j => K 12 (29 * u2 + j)) (K 1) 0 29)) 12 (29 * i + j_1)) n ns c ai
      rw [e2, hC _ (g2 _ rp_in.1 n1.1), hC _ (g2 _ rp_in.2 n1.2), hP 12 (by decide)]
      exact b6 i (by omega)
    · exact h5.cg (fun p hp hn => hC p (by revert p; decide)) i3 (fun p hp => hP p (by revert p; decide)) (hF 39 (by decide))
    · exact h6.L hP hF (by decide) (by decide)
    · exact h7.L hC hP hF (by decide) (by decide) (by decide)
    · exact h8.L hC hF (by decide) (by decide)
    · exact h9.L hC hP hF (by decide) (by decide) (by decide)
    · exact h10.L hC hP hF (by decide) (by decide) (by decide)
theorem c9_n (v : Int32) : ∃ t, t ≤ 9 ∧ m_c9 v = nI t := by
  rw [← wi_c9]
  unfold k_wi
  split
  · exact ⟨0, by omega, rfl⟩
  · next h1 =>
    split
    · exact ⟨9, by omega, rfl⟩
    · next h2 => exact nI_of2 (M := 9) (n := 9) (by decide) h1 (Int32.not_lt.mp h2)
theorem sh_n (x y f st : Int32) (k : Nat) : ∃ t, t ≤ 9 ∧ m_sh x y f st k = nI t := by
  unfold m_sh
  split
  · exact ⟨0, by omega, rfl⟩
  · split
    · exact c9_n _
    · exact ⟨0, by omega, rfl⟩
theorem sum_ext {f g : Nat → Int32} : ∀ n, (∀ k, k < n → f k = g k) → m_sum f n = m_sum g n
  | 0, _ => rfl
  | n + 1, h => by simp only [m_sum]; rw [sum_ext n (fun k hk => h k (by omega)), h n (by omega)]
theorem RB.sheet {n c ns a p q z rs u x m no nc N ce k : Nat} {rv : RV} {t : Nat → Nat} {I K : Nat → Nat → Int32} {J L : Nat → Nat → Int64} {R S : Nat → Nat → Value} (h : RB n c ns a p q z rs u x m no nc N ce k rv t I J R K L S) {gC gM' : Nat → Int32} (he : ∀ k, k < c → gC k = gM' k) (h9' : ∀ k, k < c → ∃ t, t ≤ 9 ∧ gM' k = nI t) : REL (k + 1) (va_up I 6 (m_cp gC (I 6) c), J, R) (va_up (ti_wr K 0 12 0) 2 (m_cp gM' (K 2) c), L, S) := by
  obtain ⟨h1, h2, h3, h4, h5, h6, h7, h8, h9, h10⟩ := h
  have hC : ∀ p, p ∉ [6] → va_up I 6 (m_cp gC (I 6) c) p = I p := fun p hp => va_up_n (ne_of_nin hp (by decide))
  have hP : ∀ p, p ∉ [0, 2] → va_up (ti_wr K 0 12 0) 2 (m_cp gM' (K 2) c) p = K p := fun p hp => by
    rw [va_up_n (ne_of_nin hp (by decide)), ti_wr_n (ne_of_nin hp (by decide))]
  have hF : ∀ k, k ∉ [12] → va_up (ti_wr K 0 12 0) 2 (m_cp gM' (K 2) c) 0 k = K 0 k := fun k hp => by
    rw [va_up_n (by decide), wr_ne (ne_of_nin hp (by decide))]
  refine ⟨n, c, ns, a, p, q, z, rs, u, x, m, no, nc, N, ce, rv, t, ?_, ?_, ?_, ?_, ?_, ?_, ?_, ?_, ?_, ?_⟩
  · obtain ⟨⟨s1, s2, s3, s4, s5, s6, s7, s8, s9, s10, s11, s12⟩, k1, k2, k3, k4, k5⟩ := h1
    have e6 : ∀ k, k < c → m_cp gC (I 6) c k = gC k := fun k hk => if_pos hk
    have e2 : ∀ k, k < c → m_cp gM' (K 2) c k = gM' k := fun k hk => if_pos hk
    show ST (va_up I 6 (m_cp gC (I 6) c)) (va_up (ti_wr K 0 12 0) 2 (m_cp gM' (K 2) c) 2) (va_up (ti_wr K 0 12 0) 2 (m_cp gM' (K 2) c) 3) (va_up (ti_wr K 0 12 0) 2 (m_cp gM' (K 2) c) 4) (va_up (ti_wr K 0 12 0) 2 (m_cp gM' (K 2) c) 5) n c ns ∧ _
    rw [va_up_q, hP 3 (by decide), hP 4 (by decide), hP 5 (by decide)]
    unfold ST
    rw [hC 8 (by decide), hC 5 (by decide), hC 11 (by decide), va_up_q, hC 9 (by decide), hC 10 (by decide), hC 12 (by decide), hC 13 (by decide), hC 14 (by decide)]
    refine ⟨⟨s1, s2, s3, s4, s5, s6, s7, fun k hk => ?_, s9, s10, fun k hk => ?_, s12⟩, (hF 3 (by decide)).trans k1, (hF 1 (by decide)).trans k2, (hF 6 (by decide)).trans k3, ?_, ?_⟩
    · rw [e6 k hk, e2 k hk]; exact he k hk
    · rw [e2 k hk]; exact h9' k hk
    · show ∀ b, b < n → ∃ t, t ≤ 9 ∧ va_up (ti_wr K 0 12 0) 2 (m_cp gM' (K 2) c) 4 b = nI t
      rw [hP 4 (by decide)]; exact k4
    · show ∃ v, v < 256 ∧ va_up I 6 (m_cp gC (I 6) c) 11 3 = nI v
      rw [hC 11 (by decide)]; exact k5
  · exact h2.L hC hP (by decide) (by decide)
  · exact h3.L hC hP hF rfl (by decide) (by decide) (by decide)
  · exact h4.L hC hP hF (by decide) (by decide) (by decide)
  · exact h5.L hC hP hF (by decide) (by decide) (by decide)
  · exact h6.L hP hF (by decide) (by decide)
  · exact h7.L hC hP hF (by decide) (by decide) (by decide)
  · exact h8.L hC hF (by decide) (by decide)
  · exact h9.L hC hP hF (by decide) (by decide) (by decide)
  · exact h10.L hC hP hF (by decide) (by decide) (by decide)
theorem b_sheet {n c ns a p q z rs u x m no nc N ce k : Nat} {rv : RV} {t : Nat → Nat} {I K : Nat → Nat → Int32} {J L : Nat → Nat → Int64} {R S : Nat → Nat → Value} (h : RB n c ns a p q z rs u x m no nc N ce k rv t I J R K L S) (y w f st : Int32) : Bo hX11_sheet 5 hX12_sheet 9 [.int y, .int w, .int f, .int st] k I J R K L S := by
  have hst := h.1.1
  have hn8 := hst.2.1
  have hc12 := hst.2.2.2.1
  have hns8 := hst.2.2.2.2.2.2.1
  have hkn := h.1.2.1
  have hkc := h.1.2.2.1
  have hkns := h.1.2.2.2.1
  have sr := h.2.1.1
  have ws := h.2.1.2
  have hp := h.2.2.1.1
  have hz := h.2.2.1.2.2.2.2.2.2.2.2
  have ha := ws.1
  have hac := ws.2.1
  have ha12 : a ≤ 12 := Nat.le_trans hac hc12
  have hcy := sr.cy
  have ha39 : I 39 1 = nI a := sr.1.trans ws.1
  have hrow := h.2.2.2.2.2.2.2.1
  by_cases hx : m_in y 0 3 = 1 ∧ ¬ 12 < w
  · by_cases h3 : y = 3
    · subst h3
      have hM := c_sheet (J := L) (R := S) (d := 0) hkc hc12 (x := 3) (y := w) (f := f) (st := st) hx.1 hx.2 (fun q => absurd q.1 (by decide))
      rw [if_pos rfl] at hM
      refine Bo.of (k_sheet3 (d := 0) hst.2.2.1 hc12 hx.2) hM (by omega) (by omega) ?_
      rintro _ _ rfl rfl
      refine h.sheet (fun k hk => ?_) (fun k hk => sh_n _ _ _ _ _)
      unfold k_sh m_sh
      rw [if_pos rfl, if_neg (nI_pos (by omega))]
    · have hlt : y < 3 := by
        obtain ⟨j, hj, rfl⟩ := in_n (n := 3) (by decide) hx.1
        exact nI_lt (b := 3) (by have : j ≠ 3 := (fun e => h3 (by rw [e]; rfl)); omega) (by omega)
      by_cases h0 : w < 0
      · exact Bo.no h (k_sheet2 (d := 0) hx.1 hx.2 hlt h0) (c_sheet2 (d := 0) hx.1 hx.2 hlt h0) (by omega) (by omega)
      · have hM := c_sheet (J := L) (R := S) (d := 0) hkc hc12 (x := y) (y := w) (f := f) (st := st) hx.1 hx.2 (fun q => h0 q.2)
        rw [if_neg h3] at hM
        have ee : ∀ k, k < c → k_sh y w f st k = m_sh y w f st k := fun k hk => by
          unfold k_sh m_sh
          rw [if_neg h3, wi_c9]
        have es : m_sum (m_cp (k_sh y w f st) (I 6) c) c = m_sum (m_sh y w f st) c := sum_ext c (fun k hk => by rw [show m_cp (k_sh y w f st) (I 6) c k = k_sh y w f st k from if_pos hk]; exact ee k hk)
        refine Bo.of2 es (k_sheet (d := 0) hst.2.2.1 hc12 hx.1 h3 hx.2 h0) hM (by omega) (by omega) ?_
        rintro _ _ rfl rfl
        exact h.sheet ee (fun k hk => sh_n _ _ _ _ _)
  · exact Bo.no h (k_sheet1 (d := 0) hx) (c_sheet1 (d := 0) hx) (by omega) (by omega)
