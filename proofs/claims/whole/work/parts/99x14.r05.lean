/-! calls by both, four: load, texts, old walks, claims, kept -/
theorem ne_of_nin {p q : Nat} {l : List Nat} (h : p ∉ l) (hq : q ∈ l) : p ≠ q := fun e => h (e ▸ hq)
theorem b_load {n c ns a p q z rs u x m no nc N ce k : Nat} {rv : RV} {t : Nat → Nat} {I K : Nat → Nat → Int32} {J L : Nat → Nat → Int64} {R S : Nat → Nat → Value} (h : RB n c ns a p q z rs u x m no nc N ce k rv t I J R K L S) (y : Int32) : Bo hX11_load 3 hX12_load 3 [.int y] k I J R K L S := by
  have hst := h.1.1
  have hn8 := hst.2.1
  have hc12 := hst.2.2.2.1
  have hns8 := hst.2.2.2.2.2.2.1
  have hkn := h.1.2.1
  have hkc := h.1.2.2.1
  have hkns := h.1.2.2.2.1
  have sr := h.2.1.1
  have ws := h.2.1.2
  have hp := h.2.2.1.1
  have hz := h.2.2.1.2.2.2.2.2.2.2.2
  have ha := ws.1
  have hac := ws.2.1
  have ha12 : a ≤ 12 := Nat.le_trans hac hc12
  have hcy := sr.cy
  have ha39 : I 39 1 = nI a := sr.1.trans ws.1
  have hrow := h.2.2.2.2.2.2.2.1
  rcases in01 y 0 999 with hi | hi
  · have h1 : y < 0 ∨ 999 < y := by
      unfold m_in at hi
      split at hi
      · next g => exact Or.inl g
      · split at hi
        · next g => exact Or.inr g
        · exact absurd hi (by decide)
    exact Bo.no h (k_load0 (d := 0) h1) (c_load0 (d := 0) hi) (by omega) (by omega)
  · have hi2 := hi
    have g0 : ¬ y < 0 ∧ ¬ 999 < y := by
      unfold m_in at hi
      split at hi
      · exact absurd hi (by decide)
      · next g =>
        split at hi
        · exact absurd hi (by decide)
        · next g2 => exact ⟨g, g2⟩
    obtain ⟨j, hj, ej⟩ := in_n (n := 999) (by decide) hi2
    refine Bo.of2 sr.2.1 (k_load1 (d := 0) g0.1 g0.2) (c_load1 (d := 0) hi) (by omega) (by omega) ?_
    rintro _ _ rfl rfl
    obtain ⟨h1, h2, h3, h4, h5, h6, h7, h8, h9, h10⟩ := h
    have hC : ∀ p, p ∉ [39] → (ti_wr I 39 2 y) p = I p := fun p hp => ti_wr_n (ne_of_nin hp (by decide : 39 ∈ _))
    have hP : ∀ p, p ∉ [0, 1] → (ti_wr (ti_wr K 0 12 0) 1 25 y) p = K p := fun p hp => (ti_wr_n (ne_of_nin hp (by decide : 1 ∈ _))).trans (ti_wr_n (ne_of_nin hp (by decide : 0 ∈ _)))
    have hF : ∀ k, k ∉ [12] → (ti_wr (ti_wr K 0 12 0) 1 25 y) 0 k = K 0 k := fun k hp => (congrFun (ti_wr_n (by decide)) k).trans (wr_ne (ne_of_nin hp (by decide : 12 ∈ _)))
    refine ⟨n, c, ns, a, p, q, z, rs, u, x, m, no, nc, N, ce, rv, t, ?_, ?_, ?_, ?_, ?_, ?_, ?_, ?_, ?_, ?_⟩
    · exact h1.L hC hP hF (by decide) (by decide) (by decide)
    · show SR (ti_wr I 39 2 y 39) (ti_wr I 39 2 y 40) (ti_wr (ti_wr K 0 12 0) 1 25 y 1) n ns ∧ WS (ti_wr (ti_wr K 0 12 0) 1 25 y 1) n ns c a
      rw [wr_q, ti_wr_n (by decide), wr_q, ti_wr_n (by decide)]
      obtain ⟨a1, a2, a3, a4, a5, a6, a7, a8, a9⟩ := sr
      obtain ⟨b1, b2, b3, b4, b5, b6, b7, b8, b9⟩ := ws
      have e8 : (fun b => upd (K 1) 25 y (8 + b)) = (fun b => upd (K 1) 25 y (8 + b)) := rfl
      have u8 : ∀ b, b < n → upd (K 1) 25 y (8 + b) = K 1 (8 + b) := fun b hb => upd_ne (by omega)
      have u16 : ∀ b, b < ns → upd (K 1) 25 y (16 + b) = K 1 (16 + b) := fun b hb => upd_ne (by omega)
      refine ⟨⟨?_, ?_, ?_, ?_, ?_, ?_, ?_, ?_, ?_⟩, ⟨?_, b2, ?_, ?_, ?_, ?_, ?_, ?_, ?_⟩⟩
      · rw [upd_ne (by decide), upd_ne (by decide)]; exact a1
      · simp [upd]
      · rw [upd_ne (by decide), bt_ext n u8]; exact a3
      · rw [upd_ne (by decide), upd_ne (by decide)]; exact a4
      · rw [upd_ne (by decide), bt_ext ns u16]; exact a5
      · rw [upd_ne (by decide), upd_ne (by decide)]; exact a6
      · rw [upd_ne (by decide), upd_ne (by decide)]; exact a7
      · intro b hb; rw [upd_ne (by omega)]; exact a8 b hb
      · exact a9
      · rw [upd_ne (by decide)]; exact b1
      · intro b hb; rw [upd_ne (by omega)]; exact b3 b hb
      · intro b hb; show upd (K 1) 25 y (8 + b) = 0 ∨ upd (K 1) 25 y (8 + b) = 1; rw [u8 b hb]; exact b4 b hb
      · intro b hb; show upd (K 1) 25 y (16 + b) = 0 ∨ upd (K 1) 25 y (16 + b) = 1; rw [u16 b hb]; exact b5 b hb
      · exact ⟨j, hj, by rw [← ej]; simp [upd]⟩
      · rw [upd_ne (by decide)]; exact b7
      · rw [upd_ne (by decide)]; exact b8
      · rw [bN_ext n u8]; exact b9
    · exact h3.L hC hP hF rfl (by decide) (by decide) (by decide)
    · exact h4.L hC hP hF (by decide) (by decide) (by decide)
    · exact h5.L hC hP hF (by decide) (by decide) (by decide)
    · exact h6.L hP hF (by decide) (by decide)
    · exact h7.L hC hP hF (by decide) (by decide) (by decide)
    · exact h8.L hC hF (by decide) (by decide)
    · exact h9.L hC hP hF (by decide) (by decide) (by decide)
    · exact h10.L hC hP hF (by decide) (by decide) (by decide)
theorem b_sign {n c ns a p q z rs u x m no nc N ce k : Nat} {rv : RV} {t : Nat → Nat} {I K : Nat → Nat → Int32} {J L : Nat → Nat → Int64} {R S : Nat → Nat → Value} (h : RB n c ns a p q z rs u x m no nc N ce k rv t I J R K L S) (y : Int32) : Bo hX11_sign 2 hX12_sign 3 [.int y] k I J R K L S := by
  have hst := h.1.1
  have hn8 := hst.2.1
  have hc12 := hst.2.2.2.1
  have hns8 := hst.2.2.2.2.2.2.1
  have hkn := h.1.2.1
  have hkc := h.1.2.2.1
  have hkns := h.1.2.2.2.1
  have sr := h.2.1.1
  have ws := h.2.1.2
  have hp := h.2.2.1.1
  have hz := h.2.2.1.2.2.2.2.2.2.2.2
  have ha := ws.1
  have hac := ws.2.1
  have ha12 : a ≤ 12 := Nat.le_trans hac hc12
  have hcy := sr.cy
  have ha39 : I 39 1 = nI a := sr.1.trans ws.1
  have hrow := h.2.2.2.2.2.2.2.1
  have hT := h.2.2.2.2.2.2.1
  by_cases hN : 76 < N
  · exact Bo.no h (k_sign0 (d := 0) hT.1.1 hT.1.2.1 hN y) (c_sign0 (d := 0) hT.2.1 hT.2.2.1 hN y) (by omega) (by omega)
  · refine Bo.of (k_sign1 (d := 0) hT.1 (by omega) y) (c_sign (d := 0) hT.2 (by omega) y) (by omega) (by omega) ?_
    rintro _ _ ⟨I3, rfl, hx3, hT3⟩ ⟨K3, rfl, hm3, hk3, hT4⟩
    obtain ⟨h1, h2, h3, h4, h5, h6, h7, h8, h9, h10⟩ := h
    have hC : ∀ p, p ∉ [1, 2] → I3 p = I p := fun p hp => hx3 p (ne_of_nin hp (by decide : 1 ∈ _)) (ne_of_nin hp (by decide : 2 ∈ _))
    have hP : ∀ p, p ∉ [0, 6] → K3 p = K p := fun p hp => hm3 p (ne_of_nin hp (by decide : 0 ∈ _)) (ne_of_nin hp (by decide : 6 ∈ _))
    have hF : ∀ k, k ∉ [9, 12] → K3 0 k = K 0 k := fun k hp => (hk3 k (ne_of_nin hp (by decide : 9 ∈ _))).trans (wr_ne (ne_of_nin hp (by decide : 12 ∈ _)))
    refine ⟨n, c, ns, a, p, q, z, rs, u, x, m, no, nc, N + 4, ce, rv, app t N y, ?_, ?_, ?_, ?_, ?_, ?_, ?_, ?_, ?_, ?_⟩
    · exact h1.L hC hP hF (by decide) (by decide) (by decide)
    · exact h2.L hC hP (by decide) (by decide)
    · exact h3.L hC hP hF rfl (by decide) (by decide) (by decide)
    · exact h4.L hC hP hF (by decide) (by decide) (by decide)
    · exact h5.L hC hP hF (by decide) (by decide) (by decide)
    · exact h6.L hP hF (by decide) (by decide)
    · show rText (I3) (K3) (app t N y) (N + 4)
      exact ⟨hT3, hT4⟩
    · exact h8.L hC hF (by decide) (by decide)
    · exact h9.L hC hP hF (by decide) (by decide) (by decide)
    · exact h10.L hC hP hF (by decide) (by decide) (by decide)
theorem b_end {n c ns a p q z rs u x m no nc N ce k : Nat} {rv : RV} {t : Nat → Nat} {I K : Nat → Nat → Int32} {J L : Nat → Nat → Int64} {R S : Nat → Nat → Value} (h : RB n c ns a p q z rs u x m no nc N ce k rv t I J R K L S) (y : Int32) : Bo hX11_end 2 hX12_end 2 [.int y] k I J R K L S := by
  have hst := h.1.1
  have hn8 := hst.2.1
  have hc12 := hst.2.2.2.1
  have hns8 := hst.2.2.2.2.2.2.1
  have hkn := h.1.2.1
  have hkc := h.1.2.2.1
  have hkns := h.1.2.2.2.1
  have sr := h.2.1.1
  have ws := h.2.1.2
  have hp := h.2.2.1.1
  have hz := h.2.2.1.2.2.2.2.2.2.2.2
  have ha := ws.1
  have hac := ws.2.1
  have ha12 : a ≤ 12 := Nat.le_trans hac hc12
  have hcy := sr.cy
  have ha39 : I 39 1 = nI a := sr.1.trans ws.1
  have hrow := h.2.2.2.2.2.2.2.1
  have hT := h.2.2.2.2.2.2.1
  rcases ixc (n := N + 1) (x := y) with hx | ⟨j, hx⟩
  · exact Bo.no h (k_end0 (d := 0) hT.1.1 hT.1.2.1 hx) (c_end0 (d := 0) hT.2.1 hT.2.2.1 hx) (by omega) (by omega)
  · have hN80 := hT.1.2.1
    obtain ⟨hj, rfl⟩ := ix_some (by omega) hx
    refine Bo.of (k_end1 (d := 0) hT.1.1 hT.1.2.1 (by omega)) (c_end1 (d := 0) hT.2.1 hT.2.2.1 (by omega)) (by omega) (by omega) ?_
    rintro _ _ rfl rfl
    obtain ⟨h1, h2, h3, h4, h5, h6, h7, h8, h9, h10⟩ := h
    have hC : ∀ p, p ∉ [1] → ti_wr I 1 1 (nI j) p = I p := fun p hp => ti_wr_n (ne_of_nin hp (by decide : 1 ∈ _))
    have hP : ∀ p, p ∉ [0] → ti_wr (ti_wr K 0 12 0) 0 9 (nI j) p = K p := fun p hp => (ti_wr_n (ne_of_nin hp (by decide : 0 ∈ _))).trans (ti_wr_n (ne_of_nin hp (by decide : 0 ∈ _)))
    have hF : ∀ k, k ∉ [9, 12] → ti_wr (ti_wr K 0 12 0) 0 9 (nI j) 0 k = K 0 k := fun k hp => (wr_ne (ne_of_nin hp (by decide : 9 ∈ _))).trans (wr_ne (ne_of_nin hp (by decide : 12 ∈ _)))
    refine ⟨n, c, ns, a, p, q, z, rs, u, x, m, no, nc, j, ce, rv, t, ?_, ?_, ?_, ?_, ?_, ?_, ?_, ?_, ?_, ?_⟩
    · exact h1.L hC hP hF (by decide) (by decide) (by decide)
    · exact h2.L hC hP (by decide) (by decide)
    · exact h3.L hC hP hF rfl (by decide) (by decide) (by decide)
    · exact h4.L hC hP hF (by decide) (by decide) (by decide)
    · exact h5.L hC hP hF (by decide) (by decide) (by decide)
    · exact h6.L hP hF (by decide) (by decide)
    · show rText (ti_wr I 1 1 (nI j)) (ti_wr (ti_wr K 0 12 0) 0 9 (nI j)) (t) (j)
      refine ⟨⟨ti_wr_at, by omega, fun i hi => ?_⟩, ⟨ti_wr_at, by omega, fun i hi => ?_⟩⟩
      · show ti_wr I 1 1 (nI j) 2 i = nI (t i) ∧ t i < 256
        rw [ti_wr_n (by decide)]; exact hT.1.2.2 i (by omega)
      · show ti_wr (ti_wr K 0 12 0) 0 9 (nI j) 6 i = bI (t i) ∧ t i < 256
        rw [ti_wr_n (by decide), ti_wr_n (by decide)]; exact hT.2.2.2 i (by omega)
    · exact h8.L hC hF (by decide) (by decide)
    · exact h9.L hC hP hF (by decide) (by decide) (by decide)
    · exact h10.L hC hP hF (by decide) (by decide) (by decide)
theorem b_old {n c ns a p q z rs u x m no nc N ce k : Nat} {rv : RV} {t : Nat → Nat} {I K : Nat → Nat → Int32} {J L : Nat → Nat → Int64} {R S : Nat → Nat → Value} (h : RB n c ns a p q z rs u x m no nc N ce k rv t I J R K L S) (y w : Int32) : Bo hX11_old 3 hX12_old 3 [.int y, .int w] k I J R K L S := by
  have hst := h.1.1
  have hn8 := hst.2.1
  have hc12 := hst.2.2.2.1
  have hns8 := hst.2.2.2.2.2.2.1
  have hkn := h.1.2.1
  have hkc := h.1.2.2.1
  have hkns := h.1.2.2.2.1
  have sr := h.2.1.1
  have ws := h.2.1.2
  have hp := h.2.2.1.1
  have hz := h.2.2.1.2.2.2.2.2.2.2.2
  have ha := ws.1
  have hac := ws.2.1
  have ha12 : a ≤ 12 := Nat.le_trans hac hc12
  have hcy := sr.cy
  have ha39 : I 39 1 = nI a := sr.1.trans ws.1
  have hrow := h.2.2.2.2.2.2.2.1
  have hO := h.2.2.2.2.2.2.2.2.1
  by_cases hx : (ix (2 ^ ns) y).isSome = true ∧ m_in w (-160) 160 = 1 ∧ no < 8
  · obtain ⟨j, hj⟩ := Option.isSome_iff_exists.mp hx.1
    refine Bo.of (k_old (d := 0) hst.2.2.2.2.2.1 hns8 hj ((k_addOld hO.1 hO.2.1 hx.2.1 hx.2.2).imp vI)) (c_old (d := 0) hkns hns8 hO.2.2.1 hO.2.1 hj hx.2.1 hx.2.2) (by omega) (by omega) ?_
    rintro _ _ rfl rfl
    obtain ⟨h1, h2, h3, h4, h5, h6, h7, h8, h9, h10⟩ := h
    have hC : ∀ p, p ∉ [23, 24, 25] → ti_wr (ti_wr (ti_wr I 24 no y) 25 no w) 23 4 (nI (no + 1)) p = I p := fun p hp => by rw [ti_wr_n (ne_of_nin hp (by decide : 23 ∈ _)), ti_wr_n (ne_of_nin hp (by decide : 25 ∈ _)), ti_wr_n (ne_of_nin hp (by decide : 24 ∈ _))]
    have hP : ∀ p, p ∉ [0, 18, 19] → ti_wr (ti_wr (ti_wr (ti_wr K 0 12 0) 18 no y) 19 no w) 0 33 (nI (no + 1)) p = K p := fun p hp => by rw [ti_wr_n (ne_of_nin hp (by decide : 0 ∈ _)), ti_wr_n (ne_of_nin hp (by decide : 19 ∈ _)), ti_wr_n (ne_of_nin hp (by decide : 18 ∈ _)), ti_wr_n (ne_of_nin hp (by decide : 0 ∈ _))]
    have hF : ∀ k, k ∉ [12, 33] → ti_wr (ti_wr (ti_wr (ti_wr K 0 12 0) 18 no y) 19 no w) 0 33 (nI (no + 1)) 0 k = K 0 k := fun k hp => by rw [wr_ne (ne_of_nin hp (by decide : 33 ∈ _)), ti_wr_n (by decide), ti_wr_n (by decide), wr_ne (ne_of_nin hp (by decide : 12 ∈ _))]
    refine ⟨n, c, ns, a, p, q, z, rs, u, x, m, no + 1, nc, N, ce, rv, t, ?_, ?_, ?_, ?_, ?_, ?_, ?_, ?_, ?_, ?_⟩
    · exact h1.L hC hP hF (by decide) (by decide) (by decide)
    · exact h2.L hC hP (by decide) (by decide)
    · exact h3.L hC hP hF rfl (by decide) (by decide) (by decide)
    · exact h4.L hC hP hF (by decide) (by decide) (by decide)
    · exact h5.L hC hP hF (by decide) (by decide) (by decide)
    · exact h6.L hP hF (by decide) (by decide)
    · exact h7.L hC hP hF (by decide) (by decide) (by decide)
    · exact h8.L hC hF (by decide) (by decide)
    · show rOld (ti_wr (ti_wr (ti_wr I 24 no y) 25 no w) 23 4 (nI (no + 1))) (ti_wr (ti_wr (ti_wr (ti_wr K 0 12 0) 18 no y) 19 no w) 0 33 (nI (no + 1))) (no + 1)
      refine ⟨ti_wr_at, by have := hx.2.2; omega, ti_wr_at, fun i hi => ?_⟩
      show ti_wr (ti_wr (ti_wr I 24 no y) 25 no w) 23 4 (nI (no + 1)) 24 i = ti_wr (ti_wr (ti_wr (ti_wr K 0 12 0) 18 no y) 19 no w) 0 33 (nI (no + 1)) 18 i ∧ ti_wr (ti_wr (ti_wr I 24 no y) 25 no w) 23 4 (nI (no + 1)) 25 i = ti_wr (ti_wr (ti_wr (ti_wr K 0 12 0) 18 no y) 19 no w) 0 33 (nI (no + 1)) 19 i
      rw [ti_wr_n (q := 24) (p := 23) (by decide), ti_wr_n (q := 24) (p := 25) (by decide), ti_wr_n (q := 25) (p := 23) (by decide), ti_wr_n (q := 18) (p := 0) (by decide), ti_wr_n (q := 18) (p := 19) (by decide), ti_wr_n (q := 19) (p := 0) (by decide)]
      by_cases e : i = no
      · rw [e, ti_wr_at, ti_wr_at, ti_wr_at, ti_wr_at]; exact ⟨rfl, rfl⟩
      · rw [wr_ne e, wr_ne e, wr_ne e, wr_ne e, ti_wr_n (by decide), ti_wr_n (by decide), ti_wr_n (by decide), ti_wr_n (by decide)]
        exact hO.2.2.2 i (by omega)
    · show rClaim (ti_wr (ti_wr (ti_wr I 24 no y) 25 no w) 23 4 (nI (no + 1))) (ti_wr (ti_wr (ti_wr (ti_wr K 0 12 0) 18 no y) 19 no w) 0 33 (nI (no + 1))) (nc)
      refine h10.cg ?_ (hC 26 (by decide)) (hC 27 (by decide)) (hC 28 (by decide)) (hP 21 (by decide)) (hF 37 (by decide))
      show ti_wr (ti_wr (ti_wr I 24 no y) 25 no w) 23 4 (nI (no + 1)) 23 8 = I 23 8
      rw [wr_ne (by decide), ti_wr_n (by decide), ti_wr_n (by decide)]
  · rcases ixc (n := 2 ^ ns) (x := y) with hy | ⟨j, hy⟩
    · exact Bo.no h (k_old0 (d := 0) hst.2.2.2.2.2.1 hns8 hy) (c_old0 (d := 0) hkns hns8 hO.2.2.1 hO.2.1 hx) (by omega) (by omega)
    · exact Bo.no h (k_old (d := 0) hst.2.2.2.2.2.1 hns8 hy ((k_addOld0 hO.1 hO.2.1 (fun q => hx ⟨by rw [hy]; rfl, q⟩)).imp vI)) (c_old0 (d := 0) hkns hns8 hO.2.2.1 hO.2.1 hx) (by omega) (by omega)
theorem b_forget {n c ns a p q z rs u x m no nc N ce k : Nat} {rv : RV} {t : Nat → Nat} {I K : Nat → Nat → Int32} {J L : Nat → Nat → Int64} {R S : Nat → Nat → Value} (h : RB n c ns a p q z rs u x m no nc N ce k rv t I J R K L S)  : Bo hX11_forget 1 hX12_forget 2 [] k I J R K L S := by
  have hst := h.1.1
  have hn8 := hst.2.1
  have hc12 := hst.2.2.2.1
  have hns8 := hst.2.2.2.2.2.2.1
  have hkn := h.1.2.1
  have hkc := h.1.2.2.1
  have hkns := h.1.2.2.2.1
  have sr := h.2.1.1
  have ws := h.2.1.2
  have hp := h.2.2.1.1
  have hz := h.2.2.1.2.2.2.2.2.2.2.2
  have ha := ws.1
  have hac := ws.2.1
  have ha12 : a ≤ 12 := Nat.le_trans hac hc12
  have hcy := sr.cy
  have ha39 : I 39 1 = nI a := sr.1.trans ws.1
  have hrow := h.2.2.2.2.2.2.2.1
  have hO := h.2.2.2.2.2.2.2.2.1
  refine Bo.of2 (hO.1.trans hO.2.2.1.symm) (k_forget (d := 0) (k_forgetOld.imp vI)) (c_forget (d := 0)) (by omega) (by omega) ?_
  rintro _ _ rfl rfl
  obtain ⟨h1, h2, h3, h4, h5, h6, h7, h8, h9, h10⟩ := h
  have hC : ∀ p, p ∉ [23] → ti_wr I 23 4 0 p = I p := fun p hp => ti_wr_n (ne_of_nin hp (by decide : 23 ∈ _))
  have hP : ∀ p, p ∉ [0] → ti_wr (ti_wr K 0 12 0) 0 33 0 p = K p := fun p hp => (ti_wr_n (ne_of_nin hp (by decide : 0 ∈ _))).trans (ti_wr_n (ne_of_nin hp (by decide : 0 ∈ _)))
  have hF : ∀ k, k ∉ [12, 33] → ti_wr (ti_wr K 0 12 0) 0 33 0 0 k = K 0 k := fun k hp => (wr_ne (ne_of_nin hp (by decide : 33 ∈ _))).trans (wr_ne (ne_of_nin hp (by decide : 12 ∈ _)))
  refine ⟨n, c, ns, a, p, q, z, rs, u, x, m, 0, nc, N, ce, rv, t, ?_, ?_, ?_, ?_, ?_, ?_, ?_, ?_, ?_, ?_⟩
  · exact h1.L hC hP hF (by decide) (by decide) (by decide)
  · exact h2.L hC hP (by decide) (by decide)
  · exact h3.L hC hP hF rfl (by decide) (by decide) (by decide)
  · exact h4.L hC hP hF (by decide) (by decide) (by decide)
  · exact h5.L hC hP hF (by decide) (by decide) (by decide)
  · exact h6.L hP hF (by decide) (by decide)
  · exact h7.L hC hP hF (by decide) (by decide) (by decide)
  · exact h8.L hC hF (by decide) (by decide)
  · show rOld (ti_wr I 23 4 0) (ti_wr (ti_wr K 0 12 0) 0 33 0) (0)
    exact ⟨ti_wr_at, by omega, ti_wr_at, fun i hi => absurd hi (Nat.not_lt_zero i)⟩
  · show rClaim (ti_wr I 23 4 0) (ti_wr (ti_wr K 0 12 0) 0 33 0) (nc)
    exact h10.cg (wr_ne (by decide)) (hC 26 (by decide)) (hC 27 (by decide)) (hC 28 (by decide)) (hP 21 (by decide)) (hF 37 (by decide))
theorem b_unsaid {n c ns a p q z rs u x m no nc N ce k : Nat} {rv : RV} {t : Nat → Nat} {I K : Nat → Nat → Int32} {J L : Nat → Nat → Int64} {R S : Nat → Nat → Value} (h : RB n c ns a p q z rs u x m no nc N ce k rv t I J R K L S)  : Bo hX11_unsaid 1 hX12_unsaid 2 [] k I J R K L S := by
  have hst := h.1.1
  have hn8 := hst.2.1
  have hc12 := hst.2.2.2.1
  have hns8 := hst.2.2.2.2.2.2.1
  have hkn := h.1.2.1
  have hkc := h.1.2.2.1
  have hkns := h.1.2.2.2.1
  have sr := h.2.1.1
  have ws := h.2.1.2
  have hp := h.2.2.1.1
  have hz := h.2.2.1.2.2.2.2.2.2.2.2
  have ha := ws.1
  have hac := ws.2.1
  have ha12 : a ≤ 12 := Nat.le_trans hac hc12
  have hcy := sr.cy
  have ha39 : I 39 1 = nI a := sr.1.trans ws.1
  have hrow := h.2.2.2.2.2.2.2.1
  have hO := h.2.2.2.2.2.2.2.2.2
  refine Bo.of2 (hO.1.trans hO.2.2.1.symm) (k_unsaid (d := 0) (k_takeBack.imp vI)) (c_unsaid (d := 0)) (by omega) (by omega) ?_
  rintro _ _ rfl rfl
  obtain ⟨h1, h2, h3, h4, h5, h6, h7, h8, h9, h10⟩ := h
  have hC : ∀ p, p ∉ [23] → ti_wr I 23 8 0 p = I p := fun p hp => ti_wr_n (ne_of_nin hp (by decide : 23 ∈ _))
  have hP : ∀ p, p ∉ [0] → ti_wr (ti_wr K 0 12 0) 0 37 0 p = K p := fun p hp => (ti_wr_n (ne_of_nin hp (by decide : 0 ∈ _))).trans (ti_wr_n (ne_of_nin hp (by decide : 0 ∈ _)))
  have hF : ∀ k, k ∉ [12, 37] → ti_wr (ti_wr K 0 12 0) 0 37 0 0 k = K 0 k := fun k hp => (wr_ne (ne_of_nin hp (by decide : 37 ∈ _))).trans (wr_ne (ne_of_nin hp (by decide : 12 ∈ _)))
  refine ⟨n, c, ns, a, p, q, z, rs, u, x, m, no, 0, N, ce, rv, t, ?_, ?_, ?_, ?_, ?_, ?_, ?_, ?_, ?_, ?_⟩
  · exact h1.L hC hP hF (by decide) (by decide) (by decide)
  · exact h2.L hC hP (by decide) (by decide)
  · exact h3.L hC hP hF rfl (by decide) (by decide) (by decide)
  · exact h4.L hC hP hF (by decide) (by decide) (by decide)
  · exact h5.L hC hP hF (by decide) (by decide) (by decide)
  · exact h6.L hP hF (by decide) (by decide)
  · exact h7.L hC hP hF (by decide) (by decide) (by decide)
  · exact h8.L hC hF (by decide) (by decide)
  · show rOld (ti_wr I 23 8 0) (ti_wr (ti_wr K 0 12 0) 0 37 0) (no)
    exact h9.cg (wr_ne (by decide)) (hC 24 (by decide)) (hC 25 (by decide)) (hP 18 (by decide)) (hP 19 (by decide)) (hF 33 (by decide))
  · show rClaim (ti_wr I 23 8 0) (ti_wr (ti_wr K 0 12 0) 0 37 0) (0)
    exact ⟨ti_wr_at, by omega, ti_wr_at, fun i hi => absurd hi (Nat.not_lt_zero i)⟩
theorem b_claim {n c ns a p q z rs u x m no nc N ce k : Nat} {rv : RV} {t : Nat → Nat} {I K : Nat → Nat → Int32} {J L : Nat → Nat → Int64} {R S : Nat → Nat → Value} (h : RB n c ns a p q z rs u x m no nc N ce k rv t I J R K L S) (y w e : Int32) : Bo hX11_claim 4 hX12_claim 4 [.int y, .int w, .int e] k I J R K L S := by
  have hst := h.1.1
  have hn8 := hst.2.1
  have hc12 := hst.2.2.2.1
  have hns8 := hst.2.2.2.2.2.2.1
  have hkn := h.1.2.1
  have hkc := h.1.2.2.1
  have hkns := h.1.2.2.2.1
  have sr := h.2.1.1
  have ws := h.2.1.2
  have hp := h.2.2.1.1
  have hz := h.2.2.1.2.2.2.2.2.2.2.2
  have ha := ws.1
  have hac := ws.2.1
  have ha12 : a ≤ 12 := Nat.le_trans hac hc12
  have hcy := sr.cy
  have ha39 : I 39 1 = nI a := sr.1.trans ws.1
  have hrow := h.2.2.2.2.2.2.2.1
  have hO := h.2.2.2.2.2.2.2.2.2
  by_cases hx : (ix 4 y).isSome = true ∧ (ix ns w).isSome = true ∧ m_in e 0 1 = 1
  · by_cases h16 : nc < 16
    · obtain ⟨s, hs⟩ := Option.isSome_iff_exists.mp hx.2.1
      obtain ⟨hs1, es⟩ := ix_some (by omega) hs
      obtain ⟨i1, hi1, ei⟩ := in_n (n := 1) (by decide) hx.2.2
      refine Bo.of (k_claim (d := 0) hst.2.2.2.2.2.1 hx.1 hx.2.1 hx.2.2 ((k_addClaim hO.1 h16 y w e).imp vI)) (c_claim (d := 0) hkns hns8 hO.2.2.1 hO.2.1 hx.1 hx.2.1 hx.2.2 h16) (by omega) (by omega) ?_
      rintro _ _ rfl rfl
      obtain ⟨h1, h2, h3, h4, h5, h6, h7, h8, h9, h10⟩ := h
      have hC : ∀ p, p ∉ [23, 26, 27, 28] → ti_wr (ti_wr (ti_wr (ti_wr I 26 nc y) 27 nc w) 28 nc e) 23 8 (nI (nc + 1)) p = I p := fun p hp => by rw [ti_wr_n (ne_of_nin hp (by decide : 23 ∈ _)), ti_wr_n (ne_of_nin hp (by decide : 28 ∈ _)), ti_wr_n (ne_of_nin hp (by decide : 27 ∈ _)), ti_wr_n (ne_of_nin hp (by decide : 26 ∈ _))]
      have hP : ∀ p, p ∉ [0, 21] → ti_wr (ti_wr (ti_wr (ti_wr (ti_wr K 0 12 0) 21 (3 * nc) y) 21 (3 * nc + 1) w) 21 (3 * nc + 2) e) 0 37 (nI (nc + 1)) p = K p := fun p hp => by rw [ti_wr_n (ne_of_nin hp (by decide : 0 ∈ _)), ti_wr_n (ne_of_nin hp (by decide : 21 ∈ _)), ti_wr_n (ne_of_nin hp (by decide : 21 ∈ _)), ti_wr_n (ne_of_nin hp (by decide : 21 ∈ _)), ti_wr_n (ne_of_nin hp (by decide : 0 ∈ _))]
      have hF : ∀ k, k ∉ [12, 37] → ti_wr (ti_wr (ti_wr (ti_wr (ti_wr K 0 12 0) 21 (3 * nc) y) 21 (3 * nc + 1) w) 21 (3 * nc + 2) e) 0 37 (nI (nc + 1)) 0 k = K 0 k := fun k hp => by rw [wr_ne (ne_of_nin hp (by decide : 37 ∈ _)), ti_wr_n (by decide), ti_wr_n (by decide), ti_wr_n (by decide), wr_ne (ne_of_nin hp (by decide : 12 ∈ _))]
      refine ⟨n, c, ns, a, p, q, z, rs, u, x, m, no, nc + 1, N, ce, rv, t, ?_, ?_, ?_, ?_, ?_, ?_, ?_, ?_, ?_, ?_⟩
      · exact h1.L hC hP hF (by decide) (by decide) (by decide)
      · exact h2.L hC hP (by decide) (by decide)
      · exact h3.L hC hP hF rfl (by decide) (by decide) (by decide)
      · exact h4.L hC hP hF (by decide) (by decide) (by decide)
      · exact h5.L hC hP hF (by decide) (by decide) (by decide)
      · exact h6.L hP hF (by decide) (by decide)
      · exact h7.L hC hP hF (by decide) (by decide) (by decide)
      · exact h8.L hC hF (by decide) (by decide)
      · show rOld (ti_wr (ti_wr (ti_wr (ti_wr I 26 nc y) 27 nc w) 28 nc e) 23 8 (nI (nc + 1))) (ti_wr (ti_wr (ti_wr (ti_wr (ti_wr K 0 12 0) 21 (3 * nc) y) 21 (3 * nc + 1) w) 21 (3 * nc + 2) e) 0 37 (nI (nc + 1))) (no)
        refine h9.cg ?_ (hC 24 (by decide)) (hC 25 (by decide)) (hP 18 (by decide)) (hP 19 (by decide)) (hF 33 (by decide))
        show (ti_wr (ti_wr (ti_wr (ti_wr I 26 nc y) 27 nc w) 28 nc e) 23 8 (nI (nc + 1))) 23 4 = I 23 4
        rw [wr_ne (by decide), ti_wr_n (by decide), ti_wr_n (by decide), ti_wr_n (by decide)]
      · show rClaim (ti_wr (ti_wr (ti_wr (ti_wr I 26 nc y) 27 nc w) 28 nc e) 23 8 (nI (nc + 1))) (ti_wr (ti_wr (ti_wr (ti_wr (ti_wr K 0 12 0) 21 (3 * nc) y) 21 (3 * nc + 1) w) 21 (3 * nc + 2) e) 0 37 (nI (nc + 1))) (nc + 1)
        refine ⟨ti_wr_at, by omega, ti_wr_at, fun i hi => ?_⟩
        show ((ti_wr (ti_wr (ti_wr (ti_wr I 26 nc y) 27 nc w) 28 nc e) 23 8 (nI (nc + 1))) 26 i = (ti_wr (ti_wr (ti_wr (ti_wr (ti_wr K 0 12 0) 21 (3 * nc) y) 21 (3 * nc + 1) w) 21 (3 * nc + 2) e) 0 37 (nI (nc + 1))) 21 (3 * i) ∧ (ti_wr (ti_wr (ti_wr (ti_wr I 26 nc y) 27 nc w) 28 nc e) 23 8 (nI (nc + 1))) 27 i = (ti_wr (ti_wr (ti_wr (ti_wr (ti_wr K 0 12 0) 21 (3 * nc) y) 21 (3 * nc + 1) w) 21 (3 * nc + 2) e) 0 37 (nI (nc + 1))) 21 (3 * i + 1) ∧ (ti_wr (ti_wr (ti_wr (ti_wr I 26 nc y) 27 nc w) 28 nc e) 23 8 (nI (nc + 1))) 28 i = (ti_wr (ti_wr (ti_wr (ti_wr (ti_wr K 0 12 0) 21 (3 * nc) y) 21 (3 * nc + 1) w) 21 (3 * nc + 2) e) 0 37 (nI (nc + 1))) 21 (3 * i + 2)) ∧ (∃ j, j < 8 ∧ (ti_wr (ti_wr (ti_wr (ti_wr I 26 nc y) 27 nc w) 28 nc e) 23 8 (nI (nc + 1))) 27 i = nI j) ∧ ((ti_wr (ti_wr (ti_wr (ti_wr I 26 nc y) 27 nc w) 28 nc e) 23 8 (nI (nc + 1))) 28 i = 0 ∨ (ti_wr (ti_wr (ti_wr (ti_wr I 26 nc y) 27 nc w) 28 nc e) 23 8 (nI (nc + 1))) 28 i = 1)
        rw [ti_wr_n (q := 26) (p := 23) (by decide), ti_wr_n (q := 26) (p := 28) (by decide), ti_wr_n (q := 26) (p := 27) (by decide), ti_wr_n (q := 27) (p := 23) (by decide), ti_wr_n (q := 27) (p := 28) (by decide), ti_wr_n (q := 28) (p := 23) (by decide), ti_wr_n (q := 21) (p := 0) (by decide)]
        by_cases e2 : i = nc
        · rw [e2, ti_wr_at, ti_wr_at, ti_wr_at, ti_wr_at, wr_ne (by omega), wr_ne (by omega), ti_wr_at, wr_ne (by omega), ti_wr_at]
          exact ⟨⟨rfl, rfl, rfl⟩, ⟨s, by omega, es⟩, by rw [ei]; rcases (by omega : i1 = 0 ∨ i1 = 1) with g | g <;> rw [g]; (exact Or.inl rfl); (exact Or.inr rfl)⟩
        · rw [wr_ne e2, wr_ne e2, wr_ne e2, wr_ne (j := 3 * i) (by omega), wr_ne (j := 3 * i) (by omega), wr_ne (j := 3 * i) (by omega), wr_ne (j := 3 * i + 1) (by omega), wr_ne (j := 3 * i + 1) (by omega), wr_ne (j := 3 * i + 1) (by omega), wr_ne (j := 3 * i + 2) (by omega), wr_ne (j := 3 * i + 2) (by omega), wr_ne (j := 3 * i + 2) (by omega), ti_wr_n (q := 27) (p := 26) (by decide), ti_wr_n (q := 28) (p := 27) (by decide), ti_wr_n (q := 28) (p := 26) (by decide), ti_wr_n (q := 21) (p := 0) (by decide)]
          exact hO.2.2.2 i (by omega)
    · have hnc : nc = 16 := by have := hO.2.1; omega
      exact Bo.no h (k_claim (d := 0) hst.2.2.2.2.2.1 hx.1 hx.2.1 hx.2.2 ((k_addClaim0 (by rw [← hnc]; exact hO.1) y w e).imp vI)) (c_claim0 (d := 0) hkns hns8 hO.2.2.1 hO.2.1 (fun q => h16 q.2.2.2)) (by omega) (by omega)
  · exact Bo.no h (k_claim0 (d := 0) hst.2.2.2.2.2.1 hx) (c_claim0 (d := 0) hkns hns8 hO.2.2.1 hO.2.1 (fun q => hx ⟨q.1, q.2.1, q.2.2.1⟩)) (by omega) (by omega)
