/-! calls by both, eight: walk -/
theorem b_walk {n c ns a p q z rs u x m no nc N ce k : Nat} {rv : RV} {t : Nat → Nat} {I K : Nat → Nat → Int32} {J L : Nat → Nat → Int64} {R S : Nat → Nat → Value} (h : RB n c ns a p q z rs u x m no nc N ce k rv t I J R K L S)  : Bo hX11_walk 5 hX12_walk 3 [] k I J R K L S := by
  have hst := h.1.1
  have hn8 := hst.2.1
  have hc12 := hst.2.2.2.1
  have hns8 := hst.2.2.2.2.2.2.1
  have hkn := h.1.2.1
  have hkc := h.1.2.2.1
  have hkns := h.1.2.2.2.1
  have sr := h.2.1.1
  have ws := h.2.1.2
  have hp := h.2.2.1.1
  have hz := h.2.2.1.2.2.2.2.2.2.2.2
  have ha := ws.1
  have hac := ws.2.1
  have ha12 : a ≤ 12 := Nat.le_trans hac hc12
  have hcy := sr.cy
  have ha39 : I 39 1 = nI a := sr.1.trans ws.1
  have hrow := h.2.2.2.2.2.2.2.1
  have hT := h.2.2.2.2.2.2.1
  have hu := h.2.2.2.1.2.2.1
  have hu12 := h.2.2.2.1.2.1
  have hx12 := h.2.2.2.1.2.2.2.2.1
  obtain ⟨r1, M1, ⟨w, hend, hif⟩, hM⟩ := (c_walk (d := 0) (J := L) hT.2 (h.mA 0) hkns hns8 ha hac hu hu12).det
  by_cases hok : (sFin N (aS t (min N 60) w)).1 = true
  · rw [if_pos hok] at hif
    obtain ⟨K3, S3, hbA, h19, K5, S5, K6, hs, rfl, rfl, hp6, hk6, e611⟩ := hif
    obtain ⟨r2, M2, ⟨I2, hb2, I3, hq3, hsr3, hws3, rfl, rfl⟩, hC⟩ := (k_walk1 (d := 0) (J := J) (R := R) hT.1 hend (h.kA 0) hst hz sr ws hp h.2.2.2.1.2.2.2.1 hx12 h.2.2.2.1.1 hu12 hok).det
    refine Bo.of hC hM (by omega) (by omega) ?_
    rintro _ _ rfl rfl
    generalize aW (K 2) (K 3) (K 4) (K 5) n c ns rs rv (aK t (min N 60)) (aV t (min N 60)) w 0 (K 1) a = g at *
    have kP : ∀ p, p ≠ 0 → p ≠ 15 → K3 p = K p := hbA.1
    have eb : ∀ p, p ∉ [1, 30] → ti_wr I2 1 1 0 p = I p := fun p hp => by
      rw [ti_wr_n (ne_of_nin hp (by decide))]
      exact hb2 p (ne_of_nin hp (by decide)) (ne_of_nin hp (by decide))
    have k5p : ∀ p, p ≠ 0 → p ≠ 1 → p ≠ 11 → p ≠ 13 → p ≠ 15 → K5 p = K p := fun p p0 p1 p2 p3 p4 => by
      rw [hs.1 p p0 p2, va_up_n p1, va_up_n p3]
      exact kP p p0 p4
    have k51 : K5 1 = g.2.1 := by rw [hs.r 1 rfl, va_up_q]
    have k513 : ∀ j, j < 29 → K5 13 j = K 1 j := fun j hj => by
      rw [hs.r 13 rfl, va_up_n (by decide), va_up_q, lay0 hj, kP 1 (by decide) (by decide)]
    have k50 : ∀ k, k ∉ [9, 12, 14, 15, 16, 17, 22] → K5 0 k = K 0 k := fun k hp => by
      rw [hs.2.1 k (ne_of_nin hp (by decide)) (ne_of_nin hp (by decide)) (ne_of_nin hp (by decide)) (ne_of_nin hp (by decide)) (ne_of_nin hp (by decide)), va_up_n (by decide), va_up_n (by decide)]
      exact hbA.2.1 k (ne_of_nin hp (by decide)) (ne_of_nin hp (by decide)) (ne_of_nin hp (by decide)) (ne_of_nin hp (by decide)) (ne_of_nin hp (by decide)) (ne_of_nin hp (by decide)) (ne_of_nin hp (by decide))
    have k59 : K5 0 9 = 0 := by
      rw [hs.f 9 rfl, va_up_n (by decide), va_up_n (by decide)]
      exact hbA.2.2.1
    have hS : S5 0 19 = S 0 19 := hs.2.2.trans h19
    have er : ∀ j, j < 2 → ti_wl (ti_wl J 4 0 (if g.1 < w then 1 else 0)) 4 1 (g.2.1 28 - I 39 7).toInt64 4 j = ti_wl (ti_wl L 7 0 (if g.1 < w then 1 else 0)) 7 1 (g.2.1 28 - va_up K3 13 (m_lay (K3 1) (K3 13) 0 29) 13 28).toInt64 7 j := fun j hj => by
      have e28 : va_up K3 13 (m_lay (K3 1) (K3 13) 0 29) 13 28 = I 39 7 := by
        rw [va_up_q, lay0 (by decide), kP 1 (by decide) (by decide)]
        exact sr.2.2.2.2.2.2.1.symm
      rw [e28]
      rcases (by omega : j = 0 ∨ j = 1) with e | e
      · rw [e, wl_ne (by decide), ti_wl_at, wl_ne (by decide), ti_wl_at]
      · rw [e, ti_wl_at, ti_wl_at]
    by_cases g0 : g.1 = 0
    · simp only [if_pos g0] at hp6 hk6 ⊢
      have hP : ∀ p, p ∉ [0, 1, 11, 13, 15] → K6 p = K p := fun p hp => by
        rw [hp6 p (ne_of_nin hp (by decide))]
        exact k5p p (ne_of_nin hp (by decide)) (ne_of_nin hp (by decide)) (ne_of_nin hp (by decide)) (ne_of_nin hp (by decide)) (ne_of_nin hp (by decide))
      have hF : ∀ k, k ∉ [9, 11, 12, 14, 15, 16, 17, 22] → K6 0 k = K 0 k := fun k hp => by
        rw [hk6 k (ne_of_nin hp (by decide))]
        exact k50 k (by
          simp only [List.mem_cons, List.not_mem_nil, or_false, not_or] at hp ⊢
          exact ⟨hp.1, hp.2.2⟩)
      have i11 : ti_wr I3 3 1 (nI 2) 1 1 = 0 := by
        rw [ti_wr_n (by decide), hq3 1 (by decide) (by decide) (by decide) (by decide) (by decide) (by decide), k_mk_n (by decide) (by decide), ti_wr_at]
      exact h.act0 eb hq3 (fun p hp => ti_wr_n hp) hsr3 hws3 hP hF ((hp6 1 (by decide)).trans k51) hS (by decide) (by decide) (rText.e (t := t) i11 ((hk6 9 (by decide)).trans k59)) ⟨ti_wr_at, by omega, e611, er⟩
    · simp only [if_neg g0] at hp6 hk6 ⊢
      have hP : ∀ p, p ∉ [0, 1, 11, 12, 13, 15] → K6 p = K p := fun p hp => by
        rw [hp6 p (ne_of_nin hp (by decide)), ti_wr_n (ne_of_nin hp (by decide)), va_up_n (ne_of_nin hp (by decide))]
        exact k5p p (ne_of_nin hp (by decide)) (ne_of_nin hp (by decide)) (ne_of_nin hp (by decide)) (ne_of_nin hp (by decide)) (ne_of_nin hp (by decide))
      have hF : ∀ k, k ∉ [9, 11, 12, 14, 15, 16, 17, 22, 25] → K6 0 k = K 0 k := fun k hp => by
        rw [hk6 k (ne_of_nin hp (by decide)), wr_ne (ne_of_nin hp (by decide)), va_up_n (by decide)]
        exact k50 k (by
          simp only [List.mem_cons, List.not_mem_nil, or_false, not_or] at hp ⊢
          exact ⟨hp.1, hp.2.2.1, hp.2.2.2.1, hp.2.2.2.2.1, hp.2.2.2.2.2.1, hp.2.2.2.2.2.2.1, hp.2.2.2.2.2.2.2.1⟩)
      have i11 : ti_wr (k_se I3 x u) 3 1 (nI 2) 1 1 = 0 := by
        rw [ti_wr_n (by decide), k_se_n (by decide) (by omega) (by omega), hq3 1 (by decide) (by decide) (by decide) (by decide) (by decide) (by decide), k_mk_n (by decide) (by decide), ti_wr_at]
      have k69 : K6 0 9 = 0 := by
        rw [hk6 9 (by decide), wr_ne (by decide), va_up_n (by decide)]
        exact k59
      refine h.act (g := K5 13) eb hq3 (fun p hp => ti_wr_n hp) hsr3 hws3 hP hF ?_ k513 ?_ ?_ hS (by decide) (by decide) (rText.e (t := t) i11 k69) ⟨ti_wr_at, by omega, e611, er⟩
      · rw [hp6 1 (by decide), ti_wr_n (by decide), va_up_n (by decide)]; exact k51
      · rw [hp6 12 (by decide), ti_wr_n (by decide), va_up_q, k5p 12 (by decide) (by decide) (by decide) (by decide) (by decide)]
      · rw [hk6 25 (by decide), ti_wr_at]
  · rw [if_neg hok] at hif
    obtain ⟨rfl, K3, S3, rfl, hbA, h19⟩ := hif
    refine Bo.of (k_walk0 (d := 0) hT.1 hend hok) hM (by omega) (by omega) ?_
    rintro _ _ ⟨I3, rfl, hx3, i1⟩ rfl
    have hC : ∀ p, p ∉ [1, 30] → I3 p = I p := fun p hp => hx3 p (ne_of_nin hp (by decide)) (ne_of_nin hp (by decide))
    have hP : ∀ p, p ∉ [0, 15] → K3 p = K p := fun p hp => hbA.1 p (ne_of_nin hp (by decide)) (ne_of_nin hp (by decide))
    have hF : ∀ k, k ∉ [9, 12, 14, 15, 16, 17, 22] → K3 0 k = K 0 k := fun k hp => hbA.2.1 k (ne_of_nin hp (by decide)) (ne_of_nin hp (by decide)) (ne_of_nin hp (by decide)) (ne_of_nin hp (by decide)) (ne_of_nin hp (by decide)) (ne_of_nin hp (by decide)) (ne_of_nin hp (by decide))
    exact h.refT hC hP hF h19 i1 hbA.2.2.1 (h.1.L hC hP hF (by decide) (by decide) (by decide)) (h.hr hC (by decide)) (by decide) (by decide) (by decide)
