/-! calls by both, seven: rule, law, walk -/
theorem SG_ext {sp str tl row row2 : Nat → Int32} {n c rs a : Nat} {rv : RV} (hn : n ≤ 8) (h : ∀ j, j < 29 → row2 j = row j) : m_SG sp str tl n c rs rv row2 a = m_SG sp str tl n c rs rv row a := by
  have hcy : m_cy row2 n = m_cy row n := by rw [m_cy_bt, m_cy_bt]; exact bt_ext n (fun b hb => h _ (by omega))
  have hfo : ∀ mo st y, m_fo rs rv str tl row2 mo st y n = m_fo rs rv str tl row mo st y n := fun mo st y => (fo_eq (z := rs) (rs := rs) Iff.rfl n (fun b hb => ⟨rfl, rfl, rfl⟩)).symm.trans (fo_eq (z := rs) (rs := rs) Iff.rfl n (fun b hb => ⟨rfl, rfl, h b (by omega)⟩))
  unfold m_SG m_FR
  rw [hcy, hfo, h 25 (by decide)]
theorem NX_ext {sp str tl row row2 : Nat → Int32} {n c rs a : Nat} {rv : RV} (hn : n ≤ 8) (h : ∀ j, j < 29 → row2 j = row j) : ∀ j, j < 29 → m_NX sp str tl n c rs rv row2 a j = m_NX sp str tl n c rs rv row a j := by
  intro j hj
  unfold m_NX
  rw [SG_ext hn h]
  by_cases j24 : j = 24
  · rw [j24, gs_24, gs_24, h 24 (by decide)]
  · by_cases j27 : j = 27
    · rw [j27, gs_27, gs_27]
    · by_cases j28 : j = 28
      · rw [j28, gs_28, gs_28, h 28 (by decide)]
      · by_cases hjn : j < n
        · rw [gs_lo hn hjn, gs_lo hn hjn]
          unfold m_g1
          rw [h (8 + j) (by omega), h j hj]
        · rw [gs_hi (by omega) ⟨j24, j27, j28⟩, gs_hi (by omega) ⟨j24, j27, j28⟩, h j hj]
theorem fi_ext {sp str tl : Nat → Int32} {n c rs : Nat} {rv : RV} (hn : n ≤ 8) : ∀ k (row row2 : Nat → Int32) a, (∀ j, j < 29 → row2 j = row j) → m_fi sp str tl n c rs rv k row2 a = m_fi sp str tl n c rs rv k row a
  | 0, _, _, _, _ => rfl
  | k + 1, row, row2, a, h => by
    simp only [m_fi]
    rw [SG_ext hn h, fi_ext hn k _ _ (a + 1) (NX_ext hn h)]
theorem fi_rng {sp str tl : Nat → Int32} {n c rs : Nat} {rv : RV} : ∀ k (row : Nat → Int32) a, a + k ≤ 12 → m_fi sp str tl n c rs rv k row a = 12 ∨ ∃ j, j < 12 ∧ m_fi sp str tl n c rs rv k row a = nI j
  | 0, _, _, _ => Or.inl rfl
  | k + 1, row, a, h => by
    simp only [m_fi]
    split
    · exact Or.inr ⟨a, by omega, rfl⟩
    · exact fi_rng k _ (a + 1) (by omega)
theorem fi_c12 {v : Int32} (h : v = 12 ∨ ∃ j, j < 12 ∧ v = nI j) : (if (if v = 12 then (-2 : Int32) else v) < 0 then 12 else (if v = 12 then (-2 : Int32) else v)) = v := by
  rcases h with e | ⟨j, hj, e⟩
  · rw [if_pos e, if_pos (by decide), e]
  · have h1 : ¬ v = 12 := by
      rw [e]
      intro q
      have := (nI_eq (a := j) (b := 12) (by omega) (by omega)).mp q
      omega
    rw [if_neg h1, if_neg (by rw [e]; exact nI_pos (by omega))]
theorem rC_len {t : Nat → Nat} {N : Nat} (ht : ∀ k, k < N → t k < 256) (h40 : N ≤ 40) (h4 : rS4 t N = (true, N)) : (rC t N).length ≤ 40 ∧ ((rC t N).length = 0 ↔ N = 0) := by
  by_cases h0 : N = 0
  · have : rC t N = [] := if_pos h0
    rw [this]
    exact ⟨by decide, fun _ => h0, fun _ => rfl⟩
  · have e : rC t N = (rE t N 4 (true, 0)).2.1 := by rw [rC, if_neg h0, Nat.min_eq_left h40]
    have hE := rS4_rE (by omega) h40 h4
    have hp := pay_rE (t := t) (E := N) 4 (true, 0)
    rw [hE] at hp
    rw [e]
    refine ⟨by simp only at hp; omega, fun q => ?_, fun q => absurd q h0⟩
    have hc := cmp_rE ht 4 (fun _ => 0) (true, 0) [] (by rw [hE])
    rw [List.length_eq_zero_iff.mp q] at hc
    cases hc
/-- the new rule, by the class -/
theorem RC_n {I3 : Nat → Nat → Int32} {t : Nat → Nat} {N q : Nat} (hq : q = 31 ∨ q = 35) (ht : ∀ k, k < N → t k < 256) (h40 : N ≤ 40) (h4 : rS4 t N = (true, N)) (hS : cS q I3 (rC t N)) (d : Nat) : RC d q (I3 (q + 1)) (rC t N).length (rvT t N) := by
  have hl := rC_len ht h40 h4
  by_cases h0 : N = 0
  · have hz := hl.2.mpr h0
    rw [hz]
    exact ⟨by omega, fun w => absurd w (Nat.lt_irrefl 0)⟩
  · have e : rC t N = (rE t N 4 (true, 0)).2.1 := by rw [rC, if_neg h0, Nat.min_eq_left h40]
    have hE := rS4_rE (by omega) h40 h4
    rcases hq with rfl | rfl
    · exact RC_t31 ht hl.1 hS.2 (by rw [hE]) e
    · exact RC_t35 ht hl.1 hS.2 (by rw [hE]) e
theorem RU_n {g : Nat → Int32} {t : Nat → Nat} {N rp : Nat} (hrp : rp = 9 ∨ rp = 10) (ht : ∀ k, k < N → t k < 256) (h40 : N ≤ 40) (h4 : rS4 t N = (true, N)) (hg : ∀ k, k < N → g k = bI (t k)) (d : Nat) : RU d rp g N (rvT t N) := by
  by_cases h0 : N = 0
  · rw [h0]
    exact ⟨hrp, by omega, fun w => absurd w (Nat.lt_irrefl 0)⟩
  · exact RU_t hrp h40 (fun k hk => ⟨hg k hk, ht k hk⟩) (rS4_rE (by omega) h40 h4)
theorem bF.P {K K3 : Nat → Nat → Int32} (h : bF K K3) : (∀ p, p ∉ [0] → K3 p = K p) ∧ ∀ k, k ∉ [9, 12, 14, 15, 16, 17, 22] → K3 0 k = K 0 k := ⟨fun p hp => h.1 p (ne_of_nin hp (by decide)), fun k hp => h.2.1 k (ne_of_nin hp (by decide)) (ne_of_nin hp (by decide)) (ne_of_nin hp (by decide)) (ne_of_nin hp (by decide)) (ne_of_nin hp (by decide)) (ne_of_nin hp (by decide)) (ne_of_nin hp (by decide))⟩
theorem eC.P {q : Nat} {I I3 : Nat → Nat → Int32} (h : eC q I I3) : ∀ p, p ∉ [1, q, q + 1] → I3 p = I p := fun p hp => h p (ne_of_nin hp (by simp)) (ne_of_nin hp (by simp)) (ne_of_nin hp (by simp))
/-- a rule's text refused, or told to nobody -/
theorem RB.refR {n c ns a p q z rs u x m no nc N ce k : Nat} {rv : RV} {t : Nat → Nat} {I K : Nat → Nat → Int32} {J L : Nat → Nat → Int64} {R S : Nat → Nat → Value} (h : RB n c ns a p q z rs u x m no nc N ce k rv t I J R K L S) {I3 K3 : Nat → Nat → Int32} {S3 : Nat → Nat → Value} (he : eC q I I3) (i1 : I3 1 1 = 0) (hb : bF K K3) (hS : S3 0 19 = S 0 19) : REL (k + 1) (I3, J, R) (K3, L, S3) := by
  have hpq := h.2.2.1.2.2.1
  have hC := he.P
  rcases hpq with ⟨rfl, rfl⟩ | ⟨rfl, rfl⟩
  · exact h.refT hC hb.P.1 hb.P.2 hS i1 hb.2.2.1 (h.1.L hC hb.P.1 hb.P.2 (by decide) (by decide) (by decide)) ⟨hC 31 (by decide), hC 32 (by decide)⟩ (by decide) (by decide) (by decide)
  · exact h.refT hC hb.P.1 hb.P.2 hS i1 hb.2.2.1 (h.1.L hC hb.P.1 hb.P.2 (by decide) (by decide) (by decide)) ⟨hC 35 (by decide), hC 36 (by decide)⟩ (by decide) (by decide) (by decide)
/-- a new rule -/
theorem RB.newR {n c ns a p q z rs u x m no nc N ce k : Nat} {rv : RV} {t : Nat → Nat} {I K : Nat → Nat → Int32} {J L : Nat → Nat → Int64} {R S : Nat → Nat → Value} (h : RB n c ns a p q z rs u x m no nc N ce k rv t I J R K L S) {I3 K3 : Nat → Nat → Int32} {S3 : Nat → Nat → Value} (he : eC q I I3) (i1 : I3 1 1 = 0) (hS3 : cS q I3 (rC t N)) (g19 : S3 0 19 = .ref 9) (k9 : K3 0 9 = 0) (k21 : K3 0 21 = nI N) (h40 : N ≤ 40) (e4 : rS4 t N = (true, N)) (g9 : ∀ k, k < N → K3 9 k = bI (t k)) (hm : ∀ p, p ≠ 0 → p ≠ 9 → K3 p = K p) (hk : ∀ k, k ≠ 9 → k ≠ 12 → k ≠ 14 → k ≠ 15 → k ≠ 16 → k ≠ 17 → k ≠ 22 → k ≠ 21 → K3 0 k = K 0 k) : REL (k + 1) (I3, J, ti_wf (ti_wf R 0 11 (.ref q)) 0 12 (.ref p)) (K3, L, S3) := by
  have ht : ∀ k, k < N → t k < 256 := fun k hk => (h.2.2.2.2.2.2.1.1.2.2 k hk).2
  have hl := rC_len ht h40 e4
  obtain ⟨h1, h2, h3, h4, h5, h6, h7, h8, h9, h10⟩ := h
  have hC := he.P
  have hP : ∀ p, p ∉ [0, 9] → K3 p = K p := fun p hp => hm p (ne_of_nin hp (by decide)) (ne_of_nin hp (by decide))
  have hF : ∀ k, k ∉ [9, 12, 14, 15, 16, 17, 22, 21] → K3 0 k = K 0 k := fun k hp => hk k (ne_of_nin hp (by decide)) (ne_of_nin hp (by decide)) (ne_of_nin hp (by decide)) (ne_of_nin hp (by decide)) (ne_of_nin hp (by decide)) (ne_of_nin hp (by decide)) (ne_of_nin hp (by decide)) (ne_of_nin hp (by decide))
  have hq2 : q = 31 ∨ q = 35 := h3.2.2.1.elim (fun e => Or.inr e.2) (fun e => Or.inl e.2)
  have hpq2 : (q = 31 ∧ p = 35) ∨ (q = 35 ∧ p = 31) := h3.2.2.1.elim (fun e => Or.inr ⟨e.2, e.1⟩) (fun e => Or.inl ⟨e.2, e.1⟩)
  have hr : rRule I3 (ti_wf (ti_wf R 0 11 (.ref q)) 0 12 (.ref p)) K3 S3 q p (rC t N).length N (rvT t N) := ⟨by simp [ti_wf, va_up], by simp [ti_wf, va_up], hpq2, hS3.1, RC_n hq2 ht h40 e4 hS3, g19, k21, RU_n (Or.inl rfl) ht h40 e4 g9, hl.2⟩
  rcases hq2 with rfl | rfl
  · refine ⟨n, c, ns, a, 31, p, _, N, u, x, m, no, nc, 0, ce, _, t, h1.L hC hP hF (by decide) (by decide) (by decide), h2.L hC hP (by decide) (by decide), hr, h4.L hC hP hF (by decide) (by decide) (by decide), h5.L hC hP hF (by decide) (by decide) (by decide), h6.L hP hF (by decide) (by decide), rText.e i1 k9, h8.L hC hF (by decide) (by decide), h9.L hC hP hF (by decide) (by decide) (by decide), h10.L hC hP hF (by decide) (by decide) (by decide)⟩
  · refine ⟨n, c, ns, a, 35, p, _, N, u, x, m, no, nc, 0, ce, _, t, h1.L hC hP hF (by decide) (by decide) (by decide), h2.L hC hP (by decide) (by decide), hr, h4.L hC hP hF (by decide) (by decide) (by decide), h5.L hC hP hF (by decide) (by decide) (by decide), h6.L hP hF (by decide) (by decide), rText.e i1 k9, h8.L hC hF (by decide) (by decide), h9.L hC hP hF (by decide) (by decide) (by decide), h10.L hC hP hF (by decide) (by decide) (by decide)⟩
theorem b_rule {n c ns a p q z rs u x m no nc N ce k : Nat} {rv : RV} {t : Nat → Nat} {I K : Nat → Nat → Int32} {J L : Nat → Nat → Int64} {R S : Nat → Nat → Value} (h : RB n c ns a p q z rs u x m no nc N ce k rv t I J R K L S)  : Bo hX11_rule 3 hX12_rule 3 [] k I J R K L S := by
  have hst := h.1.1
  have hn8 := hst.2.1
  have hc12 := hst.2.2.2.1
  have hns8 := hst.2.2.2.2.2.2.1
  have hkn := h.1.2.1
  have hkc := h.1.2.2.1
  have hkns := h.1.2.2.2.1
  have sr := h.2.1.1
  have ws := h.2.1.2
  have hp := h.2.2.1.1
  have hz := h.2.2.1.2.2.2.2.2.2.2.2
  have ha := ws.1
  have hac := ws.2.1
  have ha12 : a ≤ 12 := Nat.le_trans hac hc12
  have hcy := sr.cy
  have ha39 : I 39 1 = nI a := sr.1.trans ws.1
  have hrow := h.2.2.2.2.2.2.2.1
  have hT := h.2.2.2.2.2.2.1
  have hq := h.2.2.1.2.1
  have h9 := h.2.2.1.2.2.2.2.2.1
  by_cases hok : (sFin N (rS4 t N)).1 = true
  · have hM := c_rule1 (d := 0) (J := L) hT.2 hok h9
    rcases h.2.2.1.2.2.1 with ⟨rfl, rfl⟩ | ⟨rfl, rfl⟩
    · refine Bo.of (k_rule1_31 (d := 0) hT.1 hp hq hok) hM (by omega) (by omega) ?_
      rintro _ _ ⟨I3, rfl, he, i1, hS3, _⟩ ⟨K3, S3, rfl, g19, k9, _, k21, h40, e4, g9, hm, hk⟩
      exact h.newR he i1 hS3 g19 k9 k21 h40 e4 g9 hm hk
    · refine Bo.of (k_rule1_35 (d := 0) hT.1 hp hq hok) hM (by omega) (by omega) ?_
      rintro _ _ ⟨I3, rfl, he, i1, hS3, _⟩ ⟨K3, S3, rfl, g19, k9, _, k21, h40, e4, g9, hm, hk⟩
      exact h.newR he i1 hS3 g19 k9 k21 h40 e4 g9 hm hk
  · have hof : (sFin N (rS4 t N)).1 = false := by
      cases e : (sFin N (rS4 t N)).1
      · rfl
      · exact absurd e hok
    have hM := c_rule0 (d := 0) (J := L) (R := S) hT.2 hof
    rw [sFin_2] at hM
    rcases h.2.2.1.2.2.1 with ⟨rfl, rfl⟩ | ⟨rfl, rfl⟩
    · refine Bo.of (k_rule0_31 (d := 0) hT.1 hp hq hok) hM (by omega) (by omega) ?_
      rintro _ _ ⟨I3, rfl, he, i1⟩ ⟨K3, S3, rfl, hb, hS⟩
      exact h.refR he i1 hb hS
    · refine Bo.of (k_rule0_35 (d := 0) hT.1 hp hq hok) hM (by omega) (by omega) ?_
      rintro _ _ ⟨I3, rfl, he, i1⟩ ⟨K3, S3, rfl, hb, hS⟩
      exact h.refR he i1 hb hS
theorem ST.e {I I2 : Nat → Nat → Int32} {sp str tl sy : Nat → Int32} {n c ns q : Nat} (h : ST I sp str tl sy n c ns) (hq : q = 31 ∨ q = 35) (he : eC q I I2) : ST I2 sp str tl sy n c ns := by
  unfold ST
  rcases hq with rfl | rfl
  · rw [he 8 (by decide) (by decide) (by decide), he 5 (by decide) (by decide) (by decide), he 11 (by decide) (by decide) (by decide), he 6 (by decide) (by decide) (by decide), he 9 (by decide) (by decide) (by decide), he 10 (by decide) (by decide) (by decide), he 12 (by decide) (by decide) (by decide), he 13 (by decide) (by decide) (by decide), he 14 (by decide) (by decide) (by decide)]
    exact h
  · rw [he 8 (by decide) (by decide) (by decide), he 5 (by decide) (by decide) (by decide), he 11 (by decide) (by decide) (by decide), he 6 (by decide) (by decide) (by decide), he 9 (by decide) (by decide) (by decide), he 10 (by decide) (by decide) (by decide), he 12 (by decide) (by decide) (by decide), he 13 (by decide) (by decide) (by decide), he 14 (by decide) (by decide) (by decide)]
    exact h
theorem k_lawA {I : Nat → Nat → Int32} {J : Nat → Nat → Int64} {R : Nat → Nat → Value} {t : Nat → Nat} {d N p q : Nat} (hpq : (p = 31 ∧ q = 35) ∨ (p = 35 ∧ q = 31)) (hT : cT I t N) (hp : R 0 11 = .ref p) (hq : R 0 12 = .ref q) {vo vr : Int32} (hok : (sFin N (rS4 t N)).1 = true) (h3 : ¬ I 39 3 = 0) (ho : ∀ I2, eC q I I2 → cS q I2 (rC t N) → Cal lyC (d + 66) hX3_firstStagger 4 [.ref 18, .ref 39, .ref q] (I2, J, R) (fun r M' => r = some (.int vo) ∧ ∃ I3, M' = (I3, J, R) ∧ fC I2 I3 ∧ I3 3 = I2 3)) (hr : ∀ I2 I3, eC q I I2 → fC I2 I3 → Cal lyC (d + 66) hX3_firstStagger 4 [.ref 18, .ref 39, .ref p] (I3, J, R) (fun r M' => r = some (.int vr) ∧ ∃ I4, M' = (I4, J, R) ∧ fC I3 I4 ∧ I4 3 = I3 3)) : Cal lyC (d + 67) hX11_law 4 [.ref 0] (I, J, R) (fun r M' => r = some (.int ((if vo < 0 then 12 else vo) - (if vr < 0 then 12 else vr))) ∧ ∃ I2 I4, M' = (ti_wr I4 3 1 (nI 2), ti_wl (ti_wl J 4 0 (if vo < 0 then 12 else vo).toInt64) 4 1 (if vr < 0 then 12 else vr).toInt64, R) ∧ eC q I I2 ∧ I2 1 1 = 0 ∧ cS q I2 (rC t N) ∧ (rS4 t N).2 ≤ min N 40 ∧ fC I2 I4 ∧ True) := by
  rcases hpq with ⟨rfl, rfl⟩ | ⟨rfl, rfl⟩
  · exact k_law_31 hT hp hq hok h3 ho hr
  · exact k_law_35 hT hp hq hok h3 ho hr
theorem rS4_s {t : Nat → Nat} {N : Nat} (h : (rS4 t N).2 ≤ min N 40) (hok : (sFin N (rS4 t N)).1 = true) : N ≤ 40 ∧ rS4 t N = (true, N) := rS4_ok h hok
theorem b_law {n c ns a p q z rs u x m no nc N ce k : Nat} {rv : RV} {t : Nat → Nat} {I K : Nat → Nat → Int32} {J L : Nat → Nat → Int64} {R S : Nat → Nat → Value} (h : RB n c ns a p q z rs u x m no nc N ce k rv t I J R K L S)  : Bo hX11_law 4 hX12_law 6 [] k I J R K L S := by
  have hst := h.1.1
  have hn8 := hst.2.1
  have hc12 := hst.2.2.2.1
  have hns8 := hst.2.2.2.2.2.2.1
  have hkn := h.1.2.1
  have hkc := h.1.2.2.1
  have hkns := h.1.2.2.2.1
  have sr := h.2.1.1
  have ws := h.2.1.2
  have hp := h.2.2.1.1
  have hz := h.2.2.1.2.2.2.2.2.2.2.2
  have ha := ws.1
  have hac := ws.2.1
  have ha12 : a ≤ 12 := Nat.le_trans hac hc12
  have hcy := sr.cy
  have ha39 : I 39 1 = nI a := sr.1.trans ws.1
  have hrow := h.2.2.2.2.2.2.2.1
  have hT := h.2.2.2.2.2.2.1
  have hq := h.2.2.1.2.1
  have h9 := h.2.2.1.2.2.2.2.2.1
  have hpq := h.2.2.1.2.2.1
  have hq2 : q = 31 ∨ q = 35 := hpq.elim (fun e => Or.inr e.2) (fun e => Or.inl e.2)
  have ht : ∀ k, k < N → t k < 256 := fun k hk => (hT.1.2.2 k hk).2
  by_cases hok : (sFin N (rS4 t N)).1 = true
  · by_cases h0 : m_cy (K 1) n = 0
    · have hM := c_law2 (d := 0) (J := L) (R := S) hT.2 hkn hn8 hok h0
      rcases hpq with ⟨rfl, rfl⟩ | ⟨rfl, rfl⟩
      · refine Bo.of (k_law2_31 (d := 0) hT.1 hp hq hok (hcy.trans h0)) hM (by omega) (by omega) ?_
        rintro _ _ ⟨I3, rfl, he, i1⟩ ⟨K3, S3, rfl, hb, hS⟩
        exact h.refR he i1 hb hS
      · refine Bo.of (k_law2_35 (d := 0) hT.1 hp hq hok (hcy.trans h0)) hM (by omega) (by omega) ?_
        rintro _ _ ⟨I3, rfl, he, i1⟩ ⟨K3, S3, rfl, hb, hS⟩
        exact h.refR he i1 hb hS
    · have h3c : ¬ I 39 3 = 0 := by rw [hcy]; exact h0
      -- the rule's text is right
      obtain ⟨f0, r0, M0, hx0, hq0⟩ := k_read_31 (d := 0) (J := J) (R := R) hT.1
      obtain ⟨_, _, _, _, _, _, hle⟩ := hq0
      obtain ⟨h40, e4⟩ := rS4_s hle hok
      have hzl := (rC_len ht h40 e4).2
      have hwa : m_fi (K 2) (K 3) (K 4) n c rs rv (c - a) (m_tn (K 1) (K 14)) a = m_fi (K 2) (K 3) (K 4) n c rs rv (c - a) (K 1) a := fi_ext hn8 _ _ _ _ (fun j hj => tn_lo hj)
      have r1 := fi_rng (sp := K 2) (str := K 3) (tl := K 4) (n := n) (c := c) (rs := rs) (rv := rv) (c - a) (K 1) a (by omega)
      have r2 := fi_rng (sp := K 2) (str := K 3) (tl := K 4) (n := n) (c := c) (rs := N) (rv := rvT t N) (c - a) (K 1) a (by omega)
      have hC := k_lawA (d := 0) (J := J) hpq hT.1 hp hq (vo := if m_fi (K 2) (K 3) (K 4) n c N (rvT t N) (c - a) (K 1) a = 12 then -2 else m_fi (K 2) (K 3) (K 4) n c N (rvT t N) (c - a) (K 1) a) (vr := if m_fi (K 2) (K 3) (K 4) n c rs rv (c - a) (K 1) a = 12 then -2 else m_fi (K 2) (K 3) (K 4) n c rs rv (c - a) (K 1) a) hok h3c (fun I2 he hS => by
          have st2 := hst.e hq2 he
          have n39 : I2 39 = I 39 := he 39 (by decide) (by rcases hq2 with e | e <;> rw [e] <;> decide) (by rcases hq2 with e | e <;> rw [e] <;> decide)
          have n40 : I2 40 = I 40 := he 40 (by decide) (by rcases hq2 with e | e <;> rw [e] <;> decide) (by rcases hq2 with e | e <;> rw [e] <;> decide)
          have kA2 : kA I2 60 n c q (rC t N).length (rvT t N) := ⟨st2.1, hn8, st2.2.2.1, hc12, hq2, hS.1, RC_n hq2 ht h40 e4 hS 60⟩
          exact k_firstStagger kA2 st2 hzl (by rw [n39, n40]; exact sr) ws h0) (fun I2 I3 he hf => by
          have st2 := hst.e hq2 he
          have n39 : I3 39 = I 39 := (hf.1 39 rfl).trans (he 39 (by decide) (by rcases hq2 with e | e <;> rw [e] <;> decide) (by rcases hq2 with e | e <;> rw [e] <;> decide))
          have n40 : I3 40 = I 40 := (hf.1 40 rfl).trans (he 40 (by decide) (by rcases hq2 with e | e <;> rw [e] <;> decide) (by rcases hq2 with e | e <;> rw [e] <;> decide))
          have np : I3 p = I p ∧ I3 (p + 1) = I (p + 1) := by
            rcases hpq with ⟨e1, e2⟩ | ⟨e1, e2⟩ <;> subst e1 <;> subst e2
            · exact ⟨(hf.1 31 rfl).trans (he 31 (by decide) (by decide) (by decide)), (hf.1 32 rfl).trans (he 32 (by decide) (by decide) (by decide))⟩
            · exact ⟨(hf.1 35 rfl).trans (he 35 (by decide) (by decide) (by decide)), (hf.1 36 rfl).trans (he 36 (by decide) (by decide) (by decide))⟩
          have st3 := st2.f hf
          have k0 := h.kA 60
          have kA3 : kA I3 60 n c p z rv := ⟨st3.1, hn8, st3.2.2.1, hc12, k0.2.2.2.2.1, by rw [np.1]; exact k0.2.2.2.2.2.1, by rw [np.2]; exact k0.2.2.2.2.2.2⟩
          exact k_firstStagger kA3 st3 hz (by rw [n39, n40]; exact sr) ws h0)
      rw [fi_c12 r1, fi_c12 r2] at hC
      have hM := c_law (d := 0) (J := L) (by0 := m_fi (K 2) (K 3) (K 4) n c N (rvT t N) (c - a) (K 1) a) (wa0 := m_fi (K 2) (K 3) (K 4) n c rs rv (c - a) (K 1) a) hT.2 hkn hn8 h.2.2.1.2.2.2.2.2.2.1 h9 hok h0 (fun K2 S2 hb hS => by
          have m2 : mA K2 S2 0 n c 9 rs rv := by
            have := h.mA 0
            unfold mA at this ⊢
            rw [hb.k 3 rfl, hb.k 1 rfl, hb.k 21 rfl, hS, hb.p 9 rfl]
            exact this
          have := c_firstOf (J := L) m2 (by rw [hb.p 1 rfl]; exact ha) hac sM.rf
          rw [hb.p 2 rfl, hb.p 3 rfl, hb.p 4 rfl, hb.p 1 rfl, hb.p 14 rfl, hwa] at this
          exact this) (fun K2 S2 K3 S3 row2 K4 hb hS hs _ _ h4 g10 => by
          have q0 : ∀ k, (k != 14 && (k != 15 && (k != 16 && (k != 17 && k != 22)))) = true → ¬ k = 21 → K4 0 k = K2 0 k := fun k hk k21 => by
            rw [h4 0 (by decide), wr_ne k21, hs.f k hk, va_up_n (by decide)]
          have qp : ∀ p, p ≠ 0 → p ≠ 10 → p ≠ 11 → p ≠ 14 → K4 p = K p := fun p p0 p1 p2 p3 => by
            rw [h4 p p1, ti_wr_n p0, hs.1 p p0 p2, va_up_n p3, hb.1 p p0]
          have m4 : mA K4 (ti_wf S3 0 19 (.ref 10)) 0 n c 10 N (rvT t N) := by
            refine ⟨?_, hn8, ?_, hc12, ?_, by simp [ti_wf, va_up], RU_n (Or.inr rfl) ht h40 e4 g10 0⟩
            · rw [q0 3 rfl (by decide), hb.k 3 rfl]; exact hkn
            · rw [q0 1 rfl (by decide), hb.k 1 rfl]; exact hkc
            · rw [h4 0 (by decide), ti_wr_at]
          have := c_firstOf (J := L) m4 (by rw [qp 1 (by decide) (by decide) (by decide) (by decide)]; exact ha) hac sM.rf
          rw [qp 2 (by decide) (by decide) (by decide) (by decide), qp 3 (by decide) (by decide) (by decide) (by decide), qp 4 (by decide) (by decide) (by decide) (by decide), qp 1 (by decide) (by decide) (by decide) (by decide), fi_ext hn8 _ (K 1) _ _ (fun j hj => tn_lo hj)] at this
          exact this)
      refine Bo.of hC hM (by omega) (by omega) ?_
      rintro _ _ ⟨I2, I4, rfl, he, i1, hS3, _, hf, _⟩ ⟨K3, S3, rfl, g19, k21, k11, k9, _, hm, hk⟩
      obtain ⟨h1, h2, h3, h4, h5, h6, h7, h8, h9x, h10⟩ := h
      have hCb : ∀ p, fS p = false → p ∉ [1, q, q + 1] → ti_wr I4 3 1 (nI 2) p = I p := fun p hp hp2 => by
        rw [ti_wr_n (by intro e; subst e; revert hp; decide), hf.1 p hp]
        exact he.P p hp2
      have hP : ∀ p, p ∉ [0, 10, 11, 14] → K3 p = K p := fun p hp => hm p (ne_of_nin hp (by decide)) (ne_of_nin hp (by decide)) (ne_of_nin hp (by decide)) (ne_of_nin hp (by decide))
      have hF : ∀ k, k ∉ [11, 9, 12, 14, 15, 16, 17, 21, 22] → K3 0 k = K 0 k := fun k hp => hk k (ne_of_nin hp (by decide)) (ne_of_nin hp (by decide)) (ne_of_nin hp (by decide)) (ne_of_nin hp (by decide)) (ne_of_nin hp (by decide)) (ne_of_nin hp (by decide)) (ne_of_nin hp (by decide)) (ne_of_nin hp (by decide)) (ne_of_nin hp (by decide))
      have hC3 : ∀ p, p ∉ 1 :: q :: (q + 1) :: [3, 7, 18, 19, 20, 21, 22, 23, 29, 30, 33, 34, 37, 38, 41, 42, 43, 44] → ti_wr I4 3 1 (nI 2) p = I p := fun p hp => by
        refine hCb p ?_ (fun w => hp ?_)
        · cases e : fS p
          · rfl
          · exfalso
            apply hp
            unfold fS at e
            simp only [Bool.or_eq_true, beq_iff_eq] at e
            simp only [List.mem_cons, List.not_mem_nil, or_false]
            omega
        · simp only [List.mem_cons, List.not_mem_nil, or_false] at w ⊢
          omega
      have hn : ∀ p, p ∉ 1 :: 35 :: 36 :: [3, 7, 18, 19, 20, 21, 22, 23, 29, 30, 33, 34, 37, 38, 41, 42, 43, 44] ++ [31, 32] → ti_wr I4 3 1 (nI 2) p = I p := fun p hp => hC3 p (by
        simp only [List.mem_cons, List.mem_append, List.not_mem_nil, or_false] at hp ⊢
        omega)
      have np : ti_wr I4 3 1 (nI 2) p = I p ∧ ti_wr I4 3 1 (nI 2) (p + 1) = I (p + 1) := by
        rcases hpq with ⟨e1, e2⟩ | ⟨e1, e2⟩ <;> subst e1 <;> subst e2
        · exact ⟨hC3 31 (by decide), hC3 32 (by decide)⟩
        · exact ⟨hC3 35 (by decide), hC3 36 (by decide)⟩
      have i23 : ∀ k, I2 23 k = I 23 k := fun k => by rw [he 23 (by decide) (by rcases hq2 with e | e <;> rw [e] <;> decide) (by rcases hq2 with e | e <;> rw [e] <;> decide)]
      have t11 : ti_wr I4 3 1 (nI 2) 1 1 = 0 := by rw [ti_wr_n (by decide), hf.1 1 rfl]; exact i1
      have e31 : ti_wr I4 3 1 (nI 2) 3 1 = nI 2 := ti_wr_at
      have e234 : ti_wr I4 3 1 (nI 2) 23 4 = I 23 4 := by rw [ti_wr_n (by decide), hf.2.1, i23]
      have e238 : ti_wr I4 3 1 (nI 2) 23 8 = I 23 8 := by rw [ti_wr_n (by decide), hf.2.2, i23]
      refine ⟨n, c, ns, a, p, q, z, rs, u, x, 2, no, nc, 0, ce, rv, t, ?_, ?_, ?_, ?_, ?_, ?_, ?_, ?_, ?_, ?_⟩
      · exact h1.L hn hP hF (by decide) (by decide) (by decide)
      · exact h2.L hn hP (by decide) (by decide)
      · exact h3.cg np ⟨rfl, rfl⟩ (hP 9 (by decide)) (k21.trans h3.2.2.2.2.2.2.1.symm) (g19.trans h3.2.2.2.2.2.1.symm)
      · exact h4.L hn hP hF (by decide) (by decide) (by decide)
      · exact h5.L hn hP hF (by decide) (by decide) (by decide)
      · exact h6.L hP hF (by decide) (by decide)
      · exact rText.e t11 k9
      · refine ⟨e31, by omega, k11, fun j hj => ?_⟩
        show ti_wl (ti_wl J 4 0 _) 4 1 _ 4 j = ti_wl (ti_wl L 7 0 _) 7 1 _ 7 j
        rcases (by omega : j = 0 ∨ j = 1) with e | e
        · rw [e, wl_ne (by decide), ti_wl_at, wl_ne (by decide), ti_wl_at]
        · rw [e, ti_wl_at, ti_wl_at]
      · exact h9x.cg e234 (hn 24 (by decide)) (hn 25 (by decide)) (hP 18 (by decide)) (hP 19 (by decide)) (hF 33 (by decide))
      · exact h10.cg e238 (hn 26 (by decide)) (hn 27 (by decide)) (hn 28 (by decide)) (hP 21 (by decide)) (hF 37 (by decide))
  · have hof : (sFin N (rS4 t N)).1 = false := by
      cases e : (sFin N (rS4 t N)).1
      · rfl
      · exact absurd e hok
    have hM := c_law0 (d := 0) (J := L) (R := S) hT.2 hof
    rw [sFin_2] at hM
    rcases hpq with ⟨rfl, rfl⟩ | ⟨rfl, rfl⟩
    · refine Bo.of (k_law0_31 (d := 0) hT.1 hp hq hok) hM (by omega) (by omega) ?_
      rintro _ _ ⟨I3, rfl, he, i1⟩ ⟨K3, S3, rfl, hb, hS⟩
      exact h.refR he i1 hb hS
    · refine Bo.of (k_law0_35 (d := 0) hT.1 hp hq hok) hM (by omega) (by omega) ?_
      rintro _ _ ⟨I3, rfl, he, i1⟩ ⟨K3, S3, rfl, hb, hS⟩
      exact h.refR he i1 hb hS
