/-! calls by both, six: way, bearers, sayings -/
theorem sFin_t {N : Nat} {s : PS} (h : (sFin N s).1 = true) : s.1 = true := by
  have := sFin_ok h
  rw [this] at h
  exact h
theorem num1 {t : Nat → Nat} {E lo hi : Nat} {s : PS} : (sNum t E 1 lo hi s).1 ≤ 9 := by
  have h3 := sdig_v (t := t) (E := E) 1 0 s.2
  unfold sNum
  split
  · split
    · show 0 ≤ 9; omega
    · split
      · show (sdig t E 1 0 s.2).1 ≤ 9; omega
      · show (sdig t E 1 0 s.2).1 ≤ 9; omega
  · show 0 ≤ 9; omega
theorem nm_ok {t : Nat → Nat} {E m lo hi : Nat} {s : PS} (h : (sNum t E m lo hi s).2.1 = true) : s.1 = true ∧ (sNum t E m lo hi s).1 ≤ hi := by
  unfold sNum at h ⊢
  split at h
  · next h1 =>
    split at h
    · cases h
    · next h2 =>
      split at h
      · cases h
      · next h3 =>
        rw [if_pos h1, if_neg h2, if_neg h3]
        exact ⟨h1, by show (sdig t E m 0 s.2).1 ≤ hi; omega⟩
  · next h1 => exact absurd h h1
theorem kn_f {t : Nat → Nat} {E : Nat} : ∀ f l s c, (kn t E f l s c).2.1 = true → s.1 = true
  | 0, _, _, _, h => h
  | f + 1, l, s, c, h => by
    by_cases q : s.1 = true ∧ s.2 < E ∧ 97 + l ≤ t s.2 ∧ t s.2 ≤ 100
    · exact q.1
    · rw [kn_n q] at h; exact h
theorem kn_15 {t : Nat → Nat} {E : Nat} : ∀ f l s c, c < 16 → ∃ c2, c2 ≤ 15 ∧ (kn t E f l s (nI c)).1 = nI c2
  | 0, _, _, c, h => ⟨c, by omega, rfl⟩
  | f + 1, l, s, c, h => by
    by_cases q : s.1 = true ∧ s.2 < E ∧ 97 + l ≤ t s.2 ∧ t s.2 ≤ 100
    · rw [kn_s q]
      have : ∀ c, c < 16 → ∀ w, w < 4 → ∃ c2, c2 < 16 ∧ nI c ||| ((1 : Int32) <<< (nI w &&& 31)) = nI c2 := by decide +kernel
      obtain ⟨c2, h2, e2⟩ := this c h (t s.2 - 97) (by omega)
      rw [e2]
      exact kn_15 f _ _ c2 h2
    · rw [kn_n q]; exact ⟨c, by omega, rfl⟩
theorem yS_ok {t : Nat → Nat} {E m i : Nat} {s : PS} (ht : ∀ k, k < E → t k < 256) (h : (yS t E m i s).1 = true) : yH t E s ≤ 20 := by
  unfold yS at h
  split at h
  · cases h
  · have h3 := kn_f _ _ _ _ h
    have h2 := (nm_ok h3).1
    have h1 : (y1 t E s).1 = true := by
      unfold y2 at h2
      split at h2
      · next q => exact (pkS_eq (by decide) ht q).1
      · exact sNeed_f (by decide) ht h2
    exact (nm_ok h1).2
theorem yl_ok {t : Nat → Nat} {E m n N : Nat} (ht : ∀ k, k < E → t k < 256) (hw : yEnd t E m n) (hok : (sFin N (yS t E m n (gS t E m n))).1 = true) : ∀ i, i < n + 1 → yH t E (gS t E m i) ≤ 20 := fun i hi => by
  rcases (by omega : i < n ∨ i = n) with q | q
  · exact yS_ok ht ((pkS_eq (by decide) ht (hw.2 i q)).1)
  · rw [q]; exact yS_ok ht (sFin_t hok)
/-- behind new ones, nothing is kept -/
theorem kept_0 {I3 K K3 : Nat → Nat → Int32} {n c ns ce k : Nat} (hk : k < 1000) (h : rCame K ce k) (h3 : I3 15 3 = 0) (h24 : K3 24 = K 24) (h39 : K3 0 39 = K 0 39 + 1) : rKept I3 K3 n c ns ∧ rCame K3 (ce + 1) (k + 1) := by
  obtain ⟨b1, b2, b3⟩ := h
  have e39 : K3 0 39 = nI (ce + 1) := by rw [h39, b1, nI_1]
  refine ⟨fun i hi => Or.inl ⟨?_, ?_⟩, e39, by omega, fun i hi => ?_⟩
  · rw [h3]
    have : ∀ i, i < 2 → k_b 0 (nI i) = 0 := by decide
    exact this i hi
  · rintro ⟨_, q⟩
    obtain ⟨y, e, hy⟩ := b3 i hi
    rw [h24, e39, e] at q
    have := (nI_eq (by omega) (by omega)).mp q
    omega
  · obtain ⟨y, e, hy⟩ := b3 i hi
    exact ⟨y, by rw [h24]; exact e, by omega⟩
theorem hist_0 {I3 K3 : Nat → Nat → Int32} {n c ns x : Nat} (h5 : I3 15 5 = 0) (h25 : K3 0 25 = 0) (h4 : I3 15 4 = nI x) (hx : x < 12) : rHist I3 K3 n c ns 0 x := ⟨h5, by omega, h25, h4, hx, fun i hi => absurd hi (Nat.not_lt_zero i)⟩
/-- a text refused by both: way, bearers, sayings, rule, walk -/
theorem RB.refT {n c ns a p q z rs u x m no nc N ce k : Nat} {rv : RV} {t : Nat → Nat} {I K : Nat → Nat → Int32} {J L : Nat → Nat → Int64} {R S : Nat → Nat → Value} (h : RB n c ns a p q z rs u x m no nc N ce k rv t I J R K L S) {I3 K3 : Nat → Nat → Int32} {S3 : Nat → Nat → Value} {cs ms fs : List Nat} (hC : ∀ p, p ∉ cs → I3 p = I p) (hP : ∀ p, p ∉ ms → K3 p = K p) (hF : ∀ k, k ∉ fs → K3 0 k = K 0 k) (hS : S3 0 19 = S 0 19) (e1 : I3 1 1 = 0) (e9 : K3 0 9 = 0) (hb : rBase I3 K3 n c ns) (hr : I3 p = I p ∧ I3 (p + 1) = I (p + 1)) (d1 : ∀ p ∈ 3 :: 39 :: 40 :: 23 :: 24 :: 25 :: 26 :: 27 :: 28 :: (LH ++ LK), p ∉ cs) (d2 : ∀ p ∈ [1, 9, 12, 18, 19, 21, 22, 23, 24], p ∉ ms) (d3 : ∀ k ∈ [11, 21, 25, 33, 37, 39], k ∉ fs) : REL (k + 1) (I3, J, R) (K3, L, S3) := by
  obtain ⟨h1, h2, h3, h4, h5, h6, h7, h8, h9, h10⟩ := h
  have f1 : ∀ p ∈ LH, p ∉ cs := fun p hp => d1 p (by simp only [List.mem_cons, List.mem_append]; exact Or.inr (Or.inr (Or.inr (Or.inr (Or.inr (Or.inr (Or.inr (Or.inr (Or.inr (Or.inl hp))))))))))
  have f2 : ∀ p ∈ LK, p ∉ cs := fun p hp => d1 p (by simp only [List.mem_cons, List.mem_append]; exact Or.inr (Or.inr (Or.inr (Or.inr (Or.inr (Or.inr (Or.inr (Or.inr (Or.inr (Or.inr hp))))))))))
  have g1 : ∀ p ∈ [3, 39, 40, 23, 24, 25, 26, 27, 28], p ∉ cs := fun p hp => d1 p (by
    have : ∀ p ∈ [3, 39, 40, 23, 24, 25, 26, 27, 28], p ∈ 3 :: 39 :: 40 :: 23 :: 24 :: 25 :: 26 :: 27 :: 28 :: (LH ++ LK) := by decide
    exact this p hp)
  refine ⟨n, c, ns, a, p, q, z, rs, u, x, m, no, nc, 0, ce, rv, t, hb, ?_, ?_, ?_, ?_, ?_, ?_, ?_, ?_, ?_⟩
  · exact h2.L hC hP ⟨g1 39 (by decide), g1 40 (by decide)⟩ (d2 1 (by decide))
  · exact h3.cg hr ⟨rfl, rfl⟩ (hP 9 (d2 9 (by decide))) (hF 21 (d3 21 (by decide))) hS
  · exact h4.L hC hP hF f1 (d2 12 (by decide)) (d3 25 (by decide))
  · exact h5.L hC hP hF f2 (fun p hp => d2 p (by revert p; decide)) (d3 39 (by decide))
  · exact h6.L hP hF (d2 24 (by decide)) (d3 39 (by decide))
  · exact rText.e e1 e9
  · exact h8.L hC hF (g1 3 (by decide)) (d3 11 (by decide))
  · exact h9.L hC hP hF ⟨g1 23 (by decide), g1 24 (by decide), g1 25 (by decide)⟩ ⟨d2 18 (by decide), d2 19 (by decide)⟩ (d3 33 (by decide))
  · exact h10.L hC hP hF ⟨g1 23 (by decide), g1 26 (by decide), g1 27 (by decide), g1 28 (by decide)⟩ (d2 21 (by decide)) (d3 37 (by decide))
theorem bF8.P {K K3 : Nat → Nat → Int32} (h : bF8 K K3) : (∀ p, p ∉ [0, 8] → K3 p = K p) ∧ ∀ k, k ∉ [9, 12, 14, 15, 16, 17, 22] → K3 0 k = K 0 k := ⟨fun p hp => h.1 p (ne_of_nin hp (by decide)) (ne_of_nin hp (by decide)), fun k hp => h.2.1 k (ne_of_nin hp (by decide)) (ne_of_nin hp (by decide)) (ne_of_nin hp (by decide)) (ne_of_nin hp (by decide)) (ne_of_nin hp (by decide)) (ne_of_nin hp (by decide)) (ne_of_nin hp (by decide))⟩
theorem RB.hr {n c ns a p q z rs u x m no nc N ce k : Nat} {rv : RV} {t : Nat → Nat} {I K : Nat → Nat → Int32} {J L : Nat → Nat → Int64} {R S : Nat → Nat → Value} (h : RB n c ns a p q z rs u x m no nc N ce k rv t I J R K L S) {I3 : Nat → Nat → Int32} {cs : List Nat} (hC : ∀ p, p ∉ cs → I3 p = I p) (d1 : ∀ p ∈ LR, p ∉ cs) : I3 p = I p ∧ I3 (p + 1) = I (p + 1) := ⟨hC p (d1 p h.2.2.1.pq.1), hC (p + 1) (d1 (p + 1) h.2.2.1.pq.2)⟩
theorem bt_0 {g g2 : Nat → Int32} {n : Nat} : ∀ d, n + d ≤ 8 → (∀ b, b < n → g2 b = g b) → (∀ b, n ≤ b → b < n + d → g2 b = 0) → m_bt g2 (n + d) = m_bt g n ∧ bN g2 (n + d) = bN g n
  | 0, _, h, _ => ⟨bt_ext n h, bN_ext n h⟩
  | d + 1, hd, h, h0 => by
    obtain ⟨i1, i2⟩ := bt_0 (g := g) (g2 := g2) (n := n) d (by omega) h (fun b b1 b2 => h0 b b1 (by omega))
    show m_bt g2 (n + d) ||| (g2 (n + d) <<< (nI (n + d) &&& 31)) = m_bt g n ∧ bN g2 (n + d) + (if g2 (n + d) = 1 then 2 ^ (n + d) else 0) = bN g n
    rw [h0 (n + d) (by omega) (by omega), bt_or0 (n + d) (by omega), or_0, i1, i2, if_neg (by decide)]
    exact ⟨rfl, rfl⟩
theorem b_way {n c ns a p q z rs u x m no nc N ce k : Nat} {rv : RV} {t : Nat → Nat} {I K : Nat → Nat → Int32} {J L : Nat → Nat → Int64} {R S : Nat → Nat → Value} (h : RB n c ns a p q z rs u x m no nc N ce k rv t I J R K L S) (hk1000 : k < 1000) : Bo hX11_way 2 hX12_way 3 [] k I J R K L S := by
  have hst := h.1.1
  have hn8 := hst.2.1
  have hc12 := hst.2.2.2.1
  have hns8 := hst.2.2.2.2.2.2.1
  have hkn := h.1.2.1
  have hkc := h.1.2.2.1
  have hkns := h.1.2.2.2.1
  have sr := h.2.1.1
  have ws := h.2.1.2
  have hp := h.2.2.1.1
  have hz := h.2.2.1.2.2.2.2.2.2.2.2
  have ha := ws.1
  have hac := ws.2.1
  have ha12 : a ≤ 12 := Nat.le_trans hac hc12
  have hcy := sr.cy
  have ha39 : I 39 1 = nI a := sr.1.trans ws.1
  have hrow := h.2.2.2.2.2.2.2.1
  have hT := h.2.2.2.2.2.2.1
  obtain ⟨r1, M1, ⟨w, K3, S3, hw, rfl, h19, hif⟩, hM⟩ := (c_way (d := 0) (J := L) (R := S) hT.2).det
  by_cases hok : (sFin N (wS t (min N 12) w)).1 = true
  · rw [if_pos hok] at hif
    obtain ⟨rfl, hm, hk, e9, _, e1, e2, e3, e25, e39⟩ := hif
    refine Bo.of (k_way1 (d := 0) hT.1 hw hok) hM (by omega) (by omega) ?_
    rintro _ _ ⟨I3, rfl, hx3, i1, i5, i6, i39, i15⟩ rfl
    have hw12 : w ≤ 12 := wEnd_le (by omega) hw
    obtain ⟨h1, h2, h3, h4, h5, h6, h7, h8, h9, h10⟩ := h
    have hC : ∀ p, p ∉ [1, 5, 6, 7, 15, 39] → I3 p = I p := fun p hp => hx3 p (ne_of_nin hp (by decide)) (ne_of_nin hp (by decide)) (ne_of_nin hp (by decide)) (ne_of_nin hp (by decide)) (ne_of_nin hp (by decide)) (ne_of_nin hp (by decide))
    have hP : ∀ p, p ∉ [0, 1, 2, 8] → K3 p = K p := fun p hp => hm p (ne_of_nin hp (by decide)) (ne_of_nin hp (by decide)) (ne_of_nin hp (by decide)) (ne_of_nin hp (by decide))
    have hF : ∀ k, k ∉ [1, 9, 12, 14, 15, 16, 17, 22, 25, 39] → K3 0 k = K 0 k := fun k hp => hk k (ne_of_nin hp (by decide)) (ne_of_nin hp (by decide)) (ne_of_nin hp (by decide)) (ne_of_nin hp (by decide)) (ne_of_nin hp (by decide)) (ne_of_nin hp (by decide)) (ne_of_nin hp (by decide)) (ne_of_nin hp (by decide)) (ne_of_nin hp (by decide)) (ne_of_nin hp (by decide))
    have kc := kept_0 (n := n) (c := w) (ns := ns) (I3 := I3) hk1000 h6 (by rw [i15]; simp [upd]) (hP 24 (by decide)) e39
    refine ⟨n, w, ns, 0, p, q, z, rs, 0, x, m, no, nc, 0, ce + 1, rv, t, ?_, ?_, ?_, ?_, ?_, ?_, ?_, ?_, ?_, ?_⟩
    · obtain ⟨⟨s1, s2, s3, s4, s5, s6, s7, s8, s9, s10, s11, s12⟩, k1, k2, k3, k4, k5⟩ := h1
      show ST I3 (K3 2) (K3 3) (K3 4) (K3 5) n w ns ∧ _
      unfold ST
      rw [hP 3 (by decide), hP 4 (by decide), hP 5 (by decide), hC 8 (by decide), hC 11 (by decide), hC 9 (by decide), hC 10 (by decide), hC 12 (by decide), hC 13 (by decide), hC 14 (by decide)]
      refine ⟨⟨s1, s2, i5, hw12, hw.1, s6, s7, fun k hk => (i6 k hk).trans (e2 k hk).symm, s9, s10, fun k hk => ⟨_, wV9 (sFin_t hok) hk, e2 k hk⟩, s12⟩, (hF 3 (by decide)).trans k1, e1, (hF 6 (by decide)).trans k3, ?_, ?_⟩
      · show ∀ b, b < n → ∃ t, t ≤ 9 ∧ K3 4 b = nI t
        rw [hP 4 (by decide)]; exact k4
      · show ∃ v, v < 256 ∧ I3 11 3 = nI v
        rw [hC 11 (by decide)]; exact k5
    · show SR (I3 39) (I3 40) (K3 1) n ns ∧ WS (K3 1) n ns w 0
      rw [i39, hC 40 (by decide), e3]
      obtain ⟨a1, a2, a3, a4, a5, a6, a7, a8, a9⟩ := sr
      obtain ⟨b1, b2, b3, b4, b5, b6, b7, b8, b9⟩ := ws
      have uu : ∀ j, ¬ j = 24 → ¬ j = 27 → upd (upd (K 1) 24 0) 27 0 j = K 1 j := fun j j1 j2 => (upd_ne j2).trans (upd_ne j1)
      have u8 : ∀ b, b < n → upd (upd (K 1) 24 0) 27 0 (8 + b) = K 1 (8 + b) := fun b hb => uu _ (by omega) (by omega)
      have u16 : ∀ b, b < ns → upd (upd (K 1) 24 0) 27 0 (16 + b) = K 1 (16 + b) := fun b hb => uu _ (by omega) (by omega)
      have uf : ∀ j, ¬ j = 1 → ¬ j = 6 → upd (upd (I 39) 1 0) 6 0 j = I 39 j := fun j j1 j2 => (upd_ne j2).trans (upd_ne j1)
      refine ⟨⟨?_, ?_, ?_, ?_, ?_, ?_, ?_, ?_, ?_⟩, ⟨?_, Nat.zero_le _, ?_, ?_, ?_, ?_, ?_, ?_, ?_⟩⟩
      · simp [upd]
      · rw [uf 2 (by decide) (by decide), uu 25 (by decide) (by decide)]; exact a2
      · rw [uf 3 (by decide) (by decide), bt_ext n u8]; exact a3
      · rw [uf 4 (by decide) (by decide), uu 26 (by decide) (by decide)]; exact a4
      · rw [uf 5 (by decide) (by decide), bt_ext ns u16]; exact a5
      · simp [upd]
      · rw [uf 7 (by decide) (by decide), uu 28 (by decide) (by decide)]; exact a7
      · intro b hb; rw [uu b (by omega) (by omega)]; exact a8 b hb
      · exact a9
      · rw [upd_ne (by decide)]; simp [upd]; rfl
      · intro b hb; rw [uu b (by omega) (by omega)]; exact b3 b hb
      · intro b hb; show upd (upd (K 1) 24 0) 27 0 (8 + b) = 0 ∨ upd (upd (K 1) 24 0) 27 0 (8 + b) = 1; rw [u8 b hb]; exact b4 b hb
      · intro b hb; show upd (upd (K 1) 24 0) 27 0 (16 + b) = 0 ∨ upd (upd (K 1) 24 0) 27 0 (16 + b) = 1; rw [u16 b hb]; exact b5 b hb
      · rw [uu 25 (by decide) (by decide)]; exact b6
      · rw [uu 26 (by decide) (by decide)]; exact b7
      · left; simp [upd]
      · rw [bN_ext n u8]; exact b9
    · exact h3.L hC hP hF h19 (by decide) (by decide) (by decide)
    · exact hist_0 (by show I3 15 5 = 0; rw [i15]; simp [upd]) e25 (by show I3 15 4 = nI x; rw [i15, upd_ne (by decide), upd_ne (by decide)]; exact h4.2.2.2.1) h4.2.2.2.2.1
    · exact kc.1
    · exact kc.2
    · skip
      exact rText.e i1 e9
    · exact h8.L hC hF (by decide) (by decide)
    · exact h9.L hC hP hF (by decide) (by decide) (by decide)
    · exact h10.L hC hP hF (by decide) (by decide) (by decide)
  · rw [if_neg hok] at hif
    obtain ⟨rfl, hb8⟩ := hif
    refine Bo.of (k_way0 (d := 0) hT.1 hw hok) hM (by omega) (by omega) ?_
    rintro _ _ ⟨I3, rfl, hx3, i1⟩ rfl
    have hC : ∀ p, p ∉ [1, 7] → I3 p = I p := fun p hp => hx3 p (ne_of_nin hp (by decide)) (ne_of_nin hp (by decide))
    exact h.refT hC hb8.P.1 hb8.P.2 h19 i1 hb8.2.2.1 (h.1.L hC hb8.P.1 hb8.P.2 (by decide) (by decide) (by decide)) (h.hr hC (by decide)) (by decide) (by decide) (by decide)
theorem b_bearers {n c ns a p q z rs u x m no nc N ce k : Nat} {rv : RV} {t : Nat → Nat} {I K : Nat → Nat → Int32} {J L : Nat → Nat → Int64} {R S : Nat → Nat → Value} (h : RB n c ns a p q z rs u x m no nc N ce k rv t I J R K L S) (hk1000 : k < 1000) : Bo hX11_bearers 3 hX12_bearers 4 [] k I J R K L S := by
  have hst := h.1.1
  have hn8 := hst.2.1
  have hc12 := hst.2.2.2.1
  have hns8 := hst.2.2.2.2.2.2.1
  have hkn := h.1.2.1
  have hkc := h.1.2.2.1
  have hkns := h.1.2.2.2.1
  have sr := h.2.1.1
  have ws := h.2.1.2
  have hp := h.2.2.1.1
  have hz := h.2.2.1.2.2.2.2.2.2.2.2
  have ha := ws.1
  have hac := ws.2.1
  have ha12 : a ≤ 12 := Nat.le_trans hac hc12
  have hcy := sr.cy
  have ha39 : I 39 1 = nI a := sr.1.trans ws.1
  have hrow := h.2.2.2.2.2.2.2.1
  have hT := h.2.2.2.2.2.2.1
  by_cases hN0 : N = 0
  · rw [hN0] at hT
    refine Bo.of (k_bearersE (d := 0) hT.1) (c_bearersE (d := 0) hT.2) (by omega) (by omega) ?_
    rintro _ _ rfl ⟨K3, S3, rfl, hb8, h19⟩
    have hC : ∀ p, p ∉ [] → I p = I p := fun p _ => rfl
    exact h.refT hC hb8.P.1 hb8.P.2 h19 hT.1.1 hb8.2.2.1 (h.1.L hC hb8.P.1 hb8.P.2 (by decide) (by decide) (by decide)) ⟨rfl, rfl⟩ (by decide) (by decide) (by decide)
  obtain ⟨r1, M1, ⟨w, K3, S3, hw, rfl, h19, hif⟩, hM⟩ := (c_bearers (d := 0) (J := L) (R := S) hT.2 (by omega) hkn hn8).det
  by_cases hok : (sFin N (lS t (min N 48) n w (bS t (min N 48) n w))).1 = true
  · rw [if_pos hok] at hif
    obtain ⟨rfl, hm, hk, e9, _, e3, eo, en, ez, er, e25, e39⟩ := hif
    refine Bo.of (k_bearers1 (d := 0) hT.1 (by omega) hst.1 hn8 hw hok) hM (by omega) (by omega) ?_
    rintro _ _ ⟨I3, rfl, hx3, i1, i8, io, iN, i15⟩ rfl
    have hw8 : n + w < 8 := bEnd_8 hw (sFin_t hok)
    obtain ⟨h1, h2, h3, h4, h5, h6, h7, h8, h9, h10⟩ := h
    have hC : ∀ p, p ∉ [1, 8, 9, 10, 15] → I3 p = I p := fun p hp => hx3 p (ne_of_nin hp (by decide)) (ne_of_nin hp (by decide)) (ne_of_nin hp (by decide)) (ne_of_nin hp (by decide)) (ne_of_nin hp (by decide))
    have hP : ∀ p, p ∉ [0, 1, 3, 4, 8] → K3 p = K p := fun p hp => hm p (ne_of_nin hp (by decide)) (ne_of_nin hp (by decide)) (ne_of_nin hp (by decide)) (ne_of_nin hp (by decide)) (ne_of_nin hp (by decide))
    have hF : ∀ k, k ∉ [3, 9, 12, 14, 15, 16, 17, 22, 25, 39] → K3 0 k = K 0 k := fun k hp => hk k (ne_of_nin hp (by decide)) (ne_of_nin hp (by decide)) (ne_of_nin hp (by decide)) (ne_of_nin hp (by decide)) (ne_of_nin hp (by decide)) (ne_of_nin hp (by decide)) (ne_of_nin hp (by decide)) (ne_of_nin hp (by decide)) (ne_of_nin hp (by decide)) (ne_of_nin hp (by decide))
    have kc := kept_0 (n := n + (w + 1)) (c := c) (ns := ns) (I3 := I3) hk1000 h6 (by rw [i15]; simp [upd]) (hP 24 (by decide)) e39
    refine ⟨n + (w + 1), c, ns, a, p, q, z, rs, 0, x, m, no, nc, 0, ce + 1, rv, t, ?_, ?_, ?_, ?_, ?_, ?_, ?_, ?_, ?_, ?_⟩
    · obtain ⟨⟨s1, s2, s3, s4, s5, s6, s7, s8, s9, s10, s11, s12⟩, k1, k2, k3, k4, k5⟩ := h1
      show ST I3 (K3 2) (K3 3) (K3 4) (K3 5) (n + (w + 1)) c ns ∧ _
      unfold ST
      rw [hP 2 (by decide), hP 5 (by decide), hC 5 (by decide), hC 6 (by decide), hC 11 (by decide), hC 12 (by decide), hC 13 (by decide), hC 14 (by decide)]
      refine ⟨⟨i8, by omega, s3, s4, s5, s6, s7, s8, fun b hb => ?_, s10, s11, s12⟩, e3, (hF 1 (by decide)).trans k2, (hF 6 (by decide)).trans k3, fun b hb => ?_, ?_⟩
      · by_cases q : b < n
        · rw [(io b q).1, (io b q).2, (eo b q).1, (eo b q).2]; exact s9 b q
        · obtain ⟨i, rfl⟩ : ∃ i, b = n + i := ⟨b - n, by omega⟩
          rw [(iN i (by omega)).1, (iN i (by omega)).2, (en i (by omega)).1, (en i (by omega)).2]; exact ⟨rfl, rfl⟩
      · show ∃ t, t ≤ 9 ∧ K3 4 b = nI t
        by_cases q : b < n
        · rw [(eo b q).2]; exact k4 b q
        · obtain ⟨i, rfl⟩ : ∃ i, b = n + i := ⟨b - n, by omega⟩
          rw [(en i (by omega)).2]; exact ⟨_, num1, rfl⟩
      · show ∃ v, v < 256 ∧ I3 11 3 = nI v
        rw [hC 11 (by decide)]; exact k5
    · show SR (I3 39) (I3 40) (K3 1) (n + (w + 1)) ns ∧ WS (K3 1) (n + (w + 1)) ns c a
      rw [hC 39 (by decide), hC 40 (by decide)]
      obtain ⟨a1, a2, a3, a4, a5, a6, a7, a8, a9⟩ := sr
      obtain ⟨b1, b2, b3, b4, b5, b6, b7, b8, b9⟩ := ws
      have hi : ∀ j, 16 ≤ j → K3 1 j = K 1 j := fun j hj => er j (Or.inr (Or.inr hj))
      have lo : ∀ b, b < n → K3 1 b = K 1 b := fun b hb => er b (Or.inl hb)
      have l8 : ∀ b, b < n → K3 1 (8 + b) = K 1 (8 + b) := fun b hb => er _ (Or.inr (Or.inl ⟨by omega, by omega⟩))
      have z8 : ∀ b, n ≤ b → b < n + (w + 1) → K3 1 (8 + b) = 0 ∧ K3 1 b = 0 := fun b h1 h2 => by
        obtain ⟨i, rfl⟩ : ∃ i, b = n + i := ⟨b - n, by omega⟩
        exact ⟨(ez i (by omega)).2, (ez i (by omega)).1⟩
      obtain ⟨q1, q2⟩ := bt_0 (g := fun b => K 1 (8 + b)) (g2 := fun b => K3 1 (8 + b)) (n := n) (w + 1) (by omega) l8 (fun b h1 h2 => (z8 b h1 h2).1)
      have e16 : m_bt (fun s => K3 1 (16 + s)) ns = m_bt (fun s => K 1 (16 + s)) ns := bt_ext ns (fun b hb => hi _ (by omega))
      refine ⟨⟨?_, ?_, ?_, ?_, ?_, ?_, ?_, ?_, ?_⟩, ⟨?_, b2, ?_, ?_, ?_, ?_, ?_, ?_, ?_⟩⟩
      · rw [hi 24 (by decide)]; exact a1
      · rw [hi 25 (by decide)]; exact a2
      · rw [q1]; exact a3
      · rw [hi 26 (by decide)]; exact a4
      · rw [e16]; exact a5
      · rw [hi 27 (by decide)]; exact a6
      · rw [hi 28 (by decide)]; exact a7
      · intro b hb
        by_cases q : b < n
        · rw [lo b q]; exact a8 b q
        · rw [(z8 b (by omega) hb).2]; exact a9 b (by omega) (by omega)
      · intro b h1 h2; exact a9 b (by omega) h2
      · rw [hi 24 (by decide)]; exact b1
      · intro b hb
        by_cases q : b < n
        · rw [lo b q]; exact b3 b q
        · rw [(z8 b (by omega) hb).2]; exact ⟨0, by omega, rfl⟩
      · intro b hb
        show K3 1 (8 + b) = 0 ∨ K3 1 (8 + b) = 1
        by_cases q : b < n
        · rw [l8 b q]; exact b4 b q
        · exact Or.inl (z8 b (by omega) hb).1
      · intro b hb
        show K3 1 (16 + b) = 0 ∨ K3 1 (16 + b) = 1
        rw [hi _ (by omega)]; exact b5 b hb
      · rw [hi 25 (by decide)]; exact b6
      · rw [hi 26 (by decide)]; exact b7
      · rw [hi 27 (by decide)]; exact b8
      · rw [q2]; exact b9
    · exact h3.L hC hP hF h19 (by decide) (by decide) (by decide)
    · exact hist_0 (by show I3 15 5 = 0; rw [i15]; simp [upd]) e25 (by show I3 15 4 = nI x; rw [i15, upd_ne (by decide), upd_ne (by decide)]; exact h4.2.2.2.1) h4.2.2.2.2.1
    · exact kc.1
    · exact kc.2
    · skip
      exact rText.e i1 e9
    · exact h8.L hC hF (by decide) (by decide)
    · exact h9.L hC hP hF (by decide) (by decide) (by decide)
    · exact h10.L hC hP hF (by decide) (by decide) (by decide)
  · rw [if_neg hok] at hif
    obtain ⟨rfl, hb8⟩ := hif
    refine Bo.of (k_bearers0 (d := 0) hT.1 (by omega) hst.1 hn8 hw hok) hM (by omega) (by omega) ?_
    rintro _ _ ⟨I3, rfl, hx3, i1, io⟩ rfl
    have hC : ∀ p, p ∉ [1, 9, 10] → I3 p = I p := fun p hp => hx3 p (ne_of_nin hp (by decide)) (ne_of_nin hp (by decide)) (ne_of_nin hp (by decide))
    refine h.refT hC hb8.P.1 hb8.P.2 h19 i1 hb8.2.2.1 ?_ (h.hr hC (by decide)) (by decide) (by decide) (by decide)
    obtain ⟨⟨s1, s2, s3, s4, s5, s6, s7, s8, s9, s10, s11, s12⟩, k1, k2, k3, k4, k5⟩ := h.1
    unfold rBase ST
    rw [hb8.P.1 2 (by decide), hb8.P.1 3 (by decide), hb8.P.1 4 (by decide), hb8.P.1 5 (by decide), hC 8 (by decide), hC 5 (by decide), hC 6 (by decide), hC 11 (by decide), hC 12 (by decide), hC 13 (by decide), hC 14 (by decide), hb8.P.2 3 (by decide), hb8.P.2 1 (by decide), hb8.P.2 6 (by decide)]
    exact ⟨⟨s1, s2, s3, s4, s5, s6, s7, s8, fun b hb => by rw [(io b hb).1, (io b hb).2]; exact s9 b hb, s10, s11, s12⟩, k1, k2, k3, k4, k5⟩
theorem b_sayings {n c ns a p q z rs u x m no nc N ce k : Nat} {rv : RV} {t : Nat → Nat} {I K : Nat → Nat → Int32} {J L : Nat → Nat → Int64} {R S : Nat → Nat → Value} (h : RB n c ns a p q z rs u x m no nc N ce k rv t I J R K L S) (hk1000 : k < 1000) : Bo hX11_sayings 3 hX12_sayings 4 [] k I J R K L S := by
  have hst := h.1.1
  have hn8 := hst.2.1
  have hc12 := hst.2.2.2.1
  have hns8 := hst.2.2.2.2.2.2.1
  have hkn := h.1.2.1
  have hkc := h.1.2.2.1
  have hkns := h.1.2.2.2.1
  have sr := h.2.1.1
  have ws := h.2.1.2
  have hp := h.2.2.1.1
  have hz := h.2.2.1.2.2.2.2.2.2.2.2
  have ha := ws.1
  have hac := ws.2.1
  have ha12 : a ≤ 12 := Nat.le_trans hac hc12
  have hcy := sr.cy
  have ha39 : I 39 1 = nI a := sr.1.trans ws.1
  have hrow := h.2.2.2.2.2.2.2.1
  have hT := h.2.2.2.2.2.2.1
  obtain ⟨v, hv, ev⟩ := h.1.2.2.2.2.2
  by_cases hN0 : N = 0
  · rw [hN0] at hT
    refine Bo.of (k_sayingsE (d := 0) hT.1) (c_sayingsE (d := 0) hT.2) (by omega) (by omega) ?_
    rintro _ _ rfl ⟨K3, S3, rfl, hb8, h19⟩
    have hC : ∀ p, p ∉ [] → I p = I p := fun p _ => rfl
    exact h.refT hC hb8.P.1 hb8.P.2 h19 hT.1.1 hb8.2.2.1 (h.1.L hC hb8.P.1 hb8.P.2 (by decide) (by decide) (by decide)) ⟨rfl, rfl⟩ (by decide) (by decide) (by decide)
  have ht : ∀ k, k < min N 76 → t k < 256 := fun k hk => (hT.1.2.2 k (by omega)).2
  obtain ⟨r1, M1, ⟨w, K3, S3, hw, rfl, h19, hif⟩, hM⟩ := (c_sayings (d := 0) (J := L) (R := S) hT.2 (by omega) hkns hns8).det
  have hvl := tv_lt (t := t) (E := min N 76) (m := ns) hv (w + 1)
  by_cases hok : (sFin N (yS t (min N 76) ns w (gS t (min N 76) ns w))).1 = true
  · rw [if_pos hok] at hif
    obtain ⟨rfl, hm, hk, e9, _, e6, eo, en, ez, er, e25, e39⟩ := hif
    refine Bo.of (k_sayings1 (d := 0) hT.1 (by omega) hst.2.2.2.2.2.1 hns8 ev hv hw hok) hM (by omega) (by omega) ?_
    rintro _ _ ⟨I3, rfl, hx3, i1, i4, i3, io, iN, i15⟩ rfl
    have hw8 : ns + w < 8 := yEnd_8 hw (sFin_t hok)
    have hl := yl_ok ht hw hok
    obtain ⟨h1, h2, h3, h4, h5, h6, h7, h8, h9, h10⟩ := h
    have hC : ∀ p, p ∉ [1, 11, 12, 13, 14, 15] → I3 p = I p := fun p hp => hx3 p (ne_of_nin hp (by decide)) (ne_of_nin hp (by decide)) (ne_of_nin hp (by decide)) (ne_of_nin hp (by decide)) (ne_of_nin hp (by decide)) (ne_of_nin hp (by decide))
    have hP : ∀ p, p ∉ [0, 1, 5, 8] → K3 p = K p := fun p hp => hm p (ne_of_nin hp (by decide)) (ne_of_nin hp (by decide)) (ne_of_nin hp (by decide)) (ne_of_nin hp (by decide))
    have hF : ∀ k, k ∉ [6, 9, 12, 14, 15, 16, 17, 22, 25, 39] → K3 0 k = K 0 k := fun k hp => hk k (ne_of_nin hp (by decide)) (ne_of_nin hp (by decide)) (ne_of_nin hp (by decide)) (ne_of_nin hp (by decide)) (ne_of_nin hp (by decide)) (ne_of_nin hp (by decide)) (ne_of_nin hp (by decide)) (ne_of_nin hp (by decide)) (ne_of_nin hp (by decide)) (ne_of_nin hp (by decide))
    have kc := kept_0 (n := n) (c := c) (ns := ns + (w + 1)) (I3 := I3) hk1000 h6 (by rw [i15]; simp [upd]) (hP 24 (by decide)) e39
    refine ⟨n, c, ns + (w + 1), a, p, q, z, rs, 0, x, m, no, nc, 0, ce + 1, rv, t, ?_, ?_, ?_, ?_, ?_, ?_, ?_, ?_, ?_, ?_⟩
    · obtain ⟨⟨s1, s2, s3, s4, s5, s6, s7, s8, s9, s10, s11, s12⟩, k1, k2, k3, k4, k5⟩ := h1
      show ST I3 (K3 2) (K3 3) (K3 4) (K3 5) n c (ns + (w + 1)) ∧ _
      unfold ST
      rw [hP 2 (by decide), hP 3 (by decide), hP 4 (by decide), hC 5 (by decide), hC 6 (by decide), hC 8 (by decide), hC 9 (by decide), hC 10 (by decide)]
      refine ⟨⟨s1, s2, s3, s4, s5, i4, by omega, s8, s9, fun s hs => ?_, s11, fun s hs => ?_⟩, (hF 3 (by decide)).trans k1, (hF 1 (by decide)).trans k2, e6, ?_, ⟨_, hvl, i3⟩⟩
      · rw [i3, k_b_nI hvl (by omega)]
        by_cases q : s < ns
        · rw [(io s q).1, (io s q).2.1, (io s q).2.2, eo (4 * s) (by omega), eo (4 * s + 1) (by omega), eo (4 * s + 2) (by omega), eo (4 * s + 3) (by omega), tv_old hv q hns8]
          have := s10 s q
          rw [ev, k_b_nI hv (by omega)] at this
          exact this
        · obtain ⟨i, rfl⟩ : ∃ i, s = ns + i := ⟨s - ns, by omega⟩
          obtain ⟨x1, x2, x3⟩ := iN i (by omega)
          obtain ⟨y1, y2, y3, y4⟩ := en i (by omega)
          rw [Nat.add_zero] at y1
          rw [x1, x2, x3, y1, y2, y3, y4, tv_new hv (by omega) (w + 1) (by omega)]
          refine ⟨rfl, ?_, rfl, rfl⟩
          unfold b2i
          split <;> rfl
      · by_cases q : s < ns
        · rw [eo (4 * s) (by omega), eo (4 * s + 2) (by omega), eo (4 * s + 3) (by omega)]
          exact s12 s q
        · obtain ⟨i, rfl⟩ : ∃ i, s = ns + i := ⟨s - ns, by omega⟩
          obtain ⟨y1, y2, y3, y4⟩ := en i (by omega)
          rw [Nat.add_zero] at y1
          rw [y1, y3, y4]
          exact ⟨⟨_, hl i (by omega), rfl⟩, ⟨_, num1, rfl⟩, kn_15 5 0 _ 0 (by omega)⟩
      · show ∀ b, b < n → ∃ t, t ≤ 9 ∧ K3 4 b = nI t
        rw [hP 4 (by decide)]; exact k4
    · show SR (I3 39) (I3 40) (K3 1) n (ns + (w + 1)) ∧ WS (K3 1) n (ns + (w + 1)) c a
      rw [hC 39 (by decide), hC 40 (by decide)]
      obtain ⟨a1, a2, a3, a4, a5, a6, a7, a8, a9⟩ := sr
      obtain ⟨b1, b2, b3, b4, b5, b6, b7, b8, b9⟩ := ws
      have hi : ∀ j, (j < 16 + ns ∨ 24 ≤ j) → K3 1 j = K 1 j := er
      have z16 : ∀ b, ns ≤ b → b < ns + (w + 1) → K3 1 (16 + b) = 0 := fun b h1 h2 => by
        obtain ⟨i, rfl⟩ : ∃ i, b = ns + i := ⟨b - ns, by omega⟩
        exact ez i (by omega)
      obtain ⟨q1, q2⟩ := bt_0 (g := fun b => K 1 (16 + b)) (g2 := fun b => K3 1 (16 + b)) (n := ns) (w + 1) (by omega) (fun b hb => hi _ (by omega)) z16
      have e8 : ∀ b, b < n → K3 1 (8 + b) = K 1 (8 + b) := fun b hb => hi _ (by omega)
      refine ⟨⟨?_, ?_, ?_, ?_, ?_, ?_, ?_, ?_, a9⟩, ⟨?_, b2, ?_, ?_, ?_, ?_, ?_, ?_, ?_⟩⟩
      · rw [hi 24 (by omega)]; exact a1
      · rw [hi 25 (by omega)]; exact a2
      · rw [bt_ext n e8]; exact a3
      · rw [hi 26 (by omega)]; exact a4
      · rw [q1]; exact a5
      · rw [hi 27 (by omega)]; exact a6
      · rw [hi 28 (by omega)]; exact a7
      · intro b hb; rw [hi b (by omega)]; exact a8 b hb
      · rw [hi 24 (by omega)]; exact b1
      · intro b hb; rw [hi b (by omega)]; exact b3 b hb
      · intro b hb
        show K3 1 (8 + b) = 0 ∨ K3 1 (8 + b) = 1
        rw [e8 b hb]; exact b4 b hb
      · intro b hb
        show K3 1 (16 + b) = 0 ∨ K3 1 (16 + b) = 1
        by_cases q : b < ns
        · rw [hi _ (by omega)]; exact b5 b q
        · exact Or.inl (z16 b (by omega) hb)
      · rw [hi 25 (by omega)]; exact b6
      · rw [hi 26 (by omega)]; exact b7
      · rw [hi 27 (by omega)]; exact b8
      · rw [bN_ext n e8]; exact b9
    · exact h3.L hC hP hF h19 (by decide) (by decide) (by decide)
    · exact hist_0 (by show I3 15 5 = 0; rw [i15]; simp [upd]) e25 (by show I3 15 4 = nI x; rw [i15, upd_ne (by decide), upd_ne (by decide)]; exact h4.2.2.2.1) h4.2.2.2.2.1
    · exact kc.1
    · exact kc.2
    · skip
      exact rText.e i1 e9
    · exact h8.L hC hF (by decide) (by decide)
    · exact h9.L hC hP hF (by decide) (by decide) (by decide)
    · exact h10.L hC hP hF (by decide) (by decide) (by decide)
  · rw [if_neg hok] at hif
    obtain ⟨rfl, hb8⟩ := hif
    refine Bo.of (k_sayings0 (d := 0) hT.1 (by omega) hst.2.2.2.2.2.1 hns8 ev hv hw hok) hM (by omega) (by omega) ?_
    rintro _ _ ⟨I3, rfl, hx3, i1, i4, i3, io⟩ rfl
    have hC : ∀ p, p ∉ [1, 11, 12, 13, 14] → I3 p = I p := fun p hp => hx3 p (ne_of_nin hp (by decide)) (ne_of_nin hp (by decide)) (ne_of_nin hp (by decide)) (ne_of_nin hp (by decide)) (ne_of_nin hp (by decide))
    refine h.refT hC hb8.P.1 hb8.P.2 h19 i1 hb8.2.2.1 ?_ (h.hr hC (by decide)) (by decide) (by decide) (by decide)
    obtain ⟨⟨s1, s2, s3, s4, s5, s6, s7, s8, s9, s10, s11, s12⟩, k1, k2, k3, k4, k5⟩ := h.1
    unfold rBase ST
    rw [hb8.P.1 2 (by decide), hb8.P.1 3 (by decide), hb8.P.1 4 (by decide), hb8.P.1 5 (by decide), hC 8 (by decide), hC 5 (by decide), hC 6 (by decide), hC 9 (by decide), hC 10 (by decide), hb8.P.2 3 (by decide), hb8.P.2 1 (by decide), hb8.P.2 6 (by decide)]
    refine ⟨⟨s1, s2, s3, s4, s5, i4, s7, s8, s9, fun s hs => ?_, s11, s12⟩, k1, k2, k3, k4, ⟨_, hvl, i3⟩⟩
    rw [(io s hs).1, (io s hs).2.1, (io s hs).2.2, i3, k_b_nI hvl (by omega), tv_old hv hs hns8]
    have := s10 s hs
    rw [ev, k_b_nI hv (by omega)] at this
    exact this
