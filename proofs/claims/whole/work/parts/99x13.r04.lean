/-! calls by both, three: acts -/
theorem mk_SR {n c ns a p q z rs u x m no nc N ce k : Nat} {rv : RV} {t : Nat → Nat} {I K : Nat → Nat → Int32} {J L : Nat → Nat → Int64} {R S : Nat → Nat → Value} (h : RB n c ns a p q z rs u x m no nc N ce k rv t I J R K L S) : SR (k_mk I 39) (k_mk I 40) (K 1) n ns := by
  rw [k_mk_n (by decide) (by decide), k_mk_n (by decide) (by decide)]
  exact h.2.1.1
theorem mk_6 {n c ns a p q z rs u x m no nc N ce k : Nat} {rv : RV} {t : Nat → Nat} {I K : Nat → Nat → Int32} {J L : Nat → Nat → Int64} {R S : Nat → Nat → Value} (h : RB n c ns a p q z rs u x m no nc N ce k rv t I J R K L S) : I 39 6 = 0 ∨ I 39 6 = 1 := by
  rw [h.2.1.1.2.2.2.2.2.1]
  exact h.2.1.2.2.2.2.2.2.2.2.1
theorem mk_r43 {n c ns a p q z rs u x m no nc N ce k : Nat} {rv : RV} {t : Nat → Nat} {I K : Nat → Nat → Int32} {J L : Nat → Nat → Int64} {R S : Nat → Nat → Value} (h : RB n c ns a p q z rs u x m no nc N ce k rv t I J R K L S) {I2 : Nat → Nat → Int32} (hq : qF 39 (k_mk I) I2) : I2 43 6 = 0 ∨ I2 43 6 = 1 := by
  rw [hq 43 (by decide) (by decide) (by decide) (by decide) (by decide) (by decide)]
  show k_bm I 43 44 39 40 43 6 = 0 ∨ k_bm I 43 44 39 40 43 6 = 1
  rw [k_bm_p 6 (by decide) (by decide)]
  exact mk_6 h
theorem mk_15 {n c ns a p q z rs u x m no nc N ce k : Nat} {rv : RV} {t : Nat → Nat} {I K : Nat → Nat → Int32} {J L : Nat → Nat → Int64} {R S : Nat → Nat → Value} (h : RB n c ns a p q z rs u x m no nc N ce k rv t I J R K L S) {I2 : Nat → Nat → Int32} (hq : qF 39 (k_mk I) I2) : I2 15 4 = nI x ∧ I2 15 5 = nI u := by
  rw [hq 15 (by decide) (by decide) (by decide) (by decide) (by decide) (by decide), k_mk_n (by decide) (by decide)]
  exact ⟨h.2.2.2.1.2.2.2.1, h.2.2.2.1.1⟩
theorem mk_ST {n c ns a p q z rs u x m no nc N ce k : Nat} {rv : RV} {t : Nat → Nat} {I K : Nat → Nat → Int32} {J L : Nat → Nat → Int64} {R S : Nat → Nat → Value} (h : RB n c ns a p q z rs u x m no nc N ce k rv t I J R K L S) : ST (k_mk I) (K 2) (K 3) (K 4) (K 5) n c ns := by
  have := h.1.cg (I3 := k_mk I) (K3 := K) (fun p hp => k_mk_n (by intro e; subst e; revert hp; decide) (by intro e; subst e; revert hp; decide)) (fun _ _ => rfl) (fun _ _ => rfl)
  exact this.1
theorem mk_kA {n c ns a p q z rs u x m no nc N ce k : Nat} {rv : RV} {t : Nat → Nat} {I K : Nat → Nat → Int32} {J L : Nat → Nat → Int64} {R S : Nat → Nat → Value} (h : RB n c ns a p q z rs u x m no nc N ce k rv t I J R K L S) (d : Nat) : kA (k_mk I) d n c p z rv := by
  have := h.kA d
  unfold kA at this ⊢
  have hp := h.2.2.1.pq
  rw [k_mk_n (by decide) (by decide), k_mk_n (by decide) (by decide), k_mk_n (p := p) (by intro e; rw [e] at hp; exact absurd hp.1 (by decide)) (by intro e; rw [e] at hp; exact absurd hp.1 (by decide)), k_mk_n (p := p + 1) (by intro e; rw [e] at hp; exact absurd hp.2 (by decide)) (by intro e; rw [e] at hp; exact absurd hp.2 (by decide))]
  exact this
theorem qF_mk {I : Nat → Nat → Int32} : qF 39 (k_mk I) (k_mk I) := qF.rf
/-- an act refused: nothing has changed -/
theorem RB.noA {n c ns a p q z rs u x m no nc N ce k : Nat} {rv : RV} {t : Nat → Nat} {I K : Nat → Nat → Int32} {J L : Nat → Nat → Int64} {R S : Nat → Nat → Value} (h : RB n c ns a p q z rs u x m no nc N ce k rv t I J R K L S) {I2 : Nat → Nat → Int32} (hq : qF 39 (k_mk I) I2) (hsr : SR (I2 39) (I2 40) (K 1) n ns) : REL (k + 1) (I2, J, R) (ti_wr K 0 12 0, L, S) := by
  have hI : ∀ p, p ∉ [33, 34, 37, 38, 39, 40, 43, 44] → I2 p = I p := fun p hp => by
    simp only [List.mem_cons, List.not_mem_nil, or_false, not_or] at hp
    obtain ⟨b3, b4, b5, b6, b7, b8, b9, b10⟩ := hp
    rw [hq p b3 b4 b5 b6 b7 b8, k_mk_n b9 b10]
  have hP : ∀ p, p ∉ [0] → ti_wr K 0 12 0 p = K p := fun p hp => ti_wr_n (by intro e; subst e; revert hp; decide)
  have hF : ∀ k, k ∉ [12] → ti_wr K 0 12 0 0 k = K 0 k := fun k hk => wr_ne (by intro e; subst e; revert hk; decide)
  exact h.act0 (fun _ _ => rfl) hq (fun _ _ => rfl) hsr h.2.1.2 hP hF (ti_wr_n (by decide)) rfl (by decide) (by decide) (h.2.2.2.2.2.2.1.L hI hP hF (by decide) (by decide) (by decide)) (h.2.2.2.2.2.2.2.1.L hI hF (by decide) (by decide))
/-- an act done: the model's memory -/
theorem RB.okA {n c ns a p q z rs u x m no nc N ce k : Nat} {rv : RV} {t : Nat → Nat} {I K : Nat → Nat → Int32} {J L : Nat → Nat → Int64} {R S : Nat → Nat → Value} (h : RB n c ns a p q z rs u x m no nc N ce k rv t I J R K L S) {I2 : Nat → Nat → Int32} {row2 : Nat → Int32} {a2 : Nat} (hq : qF 39 (k_mk I) I2) (hsr : SR (I2 39) (I2 40) row2 n ns) (hws : WS row2 n ns c a2) : REL (k + 1) (k_se I2 x u, J, R) (m_ac K u row2, L, S) := by
  have hx12 := h.2.2.2.1.2.2.2.2.1
  have hI : ∀ p, p ∉ cA → k_se I2 x u p = I p := se_C hx12 hq
  have hP : ∀ p, p ∉ [0, 1, 12] → m_ac K u row2 p = K p := fun p hp => by
    simp only [List.mem_cons, List.not_mem_nil, or_false, not_or] at hp
    unfold m_ac
    rw [va_up_n hp.2.1, ti_wr_n hp.1, va_up_n hp.2.2, ti_wr_n hp.1]
  have hF : ∀ k, k ∉ [12, 25] → m_ac K u row2 0 k = K 0 k := fun k hk => by
    simp only [List.mem_cons, List.not_mem_nil, or_false, not_or] at hk
    unfold m_ac
    rw [va_up_n (by decide), wr_ne hk.2, va_up_n (by decide), wr_ne hk.1]
  refine h.act (g := K 1) (fun _ _ => rfl) hq (fun _ _ => rfl) hsr hws hP hF va_up_q (fun _ _ => rfl) ?_ ?_ rfl (by decide) (by decide) (h.2.2.2.2.2.2.1.L hI hP hF (by decide) (by decide) (by decide)) (h.2.2.2.2.2.2.2.1.L hI hF (by decide) (by decide))
  · unfold m_ac
    rw [va_up_n (by decide), ti_wr_n (by decide), va_up_q]
  · unfold m_ac
    rw [va_up_n (by decide), ti_wr_at]
theorem b_take {n c ns a p q z rs u x m no nc N ce k : Nat} {rv : RV} {t : Nat → Nat} {I K : Nat → Nat → Int32} {J L : Nat → Nat → Int64} {R S : Nat → Nat → Value} (h : RB n c ns a p q z rs u x m no nc N ce k rv t I J R K L S) (y : Int32) : Bo hX11_take 2 hX12_take 3 [.int y] k I J R K L S := by
  have hst := h.1.1
  have hn8 := hst.2.1
  have hc12 := hst.2.2.2.1
  have hns8 := hst.2.2.2.2.2.2.1
  have hkn := h.1.2.1
  have hkc := h.1.2.2.1
  have hkns := h.1.2.2.2.1
  have sr := h.2.1.1
  have ws := h.2.1.2
  have hp := h.2.2.1.1
  have hz := h.2.2.1.2.2.2.2.2.2.2.2
  have ha := ws.1
  have hac := ws.2.1
  have ha12 : a ≤ 12 := Nat.le_trans hac hc12
  have hcy := sr.cy
  have ha39 : I 39 1 = nI a := sr.1.trans ws.1
  have hrow := h.2.2.2.2.2.2.2.1
  have hu := h.2.2.2.1.2.2.1
  have hu12 := h.2.2.2.1.2.1
  have hx12 := h.2.2.2.1.2.2.2.2.1
  have m8 : k_mk I 8 3 = nI n := by rw [k_mk_n (by decide) (by decide)]; exact hst.1
  rcases ixc (n := n) (x := y) with hx | ⟨j, hx⟩
  · have er : m_rT n (K 1) y = -1 := by unfold m_rT; rw [hx]
    have hM := c_take_no (J := L) (R := S) (d := 0) hkn hn8 hu hu12 y (by rw [er]; decide)
    rw [er] at hM
    refine Bo.of (k_take_no (d := 0) (mk_6 h) (Cal.mono (by omega) (k_takeHold_39_none (d := 0) m8 hx)) (by decide)) hM (by omega) (by omega) ?_
    rintro _ _ rfl rfl
    exact h.noA qF_mk (mk_SR h)
  · obtain ⟨hj, rfl⟩ := ix_some (by omega) hx
    obtain ⟨r1, M1, hA, hC⟩ := (a_take (d := 0) (J := J) (R := R) (I := k_mk I) (Or.inl rfl) m8 hn8 (mk_SR h) ws hj).det
    rcases hA with ⟨hv, rfl, rfl⟩ | ⟨hv, rfl, I2, rfl, hq, hsr, hws⟩
    · refine Bo.of (k_take_no (d := 0) (mk_6 h) (Cal.mono (by omega) hC) hv) (c_take_no (d := 0) hkn hn8 hu hu12 (nI j) hv) (by omega) (by omega) ?_
      rintro _ _ rfl rfl
      exact h.noA qF_mk (mk_SR h)
    · have h15 := mk_15 h hq
      have hw2 := bc_nn hn8 hws
      refine Bo.of (k_take_ok (d := 0) (mk_6 h) (Cal.mono (by omega) hC) hw2 h15.1 hx12 h15.2 hu12 (mk_r43 h hq)) (c_take_ok (d := 0) hkn hn8 hu hu12 hj (by rw [hv]; decide)) (by omega) (by omega) ?_
      rintro _ _ rfl rfl
      exact h.okA hq hsr hws
theorem b_leave {n c ns a p q z rs u x m no nc N ce k : Nat} {rv : RV} {t : Nat → Nat} {I K : Nat → Nat → Int32} {J L : Nat → Nat → Int64} {R S : Nat → Nat → Value} (h : RB n c ns a p q z rs u x m no nc N ce k rv t I J R K L S) (y : Int32) : Bo hX11_leave 2 hX12_leave 3 [.int y] k I J R K L S := by
  have hst := h.1.1
  have hn8 := hst.2.1
  have hc12 := hst.2.2.2.1
  have hns8 := hst.2.2.2.2.2.2.1
  have hkn := h.1.2.1
  have hkc := h.1.2.2.1
  have hkns := h.1.2.2.2.1
  have sr := h.2.1.1
  have ws := h.2.1.2
  have hp := h.2.2.1.1
  have hz := h.2.2.1.2.2.2.2.2.2.2.2
  have ha := ws.1
  have hac := ws.2.1
  have ha12 : a ≤ 12 := Nat.le_trans hac hc12
  have hcy := sr.cy
  have ha39 : I 39 1 = nI a := sr.1.trans ws.1
  have hrow := h.2.2.2.2.2.2.2.1
  have hu := h.2.2.2.1.2.2.1
  have hu12 := h.2.2.2.1.2.1
  have hx12 := h.2.2.2.1.2.2.2.2.1
  have m8 : k_mk I 8 3 = nI n := by rw [k_mk_n (by decide) (by decide)]; exact hst.1
  rcases ixc (n := n) (x := y) with hx | ⟨j, hx⟩
  · have er : m_rL n (K 1) y = -1 := by unfold m_rL; rw [hx]
    have hM := c_leave_no (J := L) (R := S) (d := 0) hkn hn8 hu hu12 y (by rw [er]; decide)
    rw [er] at hM
    refine Bo.of (k_leave_no (d := 0) (mk_6 h) (Cal.mono (by omega) (k_letGo_39_none (d := 0) m8 hx)) (by decide)) hM (by omega) (by omega) ?_
    rintro _ _ rfl rfl
    exact h.noA qF_mk (mk_SR h)
  · obtain ⟨hj, rfl⟩ := ix_some (by omega) hx
    obtain ⟨r1, M1, hA, hC⟩ := (a_leave (d := 0) (J := J) (R := R) (I := k_mk I) (Or.inl rfl) m8 hn8 (mk_SR h) ws hj).det
    rcases hA with ⟨hv, _, rfl, rfl⟩ | ⟨hv, _, rfl, I2, rfl, hq, hsr, hws⟩
    · refine Bo.of (k_leave_no (d := 0) (mk_6 h) (Cal.mono (by omega) hC) hv) (c_leave_no (d := 0) hkn hn8 hu hu12 (nI j) hv) (by omega) (by omega) ?_
      rintro _ _ rfl rfl
      exact h.noA qF_mk (mk_SR h)
    · have h15 := mk_15 h hq
      have hw2 := bc_nn hn8 hws
      refine Bo.of (k_leave_ok (d := 0) (mk_6 h) (Cal.mono (by omega) hC) hw2 h15.1 hx12 h15.2 hu12 (mk_r43 h hq)) (c_leave_ok (d := 0) hkn hn8 hu hu12 hj (by rw [hv]; decide)) (by omega) (by omega) ?_
      rintro _ _ rfl rfl
      exact h.okA hq hsr hws
theorem b_seventh {n c ns a p q z rs u x m no nc N ce k : Nat} {rv : RV} {t : Nat → Nat} {I K : Nat → Nat → Int32} {J L : Nat → Nat → Int64} {R S : Nat → Nat → Value} (h : RB n c ns a p q z rs u x m no nc N ce k rv t I J R K L S) (y : Int32) : Bo hX11_seventh 2 hX12_seventh 4 [.int y] k I J R K L S := by
  have hst := h.1.1
  have hn8 := hst.2.1
  have hc12 := hst.2.2.2.1
  have hns8 := hst.2.2.2.2.2.2.1
  have hkn := h.1.2.1
  have hkc := h.1.2.2.1
  have hkns := h.1.2.2.2.1
  have sr := h.2.1.1
  have ws := h.2.1.2
  have hp := h.2.2.1.1
  have hz := h.2.2.1.2.2.2.2.2.2.2.2
  have ha := ws.1
  have hac := ws.2.1
  have ha12 : a ≤ 12 := Nat.le_trans hac hc12
  have hcy := sr.cy
  have ha39 : I 39 1 = nI a := sr.1.trans ws.1
  have hrow := h.2.2.2.2.2.2.2.1
  have hu := h.2.2.2.1.2.2.1
  have hu12 := h.2.2.2.1.2.1
  have hx12 := h.2.2.2.1.2.2.2.2.1
  have m8 : k_mk I 8 3 = nI n := by rw [k_mk_n (by decide) (by decide)]; exact hst.1
  rcases ixc (n := 4) (x := y) with hx | ⟨j, hx⟩
  · have er : m_rV (K 1) y = -1 := by unfold m_rV; rw [hx]
    have hM := c_seventh_no (J := L) (R := S) (d := 0) hu hu12 y (by rw [er]; decide)
    rw [er] at hM
    have hC := k_follow_39 (J := J) (R := R) (d := 5) (I := k_mk I) y
    have h4 : y < 0 ∨ ¬ y < 4 := by
      unfold ix at hx
      split at hx
      · cases hx
      · next g =>
        by_cases w : y < 0
        · exact Or.inl w
        · exact Or.inr (fun w2 => g ⟨Int32.not_lt.mp w, w2⟩)
    have e1 : (if y < 0 then (-1 : Int32) else if y < 4 then (if y = k_mk I 39 4 then -2 else k_mk I 39 4) else -1) = -1 := by
      rcases h4 with w | w
      · rw [if_pos w]
      · rw [if_neg w, ite_self]
    have e2 : (if y < 0 then k_mk I else if y < 4 then (if y = k_mk I 39 4 then k_mk I else ti_wr (k_mk I) 39 4 y) else k_mk I) = k_mk I := by
      rcases h4 with w | w
      · rw [if_pos w]
      · rw [if_neg w, ite_self]
    rw [e1, e2] at hC
    refine Bo.of (k_seventh_no (d := 0) (mk_6 h) hC (by decide)) hM (by omega) (by omega) ?_
    rintro _ _ rfl rfl
    exact h.noA qF_mk (mk_SR h)
  · obtain ⟨hj, rfl⟩ := ix_some (by decide) hx
    obtain ⟨r1, M1, hA, hC⟩ := (a_follow (d := 5) (J := J) (R := R) (I := k_mk I) (Or.inl rfl) hn8 hns8 (mk_SR h) ws hj).det
    rcases hA with ⟨hv, rfl, rfl⟩ | ⟨hv, rfl, I2, rfl, hq, hsr, hws⟩
    · have er : m_rV (K 1) (nI j) = -2 := by unfold m_rV; rw [hx]; exact if_pos hv
      have hM := c_seventh_no (J := L) (R := S) (d := 0) hu hu12 (nI j) (by rw [er]; decide)
      rw [er] at hM
      refine Bo.of (k_seventh_no (d := 0) (mk_6 h) hC (by decide)) hM (by omega) (by omega) ?_
      rintro _ _ rfl rfl
      exact h.noA qF_mk (mk_SR h)
    · have er : m_rV (K 1) (nI j) = 0 := by unfold m_rV; rw [hx]; exact if_neg hv
      have h15 := mk_15 h hq
      obtain ⟨w, hw4, ew⟩ := ws.2.2.2.2.2.2.1
      refine Bo.of (k_seventh_ok (d := 0) (mk_6 h) hC (by rw [ew]; exact nI_pos (by omega)) h15.1 hx12 h15.2 hu12 (mk_r43 h hq)) (c_seventh_ok (d := 0) hu hu12 (nI j) (by rw [er]; decide)) (by omega) (by omega) ?_
      rintro _ _ rfl rfl
      exact h.okA hq hsr hws
theorem b_say {n c ns a p q z rs u x m no nc N ce k : Nat} {rv : RV} {t : Nat → Nat} {I K : Nat → Nat → Int32} {J L : Nat → Nat → Int64} {R S : Nat → Nat → Value} (h : RB n c ns a p q z rs u x m no nc N ce k rv t I J R K L S) (y : Int32) : Bo hX11_say 2 hX12_say 3 [.int y] k I J R K L S := by
  have hst := h.1.1
  have hn8 := hst.2.1
  have hc12 := hst.2.2.2.1
  have hns8 := hst.2.2.2.2.2.2.1
  have hkn := h.1.2.1
  have hkc := h.1.2.2.1
  have hkns := h.1.2.2.2.1
  have sr := h.2.1.1
  have ws := h.2.1.2
  have hp := h.2.2.1.1
  have hz := h.2.2.1.2.2.2.2.2.2.2.2
  have ha := ws.1
  have hac := ws.2.1
  have ha12 : a ≤ 12 := Nat.le_trans hac hc12
  have hcy := sr.cy
  have ha39 : I 39 1 = nI a := sr.1.trans ws.1
  have hrow := h.2.2.2.2.2.2.2.1
  have hu := h.2.2.2.1.2.2.1
  have hu12 := h.2.2.2.1.2.1
  have hx12 := h.2.2.2.1.2.2.2.2.1
  have m8 : k_mk I 8 3 = nI n := by rw [k_mk_n (by decide) (by decide)]; exact hst.1
  rcases ixc (n := ns) (x := y) with hx | ⟨j, hx⟩
  · have er : m_rY ns c a (K 5) (K 1) y = -1 := by unfold m_rY; rw [hx]
    have hM := c_say_no (J := L) (R := S) (d := 0) hkns hns8 hkc hc12 ha ha12 hu hu12 y (by rw [er]; decide)
    rw [er] at hM
    refine Bo.of (k_say_no (d := 0) (mk_6 h) (Cal.mono (by omega) (k_speak_39_none (d := 0) (by rw [k_mk_n (by decide) (by decide)]; exact hst.2.2.2.2.2.1) hx)) (by decide)) hM (by omega) (by omega) ?_
    rintro _ _ rfl rfl
    exact h.noA qF_mk (mk_SR h)
  · obtain ⟨hj, rfl⟩ := ix_some (by omega) hx
    obtain ⟨r1, M1, hA, hC⟩ := (a_speak (d := 2) (J := J) (R := R) (I := k_mk I) (Or.inl rfl) (mk_ST h) (mk_SR h) ws hj).det
    rcases hA with ⟨hv, rfl, rfl⟩ | ⟨hv, rfl, I2, rfl, hq, hsr, hws⟩
    · refine Bo.of (k_say_no (d := 0) (mk_6 h) hC hv) (c_say_no (d := 0) hkns hns8 hkc hc12 ha ha12 hu hu12 (nI j) hv) (by omega) (by omega) ?_
      rintro _ _ rfl rfl
      exact h.noA qF_mk (mk_SR h)
    · have h15 := mk_15 h hq
      obtain ⟨l, hl, el⟩ := hws.2.2.2.2.2.1
      refine Bo.of (k_say_ok (d := 0) (mk_6 h) hC (by rw [el]; exact nI_pos (by omega)) h15.1 hx12 h15.2 hu12 (mk_r43 h hq)) (c_say_ok (d := 0) hkns hns8 hkc hc12 ha ha12 hu hu12 hj (by rw [hv]; decide)) (by omega) (by omega) ?_
      rintro _ _ rfl rfl
      exact h.okA hq hsr hws
theorem k_step_no {I I2 : Nat → Nat → Int32} {J : Nat → Nat → Int64} {R : Nat → Nat → Value} {d p : Nat} {v : Int32} (hp2 : p = 31 ∨ p = 35) (h6 : I 39 6 = 0 ∨ I 39 6 = 1) (hp : R 0 11 = .ref p) (hact : Cal lyC (d + 5) hX7_advance 5 [.ref 39, .ref 5, .ref 8, .ref p] (k_mk I, J, R) (fun r M' => r = some (.int v) ∧ M' = (I2, J, R))) (hv : v < 0) : Cal lyC (d + 6) hX11_step 2 [.ref 0] (I, J, R) (fun r M' => r = some (.int v) ∧ M' = (I2, J, R)) := by
  rcases hp2 with rfl | rfl
  · exact k_step_31_no h6 hp hact hv
  · exact k_step_35_no h6 hp hact hv
theorem k_step_ok {I I2 : Nat → Nat → Int32} {J : Nat → Nat → Int64} {R : Nat → Nat → Value} {d x u p : Nat} {v : Int32} (hp2 : p = 31 ∨ p = 35) (h6 : I 39 6 = 0 ∨ I 39 6 = 1) (hp : R 0 11 = .ref p) (hact : Cal lyC (d + 5) hX7_advance 5 [.ref 39, .ref 5, .ref 8, .ref p] (k_mk I, J, R) (fun r M' => r = some (.int v) ∧ M' = (I2, J, R))) (hv : ¬ v < 0) (hx : I2 15 4 = nI x) (hx12 : x < 12) (hu : I2 15 5 = nI u) (hu12 : u ≤ 12) (h62 : I2 43 6 = 0 ∨ I2 43 6 = 1) : Cal lyC (d + 6) hX11_step 2 [.ref 0] (I, J, R) (fun r M' => r = some (.int v) ∧ M' = (ti_wr (k_se I2 x u) 3 1 (nI 2), ti_wl (ti_wl J 4 0 (I2 39 1).toInt64) 4 1 (I2 39 7).toInt64, R)) := by
  rcases hp2 with rfl | rfl
  · exact k_step_31_ok h6 hp hact hv hx hx12 hu hu12 h62
  · exact k_step_35_ok h6 hp hact hv hx hx12 hu hu12 h62
theorem b_step {n c ns a p q z rs u x m no nc N ce k : Nat} {rv : RV} {t : Nat → Nat} {I K : Nat → Nat → Int32} {J L : Nat → Nat → Int64} {R S : Nat → Nat → Value} (h : RB n c ns a p q z rs u x m no nc N ce k rv t I J R K L S)  : Bo hX11_step 2 hX12_step 3 [] k I J R K L S := by
  have hst := h.1.1
  have hn8 := hst.2.1
  have hc12 := hst.2.2.2.1
  have hns8 := hst.2.2.2.2.2.2.1
  have hkn := h.1.2.1
  have hkc := h.1.2.2.1
  have hkns := h.1.2.2.2.1
  have sr := h.2.1.1
  have ws := h.2.1.2
  have hp := h.2.2.1.1
  have hz := h.2.2.1.2.2.2.2.2.2.2.2
  have ha := ws.1
  have hac := ws.2.1
  have ha12 : a ≤ 12 := Nat.le_trans hac hc12
  have hcy := sr.cy
  have ha39 : I 39 1 = nI a := sr.1.trans ws.1
  have hrow := h.2.2.2.2.2.2.2.1
  have hu := h.2.2.2.1.2.2.1
  have hu12 := h.2.2.2.1.2.1
  have hx12 := h.2.2.2.1.2.2.2.2.1
  have m8 : k_mk I 8 3 = nI n := by rw [k_mk_n (by decide) (by decide)]; exact hst.1
  have hp2 : p = 31 ∨ p = 35 := h.2.2.1.2.2.1.elim (fun e => Or.inl e.1) (fun e => Or.inr e.1)
  obtain ⟨r1, M1, ⟨rfl, I2, rfl, hq, hsr⟩, hC⟩ := (a_adv (d := 0) (J := J) (R := R) (I := k_mk I) (Or.inl rfl) (mk_kA h 0) (mk_ST h) hz (mk_SR h) ws).det
  by_cases hv : m_rS c a (m_cy (K 1) n) = 0
  · rw [if_pos hv] at hC hsr
    have h15 := mk_15 h hq
    have hlt : a < c := by
      unfold m_rS at hv
      split at hv
      · exact absurd hv (by decide)
      · next g => omega
    have hsg : m_SG (K 2) (K 3) (K 4) n c rs rv (K 1) a = 0 ∨ m_SG (K 2) (K 3) (K 4) n c rs rv (K 1) a = 1 := sg01 _ _
    have hws : WS (m_NX (K 2) (K 3) (K 4) n c rs rv (K 1) a) n ns c (a + 1) := ws.gs hn8 hns8 hsg hlt
    refine Bo.of (k_step_ok (d := 0) hp2 (mk_6 h) hp hC (by rcases hsg with e | e <;> rw [e] <;> decide) h15.1 hx12 h15.2 hu12 (mk_r43 h hq)) (c_step_ok (h.mA 0) ha hac hu hu12 (by rw [hv]; decide)) (by omega) (by omega) ?_
    rintro _ _ rfl ⟨K3, S3, rfl, hs⟩
    have hI : ∀ p, p ∉ 3 :: cA → ti_wr (k_se I2 x u) 3 1 (nI 2) p = I p := fun p hp => by
      simp only [List.mem_cons, not_or] at hp
      rw [ti_wr_n hp.1]
      exact se_C hx12 hq p hp.2
    have hP : ∀ p, p ∉ [0, 1, 11, 12] → K3 p = K p := fun p hp => by
      simp only [List.mem_cons, List.not_mem_nil, or_false, not_or] at hp
      rw [hs.1 p hp.1 hp.2.2.1, ti_wr_n hp.1]
      unfold m_ac
      rw [va_up_n hp.2.1, ti_wr_n hp.1, va_up_n hp.2.2.2, ti_wr_n hp.1]
    have hF : ∀ k, k ∉ [11, 12, 14, 15, 16, 17, 22, 25] → K3 0 k = K 0 k := fun k hk => by
      simp only [List.mem_cons, List.not_mem_nil, or_false, not_or] at hk
      obtain ⟨b1, b2, b3, b4, b5, b6, b7, b8⟩ := hk
      rw [hs.2.1 k b3 b4 b5 b6 b7, wr_ne b1]
      unfold m_ac
      rw [va_up_n (by decide), wr_ne b8, va_up_n (by decide), wr_ne b2]
    refine h.act (g := K 1) (row2 := m_NX (K 2) (K 3) (K 4) n c rs rv (K 1) a) (fun _ _ => rfl) hq (fun p hp => ti_wr_n hp) hsr hws hP hF ?_ (fun _ _ => rfl) ?_ ?_ hs.2.2 (by decide) (by decide) (h.2.2.2.2.2.2.1.L hI hP hF (by decide) (by decide) (by decide)) ⟨ti_wr_at, by omega, (hs.f 11 rfl).trans ti_wr_at, fun j hj => ?_⟩
    · rw [hs.r 1 rfl, ti_wr_n (by decide)]; exact va_up_q
    · rw [hs.r 12 rfl, ti_wr_n (by decide)]
      unfold m_ac
      rw [va_up_n (by decide), ti_wr_n (by decide), va_up_q]
    · rw [hs.f 25 rfl, wr_ne (by decide)]
      unfold m_ac
      rw [va_up_n (by decide), ti_wr_at]
    · rcases (by omega : j = 0 ∨ j = 1) with e | e
      · rw [e, wl_ne (by decide), ti_wl_at, wl_ne (by decide), ti_wl_at, hsr.1]
      · rw [e, ti_wl_at, ti_wl_at, hsr.2.2.2.2.2.2.1]
  · have hneg : m_rS c a (m_cy (K 1) n) < 0 := by
      unfold m_rS at hv ⊢
      split
      · decide
      · next g =>
        rw [if_neg g] at hv
        split
        · decide
        · next g2 => rw [if_neg g2] at hv; exact absurd rfl hv
    rw [if_neg hv] at hC hsr
    refine Bo.of (k_step_no (d := 0) hp2 (mk_6 h) hp hC hneg) (c_step_no (d := 0) hkn hn8 hkc hc12 ha ha12 hneg) (by omega) (by omega) ?_
    rintro _ _ rfl rfl
    exact h.noA hq hsr
