/-! calls by both, one: the row alone -/
theorem Bo.no2 {hc hm : TH} {mc mm dc dm : Nat} {as : List Value} {n c ns a p q z rs u x m no nc N ce k : Nat} {rv : RV} {t : Nat → Nat} {I K : Nat → Nat → Int32} {J L : Nat → Nat → Int64} {R S : Nat → Nat → Value} {v v2 w : Int32} (h : RB n c ns a p q z rs u x m no nc N ce k rv t I J R K L S) (e : v = v2) (h1 : Cal lyC dc hc mc (.ref 0 :: as) (I, J, R) (fun r M => r = some (.int v) ∧ M = (I, J, R))) (h2 : Cal lyM dm hm mm (.ref 0 :: as) (K, L, S) (fun r M => r = some (.int v2) ∧ M = (ti_wr K 0 12 w, L, S))) (d1 : dc ≤ 120) (d2 : dm ≤ 120) : Bo hc mc hm mm as k I J R K L S := by
  subst e
  exact Bo.no h h1 h2 d1 d2
theorem Bo.of2 {hc hm : TH} {mc mm dc dm : Nat} {as : List Value} {k : Nat} {I : Nat → Nat → Int32} {J : Nat → Nat → Int64} {R : Nat → Nat → Value} {K : Nat → Nat → Int32} {L : Nat → Nat → Int64} {S : Nat → Nat → Value} {v v2 : Int32} {QC QM : TM → Prop} (e : v = v2) (h1 : Cal lyC dc hc mc (.ref 0 :: as) (I, J, R) (fun r M => r = some (.int v) ∧ QC M)) (h2 : Cal lyM dm hm mm (.ref 0 :: as) (K, L, S) (fun r M => r = some (.int v2) ∧ QM M)) (d1 : dc ≤ 120) (d2 : dm ≤ 120) (h3 : ∀ M1 M2, QC M1 → QM M2 → REL (k + 1) M1 M2) : Bo hc mc hm mm as k I J R K L S := by
  subst e
  exact Bo.of h1 h2 d1 d2 h3
theorem vI {v : Int32} {Q : TM → Prop} (r : Option Value) (M : TM) (h : r = some (.int v) ∧ Q M) : (∃ v, r = some (.int v)) ∧ (r = some (.int v) ∧ Q M) := ⟨⟨v, h.1⟩, h⟩
theorem RB.fin0 {n c ns a p q z rs u x m no nc N ce k : Nat} {rv : RV} {t : Nat → Nat} {I K : Nat → Nat → Int32} {J L : Nat → Nat → Int64} {R S : Nat → Nat → Value} (h : RB n c ns a p q z rs u x m no nc N ce k rv t I J R K L S) {I3 K3 : Nat → Nat → Int32} {J3 : Nat → Nat → Int64} {S3 : Nat → Nat → Value} (hf : fC I I3) (hu : uC I J I3 J3) (hm : zM K S K3 S3) (h11 : K3 0 11 = K 0 11) : REL (k + 1) (I3, J3, R) (K3, L, S3) := h.fr hf hm (h.2.2.2.2.2.2.2.1.u hu h11)
theorem RB.fin1 {n c ns a p q z rs u x m no nc N ce k : Nat} {rv : RV} {t : Nat → Nat} {I K : Nat → Nat → Int32} {J L : Nat → Nat → Int64} {R S : Nat → Nat → Value} (h : RB n c ns a p q z rs u x m no nc N ce k rv t I J R K L S) {I3 K3 : Nat → Nat → Int32} {J3 : Nat → Nat → Int64} {S3 : Nat → Nat → Value} {v0 : Int64} (hf : fC I I3) (ht : tC [v0] I3 J3) (hm : zM K S K3 S3) (h11 : K3 0 11 = nI 1) : REL (k + 1) (I3, J3, R) (K3, ti_wl L 7 0 v0, S3) := h.fr hf hm (rRow.t ht (by show 1 ≤ 8; omega) h11 (fun i v e => by
    match i, e with
    | 0, e => cases e; exact ti_wl_at))
theorem RB.fin2 {n c ns a p q z rs u x m no nc N ce k : Nat} {rv : RV} {t : Nat → Nat} {I K : Nat → Nat → Int32} {J L : Nat → Nat → Int64} {R S : Nat → Nat → Value} (h : RB n c ns a p q z rs u x m no nc N ce k rv t I J R K L S) {I3 K3 : Nat → Nat → Int32} {J3 : Nat → Nat → Int64} {S3 : Nat → Nat → Value} {v0 v1 : Int64} (hf : fC I I3) (ht : tC [v0, v1] I3 J3) (hm : zM K S K3 S3) (h11 : K3 0 11 = nI 2) : REL (k + 1) (I3, J3, R) (K3, ti_wl (ti_wl L 7 0 v0) 7 1 v1, S3) := h.fr hf hm (rRow.t ht (by show 2 ≤ 8; omega) h11 (fun i v e => by
    match i, e with
    | 0, e => cases e; rw [wl_ne (by decide)]; exact ti_wl_at
    | 1, e => cases e; exact ti_wl_at))
theorem in01 (v a b : Int32) : m_in v a b = 0 ∨ m_in v a b = 1 := by
  unfold m_in
  split
  · exact Or.inl rfl
  · split
    · exact Or.inl rfl
    · exact Or.inr rfl
theorem in_n {x b : Int32} {n : Nat} (hb : b.toInt = n) (h : m_in x 0 b = 1) : ∃ j, j ≤ n ∧ x = nI j := by
  unfold m_in at h
  split at h
  · exact absurd h (by decide)
  · next h1 =>
    split at h
    · exact absurd h (by decide)
    · next h2 => exact nI_of2 hb h1 (Int32.not_lt.mp h2)
theorem ixc {n : Nat} {x : Int32} : ix n x = none ∨ ∃ j, ix n x = some j := by cases ix n x; (exact Or.inl rfl); (exact Or.inr ⟨_, rfl⟩)
theorem tn_lo {f g : Nat → Int32} {j : Nat} (h : j < 29) : m_tn f g j = f j := if_pos ⟨Nat.zero_le _, by omega⟩
theorem sM_11 {K K3 : Nat → Nat → Int32} {S S3 : Nat → Nat → Value} {v : Int32} (h : sM (ti_wr (ti_wr K 0 12 0) 0 11 v) S K3 S3) : K3 0 11 = v := (h.f 11 rfl).trans ti_wr_at
theorem sM_10 {K K3 : Nat → Nat → Int32} {S S3 : Nat → Nat → Value} (h : sM (ti_wr K 0 12 0) S K3 S3) : K3 0 11 = K 0 11 := (h.f 11 rfl).trans (wr_ne (by decide))
theorem sM_z {K K3 : Nat → Nat → Int32} {S S3 : Nat → Nat → Value} {v : Int32} (h : sM (ti_wr (ti_wr K 0 12 0) 0 11 v) S K3 S3) : zM K S K3 S3 := zM.w2.tr h.x.g
theorem sM_z0 {K K3 : Nat → Nat → Int32} {S S3 : Nat → Nat → Value} (h : sM (ti_wr K 0 12 0) S K3 S3) : zM K S K3 S3 := zM.w.tr h.x.g
theorem xM_11 {K K3 : Nat → Nat → Int32} {S S3 : Nat → Nat → Value} {v : Int32} (h : xM (ti_wr (ti_wr K 0 12 0) 0 11 v) S K3 S3) : K3 0 11 = v := (h.f 11 rfl).trans ti_wr_at
theorem xM_10 {K K3 : Nat → Nat → Int32} {S S3 : Nat → Nat → Value} (h : xM (ti_wr K 0 12 0) S K3 S3) : K3 0 11 = K 0 11 := (h.f 11 rfl).trans (wr_ne (by decide))
theorem xM_z {K K3 : Nat → Nat → Int32} {S S3 : Nat → Nat → Value} {v : Int32} (h : xM (ti_wr (ti_wr K 0 12 0) 0 11 v) S K3 S3) : zM K S K3 S3 := zM.w2.tr h.g
theorem xM_z0 {K K3 : Nat → Nat → Int32} {S S3 : Nat → Nat → Value} (h : xM (ti_wr K 0 12 0) S K3 S3) : zM K S K3 S3 := zM.w.tr h.g
theorem RB.kF {n c ns a p q z rs u x m no nc N ce k : Nat} {rv : RV} {t : Nat → Nat} {I K : Nat → Nat → Int32} {J L : Nat → Nat → Int64} {R S : Nat → Nat → Value} (h : RB n c ns a p q z rs u x m no nc N ce k rv t I J R K L S) (d : Nat) : kF I R d p (m_FX (K 2) (K 3) (K 4) n c rs rv (K 1) a) := by
  have := (h.kA d).kF (R := R) (h.2.1.1.1.trans h.2.1.2.1) (Nat.le_trans h.2.1.2.2.1 h.1.1.2.2.2.1)
  rw [FX_eq h.1.1 h.2.2.1.2.2.2.2.2.2.2.2 h.2.1.1.2.2.2.2.2.2.2.1] at this
  exact this
theorem RB.nd {n c ns a p q z rs u x m no nc N ce k : Nat} {rv : RV} {t : Nat → Nat} {I K : Nat → Nat → Int32} {J L : Nat → Nat → Int64} {R S : Nat → Nat → Value} (h : RB n c ns a p q z rs u x m no nc N ce k rv t I J R K L S) : I 39 2 + m_st c (I 6) a = m_ND (K 2) c (K 1) a := by
  unfold m_ND
  rw [h.2.1.1.2.1, st_eq h.1.1.2.2.2.2.2.2.2.1]
theorem b_count {n c ns a p q z rs u x m no nc N ce k : Nat} {rv : RV} {t : Nat → Nat} {I K : Nat → Nat → Int32} {J L : Nat → Nat → Int64} {R S : Nat → Nat → Value} (h : RB n c ns a p q z rs u x m no nc N ce k rv t I J R K L S) (y : Int32) : Bo hX11_count 2 hX12_count 2 [.int y] k I J R K L S := by
  have hst := h.1.1
  have hn8 := hst.2.1
  have hc12 := hst.2.2.2.1
  have hns8 := hst.2.2.2.2.2.2.1
  have hkn := h.1.2.1
  have hkc := h.1.2.2.1
  have hkns := h.1.2.2.2.1
  have sr := h.2.1.1
  have ws := h.2.1.2
  have hp := h.2.2.1.1
  have hz := h.2.2.1.2.2.2.2.2.2.2.2
  have ha := ws.1
  have hac := ws.2.1
  have ha12 : a ≤ 12 := Nat.le_trans hac hc12
  have hcy := sr.cy
  have ha39 : I 39 1 = nI a := sr.1.trans ws.1
  have hrow := h.2.2.2.2.2.2.2.1
  rcases ixc (n := 16) (x := y) with hx | ⟨j, hx⟩
  · exact Bo.no h (k_countD (d := 0) hx) (c_countD (d := 0) hx) (by omega) (by omega)
  · obtain ⟨hj, rfl⟩ := ix_some (by decide) hx
    rcases (by omega : j = 0 ∨ j = 1 ∨ j = 2 ∨ j = 3 ∨ j = 4 ∨ j = 5 ∨ j = 6 ∨ j = 7 ∨ j = 8 ∨ j = 9 ∨ j = 10 ∨ j = 11 ∨ j = 12 ∨ j = 13 ∨ j = 14 ∨ j = 15) with e | e | e | e | e | e | e | e | e | e | e | e | e | e | e | e <;> subst e
    · exact Bo.no2 h (hst.2.2.1.trans hkc.symm) (k_count0 (d := 0)) (c_count0 (d := 0) hkn hn8 hkns hns8) (by omega) (by omega)
    · exact Bo.no2 h (hst.1.trans hkn.symm) (k_count1 (d := 0)) (c_count1 (d := 0) hkn hn8 hkns hns8) (by omega) (by omega)
    · exact Bo.no2 h (hst.2.2.2.2.2.1.trans hkns.symm) (k_count2 (d := 0)) (c_count2 (d := 0) hkn hn8 hkns hns8) (by omega) (by omega)
    · exact Bo.no2 h (sr.1) (k_count3 (d := 0)) (c_count3 (d := 0) hkn hn8 hkns hns8) (by omega) (by omega)
    · exact Bo.no2 h (sr.2.1) (k_count4 (d := 0)) (c_count4 (d := 0) hkn hn8 hkns hns8) (by omega) (by omega)
    · exact Bo.no2 h (hcy) (k_count5 (d := 0)) (c_count5 (d := 0) hkn hn8 hkns hns8) (by omega) (by omega)
    · exact Bo.no2 h (sr.2.2.2.1) (k_count6 (d := 0)) (c_count6 (d := 0) hkn hn8 hkns hns8) (by omega) (by omega)
    · exact Bo.no2 h (sr.2.2.2.2.1) (k_count7 (d := 0)) (c_count7 (d := 0) hkn hn8 hkns hns8) (by omega) (by omega)
    · exact Bo.no2 h (sr.2.2.2.2.2.1) (k_count8 (d := 0) (by rw [sr.2.2.2.2.2.1]; exact ws.2.2.2.2.2.2.2.1)) (c_count8 (d := 0) hkn hn8 hkns hns8) (by omega) (by omega)
    · exact Bo.no2 h (sr.2.2.2.2.2.2.1) (k_count9 (d := 0)) (c_count9 (d := 0) hkn hn8 hkns hns8) (by omega) (by omega)
    · exact Bo.no2 h (h.2.2.2.2.2.2.2.2.1.1.trans h.2.2.2.2.2.2.2.2.1.2.2.1.symm) (k_count10 (d := 0)) (c_count10 (d := 0) hkn hn8 hkns hns8) (by omega) (by omega)
    · exact Bo.no2 h (h.2.2.2.2.2.2.2.2.2.1.trans h.2.2.2.2.2.2.2.2.2.2.2.1.symm) (k_count11 (d := 0)) (c_count11 (d := 0) hkn hn8 hkns hns8) (by omega) (by omega)
    · exact Bo.no2 h (h.2.2.2.1.1.trans h.2.2.2.1.2.2.1.symm) (k_count12 (d := 0)) (c_count12 (d := 0) hkn hn8 hkns hns8) (by omega) (by omega)
    · exact Bo.no2 h (hrow.1.trans hrow.2.2.1.symm) (k_count13 (d := 0)) (c_count13 (d := 0) hkn hn8 hkns hns8) (by omega) (by omega)
    · exact Bo.no2 h (h.2.2.2.2.2.2.1.1.1.trans h.2.2.2.2.2.2.1.2.1.symm) (k_count14 (d := 0)) (c_count14 (d := 0) hkn hn8 hkns hns8) (by omega) (by omega)
    · exact Bo.no2 h (congrArg bc sr.2.2.2.2.1) (k_count15 (d := 0)) (c_count15 (d := 0) hkn hn8 hkns hns8) (by omega) (by omega)
theorem b_force {n c ns a p q z rs u x m no nc N ce k : Nat} {rv : RV} {t : Nat → Nat} {I K : Nat → Nat → Int32} {J L : Nat → Nat → Int64} {R S : Nat → Nat → Value} (h : RB n c ns a p q z rs u x m no nc N ce k rv t I J R K L S)  : Bo hX11_force 1 hX12_force 1 [] k I J R K L S := by
  have hst := h.1.1
  have hn8 := hst.2.1
  have hc12 := hst.2.2.2.1
  have hns8 := hst.2.2.2.2.2.2.1
  have hkn := h.1.2.1
  have hkc := h.1.2.2.1
  have hkns := h.1.2.2.2.1
  have sr := h.2.1.1
  have ws := h.2.1.2
  have hp := h.2.2.1.1
  have hz := h.2.2.1.2.2.2.2.2.2.2.2
  have ha := ws.1
  have hac := ws.2.1
  have ha12 : a ≤ 12 := Nat.le_trans hac hc12
  have hcy := sr.cy
  have ha39 : I 39 1 = nI a := sr.1.trans ws.1
  have hrow := h.2.2.2.2.2.2.2.1
  have eF : k_FX (I 6) (I 9) (I 10) n c z rv (I 40) a (I 39 3) = m_FX (K 2) (K 3) (K 4) n c rs rv (K 1) a (m_cy (K 1) n) := by rw [FX_eq hst hz sr.2.2.2.2.2.2.2.1, hcy]
  refine Bo.of2 eF (k_force (h.kA 0) hp ha39 ha12) (c_force (h.mA 0) ha hac) (by omega) (by omega) ?_
  rintro _ _ ⟨I3, J3, rfl, hf, ht⟩ ⟨K3, S3, rfl, hs⟩
  rw [h.nd, hcy] at ht
  exact h.fin2 hf ht (sM_z hs) (sM_11 hs)
theorem b_first {n c ns a p q z rs u x m no nc N ce k : Nat} {rv : RV} {t : Nat → Nat} {I K : Nat → Nat → Int32} {J L : Nat → Nat → Int64} {R S : Nat → Nat → Value} (h : RB n c ns a p q z rs u x m no nc N ce k rv t I J R K L S)  : Bo hX11_first 1 hX12_first 2 [] k I J R K L S := by
  have hst := h.1.1
  have hn8 := hst.2.1
  have hc12 := hst.2.2.2.1
  have hns8 := hst.2.2.2.2.2.2.1
  have hkn := h.1.2.1
  have hkc := h.1.2.2.1
  have hkns := h.1.2.2.2.1
  have sr := h.2.1.1
  have ws := h.2.1.2
  have hp := h.2.2.1.1
  have hz := h.2.2.1.2.2.2.2.2.2.2.2
  have ha := ws.1
  have hac := ws.2.1
  have ha12 : a ≤ 12 := Nat.le_trans hac hc12
  have hcy := sr.cy
  have ha39 : I 39 1 = nI a := sr.1.trans ws.1
  have hrow := h.2.2.2.2.2.2.2.1
  by_cases h0 : m_cy (K 1) n = 0
  · exact Bo.no h (k_first0 (d := 0) (hcy.trans h0)) (c_first0 (d := 0) hkn hn8 h0) (by omega) (by omega)
  have h0c : ¬ I 39 3 = 0 := by rw [hcy]; exact h0
  have e0 : m_cy (m_tn (K 1) (K 14)) n = m_cy (K 1) n := by rw [m_cy_bt, m_cy_bt]; exact bt_ext n (fun b hb => tn_lo (by omega))
  refine Bo.of (k_first h0c hp ((k_firstStagger (h.kA 0) hst hz (SR.ext hn8 hns8 (fun j hj => tn_lo hj) sr) (WS.ext hn8 hns8 (fun j hj => tn_lo hj) ws) (by rw [e0]; exact h0)).imp vI)) (c_first1 (h.mA 0) ha hac h0) (by omega) (by omega) ?_
  rintro _ _ ⟨I3, rfl, hf, e3⟩ ⟨K3, S3, row2, rfl, hs⟩
  exact h.fin0 hf ⟨e3, rfl⟩ (zM.w.tr (zM.u14.tr hs.x.g)) ((hs.f 11 rfl).trans ((congrFun (va_up_n (by decide)) 11).trans (wr_ne (by decide))))
theorem b_ahead {n c ns a p q z rs u x m no nc N ce k : Nat} {rv : RV} {t : Nat → Nat} {I K : Nat → Nat → Int32} {J L : Nat → Nat → Int64} {R S : Nat → Nat → Value} (h : RB n c ns a p q z rs u x m no nc N ce k rv t I J R K L S) (y : Int32) : Bo hX11_ahead 2 hX12_ahead 5 [.int y] k I J R K L S := by
  have hst := h.1.1
  have hn8 := hst.2.1
  have hc12 := hst.2.2.2.1
  have hns8 := hst.2.2.2.2.2.2.1
  have hkn := h.1.2.1
  have hkc := h.1.2.2.1
  have hkns := h.1.2.2.2.1
  have sr := h.2.1.1
  have ws := h.2.1.2
  have hp := h.2.2.1.1
  have hz := h.2.2.1.2.2.2.2.2.2.2.2
  have ha := ws.1
  have hac := ws.2.1
  have ha12 : a ≤ 12 := Nat.le_trans hac hc12
  have hcy := sr.cy
  have ha39 : I 39 1 = nI a := sr.1.trans ws.1
  have hrow := h.2.2.2.2.2.2.2.1
  by_cases h0 : m_cy (K 1) n = 0
  · exact Bo.no h (k_ahead0 (d := 0) (hcy.trans h0) y) (c_ahead3 (d := 0) hkn hn8 h0 y) (by omega) (by omega)
  have h0c : ¬ I 39 3 = 0 := by rw [hcy]; exact h0
  rcases in01 y 0 12 with hi | hi
  · exact Bo.no h (k_ahead1 (d := 0) h0c hi) (c_ahead1 (d := 0) hkn hn8 h0 hi) (by omega) (by omega)
  obtain ⟨j, hj, rfl⟩ := in_n (n := 12) (by decide) hi
  have e0 : m_cy (m_tn (K 1) (K 14)) n = m_cy (K 1) n := by rw [m_cy_bt, m_cy_bt]; exact bt_ext n (fun b hb => tn_lo (by omega))
  have e1 : (m_ah (K 2) (K 3) (K 4) n c rs rv j (m_tn (K 1) (K 14)) a 0).2.1 28 - m_tn (K 1) (K 14) 28 = (m_ah (K 2) (K 3) (K 4) n c rs rv j (m_tn (K 1) (K 14)) a 0).1 := by
    have := ah_28 (sp := K 2) (str := K 3) (tl := K 4) (n := n) (c := c) (rs := rs) (rv := rv) j (m_tn (K 1) (K 14)) a 0
    rw [Int32.add_zero] at this
    rw [← this, Int32.add_sub_cancel]
  refine Bo.of2 e1 (k_ahead h0c hj hp ((k_staggersAhead (h.kA 0) hst hz (SR.ext hn8 hns8 (fun j hj => tn_lo hj) sr) (WS.ext hn8 hns8 (fun j hj => tn_lo hj) ws) (by rw [e0]; exact h0) hj).imp vI)) (c_ahead hj (h.mA 0) ha hac h0) (by omega) (by omega) ?_
  rintro _ _ ⟨I3, J3, rfl, hf, ht⟩ ⟨K3, S3, row2, rfl, hs⟩
  exact h.fin2 hf ht (zM.w2.tr (zM.u14.tr hs.x.g)) ((hs.f 11 rfl).trans ((congrFun (va_up_n (by decide)) 11).trans ti_wr_at))
theorem b_bears {n c ns a p q z rs u x m no nc N ce k : Nat} {rv : RV} {t : Nat → Nat} {I K : Nat → Nat → Int32} {J L : Nat → Nat → Int64} {R S : Nat → Nat → Value} (h : RB n c ns a p q z rs u x m no nc N ce k rv t I J R K L S)  : Bo hX11_bears 1 hX12_bears 2 [] k I J R K L S := by
  have hst := h.1.1
  have hn8 := hst.2.1
  have hc12 := hst.2.2.2.1
  have hns8 := hst.2.2.2.2.2.2.1
  have hkn := h.1.2.1
  have hkc := h.1.2.2.1
  have hkns := h.1.2.2.2.1
  have sr := h.2.1.1
  have ws := h.2.1.2
  have hp := h.2.2.1.1
  have hz := h.2.2.1.2.2.2.2.2.2.2.2
  have ha := ws.1
  have hac := ws.2.1
  have ha12 : a ≤ 12 := Nat.le_trans hac hc12
  have hcy := sr.cy
  have ha39 : I 39 1 = nI a := sr.1.trans ws.1
  have hrow := h.2.2.2.2.2.2.2.1
  by_cases h0 : m_cy (K 1) n = 0
  · exact Bo.no h (k_bears0 (d := 0) (hcy.trans h0)) (c_bears3 (d := 0) hkn hn8 h0) (by omega) (by omega)
  have h0c : ¬ I 39 3 = 0 := by rw [hcy]; exact h0
  refine Bo.of (k_bears h0c hp ((k_mostLoad (h.kA 0) hst hz sr ws).imp vI)) (c_bears (h.mA 0) ha hac hst.2.2.2.2.2.2.2.2.2.2.1 h0) (by omega) (by omega) ?_
  rintro _ _ ⟨I3, rfl, hf, e3⟩ ⟨K3, S3, row2, rfl, hs⟩
  exact h.fin0 hf ⟨e3, rfl⟩ (zM.w.tr (zM.u14.tr hs.x.g)) ((hs.f 11 rfl).trans ((congrFun (va_up_n (by decide)) 11).trans (wr_ne (by decide))))
theorem b_could {n c ns a p q z rs u x m no nc N ce k : Nat} {rv : RV} {t : Nat → Nat} {I K : Nat → Nat → Int32} {J L : Nat → Nat → Int64} {R S : Nat → Nat → Value} (h : RB n c ns a p q z rs u x m no nc N ce k rv t I J R K L S)  : Bo hX11_could 1 hX12_could 5 [] k I J R K L S := by
  have hst := h.1.1
  have hn8 := hst.2.1
  have hc12 := hst.2.2.2.1
  have hns8 := hst.2.2.2.2.2.2.1
  have hkn := h.1.2.1
  have hkc := h.1.2.2.1
  have hkns := h.1.2.2.2.1
  have sr := h.2.1.1
  have ws := h.2.1.2
  have hp := h.2.2.1.1
  have hz := h.2.2.1.2.2.2.2.2.2.2.2
  have ha := ws.1
  have hac := ws.2.1
  have ha12 : a ≤ 12 := Nat.le_trans hac hc12
  have hcy := sr.cy
  have ha39 : I 39 1 = nI a := sr.1.trans ws.1
  have hrow := h.2.2.2.2.2.2.2.1
  refine Bo.of (k_could ((k_sayable (d := 0) hst sr ws).imp vI)) (c_could (d := 0) hkns hns8 hkc hc12 ha ha12) (by omega) (by omega) ?_
  rintro _ _ ⟨I3, J3, rfl, hf, ht⟩ rfl
  exact h.fin2 hf ht zM.w2 ti_wr_at
theorem b_team {n c ns a p q z rs u x m no nc N ce k : Nat} {rv : RV} {t : Nat → Nat} {I K : Nat → Nat → Int32} {J L : Nat → Nat → Int64} {R S : Nat → Nat → Value} (h : RB n c ns a p q z rs u x m no nc N ce k rv t I J R K L S) (y : Int32) : Bo hX11_team 2 hX12_team 5 [.int y] k I J R K L S := by
  have hst := h.1.1
  have hn8 := hst.2.1
  have hc12 := hst.2.2.2.1
  have hns8 := hst.2.2.2.2.2.2.1
  have hkn := h.1.2.1
  have hkc := h.1.2.2.1
  have hkns := h.1.2.2.2.1
  have sr := h.2.1.1
  have ws := h.2.1.2
  have hp := h.2.2.1.1
  have hz := h.2.2.1.2.2.2.2.2.2.2.2
  have ha := ws.1
  have hac := ws.2.1
  have ha12 : a ≤ 12 := Nat.le_trans hac hc12
  have hcy := sr.cy
  have ha39 : I 39 1 = nI a := sr.1.trans ws.1
  have hrow := h.2.2.2.2.2.2.2.1
  rcases in01 y 1 6 with hi | hi
  · exact Bo.no h (k_team0 (d := 0) hi) (c_team0 (d := 0) hi) (by omega) (by omega)
  by_cases h2 : nI n < y
  · exact Bo.no h (k_team2 (d := 0) hst.1 hi h2) (c_team2 (d := 0) hkn hi h2) (by omega) (by omega)
  refine Bo.of (k_team hst.1 hi h2 hp ((k_strongest hst.1 hn8 (h.kF 0) y).imp vI)) (c_team (h.mA 0) ha hac hi h2) (by omega) (by omega) ?_
  rintro _ _ ⟨I3, J3, rfl, hf, ht⟩ ⟨K3, S3, rfl, hs⟩
  exact h.fin1 hf ht (sM_z hs) (sM_11 hs)
theorem b_fewest {n c ns a p q z rs u x m no nc N ce k : Nat} {rv : RV} {t : Nat → Nat} {I K : Nat → Nat → Int32} {J L : Nat → Nat → Int64} {R S : Nat → Nat → Value} (h : RB n c ns a p q z rs u x m no nc N ce k rv t I J R K L S)  : Bo hX11_fewest 1 hX12_fewest 4 [] k I J R K L S := by
  have hst := h.1.1
  have hn8 := hst.2.1
  have hc12 := hst.2.2.2.1
  have hns8 := hst.2.2.2.2.2.2.1
  have hkn := h.1.2.1
  have hkc := h.1.2.2.1
  have hkns := h.1.2.2.2.1
  have sr := h.2.1.1
  have ws := h.2.1.2
  have hp := h.2.2.1.1
  have hz := h.2.2.1.2.2.2.2.2.2.2.2
  have ha := ws.1
  have hac := ws.2.1
  have ha12 : a ≤ 12 := Nat.le_trans hac hc12
  have hcy := sr.cy
  have ha39 : I 39 1 = nI a := sr.1.trans ws.1
  have hrow := h.2.2.2.2.2.2.2.1
  obtain ⟨qn, hqn, eqn⟩ := ND_le hst.2.2.2.2.2.2.2.2.2.2.1 ws
  have hC := k_smallest (J := J) hst.1 hn8 hst.2.2.1 hc12 ha39 ha12 (h.kF 0) rfl
  rw [h.nd, eqn] at hC
  have hM := c_fewest (J := L) (h.mA 0) ha hac
  rw [eqn] at hM
  obtain ⟨r1, M1, ⟨I3, J3, rfl, hf, hsm⟩, hC1⟩ := hC.det
  rcases fw_eq (FX_le hn8) hqn hn8 hsm with ⟨e0, rfl, hu⟩ | ⟨e0, rfl, ht⟩
  · refine Bo.of (k_fewest hp (hC1.imp (fun r M q => ⟨⟨_, q.1⟩, q⟩))) (hM.imp (fun r M q => by rw [if_pos e0] at q; exact q)) (by omega) (by omega) ?_
    rintro _ _ rfl ⟨K3, S3, rfl, hs⟩
    exact h.fin0 hf hu (sM_z0 hs) (sM_10 hs)
  · refine Bo.of (k_fewest hp (hC1.imp (fun r M q => ⟨⟨_, q.1⟩, q⟩))) (hM.imp (fun r M q => by rw [if_neg e0] at q; exact q)) (by omega) (by omega) ?_
    rintro _ _ rfl ⟨K3, S3, rfl, hs⟩
    exact h.fin2 hf ht (sM_z hs) (sM_11 hs)
theorem b_change {n c ns a p q z rs u x m no nc N ce k : Nat} {rv : RV} {t : Nat → Nat} {I K : Nat → Nat → Int32} {J L : Nat → Nat → Int64} {R S : Nat → Nat → Value} (h : RB n c ns a p q z rs u x m no nc N ce k rv t I J R K L S)  : Bo hX11_change 1 hX12_change 8 [] k I J R K L S := by
  have hst := h.1.1
  have hn8 := hst.2.1
  have hc12 := hst.2.2.2.1
  have hns8 := hst.2.2.2.2.2.2.1
  have hkn := h.1.2.1
  have hkc := h.1.2.2.1
  have hkns := h.1.2.2.2.1
  have sr := h.2.1.1
  have ws := h.2.1.2
  have hp := h.2.2.1.1
  have hz := h.2.2.1.2.2.2.2.2.2.2.2
  have ha := ws.1
  have hac := ws.2.1
  have ha12 : a ≤ 12 := Nat.le_trans hac hc12
  have hcy := sr.cy
  have ha39 : I 39 1 = nI a := sr.1.trans ws.1
  have hrow := h.2.2.2.2.2.2.2.1
  obtain ⟨v, _, ev, hv⟩ := cy_v hn8 ws
  have hE := chO_eq (F := m_FX (K 2) (K 3) (K 4) n c rs rv (K 1) a) (fun y => by obtain ⟨w, hw, e⟩ := FX_le (sp := K 2) (str := K 3) (tl := K 4) (c := c) (rs := rs) (rv := rv) (row := K 1) (a := a) hn8 y; rw [e]; exact nI_pos' (by omega)) hv hn8 n (Nat.le_refl n)
  rw [← ev] at hE
  obtain ⟨e1, e2⟩ := chE_1 hE
  have hC := k_bestChange (J := J) hst.1 hn8 (h.kF 0) (fun y => by obtain ⟨w, hw, e⟩ := FX_le (sp := K 2) (str := K 3) (tl := K 4) (c := c) (rs := rs) (rv := rv) (row := K 1) (a := a) hn8 y; rw [e]; exact fun q => nI_pos (show w < 2 ^ 31 by omega) (by rw [q]; decide))
  rw [hcy] at hC
  have hM := c_change (J := L) (h.mA 0) ha hac
  by_cases e0 : (m_chO (m_FX (K 2) (K 3) (K 4) n c rs rv (K 1) a) (m_cy (K 1) n) n n).1 = -1
  · have hk := e1.mpr e0
    refine Bo.of2 (v2 := -2) hk (k_change hp (hC.imp vI)) (hM.imp (fun r M q => by rw [if_pos e0] at q; exact q)) (by omega) (by omega) ?_
    rintro _ _ ⟨I3, J3, rfl, hf, hu⟩ ⟨K3, S3, rfl, hs⟩
    exact h.fin0 hf (hu.1 hk) (sM_z0 hs) (sM_10 hs)
  · have hk : ¬ (k_chO (m_FX (K 2) (K 3) (K 4) n c rs rv (K 1) a) (m_cy (K 1) n) n n).1 = -2 := fun q => e0 (e1.mp q)
    have e3 := e2 e0
    refine Bo.of2 (congrArg Prod.fst e3) (k_change hp (hC.imp vI)) (hM.imp (fun r M q => by rw [if_neg e0] at q; exact q)) (by omega) (by omega) ?_
    rintro _ _ ⟨I3, J3, rfl, hf, hu⟩ ⟨K3, S3, rfl, hs⟩
    have ht := hu.2 hk
    rw [e3] at ht
    exact h.fin2 hf ht (sM_z hs) (sM_11 hs)
theorem slI_ext {f g : Nat → Int32} {x : Int32} {a n : Nat} (ha : a < n) {t : Int32 × Int32 × Int32} (h : ∀ b, b < n → f b = g b) : ∀ b, b ≤ n → k_slI f x a t b = k_slI g x a t b
  | 0, _ => rfl
  | b + 1, hb => by
    simp only [k_slI, k_sl1]
    rw [slI_ext ha h b (by omega), h a ha, h b (by omega)]
theorem slO_ext' {f g : Nat → Int32} {x : Int32} {n : Nat} (h : ∀ b, b < n → f b = g b) : ∀ a, a ≤ n → k_slO f x n a = k_slO g x n a
  | 0, _ => rfl
  | a + 1, ha => by
    simp only [k_slO]
    rw [slO_ext' h a (by omega), slI_ext (by omega) h n (Nat.le_refl n)]
theorem slO_ext {f g : Nat → Int32} {x : Int32} (n : Nat) (h : ∀ b, b < n → f b = g b) : k_slO f x n n = k_slO g x n n := slO_ext' h n (Nat.le_refl n)
theorem b_slant {n c ns a p q z rs u x m no nc N ce k : Nat} {rv : RV} {t : Nat → Nat} {I K : Nat → Nat → Int32} {J L : Nat → Nat → Int64} {R S : Nat → Nat → Value} (h : RB n c ns a p q z rs u x m no nc N ce k rv t I J R K L S)  : Bo hX11_slant 1 hX12_slant 7 [] k I J R K L S := by
  have hst := h.1.1
  have hn8 := hst.2.1
  have hc12 := hst.2.2.2.1
  have hns8 := hst.2.2.2.2.2.2.1
  have hkn := h.1.2.1
  have hkc := h.1.2.2.1
  have hkns := h.1.2.2.2.1
  have sr := h.2.1.1
  have ws := h.2.1.2
  have hp := h.2.2.1.1
  have hz := h.2.2.1.2.2.2.2.2.2.2.2
  have ha := ws.1
  have hac := ws.2.1
  have ha12 : a ≤ 12 := Nat.le_trans hac hc12
  have hcy := sr.cy
  have ha39 : I 39 1 = nI a := sr.1.trans ws.1
  have hrow := h.2.2.2.2.2.2.2.1
  obtain ⟨v, _, ev, hv⟩ := cy_v hn8 ws
  have hE := slO_eq (h := K 4) hv hn8 h.1.2.2.2.2.1 n (Nat.le_refl n)
  rw [← ev] at hE
  obtain ⟨e1, e2⟩ := chE_1 hE
  have hC := k_mostUneven (J := J) (R := R) (d := 0) hst.1 hn8
  rw [hcy, slO_ext n (fun b hb => (hst.2.2.2.2.2.2.2.2.1 b hb).2)] at hC
  have hM := c_slant (J := L) (R := S) (d := 0) hkn hn8
  by_cases e0 : (m_slO (K 4) (m_cy (K 1) n) n n).1 = -1
  · have hk := e1.mpr e0
    refine Bo.of2 (v2 := -2) hk (k_slant (hC.imp vI)) (hM.imp (fun r M q => by rw [if_pos e0] at q; exact q)) (by omega) (by omega) ?_
    rintro _ _ ⟨I3, J3, rfl, hf, hu⟩ rfl
    exact h.fin0 hf (hu.1 hk) zM.w (wr_ne (by decide))
  · have hk : ¬ (k_slO (K 4) (m_cy (K 1) n) n n).1 = -2 := fun q => e0 (e1.mp q)
    have e3 := e2 e0
    refine Bo.of2 (congrArg Prod.fst e3) (k_slant (hC.imp vI)) (hM.imp (fun r M q => by rw [if_neg e0] at q; exact q)) (by omega) (by omega) ?_
    rintro _ _ ⟨I3, J3, rfl, hf, hu⟩ rfl
    have ht := hu.2 hk
    rw [e3] at ht
    exact h.fin2 hf ht zM.w2 ti_wr_at
theorem b_props {n c ns a p q z rs u x m no nc N ce k : Nat} {rv : RV} {t : Nat → Nat} {I K : Nat → Nat → Int32} {J L : Nat → Nat → Int64} {R S : Nat → Nat → Value} (h : RB n c ns a p q z rs u x m no nc N ce k rv t I J R K L S)  : Bo hX11_props 1 hX12_props 4 [] k I J R K L S := by
  have hst := h.1.1
  have hn8 := hst.2.1
  have hc12 := hst.2.2.2.1
  have hns8 := hst.2.2.2.2.2.2.1
  have hkn := h.1.2.1
  have hkc := h.1.2.2.1
  have hkns := h.1.2.2.2.1
  have sr := h.2.1.1
  have ws := h.2.1.2
  have hp := h.2.2.1.1
  have hz := h.2.2.1.2.2.2.2.2.2.2.2
  have ha := ws.1
  have hac := ws.2.1
  have ha12 : a ≤ 12 := Nat.le_trans hac hc12
  have hcy := sr.cy
  have ha39 : I 39 1 = nI a := sr.1.trans ws.1
  have hrow := h.2.2.2.2.2.2.2.1
  obtain ⟨v, _, ev, hv⟩ := cy_v hn8 ws
  have hC := k_needed (J := J) hst.1 hn8 hst.2.2.1 hc12 ha39 ha12 (h.kF 0)
  rw [h.nd, hcy, ev, pr_eq hv n hn8, ← ev] at hC
  refine Bo.of (k_props hp (hC.imp vI)) (c_props (h.mA 0) ha hac) (by omega) (by omega) ?_
  rintro _ _ ⟨I3, J3, rfl, hf, ht⟩ ⟨K3, S3, rfl, hs⟩
  exact h.fin1 hf ht (sM_z hs) (sM_11 hs)
