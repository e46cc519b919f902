/-! bearer, saying, row by both: they answer the same, or both refuse -/
def Bt (hc : TH) (mc : Nat) (hm : TH) (mm : Nat) (as : List Value) (k : Nat) (MC MM : TM) (thr : Prop) : Prop := (∃ (v : Value) (QC QM : TM → Prop), Cal lyC 120 hc mc (.ref 0 :: as) MC (fun r M => r = some v ∧ QC M) ∧ Cal lyM 120 hm mm (.ref 0 :: as) MM (fun r M => r = some v ∧ QM M) ∧ ∀ M1 M2, QC M1 → QM M2 → REL (k + 1) M1 M2 ∧ M2.1 0 12 = 0) ∨ (thr ∧ ∃ v, Cal lyM 120 hm mm (.ref 0 :: as) MM (fun r M => r = some v ∧ REL (k + 1) MC M ∧ M.1 0 12 = 1))
theorem Bt.ok {hc hm : TH} {mc mm dc dm : Nat} {as : List Value} {n c ns a p q z rs u x m no nc N ce k : Nat} {rv : RV} {t : Nat → Nat} {I K : Nat → Nat → Int32} {J L : Nat → Nat → Int64} {R S : Nat → Nat → Value} {v w : Value} {thr : Prop} (h : RB n c ns a p q z rs u x m no nc N ce k rv t I J R K L S) (e : v = w) (h1 : Cal lyC dc hc mc (.ref 0 :: as) (I, J, R) (fun r M => r = some v ∧ M = (I, J, R))) (h2 : Cal lyM dm hm mm (.ref 0 :: as) (K, L, S) (fun r M => r = some w ∧ M = (ti_wr K 0 12 0, L, S))) (d1 : dc ≤ 120) (d2 : dm ≤ 120) : Bt hc mc hm mm as k (I, J, R) (K, L, S) thr := by
  subst e
  refine Or.inl ⟨v, _, _, Cal.mono d1 h1, Cal.mono d2 h2, fun M1 M2 e1 e2 => ?_⟩
  rw [e1, e2]
  exact ⟨h.id, show ti_wr K 0 12 0 0 12 = 0 from ti_wr_at⟩
theorem Bt.no {hc hm : TH} {mc mm dm : Nat} {as : List Value} {n c ns a p q z rs u x m no nc N ce k : Nat} {rv : RV} {t : Nat → Nat} {I K : Nat → Nat → Int32} {J L : Nat → Nat → Int64} {R S : Nat → Nat → Value} {w : Value} {thr : Prop} (h : RB n c ns a p q z rs u x m no nc N ce k rv t I J R K L S) (ht : thr) (h2 : Cal lyM dm hm mm (.ref 0 :: as) (K, L, S) (fun r M => r = some w ∧ M = (ti_wr K 0 12 1, L, S))) (d2 : dm ≤ 120) : Bt hc mc hm mm as k (I, J, R) (K, L, S) thr :=
  Or.inr ⟨ht, w, Cal.imp (Cal.mono d2 h2) (fun r M e => ⟨e.1, by rw [e.2]; exact ⟨h.id, show ti_wr K 0 12 1 0 12 = 1 from ti_wr_at⟩⟩)⟩
theorem bt_row {n c ns a p q z rs u x m no nc N ce k : Nat} {rv : RV} {t : Nat → Nat} {I K : Nat → Nat → Int32} {J L : Nat → Nat → Int64} {R S : Nat → Nat → Value} (h : RB n c ns a p q z rs u x m no nc N ce k rv t I J R K L S) (y : Int32) : Bt hX11_row 2 hX12_row 2 [.int y] k (I, J, R) (K, L, S) (I 3 1 = nI m ∧ ix m y = none) := by
  obtain ⟨r1, r2, r3, r4⟩ := h.2.2.2.2.2.2.2.1
  rcases ixc (n := m) (x := y) with hx | ⟨j, hx⟩
  · exact Bt.no h ⟨r1, hx⟩ (c_row0 (d := 0) r3 (by omega) hx) (by omega)
  · obtain ⟨hj, rfl⟩ := ix_some (by omega) hx
    exact Bt.ok h (congrArg Value.long (r4 j hj)) (k_row (d := 0) r1 r2 hj) (c_row (d := 0) r3 (by omega) hx) (by omega) (by omega)
theorem bt_bearer {n c ns a p q z rs u x m no nc N ce k : Nat} {rv : RV} {t : Nat → Nat} {I K : Nat → Nat → Int32} {J L : Nat → Nat → Int64} {R S : Nat → Nat → Value} (h : RB n c ns a p q z rs u x m no nc N ce k rv t I J R K L S) (y w : Int32) : Bt hX11_bearer 3 hX12_bearer 3 [.int y, .int w] k (I, J, R) (K, L, S) (I 8 3 = nI n ∧ ¬ ((ix n y).isSome = true ∧ m_in w 0 4 = 1)) := by
  have hst := h.1.1
  have hn8 := hst.2.1
  have hc12 := hst.2.2.2.1
  have hkn := h.1.2.1
  have sr := h.2.1.1
  have ws := h.2.1.2
  have hp := h.2.2.1.1
  have hz := h.2.2.1.2.2.2.2.2.2.2.2
  have ha39 : I 39 1 = nI a := sr.1.trans ws.1
  have ha12 : a ≤ 12 := Nat.le_trans ws.2.1 hc12
  by_cases hx : (ix n y).isSome = true ∧ m_in w 0 4 = 1
  · obtain ⟨hx1, hx2⟩ := hx
    obtain ⟨j, hj⟩ := Option.isSome_iff_exists.mp hx1
    obtain ⟨hjn, rfl⟩ := ix_some (by omega) hj
    obtain ⟨i, hi, rfl⟩ := in_n (n := 4) (by decide) hx2
    have s2 := hst.2.2.2.2.2.2.2.2.1 j hjn
    have s1 := hst.2.2.2.2.2.2.2.1
    have t1 := sr.2.2.2.2.2.2.2.1 j hjn
    match i, hi with
    | 0, _ => exact Bt.ok h (congrArg Value.int s2.1) (k_bearer_0 (d := 0) hst.1 hn8 hj) (c_bearer_0 (d := 0) hkn hn8 hj) (by omega) (by omega)
    | 1, _ => exact Bt.ok h (congrArg Value.int s2.2) (k_bearer_1 (d := 0) hst.1 hn8 hj) (c_bearer_1 (d := 0) hkn hn8 hj) (by omega) (by omega)
    | 2, _ => exact Bt.ok h (congrArg Value.int t1) (k_bearer_2 (d := 0) hst.1 hn8 hj) (c_bearer_2 (d := 0) hkn hn8 hj) (by omega) (by omega)
    | 3, _ => exact Bt.ok h (congrArg Value.int (by rw [sr.2.2.1]; exact bt_bit hn8 ws.2.2.2.1 hjn)) (k_bearer_3 (d := 0) hst.1 hn8 hj) (c_bearer_3 (d := 0) hkn hn8 hj) (by omega) (by omega)
    | 4, _ =>
      have eV : k_be z rv (I 9 j) (I 40 j) (I 10 j) (k_tl (I 10) (I 39 3 ||| ((1 : Int32) <<< (nI j &&& 31))) n) (bc (I 39 3 ||| ((1 : Int32) <<< (nI j &&& 31)))) (m_st c (I 6) a) (nI j) = m_be rs rv (K 3) (K 4) (K 1) (m_tl (K 4) (m_cy (K 1) n ||| ((1 : Int32) <<< (nI j &&& 31))) n) (m_st c (K 2) a) j (m_cy (K 1) n ||| ((1 : Int32) <<< (nI j &&& 31))) := by
        rw [s2.1, s2.2, t1, sr.cy, st_eq s1, tl_eq n (fun b hb => (hst.2.2.2.2.2.2.2.2.1 b hb).2)]
        exact be_eq hz
      have k1 := k_bearer_4 (d := 0) (J := J) (h.kA 0) hp ha39 ha12 hj
      have k2 := c_bearer_4 (d := 0) (J := L) (h.mA 0) ws.1 ws.2.1 hj
      rw [eV] at k1
      refine Or.inl ⟨_, _, _, Cal.mono (by omega) k1, Cal.mono (by omega) k2, ?_⟩
      rintro _ _ ⟨I3, rfl, hf, hr3⟩ ⟨K3, S3, rfl, hs⟩
      exact ⟨h.fin0 hf ⟨hr3, rfl⟩ (sM_z0 hs) ((hs.f 11 rfl).trans (wr_ne (by decide))), (hs.f 12 rfl).trans ti_wr_at⟩
    | i + 5, hi => exact absurd hi (by omega)
  · exact Bt.no h ⟨hst.1, hx⟩ (c_bearer0 (d := 0) hkn hn8 hx) (by omega)
theorem bt_saying {n c ns a p q z rs u x m no nc N ce k : Nat} {rv : RV} {t : Nat → Nat} {I K : Nat → Nat → Int32} {J L : Nat → Nat → Int64} {R S : Nat → Nat → Value} (h : RB n c ns a p q z rs u x m no nc N ce k rv t I J R K L S) (y w : Int32) : Bt hX11_saying 3 hX12_saying 3 [.int y, .int w] k (I, J, R) (K, L, S) (I 11 4 = nI ns ∧ ¬ ((ix ns y).isSome = true ∧ m_in w 0 5 = 1)) := by
  have hst := h.1.1
  have hns := hst.2.2.2.2.2.1
  have hns8 := hst.2.2.2.2.2.2.1
  have hkns := h.1.2.2.2.1
  have sr := h.2.1.1
  have ws := h.2.1.2
  by_cases hx : (ix ns y).isSome = true ∧ m_in w 0 5 = 1
  · obtain ⟨hx1, hx2⟩ := hx
    obtain ⟨j, hj⟩ := Option.isSome_iff_exists.mp hx1
    obtain ⟨hjn, rfl⟩ := ix_some (by omega) hj
    obtain ⟨i, hi, rfl⟩ := in_n (n := 5) (by decide) hx2
    obtain ⟨s0, s1, s2, s3⟩ := hst.2.2.2.2.2.2.2.2.2.1 j hjn
    match i, hi with
    | 0, _ => exact Bt.ok h (congrArg Value.int s0) (k_saying_0 (d := 0) hns hns8 hj) (c_saying_k (d := 0) (q := 0) hkns hns8 hj (by decide)) (by omega) (by omega)
    | 1, _ => exact Bt.ok h (congrArg Value.int s1) (k_saying_1 (d := 0) hns hns8 hj) (c_saying_k (d := 0) (q := 1) hkns hns8 hj (by decide)) (by omega) (by omega)
    | 2, _ => exact Bt.ok h (congrArg Value.int s2) (k_saying_2 (d := 0) hns hns8 hj) (c_saying_k (d := 0) (q := 2) hkns hns8 hj (by decide)) (by omega) (by omega)
    | 3, _ => exact Bt.ok h (congrArg Value.int s3) (k_saying_3 (d := 0) hns hns8 hj) (c_saying_k (d := 0) (q := 3) hkns hns8 hj (by decide)) (by omega) (by omega)
    | 4, _ => exact Bt.ok h (congrArg Value.int (by rw [sr.2.2.2.2.1]; exact bt_bit hns8 ws.2.2.2.2.1 hjn)) (k_saying_4 (d := 0) hns hns8 hj) (c_saying_4 (d := 0) hkns hns8 hj) (by omega) (by omega)
    | 5, _ => exact Bt.ok h (congrArg Value.int (by rw [s3, sr.2.2.2.1]; exact (has_kb _ _).symm)) (k_saying_5 (d := 0) hns hns8 hj) (c_saying_5 (d := 0) hkns hns8 hj) (by omega) (by omega)
    | i + 6, hi => exact absurd hi (by omega)
  · exact Bt.no h ⟨hns, hx⟩ (c_saying0 (d := 0) hkns hns8 hx) (by omega)
