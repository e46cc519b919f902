/-! calls by both, two: the row alone -/
theorem RB.s20 {n c ns a p q z rs u x m no nc N ce k : Nat} {rv : RV} {t : Nat → Nat} {I K : Nat → Nat → Int32} {J L : Nat → Nat → Int64} {R S : Nat → Nat → Value} (h : RB n c ns a p q z rs u x m no nc N ce k rv t I J R K L S) : sy20 (K 5) ns := fun s hs => (h.1.1.2.2.2.2.2.2.2.2.2.2.2 s hs).1
theorem RB.s9 {n c ns a p q z rs u x m no nc N ce k : Nat} {rv : RV} {t : Nat → Nat} {I K : Nat → Nat → Int32} {J L : Nat → Nat → Int64} {R S : Nat → Nat → Value} (h : RB n c ns a p q z rs u x m no nc N ce k rv t I J R K L S) : sy9 (K 5) ns := fun s hs => (h.1.1.2.2.2.2.2.2.2.2.2.2.2 s hs).2.1
theorem RB.hs {n c ns a p q z rs u x m no nc N ce k : Nat} {rv : RV} {t : Nat → Nat} {I K : Nat → Nat → Int32} {J L : Nat → Nat → Int64} {R S : Nat → Nat → Value} (h : RB n c ns a p q z rs u x m no nc N ce k rv t I J R K L S) (w : Int32) : m_HS (K 2) (K 3) (K 4) (K 5) n c ns rs rv (K 1) a w = k_FB (K 5) (m_RM (K 2) (K 3) (K 4) n c rs rv (K 1) a) (fun j => k_bn (m_RM (K 2) (K 3) (K 4) n c rs rv (K 1) a) c (c - j)) c ns a (K 1 27) (K 1 25) ((I 11 3 &&& k_kn (I 14) w ns) &&& (I 39 5 ^^^ (-1))) := by
  obtain ⟨l, hl, el⟩ := h.2.1.2.2.2.2.2.2.1
  exact HS_eq h.1.1.2.2.2.2.2.2.1 h.s20 h.2.1.2.2.1 hl el (x_ok h.1.1 h.2.1.1.2.2.2.2.1 h.2.1.2.2.2.2.2.1 w)
theorem rRow.l {I3 K3 : Nat → Nat → Int32} {J3 L3 : Nat → Nat → Int64} {m : Nat} (h1 : I3 3 1 = nI m) (h8 : m ≤ 8) (h2 : K3 0 11 = nI m) (h4 : ∀ j, j < m → J3 4 j = L3 7 j) : rRow I3 J3 K3 L3 m := ⟨h1, h8, h2, h4⟩
theorem HS_3 {n c ns a p q z rs u x m no nc N ce k : Nat} {rv : RV} {t : Nat → Nat} {I K : Nat → Nat → Int32} {J L : Nat → Nat → Int64} {R S : Nat → Nat → Value} (h : RB n c ns a p q z rs u x m no nc N ce k rv t I J R K L S) {w : Int32} : m_hn (m_HS (K 2) (K 3) (K 4) (K 5) n c ns rs rv (K 1) a w) = -2 ∨ ∃ j, j ≤ 3 ∧ m_hn (m_HS (K 2) (K 3) (K 4) (K 5) n c ns rs rv (K 1) a w) = nI j := by
  cases e : m_HS (K 2) (K 3) (K 4) (K 5) n c ns rs rv (K 1) a w with
  | none => exact Or.inl rfl
  | some q =>
    obtain ⟨y, l⟩ := q
    have := (HS_len e).1
    exact Or.inr ⟨y, by omega, rfl⟩
theorem wh_eq {f : Nat → Int32} (hf : ∀ w, f w = -2 ∨ ∃ j, j ≤ 3 ∧ f w = nI j) : ∀ w, (k_wh f w).1 = (m_wh f w).1 ∧ (((k_wh f w).2 = 4 ∧ (m_wh f w).2 = 1000000) ∨ ((k_wh f w).2 = (m_wh f w).2 ∧ ∃ j, j ≤ 3 ∧ (m_wh f w).2 = nI j))
  | 0 => ⟨rfl, Or.inl ⟨rfl, rfl⟩⟩
  | w + 1 => by
    have ih := wh_eq hf w
    simp only [k_wh, m_wh]
    rcases hf w with e | ⟨j, hj, e⟩
    · rw [e, if_pos (by decide), if_pos (by decide)]
      exact ih
    · have h0 : ¬ f w < 0 := by rw [e]; exact nI_pos (by omega)
      rw [if_neg h0, if_neg h0]
      rcases ih.2 with ⟨e1, e2⟩ | ⟨e1, i, hi, e2⟩
      · rw [e1, e2, if_pos (by rw [e]; exact nI_lt (b := 4) (by omega) (by omega)), if_pos (by rw [e]; exact nI_lt (b := 1000000) (by omega) (by omega))]
        exact ⟨rfl, Or.inr ⟨rfl, j, hj, e⟩⟩
      · rw [e1]
        split
        · exact ⟨rfl, Or.inr ⟨rfl, j, hj, e⟩⟩
        · exact ⟨ih.1, Or.inr ⟨e1, i, hi, e2⟩⟩
theorem b_hush {n c ns a p q z rs u x m no nc N ce k : Nat} {rv : RV} {t : Nat → Nat} {I K : Nat → Nat → Int32} {J L : Nat → Nat → Int64} {R S : Nat → Nat → Value} (h : RB n c ns a p q z rs u x m no nc N ce k rv t I J R K L S)  : Bo hX11_hush 1 hX12_hush 3 [] k I J R K L S := by
  have hst := h.1.1
  have hn8 := hst.2.1
  have hc12 := hst.2.2.2.1
  have hns8 := hst.2.2.2.2.2.2.1
  have hkn := h.1.2.1
  have hkc := h.1.2.2.1
  have hkns := h.1.2.2.2.1
  have sr := h.2.1.1
  have ws := h.2.1.2
  have hp := h.2.2.1.1
  have hz := h.2.2.1.2.2.2.2.2.2.2.2
  have ha := ws.1
  have hac := ws.2.1
  have ha12 : a ≤ 12 := Nat.le_trans hac hc12
  have hcy := sr.cy
  have ha39 : I 39 1 = nI a := sr.1.trans ws.1
  have hrow := h.2.2.2.2.2.2.2.1
  by_cases h0 : m_cy (K 1) n = 0
  · exact Bo.no h (k_hush0 (d := 0) (hcy.trans h0)) (c_hush3 (d := 0) hkn hn8 h0) (by omega) (by omega)
  have h0c : ¬ I 39 3 = 0 := by rw [hcy]; exact h0
  have hsp := hst.2.2.2.2.2.2.2.2.2.2.1
  have e := h.hs (K 1 26)
  cases hq : m_HS (K 2) (K 3) (K 4) (K 5) n c ns rs rv (K 1) a (K 1 26) with
  | none =>
    rw [hq] at e
    have hC := k_fewestSayings0 (J := J) (R := R) (h.kA 0) hst hz sr ws e.symm
    rw [← e] at hC
    refine Bo.of (k_hush h0c hp (hC.imp vI)) (c_hush2 (h.mA 0) ha hac hsp hkns hns8 h0 hq) (by omega) (by omega) ?_
    rintro _ _ ⟨I3, J3, rfl, hf, hu, _⟩ ⟨K3, S3, rfl, hs⟩
    exact h.fin0 hf (hu rfl) (xM_z0 hs) (xM_10 hs)
  | some y =>
    obtain ⟨y, l⟩ := y
    rw [hq] at e
    have hC := k_fewestSayings1 (J := J) (R := R) (h.kA 0) hst hz sr ws e.symm
    rw [← e] at hC
    refine Bo.of (k_hush h0c hp (hC.imp vI)) (c_hush (h.mA 0) ha hac hsp hkns hns8 h0 hq) (by omega) (by omega) ?_
    rintro _ _ ⟨I3, J3, rfl, hf, _, hu⟩ ⟨K3, S3, L3, rfl, hs, hl⟩
    obtain ⟨g1, g2⟩ := hu y l rfl
    have hlen := HS_len hq
    refine h.fr hf (xM_z hs) (rRow.l g1 (by omega) (xM_11 hs) (fun j hj => ?_))
    obtain ⟨i, hi2⟩ : ∃ i, j = 2 * i ∨ j = 2 * i + 1 := ⟨j / 2, by omega⟩
    have hi : i < l.length := by omega
    have e1 : l[i]? = some l[i] := List.getElem?_eq_getElem hi
    rcases hi2 with w | w
    · rw [w, (g2 _ _ e1).1, (hl _ _ e1).1]
    · rw [w, (g2 _ _ e1).2, (hl _ _ e1).2]
theorem b_which {n c ns a p q z rs u x m no nc N ce k : Nat} {rv : RV} {t : Nat → Nat} {I K : Nat → Nat → Int32} {J L : Nat → Nat → Int64} {R S : Nat → Nat → Value} (h : RB n c ns a p q z rs u x m no nc N ce k rv t I J R K L S)  : Bo hX11_which 1 hX12_which 5 [] k I J R K L S := by
  have hst := h.1.1
  have hn8 := hst.2.1
  have hc12 := hst.2.2.2.1
  have hns8 := hst.2.2.2.2.2.2.1
  have hkn := h.1.2.1
  have hkc := h.1.2.2.1
  have hkns := h.1.2.2.2.1
  have sr := h.2.1.1
  have ws := h.2.1.2
  have hp := h.2.2.1.1
  have hz := h.2.2.1.2.2.2.2.2.2.2.2
  have ha := ws.1
  have hac := ws.2.1
  have ha12 : a ≤ 12 := Nat.le_trans hac hc12
  have hcy := sr.cy
  have ha39 : I 39 1 = nI a := sr.1.trans ws.1
  have hrow := h.2.2.2.2.2.2.2.1
  by_cases h0 : m_cy (K 1) n = 0
  · exact Bo.no h (k_which0 (d := 0) (hcy.trans h0)) (c_which3 (d := 0) hkn hn8 h0) (by omega) (by omega)
  have h0c : ¬ I 39 3 = 0 := by rw [hcy]; exact h0
  have hsp := hst.2.2.2.2.2.2.2.2.2.2.1
  have e : (fun w => m_hn (k_FB (K 5) (m_RM (K 2) (K 3) (K 4) n c rs rv (K 1) a) (fun j => k_bn (m_RM (K 2) (K 3) (K 4) n c rs rv (K 1) a) c (c - j)) c ns a (K 1 27) (K 1 25) ((I 11 3 &&& k_kn (I 14) (nI w) ns) &&& (I 39 5 ^^^ (-1))))) = (fun w => m_hn (m_HS (K 2) (K 3) (K 4) (K 5) n c ns rs rv (K 1) a (nI w))) := by
    funext w
    rw [h.hs]
  have hC := k_bestSeventh (J := J) (R := R) (h.kA 0) hst hz sr ws
  rw [e] at hC
  have hM := c_which (J := L) (h.mA 0) ha hac hsp hkns hns8 h0
  have he := (wh_eq (f := fun w => m_hn (m_HS (K 2) (K 3) (K 4) (K 5) n c ns rs rv (K 1) a (nI w))) (fun w => HS_3 h) 4).1
  generalize (fun w => m_hn (m_HS (K 2) (K 3) (K 4) (K 5) n c ns rs rv (K 1) a (nI w))) = f at hC hM he
  rw [he] at hC
  by_cases e0 : (m_wh f 4).1 = -2
  · refine Bo.of2 e0 (k_which h0c hp (hC.imp vI)) (hM.imp (fun r M q => by rw [if_pos e0] at q; exact q)) (by omega) (by omega) ?_
    rintro _ _ ⟨I3, J3, rfl, hf, hu⟩ ⟨K3, S3, rfl, hs⟩
    rw [if_pos e0] at hu
    exact h.fin0 hf hu (xM_z0 hs) (xM_10 hs)
  · refine Bo.of (k_which h0c hp (hC.imp vI)) (hM.imp (fun r M q => by rw [if_neg e0] at q; exact q)) (by omega) (by omega) ?_
    rintro _ _ ⟨I3, J3, rfl, hf, hu⟩ ⟨K3, S3, rfl, hs⟩
    rw [if_neg e0] at hu
    exact h.fr hf (xM_z hs) (rRow.l hu.1 (by omega) (xM_11 hs) (fun j hj => by rw [hu.2 j hj, wl7_at 4 j hj]))
theorem b_rest {n c ns a p q z rs u x m no nc N ce k : Nat} {rv : RV} {t : Nat → Nat} {I K : Nat → Nat → Int32} {J L : Nat → Nat → Int64} {R S : Nat → Nat → Value} (h : RB n c ns a p q z rs u x m no nc N ce k rv t I J R K L S) (y : Int32) : Bo hX11_rest 2 hX12_rest 2 [.int y] k I J R K L S := by
  have hst := h.1.1
  have hn8 := hst.2.1
  have hc12 := hst.2.2.2.1
  have hns8 := hst.2.2.2.2.2.2.1
  have hkn := h.1.2.1
  have hkc := h.1.2.2.1
  have hkns := h.1.2.2.2.1
  have sr := h.2.1.1
  have ws := h.2.1.2
  have hp := h.2.2.1.1
  have hz := h.2.2.1.2.2.2.2.2.2.2.2
  have ha := ws.1
  have hac := ws.2.1
  have ha12 : a ≤ 12 := Nat.le_trans hac hc12
  have hcy := sr.cy
  have ha39 : I 39 1 = nI a := sr.1.trans ws.1
  have hrow := h.2.2.2.2.2.2.2.1
  rcases ixc (n := n) (x := y) with hx | ⟨j, hx⟩
  · exact Bo.no h (k_rest0 (d := 0) hst.1 hx) (c_rest0 (d := 0) hkn hn8 hx) (by omega) (by omega)
  obtain ⟨hj, rfl⟩ := ix_some (by omega) hx
  obtain ⟨s1, s2⟩ := hst.2.2.2.2.2.2.2.2.1 j hj
  have e1 : (I 40 j + 1) / 2 = (K 1 j + 1) / 2 := by rw [sr.2.2.2.2.2.2.2.1 j hj]
  have e2 := be_eq (z := z) (rs := rs) (rv := rv) hz (str := K 3) (tl := K 4) (a := upd (m_tn (K 1) (K 14)) j 0) (mo := m_tl (K 4) ((1 : Int32) <<< (nI j &&& 31)) n) (st := m_st c (K 2) a) (x := (1 : Int32) <<< (nI j &&& 31)) (b := j)
  rw [show upd (m_tn (K 1) (K 14)) j 0 j = 0 from by simp [upd]] at e2
  refine Bo.of2 e1 (k_rest (h.kA 0) hp ha39 ha12 hx) (c_rest (h.mA 0) ha hac hx) (by omega) (by omega) ?_
  rintro _ _ ⟨I3, J3, rfl, hf, ht⟩ ⟨K3, S3, row2, rfl, hs⟩
  rw [s1, s2, tl_eq n (fun b hb => (hst.2.2.2.2.2.2.2.2.1 b hb).2), st_eq hst.2.2.2.2.2.2.2.1, e2] at ht
  exact h.fin1 hf ht (zM.w2.tr (zM.u14.tr hs.x.g)) ((hs.f 11 rfl).trans ((congrFun (va_up_n (by decide)) 11).trans ti_wr_at))
theorem b_cover {n c ns a p q z rs u x m no nc N ce k : Nat} {rv : RV} {t : Nat → Nat} {I K : Nat → Nat → Int32} {J L : Nat → Nat → Int64} {R S : Nat → Nat → Value} (h : RB n c ns a p q z rs u x m no nc N ce k rv t I J R K L S) (y : Int32) : Bo hX11_cover 2 hX12_cover 4 [.int y] k I J R K L S := by
  have hst := h.1.1
  have hn8 := hst.2.1
  have hc12 := hst.2.2.2.1
  have hns8 := hst.2.2.2.2.2.2.1
  have hkn := h.1.2.1
  have hkc := h.1.2.2.1
  have hkns := h.1.2.2.2.1
  have sr := h.2.1.1
  have ws := h.2.1.2
  have hp := h.2.2.1.1
  have hz := h.2.2.1.2.2.2.2.2.2.2.2
  have ha := ws.1
  have hac := ws.2.1
  have ha12 : a ≤ 12 := Nat.le_trans hac hc12
  have hcy := sr.cy
  have ha39 : I 39 1 = nI a := sr.1.trans ws.1
  have hrow := h.2.2.2.2.2.2.2.1
  rcases ixc (n := 2 ^ ns) (x := y) with hx | ⟨j, hx⟩
  · exact Bo.no h (k_cover0 (d := 0) hst.2.2.2.2.2.1 hns8 hx) (c_cover0 (d := 0) hkns hns8 hx) (by omega) (by omega)
  have hC := k_fewestKnowers (J := J) (R := R) (d := 0) hst.2.2.2.2.2.1 hns8 y
  have hM := c_cover (J := L) (R := S) (d := 0) hkns hns8 hx
  obtain ⟨r1, M1, ⟨I3, J3, rfl, hf, hsm⟩, hC1⟩ := hC.det
  have hP : ∀ w, w < 16 → m_cv (K 5) (nI w) y ns = k_cv (I 14) (nI w) y ns := fun w _ => (cv_eq (fun k hk => (hst.2.2.2.2.2.2.2.2.2.1 k hk).2.2.2)).symm
  rcases cov_eq hP hsm with ⟨e0, rfl, hu⟩ | ⟨s, hs16, e0, rfl, ht⟩
  · rw [e0] at hM
    refine Bo.of (k_cover hst.2.2.2.2.2.1 hns8 hx (hC1.imp (fun r M q => ⟨⟨_, q.1⟩, q⟩))) (hM.imp (fun r M q => by rw [if_pos rfl] at q; exact q)) (by omega) (by omega) ?_
    rintro _ _ rfl rfl
    exact h.fin0 hf hu zM.w (wr_ne (by decide))
  · rw [e0, cN_bc s (by omega)] at hM
    have e1 : ¬ nI s = -1 := nI_m1' (by omega)
    refine Bo.of (k_cover hst.2.2.2.2.2.1 hns8 hx (hC1.imp (fun r M q => ⟨⟨_, q.1⟩, q⟩))) (hM.imp (fun r M q => by rw [if_neg e1] at q; exact q)) (by omega) (by omega) ?_
    rintro _ _ rfl rfl
    exact h.fin1 hf ht zM.w2 ti_wr_at
theorem b_lighter {n c ns a p q z rs u x m no nc N ce k : Nat} {rv : RV} {t : Nat → Nat} {I K : Nat → Nat → Int32} {J L : Nat → Nat → Int64} {R S : Nat → Nat → Value} (h : RB n c ns a p q z rs u x m no nc N ce k rv t I J R K L S) (y : Int32) : Bo hX11_lighter 3 hX12_lighter 2 [.int y] k I J R K L S := by
  have hst := h.1.1
  have hn8 := hst.2.1
  have hc12 := hst.2.2.2.1
  have hns8 := hst.2.2.2.2.2.2.1
  have hkn := h.1.2.1
  have hkc := h.1.2.2.1
  have hkns := h.1.2.2.2.1
  have sr := h.2.1.1
  have ws := h.2.1.2
  have hp := h.2.2.1.1
  have hz := h.2.2.1.2.2.2.2.2.2.2.2
  have ha := ws.1
  have hac := ws.2.1
  have ha12 : a ≤ 12 := Nat.le_trans hac hc12
  have hcy := sr.cy
  have ha39 : I 39 1 = nI a := sr.1.trans ws.1
  have hrow := h.2.2.2.2.2.2.2.1
  rcases ixc (n := 4) (x := y) with hx | ⟨j, hx⟩
  · exact Bo.no h (k_lighter0 (d := 0) hx) (c_lighter0 (d := 0) hx) (by omega) (by omega)
  obtain ⟨hj, rfl⟩ := ix_some (by decide) hx
  have hC := k_lighter (J := J) (R := R) (d := 0) hst.2.2.2.2.2.1 hns8 hj
  rw [set_L hst sr.2.2.2.2.1 ws.2.2.2.2.1 (nI j), sum_hv ns (fun k hk => (hst.2.2.2.2.2.2.2.2.2.1 k hk).1)] at hC
  refine Bo.of hC (c_lighter (d := 0) hkns hns8 hx) (by omega) (by omega) ?_
  rintro _ _ ⟨I3, J3, rfl, hf, ht⟩ rfl
  exact h.fin1 hf ht zM.w2 ti_wr_at
theorem b_secret {n c ns a p q z rs u x m no nc N ce k : Nat} {rv : RV} {t : Nat → Nat} {I K : Nat → Nat → Int32} {J L : Nat → Nat → Int64} {R S : Nat → Nat → Value} (h : RB n c ns a p q z rs u x m no nc N ce k rv t I J R K L S) (y : Int32) : Bo hX11_secret 2 hX12_secret 4 [.int y] k I J R K L S := by
  have hst := h.1.1
  have hn8 := hst.2.1
  have hc12 := hst.2.2.2.1
  have hns8 := hst.2.2.2.2.2.2.1
  have hkn := h.1.2.1
  have hkc := h.1.2.2.1
  have hkns := h.1.2.2.2.1
  have sr := h.2.1.1
  have ws := h.2.1.2
  have hp := h.2.2.1.1
  have hz := h.2.2.1.2.2.2.2.2.2.2.2
  have ha := ws.1
  have hac := ws.2.1
  have ha12 : a ≤ 12 := Nat.le_trans hac hc12
  have hcy := sr.cy
  have ha39 : I 39 1 = nI a := sr.1.trans ws.1
  have hrow := h.2.2.2.2.2.2.2.1
  rcases in01 y 0 4 with hi | hi
  · exact Bo.no h (k_secret0 (d := 0) hi) (c_secret0 (d := 0) hi) (by omega) (by omega)
  have hC := k_knownToJust (J := J) (R := R) (d := 0) hst.2.2.2.2.2.1 hns8 y
  rw [sec_eq ns (fun k hk => (hst.2.2.2.2.2.2.2.2.2.1 k hk).2.2.2), sum_hv ns (fun k hk => (hst.2.2.2.2.2.2.2.2.2.1 k hk).1)] at hC
  refine Bo.of (k_secret hi (hC.imp vI)) (c_secret (d := 0) hkns hns8 hi) (by omega) (by omega) ?_
  rintro _ _ ⟨I3, J3, rfl, hf, ht⟩ rfl
  exact h.fin2 hf ht zM.w2 ti_wr_at
theorem b_best {n c ns a p q z rs u x m no nc N ce k : Nat} {rv : RV} {t : Nat → Nat} {I K : Nat → Nat → Int32} {J L : Nat → Nat → Int64} {R S : Nat → Nat → Value} (h : RB n c ns a p q z rs u x m no nc N ce k rv t I J R K L S)  : Bo hX11_best 1 hX12_best 4 [] k I J R K L S := by
  have hst := h.1.1
  have hn8 := hst.2.1
  have hc12 := hst.2.2.2.1
  have hns8 := hst.2.2.2.2.2.2.1
  have hkn := h.1.2.1
  have hkc := h.1.2.2.1
  have hkns := h.1.2.2.2.1
  have sr := h.2.1.1
  have ws := h.2.1.2
  have hp := h.2.2.1.1
  have hz := h.2.2.1.2.2.2.2.2.2.2.2
  have ha := ws.1
  have hac := ws.2.1
  have ha12 : a ≤ 12 := Nat.le_trans hac hc12
  have hcy := sr.cy
  have ha39 : I 39 1 = nI a := sr.1.trans ws.1
  have hrow := h.2.2.2.2.2.2.2.1
  have hC := k_mostLightening (J := J) (R := R) (d := 0) hst.2.2.2.2.2.1 hns8 (I 39 5)
  have e1 : (fun b => k_sum (I 12) ((k_kn (I 14) (nI b) ns &&& (I 39 5 ^^^ (-1))) &&& I 11 3) ns) = (fun b => m_hv (K 5) (m_kb (K 5) (K 1) (nI b) 1 ns) ns) := by
    funext b
    rw [set_1 hst sr.2.2.2.2.1 ws.2.2.2.2.1 (nI b), sum_hv ns (fun k hk => (hst.2.2.2.2.2.2.2.2.2.1 k hk).1)]
  have e2 : (fun b => bc ((k_kn (I 14) (nI b) ns &&& (I 39 5 ^^^ (-1))) &&& (I 11 3 ^^^ (-1)))) = (fun b => bc (m_kb (K 5) (K 1) (nI b) 0 ns)) := by
    funext b
    rw [set_0 hst sr.2.2.2.2.1 ws.2.2.2.2.1 (nI b)]
  rw [e1, e2, (ml_eq hns8 h.s20 3 (Nat.le_refl 4)).1] at hC
  refine Bo.of (k_best (hC.imp vI)) (c_best (d := 0) hkns hns8) (by omega) (by omega) ?_
  rintro _ _ ⟨I3, J3, rfl, hf, ht⟩ rfl
  exact h.fin2 hf ht zM.w2 ti_wr_at
theorem b_worlds {n c ns a p q z rs u x m no nc N ce k : Nat} {rv : RV} {t : Nat → Nat} {I K : Nat → Nat → Int32} {J L : Nat → Nat → Int64} {R S : Nat → Nat → Value} (h : RB n c ns a p q z rs u x m no nc N ce k rv t I J R K L S)  : Bo hX11_worlds 1 hX12_worlds 4 [] k I J R K L S := by
  have hst := h.1.1
  have hn8 := hst.2.1
  have hc12 := hst.2.2.2.1
  have hns8 := hst.2.2.2.2.2.2.1
  have hkn := h.1.2.1
  have hkc := h.1.2.2.1
  have hkns := h.1.2.2.2.1
  have sr := h.2.1.1
  have ws := h.2.1.2
  have hp := h.2.2.1.1
  have hz := h.2.2.1.2.2.2.2.2.2.2.2
  have ha := ws.1
  have hac := ws.2.1
  have ha12 : a ≤ 12 := Nat.le_trans hac hc12
  have hcy := sr.cy
  have ha39 : I 39 1 = nI a := sr.1.trans ws.1
  have hrow := h.2.2.2.2.2.2.2.1
  have hO := h.2.2.2.2.2.2.2.2.1
  have hP : ∀ w, w < 256 → m_iw (K 5) (K 18) (K 19) ns no (nI w) = m_iw (K 5) (I 24) (I 25) ns no (nI w) := fun w _ => iw_ext (fun k hk => ⟨(hO.2.2.2 k hk).1.symm, (hO.2.2.2 k hk).2.symm⟩)
  have hM := c_worlds (J := L) (R := S) (d := 0) hkns hns8 hO.2.2.1 hO.2.1
  rw [wo_eq hP _ (p256 hns8)] at hM
  refine Bo.of (k_worlds ((k_countWorlds (d := 0) hst hO.1 hO.2.1).imp vI)) hM (by omega) (by omega) ?_
  rintro _ _ ⟨I3, J3, rfl, hf, ht⟩ rfl
  exact h.fin1 hf ht zM.w2 ti_wr_at
theorem b_sure {n c ns a p q z rs u x m no nc N ce k : Nat} {rv : RV} {t : Nat → Nat} {I K : Nat → Nat → Int32} {J L : Nat → Nat → Int64} {R S : Nat → Nat → Value} (h : RB n c ns a p q z rs u x m no nc N ce k rv t I J R K L S)  : Bo hX11_sure 1 hX12_sure 6 [] k I J R K L S := by
  have hst := h.1.1
  have hn8 := hst.2.1
  have hc12 := hst.2.2.2.1
  have hns8 := hst.2.2.2.2.2.2.1
  have hkn := h.1.2.1
  have hkc := h.1.2.2.1
  have hkns := h.1.2.2.2.1
  have sr := h.2.1.1
  have ws := h.2.1.2
  have hp := h.2.2.1.1
  have hz := h.2.2.1.2.2.2.2.2.2.2.2
  have ha := ws.1
  have hac := ws.2.1
  have ha12 : a ≤ 12 := Nat.le_trans hac hc12
  have hcy := sr.cy
  have ha39 : I 39 1 = nI a := sr.1.trans ws.1
  have hrow := h.2.2.2.2.2.2.2.1
  have hO := h.2.2.2.2.2.2.2.2.1
  have hP : ∀ w, w < 256 → m_iw (K 5) (K 18) (K 19) ns no (nI w) = m_iw (K 5) (I 24) (I 25) ns no (nI w) := fun w _ => iw_ext (fun k hk => ⟨(hO.2.2.2 k hk).1.symm, (hO.2.2.2 k hk).2.symm⟩)
  have hM := c_sure (J := L) (R := S) (d := 0) hkns hns8 hO.2.2.1 hO.2.1
  have hC := k_trueInAll (J := J) (R := R) (d := 0) hst hO.1 hO.2.1
  obtain ⟨s1, s2⟩ := su_eq hns8 hP
  obtain ⟨r1, M1, ⟨I3, J3, rfl, hf, hsm⟩, hC1⟩ := hC.det
  by_cases e0 : wN (fun w => m_iw (K 5) (I 24) (I 25) ns no (nI w)) (2 ^ ns) = 0
  · rw [if_pos e0] at hsm
    obtain ⟨rfl, ht⟩ := hsm
    rw [s1 e0] at hM
    refine Bo.of (k_sure (hC1.imp (fun r M q => ⟨⟨_, q.1⟩, q⟩))) hM (by omega) (by omega) ?_
    rintro _ _ rfl rfl
    exact h.fin1 hf ht zM.w2 ti_wr_at
  · rw [if_neg e0] at hsm
    obtain ⟨rfl, ht⟩ := hsm
    rw [s2 (by omega)] at hM
    refine Bo.of (k_sure (hC1.imp (fun r M q => ⟨⟨_, q.1⟩, q⟩))) hM (by omega) (by omega) ?_
    rintro _ _ rfl rfl
    exact h.fin1 hf ht zM.w2 ti_wr_at
theorem b_ask {n c ns a p q z rs u x m no nc N ce k : Nat} {rv : RV} {t : Nat → Nat} {I K : Nat → Nat → Int32} {J L : Nat → Nat → Int64} {R S : Nat → Nat → Value} (h : RB n c ns a p q z rs u x m no nc N ce k rv t I J R K L S)  : Bo hX11_ask 1 hX12_ask 5 [] k I J R K L S := by
  have hst := h.1.1
  have hn8 := hst.2.1
  have hc12 := hst.2.2.2.1
  have hns8 := hst.2.2.2.2.2.2.1
  have hkn := h.1.2.1
  have hkc := h.1.2.2.1
  have hkns := h.1.2.2.2.1
  have sr := h.2.1.1
  have ws := h.2.1.2
  have hp := h.2.2.1.1
  have hz := h.2.2.1.2.2.2.2.2.2.2.2
  have ha := ws.1
  have hac := ws.2.1
  have ha12 : a ≤ 12 := Nat.le_trans hac hc12
  have hcy := sr.cy
  have ha39 : I 39 1 = nI a := sr.1.trans ws.1
  have hrow := h.2.2.2.2.2.2.2.1
  have hO := h.2.2.2.2.2.2.2.2.1
  have hP : ∀ w, w < 256 → m_iw (K 5) (K 18) (K 19) ns no (nI w) = m_iw (K 5) (I 24) (I 25) ns no (nI w) := fun w _ => iw_ext (fun k hk => ⟨(hO.2.2.2 k hk).1.symm, (hO.2.2.2 k hk).2.symm⟩)
  have hM := c_ask (J := L) (R := S) (d := 0) hkns hns8 hO.2.2.1 hO.2.1
  have hC := k_bestQuestion (J := J) (R := R) (d := 0) hst hO.1 hO.2.1
  have h256 := p256 hns8
  have hN := wN_le (P := fun w => m_iw (K 5) (I 24) (I 25) ns no (nI w)) (2 ^ ns)
  obtain ⟨r1, M1, ⟨I3, J3, rfl, hf, hsm⟩, hC1⟩ := hC.det
  have hA0 : ns = 0 → (m_as (K 5) (K 18) (K 19) ns no ns).1 = -1 := fun e => by rw [e]; rfl
  by_cases hns0 : ns = 0
  · rw [if_pos (Or.inr hns0)] at hsm
    obtain ⟨rfl, hu⟩ := hsm
    refine Bo.of (k_ask (hC1.imp (fun r M q => ⟨⟨_, q.1⟩, q⟩))) (hM.imp (fun r M q => by rw [if_pos (Or.inl (hA0 hns0))] at q; exact q)) (by omega) (by omega) ?_
    rintro _ _ rfl rfl
    exact h.fin0 hf hu zM.w (wr_ne (by decide))
  · have hns1 : ns = (ns - 1) + 1 := by omega
    obtain ⟨f1, f2, f3, f4⟩ := as_f hns8 (show wN (fun w => m_iw (K 5) (I 24) (I 25) ns no (nI w)) (2 ^ ns) ≤ 256 by omega) (as_mx hns8 hP) as_fs (ns - 1) (by omega)
    rw [← hns1] at f1 f2 f3 f4
    generalize k_bq (fun s => max (wT (fun w => m_iw (K 5) (I 24) (I 25) ns no (nI w)) s (2 ^ ns)) (wN (fun w => m_iw (K 5) (I 24) (I 25) ns no (nI w)) (2 ^ ns) - wT (fun w => m_iw (K 5) (I 24) (I 25) ns no (nI w)) s (2 ^ ns))) (wN (fun w => m_iw (K 5) (I 24) (I 25) ns no (nI w)) (2 ^ ns)) ns = b at f1 f2 f3 f4 hsm
    have z0 : nI b.2 = 0 ↔ b.2 = 0 := by rw [← nI_0]; exact nI_eq (by omega) (by omega)
    by_cases e0 : wN (fun w => m_iw (K 5) (I 24) (I 25) ns no (nI w)) (2 ^ ns) = 0
    · rw [if_pos (Or.inl e0)] at hsm
      obtain ⟨rfl, hu⟩ := hsm
      have hz2 : (m_as (K 5) (K 18) (K 19) ns no ns).2 = 0 := by rw [f1]; exact z0.mpr (by omega)
      refine Bo.of (k_ask (hC1.imp (fun r M q => ⟨⟨_, q.1⟩, q⟩))) (hM.imp (fun r M q => by rw [if_pos (Or.inr hz2)] at q; exact q)) (by omega) (by omega) ?_
      rintro _ _ rfl rfl
      exact h.fin0 hf hu zM.w (wr_ne (by decide))
    · rw [if_neg (fun w => w.elim e0 hns0)] at hsm
      obtain ⟨rfl, ht⟩ := hsm
      rw [f1] at hM
      have hno2 : ¬ (nI b.1 = -1 ∨ nI b.2 = 0) := fun w => w.elim (nI_m1' (by omega)) (fun w => by have := z0.mp w; omega)
      refine Bo.of (k_ask (hC1.imp (fun r M q => ⟨⟨_, q.1⟩, q⟩))) (hM.imp (fun r M q => by rw [if_neg hno2] at q; exact q)) (by omega) (by omega) ?_
      rintro _ _ rfl rfl
      exact h.fin1 hf ht zM.w2 ti_wr_at
theorem b_widow {n c ns a p q z rs u x m no nc N ce k : Nat} {rv : RV} {t : Nat → Nat} {I K : Nat → Nat → Int32} {J L : Nat → Nat → Int64} {R S : Nat → Nat → Value} (h : RB n c ns a p q z rs u x m no nc N ce k rv t I J R K L S) (y e : Int32) : Bo hX11_widow 5 hX12_widow 5 [.int y, .int e] k I J R K L S := by
  have hst := h.1.1
  have hn8 := hst.2.1
  have hc12 := hst.2.2.2.1
  have hns8 := hst.2.2.2.2.2.2.1
  have hkn := h.1.2.1
  have hkc := h.1.2.2.1
  have hkns := h.1.2.2.2.1
  have sr := h.2.1.1
  have ws := h.2.1.2
  have hp := h.2.2.1.1
  have hz := h.2.2.1.2.2.2.2.2.2.2.2
  have ha := ws.1
  have hac := ws.2.1
  have ha12 : a ≤ 12 := Nat.le_trans hac hc12
  have hcy := sr.cy
  have ha39 : I 39 1 = nI a := sr.1.trans ws.1
  have hrow := h.2.2.2.2.2.2.2.1
  by_cases hx : (ix (2 ^ ns) y).isSome = true ∧ m_in e 0 12 = 1
  · obtain ⟨v, hv⟩ := Option.isSome_iff_exists.mp hx.1
    obtain ⟨hv2, rfl⟩ := ix_some (by have := p256 hns8; omega) hv
    obtain ⟨j, hj, rfl⟩ := in_n (n := 12) (by decide) hx.2
    have hsd : I 39 5 = m_bt (fun s => K 1 (16 + s)) ns := sr.2.2.2.2.1
    by_cases h3 : 6 < cN v ∨ ¬ nI v &&& (m_bt (fun s => K 1 (16 + s)) ns) = 0
    · exact Bo.no h (k_widow3 (d := 0) hst.2.2.2.2.2.1 hns8 hst.2.2.1 hc12 ha39 hac hv2 hj (by rw [hsd]; exact h3)) (c_widow3 (d := 0) hkns hns8 hkc hc12 ha hac hv2 hj h3) (by omega) (by omega)
    · have h6 : cN v ≤ 6 := by
        have : ¬ 6 < cN v := fun q => h3 (Or.inl q)
        omega
      have h4 : nI v &&& (m_bt (fun s => K 1 (16 + s)) ns) = 0 := by
        by_cases q : nI v &&& (m_bt (fun s => K 1 (16 + s)) ns) = 0
        · exact q
        · exact absurd (Or.inr q) h3
      have h4c : nI v &&& I 39 5 = 0 := by rw [hsd]; exact h4
      by_cases h2 : c - a < cN v
      · exact Bo.no h (k_widow2 (d := 0) hst.2.2.2.2.2.1 hns8 hst.2.2.1 hc12 ha39 hac hv2 hj h6 h4c h2) (c_widow2 (d := 0) hkns hns8 hkc hc12 ha hac hv2 hj h6 h4 (by omega)) (by omega) (by omega)
      · obtain ⟨w1, w2, w3⟩ := wid_eq (sy := K 5) (f13 := I 13) (a := a) (e := j) (f20 := K 20) (f17 := K 17) hns8 h.s9 (fun s hs => (hst.2.2.2.2.2.2.2.2.2.1 s hs).2.2.1) hv2 h6
        refine Bo.of2 w1.symm (k_widow (d := 0) hst.2.2.2.2.2.1 hns8 hst.2.2.1 hc12 ha39 hac hv2 hj h6 h4c (by omega) ((k_leastHarm (d := 0) hst.2.2.2.2.2.1 hns8 (by have := p256 hns8; omega) (by omega)).imp vI)) (c_widow (d := 0) hkns hns8 hkc hc12 ha hac hv2 hj h6 h4 (by omega)) (by omega) (by omega) ?_
        rintro _ _ ⟨I3, J3, rfl, hf, ht⟩ ⟨K3, rfl, hs⟩
        refine h.fr hf (xM_z hs) (rRow.t ht (by rw [w2]; omega) (by rw [w2]; exact xM_11 hs) (fun i x ex => ?_))
        have hi : i < cN v := by
          rw [← w2]
          exact (List.getElem?_eq_some_iff.mp ex).1
        rw [w3 i x ex, wl7_at _ i hi]
  · exact Bo.no h (k_widow0 (d := 0) hst.2.2.2.2.2.1 hns8 hx) (c_widow1 (d := 0) hkns hns8 hx) (by omega) (by omega)
theorem b_believe {n c ns a p q z rs u x m no nc N ce k : Nat} {rv : RV} {t : Nat → Nat} {I K : Nat → Nat → Int32} {J L : Nat → Nat → Int64} {R S : Nat → Nat → Value} (h : RB n c ns a p q z rs u x m no nc N ce k rv t I J R K L S)  : Bo hX11_believe 1 hX12_believe 3 [] k I J R K L S := by
  have hst := h.1.1
  have hn8 := hst.2.1
  have hc12 := hst.2.2.2.1
  have hns8 := hst.2.2.2.2.2.2.1
  have hkn := h.1.2.1
  have hkc := h.1.2.2.1
  have hkns := h.1.2.2.2.1
  have sr := h.2.1.1
  have ws := h.2.1.2
  have hp := h.2.2.1.1
  have hz := h.2.2.1.2.2.2.2.2.2.2.2
  have ha := ws.1
  have hac := ws.2.1
  have ha12 : a ≤ 12 := Nat.le_trans hac hc12
  have hcy := sr.cy
  have ha39 : I 39 1 = nI a := sr.1.trans ws.1
  have hrow := h.2.2.2.2.2.2.2.1
  have hQ := h.2.2.2.2.2.2.2.2.2
  have hC := k_fewestDis (J := J) (R := R) (d := 0) hQ.1 hQ.2.1
  have hM := c_believe (J := L) (R := S) (d := 0) hQ.2.2.1 hQ.2.1
  have hP : ∀ w, w < 16 → m_da (K 21) (nI w) nc = k_da (I 26) (I 27) (I 28) nc (nI w) := fun w _ => da_eq (fun k hk => (hQ.2.2.2 k hk).1) (fun k hk => (hQ.2.2.2 k hk).2.1) (fun k hk => (hQ.2.2.2 k hk).2.2)
  obtain ⟨r1, M1, ⟨I3, J3, rfl, hf, hsm⟩, hC1⟩ := hC.det
  rcases bl_eq hP hsm with ⟨e0, rfl, ht⟩ | ⟨s, hs16, e0, rfl, ht⟩
  · refine Bo.of2 (by rw [e0]; decide +kernel : (4 : Int32) = bc (m_bl (K 21) nc 16)) (k_believe (hC1.imp (fun r M q => ⟨⟨_, q.1⟩, q⟩))) hM (by omega) (by omega) ?_
    rintro _ _ rfl rfl
    rw [e0]
    exact h.fin1 hf ht zM.w2 ti_wr_at
  · refine Bo.of2 (by rw [e0, cN_bc s (by omega)] : nI (cN s) = bc (m_bl (K 21) nc 16)) (k_believe (hC1.imp (fun r M q => ⟨⟨_, q.1⟩, q⟩))) hM (by omega) (by omega) ?_
    rintro _ _ rfl rfl
    rw [e0]
    exact h.fin1 hf ht zM.w2 ti_wr_at
theorem b_slips {n c ns a p q z rs u x m no nc N ce k : Nat} {rv : RV} {t : Nat → Nat} {I K : Nat → Nat → Int32} {J L : Nat → Nat → Int64} {R S : Nat → Nat → Value} (h : RB n c ns a p q z rs u x m no nc N ce k rv t I J R K L S) (y : Int32) : Bo hX11_slips 2 hX12_slips 8 [.int y] k I J R K L S := by
  have hst := h.1.1
  have hn8 := hst.2.1
  have hc12 := hst.2.2.2.1
  have hns8 := hst.2.2.2.2.2.2.1
  have hkn := h.1.2.1
  have hkc := h.1.2.2.1
  have hkns := h.1.2.2.2.1
  have sr := h.2.1.1
  have ws := h.2.1.2
  have hp := h.2.2.1.1
  have hz := h.2.2.1.2.2.2.2.2.2.2.2
  have ha := ws.1
  have hac := ws.2.1
  have ha12 : a ≤ 12 := Nat.le_trans hac hc12
  have hcy := sr.cy
  have ha39 : I 39 1 = nI a := sr.1.trans ws.1
  have hrow := h.2.2.2.2.2.2.2.1
  rcases in01 y 0 10 with hi | hi
  · exact Bo.no h (k_slips0 (d := 0) hi) (c_slips1 (d := 0) hi) (by omega) (by omega)
  obtain ⟨j, hj, rfl⟩ := in_n (n := 10) (by decide) hi
  by_cases h0 : m_cy (K 1) n = 0
  · exact Bo.no h (k_slips3 (d := 0) hj (hcy.trans h0)) (c_slips3 (d := 0) hkn hn8 hi h0) (by omega) (by omega)
  have h0c : ¬ I 39 3 = 0 := by rw [hcy]; exact h0
  obtain ⟨v, hv2, ev, hv⟩ := cy_v hn8 ws
  have hv0 : 0 < v := by
    rcases Nat.eq_zero_or_pos v with w | w
    · rw [w] at ev; exact absurd ev h0
    · exact w
  have hC := k_chance (J := J) hst.1 hn8 hst.2.2.1 hc12 ha39 ha12 (h.kF 0) (hcy.trans ev) hv hj
  rw [h.nd, up_eq hn8 hv2] at hC
  have hle := k_up_le (F := m_FX (K 2) (K 3) (K 4) n c rs rv (K 1) a) (nd := m_ND (K 2) c (K 1) a) (v := v) (p := j) hn8 hv hj (Nat.le_refl (2 ^ n))
  rw [up_eq hn8 hv2] at hle
  have h10 : 10 ^ cN v ≤ 100000000 := by
    have := Nat.pow_le_pow_right (n := 10) (by decide) (cN_8 v hv)
    exact this
  refine Bo.of (k_slips hj h0c hp (hC.imp vI)) (c_slips (h.mA 0) ha hac ev hv hv0 hj) (by omega) (by omega) ?_
  rintro _ _ ⟨I3, J3, rfl, hf, ht⟩ ⟨K3, S3, rfl, hs⟩
  have d1 := Nat.div_le_self (m_sp (m_FX (K 2) (K 3) (K 4) n c rs rv (K 1) a) (m_ND (K 2) c (K 1) a) v j (v + 1)) (Nat.gcd (m_sp (m_FX (K 2) (K 3) (K 4) n c rs rv (K 1) a) (m_ND (K 2) c (K 1) a) v j (v + 1)) (10 ^ cN v))
  have d2 := Nat.div_le_self (10 ^ cN v) (Nat.gcd (m_sp (m_FX (K 2) (K 3) (K 4) n c rs rv (K 1) a) (m_ND (K 2) c (K 1) a) v j (v + 1)) (10 ^ cN v))
  rw [nI_l (by omega), nI_l (by omega)] at ht
  exact h.fin2 hf ht (sM_z hs) (sM_11 hs)
theorem b_rests {n c ns a p q z rs u x m no nc N ce k : Nat} {rv : RV} {t : Nat → Nat} {I K : Nat → Nat → Int32} {J L : Nat → Nat → Int64} {R S : Nat → Nat → Value} (h : RB n c ns a p q z rs u x m no nc N ce k rv t I J R K L S) (y : Int32) : Bo hX11_rests 5 hX12_rests 5 [.int y] k I J R K L S := by
  have hst := h.1.1
  have hn8 := hst.2.1
  have hc12 := hst.2.2.2.1
  have hns8 := hst.2.2.2.2.2.2.1
  have hkn := h.1.2.1
  have hkc := h.1.2.2.1
  have hkns := h.1.2.2.2.1
  have sr := h.2.1.1
  have ws := h.2.1.2
  have hp := h.2.2.1.1
  have hz := h.2.2.1.2.2.2.2.2.2.2.2
  have ha := ws.1
  have hac := ws.2.1
  have ha12 : a ≤ 12 := Nat.le_trans hac hc12
  have hcy := sr.cy
  have ha39 : I 39 1 = nI a := sr.1.trans ws.1
  have hrow := h.2.2.2.2.2.2.2.1
  rcases in01 y 0 20 with hi | hi
  · exact Bo.no h (k_rests0 (d := 0) hi) (c_rests0 (d := 0) hi) (by omega) (by omega)
  refine Bo.of (k_rests (d := 0) hi) (c_rests (d := 0) hi) (by omega) (by omega) ?_
  rintro _ _ ⟨I3, J3, rfl, hf, ht⟩ rfl
  unfold rsR at ht
  unfold rsz rsJ
  by_cases e : (m_rO y 10).1 = 0
  · rw [if_pos e] at ht ⊢
    rw [if_pos e]
    exact h.fr hf zM.w2 (rRow.t ht (Nat.zero_le _) ti_wr_at (fun i v w => by cases w))
  · rw [if_neg e] at ht ⊢
    rw [if_neg e]
    exact h.fin2 hf ht zM.w2 ti_wr_at
theorem b_years {n c ns a p q z rs u x m no nc N ce k : Nat} {rv : RV} {t : Nat → Nat} {I K : Nat → Nat → Int32} {J L : Nat → Nat → Int64} {R S : Nat → Nat → Value} (h : RB n c ns a p q z rs u x m no nc N ce k rv t I J R K L S) (y w : Int32) : Bo hX11_years 3 hX12_years 6 [.int y, .int w] k I J R K L S := by
  have hst := h.1.1
  have hn8 := hst.2.1
  have hc12 := hst.2.2.2.1
  have hns8 := hst.2.2.2.2.2.2.1
  have hkn := h.1.2.1
  have hkc := h.1.2.2.1
  have hkns := h.1.2.2.2.1
  have sr := h.2.1.1
  have ws := h.2.1.2
  have hp := h.2.2.1.1
  have hz := h.2.2.1.2.2.2.2.2.2.2.2
  have ha := ws.1
  have hac := ws.2.1
  have ha12 : a ≤ 12 := Nat.le_trans hac hc12
  have hcy := sr.cy
  have ha39 : I 39 1 = nI a := sr.1.trans ws.1
  have hrow := h.2.2.2.2.2.2.2.1
  rcases in01 w 1 60 with hi | hi
  · exact Bo.no h (k_years0 (d := 0) hi) (c_years0 (d := 0) hi) (by omega) (by omega)
  have hi0 : m_in w 0 60 = 1 := by
    unfold m_in at hi ⊢
    split at hi
    · exact absurd hi (by decide)
    · next g =>
      rw [if_neg (fun q => g (Int32.lt_trans q (by decide)))]
      exact hi
  obtain ⟨j, hj, rfl⟩ := in_n (n := 60) (by decide) hi0
  have hj1 : 1 ≤ j := by
    rcases Nat.eq_zero_or_pos j with e | e
    · rw [e] at hi; exact absurd hi (by decide)
    · exact e
  have hC := k_staggersDrawn (J := J) (R := R) (h.kA 0) hst hz (SR.ext hn8 hns8 (fun j hj => tn_lo (g := K 14) hj) sr) (WS.ext hn8 hns8 (fun j hj => tn_lo (g := K 14) hj) ws) hj y
  rw [tn_lo (j := 28) (by omega)] at hC
  refine Bo.of (k_years hj1 hj y hp (hC.imp vI)) (c_years (h.mA 0) ha hac hkns hns8 hj1 hj y) (by omega) (by omega) ?_
  rintro _ _ ⟨I3, J3, rfl, hf, ht⟩ ⟨K3, S3, rfl, hs⟩
  exact h.fin2 hf ht (xM_z hs) (xM_11 hs)
