/-! states: the class's and the model's; acts on both -/
/-- the model's row is as it should be -/
def WS (row : Nat → Int32) (n ns c a : Nat) : Prop := row 24 = nI a ∧ a ≤ c ∧ (∀ b, b < n → ∃ t, t ≤ 99 ∧ row b = nI t) ∧ b01 (fun b => row (8 + b)) n ∧ b01 (fun s => row (16 + s)) ns ∧ (∃ l, l ≤ 999 ∧ row 25 = nI l) ∧ (∃ w, w < 4 ∧ row 26 = nI w) ∧ (row 27 = 0 ∨ row 27 = 1) ∧ cN (bN (fun b => row (8 + b)) n) ≤ 6
/-- a state of the class (its fields f, its tired ones t) is the model's row -/
def SR (f t row : Nat → Int32) (n ns : Nat) : Prop := f 1 = row 24 ∧ f 2 = row 25 ∧ f 3 = m_bt (fun b => row (8 + b)) n ∧ f 4 = row 26 ∧ f 5 = m_bt (fun s => row (16 + s)) ns ∧ f 6 = row 27 ∧ f 7 = row 28 ∧ (∀ b, b < n → t b = row b) ∧ (∀ b, n ≤ b → b < 8 → t b = 0)
theorem SR.cy {f t row : Nat → Int32} {n ns : Nat} (h : SR f t row n ns) : f 3 = m_cy row n := by rw [m_cy_bt]; exact h.2.2.1
theorem gs_lo {row : Nat → Int32} {sg : Int32} {n b : Nat} (hn : n ≤ 8) (hb : b < n) : m_gs row sg n b = m_g1 row sg b := by
  rw [m_gs, upd_ne (by omega), upd_ne (by omega), upd_ne (by omega), m_gp, if_pos hb]
theorem gs_hi {row : Nat → Int32} {sg : Int32} {n j : Nat} (hj : n ≤ j) (h : ¬ j = 24 ∧ ¬ j = 27 ∧ ¬ j = 28) : m_gs row sg n j = row j := by
  rw [m_gs, upd_ne (by omega), upd_ne (by omega), upd_ne (by omega), m_gp_hi hj]
theorem gs_24 {row : Nat → Int32} {sg : Int32} {n : Nat} : m_gs row sg n 24 = row 24 + 1 := by
  rw [m_gs, upd_ne (by omega), upd_ne (by omega)]; simp [upd]
theorem gs_27 {row : Nat → Int32} {sg : Int32} {n : Nat} : m_gs row sg n 27 = 0 := by
  rw [m_gs, upd_ne (by omega)]; simp [upd]
theorem gs_28 {row : Nat → Int32} {sg : Int32} {n : Nat} : m_gs row sg n 28 = row 28 + sg := by
  rw [m_gs]; simp [upd]
theorem bt_ext {g g' : Nat → Int32} : ∀ n, (∀ b, b < n → g b = g' b) → m_bt g n = m_bt g' n
  | 0, _ => rfl
  | n + 1, h => by simp only [m_bt]; rw [bt_ext n (fun b hb => h b (by omega)), h n (by omega)]
theorem bN_ext {g g' : Nat → Int32} : ∀ n, (∀ b, b < n → g b = g' b) → bN g n = bN g' n
  | 0, _ => rfl
  | n + 1, h => by simp only [bN]; rw [bN_ext n (fun b hb => h b (by omega)), h n (by omega)]
theorem wi99 (v : Int32) : ∃ t, t ≤ 99 ∧ k_wi v 0 99 = nI t := by rw [wi_cl]; exact m_cl_nI v
theorem m1_eq {f t row : Nat → Int32} {n ns c a b : Nat} {sg : Int32} (hn : n ≤ 8) (hr : SR f t row n ns) (hw : WS row n ns c a) (hs : sg = 0 ∨ sg = 1) (hb : b < n) : k_m1 (f 3) t (1 + 2 * sg) b = m_g1 row sg b := by
  obtain ⟨h1, h2, h3, h4, h5, h6, h7, h8, h9⟩ := hr
  have hq := hw.2.2.2.1
  unfold k_m1 m_g1
  rw [h3, bt_bit hn hq hb, h8 b hb]
  have := wi_m1 (row b) (hw.2.2.1 b hb) sg hs
  rcases hq b hb with h | h
  · simp only at h
    rw [if_pos h, h, if_neg (by decide)]
    exact this.2
  · simp only at h
    rw [if_neg (by rw [h]; decide), if_pos h]
    exact this.1
/-- a step on both -/
theorem SR.gs {f t f' t' row : Nat → Int32} {n ns c a : Nat} {sg : Int32} (hn : n ≤ 8) (hns : ns ≤ 8) (hr : SR f t row n ns) (hw : WS row n ns c a) (hs : sg = 0 ∨ sg = 1) (e1 : f' 1 = f 1 + 1) (e2 : f' 2 = f 2) (e3 : f' 3 = f 3) (e4 : f' 4 = f 4) (e5 : f' 5 = f 5) (e6 : f' 6 = 0) (e7 : f' 7 = f 7 + sg) (et : t' = k_mp (f 3) t (1 + 2 * sg) n) : SR f' t' (m_gs row sg n) n ns := by
  obtain ⟨h1, h2, h3, h4, h5, h6, h7, h8, h9⟩ := hr
  refine ⟨by rw [e1, h1, gs_24], by rw [e2, h2, gs_hi (by omega) (by omega)], ?_, by rw [e4, h4, gs_hi (by omega) (by omega)], ?_, by rw [e6, gs_27], by rw [e7, h7, gs_28], fun b hb => ?_, fun b hb hb8 => ?_⟩
  · rw [e3, h3]; exact bt_ext n (fun b hb => (gs_hi (by omega) (by omega)).symm)
  · rw [e5, h5]; exact bt_ext ns (fun b hb => (gs_hi (by omega) (by omega)).symm)
  · rw [et, k_mp, if_pos hb, gs_lo hn hb]
    exact m1_eq hn ⟨h1, h2, h3, h4, h5, h6, h7, h8, h9⟩ hw hs hb
  · rw [et, k_mp_hi hb]; exact h9 b hb hb8
theorem g1_99 {row : Nat → Int32} {n ns c a b : Nat} {sg : Int32} (hw : WS row n ns c a) (hs : sg = 0 ∨ sg = 1) (hb : b < n) : ∃ t, t ≤ 99 ∧ m_g1 row sg b = nI t := by
  have := wi_m1 (row b) (hw.2.2.1 b hb) sg hs
  unfold m_g1
  rcases hw.2.2.2.1 b hb with h | h
  · simp only at h
    rw [if_neg (by rw [h]; decide), ← this.2]; exact wi99 _
  · simp only at h
    rw [if_pos h, ← this.1]; exact wi99 _
theorem sg01 (a b : Int32) : m_sg a b = 0 ∨ m_sg a b = 1 := by unfold m_sg; split <;> simp
theorem WS.gs {row : Nat → Int32} {n ns c a : Nat} {sg : Int32} (hn : n ≤ 8) (hns : ns ≤ 8) (hw : WS row n ns c a) (hs : sg = 0 ∨ sg = 1) (hac : a < c) : WS (m_gs row sg n) n ns c (a + 1) := by
  have hw0 := hw
  obtain ⟨h1, h2, h3, h4, h5, h6, h7, h8, h9⟩ := hw
  have e8 : ∀ b, b < n → m_gs row sg n (8 + b) = row (8 + b) := fun b hb => gs_hi (by omega) (by omega)
  refine ⟨by rw [gs_24, h1, nI_1], by omega, fun b hb => ?_, fun b hb => ?_, fun b hb => ?_, ?_, ?_, ?_, ?_⟩
  · rw [gs_lo hn hb]; exact g1_99 hw0 hs hb
  · show m_gs row sg n (8 + b) = 0 ∨ m_gs row sg n (8 + b) = 1
    rw [e8 b hb]; exact h4 b hb
  · show m_gs row sg n (16 + b) = 0 ∨ m_gs row sg n (16 + b) = 1
    rw [gs_hi (by omega) (by omega)]; exact h5 b hb
  · rw [gs_hi (by omega) (by omega)]; exact h6
  · rw [gs_hi (by omega) (by omega)]; exact h7
  · left; exact gs_27
  · rw [bN_ext n e8]; exact h9
/-- what is told of way, bearers, sayings, by both -/
def ST (I : Nat → Nat → Int32) (sp str tl sy : Nat → Int32) (n c ns : Nat) : Prop := I 8 3 = nI n ∧ n ≤ 8 ∧ I 5 2 = nI c ∧ c ≤ 12 ∧ 1 ≤ c ∧ I 11 4 = nI ns ∧ ns ≤ 8 ∧ (∀ k, k < c → I 6 k = sp k) ∧ (∀ b, b < n → I 9 b = str b ∧ I 10 b = tl b) ∧ (∀ s, s < ns → I 12 s = sy (4 * s) ∧ k_b (I 11 3) (nI s) = sy (4 * s + 1) ∧ I 13 s = sy (4 * s + 2) ∧ I 14 s = sy (4 * s + 3)) ∧ sp9 sp c ∧ (∀ s, s < ns → (∃ t, t ≤ 20 ∧ sy (4 * s) = nI t) ∧ (∃ t, t ≤ 9 ∧ sy (4 * s + 2) = nI t) ∧ (∃ t, t ≤ 15 ∧ sy (4 * s + 3) = nI t))
theorem ST.f {I I2 : Nat → Nat → Int32} {sp str tl sy : Nat → Int32} {n c ns : Nat} (h : ST I sp str tl sy n c ns) (hs : fC I I2) : ST I2 sp str tl sy n c ns := by
  unfold ST
  rw [hs.r 8 rfl, hs.r 5 rfl, hs.r 11 rfl, hs.r 6 rfl, hs.r 9 rfl, hs.r 10 rfl, hs.r 12 rfl, hs.r 13 rfl, hs.r 14 rfl]
  exact h
/-- what an act on the state at q may leave behind -/
def qF (q : Nat) (I I3 : Nat → Nat → Int32) : Prop := ∀ p, p ≠ 33 → p ≠ 34 → p ≠ 37 → p ≠ 38 → p ≠ q → p ≠ q + 1 → I3 p = I p
theorem qF.r {q : Nat} {I I3 : Nat → Nat → Int32} (h : qF q I I3) (p : Nat) (hp : (p != 33 && (p != 34 && (p != 37 && (p != 38 && (p != q && p != q + 1))))) = true) : I3 p = I p := by
  simp at hp
  exact h p hp.1 hp.2.1 hp.2.2.1 hp.2.2.2.1 hp.2.2.2.2.1 hp.2.2.2.2.2
theorem qF.f {I I2 I3 : Nat → Nat → Int32} (h : qF 41 I2 I3) (hs : fC I I2) : fC I I3 := by
  refine ⟨fun p hp => ?_, ?_, ?_⟩
  · rw [h p (by intro e; subst e; cases hp) (by intro e; subst e; cases hp) (by intro e; subst e; cases hp) (by intro e; subst e; cases hp) (by intro e; subst e; cases hp) (by intro e; subst e; cases hp)]
    exact hs.1 p hp
  · rw [h.r 23 rfl]; exact hs.2.1
  · rw [h.r 23 rfl]; exact hs.2.2
theorem qF.s {q : Nat} {I I2 I3 : Nat → Nat → Int32} (h : qF q I I2) (g : sC I2 I3) : qF q I I3 := fun p a b c d e f => (g p a b c d).trans (h p a b c d e f)
theorem qF.rf {q : Nat} {I : Nat → Nat → Int32} : qF q I I := fun _ _ _ _ _ _ _ => rfl
theorem qF_ad {q n : Nat} {I : Nat → Nat → Int32} {sg : Int32} : qF q I (k_ad I q n sg) := by
  intro p _ _ _ _ e1 e2
  funext k
  simp [k_ad, k_mv, ti_wr, va_up, e1, e2]
theorem adv_val {I : Nat → Nat → Int32} {f t row sp str tl sy : Nat → Int32} {n c ns a z rs : Nat} {rv : RV} (hst : ST I sp str tl sy n c ns) (hz : z = 0 ↔ rs = 0) (hr : SR f t row n ns) : m_sg (k_fo z rv (I 9) (I 10) t (k_tl (I 10) (f 3) n) (m_st c (I 6) a) (f 3) n) (f 2 + m_st c (I 6) a) = m_SG sp str tl n c rs rv row a := by
  obtain ⟨_, _, _, _, _, _, _, s1, s2, _⟩ := hst
  rw [hr.cy, hr.2.1, st_eq s1, tl_eq n (fun b hb => (s2 b hb).2), fo_eq hz n (fun b hb => ⟨(s2 b hb).1, (s2 b hb).2, hr.2.2.2.2.2.2.2.1 b hb⟩)]
  rfl
theorem adv_mem {I : Nat → Nat → Int32} {row : Nat → Int32} {q n c ns a : Nat} {sg : Int32} (hn : n ≤ 8) (hns : ns ≤ 8) (hr : SR (I q) (I (q + 1)) row n ns) (hw : WS row n ns c a) (hs : sg = 0 ∨ sg = 1) : SR (k_ad I q n sg q) (k_ad I q n sg (q + 1)) (m_gs row sg n) n ns := by
  refine SR.gs hn hns hr hw hs ?_ ?_ ?_ ?_ ?_ ?_ ?_ ?_
  · simp [k_ad, k_mv, ti_wr, va_up, upd]
  · simp [k_ad, k_mv, ti_wr, va_up, upd]
  · simp [k_ad, k_mv, ti_wr, va_up, upd]
  · simp [k_ad, k_mv, ti_wr, va_up, upd]
  · simp [k_ad, k_mv, ti_wr, va_up, upd]
  · simp [k_ad, k_mv, ti_wr, va_up, upd]
  · simp [k_ad, k_mv, ti_wr, va_up, upd]
  · funext j
    simp [k_ad, k_mv, ti_wr, va_up, upd]
set_option maxHeartbeats 1000000 in
theorem a_adv {I : Nat → Nat → Int32} {J : Nat → Nat → Int64} {R : Nat → Nat → Value} {d n c ns a p q z rs : Nat} {rv : RV} {row sp str tl sy : Nat → Int32} (hq : q = 39 ∨ q = 41) (hK : kA I d n c p z rv) (hst : ST I sp str tl sy n c ns) (hz : z = 0 ↔ rs = 0) (hr : SR (I q) (I (q + 1)) row n ns) (hw : WS row n ns c a) : Cal lyC (d + 5) hX7_advance 5 [.ref q, .ref 5, .ref 8, .ref p] (I, J, R) (fun r M' => r = some (.int (if m_rS c a (m_cy row n) = 0 then m_SG sp str tl n c rs rv row a else m_rS c a (m_cy row n))) ∧ ∃ I3, M' = (I3, J, R) ∧ qF q I I3 ∧ SR (I3 q) (I3 (q + 1)) (if m_rS c a (m_cy row n) = 0 then m_NX sp str tl n c rs rv row a else row) n ns) := by
  obtain ⟨h1, h2, h3, h4, h5, h6, h7⟩ := hK
  have ha : I q 1 = nI a := hr.1.trans hw.1
  have ha12 : a ≤ 12 := Nat.le_trans hw.2.1 h4
  rcases hq with rfl | rfl <;> rcases h5 with rfl | rfl
  · have K := k_advance_31_39 (J := J) (R := R) h1 h2 h3 h4 ha ha12 h6 h7 sC.rf
    rw [adv_val (rs := rs) hst hz hr, hr.cy] at K
    refine K.imp (fun r M' ⟨e1, I3, e2, e3⟩ => ⟨e1, I3, e2, ?_, ?_⟩)
    · split at e3
      · exact qF_ad.s e3
      · exact qF.rf.s e3
    · split at e3
      · next e => rw [if_pos e, e3.r 39 rfl, e3.r 40 rfl]; exact adv_mem h2 hst.2.2.2.2.2.2.1 hr hw (sg01 _ _)
      · next e => rw [if_neg e, e3.r 39 rfl, e3.r 40 rfl]; exact hr
  · have K := k_advance_35_39 (J := J) (R := R) h1 h2 h3 h4 ha ha12 h6 h7 sC.rf
    rw [adv_val (rs := rs) hst hz hr, hr.cy] at K
    refine K.imp (fun r M' ⟨e1, I3, e2, e3⟩ => ⟨e1, I3, e2, ?_, ?_⟩)
    · split at e3
      · exact qF_ad.s e3
      · exact qF.rf.s e3
    · split at e3
      · next e => rw [if_pos e, e3.r 39 rfl, e3.r 40 rfl]; exact adv_mem h2 hst.2.2.2.2.2.2.1 hr hw (sg01 _ _)
      · next e => rw [if_neg e, e3.r 39 rfl, e3.r 40 rfl]; exact hr
  · have K := k_advance_31_41 (J := J) (R := R) h1 h2 h3 h4 ha ha12 h6 h7 sC.rf
    rw [adv_val (rs := rs) hst hz hr, hr.cy] at K
    refine K.imp (fun r M' ⟨e1, I3, e2, e3⟩ => ⟨e1, I3, e2, ?_, ?_⟩)
    · split at e3
      · exact qF_ad.s e3
      · exact qF.rf.s e3
    · split at e3
      · next e => rw [if_pos e, e3.r 41 rfl, e3.r 42 rfl]; exact adv_mem h2 hst.2.2.2.2.2.2.1 hr hw (sg01 _ _)
      · next e => rw [if_neg e, e3.r 41 rfl, e3.r 42 rfl]; exact hr
  · have K := k_advance_35_41 (J := J) (R := R) h1 h2 h3 h4 ha ha12 h6 h7 sC.rf
    rw [adv_val (rs := rs) hst hz hr, hr.cy] at K
    refine K.imp (fun r M' ⟨e1, I3, e2, e3⟩ => ⟨e1, I3, e2, ?_, ?_⟩)
    · split at e3
      · exact qF_ad.s e3
      · exact qF.rf.s e3
    · split at e3
      · next e => rw [if_pos e, e3.r 41 rfl, e3.r 42 rfl]; exact adv_mem h2 hst.2.2.2.2.2.2.1 hr hw (sg01 _ _)
      · next e => rw [if_neg e, e3.r 41 rfl, e3.r 42 rfl]; exact hr
