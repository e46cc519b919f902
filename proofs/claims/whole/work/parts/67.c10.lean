/-! the class: how much it bears from each corner; what could be said; drawn walks -/
theorem mv_n {I : Nat → Nat → Int32} {q n p : Nat} {mo : Int32} (h1 : p ≠ q) (h2 : p ≠ q + 1) : k_mv I q n mo p = I p := by
  unfold k_mv; rw [ti_wr_n h1, ti_wr_n h1, va_up_n h2]
theorem fC_mv {I I2 : Nat → Nat → Int32} {n : Nat} {mo : Int32} (h : fC I I2) : fC I (k_mv I2 41 n mo) := by
  refine ⟨fun p hp => ?_, ?_, ?_⟩
  · rw [mv_n (fun e => by subst e; cases hp) (fun e => by subst e; cases hp)]; exact h.1 p hp
  · rw [mv_n (by decide) (by decide)]; exact h.2.1
  · rw [mv_n (by decide) (by decide)]; exact h.2.2
theorem mv_mem {I : Nat → Nat → Int32} {row : Nat → Int32} {q n c ns a : Nat} (hn : n ≤ 8) (hns : ns ≤ 8) (hr : SR (I q) (I (q + 1)) row n ns) (hw : WS row n ns c a) : SR (k_mv I q n 1 q) (k_mv I q n 1 (q + 1)) (m_gs row 0 n) n ns := by
  refine SR.gs hn hns hr hw (Or.inl rfl) ?_ ?_ ?_ ?_ ?_ ?_ ?_ ?_
  · simp [k_mv, ti_wr, va_up, upd]
  · simp [k_mv, ti_wr, va_up, upd]
  · simp [k_mv, ti_wr, va_up, upd]
  · simp [k_mv, ti_wr, va_up, upd]
  · simp [k_mv, ti_wr, va_up, upd]
  · simp [k_mv, ti_wr, va_up, upd]
  · simp [k_mv, ti_wr, va_up, upd]
  · funext j
    simp [k_mv, ti_wr, va_up, upd]
theorem fo_val {I : Nat → Nat → Int32} {t row sp str tl sy : Nat → Int32} {n c ns a z rs : Nat} {rv : RV} {x : Int32} (hst : ST I sp str tl sy n c ns) (hz : z = 0 ↔ rs = 0) (ht : ∀ b, b < n → t b = row b) : k_fo z rv (I 9) (I 10) t (k_tl (I 10) x n) (m_st c (I 6) a) x n = m_fo rs rv str tl row (m_tl tl x n) (m_st c sp a) x n := by
  obtain ⟨_, _, _, _, _, _, _, s1, s2, _⟩ := hst
  rw [st_eq s1, tl_eq n (fun b hb => (s2 b hb).2), fo_eq hz n (fun b hb => ⟨(s2 b hb).1, (s2 b hb).2, ht b hb⟩)]
theorem t_force {I I2 : Nat → Nat → Int32} {J : Nat → Nat → Int64} {R : Nat → Nat → Value} {d n c ns a p z rs : Nat} {rv : RV} {row sp str tl sy : Nat → Int32} (hK : kA I d n c p z rv) (hst : ST I sp str tl sy n c ns) (hz : z = 0 ↔ rs = 0) (hs : fC I I2) (hr : SR (I2 41) (I2 42) row n ns) (hw : WS row n ns c a) : Cal lyC (d + 4) hX0_forceOf 9 [.ref 8, .ref p, .int (m_cy row n), .ref 41] (I2, J, R) (fun r M' => r = some (.int (m_FR sp str tl n c rs rv row a)) ∧ ∃ I3, M' = (I3, J, R) ∧ fC I I3 ∧ sC I2 I3) := by
  obtain ⟨h1, h2, h3, h4, h5, h6, h7⟩ := hK.f hs
  have ha : I2 41 1 = nI a := hr.1.trans hw.1
  have ha12 : a ≤ 12 := Nat.le_trans hw.2.1 h4
  have e := fo_val (rv := rv) (a := a) (x := m_cy row n) (hst.f hs) hz (hr.2.2.2.2.2.2.2.1)
  rcases h5 with rfl | rfl
  · have K := k_forceOf_31_41 (J := J) (R := R) h1 h2 h3 h4 ha ha12 h6 h7 sC.rf (m_cy row n)
    rw [e] at K
    exact K.imp (fun r M' ⟨e1, I3, e2, e3⟩ => ⟨e1, I3, e2, hs.s e3, e3⟩)
  · have K := k_forceOf_35_41 (J := J) (R := R) h1 h2 h3 h4 ha ha12 h6 h7 sC.rf (m_cy row n)
    rw [e] at K
    exact K.imp (fun r M' ⟨e1, I3, e2, e3⟩ => ⟨e1, I3, e2, hs.s e3, e3⟩)
/-- the least of the last i -/
def k_bn (f : Nat → Int32) (c : Nat) : Nat → Int32
  | 0 => 999
  | i + 1 => if k_bn f c i < f (c - (i + 1)) then k_bn f c i else f (c - (i + 1))
theorem bn_le {f : Nat → Int32} {c : Nat} {y : Int32} : ∀ i, i ≤ c → (y ≤ k_bn f c i ↔ y ≤ 999 ∧ ∀ j, c - i ≤ j → j < c → y ≤ f j)
  | 0, _ => by
    simp only [k_bn]
    exact ⟨fun h => ⟨h, fun j a b => by omega⟩, fun h => h.1⟩
  | i + 1, hi => by
    have ih := bn_le (f := f) (c := c) (y := y) i (by omega)
    simp only [k_bn]
    constructor
    · intro h
      have h2 : y ≤ k_bn f c i ∧ y ≤ f (c - (i + 1)) := by
        split at h
        · next q => exact ⟨h, Int32.le_trans h (Int32.le_of_lt q)⟩
        · next q => exact ⟨Int32.le_trans h (Int32.not_lt.mp q), h⟩
      refine ⟨(ih.mp h2.1).1, fun j a b => ?_⟩
      rcases (by omega : j = c - (i + 1) ∨ c - i ≤ j) with e | e
      · rw [e]; exact h2.2
      · exact (ih.mp h2.1).2 j e b
    · intro h
      have h1 : y ≤ k_bn f c i := ih.mpr ⟨h.1, fun j a b => h.2 j (by omega) b⟩
      have h2 := h.2 (c - (i + 1)) (by omega) (by omega)
      split
      · exact h1
      · exact h2
theorem mn_le {f : Nat → Int32} {a : Nat} {y : Int32} : ∀ k, (y ≤ m_mn f a k ↔ y ≤ 999 ∧ ∀ j, a ≤ j → j < a + k → y ≤ f j)
  | 0 => by
    simp only [m_mn]
    exact ⟨fun h => ⟨h, fun j a b => by omega⟩, fun h => h.1⟩
  | k + 1 => by
    have ih := mn_le (f := f) (a := a) (y := y) k
    simp only [m_mn]
    constructor
    · intro h
      have h2 : y ≤ m_mn f a k ∧ y ≤ f (a + k) := by
        split at h
        · next q => exact ⟨Int32.le_trans h (Int32.le_of_lt q), h⟩
        · next q => exact ⟨h, Int32.le_trans h (Int32.not_lt.mp q)⟩
      refine ⟨(ih.mp h2.1).1, fun j p q => ?_⟩
      rcases (by omega : j = a + k ∨ j < a + k) with e | e
      · rw [e]; exact h2.2
      · exact (ih.mp h2.1).2 j p e
    · intro h
      have h1 : y ≤ m_mn f a k := ih.mpr ⟨h.1, fun j p q => h.2 j p (by omega)⟩
      have h2 := h.2 (a + k) (by omega) (by omega)
      split
      · exact h2
      · exact h1
theorem bn_mn {f : Nat → Int32} {a c : Nat} (h : a ≤ c) : k_bn f c (c - a) = m_mn f a (c - a) := by
  refine Int32.le_antisymm ((mn_le _).mpr ?_) ((bn_le _ (by omega)).mpr ?_)
  · have := (bn_le (f := f) (c := c) (y := k_bn f c (c - a)) (c - a) (by omega)).mp (Int32.le_refl _)
    exact ⟨this.1, fun j p q => this.2 j (by omega) (by omega)⟩
  · have := (mn_le (f := f) (a := a) (y := m_mn f a (c - a)) (c - a)).mp (Int32.le_refl _)
    exact ⟨this.1, fun j p q => this.2 j (by omega) (by omega)⟩
theorem dn_lt {x a : Nat} (hx : x < 2 ^ 30) (ha : a < 2 ^ 30) : nI x - 1 < nI a ↔ x ≤ a := by
  rw [show nI x - 1 = iI ((x : Int) - 1) from iI_sub x 1, show nI a = iI (a : Int) from rfl, iI_lt (by omega) (by omega) (by omega) (by omega)]
  omega
theorem dn_ix {x : Nat} (hx : 1 ≤ x) : nI x - 1 = nI (x - 1) := pk_sub hx
theorem dn_p1 (x : Nat) : nI x - 1 + 1 = nI x := by simp
theorem dn_dec {x : Nat} (hx : 1 ≤ x) : nI x - 1 + Int32.ofInt (-1) = nI (x - 1) - 1 := by rw [dn_ix hx, show Int32.ofInt (-1) = -1 by decide]; exact (Int32.sub_eq_add_neg _ _).symm
theorem dn_gt {x a : Nat} (h : ¬ nI x - 1 < nI a) (hx : x < 2 ^ 30) (ha : a < 2 ^ 30) : a < x := Nat.not_le.mp fun q => h ((dn_lt hx ha).mpr q)
theorem wr_ne {I : Nat → Nat → Int32} {p k j : Nat} {v : Int32} (h : ¬ j = k) : ti_wr I p k v p j = I p j := by simp [ti_wr, va_up, upd, h]
set_option maxHeartbeats 1000000 in
theorem k_borne2 {I : Nat → Nat → Int32} {J : Nat → Nat → Int64} {R : Nat → Nat → Value} {d n c ns a p z rs : Nat} {rv : RV} {row sp str tl sy : Nat → Int32} (hK : kA I d n c p z rv) (hst : ST I sp str tl sy n c ns) (hz : z = 0 ↔ rs = 0) (hr : SR (I 39) (I 40) row n ns) (hw : WS row n ns c a) : ∀ (k x : Nat) (I2 : Nat → Nat → Int32), a ≤ x → x ≤ c → x < k → fC I I2 → I2 3 = I 3 → (∀ j, a ≤ j → j < c → I2 19 j = m_RM sp str tl n c rs rv row a j) → (∀ j, x ≤ j → j ≤ c → I2 20 j = k_bn (m_RM sp str tl n c rs rv row a) c (c - j)) → Ev lyC (d + 6) hX3_findBorne 104 [some (.ref 18), some (.ref 39), some (.ref p), some (.int (nI x - 1))] [] (I2, J, R) (fun r M' => r = none ∧ ∃ I3, M' = (I3, J, R) ∧ fC I I3 ∧ I3 3 = I 3 ∧ (∀ j, a ≤ j → j < c → I3 19 j = m_RM sp str tl n c rs rv row a j) ∧ (∀ j, a ≤ j → j ≤ c → I3 20 j = k_bn (m_RM sp str tl n c rs rv row a) c (c - j))) := by
  have hn := hK.1
  have hn8 := hK.2.1
  have hc := hK.2.2.1
  have hc12 := hK.2.2.2.1
  have hns8 := hst.2.2.2.2.2.2.1
  have ha : I 39 1 = nI a := hr.1.trans hw.1
  have hac := hw.2.1
  have ha12 : a ≤ 12 := by omega
  intro k
  induction k with
  | zero => intro x I2 h0 h1 h2; omega
  | succ k ih =>
    intro x I2 hxa hxc hk hs2 h3 h19 h20
    refine ev_st dX3_findBorne_104 rfl rfl ?_
    refine ev_st dX3_findBorne_105 rfl rfl ?_
    refine ev_getI (v := nI a) dX3_findBorne_106 fr_3_48 rfl rfl ((congrFun (hs2.r 39 rfl) 1).trans ha) ?_
    refine ev_ic_lt (t := 141) (x := nI x - 1) (y := nI a) dX3_findBorne_109 (by decide) (fun c_109 => ?_) (fun c_109 => ?_)
    · exact ev_vret dX3_findBorne_141 rfl (⟨rfl, _, rfl, hs2, h3, h19, fun j p q => h20 j (by have := (dn_lt (x := x) (a := a) (by omega) (by omega)).mp c_109; omega) q⟩)
    · refine ev_st dX3_findBorne_112 rfl rfl ?_
      refine ev_getC dX3_findBorne_113 fr_3_22 rfl rfl ?_
      refine ev_st dX3_findBorne_116 rfl rfl ?_
      refine ev_st dX3_findBorne_117 rfl rfl ?_
      refine ev_getC dX3_findBorne_118 fr_3_18 rfl rfl ?_
      refine ev_st dX3_findBorne_121 rfl rfl ?_
      refine ev_iald (j := x - 1) (v := m_RM sp str tl n c rs rv row a (x - 1)) dX3_findBorne_122 rfl (dn_ix (by have := dn_gt c_109 (by omega) (by omega); omega)) (by omega) (by decide) (h19 (x - 1) (by have := dn_gt c_109 (by omega) (by omega); omega) (by have := dn_gt c_109 (by omega) (by omega); omega)) ?_
      refine ev_st dX3_findBorne_123 rfl rfl ?_
      refine ev_getC dX3_findBorne_124 fr_3_22 rfl rfl ?_
      refine ev_st dX3_findBorne_127 rfl rfl ?_
      refine ev_iconst (v := 1) dX3_findBorne_128 (by decide) ?_
      refine ev_st dX3_findBorne_129 rfl rfl ?_
      refine ev_iald (j := x) (v := k_bn (m_RM sp str tl n c rs rv row a) c (c - x)) dX3_findBorne_130 rfl (dn_p1 _) (by omega) (by decide) (h20 x (by omega) hxc) ?_
      refine ev_min (v := if (k_bn (m_RM sp str tl n c rs rv row a) c (c - x)) < (m_RM sp str tl n c rs rv row a (x - 1)) then (k_bn (m_RM sp str tl n c rs rv row a) c (c - x)) else (m_RM sp str tl n c rs rv row a (x - 1))) dX3_findBorne_131 br_3_97 rfl rfl ?_
      refine ev_iast (j := x - 1) dX3_findBorne_134 rfl (dn_ix (by have := dn_gt c_109 (by omega) (by omega); omega)) (by omega) (by decide) ?_
      refine ev_iinc (x := nI x - 1) (v := nI (x - 1) - 1) (L' := [some (.ref 18), some (.ref 39), some (.ref p), some (.int (nI (x - 1) - 1))]) dX3_findBorne_135 rfl (dn_dec (by have := dn_gt c_109 (by omega) (by omega); omega)) rfl ?_
      refine ev_goto (t := 104) dX3_findBorne_138 (by decide) ?_
      have hx1 : a < x := dn_gt c_109 (by omega) (by omega)
      refine ih (x - 1) _ (by omega) (by omega) (by omega) (hs2.w (p := 20) (k := x - 1) rfl _) (by rw [ti_wr_n (by decide)]; exact h3) (fun j p q => by rw [ti_wr_n (by decide)]; exact h19 j p q) (fun j p q => ?_)
      by_cases e : j = x - 1
      · rw [e, ti_wr_at, show c - (x - 1) = (c - x) + 1 by omega, k_bn, show c - (c - x + 1) = x - 1 by omega]
      · rw [wr_ne e]; exact h20 j (by omega) q
set_option maxHeartbeats 1000000 in
theorem k_findBorne {I : Nat → Nat → Int32} {J : Nat → Nat → Int64} {R : Nat → Nat → Value} {d n c ns a p z rs : Nat} {rv : RV} {row sp str tl sy : Nat → Int32} (hK : kA I d n c p z rv) (hst : ST I sp str tl sy n c ns) (hz : z = 0 ↔ rs = 0) (hr : SR (I 39) (I 40) row n ns) (hw : WS row n ns c a) : Cal lyC (d + 6) hX3_findBorne 4 [.ref 18, .ref 39, .ref p] (I, J, R) (fun r M' => r = none ∧ ∃ I3, M' = (I3, J, R) ∧ fC I I3 ∧ I3 3 = I 3 ∧ (∀ j, a ≤ j → j < c → I3 19 j = m_RM sp str tl n c rs rv row a j) ∧ (∀ j, a ≤ j → j ≤ c → I3 20 j = k_bn (m_RM sp str tl n c rs rv row a) c (c - j))) := by
  have hn := hK.1
  have hn8 := hK.2.1
  have hc := hK.2.2.1
  have hc12 := hK.2.2.2.1
  have hns8 := hst.2.2.2.2.2.2.1
  have ha : I 39 1 = nI a := hr.1.trans hw.1
  have hac := hw.2.1
  have ha12 : a ≤ 12 := by omega
  have htk0 : tkR row row n a 0 := ⟨by rw [hw.1]; rfl, fun _ _ => rfl, fun _ _ => rfl⟩
  have loop : ∀ (k b : Nat) (I2 : Nat → Nat → Int32) (row2 : Nat → Int32), a ≤ b → b ≤ c → c - b < k → fC I I2 → SR (I2 41) (I2 42) row2 n ns → WS row2 n ns c b → tkR row row2 n a (b - a) → I2 3 = I 3 → (∀ j, a ≤ j → j < b → I2 19 j = m_RM sp str tl n c rs rv row a j) → Ev lyC (d + 6) hX3_findBorne 13 [some (.ref 18), some (.ref 39), some (.ref p), some (.int (nI b))] [] (I2, J, R) (fun r M' => r = none ∧ ∃ I3, M' = (I3, J, R) ∧ fC I I3 ∧ I3 3 = I 3 ∧ (∀ j, a ≤ j → j < c → I3 19 j = m_RM sp str tl n c rs rv row a j) ∧ (∀ j, a ≤ j → j ≤ c → I3 20 j = k_bn (m_RM sp str tl n c rs rv row a) c (c - j))) := by
    intro k
    induction k with
    | zero => intro b   I2  row2 h0 h1 h2; omega
    | succ k ih =>
      intro b   I2  row2 hb1 hb hk  hs2 hsr hws htk h3 h19
      refine ev_st dX3_findBorne_13 rfl rfl ?_
      refine ev_st dX3_findBorne_14 rfl rfl ?_
      refine ev_getC dX3_findBorne_15 fr_3_28 rfl rfl ?_
      refine ev_getI (v := nI c) dX3_findBorne_18 fr_3_52 rfl rfl ((congrFun (hs2.r 5 rfl) 2).trans hc) ?_
      refine ev_ic_geN (t := 79) (a := b) (b := c) dX3_findBorne_21 (by decide) rfl rfl (by omega) (by omega) (fun c_21 => ?_) (fun c_21 => ?_)
      · refine ev_st dX3_findBorne_79 rfl rfl ?_
        refine ev_getC dX3_findBorne_80 fr_3_22 rfl rfl ?_
        refine ev_st dX3_findBorne_83 rfl rfl ?_
        refine ev_getC dX3_findBorne_84 fr_3_28 rfl rfl ?_
        refine ev_getI (v := nI c) dX3_findBorne_87 fr_3_52 rfl rfl ((congrFun (hs2.r 5 rfl) 2).trans hc) ?_
        refine ev_sipush (v := 999) dX3_findBorne_90 (by decide) ?_
        refine ev_iast (j := c) dX3_findBorne_93 rfl rfl (by omega) (by decide) ?_
        refine ev_st dX3_findBorne_94 rfl rfl ?_
        refine ev_getC dX3_findBorne_95 fr_3_28 rfl rfl ?_
        refine ev_getI (v := nI c) dX3_findBorne_98 fr_3_52 rfl rfl ((congrFun (hs2.r 5 rfl) 2).trans hc) ?_
        refine ev_iconst (v := 1) dX3_findBorne_101 (by decide) ?_
        refine ev_st dX3_findBorne_102 rfl rfl ?_
        refine ev_st (L' := [some (.ref 18), some (.ref 39), some (.ref p), some (.int ((nI c) - 1))]) dX3_findBorne_103 rfl rfl ?_
        refine k_borne2 (J := J) (R := R) (p := p) hK hst hz hr hw (c + 1) c _ hac (by omega) (by omega) (hs2.w (p := 20) (k := c) rfl _) (by rw [ti_wr_n (by decide)]; exact h3) (fun j p q => by rw [ti_wr_n (by decide)]; exact h19 j p (by omega)) (fun j p q => ?_)
        rw [show j = c by omega, ti_wr_at, show c - c = 0 by omega]; rfl
      · refine ev_st dX3_findBorne_24 rfl rfl ?_
        refine ev_getC dX3_findBorne_25 fr_3_18 rfl rfl ?_
        refine ev_st dX3_findBorne_28 rfl rfl ?_
        refine ev_st dX3_findBorne_29 rfl rfl ?_
        refine ev_getC dX3_findBorne_30 fr_3_32 rfl rfl ?_
        refine ev_st dX3_findBorne_33 rfl rfl ?_
        refine ev_st dX3_findBorne_34 rfl rfl ?_
        refine ev_getC dX3_findBorne_35 fr_3_12 rfl rfl ?_
        refine ev_getI (v := m_cy row2 n) dX3_findBorne_38 fr_3_82 rfl rfl hsr.cy ?_
        refine ev_st dX3_findBorne_41 rfl rfl ?_
        refine ev_getC dX3_findBorne_42 fr_3_12 rfl rfl ?_
        refine ev_call dX3_findBorne_45 rfl rfl mr_3_85 rfl rfl rfl (Cal.mono (by omega) (t_force (I2 := I2) (J := J) hK hst hz hs2 hsr hws)) ?_
        rintro _ _ ⟨rfl, I3, rfl, hs3, g3⟩
        show Ev lyC (d + 6) hX3_findBorne 48 [some (.ref 18), some (.ref 39), some (.ref p), some (.int (nI b))] [.int (m_FR sp str tl n c rs rv row2 b), .int (nI b), .ref 19] (I3, J, R) _
        refine ev_st dX3_findBorne_48 rfl rfl ?_
        refine ev_getC dX3_findBorne_49 fr_3_28 rfl rfl ?_
        refine ev_st dX3_findBorne_52 rfl rfl ?_
        refine ev_call dX3_findBorne_53 rfl rfl mr_3_89 rfl rfl rfl (k_steepF (I := I) (I2 := I3) (J := J) (a := b) hc hc12 (by omega) hs3) ?_
        rintro _ _ ⟨rfl, rfl⟩
        show Ev lyC (d + 6) hX3_findBorne 56 [some (.ref 18), some (.ref 39), some (.ref p), some (.int (nI b))] [.int (m_st c (I 6) b), .int (m_FR sp str tl n c rs rv row2 b), .int (nI b), .ref 19] (I3, J, R) _
        refine ev_st dX3_findBorne_56 rfl rfl ?_
        refine ev_iast (j := b) dX3_findBorne_57 rfl rfl (by omega) (by decide) ?_
        refine ev_st dX3_findBorne_58 rfl rfl ?_
        refine ev_getC dX3_findBorne_59 fr_3_12 rfl rfl ?_
        refine ev_st dX3_findBorne_62 rfl rfl ?_
        refine ev_getC dX3_findBorne_63 fr_3_32 rfl rfl ?_
        refine ev_getI (v := nI n) dX3_findBorne_66 fr_3_61 rfl rfl ((congrFun (hs3.r 8 rfl) 3).trans hn) ?_
        refine ev_iconst (v := 1) dX3_findBorne_69 (by decide) ?_
        refine ev_call dX3_findBorne_70 rfl rfl mr_3_93 rfl rfl rfl (k_moveOn_41 (I := ti_wr I3 19 b ((m_FR sp str tl n c rs rv row2 b) - (m_st c (I 6) b))) (n := n) hn8 1) ?_
        rintro _ _ ⟨rfl, rfl⟩
        show Ev lyC (d + 6) hX3_findBorne 73 [some (.ref 18), some (.ref 39), some (.ref p), some (.int (nI b))] [] (k_mv (ti_wr I3 19 b ((m_FR sp str tl n c rs rv row2 b) - (m_st c (I 6) b))) 41 n 1, J, R) _
        refine ev_iincN (a := b) (b := b + 1) (L' := [some (.ref 18), some (.ref 39), some (.ref p), some (.int (nI (b + 1)))]) dX3_findBorne_73 rfl (nI_1 _) rfl ?_
        refine ev_goto (t := 13) dX3_findBorne_76 (by decide) ?_
        have h41 : ∀ k, ti_wr I3 19 b (m_FR sp str tl n c rs rv row2 b - m_st c (I 6) b) k = if k = 19 then upd (I3 19) b (m_FR sp str tl n c rs rv row2 b - m_st c (I 6) b) else I3 k := fun k => by by_cases e : k = 19 <;> simp [e, ti_wr, va_up]
        have hsr2 : SR (ti_wr I3 19 b (m_FR sp str tl n c rs rv row2 b - m_st c (I 6) b) 41) (ti_wr I3 19 b (m_FR sp str tl n c rs rv row2 b - m_st c (I 6) b) 42) row2 n ns := by rw [ti_wr_n (by decide), ti_wr_n (by decide), g3.r 41 rfl, g3.r 42 rfl]; exact hsr
        have hrm : m_FR sp str tl n c rs rv row2 b - m_st c (I 6) b = m_RM sp str tl n c rs rv row a b := by have e := htk.rm (sp := sp) (str := str) (tl := tl) (c := c) (rs := rs) (rv := rv); rw [show a + (b - a) = b by omega] at e; rw [st_eq hst.2.2.2.2.2.2.2.1]; exact e
        refine ih _ _ _ (by omega) (by omega) (by omega) (fC_mv (fC.w (p := 19) (k := b) hs3 rfl _)) (mv_mem hn8 hns8 hsr2 hws) (hws.gs hn8 hns8 (Or.inl rfl) (by omega)) (by have := htk.go hn8; rw [show b + 1 - a = b - a + 1 by omega]; exact this) (by rw [mv_n (by decide) (by decide), ti_wr_n (by decide), g3.r 3 rfl]; exact h3) (fun j p q => ?_)
        rw [mv_n (by decide) (by decide)]
        by_cases e : j = b
        · rw [e, ti_wr_at]; exact hrm
        · rw [wr_ne e, g3.r 19 rfl]; exact h19 j p (by omega)
  show Ev lyC (d + 6) hX3_findBorne 0 [some (.ref 18), some (.ref 39), some (.ref p), none] [] (I, J, R) _
  refine ev_st dX3_findBorne_0 rfl rfl ?_
  refine ev_getC dX3_findBorne_1 fr_3_12 rfl rfl ?_
  refine ev_st dX3_findBorne_4 rfl rfl ?_
  refine ev_call dX3_findBorne_5 rfl rfl mr_3_44 rfl rfl rfl (t_bec hn8 hr hw) ?_
  rintro _ _ ⟨rfl, I2, rfl, hs2, h3, hsr⟩
  show Ev lyC (d + 6) hX3_findBorne 8 [some (.ref 18), some (.ref 39), some (.ref p), none] [] (I2, J, R) _
  refine ev_st dX3_findBorne_8 rfl rfl ?_
  refine ev_getI (v := nI a) dX3_findBorne_9 fr_3_48 rfl rfl ((congrFun (hs2.r 39 rfl) 1).trans ha) ?_
  refine ev_st (L' := [some (.ref 18), some (.ref 39), some (.ref p), some (.int (nI a))]) dX3_findBorne_12 rfl rfl ?_
  exact loop (c + 1) a   _ _ (by omega) (by omega) (by omega)  hs2 hsr hw (by rw [Nat.sub_self]; exact htk0) h3 (fun j p q => by omega)
set_option maxHeartbeats 1000000 in
theorem k_mostLoad {I : Nat → Nat → Int32} {J : Nat → Nat → Int64} {R : Nat → Nat → Value} {d n c ns a p z rs : Nat} {rv : RV} {row sp str tl sy : Nat → Int32} (hK : kA I d n c p z rv) (hst : ST I sp str tl sy n c ns) (hz : z = 0 ↔ rs = 0) (hr : SR (I 39) (I 40) row n ns) (hw : WS row n ns c a) : Cal lyC (d + 7) hX3_mostLoad 3 [.ref 18, .ref 39, .ref p] (I, J, R) (fun r M' => r = some (.int (if m_mn (m_RM sp str tl n c rs rv row a) a (c - a) < 0 then -2 else m_mn (m_RM sp str tl n c rs rv row a) a (c - a))) ∧ ∃ I3, M' = (I3, J, R) ∧ fC I I3 ∧ I3 3 = I 3) := by
  have hn := hK.1
  have hn8 := hK.2.1
  have hc := hK.2.2.1
  have hc12 := hK.2.2.2.1
  have hns8 := hst.2.2.2.2.2.2.1
  have ha : I 39 1 = nI a := hr.1.trans hw.1
  have hac := hw.2.1
  have ha12 : a ≤ 12 := by omega
  show Ev lyC (d + 7) hX3_mostLoad 0 [some (.ref 18), some (.ref 39), some (.ref p)] [] (I, J, R) _
  refine ev_st dX3_mostLoad_0 rfl rfl ?_
  refine ev_st dX3_mostLoad_1 rfl rfl ?_
  refine ev_st dX3_mostLoad_2 rfl rfl ?_
  refine ev_call dX3_mostLoad_3 rfl rfl mr_3_78 rfl rfl rfl (k_findBorne hK hst hz hr hw) ?_
  rintro _ _ ⟨rfl, I2, rfl, hs2, h3, h19, h20⟩
  show Ev lyC (d + 7) hX3_mostLoad 6 [some (.ref 18), some (.ref 39), some (.ref p)] [] (I2, J, R) _
  refine ev_st dX3_mostLoad_6 rfl rfl ?_
  refine ev_getC dX3_mostLoad_7 fr_3_22 rfl rfl ?_
  refine ev_st dX3_mostLoad_10 rfl rfl ?_
  refine ev_getI (v := nI a) dX3_mostLoad_11 fr_3_48 rfl rfl ((congrFun (hs2.r 39 rfl) 1).trans ha) ?_
  refine ev_iald (j := a) (v := m_mn (m_RM sp str tl n c rs rv row a) a (c - a)) dX3_mostLoad_14 rfl rfl (by omega) (by decide) ((h20 a (by omega) hac).trans (bn_mn hac)) ?_
  refine ev_if_ge (t := 23) (x := m_mn (m_RM sp str tl n c rs rv row a) a (c - a)) dX3_mostLoad_15 (by decide) (fun c_15 => ?_) (fun c_15 => ?_)
  · refine ev_st dX3_mostLoad_23 rfl rfl ?_
    refine ev_getC dX3_mostLoad_24 fr_3_22 rfl rfl ?_
    refine ev_st dX3_mostLoad_27 rfl rfl ?_
    refine ev_getI (v := nI a) dX3_mostLoad_28 fr_3_48 rfl rfl ((congrFun (hs2.r 39 rfl) 1).trans ha) ?_
    refine ev_iald (j := a) (v := m_mn (m_RM sp str tl n c rs rv row a) a (c - a)) dX3_mostLoad_31 rfl rfl (by omega) (by decide) ((h20 a (by omega) hac).trans (bn_mn hac)) ?_
    exact ev_iret dX3_mostLoad_32 rfl (⟨by rw [if_neg c_15], _, rfl, hs2, h3⟩)
  · refine ev_bipush (v := -2) dX3_mostLoad_18 (by decide) ?_
    refine ev_goto (t := 32) dX3_mostLoad_20 (by decide) ?_
    exact ev_iret dX3_mostLoad_32 rfl (⟨by rw [if_pos c_15], _, rfl, hs2, h3⟩)
