/-! the model: hush, which -/
/-- what a call may leave changed in the model's memory: reader, other states, lines -/
def xM (I : Nat → Nat → Int32) (R : Nat → Nat → Value) (I2 : Nat → Nat → Int32) (R2 : Nat → Nat → Value) : Prop := (∀ p, p ≠ 0 → p ≠ 8 → p ≠ 11 → p ≠ 13 → p ≠ 14 → p ≠ 15 → p ≠ 16 → p ≠ 17 → p ≠ 20 → I2 p = I p) ∧ (∀ k, k ≠ 14 → k ≠ 15 → k ≠ 16 → k ≠ 17 → k ≠ 22 → k ≠ 35 → k ≠ 38 → I2 0 k = I 0 k) ∧ R2 0 19 = R 0 19
theorem xM.rf {I : Nat → Nat → Int32} {R : Nat → Nat → Value} : xM I R I R := ⟨fun _ _ _ _ _ _ _ _ _ _ => rfl, fun _ _ _ _ _ _ _ _ => rfl, rfl⟩
theorem xM.tr {I I2 I3 : Nat → Nat → Int32} {R R2 R3 : Nat → Nat → Value} (h : xM I R I2 R2) (g : xM I2 R2 I3 R3) : xM I R I3 R3 := ⟨fun p a b c d e f k l m => (g.1 p a b c d e f k l m).trans (h.1 p a b c d e f k l m), fun k a b c d e f l => (g.2.1 k a b c d e f l).trans (h.2.1 k a b c d e f l), g.2.2.trans h.2.2⟩
theorem sM.x {I I2 : Nat → Nat → Int32} {R R2 : Nat → Nat → Value} (h : sM I R I2 R2) : xM I R I2 R2 := ⟨fun p a _ c _ _ _ _ _ _ => h.1 p a c, fun k a b c d e _ _ => h.2.1 k a b c d e, h.2.2⟩
theorem xM.up {I : Nat → Nat → Int32} {R : Nat → Nat → Value} (q : Nat) (hq : (q == 8 || (q == 11 || (q == 13 || (q == 14 || (q == 15 || (q == 16 || (q == 17 || q == 20))))))) = true) (r : Nat → Int32) : xM I R (va_up I q r) R := by
  refine ⟨fun p h0 h8 h11 h13 h14 h15 h16 h17 h20 => va_up_n ?_, fun k _ _ _ _ _ _ _ => congrFun (va_up_n ?_) k, rfl⟩
  · intro e; subst e; simp [h8, h11, h13, h14, h15, h16, h17, h20] at hq
  · intro e; subst e; simp at hq
theorem xM.r {I I2 : Nat → Nat → Int32} {R R2 : Nat → Nat → Value} (h : xM I R I2 R2) (p : Nat) (hp : (p == 0 || (p == 8 || (p == 11 || (p == 13 || (p == 14 || (p == 15 || (p == 16 || (p == 17 || p == 20)))))))) = false) : I2 p = I p := by
  simp only [Bool.or_eq_false_iff, beq_eq_false_iff_ne] at hp
  obtain ⟨a, b, c, d, e, f, g, i, j⟩ := hp
  exact h.1 p a b c d e f g i j
theorem xM.f {I I2 : Nat → Nat → Int32} {R R2 : Nat → Nat → Value} (h : xM I R I2 R2) (k : Nat) (hk : (k == 14 || (k == 15 || (k == 16 || (k == 17 || (k == 22 || (k == 35 || k == 38)))))) = false) : I2 0 k = I 0 k := by
  simp only [Bool.or_eq_false_iff, beq_eq_false_iff_ne] at hk
  obtain ⟨a, b, c, d, e, f, g⟩ := hk
  exact h.2.1 k a b c d e f g
theorem xM.wr {I I2 : Nat → Nat → Int32} {R R2 : Nat → Nat → Value} (h : xM I R I2 R2) (p k : Nat) (v : Int32) : xM (ti_wr I p k v) R (ti_wr I2 p k v) R2 := by
  refine ⟨fun q h0 h8 h11 h13 h14 h15 h16 h17 h20 => ?_, fun j a1 a2 a3 a4 a5 a6 a7 => ?_, h.2.2⟩
  · have := h.1 q h0 h8 h11 h13 h14 h15 h16 h17 h20
    funext i
    simp only [ti_wr, va_up, upd, this]
    by_cases hq : q = p
    · subst hq; simp [this]
    · simp [hq]
  · have := h.2.1 j a1 a2 a3 a4 a5 a6 a7
    simp only [ti_wr, va_up, upd]
    by_cases hq : 0 = p
    · subst hq; by_cases hj : j = k <;> simp [upd, hj, this]
    · simp [hq, this]
theorem mA.x {I I2 : Nat → Nat → Int32} {R R2 : Nat → Nat → Value} {d n c rp rs : Nat} {rv : RV} (h : mA I R d n c rp rs rv) (hx : xM I R I2 R2) : mA I2 R2 d n c rp rs rv := by
  obtain ⟨h1, h2, h3, h4, h5, h6, h7⟩ := h
  refine ⟨(hx.f 3 rfl).trans h1, h2, (hx.f 1 rfl).trans h3, h4, (hx.f 21 rfl).trans h5, hx.2.2.trans h6, ?_⟩
  have : I2 rp = I rp := by rcases h7.1 with rfl | rfl <;> exact hx.r _ rfl
  rw [this]; exact h7
/-- what must be said, by a seventh -/
def m_HS (sp str tl sy : Nat → Int32) (n c ns rs : Nat) (rv : RV) (row : Nat → Int32) (a : Nat) (w : Int32) : Option (Nat × List (Nat × Nat)) := m_hs (fun z => m_gl sy (m_RM sp str tl n c rs rv row a) w a (row 27) ns (c - a) a (m_bt (fun s => row (16 + s)) ns) (row 25) z) 4 0
set_option maxHeartbeats 1000000 in
theorem c_hushOf {I I2 : Nat → Nat → Int32} {J : Nat → Nat → Int64} {R R2 : Nat → Nat → Value} {d n c a ns rp rs : Nat} {rv : RV} (hA : mA I R d n c rp rs rv) (ha : I 1 24 = nI a) (hac : a ≤ c) (hsp : sp9 (I 2) c) (hns : I 0 6 = nI ns) (hns8 : ns ≤ 8) (hx : xM I R I2 R2) (w : Int32) : Cal lyM (d + 97) hX12_hushOf 3 [.ref 0, .int w] (I2, J, R2) (fun r M' => r = some (.int (m_hn (m_HS (I 2) (I 3) (I 4) (I 5) n c ns rs rv (I 1) a w))) ∧ ∃ I3 R3, M' = (I3, J, R3) ∧ xM I R I3 R3 ∧ ∀ z L, m_HS (I 2) (I 3) (I 4) (I 5) n c ns rs rv (I 1) a w = some (z, L) → lnL (I3 17) 0 L) := by
  have ha2 : I2 1 24 = nI a := (congrFun (hx.r 1 rfl) 24).trans ha
  have hsp2 : sp9 (I2 2) c := by rw [hx.r 2 rfl]; exact hsp
  show Ev lyM (d + 97) hX12_hushOf 0 [some (.ref 0), some (.int w), none] [] (I2, J, R2) _
  refine ev_st dX12_hushOf_0 rfl rfl ?_
  refine ev_call dX12_hushOf_1 rfl rfl mr_12_320 rfl rfl rfl (Cal.mono (by omega) (c_layRoom (J := J) (hA.x hx) ha2 hac hsp2 sM.rf)) ?_
  rintro _ _ ⟨rfl, I3, R3, row2, g2, rfl, hg, hs3⟩
  show Ev lyM (d + 97) hX12_hushOf 4 [some (.ref 0), some (.int w), none] [] (I3, J, R3) _
  refine ev_iconst (v := 0) dX12_hushOf_4 (by decide) ?_
  refine ev_st (L' := [some (.ref 0), some (.int w), some (.int 0)]) dX12_hushOf_5 rfl rfl ?_
  have x3 : xM I2 R2 I3 R3 := ((xM.up 16 rfl g2).tr (xM.up 14 rfl row2)).tr hs3.x
  have x4 : xM I R I3 R3 := hx.tr x3
  have h16 : I3 16 = g2 := (hs3.r 16 rfl).trans rfl
  have K := c_hushOfL (I := I3) (J := J) (R := R3) (d := d + 81) ((x4.f 6 rfl).trans hns) hns8 ((x4.f 1 rfl).trans hA.2.2.1) hA.2.2.2.1 ((congrFun (x4.r 1 rfl) 24).trans ha) hac w 5 0 (I3 17) (by omega) (by omega)
  rw [va_up_id, x4.r 5 rfl, x4.r 1 rfl, h16] at K
  refine Ev.imp K ?_
  rintro r M1 ⟨rfl, rfl⟩
  obtain ⟨k1, k2⟩ := ho_ag (fun z ln => gh_ag (sy := I 5) (rm := g2) (w := w) (a := a) (spk := I 1 27) (ns := ns) (c - a) a (m_bt (fun s => I 1 (16 + s)) ns) (I 1 25) 0 z ln) 4 0 (I3 17)
  have e : m_hs (fun z => m_gl (I 5) g2 w a (I 1 27) ns (c - a) a (m_bt (fun s => I 1 (16 + s)) ns) (I 1 25) z) 4 0 = m_HS (I 2) (I 3) (I 4) (I 5) n c ns rs rv (I 1) a w := by
    rw [m_HS]; congr 1; funext z
    refine gl_ext _ _ _ _ _ (fun i h1 h2 => ?_)
    rw [hg i h1 (by omega), hx.r 1 rfl, hx.r 2 rfl, hx.r 3 rfl, hx.r 4 rfl]
  rw [e] at k1 k2
  exact ⟨by rw [← k1], _, _, rfl, x4.tr (xM.up 17 rfl _), fun z L hL => by rw [va_up_q]; exact k2 z L hL⟩
/-- the first k numbers of a row told -/
def wl7 (f : Nat → Int32) (J : Nat → Nat → Int64) : Nat → Nat → Nat → Int64
  | 0 => J
  | k + 1 => ti_wl (wl7 f J k) 7 k (f k).toInt64
theorem wl7_at {f : Nat → Int32} {J : Nat → Nat → Int64} : ∀ k i, i < k → wl7 f J k 7 i = (f i).toInt64
  | 0, i, h => by omega
  | k + 1, i, h => by
    by_cases hi : i = k
    · subst hi; simp [wl7, ti_wl, va_up, vp_updL]
    · have := wl7_at (f := f) (J := J) k i (by omega)
      simp [wl7, ti_wl, va_up, vp_updL, hi, this]
theorem hs_lt {g : Nat → Option (List (Nat × Nat))} : ∀ k z n L, m_hs g k z = some (n, L) → z ≤ n ∧ n < z + k ∧ g n = some L
  | 0, z, n, L, h => by cases h
  | k + 1, z, n, L, h => by
    simp only [m_hs] at h
    split at h
    · next L' hg => cases h; exact ⟨by omega, by omega, hg⟩
    · obtain ⟨h1, h2, h3⟩ := hs_lt k (z + 1) n L h; exact ⟨by omega, by omega, h3⟩
theorem HS_len {sp str tl sy : Nat → Int32} {n c ns rs : Nat} {rv : RV} {row : Nat → Int32} {a : Nat} {w : Int32} {z : Nat} {L : List (Nat × Nat)} (h : m_HS sp str tl sy n c ns rs rv row a w = some (z, L)) : z < 4 ∧ L.length = z := by
  obtain ⟨-, h2, h3⟩ := hs_lt _ _ _ _ h
  exact ⟨by omega, gl_len _ _ _ _ _ _ h3⟩
theorem hn_neg {q : Option (Nat × List (Nat × Nat))} {k : Nat} (hk : ∀ z L, q = some (z, L) → z < k) (hk2 : k < 2 ^ 31) : m_hn q < 0 ↔ q = none := by
  cases q with
  | none => simp [m_hn]
  | some x =>
    have := hk x.1 x.2 rfl
    simp only [m_hn, reduceCtorEq, iff_false]
    exact nI_pos (by omega)
theorem c_hush3 {I : Nat → Nat → Int32} {J : Nat → Nat → Int64} {R : Nat → Nat → Value} {d n : Nat} (hn : I 0 3 = nI n) (hn8 : n ≤ 8) (h0 : m_cy (I 1) n = 0) : Cal lyM (d + 98) hX12_hush 3 [.ref 0] (I, J, R) (fun r M' => r = some (.int (-3)) ∧ M' = (ti_wr I 0 12 0, J, R)) := by
  show Ev lyM (d + 98) hX12_hush 0 [some (.ref 0), none, none] [] (I, J, R) _
  refine ev_st dX12_hush_0 rfl rfl ?_
  refine ev_iconst (v := 0) dX12_hush_1 (by decide) ?_
  refine ev_putI dX12_hush_2 fr_12_89 rfl rfl ?_
  refine ev_st dX12_hush_5 rfl rfl ?_
  refine ev_st dX12_hush_6 rfl rfl ?_
  refine ev_getC dX12_hush_7 fr_12_9 rfl rfl ?_
  refine ev_call dX12_hush_10 rfl rfl mr_12_244 rfl rfl rfl (c_carry (I := ti_wr I 0 12 0) hn hn8) ?_
  rintro _ _ ⟨rfl, rfl⟩
  show Ev lyM (d + 98) hX12_hush 13 [some (.ref 0), none, none] [.int (m_cy (I 1) n)] (ti_wr I 0 12 0, J, R) _
  refine ev_if_ne (t := 19) (x := m_cy (I 1) n) dX12_hush_13 (by decide) (fun c_13 => ?_) (fun c_13 => ?_)
  · exact absurd h0 c_13
  · refine ev_bipush (v := -3) dX12_hush_16 (by decide) ?_
    exact ev_iret dX12_hush_18 rfl (⟨rfl, rfl⟩)
theorem c_hush2 {I : Nat → Nat → Int32} {J : Nat → Nat → Int64} {R : Nat → Nat → Value} {d n c a ns rp rs : Nat} {rv : RV} (hA : mA I R d n c rp rs rv) (ha : I 1 24 = nI a) (hac : a ≤ c) (hsp : sp9 (I 2) c) (hns : I 0 6 = nI ns) (hns8 : ns ≤ 8) (h0 : ¬ m_cy (I 1) n = 0) (hq : m_HS (I 2) (I 3) (I 4) (I 5) n c ns rs rv (I 1) a (I 1 26) = none) : Cal lyM (d + 98) hX12_hush 3 [.ref 0] (I, J, R) (fun r M' => r = some (.int (-2)) ∧ ∃ I3 R3, M' = (I3, J, R3) ∧ xM (ti_wr I 0 12 0) R I3 R3) := by
  have hn := hA.1
  have hn8 := hA.2.1
  show Ev lyM (d + 98) hX12_hush 0 [some (.ref 0), none, none] [] (I, J, R) _
  refine ev_st dX12_hush_0 rfl rfl ?_
  refine ev_iconst (v := 0) dX12_hush_1 (by decide) ?_
  refine ev_putI dX12_hush_2 fr_12_89 rfl rfl ?_
  refine ev_st dX12_hush_5 rfl rfl ?_
  refine ev_st dX12_hush_6 rfl rfl ?_
  refine ev_getC dX12_hush_7 fr_12_9 rfl rfl ?_
  refine ev_call dX12_hush_10 rfl rfl mr_12_244 rfl rfl rfl (c_carry (I := ti_wr I 0 12 0) hn hn8) ?_
  rintro _ _ ⟨rfl, rfl⟩
  show Ev lyM (d + 98) hX12_hush 13 [some (.ref 0), none, none] [.int (m_cy (I 1) n)] (ti_wr I 0 12 0, J, R) _
  refine ev_if_ne (t := 19) (x := m_cy (I 1) n) dX12_hush_13 (by decide) (fun c_13 => ?_) (fun c_13 => ?_)
  · refine ev_st dX12_hush_19 rfl rfl ?_
    refine ev_st dX12_hush_20 rfl rfl ?_
    refine ev_getC dX12_hush_21 fr_12_9 rfl rfl ?_
    refine ev_bipush (v := 26) dX12_hush_24 (by decide) ?_
    refine ev_iald (j := 26) (v := I 1 26) dX12_hush_26 rfl rfl (by decide) (by decide) rfl ?_
    refine ev_call dX12_hush_27 rfl rfl mr_12_326 rfl rfl rfl (Cal.mono (by omega) (c_hushOf (J := J) (I := ti_wr I 0 12 0) hA.w ha hac hsp hns hns8 xM.rf (I 1 26))) ?_
    rintro _ _ ⟨rfl, I3, R3, rfl, hs3, hl3⟩
    show Ev lyM (d + 98) hX12_hush 30 [some (.ref 0), none, none] [.int (m_hn (m_HS (I 2) (I 3) (I 4) (I 5) n c ns rs rv (I 1) a (I 1 26)))] (I3, J, R3) _
    refine ev_st (L' := [some (.ref 0), some (.int (m_hn (m_HS (I 2) (I 3) (I 4) (I 5) n c ns rs rv (I 1) a (I 1 26)))), none]) dX12_hush_30 rfl rfl ?_
    refine ev_st dX12_hush_31 rfl rfl ?_
    refine ev_if_ge (t := 38) (x := m_hn (m_HS (I 2) (I 3) (I 4) (I 5) n c ns rs rv (I 1) a (I 1 26))) dX12_hush_32 (by decide) (fun c_32 => ?_) (fun c_32 => ?_)
    · exact absurd (by rw [hq]; decide) c_32
    · refine ev_bipush (v := -2) dX12_hush_35 (by decide) ?_
      exact ev_iret dX12_hush_37 rfl (⟨rfl, _, _, rfl, hs3⟩)
  · exact absurd c_13 h0
set_option maxHeartbeats 1000000 in
theorem c_hush {I : Nat → Nat → Int32} {J : Nat → Nat → Int64} {R : Nat → Nat → Value} {d n c a ns rp rs : Nat} {rv : RV} (hA : mA I R d n c rp rs rv) (ha : I 1 24 = nI a) (hac : a ≤ c) (hsp : sp9 (I 2) c) (hns : I 0 6 = nI ns) (hns8 : ns ≤ 8) (h0 : ¬ m_cy (I 1) n = 0) {z : Nat} {L : List (Nat × Nat)} (hq : m_HS (I 2) (I 3) (I 4) (I 5) n c ns rs rv (I 1) a (I 1 26) = some (z, L)) : Cal lyM (d + 98) hX12_hush 3 [.ref 0] (I, J, R) (fun r M' => r = some (.int (nI z)) ∧ ∃ I3 R3 J3, M' = (I3, J3, R3) ∧ xM (ti_wr (ti_wr I 0 12 0) 0 11 (nI (2 * z))) R I3 R3 ∧ ∀ i x, L[i]? = some x → J3 7 (2 * i) = (nI x.1).toInt64 ∧ J3 7 (2 * i + 1) = (nI x.2).toInt64) := by
  have hn := hA.1
  have hn8 := hA.2.1
  show Ev lyM (d + 98) hX12_hush 0 [some (.ref 0), none, none] [] (I, J, R) _
  refine ev_st dX12_hush_0 rfl rfl ?_
  refine ev_iconst (v := 0) dX12_hush_1 (by decide) ?_
  refine ev_putI dX12_hush_2 fr_12_89 rfl rfl ?_
  refine ev_st dX12_hush_5 rfl rfl ?_
  refine ev_st dX12_hush_6 rfl rfl ?_
  refine ev_getC dX12_hush_7 fr_12_9 rfl rfl ?_
  refine ev_call dX12_hush_10 rfl rfl mr_12_244 rfl rfl rfl (c_carry (I := ti_wr I 0 12 0) hn hn8) ?_
  rintro _ _ ⟨rfl, rfl⟩
  show Ev lyM (d + 98) hX12_hush 13 [some (.ref 0), none, none] [.int (m_cy (I 1) n)] (ti_wr I 0 12 0, J, R) _
  refine ev_if_ne (t := 19) (x := m_cy (I 1) n) dX12_hush_13 (by decide) (fun c_13 => ?_) (fun c_13 => ?_)
  · refine ev_st dX12_hush_19 rfl rfl ?_
    refine ev_st dX12_hush_20 rfl rfl ?_
    refine ev_getC dX12_hush_21 fr_12_9 rfl rfl ?_
    refine ev_bipush (v := 26) dX12_hush_24 (by decide) ?_
    refine ev_iald (j := 26) (v := I 1 26) dX12_hush_26 rfl rfl (by decide) (by decide) rfl ?_
    refine ev_call dX12_hush_27 rfl rfl mr_12_326 rfl rfl rfl (Cal.mono (by omega) (c_hushOf (J := J) (I := ti_wr I 0 12 0) hA.w ha hac hsp hns hns8 xM.rf (I 1 26))) ?_
    rintro _ _ ⟨rfl, I3, R3, rfl, hs3, hl3⟩
    show Ev lyM (d + 98) hX12_hush 30 [some (.ref 0), none, none] [.int (m_hn (m_HS (I 2) (I 3) (I 4) (I 5) n c ns rs rv (I 1) a (I 1 26)))] (I3, J, R3) _
    refine ev_st (L' := [some (.ref 0), some (.int (m_hn (m_HS (I 2) (I 3) (I 4) (I 5) n c ns rs rv (I 1) a (I 1 26)))), none]) dX12_hush_30 rfl rfl ?_
    refine ev_st dX12_hush_31 rfl rfl ?_
    refine ev_if_ge (t := 38) (x := m_hn (m_HS (I 2) (I 3) (I 4) (I 5) n c ns rs rv (I 1) a (I 1 26))) dX12_hush_32 (by decide) (fun c_32 => ?_) (fun c_32 => ?_)
    · refine ev_st dX12_hush_38 rfl rfl ?_
      refine ev_iconst (v := 0) dX12_hush_39 (by decide) ?_
      refine ev_putI dX12_hush_40 fr_12_92 rfl rfl ?_
      refine ev_iconst (v := 0) dX12_hush_43 (by decide) ?_
      refine ev_st (L' := [some (.ref 0), some (.int (m_hn (m_HS (I 2) (I 3) (I 4) (I 5) n c ns rs rv (I 1) a (I 1 26)))), some (.int 0)]) dX12_hush_44 rfl rfl ?_
      have e0 : m_hn (m_HS (I 2) (I 3) (I 4) (I 5) n c ns rs rv (I 1) a (I 1 26)) = nI z := by rw [hq]; rfl
      obtain ⟨hz4, hlen⟩ := HS_len hq
      rw [e0]
      have loop : ∀ (k i : Nat), i ≤ 2 * z → 2 * z - i < k → Ev lyM (d + 98) hX12_hush 45 [some (.ref 0), some (.int (nI z)), some (.int (nI i))] [] (ti_wr I3 0 11 (nI i), wl7 (I3 17) J i, R3) (fun r M' => r = some (.int (nI z)) ∧ ∃ I3 R3 J3, M' = (I3, J3, R3) ∧ xM (ti_wr (ti_wr I 0 12 0) 0 11 (nI (2 * z))) R I3 R3 ∧ ∀ i x, L[i]? = some x → J3 7 (2 * i) = (nI x.1).toInt64 ∧ J3 7 (2 * i + 1) = (nI x.2).toInt64) := by
          intro k
          induction k with
          | zero => intro i h1 h2; omega
          | succ k ih =>
            intro i hi hk
            refine ev_st dX12_hush_45 rfl rfl ?_
            refine ev_iconst (v := 2) dX12_hush_46 (by decide) ?_
            refine ev_st dX12_hush_47 rfl rfl ?_
            refine ev_imulN (a := 2) (b := z) (c := 2 * z) dX12_hush_48 rfl rfl rfl ?_
            refine ev_ic_geN (t := 69) (a := i) (b := 2 * z) dX12_hush_49 (by decide) rfl rfl (by omega) (by omega) (fun c_49 => ?_) (fun c_49 => ?_)
            · refine ev_st dX12_hush_69 rfl rfl ?_
              exact ev_iret dX12_hush_70 rfl (⟨rfl, _, _, _, rfl, by rw [show i = 2 * z by omega]; exact hs3.wr 0 11 (nI (2 * z)), fun k x hx => by
                have hk := (List.getElem?_eq_some_iff.mp hx).1
                obtain ⟨e1, e2⟩ := hl3 z L hq k x hx
                rw [Nat.zero_add] at e1 e2
                exact ⟨by rw [wl7_at _ _ (by omega), e1], by rw [wl7_at _ _ (by omega), e2]⟩⟩)
            · refine ev_st dX12_hush_52 rfl rfl ?_
              refine ev_st dX12_hush_53 rfl rfl ?_
              refine ev_getC dX12_hush_54 fr_12_64 rfl rfl ?_
              refine ev_st dX12_hush_57 rfl rfl ?_
              refine ev_iald (j := i) (v := I3 17 i) dX12_hush_58 rfl rfl (by omega) (by decide) rfl ?_
              refine ev_st dX12_hush_59 rfl rfl ?_
              refine ev_call dX12_hush_60 rfl rfl mr_12_253 rfl rfl rfl (c_tell (m := i) rfl (by omega) (I3 17 i).toInt64) ?_
              rw [ti_wr2]
              rintro _ _ ⟨rfl, rfl⟩
              show Ev lyM (d + 98) hX12_hush 63 [some (.ref 0), some (.int (nI z)), some (.int (nI i))] [] (ti_wr I3 0 11 (nI (i + 1)), wl7 (I3 17) J (i + 1), R3) _
              refine ev_iincN (a := i) (b := i + 1) (L' := [some (.ref 0), some (.int (nI z)), some (.int (nI (i + 1)))]) dX12_hush_63 rfl (nI_1 _) rfl ?_
              refine ev_goto (t := 45) dX12_hush_66 (by decide) ?_
              exact ih _ (by omega) (by omega)
      exact loop (2 * z + 1) 0 (by omega) (by omega)
    · exact absurd c_32 (by rw [hq]; exact nI_pos (by have := (HS_len hq).1; omega))
  · exact absurd c_13 h0
def m_wh (h : Nat → Int32) : Nat → Int32 × Int32
  | 0 => (-2, 1000000)
  | w + 1 => if h w < 0 then m_wh h w else if h w < (m_wh h w).2 then (nI w, h w) else m_wh h w
theorem xM.q {I I2 : Nat → Nat → Int32} {R R2 : Nat → Nat → Value} (h : xM I R I2 R2) : R2 0 19 = R 0 19 := h.2.2
theorem c_which3 {I : Nat → Nat → Int32} {J : Nat → Nat → Int64} {R : Nat → Nat → Value} {d n : Nat} (hn : I 0 3 = nI n) (hn8 : n ≤ 8) (h0 : m_cy (I 1) n = 0) : Cal lyM (d + 98) hX12_which 5 [.ref 0] (I, J, R) (fun r M' => r = some (.int (-3)) ∧ M' = (ti_wr I 0 12 0, J, R)) := by
  show Ev lyM (d + 98) hX12_which 0 [some (.ref 0), none, none, none, none] [] (I, J, R) _
  refine ev_st dX12_which_0 rfl rfl ?_
  refine ev_iconst (v := 0) dX12_which_1 (by decide) ?_
  refine ev_putI dX12_which_2 fr_12_89 rfl rfl ?_
  refine ev_st dX12_which_5 rfl rfl ?_
  refine ev_st dX12_which_6 rfl rfl ?_
  refine ev_getC dX12_which_7 fr_12_9 rfl rfl ?_
  refine ev_call dX12_which_10 rfl rfl mr_12_244 rfl rfl rfl (c_carry (I := ti_wr I 0 12 0) hn hn8) ?_
  rintro _ _ ⟨rfl, rfl⟩
  show Ev lyM (d + 98) hX12_which 13 [some (.ref 0), none, none, none, none] [.int (m_cy (I 1) n)] (ti_wr I 0 12 0, J, R) _
  refine ev_if_ne (t := 19) (x := m_cy (I 1) n) dX12_which_13 (by decide) (fun c_13 => ?_) (fun c_13 => ?_)
  · exact absurd h0 c_13
  · refine ev_bipush (v := -3) dX12_which_16 (by decide) ?_
    exact ev_iret dX12_which_18 rfl (⟨rfl, rfl⟩)
theorem mA.w2 {I : Nat → Nat → Int32} {R : Nat → Nat → Value} {d n c rp rs : Nat} {rv : RV} (h : mA I R d n c rp rs rv) (v : Int32) : mA (ti_wr (ti_wr I 0 12 0) 0 11 v) R d n c rp rs rv := by
  obtain ⟨h1, h2, h3, h4, h5, h6, h7⟩ := h
  refine ⟨h1, h2, h3, h4, h5, h6, ?_⟩
  have : ti_wr (ti_wr I 0 12 0) 0 11 v rp = I rp := by rcases h7.1 with rfl | rfl <;> rfl
  rw [this]; exact h7
set_option maxHeartbeats 1000000 in
theorem c_whichT {I : Nat → Nat → Int32} {J : Nat → Nat → Int64} {R : Nat → Nat → Value} {d n c a ns rp rs : Nat} {rv : RV} (hA : mA I R d n c rp rs rv) (ha : I 1 24 = nI a) (hac : a ≤ c) (hsp : sp9 (I 2) c) (hns : I 0 6 = nI ns) (hns8 : ns ≤ 8) (m l : Int32) (z : Option Value) : ∀ (k b : Nat) (I2 : Nat → Nat → Int32) (R2 : Nat → Nat → Value), b ≤ 4 → 4 - b < k → xM (ti_wr (ti_wr I 0 12 0) 0 11 (nI b)) R I2 R2 → Ev lyM (d + 98) hX12_which 81 [some (.ref 0), some (.int m), some (.int l), some (.int (nI b)), z] [] (I2, wl7 (fun w => m_hn (m_HS (I 2) (I 3) (I 4) (I 5) n c ns rs rv (I 1) a (nI w))) J b, R2) (fun r M' => r = some (.int m) ∧ ∃ I3 R3, M' = (I3, wl7 (fun w => m_hn (m_HS (I 2) (I 3) (I 4) (I 5) n c ns rs rv (I 1) a (nI w))) J 4, R3) ∧ xM (ti_wr (ti_wr I 0 12 0) 0 11 (nI 4)) R I3 R3) := by
  intro k
  induction k with
  | zero => intro b I2 R2 h1 h2; omega
  | succ k ih =>
      intro b I2 R2 hb hk hs2
      refine ev_st dX12_which_81 rfl rfl ?_
      refine ev_iconst (v := 4) dX12_which_82 (by decide) ?_
      refine ev_ic_geN (t := 102) (a := b) (b := 4) dX12_which_83 (by decide) rfl rfl (by omega) (by omega) (fun c_83 => ?_) (fun c_83 => ?_)
      · refine ev_st dX12_which_102 rfl rfl ?_
        exact ev_iret dX12_which_103 rfl (⟨rfl, _, _, by rw [show b = 4 by omega], by rw [show b = 4 by omega] at hs2; exact hs2⟩)
      · refine ev_st dX12_which_86 rfl rfl ?_
        refine ev_st dX12_which_87 rfl rfl ?_
        refine ev_st dX12_which_88 rfl rfl ?_
        refine ev_call dX12_which_89 rfl rfl mr_12_326 rfl rfl rfl (Cal.mono (by omega) (c_hushOf (I := ti_wr (ti_wr I 0 12 0) 0 11 (nI b)) (J := wl7 (fun w => m_hn (m_HS (I 2) (I 3) (I 4) (I 5) n c ns rs rv (I 1) a (nI w))) J b) (hA.w2 _) ha hac hsp hns hns8 hs2 (nI b))) ?_
        rintro _ _ ⟨rfl, I3, R3, rfl, hs3, hl3⟩
        show Ev lyM (d + 98) hX12_which 92 [some (.ref 0), some (.int m), some (.int l), some (.int (nI b)), z] [.int (m_hn (m_HS (I 2) (I 3) (I 4) (I 5) n c ns rs rv (I 1) a (nI b))), .ref 0] (I3, wl7 (fun w => m_hn (m_HS (I 2) (I 3) (I 4) (I 5) n c ns rs rv (I 1) a (nI w))) J b, R3) _
        refine ev_st dX12_which_92 rfl rfl ?_
        refine ev_call dX12_which_93 rfl rfl mr_12_253 rfl rfl rfl (c_tell (m := b) (hs3.f 11 rfl) (by omega) ((m_hn (m_HS (I 2) (I 3) (I 4) (I 5) n c ns rs rv (I 1) a (nI b))).toInt64)) ?_
        rintro _ _ ⟨rfl, rfl⟩
        show Ev lyM (d + 98) hX12_which 96 [some (.ref 0), some (.int m), some (.int l), some (.int (nI b)), z] [] (ti_wr I3 0 11 (nI (b + 1)), wl7 (fun w => m_hn (m_HS (I 2) (I 3) (I 4) (I 5) n c ns rs rv (I 1) a (nI w))) J (b + 1), R3) _
        refine ev_iincN (a := b) (b := b + 1) (L' := [some (.ref 0), some (.int m), some (.int l), some (.int (nI (b + 1))), z]) dX12_which_96 rfl (nI_1 _) rfl ?_
        refine ev_goto (t := 81) dX12_which_99 (by decide) ?_
        exact ih _ _ _ (by omega) (by omega) (by have K := hs3.wr 0 11 (nI (b + 1)); rwa [ti_wr2] at K)
set_option maxHeartbeats 1000000 in
theorem c_which {I : Nat → Nat → Int32} {J : Nat → Nat → Int64} {R : Nat → Nat → Value} {d n c a ns rp rs : Nat} {rv : RV} (hA : mA I R d n c rp rs rv) (ha : I 1 24 = nI a) (hac : a ≤ c) (hsp : sp9 (I 2) c) (hns : I 0 6 = nI ns) (hns8 : ns ≤ 8) (h0 : ¬ m_cy (I 1) n = 0) : Cal lyM (d + 98) hX12_which 5 [.ref 0] (I, J, R) (fun r M' => if (m_wh (fun w => m_hn (m_HS (I 2) (I 3) (I 4) (I 5) n c ns rs rv (I 1) a (nI w))) 4).1 = -2 then r = some (.int (-2)) ∧ ∃ I3 R3, M' = (I3, J, R3) ∧ xM (ti_wr I 0 12 0) R I3 R3 else r = some (.int (m_wh (fun w => m_hn (m_HS (I 2) (I 3) (I 4) (I 5) n c ns rs rv (I 1) a (nI w))) 4).1) ∧ ∃ I3 R3, M' = (I3, wl7 (fun w => m_hn (m_HS (I 2) (I 3) (I 4) (I 5) n c ns rs rv (I 1) a (nI w))) J 4, R3) ∧ xM (ti_wr (ti_wr I 0 12 0) 0 11 (nI 4)) R I3 R3) := by
  have hn := hA.1
  have hn8 := hA.2.1
  have loop : ∀ (k b : Nat) (m l : Int32) (z : Option Value) (I2 : Nat → Nat → Int32) (R2 : Nat → Nat → Value), b ≤ 4 → 4 - b < k → (m, l) = m_wh (fun w => m_hn (m_HS (I 2) (I 3) (I 4) (I 5) n c ns rs rv (I 1) a (nI w))) b → xM (ti_wr I 0 12 0) R I2 R2 → Ev lyM (d + 98) hX12_which 28 [some (.ref 0), some (.int m), some (.int l), some (.int (nI b)), z] [] (I2, J, R2) (fun r M' => if (m_wh (fun w => m_hn (m_HS (I 2) (I 3) (I 4) (I 5) n c ns rs rv (I 1) a (nI w))) 4).1 = -2 then r = some (.int (-2)) ∧ ∃ I3 R3, M' = (I3, J, R3) ∧ xM (ti_wr I 0 12 0) R I3 R3 else r = some (.int (m_wh (fun w => m_hn (m_HS (I 2) (I 3) (I 4) (I 5) n c ns rs rv (I 1) a (nI w))) 4).1) ∧ ∃ I3 R3, M' = (I3, wl7 (fun w => m_hn (m_HS (I 2) (I 3) (I 4) (I 5) n c ns rs rv (I 1) a (nI w))) J 4, R3) ∧ xM (ti_wr (ti_wr I 0 12 0) 0 11 (nI 4)) R I3 R3) := by
    intro k
    induction k with
    | zero => intro b m l z I2 R2 h1 h2; omega
    | succ k ih =>
      intro b m l z I2 R2 hb hk ht hs2
      refine ev_st dX12_which_28 rfl rfl ?_
      refine ev_iconst (v := 4) dX12_which_29 (by decide) ?_
      refine ev_ic_geN (t := 65) (a := b) (b := 4) dX12_which_30 (by decide) rfl rfl (by omega) (by omega) (fun c_30 => ?_) (fun c_30 => ?_)
      · refine ev_st dX12_which_65 rfl rfl ?_
        refine ev_bipush (v := -2) dX12_which_66 (by decide) ?_
        refine ev_ic_ne (t := 74) (x := m) (y := (-2)) dX12_which_68 (by decide) (fun c_68 => ?_) (fun c_68 => ?_)
        · refine ev_st dX12_which_74 rfl rfl ?_
          refine ev_iconst (v := 0) dX12_which_75 (by decide) ?_
          refine ev_putI dX12_which_76 fr_12_92 rfl rfl ?_
          refine ev_iconst (v := 0) dX12_which_79 (by decide) ?_
          refine ev_st (L' := [some (.ref 0), some (.int m), some (.int l), some (.int 0), z]) dX12_which_80 rfl rfl ?_
          rw [show b = 4 by omega] at ht
          simp only [← ht, if_neg c_68]
          exact c_whichT hA ha hac hsp hns hns8 m l _ 5 0 _ _ (by omega) (by omega) (hs2.wr 0 11 0)
        · refine ev_bipush (v := -2) dX12_which_71 (by decide) ?_
          exact ev_iret dX12_which_73 rfl (by rw [show b = 4 by omega] at ht; rw [← ht, if_pos c_68]; exact ⟨rfl, _, _, rfl, hs2⟩)
      · refine ev_st dX12_which_33 rfl rfl ?_
        refine ev_st dX12_which_34 rfl rfl ?_
        refine ev_call dX12_which_35 rfl rfl mr_12_326 rfl rfl rfl (Cal.mono (by omega) (c_hushOf (I := ti_wr I 0 12 0) (J := J) hA.w ha hac hsp hns hns8 hs2 (nI b))) ?_
        rintro _ _ ⟨rfl, I3, R3, rfl, hs3, hl3⟩
        show Ev lyM (d + 98) hX12_which 38 [some (.ref 0), some (.int m), some (.int l), some (.int (nI b)), z] [.int (m_hn (m_HS (I 2) (I 3) (I 4) (I 5) n c ns rs rv (I 1) a (nI b)))] (I3, J, R3) _
        refine ev_st (L' := [some (.ref 0), some (.int m), some (.int l), some (.int (nI b)), some (.int (m_hn (m_HS (I 2) (I 3) (I 4) (I 5) n c ns rs rv (I 1) a (nI b))))]) dX12_which_38 rfl rfl ?_
        refine ev_st dX12_which_40 rfl rfl ?_
        refine ev_if_lt (t := 59) (x := m_hn (m_HS (I 2) (I 3) (I 4) (I 5) n c ns rs rv (I 1) a (nI b))) dX12_which_42 (by decide) (fun c_42 => ?_) (fun c_42 => ?_)
        · refine ev_iincN (a := b) (b := b + 1) (L' := [some (.ref 0), some (.int m), some (.int l), some (.int (nI (b + 1))), some (.int (m_hn (m_HS (I 2) (I 3) (I 4) (I 5) n c ns rs rv (I 1) a (nI b))))]) dX12_which_59 rfl (nI_1 _) rfl ?_
          refine ev_goto (t := 28) dX12_which_62 (by decide) ?_
          exact ih _ _ _ _ _ _ (by omega) (by omega) (by simp only [m_wh, ← ht, if_pos c_42]) hs3
        · refine ev_st dX12_which_45 rfl rfl ?_
          refine ev_st dX12_which_47 rfl rfl ?_
          refine ev_ic_lt (t := 54) (x := m_hn (m_HS (I 2) (I 3) (I 4) (I 5) n c ns rs rv (I 1) a (nI b))) (y := l) dX12_which_48 (by decide) (fun c_48 => ?_) (fun c_48 => ?_)
          · refine ev_st dX12_which_54 rfl rfl ?_
            refine ev_st (L' := [some (.ref 0), some (.int (nI b)), some (.int l), some (.int (nI b)), some (.int (m_hn (m_HS (I 2) (I 3) (I 4) (I 5) n c ns rs rv (I 1) a (nI b))))]) dX12_which_55 rfl rfl ?_
            refine ev_st dX12_which_56 rfl rfl ?_
            refine ev_st (L' := [some (.ref 0), some (.int (nI b)), some (.int (m_hn (m_HS (I 2) (I 3) (I 4) (I 5) n c ns rs rv (I 1) a (nI b)))), some (.int (nI b)), some (.int (m_hn (m_HS (I 2) (I 3) (I 4) (I 5) n c ns rs rv (I 1) a (nI b))))]) dX12_which_58 rfl rfl ?_
            refine ev_iincN (a := b) (b := b + 1) (L' := [some (.ref 0), some (.int (nI b)), some (.int (m_hn (m_HS (I 2) (I 3) (I 4) (I 5) n c ns rs rv (I 1) a (nI b)))), some (.int (nI (b + 1))), some (.int (m_hn (m_HS (I 2) (I 3) (I 4) (I 5) n c ns rs rv (I 1) a (nI b))))]) dX12_which_59 rfl (nI_1 _) rfl ?_
            refine ev_goto (t := 28) dX12_which_62 (by decide) ?_
            exact ih _ _ _ _ _ _ (by omega) (by omega) (by simp only [m_wh, ← ht, if_neg c_42, if_pos c_48]) hs3
          · refine ev_goto (t := 59) dX12_which_51 (by decide) ?_
            refine ev_iincN (a := b) (b := b + 1) (L' := [some (.ref 0), some (.int m), some (.int l), some (.int (nI (b + 1))), some (.int (m_hn (m_HS (I 2) (I 3) (I 4) (I 5) n c ns rs rv (I 1) a (nI b))))]) dX12_which_59 rfl (nI_1 _) rfl ?_
            refine ev_goto (t := 28) dX12_which_62 (by decide) ?_
            exact ih _ _ _ _ _ _ (by omega) (by omega) (by simp only [m_wh, ← ht, if_neg c_42, if_neg c_48]) hs3
  show Ev lyM (d + 98) hX12_which 0 [some (.ref 0), none, none, none, none] [] (I, J, R) _
  refine ev_st dX12_which_0 rfl rfl ?_
  refine ev_iconst (v := 0) dX12_which_1 (by decide) ?_
  refine ev_putI dX12_which_2 fr_12_89 rfl rfl ?_
  refine ev_st dX12_which_5 rfl rfl ?_
  refine ev_st dX12_which_6 rfl rfl ?_
  refine ev_getC dX12_which_7 fr_12_9 rfl rfl ?_
  refine ev_call dX12_which_10 rfl rfl mr_12_244 rfl rfl rfl (c_carry (I := ti_wr I 0 12 0) hn hn8) ?_
  rintro _ _ ⟨rfl, rfl⟩
  show Ev lyM (d + 98) hX12_which 13 [some (.ref 0), none, none, none, none] [.int (m_cy (I 1) n)] (ti_wr I 0 12 0, J, R) _
  refine ev_if_ne (t := 19) (x := m_cy (I 1) n) dX12_which_13 (by decide) (fun c_13 => ?_) (fun c_13 => ?_)
  · refine ev_bipush (v := -2) dX12_which_19 (by decide) ?_
    refine ev_st (L' := [some (.ref 0), some (.int ((-2))), none, none, none]) dX12_which_21 rfl rfl ?_
    refine ev_ldcw (v := 1000000) dX12_which_22 rfl ?_
    refine ev_st (L' := [some (.ref 0), some (.int ((-2))), some (.int 1000000), none, none]) dX12_which_25 rfl rfl ?_
    refine ev_iconst (v := 0) dX12_which_26 (by decide) ?_
    refine ev_st (L' := [some (.ref 0), some (.int ((-2))), some (.int 1000000), some (.int 0), none]) dX12_which_27 rfl rfl ?_
    exact loop 5 0 (-2) 1000000 _ _ _ (by omega) (by omega) rfl xM.rf
  · exact absurd c_13 h0
