/-! the model: hush, which -/
/-- what a call may leave changed in the model's memory: reader, other states, lines -/
def xM (I : Nat → Nat → Int32) (R : Nat → Nat → Value) (I2 : Nat → Nat → Int32) (R2 : Nat → Nat → Value) : Prop := (∀ p, p ≠ 0 → p ≠ 8 → p ≠ 11 → p ≠ 13 → p ≠ 14 → p ≠ 15 → p ≠ 16 → p ≠ 17 → p ≠ 20 → I2 p = I p) ∧ (∀ k, k ≠ 14 → k ≠ 15 → k ≠ 16 → k ≠ 17 → k ≠ 22 → k ≠ 35 → k ≠ 38 → I2 0 k = I 0 k) ∧ R2 0 19 = R 0 19
theorem xM.rf {I : Nat → Nat → Int32} {R : Nat → Nat → Value} : xM I R I R := ⟨fun _ _ _ _ _ _ _ _ _ _ => rfl, fun _ _ _ _ _ _ _ _ => rfl, rfl⟩
theorem xM.tr {I I2 I3 : Nat → Nat → Int32} {R R2 R3 : Nat → Nat → Value} (h : xM I R I2 R2) (g : xM I2 R2 I3 R3) : xM I R I3 R3 := ⟨fun p a b c d e f k l m => (g.1 p a b c d e f k l m).trans (h.1 p a b c d e f k l m), fun k a b c d e f l => (g.2.1 k a b c d e f l).trans (h.2.1 k a b c d e f l), g.2.2.trans h.2.2⟩
theorem sM.x {I I2 : Nat → Nat → Int32} {R R2 : Nat → Nat → Value} (h : sM I R I2 R2) : xM I R I2 R2 := ⟨fun p a _ c _ _ _ _ _ _ => h.1 p a c, fun k a b c d e _ _ => h.2.1 k a b c d e, h.2.2⟩
theorem xM.up {I : Nat → Nat → Int32} {R : Nat → Nat → Value} (q : Nat) (hq : (q == 8 || (q == 11 || (q == 13 || (q == 14 || (q == 15 || (q == 16 || (q == 17 || q == 20))))))) = true) (r : Nat → Int32) : xM I R (va_up I q r) R := by
  refine ⟨fun p h0 h8 h11 h13 h14 h15 h16 h17 h20 => va_up_n ?_, fun k _ _ _ _ _ _ _ => congrFun (va_up_n ?_) k, rfl⟩
  · intro e; subst e; simp [h8, h11, h13, h14, h15, h16, h17, h20] at hq
  · intro e; subst e; simp at hq
theorem xM.r {I I2 : Nat → Nat → Int32} {R R2 : Nat → Nat → Value} (h : xM I R I2 R2) (p : Nat) (hp : (p == 0 || (p == 8 || (p == 11 || (p == 13 || (p == 14 || (p == 15 || (p == 16 || (p == 17 || p == 20)))))))) = false) : I2 p = I p := by
  simp only [Bool.or_eq_false_iff, beq_eq_false_iff_ne] at hp
  obtain ⟨a, b, c, d, e, f, g, i, j⟩ := hp
  exact h.1 p a b c d e f g i j
theorem xM.f {I I2 : Nat → Nat → Int32} {R R2 : Nat → Nat → Value} (h : xM I R I2 R2) (k : Nat) (hk : (k == 14 || (k == 15 || (k == 16 || (k == 17 || (k == 22 || (k == 35 || k == 38)))))) = false) : I2 0 k = I 0 k := by
  simp only [Bool.or_eq_false_iff, beq_eq_false_iff_ne] at hk
  obtain ⟨a, b, c, d, e, f, g⟩ := hk
  exact h.2.1 k a b c d e f g
theorem xM.wr {I I2 : Nat → Nat → Int32} {R R2 : Nat → Nat → Value} (h : xM I R I2 R2) (p k : Nat) (v : Int32) : xM (ti_wr I p k v) R (ti_wr I2 p k v) R2 := by
  refine ⟨fun q h0 h8 h11 h13 h14 h15 h16 h17 h20 => ?_, fun j a1 a2 a3 a4 a5 a6 a7 => ?_, h.2.2⟩
  · have := h.1 q h0 h8 h11 h13 h14 h15 h16 h17 h20
    funext i
    simp only [ti_wr, va_up, upd, this]
    by_cases hq : q = p
    · subst hq; simp [this]
    · simp [hq]
  · have := h.2.1 j a1 a2 a3 a4 a5 a6 a7
    simp only [ti_wr, va_up, upd]
    by_cases hq : 0 = p
    · subst hq; by_cases hj : j = k <;> simp [upd, hj, this]
    · simp [hq, this]
theorem mA.x {I I2 : Nat → Nat → Int32} {R R2 : Nat → Nat → Value} {d n c rp rs : Nat} {rv : RV} (h : mA I R d n c rp rs rv) (hx : xM I R I2 R2) : mA I2 R2 d n c rp rs rv := by
  obtain ⟨h1, h2, h3, h4, h5, h6, h7⟩ := h
  refine ⟨(hx.f 3 rfl).trans h1, h2, (hx.f 1 rfl).trans h3, h4, (hx.f 21 rfl).trans h5, hx.2.2.trans h6, ?_⟩
  have : I2 rp = I rp := by rcases h7.1 with rfl | rfl <;> exact hx.r _ rfl
  rw [this]; exact h7
/-- what must be said, by a seventh -/
def m_HS (sp str tl sy : Nat → Int32) (n c ns rs : Nat) (rv : RV) (row : Nat → Int32) (a : Nat) (w : Int32) : Option (Nat × List (Nat × Nat)) := m_hs (fun z => m_gl sy (m_RM sp str tl n c rs rv row a) w a (row 27) ns (c - a) a (m_bt (fun s => row (16 + s)) ns) (row 25) z) 4 0
set_option maxHeartbeats 1000000 in
theorem c_hushOf {I I2 : Nat → Nat → Int32} {J : Nat → Nat → Int64} {R R2 : Nat → Nat → Value} {d n c a ns rp rs : Nat} {rv : RV} (hA : mA I R d n c rp rs rv) (ha : I 1 24 = nI a) (hac : a ≤ c) (hsp : sp9 (I 2) c) (hns : I 0 6 = nI ns) (hns8 : ns ≤ 8) (hx : xM I R I2 R2) (w : Int32) : Cal lyM (d + 97) hX12_hushOf 3 [.ref 0, .int w] (I2, J, R2) (fun r M' => r = some (.int (m_hn (m_HS (I 2) (I 3) (I 4) (I 5) n c ns rs rv (I 1) a w))) ∧ ∃ I3 R3, M' = (I3, J, R3) ∧ xM I R I3 R3 ∧ ∀ z L, m_HS (I 2) (I 3) (I 4) (I 5) n c ns rs rv (I 1) a w = some (z, L) → lnL (I3 17) 0 L) := by
  have ha2 : I2 1 24 = nI a := (congrFun (hx.r 1 rfl) 24).trans ha
  have hsp2 : sp9 (I2 2) c := by rw [hx.r 2 rfl]; exact hsp
  show Ev lyM (d + 97) hX12_hushOf 0 [some (.ref 0), some (.int w), none] [] (I2, J, R2) _
  refine ev_st dX12_hushOf_0 rfl rfl ?_
  refine ev_call dX12_hushOf_1 rfl rfl mr_12_320 rfl rfl rfl (Cal.mono (by omega) (c_layRoom (J := J) (hA.x hx) ha2 hac hsp2 sM.rf)) ?_
  rintro _ _ ⟨rfl, I3, R3, row2, g2, rfl, hg, hs3⟩
  show Ev lyM (d + 97) hX12_hushOf 4 [some (.ref 0), some (.int w), none] [] (I3, J, R3) _
  refine ev_iconst (v := 0) dX12_hushOf_4 (by decide) ?_
  refine ev_st (L' := [some (.ref 0), some (.int w), some (.int 0)]) dX12_hushOf_5 rfl rfl ?_
  have x3 : xM I2 R2 I3 R3 := ((xM.up 16 rfl g2).tr (xM.up 14 rfl row2)).tr hs3.x
  have x4 : xM I R I3 R3 := hx.tr x3
  have h16 : I3 16 = g2 := (hs3.r 16 rfl).trans rfl
  have K := c_hushOfL (I := I3) (J := J) (R := R3) (d := d + 81) ((x4.f 6 rfl).trans hns) hns8 ((x4.f 1 rfl).trans hA.2.2.1) hA.2.2.2.1 ((congrFun (x4.r 1 rfl) 24).trans ha) hac w 5 0 (I3 17) (by omega) (by omega)
  rw [va_up_id, x4.r 5 rfl, x4.r 1 rfl, h16] at K
  refine Ev.imp K ?_
  rintro r M1 ⟨rfl, rfl⟩
  obtain ⟨k1, k2⟩ := ho_ag (fun z ln => gh_ag (sy := I 5) (rm := g2) (w := w) (a := a) (spk := I 1 27) (ns := ns) (c - a) a (m_bt (fun s => I 1 (16 + s)) ns) (I 1 25) 0 z ln) 4 0 (I3 17)
  have e : m_hs (fun z => m_gl (I 5) g2 w a (I 1 27) ns (c - a) a (m_bt (fun s => I 1 (16 + s)) ns) (I 1 25) z) 4 0 = m_HS (I 2) (I 3) (I 4) (I 5) n c ns rs rv (I 1) a w := by
    rw [m_HS]; congr 1; funext z
    refine gl_ext _ _ _ _ _ (fun i h1 h2 => ?_)
    rw [hg i h1 (by omega), hx.r 1 rfl, hx.r 2 rfl, hx.r 3 rfl, hx.r 4 rfl]
  rw [e] at k1 k2
  exact ⟨by rw [← k1], _, _, rfl, x4.tr (xM.up 17 rfl _), fun z L hL => by rw [va_up_q]; exact k2 z L hL⟩
