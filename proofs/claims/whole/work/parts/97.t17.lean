/-! texts: ACTS read by both: the loop of the class, one ACT of the model -/
theorem cR30 {I : Nat → Nat → Int32} {t : Nat → Nat} {E N k : Nat} {s : PS} {v : Int32} (h : cR I t E N s) : cR (ti_wr I 30 k v) t E N s := by
  unfold cR
  rw [ti_wr_n (show (1 : Nat) ≠ 30 by decide), ti_wr_n (show (2 : Nat) ≠ 30 by decide)]
  exact h
theorem mR15 {rp : Nat} {I : Nat → Nat → Int32} {R : Nat → Nat → Value} {t : Nat → Nat} {E N T k : Nat} {s : PS} {v : Int32} (h : mR rp I R t E N T s) : mR rp (ti_wr I 15 k v) R t E N T s := by
  have h0 : rp ≠ 15 := by rcases h.2.1 with ⟨rfl, _⟩ | ⟨rfl | rfl, _⟩ <;> decide
  unfold mR
  rw [ti_wr_n (show (0 : Nat) ≠ 15 by decide), ti_wr_n h0]
  exact h
theorem ra_v {I2 I3 : Nat → Nat → Int32} {t : Nat → Nat} {E b : Nat} {x : Int32} (hx : xC I2 I3) (h8 : ∀ j, j < b → I2 30 j = nI (aC t E j)) (hv : (aR t E (aS t E b)).2.2.1 = true → x = nI ((aR t E (aS t E b)).1 * 16 + (aR t E (aS t E b)).2.1)) : (aS t E (b + 1)).1 = true → ∀ j, j < b + 1 → ti_wr I3 30 b x 30 j = nI (aC t E j) := by
  intro h j hj
  by_cases e : j = b
  · subst e; rw [ti_wr_at]; exact hv h
  · rw [wr_ne e, hx 30 (by decide)]; exact h8 j (by omega)
theorem goes_60 {t : Nat → Nat} {N b : Nat} (hb : b = 60) (hg : ∀ j, j < b → goes (min N 60) (aS t (min N 60) j)) : ¬ goes (min N 60) (aS t (min N 60) b) := by
  intro q
  have := aS_at b hg q.1
  have := q.2
  omega
set_option maxHeartbeats 1000000 in
theorem k_readActs {I : Nat → Nat → Int32} {J : Nat → Nat → Int64} {R : Nat → Nat → Value} {t : Nat → Nat} {d N : Nat} (hT : cT I t N) : Cal lyC (d + 3) hX11_readActs 2 [.ref 0] (I, J, R) (fun r M' => ∃ n I3, aEnd t (min N 60) n ∧ r = some (.int (nI n)) ∧ M' = (I3, J, R) ∧ (∀ p, p ≠ 1 → p ≠ 30 → I3 p = I p) ∧ cR I3 t (min N 60) N (aS t (min N 60) n) ∧ ((aS t (min N 60) n).1 = true → ∀ j, j < n → I3 30 j = nI (aC t (min N 60) j))) := by
  have loop : ∀ (k b : Nat) (I2 : Nat → Nat → Int32), b ≤ 60 → 60 - b < k → (∀ p, p ≠ 1 → p ≠ 30 → I2 p = I p) → cR I2 t (min N 60) N (aS t (min N 60) b) → ((aS t (min N 60) b).1 = true → ∀ j, j < b → I2 30 j = nI (aC t (min N 60) j)) → (∀ j, j < b → goes (min N 60) (aS t (min N 60) j)) → Ev lyC (d + 3) hX11_readActs 11 [some (.ref 0), some (.int (nI b))] [] (I2, J, R) (fun r M' => ∃ n I3, aEnd t (min N 60) n ∧ r = some (.int (nI n)) ∧ M' = (I3, J, R) ∧ (∀ p, p ≠ 1 → p ≠ 30 → I3 p = I p) ∧ cR I3 t (min N 60) N (aS t (min N 60) n) ∧ ((aS t (min N 60) n).1 = true → ∀ j, j < n → I3 30 j = nI (aC t (min N 60) j))) := by
    intro k
    induction k with
    | zero => intro b I2 h1 h2; omega
    | succ k ih =>
      intro b I2 hb hk hx2 hR2 h8 hg
      refine ev_st dX11_readActs_11 rfl rfl ?_
      refine ev_bipush (v := 60) dX11_readActs_12 (by decide) ?_
      refine ev_ic_geN (t := 44) (a := b) (b := 60) dX11_readActs_14 (by decide) rfl rfl (by omega) (by omega) (fun c_14 => ?_) (fun c_14 => ?_)
      · refine ev_st dX11_readActs_44 rfl rfl ?_
        exact ev_iret dX11_readActs_45 rfl (⟨b, _, ⟨goes_60 (by omega) hg, hg⟩, rfl, rfl, hx2, hR2, h8⟩)
      · refine ev_st dX11_readActs_17 rfl rfl ?_
        refine ev_getC dX11_readActs_18 fr_11_10 rfl rfl ?_
        refine ev_call dX11_readActs_21 rfl rfl mr_11_258 rfl rfl rfl (k_peek hR2) ?_
        rintro _ _ ⟨rfl, rfl⟩
        show Ev lyC (d + 3) hX11_readActs 24 [some (.ref 0), some (.int (nI b))] [.int (pk t (min N 60) (aS t (min N 60) b))] (I2, J, R) _
        refine ev_iconst (v := -1) dX11_readActs_24 (by decide) ?_
        refine ev_ic_eq (t := 44) (x := pk t (min N 60) (aS t (min N 60) b)) (y := (-1)) dX11_readActs_25 (by decide) (fun c_25 => ?_) (fun c_25 => ?_)
        · refine ev_st dX11_readActs_44 rfl rfl ?_
          exact ev_iret dX11_readActs_45 rfl (⟨b, _, ⟨(pkS_m1 hR2.t).mp c_25, hg⟩, rfl, rfl, hx2, hR2, h8⟩)
        · have hgo : goes (min N 60) (aS t (min N 60) b) := Classical.byContradiction fun q => c_25 ((pkS_m1 hR2.t).mpr q)
          refine ev_st dX11_readActs_28 rfl rfl ?_
          refine ev_getC dX11_readActs_29 fr_11_87 rfl rfl ?_
          refine ev_st dX11_readActs_32 rfl rfl ?_
          refine ev_st dX11_readActs_33 rfl rfl ?_
          refine ev_call dX11_readActs_34 rfl rfl mr_11_261 rfl rfl rfl (k_readAct hR2 hgo) ?_
          rintro _ _ ⟨x, I3, rfl, rfl, hx3, hR3, hv3⟩
          show Ev lyC (d + 3) hX11_readActs 37 [some (.ref 0), some (.int (nI b))] [.int x, .int (nI b), .ref 30] (I3, J, R) _
          refine ev_iast (j := b) dX11_readActs_37 rfl rfl (by omega) (by decide) ?_
          refine ev_iincN (a := b) (b := b + 1) (L' := [some (.ref 0), some (.int (nI (b + 1)))]) dX11_readActs_38 rfl (nI_1 _) rfl ?_
          refine ev_goto (t := 11) dX11_readActs_41 (by decide) ?_
          exact ih _ _ (by omega) (by omega) (fun p a c => (ti_wr_n c).trans ((hx3 p a).trans (hx2 p a c))) (cR30 hR3) (ra_v hx3 (h8 hgo.1) hv3) (all_b hg hgo)
  show Ev lyC (d + 3) hX11_readActs 0 [some (.ref 0), none] [] (I, J, R) _
  refine ev_st dX11_readActs_0 rfl rfl ?_
  refine ev_getC dX11_readActs_1 fr_11_10 rfl rfl ?_
  refine ev_bipush (v := 60) dX11_readActs_4 (by decide) ?_
  refine ev_call dX11_readActs_6 rfl rfl mr_11_254 rfl rfl rfl (k_open (T := 60) hT (by decide)) ?_
  rintro _ _ ⟨rfl, I2, rfl, hx2, hR2⟩
  show Ev lyC (d + 3) hX11_readActs 9 [some (.ref 0), none] [] (I2, J, R) _
  refine ev_iconst (v := 0) dX11_readActs_9 (by decide) ?_
  refine ev_st (L' := [some (.ref 0), some (.int 0)]) dX11_readActs_10 rfl rfl ?_
  exact loop 61 0 I2 (by omega) (by omega) (fun p a _ => hx2 p a) hR2 (fun _ j hj => by omega) (fun j hj => by omega)
/-- the model while it reads: but for the acts -/
def aF (k : Nat) (I I3 : Nat → Nat → Int32) : Prop := (∀ p, p ≠ 0 → p ≠ 15 → I3 p = I p) ∧ (∀ k, k ≠ 16 → k ≠ 17 → I3 0 k = I 0 k) ∧ (∀ j, j ≠ k → j ≠ k + 1 → I3 15 j = I 15 j)
def aQ (k : Nat) (I : Nat → Nat → Int32) (J : Nat → Nat → Int64) (R : Nat → Nat → Value) (t : Nat → Nat) (E N T : Nat) (s : PS) (r : Option Value) (M' : TM) : Prop := r = none ∧ ∃ I3, M' = (I3, J, R) ∧ aF k I I3 ∧ mR 6 I3 R t E N T (aR t E s).2.2 ∧ ((aR t E s).2.2.1 = true → I3 15 k = nI (aR t E s).1 ∧ (¬ (aR t E s).1 = 62 → I3 15 (k + 1) = nI (aR t E s).2.1))
theorem aF_r {I I2 I3 : Nat → Nat → Int32} {k : Nat} (h : aF k I I2) (g : rF I2 I3) : aF k I I3 := ⟨fun p a b => (g.1 p a).trans (h.1 p a b), fun k a b => (g.2 k a b).trans (h.2.1 k a b), fun j a b => by rw [g.1 15 (by decide)]; exact h.2.2 j a b⟩
theorem aF_0 {I : Nat → Nat → Int32} {k : Nat} {u v : Int32} : aF k I (ti_wr (ti_wr I 0 16 u) 15 k v) := ⟨fun p a b => by rw [ti_wr_n b, ti_wr_n a], fun j a b => by rw [ti_wr_n (by decide), wr_ne a], fun j a b => by rw [wr_ne a, ti_wr_n (by decide)]⟩
theorem aF_1 {I I2 : Nat → Nat → Int32} {k : Nat} {v : Int32} (h : aF k I I2) : aF k I (ti_wr I2 15 (k + 1) v) := ⟨fun p a b => by rw [ti_wr_n b]; exact h.1 p a b, fun j a b => by rw [ti_wr_n (by decide)]; exact h.2.1 j a b, fun j a b => by rw [wr_ne b]; exact h.2.2 j a b⟩
theorem aQ_n {I I3 : Nat → Nat → Int32} {J : Nat → Nat → Int64} {R : Nat → Nat → Value} {t : Nat → Nat} {E N T k : Nat} {a : Nat} (e : (aR t E (true, a)).2.2 = (false, a)) (hx : rF I I3) (hR : mR 6 I3 R t E N T (false, a)) : aQ k I J R t E N T (true, a) none (I3, J, R) := ⟨rfl, I3, rfl, ⟨fun p a _ => hx.1 p a, hx.2, fun j _ _ => by rw [hx.1 15 (by decide)]⟩, by rw [e]; exact hR, fun q => by rw [e] at q; cases q⟩
theorem aQ_1 {I I2 : Nat → Nat → Int32} {J : Nat → Nat → Int64} {R : Nat → Nat → Value} {t : Nat → Nat} {E N T k c v : Nat} {s s2 : PS} {u : Int32} (e : aR t E s = (c, v, s2)) (g : rF (ti_wr (ti_wr I 0 16 u) 15 k (nI c)) I2) (hR : mR 6 I2 R t E N T s2) : aQ k I J R t E N T s none (ti_wr I2 15 (k + 1) (nI v), J, R) := by
  refine ⟨rfl, _, rfl, aF_1 (aF_r aF_0 g), ?_, ?_⟩
  · rw [e]; exact mR15 hR
  · rw [e]
    exact fun _ => ⟨by rw [wr_ne (by omega), g.1 15 (by decide), ti_wr_at], fun _ => by rw [ti_wr_at]⟩
theorem c_rA62 {I : Nat → Nat → Int32} {J : Nat → Nat → Int64} {R : Nat → Nat → Value} {t : Nat → Nat} {d E N T a k : Nat} (hR : mR 6 I R t E N T (true, a)) (hlt : a < E) (hk : k + 1 < 160) (hc : t a = 62) : Cal lyM (d + 3) hX12_readAct 3 [.ref 0, .int (nI k)] (I, J, R) (aQ k I J R t E N T (true, a)) := by
  have h16 : I 0 16 = nI a := (by have h := hR.2.2.2.2.2.2.2.2; rw [if_pos rfl] at h; exact h.2)
  have hE80 : E ≤ 80 := (by have := hR.2.2.2.2.1; have := hR.2.2.2.2.2.1; omega)
  show Ev lyM (d + 3) hX12_readAct 0 [some (.ref 0), some (.int (nI k)), none] [] (I, J, R) _
  refine ev_st dX12_readAct_0 rfl rfl ?_
  refine ev_call dX12_readAct_1 rfl rfl mr_12_131 rfl rfl rfl ((pk_c hlt hc ▸ c_here hR)) ?_
  rintro _ _ ⟨rfl, rfl⟩
  show Ev lyM (d + 3) hX12_readAct 4 [some (.ref 0), some (.int (nI k)), none] [.int 62] (I, J, R) _
  refine ev_st (L' := [some (.ref 0), some (.int (nI k)), some (.int 62)]) dX12_readAct_4 rfl rfl ?_
  refine ev_st dX12_readAct_5 rfl rfl ?_
  refine ev_bipush (v := 62) dX12_readAct_6 (by decide) ?_
  refine ev_ic_eqN (t := 44) (a := 62) (b := 62) dX12_readAct_8 (by decide) rfl rfl (by omega) (by omega) (fun c_8 => ?_) (fun c_8 => ?_)
  · refine ev_st dX12_readAct_44 rfl rfl ?_
    refine ev_st dX12_readAct_45 rfl rfl ?_
    refine ev_getI (v := nI a) dX12_readAct_46 fr_12_117 rfl rfl h16 ?_
    refine ev_iconst (v := 1) dX12_readAct_49 (by decide) ?_
    refine ev_iaddN (a := a) (b := 1) (c := a + 1) dX12_readAct_50 rfl rfl rfl ?_
    refine ev_putI dX12_readAct_51 fr_12_117 rfl rfl ?_
    refine ev_st dX12_readAct_54 rfl rfl ?_
    refine ev_getC dX12_readAct_55 fr_12_58 rfl rfl ?_
    refine ev_st dX12_readAct_58 rfl rfl ?_
    refine ev_st dX12_readAct_59 rfl rfl ?_
    refine ev_iast (j := k) dX12_readAct_60 rfl rfl (by omega) (by decide) ?_
    refine ev_st dX12_readAct_61 rfl rfl ?_
    refine ev_bipush (v := 118) dX12_readAct_62 (by decide) ?_
    refine ev_ic_neN (t := 85) (a := 62) (b := 118) dX12_readAct_64 (by decide) rfl rfl (by omega) (by omega) (fun c_64 => ?_) (fun c_64 => ?_)
    · refine ev_st dX12_readAct_85 rfl rfl ?_
      refine ev_bipush (v := 62) dX12_readAct_86 (by decide) ?_
      refine ev_ic_eqN (t := 107) (a := 62) (b := 62) dX12_readAct_88 (by decide) rfl rfl (by omega) (by omega) (fun c_88 => ?_) (fun c_88 => ?_)
      · exact ev_vret dX12_readAct_107 rfl (⟨rfl, _, rfl, aF_0, by rw [show aR t E (true, a) = (62, 0, (true, a + 1)) by rw [aR, if_pos hc]]; exact mR15 (hR.at rfl hlt), by rw [show aR t E (true, a) = (62, 0, (true, a + 1)) by rw [aR, if_pos hc]]; exact fun _ => ⟨by rw [ti_wr_at]; rfl, fun q => absurd rfl q⟩⟩)
      · exact absurd rfl c_88
    · exact absurd c_64 (by decide)
  · exact absurd rfl c_8
theorem c_rA116 {I : Nat → Nat → Int32} {J : Nat → Nat → Int64} {R : Nat → Nat → Value} {t : Nat → Nat} {d E N T a k : Nat} (hR : mR 6 I R t E N T (true, a)) (hlt : a < E) (hk : k + 1 < 160) (hc : t a = 116) : Cal lyM (d + 3) hX12_readAct 3 [.ref 0, .int (nI k)] (I, J, R) (aQ k I J R t E N T (true, a)) := by
  have h16 : I 0 16 = nI a := (by have h := hR.2.2.2.2.2.2.2.2; rw [if_pos rfl] at h; exact h.2)
  have hE80 : E ≤ 80 := (by have := hR.2.2.2.2.1; have := hR.2.2.2.2.2.1; omega)
  show Ev lyM (d + 3) hX12_readAct 0 [some (.ref 0), some (.int (nI k)), none] [] (I, J, R) _
  refine ev_st dX12_readAct_0 rfl rfl ?_
  refine ev_call dX12_readAct_1 rfl rfl mr_12_131 rfl rfl rfl ((pk_c hlt hc ▸ c_here hR)) ?_
  rintro _ _ ⟨rfl, rfl⟩
  show Ev lyM (d + 3) hX12_readAct 4 [some (.ref 0), some (.int (nI k)), none] [.int 116] (I, J, R) _
  refine ev_st (L' := [some (.ref 0), some (.int (nI k)), some (.int 116)]) dX12_readAct_4 rfl rfl ?_
  refine ev_st dX12_readAct_5 rfl rfl ?_
  refine ev_bipush (v := 62) dX12_readAct_6 (by decide) ?_
  refine ev_ic_eqN (t := 44) (a := 116) (b := 62) dX12_readAct_8 (by decide) rfl rfl (by omega) (by omega) (fun c_8 => ?_) (fun c_8 => ?_)
  · exact absurd c_8 (by decide)
  · refine ev_st dX12_readAct_11 rfl rfl ?_
    refine ev_bipush (v := 116) dX12_readAct_12 (by decide) ?_
    refine ev_ic_eqN (t := 44) (a := 116) (b := 116) dX12_readAct_14 (by decide) rfl rfl (by omega) (by omega) (fun c_14 => ?_) (fun c_14 => ?_)
    · refine ev_st dX12_readAct_44 rfl rfl ?_
      refine ev_st dX12_readAct_45 rfl rfl ?_
      refine ev_getI (v := nI a) dX12_readAct_46 fr_12_117 rfl rfl h16 ?_
      refine ev_iconst (v := 1) dX12_readAct_49 (by decide) ?_
      refine ev_iaddN (a := a) (b := 1) (c := a + 1) dX12_readAct_50 rfl rfl rfl ?_
      refine ev_putI dX12_readAct_51 fr_12_117 rfl rfl ?_
      refine ev_st dX12_readAct_54 rfl rfl ?_
      refine ev_getC dX12_readAct_55 fr_12_58 rfl rfl ?_
      refine ev_st dX12_readAct_58 rfl rfl ?_
      refine ev_st dX12_readAct_59 rfl rfl ?_
      refine ev_iast (j := k) dX12_readAct_60 rfl rfl (by omega) (by decide) ?_
      refine ev_st dX12_readAct_61 rfl rfl ?_
      refine ev_bipush (v := 118) dX12_readAct_62 (by decide) ?_
      refine ev_ic_neN (t := 85) (a := 116) (b := 118) dX12_readAct_64 (by decide) rfl rfl (by omega) (by omega) (fun c_64 => ?_) (fun c_64 => ?_)
      · refine ev_st dX12_readAct_85 rfl rfl ?_
        refine ev_bipush (v := 62) dX12_readAct_86 (by decide) ?_
        refine ev_ic_eqN (t := 107) (a := 116) (b := 62) dX12_readAct_88 (by decide) rfl rfl (by omega) (by omega) (fun c_88 => ?_) (fun c_88 => ?_)
        · exact absurd c_88 (by decide)
        · refine ev_st dX12_readAct_91 rfl rfl ?_
          refine ev_getC dX12_readAct_92 fr_12_58 rfl rfl ?_
          refine ev_st dX12_readAct_95 rfl rfl ?_
          refine ev_iconst (v := 1) dX12_readAct_96 (by decide) ?_
          refine ev_iaddN (a := k) (b := 1) (c := k + 1) dX12_readAct_97 rfl rfl rfl ?_
          refine ev_st dX12_readAct_98 rfl rfl ?_
          refine ev_bipush (v := 48) dX12_readAct_99 (by decide) ?_
          refine ev_bipush (v := 10) dX12_readAct_101 (by decide) ?_
          refine ev_call dX12_readAct_103 rfl rfl mr_12_143 rfl rfl rfl (c_one (f := 48) (m := 10) (mR15 (k := k) (v := 116) (hR.at rfl hlt)) (by decide) (by decide)) ?_
          rintro _ _ ⟨rfl, I2, rfl, hx2, hR2⟩
          show Ev lyM (d + 3) hX12_readAct 106 [some (.ref 0), some (.int (nI k)), some (.int 116)] [.int (nI ((sOne t E 48 10 (true, a + 1)).1)), .int (nI (k + 1)), .ref 15] (I2, J, R) _
          refine ev_iast (j := k + 1) dX12_readAct_106 rfl rfl (by omega) (by decide) ?_
          exact ev_vret dX12_readAct_107 rfl (aQ_1 (show aR t E (true, a) = (116, (sOne t E 48 10 (true, a + 1)).1, (sOne t E 48 10 (true, a + 1)).2) by rw [aR, if_neg (by simp only; omega), if_neg (by simp only; omega), if_pos (Or.inl hc), hc]) hx2 hR2)
      · exact absurd c_64 (by decide)
    · exact absurd rfl c_14
theorem c_rA108 {I : Nat → Nat → Int32} {J : Nat → Nat → Int64} {R : Nat → Nat → Value} {t : Nat → Nat} {d E N T a k : Nat} (hR : mR 6 I R t E N T (true, a)) (hlt : a < E) (hk : k + 1 < 160) (hc : t a = 108) : Cal lyM (d + 3) hX12_readAct 3 [.ref 0, .int (nI k)] (I, J, R) (aQ k I J R t E N T (true, a)) := by
  have h16 : I 0 16 = nI a := (by have h := hR.2.2.2.2.2.2.2.2; rw [if_pos rfl] at h; exact h.2)
  have hE80 : E ≤ 80 := (by have := hR.2.2.2.2.1; have := hR.2.2.2.2.2.1; omega)
  show Ev lyM (d + 3) hX12_readAct 0 [some (.ref 0), some (.int (nI k)), none] [] (I, J, R) _
  refine ev_st dX12_readAct_0 rfl rfl ?_
  refine ev_call dX12_readAct_1 rfl rfl mr_12_131 rfl rfl rfl ((pk_c hlt hc ▸ c_here hR)) ?_
  rintro _ _ ⟨rfl, rfl⟩
  show Ev lyM (d + 3) hX12_readAct 4 [some (.ref 0), some (.int (nI k)), none] [.int 108] (I, J, R) _
  refine ev_st (L' := [some (.ref 0), some (.int (nI k)), some (.int 108)]) dX12_readAct_4 rfl rfl ?_
  refine ev_st dX12_readAct_5 rfl rfl ?_
  refine ev_bipush (v := 62) dX12_readAct_6 (by decide) ?_
  refine ev_ic_eqN (t := 44) (a := 108) (b := 62) dX12_readAct_8 (by decide) rfl rfl (by omega) (by omega) (fun c_8 => ?_) (fun c_8 => ?_)
  · exact absurd c_8 (by decide)
  · refine ev_st dX12_readAct_11 rfl rfl ?_
    refine ev_bipush (v := 116) dX12_readAct_12 (by decide) ?_
    refine ev_ic_eqN (t := 44) (a := 108) (b := 116) dX12_readAct_14 (by decide) rfl rfl (by omega) (by omega) (fun c_14 => ?_) (fun c_14 => ?_)
    · exact absurd c_14 (by decide)
    · refine ev_st dX12_readAct_17 rfl rfl ?_
      refine ev_bipush (v := 108) dX12_readAct_18 (by decide) ?_
      refine ev_ic_eqN (t := 44) (a := 108) (b := 108) dX12_readAct_20 (by decide) rfl rfl (by omega) (by omega) (fun c_20 => ?_) (fun c_20 => ?_)
      · refine ev_st dX12_readAct_44 rfl rfl ?_
        refine ev_st dX12_readAct_45 rfl rfl ?_
        refine ev_getI (v := nI a) dX12_readAct_46 fr_12_117 rfl rfl h16 ?_
        refine ev_iconst (v := 1) dX12_readAct_49 (by decide) ?_
        refine ev_iaddN (a := a) (b := 1) (c := a + 1) dX12_readAct_50 rfl rfl rfl ?_
        refine ev_putI dX12_readAct_51 fr_12_117 rfl rfl ?_
        refine ev_st dX12_readAct_54 rfl rfl ?_
        refine ev_getC dX12_readAct_55 fr_12_58 rfl rfl ?_
        refine ev_st dX12_readAct_58 rfl rfl ?_
        refine ev_st dX12_readAct_59 rfl rfl ?_
        refine ev_iast (j := k) dX12_readAct_60 rfl rfl (by omega) (by decide) ?_
        refine ev_st dX12_readAct_61 rfl rfl ?_
        refine ev_bipush (v := 118) dX12_readAct_62 (by decide) ?_
        refine ev_ic_neN (t := 85) (a := 108) (b := 118) dX12_readAct_64 (by decide) rfl rfl (by omega) (by omega) (fun c_64 => ?_) (fun c_64 => ?_)
        · refine ev_st dX12_readAct_85 rfl rfl ?_
          refine ev_bipush (v := 62) dX12_readAct_86 (by decide) ?_
          refine ev_ic_eqN (t := 107) (a := 108) (b := 62) dX12_readAct_88 (by decide) rfl rfl (by omega) (by omega) (fun c_88 => ?_) (fun c_88 => ?_)
          · exact absurd c_88 (by decide)
          · refine ev_st dX12_readAct_91 rfl rfl ?_
            refine ev_getC dX12_readAct_92 fr_12_58 rfl rfl ?_
            refine ev_st dX12_readAct_95 rfl rfl ?_
            refine ev_iconst (v := 1) dX12_readAct_96 (by decide) ?_
            refine ev_iaddN (a := k) (b := 1) (c := k + 1) dX12_readAct_97 rfl rfl rfl ?_
            refine ev_st dX12_readAct_98 rfl rfl ?_
            refine ev_bipush (v := 48) dX12_readAct_99 (by decide) ?_
            refine ev_bipush (v := 10) dX12_readAct_101 (by decide) ?_
            refine ev_call dX12_readAct_103 rfl rfl mr_12_143 rfl rfl rfl (c_one (f := 48) (m := 10) (mR15 (k := k) (v := 108) (hR.at rfl hlt)) (by decide) (by decide)) ?_
            rintro _ _ ⟨rfl, I2, rfl, hx2, hR2⟩
            show Ev lyM (d + 3) hX12_readAct 106 [some (.ref 0), some (.int (nI k)), some (.int 108)] [.int (nI ((sOne t E 48 10 (true, a + 1)).1)), .int (nI (k + 1)), .ref 15] (I2, J, R) _
            refine ev_iast (j := k + 1) dX12_readAct_106 rfl rfl (by omega) (by decide) ?_
            exact ev_vret dX12_readAct_107 rfl (aQ_1 (show aR t E (true, a) = (108, (sOne t E 48 10 (true, a + 1)).1, (sOne t E 48 10 (true, a + 1)).2) by rw [aR, if_neg (by simp only; omega), if_neg (by simp only; omega), if_pos (Or.inr (Or.inl hc)), hc]) hx2 hR2)
        · exact absurd c_64 (by decide)
      · exact absurd rfl c_20
theorem c_rA115 {I : Nat → Nat → Int32} {J : Nat → Nat → Int64} {R : Nat → Nat → Value} {t : Nat → Nat} {d E N T a k : Nat} (hR : mR 6 I R t E N T (true, a)) (hlt : a < E) (hk : k + 1 < 160) (hc : t a = 115) : Cal lyM (d + 3) hX12_readAct 3 [.ref 0, .int (nI k)] (I, J, R) (aQ k I J R t E N T (true, a)) := by
  have h16 : I 0 16 = nI a := (by have h := hR.2.2.2.2.2.2.2.2; rw [if_pos rfl] at h; exact h.2)
  have hE80 : E ≤ 80 := (by have := hR.2.2.2.2.1; have := hR.2.2.2.2.2.1; omega)
  show Ev lyM (d + 3) hX12_readAct 0 [some (.ref 0), some (.int (nI k)), none] [] (I, J, R) _
  refine ev_st dX12_readAct_0 rfl rfl ?_
  refine ev_call dX12_readAct_1 rfl rfl mr_12_131 rfl rfl rfl ((pk_c hlt hc ▸ c_here hR)) ?_
  rintro _ _ ⟨rfl, rfl⟩
  show Ev lyM (d + 3) hX12_readAct 4 [some (.ref 0), some (.int (nI k)), none] [.int 115] (I, J, R) _
  refine ev_st (L' := [some (.ref 0), some (.int (nI k)), some (.int 115)]) dX12_readAct_4 rfl rfl ?_
  refine ev_st dX12_readAct_5 rfl rfl ?_
  refine ev_bipush (v := 62) dX12_readAct_6 (by decide) ?_
  refine ev_ic_eqN (t := 44) (a := 115) (b := 62) dX12_readAct_8 (by decide) rfl rfl (by omega) (by omega) (fun c_8 => ?_) (fun c_8 => ?_)
  · exact absurd c_8 (by decide)
  · refine ev_st dX12_readAct_11 rfl rfl ?_
    refine ev_bipush (v := 116) dX12_readAct_12 (by decide) ?_
    refine ev_ic_eqN (t := 44) (a := 115) (b := 116) dX12_readAct_14 (by decide) rfl rfl (by omega) (by omega) (fun c_14 => ?_) (fun c_14 => ?_)
    · exact absurd c_14 (by decide)
    · refine ev_st dX12_readAct_17 rfl rfl ?_
      refine ev_bipush (v := 108) dX12_readAct_18 (by decide) ?_
      refine ev_ic_eqN (t := 44) (a := 115) (b := 108) dX12_readAct_20 (by decide) rfl rfl (by omega) (by omega) (fun c_20 => ?_) (fun c_20 => ?_)
      · exact absurd c_20 (by decide)
      · refine ev_st dX12_readAct_23 rfl rfl ?_
        refine ev_bipush (v := 118) dX12_readAct_24 (by decide) ?_
        refine ev_ic_eqN (t := 44) (a := 115) (b := 118) dX12_readAct_26 (by decide) rfl rfl (by omega) (by omega) (fun c_26 => ?_) (fun c_26 => ?_)
        · exact absurd c_26 (by decide)
        · refine ev_st dX12_readAct_29 rfl rfl ?_
          refine ev_bipush (v := 115) dX12_readAct_30 (by decide) ?_
          refine ev_ic_eqN (t := 44) (a := 115) (b := 115) dX12_readAct_32 (by decide) rfl rfl (by omega) (by omega) (fun c_32 => ?_) (fun c_32 => ?_)
          · refine ev_st dX12_readAct_44 rfl rfl ?_
            refine ev_st dX12_readAct_45 rfl rfl ?_
            refine ev_getI (v := nI a) dX12_readAct_46 fr_12_117 rfl rfl h16 ?_
            refine ev_iconst (v := 1) dX12_readAct_49 (by decide) ?_
            refine ev_iaddN (a := a) (b := 1) (c := a + 1) dX12_readAct_50 rfl rfl rfl ?_
            refine ev_putI dX12_readAct_51 fr_12_117 rfl rfl ?_
            refine ev_st dX12_readAct_54 rfl rfl ?_
            refine ev_getC dX12_readAct_55 fr_12_58 rfl rfl ?_
            refine ev_st dX12_readAct_58 rfl rfl ?_
            refine ev_st dX12_readAct_59 rfl rfl ?_
            refine ev_iast (j := k) dX12_readAct_60 rfl rfl (by omega) (by decide) ?_
            refine ev_st dX12_readAct_61 rfl rfl ?_
            refine ev_bipush (v := 118) dX12_readAct_62 (by decide) ?_
            refine ev_ic_neN (t := 85) (a := 115) (b := 118) dX12_readAct_64 (by decide) rfl rfl (by omega) (by omega) (fun c_64 => ?_) (fun c_64 => ?_)
            · refine ev_st dX12_readAct_85 rfl rfl ?_
              refine ev_bipush (v := 62) dX12_readAct_86 (by decide) ?_
              refine ev_ic_eqN (t := 107) (a := 115) (b := 62) dX12_readAct_88 (by decide) rfl rfl (by omega) (by omega) (fun c_88 => ?_) (fun c_88 => ?_)
              · exact absurd c_88 (by decide)
              · refine ev_st dX12_readAct_91 rfl rfl ?_
                refine ev_getC dX12_readAct_92 fr_12_58 rfl rfl ?_
                refine ev_st dX12_readAct_95 rfl rfl ?_
                refine ev_iconst (v := 1) dX12_readAct_96 (by decide) ?_
                refine ev_iaddN (a := k) (b := 1) (c := k + 1) dX12_readAct_97 rfl rfl rfl ?_
                refine ev_st dX12_readAct_98 rfl rfl ?_
                refine ev_bipush (v := 48) dX12_readAct_99 (by decide) ?_
                refine ev_bipush (v := 10) dX12_readAct_101 (by decide) ?_
                refine ev_call dX12_readAct_103 rfl rfl mr_12_143 rfl rfl rfl (c_one (f := 48) (m := 10) (mR15 (k := k) (v := 115) (hR.at rfl hlt)) (by decide) (by decide)) ?_
                rintro _ _ ⟨rfl, I2, rfl, hx2, hR2⟩
                show Ev lyM (d + 3) hX12_readAct 106 [some (.ref 0), some (.int (nI k)), some (.int 115)] [.int (nI ((sOne t E 48 10 (true, a + 1)).1)), .int (nI (k + 1)), .ref 15] (I2, J, R) _
                refine ev_iast (j := k + 1) dX12_readAct_106 rfl rfl (by omega) (by decide) ?_
                exact ev_vret dX12_readAct_107 rfl (aQ_1 (show aR t E (true, a) = (115, (sOne t E 48 10 (true, a + 1)).1, (sOne t E 48 10 (true, a + 1)).2) by rw [aR, if_neg (by simp only; omega), if_neg (by simp only; omega), if_pos (Or.inr (Or.inr hc)), hc]) hx2 hR2)
            · exact absurd c_64 (by decide)
          · exact absurd rfl c_32
theorem c_rA118 {I : Nat → Nat → Int32} {J : Nat → Nat → Int64} {R : Nat → Nat → Value} {t : Nat → Nat} {d E N T a k : Nat} (hR : mR 6 I R t E N T (true, a)) (hlt : a < E) (hk : k + 1 < 160) (hc : t a = 118) : Cal lyM (d + 3) hX12_readAct 3 [.ref 0, .int (nI k)] (I, J, R) (aQ k I J R t E N T (true, a)) := by
  have h16 : I 0 16 = nI a := (by have h := hR.2.2.2.2.2.2.2.2; rw [if_pos rfl] at h; exact h.2)
  have hE80 : E ≤ 80 := (by have := hR.2.2.2.2.1; have := hR.2.2.2.2.2.1; omega)
  show Ev lyM (d + 3) hX12_readAct 0 [some (.ref 0), some (.int (nI k)), none] [] (I, J, R) _
  refine ev_st dX12_readAct_0 rfl rfl ?_
  refine ev_call dX12_readAct_1 rfl rfl mr_12_131 rfl rfl rfl ((pk_c hlt hc ▸ c_here hR)) ?_
  rintro _ _ ⟨rfl, rfl⟩
  show Ev lyM (d + 3) hX12_readAct 4 [some (.ref 0), some (.int (nI k)), none] [.int 118] (I, J, R) _
  refine ev_st (L' := [some (.ref 0), some (.int (nI k)), some (.int 118)]) dX12_readAct_4 rfl rfl ?_
  refine ev_st dX12_readAct_5 rfl rfl ?_
  refine ev_bipush (v := 62) dX12_readAct_6 (by decide) ?_
  refine ev_ic_eqN (t := 44) (a := 118) (b := 62) dX12_readAct_8 (by decide) rfl rfl (by omega) (by omega) (fun c_8 => ?_) (fun c_8 => ?_)
  · exact absurd c_8 (by decide)
  · refine ev_st dX12_readAct_11 rfl rfl ?_
    refine ev_bipush (v := 116) dX12_readAct_12 (by decide) ?_
    refine ev_ic_eqN (t := 44) (a := 118) (b := 116) dX12_readAct_14 (by decide) rfl rfl (by omega) (by omega) (fun c_14 => ?_) (fun c_14 => ?_)
    · exact absurd c_14 (by decide)
    · refine ev_st dX12_readAct_17 rfl rfl ?_
      refine ev_bipush (v := 108) dX12_readAct_18 (by decide) ?_
      refine ev_ic_eqN (t := 44) (a := 118) (b := 108) dX12_readAct_20 (by decide) rfl rfl (by omega) (by omega) (fun c_20 => ?_) (fun c_20 => ?_)
      · exact absurd c_20 (by decide)
      · refine ev_st dX12_readAct_23 rfl rfl ?_
        refine ev_bipush (v := 118) dX12_readAct_24 (by decide) ?_
        refine ev_ic_eqN (t := 44) (a := 118) (b := 118) dX12_readAct_26 (by decide) rfl rfl (by omega) (by omega) (fun c_26 => ?_) (fun c_26 => ?_)
        · refine ev_st dX12_readAct_44 rfl rfl ?_
          refine ev_st dX12_readAct_45 rfl rfl ?_
          refine ev_getI (v := nI a) dX12_readAct_46 fr_12_117 rfl rfl h16 ?_
          refine ev_iconst (v := 1) dX12_readAct_49 (by decide) ?_
          refine ev_iaddN (a := a) (b := 1) (c := a + 1) dX12_readAct_50 rfl rfl rfl ?_
          refine ev_putI dX12_readAct_51 fr_12_117 rfl rfl ?_
          refine ev_st dX12_readAct_54 rfl rfl ?_
          refine ev_getC dX12_readAct_55 fr_12_58 rfl rfl ?_
          refine ev_st dX12_readAct_58 rfl rfl ?_
          refine ev_st dX12_readAct_59 rfl rfl ?_
          refine ev_iast (j := k) dX12_readAct_60 rfl rfl (by omega) (by decide) ?_
          refine ev_st dX12_readAct_61 rfl rfl ?_
          refine ev_bipush (v := 118) dX12_readAct_62 (by decide) ?_
          refine ev_ic_neN (t := 85) (a := 118) (b := 118) dX12_readAct_64 (by decide) rfl rfl (by omega) (by omega) (fun c_64 => ?_) (fun c_64 => ?_)
          · exact absurd rfl c_64
          · refine ev_st dX12_readAct_67 rfl rfl ?_
            refine ev_getC dX12_readAct_68 fr_12_58 rfl rfl ?_
            refine ev_st dX12_readAct_71 rfl rfl ?_
            refine ev_iconst (v := 1) dX12_readAct_72 (by decide) ?_
            refine ev_iaddN (a := k) (b := 1) (c := k + 1) dX12_readAct_73 rfl rfl rfl ?_
            refine ev_st dX12_readAct_74 rfl rfl ?_
            refine ev_bipush (v := 97) dX12_readAct_75 (by decide) ?_
            refine ev_iconst (v := 4) dX12_readAct_77 (by decide) ?_
            refine ev_call dX12_readAct_78 rfl rfl mr_12_143 rfl rfl rfl (c_one (f := 97) (m := 4) (mR15 (k := k) (v := 118) (hR.at rfl hlt)) (by decide) (by decide)) ?_
            rintro _ _ ⟨rfl, I2, rfl, hx2, hR2⟩
            show Ev lyM (d + 3) hX12_readAct 81 [some (.ref 0), some (.int (nI k)), some (.int 118)] [.int (nI ((sOne t E 97 4 (true, a + 1)).1)), .int (nI (k + 1)), .ref 15] (I2, J, R) _
            refine ev_iast (j := k + 1) dX12_readAct_81 rfl rfl (by omega) (by decide) ?_
            refine ev_goto (t := 107) dX12_readAct_82 (by decide) ?_
            exact ev_vret dX12_readAct_107 rfl (aQ_1 (show aR t E (true, a) = (118, (sOne t E 97 4 (true, a + 1)).1, (sOne t E 97 4 (true, a + 1)).2) by rw [aR, if_neg (by simp only; omega), if_pos hc]) hx2 hR2)
        · exact absurd rfl c_26
theorem c_rAn {I : Nat → Nat → Int32} {J : Nat → Nat → Int64} {R : Nat → Nat → Value} {t : Nat → Nat} {d E N T a : Nat} {x : Int32} (hR : mR 6 I R t E N T (true, a)) (n62 : ¬ pk t E (true, a) = 62) (n116 : ¬ pk t E (true, a) = 116) (n108 : ¬ pk t E (true, a) = 108) (n118 : ¬ pk t E (true, a) = 118) (n115 : ¬ pk t E (true, a) = 115) : Cal lyM (d + 3) hX12_readAct 3 [.ref 0, .int x] (I, J, R) (fun r M' => r = none ∧ ∃ I3, M' = (I3, J, R) ∧ rF I I3 ∧ mR 6 I3 R t E N T (false, a)) := by
  have h16 : I 0 16 = nI a := (by have h := hR.2.2.2.2.2.2.2.2; rw [if_pos rfl] at h; exact h.2)
  have hE80 : E ≤ 80 := (by have := hR.2.2.2.2.1; have := hR.2.2.2.2.2.1; omega)
  show Ev lyM (d + 3) hX12_readAct 0 [some (.ref 0), some (.int x), none] [] (I, J, R) _
  refine ev_st dX12_readAct_0 rfl rfl ?_
  refine ev_call dX12_readAct_1 rfl rfl mr_12_131 rfl rfl rfl (c_here hR) ?_
  rintro _ _ ⟨rfl, rfl⟩
  show Ev lyM (d + 3) hX12_readAct 4 [some (.ref 0), some (.int x), none] [.int (pk t E (true, a))] (I, J, R) _
  refine ev_st (L' := [some (.ref 0), some (.int x), some (.int (pk t E (true, a)))]) dX12_readAct_4 rfl rfl ?_
  refine ev_st dX12_readAct_5 rfl rfl ?_
  refine ev_bipush (v := 62) dX12_readAct_6 (by decide) ?_
  refine ev_ic_eq (t := 44) (x := pk t E (true, a)) (y := 62) dX12_readAct_8 (by decide) (fun c_8 => ?_) (fun c_8 => ?_)
  · exact absurd c_8 n62
  · refine ev_st dX12_readAct_11 rfl rfl ?_
    refine ev_bipush (v := 116) dX12_readAct_12 (by decide) ?_
    refine ev_ic_eq (t := 44) (x := pk t E (true, a)) (y := 116) dX12_readAct_14 (by decide) (fun c_14 => ?_) (fun c_14 => ?_)
    · exact absurd c_14 n116
    · refine ev_st dX12_readAct_17 rfl rfl ?_
      refine ev_bipush (v := 108) dX12_readAct_18 (by decide) ?_
      refine ev_ic_eq (t := 44) (x := pk t E (true, a)) (y := 108) dX12_readAct_20 (by decide) (fun c_20 => ?_) (fun c_20 => ?_)
      · exact absurd c_20 n108
      · refine ev_st dX12_readAct_23 rfl rfl ?_
        refine ev_bipush (v := 118) dX12_readAct_24 (by decide) ?_
        refine ev_ic_eq (t := 44) (x := pk t E (true, a)) (y := 118) dX12_readAct_26 (by decide) (fun c_26 => ?_) (fun c_26 => ?_)
        · exact absurd c_26 n118
        · refine ev_st dX12_readAct_29 rfl rfl ?_
          refine ev_bipush (v := 115) dX12_readAct_30 (by decide) ?_
          refine ev_ic_eq (t := 44) (x := pk t E (true, a)) (y := 115) dX12_readAct_32 (by decide) (fun c_32 => ?_) (fun c_32 => ?_)
          · exact absurd c_32 n115
          · refine ev_st dX12_readAct_35 rfl rfl ?_
            refine ev_st dX12_readAct_36 rfl rfl ?_
            refine ev_getI (v := nI a) dX12_readAct_37 fr_12_117 rfl rfl h16 ?_
            refine ev_call dX12_readAct_40 rfl rfl mr_12_139 rfl rfl rfl (c_fault hR (e := a) hR.2.2.2.2.2.2.2.1) ?_
            rintro _ _ ⟨rfl, I2, rfl, hx2, hR2⟩
            rw [if_pos rfl] at hR2
            show Ev lyM (d + 3) hX12_readAct 43 [some (.ref 0), some (.int x), some (.int (pk t E (true, a)))] [] (I2, J, R) _
            exact ev_vret dX12_readAct_43 rfl (⟨rfl, _, rfl, hx2, hR2⟩)
theorem c_readAct {I : Nat → Nat → Int32} {J : Nat → Nat → Int64} {R : Nat → Nat → Value} {t : Nat → Nat} {d E N T k : Nat} {s : PS} (hR : mR 6 I R t E N T s) (hg : goes E s) (hk : k + 1 < 160) : Cal lyM (d + 3) hX12_readAct 3 [.ref 0, .int (nI k)] (I, J, R) (aQ k I J R t E N T s) := by
  obtain ⟨b, a⟩ := s
  obtain ⟨h0, hlt⟩ := hg
  cases b
  · cases h0
  · simp only at hlt
    by_cases h1 : t a = 62
    · exact c_rA62 hR hlt hk h1
    · by_cases h2 : t a = 118
      · exact c_rA118 hR hlt hk h2
      · by_cases h3 : t a = 116 ∨ t a = 108 ∨ t a = 115
        · rcases h3 with q | q | q
          · exact c_rA116 hR hlt hk q
          · exact c_rA108 hR hlt hk q
          · exact c_rA115 hR hlt hk q
        · have h256 := hR.t a hlt
          have ne : ∀ c, c < 256 → ¬ t a = c → ¬ pk t E (true, a) = nI c := fun c hc hn q => by
            rw [pk_at hlt] at q
            exact hn ((nI_eq (by omega) (by omega)).mp q)
          refine (c_rAn (x := nI k) hR (ne 62 (by decide) h1) (ne 116 (by decide) (by omega)) (ne 108 (by decide) (by omega)) (ne 118 (by decide) h2) (ne 115 (by decide) (by omega))).imp ?_
          rintro _ _ ⟨rfl, I3, rfl, hx, hR3⟩
          exact aQ_n (show (aR t E (true, a)).2.2 = (false, a) by rw [aR, if_neg h1, if_neg h2, if_neg h3]) hx hR3
theorem c_readAct60 {I : Nat → Nat → Int32} {J : Nat → Nat → Int64} {R : Nat → Nat → Value} {t : Nat → Nat} {d E N T a : Nat} {x : Int32} (hR : mR 6 I R t E N T (true, a)) (hg : ¬ a < E) : Cal lyM (d + 3) hX12_readAct 3 [.ref 0, .int x] (I, J, R) (fun r M' => r = none ∧ ∃ I3, M' = (I3, J, R) ∧ rF I I3 ∧ mR 6 I3 R t E N T (false, a)) := by
  have e : pk t E (true, a) = -1 := by rw [pk, if_pos rfl, if_neg hg]
  exact c_rAn hR (by rw [e]; decide) (by rw [e]; decide) (by rw [e]; decide) (by rw [e]; decide) (by rw [e]; decide)
