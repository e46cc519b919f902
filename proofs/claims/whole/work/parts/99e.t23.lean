/-! texts: walk: the call of the model -/
theorem aGo_24 {sp str tl sy : Nat → Int32} {n c ns rs k v a : Nat} {rv : RV} {row : Nat → Int32} {g : (Nat → Int32) × Nat} (h : aGo sp str tl sy n c ns rs rv k v row a = some g) (hns8 : ns ≤ 8) (hv : v < 10) (h24 : row 24 = nI a) (hac : a ≤ c) : g.1 24 = nI g.2 ∧ g.2 ≤ c := by
  unfold aGo at h
  have up : ∀ (j : Nat) (x : Int32), j ≠ 24 → upd row j x 24 = row 24 := fun j x hj => by simp [upd, Ne.symm hj]
  split at h
  · split at h
    · next q => cases h; exact ⟨m_NX_24 (sp := sp) (str := str) (tl := tl) (n := n) (c := c) (rs := rs) (rv := rv) h24, rS_lt q⟩
    · cases h
  · split at h
    · split at h
      · cases h; exact ⟨(up _ _ (by omega)).trans h24, hac⟩
      · cases h
    · split at h
      · split at h
        · cases h; exact ⟨(up _ _ (by omega)).trans h24, hac⟩
        · cases h
      · split at h
        · split at h
          · cases h; exact ⟨(up 26 (nI v) (by decide)).trans h24, hac⟩
          · cases h
        · split at h
          · next q =>
            cases h
            have hs := (rY_v hns8 hv (by rw [q]; decide)).1
            exact ⟨(gy_at ⟨by decide, by decide, by omega⟩).trans h24, hac⟩
          · cases h
theorem c_actS {I I2 : Nat → Nat → Int32} {J : Nat → Nat → Int64} {R R2 : Nat → Nat → Value} {d n c ns a rp rs k v : Nat} {rv : RV} {x : Int32} {row : Nat → Int32} (hA : mA I R d n c rp rs rv) (hns : I 0 6 = nI ns) (hns8 : ns ≤ 8) (hs : sM (va_up I 1 row) R I2 R2) (ha : row 24 = nI a) (hac : a ≤ c) (hk : k = 62 ∨ k = 118 ∧ v < 4 ∨ k = 116 ∨ k = 108 ∨ k = 115) (hv : v < 10) (hx : ¬ k = 62 → x = nI v) : Cal lyM (d + 95) hX12_act 3 [.ref 0, .int (nI k), .int x] (I2, J, R2) (fun r M' => ∃ y I3 R3, r = some (.int y) ∧ M' = (I3, J, R3) ∧ ((y = 1 ∧ ∃ g, aGo (I 2) (I 3) (I 4) (I 5) n c ns rs rv k v row a = some g ∧ sM (va_up I 1 g.1) R I3 R3) ∨ (y = 0 ∧ aGo (I 2) (I 3) (I 4) (I 5) n c ns rs rv k v row a = none ∧ sM (va_up I 1 row) R I3 R3))) := by
  have e1 : I2 1 = row := (hs.r 1 rfl).trans (by simp [va_up])
  have h := c_act (J := J) (I := I2) (R := R2) (hA.sv hs) ((hs.f 6 rfl).trans hns) hns8 (by rw [e1]; exact ha) hac hk hv hx
  rw [e1, show I2 2 = I 2 from hs.r 2 rfl, show I2 3 = I 3 from hs.r 3 rfl, show I2 4 = I 4 from hs.r 4 rfl, show I2 5 = I 5 from hs.r 5 rfl] at h
  refine h.imp ?_
  intro r M' q
  rcases aMo_0 (x := 0) q with ⟨g, I3, R3, g1, g2, g3, g4⟩ | ⟨g1, g2, g3⟩
  · refine ⟨1, I3, R3, g2, g3, Or.inl ⟨rfl, g, g1, ?_⟩⟩
    have q2 := hs.up 1 rfl g.1
    rw [va_up2] at q2
    exact q2.tr g4
  · exact ⟨0, I2, R2, g2, g3, Or.inr ⟨rfl, g1, hs⟩⟩
set_option maxHeartbeats 1000000 in
theorem c_wkL {I : Nat → Nat → Int32} {J : Nat → Nat → Int64} {R : Nat → Nat → Value} {d n c ns a rp rs m u : Nat} {rv : RV} {row : Nat → Int32} {K V : Nat → Nat} (hA : mA I R d n c rp rs rv) (hns : I 0 6 = nI ns) (hns8 : ns ≤ 8) (hm : m ≤ 60) (hk : ∀ j, j < m → (K j = 62 ∨ K j = 118 ∧ V j < 4 ∨ K j = 116 ∨ K j = 108 ∨ K j = 115) ∧ V j < 10) (h15 : ∀ j, j < m → I 15 (2 * j) = nI (K j) ∧ (¬ K j = 62 → I 15 (2 * j + 1) = nI (V j))) (hu : I 0 25 = nI u) (hu12 : u ≤ 12) : ∀ (k b : Nat) (row2 : Nat → Int32) (a2 : Nat) (I2 : Nat → Nat → Int32) (R2 : Nat → Nat → Value), b ≤ m → m - b < k → sM (va_up I 1 row2) R I2 R2 → row2 24 = nI a2 → a2 ≤ c → aW (I 2) (I 3) (I 4) (I 5) n c ns rs rv K V (m - b) b row2 a2 = (aW (I 2) (I 3) (I 4) (I 5) n c ns rs rv K V m 0 row a) → Ev lyM (d + 96) hX12_walk 72 [some (.ref 0), some (.int (nI m)), some (.int (nI b))] [] (I2, J, R2) (wkM I J R m u (aW (I 2) (I 3) (I 4) (I 5) n c ns rs rv K V m 0 row a)) := by
  intro k
  induction k with
  | zero => intro b row2 a2 I2 R2 h1 h2; omega
  | succ k ih =>
    intro b row2 a2 I2 R2 hb hkk hs2 ha2 hac2 e9
    refine ev_st dX12_walk_72 rfl rfl ?_
    refine ev_st dX12_walk_73 rfl rfl ?_
    refine ev_ic_geN (t := 108) (a := b) (b := m) dX12_walk_74 (by decide) rfl rfl (by omega) (by omega) (fun c_74 => ?_) (fun c_74 => ?_)
    · rw [← e9, aW_0 (by omega)]
      exact c_wkE hs2 (by omega) hm ((hs2.f 25 rfl).trans hu) hu12
    · refine ev_st dX12_walk_77 rfl rfl ?_
      refine ev_st dX12_walk_78 rfl rfl ?_
      refine ev_getC dX12_walk_79 fr_12_58 rfl rfl ?_
      refine ev_iconst (v := 2) dX12_walk_82 (by decide) ?_
      refine ev_st dX12_walk_83 rfl rfl ?_
      refine ev_imulN (a := 2) (b := b) (c := 2 * b) dX12_walk_84 rfl rfl rfl ?_
      refine ev_iald (j := 2 * b) (v := nI (K b)) dX12_walk_85 rfl rfl (by omega) (by decide) ((congrFun (hs2.r 15 rfl) (2 * b)).trans (h15 b (by omega)).1) ?_
      refine ev_st dX12_walk_86 rfl rfl ?_
      refine ev_getC dX12_walk_87 fr_12_58 rfl rfl ?_
      refine ev_iconst (v := 2) dX12_walk_90 (by decide) ?_
      refine ev_st dX12_walk_91 rfl rfl ?_
      refine ev_imulN (a := 2) (b := b) (c := 2 * b) dX12_walk_92 rfl rfl rfl ?_
      refine ev_iconst (v := 1) dX12_walk_93 (by decide) ?_
      refine ev_iaddN (a := 2 * b) (b := 1) (c := 2 * b + 1) dX12_walk_94 rfl rfl rfl ?_
      refine ev_iald (j := 2 * b + 1) (v := I 15 (2 * b + 1)) dX12_walk_95 rfl rfl (by omega) (by decide) (congrFun (hs2.r 15 rfl) (2 * b + 1)) ?_
      refine ev_call dX12_walk_96 rfl rfl mr_12_310 rfl rfl rfl (c_actS (k := K b) (v := V b) hA hns hns8 hs2 ha2 hac2 (hk b (by omega)).1 (hk b (by omega)).2 (h15 b (by omega)).2) ?_
      rintro _ _ ⟨x9, I3, R3, rfl, rfl, hg3⟩
      show Ev lyM (d + 96) hX12_walk 99 [some (.ref 0), some (.int (nI m)), some (.int (nI b))] [.int x9] (I3, J, R3) _
      refine ev_if_eq (t := 108) (x := x9) dX12_walk_99 (by decide) (fun c_99 => ?_) (fun c_99 => ?_)
      · rcases hg3 with ⟨e5, _⟩ | ⟨_, e5, hs5⟩
        · rw [e5] at c_99; exact absurd c_99 (by decide)
        · rw [← e9, aW_n (m := m) e5]
          exact c_wkE hs5 (by omega) hm ((hs5.f 25 rfl).trans hu) hu12
      · refine ev_iincN (a := b) (b := b + 1) (L' := [some (.ref 0), some (.int (nI m)), some (.int (nI (b + 1)))]) dX12_walk_102 rfl (nI_1 _) rfl ?_
        refine ev_goto (t := 72) dX12_walk_105 (by decide) ?_
        rcases hg3 with ⟨_, g5, e5, hs5⟩ | ⟨e5, _⟩
        · have q5 := aGo_24 e5 hns8 (hk b (by omega)).2 ha2 hac2
          exact ih _ _ _ _ _ (by omega) (by omega) hs5 q5.1 q5.2 ((aW_s e5 (by omega)).symm.trans e9)
        · exact absurd e5 c_99
