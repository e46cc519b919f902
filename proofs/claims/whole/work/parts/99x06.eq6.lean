/-! equalities: what the widow hears, the model's cuts, the class's choice -/
def hA (sy : Nat → Int32) (s : Nat) : Nat := (sy (4 * s + 2)).toNatClampNeg
def sy9 (sy : Nat → Int32) (ns : Nat) : Prop := ∀ s, s < ns → ∃ t, t ≤ 9 ∧ sy (4 * s + 2) = nI t
theorem hA_n {sy : Nat → Int32} {ns s : Nat} (h : sy9 sy ns) (hs : s < ns) : sy (4 * s + 2) = nI (hA sy s) ∧ hA sy s ≤ 9 := by
  obtain ⟨t, ht, e⟩ := h s hs
  unfold hA
  rw [e, nI_clamp (by omega)]
  exact ⟨rfl, ht⟩
/-- what the model's search leaves: the best, and its row -/
def gwQ (k hm T : Nat) (q : Nat × List Nat) (t r : St3) (ln : Nat → Int32) : Prop := (∀ j, j < k → r.2.2 j = ln j) ∧ if hm + q.1 < T then r.1 = nI (hm + q.1) ∧ (∀ j, j < k → r.2.1 j = ln j) ∧ (∀ i x, q.2[i]? = some x → r.2.1 (k + i) = nI x) else r.1 = t.1 ∧ r.2.1 = t.2.1
def gwO (k hm T : Nat) (q : Option (Nat × List Nat)) (t r : St3) (ln : Nat → Int32) : Prop := match q with
  | some q => gwQ k hm T q t r ln
  | none => (∀ j, j < k → r.2.2 j = ln j) ∧ r.1 = t.1 ∧ r.2.1 = t.2.1
theorem gwL_sp {v k hm : Nat} {rec : Nat → St3 → St3} {rc : Nat → Nat × List Nat} {ns : Nat} (hr : ∀ s u T, s < ns → v / 2 ^ s % 2 = 1 → u.1 = nI T → T ≤ 1000000 → gwQ k hm T (rc s) u (rec s u) u.2.2) (hrc : ∀ s, s < ns → v / 2 ^ s % 2 = 1 → hm + (rc s).1 ≤ 1000000) : ∀ n s u T, s + n = ns → u.1 = nI T → T ≤ 1000000 → gwO k hm T (gRL v rc n s) u (m_gwL v rec n s u) u.2.2
  | 0, s, u, T, _, _, _ => ⟨fun _ _ => rfl, rfl, rfl⟩
  | n + 1, s, u, T, hn, e, hT => by
    rw [m_gwL, gRL]
    by_cases hb : v / 2 ^ s % 2 = 1
    · rw [if_pos hb, if_pos hb]
      obtain ⟨a1, a2⟩ := hr s u T (by omega) hb e hT
      have hc := hrc s (by omega) hb
      by_cases z : hm + (rc s).1 < T
      · rw [if_pos z] at a2
        obtain ⟨b1, b2, b3⟩ := a2
        have ih := gwL_sp hr hrc n (s + 1) (rec s u) (hm + (rc s).1) (by omega) b1 hc
        cases eg : gRL v rc n (s + 1) with
        | none =>
          rw [eg] at ih
          obtain ⟨c1, c2, c3⟩ := ih
          refine ⟨fun j hj => (c1 j hj).trans (a1 j hj), ?_⟩
          rw [if_pos z, c2, c3]
          exact ⟨b1, b2, b3⟩
        | some q =>
          rw [eg] at ih
          obtain ⟨c1, c2⟩ := ih
          simp only
          by_cases y : q.1 < (rc s).1
          · rw [if_pos y]
            rw [if_pos (by omega)] at c2
            refine ⟨fun j hj => (c1 j hj).trans (a1 j hj), ?_⟩
            rw [if_pos (by omega)]
            exact ⟨c2.1, fun j hj => (c2.2.1 j hj).trans (a1 j hj), c2.2.2⟩
          · rw [if_neg y]
            rw [if_neg (by omega)] at c2
            refine ⟨fun j hj => (c1 j hj).trans (a1 j hj), ?_⟩
            rw [if_pos z, c2.1, c2.2]
            exact ⟨b1, b2, b3⟩
      · rw [if_neg z] at a2
        obtain ⟨b1, b2⟩ := a2
        have ih := gwL_sp hr hrc n (s + 1) (rec s u) T (by omega) (b1.trans e) hT
        cases eg : gRL v rc n (s + 1) with
        | none =>
          rw [eg] at ih
          obtain ⟨c1, c2, c3⟩ := ih
          refine ⟨fun j hj => (c1 j hj).trans (a1 j hj), ?_⟩
          rw [if_neg z, c2, c3]
          exact ⟨b1, b2⟩
        | some q =>
          rw [eg] at ih
          obtain ⟨c1, c2⟩ := ih
          simp only
          by_cases y : q.1 < (rc s).1
          · rw [if_pos y]
            refine ⟨fun j hj => (c1 j hj).trans (a1 j hj), ?_⟩
            by_cases x : hm + q.1 < T
            · rw [if_pos x] at c2 ⊢
              exact ⟨c2.1, fun j hj => (c2.2.1 j hj).trans (a1 j hj), c2.2.2⟩
            · rw [if_neg x] at c2 ⊢
              rw [c2.1, c2.2]
              exact ⟨b1, b2⟩
          · rw [if_neg y]
            rw [if_neg (by omega)] at c2
            refine ⟨fun j hj => (c1 j hj).trans (a1 j hj), ?_⟩
            rw [if_neg z, c2.1, c2.2]
            exact ⟨b1, b2⟩
    · rw [if_neg hb, if_neg hb]
      exact gwL_sp hr hrc n (s + 1) u T (by omega) e hT
theorem gR_le {h : Nat → Nat} {U ns : Nat} (hns : ns ≤ 8) {f v k : Nat} (hv : v < 2 ^ ns) (hc : cN v ≤ f) : (gR h U ns f v k).1 ≤ hN h ns v := by
  have h256 := p256 hns
  obtain ⟨S, hS⟩ := Mx_ex (h := h) (ns := ns) (v := v) (u := min (cN v) (U - k)) (by omega) (by omega)
  rw [gR_sp hns f v k hv hc S hS]
  exact Nat.sub_le _ _
theorem hN_h {h : Nat → Nat} {ns b : Nat} (h9 : ∀ s, s < ns → h s ≤ 9) : ∀ n, n ≤ ns → hN h n b ≤ 9 * n
  | 0, _ => Nat.le_refl 0
  | n + 1, hn => by
    have ih := hN_h (b := b) h9 n (by omega)
    show hN h n b + b / 2 ^ n % 2 * h n ≤ _
    have : b / 2 ^ n % 2 * h n ≤ 1 * 9 := Nat.mul_le_mul bitle (h9 n (by omega))
    omega
theorem gw_sp {sy : Nat → Int32} {a e ns : Nat} (hns : ns ≤ 8) (h9 : sy9 sy ns) : ∀ f v k hm t T, v < 2 ^ ns → cN v ≤ f → t.1 = nI T → T ≤ 1000000 → hm + hN (hA sy) ns v ≤ 100 → gwQ k hm T (gR (hA sy) (e - a) ns f v k) t (m_gw sy a e ns f v k (nI hm) t) t.2.2 := by
  intro f
  have h256 := p256 hns
  have leaf : ∀ k hm T (t : St3), t.1 = nI T → T ≤ 1000000 → hm ≤ 100 → gwQ k hm T (0, []) t (if ¬ nI hm < t.1 then t else (nI hm, m_cp t.2.2 t.2.1 k, t.2.2)) t.2.2 := fun k hm T t e hT hh => by
    have hl := nI_ltI (a := hm) (b := T) (by omega) (by omega)
    rw [e]
    by_cases z : hm < T
    · rw [if_neg (fun q => q (hl.mpr z))]
      refine ⟨fun _ _ => rfl, ?_⟩
      rw [if_pos (show hm + 0 < T from z)]
      exact ⟨rfl, fun j hj => if_pos hj, fun i x q => by cases q⟩
    · rw [if_pos (fun q => z (hl.mp q))]
      refine ⟨fun _ _ => rfl, ?_⟩
      rw [if_neg (show ¬ hm + 0 < T from z)]
      exact ⟨rfl, rfl⟩
  induction f with
  | zero =>
    intro v k hm t T hv hc e1 hT hh
    have h0 : v = 0 := cN_0 v (by omega) (by omega)
    rw [m_gw, gR]
    simp only [h0, if_true]
    exact leaf k hm T t e1 hT (by omega)
  | succ f ih =>
    intro v k hm t T hv hc e1 hT hh
    rw [m_gw, gR]
    by_cases h0 : v = 0
    · simp only [h0, if_true]
      exact leaf k hm T t e1 hT (by omega)
    · rw [if_neg h0, if_neg h0]
      have hv8 : v < 256 := by omega
      have hl := nI_ltI (a := hm) (b := T) (by omega) (by omega)
      have hoff : ∀ s, s < ns → v / 2 ^ s % 2 = 1 → hN (hA sy) ns (v - 2 ^ s) + hA sy s = hN (hA sy) ns v := fun s hs hb => hN_off hns hv8 hs hb
      have hcc : ∀ s, s < ns → v / 2 ^ s % 2 = 1 → cN (v - 2 ^ s) ≤ f := fun s hs hb => by have := (cN_off v hv8 s (by omega) hb).1; omega
      have key := gwL_sp (v := v) (k := k) (hm := hm) (ns := ns) (rec := fun s u => m_gw sy a e ns f (v - 2 ^ s) (k + 1) (nI hm + (if a + k < e then 0 else sy (4 * s + 2))) (u.1, u.2.1, upd u.2.2 k (nI s))) (rc := fun s => ((if k < e - a then 0 else hA sy s) + (gR (hA sy) (e - a) ns f (v - 2 ^ s) (k + 1)).1, s :: (gR (hA sy) (e - a) ns f (v - 2 ^ s) (k + 1)).2)) (fun s u T2 hs hb eu hT2 => by
        have e2 : nI hm + (if a + k < e then 0 else sy (4 * s + 2)) = nI (hm + (if k < e - a then 0 else hA sy s)) := by
          by_cases z : a + k < e
          · rw [if_pos z, if_pos (by omega), Int32.add_zero]; rfl
          · rw [if_neg z, if_neg (by omega), (hA_n h9 hs).1, nI_add]
        have ho := hoff s hs hb
        have hsm : (if k < e - a then 0 else hA sy s) ≤ hA sy s := by split <;> omega
        have i1 := ih (v - 2 ^ s) (k + 1) (hm + (if k < e - a then 0 else hA sy s)) (u.1, u.2.1, upd u.2.2 k (nI s)) T2 (sub_l hv) (hcc s hs hb) eu hT2 (by omega)
        rw [e2]
        obtain ⟨j1, j2⟩ := i1
        refine ⟨fun j hj => ?_, ?_⟩
        · rw [j1 j (by omega)]; exact upd_ne (by omega)
        · simp only
          rw [← Nat.add_assoc]
          by_cases z : hm + (if k < e - a then 0 else hA sy s) + (gR (hA sy) (e - a) ns f (v - 2 ^ s) (k + 1)).1 < T2
          · rw [if_pos z] at j2 ⊢
            refine ⟨j2.1, fun j hj => ?_, fun i x hx => ?_⟩
            · rw [j2.2.1 j (by omega)]; exact upd_ne (by omega)
            · cases i with
              | zero =>
                cases hx
                exact (j2.2.1 k (by omega)).trans (by simp [upd])
              | succ i =>
                rw [show k + (i + 1) = k + 1 + i by omega]
                exact j2.2.2 i x hx
          · rw [if_neg z] at j2 ⊢
            exact j2) (fun s hs hb => by
        have ho := hoff s hs hb
        have := gR_le (h := hA sy) (U := e - a) (k := k + 1) hns (sub_l (s := s) hv) (hcc s hs hb)
        have hsm : (if k < e - a then 0 else hA sy s) ≤ hA sy s := by split <;> omega
        simp only
        omega) ns 0 t T (by omega) e1 hT
      have hne : gRL v (fun s => ((if k < e - a then 0 else hA sy s) + (gR (hA sy) (e - a) ns f (v - 2 ^ s) (k + 1)).1, s :: (gR (hA sy) (e - a) ns f (v - 2 ^ s) (k + 1)).2)) ns 0 ≠ none := by
        obtain ⟨m0, hm0, hmb0, _⟩ := low_b v hv8 (by omega)
        rcases gRL_sp (v := v) (rec := fun s => ((if k < e - a then 0 else hA sy s) + (gR (hA sy) (e - a) ns f (v - 2 ^ s) (k + 1)).1, s :: (gR (hA sy) (e - a) ns f (v - 2 ^ s) (k + 1)).2)) ns 0 with ⟨_, g⟩ | ⟨t, _, _, _, e, _⟩
        · exact absurd hmb0 (g m0 (by omega) (by have := bit_ns hv hmb0; omega))
        · rw [e]; exact fun q => by cases q
      generalize gRL v (fun s => ((if k < e - a then 0 else hA sy s) + (gR (hA sy) (e - a) ns f (v - 2 ^ s) (k + 1)).1, s :: (gR (hA sy) (e - a) ns f (v - 2 ^ s) (k + 1)).2)) ns 0 = g at key hne ⊢
      cases g with
      | none => exact absurd rfl hne
      | some q =>
        rw [e1]
        by_cases z : hm < T
        · rw [if_neg (fun w => w (hl.mpr z))]
          exact key
        · rw [if_pos (fun w => z (hl.mp w))]
          refine ⟨fun _ _ => rfl, ?_⟩
          show if hm + q.1 < T then _ else _
          rw [if_neg (by omega)]
          exact ⟨rfl, rfl⟩
/-! the class's choice -/
theorem nx_xor (a b : Nat) : nI a ^^^ nI b = nI (a ^^^ b) := by
  apply Int32.toBitVec_inj.1
  show BitVec.ofNat 32 a ^^^ BitVec.ofNat 32 b = BitVec.ofNat 32 (a ^^^ b)
  apply BitVec.eq_of_getLsbD_eq
  intro i hi
  simp [hi]
theorem low_x : ∀ y, y < 256 → 0 < y → ∃ m, m < 8 ∧ nI y &&& (-(nI y)) = (1 : Int32) <<< (nI m &&& 31) ∧ y / 2 ^ m % 2 = 1 ∧ ∀ t, t < m → y / 2 ^ t % 2 = 0 := by decide +kernel
theorem rv_cmp {b c m : Nat} (hm : m < 8) (h1 : b / 2 ^ m % 2 = 1) (h0 : c / 2 ^ m % 2 = 0) (h : ∀ t, t < m → b / 2 ^ t % 2 = c / 2 ^ t % 2) : rv c < rv b := by
  have g0 : 0 < m → b % 2 = c % 2 := fun q => by simpa using h 0 q
  have g1 : 1 < m → b / 2 % 2 = c / 2 % 2 := fun q => h 1 q
  have g2 : 2 < m → b / 4 % 2 = c / 4 % 2 := fun q => h 2 q
  have g3 : 3 < m → b / 8 % 2 = c / 8 % 2 := fun q => h 3 q
  have g4 : 4 < m → b / 16 % 2 = c / 16 % 2 := fun q => h 4 q
  have g5 : 5 < m → b / 32 % 2 = c / 32 % 2 := fun q => h 5 q
  have g6 : 6 < m → b / 64 % 2 = c / 64 % 2 := fun q => h 6 q
  have b0 : b % 2 ≤ 1 := by omega
  have b1 : b / 2 % 2 ≤ 1 := by omega
  have b2 : b / 4 % 2 ≤ 1 := by omega
  have b3 : b / 8 % 2 ≤ 1 := by omega
  have b4 : b / 16 % 2 ≤ 1 := by omega
  have b5 : b / 32 % 2 ≤ 1 := by omega
  have b6 : b / 64 % 2 ≤ 1 := by omega
  have b7 : b / 128 % 2 ≤ 1 := by omega
  have c0 : c % 2 ≤ 1 := by omega
  have c1 : c / 2 % 2 ≤ 1 := by omega
  have c2 : c / 4 % 2 ≤ 1 := by omega
  have c3 : c / 8 % 2 ≤ 1 := by omega
  have c4 : c / 16 % 2 ≤ 1 := by omega
  have c5 : c / 32 % 2 ≤ 1 := by omega
  have c6 : c / 64 % 2 ≤ 1 := by omega
  have c7 : c / 128 % 2 ≤ 1 := by omega
  have k1 : (m = 0 → b % 2 = 1) ∧ (m = 1 → b / 2 % 2 = 1) ∧ (m = 2 → b / 4 % 2 = 1) ∧ (m = 3 → b / 8 % 2 = 1) ∧ (m = 4 → b / 16 % 2 = 1) ∧ (m = 5 → b / 32 % 2 = 1) ∧ (m = 6 → b / 64 % 2 = 1) ∧ (m = 7 → b / 128 % 2 = 1) := ⟨fun q => by subst q; simpa using h1, fun q => by subst q; exact h1, fun q => by subst q; exact h1, fun q => by subst q; exact h1, fun q => by subst q; exact h1, fun q => by subst q; exact h1, fun q => by subst q; exact h1, fun q => by subst q; exact h1⟩
  have k0 : (m = 0 → c % 2 = 0) ∧ (m = 1 → c / 2 % 2 = 0) ∧ (m = 2 → c / 4 % 2 = 0) ∧ (m = 3 → c / 8 % 2 = 0) ∧ (m = 4 → c / 16 % 2 = 0) ∧ (m = 5 → c / 32 % 2 = 0) ∧ (m = 6 → c / 64 % 2 = 0) ∧ (m = 7 → c / 128 % 2 = 0) := ⟨fun q => by subst q; simpa using h0, fun q => by subst q; exact h0, fun q => by subst q; exact h0, fun q => by subst q; exact h0, fun q => by subst q; exact h0, fun q => by subst q; exact h0, fun q => by subst q; exact h0, fun q => by subst q; exact h0⟩
  unfold rv
  clear h h1 h0
  generalize b % 2 = x0 at *
  generalize b / 2 % 2 = x1 at *
  generalize b / 4 % 2 = x2 at *
  generalize b / 8 % 2 = x3 at *
  generalize b / 16 % 2 = x4 at *
  generalize b / 32 % 2 = x5 at *
  generalize b / 64 % 2 = x6 at *
  generalize b / 128 % 2 = x7 at *
  generalize c % 2 = y0 at *
  generalize c / 2 % 2 = y1 at *
  generalize c / 4 % 2 = y2 at *
  generalize c / 8 % 2 = y3 at *
  generalize c / 16 % 2 = y4 at *
  generalize c / 32 % 2 = y5 at *
  generalize c / 64 % 2 = y6 at *
  generalize c / 128 % 2 = y7 at *
  rcases (by omega : m = 0 ∨ m = 1 ∨ m = 2 ∨ m = 3 ∨ m = 4 ∨ m = 5 ∨ m = 6 ∨ m = 7) with q | q | q | q | q | q | q | q <;> subst q <;> simp only [Nat.reduceLT, true_implies, false_implies, Nat.reduceEqDiff] at g0 g1 g2 g3 g4 g5 g6 k1 k0 <;> simp at k1 k0 <;> omega
theorem bt_x {b c t : Nat} (ht : t < 8) : (b ^^^ c) / 2 ^ t % 2 = 1 ↔ ¬ b / 2 ^ t % 2 = c / 2 ^ t % 2 := by
  have e : bt (nI (b ^^^ c)) t = (bt (nI b) t ^^ bt (nI c) t) := by rw [← nx_xor, b_xor]
  rw [bt_nI (by omega), bt_nI (by omega), bt_nI (by omega)] at e
  have h1 := bitle (v := b) (i := t)
  have h2 := bitle (v := c) (i := t)
  have h3 := bitle (v := b ^^^ c) (i := t)
  by_cases q : b / 2 ^ t % 2 = 1 <;> by_cases r : c / 2 ^ t % 2 = 1 <;> by_cases s : (b ^^^ c) / 2 ^ t % 2 = 1 <;> simp [q, r, s] at e ⊢ <;> omega
theorem lr_iff {b c : Nat} (hb : b < 256) (hc : c < 256) (hn : ¬ b = c) : k_lr (nI b) (nI c) = true ↔ rv c < rv b := by
  have hy : b ^^^ c < 2 ^ 8 := Nat.xor_lt_two_pow hb hc
  have h0 : 0 < b ^^^ c := by
    rcases Nat.eq_zero_or_pos (b ^^^ c) with q | q
    · have e := Nat.xor_assoc b c c
      rw [q, Nat.xor_self, Nat.xor_zero, Nat.zero_xor] at e
      exact absurd e.symm hn
    · exact q
  obtain ⟨m, hm, e, h1, h2⟩ := low_x (b ^^^ c) hy h0
  have hag : ∀ t, t < m → b / 2 ^ t % 2 = c / 2 ^ t % 2 := fun t ht => by
    have := h2 t ht
    by_cases q : b / 2 ^ t % 2 = c / 2 ^ t % 2
    · exact q
    · rw [(bt_x (by omega)).mpr q] at this; cases this
  have hdf := (bt_x hm).mp h1
  have b1 := bitle (v := b) (i := m)
  have c1 := bitle (v := c) (i := m)
  unfold k_lr
  rw [nx_xor, e, Int32.and_comm, and_bit _ hm, k_b_nI hb hm]
  by_cases q : b / 2 ^ m % 2 = 1
  · have := rv_cmp hm q (by omega) hag
    rw [q]
    refine ⟨fun _ => this, fun _ => ?_⟩
    have : ∀ m, m < 8 → (!decide ((nI 1) <<< (nI m &&& 31) = 0)) = true := by decide
    exact this m hm
  · have q0 : b / 2 ^ m % 2 = 0 := by omega
    have := rv_cmp (b := c) (c := b) hm (by omega) q0 (fun t ht => (hag t ht).symm)
    rw [q0]
    refine ⟨fun z => ?_, fun z => by omega⟩
    have h0 := bt_or0 m hm
    rw [nI_0, h0] at z
    exact absurd z (by decide)
theorem lh_sp {h : Nat → Nat} {ns v u : Nat} {H : Nat → Int32} (hns : ns ≤ 8) (h9 : ∀ s, s < ns → h s ≤ 9) (hH : ∀ b, b < 256 → H b = nI (hN h ns b)) (hv : v < 256) : ∀ b, b ≤ v + 1 → (k_lh H v u b = (0, -1) ∧ ∀ T, T < b → sb T v → ¬ cN T = u) ∨ (∃ S, S < b ∧ sb S v ∧ cN S = u ∧ k_lh H v u b = (S, H S) ∧ ∀ T, T < b → sb T v → cN T = u → wW h ns T ≤ wW h ns S)
  | 0, _ => Or.inl ⟨rfl, fun T hT => absurd hT (Nat.not_lt_zero T)⟩
  | b + 1, hb => by
    have ih := lh_sp (u := u) hns h9 hH hv b (by omega)
    rw [k_lh]
    have hb8 : b < 256 := by omega
    have h1 := hN_h (b := b) h9 ns (Nat.le_refl _)
    by_cases hs : sb b v
    · rw [if_pos (show nI b &&& (nI v ^^^ (-1)) = 0 from hs)]
      by_cases hc : cN b = u
      · rw [if_pos hc]
        rcases ih with ⟨e, g⟩ | ⟨S, s1, s2, s3, e, g⟩
        · rw [e]
          right
          have hm : (-1 : Int32) < H b := Int32.lt_of_lt_of_le (by decide : (-1 : Int32) < 0) (by rw [hH b hb8]; exact nI_pos' (by omega))
          simp only
          rw [if_pos hm]
          refine ⟨b, by omega, hs, hc, rfl, fun T hT q1 q2 => ?_⟩
          rcases (by omega : T < b ∨ T = b) with z | z
          · exact absurd q2 (g T z q1)
          · rw [z]; exact Nat.le_refl _
        · have h2 := hN_h (b := S) h9 ns (Nat.le_refl _)
          rw [e]
          simp only
          have hl : H S < H b ↔ hN h ns S < hN h ns b := by
            rw [hH S (by omega), hH b hb8]; exact nI_ltI (by omega) (by omega)
          have he : H b = H S ↔ hN h ns b = hN h ns S := by
            rw [hH S (by omega), hH b hb8]; exact nI_eq (by omega) (by omega)
          have r1 := rv_lt S (by omega)
          have r2 := rv_lt b hb8
          have hlr := lr_iff (b := b) (c := S) hb8 (by omega) (by omega)
          right
          by_cases x1 : hN h ns S < hN h ns b
          · rw [if_pos (hl.mpr x1)]
            refine ⟨b, by omega, hs, hc, rfl, fun T hT q1 q2 => ?_⟩
            rcases (by omega : T < b ∨ T = b) with z | z
            · have := g T z q1 q2
              unfold wW at this ⊢
              omega
            · rw [z]; exact Nat.le_refl _
          · rw [if_neg (fun w => x1 (hl.mp w))]
            by_cases x2 : hN h ns b = hN h ns S
            · rw [if_pos (he.mpr x2)]
              by_cases x3 : rv S < rv b
              · rw [if_pos (hlr.mpr x3)]
                refine ⟨b, by omega, hs, hc, rfl, fun T hT q1 q2 => ?_⟩
                rcases (by omega : T < b ∨ T = b) with z | z
                · have := g T z q1 q2
                  unfold wW at this ⊢
                  omega
                · rw [z]; exact Nat.le_refl _
              · rw [if_neg (fun w => x3 (hlr.mp w))]
                refine ⟨S, by omega, s2, s3, rfl, fun T hT q1 q2 => ?_⟩
                rcases (by omega : T < b ∨ T = b) with z | z
                · exact g T z q1 q2
                · rw [z]; unfold wW; omega
            · rw [if_neg (fun w => x2 (he.mp w))]
              refine ⟨S, by omega, s2, s3, rfl, fun T hT q1 q2 => ?_⟩
              rcases (by omega : T < b ∨ T = b) with z | z
              · exact g T z q1 q2
              · rw [z]; unfold wW; omega
      · rw [if_neg hc]
        rcases ih with ⟨e, g⟩ | ⟨S, s1, s2, s3, e, g⟩
        · left
          refine ⟨e, fun T hT q1 => ?_⟩
          rcases (by omega : T < b ∨ T = b) with z | z
          · exact g T z q1
          · rw [z]; exact hc
        · right
          refine ⟨S, by omega, s2, s3, e, fun T hT q1 q2 => ?_⟩
          rcases (by omega : T < b ∨ T = b) with z | z
          · exact g T z q1 q2
          · rw [z] at q2; exact absurd q2 hc
    · rw [if_neg (show ¬ nI b &&& (nI v ^^^ (-1)) = 0 from hs)]
      rcases ih with ⟨e, g⟩ | ⟨S, s1, s2, s3, e, g⟩
      · left
        refine ⟨e, fun T hT q1 => ?_⟩
        rcases (by omega : T < b ∨ T = b) with z | z
        · exact g T z q1
        · rw [z] at q1; exact absurd q1 hs
      · right
        refine ⟨S, by omega, s2, s3, e, fun T hT q1 q2 => ?_⟩
        rcases (by omega : T < b ∨ T = b) with z | z
        · exact g T z q1 q2
        · rw [z] at q1; exact absurd q1 hs
theorem lh_mx {h : Nat → Nat} {ns v u : Nat} {H : Nat → Int32} (hns : ns ≤ 8) (h9 : ∀ s, s < ns → h s ≤ 9) (hH : ∀ b, b < 256 → H b = nI (hN h ns b)) (hv : v < 256) (hu : u ≤ cN v) : Mx h ns v u (k_lh H v u (v + 1)).1 := by
  have hle : ∀ T, T < 256 → sb T v → T < v + 1 := fun T hT hs => by
    have := (sub_bits v hv T hT hs).2.2.2.2.2.2.2.2
    omega
  rcases lh_sp (u := u) hns h9 hH hv (v + 1) (Nat.le_refl _) with ⟨e, g⟩ | ⟨S, s1, s2, s3, e, g⟩
  · obtain ⟨S, a1, a2, a3, _⟩ := Mx_ex (h := h) (ns := ns) hv hu
    exact absurd a3 (g S (hle S a1 a2) a2)
  · rw [e]
    exact ⟨by show S < 256; omega, s2, s3, fun T hT q1 q2 => g T (hle T hT q1) q1 q2⟩
/-! sums and rows -/
theorem sumA {f : Nat → Int32} {h : Nat → Nat} {b : Nat} (hb : b < 256) : ∀ n, n ≤ 8 → (∀ s, s < n → f s = nI (h s)) → k_sum f (nI b) n = nI (hN h n b)
  | 0, _, _ => rfl
  | n + 1, hn, hf => by
    rw [k_sum, sumA hb n (by omega) (fun s hs => hf s (by omega)), hf n (by omega), k_b_nI hb (by omega), pk_mul, nI_add]
    rfl
theorem hN_sub {h : Nat → Nat} {v S : Nat} (hv : v < 256) (hS : S < 256) (hs : sb S v) : ∀ n, n ≤ 8 → hN h n (v - S) + hN h n S = hN h n v
  | 0, _ => rfl
  | n + 1, hn => by
    have ih := hN_sub (h := h) hv hS hs n (by omega)
    have e : bt (nI (v - S)) n = (bt (nI v) n && !bt (nI S) n) := by
      rw [← (sub_set v hv S hS hs).2.1, b_and, b_xor, b_m1 n (by omega), Bool.xor_true]
    rw [bt_nI (by omega), bt_nI (by omega), bt_nI (by omega)] at e
    have h1 := bitle (v := v) (i := n)
    have h2 := bitle (v := S) (i := n)
    have h3 := bitle (v := v - S) (i := n)
    have h4 := (sb_iff hS).mp hs n (by omega)
    have hbit : (v - S) / 2 ^ n % 2 + S / 2 ^ n % 2 = v / 2 ^ n % 2 := by
      by_cases q : v / 2 ^ n % 2 = 1 <;> by_cases r : S / 2 ^ n % 2 = 1 <;> by_cases s : (v - S) / 2 ^ n % 2 = 1 <;> simp [q, r, s] at e h4 ⊢ <;> omega
    show hN h n (v - S) + (v - S) / 2 ^ n % 2 * h n + (hN h n S + S / 2 ^ n % 2 * h n) = hN h n v + v / 2 ^ n % 2 * h n
    rw [← hbit, Nat.add_mul]
    omega
theorem mbr_ris : ∀ S, S < 256 → mbr (nI S) 8 = (ris S).map (fun s => (nI s).toInt64) := by decide +kernel
/-- the widow, by both -/
theorem wid_eq {sy f13 : Nat → Int32} {ns v a e : Nat} {f20 f17 : Nat → Int32} (hns : ns ≤ 8) (h9 : sy9 sy ns) (hf : ∀ s, s < ns → f13 s = sy (4 * s + 2)) (hv : v < 2 ^ ns) (hc : cN v ≤ 6) : (m_gw sy a e ns 6 v 0 0 (1000000, f20, f17)).1 = k_sum f13 (nI v &&& (nI (k_lh (fun b => k_sum f13 (nI b) ns) v (min (cN v) (e - a)) (v + 1)).1 ^^^ (-1))) ns ∧ (mbr (nI (k_lh (fun b => k_sum f13 (nI b) ns) v (min (cN v) (e - a)) (v + 1)).1) 8 ++ mbr (nI v &&& (nI (k_lh (fun b => k_sum f13 (nI b) ns) v (min (cN v) (e - a)) (v + 1)).1 ^^^ (-1))) 8).length = cN v ∧ ∀ i x, (mbr (nI (k_lh (fun b => k_sum f13 (nI b) ns) v (min (cN v) (e - a)) (v + 1)).1) 8 ++ mbr (nI v &&& (nI (k_lh (fun b => k_sum f13 (nI b) ns) v (min (cN v) (e - a)) (v + 1)).1 ^^^ (-1))) 8)[i]? = some x → x = ((m_gw sy a e ns 6 v 0 0 (1000000, f20, f17)).2.1 i).toInt64 := by
  have h256 := p256 hns
  have hv8 : v < 256 := by omega
  have hf2 : ∀ s, s < ns → f13 s = nI (hA sy s) := fun s hs => (hf s hs).trans (hA_n h9 hs).1
  have hh9 : ∀ s, s < ns → hA sy s ≤ 9 := fun s hs => (hA_n h9 hs).2
  have hM := lh_mx (h := hA sy) (ns := ns) (v := v) (u := min (cN v) (e - a)) (H := fun b => k_sum f13 (nI b) ns) hns hh9 (fun b hb => sumA hb ns hns hf2) hv8 (by omega)
  generalize (k_lh (fun b => k_sum f13 (nI b) ns) v (min (cN v) (e - a)) (v + 1)).1 = S at hM ⊢
  obtain ⟨s1, s2, s3, s4⟩ := hM
  obtain ⟨_, q2, q3⟩ := sub_set v hv8 S s1 s2
  have hle := (sub_bits v hv8 S s1 s2).2.2.2.2.2.2.2.2
  have hT := hN_h (b := v) hh9 ns (Nat.le_refl _)
  have hw := gw_sp (sy := sy) (a := a) (e := e) hns h9 6 v 0 0 (1000000, f20, f17) 1000000 hv hc rfl (by omega) (by omega)
  rw [gR_sp hns 6 v 0 hv hc S ⟨s1, s2, by rw [s3, Nat.sub_zero], fun T t1 t2 t3 => s4 T t1 t2 (by rw [t3, Nat.sub_zero])⟩] at hw
  obtain ⟨_, hw⟩ := hw
  rw [if_pos (by simp only; omega)] at hw
  obtain ⟨w1, _, w3⟩ := hw
  have hsub := hN_sub (h := hA sy) hv8 s1 s2 ns hns
  rw [q2, mbr_ris S s1, mbr_ris (v - S) (by omega), ← List.map_append]
  refine ⟨?_, ?_, fun i x hx => ?_⟩
  · rw [sumA (by omega) ns hns hf2]
    show (m_gw sy a e ns 6 v 0 (nI 0) (1000000, f20, f17)).1 = _
    rw [w1]
    simp only
    rw [show 0 + (hN (hA sy) ns v - hN (hA sy) ns S) = hN (hA sy) ns (v - S) by omega]
  · rw [List.length_map, List.length_append, ris_len S s1, ris_len (v - S) (by omega)]
    omega
  · rw [List.getElem?_map] at hx
    obtain ⟨y, hy, e2⟩ := Option.map_eq_some_iff.mp hx
    have := w3 i y hy
    rw [Nat.zero_add] at this
    show x = ((m_gw sy a e ns 6 v 0 (nI 0) (1000000, f20, f17)).2.1 i).toInt64
    rw [this, ← e2]
