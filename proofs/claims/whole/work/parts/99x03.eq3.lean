/-! equalities: the fewest, slips -/
theorem fN {F : Int32 → Int32} (hF : ∀ x, ∃ h, h ≤ 1000 ∧ F x = nI h) (x : Int32) : F x = nI (F x).toNatClampNeg ∧ (F x).toNatClampNeg ≤ 1000 := by
  obtain ⟨h, h1, e⟩ := hF x
  rw [e, nI_clamp (by omega)]
  exact ⟨rfl, h1⟩
theorem tm_sp {F : Int32 → Int32} (hF : ∀ x, ∃ h, h ≤ 1000 ∧ F x = nI h) {j : Nat} (hj : j ≤ 8) : ∀ N, N ≤ 256 → (m_tm F (nI j) N = (0, -1) ∧ ∀ s, 1 ≤ s → s < N → ¬ cN s = j) ∨ (∃ s, 1 ≤ s ∧ s < N ∧ cN s = j ∧ m_tm F (nI j) N = (nI s, F (nI s)) ∧ ∀ t, 1 ≤ t → t < N → cN t = j → (F (nI t)).toNatClampNeg < (F (nI s)).toNatClampNeg ∨ ((F (nI t)).toNatClampNeg = (F (nI s)).toNatClampNeg ∧ s ≤ t))
  | 0, _ => Or.inl ⟨rfl, fun s _ h => absurd h (Nat.not_lt_zero s)⟩
  | s + 1, hN => by
    have ih := tm_sp hF hj s (by omega)
    simp only [m_tm]
    by_cases h0 : s = 0
    · rw [if_pos h0]
      exact Or.inl ⟨rfl, fun t h1 h2 => by omega⟩
    · rw [if_neg h0]
      have hb : bc (nI s) = nI j ↔ cN s = j := by
        rw [cN_bc s (by omega)]
        exact nI_eq (by have := cN_8 s (by omega); omega) (by omega)
      obtain ⟨f1, f2⟩ := fN hF (nI s)
      by_cases hc : cN s = j
      · rcases ih with ⟨e, g⟩ | ⟨z, z1, z2, z3, e, g⟩
        · have hm : (-1 : Int32) < F (nI s) := Int32.lt_of_lt_of_le (by decide : (-1 : Int32) < 0) (by rw [f1]; exact nI_pos' (by omega))
          rw [e, if_pos ⟨hb.mpr hc, hm⟩]
          right
          refine ⟨s, by omega, by omega, hc, rfl, fun t h1 h2 h3 => ?_⟩
          rcases (by omega : t < s ∨ t = s) with q | q
          · exact absurd h3 (g t h1 q)
          · rw [q]; omega
        · obtain ⟨k1, k2⟩ := fN hF (nI z)
          have hl : F (nI z) < F (nI s) ↔ (F (nI z)).toNatClampNeg < (F (nI s)).toNatClampNeg := by
            have := nI_ltI (a := (F (nI z)).toNatClampNeg) (b := (F (nI s)).toNatClampNeg) (by omega) (by omega)
            rw [← k1, ← f1] at this
            exact this
          rw [e]
          simp only
          by_cases q : (F (nI z)).toNatClampNeg < (F (nI s)).toNatClampNeg
          · rw [if_pos ⟨hb.mpr hc, hl.mpr q⟩]
            right
            refine ⟨s, by omega, by omega, hc, rfl, fun t h1 h2 h3 => ?_⟩
            rcases (by omega : t < s ∨ t = s) with w | w
            · have := g t h1 w h3; omega
            · rw [w]; omega
          · rw [if_neg (fun w => q (hl.mp w.2))]
            right
            refine ⟨z, z1, by omega, z3, rfl, fun t h1 h2 h3 => ?_⟩
            rcases (by omega : t < s ∨ t = s) with w | w
            · exact g t h1 w h3
            · rw [w]; omega
      · rw [if_neg (fun q => hc (hb.mp q.1))]
        rcases ih with ⟨e, g⟩ | ⟨z, z1, z2, z3, e, g⟩
        · left
          refine ⟨e, fun t h1 h2 => ?_⟩
          rcases (by omega : t < s ∨ t = s) with q | q
          · exact g t h1 q
          · rw [q]; exact hc
        · right
          refine ⟨z, z1, by omega, z3, e, fun t h1 h2 h3 => ?_⟩
          rcases (by omega : t < s ∨ t = s) with q | q
          · exact g t h1 q h3
          · rw [q] at h3; exact absurd h3 hc
theorem fw_sp {F : Int32 → Int32} (hF : ∀ x, ∃ h, h ≤ 1000 ∧ F x = nI h) {q : Nat} (hq : q ≤ 2000) : ∀ N, N ≤ 256 → (m_fw F (nI q) N = 0 ∧ ∀ s, 1 ≤ s → s < N → cN s ≤ 6 → (F (nI s)).toNatClampNeg < q) ∨ (∃ s, 1 ≤ s ∧ s < N ∧ cN s ≤ 6 ∧ q ≤ (F (nI s)).toNatClampNeg ∧ m_fw F (nI q) N = nI s ∧ ∀ t, 1 ≤ t → t < N → cN t ≤ 6 → q ≤ (F (nI t)).toNatClampNeg → cN s < cN t ∨ (cN s = cN t ∧ ((F (nI t)).toNatClampNeg < (F (nI s)).toNatClampNeg ∨ ((F (nI t)).toNatClampNeg = (F (nI s)).toNatClampNeg ∧ s ≤ t))))
  | 0, _ => Or.inl ⟨rfl, fun s _ h => absurd h (Nat.not_lt_zero s)⟩
  | s + 1, hN => by
    have ih := fw_sp hF hq s (by omega)
    simp only [m_fw]
    by_cases h0 : s = 0
    · rw [if_pos h0]
      exact Or.inl ⟨rfl, fun t h1 h2 => by omega⟩
    · rw [if_neg h0]
      have c8 := cN_8 s (by omega)
      have hb6 : 6 < bc (nI s) ↔ 6 < cN s := by
        rw [cN_bc s (by omega)]
        exact nI_ltI (a := 6) (by omega) (by omega)
      obtain ⟨f1, f2⟩ := fN hF (nI s)
      have hlq : F (nI s) < nI q ↔ (F (nI s)).toNatClampNeg < q := by
        have := nI_ltI (a := (F (nI s)).toNatClampNeg) (b := q) (by omega) (by omega)
        rw [← f1] at this
        exact this
      rcases ih with ⟨e, g⟩ | ⟨z, z1, z2, z3, z4, e, g⟩
      · rw [e]
        by_cases w : 6 < cN s ∨ (F (nI s)).toNatClampNeg < q
        · rw [if_pos (w.elim (fun w => Or.inl (hb6.mpr w)) (fun w => Or.inr (Or.inl (hlq.mpr w))))]
          left
          refine ⟨rfl, fun t h1 h2 h3 => ?_⟩
          rcases (by omega : t < s ∨ t = s) with y | y
          · exact g t h1 y h3
          · rw [y] at h3 ⊢; omega
        · rw [if_neg (fun y => y.elim (fun y => w (Or.inl (hb6.mp y))) (fun y => y.elim (fun y => w (Or.inr (hlq.mp y))) (fun y => y.1 rfl))), if_pos (Or.inl rfl)]
          right
          refine ⟨s, by omega, by omega, by omega, by omega, rfl, fun t h1 h2 h3 h4 => ?_⟩
          rcases (by omega : t < s ∨ t = s) with y | y
          · have := g t h1 y h3; omega
          · rw [y]; omega
      · obtain ⟨k1, k2⟩ := fN hF (nI z)
        have c8z := cN_8 z (by omega)
        have hz0 : ¬ nI z = 0 := nI_ne0 (by omega) (by omega)
        have hbz : bc (nI z) < bc (nI s) ↔ cN z < cN s := by
          rw [cN_bc s (by omega), cN_bc z (by omega)]
          exact nI_ltI (by omega) (by omega)
        have hbs : bc (nI s) < bc (nI z) ↔ cN s < cN z := by
          rw [cN_bc s (by omega), cN_bc z (by omega)]
          exact nI_ltI (by omega) (by omega)
        have hl : F (nI z) < F (nI s) ↔ (F (nI z)).toNatClampNeg < (F (nI s)).toNatClampNeg := by
          have := nI_ltI (a := (F (nI z)).toNatClampNeg) (b := (F (nI s)).toNatClampNeg) (by omega) (by omega)
          rw [← k1, ← f1] at this
          exact this
        rw [e]
        by_cases w : 6 < cN s ∨ (F (nI s)).toNatClampNeg < q ∨ cN z < cN s
        · rw [if_pos (w.elim (fun w => Or.inl (hb6.mpr w)) (fun w => w.elim (fun w => Or.inr (Or.inl (hlq.mpr w))) (fun w => Or.inr (Or.inr ⟨hz0, hbz.mpr w⟩))))]
          right
          refine ⟨z, z1, by omega, z3, z4, rfl, fun t h1 h2 h3 h4 => ?_⟩
          rcases (by omega : t < s ∨ t = s) with y | y
          · exact g t h1 y h3 h4
          · rw [y] at h3 h4 ⊢; omega
        · rw [if_neg (fun y => y.elim (fun y => w (Or.inl (hb6.mp y))) (fun y => y.elim (fun y => w (Or.inr (Or.inl (hlq.mp y)))) (fun y => w (Or.inr (Or.inr (hbz.mp y.2))))))]
          by_cases x : cN s < cN z ∨ (F (nI z)).toNatClampNeg < (F (nI s)).toNatClampNeg
          · rw [if_pos (Or.inr (x.elim (fun x => Or.inl (hbs.mpr x)) (fun x => Or.inr (hl.mpr x))))]
            right
            refine ⟨s, by omega, by omega, by omega, by omega, rfl, fun t h1 h2 h3 h4 => ?_⟩
            rcases (by omega : t < s ∨ t = s) with y | y
            · have := g t h1 y h3 h4; omega
            · rw [y]; omega
          · rw [if_neg (fun y => y.elim hz0 (fun y => y.elim (fun y => x (Or.inl (hbs.mp y))) (fun y => x (Or.inr (hl.mp y)))))]
            right
            refine ⟨z, z1, by omega, z3, z4, rfl, fun t h1 h2 h3 h4 => ?_⟩
            rcases (by omega : t < s ∨ t = s) with y | y
            · exact g t h1 y h3 h4
            · rw [y]; omega
theorem cN_n : ∀ n, n ≤ 8 → ∀ s, s < 2 ^ n → cN s ≤ n := by decide +kernel
theorem cN_1 {s : Nat} (h : s < 256) (h1 : 1 ≤ s) : 1 ≤ cN s := by
  rcases Nat.eq_zero_or_pos (cN s) with q | q
  · have := cN_0 s h q; omega
  · exact q
/-- the fewest, by both -/
theorem fw_eq {F : Int32 → Int32} (hF : ∀ x, ∃ h, h ≤ 1000 ∧ F x = nI h) {q n : Nat} (hq : q ≤ 2000) (hn : n ≤ 8) {I I3 : Nat → Nat → Int32} {J J3 : Nat → Nat → Int64} {r : Option Value} (h : k_sm (fun j => m_tm F (nI j) (2 ^ n)) (nI q) (min n 6) I J r I3 J3) : (m_fw F (nI q) (2 ^ n) = 0 ∧ r = some (.int (-2)) ∧ uC I J I3 J3) ∨ (¬ m_fw F (nI q) (2 ^ n) = 0 ∧ r = some (.int (bc (m_fw F (nI q) (2 ^ n)))) ∧ tC [(m_fw F (nI q) (2 ^ n)).toInt64, (F (m_fw F (nI q) (2 ^ n))).toInt64] I3 J3) := by
  have h256 := p256 hn
  have hm : (-1 : Int32) < nI q := Int32.lt_of_lt_of_le (by decide) (nI_pos' (by omega))
  have below : ∀ j, j ≤ 8 → (m_tm F (nI j) (2 ^ n)).2 < nI q → ∀ t, 1 ≤ t → t < 2 ^ n → cN t = j → (F (nI t)).toNatClampNeg < q := by
    intro j hj hlt t h1 h2 h3
    rcases tm_sp hF hj (2 ^ n) h256 with ⟨e, g⟩ | ⟨s, s1, s2, s3, e, g⟩
    · exact absurd h3 (g t h1 h2)
    · rw [e] at hlt
      obtain ⟨k1, k2⟩ := fN hF (nI s)
      have : (F (nI s)).toNatClampNeg < q := by
        have w := nI_ltI (a := (F (nI s)).toNatClampNeg) (b := q) (by omega) (by omega)
        rw [← k1] at w
        exact w.mp hlt
      have := g t h1 h2 h3
      omega
  rcases h with ⟨k, k1, k2, k3, k4, k5, k6⟩ | ⟨k1, k2, k3⟩
  · right
    have k8 : k ≤ 6 := by omega
    rcases tm_sp hF (j := k) (by omega) (2 ^ n) h256 with ⟨e, g⟩ | ⟨s, s1, s2, s3, e, g⟩
    · simp only [e] at k4; exact absurd hm k4
    · simp only [e] at k4 k6
      obtain ⟨f1, f2⟩ := fN hF (nI s)
      have hs : q ≤ (F (nI s)).toNatClampNeg := by
        have w := nI_ltI (a := (F (nI s)).toNatClampNeg) (b := q) (by omega) (by omega)
        rw [← f1] at w
        have : ¬ (F (nI s)).toNatClampNeg < q := fun z => k4 (w.mpr z)
        omega
      rcases fw_sp hF hq (2 ^ n) h256 with ⟨e2, g2⟩ | ⟨z, z1, z2, z3, z4, e2, g2⟩
      · have := g2 s s1 s2 (by omega); omega
      · have a1 := g2 s s1 s2 (by omega) hs
        have hzk : ¬ cN z < k := fun w => by
          have c1 := cN_1 (s := z) (by omega) z1
          have := below (cN z) (by omega) (k3 (cN z) c1 w) z z1 z2 rfl
          omega
        have hz : cN z = k := by omega
        have a2 := g z z1 z2 hz
        have : z = s := by omega
        rw [e2, this]
        refine ⟨nI_ne0 (by omega) (by omega), ?_, k6⟩
        rw [k5, cN_bc s (by omega), s3]
  · left
    refine ⟨?_, k2, k3⟩
    rcases fw_sp hF hq (2 ^ n) h256 with ⟨e2, g2⟩ | ⟨z, z1, z2, z3, z4, e2, g2⟩
    · exact e2
    · have c1 := cN_1 (s := z) (by omega) z1
      have c2 := cN_n n hn z z2
      have := below (cN z) (by omega) (k1 (cN z) c1 (by omega)) z z1 z2 rfl
      omega
/-! slips -/
theorem sumN_head {f : Nat → Nat} : ∀ n, sumN f (n + 1) = f 0 + sumN (fun t => f (t + 1)) n
  | 0 => by simp [sumN]
  | n + 1 => by
    rw [sumN, sumN_head n, sumN]
    omega
theorem sumN_rev : ∀ (n : Nat) (f : Nat → Nat), sumN f (n + 1) = sumN (fun t => f (n - t)) (n + 1)
  | 0, f => by simp [sumN]
  | n + 1, f => by
    rw [sumN_head (f := f) (n + 1), sumN_rev n (fun t => f (t + 1))]
    have e : sumN (fun t => f (n + 1 - t)) (n + 1 + 1) = sumN (fun t => f (n + 1 - t)) (n + 1) + f (n + 1 - (n + 1)) := rfl
    rw [e, Nat.sub_self, Nat.add_comm]
    congr 1
    exact sumN_ext _ (fun k hk => by rw [show n - k + 1 = n + 1 - k by omega])
theorem sumN_cut {f : Nat → Nat} {v : Nat} : ∀ b, v + 1 ≤ b → (∀ t, v < t → t < b → f t = 0) → sumN f b = sumN f (v + 1)
  | 0, h, _ => by omega
  | b + 1, h, g => by
    rcases (by omega : v = b ∨ v + 1 ≤ b) with q | q
    · rw [q]
    · rw [sumN, sumN_cut b q (fun t h1 h2 => g t h1 (by omega)), g b (by omega) (by omega)]
      rfl
theorem up_s {F : Int32 → Int32} {nd : Int32} {v p n : Nat} : ∀ b, k_up F nd v p n b = sumN (fun t => if nI t &&& (nI v ^^^ (-1)) = 0 ∧ ¬ F (nI t) < nd then ws t v p n else 0) b
  | 0 => rfl
  | b + 1 => by simp only [k_up, sumN]; rw [up_s b]
theorem sp_s {F : Int32 → Int32} {nd : Int32} {v p : Nat} : ∀ b, m_sp F nd v p b = sumN (fun b => if nI b &&& (nI v ^^^ (-1)) = 0 ∧ ¬ F (nI v &&& (nI b ^^^ (-1))) < nd then p ^ cN b * (10 - p) ^ (cN v - cN b) else 0) b
  | 0 => rfl
  | b + 1 => by simp only [m_sp, sumN]; rw [sp_s b]
theorem sub_c {v t : Nat} (hv : v < 256) (ht : t < 256) (h : nI t &&& (nI v ^^^ (-1)) = 0) : nI (v - t) &&& (nI v ^^^ (-1)) = 0 := by
  rw [← (sub_set v hv t ht h).2.1]
  refine b_ext (fun i hi => ?_)
  rw [b_and, b_and, b_xor, b_xor, b_m1 i hi, b_0]
  cases bt (nI v) i <;> simp
theorem sub_sym (v : Nat) (hv : v < 256) (t : Nat) (ht : t < 256) (hle : t ≤ v) : nI t &&& (nI v ^^^ (-1)) = 0 ↔ nI (v - t) &&& (nI v ^^^ (-1)) = 0 := by
  refine ⟨sub_c hv ht, fun h => ?_⟩
  have := sub_c hv (by omega) h
  rwa [show v - (v - t) = t by omega] at this
def wa (t v : Nat) : Nat → Nat
  | 0 => 0
  | b + 1 => if v / 2 ^ b % 2 = 0 then wa t v b else if t / 2 ^ b % 2 = 0 then wa t v b + 1 else wa t v b
def wb (t v : Nat) : Nat → Nat
  | 0 => 0
  | b + 1 => if v / 2 ^ b % 2 = 0 then wb t v b else if t / 2 ^ b % 2 = 0 then wb t v b else wb t v b + 1
theorem ws_pow {t v p : Nat} : ∀ n, ws t v p n = p ^ wa t v n * (10 - p) ^ wb t v n
  | 0 => rfl
  | n + 1 => by
    simp only [ws, wa, wb]
    split
    · exact ws_pow n
    · rw [ws_pow n]
      split
      · rw [Nat.pow_succ]; ac_rfl
      · rw [Nat.pow_succ]; ac_rfl
theorem wab_hi {t v n : Nat} (hv : v < 2 ^ n) : ∀ k, wa t v (n + k) = wa t v n ∧ wb t v (n + k) = wb t v n
  | 0 => ⟨rfl, rfl⟩
  | k + 1 => by
    have ih := wab_hi (t := t) hv k
    have h2 : 2 ^ n ≤ 2 ^ (n + k) := Nat.pow_le_pow_right (by decide) (by omega)
    have e : v / 2 ^ (n + k) % 2 = 0 := by rw [Nat.div_eq_of_lt (by omega)]
    rw [← Nat.add_assoc, wa, wb, if_pos e, if_pos e]
    exact ih
theorem wb_s {t v b : Nat} (h : t / 2 ^ b % 2 ≤ v / 2 ^ b % 2) : wb t v (b + 1) = wb t v b + t / 2 ^ b % 2 := by
  rw [wb]
  split
  · omega
  · split <;> omega
theorem wab_s {t v b : Nat} : wa t v (b + 1) + wb t v (b + 1) = wa t v b + wb t v b + v / 2 ^ b % 2 := by
  rw [wa, wb]
  split
  · omega
  · split <;> omega
theorem wab_8 (v : Nat) (hv : v < 256) (t : Nat) (ht : t < 256) (h : nI t &&& (nI v ^^^ (-1)) = 0) : wa t v 8 = cN (v - t) ∧ wb t v 8 = cN t := by
  obtain ⟨h0, h1, h2, h3, h4, h5, h6, h7, _⟩ := sub_bits v hv t ht h
  obtain ⟨_, _, r3⟩ := sub_set v hv t ht h
  have e0 : wb t v 1 = 0 + t % 2 := by rw [wb_s (b := 0) (by simpa using h0)]; simp [wb]
  have e1 := wb_s (t := t) (v := v) (b := 1) (by simpa using h1)
  have e2 := wb_s (t := t) (v := v) (b := 2) (by simpa using h2)
  have e3 := wb_s (t := t) (v := v) (b := 3) (by simpa using h3)
  have e4 := wb_s (t := t) (v := v) (b := 4) (by simpa using h4)
  have e5 := wb_s (t := t) (v := v) (b := 5) (by simpa using h5)
  have e6 := wb_s (t := t) (v := v) (b := 6) (by simpa using h6)
  have e7 := wb_s (t := t) (v := v) (b := 7) (by simpa using h7)
  have f0 : wa t v 1 + wb t v 1 = v % 2 := by have := wab_s (t := t) (v := v) (b := 0); simpa [wa, wb] using this
  have f1 := wab_s (t := t) (v := v) (b := 1)
  have f2 := wab_s (t := t) (v := v) (b := 2)
  have f3 := wab_s (t := t) (v := v) (b := 3)
  have f4 := wab_s (t := t) (v := v) (b := 4)
  have f5 := wab_s (t := t) (v := v) (b := 5)
  have f6 := wab_s (t := t) (v := v) (b := 6)
  have f7 := wab_s (t := t) (v := v) (b := 7)
  simp only [Nat.reduceAdd, Nat.reducePow] at e1 e2 e3 e4 e5 e6 e7 f1 f2 f3 f4 f5 f6 f7
  have hb : wb t v 8 = cN t := by
    rw [e7, e6, e5, e4, e3, e2, e1, e0, Nat.zero_add]
    rfl
  have hab : wa t v 8 + wb t v 8 = cN v := by
    rw [f7, f6, f5, f4, f3, f2, f1, f0]
    rfl
  refine ⟨?_, hb⟩
  rw [hb] at hab
  exact Nat.add_right_cancel (hab.trans r3.symm)
/-- slips, by both -/
theorem up_eq {F : Int32 → Int32} {nd : Int32} {v p n : Nat} (hn : n ≤ 8) (hv : v < 2 ^ n) : k_up F nd v p n (2 ^ n) = m_sp F nd v p (v + 1) := by
  have h256 := p256 hn
  rw [up_s, sp_s, sumN_rev v, sumN_cut (v := v) (2 ^ n) (by omega)]
  · refine sumN_ext _ (fun t ht => ?_)
    have hy := sub_sym v (by omega) t (by omega) (by omega)
    by_cases q : nI t &&& (nI v ^^^ (-1)) = 0
    · obtain ⟨s1, s2, s3⟩ := sub_set v (by omega) (v - t) (by omega) (hy.mp q)
      obtain ⟨r1, r2, r3⟩ := sub_set v (by omega) t (by omega) q
      rw [s2, show v - (v - t) = t by omega]
      obtain ⟨w1, w2⟩ := wab_8 v (by omega) t (by omega) q
      obtain ⟨g1, g2⟩ := wab_hi (t := t) hv (8 - n)
      rw [show n + (8 - n) = 8 by omega, w1] at g1
      rw [show n + (8 - n) = 8 by omega, w2] at g2
      by_cases z : F (nI t) < nd
      · rw [if_neg (fun w => w.2 z), if_neg (fun w => w.2 z)]
      · rw [if_pos ⟨q, z⟩, if_pos ⟨hy.mp q, z⟩, ws_pow, ← g1, ← g2, show cN v - cN (v - t) = cN t by omega]
    · rw [if_neg (fun w => q w.1), if_neg (fun w => q (hy.mpr w.1))]
  · intro t h1 h2
    rw [if_neg]
    intro w
    have := (sub_bits v (by omega) t (by omega) w.1).2.2.2.2.2.2.2.2
    omega
