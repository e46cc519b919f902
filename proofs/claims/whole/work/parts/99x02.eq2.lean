/-! equalities: cover, believe, worlds -/
theorem nI_m1' {s : Nat} (h : s < 2 ^ 31) : ¬ nI s = -1 := fun q => nI_pos h (by rw [q]; decide)
theorem allB_iff {f : Nat → Bool} : ∀ n, allB f n = true ↔ ∀ k, k < n → f k = true
  | 0 => ⟨fun _ k h => absurd h (Nat.not_lt_zero k), fun _ => rfl⟩
  | n + 1 => by
    simp only [allB, Bool.and_eq_true]
    rw [allB_iff n]
    refine ⟨fun h k hk => ?_, fun h => ⟨fun k hk => h k (by omega), h n (by omega)⟩⟩
    rcases (by omega : k < n ∨ k = n) with q | q
    · exact h.1 k q
    · rw [q]; exact h.2
theorem allB_ext {f g : Nat → Bool} : ∀ n, (∀ k, k < n → f k = g k) → allB f n = allB g n
  | 0, _ => rfl
  | n + 1, h => by
    simp only [allB]
    rw [allB_ext n (fun k hk => h k (by omega)), h n (by omega)]
theorem cv_eq {f sy : Nat → Int32} {w x : Int32} {n : Nat} (h : ∀ k, k < n → f k = sy (4 * k + 3)) : k_cv f w x n = m_cv sy w x n := by
  refine allB_ext n (fun k hk => ?_)
  rw [h k hk, has_kb]
  rfl
theorem cov_sp {P : Nat → Bool} {sy : Nat → Int32} {x : Int32} {ns : Nat} (hP : ∀ t, t < 16 → m_cv sy (nI t) x ns = P t) : ∀ k, k ≤ 16 → (m_cov sy x ns k = -1 ∧ ∀ t, t < k → P t = false) ∨ (∃ s, s < k ∧ m_cov sy x ns k = nI s ∧ P s = true ∧ ∀ t, t < k → P t = true → cN s < cN t ∨ (cN s = cN t ∧ s ≤ t))
  | 0, _ => Or.inl ⟨rfl, fun t h => absurd h (Nat.not_lt_zero t)⟩
  | k + 1, hk => by
    have ih := cov_sp hP k (by omega)
    simp only [m_cov]
    rw [hP k (by omega)]
    cases hk2 : P k
    · rw [if_neg (fun q => by cases q.2)]
      rcases ih with ⟨e, h⟩ | ⟨s, h1, e, h2, h3⟩
      · left
        refine ⟨e, fun t ht => ?_⟩
        rcases (by omega : t < k ∨ t = k) with q | q
        · exact h t q
        · rw [q]; exact hk2
      · right
        refine ⟨s, by omega, e, h2, fun t ht hp => ?_⟩
        rcases (by omega : t < k ∨ t = k) with q | q
        · exact h3 t q hp
        · rw [q, hk2] at hp; cases hp
    · rcases ih with ⟨e, h⟩ | ⟨s, h1, e, h2, h3⟩
      · rw [if_pos ⟨Or.inl e, rfl⟩]
        right
        refine ⟨k, by omega, rfl, hk2, fun t ht hp => ?_⟩
        rcases (by omega : t < k ∨ t = k) with q | q
        · rw [h t q] at hp; cases hp
        · right; exact ⟨by rw [q], by omega⟩
      · have hb : bc (nI k) < bc (m_cov sy x ns k) ↔ cN k < cN s := by
          rw [e, cN_bc k (by omega), cN_bc s (by omega)]
          exact nI_ltI (by have := cN_8 k (by omega); omega) (by have := cN_8 s (by omega); omega)
        by_cases q : cN k < cN s
        · rw [if_pos ⟨Or.inr (hb.mpr q), rfl⟩]
          right
          refine ⟨k, by omega, rfl, hk2, fun t ht hp => ?_⟩
          rcases (by omega : t < k ∨ t = k) with z | z
          · have := h3 t z hp; left; omega
          · right; exact ⟨by rw [z], by omega⟩
        · rw [if_neg (fun z => z.1.elim (fun w => nI_m1' (by omega) (e.symm.trans w)) (fun w => q (hb.mp w)))]
          right
          refine ⟨s, by omega, e, h2, fun t ht hp => ?_⟩
          rcases (by omega : t < k ∨ t = k) with z | z
          · exact h3 t z hp
          · rw [z]; omega
theorem cN16 : ∀ t, t < 16 → cN t ≤ 4 := by decide
/-- the class's search by number and set, and the model's -/
theorem cov_eq {P : Nat → Bool} {sy : Nat → Int32} {x : Int32} {ns : Nat} (hP : ∀ t, t < 16 → m_cv sy (nI t) x ns = P t) {no yes : Nat → Prop} (h : fsR P 5 no yes) : (m_cov sy x ns 16 = -1 ∧ no 0) ∨ (∃ s, s < 16 ∧ m_cov sy x ns 16 = nI s ∧ yes s) := by
  rcases h with ⟨s, h1, h2, h3, h4, h5⟩ | ⟨h1, h2⟩
  · right
    rcases cov_sp hP 16 (by omega) with ⟨e, g⟩ | ⟨s2, g1, e, g2, g3⟩
    · rw [g s h1] at h3; cases h3
    · have a1 := g3 s h1 h3
      have a2 : ¬ (cN s2 < cN s ∨ (cN s2 = cN s ∧ s2 < s)) := fun q => by rw [h4 s2 g1 q] at g2; cases g2
      have : s2 = s := by omega
      exact ⟨s, h1, by rw [e, this], h5⟩
  · left
    rcases cov_sp hP 16 (by omega) with ⟨e, g⟩ | ⟨s2, g1, e, g2, g3⟩
    · exact ⟨e, h2⟩
    · rw [h1 s2 g1 (by have := cN16 s2 g1; omega)] at g2; cases g2
theorem bl_sp {P : Nat → Bool} {cl : Nat → Int32} {nc : Nat} (hP : ∀ t, t < 16 → m_da cl (nI t) nc = P t) : ∀ k, k ≤ 16 → (m_bl cl nc k = 15 ∧ ∀ t, t < k → cN t < 4 → P t = false) ∨ (∃ s, s < k ∧ cN s < 4 ∧ m_bl cl nc k = nI s ∧ P s = true ∧ ∀ t, t < k → P t = true → cN s < cN t ∨ (cN s = cN t ∧ s ≤ t))
  | 0, _ => Or.inl ⟨rfl, fun t h => absurd h (Nat.not_lt_zero t)⟩
  | k + 1, hk => by
    have ih := bl_sp hP k (by omega)
    simp only [m_bl]
    rw [hP k (by omega)]
    cases hk2 : P k
    · rw [if_neg (fun q => by cases q.2)]
      rcases ih with ⟨e, h⟩ | ⟨s, h1, h0, e, h2, h3⟩
      · left
        refine ⟨e, fun t ht h4 => ?_⟩
        rcases (by omega : t < k ∨ t = k) with q | q
        · exact h t q h4
        · rw [q]; exact hk2
      · right
        refine ⟨s, by omega, h0, e, h2, fun t ht hp => ?_⟩
        rcases (by omega : t < k ∨ t = k) with q | q
        · exact h3 t q hp
        · rw [q, hk2] at hp; cases hp
    · rcases ih with ⟨e, h⟩ | ⟨s, h1, h0, e, h2, h3⟩
      · have hb : bc (nI k) < bc (m_bl cl nc k) ↔ cN k < 4 := by
          rw [e, cN_bc k (by omega), show bc 15 = nI 4 from by decide +kernel]
          exact nI_ltI (by have := cN_8 k (by omega); omega) (by omega)
        by_cases q : cN k < 4
        · rw [if_pos ⟨hb.mpr q, rfl⟩]
          right
          refine ⟨k, by omega, q, rfl, hk2, fun t ht hp => ?_⟩
          rcases (by omega : t < k ∨ t = k) with z | z
          · by_cases h4 : cN t < 4
            · rw [h t z h4] at hp; cases hp
            · left; omega
          · right; exact ⟨by rw [z], by omega⟩
        · rw [if_neg (fun z => q (hb.mp z.1))]
          left
          refine ⟨e, fun t ht h4 => ?_⟩
          rcases (by omega : t < k ∨ t = k) with z | z
          · exact h t z h4
          · rw [z] at h4; exact absurd h4 q
      · have hb : bc (nI k) < bc (m_bl cl nc k) ↔ cN k < cN s := by
          rw [e, cN_bc k (by omega), cN_bc s (by omega)]
          exact nI_ltI (by have := cN_8 k (by omega); omega) (by have := cN_8 s (by omega); omega)
        by_cases q : cN k < cN s
        · rw [if_pos ⟨hb.mpr q, rfl⟩]
          right
          refine ⟨k, by omega, by omega, rfl, hk2, fun t ht hp => ?_⟩
          rcases (by omega : t < k ∨ t = k) with z | z
          · have := h3 t z hp; left; omega
          · right; exact ⟨by rw [z], by omega⟩
        · rw [if_neg (fun z => q (hb.mp z.1))]
          right
          refine ⟨s, by omega, h0, e, h2, fun t ht hp => ?_⟩
          rcases (by omega : t < k ∨ t = k) with z | z
          · exact h3 t z hp
          · rw [z]; omega
theorem bl_eq {P : Nat → Bool} {cl : Nat → Int32} {nc : Nat} (hP : ∀ t, t < 16 → m_da cl (nI t) nc = P t) {no yes : Nat → Prop} (h : fsR P 4 no yes) : (m_bl cl nc 16 = 15 ∧ no 0) ∨ (∃ s, s < 16 ∧ m_bl cl nc 16 = nI s ∧ yes s) := by
  rcases h with ⟨s, h1, h2, h3, h4, h5⟩ | ⟨h1, h2⟩
  · right
    rcases bl_sp hP 16 (by omega) with ⟨e, g⟩ | ⟨s2, g1, g0, e, g2, g3⟩
    · rw [g s h1 h2] at h3; cases h3
    · have a1 := g3 s h1 h3
      have a2 : ¬ (cN s2 < cN s ∨ (cN s2 = cN s ∧ s2 < s)) := fun q => by rw [h4 s2 g1 q] at g2; cases g2
      have : s2 = s := by omega
      exact ⟨s, h1, by rw [e, this], h5⟩
  · left
    rcases bl_sp hP 16 (by omega) with ⟨e, g⟩ | ⟨s2, g1, g0, e, g2, g3⟩
    · exact ⟨e, h2⟩
    · rw [h1 s2 g1 g0] at g2; cases g2
theorem and0 (A B : Int32) : A &&& B = 0 ↔ ∀ b, b < 32 → ¬ (bt A b = true ∧ bt B b = true) := by
  refine ⟨fun h b _ q => ?_, fun h => b_ext (fun i hi => ?_)⟩
  · have e : bt (A &&& B) b = bt 0 b := by rw [h]
    rw [b_and, b_0, q.1, q.2] at e
    cases e
  · rw [b_and, b_0]
    have := h i hi
    cases e1 : bt A i
    · rfl
    · cases e2 : bt B i
      · rfl
      · exact absurd ⟨e1, e2⟩ this
theorem sh1_bt {j b : Nat} (hj : j < 8) (hb : b < 32) : bt ((1 : Int32) <<< (nI j &&& 31)) b = decide (b = j) := by
  rw [b_shl j (by omega) _ hb, b_1]
  by_cases h : j ≤ b
  · rw [decide_eq_true h, Bool.true_and]
    by_cases h2 : b = j
    · rw [decide_eq_true h2, decide_eq_true (by omega)]
    · rw [decide_eq_false h2, decide_eq_false (by omega)]
  · rw [decide_eq_false h, Bool.false_and, decide_eq_false (by omega)]
theorem sh0_bt {j b : Nat} (hj : j < 8) : bt ((0 : Int32) <<< (nI j &&& 31)) b = false := by rw [bt_or0 j hj, b_0]
theorem ag_bt {w s i : Nat → Int32} {x : Int32} {nc : Nat} (hs : ∀ k, k < nc → ∃ j, j < 8 ∧ s k = nI j) (hi : ∀ k, k < nc → i k = 0 ∨ i k = 1) : ∀ m, m ≤ nc → ∀ b, b < 32 → (bt (k_ag w s i x m).1 b = true ↔ ∃ k, k < m ∧ k_b x (w k) = 0 ∧ i k = 1 ∧ s k = nI b) ∧ (bt (k_ag w s i x m).2 b = true ↔ ∃ k, k < m ∧ k_b x (w k) = 0 ∧ i k = 0 ∧ s k = nI b)
  | 0, _, b, _ => by
    have h0 : bt (0 : Int32) b = false := b_0 b
    refine ⟨⟨fun q => ?_, fun ⟨k, hk, _⟩ => absurd hk (Nat.not_lt_zero k)⟩, ⟨fun q => ?_, fun ⟨k, hk, _⟩ => absurd hk (Nat.not_lt_zero k)⟩⟩
    · exact absurd (h0.symm.trans q) (by decide)
    · exact absurd (h0.symm.trans q) (by decide)
  | m + 1, hm, b, hb => by
    obtain ⟨ih1, ih2⟩ := ag_bt hs hi m (by omega) b hb
    obtain ⟨j, hj, ej⟩ := hs m (by omega)
    have hjb : nI j = nI b ↔ j = b := nI_eq (by omega) (by omega)
    simp only [k_ag]
    by_cases ha : k_b x (w m) = 0
    · rw [if_pos ha]
      simp only
      rw [b_or, b_or, ej, Bool.or_eq_true, Bool.or_eq_true, ih1, ih2]
      rcases hi m (by omega) with e | e
      · rw [e, sh0_bt hj, show (1 : Int32) - 0 = 1 from by decide, sh1_bt hj hb]
        refine ⟨⟨?_, ?_⟩, ⟨?_, ?_⟩⟩
        · rintro (⟨k, h1, h2⟩ | q)
          · exact ⟨k, by omega, h2⟩
          · cases q
        · rintro ⟨k, h1, h2, h3, h4⟩
          rcases (by omega : k < m ∨ k = m) with z | z
          · exact Or.inl ⟨k, z, h2, h3, h4⟩
          · rw [z, e] at h3; exact absurd h3 (by decide)
        · rintro (⟨k, h1, h2⟩ | q)
          · exact ⟨k, by omega, h2⟩
          · exact ⟨m, by omega, ha, e, by rw [ej, of_decide_eq_true q]⟩
        · rintro ⟨k, h1, h2, h3, h4⟩
          rcases (by omega : k < m ∨ k = m) with z | z
          · exact Or.inl ⟨k, z, h2, h3, h4⟩
          · rw [z, ej] at h4; exact Or.inr (decide_eq_true (hjb.mp h4).symm)
      · rw [e, show (1 : Int32) - 1 = 0 from by decide, sh0_bt hj, sh1_bt hj hb]
        refine ⟨⟨?_, ?_⟩, ⟨?_, ?_⟩⟩
        · rintro (⟨k, h1, h2⟩ | q)
          · exact ⟨k, by omega, h2⟩
          · exact ⟨m, by omega, ha, e, by rw [ej, of_decide_eq_true q]⟩
        · rintro ⟨k, h1, h2, h3, h4⟩
          rcases (by omega : k < m ∨ k = m) with z | z
          · exact Or.inl ⟨k, z, h2, h3, h4⟩
          · rw [z, ej] at h4; exact Or.inr (decide_eq_true (hjb.mp h4).symm)
        · rintro (⟨k, h1, h2⟩ | q)
          · exact ⟨k, by omega, h2⟩
          · cases q
        · rintro ⟨k, h1, h2, h3, h4⟩
          rcases (by omega : k < m ∨ k = m) with z | z
          · exact Or.inl ⟨k, z, h2, h3, h4⟩
          · rw [z, e] at h3; exact absurd h3 (by decide)
    · rw [if_neg ha, ih1, ih2]
      refine ⟨⟨fun ⟨k, h1, h2⟩ => ⟨k, by omega, h2⟩, fun ⟨k, h1, h2, h3⟩ => ?_⟩, ⟨fun ⟨k, h1, h2⟩ => ⟨k, by omega, h2⟩, fun ⟨k, h1, h2, h3⟩ => ?_⟩⟩
      · rcases (by omega : k < m ∨ k = m) with z | z
        · exact ⟨k, z, h2, h3⟩
        · rw [z] at h2; exact absurd h2 ha
      · rcases (by omega : k < m ∨ k = m) with z | z
        · exact ⟨k, z, h2, h3⟩
        · rw [z] at h2; exact absurd h2 ha
theorem mag_iff {cl : Nat → Int32} {x : Int32} {i j : Nat} : m_ag cl x i j = true ↔ (k_b x (cl (3 * i)) = 0 → k_b x (cl (3 * j)) = 0 → cl (3 * i + 1) = cl (3 * j + 1) → cl (3 * i + 2) = cl (3 * j + 2)) := by
  unfold m_ag
  rw [has_kb, has_kb]
  simp only [Bool.or_eq_true, decide_eq_true_eq]
  by_cases a : k_b x (cl (3 * i)) = 0 <;> by_cases b : k_b x (cl (3 * j)) = 0 <;> by_cases c : cl (3 * i + 1) = cl (3 * j + 1) <;> simp [a, b, c]
theorem da_eq {w s i cl : Nat → Int32} {x : Int32} {nc : Nat} (hc : ∀ k, k < nc → w k = cl (3 * k) ∧ s k = cl (3 * k + 1) ∧ i k = cl (3 * k + 2)) (hs : ∀ k, k < nc → ∃ j, j < 8 ∧ s k = nI j) (hi : ∀ k, k < nc → i k = 0 ∨ i k = 1) : m_da cl x nc = k_da w s i nc x := by
  rw [Bool.eq_iff_iff]
  unfold m_da k_da
  rw [allB_iff, decide_eq_true_eq, and0]
  constructor
  · rintro h b hb ⟨q1, q2⟩
    obtain ⟨k, k1, k2, k3, k4⟩ := ((ag_bt hs hi nc (Nat.le_refl _) b hb).1).mp q1
    obtain ⟨l, l1, l2, l3, l4⟩ := ((ag_bt hs hi nc (Nat.le_refl _) b hb).2).mp q2
    obtain ⟨ck1, ck2, ck3⟩ := hc k k1
    obtain ⟨cl1, cl2, cl3⟩ := hc l l1
    rw [ck1] at k2; rw [cl1] at l2; rw [ck2] at k4; rw [cl2] at l4; rw [ck3] at k3; rw [cl3] at l3
    rcases (by omega : l < k ∨ k < l ∨ k = l) with z | z | z
    · have := mag_iff.mp ((allB_iff k).mp (h k k1) l z) k2 l2 (k4.trans l4.symm)
      rw [k3, l3] at this; exact absurd this (by decide)
    · have := mag_iff.mp ((allB_iff l).mp (h l l1) k z) l2 k2 (l4.trans k4.symm)
      rw [k3, l3] at this; exact absurd this (by decide)
    · rw [z, l3] at k3; exact absurd k3 (by decide)
  · intro h k hk
    rw [allB_iff]
    intro l hl
    have l1 : l < nc := by omega
    rw [mag_iff]
    intro k2 l2 k4
    obtain ⟨ck1, ck2, ck3⟩ := hc k hk
    obtain ⟨cl1, cl2, cl3⟩ := hc l l1
    rw [← ck1] at k2; rw [← cl1] at l2; rw [← ck2, ← cl2] at k4
    rw [← ck3, ← cl3]
    obtain ⟨j, hj, ej⟩ := hs k hk
    have A := ag_bt (x := x) (w := w) hs hi nc (Nat.le_refl _) j (by omega)
    have N := h j (by omega)
    rcases hi k hk with e | e <;> rcases hi l l1 with e2 | e2
    · rw [e, e2]
    · exact absurd ⟨A.1.mpr ⟨l, l1, l2, e2, k4.symm.trans ej⟩, A.2.mpr ⟨k, hk, k2, e, ej⟩⟩ N
    · exact absurd ⟨A.1.mpr ⟨k, hk, k2, e, ej⟩, A.2.mpr ⟨l, l1, l2, e2, k4.symm.trans ej⟩⟩ N
    · rw [e, e2]
/-! worlds -/
theorem iw_ext {sy of ob of' ob' : Nat → Int32} {ns no : Nat} {x : Int32} (h : ∀ k, k < no → of k = of' k ∧ ob k = ob' k) : m_iw sy of ob ns no x = m_iw sy of' ob' ns no x := by
  refine allB_ext no (fun k hk => ?_)
  rw [(h k hk).1, (h k hk).2]
theorem wo_eq {P : Nat → Bool} {sy of ob : Nat → Int32} {ns no : Nat} (hP : ∀ w, w < 256 → m_iw sy of ob ns no (nI w) = P w) : ∀ k, k ≤ 256 → m_wo sy of ob ns no k = (nI (wN P k), wL P k)
  | 0, _ => rfl
  | k + 1, hk => by
    have ih := wo_eq hP k (by omega)
    have h1 := wN_le (P := P) k
    simp only [m_wo, wN, wL]
    rw [hP k (by omega), ih]
    have h0 : nI (wN P k) = 0 ↔ wN P k = 0 := by rw [← nI_0]; exact nI_eq (by omega) (by omega)
    cases P k
    · rw [if_neg (by decide), if_neg (by decide), if_neg (by decide)]
    · rw [if_pos rfl, if_pos rfl, if_pos rfl]
      simp only
      rw [nI_1]
      by_cases q : wN P k = 0
      · rw [if_pos q, if_pos (h0.mpr q)]
      · rw [if_neg q, if_neg (fun z => q (h0.mp z))]
theorem wf_eq {P : Nat → Bool} {sy of ob : Nat → Int32} {ns no s : Nat} (hs : s < 8) (hP : ∀ w, w < 256 → m_iw sy of ob ns no (nI w) = P w) : ∀ k, k ≤ 256 → m_wf sy of ob ns no (nI s) 1 k = nI (wT P s k) ∧ m_wf sy of ob ns no (nI s) 0 k = nI (wN P k - wT P s k)
  | 0, _ => ⟨rfl, rfl⟩
  | k + 1, hk => by
    obtain ⟨i1, i2⟩ := wf_eq hs hP k (by omega)
    have hle := wT_le (P := P) (s := s) k
    simp only [m_wf, wN, wT]
    rw [hP k (by omega), i1, i2, sh_bit k (by omega) s hs]
    cases P k
    · simp only [Bool.false_eq_true, and_false, if_false, Int32.add_zero]
      exact ⟨trivial, trivial⟩
    · rw [if_pos rfl, if_pos rfl]
      rcases (by omega : k / 2 ^ s % 2 = 0 ∨ k / 2 ^ s % 2 = 1) with q | q
      · rw [q, if_neg (fun z => absurd z.1 (by decide)), if_pos ⟨rfl, rfl⟩, Int32.add_zero, nI_1]
        exact ⟨rfl, by rw [show wN P k + 1 - (wT P s k + 0) = wN P k - wT P s k + 1 by omega]⟩
      · rw [q, if_pos ⟨rfl, rfl⟩, if_neg (fun z => absurd z.1 (by decide)), Int32.add_zero, nI_1]
        exact ⟨rfl, by rw [show wN P k + 1 - (wT P s k + 1) = wN P k - wT P s k by omega]⟩
theorem bt_nI {w i : Nat} (hi : i < 32) : bt (nI w) i = decide (w / 2 ^ i % 2 = 1) := by
  show (BitVec.ofNat 32 w).getLsbD i = _
  rw [BitVec.getLsbD_ofNat, decide_eq_true hi, Bool.true_and, Nat.testBit_eq_decide_div_mod_eq]
theorem bt_m {g : Nat → Int32} {n i : Nat} (hn : n ≤ 8) (h : b01 g n) (hi : i < 32) : bt (m_bt g n) i = (decide (i < n) && decide (g i = 1)) := by
  rw [bt_bN n hn h, bt_nI hi]
  by_cases q : i < n
  · rw [bN_bit n i q, decide_eq_true q, Bool.true_and]
    split
    · next z => rw [decide_eq_true z]; rfl
    · next z => rw [decide_eq_false z]; rfl
  · rw [decide_eq_false q, Bool.false_and]
    have h1 := bN_lt g n
    have h2 : 2 ^ n ≤ 2 ^ i := Nat.pow_le_pow_right (by decide) (by omega)
    rw [Nat.div_eq_of_lt (by omega)]
    rfl
theorem su_bt {sy of ob : Nat → Int32} {ns no : Nat} : ∀ k, k ≤ 8 → m_su sy of ob ns no k = (m_bt (fun s => if 0 < m_wf sy of ob ns no (nI s) 1 (2 ^ ns) ∧ m_wf sy of ob ns no (nI s) 0 (2 ^ ns) = 0 then 1 else 0) k, m_bt (fun s => if m_wf sy of ob ns no (nI s) 1 (2 ^ ns) = 0 ∧ 0 < m_wf sy of ob ns no (nI s) 0 (2 ^ ns) then 1 else 0) k)
  | 0, _ => rfl
  | k + 1, hk => by
    simp only [m_su, m_bt]
    rw [su_bt k (by omega)]
    have := bt_or0 k (by omega)
    congr 2
    · split
      · rfl
      · exact this.symm
    · split
      · rfl
      · exact this.symm
theorem wA_bt {P : Nat → Bool} {i : Nat} (hi : i < 32) : ∀ k, bt (wA P k) i = true ↔ ∀ w, w < k → P w = true → w / 2 ^ i % 2 = 1
  | 0 => ⟨fun _ w h => absurd h (Nat.not_lt_zero w), fun _ => b_m1 i hi⟩
  | k + 1 => by
    have ih := wA_bt (P := P) hi k
    simp only [wA]
    split
    · next q =>
      rw [b_and, Bool.and_eq_true, ih, bt_nI hi, decide_eq_true_eq]
      refine ⟨fun h w hw hp => ?_, fun h => ⟨fun w hw hp => h w (by omega) hp, h k (by omega) q⟩⟩
      rcases (by omega : w < k ∨ w = k) with z | z
      · exact h.1 w z hp
      · rw [z]; exact h.2
    · next q =>
      rw [ih]
      refine ⟨fun h w hw hp => ?_, fun h w hw hp => h w (by omega) hp⟩
      rcases (by omega : w < k ∨ w = k) with z | z
      · exact h w z hp
      · rw [z] at hp; exact absurd hp q
theorem wE_bt {P : Nat → Bool} {i : Nat} (hi : i < 32) : ∀ k, bt (wE P k) i = false ↔ ∀ w, w < k → P w = true → w / 2 ^ i % 2 = 0
  | 0 => ⟨fun _ w h => absurd h (Nat.not_lt_zero w), fun _ => b_0 i⟩
  | k + 1 => by
    have ih := wE_bt (P := P) hi k
    simp only [wE]
    split
    · next q =>
      rw [b_or, Bool.or_eq_false_iff, ih, bt_nI hi, decide_eq_false_iff_not]
      refine ⟨fun h w hw hp => ?_, fun h => ⟨fun w hw hp => h w (by omega) hp, by have := h k (by omega) q; omega⟩⟩
      rcases (by omega : w < k ∨ w = k) with z | z
      · exact h.1 w z hp
      · rw [z]; have := h.2; omega
    · next q =>
      rw [ih]
      refine ⟨fun h w hw hp => ?_, fun h w hw hp => h w (by omega) hp⟩
      rcases (by omega : w < k ∨ w = k) with z | z
      · exact h w z hp
      · rw [z] at hp; exact absurd hp q
theorem wT_all {P : Nat → Bool} {s : Nat} : ∀ k, (wT P s k = wN P k ↔ ∀ w, w < k → P w = true → w / 2 ^ s % 2 = 1) ∧ (wT P s k = 0 ↔ ∀ w, w < k → P w = true → w / 2 ^ s % 2 = 0)
  | 0 => ⟨⟨fun _ w h => absurd h (Nat.not_lt_zero w), fun _ => rfl⟩, ⟨fun _ w h => absurd h (Nat.not_lt_zero w), fun _ => rfl⟩⟩
  | k + 1 => by
    obtain ⟨i1, i2⟩ := wT_all (P := P) (s := s) k
    have hle := wT_le (P := P) (s := s) k
    simp only [wT, wN]
    split
    · next q =>
      refine ⟨⟨fun h w hw hp => ?_, fun h => ?_⟩, ⟨fun h w hw hp => ?_, fun h => ?_⟩⟩
      · have hm : k / 2 ^ s % 2 ≤ 1 := by omega
        rcases (by omega : w < k ∨ w = k) with z | z
        · exact i1.mp (by omega) w z hp
        · rw [z]; omega
      · rw [h k (by omega) q, i1.mpr (fun w hw hp => h w (by omega) hp)]
      · rcases (by omega : w < k ∨ w = k) with z | z
        · exact i2.mp (by omega) w z hp
        · rw [z]; omega
      · rw [h k (by omega) q, i2.mpr (fun w hw hp => h w (by omega) hp)]
    · next q =>
      refine ⟨⟨fun h w hw hp => ?_, fun h => i1.mpr (fun w hw hp => h w (by omega) hp)⟩, ⟨fun h w hw hp => ?_, fun h => i2.mpr (fun w hw hp => h w (by omega) hp)⟩⟩
      · rcases (by omega : w < k ∨ w = k) with z | z
        · exact i1.mp h w z hp
        · rw [z] at hp; exact absurd hp q
      · rcases (by omega : w < k ∨ w = k) with z | z
        · exact i2.mp h w z hp
        · rw [z] at hp; exact absurd hp q
theorem wN_ex {P : Nat → Bool} : ∀ k, 0 < wN P k → ∃ w, w < k ∧ P w = true
  | 0, h => absurd h (Nat.lt_irrefl 0)
  | k + 1, h => by
    simp only [wN] at h
    split at h
    · next q => exact ⟨k, by omega, q⟩
    · obtain ⟨w, h1, h2⟩ := wN_ex k h
      exact ⟨w, by omega, h2⟩
theorem b01_i {p : Nat → Prop} [hd : ∀ s, Decidable (p s)] {n : Nat} : b01 (fun s => if p s then 1 else 0) n := by
  intro b _
  show (if p b then (1 : Int32) else 0) = 0 ∨ (if p b then (1 : Int32) else 0) = 1
  split
  · exact Or.inr rfl
  · exact Or.inl rfl
/-- which are sure, by both -/
theorem su_eq {P : Nat → Bool} {sy of ob : Nat → Int32} {ns no : Nat} (hns : ns ≤ 8) (hP : ∀ w, w < 256 → m_iw sy of ob ns no (nI w) = P w) : (wN P (2 ^ ns) = 0 → m_su sy of ob ns no ns = (0, 0)) ∧ (0 < wN P (2 ^ ns) → m_su sy of ob ns no ns = (wA P (2 ^ ns), (((1 : Int32) <<< (nI ns &&& 31)) - 1) &&& (wE P (2 ^ ns) ^^^ (-1)))) := by
  have h256 := p256 hns
  have hN := wN_le (P := P) (2 ^ ns)
  have hp0 : ∀ z, z ≤ 256 → (0 < nI z ↔ 0 < z) := fun z hz => by
    have := nI_ltI (a := 0) (b := z) (by omega) (by omega)
    rwa [nI_0] at this
  have hz0 : ∀ z, z ≤ 256 → (nI z = 0 ↔ z = 0) := fun z hz => by
    have := nI_eq (a := z) (b := 0) (by omega) (by omega)
    rwa [nI_0] at this
  have hC1 : ∀ s, s < ns → ((0 < m_wf sy of ob ns no (nI s) 1 (2 ^ ns) ∧ m_wf sy of ob ns no (nI s) 0 (2 ^ ns) = 0) ↔ (0 < wT P s (2 ^ ns) ∧ wN P (2 ^ ns) - wT P s (2 ^ ns) = 0)) := fun s hs => by
    obtain ⟨e1, e2⟩ := wf_eq (s := s) (by omega) hP (2 ^ ns) h256
    have := wT_le (P := P) (s := s) (2 ^ ns)
    rw [e1, e2, hp0 _ (by omega), hz0 _ (by omega)]
  have hC0 : ∀ s, s < ns → ((m_wf sy of ob ns no (nI s) 1 (2 ^ ns) = 0 ∧ 0 < m_wf sy of ob ns no (nI s) 0 (2 ^ ns)) ↔ (wT P s (2 ^ ns) = 0 ∧ 0 < wN P (2 ^ ns) - wT P s (2 ^ ns))) := fun s hs => by
    obtain ⟨e1, e2⟩ := wf_eq (s := s) (by omega) hP (2 ^ ns) h256
    have := wT_le (P := P) (s := s) (2 ^ ns)
    rw [e1, e2, hp0 _ (by omega), hz0 _ (by omega)]
  rw [su_bt ns hns]
  refine ⟨fun h0 => ?_, fun h0 => ?_⟩
  · have hz : ∀ g : Nat → Int32, (∀ s, s < ns → g s = 0) → m_bt g ns = 0 := fun g hg => by
      rw [bt_bN ns hns (fun s hs => Or.inl (hg s hs))]
      have : ∀ k, k ≤ ns → bN g k = 0 := by
        intro k
        induction k with
        | zero => intro _; rfl
        | succ k ih => intro hk; simp only [bN]; rw [ih (by omega), hg k (by omega), if_neg (by decide)]
      rw [this ns (Nat.le_refl _)]
      rfl
    rw [hz _ (fun s hs => ?_), hz _ (fun s hs => ?_)]
    · rw [if_neg (fun q => by have := (hC0 s hs).mp q; omega)]
    · have := wT_le (P := P) (s := s) (2 ^ ns)
      rw [if_neg (fun q => by have := (hC1 s hs).mp q; omega)]
  · obtain ⟨w0, hw0, hp⟩ := wN_ex _ h0
    have hw : ∀ i, ns ≤ i → w0 / 2 ^ i % 2 = 0 := fun i hi => by
      have h2 : 2 ^ ns ≤ 2 ^ i := Nat.pow_le_pow_right (by decide) hi
      rw [Nat.div_eq_of_lt (by omega)]
    congr 1
    · refine b_ext (fun i hi => ?_)
      rw [bt_m hns b01_i hi, Bool.eq_iff_iff, Bool.and_eq_true, decide_eq_true_eq, decide_eq_true_eq, wA_bt hi]
      refine ⟨fun ⟨q1, q2⟩ => ?_, fun q => ?_⟩
      · have q3 : 0 < wT P i (2 ^ ns) ∧ wN P (2 ^ ns) - wT P i (2 ^ ns) = 0 := by
          by_cases z : 0 < m_wf sy of ob ns no (nI i) 1 (2 ^ ns) ∧ m_wf sy of ob ns no (nI i) 0 (2 ^ ns) = 0
          · exact (hC1 i q1).mp z
          · rw [if_neg z] at q2; exact absurd q2 (by decide)
        have := wT_le (P := P) (s := i) (2 ^ ns)
        exact (wT_all (2 ^ ns)).1.mp (by omega)
      · have h1 : i < ns := by
          rcases Nat.lt_or_ge i ns with z | z
          · exact z
          · have := q w0 hw0 hp; rw [hw i z] at this; cases this
        have h2 := (wT_all (2 ^ ns)).1.mpr q
        exact ⟨h1, if_pos ((hC1 i h1).mpr (by omega))⟩
    · refine b_ext (fun i hi => ?_)
      have hm : bt (((1 : Int32) <<< (nI ns &&& 31)) - 1) i = decide (i < ns) := by
        have : ∀ n, n ≤ 8 → ∀ i, i < 32 → bt (((1 : Int32) <<< (nI n &&& 31)) - 1) i = decide (i < n) := by decide +kernel
        exact this ns hns i hi
      rw [bt_m hns b01_i hi, b_and, hm, b_xor, b_m1 i hi]
      by_cases h1 : i < ns
      · rw [decide_eq_true h1, Bool.true_and, Bool.true_and]
        have hq := (wT_all (P := P) (s := i) (2 ^ ns)).2
        have hb := wE_bt (P := P) hi (2 ^ ns)
        cases e : bt (wE P (2 ^ ns)) i
        · have h3 := hq.mpr (hb.mp e)
          rw [if_pos ((hC0 i h1).mpr (by omega))]
          rfl
        · rw [if_neg (fun z => by have h3 := hb.mpr (hq.mp ((hC0 i h1).mp z).1); rw [h3] at e; cases e)]
          rfl
      · rw [decide_eq_false h1, Bool.false_and, Bool.false_and]
/-- what to ask about, by both -/
theorem as_f {sy of ob : Nat → Int32} {ns no z : Nat} {f : Nat → Nat} (hns : ns ≤ 8) (hz : z ≤ 256) (hmx : ∀ s, s < ns → m_mx sy of ob ns no (nI s) = nI (f s)) (hfs : ∀ s, f s ≤ z ∧ z ≤ 2 * f s) : ∀ k, k + 1 ≤ ns → m_as sy of ob ns no (k + 1) = (nI (k_bq f z (k + 1)).1, nI (k_bq f z (k + 1)).2) ∧ (k_bq f z (k + 1)).2 ≤ z ∧ (k_bq f z (k + 1)).1 < 8 ∧ z ≤ 2 * (k_bq f z (k + 1)).2 := by
  intro k
  induction k with
  | zero =>
    intro hk
    have h0 := hfs 0
    have e1 : k_bq f z (0 + 1) = (0, f 0) := by
      show (if f 0 < z + 1 then (0, f 0) else (0, z + 1)) = (0, f 0)
      rw [if_pos (by omega)]
    have e2 : m_as sy of ob ns no (0 + 1) = (nI 0, m_mx sy of ob ns no (nI 0)) := by
      show (if m_mx sy of ob ns no (nI 0) < 1000000 then _ else _) = _
      rw [if_pos]
      rw [hmx 0 (by omega)]
      exact nI_lt (b := 1000000) (by omega) (by omega)
    rw [e1, e2, hmx 0 (by omega)]
    exact ⟨rfl, h0.1, Nat.succ_pos 7, h0.2⟩
  | succ k ih =>
    intro hk
    have e2 : m_as sy of ob ns no (k + 1 + 1) = if m_mx sy of ob ns no (nI (k + 1)) < (m_as sy of ob ns no (k + 1)).2 then (nI (k + 1), m_mx sy of ob ns no (nI (k + 1))) else m_as sy of ob ns no (k + 1) := rfl
    have e3 : k_bq f z (k + 1 + 1) = if f (k + 1) < (k_bq f z (k + 1)).2 then (k + 1, f (k + 1)) else k_bq f z (k + 1) := rfl
    obtain ⟨i1, i2, i3, i4⟩ := ih (by omega)
    rw [e2, e3, i1, hmx (k + 1) (by omega)]
    generalize k_bq f z (k + 1) = b at i1 i2 i3 i4 ⊢
    have h0 := hfs (k + 1)
    have hl := nI_ltI (a := f (k + 1)) (b := b.2) (by omega) (by omega)
    by_cases q : f (k + 1) < b.2
    · rw [if_pos (hl.mpr q), if_pos q]
      exact ⟨rfl, h0.1, show k + 1 < 8 by omega, h0.2⟩
    · rw [if_neg (fun w => q (hl.mp w)), if_neg q]
      exact ⟨rfl, i2, i3, i4⟩
theorem as_mx {P : Nat → Bool} {sy of ob : Nat → Int32} {ns no : Nat} (hns : ns ≤ 8) (hP : ∀ w, w < 256 → m_iw sy of ob ns no (nI w) = P w) (s : Nat) (hs : s < ns) : m_mx sy of ob ns no (nI s) = nI (max (wT P s (2 ^ ns)) (wN P (2 ^ ns) - wT P s (2 ^ ns))) := by
  have h256 := p256 hns
  have hN := wN_le (P := P) (2 ^ ns)
  obtain ⟨e1, e2⟩ := wf_eq (s := s) (by omega) hP (2 ^ ns) h256
  have := wT_le (P := P) (s := s) (2 ^ ns)
  unfold m_mx
  rw [e1, e2]
  have hl := nI_ltI (a := wT P s (2 ^ ns)) (b := wN P (2 ^ ns) - wT P s (2 ^ ns)) (by omega) (by omega)
  by_cases q : wT P s (2 ^ ns) < wN P (2 ^ ns) - wT P s (2 ^ ns)
  · rw [if_pos (hl.mpr q), Nat.max_eq_right (by omega)]
  · rw [if_neg (fun z => q (hl.mp z)), Nat.max_eq_left (by omega)]
theorem as_fs {P : Nat → Bool} {ns : Nat} (s : Nat) : max (wT P s (2 ^ ns)) (wN P (2 ^ ns) - wT P s (2 ^ ns)) ≤ wN P (2 ^ ns) ∧ wN P (2 ^ ns) ≤ 2 * max (wT P s (2 ^ ns)) (wN P (2 ^ ns) - wT P s (2 ^ ns)) := by
  have := wT_le (P := P) (s := s) (2 ^ ns)
  omega
