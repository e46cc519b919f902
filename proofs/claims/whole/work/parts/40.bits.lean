/-! bits of small sets; what class and model share -/
def m_bt (g : Nat → Int32) : Nat → Int32
  | 0 => 0
  | k + 1 => m_bt g k ||| (g k <<< (nI k &&& 31))
def bN (g : Nat → Int32) : Nat → Nat
  | 0 => 0
  | k + 1 => bN g k + (if g k = 1 then 2 ^ k else 0)
theorem m_cy_bt (a : Nat → Int32) : ∀ k, m_cy a k = m_bt (fun b => a (8 + b)) k
  | 0 => rfl
  | k + 1 => by simp only [m_cy, m_bt]; rw [m_cy_bt a k]
theorem bt_or1 : ∀ k, k < 8 → ∀ v, v < 2 ^ k → nI v ||| ((1 : Int32) <<< (nI k &&& 31)) = nI (v + 2 ^ k) := by decide +kernel
theorem bt_or0 : ∀ k, k < 8 → ((0 : Int32) <<< (nI k &&& 31)) = 0 := by decide
theorem or_0 (x : Int32) : x ||| 0 = x := by simp
def b01 (g : Nat → Int32) (k : Nat) : Prop := ∀ b, b < k → g b = 0 ∨ g b = 1
theorem bN_lt (g : Nat → Int32) : ∀ k, bN g k < 2 ^ k
  | 0 => by simp [bN]
  | k + 1 => by
    have := bN_lt g k
    simp only [bN, Nat.pow_succ]
    split <;> omega
theorem bt_bN {g : Nat → Int32} : ∀ k, k ≤ 8 → b01 g k → m_bt g k = nI (bN g k)
  | 0, _, _ => rfl
  | k + 1, h8, h => by
    have ih := bt_bN k (by omega) (fun b hb => h b (by omega))
    simp only [m_bt, bN]
    rw [ih]
    rcases h k (by omega) with h0 | h1
    · rw [h0, bt_or0 k (by omega), or_0]; simp
    · rw [h1, bt_or1 k (by omega) _ (bN_lt g k)]; simp
theorem bN_bit {g : Nat → Int32} : ∀ k b, b < k → bN g k / 2 ^ b % 2 = if g b = 1 then 1 else 0
  | 0, b, h => by omega
  | k + 1, b, h => by
    simp only [bN]
    by_cases hb : b = k
    · subst hb
      have hl := bN_lt g b
      split
      · rw [Nat.add_div_right _ (Nat.two_pow_pos b), Nat.div_eq_of_lt hl]
      · rw [Nat.add_zero, Nat.div_eq_of_lt hl]
    · have ih := bN_bit (g := g) k b (by omega)
      split
      · obtain ⟨e, rfl⟩ : ∃ e, k = b + 1 + e := ⟨k - b - 1, by omega⟩
        have e1 : 2 ^ (b + 1 + e) = 2 ^ b * (2 * 2 ^ e) := by rw [Nat.pow_add, Nat.pow_succ]; rw [Nat.mul_assoc]
        rw [e1, Nat.add_mul_div_left _ _ (Nat.two_pow_pos b)]
        omega
      · rw [Nat.add_zero]; exact ih
theorem sh_bit : ∀ v, v < 256 → ∀ b, b < 8 → (nI v >>> (nI b &&& 31)) &&& 1 = nI (v / 2 ^ b % 2) := by decide +kernel
theorem k_b_nI {v b : Nat} (hv : v < 256) (hb : b < 8) : k_b (nI v) (nI b) = nI (v / 2 ^ b % 2) := sh_bit v hv b hb
theorem bt_bit {g : Nat → Int32} {k b : Nat} (hk : k ≤ 8) (h : b01 g k) (hb : b < k) : k_b (m_bt g k) (nI b) = g b := by
  have h1 : bN g k < 256 := Nat.lt_of_lt_of_le (bN_lt g k) (Nat.pow_le_pow_right (by decide) hk)
  rw [bt_bN k hk h, k_b_nI h1 (by omega), bN_bit k b hb]
  rcases h b hb with h0 | h1
  · rw [h0]; rfl
  · rw [h1]; rfl
theorem and1 (x : Int32) : x &&& 1 = 0 ∨ x &&& 1 = 1 := by
  obtain ⟨j, hj, e⟩ := pk_andE x (m := 1) 1 (by decide)
  rw [e]
  rcases (by omega : j = 0 ∨ j = 1) with rfl | rfl
  · exact Or.inl rfl
  · exact Or.inr rfl
theorem k_b01 (x k : Int32) : k_b x k = 0 ∨ k_b x k = 1 := and1 _
theorem has_kb (x k : Int32) : m_has x k = k_b x k := by
  unfold m_has
  rcases k_b01 x k with h | h
  · have : ¬ (x >>> (k &&& 31)) &&& 1 = 1 := by
      intro q
      have h2 : (x >>> (k &&& 31)) &&& 1 = 0 := h
      rw [h2] at q; exact absurd q (by decide)
    rw [if_neg this, h]
  · have h2 : (x >>> (k &&& 31)) &&& 1 = 1 := h
    rw [if_pos h2, h]
theorem wi_cl (v : Int32) : k_wi v 0 99 = m_cl v := by
  unfold k_wi m_cl
  have n99 : (99 : Int32).toInt = 99 := by decide
  have n0 : (0 : Int32).toInt = 0 := by decide
  simp only [Int32.lt_iff_toInt_lt, n99, n0]
  by_cases h1 : v.toInt < 0
  · have h2 : v.toInt < 99 := by omega
    have h3 : ¬ 0 < v.toInt := by omega
    simp [h1, h2, h3]
  · by_cases h2 : 99 < v.toInt
    · have h3 : ¬ v.toInt < 99 := by omega
      simp [h1, h2, h3, n99]
    · by_cases h3 : v.toInt < 99
      · simp only [h1, h2, h3, if_false, if_true]
        by_cases h4 : 0 < v.toInt
        · simp [h4]
        · have : v = 0 := Int32.toInt_inj.mp (by rw [n0]; omega)
          simp [this]
      · have : v = 99 := Int32.toInt_inj.mp (by rw [n99]; omega)
        subst this
        simp
theorem tl_eq {t t' : Nat → Int32} {x : Int32} : ∀ n, (∀ b, b < n → t b = t' b) → k_tl t x n = m_tl t' x n
  | 0, _ => rfl
  | n + 1, h => by
    simp only [k_tl, m_tl, has_kb]
    rw [tl_eq n (fun b hb => h b (by omega)), h n (by omega)]
theorem be_eq {z rs : Nat} {rv : RV} (hz : z = 0 ↔ rs = 0) {str tl a : Nat → Int32} {mo st x : Int32} {b : Nat} : k_be z rv (str b) (a b) (tl b) mo (bc x) st (nI b) = m_be rs rv str tl a mo st b x := by
  unfold k_be m_be
  by_cases h : rs = 0
  · rw [if_pos (hz.mpr h), if_pos h, wi_cl]
  · rw [if_neg (fun q => h (hz.mp q)), if_neg h, wi_cl]
theorem fo_eq {z rs : Nat} {rv : RV} (hz : z = 0 ↔ rs = 0) {str tl a str' tl' a' : Nat → Int32} {mo st x : Int32} : ∀ n, (∀ b, b < n → str b = str' b ∧ tl b = tl' b ∧ a b = a' b) → k_fo z rv str tl a mo st x n = m_fo rs rv str' tl' a' mo st x n
  | 0, _ => rfl
  | n + 1, h => by
    simp only [k_fo, m_fo, has_kb]
    obtain ⟨h1, h2, h3⟩ := h n (by omega)
    rw [fo_eq hz n (fun b hb => h b (by omega)), h1, h2, h3]
    have := be_eq (rv := rv) hz (str := str') (tl := tl') (a := a') (mo := mo) (st := st) (x := x) (b := n)
    rw [this]
    split
    · simp
    · rfl
theorem st_eq {c : Nat} {s s' : Nat → Int32} {a : Nat} (h : ∀ k, k < c → s k = s' k) : m_st c s a = m_st c s' a := by
  unfold m_st
  split
  · rename_i hc; exact h a hc
  · rfl
/-- one BEARER moves on, told by both -/
theorem wi_m1 (x : Int32) (hx : ∃ t, t ≤ 99 ∧ x = nI t) (sg : Int32) (hs : sg = 0 ∨ sg = 1) : k_wi (x + (1 + 2 * sg)) 0 99 = (if x + 1 + 2 * sg < 99 then x + 1 + 2 * sg else 99) ∧ k_wi (x + -2) 0 99 = (if 0 < x - 2 then x - 2 else 0) := by
  obtain ⟨t, ht, rfl⟩ := hx
  have key : ∀ t, t ≤ 99 → ∀ s : Fin 2, k_wi (nI t + (1 + 2 * nI s.val)) 0 99 = (if nI t + 1 + 2 * nI s.val < 99 then nI t + 1 + 2 * nI s.val else 99) ∧ k_wi (nI t + -2) 0 99 = (if 0 < nI t - 2 then nI t - 2 else 0) := by decide +kernel
  rcases hs with rfl | rfl
  · exact key t ht 0
  · exact key t ht 1
