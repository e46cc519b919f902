/-! the class: slips by chance -/
/-- the ways that leave just t of v -/
def ws (t v p : Nat) : Nat → Nat
  | 0 => 1
  | b + 1 => if v / 2 ^ b % 2 = 0 then ws t v p b else ws t v p b * (if t / 2 ^ b % 2 = 0 then p else 10 - p)
theorem ws_le {t v p : Nat} (hp : p ≤ 10) : ∀ b, ws t v p b ≤ 10 ^ b
  | 0 => Nat.le_refl _
  | b + 1 => by
    have := ws_le (t := t) (v := v) hp b
    simp only [ws, Nat.pow_succ]
    split
    · omega
    · split
      · exact Nat.mul_le_mul this hp
      · exact Nat.mul_le_mul this (by omega)
def k_up (F : Int32 → Int32) (nd : Int32) (v p n : Nat) : Nat → Nat
  | 0 => 0
  | b + 1 => k_up F nd v p n b + (if nI b &&& (nI v ^^^ (-1)) = 0 ∧ ¬ F (nI b) < nd then ws b v p n else 0)
def sumN (f : Nat → Nat) : Nat → Nat
  | 0 => 0
  | b + 1 => sumN f b + f b
theorem sumN_add {f : Nat → Nat} {a : Nat} : ∀ b, sumN f (a + b) = sumN f a + sumN (fun t => f (a + t)) b
  | 0 => rfl
  | b + 1 => by
    show sumN f (a + b) + f (a + b) = _
    rw [sumN_add b]; simp only [sumN]; omega
theorem sumN_ext {f g : Nat → Nat} : ∀ b, (∀ t, t < b → f t = g t) → sumN f b = sumN g b
  | 0, _ => rfl
  | b + 1, h => by simp only [sumN]; rw [sumN_ext b (fun t ht => h t (by omega)), h b (by omega)]
theorem sumN_mul {f : Nat → Nat} {k : Nat} : ∀ b, sumN (fun t => f t * k) b = sumN f b * k
  | 0 => by simp [sumN]
  | b + 1 => by simp only [sumN]; rw [sumN_mul b, Nat.add_mul]
theorem sumN_le {f g : Nat → Nat} : ∀ b, (∀ t, t < b → f t ≤ g t) → sumN f b ≤ sumN g b
  | 0, _ => Nat.le_refl _
  | b + 1, h => by
    simp only [sumN]
    exact Nat.add_le_add (sumN_le b (fun t ht => h t (by omega))) (h b (by omega))
theorem sumN_mono {f : Nat → Nat} {a : Nat} : ∀ b, a ≤ b → sumN f a ≤ sumN f b
  | 0, h => by rw [show a = 0 by omega]; exact Nat.le_refl _
  | b + 1, h => by
    by_cases e : a = b + 1
    · rw [e]; exact Nat.le_refl _
    · simp only [sumN]; exact Nat.le_trans (sumN_mono b (by omega)) (Nat.le_add_right _ _)
/-- the same, and 0 where t has what v has not -/
def wz (t v p : Nat) : Nat → Nat
  | 0 => 1
  | b + 1 => wz t v p b * (if v / 2 ^ b % 2 = 0 then (if t / 2 ^ b % 2 = 0 then 1 else 0) else (if t / 2 ^ b % 2 = 0 then p else 10 - p))
theorem wz_ext {t t' v p : Nat} : ∀ n, (∀ b, b < n → t / 2 ^ b % 2 = t' / 2 ^ b % 2) → wz t v p n = wz t' v p n
  | 0, _ => rfl
  | n + 1, h => by simp only [wz]; rw [wz_ext n (fun b hb => h b (by omega)), h n (by omega)]
theorem bit_add {t n b : Nat} (hb : b < n) : (2 ^ n + t) / 2 ^ b % 2 = t / 2 ^ b % 2 := by
  obtain ⟨k, rfl⟩ : ∃ k, n = b + 1 + k := ⟨n - (b + 1), by omega⟩
  rw [show 2 ^ (b + 1 + k) = 2 ^ b * (2 * 2 ^ k) by rw [Nat.pow_add, Nat.pow_succ, Nat.mul_assoc], Nat.add_comm, Nat.add_mul_div_left _ _ (Nat.pow_pos (by decide)), Nat.add_mod, Nat.mul_mod_right, Nat.add_zero, Nat.mod_mod]
theorem wz_sum {v p : Nat} (hp : p ≤ 10) : ∀ n, sumN (fun t => wz t v p n) (2 ^ n) ≤ 10 ^ n
  | 0 => by simp [sumN, wz]
  | n + 1 => by
    have ih := wz_sum (v := v) hp n
    rw [Nat.pow_succ, Nat.mul_two, sumN_add, Nat.pow_succ]
    have e1 : sumN (fun t => wz t v p (n + 1)) (2 ^ n) = sumN (fun t => wz t v p n) (2 ^ n) * (if v / 2 ^ n % 2 = 0 then 1 else p) := by
      rw [← sumN_mul]
      refine sumN_ext _ (fun t ht => ?_)
      simp only [wz]
      rw [show t / 2 ^ n % 2 = 0 by rw [Nat.div_eq_of_lt ht]]
      simp
    have e2 : sumN (fun t => (fun t => wz t v p (n + 1)) (2 ^ n + t)) (2 ^ n) = sumN (fun t => wz t v p n) (2 ^ n) * (if v / 2 ^ n % 2 = 0 then 0 else 10 - p) := by
      rw [← sumN_mul]
      refine sumN_ext _ (fun t ht => ?_)
      simp only [wz]
      rw [wz_ext n (fun b hb => bit_add (t := t) hb), show (2 ^ n + t) / 2 ^ n % 2 = 1 by rw [Nat.add_div_left _ (Nat.pow_pos (by decide)), Nat.div_eq_of_lt ht]]
      simp
    rw [e1, e2]
    split
    · omega
    · rw [← Nat.mul_add, show p + (10 - p) = 10 by omega]; exact Nat.mul_le_mul_right _ ih
theorem sub_b {v t b : Nat} (hv : v < 256) (ht : t < 256) (h : nI t &&& (nI v ^^^ (-1)) = 0) (hb : b < 8) : t / 2 ^ b % 2 ≤ v / 2 ^ b % 2 := by
  have hb8 : b = 0 ∨ b = 1 ∨ b = 2 ∨ b = 3 ∨ b = 4 ∨ b = 5 ∨ b = 6 ∨ b = 7 := by clear h; omega
  have k := sub_bits v hv t ht h
  rcases (hb8 : b = 0 ∨ b = 1 ∨ b = 2 ∨ b = 3 ∨ b = 4 ∨ b = 5 ∨ b = 6 ∨ b = 7) with rfl | rfl | rfl | rfl | rfl | rfl | rfl | rfl
  · have := k.1; simpa using this
  · have := k.2.1; simpa using this
  · have := k.2.2.1; simpa using this
  · have := k.2.2.2.1; simpa using this
  · have := k.2.2.2.2.1; simpa using this
  · have := k.2.2.2.2.2.1; simpa using this
  · have := k.2.2.2.2.2.2.1; simpa using this
  · have := k.2.2.2.2.2.2.2.1; simpa using this
theorem ws_wz {v t p : Nat} : ∀ n, (∀ b, b < n → t / 2 ^ b % 2 ≤ v / 2 ^ b % 2) → ws t v p n = wz t v p n
  | 0, _ => rfl
  | n + 1, h => by
    have ih := ws_wz (v := v) (t := t) (p := p) n (fun b hb => h b (by omega))
    have hn := h n (by omega)
    simp only [ws, wz]
    rw [ih]
    by_cases e : v / 2 ^ n % 2 = 0
    · rw [if_pos e, if_pos e, if_pos (by omega), Nat.mul_one]
    · rw [if_neg e, if_neg e]
theorem k_up_sum {F : Int32 → Int32} {nd : Int32} {v p n : Nat} (hn : n ≤ 8) (hv : v < 256) : ∀ b, b ≤ 256 → k_up F nd v p n b ≤ sumN (fun t => wz t v p n) b
  | 0, _ => Nat.le_refl _
  | b + 1, hb => by
    have ih := k_up_sum (F := F) (nd := nd) (p := p) hn hv b (by omega)
    simp only [k_up, sumN]
    split
    · next h =>
      rw [ws_wz n (fun i hi => sub_b hv (by omega) h.1 (by omega))]
      omega
    · omega
theorem k_up_le {F : Int32 → Int32} {nd : Int32} {v p n b : Nat} (hn : n ≤ 8) (hv : v < 256) (hp : p ≤ 10) (hb : b ≤ 2 ^ n) : k_up F nd v p n b ≤ 100000000 := by
  have h2 := p256 hn
  exact Nat.le_trans (k_up_sum hn hv b (by omega)) (Nat.le_trans (sumN_mono _ hb) (Nat.le_trans (wz_sum hp n) (p10 hn)))
theorem kb_z {v b : Nat} (hv : v < 256) (hb : b < 8) (h : (nI v >>> (nI b &&& 31)) &&& 1 = 0) : v / 2 ^ b % 2 = 0 := by
  rw [sh_bit v hv b hb] at h
  exact (nI_eq (b := 0) (by omega) (by decide)).mp h
theorem kb_nz {v b : Nat} (hv : v < 256) (hb : b < 8) (h : ¬ (nI v >>> (nI b &&& 31)) &&& 1 = 0) : ¬ v / 2 ^ b % 2 = 0 := fun q => h (by rw [sh_bit v hv b hb, q]; rfl)
