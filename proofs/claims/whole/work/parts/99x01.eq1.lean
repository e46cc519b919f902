/-! equalities: bits of sets; who knows; props, change, slant -/
def bt (x : Int32) (i : Nat) : Bool := x.toBitVec.getLsbD i
theorem b_ext {x y : Int32} (h : ∀ i, i < 32 → bt x i = bt y i) : x = y := Int32.toBitVec_inj.mp (BitVec.eq_of_getLsbD_eq (fun i hi => h i hi))
theorem b_or (x y : Int32) (i : Nat) : bt (x ||| y) i = (bt x i || bt y i) := by unfold bt; rw [Int32.toBitVec_or, BitVec.getLsbD_or]
theorem b_and (x y : Int32) (i : Nat) : bt (x &&& y) i = (bt x i && bt y i) := by unfold bt; rw [Int32.toBitVec_and, BitVec.getLsbD_and]
theorem b_xor (x y : Int32) (i : Nat) : bt (x ^^^ y) i = (bt x i ^^ bt y i) := by unfold bt; rw [Int32.toBitVec_xor, BitVec.getLsbD_xor]
theorem b_big {x : Int32} {i : Nat} (h : 32 ≤ i) : bt x i = false := BitVec.getLsbD_of_ge _ _ h
theorem b_255 (i : Nat) : bt 255 i = decide (i < 8) := by
  rcases Nat.lt_or_ge i 32 with h | h
  · exact (by decide +kernel : ∀ i, i < 32 → bt 255 i = decide (i < 8)) i h
  · rw [b_big h, decide_eq_false (by omega)]
theorem b_65535 (i : Nat) : bt 65535 i = decide (i < 16) := by
  rcases Nat.lt_or_ge i 32 with h | h
  · exact (by decide +kernel : ∀ i, i < 32 → bt 65535 i = decide (i < 16)) i h
  · rw [b_big h, decide_eq_false (by omega)]
theorem b_m1 : ∀ i, i < 32 → bt (-1) i = true := by decide +kernel
theorem b_0 (i : Nat) : bt 0 i = false := BitVec.getLsbD_zero
theorem s_l : ∀ n, n < 32 → ((nI n &&& 31).toBitVec.smod 32).toNat = n := by decide +kernel
theorem s_u : ∀ n, n < 32 → (((nI n).toUInt32 &&& Int32.toUInt32 31).toBitVec % 32).toNat = n := by decide +kernel
theorem b_shl (n : Nat) (hn : n < 32) (x : Int32) {i : Nat} (hi : i < 32) : bt (x <<< (nI n &&& 31)) i = (decide (n ≤ i) && bt x (i - n)) := by
  unfold bt
  rw [Int32.toBitVec_shiftLeft]
  show (x.toBitVec <<< ((nI n &&& 31).toBitVec.smod 32).toNat).getLsbD i = _
  rw [s_l n hn, BitVec.getLsbD_shiftLeft]
  rcases Nat.lt_or_ge i n with h | h
  · simp [h, Nat.not_le.mpr h]
  · simp [hi, h, Nat.not_lt.mpr h]
theorem b_ushr (n : Nat) (hn : n < 32) (x : Int32) (i : Nat) : bt ((x.toUInt32 >>> ((nI n).toUInt32 &&& Int32.toUInt32 31)).toInt32) i = bt x (n + i) := by
  show (x.toUInt32 >>> ((nI n).toUInt32 &&& Int32.toUInt32 31)).toBitVec.getLsbD i = x.toUInt32.toBitVec.getLsbD (n + i)
  rw [UInt32.toBitVec_shiftRight]
  show (x.toUInt32.toBitVec >>> (((nI n).toUInt32 &&& Int32.toUInt32 31).toBitVec % 32).toNat).getLsbD i = _
  rw [s_u n hn, BitVec.getLsbD_ushiftRight]
theorem b_sshr (n : Nat) (hn : n < 32) (x : Int32) {i : Nat} (hi : i < 32) : bt (x >>> (nI n &&& 31)) i = if n + i < 32 then bt x (n + i) else bt x 31 := by
  unfold bt
  rw [Int32.toBitVec_shiftRight]
  show (x.toBitVec.sshiftRight ((nI n &&& 31).toBitVec.smod 32).toNat).getLsbD i = _
  rw [s_l n hn, BitVec.getLsbD_sshiftRight, BitVec.msb_eq_getLsbD_last]
  simp [hi]
theorem b_shl8 (x : Int32) {i : Nat} (hi : i < 32) : bt (x <<< ((8 : Int32) &&& 31)) i = (decide (8 ≤ i) && bt x (i - 8)) := b_shl 8 (by omega) x hi
theorem b_shl16 (x : Int32) {i : Nat} (hi : i < 32) : bt (x <<< ((16 : Int32) &&& 31)) i = (decide (16 ≤ i) && bt x (i - 16)) := b_shl 16 (by omega) x hi
theorem b_shl24 (x : Int32) {i : Nat} (hi : i < 32) : bt (x <<< ((24 : Int32) &&& 31)) i = (decide (24 ≤ i) && bt x (i - 24)) := b_shl 24 (by omega) x hi
theorem b_sshr8 (x : Int32) {i : Nat} (hi : i < 32) : bt (x >>> ((8 : Int32) &&& 31)) i = if 8 + i < 32 then bt x (8 + i) else bt x 31 := b_sshr 8 (by omega) x hi
theorem b_1 (i : Nat) : bt 1 i = decide (i = 0) := by
  rcases Nat.lt_or_ge i 32 with h | h
  · exact (by decide +kernel : ∀ i, i < 32 → bt 1 i = decide (i = 0)) i h
  · rw [b_big h, decide_eq_false (by omega)]
theorem kb_bt (X : Int32) {s : Nat} (hs : s < 32) : k_b X (nI s) = if bt X s = true then 1 else 0 := by
  refine b_ext (fun i hi => ?_)
  unfold k_b
  rw [b_and, b_1]
  by_cases h : i = 0
  · subst h
    rw [b_sshr s (by omega) X (by omega), Nat.add_zero, if_pos (by omega)]
    cases bt X s
    · simp [b_0]
    · simp [b_1]
  · rw [decide_eq_false h, Bool.and_false]
    cases bt X s
    · simp [b_0]
    · simp [b_1, h]
theorem and_or_d (X Y Z : Int32) : X &&& (Y ||| Z) = (X &&& Y) ||| (X &&& Z) := b_ext (fun i _ => by rw [b_and, b_or, b_or, b_and, b_and, Bool.and_or_distrib_left])
theorem and_bit (X : Int32) {s : Nat} (hs : s < 8) : X &&& ((1 : Int32) <<< (nI s &&& 31)) = k_b X (nI s) <<< (nI s &&& 31) := by
  refine b_ext (fun i hi => ?_)
  rw [b_and, b_shl s (by omega) _ hi, b_shl s (by omega) _ hi, kb_bt X (by omega), b_1]
  by_cases h : i = s
  · subst h
    rw [Nat.sub_self]
    cases bt X i <;> simp [b_0, b_1]
  · by_cases h1 : s ≤ i
    · have h2 : ¬ i - s = 0 := by omega
      rw [decide_eq_false h2, Bool.and_false, Bool.and_false]
      cases bt X s
      · rw [if_neg (by decide), b_0, Bool.and_false]
      · rw [if_pos rfl, b_1, decide_eq_false h2, Bool.and_false]
    · rw [decide_eq_false h1, Bool.false_and, Bool.false_and, Bool.and_false]
theorem kb_not (X : Int32) {s : Nat} (hs : s < 8) : k_b (X ^^^ (-1)) (nI s) = if k_b X (nI s) = 0 then 1 else 0 := by
  rw [kb_bt _ (by omega), kb_bt _ (by omega), b_xor, b_m1 s (by omega)]
  cases bt X s <;> simp
theorem and_bt (X : Int32) {g : Nat → Int32} : ∀ n, n ≤ 8 → b01 g n → X &&& m_bt g n = m_bt (fun s => if k_b X (nI s) = 0 then 0 else g s) n
  | 0, _, _ => Int32.and_zero
  | n + 1, hn, h => by
    simp only [m_bt]
    rw [and_or_d, and_bt X n (by omega) (fun b hb => h b (by omega))]
    congr 1
    rcases h n (by omega) with e | e
    · rw [e, bt_or0 n (by omega), Int32.and_zero, ite_self, bt_or0 n (by omega)]
    · rw [e, and_bit X (by omega)]
      rcases k_b01 X (nI n) with q | q
      · rw [q, if_pos rfl]
      · rw [q, if_neg (by decide)]
theorem kn_bt {f : Nat → Int32} {w : Int32} : ∀ n, k_kn f w n = m_bt (fun s => k_b (f s) w) n
  | 0 => rfl
  | n + 1 => by simp only [k_kn, m_bt]; rw [kn_bt n]
theorem mkb_bt {sy row : Nat → Int32} {w t : Int32} : ∀ n, n ≤ 8 → m_kb sy row w t n = m_bt (fun s => if m_kn sy w s = 0 then 0 else if row (16 + s) = 0 then (if m_tr sy s = t then 1 else 0) else 0) n
  | 0, _ => rfl
  | n + 1, hn => by
    simp only [m_kb, m_bt]
    rw [mkb_bt n (by omega)]
    congr 1
    have := bt_or0 n (by omega)
    split
    · exact this.symm
    · split
      · split
        · rfl
        · exact this.symm
      · exact this.symm
theorem kb01 (f : Nat → Int32) (w : Int32) (n : Nat) : b01 (fun s => k_b (f s) w) n := fun b _ => k_b01 _ _
/-- what a seventh knows, unsaid, true or not -/
theorem set_k {I : Nat → Nat → Int32} {sp str tl sy row : Nat → Int32} {n c ns : Nat} {S : Int32} (hst : ST I sp str tl sy n c ns) (hS : S = m_bt (fun s => row (16 + s)) ns) (h01 : b01 (fun s => row (16 + s)) ns) (w : Int32) : k_kn (I 14) w ns &&& (S ^^^ (-1)) = m_bt (fun s => if row (16 + s) = 0 then k_b (sy (4 * s + 3)) w else 0) ns := by
  obtain ⟨_, _, _, _, _, _, hns8, _, _, s3, _, _⟩ := hst
  rw [Int32.and_comm, kn_bt, and_bt _ ns hns8 (kb01 _ _ _)]
  refine bt_ext ns (fun s hs => ?_)
  have hb : k_b (S ^^^ (-1)) (nI s) = if row (16 + s) = 0 then 1 else 0 := by rw [kb_not _ (by omega), hS, bt_bit hns8 h01 hs]
  have q : row (16 + s) = 0 ∨ row (16 + s) = 1 := h01 s hs
  rw [hb, (s3 s hs).2.2.2]
  rcases q with q | q <;> simp [q]
theorem set_1 {I : Nat → Nat → Int32} {sp str tl sy row : Nat → Int32} {n c ns : Nat} {S : Int32} (hst : ST I sp str tl sy n c ns) (hS : S = m_bt (fun s => row (16 + s)) ns) (h01 : b01 (fun s => row (16 + s)) ns) (w : Int32) : (k_kn (I 14) w ns &&& (S ^^^ (-1))) &&& I 11 3 = m_kb sy row w 1 ns := by
  rw [set_k hst hS h01 w]
  obtain ⟨_, _, _, _, _, _, hns8, _, _, s3, _, _⟩ := hst
  have h0 : b01 (fun s => if row (16 + s) = 0 then k_b (sy (4 * s + 3)) w else 0) ns := by
    intro b hb
    show (if row (16 + b) = 0 then k_b (sy (4 * b + 3)) w else 0) = 0 ∨ (if row (16 + b) = 0 then k_b (sy (4 * b + 3)) w else 0) = 1
    split
    · exact k_b01 _ _
    · exact Or.inl rfl
  rw [Int32.and_comm, and_bt _ ns hns8 h0, mkb_bt ns hns8]
  refine bt_ext ns (fun s hs => ?_)
  have e1 := (s3 s hs).2.1
  have r := k_b01 (I 11 3) (nI s)
  have q : row (16 + s) = 0 ∨ row (16 + s) = 1 := h01 s hs
  have u := k_b01 (sy (4 * s + 3)) w
  rw [e1] at r
  rw [e1]
  unfold m_kn m_tr
  rw [has_kb]
  rcases q with q | q <;> rcases r with r | r <;> rcases u with u | u <;> simp [q, r, u]
theorem set_0 {I : Nat → Nat → Int32} {sp str tl sy row : Nat → Int32} {n c ns : Nat} {S : Int32} (hst : ST I sp str tl sy n c ns) (hS : S = m_bt (fun s => row (16 + s)) ns) (h01 : b01 (fun s => row (16 + s)) ns) (w : Int32) : (k_kn (I 14) w ns &&& (S ^^^ (-1))) &&& (I 11 3 ^^^ (-1)) = m_kb sy row w 0 ns := by
  rw [set_k hst hS h01 w]
  obtain ⟨_, _, _, _, _, _, hns8, _, _, s3, _, _⟩ := hst
  have h0 : b01 (fun s => if row (16 + s) = 0 then k_b (sy (4 * s + 3)) w else 0) ns := by
    intro b hb
    show (if row (16 + b) = 0 then k_b (sy (4 * b + 3)) w else 0) = 0 ∨ (if row (16 + b) = 0 then k_b (sy (4 * b + 3)) w else 0) = 1
    split
    · exact k_b01 _ _
    · exact Or.inl rfl
  rw [Int32.and_comm, and_bt _ ns hns8 h0, mkb_bt ns hns8]
  refine bt_ext ns (fun s hs => ?_)
  have e1 := (s3 s hs).2.1
  have r := k_b01 (I 11 3) (nI s)
  have q : row (16 + s) = 0 ∨ row (16 + s) = 1 := h01 s hs
  have u := k_b01 (sy (4 * s + 3)) w
  rw [kb_not _ (by omega)]
  rw [e1] at r
  rw [e1]
  unfold m_kn m_tr
  rw [has_kb]
  rcases q with q | q <;> rcases r with r | r <;> rcases u with u | u <;> simp [q, r, u]
theorem set_L {I : Nat → Nat → Int32} {sp str tl sy row : Nat → Int32} {n c ns : Nat} {S : Int32} (hst : ST I sp str tl sy n c ns) (hS : S = m_bt (fun s => row (16 + s)) ns) (h01 : b01 (fun s => row (16 + s)) ns) (w : Int32) : (I 11 3 &&& k_kn (I 14) w ns) &&& (S ^^^ (-1)) = m_kb sy row w 1 ns := by
  rw [← set_1 hst hS h01 w, Int32.and_assoc, Int32.and_comm]
theorem hv_le {sy : Nat → Int32} {x : Int32} : ∀ n, (∀ s, s < n → ∃ t, t ≤ 20 ∧ sy (4 * s) = nI t) → ∃ h, h ≤ 20 * n ∧ m_hv sy x n = nI h
  | 0, _ => ⟨0, by omega, rfl⟩
  | n + 1, h => by
    obtain ⟨z, hz, e⟩ := hv_le (x := x) n (fun s hs => h s (by omega))
    obtain ⟨t, ht, e2⟩ := h n (by omega)
    simp only [m_hv]
    rw [e]
    split
    · exact ⟨z, by omega, by rw [Int32.add_zero]⟩
    · exact ⟨z + t, by omega, by rw [e2, nI_add]⟩
theorem sec_eq {f sy : Nat → Int32} {x : Int32} : ∀ n, (∀ k, k < n → f k = sy (4 * k + 3)) → k_sec f x n = m_sec sy x n
  | 0, _ => rfl
  | n + 1, h => by
    simp only [k_sec, m_sec]
    rw [sec_eq n (fun k hk => h k (by omega)), h n (by omega)]
    split
    · rfl
    · rw [or_0]
theorem sub_p {x y : Nat} (hx : x < 2 ^ 30) (hy : y < 2 ^ 30) : (0 < nI x - nI y ↔ y < x) ∧ (nI x - nI y = 0 ↔ x = y) := by
  by_cases h : y ≤ x
  · rw [pk_sub h]
    have e := nI_ltI (a := 0) (b := x - y) (by omega) (by omega)
    have e2 := nI_eq (a := x - y) (b := 0) (by omega) (by omega)
    rw [nI_0] at e e2
    exact ⟨e.trans (by omega), e2.trans (by omega)⟩
  · have h2 := pk_sneg (a := x) (b := y) (by omega) (by omega)
    refine ⟨⟨fun q => absurd (Int32.lt_trans q h2) (Int32.lt_irrefl), fun q => absurd q (by omega)⟩, ⟨fun q => ?_, fun q => absurd q (by omega)⟩⟩
    rw [q] at h2
    exact absurd h2 Int32.lt_irrefl
theorem ml_eq {sy row : Nat → Int32} {ns : Nat} (hns : ns ≤ 8) (hs : ∀ s, s < ns → ∃ t, t ≤ 20 ∧ sy (4 * s) = nI t) : ∀ b, b + 1 ≤ 4 → k_ml (fun b => m_hv sy (m_kb sy row (nI b) 1 ns) ns) (fun b => bc (m_kb sy row (nI b) 0 ns)) (b + 1) = (m_bst sy row ns (b + 1), m_hv sy (m_kb sy row (m_bst sy row ns (b + 1)) 1 ns) ns, bc (m_kb sy row (m_bst sy row ns (b + 1)) 0 ns)) ∧ ∃ j, j < 4 ∧ m_bst sy row ns (b + 1) = nI j
  | 0, _ => by
    have e : m_bst sy row ns 1 = 0 := by simp [m_bst, nI_0]
    rw [e]
    refine ⟨?_, 0, by omega, nI_0.symm⟩
    show (if (-1 : Int32) < 0 then _ else _) = _
    rw [if_pos (by decide), nI_0]
    simp only [nI_0]
  | b + 1, hb => by
    obtain ⟨e, j, hj, e2⟩ := ml_eq (row := row) hns hs b (by omega)
    obtain ⟨x, hx, ex⟩ := hv_le (x := m_kb sy row (nI (b + 1)) 1 ns) ns hs
    obtain ⟨y, hy, ey⟩ := hv_le (x := m_kb sy row (m_bst sy row ns (b + 1)) 1 ns) ns hs
    have hp := sub_p (x := x) (y := y) (by omega) (by omega)
    have e3 : m_bst sy row ns (b + 1 + 1) = if m_bq sy row ns (nI (b + 1)) (m_bst sy row ns (b + 1)) = true then nI (b + 1) else m_bst sy row ns (b + 1) := rfl
    have e4 : k_ml (fun b => m_hv sy (m_kb sy row (nI b) 1 ns) ns) (fun b => bc (m_kb sy row (nI b) 0 ns)) (b + 1 + 1) = _ := k_ml.eq_2 _ _ _
    rw [e] at e4
    rw [if_neg (by rw [e2]; exact nI_pos (by omega))] at e4
    unfold m_bq at e3
    rw [ex, ey] at e3
    simp only [ex, ey] at e4
    rw [e4, e3]
    have hlt := nI_ltI (a := y) (b := x) (by omega) (by omega)
    have heq := nI_eq (a := x) (b := y) (by omega) (by omega)
    by_cases h1 : y < x
    · rw [if_pos (hlt.mpr h1), decide_eq_true (hp.1.mpr h1)]
      refine ⟨by simp [ex], b + 1, by omega, by simp⟩
    · rw [if_neg (fun q => h1 (hlt.mp q)), decide_eq_false (fun q => h1 (hp.1.mp q))]
      by_cases h2 : x = y
      · rw [if_pos (heq.mpr h2), decide_eq_true (hp.2.mpr h2)]
        by_cases h3 : bc (m_kb sy row (nI (b + 1)) 0 ns) < bc (m_kb sy row (m_bst sy row ns (b + 1)) 0 ns)
        · rw [if_pos h3, decide_eq_true h3]
          refine ⟨by simp [ex], b + 1, by omega, by simp⟩
        · rw [if_neg h3, decide_eq_false h3]
          refine ⟨by simp [ey], j, hj, by simp [e2]⟩
      · rw [if_neg (fun q => h2 (heq.mp q)), decide_eq_false (fun q => h2 (hp.2.mp q))]
        refine ⟨by simp [ey], j, hj, by simp [e2]⟩
theorem xor_off : ∀ v, v < 256 → ∀ b, b < 8 → ¬ k_b (nI v) (nI b) = 0 → nI v ^^^ ((1 : Int32) <<< (nI b &&& 31)) = nI v &&& (((1 : Int32) <<< (nI b &&& 31)) ^^^ (-1)) := by decide +kernel
theorem pr_eq {F : Int32 → Int32} {nd : Int32} {v : Nat} (hv : v < 256) : ∀ n, n ≤ 8 → k_pr F nd (nI v) n = m_pr F nd (nI v) n
  | 0, _ => rfl
  | b + 1, hb => by
    simp only [k_pr, m_pr]
    rw [pr_eq hv b (by omega), has_kb]
    by_cases e : k_b (nI v) (nI b) = 0
    · rw [if_pos e, if_neg (fun q => q.1 e), or_0]
    · rw [if_neg e, xor_off v hv b (by omega) e]
      split
      · next h => rw [if_pos ⟨e, h⟩]
      · next h => rw [if_neg (fun q => h q.2), or_0]
theorem xor_ch : ∀ v, v < 256 → ∀ a, a < 8 → ∀ b, b < 8 → k_b (nI v) (nI a) = 1 → k_b (nI v) (nI b) = 0 → (nI v ^^^ ((1 : Int32) <<< (nI a &&& 31))) ^^^ ((1 : Int32) <<< (nI b &&& 31)) = (nI v &&& (((1 : Int32) <<< (nI a &&& 31)) ^^^ (-1))) ||| ((1 : Int32) <<< (nI b &&& 31)) := by decide +kernel
/-- the class's best so far and the model's -/
def chE (k m : Int32 × Int32 × Int32) : Prop := (k = m ∧ 0 ≤ m.1) ∨ (k = (-2, -1, -1) ∧ m = (-1, -1, -1))
theorem chE_s {k m : Int32 × Int32 × Int32} {v x y : Int32} (h : chE k m) (hv : 0 ≤ v) : chE (if k.1 < v then (v, x, y) else k) (if m.1 < v then (v, x, y) else m) := by
  rcases h with ⟨rfl, h⟩ | ⟨rfl, rfl⟩
  · left
    refine ⟨rfl, ?_⟩
    split
    · exact hv
    · exact h
  · left
    have h1 : (-2 : Int32) < v := Int32.lt_of_lt_of_le (by decide) hv
    have h2 : (-1 : Int32) < v := Int32.lt_of_lt_of_le (by decide) hv
    simp only
    rw [if_pos h1, if_pos h2]
    exact ⟨rfl, hv⟩
theorem chI_eq {F : Int32 → Int32} (hF : ∀ x, 0 ≤ F x) {v a : Nat} (hv : v < 256) (ha : a < 8) {k m : Int32 × Int32 × Int32} (h : chE k m) : ∀ b, b ≤ 8 → chE (k_chI F (nI v) a k b) (m_chI F (nI v) a m b)
  | 0, _ => h
  | b + 1, hb => by
    have ih := chI_eq hF hv ha h b (by omega)
    simp only [k_chI, m_chI, k_ch1, m_ch1]
    rw [has_kb, has_kb]
    rcases k_b01 (nI v) (nI a) with e | e
    · rw [e, if_neg (by decide), if_pos rfl]; exact ih
    · rw [e, if_pos rfl, if_neg (by decide : ¬ (1 : Int32) = 0)]
      by_cases e2 : k_b (nI v) (nI b) = 0
      · rw [if_pos e2, if_pos e2, xor_ch v hv a ha b (by omega) e e2]
        exact chE_s ih (hF _)
      · rw [if_neg e2, if_neg e2]; exact ih
theorem chO_eq {F : Int32 → Int32} (hF : ∀ x, 0 ≤ F x) {v n : Nat} (hv : v < 256) (hn : n ≤ 8) : ∀ a, a ≤ n → chE (k_chO F (nI v) n a) (m_chO F (nI v) n a)
  | 0, _ => Or.inr ⟨rfl, rfl⟩
  | a + 1, ha => chI_eq hF hv (by omega) (chO_eq hF hv hn a (by omega)) n hn
theorem chE_1 {k m : Int32 × Int32 × Int32} (h : chE k m) : (k.1 = -2 ↔ m.1 = -1) ∧ (¬ m.1 = -1 → k = m) := by
  rcases h with ⟨rfl, h⟩ | ⟨rfl, rfl⟩
  · refine ⟨⟨fun q => ?_, fun q => ?_⟩, fun _ => rfl⟩
    · rw [q] at h; exact absurd h (by decide)
    · rw [q] at h; exact absurd h (by decide)
  · exact ⟨⟨fun _ => rfl, fun _ => rfl⟩, fun q => absurd rfl q⟩
theorem ab9 {x y : Nat} (hx : x ≤ 9) (hy : y ≤ 9) : 0 ≤ m_ab (nI x - nI y) := by
  have : ∀ x, x < 10 → ∀ y, y < 10 → 0 ≤ m_ab (nI x - nI y) := by decide +kernel
  exact this x (by omega) y (by omega)
theorem two_b : ∀ v, v < 256 → ∀ a, a < 8 → ∀ b, b < 8 → (((nI v >>> (nI a &&& 31)) &&& (nI v >>> (nI b &&& 31))) &&& 1 = 0 ↔ (k_b (nI v) (nI a) = 0 ∨ k_b (nI v) (nI b) = 0)) := by decide +kernel
theorem slI_eq {h : Nat → Int32} {v a n : Nat} (hv : v < 256) (hn : n ≤ 8) (ha : a < n) (h9 : ∀ b, b < n → ∃ t, t ≤ 9 ∧ h b = nI t) {k m : Int32 × Int32 × Int32} (e : chE k m) : ∀ b, b ≤ n → chE (k_slI h (nI v) a k b) (m_slI h (nI v) a m b)
  | 0, _ => e
  | b + 1, hb => by
    have ih := slI_eq hv hn ha h9 e b (by omega)
    simp only [k_slI, m_slI]
    split
    · exact e
    · unfold k_sl1 m_sl1
      rw [has_kb, has_kb]
      have q := two_b v hv a (by omega) b (by omega)
      obtain ⟨t1, g1, e1⟩ := h9 a ha
      obtain ⟨t2, g2, e2⟩ := h9 b (by omega)
      by_cases z : k_b (nI v) (nI a) = 0
      · rw [if_pos (q.mpr (Or.inl z)), if_pos z]; exact ih
      · by_cases z2 : k_b (nI v) (nI b) = 0
        · rw [if_pos (q.mpr (Or.inr z2)), if_neg z, if_pos z2]; exact ih
        · rw [if_neg (fun w => (q.mp w).elim z z2), if_neg z, if_neg z2]
          exact chE_s ih (by rw [e1, e2]; exact ab9 g1 g2)
theorem slO_eq {h : Nat → Int32} {v n : Nat} (hv : v < 256) (hn : n ≤ 8) (h9 : ∀ b, b < n → ∃ t, t ≤ 9 ∧ h b = nI t) : ∀ a, a ≤ n → chE (k_slO h (nI v) n a) (m_slO h (nI v) n a)
  | 0, _ => Or.inr ⟨rfl, rfl⟩
  | a + 1, ha => slI_eq hv hn (by omega) h9 (slO_eq hv hn h9 a (by omega)) n (Nat.le_refl n)
