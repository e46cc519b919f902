/-! the model: chances, bids -/
set_option maxHeartbeats 1000000 in
theorem c_power {I : Nat → Nat → Int32} {J : Nat → Nat → Int64} {R : Nat → Nat → Value} {d : Nat} (a : Nat) {n : Nat} (hn : n < 2 ^ 30) : Cal lyM d hX12_power 6 [.long (lN a), .int (nI n)] (I, J, R) (fun r M' => r = some (.long (lN (a ^ n))) ∧ M' = (I, J, R)) := by
  have loop : ∀ (z k : Nat), k ≤ n → n - k < z → Ev lyM d hX12_power 5 [some (.long (lN a)), none, some (.int (nI n)), some (.long (lN (a ^ k))), none, some (.int (nI k))] [] (I, J, R) (fun r M' => r = some (.long (lN (a ^ n))) ∧ M' = (I, J, R)) := by
    intro z
    induction z with
    | zero => intro k h1 h2; omega
    | succ z ih =>
      intro k hk hz
      refine ev_st dX12_power_5 rfl rfl ?_
      refine ev_st dX12_power_7 rfl rfl ?_
      refine ev_ic_geN (t := 21) (a := k) (b := n) dX12_power_8 (by decide) rfl rfl (by omega) (by omega) (fun c_8 => ?_) (fun c_8 => ?_)
      · refine ev_st dX12_power_21 rfl rfl ?_
        exact ev_lret dX12_power_22 rfl (⟨by rw [show k = n by omega], rfl⟩)
      · refine ev_st dX12_power_11 rfl rfl ?_
        refine ev_st dX12_power_12 rfl rfl ?_
        refine ev_st dX12_power_13 rfl rfl ?_
        refine ev_st (L' := [some (.long (lN a)), none, some (.int (nI n)), some (.long ((lN (a ^ k)) * (lN a))), none, some (.int (nI k))]) dX12_power_14 rfl rfl ?_
        refine ev_iincN (a := k) (b := k + 1) (L' := [some (.long (lN a)), none, some (.int (nI n)), some (.long ((lN (a ^ k)) * (lN a))), none, some (.int (nI (k + 1)))]) dX12_power_15 rfl (nI_1 _) rfl ?_
        refine ev_goto (t := 5) dX12_power_18 (by decide) ?_
        rw [lN_mul, ← Nat.pow_succ]
        exact ih _ (by omega) (by omega)
  show Ev lyM d hX12_power 0 [some (.long (lN a)), none, some (.int (nI n)), none, none, none] [] (I, J, R) _
  refine ev_lconst (v := 1) dX12_power_0 (by decide) ?_
  refine ev_st (L' := [some (.long (lN a)), none, some (.int (nI n)), some (.long 1), none, none]) dX12_power_1 rfl rfl ?_
  refine ev_iconst (v := 0) dX12_power_2 (by decide) ?_
  refine ev_st (L' := [some (.long (lN a)), none, some (.int (nI n)), some (.long 1), none, some (.int 0)]) dX12_power_3 rfl rfl ?_
  exact loop (n + 1) 0 (by omega) (by omega)
/-- the remainders end within f steps -/
def gdeep : Nat → Nat → Nat → Prop
  | 0, _, b => b = 0
  | f + 1, a, b => b = 0 ∨ gdeep f b (a % b)
theorem gdeep_of : ∀ m a b, b < 2 ^ m → gdeep (2 * m) a b
  | 0, a, b, h => by simp at h; exact h
  | m + 1, a, b, h => by
    rw [show 2 * (m + 1) = (2 * m + 1) + 1 by omega]
    rcases Nat.eq_zero_or_pos b with h0 | h0
    · exact Or.inl h0
    refine Or.inr ?_
    rcases Nat.eq_zero_or_pos (a % b) with h1 | h1
    · exact Or.inl h1
    refine Or.inr (gdeep_of m _ _ ?_)
    have h2 := Nat.mod_lt a h0
    have h3 := Nat.mod_lt b h1
    rw [Nat.pow_succ] at h
    by_cases h4 : a % b ≤ b / 2
    · omega
    · have h5 : b % (a % b) = b - a % b := by
        rw [Nat.mod_eq_sub_mod (by omega), Nat.mod_eq_of_lt (by omega)]
      omega
theorem lcmp0 {b : Nat} (hb : b < 2 ^ 63) : lg_cmp (lN b) 0 = 0 ↔ b = 0 := by
  have h0 : (0 : Int64) = lN 0 := rfl
  rw [h0]
  unfold lg_cmp
  rcases Nat.eq_zero_or_pos b with rfl | hp
  · rw [if_neg (by decide), if_pos rfl]; simp
  · rw [if_pos (show lN b > lN 0 from (pk_lLT (by decide) hb).mpr hp)]
    constructor
    · intro h; exact absurd h (by decide)
    · intro h; omega
theorem c_common {I : Nat → Nat → Int32} {J : Nat → Nat → Int64} {R : Nat → Nat → Value} {d : Nat} : ∀ (f a b : Nat), a < 2 ^ 63 → b < 2 ^ 63 → gdeep f a b → Cal lyM (d + f) hX12_common 4 [.long (lN a), .long (lN b)] (I, J, R) (fun r M' => r = some (.long (lN (Nat.gcd a b))) ∧ M' = (I, J, R)) := by
  intro f
  induction f with
  | zero =>
    intro a b ha hb hg
    have hg : b = 0 := hg
    show Ev lyM (d + 0) hX12_common 0 [some (.long (lN a)), none, some (.long (lN b)), none] [] (I, J, R) _
    refine ev_st dX12_common_0 rfl rfl ?_
    refine ev_lconst (v := 0) dX12_common_1 (by decide) ?_
    refine ev_st dX12_common_2 rfl rfl ?_
    refine ev_if_ne (t := 10) (x := lg_cmp (lN b) 0) dX12_common_3 (by decide) (fun c_3 => absurd ((lcmp0 hb).mpr hg) c_3) (fun c_3 => ?_)
    refine ev_st dX12_common_6 rfl rfl ?_
    refine ev_goto (t := 17) dX12_common_7 (by decide) ?_
    exact ev_lret dX12_common_17 rfl (⟨by rw [hg, Nat.gcd_zero_right], rfl⟩)
  | succ f ih =>
    intro a b ha hb hg
    show Ev lyM (d + f + 1) hX12_common 0 [some (.long (lN a)), none, some (.long (lN b)), none] [] (I, J, R) _
    refine ev_st dX12_common_0 rfl rfl ?_
    refine ev_lconst (v := 0) dX12_common_1 (by decide) ?_
    refine ev_st dX12_common_2 rfl rfl ?_
    refine ev_if_ne (t := 10) (x := lg_cmp (lN b) 0) dX12_common_3 (by decide) (fun c_3 => ?_) (fun c_3 => ?_)
    · have hb0 : ¬ b = 0 := fun q => c_3 ((lcmp0 hb).mpr q)
      have hp := Nat.pos_of_ne_zero hb0
      have hg2 : gdeep f b (a % b) := hg.resolve_left hb0
      have hl := Nat.mod_lt a hp
      refine ev_st dX12_common_10 rfl rfl ?_
      refine ev_st dX12_common_11 rfl rfl ?_
      refine ev_st dX12_common_12 rfl rfl ?_
      refine ev_lrem dX12_common_13 (fun q => hb0 ((pk_lEQ hb (by decide : 0 < 2 ^ 63)).mp q)) ?_
      refine ev_call dX12_common_14 rfl rfl mr_12_368 rfl rfl rfl ((by have K := ih b (a % b) hb (by omega) hg2; rw [← pk_lRem ha hp hb] at K; exact K)) ?_
      rintro _ _ ⟨rfl, rfl⟩
      refine ev_lret dX12_common_17 rfl ⟨?_, rfl⟩
      rw [Nat.gcd_comm a b, Nat.gcd_rec b a, Nat.gcd_comm]
    · have hb0 : b = 0 := (lcmp0 hb).mp c_3
      refine ev_st dX12_common_6 rfl rfl ?_
      refine ev_goto (t := 17) dX12_common_7 (by decide) ?_
      exact ev_lret dX12_common_17 rfl (⟨by rw [hb0, Nat.gcd_zero_right], rfl⟩)
/-- the ways to stand, of the sets below k that slip -/
def m_sp (F : Int32 → Int32) (nd : Int32) (v p : Nat) : Nat → Nat
  | 0 => 0
  | b + 1 => m_sp F nd v p b + (if nI b &&& (nI v ^^^ (-1)) = 0 ∧ ¬ F (nI v &&& (nI b ^^^ (-1))) < nd then p ^ cN b * (10 - p) ^ (cN v - cN b) else 0)
theorem c_slips1 {I : Nat → Nat → Int32} {J : Nat → Nat → Int64} {R : Nat → Nat → Value} {d : Nat} {x : Int32} (hx : m_in x 0 10 = 0) : Cal lyM (d + 97) hX12_slips 8 [.ref 0, .int x] (I, J, R) (fun r M' => r = some (.int (-1)) ∧ M' = (ti_wr I 0 12 0, J, R)) := by
  show Ev lyM (d + 97) hX12_slips 0 [some (.ref 0), some (.int x), none, none, none, none, none, none] [] (I, J, R) _
  refine ev_st dX12_slips_0 rfl rfl ?_
  refine ev_iconst (v := 0) dX12_slips_1 (by decide) ?_
  refine ev_putI dX12_slips_2 fr_12_89 rfl rfl ?_
  refine ev_st dX12_slips_5 rfl rfl ?_
  refine ev_iconst (v := 0) dX12_slips_6 (by decide) ?_
  refine ev_bipush (v := 10) dX12_slips_7 (by decide) ?_
  refine ev_call dX12_slips_9 rfl rfl mr_12_98 rfl rfl rfl (c_in0 hx) ?_
  rintro _ _ ⟨rfl, rfl⟩
  show Ev lyM (d + 97) hX12_slips 12 [some (.ref 0), some (.int x), none, none, none, none, none, none] [.int 0] (ti_wr I 0 12 0, J, R) _
  refine ev_if_ne (t := 17) dX12_slips_12 (by decide) (fun q => absurd q (by decide)) (fun _ => ?_)
  refine ev_iconst (v := -1) dX12_slips_15 (by decide) ?_
  exact ev_iret dX12_slips_16 rfl (⟨rfl, rfl⟩)
theorem c_slips3 {I : Nat → Nat → Int32} {J : Nat → Nat → Int64} {R : Nat → Nat → Value} {d n : Nat} (hn : I 0 3 = nI n) (hn8 : n ≤ 8) {x : Int32} (hx : m_in x 0 10 = 1) (h0 : m_cy (I 1) n = 0) : Cal lyM (d + 97) hX12_slips 8 [.ref 0, .int x] (I, J, R) (fun r M' => r = some (.int (-3)) ∧ M' = (ti_wr I 0 12 0, J, R)) := by
  show Ev lyM (d + 97) hX12_slips 0 [some (.ref 0), some (.int x), none, none, none, none, none, none] [] (I, J, R) _
  refine ev_st dX12_slips_0 rfl rfl ?_
  refine ev_iconst (v := 0) dX12_slips_1 (by decide) ?_
  refine ev_putI dX12_slips_2 fr_12_89 rfl rfl ?_
  refine ev_st dX12_slips_5 rfl rfl ?_
  refine ev_iconst (v := 0) dX12_slips_6 (by decide) ?_
  refine ev_bipush (v := 10) dX12_slips_7 (by decide) ?_
  refine ev_call dX12_slips_9 rfl rfl mr_12_98 rfl rfl rfl (c_in1 hx) ?_
  rintro _ _ ⟨rfl, rfl⟩
  show Ev lyM (d + 97) hX12_slips 12 [some (.ref 0), some (.int x), none, none, none, none, none, none] [.int 1] (ti_wr I 0 12 0, J, R) _
  refine ev_if_ne (t := 17) dX12_slips_12 (by decide) (fun _ => ?_) (fun q => absurd q (by decide))
  refine ev_st dX12_slips_17 rfl rfl ?_
  refine ev_st dX12_slips_18 rfl rfl ?_
  refine ev_getC dX12_slips_19 fr_12_9 rfl rfl ?_
  refine ev_call dX12_slips_22 rfl rfl mr_12_244 rfl rfl rfl (c_carry (I := ti_wr I 0 12 0) hn hn8) ?_
  rintro _ _ ⟨rfl, rfl⟩
  show Ev lyM (d + 97) hX12_slips 25 [some (.ref 0), some (.int x), none, none, none, none, none, none] [.int (m_cy (I 1) n)] (ti_wr I 0 12 0, J, R) _
  refine ev_st (L' := [some (.ref 0), some (.int x), some (.int (m_cy (I 1) n)), none, none, none, none, none]) dX12_slips_25 rfl rfl ?_
  refine ev_st dX12_slips_26 rfl rfl ?_
  refine ev_if_ne (t := 33) (x := m_cy (I 1) n) dX12_slips_27 (by decide) (fun c_27 => ?_) (fun c_27 => ?_)
  · exact absurd h0 c_27
  · refine ev_bipush (v := -3) dX12_slips_30 (by decide) ?_
    exact ev_iret dX12_slips_32 rfl (⟨rfl, rfl⟩)
theorem ev_i2lN {lay : List TE} {d pc : Nat} {h : TH} {L : TL} {st : List Value} {M : TM} {Q : Option Value → TM → Prop} {x : Int32} {l : Int64} (hd : decode h.2.1 pc = .ok (.i2l, 1)) (hx : x.toInt64 = l) (kk : Ev lay d h (pc + 1) L (.long l :: st) M Q) : Ev lay d h pc L (.int x :: st) M Q := by
  rw [← hx] at kk
  exact ev_st hd rfl rfl kk
theorem p10 {k : Nat} (h : k ≤ 8) : 10 ^ k ≤ 100000000 := Nat.pow_le_pow_right (n := 10) (by decide) h
theorem m_sp_le {F : Int32 → Int32} {nd : Int32} {v p : Nat} (hv : v < 256) (hp : p ≤ 10) : ∀ b, b ≤ 256 → m_sp F nd v p b ≤ b * 100000000
  | 0, _ => by simp [m_sp]
  | b + 1, hb => by
    have ih := m_sp_le (F := F) (nd := nd) (v := v) (p := p) hv hp b (by omega)
    simp only [m_sp]
    split
    · next q =>
      have h1 := (sub_set v hv b (by omega) q.1).1
      have h2 : p ^ cN b * (10 - p) ^ (cN v - cN b) ≤ 10 ^ cN b * 10 ^ (cN v - cN b) := Nat.mul_le_mul (Nat.pow_le_pow_left hp _) (Nat.pow_le_pow_left (by omega) _)
      rw [← Nat.pow_add, show cN b + (cN v - cN b) = cN v by omega] at h2
      rw [Nat.succ_mul]
      exact Nat.add_le_add ih (Nat.le_trans h2 (p10 (cN_8 v hv)))
    · rw [Nat.succ_mul, Nat.add_zero]
      exact Nat.le_add_right_of_le ih
set_option maxHeartbeats 1000000 in
theorem c_slips {I : Nat → Nat → Int32} {J : Nat → Nat → Int64} {R : Nat → Nat → Value} {d n c a rp rs : Nat} {rv : RV} (hA : mA I R d n c rp rs rv) (ha : I 1 24 = nI a) (hac : a ≤ c) {v p : Nat} (hcv : m_cy (I 1) n = nI v) (hv : v < 256) (hv0 : 0 < v) (hp : p ≤ 10) : Cal lyM (d + 97) hX12_slips 8 [.ref 0, .int (nI p)] (I, J, R) (fun r M' => r = some (.int 0) ∧ ∃ I3 R3, M' = (I3, ti_wl (ti_wl J 7 0 (lN (m_sp (m_FX (I 2) (I 3) (I 4) n c rs rv (I 1) a) (m_ND (I 2) c (I 1) a) v p (v + 1) / Nat.gcd (m_sp (m_FX (I 2) (I 3) (I 4) n c rs rv (I 1) a) (m_ND (I 2) c (I 1) a) v p (v + 1)) (10 ^ cN v)))) 7 1 (lN (10 ^ cN v / Nat.gcd (m_sp (m_FX (I 2) (I 3) (I 4) n c rs rv (I 1) a) (m_ND (I 2) c (I 1) a) v p (v + 1)) (10 ^ cN v))), R3) ∧ sM (ti_wr (ti_wr I 0 12 0) 0 11 (nI 2)) R I3 R3) := by
  have hn := hA.1
  have hn8 := hA.2.1
  have hc12 := hA.2.2.2.1
  have ha12 : a ≤ 12 := by omega
  have hB : mB 1 (ti_wr I 0 12 0) R d n c a rp rs rv := hA.w.b1 ha ha12
  have h8 := cN_8 v hv
  have h10 := p10 h8
  have hS := m_sp_le (F := m_FX (I 2) (I 3) (I 4) n c rs rv (I 1) a) (nd := m_ND (I 2) c (I 1) a) (v := v) (p := p) hv hp (v + 1) (by omega)
  have hg0 : 0 < Nat.gcd (m_sp (m_FX (I 2) (I 3) (I 4) n c rs rv (I 1) a) (m_ND (I 2) c (I 1) a) v p (v + 1)) (10 ^ cN v) := Nat.gcd_pos_of_pos_right _ (Nat.pow_pos (by decide))
  have hgl : Nat.gcd (m_sp (m_FX (I 2) (I 3) (I 4) n c rs rv (I 1) a) (m_ND (I 2) c (I 1) a) v p (v + 1)) (10 ^ cN v) ≤ 10 ^ cN v := Nat.gcd_le_right _ (Nat.pow_pos (by decide))
  have hgn : ¬ lN (Nat.gcd (m_sp (m_FX (I 2) (I 3) (I 4) n c rs rv (I 1) a) (m_ND (I 2) c (I 1) a) v p (v + 1)) (10 ^ cN v)) = 0 := fun q => by rw [show (0 : Int64) = lN 0 from rfl, pk_lEQ (by omega) (by decide)] at q; omega
  have hx : m_in (nI p) 0 10 = 1 := by rw [show (10 : Int32) = nI 10 from rfl, ix_inC (by decide), ix_nI (by decide) (by omega)]; rfl
  have fin : ∀ (z : Option Value) (I2 : Nat → Nat → Int32) (R2 : Nat → Nat → Value), sM (ti_wr I 0 12 0) R I2 R2 → Ev lyM (d + 97) hX12_slips 117 [some (.ref 0), some (.int (nI p)), some (.int (nI v)), some (.int (nI (cN v))), some (.long (lN (m_sp (m_FX (I 2) (I 3) (I 4) n c rs rv (I 1) a) (m_ND (I 2) c (I 1) a) v p (v + 1)))), none, some (.int (nI (v + 1))), z] [] (I2, J, R2) (fun r M' => r = some (.int 0) ∧ ∃ I3 R3, M' = (I3, ti_wl (ti_wl J 7 0 (lN (m_sp (m_FX (I 2) (I 3) (I 4) n c rs rv (I 1) a) (m_ND (I 2) c (I 1) a) v p (v + 1) / Nat.gcd (m_sp (m_FX (I 2) (I 3) (I 4) n c rs rv (I 1) a) (m_ND (I 2) c (I 1) a) v p (v + 1)) (10 ^ cN v)))) 7 1 (lN (10 ^ cN v / Nat.gcd (m_sp (m_FX (I 2) (I 3) (I 4) n c rs rv (I 1) a) (m_ND (I 2) c (I 1) a) v p (v + 1)) (10 ^ cN v))), R3) ∧ sM (ti_wr (ti_wr I 0 12 0) 0 11 (nI 2)) R I3 R3) := by
    intro z I2 R2 hs2
    refine ev_st dX12_slips_117 rfl rfl ?_
    refine ev_ldc2 (v := 10) dX12_slips_119 rfl ?_
    refine ev_st dX12_slips_122 rfl rfl ?_
    refine ev_call dX12_slips_123 rfl rfl mr_12_372 rfl rfl rfl (Cal.mono (d := 0) (by omega) (c_power (I := I2) (J := J) (R := R2) 10 (by omega))) ?_
    rintro _ _ ⟨rfl, rfl⟩
    show Ev lyM (d + 97) hX12_slips 126 [some (.ref 0), some (.int (nI p)), some (.int (nI v)), some (.int (nI (cN v))), some (.long (lN (m_sp (m_FX (I 2) (I 3) (I 4) n c rs rv (I 1) a) (m_ND (I 2) c (I 1) a) v p (v + 1)))), none, some (.int (nI (v + 1))), z] [.long (lN (10 ^ (cN v))), .long (lN (m_sp (m_FX (I 2) (I 3) (I 4) n c rs rv (I 1) a) (m_ND (I 2) c (I 1) a) v p (v + 1)))] (I2, J, R2) _
    refine ev_call dX12_slips_126 rfl rfl mr_12_368 rfl rfl rfl (Cal.mono (d := 0 + 60) (by omega) (c_common (I := I2) (J := J) (R := R2) (d := 0) 60 (m_sp (m_FX (I 2) (I 3) (I 4) n c rs rv (I 1) a) (m_ND (I 2) c (I 1) a) v p (v + 1)) (10 ^ cN v) (by omega) (by omega) (gdeep_of 30 _ _ (by omega)))) ?_
    rintro _ _ ⟨rfl, rfl⟩
    show Ev lyM (d + 97) hX12_slips 129 [some (.ref 0), some (.int (nI p)), some (.int (nI v)), some (.int (nI (cN v))), some (.long (lN (m_sp (m_FX (I 2) (I 3) (I 4) n c rs rv (I 1) a) (m_ND (I 2) c (I 1) a) v p (v + 1)))), none, some (.int (nI (v + 1))), z] [.long (lN (Nat.gcd (m_sp (m_FX (I 2) (I 3) (I 4) n c rs rv (I 1) a) (m_ND (I 2) c (I 1) a) v p (v + 1)) (10 ^ cN v)))] (I2, J, R2) _
    refine ev_st (L' := [some (.ref 0), some (.int (nI p)), some (.int (nI v)), some (.int (nI (cN v))), some (.long (lN (m_sp (m_FX (I 2) (I 3) (I 4) n c rs rv (I 1) a) (m_ND (I 2) c (I 1) a) v p (v + 1)))), none, some (.long (lN (Nat.gcd (m_sp (m_FX (I 2) (I 3) (I 4) n c rs rv (I 1) a) (m_ND (I 2) c (I 1) a) v p (v + 1)) (10 ^ cN v)))), none]) dX12_slips_129 rfl rfl ?_
    refine ev_st dX12_slips_131 rfl rfl ?_
    refine ev_iconst (v := 0) dX12_slips_132 (by decide) ?_
    refine ev_putI dX12_slips_133 fr_12_92 rfl rfl ?_
    refine ev_st dX12_slips_136 rfl rfl ?_
    refine ev_st dX12_slips_137 rfl rfl ?_
    refine ev_st dX12_slips_139 rfl rfl ?_
    refine ev_ldiv dX12_slips_141 hgn ?_
    refine ev_call dX12_slips_142 rfl rfl mr_12_253 rfl rfl rfl (c_tell (m := 0) rfl (by decide) ((lN (m_sp (m_FX (I 2) (I 3) (I 4) n c rs rv (I 1) a) (m_ND (I 2) c (I 1) a) v p (v + 1))) / (lN (Nat.gcd (m_sp (m_FX (I 2) (I 3) (I 4) n c rs rv (I 1) a) (m_ND (I 2) c (I 1) a) v p (v + 1)) (10 ^ cN v))))) ?_
    rintro _ _ ⟨rfl, rfl⟩
    show Ev lyM (d + 97) hX12_slips 145 [some (.ref 0), some (.int (nI p)), some (.int (nI v)), some (.int (nI (cN v))), some (.long (lN (m_sp (m_FX (I 2) (I 3) (I 4) n c rs rv (I 1) a) (m_ND (I 2) c (I 1) a) v p (v + 1)))), none, some (.long (lN (Nat.gcd (m_sp (m_FX (I 2) (I 3) (I 4) n c rs rv (I 1) a) (m_ND (I 2) c (I 1) a) v p (v + 1)) (10 ^ cN v)))), none] [] (ti_wr (ti_wr I2 0 11 0) 0 11 (nI 1), ti_wl J 7 0 ((lN (m_sp (m_FX (I 2) (I 3) (I 4) n c rs rv (I 1) a) (m_ND (I 2) c (I 1) a) v p (v + 1))) / (lN (Nat.gcd (m_sp (m_FX (I 2) (I 3) (I 4) n c rs rv (I 1) a) (m_ND (I 2) c (I 1) a) v p (v + 1)) (10 ^ cN v)))), R2) _
    refine ev_st dX12_slips_145 rfl rfl ?_
    refine ev_ldc2 (v := 10) dX12_slips_146 rfl ?_
    refine ev_st dX12_slips_149 rfl rfl ?_
    refine ev_call dX12_slips_150 rfl rfl mr_12_372 rfl rfl rfl (Cal.mono (d := 0) (by omega) (c_power (I := ti_wr (ti_wr I2 0 11 0) 0 11 (nI 1)) (J := ti_wl J 7 0 ((lN (m_sp (m_FX (I 2) (I 3) (I 4) n c rs rv (I 1) a) (m_ND (I 2) c (I 1) a) v p (v + 1))) / (lN (Nat.gcd (m_sp (m_FX (I 2) (I 3) (I 4) n c rs rv (I 1) a) (m_ND (I 2) c (I 1) a) v p (v + 1)) (10 ^ cN v))))) (R := R2) 10 (by omega))) ?_
    rintro _ _ ⟨rfl, rfl⟩
    show Ev lyM (d + 97) hX12_slips 153 [some (.ref 0), some (.int (nI p)), some (.int (nI v)), some (.int (nI (cN v))), some (.long (lN (m_sp (m_FX (I 2) (I 3) (I 4) n c rs rv (I 1) a) (m_ND (I 2) c (I 1) a) v p (v + 1)))), none, some (.long (lN (Nat.gcd (m_sp (m_FX (I 2) (I 3) (I 4) n c rs rv (I 1) a) (m_ND (I 2) c (I 1) a) v p (v + 1)) (10 ^ cN v)))), none] [.long (lN (10 ^ (cN v))), .ref 0] (ti_wr (ti_wr I2 0 11 0) 0 11 (nI 1), ti_wl J 7 0 ((lN (m_sp (m_FX (I 2) (I 3) (I 4) n c rs rv (I 1) a) (m_ND (I 2) c (I 1) a) v p (v + 1))) / (lN (Nat.gcd (m_sp (m_FX (I 2) (I 3) (I 4) n c rs rv (I 1) a) (m_ND (I 2) c (I 1) a) v p (v + 1)) (10 ^ cN v)))), R2) _
    refine ev_st dX12_slips_153 rfl rfl ?_
    refine ev_ldiv dX12_slips_155 hgn ?_
    refine ev_call dX12_slips_156 rfl rfl mr_12_253 rfl rfl rfl (c_tell (m := 1) rfl (by decide) ((lN (10 ^ (cN v))) / (lN (Nat.gcd (m_sp (m_FX (I 2) (I 3) (I 4) n c rs rv (I 1) a) (m_ND (I 2) c (I 1) a) v p (v + 1)) (10 ^ cN v))))) ?_
    rintro _ _ ⟨rfl, rfl⟩
    show Ev lyM (d + 97) hX12_slips 159 [some (.ref 0), some (.int (nI p)), some (.int (nI v)), some (.int (nI (cN v))), some (.long (lN (m_sp (m_FX (I 2) (I 3) (I 4) n c rs rv (I 1) a) (m_ND (I 2) c (I 1) a) v p (v + 1)))), none, some (.long (lN (Nat.gcd (m_sp (m_FX (I 2) (I 3) (I 4) n c rs rv (I 1) a) (m_ND (I 2) c (I 1) a) v p (v + 1)) (10 ^ cN v)))), none] [] (ti_wr (ti_wr (ti_wr I2 0 11 0) 0 11 (nI 1)) 0 11 (nI 2), ti_wl (ti_wl J 7 0 ((lN (m_sp (m_FX (I 2) (I 3) (I 4) n c rs rv (I 1) a) (m_ND (I 2) c (I 1) a) v p (v + 1))) / (lN (Nat.gcd (m_sp (m_FX (I 2) (I 3) (I 4) n c rs rv (I 1) a) (m_ND (I 2) c (I 1) a) v p (v + 1)) (10 ^ cN v))))) 7 1 ((lN (10 ^ (cN v))) / (lN (Nat.gcd (m_sp (m_FX (I 2) (I 3) (I 4) n c rs rv (I 1) a) (m_ND (I 2) c (I 1) a) v p (v + 1)) (10 ^ cN v)))), R2) _
    refine ev_iconst (v := 0) dX12_slips_159 (by decide) ?_
    exact ev_iret dX12_slips_160 rfl (⟨rfl, _, _, by rw [← pk_lDiv (by omega) hg0 (by omega), ← pk_lDiv (by omega) hg0 (by omega)], by simpa only [ti_wr2] using hs2.wr 0 11 (nI 2)⟩)
  have loop : ∀ (k b : Nat) (z : Option Value) (I2 : Nat → Nat → Int32) (R2 : Nat → Nat → Value), b ≤ v + 1 → v + 1 - b < k → sM (ti_wr I 0 12 0) R I2 R2 → Ev lyM (d + 97) hX12_slips 44 [some (.ref 0), some (.int (nI p)), some (.int (nI v)), some (.int (nI (cN v))), some (.long (lN (m_sp (m_FX (I 2) (I 3) (I 4) n c rs rv (I 1) a) (m_ND (I 2) c (I 1) a) v p b))), none, some (.int (nI b)), z] [] (I2, J, R2) (fun r M' => r = some (.int 0) ∧ ∃ I3 R3, M' = (I3, ti_wl (ti_wl J 7 0 (lN (m_sp (m_FX (I 2) (I 3) (I 4) n c rs rv (I 1) a) (m_ND (I 2) c (I 1) a) v p (v + 1) / Nat.gcd (m_sp (m_FX (I 2) (I 3) (I 4) n c rs rv (I 1) a) (m_ND (I 2) c (I 1) a) v p (v + 1)) (10 ^ cN v)))) 7 1 (lN (10 ^ cN v / Nat.gcd (m_sp (m_FX (I 2) (I 3) (I 4) n c rs rv (I 1) a) (m_ND (I 2) c (I 1) a) v p (v + 1)) (10 ^ cN v))), R3) ∧ sM (ti_wr (ti_wr I 0 12 0) 0 11 (nI 2)) R I3 R3) := by
    intro k
    induction k with
    | zero => intro b z I2 R2 h1 h2; omega
    | succ k ih =>
      intro b z I2 R2 hb hk hs2
      refine ev_st dX12_slips_44 rfl rfl ?_
      refine ev_st dX12_slips_46 rfl rfl ?_
      refine ev_ic_gtN (t := 117) (a := b) (b := v) dX12_slips_47 (by decide) rfl rfl (by omega) (by omega) (fun c_47 => ?_) (fun c_47 => ?_)
      · have eb : b = v + 1 := by omega
        subst eb
        exact fin _ _ _ hs2
      · refine ev_st dX12_slips_50 rfl rfl ?_
        refine ev_st dX12_slips_52 rfl rfl ?_
        refine ev_iconst (v := -1) dX12_slips_53 (by decide) ?_
        refine ev_st dX12_slips_54 rfl rfl ?_
        refine ev_st dX12_slips_55 rfl rfl ?_
        refine ev_if_ne (t := 111) (x := (nI b) &&& ((nI v) ^^^ ((-1)))) dX12_slips_56 (by decide) (fun c_56 => ?_) (fun c_56 => ?_)
        · refine ev_iincN (a := b) (b := b + 1) (L' := [some (.ref 0), some (.int (nI p)), some (.int (nI v)), some (.int (nI (cN v))), some (.long (lN (m_sp (m_FX (I 2) (I 3) (I 4) n c rs rv (I 1) a) (m_ND (I 2) c (I 1) a) v p b))), none, some (.int (nI (b + 1))), z]) dX12_slips_111 rfl (nI_1 _) rfl ?_
          refine ev_goto (t := 44) dX12_slips_114 (by decide) ?_
          have e : m_sp (m_FX (I 2) (I 3) (I 4) n c rs rv (I 1) a) (m_ND (I 2) c (I 1) a) v p b = m_sp (m_FX (I 2) (I 3) (I 4) n c rs rv (I 1) a) (m_ND (I 2) c (I 1) a) v p (b + 1) := by rw [m_sp, if_neg (fun q => c_56 q.1), Nat.add_zero]
          rw [e]
          exact ih _ _ _ _ (by omega) (by omega) hs2
        · refine ev_st dX12_slips_59 rfl rfl ?_
          refine ev_st dX12_slips_60 rfl rfl ?_
          refine ev_getC dX12_slips_61 fr_12_9 rfl rfl ?_
          refine ev_st dX12_slips_64 rfl rfl ?_
          refine ev_st dX12_slips_65 rfl rfl ?_
          refine ev_iconst (v := -1) dX12_slips_67 (by decide) ?_
          refine ev_st dX12_slips_68 rfl rfl ?_
          refine ev_st dX12_slips_69 rfl rfl ?_
          refine ev_call dX12_slips_70 rfl rfl mr_12_265 rfl rfl rfl (Cal.mono (by omega) (c_isFirm (J := J) hB hs2 ((nI v) &&& ((nI b) ^^^ ((-1)))))) ?_
          rintro _ _ ⟨rfl, I3, R3, rfl, hs3⟩
          show Ev lyM (d + 97) hX12_slips 73 [some (.ref 0), some (.int (nI p)), some (.int (nI v)), some (.int (nI (cN v))), some (.long (lN (m_sp (m_FX (I 2) (I 3) (I 4) n c rs rv (I 1) a) (m_ND (I 2) c (I 1) a) v p b))), none, some (.int (nI b)), z] [.int (if m_FX (I 2) (I 3) (I 4) n c rs rv (I 1) a ((nI v) &&& ((nI b) ^^^ ((-1)))) < m_ND (I 2) c (I 1) a then 0 else 1)] (I3, J, R3) _
          refine ev_if_ne (t := 79) (x := if m_FX (I 2) (I 3) (I 4) n c rs rv (I 1) a ((nI v) &&& ((nI b) ^^^ ((-1)))) < m_ND (I 2) c (I 1) a then 0 else 1) dX12_slips_73 (by decide) (fun c_73 => ?_) (fun c_73 => ?_)
          · refine ev_st dX12_slips_79 rfl rfl ?_
            refine ev_call dX12_slips_81 rfl rfl mr_12_214 rfl rfl rfl ((by have K := c_bc (lay := lyM) (M := (I3, J, R3)) (d := d + 96) (nI b); rw [cN_bc _ (by omega)] at K; exact K)) ?_
            rintro _ _ ⟨rfl, rfl⟩
            show Ev lyM (d + 97) hX12_slips 84 [some (.ref 0), some (.int (nI p)), some (.int (nI v)), some (.int (nI (cN v))), some (.long (lN (m_sp (m_FX (I 2) (I 3) (I 4) n c rs rv (I 1) a) (m_ND (I 2) c (I 1) a) v p b))), none, some (.int (nI b)), z] [.int (nI (cN b))] (I3, J, R3) _
            refine ev_st (L' := [some (.ref 0), some (.int (nI p)), some (.int (nI v)), some (.int (nI (cN v))), some (.long (lN (m_sp (m_FX (I 2) (I 3) (I 4) n c rs rv (I 1) a) (m_ND (I 2) c (I 1) a) v p b))), none, some (.int (nI b)), some (.int (nI (cN b)))]) dX12_slips_84 rfl rfl ?_
            refine ev_st dX12_slips_86 rfl rfl ?_
            refine ev_st dX12_slips_88 rfl rfl ?_
            refine ev_i2lN (x := nI p) (l := lN p) dX12_slips_89 (nI_l (by omega)) ?_
            refine ev_st dX12_slips_90 rfl rfl ?_
            refine ev_call dX12_slips_92 rfl rfl mr_12_372 rfl rfl rfl (Cal.mono (d := 0) (by omega) (c_power (I := I3) (J := J) (R := R3) p (by have := cN_8 b (by omega); omega))) ?_
            rintro _ _ ⟨rfl, rfl⟩
            show Ev lyM (d + 97) hX12_slips 95 [some (.ref 0), some (.int (nI p)), some (.int (nI v)), some (.int (nI (cN v))), some (.long (lN (m_sp (m_FX (I 2) (I 3) (I 4) n c rs rv (I 1) a) (m_ND (I 2) c (I 1) a) v p b))), none, some (.int (nI b)), some (.int (nI (cN b)))] [.long (lN (p ^ (cN b))), .long (lN (m_sp (m_FX (I 2) (I 3) (I 4) n c rs rv (I 1) a) (m_ND (I 2) c (I 1) a) v p b))] (I3, J, R3) _
            refine ev_bipush (v := 10) dX12_slips_95 (by decide) ?_
            refine ev_st dX12_slips_97 rfl rfl ?_
            refine ev_isubN (a := 10) (b := p) (c := 10 - p) dX12_slips_98 rfl rfl hp rfl ?_
            refine ev_i2lN (x := nI (10 - p)) (l := lN (10 - p)) dX12_slips_99 (nI_l (by omega)) ?_
            refine ev_st dX12_slips_100 rfl rfl ?_
            refine ev_st dX12_slips_101 rfl rfl ?_
            refine ev_isubN (a := cN v) (b := cN b) (c := cN v - (cN b)) dX12_slips_103 rfl rfl (sub_set v hv b (by omega) c_56).1 rfl ?_
            refine ev_call dX12_slips_104 rfl rfl mr_12_372 rfl rfl rfl (Cal.mono (d := 0) (by omega) (c_power (I := I3) (J := J) (R := R3) (10 - p) (by omega))) ?_
            rintro _ _ ⟨rfl, rfl⟩
            show Ev lyM (d + 97) hX12_slips 107 [some (.ref 0), some (.int (nI p)), some (.int (nI v)), some (.int (nI (cN v))), some (.long (lN (m_sp (m_FX (I 2) (I 3) (I 4) n c rs rv (I 1) a) (m_ND (I 2) c (I 1) a) v p b))), none, some (.int (nI b)), some (.int (nI (cN b)))] [.long (lN ((10 - p) ^ (cN v - cN b))), .long (lN (p ^ (cN b))), .long (lN (m_sp (m_FX (I 2) (I 3) (I 4) n c rs rv (I 1) a) (m_ND (I 2) c (I 1) a) v p b))] (I3, J, R3) _
            refine ev_st dX12_slips_107 rfl rfl ?_
            refine ev_st dX12_slips_108 rfl rfl ?_
            refine ev_st (L' := [some (.ref 0), some (.int (nI p)), some (.int (nI v)), some (.int (nI (cN v))), some (.long ((lN (m_sp (m_FX (I 2) (I 3) (I 4) n c rs rv (I 1) a) (m_ND (I 2) c (I 1) a) v p b)) + ((lN (p ^ (cN b))) * (lN ((10 - p) ^ (cN v - cN b)))))), none, some (.int (nI b)), some (.int (nI (cN b)))]) dX12_slips_109 rfl rfl ?_
            refine ev_iincN (a := b) (b := b + 1) (L' := [some (.ref 0), some (.int (nI p)), some (.int (nI v)), some (.int (nI (cN v))), some (.long ((lN (m_sp (m_FX (I 2) (I 3) (I 4) n c rs rv (I 1) a) (m_ND (I 2) c (I 1) a) v p b)) + ((lN (p ^ (cN b))) * (lN ((10 - p) ^ (cN v - cN b)))))), none, some (.int (nI (b + 1))), some (.int (nI (cN b)))]) dX12_slips_111 rfl (nI_1 _) rfl ?_
            refine ev_goto (t := 44) dX12_slips_114 (by decide) ?_
            have e : m_sp (m_FX (I 2) (I 3) (I 4) n c rs rv (I 1) a) (m_ND (I 2) c (I 1) a) v p b + p ^ cN b * (10 - p) ^ (cN v - cN b) = m_sp (m_FX (I 2) (I 3) (I 4) n c rs rv (I 1) a) (m_ND (I 2) c (I 1) a) v p (b + 1) := by rw [m_sp, if_pos ⟨c_56, if01c c_73⟩]
            rw [lN_mul, lN_add, e]
            exact ih _ _ _ _ (by omega) (by omega) hs3
          · refine ev_goto (t := 111) dX12_slips_76 (by decide) ?_
            refine ev_iincN (a := b) (b := b + 1) (L' := [some (.ref 0), some (.int (nI p)), some (.int (nI v)), some (.int (nI (cN v))), some (.long (lN (m_sp (m_FX (I 2) (I 3) (I 4) n c rs rv (I 1) a) (m_ND (I 2) c (I 1) a) v p b))), none, some (.int (nI (b + 1))), z]) dX12_slips_111 rfl (nI_1 _) rfl ?_
            refine ev_goto (t := 44) dX12_slips_114 (by decide) ?_
            have e : m_sp (m_FX (I 2) (I 3) (I 4) n c rs rv (I 1) a) (m_ND (I 2) c (I 1) a) v p b = m_sp (m_FX (I 2) (I 3) (I 4) n c rs rv (I 1) a) (m_ND (I 2) c (I 1) a) v p (b + 1) := by rw [m_sp, if_neg (fun q => q.2 (if01b c_73)), Nat.add_zero]
            rw [e]
            exact ih _ _ _ _ (by omega) (by omega) hs3
  show Ev lyM (d + 97) hX12_slips 0 [some (.ref 0), some (.int (nI p)), none, none, none, none, none, none] [] (I, J, R) _
  refine ev_st dX12_slips_0 rfl rfl ?_
  refine ev_iconst (v := 0) dX12_slips_1 (by decide) ?_
  refine ev_putI dX12_slips_2 fr_12_89 rfl rfl ?_
  refine ev_st dX12_slips_5 rfl rfl ?_
  refine ev_iconst (v := 0) dX12_slips_6 (by decide) ?_
  refine ev_bipush (v := 10) dX12_slips_7 (by decide) ?_
  refine ev_call dX12_slips_9 rfl rfl mr_12_98 rfl rfl rfl (c_in1 hx) ?_
  rintro _ _ ⟨rfl, rfl⟩
  show Ev lyM (d + 97) hX12_slips 12 [some (.ref 0), some (.int (nI p)), none, none, none, none, none, none] [.int 1] (ti_wr I 0 12 0, J, R) _
  refine ev_if_ne (t := 17) dX12_slips_12 (by decide) (fun _ => ?_) (fun q => absurd q (by decide))
  refine ev_st dX12_slips_17 rfl rfl ?_
  refine ev_st dX12_slips_18 rfl rfl ?_
  refine ev_getC dX12_slips_19 fr_12_9 rfl rfl ?_
  refine ev_call dX12_slips_22 rfl rfl mr_12_244 rfl rfl rfl ((by have K := c_carry (I := ti_wr I 0 12 0) (J := J) (R := R) (d := d + 96) hn hn8; rw [show m_cy (ti_wr I 0 12 0 1) n = nI v from hcv] at K; exact K)) ?_
  rintro _ _ ⟨rfl, rfl⟩
  show Ev lyM (d + 97) hX12_slips 25 [some (.ref 0), some (.int (nI p)), none, none, none, none, none, none] [.int (nI v)] (ti_wr I 0 12 0, J, R) _
  refine ev_st (L' := [some (.ref 0), some (.int (nI p)), some (.int (nI v)), none, none, none, none, none]) dX12_slips_25 rfl rfl ?_
  refine ev_st dX12_slips_26 rfl rfl ?_
  refine ev_if_neN (t := 33) (a := v) dX12_slips_27 (by decide) rfl (by omega) (fun c_27 => ?_) (fun c_27 => ?_)
  · refine ev_st dX12_slips_33 rfl rfl ?_
    refine ev_call dX12_slips_34 rfl rfl mr_12_214 rfl rfl rfl ((by have K := c_bc (lay := lyM) (M := (ti_wr I 0 12 0, J, R)) (d := d + 96) (nI v); rw [cN_bc _ (by omega)] at K; exact K)) ?_
    rintro _ _ ⟨rfl, rfl⟩
    show Ev lyM (d + 97) hX12_slips 37 [some (.ref 0), some (.int (nI p)), some (.int (nI v)), none, none, none, none, none] [.int (nI (cN v))] (ti_wr I 0 12 0, J, R) _
    refine ev_st (L' := [some (.ref 0), some (.int (nI p)), some (.int (nI v)), some (.int (nI (cN v))), none, none, none, none]) dX12_slips_37 rfl rfl ?_
    refine ev_lconst (v := 0) dX12_slips_38 (by decide) ?_
    refine ev_st (L' := [some (.ref 0), some (.int (nI p)), some (.int (nI v)), some (.int (nI (cN v))), some (.long 0), none, none, none]) dX12_slips_39 rfl rfl ?_
    refine ev_iconst (v := 0) dX12_slips_41 (by decide) ?_
    refine ev_st (L' := [some (.ref 0), some (.int (nI p)), some (.int (nI v)), some (.int (nI (cN v))), some (.long 0), none, some (.int 0), none]) dX12_slips_42 rfl rfl ?_
    exact loop (v + 2) 0 _ _ _ (by omega) (by omega) sM.rf
  · omega
