/-! the model: force, firm, a step -/
def mB (q : Nat) (I : Nat → Nat → Int32) (R : Nat → Nat → Value) (d n c a rp rs : Nat) (rv : RV) : Prop := I 0 3 = nI n ∧ n ≤ 8 ∧ I 0 1 = nI c ∧ c ≤ 12 ∧ I q 24 = nI a ∧ a ≤ 12 ∧ I 0 21 = nI rs ∧ R 0 19 = .ref rp ∧ RU d rp (I rp) rs rv
theorem sM.f {I I2 : Nat → Nat → Int32} {R R2 : Nat → Nat → Value} (h : sM I R I2 R2) (k : Nat) (hk : (k != 14 && (k != 15 && (k != 16 && (k != 17 && k != 22)))) = true) : I2 0 k = I 0 k := by
  simp at hk
  exact h.2.1 k hk.1 hk.2.1 hk.2.2.1 hk.2.2.2.1 hk.2.2.2.2
theorem sM.r {I I2 : Nat → Nat → Int32} {R R2 : Nat → Nat → Value} (h : sM I R I2 R2) (p : Nat) (hp : (p != 0 && p != 11) = true) : I2 p = I p := by
  simp at hp
  exact h.1 p hp.1 hp.2
theorem mB.s {q : Nat} {I I2 : Nat → Nat → Int32} {R R2 : Nat → Nat → Value} {d n c a rp rs : Nat} {rv : RV} (hq : (q != 0 && q != 11) = true) (h : mB q I R d n c a rp rs rv) (hs : sM I R I2 R2) : mB q I2 R2 d n c a rp rs rv := by
  obtain ⟨h1, h2, h3, h4, h5, h6, h7, h8, h9⟩ := h
  refine ⟨by rw [hs.f 3 rfl]; exact h1, h2, by rw [hs.f 1 rfl]; exact h3, h4, by rw [hs.r q hq]; exact h5, h6, by rw [hs.f 21 rfl]; exact h7, by rw [hs.2.2]; exact h8, ?_⟩
  have : I2 rp = I rp := by rcases h9.1 with rfl | rfl <;> exact hs.r _ rfl
  rw [this]; exact h9
def m_nd (ld st : Int32) : Int32 := ld + st
def m_sg (fo nd : Int32) : Int32 := if fo < nd then 1 else 0
/-- FORCE of those: all that it asks for -/
def m_F (I : Nat → Nat → Int32) (q n c a rs : Nat) (rv : RV) (x : Int32) : Int32 := m_fo rs rv (I 3) (I 4) (I q) (m_tl (I 4) x n) (m_st c (I 2) a) x n
def m_N (I : Nat → Nat → Int32) (q c a : Nat) : Int32 := I q 25 + m_st c (I 2) a
/-- one BEARER of a step -/
def m_g1 (a : Nat → Int32) (sg : Int32) (j : Nat) : Int32 := if a (8 + j) = 1 then (if a j + 1 + 2 * sg < 99 then a j + 1 + 2 * sg else 99) else (if 0 < a j - 2 then a j - 2 else 0)
def m_gp (a : Nat → Int32) (sg : Int32) (b : Nat) : Nat → Int32 := fun j => if j < b then m_g1 a sg j else a j
def m_gs (a : Nat → Int32) (sg : Int32) (n : Nat) : Nat → Int32 := upd (upd (upd (m_gp a sg n) 24 (a 24 + 1)) 27 0) 28 (a 28 + sg)
theorem m_gp_s {a : Nat → Int32} {sg : Int32} {b : Nat} : upd (m_gp a sg b) b (m_g1 a sg b) = m_gp a sg (b + 1) := by
  funext j
  by_cases h : j = b
  · subst h; simp [upd, m_gp]
  · by_cases h2 : j < b
    · simp [upd, m_gp, h, h2, Nat.lt_succ_of_lt h2]
    · have : ¬ j < b + 1 := by omega
      simp [upd, m_gp, h, h2, this]
theorem m_gp_hi {a : Nat → Int32} {sg : Int32} {b j : Nat} (h : b ≤ j) : m_gp a sg b j = a j := by simp [m_gp, Nat.not_lt.mpr h]
theorem ti_wr_up {I : Nat → Nat → Int32} {q k : Nat} {r : Nat → Int32} {v : Int32} : ti_wr (va_up I q r) q k v = va_up I q (upd r k v) := by
  funext p j
  by_cases h : p = q
  · subst h; simp [ti_wr, va_up]
  · simp [ti_wr, va_up, h]
theorem va_up_id {I : Nat → Nat → Int32} {q : Nat} : va_up I q (I q) = I := by
  funext p j
  by_cases h : p = q
  · subst h; simp [va_up]
  · simp [va_up, h]
theorem va_up_q {I : Nat → Nat → Int32} {q : Nat} {r : Nat → Int32} : va_up I q r q = r := by funext j; simp [va_up]
theorem va_up_n {I : Nat → Nat → Int32} {q p : Nat} {r : Nat → Int32} (h : p ≠ q) : va_up I q r p = I p := by funext j; simp [va_up, h]
theorem sM.up {I I2 : Nat → Nat → Int32} {R R2 : Nat → Nat → Value} (h : sM I R I2 R2) (q : Nat) (hq : (q != 0) = true) (r : Nat → Int32) : sM (va_up I q r) R (va_up I2 q r) R2 := by
  refine ⟨fun p h0 h1 => ?_, fun k a b c d e => ?_, h.2.2⟩
  · by_cases hp : p = q
    · subst hp; rw [va_up_q, va_up_q]
    · rw [va_up_n hp, va_up_n hp]; exact h.1 p h0 h1
  · have : (0 : Nat) ≠ q := fun z => by subst z; simp at hq
    rw [va_up_n this, va_up_n this]; exact h.2.1 k a b c d e
theorem c_bearsOfS {I I2 : Nat → Nat → Int32} {J : Nat → Nat → Int64} {R R2 : Nat → Nat → Value} {d n c a rp rs : Nat} {rv : RV} (hB : mB 1 I R d n c a rp rs rv) (hs : sM I R I2 R2) {b : Nat} (hb : b < n) (x : Int32) : Cal lyM (d + 91) hX12_bearsOf 6 [.ref 0, .ref 1, .int (nI b), .int x] (I2, J, R2) (fun r M' => r = some (.int (m_be rs rv (I 3) (I 4) (I 1) (m_tl (I 4) x n) (m_st c (I 2) a) b x)) ∧ ∃ I3 R3, M' = (I3, J, R3) ∧ sM I R I3 R3) := by
  obtain ⟨h1, h2, h3, h4, h5, h6, h7, h8, h9⟩ := mB.s rfl hB hs
  have K := c_bearsOf (J := J) h1 h2 h3 h4 h5 h6 h7 h8 h9 hb x
  rw [hs.r 3 rfl, hs.r 4 rfl, hs.r 1 rfl, hs.r 2 rfl] at K
  exact K.imp (fun r M' ⟨e1, I3, R3, e2, e3⟩ => ⟨e1, I3, R3, e2, hs.tr e3⟩)
set_option maxHeartbeats 4000000 in
theorem c_forceOf {I I2 : Nat → Nat → Int32} {J : Nat → Nat → Int64} {R R2 : Nat → Nat → Value} {d n c a rp rs : Nat} {rv : RV} (hB : mB 1 I R d n c a rp rs rv) (hs : sM I R I2 R2) (x : Int32) : Cal lyM (d + 92) hX12_forceOf 5 [.ref 0, .ref 1, .int x] (I2, J, R2) (fun r M' => r = some (.int (m_F I 1 n c a rs rv x)) ∧ ∃ I3 R3, M' = (I3, J, R3) ∧ sM I R I3 R3) := by
  have loop : ∀ (k b : Nat) (m : Int32) (I2 : Nat → Nat → Int32) (R2 : Nat → Nat → Value), b ≤ n → n - b < k → m = m_fo rs rv (I 3) (I 4) (I 1) (m_tl (I 4) x n) (m_st c (I 2) a) x b → sM I R I2 R2 → Ev lyM (d + 92) hX12_forceOf 5 [some (.ref 0), some (.ref 1), some (.int x), some (.int m), some (.int (nI b))] [] (I2, J, R2) (fun r M' => r = some (.int (m_F I 1 n c a rs rv x)) ∧ ∃ I3 R3, M' = (I3, J, R3) ∧ sM I R I3 R3) := by
    intro k
    induction k with
    | zero => intro b m I2 R2 h1 h2; omega
    | succ k ih =>
      intro b m I2 R2 hb hk hm hs
      have hn8 := hB.2.1
      have hn2 : I2 0 3 = nI n := by rw [hs.f 3 rfl]; exact hB.1
      refine ev_st dX12_forceOf_5 rfl rfl ?_
      refine ev_st dX12_forceOf_7 rfl rfl ?_
      refine ev_getI (v := nI n) dX12_forceOf_8 fr_12_95 rfl rfl hn2 ?_
      refine ev_ic_geN (t := 44) (a := b) (b := n) dX12_forceOf_11 (by decide) rfl rfl (by omega) (by omega) (fun c_11 => ?_) (fun c_11 => ?_)
      · refine ev_st dX12_forceOf_44 rfl rfl ?_
        exact ev_iret dX12_forceOf_45 rfl (⟨by rw [hm, show b = n by omega]; rfl, _, _, rfl, hs⟩)
      · refine ev_st dX12_forceOf_14 rfl rfl ?_
        refine ev_st dX12_forceOf_15 rfl rfl ?_
        refine ev_st dX12_forceOf_16 rfl rfl ?_
        refine ev_call dX12_forceOf_18 rfl rfl mr_12_201 rfl rfl rfl (c_has x (nI b)) ?_
        rintro _ _ ⟨rfl, rfl⟩
        show Ev lyM (d + 92) hX12_forceOf 21 [some (.ref 0), some (.ref 1), some (.int x), some (.int m), some (.int (nI b))] [.int (m_has x (nI b)), .int m] (I2, J, R2) _
        refine ev_if_eq (t := 35) (x := m_has x (nI b)) dX12_forceOf_21 (by decide) (fun c_21 => ?_) (fun c_21 => ?_)
        · refine ev_iconst (v := 0) dX12_forceOf_35 (by decide) ?_
          refine ev_st dX12_forceOf_36 rfl rfl ?_
          refine ev_st (L' := [some (.ref 0), some (.ref 1), some (.int x), some (.int (m + 0)), some (.int (nI b))]) dX12_forceOf_37 rfl rfl ?_
          refine ev_iincN (a := b) (b := b + 1) (L' := [some (.ref 0), some (.ref 1), some (.int x), some (.int (m + 0)), some (.int (nI (b + 1)))]) dX12_forceOf_38 rfl (nI_1 _) rfl ?_
          refine ev_goto (t := 5) dX12_forceOf_41 (by decide) ?_
          exact ih _ _ _ _ (by omega) (by omega) (by simp [m_fo, hm, c_21]) hs
        · refine ev_st dX12_forceOf_24 rfl rfl ?_
          refine ev_st dX12_forceOf_25 rfl rfl ?_
          refine ev_st dX12_forceOf_26 rfl rfl ?_
          refine ev_st dX12_forceOf_28 rfl rfl ?_
          refine ev_call dX12_forceOf_29 rfl rfl mr_12_226 rfl rfl rfl (c_bearsOfS hB hs c_11 x) ?_
          rintro _ _ ⟨rfl, I3, R3, rfl, hs3⟩
          show Ev lyM (d + 92) hX12_forceOf 32 [some (.ref 0), some (.ref 1), some (.int x), some (.int m), some (.int (nI b))] [.int (m_be rs rv (I 3) (I 4) (I 1) (m_tl (I 4) x n) (m_st c (I 2) a) b x), .int m] (I3, J, R3) _
          refine ev_goto (t := 36) dX12_forceOf_32 (by decide) ?_
          refine ev_st dX12_forceOf_36 rfl rfl ?_
          refine ev_st (L' := [some (.ref 0), some (.ref 1), some (.int x), some (.int (m + (m_be rs rv (I 3) (I 4) (I 1) (m_tl (I 4) x n) (m_st c (I 2) a) b x))), some (.int (nI b))]) dX12_forceOf_37 rfl rfl ?_
          refine ev_iincN (a := b) (b := b + 1) (L' := [some (.ref 0), some (.ref 1), some (.int x), some (.int (m + (m_be rs rv (I 3) (I 4) (I 1) (m_tl (I 4) x n) (m_st c (I 2) a) b x))), some (.int (nI (b + 1)))]) dX12_forceOf_38 rfl (nI_1 _) rfl ?_
          refine ev_goto (t := 5) dX12_forceOf_41 (by decide) ?_
          exact ih _ _ _ _ (by omega) (by omega) (by simp [m_fo, hm, c_21]) hs3
  have hn8 := hB.2.1
  show Ev lyM (d + 92) hX12_forceOf 0 [some (.ref 0), some (.ref 1), some (.int x), none, none] [] (I2, J, R2) _
  refine ev_iconst (v := 0) dX12_forceOf_0 (by decide) ?_
  refine ev_st (L' := [some (.ref 0), some (.ref 1), some (.int x), some (.int 0), none]) dX12_forceOf_1 rfl rfl ?_
  refine ev_iconst (v := 0) dX12_forceOf_2 (by decide) ?_
  refine ev_st (L' := [some (.ref 0), some (.ref 1), some (.int x), some (.int 0), some (.int 0)]) dX12_forceOf_3 rfl rfl ?_
  exact loop (n + 1) 0 0 _ _ (by omega) (by omega) rfl hs
theorem c_needed0 {I I2 : Nat → Nat → Int32} {J : Nat → Nat → Int64} {R R2 : Nat → Nat → Value} {e : Nat} {d n c a rp rs : Nat} {rv : RV} (hB : mB 1 I R d n c a rp rs rv) (hs : sM I R I2 R2) : Cal lyM (e + 1) hX12_needed 2 [.ref 0, .ref 1] (I2, J, R2) (fun r M' => r = some (.int (m_N I 1 c a)) ∧ M' = (I2, J, R2)) := by
  obtain ⟨h1, h2, h3, h4, h5, h6, h7, h8, h9⟩ := mB.s rfl hB hs
  show Ev lyM (e + 1) hX12_needed 0 [some (.ref 0), some (.ref 1)] [] (I2, J, R2) _
  refine ev_st dX12_needed_0 rfl rfl ?_
  refine ev_bipush (v := 25) dX12_needed_1 (by decide) ?_
  refine ev_iald (j := 25) (v := I2 1 25) dX12_needed_3 rfl rfl (by decide) (by decide) rfl ?_
  refine ev_st dX12_needed_4 rfl rfl ?_
  refine ev_st dX12_needed_5 rfl rfl ?_
  refine ev_call dX12_needed_6 rfl rfl mr_12_219 rfl rfl rfl (c_steepOf h3 h4 h5 h6) ?_
  rintro _ _ ⟨rfl, rfl⟩
  show Ev lyM (e + 1) hX12_needed 9 [some (.ref 0), some (.ref 1)] [.int (m_st c (I2 2) a), .int (I2 1 25)] (I2, J, R2) _
  refine ev_st dX12_needed_9 rfl rfl ?_
  exact ev_iret dX12_needed_10 rfl (⟨by rw [hs.r 1 rfl, hs.r 2 rfl]; rfl, rfl⟩)
theorem c_isFirm {I I2 : Nat → Nat → Int32} {J : Nat → Nat → Int64} {R R2 : Nat → Nat → Value} {d n c a rp rs : Nat} {rv : RV} (hB : mB 1 I R d n c a rp rs rv) (hs : sM I R I2 R2) (x : Int32) : Cal lyM (d + 93) hX12_isFirm 3 [.ref 0, .ref 1, .int x] (I2, J, R2) (fun r M' => r = some (.int (if m_F I 1 n c a rs rv x < m_N I 1 c a then 0 else 1)) ∧ ∃ I3 R3, M' = (I3, J, R3) ∧ sM I R I3 R3) := by
  show Ev lyM (d + 93) hX12_isFirm 0 [some (.ref 0), some (.ref 1), some (.int x)] [] (I2, J, R2) _
  refine ev_st dX12_isFirm_0 rfl rfl ?_
  refine ev_st dX12_isFirm_1 rfl rfl ?_
  refine ev_st dX12_isFirm_2 rfl rfl ?_
  refine ev_call dX12_isFirm_3 rfl rfl mr_12_230 rfl rfl rfl (c_forceOf hB hs x) ?_
  rintro _ _ ⟨rfl, I3, R3, rfl, hs3⟩
  show Ev lyM (d + 93) hX12_isFirm 6 [some (.ref 0), some (.ref 1), some (.int x)] [.int (m_F I 1 n c a rs rv x)] (I3, J, R3) _
  refine ev_st dX12_isFirm_6 rfl rfl ?_
  refine ev_st dX12_isFirm_7 rfl rfl ?_
  refine ev_call dX12_isFirm_8 rfl rfl mr_12_234 rfl rfl rfl (c_needed0 hB hs3) ?_
  rintro _ _ ⟨rfl, rfl⟩
  show Ev lyM (d + 93) hX12_isFirm 11 [some (.ref 0), some (.ref 1), some (.int x)] [.int (m_N I 1 c a), .int (m_F I 1 n c a rs rv x)] (I3, J, R3) _
  refine ev_ic_lt (t := 18) (x := m_F I 1 n c a rs rv x) (y := m_N I 1 c a) dX12_isFirm_11 (by decide) (fun c_11 => ?_) (fun c_11 => ?_)
  · refine ev_iconst (v := 0) dX12_isFirm_18 (by decide) ?_
    exact ev_zret dX12_isFirm_19 rfl (by decide) (⟨by simp [c_11], _, _, rfl, hs3⟩)
  · refine ev_iconst (v := 1) dX12_isFirm_14 (by decide) ?_
    refine ev_goto (t := 19) dX12_isFirm_15 (by decide) ?_
    exact ev_zret dX12_isFirm_19 rfl (by decide) (⟨by simp [c_11], _, _, rfl, hs3⟩)
theorem c_carryS {I I2 : Nat → Nat → Int32} {J : Nat → Nat → Int64} {R R2 : Nat → Nat → Value} {e : Nat} {d n c a rp rs : Nat} {rv : RV} (hB : mB 1 I R d n c a rp rs rv) (hs : sM I R I2 R2) : Cal lyM e hX12_carry 4 [.ref 0, .ref 1] (I2, J, R2) (fun r M' => r = some (.int (m_cy (I 1) n)) ∧ M' = (I2, J, R2)) := by
  have K := c_carry (J := J) (R := R2) (d := e) (mB.s rfl hB hs).1 hB.2.1
  rw [hs.r 1 rfl] at K
  exact K
set_option maxHeartbeats 4000000 in
theorem c_goStepL {I I2 : Nat → Nat → Int32} {J : Nat → Nat → Int64} {R R2 : Nat → Nat → Value} {d n : Nat} (sg : Int32) (hn : I 0 3 = nI n) (hn8 : n ≤ 8) (hs : sM I R I2 R2) : ∀ (k b : Nat), b ≤ n → n - b < k → Ev lyM (d + 94) hX12_goStep 21 [some (.ref 0), some (.ref 1), some (.int sg), some (.int (nI b))] [] (va_up I2 1 (m_gp (I 1) sg b), J, R2) (fun r M' => r = some (.int sg) ∧ ∃ I3 R3, M' = (I3, J, R3) ∧ sM (va_up I 1 (m_gs (I 1) sg n)) R I3 R3) := by
    intro k
    induction k with
    | zero => intro b h1 h2; omega
    | succ k ih =>
      intro b hb hk
      have hn2 : I2 0 3 = nI n := by rw [hs.f 3 rfl]; exact hn
      refine ev_st dX12_goStep_21 rfl rfl ?_
      refine ev_st dX12_goStep_22 rfl rfl ?_
      refine ev_getI (v := nI n) dX12_goStep_23 fr_12_95 rfl rfl (by rw [va_up_n (by decide)]; exact hn2) ?_
      refine ev_ic_geN (t := 74) (a := b) (b := n) dX12_goStep_26 (by decide) rfl rfl (by omega) (by omega) (fun c_26 => ?_) (fun c_26 => ?_)
      · refine ev_st dX12_goStep_74 rfl rfl ?_
        refine ev_bipush (v := 24) dX12_goStep_75 (by decide) ?_
        refine ev_st dX12_goStep_77 rfl rfl ?_
        refine ev_iald (j := 24) (v := I 1 24) dX12_goStep_78 rfl rfl (by decide) (by decide) (by rw [va_up_q]; exact m_gp_hi (by omega)) ?_
        refine ev_iconst (v := 1) dX12_goStep_79 (by decide) ?_
        refine ev_st dX12_goStep_80 rfl rfl ?_
        refine ev_iast (j := 24) dX12_goStep_81 rfl rfl (by decide) (by decide) ?_
        refine ev_st dX12_goStep_82 rfl rfl ?_
        refine ev_bipush (v := 27) dX12_goStep_83 (by decide) ?_
        refine ev_iconst (v := 0) dX12_goStep_85 (by decide) ?_
        refine ev_iast (j := 27) dX12_goStep_86 rfl rfl (by decide) (by decide) ?_
        refine ev_st dX12_goStep_87 rfl rfl ?_
        refine ev_bipush (v := 28) dX12_goStep_88 (by decide) ?_
        refine ev_st dX12_goStep_90 rfl rfl ?_
        refine ev_iald (j := 28) (v := I 1 28) dX12_goStep_91 rfl rfl (by decide) (by decide) (by show ti_wr (ti_wr (va_up _ _ _) _ _ _) _ _ _ 1 28 = _; rw [ti_wr_up, ti_wr_up, va_up_q]; simp [upd]; exact m_gp_hi (by omega)) ?_
        refine ev_st dX12_goStep_92 rfl rfl ?_
        refine ev_st dX12_goStep_93 rfl rfl ?_
        refine ev_iast (j := 28) dX12_goStep_94 rfl rfl (by decide) (by decide) ?_
        refine ev_st dX12_goStep_95 rfl rfl ?_
        exact ev_iret dX12_goStep_96 rfl (⟨rfl, _, _, rfl, by rw [ti_wr_up, ti_wr_up, ti_wr_up, show b = n by omega]; exact hs.up 1 rfl _⟩)
      · refine ev_st dX12_goStep_29 rfl rfl ?_
        refine ev_st dX12_goStep_30 rfl rfl ?_
        refine ev_st dX12_goStep_31 rfl rfl ?_
        refine ev_bipush (v := 8) dX12_goStep_32 (by decide) ?_
        refine ev_st dX12_goStep_34 rfl rfl ?_
        refine ev_iaddN (a := 8) (b := b) (c := 8 + b) dX12_goStep_35 rfl rfl rfl ?_
        refine ev_iald (j := 8 + b) (v := I 1 (8 + b)) dX12_goStep_36 rfl rfl (by omega) (by decide) (by rw [va_up_q]; exact m_gp_hi (by omega)) ?_
        refine ev_iconst (v := 1) dX12_goStep_37 (by decide) ?_
        refine ev_ic_ne (t := 58) (x := I 1 (8 + b)) (y := 1) dX12_goStep_38 (by decide) (fun c_38 => ?_) (fun c_38 => ?_)
        · refine ev_iconst (v := 0) dX12_goStep_58 (by decide) ?_
          refine ev_st dX12_goStep_59 rfl rfl ?_
          refine ev_st dX12_goStep_60 rfl rfl ?_
          refine ev_iald (j := b) (v := I 1 b) dX12_goStep_61 rfl rfl (by omega) (by decide) (by rw [va_up_q]; exact m_gp_hi (by omega)) ?_
          refine ev_iconst (v := 2) dX12_goStep_62 (by decide) ?_
          refine ev_st dX12_goStep_63 rfl rfl ?_
          refine ev_max (v := if 0 < ((I 1 b) - 2) then ((I 1 b) - 2) else 0) dX12_goStep_64 br_12_205 rfl rfl ?_
          refine ev_iast (j := b) dX12_goStep_67 rfl rfl (by omega) (by decide) ?_
          refine ev_iincN (a := b) (b := b + 1) (L' := [some (.ref 0), some (.ref 1), some (.int sg), some (.int (nI (b + 1)))]) dX12_goStep_68 rfl (nI_1 _) rfl ?_
          refine ev_goto (t := 21) dX12_goStep_71 (by decide) ?_
          have e9 : ti_wr (va_up I2 1 (m_gp (I 1) sg b)) 1 b (if 0 < ((I 1 b) - 2) then ((I 1 b) - 2) else 0) = va_up I2 1 (m_gp (I 1) sg (b + 1)) := by rw [ti_wr_up]; rw [← m_gp_s]; simp [m_g1, c_38]
          rw [e9]
          exact ih _ (by omega) (by omega)
        · refine ev_bipush (v := 99) dX12_goStep_41 (by decide) ?_
          refine ev_st dX12_goStep_43 rfl rfl ?_
          refine ev_st dX12_goStep_44 rfl rfl ?_
          refine ev_iald (j := b) (v := I 1 b) dX12_goStep_45 rfl rfl (by omega) (by decide) (by rw [va_up_q]; exact m_gp_hi (by omega)) ?_
          refine ev_iconst (v := 1) dX12_goStep_46 (by decide) ?_
          refine ev_st dX12_goStep_47 rfl rfl ?_
          refine ev_iconst (v := 2) dX12_goStep_48 (by decide) ?_
          refine ev_st dX12_goStep_49 rfl rfl ?_
          refine ev_st dX12_goStep_50 rfl rfl ?_
          refine ev_st dX12_goStep_51 rfl rfl ?_
          refine ev_min (v := if (((I 1 b) + 1) + (2 * sg)) < 99 then (((I 1 b) + 1) + (2 * sg)) else 99) dX12_goStep_52 br_12_223 rfl rfl ?_
          refine ev_goto (t := 67) dX12_goStep_55 (by decide) ?_
          refine ev_iast (j := b) dX12_goStep_67 rfl rfl (by omega) (by decide) ?_
          refine ev_iincN (a := b) (b := b + 1) (L' := [some (.ref 0), some (.ref 1), some (.int sg), some (.int (nI (b + 1)))]) dX12_goStep_68 rfl (nI_1 _) rfl ?_
          refine ev_goto (t := 21) dX12_goStep_71 (by decide) ?_
          have e9 : ti_wr (va_up I2 1 (m_gp (I 1) sg b)) 1 b (if (((I 1 b) + 1) + (2 * sg)) < 99 then (((I 1 b) + 1) + (2 * sg)) else 99) = va_up I2 1 (m_gp (I 1) sg (b + 1)) := by rw [ti_wr_up]; rw [← m_gp_s]; simp [m_g1, c_38]
          rw [e9]
          exact ih _ (by omega) (by omega)
set_option maxHeartbeats 4000000 in
theorem c_goStep {I I2 : Nat → Nat → Int32} {J : Nat → Nat → Int64} {R R2 : Nat → Nat → Value} {d n c a rp rs : Nat} {rv : RV} (hB : mB 1 I R d n c a rp rs rv) (hs : sM I R I2 R2) : Cal lyM (d + 94) hX12_goStep 4 [.ref 0, .ref 1] (I2, J, R2) (fun r M' => r = some (.int (m_sg (m_F I 1 n c a rs rv (m_cy (I 1) n)) (m_N I 1 c a))) ∧ ∃ I3 R3, M' = (I3, J, R3) ∧ sM (va_up I 1 (m_gs (I 1) (m_sg (m_F I 1 n c a rs rv (m_cy (I 1) n)) (m_N I 1 c a)) n)) R I3 R3) := by
  show Ev lyM (d + 94) hX12_goStep 0 [some (.ref 0), some (.ref 1), none, none] [] (I2, J, R2) _
  refine ev_st dX12_goStep_0 rfl rfl ?_
  refine ev_st dX12_goStep_1 rfl rfl ?_
  refine ev_st dX12_goStep_2 rfl rfl ?_
  refine ev_st dX12_goStep_3 rfl rfl ?_
  refine ev_call dX12_goStep_4 rfl rfl mr_12_244 rfl rfl rfl (c_carryS hB hs) ?_
  rintro _ _ ⟨rfl, rfl⟩
  show Ev lyM (d + 94) hX12_goStep 7 [some (.ref 0), some (.ref 1), none, none] [.int (m_cy (I 1) n), .ref 1, .ref 0] (I2, J, R2) _
  refine ev_call dX12_goStep_7 rfl rfl mr_12_265 rfl rfl rfl (c_isFirm hB hs (m_cy (I 1) n)) ?_
  rintro _ _ ⟨rfl, I3, R3, rfl, hs3⟩
  show Ev lyM (d + 94) hX12_goStep 10 [some (.ref 0), some (.ref 1), none, none] [.int (if m_F I 1 n c a rs rv (m_cy (I 1) n) < m_N I 1 c a then 0 else 1)] (I3, J, R3) _
  refine ev_if_eq (t := 17) (x := if m_F I 1 n c a rs rv (m_cy (I 1) n) < m_N I 1 c a then 0 else 1) dX12_goStep_10 (by decide) (fun c_10 => ?_) (fun c_10 => ?_)
  · refine ev_iconst (v := 1) dX12_goStep_17 (by decide) ?_
    refine ev_st (L' := [some (.ref 0), some (.ref 1), some (.int 1), none]) dX12_goStep_18 rfl rfl ?_
    refine ev_iconst (v := 0) dX12_goStep_19 (by decide) ?_
    refine ev_st (L' := [some (.ref 0), some (.ref 1), some (.int 1), some (.int 0)]) dX12_goStep_20 rfl rfl ?_
    have hf : m_F I 1 n c a rs rv (m_cy (I 1) n) < m_N I 1 c a := by simpa using c_10
    have K := c_goStepL (J := J) (d := d) (1) hB.1 hB.2.1 hs3 (n + 1) 0 (by omega) (by omega)
    rw [show m_gp (I 1) (1) 0 = I3 1 from by rw [hs3.r 1 rfl]; funext j; simp [m_gp], va_up_id] at K
    exact K.imp (fun r M' ⟨e1, e2⟩ => ⟨by rw [e1]; simp [m_sg, hf], by simpa [m_sg, hf] using e2⟩)
  · refine ev_iconst (v := 0) dX12_goStep_13 (by decide) ?_
    refine ev_goto (t := 18) dX12_goStep_14 (by decide) ?_
    refine ev_st (L' := [some (.ref 0), some (.ref 1), some (.int 0), none]) dX12_goStep_18 rfl rfl ?_
    refine ev_iconst (v := 0) dX12_goStep_19 (by decide) ?_
    refine ev_st (L' := [some (.ref 0), some (.ref 1), some (.int 0), some (.int 0)]) dX12_goStep_20 rfl rfl ?_
    have hf : ¬ m_F I 1 n c a rs rv (m_cy (I 1) n) < m_N I 1 c a := by simpa using c_10
    have K := c_goStepL (J := J) (d := d) (0) hB.1 hB.2.1 hs3 (n + 1) 0 (by omega) (by omega)
    rw [show m_gp (I 1) (0) 0 = I3 1 from by rw [hs3.r 1 rfl]; funext j; simp [m_gp], va_up_id] at K
    exact K.imp (fun r M' ⟨e1, e2⟩ => ⟨by rw [e1]; simp [m_sg, hf], by simpa [m_sg, hf] using e2⟩)
theorem c_bearsOfSt {I I2 : Nat → Nat → Int32} {J : Nat → Nat → Int64} {R R2 : Nat → Nat → Value} {d n c a rp rs : Nat} {rv : RV} (hB : mB 14 I R d n c a rp rs rv) (hs : sM I R I2 R2) {b : Nat} (hb : b < n) (x : Int32) : Cal lyM (d + 91) hX12_bearsOf 6 [.ref 0, .ref 14, .int (nI b), .int x] (I2, J, R2) (fun r M' => r = some (.int (m_be rs rv (I 3) (I 4) (I 14) (m_tl (I 4) x n) (m_st c (I 2) a) b x)) ∧ ∃ I3 R3, M' = (I3, J, R3) ∧ sM I R I3 R3) := by
  obtain ⟨h1, h2, h3, h4, h5, h6, h7, h8, h9⟩ := mB.s rfl hB hs
  have K := c_bearsOft (J := J) h1 h2 h3 h4 h5 h6 h7 h8 h9 hb x
  rw [hs.r 3 rfl, hs.r 4 rfl, hs.r 14 rfl, hs.r 2 rfl] at K
  exact K.imp (fun r M' ⟨e1, I3, R3, e2, e3⟩ => ⟨e1, I3, R3, e2, hs.tr e3⟩)
set_option maxHeartbeats 4000000 in
theorem c_forceOft {I I2 : Nat → Nat → Int32} {J : Nat → Nat → Int64} {R R2 : Nat → Nat → Value} {d n c a rp rs : Nat} {rv : RV} (hB : mB 14 I R d n c a rp rs rv) (hs : sM I R I2 R2) (x : Int32) : Cal lyM (d + 92) hX12_forceOf 5 [.ref 0, .ref 14, .int x] (I2, J, R2) (fun r M' => r = some (.int (m_F I 14 n c a rs rv x)) ∧ ∃ I3 R3, M' = (I3, J, R3) ∧ sM I R I3 R3) := by
  have loop : ∀ (k b : Nat) (m : Int32) (I2 : Nat → Nat → Int32) (R2 : Nat → Nat → Value), b ≤ n → n - b < k → m = m_fo rs rv (I 3) (I 4) (I 14) (m_tl (I 4) x n) (m_st c (I 2) a) x b → sM I R I2 R2 → Ev lyM (d + 92) hX12_forceOf 5 [some (.ref 0), some (.ref 14), some (.int x), some (.int m), some (.int (nI b))] [] (I2, J, R2) (fun r M' => r = some (.int (m_F I 14 n c a rs rv x)) ∧ ∃ I3 R3, M' = (I3, J, R3) ∧ sM I R I3 R3) := by
    intro k
    induction k with
    | zero => intro b m I2 R2 h1 h2; omega
    | succ k ih =>
      intro b m I2 R2 hb hk hm hs
      have hn8 := hB.2.1
      have hn2 : I2 0 3 = nI n := by rw [hs.f 3 rfl]; exact hB.1
      refine ev_st dX12_forceOf_5 rfl rfl ?_
      refine ev_st dX12_forceOf_7 rfl rfl ?_
      refine ev_getI (v := nI n) dX12_forceOf_8 fr_12_95 rfl rfl hn2 ?_
      refine ev_ic_geN (t := 44) (a := b) (b := n) dX12_forceOf_11 (by decide) rfl rfl (by omega) (by omega) (fun c_11 => ?_) (fun c_11 => ?_)
      · refine ev_st dX12_forceOf_44 rfl rfl ?_
        exact ev_iret dX12_forceOf_45 rfl (⟨by rw [hm, show b = n by omega]; rfl, _, _, rfl, hs⟩)
      · refine ev_st dX12_forceOf_14 rfl rfl ?_
        refine ev_st dX12_forceOf_15 rfl rfl ?_
        refine ev_st dX12_forceOf_16 rfl rfl ?_
        refine ev_call dX12_forceOf_18 rfl rfl mr_12_201 rfl rfl rfl (c_has x (nI b)) ?_
        rintro _ _ ⟨rfl, rfl⟩
        show Ev lyM (d + 92) hX12_forceOf 21 [some (.ref 0), some (.ref 14), some (.int x), some (.int m), some (.int (nI b))] [.int (m_has x (nI b)), .int m] (I2, J, R2) _
        refine ev_if_eq (t := 35) (x := m_has x (nI b)) dX12_forceOf_21 (by decide) (fun c_21 => ?_) (fun c_21 => ?_)
        · refine ev_iconst (v := 0) dX12_forceOf_35 (by decide) ?_
          refine ev_st dX12_forceOf_36 rfl rfl ?_
          refine ev_st (L' := [some (.ref 0), some (.ref 14), some (.int x), some (.int (m + 0)), some (.int (nI b))]) dX12_forceOf_37 rfl rfl ?_
          refine ev_iincN (a := b) (b := b + 1) (L' := [some (.ref 0), some (.ref 14), some (.int x), some (.int (m + 0)), some (.int (nI (b + 1)))]) dX12_forceOf_38 rfl (nI_1 _) rfl ?_
          refine ev_goto (t := 5) dX12_forceOf_41 (by decide) ?_
          exact ih _ _ _ _ (by omega) (by omega) (by simp [m_fo, hm, c_21]) hs
        · refine ev_st dX12_forceOf_24 rfl rfl ?_
          refine ev_st dX12_forceOf_25 rfl rfl ?_
          refine ev_st dX12_forceOf_26 rfl rfl ?_
          refine ev_st dX12_forceOf_28 rfl rfl ?_
          refine ev_call dX12_forceOf_29 rfl rfl mr_12_226 rfl rfl rfl (c_bearsOfSt hB hs c_11 x) ?_
          rintro _ _ ⟨rfl, I3, R3, rfl, hs3⟩
          show Ev lyM (d + 92) hX12_forceOf 32 [some (.ref 0), some (.ref 14), some (.int x), some (.int m), some (.int (nI b))] [.int (m_be rs rv (I 3) (I 4) (I 14) (m_tl (I 4) x n) (m_st c (I 2) a) b x), .int m] (I3, J, R3) _
          refine ev_goto (t := 36) dX12_forceOf_32 (by decide) ?_
          refine ev_st dX12_forceOf_36 rfl rfl ?_
          refine ev_st (L' := [some (.ref 0), some (.ref 14), some (.int x), some (.int (m + (m_be rs rv (I 3) (I 4) (I 14) (m_tl (I 4) x n) (m_st c (I 2) a) b x))), some (.int (nI b))]) dX12_forceOf_37 rfl rfl ?_
          refine ev_iincN (a := b) (b := b + 1) (L' := [some (.ref 0), some (.ref 14), some (.int x), some (.int (m + (m_be rs rv (I 3) (I 4) (I 14) (m_tl (I 4) x n) (m_st c (I 2) a) b x))), some (.int (nI (b + 1)))]) dX12_forceOf_38 rfl (nI_1 _) rfl ?_
          refine ev_goto (t := 5) dX12_forceOf_41 (by decide) ?_
          exact ih _ _ _ _ (by omega) (by omega) (by simp [m_fo, hm, c_21]) hs3
  have hn8 := hB.2.1
  show Ev lyM (d + 92) hX12_forceOf 0 [some (.ref 0), some (.ref 14), some (.int x), none, none] [] (I2, J, R2) _
  refine ev_iconst (v := 0) dX12_forceOf_0 (by decide) ?_
  refine ev_st (L' := [some (.ref 0), some (.ref 14), some (.int x), some (.int 0), none]) dX12_forceOf_1 rfl rfl ?_
  refine ev_iconst (v := 0) dX12_forceOf_2 (by decide) ?_
  refine ev_st (L' := [some (.ref 0), some (.ref 14), some (.int x), some (.int 0), some (.int 0)]) dX12_forceOf_3 rfl rfl ?_
  exact loop (n + 1) 0 0 _ _ (by omega) (by omega) rfl hs
theorem c_needed0t {I I2 : Nat → Nat → Int32} {J : Nat → Nat → Int64} {R R2 : Nat → Nat → Value} {e : Nat} {d n c a rp rs : Nat} {rv : RV} (hB : mB 14 I R d n c a rp rs rv) (hs : sM I R I2 R2) : Cal lyM (e + 1) hX12_needed 2 [.ref 0, .ref 14] (I2, J, R2) (fun r M' => r = some (.int (m_N I 14 c a)) ∧ M' = (I2, J, R2)) := by
  obtain ⟨h1, h2, h3, h4, h5, h6, h7, h8, h9⟩ := mB.s rfl hB hs
  show Ev lyM (e + 1) hX12_needed 0 [some (.ref 0), some (.ref 14)] [] (I2, J, R2) _
  refine ev_st dX12_needed_0 rfl rfl ?_
  refine ev_bipush (v := 25) dX12_needed_1 (by decide) ?_
  refine ev_iald (j := 25) (v := I2 14 25) dX12_needed_3 rfl rfl (by decide) (by decide) rfl ?_
  refine ev_st dX12_needed_4 rfl rfl ?_
  refine ev_st dX12_needed_5 rfl rfl ?_
  refine ev_call dX12_needed_6 rfl rfl mr_12_219 rfl rfl rfl (c_steepOft h3 h4 h5 h6) ?_
  rintro _ _ ⟨rfl, rfl⟩
  show Ev lyM (e + 1) hX12_needed 9 [some (.ref 0), some (.ref 14)] [.int (m_st c (I2 2) a), .int (I2 14 25)] (I2, J, R2) _
  refine ev_st dX12_needed_9 rfl rfl ?_
  exact ev_iret dX12_needed_10 rfl (⟨by rw [hs.r 14 rfl, hs.r 2 rfl]; rfl, rfl⟩)
theorem c_isFirmt {I I2 : Nat → Nat → Int32} {J : Nat → Nat → Int64} {R R2 : Nat → Nat → Value} {d n c a rp rs : Nat} {rv : RV} (hB : mB 14 I R d n c a rp rs rv) (hs : sM I R I2 R2) (x : Int32) : Cal lyM (d + 93) hX12_isFirm 3 [.ref 0, .ref 14, .int x] (I2, J, R2) (fun r M' => r = some (.int (if m_F I 14 n c a rs rv x < m_N I 14 c a then 0 else 1)) ∧ ∃ I3 R3, M' = (I3, J, R3) ∧ sM I R I3 R3) := by
  show Ev lyM (d + 93) hX12_isFirm 0 [some (.ref 0), some (.ref 14), some (.int x)] [] (I2, J, R2) _
  refine ev_st dX12_isFirm_0 rfl rfl ?_
  refine ev_st dX12_isFirm_1 rfl rfl ?_
  refine ev_st dX12_isFirm_2 rfl rfl ?_
  refine ev_call dX12_isFirm_3 rfl rfl mr_12_230 rfl rfl rfl (c_forceOft hB hs x) ?_
  rintro _ _ ⟨rfl, I3, R3, rfl, hs3⟩
  show Ev lyM (d + 93) hX12_isFirm 6 [some (.ref 0), some (.ref 14), some (.int x)] [.int (m_F I 14 n c a rs rv x)] (I3, J, R3) _
  refine ev_st dX12_isFirm_6 rfl rfl ?_
  refine ev_st dX12_isFirm_7 rfl rfl ?_
  refine ev_call dX12_isFirm_8 rfl rfl mr_12_234 rfl rfl rfl (c_needed0t hB hs3) ?_
  rintro _ _ ⟨rfl, rfl⟩
  show Ev lyM (d + 93) hX12_isFirm 11 [some (.ref 0), some (.ref 14), some (.int x)] [.int (m_N I 14 c a), .int (m_F I 14 n c a rs rv x)] (I3, J, R3) _
  refine ev_ic_lt (t := 18) (x := m_F I 14 n c a rs rv x) (y := m_N I 14 c a) dX12_isFirm_11 (by decide) (fun c_11 => ?_) (fun c_11 => ?_)
  · refine ev_iconst (v := 0) dX12_isFirm_18 (by decide) ?_
    exact ev_zret dX12_isFirm_19 rfl (by decide) (⟨by simp [c_11], _, _, rfl, hs3⟩)
  · refine ev_iconst (v := 1) dX12_isFirm_14 (by decide) ?_
    refine ev_goto (t := 19) dX12_isFirm_15 (by decide) ?_
    exact ev_zret dX12_isFirm_19 rfl (by decide) (⟨by simp [c_11], _, _, rfl, hs3⟩)
theorem c_carrySt {I I2 : Nat → Nat → Int32} {J : Nat → Nat → Int64} {R R2 : Nat → Nat → Value} {e : Nat} {d n c a rp rs : Nat} {rv : RV} (hB : mB 14 I R d n c a rp rs rv) (hs : sM I R I2 R2) : Cal lyM e hX12_carry 4 [.ref 0, .ref 14] (I2, J, R2) (fun r M' => r = some (.int (m_cy (I 14) n)) ∧ M' = (I2, J, R2)) := by
  have K := c_carryt (J := J) (R := R2) (d := e) (mB.s rfl hB hs).1 hB.2.1
  rw [hs.r 14 rfl] at K
  exact K
set_option maxHeartbeats 4000000 in
theorem c_goStepLt {I I2 : Nat → Nat → Int32} {J : Nat → Nat → Int64} {R R2 : Nat → Nat → Value} {d n : Nat} (sg : Int32) (hn : I 0 3 = nI n) (hn8 : n ≤ 8) (hs : sM I R I2 R2) : ∀ (k b : Nat), b ≤ n → n - b < k → Ev lyM (d + 94) hX12_goStep 21 [some (.ref 0), some (.ref 14), some (.int sg), some (.int (nI b))] [] (va_up I2 14 (m_gp (I 14) sg b), J, R2) (fun r M' => r = some (.int sg) ∧ ∃ I3 R3, M' = (I3, J, R3) ∧ sM (va_up I 14 (m_gs (I 14) sg n)) R I3 R3) := by
    intro k
    induction k with
    | zero => intro b h1 h2; omega
    | succ k ih =>
      intro b hb hk
      have hn2 : I2 0 3 = nI n := by rw [hs.f 3 rfl]; exact hn
      refine ev_st dX12_goStep_21 rfl rfl ?_
      refine ev_st dX12_goStep_22 rfl rfl ?_
      refine ev_getI (v := nI n) dX12_goStep_23 fr_12_95 rfl rfl (by rw [va_up_n (by decide)]; exact hn2) ?_
      refine ev_ic_geN (t := 74) (a := b) (b := n) dX12_goStep_26 (by decide) rfl rfl (by omega) (by omega) (fun c_26 => ?_) (fun c_26 => ?_)
      · refine ev_st dX12_goStep_74 rfl rfl ?_
        refine ev_bipush (v := 24) dX12_goStep_75 (by decide) ?_
        refine ev_st dX12_goStep_77 rfl rfl ?_
        refine ev_iald (j := 24) (v := I 14 24) dX12_goStep_78 rfl rfl (by decide) (by decide) (by rw [va_up_q]; exact m_gp_hi (by omega)) ?_
        refine ev_iconst (v := 1) dX12_goStep_79 (by decide) ?_
        refine ev_st dX12_goStep_80 rfl rfl ?_
        refine ev_iast (j := 24) dX12_goStep_81 rfl rfl (by decide) (by decide) ?_
        refine ev_st dX12_goStep_82 rfl rfl ?_
        refine ev_bipush (v := 27) dX12_goStep_83 (by decide) ?_
        refine ev_iconst (v := 0) dX12_goStep_85 (by decide) ?_
        refine ev_iast (j := 27) dX12_goStep_86 rfl rfl (by decide) (by decide) ?_
        refine ev_st dX12_goStep_87 rfl rfl ?_
        refine ev_bipush (v := 28) dX12_goStep_88 (by decide) ?_
        refine ev_st dX12_goStep_90 rfl rfl ?_
        refine ev_iald (j := 28) (v := I 14 28) dX12_goStep_91 rfl rfl (by decide) (by decide) (by show ti_wr (ti_wr (va_up _ _ _) _ _ _) _ _ _ 14 28 = _; rw [ti_wr_up, ti_wr_up, va_up_q]; simp [upd]; exact m_gp_hi (by omega)) ?_
        refine ev_st dX12_goStep_92 rfl rfl ?_
        refine ev_st dX12_goStep_93 rfl rfl ?_
        refine ev_iast (j := 28) dX12_goStep_94 rfl rfl (by decide) (by decide) ?_
        refine ev_st dX12_goStep_95 rfl rfl ?_
        exact ev_iret dX12_goStep_96 rfl (⟨rfl, _, _, rfl, by rw [ti_wr_up, ti_wr_up, ti_wr_up, show b = n by omega]; exact hs.up 14 rfl _⟩)
      · refine ev_st dX12_goStep_29 rfl rfl ?_
        refine ev_st dX12_goStep_30 rfl rfl ?_
        refine ev_st dX12_goStep_31 rfl rfl ?_
        refine ev_bipush (v := 8) dX12_goStep_32 (by decide) ?_
        refine ev_st dX12_goStep_34 rfl rfl ?_
        refine ev_iaddN (a := 8) (b := b) (c := 8 + b) dX12_goStep_35 rfl rfl rfl ?_
        refine ev_iald (j := 8 + b) (v := I 14 (8 + b)) dX12_goStep_36 rfl rfl (by omega) (by decide) (by rw [va_up_q]; exact m_gp_hi (by omega)) ?_
        refine ev_iconst (v := 1) dX12_goStep_37 (by decide) ?_
        refine ev_ic_ne (t := 58) (x := I 14 (8 + b)) (y := 1) dX12_goStep_38 (by decide) (fun c_38 => ?_) (fun c_38 => ?_)
        · refine ev_iconst (v := 0) dX12_goStep_58 (by decide) ?_
          refine ev_st dX12_goStep_59 rfl rfl ?_
          refine ev_st dX12_goStep_60 rfl rfl ?_
          refine ev_iald (j := b) (v := I 14 b) dX12_goStep_61 rfl rfl (by omega) (by decide) (by rw [va_up_q]; exact m_gp_hi (by omega)) ?_
          refine ev_iconst (v := 2) dX12_goStep_62 (by decide) ?_
          refine ev_st dX12_goStep_63 rfl rfl ?_
          refine ev_max (v := if 0 < ((I 14 b) - 2) then ((I 14 b) - 2) else 0) dX12_goStep_64 br_12_205 rfl rfl ?_
          refine ev_iast (j := b) dX12_goStep_67 rfl rfl (by omega) (by decide) ?_
          refine ev_iincN (a := b) (b := b + 1) (L' := [some (.ref 0), some (.ref 14), some (.int sg), some (.int (nI (b + 1)))]) dX12_goStep_68 rfl (nI_1 _) rfl ?_
          refine ev_goto (t := 21) dX12_goStep_71 (by decide) ?_
          have e9 : ti_wr (va_up I2 14 (m_gp (I 14) sg b)) 14 b (if 0 < ((I 14 b) - 2) then ((I 14 b) - 2) else 0) = va_up I2 14 (m_gp (I 14) sg (b + 1)) := by rw [ti_wr_up]; rw [← m_gp_s]; simp [m_g1, c_38]
          rw [e9]
          exact ih _ (by omega) (by omega)
        · refine ev_bipush (v := 99) dX12_goStep_41 (by decide) ?_
          refine ev_st dX12_goStep_43 rfl rfl ?_
          refine ev_st dX12_goStep_44 rfl rfl ?_
          refine ev_iald (j := b) (v := I 14 b) dX12_goStep_45 rfl rfl (by omega) (by decide) (by rw [va_up_q]; exact m_gp_hi (by omega)) ?_
          refine ev_iconst (v := 1) dX12_goStep_46 (by decide) ?_
          refine ev_st dX12_goStep_47 rfl rfl ?_
          refine ev_iconst (v := 2) dX12_goStep_48 (by decide) ?_
          refine ev_st dX12_goStep_49 rfl rfl ?_
          refine ev_st dX12_goStep_50 rfl rfl ?_
          refine ev_st dX12_goStep_51 rfl rfl ?_
          refine ev_min (v := if (((I 14 b) + 1) + (2 * sg)) < 99 then (((I 14 b) + 1) + (2 * sg)) else 99) dX12_goStep_52 br_12_223 rfl rfl ?_
          refine ev_goto (t := 67) dX12_goStep_55 (by decide) ?_
          refine ev_iast (j := b) dX12_goStep_67 rfl rfl (by omega) (by decide) ?_
          refine ev_iincN (a := b) (b := b + 1) (L' := [some (.ref 0), some (.ref 14), some (.int sg), some (.int (nI (b + 1)))]) dX12_goStep_68 rfl (nI_1 _) rfl ?_
          refine ev_goto (t := 21) dX12_goStep_71 (by decide) ?_
          have e9 : ti_wr (va_up I2 14 (m_gp (I 14) sg b)) 14 b (if (((I 14 b) + 1) + (2 * sg)) < 99 then (((I 14 b) + 1) + (2 * sg)) else 99) = va_up I2 14 (m_gp (I 14) sg (b + 1)) := by rw [ti_wr_up]; rw [← m_gp_s]; simp [m_g1, c_38]
          rw [e9]
          exact ih _ (by omega) (by omega)
set_option maxHeartbeats 4000000 in
theorem c_goStept {I I2 : Nat → Nat → Int32} {J : Nat → Nat → Int64} {R R2 : Nat → Nat → Value} {d n c a rp rs : Nat} {rv : RV} (hB : mB 14 I R d n c a rp rs rv) (hs : sM I R I2 R2) : Cal lyM (d + 94) hX12_goStep 4 [.ref 0, .ref 14] (I2, J, R2) (fun r M' => r = some (.int (m_sg (m_F I 14 n c a rs rv (m_cy (I 14) n)) (m_N I 14 c a))) ∧ ∃ I3 R3, M' = (I3, J, R3) ∧ sM (va_up I 14 (m_gs (I 14) (m_sg (m_F I 14 n c a rs rv (m_cy (I 14) n)) (m_N I 14 c a)) n)) R I3 R3) := by
  show Ev lyM (d + 94) hX12_goStep 0 [some (.ref 0), some (.ref 14), none, none] [] (I2, J, R2) _
  refine ev_st dX12_goStep_0 rfl rfl ?_
  refine ev_st dX12_goStep_1 rfl rfl ?_
  refine ev_st dX12_goStep_2 rfl rfl ?_
  refine ev_st dX12_goStep_3 rfl rfl ?_
  refine ev_call dX12_goStep_4 rfl rfl mr_12_244 rfl rfl rfl (c_carrySt hB hs) ?_
  rintro _ _ ⟨rfl, rfl⟩
  show Ev lyM (d + 94) hX12_goStep 7 [some (.ref 0), some (.ref 14), none, none] [.int (m_cy (I 14) n), .ref 14, .ref 0] (I2, J, R2) _
  refine ev_call dX12_goStep_7 rfl rfl mr_12_265 rfl rfl rfl (c_isFirmt hB hs (m_cy (I 14) n)) ?_
  rintro _ _ ⟨rfl, I3, R3, rfl, hs3⟩
  show Ev lyM (d + 94) hX12_goStep 10 [some (.ref 0), some (.ref 14), none, none] [.int (if m_F I 14 n c a rs rv (m_cy (I 14) n) < m_N I 14 c a then 0 else 1)] (I3, J, R3) _
  refine ev_if_eq (t := 17) (x := if m_F I 14 n c a rs rv (m_cy (I 14) n) < m_N I 14 c a then 0 else 1) dX12_goStep_10 (by decide) (fun c_10 => ?_) (fun c_10 => ?_)
  · refine ev_iconst (v := 1) dX12_goStep_17 (by decide) ?_
    refine ev_st (L' := [some (.ref 0), some (.ref 14), some (.int 1), none]) dX12_goStep_18 rfl rfl ?_
    refine ev_iconst (v := 0) dX12_goStep_19 (by decide) ?_
    refine ev_st (L' := [some (.ref 0), some (.ref 14), some (.int 1), some (.int 0)]) dX12_goStep_20 rfl rfl ?_
    have hf : m_F I 14 n c a rs rv (m_cy (I 14) n) < m_N I 14 c a := by simpa using c_10
    have K := c_goStepLt (J := J) (d := d) (1) hB.1 hB.2.1 hs3 (n + 1) 0 (by omega) (by omega)
    rw [show m_gp (I 14) (1) 0 = I3 14 from by rw [hs3.r 14 rfl]; funext j; simp [m_gp], va_up_id] at K
    exact K.imp (fun r M' ⟨e1, e2⟩ => ⟨by rw [e1]; simp [m_sg, hf], by simpa [m_sg, hf] using e2⟩)
  · refine ev_iconst (v := 0) dX12_goStep_13 (by decide) ?_
    refine ev_goto (t := 18) dX12_goStep_14 (by decide) ?_
    refine ev_st (L' := [some (.ref 0), some (.ref 14), some (.int 0), none]) dX12_goStep_18 rfl rfl ?_
    refine ev_iconst (v := 0) dX12_goStep_19 (by decide) ?_
    refine ev_st (L' := [some (.ref 0), some (.ref 14), some (.int 0), some (.int 0)]) dX12_goStep_20 rfl rfl ?_
    have hf : ¬ m_F I 14 n c a rs rv (m_cy (I 14) n) < m_N I 14 c a := by simpa using c_10
    have K := c_goStepLt (J := J) (d := d) (0) hB.1 hB.2.1 hs3 (n + 1) 0 (by omega) (by omega)
    rw [show m_gp (I 14) (0) 0 = I3 14 from by rw [hs3.r 14 rfl]; funext j; simp [m_gp], va_up_id] at K
    exact K.imp (fun r M' ⟨e1, e2⟩ => ⟨by rw [e1]; simp [m_sg, hf], by simpa [m_sg, hf] using e2⟩)
