/-! numbers as integers; the model: how much it bears, the room at each corner -/
def iI (a : Int) : Int32 := Int32.ofInt a
theorem iI_lt {a b : Int} (h1 : -2 ^ 31 ≤ a) (h2 : a < 2 ^ 31) (h3 : -2 ^ 31 ≤ b) (h4 : b < 2 ^ 31) : iI a < iI b ↔ a < b := by
  rw [iI, iI, Int32.lt_iff_toInt_lt, Int32.toInt_ofInt_of_le h1 h2, Int32.toInt_ofInt_of_le h3 h4]
theorem iI_eq {a b : Int} (h1 : -2 ^ 31 ≤ a) (h2 : a < 2 ^ 31) (h3 : -2 ^ 31 ≤ b) (h4 : b < 2 ^ 31) : iI a = iI b ↔ a = b := by
  constructor
  · intro h
    have := congrArg Int32.toInt h
    rwa [iI, iI, Int32.toInt_ofInt_of_le h1 h2, Int32.toInt_ofInt_of_le h3 h4] at this
  · intro h; rw [h]
theorem iI_add (a b : Int) : iI a + iI b = iI (a + b) := (Int32.ofInt_add a b).symm
theorem iI_sub (a b : Int) : iI a - iI b = iI (a - b) := (Int32.ofInt_sub a b).symm
theorem iI_mul (a b : Int) : iI a * iI b = iI (a * b) := (Int32.ofInt_mul a b).symm
theorem nI_iI (n : Nat) : nI n = iI n := rfl
theorem m_cl_nI (v : Int32) : ∃ t, t ≤ 99 ∧ m_cl v = nI t := by
  unfold m_cl
  by_cases h : v < 99
  · simp only [if_pos h]
    by_cases h0 : 0 < v
    · rw [if_pos h0]
      exact nI_of2 (M := 99) (n := 99) (by decide) (Int32.not_lt.mpr (Int32.le_of_lt h0)) (Int32.le_of_lt h)
    · rw [if_neg h0]; exact ⟨0, by omega, rfl⟩
  · simp only [if_neg h]; exact ⟨99, by omega, by decide⟩
theorem fo_nI {rs : Nat} {rv : RV} {str tl a : Nat → Int32} {mo st x : Int32} : ∀ k, ∃ v, v ≤ 99 * k ∧ m_fo rs rv str tl a mo st x k = nI v
  | 0 => ⟨0, by omega, rfl⟩
  | k + 1 => by
    obtain ⟨v, hv, e⟩ := fo_nI (rs := rs) (rv := rv) (str := str) (tl := tl) (a := a) (mo := mo) (st := st) (x := x) k
    simp only [m_fo]
    rw [e]
    split
    · exact ⟨v, by omega, by simp⟩
    · obtain ⟨w, hw, e2⟩ := m_cl_nI (if rs = 0 then str k - a k / 3 - (mo - tl k) else rv (str k) (a k) (tl k) mo (bc x) st (nI k))
      refine ⟨v + w, by omega, ?_⟩
      rw [m_be, e2, nI_add]
theorem fo_ext {rs : Nat} {rv : RV} {str tl a a' : Nat → Int32} {mo st x : Int32} : ∀ n, (∀ b, b < n → a b = a' b) → m_fo rs rv str tl a mo st x n = m_fo rs rv str tl a' mo st x n
  | 0, _ => rfl
  | n + 1, h => by
    simp only [m_fo]
    rw [fo_ext n (fun b hb => h b (by omega))]
    simp only [m_be, h n (by omega)]
theorem cy_ext {a a' : Nat → Int32} : ∀ n, (∀ b, b < n → a (8 + b) = a' (8 + b)) → m_cy a n = m_cy a' n
  | 0, _ => rfl
  | n + 1, h => by
    simp only [m_cy]
    rw [cy_ext n (fun b hb => h b (by omega)), h n (by omega)]
/-- tiredness after k steps without a stagger -/
def m_tk (row : Nat → Int32) : Nat → Nat → Int32
  | 0 => row
  | k + 1 => fun b => if row (8 + b) = 1 then (if m_tk row k b + 1 + 2 * 0 < 99 then m_tk row k b + 1 + 2 * 0 else 99) else (if 0 < m_tk row k b - 2 then m_tk row k b - 2 else 0)
/-- the room at a corner: FORCE then, less what it is steep -/
def m_RM (sp str tl : Nat → Int32) (n c rs : Nat) (rv : RV) (row : Nat → Int32) (a j : Nat) : Int32 := m_fo rs rv str tl (m_tk row (j - a)) (m_tl tl (m_cy row n) n) (m_st c sp j) (m_cy row n) n - m_st c sp j
/-- the least of the first k rooms -/
def m_mn (f : Nat → Int32) (a : Nat) : Nat → Int32
  | 0 => 999
  | k + 1 => if f (a + k) < m_mn f a k then f (a + k) else m_mn f a k
theorem m_mn_le {f : Nat → Int32} {a : Nat} : ∀ k i, m_mn f a (k + i) ≤ m_mn f a k
  | k, 0 => Int32.le_refl _
  | k, i + 1 => by
    have ih := m_mn_le (f := f) (a := a) k i
    show (if f (a + (k + i)) < m_mn f a (k + i) then _ else _) ≤ _
    split
    · next h => exact Int32.le_trans (Int32.le_of_lt h) ih
    · exact ih
/-- steep as it may be -/
def sp9 (sp : Nat → Int32) (c : Nat) : Prop := ∀ k, k < c → ∃ t, t ≤ 9 ∧ sp k = nI t
theorem st9 {sp : Nat → Int32} {c : Nat} (h : sp9 sp c) (a : Nat) : ∃ t, t ≤ 9 ∧ m_st c sp a = nI t := by
  unfold m_st
  split
  · next q => exact h a q
  · exact ⟨0, by omega, rfl⟩
/-- the other state after k steps without a stagger, but for its load -/
def tkR (row r : Nat → Int32) (n a k : Nat) : Prop := r 24 = nI (a + k) ∧ (∀ b, b < n → r b = m_tk row k b) ∧ (∀ b, b < n → r (8 + b) = row (8 + b))
theorem tkR.cy {row r : Nat → Int32} {n a k : Nat} (h : tkR row r n a k) : m_cy r n = m_cy row n := cy_ext n h.2.2
theorem tkR.rm {row r sp str tl : Nat → Int32} {n c a k rs : Nat} {rv : RV} (h : tkR row r n a k) : m_FR sp str tl n c rs rv r (a + k) - m_st c sp (a + k) = m_RM sp str tl n c rs rv row a (a + k) := by
  rw [m_FR, m_RM, h.cy, show a + k - a = k by omega, fo_ext n h.2.1]
theorem tkR.go {row r : Nat → Int32} {n a k : Nat} (hn : n ≤ 8) (h : tkR row r n a k) : tkR row (m_gs r 0 n) n a (k + 1) := by
  obtain ⟨h1, h2, h3⟩ := h
  refine ⟨?_, fun b hb => ?_, fun b hb => ?_⟩
  · simp [m_gs, upd, h1, nI_1, Nat.add_assoc]
  · simp only [m_gs, upd, if_neg (by omega : ¬ b = 28), if_neg (by omega : ¬ b = 27), if_neg (by omega : ¬ b = 24), m_gp, if_pos hb, m_g1, h2 b hb, h3 b hb, m_tk]
  · simp only [m_gs, upd, if_neg (by omega : ¬ 8 + b = 28), if_neg (by omega : ¬ 8 + b = 27), if_neg (by omega : ¬ 8 + b = 24), m_gp, if_neg (by omega : ¬ 8 + b < n), h3 b hb]
theorem tkR.ld {row r : Nat → Int32} {n a k : Nat} (hn : n ≤ 8) (v : Int32) (h : tkR row r n a k) : tkR row (upd r 25 v) n a k := by
  obtain ⟨h1, h2, h3⟩ := h
  exact ⟨by simp [upd, h1], fun b hb => by rw [upd, if_neg (by omega)]; exact h2 b hb, fun b hb => by rw [upd, if_neg (by omega)]; exact h3 b hb⟩
theorem min_lt0 {x m : Int32} (q : x < 0) : (if x < m then x else m) < 0 := by
  split
  · exact q
  · next z => exact Int32.lt_of_le_of_lt (Int32.not_lt.mp z) q
theorem sg0 {F : Int32} {v t : Nat} (hv : v < 1000) (ht : t ≤ 9) (e : F = nI v) {st : Int32} (et : st = nI t) : m_sg F (-999 + st) = 0 := by
  subst e; subst et
  unfold m_sg
  rw [if_neg]
  rw [show (-999 : Int32) = iI (-999) from rfl, nI_iI, nI_iI, iI_add, iI_lt (by omega) (by omega) (by omega) (by omega)]
  omega
theorem sg00 {F : Int32} {v t : Nat} (hv : v < 1000) (ht : t ≤ 9) (e : F = nI v) {st : Int32} (et : st = nI t) (h : ¬ F - st < 0) : m_sg F (0 + st) = 0 := by
  subst e; subst et
  unfold m_sg
  rw [if_neg]
  rw [show (0 : Int32) = iI 0 from rfl, nI_iI, nI_iI, iI_sub, iI_lt (by omega) (by omega) (by omega) (by omega)] at h
  rw [show (0 : Int32) = iI 0 from rfl, nI_iI, nI_iI, iI_add, iI_lt (by omega) (by omega) (by omega) (by omega)]
  omega
theorem tkR00 {f g : Nat → Int32} {n a : Nat} (hn : n ≤ 8) (ha : f 24 = nI a) : tkR f (m_tn f g) n a 0 := by
  have e : ∀ j, j < 29 → m_tn f g j = f j := fun j hj => by simp [m_tn, m_lay, hj]
  exact ⟨by rw [e 24 (by omega)]; exact ha, fun b hb => by rw [e b (by omega)]; rfl, fun b hb => e _ (by omega)⟩
set_option maxHeartbeats 1000000 in
theorem c_bears {I : Nat → Nat → Int32} {J : Nat → Nat → Int64} {R : Nat → Nat → Value} {d n c a rp rs : Nat} {rv : RV} (hA : mA I R d n c rp rs rv) (ha : I 1 24 = nI a) (hac : a ≤ c) (hsp : sp9 (I 2) c) (h0 : ¬ m_cy (I 1) n = 0) : Cal lyM (d + 96) hX12_bears 2 [.ref 0] (I, J, R) (fun r1 M' => r1 = some (.int (if m_mn (m_RM (I 2) (I 3) (I 4) n c rs rv (I 1) a) a (c - a) < 0 then -2 else m_mn (m_RM (I 2) (I 3) (I 4) n c rs rv (I 1) a) a (c - a))) ∧ ∃ I3 R3 row2, M' = (I3, J, R3) ∧ sM (va_up (ti_wr I 0 12 0) 14 (row2)) R I3 R3) := by
  have hn := hA.1
  have hn8 := hA.2.1
  have hc12 := hA.2.2.2.1
  have tkR0 := (tkR00 (g := I 14) hn8 ha).ld hn8 0
  have loop : ∀ (z k : Nat) (r : Nat → Int32) (m : Int32) (I2 : Nat → Nat → Int32) (R2 : Nat → Nat → Value), a + k ≤ c → c - (a + k) < z → tkR (I 1) r n a k → r 25 = 0 → m = m_mn (m_RM (I 2) (I 3) (I 4) n c rs rv (I 1) a) a k → ¬ m < 0 → sM (va_up (ti_wr I 0 12 0) 14 (r)) R I2 R2 → Ev lyM (d + 96) hX12_bears 43 [some (.ref 0), some (.int m)] [] (I2, J, R2) (fun r1 M' => r1 = some (.int (if m_mn (m_RM (I 2) (I 3) (I 4) n c rs rv (I 1) a) a (c - a) < 0 then -2 else m_mn (m_RM (I 2) (I 3) (I 4) n c rs rv (I 1) a) a (c - a))) ∧ ∃ I3 R3 row2, M' = (I3, J, R3) ∧ sM (va_up (ti_wr I 0 12 0) 14 (row2)) R I3 R3) := by
    intro z
    induction z with
    | zero => intro k r m I2 R2 h1 h2; omega
    | succ z ih =>
      intro k r m I2 R2 hk hz hr h25 hm hm0 hs2
      have ha12 : a + k ≤ 12 := by omega
      have hc2 : I2 0 1 = nI c := (hs2.f 1 rfl).trans hA.2.2.1
      have ha2 : I2 14 24 = nI (a + k) := (congrFun ((hs2.r 14 rfl).trans va_up_q) 24).trans hr.1
      have hn2 : I2 0 3 = nI n := (hs2.f 3 rfl).trans hA.1
      have hB := hA.w.b hr.1 ha12
      have er : I2 14 = r := (hs2.r 14 rfl).trans va_up_q
      have hcy : Cal lyM (d + 95) hX12_carry 4 [.ref 0, .ref 14] (I2, J, R2) (fun r1 M' => r1 = some (.int (m_cy r n)) ∧ M' = (I2, J, R2)) := by
        have K := c_carryt (J := J) (R := R2) (d := d + 95) hn2 hn8
        rw [er] at K; exact K
      obtain ⟨v, hv, ev⟩ := fo_nI (rs := rs) (rv := rv) (str := I 3) (tl := I 4) (a := r) (mo := m_tl (I 4) (m_cy r n) n) (st := m_st c (I 2) (a + k)) (x := m_cy r n) n
      have ev1 : m_FR (I 2) (I 3) (I 4) n c rs rv r (a + k) = nI v := ev
      obtain ⟨t, ht, et⟩ := st9 hsp (a + k)
      refine ev_st dX12_bears_43 rfl rfl ?_
      refine ev_st dX12_bears_44 rfl rfl ?_
      refine ev_getC dX12_bears_45 fr_12_55 rfl rfl ?_
      refine ev_call dX12_bears_48 rfl rfl mr_12_261 rfl rfl rfl (c_isOnHillt hc2 hc12 ha2 ha12) ?_
      rintro _ _ ⟨rfl, rfl⟩
      show Ev lyM (d + 96) hX12_bears 51 [some (.ref 0), some (.int m)] [.int (if c ≤ a + k then 1 else 0)] (I2, J, R2) _
      refine ev_if_ne (t := 103) (x := if c ≤ a + k then 1 else 0) dX12_bears_51 (by decide) (fun c_51' => ?_) (fun c_51' => ?_)
      · have c_51 : c ≤ a + k := by simpa using c_51'
        refine ev_st dX12_bears_103 rfl rfl ?_
        exact ev_iret dX12_bears_104 rfl (⟨by rw [show c - a = k by omega, if_neg (hm ▸ hm0), ← hm], _, _, r, rfl, hs2⟩)
      · have c_51 : a + k < c := by simpa using c_51'
        refine ev_st dX12_bears_54 rfl rfl ?_
        refine ev_st dX12_bears_55 rfl rfl ?_
        refine ev_st dX12_bears_56 rfl rfl ?_
        refine ev_getC dX12_bears_57 fr_12_55 rfl rfl ?_
        refine ev_st dX12_bears_60 rfl rfl ?_
        refine ev_st dX12_bears_61 rfl rfl ?_
        refine ev_getC dX12_bears_62 fr_12_55 rfl rfl ?_
        refine ev_call dX12_bears_65 rfl rfl mr_12_244 rfl rfl rfl (hcy) ?_
        rintro _ _ ⟨rfl, rfl⟩
        show Ev lyM (d + 96) hX12_bears 68 [some (.ref 0), some (.int m)] [.int (m_cy r n), .ref 14, .ref 0, .int m] (I2, J, R2) _
        refine ev_call dX12_bears_68 rfl rfl mr_12_230 rfl rfl rfl (Cal.mono (by omega) (c_forceOft (J := J) hB hs2 (m_cy r n))) ?_
        rintro _ _ ⟨rfl, I3, R3, rfl, hs3⟩
        show Ev lyM (d + 96) hX12_bears 71 [some (.ref 0), some (.int m)] [.int (m_FR (I 2) (I 3) (I 4) n c rs rv r (a + k)), .int m] (I3, J, R3) _
        refine ev_st dX12_bears_71 rfl rfl ?_
        refine ev_st dX12_bears_72 rfl rfl ?_
        refine ev_getC dX12_bears_73 fr_12_55 rfl rfl ?_
        refine ev_call dX12_bears_76 rfl rfl mr_12_219 rfl rfl rfl ((by have K := c_steepOft (I := I3) (J := J) (R := R3) (d := d + 95) ((hs3.f 1 rfl).trans hA.2.2.1) hc12 ((congrFun ((hs3.r 14 rfl).trans va_up_q) 24).trans hr.1) ha12; rw [show I3 2 = I 2 from hs3.r 2 rfl] at K; exact K)) ?_
        rintro _ _ ⟨rfl, rfl⟩
        show Ev lyM (d + 96) hX12_bears 79 [some (.ref 0), some (.int m)] [.int (m_st c (I 2) (a + k)), .int (m_FR (I 2) (I 3) (I 4) n c rs rv r (a + k)), .int m] (I3, J, R3) _
        refine ev_st dX12_bears_79 rfl rfl ?_
        refine ev_min (v := if ((m_FR (I 2) (I 3) (I 4) n c rs rv r (a + k)) - (m_st c (I 2) (a + k))) < m then ((m_FR (I 2) (I 3) (I 4) n c rs rv r (a + k)) - (m_st c (I 2) (a + k))) else m) dX12_bears_80 br_12_223 rfl rfl ?_
        refine ev_st (L' := [some (.ref 0), some (.int (if ((m_FR (I 2) (I 3) (I 4) n c rs rv r (a + k)) - (m_st c (I 2) (a + k))) < m then ((m_FR (I 2) (I 3) (I 4) n c rs rv r (a + k)) - (m_st c (I 2) (a + k))) else m))]) dX12_bears_83 rfl rfl ?_
        refine ev_st dX12_bears_84 rfl rfl ?_
        refine ev_if_ge (t := 91) (x := if ((m_FR (I 2) (I 3) (I 4) n c rs rv r (a + k)) - (m_st c (I 2) (a + k))) < m then ((m_FR (I 2) (I 3) (I 4) n c rs rv r (a + k)) - (m_st c (I 2) (a + k))) else m) dX12_bears_85 (by decide) (fun c_85 => ?_) (fun c_85 => ?_)
        · refine ev_st dX12_bears_91 rfl rfl ?_
          refine ev_st dX12_bears_92 rfl rfl ?_
          refine ev_getC dX12_bears_93 fr_12_55 rfl rfl ?_
          refine ev_call dX12_bears_96 rfl rfl mr_12_276 rfl rfl rfl (Cal.mono (by omega) (c_goT hA.w hr.1 ha12 hs3)) ?_
          rintro _ _ ⟨rfl, I4, R4, rfl, hs4⟩
          show Ev lyM (d + 96) hX12_bears 99 [some (.ref 0), some (.int (if ((m_FR (I 2) (I 3) (I 4) n c rs rv r (a + k)) - (m_st c (I 2) (a + k))) < m then ((m_FR (I 2) (I 3) (I 4) n c rs rv r (a + k)) - (m_st c (I 2) (a + k))) else m))] [.int (m_SG (I 2) (I 3) (I 4) n c rs rv r (a + k))] (I4, J, R4) _
          refine ev_st dX12_bears_99 rfl rfl ?_
          refine ev_goto (t := 43) dX12_bears_100 (by decide) ?_
          have e0 : m_SG (I 2) (I 3) (I 4) n c rs rv r (a + k) = 0 := by rw [m_SG, h25]; exact sg00 (by omega) ht ev1 et (fun q => c_85 (min_lt0 q))
          have e1 : m_NX (I 2) (I 3) (I 4) n c rs rv r (a + k) = m_gs r 0 n := by rw [m_NX, e0]
          have hs5 : sM (va_up (ti_wr I 0 12 0) 14 (m_gs r 0 n)) R I4 R4 := by rw [← e1]; exact hs4
          exact ih (k + 1) _ _ _ _ (by omega) (by omega) (hr.go hn8) (by simp [m_gs, upd, m_gp, show ¬ 25 < n by omega, h25]) (by rw [m_mn, ← hm, ← hr.rm]) c_85 hs5
        · refine ev_bipush (v := -2) dX12_bears_88 (by decide) ?_
          exact ev_iret dX12_bears_90 rfl (⟨by rw [if_pos (Int32.lt_of_le_of_lt (by rw [show c - a = (k + 1) + (c - a - (k + 1)) by omega]; exact m_mn_le (k + 1) _) (show m_mn (m_RM (I 2) (I 3) (I 4) n c rs rv (I 1) a) a (k + 1) < 0 by rw [m_mn, ← hm, ← hr.rm]; exact c_85))], _, _, r, rfl, hs3⟩)
  show Ev lyM (d + 96) hX12_bears 0 [some (.ref 0), none] [] (I, J, R) _
  refine ev_st dX12_bears_0 rfl rfl ?_
  refine ev_iconst (v := 0) dX12_bears_1 (by decide) ?_
  refine ev_putI dX12_bears_2 fr_12_89 rfl rfl ?_
  refine ev_st dX12_bears_5 rfl rfl ?_
  refine ev_st dX12_bears_6 rfl rfl ?_
  refine ev_getC dX12_bears_7 fr_12_9 rfl rfl ?_
  refine ev_call dX12_bears_10 rfl rfl mr_12_244 rfl rfl rfl (c_carry (I := ti_wr I 0 12 0) hn hn8) ?_
  rintro _ _ ⟨rfl, rfl⟩
  show Ev lyM (d + 96) hX12_bears 13 [some (.ref 0), none] [.int (m_cy (I 1) n)] (ti_wr I 0 12 0, J, R) _
  refine ev_if_ne (t := 19) (x := m_cy (I 1) n) dX12_bears_13 (by decide) (fun c_13 => ?_) (fun c_13 => ?_)
  · refine ev_st dX12_bears_19 rfl rfl ?_
    refine ev_getC dX12_bears_20 fr_12_9 rfl rfl ?_
    refine ev_st dX12_bears_23 rfl rfl ?_
    refine ev_getC dX12_bears_24 fr_12_55 rfl rfl ?_
    refine ev_iconst (v := 0) dX12_bears_27 (by decide) ?_
    refine ev_call dX12_bears_28 rfl rfl mr_12_257 rfl rfl rfl (c_lay_1_14 (I := ti_wr I 0 12 0) (k := 0) (by decide)) ?_
    rintro _ _ ⟨rfl, rfl⟩
    show Ev lyM (d + 96) hX12_bears 31 [some (.ref 0), none] [] (va_up (ti_wr I 0 12 0) 14 (m_tn (I 1) (I 14)), J, R) _
    refine ev_st dX12_bears_31 rfl rfl ?_
    refine ev_getC dX12_bears_32 fr_12_55 rfl rfl ?_
    refine ev_bipush (v := 25) dX12_bears_35 (by decide) ?_
    refine ev_iconst (v := 0) dX12_bears_37 (by decide) ?_
    refine ev_iast (j := 25) dX12_bears_38 rfl rfl (by decide) (by decide) ?_
    refine ev_sipush (v := 999) dX12_bears_39 (by decide) ?_
    refine ev_st (L' := [some (.ref 0), some (.int 999)]) dX12_bears_42 rfl rfl ?_
    rw [ti_wr_up]
    exact loop (c + 1) 0 _ 999 _ _ (by omega) (by omega) tkR0 rfl rfl (by decide) sM.rf
  · exact absurd c_13 h0
theorem mA.room {I : Nat → Nat → Int32} {R : Nat → Nat → Value} {d n c rp rs : Nat} {rv : RV} (h : mA I R d n c rp rs rv) (g : Nat → Int32) : mA (va_up I 16 g) R d n c rp rs rv := by
  obtain ⟨h1, h2, h3, h4, h5, h6, h7⟩ := h
  refine ⟨h1, h2, h3, h4, h5, h6, ?_⟩
  have : va_up I 16 g rp = I rp := by rcases h7.1 with rfl | rfl <;> rfl
  rw [this]; exact h7
theorem up_wr_1614 {I : Nat → Nat → Int32} {g r : Nat → Int32} {k : Nat} {v : Int32} : ti_wr (va_up (va_up I 16 g) 14 r) 16 k v = va_up (va_up I 16 (upd g k v)) 14 r := by
  funext p j
  by_cases h14 : p = 14
  · subst h14; simp [ti_wr, va_up]
  · by_cases h16 : p = 16
    · subst h16; simp [ti_wr, va_up]
    · simp [ti_wr, va_up, h14, h16]
set_option maxHeartbeats 1000000 in
theorem c_layRoom {I I2 : Nat → Nat → Int32} {J : Nat → Nat → Int64} {R R2 : Nat → Nat → Value} {d n c a rp rs : Nat} {rv : RV} (hA : mA I R d n c rp rs rv) (ha : I 1 24 = nI a) (hac : a ≤ c) (hsp : sp9 (I 2) c) (hs : sM I R I2 R2) : Cal lyM (d + 96) hX12_layRoom 1 [.ref 0] (I2, J, R2) (fun r1 M' => r1 = none ∧ ∃ I3 R3 row2 g2, M' = (I3, J, R3) ∧ (∀ j, a ≤ j → j < c → g2 j = m_RM (I 2) (I 3) (I 4) n c rs rv (I 1) a j) ∧ sM (va_up (va_up I 16 g2) 14 row2) R I3 R3) := by
  have hn := hA.1
  have hn8 := hA.2.1
  have hc12 := hA.2.2.2.1
  have tkR0 := (tkR00 (g := I 14) hn8 ha).ld hn8 0
  have loop : ∀ (z k : Nat) (r g : Nat → Int32) (I2 : Nat → Nat → Int32) (R2 : Nat → Nat → Value), a + k ≤ c → c - (a + k) < z → tkR (I 1) r n a k → (∀ j, a ≤ j → j < a + k → g j = m_RM (I 2) (I 3) (I 4) n c rs rv (I 1) a j) → sM (va_up (va_up I 16 g) 14 r) R I2 R2 → Ev lyM (d + 96) hX12_layRoom 20 [some (.ref 0)] [] (I2, J, R2) (fun r1 M' => r1 = none ∧ ∃ I3 R3 row2 g2, M' = (I3, J, R3) ∧ (∀ j, a ≤ j → j < c → g2 j = m_RM (I 2) (I 3) (I 4) n c rs rv (I 1) a j) ∧ sM (va_up (va_up I 16 g2) 14 row2) R I3 R3) := by
    intro z
    induction z with
    | zero => intro k r g I2 R2 h1 h2; omega
    | succ z ih =>
      intro k r g I2 R2 hk hz hr hg hs2
      have hAg := hA.room g
      have ha12 : a + k ≤ 12 := by omega
      have hc2 : I2 0 1 = nI c := (hs2.f 1 rfl).trans hA.2.2.1
      have ha2 : I2 14 24 = nI (a + k) := (congrFun ((hs2.r 14 rfl).trans va_up_q) 24).trans hr.1
      have hn2 : I2 0 3 = nI n := (hs2.f 3 rfl).trans hA.1
      have hB := hAg.b hr.1 ha12
      have er : I2 14 = r := (hs2.r 14 rfl).trans va_up_q
      have hcy : Cal lyM (d + 95) hX12_carry 4 [.ref 0, .ref 14] (I2, J, R2) (fun r1 M' => r1 = some (.int (m_cy r n)) ∧ M' = (I2, J, R2)) := by
        have K := c_carryt (J := J) (R := R2) (d := d + 95) hn2 hn8
        rw [er] at K; exact K
      obtain ⟨v, hv, ev⟩ := fo_nI (rs := rs) (rv := rv) (str := I 3) (tl := I 4) (a := r) (mo := m_tl (I 4) (m_cy r n) n) (st := m_st c (I 2) (a + k)) (x := m_cy r n) n
      have ev1 : m_FR (I 2) (I 3) (I 4) n c rs rv r (a + k) = nI v := ev
      obtain ⟨t, ht, et⟩ := st9 hsp (a + k)
      refine ev_st dX12_layRoom_20 rfl rfl ?_
      refine ev_st dX12_layRoom_21 rfl rfl ?_
      refine ev_getC dX12_layRoom_22 fr_12_55 rfl rfl ?_
      refine ev_call dX12_layRoom_25 rfl rfl mr_12_261 rfl rfl rfl (c_isOnHillt hc2 hc12 ha2 ha12) ?_
      rintro _ _ ⟨rfl, rfl⟩
      show Ev lyM (d + 96) hX12_layRoom 28 [some (.ref 0)] [.int (if c ≤ a + k then 1 else 0)] (I2, J, R2) _
      refine ev_if_ne (t := 90) (x := if c ≤ a + k then 1 else 0) dX12_layRoom_28 (by decide) (fun c_28' => ?_) (fun c_28' => ?_)
      · have c_28 : c ≤ a + k := by simpa using c_28'
        exact ev_vret dX12_layRoom_90 rfl (⟨rfl, _, _, r, g, rfl, fun j h1 h2 => hg j h1 (by omega), hs2⟩)
      · have c_28 : a + k < c := by simpa using c_28'
        refine ev_st dX12_layRoom_31 rfl rfl ?_
        refine ev_getC dX12_layRoom_32 fr_12_61 rfl rfl ?_
        refine ev_st dX12_layRoom_35 rfl rfl ?_
        refine ev_getC dX12_layRoom_36 fr_12_55 rfl rfl ?_
        refine ev_bipush (v := 24) dX12_layRoom_39 (by decide) ?_
        refine ev_iald (j := 24) (v := nI (a + k)) dX12_layRoom_41 rfl rfl (by decide) (by decide) ha2 ?_
        refine ev_st dX12_layRoom_42 rfl rfl ?_
        refine ev_st dX12_layRoom_43 rfl rfl ?_
        refine ev_getC dX12_layRoom_44 fr_12_55 rfl rfl ?_
        refine ev_st dX12_layRoom_47 rfl rfl ?_
        refine ev_st dX12_layRoom_48 rfl rfl ?_
        refine ev_getC dX12_layRoom_49 fr_12_55 rfl rfl ?_
        refine ev_call dX12_layRoom_52 rfl rfl mr_12_244 rfl rfl rfl (hcy) ?_
        rintro _ _ ⟨rfl, rfl⟩
        show Ev lyM (d + 96) hX12_layRoom 55 [some (.ref 0)] [.int (m_cy r n), .ref 14, .ref 0, .int (nI (a + k)), .ref 16] (I2, J, R2) _
        refine ev_call dX12_layRoom_55 rfl rfl mr_12_230 rfl rfl rfl (Cal.mono (by omega) (c_forceOft (J := J) hB hs2 (m_cy r n))) ?_
        rintro _ _ ⟨rfl, I3, R3, rfl, hs3⟩
        show Ev lyM (d + 96) hX12_layRoom 58 [some (.ref 0)] [.int (m_FR (I 2) (I 3) (I 4) n c rs rv r (a + k)), .int (nI (a + k)), .ref 16] (I3, J, R3) _
        refine ev_st dX12_layRoom_58 rfl rfl ?_
        refine ev_st dX12_layRoom_59 rfl rfl ?_
        refine ev_getC dX12_layRoom_60 fr_12_55 rfl rfl ?_
        refine ev_call dX12_layRoom_63 rfl rfl mr_12_219 rfl rfl rfl ((by have K := c_steepOft (I := I3) (J := J) (R := R3) (d := d + 95) ((hs3.f 1 rfl).trans hA.2.2.1) hc12 ((congrFun ((hs3.r 14 rfl).trans va_up_q) 24).trans hr.1) ha12; rw [show I3 2 = I 2 from hs3.r 2 rfl] at K; exact K)) ?_
        rintro _ _ ⟨rfl, rfl⟩
        show Ev lyM (d + 96) hX12_layRoom 66 [some (.ref 0)] [.int (m_st c (I 2) (a + k)), .int (m_FR (I 2) (I 3) (I 4) n c rs rv r (a + k)), .int (nI (a + k)), .ref 16] (I3, J, R3) _
        refine ev_st dX12_layRoom_66 rfl rfl ?_
        refine ev_iast (j := a + k) dX12_layRoom_67 rfl rfl (by omega) (by decide) ?_
        refine ev_st dX12_layRoom_68 rfl rfl ?_
        refine ev_getC dX12_layRoom_69 fr_12_55 rfl rfl ?_
        refine ev_bipush (v := 25) dX12_layRoom_72 (by decide) ?_
        refine ev_sipush (v := -999) dX12_layRoom_74 (by decide) ?_
        refine ev_iast (j := 25) dX12_layRoom_77 rfl rfl (by decide) (by decide) ?_
        refine ev_st dX12_layRoom_78 rfl rfl ?_
        refine ev_st dX12_layRoom_79 rfl rfl ?_
        refine ev_getC dX12_layRoom_80 fr_12_55 rfl rfl ?_
        refine ev_call dX12_layRoom_83 rfl rfl mr_12_276 rfl rfl rfl (Cal.mono (by omega) (c_goT (I := va_up I 16 (upd g (a + k) (m_RM (I 2) (I 3) (I 4) n c rs rv (I 1) a (a + k)))) (row := upd r 25 (-999)) (hA.room _) (hr.ld hn8 (-999)).1 ha12 (by
        have K := (hs3.wr 16 (a + k) (m_RM (I 2) (I 3) (I 4) n c rs rv (I 1) a (a + k))).wr 14 25 (-999)
        refine sM.eq ?_ (hr.rm (sp := I 2) (str := I 3) (tl := I 4) (c := c) (rs := rs) (rv := rv) ▸ K)
        rw [up_wr_1614, ti_wr_up, hr.rm]))) ?_
        rintro _ _ ⟨rfl, I4, R4, rfl, hs4⟩
        show Ev lyM (d + 96) hX12_layRoom 86 [some (.ref 0)] [.int (m_SG (I 2) (I 3) (I 4) n c rs rv (upd r 25 (-999)) (a + k))] (I4, J, R4) _
        refine ev_st dX12_layRoom_86 rfl rfl ?_
        refine ev_goto (t := 20) dX12_layRoom_87 (by decide) ?_
        have e0 : m_SG (I 2) (I 3) (I 4) n c rs rv (upd r 25 (-999)) (a + k) = 0 := by
          obtain ⟨v2, hv2, ev2⟩ := fo_nI (rs := rs) (rv := rv) (str := I 3) (tl := I 4) (a := upd r 25 (-999)) (mo := m_tl (I 4) (m_cy (upd r 25 (-999)) n) n) (st := m_st c (I 2) (a + k)) (x := m_cy (upd r 25 (-999)) n) n
          exact sg0 (v := v2) (t := t) (by omega) ht ev2 et
        have e1 : m_NX (I 2) (I 3) (I 4) n c rs rv (upd r 25 (-999)) (a + k) = m_gs (upd r 25 (-999)) 0 n := by rw [m_NX, e0]
        have hs5 : sM (va_up (va_up I 16 (upd g (a + k) (m_RM (I 2) (I 3) (I 4) n c rs rv (I 1) a (a + k)))) 14 (m_gs (upd r 25 (-999)) 0 n)) R I4 R4 := by rw [← e1]; exact hs4
        exact ih (k + 1) _ _ _ _ (by omega) (by omega) ((hr.ld hn8 (-999)).go hn8) (fun j h1 h2 => by
          rw [upd]; split
          · next q => rw [q]
          · exact hg j h1 (by omega)) hs5
  show Ev lyM (d + 96) hX12_layRoom 0 [some (.ref 0)] [] (I2, J, R2) _
  refine ev_st dX12_layRoom_0 rfl rfl ?_
  refine ev_getC dX12_layRoom_1 fr_12_9 rfl rfl ?_
  refine ev_st dX12_layRoom_4 rfl rfl ?_
  refine ev_getC dX12_layRoom_5 fr_12_55 rfl rfl ?_
  refine ev_iconst (v := 0) dX12_layRoom_8 (by decide) ?_
  refine ev_call dX12_layRoom_9 rfl rfl mr_12_257 rfl rfl rfl ((by have K := c_lay_1_14 (I := I2) (J := J) (R := R2) (d := d + 95) (k := 0) (by decide); rw [hs.r 1 rfl, hs.r 14 rfl] at K; exact K)) ?_
  rintro _ _ ⟨rfl, rfl⟩
  show Ev lyM (d + 96) hX12_layRoom 12 [some (.ref 0)] [] (va_up I2 14 (m_tn (I 1) (I 14)), J, R2) _
  refine ev_st dX12_layRoom_12 rfl rfl ?_
  refine ev_getC dX12_layRoom_13 fr_12_55 rfl rfl ?_
  refine ev_bipush (v := 25) dX12_layRoom_16 (by decide) ?_
  refine ev_iconst (v := 0) dX12_layRoom_18 (by decide) ?_
  refine ev_iast (j := 25) dX12_layRoom_19 rfl rfl (by decide) (by decide) ?_
  rw [ti_wr_up]
  exact loop (c + 1) 0 _ (I 16) _ _ (by omega) (by omega) tkR0 (fun j h1 h2 => by omega) (by rw [va_up_id]; exact hs.up 14 rfl _)
