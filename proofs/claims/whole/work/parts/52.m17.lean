/-! the model: the widow -/
def cN (v : Nat) : Nat := v % 2 + v / 2 % 2 + v / 4 % 2 + v / 8 % 2 + v / 16 % 2 + v / 32 % 2 + v / 64 % 2 + v / 128 % 2
theorem cN_off : ∀ v, v < 256 → ∀ s, s < 8 → v / 2 ^ s % 2 = 1 → cN (v - 2 ^ s) + 1 = cN v ∧ nI v &&& (((1 : Int32) <<< (nI s &&& 31)) ^^^ (-1)) = nI (v - 2 ^ s) ∧ 2 ^ s ≤ v := by decide +kernel
theorem cN_0 : ∀ v, v < 256 → cN v = 0 → v = 0 := by decide +kernel
theorem cN_bc : ∀ v, v < 256 → bc (nI v) = nI (cN v) := by decide +kernel
abbrev St3 : Type := Int32 × (Nat → Int32) × (Nat → Int32)
def m_gwL (v : Nat) (rec : Nat → St3 → St3) : Nat → Nat → St3 → St3
  | 0, _, t => t
  | k + 1, s, t => m_gwL v rec k (s + 1) (if v / 2 ^ s % 2 = 1 then rec s t else t)
def m_cp (f g : Nat → Int32) (b : Nat) : Nat → Int32 := fun j => if j < b then f j else g j
theorem m_cp_s {f g : Nat → Int32} {b : Nat} : upd (m_cp f g b) b (f b) = m_cp f g (b + 1) := by
  funext j
  by_cases h : j = b
  · subst h; simp [upd, m_cp]
  · by_cases h2 : j < b
    · simp [upd, m_cp, h, h2, show j < b + 1 by omega]
    · simp [upd, m_cp, h, h2, show ¬ j < b + 1 by omega]
/-- the orders of those that are left, from place k on: the least harm, the best line, the line -/
def m_gw (sy : Nat → Int32) (a e ns : Nat) : Nat → Nat → Nat → Int32 → St3 → St3
  | 0, v, k, harm, t => if ¬ harm < t.1 then t else if v = 0 then (harm, m_cp t.2.2 t.2.1 k, t.2.2) else t
  | f + 1, v, k, harm, t => if ¬ harm < t.1 then t else if v = 0 then (harm, m_cp t.2.2 t.2.1 k, t.2.2) else
    m_gwL v (fun s u => m_gw sy a e ns f (v - 2 ^ s) (k + 1) (harm + (if a + k < e then 0 else sy (4 * s + 2))) (u.1, u.2.1, upd u.2.2 k (nI s))) ns 0 t
def yM (I I2 : Nat → Nat → Int32) : Prop := (∀ p, p ≠ 0 → p ≠ 17 → p ≠ 20 → I2 p = I p) ∧ (∀ k, k ≠ 35 → I2 0 k = I 0 k)
theorem yM.rf {I : Nat → Nat → Int32} : yM I I := ⟨fun _ _ _ _ => rfl, fun _ _ => rfl⟩
theorem yM.r {I I2 : Nat → Nat → Int32} (h : yM I I2) (p : Nat) (hp : (p == 0 || (p == 17 || p == 20)) = false) : I2 p = I p := by
  simp only [Bool.or_eq_false_iff, beq_eq_false_iff_ne] at hp
  exact h.1 p hp.1 hp.2.1 hp.2.2
theorem yM.f {I I2 : Nat → Nat → Int32} (h : yM I I2) (k : Nat) (hk : (k == 35) = false) : I2 0 k = I 0 k := h.2 k (by simpa using hk)
theorem yM.tr {I I2 I3 : Nat → Nat → Int32} (h : yM I I2) (g : yM I2 I3) : yM I I3 := ⟨fun p a b c => (g.1 p a b c).trans (h.1 p a b c), fun k a => (g.2 k a).trans (h.2 k a)⟩
theorem yM.x {I I2 : Nat → Nat → Int32} {R : Nat → Nat → Value} (h : yM I I2) : xM I R I2 R := ⟨fun p a _ _ _ _ _ _ b c => h.1 p a b c, fun k _ _ _ _ _ a _ => h.2 k a, rfl⟩
theorem yM.w17 {I I2 : Nat → Nat → Int32} (h : yM I I2) (k : Nat) (v : Int32) : yM I (ti_wr I2 17 k v) := ⟨fun p a b c => by rw [ti_wr_n b]; exact h.1 p a b c, fun k a => h.2 k a⟩
theorem yM.cp {I I2 : Nat → Nat → Int32} (h : yM I I2) (v : Int32) (g : Nat → Int32) : yM I (va_up (ti_wr I2 0 35 v) 20 g) := ⟨fun p a b c => by rw [va_up_n c, ti_wr_n a]; exact h.1 p a b c, fun k a => by rw [va_up_n (by decide)]; have := h.2 k a; simp [ti_wr, va_up, upd, a, this]⟩
def tW (I : Nat → Nat → Int32) : St3 := (I 0 35, I 20, I 17)
set_option maxHeartbeats 1000000 in
theorem c_gwC {I I2 : Nat → Nat → Int32} {J : Nat → Nat → Int64} {R : Nat → Nat → Value} {dd v k e : Nat} {harm : Int32} (hk6 : k ≤ 6) (hs2 : yM I I2) : ∀ (z b : Nat), b ≤ k → k - b < z → Ev lyM dd hX12_goWidow 21 [some (.ref 0), some (.int (nI v)), some (.int (nI k)), some (.int harm), some (.int (nI e)), some (.int (nI b))] [] (va_up (ti_wr I2 0 35 harm) 20 (m_cp (I2 17) (I2 20) b), J, R) (fun r M' => r = none ∧ ∃ I9, M' = (I9, J, R) ∧ yM I I9 ∧ tW I9 = (harm, m_cp (I2 17) (I2 20) k, I2 17)) := by
  intro z
  induction z with
  | zero => intro b h1 h2; omega
  | succ z ih =>
      intro b hb hz
      refine ev_st dX12_goWidow_21 rfl rfl ?_
      refine ev_st dX12_goWidow_23 rfl rfl ?_
      refine ev_ic_geN (t := 47) (a := b) (b := k) dX12_goWidow_24 (by decide) rfl rfl (by omega) (by omega) (fun c_24 => ?_) (fun c_24 => ?_)
      · exact ev_vret dX12_goWidow_47 rfl (⟨rfl, _, rfl, hs2.cp _ _, by rw [show b = k by omega]; rfl⟩)
      · refine ev_st dX12_goWidow_27 rfl rfl ?_
        refine ev_getC dX12_goWidow_28 fr_12_73 rfl rfl ?_
        refine ev_st dX12_goWidow_31 rfl rfl ?_
        refine ev_st dX12_goWidow_33 rfl rfl ?_
        refine ev_getC dX12_goWidow_34 fr_12_64 rfl rfl ?_
        refine ev_st dX12_goWidow_37 rfl rfl ?_
        refine ev_iald (j := b) (v := I2 17 b) dX12_goWidow_39 rfl rfl (by omega) (by decide) rfl ?_
        refine ev_iast (j := b) dX12_goWidow_40 rfl rfl (by omega) (by decide) ?_
        refine ev_iincN (a := b) (b := b + 1) (L' := [some (.ref 0), some (.int (nI v)), some (.int (nI k)), some (.int harm), some (.int (nI e)), some (.int (nI (b + 1)))]) dX12_goWidow_41 rfl (nI_1 _) rfl ?_
        refine ev_goto (t := 21) dX12_goWidow_44 (by decide) ?_
        rw [ti_wr_up, show I2 17 b = I2 17 b from rfl, m_cp_s]
        exact ih _ (by omega) (by omega)
theorem va_up_w35 {I : Nat → Nat → Int32} {v : Int32} : va_up (ti_wr I 0 35 v) 20 (I 20) = ti_wr I 0 35 v := by
  funext p j
  by_cases h : p = 20
  · subst h; simp [va_up, ti_wr]
  · simp [va_up, h]
set_option maxHeartbeats 1000000 in
theorem c_goWidow {I : Nat → Nat → Int32} {J : Nat → Nat → Int64} {R : Nat → Nat → Value} {d ns a e : Nat} (hns : I 0 6 = nI ns) (hns8 : ns ≤ 8) (ha : I 1 24 = nI a) (ha12 : a ≤ 12) (he : e ≤ 12) : ∀ (f v k : Nat) (harm : Int32) (I2 : Nat → Nat → Int32), v < 256 → cN v + k ≤ 6 → cN v ≤ f → yM I I2 → Cal lyM (d + f + 2) hX12_goWidow 6 [.ref 0, .int (nI v), .int (nI k), .int harm, .int (nI e)] (I2, J, R) (fun r M' => r = none ∧ ∃ I9, M' = (I9, J, R) ∧ yM I I9 ∧ tW I9 = m_gw (I 5) a e ns f v k harm (tW I2)) := by
  intro f
  induction f with
  | zero =>
    intro v k harm I2 hv hk6 hf hs2
    show Ev lyM (d + 0 + 2) hX12_goWidow 0 [some (.ref 0), some (.int (nI v)), some (.int (nI k)), some (.int harm), some (.int (nI e)), none] [] (I2, J, R) _
    refine ev_st dX12_goWidow_0 rfl rfl ?_
    refine ev_st dX12_goWidow_1 rfl rfl ?_
    refine ev_getI (v := I2 0 35) dX12_goWidow_2 fr_12_355 rfl rfl rfl ?_
    refine ev_ic_lt (t := 9) (x := harm) (y := I2 0 35) dX12_goWidow_5 (by decide) (fun c_5 => ?_) (fun c_5 => ?_)
    · refine ev_st dX12_goWidow_9 rfl rfl ?_
      refine ev_if_neN (t := 48) (a := v) dX12_goWidow_10 (by decide) rfl (by omega) (fun c_10 => ?_) (fun c_10 => ?_)
      · refine ev_iconst (v := 0) dX12_goWidow_48 (by decide) ?_
        refine ev_st (L' := [some (.ref 0), some (.int (nI v)), some (.int (nI k)), some (.int harm), some (.int (nI e)), some (.int 0)]) dX12_goWidow_49 rfl rfl ?_
        exact absurd (cN_0 v hv (by omega)) c_10
      · refine ev_st dX12_goWidow_13 rfl rfl ?_
        refine ev_st dX12_goWidow_14 rfl rfl ?_
        refine ev_putI dX12_goWidow_15 fr_12_355 rfl rfl ?_
        refine ev_iconst (v := 0) dX12_goWidow_18 (by decide) ?_
        refine ev_st (L' := [some (.ref 0), some (.int (nI v)), some (.int (nI k)), some (.int harm), some (.int (nI e)), some (.int 0)]) dX12_goWidow_19 rfl rfl ?_
        have K := c_gwC (J := J) (R := R) (dd := d + 0 + 2) (k := k) (v := v) (e := e) (harm := harm) (by omega) hs2 (k + 1) 0 (by omega) (by omega)
        rw [show m_cp (I2 17) (I2 20) 0 = I2 20 from by funext j; simp [m_cp], va_up_w35] at K
        refine Ev.imp K ?_
        rintro r M1 ⟨rfl, I9, rfl, h1, h2⟩
        exact ⟨rfl, _, rfl, h1, by rw [h2, m_gw, if_neg (fun q => q (show harm < (tW I2).1 from c_5)), if_pos c_10]; rfl⟩
    · exact ev_vret dX12_goWidow_8 rfl (⟨rfl, _, rfl, hs2, by rw [m_gw, if_pos (show ¬ harm < (tW I2).1 from c_5)]⟩)
  | succ f ih =>
    intro v k harm I2 hv hk6 hf hs2
    have loop : ∀ (z s : Nat) (I3 : Nat → Nat → Int32), s ≤ ns → ns - s < z → yM I I3 → Ev lyM (d + f + 2 + 1) hX12_goWidow 51 [some (.ref 0), some (.int (nI v)), some (.int (nI k)), some (.int harm), some (.int (nI e)), some (.int (nI s))] [] (I3, J, R) (fun r M' => r = none ∧ ∃ I9, M' = (I9, J, R) ∧ yM I I9 ∧ tW I9 = m_gwL v (fun s u => m_gw (I 5) a e ns f (v - 2 ^ s) (k + 1) (harm + (if a + k < e then 0 else I 5 (4 * s + 2))) (u.1, u.2.1, upd u.2.2 k (nI s))) (ns - s) s (tW I3)) := by
        intro z
        induction z with
        | zero => intro s I3 h1 h2; omega
        | succ z ih2 =>
          intro s I3 hsn hz hs3
          refine ev_st dX12_goWidow_51 rfl rfl ?_
          refine ev_st dX12_goWidow_53 rfl rfl ?_
          refine ev_getI (v := nI ns) dX12_goWidow_54 fr_12_102 rfl rfl ((hs3.f 6 rfl).trans hns) ?_
          refine ev_ic_geN (t := 134) (a := s) (b := ns) dX12_goWidow_57 (by decide) rfl rfl (by omega) (by omega) (fun c_57 => ?_) (fun c_57 => ?_)
          · exact ev_vret dX12_goWidow_134 rfl (⟨rfl, _, rfl, hs3, by rw [show ns - s = 0 by omega]; rfl⟩)
          · refine ev_st dX12_goWidow_60 rfl rfl ?_
            refine ev_st dX12_goWidow_61 rfl rfl ?_
            refine ev_call dX12_goWidow_63 rfl rfl mr_12_201 rfl rfl rfl ((by have K := c_has (lay := lyM) (M := (I3, J, R)) (d := d + f + 2) (nI v) (nI s); rw [has_kb, k_b_nI hv (by omega)] at K; exact K)) ?_
            rintro _ _ ⟨rfl, rfl⟩
            show Ev lyM (d + f + 2 + 1) hX12_goWidow 66 [some (.ref 0), some (.int (nI v)), some (.int (nI k)), some (.int harm), some (.int (nI e)), some (.int (nI s))] [.int (nI (v / 2 ^ s % 2))] (I3, J, R) _
            refine ev_if_neN (t := 72) (a := v / 2 ^ s % 2) dX12_goWidow_66 (by decide) rfl (by omega) (fun c_66 => ?_) (fun c_66 => ?_)
            · have cb : v / 2 ^ s % 2 = 1 := by omega
              have ck := (cN_off v hv s (by omega) cb).1
              refine ev_st dX12_goWidow_72 rfl rfl ?_
              refine ev_getC dX12_goWidow_73 fr_12_64 rfl rfl ?_
              refine ev_st dX12_goWidow_76 rfl rfl ?_
              refine ev_st dX12_goWidow_77 rfl rfl ?_
              refine ev_iast (j := k) dX12_goWidow_79 rfl rfl (by omega) (by decide) ?_
              refine ev_st dX12_goWidow_80 rfl rfl ?_
              refine ev_st dX12_goWidow_81 rfl rfl ?_
              refine ev_iconst (v := 1) dX12_goWidow_82 (by decide) ?_
              refine ev_st dX12_goWidow_83 rfl rfl ?_
              refine ev_st dX12_goWidow_85 rfl rfl ?_
              refine ev_iconst (v := -1) dX12_goWidow_86 (by decide) ?_
              refine ev_st dX12_goWidow_87 rfl rfl ?_
              refine ev_st dX12_goWidow_88 rfl rfl ?_
              refine ev_st dX12_goWidow_89 rfl rfl ?_
              refine ev_iconst (v := 1) dX12_goWidow_90 (by decide) ?_
              refine ev_iaddN (a := k) (b := 1) (c := k + 1) dX12_goWidow_91 rfl rfl rfl ?_
              refine ev_st dX12_goWidow_92 rfl rfl ?_
              refine ev_st dX12_goWidow_93 rfl rfl ?_
              refine ev_getC dX12_goWidow_94 fr_12_9 rfl rfl ?_
              refine ev_bipush (v := 24) dX12_goWidow_97 (by decide) ?_
              refine ev_iald (j := 24) (v := nI a) dX12_goWidow_99 rfl rfl (by decide) (by decide) ((congrFun (hs3.r 1 rfl) 24).trans ha) ?_
              refine ev_st dX12_goWidow_100 rfl rfl ?_
              refine ev_iaddN (a := a) (b := k) (c := a + k) dX12_goWidow_101 rfl rfl rfl ?_
              refine ev_st dX12_goWidow_102 rfl rfl ?_
              refine ev_ic_ltN (t := 121) (a := a + k) (b := e) dX12_goWidow_104 (by decide) rfl rfl (by omega) (by omega) (fun c_104 => ?_) (fun c_104 => ?_)
              · refine ev_iconst (v := 0) dX12_goWidow_121 (by decide) ?_
                refine ev_st dX12_goWidow_122 rfl rfl ?_
                refine ev_st dX12_goWidow_123 rfl rfl ?_
                refine ev_call dX12_goWidow_125 rfl rfl mr_12_358 rfl rfl rfl ((by have K := ih (v - 2 ^ s) (k + 1) (harm + (if a + k < e then 0 else I 5 (4 * s + 2))) _ (Nat.lt_of_le_of_lt (Nat.sub_le _ _) hv) (by omega) (by omega) (hs3.w17 k (nI s)); rw [if_pos c_104, ← (cN_off v hv s (by omega) cb).2.1] at K; exact K)) ?_
                rintro _ _ ⟨rfl, I4, rfl, hs4, ht4⟩
                show Ev lyM (d + f + 2 + 1) hX12_goWidow 128 [some (.ref 0), some (.int (nI v)), some (.int (nI k)), some (.int harm), some (.int (nI e)), some (.int (nI s))] [] (I4, J, R) _
                refine ev_iincN (a := s) (b := s + 1) (L' := [some (.ref 0), some (.int (nI v)), some (.int (nI k)), some (.int harm), some (.int (nI e)), some (.int (nI (s + 1)))]) dX12_goWidow_128 rfl (nI_1 _) rfl ?_
                refine ev_goto (t := 51) dX12_goWidow_131 (by decide) ?_
                have K := ih2 (s + 1) I4 (by omega) (by omega) hs4
                rw [show ns - s = (ns - (s + 1)) + 1 by omega]
                simp only [m_gwL]
                rw [if_pos cb, show m_gw (I 5) a e ns f (v - 2 ^ s) (k + 1) (harm + (if a + k < e then 0 else I 5 (4 * s + 2))) ((tW I3).1, (tW I3).2.1, upd (tW I3).2.2 k (nI s)) = tW I4 by rw [ht4, if_pos c_104]; rfl]
                exact K
              · refine ev_st dX12_goWidow_107 rfl rfl ?_
                refine ev_getC dX12_goWidow_108 fr_12_26 rfl rfl ?_
                refine ev_iconst (v := 4) dX12_goWidow_111 (by decide) ?_
                refine ev_st dX12_goWidow_112 rfl rfl ?_
                refine ev_imulN (a := 4) (b := s) (c := 4 * s) dX12_goWidow_114 rfl rfl rfl ?_
                refine ev_iconst (v := 2) dX12_goWidow_115 (by decide) ?_
                refine ev_iaddN (a := 4 * s) (b := 2) (c := 4 * s + 2) dX12_goWidow_116 rfl rfl rfl ?_
                refine ev_iald (j := 4 * s + 2) (v := I 5 (4 * s + 2)) dX12_goWidow_117 rfl rfl (by omega) (by decide) (congrFun (hs3.r 5 rfl) (4 * s + 2)) ?_
                refine ev_goto (t := 122) dX12_goWidow_118 (by decide) ?_
                refine ev_st dX12_goWidow_122 rfl rfl ?_
                refine ev_st dX12_goWidow_123 rfl rfl ?_
                refine ev_call dX12_goWidow_125 rfl rfl mr_12_358 rfl rfl rfl ((by have K := ih (v - 2 ^ s) (k + 1) (harm + (if a + k < e then 0 else I 5 (4 * s + 2))) _ (Nat.lt_of_le_of_lt (Nat.sub_le _ _) hv) (by omega) (by omega) (hs3.w17 k (nI s)); rw [if_neg (Nat.not_lt.mpr c_104), ← (cN_off v hv s (by omega) cb).2.1] at K; exact K)) ?_
                rintro _ _ ⟨rfl, I4, rfl, hs4, ht4⟩
                show Ev lyM (d + f + 2 + 1) hX12_goWidow 128 [some (.ref 0), some (.int (nI v)), some (.int (nI k)), some (.int harm), some (.int (nI e)), some (.int (nI s))] [] (I4, J, R) _
                refine ev_iincN (a := s) (b := s + 1) (L' := [some (.ref 0), some (.int (nI v)), some (.int (nI k)), some (.int harm), some (.int (nI e)), some (.int (nI (s + 1)))]) dX12_goWidow_128 rfl (nI_1 _) rfl ?_
                refine ev_goto (t := 51) dX12_goWidow_131 (by decide) ?_
                have K := ih2 (s + 1) I4 (by omega) (by omega) hs4
                rw [show ns - s = (ns - (s + 1)) + 1 by omega]
                simp only [m_gwL]
                rw [if_pos cb, show m_gw (I 5) a e ns f (v - 2 ^ s) (k + 1) (harm + (if a + k < e then 0 else I 5 (4 * s + 2))) ((tW I3).1, (tW I3).2.1, upd (tW I3).2.2 k (nI s)) = tW I4 by rw [ht4, if_neg (Nat.not_lt.mpr c_104)]; rfl]
                exact K
            · refine ev_goto (t := 128) dX12_goWidow_69 (by decide) ?_
              refine ev_iincN (a := s) (b := s + 1) (L' := [some (.ref 0), some (.int (nI v)), some (.int (nI k)), some (.int harm), some (.int (nI e)), some (.int (nI (s + 1)))]) dX12_goWidow_128 rfl (nI_1 _) rfl ?_
              refine ev_goto (t := 51) dX12_goWidow_131 (by decide) ?_
              have K := ih2 (s + 1) I3 (by omega) (by omega) hs3
              rw [show ns - s = (ns - (s + 1)) + 1 by omega]
              simp only [m_gwL]
              rw [if_neg (by omega)]
              exact K
    show Ev lyM (d + f + 2 + 1) hX12_goWidow 0 [some (.ref 0), some (.int (nI v)), some (.int (nI k)), some (.int harm), some (.int (nI e)), none] [] (I2, J, R) _
    refine ev_st dX12_goWidow_0 rfl rfl ?_
    refine ev_st dX12_goWidow_1 rfl rfl ?_
    refine ev_getI (v := I2 0 35) dX12_goWidow_2 fr_12_355 rfl rfl rfl ?_
    refine ev_ic_lt (t := 9) (x := harm) (y := I2 0 35) dX12_goWidow_5 (by decide) (fun c_5 => ?_) (fun c_5 => ?_)
    · refine ev_st dX12_goWidow_9 rfl rfl ?_
      refine ev_if_neN (t := 48) (a := v) dX12_goWidow_10 (by decide) rfl (by omega) (fun c_10 => ?_) (fun c_10 => ?_)
      · refine ev_iconst (v := 0) dX12_goWidow_48 (by decide) ?_
        refine ev_st (L' := [some (.ref 0), some (.int (nI v)), some (.int (nI k)), some (.int harm), some (.int (nI e)), some (.int 0)]) dX12_goWidow_49 rfl rfl ?_
        rw [m_gw, if_neg (fun q => q (show harm < (tW I2).1 from c_5)), if_neg c_10]
        exact loop (ns + 1) 0 I2 (by omega) (by omega) hs2
      · refine ev_st dX12_goWidow_13 rfl rfl ?_
        refine ev_st dX12_goWidow_14 rfl rfl ?_
        refine ev_putI dX12_goWidow_15 fr_12_355 rfl rfl ?_
        refine ev_iconst (v := 0) dX12_goWidow_18 (by decide) ?_
        refine ev_st (L' := [some (.ref 0), some (.int (nI v)), some (.int (nI k)), some (.int harm), some (.int (nI e)), some (.int 0)]) dX12_goWidow_19 rfl rfl ?_
        have K := c_gwC (J := J) (R := R) (dd := d + f + 2 + 1) (k := k) (v := v) (e := e) (harm := harm) (by omega) hs2 (k + 1) 0 (by omega) (by omega)
        rw [show m_cp (I2 17) (I2 20) 0 = I2 20 from by funext j; simp [m_cp], va_up_w35] at K
        refine Ev.imp K ?_
        rintro r M1 ⟨rfl, I9, rfl, h1, h2⟩
        exact ⟨rfl, _, rfl, h1, by rw [h2, m_gw, if_neg (fun q => q (show harm < (tW I2).1 from c_5)), if_pos c_10]; rfl⟩
    · exact ev_vret dX12_goWidow_8 rfl (⟨rfl, _, rfl, hs2, by rw [m_gw, if_pos (show ¬ harm < (tW I2).1 from c_5)]⟩)
theorem c_widow1 {I : Nat → Nat → Int32} {J : Nat → Nat → Int64} {R : Nat → Nat → Value} {d ns : Nat} (hns : I 0 6 = nI ns) (hns8 : ns ≤ 8) {x y : Int32} (hx : ¬ ((ix (2 ^ ns) x).isSome = true ∧ m_in y 0 12 = 1)) : Cal lyM (d + 10) hX12_widow 5 [.ref 0, .int x, .int y] (I, J, R) (fun r M' => r = some (.int (-1)) ∧ M' = (ti_wr I 0 12 0, J, R)) := by
  show Ev lyM (d + 10) hX12_widow 0 [some (.ref 0), some (.int x), some (.int y), none, none] [] (I, J, R) _
  refine ev_st dX12_widow_0 rfl rfl ?_
  refine ev_iconst (v := 0) dX12_widow_1 (by decide) ?_
  refine ev_putI dX12_widow_2 fr_12_89 rfl rfl ?_
  refine ev_st dX12_widow_5 rfl rfl ?_
  refine ev_st dX12_widow_6 rfl rfl ?_
  refine ev_call dX12_widow_7 rfl rfl mr_12_333 rfl rfl rfl (c_areS (I := ti_wr I 0 12 0) hns hns8 x) ?_
  rintro _ _ ⟨rfl, rfl⟩
  show Ev lyM (d + 10) hX12_widow 10 [some (.ref 0), some (.int x), some (.int y), none, none] [.int (if (ix (2 ^ ns) x).isSome then 1 else 0)] (ti_wr I 0 12 0, J, R) _
  refine ev_if_eq (t := 23) (x := if (ix (2 ^ ns) x).isSome then 1 else 0) dX12_widow_10 (by decide) (fun c_10 => ?_) (fun c_10 => ?_)
  · refine ev_iconst (v := -1) dX12_widow_23 (by decide) ?_
    exact ev_iret dX12_widow_24 rfl (⟨rfl, rfl⟩)
  · refine ev_st dX12_widow_13 rfl rfl ?_
    refine ev_iconst (v := 0) dX12_widow_14 (by decide) ?_
    refine ev_bipush (v := 12) dX12_widow_15 (by decide) ?_
    refine ev_call dX12_widow_17 rfl rfl mr_12_98 rfl rfl rfl (c_in y 0 12) ?_
    rintro _ _ ⟨rfl, rfl⟩
    show Ev lyM (d + 10) hX12_widow 20 [some (.ref 0), some (.int x), some (.int y), none, none] [.int (m_in y 0 12)] (ti_wr I 0 12 0, J, R) _
    refine ev_if_ne (t := 25) (x := m_in y 0 12) dX12_widow_20 (by decide) (fun c_20 => ?_) (fun c_20 => ?_)
    · exact absurd ⟨if01 c_10, m_in1 c_20⟩ hx
    · refine ev_iconst (v := -1) dX12_widow_23 (by decide) ?_
      exact ev_iret dX12_widow_24 rfl (⟨rfl, rfl⟩)
theorem in12 {e : Nat} (he : e ≤ 12) : m_in (nI e) 0 12 = 1 := by rw [show (12 : Int32) = nI 12 from rfl, ix_inC (by decide), ix_nI (by decide) (by omega)]; rfl
theorem wv256 {ns v : Nat} (hns8 : ns ≤ 8) (hv : v < 2 ^ ns) : v < 256 := Nat.lt_of_lt_of_le hv (Nat.pow_le_pow_right (by decide) hns8)
theorem areOk {ns v : Nat} (hns8 : ns ≤ 8) (hv : v < 2 ^ ns) : ix (2 ^ ns) (nI v) = some v := ix_nI (Nat.lt_of_le_of_lt (Nat.pow_le_pow_right (by decide) hns8) (by decide : 2 ^ 8 < 2 ^ 31)) hv
theorem cN_8 : ∀ v, v < 256 → cN v ≤ 8 := by decide +kernel
theorem c_widow3 {I : Nat → Nat → Int32} {J : Nat → Nat → Int64} {R : Nat → Nat → Value} {d ns c a v e : Nat} (hns : I 0 6 = nI ns) (hns8 : ns ≤ 8) (hc : I 0 1 = nI c) (hc12 : c ≤ 12) (ha : I 1 24 = nI a) (hac : a ≤ c) (hv : v < 2 ^ ns) (he : e ≤ 12) (h3 : 6 < cN v ∨ ¬ nI v &&& (m_bt (fun s => I 1 (16 + s)) ns) = 0) : Cal lyM (d + 10) hX12_widow 5 [.ref 0, .int (nI v), .int (nI e)] (I, J, R) (fun r M' => r = some (.int (-3)) ∧ M' = (ti_wr I 0 12 0, J, R)) := by
  have hv2 := wv256 hns8 hv
  have h8 := cN_8 v hv2
  show Ev lyM (d + 10) hX12_widow 0 [some (.ref 0), some (.int (nI v)), some (.int (nI e)), none, none] [] (I, J, R) _
  refine ev_st dX12_widow_0 rfl rfl ?_
  refine ev_iconst (v := 0) dX12_widow_1 (by decide) ?_
  refine ev_putI dX12_widow_2 fr_12_89 rfl rfl ?_
  refine ev_st dX12_widow_5 rfl rfl ?_
  refine ev_st dX12_widow_6 rfl rfl ?_
  refine ev_call dX12_widow_7 rfl rfl mr_12_333 rfl rfl rfl ((by have K := c_areS (I := ti_wr I 0 12 0) (J := J) (R := R) (d := d + 8) hns hns8 (nI v); rw [areOk hns8 hv] at K; exact K)) ?_
  rintro _ _ ⟨rfl, rfl⟩
  show Ev lyM (d + 10) hX12_widow 10 [some (.ref 0), some (.int (nI v)), some (.int (nI e)), none, none] [.int 1] (ti_wr I 0 12 0, J, R) _
  refine ev_if_eq (t := 23) dX12_widow_10 (by decide) (fun q => absurd q (by decide)) (fun _ => ?_)
  refine ev_st dX12_widow_13 rfl rfl ?_
  refine ev_iconst (v := 0) dX12_widow_14 (by decide) ?_
  refine ev_bipush (v := 12) dX12_widow_15 (by decide) ?_
  refine ev_call dX12_widow_17 rfl rfl mr_12_98 rfl rfl rfl (c_in1 (in12 he)) ?_
  rintro _ _ ⟨rfl, rfl⟩
  show Ev lyM (d + 10) hX12_widow 20 [some (.ref 0), some (.int (nI v)), some (.int (nI e)), none, none] [.int 1] (ti_wr I 0 12 0, J, R) _
  refine ev_if_ne (t := 25) dX12_widow_20 (by decide) (fun _ => ?_) (fun q => absurd q (by decide))
  refine ev_st dX12_widow_25 rfl rfl ?_
  refine ev_call dX12_widow_26 rfl rfl mr_12_214 rfl rfl rfl ((by have K := c_bc (lay := lyM) (M := (ti_wr I 0 12 0, J, R)) (d := d + 9) (nI v); rw [cN_bc v hv2] at K; exact K)) ?_
  rintro _ _ ⟨rfl, rfl⟩
  show Ev lyM (d + 10) hX12_widow 29 [some (.ref 0), some (.int (nI v)), some (.int (nI e)), none, none] [.int (nI (cN v))] (ti_wr I 0 12 0, J, R) _
  refine ev_st (L' := [some (.ref 0), some (.int (nI v)), some (.int (nI e)), some (.int (nI (cN v))), none]) dX12_widow_29 rfl rfl ?_
  refine ev_st dX12_widow_30 rfl rfl ?_
  refine ev_bipush (v := 6) dX12_widow_31 (by decide) ?_
  refine ev_ic_gtN (t := 45) (a := cN v) (b := 6) dX12_widow_33 (by decide) rfl rfl (by omega) (by omega) (fun c_33 => ?_) (fun c_33 => ?_)
  · refine ev_bipush (v := -3) dX12_widow_45 (by decide) ?_
    exact ev_iret dX12_widow_47 rfl (⟨rfl, rfl⟩)
  · refine ev_st dX12_widow_36 rfl rfl ?_
    refine ev_st dX12_widow_37 rfl rfl ?_
    refine ev_call dX12_widow_38 rfl rfl mr_12_323 rfl rfl rfl (c_saidBits (I := ti_wr I 0 12 0) hns hns8) ?_
    rintro _ _ ⟨rfl, rfl⟩
    show Ev lyM (d + 10) hX12_widow 41 [some (.ref 0), some (.int (nI v)), some (.int (nI e)), some (.int (nI (cN v))), none] [.int (m_bt (fun s => I 1 (16 + s)) ns), .int (nI v)] (ti_wr I 0 12 0, J, R) _
    refine ev_st dX12_widow_41 rfl rfl ?_
    refine ev_if_eq (t := 48) (x := (nI v) &&& (m_bt (fun s => I 1 (16 + s)) ns)) dX12_widow_42 (by decide) (fun c_42 => ?_) (fun c_42 => ?_)
    · exact absurd h3 (fun q => q.elim (by omega) (fun z => z c_42))
    · refine ev_bipush (v := -3) dX12_widow_45 (by decide) ?_
      exact ev_iret dX12_widow_47 rfl (⟨rfl, rfl⟩)
theorem c_widow2 {I : Nat → Nat → Int32} {J : Nat → Nat → Int64} {R : Nat → Nat → Value} {d ns c a v e : Nat} (hns : I 0 6 = nI ns) (hns8 : ns ≤ 8) (hc : I 0 1 = nI c) (hc12 : c ≤ 12) (ha : I 1 24 = nI a) (hac : a ≤ c) (hv : v < 2 ^ ns) (he : e ≤ 12) (h3 : cN v ≤ 6) (h4 : nI v &&& (m_bt (fun s => I 1 (16 + s)) ns) = 0) (h2 : c < cN v + a) : Cal lyM (d + 10) hX12_widow 5 [.ref 0, .int (nI v), .int (nI e)] (I, J, R) (fun r M' => r = some (.int (-2)) ∧ M' = (ti_wr I 0 12 0, J, R)) := by
  have hv2 := wv256 hns8 hv
  have h8 := cN_8 v hv2
  show Ev lyM (d + 10) hX12_widow 0 [some (.ref 0), some (.int (nI v)), some (.int (nI e)), none, none] [] (I, J, R) _
  refine ev_st dX12_widow_0 rfl rfl ?_
  refine ev_iconst (v := 0) dX12_widow_1 (by decide) ?_
  refine ev_putI dX12_widow_2 fr_12_89 rfl rfl ?_
  refine ev_st dX12_widow_5 rfl rfl ?_
  refine ev_st dX12_widow_6 rfl rfl ?_
  refine ev_call dX12_widow_7 rfl rfl mr_12_333 rfl rfl rfl ((by have K := c_areS (I := ti_wr I 0 12 0) (J := J) (R := R) (d := d + 8) hns hns8 (nI v); rw [areOk hns8 hv] at K; exact K)) ?_
  rintro _ _ ⟨rfl, rfl⟩
  show Ev lyM (d + 10) hX12_widow 10 [some (.ref 0), some (.int (nI v)), some (.int (nI e)), none, none] [.int 1] (ti_wr I 0 12 0, J, R) _
  refine ev_if_eq (t := 23) dX12_widow_10 (by decide) (fun q => absurd q (by decide)) (fun _ => ?_)
  refine ev_st dX12_widow_13 rfl rfl ?_
  refine ev_iconst (v := 0) dX12_widow_14 (by decide) ?_
  refine ev_bipush (v := 12) dX12_widow_15 (by decide) ?_
  refine ev_call dX12_widow_17 rfl rfl mr_12_98 rfl rfl rfl (c_in1 (in12 he)) ?_
  rintro _ _ ⟨rfl, rfl⟩
  show Ev lyM (d + 10) hX12_widow 20 [some (.ref 0), some (.int (nI v)), some (.int (nI e)), none, none] [.int 1] (ti_wr I 0 12 0, J, R) _
  refine ev_if_ne (t := 25) dX12_widow_20 (by decide) (fun _ => ?_) (fun q => absurd q (by decide))
  refine ev_st dX12_widow_25 rfl rfl ?_
  refine ev_call dX12_widow_26 rfl rfl mr_12_214 rfl rfl rfl ((by have K := c_bc (lay := lyM) (M := (ti_wr I 0 12 0, J, R)) (d := d + 9) (nI v); rw [cN_bc v hv2] at K; exact K)) ?_
  rintro _ _ ⟨rfl, rfl⟩
  show Ev lyM (d + 10) hX12_widow 29 [some (.ref 0), some (.int (nI v)), some (.int (nI e)), none, none] [.int (nI (cN v))] (ti_wr I 0 12 0, J, R) _
  refine ev_st (L' := [some (.ref 0), some (.int (nI v)), some (.int (nI e)), some (.int (nI (cN v))), none]) dX12_widow_29 rfl rfl ?_
  refine ev_st dX12_widow_30 rfl rfl ?_
  refine ev_bipush (v := 6) dX12_widow_31 (by decide) ?_
  refine ev_ic_gtN (t := 45) (a := cN v) (b := 6) dX12_widow_33 (by decide) rfl rfl (by omega) (by omega) (fun c_33 => ?_) (fun c_33 => ?_)
  · omega
  · refine ev_st dX12_widow_36 rfl rfl ?_
    refine ev_st dX12_widow_37 rfl rfl ?_
    refine ev_call dX12_widow_38 rfl rfl mr_12_323 rfl rfl rfl (c_saidBits (I := ti_wr I 0 12 0) hns hns8) ?_
    rintro _ _ ⟨rfl, rfl⟩
    show Ev lyM (d + 10) hX12_widow 41 [some (.ref 0), some (.int (nI v)), some (.int (nI e)), some (.int (nI (cN v))), none] [.int (m_bt (fun s => I 1 (16 + s)) ns), .int (nI v)] (ti_wr I 0 12 0, J, R) _
    refine ev_st dX12_widow_41 rfl rfl ?_
    refine ev_if_eq (t := 48) (x := (nI v) &&& (m_bt (fun s => I 1 (16 + s)) ns)) dX12_widow_42 (by decide) (fun c_42 => ?_) (fun c_42 => ?_)
    · refine ev_st dX12_widow_48 rfl rfl ?_
      refine ev_st dX12_widow_49 rfl rfl ?_
      refine ev_getI (v := nI c) dX12_widow_50 fr_12_13 rfl rfl hc ?_
      refine ev_st dX12_widow_53 rfl rfl ?_
      refine ev_getC dX12_widow_54 fr_12_9 rfl rfl ?_
      refine ev_bipush (v := 24) dX12_widow_57 (by decide) ?_
      refine ev_iald (j := 24) (v := nI a) dX12_widow_59 rfl rfl (by decide) (by decide) ha ?_
      refine ev_isubN (a := c) (b := a) (c := c - a) dX12_widow_60 rfl rfl hac rfl ?_
      refine ev_ic_leN (t := 67) (a := cN v) (b := c - a) dX12_widow_61 (by decide) rfl rfl (by omega) (by omega) (fun c_61 => ?_) (fun c_61 => ?_)
      · omega
      · refine ev_bipush (v := -2) dX12_widow_64 (by decide) ?_
        exact ev_iret dX12_widow_66 rfl (⟨rfl, rfl⟩)
    · exact absurd h4 c_42
set_option maxHeartbeats 1000000 in
theorem c_widow {I : Nat → Nat → Int32} {J : Nat → Nat → Int64} {R : Nat → Nat → Value} {d ns c a v e : Nat} (hns : I 0 6 = nI ns) (hns8 : ns ≤ 8) (hc : I 0 1 = nI c) (hc12 : c ≤ 12) (ha : I 1 24 = nI a) (hac : a ≤ c) (hv : v < 2 ^ ns) (he : e ≤ 12) (h3 : cN v ≤ 6) (h4 : nI v &&& (m_bt (fun s => I 1 (16 + s)) ns) = 0) (h2 : cN v + a ≤ c) : Cal lyM (d + 10) hX12_widow 5 [.ref 0, .int (nI v), .int (nI e)] (I, J, R) (fun r M' => r = some (.int (m_gw (I 5) a e ns 6 v 0 0 (1000000, I 20, I 17)).1) ∧ ∃ I9, M' = (I9, wl7 (m_gw (I 5) a e ns 6 v 0 0 (1000000, I 20, I 17)).2.1 J (cN v), R) ∧ xM (ti_wr (ti_wr I 0 12 0) 0 11 (nI (cN v))) R I9 R) := by
  have hv2 := wv256 hns8 hv
  have h8 := cN_8 v hv2
  show Ev lyM (d + 10) hX12_widow 0 [some (.ref 0), some (.int (nI v)), some (.int (nI e)), none, none] [] (I, J, R) _
  refine ev_st dX12_widow_0 rfl rfl ?_
  refine ev_iconst (v := 0) dX12_widow_1 (by decide) ?_
  refine ev_putI dX12_widow_2 fr_12_89 rfl rfl ?_
  refine ev_st dX12_widow_5 rfl rfl ?_
  refine ev_st dX12_widow_6 rfl rfl ?_
  refine ev_call dX12_widow_7 rfl rfl mr_12_333 rfl rfl rfl ((by have K := c_areS (I := ti_wr I 0 12 0) (J := J) (R := R) (d := d + 8) hns hns8 (nI v); rw [areOk hns8 hv] at K; exact K)) ?_
  rintro _ _ ⟨rfl, rfl⟩
  show Ev lyM (d + 10) hX12_widow 10 [some (.ref 0), some (.int (nI v)), some (.int (nI e)), none, none] [.int 1] (ti_wr I 0 12 0, J, R) _
  refine ev_if_eq (t := 23) dX12_widow_10 (by decide) (fun q => absurd q (by decide)) (fun _ => ?_)
  refine ev_st dX12_widow_13 rfl rfl ?_
  refine ev_iconst (v := 0) dX12_widow_14 (by decide) ?_
  refine ev_bipush (v := 12) dX12_widow_15 (by decide) ?_
  refine ev_call dX12_widow_17 rfl rfl mr_12_98 rfl rfl rfl (c_in1 (in12 he)) ?_
  rintro _ _ ⟨rfl, rfl⟩
  show Ev lyM (d + 10) hX12_widow 20 [some (.ref 0), some (.int (nI v)), some (.int (nI e)), none, none] [.int 1] (ti_wr I 0 12 0, J, R) _
  refine ev_if_ne (t := 25) dX12_widow_20 (by decide) (fun _ => ?_) (fun q => absurd q (by decide))
  refine ev_st dX12_widow_25 rfl rfl ?_
  refine ev_call dX12_widow_26 rfl rfl mr_12_214 rfl rfl rfl ((by have K := c_bc (lay := lyM) (M := (ti_wr I 0 12 0, J, R)) (d := d + 9) (nI v); rw [cN_bc v hv2] at K; exact K)) ?_
  rintro _ _ ⟨rfl, rfl⟩
  show Ev lyM (d + 10) hX12_widow 29 [some (.ref 0), some (.int (nI v)), some (.int (nI e)), none, none] [.int (nI (cN v))] (ti_wr I 0 12 0, J, R) _
  refine ev_st (L' := [some (.ref 0), some (.int (nI v)), some (.int (nI e)), some (.int (nI (cN v))), none]) dX12_widow_29 rfl rfl ?_
  refine ev_st dX12_widow_30 rfl rfl ?_
  refine ev_bipush (v := 6) dX12_widow_31 (by decide) ?_
  refine ev_ic_gtN (t := 45) (a := cN v) (b := 6) dX12_widow_33 (by decide) rfl rfl (by omega) (by omega) (fun c_33 => ?_) (fun c_33 => ?_)
  · omega
  · refine ev_st dX12_widow_36 rfl rfl ?_
    refine ev_st dX12_widow_37 rfl rfl ?_
    refine ev_call dX12_widow_38 rfl rfl mr_12_323 rfl rfl rfl (c_saidBits (I := ti_wr I 0 12 0) hns hns8) ?_
    rintro _ _ ⟨rfl, rfl⟩
    show Ev lyM (d + 10) hX12_widow 41 [some (.ref 0), some (.int (nI v)), some (.int (nI e)), some (.int (nI (cN v))), none] [.int (m_bt (fun s => I 1 (16 + s)) ns), .int (nI v)] (ti_wr I 0 12 0, J, R) _
    refine ev_st dX12_widow_41 rfl rfl ?_
    refine ev_if_eq (t := 48) (x := (nI v) &&& (m_bt (fun s => I 1 (16 + s)) ns)) dX12_widow_42 (by decide) (fun c_42 => ?_) (fun c_42 => ?_)
    · refine ev_st dX12_widow_48 rfl rfl ?_
      refine ev_st dX12_widow_49 rfl rfl ?_
      refine ev_getI (v := nI c) dX12_widow_50 fr_12_13 rfl rfl hc ?_
      refine ev_st dX12_widow_53 rfl rfl ?_
      refine ev_getC dX12_widow_54 fr_12_9 rfl rfl ?_
      refine ev_bipush (v := 24) dX12_widow_57 (by decide) ?_
      refine ev_iald (j := 24) (v := nI a) dX12_widow_59 rfl rfl (by decide) (by decide) ha ?_
      refine ev_isubN (a := c) (b := a) (c := c - a) dX12_widow_60 rfl rfl hac rfl ?_
      refine ev_ic_leN (t := 67) (a := cN v) (b := c - a) dX12_widow_61 (by decide) rfl rfl (by omega) (by omega) (fun c_61 => ?_) (fun c_61 => ?_)
      · refine ev_st dX12_widow_67 rfl rfl ?_
        refine ev_ldcw (v := 1000000) dX12_widow_68 rfl ?_
        refine ev_putI dX12_widow_71 fr_12_355 rfl rfl ?_
        refine ev_st dX12_widow_74 rfl rfl ?_
        refine ev_st dX12_widow_75 rfl rfl ?_
        refine ev_iconst (v := 0) dX12_widow_76 (by decide) ?_
        refine ev_iconst (v := 0) dX12_widow_77 (by decide) ?_
        refine ev_st dX12_widow_78 rfl rfl ?_
        refine ev_call dX12_widow_79 rfl rfl mr_12_358 rfl rfl rfl (Cal.mono (by omega) (c_goWidow (I := ti_wr I 0 12 0) (J := J) (R := R) (d := d) hns hns8 ha (by omega) he 6 v 0 0 (ti_wr (ti_wr I 0 12 0) 0 35 1000000) hv2 (by omega) h3 ⟨fun p a b c => by rw [ti_wr_n a], fun k a => by simp [ti_wr, va_up, upd, a]⟩)) ?_
        rintro _ _ ⟨rfl, I4, rfl, hs4, ht4⟩
        show Ev lyM (d + 10) hX12_widow 82 [some (.ref 0), some (.int (nI v)), some (.int (nI e)), some (.int (nI (cN v))), none] [] (I4, J, R) _
        refine ev_st dX12_widow_82 rfl rfl ?_
        refine ev_iconst (v := 0) dX12_widow_83 (by decide) ?_
        refine ev_putI dX12_widow_84 fr_12_92 rfl rfl ?_
        refine ev_iconst (v := 0) dX12_widow_87 (by decide) ?_
        refine ev_st (L' := [some (.ref 0), some (.int (nI v)), some (.int (nI e)), some (.int (nI (cN v))), some (.int 0)]) dX12_widow_88 rfl rfl ?_
        have ht5 : tW I4 = m_gw (I 5) a e ns 6 v 0 0 (1000000, I 20, I 17) := ht4
        have e35 : I4 0 35 = (m_gw (I 5) a e ns 6 v 0 0 (1000000, I 20, I 17)).1 := congrArg (fun z => z.1) ht5
        have e20 : I4 20 = (m_gw (I 5) a e ns 6 v 0 0 (1000000, I 20, I 17)).2.1 := congrArg (fun z => z.2.1) ht5
        have loop : ∀ (k b : Nat), b ≤ cN v → cN v - b < k → Ev lyM (d + 10) hX12_widow 90 [some (.ref 0), some (.int (nI v)), some (.int (nI e)), some (.int (nI (cN v))), some (.int (nI b))] [] (ti_wr I4 0 11 (nI b), wl7 (I4 20) J b, R) (fun r M' => r = some (.int (m_gw (I 5) a e ns 6 v 0 0 (1000000, I 20, I 17)).1) ∧ ∃ I9, M' = (I9, wl7 (m_gw (I 5) a e ns 6 v 0 0 (1000000, I 20, I 17)).2.1 J (cN v), R) ∧ xM (ti_wr (ti_wr I 0 12 0) 0 11 (nI (cN v))) R I9 R) := by
            intro k
            induction k with
            | zero => intro b h1 h2; omega
            | succ k ih =>
              intro b hb hk
              refine ev_st dX12_widow_90 rfl rfl ?_
              refine ev_st dX12_widow_92 rfl rfl ?_
              refine ev_ic_geN (t := 114) (a := b) (b := cN v) dX12_widow_93 (by decide) rfl rfl (by omega) (by omega) (fun c_93 => ?_) (fun c_93 => ?_)
              · refine ev_st dX12_widow_114 rfl rfl ?_
                refine ev_getI (v := I4 0 35) dX12_widow_115 fr_12_355 rfl rfl rfl ?_
                exact ev_iret dX12_widow_118 rfl (⟨by rw [← e35], _, by rw [← e20, show b = cN v by omega], hs4.x.wr 0 11 _⟩)
              · refine ev_st dX12_widow_96 rfl rfl ?_
                refine ev_st dX12_widow_97 rfl rfl ?_
                refine ev_getC dX12_widow_98 fr_12_73 rfl rfl ?_
                refine ev_st dX12_widow_101 rfl rfl ?_
                refine ev_iald (j := b) (v := I4 20 b) dX12_widow_103 rfl rfl (by omega) (by decide) rfl ?_
                refine ev_st dX12_widow_104 rfl rfl ?_
                refine ev_call dX12_widow_105 rfl rfl mr_12_253 rfl rfl rfl (c_tell (m := b) rfl (by omega) (I4 20 b).toInt64) ?_
                rw [ti_wr2]
                rintro _ _ ⟨rfl, rfl⟩
                show Ev lyM (d + 10) hX12_widow 108 [some (.ref 0), some (.int (nI v)), some (.int (nI e)), some (.int (nI (cN v))), some (.int (nI b))] [] (ti_wr I4 0 11 (nI (b + 1)), wl7 (I4 20) J (b + 1), R) _
                refine ev_iincN (a := b) (b := b + 1) (L' := [some (.ref 0), some (.int (nI v)), some (.int (nI e)), some (.int (nI (cN v))), some (.int (nI (b + 1)))]) dX12_widow_108 rfl (nI_1 _) rfl ?_
                refine ev_goto (t := 90) dX12_widow_111 (by decide) ?_
                exact ih _ (by omega) (by omega)
        exact loop (cN v + 1) 0 (by omega) (by omega)
      · omega
    · exact absurd h4 c_42
