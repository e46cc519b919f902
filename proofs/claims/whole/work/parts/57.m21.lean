/-! the model: years -/
/-- what is drawn, as a natural -/
def drN (x : Int32) : Nat := (x.toUInt32 >>> ((16 : Int32).toUInt32 &&& Int32.toUInt32 31)).toNat
theorem drN_lt (x : Int32) : drN x < 65536 := by
  unfold drN
  rw [UInt32.toNat_shiftRight]
  have h := x.toUInt32.toNat_lt
  have e : ((16 : Int32).toUInt32 &&& Int32.toUInt32 31).toNat % 32 = 16 := by decide
  rw [e, Nat.shiftRight_eq_div_pow]
  omega
theorem u_nI (y : UInt32) : y.toInt32 = nI y.toNat := by
  apply Int32.toBitVec_inj.mp
  simp [nI]
theorem dr_nI (x : Int32) {n : Nat} (h0 : 0 < n) (hn : n < 2 ^ 31) : m_dr x (nI n) = nI (drN x % n) := by
  have h := drN_lt x
  have e : (x.toUInt32 >>> ((16 : Int32).toUInt32 &&& Int32.toUInt32 31)).toInt32 = nI (drN x) := u_nI _
  simp only [m_dr]
  rw [e]
  exact pk_rem (by omega) h0 hn
/-- one drawn act: the state, its corner, the seed -/
def m_y1 (sp str tl sy : Nat → Int32) (n c ns rs : Nat) (rv : RV) (t : (Nat → Int32) × Nat × Int32) : (Nat → Int32) × Nat × Int32 :=
  if drN (m_dw t.2.2) % 4 = 0 then (if m_rS c t.2.1 (m_cy t.1 n) = 0 then (m_NX sp str tl n c rs rv t.1 t.2.1, t.2.1 + 1, m_dw t.2.2) else (t.1, t.2.1, m_dw t.2.2))
  else if drN (m_dw t.2.2) % 4 = 1 then (if n = 0 then (t.1, t.2.1, m_dw t.2.2) else
    if t.1 (8 + drN (m_dw (m_dw t.2.2)) % n) = 1 then (upd t.1 (8 + drN (m_dw (m_dw t.2.2)) % n) 0, t.2.1, m_dw (m_dw t.2.2))
    else if m_rT n t.1 (nI (drN (m_dw (m_dw t.2.2)) % n)) = 0 then (upd t.1 (8 + drN (m_dw (m_dw t.2.2)) % n) 1, t.2.1, m_dw (m_dw t.2.2))
    else (t.1, t.2.1, m_dw (m_dw t.2.2)))
  else if drN (m_dw t.2.2) % 4 = 2 then (if ns = 0 then (t.1, t.2.1, m_dw t.2.2) else
    if m_rY ns c t.2.1 sy t.1 (nI (drN (m_dw (m_dw t.2.2)) % ns)) = 0 then (m_gy sy t.1 (drN (m_dw (m_dw t.2.2)) % ns), t.2.1, m_dw (m_dw t.2.2))
    else (t.1, t.2.1, m_dw (m_dw t.2.2)))
  else (upd t.1 26 (t.1 26 + 1 - (t.1 26 + 1) / 4 * 4), t.2.1, m_dw t.2.2)
def m_ys (sp str tl sy : Nat → Int32) (n c ns rs : Nat) (rv : RV) (t : (Nat → Int32) × Nat × Int32) : Nat → (Nat → Int32) × Nat × Int32
  | 0 => t
  | k + 1 => m_y1 sp str tl sy n c ns rs rv (m_ys sp str tl sy n c ns rs rv t k)
theorem mA.w38 {I : Nat → Nat → Int32} {R : Nat → Nat → Value} {d n c rp rs : Nat} {rv : RV} (h : mA I R d n c rp rs rv) (v : Int32) : mA (ti_wr (ti_wr I 0 12 0) 0 38 v) R d n c rp rs rv := by
  obtain ⟨h1, h2, h3, h4, h5, h6, h7⟩ := h
  refine ⟨h1, h2, h3, h4, h5, h6, ?_⟩
  have : ti_wr (ti_wr I 0 12 0) 0 38 v rp = I rp := by rcases h7.1 with rfl | rfl <;> rfl
  rw [this]; exact h7
/-- the memory of a drawn walk -/
abbrev yB (I : Nat → Nat → Int32) (row : Nat → Int32) (dn : Int32) : Nat → Nat → Int32 := va_up (ti_wr (ti_wr I 0 12 0) 0 38 dn) 14 row
theorem yB.w38 {I I2 : Nat → Nat → Int32} {R R2 : Nat → Nat → Value} {row : Nat → Int32} {dn v : Int32} (h : sM (yB I row dn) R I2 R2) : sM (yB I row v) R (ti_wr I2 0 38 v) R2 := by
  have K := h.wr 0 38 v
  refine sM.eq ?_ K
  rw [yB, wr_up0, ti_wr2]
theorem yB.w14 {I I2 : Nat → Nat → Int32} {R R2 : Nat → Nat → Value} {row : Nat → Int32} {dn v : Int32} {k : Nat} (h : sM (yB I row dn) R I2 R2) : sM (yB I (upd row k v) dn) R (ti_wr I2 14 k v) R2 := by
  have K := h.wr 14 k v
  refine sM.eq ?_ K
  rw [yB, ti_wr_up]
theorem yB.up {I I2 : Nat → Nat → Int32} {R R2 : Nat → Nat → Value} {row r2 : Nat → Int32} {dn : Int32} (h : sM (yB I row dn) R I2 R2) : sM (yB I r2 dn) R (va_up I2 14 r2) R2 := by
  have K := h.up 14 rfl r2
  refine sM.eq ?_ K
  rw [yB, va_up_up]
theorem rS_lt {c a : Nat} {x : Int32} (h : m_rS c a x = 0) : a < c := by
  unfold m_rS at h
  split at h
  · exact absurd h (by decide)
  · omega
theorem yB.x {I I2 : Nat → Nat → Int32} {R R2 : Nat → Nat → Value} {row : Nat → Int32} {dn : Int32} (h : sM (yB I row dn) R I2 R2) : xM (ti_wr I 0 12 0) R I2 R2 := by
  refine xM.tr (I2 := yB I row dn) (R2 := R) ⟨fun p h0 h8 h11 h13 h14 h15 h16 h17 h20 => ?_, fun k a1 a2 a3 a4 a5 a6 a7 => ?_, rfl⟩ h.x
  · rw [yB, va_up_n h14, ti_wr_n h0]
  · rw [yB, va_up_n (by decide)]
    generalize ti_wr I 0 12 0 = I0
    simp [ti_wr, va_up, upd, a7]
theorem in_rng {a b m : Nat} (h1 : a ≤ m) (h2 : m ≤ b) (hb : b < 2 ^ 31) : m_in (nI m) (nI a) (nI b) = 1 := by
  rw [m_in, if_neg (by rw [nI_ltI (by omega) (by omega)]; omega), if_neg (by rw [nI_ltI (by omega) (by omega)]; omega)]
theorem upd_ne {f : Nat → Int32} {k j : Nat} {v : Int32} (h : ¬ j = k) : upd f k v j = f j := by rw [upd, if_neg h]
theorem gy_24 {sy row : Nat → Int32} {s : Nat} (h : s < 8) : m_gy sy row s 24 = row 24 := by
  rw [m_gy, upd_ne (by decide), upd_ne (by omega), upd_ne (by decide)]
theorem mod8 {x n : Nat} (h0 : 0 < n) (hn : n ≤ 8) : x % n < 8 := Nat.lt_of_lt_of_le (Nat.mod_lt _ h0) hn
theorem c_years0 {I : Nat → Nat → Int32} {J : Nat → Nat → Int64} {R : Nat → Nat → Value} {d : Nat} {x y : Int32} (hx : m_in y 1 60 = 0) : Cal lyM (d + 98) hX12_years 6 [.ref 0, .int x, .int y] (I, J, R) (fun r M' => r = some (.int (-1)) ∧ M' = (ti_wr I 0 12 0, J, R)) := by
  show Ev lyM (d + 98) hX12_years 0 [some (.ref 0), some (.int x), some (.int y), none, none, none] [] (I, J, R) _
  refine ev_st dX12_years_0 rfl rfl ?_
  refine ev_iconst (v := 0) dX12_years_1 (by decide) ?_
  refine ev_putI dX12_years_2 fr_12_89 rfl rfl ?_
  refine ev_st dX12_years_5 rfl rfl ?_
  refine ev_iconst (v := 1) dX12_years_6 (by decide) ?_
  refine ev_bipush (v := 60) dX12_years_7 (by decide) ?_
  refine ev_call dX12_years_9 rfl rfl mr_12_98 rfl rfl rfl (c_in0 hx) ?_
  rintro _ _ ⟨rfl, rfl⟩
  show Ev lyM (d + 98) hX12_years 12 [some (.ref 0), some (.int x), some (.int y), none, none, none] [.int 0] (ti_wr I 0 12 0, J, R) _
  refine ev_if_ne (t := 17) dX12_years_12 (by decide) (fun q => absurd q (by decide)) (fun _ => ?_)
  refine ev_iconst (v := -1) dX12_years_15 (by decide) ?_
  exact ev_iret dX12_years_16 rfl (⟨rfl, rfl⟩)
set_option maxHeartbeats 1000000 in
theorem c_years {I : Nat → Nat → Int32} {J : Nat → Nat → Int64} {R : Nat → Nat → Value} {d n c a ns rp rs m : Nat} {rv : RV} (hA : mA I R d n c rp rs rv) (ha : I 1 24 = nI a) (hac : a ≤ c) (hns : I 0 6 = nI ns) (hns8 : ns ≤ 8) (hm1 : 1 ≤ m) (hm60 : m ≤ 60) (seed : Int32) : Cal lyM (d + 98) hX12_years 6 [.ref 0, .int seed, .int (nI m)] (I, J, R) (fun r M' => r = some (.int ((m_ys (I 2) (I 3) (I 4) (I 5) n c ns rs rv (m_tn (I 1) (I 14), a, seed) m).1 28 - I 1 28)) ∧ ∃ I3 R3, M' = (I3, ti_wl (ti_wl J 7 0 ((m_ys (I 2) (I 3) (I 4) (I 5) n c ns rs rv (m_tn (I 1) (I 14), a, seed) m).1 24).toInt64) 7 1 ((m_ys (I 2) (I 3) (I 4) (I 5) n c ns rs rv (m_tn (I 1) (I 14), a, seed) m).1 25).toInt64, R3) ∧ xM (ti_wr (ti_wr I 0 12 0) 0 11 (nI 2)) R I3 R3) := by
  have hn8 := hA.2.1
  have hc12 := hA.2.2.2.1
  have hx : m_in (nI m) 1 60 = 1 := in_rng hm1 hm60 (by decide)
  have loop : ∀ (k b : Nat) (row : Nat → Int32) (a2 : Nat) (dn : Int32) (z4 z5 : Option Value) (I2 : Nat → Nat → Int32) (R2 : Nat → Nat → Value), b ≤ m → m - b < k → (row, a2, dn) = m_ys (I 2) (I 3) (I 4) (I 5) n c ns rs rv (m_tn (I 1) (I 14), a, seed) b → row 24 = nI a2 → a2 ≤ c → sM (yB I row dn) R I2 R2 → Ev lyM (d + 98) hX12_years 36 [some (.ref 0), some (.int seed), some (.int (nI m)), some (.int (nI b)), z4, z5] [] (I2, J, R2) (fun r M' => r = some (.int ((m_ys (I 2) (I 3) (I 4) (I 5) n c ns rs rv (m_tn (I 1) (I 14), a, seed) m).1 28 - I 1 28)) ∧ ∃ I3 R3, M' = (I3, ti_wl (ti_wl J 7 0 ((m_ys (I 2) (I 3) (I 4) (I 5) n c ns rs rv (m_tn (I 1) (I 14), a, seed) m).1 24).toInt64) 7 1 ((m_ys (I 2) (I 3) (I 4) (I 5) n c ns rs rv (m_tn (I 1) (I 14), a, seed) m).1 25).toInt64, R3) ∧ xM (ti_wr (ti_wr I 0 12 0) 0 11 (nI 2)) R I3 R3) := by
    intro k
    induction k with
    | zero => intro b row a2 dn z4 z5 I2 R2 h1 h2; omega
    | succ k ih =>
      intro b row a2 dn z4 z5 I2 R2 hb hk ht ha hac2 hs2
      have ha12 : a2 ≤ 12 := by omega
      refine ev_st dX12_years_36 rfl rfl ?_
      refine ev_st dX12_years_37 rfl rfl ?_
      refine ev_ic_geN (t := 224) (a := b) (b := m) dX12_years_38 (by decide) rfl rfl (by omega) (by omega) (fun c_38 => ?_) (fun c_38 => ?_)
      · refine ev_st dX12_years_224 rfl rfl ?_
        refine ev_iconst (v := 0) dX12_years_225 (by decide) ?_
        refine ev_putI dX12_years_226 fr_12_92 rfl rfl ?_
        refine ev_st dX12_years_229 rfl rfl ?_
        refine ev_st dX12_years_230 rfl rfl ?_
        refine ev_getC dX12_years_231 fr_12_55 rfl rfl ?_
        refine ev_bipush (v := 24) dX12_years_234 (by decide) ?_
        refine ev_iald (j := 24) (v := row 24) dX12_years_236 rfl rfl (by decide) (by decide) (congrFun ((hs2.r 14 rfl).trans va_up_q) 24) ?_
        refine ev_st dX12_years_237 rfl rfl ?_
        refine ev_call dX12_years_238 rfl rfl mr_12_253 rfl rfl rfl (c_tell (m := 0) rfl (by decide) ((row 24).toInt64)) ?_
        rintro _ _ ⟨rfl, rfl⟩
        show Ev lyM (d + 98) hX12_years 241 [some (.ref 0), some (.int seed), some (.int (nI m)), some (.int (nI b)), z4, z5] [] (ti_wr (ti_wr I2 0 11 0) 0 11 (nI 1), ti_wl J 7 0 ((row 24).toInt64), R2) _
        refine ev_st dX12_years_241 rfl rfl ?_
        refine ev_st dX12_years_242 rfl rfl ?_
        refine ev_getC dX12_years_243 fr_12_55 rfl rfl ?_
        refine ev_bipush (v := 25) dX12_years_246 (by decide) ?_
        refine ev_iald (j := 25) (v := row 25) dX12_years_248 rfl rfl (by decide) (by decide) (congrFun ((hs2.r 14 rfl).trans va_up_q) 25) ?_
        refine ev_st dX12_years_249 rfl rfl ?_
        refine ev_call dX12_years_250 rfl rfl mr_12_253 rfl rfl rfl (c_tell (m := 1) rfl (by decide) ((row 25).toInt64)) ?_
        rintro _ _ ⟨rfl, rfl⟩
        show Ev lyM (d + 98) hX12_years 253 [some (.ref 0), some (.int seed), some (.int (nI m)), some (.int (nI b)), z4, z5] [] (ti_wr (ti_wr (ti_wr I2 0 11 0) 0 11 (nI 1)) 0 11 (nI 2), ti_wl (ti_wl J 7 0 ((row 24).toInt64)) 7 1 ((row 25).toInt64), R2) _
        refine ev_st dX12_years_253 rfl rfl ?_
        refine ev_getC dX12_years_254 fr_12_55 rfl rfl ?_
        refine ev_bipush (v := 28) dX12_years_257 (by decide) ?_
        refine ev_iald (j := 28) (v := row 28) dX12_years_259 rfl rfl (by decide) (by decide) (congrFun ((hs2.r 14 rfl).trans va_up_q) 28) ?_
        refine ev_st dX12_years_260 rfl rfl ?_
        refine ev_getC dX12_years_261 fr_12_9 rfl rfl ?_
        refine ev_bipush (v := 28) dX12_years_264 (by decide) ?_
        refine ev_iald (j := 28) (v := I 1 28) dX12_years_266 rfl rfl (by decide) (by decide) (congrFun (hs2.r 1 rfl) 28) ?_
        refine ev_st dX12_years_267 rfl rfl ?_
        exact ev_iret dX12_years_268 rfl (by rw [show b = m by omega] at ht; rw [← ht]; exact ⟨rfl, _, _, rfl, by simpa only [ti_wr2] using (yB.x hs2).wr 0 11 (nI 2)⟩)
      · refine ev_st dX12_years_41 rfl rfl ?_
        refine ev_iconst (v := 4) dX12_years_42 (by decide) ?_
        refine ev_call dX12_years_43 rfl rfl mr_12_389 rfl rfl rfl ((by have K := c_draw (I := I2) (J := J) (R := R2) (d := d + 97) (n := nI 4) (by decide); rw [show (I2) 0 38 = dn from (hs2).f 38 rfl, dr_nI _ (by omega) (by omega)] at K; exact K)) ?_
        rintro _ _ ⟨rfl, rfl⟩
        show Ev lyM (d + 98) hX12_years 46 [some (.ref 0), some (.int seed), some (.int (nI m)), some (.int (nI b)), z4, z5] [.int (nI (drN (m_dw dn) % 4))] (ti_wr I2 0 38 (m_dw dn), J, R2) _
        refine ev_st (L' := [some (.ref 0), some (.int seed), some (.int (nI m)), some (.int (nI b)), some (.int (nI (drN (m_dw dn) % 4))), z5]) dX12_years_46 rfl rfl ?_
        refine ev_st dX12_years_48 rfl rfl ?_
        refine ev_if_neN (t := 73) (a := drN (m_dw dn) % 4) dX12_years_50 (by decide) rfl (by omega) (fun c_50 => ?_) (fun c_50 => ?_)
        · refine ev_st dX12_years_73 rfl rfl ?_
          refine ev_iconst (v := 1) dX12_years_75 (by decide) ?_
          refine ev_ic_neN (t := 148) (a := drN (m_dw dn) % 4) (b := 1) dX12_years_76 (by decide) rfl rfl (by omega) (by omega) (fun c_76 => ?_) (fun c_76 => ?_)
          · refine ev_st dX12_years_148 rfl rfl ?_
            refine ev_iconst (v := 2) dX12_years_150 (by decide) ?_
            refine ev_ic_neN (t := 194) (a := drN (m_dw dn) % 4) (b := 2) dX12_years_151 (by decide) rfl rfl (by omega) (by omega) (fun c_151 => ?_) (fun c_151 => ?_)
            · refine ev_st dX12_years_194 rfl rfl ?_
              refine ev_iconst (v := 3) dX12_years_196 (by decide) ?_
              refine ev_ic_neN (t := 218) (a := drN (m_dw dn) % 4) (b := 3) dX12_years_197 (by decide) rfl rfl (by omega) (by omega) (fun c_197 => ?_) (fun c_197 => ?_)
              · refine ev_iincN (a := b) (b := b + 1) (L' := [some (.ref 0), some (.int seed), some (.int (nI m)), some (.int (nI (b + 1))), some (.int (nI (drN (m_dw dn) % 4))), z5]) dX12_years_218 rfl (nI_1 _) rfl ?_
                refine ev_goto (t := 36) dX12_years_221 (by decide) ?_
                omega
              · refine ev_st dX12_years_200 rfl rfl ?_
                refine ev_getC dX12_years_201 fr_12_55 rfl rfl ?_
                refine ev_bipush (v := 26) dX12_years_204 (by decide) ?_
                refine ev_st dX12_years_206 rfl rfl ?_
                refine ev_getC dX12_years_207 fr_12_55 rfl rfl ?_
                refine ev_bipush (v := 26) dX12_years_210 (by decide) ?_
                refine ev_iald (j := 26) (v := row 26) dX12_years_212 rfl rfl (by decide) (by decide) (congrFun ((hs2.r 14 rfl).trans va_up_q) 26) ?_
                refine ev_iconst (v := 1) dX12_years_213 (by decide) ?_
                refine ev_st dX12_years_214 rfl rfl ?_
                refine ev_iconst (v := 4) dX12_years_215 (by decide) ?_
                refine ev_rem dX12_years_216 (by decide) ?_
                refine ev_iast (j := 26) dX12_years_217 rfl rfl (by decide) (by decide) ?_
                refine ev_iincN (a := b) (b := b + 1) (L' := [some (.ref 0), some (.int seed), some (.int (nI m)), some (.int (nI (b + 1))), some (.int (nI (drN (m_dw dn) % 4))), z5]) dX12_years_218 rfl (nI_1 _) rfl ?_
                refine ev_goto (t := 36) dX12_years_221 (by decide) ?_
                have et : m_y1 (I 2) (I 3) (I 4) (I 5) n c ns rs rv (row, a2, dn) = ((upd row 26 (((row 26) + 1) - ((row 26) + 1) / 4 * 4)), a2, (m_dw dn)) := by simp only [m_y1, if_neg c_50, if_neg c_76, if_neg c_151]
                exact ih (b + 1) ((upd row 26 (((row 26) + 1) - ((row 26) + 1) / 4 * 4))) a2 ((m_dw dn)) _ _ _ _ (by omega) (by omega) (by rw [m_ys, ← ht, et]) ((upd_ne (by decide)).trans ha) hac2 (yB.w14 (k := 26) (v := ((row 26) + 1) - ((row 26) + 1) / 4 * 4) (yB.w38 (v := m_dw dn) hs2))
            · refine ev_st dX12_years_154 rfl rfl ?_
              refine ev_getI (v := nI ns) dX12_years_155 fr_12_102 rfl rfl ((hs2.f 6 rfl).trans hns) ?_
              refine ev_if_leN (t := 194) (a := ns) dX12_years_158 (by decide) rfl (by omega) (fun c_158 => ?_) (fun c_158 => ?_)
              · refine ev_st dX12_years_194 rfl rfl ?_
                refine ev_iconst (v := 3) dX12_years_196 (by decide) ?_
                refine ev_ic_neN (t := 218) (a := drN (m_dw dn) % 4) (b := 3) dX12_years_197 (by decide) rfl rfl (by omega) (by omega) (fun c_197 => ?_) (fun c_197 => ?_)
                · refine ev_iincN (a := b) (b := b + 1) (L' := [some (.ref 0), some (.int seed), some (.int (nI m)), some (.int (nI (b + 1))), some (.int (nI (drN (m_dw dn) % 4))), z5]) dX12_years_218 rfl (nI_1 _) rfl ?_
                  refine ev_goto (t := 36) dX12_years_221 (by decide) ?_
                  have et : m_y1 (I 2) (I 3) (I 4) (I 5) n c ns rs rv (row, a2, dn) = (row, a2, (m_dw dn)) := by simp only [m_y1, if_neg c_50, if_neg c_76, if_pos c_151, if_pos c_158]
                  exact ih (b + 1) row a2 ((m_dw dn)) _ _ _ _ (by omega) (by omega) (by rw [m_ys, ← ht, et]) ha hac2 (yB.w38 (v := m_dw dn) hs2)
                · omega
              · refine ev_st dX12_years_161 rfl rfl ?_
                refine ev_st dX12_years_162 rfl rfl ?_
                refine ev_getI (v := nI ns) dX12_years_163 fr_12_102 rfl rfl ((hs2.f 6 rfl).trans hns) ?_
                refine ev_call dX12_years_166 rfl rfl mr_12_389 rfl rfl rfl ((by have K := c_draw (I := ti_wr I2 0 38 (m_dw dn)) (J := J) (R := R2) (d := d + 97) (n := nI ns) (nI_ne0 (by omega) (by omega)); rw [show (ti_wr I2 0 38 (m_dw dn)) 0 38 = (m_dw dn) from ((yB.w38 (v := m_dw dn) hs2)).f 38 rfl, dr_nI _ (by omega) (by omega)] at K; exact K)) ?_
                rintro _ _ ⟨rfl, rfl⟩
                show Ev lyM (d + 98) hX12_years 169 [some (.ref 0), some (.int seed), some (.int (nI m)), some (.int (nI b)), some (.int (nI (drN (m_dw dn) % 4))), z5] [.int (nI (drN (m_dw ((m_dw dn))) % ns))] (ti_wr (ti_wr I2 0 38 (m_dw dn)) 0 38 (m_dw ((m_dw dn))), J, R2) _
                refine ev_st (L' := [some (.ref 0), some (.int seed), some (.int (nI m)), some (.int (nI b)), some (.int (nI (drN (m_dw dn) % 4))), some (.int (nI (drN (m_dw ((m_dw dn))) % ns)))]) dX12_years_169 rfl rfl ?_
                refine ev_st dX12_years_171 rfl rfl ?_
                refine ev_st dX12_years_172 rfl rfl ?_
                refine ev_getC dX12_years_173 fr_12_55 rfl rfl ?_
                refine ev_st dX12_years_176 rfl rfl ?_
                refine ev_call dX12_years_178 rfl rfl mr_12_300 rfl rfl rfl ((by have K := c_refusesSayt (I := ti_wr (ti_wr I2 0 38 (m_dw dn)) 0 38 (m_dw ((m_dw dn)))) (J := J) (R := R2) (d := d + 94) ((((yB.w38 (v := m_dw ((m_dw dn))) (yB.w38 (v := m_dw dn) hs2))).f 6 rfl).trans hns) hns8 ((((yB.w38 (v := m_dw ((m_dw dn))) (yB.w38 (v := m_dw dn) hs2))).f 1 rfl).trans hA.2.2.1) hc12 ((congrFun ((((yB.w38 (v := m_dw ((m_dw dn))) (yB.w38 (v := m_dw dn) hs2))).r 14 rfl).trans va_up_q) 24).trans ha) ha12 (nI (drN (m_dw ((m_dw dn))) % ns)); rw [show (ti_wr (ti_wr I2 0 38 (m_dw dn)) 0 38 (m_dw ((m_dw dn)))) 14 = row from (((yB.w38 (v := m_dw ((m_dw dn))) (yB.w38 (v := m_dw dn) hs2))).r 14 rfl).trans va_up_q, show (ti_wr (ti_wr I2 0 38 (m_dw dn)) 0 38 (m_dw ((m_dw dn)))) 5 = I 5 from ((yB.w38 (v := m_dw ((m_dw dn))) (yB.w38 (v := m_dw dn) hs2))).r 5 rfl] at K; exact K)) ?_
                rintro _ _ ⟨rfl, rfl⟩
                show Ev lyM (d + 98) hX12_years 181 [some (.ref 0), some (.int seed), some (.int (nI m)), some (.int (nI b)), some (.int (nI (drN (m_dw dn) % 4))), some (.int (nI (drN (m_dw ((m_dw dn))) % ns)))] [.int (m_rY ns c a2 (I 5) row (nI (drN (m_dw ((m_dw dn))) % ns)))] (ti_wr (ti_wr I2 0 38 (m_dw dn)) 0 38 (m_dw ((m_dw dn))), J, R2) _
                refine ev_if_ne (t := 194) (x := m_rY ns c a2 (I 5) row (nI (drN (m_dw ((m_dw dn))) % ns))) dX12_years_181 (by decide) (fun c_181 => ?_) (fun c_181 => ?_)
                · refine ev_st dX12_years_194 rfl rfl ?_
                  refine ev_iconst (v := 3) dX12_years_196 (by decide) ?_
                  refine ev_ic_neN (t := 218) (a := drN (m_dw dn) % 4) (b := 3) dX12_years_197 (by decide) rfl rfl (by omega) (by omega) (fun c_197 => ?_) (fun c_197 => ?_)
                  · refine ev_iincN (a := b) (b := b + 1) (L' := [some (.ref 0), some (.int seed), some (.int (nI m)), some (.int (nI (b + 1))), some (.int (nI (drN (m_dw dn) % 4))), some (.int (nI (drN (m_dw ((m_dw dn))) % ns)))]) dX12_years_218 rfl (nI_1 _) rfl ?_
                    refine ev_goto (t := 36) dX12_years_221 (by decide) ?_
                    have et : m_y1 (I 2) (I 3) (I 4) (I 5) n c ns rs rv (row, a2, dn) = (row, a2, (m_dw ((m_dw dn)))) := by simp only [m_y1, if_neg c_50, if_neg c_76, if_pos c_151, if_neg (by omega : ¬ ns = 0), if_neg c_181]
                    exact ih (b + 1) row a2 ((m_dw ((m_dw dn)))) _ _ _ _ (by omega) (by omega) (by rw [m_ys, ← ht, et]) ha hac2 (yB.w38 (v := m_dw ((m_dw dn))) (yB.w38 (v := m_dw dn) hs2))
                  · omega
                · refine ev_st dX12_years_184 rfl rfl ?_
                  refine ev_st dX12_years_185 rfl rfl ?_
                  refine ev_getC dX12_years_186 fr_12_55 rfl rfl ?_
                  refine ev_st dX12_years_189 rfl rfl ?_
                  refine ev_call dX12_years_191 rfl rfl mr_12_303 rfl rfl rfl (Cal.mono (d := d + 2) (by omega) (by have K := c_goSayt (I := ti_wr (ti_wr I2 0 38 (m_dw dn)) 0 38 (m_dw ((m_dw dn)))) (J := J) (R := R2) (d := d) (s := drN (m_dw ((m_dw dn))) % ns) (Nat.lt_of_lt_of_le (Nat.mod_lt _ (by omega)) hns8); rw [show (ti_wr (ti_wr I2 0 38 (m_dw dn)) 0 38 (m_dw ((m_dw dn)))) 14 = row from (((yB.w38 (v := m_dw ((m_dw dn))) (yB.w38 (v := m_dw dn) hs2))).r 14 rfl).trans va_up_q, show (ti_wr (ti_wr I2 0 38 (m_dw dn)) 0 38 (m_dw ((m_dw dn)))) 5 = I 5 from ((yB.w38 (v := m_dw ((m_dw dn))) (yB.w38 (v := m_dw dn) hs2))).r 5 rfl] at K; exact K)) ?_
                  rintro _ _ ⟨rfl, rfl⟩
                  show Ev lyM (d + 98) hX12_years 194 [some (.ref 0), some (.int seed), some (.int (nI m)), some (.int (nI b)), some (.int (nI (drN (m_dw dn) % 4))), some (.int (nI (drN (m_dw ((m_dw dn))) % ns)))] [] (va_up (ti_wr (ti_wr I2 0 38 (m_dw dn)) 0 38 (m_dw ((m_dw dn)))) 14 (m_gy (I 5) row (drN (m_dw ((m_dw dn))) % ns)), J, R2) _
                  refine ev_st dX12_years_194 rfl rfl ?_
                  refine ev_iconst (v := 3) dX12_years_196 (by decide) ?_
                  refine ev_ic_neN (t := 218) (a := drN (m_dw dn) % 4) (b := 3) dX12_years_197 (by decide) rfl rfl (by omega) (by omega) (fun c_197 => ?_) (fun c_197 => ?_)
                  · refine ev_iincN (a := b) (b := b + 1) (L' := [some (.ref 0), some (.int seed), some (.int (nI m)), some (.int (nI (b + 1))), some (.int (nI (drN (m_dw dn) % 4))), some (.int (nI (drN (m_dw ((m_dw dn))) % ns)))]) dX12_years_218 rfl (nI_1 _) rfl ?_
                    refine ev_goto (t := 36) dX12_years_221 (by decide) ?_
                    have et : m_y1 (I 2) (I 3) (I 4) (I 5) n c ns rs rv (row, a2, dn) = ((m_gy (I 5) row (drN (m_dw ((m_dw dn))) % ns)), a2, (m_dw ((m_dw dn)))) := by simp only [m_y1, if_neg c_50, if_neg c_76, if_pos c_151, if_neg (by omega : ¬ ns = 0), if_pos c_181]
                    exact ih (b + 1) ((m_gy (I 5) row (drN (m_dw ((m_dw dn))) % ns))) a2 ((m_dw ((m_dw dn)))) _ _ _ _ (by omega) (by omega) (by rw [m_ys, ← ht, et]) ((gy_24 (mod8 c_158 hns8)).trans ha) hac2 (yB.up (r2 := m_gy (I 5) row (drN (m_dw ((m_dw dn))) % ns)) (yB.w38 (v := m_dw ((m_dw dn))) (yB.w38 (v := m_dw dn) hs2)))
                  · omega
          · refine ev_st dX12_years_79 rfl rfl ?_
            refine ev_getI (v := nI n) dX12_years_80 fr_12_95 rfl rfl ((hs2.f 3 rfl).trans hA.1) ?_
            refine ev_if_leN (t := 148) (a := n) dX12_years_83 (by decide) rfl (by omega) (fun c_83 => ?_) (fun c_83 => ?_)
            · refine ev_st dX12_years_148 rfl rfl ?_
              refine ev_iconst (v := 2) dX12_years_150 (by decide) ?_
              refine ev_ic_neN (t := 194) (a := drN (m_dw dn) % 4) (b := 2) dX12_years_151 (by decide) rfl rfl (by omega) (by omega) (fun c_151 => ?_) (fun c_151 => ?_)
              · refine ev_st dX12_years_194 rfl rfl ?_
                refine ev_iconst (v := 3) dX12_years_196 (by decide) ?_
                refine ev_ic_neN (t := 218) (a := drN (m_dw dn) % 4) (b := 3) dX12_years_197 (by decide) rfl rfl (by omega) (by omega) (fun c_197 => ?_) (fun c_197 => ?_)
                · refine ev_iincN (a := b) (b := b + 1) (L' := [some (.ref 0), some (.int seed), some (.int (nI m)), some (.int (nI (b + 1))), some (.int (nI (drN (m_dw dn) % 4))), z5]) dX12_years_218 rfl (nI_1 _) rfl ?_
                  refine ev_goto (t := 36) dX12_years_221 (by decide) ?_
                  have et : m_y1 (I 2) (I 3) (I 4) (I 5) n c ns rs rv (row, a2, dn) = (row, a2, (m_dw dn)) := by simp only [m_y1, if_neg c_50, if_pos c_76, if_pos c_83]
                  exact ih (b + 1) row a2 ((m_dw dn)) _ _ _ _ (by omega) (by omega) (by rw [m_ys, ← ht, et]) ha hac2 (yB.w38 (v := m_dw dn) hs2)
                · omega
              · omega
            · refine ev_st dX12_years_86 rfl rfl ?_
              refine ev_st dX12_years_87 rfl rfl ?_
              refine ev_getI (v := nI n) dX12_years_88 fr_12_95 rfl rfl ((hs2.f 3 rfl).trans hA.1) ?_
              refine ev_call dX12_years_91 rfl rfl mr_12_389 rfl rfl rfl ((by have K := c_draw (I := ti_wr I2 0 38 (m_dw dn)) (J := J) (R := R2) (d := d + 97) (n := nI n) (nI_ne0 (by omega) (by omega)); rw [show (ti_wr I2 0 38 (m_dw dn)) 0 38 = (m_dw dn) from ((yB.w38 (v := m_dw dn) hs2)).f 38 rfl, dr_nI _ (by omega) (by omega)] at K; exact K)) ?_
              rintro _ _ ⟨rfl, rfl⟩
              show Ev lyM (d + 98) hX12_years 94 [some (.ref 0), some (.int seed), some (.int (nI m)), some (.int (nI b)), some (.int (nI (drN (m_dw dn) % 4))), z5] [.int (nI (drN (m_dw ((m_dw dn))) % n))] (ti_wr (ti_wr I2 0 38 (m_dw dn)) 0 38 (m_dw ((m_dw dn))), J, R2) _
              refine ev_st (L' := [some (.ref 0), some (.int seed), some (.int (nI m)), some (.int (nI b)), some (.int (nI (drN (m_dw dn) % 4))), some (.int (nI (drN (m_dw ((m_dw dn))) % n)))]) dX12_years_94 rfl rfl ?_
              refine ev_st dX12_years_96 rfl rfl ?_
              refine ev_getC dX12_years_97 fr_12_55 rfl rfl ?_
              refine ev_bipush (v := 8) dX12_years_100 (by decide) ?_
              refine ev_st dX12_years_102 rfl rfl ?_
              refine ev_iaddN (a := 8) (b := drN (m_dw ((m_dw dn))) % n) (c := 8 + (drN (m_dw ((m_dw dn))) % n)) dX12_years_104 rfl rfl rfl ?_
              refine ev_iald (j := 8 + (drN (m_dw ((m_dw dn))) % n)) (v := row (8 + (drN (m_dw ((m_dw dn))) % n))) dX12_years_105 rfl rfl (by have := mod8 (x := drN (m_dw (m_dw dn))) c_83 hn8; omega) (by decide) (congrFun ((hs2.r 14 rfl).trans va_up_q) (8 + (drN (m_dw ((m_dw dn))) % n))) ?_
              refine ev_iconst (v := 1) dX12_years_106 (by decide) ?_
              refine ev_ic_ne (t := 124) (x := row (8 + (drN (m_dw ((m_dw dn))) % n))) (y := 1) dX12_years_107 (by decide) (fun c_107 => ?_) (fun c_107 => ?_)
              · refine ev_st dX12_years_124 rfl rfl ?_
                refine ev_st dX12_years_125 rfl rfl ?_
                refine ev_getC dX12_years_126 fr_12_55 rfl rfl ?_
                refine ev_st dX12_years_129 rfl rfl ?_
                refine ev_call dX12_years_131 rfl rfl mr_12_279 rfl rfl rfl ((by have K := c_refusesTaket (I := ti_wr (ti_wr I2 0 38 (m_dw dn)) 0 38 (m_dw ((m_dw dn)))) (J := J) (R := R2) (d := d + 95) ((((yB.w38 (v := m_dw ((m_dw dn))) (yB.w38 (v := m_dw dn) hs2))).f 3 rfl).trans hA.1) hn8 (nI (drN (m_dw ((m_dw dn))) % n)); rw [show (ti_wr (ti_wr I2 0 38 (m_dw dn)) 0 38 (m_dw ((m_dw dn)))) 14 = row from (((yB.w38 (v := m_dw ((m_dw dn))) (yB.w38 (v := m_dw dn) hs2))).r 14 rfl).trans va_up_q] at K; exact K)) ?_
                rintro _ _ ⟨rfl, rfl⟩
                show Ev lyM (d + 98) hX12_years 134 [some (.ref 0), some (.int seed), some (.int (nI m)), some (.int (nI b)), some (.int (nI (drN (m_dw dn) % 4))), some (.int (nI (drN (m_dw ((m_dw dn))) % n)))] [.int (m_rT n row (nI (drN (m_dw ((m_dw dn))) % n)))] (ti_wr (ti_wr I2 0 38 (m_dw dn)) 0 38 (m_dw ((m_dw dn))), J, R2) _
                refine ev_if_ne (t := 148) (x := m_rT n row (nI (drN (m_dw ((m_dw dn))) % n))) dX12_years_134 (by decide) (fun c_134 => ?_) (fun c_134 => ?_)
                · refine ev_st dX12_years_148 rfl rfl ?_
                  refine ev_iconst (v := 2) dX12_years_150 (by decide) ?_
                  refine ev_ic_neN (t := 194) (a := drN (m_dw dn) % 4) (b := 2) dX12_years_151 (by decide) rfl rfl (by omega) (by omega) (fun c_151 => ?_) (fun c_151 => ?_)
                  · refine ev_st dX12_years_194 rfl rfl ?_
                    refine ev_iconst (v := 3) dX12_years_196 (by decide) ?_
                    refine ev_ic_neN (t := 218) (a := drN (m_dw dn) % 4) (b := 3) dX12_years_197 (by decide) rfl rfl (by omega) (by omega) (fun c_197 => ?_) (fun c_197 => ?_)
                    · refine ev_iincN (a := b) (b := b + 1) (L' := [some (.ref 0), some (.int seed), some (.int (nI m)), some (.int (nI (b + 1))), some (.int (nI (drN (m_dw dn) % 4))), some (.int (nI (drN (m_dw ((m_dw dn))) % n)))]) dX12_years_218 rfl (nI_1 _) rfl ?_
                      refine ev_goto (t := 36) dX12_years_221 (by decide) ?_
                      have et : m_y1 (I 2) (I 3) (I 4) (I 5) n c ns rs rv (row, a2, dn) = (row, a2, (m_dw ((m_dw dn)))) := by simp only [m_y1, if_neg c_50, if_pos c_76, if_neg (by omega : ¬ n = 0), if_neg c_107, if_neg c_134]
                      exact ih (b + 1) row a2 ((m_dw ((m_dw dn)))) _ _ _ _ (by omega) (by omega) (by rw [m_ys, ← ht, et]) ha hac2 (yB.w38 (v := m_dw ((m_dw dn))) (yB.w38 (v := m_dw dn) hs2))
                    · omega
                  · omega
                · refine ev_st dX12_years_137 rfl rfl ?_
                  refine ev_getC dX12_years_138 fr_12_55 rfl rfl ?_
                  refine ev_bipush (v := 8) dX12_years_141 (by decide) ?_
                  refine ev_st dX12_years_143 rfl rfl ?_
                  refine ev_iaddN (a := 8) (b := drN (m_dw ((m_dw dn))) % n) (c := 8 + (drN (m_dw ((m_dw dn))) % n)) dX12_years_145 rfl rfl rfl ?_
                  refine ev_iconst (v := 1) dX12_years_146 (by decide) ?_
                  refine ev_iast (j := 8 + (drN (m_dw ((m_dw dn))) % n)) dX12_years_147 rfl rfl (by have := mod8 (x := drN (m_dw (m_dw dn))) c_83 hn8; omega) (by decide) ?_
                  refine ev_st dX12_years_148 rfl rfl ?_
                  refine ev_iconst (v := 2) dX12_years_150 (by decide) ?_
                  refine ev_ic_neN (t := 194) (a := drN (m_dw dn) % 4) (b := 2) dX12_years_151 (by decide) rfl rfl (by omega) (by omega) (fun c_151 => ?_) (fun c_151 => ?_)
                  · refine ev_st dX12_years_194 rfl rfl ?_
                    refine ev_iconst (v := 3) dX12_years_196 (by decide) ?_
                    refine ev_ic_neN (t := 218) (a := drN (m_dw dn) % 4) (b := 3) dX12_years_197 (by decide) rfl rfl (by omega) (by omega) (fun c_197 => ?_) (fun c_197 => ?_)
                    · refine ev_iincN (a := b) (b := b + 1) (L' := [some (.ref 0), some (.int seed), some (.int (nI m)), some (.int (nI (b + 1))), some (.int (nI (drN (m_dw dn) % 4))), some (.int (nI (drN (m_dw ((m_dw dn))) % n)))]) dX12_years_218 rfl (nI_1 _) rfl ?_
                      refine ev_goto (t := 36) dX12_years_221 (by decide) ?_
                      have et : m_y1 (I 2) (I 3) (I 4) (I 5) n c ns rs rv (row, a2, dn) = ((upd row (8 + (drN (m_dw ((m_dw dn))) % n)) 1), a2, (m_dw ((m_dw dn)))) := by simp only [m_y1, if_neg c_50, if_pos c_76, if_neg (by omega : ¬ n = 0), if_neg c_107, if_pos c_134]
                      exact ih (b + 1) ((upd row (8 + (drN (m_dw ((m_dw dn))) % n)) 1)) a2 ((m_dw ((m_dw dn)))) _ _ _ _ (by omega) (by omega) (by rw [m_ys, ← ht, et]) ((upd_ne (by have := mod8 (x := drN (m_dw (m_dw dn))) c_83 hn8; omega)).trans ha) hac2 (yB.w14 (k := 8 + (drN (m_dw ((m_dw dn))) % n)) (v := 1) (yB.w38 (v := m_dw ((m_dw dn))) (yB.w38 (v := m_dw dn) hs2)))
                    · omega
                  · omega
              · refine ev_st dX12_years_110 rfl rfl ?_
                refine ev_getC dX12_years_111 fr_12_55 rfl rfl ?_
                refine ev_bipush (v := 8) dX12_years_114 (by decide) ?_
                refine ev_st dX12_years_116 rfl rfl ?_
                refine ev_iaddN (a := 8) (b := drN (m_dw ((m_dw dn))) % n) (c := 8 + (drN (m_dw ((m_dw dn))) % n)) dX12_years_118 rfl rfl rfl ?_
                refine ev_iconst (v := 0) dX12_years_119 (by decide) ?_
                refine ev_iast (j := 8 + (drN (m_dw ((m_dw dn))) % n)) dX12_years_120 rfl rfl (by have := mod8 (x := drN (m_dw (m_dw dn))) c_83 hn8; omega) (by decide) ?_
                refine ev_goto (t := 148) dX12_years_121 (by decide) ?_
                refine ev_st dX12_years_148 rfl rfl ?_
                refine ev_iconst (v := 2) dX12_years_150 (by decide) ?_
                refine ev_ic_neN (t := 194) (a := drN (m_dw dn) % 4) (b := 2) dX12_years_151 (by decide) rfl rfl (by omega) (by omega) (fun c_151 => ?_) (fun c_151 => ?_)
                · refine ev_st dX12_years_194 rfl rfl ?_
                  refine ev_iconst (v := 3) dX12_years_196 (by decide) ?_
                  refine ev_ic_neN (t := 218) (a := drN (m_dw dn) % 4) (b := 3) dX12_years_197 (by decide) rfl rfl (by omega) (by omega) (fun c_197 => ?_) (fun c_197 => ?_)
                  · refine ev_iincN (a := b) (b := b + 1) (L' := [some (.ref 0), some (.int seed), some (.int (nI m)), some (.int (nI (b + 1))), some (.int (nI (drN (m_dw dn) % 4))), some (.int (nI (drN (m_dw ((m_dw dn))) % n)))]) dX12_years_218 rfl (nI_1 _) rfl ?_
                    refine ev_goto (t := 36) dX12_years_221 (by decide) ?_
                    have et : m_y1 (I 2) (I 3) (I 4) (I 5) n c ns rs rv (row, a2, dn) = ((upd row (8 + (drN (m_dw ((m_dw dn))) % n)) 0), a2, (m_dw ((m_dw dn)))) := by simp only [m_y1, if_neg c_50, if_pos c_76, if_neg (by omega : ¬ n = 0), if_pos c_107]
                    exact ih (b + 1) ((upd row (8 + (drN (m_dw ((m_dw dn))) % n)) 0)) a2 ((m_dw ((m_dw dn)))) _ _ _ _ (by omega) (by omega) (by rw [m_ys, ← ht, et]) ((upd_ne (by have := mod8 (x := drN (m_dw (m_dw dn))) c_83 hn8; omega)).trans ha) hac2 (yB.w14 (k := 8 + (drN (m_dw ((m_dw dn))) % n)) (v := 0) (yB.w38 (v := m_dw ((m_dw dn))) (yB.w38 (v := m_dw dn) hs2)))
                  · omega
                · omega
        · refine ev_st dX12_years_53 rfl rfl ?_
          refine ev_st dX12_years_54 rfl rfl ?_
          refine ev_getC dX12_years_55 fr_12_55 rfl rfl ?_
          refine ev_call dX12_years_58 rfl rfl mr_12_269 rfl rfl rfl ((by have K := c_refusesStept (I := ti_wr I2 0 38 (m_dw dn)) (J := J) (R := R2) (d := d + 96) ((((yB.w38 (v := m_dw dn) hs2)).f 3 rfl).trans hA.1) hn8 ((((yB.w38 (v := m_dw dn) hs2)).f 1 rfl).trans hA.2.2.1) hc12 ((congrFun ((((yB.w38 (v := m_dw dn) hs2)).r 14 rfl).trans va_up_q) 24).trans ha) ha12; rw [show (ti_wr I2 0 38 (m_dw dn)) 14 = row from (((yB.w38 (v := m_dw dn) hs2)).r 14 rfl).trans va_up_q] at K; exact K)) ?_
          rintro _ _ ⟨rfl, rfl⟩
          show Ev lyM (d + 98) hX12_years 61 [some (.ref 0), some (.int seed), some (.int (nI m)), some (.int (nI b)), some (.int (nI (drN (m_dw dn) % 4))), z5] [.int (m_rS c a2 (m_cy row n))] (ti_wr I2 0 38 (m_dw dn), J, R2) _
          refine ev_if_ne (t := 73) (x := m_rS c a2 (m_cy row n)) dX12_years_61 (by decide) (fun c_61 => ?_) (fun c_61 => ?_)
          · refine ev_st dX12_years_73 rfl rfl ?_
            refine ev_iconst (v := 1) dX12_years_75 (by decide) ?_
            refine ev_ic_neN (t := 148) (a := drN (m_dw dn) % 4) (b := 1) dX12_years_76 (by decide) rfl rfl (by omega) (by omega) (fun c_76 => ?_) (fun c_76 => ?_)
            · refine ev_st dX12_years_148 rfl rfl ?_
              refine ev_iconst (v := 2) dX12_years_150 (by decide) ?_
              refine ev_ic_neN (t := 194) (a := drN (m_dw dn) % 4) (b := 2) dX12_years_151 (by decide) rfl rfl (by omega) (by omega) (fun c_151 => ?_) (fun c_151 => ?_)
              · refine ev_st dX12_years_194 rfl rfl ?_
                refine ev_iconst (v := 3) dX12_years_196 (by decide) ?_
                refine ev_ic_neN (t := 218) (a := drN (m_dw dn) % 4) (b := 3) dX12_years_197 (by decide) rfl rfl (by omega) (by omega) (fun c_197 => ?_) (fun c_197 => ?_)
                · refine ev_iincN (a := b) (b := b + 1) (L' := [some (.ref 0), some (.int seed), some (.int (nI m)), some (.int (nI (b + 1))), some (.int (nI (drN (m_dw dn) % 4))), z5]) dX12_years_218 rfl (nI_1 _) rfl ?_
                  refine ev_goto (t := 36) dX12_years_221 (by decide) ?_
                  have et : m_y1 (I 2) (I 3) (I 4) (I 5) n c ns rs rv (row, a2, dn) = (row, a2, (m_dw dn)) := by simp only [m_y1, if_pos c_50, if_neg c_61]
                  exact ih (b + 1) row a2 ((m_dw dn)) _ _ _ _ (by omega) (by omega) (by rw [m_ys, ← ht, et]) ha hac2 (yB.w38 (v := m_dw dn) hs2)
                · omega
              · omega
            · omega
          · refine ev_st dX12_years_64 rfl rfl ?_
            refine ev_st dX12_years_65 rfl rfl ?_
            refine ev_getC dX12_years_66 fr_12_55 rfl rfl ?_
            refine ev_call dX12_years_69 rfl rfl mr_12_276 rfl rfl rfl (Cal.mono (by omega) (c_goT (I := ti_wr (ti_wr I 0 12 0) 0 38 ((m_dw dn))) (J := J) (hA.w38 _) ha ha12 (yB.w38 (v := m_dw dn) hs2))) ?_
            rintro _ _ ⟨rfl, I3, R3, rfl, hs3⟩
            show Ev lyM (d + 98) hX12_years 72 [some (.ref 0), some (.int seed), some (.int (nI m)), some (.int (nI b)), some (.int (nI (drN (m_dw dn) % 4))), z5] [.int (m_SG (I 2) (I 3) (I 4) n c rs rv row a2)] (I3, J, R3) _
            refine ev_st dX12_years_72 rfl rfl ?_
            refine ev_st dX12_years_73 rfl rfl ?_
            refine ev_iconst (v := 1) dX12_years_75 (by decide) ?_
            refine ev_ic_neN (t := 148) (a := drN (m_dw dn) % 4) (b := 1) dX12_years_76 (by decide) rfl rfl (by omega) (by omega) (fun c_76 => ?_) (fun c_76 => ?_)
            · refine ev_st dX12_years_148 rfl rfl ?_
              refine ev_iconst (v := 2) dX12_years_150 (by decide) ?_
              refine ev_ic_neN (t := 194) (a := drN (m_dw dn) % 4) (b := 2) dX12_years_151 (by decide) rfl rfl (by omega) (by omega) (fun c_151 => ?_) (fun c_151 => ?_)
              · refine ev_st dX12_years_194 rfl rfl ?_
                refine ev_iconst (v := 3) dX12_years_196 (by decide) ?_
                refine ev_ic_neN (t := 218) (a := drN (m_dw dn) % 4) (b := 3) dX12_years_197 (by decide) rfl rfl (by omega) (by omega) (fun c_197 => ?_) (fun c_197 => ?_)
                · refine ev_iincN (a := b) (b := b + 1) (L' := [some (.ref 0), some (.int seed), some (.int (nI m)), some (.int (nI (b + 1))), some (.int (nI (drN (m_dw dn) % 4))), z5]) dX12_years_218 rfl (nI_1 _) rfl ?_
                  refine ev_goto (t := 36) dX12_years_221 (by decide) ?_
                  have et : m_y1 (I 2) (I 3) (I 4) (I 5) n c ns rs rv (row, a2, dn) = ((m_NX (I 2) (I 3) (I 4) n c rs rv row a2), (a2 + 1), (m_dw dn)) := by simp only [m_y1, if_pos c_50, if_pos c_61]
                  exact ih (b + 1) ((m_NX (I 2) (I 3) (I 4) n c rs rv row a2)) ((a2 + 1)) ((m_dw dn)) _ _ _ _ (by omega) (by omega) (by rw [m_ys, ← ht, et]) (m_NX_24 ha) (rS_lt c_61) hs3
                · omega
              · omega
            · omega
  show Ev lyM (d + 98) hX12_years 0 [some (.ref 0), some (.int seed), some (.int (nI m)), none, none, none] [] (I, J, R) _
  refine ev_st dX12_years_0 rfl rfl ?_
  refine ev_iconst (v := 0) dX12_years_1 (by decide) ?_
  refine ev_putI dX12_years_2 fr_12_89 rfl rfl ?_
  refine ev_st dX12_years_5 rfl rfl ?_
  refine ev_iconst (v := 1) dX12_years_6 (by decide) ?_
  refine ev_bipush (v := 60) dX12_years_7 (by decide) ?_
  refine ev_call dX12_years_9 rfl rfl mr_12_98 rfl rfl rfl (c_in1 hx) ?_
  rintro _ _ ⟨rfl, rfl⟩
  show Ev lyM (d + 98) hX12_years 12 [some (.ref 0), some (.int seed), some (.int (nI m)), none, none, none] [.int 1] (ti_wr I 0 12 0, J, R) _
  refine ev_if_ne (t := 17) dX12_years_12 (by decide) (fun _ => ?_) (fun q => absurd q (by decide))
  refine ev_st dX12_years_17 rfl rfl ?_
  refine ev_st dX12_years_18 rfl rfl ?_
  refine ev_putI dX12_years_19 fr_12_385 rfl rfl ?_
  refine ev_st dX12_years_22 rfl rfl ?_
  refine ev_getC dX12_years_23 fr_12_9 rfl rfl ?_
  refine ev_st dX12_years_26 rfl rfl ?_
  refine ev_getC dX12_years_27 fr_12_55 rfl rfl ?_
  refine ev_iconst (v := 0) dX12_years_30 (by decide) ?_
  refine ev_call dX12_years_31 rfl rfl mr_12_257 rfl rfl rfl (c_lay_1_14 (I := ti_wr (ti_wr I 0 12 0) 0 38 seed) (k := 0) (by decide)) ?_
  rintro _ _ ⟨rfl, rfl⟩
  show Ev lyM (d + 98) hX12_years 34 [some (.ref 0), some (.int seed), some (.int (nI m)), none, none, none] [] (va_up (ti_wr (ti_wr I 0 12 0) 0 38 seed) 14 (m_tn (I 1) (I 14)), J, R) _
  refine ev_iconst (v := 0) dX12_years_34 (by decide) ?_
  refine ev_st (L' := [some (.ref 0), some (.int seed), some (.int (nI m)), some (.int 0), none, none]) dX12_years_35 rfl rfl ?_
  exact loop (m + 1) 0 (m_tn (I 1) (I 14)) a seed _ _ _ _ (by omega) (by omega) rfl ha hac sM.rf
