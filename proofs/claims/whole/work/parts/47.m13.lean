/-! the model: changes, slants, rest, how much it bears, what could be said -/
def m_ch1 (F : Int32 → Int32) (x : Int32) (a : Nat) (t : Int32 × Int32 × Int32) (b : Nat) : Int32 × Int32 × Int32 := if m_has x (nI a) = 0 then t else if m_has x (nI b) = 0 then (if t.1 < F ((x &&& (((1 : Int32) <<< (nI a &&& 31)) ^^^ (-1))) ||| ((1 : Int32) <<< (nI b &&& 31))) then (F ((x &&& (((1 : Int32) <<< (nI a &&& 31)) ^^^ (-1))) ||| ((1 : Int32) <<< (nI b &&& 31))), nI a, nI b) else t) else t
def m_chI (F : Int32 → Int32) (x : Int32) (a : Nat) (t : Int32 × Int32 × Int32) : Nat → Int32 × Int32 × Int32
  | 0 => t
  | b + 1 => m_ch1 F x a (m_chI F x a t b) b
def m_chO (F : Int32 → Int32) (x : Int32) (n : Nat) : Nat → Int32 × Int32 × Int32
  | 0 => (-1, -1, -1)
  | a + 1 => m_chI F x a (m_chO F x n a) n
def m_ab (x : Int32) : Int32 := if 0 ≤ x then x else 0 - x
def m_sl1 (h : Nat → Int32) (x : Int32) (a : Nat) (t : Int32 × Int32 × Int32) (b : Nat) : Int32 × Int32 × Int32 := if m_has x (nI a) = 0 then t else if m_has x (nI b) = 0 then t else if t.1 < m_ab (h a - h b) then (m_ab (h a - h b), nI a, nI b) else t
def m_slI (h : Nat → Int32) (x : Int32) (a : Nat) (t : Int32 × Int32 × Int32) : Nat → Int32 × Int32 × Int32
  | 0 => t
  | b + 1 => if b ≤ a then t else m_sl1 h x a (m_slI h x a t b) b
theorem m_slI_le {h : Nat → Int32} {x : Int32} {a : Nat} {t : Int32 × Int32 × Int32} : ∀ b, b ≤ a + 1 → m_slI h x a t b = t
  | 0, _ => rfl
  | b + 1, q => by simp only [m_slI, if_pos (by omega : b ≤ a)]
def m_slO (h : Nat → Int32) (x : Int32) (n : Nat) : Nat → Int32 × Int32 × Int32
  | 0 => (-1, -1, -1)
  | a + 1 => m_slI h x a (m_slO h x n a) n
theorem sM.eq {I I1 I2 : Nat → Nat → Int32} {R R2 : Nat → Nat → Value} (e : I = I1) (h : sM I R I2 R2) : sM I1 R I2 R2 := e ▸ h
theorem wr_up0 {I : Nat → Nat → Int32} {q k : Nat} {r : Nat → Int32} {v : Int32} : ti_wr (va_up I (q + 1) r) 0 k v = va_up (ti_wr I 0 k v) (q + 1) r := by
  funext p j
  by_cases hp : p = 0
  · subst hp; simp [ti_wr, va_up]
  · by_cases hq : p = q + 1
    · subst hq; simp [ti_wr, va_up]
    · simp [ti_wr, va_up, hp, hq]
set_option maxHeartbeats 1000000 in
theorem c_change {I : Nat → Nat → Int32} {J : Nat → Nat → Int64} {R : Nat → Nat → Value} {d n c a rp rs : Nat} {rv : RV} (hA : mA I R d n c rp rs rv) (ha : I 1 24 = nI a) (hac : a ≤ c) : Cal lyM (d + 96) hX12_change 8 [.ref 0] (I, J, R) (fun r M' => if (m_chO (m_FX (I 2) (I 3) (I 4) n c rs rv (I 1) a) (m_cy (I 1) n) n n).1 = -1 then r = some (.int (-2)) ∧ ∃ I3 R3, M' = (I3, J, R3) ∧ sM (ti_wr I 0 12 0) R I3 R3 else r = some (.int (m_chO (m_FX (I 2) (I 3) (I 4) n c rs rv (I 1) a) (m_cy (I 1) n) n n).1) ∧ ∃ I3 R3, M' = (I3, ti_wl (ti_wl J 7 0 ((m_chO (m_FX (I 2) (I 3) (I 4) n c rs rv (I 1) a) (m_cy (I 1) n) n n).2.1).toInt64) 7 1 ((m_chO (m_FX (I 2) (I 3) (I 4) n c rs rv (I 1) a) (m_cy (I 1) n) n n).2.2).toInt64, R3) ∧ sM (ti_wr (ti_wr I 0 12 0) 0 11 (nI 2)) R I3 R3) := by
  have hn := hA.1
  have hn8 := hA.2.1
  have hc12 := hA.2.2.2.1
  have ha12 : a ≤ 12 := by omega
  have hB : mB 1 (ti_wr I 0 12 0) R d n c a rp rs rv := hA.w.b1 ha ha12
  have loop : ∀ (k u : Nat) (m l o : Int32) (z6 : Option Value) (z7 : Option Value) (I2 : Nat → Nat → Int32) (R2 : Nat → Nat → Value), u ≤ n → n - u < k → (m, l, o) = m_chO (m_FX (I 2) (I 3) (I 4) n c rs rv (I 1) a) (m_cy (I 1) n) n u → sM (ti_wr I 0 12 0) R I2 R2 → Ev lyM (d + 96) hX12_change 24 [some (.ref 0), some (.int (m_cy (I 1) n)), some (.int m), some (.int l), some (.int o), some (.int (nI u)), z6, z7] [] (I2, J, R2) (fun r M' => if (m_chO (m_FX (I 2) (I 3) (I 4) n c rs rv (I 1) a) (m_cy (I 1) n) n n).1 = -1 then r = some (.int (-2)) ∧ ∃ I3 R3, M' = (I3, J, R3) ∧ sM (ti_wr I 0 12 0) R I3 R3 else r = some (.int (m_chO (m_FX (I 2) (I 3) (I 4) n c rs rv (I 1) a) (m_cy (I 1) n) n n).1) ∧ ∃ I3 R3, M' = (I3, ti_wl (ti_wl J 7 0 ((m_chO (m_FX (I 2) (I 3) (I 4) n c rs rv (I 1) a) (m_cy (I 1) n) n n).2.1).toInt64) 7 1 ((m_chO (m_FX (I 2) (I 3) (I 4) n c rs rv (I 1) a) (m_cy (I 1) n) n n).2.2).toInt64, R3) ∧ sM (ti_wr (ti_wr I 0 12 0) 0 11 (nI 2)) R I3 R3) := by
    intro k
    induction k with
    | zero => intro u m l o z6 z7 I2 R2 h1 h2; omega
    | succ k ih =>
      intro u m l o z6 z7 I2 R2 hu hk ht0 hs2
      have inner : u < n → ∀ (k2 b : Nat) (m l o : Int32) (z7 : Option Value) (I2 : Nat → Nat → Int32) (R2 : Nat → Nat → Value), 0 ≤ b → b ≤ n → n - b < k2 → (m, l, o) = m_chI (m_FX (I 2) (I 3) (I 4) n c rs rv (I 1) a) (m_cy (I 1) n) u (m_chO (m_FX (I 2) (I 3) (I 4) n c rs rv (I 1) a) (m_cy (I 1) n) n u) b → sM (ti_wr I 0 12 0) R I2 R2 → Ev lyM (d + 96) hX12_change 36 [some (.ref 0), some (.int (m_cy (I 1) n)), some (.int m), some (.int l), some (.int o), some (.int (nI u)), some (.int (nI b)), z7] [] (I2, J, R2) (fun r M' => if (m_chO (m_FX (I 2) (I 3) (I 4) n c rs rv (I 1) a) (m_cy (I 1) n) n n).1 = -1 then r = some (.int (-2)) ∧ ∃ I3 R3, M' = (I3, J, R3) ∧ sM (ti_wr I 0 12 0) R I3 R3 else r = some (.int (m_chO (m_FX (I 2) (I 3) (I 4) n c rs rv (I 1) a) (m_cy (I 1) n) n n).1) ∧ ∃ I3 R3, M' = (I3, ti_wl (ti_wl J 7 0 ((m_chO (m_FX (I 2) (I 3) (I 4) n c rs rv (I 1) a) (m_cy (I 1) n) n n).2.1).toInt64) 7 1 ((m_chO (m_FX (I 2) (I 3) (I 4) n c rs rv (I 1) a) (m_cy (I 1) n) n n).2.2).toInt64, R3) ∧ sM (ti_wr (ti_wr I 0 12 0) 0 11 (nI 2)) R I3 R3) := by
        intro huc k2
        induction k2 with
        | zero => intro b m l o z7 I2 R2 h0 h1 h2; omega
        | succ k2 ih2 =>
          intro b m l o z7 I2 R2 hb0 hb hk2 ht hs2
          refine ev_st dX12_change_36 rfl rfl ?_
          refine ev_st dX12_change_38 rfl rfl ?_
          refine ev_getI (v := nI n) dX12_change_39 fr_12_95 rfl rfl ((hs2.f 3 rfl).trans hn) ?_
          refine ev_ic_geN (t := 114) (a := b) (b := n) dX12_change_42 (by decide) rfl rfl (by omega) (by omega) (fun c_42 => ?_) (fun c_42 => ?_)
          · refine ev_iincN (a := u) (b := u + 1) (L' := [some (.ref 0), some (.int (m_cy (I 1) n)), some (.int m), some (.int l), some (.int o), some (.int (nI (u + 1))), some (.int (nI b)), z7]) dX12_change_114 rfl (nI_1 _) rfl ?_
            refine ev_goto (t := 24) dX12_change_117 (by decide) ?_
            exact ih _ _ _ _ _ _ _ _ (by omega) (by omega) (by rw [show b = n by omega] at ht; exact ht) hs2
          · refine ev_st dX12_change_45 rfl rfl ?_
            refine ev_st dX12_change_46 rfl rfl ?_
            refine ev_call dX12_change_48 rfl rfl mr_12_201 rfl rfl rfl (c_has (m_cy (I 1) n) (nI u)) ?_
            rintro _ _ ⟨rfl, rfl⟩
            show Ev lyM (d + 96) hX12_change 51 [some (.ref 0), some (.int (m_cy (I 1) n)), some (.int m), some (.int l), some (.int o), some (.int (nI u)), some (.int (nI b)), z7] [.int (m_has (m_cy (I 1) n) (nI u))] (I2, J, R2) _
            refine ev_if_eq (t := 108) (x := m_has (m_cy (I 1) n) (nI u)) dX12_change_51 (by decide) (fun c_51 => ?_) (fun c_51 => ?_)
            · refine ev_iincN (a := b) (b := b + 1) (L' := [some (.ref 0), some (.int (m_cy (I 1) n)), some (.int m), some (.int l), some (.int o), some (.int (nI u)), some (.int (nI (b + 1))), z7]) dX12_change_108 rfl (nI_1 _) rfl ?_
              refine ev_goto (t := 36) dX12_change_111 (by decide) ?_
              exact ih2 _ _ _ _ _ _ _ (by omega) (by omega) (by omega) (by simp only [m_chI, ← ht, m_ch1, if_pos c_51]) hs2
            · refine ev_st dX12_change_54 rfl rfl ?_
              refine ev_st dX12_change_55 rfl rfl ?_
              refine ev_call dX12_change_57 rfl rfl mr_12_201 rfl rfl rfl (c_has (m_cy (I 1) n) (nI b)) ?_
              rintro _ _ ⟨rfl, rfl⟩
              show Ev lyM (d + 96) hX12_change 60 [some (.ref 0), some (.int (m_cy (I 1) n)), some (.int m), some (.int l), some (.int o), some (.int (nI u)), some (.int (nI b)), z7] [.int (m_has (m_cy (I 1) n) (nI b))] (I2, J, R2) _
              refine ev_if_eq (t := 66) (x := m_has (m_cy (I 1) n) (nI b)) dX12_change_60 (by decide) (fun c_60 => ?_) (fun c_60 => ?_)
              · refine ev_st dX12_change_66 rfl rfl ?_
                refine ev_st dX12_change_67 rfl rfl ?_
                refine ev_getC dX12_change_68 fr_12_9 rfl rfl ?_
                refine ev_st dX12_change_71 rfl rfl ?_
                refine ev_iconst (v := 1) dX12_change_72 (by decide) ?_
                refine ev_st dX12_change_73 rfl rfl ?_
                refine ev_st dX12_change_75 rfl rfl ?_
                refine ev_iconst (v := -1) dX12_change_76 (by decide) ?_
                refine ev_st dX12_change_77 rfl rfl ?_
                refine ev_st dX12_change_78 rfl rfl ?_
                refine ev_iconst (v := 1) dX12_change_79 (by decide) ?_
                refine ev_st dX12_change_80 rfl rfl ?_
                refine ev_st dX12_change_82 rfl rfl ?_
                refine ev_st dX12_change_83 rfl rfl ?_
                refine ev_call dX12_change_84 rfl rfl mr_12_230 rfl rfl rfl (Cal.mono (by omega) (c_forceOf (J := J) hB hs2 (((m_cy (I 1) n) &&& (((1 : Int32) <<< ((nI u) &&& 31)) ^^^ ((-1)))) ||| ((1 : Int32) <<< ((nI b) &&& 31))))) ?_
                rintro _ _ ⟨rfl, I3, R3, rfl, hs3⟩
                show Ev lyM (d + 96) hX12_change 87 [some (.ref 0), some (.int (m_cy (I 1) n)), some (.int m), some (.int l), some (.int o), some (.int (nI u)), some (.int (nI b)), z7] [.int (m_FX (I 2) (I 3) (I 4) n c rs rv (I 1) a (((m_cy (I 1) n) &&& (((1 : Int32) <<< ((nI u) &&& 31)) ^^^ ((-1)))) ||| ((1 : Int32) <<< ((nI b) &&& 31))))] (I3, J, R3) _
                refine ev_st (L' := [some (.ref 0), some (.int (m_cy (I 1) n)), some (.int m), some (.int l), some (.int o), some (.int (nI u)), some (.int (nI b)), some (.int (m_FX (I 2) (I 3) (I 4) n c rs rv (I 1) a (((m_cy (I 1) n) &&& (((1 : Int32) <<< ((nI u) &&& 31)) ^^^ ((-1)))) ||| ((1 : Int32) <<< ((nI b) &&& 31)))))]) dX12_change_87 rfl rfl ?_
                refine ev_st dX12_change_89 rfl rfl ?_
                refine ev_st dX12_change_91 rfl rfl ?_
                refine ev_ic_gt (t := 98) (x := m_FX (I 2) (I 3) (I 4) n c rs rv (I 1) a (((m_cy (I 1) n) &&& (((1 : Int32) <<< ((nI u) &&& 31)) ^^^ ((-1)))) ||| ((1 : Int32) <<< ((nI b) &&& 31)))) (y := m) dX12_change_92 (by decide) (fun c_92 => ?_) (fun c_92 => ?_)
                · refine ev_st dX12_change_98 rfl rfl ?_
                  refine ev_st (L' := [some (.ref 0), some (.int (m_cy (I 1) n)), some (.int (m_FX (I 2) (I 3) (I 4) n c rs rv (I 1) a (((m_cy (I 1) n) &&& (((1 : Int32) <<< ((nI u) &&& 31)) ^^^ ((-1)))) ||| ((1 : Int32) <<< ((nI b) &&& 31))))), some (.int l), some (.int o), some (.int (nI u)), some (.int (nI b)), some (.int (m_FX (I 2) (I 3) (I 4) n c rs rv (I 1) a (((m_cy (I 1) n) &&& (((1 : Int32) <<< ((nI u) &&& 31)) ^^^ ((-1)))) ||| ((1 : Int32) <<< ((nI b) &&& 31)))))]) dX12_change_100 rfl rfl ?_
                  refine ev_st dX12_change_101 rfl rfl ?_
                  refine ev_st (L' := [some (.ref 0), some (.int (m_cy (I 1) n)), some (.int (m_FX (I 2) (I 3) (I 4) n c rs rv (I 1) a (((m_cy (I 1) n) &&& (((1 : Int32) <<< ((nI u) &&& 31)) ^^^ ((-1)))) ||| ((1 : Int32) <<< ((nI b) &&& 31))))), some (.int (nI u)), some (.int o), some (.int (nI u)), some (.int (nI b)), some (.int (m_FX (I 2) (I 3) (I 4) n c rs rv (I 1) a (((m_cy (I 1) n) &&& (((1 : Int32) <<< ((nI u) &&& 31)) ^^^ ((-1)))) ||| ((1 : Int32) <<< ((nI b) &&& 31)))))]) dX12_change_103 rfl rfl ?_
                  refine ev_st dX12_change_104 rfl rfl ?_
                  refine ev_st (L' := [some (.ref 0), some (.int (m_cy (I 1) n)), some (.int (m_FX (I 2) (I 3) (I 4) n c rs rv (I 1) a (((m_cy (I 1) n) &&& (((1 : Int32) <<< ((nI u) &&& 31)) ^^^ ((-1)))) ||| ((1 : Int32) <<< ((nI b) &&& 31))))), some (.int (nI u)), some (.int (nI b)), some (.int (nI u)), some (.int (nI b)), some (.int (m_FX (I 2) (I 3) (I 4) n c rs rv (I 1) a (((m_cy (I 1) n) &&& (((1 : Int32) <<< ((nI u) &&& 31)) ^^^ ((-1)))) ||| ((1 : Int32) <<< ((nI b) &&& 31)))))]) dX12_change_106 rfl rfl ?_
                  refine ev_iincN (a := b) (b := b + 1) (L' := [some (.ref 0), some (.int (m_cy (I 1) n)), some (.int (m_FX (I 2) (I 3) (I 4) n c rs rv (I 1) a (((m_cy (I 1) n) &&& (((1 : Int32) <<< ((nI u) &&& 31)) ^^^ ((-1)))) ||| ((1 : Int32) <<< ((nI b) &&& 31))))), some (.int (nI u)), some (.int (nI b)), some (.int (nI u)), some (.int (nI (b + 1))), some (.int (m_FX (I 2) (I 3) (I 4) n c rs rv (I 1) a (((m_cy (I 1) n) &&& (((1 : Int32) <<< ((nI u) &&& 31)) ^^^ ((-1)))) ||| ((1 : Int32) <<< ((nI b) &&& 31)))))]) dX12_change_108 rfl (nI_1 _) rfl ?_
                  refine ev_goto (t := 36) dX12_change_111 (by decide) ?_
                  exact ih2 _ _ _ _ _ _ _ (by omega) (by omega) (by omega) (by simp only [m_chI, ← ht, m_ch1, if_neg c_51, if_pos c_60, if_pos c_92]) hs3
                · refine ev_goto (t := 108) dX12_change_95 (by decide) ?_
                  refine ev_iincN (a := b) (b := b + 1) (L' := [some (.ref 0), some (.int (m_cy (I 1) n)), some (.int m), some (.int l), some (.int o), some (.int (nI u)), some (.int (nI (b + 1))), some (.int (m_FX (I 2) (I 3) (I 4) n c rs rv (I 1) a (((m_cy (I 1) n) &&& (((1 : Int32) <<< ((nI u) &&& 31)) ^^^ ((-1)))) ||| ((1 : Int32) <<< ((nI b) &&& 31)))))]) dX12_change_108 rfl (nI_1 _) rfl ?_
                  refine ev_goto (t := 36) dX12_change_111 (by decide) ?_
                  exact ih2 _ _ _ _ _ _ _ (by omega) (by omega) (by omega) (by simp only [m_chI, ← ht, m_ch1, if_neg c_51, if_pos c_60, if_neg c_92]) hs3
              · refine ev_goto (t := 108) dX12_change_63 (by decide) ?_
                refine ev_iincN (a := b) (b := b + 1) (L' := [some (.ref 0), some (.int (m_cy (I 1) n)), some (.int m), some (.int l), some (.int o), some (.int (nI u)), some (.int (nI (b + 1))), z7]) dX12_change_108 rfl (nI_1 _) rfl ?_
                refine ev_goto (t := 36) dX12_change_111 (by decide) ?_
                exact ih2 _ _ _ _ _ _ _ (by omega) (by omega) (by omega) (by simp only [m_chI, ← ht, m_ch1, if_neg c_51, if_neg c_60]) hs2
      refine ev_st dX12_change_24 rfl rfl ?_
      refine ev_st dX12_change_26 rfl rfl ?_
      refine ev_getI (v := nI n) dX12_change_27 fr_12_95 rfl rfl ((hs2.f 3 rfl).trans hn) ?_
      refine ev_ic_geN (t := 120) (a := u) (b := n) dX12_change_30 (by decide) rfl rfl (by omega) (by omega) (fun c_30 => ?_) (fun c_30 => ?_)
      · refine ev_st dX12_change_120 rfl rfl ?_
        refine ev_iconst (v := -1) dX12_change_121 (by decide) ?_
        refine ev_ic_ne (t := 128) (x := m) (y := (-1)) dX12_change_122 (by decide) (fun c_122 => ?_) (fun c_122 => ?_)
        · refine ev_st dX12_change_128 rfl rfl ?_
          refine ev_iconst (v := 0) dX12_change_129 (by decide) ?_
          refine ev_putI dX12_change_130 fr_12_92 rfl rfl ?_
          refine ev_st dX12_change_133 rfl rfl ?_
          refine ev_st dX12_change_134 rfl rfl ?_
          refine ev_st dX12_change_135 rfl rfl ?_
          refine ev_call dX12_change_136 rfl rfl mr_12_253 rfl rfl rfl (c_tell (m := 0) rfl (by decide) l.toInt64) ?_
          rintro _ _ ⟨rfl, rfl⟩
          show Ev lyM (d + 96) hX12_change 139 [some (.ref 0), some (.int (m_cy (I 1) n)), some (.int m), some (.int l), some (.int o), some (.int (nI u)), z6, z7] [] (ti_wr (ti_wr I2 0 11 0) 0 11 (nI 1), ti_wl J 7 0 l.toInt64, R2) _
          refine ev_st dX12_change_139 rfl rfl ?_
          refine ev_st dX12_change_140 rfl rfl ?_
          refine ev_st dX12_change_142 rfl rfl ?_
          refine ev_call dX12_change_143 rfl rfl mr_12_253 rfl rfl rfl (c_tell (m := 1) rfl (by decide) o.toInt64) ?_
          rintro _ _ ⟨rfl, rfl⟩
          show Ev lyM (d + 96) hX12_change 146 [some (.ref 0), some (.int (m_cy (I 1) n)), some (.int m), some (.int l), some (.int o), some (.int (nI u)), z6, z7] [] (ti_wr (ti_wr (ti_wr I2 0 11 0) 0 11 (nI 1)) 0 11 (nI 2), ti_wl (ti_wl J 7 0 l.toInt64) 7 1 o.toInt64, R2) _
          refine ev_st dX12_change_146 rfl rfl ?_
          exact ev_iret dX12_change_147 rfl (by rw [show u = n by omega] at ht0; rw [← ht0]; rw [if_neg c_122]; exact ⟨rfl, _, _, rfl, by simpa only [ti_wr2] using hs2.wr 0 11 (nI 2)⟩)
        · refine ev_bipush (v := -2) dX12_change_125 (by decide) ?_
          exact ev_iret dX12_change_127 rfl (by rw [show u = n by omega] at ht0; rw [← ht0]; rw [if_pos c_122]; exact ⟨rfl, _, _, rfl, hs2⟩)
      · refine ev_iconst (v := 0) dX12_change_33 (by decide) ?_
        refine ev_st (L' := [some (.ref 0), some (.int (m_cy (I 1) n)), some (.int m), some (.int l), some (.int o), some (.int (nI u)), some (.int 0), z7]) dX12_change_34 rfl rfl ?_
        exact inner c_30 (n + 1) 0 _ _ _ _ _ _ (by omega) (by omega) (by omega) (by rw [ht0]; exact rfl) hs2
  show Ev lyM (d + 96) hX12_change 0 [some (.ref 0), none, none, none, none, none, none, none] [] (I, J, R) _
  refine ev_st dX12_change_0 rfl rfl ?_
  refine ev_iconst (v := 0) dX12_change_1 (by decide) ?_
  refine ev_putI dX12_change_2 fr_12_89 rfl rfl ?_
  refine ev_st dX12_change_5 rfl rfl ?_
  refine ev_st dX12_change_6 rfl rfl ?_
  refine ev_getC dX12_change_7 fr_12_9 rfl rfl ?_
  refine ev_call dX12_change_10 rfl rfl mr_12_244 rfl rfl rfl (c_carry (I := ti_wr I 0 12 0) hn hn8) ?_
  rintro _ _ ⟨rfl, rfl⟩
  show Ev lyM (d + 96) hX12_change 13 [some (.ref 0), none, none, none, none, none, none, none] [.int (m_cy (I 1) n)] (ti_wr I 0 12 0, J, R) _
  refine ev_st (L' := [some (.ref 0), some (.int (m_cy (I 1) n)), none, none, none, none, none, none]) dX12_change_13 rfl rfl ?_
  refine ev_iconst (v := -1) dX12_change_14 (by decide) ?_
  refine ev_st (L' := [some (.ref 0), some (.int (m_cy (I 1) n)), some (.int ((-1))), none, none, none, none, none]) dX12_change_15 rfl rfl ?_
  refine ev_iconst (v := -1) dX12_change_16 (by decide) ?_
  refine ev_st (L' := [some (.ref 0), some (.int (m_cy (I 1) n)), some (.int ((-1))), some (.int ((-1))), none, none, none, none]) dX12_change_17 rfl rfl ?_
  refine ev_iconst (v := -1) dX12_change_18 (by decide) ?_
  refine ev_st (L' := [some (.ref 0), some (.int (m_cy (I 1) n)), some (.int ((-1))), some (.int ((-1))), some (.int ((-1))), none, none, none]) dX12_change_19 rfl rfl ?_
  refine ev_iconst (v := 0) dX12_change_21 (by decide) ?_
  refine ev_st (L' := [some (.ref 0), some (.int (m_cy (I 1) n)), some (.int ((-1))), some (.int ((-1))), some (.int ((-1))), some (.int 0), none, none]) dX12_change_22 rfl rfl ?_
  exact loop (n + 1) 0 (-1) (-1) (-1) _ _ _ _ (by omega) (by omega) rfl sM.rf
theorem m_ab_e (x : Int32) : m_ab x = if 0 ≤ x then x else 0 - x := rfl
set_option maxHeartbeats 1000000 in
theorem c_slant {I : Nat → Nat → Int32} {J : Nat → Nat → Int64} {R : Nat → Nat → Value} {d n : Nat} (hn : I 0 3 = nI n) (hn8 : n ≤ 8) : Cal lyM (d + 1) hX12_slant 7 [.ref 0] (I, J, R) (fun r M' => if (m_slO (I 4) (m_cy (I 1) n) n n).1 = -1 then r = some (.int (-2)) ∧ M' = (ti_wr I 0 12 0, J, R) else r = some (.int (m_slO (I 4) (m_cy (I 1) n) n n).1) ∧ M' = (ti_wr (ti_wr I 0 12 0) 0 11 (nI 2), ti_wl (ti_wl J 7 0 ((m_slO (I 4) (m_cy (I 1) n) n n).2.1).toInt64) 7 1 ((m_slO (I 4) (m_cy (I 1) n) n n).2.2).toInt64, R)) := by
  have loop : ∀ (k u : Nat) (m l o : Int32) (z6 : Option Value), u ≤ n → n - u < k → (m, l, o) = m_slO (I 4) (m_cy (I 1) n) n u → Ev lyM (d + 1) hX12_slant 24 [some (.ref 0), some (.int (m_cy (I 1) n)), some (.int m), some (.int l), some (.int o), some (.int (nI u)), z6] [] (ti_wr I 0 12 0, J, R) (fun r M' => if (m_slO (I 4) (m_cy (I 1) n) n n).1 = -1 then r = some (.int (-2)) ∧ M' = (ti_wr I 0 12 0, J, R) else r = some (.int (m_slO (I 4) (m_cy (I 1) n) n n).1) ∧ M' = (ti_wr (ti_wr I 0 12 0) 0 11 (nI 2), ti_wl (ti_wl J 7 0 ((m_slO (I 4) (m_cy (I 1) n) n n).2.1).toInt64) 7 1 ((m_slO (I 4) (m_cy (I 1) n) n n).2.2).toInt64, R)) := by
    intro k
    induction k with
    | zero => intro u m l o z6 h1 h2; omega
    | succ k ih =>
      intro u m l o z6 hu hk ht0
      have inner : u < n → ∀ (k2 b : Nat) (m l o : Int32), u + 1 ≤ b → b ≤ n → n - b < k2 → (m, l, o) = m_slI (I 4) (m_cy (I 1) n) u (m_slO (I 4) (m_cy (I 1) n) n u) b → Ev lyM (d + 1) hX12_slant 39 [some (.ref 0), some (.int (m_cy (I 1) n)), some (.int m), some (.int l), some (.int o), some (.int (nI u)), some (.int (nI b))] [] (ti_wr I 0 12 0, J, R) (fun r M' => if (m_slO (I 4) (m_cy (I 1) n) n n).1 = -1 then r = some (.int (-2)) ∧ M' = (ti_wr I 0 12 0, J, R) else r = some (.int (m_slO (I 4) (m_cy (I 1) n) n n).1) ∧ M' = (ti_wr (ti_wr I 0 12 0) 0 11 (nI 2), ti_wl (ti_wl J 7 0 ((m_slO (I 4) (m_cy (I 1) n) n n).2.1).toInt64) 7 1 ((m_slO (I 4) (m_cy (I 1) n) n n).2.2).toInt64, R)) := by
        intro huc k2
        induction k2 with
        | zero => intro b m l o h0 h1 h2; omega
        | succ k2 ih2 =>
          intro b m l o hb0 hb hk2 ht
          refine ev_st dX12_slant_39 rfl rfl ?_
          refine ev_st dX12_slant_41 rfl rfl ?_
          refine ev_getI (v := nI n) dX12_slant_42 fr_12_95 rfl rfl hn ?_
          refine ev_ic_geN (t := 123) (a := b) (b := n) dX12_slant_45 (by decide) rfl rfl (by omega) (by omega) (fun c_45 => ?_) (fun c_45 => ?_)
          · refine ev_iincN (a := u) (b := u + 1) (L' := [some (.ref 0), some (.int (m_cy (I 1) n)), some (.int m), some (.int l), some (.int o), some (.int (nI (u + 1))), some (.int (nI b))]) dX12_slant_123 rfl (nI_1 _) rfl ?_
            refine ev_goto (t := 24) dX12_slant_126 (by decide) ?_
            exact ih _ _ _ _ _ (by omega) (by omega) (by rw [show b = n by omega] at ht; exact ht)
          · refine ev_st dX12_slant_48 rfl rfl ?_
            refine ev_st dX12_slant_49 rfl rfl ?_
            refine ev_call dX12_slant_51 rfl rfl mr_12_201 rfl rfl rfl (c_has (m_cy (I 1) n) (nI u)) ?_
            rintro _ _ ⟨rfl, rfl⟩
            show Ev lyM (d + 1) hX12_slant 54 [some (.ref 0), some (.int (m_cy (I 1) n)), some (.int m), some (.int l), some (.int o), some (.int (nI u)), some (.int (nI b))] [.int (m_has (m_cy (I 1) n) (nI u))] (ti_wr I 0 12 0, J, R) _
            refine ev_if_eq (t := 117) (x := m_has (m_cy (I 1) n) (nI u)) dX12_slant_54 (by decide) (fun c_54 => ?_) (fun c_54 => ?_)
            · refine ev_iincN (a := b) (b := b + 1) (L' := [some (.ref 0), some (.int (m_cy (I 1) n)), some (.int m), some (.int l), some (.int o), some (.int (nI u)), some (.int (nI (b + 1)))]) dX12_slant_117 rfl (nI_1 _) rfl ?_
              refine ev_goto (t := 39) dX12_slant_120 (by decide) ?_
              exact ih2 _ _ _ _ (by omega) (by omega) (by omega) (by simp only [m_slI, ← ht, if_neg (by omega : ¬ b ≤ u), m_sl1, if_pos c_54])
            · refine ev_st dX12_slant_57 rfl rfl ?_
              refine ev_st dX12_slant_58 rfl rfl ?_
              refine ev_call dX12_slant_60 rfl rfl mr_12_201 rfl rfl rfl (c_has (m_cy (I 1) n) (nI b)) ?_
              rintro _ _ ⟨rfl, rfl⟩
              show Ev lyM (d + 1) hX12_slant 63 [some (.ref 0), some (.int (m_cy (I 1) n)), some (.int m), some (.int l), some (.int o), some (.int (nI u)), some (.int (nI b))] [.int (m_has (m_cy (I 1) n) (nI b))] (ti_wr I 0 12 0, J, R) _
              refine ev_if_eq (t := 117) (x := m_has (m_cy (I 1) n) (nI b)) dX12_slant_63 (by decide) (fun c_63 => ?_) (fun c_63 => ?_)
              · refine ev_iincN (a := b) (b := b + 1) (L' := [some (.ref 0), some (.int (m_cy (I 1) n)), some (.int m), some (.int l), some (.int o), some (.int (nI u)), some (.int (nI (b + 1)))]) dX12_slant_117 rfl (nI_1 _) rfl ?_
                refine ev_goto (t := 39) dX12_slant_120 (by decide) ?_
                exact ih2 _ _ _ _ (by omega) (by omega) (by omega) (by simp only [m_slI, ← ht, if_neg (by omega : ¬ b ≤ u), m_sl1, if_neg c_54, if_pos c_63])
              · refine ev_st dX12_slant_66 rfl rfl ?_
                refine ev_getC dX12_slant_67 fr_12_23 rfl rfl ?_
                refine ev_st dX12_slant_70 rfl rfl ?_
                refine ev_iald (j := u) (v := I 4 u) dX12_slant_72 rfl rfl (by omega) (by decide) rfl ?_
                refine ev_st dX12_slant_73 rfl rfl ?_
                refine ev_getC dX12_slant_74 fr_12_23 rfl rfl ?_
                refine ev_st dX12_slant_77 rfl rfl ?_
                refine ev_iald (j := b) (v := I 4 b) dX12_slant_79 rfl rfl (by omega) (by decide) rfl ?_
                refine ev_st dX12_slant_80 rfl rfl ?_
                refine ev_abs (v := m_ab (I 4 u - I 4 b)) dX12_slant_81 br_12_330 rfl rfl ?_
                refine ev_st dX12_slant_84 rfl rfl ?_
                refine ev_ic_gt (t := 91) (x := m_ab (I 4 u - I 4 b)) (y := m) dX12_slant_85 (by decide) (fun c_85 => ?_) (fun c_85 => ?_)
                · refine ev_st dX12_slant_91 rfl rfl ?_
                  refine ev_getC dX12_slant_92 fr_12_23 rfl rfl ?_
                  refine ev_st dX12_slant_95 rfl rfl ?_
                  refine ev_iald (j := u) (v := I 4 u) dX12_slant_97 rfl rfl (by omega) (by decide) rfl ?_
                  refine ev_st dX12_slant_98 rfl rfl ?_
                  refine ev_getC dX12_slant_99 fr_12_23 rfl rfl ?_
                  refine ev_st dX12_slant_102 rfl rfl ?_
                  refine ev_iald (j := b) (v := I 4 b) dX12_slant_104 rfl rfl (by omega) (by decide) rfl ?_
                  refine ev_st dX12_slant_105 rfl rfl ?_
                  refine ev_abs (v := m_ab (I 4 u - I 4 b)) dX12_slant_106 br_12_330 rfl rfl ?_
                  refine ev_st (L' := [some (.ref 0), some (.int (m_cy (I 1) n)), some (.int (m_ab (I 4 u - I 4 b))), some (.int l), some (.int o), some (.int (nI u)), some (.int (nI b))]) dX12_slant_109 rfl rfl ?_
                  refine ev_st dX12_slant_110 rfl rfl ?_
                  refine ev_st (L' := [some (.ref 0), some (.int (m_cy (I 1) n)), some (.int (m_ab (I 4 u - I 4 b))), some (.int (nI u)), some (.int o), some (.int (nI u)), some (.int (nI b))]) dX12_slant_112 rfl rfl ?_
                  refine ev_st dX12_slant_113 rfl rfl ?_
                  refine ev_st (L' := [some (.ref 0), some (.int (m_cy (I 1) n)), some (.int (m_ab (I 4 u - I 4 b))), some (.int (nI u)), some (.int (nI b)), some (.int (nI u)), some (.int (nI b))]) dX12_slant_115 rfl rfl ?_
                  refine ev_iincN (a := b) (b := b + 1) (L' := [some (.ref 0), some (.int (m_cy (I 1) n)), some (.int (m_ab (I 4 u - I 4 b))), some (.int (nI u)), some (.int (nI b)), some (.int (nI u)), some (.int (nI (b + 1)))]) dX12_slant_117 rfl (nI_1 _) rfl ?_
                  refine ev_goto (t := 39) dX12_slant_120 (by decide) ?_
                  exact ih2 _ _ _ _ (by omega) (by omega) (by omega) (by simp only [m_slI, ← ht, if_neg (by omega : ¬ b ≤ u), m_sl1, if_neg c_54, if_neg c_63, if_pos c_85])
                · refine ev_goto (t := 117) dX12_slant_88 (by decide) ?_
                  refine ev_iincN (a := b) (b := b + 1) (L' := [some (.ref 0), some (.int (m_cy (I 1) n)), some (.int m), some (.int l), some (.int o), some (.int (nI u)), some (.int (nI (b + 1)))]) dX12_slant_117 rfl (nI_1 _) rfl ?_
                  refine ev_goto (t := 39) dX12_slant_120 (by decide) ?_
                  exact ih2 _ _ _ _ (by omega) (by omega) (by omega) (by simp only [m_slI, ← ht, if_neg (by omega : ¬ b ≤ u), m_sl1, if_neg c_54, if_neg c_63, if_neg c_85])
      refine ev_st dX12_slant_24 rfl rfl ?_
      refine ev_st dX12_slant_26 rfl rfl ?_
      refine ev_getI (v := nI n) dX12_slant_27 fr_12_95 rfl rfl hn ?_
      refine ev_ic_geN (t := 129) (a := u) (b := n) dX12_slant_30 (by decide) rfl rfl (by omega) (by omega) (fun c_30 => ?_) (fun c_30 => ?_)
      · refine ev_st dX12_slant_129 rfl rfl ?_
        refine ev_iconst (v := -1) dX12_slant_130 (by decide) ?_
        refine ev_ic_ne (t := 137) (x := m) (y := (-1)) dX12_slant_131 (by decide) (fun c_131 => ?_) (fun c_131 => ?_)
        · refine ev_st dX12_slant_137 rfl rfl ?_
          refine ev_iconst (v := 0) dX12_slant_138 (by decide) ?_
          refine ev_putI dX12_slant_139 fr_12_92 rfl rfl ?_
          refine ev_st dX12_slant_142 rfl rfl ?_
          refine ev_st dX12_slant_143 rfl rfl ?_
          refine ev_st dX12_slant_144 rfl rfl ?_
          refine ev_call dX12_slant_145 rfl rfl mr_12_253 rfl rfl rfl (c_tell (m := 0) rfl (by decide) l.toInt64) ?_
          rintro _ _ ⟨rfl, rfl⟩
          show Ev lyM (d + 1) hX12_slant 148 [some (.ref 0), some (.int (m_cy (I 1) n)), some (.int m), some (.int l), some (.int o), some (.int (nI u)), z6] [] (ti_wr (ti_wr (ti_wr I 0 12 0) 0 11 0) 0 11 (nI 1), ti_wl J 7 0 l.toInt64, R) _
          refine ev_st dX12_slant_148 rfl rfl ?_
          refine ev_st dX12_slant_149 rfl rfl ?_
          refine ev_st dX12_slant_151 rfl rfl ?_
          refine ev_call dX12_slant_152 rfl rfl mr_12_253 rfl rfl rfl (c_tell (m := 1) rfl (by decide) o.toInt64) ?_
          rintro _ _ ⟨rfl, rfl⟩
          show Ev lyM (d + 1) hX12_slant 155 [some (.ref 0), some (.int (m_cy (I 1) n)), some (.int m), some (.int l), some (.int o), some (.int (nI u)), z6] [] (ti_wr (ti_wr (ti_wr (ti_wr I 0 12 0) 0 11 0) 0 11 (nI 1)) 0 11 (nI 2), ti_wl (ti_wl J 7 0 l.toInt64) 7 1 o.toInt64, R) _
          refine ev_st dX12_slant_155 rfl rfl ?_
          exact ev_iret dX12_slant_156 rfl (by rw [show u = n by omega] at ht0; rw [← ht0]; rw [if_neg c_131]; exact ⟨rfl, by simp only [ti_wr2]⟩)
        · refine ev_bipush (v := -2) dX12_slant_134 (by decide) ?_
          exact ev_iret dX12_slant_136 rfl (by rw [show u = n by omega] at ht0; rw [← ht0]; rw [if_pos c_131]; exact ⟨rfl, rfl⟩)
      · refine ev_st dX12_slant_33 rfl rfl ?_
        refine ev_iconst (v := 1) dX12_slant_35 (by decide) ?_
        refine ev_iaddN (a := u) (b := 1) (c := u + 1) dX12_slant_36 rfl rfl rfl ?_
        refine ev_st (L' := [some (.ref 0), some (.int (m_cy (I 1) n)), some (.int m), some (.int l), some (.int o), some (.int (nI u)), some (.int (nI (u + 1)))]) dX12_slant_37 rfl rfl ?_
        exact inner c_30 (n + 1) (u + 1) _ _ _ (by omega) (by omega) (by omega) (by rw [ht0]; exact (m_slI_le _ (by omega)).symm)
  show Ev lyM (d + 1) hX12_slant 0 [some (.ref 0), none, none, none, none, none, none] [] (I, J, R) _
  refine ev_st dX12_slant_0 rfl rfl ?_
  refine ev_iconst (v := 0) dX12_slant_1 (by decide) ?_
  refine ev_putI dX12_slant_2 fr_12_89 rfl rfl ?_
  refine ev_st dX12_slant_5 rfl rfl ?_
  refine ev_st dX12_slant_6 rfl rfl ?_
  refine ev_getC dX12_slant_7 fr_12_9 rfl rfl ?_
  refine ev_call dX12_slant_10 rfl rfl mr_12_244 rfl rfl rfl (c_carry (I := ti_wr I 0 12 0) hn hn8) ?_
  rintro _ _ ⟨rfl, rfl⟩
  show Ev lyM (d + 1) hX12_slant 13 [some (.ref 0), none, none, none, none, none, none] [.int (m_cy (I 1) n)] (ti_wr I 0 12 0, J, R) _
  refine ev_st (L' := [some (.ref 0), some (.int (m_cy (I 1) n)), none, none, none, none, none]) dX12_slant_13 rfl rfl ?_
  refine ev_iconst (v := -1) dX12_slant_14 (by decide) ?_
  refine ev_st (L' := [some (.ref 0), some (.int (m_cy (I 1) n)), some (.int ((-1))), none, none, none, none]) dX12_slant_15 rfl rfl ?_
  refine ev_iconst (v := -1) dX12_slant_16 (by decide) ?_
  refine ev_st (L' := [some (.ref 0), some (.int (m_cy (I 1) n)), some (.int ((-1))), some (.int ((-1))), none, none, none]) dX12_slant_17 rfl rfl ?_
  refine ev_iconst (v := -1) dX12_slant_18 (by decide) ?_
  refine ev_st (L' := [some (.ref 0), some (.int (m_cy (I 1) n)), some (.int ((-1))), some (.int ((-1))), some (.int ((-1))), none, none]) dX12_slant_19 rfl rfl ?_
  refine ev_iconst (v := 0) dX12_slant_21 (by decide) ?_
  refine ev_st (L' := [some (.ref 0), some (.int (m_cy (I 1) n)), some (.int ((-1))), some (.int ((-1))), some (.int ((-1))), some (.int 0), none]) dX12_slant_22 rfl rfl ?_
  exact loop (n + 1) 0 (-1) (-1) (-1) _ (by omega) (by omega) rfl
/-- what could be said: the set, the one that lightens most, the load then -/
def m_co (sy row : Nat → Int32) (ns c a : Nat) : Nat → Int32 × Int32 × Int32
  | 0 => (0, -1, row 25)
  | s + 1 => if m_rY ns c a sy row (nI s) < 0 then m_co sy row ns c a s else
    if (m_co sy row ns c a s).2.1 = -1 then ((m_co sy row ns c a s).1 ||| ((1 : Int32) <<< (nI s &&& 31)), nI s, m_lb sy (row 25) s)
    else if m_lb sy (row 25) s < (m_co sy row ns c a s).2.2 then ((m_co sy row ns c a s).1 ||| ((1 : Int32) <<< (nI s &&& 31)), nI s, m_lb sy (row 25) s)
    else ((m_co sy row ns c a s).1 ||| ((1 : Int32) <<< (nI s &&& 31)), (m_co sy row ns c a s).2.1, (m_co sy row ns c a s).2.2)
set_option maxHeartbeats 1000000 in
theorem c_could {I : Nat → Nat → Int32} {J : Nat → Nat → Int64} {R : Nat → Nat → Value} {d ns c a : Nat} (hns : I 0 6 = nI ns) (hns8 : ns ≤ 8) (hc : I 0 1 = nI c) (hc12 : c ≤ 12) (ha : I 1 24 = nI a) (ha12 : a ≤ 12) : Cal lyM (d + 4) hX12_could 5 [.ref 0] (I, J, R) (fun r M' => r = some (.int ((m_co (I 5) (I 1) ns c a ns).1)) ∧ M' = (ti_wr (ti_wr I 0 12 0) 0 11 (nI 2), ti_wl (ti_wl J 7 0 ((m_co (I 5) (I 1) ns c a ns).2.1).toInt64) 7 1 ((m_co (I 5) (I 1) ns c a ns).2.2).toInt64, R)) := by
  have loop : ∀ (k b : Nat) (m l o : Int32), b ≤ ns → ns - b < k → (m, l, o) = m_co (I 5) (I 1) ns c a b → Ev lyM (d + 4) hX12_could 20 [some (.ref 0), some (.int m), some (.int l), some (.int o), some (.int (nI b))] [] (ti_wr I 0 12 0, J, R) (fun r M' => r = some (.int ((m_co (I 5) (I 1) ns c a ns).1)) ∧ M' = (ti_wr (ti_wr I 0 12 0) 0 11 (nI 2), ti_wl (ti_wl J 7 0 ((m_co (I 5) (I 1) ns c a ns).2.1).toInt64) 7 1 ((m_co (I 5) (I 1) ns c a ns).2.2).toInt64, R)) := by
    intro k
    induction k with
    | zero => intro b m l o h1 h2; omega
    | succ k ih =>
      intro b m l o hb hk ht
      refine ev_st dX12_could_20 rfl rfl ?_
      refine ev_st dX12_could_22 rfl rfl ?_
      refine ev_getI (v := nI ns) dX12_could_23 fr_12_102 rfl rfl hns ?_
      refine ev_ic_geN (t := 100) (a := b) (b := ns) dX12_could_26 (by decide) rfl rfl (by omega) (by omega) (fun c_26 => ?_) (fun c_26 => ?_)
      · refine ev_st dX12_could_100 rfl rfl ?_
        refine ev_iconst (v := 0) dX12_could_101 (by decide) ?_
        refine ev_putI dX12_could_102 fr_12_92 rfl rfl ?_
        refine ev_st dX12_could_105 rfl rfl ?_
        refine ev_st dX12_could_106 rfl rfl ?_
        refine ev_st dX12_could_107 rfl rfl ?_
        refine ev_call dX12_could_108 rfl rfl mr_12_253 rfl rfl rfl (c_tell (m := 0) rfl (by decide) l.toInt64) ?_
        rintro _ _ ⟨rfl, rfl⟩
        show Ev lyM (d + 4) hX12_could 111 [some (.ref 0), some (.int m), some (.int l), some (.int o), some (.int (nI b))] [] (ti_wr (ti_wr (ti_wr I 0 12 0) 0 11 0) 0 11 (nI 1), ti_wl J 7 0 l.toInt64, R) _
        refine ev_st dX12_could_111 rfl rfl ?_
        refine ev_st dX12_could_112 rfl rfl ?_
        refine ev_st dX12_could_113 rfl rfl ?_
        refine ev_call dX12_could_114 rfl rfl mr_12_253 rfl rfl rfl (c_tell (m := 1) rfl (by decide) o.toInt64) ?_
        rintro _ _ ⟨rfl, rfl⟩
        show Ev lyM (d + 4) hX12_could 117 [some (.ref 0), some (.int m), some (.int l), some (.int o), some (.int (nI b))] [] (ti_wr (ti_wr (ti_wr (ti_wr I 0 12 0) 0 11 0) 0 11 (nI 1)) 0 11 (nI 2), ti_wl (ti_wl J 7 0 l.toInt64) 7 1 o.toInt64, R) _
        refine ev_st dX12_could_117 rfl rfl ?_
        exact ev_iret dX12_could_118 rfl (by rw [show b = ns by omega] at ht; rw [← ht]; exact ⟨rfl, by simp only [ti_wr2]⟩)
      · refine ev_st dX12_could_29 rfl rfl ?_
        refine ev_st dX12_could_30 rfl rfl ?_
        refine ev_getC dX12_could_31 fr_12_9 rfl rfl ?_
        refine ev_st dX12_could_34 rfl rfl ?_
        refine ev_call dX12_could_36 rfl rfl mr_12_300 rfl rfl rfl (c_refusesSay (I := ti_wr I 0 12 0) hns hns8 hc hc12 ha ha12 (nI b)) ?_
        rintro _ _ ⟨rfl, rfl⟩
        show Ev lyM (d + 4) hX12_could 39 [some (.ref 0), some (.int m), some (.int l), some (.int o), some (.int (nI b))] [.int (m_rY ns c a (I 5) (I 1) (nI b))] (ti_wr I 0 12 0, J, R) _
        refine ev_if_ge (t := 45) (x := m_rY ns c a (I 5) (I 1) (nI b)) dX12_could_39 (by decide) (fun c_39 => ?_) (fun c_39 => ?_)
        · refine ev_st dX12_could_45 rfl rfl ?_
          refine ev_iconst (v := 1) dX12_could_46 (by decide) ?_
          refine ev_st dX12_could_47 rfl rfl ?_
          refine ev_st dX12_could_49 rfl rfl ?_
          refine ev_st dX12_could_50 rfl rfl ?_
          refine ev_st (L' := [some (.ref 0), some (.int (m ||| ((1 : Int32) <<< ((nI b) &&& 31)))), some (.int l), some (.int o), some (.int (nI b))]) dX12_could_51 rfl rfl ?_
          refine ev_st dX12_could_52 rfl rfl ?_
          refine ev_iconst (v := -1) dX12_could_53 (by decide) ?_
          refine ev_ic_eq (t := 77) (x := l) (y := (-1)) dX12_could_54 (by decide) (fun c_54 => ?_) (fun c_54 => ?_)
          · refine ev_st dX12_could_77 rfl rfl ?_
            refine ev_st (L' := [some (.ref 0), some (.int (m ||| ((1 : Int32) <<< ((nI b) &&& 31)))), some (.int (nI b)), some (.int o), some (.int (nI b))]) dX12_could_79 rfl rfl ?_
            refine ev_st dX12_could_80 rfl rfl ?_
            refine ev_st dX12_could_81 rfl rfl ?_
            refine ev_getC dX12_could_82 fr_12_9 rfl rfl ?_
            refine ev_bipush (v := 25) dX12_could_85 (by decide) ?_
            refine ev_iald (j := 25) (v := I 1 25) dX12_could_87 rfl rfl (by decide) (by decide) rfl ?_
            refine ev_st dX12_could_88 rfl rfl ?_
            refine ev_call dX12_could_90 rfl rfl mr_12_297 rfl rfl rfl (c_loadBy (I := ti_wr I 0 12 0) (s := b) (by omega) (I 1 25)) ?_
            rintro _ _ ⟨rfl, rfl⟩
            show Ev lyM (d + 4) hX12_could 93 [some (.ref 0), some (.int (m ||| ((1 : Int32) <<< ((nI b) &&& 31)))), some (.int (nI b)), some (.int o), some (.int (nI b))] [.int (m_lb (I 5) (I 1 25) b)] (ti_wr I 0 12 0, J, R) _
            refine ev_st (L' := [some (.ref 0), some (.int (m ||| ((1 : Int32) <<< ((nI b) &&& 31)))), some (.int (nI b)), some (.int (m_lb (I 5) (I 1 25) b)), some (.int (nI b))]) dX12_could_93 rfl rfl ?_
            refine ev_iincN (a := b) (b := b + 1) (L' := [some (.ref 0), some (.int (m ||| ((1 : Int32) <<< ((nI b) &&& 31)))), some (.int (nI b)), some (.int (m_lb (I 5) (I 1 25) b)), some (.int (nI (b + 1)))]) dX12_could_94 rfl (nI_1 _) rfl ?_
            refine ev_goto (t := 20) dX12_could_97 (by decide) ?_
            exact ih _ _ _ _ (by omega) (by omega) (by simp only [m_co, ← ht, if_neg c_39, if_pos c_54])
          · refine ev_st dX12_could_57 rfl rfl ?_
            refine ev_st dX12_could_58 rfl rfl ?_
            refine ev_getC dX12_could_59 fr_12_9 rfl rfl ?_
            refine ev_bipush (v := 25) dX12_could_62 (by decide) ?_
            refine ev_iald (j := 25) (v := I 1 25) dX12_could_64 rfl rfl (by decide) (by decide) rfl ?_
            refine ev_st dX12_could_65 rfl rfl ?_
            refine ev_call dX12_could_67 rfl rfl mr_12_297 rfl rfl rfl (c_loadBy (I := ti_wr I 0 12 0) (s := b) (by omega) (I 1 25)) ?_
            rintro _ _ ⟨rfl, rfl⟩
            show Ev lyM (d + 4) hX12_could 70 [some (.ref 0), some (.int (m ||| ((1 : Int32) <<< ((nI b) &&& 31)))), some (.int l), some (.int o), some (.int (nI b))] [.int (m_lb (I 5) (I 1 25) b)] (ti_wr I 0 12 0, J, R) _
            refine ev_st dX12_could_70 rfl rfl ?_
            refine ev_ic_lt (t := 77) (x := m_lb (I 5) (I 1 25) b) (y := o) dX12_could_71 (by decide) (fun c_71 => ?_) (fun c_71 => ?_)
            · refine ev_st dX12_could_77 rfl rfl ?_
              refine ev_st (L' := [some (.ref 0), some (.int (m ||| ((1 : Int32) <<< ((nI b) &&& 31)))), some (.int (nI b)), some (.int o), some (.int (nI b))]) dX12_could_79 rfl rfl ?_
              refine ev_st dX12_could_80 rfl rfl ?_
              refine ev_st dX12_could_81 rfl rfl ?_
              refine ev_getC dX12_could_82 fr_12_9 rfl rfl ?_
              refine ev_bipush (v := 25) dX12_could_85 (by decide) ?_
              refine ev_iald (j := 25) (v := I 1 25) dX12_could_87 rfl rfl (by decide) (by decide) rfl ?_
              refine ev_st dX12_could_88 rfl rfl ?_
              refine ev_call dX12_could_90 rfl rfl mr_12_297 rfl rfl rfl (c_loadBy (I := ti_wr I 0 12 0) (s := b) (by omega) (I 1 25)) ?_
              rintro _ _ ⟨rfl, rfl⟩
              show Ev lyM (d + 4) hX12_could 93 [some (.ref 0), some (.int (m ||| ((1 : Int32) <<< ((nI b) &&& 31)))), some (.int (nI b)), some (.int o), some (.int (nI b))] [.int (m_lb (I 5) (I 1 25) b)] (ti_wr I 0 12 0, J, R) _
              refine ev_st (L' := [some (.ref 0), some (.int (m ||| ((1 : Int32) <<< ((nI b) &&& 31)))), some (.int (nI b)), some (.int (m_lb (I 5) (I 1 25) b)), some (.int (nI b))]) dX12_could_93 rfl rfl ?_
              refine ev_iincN (a := b) (b := b + 1) (L' := [some (.ref 0), some (.int (m ||| ((1 : Int32) <<< ((nI b) &&& 31)))), some (.int (nI b)), some (.int (m_lb (I 5) (I 1 25) b)), some (.int (nI (b + 1)))]) dX12_could_94 rfl (nI_1 _) rfl ?_
              refine ev_goto (t := 20) dX12_could_97 (by decide) ?_
              exact ih _ _ _ _ (by omega) (by omega) (by simp only [m_co, ← ht, if_neg c_39, if_neg c_54, if_pos c_71])
            · refine ev_goto (t := 94) dX12_could_74 (by decide) ?_
              refine ev_iincN (a := b) (b := b + 1) (L' := [some (.ref 0), some (.int (m ||| ((1 : Int32) <<< ((nI b) &&& 31)))), some (.int l), some (.int o), some (.int (nI (b + 1)))]) dX12_could_94 rfl (nI_1 _) rfl ?_
              refine ev_goto (t := 20) dX12_could_97 (by decide) ?_
              exact ih _ _ _ _ (by omega) (by omega) (by simp only [m_co, ← ht, if_neg c_39, if_neg c_54, if_neg c_71])
        · refine ev_goto (t := 94) dX12_could_42 (by decide) ?_
          refine ev_iincN (a := b) (b := b + 1) (L' := [some (.ref 0), some (.int m), some (.int l), some (.int o), some (.int (nI (b + 1)))]) dX12_could_94 rfl (nI_1 _) rfl ?_
          refine ev_goto (t := 20) dX12_could_97 (by decide) ?_
          exact ih _ _ _ _ (by omega) (by omega) (by simp only [m_co, ← ht, if_pos c_39])
  show Ev lyM (d + 4) hX12_could 0 [some (.ref 0), none, none, none, none] [] (I, J, R) _
  refine ev_st dX12_could_0 rfl rfl ?_
  refine ev_iconst (v := 0) dX12_could_1 (by decide) ?_
  refine ev_putI dX12_could_2 fr_12_89 rfl rfl ?_
  refine ev_iconst (v := 0) dX12_could_5 (by decide) ?_
  refine ev_st (L' := [some (.ref 0), some (.int 0), none, none, none]) dX12_could_6 rfl rfl ?_
  refine ev_iconst (v := -1) dX12_could_7 (by decide) ?_
  refine ev_st (L' := [some (.ref 0), some (.int 0), some (.int ((-1))), none, none]) dX12_could_8 rfl rfl ?_
  refine ev_st dX12_could_9 rfl rfl ?_
  refine ev_getC dX12_could_10 fr_12_9 rfl rfl ?_
  refine ev_bipush (v := 25) dX12_could_13 (by decide) ?_
  refine ev_iald (j := 25) (v := I 1 25) dX12_could_15 rfl rfl (by decide) (by decide) rfl ?_
  refine ev_st (L' := [some (.ref 0), some (.int 0), some (.int ((-1))), some (.int (I 1 25)), none]) dX12_could_16 rfl rfl ?_
  refine ev_iconst (v := 0) dX12_could_17 (by decide) ?_
  refine ev_st (L' := [some (.ref 0), some (.int 0), some (.int ((-1))), some (.int (I 1 25)), some (.int 0)]) dX12_could_18 rfl rfl ?_
  exact loop (ns + 1) 0 0 (-1) (I 1 25) (by omega) (by omega) rfl
theorem c_rest0 {I : Nat → Nat → Int32} {J : Nat → Nat → Int64} {R : Nat → Nat → Value} {d n : Nat} (hn : I 0 3 = nI n) (hn8 : n ≤ 8) {x : Int32} (hx : ix n x = none) : Cal lyM (d + 96) hX12_rest 2 [.ref 0, .int x] (I, J, R) (fun r M' => r = some (.int (-1)) ∧ M' = (ti_wr I 0 12 0, J, R)) := by
  show Ev lyM (d + 96) hX12_rest 0 [some (.ref 0), some (.int x)] [] (I, J, R) _
  refine ev_st dX12_rest_0 rfl rfl ?_
  refine ev_iconst (v := 0) dX12_rest_1 (by decide) ?_
  refine ev_putI dX12_rest_2 fr_12_89 rfl rfl ?_
  refine ev_st dX12_rest_5 rfl rfl ?_
  refine ev_st dX12_rest_6 rfl rfl ?_
  refine ev_call dX12_rest_7 rfl rfl mr_12_237 rfl rfl rfl ((by have K := c_isMan (I := ti_wr I 0 12 0) (J := J) (R := R) (d := d + 94) hn hn8 x; simp only [hx, Option.isSome] at K; exact K)) ?_
  rintro _ _ ⟨rfl, rfl⟩
  show Ev lyM (d + 96) hX12_rest 10 [some (.ref 0), some (.int x)] [.int 0] (ti_wr I 0 12 0, J, R) _
  refine ev_if_ne (t := 15) dX12_rest_10 (by decide) (fun q => absurd q (by decide)) (fun _ => ?_)
  refine ev_iconst (v := -1) dX12_rest_13 (by decide) ?_
  exact ev_iret dX12_rest_14 rfl (⟨rfl, rfl⟩)
set_option maxHeartbeats 1000000 in
theorem c_rest {I : Nat → Nat → Int32} {J : Nat → Nat → Int64} {R : Nat → Nat → Value} {d n c a rp rs : Nat} {rv : RV} (hA : mA I R d n c rp rs rv) (ha : I 1 24 = nI a) (hac : a ≤ c) {j : Nat} (hx : ix n (nI j) = some j) : Cal lyM (d + 96) hX12_rest 2 [.ref 0, .int (nI j)] (I, J, R) (fun r M' => r = some (.int ((I 1 j + 1) / 2)) ∧ ∃ I3 R3 row2, M' = (I3, ti_wl J 7 0 (m_be rs rv (I 3) (I 4) (upd (m_tn (I 1) (I 14)) j 0) (m_tl (I 4) ((1 : Int32) <<< (nI j &&& 31)) n) (m_st c (I 2) a) j ((1 : Int32) <<< (nI j &&& 31))).toInt64, R3) ∧ sM (va_up (ti_wr (ti_wr I 0 12 0) 0 11 (nI 1)) 14 row2) R I3 R3) := by
  have hn := hA.1
  have hn8 := hA.2.1
  have hc12 := hA.2.2.2.1
  have ha12 : a ≤ 12 := by omega
  have hB : mB 1 (ti_wr I 0 12 0) R d n c a rp rs rv := hA.w.b1 ha ha12
  have hj : j < n := (ix_some (by omega) hx).1
  have hB2 : mB 14 (ti_wr (ti_wr (va_up (ti_wr I 0 12 0) 14 (m_tn (I 1) (I 14))) 14 j 0) 0 11 0) R d n c a rp rs rv := by
    obtain ⟨h1, h2, h3, h4, h5, h6, h7⟩ := hA
    refine ⟨h1, h2, h3, h4, ?_, ha12, h5, h6, ?_⟩
    · show upd (m_tn (I 1) (I 14)) j 0 24 = nI a
      rw [upd, if_neg (by omega)]; exact ha
    · have : (ti_wr (ti_wr (va_up (ti_wr I 0 12 0) 14 (m_tn (I 1) (I 14))) 14 j 0) 0 11 0) rp = I rp := by rcases h7.1 with rfl | rfl <;> rfl
      rw [this]; exact h7
  show Ev lyM (d + 96) hX12_rest 0 [some (.ref 0), some (.int (nI j))] [] (I, J, R) _
  refine ev_st dX12_rest_0 rfl rfl ?_
  refine ev_iconst (v := 0) dX12_rest_1 (by decide) ?_
  refine ev_putI dX12_rest_2 fr_12_89 rfl rfl ?_
  refine ev_st dX12_rest_5 rfl rfl ?_
  refine ev_st dX12_rest_6 rfl rfl ?_
  refine ev_call dX12_rest_7 rfl rfl mr_12_237 rfl rfl rfl ((by have K := c_isMan (I := ti_wr I 0 12 0) (J := J) (R := R) (d := d + 94) hn hn8 (nI j); simp only [hx, Option.isSome] at K; exact K)) ?_
  rintro _ _ ⟨rfl, rfl⟩
  show Ev lyM (d + 96) hX12_rest 10 [some (.ref 0), some (.int (nI j))] [.int 1] (ti_wr I 0 12 0, J, R) _
  refine ev_if_ne (t := 15) dX12_rest_10 (by decide) (fun _ => ?_) (fun q => absurd q (by decide))
  refine ev_st dX12_rest_15 rfl rfl ?_
  refine ev_getC dX12_rest_16 fr_12_9 rfl rfl ?_
  refine ev_st dX12_rest_19 rfl rfl ?_
  refine ev_getC dX12_rest_20 fr_12_55 rfl rfl ?_
  refine ev_iconst (v := 0) dX12_rest_23 (by decide) ?_
  refine ev_call dX12_rest_24 rfl rfl mr_12_257 rfl rfl rfl (c_lay_1_14 (I := ti_wr I 0 12 0) (k := 0) (by decide)) ?_
  rintro _ _ ⟨rfl, rfl⟩
  show Ev lyM (d + 96) hX12_rest 27 [some (.ref 0), some (.int (nI j))] [] (va_up (ti_wr I 0 12 0) 14 (m_tn (I 1) (I 14)), J, R) _
  refine ev_st dX12_rest_27 rfl rfl ?_
  refine ev_getC dX12_rest_28 fr_12_55 rfl rfl ?_
  refine ev_st dX12_rest_31 rfl rfl ?_
  refine ev_iconst (v := 0) dX12_rest_32 (by decide) ?_
  refine ev_iast (j := j) dX12_rest_33 rfl rfl (by omega) (by decide) ?_
  refine ev_st dX12_rest_34 rfl rfl ?_
  refine ev_iconst (v := 0) dX12_rest_35 (by decide) ?_
  refine ev_putI dX12_rest_36 fr_12_92 rfl rfl ?_
  refine ev_st dX12_rest_39 rfl rfl ?_
  refine ev_st dX12_rest_40 rfl rfl ?_
  refine ev_st dX12_rest_41 rfl rfl ?_
  refine ev_getC dX12_rest_42 fr_12_55 rfl rfl ?_
  refine ev_st dX12_rest_45 rfl rfl ?_
  refine ev_iconst (v := 1) dX12_rest_46 (by decide) ?_
  refine ev_st dX12_rest_47 rfl rfl ?_
  refine ev_st dX12_rest_48 rfl rfl ?_
  refine ev_call dX12_rest_49 rfl rfl mr_12_226 rfl rfl rfl (Cal.mono (by omega) (c_bearsOfSt (I := ti_wr (ti_wr (va_up (ti_wr I 0 12 0) 14 (m_tn (I 1) (I 14))) 14 j 0) 0 11 0) (R := R) hB2 sM.rf hj ((1 : Int32) <<< (nI j &&& 31)))) ?_
  rintro _ _ ⟨rfl, I3, R3, rfl, hs3⟩
  show Ev lyM (d + 96) hX12_rest 52 [some (.ref 0), some (.int (nI j))] [.int (m_be rs rv (I 3) (I 4) (upd (m_tn (I 1) (I 14)) j 0) (m_tl (I 4) ((1 : Int32) <<< (nI j &&& 31)) n) (m_st c (I 2) a) j ((1 : Int32) <<< (nI j &&& 31))), .ref 0] (I3, J, R3) _
  refine ev_st dX12_rest_52 rfl rfl ?_
  refine ev_call dX12_rest_53 rfl rfl mr_12_253 rfl rfl rfl (c_tell (m := 0) (hs3.f 11 rfl) (by decide) ((m_be rs rv (I 3) (I 4) (upd (m_tn (I 1) (I 14)) j 0) (m_tl (I 4) ((1 : Int32) <<< (nI j &&& 31)) n) (m_st c (I 2) a) j ((1 : Int32) <<< (nI j &&& 31))).toInt64)) ?_
  rintro _ _ ⟨rfl, rfl⟩
  show Ev lyM (d + 96) hX12_rest 56 [some (.ref 0), some (.int (nI j))] [] (ti_wr I3 0 11 (nI 1), ti_wl J 7 0 ((m_be rs rv (I 3) (I 4) (upd (m_tn (I 1) (I 14)) j 0) (m_tl (I 4) ((1 : Int32) <<< (nI j &&& 31)) n) (m_st c (I 2) a) j ((1 : Int32) <<< (nI j &&& 31))).toInt64), R3) _
  refine ev_st dX12_rest_56 rfl rfl ?_
  refine ev_getC dX12_rest_57 fr_12_9 rfl rfl ?_
  refine ev_st dX12_rest_60 rfl rfl ?_
  refine ev_iald (j := j) (v := I 1 j) dX12_rest_61 rfl rfl (by omega) (by decide) (by show I3 1 j = _; rw [hs3.r 1 rfl]; rfl) ?_
  refine ev_iconst (v := 1) dX12_rest_62 (by decide) ?_
  refine ev_st dX12_rest_63 rfl rfl ?_
  refine ev_iconst (v := 2) dX12_rest_64 (by decide) ?_
  refine ev_div dX12_rest_65 (by decide) ?_
  exact ev_iret dX12_rest_66 rfl (⟨rfl, _, _, upd (m_tn (I 1) (I 14)) j 0, rfl, by have K := hs3.wr 0 11 (nI 1); refine sM.eq ?_ K; simp only [ti_wr_up, ti_wr2]; exact wr_up0⟩)
