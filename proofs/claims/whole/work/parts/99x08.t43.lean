/-! rules: law by the model -/
theorem c_law0 {I : Nat → Nat → Int32} {J : Nat → Nat → Int64} {R : Nat → Nat → Value} {t : Nat → Nat} {d N : Nat} (hT : mT I t N) (hok : (sFin N (rS4 t N)).1 = false) : Cal lyM (d + 96) hX12_law 6 [.ref 0] (I, J, R) (fun r M' => r = some (.int (-10000 - nI (sFin N (rS4 t N)).2)) ∧ ∃ I3 R3, M' = (I3, J, R3) ∧ bF I I3 ∧ R3 0 19 = R 0 19) := by
  have hT0 : mT (ti_wr I 0 12 0) t N := ⟨hT.1, hT.2.1, hT.2.2⟩
  show Ev lyM (d + 96) hX12_law 0 [some (.ref 0), none, none, none, none, none] [] (I, J, R) _
  refine ev_st dX12_law_0 rfl rfl ?_
  refine ev_iconst (v := 0) dX12_law_1 (by decide) ?_
  refine ev_putI dX12_law_2 fr_12_89 rfl rfl ?_
  refine ev_st dX12_law_5 rfl rfl ?_
  refine ev_getI (v := nI N) dX12_law_6 fr_12_105 rfl rfl hT.1 ?_
  refine ev_st (L' := [some (.ref 0), some (.int (nI N)), none, none, none, none]) dX12_law_9 rfl rfl ?_
  refine ev_st dX12_law_10 rfl rfl ?_
  refine ev_call dX12_law_11 rfl rfl mr_12_195 rfl rfl rfl (Cal.mono (by omega) (c_readRule (d := d) (I := ti_wr I 0 12 0) hT0 rfl)) ?_
  rintro _ _ ⟨e1, I2, R2, rfl, hb2, h19, hR2⟩
  rw [hok] at e1
  subst e1
  show Ev lyM (d + 96) hX12_law 14 [some (.ref 0), some (.int (nI N)), none, none, none, none] [.int 0] (I2, J, R2) _
  refine ev_if_ne (t := 26) dX12_law_14 (by decide) (fun q => absurd q (by decide)) (fun _ => ?_)
  refine ev_sipush (v := -10000) dX12_law_17 (by decide) ?_
  refine ev_st dX12_law_20 rfl rfl ?_
  refine ev_getI (v := nI ((sFin N (rS4 t N)).2)) dX12_law_21 fr_12_120 rfl rfl (by have h := hR2.2.2.2.2.2.2.2.2; rw [if_neg (by rw [hok]; decide)] at h; exact h.1) ?_
  refine ev_st dX12_law_24 rfl rfl ?_
  exact ev_iret dX12_law_25 rfl (⟨rfl, _, _, rfl, ⟨fun p a => (hb2.1 p a).trans (ti_wr_n a), fun k a b c d e f g => (hb2.2.1 k a b c d e f g).trans (wr_ne b), hb2.2.2.1, hb2.2.2.2⟩, h19⟩)
theorem c_law2 {I : Nat → Nat → Int32} {J : Nat → Nat → Int64} {R : Nat → Nat → Value} {t : Nat → Nat} {d N : Nat} (hT : mT I t N) {n : Nat} (hn : I 0 3 = nI n) (hn8 : n ≤ 8) (hok : (sFin N (rS4 t N)).1 = true) (h0 : m_cy (I 1) n = 0) : Cal lyM (d + 96) hX12_law 6 [.ref 0] (I, J, R) (fun r M' => r = some (.int (-20000)) ∧ ∃ I3 R3, M' = (I3, J, R3) ∧ bF I I3 ∧ R3 0 19 = R 0 19) := by
  have hT0 : mT (ti_wr I 0 12 0) t N := ⟨hT.1, hT.2.1, hT.2.2⟩
  show Ev lyM (d + 96) hX12_law 0 [some (.ref 0), none, none, none, none, none] [] (I, J, R) _
  refine ev_st dX12_law_0 rfl rfl ?_
  refine ev_iconst (v := 0) dX12_law_1 (by decide) ?_
  refine ev_putI dX12_law_2 fr_12_89 rfl rfl ?_
  refine ev_st dX12_law_5 rfl rfl ?_
  refine ev_getI (v := nI N) dX12_law_6 fr_12_105 rfl rfl hT.1 ?_
  refine ev_st (L' := [some (.ref 0), some (.int (nI N)), none, none, none, none]) dX12_law_9 rfl rfl ?_
  refine ev_st dX12_law_10 rfl rfl ?_
  refine ev_call dX12_law_11 rfl rfl mr_12_195 rfl rfl rfl (Cal.mono (by omega) (c_readRule (d := d) (I := ti_wr I 0 12 0) hT0 rfl)) ?_
  rintro _ _ ⟨e1, I2, R2, rfl, hb2, h19, hR2⟩
  rw [hok] at e1
  subst e1
  have hsf := sFin_ok hok
  obtain ⟨h40, e4⟩ := rS4_ok (by rw [← hsf]; exact hR2.2.2.2.2.2.2.2.1) hok
  have hbI : bF I I2 := ⟨fun p a => (hb2.1 p a).trans (ti_wr_n a), fun k a b c d e f g => (hb2.2.1 k a b c d e f g).trans (wr_ne b), hb2.2.2.1, hb2.2.2.2⟩
  have e12 : I2 1 = I 1 := hbI.p 1 rfl
  have hn2 : I2 0 3 = nI n := (hbI.k 3 rfl).trans hn
  show Ev lyM (d + 96) hX12_law 14 [some (.ref 0), some (.int (nI N)), none, none, none, none] [.int 1] (I2, J, R2) _
  refine ev_if_ne (t := 26) dX12_law_14 (by decide) (fun _ => ?_) (fun q => absurd q (by decide))
  refine ev_st dX12_law_26 rfl rfl ?_
  refine ev_st dX12_law_27 rfl rfl ?_
  refine ev_getC dX12_law_28 fr_12_9 rfl rfl ?_
  refine ev_call dX12_law_31 rfl rfl mr_12_244 rfl rfl rfl (c_carry (I := I2) hn2 hn8) ?_
  rw [e12, h0]
  rintro _ _ ⟨rfl, rfl⟩
  show Ev lyM (d + 96) hX12_law 34 [some (.ref 0), some (.int (nI N)), none, none, none, none] [.int 0] (I2, J, R2) _
  refine ev_if_ne (t := 41) dX12_law_34 (by decide) (fun q => absurd q (by decide)) (fun _ => ?_)
  refine ev_sipush (v := -20000) dX12_law_37 (by decide) ?_
  exact ev_iret dX12_law_40 rfl (⟨rfl, _, _, rfl, hbI, h19⟩)
set_option maxHeartbeats 1000000 in
theorem c_lawL {I2 : Nat → Nat → Int32} {J : Nat → Nat → Int64} {R2 : Nat → Nat → Value} {t : Nat → Nat} {d N rs : Nat} {wa0 by0 : Int32} (h40 : N ≤ 40) (h19 : R2 0 19 = .ref 10) (ht : ∀ k, k < N → I2 6 k = bI (t k)) (hfo : ∀ I4, (∀ p, p ≠ 10 → I4 p = I2 p) → (∀ j, j < N → I4 10 j = bI (t j)) → Cal lyM (d + 95) hX12_firstOf 1 [.ref 0] (I4, J, R2) (fun r M' => r = some (.int by0) ∧ ∃ I6 R6 row3, M' = (I6, J, R6) ∧ sM (va_up I4 14 row3) R2 I6 R6)) : ∀ (m b : Nat) (I4 : Nat → Nat → Int32), b ≤ N → N - b < m → (∀ p, p ≠ 10 → I4 p = I2 p) → (∀ j, j < b → I4 10 j = bI (t j)) → Ev lyM (d + 96) hX12_law 73 [some (.ref 0), some (.int (nI N)), some (.int wa0), some (.ref 9), some (.int (nI rs)), some (.int (nI b))] [] (I4, J, R2) (fun r M' => r = some (.int (by0 - wa0)) ∧ ∃ I9 R9, M' = (I9, ti_wl (ti_wl J 7 0 by0.toInt64) 7 1 wa0.toInt64, R9) ∧ R9 0 19 = .ref 9 ∧ I9 0 21 = nI rs ∧ I9 0 11 = nI 2 ∧ (∀ p, p ≠ 0 → p ≠ 10 → p ≠ 11 → p ≠ 14 → I9 p = I2 p) ∧ ∀ k, k ≠ 11 → k ≠ 14 → k ≠ 15 → k ≠ 16 → k ≠ 17 → k ≠ 21 → k ≠ 22 → I9 0 k = I2 0 k) := by
  intro m
  induction m with
  | zero => intro b I4 h1 h2; omega
  | succ m ih =>
    intro b I4 hb hk hx hj4
    refine ev_st dX12_law_73 rfl rfl ?_
    refine ev_st dX12_law_75 rfl rfl ?_
    refine ev_ic_geN (t := 99) (a := b) (b := N) dX12_law_76 (by decide) rfl rfl (by omega) (by omega) (fun c_76 => ?_) (fun c_76 => ?_)
    · refine ev_st dX12_law_99 rfl rfl ?_
      refine ev_call dX12_law_100 rfl rfl mr_12_313 rfl rfl rfl (hfo I4 hx (fun j hj => hj4 j (by omega))) ?_
      rintro _ _ ⟨rfl, I6, R6, row3, rfl, hs6⟩
      show Ev lyM (d + 96) hX12_law 103 [some (.ref 0), some (.int (nI N)), some (.int wa0), some (.ref 9), some (.int (nI rs)), some (.int (nI b))] [.int by0] (I6, J, R6) _
      refine ev_st (L' := [some (.ref 0), some (.int (nI N)), some (.int wa0), some (.ref 9), some (.int (nI rs)), some (.int by0)]) dX12_law_103 rfl rfl ?_
      refine ev_st dX12_law_105 rfl rfl ?_
      refine ev_st dX12_law_106 rfl rfl ?_
      refine ev_putR dX12_law_107 fr_12_40 rfl rfl ?_
      refine ev_st dX12_law_110 rfl rfl ?_
      refine ev_st dX12_law_111 rfl rfl ?_
      refine ev_putI dX12_law_113 fr_12_198 rfl rfl ?_
      refine ev_st dX12_law_116 rfl rfl ?_
      refine ev_iconst (v := 0) dX12_law_117 (by decide) ?_
      refine ev_putI dX12_law_118 fr_12_92 rfl rfl ?_
      refine ev_st dX12_law_121 rfl rfl ?_
      refine ev_st dX12_law_122 rfl rfl ?_
      refine ev_st dX12_law_124 rfl rfl ?_
      refine ev_call dX12_law_125 rfl rfl mr_12_253 rfl rfl rfl (c_tell (m := 0) rfl (by decide) by0.toInt64) ?_
      rintro _ _ ⟨rfl, rfl⟩
      show Ev lyM (d + 96) hX12_law 128 [some (.ref 0), some (.int (nI N)), some (.int wa0), some (.ref 9), some (.int (nI rs)), some (.int by0)] [] (ti_wr (ti_wr (ti_wr I6 0 21 (nI rs)) 0 11 0) 0 11 (nI 1), ti_wl J 7 0 by0.toInt64, ti_wf R6 0 19 (.ref 9)) _
      refine ev_st dX12_law_128 rfl rfl ?_
      refine ev_st dX12_law_129 rfl rfl ?_
      refine ev_st dX12_law_130 rfl rfl ?_
      refine ev_call dX12_law_131 rfl rfl mr_12_253 rfl rfl rfl (c_tell (m := 1) rfl (by decide) wa0.toInt64) ?_
      rintro _ _ ⟨rfl, rfl⟩
      show Ev lyM (d + 96) hX12_law 134 [some (.ref 0), some (.int (nI N)), some (.int wa0), some (.ref 9), some (.int (nI rs)), some (.int by0)] [] (ti_wr (ti_wr (ti_wr (ti_wr I6 0 21 (nI rs)) 0 11 0) 0 11 (nI 1)) 0 11 (nI 2), ti_wl (ti_wl J 7 0 by0.toInt64) 7 1 wa0.toInt64, ti_wf R6 0 19 (.ref 9)) _
      refine ev_st dX12_law_134 rfl rfl ?_
      refine ev_st dX12_law_136 rfl rfl ?_
      refine ev_st dX12_law_137 rfl rfl ?_
      exact ev_iret dX12_law_138 rfl (by
          refine ⟨rfl, _, _, rfl, rfl, (wr_ne (by decide)).trans ((wr_ne (by decide)).trans ((wr_ne (by decide)).trans ti_wr_at)), ti_wr_at, fun p a b c d => ?_, fun k a b c d e f g => ?_⟩
          · rw [ti_wr_n a, ti_wr_n a, ti_wr_n a, ti_wr_n a, hs6.1 p a c, va_up_n d]; exact hx p b
          · rw [wr_ne a, wr_ne a, wr_ne a, wr_ne f, hs6.2.1 k b c d e g]; exact congrFun ((va_up_n (by decide)).trans (hx 0 (by decide))) k)
    · refine ev_st dX12_law_79 rfl rfl ?_
      refine ev_getR (v := .ref 10) dX12_law_80 fr_12_40 rfl rfl h19 ?_
      refine ev_st dX12_law_83 rfl rfl ?_
      refine ev_st dX12_law_85 rfl rfl ?_
      refine ev_getC dX12_law_86 fr_12_29 rfl rfl ?_
      refine ev_st dX12_law_89 rfl rfl ?_
      refine ev_bald (j := b) (v := bI (t b)) dX12_law_91 rfl (by decide) rfl (by omega) (by decide) ((congrFun (hx 6 (by decide)) b).trans (ht b (by omega))) ?_
      refine ev_bast (j := b) dX12_law_92 rfl rfl (by omega) (by decide) ?_
      refine ev_iincN (a := b) (b := b + 1) (L' := [some (.ref 0), some (.int (nI N)), some (.int wa0), some (.ref 9), some (.int (nI rs)), some (.int (nI (b + 1)))]) dX12_law_93 rfl (nI_1 _) rfl ?_
      refine ev_goto (t := 73) dX12_law_96 (by decide) ?_
      exact ih _ _ (by omega) (by omega) (fun p hp => (ti_wr_n hp).trans (hx p hp)) (fun j hj => by
        by_cases e : j = b
        · subst e; rw [ti_wr_at]; exact bI_b
        · rw [wr_ne e]; exact hj4 j (by omega))
theorem c_law {I : Nat → Nat → Int32} {J : Nat → Nat → Int64} {R : Nat → Nat → Value} {t : Nat → Nat} {d N : Nat} (hT : mT I t N) {n rs : Nat} {wa0 by0 : Int32} (hn : I 0 3 = nI n) (hn8 : n ≤ 8) (hrs : I 0 21 = nI rs) (h9 : R 0 19 = .ref 9) (hok : (sFin N (rS4 t N)).1 = true) (h0 : ¬ m_cy (I 1) n = 0) (hwa : ∀ I2 R2, bF I I2 → R2 0 19 = R 0 19 → Cal lyM (d + 95) hX12_firstOf 1 [.ref 0] (I2, J, R2) (fun r M' => r = some (.int wa0) ∧ ∃ I3 R3 row2, M' = (I3, J, R3) ∧ sM (va_up I2 14 row2) R2 I3 R3)) (hby : ∀ I2 R2 I3 R3 row2 I4, bF I I2 → R2 0 19 = R 0 19 → sM (va_up I2 14 row2) R2 I3 R3 → N ≤ 40 → rS4 t N = (true, N) → (∀ p, p ≠ 10 → I4 p = ti_wr I3 0 21 (nI N) p) → (∀ j, j < N → I4 10 j = bI (t j)) → Cal lyM (d + 95) hX12_firstOf 1 [.ref 0] (I4, J, ti_wf R3 0 19 (.ref 10)) (fun r M' => r = some (.int by0) ∧ ∃ I6 R6 row3, M' = (I6, J, R6) ∧ sM (va_up I4 14 row3) (ti_wf R3 0 19 (.ref 10)) I6 R6)) : Cal lyM (d + 96) hX12_law 6 [.ref 0] (I, J, R) (fun r M' => r = some (.int (by0 - wa0)) ∧ ∃ I9 R9, M' = (I9, ti_wl (ti_wl J 7 0 by0.toInt64) 7 1 wa0.toInt64, R9) ∧ R9 0 19 = .ref 9 ∧ I9 0 21 = nI rs ∧ I9 0 11 = nI 2 ∧ I9 0 9 = 0 ∧ I9 0 12 = 0 ∧ (∀ p, p ≠ 0 → p ≠ 10 → p ≠ 11 → p ≠ 14 → I9 p = I p) ∧ ∀ k, k ≠ 11 → k ≠ 9 → k ≠ 12 → k ≠ 14 → k ≠ 15 → k ≠ 16 → k ≠ 17 → k ≠ 21 → k ≠ 22 → I9 0 k = I 0 k) := by
  have hT0 : mT (ti_wr I 0 12 0) t N := ⟨hT.1, hT.2.1, hT.2.2⟩
  show Ev lyM (d + 96) hX12_law 0 [some (.ref 0), none, none, none, none, none] [] (I, J, R) _
  refine ev_st dX12_law_0 rfl rfl ?_
  refine ev_iconst (v := 0) dX12_law_1 (by decide) ?_
  refine ev_putI dX12_law_2 fr_12_89 rfl rfl ?_
  refine ev_st dX12_law_5 rfl rfl ?_
  refine ev_getI (v := nI N) dX12_law_6 fr_12_105 rfl rfl hT.1 ?_
  refine ev_st (L' := [some (.ref 0), some (.int (nI N)), none, none, none, none]) dX12_law_9 rfl rfl ?_
  refine ev_st dX12_law_10 rfl rfl ?_
  refine ev_call dX12_law_11 rfl rfl mr_12_195 rfl rfl rfl (Cal.mono (by omega) (c_readRule (d := d) (I := ti_wr I 0 12 0) hT0 rfl)) ?_
  rintro _ _ ⟨e1, I2, R2, rfl, hb2, h19, hR2⟩
  rw [hok] at e1
  subst e1
  have hsf := sFin_ok hok
  obtain ⟨h40, e4⟩ := rS4_ok (by rw [← hsf]; exact hR2.2.2.2.2.2.2.2.1) hok
  have hbI : bF I I2 := ⟨fun p a => (hb2.1 p a).trans (ti_wr_n a), fun k a b c d e f g => (hb2.2.1 k a b c d e f g).trans (wr_ne b), hb2.2.2.1, hb2.2.2.2⟩
  have e12 : I2 1 = I 1 := hbI.p 1 rfl
  have hn2 : I2 0 3 = nI n := (hbI.k 3 rfl).trans hn
  show Ev lyM (d + 96) hX12_law 14 [some (.ref 0), some (.int (nI N)), none, none, none, none] [.int 1] (I2, J, R2) _
  refine ev_if_ne (t := 26) dX12_law_14 (by decide) (fun _ => ?_) (fun q => absurd q (by decide))
  refine ev_st dX12_law_26 rfl rfl ?_
  refine ev_st dX12_law_27 rfl rfl ?_
  refine ev_getC dX12_law_28 fr_12_9 rfl rfl ?_
  refine ev_call dX12_law_31 rfl rfl mr_12_244 rfl rfl rfl (c_carry (I := I2) hn2 hn8) ?_
  rw [e12]
  rintro _ _ ⟨rfl, rfl⟩
  show Ev lyM (d + 96) hX12_law 34 [some (.ref 0), some (.int (nI N)), none, none, none, none] [.int (m_cy (I 1) n)] (I2, J, R2) _
  refine ev_if_ne (t := 41) (x := m_cy (I 1) n) dX12_law_34 (by decide) (fun c_34 => ?_) (fun c_34 => ?_)
  · refine ev_st dX12_law_41 rfl rfl ?_
    refine ev_call dX12_law_42 rfl rfl mr_12_313 rfl rfl rfl (hwa I2 R2 hbI h19) ?_
    rintro _ _ ⟨rfl, I3, R3, row2, rfl, hs3⟩
    have h193 : R3 0 19 = .ref 9 := hs3.2.2.trans (h19.trans h9)
    have h213 : I3 0 21 = nI rs := (hs3.f 21 rfl).trans ((hbI.k 21 rfl).trans hrs)
    show Ev lyM (d + 96) hX12_law 45 [some (.ref 0), some (.int (nI N)), none, none, none, none] [.int wa0] (I3, J, R3) _
    refine ev_st (L' := [some (.ref 0), some (.int (nI N)), some (.int wa0), none, none, none]) dX12_law_45 rfl rfl ?_
    refine ev_st dX12_law_46 rfl rfl ?_
    refine ev_getR (v := .ref 9) dX12_law_47 fr_12_40 rfl rfl h193 ?_
    refine ev_st (L' := [some (.ref 0), some (.int (nI N)), some (.int wa0), some (.ref 9), none, none]) dX12_law_50 rfl rfl ?_
    refine ev_st dX12_law_51 rfl rfl ?_
    refine ev_getI (v := nI rs) dX12_law_52 fr_12_198 rfl rfl h213 ?_
    refine ev_st (L' := [some (.ref 0), some (.int (nI N)), some (.int wa0), some (.ref 9), some (.int (nI rs)), none]) dX12_law_55 rfl rfl ?_
    refine ev_st dX12_law_57 rfl rfl ?_
    refine ev_st dX12_law_58 rfl rfl ?_
    refine ev_getC dX12_law_59 fr_12_43 rfl rfl ?_
    refine ev_putR dX12_law_62 fr_12_40 rfl rfl ?_
    refine ev_st dX12_law_65 rfl rfl ?_
    refine ev_st dX12_law_66 rfl rfl ?_
    refine ev_putI dX12_law_67 fr_12_198 rfl rfl ?_
    refine ev_iconst (v := 0) dX12_law_70 (by decide) ?_
    refine ev_st (L' := [some (.ref 0), some (.int (nI N)), some (.int wa0), some (.ref 9), some (.int (nI rs)), some (.int 0)]) dX12_law_71 rfl rfl ?_
    refine (c_lawL (I2 := ti_wr I3 0 21 (nI N)) (R2 := ti_wf R3 0 19 (.ref 10)) h40 rfl (fun k hk => ?_) (fun I4 h4 hj4 => hby I2 R2 I3 R3 row2 I4 hbI h19 hs3 h40 e4 h4 hj4) (N + 1) 0 _ (Nat.zero_le _) (by omega) (fun _ _ => rfl) (fun j hj => absurd hj (Nat.not_lt_zero _))).imp ?_
    · rw [ti_wr_n (by decide), hs3.r 6 rfl, va_up_n (by decide)]
      exact (hR2.2.2.2.2.2.2.1 k hk).1
    rintro _ _ ⟨rfl, I9, R9, rfl, g19, g21, g11, gp, gk⟩
    refine ⟨rfl, I9, R9, rfl, g19, g21, g11, ?_, ?_, fun p a b c d => ?_, fun k a b c d e f g h i => ?_⟩
    · rw [gk 9 (by decide) (by decide) (by decide) (by decide) (by decide) (by decide) (by decide), wr_ne (by decide), hs3.f 9 rfl]
      exact hbI.2.2.1
    · rw [gk 12 (by decide) (by decide) (by decide) (by decide) (by decide) (by decide) (by decide), wr_ne (by decide), hs3.f 12 rfl]
      exact hbI.2.2.2
    · rw [gp p a b c d, ti_wr_n a, hs3.1 p a c, va_up_n d]
      exact hbI.1 p a
    · rw [gk k a d e f g h i, wr_ne h, hs3.2.1 k d e f g i]
      exact hbI.2.1 k b c d e f g i
  · exact absurd c_34 h0
