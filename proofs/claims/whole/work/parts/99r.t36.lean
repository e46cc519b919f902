/-! rules: rule: the model, a new rule -/
theorem bI_b {x : Nat} : (bI x).toInt8.toInt32 = bI x := by simp [bI]
theorem rS4_ok {t : Nat → Nat} {N : Nat} (hs : (rS4 t N).2 ≤ min N 40) (h : (sFin N (rS4 t N)).1 = true) : N ≤ 40 ∧ rS4 t N = (true, N) := by
  unfold sFin at h
  split at h
  · next h1 =>
    split at h
    · cases h
    · next h2 => exact ⟨by omega, Prod.ext h1 (by show (rS4 t N).2 = N; omega)⟩
  · next h1 => exact absurd h h1
theorem sFin_ok {N : Nat} {s : PS} (h : (sFin N s).1 = true) : sFin N s = s := by
  by_cases h1 : s.1 = true
  · by_cases h2 : s.2 < N
    · rw [sFin, if_pos h1, if_pos h2] at h; cases h
    · rw [sFin, if_pos h1, if_neg h2]
  · rw [sFin, if_neg h1]
theorem rS4_rE {t : Nat → Nat} {N : Nat} (h0 : 0 < N) (h40 : N ≤ 40) (h : rS4 t N = (true, N)) : (rE t N 4 (true, 0)).1 = (true, N) := by
  rw [rS4, if_neg (by omega), Nat.min_eq_left h40] at h
  exact h
set_option maxHeartbeats 1000000 in
theorem c_ruleL {I2 : Nat → Nat → Int32} {J : Nat → Nat → Int64} {R2 : Nat → Nat → Value} {t : Nat → Nat} {d N : Nat}  (h40 : N ≤ 40) (h19 : R2 0 19 = .ref 9) (ht : ∀ k, k < N → I2 6 k = bI (t k)) : ∀ (m b : Nat) (I4 : Nat → Nat → Int32), b ≤ N → N - b < m → (∀ p, p ≠ 9 → I4 p = I2 p) → (∀ j, j < b → I4 9 j = bI (t j)) → Ev lyM (d + 92) hX12_rule 26 [some (.ref 0), some (.int (nI N)), some (.int (nI b))] [] (I4, J, R2) (fun r M' => r = some (.int 0) ∧ ∃ I5, M' = (ti_wr I5 0 21 (nI N), J, R2) ∧ (∀ p, p ≠ 9 → I5 p = I2 p) ∧ (∀ j, j < N → I5 9 j = bI (t j))) := by
  intro m
  induction m with
  | zero => intro b I4 h1 h2; omega
  | succ m ih =>
    intro b I4 hb hk hx hj4
    refine ev_st dX12_rule_26 rfl rfl ?_
    refine ev_st dX12_rule_27 rfl rfl ?_
    refine ev_ic_geN (t := 49) (a := b) (b := N) dX12_rule_28 (by decide) rfl rfl (by omega) (by omega) (fun c_28 => ?_) (fun c_28 => ?_)
    · refine ev_st dX12_rule_49 rfl rfl ?_
      refine ev_st dX12_rule_50 rfl rfl ?_
      refine ev_putI dX12_rule_51 fr_12_198 rfl rfl ?_
      refine ev_iconst (v := 0) dX12_rule_54 (by decide) ?_
      exact ev_iret dX12_rule_55 rfl (⟨rfl, I4, rfl, hx, fun j hj => hj4 j (by omega)⟩)
    · refine ev_st dX12_rule_31 rfl rfl ?_
      refine ev_getR (v := .ref 9) dX12_rule_32 fr_12_40 rfl rfl h19 ?_
      refine ev_st dX12_rule_35 rfl rfl ?_
      refine ev_st dX12_rule_36 rfl rfl ?_
      refine ev_getC dX12_rule_37 fr_12_29 rfl rfl ?_
      refine ev_st dX12_rule_40 rfl rfl ?_
      refine ev_bald (j := b) (v := bI (t b)) dX12_rule_41 rfl (by decide) rfl (by omega) (by decide) ((congrFun (hx 6 (by decide)) b).trans (ht b (by omega))) ?_
      refine ev_bast (j := b) dX12_rule_42 rfl rfl (by omega) (by decide) ?_
      refine ev_iincN (a := b) (b := b + 1) (L' := [some (.ref 0), some (.int (nI N)), some (.int (nI (b + 1)))]) dX12_rule_43 rfl (nI_1 _) rfl ?_
      refine ev_goto (t := 26) dX12_rule_46 (by decide) ?_
      exact ih _ _ (by omega) (by omega) (fun p hp => (ti_wr_n hp).trans (hx p hp)) (fun j hj => by
        by_cases e : j = b
        · subst e; rw [ti_wr_at]; exact bI_b
        · rw [wr_ne e]; exact hj4 j (by omega))
theorem c_rule1 {I : Nat → Nat → Int32} {J : Nat → Nat → Int64} {R : Nat → Nat → Value} {t : Nat → Nat} {d N : Nat} (hT : mT I t N) (hok : (sFin N (rS4 t N)).1 = true) (h9 : R 0 19 = .ref 9) : Cal lyM (d + 92) hX12_rule 3 [.ref 0] (I, J, R) (fun r M' => r = some (.int 0) ∧ ∃ I3 R3, M' = (I3, J, R3) ∧ R3 0 19 = .ref 9 ∧ I3 0 9 = 0 ∧ I3 0 12 = 0 ∧ I3 0 21 = nI N ∧ N ≤ 40 ∧ rS4 t N = (true, N) ∧ (∀ k, k < N → I3 9 k = bI (t k)) ∧ (∀ p, p ≠ 0 → p ≠ 9 → I3 p = I p) ∧ (∀ k, k ≠ 9 → k ≠ 12 → k ≠ 14 → k ≠ 15 → k ≠ 16 → k ≠ 17 → k ≠ 22 → k ≠ 21 → I3 0 k = I 0 k)) := by
  have hT0 : mT (ti_wr I 0 12 0) t N := ⟨hT.1, hT.2.1, hT.2.2⟩
  show Ev lyM (d + 92) hX12_rule 0 [some (.ref 0), none, none] [] (I, J, R) _
  refine ev_st dX12_rule_0 rfl rfl ?_
  refine ev_iconst (v := 0) dX12_rule_1 (by decide) ?_
  refine ev_putI dX12_rule_2 fr_12_89 rfl rfl ?_
  refine ev_st dX12_rule_5 rfl rfl ?_
  refine ev_getI (v := nI N) dX12_rule_6 fr_12_105 rfl rfl hT.1 ?_
  refine ev_st (L' := [some (.ref 0), some (.int (nI N)), none]) dX12_rule_9 rfl rfl ?_
  refine ev_st dX12_rule_10 rfl rfl ?_
  refine ev_call dX12_rule_11 rfl rfl mr_12_195 rfl rfl rfl (c_readRule (I := ti_wr I 0 12 0) hT0 rfl) ?_
  rintro _ _ ⟨e1, I2, R2, rfl, hb2, h19, hR2⟩
  rw [hok] at e1
  subst e1
  have hsf := sFin_ok hok
  obtain ⟨h40, e4⟩ := rS4_ok (by rw [← hsf]; exact hR2.2.2.2.2.2.2.2.1) hok
  show Ev lyM (d + 92) hX12_rule 14 [some (.ref 0), some (.int (nI N)), none] [.int 1] (I2, J, R2) _
  refine ev_if_ne (t := 24) dX12_rule_14 (by decide) (fun _ => ?_) (fun q => absurd q (by decide))
  refine ev_iconst (v := 0) dX12_rule_24 (by decide) ?_
  refine ev_st (L' := [some (.ref 0), some (.int (nI N)), some (.int 0)]) dX12_rule_25 rfl rfl ?_
  refine (c_ruleL h40 (h19.trans h9) (fun k hk => (hR2.2.2.2.2.2.2.1 k hk).1) (N + 1) 0 I2 (Nat.zero_le _) (by omega) (fun _ _ => rfl) (fun j hj => absurd hj (Nat.not_lt_zero _))).imp ?_
  rintro _ _ ⟨rfl, I5, rfl, hx5, h5⟩
  exact ⟨rfl, _, _, rfl, h19.trans h9, ((wr_ne (by decide)).trans (congrFun (hx5 0 (by decide)) 9)).trans hb2.2.2.1, ((wr_ne (by decide)).trans (congrFun (hx5 0 (by decide)) 12)).trans hb2.2.2.2, ti_wr_at, h40, e4, fun k hk => (congrFun (ti_wr_n (by decide)) k).trans (h5 k hk), fun p a b => (ti_wr_n a).trans ((hx5 p b).trans ((hb2.1 p a).trans (ti_wr_n a))), fun k a b c d e f g h => (wr_ne h).trans ((congrFun (hx5 0 (by decide)) k).trans ((hb2.2.1 k a b c d e f g).trans (wr_ne b)))⟩
