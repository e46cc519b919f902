/-! texts: signs appended, by both -/
/-- the i-th of the four signs of v -/
def chN (v : Int32) (i : Nat) : Nat := v.toUInt32.toNat / 2 ^ (24 - 8 * i) % 256
theorem chN_lt (v : Int32) (i : Nat) : chN v i < 256 := Nat.mod_lt _ (by decide)
def app (t : Nat → Nat) (N : Nat) (v : Int32) (k : Nat) : Nat := if k < N then t k else chN v (k - N)
theorem ti_wr_22 {I : Nat → Nat → Int32} {p k j : Nat} {v : Int32} : ti_wr I p k v p j = if j = k then v else I p j := by
  by_cases h : j = k
  · subst h; rw [ti_wr_at, if_pos rfl]
  · rw [wr_ne h, if_neg h]
theorem and255 (u : UInt32) : u.toInt32 &&& 255 = nI (u.toNat % 256) := by
  apply Int32.toBitVec_inj.mp
  apply BitVec.eq_of_toNat_eq
  have h : (255 : Nat) = 2 ^ 8 - 1 := rfl
  simp [nI]
  rw [h, Nat.and_two_pow_sub_one_eq_mod]
  omega
theorem ch_nar : ∀ q, q < 256 → vp_nar .char (((nI q).toUInt32 % 65536).toInt32) = nI q := by decide +kernel
theorem ush (v : Int32) (s : Int32) (k : Nat) (hs : (s.toUInt32 &&& Int32.toUInt32 31).toNat % 32 = k) : (v.toUInt32 >>> (s.toUInt32 &&& Int32.toUInt32 31)).toNat = v.toUInt32.toNat / 2 ^ k := by
  rw [UInt32.toNat_shiftRight, hs, Nat.shiftRight_eq_div_pow]
theorem ch_c (v : Int32) (s : Int32) (i : Nat) (hs : (s.toUInt32 &&& Int32.toUInt32 31).toNat % 32 = 24 - 8 * i) : vp_nar .char ((((v.toUInt32 >>> (s.toUInt32 &&& Int32.toUInt32 31)).toInt32 &&& 255).toUInt32 % 65536).toInt32) = nI (chN v i) := by
  rw [and255, ush v s _ hs, ch_nar _ (Nat.mod_lt _ (by decide))]; rfl
theorem by_c (v : Int32) (s : Nat) (hs : s ≤ 24) (he : (nI s &&& 31).toBitVec.smod 32 = BitVec.ofNat 32 s) : (v >>> (nI s &&& 31)).toInt8.toInt32 = (nI (v.toUInt32.toNat / 2 ^ s % 256)).toInt8.toInt32 := by
  congr 1
  apply Int8.toBitVec_inj.mp
  rw [Int32.toBitVec_toInt8, Int32.toBitVec_toInt8, Int32.toBitVec_shiftRight, he]
  apply BitVec.eq_of_getLsbD_eq
  intro i hi
  rw [BitVec.signExtend_eq_setWidth_of_le _ (by decide), BitVec.signExtend_eq_setWidth_of_le _ (by decide), BitVec.getLsbD_setWidth, BitVec.getLsbD_setWidth]
  simp only [BitVec.sshiftRight', BitVec.toNat_ofNat, BitVec.getLsbD_sshiftRight, nI]
  rw [show s % 2 ^ 32 = s by omega]
  have h1 : s + i < 32 := by omega
  simp [h1, hi, show ¬ 32 ≤ i by omega]
  rw [← BitVec.getLsbD_eq_getElem, ← BitVec.testBit_toNat, ← BitVec.testBit_toNat, BitVec.toNat_ofNat, show v.toUInt32.toNat / 2 ^ s % 256 % 2 ^ 32 = v.toUInt32.toNat / 2 ^ s % 2 ^ 8 by omega, Nat.testBit_mod_two_pow, Nat.testBit_div_two_pow]
  simp [hi, Nat.add_comm]
  rfl
theorem app_mem {I : Nat → Nat → Int32} {p q N : Nat} {c0 c1 c2 c3 n1 n2 n3 n4 : Int32} {x : Nat} (hpq : p ≠ q) : let I3 := ti_wr (ti_wr (ti_wr (ti_wr (ti_wr (ti_wr (ti_wr (ti_wr I q N c0) p x n1) q (N + 1) c1) p x n2) q (N + 1 + 1) c2) p x n3) q (N + 1 + 1 + 1) c3) p x n4
    (∀ y, y ≠ p → y ≠ q → I3 y = I y) ∧ I3 p x = n4 ∧ (∀ k, k ≠ x → I3 p k = I p k) ∧ ∀ k, I3 q k = if k = N + 1 + 1 + 1 then c3 else if k = N + 1 + 1 then c2 else if k = N + 1 then c1 else if k = N then c0 else I q k := by
  refine ⟨fun y h1 h2 => ?_, ti_wr_at, fun k hk => ?_, fun k => ?_⟩
  · simp only [ti_wr_n h1, ti_wr_n h2]
  · have := hpq
    simp only [wr_ne hk, ti_wr_n hpq]
  · have := hpq.symm
    simp only [ti_wr_n hpq.symm, ti_wr_22]
theorem app_mem2 {I : Nat → Nat → Int32} {p q N : Nat} {c0 c1 c2 c3 n1 n2 n3 n4 : Int32} {x : Nat} (hpq : p ≠ q) : let I3 := ti_wr (ti_wr (ti_wr (ti_wr (ti_wr (ti_wr (ti_wr (ti_wr I p x n1) q N c0) p x n2) q (N + 1) c1) p x n3) q (N + 1 + 1) c2) p x n4) q (N + 1 + 1 + 1) c3
    (∀ y, y ≠ p → y ≠ q → I3 y = I y) ∧ I3 p x = n4 ∧ (∀ k, k ≠ x → I3 p k = I p k) ∧ ∀ k, I3 q k = if k = N + 1 + 1 + 1 then c3 else if k = N + 1 + 1 then c2 else if k = N + 1 then c1 else if k = N then c0 else I q k := by
  refine ⟨fun y h1 h2 => ?_, ?_, fun k hk => ?_, fun k => ?_⟩
  · simp only [ti_wr_n h1, ti_wr_n h2]
  · rw [ti_wr_n hpq, ti_wr_at]
  · have := hpq
    simp only [wr_ne hk, ti_wr_n hpq]
  · have := hpq.symm
    simp only [ti_wr_n hpq.symm, ti_wr_22]
theorem app_c {f : Nat → Int32} {t : Nat → Nat} {N : Nat} {v : Int32} (g : Nat → Int32) {c0 c1 c2 c3 : Int32} (h : ∀ k, k < N → f k = g (t k) ∧ t k < 256) (e0 : c0 = g (chN v 0)) (e1 : c1 = g (chN v 1)) (e2 : c2 = g (chN v 2)) (e3 : c3 = g (chN v 3)) : ∀ k, k < N + 4 → (if k = N + 1 + 1 + 1 then c3 else if k = N + 1 + 1 then c2 else if k = N + 1 then c1 else if k = N then c0 else f k) = g (app t N v k) ∧ app t N v k < 256 := by
  intro k hk
  unfold app
  rcases (by omega : k < N ∨ k = N ∨ k = N + 1 ∨ k = N + 1 + 1 ∨ k = N + 1 + 1 + 1) with q | rfl | rfl | rfl | rfl
  · rw [if_neg (by omega), if_neg (by omega), if_neg (by omega), if_neg (by omega), if_pos q]; exact h k q
  · rw [if_neg (by omega), if_neg (by omega), if_neg (by omega), if_pos rfl, if_neg (by omega), Nat.sub_self]; exact ⟨e0, chN_lt _ _⟩
  · rw [if_neg (by omega), if_neg (by omega), if_pos rfl, if_neg (by omega), show N + 1 - N = 1 by omega]; exact ⟨e1, chN_lt _ _⟩
  · rw [if_neg (by omega), if_pos rfl, if_neg (by omega), show N + 1 + 1 - N = 2 by omega]; exact ⟨e2, chN_lt _ _⟩
  · rw [if_pos rfl, if_neg (by omega), show N + 1 + 1 + 1 - N = 3 by omega]; exact ⟨e3, chN_lt _ _⟩
def bI (x : Nat) : Int32 := (nI x).toInt8.toInt32
/-- a text of N signs lies in the model -/
def mT (I : Nat → Nat → Int32) (t : Nat → Nat) (N : Nat) : Prop := I 0 9 = nI N ∧ N ≤ 80 ∧ ∀ k, k < N → I 6 k = bI (t k) ∧ t k < 256
theorem bI2 (x : Int32) : x.toInt8.toInt32.toInt8.toInt32 = x.toInt8.toInt32 := by simp
theorem k_append0 {I : Nat → Nat → Int32} {J : Nat → Nat → Int64} {R : Nat → Nat → Value} {d N : Nat} (h1 : I 1 1 = nI N) (h80 : N ≤ 80) (hN : 76 < N) (v : Int32) : Cal lyC d hX9_append 3 [.ref 1, .int v] (I, J, R) (fun r M' => r = some (.int (-1)) ∧ M' = (I, J, R)) := by
  show Ev lyC d hX9_append 0 [some (.ref 1), some (.int v), none] [] (I, J, R) _
  refine ev_st dX9_append_0 rfl rfl ?_
  refine ev_getI (v := nI N) dX9_append_1 fr_9_15 rfl rfl h1 ?_
  refine ev_bipush (v := 76) dX9_append_4 (by decide) ?_
  refine ev_ic_leN (t := 11) (a := N) (b := 76) dX9_append_6 (by decide) rfl rfl (by omega) (by omega) (fun c_6 => ?_) (fun c_6 => ?_)
  · omega
  · refine ev_iconst (v := -1) dX9_append_9 (by decide) ?_
    exact ev_iret dX9_append_10 rfl (⟨rfl, rfl⟩)
set_option maxHeartbeats 1000000 in
theorem k_append {I : Nat → Nat → Int32} {J : Nat → Nat → Int64} {R : Nat → Nat → Value} {t : Nat → Nat} {d N : Nat} (hT : cT I t N) (hN : N ≤ 76) (v : Int32) : Cal lyC d hX9_append 3 [.ref 1, .int v] (I, J, R) (fun r M' => r = some (.int (nI (N + 4))) ∧ ∃ I3, M' = (I3, J, R) ∧ (∀ p, p ≠ 1 → p ≠ 2 → I3 p = I p) ∧ cT I3 (app t N v) (N + 4)) := by
  obtain ⟨h1, h2, h5⟩ := hT
  show Ev lyC d hX9_append 0 [some (.ref 1), some (.int v), none] [] (I, J, R) _
  refine ev_st dX9_append_0 rfl rfl ?_
  refine ev_getI (v := nI N) dX9_append_1 fr_9_15 rfl rfl h1 ?_
  refine ev_bipush (v := 76) dX9_append_4 (by decide) ?_
  refine ev_ic_leN (t := 11) (a := N) (b := 76) dX9_append_6 (by decide) rfl rfl (by omega) (by omega) (fun c_6 => ?_) (fun c_6 => ?_)
  · refine ev_bipush (v := 24) dX9_append_11 (by decide) ?_
    refine ev_st (L' := [some (.ref 1), some (.int v), some (.int 24)]) dX9_append_13 rfl rfl ?_
    refine ev_st dX9_append_14 rfl rfl ?_
    refine ev_if_lt (t := 51) dX9_append_15 (by decide) (fun q => absurd q (by decide)) (fun _ => ?_)
    refine ev_st dX9_append_18 rfl rfl ?_
    refine ev_getC dX9_append_19 fr_9_11 rfl rfl ?_
    refine ev_st dX9_append_22 rfl rfl ?_
    refine ev_getI (v := nI N) dX9_append_23 fr_9_15 rfl rfl h1 ?_
    refine ev_st dX9_append_26 rfl rfl ?_
    refine ev_st dX9_append_27 rfl rfl ?_
    refine ev_st dX9_append_28 rfl rfl ?_
    refine ev_sipush (v := 255) dX9_append_29 (by decide) ?_
    refine ev_st dX9_append_32 rfl rfl ?_
    refine ev_st dX9_append_33 rfl rfl ?_
    refine ev_cast (j := N) dX9_append_34 rfl rfl (by omega) (by decide) ?_
    refine ev_st dX9_append_35 rfl rfl ?_
    refine ev_st dX9_append_36 rfl rfl ?_
    refine ev_getI (v := nI N) dX9_append_37 fr_9_15 rfl rfl h1 ?_
    refine ev_iconst (v := 1) dX9_append_40 (by decide) ?_
    refine ev_iaddN (a := N) (b := 1) (c := N + 1) dX9_append_41 rfl rfl rfl ?_
    refine ev_putI dX9_append_42 fr_9_15 rfl rfl ?_
    refine ev_iinc (x := 24) (v := 16) (L' := [some (.ref 1), some (.int v), some (.int 16)]) dX9_append_45 rfl (by decide) rfl ?_
    refine ev_goto (t := 14) dX9_append_48 (by decide) ?_
    refine ev_st dX9_append_14 rfl rfl ?_
    refine ev_if_lt (t := 51) dX9_append_15 (by decide) (fun q => absurd q (by decide)) (fun _ => ?_)
    refine ev_st dX9_append_18 rfl rfl ?_
    refine ev_getC dX9_append_19 fr_9_11 rfl rfl ?_
    refine ev_st dX9_append_22 rfl rfl ?_
    refine ev_getI (v := nI (N + 1)) dX9_append_23 fr_9_15 rfl rfl rfl ?_
    refine ev_st dX9_append_26 rfl rfl ?_
    refine ev_st dX9_append_27 rfl rfl ?_
    refine ev_st dX9_append_28 rfl rfl ?_
    refine ev_sipush (v := 255) dX9_append_29 (by decide) ?_
    refine ev_st dX9_append_32 rfl rfl ?_
    refine ev_st dX9_append_33 rfl rfl ?_
    refine ev_cast (j := N + 1) dX9_append_34 rfl rfl (by omega) (by decide) ?_
    refine ev_st dX9_append_35 rfl rfl ?_
    refine ev_st dX9_append_36 rfl rfl ?_
    refine ev_getI (v := nI (N + 1)) dX9_append_37 fr_9_15 rfl rfl rfl ?_
    refine ev_iconst (v := 1) dX9_append_40 (by decide) ?_
    refine ev_iaddN (a := N + 1) (b := 1) (c := N + 1 + 1) dX9_append_41 rfl rfl rfl ?_
    refine ev_putI dX9_append_42 fr_9_15 rfl rfl ?_
    refine ev_iinc (x := 16) (v := 8) (L' := [some (.ref 1), some (.int v), some (.int 8)]) dX9_append_45 rfl (by decide) rfl ?_
    refine ev_goto (t := 14) dX9_append_48 (by decide) ?_
    refine ev_st dX9_append_14 rfl rfl ?_
    refine ev_if_lt (t := 51) dX9_append_15 (by decide) (fun q => absurd q (by decide)) (fun _ => ?_)
    refine ev_st dX9_append_18 rfl rfl ?_
    refine ev_getC dX9_append_19 fr_9_11 rfl rfl ?_
    refine ev_st dX9_append_22 rfl rfl ?_
    refine ev_getI (v := nI (N + 1 + 1)) dX9_append_23 fr_9_15 rfl rfl rfl ?_
    refine ev_st dX9_append_26 rfl rfl ?_
    refine ev_st dX9_append_27 rfl rfl ?_
    refine ev_st dX9_append_28 rfl rfl ?_
    refine ev_sipush (v := 255) dX9_append_29 (by decide) ?_
    refine ev_st dX9_append_32 rfl rfl ?_
    refine ev_st dX9_append_33 rfl rfl ?_
    refine ev_cast (j := N + 1 + 1) dX9_append_34 rfl rfl (by omega) (by decide) ?_
    refine ev_st dX9_append_35 rfl rfl ?_
    refine ev_st dX9_append_36 rfl rfl ?_
    refine ev_getI (v := nI (N + 1 + 1)) dX9_append_37 fr_9_15 rfl rfl rfl ?_
    refine ev_iconst (v := 1) dX9_append_40 (by decide) ?_
    refine ev_iaddN (a := N + 1 + 1) (b := 1) (c := N + 1 + 1 + 1) dX9_append_41 rfl rfl rfl ?_
    refine ev_putI dX9_append_42 fr_9_15 rfl rfl ?_
    refine ev_iinc (x := 8) (v := 0) (L' := [some (.ref 1), some (.int v), some (.int 0)]) dX9_append_45 rfl (by decide) rfl ?_
    refine ev_goto (t := 14) dX9_append_48 (by decide) ?_
    refine ev_st dX9_append_14 rfl rfl ?_
    refine ev_if_lt (t := 51) dX9_append_15 (by decide) (fun q => absurd q (by decide)) (fun _ => ?_)
    refine ev_st dX9_append_18 rfl rfl ?_
    refine ev_getC dX9_append_19 fr_9_11 rfl rfl ?_
    refine ev_st dX9_append_22 rfl rfl ?_
    refine ev_getI (v := nI (N + 1 + 1 + 1)) dX9_append_23 fr_9_15 rfl rfl rfl ?_
    refine ev_st dX9_append_26 rfl rfl ?_
    refine ev_st dX9_append_27 rfl rfl ?_
    refine ev_st dX9_append_28 rfl rfl ?_
    refine ev_sipush (v := 255) dX9_append_29 (by decide) ?_
    refine ev_st dX9_append_32 rfl rfl ?_
    refine ev_st dX9_append_33 rfl rfl ?_
    refine ev_cast (j := N + 1 + 1 + 1) dX9_append_34 rfl rfl (by omega) (by decide) ?_
    refine ev_st dX9_append_35 rfl rfl ?_
    refine ev_st dX9_append_36 rfl rfl ?_
    refine ev_getI (v := nI (N + 1 + 1 + 1)) dX9_append_37 fr_9_15 rfl rfl rfl ?_
    refine ev_iconst (v := 1) dX9_append_40 (by decide) ?_
    refine ev_iaddN (a := N + 1 + 1 + 1) (b := 1) (c := N + 1 + 1 + 1 + 1) dX9_append_41 rfl rfl rfl ?_
    refine ev_putI dX9_append_42 fr_9_15 rfl rfl ?_
    refine ev_iinc (x := 0) (v := (-8)) (L' := [some (.ref 1), some (.int v), some (.int ((-8)))]) dX9_append_45 rfl (by decide) rfl ?_
    refine ev_goto (t := 14) dX9_append_48 (by decide) ?_
    refine ev_st dX9_append_14 rfl rfl ?_
    refine ev_if_lt (t := 51) dX9_append_15 (by decide) (fun _ => ?_) (fun q => absurd q (by decide))
    refine ev_st dX9_append_51 rfl rfl ?_
    refine ev_getI (v := nI (N + 1 + 1 + 1 + 1)) dX9_append_52 fr_9_15 rfl rfl rfl ?_
    exact ev_iret dX9_append_55 rfl (⟨rfl, _, rfl, (app_mem (by decide)).1, rfl, by omega, fun k hk => by rw [(app_mem (by decide)).2.2.2 k]; exact app_c nI h5 (ch_c v 24 0 (by decide)) (ch_c v 16 1 (by decide)) (ch_c v 8 2 (by decide)) (ch_c v 0 3 (by decide)) k hk⟩)
  · omega
theorem c_sign0 {I : Nat → Nat → Int32} {J : Nat → Nat → Int64} {R : Nat → Nat → Value} {d N : Nat} (h1 : I 0 9 = nI N) (h80 : N ≤ 80) (hN : 76 < N) (v : Int32) : Cal lyM d hX12_sign 3 [.ref 0, .int v] (I, J, R) (fun r M' => r = some (.int (-1)) ∧ M' = (ti_wr I 0 12 0, J, R)) := by
  show Ev lyM d hX12_sign 0 [some (.ref 0), some (.int v), none] [] (I, J, R) _
  refine ev_st dX12_sign_0 rfl rfl ?_
  refine ev_iconst (v := 0) dX12_sign_1 (by decide) ?_
  refine ev_putI dX12_sign_2 fr_12_89 rfl rfl ?_
  refine ev_st dX12_sign_5 rfl rfl ?_
  refine ev_getI (v := nI N) dX12_sign_6 fr_12_105 rfl rfl h1 ?_
  refine ev_iconst (v := 4) dX12_sign_9 (by decide) ?_
  refine ev_iaddN (a := N) (b := 4) (c := N + 4) dX12_sign_10 rfl rfl rfl ?_
  refine ev_bipush (v := 80) dX12_sign_11 (by decide) ?_
  refine ev_ic_leN (t := 18) (a := N + 4) (b := 80) dX12_sign_13 (by decide) rfl rfl (by omega) (by omega) (fun c_13 => ?_) (fun c_13 => ?_)
  · omega
  · refine ev_iconst (v := -1) dX12_sign_16 (by decide) ?_
    exact ev_iret dX12_sign_17 rfl (⟨rfl, rfl⟩)
set_option maxHeartbeats 1000000 in
theorem c_sign {I : Nat → Nat → Int32} {J : Nat → Nat → Int64} {R : Nat → Nat → Value} {t : Nat → Nat} {d N : Nat} (hT : mT I t N) (hN : N ≤ 76) (v : Int32) : Cal lyM d hX12_sign 3 [.ref 0, .int v] (I, J, R) (fun r M' => r = some (.int (nI (N + 4))) ∧ ∃ I3, M' = (I3, J, R) ∧ (∀ p, p ≠ 0 → p ≠ 6 → I3 p = I p) ∧ (∀ k, k ≠ 9 → I3 0 k = ti_wr I 0 12 0 0 k) ∧ mT I3 (app t N v) (N + 4)) := by
  obtain ⟨h1, h2, h5⟩ := hT
  show Ev lyM d hX12_sign 0 [some (.ref 0), some (.int v), none] [] (I, J, R) _
  refine ev_st dX12_sign_0 rfl rfl ?_
  refine ev_iconst (v := 0) dX12_sign_1 (by decide) ?_
  refine ev_putI dX12_sign_2 fr_12_89 rfl rfl ?_
  refine ev_st dX12_sign_5 rfl rfl ?_
  refine ev_getI (v := nI N) dX12_sign_6 fr_12_105 rfl rfl h1 ?_
  refine ev_iconst (v := 4) dX12_sign_9 (by decide) ?_
  refine ev_iaddN (a := N) (b := 4) (c := N + 4) dX12_sign_10 rfl rfl rfl ?_
  refine ev_bipush (v := 80) dX12_sign_11 (by decide) ?_
  refine ev_ic_leN (t := 18) (a := N + 4) (b := 80) dX12_sign_13 (by decide) rfl rfl (by omega) (by omega) (fun c_13 => ?_) (fun c_13 => ?_)
  · refine ev_iconst (v := 3) dX12_sign_18 (by decide) ?_
    refine ev_st (L' := [some (.ref 0), some (.int v), some (.int 3)]) dX12_sign_19 rfl rfl ?_
    refine ev_st dX12_sign_20 rfl rfl ?_
    refine ev_if_lt (t := 53) dX12_sign_21 (by decide) (fun q => absurd q (by decide)) (fun _ => ?_)
    refine ev_st dX12_sign_24 rfl rfl ?_
    refine ev_getC dX12_sign_25 fr_12_29 rfl rfl ?_
    refine ev_st dX12_sign_28 rfl rfl ?_
    refine ev_st dX12_sign_29 rfl rfl ?_
    refine ev_getI (v := nI N) dX12_sign_30 fr_12_105 rfl rfl h1 ?_
    refine ev_st dX12_sign_33 rfl rfl ?_
    refine ev_iconst (v := 1) dX12_sign_34 (by decide) ?_
    refine ev_iaddN (a := N) (b := 1) (c := N + 1) dX12_sign_35 rfl rfl rfl ?_
    refine ev_putI dX12_sign_36 fr_12_105 rfl rfl ?_
    refine ev_st dX12_sign_39 rfl rfl ?_
    refine ev_bipush (v := 8) dX12_sign_40 (by decide) ?_
    refine ev_st dX12_sign_42 rfl rfl ?_
    refine ev_imulN (a := 8) (b := 3) (c := 24) dX12_sign_43 rfl rfl rfl ?_
    refine ev_st dX12_sign_44 rfl rfl ?_
    refine ev_st dX12_sign_45 rfl rfl ?_
    refine ev_bast (j := N) dX12_sign_46 rfl rfl (by omega) (by decide) ?_
    refine ev_iinc (x := 3) (v := 2) (L' := [some (.ref 0), some (.int v), some (.int 2)]) dX12_sign_47 rfl (by decide) rfl ?_
    refine ev_goto (t := 20) dX12_sign_50 (by decide) ?_
    refine ev_st dX12_sign_20 rfl rfl ?_
    refine ev_if_lt (t := 53) dX12_sign_21 (by decide) (fun q => absurd q (by decide)) (fun _ => ?_)
    refine ev_st dX12_sign_24 rfl rfl ?_
    refine ev_getC dX12_sign_25 fr_12_29 rfl rfl ?_
    refine ev_st dX12_sign_28 rfl rfl ?_
    refine ev_st dX12_sign_29 rfl rfl ?_
    refine ev_getI (v := nI (N + 1)) dX12_sign_30 fr_12_105 rfl rfl rfl ?_
    refine ev_st dX12_sign_33 rfl rfl ?_
    refine ev_iconst (v := 1) dX12_sign_34 (by decide) ?_
    refine ev_iaddN (a := N + 1) (b := 1) (c := N + 1 + 1) dX12_sign_35 rfl rfl rfl ?_
    refine ev_putI dX12_sign_36 fr_12_105 rfl rfl ?_
    refine ev_st dX12_sign_39 rfl rfl ?_
    refine ev_bipush (v := 8) dX12_sign_40 (by decide) ?_
    refine ev_st dX12_sign_42 rfl rfl ?_
    refine ev_imulN (a := 8) (b := 2) (c := 16) dX12_sign_43 rfl rfl rfl ?_
    refine ev_st dX12_sign_44 rfl rfl ?_
    refine ev_st dX12_sign_45 rfl rfl ?_
    refine ev_bast (j := N + 1) dX12_sign_46 rfl rfl (by omega) (by decide) ?_
    refine ev_iinc (x := 2) (v := 1) (L' := [some (.ref 0), some (.int v), some (.int 1)]) dX12_sign_47 rfl (by decide) rfl ?_
    refine ev_goto (t := 20) dX12_sign_50 (by decide) ?_
    refine ev_st dX12_sign_20 rfl rfl ?_
    refine ev_if_lt (t := 53) dX12_sign_21 (by decide) (fun q => absurd q (by decide)) (fun _ => ?_)
    refine ev_st dX12_sign_24 rfl rfl ?_
    refine ev_getC dX12_sign_25 fr_12_29 rfl rfl ?_
    refine ev_st dX12_sign_28 rfl rfl ?_
    refine ev_st dX12_sign_29 rfl rfl ?_
    refine ev_getI (v := nI (N + 1 + 1)) dX12_sign_30 fr_12_105 rfl rfl rfl ?_
    refine ev_st dX12_sign_33 rfl rfl ?_
    refine ev_iconst (v := 1) dX12_sign_34 (by decide) ?_
    refine ev_iaddN (a := N + 1 + 1) (b := 1) (c := N + 1 + 1 + 1) dX12_sign_35 rfl rfl rfl ?_
    refine ev_putI dX12_sign_36 fr_12_105 rfl rfl ?_
    refine ev_st dX12_sign_39 rfl rfl ?_
    refine ev_bipush (v := 8) dX12_sign_40 (by decide) ?_
    refine ev_st dX12_sign_42 rfl rfl ?_
    refine ev_imulN (a := 8) (b := 1) (c := 8) dX12_sign_43 rfl rfl rfl ?_
    refine ev_st dX12_sign_44 rfl rfl ?_
    refine ev_st dX12_sign_45 rfl rfl ?_
    refine ev_bast (j := N + 1 + 1) dX12_sign_46 rfl rfl (by omega) (by decide) ?_
    refine ev_iinc (x := 1) (v := 0) (L' := [some (.ref 0), some (.int v), some (.int 0)]) dX12_sign_47 rfl (by decide) rfl ?_
    refine ev_goto (t := 20) dX12_sign_50 (by decide) ?_
    refine ev_st dX12_sign_20 rfl rfl ?_
    refine ev_if_lt (t := 53) dX12_sign_21 (by decide) (fun q => absurd q (by decide)) (fun _ => ?_)
    refine ev_st dX12_sign_24 rfl rfl ?_
    refine ev_getC dX12_sign_25 fr_12_29 rfl rfl ?_
    refine ev_st dX12_sign_28 rfl rfl ?_
    refine ev_st dX12_sign_29 rfl rfl ?_
    refine ev_getI (v := nI (N + 1 + 1 + 1)) dX12_sign_30 fr_12_105 rfl rfl rfl ?_
    refine ev_st dX12_sign_33 rfl rfl ?_
    refine ev_iconst (v := 1) dX12_sign_34 (by decide) ?_
    refine ev_iaddN (a := N + 1 + 1 + 1) (b := 1) (c := N + 1 + 1 + 1 + 1) dX12_sign_35 rfl rfl rfl ?_
    refine ev_putI dX12_sign_36 fr_12_105 rfl rfl ?_
    refine ev_st dX12_sign_39 rfl rfl ?_
    refine ev_bipush (v := 8) dX12_sign_40 (by decide) ?_
    refine ev_st dX12_sign_42 rfl rfl ?_
    refine ev_imulN (a := 8) (b := 0) (c := 0) dX12_sign_43 rfl rfl rfl ?_
    refine ev_st dX12_sign_44 rfl rfl ?_
    refine ev_st dX12_sign_45 rfl rfl ?_
    refine ev_bast (j := N + 1 + 1 + 1) dX12_sign_46 rfl rfl (by omega) (by decide) ?_
    refine ev_iinc (x := 0) (v := (-1)) (L' := [some (.ref 0), some (.int v), some (.int ((-1)))]) dX12_sign_47 rfl (by decide) rfl ?_
    refine ev_goto (t := 20) dX12_sign_50 (by decide) ?_
    refine ev_st dX12_sign_20 rfl rfl ?_
    refine ev_if_lt (t := 53) dX12_sign_21 (by decide) (fun _ => ?_) (fun q => absurd q (by decide))
    refine ev_st dX12_sign_53 rfl rfl ?_
    refine ev_getI (v := nI (N + 1 + 1 + 1 + 1)) dX12_sign_54 fr_12_105 rfl rfl rfl ?_
    exact ev_iret dX12_sign_57 rfl (⟨rfl, _, rfl, fun p a b => ((app_mem2 (by decide)).1 p a b).trans (ti_wr_n a), (app_mem2 (by decide)).2.2.1, (app_mem2 (by decide)).2.1, by omega, fun k hk => by rw [(app_mem2 (by decide)).2.2.2 k]; exact app_c bI h5 ((bI2 _).trans (by_c v 24 (by decide) (by decide))) ((bI2 _).trans (by_c v 16 (by decide) (by decide))) ((bI2 _).trans (by_c v 8 (by decide) (by decide))) ((bI2 _).trans (by_c v 0 (by decide) (by decide))) k hk⟩)
  · omega
theorem c_end0 {I : Nat → Nat → Int32} {J : Nat → Nat → Int64} {R : Nat → Nat → Value} {d N : Nat} (h1 : I 0 9 = nI N) (h80 : N ≤ 80) {x : Int32} (hx : ix (N + 1) x = none) : Cal lyM (d + 1) hX12_end 2 [.ref 0, .int x] (I, J, R) (fun r M' => r = some (.int 0) ∧ M' = (ti_wr I 0 12 0, J, R)) := by
  show Ev lyM (d + 1) hX12_end 0 [some (.ref 0), some (.int x)] [] (I, J, R) _
  refine ev_st dX12_end_0 rfl rfl ?_
  refine ev_iconst (v := 0) dX12_end_1 (by decide) ?_
  refine ev_putI dX12_end_2 fr_12_89 rfl rfl ?_
  refine ev_st dX12_end_5 rfl rfl ?_
  refine ev_iconst (v := 0) dX12_end_6 (by decide) ?_
  refine ev_st dX12_end_7 rfl rfl ?_
  refine ev_getI (v := nI N) dX12_end_8 fr_12_105 rfl rfl h1 ?_
  refine ev_call dX12_end_11 rfl rfl mr_12_98 rfl rfl rfl (c_in0 (by rw [ix_inC (by omega), hx]; rfl)) ?_
  rintro _ _ ⟨rfl, rfl⟩
  show Ev lyM (d + 1) hX12_end 14 [some (.ref 0), some (.int x)] [.int 0] (ti_wr I 0 12 0, J, R) _
  refine ev_if_ne (t := 19) dX12_end_14 (by decide) (fun q => absurd q (by decide)) (fun _ => ?_)
  refine ev_iconst (v := 0) dX12_end_17 (by decide) ?_
  exact ev_zret dX12_end_18 rfl (by decide) (⟨rfl, rfl⟩)
theorem c_end1 {I : Nat → Nat → Int32} {J : Nat → Nat → Int64} {R : Nat → Nat → Value} {d N m : Nat} (h1 : I 0 9 = nI N) (h80 : N ≤ 80) (hm : m ≤ N) : Cal lyM (d + 1) hX12_end 2 [.ref 0, .int (nI m)] (I, J, R) (fun r M' => r = some (.int 1) ∧ M' = (ti_wr (ti_wr I 0 12 0) 0 9 (nI m), J, R)) := by
  show Ev lyM (d + 1) hX12_end 0 [some (.ref 0), some (.int (nI m))] [] (I, J, R) _
  refine ev_st dX12_end_0 rfl rfl ?_
  refine ev_iconst (v := 0) dX12_end_1 (by decide) ?_
  refine ev_putI dX12_end_2 fr_12_89 rfl rfl ?_
  refine ev_st dX12_end_5 rfl rfl ?_
  refine ev_iconst (v := 0) dX12_end_6 (by decide) ?_
  refine ev_st dX12_end_7 rfl rfl ?_
  refine ev_getI (v := nI N) dX12_end_8 fr_12_105 rfl rfl h1 ?_
  refine ev_call dX12_end_11 rfl rfl mr_12_98 rfl rfl rfl (c_in1 (by rw [ix_inC (by omega), ix_nI (by omega) (by omega)]; rfl)) ?_
  rintro _ _ ⟨rfl, rfl⟩
  show Ev lyM (d + 1) hX12_end 14 [some (.ref 0), some (.int (nI m))] [.int 1] (ti_wr I 0 12 0, J, R) _
  refine ev_if_ne (t := 19) dX12_end_14 (by decide) (fun _ => ?_) (fun q => absurd q (by decide))
  refine ev_st dX12_end_19 rfl rfl ?_
  refine ev_st dX12_end_20 rfl rfl ?_
  refine ev_putI dX12_end_21 fr_12_105 rfl rfl ?_
  refine ev_iconst (v := 1) dX12_end_24 (by decide) ?_
  exact ev_zret dX12_end_25 rfl (by decide) (⟨rfl, rfl⟩)
