/-! rows of the small machine's memory, and layouts -/
section EVM
variable {lay : List TE} {d : Nat} {h : TH} {pc pc' len : Nat} {i : Instr} {L L' : TL} {st st' : List Value} {M M' : TM} {Q : Option Value → TM → Prop} {I : Nat → Nat → Int32} {J : Nat → Nat → Int64} {R : Nat → Nat → Value}
theorem nI_cl {j n : Nat} (hj : j < n) (hn : n < 2 ^ 31) : 0 ≤ nI j ∧ (nI j).toNatClampNeg < n ∧ (nI j).toNatClampNeg = j := by
  have h1 : (nI j).toNatClampNeg = j := nI_clamp (by omega)
  exact ⟨nI_pos' (by omega), by rw [h1]; exact hj, h1⟩
theorem ev_getI {idx ci k kd p z : Nat} {fds : List (Nat × Nat)} {v : Int32} (hd : decode h.2.1 pc = .ok (.getfield idx, 3)) (hf : ti_fr h.1 idx = some (ci, k, kd)) (hl : lay[p]? = some (.inl (ci, fds))) (hk : fds[k]? = some (0, z)) (hv : I p k = v) (kk : Ev lay d h (pc + 3) L (.int v :: st) (I, J, R) Q) : Ev lay d h pc L (.ref p :: st) (I, J, R) Q := by
  subst hv
  exact ev_st hd rfl (by simp [ti_step, ti_gf, hf, hl, hk, ti_fv]) kk
theorem ev_getC {idx ci k kd p q : Nat} {fds : List (Nat × Nat)} (hd : decode h.2.1 pc = .ok (.getfield idx, 3)) (hf : ti_fr h.1 idx = some (ci, k, kd)) (hl : lay[p]? = some (.inl (ci, fds))) (hk : fds[k]? = some (1, q)) (kk : Ev lay d h (pc + 3) L (.ref q :: st) (I, J, R) Q) : Ev lay d h pc L (.ref p :: st) (I, J, R) Q :=
  ev_st hd rfl (by simp [ti_step, ti_gf, hf, hl, hk, ti_fv]) kk
theorem ev_getR {idx ci k kd p z : Nat} {fds : List (Nat × Nat)} {v : Value} (hd : decode h.2.1 pc = .ok (.getfield idx, 3)) (hf : ti_fr h.1 idx = some (ci, k, kd)) (hl : lay[p]? = some (.inl (ci, fds))) (hk : fds[k]? = some (2, z)) (hv : R p k = v) (kk : Ev lay d h (pc + 3) L (v :: st) (I, J, R) Q) : Ev lay d h pc L (.ref p :: st) (I, J, R) Q := by
  subst hv
  exact ev_st hd rfl (by simp [ti_step, ti_gf, hf, hl, hk, ti_fv]) kk
theorem ev_putI {idx ci k p z : Nat} {fds : List (Nat × Nat)} {x : Int32} (hd : decode h.2.1 pc = .ok (.putfield idx, 3)) (hf : ti_fr h.1 idx = some (ci, k, 0)) (hl : lay[p]? = some (.inl (ci, fds))) (hk : fds[k]? = some (0, z)) (kk : Ev lay d h (pc + 3) L st (ti_wr I p k x, J, R) Q) : Ev lay d h pc L (.int x :: .ref p :: st) (I, J, R) Q :=
  ev_st hd rfl (by simp [ti_step, ti_pf, hf, hl, hk]) kk
theorem ev_putZ {idx ci k p z : Nat} {fds : List (Nat × Nat)} {x : Int32} (hd : decode h.2.1 pc = .ok (.putfield idx, 3)) (hf : ti_fr h.1 idx = some (ci, k, 1)) (hl : lay[p]? = some (.inl (ci, fds))) (hk : fds[k]? = some (0, z)) (hx : x = 0 ∨ x = 1) (kk : Ev lay d h (pc + 3) L st (ti_wr I p k x, J, R) Q) : Ev lay d h pc L (.int x :: .ref p :: st) (I, J, R) Q :=
  ev_st hd rfl (by simp [ti_step, ti_pf, hf, hl, hk, hx]) kk
theorem ev_putR {idx ci k p q z : Nat} {fds : List (Nat × Nat)} (hd : decode h.2.1 pc = .ok (.putfield idx, 3)) (hf : ti_fr h.1 idx = some (ci, k, 3)) (hl : lay[p]? = some (.inl (ci, fds))) (hk : fds[k]? = some (2, z)) (kk : Ev lay d h (pc + 3) L st (I, J, ti_wf R p k (.ref q)) Q) : Ev lay d h pc L (.ref q :: .ref p :: st) (I, J, R) Q :=
  ev_st hd rfl (by simp [ti_step, ti_pf, hf, hl, hk]) kk
theorem ev_iald {p j n : Nat} {x v : Int32} (hd : decode h.2.1 pc = .ok (.iaload, 1)) (hl : lay[p]? = some (.inr (.inl (0, n)))) (hi : x = nI j) (hj : j < n) (hn : n < 2 ^ 31) (hv : I p j = v) (kk : Ev lay d h (pc + 1) L (.int v :: st) (I, J, R) Q) : Ev lay d h pc L (.int x :: .ref p :: st) (I, J, R) Q := by
  subst hi; subst hv
  obtain ⟨h1, h2, h3⟩ := nI_cl hj hn
  exact ev_st hd rfl (by simp [ti_step, ti_al, hl, h1, h3, hj]) kk
theorem ev_bald {p j n kd : Nat} {x v : Int32} (hd : decode h.2.1 pc = .ok (.baload, 1)) (hl : lay[p]? = some (.inr (.inl (kd, n)))) (hkd : kd = 1 ∨ kd = 3) (hi : x = nI j) (hj : j < n) (hn : n < 2 ^ 31) (hv : I p j = v) (kk : Ev lay d h (pc + 1) L (.int v :: st) (I, J, R) Q) : Ev lay d h pc L (.int x :: .ref p :: st) (I, J, R) Q := by
  subst hi; subst hv
  obtain ⟨h1, h2, h3⟩ := nI_cl hj hn
  rcases hkd with rfl | rfl <;> exact ev_st hd rfl (by simp [ti_step, ti_al, hl, h1, h3, hj]) kk
theorem ev_cald {p j n : Nat} {x v : Int32} (hd : decode h.2.1 pc = .ok (.caload, 1)) (hl : lay[p]? = some (.inr (.inl (2, n)))) (hi : x = nI j) (hj : j < n) (hn : n < 2 ^ 31) (hv : I p j = v) (kk : Ev lay d h (pc + 1) L (.int v :: st) (I, J, R) Q) : Ev lay d h pc L (.int x :: .ref p :: st) (I, J, R) Q := by
  subst hi; subst hv
  obtain ⟨h1, h2, h3⟩ := nI_cl hj hn
  exact ev_st hd rfl (by simp [ti_step, ti_al, hl, h1, h3, hj]) kk
theorem ev_lald {p j n : Nat} {x : Int32} {v : Int64} (hd : decode h.2.1 pc = .ok (.laload, 1)) (hl : lay[p]? = some (.inr (.inl (4, n)))) (hi : x = nI j) (hj : j < n) (hn : n < 2 ^ 31) (hv : J p j = v) (kk : Ev lay d h (pc + 1) L (.long v :: st) (I, J, R) Q) : Ev lay d h pc L (.int x :: .ref p :: st) (I, J, R) Q := by
  subst hi; subst hv
  obtain ⟨h1, h2, h3⟩ := nI_cl hj hn
  exact ev_st hd rfl (by simp [ti_step, ti_al, hl, h1, h3, hj]) kk
theorem ev_aald {p j q : Nat} {qs : List Nat} {x : Int32} (hd : decode h.2.1 pc = .ok (.aaload, 1)) (hl : lay[p]? = some (.inr (.inr qs))) (hi : x = nI j) (hj : j < 2 ^ 31) (hq : qs[j]? = some q) (kk : Ev lay d h (pc + 1) L (.ref q :: st) (I, J, R) Q) : Ev lay d h pc L (.int x :: .ref p :: st) (I, J, R) Q := by
  subst hi
  have h1 : (nI j).toNatClampNeg = j := nI_clamp hj
  have h2 : 0 ≤ nI j := nI_pos' hj
  exact ev_st hd rfl (by simp [ti_step, ti_aa, hl, h1, h2, hq]) kk
theorem ev_iast {p j n : Nat} {x y : Int32} (hd : decode h.2.1 pc = .ok (.iastore, 1)) (hl : lay[p]? = some (.inr (.inl (0, n)))) (hi : x = nI j) (hj : j < n) (hn : n < 2 ^ 31) (kk : Ev lay d h (pc + 1) L st (ti_wr I p j y, J, R) Q) : Ev lay d h pc L (.int y :: .int x :: .ref p :: st) (I, J, R) Q := by
  subst hi
  obtain ⟨h1, h2, h3⟩ := nI_cl hj hn
  exact ev_st hd rfl (by simp [ti_step, ti_as, hl, h1, h3, hj, ti_nar]) kk
theorem ev_bast {p j n : Nat} {x y : Int32} (hd : decode h.2.1 pc = .ok (.bastore, 1)) (hl : lay[p]? = some (.inr (.inl (1, n)))) (hi : x = nI j) (hj : j < n) (hn : n < 2 ^ 31) (kk : Ev lay d h (pc + 1) L st (ti_wr I p j y.toInt8.toInt32, J, R) Q) : Ev lay d h pc L (.int y :: .int x :: .ref p :: st) (I, J, R) Q := by
  subst hi
  obtain ⟨h1, h2, h3⟩ := nI_cl hj hn
  exact ev_st hd rfl (by simp [ti_step, ti_as, hl, h1, h3, hj, ti_nar, vp_nar_byte]) kk
theorem ev_zast {p j n : Nat} {x y : Int32} (hd : decode h.2.1 pc = .ok (.bastore, 1)) (hl : lay[p]? = some (.inr (.inl (3, n)))) (hi : x = nI j) (hj : j < n) (hn : n < 2 ^ 31) (hy : y = 0 ∨ y = 1) (kk : Ev lay d h (pc + 1) L st (ti_wr I p j y, J, R) Q) : Ev lay d h pc L (.int y :: .int x :: .ref p :: st) (I, J, R) Q := by
  subst hi
  obtain ⟨h1, h2, h3⟩ := nI_cl hj hn
  have h4 : vp_nar .boolean y = y := by rcases hy with rfl | rfl <;> decide
  exact ev_st hd rfl (by simp [ti_step, ti_as, hl, h1, h3, hj, ti_nar, h4]) kk
theorem ev_cast {p j n : Nat} {x y : Int32} (hd : decode h.2.1 pc = .ok (.castore, 1)) (hl : lay[p]? = some (.inr (.inl (2, n)))) (hi : x = nI j) (hj : j < n) (hn : n < 2 ^ 31) (kk : Ev lay d h (pc + 1) L st (ti_wr I p j (vp_nar .char y), J, R) Q) : Ev lay d h pc L (.int y :: .int x :: .ref p :: st) (I, J, R) Q := by
  subst hi
  obtain ⟨h1, h2, h3⟩ := nI_cl hj hn
  exact ev_st hd rfl (by simp [ti_step, ti_as, hl, h1, h3, hj, ti_nar]) kk
theorem ev_last {p j n : Nat} {x : Int32} {y : Int64} (hd : decode h.2.1 pc = .ok (.lastore, 1)) (hl : lay[p]? = some (.inr (.inl (4, n)))) (hi : x = nI j) (hj : j < n) (hn : n < 2 ^ 31) (kk : Ev lay d h (pc + 1) L st (I, ti_wl J p j y, R) Q) : Ev lay d h pc L (.long y :: .int x :: .ref p :: st) (I, J, R) Q := by
  subst hi
  obtain ⟨h1, h2, h3⟩ := nI_cl hj hn
  exact ev_st hd rfl (by simp [ti_step, ti_als, hl, h1, h3, hj]) kk
theorem ev_alen {p n kd : Nat} {v : Int32} (hd : decode h.2.1 pc = .ok (.arraylength, 1)) (hl : lay[p]? = some (.inr (.inl (kd, n)))) (h5 : kd < 5) (hv : nI n = v) (kk : Ev lay d h (pc + 1) L (.int v :: st) M Q) : Ev lay d h pc L (.ref p :: st) M Q := by
  subst hv
  exact ev_st hd rfl (by simp [ti_step, ti_len, hl, h5, nI]) kk
theorem ev_ldc {k : Nat} {v : Int32} (hd : decode h.2.1 pc = .ok (.ldc k, 2)) (hc : ti_cs h.1 k = some (.int v)) (kk : Ev lay d h (pc + 2) L (.int v :: st) M Q) : Ev lay d h pc L st M Q := ev_st hd rfl (by simp [ti_step, hc]) kk
theorem ev_ldcS {k q : Nat} (hd : decode h.2.1 pc = .ok (.ldc k, 2)) (hc : ti_cs h.1 k = some (.ref q)) (kk : Ev lay d h (pc + 2) L (.ref q :: st) M Q) : Ev lay d h pc L st M Q := ev_st hd rfl (by simp [ti_step, hc]) kk
theorem ev_ldcw {k : Nat} {v : Int32} (hd : decode h.2.1 pc = .ok (.ldc_w k, 3)) (hc : ti_cs h.1 k = some (.int v)) (kk : Ev lay d h (pc + 3) L (.int v :: st) M Q) : Ev lay d h pc L st M Q := ev_st hd rfl (by simp [ti_step, hc]) kk
theorem ev_ldc2 {k : Nat} {v : Int64} (hd : decode h.2.1 pc = .ok (.ldc2_w k, 3)) (hc : ti_cs h.1 k = some (.long v)) (kk : Ev lay d h (pc + 3) L (.long v :: st) M Q) : Ev lay d h pc L st M Q := ev_st hd rfl (by simp [ti_step, hc]) kk
theorem ev_max {k : Nat} {x y v : Int32} (hd : decode h.2.1 pc = .ok (.invokestatic k, 3)) (hb : ti_br h.1 k = some 0) (hc : Nat.ble (ti_cat st) 8 = true) (hv : (if x < y then y else x) = v) (kk : Ev lay (d + 1) h (pc + 3) L (.int v :: st) M Q) : Ev lay (d + 1) h pc L (.int y :: .int x :: st) M Q := by
  subst hv
  exact ev_bui hd rfl rfl hb (Or.inl rfl) (by simp [ti_bui, Nat.le_of_ble_eq_true hc]) kk
theorem ev_min {k : Nat} {x y v : Int32} (hd : decode h.2.1 pc = .ok (.invokestatic k, 3)) (hb : ti_br h.1 k = some 1) (hc : Nat.ble (ti_cat st) 8 = true) (hv : (if y < x then y else x) = v) (kk : Ev lay (d + 1) h (pc + 3) L (.int v :: st) M Q) : Ev lay (d + 1) h pc L (.int y :: .int x :: st) M Q := by
  subst hv
  exact ev_bui hd rfl rfl hb (Or.inl rfl) (by simp [ti_bui, Nat.le_of_ble_eq_true hc]) kk
theorem ev_abs {k : Nat} {x v : Int32} (hd : decode h.2.1 pc = .ok (.invokestatic k, 3)) (hb : ti_br h.1 k = some 2) (hc : Nat.ble (ti_cat st) 8 = true) (hv : (if 0 ≤ x then x else 0 - x) = v) (kk : Ev lay (d + 1) h (pc + 3) L (.int v :: st) M Q) : Ev lay (d + 1) h pc L (.int x :: st) M Q := by
  subst hv
  exact ev_bui hd rfl rfl hb (Or.inl rfl) (by simp [ti_bui, Nat.le_of_ble_eq_true hc]) kk
theorem ev_copy {k q0 q1 n0 n1 n sp dp : Nat} {xn xs xd : Int32} (hd : decode h.2.1 pc = .ok (.invokestatic k, 3)) (hb : ti_br h.1 k = some 3) (hc : Nat.ble (ti_cat st) 8 = true) (hl0 : lay[q0]? = some (.inr (.inl (0, n0)))) (hl1 : lay[q1]? = some (.inr (.inl (0, n1)))) (en : xn = nI n) (es : xs = nI sp) (ed : xd = nI dp) (h0 : sp + n ≤ n0) (h1 : dp + n ≤ n1) (hn0 : n0 < 2 ^ 31) (hn1 : n1 < 2 ^ 31)
    (kk : Ev lay (d + 1) h (pc + 3) L st (va_up I q1 (va_cpy (I q0) (I q1) sp dp n), J, R) Q) : Ev lay (d + 1) h pc L (.int xn :: .int xd :: .ref q1 :: .int xs :: .ref q0 :: st) (I, J, R) Q := by
  subst en; subst es; subst ed
  have a1 : (nI n).toNatClampNeg = n := nI_clamp (by omega)
  have a2 : (nI sp).toNatClampNeg = sp := nI_clamp (by omega)
  have a3 : (nI dp).toNatClampNeg = dp := nI_clamp (by omega)
  have b1 : 0 ≤ nI n := nI_pos' (by omega)
  have b2 : 0 ≤ nI sp := nI_pos' (by omega)
  have b3 : 0 ≤ nI dp := nI_pos' (by omega)
  exact ev_bui hd rfl rfl hb (Or.inl rfl) (by simp [ti_bui, hl0, hl1, Nat.le_of_ble_eq_true hc, a1, a2, a3, b1, b2, b3, h0, h1]) kk
theorem ev_indexOf {k : Nat} {x : Int32} (h8 : 8 ≤ d + 1) (hd : decode h.2.1 pc = .ok (.invokevirtual k, 3)) (hb : ti_br h.1 k = some 4) (hc : Nat.ble (ti_cat st) 8 = true) (h0 : 0 ≤ x) (h1 : x ≤ 65535) (kk : Ev lay (d + 1) h (pc + 3) L (.int (ti_ix x) :: st) M Q) : Ev lay (d + 1) h pc L (.int x :: .ref 900 :: st) M Q :=
  ev_bui hd rfl rfl hb (Or.inr h8) (by simp [ti_bui, Nat.le_of_ble_eq_true hc, h0, h1]) kk
theorem ev_div {x y : Int32} (hd : decode h.2.1 pc = .ok (.idiv, 1)) (hy : ¬ y = 0) (kk : Ev lay d h (pc + 1) L (.int (x / y) :: st) M Q) : Ev lay d h pc L (.int y :: .int x :: st) M Q := ev_st hd rfl (by simp [ti_step, ti_b, hy]) kk
theorem ev_rem {x y : Int32} (hd : decode h.2.1 pc = .ok (.irem, 1)) (hy : ¬ y = 0) (kk : Ev lay d h (pc + 1) L (.int (x - x / y * y) :: st) M Q) : Ev lay d h pc L (.int y :: .int x :: st) M Q := ev_st hd rfl (by simp [ti_step, ti_b, hy]) kk
theorem ev_ldiv {x y : Int64} (hd : decode h.2.1 pc = .ok (.ldiv, 1)) (hy : ¬ y = 0) (kk : Ev lay d h (pc + 1) L (.long (x / y) :: st) M Q) : Ev lay d h pc L (.long y :: .long x :: st) M Q := ev_st hd rfl (by simp [ti_step, ti_bl, hy]) kk
theorem ev_lrem {x y : Int64} (hd : decode h.2.1 pc = .ok (.lrem, 1)) (hy : ¬ y = 0) (kk : Ev lay d h (pc + 1) L (.long (x - x / y * y) :: st) M Q) : Ev lay d h pc L (.long y :: .long x :: st) M Q := ev_st hd rfl (by simp [ti_step, ti_bl, hy]) kk
/-- numbers known as small naturals -/
theorem ev_iaddN {x y : Int32} {a b c : Nat} (hd : decode h.2.1 pc = .ok (.iadd, 1)) (hx : x = nI a) (hy : y = nI b) (hc : a + b = c) (kk : Ev lay d h (pc + 1) L (.int (nI c) :: st) M Q) : Ev lay d h pc L (.int y :: .int x :: st) M Q := by
  subst hx; subst hy; subst hc
  exact ev_st hd rfl (by simp [ti_step, ti_b, nI_add]) kk
theorem ev_isubN {x y : Int32} {a b c : Nat} (hd : decode h.2.1 pc = .ok (.isub, 1)) (hx : x = nI a) (hy : y = nI b) (hb : b ≤ a) (hc : a - b = c) (kk : Ev lay d h (pc + 1) L (.int (nI c) :: st) M Q) : Ev lay d h pc L (.int y :: .int x :: st) M Q := by
  subst hx; subst hy; subst hc
  exact ev_st hd rfl (by simp [ti_step, ti_b, pk_sub hb]) kk
theorem ev_imulN {x y : Int32} {a b c : Nat} (hd : decode h.2.1 pc = .ok (.imul, 1)) (hx : x = nI a) (hy : y = nI b) (hc : a * b = c) (kk : Ev lay d h (pc + 1) L (.int (nI c) :: st) M Q) : Ev lay d h pc L (.int y :: .int x :: st) M Q := by
  subst hx; subst hy; subst hc
  exact ev_st hd rfl (by simp [ti_step, ti_b, pk_mul]) kk
theorem ev_ic_geN {off : Int} {t a b : Nat} {x y : Int32} (hd : decode h.2.1 pc = .ok (.if_icmp .ge off, 3)) (ht : ti_jmp pc off = some t) (hx : x = nI a) (hy : y = nI b) (ha : a < 2 ^ 31) (hb : b < 2 ^ 31) (kt : b ≤ a → Ev lay d h t L st M Q) (kf : a < b → Ev lay d h (pc + 3) L st M Q) : Ev lay d h pc L (.int y :: .int x :: st) M Q := by
  subst hx; subst hy
  exact ev_ic_ge hd ht (fun q => kt (Nat.not_lt.mp fun z => q ((nI_ltI ha hb).mpr z))) (fun q => kf ((nI_ltI ha hb).mp q))
theorem ev_ic_ltN {off : Int} {t a b : Nat} {x y : Int32} (hd : decode h.2.1 pc = .ok (.if_icmp .lt off, 3)) (ht : ti_jmp pc off = some t) (hx : x = nI a) (hy : y = nI b) (ha : a < 2 ^ 31) (hb : b < 2 ^ 31) (kt : a < b → Ev lay d h t L st M Q) (kf : b ≤ a → Ev lay d h (pc + 3) L st M Q) : Ev lay d h pc L (.int y :: .int x :: st) M Q := by
  subst hx; subst hy
  exact ev_ic_lt hd ht (fun q => kt ((nI_ltI ha hb).mp q)) (fun q => kf (Nat.not_lt.mp fun z => q ((nI_ltI ha hb).mpr z)))
theorem ev_ic_gtN {off : Int} {t a b : Nat} {x y : Int32} (hd : decode h.2.1 pc = .ok (.if_icmp .gt off, 3)) (ht : ti_jmp pc off = some t) (hx : x = nI a) (hy : y = nI b) (ha : a < 2 ^ 31) (hb : b < 2 ^ 31) (kt : b < a → Ev lay d h t L st M Q) (kf : a ≤ b → Ev lay d h (pc + 3) L st M Q) : Ev lay d h pc L (.int y :: .int x :: st) M Q := by
  subst hx; subst hy
  exact ev_ic_gt hd ht (fun q => kt ((nI_ltI hb ha).mp q)) (fun q => kf (Nat.not_lt.mp fun z => q ((nI_ltI hb ha).mpr z)))
theorem ev_ic_leN {off : Int} {t a b : Nat} {x y : Int32} (hd : decode h.2.1 pc = .ok (.if_icmp .le off, 3)) (ht : ti_jmp pc off = some t) (hx : x = nI a) (hy : y = nI b) (ha : a < 2 ^ 31) (hb : b < 2 ^ 31) (kt : a ≤ b → Ev lay d h t L st M Q) (kf : b < a → Ev lay d h (pc + 3) L st M Q) : Ev lay d h pc L (.int y :: .int x :: st) M Q := by
  subst hx; subst hy
  exact ev_ic_le hd ht (fun q => kt (Nat.not_lt.mp fun z => q ((nI_ltI hb ha).mpr z))) (fun q => kf ((nI_ltI hb ha).mp q))
theorem ev_ic_eqN {off : Int} {t a b : Nat} {x y : Int32} (hd : decode h.2.1 pc = .ok (.if_icmp .eq off, 3)) (ht : ti_jmp pc off = some t) (hx : x = nI a) (hy : y = nI b) (ha : a < 2 ^ 31) (hb : b < 2 ^ 31) (kt : a = b → Ev lay d h t L st M Q) (kf : ¬ a = b → Ev lay d h (pc + 3) L st M Q) : Ev lay d h pc L (.int y :: .int x :: st) M Q := by
  subst hx; subst hy
  exact ev_ic_eq hd ht (fun q => kt ((nI_eq ha hb).mp q)) (fun q => kf fun z => q ((nI_eq ha hb).mpr z))
theorem ev_ic_neN {off : Int} {t a b : Nat} {x y : Int32} (hd : decode h.2.1 pc = .ok (.if_icmp .ne off, 3)) (ht : ti_jmp pc off = some t) (hx : x = nI a) (hy : y = nI b) (ha : a < 2 ^ 31) (hb : b < 2 ^ 31) (kt : ¬ a = b → Ev lay d h t L st M Q) (kf : a = b → Ev lay d h (pc + 3) L st M Q) : Ev lay d h pc L (.int y :: .int x :: st) M Q := by
  subst hx; subst hy
  exact ev_ic_ne hd ht (fun q => kt fun z => q ((nI_eq ha hb).mpr z)) (fun q => kf ((nI_eq ha hb).mp q))
theorem ev_iincN {k a b : Nat} {n : Int} {L' : TL} (hd : decode h.2.1 pc = .ok (.iinc k n, 3)) (hk : L[k]? = some (some (.int (nI a)))) (hv : nI a + Int32.ofInt n = nI b) (hL : ti_st1 L k (.int (nI b)) = some L') (kk : Ev lay d h (pc + 3) L' st M Q) : Ev lay d h pc L st M Q :=
  ev_st hd rfl (by simp only [ti_step, hk, hv, hL, Option.map_some]) kk
theorem ev_iinc {k : Nat} {x v : Int32} {n : Int} {L' : TL} (hd : decode h.2.1 pc = .ok (.iinc k n, 3)) (hk : L[k]? = some (some (.int x))) (hv : x + Int32.ofInt n = v) (hL : ti_st1 L k (.int v) = some L') (kk : Ev lay d h (pc + 3) L' st M Q) : Ev lay d h pc L st M Q :=
  ev_st hd rfl (by simp only [ti_step, hk, hv, hL, Option.map_some]) kk
theorem ev_if_eqN {off : Int} {t a : Nat} {x : Int32} (hd : decode h.2.1 pc = .ok (.ifCond .eq off, 3)) (ht : ti_jmp pc off = some t) (hx : x = nI a) (ha : a < 2 ^ 31) (kt : a = 0 → Ev lay d h t L st M Q) (kf : ¬ a = 0 → Ev lay d h (pc + 3) L st M Q) : Ev lay d h pc L (.int x :: st) M Q := by
  subst hx
  exact ev_if_eq hd ht (fun q => kt ((nI_eq ha (by decide : 0 < 2 ^ 31)).mp q)) (fun q => kf fun z => q (by rw [z]; rfl))
theorem ev_if_neN {off : Int} {t a : Nat} {x : Int32} (hd : decode h.2.1 pc = .ok (.ifCond .ne off, 3)) (ht : ti_jmp pc off = some t) (hx : x = nI a) (ha : a < 2 ^ 31) (kt : ¬ a = 0 → Ev lay d h t L st M Q) (kf : a = 0 → Ev lay d h (pc + 3) L st M Q) : Ev lay d h pc L (.int x :: st) M Q := by
  subst hx
  exact ev_if_ne hd ht (fun q => kt fun z => q (by rw [z]; rfl)) (fun q => kf ((nI_eq ha (by decide : 0 < 2 ^ 31)).mp q))
theorem ev_if_leN {off : Int} {t a : Nat} {x : Int32} (hd : decode h.2.1 pc = .ok (.ifCond .le off, 3)) (ht : ti_jmp pc off = some t) (hx : x = nI a) (ha : a < 2 ^ 31) (kt : a = 0 → Ev lay d h t L st M Q) (kf : 0 < a → Ev lay d h (pc + 3) L st M Q) : Ev lay d h pc L (.int x :: st) M Q := by
  subst hx
  exact ev_if_le hd ht (fun q => kt (Nat.le_zero.mp (Nat.not_lt.mp fun z => q (nI_lt z ha)))) (fun q => kf ((nI_ltI (by decide : 0 < 2 ^ 31) ha).mp q))
theorem ev_if_gtN {off : Int} {t a : Nat} {x : Int32} (hd : decode h.2.1 pc = .ok (.ifCond .gt off, 3)) (ht : ti_jmp pc off = some t) (hx : x = nI a) (ha : a < 2 ^ 31) (kt : 0 < a → Ev lay d h t L st M Q) (kf : a = 0 → Ev lay d h (pc + 3) L st M Q) : Ev lay d h pc L (.int x :: st) M Q := by
  subst hx
  exact ev_if_gt hd ht (fun q => kt ((nI_ltI (by decide : 0 < 2 ^ 31) ha).mp q)) (fun q => kf (Nat.le_zero.mp (Nat.not_lt.mp fun z => q (nI_lt z ha))))
theorem ev_if_ltN {off : Int} {t a : Nat} {x : Int32} (hd : decode h.2.1 pc = .ok (.ifCond .lt off, 3)) (ht : ti_jmp pc off = some t) (hx : x = nI a) (ha : a < 2 ^ 31) (kf : Ev lay d h (pc + 3) L st M Q) : Ev lay d h pc L (.int x :: st) M Q := by
  subst hx
  exact ev_if_lt hd ht (fun q => absurd q (nI_pos ha)) (fun _ => kf)
theorem ev_if_geN {off : Int} {t a : Nat} {x : Int32} (hd : decode h.2.1 pc = .ok (.ifCond .ge off, 3)) (ht : ti_jmp pc off = some t) (hx : x = nI a) (ha : a < 2 ^ 31) (kt : Ev lay d h t L st M Q) : Ev lay d h pc L (.int x :: st) M Q := by
  subst hx
  exact ev_if_ge hd ht (fun _ => kt) (fun q => absurd q (nI_pos ha))
theorem ev_iret {v : Int32} (hd : decode h.2.1 pc = .ok (.ireturn, 1)) (hr : h.2.2 = some .int) (hq : Q (some (.int v)) M) : Ev lay d h pc L [.int v] M Q := ev_ret hd rfl (by simp [ti_ret, hr]) hq
theorem ev_zret {v : Int32} (hd : decode h.2.1 pc = .ok (.ireturn, 1)) (hr : h.2.2 = some .boolean) (hv : v = 0 ∨ v = 1) (hq : Q (some (.int v)) M) : Ev lay d h pc L [.int v] M Q := ev_ret hd rfl (by simp [ti_ret, hr, hv]) hq
theorem ev_lret {v : Int64} (hd : decode h.2.1 pc = .ok (.lreturn, 1)) (hr : h.2.2 = some .long) (hq : Q (some (.long v)) M) : Ev lay d h pc L [.long v] M Q := ev_ret hd rfl (by simp [ti_ret, hr]) hq
theorem ev_vret (hd : decode h.2.1 pc = .ok (.return_, 1)) (hr : h.2.2 = none) (hq : Q none M) : Ev lay d h pc L [] M Q := ev_ret hd rfl (by simp [ti_ret, hr]) hq
end EVM
