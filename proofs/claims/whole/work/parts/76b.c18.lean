set_option maxHeartbeats 1000000 in
theorem k_waysTo {I I2 : Nat → Nat → Int32} {J : Nat → Nat → Int64} {R : Nat → Nat → Value} {d n t v p : Nat} (hn : I 8 3 = nI n) (hn8 : n ≤ 8) (hs2 : fC I I2) (ht : t < 256) (hv : v < 256) (hp : p ≤ 10) : Cal lyC d hX8_waysTo 6 [.ref 22, .int (nI t), .int (nI v), .int (nI p)] (I2, J, R) (fun r M' => r = some (.int (nI (ws t v p n))) ∧ M' = (I2, J, R)) := by
  have loop : ∀ (k b m : Nat), b ≤ n → n - b < k → m = ws t v p b → Ev lyC d hX8_waysTo 6 [some (.ref 22), some (.int (nI t)), some (.int (nI v)), some (.int (nI p)), some (.int (nI m)), some (.int (nI b))] [] (I2, J, R) (fun r M' => r = some (.int (nI (ws t v p n))) ∧ M' = (I2, J, R)) := by
    intro k
    induction k with
    | zero => intro b m h1 h2; omega
    | succ k ih =>
      intro b m hb hk hm
      refine ev_st dX8_waysTo_6 rfl rfl ?_
      refine ev_st dX8_waysTo_8 rfl rfl ?_
      refine ev_getC dX8_waysTo_9 fr_8_15 rfl rfl ?_
      refine ev_getI (v := nI n) dX8_waysTo_12 fr_8_51 rfl rfl ((congrFun (hs2.r 8 rfl) 3).trans hn) ?_
      refine ev_ic_geN (t := 55) (a := b) (b := n) dX8_waysTo_15 (by decide) rfl rfl (by omega) (by omega) (fun c_15 => ?_) (fun c_15 => ?_)
      · refine ev_st dX8_waysTo_55 rfl rfl ?_
        exact ev_iret dX8_waysTo_57 rfl (⟨by rw [hm, show b = n by omega], rfl⟩)
      · refine ev_st dX8_waysTo_18 rfl rfl ?_
        refine ev_st dX8_waysTo_19 rfl rfl ?_
        refine ev_st dX8_waysTo_21 rfl rfl ?_
        refine ev_iconst (v := 1) dX8_waysTo_22 (by decide) ?_
        refine ev_st dX8_waysTo_23 rfl rfl ?_
        refine ev_if_eq (t := 49) (x := ((nI v) >>> ((nI b) &&& 31)) &&& 1) dX8_waysTo_24 (by decide) (fun c_24 => ?_) (fun c_24 => ?_)
        · refine ev_iincN (a := b) (b := b + 1) (L' := [some (.ref 22), some (.int (nI t)), some (.int (nI v)), some (.int (nI p)), some (.int (nI m)), some (.int (nI (b + 1)))]) dX8_waysTo_49 rfl (nI_1 _) rfl ?_
          refine ev_goto (t := 6) dX8_waysTo_52 (by decide) ?_
          exact ih _ _ (by omega) (by omega) (by rw [ws, if_pos (kb_z hv (by omega) c_24)]; exact hm)
        · refine ev_st dX8_waysTo_27 rfl rfl ?_
          refine ev_st dX8_waysTo_29 rfl rfl ?_
          refine ev_st dX8_waysTo_30 rfl rfl ?_
          refine ev_st dX8_waysTo_32 rfl rfl ?_
          refine ev_iconst (v := 1) dX8_waysTo_33 (by decide) ?_
          refine ev_st dX8_waysTo_34 rfl rfl ?_
          refine ev_if_eq (t := 45) (x := ((nI t) >>> ((nI b) &&& 31)) &&& 1) dX8_waysTo_35 (by decide) (fun c_35 => ?_) (fun c_35 => ?_)
          · refine ev_st dX8_waysTo_45 rfl rfl ?_
            refine ev_imulN (a := m) (b := p) (c := m * p) dX8_waysTo_46 rfl rfl rfl ?_
            refine ev_st (L' := [some (.ref 22), some (.int (nI t)), some (.int (nI v)), some (.int (nI p)), some (.int (nI (m * p))), some (.int (nI b))]) dX8_waysTo_47 rfl rfl ?_
            refine ev_iincN (a := b) (b := b + 1) (L' := [some (.ref 22), some (.int (nI t)), some (.int (nI v)), some (.int (nI p)), some (.int (nI (m * p))), some (.int (nI (b + 1)))]) dX8_waysTo_49 rfl (nI_1 _) rfl ?_
            refine ev_goto (t := 6) dX8_waysTo_52 (by decide) ?_
            exact ih _ _ (by omega) (by omega) (by rw [ws, if_neg (kb_nz hv (by omega) c_24), if_pos (kb_z ht (by omega) c_35), hm])
          · refine ev_bipush (v := 10) dX8_waysTo_38 (by decide) ?_
            refine ev_st dX8_waysTo_40 rfl rfl ?_
            refine ev_isubN (a := 10) (b := p) (c := 10 - p) dX8_waysTo_41 rfl rfl hp rfl ?_
            refine ev_goto (t := 46) dX8_waysTo_42 (by decide) ?_
            refine ev_imulN (a := m) (b := 10 - p) (c := m * (10 - p)) dX8_waysTo_46 rfl rfl rfl ?_
            refine ev_st (L' := [some (.ref 22), some (.int (nI t)), some (.int (nI v)), some (.int (nI p)), some (.int (nI (m * (10 - p)))), some (.int (nI b))]) dX8_waysTo_47 rfl rfl ?_
            refine ev_iincN (a := b) (b := b + 1) (L' := [some (.ref 22), some (.int (nI t)), some (.int (nI v)), some (.int (nI p)), some (.int (nI (m * (10 - p)))), some (.int (nI (b + 1)))]) dX8_waysTo_49 rfl (nI_1 _) rfl ?_
            refine ev_goto (t := 6) dX8_waysTo_52 (by decide) ?_
            exact ih _ _ (by omega) (by omega) (by rw [ws, if_neg (kb_nz hv (by omega) c_24), if_neg (kb_nz ht (by omega) c_35), hm])
  show Ev lyC d hX8_waysTo 0 [some (.ref 22), some (.int (nI t)), some (.int (nI v)), some (.int (nI p)), none, none] [] (I2, J, R) _
  refine ev_iconst (v := 1) dX8_waysTo_0 (by decide) ?_
  refine ev_st (L' := [some (.ref 22), some (.int (nI t)), some (.int (nI v)), some (.int (nI p)), some (.int 1), none]) dX8_waysTo_1 rfl rfl ?_
  refine ev_iconst (v := 0) dX8_waysTo_3 (by decide) ?_
  refine ev_st (L' := [some (.ref 22), some (.int (nI t)), some (.int (nI v)), some (.int (nI p)), some (.int 1), some (.int 0)]) dX8_waysTo_4 rfl rfl ?_
  exact loop (n + 1) 0 1 (by omega) (by omega) rfl
theorem ev_divN {lay : List TE} {d pc c : Nat} {h : TH} {L : TL} {st : List Value} {M : TM} {Q : Option Value → TM → Prop} {x y : Int32} (hd : decode h.2.1 pc = .ok (.idiv, 1)) (hy : ¬ y = 0) (hv : x / y = nI c) (kk : Ev lay d h (pc + 1) L (.int (nI c) :: st) M Q) : Ev lay d h pc L (.int y :: .int x :: st) M Q := by
  rw [← hv] at kk
  exact ev_div hd hy kk
set_option maxHeartbeats 1000000 in
theorem k_chance3 {I I2 : Nat → Nat → Int32} {J : Nat → Nat → Int64} {R : Nat → Nat → Value} {d n c a p v p2 : Nat} {F : Int32 → Int32} (hn : I 8 3 = nI n) (hn8 : n ≤ 8) (hc : I 5 2 = nI c) (hc12 : c ≤ 12) (ha : I 39 1 = nI a) (ha12 : a ≤ 12) (hF : kF I R d p F) (hcv : I 39 3 = nI v) (hv : v < 256) (hp10 : p2 ≤ 10) {z : Option Value} (hs2 : fC I I2) : Ev lyC (d + 6) hX8_chanceToStand 104 [some (.ref 22), some (.ref 39), some (.ref p), some (.int (nI p2)), some (.int (nI (k_up F (I 39 2 + m_st c (I 6) a) v p2 n (2 ^ n)))), some (.int (nI (10 ^ cN v))), z] [] (I2, J, R) (fun r M' => r = some (.int 0) ∧ ∃ I3 J3, M' = (I3, J3, R) ∧ fC I I3 ∧ tC [(nI (k_up F (I 39 2 + m_st c (I 6) a) v p2 n (2 ^ n) / Nat.gcd (k_up F (I 39 2 + m_st c (I 6) a) v p2 n (2 ^ n)) (10 ^ cN v))).toInt64, (nI (10 ^ cN v / Nat.gcd (k_up F (I 39 2 + m_st c (I 6) a) v p2 n (2 ^ n)) (10 ^ cN v))).toInt64] I3 J3) := by
  have h8 := cN_8 v hv
  have h10 := p10 h8
  have hp2 := p256 hn8
  have hU := k_up_le (F := F) (nd := I 39 2 + m_st c (I 6) a) (v := v) (p := p2) hn8 hv hp10 (Nat.le_refl (2 ^ n))
  have hg0 : 0 < Nat.gcd (k_up F (I 39 2 + m_st c (I 6) a) v p2 n (2 ^ n)) (10 ^ cN v) := Nat.gcd_pos_of_pos_right _ (Nat.pow_pos (by decide))
  have hgl : Nat.gcd (k_up F (I 39 2 + m_st c (I 6) a) v p2 n (2 ^ n)) (10 ^ cN v) ≤ 10 ^ cN v := Nat.gcd_le_right _ (Nat.pow_pos (by decide))
  refine ev_st dX8_chanceToStand_104 rfl rfl ?_
  refine ev_st dX8_chanceToStand_106 rfl rfl ?_
  refine ev_call dX8_chanceToStand_108 rfl rfl mr_8_92 rfl rfl rfl (k_gcd (by omega) (by omega)) ?_
  rintro _ _ ⟨rfl, rfl⟩
  show Ev lyC (d + 6) hX8_chanceToStand 111 [some (.ref 22), some (.ref 39), some (.ref p), some (.int (nI p2)), some (.int (nI (k_up F (I 39 2 + m_st c (I 6) a) v p2 n (2 ^ n)))), some (.int (nI (10 ^ cN v))), z] [.int (nI (Nat.gcd (k_up F (I 39 2 + m_st c (I 6) a) v p2 n (2 ^ n)) (10 ^ cN v)))] (I2, J, R) _
  refine ev_st (L' := [some (.ref 22), some (.ref 39), some (.ref p), some (.int (nI p2)), some (.int (nI (k_up F (I 39 2 + m_st c (I 6) a) v p2 n (2 ^ n)))), some (.int (nI (10 ^ cN v))), some (.int (nI (Nat.gcd (k_up F (I 39 2 + m_st c (I 6) a) v p2 n (2 ^ n)) (10 ^ cN v))))]) dX8_chanceToStand_111 rfl rfl ?_
  refine ev_st dX8_chanceToStand_113 rfl rfl ?_
  refine ev_if_leN (t := 137) (a := Nat.gcd (k_up F (I 39 2 + m_st c (I 6) a) v p2 n (2 ^ n)) (10 ^ cN v)) dX8_chanceToStand_115 (by decide) rfl (by omega) (fun c_115 => ?_) (fun c_115 => ?_)
  · omega
  · refine ev_st dX8_chanceToStand_118 rfl rfl ?_
    refine ev_getC dX8_chanceToStand_119 fr_8_19 rfl rfl ?_
    refine ev_st dX8_chanceToStand_122 rfl rfl ?_
    refine ev_st dX8_chanceToStand_124 rfl rfl ?_
    refine ev_divN (c := k_up F (I 39 2 + m_st c (I 6) a) v p2 n (2 ^ n) / Nat.gcd (k_up F (I 39 2 + m_st c (I 6) a) v p2 n (2 ^ n)) (10 ^ cN v)) dX8_chanceToStand_126 (fun q => by have := (nI_eq (b := 0) (by omega) (by decide)).mp q; omega) (pk_div (by omega) (by omega) (by omega)) ?_
    refine ev_st dX8_chanceToStand_127 rfl rfl ?_
    refine ev_st dX8_chanceToStand_128 rfl rfl ?_
    refine ev_st dX8_chanceToStand_130 rfl rfl ?_
    refine ev_divN (c := 10 ^ cN v / Nat.gcd (k_up F (I 39 2 + m_st c (I 6) a) v p2 n (2 ^ n)) (10 ^ cN v)) dX8_chanceToStand_132 (fun q => by have := (nI_eq (b := 0) (by omega) (by decide)).mp q; omega) (pk_div (by omega) (by omega) (by omega)) ?_
    refine ev_st dX8_chanceToStand_133 rfl rfl ?_
    refine ev_call dX8_chanceToStand_134 rfl rfl mr_8_75 rfl rfl rfl (k_tell2 ((nI (k_up F (I 39 2 + m_st c (I 6) a) v p2 n (2 ^ n) / Nat.gcd (k_up F (I 39 2 + m_st c (I 6) a) v p2 n (2 ^ n)) (10 ^ cN v))).toInt64) ((nI (10 ^ cN v / Nat.gcd (k_up F (I 39 2 + m_st c (I 6) a) v p2 n (2 ^ n)) (10 ^ cN v))).toInt64)) ?_
    rintro _ _ ⟨rfl, rfl⟩
    show Ev lyC (d + 6) hX8_chanceToStand 137 [some (.ref 22), some (.ref 39), some (.ref p), some (.int (nI p2)), some (.int (nI (k_up F (I 39 2 + m_st c (I 6) a) v p2 n (2 ^ n)))), some (.int (nI (10 ^ cN v))), some (.int (nI (Nat.gcd (k_up F (I 39 2 + m_st c (I 6) a) v p2 n (2 ^ n)) (10 ^ cN v))))] [] (ti_wr I2 3 1 (nI 2), ti_wl (ti_wl J 4 0 ((nI (k_up F (I 39 2 + m_st c (I 6) a) v p2 n (2 ^ n) / Nat.gcd (k_up F (I 39 2 + m_st c (I 6) a) v p2 n (2 ^ n)) (10 ^ cN v))).toInt64)) 4 1 ((nI (10 ^ cN v / Nat.gcd (k_up F (I 39 2 + m_st c (I 6) a) v p2 n (2 ^ n)) (10 ^ cN v))).toInt64), R) _
    refine ev_iconst (v := 0) dX8_chanceToStand_137 (by decide) ?_
    exact ev_iret dX8_chanceToStand_138 rfl (⟨rfl, _, _, rfl, (hs2.w (p := 3) (k := 1) rfl _), tC2 rfl rfl rfl⟩)
set_option maxHeartbeats 1000000 in
theorem k_chance2 {I : Nat → Nat → Int32} {J : Nat → Nat → Int64} {R : Nat → Nat → Value} {d n c a p v p2 : Nat} {F : Int32 → Int32} (hn : I 8 3 = nI n) (hn8 : n ≤ 8) (hc : I 5 2 = nI c) (hc12 : c ≤ 12) (ha : I 39 1 = nI a) (ha12 : a ≤ 12) (hF : kF I R d p F) (hcv : I 39 3 = nI v) (hv : v < 256) (hp10 : p2 ≤ 10) : ∀ (k b u : Nat) (I2 : Nat → Nat → Int32), b ≤ 2 ^ n → 2 ^ n - b < k → u = k_up F (I 39 2 + m_st c (I 6) a) v p2 n b → fC I I2 → Ev lyC (d + 6) hX8_chanceToStand 37 [some (.ref 22), some (.ref 39), some (.ref p), some (.int (nI p2)), some (.int (nI u)), some (.int (nI (10 ^ cN v))), some (.int (nI b))] [] (I2, J, R) (fun r M' => r = some (.int 0) ∧ ∃ I3 J3, M' = (I3, J3, R) ∧ fC I I3 ∧ tC [(nI (k_up F (I 39 2 + m_st c (I 6) a) v p2 n (2 ^ n) / Nat.gcd (k_up F (I 39 2 + m_st c (I 6) a) v p2 n (2 ^ n)) (10 ^ cN v))).toInt64, (nI (10 ^ cN v / Nat.gcd (k_up F (I 39 2 + m_st c (I 6) a) v p2 n (2 ^ n)) (10 ^ cN v))).toInt64] I3 J3) := by
  have h8 := cN_8 v hv
  have h10 := p10 h8
  have hp2 := p256 hn8
  intro k
  induction k with
  | zero => intro b u I2 h1 h2; omega
  | succ k ih =>
    intro b u I2 hb hk hm hs2
    have hub : b < 2 ^ n → u + ws b v p2 n ≤ 200000000 := fun q => by have h1 := k_up_le (F := F) (nd := I 39 2 + m_st c (I 6) a) (v := v) (p := p2) (n := n) (b := b) hn8 hv hp10 hb; have h2 := ws_le (t := b) (v := v) hp10 n; have h3 := p10 hn8; omega
    refine ev_st dX8_chanceToStand_37 rfl rfl ?_
    refine ev_iconst (v := 1) dX8_chanceToStand_39 (by decide) ?_
    refine ev_st dX8_chanceToStand_40 rfl rfl ?_
    refine ev_getC dX8_chanceToStand_41 fr_8_15 rfl rfl ?_
    refine ev_getI (v := nI n) dX8_chanceToStand_44 fr_8_51 rfl rfl ((congrFun (hs2.r 8 rfl) 3).trans hn) ?_
    refine ev_ishlN (c := 2 ^ n) dX8_chanceToStand_47 (sh1 n hn8) ?_
    refine ev_ic_geN (t := 104) (a := b) (b := 2 ^ n) dX8_chanceToStand_48 (by decide) rfl rfl (by omega) (by omega) (fun c_48 => ?_) (fun c_48 => ?_)
    · have eb : b = 2 ^ n := by omega
      subst eb
      subst hm
      exact k_chance3 hn hn8 hc hc12 ha ha12 hF hcv hv hp10 hs2
    · refine ev_st dX8_chanceToStand_51 rfl rfl ?_
      refine ev_st dX8_chanceToStand_53 rfl rfl ?_
      refine ev_getI (v := nI v) dX8_chanceToStand_54 fr_8_78 rfl rfl ((congrFun (hs2.r 39 rfl) 3).trans hcv) ?_
      refine ev_iconst (v := -1) dX8_chanceToStand_57 (by decide) ?_
      refine ev_st dX8_chanceToStand_58 rfl rfl ?_
      refine ev_st dX8_chanceToStand_59 rfl rfl ?_
      refine ev_if_ne (t := 98) (x := (nI b) &&& ((nI v) ^^^ ((-1)))) dX8_chanceToStand_60 (by decide) (fun c_60 => ?_) (fun c_60 => ?_)
      · refine ev_iincN (a := b) (b := b + 1) (L' := [some (.ref 22), some (.ref 39), some (.ref p), some (.int (nI p2)), some (.int (nI u)), some (.int (nI (10 ^ cN v))), some (.int (nI (b + 1)))]) dX8_chanceToStand_98 rfl (nI_1 _) rfl ?_
        refine ev_goto (t := 37) dX8_chanceToStand_101 (by decide) ?_
        exact ih _ _ _ (by omega) (by omega) (by rw [k_up, if_neg (fun q => c_60 q.1)]; exact hm) hs2
      · refine ev_st dX8_chanceToStand_63 rfl rfl ?_
        refine ev_getC dX8_chanceToStand_64 fr_8_15 rfl rfl ?_
        refine ev_st dX8_chanceToStand_67 rfl rfl ?_
        refine ev_st dX8_chanceToStand_68 rfl rfl ?_
        refine ev_st dX8_chanceToStand_70 rfl rfl ?_
        refine ev_call dX8_chanceToStand_71 rfl rfl mr_8_61 rfl rfl rfl (Cal.mono (by omega) (hF I2 J (nI b) hs2)) ?_
        rintro _ _ ⟨rfl, I3, rfl, hs3, g3⟩
        show Ev lyC (d + 6) hX8_chanceToStand 74 [some (.ref 22), some (.ref 39), some (.ref p), some (.int (nI p2)), some (.int (nI u)), some (.int (nI (10 ^ cN v))), some (.int (nI b))] [.int (F (nI b))] (I3, J, R) _
        refine ev_st dX8_chanceToStand_74 rfl rfl ?_
        refine ev_st dX8_chanceToStand_75 rfl rfl ?_
        refine ev_call dX8_chanceToStand_76 rfl rfl mr_8_71 rfl rfl rfl (k_nh (I2 := I3) (J := J) hc hc12 ha ha12 hs3) ?_
        rintro _ _ ⟨rfl, rfl⟩
        show Ev lyC (d + 6) hX8_chanceToStand 79 [some (.ref 22), some (.ref 39), some (.ref p), some (.int (nI p2)), some (.int (nI u)), some (.int (nI (10 ^ cN v))), some (.int (nI b))] [.int (I 39 2 + m_st c (I 6) a), .int (F (nI b))] (I3, J, R) _
        refine ev_ic_lt (t := 98) (x := F (nI b)) (y := I 39 2 + m_st c (I 6) a) dX8_chanceToStand_79 (by decide) (fun c_79 => ?_) (fun c_79 => ?_)
        · refine ev_iincN (a := b) (b := b + 1) (L' := [some (.ref 22), some (.ref 39), some (.ref p), some (.int (nI p2)), some (.int (nI u)), some (.int (nI (10 ^ cN v))), some (.int (nI (b + 1)))]) dX8_chanceToStand_98 rfl (nI_1 _) rfl ?_
          refine ev_goto (t := 37) dX8_chanceToStand_101 (by decide) ?_
          exact ih _ _ _ (by omega) (by omega) (by rw [k_up, if_neg (fun q => q.2 c_79)]; exact hm) hs3
        · refine ev_st dX8_chanceToStand_82 rfl rfl ?_
          refine ev_st dX8_chanceToStand_84 rfl rfl ?_
          refine ev_st dX8_chanceToStand_85 rfl rfl ?_
          refine ev_st dX8_chanceToStand_87 rfl rfl ?_
          refine ev_getI (v := nI v) dX8_chanceToStand_88 fr_8_78 rfl rfl ((congrFun (hs3.r 39 rfl) 3).trans hcv) ?_
          refine ev_st dX8_chanceToStand_91 rfl rfl ?_
          refine ev_call dX8_chanceToStand_92 rfl rfl mr_8_88 rfl rfl rfl (k_waysTo hn hn8 hs3 (by omega) hv hp10) ?_
          rintro _ _ ⟨rfl, rfl⟩
          show Ev lyC (d + 6) hX8_chanceToStand 95 [some (.ref 22), some (.ref 39), some (.ref p), some (.int (nI p2)), some (.int (nI u)), some (.int (nI (10 ^ cN v))), some (.int (nI b))] [.int (nI (ws b v p2 n)), .int (nI u)] (I3, J, R) _
          refine ev_iaddN (a := u) (b := ws b v p2 n) (c := u + (ws b v p2 n)) dX8_chanceToStand_95 rfl rfl rfl ?_
          refine ev_st (L' := [some (.ref 22), some (.ref 39), some (.ref p), some (.int (nI p2)), some (.int (nI (u + (ws b v p2 n)))), some (.int (nI (10 ^ cN v))), some (.int (nI b))]) dX8_chanceToStand_96 rfl rfl ?_
          refine ev_iincN (a := b) (b := b + 1) (L' := [some (.ref 22), some (.ref 39), some (.ref p), some (.int (nI p2)), some (.int (nI (u + (ws b v p2 n)))), some (.int (nI (10 ^ cN v))), some (.int (nI (b + 1)))]) dX8_chanceToStand_98 rfl (nI_1 _) rfl ?_
          refine ev_goto (t := 37) dX8_chanceToStand_101 (by decide) ?_
          exact ih _ _ _ (by omega) (by omega) (by rw [k_up, if_pos ⟨c_60, c_79⟩, hm]) hs3
set_option maxHeartbeats 1000000 in
theorem k_chance {I : Nat → Nat → Int32} {J : Nat → Nat → Int64} {R : Nat → Nat → Value} {d n c a p v p2 : Nat} {F : Int32 → Int32} (hn : I 8 3 = nI n) (hn8 : n ≤ 8) (hc : I 5 2 = nI c) (hc12 : c ≤ 12) (ha : I 39 1 = nI a) (ha12 : a ≤ 12) (hF : kF I R d p F) (hcv : I 39 3 = nI v) (hv : v < 256) (hp10 : p2 ≤ 10) : Cal lyC (d + 6) hX8_chanceToStand 7 [.ref 22, .ref 39, .ref p, .int (nI p2)] (I, J, R) (fun r M' => r = some (.int 0) ∧ ∃ I3 J3, M' = (I3, J3, R) ∧ fC I I3 ∧ tC [(nI (k_up F (I 39 2 + m_st c (I 6) a) v p2 n (2 ^ n) / Nat.gcd (k_up F (I 39 2 + m_st c (I 6) a) v p2 n (2 ^ n)) (10 ^ cN v))).toInt64, (nI (10 ^ cN v / Nat.gcd (k_up F (I 39 2 + m_st c (I 6) a) v p2 n (2 ^ n)) (10 ^ cN v))).toInt64] I3 J3) := by
  have h8 := cN_8 v hv
  have h10 := p10 h8
  have hp2 := p256 hn8
  have loop : ∀ (k b l : Nat), b ≤ cN v → cN v - b < k → l = 10 ^ b → Ev lyC (d + 6) hX8_chanceToStand 9 [some (.ref 22), some (.ref 39), some (.ref p), some (.int (nI p2)), some (.int 0), some (.int (nI l)), some (.int (nI b))] [] (I, J, R) (fun r M' => r = some (.int 0) ∧ ∃ I3 J3, M' = (I3, J3, R) ∧ fC I I3 ∧ tC [(nI (k_up F (I 39 2 + m_st c (I 6) a) v p2 n (2 ^ n) / Nat.gcd (k_up F (I 39 2 + m_st c (I 6) a) v p2 n (2 ^ n)) (10 ^ cN v))).toInt64, (nI (10 ^ cN v / Nat.gcd (k_up F (I 39 2 + m_st c (I 6) a) v p2 n (2 ^ n)) (10 ^ cN v))).toInt64] I3 J3) := by
    intro k
    induction k with
    | zero => intro b l h1 h2; omega
    | succ k ih =>
      intro b l hb hk hm
      refine ev_st dX8_chanceToStand_9 rfl rfl ?_
      refine ev_st dX8_chanceToStand_11 rfl rfl ?_
      refine ev_getI (v := nI v) dX8_chanceToStand_12 fr_8_78 rfl rfl hcv ?_
      refine ev_call dX8_chanceToStand_15 rfl rfl mr_8_56 rfl rfl rfl (c_bcN hv) ?_
      rintro _ _ ⟨rfl, rfl⟩
      show Ev lyC (d + 6) hX8_chanceToStand 18 [some (.ref 22), some (.ref 39), some (.ref p), some (.int (nI p2)), some (.int 0), some (.int (nI l)), some (.int (nI b))] [.int (nI (cN v)), .int (nI b)] (I, J, R) _
      refine ev_ic_geN (t := 34) (a := b) (b := cN v) dX8_chanceToStand_18 (by decide) rfl rfl (by omega) (by omega) (fun c_18 => ?_) (fun c_18 => ?_)
      · refine ev_iconst (v := 0) dX8_chanceToStand_34 (by decide) ?_
        refine ev_st (L' := [some (.ref 22), some (.ref 39), some (.ref p), some (.int (nI p2)), some (.int 0), some (.int (nI l)), some (.int 0)]) dX8_chanceToStand_35 rfl rfl ?_
        rw [show b = cN v by omega] at hm
        subst hm
        exact k_chance2 hn hn8 hc hc12 ha ha12 hF hcv hv hp10 (2 ^ n + 1) 0 0 I (Nat.zero_le _) (Nat.lt_succ_of_le (Nat.sub_le _ _)) rfl fC.rf
      · refine ev_st dX8_chanceToStand_21 rfl rfl ?_
        refine ev_bipush (v := 10) dX8_chanceToStand_23 (by decide) ?_
        refine ev_imulN (a := l) (b := 10) (c := l * 10) dX8_chanceToStand_25 rfl rfl rfl ?_
        refine ev_st (L' := [some (.ref 22), some (.ref 39), some (.ref p), some (.int (nI p2)), some (.int 0), some (.int (nI (l * 10))), some (.int (nI b))]) dX8_chanceToStand_26 rfl rfl ?_
        refine ev_iincN (a := b) (b := b + 1) (L' := [some (.ref 22), some (.ref 39), some (.ref p), some (.int (nI p2)), some (.int 0), some (.int (nI (l * 10))), some (.int (nI (b + 1)))]) dX8_chanceToStand_28 rfl (nI_1 _) rfl ?_
        refine ev_goto (t := 9) dX8_chanceToStand_31 (by decide) ?_
        exact ih _ _ (by omega) (by omega) (by rw [hm, Nat.pow_succ])
  show Ev lyC (d + 6) hX8_chanceToStand 0 [some (.ref 22), some (.ref 39), some (.ref p), some (.int (nI p2)), none, none, none] [] (I, J, R) _
  refine ev_iconst (v := 0) dX8_chanceToStand_0 (by decide) ?_
  refine ev_st (L' := [some (.ref 22), some (.ref 39), some (.ref p), some (.int (nI p2)), some (.int 0), none, none]) dX8_chanceToStand_1 rfl rfl ?_
  refine ev_iconst (v := 1) dX8_chanceToStand_3 (by decide) ?_
  refine ev_st (L' := [some (.ref 22), some (.ref 39), some (.ref p), some (.int (nI p2)), some (.int 0), some (.int 1), none]) dX8_chanceToStand_4 rfl rfl ?_
  refine ev_iconst (v := 0) dX8_chanceToStand_6 (by decide) ?_
  refine ev_st (L' := [some (.ref 22), some (.ref 39), some (.ref p), some (.int (nI p2)), some (.int 0), some (.int 1), some (.int 0)]) dX8_chanceToStand_7 rfl rfl ?_
  exact loop (cN v + 1) 0 1 (by omega) (by omega) rfl
