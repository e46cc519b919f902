/-! texts: sign and end of the class; small methods of rules -/
/-- two numbers joined by a sign -/
def jn (k : Nat) (a b : Int32) : Int32 := if k = 60 then (if a < b then 1 else 0) else if k = 62 then (if b < a then 1 else 0) else if k = 61 then (if a = b then 1 else 0) else if k = 43 then a + b else if k = 45 then a - b else if k = 42 then a * b else (if b = 0 then 0 else a / b)
/-- the place of a name's letter -/
def lt7 (c : Nat) : Option Nat := if c = 115 then some 0 else if c = 116 then some 1 else if c = 104 then some 2 else if c = 120 then some 3 else if c = 110 then some 4 else if c = 99 then some 5 else if c = 105 then some 6 else none
theorem k_join60 {I : Nat → Nat → Int32} {J : Nat → Nat → Int64} {R : Nat → Nat → Value} {d : Nat} {a b : Int32} : Cal lyC d hX5_joined 3 [.int 60, .int a, .int b] (I, J, R) (fun r M' => r = some (.int (jn 60 a b)) ∧ M' = (I, J, R)) := by
  show Ev lyC d hX5_joined 0 [some (.int 60), some (.int a), some (.int b)] [] (I, J, R) _
  refine ev_st dX5_joined_0 rfl rfl ?_
  refine ev_ls (t := 60) dX5_joined_1 (by decide) (by decide) ?_
  refine ev_st dX5_joined_60 rfl rfl ?_
  refine ev_st dX5_joined_61 rfl rfl ?_
  refine ev_ic_ge (t := 69) (x := a) (y := b) dX5_joined_62 (by decide) (fun c_62 => ?_) (fun c_62 => ?_)
  · refine ev_iconst (v := 0) dX5_joined_69 (by decide) ?_
    exact ev_iret dX5_joined_70 rfl (⟨by rw [jn, if_pos rfl, if_neg c_62], rfl⟩)
  · refine ev_iconst (v := 1) dX5_joined_65 (by decide) ?_
    refine ev_goto (t := 70) dX5_joined_66 (by decide) ?_
    exact ev_iret dX5_joined_70 rfl (⟨by rw [jn, if_pos rfl, if_pos c_62], rfl⟩)
theorem k_join62 {I : Nat → Nat → Int32} {J : Nat → Nat → Int64} {R : Nat → Nat → Value} {d : Nat} {a b : Int32} : Cal lyC d hX5_joined 3 [.int 62, .int a, .int b] (I, J, R) (fun r M' => r = some (.int (jn 62 a b)) ∧ M' = (I, J, R)) := by
  show Ev lyC d hX5_joined 0 [some (.int 62), some (.int a), some (.int b)] [] (I, J, R) _
  refine ev_st dX5_joined_0 rfl rfl ?_
  refine ev_ls (t := 71) dX5_joined_1 (by decide) (by decide) ?_
  refine ev_st dX5_joined_71 rfl rfl ?_
  refine ev_st dX5_joined_72 rfl rfl ?_
  refine ev_ic_le (t := 80) (x := a) (y := b) dX5_joined_73 (by decide) (fun c_73 => ?_) (fun c_73 => ?_)
  · refine ev_iconst (v := 0) dX5_joined_80 (by decide) ?_
    exact ev_iret dX5_joined_81 rfl (⟨by rw [jn, if_neg (by decide), if_pos rfl, if_neg c_73], rfl⟩)
  · refine ev_iconst (v := 1) dX5_joined_76 (by decide) ?_
    refine ev_goto (t := 81) dX5_joined_77 (by decide) ?_
    exact ev_iret dX5_joined_81 rfl (⟨by rw [jn, if_neg (by decide), if_pos rfl, if_pos c_73], rfl⟩)
theorem k_join61 {I : Nat → Nat → Int32} {J : Nat → Nat → Int64} {R : Nat → Nat → Value} {d : Nat} {a b : Int32} : Cal lyC d hX5_joined 3 [.int 61, .int a, .int b] (I, J, R) (fun r M' => r = some (.int (jn 61 a b)) ∧ M' = (I, J, R)) := by
  show Ev lyC d hX5_joined 0 [some (.int 61), some (.int a), some (.int b)] [] (I, J, R) _
  refine ev_st dX5_joined_0 rfl rfl ?_
  refine ev_ls (t := 82) dX5_joined_1 (by decide) (by decide) ?_
  refine ev_st dX5_joined_82 rfl rfl ?_
  refine ev_st dX5_joined_83 rfl rfl ?_
  refine ev_ic_ne (t := 91) (x := a) (y := b) dX5_joined_84 (by decide) (fun c_84 => ?_) (fun c_84 => ?_)
  · refine ev_iconst (v := 0) dX5_joined_91 (by decide) ?_
    exact ev_iret dX5_joined_92 rfl (⟨by rw [jn, if_neg (by decide), if_neg (by decide), if_pos rfl, if_neg c_84], rfl⟩)
  · refine ev_iconst (v := 1) dX5_joined_87 (by decide) ?_
    refine ev_goto (t := 92) dX5_joined_88 (by decide) ?_
    exact ev_iret dX5_joined_92 rfl (⟨by rw [jn, if_neg (by decide), if_neg (by decide), if_pos rfl, if_pos c_84], rfl⟩)
theorem k_join43 {I : Nat → Nat → Int32} {J : Nat → Nat → Int64} {R : Nat → Nat → Value} {d : Nat} {a b : Int32} : Cal lyC d hX5_joined 3 [.int 43, .int a, .int b] (I, J, R) (fun r M' => r = some (.int (jn 43 a b)) ∧ M' = (I, J, R)) := by
  show Ev lyC d hX5_joined 0 [some (.int 43), some (.int a), some (.int b)] [] (I, J, R) _
  refine ev_st dX5_joined_0 rfl rfl ?_
  refine ev_ls (t := 93) dX5_joined_1 (by decide) (by decide) ?_
  refine ev_st dX5_joined_93 rfl rfl ?_
  refine ev_st dX5_joined_94 rfl rfl ?_
  refine ev_st dX5_joined_95 rfl rfl ?_
  exact ev_iret dX5_joined_96 rfl (⟨by rw [jn]; rfl, rfl⟩)
theorem k_join45 {I : Nat → Nat → Int32} {J : Nat → Nat → Int64} {R : Nat → Nat → Value} {d : Nat} {a b : Int32} : Cal lyC d hX5_joined 3 [.int 45, .int a, .int b] (I, J, R) (fun r M' => r = some (.int (jn 45 a b)) ∧ M' = (I, J, R)) := by
  show Ev lyC d hX5_joined 0 [some (.int 45), some (.int a), some (.int b)] [] (I, J, R) _
  refine ev_st dX5_joined_0 rfl rfl ?_
  refine ev_ls (t := 97) dX5_joined_1 (by decide) (by decide) ?_
  refine ev_st dX5_joined_97 rfl rfl ?_
  refine ev_st dX5_joined_98 rfl rfl ?_
  refine ev_st dX5_joined_99 rfl rfl ?_
  exact ev_iret dX5_joined_100 rfl (⟨by rw [jn]; rfl, rfl⟩)
theorem k_join42 {I : Nat → Nat → Int32} {J : Nat → Nat → Int64} {R : Nat → Nat → Value} {d : Nat} {a b : Int32} : Cal lyC d hX5_joined 3 [.int 42, .int a, .int b] (I, J, R) (fun r M' => r = some (.int (jn 42 a b)) ∧ M' = (I, J, R)) := by
  show Ev lyC d hX5_joined 0 [some (.int 42), some (.int a), some (.int b)] [] (I, J, R) _
  refine ev_st dX5_joined_0 rfl rfl ?_
  refine ev_ls (t := 101) dX5_joined_1 (by decide) (by decide) ?_
  refine ev_st dX5_joined_101 rfl rfl ?_
  refine ev_st dX5_joined_102 rfl rfl ?_
  refine ev_st dX5_joined_103 rfl rfl ?_
  exact ev_iret dX5_joined_104 rfl (⟨by rw [jn]; rfl, rfl⟩)
theorem k_join47 {I : Nat → Nat → Int32} {J : Nat → Nat → Int64} {R : Nat → Nat → Value} {d : Nat} {a b : Int32} : Cal lyC d hX5_joined 3 [.int 47, .int a, .int b] (I, J, R) (fun r M' => r = some (.int (jn 47 a b)) ∧ M' = (I, J, R)) := by
  show Ev lyC d hX5_joined 0 [some (.int 47), some (.int a), some (.int b)] [] (I, J, R) _
  refine ev_st dX5_joined_0 rfl rfl ?_
  refine ev_ls (t := 105) dX5_joined_1 (by decide) (by decide) ?_
  refine ev_st dX5_joined_105 rfl rfl ?_
  refine ev_if_ne (t := 113) (x := b) dX5_joined_106 (by decide) (fun c_106 => ?_) (fun c_106 => ?_)
  · refine ev_st dX5_joined_113 rfl rfl ?_
    refine ev_st dX5_joined_114 rfl rfl ?_
    refine ev_div dX5_joined_115 c_106 ?_
    exact ev_iret dX5_joined_116 rfl (⟨by rw [jn]; simp [c_106], rfl⟩)
  · refine ev_iconst (v := 0) dX5_joined_109 (by decide) ?_
    refine ev_goto (t := 116) dX5_joined_110 (by decide) ?_
    exact ev_iret dX5_joined_116 rfl (⟨by rw [jn]; simp [c_106], rfl⟩)
theorem k_sign0 {I : Nat → Nat → Int32} {J : Nat → Nat → Int64} {R : Nat → Nat → Value} {d N : Nat} (h1 : I 1 1 = nI N) (h80 : N ≤ 80) (hN : 76 < N) (v : Int32) : Cal lyC (d + 1) hX11_sign 2 [.ref 0, .int v] (I, J, R) (fun r M' => r = some (.int (-1)) ∧ M' = (I, J, R)) := by
  show Ev lyC (d + 1) hX11_sign 0 [some (.ref 0), some (.int v)] [] (I, J, R) _
  refine ev_st dX11_sign_0 rfl rfl ?_
  refine ev_getC dX11_sign_1 fr_11_10 rfl rfl ?_
  refine ev_st dX11_sign_4 rfl rfl ?_
  refine ev_call dX11_sign_5 rfl rfl mr_11_101 rfl rfl rfl (k_append0 h1 h80 hN v) ?_
  rintro _ _ ⟨rfl, rfl⟩
  show Ev lyC (d + 1) hX11_sign 8 [some (.ref 0), some (.int v)] [.int ((-1))] (I, J, R) _
  exact ev_iret dX11_sign_8 rfl (⟨rfl, rfl⟩)
theorem k_sign1 {I : Nat → Nat → Int32} {J : Nat → Nat → Int64} {R : Nat → Nat → Value} {t : Nat → Nat} {d N : Nat} (hT : cT I t N) (hN : N ≤ 76) (v : Int32) : Cal lyC (d + 1) hX11_sign 2 [.ref 0, .int v] (I, J, R) (fun r M' => r = some (.int (nI (N + 4))) ∧ ∃ I3, M' = (I3, J, R) ∧ (∀ p, p ≠ 1 → p ≠ 2 → I3 p = I p) ∧ cT I3 (app t N v) (N + 4)) := by
  show Ev lyC (d + 1) hX11_sign 0 [some (.ref 0), some (.int v)] [] (I, J, R) _
  refine ev_st dX11_sign_0 rfl rfl ?_
  refine ev_getC dX11_sign_1 fr_11_10 rfl rfl ?_
  refine ev_st dX11_sign_4 rfl rfl ?_
  refine ev_call dX11_sign_5 rfl rfl mr_11_101 rfl rfl rfl (k_append hT hN v) ?_
  rintro _ _ ⟨rfl, I3, rfl, hx3, hT3⟩
  show Ev lyC (d + 1) hX11_sign 8 [some (.ref 0), some (.int v)] [.int (nI (N + 4))] (I3, J, R) _
  exact ev_iret dX11_sign_8 rfl (⟨rfl, I3, rfl, hx3, hT3⟩)
theorem k_end0 {I : Nat → Nat → Int32} {J : Nat → Nat → Int64} {R : Nat → Nat → Value} {d N : Nat} (h1 : I 1 1 = nI N) (h80 : N ≤ 80) {x : Int32} (hx : ix (N + 1) x = none) : Cal lyC (d + 1) hX11_end 2 [.ref 0, .int x] (I, J, R) (fun r M' => r = some (.int 0) ∧ M' = (I, J, R)) := by
  show Ev lyC (d + 1) hX11_end 0 [some (.ref 0), some (.int x)] [] (I, J, R) _
  refine ev_st dX11_end_0 rfl rfl ?_
  refine ev_getC dX11_end_1 fr_11_10 rfl rfl ?_
  refine ev_st dX11_end_4 rfl rfl ?_
  refine ev_call dX11_end_5 rfl rfl mr_11_105 rfl rfl rfl (k_shorten0 h1 h80 hx) ?_
  rintro _ _ ⟨rfl, rfl⟩
  show Ev lyC (d + 1) hX11_end 8 [some (.ref 0), some (.int x)] [.int 0] (I, J, R) _
  exact ev_zret dX11_end_8 rfl (by decide) (⟨rfl, rfl⟩)
theorem k_end1 {I : Nat → Nat → Int32} {J : Nat → Nat → Int64} {R : Nat → Nat → Value} {d N m : Nat} (h1 : I 1 1 = nI N) (h80 : N ≤ 80) (hm : m ≤ N) : Cal lyC (d + 1) hX11_end 2 [.ref 0, .int (nI m)] (I, J, R) (fun r M' => r = some (.int 1) ∧ M' = (ti_wr I 1 1 (nI m), J, R)) := by
  show Ev lyC (d + 1) hX11_end 0 [some (.ref 0), some (.int (nI m))] [] (I, J, R) _
  refine ev_st dX11_end_0 rfl rfl ?_
  refine ev_getC dX11_end_1 fr_11_10 rfl rfl ?_
  refine ev_st dX11_end_4 rfl rfl ?_
  refine ev_call dX11_end_5 rfl rfl mr_11_105 rfl rfl rfl (k_shorten1 h1 h80 hm) ?_
  rintro _ _ ⟨rfl, rfl⟩
  show Ev lyC (d + 1) hX11_end 8 [some (.ref 0), some (.int (nI m))] [.int 1] (ti_wr I 1 1 (nI m), J, R) _
  exact ev_zret dX11_end_8 rfl (by decide) (⟨rfl, rfl⟩)
theorem k_valueOf_31 {I : Nat → Nat → Int32} {J : Nat → Nat → Int64} {R : Nat → Nat → Value} {d j : Nat} (hj : j < 7) : Cal lyC d hX5_valueOf 2 [.ref 31, .int (nI j)] (I, J, R) (fun r M' => r = some (.int (I 34 j)) ∧ M' = (I, J, R)) := by
  show Ev lyC d hX5_valueOf 0 [some (.ref 31), some (.int (nI j))] [] (I, J, R) _
  refine ev_st dX5_valueOf_0 rfl rfl ?_
  refine ev_if_ltN (t := 22) (a := j) dX5_valueOf_1 (by decide) rfl (by omega) ?_
  refine ev_st dX5_valueOf_4 rfl rfl ?_
  refine ev_st dX5_valueOf_5 rfl rfl ?_
  refine ev_getC dX5_valueOf_6 fr_5_18 rfl rfl ?_
  refine ev_alen (v := 7) dX5_valueOf_9 rfl (by decide) rfl ?_
  refine ev_ic_geN (t := 22) (a := j) (b := 7) dX5_valueOf_10 (by decide) rfl rfl (by omega) (by omega) (fun c_10 => ?_) (fun c_10 => ?_)
  · omega
  · refine ev_st dX5_valueOf_13 rfl rfl ?_
    refine ev_getC dX5_valueOf_14 fr_5_18 rfl rfl ?_
    refine ev_st dX5_valueOf_17 rfl rfl ?_
    refine ev_iald (j := j) (v := I 34 j) dX5_valueOf_18 rfl rfl (by omega) (by decide) rfl ?_
    refine ev_goto (t := 23) dX5_valueOf_19 (by decide) ?_
    exact ev_iret dX5_valueOf_23 rfl (⟨rfl, rfl⟩)
theorem k_add1_31 {I : Nat → Nat → Int32} {J : Nat → Nat → Int64} {R : Nat → Nat → Value} {d z : Nat} (hz : I 31 3 = nI z) (h40 : z < 40) (v : Int32) : Cal lyC d hX5_add 2 [.ref 31, .int v] (I, J, R) (fun r M' => r = none ∧ M' = (ti_wr (ti_wr I 32 z v) 31 3 (nI (z + 1)), J, R)) := by
  show Ev lyC d hX5_add 0 [some (.ref 31), some (.int v)] [] (I, J, R) _
  refine ev_st dX5_add_0 rfl rfl ?_
  refine ev_getI (v := nI z) dX5_add_1 fr_5_21 rfl rfl hz ?_
  refine ev_st dX5_add_4 rfl rfl ?_
  refine ev_getC dX5_add_5 fr_5_11 rfl rfl ?_
  refine ev_alen (v := 40) dX5_add_8 rfl (by decide) rfl ?_
  refine ev_ic_geN (t := 32) (a := z) (b := 40) dX5_add_9 (by decide) rfl rfl (by omega) (by omega) (fun c_9 => ?_) (fun c_9 => ?_)
  · omega
  · refine ev_st dX5_add_12 rfl rfl ?_
    refine ev_getC dX5_add_13 fr_5_11 rfl rfl ?_
    refine ev_st dX5_add_16 rfl rfl ?_
    refine ev_getI (v := nI z) dX5_add_17 fr_5_21 rfl rfl hz ?_
    refine ev_st dX5_add_20 rfl rfl ?_
    refine ev_iast (j := z) dX5_add_21 rfl rfl (by omega) (by decide) ?_
    refine ev_st dX5_add_22 rfl rfl ?_
    refine ev_st dX5_add_23 rfl rfl ?_
    refine ev_getI (v := nI z) dX5_add_24 fr_5_21 rfl rfl hz ?_
    refine ev_iconst (v := 1) dX5_add_27 (by decide) ?_
    refine ev_iaddN (a := z) (b := 1) (c := z + 1) dX5_add_28 rfl rfl rfl ?_
    refine ev_putI dX5_add_29 fr_5_21 rfl rfl ?_
    exact ev_vret dX5_add_32 rfl (⟨rfl, rfl⟩)
theorem k_add0_31 {I : Nat → Nat → Int32} {J : Nat → Nat → Int64} {R : Nat → Nat → Value} {d z : Nat} (hz : I 31 3 = nI z) (h40 : z = 40) (v : Int32) : Cal lyC d hX5_add 2 [.ref 31, .int v] (I, J, R) (fun r M' => r = none ∧ M' = (I, J, R)) := by
  show Ev lyC d hX5_add 0 [some (.ref 31), some (.int v)] [] (I, J, R) _
  refine ev_st dX5_add_0 rfl rfl ?_
  refine ev_getI (v := nI z) dX5_add_1 fr_5_21 rfl rfl hz ?_
  refine ev_st dX5_add_4 rfl rfl ?_
  refine ev_getC dX5_add_5 fr_5_11 rfl rfl ?_
  refine ev_alen (v := 40) dX5_add_8 rfl (by decide) rfl ?_
  refine ev_ic_geN (t := 32) (a := z) (b := 40) dX5_add_9 (by decide) rfl rfl (by omega) (by omega) (fun c_9 => ?_) (fun c_9 => ?_)
  · exact ev_vret dX5_add_32 rfl (⟨rfl, rfl⟩)
  · omega
theorem k_valueOf_35 {I : Nat → Nat → Int32} {J : Nat → Nat → Int64} {R : Nat → Nat → Value} {d j : Nat} (hj : j < 7) : Cal lyC d hX5_valueOf 2 [.ref 35, .int (nI j)] (I, J, R) (fun r M' => r = some (.int (I 38 j)) ∧ M' = (I, J, R)) := by
  show Ev lyC d hX5_valueOf 0 [some (.ref 35), some (.int (nI j))] [] (I, J, R) _
  refine ev_st dX5_valueOf_0 rfl rfl ?_
  refine ev_if_ltN (t := 22) (a := j) dX5_valueOf_1 (by decide) rfl (by omega) ?_
  refine ev_st dX5_valueOf_4 rfl rfl ?_
  refine ev_st dX5_valueOf_5 rfl rfl ?_
  refine ev_getC dX5_valueOf_6 fr_5_18 rfl rfl ?_
  refine ev_alen (v := 7) dX5_valueOf_9 rfl (by decide) rfl ?_
  refine ev_ic_geN (t := 22) (a := j) (b := 7) dX5_valueOf_10 (by decide) rfl rfl (by omega) (by omega) (fun c_10 => ?_) (fun c_10 => ?_)
  · omega
  · refine ev_st dX5_valueOf_13 rfl rfl ?_
    refine ev_getC dX5_valueOf_14 fr_5_18 rfl rfl ?_
    refine ev_st dX5_valueOf_17 rfl rfl ?_
    refine ev_iald (j := j) (v := I 38 j) dX5_valueOf_18 rfl rfl (by omega) (by decide) rfl ?_
    refine ev_goto (t := 23) dX5_valueOf_19 (by decide) ?_
    exact ev_iret dX5_valueOf_23 rfl (⟨rfl, rfl⟩)
theorem k_add1_35 {I : Nat → Nat → Int32} {J : Nat → Nat → Int64} {R : Nat → Nat → Value} {d z : Nat} (hz : I 35 3 = nI z) (h40 : z < 40) (v : Int32) : Cal lyC d hX5_add 2 [.ref 35, .int v] (I, J, R) (fun r M' => r = none ∧ M' = (ti_wr (ti_wr I 36 z v) 35 3 (nI (z + 1)), J, R)) := by
  show Ev lyC d hX5_add 0 [some (.ref 35), some (.int v)] [] (I, J, R) _
  refine ev_st dX5_add_0 rfl rfl ?_
  refine ev_getI (v := nI z) dX5_add_1 fr_5_21 rfl rfl hz ?_
  refine ev_st dX5_add_4 rfl rfl ?_
  refine ev_getC dX5_add_5 fr_5_11 rfl rfl ?_
  refine ev_alen (v := 40) dX5_add_8 rfl (by decide) rfl ?_
  refine ev_ic_geN (t := 32) (a := z) (b := 40) dX5_add_9 (by decide) rfl rfl (by omega) (by omega) (fun c_9 => ?_) (fun c_9 => ?_)
  · omega
  · refine ev_st dX5_add_12 rfl rfl ?_
    refine ev_getC dX5_add_13 fr_5_11 rfl rfl ?_
    refine ev_st dX5_add_16 rfl rfl ?_
    refine ev_getI (v := nI z) dX5_add_17 fr_5_21 rfl rfl hz ?_
    refine ev_st dX5_add_20 rfl rfl ?_
    refine ev_iast (j := z) dX5_add_21 rfl rfl (by omega) (by decide) ?_
    refine ev_st dX5_add_22 rfl rfl ?_
    refine ev_st dX5_add_23 rfl rfl ?_
    refine ev_getI (v := nI z) dX5_add_24 fr_5_21 rfl rfl hz ?_
    refine ev_iconst (v := 1) dX5_add_27 (by decide) ?_
    refine ev_iaddN (a := z) (b := 1) (c := z + 1) dX5_add_28 rfl rfl rfl ?_
    refine ev_putI dX5_add_29 fr_5_21 rfl rfl ?_
    exact ev_vret dX5_add_32 rfl (⟨rfl, rfl⟩)
theorem k_add0_35 {I : Nat → Nat → Int32} {J : Nat → Nat → Int64} {R : Nat → Nat → Value} {d z : Nat} (hz : I 35 3 = nI z) (h40 : z = 40) (v : Int32) : Cal lyC d hX5_add 2 [.ref 35, .int v] (I, J, R) (fun r M' => r = none ∧ M' = (I, J, R)) := by
  show Ev lyC d hX5_add 0 [some (.ref 35), some (.int v)] [] (I, J, R) _
  refine ev_st dX5_add_0 rfl rfl ?_
  refine ev_getI (v := nI z) dX5_add_1 fr_5_21 rfl rfl hz ?_
  refine ev_st dX5_add_4 rfl rfl ?_
  refine ev_getC dX5_add_5 fr_5_11 rfl rfl ?_
  refine ev_alen (v := 40) dX5_add_8 rfl (by decide) rfl ?_
  refine ev_ic_geN (t := 32) (a := z) (b := 40) dX5_add_9 (by decide) rfl rfl (by omega) (by omega) (fun c_9 => ?_) (fun c_9 => ?_)
  · exact ev_vret dX5_add_32 rfl (⟨rfl, rfl⟩)
  · omega
theorem c_letterOf {I : Nat → Nat → Int32} {J : Nat → Nat → Int64} {R : Nat → Nat → Value} {d c : Nat} (hc : c < 256) : Cal lyM d hX12_letterOf 1 [.int (nI c)] (I, J, R) (fun r M' => r = some (.int (match lt7 c with | some j => nI j | none => -1)) ∧ M' = (I, J, R)) := by
  show Ev lyM d hX12_letterOf 0 [some (.int (nI c))] [] (I, J, R) _
  refine ev_st dX12_letterOf_0 rfl rfl ?_
  refine ev_bipush (v := 115) dX12_letterOf_1 (by decide) ?_
  refine ev_ic_neN (t := 10) (a := c) (b := 115) dX12_letterOf_3 (by decide) rfl rfl (by omega) (by omega) (fun c_3 => ?_) (fun c_3 => ?_)
  · refine ev_st dX12_letterOf_10 rfl rfl ?_
    refine ev_bipush (v := 116) dX12_letterOf_11 (by decide) ?_
    refine ev_ic_neN (t := 20) (a := c) (b := 116) dX12_letterOf_13 (by decide) rfl rfl (by omega) (by omega) (fun c_13 => ?_) (fun c_13 => ?_)
    · refine ev_st dX12_letterOf_20 rfl rfl ?_
      refine ev_bipush (v := 104) dX12_letterOf_21 (by decide) ?_
      refine ev_ic_neN (t := 30) (a := c) (b := 104) dX12_letterOf_23 (by decide) rfl rfl (by omega) (by omega) (fun c_23 => ?_) (fun c_23 => ?_)
      · refine ev_st dX12_letterOf_30 rfl rfl ?_
        refine ev_bipush (v := 120) dX12_letterOf_31 (by decide) ?_
        refine ev_ic_neN (t := 40) (a := c) (b := 120) dX12_letterOf_33 (by decide) rfl rfl (by omega) (by omega) (fun c_33 => ?_) (fun c_33 => ?_)
        · refine ev_st dX12_letterOf_40 rfl rfl ?_
          refine ev_bipush (v := 110) dX12_letterOf_41 (by decide) ?_
          refine ev_ic_neN (t := 50) (a := c) (b := 110) dX12_letterOf_43 (by decide) rfl rfl (by omega) (by omega) (fun c_43 => ?_) (fun c_43 => ?_)
          · refine ev_st dX12_letterOf_50 rfl rfl ?_
            refine ev_bipush (v := 99) dX12_letterOf_51 (by decide) ?_
            refine ev_ic_neN (t := 60) (a := c) (b := 99) dX12_letterOf_53 (by decide) rfl rfl (by omega) (by omega) (fun c_53 => ?_) (fun c_53 => ?_)
            · refine ev_st dX12_letterOf_60 rfl rfl ?_
              refine ev_bipush (v := 105) dX12_letterOf_61 (by decide) ?_
              refine ev_ic_neN (t := 71) (a := c) (b := 105) dX12_letterOf_63 (by decide) rfl rfl (by omega) (by omega) (fun c_63 => ?_) (fun c_63 => ?_)
              · refine ev_iconst (v := -1) dX12_letterOf_71 (by decide) ?_
                exact ev_iret dX12_letterOf_72 rfl (⟨by unfold lt7; simp_all <;> rfl, rfl⟩)
              · refine ev_bipush (v := 6) dX12_letterOf_66 (by decide) ?_
                refine ev_goto (t := 72) dX12_letterOf_68 (by decide) ?_
                exact ev_iret dX12_letterOf_72 rfl (⟨by unfold lt7; simp_all <;> rfl, rfl⟩)
            · refine ev_iconst (v := 5) dX12_letterOf_56 (by decide) ?_
              refine ev_goto (t := 72) dX12_letterOf_57 (by decide) ?_
              exact ev_iret dX12_letterOf_72 rfl (⟨by unfold lt7; simp_all <;> rfl, rfl⟩)
          · refine ev_iconst (v := 4) dX12_letterOf_46 (by decide) ?_
            refine ev_goto (t := 72) dX12_letterOf_47 (by decide) ?_
            exact ev_iret dX12_letterOf_72 rfl (⟨by unfold lt7; simp_all <;> rfl, rfl⟩)
        · refine ev_iconst (v := 3) dX12_letterOf_36 (by decide) ?_
          refine ev_goto (t := 72) dX12_letterOf_37 (by decide) ?_
          exact ev_iret dX12_letterOf_72 rfl (⟨by unfold lt7; simp_all <;> rfl, rfl⟩)
      · refine ev_iconst (v := 2) dX12_letterOf_26 (by decide) ?_
        refine ev_goto (t := 72) dX12_letterOf_27 (by decide) ?_
        exact ev_iret dX12_letterOf_72 rfl (⟨by unfold lt7; simp_all <;> rfl, rfl⟩)
    · refine ev_iconst (v := 1) dX12_letterOf_16 (by decide) ?_
      refine ev_goto (t := 72) dX12_letterOf_17 (by decide) ?_
      exact ev_iret dX12_letterOf_72 rfl (⟨by unfold lt7; simp_all <;> rfl, rfl⟩)
  · refine ev_iconst (v := 0) dX12_letterOf_6 (by decide) ?_
    refine ev_goto (t := 72) dX12_letterOf_7 (by decide) ?_
    exact ev_iret dX12_letterOf_72 rfl (⟨by unfold lt7; simp_all <;> rfl, rfl⟩)
