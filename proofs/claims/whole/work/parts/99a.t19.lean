/-! texts: one ACT done by the model; any ACT by both -/
theorem k_perform {I : Nat → Nat → Int32} {J : Nat → Nat → Int64} {R : Nat → Nat → Value} {d n c ns a p z rs k v : Nat} {rv : RV} {row sp str tl sy : Nat → Int32} (hK : kA I d n c p z rv) (hst : ST I sp str tl sy n c ns) (hz : z = 0 ↔ rs = 0) (hr : SR (I 39) (I 40) row n ns) (hw : WS row n ns c a) (hp : R 0 11 = .ref p) (hk : k = 62 ∨ k = 118 ∧ v < 4 ∨ k = 116 ∨ k = 108 ∨ k = 115) (hv : v < 10) : Cal lyC (d + 6) hX11_perform 3 [.ref 0, .int (nI (k * 16 + v))] (I, J, R) (aPq n c ns row (aGo sp str tl sy n c ns rs rv k v row a) I J R) := by
  rcases hk with rfl | ⟨rfl, h4⟩ | rfl | rfl | rfl
  · exact k_perform62 hK hst hz hr hw hp hv
  · exact k_perform118 hK hst hz hr hw hp h4
  · exact k_perform116 hK hst hz hr hw hp hv
  · exact k_perform108 hK hst hz hr hw hp hv
  · exact k_perform115 hK hst hz hr hw hp hv
def aMo (I : Nat → Nat → Int32) (J : Nat → Nat → Int64) (R : Nat → Nat → Value) (r : Option Value) (M' : TM) : Option ((Nat → Int32) × Nat) → Prop
  | none => r = some (.int 0) ∧ M' = (I, J, R)
  | some g => r = some (.int 1) ∧ ∃ I3 R3, M' = (I3, J, R3) ∧ sM (va_up I 1 g.1) R I3 R3
theorem rV_0 {row : Nat → Int32} {x : Int32} (h : ¬ m_rV row x < 0) : m_rV row x = 0 := by
  unfold m_rV at h ⊢
  split
  · next e => rw [e] at h; exact absurd (show (-1 : Int32) < 0 by decide) h
  · next e =>
    rw [e] at h
    simp only at h
    split
    · next q => rw [if_pos q] at h; exact absurd (by decide) h
    · rfl
theorem rY_v {ns c a v : Nat} {sy row : Nat → Int32} (hns : ns ≤ 8) (hv : v < 10) (h : ¬ m_rY ns c a sy row (nI v) < 0) : v < ns ∧ m_rY ns c a sy row (nI v) = 0 := by
  refine ⟨Classical.byContradiction fun q => h ?_, ?_⟩
  · rw [rY_n (ix_not (by omega) (by omega) q)]; decide
  · rcases rY_neg (ns := ns) (c := c) (a := a) (sy := sy) (row := row) (x := nI v) with e | e
    · exact e
    · exact absurd e h
theorem c_act62 {I : Nat → Nat → Int32} {J : Nat → Nat → Int64} {R : Nat → Nat → Value} {d n c ns a rp rs v : Nat} {rv : RV} (hA : mA I R d n c rp rs rv) (hns : I 0 6 = nI ns) (hns8 : ns ≤ 8) (ha : I 1 24 = nI a) (hac : a ≤ c) (hv : v < 10) {x : Int32} : Cal lyM (d + 95) hX12_act 3 [.ref 0, .int 62, .int x] (I, J, R) (fun r M' => aMo I J R r M' (aGo (I 2) (I 3) (I 4) (I 5) n c ns rs rv 62 v (I 1) a)) := by
  have hn := hA.1
  have hn8 := hA.2.1
  have hc := hA.2.2.1
  have hc12 := hA.2.2.2.1
  have ha12 : a ≤ 12 := by omega
  show Ev lyM (d + 95) hX12_act 0 [some (.ref 0), some (.int 62), some (.int x)] [] (I, J, R) _
  refine ev_st dX12_act_0 rfl rfl ?_
  refine ev_ls (t := 44) dX12_act_1 (by decide) (by decide) ?_
  refine ev_st dX12_act_44 rfl rfl ?_
  refine ev_st dX12_act_45 rfl rfl ?_
  refine ev_getC dX12_act_46 fr_12_9 rfl rfl ?_
  refine ev_call dX12_act_49 rfl rfl mr_12_269 rfl rfl rfl (c_refusesStep hn hn8 hc hc12 ha ha12) ?_
  rintro _ _ ⟨rfl, rfl⟩
  show Ev lyM (d + 95) hX12_act 52 [some (.ref 0), some (.int 62), some (.int x)] [.int (m_rS c a (m_cy (I 1) n))] (I, J, R) _
  refine ev_if_ge (t := 57) (x := m_rS c a (m_cy (I 1) n)) dX12_act_52 (by decide) (fun c_52 => ?_) (fun c_52 => ?_)
  · refine ev_st dX12_act_57 rfl rfl ?_
    refine ev_st dX12_act_58 rfl rfl ?_
    refine ev_getC dX12_act_59 fr_12_9 rfl rfl ?_
    refine ev_call dX12_act_62 rfl rfl mr_12_276 rfl rfl rfl (c_goStep (hA.b1 ha ha12) sM.rf) ?_
    rintro _ _ ⟨rfl, I3, R3, rfl, hs3⟩
    show Ev lyM (d + 95) hX12_act 65 [some (.ref 0), some (.int 62), some (.int x)] [.int (m_SG (I 2) (I 3) (I 4) n c rs rv (I 1) a)] (I3, J, R3) _
    refine ev_st dX12_act_65 rfl rfl ?_
    refine ev_iconst (v := 1) dX12_act_66 (by decide) ?_
    exact ev_zret dX12_act_67 rfl (by decide) (by rw [aGo, if_pos rfl, if_pos (rS_cases.resolve_right c_52)]; exact ⟨rfl, I3, R3, rfl, hs3⟩)
  · refine ev_iconst (v := 0) dX12_act_55 (by decide) ?_
    exact ev_zret dX12_act_56 rfl (by decide) (by rw [aGo, if_pos rfl, if_neg (neg_ne c_52)]; exact ⟨rfl, rfl⟩)
theorem c_act116 {I : Nat → Nat → Int32} {J : Nat → Nat → Int64} {R : Nat → Nat → Value} {d n c ns a rp rs v : Nat} {rv : RV} (hA : mA I R d n c rp rs rv) (hns : I 0 6 = nI ns) (hns8 : ns ≤ 8) (ha : I 1 24 = nI a) (hac : a ≤ c) (hv : v < 10) : Cal lyM (d + 95) hX12_act 3 [.ref 0, .int 116, .int (nI v)] (I, J, R) (fun r M' => aMo I J R r M' (aGo (I 2) (I 3) (I 4) (I 5) n c ns rs rv 116 v (I 1) a)) := by
  have hn := hA.1
  have hn8 := hA.2.1
  have hc := hA.2.2.1
  have hc12 := hA.2.2.2.1
  have ha12 : a ≤ 12 := by omega
  show Ev lyM (d + 95) hX12_act 0 [some (.ref 0), some (.int 116), some (.int (nI v))] [] (I, J, R) _
  refine ev_st dX12_act_0 rfl rfl ?_
  refine ev_ls (t := 68) dX12_act_1 (by decide) (by decide) ?_
  refine ev_st dX12_act_68 rfl rfl ?_
  refine ev_st dX12_act_69 rfl rfl ?_
  refine ev_getC dX12_act_70 fr_12_9 rfl rfl ?_
  refine ev_st dX12_act_73 rfl rfl ?_
  refine ev_call dX12_act_74 rfl rfl mr_12_279 rfl rfl rfl (c_refusesTake hn hn8 (nI v)) ?_
  rintro _ _ ⟨rfl, rfl⟩
  show Ev lyM (d + 95) hX12_act 77 [some (.ref 0), some (.int 116), some (.int (nI v))] [.int (m_rT n (I 1) (nI v))] (I, J, R) _
  refine ev_if_ge (t := 82) (x := m_rT n (I 1) (nI v)) dX12_act_77 (by decide) (fun c_77 => ?_) (fun c_77 => ?_)
  · refine ev_st dX12_act_82 rfl rfl ?_
    refine ev_getC dX12_act_83 fr_12_9 rfl rfl ?_
    refine ev_bipush (v := 8) dX12_act_86 (by decide) ?_
    refine ev_st dX12_act_88 rfl rfl ?_
    refine ev_iaddN (a := 8) (b := v) (c := 8 + v) dX12_act_89 rfl rfl rfl ?_
    refine ev_iconst (v := 1) dX12_act_90 (by decide) ?_
    refine ev_iast (j := 8 + v) dX12_act_91 rfl rfl (by omega) (by decide) ?_
    refine ev_iconst (v := 1) dX12_act_92 (by decide) ?_
    exact ev_zret dX12_act_93 rfl (by decide) (by rw [aGo, if_neg (by decide), if_pos rfl, if_pos (by obtain ⟨_, _, _, _, e⟩ := rT_ok hn8 c_77; exact e)]; exact ⟨rfl, _, _, rfl, sM.rf⟩)
  · refine ev_iconst (v := 0) dX12_act_80 (by decide) ?_
    exact ev_zret dX12_act_81 rfl (by decide) (by rw [aGo, if_neg (by decide), if_pos rfl, if_neg (neg_ne c_77)]; exact ⟨rfl, rfl⟩)
theorem c_act108 {I : Nat → Nat → Int32} {J : Nat → Nat → Int64} {R : Nat → Nat → Value} {d n c ns a rp rs v : Nat} {rv : RV} (hA : mA I R d n c rp rs rv) (hns : I 0 6 = nI ns) (hns8 : ns ≤ 8) (ha : I 1 24 = nI a) (hac : a ≤ c) (hv : v < 10) : Cal lyM (d + 95) hX12_act 3 [.ref 0, .int 108, .int (nI v)] (I, J, R) (fun r M' => aMo I J R r M' (aGo (I 2) (I 3) (I 4) (I 5) n c ns rs rv 108 v (I 1) a)) := by
  have hn := hA.1
  have hn8 := hA.2.1
  have hc := hA.2.2.1
  have hc12 := hA.2.2.2.1
  have ha12 : a ≤ 12 := by omega
  show Ev lyM (d + 95) hX12_act 0 [some (.ref 0), some (.int 108), some (.int (nI v))] [] (I, J, R) _
  refine ev_st dX12_act_0 rfl rfl ?_
  refine ev_ls (t := 94) dX12_act_1 (by decide) (by decide) ?_
  refine ev_st dX12_act_94 rfl rfl ?_
  refine ev_st dX12_act_95 rfl rfl ?_
  refine ev_call dX12_act_96 rfl rfl mr_12_282 rfl rfl rfl (c_refusesLeave hn hn8 (nI v)) ?_
  rintro _ _ ⟨rfl, rfl⟩
  show Ev lyM (d + 95) hX12_act 99 [some (.ref 0), some (.int 108), some (.int (nI v))] [.int (m_rL n (I 1) (nI v))] (I, J, R) _
  refine ev_if_ge (t := 104) (x := m_rL n (I 1) (nI v)) dX12_act_99 (by decide) (fun c_99 => ?_) (fun c_99 => ?_)
  · refine ev_st dX12_act_104 rfl rfl ?_
    refine ev_getC dX12_act_105 fr_12_9 rfl rfl ?_
    refine ev_bipush (v := 8) dX12_act_108 (by decide) ?_
    refine ev_st dX12_act_110 rfl rfl ?_
    refine ev_iaddN (a := 8) (b := v) (c := 8 + v) dX12_act_111 rfl rfl rfl ?_
    refine ev_iconst (v := 0) dX12_act_112 (by decide) ?_
    refine ev_iast (j := 8 + v) dX12_act_113 rfl rfl (by omega) (by decide) ?_
    refine ev_iconst (v := 1) dX12_act_114 (by decide) ?_
    exact ev_zret dX12_act_115 rfl (by decide) (by rw [aGo, if_neg (by decide), if_neg (by decide), if_pos rfl, if_pos (by obtain ⟨_, _, _, _, e⟩ := rL_ok hn8 c_99; exact e)]; exact ⟨rfl, _, _, rfl, sM.rf⟩)
  · refine ev_iconst (v := 0) dX12_act_102 (by decide) ?_
    exact ev_zret dX12_act_103 rfl (by decide) (by rw [aGo, if_neg (by decide), if_neg (by decide), if_pos rfl, if_neg (neg_ne c_99)]; exact ⟨rfl, rfl⟩)
theorem c_act118 {I : Nat → Nat → Int32} {J : Nat → Nat → Int64} {R : Nat → Nat → Value} {d n c ns a rp rs v : Nat} {rv : RV} (hA : mA I R d n c rp rs rv) (hns : I 0 6 = nI ns) (hns8 : ns ≤ 8) (ha : I 1 24 = nI a) (hac : a ≤ c) (hv : v < 10) : Cal lyM (d + 95) hX12_act 3 [.ref 0, .int 118, .int (nI v)] (I, J, R) (fun r M' => aMo I J R r M' (aGo (I 2) (I 3) (I 4) (I 5) n c ns rs rv 118 v (I 1) a)) := by
  have hn := hA.1
  have hn8 := hA.2.1
  have hc := hA.2.2.1
  have hc12 := hA.2.2.2.1
  have ha12 : a ≤ 12 := by omega
  show Ev lyM (d + 95) hX12_act 0 [some (.ref 0), some (.int 118), some (.int (nI v))] [] (I, J, R) _
  refine ev_st dX12_act_0 rfl rfl ?_
  refine ev_ls (t := 116) dX12_act_1 (by decide) (by decide) ?_
  refine ev_st dX12_act_116 rfl rfl ?_
  refine ev_st dX12_act_117 rfl rfl ?_
  refine ev_call dX12_act_118 rfl rfl mr_12_288 rfl rfl rfl (c_refusesSeventh (nI v)) ?_
  rintro _ _ ⟨rfl, rfl⟩
  show Ev lyM (d + 95) hX12_act 121 [some (.ref 0), some (.int 118), some (.int (nI v))] [.int (m_rV (I 1) (nI v))] (I, J, R) _
  refine ev_if_ge (t := 126) (x := m_rV (I 1) (nI v)) dX12_act_121 (by decide) (fun c_121 => ?_) (fun c_121 => ?_)
  · refine ev_st dX12_act_126 rfl rfl ?_
    refine ev_getC dX12_act_127 fr_12_9 rfl rfl ?_
    refine ev_bipush (v := 26) dX12_act_130 (by decide) ?_
    refine ev_st dX12_act_132 rfl rfl ?_
    refine ev_iast (j := 26) dX12_act_133 rfl rfl (by decide) (by decide) ?_
    refine ev_iconst (v := 1) dX12_act_134 (by decide) ?_
    exact ev_zret dX12_act_135 rfl (by decide) (by rw [aGo, if_neg (by decide), if_neg (by decide), if_neg (by decide), if_pos rfl, if_pos (rV_0 c_121)]; exact ⟨rfl, _, _, rfl, sM.rf⟩)
  · refine ev_iconst (v := 0) dX12_act_124 (by decide) ?_
    exact ev_zret dX12_act_125 rfl (by decide) (by rw [aGo, if_neg (by decide), if_neg (by decide), if_neg (by decide), if_pos rfl, if_neg (neg_ne c_121)]; exact ⟨rfl, rfl⟩)
theorem c_act115 {I : Nat → Nat → Int32} {J : Nat → Nat → Int64} {R : Nat → Nat → Value} {d n c ns a rp rs v : Nat} {rv : RV} (hA : mA I R d n c rp rs rv) (hns : I 0 6 = nI ns) (hns8 : ns ≤ 8) (ha : I 1 24 = nI a) (hac : a ≤ c) (hv : v < 10) : Cal lyM (d + 95) hX12_act 3 [.ref 0, .int 115, .int (nI v)] (I, J, R) (fun r M' => aMo I J R r M' (aGo (I 2) (I 3) (I 4) (I 5) n c ns rs rv 115 v (I 1) a)) := by
  have hn := hA.1
  have hn8 := hA.2.1
  have hc := hA.2.2.1
  have hc12 := hA.2.2.2.1
  have ha12 : a ≤ 12 := by omega
  show Ev lyM (d + 95) hX12_act 0 [some (.ref 0), some (.int 115), some (.int (nI v))] [] (I, J, R) _
  refine ev_st dX12_act_0 rfl rfl ?_
  refine ev_ls (t := 136) dX12_act_1 (by decide) (by decide) ?_
  refine ev_st dX12_act_136 rfl rfl ?_
  refine ev_st dX12_act_137 rfl rfl ?_
  refine ev_getC dX12_act_138 fr_12_9 rfl rfl ?_
  refine ev_st dX12_act_141 rfl rfl ?_
  refine ev_call dX12_act_142 rfl rfl mr_12_300 rfl rfl rfl (c_refusesSay hns hns8 hc hc12 ha ha12 (nI v)) ?_
  rintro _ _ ⟨rfl, rfl⟩
  show Ev lyM (d + 95) hX12_act 145 [some (.ref 0), some (.int 115), some (.int (nI v))] [.int (m_rY ns c a (I 5) (I 1) (nI v))] (I, J, R) _
  refine ev_if_ge (t := 150) (x := m_rY ns c a (I 5) (I 1) (nI v)) dX12_act_145 (by decide) (fun c_145 => ?_) (fun c_145 => ?_)
  · refine ev_st dX12_act_150 rfl rfl ?_
    refine ev_st dX12_act_151 rfl rfl ?_
    refine ev_getC dX12_act_152 fr_12_9 rfl rfl ?_
    refine ev_st dX12_act_155 rfl rfl ?_
    refine ev_call dX12_act_156 rfl rfl mr_12_303 rfl rfl rfl (c_goSay (s := v) (by have := (rY_v hns8 hv c_145).1; omega)) ?_
    rintro _ _ ⟨rfl, rfl⟩
    show Ev lyM (d + 95) hX12_act 159 [some (.ref 0), some (.int 115), some (.int (nI v))] [] (va_up I 1 (m_gy (I 5) (I 1) v), J, R) _
    refine ev_iconst (v := 1) dX12_act_159 (by decide) ?_
    exact ev_zret dX12_act_160 rfl (by decide) (by rw [aGo, if_neg (by decide), if_neg (by decide), if_neg (by decide), if_neg (by decide), if_pos (rY_v hns8 hv c_145).2]; exact ⟨rfl, _, _, rfl, sM.rf⟩)
  · refine ev_iconst (v := 0) dX12_act_148 (by decide) ?_
    exact ev_zret dX12_act_149 rfl (by decide) (by rw [aGo, if_neg (by decide), if_neg (by decide), if_neg (by decide), if_neg (by decide), if_neg (neg_ne c_145)]; exact ⟨rfl, rfl⟩)
theorem c_act {I : Nat → Nat → Int32} {J : Nat → Nat → Int64} {R : Nat → Nat → Value} {d n c ns a rp rs k v : Nat} {rv : RV} {x : Int32} (hA : mA I R d n c rp rs rv) (hns : I 0 6 = nI ns) (hns8 : ns ≤ 8) (ha : I 1 24 = nI a) (hac : a ≤ c) (hk : k = 62 ∨ k = 118 ∧ v < 4 ∨ k = 116 ∨ k = 108 ∨ k = 115) (hv : v < 10) (hx : ¬ k = 62 → x = nI v) : Cal lyM (d + 95) hX12_act 3 [.ref 0, .int (nI k), .int x] (I, J, R) (fun r M' => aMo I J R r M' (aGo (I 2) (I 3) (I 4) (I 5) n c ns rs rv k v (I 1) a)) := by
  rcases hk with rfl | ⟨rfl, h4⟩ | rfl | rfl | rfl
  · exact c_act62 hA hns hns8 ha hac hv
  · rw [hx (by decide)]; exact c_act118 hA hns hns8 ha hac hv
  · rw [hx (by decide)]; exact c_act116 hA hns hns8 ha hac hv
  · rw [hx (by decide)]; exact c_act108 hA hns hns8 ha hac hv
  · rw [hx (by decide)]; exact c_act115 hA hns hns8 ha hac hv
