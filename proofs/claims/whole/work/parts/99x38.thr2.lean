/-! the class's calls that throw, where they throw -/
theorem lw_of_mok {o i mL n1 : Nat} {h2 : TH} {y : MethodName} (h : ti_MOK o i (0, h2, mL, n1 + 1, y)) : lw_MOK (ti_ow o) i h2 mL n1 y := by
  obtain ⟨o2, cc, rt⟩ := h2
  obtain ⟨h1, h2, h3, h4, h5, h6, h7⟩ := h
  rcases h7 with ⟨-, a1, a2, a3, a4, n2, a5, a6⟩ | ⟨a, -⟩ | ⟨a, -⟩
  · have e : n1 = n2 := by omega
    subst e
    exact ⟨h1, h2, h3, h4, h5, h6, a1, a2, a3, a4, a6⟩
  · cases a
  · cases a
def tB (D : va_G) (ad adV : Nat → Nat) (ca : Nat → ClassId) (M : TM) (sz : Nat) : State → Prop := fun U => ti_B D lyC ad adV ca M sz U ∧ tT (va_A (ti_ws lyC ad ca M) sz) U U.heap
theorem t_blind {D : va_G} {ad adV : Nat → Nat} {ca : Nat → ClassId} {M : TM} {sz : Nat} {av : List Value} : FrameBlind (va_Pc av (tB D ad adV ca M sz)) := by
  intro a U g mk q
  obtain ⟨q0, q1, q2⟩ := q
  exact ⟨q0, (ti_blind a U g mk ⟨q0, q1⟩).2, tT.same (u := U) (U := U.calling g mk a) rfl q2⟩
abbrev fd0 : List (Nat × Nat) := [(1, 1), (1, 3), (1, 5), (1, 8), (1, 11), (1, 39), (1, 15), (1, 18), (1, 22), (1, 23), (1, 30), (2, 0), (2, 0)]
def trm : Room := { frames := 130, cells := 1, slots := 6, locals := 13000 }
theorem t_met {l : Launch} {y : MethodName} {bytes : ByteArray} {mL : Nat} {ret : Option FieldType} {D : va_G} {ca : Nat → ClassId} {ad adV : Nat → Nat} {M : TM} {sz : Nat} {vs : List Value} {Qc : Array Value → State → Outcome → State → Prop} (hpl : plainName y.cls = true) (hy : y.cls = RX11)
    (body : ∀ (p : Program) (e : Env) (s : State) (m : MethodId) (below : List Frame) (meth : Method) (c : Code), lw_Cx p s m (vs.map (ti_tv ad)).toArray c bytes mL RX11 D ca (va_A (ti_ws lyC ad ca M) sz) → s.heap.size = sz → ti_Z ad adV (va_A (ti_ws lyC ad ca M) sz) s s.heap → tT (va_A (ti_ws lyC ad ca M) sz) s s.heap → meth.locks = false → (∀ x ∈ c.exceptionTable.toList, False) → va_P D vwCl (ti_ws lyC ad ca M) s.heap → va_D (va_A (ti_ws lyC ad ca M) sz) (ti_ws lyC ad ca M) →
      W p l e trm s m (vs.map (ti_tv ad)).toArray below meth c s.heap [] 0 0 (vx_MQ below Qc (tX D ad ca M sz) (vs.map (ti_tv ad)).toArray s 1 6 (va_A (ti_ws lyC ad ca M) sz)) (entryFrame m (vs.map (ti_tv ad)).toArray mL)) :
    vx_Met l y (.code y bytes mL ret :: ti_T) trm (va_Pc (vs.map (ti_tv ad)) (tB D ad adV ca M sz)) Qc (tX D ad ca M sz) 1 6 (va_A (ti_ws lyC ad ca M) sz) := by
  refine vx_ofW (cc := bytes) (maxL := mL) (ret := ret) hpl rfl ?_
  intro p e s m args below meth c s₁ B hml htab hv
  obtain ⟨rfl, ⟨hsz, hP, hK, hD0, hN, hZ⟩, hT⟩ := hv
  have hts := atoms_spec (ws := .code y bytes mL ret :: ti_T) B.pre
  have hown : s.vm.findClass y.cls = some m.cls := findClass_of_methodNamed B.named
  rw [hy] at hown
  exact body p e s m below meth c ⟨B.exec, B.bytes, hml, hown, fun w h => hts w (List.mem_cons_of_mem _ h), hK, hN, fun q h => Or.inr (by rw [← hsz]; exact h)⟩ hsz hZ hT B.notSynchronized htab hP hD0.self

set_option maxHeartbeats 1000000 in
theorem t_bearer (hIX : ti_IXok) {l : Launch} (hst : l.stackTraces = false) {D : va_G} {ca : Nat → ClassId} {ad adV : Nat → Nat} {I : Nat → Nat → Int32} {J : Nat → Nat → Int64} {R : Nat → Nat → Value} {sz n : Nat} {x y : Int32} (hn : I 8 3 = nI n) (hx : ¬ ((ix n x).isSome = true ∧ m_in y 0 4 = 1)) {Qc : Array Value → State → Outcome → State → Prop} :
    vx_Met l yX11_bearer (.code yX11_bearer cX11_bearer 3 (some .int) :: ti_T) trm (va_Pc (([.ref 0, .int x, .int y] : List Value).map (ti_tv ad)) (tB D ad adV ca (I, J, R) sz)) Qc (tX D ad ca (I, J, R) sz) 1 6 (va_A (ti_ws lyC ad ca (I, J, R)) sz) := by
  refine t_met (by decide) rfl ?_
  intro p e s m below meth c C hsz hZ hT hlk htab hP hD
  have hx0 := C.1
  have hb := C.2.1
  have hS : va_S (va_A (ti_ws lyC ad ca (I, J, R)) sz) s.heap s.heap [] := va_S.rf
  have hl := lv_entry ([.ref (ad 0), .int x, .int y]) (n := 3) (Nat.le_of_ble_eq_true rfl)
  rw [show (([.ref 0, .int x, .int y] : List Value).map (ti_tv ad)) = [.ref (ad 0), .int x, .int y] from rfl] at C ⊢
  rw [lg_entry_eq]
  generalize (lg_sl ([.ref (ad 0), .int x, .int y]) ++ List.replicate (3 - (lg_sl ([.ref (ad 0), .int x, .int y])).length) Slot.unset).toArray = ls at hl ⊢
  have hl : lv_has ls 3 [(0, .ref (ad 0)), (1, .int x), (2, .int y)] := hl
  refine lv_aload_n hx0 hb dX11_bearer_0 rfl (lv_at hl 0 rfl) ?_
  refine x_get (v := .ref (ad 8)) C hP (ci := 11) (T := TX11) (N := 13) rfl 0 (fs := ti_fm ad (I, J, R) 0 0 fd0) (ti_ws_at (e := .inl (11, fd0)) rfl) 3 (by decide) xw_f_11_35 rfl rfl dX11_bearer_1 ?_
  refine lv_iload_n hx0 hb dX11_bearer_4 rfl (lv_at hl 1 rfl) ?_
  refine lw_callP (rp := 8) (vs := [.int x]) (rest := []) hIX C hZ hl.1 (lw_of_mok ti_m_11_143) (k_hasF (d := 120) (J := J) (R := R) hn (fC.rf) (v := if (ix n x).isSome then 1 else 0) (x := x) rfl) rfl hP hD hS rfl (Nat.le_of_ble_eq_true rfl) rfl (by decide) (by decide) (by decide) (by decide) (by decide) dX11_bearer_5 (fun H locs r M1 h1 hP1 hz hk hS => ?_)
  obtain ⟨rfl, rfl⟩ := h1
  obtain ⟨s1, s2, s3, s4, s5⟩ := hT.2.1
  refine lv_if_ne (tgt := 21) hx0 hb dX11_bearer_8 (by decide) (fun h => ?_) (fun _ => ?_)
  · have hs : (ix n x).isSome = true := by
      cases hh : (ix n x).isSome with
      | true => rfl
      | false => rw [hh] at h; exact absurd rfl h
    have hy : ¬ m_in y 0 4 = 1 := fun z => hx ⟨hs, z⟩
    refine lv_iload_n hx0 hb dX11_bearer_21 rfl (lv_at hl 2 rfl) ?_
    refine lv_tableOut (tgt := 138) hx0 hb dX11_bearer_22 ?_ (by decide) ?_
    · unfold m_in at hy
      by_cases h1 : y < 0
      · left; rw [Int32.lt_iff_toInt_lt] at h1; exact h1
      · by_cases h2 : (4 : Int32) < y
        · right; rw [Int32.lt_iff_toInt_lt] at h2; exact h2
        · rw [if_neg h1, if_neg h2] at hy; exact absurd rfl hy
    · obtain ⟨sa, hs⟩ := s2
      exact t_thr hst C hsz hT hs hl.1 hlk htab hP1 hS (by decide) (by decide) (by decide) (by decide) dX11_bearer_138 dX11_bearer_141 (Or.inl ⟨dX11_bearer_142, dX11_bearer_144, dX11_bearer_147⟩)
  · obtain ⟨sa, hs⟩ := s1
    exact t_thr hst C hsz hT hs hl.1 hlk htab hP1 hS (by decide) (by decide) (by decide) (by decide) dX11_bearer_11 dX11_bearer_14 (Or.inl ⟨dX11_bearer_15, dX11_bearer_17, dX11_bearer_20⟩)
set_option maxHeartbeats 1000000 in
theorem t_saying (hIX : ti_IXok) {l : Launch} (hst : l.stackTraces = false) {D : va_G} {ca : Nat → ClassId} {ad adV : Nat → Nat} {I : Nat → Nat → Int32} {J : Nat → Nat → Int64} {R : Nat → Nat → Value} {sz n : Nat} {x y : Int32} (hn : I 11 4 = nI n) (hx : ¬ ((ix n x).isSome = true ∧ m_in y 0 5 = 1)) {Qc : Array Value → State → Outcome → State → Prop} :
    vx_Met l yX11_saying (.code yX11_saying cX11_saying 3 (some .int) :: ti_T) trm (va_Pc (([.ref 0, .int x, .int y] : List Value).map (ti_tv ad)) (tB D ad adV ca (I, J, R) sz)) Qc (tX D ad ca (I, J, R) sz) 1 6 (va_A (ti_ws lyC ad ca (I, J, R)) sz) := by
  refine t_met (by decide) rfl ?_
  intro p e s m below meth c C hsz hZ hT hlk htab hP hD
  have hx0 := C.1
  have hb := C.2.1
  have hS : va_S (va_A (ti_ws lyC ad ca (I, J, R)) sz) s.heap s.heap [] := va_S.rf
  have hl := lv_entry ([.ref (ad 0), .int x, .int y]) (n := 3) (Nat.le_of_ble_eq_true rfl)
  rw [show (([.ref 0, .int x, .int y] : List Value).map (ti_tv ad)) = [.ref (ad 0), .int x, .int y] from rfl] at C ⊢
  rw [lg_entry_eq]
  generalize (lg_sl ([.ref (ad 0), .int x, .int y]) ++ List.replicate (3 - (lg_sl ([.ref (ad 0), .int x, .int y])).length) Slot.unset).toArray = ls at hl ⊢
  have hl : lv_has ls 3 [(0, .ref (ad 0)), (1, .int x), (2, .int y)] := hl
  refine lv_aload_n hx0 hb dX11_saying_0 rfl (lv_at hl 0 rfl) ?_
  refine x_get (v := .ref (ad 11)) C hP (ci := 11) (T := TX11) (N := 13) rfl 0 (fs := ti_fm ad (I, J, R) 0 0 fd0) (ti_ws_at (e := .inl (11, fd0)) rfl) 4 (by decide) xw_f_11_42 rfl rfl dX11_saying_1 ?_
  refine lv_iload_n hx0 hb dX11_saying_4 rfl (lv_at hl 1 rfl) ?_
  refine lw_callP (rp := 11) (vs := [.int x]) (rest := []) hIX C hZ hl.1 (lw_of_mok ti_m_11_171) (k_hasSF (d := 120) (J := J) (R := R) hn (fC.rf) (v := if (ix n x).isSome then 1 else 0) (x := x) rfl) rfl hP hD hS rfl (Nat.le_of_ble_eq_true rfl) rfl (by decide) (by decide) (by decide) (by decide) (by decide) dX11_saying_5 (fun H locs r M1 h1 hP1 hz hk hS => ?_)
  obtain ⟨rfl, rfl⟩ := h1
  obtain ⟨s1, s2, s3, s4, s5⟩ := hT.2.1
  refine lv_if_ne (tgt := 21) hx0 hb dX11_saying_8 (by decide) (fun h => ?_) (fun _ => ?_)
  · have hs : (ix n x).isSome = true := by
      cases hh : (ix n x).isSome with
      | true => rfl
      | false => rw [hh] at h; exact absurd rfl h
    have hy : ¬ m_in y 0 5 = 1 := fun z => hx ⟨hs, z⟩
    refine lv_iload_n hx0 hb dX11_saying_21 rfl (lv_at hl 2 rfl) ?_
    refine lv_tableOut (tgt := 139) hx0 hb dX11_saying_22 ?_ (by decide) ?_
    · unfold m_in at hy
      by_cases h1 : y < 0
      · left; rw [Int32.lt_iff_toInt_lt] at h1; exact h1
      · by_cases h2 : (5 : Int32) < y
        · right; rw [Int32.lt_iff_toInt_lt] at h2; exact h2
        · rw [if_neg h1, if_neg h2] at hy; exact absurd rfl hy
    · obtain ⟨sa, hs⟩ := s4
      exact t_thr hst C hsz hT hs hl.1 hlk htab hP1 hS (by decide) (by decide) (by decide) (by decide) dX11_saying_139 dX11_saying_142 (Or.inl ⟨dX11_saying_143, dX11_saying_145, dX11_saying_148⟩)
  · obtain ⟨sa, hs⟩ := s3
    exact t_thr hst C hsz hT hs hl.1 hlk htab hP1 hS (by decide) (by decide) (by decide) (by decide) dX11_saying_11 dX11_saying_14 (Or.inl ⟨dX11_saying_15, dX11_saying_17, dX11_saying_20⟩)
set_option maxHeartbeats 1000000 in
theorem t_row (hIX : ti_IXok) {l : Launch} (hst : l.stackTraces = false) {D : va_G} {ca : Nat → ClassId} {ad adV : Nat → Nat} {I : Nat → Nat → Int32} {J : Nat → Nat → Int64} {R : Nat → Nat → Value} {sz n : Nat} {x : Int32} (hn : I 3 1 = nI n) (hx : ix n x = none) {Qc : Array Value → State → Outcome → State → Prop} :
    vx_Met l yX11_row (.code yX11_row cX11_row 2 (some .long) :: ti_T) trm (va_Pc (([.ref 0, .int x] : List Value).map (ti_tv ad)) (tB D ad adV ca (I, J, R) sz)) Qc (tX D ad ca (I, J, R) sz) 1 6 (va_A (ti_ws lyC ad ca (I, J, R)) sz) := by
  refine t_met (by decide) rfl ?_
  intro p e s m below meth c C hsz hZ hT hlk htab hP hD
  have hx0 := C.1
  have hb := C.2.1
  have hS : va_S (va_A (ti_ws lyC ad ca (I, J, R)) sz) s.heap s.heap [] := va_S.rf
  have hl := lv_entry ([.ref (ad 0), .int x]) (n := 2) (Nat.le_of_ble_eq_true rfl)
  rw [show (([.ref 0, .int x] : List Value).map (ti_tv ad)) = [.ref (ad 0), .int x] from rfl] at C ⊢
  rw [lg_entry_eq]
  generalize (lg_sl ([.ref (ad 0), .int x]) ++ List.replicate (2 - (lg_sl ([.ref (ad 0), .int x])).length) Slot.unset).toArray = ls at hl ⊢
  have hl : lv_has ls 2 [(0, .ref (ad 0)), (1, .int x)] := hl
  obtain ⟨s1, s2, s3, s4, sa, hs⟩ := hT.2.1
  refine lv_iload_n hx0 hb dX11_row_0 rfl (lv_at hl 1 rfl) ?_
  refine lv_if_lt (tgt := 15) hx0 hb dX11_row_1 (by decide) (fun _ => ?_) (fun h0 => ?_)
  · exact t_thr hst C hsz hT hs hl.1 hlk htab hP hS (by decide) (by decide) (by decide) (by decide) dX11_row_15 dX11_row_18 (Or.inr ⟨dX11_row_19, dX11_row_22, dX11_row_25⟩)
  · refine lv_iload_n hx0 hb dX11_row_4 rfl (lv_at hl 1 rfl) ?_
    refine lv_aload_n hx0 hb dX11_row_5 rfl (lv_at hl 0 rfl) ?_
    refine x_get (v := .ref (ad 3)) C hP (ci := 11) (T := TX11) (N := 13) rfl 0 (fs := ti_fm ad (I, J, R) 0 0 fd0) (ti_ws_at (e := .inl (11, fd0)) rfl) 1 (by decide) xw_f_11_19 rfl rfl dX11_row_6 ?_
    refine lw_callP (rp := 3) (vs := []) (rest := [.int x]) hIX C hZ hl.1 (lw_of_mok ti_m_11_410) (k_X4_size (d := 120) (I := I) (J := J) (R := R)) rfl hP hD hS rfl (Nat.le_of_ble_eq_true rfl) rfl (Nat.le_of_ble_eq_true rfl) (by decide) (by decide) (by decide) (by decide) dX11_row_9 (fun H locs r M1 h1 hP1 hz hk hS => ?_)
    obtain ⟨rfl, rfl⟩ := h1
    refine lv_icmp_lt (tgt := 26) hx0 hb dX11_row_12 (by decide) (fun h => ?_) (fun _ => ?_)
    · exfalso
      unfold ix at hx
      rw [hn] at h
      rw [if_pos ⟨Int32.not_lt.mp h0, h⟩] at hx
      cases hx
    · exact t_thr hst C hsz hT hs hl.1 hlk htab hP1 hS (by decide) (by decide) (by decide) (by decide) dX11_row_15 dX11_row_18 (Or.inr ⟨dX11_row_19, dX11_row_22, dX11_row_25⟩)
