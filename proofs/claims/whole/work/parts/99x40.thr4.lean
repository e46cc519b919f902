/-! the law's helpers: what they answer -/
set_option maxHeartbeats 1000000 in
theorem h_bearer_R (hIX : ti_IXok) {l : Launch} {D : va_G} {ca : Nat → ClassId} {ad adV : Nat → Nat} {ao : Nat} {M : TM} {f : Nat → Int64} {sz : Nat} {x y : Int32} {v : Int32} {QC : TM → Prop} (hcal : Cal lyC 120 hX11_bearer 3 (.ref 0 :: [.int x, .int y]) M (fun r M1 => r = some (.int v) ∧ QC M1)) :
    Met l yL_bearer (.codeWith yL_bearer cL_bearer 5 (some .int) [(0, 10, 13, 13)] :: ti_T) hrm (va_Pc [.ref (ad 0), .int x, .int y, .ref ao] (hBo D ad adV ca ao M f sz)) (hQo D ad ca ao (fun r M1 f1 => r = 0 ∧ QC M1 ∧ f1 0 = v.toInt64) (va_A (hWo ad ca ao M f) sz)) 1 6 (va_A (hWo ad ca ao M f) sz) := by
  refine h_met (by decide) rfl ?_
  intro p e s m below meth c C hsz hZ hT hr hlk htab hP hD
  have hx := C.1
  have hb := C.2.1
  have hS : va_S (va_A (hWo ad ca ao M f) sz) s.heap s.heap [] := va_S.rf
  obtain ⟨hPC, hPo⟩ := x_PL hP
  obtain ⟨hDC, hDo, hDx⟩ := x_DL hD
  have hl := lv_entry ([.ref (ad 0), .int x, .int y, .ref ao]) (n := 5) (Nat.le_of_ble_eq_true rfl)
  rw [lg_entry_eq]
  generalize (lg_sl ([.ref (ad 0), .int x, .int y, .ref ao]) ++ List.replicate (5 - (lg_sl ([.ref (ad 0), .int x, .int y, .ref ao])).length) Slot.unset).toArray = ls at hl ⊢
  have hl : lv_has ls 5 [(0, .ref (ad 0)), (1, .int x), (2, .int y), (3, .ref ao)] := hl
  refine lv_aload_n hx hb dL_bearer_0 rfl (lv_at hl 3 rfl) ?_
  refine lv_iconst (v := 0) hx hb dL_bearer_1 (by decide) ?_
  refine lv_aload_n hx hb dL_bearer_2 rfl (lv_at hl 0 rfl) ?_
  refine lv_iload_n hx hb dL_bearer_3 rfl (lv_at hl 1 rfl) ?_
  refine lv_iload_n hx hb dL_bearer_4 rfl (lv_at hl 2 rfl) ?_
  refine lw_call (vs := [.int x, .int y]) (rest := [.int 0, .ref ao]) hIX C hZ hl.1 lw_w_7 hcal rfl hPC hDC hS rfl (Nat.le_of_ble_eq_true rfl) rfl (Nat.le_of_ble_eq_true rfl) (by decide) (by decide) (by decide) (by decide) dL_bearer_5 (fun H locs r M1 h1 hP1 hz hk hS => ?_)
  obtain ⟨rfl, h1⟩ := h1
  have hPo1 : va_P D vwCl [(ao, .inl (ca 4, 1, .inr (.inl f)))] H := hPo.kept (fun k q hq => hk _ ((hPo k q hq).lt) (ti_nA (fun i hi he => by
    obtain ⟨e9, h9⟩ := ti_ws_in (ad := ad) (ca := ca) (M := M) hi
    exact hDx i k _ _ h9 hq he) ((hPo k q hq).lt)))
  have hPj : va_P D vwCl (hWo ad ca ao M1 f) H := va_P.app hP1 hPo1
  have hDj : va_D (va_A (hWo ad ca ao M f) sz) (hWo ad ca ao M1 f) := h_D hD
  refine lv_i2l (v := v.toInt64) hx hb dL_bearer_8 rfl ?_
  refine va_last hx hb C.2.2.2.2.2.1 hPj hDj hS 73 4 (h_at ad ca ao M1 f) rfl (show vp_in 0 1 from by unfold vp_in; decide) dL_bearer_9 (fun H locs hP hD hS => ?_)
  rw [h_set] at hP
  refine lv_goto (tgt := 17) hx hb dL_bearer_10 (by decide) ?_
  refine lv_iconst (v := 0) hx hb dL_bearer_17 (by decide) ?_
  exact W.widen (k := 1) (n := 6) (by decide) (by decide) (W.iret hx hb hr (fun t ht _ => ⟨0, M1, _, rfl, ⟨rfl, h1, rfl⟩, by rw [ht]; exact hP, hS.F ht⟩) hS.2.2 dL_bearer_18 hlk)
set_option maxHeartbeats 1000000 in
theorem h_bearer_T (hIX : ti_IXok) {l : Launch} (hst : l.stackTraces = false) {D : va_G} {ca : Nat → ClassId} {ad adV : Nat → Nat} {ao : Nat} {I : Nat → Nat → Int32} {J : Nat → Nat → Int64} {R : Nat → Nat → Value} {f : Nat → Int64} {sz n : Nat} {x y : Int32} (hn : I 8 3 = nI n) (hx0 : ¬ ((ix n x).isSome = true ∧ m_in y 0 4 = 1)) :
    Met l yL_bearer (.codeWith yL_bearer cL_bearer 5 (some .int) [(0, 10, 13, 13)] :: ti_T) hrm (va_Pc [.ref (ad 0), .int x, .int y, .ref ao] (hBo D ad adV ca ao (I, J, R) f sz)) (hQo D ad ca ao (fun r M1 f1 => r = 1 ∧ M1 = (I, J, R)) (va_A (hWo ad ca ao (I, J, R) f) sz)) 1 6 (va_A (hWo ad ca ao (I, J, R) f) sz) := by
  refine h_met (by decide) rfl ?_
  generalize hM0 : (I, J, R) = M
  intro p e s m below meth c C hsz hZ hT hr hlk htab hP hD
  have hx := C.1
  have hb := C.2.1
  have hS : va_S (va_A (hWo ad ca ao M f) sz) s.heap s.heap [] := va_S.rf
  obtain ⟨hPC, hPo⟩ := x_PL hP
  obtain ⟨hDC, hDo, hDx⟩ := x_DL hD
  have hl := lv_entry ([.ref (ad 0), .int x, .int y, .ref ao]) (n := 5) (Nat.le_of_ble_eq_true rfl)
  rw [lg_entry_eq]
  generalize (lg_sl ([.ref (ad 0), .int x, .int y, .ref ao]) ++ List.replicate (5 - (lg_sl ([.ref (ad 0), .int x, .int y, .ref ao])).length) Slot.unset).toArray = ls at hl ⊢
  have hl : lv_has ls 5 [(0, .ref (ad 0)), (1, .int x), (2, .int y), (3, .ref ao)] := hl
  refine lv_aload_n hx hb dL_bearer_0 rfl (lv_at hl 3 rfl) ?_
  refine lv_iconst (v := 0) hx hb dL_bearer_1 (by decide) ?_
  refine lv_aload_n hx hb dL_bearer_2 rfl (lv_at hl 0 rfl) ?_
  refine lv_iload_n hx hb dL_bearer_3 rfl (lv_at hl 1 rfl) ?_
  refine lv_iload_n hx hb dL_bearer_4 rfl (lv_at hl 2 rfl) ?_
  subst hM0
  have hthr := t_bearer hIX (l := l) hst (D := D) (ca := ca) (ad := ad) (adV := adV) (J := J) (R := R) (sz := s.heap.size) hn hx0 (Qc := fun _ _ _ _ => False)
  obtain ⟨hcode, hini, hpl, hycls, hno, hmL, hl1, hl2, hl3, ⟨T0, N0, hcl⟩, hn1⟩ := lw_w_7
  obtain ⟨-, -, hml, hown, hts, hK, hN, hA⟩ := C
  have hF : ∀ q, va_A (ti_ws lyC ad ca (I, J, R)) s.heap.size q → va_A (hWo ad ca ao (I, J, R) f) sz q := by
    intro q hq
    rcases hq with ⟨k, e, hk⟩ | hq
    · exact hDC.2 k _ hk
    · exact Or.inr (by rw [← hsz]; exact hq)
  have hpre : ∀ U : State, U.heap = s.heap → s.WarmedH U.vm → tB D ad adV ca (I, J, R) s.heap.size U := by
    intro U hU hW
    refine ⟨⟨by rw [hU], by rw [hU]; exact hPC, va_K.moved hW.alike hK, hDC.weaken (fun _ _ _ _ => trivial), ti_Nw_warm hW hN, vk_R.warm hW hZ.1, ?_⟩, ?_⟩
    · rw [hU]
      exact ti_Z2.moved hW.alike (hZ.2.narrow hF)
    · rw [hU]
      exact tT.warm hW (hT.narrow hF)
  have hrun := vx_runV (R := hrm) (H := s.heap) (locs := []) (cells := 0) (slots := 0) (below := below) (meth := meth) (e := e) (g := F0 m 5 ls (([.int x, .int y] : List Value).reverse ++ .ref (ad 0) :: [.int 0, .ref ao])) (As := [.int x, .int y]) (rest := [.int 0, .ref ao]) ⟨hx, hb, hml, hown, hts⟩ hthr
    (cwV 2 hts (fun w hw => by
      rcases List.mem_append.mp hw with hw | hw
      · simp only [List.mem_cons, List.not_mem_nil, or_false] at hw
        rcases hw with rfl | rfl | rfl | rfl
        · exact ⟨hl1, ti_Tgood hl1⟩
        · exact ⟨hl2, ti_Tgood hl2⟩
        · exact ⟨hl3, ti_Tgood hl3⟩
        · exact ⟨hini, ti_Tgood hini⟩
      · exact ti_good hcode w hw) rfl rfl rfl ⟨rfl, hno.1, hno.2, hn1⟩ (by decide)) ⟨t_blind, va_recv hK hPC hcl (ti_ws_at (e := .inl (11, fd0)) rfl), fun U hU hW => ⟨rfl, hpre U hU hW⟩⟩ rfl rfl hl.1 rfl (Nat.le_of_ble_eq_true rfl) dL_bearer_5 ⟨by decide, by decide⟩
  intro T hTh X
  rcases hrun T hTh X with ⟨v, st₀, t, T', L, h0, X', hL, e1, e2, hq, st⟩ | ⟨q, st₀, t, T', L, E, ce, h0, X', hL, e1, e2, ⟨rfl, hP2, hz, hk⟩, hce, hcv, hcl2, st⟩
  · exact hq.elim
  · rw [h0] at hz hk
    have hS2 : va_S (va_A (hWo ad ca ao (I, J, R) f) sz) s.heap T'.heap ([] ++ L) := ⟨by rw [e1]; exact hz, fun q h1 h2 => by rw [e1]; exact hk q h1 (fun z => h2 (hF q z)), fun q hq => hF _ (hL q hq)⟩
    have hPo1 : va_P D vwCl [(ao, .inl (ca 4, 1, .inr (.inl f)))] T'.heap := hPo.kept (fun k q hq => by
      rw [e1]
      exact hk _ ((hPo k q hq).lt) (ti_nA (fun i hi he => by
        obtain ⟨e9, h9⟩ := ti_ws_in (ad := ad) (ca := ca) (M := (I, J, R)) hi
        exact hDx i k _ _ h9 hq he) ((hPo k q hq).lt)))
    have hPj : va_P D vwCl (hWo ad ca ao (I, J, R) f) T'.heap := va_P.app (by rw [e1]; exact hP2) hPo1
    have key : vx_W p l e hrm s m ([.ref (ad 0), .int x, .int y, .ref ao] : List Value).toArray below meth c T'.heap ([] ++ L) (0 + 1) (0 + 6) (MQ below (hQo D ad ca ao (fun r M1 f1 => r = 1 ∧ M1 = (I, J, R)) (va_A (hWo ad ca ao (I, J, R) f) sz)) ([.ref (ad 0), .int x, .int y, .ref ao] : List Value).toArray s 1 6 (va_A (hWo ad ca ao (I, J, R) f) sz)) (F0 m 5 ls [.int 0, .ref ao]) q := by
      refine vx_catch (name := RE) hown [] _ [] htab (fun z hz => nomatch hz) rfl (by decide) (hts _ tW_law) (va_Nw.use rfl (hT.1 _ tW_castE)) (by rw [e1]; exact hce) hcv hcl2 ?_
      refine lv_astore (lv' := [(4, .ref q), (0, .ref (ad 0)), (1, .int x), (2, .int y), (3, .ref ao)]) hx hb dL_bearer_13 hl (by decide) rfl (fun ls hl => ?_)
      refine lv_iconst (v := 1) hx hb dL_bearer_15 (by decide) ?_
      exact W.iret hx hb hr (fun t ht _ => ⟨1, (I, J, R), f, rfl, ⟨rfl, rfl⟩, by rw [ht]; exact hPj, hS2.F ht⟩) hS2.2.2 dL_bearer_16 hlk
    obtain ⟨t2, a1, b1⟩ := key T' rfl X'
    exact ⟨t2, st.trans a1, b1⟩
set_option maxHeartbeats 1000000 in
theorem h_saying_R (hIX : ti_IXok) {l : Launch} {D : va_G} {ca : Nat → ClassId} {ad adV : Nat → Nat} {ao : Nat} {M : TM} {f : Nat → Int64} {sz : Nat} {x y : Int32} {v : Int32} {QC : TM → Prop} (hcal : Cal lyC 120 hX11_saying 3 (.ref 0 :: [.int x, .int y]) M (fun r M1 => r = some (.int v) ∧ QC M1)) :
    Met l yL_saying (.codeWith yL_saying cL_saying 5 (some .int) [(0, 10, 13, 13)] :: ti_T) hrm (va_Pc [.ref (ad 0), .int x, .int y, .ref ao] (hBo D ad adV ca ao M f sz)) (hQo D ad ca ao (fun r M1 f1 => r = 0 ∧ QC M1 ∧ f1 0 = v.toInt64) (va_A (hWo ad ca ao M f) sz)) 1 6 (va_A (hWo ad ca ao M f) sz) := by
  refine h_met (by decide) rfl ?_
  intro p e s m below meth c C hsz hZ hT hr hlk htab hP hD
  have hx := C.1
  have hb := C.2.1
  have hS : va_S (va_A (hWo ad ca ao M f) sz) s.heap s.heap [] := va_S.rf
  obtain ⟨hPC, hPo⟩ := x_PL hP
  obtain ⟨hDC, hDo, hDx⟩ := x_DL hD
  have hl := lv_entry ([.ref (ad 0), .int x, .int y, .ref ao]) (n := 5) (Nat.le_of_ble_eq_true rfl)
  rw [lg_entry_eq]
  generalize (lg_sl ([.ref (ad 0), .int x, .int y, .ref ao]) ++ List.replicate (5 - (lg_sl ([.ref (ad 0), .int x, .int y, .ref ao])).length) Slot.unset).toArray = ls at hl ⊢
  have hl : lv_has ls 5 [(0, .ref (ad 0)), (1, .int x), (2, .int y), (3, .ref ao)] := hl
  refine lv_aload_n hx hb dL_saying_0 rfl (lv_at hl 3 rfl) ?_
  refine lv_iconst (v := 0) hx hb dL_saying_1 (by decide) ?_
  refine lv_aload_n hx hb dL_saying_2 rfl (lv_at hl 0 rfl) ?_
  refine lv_iload_n hx hb dL_saying_3 rfl (lv_at hl 1 rfl) ?_
  refine lv_iload_n hx hb dL_saying_4 rfl (lv_at hl 2 rfl) ?_
  refine lw_call (vs := [.int x, .int y]) (rest := [.int 0, .ref ao]) hIX C hZ hl.1 lw_w_15 hcal rfl hPC hDC hS rfl (Nat.le_of_ble_eq_true rfl) rfl (Nat.le_of_ble_eq_true rfl) (by decide) (by decide) (by decide) (by decide) dL_saying_5 (fun H locs r M1 h1 hP1 hz hk hS => ?_)
  obtain ⟨rfl, h1⟩ := h1
  have hPo1 : va_P D vwCl [(ao, .inl (ca 4, 1, .inr (.inl f)))] H := hPo.kept (fun k q hq => hk _ ((hPo k q hq).lt) (ti_nA (fun i hi he => by
    obtain ⟨e9, h9⟩ := ti_ws_in (ad := ad) (ca := ca) (M := M) hi
    exact hDx i k _ _ h9 hq he) ((hPo k q hq).lt)))
  have hPj : va_P D vwCl (hWo ad ca ao M1 f) H := va_P.app hP1 hPo1
  have hDj : va_D (va_A (hWo ad ca ao M f) sz) (hWo ad ca ao M1 f) := h_D hD
  refine lv_i2l (v := v.toInt64) hx hb dL_saying_8 rfl ?_
  refine va_last hx hb C.2.2.2.2.2.1 hPj hDj hS 73 4 (h_at ad ca ao M1 f) rfl (show vp_in 0 1 from by unfold vp_in; decide) dL_saying_9 (fun H locs hP hD hS => ?_)
  rw [h_set] at hP
  refine lv_goto (tgt := 17) hx hb dL_saying_10 (by decide) ?_
  refine lv_iconst (v := 0) hx hb dL_saying_17 (by decide) ?_
  exact W.widen (k := 1) (n := 6) (by decide) (by decide) (W.iret hx hb hr (fun t ht _ => ⟨0, M1, _, rfl, ⟨rfl, h1, rfl⟩, by rw [ht]; exact hP, hS.F ht⟩) hS.2.2 dL_saying_18 hlk)
set_option maxHeartbeats 1000000 in
theorem h_saying_T (hIX : ti_IXok) {l : Launch} (hst : l.stackTraces = false) {D : va_G} {ca : Nat → ClassId} {ad adV : Nat → Nat} {ao : Nat} {I : Nat → Nat → Int32} {J : Nat → Nat → Int64} {R : Nat → Nat → Value} {f : Nat → Int64} {sz n : Nat} {x y : Int32} (hn : I 11 4 = nI n) (hx0 : ¬ ((ix n x).isSome = true ∧ m_in y 0 5 = 1)) :
    Met l yL_saying (.codeWith yL_saying cL_saying 5 (some .int) [(0, 10, 13, 13)] :: ti_T) hrm (va_Pc [.ref (ad 0), .int x, .int y, .ref ao] (hBo D ad adV ca ao (I, J, R) f sz)) (hQo D ad ca ao (fun r M1 f1 => r = 1 ∧ M1 = (I, J, R)) (va_A (hWo ad ca ao (I, J, R) f) sz)) 1 6 (va_A (hWo ad ca ao (I, J, R) f) sz) := by
  refine h_met (by decide) rfl ?_
  generalize hM0 : (I, J, R) = M
  intro p e s m below meth c C hsz hZ hT hr hlk htab hP hD
  have hx := C.1
  have hb := C.2.1
  have hS : va_S (va_A (hWo ad ca ao M f) sz) s.heap s.heap [] := va_S.rf
  obtain ⟨hPC, hPo⟩ := x_PL hP
  obtain ⟨hDC, hDo, hDx⟩ := x_DL hD
  have hl := lv_entry ([.ref (ad 0), .int x, .int y, .ref ao]) (n := 5) (Nat.le_of_ble_eq_true rfl)
  rw [lg_entry_eq]
  generalize (lg_sl ([.ref (ad 0), .int x, .int y, .ref ao]) ++ List.replicate (5 - (lg_sl ([.ref (ad 0), .int x, .int y, .ref ao])).length) Slot.unset).toArray = ls at hl ⊢
  have hl : lv_has ls 5 [(0, .ref (ad 0)), (1, .int x), (2, .int y), (3, .ref ao)] := hl
  refine lv_aload_n hx hb dL_saying_0 rfl (lv_at hl 3 rfl) ?_
  refine lv_iconst (v := 0) hx hb dL_saying_1 (by decide) ?_
  refine lv_aload_n hx hb dL_saying_2 rfl (lv_at hl 0 rfl) ?_
  refine lv_iload_n hx hb dL_saying_3 rfl (lv_at hl 1 rfl) ?_
  refine lv_iload_n hx hb dL_saying_4 rfl (lv_at hl 2 rfl) ?_
  subst hM0
  have hthr := t_saying hIX (l := l) hst (D := D) (ca := ca) (ad := ad) (adV := adV) (J := J) (R := R) (sz := s.heap.size) hn hx0 (Qc := fun _ _ _ _ => False)
  obtain ⟨hcode, hini, hpl, hycls, hno, hmL, hl1, hl2, hl3, ⟨T0, N0, hcl⟩, hn1⟩ := lw_w_15
  obtain ⟨-, -, hml, hown, hts, hK, hN, hA⟩ := C
  have hF : ∀ q, va_A (ti_ws lyC ad ca (I, J, R)) s.heap.size q → va_A (hWo ad ca ao (I, J, R) f) sz q := by
    intro q hq
    rcases hq with ⟨k, e, hk⟩ | hq
    · exact hDC.2 k _ hk
    · exact Or.inr (by rw [← hsz]; exact hq)
  have hpre : ∀ U : State, U.heap = s.heap → s.WarmedH U.vm → tB D ad adV ca (I, J, R) s.heap.size U := by
    intro U hU hW
    refine ⟨⟨by rw [hU], by rw [hU]; exact hPC, va_K.moved hW.alike hK, hDC.weaken (fun _ _ _ _ => trivial), ti_Nw_warm hW hN, vk_R.warm hW hZ.1, ?_⟩, ?_⟩
    · rw [hU]
      exact ti_Z2.moved hW.alike (hZ.2.narrow hF)
    · rw [hU]
      exact tT.warm hW (hT.narrow hF)
  have hrun := vx_runV (R := hrm) (H := s.heap) (locs := []) (cells := 0) (slots := 0) (below := below) (meth := meth) (e := e) (g := F0 m 5 ls (([.int x, .int y] : List Value).reverse ++ .ref (ad 0) :: [.int 0, .ref ao])) (As := [.int x, .int y]) (rest := [.int 0, .ref ao]) ⟨hx, hb, hml, hown, hts⟩ hthr
    (cwV 2 hts (fun w hw => by
      rcases List.mem_append.mp hw with hw | hw
      · simp only [List.mem_cons, List.not_mem_nil, or_false] at hw
        rcases hw with rfl | rfl | rfl | rfl
        · exact ⟨hl1, ti_Tgood hl1⟩
        · exact ⟨hl2, ti_Tgood hl2⟩
        · exact ⟨hl3, ti_Tgood hl3⟩
        · exact ⟨hini, ti_Tgood hini⟩
      · exact ti_good hcode w hw) rfl rfl rfl ⟨rfl, hno.1, hno.2, hn1⟩ (by decide)) ⟨t_blind, va_recv hK hPC hcl (ti_ws_at (e := .inl (11, fd0)) rfl), fun U hU hW => ⟨rfl, hpre U hU hW⟩⟩ rfl rfl hl.1 rfl (Nat.le_of_ble_eq_true rfl) dL_saying_5 ⟨by decide, by decide⟩
  intro T hTh X
  rcases hrun T hTh X with ⟨v, st₀, t, T', L, h0, X', hL, e1, e2, hq, st⟩ | ⟨q, st₀, t, T', L, E, ce, h0, X', hL, e1, e2, ⟨rfl, hP2, hz, hk⟩, hce, hcv, hcl2, st⟩
  · exact hq.elim
  · rw [h0] at hz hk
    have hS2 : va_S (va_A (hWo ad ca ao (I, J, R) f) sz) s.heap T'.heap ([] ++ L) := ⟨by rw [e1]; exact hz, fun q h1 h2 => by rw [e1]; exact hk q h1 (fun z => h2 (hF q z)), fun q hq => hF _ (hL q hq)⟩
    have hPo1 : va_P D vwCl [(ao, .inl (ca 4, 1, .inr (.inl f)))] T'.heap := hPo.kept (fun k q hq => by
      rw [e1]
      exact hk _ ((hPo k q hq).lt) (ti_nA (fun i hi he => by
        obtain ⟨e9, h9⟩ := ti_ws_in (ad := ad) (ca := ca) (M := (I, J, R)) hi
        exact hDx i k _ _ h9 hq he) ((hPo k q hq).lt)))
    have hPj : va_P D vwCl (hWo ad ca ao (I, J, R) f) T'.heap := va_P.app (by rw [e1]; exact hP2) hPo1
    have key : vx_W p l e hrm s m ([.ref (ad 0), .int x, .int y, .ref ao] : List Value).toArray below meth c T'.heap ([] ++ L) (0 + 1) (0 + 6) (MQ below (hQo D ad ca ao (fun r M1 f1 => r = 1 ∧ M1 = (I, J, R)) (va_A (hWo ad ca ao (I, J, R) f) sz)) ([.ref (ad 0), .int x, .int y, .ref ao] : List Value).toArray s 1 6 (va_A (hWo ad ca ao (I, J, R) f) sz)) (F0 m 5 ls [.int 0, .ref ao]) q := by
      refine vx_catch (name := RE) hown [] _ [] htab (fun z hz => nomatch hz) rfl (by decide) (hts _ tW_law) (va_Nw.use rfl (hT.1 _ tW_castE)) (by rw [e1]; exact hce) hcv hcl2 ?_
      refine lv_astore (lv' := [(4, .ref q), (0, .ref (ad 0)), (1, .int x), (2, .int y), (3, .ref ao)]) hx hb dL_saying_13 hl (by decide) rfl (fun ls hl => ?_)
      refine lv_iconst (v := 1) hx hb dL_saying_15 (by decide) ?_
      exact W.iret hx hb hr (fun t ht _ => ⟨1, (I, J, R), f, rfl, ⟨rfl, rfl⟩, by rw [ht]; exact hPj, hS2.F ht⟩) hS2.2.2 dL_saying_16 hlk
    obtain ⟨t2, a1, b1⟩ := key T' rfl X'
    exact ⟨t2, st.trans a1, b1⟩
set_option maxHeartbeats 1000000 in
theorem h_row_R (hIX : ti_IXok) {l : Launch} {D : va_G} {ca : Nat → ClassId} {ad adV : Nat → Nat} {ao : Nat} {M : TM} {f : Nat → Int64} {sz : Nat} {x : Int32} {v : Int64} {QC : TM → Prop} (hcal : Cal lyC 120 hX11_row 2 (.ref 0 :: [.int x]) M (fun r M1 => r = some (.long v) ∧ QC M1)) :
    Met l yL_row (.codeWith yL_row cL_row 4 (some .int) [(0, 8, 11, 13)] :: ti_T) hrm (va_Pc [.ref (ad 0), .int x, .ref ao] (hBo D ad adV ca ao M f sz)) (hQo D ad ca ao (fun r M1 f1 => r = 0 ∧ QC M1 ∧ f1 0 = v) (va_A (hWo ad ca ao M f) sz)) 1 6 (va_A (hWo ad ca ao M f) sz) := by
  refine h_met (by decide) rfl ?_
  intro p e s m below meth c C hsz hZ hT hr hlk htab hP hD
  have hx := C.1
  have hb := C.2.1
  have hS : va_S (va_A (hWo ad ca ao M f) sz) s.heap s.heap [] := va_S.rf
  obtain ⟨hPC, hPo⟩ := x_PL hP
  obtain ⟨hDC, hDo, hDx⟩ := x_DL hD
  have hl := lv_entry ([.ref (ad 0), .int x, .ref ao]) (n := 4) (Nat.le_of_ble_eq_true rfl)
  rw [lg_entry_eq]
  generalize (lg_sl ([.ref (ad 0), .int x, .ref ao]) ++ List.replicate (4 - (lg_sl ([.ref (ad 0), .int x, .ref ao])).length) Slot.unset).toArray = ls at hl ⊢
  have hl : lv_has ls 4 [(0, .ref (ad 0)), (1, .int x), (2, .ref ao)] := hl
  refine lv_aload_n hx hb dL_row_0 rfl (lv_at hl 2 rfl) ?_
  refine lv_iconst (v := 0) hx hb dL_row_1 (by decide) ?_
  refine lv_aload_n hx hb dL_row_2 rfl (lv_at hl 0 rfl) ?_
  refine lv_iload_n hx hb dL_row_3 rfl (lv_at hl 1 rfl) ?_
  refine lw_call (vs := [.int x]) (rest := [.int 0, .ref ao]) hIX C hZ hl.1 lw_w_18 hcal rfl hPC hDC hS rfl (Nat.le_of_ble_eq_true rfl) rfl (Nat.le_of_ble_eq_true rfl) (by decide) (by decide) (by decide) (by decide) dL_row_4 (fun H locs r M1 h1 hP1 hz hk hS => ?_)
  obtain ⟨rfl, h1⟩ := h1
  have hPo1 : va_P D vwCl [(ao, .inl (ca 4, 1, .inr (.inl f)))] H := hPo.kept (fun k q hq => hk _ ((hPo k q hq).lt) (ti_nA (fun i hi he => by
    obtain ⟨e9, h9⟩ := ti_ws_in (ad := ad) (ca := ca) (M := M) hi
    exact hDx i k _ _ h9 hq he) ((hPo k q hq).lt)))
  have hPj : va_P D vwCl (hWo ad ca ao M1 f) H := va_P.app hP1 hPo1
  have hDj : va_D (va_A (hWo ad ca ao M f) sz) (hWo ad ca ao M1 f) := h_D hD
  refine va_last hx hb C.2.2.2.2.2.1 hPj hDj hS 73 4 (h_at ad ca ao M1 f) rfl (show vp_in 0 1 from by unfold vp_in; decide) dL_row_7 (fun H locs hP hD hS => ?_)
  rw [h_set] at hP
  refine lv_goto (tgt := 14) hx hb dL_row_8 (by decide) ?_
  refine lv_iconst (v := 0) hx hb dL_row_14 (by decide) ?_
  exact W.widen (k := 1) (n := 6) (by decide) (by decide) (W.iret hx hb hr (fun t ht _ => ⟨0, M1, _, rfl, ⟨rfl, h1, rfl⟩, by rw [ht]; exact hP, hS.F ht⟩) hS.2.2 dL_row_15 hlk)
set_option maxHeartbeats 1000000 in
theorem h_row_T (hIX : ti_IXok) {l : Launch} (hst : l.stackTraces = false) {D : va_G} {ca : Nat → ClassId} {ad adV : Nat → Nat} {ao : Nat} {I : Nat → Nat → Int32} {J : Nat → Nat → Int64} {R : Nat → Nat → Value} {f : Nat → Int64} {sz n : Nat} {x : Int32} (hn : I 3 1 = nI n) (hx0 : ix n x = none) :
    Met l yL_row (.codeWith yL_row cL_row 4 (some .int) [(0, 8, 11, 13)] :: ti_T) hrm (va_Pc [.ref (ad 0), .int x, .ref ao] (hBo D ad adV ca ao (I, J, R) f sz)) (hQo D ad ca ao (fun r M1 f1 => r = 1 ∧ M1 = (I, J, R)) (va_A (hWo ad ca ao (I, J, R) f) sz)) 1 6 (va_A (hWo ad ca ao (I, J, R) f) sz) := by
  refine h_met (by decide) rfl ?_
  generalize hM0 : (I, J, R) = M
  intro p e s m below meth c C hsz hZ hT hr hlk htab hP hD
  have hx := C.1
  have hb := C.2.1
  have hS : va_S (va_A (hWo ad ca ao M f) sz) s.heap s.heap [] := va_S.rf
  obtain ⟨hPC, hPo⟩ := x_PL hP
  obtain ⟨hDC, hDo, hDx⟩ := x_DL hD
  have hl := lv_entry ([.ref (ad 0), .int x, .ref ao]) (n := 4) (Nat.le_of_ble_eq_true rfl)
  rw [lg_entry_eq]
  generalize (lg_sl ([.ref (ad 0), .int x, .ref ao]) ++ List.replicate (4 - (lg_sl ([.ref (ad 0), .int x, .ref ao])).length) Slot.unset).toArray = ls at hl ⊢
  have hl : lv_has ls 4 [(0, .ref (ad 0)), (1, .int x), (2, .ref ao)] := hl
  refine lv_aload_n hx hb dL_row_0 rfl (lv_at hl 2 rfl) ?_
  refine lv_iconst (v := 0) hx hb dL_row_1 (by decide) ?_
  refine lv_aload_n hx hb dL_row_2 rfl (lv_at hl 0 rfl) ?_
  refine lv_iload_n hx hb dL_row_3 rfl (lv_at hl 1 rfl) ?_
  subst hM0
  have hthr := t_row hIX (l := l) hst (D := D) (ca := ca) (ad := ad) (adV := adV) (J := J) (R := R) (sz := s.heap.size) hn hx0 (Qc := fun _ _ _ _ => False)
  obtain ⟨hcode, hini, hpl, hycls, hno, hmL, hl1, hl2, hl3, ⟨T0, N0, hcl⟩, hn1⟩ := lw_w_18
  obtain ⟨-, -, hml, hown, hts, hK, hN, hA⟩ := C
  have hF : ∀ q, va_A (ti_ws lyC ad ca (I, J, R)) s.heap.size q → va_A (hWo ad ca ao (I, J, R) f) sz q := by
    intro q hq
    rcases hq with ⟨k, e, hk⟩ | hq
    · exact hDC.2 k _ hk
    · exact Or.inr (by rw [← hsz]; exact hq)
  have hpre : ∀ U : State, U.heap = s.heap → s.WarmedH U.vm → tB D ad adV ca (I, J, R) s.heap.size U := by
    intro U hU hW
    refine ⟨⟨by rw [hU], by rw [hU]; exact hPC, va_K.moved hW.alike hK, hDC.weaken (fun _ _ _ _ => trivial), ti_Nw_warm hW hN, vk_R.warm hW hZ.1, ?_⟩, ?_⟩
    · rw [hU]
      exact ti_Z2.moved hW.alike (hZ.2.narrow hF)
    · rw [hU]
      exact tT.warm hW (hT.narrow hF)
  have hrun := vx_runV (R := hrm) (H := s.heap) (locs := []) (cells := 0) (slots := 0) (below := below) (meth := meth) (e := e) (g := F0 m 4 ls (([.int x] : List Value).reverse ++ .ref (ad 0) :: [.int 0, .ref ao])) (As := [.int x]) (rest := [.int 0, .ref ao]) ⟨hx, hb, hml, hown, hts⟩ hthr
    (cwV 1 hts (fun w hw => by
      rcases List.mem_append.mp hw with hw | hw
      · simp only [List.mem_cons, List.not_mem_nil, or_false] at hw
        rcases hw with rfl | rfl | rfl | rfl
        · exact ⟨hl1, ti_Tgood hl1⟩
        · exact ⟨hl2, ti_Tgood hl2⟩
        · exact ⟨hl3, ti_Tgood hl3⟩
        · exact ⟨hini, ti_Tgood hini⟩
      · exact ti_good hcode w hw) rfl rfl rfl ⟨rfl, hno.1, hno.2, hn1⟩ (by decide)) ⟨t_blind, va_recv hK hPC hcl (ti_ws_at (e := .inl (11, fd0)) rfl), fun U hU hW => ⟨rfl, hpre U hU hW⟩⟩ rfl rfl hl.1 rfl (Nat.le_of_ble_eq_true rfl) dL_row_4 ⟨by decide, by decide⟩
  intro T hTh X
  rcases hrun T hTh X with ⟨v, st₀, t, T', L, h0, X', hL, e1, e2, hq, st⟩ | ⟨q, st₀, t, T', L, E, ce, h0, X', hL, e1, e2, ⟨rfl, hP2, hz, hk⟩, hce, hcv, hcl2, st⟩
  · exact hq.elim
  · rw [h0] at hz hk
    have hS2 : va_S (va_A (hWo ad ca ao (I, J, R) f) sz) s.heap T'.heap ([] ++ L) := ⟨by rw [e1]; exact hz, fun q h1 h2 => by rw [e1]; exact hk q h1 (fun z => h2 (hF q z)), fun q hq => hF _ (hL q hq)⟩
    have hPo1 : va_P D vwCl [(ao, .inl (ca 4, 1, .inr (.inl f)))] T'.heap := hPo.kept (fun k q hq => by
      rw [e1]
      exact hk _ ((hPo k q hq).lt) (ti_nA (fun i hi he => by
        obtain ⟨e9, h9⟩ := ti_ws_in (ad := ad) (ca := ca) (M := (I, J, R)) hi
        exact hDx i k _ _ h9 hq he) ((hPo k q hq).lt)))
    have hPj : va_P D vwCl (hWo ad ca ao (I, J, R) f) T'.heap := va_P.app (by rw [e1]; exact hP2) hPo1
    have key : vx_W p l e hrm s m ([.ref (ad 0), .int x, .ref ao] : List Value).toArray below meth c T'.heap ([] ++ L) (0 + 1) (0 + 6) (MQ below (hQo D ad ca ao (fun r M1 f1 => r = 1 ∧ M1 = (I, J, R)) (va_A (hWo ad ca ao (I, J, R) f) sz)) ([.ref (ad 0), .int x, .ref ao] : List Value).toArray s 1 6 (va_A (hWo ad ca ao (I, J, R) f) sz)) (F0 m 4 ls [.int 0, .ref ao]) q := by
      refine vx_catch (name := RE) hown [] _ [] htab (fun z hz => nomatch hz) rfl (by decide) (hts _ tW_law) (va_Nw.use rfl (hT.1 _ tW_castE)) (by rw [e1]; exact hce) hcv hcl2 ?_
      refine lv_astore_n (lv' := [(3, .ref q), (0, .ref (ad 0)), (1, .int x), (2, .ref ao)]) hx hb dL_row_11 rfl hl (by decide) rfl (fun ls hl => ?_)
      refine lv_iconst (v := 1) hx hb dL_row_12 (by decide) ?_
      exact W.iret hx hb hr (fun t ht _ => ⟨1, (I, J, R), f, rfl, ⟨rfl, rfl⟩, by rw [ht]; exact hPj, hS2.F ht⟩) hS2.2.2 dL_row_13 hlk
    obtain ⟨t2, a1, b1⟩ := key T' rfl X'
    exact ⟨t2, st.trans a1, b1⟩
