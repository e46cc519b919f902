/-! the law begins: what it makes -/
theorem xl_c_11 : Cond.classLink RL 8 RX11 ∈ ti_T := ti_in 112 (by decide +kernel) (by decide +kernel)
theorem xl_n_11 : Cond.instantiable RX11 13 ∈ ti_T := ti_in 113 (by decide +kernel) (by decide +kernel)
theorem xl_i_11 : Cond.initialized RX11 ∈ ti_T := ti_in 87 (by decide +kernel) (by decide +kernel)
theorem xl_m_11 : x_MOK RL 22 1 0 cX11_init yX11_init := ⟨ti_in 116 (by decide +kernel) (by decide +kernel), xl_i_11, ⟨by decide +kernel, by decide +kernel⟩, by decide, rfl, ti_in 115 (by decide +kernel) (by decide +kernel), by decide +kernel, Or.inl (ti_in 114 (by decide +kernel) (by decide +kernel))⟩
theorem xl_c_12 : Cond.classLink RL 23 RX12 ∈ ti_T := ti_in 1387 (by decide +kernel) (by decide +kernel)
theorem xl_n_12 : Cond.instantiable RX12 43 ∈ ti_T := ti_in 1388 (by decide +kernel) (by decide +kernel)
theorem xl_i_12 : Cond.initialized RX12 ∈ ti_T := ti_in 99 (by decide +kernel) (by decide +kernel)
theorem xl_m_12 : x_MOK RL 25 1 0 cX12_init yX12_init := ⟨ti_in 1391 (by decide +kernel) (by decide +kernel), xl_i_12, ⟨by decide +kernel, by decide +kernel⟩, by decide, rfl, ti_in 1390 (by decide +kernel) (by decide +kernel), by decide +kernel, Or.inl (ti_in 1389 (by decide +kernel) (by decide +kernel))⟩
theorem x_PL {D : va_G} {cl : List vw_C} {X Y : va_W} {H : Heap} (h : va_P D cl (X ++ Y) H) : va_P D cl X H ∧ va_P D cl Y H := ⟨fun k q hk => h k q (by rw [List.getElem?_append_left (List.getElem?_eq_some_iff.mp hk).1]; exact hk), fun k q hk => h (X.length + k) q (by rw [List.getElem?_append_right (Nat.le_add_right _ _), Nat.add_sub_cancel_left]; exact hk)⟩
theorem x_DL {A : Nat → Prop} {X Y : va_W} (h : va_D A (X ++ Y)) : va_D A X ∧ va_D A Y ∧ ∀ (i j : Nat) (p q : Nat × va_E), X[i]? = some p → Y[j]? = some q → p.1 ≠ q.1 := by
  have hl : ∀ (k : Nat) (q : Nat × va_E), X[k]? = some q → (X ++ Y)[k]? = some q := fun k q hk => by rw [List.getElem?_append_left (List.getElem?_eq_some_iff.mp hk).1]; exact hk
  have hr : ∀ (k : Nat) (q : Nat × va_E), Y[k]? = some q → (X ++ Y)[X.length + k]? = some q := fun k q hk => by rw [List.getElem?_append_right (Nat.le_add_right _ _), Nat.add_sub_cancel_left]; exact hk
  refine ⟨⟨fun i j p q hi hj e => h.1 i j p q (hl i p hi) (hl j q hj) e, fun k q hk => h.2 k q (hl k q hk)⟩, ⟨fun i j p q hi hj e => ?_, fun k q hk => h.2 _ q (hr k q hk)⟩, fun i j p q hi hj e => ?_⟩
  · have := h.1 _ _ p q (hr i p hi) (hr j q hj) e
    omega
  · have h1 := h.1 _ _ p q (hl i p hi) (hr j q hj) e
    have h2 := (List.getElem?_eq_some_iff.mp hi).1
    omega
theorem ti_ws_in {lay : List TE} {ad : Nat → Nat} {ca : Nat → ClassId} {M : TM} {i : Nat} (h : i < lay.length) : ∃ e, (ti_ws lay ad ca M)[i]? = some (ad i, e) := by
  rw [ti_ws_get, List.getElem?_eq_getElem h]
  exact ⟨_, rfl⟩
theorem x_LA {A : Nat → Prop} {adC adM : Nat → Nat} {ca : Nat → ClassId} {MC MM : TM} {ao : Nat} {e : va_E} (h : va_D A ((ti_ws lyC adC ca MC ++ ti_ws lyM adM ca MM) ++ [(ao, e)])) : LA A adC adM ao := by
  obtain ⟨h1, h2, h3⟩ := x_DL h
  obtain ⟨h4, h5, h6⟩ := x_DL h1
  have inC : ∀ i, i < 73 → ∃ e, (ti_ws lyC adC ca MC)[i]? = some (adC i, e) := fun i hi => ti_ws_in (by rw [lyC_len]; exact hi)
  have inM : ∀ i, i < 25 → ∃ e, (ti_ws lyM adM ca MM)[i]? = some (adM i, e) := fun i hi => ti_ws_in (by rw [lyM_len]; exact hi)
  have lf : ∀ i q, (ti_ws lyC adC ca MC)[i]? = some q → (ti_ws lyC adC ca MC ++ ti_ws lyM adM ca MM)[i]? = some q := fun k q hk => by rw [List.getElem?_append_left (List.getElem?_eq_some_iff.mp hk).1]; exact hk
  have rt : ∀ i q, (ti_ws lyM adM ca MM)[i]? = some q → (ti_ws lyC adC ca MC ++ ti_ws lyM adM ca MM)[(ti_ws lyC adC ca MC).length + i]? = some q := fun k q hk => by rw [List.getElem?_append_right (Nat.le_add_right _ _), Nat.add_sub_cancel_left]; exact hk
  refine ⟨fun i j hi hj he => ?_, fun i j hi hj he => ?_, fun i j hi hj he => ?_, fun i hi he => ?_, fun i hi he => ?_, fun i hi => ?_, fun i hi => ?_, h2.2 0 _ rfl⟩
  · obtain ⟨a1, a2⟩ := inC i hi
    obtain ⟨b1, b2⟩ := inC j hj
    exact h4.1 i j _ _ a2 b2 he
  · obtain ⟨a1, a2⟩ := inM i hi
    obtain ⟨b1, b2⟩ := inM j hj
    exact h5.1 i j _ _ a2 b2 he
  · obtain ⟨a1, a2⟩ := inC i hi
    obtain ⟨b1, b2⟩ := inM j hj
    exact h6 i j _ _ a2 b2 he
  · obtain ⟨a1, a2⟩ := inC i hi
    exact h3 _ 0 _ _ (lf _ _ a2) rfl he
  · obtain ⟨a1, a2⟩ := inM i hi
    exact h3 _ 0 _ _ (rt _ _ a2) rfl he
  · obtain ⟨a1, a2⟩ := inC i hi
    exact h4.2 i _ a2
  · obtain ⟨a1, a2⟩ := inM i hi
    exact h5.2 i _ a2
set_option maxHeartbeats 4000000 in
/-- from the law's entry to its loop's end -/
theorem lw_begin {p : Program} {l : Launch} {e : Env} {s : State} {m : MethodId} {args : Array Value} {below : List Frame} {meth : Method} {c : Code} {Q : State → Prop} {D : va_G} {ca : Nat → ClassId} {adV : Nat → Nat} {b L : Nat} {xs : Nat → Int32} {Th : Launch → Array Value → State → (Nat → Prop) → Prop} {ls : Array Slot} {sa : Nat} (hIX : ti_IXok) (h6 : lw_Case Th 358) (h7 : lw_Case Th 426) (h50 : lw_Case Th 1388) (hT : Th l args s (fun q => s.heap.size ≤ q)) (C : lw_Cx p s m args c cL_law 8 RL D ca (fun q => s.heap.size ≤ q)) (hAO : va_AO RX7 s)
    (hZ : vk_R RX5 84 "sthxnci" sa s ∧ ti_Z2 (fun _ => sa) adV (fun q => s.heap.size ≤ q) s s.heap) (hX : va_X b L xs s s.heap) (hbl : b < s.heap.size) (hL : L ≤ 2560) (hl : lv_has ls 8 [(0, .ref b)])
    (kE : ∀ (H : Heap) (locs : List Loc) (ls : Array Slot), va_S (fun q => s.heap.size ≤ q) s.heap H locs → W p l e room_1 s m args below meth c H locs (99 + 513) (1922 + 6 * 513) Q (F0 m 1449 ls [])) : W p l e room_1 s m args below meth c s.heap [] 0 0 Q (F0 m 0 ls []) := by
  have hx := C.1
  have hb := C.2.1
  have hP : va_P D vwCl [] s.heap := fun k q hk => by cases hk
  have hD : va_D (fun q => s.heap.size ≤ q) [] := ⟨fun i j p q hi => (by cases hi), fun k q hk => (by cases hk)⟩
  have hS : va_S (fun q => s.heap.size ≤ q) s.heap s.heap [] := va_S.rf
  refine x_new (fs := [.null, .null, .null, .null, .null, .null, .null, .null, .null, .null, .null, .null, .null]) C hP hD hS (ci := 11) rfl tyX11 tyX11_ok xl_c_11 xl_n_11 xl_i_11 x_df_11 (by decide) (by decide) dL_law_0 (fun qx H hP hD hS => ?_)
  refine lv_dup hx hb dL_law_3 rfl ?_
  refine x_call (x := (qx, .inr (11, [.null, .null, .null, .null, .null, .null, .null, .null, .null, .null, .null, .null, .null]))) (As := []) (rest := [.ref qx]) C hAO hl.1 hP hD hS xl_m_11 (nM_11 l D ca qx) rfl (Nat.le_of_ble_eq_true rfl) (by decide) (by decide) (by decide) (by decide) dL_law_4 (fun g1 H locs hP hD hS => ?_)
  refine lv_astore_n (lv' := [(1, .ref qx), (0, .ref b)]) hx hb dL_law_7 rfl hl (by decide) rfl (fun ls hl => ?_)
  have hP := nw_11_P sa (show va_P D vwCl (nw_11 ca qx g1) H from hP)
  have hD := nw_11_D sa (show va_D (fun q => s.heap.size ≤ q) (nw_11 ca qx g1) from hD)
  refine x_new (fs := [.null, .int 0, .null, .int 0, .null, .null, .int 0, .null, .null, .int 0, .null, .int 0, .int 0, .null, .int 0, .int 0, .int 0, .int 0, .null, .null, .null, .int 0, .int 0, .null, .null, .int 0, .null, .null, .null, .null, .null, .null, .null, .int 0, .null, .int 0, .null, .int 0, .int 0, .int 0, .null, .null, .null]) C hP hD hS (ci := 12) rfl tyX12 tyX12_ok xl_c_12 xl_n_12 xl_i_12 x_df_12 (by decide) (by decide) dL_law_8 (fun qm H hP hD hS => ?_)
  refine lv_dup hx hb dL_law_11 rfl ?_
  refine x_call (x := (qm, .inr (12, [.null, .int 0, .null, .int 0, .null, .null, .int 0, .null, .null, .int 0, .null, .int 0, .int 0, .null, .int 0, .int 0, .int 0, .int 0, .null, .null, .null, .int 0, .int 0, .null, .null, .int 0, .null, .null, .null, .null, .null, .null, .null, .int 0, .null, .int 0, .null, .int 0, .int 0, .int 0, .null, .null, .null]))) (As := []) (rest := [.ref qm]) C hAO hl.1 hP hD hS xl_m_12 (nM_12 l D ca qm) rfl (Nat.le_of_ble_eq_true rfl) (by decide) (by decide) (by decide) (by decide) dL_law_12 (fun g2 H locs hP hD hS => ?_)
  refine lv_astore_n (lv' := [(2, .ref qm), (1, .ref qx), (0, .ref b)]) hx hb dL_law_15 rfl hl (by decide) rfl (fun ls hl => ?_)
  rw [nw_12_ws ca sa qm g2] at hP hD
  refine lv_iconst (v := 1) hx hb dL_law_16 (by decide) ?_
  refine x_newa (a0 := (1, .inr (.inl (fun _ => 0)))) (atype := .long) (ty := .long) C hP hD hS rfl xw_a_long 4 rfl (fun _ => rfl) (by decide) (by decide) (by decide) (by decide) (by decide) dL_law_17 (fun ao H hP hD hS => ?_)
  refine lv_astore_n (lv' := [(3, .ref ao), (2, .ref qm), (1, .ref qx), (0, .ref b)]) hx hb dL_law_19 rfl hl (by decide) rfl (fun ls hl => ?_)
  refine lv_iconst (v := 0) hx hb dL_law_20 (by decide) ?_
  refine lv_istore (lv' := [(4, .int 0), (3, .ref ao), (2, .ref qm), (1, .ref qx), (0, .ref b)]) hx hb dL_law_21 hl (by decide) rfl (fun ls hl => ?_)
  have hA := x_LA hD
  obtain ⟨p1, p3⟩ := x_PL hP
  obtain ⟨p1, p2⟩ := x_PL p1
  have hbA : ¬ s.heap.size ≤ b := by omega
  refine W.widen (k := 99) (n := 1922) (by decide) (by decide) ?_
  exact lw_loop hIX h6 h7 h50 hT (adC := adC0 sa qx g1) (adM := adM0 sa qm g2) (ao := ao) (adV := adV) (b := b) (L := L) (xs := xs) ⟨C, hZ, hZ, hA, hX, hbl, hbA, hL⟩ 99 1922 (by decide) (by decide) kE L 0 0 H locs (IC0, JC0, RC0) (KM0, JC0, SM0) (fun _ => 0) ls (by omega) (by omega) (Nat.le_refl _) (lv_sub hl [4, 3, 2, 1, 0] rfl) ⟨p1, p2, p3⟩ hS REL_0
