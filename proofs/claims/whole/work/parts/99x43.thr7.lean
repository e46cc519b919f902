/-! the law's three cases that may throw -/
def lw_Th (l : Launch) (_ : Array Value) (s : State) (A : Nat → Prop) : Prop := l.stackTraces = false ∧ tT A s s.heap
theorem lg_self (x : Int64) : lg_cmp x x = 0 := by
  unfold lg_cmp
  simp
theorem c_thrown {I : Nat → Nat → Int32} {J : Nat → Nat → Int64} {R : Nat → Nat → Value} {d : Nat} : Cal lyM d hX12_thrown 1 [.ref 0] (I, J, R) (fun r M' => r = some (.int (I 0 12)) ∧ M' = (I, J, R)) := by
  show Ev lyM d hX12_thrown 0 [some (.ref 0)] [] (I, J, R) _
  refine ev_st dX12_thrown_0 rfl rfl ?_
  refine ev_getI (v := I 0 12) dX12_thrown_1 fr_12_89 rfl rfl rfl ?_
  exact ev_iret dX12_thrown_4 rfl (⟨rfl, rfl⟩)
theorem lw_long {lay : List TE} {d mL : Nat} {h : TH} {vs : List Value} {M : TM} {v : Value} {Q : TM → Prop} (k : Cal lay d h mL vs M (fun r M => r = some v ∧ Q M)) (hk : h.2.2 = some .long) : ∃ x, v = .long x := by
  obtain ⟨f, r, M1, hx, rfl, -⟩ := k
  obtain ⟨x, hx⟩ := (lw_kind _ _ _ _ _ _ _ _ _ hx).2 hk
  exact ⟨x, Option.some.inj hx⟩
set_option maxHeartbeats 1000000 in
theorem lc_bearer (hIX : ti_IXok) : lw_Case lw_Th 358 := by
  intro p l e s m args below meth c H locs cells slots Q D ca adC adM adV ao A MC MM fo ls b L i k xs hTh K hl hi hI hS hrel hk hce hsl kk
  obtain ⟨hst, hT⟩ := hTh
  have hx := K.1.1
  have hb := K.1.2.1
  obtain ⟨I, J, R⟩ := MC
  obtain ⟨K9, L9, S9⟩ := MM
  have hBt : Bt hX11_bearer 3 hX12_bearer 3 [.int (xs (i + 1)), .int (xs (i + 2))] k (I, J, R) (K9, L9, S9) (∃ n, I 8 3 = nI n ∧ ¬ ((ix n (xs (i + 1))).isSome = true ∧ m_in (xs (i + 2)) 0 4 = 1)) := by
    obtain ⟨n, c, ns, a, p, q, z, rs, u, x, m, no, nc, N, ce, rv, t, h⟩ := hrel
    rcases bt_bearer h (xs (i + 1)) (xs (i + 2)) with h1 | ⟨h1, h2⟩
    · exact Or.inl h1
    · exact Or.inr ⟨⟨_, h1⟩, h2⟩
  refine lv_aload_n hx hb dL_law_358 rfl (lv_at hl 1 rfl) ?_
  refine lw_arg K hl hS 1 rfl (by decide) hi dL_law_359 dL_law_360 dL_law_362 dL_law_363 dL_law_364 ?_
  refine lw_arg K hl hS 2 rfl (by decide) hi dL_law_365 dL_law_366 dL_law_368 dL_law_369 dL_law_370 ?_
  refine lv_aload_n hx hb dL_law_371 rfl (lv_at hl 3 rfl) ?_
  rcases hBt with ⟨v, QC, QM, c1, c2, hR⟩ | ⟨⟨n, t1, t2⟩, v, c2⟩
  · obtain ⟨v, rfl⟩ := lw_int c1 (Or.inl rfl)
    refine lw_cH (n := 4) (vs := [.ref (adC 0), .int (xs (i + 1)), .int (xs (i + 2)), .ref ao]) (rest := []) K.1 K.2.1 hT K.2.2.2.1 hl.1 lw_h_bearer rfl (by decide +kernel) (by decide) (fun sz => h_bearer_R hIX c1) hI hS rfl (by decide) (by decide) (by decide) hce hsl dL_law_372 (fun H locs r M1 f1 hq hI hS => ?_)
    obtain ⟨rfl, h1, hf⟩ := hq
    refine lv_istore (lv' := [(5, .int 0), (0, .ref b), (1, .ref (adC 0)), (2, .ref (adM 0)), (3, .ref ao), (4, .int (nI i))]) hx hb dL_law_375 hl (by decide) rfl (fun ls hl => ?_)
    have hl0 := lv_sub hl (l' := lw_ls b adC adM ao i) [1, 2, 3, 4, 5] rfl
    refine lv_aload_n hx hb dL_law_377 rfl (lv_at hl0 2 rfl) ?_
    refine lw_arg K hl0 hS 1 rfl (by decide) hi dL_law_378 dL_law_379 dL_law_381 dL_law_382 dL_law_383 ?_
    refine lw_arg K hl0 hS 2 rfl (by decide) hi dL_law_384 dL_law_385 dL_law_387 dL_law_388 dL_law_389 ?_
    refine lw_cM (vs := [.int (xs (i + 1)), .int (xs (i + 2))]) (rest := []) hIX K.1 K.2.2.1 K.2.2.2.1 hl.1 lw_w_58 rfl c2 hI hS rfl (Nat.le_of_ble_eq_true rfl) rfl (by decide) (by decide) (by decide) hce hsl dL_law_390 (fun H locs r M2 h2 hI hS => ?_)
    obtain ⟨rfl, h2⟩ := h2
    obtain ⟨hrel2, h12⟩ := hR _ _ h1 h2
    refine lv_istore (lv' := [(6, .int v), (5, .int 0), (0, .ref b), (1, .ref (adC 0)), (2, .ref (adM 0)), (3, .ref ao), (4, .int (nI i))]) hx hb dL_law_393 hl (by decide) rfl (fun ls hl => ?_)
    refine lv_aload_n hx hb dL_law_395 rfl (lv_at hl 4 rfl) ?_
    refine lw_cM (vs := []) (rest := []) hIX K.1 K.2.2.1 K.2.2.2.1 hl.1 lw_w_59 rfl (c_thrown (d := 120) (I := M2.1) (J := M2.2.1) (R := M2.2.2)) hI hS rfl (Nat.le_of_ble_eq_true rfl) rfl (by decide) (by decide) (by decide) hce hsl dL_law_396 (fun H locs r M3 h3 hI hS => ?_)
    obtain ⟨rfl, rfl⟩ := h3
    refine lv_iload hx hb dL_law_399 (lv_at hl 1 rfl) ?_
    refine lv_icmp_eq (tgt := 406) hx hb dL_law_401 (by decide) (fun _ => ?_) (fun z => absurd h12 z)
    refine lv_iload hx hb dL_law_406 (lv_at hl 1 rfl) ?_
    refine lv_if_ne (tgt := 423) hx hb dL_law_408 (by decide) (fun z => absurd rfl z) (fun _ => ?_)
    refine lv_aload_n hx hb dL_law_411 rfl (lv_at hl 5 rfl) ?_
    refine lv_iconst (v := 0) hx hb dL_law_412 (by decide) ?_
    refine va_lald hx hb K.1.2.2.2.2.2.1 hI.2.2 0 4 rfl rfl (show vp_in 0 1 from by unfold vp_in; decide) dL_law_413 ?_
    refine lv_iload hx hb dL_law_414 (lv_at hl 0 rfl) ?_
    refine lv_i2l (v := v.toInt64) hx hb dL_law_416 rfl ?_
    rw [show f1 (0 : Int32).toNatClampNeg = v.toInt64 from hf]
    refine W.lcmp hx hb dL_law_417 ?_
    rw [lg_self]
    refine lv_if_eq (tgt := 423) hx hb dL_law_418 (by decide) (fun _ => ?_) (fun z => absurd rfl z)
    exact (lv_goto (tgt := 1443) hx hb dL_law_423 (by decide) (kk _ _ _ _ _ _ (lv_sub hl (l' := lw_ls b adC adM ao i) [2, 3, 4, 5, 6] rfl) hrel2 hI hS))
  · obtain ⟨v, rfl⟩ := lw_int c2 (Or.inl rfl)
    refine lw_cH (n := 4) (vs := [.ref (adC 0), .int (xs (i + 1)), .int (xs (i + 2)), .ref ao]) (rest := []) K.1 K.2.1 hT K.2.2.2.1 hl.1 lw_h_bearer rfl (by decide +kernel) (by decide) (fun sz => h_bearer_T hIX hst t1 t2) hI hS rfl (by decide) (by decide) (by decide) hce hsl dL_law_372 (fun H locs r M1 f1 hq hI hS => ?_)
    obtain ⟨rfl, rfl⟩ := hq
    refine lv_istore (lv' := [(5, .int 1), (0, .ref b), (1, .ref (adC 0)), (2, .ref (adM 0)), (3, .ref ao), (4, .int (nI i))]) hx hb dL_law_375 hl (by decide) rfl (fun ls hl => ?_)
    have hl0 := lv_sub hl (l' := lw_ls b adC adM ao i) [1, 2, 3, 4, 5] rfl
    refine lv_aload_n hx hb dL_law_377 rfl (lv_at hl0 2 rfl) ?_
    refine lw_arg K hl0 hS 1 rfl (by decide) hi dL_law_378 dL_law_379 dL_law_381 dL_law_382 dL_law_383 ?_
    refine lw_arg K hl0 hS 2 rfl (by decide) hi dL_law_384 dL_law_385 dL_law_387 dL_law_388 dL_law_389 ?_
    refine lw_cM (vs := [.int (xs (i + 1)), .int (xs (i + 2))]) (rest := []) hIX K.1 K.2.2.1 K.2.2.2.1 hl.1 lw_w_58 rfl c2 hI hS rfl (Nat.le_of_ble_eq_true rfl) rfl (by decide) (by decide) (by decide) hce hsl dL_law_390 (fun H locs r M2 h2 hI hS => ?_)
    obtain ⟨rfl, h2⟩ := h2
    obtain ⟨hrel2, h12⟩ := h2
    refine lv_istore (lv' := [(6, .int v), (5, .int 1), (0, .ref b), (1, .ref (adC 0)), (2, .ref (adM 0)), (3, .ref ao), (4, .int (nI i))]) hx hb dL_law_393 hl (by decide) rfl (fun ls hl => ?_)
    refine lv_aload_n hx hb dL_law_395 rfl (lv_at hl 4 rfl) ?_
    refine lw_cM (vs := []) (rest := []) hIX K.1 K.2.2.1 K.2.2.2.1 hl.1 lw_w_59 rfl (c_thrown (d := 120) (I := M2.1) (J := M2.2.1) (R := M2.2.2)) hI hS rfl (Nat.le_of_ble_eq_true rfl) rfl (by decide) (by decide) (by decide) hce hsl dL_law_396 (fun H locs r M3 h3 hI hS => ?_)
    obtain ⟨rfl, rfl⟩ := h3
    refine lv_iload hx hb dL_law_399 (lv_at hl 1 rfl) ?_
    refine lv_icmp_eq (tgt := 406) hx hb dL_law_401 (by decide) (fun _ => ?_) (fun z => absurd h12 z)
    refine lv_iload hx hb dL_law_406 (lv_at hl 1 rfl) ?_
    refine lv_if_ne (tgt := 423) hx hb dL_law_408 (by decide) (fun _ => ?_) (fun z => absurd z (by decide))
    exact (lv_goto (tgt := 1443) hx hb dL_law_423 (by decide) (kk _ _ _ _ _ _ (lv_sub hl (l' := lw_ls b adC adM ao i) [2, 3, 4, 5, 6] rfl) hrel2 hI hS))
set_option maxHeartbeats 1000000 in
theorem lc_saying (hIX : ti_IXok) : lw_Case lw_Th 426 := by
  intro p l e s m args below meth c H locs cells slots Q D ca adC adM adV ao A MC MM fo ls b L i k xs hTh K hl hi hI hS hrel hk hce hsl kk
  obtain ⟨hst, hT⟩ := hTh
  have hx := K.1.1
  have hb := K.1.2.1
  obtain ⟨I, J, R⟩ := MC
  obtain ⟨K9, L9, S9⟩ := MM
  have hBt : Bt hX11_saying 3 hX12_saying 3 [.int (xs (i + 1)), .int (xs (i + 2))] k (I, J, R) (K9, L9, S9) (∃ n, I 11 4 = nI n ∧ ¬ ((ix n (xs (i + 1))).isSome = true ∧ m_in (xs (i + 2)) 0 5 = 1)) := by
    obtain ⟨n, c, ns, a, p, q, z, rs, u, x, m, no, nc, N, ce, rv, t, h⟩ := hrel
    rcases bt_saying h (xs (i + 1)) (xs (i + 2)) with h1 | ⟨h1, h2⟩
    · exact Or.inl h1
    · exact Or.inr ⟨⟨_, h1⟩, h2⟩
  refine lv_aload_n hx hb dL_law_426 rfl (lv_at hl 1 rfl) ?_
  refine lw_arg K hl hS 1 rfl (by decide) hi dL_law_427 dL_law_428 dL_law_430 dL_law_431 dL_law_432 ?_
  refine lw_arg K hl hS 2 rfl (by decide) hi dL_law_433 dL_law_434 dL_law_436 dL_law_437 dL_law_438 ?_
  refine lv_aload_n hx hb dL_law_439 rfl (lv_at hl 3 rfl) ?_
  rcases hBt with ⟨v, QC, QM, c1, c2, hR⟩ | ⟨⟨n, t1, t2⟩, v, c2⟩
  · obtain ⟨v, rfl⟩ := lw_int c1 (Or.inl rfl)
    refine lw_cH (n := 4) (vs := [.ref (adC 0), .int (xs (i + 1)), .int (xs (i + 2)), .ref ao]) (rest := []) K.1 K.2.1 hT K.2.2.2.1 hl.1 lw_h_saying rfl (by decide +kernel) (by decide) (fun sz => h_saying_R hIX c1) hI hS rfl (by decide) (by decide) (by decide) hce hsl dL_law_440 (fun H locs r M1 f1 hq hI hS => ?_)
    obtain ⟨rfl, h1, hf⟩ := hq
    refine lv_istore (lv' := [(5, .int 0), (0, .ref b), (1, .ref (adC 0)), (2, .ref (adM 0)), (3, .ref ao), (4, .int (nI i))]) hx hb dL_law_443 hl (by decide) rfl (fun ls hl => ?_)
    have hl0 := lv_sub hl (l' := lw_ls b adC adM ao i) [1, 2, 3, 4, 5] rfl
    refine lv_aload_n hx hb dL_law_445 rfl (lv_at hl0 2 rfl) ?_
    refine lw_arg K hl0 hS 1 rfl (by decide) hi dL_law_446 dL_law_447 dL_law_449 dL_law_450 dL_law_451 ?_
    refine lw_arg K hl0 hS 2 rfl (by decide) hi dL_law_452 dL_law_453 dL_law_455 dL_law_456 dL_law_457 ?_
    refine lw_cM (vs := [.int (xs (i + 1)), .int (xs (i + 2))]) (rest := []) hIX K.1 K.2.2.1 K.2.2.2.1 hl.1 lw_w_64 rfl c2 hI hS rfl (Nat.le_of_ble_eq_true rfl) rfl (by decide) (by decide) (by decide) hce hsl dL_law_458 (fun H locs r M2 h2 hI hS => ?_)
    obtain ⟨rfl, h2⟩ := h2
    obtain ⟨hrel2, h12⟩ := hR _ _ h1 h2
    refine lv_istore (lv' := [(6, .int v), (5, .int 0), (0, .ref b), (1, .ref (adC 0)), (2, .ref (adM 0)), (3, .ref ao), (4, .int (nI i))]) hx hb dL_law_461 hl (by decide) rfl (fun ls hl => ?_)
    refine lv_aload_n hx hb dL_law_463 rfl (lv_at hl 4 rfl) ?_
    refine lw_cM (vs := []) (rest := []) hIX K.1 K.2.2.1 K.2.2.2.1 hl.1 lw_w_59 rfl (c_thrown (d := 120) (I := M2.1) (J := M2.2.1) (R := M2.2.2)) hI hS rfl (Nat.le_of_ble_eq_true rfl) rfl (by decide) (by decide) (by decide) hce hsl dL_law_464 (fun H locs r M3 h3 hI hS => ?_)
    obtain ⟨rfl, rfl⟩ := h3
    refine lv_iload hx hb dL_law_467 (lv_at hl 1 rfl) ?_
    refine lv_icmp_eq (tgt := 474) hx hb dL_law_469 (by decide) (fun _ => ?_) (fun z => absurd h12 z)
    refine lv_iload hx hb dL_law_474 (lv_at hl 1 rfl) ?_
    refine lv_if_ne (tgt := 491) hx hb dL_law_476 (by decide) (fun z => absurd rfl z) (fun _ => ?_)
    refine lv_aload_n hx hb dL_law_479 rfl (lv_at hl 5 rfl) ?_
    refine lv_iconst (v := 0) hx hb dL_law_480 (by decide) ?_
    refine va_lald hx hb K.1.2.2.2.2.2.1 hI.2.2 0 4 rfl rfl (show vp_in 0 1 from by unfold vp_in; decide) dL_law_481 ?_
    refine lv_iload hx hb dL_law_482 (lv_at hl 0 rfl) ?_
    refine lv_i2l (v := v.toInt64) hx hb dL_law_484 rfl ?_
    rw [show f1 (0 : Int32).toNatClampNeg = v.toInt64 from hf]
    refine W.lcmp hx hb dL_law_485 ?_
    rw [lg_self]
    refine lv_if_eq (tgt := 491) hx hb dL_law_486 (by decide) (fun _ => ?_) (fun z => absurd rfl z)
    exact (lv_goto (tgt := 1443) hx hb dL_law_491 (by decide) (kk _ _ _ _ _ _ (lv_sub hl (l' := lw_ls b adC adM ao i) [2, 3, 4, 5, 6] rfl) hrel2 hI hS))
  · obtain ⟨v, rfl⟩ := lw_int c2 (Or.inl rfl)
    refine lw_cH (n := 4) (vs := [.ref (adC 0), .int (xs (i + 1)), .int (xs (i + 2)), .ref ao]) (rest := []) K.1 K.2.1 hT K.2.2.2.1 hl.1 lw_h_saying rfl (by decide +kernel) (by decide) (fun sz => h_saying_T hIX hst t1 t2) hI hS rfl (by decide) (by decide) (by decide) hce hsl dL_law_440 (fun H locs r M1 f1 hq hI hS => ?_)
    obtain ⟨rfl, rfl⟩ := hq
    refine lv_istore (lv' := [(5, .int 1), (0, .ref b), (1, .ref (adC 0)), (2, .ref (adM 0)), (3, .ref ao), (4, .int (nI i))]) hx hb dL_law_443 hl (by decide) rfl (fun ls hl => ?_)
    have hl0 := lv_sub hl (l' := lw_ls b adC adM ao i) [1, 2, 3, 4, 5] rfl
    refine lv_aload_n hx hb dL_law_445 rfl (lv_at hl0 2 rfl) ?_
    refine lw_arg K hl0 hS 1 rfl (by decide) hi dL_law_446 dL_law_447 dL_law_449 dL_law_450 dL_law_451 ?_
    refine lw_arg K hl0 hS 2 rfl (by decide) hi dL_law_452 dL_law_453 dL_law_455 dL_law_456 dL_law_457 ?_
    refine lw_cM (vs := [.int (xs (i + 1)), .int (xs (i + 2))]) (rest := []) hIX K.1 K.2.2.1 K.2.2.2.1 hl.1 lw_w_64 rfl c2 hI hS rfl (Nat.le_of_ble_eq_true rfl) rfl (by decide) (by decide) (by decide) hce hsl dL_law_458 (fun H locs r M2 h2 hI hS => ?_)
    obtain ⟨rfl, h2⟩ := h2
    obtain ⟨hrel2, h12⟩ := h2
    refine lv_istore (lv' := [(6, .int v), (5, .int 1), (0, .ref b), (1, .ref (adC 0)), (2, .ref (adM 0)), (3, .ref ao), (4, .int (nI i))]) hx hb dL_law_461 hl (by decide) rfl (fun ls hl => ?_)
    refine lv_aload_n hx hb dL_law_463 rfl (lv_at hl 4 rfl) ?_
    refine lw_cM (vs := []) (rest := []) hIX K.1 K.2.2.1 K.2.2.2.1 hl.1 lw_w_59 rfl (c_thrown (d := 120) (I := M2.1) (J := M2.2.1) (R := M2.2.2)) hI hS rfl (Nat.le_of_ble_eq_true rfl) rfl (by decide) (by decide) (by decide) hce hsl dL_law_464 (fun H locs r M3 h3 hI hS => ?_)
    obtain ⟨rfl, rfl⟩ := h3
    refine lv_iload hx hb dL_law_467 (lv_at hl 1 rfl) ?_
    refine lv_icmp_eq (tgt := 474) hx hb dL_law_469 (by decide) (fun _ => ?_) (fun z => absurd h12 z)
    refine lv_iload hx hb dL_law_474 (lv_at hl 1 rfl) ?_
    refine lv_if_ne (tgt := 491) hx hb dL_law_476 (by decide) (fun _ => ?_) (fun z => absurd z (by decide))
    exact (lv_goto (tgt := 1443) hx hb dL_law_491 (by decide) (kk _ _ _ _ _ _ (lv_sub hl (l' := lw_ls b adC adM ao i) [2, 3, 4, 5, 6] rfl) hrel2 hI hS))
set_option maxHeartbeats 1000000 in
theorem lc_row (hIX : ti_IXok) : lw_Case lw_Th 1388 := by
  intro p l e s m args below meth c H locs cells slots Q D ca adC adM adV ao A MC MM fo ls b L i k xs hTh K hl hi hI hS hrel hk hce hsl kk
  obtain ⟨hst, hT⟩ := hTh
  have hx := K.1.1
  have hb := K.1.2.1
  obtain ⟨I, J, R⟩ := MC
  obtain ⟨K9, L9, S9⟩ := MM
  have hBt : Bt hX11_row 2 hX12_row 2 [.int (xs (i + 1))] k (I, J, R) (K9, L9, S9) (∃ n, I 3 1 = nI n ∧ ix n (xs (i + 1)) = none) := by
    obtain ⟨n, c, ns, a, p, q, z, rs, u, x, m, no, nc, N, ce, rv, t, h⟩ := hrel
    rcases bt_row h (xs (i + 1)) with h1 | ⟨h1, h2⟩
    · exact Or.inl h1
    · exact Or.inr ⟨⟨_, h1⟩, h2⟩
  refine lv_aload_n hx hb dL_law_1388 rfl (lv_at hl 1 rfl) ?_
  refine lw_arg K hl hS 1 rfl (by decide) hi dL_law_1389 dL_law_1390 dL_law_1392 dL_law_1393 dL_law_1394 ?_
  refine lv_aload_n hx hb dL_law_1395 rfl (lv_at hl 3 rfl) ?_
  rcases hBt with ⟨v, QC, QM, c1, c2, hR⟩ | ⟨⟨n, t1, t2⟩, v, c2⟩
  · obtain ⟨v, rfl⟩ := lw_long c1 rfl
    refine lw_cH (n := 3) (vs := [.ref (adC 0), .int (xs (i + 1)), .ref ao]) (rest := []) K.1 K.2.1 hT K.2.2.2.1 hl.1 lw_h_row rfl (by decide +kernel) (by decide) (fun sz => h_row_R hIX c1) hI hS rfl (by decide) (by decide) (by decide) hce hsl dL_law_1396 (fun H locs r M1 f1 hq hI hS => ?_)
    obtain ⟨rfl, h1, hf⟩ := hq
    refine lv_istore (lv' := [(5, .int 0), (0, .ref b), (1, .ref (adC 0)), (2, .ref (adM 0)), (3, .ref ao), (4, .int (nI i))]) hx hb dL_law_1399 hl (by decide) rfl (fun ls hl => ?_)
    have hl0 := lv_sub hl (l' := lw_ls b adC adM ao i) [1, 2, 3, 4, 5] rfl
    refine lv_aload_n hx hb dL_law_1401 rfl (lv_at hl0 2 rfl) ?_
    refine lw_arg K hl0 hS 1 rfl (by decide) hi dL_law_1402 dL_law_1403 dL_law_1405 dL_law_1406 dL_law_1407 ?_
    refine lw_cM (vs := [.int (xs (i + 1))]) (rest := []) hIX K.1 K.2.2.1 K.2.2.2.1 hl.1 lw_w_238 rfl c2 hI hS rfl (Nat.le_of_ble_eq_true rfl) rfl (by decide) (by decide) (by decide) hce hsl dL_law_1408 (fun H locs r M2 h2 hI hS => ?_)
    obtain ⟨rfl, h2⟩ := h2
    obtain ⟨hrel2, h12⟩ := hR _ _ h1 h2
    refine lv_lstore (lv' := [(6, .long v), (5, .int 0), (0, .ref b), (1, .ref (adC 0)), (2, .ref (adM 0)), (3, .ref ao), (4, .int (nI i))]) hx hb dL_law_1411 hl (by decide) rfl (fun ls hl => ?_)
    refine lv_aload_n hx hb dL_law_1413 rfl (lv_at hl 4 rfl) ?_
    refine lw_cM (vs := []) (rest := []) hIX K.1 K.2.2.1 K.2.2.2.1 hl.1 lw_w_59 rfl (c_thrown (d := 120) (I := M2.1) (J := M2.2.1) (R := M2.2.2)) hI hS rfl (Nat.le_of_ble_eq_true rfl) rfl (by decide) (by decide) (by decide) hce hsl dL_law_1414 (fun H locs r M3 h3 hI hS => ?_)
    obtain ⟨rfl, rfl⟩ := h3
    refine lv_iload hx hb dL_law_1417 (lv_at hl 1 rfl) ?_
    refine lv_icmp_eq (tgt := 1424) hx hb dL_law_1419 (by decide) (fun _ => ?_) (fun z => absurd h12 z)
    refine lv_iload hx hb dL_law_1424 (lv_at hl 1 rfl) ?_
    refine lv_if_ne (tgt := 1440) hx hb dL_law_1426 (by decide) (fun z => absurd rfl z) (fun _ => ?_)
    refine lv_aload_n hx hb dL_law_1429 rfl (lv_at hl 5 rfl) ?_
    refine lv_iconst (v := 0) hx hb dL_law_1430 (by decide) ?_
    refine va_lald hx hb K.1.2.2.2.2.2.1 hI.2.2 0 4 rfl rfl (show vp_in 0 1 from by unfold vp_in; decide) dL_law_1431 ?_
    refine lv_lload hx hb dL_law_1432 (lv_at hl 0 rfl) ?_
    rw [show f1 (0 : Int32).toNatClampNeg = v from hf]
    refine W.lcmp hx hb dL_law_1434 ?_
    rw [lg_self]
    refine lv_if_eq (tgt := 1440) hx hb dL_law_1435 (by decide) (fun _ => ?_) (fun z => absurd rfl z)
    exact (lv_goto (tgt := 1443) hx hb dL_law_1440 (by decide) (kk _ _ _ _ _ _ (lv_sub hl (l' := lw_ls b adC adM ao i) [2, 3, 4, 5, 6] rfl) hrel2 hI hS))
  · obtain ⟨v, rfl⟩ := lw_long c2 rfl
    refine lw_cH (n := 3) (vs := [.ref (adC 0), .int (xs (i + 1)), .ref ao]) (rest := []) K.1 K.2.1 hT K.2.2.2.1 hl.1 lw_h_row rfl (by decide +kernel) (by decide) (fun sz => h_row_T hIX hst t1 t2) hI hS rfl (by decide) (by decide) (by decide) hce hsl dL_law_1396 (fun H locs r M1 f1 hq hI hS => ?_)
    obtain ⟨rfl, rfl⟩ := hq
    refine lv_istore (lv' := [(5, .int 1), (0, .ref b), (1, .ref (adC 0)), (2, .ref (adM 0)), (3, .ref ao), (4, .int (nI i))]) hx hb dL_law_1399 hl (by decide) rfl (fun ls hl => ?_)
    have hl0 := lv_sub hl (l' := lw_ls b adC adM ao i) [1, 2, 3, 4, 5] rfl
    refine lv_aload_n hx hb dL_law_1401 rfl (lv_at hl0 2 rfl) ?_
    refine lw_arg K hl0 hS 1 rfl (by decide) hi dL_law_1402 dL_law_1403 dL_law_1405 dL_law_1406 dL_law_1407 ?_
    refine lw_cM (vs := [.int (xs (i + 1))]) (rest := []) hIX K.1 K.2.2.1 K.2.2.2.1 hl.1 lw_w_238 rfl c2 hI hS rfl (Nat.le_of_ble_eq_true rfl) rfl (by decide) (by decide) (by decide) hce hsl dL_law_1408 (fun H locs r M2 h2 hI hS => ?_)
    obtain ⟨rfl, h2⟩ := h2
    obtain ⟨hrel2, h12⟩ := h2
    refine lv_lstore (lv' := [(6, .long v), (5, .int 1), (0, .ref b), (1, .ref (adC 0)), (2, .ref (adM 0)), (3, .ref ao), (4, .int (nI i))]) hx hb dL_law_1411 hl (by decide) rfl (fun ls hl => ?_)
    refine lv_aload_n hx hb dL_law_1413 rfl (lv_at hl 4 rfl) ?_
    refine lw_cM (vs := []) (rest := []) hIX K.1 K.2.2.1 K.2.2.2.1 hl.1 lw_w_59 rfl (c_thrown (d := 120) (I := M2.1) (J := M2.2.1) (R := M2.2.2)) hI hS rfl (Nat.le_of_ble_eq_true rfl) rfl (by decide) (by decide) (by decide) hce hsl dL_law_1414 (fun H locs r M3 h3 hI hS => ?_)
    obtain ⟨rfl, rfl⟩ := h3
    refine lv_iload hx hb dL_law_1417 (lv_at hl 1 rfl) ?_
    refine lv_icmp_eq (tgt := 1424) hx hb dL_law_1419 (by decide) (fun _ => ?_) (fun z => absurd h12 z)
    refine lv_iload hx hb dL_law_1424 (lv_at hl 1 rfl) ?_
    refine lv_if_ne (tgt := 1440) hx hb dL_law_1426 (by decide) (fun _ => ?_) (fun z => absurd z (by decide))
    exact (lv_goto (tgt := 1443) hx hb dL_law_1440 (by decide) (kk _ _ _ _ _ _ (lv_sub hl (l' := lw_ls b adC adM ao i) [2, 3, 4, 5, 6] rfl) hrel2 hI hS))
