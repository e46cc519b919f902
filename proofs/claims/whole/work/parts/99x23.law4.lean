/-! the law's cases: a call on both sides, and their answers beside each other -/
section LWE
variable {p : Program} {l : Launch} {e : Env} {s : State} {m : MethodId} {args : Array Value} {below : List Frame} {meth : Method} {c : Code} {H : Heap} {locs : List Loc} {cells slots : Nat} {Q : State → Prop} {D : va_G} {ca : Nat → ClassId} {adC adM adV : Nat → Nat} {ao : Nat} {A : Nat → Prop} {MC MM : TM} {fo : Nat → Int64} {ls : Array Slot} {b L i k : Nat} {xs : Nat → Int32}
theorem la_0 (hIX : ti_IXok) (K : lw_K p s m args c D ca adC adM adV ao A b L xs) (hl : lv_has ls 8 (lw_ls b adC adM ao i)) (hi : i + 5 ≤ L) (hI : LI D ca adC adM ao MC MM fo H) (hS : va_S A s.heap H locs) (hrel : REL k MC MM) (hk : k < 1000) (hce : cells ≤ room_1.cells) (hsl : slots ≤ room_1.slots) (kk : ∀ (H : Heap) (locs : List Loc) (MC MM : TM), REL (k + 1) MC MM → LI D ca adC adM ao MC MM fo H → va_S A s.heap H locs → W p l e room_1 s m args below meth c H locs cells slots Q (F0 m 1443 ls [])) : W p l e room_1 s m args below meth c H locs cells slots Q (F0 m 256 ls []) := by
  obtain ⟨v, QC, QM, c1, c2, hR⟩ := show Bo hX11_sign 2 hX12_sign 3 [.int (xs (i + 1))] k MC.1 MC.2.1 MC.2.2 MM.1 MM.2.1 MM.2.2 from by
    obtain ⟨n, c, ns, a, p, q, z, rs, u, x, m, no, nc, N, ce, rv, t, h⟩ := hrel
    exact b_sign h _
  obtain ⟨v, rfl⟩ := lw_int c1 (by first | exact Or.inl rfl | exact Or.inr rfl)
  refine lv_aload_n K.1.1 K.1.2.1 dL_law_256 rfl (lv_at hl 1 rfl) ?_
  refine lw_arg K hl hS 1 rfl (by decide) hi dL_law_257 dL_law_258 dL_law_260 dL_law_261 dL_law_262 ?_
  refine lw_cC (vs := [.int (xs (i + 1))]) (rest := []) hIX K.1 K.2.1 K.2.2.2.1 hl.1 lw_w_26 rfl c1 hI hS rfl (Nat.le_of_ble_eq_true rfl) rfl (by decide) (by decide) (by decide) hce hsl dL_law_263 (fun H locs r M1 h1 hI hS => ?_)
  obtain ⟨rfl, h1⟩ := h1
  refine lv_aload_n K.1.1 K.1.2.1 dL_law_266 rfl (lv_at hl 2 rfl) ?_
  refine lw_arg K hl hS 1 rfl (by decide) hi dL_law_267 dL_law_268 dL_law_270 dL_law_271 dL_law_272 ?_
  refine lw_cM (vs := [.int (xs (i + 1))]) (rest := [.int v]) hIX K.1 K.2.2.1 K.2.2.2.1 hl.1 lw_w_30 rfl c2 hI hS rfl (Nat.le_of_ble_eq_true rfl) rfl (Nat.le_of_ble_eq_true rfl) (by decide) (by decide) hce hsl dL_law_273 (fun H locs r M2 h2 hI hS => ?_)
  obtain ⟨rfl, h2⟩ := h2
  exact lw_eq K dL_law_276 (by decide) (kk _ _ _ _ (hR _ _ h1 h2) hI hS)
theorem la_1 (hIX : ti_IXok) (K : lw_K p s m args c D ca adC adM adV ao A b L xs) (hl : lv_has ls 8 (lw_ls b adC adM ao i)) (hi : i + 5 ≤ L) (hI : LI D ca adC adM ao MC MM fo H) (hS : va_S A s.heap H locs) (hrel : REL k MC MM) (hk : k < 1000) (hce : cells ≤ room_1.cells) (hsl : slots ≤ room_1.slots) (kk : ∀ (H : Heap) (locs : List Loc) (MC MM : TM), REL (k + 1) MC MM → LI D ca adC adM ao MC MM fo H → va_S A s.heap H locs → W p l e room_1 s m args below meth c H locs cells slots Q (F0 m 1443 ls [])) : W p l e room_1 s m args below meth c H locs cells slots Q (F0 m 281 ls []) := by
  obtain ⟨v, QC, QM, c1, c2, hR⟩ := show Bo hX11_end 2 hX12_end 2 [.int (xs (i + 1))] k MC.1 MC.2.1 MC.2.2 MM.1 MM.2.1 MM.2.2 from by
    obtain ⟨n, c, ns, a, p, q, z, rs, u, x, m, no, nc, N, ce, rv, t, h⟩ := hrel
    exact b_end h _
  obtain ⟨v, rfl⟩ := lw_int c1 (by first | exact Or.inl rfl | exact Or.inr rfl)
  refine lv_aload_n K.1.1 K.1.2.1 dL_law_281 rfl (lv_at hl 1 rfl) ?_
  refine lw_arg K hl hS 1 rfl (by decide) hi dL_law_282 dL_law_283 dL_law_285 dL_law_286 dL_law_287 ?_
  refine lw_cC (vs := [.int (xs (i + 1))]) (rest := []) hIX K.1 K.2.1 K.2.2.2.1 hl.1 lw_w_31 rfl c1 hI hS rfl (Nat.le_of_ble_eq_true rfl) rfl (by decide) (by decide) (by decide) hce hsl dL_law_288 (fun H locs r M1 h1 hI hS => ?_)
  obtain ⟨rfl, h1⟩ := h1
  refine lv_aload_n K.1.1 K.1.2.1 dL_law_291 rfl (lv_at hl 2 rfl) ?_
  refine lw_arg K hl hS 1 rfl (by decide) hi dL_law_292 dL_law_293 dL_law_295 dL_law_296 dL_law_297 ?_
  refine lw_cM (vs := [.int (xs (i + 1))]) (rest := [.int v]) hIX K.1 K.2.2.1 K.2.2.2.1 hl.1 lw_w_35 rfl c2 hI hS rfl (Nat.le_of_ble_eq_true rfl) rfl (Nat.le_of_ble_eq_true rfl) (by decide) (by decide) hce hsl dL_law_298 (fun H locs r M2 h2 hI hS => ?_)
  obtain ⟨rfl, h2⟩ := h2
  exact lw_eq K dL_law_301 (by decide) (kk _ _ _ _ (hR _ _ h1 h2) hI hS)
theorem la_2 (hIX : ti_IXok) (K : lw_K p s m args c D ca adC adM adV ao A b L xs) (hl : lv_has ls 8 (lw_ls b adC adM ao i)) (hi : i + 5 ≤ L) (hI : LI D ca adC adM ao MC MM fo H) (hS : va_S A s.heap H locs) (hrel : REL k MC MM) (hk : k < 1000) (hce : cells ≤ room_1.cells) (hsl : slots ≤ room_1.slots) (kk : ∀ (H : Heap) (locs : List Loc) (MC MM : TM), REL (k + 1) MC MM → LI D ca adC adM ao MC MM fo H → va_S A s.heap H locs → W p l e room_1 s m args below meth c H locs cells slots Q (F0 m 1443 ls [])) : W p l e room_1 s m args below meth c H locs cells slots Q (F0 m 306 ls []) := by
  obtain ⟨v, QC, QM, c1, c2, hR⟩ := show Bo hX11_way 2 hX12_way 3 [] k MC.1 MC.2.1 MC.2.2 MM.1 MM.2.1 MM.2.2 from by
    obtain ⟨n, c, ns, a, p, q, z, rs, u, x, m, no, nc, N, ce, rv, t, h⟩ := hrel
    exact b_way h hk
  obtain ⟨v, rfl⟩ := lw_int c1 (by first | exact Or.inl rfl | exact Or.inr rfl)
  refine lv_aload_n K.1.1 K.1.2.1 dL_law_306 rfl (lv_at hl 1 rfl) ?_
  refine lw_cC (vs := []) (rest := []) hIX K.1 K.2.1 K.2.2.2.1 hl.1 lw_w_36 rfl c1 hI hS rfl (Nat.le_of_ble_eq_true rfl) rfl (by decide) (by decide) (by decide) hce hsl dL_law_307 (fun H locs r M1 h1 hI hS => ?_)
  obtain ⟨rfl, h1⟩ := h1
  refine lv_aload_n K.1.1 K.1.2.1 dL_law_310 rfl (lv_at hl 2 rfl) ?_
  refine lw_cM (vs := []) (rest := [.int v]) hIX K.1 K.2.2.1 K.2.2.2.1 hl.1 lw_w_40 rfl c2 hI hS rfl (Nat.le_of_ble_eq_true rfl) rfl (Nat.le_of_ble_eq_true rfl) (by decide) (by decide) hce hsl dL_law_311 (fun H locs r M2 h2 hI hS => ?_)
  obtain ⟨rfl, h2⟩ := h2
  exact lw_eq K dL_law_314 (by decide) (kk _ _ _ _ (hR _ _ h1 h2) hI hS)
theorem la_3 (hIX : ti_IXok) (K : lw_K p s m args c D ca adC adM adV ao A b L xs) (hl : lv_has ls 8 (lw_ls b adC adM ao i)) (hi : i + 5 ≤ L) (hI : LI D ca adC adM ao MC MM fo H) (hS : va_S A s.heap H locs) (hrel : REL k MC MM) (hk : k < 1000) (hce : cells ≤ room_1.cells) (hsl : slots ≤ room_1.slots) (kk : ∀ (H : Heap) (locs : List Loc) (MC MM : TM), REL (k + 1) MC MM → LI D ca adC adM ao MC MM fo H → va_S A s.heap H locs → W p l e room_1 s m args below meth c H locs cells slots Q (F0 m 1443 ls [])) : W p l e room_1 s m args below meth c H locs cells slots Q (F0 m 319 ls []) := by
  obtain ⟨v, QC, QM, c1, c2, hR⟩ := show Bo hX11_bearers 3 hX12_bearers 4 [] k MC.1 MC.2.1 MC.2.2 MM.1 MM.2.1 MM.2.2 from by
    obtain ⟨n, c, ns, a, p, q, z, rs, u, x, m, no, nc, N, ce, rv, t, h⟩ := hrel
    exact b_bearers h hk
  obtain ⟨v, rfl⟩ := lw_int c1 (by first | exact Or.inl rfl | exact Or.inr rfl)
  refine lv_aload_n K.1.1 K.1.2.1 dL_law_319 rfl (lv_at hl 1 rfl) ?_
  refine lw_cC (vs := []) (rest := []) hIX K.1 K.2.1 K.2.2.2.1 hl.1 lw_w_41 rfl c1 hI hS rfl (Nat.le_of_ble_eq_true rfl) rfl (by decide) (by decide) (by decide) hce hsl dL_law_320 (fun H locs r M1 h1 hI hS => ?_)
  obtain ⟨rfl, h1⟩ := h1
  refine lv_aload_n K.1.1 K.1.2.1 dL_law_323 rfl (lv_at hl 2 rfl) ?_
  refine lw_cM (vs := []) (rest := [.int v]) hIX K.1 K.2.2.1 K.2.2.2.1 hl.1 lw_w_44 rfl c2 hI hS rfl (Nat.le_of_ble_eq_true rfl) rfl (Nat.le_of_ble_eq_true rfl) (by decide) (by decide) hce hsl dL_law_324 (fun H locs r M2 h2 hI hS => ?_)
  obtain ⟨rfl, h2⟩ := h2
  exact lw_eq K dL_law_327 (by decide) (kk _ _ _ _ (hR _ _ h1 h2) hI hS)
theorem la_4 (hIX : ti_IXok) (K : lw_K p s m args c D ca adC adM adV ao A b L xs) (hl : lv_has ls 8 (lw_ls b adC adM ao i)) (hi : i + 5 ≤ L) (hI : LI D ca adC adM ao MC MM fo H) (hS : va_S A s.heap H locs) (hrel : REL k MC MM) (hk : k < 1000) (hce : cells ≤ room_1.cells) (hsl : slots ≤ room_1.slots) (kk : ∀ (H : Heap) (locs : List Loc) (MC MM : TM), REL (k + 1) MC MM → LI D ca adC adM ao MC MM fo H → va_S A s.heap H locs → W p l e room_1 s m args below meth c H locs cells slots Q (F0 m 1443 ls [])) : W p l e room_1 s m args below meth c H locs cells slots Q (F0 m 332 ls []) := by
  obtain ⟨v, QC, QM, c1, c2, hR⟩ := show Bo hX11_sayings 3 hX12_sayings 4 [] k MC.1 MC.2.1 MC.2.2 MM.1 MM.2.1 MM.2.2 from by
    obtain ⟨n, c, ns, a, p, q, z, rs, u, x, m, no, nc, N, ce, rv, t, h⟩ := hrel
    exact b_sayings h hk
  obtain ⟨v, rfl⟩ := lw_int c1 (by first | exact Or.inl rfl | exact Or.inr rfl)
  refine lv_aload_n K.1.1 K.1.2.1 dL_law_332 rfl (lv_at hl 1 rfl) ?_
  refine lw_cC (vs := []) (rest := []) hIX K.1 K.2.1 K.2.2.2.1 hl.1 lw_w_45 rfl c1 hI hS rfl (Nat.le_of_ble_eq_true rfl) rfl (by decide) (by decide) (by decide) hce hsl dL_law_333 (fun H locs r M1 h1 hI hS => ?_)
  obtain ⟨rfl, h1⟩ := h1
  refine lv_aload_n K.1.1 K.1.2.1 dL_law_336 rfl (lv_at hl 2 rfl) ?_
  refine lw_cM (vs := []) (rest := [.int v]) hIX K.1 K.2.2.1 K.2.2.2.1 hl.1 lw_w_48 rfl c2 hI hS rfl (Nat.le_of_ble_eq_true rfl) rfl (Nat.le_of_ble_eq_true rfl) (by decide) (by decide) hce hsl dL_law_337 (fun H locs r M2 h2 hI hS => ?_)
  obtain ⟨rfl, h2⟩ := h2
  exact lw_eq K dL_law_340 (by decide) (kk _ _ _ _ (hR _ _ h1 h2) hI hS)
theorem la_5 (hIX : ti_IXok) (K : lw_K p s m args c D ca adC adM adV ao A b L xs) (hl : lv_has ls 8 (lw_ls b adC adM ao i)) (hi : i + 5 ≤ L) (hI : LI D ca adC adM ao MC MM fo H) (hS : va_S A s.heap H locs) (hrel : REL k MC MM) (hk : k < 1000) (hce : cells ≤ room_1.cells) (hsl : slots ≤ room_1.slots) (kk : ∀ (H : Heap) (locs : List Loc) (MC MM : TM), REL (k + 1) MC MM → LI D ca adC adM ao MC MM fo H → va_S A s.heap H locs → W p l e room_1 s m args below meth c H locs cells slots Q (F0 m 1443 ls [])) : W p l e room_1 s m args below meth c H locs cells slots Q (F0 m 345 ls []) := by
  obtain ⟨v, QC, QM, c1, c2, hR⟩ := show Bo hX11_rule 3 hX12_rule 3 [] k MC.1 MC.2.1 MC.2.2 MM.1 MM.2.1 MM.2.2 from by
    obtain ⟨n, c, ns, a, p, q, z, rs, u, x, m, no, nc, N, ce, rv, t, h⟩ := hrel
    exact b_rule h
  obtain ⟨v, rfl⟩ := lw_int c1 (by first | exact Or.inl rfl | exact Or.inr rfl)
  refine lv_aload_n K.1.1 K.1.2.1 dL_law_345 rfl (lv_at hl 1 rfl) ?_
  refine lw_cC (vs := []) (rest := []) hIX K.1 K.2.1 K.2.2.2.1 hl.1 lw_w_49 rfl c1 hI hS rfl (Nat.le_of_ble_eq_true rfl) rfl (by decide) (by decide) (by decide) hce hsl dL_law_346 (fun H locs r M1 h1 hI hS => ?_)
  obtain ⟨rfl, h1⟩ := h1
  refine lv_aload_n K.1.1 K.1.2.1 dL_law_349 rfl (lv_at hl 2 rfl) ?_
  refine lw_cM (vs := []) (rest := [.int v]) hIX K.1 K.2.2.1 K.2.2.2.1 hl.1 lw_w_52 rfl c2 hI hS rfl (Nat.le_of_ble_eq_true rfl) rfl (Nat.le_of_ble_eq_true rfl) (by decide) (by decide) hce hsl dL_law_350 (fun H locs r M2 h2 hI hS => ?_)
  obtain ⟨rfl, h2⟩ := h2
  exact lw_eq K dL_law_353 (by decide) (kk _ _ _ _ (hR _ _ h1 h2) hI hS)
theorem la_8 (hIX : ti_IXok) (K : lw_K p s m args c D ca adC adM adV ao A b L xs) (hl : lv_has ls 8 (lw_ls b adC adM ao i)) (hi : i + 5 ≤ L) (hI : LI D ca adC adM ao MC MM fo H) (hS : va_S A s.heap H locs) (hrel : REL k MC MM) (hk : k < 1000) (hce : cells ≤ room_1.cells) (hsl : slots ≤ room_1.slots) (kk : ∀ (H : Heap) (locs : List Loc) (MC MM : TM), REL (k + 1) MC MM → LI D ca adC adM ao MC MM fo H → va_S A s.heap H locs → W p l e room_1 s m args below meth c H locs cells slots Q (F0 m 1443 ls [])) : W p l e room_1 s m args below meth c H locs cells slots Q (F0 m 494 ls []) := by
  obtain ⟨v, QC, QM, c1, c2, hR⟩ := show Bo hX11_force 1 hX12_force 1 [] k MC.1 MC.2.1 MC.2.2 MM.1 MM.2.1 MM.2.2 from by
    obtain ⟨n, c, ns, a, p, q, z, rs, u, x, m, no, nc, N, ce, rv, t, h⟩ := hrel
    exact b_force h
  obtain ⟨v, rfl⟩ := lw_int c1 (by first | exact Or.inl rfl | exact Or.inr rfl)
  refine lv_aload_n K.1.1 K.1.2.1 dL_law_494 rfl (lv_at hl 1 rfl) ?_
  refine lw_cC (vs := []) (rest := []) hIX K.1 K.2.1 K.2.2.2.1 hl.1 lw_w_65 rfl c1 hI hS rfl (Nat.le_of_ble_eq_true rfl) rfl (by decide) (by decide) (by decide) hce hsl dL_law_495 (fun H locs r M1 h1 hI hS => ?_)
  obtain ⟨rfl, h1⟩ := h1
  refine lv_aload_n K.1.1 K.1.2.1 dL_law_498 rfl (lv_at hl 2 rfl) ?_
  refine lw_cM (vs := []) (rest := [.int v]) hIX K.1 K.2.2.1 K.2.2.2.1 hl.1 lw_w_68 rfl c2 hI hS rfl (Nat.le_of_ble_eq_true rfl) rfl (Nat.le_of_ble_eq_true rfl) (by decide) (by decide) hce hsl dL_law_499 (fun H locs r M2 h2 hI hS => ?_)
  obtain ⟨rfl, h2⟩ := h2
  exact lw_eq K dL_law_502 (by decide) (kk _ _ _ _ (hR _ _ h1 h2) hI hS)
theorem la_9 (hIX : ti_IXok) (K : lw_K p s m args c D ca adC adM adV ao A b L xs) (hl : lv_has ls 8 (lw_ls b adC adM ao i)) (hi : i + 5 ≤ L) (hI : LI D ca adC adM ao MC MM fo H) (hS : va_S A s.heap H locs) (hrel : REL k MC MM) (hk : k < 1000) (hce : cells ≤ room_1.cells) (hsl : slots ≤ room_1.slots) (kk : ∀ (H : Heap) (locs : List Loc) (MC MM : TM), REL (k + 1) MC MM → LI D ca adC adM ao MC MM fo H → va_S A s.heap H locs → W p l e room_1 s m args below meth c H locs cells slots Q (F0 m 1443 ls [])) : W p l e room_1 s m args below meth c H locs cells slots Q (F0 m 507 ls []) := by
  obtain ⟨v, QC, QM, c1, c2, hR⟩ := show Bo hX11_load 3 hX12_load 3 [.int (xs (i + 1))] k MC.1 MC.2.1 MC.2.2 MM.1 MM.2.1 MM.2.2 from by
    obtain ⟨n, c, ns, a, p, q, z, rs, u, x, m, no, nc, N, ce, rv, t, h⟩ := hrel
    exact b_load h _
  obtain ⟨v, rfl⟩ := lw_int c1 (by first | exact Or.inl rfl | exact Or.inr rfl)
  refine lv_aload_n K.1.1 K.1.2.1 dL_law_507 rfl (lv_at hl 1 rfl) ?_
  refine lw_arg K hl hS 1 rfl (by decide) hi dL_law_508 dL_law_509 dL_law_511 dL_law_512 dL_law_513 ?_
  refine lw_cC (vs := [.int (xs (i + 1))]) (rest := []) hIX K.1 K.2.1 K.2.2.2.1 hl.1 lw_w_69 rfl c1 hI hS rfl (Nat.le_of_ble_eq_true rfl) rfl (by decide) (by decide) (by decide) hce hsl dL_law_514 (fun H locs r M1 h1 hI hS => ?_)
  obtain ⟨rfl, h1⟩ := h1
  refine lv_aload_n K.1.1 K.1.2.1 dL_law_517 rfl (lv_at hl 2 rfl) ?_
  refine lw_arg K hl hS 1 rfl (by decide) hi dL_law_518 dL_law_519 dL_law_521 dL_law_522 dL_law_523 ?_
  refine lw_cM (vs := [.int (xs (i + 1))]) (rest := [.int v]) hIX K.1 K.2.2.1 K.2.2.2.1 hl.1 lw_w_72 rfl c2 hI hS rfl (Nat.le_of_ble_eq_true rfl) rfl (Nat.le_of_ble_eq_true rfl) (by decide) (by decide) hce hsl dL_law_524 (fun H locs r M2 h2 hI hS => ?_)
  obtain ⟨rfl, h2⟩ := h2
  exact lw_eq K dL_law_527 (by decide) (kk _ _ _ _ (hR _ _ h1 h2) hI hS)
theorem la_10 (hIX : ti_IXok) (K : lw_K p s m args c D ca adC adM adV ao A b L xs) (hl : lv_has ls 8 (lw_ls b adC adM ao i)) (hi : i + 5 ≤ L) (hI : LI D ca adC adM ao MC MM fo H) (hS : va_S A s.heap H locs) (hrel : REL k MC MM) (hk : k < 1000) (hce : cells ≤ room_1.cells) (hsl : slots ≤ room_1.slots) (kk : ∀ (H : Heap) (locs : List Loc) (MC MM : TM), REL (k + 1) MC MM → LI D ca adC adM ao MC MM fo H → va_S A s.heap H locs → W p l e room_1 s m args below meth c H locs cells slots Q (F0 m 1443 ls [])) : W p l e room_1 s m args below meth c H locs cells slots Q (F0 m 532 ls []) := by
  obtain ⟨v, QC, QM, c1, c2, hR⟩ := show Bo hX11_sheet 5 hX12_sheet 9 [.int (xs (i + 1)), .int (xs (i + 2)), .int (xs (i + 3)), .int (xs (i + 4))] k MC.1 MC.2.1 MC.2.2 MM.1 MM.2.1 MM.2.2 from by
    obtain ⟨n, c, ns, a, p, q, z, rs, u, x, m, no, nc, N, ce, rv, t, h⟩ := hrel
    exact b_sheet h _ _ _ _
  obtain ⟨v, rfl⟩ := lw_int c1 (by first | exact Or.inl rfl | exact Or.inr rfl)
  refine lv_aload_n K.1.1 K.1.2.1 dL_law_532 rfl (lv_at hl 1 rfl) ?_
  refine lw_arg K hl hS 1 rfl (by decide) hi dL_law_533 dL_law_534 dL_law_536 dL_law_537 dL_law_538 ?_
  refine lw_arg K hl hS 2 rfl (by decide) hi dL_law_539 dL_law_540 dL_law_542 dL_law_543 dL_law_544 ?_
  refine lw_arg K hl hS 3 rfl (by decide) hi dL_law_545 dL_law_546 dL_law_548 dL_law_549 dL_law_550 ?_
  refine lw_arg K hl hS 4 rfl (by decide) hi dL_law_551 dL_law_552 dL_law_554 dL_law_555 dL_law_556 ?_
  refine lw_cC (vs := [.int (xs (i + 1)), .int (xs (i + 2)), .int (xs (i + 3)), .int (xs (i + 4))]) (rest := []) hIX K.1 K.2.1 K.2.2.2.1 hl.1 lw_w_73 rfl c1 hI hS rfl (Nat.le_of_ble_eq_true rfl) rfl (by decide) (by decide) (by decide) hce hsl dL_law_557 (fun H locs r M1 h1 hI hS => ?_)
  obtain ⟨rfl, h1⟩ := h1
  refine lv_aload_n K.1.1 K.1.2.1 dL_law_560 rfl (lv_at hl 2 rfl) ?_
  refine lw_arg K hl hS 1 rfl (by decide) hi dL_law_561 dL_law_562 dL_law_564 dL_law_565 dL_law_566 ?_
  refine lw_arg K hl hS 2 rfl (by decide) hi dL_law_567 dL_law_568 dL_law_570 dL_law_571 dL_law_572 ?_
  refine lw_arg K hl hS 3 rfl (by decide) hi dL_law_573 dL_law_574 dL_law_576 dL_law_577 dL_law_578 ?_
  refine lw_arg K hl hS 4 rfl (by decide) hi dL_law_579 dL_law_580 dL_law_582 dL_law_583 dL_law_584 ?_
  refine lw_cM (vs := [.int (xs (i + 1)), .int (xs (i + 2)), .int (xs (i + 3)), .int (xs (i + 4))]) (rest := [.int v]) hIX K.1 K.2.2.1 K.2.2.2.1 hl.1 lw_w_77 rfl c2 hI hS rfl (Nat.le_of_ble_eq_true rfl) rfl (Nat.le_of_ble_eq_true rfl) (by decide) (by decide) hce hsl dL_law_585 (fun H locs r M2 h2 hI hS => ?_)
  obtain ⟨rfl, h2⟩ := h2
  exact lw_eq K dL_law_588 (by decide) (kk _ _ _ _ (hR _ _ h1 h2) hI hS)
theorem la_11 (hIX : ti_IXok) (K : lw_K p s m args c D ca adC adM adV ao A b L xs) (hl : lv_has ls 8 (lw_ls b adC adM ao i)) (hi : i + 5 ≤ L) (hI : LI D ca adC adM ao MC MM fo H) (hS : va_S A s.heap H locs) (hrel : REL k MC MM) (hk : k < 1000) (hce : cells ≤ room_1.cells) (hsl : slots ≤ room_1.slots) (kk : ∀ (H : Heap) (locs : List Loc) (MC MM : TM), REL (k + 1) MC MM → LI D ca adC adM ao MC MM fo H → va_S A s.heap H locs → W p l e room_1 s m args below meth c H locs cells slots Q (F0 m 1443 ls [])) : W p l e room_1 s m args below meth c H locs cells slots Q (F0 m 593 ls []) := by
  obtain ⟨v, QC, QM, c1, c2, hR⟩ := show Bo hX11_step 2 hX12_step 3 [] k MC.1 MC.2.1 MC.2.2 MM.1 MM.2.1 MM.2.2 from by
    obtain ⟨n, c, ns, a, p, q, z, rs, u, x, m, no, nc, N, ce, rv, t, h⟩ := hrel
    exact b_step h
  obtain ⟨v, rfl⟩ := lw_int c1 (by first | exact Or.inl rfl | exact Or.inr rfl)
  refine lv_aload_n K.1.1 K.1.2.1 dL_law_593 rfl (lv_at hl 1 rfl) ?_
  refine lw_cC (vs := []) (rest := []) hIX K.1 K.2.1 K.2.2.2.1 hl.1 lw_w_78 rfl c1 hI hS rfl (Nat.le_of_ble_eq_true rfl) rfl (by decide) (by decide) (by decide) hce hsl dL_law_594 (fun H locs r M1 h1 hI hS => ?_)
  obtain ⟨rfl, h1⟩ := h1
  refine lv_aload_n K.1.1 K.1.2.1 dL_law_597 rfl (lv_at hl 2 rfl) ?_
  refine lw_cM (vs := []) (rest := [.int v]) hIX K.1 K.2.2.1 K.2.2.2.1 hl.1 lw_w_81 rfl c2 hI hS rfl (Nat.le_of_ble_eq_true rfl) rfl (Nat.le_of_ble_eq_true rfl) (by decide) (by decide) hce hsl dL_law_598 (fun H locs r M2 h2 hI hS => ?_)
  obtain ⟨rfl, h2⟩ := h2
  exact lw_eq K dL_law_601 (by decide) (kk _ _ _ _ (hR _ _ h1 h2) hI hS)
theorem la_12 (hIX : ti_IXok) (K : lw_K p s m args c D ca adC adM adV ao A b L xs) (hl : lv_has ls 8 (lw_ls b adC adM ao i)) (hi : i + 5 ≤ L) (hI : LI D ca adC adM ao MC MM fo H) (hS : va_S A s.heap H locs) (hrel : REL k MC MM) (hk : k < 1000) (hce : cells ≤ room_1.cells) (hsl : slots ≤ room_1.slots) (kk : ∀ (H : Heap) (locs : List Loc) (MC MM : TM), REL (k + 1) MC MM → LI D ca adC adM ao MC MM fo H → va_S A s.heap H locs → W p l e room_1 s m args below meth c H locs cells slots Q (F0 m 1443 ls [])) : W p l e room_1 s m args below meth c H locs cells slots Q (F0 m 606 ls []) := by
  obtain ⟨v, QC, QM, c1, c2, hR⟩ := show Bo hX11_take 2 hX12_take 3 [.int (xs (i + 1))] k MC.1 MC.2.1 MC.2.2 MM.1 MM.2.1 MM.2.2 from by
    obtain ⟨n, c, ns, a, p, q, z, rs, u, x, m, no, nc, N, ce, rv, t, h⟩ := hrel
    exact b_take h _
  obtain ⟨v, rfl⟩ := lw_int c1 (by first | exact Or.inl rfl | exact Or.inr rfl)
  refine lv_aload_n K.1.1 K.1.2.1 dL_law_606 rfl (lv_at hl 1 rfl) ?_
  refine lw_arg K hl hS 1 rfl (by decide) hi dL_law_607 dL_law_608 dL_law_610 dL_law_611 dL_law_612 ?_
  refine lw_cC (vs := [.int (xs (i + 1))]) (rest := []) hIX K.1 K.2.1 K.2.2.2.1 hl.1 lw_w_82 rfl c1 hI hS rfl (Nat.le_of_ble_eq_true rfl) rfl (by decide) (by decide) (by decide) hce hsl dL_law_613 (fun H locs r M1 h1 hI hS => ?_)
  obtain ⟨rfl, h1⟩ := h1
  refine lv_aload_n K.1.1 K.1.2.1 dL_law_616 rfl (lv_at hl 2 rfl) ?_
  refine lw_arg K hl hS 1 rfl (by decide) hi dL_law_617 dL_law_618 dL_law_620 dL_law_621 dL_law_622 ?_
  refine lw_cM (vs := [.int (xs (i + 1))]) (rest := [.int v]) hIX K.1 K.2.2.1 K.2.2.2.1 hl.1 lw_w_85 rfl c2 hI hS rfl (Nat.le_of_ble_eq_true rfl) rfl (Nat.le_of_ble_eq_true rfl) (by decide) (by decide) hce hsl dL_law_623 (fun H locs r M2 h2 hI hS => ?_)
  obtain ⟨rfl, h2⟩ := h2
  exact lw_eq K dL_law_626 (by decide) (kk _ _ _ _ (hR _ _ h1 h2) hI hS)
theorem la_13 (hIX : ti_IXok) (K : lw_K p s m args c D ca adC adM adV ao A b L xs) (hl : lv_has ls 8 (lw_ls b adC adM ao i)) (hi : i + 5 ≤ L) (hI : LI D ca adC adM ao MC MM fo H) (hS : va_S A s.heap H locs) (hrel : REL k MC MM) (hk : k < 1000) (hce : cells ≤ room_1.cells) (hsl : slots ≤ room_1.slots) (kk : ∀ (H : Heap) (locs : List Loc) (MC MM : TM), REL (k + 1) MC MM → LI D ca adC adM ao MC MM fo H → va_S A s.heap H locs → W p l e room_1 s m args below meth c H locs cells slots Q (F0 m 1443 ls [])) : W p l e room_1 s m args below meth c H locs cells slots Q (F0 m 631 ls []) := by
  obtain ⟨v, QC, QM, c1, c2, hR⟩ := show Bo hX11_leave 2 hX12_leave 3 [.int (xs (i + 1))] k MC.1 MC.2.1 MC.2.2 MM.1 MM.2.1 MM.2.2 from by
    obtain ⟨n, c, ns, a, p, q, z, rs, u, x, m, no, nc, N, ce, rv, t, h⟩ := hrel
    exact b_leave h _
  obtain ⟨v, rfl⟩ := lw_int c1 (by first | exact Or.inl rfl | exact Or.inr rfl)
  refine lv_aload_n K.1.1 K.1.2.1 dL_law_631 rfl (lv_at hl 1 rfl) ?_
  refine lw_arg K hl hS 1 rfl (by decide) hi dL_law_632 dL_law_633 dL_law_635 dL_law_636 dL_law_637 ?_
  refine lw_cC (vs := [.int (xs (i + 1))]) (rest := []) hIX K.1 K.2.1 K.2.2.2.1 hl.1 lw_w_86 rfl c1 hI hS rfl (Nat.le_of_ble_eq_true rfl) rfl (by decide) (by decide) (by decide) hce hsl dL_law_638 (fun H locs r M1 h1 hI hS => ?_)
  obtain ⟨rfl, h1⟩ := h1
  refine lv_aload_n K.1.1 K.1.2.1 dL_law_641 rfl (lv_at hl 2 rfl) ?_
  refine lw_arg K hl hS 1 rfl (by decide) hi dL_law_642 dL_law_643 dL_law_645 dL_law_646 dL_law_647 ?_
  refine lw_cM (vs := [.int (xs (i + 1))]) (rest := [.int v]) hIX K.1 K.2.2.1 K.2.2.2.1 hl.1 lw_w_89 rfl c2 hI hS rfl (Nat.le_of_ble_eq_true rfl) rfl (Nat.le_of_ble_eq_true rfl) (by decide) (by decide) hce hsl dL_law_648 (fun H locs r M2 h2 hI hS => ?_)
  obtain ⟨rfl, h2⟩ := h2
  exact lw_eq K dL_law_651 (by decide) (kk _ _ _ _ (hR _ _ h1 h2) hI hS)
theorem la_14 (hIX : ti_IXok) (K : lw_K p s m args c D ca adC adM adV ao A b L xs) (hl : lv_has ls 8 (lw_ls b adC adM ao i)) (hi : i + 5 ≤ L) (hI : LI D ca adC adM ao MC MM fo H) (hS : va_S A s.heap H locs) (hrel : REL k MC MM) (hk : k < 1000) (hce : cells ≤ room_1.cells) (hsl : slots ≤ room_1.slots) (kk : ∀ (H : Heap) (locs : List Loc) (MC MM : TM), REL (k + 1) MC MM → LI D ca adC adM ao MC MM fo H → va_S A s.heap H locs → W p l e room_1 s m args below meth c H locs cells slots Q (F0 m 1443 ls [])) : W p l e room_1 s m args below meth c H locs cells slots Q (F0 m 656 ls []) := by
  obtain ⟨v, QC, QM, c1, c2, hR⟩ := show Bo hX11_seventh 2 hX12_seventh 4 [.int (xs (i + 1))] k MC.1 MC.2.1 MC.2.2 MM.1 MM.2.1 MM.2.2 from by
    obtain ⟨n, c, ns, a, p, q, z, rs, u, x, m, no, nc, N, ce, rv, t, h⟩ := hrel
    exact b_seventh h _
  obtain ⟨v, rfl⟩ := lw_int c1 (by first | exact Or.inl rfl | exact Or.inr rfl)
  refine lv_aload_n K.1.1 K.1.2.1 dL_law_656 rfl (lv_at hl 1 rfl) ?_
  refine lw_arg K hl hS 1 rfl (by decide) hi dL_law_657 dL_law_658 dL_law_660 dL_law_661 dL_law_662 ?_
  refine lw_cC (vs := [.int (xs (i + 1))]) (rest := []) hIX K.1 K.2.1 K.2.2.2.1 hl.1 lw_w_90 rfl c1 hI hS rfl (Nat.le_of_ble_eq_true rfl) rfl (by decide) (by decide) (by decide) hce hsl dL_law_663 (fun H locs r M1 h1 hI hS => ?_)
  obtain ⟨rfl, h1⟩ := h1
  refine lv_aload_n K.1.1 K.1.2.1 dL_law_666 rfl (lv_at hl 2 rfl) ?_
  refine lw_arg K hl hS 1 rfl (by decide) hi dL_law_667 dL_law_668 dL_law_670 dL_law_671 dL_law_672 ?_
  refine lw_cM (vs := [.int (xs (i + 1))]) (rest := [.int v]) hIX K.1 K.2.2.1 K.2.2.2.1 hl.1 lw_w_93 rfl c2 hI hS rfl (Nat.le_of_ble_eq_true rfl) rfl (Nat.le_of_ble_eq_true rfl) (by decide) (by decide) hce hsl dL_law_673 (fun H locs r M2 h2 hI hS => ?_)
  obtain ⟨rfl, h2⟩ := h2
  exact lw_eq K dL_law_676 (by decide) (kk _ _ _ _ (hR _ _ h1 h2) hI hS)
theorem la_15 (hIX : ti_IXok) (K : lw_K p s m args c D ca adC adM adV ao A b L xs) (hl : lv_has ls 8 (lw_ls b adC adM ao i)) (hi : i + 5 ≤ L) (hI : LI D ca adC adM ao MC MM fo H) (hS : va_S A s.heap H locs) (hrel : REL k MC MM) (hk : k < 1000) (hce : cells ≤ room_1.cells) (hsl : slots ≤ room_1.slots) (kk : ∀ (H : Heap) (locs : List Loc) (MC MM : TM), REL (k + 1) MC MM → LI D ca adC adM ao MC MM fo H → va_S A s.heap H locs → W p l e room_1 s m args below meth c H locs cells slots Q (F0 m 1443 ls [])) : W p l e room_1 s m args below meth c H locs cells slots Q (F0 m 681 ls []) := by
  obtain ⟨v, QC, QM, c1, c2, hR⟩ := show Bo hX11_say 2 hX12_say 3 [.int (xs (i + 1))] k MC.1 MC.2.1 MC.2.2 MM.1 MM.2.1 MM.2.2 from by
    obtain ⟨n, c, ns, a, p, q, z, rs, u, x, m, no, nc, N, ce, rv, t, h⟩ := hrel
    exact b_say h _
  obtain ⟨v, rfl⟩ := lw_int c1 (by first | exact Or.inl rfl | exact Or.inr rfl)
  refine lv_aload_n K.1.1 K.1.2.1 dL_law_681 rfl (lv_at hl 1 rfl) ?_
  refine lw_arg K hl hS 1 rfl (by decide) hi dL_law_682 dL_law_683 dL_law_685 dL_law_686 dL_law_687 ?_
  refine lw_cC (vs := [.int (xs (i + 1))]) (rest := []) hIX K.1 K.2.1 K.2.2.2.1 hl.1 lw_w_94 rfl c1 hI hS rfl (Nat.le_of_ble_eq_true rfl) rfl (by decide) (by decide) (by decide) hce hsl dL_law_688 (fun H locs r M1 h1 hI hS => ?_)
  obtain ⟨rfl, h1⟩ := h1
  refine lv_aload_n K.1.1 K.1.2.1 dL_law_691 rfl (lv_at hl 2 rfl) ?_
  refine lw_arg K hl hS 1 rfl (by decide) hi dL_law_692 dL_law_693 dL_law_695 dL_law_696 dL_law_697 ?_
  refine lw_cM (vs := [.int (xs (i + 1))]) (rest := [.int v]) hIX K.1 K.2.2.1 K.2.2.2.1 hl.1 lw_w_97 rfl c2 hI hS rfl (Nat.le_of_ble_eq_true rfl) rfl (Nat.le_of_ble_eq_true rfl) (by decide) (by decide) hce hsl dL_law_698 (fun H locs r M2 h2 hI hS => ?_)
  obtain ⟨rfl, h2⟩ := h2
  exact lw_eq K dL_law_701 (by decide) (kk _ _ _ _ (hR _ _ h1 h2) hI hS)
theorem la_16 (hIX : ti_IXok) (K : lw_K p s m args c D ca adC adM adV ao A b L xs) (hl : lv_has ls 8 (lw_ls b adC adM ao i)) (hi : i + 5 ≤ L) (hI : LI D ca adC adM ao MC MM fo H) (hS : va_S A s.heap H locs) (hrel : REL k MC MM) (hk : k < 1000) (hce : cells ≤ room_1.cells) (hsl : slots ≤ room_1.slots) (kk : ∀ (H : Heap) (locs : List Loc) (MC MM : TM), REL (k + 1) MC MM → LI D ca adC adM ao MC MM fo H → va_S A s.heap H locs → W p l e room_1 s m args below meth c H locs cells slots Q (F0 m 1443 ls [])) : W p l e room_1 s m args below meth c H locs cells slots Q (F0 m 706 ls []) := by
  obtain ⟨v, QC, QM, c1, c2, hR⟩ := show Bo hX11_walk 5 hX12_walk 3 [] k MC.1 MC.2.1 MC.2.2 MM.1 MM.2.1 MM.2.2 from by
    obtain ⟨n, c, ns, a, p, q, z, rs, u, x, m, no, nc, N, ce, rv, t, h⟩ := hrel
    exact b_walk h
  obtain ⟨v, rfl⟩ := lw_int c1 (by first | exact Or.inl rfl | exact Or.inr rfl)
  refine lv_aload_n K.1.1 K.1.2.1 dL_law_706 rfl (lv_at hl 1 rfl) ?_
  refine lw_cC (vs := []) (rest := []) hIX K.1 K.2.1 K.2.2.2.1 hl.1 lw_w_98 rfl c1 hI hS rfl (Nat.le_of_ble_eq_true rfl) rfl (by decide) (by decide) (by decide) hce hsl dL_law_707 (fun H locs r M1 h1 hI hS => ?_)
  obtain ⟨rfl, h1⟩ := h1
  refine lv_aload_n K.1.1 K.1.2.1 dL_law_710 rfl (lv_at hl 2 rfl) ?_
  refine lw_cM (vs := []) (rest := [.int v]) hIX K.1 K.2.2.1 K.2.2.2.1 hl.1 lw_w_101 rfl c2 hI hS rfl (Nat.le_of_ble_eq_true rfl) rfl (Nat.le_of_ble_eq_true rfl) (by decide) (by decide) hce hsl dL_law_711 (fun H locs r M2 h2 hI hS => ?_)
  obtain ⟨rfl, h2⟩ := h2
  exact lw_eq K dL_law_714 (by decide) (kk _ _ _ _ (hR _ _ h1 h2) hI hS)
theorem la_17 (hIX : ti_IXok) (K : lw_K p s m args c D ca adC adM adV ao A b L xs) (hl : lv_has ls 8 (lw_ls b adC adM ao i)) (hi : i + 5 ≤ L) (hI : LI D ca adC adM ao MC MM fo H) (hS : va_S A s.heap H locs) (hrel : REL k MC MM) (hk : k < 1000) (hce : cells ≤ room_1.cells) (hsl : slots ≤ room_1.slots) (kk : ∀ (H : Heap) (locs : List Loc) (MC MM : TM), REL (k + 1) MC MM → LI D ca adC adM ao MC MM fo H → va_S A s.heap H locs → W p l e room_1 s m args below meth c H locs cells slots Q (F0 m 1443 ls [])) : W p l e room_1 s m args below meth c H locs cells slots Q (F0 m 719 ls []) := by
  obtain ⟨v, QC, QM, c1, c2, hR⟩ := show Bo hX11_undo 1 hX12_undo 2 [] k MC.1 MC.2.1 MC.2.2 MM.1 MM.2.1 MM.2.2 from by
    obtain ⟨n, c, ns, a, p, q, z, rs, u, x, m, no, nc, N, ce, rv, t, h⟩ := hrel
    exact b_undo h
  obtain ⟨v, rfl⟩ := lw_int c1 (by first | exact Or.inl rfl | exact Or.inr rfl)
  refine lv_aload_n K.1.1 K.1.2.1 dL_law_719 rfl (lv_at hl 1 rfl) ?_
  refine lw_cC (vs := []) (rest := []) hIX K.1 K.2.1 K.2.2.2.1 hl.1 lw_w_102 rfl c1 hI hS rfl (Nat.le_of_ble_eq_true rfl) rfl (by decide) (by decide) (by decide) hce hsl dL_law_720 (fun H locs r M1 h1 hI hS => ?_)
  obtain ⟨rfl, h1⟩ := h1
  refine lv_aload_n K.1.1 K.1.2.1 dL_law_723 rfl (lv_at hl 2 rfl) ?_
  refine lw_cM (vs := []) (rest := [.int v]) hIX K.1 K.2.2.1 K.2.2.2.1 hl.1 lw_w_105 rfl c2 hI hS rfl (Nat.le_of_ble_eq_true rfl) rfl (Nat.le_of_ble_eq_true rfl) (by decide) (by decide) hce hsl dL_law_724 (fun H locs r M2 h2 hI hS => ?_)
  obtain ⟨rfl, h2⟩ := h2
  exact lw_eq K dL_law_727 (by decide) (kk _ _ _ _ (hR _ _ h1 h2) hI hS)
theorem la_18 (hIX : ti_IXok) (K : lw_K p s m args c D ca adC adM adV ao A b L xs) (hl : lv_has ls 8 (lw_ls b adC adM ao i)) (hi : i + 5 ≤ L) (hI : LI D ca adC adM ao MC MM fo H) (hS : va_S A s.heap H locs) (hrel : REL k MC MM) (hk : k < 1000) (hce : cells ≤ room_1.cells) (hsl : slots ≤ room_1.slots) (kk : ∀ (H : Heap) (locs : List Loc) (MC MM : TM), REL (k + 1) MC MM → LI D ca adC adM ao MC MM fo H → va_S A s.heap H locs → W p l e room_1 s m args below meth c H locs cells slots Q (F0 m 1443 ls [])) : W p l e room_1 s m args below meth c H locs cells slots Q (F0 m 732 ls []) := by
  obtain ⟨v, QC, QM, c1, c2, hR⟩ := show Bo hX11_ahead 2 hX12_ahead 5 [.int (xs (i + 1))] k MC.1 MC.2.1 MC.2.2 MM.1 MM.2.1 MM.2.2 from by
    obtain ⟨n, c, ns, a, p, q, z, rs, u, x, m, no, nc, N, ce, rv, t, h⟩ := hrel
    exact b_ahead h _
  obtain ⟨v, rfl⟩ := lw_int c1 (by first | exact Or.inl rfl | exact Or.inr rfl)
  refine lv_aload_n K.1.1 K.1.2.1 dL_law_732 rfl (lv_at hl 1 rfl) ?_
  refine lw_arg K hl hS 1 rfl (by decide) hi dL_law_733 dL_law_734 dL_law_736 dL_law_737 dL_law_738 ?_
  refine lw_cC (vs := [.int (xs (i + 1))]) (rest := []) hIX K.1 K.2.1 K.2.2.2.1 hl.1 lw_w_106 rfl c1 hI hS rfl (Nat.le_of_ble_eq_true rfl) rfl (by decide) (by decide) (by decide) hce hsl dL_law_739 (fun H locs r M1 h1 hI hS => ?_)
  obtain ⟨rfl, h1⟩ := h1
  refine lv_aload_n K.1.1 K.1.2.1 dL_law_742 rfl (lv_at hl 2 rfl) ?_
  refine lw_arg K hl hS 1 rfl (by decide) hi dL_law_743 dL_law_744 dL_law_746 dL_law_747 dL_law_748 ?_
  refine lw_cM (vs := [.int (xs (i + 1))]) (rest := [.int v]) hIX K.1 K.2.2.1 K.2.2.2.1 hl.1 lw_w_109 rfl c2 hI hS rfl (Nat.le_of_ble_eq_true rfl) rfl (Nat.le_of_ble_eq_true rfl) (by decide) (by decide) hce hsl dL_law_749 (fun H locs r M2 h2 hI hS => ?_)
  obtain ⟨rfl, h2⟩ := h2
  exact lw_eq K dL_law_752 (by decide) (kk _ _ _ _ (hR _ _ h1 h2) hI hS)
theorem la_19 (hIX : ti_IXok) (K : lw_K p s m args c D ca adC adM adV ao A b L xs) (hl : lv_has ls 8 (lw_ls b adC adM ao i)) (hi : i + 5 ≤ L) (hI : LI D ca adC adM ao MC MM fo H) (hS : va_S A s.heap H locs) (hrel : REL k MC MM) (hk : k < 1000) (hce : cells ≤ room_1.cells) (hsl : slots ≤ room_1.slots) (kk : ∀ (H : Heap) (locs : List Loc) (MC MM : TM), REL (k + 1) MC MM → LI D ca adC adM ao MC MM fo H → va_S A s.heap H locs → W p l e room_1 s m args below meth c H locs cells slots Q (F0 m 1443 ls [])) : W p l e room_1 s m args below meth c H locs cells slots Q (F0 m 757 ls []) := by
  obtain ⟨v, QC, QM, c1, c2, hR⟩ := show Bo hX11_first 1 hX12_first 2 [] k MC.1 MC.2.1 MC.2.2 MM.1 MM.2.1 MM.2.2 from by
    obtain ⟨n, c, ns, a, p, q, z, rs, u, x, m, no, nc, N, ce, rv, t, h⟩ := hrel
    exact b_first h
  obtain ⟨v, rfl⟩ := lw_int c1 (by first | exact Or.inl rfl | exact Or.inr rfl)
  refine lv_aload_n K.1.1 K.1.2.1 dL_law_757 rfl (lv_at hl 1 rfl) ?_
  refine lw_cC (vs := []) (rest := []) hIX K.1 K.2.1 K.2.2.2.1 hl.1 lw_w_110 rfl c1 hI hS rfl (Nat.le_of_ble_eq_true rfl) rfl (by decide) (by decide) (by decide) hce hsl dL_law_758 (fun H locs r M1 h1 hI hS => ?_)
  obtain ⟨rfl, h1⟩ := h1
  refine lv_aload_n K.1.1 K.1.2.1 dL_law_761 rfl (lv_at hl 2 rfl) ?_
  refine lw_cM (vs := []) (rest := [.int v]) hIX K.1 K.2.2.1 K.2.2.2.1 hl.1 lw_w_113 rfl c2 hI hS rfl (Nat.le_of_ble_eq_true rfl) rfl (Nat.le_of_ble_eq_true rfl) (by decide) (by decide) hce hsl dL_law_762 (fun H locs r M2 h2 hI hS => ?_)
  obtain ⟨rfl, h2⟩ := h2
  exact lw_eq K dL_law_765 (by decide) (kk _ _ _ _ (hR _ _ h1 h2) hI hS)
theorem la_20 (hIX : ti_IXok) (K : lw_K p s m args c D ca adC adM adV ao A b L xs) (hl : lv_has ls 8 (lw_ls b adC adM ao i)) (hi : i + 5 ≤ L) (hI : LI D ca adC adM ao MC MM fo H) (hS : va_S A s.heap H locs) (hrel : REL k MC MM) (hk : k < 1000) (hce : cells ≤ room_1.cells) (hsl : slots ≤ room_1.slots) (kk : ∀ (H : Heap) (locs : List Loc) (MC MM : TM), REL (k + 1) MC MM → LI D ca adC adM ao MC MM fo H → va_S A s.heap H locs → W p l e room_1 s m args below meth c H locs cells slots Q (F0 m 1443 ls [])) : W p l e room_1 s m args below meth c H locs cells slots Q (F0 m 770 ls []) := by
  obtain ⟨v, QC, QM, c1, c2, hR⟩ := show Bo hX11_bears 1 hX12_bears 2 [] k MC.1 MC.2.1 MC.2.2 MM.1 MM.2.1 MM.2.2 from by
    obtain ⟨n, c, ns, a, p, q, z, rs, u, x, m, no, nc, N, ce, rv, t, h⟩ := hrel
    exact b_bears h
  obtain ⟨v, rfl⟩ := lw_int c1 (by first | exact Or.inl rfl | exact Or.inr rfl)
  refine lv_aload_n K.1.1 K.1.2.1 dL_law_770 rfl (lv_at hl 1 rfl) ?_
  refine lw_cC (vs := []) (rest := []) hIX K.1 K.2.1 K.2.2.2.1 hl.1 lw_w_114 rfl c1 hI hS rfl (Nat.le_of_ble_eq_true rfl) rfl (by decide) (by decide) (by decide) hce hsl dL_law_771 (fun H locs r M1 h1 hI hS => ?_)
  obtain ⟨rfl, h1⟩ := h1
  refine lv_aload_n K.1.1 K.1.2.1 dL_law_774 rfl (lv_at hl 2 rfl) ?_
  refine lw_cM (vs := []) (rest := [.int v]) hIX K.1 K.2.2.1 K.2.2.2.1 hl.1 lw_w_117 rfl c2 hI hS rfl (Nat.le_of_ble_eq_true rfl) rfl (Nat.le_of_ble_eq_true rfl) (by decide) (by decide) hce hsl dL_law_775 (fun H locs r M2 h2 hI hS => ?_)
  obtain ⟨rfl, h2⟩ := h2
  exact lw_eq K dL_law_778 (by decide) (kk _ _ _ _ (hR _ _ h1 h2) hI hS)
theorem la_21 (hIX : ti_IXok) (K : lw_K p s m args c D ca adC adM adV ao A b L xs) (hl : lv_has ls 8 (lw_ls b adC adM ao i)) (hi : i + 5 ≤ L) (hI : LI D ca adC adM ao MC MM fo H) (hS : va_S A s.heap H locs) (hrel : REL k MC MM) (hk : k < 1000) (hce : cells ≤ room_1.cells) (hsl : slots ≤ room_1.slots) (kk : ∀ (H : Heap) (locs : List Loc) (MC MM : TM), REL (k + 1) MC MM → LI D ca adC adM ao MC MM fo H → va_S A s.heap H locs → W p l e room_1 s m args below meth c H locs cells slots Q (F0 m 1443 ls [])) : W p l e room_1 s m args below meth c H locs cells slots Q (F0 m 783 ls []) := by
  obtain ⟨v, QC, QM, c1, c2, hR⟩ := show Bo hX11_hush 1 hX12_hush 3 [] k MC.1 MC.2.1 MC.2.2 MM.1 MM.2.1 MM.2.2 from by
    obtain ⟨n, c, ns, a, p, q, z, rs, u, x, m, no, nc, N, ce, rv, t, h⟩ := hrel
    exact b_hush h
  obtain ⟨v, rfl⟩ := lw_int c1 (by first | exact Or.inl rfl | exact Or.inr rfl)
  refine lv_aload_n K.1.1 K.1.2.1 dL_law_783 rfl (lv_at hl 1 rfl) ?_
  refine lw_cC (vs := []) (rest := []) hIX K.1 K.2.1 K.2.2.2.1 hl.1 lw_w_118 rfl c1 hI hS rfl (Nat.le_of_ble_eq_true rfl) rfl (by decide) (by decide) (by decide) hce hsl dL_law_784 (fun H locs r M1 h1 hI hS => ?_)
  obtain ⟨rfl, h1⟩ := h1
  refine lv_aload_n K.1.1 K.1.2.1 dL_law_787 rfl (lv_at hl 2 rfl) ?_
  refine lw_cM (vs := []) (rest := [.int v]) hIX K.1 K.2.2.1 K.2.2.2.1 hl.1 lw_w_121 rfl c2 hI hS rfl (Nat.le_of_ble_eq_true rfl) rfl (Nat.le_of_ble_eq_true rfl) (by decide) (by decide) hce hsl dL_law_788 (fun H locs r M2 h2 hI hS => ?_)
  obtain ⟨rfl, h2⟩ := h2
  exact lw_eq K dL_law_791 (by decide) (kk _ _ _ _ (hR _ _ h1 h2) hI hS)
theorem la_22 (hIX : ti_IXok) (K : lw_K p s m args c D ca adC adM adV ao A b L xs) (hl : lv_has ls 8 (lw_ls b adC adM ao i)) (hi : i + 5 ≤ L) (hI : LI D ca adC adM ao MC MM fo H) (hS : va_S A s.heap H locs) (hrel : REL k MC MM) (hk : k < 1000) (hce : cells ≤ room_1.cells) (hsl : slots ≤ room_1.slots) (kk : ∀ (H : Heap) (locs : List Loc) (MC MM : TM), REL (k + 1) MC MM → LI D ca adC adM ao MC MM fo H → va_S A s.heap H locs → W p l e room_1 s m args below meth c H locs cells slots Q (F0 m 1443 ls [])) : W p l e room_1 s m args below meth c H locs cells slots Q (F0 m 796 ls []) := by
  obtain ⟨v, QC, QM, c1, c2, hR⟩ := show Bo hX11_which 1 hX12_which 5 [] k MC.1 MC.2.1 MC.2.2 MM.1 MM.2.1 MM.2.2 from by
    obtain ⟨n, c, ns, a, p, q, z, rs, u, x, m, no, nc, N, ce, rv, t, h⟩ := hrel
    exact b_which h
  obtain ⟨v, rfl⟩ := lw_int c1 (by first | exact Or.inl rfl | exact Or.inr rfl)
  refine lv_aload_n K.1.1 K.1.2.1 dL_law_796 rfl (lv_at hl 1 rfl) ?_
  refine lw_cC (vs := []) (rest := []) hIX K.1 K.2.1 K.2.2.2.1 hl.1 lw_w_122 rfl c1 hI hS rfl (Nat.le_of_ble_eq_true rfl) rfl (by decide) (by decide) (by decide) hce hsl dL_law_797 (fun H locs r M1 h1 hI hS => ?_)
  obtain ⟨rfl, h1⟩ := h1
  refine lv_aload_n K.1.1 K.1.2.1 dL_law_800 rfl (lv_at hl 2 rfl) ?_
  refine lw_cM (vs := []) (rest := [.int v]) hIX K.1 K.2.2.1 K.2.2.2.1 hl.1 lw_w_125 rfl c2 hI hS rfl (Nat.le_of_ble_eq_true rfl) rfl (Nat.le_of_ble_eq_true rfl) (by decide) (by decide) hce hsl dL_law_801 (fun H locs r M2 h2 hI hS => ?_)
  obtain ⟨rfl, h2⟩ := h2
  exact lw_eq K dL_law_804 (by decide) (kk _ _ _ _ (hR _ _ h1 h2) hI hS)
theorem la_23 (hIX : ti_IXok) (K : lw_K p s m args c D ca adC adM adV ao A b L xs) (hl : lv_has ls 8 (lw_ls b adC adM ao i)) (hi : i + 5 ≤ L) (hI : LI D ca adC adM ao MC MM fo H) (hS : va_S A s.heap H locs) (hrel : REL k MC MM) (hk : k < 1000) (hce : cells ≤ room_1.cells) (hsl : slots ≤ room_1.slots) (kk : ∀ (H : Heap) (locs : List Loc) (MC MM : TM), REL (k + 1) MC MM → LI D ca adC adM ao MC MM fo H → va_S A s.heap H locs → W p l e room_1 s m args below meth c H locs cells slots Q (F0 m 1443 ls [])) : W p l e room_1 s m args below meth c H locs cells slots Q (F0 m 809 ls []) := by
  obtain ⟨v, QC, QM, c1, c2, hR⟩ := show Bo hX11_could 1 hX12_could 5 [] k MC.1 MC.2.1 MC.2.2 MM.1 MM.2.1 MM.2.2 from by
    obtain ⟨n, c, ns, a, p, q, z, rs, u, x, m, no, nc, N, ce, rv, t, h⟩ := hrel
    exact b_could h
  obtain ⟨v, rfl⟩ := lw_int c1 (by first | exact Or.inl rfl | exact Or.inr rfl)
  refine lv_aload_n K.1.1 K.1.2.1 dL_law_809 rfl (lv_at hl 1 rfl) ?_
  refine lw_cC (vs := []) (rest := []) hIX K.1 K.2.1 K.2.2.2.1 hl.1 lw_w_126 rfl c1 hI hS rfl (Nat.le_of_ble_eq_true rfl) rfl (by decide) (by decide) (by decide) hce hsl dL_law_810 (fun H locs r M1 h1 hI hS => ?_)
  obtain ⟨rfl, h1⟩ := h1
  refine lv_aload_n K.1.1 K.1.2.1 dL_law_813 rfl (lv_at hl 2 rfl) ?_
  refine lw_cM (vs := []) (rest := [.int v]) hIX K.1 K.2.2.1 K.2.2.2.1 hl.1 lw_w_129 rfl c2 hI hS rfl (Nat.le_of_ble_eq_true rfl) rfl (Nat.le_of_ble_eq_true rfl) (by decide) (by decide) hce hsl dL_law_814 (fun H locs r M2 h2 hI hS => ?_)
  obtain ⟨rfl, h2⟩ := h2
  exact lw_eq K dL_law_817 (by decide) (kk _ _ _ _ (hR _ _ h1 h2) hI hS)
theorem la_24 (hIX : ti_IXok) (K : lw_K p s m args c D ca adC adM adV ao A b L xs) (hl : lv_has ls 8 (lw_ls b adC adM ao i)) (hi : i + 5 ≤ L) (hI : LI D ca adC adM ao MC MM fo H) (hS : va_S A s.heap H locs) (hrel : REL k MC MM) (hk : k < 1000) (hce : cells ≤ room_1.cells) (hsl : slots ≤ room_1.slots) (kk : ∀ (H : Heap) (locs : List Loc) (MC MM : TM), REL (k + 1) MC MM → LI D ca adC adM ao MC MM fo H → va_S A s.heap H locs → W p l e room_1 s m args below meth c H locs cells slots Q (F0 m 1443 ls [])) : W p l e room_1 s m args below meth c H locs cells slots Q (F0 m 822 ls []) := by
  obtain ⟨v, QC, QM, c1, c2, hR⟩ := show Bo hX11_team 2 hX12_team 5 [.int (xs (i + 1))] k MC.1 MC.2.1 MC.2.2 MM.1 MM.2.1 MM.2.2 from by
    obtain ⟨n, c, ns, a, p, q, z, rs, u, x, m, no, nc, N, ce, rv, t, h⟩ := hrel
    exact b_team h _
  obtain ⟨v, rfl⟩ := lw_int c1 (by first | exact Or.inl rfl | exact Or.inr rfl)
  refine lv_aload_n K.1.1 K.1.2.1 dL_law_822 rfl (lv_at hl 1 rfl) ?_
  refine lw_arg K hl hS 1 rfl (by decide) hi dL_law_823 dL_law_824 dL_law_826 dL_law_827 dL_law_828 ?_
  refine lw_cC (vs := [.int (xs (i + 1))]) (rest := []) hIX K.1 K.2.1 K.2.2.2.1 hl.1 lw_w_130 rfl c1 hI hS rfl (Nat.le_of_ble_eq_true rfl) rfl (by decide) (by decide) (by decide) hce hsl dL_law_829 (fun H locs r M1 h1 hI hS => ?_)
  obtain ⟨rfl, h1⟩ := h1
  refine lv_aload_n K.1.1 K.1.2.1 dL_law_832 rfl (lv_at hl 2 rfl) ?_
  refine lw_arg K hl hS 1 rfl (by decide) hi dL_law_833 dL_law_834 dL_law_836 dL_law_837 dL_law_838 ?_
  refine lw_cM (vs := [.int (xs (i + 1))]) (rest := [.int v]) hIX K.1 K.2.2.1 K.2.2.2.1 hl.1 lw_w_133 rfl c2 hI hS rfl (Nat.le_of_ble_eq_true rfl) rfl (Nat.le_of_ble_eq_true rfl) (by decide) (by decide) hce hsl dL_law_839 (fun H locs r M2 h2 hI hS => ?_)
  obtain ⟨rfl, h2⟩ := h2
  exact lw_eq K dL_law_842 (by decide) (kk _ _ _ _ (hR _ _ h1 h2) hI hS)
theorem la_25 (hIX : ti_IXok) (K : lw_K p s m args c D ca adC adM adV ao A b L xs) (hl : lv_has ls 8 (lw_ls b adC adM ao i)) (hi : i + 5 ≤ L) (hI : LI D ca adC adM ao MC MM fo H) (hS : va_S A s.heap H locs) (hrel : REL k MC MM) (hk : k < 1000) (hce : cells ≤ room_1.cells) (hsl : slots ≤ room_1.slots) (kk : ∀ (H : Heap) (locs : List Loc) (MC MM : TM), REL (k + 1) MC MM → LI D ca adC adM ao MC MM fo H → va_S A s.heap H locs → W p l e room_1 s m args below meth c H locs cells slots Q (F0 m 1443 ls [])) : W p l e room_1 s m args below meth c H locs cells slots Q (F0 m 847 ls []) := by
  obtain ⟨v, QC, QM, c1, c2, hR⟩ := show Bo hX11_fewest 1 hX12_fewest 4 [] k MC.1 MC.2.1 MC.2.2 MM.1 MM.2.1 MM.2.2 from by
    obtain ⟨n, c, ns, a, p, q, z, rs, u, x, m, no, nc, N, ce, rv, t, h⟩ := hrel
    exact b_fewest h
  obtain ⟨v, rfl⟩ := lw_int c1 (by first | exact Or.inl rfl | exact Or.inr rfl)
  refine lv_aload_n K.1.1 K.1.2.1 dL_law_847 rfl (lv_at hl 1 rfl) ?_
  refine lw_cC (vs := []) (rest := []) hIX K.1 K.2.1 K.2.2.2.1 hl.1 lw_w_134 rfl c1 hI hS rfl (Nat.le_of_ble_eq_true rfl) rfl (by decide) (by decide) (by decide) hce hsl dL_law_848 (fun H locs r M1 h1 hI hS => ?_)
  obtain ⟨rfl, h1⟩ := h1
  refine lv_aload_n K.1.1 K.1.2.1 dL_law_851 rfl (lv_at hl 2 rfl) ?_
  refine lw_cM (vs := []) (rest := [.int v]) hIX K.1 K.2.2.1 K.2.2.2.1 hl.1 lw_w_137 rfl c2 hI hS rfl (Nat.le_of_ble_eq_true rfl) rfl (Nat.le_of_ble_eq_true rfl) (by decide) (by decide) hce hsl dL_law_852 (fun H locs r M2 h2 hI hS => ?_)
  obtain ⟨rfl, h2⟩ := h2
  exact lw_eq K dL_law_855 (by decide) (kk _ _ _ _ (hR _ _ h1 h2) hI hS)
theorem la_26 (hIX : ti_IXok) (K : lw_K p s m args c D ca adC adM adV ao A b L xs) (hl : lv_has ls 8 (lw_ls b adC adM ao i)) (hi : i + 5 ≤ L) (hI : LI D ca adC adM ao MC MM fo H) (hS : va_S A s.heap H locs) (hrel : REL k MC MM) (hk : k < 1000) (hce : cells ≤ room_1.cells) (hsl : slots ≤ room_1.slots) (kk : ∀ (H : Heap) (locs : List Loc) (MC MM : TM), REL (k + 1) MC MM → LI D ca adC adM ao MC MM fo H → va_S A s.heap H locs → W p l e room_1 s m args below meth c H locs cells slots Q (F0 m 1443 ls [])) : W p l e room_1 s m args below meth c H locs cells slots Q (F0 m 860 ls []) := by
  obtain ⟨v, QC, QM, c1, c2, hR⟩ := show Bo hX11_change 1 hX12_change 8 [] k MC.1 MC.2.1 MC.2.2 MM.1 MM.2.1 MM.2.2 from by
    obtain ⟨n, c, ns, a, p, q, z, rs, u, x, m, no, nc, N, ce, rv, t, h⟩ := hrel
    exact b_change h
  obtain ⟨v, rfl⟩ := lw_int c1 (by first | exact Or.inl rfl | exact Or.inr rfl)
  refine lv_aload_n K.1.1 K.1.2.1 dL_law_860 rfl (lv_at hl 1 rfl) ?_
  refine lw_cC (vs := []) (rest := []) hIX K.1 K.2.1 K.2.2.2.1 hl.1 lw_w_138 rfl c1 hI hS rfl (Nat.le_of_ble_eq_true rfl) rfl (by decide) (by decide) (by decide) hce hsl dL_law_861 (fun H locs r M1 h1 hI hS => ?_)
  obtain ⟨rfl, h1⟩ := h1
  refine lv_aload_n K.1.1 K.1.2.1 dL_law_864 rfl (lv_at hl 2 rfl) ?_
  refine lw_cM (vs := []) (rest := [.int v]) hIX K.1 K.2.2.1 K.2.2.2.1 hl.1 lw_w_141 rfl c2 hI hS rfl (Nat.le_of_ble_eq_true rfl) rfl (Nat.le_of_ble_eq_true rfl) (by decide) (by decide) hce hsl dL_law_865 (fun H locs r M2 h2 hI hS => ?_)
  obtain ⟨rfl, h2⟩ := h2
  exact lw_eq K dL_law_868 (by decide) (kk _ _ _ _ (hR _ _ h1 h2) hI hS)
theorem la_27 (hIX : ti_IXok) (K : lw_K p s m args c D ca adC adM adV ao A b L xs) (hl : lv_has ls 8 (lw_ls b adC adM ao i)) (hi : i + 5 ≤ L) (hI : LI D ca adC adM ao MC MM fo H) (hS : va_S A s.heap H locs) (hrel : REL k MC MM) (hk : k < 1000) (hce : cells ≤ room_1.cells) (hsl : slots ≤ room_1.slots) (kk : ∀ (H : Heap) (locs : List Loc) (MC MM : TM), REL (k + 1) MC MM → LI D ca adC adM ao MC MM fo H → va_S A s.heap H locs → W p l e room_1 s m args below meth c H locs cells slots Q (F0 m 1443 ls [])) : W p l e room_1 s m args below meth c H locs cells slots Q (F0 m 873 ls []) := by
  obtain ⟨v, QC, QM, c1, c2, hR⟩ := show Bo hX11_props 1 hX12_props 4 [] k MC.1 MC.2.1 MC.2.2 MM.1 MM.2.1 MM.2.2 from by
    obtain ⟨n, c, ns, a, p, q, z, rs, u, x, m, no, nc, N, ce, rv, t, h⟩ := hrel
    exact b_props h
  obtain ⟨v, rfl⟩ := lw_int c1 (by first | exact Or.inl rfl | exact Or.inr rfl)
  refine lv_aload_n K.1.1 K.1.2.1 dL_law_873 rfl (lv_at hl 1 rfl) ?_
  refine lw_cC (vs := []) (rest := []) hIX K.1 K.2.1 K.2.2.2.1 hl.1 lw_w_142 rfl c1 hI hS rfl (Nat.le_of_ble_eq_true rfl) rfl (by decide) (by decide) (by decide) hce hsl dL_law_874 (fun H locs r M1 h1 hI hS => ?_)
  obtain ⟨rfl, h1⟩ := h1
  refine lv_aload_n K.1.1 K.1.2.1 dL_law_877 rfl (lv_at hl 2 rfl) ?_
  refine lw_cM (vs := []) (rest := [.int v]) hIX K.1 K.2.2.1 K.2.2.2.1 hl.1 lw_w_145 rfl c2 hI hS rfl (Nat.le_of_ble_eq_true rfl) rfl (Nat.le_of_ble_eq_true rfl) (by decide) (by decide) hce hsl dL_law_878 (fun H locs r M2 h2 hI hS => ?_)
  obtain ⟨rfl, h2⟩ := h2
  exact lw_eq K dL_law_881 (by decide) (kk _ _ _ _ (hR _ _ h1 h2) hI hS)
theorem la_28 (hIX : ti_IXok) (K : lw_K p s m args c D ca adC adM adV ao A b L xs) (hl : lv_has ls 8 (lw_ls b adC adM ao i)) (hi : i + 5 ≤ L) (hI : LI D ca adC adM ao MC MM fo H) (hS : va_S A s.heap H locs) (hrel : REL k MC MM) (hk : k < 1000) (hce : cells ≤ room_1.cells) (hsl : slots ≤ room_1.slots) (kk : ∀ (H : Heap) (locs : List Loc) (MC MM : TM), REL (k + 1) MC MM → LI D ca adC adM ao MC MM fo H → va_S A s.heap H locs → W p l e room_1 s m args below meth c H locs cells slots Q (F0 m 1443 ls [])) : W p l e room_1 s m args below meth c H locs cells slots Q (F0 m 886 ls []) := by
  obtain ⟨v, QC, QM, c1, c2, hR⟩ := show Bo hX11_rest 2 hX12_rest 2 [.int (xs (i + 1))] k MC.1 MC.2.1 MC.2.2 MM.1 MM.2.1 MM.2.2 from by
    obtain ⟨n, c, ns, a, p, q, z, rs, u, x, m, no, nc, N, ce, rv, t, h⟩ := hrel
    exact b_rest h _
  obtain ⟨v, rfl⟩ := lw_int c1 (by first | exact Or.inl rfl | exact Or.inr rfl)
  refine lv_aload_n K.1.1 K.1.2.1 dL_law_886 rfl (lv_at hl 1 rfl) ?_
  refine lw_arg K hl hS 1 rfl (by decide) hi dL_law_887 dL_law_888 dL_law_890 dL_law_891 dL_law_892 ?_
  refine lw_cC (vs := [.int (xs (i + 1))]) (rest := []) hIX K.1 K.2.1 K.2.2.2.1 hl.1 lw_w_146 rfl c1 hI hS rfl (Nat.le_of_ble_eq_true rfl) rfl (by decide) (by decide) (by decide) hce hsl dL_law_893 (fun H locs r M1 h1 hI hS => ?_)
  obtain ⟨rfl, h1⟩ := h1
  refine lv_aload_n K.1.1 K.1.2.1 dL_law_896 rfl (lv_at hl 2 rfl) ?_
  refine lw_arg K hl hS 1 rfl (by decide) hi dL_law_897 dL_law_898 dL_law_900 dL_law_901 dL_law_902 ?_
  refine lw_cM (vs := [.int (xs (i + 1))]) (rest := [.int v]) hIX K.1 K.2.2.1 K.2.2.2.1 hl.1 lw_w_149 rfl c2 hI hS rfl (Nat.le_of_ble_eq_true rfl) rfl (Nat.le_of_ble_eq_true rfl) (by decide) (by decide) hce hsl dL_law_903 (fun H locs r M2 h2 hI hS => ?_)
  obtain ⟨rfl, h2⟩ := h2
  exact lw_eq K dL_law_906 (by decide) (kk _ _ _ _ (hR _ _ h1 h2) hI hS)
theorem la_29 (hIX : ti_IXok) (K : lw_K p s m args c D ca adC adM adV ao A b L xs) (hl : lv_has ls 8 (lw_ls b adC adM ao i)) (hi : i + 5 ≤ L) (hI : LI D ca adC adM ao MC MM fo H) (hS : va_S A s.heap H locs) (hrel : REL k MC MM) (hk : k < 1000) (hce : cells ≤ room_1.cells) (hsl : slots ≤ room_1.slots) (kk : ∀ (H : Heap) (locs : List Loc) (MC MM : TM), REL (k + 1) MC MM → LI D ca adC adM ao MC MM fo H → va_S A s.heap H locs → W p l e room_1 s m args below meth c H locs cells slots Q (F0 m 1443 ls [])) : W p l e room_1 s m args below meth c H locs cells slots Q (F0 m 911 ls []) := by
  obtain ⟨v, QC, QM, c1, c2, hR⟩ := show Bo hX11_slant 1 hX12_slant 7 [] k MC.1 MC.2.1 MC.2.2 MM.1 MM.2.1 MM.2.2 from by
    obtain ⟨n, c, ns, a, p, q, z, rs, u, x, m, no, nc, N, ce, rv, t, h⟩ := hrel
    exact b_slant h
  obtain ⟨v, rfl⟩ := lw_int c1 (by first | exact Or.inl rfl | exact Or.inr rfl)
  refine lv_aload_n K.1.1 K.1.2.1 dL_law_911 rfl (lv_at hl 1 rfl) ?_
  refine lw_cC (vs := []) (rest := []) hIX K.1 K.2.1 K.2.2.2.1 hl.1 lw_w_150 rfl c1 hI hS rfl (Nat.le_of_ble_eq_true rfl) rfl (by decide) (by decide) (by decide) hce hsl dL_law_912 (fun H locs r M1 h1 hI hS => ?_)
  obtain ⟨rfl, h1⟩ := h1
  refine lv_aload_n K.1.1 K.1.2.1 dL_law_915 rfl (lv_at hl 2 rfl) ?_
  refine lw_cM (vs := []) (rest := [.int v]) hIX K.1 K.2.2.1 K.2.2.2.1 hl.1 lw_w_153 rfl c2 hI hS rfl (Nat.le_of_ble_eq_true rfl) rfl (Nat.le_of_ble_eq_true rfl) (by decide) (by decide) hce hsl dL_law_916 (fun H locs r M2 h2 hI hS => ?_)
  obtain ⟨rfl, h2⟩ := h2
  exact lw_eq K dL_law_919 (by decide) (kk _ _ _ _ (hR _ _ h1 h2) hI hS)
theorem la_30 (hIX : ti_IXok) (K : lw_K p s m args c D ca adC adM adV ao A b L xs) (hl : lv_has ls 8 (lw_ls b adC adM ao i)) (hi : i + 5 ≤ L) (hI : LI D ca adC adM ao MC MM fo H) (hS : va_S A s.heap H locs) (hrel : REL k MC MM) (hk : k < 1000) (hce : cells ≤ room_1.cells) (hsl : slots ≤ room_1.slots) (kk : ∀ (H : Heap) (locs : List Loc) (MC MM : TM), REL (k + 1) MC MM → LI D ca adC adM ao MC MM fo H → va_S A s.heap H locs → W p l e room_1 s m args below meth c H locs cells slots Q (F0 m 1443 ls [])) : W p l e room_1 s m args below meth c H locs cells slots Q (F0 m 924 ls []) := by
  obtain ⟨v, QC, QM, c1, c2, hR⟩ := show Bo hX11_cover 2 hX12_cover 4 [.int (xs (i + 1))] k MC.1 MC.2.1 MC.2.2 MM.1 MM.2.1 MM.2.2 from by
    obtain ⟨n, c, ns, a, p, q, z, rs, u, x, m, no, nc, N, ce, rv, t, h⟩ := hrel
    exact b_cover h _
  obtain ⟨v, rfl⟩ := lw_int c1 (by first | exact Or.inl rfl | exact Or.inr rfl)
  refine lv_aload_n K.1.1 K.1.2.1 dL_law_924 rfl (lv_at hl 1 rfl) ?_
  refine lw_arg K hl hS 1 rfl (by decide) hi dL_law_925 dL_law_926 dL_law_928 dL_law_929 dL_law_930 ?_
  refine lw_cC (vs := [.int (xs (i + 1))]) (rest := []) hIX K.1 K.2.1 K.2.2.2.1 hl.1 lw_w_154 rfl c1 hI hS rfl (Nat.le_of_ble_eq_true rfl) rfl (by decide) (by decide) (by decide) hce hsl dL_law_931 (fun H locs r M1 h1 hI hS => ?_)
  obtain ⟨rfl, h1⟩ := h1
  refine lv_aload_n K.1.1 K.1.2.1 dL_law_934 rfl (lv_at hl 2 rfl) ?_
  refine lw_arg K hl hS 1 rfl (by decide) hi dL_law_935 dL_law_936 dL_law_938 dL_law_939 dL_law_940 ?_
  refine lw_cM (vs := [.int (xs (i + 1))]) (rest := [.int v]) hIX K.1 K.2.2.1 K.2.2.2.1 hl.1 lw_w_157 rfl c2 hI hS rfl (Nat.le_of_ble_eq_true rfl) rfl (Nat.le_of_ble_eq_true rfl) (by decide) (by decide) hce hsl dL_law_941 (fun H locs r M2 h2 hI hS => ?_)
  obtain ⟨rfl, h2⟩ := h2
  exact lw_eq K dL_law_944 (by decide) (kk _ _ _ _ (hR _ _ h1 h2) hI hS)
theorem la_31 (hIX : ti_IXok) (K : lw_K p s m args c D ca adC adM adV ao A b L xs) (hl : lv_has ls 8 (lw_ls b adC adM ao i)) (hi : i + 5 ≤ L) (hI : LI D ca adC adM ao MC MM fo H) (hS : va_S A s.heap H locs) (hrel : REL k MC MM) (hk : k < 1000) (hce : cells ≤ room_1.cells) (hsl : slots ≤ room_1.slots) (kk : ∀ (H : Heap) (locs : List Loc) (MC MM : TM), REL (k + 1) MC MM → LI D ca adC adM ao MC MM fo H → va_S A s.heap H locs → W p l e room_1 s m args below meth c H locs cells slots Q (F0 m 1443 ls [])) : W p l e room_1 s m args below meth c H locs cells slots Q (F0 m 949 ls []) := by
  obtain ⟨v, QC, QM, c1, c2, hR⟩ := show Bo hX11_lighter 3 hX12_lighter 2 [.int (xs (i + 1))] k MC.1 MC.2.1 MC.2.2 MM.1 MM.2.1 MM.2.2 from by
    obtain ⟨n, c, ns, a, p, q, z, rs, u, x, m, no, nc, N, ce, rv, t, h⟩ := hrel
    exact b_lighter h _
  obtain ⟨v, rfl⟩ := lw_int c1 (by first | exact Or.inl rfl | exact Or.inr rfl)
  refine lv_aload_n K.1.1 K.1.2.1 dL_law_949 rfl (lv_at hl 1 rfl) ?_
  refine lw_arg K hl hS 1 rfl (by decide) hi dL_law_950 dL_law_951 dL_law_953 dL_law_954 dL_law_955 ?_
  refine lw_cC (vs := [.int (xs (i + 1))]) (rest := []) hIX K.1 K.2.1 K.2.2.2.1 hl.1 lw_w_158 rfl c1 hI hS rfl (Nat.le_of_ble_eq_true rfl) rfl (by decide) (by decide) (by decide) hce hsl dL_law_956 (fun H locs r M1 h1 hI hS => ?_)
  obtain ⟨rfl, h1⟩ := h1
  refine lv_aload_n K.1.1 K.1.2.1 dL_law_959 rfl (lv_at hl 2 rfl) ?_
  refine lw_arg K hl hS 1 rfl (by decide) hi dL_law_960 dL_law_961 dL_law_963 dL_law_964 dL_law_965 ?_
  refine lw_cM (vs := [.int (xs (i + 1))]) (rest := [.int v]) hIX K.1 K.2.2.1 K.2.2.2.1 hl.1 lw_w_161 rfl c2 hI hS rfl (Nat.le_of_ble_eq_true rfl) rfl (Nat.le_of_ble_eq_true rfl) (by decide) (by decide) hce hsl dL_law_966 (fun H locs r M2 h2 hI hS => ?_)
  obtain ⟨rfl, h2⟩ := h2
  exact lw_eq K dL_law_969 (by decide) (kk _ _ _ _ (hR _ _ h1 h2) hI hS)
theorem la_32 (hIX : ti_IXok) (K : lw_K p s m args c D ca adC adM adV ao A b L xs) (hl : lv_has ls 8 (lw_ls b adC adM ao i)) (hi : i + 5 ≤ L) (hI : LI D ca adC adM ao MC MM fo H) (hS : va_S A s.heap H locs) (hrel : REL k MC MM) (hk : k < 1000) (hce : cells ≤ room_1.cells) (hsl : slots ≤ room_1.slots) (kk : ∀ (H : Heap) (locs : List Loc) (MC MM : TM), REL (k + 1) MC MM → LI D ca adC adM ao MC MM fo H → va_S A s.heap H locs → W p l e room_1 s m args below meth c H locs cells slots Q (F0 m 1443 ls [])) : W p l e room_1 s m args below meth c H locs cells slots Q (F0 m 974 ls []) := by
  obtain ⟨v, QC, QM, c1, c2, hR⟩ := show Bo hX11_secret 2 hX12_secret 4 [.int (xs (i + 1))] k MC.1 MC.2.1 MC.2.2 MM.1 MM.2.1 MM.2.2 from by
    obtain ⟨n, c, ns, a, p, q, z, rs, u, x, m, no, nc, N, ce, rv, t, h⟩ := hrel
    exact b_secret h _
  obtain ⟨v, rfl⟩ := lw_int c1 (by first | exact Or.inl rfl | exact Or.inr rfl)
  refine lv_aload_n K.1.1 K.1.2.1 dL_law_974 rfl (lv_at hl 1 rfl) ?_
  refine lw_arg K hl hS 1 rfl (by decide) hi dL_law_975 dL_law_976 dL_law_978 dL_law_979 dL_law_980 ?_
  refine lw_cC (vs := [.int (xs (i + 1))]) (rest := []) hIX K.1 K.2.1 K.2.2.2.1 hl.1 lw_w_162 rfl c1 hI hS rfl (Nat.le_of_ble_eq_true rfl) rfl (by decide) (by decide) (by decide) hce hsl dL_law_981 (fun H locs r M1 h1 hI hS => ?_)
  obtain ⟨rfl, h1⟩ := h1
  refine lv_aload_n K.1.1 K.1.2.1 dL_law_984 rfl (lv_at hl 2 rfl) ?_
  refine lw_arg K hl hS 1 rfl (by decide) hi dL_law_985 dL_law_986 dL_law_988 dL_law_989 dL_law_990 ?_
  refine lw_cM (vs := [.int (xs (i + 1))]) (rest := [.int v]) hIX K.1 K.2.2.1 K.2.2.2.1 hl.1 lw_w_165 rfl c2 hI hS rfl (Nat.le_of_ble_eq_true rfl) rfl (Nat.le_of_ble_eq_true rfl) (by decide) (by decide) hce hsl dL_law_991 (fun H locs r M2 h2 hI hS => ?_)
  obtain ⟨rfl, h2⟩ := h2
  exact lw_eq K dL_law_994 (by decide) (kk _ _ _ _ (hR _ _ h1 h2) hI hS)
theorem la_33 (hIX : ti_IXok) (K : lw_K p s m args c D ca adC adM adV ao A b L xs) (hl : lv_has ls 8 (lw_ls b adC adM ao i)) (hi : i + 5 ≤ L) (hI : LI D ca adC adM ao MC MM fo H) (hS : va_S A s.heap H locs) (hrel : REL k MC MM) (hk : k < 1000) (hce : cells ≤ room_1.cells) (hsl : slots ≤ room_1.slots) (kk : ∀ (H : Heap) (locs : List Loc) (MC MM : TM), REL (k + 1) MC MM → LI D ca adC adM ao MC MM fo H → va_S A s.heap H locs → W p l e room_1 s m args below meth c H locs cells slots Q (F0 m 1443 ls [])) : W p l e room_1 s m args below meth c H locs cells slots Q (F0 m 999 ls []) := by
  obtain ⟨v, QC, QM, c1, c2, hR⟩ := show Bo hX11_best 1 hX12_best 4 [] k MC.1 MC.2.1 MC.2.2 MM.1 MM.2.1 MM.2.2 from by
    obtain ⟨n, c, ns, a, p, q, z, rs, u, x, m, no, nc, N, ce, rv, t, h⟩ := hrel
    exact b_best h
  obtain ⟨v, rfl⟩ := lw_int c1 (by first | exact Or.inl rfl | exact Or.inr rfl)
  refine lv_aload_n K.1.1 K.1.2.1 dL_law_999 rfl (lv_at hl 1 rfl) ?_
  refine lw_cC (vs := []) (rest := []) hIX K.1 K.2.1 K.2.2.2.1 hl.1 lw_w_166 rfl c1 hI hS rfl (Nat.le_of_ble_eq_true rfl) rfl (by decide) (by decide) (by decide) hce hsl dL_law_1000 (fun H locs r M1 h1 hI hS => ?_)
  obtain ⟨rfl, h1⟩ := h1
  refine lv_aload_n K.1.1 K.1.2.1 dL_law_1003 rfl (lv_at hl 2 rfl) ?_
  refine lw_cM (vs := []) (rest := [.int v]) hIX K.1 K.2.2.1 K.2.2.2.1 hl.1 lw_w_169 rfl c2 hI hS rfl (Nat.le_of_ble_eq_true rfl) rfl (Nat.le_of_ble_eq_true rfl) (by decide) (by decide) hce hsl dL_law_1004 (fun H locs r M2 h2 hI hS => ?_)
  obtain ⟨rfl, h2⟩ := h2
  exact lw_eq K dL_law_1007 (by decide) (kk _ _ _ _ (hR _ _ h1 h2) hI hS)
theorem la_34 (hIX : ti_IXok) (K : lw_K p s m args c D ca adC adM adV ao A b L xs) (hl : lv_has ls 8 (lw_ls b adC adM ao i)) (hi : i + 5 ≤ L) (hI : LI D ca adC adM ao MC MM fo H) (hS : va_S A s.heap H locs) (hrel : REL k MC MM) (hk : k < 1000) (hce : cells ≤ room_1.cells) (hsl : slots ≤ room_1.slots) (kk : ∀ (H : Heap) (locs : List Loc) (MC MM : TM), REL (k + 1) MC MM → LI D ca adC adM ao MC MM fo H → va_S A s.heap H locs → W p l e room_1 s m args below meth c H locs cells slots Q (F0 m 1443 ls [])) : W p l e room_1 s m args below meth c H locs cells slots Q (F0 m 1012 ls []) := by
  obtain ⟨v, QC, QM, c1, c2, hR⟩ := show Bo hX11_old 3 hX12_old 3 [.int (xs (i + 1)), .int (xs (i + 2))] k MC.1 MC.2.1 MC.2.2 MM.1 MM.2.1 MM.2.2 from by
    obtain ⟨n, c, ns, a, p, q, z, rs, u, x, m, no, nc, N, ce, rv, t, h⟩ := hrel
    exact b_old h _ _
  obtain ⟨v, rfl⟩ := lw_int c1 (by first | exact Or.inl rfl | exact Or.inr rfl)
  refine lv_aload_n K.1.1 K.1.2.1 dL_law_1012 rfl (lv_at hl 1 rfl) ?_
  refine lw_arg K hl hS 1 rfl (by decide) hi dL_law_1013 dL_law_1014 dL_law_1016 dL_law_1017 dL_law_1018 ?_
  refine lw_arg K hl hS 2 rfl (by decide) hi dL_law_1019 dL_law_1020 dL_law_1022 dL_law_1023 dL_law_1024 ?_
  refine lw_cC (vs := [.int (xs (i + 1)), .int (xs (i + 2))]) (rest := []) hIX K.1 K.2.1 K.2.2.2.1 hl.1 lw_w_170 rfl c1 hI hS rfl (Nat.le_of_ble_eq_true rfl) rfl (by decide) (by decide) (by decide) hce hsl dL_law_1025 (fun H locs r M1 h1 hI hS => ?_)
  obtain ⟨rfl, h1⟩ := h1
  refine lv_aload_n K.1.1 K.1.2.1 dL_law_1028 rfl (lv_at hl 2 rfl) ?_
  refine lw_arg K hl hS 1 rfl (by decide) hi dL_law_1029 dL_law_1030 dL_law_1032 dL_law_1033 dL_law_1034 ?_
  refine lw_arg K hl hS 2 rfl (by decide) hi dL_law_1035 dL_law_1036 dL_law_1038 dL_law_1039 dL_law_1040 ?_
  refine lw_cM (vs := [.int (xs (i + 1)), .int (xs (i + 2))]) (rest := [.int v]) hIX K.1 K.2.2.1 K.2.2.2.1 hl.1 lw_w_173 rfl c2 hI hS rfl (Nat.le_of_ble_eq_true rfl) rfl (Nat.le_of_ble_eq_true rfl) (by decide) (by decide) hce hsl dL_law_1041 (fun H locs r M2 h2 hI hS => ?_)
  obtain ⟨rfl, h2⟩ := h2
  exact lw_eq K dL_law_1044 (by decide) (kk _ _ _ _ (hR _ _ h1 h2) hI hS)
theorem la_35 (hIX : ti_IXok) (K : lw_K p s m args c D ca adC adM adV ao A b L xs) (hl : lv_has ls 8 (lw_ls b adC adM ao i)) (hi : i + 5 ≤ L) (hI : LI D ca adC adM ao MC MM fo H) (hS : va_S A s.heap H locs) (hrel : REL k MC MM) (hk : k < 1000) (hce : cells ≤ room_1.cells) (hsl : slots ≤ room_1.slots) (kk : ∀ (H : Heap) (locs : List Loc) (MC MM : TM), REL (k + 1) MC MM → LI D ca adC adM ao MC MM fo H → va_S A s.heap H locs → W p l e room_1 s m args below meth c H locs cells slots Q (F0 m 1443 ls [])) : W p l e room_1 s m args below meth c H locs cells slots Q (F0 m 1049 ls []) := by
  obtain ⟨v, QC, QM, c1, c2, hR⟩ := show Bo hX11_forget 1 hX12_forget 2 [] k MC.1 MC.2.1 MC.2.2 MM.1 MM.2.1 MM.2.2 from by
    obtain ⟨n, c, ns, a, p, q, z, rs, u, x, m, no, nc, N, ce, rv, t, h⟩ := hrel
    exact b_forget h
  obtain ⟨v, rfl⟩ := lw_int c1 (by first | exact Or.inl rfl | exact Or.inr rfl)
  refine lv_aload_n K.1.1 K.1.2.1 dL_law_1049 rfl (lv_at hl 1 rfl) ?_
  refine lw_cC (vs := []) (rest := []) hIX K.1 K.2.1 K.2.2.2.1 hl.1 lw_w_174 rfl c1 hI hS rfl (Nat.le_of_ble_eq_true rfl) rfl (by decide) (by decide) (by decide) hce hsl dL_law_1050 (fun H locs r M1 h1 hI hS => ?_)
  obtain ⟨rfl, h1⟩ := h1
  refine lv_aload_n K.1.1 K.1.2.1 dL_law_1053 rfl (lv_at hl 2 rfl) ?_
  refine lw_cM (vs := []) (rest := [.int v]) hIX K.1 K.2.2.1 K.2.2.2.1 hl.1 lw_w_177 rfl c2 hI hS rfl (Nat.le_of_ble_eq_true rfl) rfl (Nat.le_of_ble_eq_true rfl) (by decide) (by decide) hce hsl dL_law_1054 (fun H locs r M2 h2 hI hS => ?_)
  obtain ⟨rfl, h2⟩ := h2
  exact lw_eq K dL_law_1057 (by decide) (kk _ _ _ _ (hR _ _ h1 h2) hI hS)
theorem la_36 (hIX : ti_IXok) (K : lw_K p s m args c D ca adC adM adV ao A b L xs) (hl : lv_has ls 8 (lw_ls b adC adM ao i)) (hi : i + 5 ≤ L) (hI : LI D ca adC adM ao MC MM fo H) (hS : va_S A s.heap H locs) (hrel : REL k MC MM) (hk : k < 1000) (hce : cells ≤ room_1.cells) (hsl : slots ≤ room_1.slots) (kk : ∀ (H : Heap) (locs : List Loc) (MC MM : TM), REL (k + 1) MC MM → LI D ca adC adM ao MC MM fo H → va_S A s.heap H locs → W p l e room_1 s m args below meth c H locs cells slots Q (F0 m 1443 ls [])) : W p l e room_1 s m args below meth c H locs cells slots Q (F0 m 1062 ls []) := by
  obtain ⟨v, QC, QM, c1, c2, hR⟩ := show Bo hX11_worlds 1 hX12_worlds 4 [] k MC.1 MC.2.1 MC.2.2 MM.1 MM.2.1 MM.2.2 from by
    obtain ⟨n, c, ns, a, p, q, z, rs, u, x, m, no, nc, N, ce, rv, t, h⟩ := hrel
    exact b_worlds h
  obtain ⟨v, rfl⟩ := lw_int c1 (by first | exact Or.inl rfl | exact Or.inr rfl)
  refine lv_aload_n K.1.1 K.1.2.1 dL_law_1062 rfl (lv_at hl 1 rfl) ?_
  refine lw_cC (vs := []) (rest := []) hIX K.1 K.2.1 K.2.2.2.1 hl.1 lw_w_178 rfl c1 hI hS rfl (Nat.le_of_ble_eq_true rfl) rfl (by decide) (by decide) (by decide) hce hsl dL_law_1063 (fun H locs r M1 h1 hI hS => ?_)
  obtain ⟨rfl, h1⟩ := h1
  refine lv_aload_n K.1.1 K.1.2.1 dL_law_1066 rfl (lv_at hl 2 rfl) ?_
  refine lw_cM (vs := []) (rest := [.int v]) hIX K.1 K.2.2.1 K.2.2.2.1 hl.1 lw_w_181 rfl c2 hI hS rfl (Nat.le_of_ble_eq_true rfl) rfl (Nat.le_of_ble_eq_true rfl) (by decide) (by decide) hce hsl dL_law_1067 (fun H locs r M2 h2 hI hS => ?_)
  obtain ⟨rfl, h2⟩ := h2
  exact lw_eq K dL_law_1070 (by decide) (kk _ _ _ _ (hR _ _ h1 h2) hI hS)
theorem la_37 (hIX : ti_IXok) (K : lw_K p s m args c D ca adC adM adV ao A b L xs) (hl : lv_has ls 8 (lw_ls b adC adM ao i)) (hi : i + 5 ≤ L) (hI : LI D ca adC adM ao MC MM fo H) (hS : va_S A s.heap H locs) (hrel : REL k MC MM) (hk : k < 1000) (hce : cells ≤ room_1.cells) (hsl : slots ≤ room_1.slots) (kk : ∀ (H : Heap) (locs : List Loc) (MC MM : TM), REL (k + 1) MC MM → LI D ca adC adM ao MC MM fo H → va_S A s.heap H locs → W p l e room_1 s m args below meth c H locs cells slots Q (F0 m 1443 ls [])) : W p l e room_1 s m args below meth c H locs cells slots Q (F0 m 1075 ls []) := by
  obtain ⟨v, QC, QM, c1, c2, hR⟩ := show Bo hX11_sure 1 hX12_sure 6 [] k MC.1 MC.2.1 MC.2.2 MM.1 MM.2.1 MM.2.2 from by
    obtain ⟨n, c, ns, a, p, q, z, rs, u, x, m, no, nc, N, ce, rv, t, h⟩ := hrel
    exact b_sure h
  obtain ⟨v, rfl⟩ := lw_int c1 (by first | exact Or.inl rfl | exact Or.inr rfl)
  refine lv_aload_n K.1.1 K.1.2.1 dL_law_1075 rfl (lv_at hl 1 rfl) ?_
  refine lw_cC (vs := []) (rest := []) hIX K.1 K.2.1 K.2.2.2.1 hl.1 lw_w_182 rfl c1 hI hS rfl (Nat.le_of_ble_eq_true rfl) rfl (by decide) (by decide) (by decide) hce hsl dL_law_1076 (fun H locs r M1 h1 hI hS => ?_)
  obtain ⟨rfl, h1⟩ := h1
  refine lv_aload_n K.1.1 K.1.2.1 dL_law_1079 rfl (lv_at hl 2 rfl) ?_
  refine lw_cM (vs := []) (rest := [.int v]) hIX K.1 K.2.2.1 K.2.2.2.1 hl.1 lw_w_185 rfl c2 hI hS rfl (Nat.le_of_ble_eq_true rfl) rfl (Nat.le_of_ble_eq_true rfl) (by decide) (by decide) hce hsl dL_law_1080 (fun H locs r M2 h2 hI hS => ?_)
  obtain ⟨rfl, h2⟩ := h2
  exact lw_eq K dL_law_1083 (by decide) (kk _ _ _ _ (hR _ _ h1 h2) hI hS)
theorem la_38 (hIX : ti_IXok) (K : lw_K p s m args c D ca adC adM adV ao A b L xs) (hl : lv_has ls 8 (lw_ls b adC adM ao i)) (hi : i + 5 ≤ L) (hI : LI D ca adC adM ao MC MM fo H) (hS : va_S A s.heap H locs) (hrel : REL k MC MM) (hk : k < 1000) (hce : cells ≤ room_1.cells) (hsl : slots ≤ room_1.slots) (kk : ∀ (H : Heap) (locs : List Loc) (MC MM : TM), REL (k + 1) MC MM → LI D ca adC adM ao MC MM fo H → va_S A s.heap H locs → W p l e room_1 s m args below meth c H locs cells slots Q (F0 m 1443 ls [])) : W p l e room_1 s m args below meth c H locs cells slots Q (F0 m 1088 ls []) := by
  obtain ⟨v, QC, QM, c1, c2, hR⟩ := show Bo hX11_ask 1 hX12_ask 5 [] k MC.1 MC.2.1 MC.2.2 MM.1 MM.2.1 MM.2.2 from by
    obtain ⟨n, c, ns, a, p, q, z, rs, u, x, m, no, nc, N, ce, rv, t, h⟩ := hrel
    exact b_ask h
  obtain ⟨v, rfl⟩ := lw_int c1 (by first | exact Or.inl rfl | exact Or.inr rfl)
  refine lv_aload_n K.1.1 K.1.2.1 dL_law_1088 rfl (lv_at hl 1 rfl) ?_
  refine lw_cC (vs := []) (rest := []) hIX K.1 K.2.1 K.2.2.2.1 hl.1 lw_w_186 rfl c1 hI hS rfl (Nat.le_of_ble_eq_true rfl) rfl (by decide) (by decide) (by decide) hce hsl dL_law_1089 (fun H locs r M1 h1 hI hS => ?_)
  obtain ⟨rfl, h1⟩ := h1
  refine lv_aload_n K.1.1 K.1.2.1 dL_law_1092 rfl (lv_at hl 2 rfl) ?_
  refine lw_cM (vs := []) (rest := [.int v]) hIX K.1 K.2.2.1 K.2.2.2.1 hl.1 lw_w_189 rfl c2 hI hS rfl (Nat.le_of_ble_eq_true rfl) rfl (Nat.le_of_ble_eq_true rfl) (by decide) (by decide) hce hsl dL_law_1093 (fun H locs r M2 h2 hI hS => ?_)
  obtain ⟨rfl, h2⟩ := h2
  exact lw_eq K dL_law_1096 (by decide) (kk _ _ _ _ (hR _ _ h1 h2) hI hS)
theorem la_39 (hIX : ti_IXok) (K : lw_K p s m args c D ca adC adM adV ao A b L xs) (hl : lv_has ls 8 (lw_ls b adC adM ao i)) (hi : i + 5 ≤ L) (hI : LI D ca adC adM ao MC MM fo H) (hS : va_S A s.heap H locs) (hrel : REL k MC MM) (hk : k < 1000) (hce : cells ≤ room_1.cells) (hsl : slots ≤ room_1.slots) (kk : ∀ (H : Heap) (locs : List Loc) (MC MM : TM), REL (k + 1) MC MM → LI D ca adC adM ao MC MM fo H → va_S A s.heap H locs → W p l e room_1 s m args below meth c H locs cells slots Q (F0 m 1443 ls [])) : W p l e room_1 s m args below meth c H locs cells slots Q (F0 m 1101 ls []) := by
  obtain ⟨v, QC, QM, c1, c2, hR⟩ := show Bo hX11_widow 5 hX12_widow 5 [.int (xs (i + 1)), .int (xs (i + 2))] k MC.1 MC.2.1 MC.2.2 MM.1 MM.2.1 MM.2.2 from by
    obtain ⟨n, c, ns, a, p, q, z, rs, u, x, m, no, nc, N, ce, rv, t, h⟩ := hrel
    exact b_widow h _ _
  obtain ⟨v, rfl⟩ := lw_int c1 (by first | exact Or.inl rfl | exact Or.inr rfl)
  refine lv_aload_n K.1.1 K.1.2.1 dL_law_1101 rfl (lv_at hl 1 rfl) ?_
  refine lw_arg K hl hS 1 rfl (by decide) hi dL_law_1102 dL_law_1103 dL_law_1105 dL_law_1106 dL_law_1107 ?_
  refine lw_arg K hl hS 2 rfl (by decide) hi dL_law_1108 dL_law_1109 dL_law_1111 dL_law_1112 dL_law_1113 ?_
  refine lw_cC (vs := [.int (xs (i + 1)), .int (xs (i + 2))]) (rest := []) hIX K.1 K.2.1 K.2.2.2.1 hl.1 lw_w_190 rfl c1 hI hS rfl (Nat.le_of_ble_eq_true rfl) rfl (by decide) (by decide) (by decide) hce hsl dL_law_1114 (fun H locs r M1 h1 hI hS => ?_)
  obtain ⟨rfl, h1⟩ := h1
  refine lv_aload_n K.1.1 K.1.2.1 dL_law_1117 rfl (lv_at hl 2 rfl) ?_
  refine lw_arg K hl hS 1 rfl (by decide) hi dL_law_1118 dL_law_1119 dL_law_1121 dL_law_1122 dL_law_1123 ?_
  refine lw_arg K hl hS 2 rfl (by decide) hi dL_law_1124 dL_law_1125 dL_law_1127 dL_law_1128 dL_law_1129 ?_
  refine lw_cM (vs := [.int (xs (i + 1)), .int (xs (i + 2))]) (rest := [.int v]) hIX K.1 K.2.2.1 K.2.2.2.1 hl.1 lw_w_193 rfl c2 hI hS rfl (Nat.le_of_ble_eq_true rfl) rfl (Nat.le_of_ble_eq_true rfl) (by decide) (by decide) hce hsl dL_law_1130 (fun H locs r M2 h2 hI hS => ?_)
  obtain ⟨rfl, h2⟩ := h2
  exact lw_eq K dL_law_1133 (by decide) (kk _ _ _ _ (hR _ _ h1 h2) hI hS)
theorem la_40 (hIX : ti_IXok) (K : lw_K p s m args c D ca adC adM adV ao A b L xs) (hl : lv_has ls 8 (lw_ls b adC adM ao i)) (hi : i + 5 ≤ L) (hI : LI D ca adC adM ao MC MM fo H) (hS : va_S A s.heap H locs) (hrel : REL k MC MM) (hk : k < 1000) (hce : cells ≤ room_1.cells) (hsl : slots ≤ room_1.slots) (kk : ∀ (H : Heap) (locs : List Loc) (MC MM : TM), REL (k + 1) MC MM → LI D ca adC adM ao MC MM fo H → va_S A s.heap H locs → W p l e room_1 s m args below meth c H locs cells slots Q (F0 m 1443 ls [])) : W p l e room_1 s m args below meth c H locs cells slots Q (F0 m 1138 ls []) := by
  obtain ⟨v, QC, QM, c1, c2, hR⟩ := show Bo hX11_claim 4 hX12_claim 4 [.int (xs (i + 1)), .int (xs (i + 2)), .int (xs (i + 3))] k MC.1 MC.2.1 MC.2.2 MM.1 MM.2.1 MM.2.2 from by
    obtain ⟨n, c, ns, a, p, q, z, rs, u, x, m, no, nc, N, ce, rv, t, h⟩ := hrel
    exact b_claim h _ _ _
  obtain ⟨v, rfl⟩ := lw_int c1 (by first | exact Or.inl rfl | exact Or.inr rfl)
  refine lv_aload_n K.1.1 K.1.2.1 dL_law_1138 rfl (lv_at hl 1 rfl) ?_
  refine lw_arg K hl hS 1 rfl (by decide) hi dL_law_1139 dL_law_1140 dL_law_1142 dL_law_1143 dL_law_1144 ?_
  refine lw_arg K hl hS 2 rfl (by decide) hi dL_law_1145 dL_law_1146 dL_law_1148 dL_law_1149 dL_law_1150 ?_
  refine lw_arg K hl hS 3 rfl (by decide) hi dL_law_1151 dL_law_1152 dL_law_1154 dL_law_1155 dL_law_1156 ?_
  refine lw_cC (vs := [.int (xs (i + 1)), .int (xs (i + 2)), .int (xs (i + 3))]) (rest := []) hIX K.1 K.2.1 K.2.2.2.1 hl.1 lw_w_194 rfl c1 hI hS rfl (Nat.le_of_ble_eq_true rfl) rfl (by decide) (by decide) (by decide) hce hsl dL_law_1157 (fun H locs r M1 h1 hI hS => ?_)
  obtain ⟨rfl, h1⟩ := h1
  refine lv_aload_n K.1.1 K.1.2.1 dL_law_1160 rfl (lv_at hl 2 rfl) ?_
  refine lw_arg K hl hS 1 rfl (by decide) hi dL_law_1161 dL_law_1162 dL_law_1164 dL_law_1165 dL_law_1166 ?_
  refine lw_arg K hl hS 2 rfl (by decide) hi dL_law_1167 dL_law_1168 dL_law_1170 dL_law_1171 dL_law_1172 ?_
  refine lw_arg K hl hS 3 rfl (by decide) hi dL_law_1173 dL_law_1174 dL_law_1176 dL_law_1177 dL_law_1178 ?_
  refine lw_cM (vs := [.int (xs (i + 1)), .int (xs (i + 2)), .int (xs (i + 3))]) (rest := [.int v]) hIX K.1 K.2.2.1 K.2.2.2.1 hl.1 lw_w_198 rfl c2 hI hS rfl (Nat.le_of_ble_eq_true rfl) rfl (Nat.le_of_ble_eq_true rfl) (by decide) (by decide) hce hsl dL_law_1179 (fun H locs r M2 h2 hI hS => ?_)
  obtain ⟨rfl, h2⟩ := h2
  exact lw_eq K dL_law_1182 (by decide) (kk _ _ _ _ (hR _ _ h1 h2) hI hS)
theorem la_41 (hIX : ti_IXok) (K : lw_K p s m args c D ca adC adM adV ao A b L xs) (hl : lv_has ls 8 (lw_ls b adC adM ao i)) (hi : i + 5 ≤ L) (hI : LI D ca adC adM ao MC MM fo H) (hS : va_S A s.heap H locs) (hrel : REL k MC MM) (hk : k < 1000) (hce : cells ≤ room_1.cells) (hsl : slots ≤ room_1.slots) (kk : ∀ (H : Heap) (locs : List Loc) (MC MM : TM), REL (k + 1) MC MM → LI D ca adC adM ao MC MM fo H → va_S A s.heap H locs → W p l e room_1 s m args below meth c H locs cells slots Q (F0 m 1443 ls [])) : W p l e room_1 s m args below meth c H locs cells slots Q (F0 m 1187 ls []) := by
  obtain ⟨v, QC, QM, c1, c2, hR⟩ := show Bo hX11_unsaid 1 hX12_unsaid 2 [] k MC.1 MC.2.1 MC.2.2 MM.1 MM.2.1 MM.2.2 from by
    obtain ⟨n, c, ns, a, p, q, z, rs, u, x, m, no, nc, N, ce, rv, t, h⟩ := hrel
    exact b_unsaid h
  obtain ⟨v, rfl⟩ := lw_int c1 (by first | exact Or.inl rfl | exact Or.inr rfl)
  refine lv_aload_n K.1.1 K.1.2.1 dL_law_1187 rfl (lv_at hl 1 rfl) ?_
  refine lw_cC (vs := []) (rest := []) hIX K.1 K.2.1 K.2.2.2.1 hl.1 lw_w_199 rfl c1 hI hS rfl (Nat.le_of_ble_eq_true rfl) rfl (by decide) (by decide) (by decide) hce hsl dL_law_1188 (fun H locs r M1 h1 hI hS => ?_)
  obtain ⟨rfl, h1⟩ := h1
  refine lv_aload_n K.1.1 K.1.2.1 dL_law_1191 rfl (lv_at hl 2 rfl) ?_
  refine lw_cM (vs := []) (rest := [.int v]) hIX K.1 K.2.2.1 K.2.2.2.1 hl.1 lw_w_202 rfl c2 hI hS rfl (Nat.le_of_ble_eq_true rfl) rfl (Nat.le_of_ble_eq_true rfl) (by decide) (by decide) hce hsl dL_law_1192 (fun H locs r M2 h2 hI hS => ?_)
  obtain ⟨rfl, h2⟩ := h2
  exact lw_eq K dL_law_1195 (by decide) (kk _ _ _ _ (hR _ _ h1 h2) hI hS)
theorem la_42 (hIX : ti_IXok) (K : lw_K p s m args c D ca adC adM adV ao A b L xs) (hl : lv_has ls 8 (lw_ls b adC adM ao i)) (hi : i + 5 ≤ L) (hI : LI D ca adC adM ao MC MM fo H) (hS : va_S A s.heap H locs) (hrel : REL k MC MM) (hk : k < 1000) (hce : cells ≤ room_1.cells) (hsl : slots ≤ room_1.slots) (kk : ∀ (H : Heap) (locs : List Loc) (MC MM : TM), REL (k + 1) MC MM → LI D ca adC adM ao MC MM fo H → va_S A s.heap H locs → W p l e room_1 s m args below meth c H locs cells slots Q (F0 m 1443 ls [])) : W p l e room_1 s m args below meth c H locs cells slots Q (F0 m 1200 ls []) := by
  obtain ⟨v, QC, QM, c1, c2, hR⟩ := show Bo hX11_believe 1 hX12_believe 3 [] k MC.1 MC.2.1 MC.2.2 MM.1 MM.2.1 MM.2.2 from by
    obtain ⟨n, c, ns, a, p, q, z, rs, u, x, m, no, nc, N, ce, rv, t, h⟩ := hrel
    exact b_believe h
  obtain ⟨v, rfl⟩ := lw_int c1 (by first | exact Or.inl rfl | exact Or.inr rfl)
  refine lv_aload_n K.1.1 K.1.2.1 dL_law_1200 rfl (lv_at hl 1 rfl) ?_
  refine lw_cC (vs := []) (rest := []) hIX K.1 K.2.1 K.2.2.2.1 hl.1 lw_w_203 rfl c1 hI hS rfl (Nat.le_of_ble_eq_true rfl) rfl (by decide) (by decide) (by decide) hce hsl dL_law_1201 (fun H locs r M1 h1 hI hS => ?_)
  obtain ⟨rfl, h1⟩ := h1
  refine lv_aload_n K.1.1 K.1.2.1 dL_law_1204 rfl (lv_at hl 2 rfl) ?_
  refine lw_cM (vs := []) (rest := [.int v]) hIX K.1 K.2.2.1 K.2.2.2.1 hl.1 lw_w_206 rfl c2 hI hS rfl (Nat.le_of_ble_eq_true rfl) rfl (Nat.le_of_ble_eq_true rfl) (by decide) (by decide) hce hsl dL_law_1205 (fun H locs r M2 h2 hI hS => ?_)
  obtain ⟨rfl, h2⟩ := h2
  exact lw_eq K dL_law_1208 (by decide) (kk _ _ _ _ (hR _ _ h1 h2) hI hS)
theorem la_43 (hIX : ti_IXok) (K : lw_K p s m args c D ca adC adM adV ao A b L xs) (hl : lv_has ls 8 (lw_ls b adC adM ao i)) (hi : i + 5 ≤ L) (hI : LI D ca adC adM ao MC MM fo H) (hS : va_S A s.heap H locs) (hrel : REL k MC MM) (hk : k < 1000) (hce : cells ≤ room_1.cells) (hsl : slots ≤ room_1.slots) (kk : ∀ (H : Heap) (locs : List Loc) (MC MM : TM), REL (k + 1) MC MM → LI D ca adC adM ao MC MM fo H → va_S A s.heap H locs → W p l e room_1 s m args below meth c H locs cells slots Q (F0 m 1443 ls [])) : W p l e room_1 s m args below meth c H locs cells slots Q (F0 m 1213 ls []) := by
  obtain ⟨v, QC, QM, c1, c2, hR⟩ := show Bo hX11_slips 2 hX12_slips 8 [.int (xs (i + 1))] k MC.1 MC.2.1 MC.2.2 MM.1 MM.2.1 MM.2.2 from by
    obtain ⟨n, c, ns, a, p, q, z, rs, u, x, m, no, nc, N, ce, rv, t, h⟩ := hrel
    exact b_slips h _
  obtain ⟨v, rfl⟩ := lw_int c1 (by first | exact Or.inl rfl | exact Or.inr rfl)
  refine lv_aload_n K.1.1 K.1.2.1 dL_law_1213 rfl (lv_at hl 1 rfl) ?_
  refine lw_arg K hl hS 1 rfl (by decide) hi dL_law_1214 dL_law_1215 dL_law_1217 dL_law_1218 dL_law_1219 ?_
  refine lw_cC (vs := [.int (xs (i + 1))]) (rest := []) hIX K.1 K.2.1 K.2.2.2.1 hl.1 lw_w_207 rfl c1 hI hS rfl (Nat.le_of_ble_eq_true rfl) rfl (by decide) (by decide) (by decide) hce hsl dL_law_1220 (fun H locs r M1 h1 hI hS => ?_)
  obtain ⟨rfl, h1⟩ := h1
  refine lv_aload_n K.1.1 K.1.2.1 dL_law_1223 rfl (lv_at hl 2 rfl) ?_
  refine lw_arg K hl hS 1 rfl (by decide) hi dL_law_1224 dL_law_1225 dL_law_1227 dL_law_1228 dL_law_1229 ?_
  refine lw_cM (vs := [.int (xs (i + 1))]) (rest := [.int v]) hIX K.1 K.2.2.1 K.2.2.2.1 hl.1 lw_w_210 rfl c2 hI hS rfl (Nat.le_of_ble_eq_true rfl) rfl (Nat.le_of_ble_eq_true rfl) (by decide) (by decide) hce hsl dL_law_1230 (fun H locs r M2 h2 hI hS => ?_)
  obtain ⟨rfl, h2⟩ := h2
  exact lw_eq K dL_law_1233 (by decide) (kk _ _ _ _ (hR _ _ h1 h2) hI hS)
theorem la_44 (hIX : ti_IXok) (K : lw_K p s m args c D ca adC adM adV ao A b L xs) (hl : lv_has ls 8 (lw_ls b adC adM ao i)) (hi : i + 5 ≤ L) (hI : LI D ca adC adM ao MC MM fo H) (hS : va_S A s.heap H locs) (hrel : REL k MC MM) (hk : k < 1000) (hce : cells ≤ room_1.cells) (hsl : slots ≤ room_1.slots) (kk : ∀ (H : Heap) (locs : List Loc) (MC MM : TM), REL (k + 1) MC MM → LI D ca adC adM ao MC MM fo H → va_S A s.heap H locs → W p l e room_1 s m args below meth c H locs cells slots Q (F0 m 1443 ls [])) : W p l e room_1 s m args below meth c H locs cells slots Q (F0 m 1238 ls []) := by
  obtain ⟨v, QC, QM, c1, c2, hR⟩ := show Bo hX11_rests 5 hX12_rests 5 [.int (xs (i + 1))] k MC.1 MC.2.1 MC.2.2 MM.1 MM.2.1 MM.2.2 from by
    obtain ⟨n, c, ns, a, p, q, z, rs, u, x, m, no, nc, N, ce, rv, t, h⟩ := hrel
    exact b_rests h _
  obtain ⟨v, rfl⟩ := lw_int c1 (by first | exact Or.inl rfl | exact Or.inr rfl)
  refine lv_aload_n K.1.1 K.1.2.1 dL_law_1238 rfl (lv_at hl 1 rfl) ?_
  refine lw_arg K hl hS 1 rfl (by decide) hi dL_law_1239 dL_law_1240 dL_law_1242 dL_law_1243 dL_law_1244 ?_
  refine lw_cC (vs := [.int (xs (i + 1))]) (rest := []) hIX K.1 K.2.1 K.2.2.2.1 hl.1 lw_w_211 rfl c1 hI hS rfl (Nat.le_of_ble_eq_true rfl) rfl (by decide) (by decide) (by decide) hce hsl dL_law_1245 (fun H locs r M1 h1 hI hS => ?_)
  obtain ⟨rfl, h1⟩ := h1
  refine lv_aload_n K.1.1 K.1.2.1 dL_law_1248 rfl (lv_at hl 2 rfl) ?_
  refine lw_arg K hl hS 1 rfl (by decide) hi dL_law_1249 dL_law_1250 dL_law_1252 dL_law_1253 dL_law_1254 ?_
  refine lw_cM (vs := [.int (xs (i + 1))]) (rest := [.int v]) hIX K.1 K.2.2.1 K.2.2.2.1 hl.1 lw_w_214 rfl c2 hI hS rfl (Nat.le_of_ble_eq_true rfl) rfl (Nat.le_of_ble_eq_true rfl) (by decide) (by decide) hce hsl dL_law_1255 (fun H locs r M2 h2 hI hS => ?_)
  obtain ⟨rfl, h2⟩ := h2
  exact lw_eq K dL_law_1258 (by decide) (kk _ _ _ _ (hR _ _ h1 h2) hI hS)
theorem la_45 (hIX : ti_IXok) (K : lw_K p s m args c D ca adC adM adV ao A b L xs) (hl : lv_has ls 8 (lw_ls b adC adM ao i)) (hi : i + 5 ≤ L) (hI : LI D ca adC adM ao MC MM fo H) (hS : va_S A s.heap H locs) (hrel : REL k MC MM) (hk : k < 1000) (hce : cells ≤ room_1.cells) (hsl : slots ≤ room_1.slots) (kk : ∀ (H : Heap) (locs : List Loc) (MC MM : TM), REL (k + 1) MC MM → LI D ca adC adM ao MC MM fo H → va_S A s.heap H locs → W p l e room_1 s m args below meth c H locs cells slots Q (F0 m 1443 ls [])) : W p l e room_1 s m args below meth c H locs cells slots Q (F0 m 1263 ls []) := by
  obtain ⟨v, QC, QM, c1, c2, hR⟩ := show Bo hX11_law 4 hX12_law 6 [] k MC.1 MC.2.1 MC.2.2 MM.1 MM.2.1 MM.2.2 from by
    obtain ⟨n, c, ns, a, p, q, z, rs, u, x, m, no, nc, N, ce, rv, t, h⟩ := hrel
    exact b_law h
  obtain ⟨v, rfl⟩ := lw_int c1 (by first | exact Or.inl rfl | exact Or.inr rfl)
  refine lv_aload_n K.1.1 K.1.2.1 dL_law_1263 rfl (lv_at hl 1 rfl) ?_
  refine lw_cC (vs := []) (rest := []) hIX K.1 K.2.1 K.2.2.2.1 hl.1 lw_w_215 rfl c1 hI hS rfl (Nat.le_of_ble_eq_true rfl) rfl (by decide) (by decide) (by decide) hce hsl dL_law_1264 (fun H locs r M1 h1 hI hS => ?_)
  obtain ⟨rfl, h1⟩ := h1
  refine lv_aload_n K.1.1 K.1.2.1 dL_law_1267 rfl (lv_at hl 2 rfl) ?_
  refine lw_cM (vs := []) (rest := [.int v]) hIX K.1 K.2.2.1 K.2.2.2.1 hl.1 lw_w_218 rfl c2 hI hS rfl (Nat.le_of_ble_eq_true rfl) rfl (Nat.le_of_ble_eq_true rfl) (by decide) (by decide) hce hsl dL_law_1268 (fun H locs r M2 h2 hI hS => ?_)
  obtain ⟨rfl, h2⟩ := h2
  exact lw_eq K dL_law_1271 (by decide) (kk _ _ _ _ (hR _ _ h1 h2) hI hS)
theorem la_46 (hIX : ti_IXok) (K : lw_K p s m args c D ca adC adM adV ao A b L xs) (hl : lv_has ls 8 (lw_ls b adC adM ao i)) (hi : i + 5 ≤ L) (hI : LI D ca adC adM ao MC MM fo H) (hS : va_S A s.heap H locs) (hrel : REL k MC MM) (hk : k < 1000) (hce : cells ≤ room_1.cells) (hsl : slots ≤ room_1.slots) (kk : ∀ (H : Heap) (locs : List Loc) (MC MM : TM), REL (k + 1) MC MM → LI D ca adC adM ao MC MM fo H → va_S A s.heap H locs → W p l e room_1 s m args below meth c H locs cells slots Q (F0 m 1443 ls [])) : W p l e room_1 s m args below meth c H locs cells slots Q (F0 m 1276 ls []) := by
  obtain ⟨v, QC, QM, c1, c2, hR⟩ := show Bo hX11_years 3 hX12_years 6 [.int (xs (i + 1)), .int (xs (i + 2))] k MC.1 MC.2.1 MC.2.2 MM.1 MM.2.1 MM.2.2 from by
    obtain ⟨n, c, ns, a, p, q, z, rs, u, x, m, no, nc, N, ce, rv, t, h⟩ := hrel
    exact b_years h _ _
  obtain ⟨v, rfl⟩ := lw_int c1 (by first | exact Or.inl rfl | exact Or.inr rfl)
  refine lv_aload_n K.1.1 K.1.2.1 dL_law_1276 rfl (lv_at hl 1 rfl) ?_
  refine lw_arg K hl hS 1 rfl (by decide) hi dL_law_1277 dL_law_1278 dL_law_1280 dL_law_1281 dL_law_1282 ?_
  refine lw_arg K hl hS 2 rfl (by decide) hi dL_law_1283 dL_law_1284 dL_law_1286 dL_law_1287 dL_law_1288 ?_
  refine lw_cC (vs := [.int (xs (i + 1)), .int (xs (i + 2))]) (rest := []) hIX K.1 K.2.1 K.2.2.2.1 hl.1 lw_w_219 rfl c1 hI hS rfl (Nat.le_of_ble_eq_true rfl) rfl (by decide) (by decide) (by decide) hce hsl dL_law_1289 (fun H locs r M1 h1 hI hS => ?_)
  obtain ⟨rfl, h1⟩ := h1
  refine lv_aload_n K.1.1 K.1.2.1 dL_law_1292 rfl (lv_at hl 2 rfl) ?_
  refine lw_arg K hl hS 1 rfl (by decide) hi dL_law_1293 dL_law_1294 dL_law_1296 dL_law_1297 dL_law_1298 ?_
  refine lw_arg K hl hS 2 rfl (by decide) hi dL_law_1299 dL_law_1300 dL_law_1302 dL_law_1303 dL_law_1304 ?_
  refine lw_cM (vs := [.int (xs (i + 1)), .int (xs (i + 2))]) (rest := [.int v]) hIX K.1 K.2.2.1 K.2.2.2.1 hl.1 lw_w_222 rfl c2 hI hS rfl (Nat.le_of_ble_eq_true rfl) rfl (Nat.le_of_ble_eq_true rfl) (by decide) (by decide) hce hsl dL_law_1305 (fun H locs r M2 h2 hI hS => ?_)
  obtain ⟨rfl, h2⟩ := h2
  exact lw_eq K dL_law_1308 (by decide) (kk _ _ _ _ (hR _ _ h1 h2) hI hS)
theorem la_47 (hIX : ti_IXok) (K : lw_K p s m args c D ca adC adM adV ao A b L xs) (hl : lv_has ls 8 (lw_ls b adC adM ao i)) (hi : i + 5 ≤ L) (hI : LI D ca adC adM ao MC MM fo H) (hS : va_S A s.heap H locs) (hrel : REL k MC MM) (hk : k < 1000) (hce : cells ≤ room_1.cells) (hsl : slots ≤ room_1.slots) (kk : ∀ (H : Heap) (locs : List Loc) (MC MM : TM), REL (k + 1) MC MM → LI D ca adC adM ao MC MM fo H → va_S A s.heap H locs → W p l e room_1 s m args below meth c H locs cells slots Q (F0 m 1443 ls [])) : W p l e room_1 s m args below meth c H locs cells slots Q (F0 m 1313 ls []) := by
  obtain ⟨v, QC, QM, c1, c2, hR⟩ := show Bo hX11_keep 2 hX12_keep 2 [.int (xs (i + 1))] k MC.1 MC.2.1 MC.2.2 MM.1 MM.2.1 MM.2.2 from by
    obtain ⟨n, c, ns, a, p, q, z, rs, u, x, m, no, nc, N, ce, rv, t, h⟩ := hrel
    exact b_keep h _
  obtain ⟨v, rfl⟩ := lw_int c1 (by first | exact Or.inl rfl | exact Or.inr rfl)
  refine lv_aload_n K.1.1 K.1.2.1 dL_law_1313 rfl (lv_at hl 1 rfl) ?_
  refine lw_arg K hl hS 1 rfl (by decide) hi dL_law_1314 dL_law_1315 dL_law_1317 dL_law_1318 dL_law_1319 ?_
  refine lw_cC (vs := [.int (xs (i + 1))]) (rest := []) hIX K.1 K.2.1 K.2.2.2.1 hl.1 lw_w_223 rfl c1 hI hS rfl (Nat.le_of_ble_eq_true rfl) rfl (by decide) (by decide) (by decide) hce hsl dL_law_1320 (fun H locs r M1 h1 hI hS => ?_)
  obtain ⟨rfl, h1⟩ := h1
  refine lv_aload_n K.1.1 K.1.2.1 dL_law_1323 rfl (lv_at hl 2 rfl) ?_
  refine lw_arg K hl hS 1 rfl (by decide) hi dL_law_1324 dL_law_1325 dL_law_1327 dL_law_1328 dL_law_1329 ?_
  refine lw_cM (vs := [.int (xs (i + 1))]) (rest := [.int v]) hIX K.1 K.2.2.1 K.2.2.2.1 hl.1 lw_w_226 rfl c2 hI hS rfl (Nat.le_of_ble_eq_true rfl) rfl (Nat.le_of_ble_eq_true rfl) (by decide) (by decide) hce hsl dL_law_1330 (fun H locs r M2 h2 hI hS => ?_)
  obtain ⟨rfl, h2⟩ := h2
  exact lw_eq K dL_law_1333 (by decide) (kk _ _ _ _ (hR _ _ h1 h2) hI hS)
theorem la_48 (hIX : ti_IXok) (K : lw_K p s m args c D ca adC adM adV ao A b L xs) (hl : lv_has ls 8 (lw_ls b adC adM ao i)) (hi : i + 5 ≤ L) (hI : LI D ca adC adM ao MC MM fo H) (hS : va_S A s.heap H locs) (hrel : REL k MC MM) (hk : k < 1000) (hce : cells ≤ room_1.cells) (hsl : slots ≤ room_1.slots) (kk : ∀ (H : Heap) (locs : List Loc) (MC MM : TM), REL (k + 1) MC MM → LI D ca adC adM ao MC MM fo H → va_S A s.heap H locs → W p l e room_1 s m args below meth c H locs cells slots Q (F0 m 1443 ls [])) : W p l e room_1 s m args below meth c H locs cells slots Q (F0 m 1338 ls []) := by
  obtain ⟨v, QC, QM, c1, c2, hR⟩ := show Bo hX11_again 2 hX12_again 3 [.int (xs (i + 1))] k MC.1 MC.2.1 MC.2.2 MM.1 MM.2.1 MM.2.2 from by
    obtain ⟨n, c, ns, a, p, q, z, rs, u, x, m, no, nc, N, ce, rv, t, h⟩ := hrel
    exact b_again h _
  obtain ⟨v, rfl⟩ := lw_int c1 (by first | exact Or.inl rfl | exact Or.inr rfl)
  refine lv_aload_n K.1.1 K.1.2.1 dL_law_1338 rfl (lv_at hl 1 rfl) ?_
  refine lw_arg K hl hS 1 rfl (by decide) hi dL_law_1339 dL_law_1340 dL_law_1342 dL_law_1343 dL_law_1344 ?_
  refine lw_cC (vs := [.int (xs (i + 1))]) (rest := []) hIX K.1 K.2.1 K.2.2.2.1 hl.1 lw_w_227 rfl c1 hI hS rfl (Nat.le_of_ble_eq_true rfl) rfl (by decide) (by decide) (by decide) hce hsl dL_law_1345 (fun H locs r M1 h1 hI hS => ?_)
  obtain ⟨rfl, h1⟩ := h1
  refine lv_aload_n K.1.1 K.1.2.1 dL_law_1348 rfl (lv_at hl 2 rfl) ?_
  refine lw_arg K hl hS 1 rfl (by decide) hi dL_law_1349 dL_law_1350 dL_law_1352 dL_law_1353 dL_law_1354 ?_
  refine lw_cM (vs := [.int (xs (i + 1))]) (rest := [.int v]) hIX K.1 K.2.2.1 K.2.2.2.1 hl.1 lw_w_230 rfl c2 hI hS rfl (Nat.le_of_ble_eq_true rfl) rfl (Nat.le_of_ble_eq_true rfl) (by decide) (by decide) hce hsl dL_law_1355 (fun H locs r M2 h2 hI hS => ?_)
  obtain ⟨rfl, h2⟩ := h2
  exact lw_eq K dL_law_1358 (by decide) (kk _ _ _ _ (hR _ _ h1 h2) hI hS)
theorem la_49 (hIX : ti_IXok) (K : lw_K p s m args c D ca adC adM adV ao A b L xs) (hl : lv_has ls 8 (lw_ls b adC adM ao i)) (hi : i + 5 ≤ L) (hI : LI D ca adC adM ao MC MM fo H) (hS : va_S A s.heap H locs) (hrel : REL k MC MM) (hk : k < 1000) (hce : cells ≤ room_1.cells) (hsl : slots ≤ room_1.slots) (kk : ∀ (H : Heap) (locs : List Loc) (MC MM : TM), REL (k + 1) MC MM → LI D ca adC adM ao MC MM fo H → va_S A s.heap H locs → W p l e room_1 s m args below meth c H locs cells slots Q (F0 m 1443 ls [])) : W p l e room_1 s m args below meth c H locs cells slots Q (F0 m 1363 ls []) := by
  obtain ⟨v, QC, QM, c1, c2, hR⟩ := show Bo hX11_count 2 hX12_count 2 [.int (xs (i + 1))] k MC.1 MC.2.1 MC.2.2 MM.1 MM.2.1 MM.2.2 from by
    obtain ⟨n, c, ns, a, p, q, z, rs, u, x, m, no, nc, N, ce, rv, t, h⟩ := hrel
    exact b_count h _
  obtain ⟨v, rfl⟩ := lw_int c1 (by first | exact Or.inl rfl | exact Or.inr rfl)
  refine lv_aload_n K.1.1 K.1.2.1 dL_law_1363 rfl (lv_at hl 1 rfl) ?_
  refine lw_arg K hl hS 1 rfl (by decide) hi dL_law_1364 dL_law_1365 dL_law_1367 dL_law_1368 dL_law_1369 ?_
  refine lw_cC (vs := [.int (xs (i + 1))]) (rest := []) hIX K.1 K.2.1 K.2.2.2.1 hl.1 lw_w_231 rfl c1 hI hS rfl (Nat.le_of_ble_eq_true rfl) rfl (by decide) (by decide) (by decide) hce hsl dL_law_1370 (fun H locs r M1 h1 hI hS => ?_)
  obtain ⟨rfl, h1⟩ := h1
  refine lv_aload_n K.1.1 K.1.2.1 dL_law_1373 rfl (lv_at hl 2 rfl) ?_
  refine lw_arg K hl hS 1 rfl (by decide) hi dL_law_1374 dL_law_1375 dL_law_1377 dL_law_1378 dL_law_1379 ?_
  refine lw_cM (vs := [.int (xs (i + 1))]) (rest := [.int v]) hIX K.1 K.2.2.1 K.2.2.2.1 hl.1 lw_w_234 rfl c2 hI hS rfl (Nat.le_of_ble_eq_true rfl) rfl (Nat.le_of_ble_eq_true rfl) (by decide) (by decide) hce hsl dL_law_1380 (fun H locs r M2 h2 hI hS => ?_)
  obtain ⟨rfl, h2⟩ := h2
  exact lw_eq K dL_law_1383 (by decide) (kk _ _ _ _ (hR _ _ h1 h2) hI hS)
end LWE
