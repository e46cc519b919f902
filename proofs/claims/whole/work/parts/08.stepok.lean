/-! a step of the small machine is the machine's -/
/-- the constant of the seven names, and that strings are compact -/
def ti_Z2 (adK adV : Nat → Nat) (A : Nat → Prop) (U : State) (H : Heap) : Prop := vk_S 1 [7] [[115, 116, 104, 120, 110, 99, 105]] adK adV A U H ∧ va_Z "java/lang/String" "COMPACT_STRINGS" "Z" (.int 1) A U H
theorem ti_Z2.moved {adK adV : Nat → Nat} {A : Nat → Prop} {u U : State} {H : Heap} (hvm : u.vm.Alike U.vm) (h : ti_Z2 adK adV A u H) : ti_Z2 adK adV A U H := ⟨vk_S.moved hvm h.1, va_Z.moved hvm h.2⟩
theorem ti_Z2.kept {adK adV : Nat → Nat} {A : Nat → Prop} {U : State} {H H1 : Heap} (h : ti_Z2 adK adV A U H) (hq : ∀ a : Nat, a < H.size → ¬ A a → H1[a]? = H[a]?) : ti_Z2 adK adV A U H1 := ⟨h.1.kept hq, h.2.kept hq⟩
theorem ti_Z2.narrow {adK adV : Nat → Nat} {A B : Nat → Prop} {U : State} {H : Heap} (h : ti_Z2 adK adV A U H) (hAB : ∀ q, B q → A q) : ti_Z2 adK adV B U H := ⟨h.1.narrow hAB, h.2.narrow hAB⟩
def ti_Z (ad adV : Nat → Nat) (A : Nat → Prop) (U : State) (H : Heap) : Prop := vk_R RX5 84 "sthxnci" (ad 900) U ∧ ti_Z2 (fun _ => ad 900) adV A U H
def ti_C (p : Program) (s : State) (m : MethodId) (args : Array Value) (meth : Method) (c : Code) (h : TH) (nL : Nat) (D : va_G) (ca : Nat → ClassId) (ad adV : Nat → Nat) (A : Nat → Prop) : Prop :=
  p.tables.exec = Jvm.exec ∧ c.code = h.2.1 ∧ c.maxLocals = nL ∧ s.vm.findClass (ti_ow h.1) = some m.cls ∧ (∀ w ∈ ti_T, w.before args s = true) ∧ meth.sig.returnType = h.2.2 ∧ meth.locks = false ∧ va_K D vwCl (ti_tys ca) s ∧ (∀ w ∈ ti_N, va_Nw w s) ∧ ti_Z ad adV A s s.heap ∧ ∀ q, s.heap.size ≤ q → A q
section TIS
variable {p : Program} {l : Launch} {e : Env} {R : Room} {s : State} {m : MethodId} {args : Array Value} {below : List Frame} {meth : Method} {c : Code} {H : Heap} {locs : List Loc} {cells slots : Nat} {Q : State → Prop} {h : TH} {nL : Nat} {D : va_G} {ca : Nat → ClassId} {ad adV : Nat → Nat} {A : Nat → Prop} {lay : List TE} {M M' : TM} {ls : Array Slot} {L L' : TL} {pc pc' len : Nat} {i : Instr} {st st' : List Value}
theorem ti_one {n : Nat} {i : Instr} (hk : ti_lk i len = true) (e : ti_lk i len = (len == n)) : len = n := by
  rw [e] at hk; simpa using hk
theorem ti_getf_ok (C : ti_C p s m args meth c h nL D ca ad adV A) (hP : va_P D vwCl (ti_ws lay ad ca M) H) {idx : Nat} (hd : decode h.2.1 pc = .ok (.getfield idx, 3)) (hs : ti_gf lay h.1 idx pc L st M = some (pc', L', st', M'))
    (kk : W p l e R s m args below meth c H locs cells slots Q (F0 m pc' ls (st'.map (ti_tv ad)))) : W p l e R s m args below meth c H locs cells slots Q (F0 m pc ls (st.map (ti_tv ad))) := by
  obtain ⟨hx, hb, hml, hown, hts, hr, hlk, hK, hN, hZ, hA⟩ := C
  obtain ⟨pl, r, ci, k, kd, fds, fd, rfl, hf, hl, hk, rfl, rfl, rfl, rfl⟩ := ti_gf_inv hs
  obtain ⟨CC, T, N, hc, hkN, hTC, hlink, -⟩ := ti_fok_of hf
  obtain ⟨hin, -, -⟩ := ti_kok hc
  have he : (ti_ws lay ad ca M')[pl]? = some (ad pl, .inr (ci, ti_fm ad M' pl 0 fds)) := ti_ws_at hl
  have hv : (ti_fm ad M' pl 0 fds)[k]? = some (ti_tv ad (ti_fv M' pl k fd)) := by rw [ti_fm_get, hk, Nat.zero_add]; rfl
  have hsame : ∀ x, s.fieldFound? (T k).1 (T k).2.1 (T k).2.2.1 = some x → s.fieldFound? CC (T k).2.1 (T k).2.2.1 = some x := fun x hx => by rw [← hTC]; exact hx
  rcases hlink with hw | ⟨host, hw⟩
  · exact va_get (D := D) (ci := ci) (v := ti_tv ad (ti_fv M' pl k fd)) (C := CC) (T := T) (N := N) hx hb hts hin hown hK hP pl he hc k hkN (hts _ hw) hsame hv hd kk
  · exact va_getN (D := D) (ci := ci) (v := ti_tv ad (ti_fv M' pl k fd)) (C := CC) (T := T) (N := N) hx hb hts hin hown hK hP pl he hc k hkN (va_Nw.use rfl (hN _ hw)) hsame hv hd kk
theorem ti_putf_ok (C : ti_C p s m args meth c h nL D ca ad adV A) (hP : va_P D vwCl (ti_ws lay ad ca M) H) (hD : va_D A (ti_ws lay ad ca M)) (hS : va_S A s.heap H locs) {idx : Nat} (hd : decode h.2.1 pc = .ok (.putfield idx, 3)) (hs : ti_pf lay h.1 idx pc L st M = some (pc', L', st', M'))
    (kk : ∀ (H' : Heap) (locs' : List Loc), va_P D vwCl (ti_ws lay ad ca M') H' → va_D A (ti_ws lay ad ca M') → va_S A s.heap H' locs' → W p l e R s m args below meth c H' locs' cells slots Q (F0 m pc' ls (st'.map (ti_tv ad)))) : W p l e R s m args below meth c H locs cells slots Q (F0 m pc ls (st.map (ti_tv ad))) := by
  obtain ⟨hx, hb, hml, hown, hts, hr, hlk, hK, hN, hZ, hA⟩ := C
  rcases ti_pf_inv hs with ⟨x, pl, r, ci, k, kd, fds, z, rfl, hf, hl, hk, hkd, rfl, rfl, rfl, rfl⟩ | ⟨q, pl, r, ci, k, kd, fds, z, rfl, hf, hl, hk, hkd, rfl, rfl, rfl, rfl⟩
  · obtain ⟨CC, T, N, hc, hkN, hTC, hlink, hk0, hk1, -⟩ := ti_fok_of hf
    obtain ⟨hin, ⟨ty0, hty⟩, hnm⟩ := ti_kok hc
    have he : (ti_ws lay ad ca M)[pl]? = some (ad pl, .inr (ci, ti_fm ad M pl 0 fds)) := ti_ws_at hl
    have hll : k < (ti_fm ad M pl 0 fds).length := by rw [ti_fm_len]; exact (List.getElem?_eq_some_iff.mp hk).1
    have hsame : ∀ x, s.fieldFound? (T k).1 (T k).2.1 (T k).2.2.1 = some x → s.fieldFound? CC (T k).2.1 (T k).2.2.1 = some x := fun x hx => by rw [← hTC]; exact hx
    have hup : ti_ws lay ad ca (ti_wr M.1 pl k x, M.2.1, M.2.2) = (ti_ws lay ad ca M).set pl (ad pl, .inr (ci, (ti_fm ad M pl 0 fds).set k (.int x))) := by
      rw [ti_ws_upd (M := M) (M' := (ti_wr M.1 pl k x, M.2.1, M.2.2)) hl (fun q hq => ⟨ti_up_n hq, rfl, rfl⟩)]
      show _ = List.set _ _ _
      rw [show ti_ce ad ca (ti_wr M.1 pl k x, M.2.1, M.2.2) pl (.inl (ci, fds)) = .inr (ci, ti_fm ad (ti_wr M.1 pl k x, M.2.1, M.2.2) pl 0 fds) from rfl, ti_fm_wr hk]
    obtain ⟨ty, hfin, hpd, hnar, hfit⟩ : ∃ ty, (T k).2.2.2 = false ∧ parseFieldDescriptor (T k).2.2.1 = some ty ∧ narrow ty (.int x) = .int x ∧ fits ty (.int x) = true := by
      rcases hkd with h0 | ⟨h1, hx01⟩
      · exact ⟨.int, (hk0 h0).1, (hk0 h0).2, rfl, rfl⟩
      · refine ⟨.boolean, (hk1 h1).1, (hk1 h1).2, ?_⟩
        rcases hx01 with rfl | rfl <;> exact ⟨by decide, by decide⟩
    rcases hlink with hw | ⟨host, hw⟩
    · exact va_put (D := D) (ci := ci) (v := .int x) (ty := ty) (C := CC) (T := T) (N := N) hx hb hts hin ty0 hty hnm hown hK hP hD hS pl he hc k hkN (hts _ hw) hsame hfin hpd hnar hfit hll hd (fun H1 locs1 a b c => kk H1 locs1 (hup ▸ a) (hup ▸ b) c)
    · exact va_putN (D := D) (ci := ci) (v := .int x) (ty := ty) (C := CC) (T := T) (N := N) hx hb hts hin ty0 hty hnm hown hK hP hD hS pl he hc k hkN (va_Nw.use rfl (hN _ hw)) hsame hfin hpd hnar hfit hll hd (fun H1 locs1 a b c => kk H1 locs1 (hup ▸ a) (hup ▸ b) c)
  · obtain ⟨CC, T, N, hc, hkN, hTC, hlink, -, -, hk3⟩ := ti_fok_of hf
    obtain ⟨hin, ⟨ty0, hty⟩, hnm⟩ := ti_kok hc
    have he : (ti_ws lay ad ca M)[pl]? = some (ad pl, .inr (ci, ti_fm ad M pl 0 fds)) := ti_ws_at hl
    have hll : k < (ti_fm ad M pl 0 fds).length := by rw [ti_fm_len]; exact (List.getElem?_eq_some_iff.mp hk).1
    have hsame : ∀ x, s.fieldFound? (T k).1 (T k).2.1 (T k).2.2.1 = some x → s.fieldFound? CC (T k).2.1 (T k).2.2.1 = some x := fun x hx => by rw [← hTC]; exact hx
    have hup : ti_ws lay ad ca (M.1, M.2.1, ti_wf M.2.2 pl k (.ref q)) = (ti_ws lay ad ca M).set pl (ad pl, .inr (ci, (ti_fm ad M pl 0 fds).set k (.ref (ad q)))) := by
      rw [ti_ws_upd (M := M) (M' := (M.1, M.2.1, ti_wf M.2.2 pl k (.ref q))) hl (fun q hq => ⟨rfl, rfl, ti_up_n hq⟩)]
      rw [show ti_ce ad ca (M.1, M.2.1, ti_wf M.2.2 pl k (.ref q)) pl (.inl (ci, fds)) = .inr (ci, ti_fm ad (M.1, M.2.1, ti_wf M.2.2 pl k (.ref q)) pl 0 fds) from rfl, ti_fm_wf hk]
      rfl
    obtain ⟨hfin, ty, hpd, hty2⟩ := hk3 hkd
    rcases hlink with hw | ⟨host, hw⟩
    · exact va_put (D := D) (ci := ci) (v := .ref (ad q)) (ty := ty) (C := CC) (T := T) (N := N) hx hb hts hin ty0 hty hnm hown hK hP hD hS pl he hc k hkN (hts _ hw) hsame hfin hpd (hty2 _).1 (hty2 _).2 hll hd (fun H1 locs1 a b c => kk H1 locs1 (hup ▸ a) (hup ▸ b) c)
    · exact va_putN (D := D) (ci := ci) (v := .ref (ad q)) (ty := ty) (C := CC) (T := T) (N := N) hx hb hts hin ty0 hty hnm hown hK hP hD hS pl he hc k hkN (va_Nw.use rfl (hN _ hw)) hsame hfin hpd (hty2 _).1 (hty2 _).2 hll hd (fun H1 locs1 a b c => kk H1 locs1 (hup ▸ a) (hup ▸ b) c)
theorem ti_ce_arr {n kd : Nat} {pl : Nat} (h4 : kd ≠ 4) : ti_ce ad ca M pl (.inr (.inl (kd, n))) = .inl (ca kd, n, .inl (M.1 pl)) := by simp [ti_ce, h4]
theorem ti_ce_lng {n : Nat} {pl : Nat} : ti_ce ad ca M pl (.inr (.inl (4, n))) = .inl (ca 4, n, .inr (.inl (M.2.1 pl))) := by simp [ti_ce]
theorem ti_as_up {pl kd n j : Nat} {x : Int32} (hl : lay[pl]? = some (.inr (.inl (kd, n)))) (h4 : kd ≠ 4) : ti_ws lay ad ca (ti_wr M.1 pl j x, M.2.1, M.2.2) = (ti_ws lay ad ca M).set pl (ad pl, .inl (ca kd, n, .inl (upd (M.1 pl) j x))) := by
  rw [ti_ws_upd (M := M) (M' := (ti_wr M.1 pl j x, M.2.1, M.2.2)) hl (fun q hq => ⟨ti_up_n hq, rfl, rfl⟩), ti_ce_arr h4]
  simp only [ti_wr, ti_up_s]
theorem ti_als_up {pl n j : Nat} {x : Int64} (hl : lay[pl]? = some (.inr (.inl (4, n)))) : ti_ws lay ad ca (M.1, ti_wl M.2.1 pl j x, M.2.2) = (ti_ws lay ad ca M).set pl (ad pl, .inl (ca 4, n, .inr (.inl (vp_updL (M.2.1 pl) j x)))) := by
  rw [ti_ws_upd (M := M) (M' := (M.1, ti_wl M.2.1 pl j x, M.2.2)) hl (fun q hq => ⟨rfl, ti_up_n hq, rfl⟩), ti_ce_lng]
  simp only [ti_wl, ti_up_s]
theorem ti_cp_up {pl n : Nat} {g : Nat → Int32} (hl : lay[pl]? = some (.inr (.inl (0, n)))) : ti_ws lay ad ca (va_up M.1 pl g, M.2.1, M.2.2) = (ti_ws lay ad ca M).set pl (ad pl, .inl (ca 0, n, .inl g)) := by
  rw [ti_ws_upd (M := M) (M' := (va_up M.1 pl g, M.2.1, M.2.2)) hl (fun q hq => ⟨ti_up_n hq, rfl, rfl⟩), ti_ce_arr (by decide)]
  simp only [ti_up_s]
set_option maxHeartbeats 4000000 in
theorem ti_step_ok (C : ti_C p s m args meth c h nL D ca ad adV A) (hP : va_P D vwCl (ti_ws lay ad ca M) H) (hD : va_D A (ti_ws lay ad ca M)) (hS : va_S A s.heap H locs) (hl : ti_lr ad ls L) (hd : decode h.2.1 pc = .ok (i, len)) (hk : ti_lk i len = true) (hs : ti_step lay h.1 i pc L st M = some (pc', L', st', M'))
    (kk : ∀ (H' : Heap) (locs' : List Loc) (ls' : Array Slot), va_P D vwCl (ti_ws lay ad ca M') H' → va_D A (ti_ws lay ad ca M') → va_S A s.heap H' locs' → ti_lr ad ls' L' → L'.length = L.length → W p l e R s m args below meth c H' locs' cells slots Q (F0 m pc' ls' (st'.map (ti_tv ad)))) : W p l e R s m args below meth c H locs cells slots Q (F0 m pc ls (st.map (ti_tv ad))) := by
  have C0 := C
  obtain ⟨hx, hb, hml, hown, hts, hr, hlk, hK, hN, hZ, hA⟩ := C
  cases i
  case iconst n =>
    obtain rfl := ti_one (n := 1) hk rfl
    cases hs
    exact lv_iconst hx hb hd rfl (kk _ _ _ hP hD hS hl rfl)
  case bipush n =>
    obtain rfl := ti_one (n := 2) hk rfl
    cases hs
    exact lv_bipush hx hb hd rfl (kk _ _ _ hP hD hS hl rfl)
  case sipush n =>
    obtain rfl := ti_one (n := 3) hk rfl
    cases hs
    exact lv_sipush hx hb hd rfl (kk _ _ _ hP hD hS hl rfl)
  case lconst n =>
    obtain rfl := ti_one (n := 1) hk rfl
    cases hs
    exact lv_lconst hx hb hd rfl (kk _ _ _ hP hD hS hl rfl)
  case ldc k =>
    obtain rfl := ti_one (n := 2) hk rfl
    simp only [ti_step] at hs
    split at hs
    · rename_i x hc
      cases hs
      exact lv_ldc hx hb hown (hts _ ((ti_cok_of hc).1 _ rfl)) hd (kk _ _ _ hP hD hS hl rfl)
    · rename_i q hc
      cases hs
      obtain ⟨h5, rfl, rfl⟩ := (ti_cok_of hc).2.2 _ rfl
      rw [h5] at hown
      exact va_ldcS hx hb (own := RX5) hown hZ.1 hd (kk _ _ _ hP hD hS hl rfl)
    · cases hs
  case ldc_w k =>
    obtain rfl := ti_one (n := 3) hk rfl
    simp only [ti_step] at hs
    split at hs
    · rename_i x hc
      cases hs
      exact lv_ldcw hx hb hown (hts _ ((ti_cok_of hc).1 _ rfl)) hd (kk _ _ _ hP hD hS hl rfl)
    · cases hs
  case ldc2_w k =>
    obtain rfl := ti_one (n := 3) hk rfl
    simp only [ti_step] at hs
    split at hs
    · rename_i x hc
      cases hs
      exact lv_ldc2 hx hb hown (hts _ ((ti_cok_of hc).2.1 _ rfl)) hd (kk _ _ _ hP hD hS hl rfl)
    · cases hs
  case iload k =>
    obtain rfl := ti_one (n := 2) hk rfl
    obtain ⟨x, h1, rfl, rfl, rfl, rfl⟩ := ti_li_inv hs
    exact lv_iload hx hb hd (hl.2.2 _ _ h1) (kk _ _ _ hP hD hS hl rfl)
  case iload_n k =>
    obtain rfl := ti_one (n := 1) hk rfl
    obtain ⟨x, h1, rfl, rfl, rfl, rfl⟩ := ti_li_inv hs
    exact lv_iload_n hx hb hd rfl (hl.2.2 _ _ h1) (kk _ _ _ hP hD hS hl rfl)
  case aload k =>
    obtain rfl := ti_one (n := 2) hk rfl
    obtain ⟨x, h1, rfl, rfl, rfl, rfl⟩ := ti_la_inv hs
    exact lv_aload hx hb hd (hl.2.2 _ _ h1) (kk _ _ _ hP hD hS hl rfl)
  case aload_n k =>
    obtain rfl := ti_one (n := 1) hk rfl
    obtain ⟨x, h1, rfl, rfl, rfl, rfl⟩ := ti_la_inv hs
    exact lv_aload_n hx hb hd rfl (hl.2.2 _ _ h1) (kk _ _ _ hP hD hS hl rfl)
  case lload k =>
    obtain rfl := ti_one (n := 2) hk rfl
    obtain ⟨x, h1, rfl, rfl, rfl, rfl⟩ := ti_ll_inv hs
    exact lv_lload hx hb hd (hl.2.2 _ _ h1) (kk _ _ _ hP hD hS hl rfl)
  case lload_n k =>
    obtain rfl := ti_one (n := 1) hk rfl
    obtain ⟨x, h1, rfl, rfl, rfl, rfl⟩ := ti_ll_inv hs
    exact lv_lload_n hx hb hd rfl (hl.2.2 _ _ h1) (kk _ _ _ hP hD hS hl rfl)
  case istore k =>
    obtain rfl := ti_one (n := 2) hk rfl
    obtain ⟨x, r, rfl, h1, rfl, rfl, rfl⟩ := ti_si_inv hs
    exact lv_istore hx hb hd (ti_lr_has hl) (ti_st1_inv h1).1 rfl (fun ls' h2 => kk _ _ _ hP hD hS (ti_lr_st1 h1 h2) (ti_st1_len h1))
  case istore_n k =>
    obtain rfl := ti_one (n := 1) hk rfl
    obtain ⟨x, r, rfl, h1, rfl, rfl, rfl⟩ := ti_si_inv hs
    exact lv_istore_n hx hb hd rfl (ti_lr_has hl) (ti_st1_inv h1).1 rfl (fun ls' h2 => kk _ _ _ hP hD hS (ti_lr_st1 h1 h2) (ti_st1_len h1))
  case astore k =>
    obtain rfl := ti_one (n := 2) hk rfl
    obtain ⟨x, r, rfl, h1, rfl, rfl, rfl⟩ := ti_sa_inv hs
    exact lv_astore hx hb hd (ti_lr_has hl) (ti_st1_inv h1).1 rfl (fun ls' h2 => kk _ _ _ hP hD hS (ti_lr_st1 h1 h2) (ti_st1_len h1))
  case astore_n k =>
    obtain rfl := ti_one (n := 1) hk rfl
    obtain ⟨x, r, rfl, h1, rfl, rfl, rfl⟩ := ti_sa_inv hs
    exact lv_astore_n hx hb hd rfl (ti_lr_has hl) (ti_st1_inv h1).1 rfl (fun ls' h2 => kk _ _ _ hP hD hS (ti_lr_st1 h1 h2) (ti_st1_len h1))
  case lstore k =>
    obtain rfl := ti_one (n := 2) hk rfl
    obtain ⟨x, r, rfl, h1, rfl, rfl, rfl⟩ := ti_sl_inv hs
    exact lv_lstore hx hb hd (ti_lr_has hl) (ti_st2_inv h1).1 rfl (fun ls' h2 => kk _ _ _ hP hD hS (ti_lr_st2 h1 h2) (ti_st2_len h1))
  case lstore_n k =>
    obtain rfl := ti_one (n := 1) hk rfl
    obtain ⟨x, r, rfl, h1, rfl, rfl, rfl⟩ := ti_sl_inv hs
    exact lv_lstore_n hx hb hd rfl (ti_lr_has hl) (ti_st2_inv h1).1 rfl (fun ls' h2 => kk _ _ _ hP hD hS (ti_lr_st2 h1 h2) (ti_st2_len h1))
  case iinc k n =>
    obtain rfl := ti_one (n := 3) hk rfl
    simp only [ti_step] at hs
    split at hs
    · rename_i x hx1
      obtain ⟨L2, h1, he⟩ := Option.map_eq_some_iff.mp hs
      cases he
      obtain ⟨j, hj⟩ := List.getElem?_of_mem (ti_lv_mem (ad := ad) hx1)
      exact lv_iinc hx hb hd (ti_lr_has hl) hj rfl (ti_st1_inv h1).1 rfl (fun ls' h2 => kk _ _ _ hP hD hS (ti_lr_st1 h1 h2) (ti_st1_len h1))
    · cases hs
  case ineg =>
    obtain rfl := ti_one (n := 1) hk rfl
    obtain ⟨x, r, rfl, rfl, rfl, rfl, rfl⟩ := ti_u_inv hs
    exact lv_ineg hx hb hd (kk _ _ _ hP hD hS hl rfl)
  case i2b =>
    obtain rfl := ti_one (n := 1) hk rfl
    obtain ⟨x, r, rfl, rfl, rfl, rfl, rfl⟩ := ti_u_inv hs
    exact lv_i2b hx hb hd rfl (kk _ _ _ hP hD hS hl rfl)
  case i2s =>
    obtain rfl := ti_one (n := 1) hk rfl
    obtain ⟨x, r, rfl, rfl, rfl, rfl, rfl⟩ := ti_u_inv hs
    exact lv_i2s hx hb hd rfl (kk _ _ _ hP hD hS hl rfl)
  case i2c =>
    obtain rfl := ti_one (n := 1) hk rfl
    obtain ⟨x, r, rfl, rfl, rfl, rfl, rfl⟩ := ti_u_inv hs
    exact lv_i2c hx hb hd rfl (kk _ _ _ hP hD hS hl rfl)
  case i2l =>
    obtain rfl := ti_one (n := 1) hk rfl
    obtain ⟨x, r, rfl, rfl, rfl, rfl, rfl⟩ := ti_u_inv hs
    exact lv_i2l hx hb hd rfl (kk _ _ _ hP hD hS hl rfl)
  case iadd =>
    obtain rfl := ti_one (n := 1) hk rfl
    obtain ⟨x, y, r, z, rfl, hz, rfl, rfl, rfl, rfl⟩ := ti_b_inv hs
    cases hz
    exact lv_iadd hx hb hd (kk _ _ _ hP hD hS hl rfl)
  case isub =>
    obtain rfl := ti_one (n := 1) hk rfl
    obtain ⟨x, y, r, z, rfl, hz, rfl, rfl, rfl, rfl⟩ := ti_b_inv hs
    cases hz
    exact lv_isub hx hb hd (kk _ _ _ hP hD hS hl rfl)
  case imul =>
    obtain rfl := ti_one (n := 1) hk rfl
    obtain ⟨x, y, r, z, rfl, hz, rfl, rfl, rfl, rfl⟩ := ti_b_inv hs
    cases hz
    exact lv_imul hx hb hd (kk _ _ _ hP hD hS hl rfl)
  case iand =>
    obtain rfl := ti_one (n := 1) hk rfl
    obtain ⟨x, y, r, z, rfl, hz, rfl, rfl, rfl, rfl⟩ := ti_b_inv hs
    cases hz
    exact lv_iand hx hb hd (kk _ _ _ hP hD hS hl rfl)
  case ior =>
    obtain rfl := ti_one (n := 1) hk rfl
    obtain ⟨x, y, r, z, rfl, hz, rfl, rfl, rfl, rfl⟩ := ti_b_inv hs
    cases hz
    exact lv_ior hx hb hd (kk _ _ _ hP hD hS hl rfl)
  case ixor =>
    obtain rfl := ti_one (n := 1) hk rfl
    obtain ⟨x, y, r, z, rfl, hz, rfl, rfl, rfl, rfl⟩ := ti_b_inv hs
    cases hz
    exact lv_ixor hx hb hd (kk _ _ _ hP hD hS hl rfl)
  case ishl =>
    obtain rfl := ti_one (n := 1) hk rfl
    obtain ⟨x, y, r, z, rfl, hz, rfl, rfl, rfl, rfl⟩ := ti_b_inv hs
    cases hz
    exact lv_ishl hx hb hd (kk _ _ _ hP hD hS hl rfl)
  case ishr =>
    obtain rfl := ti_one (n := 1) hk rfl
    obtain ⟨x, y, r, z, rfl, hz, rfl, rfl, rfl, rfl⟩ := ti_b_inv hs
    cases hz
    exact lv_ishr hx hb hd (kk _ _ _ hP hD hS hl rfl)
  case iushr =>
    obtain rfl := ti_one (n := 1) hk rfl
    obtain ⟨x, y, r, z, rfl, hz, rfl, rfl, rfl, rfl⟩ := ti_b_inv hs
    cases hz
    exact lv_iushr hx hb hd rfl (kk _ _ _ hP hD hS hl rfl)
  case idiv =>
    obtain rfl := ti_one (n := 1) hk rfl
    obtain ⟨x, y, r, z, rfl, hz, rfl, rfl, rfl, rfl⟩ := ti_b_inv hs
    split at hz
    · cases hz
    · rename_i hne
      cases hz
      exact lv_idiv hx hb hd hne (kk _ _ _ hP hD hS hl rfl)
  case irem =>
    obtain rfl := ti_one (n := 1) hk rfl
    obtain ⟨x, y, r, z, rfl, hz, rfl, rfl, rfl, rfl⟩ := ti_b_inv hs
    split at hz
    · cases hz
    · rename_i hne
      cases hz
      exact lv_irem hx hb hd hne (kk _ _ _ hP hD hS hl rfl)
  case ladd =>
    obtain rfl := ti_one (n := 1) hk rfl
    obtain ⟨x, y, r, z, rfl, hz, rfl, rfl, rfl, rfl⟩ := ti_bl_inv hs
    cases hz
    exact lv_ladd hx hb hd (kk _ _ _ hP hD hS hl rfl)
  case lmul =>
    obtain rfl := ti_one (n := 1) hk rfl
    obtain ⟨x, y, r, z, rfl, hz, rfl, rfl, rfl, rfl⟩ := ti_bl_inv hs
    cases hz
    exact lv_lmul hx hb hd (kk _ _ _ hP hD hS hl rfl)
  case ldiv =>
    obtain rfl := ti_one (n := 1) hk rfl
    obtain ⟨x, y, r, z, rfl, hz, rfl, rfl, rfl, rfl⟩ := ti_bl_inv hs
    split at hz
    · cases hz
    · rename_i hne
      cases hz
      exact lv_ldiv hx hb hd hne (kk _ _ _ hP hD hS hl rfl)
  case lrem =>
    obtain rfl := ti_one (n := 1) hk rfl
    obtain ⟨x, y, r, z, rfl, hz, rfl, rfl, rfl, rfl⟩ := ti_bl_inv hs
    split at hz
    · cases hz
    · rename_i hne
      cases hz
      exact lv_lrem hx hb hd hne (kk _ _ _ hP hD hS hl rfl)
  case lcmp =>
    obtain rfl := ti_one (n := 1) hk rfl
    obtain ⟨x, y, r, z, rfl, hz, rfl, rfl, rfl, rfl⟩ := ti_bl_inv hs
    cases hz
    exact W.lcmp hx hb hd (kk _ _ _ hP hD hS hl rfl)
  case pop =>
    obtain rfl := ti_one (n := 1) hk rfl
    simp only [ti_step, ti_stk] at hs
    split at hs <;> first | (cases hs; done) | skip
    all_goals first | (rename_i he; cases he) | skip
    all_goals cases hs
    exact lv_pop hx hb hd rfl (kk _ _ _ hP hD hS hl rfl)
  case dup =>
    obtain rfl := ti_one (n := 1) hk rfl
    match st, hs with
    | .int x :: r, hs => cases hs; exact lv_dup hx hb hd rfl (kk _ _ _ hP hD hS hl rfl)
    | .ref x :: r, hs => cases hs; exact lv_dup hx hb hd rfl (kk _ _ _ hP hD hS hl rfl)
  case dup_x1 =>
    obtain rfl := ti_one (n := 1) hk rfl
    match st, hs with
    | .int x :: .ref y :: r, hs => cases hs; exact lv_dup_x1 hx hb hd rfl rfl (kk _ _ _ hP hD hS hl rfl)
  case dup2 =>
    obtain rfl := ti_one (n := 1) hk rfl
    match st, hs with
    | .int x :: .ref y :: r, hs => cases hs; exact lv_dup2_11 hx hb hd rfl rfl (kk _ _ _ hP hD hS hl rfl)
  case goto off =>
    obtain rfl := ti_one (n := 3) hk rfl
    obtain ⟨t, ht, he⟩ := Option.map_eq_some_iff.mp hs
    cases he
    exact lv_goto hx hb hd (ti_jmp_inv ht) (kk _ _ _ hP hD hS hl rfl)
  case if_icmp cd off =>
    obtain rfl := ti_one (n := 3) hk rfl
    obtain ⟨x, y, r, t, rfl, ht, rfl, rfl, rfl, rfl⟩ := ti_ic_inv hs
    have K := kk _ _ _ hP hD hS hl rfl
    cases cd
    case eq => exact lv_icmp_eq hx hb hd ht (fun q => by rw [if_pos (by simpa [ti_cnd] using q)] at K; exact K) (fun q => by rw [if_neg (by simpa [ti_cnd] using q)] at K; exact K)
    case ne => exact lv_icmp_ne hx hb hd ht (fun q => by rw [if_pos (by simpa [ti_cnd] using q)] at K; exact K) (fun q => by rw [if_neg (by simpa [ti_cnd] using q)] at K; exact K)
    case lt => exact lv_icmp_lt hx hb hd ht (fun q => by rw [if_pos (by simpa [ti_cnd] using q)] at K; exact K) (fun q => by rw [if_neg (by simpa [ti_cnd] using q)] at K; exact K)
    case ge => exact lv_icmp_ge hx hb hd ht (fun q => by rw [if_pos (by simpa [ti_cnd] using q)] at K; exact K) (fun q => by rw [if_neg (by simpa [ti_cnd] using q)] at K; exact K)
    case gt => exact lv_icmp_gt hx hb hd ht (fun q => by rw [if_pos (by simpa [ti_cnd] using q)] at K; exact K) (fun q => by rw [if_neg (by simpa [ti_cnd] using q)] at K; exact K)
    case le => exact lv_icmp_le hx hb hd ht (fun q => by rw [if_pos (by simpa [ti_cnd] using q)] at K; exact K) (fun q => by rw [if_neg (by simpa [ti_cnd] using q)] at K; exact K)
  case ifCond cd off =>
    obtain rfl := ti_one (n := 3) hk rfl
    obtain ⟨x, r, t, rfl, ht, rfl, rfl, rfl, rfl⟩ := ti_if_inv hs
    have K := kk _ _ _ hP hD hS hl rfl
    cases cd
    case eq => exact lv_if_eq hx hb hd ht (fun q => by rw [if_pos (by simpa [ti_cnd] using q)] at K; exact K) (fun q => by rw [if_neg (by simpa [ti_cnd] using q)] at K; exact K)
    case ne => exact lv_if_ne hx hb hd ht (fun q => by rw [if_pos (by simpa [ti_cnd] using q)] at K; exact K) (fun q => by rw [if_neg (by simpa [ti_cnd] using q)] at K; exact K)
    case lt => exact lv_if_lt hx hb hd ht (fun q => by rw [if_pos (by simpa [ti_cnd] using q)] at K; exact K) (fun q => by rw [if_neg (by simpa [ti_cnd] using q)] at K; exact K)
    case ge => exact lv_if_ge hx hb hd ht (fun q => by rw [if_pos (by simpa [ti_cnd] using q)] at K; exact K) (fun q => by rw [if_neg (by simpa [ti_cnd] using q)] at K; exact K)
    case gt => exact lv_if_gt hx hb hd ht (fun q => by rw [if_pos (by simpa [ti_cnd] using q)] at K; exact K) (fun q => by rw [if_neg (by simpa [ti_cnd] using q)] at K; exact K)
    case le => exact lv_if_le hx hb hd ht (fun q => by rw [if_pos (by simpa [ti_cnd] using q)] at K; exact K) (fun q => by rw [if_neg (by simpa [ti_cnd] using q)] at K; exact K)
  case tableswitch dflt lo hi offs =>
    obtain ⟨x, r, rfl, ho, rfl, rfl, rfl⟩ := ti_ts_inv hs
    rcases ho with ⟨h1, h2⟩ | ⟨h1, h2, off, h3, h4⟩
    · exact lv_tableOut hx hb hd h1 h2 (kk _ _ _ hP hD hS hl rfl)
    · exact lv_tableIn hx hb hd h1 h2 h3 h4 (kk _ _ _ hP hD hS hl rfl)
  case lookupswitch dflt ps =>
    obtain ⟨x, r, rfl, h1, h2, rfl, rfl, rfl⟩ := ti_ls_inv hs
    exact lv_lookup hx hb hd h1 rfl h2 (kk _ _ _ hP hD hS hl rfl)
  case iaload =>
    obtain rfl := ti_one (n := 1) hk rfl
    obtain ⟨j, pl, r, kd, n, rfl, h1, h2, h3, rfl, rfl, rfl, rfl⟩ := ti_al_inv hs
    obtain rfl : kd = 0 := by simpa using h2
    have ha := ti_ws_at (ad := ad) (ca := ca) (M := M') h1
    rw [ti_ce_arr (by decide)] at ha
    exact va_iald hx hb hK hP pl 0 ha rfl h3 hd (kk _ _ _ hP hD hS hl rfl)
  case baload =>
    obtain rfl := ti_one (n := 1) hk rfl
    obtain ⟨j, pl, r, kd, n, rfl, h1, h2, h3, rfl, rfl, rfl, rfl⟩ := ti_al_inv hs
    have ha := ti_ws_at (ad := ad) (ca := ca) (M := M') h1
    rcases (by simpa using h2 : kd = 1 ∨ kd = 3) with rfl | rfl
    · rw [ti_ce_arr (by decide)] at ha
      exact va_bald hx hb hK hP pl 1 ha rfl h3 hd (kk _ _ _ hP hD hS hl rfl)
    · rw [ti_ce_arr (by decide)] at ha
      exact va_zald hx hb hK hP pl 3 ha rfl h3 hd (kk _ _ _ hP hD hS hl rfl)
  case caload =>
    obtain rfl := ti_one (n := 1) hk rfl
    obtain ⟨j, pl, r, kd, n, rfl, h1, h2, h3, rfl, rfl, rfl, rfl⟩ := ti_al_inv hs
    obtain rfl : kd = 2 := by simpa using h2
    have ha := ti_ws_at (ad := ad) (ca := ca) (M := M') h1
    rw [ti_ce_arr (by decide)] at ha
    exact va_cald hx hb hK hP pl 2 ha rfl h3 hd (kk _ _ _ hP hD hS hl rfl)
  case laload =>
    obtain rfl := ti_one (n := 1) hk rfl
    obtain ⟨j, pl, r, kd, n, rfl, h1, h2, h3, rfl, rfl, rfl, rfl⟩ := ti_al_inv hs
    obtain rfl : kd = 4 := by simpa using h2
    have ha := ti_ws_at (ad := ad) (ca := ca) (M := M') h1
    rw [ti_ce_lng] at ha
    exact va_lald hx hb hK hP pl 4 ha rfl h3 hd (kk _ _ _ hP hD hS hl rfl)
  case aaload =>
    obtain rfl := ti_one (n := 1) hk rfl
    obtain ⟨j, pl, r, qs, q, rfl, h1, h2, h3, rfl, rfl, rfl, rfl⟩ := ti_aa_inv hs
    have ha := ti_ws_at (ad := ad) (ca := ca) (M := M') h1
    have K := kk _ _ _ hP hD hS hl rfl
    refine va_aldq hx hb hK hP pl 5 ha rfl h3 hd ?_
    show W p l e R s m args below meth c H locs cells slots Q (F0 m (pc + 1) ls (va_rf ((qs[j.toNatClampNeg]?).map ad) :: r.map (ti_tv ad)))
    rw [h2]
    exact K
  case iastore =>
    obtain rfl := ti_one (n := 1) hk rfl
    obtain ⟨x, j, pl, r, kd, n, rfl, h1, h2, h3, rfl, rfl, rfl, rfl⟩ := ti_as_inv hs
    obtain rfl : kd = 0 := by simpa using h2
    have ha := ti_ws_at (ad := ad) (ca := ca) (M := M) h1
    rw [ti_ce_arr (by decide)] at ha
    have hup := ti_as_up (ad := ad) (ca := ca) (M := M) (j := j.toNatClampNeg) (x := x) h1 (by decide)
    exact va_iast hx hb hK hP hD hS pl 0 ha rfl h3 hd (fun H1 locs1 a b c => kk H1 locs1 ls (hup ▸ a) (hup ▸ b) c hl rfl)
  case bastore =>
    obtain rfl := ti_one (n := 1) hk rfl
    obtain ⟨x, j, pl, r, kd, n, rfl, h1, h2, h3, rfl, rfl, rfl, rfl⟩ := ti_as_inv hs
    have ha := ti_ws_at (ad := ad) (ca := ca) (M := M) h1
    rcases (by simpa using h2 : kd = 1 ∨ kd = 3) with rfl | rfl
    · rw [ti_ce_arr (by decide)] at ha
      have hup := ti_as_up (ad := ad) (ca := ca) (M := M) (j := j.toNatClampNeg) (x := vp_nar .byte x) h1 (by decide)
      exact va_bast hx hb hK hP hD hS pl 1 ha rfl h3 hd (fun H1 locs1 a b c => kk H1 locs1 ls (hup ▸ a) (hup ▸ b) c hl rfl)
    · rw [ti_ce_arr (by decide)] at ha
      have hup := ti_as_up (ad := ad) (ca := ca) (M := M) (j := j.toNatClampNeg) (x := vp_nar .boolean x) h1 (by decide)
      exact va_zast hx hb hK hP hD hS pl 3 ha rfl h3 hd (fun H1 locs1 a b c => kk H1 locs1 ls (hup ▸ a) (hup ▸ b) c hl rfl)
  case castore =>
    obtain rfl := ti_one (n := 1) hk rfl
    obtain ⟨x, j, pl, r, kd, n, rfl, h1, h2, h3, rfl, rfl, rfl, rfl⟩ := ti_as_inv hs
    obtain rfl : kd = 2 := by simpa using h2
    have ha := ti_ws_at (ad := ad) (ca := ca) (M := M) h1
    rw [ti_ce_arr (by decide)] at ha
    have hup := ti_as_up (ad := ad) (ca := ca) (M := M) (j := j.toNatClampNeg) (x := vp_nar .char x) h1 (by decide)
    exact va_cast hx hb hK hP hD hS pl 2 ha rfl h3 hd (fun H1 locs1 a b c => kk H1 locs1 ls (hup ▸ a) (hup ▸ b) c hl rfl)
  case lastore =>
    obtain rfl := ti_one (n := 1) hk rfl
    obtain ⟨x, j, pl, r, n, rfl, h1, h3, rfl, rfl, rfl, rfl⟩ := ti_als_inv hs
    have ha := ti_ws_at (ad := ad) (ca := ca) (M := M) h1
    rw [ti_ce_lng] at ha
    have hup := ti_als_up (ad := ad) (ca := ca) (M := M) (j := j.toNatClampNeg) (x := x) h1
    exact va_last hx hb hK hP hD hS pl 4 ha rfl h3 hd (fun H1 locs1 a b c => kk H1 locs1 ls (hup ▸ a) (hup ▸ b) c hl rfl)
  case arraylength =>
    obtain rfl := ti_one (n := 1) hk rfl
    obtain ⟨pl, r, kd, n, rfl, h1, h5, rfl, rfl, rfl, rfl⟩ := ti_len_inv hs
    have ha := ti_ws_at (ad := ad) (ca := ca) (M := M') h1
    rcases (by omega : kd = 0 ∨ kd = 1 ∨ kd = 2 ∨ kd = 3 ∨ kd = 4) with rfl | rfl | rfl | rfl | rfl
    · rw [ti_ce_arr (by decide)] at ha
      exact va_alen hx hb hK hP pl 0 ha rfl rfl hd (kk _ _ _ hP hD hS hl rfl)
    · rw [ti_ce_arr (by decide)] at ha
      exact va_alen hx hb hK hP pl 1 ha rfl rfl hd (kk _ _ _ hP hD hS hl rfl)
    · rw [ti_ce_arr (by decide)] at ha
      exact va_alen hx hb hK hP pl 2 ha rfl rfl hd (kk _ _ _ hP hD hS hl rfl)
    · rw [ti_ce_arr (by decide)] at ha
      exact va_alen hx hb hK hP pl 3 ha rfl rfl hd (kk _ _ _ hP hD hS hl rfl)
    · rw [ti_ce_lng] at ha
      exact va_alen hx hb hK hP pl 4 ha rfl rfl hd (kk _ _ _ hP hD hS hl rfl)
  case getfield k =>
    obtain rfl := ti_one (n := 3) hk rfl
    have hs2 : ti_gf lay h.1 k pc L st M = some (pc', L', st', M') := hs
    obtain ⟨-, -, -, -, -, -, -, -, -, -, -, -, hL, -, hM⟩ := ti_gf_inv hs2
    subst hL; subst hM
    exact ti_getf_ok C0 hP hd hs2 (kk _ _ _ hP hD hS hl rfl)
  case putfield k =>
    obtain rfl := ti_one (n := 3) hk rfl
    have hs2 : ti_pf lay h.1 k pc L st M = some (pc', L', st', M') := hs
    have hL : L' = L := by
      rcases ti_pf_inv hs2 with ⟨_, _, _, _, _, _, _, _, -, -, -, -, -, -, hL, -⟩ | ⟨_, _, _, _, _, _, _, _, -, -, -, -, -, -, hL, -⟩ <;> exact hL
    subst hL
    exact ti_putf_ok C0 hP hD hS hd hs2 (fun H1 locs1 a b c => kk H1 locs1 ls a b c hl rfl)
  all_goals (simp [ti_step] at hs)
end TIS
