/-! SOUNDNESS: a run of the small machine is a run of the machine -/
theorem ti_map_take (ad : Nat → Nat) (st : List Value) (n : Nat) : st.map (ti_tv ad) = ((st.take n).reverse.map (ti_tv ad)).reverse ++ (st.drop n).map (ti_tv ad) := by
  rw [List.map_reverse, List.reverse_reverse, ← List.map_append, List.take_append_drop]
theorem ti_cat_map (ad : Nat → Nat) (vs : List Value) : ((vs.map (ti_tv ad)).map fun v => v.category).sum = ti_cat vs := by
  unfold ti_cat
  rw [List.map_map]
  congr 1
  apply List.map_congr_left
  intro v _
  exact ti_tv_cat ad v
theorem ti_inv_s {i : Instr} {k len : Nat} (h : ti_inv i = some (false, k)) (hl : ti_lk i len = true) : i = .invokestatic k ∧ len = 3 := by
  cases i <;> simp [ti_inv] at h
  subst h
  exact ⟨rfl, ti_one hl rfl⟩
theorem ti_inv_v {i : Instr} {k len : Nat} (h : ti_inv i = some (true, k)) (hl : ti_lk i len = true) : i = .invokevirtual k ∧ len = 3 := by
  cases i <;> simp [ti_inv] at h
  subst h
  exact ⟨rfl, ti_one hl rfl⟩
theorem ti_rcv0 {lay : List TE} {o2 : Nat} {vs : List Value} (h : ti_rcv lay 0 o2 vs = true) : ∃ q vs' fds, vs = .ref q :: vs' ∧ lay[q]? = some (.inl (o2, fds)) := by
  simp only [ti_rcv] at h
  split at h
  · split at h
    · rename_i hq
      have h2 := eq_of_beq h
      subst h2
      exact ⟨_, _, _, rfl, hq⟩
    · cases h
  · cases h
theorem ti_nfw : nativeFrameWords "java/lang/System" "arraycopy" 5 ≤ 50 := by decide +kernel
section TIM
variable {p : Program} {l : Launch} {e : Env} {s : State} {m : MethodId} {args : Array Value} {below : List Frame} {meth : Method} {c : Code} {H : Heap} {locs : List Loc} {Q : State → Prop} {h : TH} {D : va_G} {ca : Nat → ClassId} {ad adV : Nat → Nat} {A : Nat → Prop} {lay : List TE} {M M2 : TM} {ls : Array Slot} {L : TL} {pc d : Nat} {st : List Value} {r1 : Option Value}
/-- behind a call: the callee's world is the caller's -/
theorem ti_behind {rest : List Value} {av : Array Value} (C : ti_C p s m args meth c h L.length D ca ad adV A) (hD : va_D A (ti_ws lay ad ca M)) (hS : va_S A s.heap H locs)
    (hr : va_Run p l e (ti_rm d) s m args below meth c H locs 0 0 0 0 (F0 m pc ls (st.map (ti_tv ad))) (rest.map (ti_tv ad)) (ti_Q D lay ad ca M2 r1 (va_A (ti_ws lay ad ca M) H.size) av) (va_A (ti_ws lay ad ca M) H.size))
    (kk : ∀ (H' : Heap) (locs' : List Loc), va_P D vwCl (ti_ws lay ad ca M2) H' → va_D A (ti_ws lay ad ca M2) → va_S A s.heap H' locs' → W p l e (ti_rm d) s m args below meth c H' locs' 0 0 Q (F0 m (pc + 3) ls ((r1.toList ++ rest).map (ti_tv ad)))) : W p l e (ti_rm d) s m args below meth c H locs 0 0 Q (F0 m pc ls (st.map (ti_tv ad))) := by
  obtain ⟨hx, hb, hml, hown, hts, hret, hlk, hK, hN, hZ, hA⟩ := C
  have hF : ∀ q, va_A (ti_ws lay ad ca M) H.size q → A q := by
    intro q hq
    rcases hq with ⟨k, e, hk⟩ | hq
    · exact hD.2 k _ hk
    · exact hA q (Nat.le_trans hS.1 hq)
  intro T hT X
  obtain ⟨v, st₀, t, T', Lx, h0, X', hL, e1, e2, ⟨hv, hP2, hD2, hz, hk⟩, go⟩ := hr T hT X
  cases hv
  rw [h0] at hz hk
  have hS2 : va_S A s.heap T'.heap (locs ++ Lx) := ⟨Nat.le_trans hS.1 (by rw [e1]; exact hz), fun q h1 h2 => by rw [e1, hk q (Nat.lt_of_lt_of_le h1 hS.1) (fun z => h2 (hF q z))]; exact hS.2.1 q h1 h2, fun q hq => by
    rcases List.mem_append.mp hq with h | h
    · exact hS.2.2 q h
    · exact hF _ (hL q h)⟩
  have K := kk T'.heap (locs ++ Lx) (by rw [e1]; exact hP2) (hD2.weaken (fun k q _ h => hF q.1 h)) hS2
  obtain ⟨t2, a1, b1⟩ := K T' rfl X'
  refine ⟨t2, go t2 ?_, b1⟩
  have e3 : (r1.toList ++ rest).map (ti_tv ad) = (r1.map (ti_tv ad)).toList ++ rest.map (ti_tv ad) := by
    rw [List.map_append]; cases r1 <;> rfl
  rw [e3] at a1
  exact a1
theorem ti_pre {U : State} (C : ti_C p s m args meth c h L.length D ca ad adV A) (hP : va_P D vwCl (ti_ws lay ad ca M) H) (hD : va_D A (ti_ws lay ad ca M)) (hS : va_S A s.heap H locs) (hU : U.heap = H) (hW : s.WarmedH U.vm) : ti_B D lay ad adV ca M H.size U := by
  obtain ⟨hx, hb, hml, hown, hts, hret, hlk, hK, hN, hZ, hA⟩ := C
  have hF : ∀ q, va_A (ti_ws lay ad ca M) H.size q → A q := by
    intro q hq
    rcases hq with ⟨k, e, hk⟩ | hq
    · exact hD.2 k _ hk
    · exact hA q (Nat.le_trans hS.1 hq)
  refine ⟨by rw [hU], by rw [hU]; exact hP, va_K.moved hW.alike hK, hD.weaken (fun _ _ _ _ => trivial), ti_Nw_warm hW hN, vk_R.warm hW hZ.1, ?_⟩
  rw [hU]
  exact ti_Z2.moved hW.alike ((hZ.2.kept hS.2.1).narrow hF)
end TIM
set_option maxHeartbeats 4000000 in
theorem ti_sound (hIX : ti_IXok) : ∀ f, ti_S f := by
  intro f
  induction f with
  | zero =>
    intro p l e s m args below meth c H locs d h pc L st M r M1 D ca ad adV A lay ls hex
    simp [ti_exec] at hex
  | succ f ih =>
    intro p l e s m args below meth c H locs d h pc L st M r M1 D ca ad adV A lay ls hex C hP hD hS hl
    have C0 := C
    obtain ⟨hx, hb, hml, hown, hts, hret, hlk, hK, hN, hZ, hA⟩ := C
    have hsz : ls.size = L.length := hl.1
    obtain ⟨i, len, hdec, hlen, hcase⟩ := ti_exec_inv hex
    rcases hcase with ⟨vr, k, d', hi, rfl, hcall⟩ | ⟨hr, rfl⟩ | ⟨pc', L', st', M', hs, hx2⟩
    · rcases hcall with ⟨b, st', M', hbr, hvr, h8, hbu, hx2⟩ | ⟨kd, h2, mL, n, y, r1, M2, hmr, ⟨hvr, hn, hcat, hoka, hent, hrcv⟩, hx1, hx2⟩
      · -- the JDK's own
        have hB := ti_bok_of hbr
        have hcat100 : 100 ≤ (ti_rm (d' + 1)).locals := by show 100 ≤ 100 * (d' + 1); omega
        have hfr1 : 1 ≤ (ti_rm (d' + 1)).frames := by show 1 ≤ d' + 1; omega
        have K := fun (H' : Heap) (locs' : List Loc) (hP' : va_P D vwCl (ti_ws lay ad ca M') H') (hD' : va_D A (ti_ws lay ad ca M')) (hS' : va_S A s.heap H' locs') => ih p l e s m args below meth c H' locs' (d' + 1) h (pc + 3) L st' M' r M1 D ca ad adV A lay ls hx2 C0 hP' hD' hS' hl
        have hst : vr = false → decode h.2.1 pc = .ok (.invokestatic k, 3) := by
          intro hv
          rw [hv] at hi
          obtain ⟨rfl, rfl⟩ := ti_inv_s hi hlen
          exact hdec
        have hvi : vr = true → decode h.2.1 pc = .ok (.invokevirtual k, 3) := by
          intro hv
          rw [hv] at hi
          obtain ⟨rfl, rfl⟩ := ti_inv_v hi hlen
          exact hdec
        match b, st, hbu, hB, hvr, h8, hbr with
        | 0, .int y :: .int x :: r0, hbu, hB, hvr, h8, hbr =>
          simp only [ti_bui] at hbu
          split at hbu
          · rename_i hc
            cases hbu
            exact va_mmax hx hb (hml.trans hsz.symm) hown (hts _ (hB.1 rfl)) (hts _ ti_w_max1) (hts _ ti_w_math) (hts _ ti_w_max2) hfr1 (by rw [ti_cat_map]; omega) (Nat.le_refl 0) (Nat.le_refl 0) (hst hvr) (K _ _ hP hD hS)
          · cases hbu
        | 1, .int y :: .int x :: r0, hbu, hB, hvr, h8, hbr =>
          simp only [ti_bui] at hbu
          split at hbu
          · rename_i hc
            cases hbu
            exact va_mmin hx hb (hml.trans hsz.symm) hown (hts _ (hB.2.1 rfl)) (hts _ ti_w_min1) (hts _ ti_w_math) (hts _ ti_w_min2) hfr1 (by rw [ti_cat_map]; omega) (Nat.le_refl 0) (Nat.le_refl 0) (hst hvr) (K _ _ hP hD hS)
          · cases hbu
        | 2, .int x :: r0, hbu, hB, hvr, h8, hbr =>
          simp only [ti_bui] at hbu
          split at hbu
          · rename_i hc
            cases hbu
            exact va_mabs hx hb (hml.trans hsz.symm) hown (hts _ (hB.2.2.1 rfl)) (hts _ ti_w_abs1) (hts _ ti_w_math) (hts _ ti_w_abs2) hfr1 (by rw [ti_cat_map]; omega) (Nat.le_refl 0) (Nat.le_refl 0) (hst hvr) (K _ _ hP hD hS)
          · cases hbu
        | 3, .int n :: .int dp :: .ref q1 :: .int sp :: .ref q0 :: r0, hbu, hB, hvr, h8, hbr =>
          simp only [ti_bui] at hbu
          split at hbu
          · rename_i n0 n1 h1 h2
            split at hbu
            · rename_i hc
              cases hbu
              obtain ⟨hc0, hc1, hc2, hc3, hc4, hc5⟩ := hc
              have ha0 := ti_ws_at (ad := ad) (ca := ca) (M := M) h1
              have ha1 := ti_ws_at (ad := ad) (ca := ca) (M := M) h2
              rw [ti_ce_arr (by decide)] at ha0 ha1
              have hup := ti_cp_up (ad := ad) (ca := ca) (M := M) (g := va_cpy (M.1 q0) (M.1 q1) sp.toNatClampNeg dp.toNatClampNeg n.toNatClampNeg) h2
              exact va_copyi hx hb (hml.trans hsz.symm) hown (hts _ (hB.2.2.2.1 rfl)) (hts _ ti_w_cp2) (hts _ ti_w_cp1) (hts _ ti_w_sys) hK hP hD hS q0 q1 0 0 ha0 ha1 rfl rfl rfl (Int32.not_lt.mpr hc1) (Int32.not_lt.mpr hc2) (Int32.not_lt.mpr hc3) hc4 hc5 (fun _ _ => rfl) hfr1 (by rw [ti_cat_map]; have := ti_nfw; omega) (hst hvr) (fun H1 locs1 a b c => K H1 locs1 (hup ▸ a) (hup ▸ b) c)
            · cases hbu
          · cases hbu
        | 4, .int x :: .ref q :: r0, hbu, hB, hvr, h8, hbr =>
          simp only [ti_bui] at hbu
          split at hbu
          · rename_i hc
            cases hbu
            obtain ⟨hc1, hc2, hc3, rfl⟩ := hc
            obtain ⟨h5, rfl⟩ := ti_br4 hbr
            rw [h5] at hown
            have h8' : 8 ≤ d' + 1 := h8.elim (fun q => absurd q (by decide)) id
            exact hIX p l e _ s m args below meth c H locs 0 0 _ h.2.1 pc ls (r0.map (ti_tv ad)) ad adV A x hx hb (hml.trans hsz.symm) hown hts ⟨hZ.1, hZ.2.kept hS.2.1⟩ h8' (by show 800 ≤ 100 * (d' + 1); omega) (Nat.le_refl 0) (Nat.le_refl 0) (by rw [ti_cat_map]; exact hc1) hc2 hc3 (hvi hvr) (K _ _ hP hD hS)
          · cases hbu
      · -- a method of ours
        obtain ⟨hcode, hini, hpl, hycls, hno, hmL, hkd⟩ := ti_mok_of hmr
        have hM := ti_met ih (l := l) (D := D) (ca := ca) (ad := ad) (adV := adV) (sz := H.size) (y := y) hx1 hoka hent hpl hycls
        have hR : (ti_rm d').frames + 1 ≤ (ti_rm (d' + 1)).frames ∧ 8 + (mL + 11) + (ti_rm d').locals ≤ (ti_rm (d' + 1)).locals := ⟨Nat.le_refl _, by show 8 + (mL + 11) + 100 * d' ≤ 100 * (d' + 1); omega⟩
        have K := fun (H' : Heap) (locs' : List Loc) (hP' : va_P D vwCl (ti_ws lay ad ca M2) H') (hD' : va_D A (ti_ws lay ad ca M2)) (hS' : va_S A s.heap H' locs') => ih p l e s m args below meth c H' locs' (d' + 1) h (pc + 3) L (r1.toList ++ st.drop n) M2 r M1 D ca ad adV A lay ls hx2 C0 hP' hD' hS' hl
        have hlenv : ((st.take n).reverse.map (ti_tv ad)).length = n := by simp; omega
        have hW8 : 2 * (F0 m pc ls (st.map (ti_tv ad))).monitorRoom + (((st.drop n).map (ti_tv ad)).map fun v => v.category).sum ≤ 8 := by
          rw [ti_cat_map]; show 2 * 0 + _ ≤ 8; omega
        have hst : vr = false → decode h.2.1 pc = .ok (.invokestatic k, 3) := by
          intro hv
          rw [hv] at hi
          obtain ⟨rfl, rfl⟩ := ti_inv_s hi hlen
          exact hdec
        have hvi : vr = true → decode h.2.1 pc = .ok (.invokevirtual k, 3) := by
          intro hv
          rw [hv] at hi
          obtain ⟨rfl, rfl⟩ := ti_inv_v hi hlen
          exact hdec
        rcases hkd with ⟨rfl, hl1, hl2, hl3, ⟨T, N, hcl⟩, n1, rfl, hn1⟩ | ⟨rfl, hl1, hl2, hn1⟩ | ⟨rfl, ⟨host, hl1⟩, hl2, hn1⟩
        · -- by its receiver
          obtain ⟨q, vs, fds, hvs, hq⟩ := ti_rcv0 hrcv
          rw [hvs] at hM hlenv
          refine ti_behind C0 hD hS (va_runV (As := vs.map (ti_tv ad)) (rest := (st.drop (n1 + 1)).map (ti_tv ad)) ⟨hx, hb, hml, hown, hts⟩ hM
            (cwV n1 hts (fun w hw => ?_) rfl rfl rfl ⟨rfl, hno.1, hno.2, hn1⟩ hR) ⟨ti_blind, va_recv hK hP hcl (ti_ws_at hq), fun U hU hW => ⟨rfl, ti_pre C0 hP hD hS hU hW⟩⟩ rfl (by simpa using hlenv) hsz ?_ hW8 (hvi (hvr.trans rfl)) ⟨Nat.le_refl 0, Nat.le_refl 0⟩) K
          · rcases List.mem_append.mp hw with hw | hw
            · simp only [List.mem_cons, List.not_mem_nil, or_false] at hw
              rcases hw with rfl | rfl | rfl | rfl
              · exact ⟨hl1, ti_Tgood hl1⟩
              · exact ⟨hl2, ti_Tgood hl2⟩
              · exact ⟨hl3, ti_Tgood hl3⟩
              · exact ⟨hini, ti_Tgood hini⟩
            · exact ti_good hcode w hw
          · show st.map (ti_tv ad) = _
            rw [ti_map_take ad st (n1 + 1), hvs]
            simp [ti_tv]
        · -- static
          refine ti_behind C0 hD hS (va_runS (As := (st.take n).reverse.map (ti_tv ad)) (rest := (st.drop n).map (ti_tv ad)) ⟨hx, hb, hml, hown, hts⟩ hM
            ⟨callB_of n hts (ti_good hcode) rfl rfl rfl (hts _ hini) (hts _ hl1) ⟨hno.1, hno.2, hn1⟩ hR, hts _ hl2⟩ ⟨ti_blind, fun U hU hW => ⟨rfl, ti_pre C0 hP hD hS hU hW⟩⟩ rfl hlenv hsz (ti_map_take ad st n) hW8 (hst (hvr.trans rfl)) ⟨Nat.le_refl 0, Nat.le_refl 0⟩) K
        · -- static, of a nest mate
          refine ti_behind C0 hD hS (va_runSN (As := (st.take n).reverse.map (ti_tv ad)) (rest := (st.drop n).map (ti_tv ad)) ⟨hx, hb, hml, hown, hts⟩ hM
            ⟨va_cnB n hts (ti_good hcode) rfl rfl rfl (hN _ hl1) (hts _ hini) ⟨hno.1, hno.2, hn1⟩ hR, hts _ hl2, trivial⟩ ⟨ti_blind, fun U hU hW => ⟨rfl, ti_pre C0 hP hD hS hU hW⟩⟩ rfl hlenv hsz (ti_map_take ad st n) hW8 (hst (hvr.trans rfl)) ⟨Nat.le_refl 0, Nat.le_refl 0⟩) K
    · -- an end
      unfold ti_ret at hr
      split at hr
      · rename_i v
        obtain rfl := ti_one (n := 1) hlen rfl
        split at hr
        · rename_i hc
          cases hr
          rcases hc with hc | ⟨hc, hv⟩
          · exact W.zret hx hb (ty := .int) (hret.trans hc) rfl (fun t ht _ => ⟨rfl, by rw [ht]; exact hP, hD, hS.F ht⟩) hS.2.2 hdec hlk
          · exact W.zret hx hb (ty := .boolean) (hret.trans hc) (by rcases hv with rfl | rfl <;> decide) (fun t ht _ => ⟨rfl, by rw [ht]; exact hP, hD, hS.F ht⟩) hS.2.2 hdec hlk
        · cases hr
      · rename_i v
        obtain rfl := ti_one (n := 1) hlen rfl
        split at hr
        · rename_i hc
          cases hr
          exact W.lret hx hb (hret.trans hc) (fun t ht _ => ⟨rfl, by rw [ht]; exact hP, hD, hS.F ht⟩) hS.2.2 hdec hlk
        · cases hr
      · obtain rfl := ti_one (n := 1) hlen rfl
        split at hr
        · rename_i hc
          cases hr
          exact W.vret hx hb (hret.trans hc) (fun t ht _ => ⟨rfl, by rw [ht]; exact hP, hD, hS.F ht⟩) hS.2.2 hdec hlk
        · cases hr
      · cases hr
    · -- a step
      exact ti_step_ok C0 hP hD hS hl hdec hlen hs (fun H' locs' ls' a b c e1 e2 => ih p l e s m args below meth _ H' locs' d h pc' L' st' M' r M1 D ca ad adV A lay ls' hx2 (by rw [e2]; exact C0) a b c e1)
