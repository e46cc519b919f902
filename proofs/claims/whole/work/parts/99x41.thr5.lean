/-! the law calls a helper that catches -/
theorem lw_h_bearer : Cond.codeWith yL_bearer cL_bearer 5 (some .int) [(0, 10, 13, 13)] ∈ ti_T ∧ Cond.methodLink RL 53 yL_bearer ∈ ti_T ∧ Cond.static yL_bearer ∈ ti_T ∧ Cond.initialized RL ∈ ti_T := ⟨ti_in 1292 (by decide +kernel) (by decide +kernel), ti_in 1290 (by decide +kernel) (by decide +kernel), ti_in 1291 (by decide +kernel) (by decide +kernel), ti_in 86 (by decide +kernel) (by decide +kernel)⟩
theorem lw_h_saying : Cond.codeWith yL_saying cL_saying 5 (some .int) [(0, 10, 13, 13)] ∈ ti_T ∧ Cond.methodLink RL 62 yL_saying ∈ ti_T ∧ Cond.static yL_saying ∈ ti_T ∧ Cond.initialized RL ∈ ti_T := ⟨ti_in 1366 (by decide +kernel) (by decide +kernel), ti_in 1364 (by decide +kernel) (by decide +kernel), ti_in 1365 (by decide +kernel) (by decide +kernel), ti_in 86 (by decide +kernel) (by decide +kernel)⟩
theorem lw_h_row : Cond.codeWith yL_row cL_row 4 (some .int) [(0, 8, 11, 13)] ∈ ti_T ∧ Cond.methodLink RL 235 yL_row ∈ ti_T ∧ Cond.static yL_row ∈ ti_T ∧ Cond.initialized RL ∈ ti_T := ⟨ti_in 1376 (by decide +kernel) (by decide +kernel), ti_in 1374 (by decide +kernel) (by decide +kernel), ti_in 1375 (by decide +kernel) (by decide +kernel), ti_in 86 (by decide +kernel) (by decide +kernel)⟩
section LWH
variable {p : Program} {l : Launch} {e : Env} {R : Room} {s : State} {m : MethodId} {args : Array Value} {below : List Frame} {meth : Method} {c : Code} {cc : ByteArray} {nL : Nat} {H : Heap} {locs : List Loc} {cells slots : Nat} {Q : State → Prop} {D : va_G} {ca : Nat → ClassId} {adC adM adV : Nat → Nat} {ao : Nat} {A : Nat → Prop} {MC MM : TM} {fo : Nat → Int64} {ls : Array Slot} {pc idx mL n : Nat} {y : MethodName} {bytes : ByteArray} {hh : List (Nat × Nat × Nat × Nat)} {vs rest : List Value} {PQ : Int32 → TM → (Nat → Int64) → Prop}
theorem lw_cH (C : lw_Cx p s m args c cc nL RL D ca A) (hZ : ti_Z adC adV A s s.heap) (hT : tT A s s.heap) (hA : LA A adC adM ao) (hls : ls.size = nL) (w : Cond.codeWith y bytes mL (some .int) hh ∈ ti_T ∧ Cond.methodLink RL idx y ∈ ti_T ∧ Cond.static y ∈ ti_T ∧ Cond.initialized RL ∈ ti_T) (hy : y.cls = RL) (hpn : (parseMethodDescriptor y.desc).map (fun d => d.parameters.length) = some n) (hmL : mL ≤ 21)
    (hM : ∀ sz, Met l y (.codeWith y bytes mL (some .int) hh :: ti_T) hrm (va_Pc vs (hBo D adC adV ca ao MC fo sz)) (hQo D adC ca ao PQ (va_A (hWo adC ca ao MC fo) sz)) 1 6 (va_A (hWo adC ca ao MC fo) sz)) (hI : LI D ca adC adM ao MC MM fo H) (hS : va_S A s.heap H locs) (hlen : vs.length = n) (hW8 : (rest.map fun v => v.category).sum ≤ 8) (hfr : 141 ≤ R.frames) (hlo : 14040 ≤ R.locals) (hce : cells + 1 ≤ R.cells) (hsl : slots + 6 ≤ R.slots) (hdec : decode cc pc = .ok (.invokestatic idx, 3))
    (kk : ∀ (H' : Heap) (locs' : List Loc) (r : Int32) (M1 : TM) (f1 : Nat → Int64), PQ r M1 f1 → LI D ca adC adM ao M1 MM f1 H' → va_S A s.heap H' locs' → W p l e R s m args below meth c H' locs' (cells + 1) (slots + 6) Q (F0 m (pc + 3) ls (.int r :: rest))) :
    W p l e R s m args below meth c H locs cells slots Q (F0 m pc ls (vs.reverse ++ rest)) := by
  obtain ⟨hx, hb, hml, hown, hts, hK, hN, hAq⟩ := C
  obtain ⟨w1, w2, w3, w4⟩ := w
  obtain ⟨hP1, hP2, hP3⟩ := hI
  obtain ⟨a1, a2, a3, a4, a5, a6, a7, a8⟩ := hA
  have hPw : va_P D vwCl (hWo adC ca ao MC fo) H := va_P.app hP1 hP3
  have o : ∀ (k : Nat) (q : Nat × va_E), ([(ao, .inl (ca 4, 1, .inr (.inl fo)))] : va_W)[k]? = some q → k = 0 ∧ q.1 = ao := fun k q hk => by
    match k, hk with
    | 0, hk => cases hk; exact ⟨rfl, rfl⟩
  have hDw : va_D A (hWo adC ca ao MC fo) := va_D.app (ti_D (by rw [lyC_len]; exact a1) (by rw [lyC_len]; exact a6)) ⟨fun i j p q hi hj _ => by rw [(o i p hi).1, (o j q hj).1], fun k q hk => by rw [(o k q hk).2]; exact a8⟩ (fun i j p q hi hj e => by
    obtain ⟨b1, b2⟩ := ti_ws_ad hi
    exact a4 i b1 (by rw [← b2, ← (o j q hj).2]; exact e))
  have hF : ∀ q, va_A (hWo adC ca ao MC fo) H.size q → A q := by
    intro q hq
    rcases hq with ⟨k, e, hk⟩ | hq
    · exact hDw.2 k _ hk
    · exact hAq q (Nat.le_trans hS.1 hq)
  have hpre : ∀ U : State, U.heap = H → s.WarmedH U.vm → hBo D adC adV ca ao MC fo H.size U := by
    intro U hU hW
    refine ⟨by rw [hU], by rw [hU]; exact hPw, va_K.moved hW.alike hK, hDw.weaken (fun _ _ _ _ => trivial), ti_Nw_warm hW hN, ⟨vk_R.warm hW hZ.1, ?_⟩, ?_⟩
    · rw [hU]
      exact ti_Z2.moved hW.alike ((hZ.2.kept hS.2.1).narrow hF)
    · rw [hU]
      exact tT.warm hW ((hT.kept hS.2.1).narrow hF)
  have hr := vx_runSW (R := R) (H := H) (locs := locs) (cells := cells) (slots := slots) (below := below) (meth := meth) (e := e) (g := F0 m pc ls (vs.reverse ++ rest)) (As := vs) (rest := rest) ⟨hx, hb, hml, hown, hts⟩ (hM H.size)
    (vx_cwSW (hh := hh) n hts (fun w hw => by
      rcases List.mem_append.mp hw with hw | hw
      · simp only [List.mem_cons, List.not_mem_nil, or_false] at hw
        rcases hw with rfl | rfl | rfl
        · exact ⟨w2, ti_Tgood w2⟩
        · exact ⟨w3, ti_Tgood w3⟩
        · rw [hy]; exact ⟨w4, ti_Tgood w4⟩
      · rcases List.mem_cons.mp hw with rfl | hw
        · exact ⟨w1, ti_Tgood w1⟩
        · exact ⟨hw, ti_Tgood hw⟩) rfl rfl rfl ⟨by rw [hy]; decide +kernel, by rw [hy]; decide +kernel, hpn⟩ ⟨hfr, by show 8 + (mL + 11) + 14000 ≤ R.locals; omega⟩) ⟨h_blind, fun U hU hW => ⟨rfl, hpre U hU hW⟩⟩ rfl hlen hls rfl (by show 2 * 0 + _ ≤ 8; omega) hdec ⟨hce, hsl⟩
  intro T hTh X
  obtain ⟨v, st₀, t, T', Lx, h0, X', hL, e1, e2, ⟨r, M1, f1, hv, hq, hP4, hz, hk⟩, go⟩ := hr T hTh X
  cases hv
  rw [h0] at hz hk
  have hS2 : va_S A s.heap T'.heap (locs ++ Lx) := ⟨Nat.le_trans hS.1 (by rw [e1]; exact hz), fun q h1 h2 => by rw [e1, hk q (Nat.lt_of_lt_of_le h1 hS.1) (fun z => h2 (hF q z))]; exact hS.2.1 q h1 h2, fun q hq => by
    rcases List.mem_append.mp hq with h | h
    · exact hS.2.2 q h
    · exact hF _ (hL q h)⟩
  obtain ⟨p1, p3⟩ := x_PL (show va_P D vwCl (hWo adC ca ao M1 f1) T'.heap by rw [e1]; exact hP4)
  have hPm : va_P D vwCl (ti_ws lyM adM ca MM) T'.heap := hP2.kept (fun k q hq => by
    have hlt := (hP2 k q hq).lt
    obtain ⟨b1, b2⟩ := ti_ws_ad hq
    rw [e1]
    refine hk _ hlt ?_
    rintro (⟨k2, e9, h9⟩ | h9)
    · have h10 : (ti_ws lyC adC ca MC ++ [(ao, .inl (ca 4, 1, .inr (.inl fo)))])[k2]? = some (q.1, e9) := h9
      by_cases hlt2 : k2 < (ti_ws lyC adC ca MC).length
      · rw [List.getElem?_append_left hlt2] at h10
        obtain ⟨c1, c2⟩ := ti_ws_ad h10
        exact a3 k2 k c1 b1 (by rw [← b2]; exact c2.symm)
      · rw [List.getElem?_append_right (by omega)] at h10
        exact a5 k b1 (by rw [← b2]; exact (o _ _ h10).2)
    · omega)
  obtain ⟨t2, b1, b2⟩ := kk T'.heap (locs ++ Lx) r M1 f1 hq ⟨p1, hPm, p3⟩ hS2 T' rfl X'
  exact ⟨t2, go t2 b1, b2⟩
end LWH
