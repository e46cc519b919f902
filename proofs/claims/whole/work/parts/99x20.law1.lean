/-! THE LAW'S LEVEL: a call of a method that the small machine runs, by its receiver, out of any frame -/
/-- words of a call by its receiver, out of the class own -/
def lw_MOK (own : String) (i : Nat) (h : TH) (mL n1 : Nat) (y : MethodName) : Prop := Cond.code y h.2.1 mL h.2.2 ∈ ti_T ∧ Cond.initialized y.cls ∈ ti_T ∧ plainName y.cls = true ∧ y.cls = ti_ow h.1 ∧ (y.cls ≠ "java/lang/invoke/MethodHandle" ∧ y.cls ≠ "java/lang/invoke/VarHandle") ∧ mL ≤ 21 ∧ Cond.methodLink own i y ∈ ti_T ∧ Cond.instanceMethod y ∈ ti_T ∧ Cond.selects y.cls y y ∈ ti_T ∧ (∃ T N, vwCl[h.1]? = some (y.cls, T, N)) ∧ (parseMethodDescriptor y.desc).map (fun d => d.parameters.length) = some n1
/-- what stays through a method of the law's class -/
def lw_Cx (p : Program) (s : State) (m : MethodId) (args : Array Value) (c : Code) (cc : ByteArray) (nL : Nat) (own : String) (D : va_G) (ca : Nat → ClassId) (A : Nat → Prop) : Prop :=
  p.tables.exec = Jvm.exec ∧ c.code = cc ∧ c.maxLocals = nL ∧ s.vm.findClass own = some m.cls ∧ (∀ w ∈ ti_T, w.before args s = true) ∧ va_K D vwCl (ti_tys ca) s ∧ (∀ w ∈ ti_N, va_Nw w s) ∧ ∀ q, s.heap.size ≤ q → A q
section LWC
variable {p : Program} {l : Launch} {e : Env} {R : Room} {s : State} {m : MethodId} {args : Array Value} {below : List Frame} {meth : Method} {c : Code} {cc : ByteArray} {nL : Nat} {own : String} {H : Heap} {locs : List Loc} {cells slots : Nat} {Q : State → Prop} {h : TH} {D : va_G} {ca : Nat → ClassId} {ad adV : Nat → Nat} {A : Nat → Prop} {lay : List TE} {M : TM} {ls : Array Slot} {pc idx mL n1 : Nat} {y : MethodName} {vs rest : List Value} {Q1 : Option Value → TM → Prop} {fds : List (Nat × Nat)}
theorem lw_call (hIX : ti_IXok) (C : lw_Cx p s m args c cc nL own D ca A) (hZ : ti_Z ad adV A s s.heap) (hls : ls.size = nL) (w : lw_MOK own idx h mL n1 y) (hcal : Cal lay 120 h mL (.ref 0 :: vs) M Q1) (hq : lay[0]? = some (.inl (h.1, fds)))
    (hP : va_P D vwCl (ti_ws lay ad ca M) H) (hD : va_D A (ti_ws lay ad ca M)) (hS : va_S A s.heap H locs) (hoka : ti_oka (.ref 0 :: vs) = true) (hent : (ti_ent (.ref 0 :: vs)).length ≤ mL) (hlen : vs.length = n1) (hW8 : (rest.map fun v => v.category).sum ≤ 8) (hfr : 121 ≤ R.frames) (hlo : 12040 ≤ R.locals) (hce : cells ≤ R.cells) (hsl : slots ≤ R.slots) (hdec : decode cc pc = .ok (.invokevirtual idx, 3))
    (kk : ∀ (H' : Heap) (locs' : List Loc) (r : Option Value) (M1 : TM), Q1 r M1 → va_P D vwCl (ti_ws lay ad ca M1) H' → H.size ≤ H'.size → (∀ q, q < H.size → ¬ va_A (ti_ws lay ad ca M) H.size q → H'[q]? = H[q]?) → va_S A s.heap H' locs' → W p l e R s m args below meth c H' locs' cells slots Q (F0 m (pc + 3) ls ((r.map (ti_tv ad)).toList ++ rest))) :
    W p l e R s m args below meth c H locs cells slots Q (F0 m pc ls ((vs.map (ti_tv ad)).reverse ++ .ref (ad 0) :: rest)) := by
  obtain ⟨hx, hb, hml, hown, hts, hK, hN, hA⟩ := C
  obtain ⟨hcode, hini, hpl, hycls, hno, hmL, hl1, hl2, hl3, ⟨T0, N0, hcl⟩, hn1⟩ := w
  obtain ⟨f, r, M1, hex, hq1⟩ := hcal
  have hM := ti_met (ti_sound hIX f) (l := l) (D := D) (ca := ca) (ad := ad) (adV := adV) (sz := H.size) (y := y) hex hoka hent hpl hycls
  have hR : (ti_rm 120).frames + 1 ≤ R.frames ∧ 8 + (mL + 11) + (ti_rm 120).locals ≤ R.locals := ⟨hfr, by show 8 + (mL + 11) + 100 * 120 ≤ R.locals; omega⟩
  have hF : ∀ q, va_A (ti_ws lay ad ca M) H.size q → A q := by
    intro q hq
    rcases hq with ⟨k, e, hk⟩ | hq
    · exact hD.2 k _ hk
    · exact hA q (Nat.le_trans hS.1 hq)
  have hpre : ∀ U : State, U.heap = H → s.WarmedH U.vm → ti_B D lay ad adV ca M H.size U := by
    intro U hU hW
    refine ⟨by rw [hU], by rw [hU]; exact hP, va_K.moved hW.alike hK, hD.weaken (fun _ _ _ _ => trivial), ti_Nw_warm hW hN, vk_R.warm hW hZ.1, ?_⟩
    rw [hU]
    exact ti_Z2.moved hW.alike ((hZ.2.kept hS.2.1).narrow hF)
  have hr := va_runV (R := R) (H := H) (locs := locs) (cells := cells) (slots := slots) (below := below) (meth := meth) (e := e) (g := F0 m pc ls ((vs.map (ti_tv ad)).reverse ++ .ref (ad 0) :: rest)) (As := vs.map (ti_tv ad)) (rest := rest) ⟨hx, hb, hml, hown, hts⟩ hM
    (cwV n1 hts (fun w hw => by
      rcases List.mem_append.mp hw with hw | hw
      · simp only [List.mem_cons, List.not_mem_nil, or_false] at hw
        rcases hw with rfl | rfl | rfl | rfl
        · exact ⟨hl1, ti_Tgood hl1⟩
        · exact ⟨hl2, ti_Tgood hl2⟩
        · exact ⟨hl3, ti_Tgood hl3⟩
        · exact ⟨hini, ti_Tgood hini⟩
      · exact ti_good hcode w hw) rfl rfl rfl ⟨rfl, hno.1, hno.2, hn1⟩ hR) ⟨ti_blind, va_recv hK hP hcl (ti_ws_at hq), fun U hU hW => ⟨rfl, hpre U hU hW⟩⟩ rfl (by simp [hlen]) hls rfl (by show 2 * 0 + _ ≤ 8; omega) hdec ⟨hce, hsl⟩
  intro T hT X
  obtain ⟨v, st₀, t, T', Lx, h0, X', hL, e1, e2, ⟨hv, hP2, hD2, hz, hk⟩, go⟩ := hr T hT X
  cases hv
  rw [h0] at hz hk
  have hS2 : va_S A s.heap T'.heap (locs ++ Lx) := ⟨Nat.le_trans hS.1 (by rw [e1]; exact hz), fun q h1 h2 => by rw [e1, hk q (Nat.lt_of_lt_of_le h1 hS.1) (fun z => h2 (hF q z))]; exact hS.2.1 q h1 h2, fun q hq => by
    rcases List.mem_append.mp hq with h | h
    · exact hS.2.2 q h
    · exact hF _ (hL q h)⟩
  have K := kk T'.heap (locs ++ Lx) r M1 hq1 (by rw [e1]; exact hP2) (by rw [e1]; exact hz) (fun q h1 h2 => by rw [e1]; exact hk q h1 h2) hS2
  obtain ⟨t2, a1, b1⟩ := K T' rfl X'
  exact ⟨t2, go t2 a1, b1⟩
end LWC
