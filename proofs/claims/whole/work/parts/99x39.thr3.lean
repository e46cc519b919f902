/-! the law's helpers that catch -/
theorem lw_w_7 : lw_MOK RL 7 hX11_bearer 3 2 yX11_bearer := ⟨ti_in 1297 (by decide +kernel) (by decide +kernel), ti_in 87 (by decide +kernel) (by decide +kernel), by decide, rfl, ⟨by decide +kernel, by decide +kernel⟩, by decide, ti_in 1294 (by decide +kernel) (by decide +kernel), ti_in 1295 (by decide +kernel) (by decide +kernel), ti_in 1296 (by decide +kernel) (by decide +kernel), ⟨_, _, rfl⟩, by decide +kernel⟩
theorem lw_w_15 : lw_MOK RL 15 hX11_saying 3 2 yX11_saying := ⟨ti_in 1370 (by decide +kernel) (by decide +kernel), ti_in 87 (by decide +kernel) (by decide +kernel), by decide, rfl, ⟨by decide +kernel, by decide +kernel⟩, by decide, ti_in 1367 (by decide +kernel) (by decide +kernel), ti_in 1368 (by decide +kernel) (by decide +kernel), ti_in 1369 (by decide +kernel) (by decide +kernel), ⟨_, _, rfl⟩, by decide +kernel⟩
theorem lw_w_18 : lw_MOK RL 18 hX11_row 2 1 yX11_row := ⟨ti_in 1380 (by decide +kernel) (by decide +kernel), ti_in 87 (by decide +kernel) (by decide +kernel), by decide, rfl, ⟨by decide +kernel, by decide +kernel⟩, by decide, ti_in 1377 (by decide +kernel) (by decide +kernel), ti_in 1378 (by decide +kernel) (by decide +kernel), ti_in 1379 (by decide +kernel) (by decide +kernel), ⟨_, _, rfl⟩, by decide +kernel⟩
theorem h_ofW {l : Launch} {y : MethodName} {ws ws' : List Cond} {rm : Room} {Pc : Array Value → State → Prop} {Qc : Array Value → State → Outcome → State → Prop} {mc ms : Nat} {free : Addr → Prop} {cc : ByteArray} {maxL : Nat} {ret : Option FieldType} {hh : List (Nat × Nat × Nat × Nat)}
    (hy : plainName y.cls = true) (hw : ws = Cond.codeWith y cc maxL ret hh :: ws')
    (body : ∀ p e s m args below meth c s₁, BodyLoose p l y (headSpec ws rm) cc maxL ret e s m args below meth c s₁ → c.maxLocals = maxL → Pc args s →
      W p l e (headSpec ws rm).room s m args below meth c s.heap [] 0 0 (MQ below Qc args s mc ms free) (entryFrame m args maxL)) : Met l y ws rm Pc Qc mc ms free := by
  refine MetFree.of_bodyS (code := cc) (maxLocals := maxL) (ret := ret) hy ?_ ?_
  · intro args s m h hn
    obtain ⟨m9, meth, c, hn9, h1, h2, h3, h4, -, h5, h6, -⟩ := Cond.codeWith_spec (atoms_spec (ws := ws) h _ (by rw [hw]; exact List.mem_cons_self))
    cases hn.symm.trans hn9
    exact ⟨meth, c, h1, h2, h3, h4, h5, h6⟩
  · intro p e s m args below meth c s₁ B hml hP _
    have hh0 : s₁.heap = s.heap := by rw [B.state]; rfl
    obtain ⟨t, a1, o, b1, b2, b3⟩ := body p e s m args below meth c s₁ B hml hP s₁ hh0 (Stand.of_body B)
    exact ⟨t, o, a1, b1, b2, ⟨b3.1, b3.2⟩⟩
/-- the helper's world: the class's cells, and the row of one long -/
def hWo (ad : Nat → Nat) (ca : Nat → ClassId) (ao : Nat) (M : TM) (f : Nat → Int64) : va_W := ti_ws lyC ad ca M ++ [(ao, .inl (ca 4, 1, .inr (.inl f)))]
def hBo (D : va_G) (ad adV : Nat → Nat) (ca : Nat → ClassId) (ao : Nat) (M : TM) (f : Nat → Int64) (sz : Nat) : State → Prop := fun U => U.heap.size = sz ∧ va_P D vwCl (hWo ad ca ao M f) U.heap ∧ va_K D vwCl (ti_tys ca) U ∧ va_D (fun _ => True) (hWo ad ca ao M f) ∧ (∀ w ∈ ti_N, va_Nw w U) ∧ ti_Z ad adV (va_A (hWo ad ca ao M f) sz) U U.heap ∧ tT (va_A (hWo ad ca ao M f) sz) U U.heap
def hQo (D : va_G) (ad : Nat → Nat) (ca : Nat → ClassId) (ao : Nat) (PQ : Int32 → TM → (Nat → Int64) → Prop) (A : Nat → Prop) : Array Value → State → Outcome → State → Prop := fun _ st oc t => ∃ r M1 f1, oc = .returned (some (.int r)) ∧ PQ r M1 f1 ∧ va_P D vwCl (hWo ad ca ao M1 f1) t.heap ∧ va_F A st t
def hrm : Room := { frames := 140, cells := 1, slots := 6, locals := 14000 }
theorem h_blind {D : va_G} {ad adV : Nat → Nat} {ca : Nat → ClassId} {ao : Nat} {M : TM} {f : Nat → Int64} {sz : Nat} {av : List Value} : FrameBlind (va_Pc av (hBo D ad adV ca ao M f sz)) := by
  intro a U g mk q
  obtain ⟨q0, q1, q2, q3, q4, q5, q6, q7⟩ := q
  exact ⟨q0, q1, q2, va_K.moved (u := U) (U := U.calling g mk a) (Vm.Alike.refl U.vm) q3, q4, ti_Nw_same (u := U) (U := U.calling g mk a) rfl q5, ⟨vk_R.same (u := U) (U := U.calling g mk a) rfl q6.1, ti_Z2.moved (u := U) (U := U.calling g mk a) (Vm.Alike.refl U.vm) q6.2⟩, tT.same (u := U) (U := U.calling g mk a) rfl q7⟩
theorem h_D {A : Nat → Prop} {ad : Nat → Nat} {ca : Nat → ClassId} {ao : Nat} {M M1 : TM} {f f1 : Nat → Int64} (h : va_D A (hWo ad ca ao M f)) : va_D A (hWo ad ca ao M1 f1) := by
  obtain ⟨h1, h2, h3⟩ := x_DL h
  have g : ∀ (k : Nat) (q : Nat × va_E), (ti_ws lyC ad ca M1)[k]? = some q → ∃ e, (ti_ws lyC ad ca M)[k]? = some (q.1, e) := fun k q hk => by
    obtain ⟨a1, a2⟩ := ti_ws_ad hk
    obtain ⟨e, he⟩ := ti_ws_in (ad := ad) (ca := ca) (M := M) a1
    exact ⟨e, by rw [a2]; exact he⟩
  have o : ∀ (k : Nat) (q : Nat × va_E), ([(ao, .inl (ca 4, 1, .inr (.inl f1)))] : va_W)[k]? = some q → k = 0 ∧ q.1 = ao := fun k q hk => by
    match k, hk with
    | 0, hk => cases hk; exact ⟨rfl, rfl⟩
  refine va_D.app ⟨fun i j p q hi hj e => ?_, fun k q hk => ?_⟩ ⟨fun i j p q hi hj _ => ?_, fun k q hk => ?_⟩ (fun i j p q hi hj e => ?_)
  · obtain ⟨e1, g1⟩ := g i p hi
    obtain ⟨e2, g2⟩ := g j q hj
    exact h1.1 i j _ _ g1 g2 e
  · obtain ⟨e1, g1⟩ := g k q hk
    exact h1.2 k (q.1, e1) g1
  · rw [(o i p hi).1, (o j q hj).1]
  · rw [(o k q hk).2]; exact h2.2 0 _ rfl
  · obtain ⟨e1, g1⟩ := g i p hi
    exact h3 i 0 _ _ g1 rfl (by rw [← (o j q hj).2]; exact e)
theorem h_met {l : Launch} {y : MethodName} {bytes : ByteArray} {mL : Nat} {hh : List (Nat × Nat × Nat × Nat)} {D : va_G} {ca : Nat → ClassId} {ad adV : Nat → Nat} {ao : Nat} {M : TM} {f : Nat → Int64} {sz : Nat} {vs : List Value} {PQ : Int32 → TM → (Nat → Int64) → Prop} (hpl : plainName y.cls = true) (hy : y.cls = RL)
    (body : ∀ (p : Program) (e : Env) (s : State) (m : MethodId) (below : List Frame) (meth : Method) (c : Code), lw_Cx p s m vs.toArray c bytes mL RL D ca (va_A (hWo ad ca ao M f) sz) → s.heap.size = sz → ti_Z ad adV (va_A (hWo ad ca ao M f) sz) s s.heap → tT (va_A (hWo ad ca ao M f) sz) s s.heap → meth.sig.returnType = some .int → meth.locks = false → c.exceptionTable.toList = tableOf hh → va_P D vwCl (hWo ad ca ao M f) s.heap → va_D (va_A (hWo ad ca ao M f) sz) (hWo ad ca ao M f) →
      W p l e hrm s m vs.toArray below meth c s.heap [] 0 0 (MQ below (hQo D ad ca ao PQ (va_A (hWo ad ca ao M f) sz)) vs.toArray s 1 6 (va_A (hWo ad ca ao M f) sz)) (entryFrame m vs.toArray mL)) :
    Met l y (.codeWith y bytes mL (some .int) hh :: ti_T) hrm (va_Pc vs (hBo D ad adV ca ao M f sz)) (hQo D ad ca ao PQ (va_A (hWo ad ca ao M f) sz)) 1 6 (va_A (hWo ad ca ao M f) sz) := by
  refine h_ofW (cc := bytes) (maxL := mL) (ret := some .int) hpl rfl ?_
  intro p e s m args below meth c s₁ B hml hv
  obtain ⟨rfl, hsz, hP, hK, hD0, hN, hZ, hT⟩ := hv
  have hts := atoms_spec (ws := .codeWith y bytes mL (some .int) hh :: ti_T) B.pre
  have hown : s.vm.findClass y.cls = some m.cls := findClass_of_methodNamed B.named
  rw [hy] at hown
  exact body p e s m below meth c ⟨B.exec, B.bytes, hml, hown, fun w h => hts w (List.mem_cons_of_mem _ h), hK, hN, fun q h => Or.inr (by rw [← hsz]; exact h)⟩ hsz hZ hT B.returns B.notSynchronized (vx_table (x := y) B (hts _ List.mem_cons_self)) hP hD0.self
theorem h_set (ad : Nat → Nat) (ca : Nat → ClassId) (ao : Nat) (M : TM) (f f1 : Nat → Int64) : (hWo ad ca ao M f).set 73 (ao, .inl (ca 4, 1, .inr (.inl f1))) = hWo ad ca ao M f1 := rfl
theorem h_at (ad : Nat → Nat) (ca : Nat → ClassId) (ao : Nat) (M : TM) (f : Nat → Int64) : (hWo ad ca ao M f)[73]? = some (ao, .inl (ca 4, 1, .inr (.inl f))) := rfl
