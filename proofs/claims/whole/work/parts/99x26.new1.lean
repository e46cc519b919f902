/-! CONSTRUCTORS: rows for making cells -/
theorem x_fc {U : State} {cA : ClassId} {ty : FieldType} (h : va_RA U cA ty) : U.vm.findClass ("[" ++ ty.toString) = some cA := by
  cases ty with
  | object C => obtain ⟨kA, comp, h1, h2, h3, h4⟩ := h; exact h4
  | _ => exact h
theorem x_cA {D : va_G} {cl : List vw_C} {tys : List (ClassId × FieldType)} {U : State} {kd : Nat} {cB cA : ClassId} {ty : FieldType} (hK : va_K D cl (tys ++ [(cA, ty)]) U) (hkd : tys[kd]? = some (cB, ty)) : cA = cB := by
  have h1 : (tys ++ [(cA, ty)])[kd]? = some (cB, ty) := by rw [List.getElem?_append_left (List.getElem?_eq_some_iff.mp hkd).1]; exact hkd
  have h2 : (tys ++ [(cA, ty)])[tys.length]? = some (cA, ty) := by simp
  have a1 := x_fc (hK.2 _ _ h1).2
  have a2 := x_fc (hK.2 _ _ h2).2
  exact Option.some.inj (a2.symm.trans a1)
/-- what a constructor's start gives -/
def xB (D : va_G) (ca : Nat → ClassId) (ws : va_W) (sz : Nat) : State → Prop := fun U => U.heap.size = sz ∧ va_P D vwCl ws U.heap ∧ va_K D vwCl (ti_tys ca) U ∧ va_D (fun _ => True) ws ∧ (∀ w ∈ ti_N, va_Nw w U) ∧ va_AO RX7 U
/-- and its end: the world W' over the new addresses g -/
def xQ (D : va_G) (W' : (Nat → Nat) → va_W) (A : Nat → Prop) : Array Value → State → Outcome → State → Prop := fun _ st oc t => oc = .returned none ∧ ∃ g, va_P D vwCl (W' g) t.heap ∧ va_D A (W' g) ∧ va_F A st t
def xrm (d mc ms : Nat) : Room := { frames := d, cells := mc, slots := ms, locals := 100 * d }
theorem x_blind {D : va_G} {ca : Nat → ClassId} {ws : va_W} {sz : Nat} {av : List Value} : FrameBlind (va_Pc av (xB D ca ws sz)) := by
  intro a U g mk q
  obtain ⟨q0, q1, q2, q3, q4, q5, q6⟩ := q
  exact ⟨q0, q1, q2, va_K.moved (u := U) (U := U.calling g mk a) (Vm.Alike.refl U.vm) q3, q4, ti_Nw_same (u := U) (U := U.calling g mk a) rfl q5, va_AO.moved (u := U) (U := U.calling g mk a) (Vm.Alike.refl U.vm) q6⟩
theorem x_join {A0 : Nat → Prop} {D : va_G} {cl : List vw_C} {wr w1 : va_W} {x : Nat × va_E} {H H1 : Heap} (hP : va_P D cl (wr ++ [x]) H) (hD : va_D A0 (wr ++ [x]))
    (hk : ∀ q : Nat, q < H.size → ¬ va_A [x] H.size q → H1[q]? = H[q]?) (hF : ∀ q, va_A [x] H.size q → A0 q) (hP1 : va_P D cl w1 H1) (hD1 : va_D (va_A [x] H.size) w1) : va_P D cl (wr ++ w1) H1 ∧ va_D A0 (wr ++ w1) := by
  have lf : ∀ (k : Nat) (q : Nat × va_E), wr[k]? = some q → (wr ++ [x])[k]? = some q := fun k q h => by rw [List.getElem?_append_left (List.getElem?_eq_some_iff.mp h).1]; exact h
  have lx : (wr ++ [x])[wr.length]? = some x := by simp
  have apart : ∀ (k : Nat) (q : Nat × va_E), wr[k]? = some q → q.1 < H.size ∧ ¬ va_A [x] H.size q.1 := by
    intro k q hq
    have hl := (hP k q (lf k q hq)).lt
    refine ⟨hl, fun h => ?_⟩
    rcases h with ⟨k2, e, h⟩ | h
    · have hx : x = (q.1, e) := by
        match k2, h with
        | 0, h => exact Option.some.inj h
      have hij := hD.1 k wr.length q x (lf k q hq) lx (by rw [hx])
      have := (List.getElem?_eq_some_iff.mp hq).1
      omega
    · omega
  refine ⟨va_P.app (fun k q hq => ?_) hP1, va_D.app ⟨fun i j p q hi hj => hD.1 i j p q (lf i p hi) (lf j q hj), fun k q hq => hD.2 k q (lf k q hq)⟩ (hD1.weaken (fun k q _ h => hF q.1 h)) (fun i j y z hy hz hyz => ?_)⟩
  · obtain ⟨g1, g2⟩ := apart k q hq
    exact (hP k q (lf k q hq)).kept (hk q.1 g1 g2)
  · exact (apart i y hy).2 (by rw [hyz]; exact hD1.2 j z hz)
section XC
variable {p : Program} {l : Launch} {e : Env} {R : Room} {s : State} {m : MethodId} {args : Array Value} {below : List Frame} {meth : Method} {c : Code} {cc : ByteArray} {nL : Nat} {own : String} {H : Heap} {locs : List Loc} {cells slots : Nat} {Q : State → Prop} {D : va_G} {ca : Nat → ClassId} {A : Nat → Prop} {ws : va_W} {ls : Array Slot} {pc : Nat} {rest : List Value}
theorem x_obj (C : lw_Cx p s m args c cc nL own D ca A) (hls : ls.size = nL) {idx a : Nat} (w : Cond.methodLink own idx Lib.objectInit ∈ ti_T) (wi : Cond.instanceMethod Lib.objectInit ∈ ti_T) (wc : Cond.code Lib.objectInit ⟨#[0xb1]⟩ 1 none ∈ ti_T) (hfr : 1 ≤ R.frames) (hlo : 12 ≤ R.locals) (hd : decode cc pc = .ok (.invokespecial idx, 3)) (kk : W p l e R s m args below meth c H locs cells slots Q (F0 m (pc + 3) ls [])) : W p l e R s m args below meth c H locs cells slots Q (F0 m pc ls [.ref a]) :=
  W.objInit C.1 C.2.1 C.2.2.2.1 (C.2.2.2.2.1 _ w) (C.2.2.2.2.1 _ wi) (C.2.2.2.2.1 _ wc) rfl (hls.trans C.2.2.1.symm) rfl hd hfr hlo kk
theorem x_newa (C : lw_Cx p s m args c cc nL own D ca A) (hP : va_P D vwCl ws H) (hD : va_D A ws) (hS : va_S A s.heap H locs) {atype : ArrayType} {ty : FieldType} (hty : newarray.typeOf atype = ty) (w : Cond.arrayClass ty ∈ ti_T) (kd : Nat) (hkd : (ti_tys ca)[kd]? = some (ca kd, ty)) {a0 : vp_A} {N' : Nat} (ha : ∀ cA : ClassId, vp_cell cA a0 = arrV cA N' (fun _ => defaultValue ty)) {n : Int32} (hn : ¬ n < 0) (hN : n.toNatClampNeg = N') (hbytes : N' * componentBytes ty ≤ 536870912) (hcells : cells + 1 ≤ R.cells) (hslots : slots + N' ≤ R.slots) (hdg : decode cc pc = .ok (.newarray atype, 2))
    (kk : ∀ (q : Nat) (H1 : Heap), va_P D vwCl (ws ++ [(q, .inl (ca kd, a0))]) H1 → va_D A (ws ++ [(q, .inl (ca kd, a0))]) → va_S A s.heap H1 locs → W p l e R s m args below meth c H1 locs (cells + 1) (slots + N') Q (F0 m (pc + 2) ls (.ref q :: rest))) : W p l e R s m args below meth c H locs cells slots Q (F0 m pc ls (.int n :: rest)) := by
  obtain ⟨hx, hb, hml, hown, hts, hK, hN0, hA⟩ := C
  subst hty
  refine va_newa hx hb (hts _ w) rfl hK hP hD hS hA ha hn hN hbytes hcells hslots hdg (fun q cA H1 hK1 hP1 hD1 hS1 => ?_)
  have h1 := x_cA hK1 hkd
  subst h1
  exact kk q H1 hP1 hD1 hS1
theorem x_newq (C : lw_Cx p s m args c cc nL own D ca A) (hAO : va_AO RX7 s) (hP : va_P D vwCl ws H) (hD : va_D A ws) (hS : va_S A s.heap H locs) {idx : Nat} (w : Cond.classLink own idx RX7 ∈ ti_T) {N' : Nat} {n : Int32} (hn : ¬ n < 0) (hN : n.toNatClampNeg = N') (hbytes : N' * 4 ≤ 536870912) (hcells : cells + 1 ≤ R.cells) (hslots : slots + N' ≤ R.slots) (hdg : decode cc pc = .ok (.anewarray idx, 3))
    (kk : ∀ (q : Nat) (H1 : Heap), va_P D vwCl (ws ++ [(q, .inl (ca 5, N', .inr (.inr (.inr (.inr (fun _ => none))))))]) H1 → va_D A (ws ++ [(q, .inl (ca 5, N', .inr (.inr (.inr (.inr (fun _ => none))))))]) → va_S A s.heap H1 locs → W p l e R s m args below meth c H1 locs (cells + 1) (slots + N') Q (F0 m (pc + 3) ls (.ref q :: rest))) : W p l e R s m args below meth c H locs cells slots Q (F0 m pc ls (.int n :: rest)) := by
  obtain ⟨hx, hb, hml, hown, hts, hK, hN0, hA⟩ := C
  refine va_newq hx hb hown (hts _ w) hAO hK hP hD hS hA hn hN hbytes hcells hslots hdg (fun q cA H1 hK1 hP1 hD1 hS1 => ?_)
  have h1 := x_cA (kd := 5) (cB := ca 5) hK1 rfl
  subst h1
  exact kk q H1 hP1 hD1 hS1
theorem x_put (C : lw_Cx p s m args c cc nL own D ca A) (hin2 : meth.name = "<init>") (hP : va_P D vwCl ws H) (hD : va_D A ws) (hS : va_S A s.heap H locs) {ci N idx a : Nat} {T : u_T} (hc : vwCl[ci]? = some (own, T, N)) (q0 : Nat) {fs : List Value} (he : ws[q0]? = some (a, .inr (ci, fs))) (k : Nat) (hk : k < N) (w : Cond.fieldLink own idx own (T k).2.1 (T k).2.2.1 ∈ ti_T) (hdecl : (T k).1 = own) {ty : FieldType} {v : Value} (hd : parseFieldDescriptor (T k).2.2.1 = some ty) (hn : narrow ty v = v) (hfit : fits ty v = true) (hl : k < fs.length) (hdg : decode cc pc = .ok (.putfield idx, 3))
    (kk : ∀ (H1 : Heap) (locs1 : List Loc), va_P D vwCl (ws.set q0 (a, .inr (ci, fs.set k v))) H1 → va_D A (ws.set q0 (a, .inr (ci, fs.set k v))) → va_S A s.heap H1 locs1 → W p l e R s m args below meth c H1 locs1 cells slots Q (F0 m (pc + 3) ls rest)) : W p l e R s m args below meth c H locs cells slots Q (F0 m pc ls (v :: .ref a :: rest)) := by
  obtain ⟨hx, hb, hml, hown, hts, hK, hN0, hA⟩ := C
  obtain ⟨hin, ⟨ty0, hty⟩, hnm⟩ := ti_kok hc
  have hsame : ∀ x, s.fieldFound? (T k).1 (T k).2.1 (T k).2.2.1 = some x → s.fieldFound? own (T k).2.1 (T k).2.2.1 = some x := fun x hx => by rw [← hdecl]; exact hx
  cases hfin : (T k).2.2.2 with
  | true => exact va_putF (D := D) (ci := ci) (v := v) (ty := ty) (C := own) (T := T) (N := N) hx hb hts hin ty0 hty hnm hown hK hP hD hS q0 he hc k hk (hts _ w) hsame hfin hin2 hdecl hd hn hfit hl hdg kk
  | false => exact va_put (D := D) (ci := ci) (v := v) (ty := ty) (C := own) (T := T) (N := N) hx hb hts hin ty0 hty hnm hown hK hP hD hS q0 he hc k hk (hts _ w) hsame hfin hd hn hfit hl hdg kk
theorem x_get (C : lw_Cx p s m args c cc nL own D ca A) (hP : va_P D vwCl ws H) {ci N idx a : Nat} {T : u_T} (hc : vwCl[ci]? = some (own, T, N)) (q0 : Nat) {fs : List Value} (he : ws[q0]? = some (a, .inr (ci, fs))) (k : Nat) (hk : k < N) (w : Cond.fieldLink own idx own (T k).2.1 (T k).2.2.1 ∈ ti_T) (hdecl : (T k).1 = own) {v : Value} (hv : fs[k]? = some v) (hdg : decode cc pc = .ok (.getfield idx, 3))
    (kk : W p l e R s m args below meth c H locs cells slots Q (F0 m (pc + 3) ls (v :: rest))) : W p l e R s m args below meth c H locs cells slots Q (F0 m pc ls (.ref a :: rest)) := by
  obtain ⟨hx, hb, hml, hown, hts, hK, hN0, hA⟩ := C
  obtain ⟨hin, -, -⟩ := ti_kok hc
  exact va_get (D := D) (ci := ci) (v := v) (C := own) (T := T) (N := N) hx hb hts hin hown hK hP q0 he hc k hk (hts _ w) (fun x hx => by rw [← hdecl]; exact hx) hv hdg kk
theorem x_new (C : lw_Cx p s m args c cc nL own D ca A) (hP : va_P D vwCl ws H) (hD : va_D A ws) (hS : va_S A s.heap H locs) {ci N idx : Nat} {CC : String} {T : u_T} (hc : vwCl[ci]? = some (CC, T, N)) (ty : Nat → FieldType) (hty : ∀ k, k < N → parseFieldDescriptor (T k).2.2.1 = some (ty k)) (w1 : Cond.classLink own idx CC ∈ ti_T) (w2 : Cond.instantiable CC N ∈ ti_T) (w3 : Cond.initialized CC ∈ ti_T) {fs : List Value} (hfs : ∀ j, j < N → defaultValue (ty j) = vp_V fs j) (hcells : cells + 1 ≤ R.cells) (hslots : slots + N ≤ R.slots) (hdg : decode cc pc = .ok (.new idx, 3))
    (kk : ∀ (q : Nat) (H1 : Heap), va_P D vwCl (ws ++ [(q, .inr (ci, fs))]) H1 → va_D A (ws ++ [(q, .inr (ci, fs))]) → va_S A s.heap H1 locs → W p l e R s m args below meth c H1 locs (cells + 1) (slots + N) Q (F0 m (pc + 3) ls (.ref q :: rest))) : W p l e R s m args below meth c H locs cells slots Q (F0 m pc ls rest) := by
  obtain ⟨hx, hb, hml, hown, hts, hK, hN0, hA⟩ := C
  obtain ⟨hin, -, -⟩ := ti_kok hc
  exact va_new hx hb hts hin ty hty hown (hts _ w1) (hts _ w2) (hts _ w3) hK hP hD hS hA hc hfs hcells hslots hdg kk
/-- a constructor's words -/
def x_MOK (own : String) (i mL n1 : Nat) (bytes : ByteArray) (y : MethodName) : Prop := Cond.code y bytes mL none ∈ ti_T ∧ Cond.initialized y.cls ∈ ti_T ∧ (y.cls ≠ "java/lang/invoke/MethodHandle" ∧ y.cls ≠ "java/lang/invoke/VarHandle") ∧ mL ≤ 21 ∧ y.name = "<init>" ∧ Cond.instanceMethod y ∈ ti_T ∧ (parseMethodDescriptor y.desc).map (fun d => d.parameters.length) = some n1 ∧ (Cond.methodLink own i y ∈ ti_T ∨ ∃ host, Cond.methodLinkNest own i y host ∈ ti_N)
/-- a constructor is called on the newest cell -/
theorem x_call (C : lw_Cx p s m args c cc nL own D ca A) (hAO : va_AO RX7 s) (hls : ls.size = nL) {wr : va_W} {x : Nat × va_E} (hP : va_P D vwCl (wr ++ [x]) H) (hD : va_D A (wr ++ [x])) (hS : va_S A s.heap H locs) {idx mL n1 d mc ms : Nat} {bytes : ByteArray} {y : MethodName} (w : x_MOK own idx mL n1 bytes y) {As : List Value} {W' : (Nat → Nat) → va_W} (hM : ∀ sz, Met l y (.code y bytes mL none :: ti_T) (xrm d mc ms) (va_Pc (.ref x.1 :: As) (xB D ca [x] sz)) (xQ D W' (va_A [x] sz)) mc ms (va_A [x] sz)) (hlen : As.length = n1) (hW8 : (rest.map fun v => v.category).sum ≤ 8) (hfr : d + 1 ≤ R.frames) (hlo : 100 * d + 40 ≤ R.locals) (hcells : cells + mc ≤ R.cells) (hslots : slots + ms ≤ R.slots) (hdg : decode cc pc = .ok (.invokespecial idx, 3))
    (kk : ∀ (g : Nat → Nat) (H1 : Heap) (locs1 : List Loc), va_P D vwCl (wr ++ W' g) H1 → va_D A (wr ++ W' g) → va_S A s.heap H1 locs1 → W p l e R s m args below meth c H1 locs1 (cells + mc) (slots + ms) Q (F0 m (pc + 3) ls rest)) : W p l e R s m args below meth c H locs cells slots Q (F0 m pc ls (As.reverse ++ .ref x.1 :: rest)) := by
  obtain ⟨hx, hb, hml, hown, hts, hK, hN, hA⟩ := C
  obtain ⟨w1, w2, w3, w4, w5, w6, w7, w8⟩ := w
  have lx : (wr ++ [x])[wr.length]? = some x := by simp
  have hPx : va_P D vwCl [x] H := fun k q hk => by
    match k, hk with
    | 0, hk => cases hk; exact hP _ _ lx
  have hDx : va_D A [x] := ⟨fun i j p q hi hj _ => by
    match i, j, hi, hj with
    | 0, 0, _, _ => rfl, fun k q hk => by
    match k, hk with
    | 0, hk => cases hk; exact hD.2 _ _ lx⟩
  have hF : ∀ q, va_A [x] H.size q → A q := by
    intro q hq
    rcases hq with ⟨k, e, hk⟩ | hq
    · exact hDx.2 k _ hk
    · exact hA q (Nat.le_trans hS.1 hq)
  have hpre : ∀ U : State, U.heap = H → s.WarmedH U.vm → xB D ca [x] H.size U := fun U hU hW => ⟨by rw [hU], by rw [hU]; exact hPx, va_K.moved hW.alike hK, hDx.weaken (fun _ _ _ _ => trivial), ti_Nw_warm hW hN, va_AO.moved hW.alike hAO⟩
  have hR : (xrm d mc ms).frames + 1 ≤ R.frames ∧ 8 + (mL + 11) + (xrm d mc ms).locals ≤ R.locals := ⟨hfr, by show 8 + (mL + 11) + 100 * d ≤ R.locals; omega⟩
  have hr : va_Run p l e R s m args below meth c H locs cells slots mc ms (F0 m pc ls (As.reverse ++ .ref x.1 :: rest)) rest (xQ D W' (va_A [x] H.size) (Value.ref x.1 :: As).toArray) (va_A [x] H.size) := by
    rcases w8 with w8 | ⟨host, w8⟩
    · exact va_runI ⟨hx, hb, hml, hown, hts⟩ (hM H.size) (cwI n1 hts (ti_good w1) rfl rfl rfl (hts _ w2) (hts _ w8) (hts _ w6) w5 ⟨w3.1, w3.2, w7⟩ hR) ⟨x_blind, fun U hU hW => ⟨rfl, hpre U hU hW⟩⟩ rfl hlen hls rfl (by show 2 * 0 + _ ≤ 8; omega) hdg ⟨hcells, hslots⟩
    · exact va_runIN ⟨hx, hb, hml, hown, hts⟩ (hM H.size) ⟨va_cnB n1 hts (ti_good w1) rfl rfl rfl (hN _ w8) (hts _ w2) ⟨w3.1, w3.2, w7⟩ hR, w5, hts _ w6⟩ ⟨x_blind, fun U hU hW => ⟨rfl, hpre U hU hW⟩⟩ rfl hlen hls rfl (by show 2 * 0 + _ ≤ 8; omega) hdg ⟨hcells, hslots⟩
  intro T hT X
  obtain ⟨v, st₀, t, T', Lx, h0, X', hL, e1, e2, ⟨hv, g, hP2, hD2, hz, hk⟩, go⟩ := hr T hT X
  cases hv
  rw [h0] at hz hk
  have hS2 : va_S A s.heap T'.heap (locs ++ Lx) := ⟨Nat.le_trans hS.1 (by rw [e1]; exact hz), fun q h1 h2 => by rw [e1, hk q (Nat.lt_of_lt_of_le h1 hS.1) (fun z => h2 (hF q z))]; exact hS.2.1 q h1 h2, fun q hq => by
    rcases List.mem_append.mp hq with h | h
    · exact hS.2.2 q h
    · exact hF _ (hL q h)⟩
  obtain ⟨j1, j2⟩ := x_join hP hD (fun q h1 h2 => by rw [e1]; exact hk q h1 h2) hF (H1 := T'.heap) (by rw [e1]; exact hP2) hD2
  obtain ⟨t2, a1, b1⟩ := kk g T'.heap (locs ++ Lx) j1 j2 hS2 T' rfl X'
  exact ⟨t2, go t2 a1, b1⟩
/-- a constructor's end -/
theorem x_ret (C : lw_Cx p s m args c cc nL own D ca A) (hr : meth.sig.returnType = none) (hlk : meth.locks = false) {W' : (Nat → Nat) → va_W} (g : Nat → Nat) {mc ms : Nat} (hc : cells ≤ mc) (hs : slots ≤ ms) (hP : va_P D vwCl (W' g) H) (hD : va_D A (W' g)) (hS : va_S A s.heap H locs) (hdg : decode cc pc = .ok (.return_, 1)) : W p l e R s m args below meth c H locs cells slots (MQ below (xQ D W' A) args s mc ms A) (F0 m pc ls []) :=
  W.widen (k := mc) (n := ms) hc hs (W.vret C.1 C.2.1 hr (fun t ht _ => ⟨rfl, g, by rw [ht]; exact hP, hD, hS.F ht⟩) hS.2.2 hdg hlk)
end XC
/-- a constructor's contract out of its walk -/
theorem x_met {l : Launch} {y : MethodName} {bytes : ByteArray} {mL d mc ms : Nat} {D : va_G} {ca : Nat → ClassId} {a : Nat} {e0 : va_E} {As : List Value} {W' : (Nat → Nat) → va_W} (hpl : plainName y.cls = true) (hnm : y.name = "<init>")
    (body : ∀ (p : Program) (e : Env) (s : State) (m : MethodId) (below : List Frame) (meth : Method) (c : Code) (A : Nat → Prop), lw_Cx p s m (Value.ref a :: As).toArray c bytes mL y.cls D ca A → va_AO RX7 s → meth.name = "<init>" → meth.sig.returnType = none → meth.locks = false → va_P D vwCl [(a, e0)] s.heap → va_D A [(a, e0)] → va_S A s.heap s.heap [] → W p l e (xrm d mc ms) s m (Value.ref a :: As).toArray below meth c s.heap [] 0 0 (MQ below (xQ D W' A) (Value.ref a :: As).toArray s mc ms A) (entryFrame m (Value.ref a :: As).toArray mL)) :
    ∀ sz, Met l y (.code y bytes mL none :: ti_T) (xrm d mc ms) (va_Pc (.ref a :: As) (xB D ca [(a, e0)] sz)) (xQ D W' (va_A [(a, e0)] sz)) mc ms (va_A [(a, e0)] sz) := by
  intro sz
  refine Met.ofW (cc := bytes) (maxL := mL) (ret := none) hpl rfl ?_
  intro p e s m args below meth c s₁ B hml hv
  obtain ⟨rfl, hsz, hP, hK, hD0, hN, hAO⟩ := hv
  subst hsz
  have hts := atoms_spec (ws := .code y bytes mL none :: ti_T) B.pre
  have hown : s.vm.findClass y.cls = some m.cls := findClass_of_methodNamed B.named
  have hin : meth.name = "<init>" := ((name_of_methodNamed B.named B.method).1).trans hnm
  exact body p e s m below meth c _ ⟨B.exec, B.bytes, hml, hown, fun w h => hts w (List.mem_cons_of_mem _ h), hK, hN, fun q h => Or.inr h⟩ hAO hin B.returns B.notSynchronized hP hD0.self va_S.rf
