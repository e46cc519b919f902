/-! throws out of the class: words, and what a throw asks for -/
def RE : String := "java/util/NoSuchElementException"
def REs : List String := ["java/lang/RuntimeException", "java/lang/Exception"]
def rxE : ByteArray := ⟨#[0x2a, 0x2b, 0xb7, 0x00, 0x0d, 0xb1]⟩
theorem rxE_0 : decode rxE 0 = .ok (.aload_n 0, 1) := by decide +kernel
theorem rxE_1 : decode rxE 1 = .ok (.aload_n 1, 1) := by decide +kernel
theorem rxE_2 : decode rxE 2 = .ok (.invokespecial 13, 3) := by decide +kernel
theorem rxE_5 : decode rxE 5 = .ok (.return_, 1) := by decide +kernel
theorem tW_in : ∀ w ∈ vz_at RX11 150 RE 13 rxE REs, w ∈ lw_tbl := by decide +kernel
theorem tW_ot : ∀ w ∈ Cond.classLink RX11 146 RE :: Cond.initialized RE :: vz_at RX11 150 RE 13 rxE REs, vx_ot w = true := by decide +kernel
theorem tW_cl : Cond.classLink RX11 146 RE ∈ ti_T := by decide +kernel
theorem tW_ini : Cond.initialized RE ∈ ti_T := by decide +kernel
theorem tW_law : Cond.classLink RL 13 RE ∈ ti_T := by decide +kernel
def thW : List Cond := (vz_at RX11 150 RE 13 rxE REs).filter (fun w => !goodWord w)
def tWk : Cond → Bool
  | .declares _ => true
  | .castable _ _ => true
  | _ => false
theorem tW_all : (vz_at RX11 150 RE 13 rxE REs).all (fun w => goodWord w || tWk w) = true := by decide +kernel
theorem tW_kind {w : Cond} (h : w ∈ thW) : (∃ x, w = .declares x) ∨ ∃ a b, w = .castable a b := by
  obtain ⟨h1, h2⟩ := List.mem_filter.mp h
  have h3 := List.all_eq_true.mp tW_all w h1
  have h4 : tWk w = true := by
    cases hg : goodWord w with
    | true => rw [hg] at h2; cases h2
    | false => rw [hg] at h3; exact h3
  cases w <;> first | exact Or.inl ⟨_, rfl⟩ | exact Or.inr ⟨_, _, rfl⟩ | cases h4
theorem tW_castE : Cond.castable RE RE ∈ thW := by decide +kernel
/-- what a throw asks of a state -/
def tT (A : Nat → Prop) (U : State) (H : Heap) : Prop := (∀ w ∈ thW, va_Nw w U) ∧ ((∃ a, vk_R RX11 148 "no such bearer" a U) ∧ (∃ a, vk_R RX11 169 "nothing such of a bearer" a U) ∧ (∃ a, vk_R RX11 172 "no such saying" a U) ∧ (∃ a, vk_R RX11 192 "nothing such of a saying" a U) ∧ ∃ a, vk_R RX11 411 "no such number in the row" a U) ∧ vx_Zq Bundle.tN "UNASSIGNED_STACK" Bundle.steD A U H ∧ vx_Zq Bundle.tN "SUPPRESSED_SENTINEL" Bundle.listD A U H
theorem tT.warm {A : Nat → Prop} {s U : State} {H : Heap} (hW : s.WarmedH U.vm) (h : tT A s H) : tT A U H := by
  obtain ⟨h1, ⟨⟨a1, b1⟩, ⟨a2, b2⟩, ⟨a3, b3⟩, ⟨a4, b4⟩, ⟨a5, b5⟩⟩, h3, h4⟩ := h
  refine ⟨fun w hw => ?_, ⟨⟨a1, vk_R.warm hW b1⟩, ⟨a2, vk_R.warm hW b2⟩, ⟨a3, vk_R.warm hW b3⟩, ⟨a4, vk_R.warm hW b4⟩, ⟨a5, vk_R.warm hW b5⟩⟩, vx_Zq.moved hW.alike h3, vx_Zq.moved hW.alike h4⟩
  rcases tW_kind hw with ⟨x, rfl⟩ | ⟨x, y, rfl⟩
  · exact va_Nw.warmD hW (h1 _ hw)
  · exact va_Nw.warmC hW (h1 _ hw)
theorem tT.same {A : Nat → Prop} {u U : State} {H : Heap} (hv : u.vm = U.vm) (h : tT A u H) : tT A U H := by
  obtain ⟨h1, ⟨⟨a1, b1⟩, ⟨a2, b2⟩, ⟨a3, b3⟩, ⟨a4, b4⟩, ⟨a5, b5⟩⟩, h3, h4⟩ := h
  have hA : u.vm.Alike U.vm := by rw [← hv]; exact Vm.Alike.refl _
  refine ⟨fun w hw => ?_, ⟨⟨a1, vk_R.same hv.symm b1⟩, ⟨a2, vk_R.same hv.symm b2⟩, ⟨a3, vk_R.same hv.symm b3⟩, ⟨a4, vk_R.same hv.symm b4⟩, ⟨a5, vk_R.same hv.symm b5⟩⟩, vx_Zq.moved hA h3, vx_Zq.moved hA h4⟩
  rcases tW_kind hw with ⟨x, rfl⟩ | ⟨x, y, rfl⟩
  · exact va_Nw.same rfl hv (h1 _ hw)
  · exact va_Nw.same rfl hv (h1 _ hw)
theorem tT.kept {A : Nat → Prop} {U : State} {H H1 : Heap} (h : tT A U H) (hq : ∀ a : Nat, a < H.size → ¬ A a → H1[a]? = H[a]?) : tT A U H1 := ⟨h.1, h.2.1, h.2.2.1.kept hq, h.2.2.2.kept hq⟩
theorem tT.narrow {A B : Nat → Prop} {U : State} {H : Heap} (h : tT A U H) (hAB : ∀ q, B q → A q) : tT B U H := ⟨h.1, h.2.1, h.2.2.1.narrow hAB, h.2.2.2.narrow hAB⟩
/-- how a throwing method leaves: the class's world as it was -/
def tX (D : va_G) (ad : Nat → Nat) (ca : Nat → ClassId) (M : TM) (sz : Nat) : String → State → State → Prop := fun E st t => E = RE ∧ va_P D vwCl (ti_ws lyC ad ca M) t.heap ∧ va_F (va_A (ti_ws lyC ad ca M) sz) st t
section TTH
variable {p : Program} {l : Launch} {e : Env} {R : Room} {s : State} {m : MethodId} {args : Array Value} {below : List Frame} {meth : Method} {c : Code} {cc : ByteArray} {nL : Nat} {H : Heap} {locs : List Loc} {cells slots : Nat} {D : va_G} {ca : Nat → ClassId} {ad : Nat → Nat} {M : TM} {sz : Nat} {ls : Array Slot} {pc : Nat} {Qc : Array Value → State → Outcome → State → Prop}
theorem t_hat (hts : ∀ w ∈ ti_T, w.before args s = true) (h : ∀ w ∈ thW, va_Nw w s) : ∀ w ∈ vz_at RX11 150 RE 13 rxE REs, w.before args s = true := by
  intro w hw
  cases hg : goodWord w with
  | true => exact hts w (List.mem_filter.mpr ⟨tW_in w hw, hg⟩)
  | false =>
    have hw2 : w ∈ thW := List.mem_filter.mpr ⟨hw, by rw [hg]; rfl⟩
    rcases tW_kind hw2 with ⟨x, rfl⟩ | ⟨x, y, rfl⟩
    · exact va_Nw.use rfl (h _ hw2)
    · exact va_Nw.use rfl (h _ hw2)
theorem t_thr (hst : l.stackTraces = false) (C : lw_Cx p s m args c cc nL RX11 D ca (va_A (ti_ws lyC ad ca M) sz)) (hsz : s.heap.size = sz) (hT : tT (va_A (ti_ws lyC ad ca M) sz) s s.heap) {is sa : Nat} {text : String} (hs : vk_R RX11 is text sa s) (hls : ls.size = nL) (hlk : meth.locks = false) (htab : ∀ x ∈ c.exceptionTable.toList, False) (hP : va_P D vwCl (ti_ws lyC ad ca M) H) (hS : va_S (va_A (ti_ws lyC ad ca M) sz) s.heap H locs)
    (hfr : 6 ≤ R.frames) (hlo : 100 ≤ R.locals) (hce : 1 ≤ R.cells) (hsl : 6 ≤ R.slots) (d0 : decode cc pc = .ok (.new 146, 3)) (d3 : decode cc (pc + 3) = .ok (.dup, 1)) (d4 : (decode cc (pc + 4) = .ok (.ldc is, 2) ∧ decode cc (pc + 6) = .ok (.invokespecial 150, 3) ∧ decode cc (pc + 9) = .ok (.athrow, 1)) ∨ (decode cc (pc + 4) = .ok (.ldc_w is, 3) ∧ decode cc (pc + 7) = .ok (.invokespecial 150, 3) ∧ decode cc (pc + 10) = .ok (.athrow, 1))) :
    W p l e R s m args below meth c H locs 0 0 (vx_MQ below Qc (tX D ad ca M sz) args s 1 6 (va_A (ti_ws lyC ad ca M) sz)) (F0 m pc ls []) := by
  obtain ⟨hx, hb, hml, hown, hts, hK, hN, hA⟩ := C
  have hxc : ∀ t : State, s.vm.Alike t.vm → H.size ≤ t.heap.size → (∀ q : Nat, q < H.size → t.heap[q]? = H[q]?) → tX D ad ca M sz RE s t := fun t _ h1 h2 => ⟨rfl, hP.kept (fun k q hq => h2 _ ((hP k q hq).lt)), Nat.le_trans hS.1 h1, fun q q1 q2 => by rw [h2 q (Nat.lt_of_lt_of_le q1 hS.1)]; exact hS.2.1 q q1 q2⟩
  rcases d4 with ⟨d4, d6, d9⟩ | ⟨d4, d7, d10⟩
  · exact vz_throwS hx hb hst rxE_0 rxE_1 rxE_2 rxE_5 hown (by decide +kernel) (by decide +kernel) (hts _ tW_cl) (hts _ tW_ini) hs (t_hat hts hT.1) tW_ot hT.2.2.1 hT.2.2.2 hS (hls.trans hml.symm) d0 d3 d4 d6 d9 (fun x hx => (htab x hx).elim) (show 2 + 3 < R.frames by omega) (show 0 + (13 * (2 + 1) + 43) ≤ R.locals by omega) (by omega) (by omega) hlk hxc hS.2.2 (by decide) (by decide)
  · exact vz_throwSW hx hb hst rxE_0 rxE_1 rxE_2 rxE_5 hown (by decide +kernel) (by decide +kernel) (hts _ tW_cl) (hts _ tW_ini) hs (t_hat hts hT.1) tW_ot hT.2.2.1 hT.2.2.2 hS (hls.trans hml.symm) d0 d3 d4 d7 d10 (fun x hx => (htab x hx).elim) (show 2 + 3 < R.frames by omega) (show 0 + (13 * (2 + 1) + 43) ≤ R.locals by omega) (by omega) (by omega) hlk hxc hS.2.2 (by decide) (by decide)
end TTH
section LWP
variable {p : Program} {l : Launch} {e : Env} {R : Room} {s : State} {m : MethodId} {args : Array Value} {below : List Frame} {meth : Method} {c : Code} {cc : ByteArray} {nL : Nat} {own : String} {H : Heap} {locs : List Loc} {cells slots : Nat} {Q : State → Prop} {h : TH} {D : va_G} {ca : Nat → ClassId} {ad adV : Nat → Nat} {A : Nat → Prop} {lay : List TE} {M : TM} {ls : Array Slot} {pc idx mL n1 : Nat} {y : MethodName} {rp : Nat} {vs rest : List Value} {Q1 : Option Value → TM → Prop} {fds : List (Nat × Nat)}
theorem lw_callP (hIX : ti_IXok) (C : lw_Cx p s m args c cc nL own D ca A) (hZ : ti_Z ad adV A s s.heap) (hls : ls.size = nL) (w : lw_MOK own idx h mL n1 y) (hcal : Cal lay 120 h mL (.ref rp :: vs) M Q1) (hq : lay[rp]? = some (.inl (h.1, fds)))
    (hP : va_P D vwCl (ti_ws lay ad ca M) H) (hD : va_D A (ti_ws lay ad ca M)) (hS : va_S A s.heap H locs) (hoka : ti_oka (.ref rp :: vs) = true) (hent : (ti_ent (.ref rp :: vs)).length ≤ mL) (hlen : vs.length = n1) (hW8 : (rest.map fun v => v.category).sum ≤ 8) (hfr : 121 ≤ R.frames) (hlo : 12040 ≤ R.locals) (hce : cells ≤ R.cells) (hsl : slots ≤ R.slots) (hdec : decode cc pc = .ok (.invokevirtual idx, 3))
    (kk : ∀ (H' : Heap) (locs' : List Loc) (r : Option Value) (M1 : TM), Q1 r M1 → va_P D vwCl (ti_ws lay ad ca M1) H' → H.size ≤ H'.size → (∀ q, q < H.size → ¬ va_A (ti_ws lay ad ca M) H.size q → H'[q]? = H[q]?) → va_S A s.heap H' locs' → W p l e R s m args below meth c H' locs' cells slots Q (F0 m (pc + 3) ls ((r.map (ti_tv ad)).toList ++ rest))) :
    W p l e R s m args below meth c H locs cells slots Q (F0 m pc ls ((vs.map (ti_tv ad)).reverse ++ .ref (ad rp) :: rest)) := by
  obtain ⟨hx, hb, hml, hown, hts, hK, hN, hA⟩ := C
  obtain ⟨hcode, hini, hpl, hycls, hno, hmL, hl1, hl2, hl3, ⟨T0, N0, hcl⟩, hn1⟩ := w
  obtain ⟨f, r, M1, hex, hq1⟩ := hcal
  have hM := ti_met (ti_sound hIX f) (l := l) (D := D) (ca := ca) (ad := ad) (adV := adV) (sz := H.size) (y := y) hex hoka hent hpl hycls
  have hR : (ti_rm 120).frames + 1 ≤ R.frames ∧ 8 + (mL + 11) + (ti_rm 120).locals ≤ R.locals := ⟨hfr, by show 8 + (mL + 11) + 100 * 120 ≤ R.locals; omega⟩
  have hF : ∀ q, va_A (ti_ws lay ad ca M) H.size q → A q := by
    intro q hq
    rcases hq with ⟨k, e, hk⟩ | hq
    · exact hD.2 k _ hk
    · exact hA q (Nat.le_trans hS.1 hq)
  have hpre : ∀ U : State, U.heap = H → s.WarmedH U.vm → ti_B D lay ad adV ca M H.size U := by
    intro U hU hW
    refine ⟨by rw [hU], by rw [hU]; exact hP, va_K.moved hW.alike hK, hD.weaken (fun _ _ _ _ => trivial), ti_Nw_warm hW hN, vk_R.warm hW hZ.1, ?_⟩
    rw [hU]
    exact ti_Z2.moved hW.alike ((hZ.2.kept hS.2.1).narrow hF)
  have hr := va_runV (R := R) (H := H) (locs := locs) (cells := cells) (slots := slots) (below := below) (meth := meth) (e := e) (g := F0 m pc ls ((vs.map (ti_tv ad)).reverse ++ .ref (ad rp) :: rest)) (As := vs.map (ti_tv ad)) (rest := rest) ⟨hx, hb, hml, hown, hts⟩ hM
    (cwV n1 hts (fun w hw => by
      rcases List.mem_append.mp hw with hw | hw
      · simp only [List.mem_cons, List.not_mem_nil, or_false] at hw
        rcases hw with rfl | rfl | rfl | rfl
        · exact ⟨hl1, ti_Tgood hl1⟩
        · exact ⟨hl2, ti_Tgood hl2⟩
        · exact ⟨hl3, ti_Tgood hl3⟩
        · exact ⟨hini, ti_Tgood hini⟩
      · exact ti_good hcode w hw) rfl rfl rfl ⟨rfl, hno.1, hno.2, hn1⟩ hR) ⟨ti_blind, va_recv hK hP hcl (ti_ws_at hq), fun U hU hW => ⟨rfl, hpre U hU hW⟩⟩ rfl (by simp [hlen]) hls rfl (by show 2 * 0 + _ ≤ 8; omega) hdec ⟨hce, hsl⟩
  intro T hT X
  obtain ⟨v, st₀, t, T', Lx, h0, X', hL, e1, e2, ⟨hv, hP2, hD2, hz, hk⟩, go⟩ := hr T hT X
  cases hv
  rw [h0] at hz hk
  have hS2 : va_S A s.heap T'.heap (locs ++ Lx) := ⟨Nat.le_trans hS.1 (by rw [e1]; exact hz), fun q h1 h2 => by rw [e1, hk q (Nat.lt_of_lt_of_le h1 hS.1) (fun z => h2 (hF q z))]; exact hS.2.1 q h1 h2, fun q hq => by
    rcases List.mem_append.mp hq with h | h
    · exact hS.2.2 q h
    · exact hF _ (hL q h)⟩
  have K := kk T'.heap (locs ++ Lx) r M1 hq1 (by rw [e1]; exact hP2) (by rw [e1]; exact hz) (fun q h1 h2 => by rw [e1]; exact hk q h1 h2) hS2
  obtain ⟨t2, a1, b1⟩ := K T' rfl X'
  exact ⟨t2, go t2 a1, b1⟩
end LWP
