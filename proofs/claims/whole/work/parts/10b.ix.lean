/-! String.indexOf on the constant of the seven names: the JDK's own methods, walked -/
def nF : Nat → Prop := fun _ => False
def ix_Q (z : Int32) : Array Value → State → Outcome → State → Prop := fun _ st oc t => oc = .returned (some (.int z)) ∧ t.heap = st.heap
def ix_B (a : Nat) (adV : Nat → Nat) : State → Prop := fun U => ti_Z2 (fun _ => a) adV nF U U.heap
theorem ix_blind {av : List Value} {a : Nat} {adV : Nat → Nat} : FrameBlind (va_Pc av (ix_B a adV)) := by
  intro b U g mk q
  exact ⟨q.1, ti_Z2.moved (u := U) (U := U.calling g mk b) (Vm.Alike.refl U.vm) q.2⟩
theorem ix_met {l : Launch} {y : MethodName} {bytes : ByteArray} {mL d a : Nat} {adV : Nat → Nat} {ret : Option FieldType} {own : String} {vs : List Value} {z : Int32} (hpl : plainName y.cls = true) (hy : y.cls = own) (hlen : (lg_sl vs).length ≤ mL)
    (body : ∀ (p : Program) (e : Env) (s : State) (m : MethodId) (below : List Frame) (meth : Method) (c : Code) (ls : Array Slot), lv_has ls mL (lv_args 0 vs) → CallFix p m c bytes mL s vs.toArray ti_T own → ti_Z2 (fun _ => a) adV nF s s.heap → meth.sig.returnType = ret → meth.locks = false →
      W p l e (ti_rm d) s m vs.toArray below meth c s.heap [] 0 0 (MQ below (ix_Q z) vs.toArray s 0 0 nF) (F0 m 0 ls [])) :
    Met l y (.code y bytes mL ret :: ti_T) (ti_rm d) (va_Pc vs (ix_B a adV)) (ix_Q z) 0 0 nF := by
  refine Met.ofW (cc := bytes) (maxL := mL) (ret := ret) hpl rfl ?_
  intro p e s m args below meth c s₁ B hml hv
  obtain ⟨rfl, hZ⟩ := hv
  have hts := atoms_spec (ws := .code y bytes mL ret :: ti_T) B.pre
  have hown : s.vm.findClass y.cls = some m.cls := findClass_of_methodNamed B.named
  rw [hy] at hown
  rw [lg_entry_eq]
  exact body p e s m below meth c _ (lv_entry vs hlen) ⟨B.exec, B.bytes, hml, hown, fun w h => hts w (List.mem_cons_of_mem _ h)⟩ hZ B.returns B.notSynchronized
section IXC
variable {p : Program} {l : Launch} {e : Env} {R : Room} {s : State} {m : MethodId} {args : Array Value} {below : List Frame} {meth : Method} {c : Code} {H : Heap} {locs : List Loc} {cells slots : Nat} {Q : State → Prop}
variable {cc bytes : ByteArray} {pc nL mL idx d a : Nat} {ls : Array Slot} {rest As : List Value} {adV : Nat → Nat} {y : MethodName} {ret : Option FieldType} {own : String} {z : Int32}
theorem ix_behind {st0 : List Value} {av : Array Value} (hr : va_Run p l e R s m args below meth c H locs cells slots 0 0 (F0 m pc ls st0) rest (ix_Q z av) nF)
    (kk : W p l e R s m args below meth c H locs cells slots Q (F0 m (pc + 3) ls (.int z :: rest))) : W p l e R s m args below meth c H locs cells slots Q (F0 m pc ls st0) := by
  intro T hT X
  obtain ⟨v, st₀, t, T', L, h0, X', hL, e1, e2, ⟨hv, hh⟩, go⟩ := hr T hT X
  cases hv
  have hL0 : L = [] := by
    cases L with
    | nil => rfl
    | cons q L => exact False.elim (hL q List.mem_cons_self)
  subst hL0
  rw [List.append_nil] at X'
  obtain ⟨t2, a1, b1⟩ := kk T' (by rw [e1, hh, h0]) X'
  exact ⟨t2, go t2 a1, b1⟩
theorem ix_pc {U : State} (hZ : ti_Z2 (fun _ => a) adV nF s H) (hU : U.heap = H) (hW : s.WarmedH U.vm) : ix_B a adV U := by
  show ti_Z2 _ _ _ U U.heap
  rw [hU]
  exact ti_Z2.moved hW.alike hZ
theorem ix_callV (S : CallFix p m c cc nL s args ti_T own) (hls : ls.size = nL) (hM : Met l y (.code y bytes mL ret :: ti_T) (ti_rm d) (va_Pc (.ref a :: As) (ix_B a adV)) (ix_Q z) 0 0 nF)
    (w : Cond.code y bytes mL ret ∈ ti_T ∧ Cond.methodLink own idx y ∈ ti_T ∧ Cond.instanceMethod y ∈ ti_T ∧ Cond.selects y.cls y y ∈ ti_T ∧ Cond.initialized y.cls ∈ ti_T) (hy : y.cls = "java/lang/String")
    {n : Nat} (hn : (parseMethodDescriptor y.desc).map (fun d => d.parameters.length) = some n) (hAs : As.length = n) (hZ : ti_Z2 (fun _ => a) adV nF s H) (hR : d + 1 ≤ R.frames ∧ 8 + (mL + 11) + 100 * d ≤ R.locals) (hc : cells ≤ R.cells) (hs : slots ≤ R.slots)
    (hW8 : (rest.map fun v => v.category).sum ≤ 8) (hdg : decode cc pc = .ok (.invokevirtual idx, 3))
    (kk : W p l e R s m args below meth c H locs cells slots Q (F0 m (pc + 3) ls (.int z :: rest))) : W p l e R s m args below meth c H locs cells slots Q (F0 m pc ls (As.reverse ++ .ref a :: rest)) := by
  obtain ⟨w1, w2, w3, w4, w5⟩ := w
  have hG : GoodIn ti_T (wsV own idx y.cls y (.code y bytes mL ret :: ti_T)) := by
    intro v hv
    rcases List.mem_append.mp hv with hv | hv
    · simp only [List.mem_cons, List.not_mem_nil, or_false] at hv
      rcases hv with rfl | rfl | rfl | rfl
      · exact ⟨w2, ti_Tgood w2⟩
      · exact ⟨w3, ti_Tgood w3⟩
      · exact ⟨w4, ti_Tgood w4⟩
      · exact ⟨w5, ti_Tgood w5⟩
    · exact ti_good w1 v hv
  refine ix_behind (va_runV (As := As) (rest := rest) S hM (cwV n S.2.2.2.2 hG rfl rfl rfl ⟨rfl, by rw [hy]; decide, by rw [hy]; decide, hn⟩ hR) ⟨ix_blind, ?_, fun U hU hW => ⟨rfl, ix_pc hZ hU hW⟩⟩ rfl hAs hls rfl ?_ hdg ⟨hc, hs⟩) kk
  · obtain ⟨cell, h1, h2, h3, -⟩ := (hZ.1.1 0 (by decide)).1
    exact ⟨cell, h1, h2, by rw [hy]; exact h3⟩
  · show 2 * 0 + _ ≤ 8
    omega
theorem ix_callS (S : CallFix p m c cc nL s args ti_T own) (hls : ls.size = nL) (hM : Met l y (.code y bytes mL ret :: ti_T) (ti_rm d) (va_Pc As (ix_B a adV)) (ix_Q z) 0 0 nF)
    (w : Cond.code y bytes mL ret ∈ ti_T ∧ Cond.methodLink own idx y ∈ ti_T ∧ Cond.static y ∈ ti_T ∧ Cond.initialized y.cls ∈ ti_T) (hy : y.cls ≠ "java/lang/invoke/MethodHandle" ∧ y.cls ≠ "java/lang/invoke/VarHandle")
    {n : Nat} (hn : (parseMethodDescriptor y.desc).map (fun d => d.parameters.length) = some n) (hAs : As.length = n) (hZ : ti_Z2 (fun _ => a) adV nF s H) (hR : d + 1 ≤ R.frames ∧ 8 + (mL + 11) + 100 * d ≤ R.locals) (hc : cells ≤ R.cells) (hs : slots ≤ R.slots)
    (hW8 : (rest.map fun v => v.category).sum ≤ 8) (hdg : decode cc pc = .ok (.invokestatic idx, 3))
    (kk : W p l e R s m args below meth c H locs cells slots Q (F0 m (pc + 3) ls (.int z :: rest))) : W p l e R s m args below meth c H locs cells slots Q (F0 m pc ls (As.reverse ++ rest)) := by
  obtain ⟨w1, w2, w3, w4⟩ := w
  have hts := S.2.2.2.2
  refine ix_behind (va_runS (As := As) (rest := rest) S hM ⟨callB_of n hts (ti_good w1) rfl rfl rfl (hts _ w4) (hts _ w2) ⟨hy.1, hy.2, hn⟩ hR, hts _ w3⟩ ⟨ix_blind, fun U hU hW => ⟨rfl, ix_pc hZ hU hW⟩⟩ rfl hAs hls rfl ?_ hdg ⟨hc, hs⟩) kk
  show 2 * 0 + _ ≤ 8
  omega
end IXC
theorem ix_w_cs : Cond.fieldLink RJ0 38 "java/lang/String" "COMPACT_STRINGS" "Z" ∈ ti_T := by decide +kernel
theorem ix_w_co : Cond.fieldLink RJ0 15 "java/lang/String" "coder" "B" ∈ ti_T := by decide +kernel
theorem ix_w_va : Cond.fieldLink RJ0 9 "java/lang/String" "value" "[B" ∈ ti_T := by decide +kernel
theorem ix_w_max : Cond.methodLink RJ1 92 Lib.Math.max.name ∈ ti_T := by decide +kernel
theorem ix_w_min : Cond.methodLink RJ1 38 Lib.Math.min.name ∈ ti_T := by decide +kernel
theorem ix_w_coder : Cond.code yJ0_coder_7d493 cJ0_coder_7d493 1 (some .byte) ∈ ti_T ∧ Cond.methodLink RJ0 335 yJ0_coder_7d493 ∈ ti_T ∧ Cond.instanceMethod yJ0_coder_7d493 ∈ ti_T ∧ Cond.selects yJ0_coder_7d493.cls yJ0_coder_7d493 yJ0_coder_7d493 ∈ ti_T ∧ Cond.initialized yJ0_coder_7d493.cls ∈ ti_T := ⟨by decide +kernel, by decide +kernel, by decide +kernel, by decide +kernel, by decide +kernel⟩
theorem ix_w_lat : Cond.code yJ0_isLatin1_aae02 cJ0_isLatin1_aae02 1 (some .boolean) ∈ ti_T ∧ Cond.methodLink RJ0 492 yJ0_isLatin1_aae02 ∈ ti_T ∧ Cond.instanceMethod yJ0_isLatin1_aae02 ∈ ti_T ∧ Cond.selects yJ0_isLatin1_aae02.cls yJ0_isLatin1_aae02 yJ0_isLatin1_aae02 ∈ ti_T ∧ Cond.initialized yJ0_isLatin1_aae02.cls ∈ ti_T := ⟨by decide +kernel, by decide +kernel, by decide +kernel, by decide +kernel, by decide +kernel⟩
theorem ix_w_len : Cond.code yJ0_length_8abf5 cJ0_length_8abf5 1 (some .int) ∈ ti_T ∧ Cond.methodLink RJ0 505 yJ0_length_8abf5 ∈ ti_T ∧ Cond.instanceMethod yJ0_length_8abf5 ∈ ti_T ∧ Cond.selects yJ0_length_8abf5.cls yJ0_length_8abf5 yJ0_length_8abf5 ∈ ti_T ∧ Cond.initialized yJ0_length_8abf5.cls ∈ ti_T := ⟨by decide +kernel, by decide +kernel, by decide +kernel, by decide +kernel, by decide +kernel⟩
theorem ix_w_two : Cond.code yJ0_indexOf_7cf53 cJ0_indexOf_7cf53 3 (some .int) ∈ ti_T ∧ Cond.methodLink RJ0 633 yJ0_indexOf_7cf53 ∈ ti_T ∧ Cond.instanceMethod yJ0_indexOf_7cf53 ∈ ti_T ∧ Cond.selects yJ0_indexOf_7cf53.cls yJ0_indexOf_7cf53 yJ0_indexOf_7cf53 ∈ ti_T ∧ Cond.initialized yJ0_indexOf_7cf53.cls ∈ ti_T := ⟨by decide +kernel, by decide +kernel, by decide +kernel, by decide +kernel, by decide +kernel⟩
theorem ix_w_one : Cond.code yJ0_indexOf_0f7a4 cJ0_indexOf_0f7a4 2 (some .int) ∈ ti_T ∧ Cond.methodLink RX5 86 yJ0_indexOf_0f7a4 ∈ ti_T ∧ Cond.instanceMethod yJ0_indexOf_0f7a4 ∈ ti_T ∧ Cond.selects yJ0_indexOf_0f7a4.cls yJ0_indexOf_0f7a4 yJ0_indexOf_0f7a4 ∈ ti_T ∧ Cond.initialized yJ0_indexOf_0f7a4.cls ∈ ti_T := ⟨by decide +kernel, by decide +kernel, by decide +kernel, by decide +kernel, by decide +kernel⟩
theorem ix_w_can : Cond.code yJ1_canEncode_9a6ad cJ1_canEncode_9a6ad 1 (some .boolean) ∈ ti_T ∧ Cond.methodLink RJ1 88 yJ1_canEncode_9a6ad ∈ ti_T ∧ Cond.static yJ1_canEncode_9a6ad ∈ ti_T ∧ Cond.initialized yJ1_canEncode_9a6ad.cls ∈ ti_T := ⟨by decide +kernel, by decide +kernel, by decide +kernel, by decide +kernel⟩
theorem ix_w_lio : Cond.code yJ1_indexOf_4cfef cJ1_indexOf_4cfef 4 (some .int) ∈ ti_T ∧ Cond.methodLink RJ0 637 yJ1_indexOf_4cfef ∈ ti_T ∧ Cond.static yJ1_indexOf_4cfef ∈ ti_T ∧ Cond.initialized yJ1_indexOf_4cfef.cls ∈ ti_T := ⟨by decide +kernel, by decide +kernel, by decide +kernel, by decide +kernel⟩
theorem ix_w_ioc : Cond.code yJ1_indexOfChar_4cfef cJ1_indexOfChar_4cfef 6 (some .int) ∈ ti_T ∧ Cond.methodLink RJ1 95 yJ1_indexOfChar_4cfef ∈ ti_T ∧ Cond.static yJ1_indexOfChar_4cfef ∈ ti_T ∧ Cond.initialized yJ1_indexOfChar_4cfef.cls ∈ ti_T := ⟨by decide +kernel, by decide +kernel, by decide +kernel, by decide +kernel⟩
theorem ix_coder {l : Launch} {a : Nat} {adV : Nat → Nat} : Met l yJ0_coder_7d493 (.code yJ0_coder_7d493 cJ0_coder_7d493 1 (some .byte) :: ti_T) (ti_rm 0) (va_Pc [.ref a] (ix_B a adV)) (ix_Q 0) 0 0 nF := by
  refine ix_met (own := RJ0) (by decide) rfl (Nat.le_of_ble_eq_true rfl) ?_
  intro p e s m below meth c ls hl S hZ hret hlk
  have hl : lv_has ls 1 [(0, .ref a)] := hl
  refine va_gets S.1 S.2.1 hZ.2 va_S.rf S.2.2.2.1 (S.2.2.2.2 _ ix_w_cs) (fun _ h => h) dJ0_coder_7d493_0 ?_
  refine lv_if_eq (tgt := 13) S.1 S.2.1 dJ0_coder_7d493_3 (by decide) (fun h => absurd h (by decide)) (fun _ => ?_)
  refine lv_aload_n S.1 S.2.1 dJ0_coder_7d493_6 rfl (lv_at hl 0 rfl) ?_
  refine vk_getf S.1 S.2.1 (hZ.1.1 0 (by decide)).2.1 va_S.rf S.2.2.2.1 (S.2.2.2.2 _ ix_w_co) (fun _ h => h) dJ0_coder_7d493_7 ?_
  refine lv_goto (tgt := 14) S.1 S.2.1 dJ0_coder_7d493_10 (by decide) ?_
  exact W.zret S.1 S.2.1 (ty := .byte) hret (by decide) (fun t ht _ => ⟨rfl, ht⟩) (fun q h => by cases h) dJ0_coder_7d493_14 hlk
theorem ix_lat {l : Launch} {a : Nat} {adV : Nat → Nat} : Met l yJ0_isLatin1_aae02 (.code yJ0_isLatin1_aae02 cJ0_isLatin1_aae02 1 (some .boolean) :: ti_T) (ti_rm 0) (va_Pc [.ref a] (ix_B a adV)) (ix_Q 1) 0 0 nF := by
  refine ix_met (own := RJ0) (by decide) rfl (Nat.le_of_ble_eq_true rfl) ?_
  intro p e s m below meth c ls hl S hZ hret hlk
  have hl : lv_has ls 1 [(0, .ref a)] := hl
  refine va_gets S.1 S.2.1 hZ.2 va_S.rf S.2.2.2.1 (S.2.2.2.2 _ ix_w_cs) (fun _ h => h) dJ0_isLatin1_aae02_0 ?_
  refine lv_if_eq (tgt := 17) S.1 S.2.1 dJ0_isLatin1_aae02_3 (by decide) (fun h => absurd h (by decide)) (fun _ => ?_)
  refine lv_aload_n S.1 S.2.1 dJ0_isLatin1_aae02_6 rfl (lv_at hl 0 rfl) ?_
  refine vk_getf S.1 S.2.1 (hZ.1.1 0 (by decide)).2.1 va_S.rf S.2.2.2.1 (S.2.2.2.2 _ ix_w_co) (fun _ h => h) dJ0_isLatin1_aae02_7 ?_
  refine lv_if_ne (tgt := 17) S.1 S.2.1 dJ0_isLatin1_aae02_10 (by decide) (fun h => absurd rfl h) (fun _ => ?_)
  refine lv_iconst S.1 S.2.1 dJ0_isLatin1_aae02_13 (v := 1) (by decide) ?_
  refine lv_goto (tgt := 18) S.1 S.2.1 dJ0_isLatin1_aae02_14 (by decide) ?_
  exact W.zret S.1 S.2.1 (ty := .boolean) hret (by decide) (fun t ht _ => ⟨rfl, ht⟩) (fun q h => by cases h) dJ0_isLatin1_aae02_18 hlk
theorem ix_len {l : Launch} {a : Nat} {adV : Nat → Nat} : Met l yJ0_length_8abf5 (.code yJ0_length_8abf5 cJ0_length_8abf5 1 (some .int) :: ti_T) (ti_rm 1) (va_Pc [.ref a] (ix_B a adV)) (ix_Q 7) 0 0 nF := by
  refine ix_met (own := RJ0) (by decide) rfl (Nat.le_of_ble_eq_true rfl) ?_
  intro p e s m below meth c ls hl S hZ hret hlk
  have hl : lv_has ls 1 [(0, .ref a)] := hl
  refine lv_aload_n S.1 S.2.1 dJ0_length_8abf5_0 rfl (lv_at hl 0 rfl) ?_
  refine vk_getf S.1 S.2.1 (hZ.1.1 0 (by decide)).2.2.1 va_S.rf S.2.2.2.1 (S.2.2.2.2 _ ix_w_va) (fun _ h => h) dJ0_length_8abf5_1 ?_
  refine va_tlen S.1 S.2.1 (hZ.1.1 0 (by decide)).2.2.2 va_S.rf (v := 7) (by decide) dJ0_length_8abf5_4 ?_
  refine lv_aload_n S.1 S.2.1 dJ0_length_8abf5_5 rfl (lv_at hl 0 rfl) ?_
  refine ix_callV (As := []) (n := 0) (rest := [.int 7]) S hl.1 ix_coder ix_w_coder rfl (by decide) rfl hZ ⟨by decide, by decide⟩ (Nat.le_refl 0) (Nat.le_refl 0) (by decide) dJ0_length_8abf5_6 ?_
  refine lv_ishr S.1 S.2.1 dJ0_length_8abf5_9 ?_
  rw [show (7 : Int32) >>> ((0 : Int32) &&& 31) = 7 from by decide]
  exact W.zret S.1 S.2.1 (ty := .int) hret rfl (fun t ht _ => ⟨rfl, ht⟩) (fun q h => by cases h) dJ0_length_8abf5_10 hlk
theorem ix_can {l : Launch} {a : Nat} {adV : Nat → Nat} {x : Int32} (h0 : 0 ≤ x) : Met l yJ1_canEncode_9a6ad (.code yJ1_canEncode_9a6ad cJ1_canEncode_9a6ad 1 (some .boolean) :: ti_T) (ti_rm 0) (va_Pc [.int x] (ix_B a adV)) (ix_Q (if 255 < x then 0 else 1)) 0 0 nF := by
  refine ix_met (own := RJ1) (by decide) rfl (Nat.le_of_ble_eq_true rfl) ?_
  intro p e s m below meth c ls hl S hZ hret hlk
  have hl : lv_has ls 1 [(0, .int x)] := hl
  refine lv_iload_n S.1 S.2.1 dJ1_canEncode_9a6ad_0 rfl (lv_at hl 0 rfl) ?_
  refine lv_if_lt (tgt := 15) S.1 S.2.1 dJ1_canEncode_9a6ad_1 (by decide) (fun h => absurd h (Int32.not_lt.mpr h0)) (fun _ => ?_)
  refine lv_iload_n S.1 S.2.1 dJ1_canEncode_9a6ad_4 rfl (lv_at hl 0 rfl) ?_
  refine lv_sipush S.1 S.2.1 dJ1_canEncode_9a6ad_5 (v := 255) (by decide) ?_
  refine lv_icmp_gt (tgt := 15) S.1 S.2.1 dJ1_canEncode_9a6ad_8 (by decide) (fun h => ?_) (fun h => ?_)
  · rw [if_pos h]
    refine lv_iconst S.1 S.2.1 dJ1_canEncode_9a6ad_15 (v := 0) (by decide) ?_
    exact W.zret S.1 S.2.1 (ty := .boolean) hret (by decide) (fun t ht _ => ⟨rfl, ht⟩) (fun q h => by cases h) dJ1_canEncode_9a6ad_16 hlk
  · rw [if_neg h]
    refine lv_iconst S.1 S.2.1 dJ1_canEncode_9a6ad_11 (v := 1) (by decide) ?_
    refine lv_goto (tgt := 16) S.1 S.2.1 dJ1_canEncode_9a6ad_12 (by decide) ?_
    exact W.zret S.1 S.2.1 (ty := .boolean) hret (by decide) (fun t ht _ => ⟨rfl, ht⟩) (fun q h => by cases h) dJ1_canEncode_9a6ad_16 hlk
def ix_by (j : Nat) : Int32 := ([115, 116, 104, 120, 110, 99, 105] : List Int32).getD j 0
def ix_f (b : Int32) : Nat → Nat → Int32
  | _, 0 => -1
  | k, n + 1 => if ix_by k = b then nI k else ix_f b (k + 1) n
theorem ix_ioc {l : Launch} {a : Nat} {adV : Nat → Nat} {x : Int32} : Met l yJ1_indexOfChar_4cfef (.code yJ1_indexOfChar_4cfef cJ1_indexOfChar_4cfef 6 (some .int) :: ti_T) (ti_rm 0) (va_Pc [.ref (adV 0), .int x, .int 0, .int 7] (ix_B a adV)) (ix_Q (ix_f x.toInt8.toInt32 0 7)) 0 0 nF := by
  refine ix_met (own := RJ1) (by decide) rfl (Nat.le_of_ble_eq_true rfl) ?_
  intro p e s m below meth c ls hl S hZ hret hlk
  have hl : lv_has ls 6 [(0, .ref (adV 0)), (1, .int x), (2, .int 0), (3, .int 7)] := hl
  generalize hb : x.toInt8.toInt32 = b
  generalize hz : ix_f b 0 7 = z
  have hT := (hZ.1.1 0 (by decide)).2.2.2
  have loop : ∀ (n k : Nat) (ls : Array Slot), k + n = 7 → lv_has ls 6 [(5, .int (nI k)), (4, .int b), (0, .ref (adV 0)), (3, .int 7)] → ix_f b k n = z → W p l e (ti_rm 0) s m #[.ref (adV 0), .int x, .int 0, .int 7] below meth c s.heap [] 0 0 (MQ below (ix_Q z) #[.ref (adV 0), .int x, .int 0, .int 7] s 0 0 nF) (F0 m 7 ls []) := by
    intro n
    induction n with
    | zero =>
      intro k ls hk hl hz
      have hk : k = 7 := by omega
      subst hk
      refine lv_iload S.1 S.2.1 dJ1_indexOfChar_4cfef_7 (lv_at hl 0 rfl) ?_
      refine lv_iload_n S.1 S.2.1 dJ1_indexOfChar_4cfef_9 rfl (lv_at hl 3 rfl) ?_
      refine lv_icmp_ge (tgt := 31) S.1 S.2.1 dJ1_indexOfChar_4cfef_10 (by decide) (fun _ => ?_) (fun h => absurd (by decide) h)
      refine lv_iconst S.1 S.2.1 dJ1_indexOfChar_4cfef_31 (v := z) (by rw [← hz]; rfl) ?_
      exact W.zret S.1 S.2.1 (ty := .int) hret rfl (fun t ht _ => ⟨rfl, ht⟩) (fun q h => by cases h) dJ1_indexOfChar_4cfef_32 hlk
    | succ n ih =>
      intro k ls hk hl hz
      have hk7 : k < 7 := by omega
      refine lv_iload S.1 S.2.1 dJ1_indexOfChar_4cfef_7 (lv_at hl 0 rfl) ?_
      refine lv_iload_n S.1 S.2.1 dJ1_indexOfChar_4cfef_9 rfl (lv_at hl 3 rfl) ?_
      refine lv_icmp_ge (tgt := 31) S.1 S.2.1 dJ1_indexOfChar_4cfef_10 (by decide) (fun h => absurd h (nI_ge (a := k) (b := 7) hk7 (by decide))) (fun _ => ?_)
      refine lv_aload_n S.1 S.2.1 dJ1_indexOfChar_4cfef_13 rfl (lv_at hl 2 rfl) ?_
      refine lv_iload S.1 S.2.1 dJ1_indexOfChar_4cfef_14 (lv_at hl 0 rfl) ?_
      refine va_tb S.1 S.2.1 hT va_S.rf (vp_in_nI (N := 7) hk7 (by decide)) (v := .int (ix_by k)) (by rw [nI_clamp (by omega)]; rfl) dJ1_indexOfChar_4cfef_16 ?_
      refine lv_iload S.1 S.2.1 dJ1_indexOfChar_4cfef_17 (lv_at hl 1 rfl) ?_
      rw [ix_f] at hz
      refine lv_icmp_ne (tgt := 25) S.1 S.2.1 dJ1_indexOfChar_4cfef_19 (by decide) (fun h => ?_) (fun h => ?_)
      · rw [if_neg h] at hz
        refine lv_iinc (k := 0) (v := nI (k + 1)) S.1 S.2.1 dJ1_indexOfChar_4cfef_25 hl rfl (nI_succ k).symm (by decide) rfl (fun ls' hl' => ?_)
        refine lv_goto (tgt := 7) S.1 S.2.1 dJ1_indexOfChar_4cfef_28 (by decide) ?_
        exact ih (k + 1) ls' (by omega) hl' hz
      · rw [if_pos h] at hz
        refine lv_iload S.1 S.2.1 dJ1_indexOfChar_4cfef_22 (lv_at hl 0 rfl) ?_
        rw [hz]
        exact W.zret S.1 S.2.1 (ty := .int) hret rfl (fun t ht _ => ⟨rfl, ht⟩) (fun q h => by cases h) dJ1_indexOfChar_4cfef_24 hlk
  refine lv_iload_n S.1 S.2.1 dJ1_indexOfChar_4cfef_0 rfl (lv_at hl 1 rfl) ?_
  refine lv_i2b S.1 S.2.1 dJ1_indexOfChar_4cfef_1 hb ?_
  refine lv_istore S.1 S.2.1 dJ1_indexOfChar_4cfef_2 hl (by decide) rfl (fun ls1 hl1 => ?_)
  refine lv_iload_n S.1 S.2.1 dJ1_indexOfChar_4cfef_4 rfl (lv_at hl1 3 rfl) ?_
  refine lv_istore S.1 S.2.1 dJ1_indexOfChar_4cfef_5 hl1 (by decide) rfl (fun ls2 hl2 => ?_)
  exact loop 7 0 ls2 rfl (lv_sub hl2 [0, 1, 2, 5] rfl) hz
theorem ix_same : ∀ n : Nat, n < 256 → ix_f (nI n).toInt8.toInt32 0 7 = ti_ix (nI n) := by decide +kernel
theorem ix_eq {x : Int32} (h0 : 0 ≤ x) (h1 : ¬ 255 < x) : ix_f x.toInt8.toInt32 0 7 = ti_ix x := by
  obtain ⟨n, hn, rfl⟩ := nI_of (Int32.not_lt.mpr h0)
  refine ix_same n ?_
  rcases Nat.lt_or_ge n 256 with q | q
  · exact q
  · exact absurd (nI_lt (a := 255) (b := n) (by omega) hn) h1
theorem ix_out {x : Int32} (h1 : 255 < x) : ti_ix x = -1 := by
  have hne : ∀ y : Int32, y ≤ 255 → ¬ x = y := by
    intro y hy e
    subst e
    exact Int32.not_lt.mpr hy h1
  unfold ti_ix
  rw [if_neg (hne _ (by decide)), if_neg (hne _ (by decide)), if_neg (hne _ (by decide)), if_neg (hne _ (by decide)), if_neg (hne _ (by decide)), if_neg (hne _ (by decide)), if_neg (hne _ (by decide))]
theorem ix_lio {l : Launch} {a : Nat} {adV : Nat → Nat} {x : Int32} (h0 : 0 ≤ x) : Met l yJ1_indexOf_4cfef (.code yJ1_indexOf_4cfef cJ1_indexOf_4cfef 4 (some .int) :: ti_T) (ti_rm 2) (va_Pc [.ref (adV 0), .int x, .int 0, .int 7] (ix_B a adV)) (ix_Q (ti_ix x)) 0 0 nF := by
  refine ix_met (own := RJ1) (by decide) rfl (Nat.le_of_ble_eq_true rfl) ?_
  intro p e s m below meth c ls hl S hZ hret hlk
  have hl : lv_has ls 4 [(0, .ref (adV 0)), (1, .int x), (2, .int 0), (3, .int 7)] := hl
  have hT := (hZ.1.1 0 (by decide)).2.2.2
  have hts := S.2.2.2.2
  refine lv_iload_n S.1 S.2.1 dJ1_indexOf_4cfef_0 rfl (lv_at hl 1 rfl) ?_
  refine ix_callS (As := [.int x]) (n := 1) (rest := []) S hl.1 (ix_can h0) ix_w_can (by decide) (by decide) rfl hZ ⟨by decide, by decide⟩ (Nat.le_refl 0) (Nat.le_refl 0) (by decide) dJ1_indexOf_4cfef_1 ?_
  by_cases hx : 255 < x
  · rw [if_pos hx]
    refine lv_if_ne (tgt := 9) S.1 S.2.1 dJ1_indexOf_4cfef_4 (by decide) (fun h => absurd rfl h) (fun _ => ?_)
    refine lv_iconst S.1 S.2.1 dJ1_indexOf_4cfef_7 (v := ti_ix x) (by rw [ix_out hx]; rfl) ?_
    exact W.zret S.1 S.2.1 (ty := .int) hret rfl (fun t ht _ => ⟨rfl, ht⟩) (fun q h => by cases h) dJ1_indexOf_4cfef_8 hlk
  · rw [if_neg hx]
    refine lv_if_ne (tgt := 9) S.1 S.2.1 dJ1_indexOf_4cfef_4 (by decide) (fun _ => ?_) (fun h => absurd h (by decide))
    refine lv_iload_n S.1 S.2.1 dJ1_indexOf_4cfef_9 rfl (lv_at hl 2 rfl) ?_
    refine lv_iconst S.1 S.2.1 dJ1_indexOf_4cfef_10 (v := 0) (by decide) ?_
    refine va_mmax S.1 S.2.1 (S.2.2.1.trans hl.1.symm) S.2.2.2.1 (hts _ ix_w_max) (hts _ ti_w_max1) (hts _ ti_w_math) (hts _ ti_w_max2) (by decide) (by decide) (Nat.le_refl 0) (Nat.le_refl 0) dJ1_indexOf_4cfef_11 ?_
    rw [show (if (0 : Int32) < 0 then (0 : Int32) else 0) = 0 from by decide]
    refine lv_istore_n S.1 S.2.1 dJ1_indexOf_4cfef_14 (i := 2) rfl hl (by decide) rfl (fun ls1 hl1 => ?_)
    refine lv_iload_n S.1 S.2.1 dJ1_indexOf_4cfef_15 rfl (lv_at hl1 3 rfl) ?_
    refine lv_aload_n S.1 S.2.1 dJ1_indexOf_4cfef_16 rfl (lv_at hl1 1 rfl) ?_
    refine va_tlen S.1 S.2.1 hT va_S.rf (v := 7) (by decide) dJ1_indexOf_4cfef_17 ?_
    refine va_mmin S.1 S.2.1 (S.2.2.1.trans hl1.1.symm) S.2.2.2.1 (hts _ ix_w_min) (hts _ ti_w_min1) (hts _ ti_w_math) (hts _ ti_w_min2) (by decide) (by decide) (Nat.le_refl 0) (Nat.le_refl 0) dJ1_indexOf_4cfef_18 ?_
    rw [show (if (7 : Int32) < 7 then (7 : Int32) else 7) = 7 from by decide]
    refine lv_istore_n S.1 S.2.1 dJ1_indexOf_4cfef_21 (i := 3) rfl hl1 (by decide) rfl (fun ls2 hl2 => ?_)
    have hl2 : lv_has ls2 4 [(3, .int 7), (2, .int 0), (0, .ref (adV 0)), (1, .int x)] := hl2
    refine lv_iload_n S.1 S.2.1 dJ1_indexOf_4cfef_22 rfl (lv_at hl2 1 rfl) ?_
    refine lv_iload_n S.1 S.2.1 dJ1_indexOf_4cfef_23 rfl (lv_at hl2 0 rfl) ?_
    refine lv_icmp_lt (tgt := 29) S.1 S.2.1 dJ1_indexOf_4cfef_24 (by decide) (fun _ => ?_) (fun h => absurd (by decide) h)
    refine lv_aload_n S.1 S.2.1 dJ1_indexOf_4cfef_29 rfl (lv_at hl2 2 rfl) ?_
    refine lv_iload_n S.1 S.2.1 dJ1_indexOf_4cfef_30 rfl (lv_at hl2 3 rfl) ?_
    refine lv_iload_n S.1 S.2.1 dJ1_indexOf_4cfef_31 rfl (lv_at hl2 1 rfl) ?_
    refine lv_iload_n S.1 S.2.1 dJ1_indexOf_4cfef_32 rfl (lv_at hl2 0 rfl) ?_
    refine ix_callS (As := [.ref (adV 0), .int x, .int 0, .int 7]) (n := 4) (rest := []) S hl2.1 ix_ioc ix_w_ioc (by decide) (by decide) rfl hZ ⟨by decide, by decide⟩ (Nat.le_refl 0) (Nat.le_refl 0) (by decide) dJ1_indexOf_4cfef_33 ?_
    rw [ix_eq h0 hx]
    exact W.zret S.1 S.2.1 (ty := .int) hret rfl (fun t ht _ => ⟨rfl, ht⟩) (fun q h => by cases h) dJ1_indexOf_4cfef_36 hlk
theorem ix_two {l : Launch} {a : Nat} {adV : Nat → Nat} {x : Int32} (h0 : 0 ≤ x) : Met l yJ0_indexOf_7cf53 (.code yJ0_indexOf_7cf53 cJ0_indexOf_7cf53 3 (some .int) :: ti_T) (ti_rm 4) (va_Pc [.ref a, .int x, .int 0] (ix_B a adV)) (ix_Q (ti_ix x)) 0 0 nF := by
  refine ix_met (own := RJ0) (by decide) rfl (Nat.le_of_ble_eq_true rfl) ?_
  intro p e s m below meth c ls hl S hZ hret hlk
  have hl : lv_has ls 3 [(0, .ref a), (1, .int x), (2, .int 0)] := hl
  refine lv_aload_n S.1 S.2.1 dJ0_indexOf_7cf53_0 rfl (lv_at hl 0 rfl) ?_
  refine ix_callV (As := []) (n := 0) (rest := []) S hl.1 ix_lat ix_w_lat rfl (by decide) rfl hZ ⟨by decide, by decide⟩ (Nat.le_refl 0) (Nat.le_refl 0) (by decide) dJ0_indexOf_7cf53_1 ?_
  refine lv_if_eq (tgt := 23) S.1 S.2.1 dJ0_indexOf_7cf53_4 (by decide) (fun h => absurd h (by decide)) (fun _ => ?_)
  refine lv_aload_n S.1 S.2.1 dJ0_indexOf_7cf53_7 rfl (lv_at hl 0 rfl) ?_
  refine vk_getf S.1 S.2.1 (hZ.1.1 0 (by decide)).2.2.1 va_S.rf S.2.2.2.1 (S.2.2.2.2 _ ix_w_va) (fun _ h => h) dJ0_indexOf_7cf53_8 ?_
  refine lv_iload_n S.1 S.2.1 dJ0_indexOf_7cf53_11 rfl (lv_at hl 1 rfl) ?_
  refine lv_iload_n S.1 S.2.1 dJ0_indexOf_7cf53_12 rfl (lv_at hl 2 rfl) ?_
  refine lv_aload_n S.1 S.2.1 dJ0_indexOf_7cf53_13 rfl (lv_at hl 0 rfl) ?_
  refine ix_callV (As := []) (n := 0) (rest := [.int 0, .int x, .ref (adV 0)]) S hl.1 ix_len ix_w_len rfl (by decide) rfl hZ ⟨by decide, by decide⟩ (Nat.le_refl 0) (Nat.le_refl 0) (Nat.le_of_ble_eq_true rfl) dJ0_indexOf_7cf53_14 ?_
  refine ix_callS (As := [.ref (adV 0), .int x, .int 0, .int 7]) (n := 4) (rest := []) S hl.1 (ix_lio h0) ix_w_lio (by decide) (by decide) rfl hZ ⟨by decide, by decide⟩ (Nat.le_refl 0) (Nat.le_refl 0) (by decide) dJ0_indexOf_7cf53_17 ?_
  refine lv_goto (tgt := 36) S.1 S.2.1 dJ0_indexOf_7cf53_20 (by decide) ?_
  exact W.zret S.1 S.2.1 (ty := .int) hret rfl (fun t ht _ => ⟨rfl, ht⟩) (fun q h => by cases h) dJ0_indexOf_7cf53_36 hlk
theorem ix_one {l : Launch} {a : Nat} {adV : Nat → Nat} {x : Int32} (h0 : 0 ≤ x) : Met l yJ0_indexOf_0f7a4 (.code yJ0_indexOf_0f7a4 cJ0_indexOf_0f7a4 2 (some .int) :: ti_T) (ti_rm 5) (va_Pc [.ref a, .int x] (ix_B a adV)) (ix_Q (ti_ix x)) 0 0 nF := by
  refine ix_met (own := RJ0) (by decide) rfl (Nat.le_of_ble_eq_true rfl) ?_
  intro p e s m below meth c ls hl S hZ hret hlk
  have hl : lv_has ls 2 [(0, .ref a), (1, .int x)] := hl
  refine lv_aload_n S.1 S.2.1 dJ0_indexOf_0f7a4_0 rfl (lv_at hl 0 rfl) ?_
  refine lv_iload_n S.1 S.2.1 dJ0_indexOf_0f7a4_1 rfl (lv_at hl 1 rfl) ?_
  refine lv_iconst S.1 S.2.1 dJ0_indexOf_0f7a4_2 (v := 0) (by decide) ?_
  refine ix_callV (As := [.int x, .int 0]) (n := 2) (rest := []) S hl.1 (ix_two h0) ix_w_two rfl (by decide) rfl hZ ⟨by decide, by decide⟩ (Nat.le_refl 0) (Nat.le_refl 0) (by decide) dJ0_indexOf_0f7a4_3 ?_
  exact W.zret S.1 S.2.1 (ty := .int) hret rfl (fun t ht _ => ⟨rfl, ht⟩) (fun q h => by cases h) dJ0_indexOf_0f7a4_6 hlk
theorem ix_ok : ti_IXok := by
  intro p l e R s m args below meth c H locs cells slots Q cc pc ls rest ad adV A x hx hb hml hown hts hZ hfr hlo hce hsl hW8 h0 h1 hdg kk
  exact ix_callV (As := [.int x]) (n := 1) (rest := rest) ⟨hx, hb, hml, hown, hts⟩ rfl (ix_one h0) ix_w_one rfl (by decide) rfl (hZ.2.narrow (fun q h => False.elim h)) ⟨by omega, by omega⟩ hce hsl hW8 hdg kk
