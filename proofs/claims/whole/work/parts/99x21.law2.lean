/-! the law's frame: its heap, its locals, an argument, a pair of calls -/
/-- what the law's frame knows of the heap: the class's cells, the model's, the row of one long -/
def LI (D : va_G) (ca : Nat → ClassId) (adC adM : Nat → Nat) (ao : Nat) (MC MM : TM) (f : Nat → Int64) (H : Heap) : Prop := va_P D vwCl (ti_ws lyC adC ca MC) H ∧ va_P D vwCl (ti_ws lyM adM ca MM) H ∧ va_P D vwCl [(ao, .inl (ca 4, 1, .inr (.inl f)))] H
/-- their addresses -/
def LA (A : Nat → Prop) (adC adM : Nat → Nat) (ao : Nat) : Prop := (∀ i j, i < 73 → j < 73 → adC i = adC j → i = j) ∧ (∀ i j, i < 25 → j < 25 → adM i = adM j → i = j) ∧ (∀ i j, i < 73 → j < 25 → adC i ≠ adM j) ∧ (∀ i, i < 73 → adC i ≠ ao) ∧ (∀ i, i < 25 → adM i ≠ ao) ∧ (∀ i, i < 73 → A (adC i)) ∧ (∀ i, i < 25 → A (adM i)) ∧ A ao
theorem lyC_len : lyC.length = 73 := rfl
theorem lyM_len : lyM.length = 25 := rfl
theorem ti_ws_ad {lay : List TE} {ad : Nat → Nat} {ca : Nat → ClassId} {M : TM} {k : Nat} {q : Nat × va_E} (h : (ti_ws lay ad ca M)[k]? = some q) : k < lay.length ∧ q.1 = ad k := by
  rw [ti_ws_get] at h
  obtain ⟨e, h1, rfl⟩ := Option.map_eq_some_iff.mp h
  exact ⟨(List.getElem?_eq_some_iff.mp h1).1, rfl⟩
theorem ti_D {lay : List TE} {ad : Nat → Nat} {ca : Nat → ClassId} {M : TM} {A : Nat → Prop} (h1 : ∀ i j, i < lay.length → j < lay.length → ad i = ad j → i = j) (h2 : ∀ i, i < lay.length → A (ad i)) : va_D A (ti_ws lay ad ca M) := by
  refine ⟨fun i j p q hi hj hpq => ?_, fun k q hk => ?_⟩
  · obtain ⟨a1, a2⟩ := ti_ws_ad hi
    obtain ⟨b1, b2⟩ := ti_ws_ad hj
    exact h1 i j a1 b1 (by rw [← a2, ← b2]; exact hpq)
  · obtain ⟨a1, a2⟩ := ti_ws_ad hk
    rw [a2]; exact h2 k a1
theorem ti_nA {lay : List TE} {ad : Nat → Nat} {ca : Nat → ClassId} {M : TM} {q sz : Nat} (h1 : ∀ i, i < lay.length → ad i ≠ q) (h2 : q < sz) : ¬ va_A (ti_ws lay ad ca M) sz q := by
  rintro (⟨k, e, hk⟩ | h)
  · obtain ⟨a1, a2⟩ := ti_ws_ad hk
    exact h1 k a1 a2.symm
  · omega
theorem lw_kind {lay : List TE} : ∀ (f d : Nat) (h : TH) (pc : Nat) (L : TL) (st : List Value) (M : TM) (r : Option Value) (M1 : TM), ti_exec lay f d h pc L st M = some (r, M1) → (h.2.2 = some .int ∨ h.2.2 = some .boolean → ∃ x, r = some (.int x)) ∧ (h.2.2 = some .long → ∃ x, r = some (.long x)) := by
  intro f
  induction f with
  | zero =>
    intro d h pc L st M r M1 hx
    simp [ti_exec] at hx
  | succ f ih =>
    intro d h pc L st M r M1 hx
    obtain ⟨i, len, hdec, hlen, hcase⟩ := ti_exec_inv hx
    rcases hcase with ⟨vr, k, d0, hi, rfl, hcall⟩ | ⟨hr, rfl⟩ | ⟨pc', L', st', M', hs, hx2⟩
    · rcases hcall with ⟨b, st', M', hbr, hvr, h8, hbu, hx2⟩ | ⟨kd, h2, mL, n, y, r1, M2, hmr, hc, hx1, hx2⟩
      · exact ih _ _ _ _ _ _ _ _ hx2
      · exact ih _ _ _ _ _ _ _ _ hx2
    · unfold ti_ret at hr
      split at hr
      · split at hr
        · rename_i hc
          cases hr
          refine ⟨fun _ => ⟨_, rfl⟩, fun h9 => ?_⟩
          rcases hc with hc | ⟨hc, -⟩ <;> rw [hc] at h9 <;> cases h9
        · cases hr
      · split at hr
        · rename_i hc
          cases hr
          refine ⟨fun h9 => ?_, fun _ => ⟨_, rfl⟩⟩
          rcases h9 with h9 | h9 <;> rw [hc] at h9 <;> cases h9
        · cases hr
      · split at hr
        · rename_i hc
          cases hr
          refine ⟨fun h9 => ?_, fun h9 => ?_⟩
          · rcases h9 with h9 | h9 <;> rw [hc] at h9 <;> cases h9
          · rw [hc] at h9; cases h9
        · cases hr
      · cases hr
    · exact ih _ _ _ _ _ _ _ _ hx2
theorem lw_int {lay : List TE} {d mL : Nat} {h : TH} {vs : List Value} {M : TM} {v : Value} {Q : TM → Prop} (k : Cal lay d h mL vs M (fun r M => r = some v ∧ Q M)) (hk : h.2.2 = some .int ∨ h.2.2 = some .boolean) : ∃ x, v = .int x := by
  obtain ⟨f, r, M1, hx, rfl, -⟩ := k
  obtain ⟨x, hx⟩ := (lw_kind _ _ _ _ _ _ _ _ _ hx).1 hk
  exact ⟨x, Option.some.inj hx⟩
/-- what the law's frame keeps from its start to its end -/
def lw_K (p : Program) (s : State) (m : MethodId) (args : Array Value) (c : Code) (D : va_G) (ca : Nat → ClassId) (adC adM adV : Nat → Nat) (ao : Nat) (A : Nat → Prop) (b L : Nat) (xs : Nat → Int32) : Prop := lw_Cx p s m args c cL_law 8 RL D ca A ∧ ti_Z adC adV A s s.heap ∧ ti_Z adM adV A s s.heap ∧ LA A adC adM ao ∧ va_X b L xs s s.heap ∧ b < s.heap.size ∧ ¬ A b ∧ L ≤ 2560
abbrev lw_ls (b : Nat) (adC adM : Nat → Nat) (ao i : Nat) : List (Nat × Value) := [(0, .ref b), (1, .ref (adC 0)), (2, .ref (adM 0)), (3, .ref ao), (4, .int (nI i))]
section LWD
variable {p : Program} {l : Launch} {e : Env} {R : Room} {s : State} {m : MethodId} {args : Array Value} {below : List Frame} {meth : Method} {c : Code} {cc : ByteArray} {nL : Nat} {own : String} {H : Heap} {locs : List Loc} {cells slots : Nat} {Q : State → Prop} {h : TH} {D : va_G} {ca : Nat → ClassId} {adC adM adV : Nat → Nat} {ao : Nat} {A : Nat → Prop} {MC MM : TM} {fo : Nat → Int64} {ls : Array Slot} {pc idx mL n1 : Nat} {y : MethodName} {vs rest : List Value} {Q1 : Option Value → TM → Prop} {b L i : Nat} {xs : Nat → Int32}
theorem lw_cC (hIX : ti_IXok) (C : lw_Cx p s m args c cc nL own D ca A) (hZ : ti_Z adC adV A s s.heap) (hA : LA A adC adM ao) (hls : ls.size = nL) (w : lw_MOK own idx h mL n1 y) (h11 : h.1 = 11) (hcal : Cal lyC 120 h mL (.ref 0 :: vs) MC Q1) (hI : LI D ca adC adM ao MC MM fo H) (hS : va_S A s.heap H locs) (hoka : ti_oka (.ref 0 :: vs) = true) (hent : (ti_ent (.ref 0 :: vs)).length ≤ mL) (hlen : vs.length = n1) (hW8 : (rest.map fun v => v.category).sum ≤ 8) (hfr : 121 ≤ R.frames) (hlo : 12040 ≤ R.locals) (hce : cells ≤ R.cells) (hsl : slots ≤ R.slots) (hdec : decode cc pc = .ok (.invokevirtual idx, 3))
    (kk : ∀ (H' : Heap) (locs' : List Loc) (r : Option Value) (M1 : TM), Q1 r M1 → LI D ca adC adM ao M1 MM fo H' → va_S A s.heap H' locs' → W p l e R s m args below meth c H' locs' cells slots Q (F0 m (pc + 3) ls ((r.map (ti_tv adC)).toList ++ rest))) :
    W p l e R s m args below meth c H locs cells slots Q (F0 m pc ls ((vs.map (ti_tv adC)).reverse ++ .ref (adC 0) :: rest)) := by
  obtain ⟨hP1, hP2, hP3⟩ := hI
  obtain ⟨a1, a2, a3, a4, a5, a6, a7, a8⟩ := hA
  refine lw_call hIX C hZ hls w hcal (by rw [h11]; rfl) hP1 (ti_D (by rw [lyC_len]; exact a1) (by rw [lyC_len]; exact a6)) hS hoka hent hlen hW8 hfr hlo hce hsl hdec (fun H' locs' r M1 h1 hP hz hk hS' => kk H' locs' r M1 h1 ⟨hP, hP2.kept (fun k q hq => ?_), hP3.kept (fun k q hq => ?_)⟩ hS')
  · have hlt := (hP2 k q hq).lt
    obtain ⟨b1, b2⟩ := ti_ws_ad hq
    exact hk _ hlt (ti_nA (fun i hi => by rw [b2]; exact a3 i k hi b1) hlt)
  · have hlt := (hP3 k q hq).lt
    have hq0 : q.1 = ao := by
      match k, hq with
      | 0, hq => cases hq; rfl
    exact hk _ hlt (ti_nA (fun i hi => by rw [hq0]; exact a4 i hi) hlt)
theorem lw_cM (hIX : ti_IXok) (C : lw_Cx p s m args c cc nL own D ca A) (hZ : ti_Z adM adV A s s.heap) (hA : LA A adC adM ao) (hls : ls.size = nL) (w : lw_MOK own idx h mL n1 y) (h12 : h.1 = 12) (hcal : Cal lyM 120 h mL (.ref 0 :: vs) MM Q1) (hI : LI D ca adC adM ao MC MM fo H) (hS : va_S A s.heap H locs) (hoka : ti_oka (.ref 0 :: vs) = true) (hent : (ti_ent (.ref 0 :: vs)).length ≤ mL) (hlen : vs.length = n1) (hW8 : (rest.map fun v => v.category).sum ≤ 8) (hfr : 121 ≤ R.frames) (hlo : 12040 ≤ R.locals) (hce : cells ≤ R.cells) (hsl : slots ≤ R.slots) (hdec : decode cc pc = .ok (.invokevirtual idx, 3))
    (kk : ∀ (H' : Heap) (locs' : List Loc) (r : Option Value) (M1 : TM), Q1 r M1 → LI D ca adC adM ao MC M1 fo H' → va_S A s.heap H' locs' → W p l e R s m args below meth c H' locs' cells slots Q (F0 m (pc + 3) ls ((r.map (ti_tv adM)).toList ++ rest))) :
    W p l e R s m args below meth c H locs cells slots Q (F0 m pc ls ((vs.map (ti_tv adM)).reverse ++ .ref (adM 0) :: rest)) := by
  obtain ⟨hP1, hP2, hP3⟩ := hI
  obtain ⟨a1, a2, a3, a4, a5, a6, a7, a8⟩ := hA
  refine lw_call hIX C hZ hls w hcal (by rw [h12]; rfl) hP2 (ti_D (by rw [lyM_len]; exact a2) (by rw [lyM_len]; exact a7)) hS hoka hent hlen hW8 hfr hlo hce hsl hdec (fun H' locs' r M1 h1 hP hz hk hS' => kk H' locs' r M1 h1 ⟨hP1.kept (fun k q hq => ?_), hP, hP3.kept (fun k q hq => ?_)⟩ hS')
  · have hlt := (hP1 k q hq).lt
    obtain ⟨b1, b2⟩ := ti_ws_ad hq
    exact hk _ hlt (ti_nA (fun i hi => by rw [b2]; exact fun z => a3 k i b1 hi z.symm) hlt)
  · have hlt := (hP3 k q hq).lt
    have hq0 : q.1 = ao := by
      match k, hq with
      | 0, hq => cases hq; rfl
    exact hk _ hlt (ti_nA (fun i hi => by rw [hq0]; exact a5 i hi) hlt)
/-- an argument of the law's script onto the stack -/
theorem lw_arg (K : lw_K p s m args c D ca adC adM adV ao A b L xs) (hl : lv_has ls 8 (lw_ls b adC adM ao i)) (hS : va_S A s.heap H locs) (j : Nat) {n : Int} (hn : Int32.ofInt n = nI j) (hj : j < 5) (hi : i + 5 ≤ L) (h0 : decode cL_law pc = .ok (.aload_n 0, 1)) (h1 : decode cL_law (pc + 1) = .ok (.iload 4, 2)) (h2 : decode cL_law (pc + 3) = .ok (.iconst n, 1)) (h3 : decode cL_law (pc + 4) = .ok (.iadd, 1)) (h4 : decode cL_law (pc + 5) = .ok (.iaload, 1))
    (kk : W p l e R s m args below meth c H locs cells slots Q (F0 m (pc + 6) ls (.int (xs (i + j)) :: rest))) : W p l e R s m args below meth c H locs cells slots Q (F0 m pc ls rest) := by
  obtain ⟨⟨hx, hb, -⟩, -, -, -, hX, hbl, hbA, hL⟩ := K
  refine lv_aload_n hx hb h0 rfl (lv_at hl 0 rfl) ?_
  refine lv_iload hx hb h1 (lv_at hl 4 rfl) ?_
  refine lv_iconst hx hb h2 hn ?_
  refine lv_iadd hx hb h3 ?_
  have e1 : nI i + nI j = nI (i + j) := (Int32.ofNat_add i j).symm
  rw [e1]
  obtain ⟨g1, g2, g3⟩ := nI_cl (j := i + j) (n := L) (by omega) (by omega)
  refine va_sld hx hb hX hbl hbA hS (show vp_in (nI (i + j)) L from fun z => z.elim (fun z => absurd g1 (Int32.not_le.mpr z)) (fun z => by omega)) h4 ?_
  rw [g3]
  exact kk
theorem lw_eq (K : lw_K p s m args c D ca adC adM adV ao A b L xs) {off : Int} {v : Int32} (hd : decode cL_law pc = .ok (.if_icmp .eq off, 3)) (ht : (pc : Int) + off = ((1443 : Nat) : Int)) (kk : W p l e R s m args below meth c H locs cells slots Q (F0 m 1443 ls [])) : W p l e R s m args below meth c H locs cells slots Q (F0 m pc ls [.int v, .int v]) := lv_icmp_eq K.1.1 K.1.2.1 hd ht (fun _ => kk) (fun z => absurd rfl z)
end LWD
