/-! the small machine's runs are the machine's -/
theorem ti_exec_inv {lay : List TE} {f d : Nat} {h : TH} {pc : Nat} {L : TL} {st : List Value} {M : TM} {r : Option Value} {M1 : TM} (hx : ti_exec lay (f + 1) d h pc L st M = some (r, M1)) :
    ∃ i len, decode h.2.1 pc = .ok (i, len) ∧ ti_lk i len = true ∧
      ((∃ vr k d', ti_inv i = some (vr, k) ∧ d = d' + 1 ∧
        ((∃ b st' M', ti_br h.1 k = some b ∧ vr = (b == 4) ∧ ((b == 4) = false ∨ 8 ≤ d' + 1) ∧ ti_bui lay b st M = some (st', M') ∧ ti_exec lay f (d' + 1) h (pc + 3) L st' M' = some (r, M1)) ∨
         (∃ kd h2 mL n y r1 M2, ti_mr h.1 k = some (kd, h2, mL, n, y) ∧ (vr = (kd == 0) ∧ n ≤ st.length ∧ ti_cat (st.drop n) ≤ 8 ∧ ti_oka (st.take n).reverse = true ∧ (ti_ent (st.take n).reverse).length ≤ mL ∧ ti_rcv lay kd h2.1 (st.take n).reverse = true) ∧
           ti_exec lay f d' h2 0 (ti_entry mL (st.take n).reverse) [] M = some (r1, M2) ∧ ti_exec lay f (d' + 1) h (pc + 3) L (r1.toList ++ st.drop n) M2 = some (r, M1)))) ∨
       (ti_ret h.2.2 i st = some r ∧ M1 = M) ∨
       (∃ pc' L' st' M', ti_step lay h.1 i pc L st M = some (pc', L', st', M') ∧ ti_exec lay f d h pc' L' st' M' = some (r, M1))) := by
  rw [ti_exec] at hx
  split at hx
  · cases hx
  · rename_i i len hdec
    refine ⟨i, len, hdec, ?_⟩
    split at hx
    · rename_i hlk
      refine ⟨hlk, ?_⟩
      split at hx
      · rename_i vr k hi
        refine Or.inl ⟨vr, k, ?_⟩
        split at hx
        · cases hx
        · rename_i d'
          refine ⟨d', hi, rfl, ?_⟩
          split at hx
          · rename_i b hb
            split at hx
            · rename_i hc
              split at hx
              · rename_i st' M' hm
                exact Or.inl ⟨b, st', M', hb, hc.1, hc.2, hm, hx⟩
              · cases hx
            · cases hx
          · split at hx
            · cases hx
            · rename_i kd h2 mL n y hm
              split at hx
              · rename_i hc
                split at hx
                · rename_i r1 M2 he
                  exact Or.inr ⟨kd, h2, mL, n, y, r1, M2, hm, hc, he, hx⟩
                · cases hx
              · cases hx
      · split at hx
        · rename_i r1 hr
          cases hx
          exact Or.inr (Or.inl ⟨hr, rfl⟩)
        · split at hx
          · rename_i pc' L' st' M' hs
            exact Or.inr (Or.inr ⟨pc', L', st', M', hs, hx⟩)
          · cases hx
    · cases hx
def ti_rm (d : Nat) : Room := { frames := d, cells := 0, slots := 0, locals := 100 * d }
def ti_Q (D : va_G) (lay : List TE) (ad : Nat → Nat) (ca : Nat → ClassId) (M1 : TM) (r : Option Value) (A : Nat → Prop) : Array Value → State → Outcome → State → Prop := fun _ st oc t => oc = .returned (r.map (ti_tv ad)) ∧ va_P D vwCl (ti_ws lay ad ca M1) t.heap ∧ va_D A (ti_ws lay ad ca M1) ∧ va_F A st t
def ti_B (D : va_G) (lay : List TE) (ad adV : Nat → Nat) (ca : Nat → ClassId) (M : TM) (sz : Nat) : State → Prop := fun U => U.heap.size = sz ∧ va_P D vwCl (ti_ws lay ad ca M) U.heap ∧ va_K D vwCl (ti_tys ca) U ∧ va_D (fun _ => True) (ti_ws lay ad ca M) ∧ (∀ w ∈ ti_N, va_Nw w U) ∧ ti_Z ad adV (va_A (ti_ws lay ad ca M) sz) U U.heap
/-- what is asked of String.indexOf on the constant of the seven names -/
def ti_IXok : Prop := ∀ (p : Program) (l : Launch) (e : Env) (R : Room) (s : State) (m : MethodId) (args : Array Value) (below : List Frame) (meth : Method) (c : Code) (H : Heap) (locs : List Loc) (cells slots : Nat) (Q : State → Prop) (cc : ByteArray) (pc : Nat) (ls : Array Slot) (rest : List Value) (ad adV : Nat → Nat) (A : Nat → Prop) (x : Int32),
  p.tables.exec = Jvm.exec → c.code = cc → c.maxLocals = ls.size → s.vm.findClass RX5 = some m.cls → (∀ w ∈ ti_T, w.before args s = true) → ti_Z ad adV A s H → 8 ≤ R.frames → 800 ≤ R.locals → cells ≤ R.cells → slots ≤ R.slots → (rest.map fun v => v.category).sum ≤ 8 → 0 ≤ x → x ≤ 65535 → decode cc pc = .ok (.invokevirtual 86, 3) →
  W p l e R s m args below meth c H locs cells slots Q (F0 m (pc + 3) ls (.int (ti_ix x) :: rest)) → W p l e R s m args below meth c H locs cells slots Q (F0 m pc ls (.int x :: .ref (ad 900) :: rest))
def ti_S (f : Nat) : Prop := ∀ (p : Program) (l : Launch) (e : Env) (s : State) (m : MethodId) (args : Array Value) (below : List Frame) (meth : Method) (c : Code) (H : Heap) (locs : List Loc) (d : Nat) (h : TH) (pc : Nat) (L : TL) (st : List Value) (M : TM) (r : Option Value) (M1 : TM) (D : va_G) (ca : Nat → ClassId) (ad adV : Nat → Nat) (A : Nat → Prop) (lay : List TE) (ls : Array Slot),
  ti_exec lay f d h pc L st M = some (r, M1) → ti_C p s m args meth c h L.length D ca ad adV A → va_P D vwCl (ti_ws lay ad ca M) H → va_D A (ti_ws lay ad ca M) → va_S A s.heap H locs → ti_lr ad ls L →
  W p l e (ti_rm d) s m args below meth c H locs 0 0 (MQ below (ti_Q D lay ad ca M1 r A) args s 0 0 A) (F0 m pc ls (st.map (ti_tv ad)))
theorem ti_Nw_same {u U : State} (hv : u.vm = U.vm) (h : ∀ w ∈ ti_N, va_Nw w u) : ∀ w ∈ ti_N, va_Nw w U := fun w hw => by
  rcases ti_Nnest hw with ⟨_, _, _, _, _, _, rfl⟩ | ⟨_, _, _, _, rfl⟩
  · exact va_Nw.same rfl hv (h _ hw)
  · exact va_Nw.same rfl hv (h _ hw)
theorem ti_Nw_warm {u U : State} (hW : u.WarmedH U.vm) (h : ∀ w ∈ ti_N, va_Nw w u) : ∀ w ∈ ti_N, va_Nw w U := fun w hw => by
  rcases ti_Nnest hw with ⟨_, _, _, _, _, _, rfl⟩ | ⟨_, _, _, _, rfl⟩
  · exact va_Nw.warmF hW (h _ hw)
  · exact va_Nw.warmM hW (h _ hw)
theorem ti_blind {D : va_G} {lay : List TE} {ad adV : Nat → Nat} {ca : Nat → ClassId} {M : TM} {sz : Nat} {av : List Value} : FrameBlind (va_Pc av (ti_B D lay ad adV ca M sz)) := by
  intro a U g mk q
  obtain ⟨q0, q1, q2, q3, q4, q5, q6, q7⟩ := q
  exact ⟨q0, q1, q2, va_K.moved (u := U) (U := U.calling g mk a) (Vm.Alike.refl U.vm) q3, q4, ti_Nw_same (u := U) (U := U.calling g mk a) rfl q5, vk_R.same (u := U) (U := U.calling g mk a) rfl q6, ti_Z2.moved (u := U) (U := U.calling g mk a) (Vm.Alike.refl U.vm) q7⟩
theorem ti_met {f : Nat} (hSf : ti_S f) {l : Launch} {lay : List TE} {d : Nat} {h2 : TH} {vs : List Value} {M : TM} {r : Option Value} {M1 : TM} {mL : Nat} {y : MethodName} {D : va_G} {ca : Nat → ClassId} {ad adV : Nat → Nat} {sz : Nat} (hex : ti_exec lay f d h2 0 (ti_entry mL vs) [] M = some (r, M1)) (hoka : ti_oka vs = true) (hlen : (ti_ent vs).length ≤ mL) (hpl : plainName y.cls = true) (hy : y.cls = ti_ow h2.1) :
    Met l y (.code y h2.2.1 mL h2.2.2 :: ti_T) (ti_rm d) (va_Pc (vs.map (ti_tv ad)) (ti_B D lay ad adV ca M sz)) (ti_Q D lay ad ca M1 r (va_A (ti_ws lay ad ca M) sz)) 0 0 (va_A (ti_ws lay ad ca M) sz) := by
  refine Met.ofW (cc := h2.2.1) (maxL := mL) (ret := h2.2.2) hpl rfl ?_
  intro p e s m args below meth c s₁ B hml hv
  obtain ⟨rfl, hsz, hP, hK, hD0, hN, hZ⟩ := hv
  subst hsz
  have hts := atoms_spec (ws := .code y h2.2.1 mL h2.2.2 :: ti_T) B.pre
  have hown : s.vm.findClass y.cls = some m.cls := findClass_of_methodNamed B.named
  rw [hy] at hown
  rw [lg_entry_eq]
  exact hSf p l e s m _ below meth c s.heap [] d h2 0 _ [] M r M1 D ca ad adV _ lay _ hex ⟨B.exec, B.bytes, hml.trans (ti_entry_len hlen).symm, hown, fun w h => hts w (List.mem_cons_of_mem _ h), B.returns, B.notSynchronized, hK, hN, hZ, fun q h => Or.inr h⟩ hP hD0.self va_S.rf (ti_entry_lr hoka hlen)
theorem ti_good {y : MethodName} {cc : ByteArray} {mL : Nat} {rt : Option FieldType} (hc : Cond.code y cc mL rt ∈ ti_T) : GoodIn ti_T (.code y cc mL rt :: ti_T) := fun w hw => by
  rcases List.mem_cons.mp hw with rfl | hw
  · exact ⟨hc, ti_Tgood hc⟩
  · exact ⟨hw, ti_Tgood hw⟩
theorem ti_w_max1 : Cond.static Lib.Math.max.name ∈ ti_T := by decide +kernel
theorem ti_w_max2 : Cond.code Lib.Math.max.name Lib.Math.max.code 2 (some .int) ∈ ti_T := by decide +kernel
theorem ti_w_min1 : Cond.static Lib.Math.min.name ∈ ti_T := by decide +kernel
theorem ti_w_min2 : Cond.code Lib.Math.min.name Lib.Math.min.code 2 (some .int) ∈ ti_T := by decide +kernel
theorem ti_w_abs1 : Cond.static Lib.Math.abs.name ∈ ti_T := by decide +kernel
theorem ti_w_abs2 : Cond.code Lib.Math.abs.name Lib.Math.abs.code 1 (some .int) ∈ ti_T := by decide +kernel
theorem ti_w_math : Cond.initialized "java/lang/Math" ∈ ti_T := by decide +kernel
theorem ti_w_cp1 : Cond.static arraycopyName ∈ ti_T := by decide +kernel
theorem ti_w_cp2 : Cond.native arraycopyName ∈ ti_T := by decide +kernel
theorem ti_w_sys : Cond.initialized "java/lang/System" ∈ ti_T := by decide +kernel
theorem ti_br4 {o k : Nat} (h : ti_br o k = some 4) : o = 5 ∧ k = 86 := by
  have h1 := (ti_bok_of h).2.2.2.2 rfl
  obtain ⟨rfl, -⟩ := h1
  refine ⟨rfl, ?_⟩
  obtain ⟨x, hx, hx2⟩ := Option.map_eq_some_iff.mp h
  have h2 := List.find?_some hx
  have h3 := List.mem_of_find?_eq_some hx
  have h4 : x ∈ ([(86, 4)] : List (Nat × Nat)) := h3
  have h5 : x = (86, 4) := by simpa using h4
  subst h5
  exact (by simpa using h2 : 86 = k).symm
