/-! the small machine is sound: worlds out of its memory -/
def ti_tv (ad : Nat → Nat) : Value → Value
  | .ref p => .ref (ad p)
  | v => v
def ti_fm (ad : Nat → Nat) (M : TM) (p : Nat) : Nat → List (Nat × Nat) → List Value
  | _, [] => []
  | k, fd :: fds => ti_tv ad (ti_fv M p k fd) :: ti_fm ad M p (k + 1) fds
def ti_ce (ad : Nat → Nat) (ca : Nat → ClassId) (M : TM) (p : Nat) : TE → va_E
  | .inl x => .inr (x.1, ti_fm ad M p 0 x.2)
  | .inr (.inl x) => if x.1 = 4 then .inl (ca 4, x.2, .inr (.inl (M.2.1 p))) else .inl (ca x.1, x.2, .inl (M.1 p))
  | .inr (.inr qs) => .inl (ca 5, qs.length, .inr (.inr (.inr (.inr (fun i => (qs[i]?).map ad)))))
def ti_wsf (ad : Nat → Nat) (ca : Nat → ClassId) (M : TM) : Nat → List TE → va_W
  | _, [] => []
  | p, e :: es => (ad p, ti_ce ad ca M p e) :: ti_wsf ad ca M (p + 1) es
def ti_ws (lay : List TE) (ad : Nat → Nat) (ca : Nat → ClassId) (M : TM) : va_W := ti_wsf ad ca M 0 lay
def ti_tys (ca : Nat → ClassId) : List (ClassId × FieldType) := [(ca 0, .int), (ca 1, .byte), (ca 2, .char), (ca 3, .boolean), (ca 4, .long), (ca 5, .object RX7)]
theorem ti_fm_get (ad : Nat → Nat) (M : TM) (p : Nat) : ∀ (fds : List (Nat × Nat)) (k0 k : Nat), (ti_fm ad M p k0 fds)[k]? = (fds[k]?).map (fun fd => ti_tv ad (ti_fv M p (k0 + k) fd))
  | [], _, _ => by simp [ti_fm]
  | fd :: fds, k0, 0 => by simp [ti_fm]
  | fd :: fds, k0, k + 1 => by
    simp only [ti_fm, List.getElem?_cons_succ]
    rw [ti_fm_get ad M p fds (k0 + 1) k]
    have : k0 + 1 + k = k0 + (k + 1) := by omega
    rw [this]
theorem ti_fm_len (ad : Nat → Nat) (M : TM) (p : Nat) : ∀ (fds : List (Nat × Nat)) (k0 : Nat), (ti_fm ad M p k0 fds).length = fds.length
  | [], _ => rfl
  | _ :: fds, k0 => by simp [ti_fm, ti_fm_len ad M p fds (k0 + 1)]
theorem ti_wsf_get (ad : Nat → Nat) (ca : Nat → ClassId) (M : TM) : ∀ (es : List TE) (p0 i : Nat), (ti_wsf ad ca M p0 es)[i]? = (es[i]?).map (fun e => (ad (p0 + i), ti_ce ad ca M (p0 + i) e))
  | [], _, _ => by simp [ti_wsf]
  | e :: es, p0, 0 => by simp [ti_wsf]
  | e :: es, p0, i + 1 => by
    simp only [ti_wsf, List.getElem?_cons_succ]
    rw [ti_wsf_get ad ca M es (p0 + 1) i]
    have : p0 + 1 + i = p0 + (i + 1) := by omega
    rw [this]
theorem ti_ws_get {lay : List TE} {ad : Nat → Nat} {ca : Nat → ClassId} {M : TM} (i : Nat) : (ti_ws lay ad ca M)[i]? = (lay[i]?).map (fun e => (ad i, ti_ce ad ca M i e)) := by
  have h := ti_wsf_get ad ca M lay 0 i
  rw [Nat.zero_add] at h
  exact h
theorem ti_ws_at {lay : List TE} {ad : Nat → Nat} {ca : Nat → ClassId} {M : TM} {p : Nat} {e : TE} (h : lay[p]? = some e) : (ti_ws lay ad ca M)[p]? = some (ad p, ti_ce ad ca M p e) := by
  rw [ti_ws_get, h]; rfl
theorem ti_fm_congr {ad : Nat → Nat} {M M' : TM} {p : Nat} (h1 : M'.1 p = M.1 p) (h3 : M'.2.2 p = M.2.2 p) : ∀ (fds : List (Nat × Nat)) (k : Nat), ti_fm ad M' p k fds = ti_fm ad M p k fds
  | [], _ => rfl
  | fd :: fds, k => by
    simp only [ti_fm]
    rw [ti_fm_congr h1 h3 fds (k + 1)]
    have : ti_fv M' p k fd = ti_fv M p k fd := by unfold ti_fv; rw [h1, h3]
    rw [this]
theorem ti_ce_congr {ad : Nat → Nat} {ca : Nat → ClassId} {M M' : TM} {p : Nat} (h1 : M'.1 p = M.1 p) (h2 : M'.2.1 p = M.2.1 p) (h3 : M'.2.2 p = M.2.2 p) (e : TE) : ti_ce ad ca M' p e = ti_ce ad ca M p e := by
  rcases e with x | x | qs
  · simp only [ti_ce]; rw [ti_fm_congr h1 h3]
  · simp only [ti_ce]; rw [h1, h2]
  · rfl
theorem ti_ws_upd {lay : List TE} {ad : Nat → Nat} {ca : Nat → ClassId} {M M' : TM} {p : Nat} {e0 : TE} (hp : lay[p]? = some e0) (h : ∀ q, q ≠ p → M'.1 q = M.1 q ∧ M'.2.1 q = M.2.1 q ∧ M'.2.2 q = M.2.2 q) :
    ti_ws lay ad ca M' = (ti_ws lay ad ca M).set p (ad p, ti_ce ad ca M' p e0) := by
  apply List.ext_getElem?
  intro i
  rw [List.getElem?_set, ti_ws_get]
  by_cases hi : p = i
  · subst hi
    have hl : p < (ti_ws lay ad ca M).length := (List.getElem?_eq_some_iff.mp (ti_ws_at (ad := ad) (ca := ca) (M := M) hp)).1
    rw [if_pos rfl, if_pos hl, hp]; rfl
  · rw [if_neg hi, ti_ws_get]
    obtain ⟨a, b, c⟩ := h i (fun q => hi q.symm)
    cases lay[i]? with
    | none => rfl
    | some e => simp only [Option.map_some]; rw [ti_ce_congr a b c]
theorem ti_up_s {α : Type} {f : Nat → α} {k : Nat} {v : α} : va_up f k v k = v := by simp [va_up]
theorem ti_up_n {α : Type} {f : Nat → α} {k j : Nat} {v : α} (h : j ≠ k) : va_up f k v j = f j := by simp [va_up, h]
theorem ti_fm_wr {ad : Nat → Nat} {M : TM} {p k : Nat} {x : Int32} {z : Nat} {fds : List (Nat × Nat)} (hf : fds[k]? = some (0, z)) : ti_fm ad (ti_wr M.1 p k x, M.2.1, M.2.2) p 0 fds = (ti_fm ad M p 0 fds).set k (.int x) := by
  apply List.ext_getElem?
  intro i
  rw [List.getElem?_set, ti_fm_get, ti_fm_get, ti_fm_len, Nat.zero_add]
  by_cases hi : k = i
  · subst hi
    have hl : k < fds.length := (List.getElem?_eq_some_iff.mp hf).1
    rw [if_pos rfl, if_pos hl, hf]
    simp [ti_fv, ti_tv, ti_wr, ti_up_s, upd]
  · rw [if_neg hi]
    cases fds[i]? with
    | none => rfl
    | some fd =>
      have : ti_fv (ti_wr M.1 p k x, M.2.1, M.2.2) p i fd = ti_fv M p i fd := by
        have h9 : ti_wr M.1 p k x p i = M.1 p i := by
          have h8 : ¬ i = k := fun q => hi q.symm
          simp [ti_wr, ti_up_s, upd, h8]
        unfold ti_fv
        simp only [h9]
      simp [this]
theorem ti_fm_wf {ad : Nat → Nat} {M : TM} {p k : Nat} {v : Value} {z : Nat} {fds : List (Nat × Nat)} (hf : fds[k]? = some (2, z)) : ti_fm ad (M.1, M.2.1, ti_wf M.2.2 p k v) p 0 fds = (ti_fm ad M p 0 fds).set k (ti_tv ad v) := by
  apply List.ext_getElem?
  intro i
  rw [List.getElem?_set, ti_fm_get, ti_fm_get, ti_fm_len, Nat.zero_add]
  by_cases hi : k = i
  · subst hi
    have hl : k < fds.length := (List.getElem?_eq_some_iff.mp hf).1
    rw [if_pos rfl, if_pos hl, hf]
    simp [ti_fv, ti_wf, ti_up_s]
  · rw [if_neg hi]
    cases fds[i]? with
    | none => rfl
    | some fd =>
      have : ti_fv (M.1, M.2.1, ti_wf M.2.2 p k v) p i fd = ti_fv M p i fd := by
        have h9 : ti_wf M.2.2 p k v p i = M.2.2 p i := by
          simp only [ti_wf, ti_up_s]
          exact ti_up_n (fun q => hi q.symm)
        unfold ti_fv
        simp only [h9]
      simp [this]
/-! the locals -/
def ti_lr (ad : Nat → Nat) (ls : Array Slot) (L : TL) : Prop := ls.size = L.length ∧ lv_wf ls ∧ ∀ (i : Nat) (v : Value), L[i]? = some (some v) → ls[i]? = some (.val (ti_tv ad v))
def ti_lv (ad : Nat → Nat) (L : TL) : List (Nat × Value) := (List.range L.length).filterMap (fun i => match L[i]? with
  | some (some v) => some (i, ti_tv ad v)
  | _ => none)
theorem ti_lv_mem {ad : Nat → Nat} {L : TL} {i : Nat} {v : Value} (h : L[i]? = some (some v)) : (i, ti_tv ad v) ∈ ti_lv ad L := by
  refine List.mem_filterMap.mpr ⟨i, List.mem_range.mpr (List.getElem?_eq_some_iff.mp h).1, ?_⟩
  rw [h]
theorem ti_lv_of {ad : Nat → Nat} {L : TL} {q : Nat × Value} (h : q ∈ ti_lv ad L) : ∃ v, L[q.1]? = some (some v) ∧ q.2 = ti_tv ad v := by
  obtain ⟨i, -, hi⟩ := List.mem_filterMap.mp h
  split at hi
  · rename_i v hv
    cases hi
    exact ⟨v, hv, rfl⟩
  · cases hi
theorem ti_lr_has {ad : Nat → Nat} {ls : Array Slot} {L : TL} (h : ti_lr ad ls L) : lv_has ls L.length (ti_lv ad L) := by
  refine ⟨h.1, h.2.1, fun q hq => ?_⟩
  obtain ⟨v, h1, h2⟩ := ti_lv_of hq
  rw [h2]
  exact h.2.2 q.1 v h1
theorem ti_tv_cat (ad : Nat → Nat) (v : Value) : (ti_tv ad v).category = v.category := by cases v <;> rfl
theorem ti_cl_len (L : TL) (i : Nat) : (ti_cl L i).length = L.length := by unfold ti_cl; split <;> simp
theorem ti_cl_get {L : TL} {i j : Nat} {w : Value} (h : (ti_cl L i)[j]? = some (some w)) : L[j]? = some (some w) ∧ ¬ (j + 1 = i ∧ w.category = 2) := by
  unfold ti_cl at h
  split at h
  · rename_i hg
    rw [List.getElem?_set] at h
    by_cases hj : i - 1 = j
    · rw [if_pos hj] at h
      split at h <;> cases h
    · rw [if_neg hj] at h
      exact ⟨h, fun q => hj (by omega)⟩
  · rename_i hg
    refine ⟨h, fun q => hg ?_⟩
    obtain ⟨rfl, h2⟩ := q
    simp [ti_lg, h, h2]
theorem ti_st1_inv {L L' : TL} {i : Nat} {v : Value} (h : ti_st1 L i v = some L') : i < L.length ∧ L' = (ti_cl L i).set i (some v) := by
  unfold ti_st1 at h
  split at h
  · rename_i hi
    exact ⟨hi, (Option.some.inj h).symm⟩
  · cases h
theorem ti_st2_inv {L L' : TL} {i : Nat} {v : Value} (h : ti_st2 L i v = some L') : i + 1 < L.length ∧ L' = ((ti_cl L i).set i (some v)).set (i + 1) none := by
  unfold ti_st2 at h
  split at h
  · rename_i hi
    exact ⟨hi, (Option.some.inj h).symm⟩
  · cases h
theorem ti_lr_st1 {ad : Nat → Nat} {ls' : Array Slot} {L L' : TL} {i : Nat} {v : Value} (hL : ti_st1 L i v = some L') (h : lv_has ls' L.length ((i, ti_tv ad v) :: (ti_lv ad L).filter (fun q => !(q.1 == i) && !(q.1 + 1 == i && q.2.category == 2)))) : ti_lr ad ls' L' := by
  obtain ⟨hi, rfl⟩ := ti_st1_inv hL
  refine ⟨by rw [h.1, List.length_set, ti_cl_len], h.2.1, fun j w hj => ?_⟩
  rw [List.getElem?_set] at hj
  by_cases hji : i = j
  · subst hji
    rw [if_pos rfl, if_pos (by rw [ti_cl_len]; exact hi)] at hj
    cases hj
    exact h.2.2 (i, ti_tv ad v) List.mem_cons_self
  · rw [if_neg hji] at hj
    obtain ⟨h1, h2⟩ := ti_cl_get hj
    refine h.2.2 (j, ti_tv ad w) (List.mem_cons_of_mem _ (List.mem_filter.mpr ⟨ti_lv_mem h1, ?_⟩))
    have h3 : ¬ j = i := fun q => hji q.symm
    simp only [ti_tv_cat]
    by_cases a : j + 1 = i
    · have : ¬ w.category = 2 := fun q => h2 ⟨a, q⟩
      simp [h3, this]
    · simp [h3, a]
theorem ti_lr_st2 {ad : Nat → Nat} {ls' : Array Slot} {L L' : TL} {i : Nat} {v : Value} (hL : ti_st2 L i v = some L') (h : lv_has ls' L.length ((i, ti_tv ad v) :: (ti_lv ad L).filter (fun q => !(q.1 == i) && (!(q.1 == i + 1) && !(q.1 + 1 == i && q.2.category == 2))))) : ti_lr ad ls' L' := by
  obtain ⟨hi, rfl⟩ := ti_st2_inv hL
  refine ⟨by rw [h.1, List.length_set, List.length_set, ti_cl_len], h.2.1, fun j w hj => ?_⟩
  rw [List.getElem?_set] at hj
  by_cases hj1 : i + 1 = j
  · rw [if_pos hj1] at hj
    split at hj <;> cases hj
  · rw [if_neg hj1, List.getElem?_set] at hj
    by_cases hji : i = j
    · subst hji
      rw [if_pos rfl, if_pos (by rw [ti_cl_len]; omega)] at hj
      cases hj
      exact h.2.2 (i, ti_tv ad v) List.mem_cons_self
    · rw [if_neg hji] at hj
      obtain ⟨h1, h2⟩ := ti_cl_get hj
      refine h.2.2 (j, ti_tv ad w) (List.mem_cons_of_mem _ (List.mem_filter.mpr ⟨ti_lv_mem h1, ?_⟩))
      have h3 : ¬ j = i := fun q => hji q.symm
      have h4 : ¬ j = i + 1 := fun q => hj1 q.symm
      simp only [ti_tv_cat]
      by_cases a : j + 1 = i
      · have : ¬ w.category = 2 := fun q => h2 ⟨a, q⟩
        simp [h3, h4, this]
      · simp [h3, h4, a]
theorem ti_st1_len {L L' : TL} {i : Nat} {v : Value} (h : ti_st1 L i v = some L') : L'.length = L.length := by
  obtain ⟨-, rfl⟩ := ti_st1_inv h
  rw [List.length_set, ti_cl_len]
theorem ti_st2_len {L L' : TL} {i : Nat} {v : Value} (h : ti_st2 L i v = some L') : L'.length = L.length := by
  obtain ⟨-, rfl⟩ := ti_st2_inv h
  rw [List.length_set, List.length_set, ti_cl_len]
/-- the entry's locals -/
theorem ti_ent_sl (ad : Nat → Nat) : ∀ (vs : List Value), ti_oka vs = true → (lg_sl (vs.map (ti_tv ad))).length = (ti_ent vs).length ∧ ∀ (i : Nat) (v : Value), (ti_ent vs)[i]? = some (some v) → (lg_sl (vs.map (ti_tv ad)))[i]? = some (.val (ti_tv ad v))
  | [], _ => ⟨rfl, fun i v h => by simp [ti_ent] at h⟩
  | w :: vs, h => by
    cases w with
    | int x =>
      obtain ⟨a, b⟩ := ti_ent_sl ad vs (by simpa [ti_oka] using h)
      have e : lg_sl ((Value.int x :: vs).map (ti_tv ad)) = .val (.int x) :: lg_sl (vs.map (ti_tv ad)) := by simp [lg_sl, ti_tv, Value.category]
      rw [e]
      refine ⟨by simp [ti_ent, a], fun i v hi => ?_⟩
      cases i with
      | zero => simp [ti_ent] at hi; subst hi; rfl
      | succ i => simp only [ti_ent, List.getElem?_cons_succ] at hi ⊢; exact b i v hi
    | ref x =>
      obtain ⟨a, b⟩ := ti_ent_sl ad vs (by simpa [ti_oka] using h)
      have e : lg_sl ((Value.ref x :: vs).map (ti_tv ad)) = .val (.ref (ad x)) :: lg_sl (vs.map (ti_tv ad)) := by simp [lg_sl, ti_tv, Value.category]
      rw [e]
      refine ⟨by simp [ti_ent, a], fun i v hi => ?_⟩
      cases i with
      | zero => simp [ti_ent] at hi; subst hi; rfl
      | succ i => simp only [ti_ent, List.getElem?_cons_succ] at hi ⊢; exact b i v hi
    | long x =>
      obtain ⟨a, b⟩ := ti_ent_sl ad vs (by simpa [ti_oka] using h)
      have e : lg_sl ((Value.long x :: vs).map (ti_tv ad)) = .val (.long x) :: .second :: lg_sl (vs.map (ti_tv ad)) := by simp [lg_sl, ti_tv, Value.category]
      rw [e]
      refine ⟨by simp [ti_ent, a], fun i v hi => ?_⟩
      match i, hi with
      | 0, hi => simp [ti_ent] at hi; subst hi; rfl
      | 1, hi => simp [ti_ent] at hi
      | i + 2, hi => simp only [ti_ent, List.getElem?_cons_succ] at hi ⊢; exact b i v hi
    | float x => simp [ti_oka] at h
    | double x => simp [ti_oka] at h
    | null => simp [ti_oka] at h
    | retAddr x => simp [ti_oka] at h
theorem ti_entry_lr {ad : Nat → Nat} {vs : List Value} {n : Nat} (h : ti_oka vs = true) (hn : (ti_ent vs).length ≤ n) : ti_lr ad ((lg_sl (vs.map (ti_tv ad)) ++ List.replicate (n - (lg_sl (vs.map (ti_tv ad))).length) Slot.unset).toArray) (ti_entry n vs) := by
  obtain ⟨a, b⟩ := ti_ent_sl ad vs h
  have hl := lv_entry (vs.map (ti_tv ad)) (n := n) (by rw [a]; exact hn)
  refine ⟨by simp [ti_entry, a], hl.2.1, fun i v hi => ?_⟩
  simp only [ti_entry] at hi
  by_cases hlt : i < (ti_ent vs).length
  · rw [List.getElem?_append_left hlt] at hi
    have h2 := b i v hi
    simp only [List.getElem?_toArray]
    rw [List.getElem?_append_left (by rw [a]; exact hlt)]
    exact h2
  · rw [List.getElem?_append_right (by omega)] at hi
    rw [List.getElem?_replicate] at hi
    split at hi <;> cases hi
theorem ti_entry_len {vs : List Value} {n : Nat} (hn : (ti_ent vs).length ≤ n) : (ti_entry n vs).length = n := by
  simp only [ti_entry, List.length_append, List.length_replicate]
  omega
