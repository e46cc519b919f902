/-! the first memories: what the constructors leave -/
def f5 : Nat → Int32 := fun k => if k = 2 then 1 else 0
def fS0 : Nat → Int32 := fun k => if k = 2 then 60 else 0
def IC0 : Nat → Nat → Int32 := fun p => if p = 5 then f5 else if 39 ≤ p ∧ p % 2 = 1 then fS0 else fun _ => 0
def JC0 : Nat → Nat → Int64 := fun _ _ => 0
def RC0 : Nat → Nat → Value := fun _ k => if k = 11 then .ref 31 else if k = 12 then .ref 35 else .null
def KM0 : Nat → Nat → Int32 := fun p => if p = 0 then (fun k => if k = 1 then 1 else 0) else if p = 1 then upd (fun _ => 0) 25 60 else fun _ => 0
def SM0 : Nat → Nat → Value := fun _ k => if k = 19 then .ref 9 else if k = 20 then .ref 10 else .null
def adC0 (sa h0 : Nat) (g : Nat → Nat) : Nat → Nat := fun k => if k = 900 then sa else [h0, g 0, g 1, g 2, g 3, g 4, g 5, g 6, g 7, g 8, g 9, g 10, g 11, g 12, g 13, g 16, g 17, g 18, g 49, g 52, g 53, g 54, g 55, g 56, g 57, g 58, g 59, g 60, g 61, g 62, g 63, g 64, g 65, g 66, g 67, g 68, g 69, g 70, g 71, g 14, g 15, g 50, g 51, g 19, g 20, g 21, g 22, g 23, g 24, g 25, g 26, g 27, g 28, g 29, g 30, g 31, g 32, g 33, g 34, g 35, g 36, g 37, g 38, g 39, g 40, g 41, g 42, g 43, g 44, g 45, g 46, g 47, g 48].getD k 0
def adM0 (sa h0 : Nat) (g : Nat → Nat) : Nat → Nat := fun k => if k = 900 then sa else [h0, g 0, g 1, g 2, g 3, g 4, g 5, g 6, g 7, g 8, g 9, g 10, g 11, g 12, g 13, g 14, g 15, g 16, g 17, g 18, g 19, g 20, g 21, g 22, g 23].getD k 0
theorem nw_12_ws (ca : Nat → ClassId) (sa h0 : Nat) (g : Nat → Nat) : nw_12 ca h0 g = ti_ws lyM (adM0 sa h0 g) ca (KM0, JC0, SM0) := rfl
theorem nw_q0 (sa h0 : Nat) (g : Nat → Nat) : (fun i => [(g 21), (g 23), (g 25), (g 27), (g 29), (g 31), (g 33), (g 35), (g 37), (g 39), (g 41), (g 43)][i]?) = fun i : Nat => ([45, 47, 49, 51, 53, 55, 57, 59, 61, 63, 65, 67][i]?).map (adC0 sa h0 g) := by
  funext i
  rw [← List.getElem?_map]
  rfl
theorem nw_q1 (sa h0 : Nat) (g : Nat → Nat) : (fun i => [(g 45), (g 47)][i]?) = fun i : Nat => ([69, 71][i]?).map (adC0 sa h0 g) := by
  funext i
  rw [← List.getElem?_map]
  rfl
theorem nw_11_P {D : va_G} {ca : Nat → ClassId} {h0 : Nat} {g : Nat → Nat} {H : Heap} (sa : Nat) (h : va_P D vwCl (nw_11 ca h0 g) H) : va_P D vwCl (ti_ws lyC (adC0 sa h0 g) ca (IC0, JC0, RC0)) H := by
  unfold nw_11 at h
  rw [nw_q0 sa h0 g, nw_q1 sa h0 g] at h
  exact h.sub [0, 1, 2, 3, 4, 5, 6, 7, 8, 9, 10, 11, 12, 13, 14, 17, 18, 19, 50, 53, 54, 55, 56, 57, 58, 59, 60, 61, 62, 63, 64, 65, 66, 67, 68, 69, 70, 71, 72, 15, 16, 51, 52, 20, 21, 22, 23, 24, 25, 26, 27, 28, 29, 30, 31, 32, 33, 34, 35, 36, 37, 38, 39, 40, 41, 42, 43, 44, 45, 46, 47, 48, 49] rfl
theorem nw_11_D {A : Nat → Prop} {ca : Nat → ClassId} {h0 : Nat} {g : Nat → Nat} (sa : Nat) (h : va_D A (nw_11 ca h0 g)) : va_D A (ti_ws lyC (adC0 sa h0 g) ca (IC0, JC0, RC0)) := by
  unfold nw_11 at h
  rw [nw_q0 sa h0 g, nw_q1 sa h0 g] at h
  exact h.sub [0, 1, 2, 3, 4, 5, 6, 7, 8, 9, 10, 11, 12, 13, 14, 17, 18, 19, 50, 53, 54, 55, 56, 57, 58, 59, 60, 61, 62, 63, 64, 65, 66, 67, 68, 69, 70, 71, 72, 15, 16, 51, 52, 20, 21, 22, 23, 24, 25, 26, 27, 28, 29, 30, 31, 32, 33, 34, 35, 36, 37, 38, 39, 40, 41, 42, 43, 44, 45, 46, 47, 48, 49] (by decide) rfl
theorem REL_0 : REL 0 (IC0, JC0, RC0) (KM0, JC0, SM0) := by
  refine ⟨0, 1, 0, 0, 31, 35, 0, 0, 0, 0, 0, 0, 0, 0, 0, fun _ _ _ _ _ _ _ => 0, fun _ => 0, ?_, ?_, ?_, ?_, ?_, ?_, ?_, ?_, ?_, ?_⟩
  · refine ⟨⟨rfl, by decide, rfl, by decide, by decide, rfl, by decide, fun k hk => rfl, fun b hb => absurd hb (Nat.not_lt_zero _), fun b hb => absurd hb (Nat.not_lt_zero _), ?_, fun b hb => absurd hb (Nat.not_lt_zero _)⟩, rfl, rfl, rfl, fun b hb => absurd hb (Nat.not_lt_zero _), 0, by decide, rfl⟩
    unfold sp9
    intro k hk
    exact ⟨0, by decide, rfl⟩
  · refine ⟨⟨rfl, rfl, rfl, rfl, rfl, rfl, rfl, fun b hb => absurd hb (Nat.not_lt_zero _), fun b _ hb => rfl⟩, ⟨rfl, by decide, fun b hb => absurd hb (Nat.not_lt_zero _), fun b hb => absurd hb (Nat.not_lt_zero _), fun b hb => absurd hb (Nat.not_lt_zero _), ⟨60, by decide, rfl⟩, ⟨0, by decide, rfl⟩, Or.inl rfl, by decide⟩⟩
  · exact ⟨rfl, rfl, Or.inl ⟨rfl, rfl⟩, rfl, fun d => ⟨by decide, fun h => absurd h (Nat.lt_irrefl 0)⟩, rfl, rfl, fun d => ⟨Or.inl rfl, by decide, fun h => absurd h (Nat.lt_irrefl 0)⟩, Iff.rfl⟩
  · exact ⟨rfl, by decide, rfl, rfl, by decide, fun i hi => absurd hi (Nat.not_lt_zero _)⟩
  · intro i hi
    refine Or.inl ⟨?_, fun h => h.1 rfl⟩
    rcases (by omega : i = 0 ∨ i = 1) with q | q <;> subst q <;> decide
  · exact ⟨rfl, by decide, fun i hi => ⟨0, rfl, by decide⟩⟩
  · exact rText.e rfl rfl
  · exact ⟨rfl, by decide, rfl, fun j hj => absurd hj (Nat.not_lt_zero _)⟩
  · exact ⟨rfl, by decide, rfl, fun j hj => absurd hj (Nat.not_lt_zero _)⟩
  · exact ⟨rfl, by decide, rfl, fun j hj => absurd hj (Nat.not_lt_zero _)⟩
