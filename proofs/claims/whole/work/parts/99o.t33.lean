/-! rules: the value hangs on seven names; the rule that the model holds -/
def loc7 (f : PS → RR) : Prop := ∀ (s : PS) (e e2 : Nat → Int32), (∀ j, j < 7 → e j = e2 j) → (f s).2.2 e = (f s).2.2 e2
theorem loc_gJ {t : Nat → Nat} {f : PS → RR} {a : RR} {e e2 : Nat → Int32} (hf : loc7 f) (h : ∀ j, j < 7 → e j = e2 j) (ha : a.2.2 e = a.2.2 e2) : (gJ t f a).2.2 e = (gJ t f a).2.2 e2 := by
  show jn _ (a.2.2 e) ((f (true, a.1.2 + 1)).2.2 e) = jn _ (a.2.2 e2) ((f (true, a.1.2 + 1)).2.2 e2)
  rw [ha, hf _ e e2 h]
theorem loc_gL {t : Nat → Nat} {E k1 k2 : Nat} {f : PS → RR} {e e2 : Nat → Int32} (hf : loc7 f) (h : ∀ j, j < 7 → e j = e2 j) : ∀ (m : Nat) (a : RR), a.2.2 e = a.2.2 e2 → (gL t E k1 k2 f m a).2.2 e = (gL t E k1 k2 f m a).2.2 e2
  | 0, a, ha => ha
  | m + 1, a, ha => by
    rw [gL]
    split
    · exact loc_gL hf h m (gJ t f a) (loc_gJ hf h ha)
    · exact ha
theorem loc_gP {t : Nat → Nat} {E : Nat} {f : PS → RR} (hf : loc7 f) : loc7 (gP t E f) := fun s e e2 h => loc_gL hf h 40 (f s) (hf s e e2 h)
theorem loc_gU {t : Nat → Nat} {E : Nat} {f : PS → RR} (hf : loc7 f) : loc7 (gU t E f) := fun s e e2 h => loc_gL hf h 40 (f s) (hf s e e2 h)
theorem loc_gE {t : Nat → Nat} {E : Nat} {f : PS → RR} (hf : loc7 f) : loc7 (gE t E f) := by
  intro s e e2 h
  unfold gE
  split
  · exact loc_gJ hf h (hf s e e2 h)
  · exact hf s e e2 h
theorem loc_gN {t : Nat → Nat} {E : Nat} : loc7 (gN t E) := by
  intro s e e2 h
  rw [gN.eq_def]
  split
  · split
    · next j q => exact h j (lt7_s q).2
    · rfl
  · rfl
theorem loc_gB {t : Nat → Nat} {E : Nat} {f : Option (PS → RR)} (hf : ∀ g, f = some g → loc7 g) : loc7 (gB t E f) := by
  intro s e e2 h
  rw [gB.eq_def]
  split
  · split
    · rfl
    · cases f with
      | none => exact loc_gN s e e2 h
      | some g =>
        simp only
        split
        · exact hf g rfl _ e e2 h
        · exact loc_gN s e e2 h
  · rfl
theorem loc_gT {t : Nat → Nat} {E : Nat} {f : Option (PS → RR)} (hf : ∀ g, f = some g → loc7 g) : loc7 (gT t E f) := by
  intro s e e2 h
  show (if (sMin t E 40 s).1 % 2 = 1 then -((gB t E f (sMin t E 40 s).2).2.2 e) else (gB t E f (sMin t E 40 s).2).2.2 e) = (if (sMin t E 40 s).1 % 2 = 1 then -((gB t E f (sMin t E 40 s).2).2.2 e2) else (gB t E f (sMin t E 40 s).2).2.2 e2)
  rw [loc_gB hf _ e e2 h]
theorem loc_rE {t : Nat → Nat} {E : Nat} : ∀ r, loc7 (rE t E r)
  | 0 => loc_gE (loc_gU (loc_gP (loc_gT (fun g e => by cases e))))
  | r + 1 => loc_gE (loc_gU (loc_gP (loc_gT (fun g e => by cases e; exact loc_rE r))))
/-- the value of a rule's text -/
def rvT (t : Nat → Nat) (E : Nat) : RV := fun s a h x n c i => (rE t E 4 (true, 0)).2.2 (fun j => match j with
  | 0 => s
  | 1 => a
  | 2 => h
  | 3 => x
  | 4 => n
  | 5 => c
  | 6 => i
  | _ => 0)
theorem rvT_e {t : Nat → Nat} {E : Nat} {e : Nat → Int32} : rvT t E (e 0) (e 1) (e 2) (e 3) (e 4) (e 5) (e 6) = (rE t E 4 (true, 0)).2.2 e := by
  refine loc_rE 4 _ _ _ (fun j hj => ?_)
  rcases (by omega : j = 0 ∨ j = 1 ∨ j = 2 ∨ j = 3 ∨ j = 4 ∨ j = 5 ∨ j = 6) with rfl | rfl | rfl | rfl | rfl | rfl | rfl <;> rfl
theorem RU_t {d rp rs : Nat} {t : Nat → Nat} {g : Nat → Int32} (hrp : rp = 9 ∨ rp = 10) (h40 : rs ≤ 40) (hg : ∀ k, k < rs → g k = bI (t k) ∧ t k < 256) (hok : (rE t rs 4 (true, 0)).1 = (true, rs)) : RU d rp g rs (rvT t rs) := by
  refine ⟨hrp, h40, fun _ I J R h1 h2 h3 h4 h5 h6 h7 => ?_⟩
  have hR : mR rp I R t rs rs 40 (true, 0) := ⟨h2, Or.inr ⟨hrp, h40⟩, h3, h4, by decide, by omega, by rw [h1]; exact hg, Nat.zero_le _, by rw [if_pos rfl]; exact ⟨h6, h5⟩⟩
  refine (c_rE (rp := rp) (N := rs) (T := 40) (fl := 1) hR.t h40 4 (Nat.le_refl _) I J R (true, 0) (d + 90) (by simp only [gF]; omega) hR h7).imp ?_
  rintro _ _ ⟨x, I3, rfl, rfl, hx, hR3, hv⟩
  rw [hok] at hR3 hv
  refine ⟨?_, ?_⟩
  · rw [hv rfl, rvT_e (e := I 11)]; rfl
  · congr 1
    have h9 := hR3.2.2.2.2.2.2.2.2
    rw [if_pos rfl] at h9
    funext p k
    by_cases e : p = 0
    · subst e
      by_cases e2 : k = 16
      · subst e2; rw [ti_wr_at]; exact h9.2
      · rw [wr_ne e2]
        by_cases e3 : k = 17
        · subst e3; rw [h9.1, h6]
        · exact hx.2 k e2 e3
    · rw [ti_wr_n e]; exact congrFun (hx.1 p e) k
