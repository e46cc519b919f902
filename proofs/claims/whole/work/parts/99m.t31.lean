/-! rules: things by the model, whole -/
theorem gN_s {t : Nat → Nat} {E a j : Nat} (h : a < E) (hl : lt7 (t a) = some j) : gN t E (true, a) = ((true, a + 1), [nI (1000 + j)], fun e => e j) := by
  rw [gN.eq_def, if_pos h, hl]
theorem gN_x {t : Nat → Nat} {E a : Nat} (hl : (if a < E then lt7 (t a) else none) = none) : gN t E (true, a) = ((false, a), [], fun _ => 0) := by
  rw [gN.eq_def]
  by_cases h : a < E
  · rw [if_pos h] at hl; rw [if_pos h, hl]
  · rw [if_neg h]
theorem gB_n {t : Nat → Nat} {E a : Nat} {f : Option (PS → RR)} (hnd : ¬ (a < E ∧ 48 ≤ t a ∧ t a ≤ 57)) (h : f = none ∨ ¬ pk t E (true, a) = nI 40) : gB t E f (true, a) = gN t E (true, a) := by
  rw [gB.eq_def, if_pos rfl, if_neg hnd]
  cases f with
  | none => rfl
  | some f =>
    rcases h with q | q
    · cases q
    · simp only; rw [if_neg q]
def inOk (dep : Nat) (f : Option (PS → RR)) (rp : Nat) (t : Nat → Nat) (E N T : Nat) (fl : Int32) (G : Nat → Nat) : Prop := (∃ f2 F, f = some f2 ∧ dep < 4 ∧ mRd hX12_held 3 (nI (dep + 1)) rp t E N T fl F f2 ∧ ∀ p, F (p + 1) + 1 ≤ G p) ∨ (f = none ∧ dep = 4)
theorem c_thB {I : Nat → Nat → Int32} {J : Nat → Nat → Int64} {R : Nat → Nat → Value} {rp : Nat} {t : Nat → Nat} {D dep E N T : Nat} {fl : Int32} {s : PS} {f : Option (PS → RR)} {G : Nat → Nat} (hin : inOk dep f rp t E N T fl G) (hR : mR rp I R t E N T s) (hfl : I 0 22 = fl) (n45 : ¬ pk t E s = nI 45) (hG : 5 ≤ G s.2) (hD : G s.2 ≤ D) : Cal lyM D hX12_thing 4 [.ref 0, .int (nI dep)] (I, J, R) (thQ rp t E N T fl I J R (gB t E f s)) := by
  obtain ⟨d, rfl⟩ : ∃ d, D = d + 5 := ⟨D - 5, by omega⟩
  obtain ⟨b, a⟩ := s
  cases b
  · exact c_thA hR rfl
  · simp only at hG hD
    by_cases hnd : a < E ∧ 48 ≤ t a ∧ t a ≤ 57
    · exact c_thD hR hfl hnd.1 hnd.2.1 hnd.2.2
    · have hdep : dep ≤ 4 := by rcases hin with ⟨_, _, _, q, _⟩ | ⟨_, q⟩ <;> omega
      by_cases h40 : pk t E (true, a) = nI 40 ∧ dep < 4
      · rcases hin with ⟨f2, F, rfl, q, hC, hF⟩ | ⟨_, q⟩
        · have e := pkS_eq (by decide) hR.t h40.1
          exact c_thP hR hfl hC (by have := hF a; omega) q e.2.1 e.2.2
        · omega
      · have hor : f = none ∨ ¬ pk t E (true, a) = nI 40 := by
          rcases hin with ⟨f2, F, rfl, q, hC, hF⟩ | ⟨q, _⟩
          · exact Or.inr (fun z => h40 ⟨z, q⟩)
          · exact Or.inl q
        cases hl : (if a < E then lt7 (t a) else none) with
        | none => exact c_thX hR hfl n45 h40 hdep hnd hl ((gB_n hnd hor).trans (gN_x hl))
        | some j =>
          by_cases h : a < E
          · rw [if_pos h] at hl
            exact c_thN hR hfl h hl ((gB_n hnd hor).trans (gN_s h hl))
          · rw [if_neg h] at hl; cases hl
/-- a thing behind at most m signs '-' -/
def gM (t : Nat → Nat) (E : Nat) (f : Option (PS → RR)) (m : Nat) (s : PS) : RR := ((gB t E f (sMin t E m s).2).1, (gB t E f (sMin t E m s).2).2.1 ++ (if (sMin t E m s).1 % 2 = 1 then [2000] else []), fun e => if (sMin t E m s).1 % 2 = 1 then -((gB t E f (sMin t E m s).2).2.2 e) else (gB t E f (sMin t E m s).2).2.2 e)
theorem gM_n {t : Nat → Nat} {E m : Nat} {f : Option (PS → RR)} {s : PS} (h : ¬ pk t E s = nI 45) : (gM t E f m s).1 = (gB t E f s).1 ∧ (gM t E f m s).2.2 = (gB t E f s).2.2 := by
  have e : sMin t E m s = (0, s) := by
    cases m
    · rfl
    · rw [sMin, if_neg h]
  rw [gM, e]
  exact ⟨rfl, rfl⟩
theorem gM_y {t : Nat → Nat} {E m : Nat} {f : Option (PS → RR)} {s : PS} (h : pk t E s = nI 45) : (gM t E f (m + 1) s).1 = (gM t E f m (true, s.2 + 1)).1 ∧ ∀ e, (gM t E f (m + 1) s).2.2 e = -((gM t E f m (true, s.2 + 1)).2.2 e) := by
  have e : sMin t E (m + 1) s = ((sMin t E m (true, s.2 + 1)).1 + 1, (sMin t E m (true, s.2 + 1)).2) := by rw [sMin, if_pos h]
  unfold gM
  rw [e]
  refine ⟨rfl, fun e => ?_⟩
  simp only
  by_cases q : (sMin t E m (true, s.2 + 1)).1 % 2 = 1
  · rw [if_pos q, if_neg (by omega), Int32.neg_neg]
  · rw [if_neg q, if_pos (by omega)]
theorem thQ_n {rp : Nat} {t : Nat → Nat} {E N T m : Nat} {fl : Int32} {I : Nat → Nat → Int32} {J : Nat → Nat → Int64} {R : Nat → Nat → Value} {f : Option (PS → RR)} {s : PS} (h : ¬ pk t E s = nI 45) {r : Option Value} {M' : TM} (q : thQ rp t E N T fl I J R (gB t E f s) r M') : thQ rp t E N T fl I J R (gM t E f m s) r M' := by
  have e := gM_n (f := f) (m := m) h
  unfold thQ
  rw [e.1, e.2]
  exact q
theorem c_thM {J : Nat → Nat → Int64} {R : Nat → Nat → Value} {rp : Nat} {t : Nat → Nat} {dep E N T : Nat} {fl : Int32} {f : Option (PS → RR)} {G : Nat → Nat} (hin : inOk dep f rp t E N T fl G) (hG5 : ∀ p, 5 ≤ G p) (hGm : ∀ p, p < 40 → G (p + 1) + 1 ≤ G p) (hE40 : E ≤ 40) : ∀ (m : Nat) (s : PS) (I : Nat → Nat → Int32) (D : Nat), (s.1 = true → E ≤ s.2 + m) → G s.2 ≤ D → mR rp I R t E N T s → I 0 22 = fl → Cal lyM D hX12_thing 4 [.ref 0, .int (nI dep)] (I, J, R) (thQ rp t E N T fl I J R (gM t E f m s)) := by
  intro m
  induction m with
  | zero =>
    intro s I D hEm hD hR hfl
    have n45 : ¬ pk t E s = nI 45 := fun q => by have e := pkS_eq (by decide) hR.t q; have := hEm e.1; have := e.2.1; omega
    exact (c_thB hin hR hfl n45 (hG5 _) hD).imp (fun r M' q => thQ_n n45 q)
  | succ m ih =>
    intro s I D hEm hD hR hfl
    by_cases hp : pk t E s = nI 45
    · have hq := pkS_eq (by decide) hR.t hp
      have hy := gM_y (f := f) (m := m) hp
      have h5 := hG5 s.2
      obtain ⟨d, rfl⟩ : ∃ d, D = d + 5 := ⟨D - 5, by omega⟩
      show Ev lyM (d + 5) hX12_thing 0 [some (.ref 0), some (.int (nI dep)), none, none] [] (I, J, R) _
      refine ev_st dX12_thing_0 rfl rfl ?_
      refine ev_bipush (v := 45) dX12_thing_1 (by decide) ?_
      refine ev_call dX12_thing_3 rfl rfl mr_12_135 rfl rfl rfl (c_passes (c := 45) hR (by decide)) ?_
      rintro _ _ ⟨e1, I2, rfl, hx2, hR2⟩
      rw [if_pos hp] at e1
      rw [sPass, if_pos hp] at hR2
      subst e1
      show Ev lyM (d + 5) hX12_thing 6 [some (.ref 0), some (.int (nI dep)), none, none] [.int 1] (I2, J, R) _
      refine ev_if_eq (t := 16) dX12_thing_6 (by decide) (fun q => absurd q (by decide)) (fun _ => ?_)
      refine ev_st dX12_thing_9 rfl rfl ?_
      refine ev_st dX12_thing_10 rfl rfl ?_
      refine ev_call dX12_thing_11 rfl rfl mr_12_182 rfl rfl rfl (ih (true, s.2 + 1) I2 (d + 4) (fun _ => by simp only; have := hEm hq.1; omega) (by simp only; have := hGm s.2 (by have := hq.2.1; omega); omega) hR2 ((hx2.f 22 rfl).trans hfl)) ?_
      rintro _ _ ⟨x, I3, rfl, rfl, hx3, hR3, hv3⟩
      show Ev lyM (d + 5) hX12_thing 14 [some (.ref 0), some (.int (nI dep)), none, none] [.int x] (I3, J, R) _
      refine ev_st dX12_thing_14 rfl rfl ?_
      exact ev_iret dX12_thing_15 rfl (⟨_, _, rfl, rfl, hx2.tr hx3, by rw [hy.1]; exact hR3, by rw [hy.1, hy.2]; exact fun q => by rw [hv3 q, show I2 11 = I 11 from hx2.p 11 rfl]⟩)
    · exact (c_thB hin hR hfl hp (hG5 _) hD).imp (fun r M' q => thQ_n hp q)
theorem c_thing {rp : Nat} {t : Nat → Nat} {dep E N T : Nat} {fl : Int32} {f : Option (PS → RR)} {G : Nat → Nat} (hin : inOk dep f rp t E N T fl G) (hG5 : ∀ p, 5 ≤ G p) (hGm : ∀ p, p < 40 → G (p + 1) + 1 ≤ G p) (hE40 : E ≤ 40) : mRd hX12_thing 4 (nI dep) rp t E N T fl G (gT t E f) := by
  intro I J R s D hD hR hfl
  exact c_thM hin hG5 hGm hE40 40 s I D (fun _ => by omega) hD hR hfl
