/-! rules: what is held, by the model, at any depth -/
theorem num_adv {t : Nat → Nat} {E m lo hi : Nat} {s : PS} (h : (sNum t E m lo hi s).2.1 = true) : s.2 + 1 ≤ (sNum t E m lo hi s).2.2 := by
  have q := (sdig_le (t := t) (E := E) m 0 s.2).1
  unfold sNum at h ⊢
  split at h
  · next h1 =>
    rw [if_pos h1]
    split at h
    · cases h
    · next h2 =>
      rw [if_neg h2]
      split at h
      · cases h
      · next h3 => rw [if_neg h3]; simp only; omega
  · next h1 => exact absurd h h1
theorem min_adv {t : Nat → Nat} {E : Nat} (ht : ∀ k, k < E → t k < 256) : ∀ (m : Nat) (s : PS), (sMin t E m s).2.1 = true → s.1 = true ∧ s.2 ≤ (sMin t E m s).2.2
  | 0, s, h => ⟨h, Nat.le_refl _⟩
  | m + 1, s, h => by
    rw [sMin] at h ⊢
    split at h
    · next q =>
      rw [if_pos q]
      have ih := min_adv ht m (true, s.2 + 1) h
      exact ⟨(pkS_eq (by decide) ht q).1, by have := ih.2; simp only at this ⊢; omega⟩
    · next q => rw [if_neg q]; exact ⟨h, Nat.le_refl _⟩
theorem gN_adv {t : Nat → Nat} {E : Nat} {s : PS} (h : (gN t E s).1.1 = true) : s.2 + 1 ≤ (gN t E s).1.2 := by
  rw [gN.eq_def] at h ⊢
  split at h
  · next q =>
    rw [if_pos q]
    split at h
    · exact Nat.le_refl _
    · cases h
  · cases h
theorem need_adv {t : Nat → Nat} {E c : Nat} {s : PS} (h : (sNeed t E c s).1 = true) : s.2 + 1 ≤ (sNeed t E c s).2 := by
  unfold sNeed at h ⊢
  split at h
  · next q => rw [if_pos q]; exact Nat.le_refl _
  · cases h
theorem gB_adv {t : Nat → Nat} {E : Nat} {f : Option (PS → RR)} (hf : ∀ g, f = some g → adv g) (ht : ∀ k, k < E → t k < 256) {s : PS} (h : (gB t E f s).1.1 = true) : s.1 = true ∧ s.2 + 1 ≤ (gB t E f s).1.2 := by
  rw [gB.eq_def] at h ⊢
  by_cases h1 : s.1 = true
  · refine ⟨h1, ?_⟩
    rw [if_pos h1] at h ⊢
    by_cases h2 : s.2 < E ∧ 48 ≤ t s.2 ∧ t s.2 ≤ 57
    · rw [if_pos h2] at h ⊢; exact num_adv h
    · rw [if_neg h2] at h ⊢
      cases f with
      | none => exact gN_adv h
      | some g =>
        simp only at h ⊢
        by_cases h3 : pk t E s = nI 40
        · rw [if_pos h3] at h ⊢
          have q := need_adv h
          have q2 := (hf g rfl (true, s.2 + 1) (need_t (by decide) ht h)).2
          simp only at q q2 ⊢
          omega
        · rw [if_neg h3] at h ⊢; exact gN_adv h
  · rw [if_neg h1] at h; exact absurd h h1
theorem adv_gT {t : Nat → Nat} {E : Nat} {f : Option (PS → RR)} (hf : ∀ g, f = some g → adv g) (ht : ∀ k, k < E → t k < 256) : adv (gT t E f) := by
  intro s h
  have q := gB_adv hf ht (s := (sMin t E 40 s).2) h
  have q2 := min_adv ht 40 s q.1
  exact ⟨q2.1, Nat.le_trans (Nat.succ_le_succ q2.2) q.2⟩
theorem adv_rE {t : Nat → Nat} {E : Nat} (ht : ∀ k, k < E → t k < 256) : ∀ r, adv (rE t E r)
  | 0 => adv_gE (adv_gU (adv_gP (adv_gT (fun g e => by cases e) ht) ht) ht) ht
  | r + 1 => adv_gE (adv_gU (adv_gP (adv_gT (fun g e => by cases e; exact adv_rE ht r) ht) ht) ht) ht
def gF (r p : Nat) : Nat := (40 - p) + 4 * r + 5
theorem gF_a {r p q : Nat} (h : p ≤ q) : gF r q ≤ gF r p := by unfold gF; omega
theorem c_lev {rp : Nat} {t : Nat → Nat} {dep E N T r : Nat} {fl : Int32} {f : Option (PS → RR)} (hin : inOk dep f rp t E N T fl (gF r)) (hf : ∀ g, f = some g → adv g) (ht : ∀ k, k < E → t k < 256) (hE40 : E ≤ 40) : mRd hX12_held 3 (nI dep) rp t E N T fl (fun p => gF r p + 3) (gE t E (gU t E (gP t E (gT t E f)))) := by
  have h1 := c_thing hin (fun p => by unfold gF; omega) (fun p hp => by unfold gF; omega) hE40
  have a1 := adv_gT hf ht
  have h2 := c_prod h1 (fun h => gF_a h) a1 hE40
  have a2 := adv_gP a1 ht
  have h3 := c_sum h2 (fun h => Nat.succ_le_succ (gF_a h)) a2 hE40
  exact c_held h3 (fun h => Nat.succ_le_succ (Nat.succ_le_succ (gF_a h))) (fun p => by omega) (adv_gU a2 ht)
theorem c_rE {rp : Nat} {t : Nat → Nat} {E N T : Nat} {fl : Int32} (ht : ∀ k, k < E → t k < 256) (hE40 : E ≤ 40) : ∀ r, r ≤ 4 → mRd hX12_held 3 (nI (4 - r)) rp t E N T fl (fun p => gF r p + 3) (rE t E r)
  | 0, _ => c_lev (Or.inr ⟨rfl, rfl⟩) (fun g e => by cases e) ht hE40
  | r + 1, h => by
    have ih := c_rE (rp := rp) (N := N) (T := T) (fl := fl) ht hE40 r (by omega)
    refine c_lev (Or.inl ⟨rE t E r, _, rfl, by omega, (show 4 - (r + 1) + 1 = 4 - r by omega) ▸ ih, fun p => by simp only [gF]; omega⟩) (fun g e => by cases e; exact adv_rE ht r) ht hE40
