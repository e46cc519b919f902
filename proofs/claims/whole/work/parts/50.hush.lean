/-! the search for what must be said, as lists -/
def m_glL (ok : Nat → Bool) (rec : Nat → Option (List (Nat × Nat))) : Nat → Nat → Option (List (Nat × Nat))
  | 0, _ => none
  | k + 1, s => if ok s then (match rec s with
    | some L => some L
    | none => m_glL ok rec k (s + 1)) else m_glL ok rec k (s + 1)
def m_gl (sy rm : Nat → Int32) (w : Int32) (a : Nat) (spk : Int32) (ns : Nat) : Nat → Nat → Int32 → Int32 → Nat → Option (List (Nat × Nat))
  | 0, _, _, _, lf => if lf = 0 then some [] else none
  | k + 1, j, sd, ld, lf => match (if 0 < lf ∧ (a < j ∨ spk = 0) then m_glL (m_gok sy rm w j sd ld) (fun s => (m_gl sy rm w a spk ns k (j + 1) (sd ||| ((1 : Int32) <<< (nI s &&& 31))) (m_lb sy ld s) (lf - 1)).map ((j, s) :: ·)) ns 0 else none) with
    | some L => some L
    | none => if rm j < ld then none else m_gl sy rm w a spk ns k (j + 1) sd ld lf
/-- what a line holds of a list, from place t on -/
def lnL (f : Nat → Int32) (t : Nat) (L : List (Nat × Nat)) : Prop := ∀ i x, L[i]? = some x → f (2 * (t + i)) = nI x.1 ∧ f (2 * (t + i) + 1) = nI x.2
/-- how a search on a line and one by lists agree -/
def aG (p : Bool × (Nat → Int32)) (q : Option (List (Nat × Nat))) (t : Nat) (ln : Nat → Int32) : Prop := p.1 = q.isSome ∧ (∀ i, i < 2 * t → p.2 i = ln i) ∧ ∀ L, q = some L → lnL p.2 t L
theorem lnL_cons {f : Nat → Int32} {t j s : Nat} {L : List (Nat × Nat)} (h : lnL f (t + 1) L) (h1 : f (2 * t) = nI j) (h2 : f (2 * t + 1) = nI s) : lnL f t ((j, s) :: L) := by
  intro i x hx
  cases i with
  | zero => cases hx; exact ⟨h1, h2⟩
  | succ i =>
    have := h i x hx
    rw [show t + (i + 1) = t + 1 + i by omega]
    exact this
theorem glL_ag {ok : Nat → Bool} {rec : Nat → (Nat → Int32) → Bool × (Nat → Int32)} {rec2 : Nat → Option (List (Nat × Nat))} {t : Nat} (h : ∀ s ln, aG (rec s ln) (rec2 s) t ln) : ∀ k s ln, aG (m_ghL ok rec k s ln) (m_glL ok rec2 k s) t ln
  | 0, s, ln => ⟨rfl, fun _ _ => rfl, fun L hL => by cases hL⟩
  | k + 1, s, ln => by
    simp only [m_ghL, m_glL]
    by_cases ho : ok s = true
    · rw [if_pos ho, if_pos ho]
      obtain ⟨h1, h2, h3⟩ := h s ln
      cases hr : rec2 s with
      | some L =>
        rw [hr] at h1
        rw [if_pos (show _ = true from h1)]
        exact ⟨rfl, h2, fun L' hL' => by cases hL'; exact h3 L hr⟩
      | none =>
        rw [hr] at h1
        rw [if_neg (by rw [h1]; decide)]
        obtain ⟨g1, g2, g3⟩ := glL_ag h k (s + 1) (rec s ln).2
        exact ⟨g1, fun i hi => (g2 i hi).trans (h2 i hi), g3⟩
    · rw [if_neg ho, if_neg ho]
      exact glL_ag h k (s + 1) ln
theorem gh_ag {sy rm : Nat → Int32} {w : Int32} {a : Nat} {spk : Int32} {ns : Nat} : ∀ k j sd ld to lf ln, aG (m_gh sy rm w a spk ns k j sd ld to lf ln) (m_gl sy rm w a spk ns k j sd ld lf) to ln
  | 0, j, sd, ld, to, lf, ln => by
    simp only [m_gh, m_gl]
    by_cases h : lf = 0
    · rw [if_pos h]
      exact ⟨by simp [h], fun _ _ => rfl, fun L hL => by cases hL; intro i x hx; simp at hx⟩
    · rw [if_neg h]
      exact ⟨by simp [h], fun _ _ => rfl, fun L hL => by cases hL⟩
  | k + 1, j, sd, ld, to, lf, ln => by
    have hl : ∀ s l, aG (m_gh sy rm w a spk ns k (j + 1) (sd ||| ((1 : Int32) <<< (nI s &&& 31))) (m_lb sy ld s) (to + 1) (lf - 1) (upd (upd l (2 * to) (nI j)) (2 * to + 1) (nI s))) ((m_gl sy rm w a spk ns k (j + 1) (sd ||| ((1 : Int32) <<< (nI s &&& 31))) (m_lb sy ld s) (lf - 1)).map ((j, s) :: ·)) to l := by
      intro s l
      obtain ⟨h1, h2, h3⟩ := gh_ag (sy := sy) (rm := rm) (w := w) (a := a) (spk := spk) (ns := ns) k (j + 1) (sd ||| ((1 : Int32) <<< (nI s &&& 31))) (m_lb sy ld s) (to + 1) (lf - 1) (upd (upd l (2 * to) (nI j)) (2 * to + 1) (nI s))
      refine ⟨by rw [h1, Option.isSome_map], fun i hi => ?_, fun L hL => ?_⟩
      · rw [h2 i (by omega), upd, if_neg (by omega), upd, if_neg (by omega)]
      · obtain ⟨L0, e0, rfl⟩ := Option.map_eq_some_iff.mp hL
        refine lnL_cons (h3 L0 e0) ?_ ?_
        · rw [h2 _ (by omega), upd, if_neg (by omega), upd, if_pos rfl]
        · rw [h2 _ (by omega), upd, if_pos rfl]
    have key : aG (if 0 < lf ∧ (a < j ∨ spk = 0) then m_ghL (m_gok sy rm w j sd ld) (fun s l => m_gh sy rm w a spk ns k (j + 1) (sd ||| ((1 : Int32) <<< (nI s &&& 31))) (m_lb sy ld s) (to + 1) (lf - 1) (upd (upd l (2 * to) (nI j)) (2 * to + 1) (nI s))) ns 0 ln else (false, ln)) (if 0 < lf ∧ (a < j ∨ spk = 0) then m_glL (m_gok sy rm w j sd ld) (fun s => (m_gl sy rm w a spk ns k (j + 1) (sd ||| ((1 : Int32) <<< (nI s &&& 31))) (m_lb sy ld s) (lf - 1)).map ((j, s) :: ·)) ns 0 else none) to ln := by
      by_cases ho : 0 < lf ∧ (a < j ∨ spk = 0)
      · rw [if_pos ho, if_pos ho]; exact glL_ag hl ns 0 ln
      · rw [if_neg ho, if_neg ho]; exact ⟨rfl, fun _ _ => rfl, fun L hL => by cases hL⟩
    simp only [m_gh, m_gl]
    generalize (if 0 < lf ∧ (a < j ∨ spk = 0) then m_ghL (m_gok sy rm w j sd ld) (fun s l => m_gh sy rm w a spk ns k (j + 1) (sd ||| ((1 : Int32) <<< (nI s &&& 31))) (m_lb sy ld s) (to + 1) (lf - 1) (upd (upd l (2 * to) (nI j)) (2 * to + 1) (nI s))) ns 0 ln else (false, ln)) = p at key ⊢
    generalize (if 0 < lf ∧ (a < j ∨ spk = 0) then m_glL (m_gok sy rm w j sd ld) (fun s => (m_gl sy rm w a spk ns k (j + 1) (sd ||| ((1 : Int32) <<< (nI s &&& 31))) (m_lb sy ld s) (lf - 1)).map ((j, s) :: ·)) ns 0 else none) = q at key ⊢
    obtain ⟨k1, k2, k3⟩ := key
    cases q with
    | some L => rw [if_pos (show _ = true from k1)]; exact ⟨rfl, k2, fun L' hL' => by cases hL'; exact k3 L rfl⟩
    | none =>
      rw [if_neg (by rw [k1]; decide)]
      by_cases hr : rm j < ld
      · rw [if_pos hr, if_pos hr]; exact ⟨rfl, k2, fun L hL => by cases hL⟩
      · rw [if_neg hr, if_neg hr]
        obtain ⟨g1, g2, g3⟩ := gh_ag (sy := sy) (rm := rm) (w := w) (a := a) (spk := spk) (ns := ns) k (j + 1) sd ld to lf p.2
        exact ⟨g1, fun i hi => (g2 i hi).trans (k2 i hi), g3⟩
theorem glL_ext {ok ok' : Nat → Bool} {rec rec' : Nat → Option (List (Nat × Nat))} (h1 : ∀ s, ok s = ok' s) (h2 : ∀ s, rec s = rec' s) (k s : Nat) : m_glL ok rec k s = m_glL ok' rec' k s := by
  rw [show ok = ok' from funext h1, show rec = rec' from funext h2]
theorem gl_ext {sy rm rm' : Nat → Int32} {w : Int32} {a : Nat} {spk : Int32} {ns : Nat} : ∀ k j sd ld lf, (∀ i, j ≤ i → i < j + k → rm i = rm' i) → m_gl sy rm w a spk ns k j sd ld lf = m_gl sy rm' w a spk ns k j sd ld lf
  | 0, j, sd, ld, lf, _ => rfl
  | k + 1, j, sd, ld, lf, h => by
    have e : ∀ sd ld lf, m_gl sy rm w a spk ns k (j + 1) sd ld lf = m_gl sy rm' w a spk ns k (j + 1) sd ld lf := fun sd ld lf => gl_ext k (j + 1) sd ld lf (fun i h1 h2 => h i (by omega) (by omega))
    simp only [m_gl]
    rw [show m_gok sy rm w j sd ld = m_gok sy rm' w j sd ld by funext s; simp only [m_gok, h j (by omega) (by omega)], h j (by omega) (by omega)]
    simp only [e]
/-- the least number of sayings from z on -/
def m_hs (g : Nat → Option (List (Nat × Nat))) : Nat → Nat → Option (Nat × List (Nat × Nat))
  | 0, _ => none
  | k + 1, z => match g z with
    | some L => some (z, L)
    | none => m_hs g k (z + 1)
def m_hn (q : Option (Nat × List (Nat × Nat))) : Int32 := match q with
  | some (z, _) => nI z
  | none => -2
theorem ho_ag {g : Nat → (Nat → Int32) → Bool × (Nat → Int32)} {g2 : Nat → Option (List (Nat × Nat))} (h : ∀ z ln, aG (g z ln) (g2 z) 0 ln) : ∀ k z ln, (m_ho g k z ln).1 = m_hn (m_hs g2 k z) ∧ ∀ n L, m_hs g2 k z = some (n, L) → lnL (m_ho g k z ln).2 0 L
  | 0, z, ln => ⟨rfl, fun n L hL => by cases hL⟩
  | k + 1, z, ln => by
    obtain ⟨h1, h2, h3⟩ := h z ln
    simp only [m_ho, m_hs]
    cases hr : g2 z with
    | some L =>
      rw [hr] at h1
      rw [if_pos (show _ = true from h1)]
      exact ⟨rfl, fun n L' hL' => by cases hL'; exact h3 L hr⟩
    | none =>
      rw [hr] at h1
      rw [if_neg (by rw [h1]; decide)]
      exact ho_ag h k (z + 1) (g z ln).2
theorem glL_len {ok : Nat → Bool} {rec : Nat → Option (List (Nat × Nat))} {n : Nat} (h : ∀ s L, rec s = some L → L.length = n) : ∀ k s L, m_glL ok rec k s = some L → L.length = n
  | 0, s, L, e => by cases e
  | k + 1, s, L, e => by
    simp only [m_glL] at e
    split at e
    · split at e
      · next L' hr => cases e; exact h s _ hr
      · exact glL_len h k (s + 1) L e
    · exact glL_len h k (s + 1) L e
theorem gl_len {sy rm : Nat → Int32} {w : Int32} {a : Nat} {spk : Int32} {ns : Nat} : ∀ k j sd ld lf L, m_gl sy rm w a spk ns k j sd ld lf = some L → L.length = lf
  | 0, j, sd, ld, lf, L, e => by
    simp only [m_gl] at e
    split at e
    · next h => cases e; exact h.symm
    · cases e
  | k + 1, j, sd, ld, lf, L, e => by
    simp only [m_gl] at e
    split at e
    · next L' hq =>
      cases e
      split at hq
      · next ho =>
        refine glL_len (n := lf) (fun s L1 h1 => ?_) ns 0 _ hq
        obtain ⟨L0, e0, rfl⟩ := Option.map_eq_some_iff.mp h1
        have := gl_len k _ _ _ _ L0 e0
        simp only [List.length_cons, this]
        omega
      · cases hq
    · split at e
      · cases e
      · exact gl_len k _ _ _ _ L e
