/-! equalities: hush -/
theorem map_none' {α β : Type} {f : α → β} {o : Option α} : o.map f = none ↔ o = none := by cases o <;> simp
theorem glL_s {ok : Nat → Bool} {rec : Nat → Option (List (Nat × Nat))} {k s : Nat} : m_glL ok rec (k + 1) s = match (if ok s = true then rec s else none) with
    | some L => some L
    | none => m_glL ok rec k (s + 1) := by
  rw [m_glL]
  cases ok s
  · rfl
  · rfl
theorem glL_ext2 {ok ok2 : Nat → Bool} {rec rec2 : Nat → Option (List (Nat × Nat))} : ∀ k s, (∀ i, s ≤ i → i < s + k → (if ok i = true then rec i else none) = (if ok2 i = true then rec2 i else none)) → m_glL ok rec k s = m_glL ok2 rec2 k s
  | 0, _, _ => rfl
  | k + 1, s, h => by
    rw [glL_s, glL_s, h s (by omega) (by omega), glL_ext2 k (s + 1) (fun i h1 h2 => h i (by omega) (by omega))]
theorem glL_none {ok : Nat → Bool} {rec : Nat → Option (List (Nat × Nat))} : ∀ k s, m_glL ok rec k s = none ↔ ∀ i, s ≤ i → i < s + k → ok i = true → rec i = none
  | 0, s => ⟨fun _ i h1 h2 => by omega, fun _ => rfl⟩
  | k + 1, s => by
    rw [glL_s]
    have ih := glL_none (ok := ok) (rec := rec) k (s + 1)
    constructor
    · intro h i h1 h2 h3
      cases e : (if ok s = true then rec s else none) with
      | some L => rw [e] at h; cases h
      | none =>
        rw [e] at h
        rcases (by omega : i = s ∨ s + 1 ≤ i) with q | q
        · rw [q] at h3 ⊢; rw [if_pos h3] at e; exact e
        · exact ih.mp h i q (by omega) h3
    · intro h
      have e : (if ok s = true then rec s else none) = none := by
        split
        · next q => exact h s (by omega) (by omega) q
        · rfl
      rw [e]
      exact ih.mpr (fun i h1 h2 h3 => h i (by omega) (by omega) h3)
/-- there is a plan -/
def hPl (sy rm : Nat → Int32) (w : Int32) (a : Nat) (spk : Int32) (ns : Nat) : Nat → Nat → Int32 → Int32 → Nat → Prop
  | 0, _, _, _, lf => lf = 0
  | k + 1, j, sd, ld, lf => ((0 < lf ∧ (a < j ∨ spk = 0)) ∧ ∃ s, s < ns ∧ m_gok sy rm w j sd ld s = true ∧ hPl sy rm w a spk ns k (j + 1) (sd ||| ((1 : Int32) <<< (nI s &&& 31))) (m_lb sy ld s) (lf - 1)) ∨ (¬ rm j < ld ∧ hPl sy rm w a spk ns k (j + 1) sd ld lf)
theorem gl_pl {sy rm : Nat → Int32} {w : Int32} {a : Nat} {spk : Int32} {ns : Nat} : ∀ k j sd ld lf, m_gl sy rm w a spk ns k j sd ld lf = none ↔ ¬ hPl sy rm w a spk ns k j sd ld lf
  | 0, j, sd, ld, lf => by
    simp only [m_gl, hPl]
    split
    · next h => exact ⟨fun q => (by cases q), fun q => absurd h q⟩
    · next h => exact ⟨fun _ => h, fun _ => rfl⟩
  | k + 1, j, sd, ld, lf => by
    simp only [m_gl, hPl]
    have key : (if 0 < lf ∧ (a < j ∨ spk = 0) then m_glL (m_gok sy rm w j sd ld) (fun s => (m_gl sy rm w a spk ns k (j + 1) (sd ||| ((1 : Int32) <<< (nI s &&& 31))) (m_lb sy ld s) (lf - 1)).map ((j, s) :: ·)) ns 0 else none) = none ↔ ¬ ((0 < lf ∧ (a < j ∨ spk = 0)) ∧ ∃ s, s < ns ∧ m_gok sy rm w j sd ld s = true ∧ hPl sy rm w a spk ns k (j + 1) (sd ||| ((1 : Int32) <<< (nI s &&& 31))) (m_lb sy ld s) (lf - 1)) := by
      by_cases hc : 0 < lf ∧ (a < j ∨ spk = 0)
      · rw [if_pos hc, glL_none]
        constructor
        · rintro h ⟨_, s, h1, h2, h3⟩
          exact (gl_pl k _ _ _ _).mp (map_none'.mp (h s (by omega) (by omega) h2)) h3
        · intro h i _ hi ok
          exact map_none'.mpr ((gl_pl k _ _ _ _).mpr (fun q => h ⟨hc, i, by omega, ok, q⟩))
      · rw [if_neg hc]
        exact ⟨fun _ q => hc q.1, fun _ => rfl⟩
    generalize (if 0 < lf ∧ (a < j ∨ spk = 0) then m_glL (m_gok sy rm w j sd ld) (fun s => (m_gl sy rm w a spk ns k (j + 1) (sd ||| ((1 : Int32) <<< (nI s &&& 31))) (m_lb sy ld s) (lf - 1)).map ((j, s) :: ·)) ns 0 else none) = X at key ⊢
    have ih := gl_pl (sy := sy) (rm := rm) (w := w) (a := a) (spk := spk) (ns := ns) k (j + 1) sd ld lf
    cases X with
    | some L => exact ⟨fun q => (by cases q), fun q => (by have := key.mpr (fun z => q (Or.inl z)); cases this)⟩
    | none =>
      simp only
      have k0 := key.mp rfl
      by_cases hr : rm j < ld
      · rw [if_pos hr]
        exact ⟨fun _ q => q.elim k0 (fun z => z.1 hr), fun _ => rfl⟩
      · rw [if_neg hr, ih]
        exact ⟨fun h q => q.elim k0 (fun z => h z.2), fun h q => h (Or.inr ⟨hr, q⟩)⟩
def lbn (sy : Nat → Int32) (s l : Nat) : Nat := if m_tr sy s = 0 then min 999 (l + (sy (4 * s)).toNatClampNeg) else l - (sy (4 * s)).toNatClampNeg
def sy20 (sy : Nat → Int32) (ns : Nat) : Prop := ∀ s, s < ns → ∃ t, t ≤ 20 ∧ sy (4 * s) = nI t
theorem lb_n {sy : Nat → Int32} {ns s l : Nat} (hs : sy20 sy ns) (hsn : s < ns) (hl : l ≤ 999) : m_lb sy (nI l) s = nI (lbn sy s l) ∧ lbn sy s l ≤ 999 := by
  obtain ⟨t, ht, e⟩ := hs s hsn
  unfold lbn m_lb
  rw [e, nI_clamp (by omega)]
  have p0 : ∀ z, z ≤ 2000 → (if 0 < nI z then nI z else 0) = nI z := fun z hz => by
    have := nI_ltI (a := 0) (b := z) (by omega) (by omega)
    rw [nI_0] at this
    by_cases q : 0 < z
    · rw [if_pos (this.mpr q)]
    · rw [if_neg (fun w => q (this.mp w)), show z = 0 by omega]; rfl
  have p9 : ∀ z, z ≤ 2000 → (nI z < 999 ↔ z < 999) := fun z hz => nI_ltI (a := z) (b := 999) (by omega) (by omega)
  by_cases q : m_tr sy s = 0
  · rw [if_pos q]
    simp only [q, if_true]
    rw [nI_add]
    refine ⟨?_, by omega⟩
    by_cases z : l + t < 999
    · rw [if_pos ((p9 _ (by omega)).mpr z), p0 _ (by omega), Nat.min_eq_right (by omega)]
    · rw [if_neg (fun w => z ((p9 _ (by omega)).mp w)), Nat.min_eq_left (by omega)]
      exact p0 999 (by omega)
  · rw [if_neg q]
    simp only [q, if_false]
    refine ⟨?_, by omega⟩
    by_cases z : t ≤ l
    · rw [pk_sub z]
      by_cases y : l - t < 999
      · rw [if_pos ((p9 _ (by omega)).mpr y), p0 _ (by omega)]
      · rw [if_neg (fun w => y ((p9 _ (by omega)).mp w)), show l - t = 999 by omega]
        exact p0 999 (by omega)
    · have hneg := pk_sneg (a := l) (b := t) (by omega) (by omega)
      rw [if_pos (Int32.lt_trans hneg (by decide)), if_neg (fun w => Int32.lt_irrefl (Int32.lt_trans w hneg)), show l - t = 0 by omega]
      rfl
theorem lbn_m {sy : Nat → Int32} {s l l2 : Nat} (h : l2 ≤ l) : lbn sy s l2 ≤ lbn sy s l := by
  unfold lbn
  split <;> omega
theorem lbn_t {sy : Nat → Int32} {s l : Nat} (h : ¬ m_tr sy s = 0) : lbn sy s l ≤ l := by
  unfold lbn
  rw [if_neg h]
  omega
theorem lbn_f {sy : Nat → Int32} {s l : Nat} (hl : l ≤ 999) (h : m_tr sy s = 0) : l ≤ lbn sy s l := by
  unfold lbn
  rw [if_pos h]
  omega
theorem nlt_le {x : Int32} {a b : Nat} (h : ¬ x < nI b) (hab : a ≤ b) (hb : b ≤ 999) : ¬ x < nI a := fun q => h (Int32.lt_of_lt_of_le q (nI_le hab (by omega)))
theorem has_or {sd : Int32} {s t : Nat} (hs : s < 8) (ht : t < 8) : m_has (sd ||| ((1 : Int32) <<< (nI s &&& 31))) (nI t) = 0 ↔ (¬ t = s ∧ m_has sd (nI t) = 0) := by
  rw [has_kb, has_kb, kb_bt _ (by omega), kb_bt _ (by omega), b_or, sh1_bt hs (by omega)]
  cases bt sd t
  · by_cases q : t = s
    · simp [q]
    · simp [q]
  · simp
theorem gok_iff {sy rm : Nat → Int32} {w : Int32} {j : Nat} {sd ld : Int32} {s : Nat} : m_gok sy rm w j sd ld s = true ↔ (m_has sd (nI s) = 0 ∧ ¬ m_kn sy w s = 0 ∧ ¬ rm j < m_lb sy ld s) := by
  unfold m_gok
  rw [Bool.and_eq_true, Bool.and_eq_true, decide_eq_true_eq, decide_eq_true_eq, decide_eq_true_eq]
theorem pl_mono {sy rm : Nat → Int32} {w : Int32} {a : Nat} {spk : Int32} {ns : Nat} (hns : ns ≤ 8) (hs : sy20 sy ns) : ∀ k j sd sd2 l l2 lf, (∀ s, s < ns → m_has sd (nI s) = 0 → m_has sd2 (nI s) = 0) → l2 ≤ l → l ≤ 999 → hPl sy rm w a spk ns k j sd (nI l) lf → hPl sy rm w a spk ns k j sd2 (nI l2) lf
  | 0, _, _, _, _, _, _, _, _, _, h => h
  | k + 1, j, sd, sd2, l, l2, lf, hsd, hl, hl9, h => by
    rcases h with ⟨h0, s, h1, h2, h3⟩ | ⟨h1, h2⟩
    · left
      obtain ⟨g1, g2, g3⟩ := gok_iff.mp h2
      obtain ⟨e1, e2⟩ := lb_n hs h1 hl9
      obtain ⟨e3, e4⟩ := lb_n hs h1 (show l2 ≤ 999 by omega)
      rw [e1] at g3 h3
      refine ⟨h0, s, h1, gok_iff.mpr ⟨hsd s h1 g1, g2, ?_⟩, ?_⟩
      · rw [e3]; exact nlt_le g3 (lbn_m hl) e2
      · rw [e3]
        refine pl_mono hns hs k (j + 1) _ _ _ _ _ (fun t ht q => ?_) (lbn_m hl) e2 h3
        rw [has_or (by omega) (by omega)] at q ⊢
        exact ⟨q.1, hsd t ht q.2⟩
    · right
      exact ⟨nlt_le h1 hl hl9, pl_mono hns hs k (j + 1) _ _ _ _ _ hsd hl hl9 h2⟩
/-- a false one can be left out -/
theorem pl_F {sy rm : Nat → Int32} {w : Int32} {a : Nat} {spk : Int32} {ns : Nat} (hns : ns ≤ 8) (hs : sy20 sy ns) {k j l lf s : Nat} {sd : Int32} (hl : l ≤ 999) (h1 : s < ns) (hf : m_tr sy s = 0) (ok : m_gok sy rm w j sd (nI l) s = true) (h : hPl sy rm w a spk ns k (j + 1) (sd ||| ((1 : Int32) <<< (nI s &&& 31))) (m_lb sy (nI l) s) lf) : hPl sy rm w a spk ns (k + 1) j sd (nI l) lf := by
  obtain ⟨g1, g2, g3⟩ := gok_iff.mp ok
  obtain ⟨e1, e2⟩ := lb_n hs h1 hl
  rw [e1] at g3 h
  right
  refine ⟨nlt_le g3 (lbn_f hl hf) e2, pl_mono hns hs k (j + 1) _ _ _ _ _ (fun t ht q => ?_) (lbn_f hl hf) e2 h⟩
  exact ((has_or (by omega) (by omega)).mp q).2
/-- a true one can be said at once -/
theorem pl_E {sy rm : Nat → Int32} {w : Int32} {a : Nat} {spk : Int32} {ns : Nat} (hns : ns ≤ 8) (hs : sy20 sy ns) : ∀ k j sd l lf, l ≤ 999 → hPl sy rm w a spk ns k j sd (nI l) (lf + 1) → ¬ hPl sy rm w a spk ns k j sd (nI l) lf → ∃ s, s < ns ∧ m_has sd (nI s) = 0 ∧ ¬ m_kn sy w s = 0 ∧ ¬ m_tr sy s = 0 ∧ hPl sy rm w a spk ns k j (sd ||| ((1 : Int32) <<< (nI s &&& 31))) (m_lb sy (nI l) s) lf
  | 0, _, _, _, _, _, h, _ => by cases h
  | k + 1, j, sd, l, lf, hl, h, hn => by
    rcases h with ⟨h0, s, h1, h2, h3⟩ | ⟨h1, h2⟩
    · obtain ⟨g1, g2, g3⟩ := gok_iff.mp h2
      rw [Nat.add_sub_cancel] at h3
      by_cases ht : m_tr sy s = 0
      · exact absurd (pl_F hns hs hl h1 ht h2 h3) hn
      · exact ⟨s, h1, g1, g2, ht, Or.inr ⟨g3, h3⟩⟩
    · obtain ⟨s, s1, s2, s3, s4, s5⟩ := pl_E hns hs k (j + 1) sd l lf hl h2 (fun q => hn (Or.inr ⟨h1, q⟩))
      obtain ⟨e1, e2⟩ := lb_n hs s1 hl
      refine ⟨s, s1, s2, s3, s4, Or.inr ⟨?_, s5⟩⟩
      rw [e1]
      exact nlt_le h1 (lbn_t s4) hl
theorem gl_0 {sy rm : Nat → Int32} {w : Int32} {a : Nat} {spk : Int32} {ns : Nat} : ∀ k j sd ld, (m_gl sy rm w a spk ns k j sd ld 0 = some [] ∧ ∀ i, j ≤ i → i < j + k → ¬ rm i < ld) ∨ (m_gl sy rm w a spk ns k j sd ld 0 = none ∧ ∃ i, j ≤ i ∧ i < j + k ∧ rm i < ld)
  | 0, j, sd, ld => Or.inl ⟨rfl, fun i h1 h2 => by omega⟩
  | k + 1, j, sd, ld => by
    simp only [m_gl]
    rw [if_neg (fun q => absurd q.1 (Nat.lt_irrefl 0))]
    simp only
    by_cases hr : rm j < ld
    · rw [if_pos hr]
      exact Or.inr ⟨rfl, j, by omega, by omega, hr⟩
    · rw [if_neg hr]
      rcases gl_0 (sy := sy) (rm := rm) (w := w) (a := a) (spk := spk) (ns := ns) k (j + 1) sd ld with ⟨e, h⟩ | ⟨e, i, h1, h2, h3⟩
      · left
        refine ⟨e, fun i h1 h2 => ?_⟩
        rcases (by omega : i = j ∨ j + 1 ≤ i) with q | q
        · rw [q]; exact hr
        · exact h i q (by omega)
      · right
        exact ⟨e, i, by omega, by omega, h3⟩
def xOK (sy : Nat → Int32) (w : Int32) (ns : Nat) (x sd : Int32) : Prop := ∀ s, s < ns → (k_ok x s = true ↔ (m_has sd (nI s) = 0 ∧ ¬ m_kn sy w s = 0 ∧ ¬ m_tr sy s = 0))
theorem kok_iff {x : Int32} {s : Nat} (hs : s < 8) : k_ok x s = true ↔ bt x s = true := by
  unfold k_ok
  rw [kb_bt _ (by omega)]
  cases bt x s <;> simp
theorem xOK_s {sy : Nat → Int32} {w : Int32} {ns s : Nat} {x sd : Int32} (hns : ns ≤ 8) (hs : s < ns) (h : xOK sy w ns x sd) : xOK sy w ns (x &&& (((1 : Int32) <<< (nI s &&& 31)) ^^^ (-1))) (sd ||| ((1 : Int32) <<< (nI s &&& 31))) := by
  intro t ht
  have ht2 := h t ht
  rw [kok_iff (by omega)] at ht2 ⊢
  rw [has_or (by omega) (by omega), b_and, b_xor, b_m1 t (by omega), sh1_bt (by omega) (by omega), Bool.and_eq_true, ht2]
  by_cases q : t = s
  · simp [q]
  · simp [q]
set_option maxHeartbeats 1000000 in
theorem gl_hl {sy rm : Nat → Int32} {w : Int32} {a : Nat} {spk : Int32} {ns c : Nat} (hns : ns ≤ 8) (hs : sy20 sy ns) : ∀ lf k j sd l x, j + k = c → (a < j ∨ spk = 0) → l ≤ 999 → xOK sy w ns x sd → ¬ hPl sy rm w a spk ns k j sd (nI l) lf → m_gl sy rm w a spk ns k j sd (nI l) (lf + 1) = k_hl sy rm (fun j => k_bn rm c (c - j)) c ns (lf + 1) j x (nI l) := by
  intro lf
  induction lf with
  | zero =>
    intro k j sd l x hj ho hl hx hn
    cases k with
    | zero => rw [k_hl, if_pos (by omega)]; rfl
    | succ k =>
      rw [k_hl, if_neg (by omega), m_gl, if_pos ⟨Nat.succ_pos _, ho⟩]
      have e : m_glL (m_gok sy rm w j sd (nI l)) (fun s => (m_gl sy rm w a spk ns k (j + 1) (sd ||| ((1 : Int32) <<< (nI s &&& 31))) (m_lb sy (nI l) s) (0 + 1 - 1)).map ((j, s) :: ·)) ns 0 = m_glL (k_ok x) (fun s => if 0 = 0 then (if k_bn rm c (c - j) < m_lb sy (nI l) s then none else some [(j, s)]) else if rm j < m_lb sy (nI l) s then none else (k_hl sy rm (fun j => k_bn rm c (c - j)) c ns 0 (j + 1) (x &&& (((1 : Int32) <<< (nI s &&& 31)) ^^^ (-1))) (m_lb sy (nI l) s)).map ((j, s) :: ·)) ns 0 := by
        refine glL_ext2 ns 0 (fun s _ h1 => ?_)
        have h1 : s < ns := by omega
        obtain ⟨e1, e2⟩ := lb_n hs h1 hl
        have hxs := hx s h1
        have hg := gok_iff (sy := sy) (rm := rm) (w := w) (j := j) (sd := sd) (ld := nI l) (s := s)
        simp only [if_true]
        by_cases hk : k_ok x s = true
        · rw [if_pos hk]
          obtain ⟨a1, a2, a3⟩ := hxs.mp hk
          rw [e1] at hg ⊢
          have hb := bn_le (f := rm) (c := c) (y := nI (lbn sy s l)) (c - j) (by omega)
          by_cases hr : rm j < nI (lbn sy s l)
          · rw [if_neg (fun q => (hg.mp q).2.2 hr), if_pos]
            refine Int32.not_le.mp (fun q => ?_)
            exact absurd hr (Int32.not_lt.mpr ((hb.mp q).2 j (by omega) (by omega)))
          · rw [if_pos (hg.mpr ⟨a1, a2, hr⟩)]
            rcases gl_0 (sy := sy) (rm := rm) (w := w) (a := a) (spk := spk) (ns := ns) k (j + 1) (sd ||| ((1 : Int32) <<< (nI s &&& 31))) (nI (lbn sy s l)) with ⟨e, h⟩ | ⟨e, i, i1, i2, i3⟩
            · rw [e, if_neg]
              · rfl
              · refine Int32.not_lt.mpr (hb.mpr ⟨nI_le (b := 999) e2 (by omega), fun i g1 g2 => ?_⟩)
                rcases (by omega : i = j ∨ j + 1 ≤ i) with q | q
                · rw [q]; exact Int32.not_lt.mp hr
                · exact Int32.not_lt.mp (h i q (by omega))
            · rw [e, if_pos]
              · rfl
              · refine Int32.not_le.mp (fun q => ?_)
                exact absurd i3 (Int32.not_lt.mpr ((hb.mp q).2 i (by omega) (by omega)))
        · rw [if_neg hk]
          split
          · next ok =>
            obtain ⟨a1, a2, a3⟩ := hg.mp ok
            have hf : m_tr sy s = 0 := by
              by_cases z : m_tr sy s = 0
              · exact z
              · exact absurd (hxs.mpr ⟨a1, a2, z⟩) hk
            exact map_none'.mpr ((gl_pl _ _ _ _ _).mpr (fun q => hn (pl_F hns hs hl h1 hf ok q)))
          · rfl
      rw [e]
      cases eX : m_glL (k_ok x) (fun s => if 0 = 0 then (if k_bn rm c (c - j) < m_lb sy (nI l) s then none else some [(j, s)]) else if rm j < m_lb sy (nI l) s then none else (k_hl sy rm (fun j => k_bn rm c (c - j)) c ns 0 (j + 1) (x &&& (((1 : Int32) <<< (nI s &&& 31)) ^^^ (-1))) (m_lb sy (nI l) s)).map ((j, s) :: ·)) ns 0 with
      | some L => rfl
      | none =>
        simp only
        rw [eX] at e
        split
        · rfl
        · next hr =>
          rw [gl_pl]
          intro hp
          obtain ⟨s, s1, s2, s3, s4, s5⟩ := pl_E hns hs k (j + 1) sd l 0 hl hp (fun q => hn (Or.inr ⟨hr, q⟩))
          obtain ⟨e1, e2⟩ := lb_n hs s1 hl
          have := (glL_none ns 0).mp e s (by omega) (by omega) (gok_iff.mpr ⟨s2, s3, by rw [e1]; exact nlt_le hr (lbn_t s4) hl⟩)
          exact (gl_pl _ _ _ _ _).mp (map_none'.mp this) s5
  | succ lf ih =>
    intro k j sd l x hj ho hl hx hn
    cases k with
    | zero => rw [k_hl, if_pos (by omega)]; rfl
    | succ k =>
      rw [k_hl, if_neg (by omega), m_gl, if_pos ⟨Nat.succ_pos _, ho⟩]
      have e : m_glL (m_gok sy rm w j sd (nI l)) (fun s => (m_gl sy rm w a spk ns k (j + 1) (sd ||| ((1 : Int32) <<< (nI s &&& 31))) (m_lb sy (nI l) s) (lf + 1 + 1 - 1)).map ((j, s) :: ·)) ns 0 = m_glL (k_ok x) (fun s => if lf + 1 = 0 then (if k_bn rm c (c - j) < m_lb sy (nI l) s then none else some [(j, s)]) else if rm j < m_lb sy (nI l) s then none else (k_hl sy rm (fun j => k_bn rm c (c - j)) c ns (lf + 1) (j + 1) (x &&& (((1 : Int32) <<< (nI s &&& 31)) ^^^ (-1))) (m_lb sy (nI l) s)).map ((j, s) :: ·)) ns 0 := by
        refine glL_ext2 ns 0 (fun s _ h1 => ?_)
        have h1 : s < ns := by omega
        obtain ⟨e1, e2⟩ := lb_n hs h1 hl
        have hxs := hx s h1
        have hg := gok_iff (sy := sy) (rm := rm) (w := w) (j := j) (sd := sd) (ld := nI l) (s := s)
        rw [if_neg (Nat.succ_ne_zero lf), Nat.add_sub_cancel]
        by_cases hk : k_ok x s = true
        · rw [if_pos hk]
          obtain ⟨a1, a2, a3⟩ := hxs.mp hk
          by_cases hr : rm j < m_lb sy (nI l) s
          · rw [if_neg (fun q => (hg.mp q).2.2 hr), if_pos hr]
          · have hok := hg.mpr ⟨a1, a2, hr⟩
            rw [if_pos hok, if_neg hr]
            have hn2 : ¬ hPl sy rm w a spk ns k (j + 1) (sd ||| ((1 : Int32) <<< (nI s &&& 31))) (nI (lbn sy s l)) lf := by
              intro q
              rw [← e1] at q
              exact hn (Or.inl ⟨⟨Nat.succ_pos _, ho⟩, s, h1, hok, by rw [Nat.add_sub_cancel]; exact q⟩)
            have := ih k (j + 1) (sd ||| ((1 : Int32) <<< (nI s &&& 31))) (lbn sy s l) _ (by omega) (ho.elim (fun z => Or.inl (by omega)) Or.inr) e2 (xOK_s hns h1 hx) hn2
            rw [e1, this]
        · rw [if_neg hk]
          split
          · next ok =>
            obtain ⟨a1, a2, a3⟩ := hg.mp ok
            have hf : m_tr sy s = 0 := by
              by_cases z : m_tr sy s = 0
              · exact z
              · exact absurd (hxs.mpr ⟨a1, a2, z⟩) hk
            exact map_none'.mpr ((gl_pl _ _ _ _ _).mpr (fun q => hn (pl_F hns hs hl h1 hf ok q)))
          · rfl
      rw [e]
      cases eX : m_glL (k_ok x) (fun s => if lf + 1 = 0 then (if k_bn rm c (c - j) < m_lb sy (nI l) s then none else some [(j, s)]) else if rm j < m_lb sy (nI l) s then none else (k_hl sy rm (fun j => k_bn rm c (c - j)) c ns (lf + 1) (j + 1) (x &&& (((1 : Int32) <<< (nI s &&& 31)) ^^^ (-1))) (m_lb sy (nI l) s)).map ((j, s) :: ·)) ns 0 with
      | some L => rfl
      | none =>
        simp only
        rw [eX] at e
        split
        · rfl
        · next hr =>
          rw [gl_pl]
          intro hp
          obtain ⟨s, s1, s2, s3, s4, s5⟩ := pl_E hns hs k (j + 1) sd l (lf + 1) hl hp (fun q => hn (Or.inr ⟨hr, q⟩))
          obtain ⟨e1, e2⟩ := lb_n hs s1 hl
          have := (glL_none ns 0).mp e s (by omega) (by omega) (gok_iff.mpr ⟨s2, s3, by rw [e1]; exact nlt_le hr (lbn_t s4) hl⟩)
          exact (gl_pl _ _ _ _ _).mp (map_none'.mp this) s5
theorem hs_f3 {g h : Nat → Option (List (Nat × Nat))} (hg : ∀ z, g z = none → g (z + 1) = h (z + 1)) : ∀ k z, g z = none → m_hs g k (z + 1) = k_f3 h k (z + 1)
  | 0, _, _ => rfl
  | k + 1, z, h0 => by
    rw [m_hs, k_f3, ← hg z h0]
    cases e : g (z + 1) with
    | some L => rfl
    | none => exact hs_f3 hg k (z + 1) e
/-- what must be said, by both -/
theorem HS_eq {sp str tl sy row : Nat → Int32} {n c ns rs a l : Nat} {rv : RV} {w x : Int32} (hns : ns ≤ 8) (hs : sy20 sy ns) (hac : a ≤ c) (hl : l ≤ 999) (el : row 25 = nI l) (hx : xOK sy w ns x (m_bt (fun s => row (16 + s)) ns)) : m_HS sp str tl sy n c ns rs rv row a w = k_FB sy (m_RM sp str tl n c rs rv row a) (fun j => k_bn (m_RM sp str tl n c rs rv row a) c (c - j)) c ns a (row 27) (row 25) x := by
  unfold m_HS k_FB
  rw [el]
  generalize m_RM sp str tl n c rs rv row a = rm
  generalize m_bt (fun s => row (16 + s)) ns = sd at hx ⊢
  generalize row 27 = spk
  have hb := bn_le (f := rm) (c := c) (y := nI l) (c - a) (by omega)
  have h0 := gl_0 (sy := sy) (rm := rm) (w := w) (a := a) (spk := spk) (ns := ns) (c - a) a sd (nI l)
  simp only
  by_cases hB : k_bn rm c (c - a) < nI l
  · rw [if_pos hB]
    have g0 : m_gl sy rm w a spk ns (c - a) a sd (nI l) 0 = none := by
      rcases h0 with ⟨e, h⟩ | ⟨e, _⟩
      · refine absurd hB (Int32.not_lt.mpr (hb.mpr ⟨nI_le (b := 999) hl (by omega), fun j h1 h2 => Int32.not_lt.mp (h j (by omega) (by omega))⟩))
      · exact e
    have hlt : a < c := by
      rcases (by omega : a = c ∨ a < c) with q | q
      · exfalso
        rw [q, Nat.sub_self] at hB
        exact absurd (nI_le (b := 999) hl (by omega)) (Int32.not_le.mpr hB)
      · exact q
    obtain ⟨k, hk⟩ : ∃ k, c - a = k + 1 := ⟨c - a - 1, by omega⟩
    rw [m_hs]
    simp only [g0]
    by_cases hsp : spk = 0
    · rw [if_neg (fun q => q.1 hsp), if_pos hsp]
      have hg : ∀ z, m_gl sy rm w a spk ns (c - a) a sd (nI l) z = none → m_gl sy rm w a spk ns (c - a) a sd (nI l) (z + 1) = k_hl sy rm (fun j => k_bn rm c (c - j)) c ns (z + 1) a x (nI l) := fun z hz => gl_hl hns hs z (c - a) a sd l x (by omega) (Or.inr hsp) hl hx ((gl_pl _ _ _ _ _).mp hz)
      exact hs_f3 (h := fun nu => k_hl sy rm (fun j => k_bn rm c (c - j)) c ns nu a x (nI l)) hg 3 0 g0
    · have hst : ∀ z, m_gl sy rm w a spk ns (c - a) a sd (nI l) z = if rm a < nI l then none else m_gl sy rm w a spk ns k (a + 1) sd (nI l) z := fun z => by
        rw [hk, m_gl, if_neg (fun q => q.2.elim (Nat.lt_irrefl a) hsp)]
      by_cases hr : rm a < nI l
      · rw [if_pos ⟨hsp, hr⟩]
        simp only [hst, if_pos hr, m_hs]
      · rw [if_neg (fun q => hr q.2), if_neg hsp]
        simp only [hst, if_neg hr] at g0 ⊢
        have hg : ∀ z, m_gl sy rm w a spk ns k (a + 1) sd (nI l) z = none → m_gl sy rm w a spk ns k (a + 1) sd (nI l) (z + 1) = k_hl sy rm (fun j => k_bn rm c (c - j)) c ns (z + 1) (a + 1) x (nI l) := fun z hz => gl_hl hns hs z k (a + 1) sd l x (by omega) (Or.inl (by omega)) hl hx ((gl_pl _ _ _ _ _).mp hz)
        exact hs_f3 (h := fun nu => k_hl sy rm (fun j => k_bn rm c (c - j)) c ns nu (a + 1) x (nI l)) hg 3 0 g0
  · rw [if_neg hB]
    have g0 : m_gl sy rm w a spk ns (c - a) a sd (nI l) 0 = some [] := by
      rcases h0 with ⟨e, _⟩ | ⟨e, i, h1, h2, h3⟩
      · exact e
      · exact absurd h3 (Int32.not_lt.mpr ((hb.mp (Int32.not_lt.mp hB)).2 i (by omega) (by omega)))
    rw [m_hs]
    simp only [g0]
/-- the class's set of what can be said -/
theorem x_ok {I : Nat → Nat → Int32} {sp str tl sy row : Nat → Int32} {n c ns : Nat} {S : Int32} (hst : ST I sp str tl sy n c ns) (hS : S = m_bt (fun s => row (16 + s)) ns) (h01 : b01 (fun s => row (16 + s)) ns) (w : Int32) : xOK sy w ns ((I 11 3 &&& k_kn (I 14) w ns) &&& (S ^^^ (-1))) (m_bt (fun s => row (16 + s)) ns) := by
  have hns8 := hst.2.2.2.2.2.2.1
  rw [set_L hst hS h01 w, mkb_bt ns hns8]
  intro s hs
  have h0 : b01 (fun s => if m_kn sy w s = 0 then 0 else if row (16 + s) = 0 then (if m_tr sy s = 1 then 1 else 0) else 0) ns := by
    intro b _
    simp only
    split
    · exact Or.inl rfl
    · split
      · split
        · exact Or.inr rfl
        · exact Or.inl rfl
      · exact Or.inl rfl
  have e1 := bt_bit hns8 h0 hs
  have e2 := bt_bit hns8 h01 hs
  unfold k_ok
  rw [e1, has_kb, e2]
  have ht : m_tr sy s = 0 ∨ m_tr sy s = 1 := by
    unfold m_tr
    split
    · exact Or.inr rfl
    · exact Or.inl rfl
  have hq : row (16 + s) = 0 ∨ row (16 + s) = 1 := h01 s hs
  by_cases z : m_kn sy w s = 0
  · simp [z]
  · rcases hq with q | q <;> rcases ht with r | r <;> simp [z, q, r]
