/-! equalities: what the widow hears -/
def rv (b : Nat) : Nat := b % 2 * 128 + b / 2 % 2 * 64 + b / 4 % 2 * 32 + b / 8 % 2 * 16 + b / 16 % 2 * 8 + b / 32 % 2 * 4 + b / 64 % 2 * 2 + b / 128 % 2
def hN (h : Nat → Nat) (ns b : Nat) : Nat := sumN (fun s => b / 2 ^ s % 2 * h s) ns
def wW (h : Nat → Nat) (ns b : Nat) : Nat := 256 * hN h ns b + rv b
theorem rv_lt : ∀ b, b < 256 → rv b < 256 := by decide +kernel
theorem rv_rv : ∀ b, b < 256 → rv (rv b) = b := by decide +kernel
theorem rv_off : ∀ v, v < 256 → ∀ s, s < 8 → v / 2 ^ s % 2 = 1 → rv (v - 2 ^ s) + 2 ^ (7 - s) = rv v := by decide +kernel
theorem rv_ge : ∀ v, v < 256 → ∀ s, s < 8 → v / 2 ^ s % 2 = 1 → 2 ^ (7 - s) ≤ rv v := by decide +kernel
theorem rv_lo : ∀ v, v < 256 → ∀ s, s < 8 → (∀ t, t < s + 1 → v / 2 ^ t % 2 = 0) → rv v < 2 ^ (7 - s) := by decide +kernel
theorem bit_off : ∀ v, v < 256 → ∀ s, s < 8 → v / 2 ^ s % 2 = 1 → 2 ^ s ≤ v ∧ ∀ t, t < 8 → (v - 2 ^ s) / 2 ^ t % 2 = if t = s then 0 else v / 2 ^ t % 2 := by decide +kernel
theorem bit_on : ∀ v, v < 256 → ∀ s, s < 8 → v / 2 ^ s % 2 = 0 → v + 2 ^ s < 256 ∧ cN (v + 2 ^ s) = cN v + 1 ∧ ∀ t, t < 8 → (v + 2 ^ s) / 2 ^ t % 2 = if t = s then 1 else v / 2 ^ t % 2 := by decide +kernel
theorem low_b : ∀ v, v < 256 → 0 < v → ∃ m, m < 8 ∧ v / 2 ^ m % 2 = 1 ∧ ∀ t, t < m → v / 2 ^ t % 2 = 0 := by decide +kernel
def ris (S : Nat) : List Nat := (List.range 8).filter (fun s => S / 2 ^ s % 2 == 1)
theorem ris_s : ∀ S, S < 256 → ∀ m, m < 8 → S / 2 ^ m % 2 = 1 → (∀ t, t < m → S / 2 ^ t % 2 = 0) → ris S = m :: ris (S - 2 ^ m) := by decide +kernel
theorem ris_len : ∀ S, S < 256 → (ris S).length = cN S := by decide +kernel
theorem sub_l {v s N : Nat} (h : v < N) : v - 2 ^ s < N := Nat.lt_of_le_of_lt (Nat.sub_le _ _) h
theorem bitle {v i : Nat} : v / 2 ^ i % 2 ≤ 1 := by omega
/-- a set of another -/
def sb (T v : Nat) : Prop := nI T &&& (nI v ^^^ (-1)) = 0
theorem sb_iff {T v : Nat} (hT : T < 256) : sb T v ↔ ∀ t, t < 8 → T / 2 ^ t % 2 = 1 → v / 2 ^ t % 2 = 1 := by
  unfold sb
  rw [and0]
  constructor
  · intro h t ht q
    have := h t (by omega)
    rw [b_xor, b_m1 t (by omega), bt_nI (by omega), bt_nI (by omega), decide_eq_true q] at this
    by_cases z : v / 2 ^ t % 2 = 1
    · exact z
    · rw [decide_eq_false z] at this; exact absurd ⟨rfl, rfl⟩ this
  · rintro h t ht ⟨q1, q2⟩
    rw [bt_nI ht, decide_eq_true_eq] at q1
    rw [b_xor, b_m1 t ht, bt_nI ht] at q2
    have ht8 : t < 8 := by
      rcases Nat.lt_or_ge t 8 with z | z
      · exact z
      · have : 2 ^ 8 ≤ 2 ^ t := Nat.pow_le_pow_right (by decide) z
        rw [Nat.div_eq_of_lt (by omega)] at q1; cases q1
    rw [decide_eq_true (h t ht8 q1)] at q2
    cases q2
theorem sumN_one {f g : Nat → Nat} {s : Nat} : ∀ n, s < n → (∀ t, t < n → ¬ t = s → f t = g t) → sumN f n + g s = sumN g n + f s
  | 0, h, _ => by omega
  | n + 1, h, e => by
    simp only [sumN]
    by_cases q : s = n
    · rw [q, sumN_ext n (fun t ht => e t (by omega) (by omega))]; omega
    · have := sumN_one n (by omega) (fun t ht => e t (by omega))
      rw [e n (by omega) (fun z => q z.symm)]
      omega
theorem hN_off {h : Nat → Nat} {ns v s : Nat} (hns : ns ≤ 8) (hv : v < 256) (hs : s < ns) (hb : v / 2 ^ s % 2 = 1) : hN h ns (v - 2 ^ s) + h s = hN h ns v := by
  have hq := (bit_off v hv s (by omega) hb).2
  have := sumN_one (f := fun t => (v - 2 ^ s) / 2 ^ t % 2 * h t) (g := fun t => v / 2 ^ t % 2 * h t) (s := s) ns hs (fun t ht hn => by rw [hq t (by omega), if_neg hn])
  rw [hb, hq s (by omega), if_pos rfl, Nat.one_mul, Nat.zero_mul, Nat.add_zero] at this
  exact this
theorem hN_on {h : Nat → Nat} {ns v s : Nat} (hns : ns ≤ 8) (hv : v < 256) (hs : s < ns) (hb : v / 2 ^ s % 2 = 0) : hN h ns (v + 2 ^ s) = hN h ns v + h s := by
  obtain ⟨h1, _, h2⟩ := bit_on v hv s (by omega) hb
  have := hN_off (h := h) hns h1 hs (by rw [h2 s (by omega), if_pos rfl])
  rw [Nat.add_sub_cancel] at this
  exact this.symm
theorem hN_le {h : Nat → Nat} {ns T v : Nat} (hns : ns ≤ 8) (hT : T < 256) (hs : sb T v) : hN h ns T ≤ hN h ns v := by
  refine sumN_le ns (fun t ht => Nat.mul_le_mul_right _ ?_)
  have := (sb_iff hT).mp hs t (by omega)
  have h1 := bitle (v := T) (i := t)
  by_cases q : T / 2 ^ t % 2 = 1
  · rw [q, this q]; exact Nat.le_refl _
  · omega
theorem hN_9 {h : Nat → Nat} (h9 : ∀ s, h s ≤ 9) {b : Nat} : ∀ ns, hN h ns b ≤ 9 * ns
  | 0 => Nat.le_refl 0
  | ns + 1 => by
    have ih := hN_9 h9 (b := b) ns
    show hN h ns b + b / 2 ^ ns % 2 * h ns ≤ _
    have h1 := bitle (v := b) (i := ns)
    have : b / 2 ^ ns % 2 * h ns ≤ 1 * 9 := Nat.mul_le_mul h1 (h9 ns)
    omega
/-- the set of u with the most, of as much the least row -/
def Mx (h : Nat → Nat) (ns v u S : Nat) : Prop := S < 256 ∧ sb S v ∧ cN S = u ∧ ∀ T, T < 256 → sb T v → cN T = u → wW h ns T ≤ wW h ns S
theorem wW_lt {h : Nat → Nat} {ns S T : Nat} (hS : S < 256) (hT : T < 256) (e : wW h ns S = wW h ns T) : S = T := by
  unfold wW at e
  have h1 := rv_lt S hS
  have h2 := rv_lt T hT
  have : rv S = rv T := by omega
  rw [← rv_rv S hS, ← rv_rv T hT, this]
theorem wW_h {h : Nat → Nat} {ns S T : Nat} (hS : S < 256) (hT : T < 256) (e : wW h ns T ≤ wW h ns S) : hN h ns T ≤ hN h ns S ∧ (hN h ns T = hN h ns S → rv T ≤ rv S) := by
  unfold wW at e
  have h1 := rv_lt S hS
  have h2 := rv_lt T hT
  omega
theorem mx_ex {P : Nat → Prop} {W : Nat → Nat} : ∀ N, (∃ T, T < N ∧ P T) → ∃ S, S < N ∧ P S ∧ ∀ T, T < N → P T → W T ≤ W S
  | 0, ⟨T, h, _⟩ => absurd h (Nat.not_lt_zero T)
  | N + 1, ⟨T, h, hp⟩ => by
    by_cases q : ∃ T, T < N ∧ P T
    · obtain ⟨S, h1, h2, h3⟩ := mx_ex (W := W) N q
      by_cases z : P N ∧ W S < W N
      · refine ⟨N, by omega, z.1, fun U hU hP => ?_⟩
        rcases (by omega : U < N ∨ U = N) with y | y
        · have := h3 U y hP; omega
        · rw [y]; exact Nat.le_refl _
      · refine ⟨S, by omega, h2, fun U hU hP => ?_⟩
        rcases (by omega : U < N ∨ U = N) with y | y
        · exact h3 U y hP
        · rw [y] at hP ⊢
          exact Nat.not_lt.mp (fun w => z ⟨hP, w⟩)
    · have : T = N := by
        rcases (by omega : T < N ∨ T = N) with y | y
        · exact absurd ⟨T, y, hp⟩ q
        · exact y
      rw [this] at hp
      refine ⟨N, by omega, hp, fun U hU hP => ?_⟩
      rcases (by omega : U < N ∨ U = N) with y | y
      · exact absurd ⟨U, y, hP⟩ q
      · rw [y]; exact Nat.le_refl _
theorem sb_rf {v : Nat} (hv : v < 256) : sb v v := (sb_iff hv).mpr (fun _ _ q => q)
theorem sb_tr {a b c : Nat} (ha : a < 256) (hb : b < 256) (h : sb a b) (g : sb b c) : sb a c := (sb_iff ha).mpr (fun t ht q => (sb_iff hb).mp g t ht ((sb_iff ha).mp h t ht q))
theorem sb_off {v s : Nat} (hv : v < 256) (hs : s < 8) (hb : v / 2 ^ s % 2 = 1) : sb (v - 2 ^ s) v := by
  refine (sb_iff (sub_l hv)).mpr (fun t ht q => ?_)
  rw [(bit_off v hv s hs hb).2 t ht] at q
  split at q
  · cases q
  · exact q
theorem sz_ex : ∀ d v u, v < 256 → cN v = u + d → ∃ T, T < 256 ∧ sb T v ∧ cN T = u
  | 0, v, u, hv, h => ⟨v, hv, sb_rf hv, h⟩
  | d + 1, v, u, hv, h => by
    have h0 : 0 < v := by
      rcases Nat.eq_zero_or_pos v with q | q
      · rw [q] at h; have : cN 0 = 0 := rfl; omega
      · exact q
    obtain ⟨m, hm, hb, _⟩ := low_b v hv h0
    have ho := (cN_off v hv m hm hb).1
    obtain ⟨T, h1, h2, h3⟩ := sz_ex d (v - 2 ^ m) u (sub_l hv) (by omega)
    exact ⟨T, h1, sb_tr h1 (sub_l hv) h2 (sb_off hv hm hb), h3⟩
theorem Mx_ex {h : Nat → Nat} {ns v u : Nat} (hv : v < 256) (hu : u ≤ cN v) : ∃ S, Mx h ns v u S := by
  obtain ⟨T, h1, h2, h3⟩ := sz_ex (cN v - u) v u hv (by omega)
  obtain ⟨S, g1, ⟨g2, g3⟩, g4⟩ := mx_ex (P := fun T => sb T v ∧ cN T = u) (W := wW h ns) 256 ⟨T, h1, h2, h3⟩
  exact ⟨S, g1, g2, g3, fun U a b c => g4 U a ⟨b, c⟩⟩
/-! the model's search without its cuts -/
def gRL (v : Nat) (rec : Nat → Nat × List Nat) : Nat → Nat → Option (Nat × List Nat)
  | 0, _ => none
  | k + 1, s => if v / 2 ^ s % 2 = 1 then (match gRL v rec k (s + 1) with
      | some q => if q.1 < (rec s).1 then some q else some (rec s)
      | none => some (rec s)) else gRL v rec k (s + 1)
def gR (h : Nat → Nat) (U ns : Nat) : Nat → Nat → Nat → Nat × List Nat
  | 0, _, _ => (0, [])
  | f + 1, v, k => if v = 0 then (0, []) else (gRL v (fun s => ((if k < U then 0 else h s) + (gR h U ns f (v - 2 ^ s) (k + 1)).1, s :: (gR h U ns f (v - 2 ^ s) (k + 1)).2)) ns 0).getD (0, [])
theorem gRL_sp {v : Nat} {rec : Nat → Nat × List Nat} : ∀ k s, (gRL v rec k s = none ∧ ∀ r, s ≤ r → r < s + k → ¬ v / 2 ^ r % 2 = 1) ∨ (∃ t, s ≤ t ∧ t < s + k ∧ v / 2 ^ t % 2 = 1 ∧ gRL v rec k s = some (rec t) ∧ (∀ r, s ≤ r → r < s + k → v / 2 ^ r % 2 = 1 → (rec t).1 ≤ (rec r).1) ∧ ∀ r, s ≤ r → r < t → v / 2 ^ r % 2 = 1 → (rec t).1 < (rec r).1)
  | 0, s => Or.inl ⟨rfl, fun r h1 h2 => by omega⟩
  | k + 1, s => by
    have ih := gRL_sp (v := v) (rec := rec) k (s + 1)
    rw [gRL]
    by_cases hb : v / 2 ^ s % 2 = 1
    · rw [if_pos hb]
      right
      rcases ih with ⟨e, h⟩ | ⟨t, t1, t2, t3, e, t4, t5⟩
      · rw [e]
        refine ⟨s, by omega, by omega, hb, rfl, fun r h1 h2 h3 => ?_, fun r h1 h2 => by omega⟩
        rcases (by omega : r = s ∨ s + 1 ≤ r) with q | q
        · rw [q]; exact Nat.le_refl _
        · exact absurd h3 (h r q (by omega))
      · rw [e]
        simp only
        by_cases z : (rec t).1 < (rec s).1
        · rw [if_pos z]
          refine ⟨t, by omega, by omega, t3, rfl, fun r h1 h2 h3 => ?_, fun r h1 h2 h3 => ?_⟩
          · rcases (by omega : r = s ∨ s + 1 ≤ r) with q | q
            · rw [q]; omega
            · exact t4 r q (by omega) h3
          · rcases (by omega : r = s ∨ s + 1 ≤ r) with q | q
            · rw [q]; exact z
            · exact t5 r q h2 h3
        · rw [if_neg z]
          refine ⟨s, by omega, by omega, hb, rfl, fun r h1 h2 h3 => ?_, fun r h1 h2 => by omega⟩
          rcases (by omega : r = s ∨ s + 1 ≤ r) with q | q
          · rw [q]; exact Nat.le_refl _
          · have := t4 r q (by omega) h3; omega
    · rw [if_neg hb]
      rcases ih with ⟨e, h⟩ | ⟨t, t1, t2, t3, e, t4, t5⟩
      · left
        refine ⟨e, fun r h1 h2 => ?_⟩
        rcases (by omega : r = s ∨ s + 1 ≤ r) with q | q
        · rw [q]; exact hb
        · exact h r q (by omega)
      · right
        refine ⟨t, by omega, by omega, t3, e, fun r h1 h2 h3 => ?_, fun r h1 h2 h3 => ?_⟩
        · rcases (by omega : r = s ∨ s + 1 ≤ r) with q | q
          · rw [q] at h3; exact absurd h3 hb
          · exact t4 r q (by omega) h3
        · rcases (by omega : r = s ∨ s + 1 ≤ r) with q | q
          · rw [q] at h3; exact absurd h3 hb
          · exact t5 r q h2 h3
theorem bit_ns {v ns t : Nat} (hv : v < 2 ^ ns) (h : v / 2 ^ t % 2 = 1) : t < ns := by
  rcases Nat.lt_or_ge t ns with z | z
  · exact z
  · have : 2 ^ ns ≤ 2 ^ t := Nat.pow_le_pow_right (by decide) z
    rw [Nat.div_eq_of_lt (by omega)] at h; cases h
theorem ris_0 : ris 0 = [] := by decide
set_option maxHeartbeats 1000000 in
theorem gR_sp {h : Nat → Nat} {U ns : Nat} (hns : ns ≤ 8) : ∀ f v k, v < 2 ^ ns → cN v ≤ f → ∀ S, Mx h ns v (min (cN v) (U - k)) S → gR h U ns f v k = (hN h ns v - hN h ns S, ris S ++ ris (v - S)) := by
  intro f
  have h256 := p256 hns
  have zero : ∀ k S, Mx h ns 0 (min (cN 0) (U - k)) S → ((0, []) : Nat × List Nat) = (hN h ns 0 - hN h ns S, ris S ++ ris (0 - S)) := fun k S hM => by
    have : S = 0 := cN_0 S hM.1 (by rw [hM.2.2.1]; show min 0 _ = 0; omega)
    rw [this, Nat.sub_self, Nat.sub_self, ris_0]
    rfl
  induction f with
  | zero =>
    intro v k hv hc S hM
    have : v = 0 := cN_0 v (by omega) (by omega)
    rw [this] at hM ⊢
    exact zero k S hM
  | succ f ih =>
    intro v k hv hc S hM
    rw [gR]
    by_cases h0 : v = 0
    · rw [if_pos h0]
      rw [h0] at hM ⊢
      exact zero k S hM
    · rw [if_neg h0]
      have hv8 : v < 256 := by omega
      have hcv := cN_1 hv8 (by omega : 1 ≤ v)
      -- what is left of each
      have hrec : ∀ s, v / 2 ^ s % 2 = 1 → ∃ S2, Mx h ns (v - 2 ^ s) (min (cN v - 1) (U - (k + 1))) S2 ∧ gR h U ns f (v - 2 ^ s) (k + 1) = (hN h ns (v - 2 ^ s) - hN h ns S2, ris S2 ++ ris (v - 2 ^ s - S2)) := fun s hb => by
        have hs := bit_ns hv hb
        have ho := (cN_off v hv8 s (by omega) hb).1
        obtain ⟨S2, hS2⟩ := Mx_ex (h := h) (ns := ns) (v := v - 2 ^ s) (u := min (cN v - 1) (U - (k + 1))) (sub_l hv8) (by omega)
        refine ⟨S2, hS2, ih (v - 2 ^ s) (k + 1) (sub_l hv) (by omega) S2 ?_⟩
        rw [show cN (v - 2 ^ s) = cN v - 1 by omega]
        exact hS2
      obtain ⟨m0, hm0, hmb0, _⟩ := low_b v hv8 (by omega)
      rcases gRL_sp (v := v) (rec := fun s => ((if k < U then 0 else h s) + (gR h U ns f (v - 2 ^ s) (k + 1)).1, s :: (gR h U ns f (v - 2 ^ s) (k + 1)).2)) ns 0 with ⟨_, g⟩ | ⟨t, _, t2, t3, e, t4, t5⟩
      · have hs := bit_ns hv hmb0
        exact absurd hmb0 (g m0 (by omega) (by omega))
      · rw [e]
        simp only [Option.getD_some] at t4 t5 ⊢
        have ht : t < ns := by omega
        by_cases hU : k < U
        · simp only [if_pos hU, Nat.zero_add] at t4 t5 ⊢
          have hu1 : 1 ≤ cN S := by rw [hM.2.2.1]; omega
          have hS0 : 0 < S := by
            rcases Nat.eq_zero_or_pos S with q | q
            · rw [q] at hu1; exact absurd hu1 (by decide)
            · exact q
          obtain ⟨m, hm, hmb, hml⟩ := low_b S hM.1 hS0
          have hmv := (sb_iff hM.1).mp hM.2.1 m hm hmb
          have hmn := bit_ns hv hmv
          -- each with what is left of it
          have hT : ∀ s, v / 2 ^ s % 2 = 1 → ∃ T, T < 256 ∧ sb T v ∧ cN T = cN S ∧ T / 2 ^ s % 2 = 1 ∧ hN h ns T ≤ hN h ns v ∧ (gR h U ns f (v - 2 ^ s) (k + 1)).1 = hN h ns v - hN h ns T ∧ (gR h U ns f (v - 2 ^ s) (k + 1)).2 = ris (T - 2 ^ s) ++ ris (v - 2 ^ s - (T - 2 ^ s)) ∧ (∀ X, X < 256 → sb X v → cN X = cN S → X / 2 ^ s % 2 = 1 → wW h ns X ≤ wW h ns T) := fun s hb => by
            have hs := bit_ns hv hb
            obtain ⟨S2, ⟨a1, a2, a3, a4⟩, e2⟩ := hrec s hb
            have bo := (bit_off v hv8 s (by omega) hb).2
            have hS2s : S2 / 2 ^ s % 2 = 0 := by
              have h1 := bitle (v := S2) (i := s)
              by_cases q : S2 / 2 ^ s % 2 = 1
              · have := (sb_iff a1).mp a2 s (by omega) q
                rw [bo s (by omega), if_pos rfl] at this; cases this
              · omega
            obtain ⟨b1, b2, b3⟩ := bit_on S2 a1 s (by omega) hS2s
            have hon := hN_on (h := h) hns a1 hs hS2s
            have hof := hN_off (h := h) hns hv8 hs hb
            have hle := hN_le (h := h) hns a1 a2
            have hc2 : cN (S2 + 2 ^ s) = cN S := by rw [b2, a3, hM.2.2.1]; omega
            refine ⟨S2 + 2 ^ s, b1, (sb_iff b1).mpr (fun t ht q => ?_), hc2, by rw [b3 s (by omega), if_pos rfl], by omega, by rw [e2]; simp only; omega, by rw [e2, Nat.add_sub_cancel], fun X x1 x2 x3 x4 => ?_⟩
            · rw [b3 t ht] at q
              by_cases z : t = s
              · rw [z]; exact hb
              · rw [if_neg z] at q
                have := (sb_iff a1).mp a2 t ht q
                rw [bo t ht, if_neg z] at this
                exact this
            · have xo := bit_off X x1 s (by omega) x4
              have xc := (cN_off X x1 s (by omega) x4).1
              have xs : sb (X - 2 ^ s) (v - 2 ^ s) := (sb_iff (sub_l x1)).mpr (fun t ht q => by
                rw [xo.2 t ht] at q
                rw [bo t ht]
                by_cases z : t = s
                · rw [if_pos z] at q; cases q
                · rw [if_neg z] at q ⊢
                  exact (sb_iff x1).mp x2 t ht q)
              have := a4 (X - 2 ^ s) (sub_l x1) xs (by omega)
              have xh := hN_off (h := h) hns x1 hs x4
              have xr := rv_off X x1 s (by omega) x4
              have br := rv_off (S2 + 2 ^ s) b1 s (by omega) (by rw [b3 s (by omega), if_pos rfl])
              rw [Nat.add_sub_cancel] at br
              unfold wW at this ⊢
              omega
          obtain ⟨Tm, m1, m2, m3, m4, m5, m6, m7, m8⟩ := hT m hmv
          have eTm : Tm = S := wW_lt m1 hM.1 (Nat.le_antisymm (hM.2.2.2 Tm m1 m2 (m3.trans hM.2.2.1)) (m8 S hM.1 hM.2.1 rfl hmb))
          rw [eTm] at m5 m6 m7
          obtain ⟨Tt, n1, n2, n3, n4, n5, n6, n7, _⟩ := hT t t3
          have hW := wW_h hM.1 n1 (hM.2.2.2 Tt n1 n2 (n3.trans hM.2.2.1))
          have c1 := t4 m (by omega) (by omega) hmv
          rw [n6, m6] at c1
          have hEq : hN h ns Tt = hN h ns S := by omega
          have etm : t = m := by
            rcases (by omega : t < m ∨ t = m ∨ m < t) with q | q | q
            · have r1 := rv_ge Tt n1 t (by omega) n4
              have r2 := rv_lo S hM.1 t (by omega) (fun x hx => hml x (by omega))
              have := hW.2 hEq
              omega
            · exact q
            · have := t5 m (by omega) q hmv
              rw [n6, m6] at this
              omega
          have hSv := (sub_bits v hv8 S hM.1 hM.2.1).2.2.2.2.2.2.2.2
          have h2m := (bit_off S hM.1 m hm hmb).1
          rw [etm, m6, m7, ris_s S hM.1 m hm hmb hml, show v - 2 ^ m - (S - 2 ^ m) = v - S by omega]
          rfl
        · simp only [if_neg hU] at t4 t5 ⊢
          have hS : S = 0 := cN_0 S hM.1 (by rw [hM.2.2.1]; omega)
          have hcost : ∀ s, v / 2 ^ s % 2 = 1 → h s + (gR h U ns f (v - 2 ^ s) (k + 1)).1 = hN h ns v ∧ (gR h U ns f (v - 2 ^ s) (k + 1)).2 = ris (v - 2 ^ s) := fun s hb => by
            obtain ⟨S2, ⟨a1, a2, a3, a4⟩, e2⟩ := hrec s hb
            have : S2 = 0 := cN_0 S2 a1 (by rw [a3]; omega)
            rw [e2, this, ris_0]
            have hof := hN_off (h := h) hns hv8 (bit_ns hv hb) hb
            have h00 : hN h ns 0 = 0 := by
              have := hN_le (h := h) (ns := ns) (T := 0) (v := 0) hns (by omega) (sb_rf (by omega))
              unfold hN
              have z : ∀ n, sumN (fun s => 0 / 2 ^ s % 2 * h s) n = 0 := by
                intro n
                induction n with
                | zero => rfl
                | succ n ih => rw [sumN, ih, Nat.zero_div]; simp
              exact z ns
            rw [h00]
            refine ⟨by simp only; omega, by rfl⟩
          have hlow : ∀ r, r < t → v / 2 ^ r % 2 = 0 := fun r hr => by
            have h1 := bitle (v := v) (i := r)
            by_cases q : v / 2 ^ r % 2 = 1
            · have := t5 r (by omega) hr q
              rw [(hcost t t3).1, (hcost r q).1] at this
              omega
            · omega
          rw [(hcost t t3).1, (hcost t t3).2, hS, ris_0]
          have h00 : hN h ns 0 = 0 := by
            unfold hN
            have z : ∀ n, sumN (fun s => 0 / 2 ^ s % 2 * h s) n = 0 := by
              intro n
              induction n with
              | zero => rfl
              | succ n ih => rw [sumN, ih, Nat.zero_div]; simp
            exact z ns
          rw [h00, Nat.sub_zero, Nat.sub_zero]
          rw [ris_s v hv8 t (by omega) t3 hlow]
          rfl
