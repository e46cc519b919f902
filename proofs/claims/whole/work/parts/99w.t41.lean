/-! rules, by the class: steps on a stack of numbers -/
def sg7 (c : Nat) : Prop := c = 60 ∨ c = 62 ∨ c = 61 ∨ c = 43 ∨ c = 45 ∨ c = 42 ∨ c = 47
/-- a step on a stack, its top first -/
def stO (e : Nat → Int32) (x : Int32) (st st2 : List Int32) : Prop := (∃ n, n < 1000 ∧ x = nI n ∧ st2 = nI n :: st) ∨ (∃ j, j < 7 ∧ x = nI (1000 + j) ∧ st2 = e j :: st) ∨ (x = 2000 ∧ ∃ a r, st = a :: r ∧ st2 = -a :: r) ∨ (∃ c a b r, sg7 c ∧ x = nI (2000 + c) ∧ st = b :: a :: r ∧ st2 = jn c a b :: r)
def runO (e : Nat → Int32) : List Int32 → List Int32 → List Int32 → Prop
  | [], st, fin => st = fin
  | x :: xs, st, fin => ∃ st2, stO e x st st2 ∧ runO e xs st2 fin
theorem runO_app {e : Nat → Int32} : ∀ {A B st s2 fin : List Int32}, runO e A st s2 → runO e B s2 fin → runO e (A ++ B) st fin
  | [], _, _, _, _, h, g => by cases h; exact g
  | _ :: _, _, _, _, _, ⟨s3, h1, h2⟩, g => ⟨s3, h1, runO_app h2 g⟩
theorem runO_1 {e : Nat → Int32} {x : Int32} {st st2 : List Int32} (h : stO e x st st2) : runO e [x] st st2 := ⟨st2, h, rfl⟩
/-- what is read computes its value -/
def cmp (f : PS → RR) : Prop := ∀ (e : Nat → Int32) (s : PS) (st : List Int32), (f s).1.1 = true → runO e (f s).2.1 st ((f s).2.2 e :: st)
theorem cmp_gN {t : Nat → Nat} {E : Nat} : cmp (gN t E) := by
  intro e s st
  rw [gN.eq_def]
  split
  · split
    · next j h7 => intro _; exact runO_1 (Or.inr (Or.inl ⟨j, (lt7_s h7).2, rfl, rfl⟩))
    · intro q; cases q
  · intro q; cases q
theorem sNum_v {t : Nat → Nat} {E : Nat} {s : PS} : (sNum t E 3 0 999 s).1 < 1000 := by
  have h3 := sdig_v (t := t) (E := E) 3 0 s.2
  unfold sNum
  split
  · split
    · show 0 < 1000; omega
    · split
      · show (sdig t E 3 0 s.2).1 < 1000; omega
      · show (sdig t E 3 0 s.2).1 < 1000; omega
  · show 0 < 1000; omega
theorem sNeed_f {t : Nat → Nat} {E c : Nat} {s : PS} (hc : c < 2 ^ 31) (ht : ∀ k, k < E → t k < 256) (h : (sNeed t E c s).1 = true) : s.1 = true := by
  unfold sNeed at h
  split at h
  · next q => exact (pkS_eq hc ht q).1
  · cases h
theorem cmp_gB {t : Nat → Nat} {E : Nat} (ht : ∀ k, k < E → t k < 256) {f : Option (PS → RR)} (hf : ∀ g, f = some g → cmp g) : cmp (gB t E f) := by
  intro e s st
  rw [gB.eq_def]
  split
  · next h1 =>
    split
    · intro _; exact runO_1 (Or.inl ⟨_, sNum_v, rfl, rfl⟩)
    · cases f with
      | none => exact cmp_gN e s st
      | some g =>
        simp only
        split
        · intro q; exact hf g rfl e (true, s.2 + 1) st (sNeed_f (by decide) ht q)
        · exact cmp_gN e s st
  · next h1 => intro q; exact absurd q h1
theorem cmp_gT {t : Nat → Nat} {E : Nat} (ht : ∀ k, k < E → t k < 256) {f : Option (PS → RR)} (hf : ∀ g, f = some g → cmp g) : cmp (gT t E f) := by
  intro e s st h
  have h2 := cmp_gB ht hf e (sMin t E 40 s).2 st h
  show runO e ((gB t E f (sMin t E 40 s).2).2.1 ++ (if (sMin t E 40 s).1 % 2 = 1 then [2000] else [])) st ((if (sMin t E 40 s).1 % 2 = 1 then -((gB t E f (sMin t E 40 s).2).2.2 e) else (gB t E f (sMin t E 40 s).2).2.2 e) :: st)
  split
  · exact runO_app h2 (runO_1 (Or.inr (Or.inr (Or.inl ⟨rfl, _, _, rfl, rfl⟩))))
  · rw [List.append_nil]; exact h2
theorem cmp_gJ {t : Nat → Nat} {f : PS → RR} (hf : cmp f) {a : RR} {e : Nat → Int32} {st : List Int32} (hs : sg7 (t a.1.2)) (ha : runO e a.2.1 st (a.2.2 e :: st)) (h : (gJ t f a).1.1 = true) : runO e (gJ t f a).2.1 st ((gJ t f a).2.2 e :: st) :=
  runO_app (runO_app ha (hf e (true, a.1.2 + 1) _ h)) (runO_1 (Or.inr (Or.inr (Or.inr ⟨_, _, _, _, hs, rfl, rfl, rfl⟩))))
theorem gJ_fine {t : Nat → Nat} {E k1 k2 : Nat} {f : PS → RR} (ht : ∀ k, k < E → t k < 256) (hk : k1 < 2 ^ 31 ∧ k2 < 2 ^ 31) : ∀ (m : Nat) (a : RR), (gL t E k1 k2 f m a).1.1 = true → a.1.1 = true
  | 0, _, h => h
  | m + 1, a, h => by
    rw [gL] at h
    split at h
    · next q => exact q.elim (fun q => (pkS_eq hk.1 ht q).1) (fun q => (pkS_eq hk.2 ht q).1)
    · exact h
theorem cmp_gL {t : Nat → Nat} {E k1 k2 : Nat} {f : PS → RR} (ht : ∀ k, k < E → t k < 256) (hk : k1 < 2 ^ 31 ∧ k2 < 2 ^ 31) (hs : sg7 k1 ∧ sg7 k2) (hf : cmp f) {e : Nat → Int32} {st : List Int32} : ∀ (m : Nat) (a : RR), (a.1.1 = true → runO e a.2.1 st (a.2.2 e :: st)) → (gL t E k1 k2 f m a).1.1 = true → runO e (gL t E k1 k2 f m a).2.1 st ((gL t E k1 k2 f m a).2.2 e :: st)
  | 0, _, ha, h => ha h
  | m + 1, a, ha, h => by
    rw [gL] at h ⊢
    split at h
    · next q =>
      rw [if_pos q]
      have h1 : a.1.1 = true := q.elim (fun q => (pkS_eq hk.1 ht q).1) (fun q => (pkS_eq hk.2 ht q).1)
      have h2 : sg7 (t a.1.2) := q.elim (fun q => by rw [(pkS_eq hk.1 ht q).2.2]; exact hs.1) (fun q => by rw [(pkS_eq hk.2 ht q).2.2]; exact hs.2)
      exact cmp_gL ht hk hs hf m _ (fun g => cmp_gJ hf h2 (ha h1) g) h
    · next q => rw [if_neg q]; exact ha h
theorem cmp_gP {t : Nat → Nat} {E : Nat} (ht : ∀ k, k < E → t k < 256) {f : PS → RR} (hf : cmp f) : cmp (gP t E f) := fun e s st h => cmp_gL ht (by decide) ⟨by unfold sg7; decide, by unfold sg7; decide⟩ hf 40 (f s) (hf e s st) h
theorem cmp_gU {t : Nat → Nat} {E : Nat} (ht : ∀ k, k < E → t k < 256) {f : PS → RR} (hf : cmp f) : cmp (gU t E f) := fun e s st h => cmp_gL ht (by decide) ⟨by unfold sg7; decide, by unfold sg7; decide⟩ hf 40 (f s) (hf e s st) h
theorem cmp_gE {t : Nat → Nat} {E : Nat} (ht : ∀ k, k < E → t k < 256) {f : PS → RR} (hf : cmp f) : cmp (gE t E f) := by
  intro e s st h
  unfold gE at h ⊢
  split at h
  · next q =>
    rw [if_pos q]
    rcases q with q | q | q
    · have h3 := pkS_eq (by decide) ht q
      exact cmp_gJ hf (by rw [h3.2.2]; unfold sg7; decide) (hf e s st h3.1) h
    · have h3 := pkS_eq (by decide) ht q
      exact cmp_gJ hf (by rw [h3.2.2]; unfold sg7; decide) (hf e s st h3.1) h
    · have h3 := pkS_eq (by decide) ht q
      exact cmp_gJ hf (by rw [h3.2.2]; unfold sg7; decide) (hf e s st h3.1) h
  · next q => rw [if_neg q]; exact hf e s st h
theorem cmp_rE {t : Nat → Nat} {E : Nat} (ht : ∀ k, k < E → t k < 256) : ∀ r, cmp (rE t E r)
  | 0 => cmp_gE ht (cmp_gU ht (cmp_gP ht (cmp_gT ht (fun g e => by cases e))))
  | r + 1 => cmp_gE ht (cmp_gU ht (cmp_gP ht (cmp_gT ht (fun g e => by cases e; exact cmp_rE ht r))))
/-- a stack laid into a row, its top last -/
def onS (g : Nat → Int32) : List Int32 → Prop
  | [] => True
  | a :: r => g r.length = a ∧ onS g r
theorem onS_up {g g2 : Nat → Int32} : ∀ {st : List Int32}, (∀ j, j < st.length → g2 j = g j) → onS g st → onS g2 st
  | [], _, _ => trivial
  | _ :: r, h, ⟨h1, h2⟩ => ⟨(h r.length (by simp)).trans h1, onS_up (fun j hj => h j (by simp; omega)) h2⟩
theorem onS_put {I : Nat → Nat → Int32} {q : Nat} {st : List Int32} {v : Int32} (h : onS (I q) st) : onS (ti_wr I q st.length v q) (v :: st) := ⟨ti_wr_at, onS_up (fun j hj => wr_ne (by omega)) h⟩
theorem nI_dec {a : Nat} : nI (a + 1) + Int32.ofInt (-1) = nI a := by
  rw [← nI_pred a, Int32.sub_eq_add_neg]
  rfl
theorem k_joinN {I : Nat → Nat → Int32} {J : Nat → Nat → Int64} {R : Nat → Nat → Value} {d c : Nat} {a b : Int32} (h : sg7 c) : Cal lyC d hX5_joined 3 [.int (nI c), .int a, .int b] (I, J, R) (fun r M' => r = some (.int (jn c a b)) ∧ M' = (I, J, R)) := by
  rcases h with rfl | rfl | rfl | rfl | rfl | rfl | rfl
  · exact k_join60
  · exact k_join62
  · exact k_join61
  · exact k_join43
  · exact k_join45
  · exact k_join42
  · exact k_join47
theorem sg7_lt {c : Nat} (h : sg7 c) : 0 < c ∧ c < 100 := by
  unfold sg7 at h
  omega
theorem eq_up {I I2 : Nat → Nat → Int32} {q : Nat} (h : ∀ p, p ≠ q → I2 p = I p) : I2 = va_up I q (I2 q) := by
  funext p
  by_cases e : p = q
  · subst e; rw [va_up_q]
  · rw [h p e]; funext k; simp [va_up, e]
set_option maxHeartbeats 1000000 in
theorem k_compL_31 {I : Nat → Nat → Int32} {J : Nat → Nat → Int64} {R : Nat → Nat → Value} {d z : Nat} {fin : Int32} (hz : I 31 3 = nI z) (hz40 : z ≤ 40) (hz0 : 0 < z) : ∀ (T : List Int32) (k : Nat) (st : List Int32) (z3 : Option Value) (I2 : Nat → Nat → Int32), k + T.length = z → (∀ i v, T[i]? = some v → I 32 (k + i) = v) → st.length ≤ k → runO (I 34) T st [fin] → (∀ q, q ≠ 33 → I2 q = I q) → onS (I2 33) st → Ev lyC (d + 2) hX5_compute 4 [some (.ref 31), some (.int (nI st.length)), some (.int (nI k)), z3] [] (I2, J, R) (fun r M' => r = some (.int fin) ∧ ∃ g, M' = (va_up I 33 g, J, R)) := by
  intro T
  induction T with
  | nil =>
    intro k st z3 I2 hlen hC hst hrun hx2 hon
    simp only [List.length_nil] at hlen
    refine ev_st dX5_compute_4 rfl rfl ?_
    refine ev_st dX5_compute_5 rfl rfl ?_
    refine ev_getI (v := nI z) dX5_compute_6 fr_5_21 rfl rfl ((congrFun (hx2 31 (by decide)) 3).trans hz) ?_
    refine ev_ic_geN (t := 142) (a := k) (b := z) dX5_compute_9 (by decide) rfl rfl (by omega) (by omega) (fun c_9 => ?_) (fun c_9 => ?_)
    · refine ev_st dX5_compute_142 rfl rfl ?_
      refine ev_getC dX5_compute_143 fr_5_15 rfl rfl ?_
      refine ev_iconst (v := 0) dX5_compute_146 (by decide) ?_
      refine ev_iald (j := 0) (v := fin) dX5_compute_147 rfl rfl (by decide) (by decide) (by have h := hrun; rw [h] at hon; exact hon.1) ?_
      exact ev_iret dX5_compute_148 rfl (⟨rfl, I2 33, by rw [← eq_up hx2]⟩)
    · omega
  | cons x T ih =>
    intro k st z3 I2 hlen hC hst hrun hx2 hon
    have hkz : k < z := by simp only [List.length_cons] at hlen; omega
    obtain ⟨st2, h1, h2⟩ := hrun
    rcases h1 with ⟨n, hn, hx, rfl⟩ | ⟨j, hj, hx, rfl⟩ | ⟨hx, a, r, rfl, rfl⟩ | ⟨c, a, b, r, hc7, hx, rfl, rfl⟩
    · skip
      refine ev_st dX5_compute_4 rfl rfl ?_
      refine ev_st dX5_compute_5 rfl rfl ?_
      refine ev_getI (v := nI z) dX5_compute_6 fr_5_21 rfl rfl ((congrFun (hx2 31 (by decide)) 3).trans hz) ?_
      refine ev_ic_geN (t := 142) (a := k) (b := z) dX5_compute_9 (by decide) rfl rfl (by omega) (by omega) (fun c_9 => ?_) (fun c_9 => ?_)
      · omega
      · refine ev_st dX5_compute_12 rfl rfl ?_
        refine ev_getC dX5_compute_13 fr_5_11 rfl rfl ?_
        refine ev_st dX5_compute_16 rfl rfl ?_
        refine ev_iald (j := k) (v := nI n) dX5_compute_17 rfl rfl (by omega) (by decide) ((congrFun (hx2 32 (by decide)) k).trans ((hC 0 _ rfl).trans hx)) ?_
        refine ev_st (L' := [some (.ref 31), some (.int (nI st.length)), some (.int (nI k)), some (.int (nI n))]) dX5_compute_18 rfl rfl ?_
        refine ev_st dX5_compute_19 rfl rfl ?_
        refine ev_sipush (v := 2000) dX5_compute_20 (by decide) ?_
        refine ev_ic_neN (t := 50) (a := n) (b := 2000) dX5_compute_23 (by decide) rfl rfl (by omega) (by omega) (fun c_23 => ?_) (fun c_23 => ?_)
        · refine ev_st dX5_compute_50 rfl rfl ?_
          refine ev_sipush (v := 2000) dX5_compute_51 (by decide) ?_
          refine ev_ic_leN (t := 98) (a := n) (b := 2000) dX5_compute_54 (by decide) rfl rfl (by omega) (by omega) (fun c_54 => ?_) (fun c_54 => ?_)
          · refine ev_st dX5_compute_98 rfl rfl ?_
            refine ev_st dX5_compute_99 rfl rfl ?_
            refine ev_getC dX5_compute_100 fr_5_15 rfl rfl ?_
            refine ev_alen (v := 40) dX5_compute_103 rfl (by decide) rfl ?_
            refine ev_ic_geN (t := 136) (a := st.length) (b := 40) dX5_compute_104 (by decide) rfl rfl (by omega) (by omega) (fun c_104 => ?_) (fun c_104 => ?_)
            · omega
            · refine ev_st dX5_compute_107 rfl rfl ?_
              refine ev_getC dX5_compute_108 fr_5_15 rfl rfl ?_
              refine ev_st dX5_compute_111 rfl rfl ?_
              refine ev_st dX5_compute_112 rfl rfl ?_
              refine ev_sipush (v := 1000) dX5_compute_113 (by decide) ?_
              refine ev_ic_geN (t := 123) (a := n) (b := 1000) dX5_compute_116 (by decide) rfl rfl (by omega) (by omega) (fun c_116 => ?_) (fun c_116 => ?_)
              · omega
              · refine ev_st dX5_compute_119 rfl rfl ?_
                refine ev_goto (t := 132) dX5_compute_120 (by decide) ?_
                refine ev_iast (j := st.length) dX5_compute_132 rfl rfl (by omega) (by decide) ?_
                refine ev_iincN (a := st.length) (b := st.length + 1) (L' := [some (.ref 31), some (.int (nI (st.length + 1))), some (.int (nI k)), some (.int (nI n))]) dX5_compute_133 rfl (nI_1 _) rfl ?_
                refine ev_iincN (a := k) (b := k + 1) (L' := [some (.ref 31), some (.int (nI (st.length + 1))), some (.int (nI (k + 1))), some (.int (nI n))]) dX5_compute_136 rfl (nI_1 _) rfl ?_
                refine ev_goto (t := 4) dX5_compute_139 (by decide) ?_
                exact ih (k + 1) (nI n :: st) _ _ (by simp only [List.length_cons] at hlen; omega) (fun i v e => by rw [Nat.add_right_comm]; exact hC (i + 1) v e) (by simp only [List.length_cons] at hst ⊢; omega) h2 (fun q hq => (ti_wr_n hq).trans (hx2 q hq)) (onS_put hon)
          · omega
        · omega
    · skip
      refine ev_st dX5_compute_4 rfl rfl ?_
      refine ev_st dX5_compute_5 rfl rfl ?_
      refine ev_getI (v := nI z) dX5_compute_6 fr_5_21 rfl rfl ((congrFun (hx2 31 (by decide)) 3).trans hz) ?_
      refine ev_ic_geN (t := 142) (a := k) (b := z) dX5_compute_9 (by decide) rfl rfl (by omega) (by omega) (fun c_9 => ?_) (fun c_9 => ?_)
      · omega
      · refine ev_st dX5_compute_12 rfl rfl ?_
        refine ev_getC dX5_compute_13 fr_5_11 rfl rfl ?_
        refine ev_st dX5_compute_16 rfl rfl ?_
        refine ev_iald (j := k) (v := nI (1000 + j)) dX5_compute_17 rfl rfl (by omega) (by decide) ((congrFun (hx2 32 (by decide)) k).trans ((hC 0 _ rfl).trans hx)) ?_
        refine ev_st (L' := [some (.ref 31), some (.int (nI st.length)), some (.int (nI k)), some (.int (nI (1000 + j)))]) dX5_compute_18 rfl rfl ?_
        refine ev_st dX5_compute_19 rfl rfl ?_
        refine ev_sipush (v := 2000) dX5_compute_20 (by decide) ?_
        refine ev_ic_neN (t := 50) (a := 1000 + j) (b := 2000) dX5_compute_23 (by decide) rfl rfl (by omega) (by omega) (fun c_23 => ?_) (fun c_23 => ?_)
        · refine ev_st dX5_compute_50 rfl rfl ?_
          refine ev_sipush (v := 2000) dX5_compute_51 (by decide) ?_
          refine ev_ic_leN (t := 98) (a := 1000 + j) (b := 2000) dX5_compute_54 (by decide) rfl rfl (by omega) (by omega) (fun c_54 => ?_) (fun c_54 => ?_)
          · refine ev_st dX5_compute_98 rfl rfl ?_
            refine ev_st dX5_compute_99 rfl rfl ?_
            refine ev_getC dX5_compute_100 fr_5_15 rfl rfl ?_
            refine ev_alen (v := 40) dX5_compute_103 rfl (by decide) rfl ?_
            refine ev_ic_geN (t := 136) (a := st.length) (b := 40) dX5_compute_104 (by decide) rfl rfl (by omega) (by omega) (fun c_104 => ?_) (fun c_104 => ?_)
            · omega
            · refine ev_st dX5_compute_107 rfl rfl ?_
              refine ev_getC dX5_compute_108 fr_5_15 rfl rfl ?_
              refine ev_st dX5_compute_111 rfl rfl ?_
              refine ev_st dX5_compute_112 rfl rfl ?_
              refine ev_sipush (v := 1000) dX5_compute_113 (by decide) ?_
              refine ev_ic_geN (t := 123) (a := 1000 + j) (b := 1000) dX5_compute_116 (by decide) rfl rfl (by omega) (by omega) (fun c_116 => ?_) (fun c_116 => ?_)
              · refine ev_st dX5_compute_123 rfl rfl ?_
                refine ev_st dX5_compute_124 rfl rfl ?_
                refine ev_sipush (v := 1000) dX5_compute_125 (by decide) ?_
                refine ev_isubN (a := 1000 + j) (b := 1000) (c := j) dX5_compute_128 rfl rfl (by omega) (by omega) ?_
                refine ev_call dX5_compute_129 rfl rfl mr_5_36 rfl rfl rfl (k_valueOf_31 hj) ?_
                rintro _ _ ⟨rfl, rfl⟩
                show Ev lyC (d + 2) hX5_compute 132 [some (.ref 31), some (.int (nI st.length)), some (.int (nI k)), some (.int (nI (1000 + j)))] [.int (I2 34 j), .int (nI st.length), .ref 33] (I2, J, R) _
                refine ev_iast (j := st.length) dX5_compute_132 rfl rfl (by omega) (by decide) ?_
                refine ev_iincN (a := st.length) (b := st.length + 1) (L' := [some (.ref 31), some (.int (nI (st.length + 1))), some (.int (nI k)), some (.int (nI (1000 + j)))]) dX5_compute_133 rfl (nI_1 _) rfl ?_
                refine ev_iincN (a := k) (b := k + 1) (L' := [some (.ref 31), some (.int (nI (st.length + 1))), some (.int (nI (k + 1))), some (.int (nI (1000 + j)))]) dX5_compute_136 rfl (nI_1 _) rfl ?_
                refine ev_goto (t := 4) dX5_compute_139 (by decide) ?_
                exact ih (k + 1) (I 34 j :: st) _ _ (by simp only [List.length_cons] at hlen; omega) (fun i v e => by rw [Nat.add_right_comm]; exact hC (i + 1) v e) (by simp only [List.length_cons] at hst ⊢; omega) h2 (fun q hq => (ti_wr_n hq).trans (hx2 q hq)) (by rw [hx2 34 (by decide)]; exact onS_put hon)
              · omega
          · omega
        · omega
    · simp only [List.length_cons] at hst
      show Ev lyC (d + 2) hX5_compute 4 [some (.ref 31), some (.int (nI (r.length + 1))), some (.int (nI k)), z3] [] (I2, J, R) _
      refine ev_st dX5_compute_4 rfl rfl ?_
      refine ev_st dX5_compute_5 rfl rfl ?_
      refine ev_getI (v := nI z) dX5_compute_6 fr_5_21 rfl rfl ((congrFun (hx2 31 (by decide)) 3).trans hz) ?_
      refine ev_ic_geN (t := 142) (a := k) (b := z) dX5_compute_9 (by decide) rfl rfl (by omega) (by omega) (fun c_9 => ?_) (fun c_9 => ?_)
      · omega
      · refine ev_st dX5_compute_12 rfl rfl ?_
        refine ev_getC dX5_compute_13 fr_5_11 rfl rfl ?_
        refine ev_st dX5_compute_16 rfl rfl ?_
        refine ev_iald (j := k) (v := nI 2000) dX5_compute_17 rfl rfl (by omega) (by decide) ((congrFun (hx2 32 (by decide)) k).trans ((hC 0 _ rfl).trans hx)) ?_
        refine ev_st (L' := [some (.ref 31), some (.int (nI (r.length + 1))), some (.int (nI k)), some (.int (nI 2000))]) dX5_compute_18 rfl rfl ?_
        refine ev_st dX5_compute_19 rfl rfl ?_
        refine ev_sipush (v := 2000) dX5_compute_20 (by decide) ?_
        refine ev_ic_neN (t := 50) (a := 2000) (b := 2000) dX5_compute_23 (by decide) rfl rfl (by omega) (by omega) (fun c_23 => ?_) (fun c_23 => ?_)
        · omega
        · refine ev_st dX5_compute_26 rfl rfl ?_
          refine ev_if_leN (t := 136) (a := r.length + 1) dX5_compute_27 (by decide) rfl (by omega) (fun c_27 => ?_) (fun c_27 => ?_)
          · omega
          · refine ev_st dX5_compute_30 rfl rfl ?_
            refine ev_getC dX5_compute_31 fr_5_15 rfl rfl ?_
            refine ev_st dX5_compute_34 rfl rfl ?_
            refine ev_iconst (v := 1) dX5_compute_35 (by decide) ?_
            refine ev_isubN (a := r.length + 1) (b := 1) (c := r.length) dX5_compute_36 rfl rfl (by omega) (by omega) ?_
            refine ev_st dX5_compute_37 rfl rfl ?_
            refine ev_getC dX5_compute_38 fr_5_15 rfl rfl ?_
            refine ev_st dX5_compute_41 rfl rfl ?_
            refine ev_iconst (v := 1) dX5_compute_42 (by decide) ?_
            refine ev_isubN (a := r.length + 1) (b := 1) (c := r.length) dX5_compute_43 rfl rfl (by omega) (by omega) ?_
            refine ev_iald (j := r.length) (v := a) dX5_compute_44 rfl rfl (by omega) (by decide) hon.1 ?_
            refine ev_st dX5_compute_45 rfl rfl ?_
            refine ev_iast (j := r.length) dX5_compute_46 rfl rfl (by omega) (by decide) ?_
            refine ev_goto (t := 136) dX5_compute_47 (by decide) ?_
            refine ev_iincN (a := k) (b := k + 1) (L' := [some (.ref 31), some (.int (nI (r.length + 1))), some (.int (nI (k + 1))), some (.int (nI 2000))]) dX5_compute_136 rfl (nI_1 _) rfl ?_
            refine ev_goto (t := 4) dX5_compute_139 (by decide) ?_
            exact ih (k + 1) (-a :: r) _ _ (by simp only [List.length_cons] at hlen; omega) (fun i v e => by rw [Nat.add_right_comm]; exact hC (i + 1) v e) (by simp only [List.length_cons] at hst ⊢; omega) h2 (fun q hq => (ti_wr_n hq).trans (hx2 q hq)) (onS_put hon.2)
    · simp only [List.length_cons] at hst
      have hc100 := sg7_lt hc7
      show Ev lyC (d + 2) hX5_compute 4 [some (.ref 31), some (.int (nI (r.length + 2))), some (.int (nI k)), z3] [] (I2, J, R) _
      refine ev_st dX5_compute_4 rfl rfl ?_
      refine ev_st dX5_compute_5 rfl rfl ?_
      refine ev_getI (v := nI z) dX5_compute_6 fr_5_21 rfl rfl ((congrFun (hx2 31 (by decide)) 3).trans hz) ?_
      refine ev_ic_geN (t := 142) (a := k) (b := z) dX5_compute_9 (by decide) rfl rfl (by omega) (by omega) (fun c_9 => ?_) (fun c_9 => ?_)
      · omega
      · refine ev_st dX5_compute_12 rfl rfl ?_
        refine ev_getC dX5_compute_13 fr_5_11 rfl rfl ?_
        refine ev_st dX5_compute_16 rfl rfl ?_
        refine ev_iald (j := k) (v := nI (2000 + c)) dX5_compute_17 rfl rfl (by omega) (by decide) ((congrFun (hx2 32 (by decide)) k).trans ((hC 0 _ rfl).trans hx)) ?_
        refine ev_st (L' := [some (.ref 31), some (.int (nI (r.length + 2))), some (.int (nI k)), some (.int (nI (2000 + c)))]) dX5_compute_18 rfl rfl ?_
        refine ev_st dX5_compute_19 rfl rfl ?_
        refine ev_sipush (v := 2000) dX5_compute_20 (by decide) ?_
        refine ev_ic_neN (t := 50) (a := 2000 + c) (b := 2000) dX5_compute_23 (by decide) rfl rfl (by omega) (by omega) (fun c_23 => ?_) (fun c_23 => ?_)
        · refine ev_st dX5_compute_50 rfl rfl ?_
          refine ev_sipush (v := 2000) dX5_compute_51 (by decide) ?_
          refine ev_ic_leN (t := 98) (a := 2000 + c) (b := 2000) dX5_compute_54 (by decide) rfl rfl (by omega) (by omega) (fun c_54 => ?_) (fun c_54 => ?_)
          · omega
          · refine ev_st dX5_compute_57 rfl rfl ?_
            refine ev_iconst (v := 1) dX5_compute_58 (by decide) ?_
            refine ev_ic_leN (t := 136) (a := r.length + 2) (b := 1) dX5_compute_59 (by decide) rfl rfl (by omega) (by omega) (fun c_59 => ?_) (fun c_59 => ?_)
            · omega
            · refine ev_iinc (x := nI (r.length + 2)) (v := nI (r.length + 1)) (L' := [some (.ref 31), some (.int (nI (r.length + 1))), some (.int (nI k)), some (.int (nI (2000 + c)))]) dX5_compute_62 rfl nI_dec rfl ?_
              refine ev_st dX5_compute_65 rfl rfl ?_
              refine ev_getC dX5_compute_66 fr_5_15 rfl rfl ?_
              refine ev_st dX5_compute_69 rfl rfl ?_
              refine ev_iconst (v := 1) dX5_compute_70 (by decide) ?_
              refine ev_isubN (a := r.length + 1) (b := 1) (c := r.length) dX5_compute_71 rfl rfl (by omega) (by omega) ?_
              refine ev_st dX5_compute_72 rfl rfl ?_
              refine ev_sipush (v := 2000) dX5_compute_73 (by decide) ?_
              refine ev_isubN (a := 2000 + c) (b := 2000) (c := c) dX5_compute_76 rfl rfl (by omega) (by omega) ?_
              refine ev_st dX5_compute_77 rfl rfl ?_
              refine ev_getC dX5_compute_78 fr_5_15 rfl rfl ?_
              refine ev_st dX5_compute_81 rfl rfl ?_
              refine ev_iconst (v := 1) dX5_compute_82 (by decide) ?_
              refine ev_isubN (a := r.length + 1) (b := 1) (c := r.length) dX5_compute_83 rfl rfl (by omega) (by omega) ?_
              refine ev_iald (j := r.length) (v := a) dX5_compute_84 rfl rfl (by omega) (by decide) hon.2.1 ?_
              refine ev_st dX5_compute_85 rfl rfl ?_
              refine ev_getC dX5_compute_86 fr_5_15 rfl rfl ?_
              refine ev_st dX5_compute_89 rfl rfl ?_
              refine ev_iald (j := r.length + 1) (v := b) dX5_compute_90 rfl rfl (by omega) (by decide) hon.1 ?_
              refine ev_call dX5_compute_91 rfl rfl mr_5_33 rfl rfl rfl (k_joinN hc7) ?_
              rintro _ _ ⟨rfl, rfl⟩
              show Ev lyC (d + 2) hX5_compute 94 [some (.ref 31), some (.int (nI (r.length + 1))), some (.int (nI k)), some (.int (nI (2000 + c)))] [.int (jn c a b), .int (nI r.length), .ref 33] (I2, J, R) _
              refine ev_iast (j := r.length) dX5_compute_94 rfl rfl (by omega) (by decide) ?_
              refine ev_goto (t := 136) dX5_compute_95 (by decide) ?_
              refine ev_iincN (a := k) (b := k + 1) (L' := [some (.ref 31), some (.int (nI (r.length + 1))), some (.int (nI (k + 1))), some (.int (nI (2000 + c)))]) dX5_compute_136 rfl (nI_1 _) rfl ?_
              refine ev_goto (t := 4) dX5_compute_139 (by decide) ?_
              exact ih (k + 1) (jn c a b :: r) _ _ (by simp only [List.length_cons] at hlen; omega) (fun i v e => by rw [Nat.add_right_comm]; exact hC (i + 1) v e) (by simp only [List.length_cons] at hst ⊢; omega) h2 (fun q hq => (ti_wr_n hq).trans (hx2 q hq)) (onS_put hon.2.2)
        · omega
theorem RC_t31 {d E : Nat} {t : Nat → Nat} {g : Nat → Int32} {C : List Int32} (ht : ∀ k, k < E → t k < 256) (hC40 : C.length ≤ 40) (hC : ∀ k v, C[k]? = some v → g k = v) (hok : (rE t E 4 (true, 0)).1.1 = true) (he : C = (rE t E 4 (true, 0)).2.1) : RC d 31 g C.length (rvT t E) := by
  refine ⟨hC40, fun h0 I J R h1 h2 => ?_⟩
  have hrun : runO (I 34) C [] [(rE t E 4 (true, 0)).2.2 (I 34)] := by rw [he]; exact cmp_rE ht 4 (I 34) (true, 0) [] hok
  rw [rvT_e (e := I (31 + 3))]
  show Ev lyC (d + 2) hX5_compute 0 [some (.ref 31), none, none, none] [] (I, J, R) _
  refine ev_iconst (v := 0) dX5_compute_0 (by decide) ?_
  refine ev_st (L' := [some (.ref 31), some (.int 0), none, none]) dX5_compute_1 rfl rfl ?_
  refine ev_iconst (v := 0) dX5_compute_2 (by decide) ?_
  refine ev_st (L' := [some (.ref 31), some (.int 0), some (.int 0), none]) dX5_compute_3 rfl rfl ?_
  exact k_compL_31 h2 hC40 h0 C 0 [] _ I (by omega) (fun i v e => by rw [Nat.zero_add, h1]; exact hC i v e) (Nat.le_refl _) hrun (fun _ _ => rfl) trivial
set_option maxHeartbeats 1000000 in
theorem k_compL_35 {I : Nat → Nat → Int32} {J : Nat → Nat → Int64} {R : Nat → Nat → Value} {d z : Nat} {fin : Int32} (hz : I 35 3 = nI z) (hz40 : z ≤ 40) (hz0 : 0 < z) : ∀ (T : List Int32) (k : Nat) (st : List Int32) (z3 : Option Value) (I2 : Nat → Nat → Int32), k + T.length = z → (∀ i v, T[i]? = some v → I 36 (k + i) = v) → st.length ≤ k → runO (I 38) T st [fin] → (∀ q, q ≠ 37 → I2 q = I q) → onS (I2 37) st → Ev lyC (d + 2) hX5_compute 4 [some (.ref 35), some (.int (nI st.length)), some (.int (nI k)), z3] [] (I2, J, R) (fun r M' => r = some (.int fin) ∧ ∃ g, M' = (va_up I 37 g, J, R)) := by
  intro T
  induction T with
  | nil =>
    intro k st z3 I2 hlen hC hst hrun hx2 hon
    simp only [List.length_nil] at hlen
    refine ev_st dX5_compute_4 rfl rfl ?_
    refine ev_st dX5_compute_5 rfl rfl ?_
    refine ev_getI (v := nI z) dX5_compute_6 fr_5_21 rfl rfl ((congrFun (hx2 35 (by decide)) 3).trans hz) ?_
    refine ev_ic_geN (t := 142) (a := k) (b := z) dX5_compute_9 (by decide) rfl rfl (by omega) (by omega) (fun c_9 => ?_) (fun c_9 => ?_)
    · refine ev_st dX5_compute_142 rfl rfl ?_
      refine ev_getC dX5_compute_143 fr_5_15 rfl rfl ?_
      refine ev_iconst (v := 0) dX5_compute_146 (by decide) ?_
      refine ev_iald (j := 0) (v := fin) dX5_compute_147 rfl rfl (by decide) (by decide) (by have h := hrun; rw [h] at hon; exact hon.1) ?_
      exact ev_iret dX5_compute_148 rfl (⟨rfl, I2 37, by rw [← eq_up hx2]⟩)
    · omega
  | cons x T ih =>
    intro k st z3 I2 hlen hC hst hrun hx2 hon
    have hkz : k < z := by simp only [List.length_cons] at hlen; omega
    obtain ⟨st2, h1, h2⟩ := hrun
    rcases h1 with ⟨n, hn, hx, rfl⟩ | ⟨j, hj, hx, rfl⟩ | ⟨hx, a, r, rfl, rfl⟩ | ⟨c, a, b, r, hc7, hx, rfl, rfl⟩
    · skip
      refine ev_st dX5_compute_4 rfl rfl ?_
      refine ev_st dX5_compute_5 rfl rfl ?_
      refine ev_getI (v := nI z) dX5_compute_6 fr_5_21 rfl rfl ((congrFun (hx2 35 (by decide)) 3).trans hz) ?_
      refine ev_ic_geN (t := 142) (a := k) (b := z) dX5_compute_9 (by decide) rfl rfl (by omega) (by omega) (fun c_9 => ?_) (fun c_9 => ?_)
      · omega
      · refine ev_st dX5_compute_12 rfl rfl ?_
        refine ev_getC dX5_compute_13 fr_5_11 rfl rfl ?_
        refine ev_st dX5_compute_16 rfl rfl ?_
        refine ev_iald (j := k) (v := nI n) dX5_compute_17 rfl rfl (by omega) (by decide) ((congrFun (hx2 36 (by decide)) k).trans ((hC 0 _ rfl).trans hx)) ?_
        refine ev_st (L' := [some (.ref 35), some (.int (nI st.length)), some (.int (nI k)), some (.int (nI n))]) dX5_compute_18 rfl rfl ?_
        refine ev_st dX5_compute_19 rfl rfl ?_
        refine ev_sipush (v := 2000) dX5_compute_20 (by decide) ?_
        refine ev_ic_neN (t := 50) (a := n) (b := 2000) dX5_compute_23 (by decide) rfl rfl (by omega) (by omega) (fun c_23 => ?_) (fun c_23 => ?_)
        · refine ev_st dX5_compute_50 rfl rfl ?_
          refine ev_sipush (v := 2000) dX5_compute_51 (by decide) ?_
          refine ev_ic_leN (t := 98) (a := n) (b := 2000) dX5_compute_54 (by decide) rfl rfl (by omega) (by omega) (fun c_54 => ?_) (fun c_54 => ?_)
          · refine ev_st dX5_compute_98 rfl rfl ?_
            refine ev_st dX5_compute_99 rfl rfl ?_
            refine ev_getC dX5_compute_100 fr_5_15 rfl rfl ?_
            refine ev_alen (v := 40) dX5_compute_103 rfl (by decide) rfl ?_
            refine ev_ic_geN (t := 136) (a := st.length) (b := 40) dX5_compute_104 (by decide) rfl rfl (by omega) (by omega) (fun c_104 => ?_) (fun c_104 => ?_)
            · omega
            · refine ev_st dX5_compute_107 rfl rfl ?_
              refine ev_getC dX5_compute_108 fr_5_15 rfl rfl ?_
              refine ev_st dX5_compute_111 rfl rfl ?_
              refine ev_st dX5_compute_112 rfl rfl ?_
              refine ev_sipush (v := 1000) dX5_compute_113 (by decide) ?_
              refine ev_ic_geN (t := 123) (a := n) (b := 1000) dX5_compute_116 (by decide) rfl rfl (by omega) (by omega) (fun c_116 => ?_) (fun c_116 => ?_)
              · omega
              · refine ev_st dX5_compute_119 rfl rfl ?_
                refine ev_goto (t := 132) dX5_compute_120 (by decide) ?_
                refine ev_iast (j := st.length) dX5_compute_132 rfl rfl (by omega) (by decide) ?_
                refine ev_iincN (a := st.length) (b := st.length + 1) (L' := [some (.ref 35), some (.int (nI (st.length + 1))), some (.int (nI k)), some (.int (nI n))]) dX5_compute_133 rfl (nI_1 _) rfl ?_
                refine ev_iincN (a := k) (b := k + 1) (L' := [some (.ref 35), some (.int (nI (st.length + 1))), some (.int (nI (k + 1))), some (.int (nI n))]) dX5_compute_136 rfl (nI_1 _) rfl ?_
                refine ev_goto (t := 4) dX5_compute_139 (by decide) ?_
                exact ih (k + 1) (nI n :: st) _ _ (by simp only [List.length_cons] at hlen; omega) (fun i v e => by rw [Nat.add_right_comm]; exact hC (i + 1) v e) (by simp only [List.length_cons] at hst ⊢; omega) h2 (fun q hq => (ti_wr_n hq).trans (hx2 q hq)) (onS_put hon)
          · omega
        · omega
    · skip
      refine ev_st dX5_compute_4 rfl rfl ?_
      refine ev_st dX5_compute_5 rfl rfl ?_
      refine ev_getI (v := nI z) dX5_compute_6 fr_5_21 rfl rfl ((congrFun (hx2 35 (by decide)) 3).trans hz) ?_
      refine ev_ic_geN (t := 142) (a := k) (b := z) dX5_compute_9 (by decide) rfl rfl (by omega) (by omega) (fun c_9 => ?_) (fun c_9 => ?_)
      · omega
      · refine ev_st dX5_compute_12 rfl rfl ?_
        refine ev_getC dX5_compute_13 fr_5_11 rfl rfl ?_
        refine ev_st dX5_compute_16 rfl rfl ?_
        refine ev_iald (j := k) (v := nI (1000 + j)) dX5_compute_17 rfl rfl (by omega) (by decide) ((congrFun (hx2 36 (by decide)) k).trans ((hC 0 _ rfl).trans hx)) ?_
        refine ev_st (L' := [some (.ref 35), some (.int (nI st.length)), some (.int (nI k)), some (.int (nI (1000 + j)))]) dX5_compute_18 rfl rfl ?_
        refine ev_st dX5_compute_19 rfl rfl ?_
        refine ev_sipush (v := 2000) dX5_compute_20 (by decide) ?_
        refine ev_ic_neN (t := 50) (a := 1000 + j) (b := 2000) dX5_compute_23 (by decide) rfl rfl (by omega) (by omega) (fun c_23 => ?_) (fun c_23 => ?_)
        · refine ev_st dX5_compute_50 rfl rfl ?_
          refine ev_sipush (v := 2000) dX5_compute_51 (by decide) ?_
          refine ev_ic_leN (t := 98) (a := 1000 + j) (b := 2000) dX5_compute_54 (by decide) rfl rfl (by omega) (by omega) (fun c_54 => ?_) (fun c_54 => ?_)
          · refine ev_st dX5_compute_98 rfl rfl ?_
            refine ev_st dX5_compute_99 rfl rfl ?_
            refine ev_getC dX5_compute_100 fr_5_15 rfl rfl ?_
            refine ev_alen (v := 40) dX5_compute_103 rfl (by decide) rfl ?_
            refine ev_ic_geN (t := 136) (a := st.length) (b := 40) dX5_compute_104 (by decide) rfl rfl (by omega) (by omega) (fun c_104 => ?_) (fun c_104 => ?_)
            · omega
            · refine ev_st dX5_compute_107 rfl rfl ?_
              refine ev_getC dX5_compute_108 fr_5_15 rfl rfl ?_
              refine ev_st dX5_compute_111 rfl rfl ?_
              refine ev_st dX5_compute_112 rfl rfl ?_
              refine ev_sipush (v := 1000) dX5_compute_113 (by decide) ?_
              refine ev_ic_geN (t := 123) (a := 1000 + j) (b := 1000) dX5_compute_116 (by decide) rfl rfl (by omega) (by omega) (fun c_116 => ?_) (fun c_116 => ?_)
              · refine ev_st dX5_compute_123 rfl rfl ?_
                refine ev_st dX5_compute_124 rfl rfl ?_
                refine ev_sipush (v := 1000) dX5_compute_125 (by decide) ?_
                refine ev_isubN (a := 1000 + j) (b := 1000) (c := j) dX5_compute_128 rfl rfl (by omega) (by omega) ?_
                refine ev_call dX5_compute_129 rfl rfl mr_5_36 rfl rfl rfl (k_valueOf_35 hj) ?_
                rintro _ _ ⟨rfl, rfl⟩
                show Ev lyC (d + 2) hX5_compute 132 [some (.ref 35), some (.int (nI st.length)), some (.int (nI k)), some (.int (nI (1000 + j)))] [.int (I2 38 j), .int (nI st.length), .ref 37] (I2, J, R) _
                refine ev_iast (j := st.length) dX5_compute_132 rfl rfl (by omega) (by decide) ?_
                refine ev_iincN (a := st.length) (b := st.length + 1) (L' := [some (.ref 35), some (.int (nI (st.length + 1))), some (.int (nI k)), some (.int (nI (1000 + j)))]) dX5_compute_133 rfl (nI_1 _) rfl ?_
                refine ev_iincN (a := k) (b := k + 1) (L' := [some (.ref 35), some (.int (nI (st.length + 1))), some (.int (nI (k + 1))), some (.int (nI (1000 + j)))]) dX5_compute_136 rfl (nI_1 _) rfl ?_
                refine ev_goto (t := 4) dX5_compute_139 (by decide) ?_
                exact ih (k + 1) (I 38 j :: st) _ _ (by simp only [List.length_cons] at hlen; omega) (fun i v e => by rw [Nat.add_right_comm]; exact hC (i + 1) v e) (by simp only [List.length_cons] at hst ⊢; omega) h2 (fun q hq => (ti_wr_n hq).trans (hx2 q hq)) (by rw [hx2 38 (by decide)]; exact onS_put hon)
              · omega
          · omega
        · omega
    · simp only [List.length_cons] at hst
      show Ev lyC (d + 2) hX5_compute 4 [some (.ref 35), some (.int (nI (r.length + 1))), some (.int (nI k)), z3] [] (I2, J, R) _
      refine ev_st dX5_compute_4 rfl rfl ?_
      refine ev_st dX5_compute_5 rfl rfl ?_
      refine ev_getI (v := nI z) dX5_compute_6 fr_5_21 rfl rfl ((congrFun (hx2 35 (by decide)) 3).trans hz) ?_
      refine ev_ic_geN (t := 142) (a := k) (b := z) dX5_compute_9 (by decide) rfl rfl (by omega) (by omega) (fun c_9 => ?_) (fun c_9 => ?_)
      · omega
      · refine ev_st dX5_compute_12 rfl rfl ?_
        refine ev_getC dX5_compute_13 fr_5_11 rfl rfl ?_
        refine ev_st dX5_compute_16 rfl rfl ?_
        refine ev_iald (j := k) (v := nI 2000) dX5_compute_17 rfl rfl (by omega) (by decide) ((congrFun (hx2 36 (by decide)) k).trans ((hC 0 _ rfl).trans hx)) ?_
        refine ev_st (L' := [some (.ref 35), some (.int (nI (r.length + 1))), some (.int (nI k)), some (.int (nI 2000))]) dX5_compute_18 rfl rfl ?_
        refine ev_st dX5_compute_19 rfl rfl ?_
        refine ev_sipush (v := 2000) dX5_compute_20 (by decide) ?_
        refine ev_ic_neN (t := 50) (a := 2000) (b := 2000) dX5_compute_23 (by decide) rfl rfl (by omega) (by omega) (fun c_23 => ?_) (fun c_23 => ?_)
        · omega
        · refine ev_st dX5_compute_26 rfl rfl ?_
          refine ev_if_leN (t := 136) (a := r.length + 1) dX5_compute_27 (by decide) rfl (by omega) (fun c_27 => ?_) (fun c_27 => ?_)
          · omega
          · refine ev_st dX5_compute_30 rfl rfl ?_
            refine ev_getC dX5_compute_31 fr_5_15 rfl rfl ?_
            refine ev_st dX5_compute_34 rfl rfl ?_
            refine ev_iconst (v := 1) dX5_compute_35 (by decide) ?_
            refine ev_isubN (a := r.length + 1) (b := 1) (c := r.length) dX5_compute_36 rfl rfl (by omega) (by omega) ?_
            refine ev_st dX5_compute_37 rfl rfl ?_
            refine ev_getC dX5_compute_38 fr_5_15 rfl rfl ?_
            refine ev_st dX5_compute_41 rfl rfl ?_
            refine ev_iconst (v := 1) dX5_compute_42 (by decide) ?_
            refine ev_isubN (a := r.length + 1) (b := 1) (c := r.length) dX5_compute_43 rfl rfl (by omega) (by omega) ?_
            refine ev_iald (j := r.length) (v := a) dX5_compute_44 rfl rfl (by omega) (by decide) hon.1 ?_
            refine ev_st dX5_compute_45 rfl rfl ?_
            refine ev_iast (j := r.length) dX5_compute_46 rfl rfl (by omega) (by decide) ?_
            refine ev_goto (t := 136) dX5_compute_47 (by decide) ?_
            refine ev_iincN (a := k) (b := k + 1) (L' := [some (.ref 35), some (.int (nI (r.length + 1))), some (.int (nI (k + 1))), some (.int (nI 2000))]) dX5_compute_136 rfl (nI_1 _) rfl ?_
            refine ev_goto (t := 4) dX5_compute_139 (by decide) ?_
            exact ih (k + 1) (-a :: r) _ _ (by simp only [List.length_cons] at hlen; omega) (fun i v e => by rw [Nat.add_right_comm]; exact hC (i + 1) v e) (by simp only [List.length_cons] at hst ⊢; omega) h2 (fun q hq => (ti_wr_n hq).trans (hx2 q hq)) (onS_put hon.2)
    · simp only [List.length_cons] at hst
      have hc100 := sg7_lt hc7
      show Ev lyC (d + 2) hX5_compute 4 [some (.ref 35), some (.int (nI (r.length + 2))), some (.int (nI k)), z3] [] (I2, J, R) _
      refine ev_st dX5_compute_4 rfl rfl ?_
      refine ev_st dX5_compute_5 rfl rfl ?_
      refine ev_getI (v := nI z) dX5_compute_6 fr_5_21 rfl rfl ((congrFun (hx2 35 (by decide)) 3).trans hz) ?_
      refine ev_ic_geN (t := 142) (a := k) (b := z) dX5_compute_9 (by decide) rfl rfl (by omega) (by omega) (fun c_9 => ?_) (fun c_9 => ?_)
      · omega
      · refine ev_st dX5_compute_12 rfl rfl ?_
        refine ev_getC dX5_compute_13 fr_5_11 rfl rfl ?_
        refine ev_st dX5_compute_16 rfl rfl ?_
        refine ev_iald (j := k) (v := nI (2000 + c)) dX5_compute_17 rfl rfl (by omega) (by decide) ((congrFun (hx2 36 (by decide)) k).trans ((hC 0 _ rfl).trans hx)) ?_
        refine ev_st (L' := [some (.ref 35), some (.int (nI (r.length + 2))), some (.int (nI k)), some (.int (nI (2000 + c)))]) dX5_compute_18 rfl rfl ?_
        refine ev_st dX5_compute_19 rfl rfl ?_
        refine ev_sipush (v := 2000) dX5_compute_20 (by decide) ?_
        refine ev_ic_neN (t := 50) (a := 2000 + c) (b := 2000) dX5_compute_23 (by decide) rfl rfl (by omega) (by omega) (fun c_23 => ?_) (fun c_23 => ?_)
        · refine ev_st dX5_compute_50 rfl rfl ?_
          refine ev_sipush (v := 2000) dX5_compute_51 (by decide) ?_
          refine ev_ic_leN (t := 98) (a := 2000 + c) (b := 2000) dX5_compute_54 (by decide) rfl rfl (by omega) (by omega) (fun c_54 => ?_) (fun c_54 => ?_)
          · omega
          · refine ev_st dX5_compute_57 rfl rfl ?_
            refine ev_iconst (v := 1) dX5_compute_58 (by decide) ?_
            refine ev_ic_leN (t := 136) (a := r.length + 2) (b := 1) dX5_compute_59 (by decide) rfl rfl (by omega) (by omega) (fun c_59 => ?_) (fun c_59 => ?_)
            · omega
            · refine ev_iinc (x := nI (r.length + 2)) (v := nI (r.length + 1)) (L' := [some (.ref 35), some (.int (nI (r.length + 1))), some (.int (nI k)), some (.int (nI (2000 + c)))]) dX5_compute_62 rfl nI_dec rfl ?_
              refine ev_st dX5_compute_65 rfl rfl ?_
              refine ev_getC dX5_compute_66 fr_5_15 rfl rfl ?_
              refine ev_st dX5_compute_69 rfl rfl ?_
              refine ev_iconst (v := 1) dX5_compute_70 (by decide) ?_
              refine ev_isubN (a := r.length + 1) (b := 1) (c := r.length) dX5_compute_71 rfl rfl (by omega) (by omega) ?_
              refine ev_st dX5_compute_72 rfl rfl ?_
              refine ev_sipush (v := 2000) dX5_compute_73 (by decide) ?_
              refine ev_isubN (a := 2000 + c) (b := 2000) (c := c) dX5_compute_76 rfl rfl (by omega) (by omega) ?_
              refine ev_st dX5_compute_77 rfl rfl ?_
              refine ev_getC dX5_compute_78 fr_5_15 rfl rfl ?_
              refine ev_st dX5_compute_81 rfl rfl ?_
              refine ev_iconst (v := 1) dX5_compute_82 (by decide) ?_
              refine ev_isubN (a := r.length + 1) (b := 1) (c := r.length) dX5_compute_83 rfl rfl (by omega) (by omega) ?_
              refine ev_iald (j := r.length) (v := a) dX5_compute_84 rfl rfl (by omega) (by decide) hon.2.1 ?_
              refine ev_st dX5_compute_85 rfl rfl ?_
              refine ev_getC dX5_compute_86 fr_5_15 rfl rfl ?_
              refine ev_st dX5_compute_89 rfl rfl ?_
              refine ev_iald (j := r.length + 1) (v := b) dX5_compute_90 rfl rfl (by omega) (by decide) hon.1 ?_
              refine ev_call dX5_compute_91 rfl rfl mr_5_33 rfl rfl rfl (k_joinN hc7) ?_
              rintro _ _ ⟨rfl, rfl⟩
              show Ev lyC (d + 2) hX5_compute 94 [some (.ref 35), some (.int (nI (r.length + 1))), some (.int (nI k)), some (.int (nI (2000 + c)))] [.int (jn c a b), .int (nI r.length), .ref 37] (I2, J, R) _
              refine ev_iast (j := r.length) dX5_compute_94 rfl rfl (by omega) (by decide) ?_
              refine ev_goto (t := 136) dX5_compute_95 (by decide) ?_
              refine ev_iincN (a := k) (b := k + 1) (L' := [some (.ref 35), some (.int (nI (r.length + 1))), some (.int (nI (k + 1))), some (.int (nI (2000 + c)))]) dX5_compute_136 rfl (nI_1 _) rfl ?_
              refine ev_goto (t := 4) dX5_compute_139 (by decide) ?_
              exact ih (k + 1) (jn c a b :: r) _ _ (by simp only [List.length_cons] at hlen; omega) (fun i v e => by rw [Nat.add_right_comm]; exact hC (i + 1) v e) (by simp only [List.length_cons] at hst ⊢; omega) h2 (fun q hq => (ti_wr_n hq).trans (hx2 q hq)) (onS_put hon.2.2)
        · omega
theorem RC_t35 {d E : Nat} {t : Nat → Nat} {g : Nat → Int32} {C : List Int32} (ht : ∀ k, k < E → t k < 256) (hC40 : C.length ≤ 40) (hC : ∀ k v, C[k]? = some v → g k = v) (hok : (rE t E 4 (true, 0)).1.1 = true) (he : C = (rE t E 4 (true, 0)).2.1) : RC d 35 g C.length (rvT t E) := by
  refine ⟨hC40, fun h0 I J R h1 h2 => ?_⟩
  have hrun : runO (I 38) C [] [(rE t E 4 (true, 0)).2.2 (I 38)] := by rw [he]; exact cmp_rE ht 4 (I 38) (true, 0) [] hok
  rw [rvT_e (e := I (35 + 3))]
  show Ev lyC (d + 2) hX5_compute 0 [some (.ref 35), none, none, none] [] (I, J, R) _
  refine ev_iconst (v := 0) dX5_compute_0 (by decide) ?_
  refine ev_st (L' := [some (.ref 35), some (.int 0), none, none]) dX5_compute_1 rfl rfl ?_
  refine ev_iconst (v := 0) dX5_compute_2 (by decide) ?_
  refine ev_st (L' := [some (.ref 35), some (.int 0), some (.int 0), none]) dX5_compute_3 rfl rfl ?_
  exact k_compL_35 h2 hC40 h0 C 0 [] _ I (by omega) (fun i v e => by rw [Nat.zero_add, h1]; exact hC i v e) (Nat.le_refl _) hrun (fun _ _ => rfl) trivial
