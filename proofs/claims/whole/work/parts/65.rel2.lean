/-! acts on both states: take, leave, seventh, say -/
theorem bt_on : ∀ v, v < 256 → ∀ j, j < 8 → v / 2 ^ j % 2 = 0 → nI v ||| ((1 : Int32) <<< (nI j &&& 31)) = nI (v + 2 ^ j) ∧ v + 2 ^ j < 256 ∧ cN (v + 2 ^ j) = cN v + 1 := by decide +kernel
theorem bN_up {g : Nat → Int32} {j : Nat} {x : Int32} : ∀ n, j < n → bN (upd g j x) n + (if g j = 1 then 2 ^ j else 0) = bN g n + (if x = 1 then 2 ^ j else 0)
  | 0, h => by omega
  | n + 1, h => by
    simp only [bN]
    by_cases e : j = n
    · subst e
      have : bN (upd g j x) j = bN g j := bN_ext j (fun b hb => upd_ne (by omega))
      rw [this, show upd g j x j = x by simp [upd]]
      omega
    · have ih := bN_up (g := g) (j := j) (x := x) n (by omega)
      rw [show upd g j x n = g n from upd_ne (by omega)]
      omega
theorem row8 {row : Nat → Int32} {j : Nat} {x : Int32} : (fun b => upd row (8 + j) x (8 + b)) = upd (fun b => row (8 + b)) j x := by
  funext b
  by_cases e : b = j
  · subst e; simp [upd]
  · rw [upd_ne (f := fun b => row (8 + b)) e, upd_ne (by omega)]
theorem row16 {row : Nat → Int32} {j : Nat} {x : Int32} : (fun b => upd row (16 + j) x (16 + b)) = upd (fun b => row (16 + b)) j x := by
  funext b
  by_cases e : b = j
  · subst e; simp [upd]
  · rw [upd_ne (f := fun b => row (16 + b)) e, upd_ne (by omega)]
theorem b01_up {g : Nat → Int32} {n j : Nat} {x : Int32} (h : b01 g n) (hx : x = 0 ∨ x = 1) : b01 (upd g j x) n := by
  intro b hb
  by_cases e : b = j
  · subst e; rw [show upd g b x b = x by simp [upd]]; exact hx
  · rw [upd_ne e]; exact h b hb
theorem bN256 {g : Nat → Int32} {n : Nat} (hn : n ≤ 8) : bN g n < 256 := Nat.lt_of_lt_of_le (bN_lt g n) (Nat.pow_le_pow_right (by decide) hn)
theorem bt_set {g : Nat → Int32} {n j : Nat} (hn : n ≤ 8) (h : b01 g n) (hj : j < n) (h0 : g j = 0) : m_bt (upd g j 1) n = m_bt g n ||| ((1 : Int32) <<< (nI j &&& 31)) ∧ cN (bN (upd g j 1) n) = cN (bN g n) + 1 := by
  have hb := bN_bit (g := g) n j hj
  rw [if_neg (by rw [h0]; decide)] at hb
  have e := bN_up (g := g) (j := j) (x := 1) n hj
  rw [if_neg (by rw [h0]; decide), if_pos rfl] at e
  have k := bt_on (bN g n) (bN256 hn) j (by omega) hb
  rw [bt_bN n hn (b01_up h (Or.inr rfl)), bt_bN n hn h, k.1, show bN (upd g j 1) n = bN g n + 2 ^ j by omega]
  exact ⟨rfl, k.2.2⟩
theorem bt_clr {g : Nat → Int32} {n j : Nat} (hn : n ≤ 8) (h : b01 g n) (hj : j < n) (h1 : g j = 1) : m_bt (upd g j 0) n = m_bt g n &&& (((1 : Int32) <<< (nI j &&& 31)) ^^^ (-1)) ∧ cN (bN (upd g j 0) n) + 1 = cN (bN g n) := by
  have hb := bN_bit (g := g) n j hj
  rw [if_pos h1] at hb
  have e := bN_up (g := g) (j := j) (x := 0) n hj
  rw [if_pos h1, if_neg (by decide)] at e
  have k := cN_off (bN g n) (bN256 hn) j (by omega) hb
  rw [bt_bN n hn (b01_up h (Or.inl rfl)), bt_bN n hn h, k.2.1, show bN (upd g j 0) n = bN g n - 2 ^ j by omega]
  exact ⟨rfl, k.1⟩
theorem WS.c8 {row : Nat → Int32} {n ns c a j : Nat} {x : Int32} (h : WS row n ns c a) (hn : n ≤ 8) (hj : j < n) (hx : x = 0 ∨ x = 1) (h6 : cN (bN (upd (fun b => row (8 + b)) j x) n) ≤ 6) : WS (upd row (8 + j) x) n ns c a := by
  obtain ⟨h1, h2, h3, h4, h5, h6', h7, h8, h9⟩ := h
  refine ⟨by rw [upd_ne (by omega)]; exact h1, h2, fun b hb => by rw [upd_ne (by omega)]; exact h3 b hb, by rw [row8]; exact b01_up h4 hx, fun b hb => ?_, by rw [upd_ne (by omega)]; exact h6', by rw [upd_ne (by omega)]; exact h7, by rw [upd_ne (by omega)]; exact h8, by rw [row8]; exact h6⟩
  show upd row (8 + j) x (16 + b) = 0 ∨ upd row (8 + j) x (16 + b) = 1
  rw [upd_ne (by omega)]; exact h5 b hb
theorem SR.c8 {f t row : Nat → Int32} {n ns j : Nat} {x v : Int32} (h : SR f t row n ns) (hn : n ≤ 8) (hj : j < n) (e : v = m_bt (upd (fun b => row (8 + b)) j x) n) {f' t' : Nat → Int32} (e1 : f' = upd f 3 v) (e2 : t' = t) : SR f' t' (upd row (8 + j) x) n ns := by
  obtain ⟨h1, h2, h3, h4, h5, h6, h7, h8, h9⟩ := h
  subst e1; subst e2
  refine ⟨by rw [upd_ne (by decide), upd_ne (by omega)]; exact h1, by rw [upd_ne (by decide), upd_ne (by omega)]; exact h2, by rw [row8, ← e]; simp [upd], by rw [upd_ne (by decide), upd_ne (by omega)]; exact h4, ?_, by rw [upd_ne (by decide), upd_ne (by omega)]; exact h6, by rw [upd_ne (by decide), upd_ne (by omega)]; exact h7, fun b hb => by rw [upd_ne (by omega)]; exact h8 b hb, h9⟩
  rw [upd_ne (by decide), h5]
  exact bt_ext ns (fun b hb => (upd_ne (by omega)).symm)
theorem wr_q {I : Nat → Nat → Int32} {q k : Nat} {v : Int32} : ti_wr I q k v q = upd (I q) k v := by funext j; simp [ti_wr, va_up]
theorem qF_wr {q k : Nat} {I : Nat → Nat → Int32} {v : Int32} : qF q I (ti_wr I q k v) := fun p _ _ _ _ e _ => ti_wr_n e
theorem bc_cN {v : Nat} (h : v < 256) : bc (nI v) = nI (cN v) := cN_bc v h
/-- one takes hold -/
def aTk (q n ns c a : Nat) (row : Nat → Int32) (j : Nat) (I : Nat → Nat → Int32) (J : Nat → Nat → Int64) (R : Nat → Nat → Value) (r : Option Value) (M' : TM) : Prop :=
  (m_rT n row (nI j) < 0 ∧ r = some (.int (m_rT n row (nI j))) ∧ M' = (I, J, R)) ∨ (m_rT n row (nI j) = 0 ∧ r = some (.int (bc (m_cy (upd row (8 + j) 1) n))) ∧ ∃ I3, M' = (I3, J, R) ∧ qF q I I3 ∧ SR (I3 q) (I3 (q + 1)) (upd row (8 + j) 1) n ns ∧ WS (upd row (8 + j) 1) n ns c a)
def aLv (q n ns c a : Nat) (row : Nat → Int32) (j : Nat) (I : Nat → Nat → Int32) (J : Nat → Nat → Int64) (R : Nat → Nat → Value) (r : Option Value) (M' : TM) : Prop :=
  (m_rL n row (nI j) < 0 ∧ row (8 + j) = 0 ∧ r = some (.int (m_rL n row (nI j))) ∧ M' = (I, J, R)) ∨ (m_rL n row (nI j) = 0 ∧ row (8 + j) = 1 ∧ r = some (.int (bc (m_cy (upd row (8 + j) 0) n))) ∧ ∃ I3, M' = (I3, J, R) ∧ qF q I I3 ∧ SR (I3 q) (I3 (q + 1)) (upd row (8 + j) 0) n ns ∧ WS (upd row (8 + j) 0) n ns c a)
theorem a_take {I : Nat → Nat → Int32} {J : Nat → Nat → Int64} {R : Nat → Nat → Value} {d n c ns a q j : Nat} {row : Nat → Int32} (hq : q = 39 ∨ q = 41) (hn : I 8 3 = nI n) (hn8 : n ≤ 8) (hr : SR (I q) (I (q + 1)) row n ns) (hw : WS row n ns c a) (hj : j < n) : Cal lyC (d + 1) hX7_takeHold 3 [.ref q, .ref 8, .int (nI j)] (I, J, R) (aTk q n ns c a row j I J R) := by
  have hx : ix n (nI j) = some j := ix_nI (by omega) hj
  have hq3 := hr.2.2.1
  have g01 := hw.2.2.2.1
  have hbc : bc (m_cy row n) = nI (cN (bN (fun b => row (8 + b)) n)) := by rw [m_cy_bt, bt_bN n hn8 g01, bc_cN (bN256 hn8)]
  have h6 := hw.2.2.2.2.2.2.2.2
  have hrT : m_rT n row (nI j) = if row (8 + j) = 1 then -2 else if bc (m_cy row n) = 6 then -3 else 0 := by unfold m_rT; rw [hx]
  have key : ∀ r M', (if ¬ k_b (I q 3) (nI j) = 0 then r = some (.int (-2)) ∧ M' = (I, J, R) else if bc (I q 3) < 6 then r = some (.int (bc (I q 3 ||| (1 <<< (nI j &&& 31))))) ∧ M' = (ti_wr I q 3 (I q 3 ||| (1 <<< (nI j &&& 31))), J, R) else r = some (.int (-3)) ∧ M' = (I, J, R)) → aTk q n ns c a row j I J R r M' := by
    intro r M' h
    rw [hq3, bt_bit hn8 g01 hj] at h
    rcases g01 j hj with h0 | h1
    · simp only at h0
      rw [if_neg (by rw [h0]; simp), ← m_cy_bt, hbc] at h
      rw [if_neg (by rw [h0]; decide), hbc] at hrT
      by_cases e : cN (bN (fun b => row (8 + b)) n) = 6
      · rw [if_neg (by rw [e]; decide)] at h
        rw [if_pos (by rw [e]; rfl)] at hrT
        exact Or.inl ⟨by rw [hrT]; decide, by rw [hrT]; exact h.1, h.2⟩
      · rw [if_pos (by rw [show (6 : Int32) = nI 6 from rfl, nI_ltI (by omega) (by decide)]; omega)] at h
        rw [if_neg (by rw [show (6 : Int32) = nI 6 from rfl, nI_eq (by omega) (by decide)]; exact e)] at hrT
        have hs := bt_set hn8 g01 hj h0
        rw [m_cy_bt, ← hs.1] at h
        refine Or.inr ⟨hrT, by rw [m_cy_bt, row8]; exact h.1, _, h.2, qF_wr, ?_, hw.c8 hn8 hj (Or.inr rfl) (by rw [hs.2]; omega)⟩
        exact hr.c8 hn8 hj rfl wr_q (ti_wr_n (by omega))
    · simp only at h1
      rw [if_pos (by rw [h1]; decide)] at h
      rw [if_pos h1] at hrT
      exact Or.inl ⟨by rw [hrT]; decide, by rw [hrT]; exact h.1, h.2⟩
  rcases hq with rfl | rfl
  · exact (k_takeHold_39 hn hx).imp key
  · exact (k_takeHold_41 hn hx).imp key
theorem a_leave {I : Nat → Nat → Int32} {J : Nat → Nat → Int64} {R : Nat → Nat → Value} {d n c ns a q j : Nat} {row : Nat → Int32} (hq : q = 39 ∨ q = 41) (hn : I 8 3 = nI n) (hn8 : n ≤ 8) (hr : SR (I q) (I (q + 1)) row n ns) (hw : WS row n ns c a) (hj : j < n) : Cal lyC (d + 1) hX7_letGo 3 [.ref q, .ref 8, .int (nI j)] (I, J, R) (aLv q n ns c a row j I J R) := by
  have hx : ix n (nI j) = some j := ix_nI (by omega) hj
  have hq3 := hr.2.2.1
  have g01 := hw.2.2.2.1
  have h6 := hw.2.2.2.2.2.2.2.2
  have hrL : m_rL n row (nI j) = if row (8 + j) = 0 then -2 else 0 := by unfold m_rL; rw [hx]
  have key : ∀ r M', (if k_b (I q 3) (nI j) = 0 then r = some (.int (-2)) ∧ M' = (I, J, R) else r = some (.int (bc (I q 3 &&& ((1 <<< (nI j &&& 31)) ^^^ (-1))))) ∧ M' = (ti_wr I q 3 (I q 3 &&& ((1 <<< (nI j &&& 31)) ^^^ (-1))), J, R)) → aLv q n ns c a row j I J R r M' := by
    intro r M' h
    rw [hq3, bt_bit hn8 g01 hj] at h
    rcases g01 j hj with h0 | h1
    · simp only at h0
      rw [if_pos h0] at h hrL
      exact Or.inl ⟨by rw [hrL]; decide, h0, by rw [hrL]; exact h.1, h.2⟩
    · simp only at h1
      rw [if_neg (by rw [h1]; decide)] at h hrL
      have hs := bt_clr hn8 g01 hj h1
      rw [← hs.1] at h
      refine Or.inr ⟨hrL, h1, by rw [m_cy_bt, row8]; exact h.1, _, h.2, qF_wr, ?_, hw.c8 hn8 hj (Or.inl rfl) (by omega)⟩
      exact hr.c8 hn8 hj rfl wr_q (ti_wr_n (by omega))
  rcases hq with rfl | rfl
  · exact (k_letGo_39 hn hx).imp key
  · exact (k_letGo_41 hn hx).imp key
theorem WS.u26 {row : Nat → Int32} {n ns c a w : Nat} (h : WS row n ns c a) (hn : n ≤ 8) (hns : ns ≤ 8) (hw : w < 4) : WS (upd row 26 (nI w)) n ns c a := by
  obtain ⟨h1, h2, h3, h4, h5, h6', h7, h8, h9⟩ := h
  refine ⟨by rw [upd_ne (by omega)]; exact h1, h2, fun b hb => by rw [upd_ne (by omega)]; exact h3 b hb, fun b hb => ?_, fun b hb => ?_, by rw [upd_ne (by omega)]; exact h6', ⟨w, hw, by simp [upd]⟩, by rw [upd_ne (by omega)]; exact h8, ?_⟩
  · show upd row 26 (nI w) (8 + b) = 0 ∨ upd row 26 (nI w) (8 + b) = 1
    rw [upd_ne (by omega)]; exact h4 b hb
  · show upd row 26 (nI w) (16 + b) = 0 ∨ upd row 26 (nI w) (16 + b) = 1
    rw [upd_ne (by omega)]; exact h5 b hb
  · rw [bN_ext n (fun b hb => show upd row 26 (nI w) (8 + b) = row (8 + b) from upd_ne (by omega))]; exact h9
theorem SR.u26 {f t row f' t' : Nat → Int32} {n ns : Nat} {v : Int32} (h : SR f t row n ns) (hn : n ≤ 8) (hns : ns ≤ 8) (e1 : f' = upd f 4 v) (e2 : t' = t) : SR f' t' (upd row 26 v) n ns := by
  obtain ⟨h1, h2, h3, h4, h5, h6, h7, h8, h9⟩ := h
  subst e1; subst e2
  refine ⟨by rw [upd_ne (by decide), upd_ne (by omega)]; exact h1, by rw [upd_ne (by decide), upd_ne (by omega)]; exact h2, ?_, by simp [upd], ?_, by rw [upd_ne (by decide), upd_ne (by omega)]; exact h6, by rw [upd_ne (by decide), upd_ne (by omega)]; exact h7, fun b hb => by rw [upd_ne (by omega)]; exact h8 b hb, h9⟩
  · rw [upd_ne (by decide), h3]; exact bt_ext n (fun b hb => (upd_ne (by omega)).symm)
  · rw [upd_ne (by decide), h5]; exact bt_ext ns (fun b hb => (upd_ne (by omega)).symm)
/-- another walks behind -/
def aFw (q n ns c a : Nat) (row : Nat → Int32) (w : Nat) (I : Nat → Nat → Int32) (J : Nat → Nat → Int64) (R : Nat → Nat → Value) (r : Option Value) (M' : TM) : Prop :=
  (row 26 = nI w ∧ r = some (.int (-2)) ∧ M' = (I, J, R)) ∨ (¬ row 26 = nI w ∧ r = some (.int (row 26)) ∧ ∃ I3, M' = (I3, J, R) ∧ qF q I I3 ∧ SR (I3 q) (I3 (q + 1)) (upd row 26 (nI w)) n ns ∧ WS (upd row 26 (nI w)) n ns c a)
theorem a_follow {I : Nat → Nat → Int32} {J : Nat → Nat → Int64} {R : Nat → Nat → Value} {d n c ns a q w : Nat} {row : Nat → Int32} (hq : q = 39 ∨ q = 41) (hn8 : n ≤ 8) (hns8 : ns ≤ 8) (hr : SR (I q) (I (q + 1)) row n ns) (hw : WS row n ns c a) (hw4 : w < 4) : Cal lyC d hX7_follow 3 [.ref q, .int (nI w)] (I, J, R) (aFw q n ns c a row w I J R) := by
  have l0 : ¬ nI w < 0 := nI_pos (by omega)
  have l4 : nI w < 4 := by rw [show (4 : Int32) = nI 4 from rfl, nI_ltI (by omega) (by decide)]; exact hw4
  have key : ∀ r M', (r = some (.int (if nI w < 0 then -1 else if nI w < 4 then (if nI w = I q 4 then -2 else I q 4) else -1)) ∧ M' = (if nI w < 0 then I else if nI w < 4 then (if nI w = I q 4 then I else ti_wr I q 4 (nI w)) else I, J, R)) → aFw q n ns c a row w I J R r M' := by
    intro r M' ⟨h1, h2⟩
    rw [if_neg l0, if_pos l4, hr.2.2.2.1] at h1 h2
    by_cases e : nI w = row 26
    · rw [if_pos e] at h1 h2
      exact Or.inl ⟨e.symm, h1, h2⟩
    · rw [if_neg e] at h1 h2
      refine Or.inr ⟨fun z => e z.symm, h1, _, h2, qF_wr, ?_, hw.u26 hn8 hns8 hw4⟩
      exact hr.u26 hn8 hns8 wr_q (ti_wr_n (by omega))
  rcases hq with rfl | rfl
  · exact (k_follow_39 (nI w)).imp key
  · exact (k_follow_41 (nI w)).imp key
/-- a saying is said -/
theorem la_eq {I : Nat → Nat → Int32} {sp str tl sy : Nat → Int32} {n c ns s : Nat} (hst : ST I sp str tl sy n c ns) (hs : s < ns) (l : Int32) : k_la I l s = m_lb sy l s := by
  obtain ⟨_, _, _, _, _, _, _, _, _, h, _⟩ := hst
  obtain ⟨h1, h2, h3, h4⟩ := h s hs
  have e : k_tr I s = m_tr sy s := by
    unfold k_tr m_tr
    rw [h2]
    rcases k_b01 (I 11 3) (nI s) with q | q
    · rw [h2] at q; rw [q]; decide
    · rw [h2] at q; rw [q]; decide
  unfold k_la m_lb
  rw [e, h1]
  generalize (if m_tr sy s = 0 then l + sy (4 * s) else l - sy (4 * s)) = v
  unfold k_wi
  show _ = if 0 < (if v < 999 then v else 999) then (if v < 999 then v else 999) else 0
  by_cases a : v < 0
  · have b : v < 999 := Int32.lt_of_lt_of_le a (by decide)
    rw [if_pos a, if_pos b, if_neg (Int32.not_lt.mpr (Int32.le_of_lt a))]
  · rw [if_neg a]
    by_cases b : 999 < v
    · have b' : ¬ v < 999 := Int32.not_lt.mpr (Int32.le_of_lt b)
      rw [if_pos b, if_neg b', if_pos (by decide)]
    · rw [if_neg b]
      by_cases b' : v < 999
      · rw [if_pos b']
        by_cases z : 0 < v
        · rw [if_pos z]
        · rw [if_neg z]; exact Int32.le_antisymm (Int32.not_lt.mp z) (Int32.not_lt.mp a)
      · rw [if_neg b', if_pos (by decide)]; exact Int32.le_antisymm (Int32.not_lt.mp b) (Int32.not_lt.mp b')
theorem lb_nI {sy : Nat → Int32} {l : Int32} {s : Nat} : ∃ t, t ≤ 999 ∧ m_lb sy l s = nI t := by
  unfold m_lb
  generalize (if m_tr sy s = 0 then l + sy (4 * s) else l - sy (4 * s)) = v
  show ∃ t, t ≤ 999 ∧ (if 0 < (if v < 999 then v else 999) then (if v < 999 then v else 999) else 0) = nI t
  by_cases h : v < 999
  · rw [if_pos h]
    by_cases h0 : 0 < v
    · rw [if_pos h0]
      exact nI_of2 (M := 999) (n := 999) (by decide) (Int32.not_lt.mpr (Int32.le_of_lt h0)) (Int32.le_of_lt h)
    · rw [if_neg h0]; exact ⟨0, by omega, rfl⟩
  · rw [if_neg h]; exact ⟨999, by omega, by decide⟩
theorem hi_eq {I : Nat → Nat → Int32} {sp str tl sy row : Nat → Int32} {q n c ns a s : Nat} (hst : ST I sp str tl sy n c ns) (hr : SR (I q) (I (q + 1)) row n ns) (hw : WS row n ns c a) (hs : s < ns) : k_hi I q c a s = m_rY ns c a sy row (nI s) := by
  have hns8 := hst.2.2.2.2.2.2.1
  obtain ⟨_, _, _, _, _, _, _, _, _, h, _⟩ := hst
  obtain ⟨h1, h2, h3, h4⟩ := h s hs
  have hx : ix ns (nI s) = some s := ix_nI (by omega) hs
  unfold k_hi m_rY
  rw [hx, hr.2.2.2.2.1, bt_bit hns8 hw.2.2.2.2.1 hs, h4, hr.2.2.2.1, hr.2.2.2.2.2.1]
  simp only [m_kn, has_kb]
  have e27 := hw.2.2.2.2.2.2.2.1
  rcases hw.2.2.2.2.1 s hs with e | e <;> simp only at e <;> rw [e]
  · rw [if_neg (show ¬ ¬ (0 : Int32) = 0 by decide), if_neg (show ¬ (0 : Int32) = 1 by decide)]
    by_cases hk : k_b (sy (4 * s + 3)) (row 26) = 0
    · rw [if_pos hk, if_pos hk]
    · rw [if_neg hk, if_neg hk]
      rcases e27 with e | e <;> rw [e]
      · rw [if_neg (show ¬ ¬ (0 : Int32) = 0 by decide), if_neg (show ¬ (0 : Int32) = 1 by decide)]
        by_cases hc : a < c
        · rw [if_pos hc, if_neg (Nat.not_le.mpr hc)]
        · rw [if_neg hc, if_pos (Nat.not_lt.mp hc)]
      · rw [if_pos (show ¬ (1 : Int32) = 0 by decide), if_pos rfl]
  · rw [if_pos (show ¬ (1 : Int32) = 0 by decide), if_pos rfl]
theorem gy_at {sy row : Nat → Int32} {s j : Nat} (h : ¬ j = 25 ∧ ¬ j = 27 ∧ ¬ j = 16 + s) : m_gy sy row s j = row j := by
  rw [m_gy, upd_ne (by omega), upd_ne (by omega), upd_ne (by omega)]
theorem WS.gy {sy row : Nat → Int32} {n ns c a s : Nat} (h : WS row n ns c a) (hn : n ≤ 8) (hns : ns ≤ 8) (hs : s < ns) : WS (m_gy sy row s) n ns c a := by
  obtain ⟨h1, h2, h3, h4, h5, h6', h7, h8, h9⟩ := h
  refine ⟨by rw [gy_at (by omega)]; exact h1, h2, fun b hb => by rw [gy_at (by omega)]; exact h3 b hb, fun b hb => ?_, fun b hb => ?_, ?_, by rw [gy_at (by omega)]; exact h7, Or.inr (by simp [m_gy, upd]), ?_⟩
  · show m_gy sy row s (8 + b) = 0 ∨ m_gy sy row s (8 + b) = 1
    rw [gy_at (by omega)]; exact h4 b hb
  · show m_gy sy row s (16 + b) = 0 ∨ m_gy sy row s (16 + b) = 1
    by_cases e : b = s
    · subst e
      right
      rw [m_gy, upd_ne (by omega)]; simp [upd]
    · rw [gy_at (by omega)]; exact h5 b hb
  · have : m_gy sy row s 25 = m_lb sy (row 25) s := by rw [m_gy, upd_ne (by omega), upd_ne (by omega)]; simp [upd]
    rw [this]; exact lb_nI
  · rw [bN_ext n (fun b hb => show m_gy sy row s (8 + b) = row (8 + b) from gy_at (by omega))]; exact h9
theorem SR.gy {sy f t row f' t' : Nat → Int32} {n ns c a s : Nat} (h : SR f t row n ns) (hw : WS row n ns c a) (hn : n ≤ 8) (hns : ns ≤ 8) (hs : s < ns) (h0 : row (16 + s) = 0) (e1 : f' 1 = f 1) (e2 : f' 2 = m_lb sy (f 2) s) (e3 : f' 3 = f 3) (e4 : f' 4 = f 4) (e5 : f' 5 = f 5 ||| ((1 : Int32) <<< (nI s &&& 31))) (e6 : f' 6 = 1) (e7 : f' 7 = f 7) (et : t' = t) : SR f' t' (m_gy sy row s) n ns := by
  obtain ⟨h1, h2, h3, h4, h5, h6, h7, h8, h9⟩ := h
  subst et
  refine ⟨by rw [e1, h1, gy_at (by omega)], ?_, ?_, by rw [e4, h4, gy_at (by omega)], ?_, by rw [e6]; simp [m_gy, upd], by rw [e7, h7, gy_at (by omega)], fun b hb => by rw [gy_at (by omega)]; exact h8 b hb, h9⟩
  · rw [e2, h2, m_gy, upd_ne (by omega), upd_ne (by omega)]; simp [upd]
  · rw [e3, h3]; exact bt_ext n (fun b hb => (gy_at (by omega)).symm)
  · rw [e5, h5, ← (bt_set (g := fun s => row (16 + s)) hns hw.2.2.2.2.1 hs h0).1]
    refine bt_ext ns (fun b hb => ?_)
    by_cases e : b = s
    · subst e
      have e9 : m_gy sy row b (16 + b) = 1 := by rw [m_gy, upd_ne (by omega)]; simp [upd]
      show _ = m_gy sy row b (16 + b)
      rw [e9]; simp [upd]
    · rw [upd_ne e]; exact (gy_at (by omega)).symm
def aSp (q n ns c a : Nat) (sy row : Nat → Int32) (s : Nat) (I : Nat → Nat → Int32) (J : Nat → Nat → Int64) (R : Nat → Nat → Value) (r : Option Value) (M' : TM) : Prop :=
  (m_rY ns c a sy row (nI s) < 0 ∧ r = some (.int (m_rY ns c a sy row (nI s))) ∧ M' = (I, J, R)) ∨ (m_rY ns c a sy row (nI s) = 0 ∧ r = some (.int (m_gy sy row s 25)) ∧ ∃ I3, M' = (I3, J, R) ∧ qF q I I3 ∧ SR (I3 q) (I3 (q + 1)) (m_gy sy row s) n ns ∧ WS (m_gy sy row s) n ns c a)
theorem rY_neg {ns c a : Nat} {sy row : Nat → Int32} {x : Int32} : m_rY ns c a sy row x = 0 ∨ m_rY ns c a sy row x < 0 := by
  unfold m_rY
  split
  · right; decide
  · split
    · right; decide
    · split
      · right; decide
      · split
        · right; decide
        · split
          · right; decide
          · left; rfl
theorem rY_0 {ns c a s : Nat} {sy row : Nat → Int32} (hns : ns ≤ 8) (hs : s < ns) (h : m_rY ns c a sy row (nI s) = 0) : ¬ row (16 + s) = 1 := by
  intro e
  unfold m_rY at h
  rw [ix_nI (by omega) hs] at h
  simp only [e, if_true] at h
  exact absurd h (by decide)
theorem a_speak {I : Nat → Nat → Int32} {J : Nat → Nat → Int64} {R : Nat → Nat → Value} {d n c ns a q s : Nat} {row sp str tl sy : Nat → Int32} (hq : q = 39 ∨ q = 41) (hst : ST I sp str tl sy n c ns) (hr : SR (I q) (I (q + 1)) row n ns) (hw : WS row n ns c a) (hs : s < ns) : Cal lyC (d + 3) hX7_speak 5 [.ref q, .ref 5, .ref 11, .int (nI s)] (I, J, R) (aSp q n ns c a sy row s I J R) := by
  obtain ⟨_, hn8, hc, hc12, _, hn, hns8, _⟩ := id hst
  have ha : I q 1 = nI a := hr.1.trans hw.1
  have ha12 : a ≤ 12 := Nat.le_trans hw.2.1 hc12
  have hx : ix ns (nI s) = some s := ix_nI (by omega) hs
  have key : ∀ r M', (if k_hi I q c a s = 0 then r = some (.int (k_sp I q s q 2)) ∧ M' = (k_sp I q s, J, R) else r = some (.int (k_hi I q c a s)) ∧ M' = (I, J, R)) → aSp q n ns c a sy row s I J R r M' := by
    intro r M' h
    rw [hi_eq hst hr hw hs] at h
    rcases rY_neg (ns := ns) (c := c) (a := a) (sy := sy) (row := row) (x := nI s) with e | e
    · rw [if_pos e] at h
      have h0 := (hw.2.2.2.2.1 s hs).resolve_right (rY_0 hns8 hs e)
      refine Or.inr ⟨e, ?_, _, h.2, ?_, ?_, hw.gy hn8 hns8 hs⟩
      · rw [h.1]
        congr 2
        rw [k_sp]
        show _ = m_gy sy row s 25
        rw [m_gy, upd_ne (by omega), upd_ne (by omega)]
        simp [ti_wr, va_up, upd, la_eq hst hs, hr.2.1]
      · intro p _ _ _ _ e1 e2
        rw [k_sp, ti_wr_n e1, ti_wr_n e1, ti_wr_n e1]
      · refine hr.gy hw hn8 hns8 hs h0 ?_ ?_ ?_ ?_ ?_ ?_ ?_ ?_ <;> try (simp [k_sp, ti_wr, va_up, upd, la_eq hst hs]; done)
    · rw [if_neg (by intro z; rw [z] at e; exact absurd e (by decide))] at h
      exact Or.inl ⟨e, h.1, h.2⟩
  rcases hq with rfl | rfl
  · exact (k_speak_39 hn hc hc12 ha ha12 (by omega) hx).imp key
  · exact (k_speak_41 hn hc hc12 ha ha12 (by omega) hx).imp key
