/-! both memories: parts that stay; acts -/
theorem rBase.L {I I3 K K3 : Nat → Nat → Int32} {n c ns : Nat} {cs ms fs : List Nat} (h : rBase I K n c ns) (hC : ∀ p, p ∉ cs → I3 p = I p) (hP : ∀ p, p ∉ ms → K3 p = K p) (hF : ∀ k, k ∉ fs → K3 0 k = K 0 k) (d1 : ∀ p ∈ LB, p ∉ cs) (d2 : ∀ p ∈ [2, 3, 4, 5], p ∉ ms) (d3 : ∀ k ∈ [1, 3, 6], k ∉ fs) : rBase I3 K3 n c ns := h.cg (fun p hp => hC p (d1 p hp)) (fun p hp => hP p (d2 p hp)) (fun k hk => hF k (d3 k hk))
theorem rNow.L {I I3 K K3 : Nat → Nat → Int32} {n c ns a : Nat} {cs ms : List Nat} (h : rNow I K n c ns a) (hC : ∀ p, p ∉ cs → I3 p = I p) (hP : ∀ p, p ∉ ms → K3 p = K p) (d1 : 39 ∉ cs ∧ 40 ∉ cs) (d2 : 1 ∉ ms) : rNow I3 K3 n c ns a := h.cg (hC 39 d1.1) (hC 40 d1.2) (hP 1 d2)
theorem rRule.L {I I3 K K3 : Nat → Nat → Int32} {R S S3 : Nat → Nat → Value} {p q z rs : Nat} {rv : RV} {cs ms fs : List Nat} (h : rRule I R K S p q z rs rv) (hC : ∀ p, p ∉ cs → I3 p = I p) (hP : ∀ p, p ∉ ms → K3 p = K p) (hF : ∀ k, k ∉ fs → K3 0 k = K 0 k) (hS : S3 0 19 = S 0 19) (d1 : ∀ p ∈ LR, p ∉ cs) (d2 : 9 ∉ ms) (d3 : 21 ∉ fs) : rRule I3 R K3 S3 p q z rs rv := h.cg ⟨hC p (d1 p h.pq.1), hC (p + 1) (d1 (p + 1) h.pq.2)⟩ ⟨rfl, rfl⟩ (hP 9 d2) (hF 21 d3) hS
theorem rHist.L {I I3 K K3 : Nat → Nat → Int32} {n c ns u x : Nat} {cs ms fs : List Nat} (h : rHist I K n c ns u x) (hC : ∀ p, p ∉ cs → I3 p = I p) (hP : ∀ p, p ∉ ms → K3 p = K p) (hF : ∀ k, k ∉ fs → K3 0 k = K 0 k) (d1 : ∀ p ∈ LH, p ∉ cs) (d2 : 12 ∉ ms) (d3 : 25 ∉ fs) : rHist I3 K3 n c ns u x := h.cg (fun p hp => hC p (d1 p hp)) (hP 12 d2) (hF 25 d3)
theorem rKept.L {I I3 K K3 : Nat → Nat → Int32} {n c ns : Nat} {cs ms fs : List Nat} (h : rKept I K n c ns) (hC : ∀ p, p ∉ cs → I3 p = I p) (hP : ∀ p, p ∉ ms → K3 p = K p) (hF : ∀ k, k ∉ fs → K3 0 k = K 0 k) (d1 : ∀ p ∈ LK, p ∉ cs) (d2 : ∀ p ∈ [22, 23, 24], p ∉ ms) (d3 : 39 ∉ fs) : rKept I3 K3 n c ns := h.cg (fun p hp _ => hC p (d1 p hp)) (congrFun (hC 15 (d1 15 (by decide))) 3) (fun p hp => hP p (d2 p hp)) (hF 39 d3)
theorem rCame.L {K K3 : Nat → Nat → Int32} {ce k : Nat} {ms fs : List Nat} (h : rCame K ce k) (hP : ∀ p, p ∉ ms → K3 p = K p) (hF : ∀ k, k ∉ fs → K3 0 k = K 0 k) (d2 : 24 ∉ ms) (d3 : 39 ∉ fs) : rCame K3 ce (k + 1) := h.cg (hP 24 d2) (hF 39 d3)
theorem rText.L {I I3 K K3 : Nat → Nat → Int32} {t : Nat → Nat} {N : Nat} {cs ms fs : List Nat} (h : rText I K t N) (hC : ∀ p, p ∉ cs → I3 p = I p) (hP : ∀ p, p ∉ ms → K3 p = K p) (hF : ∀ k, k ∉ fs → K3 0 k = K 0 k) (d1 : 1 ∉ cs ∧ 2 ∉ cs) (d2 : 6 ∉ ms) (d3 : 9 ∉ fs) : rText I3 K3 t N := h.cg (congrFun (hC 1 d1.1) 1) (hC 2 d1.2) (hF 9 d3) (hP 6 d2)
theorem rRow.L {I I3 K K3 : Nat → Nat → Int32} {J L : Nat → Nat → Int64} {m : Nat} {cs fs : List Nat} (h : rRow I J K L m) (hC : ∀ p, p ∉ cs → I3 p = I p) (hF : ∀ k, k ∉ fs → K3 0 k = K 0 k) (d1 : 3 ∉ cs) (d3 : 11 ∉ fs) : rRow I3 J K3 L m := h.cg (hC 3 d1) (hF 11 d3) rfl rfl
theorem rOld.L {I I3 K K3 : Nat → Nat → Int32} {no : Nat} {cs ms fs : List Nat} (h : rOld I K no) (hC : ∀ p, p ∉ cs → I3 p = I p) (hP : ∀ p, p ∉ ms → K3 p = K p) (hF : ∀ k, k ∉ fs → K3 0 k = K 0 k) (d1 : 23 ∉ cs ∧ 24 ∉ cs ∧ 25 ∉ cs) (d2 : 18 ∉ ms ∧ 19 ∉ ms) (d3 : 33 ∉ fs) : rOld I3 K3 no := h.cg (congrFun (hC 23 d1.1) 4) (hC 24 d1.2.1) (hC 25 d1.2.2) (hP 18 d2.1) (hP 19 d2.2) (hF 33 d3)
theorem rClaim.L {I I3 K K3 : Nat → Nat → Int32} {nc : Nat} {cs ms fs : List Nat} (h : rClaim I K nc) (hC : ∀ p, p ∉ cs → I3 p = I p) (hP : ∀ p, p ∉ ms → K3 p = K p) (hF : ∀ k, k ∉ fs → K3 0 k = K 0 k) (d1 : 23 ∉ cs ∧ 26 ∉ cs ∧ 27 ∉ cs ∧ 28 ∉ cs) (d2 : 21 ∉ ms) (d3 : 37 ∉ fs) : rClaim I3 K3 nc := h.cg (congrFun (hC 23 d1.1) 8) (hC 26 d1.2.1) (hC 27 d1.2.2.1) (hC 28 d1.2.2.2) (hP 21 d2) (hF 37 d3)
theorem SR.fx {f t f2 t2 row : Nat → Int32} {n ns : Nat} (h : SR f t row n ns) (hn : n ≤ 8) (h1 : ∀ k, 1 ≤ k → k ≤ 7 → f2 k = f k) (h2 : ∀ b, b < 8 → t2 b = t b) : SR f2 t2 row n ns := by
  unfold SR
  rw [h1 1 (by omega) (by omega), h1 2 (by omega) (by omega), h1 3 (by omega) (by omega), h1 4 (by omega) (by omega), h1 5 (by omega) (by omega), h1 6 (by omega) (by omega), h1 7 (by omega) (by omega)]
  obtain ⟨a1, a2, a3, a4, a5, a6, a7, a8, a9⟩ := h
  exact ⟨a1, a2, a3, a4, a5, a6, a7, fun b hb => (h2 b (by omega)).trans (a8 b hb), fun b h3 h4 => (h2 b h4).trans (a9 b h3 h4)⟩
theorem k_mk_n {I : Nat → Nat → Int32} {p : Nat} (h1 : p ≠ 43) (h2 : p ≠ 44) : k_mk I p = I p := k_bm_n h1 h2
theorem k_se_n {I : Nat → Nat → Int32} {x u p : Nat} (h1 : p ≠ 15) (h2 : p ≠ 39 + 2 * (x + 3)) (h3 : p ≠ 39 + 2 * (x + 3) + 1) : k_se I x u p = I p := by
  unfold k_se
  rw [ti_wr_n h1, ti_wr_n h1]
  exact k_bm_n h2 h3
theorem k_se_p {I : Nat → Nat → Int32} {x u k : Nat} (hx : x < 12) (h1 : 1 ≤ k) (h7 : k ≤ 7) : k_se I x u (39 + 2 * (x + 3)) k = I 43 k := by
  unfold k_se
  rw [ti_wr_n (by omega), ti_wr_n (by omega)]
  exact k_bm_p k h1 h7
theorem k_se_t {I : Nat → Nat → Int32} {x u j : Nat} (hx : x < 12) (hj : j < 8) : k_se I x u (39 + 2 * (x + 3) + 1) j = I 44 j := by
  unfold k_se
  rw [ti_wr_n (by omega), ti_wr_n (by omega)]
  exact k_bm_t (by omega) hj
theorem k_se_15 {I : Nat → Nat → Int32} {x u : Nat} (hx : x < 12) : k_se I x u 15 4 = nI ((x + 1) % 12) ∧ k_se I x u 15 5 = nI (m_u1 u) ∧ k_se I x u 15 3 = I 15 3 := by
  unfold k_se
  refine ⟨?_, ti_wr_at, ?_⟩
  · rw [wr_ne (by decide), ti_wr_at]
  · rw [wr_ne (by decide), wr_ne (by decide), k_bm_n (by omega) (by omega)]
def cA : List Nat := LH ++ [33, 34, 37, 38, 39, 40, 43, 44]
theorem rp_A {p x : Nat} (hx : x < 12) (h : p ∉ cA) : p ≠ 15 ∧ p ≠ 39 + 2 * (x + 3) ∧ p ≠ 39 + 2 * (x + 3) + 1 ∧ p ≠ 33 ∧ p ≠ 34 ∧ p ≠ 37 ∧ p ≠ 38 ∧ p ≠ 39 ∧ p ≠ 40 ∧ p ≠ 43 ∧ p ≠ 44 := by
  have hm : ∀ y, y < 12 → 39 + 2 * (y + 3) ∈ cA ∧ 39 + 2 * (y + 3) + 1 ∈ cA := by decide
  exact ⟨fun e => h (by rw [e]; decide), fun e => h (by rw [e]; exact (hm x hx).1), fun e => h (by rw [e]; exact (hm x hx).2), fun e => h (by rw [e]; decide), fun e => h (by rw [e]; decide), fun e => h (by rw [e]; decide), fun e => h (by rw [e]; decide), fun e => h (by rw [e]; decide), fun e => h (by rw [e]; decide), fun e => h (by rw [e]; decide), fun e => h (by rw [e]; decide)⟩
/-- behind an act that was done: what has not changed -/
theorem se_C {I I2 : Nat → Nat → Int32} {x u : Nat} (hx : x < 12) (hq : qF 39 (k_mk I) I2) : ∀ p, p ∉ cA → k_se I2 x u p = I p := fun p hp => by
  obtain ⟨a1, a2, a3, a4, a5, a6, a7, a8, a9, a10, a11⟩ := rp_A hx hp
  rw [k_se_n a1 a2 a3, hq p a4 a5 a6 a7 a8 a9, k_mk_n a10 a11]
theorem lay_in {f g : Nat → Int32} {k b j : Nat} (h : j < b) : m_lay f g k b (k + j) = f j := by
  unfold m_lay
  rw [if_pos ⟨by omega, by omega⟩, Nat.add_sub_cancel_left]
theorem lay_out {f g : Nat → Int32} {k b j : Nat} (h : j < k) : m_lay f g k b j = g j := if_neg (fun q => by omega)
/-- the history behind an act that was done -/
theorem hist_act {I I2 K K3 : Nat → Nat → Int32} {g : Nat → Int32} {n c ns a u x : Nat} (hn : n ≤ 8) (hns : ns ≤ 8) (h : rHist I K n c ns u x) (hw : rNow I K n c ns a) (hq : qF 39 (k_mk I) I2) (hg : ∀ j, j < 29 → g j = K 1 j) (e12 : K3 12 = m_rem g (K 12) u) (e25 : K3 0 25 = nI (m_u1 u)) : rHist (k_se I2 x u) K3 n c ns (m_u1 u) ((x + 1) % 12) := by
  obtain ⟨h1, h2, h3, h4, h5, h6⟩ := h
  obtain ⟨s1, s2, s3⟩ := k_se_15 (I := I2) (u := u) h5
  have hu1 : m_u1 u ≤ 12 := by unfold m_u1; split <;> omega
  -- the new one
  have hnew : SR (k_se I2 x u (39 + 2 * (x + 3))) (k_se I2 x u (39 + 2 * (x + 3) + 1)) (K 1) n ns := by
    refine hw.1.fx hn (fun k k1 k7 => ?_) (fun b hb => ?_)
    · rw [k_se_p h5 k1 k7, hq 43 (by decide) (by decide) (by decide) (by decide) (by decide) (by decide)]
      exact k_bm_p k k1 k7
    · rw [k_se_t h5 hb, hq 44 (by decide) (by decide) (by decide) (by decide) (by decide) (by decide)]
      exact k_bm_t (by decide) hb
  -- an old one
  have hold : ∀ y, y < 12 → ¬ y = x → k_se I2 x u (39 + 2 * (y + 3)) = I (39 + 2 * (y + 3)) ∧ k_se I2 x u (39 + 2 * (y + 3) + 1) = I (39 + 2 * (y + 3) + 1) := fun y hy hne => by
    refine ⟨?_, ?_⟩
    · rw [k_se_n (by omega) (by omega) (by omega), hq _ (by omega) (by omega) (by omega) (by omega) (by omega) (by omega), k_mk_n (by omega) (by omega)]
    · rw [k_se_n (by omega) (by omega) (by omega), hq _ (by omega) (by omega) (by omega) (by omega) (by omega) (by omega), k_mk_n (by omega) (by omega)]
  refine ⟨s2, hu1, e25, s1, Nat.mod_lt _ (by decide), fun i hi => ?_⟩
  by_cases hu : u = 12
  · have eu : m_u1 u = 12 := by rw [m_u1, if_pos hu]
    rw [eu] at hi ⊢
    have er : ∀ j, K3 12 j = m_lay g (m_shp (K 12) 319) 319 29 j := fun j => by rw [e12, m_rem, if_pos hu]
    by_cases hi11 : i = 11
    · have ep : rp ((x + 1) % 12) 12 i = 39 + 2 * (x + 3) := by unfold rp; omega
      have erow : ∀ j, j < 29 → K3 12 (29 * i + j) = K 1 j := fun j hj => by rw [er, show 29 * i + j = 319 + j by omega, lay_in hj, hg j hj]
      rw [ep]
      exact ⟨a, hnew.ext hn hns erow, hw.2.ext hn hns erow⟩
    · have ep : rp ((x + 1) % 12) 12 i = rp x 12 (i + 1) := by unfold rp; omega
      have erow : ∀ j, j < 29 → K3 12 (29 * i + j) = K 12 (29 * (i + 1) + j) := fun j hj => by
        rw [er, lay_out (by omega), m_shp, if_pos (by omega), show 29 * i + j + 29 = 29 * (i + 1) + j by omega]
      obtain ⟨ai, b1, b2⟩ := h6 (i + 1) (by omega)
      obtain ⟨o1, o2⟩ := hold ((x + 12 - 12 + (i + 1)) % 12) (Nat.mod_lt _ (by decide)) (by omega)
      rw [hu] at b1
      have ep2 : rp x 12 (i + 1) = 39 + 2 * ((x + 12 - 12 + (i + 1)) % 12 + 3) := rfl
      rw [ep, ep2, o1, o2, ← ep2]
      exact ⟨ai, b1.ext hn hns erow, b2.ext hn hns erow⟩
  · have eu : m_u1 u = u + 1 := by rw [m_u1, if_neg hu]
    rw [eu] at hi ⊢
    have er : ∀ j, K3 12 j = m_lay g (K 12) (29 * u) 29 j := fun j => by rw [e12, m_rem, if_neg hu]
    by_cases hiu : i = u
    · have ep : rp ((x + 1) % 12) (u + 1) i = 39 + 2 * (x + 3) := by unfold rp; omega
      have erow : ∀ j, j < 29 → K3 12 (29 * i + j) = K 1 j := fun j hj => by rw [er, hiu, lay_in hj, hg j hj]
      rw [ep]
      exact ⟨a, hnew.ext hn hns erow, hw.2.ext hn hns erow⟩
    · have ep : rp ((x + 1) % 12) (u + 1) i = rp x u i := by unfold rp; omega
      have erow : ∀ j, j < 29 → K3 12 (29 * i + j) = K 12 (29 * i + j) := fun j hj => by rw [er, lay_out (by omega)]
      obtain ⟨ai, b1, b2⟩ := h6 i (by omega)
      obtain ⟨o1, o2⟩ := hold ((x + 12 - u + i) % 12) (Nat.mod_lt _ (by decide)) (by omega)
      have ep2 : rp x u i = 39 + 2 * ((x + 12 - u + i) % 12 + 3) := rfl
      rw [ep, ep2, o1, o2, ← ep2]
      exact ⟨ai, b1.ext hn hns erow, b2.ext hn hns erow⟩
theorem se_now {I2 : Nat → Nat → Int32} {x u : Nat} (hx : x < 12) : k_se I2 x u 39 = I2 39 ∧ k_se I2 x u 40 = I2 40 := ⟨k_se_n (by omega) (by omega) (by omega), k_se_n (by omega) (by omega) (by omega)⟩
/-- the kept ones behind an act -/
theorem kept_act {I I2 K K3 : Nat → Nat → Int32} {n c ns x u : Nat} (hx : x < 12) (h : rKept I K n c ns) (hq : qF 39 (k_mk I) I2) (hm : ∀ p ∈ [22, 23, 24], K3 p = K p) (h0 : K3 0 39 = K 0 39) : rKept (k_se I2 x u) K3 n c ns := by
  refine h.cg (fun p hp h15 => ?_) ?_ hm h0
  · have : ∀ p ∈ LK, p ≠ 15 → p ∉ cA := by decide
    exact se_C hx hq p (this p hp h15)
  · rw [(k_se_15 hx).2.2, hq 15 (by decide) (by decide) (by decide) (by decide) (by decide) (by decide), k_mk_n (by decide) (by decide)]
/-- an act that was done, by both -/
theorem RB.act {n c ns a p q z rs u x m no nc N ce k : Nat} {rv : RV} {t : Nat → Nat} {I K : Nat → Nat → Int32} {J L : Nat → Nat → Int64} {R S : Nat → Nat → Value} (h : RB n c ns a p q z rs u x m no nc N ce k rv t I J R K L S) {I1 I2 I9 K3 : Nat → Nat → Int32} {J3 L3 : Nat → Nat → Int64} {S3 : Nat → Nat → Value} {g row2 : Nat → Int32} {a2 m2 N2 : Nat} {t2 : Nat → Nat} {ms fs : List Nat} (hb : ∀ p, p ∉ [1, 30] → I1 p = I p) (hq : qF 39 (k_mk I1) I2) (h9 : ∀ p, p ≠ 3 → I9 p = k_se I2 x u p) (hsr : SR (I2 39) (I2 40) row2 n ns) (hws : WS row2 n ns c a2) (hP : ∀ p, p ∉ ms → K3 p = K p) (hF : ∀ k, k ∉ fs → K3 0 k = K 0 k) (e1 : K3 1 = row2) (hg : ∀ j, j < 29 → g j = K 1 j) (e12 : K3 12 = m_rem g (K 12) u) (e25 : K3 0 25 = nI (m_u1 u)) (hS : S3 0 19 = S 0 19) (d2 : ∀ p ∈ [2, 3, 4, 5, 9, 18, 19, 21, 22, 23, 24], p ∉ ms) (d3 : ∀ k ∈ [1, 3, 6, 21, 33, 37, 39], k ∉ fs) (hT : rText I9 K3 t2 N2) (hR : rRow I9 J3 K3 L3 m2) : REL (k + 1) (I9, J3, R) (K3, L3, S3) := by
  obtain ⟨h1, h2, h3, h4, h5, h6, h7, h8, h9', h10⟩ := h
  have hx12 := h4.2.2.2.2.1
  have hn8 := h1.1.2.1
  have hns8 := h1.1.2.2.2.2.2.2.1
  have hC : ∀ p, p ∉ 3 :: 1 :: 30 :: cA → I9 p = I p := fun p hp => by
    simp only [List.mem_cons, not_or] at hp
    rw [h9 p hp.1, se_C hx12 hq p hp.2.2.2]
    exact hb p (by simp only [List.mem_cons, List.not_mem_nil, or_false, not_or]; exact ⟨hp.2.1, hp.2.2.1⟩)
  have h2b : rNow I1 K n c ns a := h2.cg (hb 39 (by decide)) (hb 40 (by decide)) rfl
  have h4b : rHist I1 K n c ns u x := h4.cg (fun p hp => hb p (by revert p; decide)) rfl rfl
  have h5b : rKept I1 K n c ns := h5.cg (fun p hp _ => hb p (by revert p; decide)) (congrFun (hb 15 (by decide)) 3) (fun _ _ => rfl) rfl
  have hist := hist_act hn8 hns8 h4b h2b hq hg e12 e25
  have kept := kept_act (u := u) hx12 h5b hq (K3 := K3) (fun p hp => hP p (d2 p (by revert p; decide))) (hF 39 (d3 39 (by decide)))
  have hnow := se_now (I2 := I2) (u := u) hx12
  have f2 : ∀ p ∈ [2, 3, 4, 5], p ∉ ms := fun p hp => d2 p (by revert p; decide)
  have f3 : ∀ k ∈ [1, 3, 6], k ∉ fs := fun k hk => d3 k (by revert k; decide)
  refine ⟨n, c, ns, a2, p, q, z, rs, m_u1 u, (x + 1) % 12, m2, no, nc, N2, ce, rv, t2, ?_, ?_, ?_, ?_, ?_, ?_, hT, hR, ?_, ?_⟩
  · exact h1.L hC hP hF (by decide) f2 f3
  · refine ⟨?_, ?_⟩
    · show SR (I9 39) (I9 40) (K3 1) n ns
      rw [h9 39 (by decide), h9 40 (by decide), hnow.1, hnow.2, e1]
      exact hsr
    · show WS (K3 1) n ns c a2
      rw [e1]
      exact hws
  · exact h3.L hC hP hF hS (by decide) (d2 9 (by decide)) (d3 21 (by decide))
  · exact hist.cg (fun p hp => h9 p (by revert p; decide)) rfl rfl
  · exact kept.cg (fun p hp _ => h9 p (by revert p; decide)) (congrFun (h9 15 (by decide)) 3) (fun _ _ => rfl) rfl
  · exact h6.L hP hF (d2 24 (by decide)) (d3 39 (by decide))
  · exact h9'.L hC hP hF (by decide) ⟨d2 18 (by decide), d2 19 (by decide)⟩ (d3 33 (by decide))
  · exact h10.L hC hP hF (by decide) (d2 21 (by decide)) (d3 37 (by decide))
/-- an act that was refused, by both -/
theorem RB.act0 {n c ns a p q z rs u x m no nc N ce k : Nat} {rv : RV} {t : Nat → Nat} {I K : Nat → Nat → Int32} {J L : Nat → Nat → Int64} {R S : Nat → Nat → Value} (h : RB n c ns a p q z rs u x m no nc N ce k rv t I J R K L S) {I1 I2 I9 K3 : Nat → Nat → Int32} {J3 L3 : Nat → Nat → Int64} {S3 : Nat → Nat → Value} {row2 : Nat → Int32} {a2 m2 N2 : Nat} {t2 : Nat → Nat} {ms fs : List Nat} (hb : ∀ p, p ∉ [1, 30] → I1 p = I p) (hq : qF 39 (k_mk I1) I2) (h9 : ∀ p, p ≠ 3 → I9 p = I2 p) (hsr : SR (I2 39) (I2 40) row2 n ns) (hws : WS row2 n ns c a2) (hP : ∀ p, p ∉ ms → K3 p = K p) (hF : ∀ k, k ∉ fs → K3 0 k = K 0 k) (e1 : K3 1 = row2) (hS : S3 0 19 = S 0 19) (d2 : ∀ p ∈ [2, 3, 4, 5, 9, 12, 18, 19, 21, 22, 23, 24], p ∉ ms) (d3 : ∀ k ∈ [1, 3, 6, 21, 25, 33, 37, 39], k ∉ fs) (hT : rText I9 K3 t2 N2) (hR : rRow I9 J3 K3 L3 m2) : REL (k + 1) (I9, J3, R) (K3, L3, S3) := by
  obtain ⟨h1, h2, h3, h4, h5, h6, h7, h8, h9', h10⟩ := h
  have hC : ∀ p, p ∉ [3, 1, 30, 33, 34, 37, 38, 39, 40, 43, 44] → I9 p = I p := fun p hp => by
    simp only [List.mem_cons, List.not_mem_nil, or_false, not_or] at hp
    obtain ⟨b0, b1, b2, b3, b4, b5, b6, b7, b8, b9, b10⟩ := hp
    rw [h9 p b0, hq p b3 b4 b5 b6 b7 b8, k_mk_n b9 b10]
    exact hb p (by simp only [List.mem_cons, List.not_mem_nil, or_false, not_or]; exact ⟨b1, b2⟩)
  have f2 : ∀ p ∈ [2, 3, 4, 5], p ∉ ms := fun p hp => d2 p (by revert p; decide)
  have f22 : ∀ p ∈ [22, 23, 24], p ∉ ms := fun p hp => d2 p (by revert p; decide)
  have f3 : ∀ k ∈ [1, 3, 6], k ∉ fs := fun k hk => d3 k (by revert k; decide)
  refine ⟨n, c, ns, a2, p, q, z, rs, u, x, m2, no, nc, N2, ce, rv, t2, ?_, ?_, ?_, ?_, ?_, ?_, hT, hR, ?_, ?_⟩
  · exact h1.L hC hP hF (by decide) f2 f3
  · refine ⟨?_, ?_⟩
    · show SR (I9 39) (I9 40) (K3 1) n ns
      rw [h9 39 (by decide), h9 40 (by decide), e1]
      exact hsr
    · show WS (K3 1) n ns c a2
      rw [e1]
      exact hws
  · exact h3.L hC hP hF hS (by decide) (d2 9 (by decide)) (d3 21 (by decide))
  · exact h4.L hC hP hF (by decide) (d2 12 (by decide)) (d3 25 (by decide))
  · exact h5.L hC hP hF (by decide) f22 (d3 39 (by decide))
  · exact h6.L hP hF (d2 24 (by decide)) (d3 39 (by decide))
  · exact h9'.L hC hP hF (by decide) ⟨d2 18 (by decide), d2 19 (by decide)⟩ (d3 33 (by decide))
  · exact h10.L hC hP hF (by decide) (d2 21 (by decide)) (d3 37 (by decide))
