/-! both memories tell the same -/
def LB : List Nat := [5, 6, 8, 9, 10, 11, 12, 13, 14]
def LR : List Nat := [31, 32, 35, 36]
def LH : List Nat := [15, 45, 46, 47, 48, 49, 50, 51, 52, 53, 54, 55, 56, 57, 58, 59, 60, 61, 62, 63, 64, 65, 66, 67, 68]
def LK : List Nat := [15, 69, 70, 71, 72]
def rBase (I K : Nat → Nat → Int32) (n c ns : Nat) : Prop := ST I (K 2) (K 3) (K 4) (K 5) n c ns ∧ K 0 3 = nI n ∧ K 0 1 = nI c ∧ K 0 6 = nI ns ∧ (∀ b, b < n → ∃ t, t ≤ 9 ∧ K 4 b = nI t) ∧ ∃ v, v < 256 ∧ I 11 3 = nI v
theorem rBase.cg {I I3 K K3 : Nat → Nat → Int32} {n c ns : Nat} (h : rBase I K n c ns) (hc : ∀ p ∈ LB, I3 p = I p) (hm : ∀ p ∈ [2, 3, 4, 5], K3 p = K p) (h0 : ∀ k ∈ [1, 3, 6], K3 0 k = K 0 k) : rBase I3 K3 n c ns := by
  unfold rBase ST
  rw [hc 5 (by decide), hc 6 (by decide), hc 8 (by decide), hc 9 (by decide), hc 10 (by decide), hc 11 (by decide), hc 12 (by decide), hc 13 (by decide), hc 14 (by decide), hm 2 (by decide), hm 3 (by decide), hm 4 (by decide), hm 5 (by decide), h0 1 (by decide), h0 3 (by decide), h0 6 (by decide)]
  exact h
def rNow (I K : Nat → Nat → Int32) (n c ns a : Nat) : Prop := SR (I 39) (I 40) (K 1) n ns ∧ WS (K 1) n ns c a
theorem rNow.cg {I I3 K K3 : Nat → Nat → Int32} {n c ns a : Nat} (h : rNow I K n c ns a) (h1 : I3 39 = I 39) (h2 : I3 40 = I 40) (h3 : K3 1 = K 1) : rNow I3 K3 n c ns a := by
  unfold rNow
  rw [h1, h2, h3]
  exact h
def rRule (I : Nat → Nat → Int32) (R : Nat → Nat → Value) (K : Nat → Nat → Int32) (S : Nat → Nat → Value) (p q z rs : Nat) (rv : RV) : Prop := R 0 11 = .ref p ∧ R 0 12 = .ref q ∧ ((p = 31 ∧ q = 35) ∨ (p = 35 ∧ q = 31)) ∧ I p 3 = nI z ∧ (∀ d, RC d p (I (p + 1)) z rv) ∧ S 0 19 = .ref 9 ∧ K 0 21 = nI rs ∧ (∀ d, RU d 9 (K 9) rs rv) ∧ (z = 0 ↔ rs = 0)
theorem rRule.cg {I I3 K K3 : Nat → Nat → Int32} {R R3 S S3 : Nat → Nat → Value} {p q z rs : Nat} {rv : RV} (h : rRule I R K S p q z rs rv) (hc : I3 p = I p ∧ I3 (p + 1) = I (p + 1)) (hR : R3 0 11 = R 0 11 ∧ R3 0 12 = R 0 12) (hm : K3 9 = K 9) (h0 : K3 0 21 = K 0 21) (hS : S3 0 19 = S 0 19) : rRule I3 R3 K3 S3 p q z rs rv := by
  unfold rRule
  rw [hR.1, hR.2, hc.1, hc.2, hm, h0, hS]
  exact h
def rp (x u i : Nat) : Nat := 39 + 2 * ((x + 12 - u + i) % 12 + 3)
def rHist (I K : Nat → Nat → Int32) (n c ns u x : Nat) : Prop := I 15 5 = nI u ∧ u ≤ 12 ∧ K 0 25 = nI u ∧ I 15 4 = nI x ∧ x < 12 ∧ ∀ i, i < u → ∃ ai, SR (I (rp x u i)) (I (rp x u i + 1)) (fun j => K 12 (29 * i + j)) n ns ∧ WS (fun j => K 12 (29 * i + j)) n ns c ai
theorem rp_in {x u i : Nat} : rp x u i ∈ LH ∧ rp x u i + 1 ∈ LH := by
  unfold rp
  have h : (x + 12 - u + i) % 12 < 12 := Nat.mod_lt _ (by decide)
  generalize (x + 12 - u + i) % 12 = y at h
  have : ∀ y, y < 12 → 39 + 2 * (y + 3) ∈ LH ∧ 39 + 2 * (y + 3) + 1 ∈ LH := by decide
  exact this y h
theorem rHist.cg {I I3 K K3 : Nat → Nat → Int32} {n c ns u x : Nat} (h : rHist I K n c ns u x) (hc : ∀ p ∈ LH, I3 p = I p) (hm : K3 12 = K 12) (h0 : K3 0 25 = K 0 25) : rHist I3 K3 n c ns u x := by
  obtain ⟨h1, h2, h3, h4, h5, h6⟩ := h
  refine ⟨by rw [hc 15 (by decide)]; exact h1, h2, by rw [h0]; exact h3, by rw [hc 15 (by decide)]; exact h4, h5, fun i hi => ?_⟩
  rw [hc _ rp_in.1, hc _ rp_in.2, hm]
  exact h6 i hi
def rKept (I K : Nat → Nat → Int32) (n c ns : Nat) : Prop := ∀ i, i < 2 → (k_b (I 15 3) (nI i) = 0 ∧ ¬ (¬ K 23 i = 0 ∧ K 24 i = K 0 39)) ∨ (k_b (I 15 3) (nI i) = 1 ∧ (¬ K 23 i = 0 ∧ K 24 i = K 0 39) ∧ ∃ ai, SR (I (39 + 2 * (i + 15))) (I (39 + 2 * (i + 15) + 1)) (fun j => K 22 (29 * i + j)) n ns ∧ WS (fun j => K 22 (29 * i + j)) n ns c ai)
theorem rKept.cg {I I3 K K3 : Nat → Nat → Int32} {n c ns : Nat} (h : rKept I K n c ns) (hc : ∀ p ∈ LK, p ≠ 15 → I3 p = I p) (h15 : I3 15 3 = I 15 3) (hm : ∀ p ∈ [22, 23, 24], K3 p = K p) (h0 : K3 0 39 = K 0 39) : rKept I3 K3 n c ns := by
  intro i hi
  have e : I3 (39 + 2 * (i + 15)) = I (39 + 2 * (i + 15)) ∧ I3 (39 + 2 * (i + 15) + 1) = I (39 + 2 * (i + 15) + 1) := by
    rcases (by omega : i = 0 ∨ i = 1) with q | q <;> subst q <;> exact ⟨hc _ (by decide) (by decide), hc _ (by decide) (by decide)⟩
  rw [e.1, e.2, h15, hm 22 (by decide), hm 23 (by decide), hm 24 (by decide), h0]
  exact h i hi
def rCame (K : Nat → Nat → Int32) (ce k : Nat) : Prop := K 0 39 = nI ce ∧ ce ≤ k ∧ ∀ i, i < 2 → ∃ y, K 24 i = nI y ∧ y ≤ ce
theorem rCame.cg {K K3 : Nat → Nat → Int32} {ce k : Nat} (h : rCame K ce k) (hm : K3 24 = K 24) (h0 : K3 0 39 = K 0 39) : rCame K3 ce (k + 1) := by
  obtain ⟨h1, h2, h3⟩ := h
  exact ⟨h0.trans h1, by omega, by rw [hm]; exact h3⟩
def rText (I K : Nat → Nat → Int32) (t : Nat → Nat) (N : Nat) : Prop := cT I t N ∧ mT K t N
theorem rText.cg {I I3 K K3 : Nat → Nat → Int32} {t : Nat → Nat} {N : Nat} (h : rText I K t N) (h1 : I3 1 1 = I 1 1) (h2 : I3 2 = I 2) (h3 : K3 0 9 = K 0 9) (h4 : K3 6 = K 6) : rText I3 K3 t N := by
  unfold rText cT mT
  rw [h1, h2, h3, h4]
  exact h
/-- the text was read -/
theorem rText.e {I3 K3 : Nat → Nat → Int32} {t : Nat → Nat} (h1 : I3 1 1 = 0) (h3 : K3 0 9 = 0) : rText I3 K3 t 0 := ⟨⟨h1, by omega, fun k hk => absurd hk (Nat.not_lt_zero k)⟩, ⟨h3, by omega, fun k hk => absurd hk (Nat.not_lt_zero k)⟩⟩
def rRow (I : Nat → Nat → Int32) (J : Nat → Nat → Int64) (K : Nat → Nat → Int32) (L : Nat → Nat → Int64) (m : Nat) : Prop := I 3 1 = nI m ∧ m ≤ 8 ∧ K 0 11 = nI m ∧ ∀ j, j < m → J 4 j = L 7 j
theorem rRow.cg {I I3 K K3 : Nat → Nat → Int32} {J J3 L L3 : Nat → Nat → Int64} {m : Nat} (h : rRow I J K L m) (h1 : I3 3 = I 3) (h2 : K3 0 11 = K 0 11) (h3 : J3 = J) (h4 : L3 = L) : rRow I3 J3 K3 L3 m := by
  unfold rRow
  rw [h1, h2, h3, h4]
  exact h
theorem rRow.u {I I3 K K3 : Nat → Nat → Int32} {J J3 L : Nat → Nat → Int64} {m : Nat} (h : rRow I J K L m) (hu : uC I J I3 J3) (h2 : K3 0 11 = K 0 11) : rRow I3 J3 K3 L m := h.cg hu.1 h2 hu.2 rfl
theorem rRow.t {l : List Int64} {I3 K3 : Nat → Nat → Int32} {J3 L3 : Nat → Nat → Int64} (ht : tC l I3 J3) (h8 : l.length ≤ 8) (h2 : K3 0 11 = nI l.length) (h4 : ∀ i v, l[i]? = some v → L3 7 i = v) : rRow I3 J3 K3 L3 l.length := by
  refine ⟨ht.1, h8, h2, fun j hj => ?_⟩
  have e : l[j]? = some l[j] := List.getElem?_eq_getElem hj
  rw [ht.2 j _ e, h4 j _ e]
def rOld (I K : Nat → Nat → Int32) (no : Nat) : Prop := I 23 4 = nI no ∧ no ≤ 8 ∧ K 0 33 = nI no ∧ ∀ k, k < no → I 24 k = K 18 k ∧ I 25 k = K 19 k
theorem rOld.cg {I I3 K K3 : Nat → Nat → Int32} {no : Nat} (h : rOld I K no) (h1 : I3 23 4 = I 23 4) (h2 : I3 24 = I 24) (h3 : I3 25 = I 25) (h4 : K3 18 = K 18) (h5 : K3 19 = K 19) (h0 : K3 0 33 = K 0 33) : rOld I3 K3 no := by
  unfold rOld
  rw [h1, h2, h3, h4, h5, h0]
  exact h
def rClaim (I K : Nat → Nat → Int32) (nc : Nat) : Prop := I 23 8 = nI nc ∧ nc ≤ 16 ∧ K 0 37 = nI nc ∧ ∀ k, k < nc → (I 26 k = K 21 (3 * k) ∧ I 27 k = K 21 (3 * k + 1) ∧ I 28 k = K 21 (3 * k + 2)) ∧ (∃ j, j < 8 ∧ I 27 k = nI j) ∧ (I 28 k = 0 ∨ I 28 k = 1)
theorem rClaim.cg {I I3 K K3 : Nat → Nat → Int32} {nc : Nat} (h : rClaim I K nc) (h1 : I3 23 8 = I 23 8) (h2 : I3 26 = I 26) (h3 : I3 27 = I 27) (h4 : I3 28 = I 28) (h5 : K3 21 = K 21) (h0 : K3 0 37 = K 0 37) : rClaim I3 K3 nc := by
  unfold rClaim
  rw [h1, h2, h3, h4, h5, h0]
  exact h
def RB (n c ns a p q z rs u x m no nc N ce k : Nat) (rv : RV) (t : Nat → Nat) (I : Nat → Nat → Int32) (J : Nat → Nat → Int64) (R : Nat → Nat → Value) (K : Nat → Nat → Int32) (L : Nat → Nat → Int64) (S : Nat → Nat → Value) : Prop := rBase I K n c ns ∧ rNow I K n c ns a ∧ rRule I R K S p q z rs rv ∧ rHist I K n c ns u x ∧ rKept I K n c ns ∧ rCame K ce k ∧ rText I K t N ∧ rRow I J K L m ∧ rOld I K no ∧ rClaim I K nc
def REL (k : Nat) (MC MM : TM) : Prop := ∃ (n c ns a p q z rs u x m no nc N ce : Nat) (rv : RV) (t : Nat → Nat), RB n c ns a p q z rs u x m no nc N ce k rv t MC.1 MC.2.1 MC.2.2 MM.1 MM.2.1 MM.2.2
/-- what the model may leave as it likes -/
def zM (K : Nat → Nat → Int32) (S : Nat → Nat → Value) (K3 : Nat → Nat → Int32) (S3 : Nat → Nat → Value) : Prop := (∀ p ∈ [1, 2, 3, 4, 5, 6, 9, 12, 18, 19, 21, 22, 23, 24], K3 p = K p) ∧ (∀ k ∈ [1, 3, 6, 9, 21, 25, 33, 37, 39], K3 0 k = K 0 k) ∧ S3 0 19 = S 0 19
theorem zM.w {K : Nat → Nat → Int32} {S : Nat → Nat → Value} {v : Int32} : zM K S (ti_wr K 0 12 v) S := ⟨fun p hp => ti_wr_n (by intro e; subst e; revert hp; decide), fun k hk => wr_ne (by intro e; subst e; revert hk; decide), rfl⟩
theorem zM.w2 {K : Nat → Nat → Int32} {S : Nat → Nat → Value} {v w : Int32} : zM K S (ti_wr (ti_wr K 0 12 v) 0 11 w) S := ⟨fun p hp => (ti_wr_n (by intro e; subst e; revert hp; decide)).trans ((zM.w (S := S)).1 p hp), fun k hk => (wr_ne (by intro e; subst e; revert hk; decide)).trans ((zM.w (S := S)).2.1 k hk), rfl⟩
theorem zM.tr {K K2 K3 : Nat → Nat → Int32} {S S2 S3 : Nat → Nat → Value} (h : zM K S K2 S2) (g : zM K2 S2 K3 S3) : zM K S K3 S3 := ⟨fun p hp => (g.1 p hp).trans (h.1 p hp), fun k hk => (g.2.1 k hk).trans (h.2.1 k hk), g.2.2.trans h.2.2⟩
theorem zM.u14 {K : Nat → Nat → Int32} {S : Nat → Nat → Value} {r : Nat → Int32} : zM K S (va_up K 14 r) S := ⟨fun p hp => va_up_n (by intro e; subst e; revert hp; decide), fun k _ => congrFun (va_up_n (by decide)) k, rfl⟩
theorem xM.g {K K3 : Nat → Nat → Int32} {S S3 : Nat → Nat → Value} (h : xM K S K3 S3) : zM K S K3 S3 := by
  have l1 : ∀ p ∈ [1, 2, 3, 4, 5, 6, 9, 12, 18, 19, 21, 22, 23, 24], (p == 0 || (p == 8 || (p == 11 || (p == 13 || (p == 14 || (p == 15 || (p == 16 || (p == 17 || p == 20)))))))) = false := by decide
  have l2 : ∀ k ∈ [1, 3, 6, 9, 21, 25, 33, 37, 39], (k == 14 || (k == 15 || (k == 16 || (k == 17 || (k == 22 || (k == 35 || k == 38)))))) = false := by decide
  exact ⟨fun p hp => h.r p (l1 p hp), fun k hk => h.f k (l2 k hk), h.2.2⟩
theorem fC_LB : ∀ p ∈ LB, fS p = false := by decide
theorem fC_LH : ∀ p ∈ LH, fS p = false := by decide
theorem fC_LK : ∀ p ∈ LK, fS p = false := by decide
theorem rRule.pq {I : Nat → Nat → Int32} {R : Nat → Nat → Value} {K : Nat → Nat → Int32} {S : Nat → Nat → Value} {p q z rs : Nat} {rv : RV} (h : rRule I R K S p q z rs rv) : p ∈ LR ∧ p + 1 ∈ LR := by
  rcases h.2.2.1 with ⟨e, _⟩ | ⟨e, _⟩ <;> subst e <;> decide
theorem fC_LR : ∀ p ∈ LR, fS p = false := by decide
/-- calls that change the row alone -/
theorem RB.fr {n c ns a p q z rs u x m m2 no nc N ce k : Nat} {rv : RV} {t : Nat → Nat} {I I3 K K3 : Nat → Nat → Int32} {J J3 L L3 : Nat → Nat → Int64} {R S S3 : Nat → Nat → Value} (h : RB n c ns a p q z rs u x m no nc N ce k rv t I J R K L S) (hc : fC I I3) (hm : zM K S K3 S3) (hr : rRow I3 J3 K3 L3 m2) : REL (k + 1) (I3, J3, R) (K3, L3, S3) := by
  obtain ⟨h1, h2, h3, h4, h5, h6, h7, h8, h9, h10⟩ := h
  refine ⟨n, c, ns, a, p, q, z, rs, u, x, m2, no, nc, N, ce, rv, t, ?_, ?_, ?_, ?_, ?_, ?_, ?_, hr, ?_, ?_⟩
  · exact h1.cg (fun p hp => hc.1 p (fC_LB p hp)) (fun p hp => hm.1 p (by revert p; decide)) (fun k hk => hm.2.1 k (by revert k; decide))
  · exact h2.cg (hc.1 39 rfl) (hc.1 40 rfl) (hm.1 1 (by decide))
  · exact h3.cg ⟨hc.1 p (fC_LR p h3.pq.1), hc.1 (p + 1) (fC_LR (p + 1) h3.pq.2)⟩ ⟨rfl, rfl⟩ (hm.1 9 (by decide)) (hm.2.1 21 (by decide)) hm.2.2
  · exact h4.cg (fun p hp => hc.1 p (fC_LH p hp)) (hm.1 12 (by decide)) (hm.2.1 25 (by decide))
  · exact h5.cg (fun p hp _ => hc.1 p (fC_LK p hp)) (congrFun (hc.1 15 rfl) 3) (fun p hp => hm.1 p (by revert p; decide)) (hm.2.1 39 (by decide))
  · exact h6.cg (hm.1 24 (by decide)) (hm.2.1 39 (by decide))
  · exact h7.cg (congrFun (hc.1 1 rfl) 1) (hc.1 2 rfl) (hm.2.1 9 (by decide)) (hm.1 6 (by decide))
  · exact h9.cg hc.2.1 (hc.1 24 rfl) (hc.1 25 rfl) (hm.1 18 (by decide)) (hm.1 19 (by decide)) (hm.2.1 33 (by decide))
  · exact h10.cg hc.2.2 (hc.1 26 rfl) (hc.1 27 rfl) (hc.1 28 rfl) (hm.1 21 (by decide)) (hm.2.1 37 (by decide))
/-- calls that change nothing -/
theorem RB.id {n c ns a p q z rs u x m no nc N ce k : Nat} {rv : RV} {t : Nat → Nat} {I K : Nat → Nat → Int32} {J L : Nat → Nat → Int64} {R S : Nat → Nat → Value} {v : Int32} (h : RB n c ns a p q z rs u x m no nc N ce k rv t I J R K L S) : REL (k + 1) (I, J, R) (ti_wr K 0 12 v, L, S) := h.fr fC.rf zM.w (h.2.2.2.2.2.2.2.1.cg rfl (wr_ne (by decide)) rfl rfl)
/-- a call by both -/
def Bo (hc : TH) (mc : Nat) (hm : TH) (mm : Nat) (as : List Value) (k : Nat) (I : Nat → Nat → Int32) (J : Nat → Nat → Int64) (R : Nat → Nat → Value) (K : Nat → Nat → Int32) (L : Nat → Nat → Int64) (S : Nat → Nat → Value) : Prop := ∃ (v : Value) (QC QM : TM → Prop), Cal lyC 120 hc mc (.ref 0 :: as) (I, J, R) (fun r M => r = some v ∧ QC M) ∧ Cal lyM 120 hm mm (.ref 0 :: as) (K, L, S) (fun r M => r = some v ∧ QM M) ∧ ∀ M1 M2, QC M1 → QM M2 → REL (k + 1) M1 M2
theorem Bo.of {hc hm : TH} {mc mm dc dm : Nat} {as : List Value} {k : Nat} {I : Nat → Nat → Int32} {J : Nat → Nat → Int64} {R : Nat → Nat → Value} {K : Nat → Nat → Int32} {L : Nat → Nat → Int64} {S : Nat → Nat → Value} {v : Value} {QC QM : TM → Prop} (h1 : Cal lyC dc hc mc (.ref 0 :: as) (I, J, R) (fun r M => r = some v ∧ QC M)) (h2 : Cal lyM dm hm mm (.ref 0 :: as) (K, L, S) (fun r M => r = some v ∧ QM M)) (d1 : dc ≤ 120) (d2 : dm ≤ 120) (h3 : ∀ M1 M2, QC M1 → QM M2 → REL (k + 1) M1 M2) : Bo hc mc hm mm as k I J R K L S := ⟨v, QC, QM, Cal.mono d1 h1, Cal.mono d2 h2, h3⟩
/-- a refusal by both -/
theorem Bo.no {hc hm : TH} {mc mm dc dm : Nat} {as : List Value} {n c ns a p q z rs u x m no nc N ce k : Nat} {rv : RV} {t : Nat → Nat} {I K : Nat → Nat → Int32} {J L : Nat → Nat → Int64} {R S : Nat → Nat → Value} {v : Value} {w : Int32} (h : RB n c ns a p q z rs u x m no nc N ce k rv t I J R K L S) (h1 : Cal lyC dc hc mc (.ref 0 :: as) (I, J, R) (fun r M => r = some v ∧ M = (I, J, R))) (h2 : Cal lyM dm hm mm (.ref 0 :: as) (K, L, S) (fun r M => r = some v ∧ M = (ti_wr K 0 12 w, L, S))) (d1 : dc ≤ 120) (d2 : dm ≤ 120) : Bo hc mc hm mm as k I J R K L S := Bo.of h1 h2 d1 d2 (fun M1 M2 e1 e2 => by rw [e1, e2]; exact h.id)
theorem Cal.det {lay : List TE} {d : Nat} {h : TH} {mL : Nat} {vs : List Value} {M : TM} {Q : Option Value → TM → Prop} (k : Cal lay d h mL vs M Q) : ∃ r M1, Q r M1 ∧ Cal lay d h mL vs M (fun r2 M2 => r2 = r ∧ M2 = M1) := by
  obtain ⟨f, r, M1, hx, hq⟩ := k
  exact ⟨r, M1, hq, f, r, M1, hx, rfl, rfl⟩
theorem RB.kA {n c ns a p q z rs u x m no nc N ce k : Nat} {rv : RV} {t : Nat → Nat} {I K : Nat → Nat → Int32} {J L : Nat → Nat → Int64} {R S : Nat → Nat → Value} (h : RB n c ns a p q z rs u x m no nc N ce k rv t I J R K L S) (d : Nat) : kA I d n c p z rv := by
  obtain ⟨⟨h1, _⟩, _, h3, _⟩ := h
  exact ⟨h1.1, h1.2.1, h1.2.2.1, h1.2.2.2.1, h3.2.2.1.elim (fun e => Or.inl e.1) (fun e => Or.inr e.1), h3.2.2.2.1, h3.2.2.2.2.1 d⟩
theorem RB.mA {n c ns a p q z rs u x m no nc N ce k : Nat} {rv : RV} {t : Nat → Nat} {I K : Nat → Nat → Int32} {J L : Nat → Nat → Int64} {R S : Nat → Nat → Value} (h : RB n c ns a p q z rs u x m no nc N ce k rv t I J R K L S) (d : Nat) : mA K S d n c 9 rs rv := by
  obtain ⟨⟨h1, h1b⟩, _, h3, _⟩ := h
  exact ⟨h1b.1, h1.2.1, h1b.2.1, h1.2.2.2.1, h3.2.2.2.2.2.2.1, h3.2.2.2.2.2.1, h3.2.2.2.2.2.2.2.1 d⟩
/-- FORCE by both -/
theorem FX_eq {I : Nat → Nat → Int32} {sp str tl sy td row : Nat → Int32} {n c ns z rs a : Nat} {rv : RV} (hst : ST I sp str tl sy n c ns) (hz : z = 0 ↔ rs = 0) (ht : ∀ b, b < n → td b = row b) : k_FX (I 6) (I 9) (I 10) n c z rv td a = m_FX sp str tl n c rs rv row a := by
  obtain ⟨_, _, _, _, _, _, _, s1, s2, _⟩ := hst
  funext x
  unfold k_FX m_FX
  rw [st_eq s1, tl_eq n (fun b hb => (s2 b hb).2), fo_eq hz n (fun b hb => ⟨(s2 b hb).1, (s2 b hb).2, ht b hb⟩)]
theorem fo_le {rs : Nat} {rv : RV} {str tl a : Nat → Int32} {mo st x : Int32} : ∀ n, n ≤ 8 → ∃ h, h ≤ 99 * n ∧ m_fo rs rv str tl a mo st x n = nI h
  | 0, _ => ⟨0, by omega, rfl⟩
  | n + 1, hn => by
    obtain ⟨h, h1, e⟩ := fo_le (rs := rs) (rv := rv) (str := str) (tl := tl) (a := a) (mo := mo) (st := st) (x := x) n (by omega)
    simp only [m_fo]
    rw [e]
    split
    · exact ⟨h, by omega, Int32.add_zero _⟩
    · obtain ⟨t, ht, e2⟩ := m_cl_nI (if rs = 0 then str n - a n / 3 - (mo - tl n) else rv (str n) (a n) (tl n) mo (bc x) st (nI n))
      unfold m_be
      rw [e2, nI_add]
      exact ⟨h + t, by omega, rfl⟩
theorem FX_le {sp str tl row : Nat → Int32} {n c rs a : Nat} {rv : RV} (hn : n ≤ 8) (x : Int32) : ∃ h, h ≤ 1000 ∧ m_FX sp str tl n c rs rv row a x = nI h := by
  obtain ⟨h, h1, e⟩ := fo_le (rs := rs) (rv := rv) (str := str) (tl := tl) (a := row) (mo := m_tl tl x n) (st := m_st c sp a) (x := x) n hn
  exact ⟨h, by omega, e⟩
theorem ND_le {sp row : Nat → Int32} {n ns c a : Nat} (hsp : sp9 sp c) (hw : WS row n ns c a) : ∃ q, q ≤ 2000 ∧ m_ND sp c row a = nI q := by
  obtain ⟨t, ht, e⟩ := st9 hsp a
  obtain ⟨l, hl, e2⟩ := hw.2.2.2.2.2.1
  refine ⟨l + t, by omega, ?_⟩
  unfold m_ND
  rw [e, e2, nI_add]
theorem cy_v {row : Nat → Int32} {n ns c a : Nat} (hn : n ≤ 8) (hw : WS row n ns c a) : ∃ v, v < 2 ^ n ∧ m_cy row n = nI v ∧ v < 256 := by
  have h := bN_lt (fun b => row (8 + b)) n
  have h2 := p256 hn
  refine ⟨bN (fun b => row (8 + b)) n, h, ?_, by omega⟩
  rw [m_cy_bt, bt_bN n hn hw.2.2.2.1]
