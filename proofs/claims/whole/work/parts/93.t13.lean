/-! texts: sayings: a line by the model -/
/-- a letter that may not stand there is a fault -/
def yF (t : Nat → Nat) (E : Nat) (s : PS) : PS := if s.1 = true ∧ s.2 < E ∧ 97 ≤ t s.2 ∧ t s.2 ≤ 100 then (false, s.2) else s
theorem yF_fin {t : Nat → Nat} {E N : Nat} {s : PS} (hE : E ≤ N) : sFin N (yF t E s) = sFin N s := by
  unfold yF
  split
  · next h => rw [sFin, if_neg (by simp), sFin, if_pos h.1, if_pos (by omega)]
  · rfl
theorem yF_more {t : Nat → Nat} {E : Nat} {s : PS} (ht : ∀ k, k < E → t k < 256) : more t E (yF t E s) ↔ more t E s := by
  unfold yF
  split
  · next h =>
    constructor
    · intro q; exact absurd (more_f q).1 (by simp)
    · intro q
      have e : pk t E s = nI 59 := q
      unfold pk at e
      rw [if_pos h.1, if_pos h.2.1, nI_eq (by have := ht _ h.2.1; omega) (by decide)] at e
      omega
  · exact Iff.rfl
theorem yF_pass {t : Nat → Nat} {E : Nat} {s : PS} (h : more t E s) (ht : ∀ k, k < E → t k < 256) : sPass t E 59 (yF t E s) = sPass t E 59 s := by
  have h2 := (yF_more ht).mpr h
  rw [sPass, if_pos h2, sPass, if_pos h]
  unfold yF
  split
  · rfl
  · rfl
theorem yF_n {t : Nat → Nat} {E : Nat} {s : PS} (h : ¬ (s.1 = true ∧ s.2 < E ∧ 97 ≤ t s.2 ∧ t s.2 ≤ 100)) : yF t E s = s := by rw [yF, if_neg h]
theorem yF_y {t : Nat → Nat} {E : Nat} {s : PS} (h : s.1 = true ∧ s.2 < E ∧ 97 ≤ t s.2 ∧ t s.2 ≤ 100) : yF t E s = (false, s.2) := by rw [yF, if_pos h]
/-- the reader has changed, and the cells k .. k + 3 of comes -/
def k8F (k : Nat) (I I3 : Nat → Nat → Int32) : Prop := (∀ p, p ≠ 0 → p ≠ 8 → I3 p = I p) ∧ (∀ j, j ≠ 16 → j ≠ 17 → I3 0 j = I 0 j) ∧ ∀ j, (j < k ∨ k + 4 ≤ j) → I3 8 j = I 8 j
theorem k8F.rf {k : Nat} {I : Nat → Nat → Int32} : k8F k I I := ⟨fun _ _ _ => rfl, fun _ _ _ => rfl, fun _ _ => rfl⟩
theorem k8F.r {k : Nat} {I I2 I3 : Nat → Nat → Int32} (h : k8F k I I2) (g : rF I2 I3) : k8F k I I3 := ⟨fun p a b => (g.1 p a).trans (h.1 p a b), fun j a b => (g.2 j a b).trans (h.2.1 j a b), fun j a => (congrFun (g.1 8 (by decide)) j).trans (h.2.2 j a)⟩
theorem k8F.w {k : Nat} {I I2 : Nat → Nat → Int32} {v : Int32} {i : Nat} (h : k8F k I I2) (hi : k ≤ i) (hi4 : i < k + 4) : k8F k I (ti_wr I2 8 i v) := ⟨fun p a b => (ti_wr_n b).trans (h.1 p a b), fun j a b => by rw [ti_wr_n (by decide)]; exact h.2.1 j a b, fun j a => (wr_ne (by omega)).trans (h.2.2 j a)⟩
theorem k8F.w16 {k : Nat} {I I2 : Nat → Nat → Int32} {v : Int32} (h : k8F k I I2) : k8F k I (ti_wr I2 0 16 v) := h.r rF.rf.w16
theorem k8F.w17 {k : Nat} {I I2 : Nat → Nat → Int32} {v : Int32} (h : k8F k I I2) : k8F k I (ti_wr I2 0 17 v) := h.r rF.rf.w17
set_option maxHeartbeats 1000000 in
theorem c_letters {I : Nat → Nat → Int32} {J : Nat → Nat → Int64} {R : Nat → Nat → Value} {t : Nat → Nat} {d E N T k : Nat} {K : Int32 × PS} (hk44 : k + 4 ≤ 44) : ∀ (f i l : Nat) (z : Option Value) (c : Int32) (s2 : PS) (I2 : Nat → Nat → Int32), l ≤ 4 → i ≤ l → 5 - i < f → k8F k I I2 → (∀ j, j < k + 3 → I2 8 j = I 8 j) → I2 8 (k + 3) = c → mR 6 I2 R t E N T s2 → kn t E (5 - i) l s2 c = K → Ev lyM (d + 5) hX12_readSaying 78 [some (.ref 0), some (.int (nI k)), some (.int (nI l - 1)), z] [] (I2, J, R) (fun r M' => r = none ∧ ∃ I3, M' = (I3, J, R) ∧ k8F k I I3 ∧ (∀ j, j < k + 3 → I3 8 j = I 8 j) ∧ I3 8 (k + 3) = K.1 ∧ mR 6 I3 R t E N T (yF t E K.2)) := by
  intro f
  induction f with
  | zero => intro i l z c s2 I2 h0 h1 h2; omega
  | succ f ih =>
      intro i l z c s2 I2 hl4 hil hf hk2 h8j h83 hR2 hT
      have hE80 : E ≤ 80 := by have := hR2.2.2.2.2.2.1; have := hR2.2.2.2.2.1; omega
      have hsE : s2.2 ≤ E := hR2.2.2.2.2.2.2.2.1
      have h256 : s2.2 < E → t s2.2 < 256 := fun q => hR2.t _ q
      have hfi : 5 - i = (4 - i) + 1 := by omega
      refine ev_st dX12_readSaying_78 rfl rfl ?_
      refine ev_call dX12_readSaying_79 rfl rfl mr_12_127 rfl rfl rfl (c_fine hR2) ?_
      rintro _ _ ⟨rfl, rfl⟩
      show Ev lyM (d + 5) hX12_readSaying 82 [some (.ref 0), some (.int (nI k)), some (.int (nI l - 1)), z] [.int (b2i s2.1)] (I2, J, R) _
      refine ev_if_eq (t := 152) (x := b2i s2.1) dX12_readSaying_82 (by decide) (fun c_82 => ?_) (fun c_82 => ?_)
      · exact ev_vret dX12_readSaying_152 rfl (⟨rfl, _, rfl, hk2, h8j, by rw [h83, ← hT, hfi, kn_n (fun q => by rw [b2i0.mp c_82] at q; cases q.1)], by rw [← hT, hfi, kn_n (fun q => by rw [b2i0.mp c_82] at q; cases q.1), yF_n (fun q => by rw [b2i0.mp c_82] at q; cases q.1)]; exact hR2⟩)
      · refine ev_st dX12_readSaying_85 rfl rfl ?_
        refine ev_call dX12_readSaying_86 rfl rfl mr_12_131 rfl rfl rfl (c_here (hR2.fine (b2i_ne c_82))) ?_
        rintro _ _ ⟨rfl, rfl⟩
        show Ev lyM (d + 5) hX12_readSaying 89 [some (.ref 0), some (.int (nI k)), some (.int (nI l - 1)), z] [.int (pk t E (true, s2.2))] (I2, J, R) _
        refine ev_bipush (v := 97) dX12_readSaying_89 (by decide) ?_
        refine ev_bipush (v := 100) dX12_readSaying_91 (by decide) ?_
        refine ev_call dX12_readSaying_93 rfl rfl mr_12_98 rfl rfl rfl (c_inP hR2.t (by decide) (by decide)) ?_
        rintro _ _ ⟨rfl, rfl⟩
        show Ev lyM (d + 5) hX12_readSaying 96 [some (.ref 0), some (.int (nI k)), some (.int (nI l - 1)), z] [.int (if s2.2 < E ∧ 97 ≤ t s2.2 ∧ t s2.2 ≤ 100 then 1 else 0)] (I2, J, R) _
        refine ev_if_eq (t := 152) (x := if s2.2 < E ∧ 97 ≤ t s2.2 ∧ t s2.2 ≤ 100 then 1 else 0) dX12_readSaying_96 (by decide) (fun c_96 => ?_) (fun c_96 => ?_)
        · exact ev_vret dX12_readSaying_152 rfl (⟨rfl, _, rfl, hk2, h8j, by rw [h83, ← hT, hfi, kn_n (fun q => if01n c_96 ⟨q.2.1, by omega, q.2.2.2⟩)], by rw [← hT, hfi, kn_n (fun q => if01n c_96 ⟨q.2.1, by omega, q.2.2.2⟩), yF_n (fun q => if01n c_96 q.2)]; exact hR2⟩)
        · refine ev_st dX12_readSaying_99 rfl rfl ?_
          refine ev_call dX12_readSaying_100 rfl rfl mr_12_131 rfl rfl rfl (c_here (hR2.fine (b2i_ne c_82))) ?_
          rintro _ _ ⟨rfl, rfl⟩
          show Ev lyM (d + 5) hX12_readSaying 103 [some (.ref 0), some (.int (nI k)), some (.int (nI l - 1)), z] [.int (pk t E (true, s2.2))] (I2, J, R) _
          refine ev_bipush (v := 97) dX12_readSaying_103 (by decide) ?_
          refine ev_isubN (a := t s2.2) (b := 97) (c := t s2.2 - 97) dX12_readSaying_105 (by rw [pk, if_pos rfl, if_pos (if01 c_96).1]) rfl (if01 c_96).2.1 rfl ?_
          refine ev_st (L' := [some (.ref 0), some (.int (nI k)), some (.int (nI l - 1)), some (.int (nI (t s2.2 - 97)))]) dX12_readSaying_106 rfl rfl ?_
          refine ev_st dX12_readSaying_107 rfl rfl ?_
          refine ev_st dX12_readSaying_108 rfl rfl ?_
          refine ev_ic_gt (t := 123) (x := nI (t s2.2 - 97)) (y := nI l - 1) dX12_readSaying_109 (by decide) (fun c_109 => ?_) (fun c_109 => ?_)
          · refine ev_st dX12_readSaying_123 rfl rfl ?_
            refine ev_st dX12_readSaying_124 rfl rfl ?_
            refine ev_getI (v := nI s2.2) dX12_readSaying_125 fr_12_117 rfl rfl (by have h := hR2.2.2.2.2.2.2.2.2; rw [if_pos (b2i_ne c_82)] at h; exact h.2) ?_
            refine ev_iconst (v := 1) dX12_readSaying_128 (by decide) ?_
            refine ev_iaddN (a := s2.2) (b := 1) (c := s2.2 + 1) dX12_readSaying_129 rfl rfl rfl ?_
            refine ev_putI dX12_readSaying_130 fr_12_117 rfl rfl ?_
            refine ev_st dX12_readSaying_133 rfl rfl ?_
            refine ev_getC dX12_readSaying_134 fr_12_37 rfl rfl ?_
            refine ev_st dX12_readSaying_137 rfl rfl ?_
            refine ev_iconst (v := 3) dX12_readSaying_138 (by decide) ?_
            refine ev_iaddN (a := k) (b := 3) (c := k + 3) dX12_readSaying_139 rfl rfl rfl ?_
            refine ev_st dX12_readSaying_140 rfl rfl ?_
            refine ev_iald (j := k + 3) (v := c) dX12_readSaying_141 rfl rfl (by omega) (by decide) h83 ?_
            refine ev_iconst (v := 1) dX12_readSaying_142 (by decide) ?_
            refine ev_st dX12_readSaying_143 rfl rfl ?_
            refine ev_st dX12_readSaying_144 rfl rfl ?_
            refine ev_st dX12_readSaying_145 rfl rfl ?_
            refine ev_iast (j := k + 3) dX12_readSaying_146 rfl rfl (by omega) (by decide) ?_
            refine ev_st dX12_readSaying_147 rfl rfl ?_
            refine ev_st (L' := [some (.ref 0), some (.int (nI k)), some (.int (nI (t s2.2 - 97))), some (.int (nI (t s2.2 - 97)))]) dX12_readSaying_148 rfl rfl ?_
            refine ev_goto (t := 78) dX12_readSaying_149 (by decide) ?_
            have hs := b2i_ne c_82
            have hq := if01 c_96
            have hlw : l ≤ t s2.2 - 97 := (dn_lt (by omega) (by omega)).mp c_109
            have hT2 : kn t E (4 - i) (t s2.2 - 97 + 1) (true, s2.2 + 1) (c ||| ((1 : Int32) <<< (nI (t s2.2 - 97) &&& 31))) = K := by rw [← hT, show 5 - i = (4 - i) + 1 by omega, kn_s ⟨hs, hq.1, by omega, hq.2.2⟩]
            have e0 : nI (t s2.2 - 97) = nI (t s2.2 - 97 + 1) - 1 := (dn_ix (x := t s2.2 - 97 + 1) (by omega)).symm
            rw [e0, show 4 - i = 5 - (i + 1) by omega] at hT2
            rw [e0]
            exact ih (i + 1) (t s2.2 - 97 + 1) _ _ _ _ (by omega) (by omega) (by omega) (hk2.w16.w (by omega) (by omega)) (fun j hj => by rw [wr_ne (by omega), ti_wr_n (by decide)]; exact h8j j hj) ti_wr_at (mR8 (hR2.at hs (by omega))) hT2
          · refine ev_st dX12_readSaying_112 rfl rfl ?_
            refine ev_st dX12_readSaying_113 rfl rfl ?_
            refine ev_getI (v := nI s2.2) dX12_readSaying_114 fr_12_117 rfl rfl (by have h := hR2.2.2.2.2.2.2.2.2; rw [if_pos (b2i_ne c_82)] at h; exact h.2) ?_
            refine ev_call dX12_readSaying_117 rfl rfl mr_12_139 rfl rfl rfl (c_faultF (hR2.fine (b2i_ne c_82)) (nI s2.2)) ?_
            rintro _ _ ⟨rfl, rfl⟩
            show Ev lyM (d + 5) hX12_readSaying 120 [some (.ref 0), some (.int (nI k)), some (.int (nI l - 1)), some (.int (nI (t s2.2 - 97)))] [] (ti_wr I2 0 17 (nI s2.2), J, R) _
            refine ev_goto (t := 149) dX12_readSaying_120 (by decide) ?_
            refine ev_goto (t := 78) dX12_readSaying_149 (by decide) ?_
            refine ev_st dX12_readSaying_78 rfl rfl ?_
            refine ev_call dX12_readSaying_79 rfl rfl mr_12_127 rfl rfl rfl (c_fineE (e := s2.2) (hR2.flt hR2.2.2.2.2.2.2.2.1)) ?_
            rintro _ _ ⟨rfl, rfl⟩
            show Ev lyM (d + 5) hX12_readSaying 82 [some (.ref 0), some (.int (nI k)), some (.int (nI l - 1)), some (.int (nI (t s2.2 - 97)))] [.int 0] (ti_wr I2 0 17 (nI s2.2), J, R) _
            refine ev_if_eq (t := 152) dX12_readSaying_82 (by decide) (fun _ => ?_) (fun q => absurd q (by decide))
            exact ev_vret dX12_readSaying_152 rfl (⟨rfl, _, rfl, hk2.w17, fun j hj => by rw [ti_wr_n (by decide)]; exact h8j j hj, by rw [ti_wr_n (by decide), h83, ← hT, hfi, kn_n (fun q => c_109 ((dn_lt (by omega) (by omega)).mpr (by have := q.2.2.1; omega)))], by rw [← hT, hfi, kn_n (fun q => c_109 ((dn_lt (by omega) (by omega)).mpr (by have := q.2.2.1; omega))), yF_y ⟨b2i_ne c_82, if01 c_96⟩]; exact hR2.flt hR2.2.2.2.2.2.2.2.1⟩)
