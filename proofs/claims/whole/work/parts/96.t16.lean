/-! texts: ACTS read by both -/
theorem ev_ls {lay : List TE} {d pc len t : Nat} {h : TH} {L : TL} {st : List Value} {M : TM} {Q : Option Value → TM → Prop} {x : Int32} {dflt : Int} {ps : Array (Int × Int)} (hd : decode h.2.1 pc = .ok (.lookupswitch dflt ps, len)) (hs : (ps.toList.zip (ps.toList.drop 1)).all (fun (a, next) => a.1 < next.1) = true) (ht : ti_jmp pc (Op.lookupswitch.offset ps.toList dflt x.toInt) = some t) (kk : Ev lay d h t L st M Q) : Ev lay d h pc L (.int x :: st) M Q := by
  refine ev_st hd rfl ?_ kk
  simp only [ti_step, ti_ls]
  rw [if_pos hs, ht]
  rfl
/-- one ACT: its sign, its number, the state behind it -/
def aR (t : Nat → Nat) (E : Nat) (s : PS) : Nat × Nat × PS :=
  if t s.2 = 62 then (62, 0, (true, s.2 + 1))
  else if t s.2 = 118 then (118, (sOne t E 97 4 (true, s.2 + 1)).1, (sOne t E 97 4 (true, s.2 + 1)).2)
  else if t s.2 = 116 ∨ t s.2 = 108 ∨ t s.2 = 115 then (t s.2, (sOne t E 48 10 (true, s.2 + 1)).1, (sOne t E 48 10 (true, s.2 + 1)).2)
  else (0, 0, (false, s.2))
def aS (t : Nat → Nat) (E : Nat) : Nat → PS
  | 0 => (true, 0)
  | n + 1 => (aR t E (aS t E n)).2.2
def aC (t : Nat → Nat) (E n : Nat) : Nat := (aR t E (aS t E n)).1 * 16 + (aR t E (aS t E n)).2.1
def aEnd (t : Nat → Nat) (E n : Nat) : Prop := ¬ goes E (aS t E n) ∧ ∀ j, j < n → goes E (aS t E j)
theorem aEnd_u {t : Nat → Nat} {E n m : Nat} (h : aEnd t E n) (g : aEnd t E m) : n = m := by
  rcases (by omega : n < m ∨ n = m ∨ m < n) with q | q | q
  · exact absurd (g.2 n q) h.1
  · exact q
  · exact absurd (h.2 m q) g.1
theorem one_f {t : Nat → Nat} {E f m : Nat} {s : PS} (h : (sOne t E f m s).2.1 = true) : (sOne t E f m s).2.2 = s.2 + 1 ∧ s.2 < E ∧ (sOne t E f m s).1 < m := by
  unfold sOne at h ⊢
  split
  · next q =>
    rw [if_pos q] at h
    split
    · next z => exact ⟨rfl, z.1, by show t s.2 - f < m; omega⟩
    · next z => rw [if_neg z] at h; cases h
  · next q => rw [if_neg q] at h; exact absurd h q
theorem aR_at {t : Nat → Nat} {E : Nat} {s : PS} (h : (aR t E s).2.2.1 = true) (hs : s.2 < E) : s.2 + 1 ≤ (aR t E s).2.2.2 ∧ (aR t E s).2.2.2 ≤ E ∧ (aR t E s).2.1 < 10 ∧ ((aR t E s).1 = 62 ∨ (aR t E s).1 = 118 ∧ (aR t E s).2.1 < 4 ∨ (aR t E s).1 = 116 ∨ (aR t E s).1 = 108 ∨ (aR t E s).1 = 115) := by
  unfold aR at h ⊢
  by_cases h1 : t s.2 = 62
  · rw [if_pos h1]; exact ⟨Nat.le_refl _, hs, by show 0 < 10; decide, Or.inl rfl⟩
  · rw [if_neg h1] at h ⊢
    by_cases h2 : t s.2 = 118
    · rw [if_pos h2] at h ⊢
      have q := one_f h
      simp only at q ⊢
      exact ⟨by omega, by omega, by omega, by right; left; simp; omega⟩
    · rw [if_neg h2] at h ⊢
      by_cases h3 : t s.2 = 116 ∨ t s.2 = 108 ∨ t s.2 = 115
      · rw [if_pos h3] at h ⊢
        have q := one_f h
        simp only at q ⊢
        exact ⟨by omega, by omega, by omega, Or.inr (Or.inr h3)⟩
      · rw [if_neg h3] at h; cases h
theorem aS_at {t : Nat → Nat} {E : Nat} : ∀ n, (∀ j, j < n → goes E (aS t E j)) → (aS t E n).1 = true → n ≤ (aS t E n).2
  | 0, _, _ => Nat.zero_le _
  | n + 1, h, g => by
    have q := h n (by omega)
    have ih := aS_at n (fun j hj => h j (by omega)) q.1
    have := (aR_at (s := aS t E n) g q.2).1
    show n + 1 ≤ (aR t E (aS t E n)).2.2.2
    omega
theorem aEnd_le {t : Nat → Nat} {E n : Nat} (h : ∀ j, j < n → goes E (aS t E j)) : n ≤ E := by
  by_cases q : n = 0
  · omega
  · have g := h (n - 1) (by omega)
    have := aS_at (n - 1) (fun j hj => h j (by omega)) g.1
    have := g.2
    omega
theorem pk_at {t : Nat → Nat} {E a : Nat} (h : a < E) : pk t E (true, a) = nI (t a) := by rw [pk, if_pos rfl, if_pos h]
theorem pk_c {t : Nat → Nat} {E a c : Nat} (h : a < E) (hc : t a = c) : pk t E (true, a) = nI c := by rw [pk_at h, hc]
theorem sev_one {t : Nat → Nat} {E a : Nat} (ht : ∀ k, k < E → t k < 256) : ((sSev t E 0 (true, a)) = (-1, (true, a)) ∧ sOne t E 97 4 (true, a) = (0, (false, a))) ∨ ∃ w, w < 4 ∧ sSev t E 0 (true, a) = (nI w, (true, a + 1)) ∧ sOne t E 97 4 (true, a) = (w, (true, a + 1)) := by
  by_cases h1 : pk t E (true, a) - 97 < nI 0
  · left
    rw [sSev, if_pos h1]
    refine ⟨rfl, ?_⟩
    rw [sOne, if_pos rfl, if_neg]
    rintro ⟨e1, e2, e3⟩
    simp only at e1 e2 e3
    rw [pk_at e1, show (97 : Int32) = nI 97 from rfl, pk_sub e2, nI_ltI (by omega) (by decide)] at h1
    omega
  · by_cases h2 : pk t E (true, a) - 97 < 4
    · right
      obtain ⟨e1, e2, w, e3, e4, e5, e6⟩ := sev_ok (by decide) ht h1 h2
      simp only at e2 e5
      refine ⟨w, e4, ?_, ?_⟩
      · rw [sSev, if_neg h1, if_pos h2, e6]
      · rw [sOne, if_pos rfl, if_pos ⟨e2, by simp only; omega, by simp only; omega⟩]
        simp only [e5]
        congr 1
        omega
    · left
      rw [sSev, if_neg h1, if_neg h2]
      refine ⟨rfl, ?_⟩
      rw [sOne, if_pos rfl, if_neg]
      rintro ⟨e1, e2, e3⟩
      simp only at e1 e2 e3
      rw [pk_at e1, show (97 : Int32) = nI 97 from rfl, pk_sub e2, show (4 : Int32) = nI 4 from rfl, nI_ltI (by omega) (by decide)] at h2
      omega

theorem ac_t : ∀ v, v < 16 → ((116 : Int32) <<< ((4 : Int32) &&& 31)) ||| nI v = nI (116 * 16 + v) := by decide +kernel
theorem ac_l : ∀ v, v < 16 → ((108 : Int32) <<< ((4 : Int32) &&& 31)) ||| nI v = nI (108 * 16 + v) := by decide +kernel
theorem ac_s : ∀ v, v < 16 → ((115 : Int32) <<< ((4 : Int32) &&& 31)) ||| nI v = nI (115 * 16 + v) := by decide +kernel
theorem ac_v : ∀ v, v < 16 → ((118 : Int32) <<< ((4 : Int32) &&& 31)) ||| nI v = nI (118 * 16 + v) := by decide +kernel
theorem ra_p {I I3 : Nat → Nat → Int32} {J : Nat → Nat → Int64} {R : Nat → Nat → Value} {t : Nat → Nat} {E N k v : Nat} {s s2 : PS} {x : Int32} (e : aR t E s = (k, v, s2)) (hx : xC I I3) (hR : cR I3 t E N s2) (h : s2.1 = true → x = nI (k * 16 + v)) : ∃ x2 I4, some (Value.int x) = some (.int x2) ∧ (I3, J, R) = (I4, J, R) ∧ xC I I4 ∧ cR I4 t E N (aR t E s).2.2 ∧ ((aR t E s).2.2.1 = true → x2 = nI ((aR t E s).1 * 16 + (aR t E s).2.1)) := by
  rw [e]
  exact ⟨x, I3, rfl, rfl, hx, hR, h⟩
theorem k_rA62 {I : Nat → Nat → Int32} {J : Nat → Nat → Int64} {R : Nat → Nat → Value} {t : Nat → Nat} {d E N a : Nat} (hR : cR I t E N (true, a)) (hlt : a < E) (hc : t a = 62) : Cal lyC (d + 2) hX11_readAct 3 [.ref 0] (I, J, R) (fun r M' => ∃ x I3, r = some (.int x) ∧ M' = (I3, J, R) ∧ xC I I3 ∧ cR I3 t E N (aR t E (true, a)).2.2 ∧ ((aR t E (true, a)).2.2.1 = true → x = nI ((aR t E (true, a)).1 * 16 + (aR t E (true, a)).2.1))) := by
  show Ev lyC (d + 2) hX11_readAct 0 [some (.ref 0), none, none] [] (I, J, R) _
  refine ev_st dX11_readAct_0 rfl rfl ?_
  refine ev_getC dX11_readAct_1 fr_11_10 rfl rfl ?_
  refine ev_call dX11_readAct_4 rfl rfl mr_11_258 rfl rfl rfl ((pk_c hlt hc ▸ k_peekF hR)) ?_
  rintro _ _ ⟨rfl, rfl⟩
  show Ev lyC (d + 2) hX11_readAct 7 [some (.ref 0), none, none] [.int 62] (I, J, R) _
  refine ev_st (L' := [some (.ref 0), some (.int 62), none]) dX11_readAct_7 rfl rfl ?_
  refine ev_st dX11_readAct_8 rfl rfl ?_
  refine ev_ls (t := 60) dX11_readAct_9 (by decide) (by decide) ?_
  refine ev_st dX11_readAct_60 rfl rfl ?_
  refine ev_getC dX11_readAct_61 fr_11_10 rfl rfl ?_
  refine ev_call dX11_readAct_64 rfl rfl mr_11_264 rfl rfl rfl (k_skip hR hlt) ?_
  rintro _ _ ⟨rfl, rfl⟩
  show Ev lyC (d + 2) hX11_readAct 67 [some (.ref 0), some (.int 62), none] [] (ti_wr I 1 2 (nI (a + 1)), J, R) _
  refine ev_st dX11_readAct_67 rfl rfl ?_
  refine ev_iconst (v := 4) dX11_readAct_68 (by decide) ?_
  refine ev_st dX11_readAct_69 rfl rfl ?_
  exact ev_iret dX11_readAct_70 rfl (ra_p (show aR t E (true, a) = (62, 0, (true, a + 1)) by rw [aR, if_pos hc]) (xC.rf.w) (hR.at rfl hlt) (fun _ => by decide))
theorem k_rA116 {I : Nat → Nat → Int32} {J : Nat → Nat → Int64} {R : Nat → Nat → Value} {t : Nat → Nat} {d E N a : Nat} (hR : cR I t E N (true, a)) (hlt : a < E) (hc : t a = 116) : Cal lyC (d + 2) hX11_readAct 3 [.ref 0] (I, J, R) (fun r M' => ∃ x I3, r = some (.int x) ∧ M' = (I3, J, R) ∧ xC I I3 ∧ cR I3 t E N (aR t E (true, a)).2.2 ∧ ((aR t E (true, a)).2.2.1 = true → x = nI ((aR t E (true, a)).1 * 16 + (aR t E (true, a)).2.1))) := by
  show Ev lyC (d + 2) hX11_readAct 0 [some (.ref 0), none, none] [] (I, J, R) _
  refine ev_st dX11_readAct_0 rfl rfl ?_
  refine ev_getC dX11_readAct_1 fr_11_10 rfl rfl ?_
  refine ev_call dX11_readAct_4 rfl rfl mr_11_258 rfl rfl rfl ((pk_c hlt hc ▸ k_peekF hR)) ?_
  rintro _ _ ⟨rfl, rfl⟩
  show Ev lyC (d + 2) hX11_readAct 7 [some (.ref 0), none, none] [.int 116] (I, J, R) _
  refine ev_st (L' := [some (.ref 0), some (.int 116), none]) dX11_readAct_7 rfl rfl ?_
  refine ev_st dX11_readAct_8 rfl rfl ?_
  refine ev_ls (t := 71) dX11_readAct_9 (by decide) (by decide) ?_
  refine ev_st dX11_readAct_71 rfl rfl ?_
  refine ev_getC dX11_readAct_72 fr_11_10 rfl rfl ?_
  refine ev_call dX11_readAct_75 rfl rfl mr_11_264 rfl rfl rfl (k_skip hR hlt) ?_
  rintro _ _ ⟨rfl, rfl⟩
  show Ev lyC (d + 2) hX11_readAct 78 [some (.ref 0), some (.int 116), none] [] (ti_wr I 1 2 (nI (a + 1)), J, R) _
  refine ev_st dX11_readAct_78 rfl rfl ?_
  refine ev_iconst (v := 4) dX11_readAct_79 (by decide) ?_
  refine ev_st dX11_readAct_80 rfl rfl ?_
  refine ev_st dX11_readAct_81 rfl rfl ?_
  refine ev_getC dX11_readAct_82 fr_11_10 rfl rfl ?_
  refine ev_iconst (v := 1) dX11_readAct_85 (by decide) ?_
  refine ev_iconst (v := 0) dX11_readAct_86 (by decide) ?_
  refine ev_bipush (v := 9) dX11_readAct_87 (by decide) ?_
  refine ev_call dX11_readAct_89 rfl rfl mr_11_267 rfl rfl rfl (k_rn (m := 1) (lo := 0) (hi := 9) (hR.at rfl hlt) (by decide) (by decide) (by decide) (by decide)) ?_
  rintro _ _ ⟨rfl, I3, rfl, hx3, hR3⟩
  show Ev lyC (d + 2) hX11_readAct 92 [some (.ref 0), some (.int 116), none] [.int (nI ((sNum t E 1 0 9 (true, a + 1)).1)), .int ((116 : Int32) <<< ((4 : Int32) &&& 31))] (I3, J, R) _
  refine ev_st dX11_readAct_92 rfl rfl ?_
  exact ev_iret dX11_readAct_93 rfl (ra_p (show aR t E (true, a) = (116, (sNum t E 1 0 9 (true, a + 1)).1, (sNum t E 1 0 9 (true, a + 1)).2) by rw [aR, if_neg (by simp only; omega), if_neg (by simp only; omega), if_pos (Or.inl hc), one_num, hc]) (xC.rf.w.tr hx3) hR3 (fun q => ac_t _ (by have := (num1_at q).2.2.2; omega)))
theorem k_rA108 {I : Nat → Nat → Int32} {J : Nat → Nat → Int64} {R : Nat → Nat → Value} {t : Nat → Nat} {d E N a : Nat} (hR : cR I t E N (true, a)) (hlt : a < E) (hc : t a = 108) : Cal lyC (d + 2) hX11_readAct 3 [.ref 0] (I, J, R) (fun r M' => ∃ x I3, r = some (.int x) ∧ M' = (I3, J, R) ∧ xC I I3 ∧ cR I3 t E N (aR t E (true, a)).2.2 ∧ ((aR t E (true, a)).2.2.1 = true → x = nI ((aR t E (true, a)).1 * 16 + (aR t E (true, a)).2.1))) := by
  show Ev lyC (d + 2) hX11_readAct 0 [some (.ref 0), none, none] [] (I, J, R) _
  refine ev_st dX11_readAct_0 rfl rfl ?_
  refine ev_getC dX11_readAct_1 fr_11_10 rfl rfl ?_
  refine ev_call dX11_readAct_4 rfl rfl mr_11_258 rfl rfl rfl ((pk_c hlt hc ▸ k_peekF hR)) ?_
  rintro _ _ ⟨rfl, rfl⟩
  show Ev lyC (d + 2) hX11_readAct 7 [some (.ref 0), none, none] [.int 108] (I, J, R) _
  refine ev_st (L' := [some (.ref 0), some (.int 108), none]) dX11_readAct_7 rfl rfl ?_
  refine ev_st dX11_readAct_8 rfl rfl ?_
  refine ev_ls (t := 71) dX11_readAct_9 (by decide) (by decide) ?_
  refine ev_st dX11_readAct_71 rfl rfl ?_
  refine ev_getC dX11_readAct_72 fr_11_10 rfl rfl ?_
  refine ev_call dX11_readAct_75 rfl rfl mr_11_264 rfl rfl rfl (k_skip hR hlt) ?_
  rintro _ _ ⟨rfl, rfl⟩
  show Ev lyC (d + 2) hX11_readAct 78 [some (.ref 0), some (.int 108), none] [] (ti_wr I 1 2 (nI (a + 1)), J, R) _
  refine ev_st dX11_readAct_78 rfl rfl ?_
  refine ev_iconst (v := 4) dX11_readAct_79 (by decide) ?_
  refine ev_st dX11_readAct_80 rfl rfl ?_
  refine ev_st dX11_readAct_81 rfl rfl ?_
  refine ev_getC dX11_readAct_82 fr_11_10 rfl rfl ?_
  refine ev_iconst (v := 1) dX11_readAct_85 (by decide) ?_
  refine ev_iconst (v := 0) dX11_readAct_86 (by decide) ?_
  refine ev_bipush (v := 9) dX11_readAct_87 (by decide) ?_
  refine ev_call dX11_readAct_89 rfl rfl mr_11_267 rfl rfl rfl (k_rn (m := 1) (lo := 0) (hi := 9) (hR.at rfl hlt) (by decide) (by decide) (by decide) (by decide)) ?_
  rintro _ _ ⟨rfl, I3, rfl, hx3, hR3⟩
  show Ev lyC (d + 2) hX11_readAct 92 [some (.ref 0), some (.int 108), none] [.int (nI ((sNum t E 1 0 9 (true, a + 1)).1)), .int ((108 : Int32) <<< ((4 : Int32) &&& 31))] (I3, J, R) _
  refine ev_st dX11_readAct_92 rfl rfl ?_
  exact ev_iret dX11_readAct_93 rfl (ra_p (show aR t E (true, a) = (108, (sNum t E 1 0 9 (true, a + 1)).1, (sNum t E 1 0 9 (true, a + 1)).2) by rw [aR, if_neg (by simp only; omega), if_neg (by simp only; omega), if_pos (Or.inr (Or.inl hc)), one_num, hc]) (xC.rf.w.tr hx3) hR3 (fun q => ac_l _ (by have := (num1_at q).2.2.2; omega)))
theorem k_rA115 {I : Nat → Nat → Int32} {J : Nat → Nat → Int64} {R : Nat → Nat → Value} {t : Nat → Nat} {d E N a : Nat} (hR : cR I t E N (true, a)) (hlt : a < E) (hc : t a = 115) : Cal lyC (d + 2) hX11_readAct 3 [.ref 0] (I, J, R) (fun r M' => ∃ x I3, r = some (.int x) ∧ M' = (I3, J, R) ∧ xC I I3 ∧ cR I3 t E N (aR t E (true, a)).2.2 ∧ ((aR t E (true, a)).2.2.1 = true → x = nI ((aR t E (true, a)).1 * 16 + (aR t E (true, a)).2.1))) := by
  show Ev lyC (d + 2) hX11_readAct 0 [some (.ref 0), none, none] [] (I, J, R) _
  refine ev_st dX11_readAct_0 rfl rfl ?_
  refine ev_getC dX11_readAct_1 fr_11_10 rfl rfl ?_
  refine ev_call dX11_readAct_4 rfl rfl mr_11_258 rfl rfl rfl ((pk_c hlt hc ▸ k_peekF hR)) ?_
  rintro _ _ ⟨rfl, rfl⟩
  show Ev lyC (d + 2) hX11_readAct 7 [some (.ref 0), none, none] [.int 115] (I, J, R) _
  refine ev_st (L' := [some (.ref 0), some (.int 115), none]) dX11_readAct_7 rfl rfl ?_
  refine ev_st dX11_readAct_8 rfl rfl ?_
  refine ev_ls (t := 71) dX11_readAct_9 (by decide) (by decide) ?_
  refine ev_st dX11_readAct_71 rfl rfl ?_
  refine ev_getC dX11_readAct_72 fr_11_10 rfl rfl ?_
  refine ev_call dX11_readAct_75 rfl rfl mr_11_264 rfl rfl rfl (k_skip hR hlt) ?_
  rintro _ _ ⟨rfl, rfl⟩
  show Ev lyC (d + 2) hX11_readAct 78 [some (.ref 0), some (.int 115), none] [] (ti_wr I 1 2 (nI (a + 1)), J, R) _
  refine ev_st dX11_readAct_78 rfl rfl ?_
  refine ev_iconst (v := 4) dX11_readAct_79 (by decide) ?_
  refine ev_st dX11_readAct_80 rfl rfl ?_
  refine ev_st dX11_readAct_81 rfl rfl ?_
  refine ev_getC dX11_readAct_82 fr_11_10 rfl rfl ?_
  refine ev_iconst (v := 1) dX11_readAct_85 (by decide) ?_
  refine ev_iconst (v := 0) dX11_readAct_86 (by decide) ?_
  refine ev_bipush (v := 9) dX11_readAct_87 (by decide) ?_
  refine ev_call dX11_readAct_89 rfl rfl mr_11_267 rfl rfl rfl (k_rn (m := 1) (lo := 0) (hi := 9) (hR.at rfl hlt) (by decide) (by decide) (by decide) (by decide)) ?_
  rintro _ _ ⟨rfl, I3, rfl, hx3, hR3⟩
  show Ev lyC (d + 2) hX11_readAct 92 [some (.ref 0), some (.int 115), none] [.int (nI ((sNum t E 1 0 9 (true, a + 1)).1)), .int ((115 : Int32) <<< ((4 : Int32) &&& 31))] (I3, J, R) _
  refine ev_st dX11_readAct_92 rfl rfl ?_
  exact ev_iret dX11_readAct_93 rfl (ra_p (show aR t E (true, a) = (115, (sNum t E 1 0 9 (true, a + 1)).1, (sNum t E 1 0 9 (true, a + 1)).2) by rw [aR, if_neg (by simp only; omega), if_neg (by simp only; omega), if_pos (Or.inr (Or.inr hc)), one_num, hc]) (xC.rf.w.tr hx3) hR3 (fun q => ac_s _ (by have := (num1_at q).2.2.2; omega)))
theorem k_rA118a {I : Nat → Nat → Int32} {J : Nat → Nat → Int64} {R : Nat → Nat → Value} {t : Nat → Nat} {d E N a : Nat} (hR : cR I t E N (true, a)) (hlt : a < E) {w : Nat} (hc : t a = 118) (hw4 : w < 4) (hsv : sSev t E 0 (true, a + 1) = (nI w, (true, a + 2))) (hon : sOne t E 97 4 (true, a + 1) = (w, (true, a + 2))) : Cal lyC (d + 2) hX11_readAct 3 [.ref 0] (I, J, R) (fun r M' => ∃ x I3, r = some (.int x) ∧ M' = (I3, J, R) ∧ xC I I3 ∧ cR I3 t E N (aR t E (true, a)).2.2 ∧ ((aR t E (true, a)).2.2.1 = true → x = nI ((aR t E (true, a)).1 * 16 + (aR t E (true, a)).2.1))) := by
  show Ev lyC (d + 2) hX11_readAct 0 [some (.ref 0), none, none] [] (I, J, R) _
  refine ev_st dX11_readAct_0 rfl rfl ?_
  refine ev_getC dX11_readAct_1 fr_11_10 rfl rfl ?_
  refine ev_call dX11_readAct_4 rfl rfl mr_11_258 rfl rfl rfl ((pk_c hlt hc ▸ k_peekF hR)) ?_
  rintro _ _ ⟨rfl, rfl⟩
  show Ev lyC (d + 2) hX11_readAct 7 [some (.ref 0), none, none] [.int 118] (I, J, R) _
  refine ev_st (L' := [some (.ref 0), some (.int 118), none]) dX11_readAct_7 rfl rfl ?_
  refine ev_st dX11_readAct_8 rfl rfl ?_
  refine ev_ls (t := 94) dX11_readAct_9 (by decide) (by decide) ?_
  refine ev_st dX11_readAct_94 rfl rfl ?_
  refine ev_getC dX11_readAct_95 fr_11_10 rfl rfl ?_
  refine ev_call dX11_readAct_98 rfl rfl mr_11_264 rfl rfl rfl (k_skip hR hlt) ?_
  rintro _ _ ⟨rfl, rfl⟩
  show Ev lyC (d + 2) hX11_readAct 101 [some (.ref 0), some (.int 118), none] [] (ti_wr I 1 2 (nI (a + 1)), J, R) _
  refine ev_st dX11_readAct_101 rfl rfl ?_
  refine ev_getC dX11_readAct_102 fr_11_10 rfl rfl ?_
  refine ev_iconst (v := 0) dX11_readAct_105 (by decide) ?_
  refine ev_call dX11_readAct_106 rfl rfl mr_11_271 rfl rfl rfl (k_passSeventh (l := 0) (hR.at rfl hlt) (by decide)) ?_
  rintro _ _ ⟨e9, I3, rfl, hx3, hR3⟩
  rw [hsv] at e9 hR3
  subst e9
  show Ev lyC (d + 2) hX11_readAct 109 [some (.ref 0), some (.int 118), none] [.int (nI w)] (I3, J, R) _
  refine ev_st (L' := [some (.ref 0), some (.int 118), some (.int (nI w))]) dX11_readAct_109 rfl rfl ?_
  refine ev_st dX11_readAct_110 rfl rfl ?_
  refine ev_if_ltN (t := 120) (a := w) dX11_readAct_111 (by decide) rfl (by omega) ?_
  refine ev_st dX11_readAct_114 rfl rfl ?_
  refine ev_iconst (v := 4) dX11_readAct_115 (by decide) ?_
  refine ev_st dX11_readAct_116 rfl rfl ?_
  refine ev_st dX11_readAct_117 rfl rfl ?_
  refine ev_st dX11_readAct_118 rfl rfl ?_
  exact ev_iret dX11_readAct_119 rfl (ra_p (show aR t E (true, a) = (118, w, (true, a + 2)) by rw [aR, if_neg (by simp only; omega), if_pos hc, hon]) (xC.rf.w.tr hx3) hR3 (fun q => ac_v _ (by omega)))
theorem k_rA118b {I : Nat → Nat → Int32} {J : Nat → Nat → Int64} {R : Nat → Nat → Value} {t : Nat → Nat} {d E N a : Nat} (hR : cR I t E N (true, a)) (hlt : a < E) (hc : t a = 118) (hsv : sSev t E 0 (true, a + 1) = (-1, (true, a + 1))) (hon : sOne t E 97 4 (true, a + 1) = (0, (false, a + 1))) : Cal lyC (d + 2) hX11_readAct 3 [.ref 0] (I, J, R) (fun r M' => ∃ x I3, r = some (.int x) ∧ M' = (I3, J, R) ∧ xC I I3 ∧ cR I3 t E N (aR t E (true, a)).2.2 ∧ ((aR t E (true, a)).2.2.1 = true → x = nI ((aR t E (true, a)).1 * 16 + (aR t E (true, a)).2.1))) := by
  show Ev lyC (d + 2) hX11_readAct 0 [some (.ref 0), none, none] [] (I, J, R) _
  refine ev_st dX11_readAct_0 rfl rfl ?_
  refine ev_getC dX11_readAct_1 fr_11_10 rfl rfl ?_
  refine ev_call dX11_readAct_4 rfl rfl mr_11_258 rfl rfl rfl ((pk_c hlt hc ▸ k_peekF hR)) ?_
  rintro _ _ ⟨rfl, rfl⟩
  show Ev lyC (d + 2) hX11_readAct 7 [some (.ref 0), none, none] [.int 118] (I, J, R) _
  refine ev_st (L' := [some (.ref 0), some (.int 118), none]) dX11_readAct_7 rfl rfl ?_
  refine ev_st dX11_readAct_8 rfl rfl ?_
  refine ev_ls (t := 94) dX11_readAct_9 (by decide) (by decide) ?_
  refine ev_st dX11_readAct_94 rfl rfl ?_
  refine ev_getC dX11_readAct_95 fr_11_10 rfl rfl ?_
  refine ev_call dX11_readAct_98 rfl rfl mr_11_264 rfl rfl rfl (k_skip hR hlt) ?_
  rintro _ _ ⟨rfl, rfl⟩
  show Ev lyC (d + 2) hX11_readAct 101 [some (.ref 0), some (.int 118), none] [] (ti_wr I 1 2 (nI (a + 1)), J, R) _
  refine ev_st dX11_readAct_101 rfl rfl ?_
  refine ev_getC dX11_readAct_102 fr_11_10 rfl rfl ?_
  refine ev_iconst (v := 0) dX11_readAct_105 (by decide) ?_
  refine ev_call dX11_readAct_106 rfl rfl mr_11_271 rfl rfl rfl (k_passSeventh (l := 0) (hR.at rfl hlt) (by decide)) ?_
  rintro _ _ ⟨e9, I3, rfl, hx3, hR3⟩
  rw [hsv] at e9 hR3
  subst e9
  show Ev lyC (d + 2) hX11_readAct 109 [some (.ref 0), some (.int 118), none] [.int ((-1))] (I3, J, R) _
  refine ev_st (L' := [some (.ref 0), some (.int 118), some (.int ((-1)))]) dX11_readAct_109 rfl rfl ?_
  refine ev_st dX11_readAct_110 rfl rfl ?_
  refine ev_if_lt (t := 120) dX11_readAct_111 (by decide) (fun _ => ?_) (fun q => absurd q (by decide))
  refine ev_st dX11_readAct_120 rfl rfl ?_
  refine ev_getC dX11_readAct_121 fr_11_10 rfl rfl ?_
  refine ev_call dX11_readAct_124 rfl rfl mr_11_274 rfl rfl rfl (k_refuse hR3) ?_
  rintro _ _ ⟨rfl, I4, rfl, hx4, hR4⟩
  show Ev lyC (d + 2) hX11_readAct 127 [some (.ref 0), some (.int 118), some (.int ((-1)))] [] (I4, J, R) _
  refine ev_iconst (v := 0) dX11_readAct_127 (by decide) ?_
  exact ev_iret dX11_readAct_128 rfl (ra_p (show aR t E (true, a) = (118, 0, (false, a + 1)) by rw [aR, if_neg (by simp only; omega), if_pos hc, hon]) ((xC.rf.w.tr hx3).tr hx4) hR4 (fun q => by cases q))
theorem ls_no {x : Int32} {l : List (Int × Int)} {d : Int} (h : ∀ p, p ∈ l → ¬ p.1 = x.toInt) : Op.lookupswitch.offset l d x.toInt = d := by
  induction l with
  | nil => rfl
  | cons p r ih => rw [show p = (p.1, p.2) from rfl, Op.lookupswitch.offset_cons, if_neg (h p (by simp))]; exact ih (fun q hq => h q (by simp [hq]))
theorem k_rAn {I : Nat → Nat → Int32} {J : Nat → Nat → Int64} {R : Nat → Nat → Value} {t : Nat → Nat} {d E N a : Nat} (hR : cR I t E N (true, a)) (hlt : a < E) (h1 : ¬ t a = 62) (h2 : ¬ t a = 118) (h3 : ¬ (t a = 116 ∨ t a = 108 ∨ t a = 115)) : Cal lyC (d + 2) hX11_readAct 3 [.ref 0] (I, J, R) (fun r M' => ∃ x I3, r = some (.int x) ∧ M' = (I3, J, R) ∧ xC I I3 ∧ cR I3 t E N (aR t E (true, a)).2.2 ∧ ((aR t E (true, a)).2.2.1 = true → x = nI ((aR t E (true, a)).1 * 16 + (aR t E (true, a)).2.1))) := by
  have h256 := hR.t a hlt
  have hno : ti_jmp 9 (Op.lookupswitch.offset #[((62 : Int), (51 : Int)), (108, 62), (115, 62), (116, 62), (118, 85)].toList 111 (nI (t a)).toInt) = some 120 := by rw [ls_no (by rw [nI_toInt (by omega)]; intro p hp; simp at hp; rcases hp with rfl | rfl | rfl | rfl | rfl <;> (simp only; omega))]; decide
  show Ev lyC (d + 2) hX11_readAct 0 [some (.ref 0), none, none] [] (I, J, R) _
  refine ev_st dX11_readAct_0 rfl rfl ?_
  refine ev_getC dX11_readAct_1 fr_11_10 rfl rfl ?_
  refine ev_call dX11_readAct_4 rfl rfl mr_11_258 rfl rfl rfl ((pk_at hlt ▸ k_peekF hR)) ?_
  rintro _ _ ⟨rfl, rfl⟩
  show Ev lyC (d + 2) hX11_readAct 7 [some (.ref 0), none, none] [.int (nI (t a))] (I, J, R) _
  refine ev_st (L' := [some (.ref 0), some (.int (nI (t a))), none]) dX11_readAct_7 rfl rfl ?_
  refine ev_st dX11_readAct_8 rfl rfl ?_
  refine ev_ls (t := 120) dX11_readAct_9 (by decide) hno ?_
  refine ev_st dX11_readAct_120 rfl rfl ?_
  refine ev_getC dX11_readAct_121 fr_11_10 rfl rfl ?_
  refine ev_call dX11_readAct_124 rfl rfl mr_11_274 rfl rfl rfl (k_refuse hR) ?_
  rintro _ _ ⟨rfl, I4, rfl, hx4, hR4⟩
  show Ev lyC (d + 2) hX11_readAct 127 [some (.ref 0), some (.int (nI (t a))), none] [] (I4, J, R) _
  refine ev_iconst (v := 0) dX11_readAct_127 (by decide) ?_
  exact ev_iret dX11_readAct_128 rfl (ra_p (show aR t E (true, a) = (0, 0, (false, a)) by rw [aR, if_neg h1, if_neg h2, if_neg h3]) hx4 hR4 (fun q => by cases q))
theorem k_readAct {I : Nat → Nat → Int32} {J : Nat → Nat → Int64} {R : Nat → Nat → Value} {t : Nat → Nat} {d E N : Nat} {s : PS} (hR : cR I t E N s) (hg : goes E s) : Cal lyC (d + 2) hX11_readAct 3 [.ref 0] (I, J, R) (fun r M' => ∃ x I3, r = some (.int x) ∧ M' = (I3, J, R) ∧ xC I I3 ∧ cR I3 t E N (aR t E s).2.2 ∧ ((aR t E s).2.2.1 = true → x = nI ((aR t E s).1 * 16 + (aR t E s).2.1))) := by
  obtain ⟨b, a⟩ := s
  obtain ⟨h0, hlt⟩ := hg
  cases b
  · cases h0
  · simp only at hlt
    by_cases h1 : t a = 62
    · exact k_rA62 hR hlt h1
    · by_cases h2 : t a = 118
      · rcases sev_one (a := a + 1) hR.t with ⟨e1, e2⟩ | ⟨w, e1, e2, e3⟩
        · exact k_rA118b hR hlt h2 e1 e2
        · exact k_rA118a hR hlt h2 e1 e2 e3
      · by_cases h3 : t a = 116 ∨ t a = 108 ∨ t a = 115
        · rcases h3 with q | q | q
          · exact k_rA116 hR hlt q
          · exact k_rA108 hR hlt q
          · exact k_rA115 hR hlt q
        · exact k_rAn hR hlt h1 h2 h3
