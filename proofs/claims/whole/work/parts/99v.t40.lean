/-! rules, by the class: what is joined, level by level -/
/-- the level of a sign -/
def lv7 (c : Nat) : Nat := if c = 60 ∨ c = 61 ∨ c = 62 then 0 else if c = 43 ∨ c = 45 then 1 else if c = 42 ∨ c = 47 then 2 else 3
theorem lv7_le {c : Nat} : lv7 c ≤ 3 := by
  unfold lv7
  split
  · omega
  · split
    · omega
    · split <;> omega
/-- the level of the sign that comes -/
def lvS (t : Nat → Nat) (E : Nat) (s : PS) : Nat := if s.1 = true ∧ s.2 < E then lv7 (t s.2) else 3
theorem lvS_le {t : Nat → Nat} {E : Nat} {s : PS} : lvS t E s ≤ 3 := by
  unfold lvS
  split
  · exact lv7_le
  · omega
theorem lvS_0 {t : Nat → Nat} {E : Nat} {s : PS} (h : lvS t E s = 0) : pk t E s = nI 60 ∨ pk t E s = nI 62 ∨ pk t E s = nI 61 := by
  unfold lvS at h
  split at h
  · next q =>
    rw [pk_yes q.1 q.2]
    unfold lv7 at h
    split at h
    · next e =>
      rcases e with e | e | e
      · rw [e]; exact Or.inl rfl
      · rw [e]; exact Or.inr (Or.inr rfl)
      · rw [e]; exact Or.inr (Or.inl rfl)
    · split at h
      · omega
      · split at h <;> omega
  · omega
theorem lvS_1 {t : Nat → Nat} {E : Nat} {s : PS} (h : lvS t E s = 1) : pk t E s = nI 43 ∨ pk t E s = nI 45 := by
  unfold lvS at h
  split at h
  · next q =>
    rw [pk_yes q.1 q.2]
    unfold lv7 at h
    split at h
    · omega
    · split at h
      · next e =>
        rcases e with e | e
        · rw [e]; exact Or.inl rfl
        · rw [e]; exact Or.inr rfl
      · split at h <;> omega
  · omega
theorem lvS_2 {t : Nat → Nat} {E : Nat} {s : PS} (h : lvS t E s = 2) : pk t E s = nI 42 ∨ pk t E s = nI 47 := by
  unfold lvS at h
  split at h
  · next q =>
    rw [pk_yes q.1 q.2]
    unfold lv7 at h
    split at h
    · omega
    · split at h
      · omega
      · split at h
        · next e =>
          rcases e with e | e
          · rw [e]; exact Or.inl rfl
          · rw [e]; exact Or.inr rfl
        · omega
  · omega
theorem ev_tsG {lay : List TE} {d pc len t : Nat} {h : TH} {L : TL} {st : List Value} {M : TM} {Q : Option Value → TM → Prop} {x : Int32} {dflt lo hi : Int} {offs : Array Int} (hd : decode h.2.1 pc = .ok (.tableswitch dflt lo hi offs, len)) (hT : (if x.toInt < lo ∨ hi < x.toInt then ti_jmp pc dflt else (offs[(x.toInt - lo).toNat]?).bind (ti_jmp pc)) = some t) (kk : Ev lay d h t L st M Q) : Ev lay d h pc L (.int x :: st) M Q := by
  refine ev_st hd rfl ?_ kk
  simp only [ti_step, ti_ts]
  by_cases q : x.toInt < lo ∨ hi < x.toInt
  · rw [if_pos q] at hT ⊢
    rw [hT]
    rfl
  · rw [if_neg q] at hT ⊢
    cases e : offs[(x.toInt - lo).toNat]? with
    | none => rw [e] at hT; cases hT
    | some off =>
      rw [e] at hT
      have hT : ti_jmp pc off = some t := hT
      simp only [hT]
      rfl
def lvT (x : Int32) : Option Nat := if x.toInt < 42 ∨ 62 < x.toInt then ti_jmp 1 105 else ((#[103, 101, 105, 101, 105, 103, 105, 105, 105, 105, 105, 105, 105, 105, 105, 105, 105, 105, 99, 99, 99] : Array Int)[(x.toInt - 42).toNat]?).bind (ti_jmp 1)
theorem lvT_n {c : Nat} (h : c < 256) : lvT (nI c) = some (100 + 2 * lv7 c) := by
  have : ∀ c, c < 256 → lvT (nI c) = some (100 + 2 * lv7 c) := by decide +kernel
  exact this c h
theorem lvT_m1 : lvT (-1) = some 106 := by decide +kernel
theorem k_levX {I : Nat → Nat → Int32} {J : Nat → Nat → Int64} {R : Nat → Nat → Value} {d l : Nat} {x : Int32} (hl : l ≤ 3) (h : lvT x = some (100 + 2 * l)) : Cal lyC d hX5_levelOf 1 [.int x] (I, J, R) (fun r M' => r = some (.int (nI l)) ∧ M' = (I, J, R)) := by
  show Ev lyC d hX5_levelOf 0 [some (.int x)] [] (I, J, R) _
  refine ev_st dX5_levelOf_0 rfl rfl ?_
  have h4 : l = 0 ∨ l = 1 ∨ l = 2 ∨ l = 3 := by omega
  rcases h4 with rfl | rfl | rfl | rfl
  · refine ev_tsG (t := 100) dX5_levelOf_1 h ?_
    refine ev_iconst (v := 0) dX5_levelOf_100 (by decide) ?_
    exact ev_iret dX5_levelOf_101 rfl ⟨rfl, rfl⟩
  · refine ev_tsG (t := 102) dX5_levelOf_1 h ?_
    refine ev_iconst (v := 1) dX5_levelOf_102 (by decide) ?_
    exact ev_iret dX5_levelOf_103 rfl ⟨rfl, rfl⟩
  · refine ev_tsG (t := 104) dX5_levelOf_1 h ?_
    refine ev_iconst (v := 2) dX5_levelOf_104 (by decide) ?_
    exact ev_iret dX5_levelOf_105 rfl ⟨rfl, rfl⟩
  · refine ev_tsG (t := 106) dX5_levelOf_1 h ?_
    refine ev_iconst (v := 3) dX5_levelOf_106 (by decide) ?_
    exact ev_iret dX5_levelOf_107 rfl ⟨rfl, rfl⟩
theorem k_lev {I : Nat → Nat → Int32} {J : Nat → Nat → Int64} {R : Nat → Nat → Value} {d c l : Nat} (hc : c < 256) (hl : lv7 c = l) : Cal lyC d hX5_levelOf 1 [.int (nI c)] (I, J, R) (fun r M' => r = some (.int (nI l)) ∧ M' = (I, J, R)) := by
  subst hl
  exact k_levX lv7_le (lvT_n hc)
theorem k_levS {I : Nat → Nat → Int32} {J : Nat → Nat → Int64} {R : Nat → Nat → Value} {t : Nat → Nat} {d E : Nat} {s : PS} (ht : ∀ k, k < E → t k < 256) : Cal lyC d hX5_levelOf 1 [.int (pk t E s)] (I, J, R) (fun r M' => r = some (.int (nI (lvS t E s))) ∧ M' = (I, J, R)) := by
  refine k_levX lvS_le ?_
  unfold lvS
  by_cases h : s.1 = true ∧ s.2 < E
  · rw [if_pos h, pk_yes h.1 h.2]
    exact lvT_n (ht _ h.2)
  · rw [if_neg h, pk_no (fun a b => h ⟨a, b⟩)]
    exact lvT_m1
theorem gJ_app {t : Nat → Nat} {f : PS → RR} {a : RR} {C : List Int32} {c : Nat} (h : t a.1.2 = c) : C ++ (gJ t f a).2.1 = C ++ a.2.1 ++ (f (true, a.1.2 + 1)).2.1 ++ [nI (2000 + c)] := by
  subst h
  show C ++ (a.2.1 ++ (f (true, a.1.2 + 1)).2.1 ++ [nI (2000 + t a.1.2)]) = _
  rw [List.append_assoc, List.append_assoc, List.append_assoc]
set_option maxHeartbeats 1000000 in
theorem k_lev3_31 {t : Nat → Nat} {E N D0 : Nat} {dep : Int32} {f : PS → RR} (hC : kRd hX5_readThing 5 31 dep D0 t E N f) : kRj 3 31 dep (D0 + 1) t E N f := by
  intro I J R s C D hD0 hR hS hl
  obtain ⟨d, rfl⟩ : ∃ d, D = d + 1 := ⟨D - 1, by omega⟩
  have hD : D0 ≤ d := by omega
  show Ev lyC (d + 1) hX5_readJoined 0 [some (.ref 31), some (.ref 1), some (.int (nI 3)), some (.int dep), none, none, none] [] (I, J, R) _
  refine ev_st dX5_readJoined_0 rfl rfl ?_
  refine ev_iconst (v := 3) dX5_readJoined_1 (by decide) ?_
  refine ev_ic_ltN (t := 12) (a := 3) (b := 3) dX5_readJoined_2 (by decide) rfl rfl (by omega) (by omega) (fun c_2 => ?_) (fun c_2 => ?_)
  · omega
  · refine ev_st dX5_readJoined_5 rfl rfl ?_
    refine ev_st dX5_readJoined_6 rfl rfl ?_
    refine ev_st dX5_readJoined_7 rfl rfl ?_
    refine ev_call dX5_readJoined_8 rfl rfl mr_5_55 rfl rfl rfl (hC I J R s C _ hD hR hS hl) ?_
    rintro _ _ ⟨rfl, I3, rfl, hx3, hR3, hS3⟩
    show Ev lyC (d + 1) hX5_readJoined 11 [some (.ref 31), some (.ref 1), some (.int (nI 3)), some (.int dep), none, none, none] [] (I3, J, R) _
    exact ev_vret dX5_readJoined_11 rfl (⟨rfl, _, rfl, hx3, hR3, hS3⟩)
set_option maxHeartbeats 1000000 in
theorem k_prodL_31 {I : Nat → Nat → Int32} {J : Nat → Nat → Int64} {R : Nat → Nat → Value} {t : Nat → Nat} {d E N D0 : Nat} {dep : Int32} {C : List Int32} {f : PS → RR} (hC : kRj 3 31 dep D0 t E N f) (hp : pay f) (hE : E ≤ 40) (hD : D0 ≤ d) : ∀ (m b : Nat) (a : RR) (z6 : Option Value) (I2 : Nat → Nat → Int32) (fin : RR), b + m = 40 → eC 31 I I2 → cR I2 t E N a.1 → cS 31 I2 (C ++ a.2.1) → (C ++ a.2.1).length ≤ a.1.2 → gL t E 42 47 f m a = fin → Ev lyC (d + 1) hX5_readJoined 36 [some (.ref 31), some (.ref 1), some (.int (nI 2)), some (.int dep), some (.int 40), some (.int (nI b)), z6] [] (I2, J, R) (kQ 31 I J R t E N fin.1 (C ++ fin.2.1)) := by
  intro m
  induction m with
  | zero =>
    intro b a z6 I2 fin hb hx2 hR2 hS2 hl e9
    rw [gL] at e9
    refine ev_st dX5_readJoined_36 rfl rfl ?_
    refine ev_st dX5_readJoined_38 rfl rfl ?_
    refine ev_ic_geN (t := 89) (a := b) (b := 40) dX5_readJoined_40 (by decide) rfl rfl (by omega) (by omega) (fun c_40 => ?_) (fun c_40 => ?_)
    · exact ev_vret dX5_readJoined_89 rfl (e9 ▸ ⟨rfl, _, rfl, hx2, hR2, hS2⟩)
    · omega
  | succ m ih =>
    intro b a z6 I2 fin hb hx2 hR2 hS2 hl e9
    by_cases hk : pk t E a.1 = nI 42
    · skip
      have hft := (pkS_eq (by decide) hR2.t hk).1
      have haE := (pkS_eq (by decide) hR2.t hk).2.1
      have ht := (pkS_eq (by decide) hR2.t hk).2.2
      refine ev_st dX5_readJoined_36 rfl rfl ?_
      refine ev_st dX5_readJoined_38 rfl rfl ?_
      refine ev_ic_geN (t := 89) (a := b) (b := 40) dX5_readJoined_40 (by decide) rfl rfl (by omega) (by omega) (fun c_40 => ?_) (fun c_40 => ?_)
      · omega
      · refine ev_st dX5_readJoined_43 rfl rfl ?_
        refine ev_call dX5_readJoined_44 rfl rfl mr_5_59 rfl rfl rfl (k_peek hR2) ?_
        rintro _ _ ⟨e1, rfl⟩
        rw [hk] at e1
        subst e1
        show Ev lyC (d + 1) hX5_readJoined 47 [some (.ref 31), some (.ref 1), some (.int (nI 2)), some (.int dep), some (.int 40), some (.int (nI b)), z6] [.int (nI 42)] (I2, J, R) _
        refine ev_call dX5_readJoined_47 rfl rfl mr_5_62 rfl rfl rfl (k_lev (c := 42) (l := 2) (by decide) rfl) ?_
        rintro _ _ ⟨rfl, rfl⟩
        show Ev lyC (d + 1) hX5_readJoined 50 [some (.ref 31), some (.ref 1), some (.int (nI 2)), some (.int dep), some (.int 40), some (.int (nI b)), z6] [.int (nI 2)] (I2, J, R) _
        refine ev_st dX5_readJoined_50 rfl rfl ?_
        refine ev_ic_neN (t := 89) (a := 2) (b := 2) dX5_readJoined_51 (by decide) rfl rfl (by omega) (by omega) (fun c_51 => ?_) (fun c_51 => ?_)
        · omega
        · refine ev_st dX5_readJoined_54 rfl rfl ?_
          refine ev_call dX5_readJoined_55 rfl rfl mr_5_59 rfl rfl rfl (k_peek hR2) ?_
          rintro _ _ ⟨e1, rfl⟩
          rw [hk] at e1
          subst e1
          show Ev lyC (d + 1) hX5_readJoined 58 [some (.ref 31), some (.ref 1), some (.int (nI 2)), some (.int dep), some (.int 40), some (.int (nI b)), z6] [.int (nI 42)] (I2, J, R) _
          refine ev_st (L' := [some (.ref 31), some (.ref 1), some (.int (nI 2)), some (.int dep), some (.int 40), some (.int (nI b)), some (.int (nI 42))]) dX5_readJoined_58 rfl rfl ?_
          refine ev_st dX5_readJoined_60 rfl rfl ?_
          refine ev_call dX5_readJoined_61 rfl rfl mr_5_65 rfl rfl rfl (k_skip (hR2.fine hft) haE) ?_
          rintro _ _ ⟨rfl, rfl⟩
          show Ev lyC (d + 1) hX5_readJoined 64 [some (.ref 31), some (.ref 1), some (.int (nI 2)), some (.int dep), some (.int 40), some (.int (nI b)), some (.int (nI 42))] [] (ti_wr I2 1 2 (nI (a.1.2 + 1)), J, R) _
          refine ev_st dX5_readJoined_64 rfl rfl ?_
          refine ev_st dX5_readJoined_65 rfl rfl ?_
          refine ev_st dX5_readJoined_66 rfl rfl ?_
          refine ev_iconst (v := 1) dX5_readJoined_67 (by decide) ?_
          refine ev_iaddN (a := 2) (b := 1) (c := 3) dX5_readJoined_68 rfl rfl rfl ?_
          refine ev_st dX5_readJoined_69 rfl rfl ?_
          refine ev_call dX5_readJoined_70 rfl rfl mr_5_48 rfl rfl rfl (hC _ J R (true, a.1.2 + 1) _ _ hD (hR2.at hft (by omega)) (xC.add hS2 (by decide)) (by show _ ≤ a.1.2 + 1; omega)) ?_
          rintro _ _ ⟨rfl, I3, rfl, hx3, hR3, hS3⟩
          have hp3 : (f (true, a.1.2 + 1)).2.1.length + (a.1.2 + 1) ≤ (f (true, a.1.2 + 1)).1.2 := hp (true, a.1.2 + 1)
          have hle3 := hR3.le
          have hl3 : (C ++ a.2.1 ++ (f (true, a.1.2 + 1)).2.1).length + 1 ≤ (f (true, a.1.2 + 1)).1.2 := by rw [List.length_append]; omega
          show Ev lyC (d + 1) hX5_readJoined 73 [some (.ref 31), some (.ref 1), some (.int (nI 2)), some (.int dep), some (.int 40), some (.int (nI b)), some (.int (nI 42))] [] (I3, J, R) _
          refine ev_st dX5_readJoined_73 rfl rfl ?_
          refine ev_sipush (v := 2000) dX5_readJoined_74 (by decide) ?_
          refine ev_st dX5_readJoined_77 rfl rfl ?_
          refine ev_iaddN (a := 2000) (b := 42) (c := 2042) dX5_readJoined_79 rfl rfl rfl ?_
          refine ev_call dX5_readJoined_80 rfl rfl mr_5_68 rfl rfl rfl (k_add1_31 hS3.1 (by omega) _) ?_
          rintro _ _ ⟨rfl, rfl⟩
          show Ev lyC (d + 1) hX5_readJoined 83 [some (.ref 31), some (.ref 1), some (.int (nI 2)), some (.int dep), some (.int 40), some (.int (nI b)), some (.int (nI 42))] [] (ti_wr (ti_wr I3 32 ((C ++ a.2.1 ++ (f (true, a.1.2 + 1)).2.1).length) (nI 2042)) 31 3 (nI ((C ++ a.2.1 ++ (f (true, a.1.2 + 1)).2.1).length + 1)), J, R) _
          refine ev_iincN (a := b) (b := b + 1) (L' := [some (.ref 31), some (.ref 1), some (.int (nI 2)), some (.int dep), some (.int 40), some (.int (nI (b + 1))), some (.int (nI 42))]) dX5_readJoined_83 rfl (nI_1 _) rfl ?_
          refine ev_goto (t := 36) dX5_readJoined_86 (by decide) ?_
          refine ih (b + 1) (gJ t f a) _ _ fin (by omega) (((hx2.x xC.rf.w).tr hx3).add) (hR3.add (by decide)) ?_ ?_ ?_
          · rw [gJ_app ht]; exact hS3.add
          · rw [gJ_app ht, List.length_append]; exact hl3
          · rw [gL, if_pos (Or.inl hk)] at e9; exact e9
    · by_cases hk2 : pk t E a.1 = nI 47
      · have hk1 := hk
        clear hk
        have hk := hk2
        have hft := (pkS_eq (by decide) hR2.t hk).1
        have haE := (pkS_eq (by decide) hR2.t hk).2.1
        have ht := (pkS_eq (by decide) hR2.t hk).2.2
        refine ev_st dX5_readJoined_36 rfl rfl ?_
        refine ev_st dX5_readJoined_38 rfl rfl ?_
        refine ev_ic_geN (t := 89) (a := b) (b := 40) dX5_readJoined_40 (by decide) rfl rfl (by omega) (by omega) (fun c_40 => ?_) (fun c_40 => ?_)
        · omega
        · refine ev_st dX5_readJoined_43 rfl rfl ?_
          refine ev_call dX5_readJoined_44 rfl rfl mr_5_59 rfl rfl rfl (k_peek hR2) ?_
          rintro _ _ ⟨e1, rfl⟩
          rw [hk] at e1
          subst e1
          show Ev lyC (d + 1) hX5_readJoined 47 [some (.ref 31), some (.ref 1), some (.int (nI 2)), some (.int dep), some (.int 40), some (.int (nI b)), z6] [.int (nI 47)] (I2, J, R) _
          refine ev_call dX5_readJoined_47 rfl rfl mr_5_62 rfl rfl rfl (k_lev (c := 47) (l := 2) (by decide) rfl) ?_
          rintro _ _ ⟨rfl, rfl⟩
          show Ev lyC (d + 1) hX5_readJoined 50 [some (.ref 31), some (.ref 1), some (.int (nI 2)), some (.int dep), some (.int 40), some (.int (nI b)), z6] [.int (nI 2)] (I2, J, R) _
          refine ev_st dX5_readJoined_50 rfl rfl ?_
          refine ev_ic_neN (t := 89) (a := 2) (b := 2) dX5_readJoined_51 (by decide) rfl rfl (by omega) (by omega) (fun c_51 => ?_) (fun c_51 => ?_)
          · omega
          · refine ev_st dX5_readJoined_54 rfl rfl ?_
            refine ev_call dX5_readJoined_55 rfl rfl mr_5_59 rfl rfl rfl (k_peek hR2) ?_
            rintro _ _ ⟨e1, rfl⟩
            rw [hk] at e1
            subst e1
            show Ev lyC (d + 1) hX5_readJoined 58 [some (.ref 31), some (.ref 1), some (.int (nI 2)), some (.int dep), some (.int 40), some (.int (nI b)), z6] [.int (nI 47)] (I2, J, R) _
            refine ev_st (L' := [some (.ref 31), some (.ref 1), some (.int (nI 2)), some (.int dep), some (.int 40), some (.int (nI b)), some (.int (nI 47))]) dX5_readJoined_58 rfl rfl ?_
            refine ev_st dX5_readJoined_60 rfl rfl ?_
            refine ev_call dX5_readJoined_61 rfl rfl mr_5_65 rfl rfl rfl (k_skip (hR2.fine hft) haE) ?_
            rintro _ _ ⟨rfl, rfl⟩
            show Ev lyC (d + 1) hX5_readJoined 64 [some (.ref 31), some (.ref 1), some (.int (nI 2)), some (.int dep), some (.int 40), some (.int (nI b)), some (.int (nI 47))] [] (ti_wr I2 1 2 (nI (a.1.2 + 1)), J, R) _
            refine ev_st dX5_readJoined_64 rfl rfl ?_
            refine ev_st dX5_readJoined_65 rfl rfl ?_
            refine ev_st dX5_readJoined_66 rfl rfl ?_
            refine ev_iconst (v := 1) dX5_readJoined_67 (by decide) ?_
            refine ev_iaddN (a := 2) (b := 1) (c := 3) dX5_readJoined_68 rfl rfl rfl ?_
            refine ev_st dX5_readJoined_69 rfl rfl ?_
            refine ev_call dX5_readJoined_70 rfl rfl mr_5_48 rfl rfl rfl (hC _ J R (true, a.1.2 + 1) _ _ hD (hR2.at hft (by omega)) (xC.add hS2 (by decide)) (by show _ ≤ a.1.2 + 1; omega)) ?_
            rintro _ _ ⟨rfl, I3, rfl, hx3, hR3, hS3⟩
            have hp3 : (f (true, a.1.2 + 1)).2.1.length + (a.1.2 + 1) ≤ (f (true, a.1.2 + 1)).1.2 := hp (true, a.1.2 + 1)
            have hle3 := hR3.le
            have hl3 : (C ++ a.2.1 ++ (f (true, a.1.2 + 1)).2.1).length + 1 ≤ (f (true, a.1.2 + 1)).1.2 := by rw [List.length_append]; omega
            show Ev lyC (d + 1) hX5_readJoined 73 [some (.ref 31), some (.ref 1), some (.int (nI 2)), some (.int dep), some (.int 40), some (.int (nI b)), some (.int (nI 47))] [] (I3, J, R) _
            refine ev_st dX5_readJoined_73 rfl rfl ?_
            refine ev_sipush (v := 2000) dX5_readJoined_74 (by decide) ?_
            refine ev_st dX5_readJoined_77 rfl rfl ?_
            refine ev_iaddN (a := 2000) (b := 47) (c := 2047) dX5_readJoined_79 rfl rfl rfl ?_
            refine ev_call dX5_readJoined_80 rfl rfl mr_5_68 rfl rfl rfl (k_add1_31 hS3.1 (by omega) _) ?_
            rintro _ _ ⟨rfl, rfl⟩
            show Ev lyC (d + 1) hX5_readJoined 83 [some (.ref 31), some (.ref 1), some (.int (nI 2)), some (.int dep), some (.int 40), some (.int (nI b)), some (.int (nI 47))] [] (ti_wr (ti_wr I3 32 ((C ++ a.2.1 ++ (f (true, a.1.2 + 1)).2.1).length) (nI 2047)) 31 3 (nI ((C ++ a.2.1 ++ (f (true, a.1.2 + 1)).2.1).length + 1)), J, R) _
            refine ev_iincN (a := b) (b := b + 1) (L' := [some (.ref 31), some (.ref 1), some (.int (nI 2)), some (.int dep), some (.int 40), some (.int (nI (b + 1))), some (.int (nI 47))]) dX5_readJoined_83 rfl (nI_1 _) rfl ?_
            refine ev_goto (t := 36) dX5_readJoined_86 (by decide) ?_
            refine ih (b + 1) (gJ t f a) _ _ fin (by omega) (((hx2.x xC.rf.w).tr hx3).add) (hR3.add (by decide)) ?_ ?_ ?_
            · rw [gJ_app ht]; exact hS3.add
            · rw [gJ_app ht, List.length_append]; exact hl3
            · rw [gL, if_pos (Or.inr hk)] at e9; exact e9
      · skip
        rw [gL, if_neg (fun q => q.elim hk hk2)] at e9
        have hle7 := @lvS_le t E a.1
        have hne : ¬ lvS t E a.1 = 2 := fun q => (lvS_2 q).elim hk hk2
        refine ev_st dX5_readJoined_36 rfl rfl ?_
        refine ev_st dX5_readJoined_38 rfl rfl ?_
        refine ev_ic_geN (t := 89) (a := b) (b := 40) dX5_readJoined_40 (by decide) rfl rfl (by omega) (by omega) (fun c_40 => ?_) (fun c_40 => ?_)
        · omega
        · refine ev_st dX5_readJoined_43 rfl rfl ?_
          refine ev_call dX5_readJoined_44 rfl rfl mr_5_59 rfl rfl rfl (k_peek hR2) ?_
          rintro _ _ ⟨e1, rfl⟩
          subst e1
          show Ev lyC (d + 1) hX5_readJoined 47 [some (.ref 31), some (.ref 1), some (.int (nI 2)), some (.int dep), some (.int 40), some (.int (nI b)), z6] [.int (pk t E a.1)] (I2, J, R) _
          refine ev_call dX5_readJoined_47 rfl rfl mr_5_62 rfl rfl rfl (k_levS hR2.t) ?_
          rintro _ _ ⟨rfl, rfl⟩
          show Ev lyC (d + 1) hX5_readJoined 50 [some (.ref 31), some (.ref 1), some (.int (nI 2)), some (.int dep), some (.int 40), some (.int (nI b)), z6] [.int (nI (lvS t E a.1))] (I2, J, R) _
          refine ev_st dX5_readJoined_50 rfl rfl ?_
          refine ev_ic_neN (t := 89) (a := lvS t E a.1) (b := 2) dX5_readJoined_51 (by decide) rfl rfl (by omega) (by omega) (fun c_51 => ?_) (fun c_51 => ?_)
          · exact ev_vret dX5_readJoined_89 rfl (e9 ▸ ⟨rfl, _, rfl, hx2, hR2, hS2⟩)
          · exact absurd c_51 hne
set_option maxHeartbeats 1000000 in
theorem k_prod_31 {t : Nat → Nat} {E N D0 : Nat} {dep : Int32} {f : PS → RR} (hC : kRj 3 31 dep D0 t E N f) (hp : pay f) (hE : E ≤ 40) : kRj 2 31 dep (D0 + 1) t E N (gP t E f) := by
  intro I J R s C D hD0 hR hS hl
  obtain ⟨d, rfl⟩ : ∃ d, D = d + 1 := ⟨D - 1, by omega⟩
  have hD : D0 ≤ d := by omega
  show Ev lyC (d + 1) hX5_readJoined 0 [some (.ref 31), some (.ref 1), some (.int (nI 2)), some (.int dep), none, none, none] [] (I, J, R) _
  refine ev_st dX5_readJoined_0 rfl rfl ?_
  refine ev_iconst (v := 3) dX5_readJoined_1 (by decide) ?_
  refine ev_ic_ltN (t := 12) (a := 2) (b := 3) dX5_readJoined_2 (by decide) rfl rfl (by omega) (by omega) (fun c_2 => ?_) (fun c_2 => ?_)
  · refine ev_st dX5_readJoined_12 rfl rfl ?_
    refine ev_st dX5_readJoined_13 rfl rfl ?_
    refine ev_st dX5_readJoined_14 rfl rfl ?_
    refine ev_iconst (v := 1) dX5_readJoined_15 (by decide) ?_
    refine ev_iaddN (a := 2) (b := 1) (c := 3) dX5_readJoined_16 rfl rfl rfl ?_
    refine ev_st dX5_readJoined_17 rfl rfl ?_
    refine ev_call dX5_readJoined_18 rfl rfl mr_5_48 rfl rfl rfl (hC I J R s C _ hD hR hS hl) ?_
    rintro _ _ ⟨rfl, I3, rfl, hx3, hR3, hS3⟩
    show Ev lyC (d + 1) hX5_readJoined 21 [some (.ref 31), some (.ref 1), some (.int (nI 2)), some (.int dep), none, none, none] [] (I3, J, R) _
    refine ev_st dX5_readJoined_21 rfl rfl ?_
    refine ev_if_neN (t := 29) (a := 2) dX5_readJoined_22 (by decide) rfl (by omega) (fun c_22 => ?_) (fun c_22 => ?_)
    · refine ev_bipush (v := 40) dX5_readJoined_29 (by decide) ?_
      refine ev_st (L' := [some (.ref 31), some (.ref 1), some (.int (nI 2)), some (.int dep), some (.int 40), none, none]) dX5_readJoined_31 rfl rfl ?_
      refine ev_iconst (v := 0) dX5_readJoined_33 (by decide) ?_
      refine ev_st (L' := [some (.ref 31), some (.ref 1), some (.int (nI 2)), some (.int dep), some (.int 40), some (.int 0), none]) dX5_readJoined_34 rfl rfl ?_
      exact k_prodL_31 hC hp hE hD 40 0 (f s) _ _ _ (by omega) hx3 hR3 hS3 (by have := hp s; rw [List.length_append]; omega) rfl
    · omega
  · omega
set_option maxHeartbeats 1000000 in
theorem k_sumL_31 {I : Nat → Nat → Int32} {J : Nat → Nat → Int64} {R : Nat → Nat → Value} {t : Nat → Nat} {d E N D0 : Nat} {dep : Int32} {C : List Int32} {f : PS → RR} (hC : kRj 2 31 dep D0 t E N f) (hp : pay f) (hE : E ≤ 40) (hD : D0 ≤ d) : ∀ (m b : Nat) (a : RR) (z6 : Option Value) (I2 : Nat → Nat → Int32) (fin : RR), b + m = 40 → eC 31 I I2 → cR I2 t E N a.1 → cS 31 I2 (C ++ a.2.1) → (C ++ a.2.1).length ≤ a.1.2 → gL t E 43 45 f m a = fin → Ev lyC (d + 1) hX5_readJoined 36 [some (.ref 31), some (.ref 1), some (.int (nI 1)), some (.int dep), some (.int 40), some (.int (nI b)), z6] [] (I2, J, R) (kQ 31 I J R t E N fin.1 (C ++ fin.2.1)) := by
  intro m
  induction m with
  | zero =>
    intro b a z6 I2 fin hb hx2 hR2 hS2 hl e9
    rw [gL] at e9
    refine ev_st dX5_readJoined_36 rfl rfl ?_
    refine ev_st dX5_readJoined_38 rfl rfl ?_
    refine ev_ic_geN (t := 89) (a := b) (b := 40) dX5_readJoined_40 (by decide) rfl rfl (by omega) (by omega) (fun c_40 => ?_) (fun c_40 => ?_)
    · exact ev_vret dX5_readJoined_89 rfl (e9 ▸ ⟨rfl, _, rfl, hx2, hR2, hS2⟩)
    · omega
  | succ m ih =>
    intro b a z6 I2 fin hb hx2 hR2 hS2 hl e9
    by_cases hk : pk t E a.1 = nI 43
    · skip
      have hft := (pkS_eq (by decide) hR2.t hk).1
      have haE := (pkS_eq (by decide) hR2.t hk).2.1
      have ht := (pkS_eq (by decide) hR2.t hk).2.2
      refine ev_st dX5_readJoined_36 rfl rfl ?_
      refine ev_st dX5_readJoined_38 rfl rfl ?_
      refine ev_ic_geN (t := 89) (a := b) (b := 40) dX5_readJoined_40 (by decide) rfl rfl (by omega) (by omega) (fun c_40 => ?_) (fun c_40 => ?_)
      · omega
      · refine ev_st dX5_readJoined_43 rfl rfl ?_
        refine ev_call dX5_readJoined_44 rfl rfl mr_5_59 rfl rfl rfl (k_peek hR2) ?_
        rintro _ _ ⟨e1, rfl⟩
        rw [hk] at e1
        subst e1
        show Ev lyC (d + 1) hX5_readJoined 47 [some (.ref 31), some (.ref 1), some (.int (nI 1)), some (.int dep), some (.int 40), some (.int (nI b)), z6] [.int (nI 43)] (I2, J, R) _
        refine ev_call dX5_readJoined_47 rfl rfl mr_5_62 rfl rfl rfl (k_lev (c := 43) (l := 1) (by decide) rfl) ?_
        rintro _ _ ⟨rfl, rfl⟩
        show Ev lyC (d + 1) hX5_readJoined 50 [some (.ref 31), some (.ref 1), some (.int (nI 1)), some (.int dep), some (.int 40), some (.int (nI b)), z6] [.int (nI 1)] (I2, J, R) _
        refine ev_st dX5_readJoined_50 rfl rfl ?_
        refine ev_ic_neN (t := 89) (a := 1) (b := 1) dX5_readJoined_51 (by decide) rfl rfl (by omega) (by omega) (fun c_51 => ?_) (fun c_51 => ?_)
        · omega
        · refine ev_st dX5_readJoined_54 rfl rfl ?_
          refine ev_call dX5_readJoined_55 rfl rfl mr_5_59 rfl rfl rfl (k_peek hR2) ?_
          rintro _ _ ⟨e1, rfl⟩
          rw [hk] at e1
          subst e1
          show Ev lyC (d + 1) hX5_readJoined 58 [some (.ref 31), some (.ref 1), some (.int (nI 1)), some (.int dep), some (.int 40), some (.int (nI b)), z6] [.int (nI 43)] (I2, J, R) _
          refine ev_st (L' := [some (.ref 31), some (.ref 1), some (.int (nI 1)), some (.int dep), some (.int 40), some (.int (nI b)), some (.int (nI 43))]) dX5_readJoined_58 rfl rfl ?_
          refine ev_st dX5_readJoined_60 rfl rfl ?_
          refine ev_call dX5_readJoined_61 rfl rfl mr_5_65 rfl rfl rfl (k_skip (hR2.fine hft) haE) ?_
          rintro _ _ ⟨rfl, rfl⟩
          show Ev lyC (d + 1) hX5_readJoined 64 [some (.ref 31), some (.ref 1), some (.int (nI 1)), some (.int dep), some (.int 40), some (.int (nI b)), some (.int (nI 43))] [] (ti_wr I2 1 2 (nI (a.1.2 + 1)), J, R) _
          refine ev_st dX5_readJoined_64 rfl rfl ?_
          refine ev_st dX5_readJoined_65 rfl rfl ?_
          refine ev_st dX5_readJoined_66 rfl rfl ?_
          refine ev_iconst (v := 1) dX5_readJoined_67 (by decide) ?_
          refine ev_iaddN (a := 1) (b := 1) (c := 2) dX5_readJoined_68 rfl rfl rfl ?_
          refine ev_st dX5_readJoined_69 rfl rfl ?_
          refine ev_call dX5_readJoined_70 rfl rfl mr_5_48 rfl rfl rfl (hC _ J R (true, a.1.2 + 1) _ _ hD (hR2.at hft (by omega)) (xC.add hS2 (by decide)) (by show _ ≤ a.1.2 + 1; omega)) ?_
          rintro _ _ ⟨rfl, I3, rfl, hx3, hR3, hS3⟩
          have hp3 : (f (true, a.1.2 + 1)).2.1.length + (a.1.2 + 1) ≤ (f (true, a.1.2 + 1)).1.2 := hp (true, a.1.2 + 1)
          have hle3 := hR3.le
          have hl3 : (C ++ a.2.1 ++ (f (true, a.1.2 + 1)).2.1).length + 1 ≤ (f (true, a.1.2 + 1)).1.2 := by rw [List.length_append]; omega
          show Ev lyC (d + 1) hX5_readJoined 73 [some (.ref 31), some (.ref 1), some (.int (nI 1)), some (.int dep), some (.int 40), some (.int (nI b)), some (.int (nI 43))] [] (I3, J, R) _
          refine ev_st dX5_readJoined_73 rfl rfl ?_
          refine ev_sipush (v := 2000) dX5_readJoined_74 (by decide) ?_
          refine ev_st dX5_readJoined_77 rfl rfl ?_
          refine ev_iaddN (a := 2000) (b := 43) (c := 2043) dX5_readJoined_79 rfl rfl rfl ?_
          refine ev_call dX5_readJoined_80 rfl rfl mr_5_68 rfl rfl rfl (k_add1_31 hS3.1 (by omega) _) ?_
          rintro _ _ ⟨rfl, rfl⟩
          show Ev lyC (d + 1) hX5_readJoined 83 [some (.ref 31), some (.ref 1), some (.int (nI 1)), some (.int dep), some (.int 40), some (.int (nI b)), some (.int (nI 43))] [] (ti_wr (ti_wr I3 32 ((C ++ a.2.1 ++ (f (true, a.1.2 + 1)).2.1).length) (nI 2043)) 31 3 (nI ((C ++ a.2.1 ++ (f (true, a.1.2 + 1)).2.1).length + 1)), J, R) _
          refine ev_iincN (a := b) (b := b + 1) (L' := [some (.ref 31), some (.ref 1), some (.int (nI 1)), some (.int dep), some (.int 40), some (.int (nI (b + 1))), some (.int (nI 43))]) dX5_readJoined_83 rfl (nI_1 _) rfl ?_
          refine ev_goto (t := 36) dX5_readJoined_86 (by decide) ?_
          refine ih (b + 1) (gJ t f a) _ _ fin (by omega) (((hx2.x xC.rf.w).tr hx3).add) (hR3.add (by decide)) ?_ ?_ ?_
          · rw [gJ_app ht]; exact hS3.add
          · rw [gJ_app ht, List.length_append]; exact hl3
          · rw [gL, if_pos (Or.inl hk)] at e9; exact e9
    · by_cases hk2 : pk t E a.1 = nI 45
      · have hk1 := hk
        clear hk
        have hk := hk2
        have hft := (pkS_eq (by decide) hR2.t hk).1
        have haE := (pkS_eq (by decide) hR2.t hk).2.1
        have ht := (pkS_eq (by decide) hR2.t hk).2.2
        refine ev_st dX5_readJoined_36 rfl rfl ?_
        refine ev_st dX5_readJoined_38 rfl rfl ?_
        refine ev_ic_geN (t := 89) (a := b) (b := 40) dX5_readJoined_40 (by decide) rfl rfl (by omega) (by omega) (fun c_40 => ?_) (fun c_40 => ?_)
        · omega
        · refine ev_st dX5_readJoined_43 rfl rfl ?_
          refine ev_call dX5_readJoined_44 rfl rfl mr_5_59 rfl rfl rfl (k_peek hR2) ?_
          rintro _ _ ⟨e1, rfl⟩
          rw [hk] at e1
          subst e1
          show Ev lyC (d + 1) hX5_readJoined 47 [some (.ref 31), some (.ref 1), some (.int (nI 1)), some (.int dep), some (.int 40), some (.int (nI b)), z6] [.int (nI 45)] (I2, J, R) _
          refine ev_call dX5_readJoined_47 rfl rfl mr_5_62 rfl rfl rfl (k_lev (c := 45) (l := 1) (by decide) rfl) ?_
          rintro _ _ ⟨rfl, rfl⟩
          show Ev lyC (d + 1) hX5_readJoined 50 [some (.ref 31), some (.ref 1), some (.int (nI 1)), some (.int dep), some (.int 40), some (.int (nI b)), z6] [.int (nI 1)] (I2, J, R) _
          refine ev_st dX5_readJoined_50 rfl rfl ?_
          refine ev_ic_neN (t := 89) (a := 1) (b := 1) dX5_readJoined_51 (by decide) rfl rfl (by omega) (by omega) (fun c_51 => ?_) (fun c_51 => ?_)
          · omega
          · refine ev_st dX5_readJoined_54 rfl rfl ?_
            refine ev_call dX5_readJoined_55 rfl rfl mr_5_59 rfl rfl rfl (k_peek hR2) ?_
            rintro _ _ ⟨e1, rfl⟩
            rw [hk] at e1
            subst e1
            show Ev lyC (d + 1) hX5_readJoined 58 [some (.ref 31), some (.ref 1), some (.int (nI 1)), some (.int dep), some (.int 40), some (.int (nI b)), z6] [.int (nI 45)] (I2, J, R) _
            refine ev_st (L' := [some (.ref 31), some (.ref 1), some (.int (nI 1)), some (.int dep), some (.int 40), some (.int (nI b)), some (.int (nI 45))]) dX5_readJoined_58 rfl rfl ?_
            refine ev_st dX5_readJoined_60 rfl rfl ?_
            refine ev_call dX5_readJoined_61 rfl rfl mr_5_65 rfl rfl rfl (k_skip (hR2.fine hft) haE) ?_
            rintro _ _ ⟨rfl, rfl⟩
            show Ev lyC (d + 1) hX5_readJoined 64 [some (.ref 31), some (.ref 1), some (.int (nI 1)), some (.int dep), some (.int 40), some (.int (nI b)), some (.int (nI 45))] [] (ti_wr I2 1 2 (nI (a.1.2 + 1)), J, R) _
            refine ev_st dX5_readJoined_64 rfl rfl ?_
            refine ev_st dX5_readJoined_65 rfl rfl ?_
            refine ev_st dX5_readJoined_66 rfl rfl ?_
            refine ev_iconst (v := 1) dX5_readJoined_67 (by decide) ?_
            refine ev_iaddN (a := 1) (b := 1) (c := 2) dX5_readJoined_68 rfl rfl rfl ?_
            refine ev_st dX5_readJoined_69 rfl rfl ?_
            refine ev_call dX5_readJoined_70 rfl rfl mr_5_48 rfl rfl rfl (hC _ J R (true, a.1.2 + 1) _ _ hD (hR2.at hft (by omega)) (xC.add hS2 (by decide)) (by show _ ≤ a.1.2 + 1; omega)) ?_
            rintro _ _ ⟨rfl, I3, rfl, hx3, hR3, hS3⟩
            have hp3 : (f (true, a.1.2 + 1)).2.1.length + (a.1.2 + 1) ≤ (f (true, a.1.2 + 1)).1.2 := hp (true, a.1.2 + 1)
            have hle3 := hR3.le
            have hl3 : (C ++ a.2.1 ++ (f (true, a.1.2 + 1)).2.1).length + 1 ≤ (f (true, a.1.2 + 1)).1.2 := by rw [List.length_append]; omega
            show Ev lyC (d + 1) hX5_readJoined 73 [some (.ref 31), some (.ref 1), some (.int (nI 1)), some (.int dep), some (.int 40), some (.int (nI b)), some (.int (nI 45))] [] (I3, J, R) _
            refine ev_st dX5_readJoined_73 rfl rfl ?_
            refine ev_sipush (v := 2000) dX5_readJoined_74 (by decide) ?_
            refine ev_st dX5_readJoined_77 rfl rfl ?_
            refine ev_iaddN (a := 2000) (b := 45) (c := 2045) dX5_readJoined_79 rfl rfl rfl ?_
            refine ev_call dX5_readJoined_80 rfl rfl mr_5_68 rfl rfl rfl (k_add1_31 hS3.1 (by omega) _) ?_
            rintro _ _ ⟨rfl, rfl⟩
            show Ev lyC (d + 1) hX5_readJoined 83 [some (.ref 31), some (.ref 1), some (.int (nI 1)), some (.int dep), some (.int 40), some (.int (nI b)), some (.int (nI 45))] [] (ti_wr (ti_wr I3 32 ((C ++ a.2.1 ++ (f (true, a.1.2 + 1)).2.1).length) (nI 2045)) 31 3 (nI ((C ++ a.2.1 ++ (f (true, a.1.2 + 1)).2.1).length + 1)), J, R) _
            refine ev_iincN (a := b) (b := b + 1) (L' := [some (.ref 31), some (.ref 1), some (.int (nI 1)), some (.int dep), some (.int 40), some (.int (nI (b + 1))), some (.int (nI 45))]) dX5_readJoined_83 rfl (nI_1 _) rfl ?_
            refine ev_goto (t := 36) dX5_readJoined_86 (by decide) ?_
            refine ih (b + 1) (gJ t f a) _ _ fin (by omega) (((hx2.x xC.rf.w).tr hx3).add) (hR3.add (by decide)) ?_ ?_ ?_
            · rw [gJ_app ht]; exact hS3.add
            · rw [gJ_app ht, List.length_append]; exact hl3
            · rw [gL, if_pos (Or.inr hk)] at e9; exact e9
      · skip
        rw [gL, if_neg (fun q => q.elim hk hk2)] at e9
        have hle7 := @lvS_le t E a.1
        have hne : ¬ lvS t E a.1 = 1 := fun q => (lvS_1 q).elim hk hk2
        refine ev_st dX5_readJoined_36 rfl rfl ?_
        refine ev_st dX5_readJoined_38 rfl rfl ?_
        refine ev_ic_geN (t := 89) (a := b) (b := 40) dX5_readJoined_40 (by decide) rfl rfl (by omega) (by omega) (fun c_40 => ?_) (fun c_40 => ?_)
        · omega
        · refine ev_st dX5_readJoined_43 rfl rfl ?_
          refine ev_call dX5_readJoined_44 rfl rfl mr_5_59 rfl rfl rfl (k_peek hR2) ?_
          rintro _ _ ⟨e1, rfl⟩
          subst e1
          show Ev lyC (d + 1) hX5_readJoined 47 [some (.ref 31), some (.ref 1), some (.int (nI 1)), some (.int dep), some (.int 40), some (.int (nI b)), z6] [.int (pk t E a.1)] (I2, J, R) _
          refine ev_call dX5_readJoined_47 rfl rfl mr_5_62 rfl rfl rfl (k_levS hR2.t) ?_
          rintro _ _ ⟨rfl, rfl⟩
          show Ev lyC (d + 1) hX5_readJoined 50 [some (.ref 31), some (.ref 1), some (.int (nI 1)), some (.int dep), some (.int 40), some (.int (nI b)), z6] [.int (nI (lvS t E a.1))] (I2, J, R) _
          refine ev_st dX5_readJoined_50 rfl rfl ?_
          refine ev_ic_neN (t := 89) (a := lvS t E a.1) (b := 1) dX5_readJoined_51 (by decide) rfl rfl (by omega) (by omega) (fun c_51 => ?_) (fun c_51 => ?_)
          · exact ev_vret dX5_readJoined_89 rfl (e9 ▸ ⟨rfl, _, rfl, hx2, hR2, hS2⟩)
          · exact absurd c_51 hne
set_option maxHeartbeats 1000000 in
theorem k_sum_31 {t : Nat → Nat} {E N D0 : Nat} {dep : Int32} {f : PS → RR} (hC : kRj 2 31 dep D0 t E N f) (hp : pay f) (hE : E ≤ 40) : kRj 1 31 dep (D0 + 1) t E N (gU t E f) := by
  intro I J R s C D hD0 hR hS hl
  obtain ⟨d, rfl⟩ : ∃ d, D = d + 1 := ⟨D - 1, by omega⟩
  have hD : D0 ≤ d := by omega
  show Ev lyC (d + 1) hX5_readJoined 0 [some (.ref 31), some (.ref 1), some (.int (nI 1)), some (.int dep), none, none, none] [] (I, J, R) _
  refine ev_st dX5_readJoined_0 rfl rfl ?_
  refine ev_iconst (v := 3) dX5_readJoined_1 (by decide) ?_
  refine ev_ic_ltN (t := 12) (a := 1) (b := 3) dX5_readJoined_2 (by decide) rfl rfl (by omega) (by omega) (fun c_2 => ?_) (fun c_2 => ?_)
  · refine ev_st dX5_readJoined_12 rfl rfl ?_
    refine ev_st dX5_readJoined_13 rfl rfl ?_
    refine ev_st dX5_readJoined_14 rfl rfl ?_
    refine ev_iconst (v := 1) dX5_readJoined_15 (by decide) ?_
    refine ev_iaddN (a := 1) (b := 1) (c := 2) dX5_readJoined_16 rfl rfl rfl ?_
    refine ev_st dX5_readJoined_17 rfl rfl ?_
    refine ev_call dX5_readJoined_18 rfl rfl mr_5_48 rfl rfl rfl (hC I J R s C _ hD hR hS hl) ?_
    rintro _ _ ⟨rfl, I3, rfl, hx3, hR3, hS3⟩
    show Ev lyC (d + 1) hX5_readJoined 21 [some (.ref 31), some (.ref 1), some (.int (nI 1)), some (.int dep), none, none, none] [] (I3, J, R) _
    refine ev_st dX5_readJoined_21 rfl rfl ?_
    refine ev_if_neN (t := 29) (a := 1) dX5_readJoined_22 (by decide) rfl (by omega) (fun c_22 => ?_) (fun c_22 => ?_)
    · refine ev_bipush (v := 40) dX5_readJoined_29 (by decide) ?_
      refine ev_st (L' := [some (.ref 31), some (.ref 1), some (.int (nI 1)), some (.int dep), some (.int 40), none, none]) dX5_readJoined_31 rfl rfl ?_
      refine ev_iconst (v := 0) dX5_readJoined_33 (by decide) ?_
      refine ev_st (L' := [some (.ref 31), some (.ref 1), some (.int (nI 1)), some (.int dep), some (.int 40), some (.int 0), none]) dX5_readJoined_34 rfl rfl ?_
      exact k_sumL_31 hC hp hE hD 40 0 (f s) _ _ _ (by omega) hx3 hR3 hS3 (by have := hp s; rw [List.length_append]; omega) rfl
    · omega
  · omega
set_option maxHeartbeats 1000000 in
theorem k_expr_31 {t : Nat → Nat} {E N D0 : Nat} {dep : Int32} {f : PS → RR} (hC : kRj 1 31 dep D0 t E N f) (hp : pay f) (hE : E ≤ 40) : kRj 0 31 dep (D0 + 1) t E N (gE t E f) := by
  intro I J R s C D hD0 hR hS hl
  obtain ⟨d, rfl⟩ : ∃ d, D = d + 1 := ⟨D - 1, by omega⟩
  have hD : D0 ≤ d := by omega
  show Ev lyC (d + 1) hX5_readJoined 0 [some (.ref 31), some (.ref 1), some (.int (nI 0)), some (.int dep), none, none, none] [] (I, J, R) _
  refine ev_st dX5_readJoined_0 rfl rfl ?_
  refine ev_iconst (v := 3) dX5_readJoined_1 (by decide) ?_
  refine ev_ic_ltN (t := 12) (a := 0) (b := 3) dX5_readJoined_2 (by decide) rfl rfl (by omega) (by omega) (fun c_2 => ?_) (fun c_2 => ?_)
  · refine ev_st dX5_readJoined_12 rfl rfl ?_
    refine ev_st dX5_readJoined_13 rfl rfl ?_
    refine ev_st dX5_readJoined_14 rfl rfl ?_
    refine ev_iconst (v := 1) dX5_readJoined_15 (by decide) ?_
    refine ev_iaddN (a := 0) (b := 1) (c := 1) dX5_readJoined_16 rfl rfl rfl ?_
    refine ev_st dX5_readJoined_17 rfl rfl ?_
    refine ev_call dX5_readJoined_18 rfl rfl mr_5_48 rfl rfl rfl (hC I J R s C _ hD hR hS hl) ?_
    rintro _ _ ⟨rfl, I2, rfl, hx2, hR2, hS2⟩
    have hl2 : (C ++ (f s).2.1).length ≤ (f s).1.2 := by have := hp s; rw [List.length_append]; omega
    show Ev lyC (d + 1) hX5_readJoined 21 [some (.ref 31), some (.ref 1), some (.int (nI 0)), some (.int dep), none, none, none] [] (I2, J, R) _
    refine ev_st dX5_readJoined_21 rfl rfl ?_
    refine ev_if_neN (t := 29) (a := 0) dX5_readJoined_22 (by decide) rfl (by omega) (fun c_22 => ?_) (fun c_22 => ?_)
    · omega
    · refine ev_iconst (v := 1) dX5_readJoined_25 (by decide) ?_
      refine ev_goto (t := 31) dX5_readJoined_26 (by decide) ?_
      refine ev_st (L' := [some (.ref 31), some (.ref 1), some (.int (nI 0)), some (.int dep), some (.int 1), none, none]) dX5_readJoined_31 rfl rfl ?_
      refine ev_iconst (v := 0) dX5_readJoined_33 (by decide) ?_
      refine ev_st (L' := [some (.ref 31), some (.ref 1), some (.int (nI 0)), some (.int dep), some (.int 1), some (.int 0), none]) dX5_readJoined_34 rfl rfl ?_
      by_cases hk : pk t E (f s).1 = nI 60
      · skip
        have hft := (pkS_eq (by decide) hR2.t hk).1
        have haE := (pkS_eq (by decide) hR2.t hk).2.1
        have ht := (pkS_eq (by decide) hR2.t hk).2.2
        have hg : gE t E f s = gJ t f (f s) := by unfold gE; exact if_pos (Or.inl hk)
        refine ev_st dX5_readJoined_36 rfl rfl ?_
        refine ev_st dX5_readJoined_38 rfl rfl ?_
        refine ev_ic_geN (t := 89) (a := 0) (b := 1) dX5_readJoined_40 (by decide) rfl rfl (by omega) (by omega) (fun c_40 => ?_) (fun c_40 => ?_)
        · omega
        · refine ev_st dX5_readJoined_43 rfl rfl ?_
          refine ev_call dX5_readJoined_44 rfl rfl mr_5_59 rfl rfl rfl (k_peek hR2) ?_
          rintro _ _ ⟨e1, rfl⟩
          rw [hk] at e1
          subst e1
          show Ev lyC (d + 1) hX5_readJoined 47 [some (.ref 31), some (.ref 1), some (.int (nI 0)), some (.int dep), some (.int 1), some (.int 0), none] [.int (nI 60)] (I2, J, R) _
          refine ev_call dX5_readJoined_47 rfl rfl mr_5_62 rfl rfl rfl (k_lev (c := 60) (l := 0) (by decide) rfl) ?_
          rintro _ _ ⟨rfl, rfl⟩
          show Ev lyC (d + 1) hX5_readJoined 50 [some (.ref 31), some (.ref 1), some (.int (nI 0)), some (.int dep), some (.int 1), some (.int 0), none] [.int (nI 0)] (I2, J, R) _
          refine ev_st dX5_readJoined_50 rfl rfl ?_
          refine ev_ic_neN (t := 89) (a := 0) (b := 0) dX5_readJoined_51 (by decide) rfl rfl (by omega) (by omega) (fun c_51 => ?_) (fun c_51 => ?_)
          · omega
          · refine ev_st dX5_readJoined_54 rfl rfl ?_
            refine ev_call dX5_readJoined_55 rfl rfl mr_5_59 rfl rfl rfl (k_peek hR2) ?_
            rintro _ _ ⟨e1, rfl⟩
            rw [hk] at e1
            subst e1
            show Ev lyC (d + 1) hX5_readJoined 58 [some (.ref 31), some (.ref 1), some (.int (nI 0)), some (.int dep), some (.int 1), some (.int 0), none] [.int (nI 60)] (I2, J, R) _
            refine ev_st (L' := [some (.ref 31), some (.ref 1), some (.int (nI 0)), some (.int dep), some (.int 1), some (.int 0), some (.int (nI 60))]) dX5_readJoined_58 rfl rfl ?_
            refine ev_st dX5_readJoined_60 rfl rfl ?_
            refine ev_call dX5_readJoined_61 rfl rfl mr_5_65 rfl rfl rfl (k_skip (hR2.fine hft) haE) ?_
            rintro _ _ ⟨rfl, rfl⟩
            show Ev lyC (d + 1) hX5_readJoined 64 [some (.ref 31), some (.ref 1), some (.int (nI 0)), some (.int dep), some (.int 1), some (.int 0), some (.int (nI 60))] [] (ti_wr I2 1 2 (nI ((f s).1.2 + 1)), J, R) _
            refine ev_st dX5_readJoined_64 rfl rfl ?_
            refine ev_st dX5_readJoined_65 rfl rfl ?_
            refine ev_st dX5_readJoined_66 rfl rfl ?_
            refine ev_iconst (v := 1) dX5_readJoined_67 (by decide) ?_
            refine ev_iaddN (a := 0) (b := 1) (c := 1) dX5_readJoined_68 rfl rfl rfl ?_
            refine ev_st dX5_readJoined_69 rfl rfl ?_
            refine ev_call dX5_readJoined_70 rfl rfl mr_5_48 rfl rfl rfl (hC _ J R (true, (f s).1.2 + 1) _ _ hD (hR2.at hft (by omega)) (xC.add hS2 (by decide)) (by show _ ≤ (f s).1.2 + 1; omega)) ?_
            rintro _ _ ⟨rfl, I3, rfl, hx3, hR3, hS3⟩
            have hp3 : (f (true, (f s).1.2 + 1)).2.1.length + ((f s).1.2 + 1) ≤ (f (true, (f s).1.2 + 1)).1.2 := hp (true, (f s).1.2 + 1)
            have hle3 := hR3.le
            have hl3 : (C ++ (f s).2.1 ++ (f (true, (f s).1.2 + 1)).2.1).length + 1 ≤ (f (true, (f s).1.2 + 1)).1.2 := by rw [List.length_append]; omega
            show Ev lyC (d + 1) hX5_readJoined 73 [some (.ref 31), some (.ref 1), some (.int (nI 0)), some (.int dep), some (.int 1), some (.int 0), some (.int (nI 60))] [] (I3, J, R) _
            refine ev_st dX5_readJoined_73 rfl rfl ?_
            refine ev_sipush (v := 2000) dX5_readJoined_74 (by decide) ?_
            refine ev_st dX5_readJoined_77 rfl rfl ?_
            refine ev_iaddN (a := 2000) (b := 60) (c := 2060) dX5_readJoined_79 rfl rfl rfl ?_
            refine ev_call dX5_readJoined_80 rfl rfl mr_5_68 rfl rfl rfl (k_add1_31 hS3.1 (by omega) _) ?_
            rintro _ _ ⟨rfl, rfl⟩
            show Ev lyC (d + 1) hX5_readJoined 83 [some (.ref 31), some (.ref 1), some (.int (nI 0)), some (.int dep), some (.int 1), some (.int 0), some (.int (nI 60))] [] (ti_wr (ti_wr I3 32 ((C ++ (f s).2.1 ++ (f (true, (f s).1.2 + 1)).2.1).length) (nI 2060)) 31 3 (nI ((C ++ (f s).2.1 ++ (f (true, (f s).1.2 + 1)).2.1).length + 1)), J, R) _
            refine ev_iinc (x := 0) (v := 1) (L' := [some (.ref 31), some (.ref 1), some (.int (nI 0)), some (.int dep), some (.int 1), some (.int 1), some (.int (nI 60))]) dX5_readJoined_83 rfl (by decide) rfl ?_
            refine ev_goto (t := 36) dX5_readJoined_86 (by decide) ?_
            refine ev_st dX5_readJoined_36 rfl rfl ?_
            refine ev_st dX5_readJoined_38 rfl rfl ?_
            refine ev_ic_geN (t := 89) (a := 1) (b := 1) dX5_readJoined_40 (by decide) rfl rfl (by omega) (by omega) (fun c_40' => ?_) (fun c_40' => ?_)
            · exact ev_vret dX5_readJoined_89 rfl (⟨rfl, _, rfl, ((hx2.x xC.rf.w).tr hx3).add, by rw [hg]; exact hR3.add (by decide), by rw [hg, gJ_app ht]; exact hS3.add⟩)
            · omega
      · have hn60 := hk
        clear hk
        by_cases hk : pk t E (f s).1 = nI 62
        · skip
          have hft := (pkS_eq (by decide) hR2.t hk).1
          have haE := (pkS_eq (by decide) hR2.t hk).2.1
          have ht := (pkS_eq (by decide) hR2.t hk).2.2
          have hg : gE t E f s = gJ t f (f s) := by unfold gE; exact if_pos (Or.inr (Or.inl hk))
          refine ev_st dX5_readJoined_36 rfl rfl ?_
          refine ev_st dX5_readJoined_38 rfl rfl ?_
          refine ev_ic_geN (t := 89) (a := 0) (b := 1) dX5_readJoined_40 (by decide) rfl rfl (by omega) (by omega) (fun c_40 => ?_) (fun c_40 => ?_)
          · omega
          · refine ev_st dX5_readJoined_43 rfl rfl ?_
            refine ev_call dX5_readJoined_44 rfl rfl mr_5_59 rfl rfl rfl (k_peek hR2) ?_
            rintro _ _ ⟨e1, rfl⟩
            rw [hk] at e1
            subst e1
            show Ev lyC (d + 1) hX5_readJoined 47 [some (.ref 31), some (.ref 1), some (.int (nI 0)), some (.int dep), some (.int 1), some (.int 0), none] [.int (nI 62)] (I2, J, R) _
            refine ev_call dX5_readJoined_47 rfl rfl mr_5_62 rfl rfl rfl (k_lev (c := 62) (l := 0) (by decide) rfl) ?_
            rintro _ _ ⟨rfl, rfl⟩
            show Ev lyC (d + 1) hX5_readJoined 50 [some (.ref 31), some (.ref 1), some (.int (nI 0)), some (.int dep), some (.int 1), some (.int 0), none] [.int (nI 0)] (I2, J, R) _
            refine ev_st dX5_readJoined_50 rfl rfl ?_
            refine ev_ic_neN (t := 89) (a := 0) (b := 0) dX5_readJoined_51 (by decide) rfl rfl (by omega) (by omega) (fun c_51 => ?_) (fun c_51 => ?_)
            · omega
            · refine ev_st dX5_readJoined_54 rfl rfl ?_
              refine ev_call dX5_readJoined_55 rfl rfl mr_5_59 rfl rfl rfl (k_peek hR2) ?_
              rintro _ _ ⟨e1, rfl⟩
              rw [hk] at e1
              subst e1
              show Ev lyC (d + 1) hX5_readJoined 58 [some (.ref 31), some (.ref 1), some (.int (nI 0)), some (.int dep), some (.int 1), some (.int 0), none] [.int (nI 62)] (I2, J, R) _
              refine ev_st (L' := [some (.ref 31), some (.ref 1), some (.int (nI 0)), some (.int dep), some (.int 1), some (.int 0), some (.int (nI 62))]) dX5_readJoined_58 rfl rfl ?_
              refine ev_st dX5_readJoined_60 rfl rfl ?_
              refine ev_call dX5_readJoined_61 rfl rfl mr_5_65 rfl rfl rfl (k_skip (hR2.fine hft) haE) ?_
              rintro _ _ ⟨rfl, rfl⟩
              show Ev lyC (d + 1) hX5_readJoined 64 [some (.ref 31), some (.ref 1), some (.int (nI 0)), some (.int dep), some (.int 1), some (.int 0), some (.int (nI 62))] [] (ti_wr I2 1 2 (nI ((f s).1.2 + 1)), J, R) _
              refine ev_st dX5_readJoined_64 rfl rfl ?_
              refine ev_st dX5_readJoined_65 rfl rfl ?_
              refine ev_st dX5_readJoined_66 rfl rfl ?_
              refine ev_iconst (v := 1) dX5_readJoined_67 (by decide) ?_
              refine ev_iaddN (a := 0) (b := 1) (c := 1) dX5_readJoined_68 rfl rfl rfl ?_
              refine ev_st dX5_readJoined_69 rfl rfl ?_
              refine ev_call dX5_readJoined_70 rfl rfl mr_5_48 rfl rfl rfl (hC _ J R (true, (f s).1.2 + 1) _ _ hD (hR2.at hft (by omega)) (xC.add hS2 (by decide)) (by show _ ≤ (f s).1.2 + 1; omega)) ?_
              rintro _ _ ⟨rfl, I3, rfl, hx3, hR3, hS3⟩
              have hp3 : (f (true, (f s).1.2 + 1)).2.1.length + ((f s).1.2 + 1) ≤ (f (true, (f s).1.2 + 1)).1.2 := hp (true, (f s).1.2 + 1)
              have hle3 := hR3.le
              have hl3 : (C ++ (f s).2.1 ++ (f (true, (f s).1.2 + 1)).2.1).length + 1 ≤ (f (true, (f s).1.2 + 1)).1.2 := by rw [List.length_append]; omega
              show Ev lyC (d + 1) hX5_readJoined 73 [some (.ref 31), some (.ref 1), some (.int (nI 0)), some (.int dep), some (.int 1), some (.int 0), some (.int (nI 62))] [] (I3, J, R) _
              refine ev_st dX5_readJoined_73 rfl rfl ?_
              refine ev_sipush (v := 2000) dX5_readJoined_74 (by decide) ?_
              refine ev_st dX5_readJoined_77 rfl rfl ?_
              refine ev_iaddN (a := 2000) (b := 62) (c := 2062) dX5_readJoined_79 rfl rfl rfl ?_
              refine ev_call dX5_readJoined_80 rfl rfl mr_5_68 rfl rfl rfl (k_add1_31 hS3.1 (by omega) _) ?_
              rintro _ _ ⟨rfl, rfl⟩
              show Ev lyC (d + 1) hX5_readJoined 83 [some (.ref 31), some (.ref 1), some (.int (nI 0)), some (.int dep), some (.int 1), some (.int 0), some (.int (nI 62))] [] (ti_wr (ti_wr I3 32 ((C ++ (f s).2.1 ++ (f (true, (f s).1.2 + 1)).2.1).length) (nI 2062)) 31 3 (nI ((C ++ (f s).2.1 ++ (f (true, (f s).1.2 + 1)).2.1).length + 1)), J, R) _
              refine ev_iinc (x := 0) (v := 1) (L' := [some (.ref 31), some (.ref 1), some (.int (nI 0)), some (.int dep), some (.int 1), some (.int 1), some (.int (nI 62))]) dX5_readJoined_83 rfl (by decide) rfl ?_
              refine ev_goto (t := 36) dX5_readJoined_86 (by decide) ?_
              refine ev_st dX5_readJoined_36 rfl rfl ?_
              refine ev_st dX5_readJoined_38 rfl rfl ?_
              refine ev_ic_geN (t := 89) (a := 1) (b := 1) dX5_readJoined_40 (by decide) rfl rfl (by omega) (by omega) (fun c_40' => ?_) (fun c_40' => ?_)
              · exact ev_vret dX5_readJoined_89 rfl (⟨rfl, _, rfl, ((hx2.x xC.rf.w).tr hx3).add, by rw [hg]; exact hR3.add (by decide), by rw [hg, gJ_app ht]; exact hS3.add⟩)
              · omega
        · have hn62 := hk
          clear hk
          by_cases hk : pk t E (f s).1 = nI 61
          · skip
            have hft := (pkS_eq (by decide) hR2.t hk).1
            have haE := (pkS_eq (by decide) hR2.t hk).2.1
            have ht := (pkS_eq (by decide) hR2.t hk).2.2
            have hg : gE t E f s = gJ t f (f s) := by unfold gE; exact if_pos (Or.inr (Or.inr hk))
            refine ev_st dX5_readJoined_36 rfl rfl ?_
            refine ev_st dX5_readJoined_38 rfl rfl ?_
            refine ev_ic_geN (t := 89) (a := 0) (b := 1) dX5_readJoined_40 (by decide) rfl rfl (by omega) (by omega) (fun c_40 => ?_) (fun c_40 => ?_)
            · omega
            · refine ev_st dX5_readJoined_43 rfl rfl ?_
              refine ev_call dX5_readJoined_44 rfl rfl mr_5_59 rfl rfl rfl (k_peek hR2) ?_
              rintro _ _ ⟨e1, rfl⟩
              rw [hk] at e1
              subst e1
              show Ev lyC (d + 1) hX5_readJoined 47 [some (.ref 31), some (.ref 1), some (.int (nI 0)), some (.int dep), some (.int 1), some (.int 0), none] [.int (nI 61)] (I2, J, R) _
              refine ev_call dX5_readJoined_47 rfl rfl mr_5_62 rfl rfl rfl (k_lev (c := 61) (l := 0) (by decide) rfl) ?_
              rintro _ _ ⟨rfl, rfl⟩
              show Ev lyC (d + 1) hX5_readJoined 50 [some (.ref 31), some (.ref 1), some (.int (nI 0)), some (.int dep), some (.int 1), some (.int 0), none] [.int (nI 0)] (I2, J, R) _
              refine ev_st dX5_readJoined_50 rfl rfl ?_
              refine ev_ic_neN (t := 89) (a := 0) (b := 0) dX5_readJoined_51 (by decide) rfl rfl (by omega) (by omega) (fun c_51 => ?_) (fun c_51 => ?_)
              · omega
              · refine ev_st dX5_readJoined_54 rfl rfl ?_
                refine ev_call dX5_readJoined_55 rfl rfl mr_5_59 rfl rfl rfl (k_peek hR2) ?_
                rintro _ _ ⟨e1, rfl⟩
                rw [hk] at e1
                subst e1
                show Ev lyC (d + 1) hX5_readJoined 58 [some (.ref 31), some (.ref 1), some (.int (nI 0)), some (.int dep), some (.int 1), some (.int 0), none] [.int (nI 61)] (I2, J, R) _
                refine ev_st (L' := [some (.ref 31), some (.ref 1), some (.int (nI 0)), some (.int dep), some (.int 1), some (.int 0), some (.int (nI 61))]) dX5_readJoined_58 rfl rfl ?_
                refine ev_st dX5_readJoined_60 rfl rfl ?_
                refine ev_call dX5_readJoined_61 rfl rfl mr_5_65 rfl rfl rfl (k_skip (hR2.fine hft) haE) ?_
                rintro _ _ ⟨rfl, rfl⟩
                show Ev lyC (d + 1) hX5_readJoined 64 [some (.ref 31), some (.ref 1), some (.int (nI 0)), some (.int dep), some (.int 1), some (.int 0), some (.int (nI 61))] [] (ti_wr I2 1 2 (nI ((f s).1.2 + 1)), J, R) _
                refine ev_st dX5_readJoined_64 rfl rfl ?_
                refine ev_st dX5_readJoined_65 rfl rfl ?_
                refine ev_st dX5_readJoined_66 rfl rfl ?_
                refine ev_iconst (v := 1) dX5_readJoined_67 (by decide) ?_
                refine ev_iaddN (a := 0) (b := 1) (c := 1) dX5_readJoined_68 rfl rfl rfl ?_
                refine ev_st dX5_readJoined_69 rfl rfl ?_
                refine ev_call dX5_readJoined_70 rfl rfl mr_5_48 rfl rfl rfl (hC _ J R (true, (f s).1.2 + 1) _ _ hD (hR2.at hft (by omega)) (xC.add hS2 (by decide)) (by show _ ≤ (f s).1.2 + 1; omega)) ?_
                rintro _ _ ⟨rfl, I3, rfl, hx3, hR3, hS3⟩
                have hp3 : (f (true, (f s).1.2 + 1)).2.1.length + ((f s).1.2 + 1) ≤ (f (true, (f s).1.2 + 1)).1.2 := hp (true, (f s).1.2 + 1)
                have hle3 := hR3.le
                have hl3 : (C ++ (f s).2.1 ++ (f (true, (f s).1.2 + 1)).2.1).length + 1 ≤ (f (true, (f s).1.2 + 1)).1.2 := by rw [List.length_append]; omega
                show Ev lyC (d + 1) hX5_readJoined 73 [some (.ref 31), some (.ref 1), some (.int (nI 0)), some (.int dep), some (.int 1), some (.int 0), some (.int (nI 61))] [] (I3, J, R) _
                refine ev_st dX5_readJoined_73 rfl rfl ?_
                refine ev_sipush (v := 2000) dX5_readJoined_74 (by decide) ?_
                refine ev_st dX5_readJoined_77 rfl rfl ?_
                refine ev_iaddN (a := 2000) (b := 61) (c := 2061) dX5_readJoined_79 rfl rfl rfl ?_
                refine ev_call dX5_readJoined_80 rfl rfl mr_5_68 rfl rfl rfl (k_add1_31 hS3.1 (by omega) _) ?_
                rintro _ _ ⟨rfl, rfl⟩
                show Ev lyC (d + 1) hX5_readJoined 83 [some (.ref 31), some (.ref 1), some (.int (nI 0)), some (.int dep), some (.int 1), some (.int 0), some (.int (nI 61))] [] (ti_wr (ti_wr I3 32 ((C ++ (f s).2.1 ++ (f (true, (f s).1.2 + 1)).2.1).length) (nI 2061)) 31 3 (nI ((C ++ (f s).2.1 ++ (f (true, (f s).1.2 + 1)).2.1).length + 1)), J, R) _
                refine ev_iinc (x := 0) (v := 1) (L' := [some (.ref 31), some (.ref 1), some (.int (nI 0)), some (.int dep), some (.int 1), some (.int 1), some (.int (nI 61))]) dX5_readJoined_83 rfl (by decide) rfl ?_
                refine ev_goto (t := 36) dX5_readJoined_86 (by decide) ?_
                refine ev_st dX5_readJoined_36 rfl rfl ?_
                refine ev_st dX5_readJoined_38 rfl rfl ?_
                refine ev_ic_geN (t := 89) (a := 1) (b := 1) dX5_readJoined_40 (by decide) rfl rfl (by omega) (by omega) (fun c_40' => ?_) (fun c_40' => ?_)
                · exact ev_vret dX5_readJoined_89 rfl (⟨rfl, _, rfl, ((hx2.x xC.rf.w).tr hx3).add, by rw [hg]; exact hR3.add (by decide), by rw [hg, gJ_app ht]; exact hS3.add⟩)
                · omega
          · have hn61 := hk
            clear hk
            have hg : gE t E f s = f s := by unfold gE; exact if_neg (fun q => q.elim hn60 (fun q => q.elim hn62 hn61))
            have hle7 := @lvS_le t E (f s).1
            have hne : ¬ lvS t E (f s).1 = 0 := fun q => (lvS_0 q).elim hn60 (fun q => q.elim hn62 hn61)
            refine ev_st dX5_readJoined_36 rfl rfl ?_
            refine ev_st dX5_readJoined_38 rfl rfl ?_
            refine ev_ic_geN (t := 89) (a := 0) (b := 1) dX5_readJoined_40 (by decide) rfl rfl (by omega) (by omega) (fun c_40 => ?_) (fun c_40 => ?_)
            · omega
            · refine ev_st dX5_readJoined_43 rfl rfl ?_
              refine ev_call dX5_readJoined_44 rfl rfl mr_5_59 rfl rfl rfl (k_peek hR2) ?_
              rintro _ _ ⟨e1, rfl⟩
              subst e1
              show Ev lyC (d + 1) hX5_readJoined 47 [some (.ref 31), some (.ref 1), some (.int (nI 0)), some (.int dep), some (.int 1), some (.int 0), none] [.int (pk t E (f s).1)] (I2, J, R) _
              refine ev_call dX5_readJoined_47 rfl rfl mr_5_62 rfl rfl rfl (k_levS hR2.t) ?_
              rintro _ _ ⟨rfl, rfl⟩
              show Ev lyC (d + 1) hX5_readJoined 50 [some (.ref 31), some (.ref 1), some (.int (nI 0)), some (.int dep), some (.int 1), some (.int 0), none] [.int (nI (lvS t E (f s).1))] (I2, J, R) _
              refine ev_st dX5_readJoined_50 rfl rfl ?_
              refine ev_ic_neN (t := 89) (a := lvS t E (f s).1) (b := 0) dX5_readJoined_51 (by decide) rfl rfl (by omega) (by omega) (fun c_51 => ?_) (fun c_51 => ?_)
              · exact ev_vret dX5_readJoined_89 rfl (⟨rfl, _, rfl, hx2, by rw [hg]; exact hR2, by rw [hg]; exact hS2⟩)
              · exact absurd c_51 hne
  · omega
theorem k_rE_31 {t : Nat → Nat} {E N : Nat} (hE : E ≤ 40) : ∀ r, r ≤ 4 → kRj 0 31 (nI (4 - r)) (13 * r + 13) t E N (rE t E r)
  | 0, _ => k_expr_31 (k_sum_31 (k_prod_31 (k_lev3_31 (k_thing0_31 hE)) (pay_gT (fun g e => by cases e)) hE) (pay_gP (pay_gT (fun g e => by cases e))) hE) (pay_gU (pay_gP (pay_gT (fun g e => by cases e)))) hE
  | r + 1, hr => by
    have h := k_rE_31 (t := t) (N := N) hE r (by omega)
    rw [show 4 - r = 4 - (r + 1) + 1 by omega] at h
    have hq : ∀ g, some (rE t E r) = some g → pay g := fun g e => by cases e; exact pay_rE r
    exact k_expr_31 (k_sum_31 (k_prod_31 (k_lev3_31 (k_thing1_31 hE (by omega) (pay_rE r) h)) (pay_gT hq) hE) (pay_gP (pay_gT hq)) hE) (pay_gU (pay_gP (pay_gT hq))) hE
set_option maxHeartbeats 1000000 in
theorem k_lev3_35 {t : Nat → Nat} {E N D0 : Nat} {dep : Int32} {f : PS → RR} (hC : kRd hX5_readThing 5 35 dep D0 t E N f) : kRj 3 35 dep (D0 + 1) t E N f := by
  intro I J R s C D hD0 hR hS hl
  obtain ⟨d, rfl⟩ : ∃ d, D = d + 1 := ⟨D - 1, by omega⟩
  have hD : D0 ≤ d := by omega
  show Ev lyC (d + 1) hX5_readJoined 0 [some (.ref 35), some (.ref 1), some (.int (nI 3)), some (.int dep), none, none, none] [] (I, J, R) _
  refine ev_st dX5_readJoined_0 rfl rfl ?_
  refine ev_iconst (v := 3) dX5_readJoined_1 (by decide) ?_
  refine ev_ic_ltN (t := 12) (a := 3) (b := 3) dX5_readJoined_2 (by decide) rfl rfl (by omega) (by omega) (fun c_2 => ?_) (fun c_2 => ?_)
  · omega
  · refine ev_st dX5_readJoined_5 rfl rfl ?_
    refine ev_st dX5_readJoined_6 rfl rfl ?_
    refine ev_st dX5_readJoined_7 rfl rfl ?_
    refine ev_call dX5_readJoined_8 rfl rfl mr_5_55 rfl rfl rfl (hC I J R s C _ hD hR hS hl) ?_
    rintro _ _ ⟨rfl, I3, rfl, hx3, hR3, hS3⟩
    show Ev lyC (d + 1) hX5_readJoined 11 [some (.ref 35), some (.ref 1), some (.int (nI 3)), some (.int dep), none, none, none] [] (I3, J, R) _
    exact ev_vret dX5_readJoined_11 rfl (⟨rfl, _, rfl, hx3, hR3, hS3⟩)
set_option maxHeartbeats 1000000 in
theorem k_prodL_35 {I : Nat → Nat → Int32} {J : Nat → Nat → Int64} {R : Nat → Nat → Value} {t : Nat → Nat} {d E N D0 : Nat} {dep : Int32} {C : List Int32} {f : PS → RR} (hC : kRj 3 35 dep D0 t E N f) (hp : pay f) (hE : E ≤ 40) (hD : D0 ≤ d) : ∀ (m b : Nat) (a : RR) (z6 : Option Value) (I2 : Nat → Nat → Int32) (fin : RR), b + m = 40 → eC 35 I I2 → cR I2 t E N a.1 → cS 35 I2 (C ++ a.2.1) → (C ++ a.2.1).length ≤ a.1.2 → gL t E 42 47 f m a = fin → Ev lyC (d + 1) hX5_readJoined 36 [some (.ref 35), some (.ref 1), some (.int (nI 2)), some (.int dep), some (.int 40), some (.int (nI b)), z6] [] (I2, J, R) (kQ 35 I J R t E N fin.1 (C ++ fin.2.1)) := by
  intro m
  induction m with
  | zero =>
    intro b a z6 I2 fin hb hx2 hR2 hS2 hl e9
    rw [gL] at e9
    refine ev_st dX5_readJoined_36 rfl rfl ?_
    refine ev_st dX5_readJoined_38 rfl rfl ?_
    refine ev_ic_geN (t := 89) (a := b) (b := 40) dX5_readJoined_40 (by decide) rfl rfl (by omega) (by omega) (fun c_40 => ?_) (fun c_40 => ?_)
    · exact ev_vret dX5_readJoined_89 rfl (e9 ▸ ⟨rfl, _, rfl, hx2, hR2, hS2⟩)
    · omega
  | succ m ih =>
    intro b a z6 I2 fin hb hx2 hR2 hS2 hl e9
    by_cases hk : pk t E a.1 = nI 42
    · skip
      have hft := (pkS_eq (by decide) hR2.t hk).1
      have haE := (pkS_eq (by decide) hR2.t hk).2.1
      have ht := (pkS_eq (by decide) hR2.t hk).2.2
      refine ev_st dX5_readJoined_36 rfl rfl ?_
      refine ev_st dX5_readJoined_38 rfl rfl ?_
      refine ev_ic_geN (t := 89) (a := b) (b := 40) dX5_readJoined_40 (by decide) rfl rfl (by omega) (by omega) (fun c_40 => ?_) (fun c_40 => ?_)
      · omega
      · refine ev_st dX5_readJoined_43 rfl rfl ?_
        refine ev_call dX5_readJoined_44 rfl rfl mr_5_59 rfl rfl rfl (k_peek hR2) ?_
        rintro _ _ ⟨e1, rfl⟩
        rw [hk] at e1
        subst e1
        show Ev lyC (d + 1) hX5_readJoined 47 [some (.ref 35), some (.ref 1), some (.int (nI 2)), some (.int dep), some (.int 40), some (.int (nI b)), z6] [.int (nI 42)] (I2, J, R) _
        refine ev_call dX5_readJoined_47 rfl rfl mr_5_62 rfl rfl rfl (k_lev (c := 42) (l := 2) (by decide) rfl) ?_
        rintro _ _ ⟨rfl, rfl⟩
        show Ev lyC (d + 1) hX5_readJoined 50 [some (.ref 35), some (.ref 1), some (.int (nI 2)), some (.int dep), some (.int 40), some (.int (nI b)), z6] [.int (nI 2)] (I2, J, R) _
        refine ev_st dX5_readJoined_50 rfl rfl ?_
        refine ev_ic_neN (t := 89) (a := 2) (b := 2) dX5_readJoined_51 (by decide) rfl rfl (by omega) (by omega) (fun c_51 => ?_) (fun c_51 => ?_)
        · omega
        · refine ev_st dX5_readJoined_54 rfl rfl ?_
          refine ev_call dX5_readJoined_55 rfl rfl mr_5_59 rfl rfl rfl (k_peek hR2) ?_
          rintro _ _ ⟨e1, rfl⟩
          rw [hk] at e1
          subst e1
          show Ev lyC (d + 1) hX5_readJoined 58 [some (.ref 35), some (.ref 1), some (.int (nI 2)), some (.int dep), some (.int 40), some (.int (nI b)), z6] [.int (nI 42)] (I2, J, R) _
          refine ev_st (L' := [some (.ref 35), some (.ref 1), some (.int (nI 2)), some (.int dep), some (.int 40), some (.int (nI b)), some (.int (nI 42))]) dX5_readJoined_58 rfl rfl ?_
          refine ev_st dX5_readJoined_60 rfl rfl ?_
          refine ev_call dX5_readJoined_61 rfl rfl mr_5_65 rfl rfl rfl (k_skip (hR2.fine hft) haE) ?_
          rintro _ _ ⟨rfl, rfl⟩
          show Ev lyC (d + 1) hX5_readJoined 64 [some (.ref 35), some (.ref 1), some (.int (nI 2)), some (.int dep), some (.int 40), some (.int (nI b)), some (.int (nI 42))] [] (ti_wr I2 1 2 (nI (a.1.2 + 1)), J, R) _
          refine ev_st dX5_readJoined_64 rfl rfl ?_
          refine ev_st dX5_readJoined_65 rfl rfl ?_
          refine ev_st dX5_readJoined_66 rfl rfl ?_
          refine ev_iconst (v := 1) dX5_readJoined_67 (by decide) ?_
          refine ev_iaddN (a := 2) (b := 1) (c := 3) dX5_readJoined_68 rfl rfl rfl ?_
          refine ev_st dX5_readJoined_69 rfl rfl ?_
          refine ev_call dX5_readJoined_70 rfl rfl mr_5_48 rfl rfl rfl (hC _ J R (true, a.1.2 + 1) _ _ hD (hR2.at hft (by omega)) (xC.add hS2 (by decide)) (by show _ ≤ a.1.2 + 1; omega)) ?_
          rintro _ _ ⟨rfl, I3, rfl, hx3, hR3, hS3⟩
          have hp3 : (f (true, a.1.2 + 1)).2.1.length + (a.1.2 + 1) ≤ (f (true, a.1.2 + 1)).1.2 := hp (true, a.1.2 + 1)
          have hle3 := hR3.le
          have hl3 : (C ++ a.2.1 ++ (f (true, a.1.2 + 1)).2.1).length + 1 ≤ (f (true, a.1.2 + 1)).1.2 := by rw [List.length_append]; omega
          show Ev lyC (d + 1) hX5_readJoined 73 [some (.ref 35), some (.ref 1), some (.int (nI 2)), some (.int dep), some (.int 40), some (.int (nI b)), some (.int (nI 42))] [] (I3, J, R) _
          refine ev_st dX5_readJoined_73 rfl rfl ?_
          refine ev_sipush (v := 2000) dX5_readJoined_74 (by decide) ?_
          refine ev_st dX5_readJoined_77 rfl rfl ?_
          refine ev_iaddN (a := 2000) (b := 42) (c := 2042) dX5_readJoined_79 rfl rfl rfl ?_
          refine ev_call dX5_readJoined_80 rfl rfl mr_5_68 rfl rfl rfl (k_add1_35 hS3.1 (by omega) _) ?_
          rintro _ _ ⟨rfl, rfl⟩
          show Ev lyC (d + 1) hX5_readJoined 83 [some (.ref 35), some (.ref 1), some (.int (nI 2)), some (.int dep), some (.int 40), some (.int (nI b)), some (.int (nI 42))] [] (ti_wr (ti_wr I3 36 ((C ++ a.2.1 ++ (f (true, a.1.2 + 1)).2.1).length) (nI 2042)) 35 3 (nI ((C ++ a.2.1 ++ (f (true, a.1.2 + 1)).2.1).length + 1)), J, R) _
          refine ev_iincN (a := b) (b := b + 1) (L' := [some (.ref 35), some (.ref 1), some (.int (nI 2)), some (.int dep), some (.int 40), some (.int (nI (b + 1))), some (.int (nI 42))]) dX5_readJoined_83 rfl (nI_1 _) rfl ?_
          refine ev_goto (t := 36) dX5_readJoined_86 (by decide) ?_
          refine ih (b + 1) (gJ t f a) _ _ fin (by omega) (((hx2.x xC.rf.w).tr hx3).add) (hR3.add (by decide)) ?_ ?_ ?_
          · rw [gJ_app ht]; exact hS3.add
          · rw [gJ_app ht, List.length_append]; exact hl3
          · rw [gL, if_pos (Or.inl hk)] at e9; exact e9
    · by_cases hk2 : pk t E a.1 = nI 47
      · have hk1 := hk
        clear hk
        have hk := hk2
        have hft := (pkS_eq (by decide) hR2.t hk).1
        have haE := (pkS_eq (by decide) hR2.t hk).2.1
        have ht := (pkS_eq (by decide) hR2.t hk).2.2
        refine ev_st dX5_readJoined_36 rfl rfl ?_
        refine ev_st dX5_readJoined_38 rfl rfl ?_
        refine ev_ic_geN (t := 89) (a := b) (b := 40) dX5_readJoined_40 (by decide) rfl rfl (by omega) (by omega) (fun c_40 => ?_) (fun c_40 => ?_)
        · omega
        · refine ev_st dX5_readJoined_43 rfl rfl ?_
          refine ev_call dX5_readJoined_44 rfl rfl mr_5_59 rfl rfl rfl (k_peek hR2) ?_
          rintro _ _ ⟨e1, rfl⟩
          rw [hk] at e1
          subst e1
          show Ev lyC (d + 1) hX5_readJoined 47 [some (.ref 35), some (.ref 1), some (.int (nI 2)), some (.int dep), some (.int 40), some (.int (nI b)), z6] [.int (nI 47)] (I2, J, R) _
          refine ev_call dX5_readJoined_47 rfl rfl mr_5_62 rfl rfl rfl (k_lev (c := 47) (l := 2) (by decide) rfl) ?_
          rintro _ _ ⟨rfl, rfl⟩
          show Ev lyC (d + 1) hX5_readJoined 50 [some (.ref 35), some (.ref 1), some (.int (nI 2)), some (.int dep), some (.int 40), some (.int (nI b)), z6] [.int (nI 2)] (I2, J, R) _
          refine ev_st dX5_readJoined_50 rfl rfl ?_
          refine ev_ic_neN (t := 89) (a := 2) (b := 2) dX5_readJoined_51 (by decide) rfl rfl (by omega) (by omega) (fun c_51 => ?_) (fun c_51 => ?_)
          · omega
          · refine ev_st dX5_readJoined_54 rfl rfl ?_
            refine ev_call dX5_readJoined_55 rfl rfl mr_5_59 rfl rfl rfl (k_peek hR2) ?_
            rintro _ _ ⟨e1, rfl⟩
            rw [hk] at e1
            subst e1
            show Ev lyC (d + 1) hX5_readJoined 58 [some (.ref 35), some (.ref 1), some (.int (nI 2)), some (.int dep), some (.int 40), some (.int (nI b)), z6] [.int (nI 47)] (I2, J, R) _
            refine ev_st (L' := [some (.ref 35), some (.ref 1), some (.int (nI 2)), some (.int dep), some (.int 40), some (.int (nI b)), some (.int (nI 47))]) dX5_readJoined_58 rfl rfl ?_
            refine ev_st dX5_readJoined_60 rfl rfl ?_
            refine ev_call dX5_readJoined_61 rfl rfl mr_5_65 rfl rfl rfl (k_skip (hR2.fine hft) haE) ?_
            rintro _ _ ⟨rfl, rfl⟩
            show Ev lyC (d + 1) hX5_readJoined 64 [some (.ref 35), some (.ref 1), some (.int (nI 2)), some (.int dep), some (.int 40), some (.int (nI b)), some (.int (nI 47))] [] (ti_wr I2 1 2 (nI (a.1.2 + 1)), J, R) _
            refine ev_st dX5_readJoined_64 rfl rfl ?_
            refine ev_st dX5_readJoined_65 rfl rfl ?_
            refine ev_st dX5_readJoined_66 rfl rfl ?_
            refine ev_iconst (v := 1) dX5_readJoined_67 (by decide) ?_
            refine ev_iaddN (a := 2) (b := 1) (c := 3) dX5_readJoined_68 rfl rfl rfl ?_
            refine ev_st dX5_readJoined_69 rfl rfl ?_
            refine ev_call dX5_readJoined_70 rfl rfl mr_5_48 rfl rfl rfl (hC _ J R (true, a.1.2 + 1) _ _ hD (hR2.at hft (by omega)) (xC.add hS2 (by decide)) (by show _ ≤ a.1.2 + 1; omega)) ?_
            rintro _ _ ⟨rfl, I3, rfl, hx3, hR3, hS3⟩
            have hp3 : (f (true, a.1.2 + 1)).2.1.length + (a.1.2 + 1) ≤ (f (true, a.1.2 + 1)).1.2 := hp (true, a.1.2 + 1)
            have hle3 := hR3.le
            have hl3 : (C ++ a.2.1 ++ (f (true, a.1.2 + 1)).2.1).length + 1 ≤ (f (true, a.1.2 + 1)).1.2 := by rw [List.length_append]; omega
            show Ev lyC (d + 1) hX5_readJoined 73 [some (.ref 35), some (.ref 1), some (.int (nI 2)), some (.int dep), some (.int 40), some (.int (nI b)), some (.int (nI 47))] [] (I3, J, R) _
            refine ev_st dX5_readJoined_73 rfl rfl ?_
            refine ev_sipush (v := 2000) dX5_readJoined_74 (by decide) ?_
            refine ev_st dX5_readJoined_77 rfl rfl ?_
            refine ev_iaddN (a := 2000) (b := 47) (c := 2047) dX5_readJoined_79 rfl rfl rfl ?_
            refine ev_call dX5_readJoined_80 rfl rfl mr_5_68 rfl rfl rfl (k_add1_35 hS3.1 (by omega) _) ?_
            rintro _ _ ⟨rfl, rfl⟩
            show Ev lyC (d + 1) hX5_readJoined 83 [some (.ref 35), some (.ref 1), some (.int (nI 2)), some (.int dep), some (.int 40), some (.int (nI b)), some (.int (nI 47))] [] (ti_wr (ti_wr I3 36 ((C ++ a.2.1 ++ (f (true, a.1.2 + 1)).2.1).length) (nI 2047)) 35 3 (nI ((C ++ a.2.1 ++ (f (true, a.1.2 + 1)).2.1).length + 1)), J, R) _
            refine ev_iincN (a := b) (b := b + 1) (L' := [some (.ref 35), some (.ref 1), some (.int (nI 2)), some (.int dep), some (.int 40), some (.int (nI (b + 1))), some (.int (nI 47))]) dX5_readJoined_83 rfl (nI_1 _) rfl ?_
            refine ev_goto (t := 36) dX5_readJoined_86 (by decide) ?_
            refine ih (b + 1) (gJ t f a) _ _ fin (by omega) (((hx2.x xC.rf.w).tr hx3).add) (hR3.add (by decide)) ?_ ?_ ?_
            · rw [gJ_app ht]; exact hS3.add
            · rw [gJ_app ht, List.length_append]; exact hl3
            · rw [gL, if_pos (Or.inr hk)] at e9; exact e9
      · skip
        rw [gL, if_neg (fun q => q.elim hk hk2)] at e9
        have hle7 := @lvS_le t E a.1
        have hne : ¬ lvS t E a.1 = 2 := fun q => (lvS_2 q).elim hk hk2
        refine ev_st dX5_readJoined_36 rfl rfl ?_
        refine ev_st dX5_readJoined_38 rfl rfl ?_
        refine ev_ic_geN (t := 89) (a := b) (b := 40) dX5_readJoined_40 (by decide) rfl rfl (by omega) (by omega) (fun c_40 => ?_) (fun c_40 => ?_)
        · omega
        · refine ev_st dX5_readJoined_43 rfl rfl ?_
          refine ev_call dX5_readJoined_44 rfl rfl mr_5_59 rfl rfl rfl (k_peek hR2) ?_
          rintro _ _ ⟨e1, rfl⟩
          subst e1
          show Ev lyC (d + 1) hX5_readJoined 47 [some (.ref 35), some (.ref 1), some (.int (nI 2)), some (.int dep), some (.int 40), some (.int (nI b)), z6] [.int (pk t E a.1)] (I2, J, R) _
          refine ev_call dX5_readJoined_47 rfl rfl mr_5_62 rfl rfl rfl (k_levS hR2.t) ?_
          rintro _ _ ⟨rfl, rfl⟩
          show Ev lyC (d + 1) hX5_readJoined 50 [some (.ref 35), some (.ref 1), some (.int (nI 2)), some (.int dep), some (.int 40), some (.int (nI b)), z6] [.int (nI (lvS t E a.1))] (I2, J, R) _
          refine ev_st dX5_readJoined_50 rfl rfl ?_
          refine ev_ic_neN (t := 89) (a := lvS t E a.1) (b := 2) dX5_readJoined_51 (by decide) rfl rfl (by omega) (by omega) (fun c_51 => ?_) (fun c_51 => ?_)
          · exact ev_vret dX5_readJoined_89 rfl (e9 ▸ ⟨rfl, _, rfl, hx2, hR2, hS2⟩)
          · exact absurd c_51 hne
set_option maxHeartbeats 1000000 in
theorem k_prod_35 {t : Nat → Nat} {E N D0 : Nat} {dep : Int32} {f : PS → RR} (hC : kRj 3 35 dep D0 t E N f) (hp : pay f) (hE : E ≤ 40) : kRj 2 35 dep (D0 + 1) t E N (gP t E f) := by
  intro I J R s C D hD0 hR hS hl
  obtain ⟨d, rfl⟩ : ∃ d, D = d + 1 := ⟨D - 1, by omega⟩
  have hD : D0 ≤ d := by omega
  show Ev lyC (d + 1) hX5_readJoined 0 [some (.ref 35), some (.ref 1), some (.int (nI 2)), some (.int dep), none, none, none] [] (I, J, R) _
  refine ev_st dX5_readJoined_0 rfl rfl ?_
  refine ev_iconst (v := 3) dX5_readJoined_1 (by decide) ?_
  refine ev_ic_ltN (t := 12) (a := 2) (b := 3) dX5_readJoined_2 (by decide) rfl rfl (by omega) (by omega) (fun c_2 => ?_) (fun c_2 => ?_)
  · refine ev_st dX5_readJoined_12 rfl rfl ?_
    refine ev_st dX5_readJoined_13 rfl rfl ?_
    refine ev_st dX5_readJoined_14 rfl rfl ?_
    refine ev_iconst (v := 1) dX5_readJoined_15 (by decide) ?_
    refine ev_iaddN (a := 2) (b := 1) (c := 3) dX5_readJoined_16 rfl rfl rfl ?_
    refine ev_st dX5_readJoined_17 rfl rfl ?_
    refine ev_call dX5_readJoined_18 rfl rfl mr_5_48 rfl rfl rfl (hC I J R s C _ hD hR hS hl) ?_
    rintro _ _ ⟨rfl, I3, rfl, hx3, hR3, hS3⟩
    show Ev lyC (d + 1) hX5_readJoined 21 [some (.ref 35), some (.ref 1), some (.int (nI 2)), some (.int dep), none, none, none] [] (I3, J, R) _
    refine ev_st dX5_readJoined_21 rfl rfl ?_
    refine ev_if_neN (t := 29) (a := 2) dX5_readJoined_22 (by decide) rfl (by omega) (fun c_22 => ?_) (fun c_22 => ?_)
    · refine ev_bipush (v := 40) dX5_readJoined_29 (by decide) ?_
      refine ev_st (L' := [some (.ref 35), some (.ref 1), some (.int (nI 2)), some (.int dep), some (.int 40), none, none]) dX5_readJoined_31 rfl rfl ?_
      refine ev_iconst (v := 0) dX5_readJoined_33 (by decide) ?_
      refine ev_st (L' := [some (.ref 35), some (.ref 1), some (.int (nI 2)), some (.int dep), some (.int 40), some (.int 0), none]) dX5_readJoined_34 rfl rfl ?_
      exact k_prodL_35 hC hp hE hD 40 0 (f s) _ _ _ (by omega) hx3 hR3 hS3 (by have := hp s; rw [List.length_append]; omega) rfl
    · omega
  · omega
set_option maxHeartbeats 1000000 in
theorem k_sumL_35 {I : Nat → Nat → Int32} {J : Nat → Nat → Int64} {R : Nat → Nat → Value} {t : Nat → Nat} {d E N D0 : Nat} {dep : Int32} {C : List Int32} {f : PS → RR} (hC : kRj 2 35 dep D0 t E N f) (hp : pay f) (hE : E ≤ 40) (hD : D0 ≤ d) : ∀ (m b : Nat) (a : RR) (z6 : Option Value) (I2 : Nat → Nat → Int32) (fin : RR), b + m = 40 → eC 35 I I2 → cR I2 t E N a.1 → cS 35 I2 (C ++ a.2.1) → (C ++ a.2.1).length ≤ a.1.2 → gL t E 43 45 f m a = fin → Ev lyC (d + 1) hX5_readJoined 36 [some (.ref 35), some (.ref 1), some (.int (nI 1)), some (.int dep), some (.int 40), some (.int (nI b)), z6] [] (I2, J, R) (kQ 35 I J R t E N fin.1 (C ++ fin.2.1)) := by
  intro m
  induction m with
  | zero =>
    intro b a z6 I2 fin hb hx2 hR2 hS2 hl e9
    rw [gL] at e9
    refine ev_st dX5_readJoined_36 rfl rfl ?_
    refine ev_st dX5_readJoined_38 rfl rfl ?_
    refine ev_ic_geN (t := 89) (a := b) (b := 40) dX5_readJoined_40 (by decide) rfl rfl (by omega) (by omega) (fun c_40 => ?_) (fun c_40 => ?_)
    · exact ev_vret dX5_readJoined_89 rfl (e9 ▸ ⟨rfl, _, rfl, hx2, hR2, hS2⟩)
    · omega
  | succ m ih =>
    intro b a z6 I2 fin hb hx2 hR2 hS2 hl e9
    by_cases hk : pk t E a.1 = nI 43
    · skip
      have hft := (pkS_eq (by decide) hR2.t hk).1
      have haE := (pkS_eq (by decide) hR2.t hk).2.1
      have ht := (pkS_eq (by decide) hR2.t hk).2.2
      refine ev_st dX5_readJoined_36 rfl rfl ?_
      refine ev_st dX5_readJoined_38 rfl rfl ?_
      refine ev_ic_geN (t := 89) (a := b) (b := 40) dX5_readJoined_40 (by decide) rfl rfl (by omega) (by omega) (fun c_40 => ?_) (fun c_40 => ?_)
      · omega
      · refine ev_st dX5_readJoined_43 rfl rfl ?_
        refine ev_call dX5_readJoined_44 rfl rfl mr_5_59 rfl rfl rfl (k_peek hR2) ?_
        rintro _ _ ⟨e1, rfl⟩
        rw [hk] at e1
        subst e1
        show Ev lyC (d + 1) hX5_readJoined 47 [some (.ref 35), some (.ref 1), some (.int (nI 1)), some (.int dep), some (.int 40), some (.int (nI b)), z6] [.int (nI 43)] (I2, J, R) _
        refine ev_call dX5_readJoined_47 rfl rfl mr_5_62 rfl rfl rfl (k_lev (c := 43) (l := 1) (by decide) rfl) ?_
        rintro _ _ ⟨rfl, rfl⟩
        show Ev lyC (d + 1) hX5_readJoined 50 [some (.ref 35), some (.ref 1), some (.int (nI 1)), some (.int dep), some (.int 40), some (.int (nI b)), z6] [.int (nI 1)] (I2, J, R) _
        refine ev_st dX5_readJoined_50 rfl rfl ?_
        refine ev_ic_neN (t := 89) (a := 1) (b := 1) dX5_readJoined_51 (by decide) rfl rfl (by omega) (by omega) (fun c_51 => ?_) (fun c_51 => ?_)
        · omega
        · refine ev_st dX5_readJoined_54 rfl rfl ?_
          refine ev_call dX5_readJoined_55 rfl rfl mr_5_59 rfl rfl rfl (k_peek hR2) ?_
          rintro _ _ ⟨e1, rfl⟩
          rw [hk] at e1
          subst e1
          show Ev lyC (d + 1) hX5_readJoined 58 [some (.ref 35), some (.ref 1), some (.int (nI 1)), some (.int dep), some (.int 40), some (.int (nI b)), z6] [.int (nI 43)] (I2, J, R) _
          refine ev_st (L' := [some (.ref 35), some (.ref 1), some (.int (nI 1)), some (.int dep), some (.int 40), some (.int (nI b)), some (.int (nI 43))]) dX5_readJoined_58 rfl rfl ?_
          refine ev_st dX5_readJoined_60 rfl rfl ?_
          refine ev_call dX5_readJoined_61 rfl rfl mr_5_65 rfl rfl rfl (k_skip (hR2.fine hft) haE) ?_
          rintro _ _ ⟨rfl, rfl⟩
          show Ev lyC (d + 1) hX5_readJoined 64 [some (.ref 35), some (.ref 1), some (.int (nI 1)), some (.int dep), some (.int 40), some (.int (nI b)), some (.int (nI 43))] [] (ti_wr I2 1 2 (nI (a.1.2 + 1)), J, R) _
          refine ev_st dX5_readJoined_64 rfl rfl ?_
          refine ev_st dX5_readJoined_65 rfl rfl ?_
          refine ev_st dX5_readJoined_66 rfl rfl ?_
          refine ev_iconst (v := 1) dX5_readJoined_67 (by decide) ?_
          refine ev_iaddN (a := 1) (b := 1) (c := 2) dX5_readJoined_68 rfl rfl rfl ?_
          refine ev_st dX5_readJoined_69 rfl rfl ?_
          refine ev_call dX5_readJoined_70 rfl rfl mr_5_48 rfl rfl rfl (hC _ J R (true, a.1.2 + 1) _ _ hD (hR2.at hft (by omega)) (xC.add hS2 (by decide)) (by show _ ≤ a.1.2 + 1; omega)) ?_
          rintro _ _ ⟨rfl, I3, rfl, hx3, hR3, hS3⟩
          have hp3 : (f (true, a.1.2 + 1)).2.1.length + (a.1.2 + 1) ≤ (f (true, a.1.2 + 1)).1.2 := hp (true, a.1.2 + 1)
          have hle3 := hR3.le
          have hl3 : (C ++ a.2.1 ++ (f (true, a.1.2 + 1)).2.1).length + 1 ≤ (f (true, a.1.2 + 1)).1.2 := by rw [List.length_append]; omega
          show Ev lyC (d + 1) hX5_readJoined 73 [some (.ref 35), some (.ref 1), some (.int (nI 1)), some (.int dep), some (.int 40), some (.int (nI b)), some (.int (nI 43))] [] (I3, J, R) _
          refine ev_st dX5_readJoined_73 rfl rfl ?_
          refine ev_sipush (v := 2000) dX5_readJoined_74 (by decide) ?_
          refine ev_st dX5_readJoined_77 rfl rfl ?_
          refine ev_iaddN (a := 2000) (b := 43) (c := 2043) dX5_readJoined_79 rfl rfl rfl ?_
          refine ev_call dX5_readJoined_80 rfl rfl mr_5_68 rfl rfl rfl (k_add1_35 hS3.1 (by omega) _) ?_
          rintro _ _ ⟨rfl, rfl⟩
          show Ev lyC (d + 1) hX5_readJoined 83 [some (.ref 35), some (.ref 1), some (.int (nI 1)), some (.int dep), some (.int 40), some (.int (nI b)), some (.int (nI 43))] [] (ti_wr (ti_wr I3 36 ((C ++ a.2.1 ++ (f (true, a.1.2 + 1)).2.1).length) (nI 2043)) 35 3 (nI ((C ++ a.2.1 ++ (f (true, a.1.2 + 1)).2.1).length + 1)), J, R) _
          refine ev_iincN (a := b) (b := b + 1) (L' := [some (.ref 35), some (.ref 1), some (.int (nI 1)), some (.int dep), some (.int 40), some (.int (nI (b + 1))), some (.int (nI 43))]) dX5_readJoined_83 rfl (nI_1 _) rfl ?_
          refine ev_goto (t := 36) dX5_readJoined_86 (by decide) ?_
          refine ih (b + 1) (gJ t f a) _ _ fin (by omega) (((hx2.x xC.rf.w).tr hx3).add) (hR3.add (by decide)) ?_ ?_ ?_
          · rw [gJ_app ht]; exact hS3.add
          · rw [gJ_app ht, List.length_append]; exact hl3
          · rw [gL, if_pos (Or.inl hk)] at e9; exact e9
    · by_cases hk2 : pk t E a.1 = nI 45
      · have hk1 := hk
        clear hk
        have hk := hk2
        have hft := (pkS_eq (by decide) hR2.t hk).1
        have haE := (pkS_eq (by decide) hR2.t hk).2.1
        have ht := (pkS_eq (by decide) hR2.t hk).2.2
        refine ev_st dX5_readJoined_36 rfl rfl ?_
        refine ev_st dX5_readJoined_38 rfl rfl ?_
        refine ev_ic_geN (t := 89) (a := b) (b := 40) dX5_readJoined_40 (by decide) rfl rfl (by omega) (by omega) (fun c_40 => ?_) (fun c_40 => ?_)
        · omega
        · refine ev_st dX5_readJoined_43 rfl rfl ?_
          refine ev_call dX5_readJoined_44 rfl rfl mr_5_59 rfl rfl rfl (k_peek hR2) ?_
          rintro _ _ ⟨e1, rfl⟩
          rw [hk] at e1
          subst e1
          show Ev lyC (d + 1) hX5_readJoined 47 [some (.ref 35), some (.ref 1), some (.int (nI 1)), some (.int dep), some (.int 40), some (.int (nI b)), z6] [.int (nI 45)] (I2, J, R) _
          refine ev_call dX5_readJoined_47 rfl rfl mr_5_62 rfl rfl rfl (k_lev (c := 45) (l := 1) (by decide) rfl) ?_
          rintro _ _ ⟨rfl, rfl⟩
          show Ev lyC (d + 1) hX5_readJoined 50 [some (.ref 35), some (.ref 1), some (.int (nI 1)), some (.int dep), some (.int 40), some (.int (nI b)), z6] [.int (nI 1)] (I2, J, R) _
          refine ev_st dX5_readJoined_50 rfl rfl ?_
          refine ev_ic_neN (t := 89) (a := 1) (b := 1) dX5_readJoined_51 (by decide) rfl rfl (by omega) (by omega) (fun c_51 => ?_) (fun c_51 => ?_)
          · omega
          · refine ev_st dX5_readJoined_54 rfl rfl ?_
            refine ev_call dX5_readJoined_55 rfl rfl mr_5_59 rfl rfl rfl (k_peek hR2) ?_
            rintro _ _ ⟨e1, rfl⟩
            rw [hk] at e1
            subst e1
            show Ev lyC (d + 1) hX5_readJoined 58 [some (.ref 35), some (.ref 1), some (.int (nI 1)), some (.int dep), some (.int 40), some (.int (nI b)), z6] [.int (nI 45)] (I2, J, R) _
            refine ev_st (L' := [some (.ref 35), some (.ref 1), some (.int (nI 1)), some (.int dep), some (.int 40), some (.int (nI b)), some (.int (nI 45))]) dX5_readJoined_58 rfl rfl ?_
            refine ev_st dX5_readJoined_60 rfl rfl ?_
            refine ev_call dX5_readJoined_61 rfl rfl mr_5_65 rfl rfl rfl (k_skip (hR2.fine hft) haE) ?_
            rintro _ _ ⟨rfl, rfl⟩
            show Ev lyC (d + 1) hX5_readJoined 64 [some (.ref 35), some (.ref 1), some (.int (nI 1)), some (.int dep), some (.int 40), some (.int (nI b)), some (.int (nI 45))] [] (ti_wr I2 1 2 (nI (a.1.2 + 1)), J, R) _
            refine ev_st dX5_readJoined_64 rfl rfl ?_
            refine ev_st dX5_readJoined_65 rfl rfl ?_
            refine ev_st dX5_readJoined_66 rfl rfl ?_
            refine ev_iconst (v := 1) dX5_readJoined_67 (by decide) ?_
            refine ev_iaddN (a := 1) (b := 1) (c := 2) dX5_readJoined_68 rfl rfl rfl ?_
            refine ev_st dX5_readJoined_69 rfl rfl ?_
            refine ev_call dX5_readJoined_70 rfl rfl mr_5_48 rfl rfl rfl (hC _ J R (true, a.1.2 + 1) _ _ hD (hR2.at hft (by omega)) (xC.add hS2 (by decide)) (by show _ ≤ a.1.2 + 1; omega)) ?_
            rintro _ _ ⟨rfl, I3, rfl, hx3, hR3, hS3⟩
            have hp3 : (f (true, a.1.2 + 1)).2.1.length + (a.1.2 + 1) ≤ (f (true, a.1.2 + 1)).1.2 := hp (true, a.1.2 + 1)
            have hle3 := hR3.le
            have hl3 : (C ++ a.2.1 ++ (f (true, a.1.2 + 1)).2.1).length + 1 ≤ (f (true, a.1.2 + 1)).1.2 := by rw [List.length_append]; omega
            show Ev lyC (d + 1) hX5_readJoined 73 [some (.ref 35), some (.ref 1), some (.int (nI 1)), some (.int dep), some (.int 40), some (.int (nI b)), some (.int (nI 45))] [] (I3, J, R) _
            refine ev_st dX5_readJoined_73 rfl rfl ?_
            refine ev_sipush (v := 2000) dX5_readJoined_74 (by decide) ?_
            refine ev_st dX5_readJoined_77 rfl rfl ?_
            refine ev_iaddN (a := 2000) (b := 45) (c := 2045) dX5_readJoined_79 rfl rfl rfl ?_
            refine ev_call dX5_readJoined_80 rfl rfl mr_5_68 rfl rfl rfl (k_add1_35 hS3.1 (by omega) _) ?_
            rintro _ _ ⟨rfl, rfl⟩
            show Ev lyC (d + 1) hX5_readJoined 83 [some (.ref 35), some (.ref 1), some (.int (nI 1)), some (.int dep), some (.int 40), some (.int (nI b)), some (.int (nI 45))] [] (ti_wr (ti_wr I3 36 ((C ++ a.2.1 ++ (f (true, a.1.2 + 1)).2.1).length) (nI 2045)) 35 3 (nI ((C ++ a.2.1 ++ (f (true, a.1.2 + 1)).2.1).length + 1)), J, R) _
            refine ev_iincN (a := b) (b := b + 1) (L' := [some (.ref 35), some (.ref 1), some (.int (nI 1)), some (.int dep), some (.int 40), some (.int (nI (b + 1))), some (.int (nI 45))]) dX5_readJoined_83 rfl (nI_1 _) rfl ?_
            refine ev_goto (t := 36) dX5_readJoined_86 (by decide) ?_
            refine ih (b + 1) (gJ t f a) _ _ fin (by omega) (((hx2.x xC.rf.w).tr hx3).add) (hR3.add (by decide)) ?_ ?_ ?_
            · rw [gJ_app ht]; exact hS3.add
            · rw [gJ_app ht, List.length_append]; exact hl3
            · rw [gL, if_pos (Or.inr hk)] at e9; exact e9
      · skip
        rw [gL, if_neg (fun q => q.elim hk hk2)] at e9
        have hle7 := @lvS_le t E a.1
        have hne : ¬ lvS t E a.1 = 1 := fun q => (lvS_1 q).elim hk hk2
        refine ev_st dX5_readJoined_36 rfl rfl ?_
        refine ev_st dX5_readJoined_38 rfl rfl ?_
        refine ev_ic_geN (t := 89) (a := b) (b := 40) dX5_readJoined_40 (by decide) rfl rfl (by omega) (by omega) (fun c_40 => ?_) (fun c_40 => ?_)
        · omega
        · refine ev_st dX5_readJoined_43 rfl rfl ?_
          refine ev_call dX5_readJoined_44 rfl rfl mr_5_59 rfl rfl rfl (k_peek hR2) ?_
          rintro _ _ ⟨e1, rfl⟩
          subst e1
          show Ev lyC (d + 1) hX5_readJoined 47 [some (.ref 35), some (.ref 1), some (.int (nI 1)), some (.int dep), some (.int 40), some (.int (nI b)), z6] [.int (pk t E a.1)] (I2, J, R) _
          refine ev_call dX5_readJoined_47 rfl rfl mr_5_62 rfl rfl rfl (k_levS hR2.t) ?_
          rintro _ _ ⟨rfl, rfl⟩
          show Ev lyC (d + 1) hX5_readJoined 50 [some (.ref 35), some (.ref 1), some (.int (nI 1)), some (.int dep), some (.int 40), some (.int (nI b)), z6] [.int (nI (lvS t E a.1))] (I2, J, R) _
          refine ev_st dX5_readJoined_50 rfl rfl ?_
          refine ev_ic_neN (t := 89) (a := lvS t E a.1) (b := 1) dX5_readJoined_51 (by decide) rfl rfl (by omega) (by omega) (fun c_51 => ?_) (fun c_51 => ?_)
          · exact ev_vret dX5_readJoined_89 rfl (e9 ▸ ⟨rfl, _, rfl, hx2, hR2, hS2⟩)
          · exact absurd c_51 hne
set_option maxHeartbeats 1000000 in
theorem k_sum_35 {t : Nat → Nat} {E N D0 : Nat} {dep : Int32} {f : PS → RR} (hC : kRj 2 35 dep D0 t E N f) (hp : pay f) (hE : E ≤ 40) : kRj 1 35 dep (D0 + 1) t E N (gU t E f) := by
  intro I J R s C D hD0 hR hS hl
  obtain ⟨d, rfl⟩ : ∃ d, D = d + 1 := ⟨D - 1, by omega⟩
  have hD : D0 ≤ d := by omega
  show Ev lyC (d + 1) hX5_readJoined 0 [some (.ref 35), some (.ref 1), some (.int (nI 1)), some (.int dep), none, none, none] [] (I, J, R) _
  refine ev_st dX5_readJoined_0 rfl rfl ?_
  refine ev_iconst (v := 3) dX5_readJoined_1 (by decide) ?_
  refine ev_ic_ltN (t := 12) (a := 1) (b := 3) dX5_readJoined_2 (by decide) rfl rfl (by omega) (by omega) (fun c_2 => ?_) (fun c_2 => ?_)
  · refine ev_st dX5_readJoined_12 rfl rfl ?_
    refine ev_st dX5_readJoined_13 rfl rfl ?_
    refine ev_st dX5_readJoined_14 rfl rfl ?_
    refine ev_iconst (v := 1) dX5_readJoined_15 (by decide) ?_
    refine ev_iaddN (a := 1) (b := 1) (c := 2) dX5_readJoined_16 rfl rfl rfl ?_
    refine ev_st dX5_readJoined_17 rfl rfl ?_
    refine ev_call dX5_readJoined_18 rfl rfl mr_5_48 rfl rfl rfl (hC I J R s C _ hD hR hS hl) ?_
    rintro _ _ ⟨rfl, I3, rfl, hx3, hR3, hS3⟩
    show Ev lyC (d + 1) hX5_readJoined 21 [some (.ref 35), some (.ref 1), some (.int (nI 1)), some (.int dep), none, none, none] [] (I3, J, R) _
    refine ev_st dX5_readJoined_21 rfl rfl ?_
    refine ev_if_neN (t := 29) (a := 1) dX5_readJoined_22 (by decide) rfl (by omega) (fun c_22 => ?_) (fun c_22 => ?_)
    · refine ev_bipush (v := 40) dX5_readJoined_29 (by decide) ?_
      refine ev_st (L' := [some (.ref 35), some (.ref 1), some (.int (nI 1)), some (.int dep), some (.int 40), none, none]) dX5_readJoined_31 rfl rfl ?_
      refine ev_iconst (v := 0) dX5_readJoined_33 (by decide) ?_
      refine ev_st (L' := [some (.ref 35), some (.ref 1), some (.int (nI 1)), some (.int dep), some (.int 40), some (.int 0), none]) dX5_readJoined_34 rfl rfl ?_
      exact k_sumL_35 hC hp hE hD 40 0 (f s) _ _ _ (by omega) hx3 hR3 hS3 (by have := hp s; rw [List.length_append]; omega) rfl
    · omega
  · omega
set_option maxHeartbeats 1000000 in
theorem k_expr_35 {t : Nat → Nat} {E N D0 : Nat} {dep : Int32} {f : PS → RR} (hC : kRj 1 35 dep D0 t E N f) (hp : pay f) (hE : E ≤ 40) : kRj 0 35 dep (D0 + 1) t E N (gE t E f) := by
  intro I J R s C D hD0 hR hS hl
  obtain ⟨d, rfl⟩ : ∃ d, D = d + 1 := ⟨D - 1, by omega⟩
  have hD : D0 ≤ d := by omega
  show Ev lyC (d + 1) hX5_readJoined 0 [some (.ref 35), some (.ref 1), some (.int (nI 0)), some (.int dep), none, none, none] [] (I, J, R) _
  refine ev_st dX5_readJoined_0 rfl rfl ?_
  refine ev_iconst (v := 3) dX5_readJoined_1 (by decide) ?_
  refine ev_ic_ltN (t := 12) (a := 0) (b := 3) dX5_readJoined_2 (by decide) rfl rfl (by omega) (by omega) (fun c_2 => ?_) (fun c_2 => ?_)
  · refine ev_st dX5_readJoined_12 rfl rfl ?_
    refine ev_st dX5_readJoined_13 rfl rfl ?_
    refine ev_st dX5_readJoined_14 rfl rfl ?_
    refine ev_iconst (v := 1) dX5_readJoined_15 (by decide) ?_
    refine ev_iaddN (a := 0) (b := 1) (c := 1) dX5_readJoined_16 rfl rfl rfl ?_
    refine ev_st dX5_readJoined_17 rfl rfl ?_
    refine ev_call dX5_readJoined_18 rfl rfl mr_5_48 rfl rfl rfl (hC I J R s C _ hD hR hS hl) ?_
    rintro _ _ ⟨rfl, I2, rfl, hx2, hR2, hS2⟩
    have hl2 : (C ++ (f s).2.1).length ≤ (f s).1.2 := by have := hp s; rw [List.length_append]; omega
    show Ev lyC (d + 1) hX5_readJoined 21 [some (.ref 35), some (.ref 1), some (.int (nI 0)), some (.int dep), none, none, none] [] (I2, J, R) _
    refine ev_st dX5_readJoined_21 rfl rfl ?_
    refine ev_if_neN (t := 29) (a := 0) dX5_readJoined_22 (by decide) rfl (by omega) (fun c_22 => ?_) (fun c_22 => ?_)
    · omega
    · refine ev_iconst (v := 1) dX5_readJoined_25 (by decide) ?_
      refine ev_goto (t := 31) dX5_readJoined_26 (by decide) ?_
      refine ev_st (L' := [some (.ref 35), some (.ref 1), some (.int (nI 0)), some (.int dep), some (.int 1), none, none]) dX5_readJoined_31 rfl rfl ?_
      refine ev_iconst (v := 0) dX5_readJoined_33 (by decide) ?_
      refine ev_st (L' := [some (.ref 35), some (.ref 1), some (.int (nI 0)), some (.int dep), some (.int 1), some (.int 0), none]) dX5_readJoined_34 rfl rfl ?_
      by_cases hk : pk t E (f s).1 = nI 60
      · skip
        have hft := (pkS_eq (by decide) hR2.t hk).1
        have haE := (pkS_eq (by decide) hR2.t hk).2.1
        have ht := (pkS_eq (by decide) hR2.t hk).2.2
        have hg : gE t E f s = gJ t f (f s) := by unfold gE; exact if_pos (Or.inl hk)
        refine ev_st dX5_readJoined_36 rfl rfl ?_
        refine ev_st dX5_readJoined_38 rfl rfl ?_
        refine ev_ic_geN (t := 89) (a := 0) (b := 1) dX5_readJoined_40 (by decide) rfl rfl (by omega) (by omega) (fun c_40 => ?_) (fun c_40 => ?_)
        · omega
        · refine ev_st dX5_readJoined_43 rfl rfl ?_
          refine ev_call dX5_readJoined_44 rfl rfl mr_5_59 rfl rfl rfl (k_peek hR2) ?_
          rintro _ _ ⟨e1, rfl⟩
          rw [hk] at e1
          subst e1
          show Ev lyC (d + 1) hX5_readJoined 47 [some (.ref 35), some (.ref 1), some (.int (nI 0)), some (.int dep), some (.int 1), some (.int 0), none] [.int (nI 60)] (I2, J, R) _
          refine ev_call dX5_readJoined_47 rfl rfl mr_5_62 rfl rfl rfl (k_lev (c := 60) (l := 0) (by decide) rfl) ?_
          rintro _ _ ⟨rfl, rfl⟩
          show Ev lyC (d + 1) hX5_readJoined 50 [some (.ref 35), some (.ref 1), some (.int (nI 0)), some (.int dep), some (.int 1), some (.int 0), none] [.int (nI 0)] (I2, J, R) _
          refine ev_st dX5_readJoined_50 rfl rfl ?_
          refine ev_ic_neN (t := 89) (a := 0) (b := 0) dX5_readJoined_51 (by decide) rfl rfl (by omega) (by omega) (fun c_51 => ?_) (fun c_51 => ?_)
          · omega
          · refine ev_st dX5_readJoined_54 rfl rfl ?_
            refine ev_call dX5_readJoined_55 rfl rfl mr_5_59 rfl rfl rfl (k_peek hR2) ?_
            rintro _ _ ⟨e1, rfl⟩
            rw [hk] at e1
            subst e1
            show Ev lyC (d + 1) hX5_readJoined 58 [some (.ref 35), some (.ref 1), some (.int (nI 0)), some (.int dep), some (.int 1), some (.int 0), none] [.int (nI 60)] (I2, J, R) _
            refine ev_st (L' := [some (.ref 35), some (.ref 1), some (.int (nI 0)), some (.int dep), some (.int 1), some (.int 0), some (.int (nI 60))]) dX5_readJoined_58 rfl rfl ?_
            refine ev_st dX5_readJoined_60 rfl rfl ?_
            refine ev_call dX5_readJoined_61 rfl rfl mr_5_65 rfl rfl rfl (k_skip (hR2.fine hft) haE) ?_
            rintro _ _ ⟨rfl, rfl⟩
            show Ev lyC (d + 1) hX5_readJoined 64 [some (.ref 35), some (.ref 1), some (.int (nI 0)), some (.int dep), some (.int 1), some (.int 0), some (.int (nI 60))] [] (ti_wr I2 1 2 (nI ((f s).1.2 + 1)), J, R) _
            refine ev_st dX5_readJoined_64 rfl rfl ?_
            refine ev_st dX5_readJoined_65 rfl rfl ?_
            refine ev_st dX5_readJoined_66 rfl rfl ?_
            refine ev_iconst (v := 1) dX5_readJoined_67 (by decide) ?_
            refine ev_iaddN (a := 0) (b := 1) (c := 1) dX5_readJoined_68 rfl rfl rfl ?_
            refine ev_st dX5_readJoined_69 rfl rfl ?_
            refine ev_call dX5_readJoined_70 rfl rfl mr_5_48 rfl rfl rfl (hC _ J R (true, (f s).1.2 + 1) _ _ hD (hR2.at hft (by omega)) (xC.add hS2 (by decide)) (by show _ ≤ (f s).1.2 + 1; omega)) ?_
            rintro _ _ ⟨rfl, I3, rfl, hx3, hR3, hS3⟩
            have hp3 : (f (true, (f s).1.2 + 1)).2.1.length + ((f s).1.2 + 1) ≤ (f (true, (f s).1.2 + 1)).1.2 := hp (true, (f s).1.2 + 1)
            have hle3 := hR3.le
            have hl3 : (C ++ (f s).2.1 ++ (f (true, (f s).1.2 + 1)).2.1).length + 1 ≤ (f (true, (f s).1.2 + 1)).1.2 := by rw [List.length_append]; omega
            show Ev lyC (d + 1) hX5_readJoined 73 [some (.ref 35), some (.ref 1), some (.int (nI 0)), some (.int dep), some (.int 1), some (.int 0), some (.int (nI 60))] [] (I3, J, R) _
            refine ev_st dX5_readJoined_73 rfl rfl ?_
            refine ev_sipush (v := 2000) dX5_readJoined_74 (by decide) ?_
            refine ev_st dX5_readJoined_77 rfl rfl ?_
            refine ev_iaddN (a := 2000) (b := 60) (c := 2060) dX5_readJoined_79 rfl rfl rfl ?_
            refine ev_call dX5_readJoined_80 rfl rfl mr_5_68 rfl rfl rfl (k_add1_35 hS3.1 (by omega) _) ?_
            rintro _ _ ⟨rfl, rfl⟩
            show Ev lyC (d + 1) hX5_readJoined 83 [some (.ref 35), some (.ref 1), some (.int (nI 0)), some (.int dep), some (.int 1), some (.int 0), some (.int (nI 60))] [] (ti_wr (ti_wr I3 36 ((C ++ (f s).2.1 ++ (f (true, (f s).1.2 + 1)).2.1).length) (nI 2060)) 35 3 (nI ((C ++ (f s).2.1 ++ (f (true, (f s).1.2 + 1)).2.1).length + 1)), J, R) _
            refine ev_iinc (x := 0) (v := 1) (L' := [some (.ref 35), some (.ref 1), some (.int (nI 0)), some (.int dep), some (.int 1), some (.int 1), some (.int (nI 60))]) dX5_readJoined_83 rfl (by decide) rfl ?_
            refine ev_goto (t := 36) dX5_readJoined_86 (by decide) ?_
            refine ev_st dX5_readJoined_36 rfl rfl ?_
            refine ev_st dX5_readJoined_38 rfl rfl ?_
            refine ev_ic_geN (t := 89) (a := 1) (b := 1) dX5_readJoined_40 (by decide) rfl rfl (by omega) (by omega) (fun c_40' => ?_) (fun c_40' => ?_)
            · exact ev_vret dX5_readJoined_89 rfl (⟨rfl, _, rfl, ((hx2.x xC.rf.w).tr hx3).add, by rw [hg]; exact hR3.add (by decide), by rw [hg, gJ_app ht]; exact hS3.add⟩)
            · omega
      · have hn60 := hk
        clear hk
        by_cases hk : pk t E (f s).1 = nI 62
        · skip
          have hft := (pkS_eq (by decide) hR2.t hk).1
          have haE := (pkS_eq (by decide) hR2.t hk).2.1
          have ht := (pkS_eq (by decide) hR2.t hk).2.2
          have hg : gE t E f s = gJ t f (f s) := by unfold gE; exact if_pos (Or.inr (Or.inl hk))
          refine ev_st dX5_readJoined_36 rfl rfl ?_
          refine ev_st dX5_readJoined_38 rfl rfl ?_
          refine ev_ic_geN (t := 89) (a := 0) (b := 1) dX5_readJoined_40 (by decide) rfl rfl (by omega) (by omega) (fun c_40 => ?_) (fun c_40 => ?_)
          · omega
          · refine ev_st dX5_readJoined_43 rfl rfl ?_
            refine ev_call dX5_readJoined_44 rfl rfl mr_5_59 rfl rfl rfl (k_peek hR2) ?_
            rintro _ _ ⟨e1, rfl⟩
            rw [hk] at e1
            subst e1
            show Ev lyC (d + 1) hX5_readJoined 47 [some (.ref 35), some (.ref 1), some (.int (nI 0)), some (.int dep), some (.int 1), some (.int 0), none] [.int (nI 62)] (I2, J, R) _
            refine ev_call dX5_readJoined_47 rfl rfl mr_5_62 rfl rfl rfl (k_lev (c := 62) (l := 0) (by decide) rfl) ?_
            rintro _ _ ⟨rfl, rfl⟩
            show Ev lyC (d + 1) hX5_readJoined 50 [some (.ref 35), some (.ref 1), some (.int (nI 0)), some (.int dep), some (.int 1), some (.int 0), none] [.int (nI 0)] (I2, J, R) _
            refine ev_st dX5_readJoined_50 rfl rfl ?_
            refine ev_ic_neN (t := 89) (a := 0) (b := 0) dX5_readJoined_51 (by decide) rfl rfl (by omega) (by omega) (fun c_51 => ?_) (fun c_51 => ?_)
            · omega
            · refine ev_st dX5_readJoined_54 rfl rfl ?_
              refine ev_call dX5_readJoined_55 rfl rfl mr_5_59 rfl rfl rfl (k_peek hR2) ?_
              rintro _ _ ⟨e1, rfl⟩
              rw [hk] at e1
              subst e1
              show Ev lyC (d + 1) hX5_readJoined 58 [some (.ref 35), some (.ref 1), some (.int (nI 0)), some (.int dep), some (.int 1), some (.int 0), none] [.int (nI 62)] (I2, J, R) _
              refine ev_st (L' := [some (.ref 35), some (.ref 1), some (.int (nI 0)), some (.int dep), some (.int 1), some (.int 0), some (.int (nI 62))]) dX5_readJoined_58 rfl rfl ?_
              refine ev_st dX5_readJoined_60 rfl rfl ?_
              refine ev_call dX5_readJoined_61 rfl rfl mr_5_65 rfl rfl rfl (k_skip (hR2.fine hft) haE) ?_
              rintro _ _ ⟨rfl, rfl⟩
              show Ev lyC (d + 1) hX5_readJoined 64 [some (.ref 35), some (.ref 1), some (.int (nI 0)), some (.int dep), some (.int 1), some (.int 0), some (.int (nI 62))] [] (ti_wr I2 1 2 (nI ((f s).1.2 + 1)), J, R) _
              refine ev_st dX5_readJoined_64 rfl rfl ?_
              refine ev_st dX5_readJoined_65 rfl rfl ?_
              refine ev_st dX5_readJoined_66 rfl rfl ?_
              refine ev_iconst (v := 1) dX5_readJoined_67 (by decide) ?_
              refine ev_iaddN (a := 0) (b := 1) (c := 1) dX5_readJoined_68 rfl rfl rfl ?_
              refine ev_st dX5_readJoined_69 rfl rfl ?_
              refine ev_call dX5_readJoined_70 rfl rfl mr_5_48 rfl rfl rfl (hC _ J R (true, (f s).1.2 + 1) _ _ hD (hR2.at hft (by omega)) (xC.add hS2 (by decide)) (by show _ ≤ (f s).1.2 + 1; omega)) ?_
              rintro _ _ ⟨rfl, I3, rfl, hx3, hR3, hS3⟩
              have hp3 : (f (true, (f s).1.2 + 1)).2.1.length + ((f s).1.2 + 1) ≤ (f (true, (f s).1.2 + 1)).1.2 := hp (true, (f s).1.2 + 1)
              have hle3 := hR3.le
              have hl3 : (C ++ (f s).2.1 ++ (f (true, (f s).1.2 + 1)).2.1).length + 1 ≤ (f (true, (f s).1.2 + 1)).1.2 := by rw [List.length_append]; omega
              show Ev lyC (d + 1) hX5_readJoined 73 [some (.ref 35), some (.ref 1), some (.int (nI 0)), some (.int dep), some (.int 1), some (.int 0), some (.int (nI 62))] [] (I3, J, R) _
              refine ev_st dX5_readJoined_73 rfl rfl ?_
              refine ev_sipush (v := 2000) dX5_readJoined_74 (by decide) ?_
              refine ev_st dX5_readJoined_77 rfl rfl ?_
              refine ev_iaddN (a := 2000) (b := 62) (c := 2062) dX5_readJoined_79 rfl rfl rfl ?_
              refine ev_call dX5_readJoined_80 rfl rfl mr_5_68 rfl rfl rfl (k_add1_35 hS3.1 (by omega) _) ?_
              rintro _ _ ⟨rfl, rfl⟩
              show Ev lyC (d + 1) hX5_readJoined 83 [some (.ref 35), some (.ref 1), some (.int (nI 0)), some (.int dep), some (.int 1), some (.int 0), some (.int (nI 62))] [] (ti_wr (ti_wr I3 36 ((C ++ (f s).2.1 ++ (f (true, (f s).1.2 + 1)).2.1).length) (nI 2062)) 35 3 (nI ((C ++ (f s).2.1 ++ (f (true, (f s).1.2 + 1)).2.1).length + 1)), J, R) _
              refine ev_iinc (x := 0) (v := 1) (L' := [some (.ref 35), some (.ref 1), some (.int (nI 0)), some (.int dep), some (.int 1), some (.int 1), some (.int (nI 62))]) dX5_readJoined_83 rfl (by decide) rfl ?_
              refine ev_goto (t := 36) dX5_readJoined_86 (by decide) ?_
              refine ev_st dX5_readJoined_36 rfl rfl ?_
              refine ev_st dX5_readJoined_38 rfl rfl ?_
              refine ev_ic_geN (t := 89) (a := 1) (b := 1) dX5_readJoined_40 (by decide) rfl rfl (by omega) (by omega) (fun c_40' => ?_) (fun c_40' => ?_)
              · exact ev_vret dX5_readJoined_89 rfl (⟨rfl, _, rfl, ((hx2.x xC.rf.w).tr hx3).add, by rw [hg]; exact hR3.add (by decide), by rw [hg, gJ_app ht]; exact hS3.add⟩)
              · omega
        · have hn62 := hk
          clear hk
          by_cases hk : pk t E (f s).1 = nI 61
          · skip
            have hft := (pkS_eq (by decide) hR2.t hk).1
            have haE := (pkS_eq (by decide) hR2.t hk).2.1
            have ht := (pkS_eq (by decide) hR2.t hk).2.2
            have hg : gE t E f s = gJ t f (f s) := by unfold gE; exact if_pos (Or.inr (Or.inr hk))
            refine ev_st dX5_readJoined_36 rfl rfl ?_
            refine ev_st dX5_readJoined_38 rfl rfl ?_
            refine ev_ic_geN (t := 89) (a := 0) (b := 1) dX5_readJoined_40 (by decide) rfl rfl (by omega) (by omega) (fun c_40 => ?_) (fun c_40 => ?_)
            · omega
            · refine ev_st dX5_readJoined_43 rfl rfl ?_
              refine ev_call dX5_readJoined_44 rfl rfl mr_5_59 rfl rfl rfl (k_peek hR2) ?_
              rintro _ _ ⟨e1, rfl⟩
              rw [hk] at e1
              subst e1
              show Ev lyC (d + 1) hX5_readJoined 47 [some (.ref 35), some (.ref 1), some (.int (nI 0)), some (.int dep), some (.int 1), some (.int 0), none] [.int (nI 61)] (I2, J, R) _
              refine ev_call dX5_readJoined_47 rfl rfl mr_5_62 rfl rfl rfl (k_lev (c := 61) (l := 0) (by decide) rfl) ?_
              rintro _ _ ⟨rfl, rfl⟩
              show Ev lyC (d + 1) hX5_readJoined 50 [some (.ref 35), some (.ref 1), some (.int (nI 0)), some (.int dep), some (.int 1), some (.int 0), none] [.int (nI 0)] (I2, J, R) _
              refine ev_st dX5_readJoined_50 rfl rfl ?_
              refine ev_ic_neN (t := 89) (a := 0) (b := 0) dX5_readJoined_51 (by decide) rfl rfl (by omega) (by omega) (fun c_51 => ?_) (fun c_51 => ?_)
              · omega
              · refine ev_st dX5_readJoined_54 rfl rfl ?_
                refine ev_call dX5_readJoined_55 rfl rfl mr_5_59 rfl rfl rfl (k_peek hR2) ?_
                rintro _ _ ⟨e1, rfl⟩
                rw [hk] at e1
                subst e1
                show Ev lyC (d + 1) hX5_readJoined 58 [some (.ref 35), some (.ref 1), some (.int (nI 0)), some (.int dep), some (.int 1), some (.int 0), none] [.int (nI 61)] (I2, J, R) _
                refine ev_st (L' := [some (.ref 35), some (.ref 1), some (.int (nI 0)), some (.int dep), some (.int 1), some (.int 0), some (.int (nI 61))]) dX5_readJoined_58 rfl rfl ?_
                refine ev_st dX5_readJoined_60 rfl rfl ?_
                refine ev_call dX5_readJoined_61 rfl rfl mr_5_65 rfl rfl rfl (k_skip (hR2.fine hft) haE) ?_
                rintro _ _ ⟨rfl, rfl⟩
                show Ev lyC (d + 1) hX5_readJoined 64 [some (.ref 35), some (.ref 1), some (.int (nI 0)), some (.int dep), some (.int 1), some (.int 0), some (.int (nI 61))] [] (ti_wr I2 1 2 (nI ((f s).1.2 + 1)), J, R) _
                refine ev_st dX5_readJoined_64 rfl rfl ?_
                refine ev_st dX5_readJoined_65 rfl rfl ?_
                refine ev_st dX5_readJoined_66 rfl rfl ?_
                refine ev_iconst (v := 1) dX5_readJoined_67 (by decide) ?_
                refine ev_iaddN (a := 0) (b := 1) (c := 1) dX5_readJoined_68 rfl rfl rfl ?_
                refine ev_st dX5_readJoined_69 rfl rfl ?_
                refine ev_call dX5_readJoined_70 rfl rfl mr_5_48 rfl rfl rfl (hC _ J R (true, (f s).1.2 + 1) _ _ hD (hR2.at hft (by omega)) (xC.add hS2 (by decide)) (by show _ ≤ (f s).1.2 + 1; omega)) ?_
                rintro _ _ ⟨rfl, I3, rfl, hx3, hR3, hS3⟩
                have hp3 : (f (true, (f s).1.2 + 1)).2.1.length + ((f s).1.2 + 1) ≤ (f (true, (f s).1.2 + 1)).1.2 := hp (true, (f s).1.2 + 1)
                have hle3 := hR3.le
                have hl3 : (C ++ (f s).2.1 ++ (f (true, (f s).1.2 + 1)).2.1).length + 1 ≤ (f (true, (f s).1.2 + 1)).1.2 := by rw [List.length_append]; omega
                show Ev lyC (d + 1) hX5_readJoined 73 [some (.ref 35), some (.ref 1), some (.int (nI 0)), some (.int dep), some (.int 1), some (.int 0), some (.int (nI 61))] [] (I3, J, R) _
                refine ev_st dX5_readJoined_73 rfl rfl ?_
                refine ev_sipush (v := 2000) dX5_readJoined_74 (by decide) ?_
                refine ev_st dX5_readJoined_77 rfl rfl ?_
                refine ev_iaddN (a := 2000) (b := 61) (c := 2061) dX5_readJoined_79 rfl rfl rfl ?_
                refine ev_call dX5_readJoined_80 rfl rfl mr_5_68 rfl rfl rfl (k_add1_35 hS3.1 (by omega) _) ?_
                rintro _ _ ⟨rfl, rfl⟩
                show Ev lyC (d + 1) hX5_readJoined 83 [some (.ref 35), some (.ref 1), some (.int (nI 0)), some (.int dep), some (.int 1), some (.int 0), some (.int (nI 61))] [] (ti_wr (ti_wr I3 36 ((C ++ (f s).2.1 ++ (f (true, (f s).1.2 + 1)).2.1).length) (nI 2061)) 35 3 (nI ((C ++ (f s).2.1 ++ (f (true, (f s).1.2 + 1)).2.1).length + 1)), J, R) _
                refine ev_iinc (x := 0) (v := 1) (L' := [some (.ref 35), some (.ref 1), some (.int (nI 0)), some (.int dep), some (.int 1), some (.int 1), some (.int (nI 61))]) dX5_readJoined_83 rfl (by decide) rfl ?_
                refine ev_goto (t := 36) dX5_readJoined_86 (by decide) ?_
                refine ev_st dX5_readJoined_36 rfl rfl ?_
                refine ev_st dX5_readJoined_38 rfl rfl ?_
                refine ev_ic_geN (t := 89) (a := 1) (b := 1) dX5_readJoined_40 (by decide) rfl rfl (by omega) (by omega) (fun c_40' => ?_) (fun c_40' => ?_)
                · exact ev_vret dX5_readJoined_89 rfl (⟨rfl, _, rfl, ((hx2.x xC.rf.w).tr hx3).add, by rw [hg]; exact hR3.add (by decide), by rw [hg, gJ_app ht]; exact hS3.add⟩)
                · omega
          · have hn61 := hk
            clear hk
            have hg : gE t E f s = f s := by unfold gE; exact if_neg (fun q => q.elim hn60 (fun q => q.elim hn62 hn61))
            have hle7 := @lvS_le t E (f s).1
            have hne : ¬ lvS t E (f s).1 = 0 := fun q => (lvS_0 q).elim hn60 (fun q => q.elim hn62 hn61)
            refine ev_st dX5_readJoined_36 rfl rfl ?_
            refine ev_st dX5_readJoined_38 rfl rfl ?_
            refine ev_ic_geN (t := 89) (a := 0) (b := 1) dX5_readJoined_40 (by decide) rfl rfl (by omega) (by omega) (fun c_40 => ?_) (fun c_40 => ?_)
            · omega
            · refine ev_st dX5_readJoined_43 rfl rfl ?_
              refine ev_call dX5_readJoined_44 rfl rfl mr_5_59 rfl rfl rfl (k_peek hR2) ?_
              rintro _ _ ⟨e1, rfl⟩
              subst e1
              show Ev lyC (d + 1) hX5_readJoined 47 [some (.ref 35), some (.ref 1), some (.int (nI 0)), some (.int dep), some (.int 1), some (.int 0), none] [.int (pk t E (f s).1)] (I2, J, R) _
              refine ev_call dX5_readJoined_47 rfl rfl mr_5_62 rfl rfl rfl (k_levS hR2.t) ?_
              rintro _ _ ⟨rfl, rfl⟩
              show Ev lyC (d + 1) hX5_readJoined 50 [some (.ref 35), some (.ref 1), some (.int (nI 0)), some (.int dep), some (.int 1), some (.int 0), none] [.int (nI (lvS t E (f s).1))] (I2, J, R) _
              refine ev_st dX5_readJoined_50 rfl rfl ?_
              refine ev_ic_neN (t := 89) (a := lvS t E (f s).1) (b := 0) dX5_readJoined_51 (by decide) rfl rfl (by omega) (by omega) (fun c_51 => ?_) (fun c_51 => ?_)
              · exact ev_vret dX5_readJoined_89 rfl (⟨rfl, _, rfl, hx2, by rw [hg]; exact hR2, by rw [hg]; exact hS2⟩)
              · exact absurd c_51 hne
  · omega
theorem k_rE_35 {t : Nat → Nat} {E N : Nat} (hE : E ≤ 40) : ∀ r, r ≤ 4 → kRj 0 35 (nI (4 - r)) (13 * r + 13) t E N (rE t E r)
  | 0, _ => k_expr_35 (k_sum_35 (k_prod_35 (k_lev3_35 (k_thing0_35 hE)) (pay_gT (fun g e => by cases e)) hE) (pay_gP (pay_gT (fun g e => by cases e))) hE) (pay_gU (pay_gP (pay_gT (fun g e => by cases e)))) hE
  | r + 1, hr => by
    have h := k_rE_35 (t := t) (N := N) hE r (by omega)
    rw [show 4 - r = 4 - (r + 1) + 1 by omega] at h
    have hq : ∀ g, some (rE t E r) = some g → pay g := fun g e => by cases e; exact pay_rE r
    exact k_expr_35 (k_sum_35 (k_prod_35 (k_lev3_35 (k_thing1_35 hE (by omega) (pay_rE r) h)) (pay_gT hq) hE) (pay_gP (pay_gT hq)) hE) (pay_gU (pay_gP (pay_gT hq))) hE
