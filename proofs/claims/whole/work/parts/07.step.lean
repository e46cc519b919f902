/-! a step of the small machine, taken apart -/
theorem ti_u_inv {f : Int32 → Value} {pc : Nat} {L : TL} {st : List Value} {M : TM} {pc' : Nat} {L' : TL} {st' : List Value} {M' : TM} (h : ti_u f pc L st M = some (pc', L', st', M')) : ∃ x r, st = .int x :: r ∧ pc' = pc + 1 ∧ L' = L ∧ st' = f x :: r ∧ M' = M := by
  unfold ti_u at h
  split at h
  · cases h; exact ⟨_, _, rfl, rfl, rfl, rfl, rfl⟩
  · cases h
theorem ti_b_inv {f : Int32 → Int32 → Option Int32} {pc : Nat} {L : TL} {st : List Value} {M : TM} {pc' : Nat} {L' : TL} {st' : List Value} {M' : TM} (h : ti_b f pc L st M = some (pc', L', st', M')) : ∃ x y r z, st = .int y :: .int x :: r ∧ f x y = some z ∧ pc' = pc + 1 ∧ L' = L ∧ st' = .int z :: r ∧ M' = M := by
  unfold ti_b at h
  split at h
  · obtain ⟨z, hz, he⟩ := Option.map_eq_some_iff.mp h
    cases he
    exact ⟨_, _, _, z, rfl, hz, rfl, rfl, rfl, rfl⟩
  · cases h
theorem ti_bl_inv {f : Int64 → Int64 → Option Value} {pc : Nat} {L : TL} {st : List Value} {M : TM} {pc' : Nat} {L' : TL} {st' : List Value} {M' : TM} (h : ti_bl f pc L st M = some (pc', L', st', M')) : ∃ x y r z, st = .long y :: .long x :: r ∧ f x y = some z ∧ pc' = pc + 1 ∧ L' = L ∧ st' = z :: r ∧ M' = M := by
  unfold ti_bl at h
  split at h
  · obtain ⟨z, hz, he⟩ := Option.map_eq_some_iff.mp h
    cases he
    exact ⟨_, _, _, z, rfl, hz, rfl, rfl, rfl, rfl⟩
  · cases h
theorem ti_li_inv {k pc : Nat} {L : TL} {st : List Value} {M : TM} {pc' : Nat} {L' : TL} {st' : List Value} {M' : TM} (h : ti_li k pc L st M = some (pc', L', st', M')) : ∃ x, L[k]? = some (some (.int x)) ∧ pc' = pc ∧ L' = L ∧ st' = .int x :: st ∧ M' = M := by
  unfold ti_li at h
  split at h
  · rename_i x hx; cases h; exact ⟨x, hx, rfl, rfl, rfl, rfl⟩
  · cases h
theorem ti_la_inv {k pc : Nat} {L : TL} {st : List Value} {M : TM} {pc' : Nat} {L' : TL} {st' : List Value} {M' : TM} (h : ti_la k pc L st M = some (pc', L', st', M')) : ∃ x, L[k]? = some (some (.ref x)) ∧ pc' = pc ∧ L' = L ∧ st' = .ref x :: st ∧ M' = M := by
  unfold ti_la at h
  split at h
  · rename_i x hx; cases h; exact ⟨x, hx, rfl, rfl, rfl, rfl⟩
  · cases h
theorem ti_ll_inv {k pc : Nat} {L : TL} {st : List Value} {M : TM} {pc' : Nat} {L' : TL} {st' : List Value} {M' : TM} (h : ti_ll k pc L st M = some (pc', L', st', M')) : ∃ x, L[k]? = some (some (.long x)) ∧ pc' = pc ∧ L' = L ∧ st' = .long x :: st ∧ M' = M := by
  unfold ti_ll at h
  split at h
  · rename_i x hx; cases h; exact ⟨x, hx, rfl, rfl, rfl, rfl⟩
  · cases h
theorem ti_si_inv {k pc : Nat} {L : TL} {st : List Value} {M : TM} {pc' : Nat} {L' : TL} {st' : List Value} {M' : TM} (h : ti_si k pc L st M = some (pc', L', st', M')) : ∃ x r, st = .int x :: r ∧ ti_st1 L k (.int x) = some L' ∧ pc' = pc ∧ st' = r ∧ M' = M := by
  unfold ti_si at h
  split at h
  · obtain ⟨z, hz, he⟩ := Option.map_eq_some_iff.mp h
    cases he
    exact ⟨_, _, rfl, hz, rfl, rfl, rfl⟩
  · cases h
theorem ti_sa_inv {k pc : Nat} {L : TL} {st : List Value} {M : TM} {pc' : Nat} {L' : TL} {st' : List Value} {M' : TM} (h : ti_sa k pc L st M = some (pc', L', st', M')) : ∃ x r, st = .ref x :: r ∧ ti_st1 L k (.ref x) = some L' ∧ pc' = pc ∧ st' = r ∧ M' = M := by
  unfold ti_sa at h
  split at h
  · obtain ⟨z, hz, he⟩ := Option.map_eq_some_iff.mp h
    cases he
    exact ⟨_, _, rfl, hz, rfl, rfl, rfl⟩
  · cases h
theorem ti_sl_inv {k pc : Nat} {L : TL} {st : List Value} {M : TM} {pc' : Nat} {L' : TL} {st' : List Value} {M' : TM} (h : ti_sl k pc L st M = some (pc', L', st', M')) : ∃ x r, st = .long x :: r ∧ ti_st2 L k (.long x) = some L' ∧ pc' = pc ∧ st' = r ∧ M' = M := by
  unfold ti_sl at h
  split at h
  · obtain ⟨z, hz, he⟩ := Option.map_eq_some_iff.mp h
    cases he
    exact ⟨_, _, rfl, hz, rfl, rfl, rfl⟩
  · cases h
theorem ti_al_inv {lay : List TE} {ks : List Nat} {pc : Nat} {L : TL} {st : List Value} {M : TM} {pc' : Nat} {L' : TL} {st' : List Value} {M' : TM} (h : ti_al lay ks pc L st M = some (pc', L', st', M')) : ∃ i p r kd n, st = .int i :: .ref p :: r ∧ lay[p]? = some (.inr (.inl (kd, n))) ∧ ks.contains kd = true ∧ vp_in i n ∧ pc' = pc + 1 ∧ L' = L ∧ st' = (if kd = 4 then .long (M.2.1 p i.toNatClampNeg) else .int (M.1 p i.toNatClampNeg)) :: r ∧ M' = M := by
  unfold ti_al at h
  split at h
  · split at h
    · rename_i hp
      split at h
      · rename_i hc
        cases h
        exact ⟨_, _, _, _, _, rfl, hp, hc.1, fun q => q.elim (fun a => absurd a (Int32.not_lt.mpr hc.2.1)) (fun a => absurd hc.2.2 (Nat.not_lt.mpr a)), rfl, rfl, rfl, rfl⟩
      · cases h
    · cases h
  · cases h
theorem ti_aa_inv {lay : List TE} {pc : Nat} {L : TL} {st : List Value} {M : TM} {pc' : Nat} {L' : TL} {st' : List Value} {M' : TM} (h : ti_aa lay pc L st M = some (pc', L', st', M')) : ∃ i p r qs q, st = .int i :: .ref p :: r ∧ lay[p]? = some (.inr (.inr qs)) ∧ qs[i.toNatClampNeg]? = some q ∧ vp_in i qs.length ∧ pc' = pc + 1 ∧ L' = L ∧ st' = .ref q :: r ∧ M' = M := by
  unfold ti_aa at h
  split at h
  · split at h
    · rename_i hp
      split at h
      · rename_i hc
        obtain ⟨q, hq, he⟩ := Option.map_eq_some_iff.mp h
        cases he
        exact ⟨_, _, _, _, _, rfl, hp, hq, fun z => z.elim (fun a => absurd a (Int32.not_lt.mpr hc)) (fun a => absurd (List.getElem?_eq_some_iff.mp hq).1 (Nat.not_lt.mpr a)), rfl, rfl, rfl, rfl⟩
      · cases h
    · cases h
  · cases h
theorem ti_as_inv {lay : List TE} {ks : List Nat} {pc : Nat} {L : TL} {st : List Value} {M : TM} {pc' : Nat} {L' : TL} {st' : List Value} {M' : TM} (h : ti_as lay ks pc L st M = some (pc', L', st', M')) : ∃ x i p r kd n, st = .int x :: .int i :: .ref p :: r ∧ lay[p]? = some (.inr (.inl (kd, n))) ∧ ks.contains kd = true ∧ vp_in i n ∧ pc' = pc + 1 ∧ L' = L ∧ st' = r ∧ M' = (ti_wr M.1 p i.toNatClampNeg (ti_nar kd x), M.2.1, M.2.2) := by
  unfold ti_as at h
  split at h
  · split at h
    · rename_i hp
      split at h
      · rename_i hc
        cases h
        exact ⟨_, _, _, _, _, _, rfl, hp, hc.1, fun q => q.elim (fun a => absurd a (Int32.not_lt.mpr hc.2.1)) (fun a => absurd hc.2.2 (Nat.not_lt.mpr a)), rfl, rfl, rfl, rfl⟩
      · cases h
    · cases h
  · cases h
theorem ti_als_inv {lay : List TE} {pc : Nat} {L : TL} {st : List Value} {M : TM} {pc' : Nat} {L' : TL} {st' : List Value} {M' : TM} (h : ti_als lay pc L st M = some (pc', L', st', M')) : ∃ x i p r n, st = .long x :: .int i :: .ref p :: r ∧ lay[p]? = some (.inr (.inl (4, n))) ∧ vp_in i n ∧ pc' = pc + 1 ∧ L' = L ∧ st' = r ∧ M' = (M.1, ti_wl M.2.1 p i.toNatClampNeg x, M.2.2) := by
  unfold ti_als at h
  split at h
  · split at h
    · rename_i hp
      split at h
      · rename_i hc
        cases h
        obtain ⟨rfl, h2, h3⟩ := hc
        exact ⟨_, _, _, _, _, rfl, hp, fun q => q.elim (fun a => absurd a (Int32.not_lt.mpr h2)) (fun a => absurd h3 (Nat.not_lt.mpr a)), rfl, rfl, rfl, rfl⟩
      · cases h
    · cases h
  · cases h
theorem ti_len_inv {lay : List TE} {pc : Nat} {L : TL} {st : List Value} {M : TM} {pc' : Nat} {L' : TL} {st' : List Value} {M' : TM} (h : ti_len lay pc L st M = some (pc', L', st', M')) : ∃ p r kd n, st = .ref p :: r ∧ lay[p]? = some (.inr (.inl (kd, n))) ∧ kd < 5 ∧ pc' = pc + 1 ∧ L' = L ∧ st' = .int (Int32.ofNat n) :: r ∧ M' = M := by
  unfold ti_len at h
  split at h
  · split at h
    · rename_i hp
      split at h
      · rename_i h5
        cases h
        exact ⟨_, _, _, _, rfl, hp, h5, rfl, rfl, rfl, rfl⟩
      · cases h
    · cases h
  · cases h
theorem ti_gf_inv {lay : List TE} {o idx pc : Nat} {L : TL} {st : List Value} {M : TM} {pc' : Nat} {L' : TL} {st' : List Value} {M' : TM} (h : ti_gf lay o idx pc L st M = some (pc', L', st', M')) : ∃ p r ci k kd fds fd, st = .ref p :: r ∧ ti_fr o idx = some (ci, k, kd) ∧ lay[p]? = some (.inl (ci, fds)) ∧ fds[k]? = some fd ∧ pc' = pc + 3 ∧ L' = L ∧ st' = ti_fv M p k fd :: r ∧ M' = M := by
  unfold ti_gf at h
  split at h
  · split at h
    · rename_i h1 h2
      split at h
      · rename_i hc
        subst hc
        obtain ⟨fd, hq, he⟩ := Option.map_eq_some_iff.mp h
        cases he
        exact ⟨_, _, _, _, _, _, fd, rfl, h1, h2, hq, rfl, rfl, rfl, rfl⟩
      · cases h
    · cases h
  · cases h
theorem ti_pf_inv {lay : List TE} {o idx pc : Nat} {L : TL} {st : List Value} {M : TM} {pc' : Nat} {L' : TL} {st' : List Value} {M' : TM} (h : ti_pf lay o idx pc L st M = some (pc', L', st', M')) :
    (∃ x p r ci k kd fds z, st = .int x :: .ref p :: r ∧ ti_fr o idx = some (ci, k, kd) ∧ lay[p]? = some (.inl (ci, fds)) ∧ fds[k]? = some (0, z) ∧ (kd = 0 ∨ kd = 1 ∧ (x = 0 ∨ x = 1)) ∧ pc' = pc + 3 ∧ L' = L ∧ st' = r ∧ M' = (ti_wr M.1 p k x, M.2.1, M.2.2)) ∨
    (∃ q p r ci k kd fds z, st = .ref q :: .ref p :: r ∧ ti_fr o idx = some (ci, k, kd) ∧ lay[p]? = some (.inl (ci, fds)) ∧ fds[k]? = some (2, z) ∧ kd = 3 ∧ pc' = pc + 3 ∧ L' = L ∧ st' = r ∧ M' = (M.1, M.2.1, ti_wf M.2.2 p k (.ref q))) := by
  unfold ti_pf at h
  split at h
  · split at h
    · rename_i h1 h2
      split at h
      · rename_i hz
        split at h
        · rename_i hc
          cases h
          obtain ⟨rfl, h3⟩ := hc
          exact Or.inl ⟨_, _, _, _, _, _, _, _, rfl, h1, h2, hz, h3, rfl, rfl, rfl, rfl⟩
        · cases h
      · cases h
    · cases h
  · split at h
    · rename_i h1 h2
      split at h
      · rename_i hz
        split at h
        · rename_i hc
          cases h
          obtain ⟨rfl, h3⟩ := hc
          exact Or.inr ⟨_, _, _, _, _, _, _, _, rfl, h1, h2, hz, h3, rfl, rfl, rfl, rfl⟩
        · cases h
      · cases h
    · cases h
  · cases h
theorem ti_jmp_inv {pc : Nat} {off : Int} {t : Nat} (h : ti_jmp pc off = some t) : (pc : Int) + off = (t : Int) := by
  unfold ti_jmp at h
  split at h
  · cases h; omega
  · cases h
theorem ti_ic_inv {c : ClassFile.Cond} {off : Int} {pc : Nat} {L : TL} {st : List Value} {M : TM} {pc' : Nat} {L' : TL} {st' : List Value} {M' : TM} (h : ti_ic c off pc L st M = some (pc', L', st', M')) : ∃ (x y : Int32) (r : List Value) (t : Nat), st = .int y :: .int x :: r ∧ (pc : Int) + off = (t : Int) ∧ pc' = (if ti_cnd c x y = true then t else pc + 3) ∧ L' = L ∧ st' = r ∧ M' = M := by
  unfold ti_ic at h
  split at h
  · split at h
    · rename_i ht
      cases h
      exact ⟨_, _, _, _, rfl, ti_jmp_inv ht, rfl, rfl, rfl, rfl⟩
    · cases h
  · cases h
theorem ti_if_inv {c : ClassFile.Cond} {off : Int} {pc : Nat} {L : TL} {st : List Value} {M : TM} {pc' : Nat} {L' : TL} {st' : List Value} {M' : TM} (h : ti_if c off pc L st M = some (pc', L', st', M')) : ∃ (x : Int32) (r : List Value) (t : Nat), st = .int x :: r ∧ (pc : Int) + off = (t : Int) ∧ pc' = (if ti_cnd c x 0 = true then t else pc + 3) ∧ L' = L ∧ st' = r ∧ M' = M := by
  unfold ti_if at h
  split at h
  · split at h
    · rename_i ht
      cases h
      exact ⟨_, _, _, rfl, ti_jmp_inv ht, rfl, rfl, rfl, rfl⟩
    · cases h
  · cases h
theorem ti_ts_inv {dflt lo hi : Int} {offs : Array Int} {pc : Nat} {L : TL} {st : List Value} {M : TM} {pc' : Nat} {L' : TL} {st' : List Value} {M' : TM} (h : ti_ts dflt lo hi offs pc L st M = some (pc', L', st', M')) : ∃ x r, st = .int x :: r ∧ (((x.toInt < lo ∨ hi < x.toInt) ∧ (pc : Int) + dflt = (pc' : Int)) ∨ (¬ x.toInt < lo ∧ ¬ hi < x.toInt ∧ ∃ off, offs[(x.toInt - lo).toNat]? = some off ∧ (pc : Int) + off = (pc' : Int))) ∧ L' = L ∧ st' = r ∧ M' = M := by
  unfold ti_ts at h
  split at h
  · split at h
    · rename_i hc
      obtain ⟨t, ht, he⟩ := Option.map_eq_some_iff.mp h
      cases he
      exact ⟨_, _, rfl, Or.inl ⟨hc, ti_jmp_inv ht⟩, rfl, rfl, rfl⟩
    · rename_i hc
      split at h
      · rename_i off ho
        obtain ⟨t, ht, he⟩ := Option.map_eq_some_iff.mp h
        cases he
        exact ⟨_, _, rfl, Or.inr ⟨fun q => hc (Or.inl q), fun q => hc (Or.inr q), off, ho, ti_jmp_inv ht⟩, rfl, rfl, rfl⟩
      · cases h
  · cases h
theorem ti_ls_inv {dflt : Int} {ps : Array (Int × Int)} {pc : Nat} {L : TL} {st : List Value} {M : TM} {pc' : Nat} {L' : TL} {st' : List Value} {M' : TM} (h : ti_ls dflt ps pc L st M = some (pc', L', st', M')) : ∃ x r, st = .int x :: r ∧ (ps.toList.zip (ps.toList.drop 1)).all (fun (a, next) => a.1 < next.1) = true ∧ (pc : Int) + Op.lookupswitch.offset ps.toList dflt x.toInt = (pc' : Int) ∧ L' = L ∧ st' = r ∧ M' = M := by
  unfold ti_ls at h
  split at h
  · split at h
    · rename_i hc
      obtain ⟨t, ht, he⟩ := Option.map_eq_some_iff.mp h
      cases he
      exact ⟨_, _, rfl, hc, ti_jmp_inv ht, rfl, rfl, rfl⟩
    · cases h
  · cases h
