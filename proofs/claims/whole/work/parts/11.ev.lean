/-! runs of the small machine, goal first -/
theorem ti_step_no {lay : List TE} {o : Nat} {i : Instr} {pc : Nat} {L : TL} {st : List Value} {M : TM} {x : Nat × TL × List Value × TM} (rt : Option FieldType) (h : ti_step lay o i pc L st M = some x) : ti_inv i = none ∧ ti_ret rt i st = none := by
  cases i <;> first | exact ⟨rfl, rfl⟩ | (simp [ti_step] at h)
theorem ti_ret_no {rt : Option FieldType} {i : Instr} {st : List Value} {r : Option Value} (h : ti_ret rt i st = some r) : ti_inv i = none := by
  cases i <;> first | rfl | (simp [ti_ret] at h)
theorem ti_x_step {lay : List TE} {f d : Nat} {h : TH} {pc pc' len : Nat} {i : Instr} {L L' : TL} {st st' : List Value} {M M' : TM} (hd : decode h.2.1 pc = .ok (i, len)) (hk : ti_lk i len = true) (hs : ti_step lay h.1 i pc L st M = some (pc', L', st', M')) : ti_exec lay (f + 1) d h pc L st M = ti_exec lay f d h pc' L' st' M' := by
  obtain ⟨h1, h2⟩ := ti_step_no h.2.2 hs
  rw [ti_exec]
  simp only [hd, hk, if_true, h1, h2, hs]
theorem ti_x_ret {lay : List TE} {f d : Nat} {h : TH} {pc len : Nat} {i : Instr} {L : TL} {st : List Value} {M : TM} {r : Option Value} (hd : decode h.2.1 pc = .ok (i, len)) (hk : ti_lk i len = true) (hr : ti_ret h.2.2 i st = some r) : ti_exec lay (f + 1) d h pc L st M = some (r, M) := by
  have h1 := ti_ret_no hr
  rw [ti_exec]
  simp only [hd, hk, if_true, h1, hr]
theorem ti_x_bui {lay : List TE} {f d k b : Nat} {h : TH} {pc len : Nat} {i : Instr} {L : TL} {st st' : List Value} {M M' : TM} (hd : decode h.2.1 pc = .ok (i, len)) (hk : ti_lk i len = true) (hi : ti_inv i = some (b == 4, k)) (hb : ti_br h.1 k = some b) (h8 : (b == 4) = false ∨ 8 ≤ d + 1) (hu : ti_bui lay b st M = some (st', M')) : ti_exec lay (f + 1) (d + 1) h pc L st M = ti_exec lay f (d + 1) h (pc + 3) L st' M' := by
  rw [ti_exec]
  simp only [hd, hk, if_true, hi, hb, hu]
  rw [if_pos ⟨trivial, h8⟩]
theorem ti_x_call {lay : List TE} {f d k kd mL n : Nat} {h h2 : TH} {y : MethodName} {vr : Bool} {pc len : Nat} {i : Instr} {L : TL} {st : List Value} {M M1 : TM} {r : Option Value} (hd : decode h.2.1 pc = .ok (i, len)) (hk : ti_lk i len = true) (hi : ti_inv i = some (vr, k)) (hb : ti_br h.1 k = none) (hm : ti_mr h.1 k = some (kd, h2, mL, n, y))
    (hc : vr = (kd == 0) ∧ n ≤ st.length ∧ ti_cat (st.drop n) ≤ 8 ∧ ti_oka (st.take n).reverse = true ∧ (ti_ent (st.take n).reverse).length ≤ mL ∧ ti_rcv lay kd h2.1 (st.take n).reverse = true) (hx : ti_exec lay f d h2 0 (ti_entry mL (st.take n).reverse) [] M = some (r, M1)) : ti_exec lay (f + 1) (d + 1) h pc L st M = ti_exec lay f (d + 1) h (pc + 3) L (r.toList ++ st.drop n) M1 := by
  rw [ti_exec]
  simp only [hd, hk, if_true, hi, hb, hm]
  rw [if_pos hc]
  simp only [hx]
theorem ti_br_mr {o k b : Nat} {tc : TC} (h1 : ti_br o k = some b) (h2 : ti_mr o k = some tc) : False := by
  have key : ∀ o, ((ti_brL.getD o []).all (fun e => ((ti_mrL.getD o []).find? (fun g => g.1 == e.1)).isNone)) = true := by
    intro o
    match o with
    | 0 => decide +kernel
    | 1 => decide +kernel
    | 2 => decide +kernel
    | 3 => decide +kernel
    | 4 => decide +kernel
    | 5 => decide +kernel
    | 6 => decide +kernel
    | 7 => decide +kernel
    | 8 => decide +kernel
    | 9 => decide +kernel
    | 10 => decide +kernel
    | 11 => decide +kernel
    | 12 => decide +kernel
    | 13 => decide +kernel
    | n + 14 => simp [ti_brL]
  obtain ⟨x, hx, -⟩ := Option.map_eq_some_iff.mp h1
  have h3 := List.all_eq_true.mp (key o) x (List.mem_of_find?_eq_some hx)
  have h4 : x.1 = k := by simpa using List.find?_some hx
  obtain ⟨z, hz, -⟩ := Option.map_eq_some_iff.mp h2
  rw [h4, hz] at h3
  cases h3
theorem ti_mono {lay : List TE} : ∀ (f d : Nat) (h : TH) (pc : Nat) (L : TL) (st : List Value) (M : TM) (r : Option Value) (M1 : TM), ti_exec lay f d h pc L st M = some (r, M1) → ∀ f' d', f ≤ f' → d ≤ d' → ti_exec lay f' d' h pc L st M = some (r, M1) := by
  intro f
  induction f with
  | zero =>
    intro d h pc L st M r M1 hx
    simp [ti_exec] at hx
  | succ f ih =>
    intro d h pc L st M r M1 hx f' d' hf hd'
    obtain ⟨g, rfl⟩ : ∃ g, f' = g + 1 := ⟨f' - 1, by omega⟩
    obtain ⟨i, len, hdec, hlen, hcase⟩ := ti_exec_inv hx
    rcases hcase with ⟨vr, k, d0, hi, rfl, hcall⟩ | ⟨hr, rfl⟩ | ⟨pc', L', st', M', hs, hx2⟩
    · obtain ⟨d1, rfl⟩ : ∃ d1, d' = d1 + 1 := ⟨d' - 1, by omega⟩
      rcases hcall with ⟨b, st', M', hbr, hvr, h8, hbu, hx2⟩ | ⟨kd, h2, mL, n, y, r1, M2, hmr, hc, hx1, hx2⟩
      · subst hvr
        rw [ti_x_bui hdec hlen hi hbr (h8.elim Or.inl (fun q => Or.inr (by omega))) hbu]
        exact ih _ _ _ _ _ _ _ _ hx2 _ _ (by omega) (by omega)
      · have hnb : ti_br h.1 k = none := by
          cases hq : ti_br h.1 k with
          | none => rfl
          | some b => exact (ti_br_mr hq hmr).elim
        rw [ti_x_call hdec hlen hi hnb hmr hc (ih _ _ _ _ _ _ _ _ hx1 g d1 (by omega) (by omega))]
        exact ih _ _ _ _ _ _ _ _ hx2 _ _ (by omega) (by omega)
    · exact ti_x_ret hdec hlen hr
    · rw [ti_x_step hdec hlen hs]
      exact ih _ _ _ _ _ _ _ _ hx2 _ _ (by omega) (by omega)
/-- from here the run comes to an end with Q -/
def Ev (lay : List TE) (d : Nat) (h : TH) (pc : Nat) (L : TL) (st : List Value) (M : TM) (Q : Option Value → TM → Prop) : Prop := ∃ f r M1, ti_exec lay f d h pc L st M = some (r, M1) ∧ Q r M1
/-- a method's contract -/
def Cal (lay : List TE) (d : Nat) (h : TH) (mL : Nat) (vs : List Value) (M : TM) (Q : Option Value → TM → Prop) : Prop := Ev lay d h 0 (ti_entry mL vs) [] M Q
def ti_ck (lay : List TE) (vr : Bool) (kd o2 mL n : Nat) (st : List Value) : Bool := (vr == (kd == 0)) && (Nat.ble n st.length && (Nat.ble (ti_cat (st.drop n)) 8 && (ti_oka (st.take n).reverse && (Nat.ble (ti_ent (st.take n).reverse).length mL && ti_rcv lay kd o2 (st.take n).reverse))))
theorem ti_ck_of {lay : List TE} {vr : Bool} {kd o2 mL n : Nat} {st : List Value} (h : ti_ck lay vr kd o2 mL n st = true) : vr = (kd == 0) ∧ n ≤ st.length ∧ ti_cat (st.drop n) ≤ 8 ∧ ti_oka (st.take n).reverse = true ∧ (ti_ent (st.take n).reverse).length ≤ mL ∧ ti_rcv lay kd o2 (st.take n).reverse = true := by
  simp only [ti_ck, Bool.and_eq_true] at h
  obtain ⟨h1, h2, h3, h4, h5, h6⟩ := h
  exact ⟨eq_of_beq h1, Nat.le_of_ble_eq_true h2, Nat.le_of_ble_eq_true h3, h4, Nat.le_of_ble_eq_true h5, h6⟩
section EVR
variable {lay : List TE} {d : Nat} {h : TH} {pc pc' len : Nat} {i : Instr} {L L' : TL} {st st' : List Value} {M M' : TM} {Q : Option Value → TM → Prop} {I : Nat → Nat → Int32} {J : Nat → Nat → Int64} {R : Nat → Nat → Value}
theorem Ev.mono {d' : Nat} (hd : d ≤ d') (k : Ev lay d h pc L st M Q) : Ev lay d' h pc L st M Q := by
  obtain ⟨f, r, M1, hx, hq⟩ := k
  exact ⟨f, r, M1, ti_mono _ _ _ _ _ _ _ _ _ hx _ _ (Nat.le_refl _) hd, hq⟩
theorem Cal.mono {d' mL : Nat} {vs : List Value} (hd : d ≤ d') (k : Cal lay d h mL vs M Q) : Cal lay d' h mL vs M Q := Ev.mono hd k
theorem Ev.imp {Q' : Option Value → TM → Prop} (k : Ev lay d h pc L st M Q) (hq : ∀ r M1, Q r M1 → Q' r M1) : Ev lay d h pc L st M Q' := by
  obtain ⟨f, r, M1, hx, h2⟩ := k
  exact ⟨f, r, M1, hx, hq _ _ h2⟩
theorem Cal.imp {mL : Nat} {vs : List Value} {Q' : Option Value → TM → Prop} (k : Cal lay d h mL vs M Q) (hq : ∀ r M1, Q r M1 → Q' r M1) : Cal lay d h mL vs M Q' := Ev.imp k hq
theorem ev_st (hd : decode h.2.1 pc = .ok (i, len)) (hk : ti_lk i len = true) (hs : ti_step lay h.1 i pc L st M = some (pc', L', st', M')) (k : Ev lay d h pc' L' st' M' Q) : Ev lay d h pc L st M Q := by
  obtain ⟨f, r, M1, hx, hq⟩ := k
  exact ⟨f + 1, r, M1, by rw [ti_x_step hd hk hs]; exact hx, hq⟩
theorem ev_ret {r : Option Value} (hd : decode h.2.1 pc = .ok (i, len)) (hk : ti_lk i len = true) (hr : ti_ret h.2.2 i st = some r) (hq : Q r M) : Ev lay d h pc L st M Q := ⟨1, r, M, ti_x_ret hd hk hr, hq⟩
theorem ev_bui {k b : Nat} (hd : decode h.2.1 pc = .ok (i, len)) (hk : ti_lk i len = true) (hi : ti_inv i = some (b == 4, k)) (hb : ti_br h.1 k = some b) (h8 : (b == 4) = false ∨ 8 ≤ d + 1) (hu : ti_bui lay b st M = some (st', M')) (kk : Ev lay (d + 1) h (pc + 3) L st' M' Q) : Ev lay (d + 1) h pc L st M Q := by
  obtain ⟨f, r, M1, hx, hq⟩ := kk
  exact ⟨f + 1, r, M1, by rw [ti_x_bui hd hk hi hb h8 hu]; exact hx, hq⟩
theorem ev_call {k kd mL n : Nat} {h2 : TH} {y : MethodName} {vr : Bool} {vs rest : List Value} {Q1 : Option Value → TM → Prop} (hd : decode h.2.1 pc = .ok (i, len)) (hk : ti_lk i len = true) (hi : ti_inv i = some (vr, k)) (hm : ti_mr h.1 k = some (kd, h2, mL, n, y)) (hc : ti_ck lay vr kd h2.1 mL n st = true) (hv : (st.take n).reverse = vs) (hr : st.drop n = rest)
    (kc : Cal lay d h2 mL vs M Q1) (kk : ∀ r M1, Q1 r M1 → Ev lay (d + 1) h (pc + 3) L (r.toList ++ rest) M1 Q) : Ev lay (d + 1) h pc L st M Q := by
  obtain ⟨f1, r1, M2, hx1, hq1⟩ := kc
  obtain ⟨f2, r, M1, hx2, hq⟩ := kk r1 M2 hq1
  subst hv; subst hr
  have hnb : ti_br h.1 k = none := by
    cases hq : ti_br h.1 k with
    | none => rfl
    | some b => exact (ti_br_mr hq hm).elim
  refine ⟨max f1 f2 + 1, r, M1, ?_, hq⟩
  rw [ti_x_call hd hk hi hnb hm (ti_ck_of hc) (ti_mono _ _ _ _ _ _ _ _ _ hx1 (max f1 f2) d (Nat.le_max_left _ _) (Nat.le_refl _))]
  exact ti_mono _ _ _ _ _ _ _ _ _ hx2 _ _ (Nat.le_max_right _ _) (Nat.le_refl _)
theorem ev_iconst {n : Int} {v : Int32} (hd : decode h.2.1 pc = .ok (.iconst n, 1)) (hv : Int32.ofInt n = v) (k : Ev lay d h (pc + 1) L (.int v :: st) M Q) : Ev lay d h pc L st M Q := ev_st hd rfl (by subst hv; rfl) k
theorem ev_bipush {n : Int} {v : Int32} (hd : decode h.2.1 pc = .ok (.bipush n, 2)) (hv : (Int8.ofInt n).toInt32 = v) (k : Ev lay d h (pc + 2) L (.int v :: st) M Q) : Ev lay d h pc L st M Q := ev_st hd rfl (by subst hv; rfl) k
theorem ev_sipush {n : Int} {v : Int32} (hd : decode h.2.1 pc = .ok (.sipush n, 3)) (hv : (Int16.ofInt n).toInt32 = v) (k : Ev lay d h (pc + 3) L (.int v :: st) M Q) : Ev lay d h pc L st M Q := ev_st hd rfl (by subst hv; rfl) k
theorem ev_lconst {n : Fin 2} {v : Int64} (hd : decode h.2.1 pc = .ok (.lconst n, 1)) (hv : Int64.ofNat n = v) (k : Ev lay d h (pc + 1) L (.long v :: st) M Q) : Ev lay d h pc L st M Q := ev_st hd rfl (by subst hv; rfl) k
theorem ev_goto {off : Int} {t : Nat} (hd : decode h.2.1 pc = .ok (.goto off, 3)) (ht : ti_jmp pc off = some t) (k : Ev lay d h t L st M Q) : Ev lay d h pc L st M Q := ev_st hd rfl (by simp only [ti_step, ht, Option.map_some]) k
theorem ev_if {c : ClassFile.Cond} {off : Int} {t : Nat} {x : Int32} (hd : decode h.2.1 pc = .ok (.ifCond c off, 3)) (ht : ti_jmp pc off = some t) (kt : ti_cnd c x 0 = true → Ev lay d h t L st M Q) (kf : ti_cnd c x 0 = false → Ev lay d h (pc + 3) L st M Q) : Ev lay d h pc L (.int x :: st) M Q := by
  cases hc : ti_cnd c x 0 with
  | true => exact ev_st (pc' := t) hd rfl (by simp [ti_step, ti_if, ht, hc]) (kt hc)
  | false => exact ev_st (pc' := pc + 3) hd rfl (by simp [ti_step, ti_if, ht, hc]) (kf hc)
theorem ev_ic {c : ClassFile.Cond} {off : Int} {t : Nat} {x y : Int32} (hd : decode h.2.1 pc = .ok (.if_icmp c off, 3)) (ht : ti_jmp pc off = some t) (kt : ti_cnd c x y = true → Ev lay d h t L st M Q) (kf : ti_cnd c x y = false → Ev lay d h (pc + 3) L st M Q) : Ev lay d h pc L (.int y :: .int x :: st) M Q := by
  cases hc : ti_cnd c x y with
  | true => exact ev_st (pc' := t) hd rfl (by simp [ti_step, ti_ic, ht, hc]) (kt hc)
  | false => exact ev_st (pc' := pc + 3) hd rfl (by simp [ti_step, ti_ic, ht, hc]) (kf hc)
theorem ev_if_eq {off : Int} {t : Nat} {x : Int32} (hd : decode h.2.1 pc = .ok (.ifCond .eq off, 3)) (ht : ti_jmp pc off = some t) (kt : x = 0 → Ev lay d h t L st M Q) (kf : ¬ x = 0 → Ev lay d h (pc + 3) L st M Q) : Ev lay d h pc L (.int x :: st) M Q := ev_if hd ht (fun q => kt (by simpa [ti_cnd] using q)) (fun q => kf (by simpa [ti_cnd] using q))
theorem ev_if_ne {off : Int} {t : Nat} {x : Int32} (hd : decode h.2.1 pc = .ok (.ifCond .ne off, 3)) (ht : ti_jmp pc off = some t) (kt : ¬ x = 0 → Ev lay d h t L st M Q) (kf : x = 0 → Ev lay d h (pc + 3) L st M Q) : Ev lay d h pc L (.int x :: st) M Q := ev_if hd ht (fun q => kt (by simpa [ti_cnd] using q)) (fun q => kf (by simpa [ti_cnd] using q))
theorem ev_if_lt {off : Int} {t : Nat} {x : Int32} (hd : decode h.2.1 pc = .ok (.ifCond .lt off, 3)) (ht : ti_jmp pc off = some t) (kt : x < 0 → Ev lay d h t L st M Q) (kf : ¬ x < 0 → Ev lay d h (pc + 3) L st M Q) : Ev lay d h pc L (.int x :: st) M Q := ev_if hd ht (fun q => kt (by simpa [ti_cnd] using q)) (fun q => kf (by simpa [ti_cnd] using q))
theorem ev_if_ge {off : Int} {t : Nat} {x : Int32} (hd : decode h.2.1 pc = .ok (.ifCond .ge off, 3)) (ht : ti_jmp pc off = some t) (kt : ¬ x < 0 → Ev lay d h t L st M Q) (kf : x < 0 → Ev lay d h (pc + 3) L st M Q) : Ev lay d h pc L (.int x :: st) M Q := ev_if hd ht (fun q => kt (by simpa [ti_cnd] using q)) (fun q => kf (by simpa [ti_cnd] using q))
theorem ev_if_gt {off : Int} {t : Nat} {x : Int32} (hd : decode h.2.1 pc = .ok (.ifCond .gt off, 3)) (ht : ti_jmp pc off = some t) (kt : 0 < x → Ev lay d h t L st M Q) (kf : ¬ 0 < x → Ev lay d h (pc + 3) L st M Q) : Ev lay d h pc L (.int x :: st) M Q := ev_if hd ht (fun q => kt (by simpa [ti_cnd] using q)) (fun q => kf (by simpa [ti_cnd] using q))
theorem ev_if_le {off : Int} {t : Nat} {x : Int32} (hd : decode h.2.1 pc = .ok (.ifCond .le off, 3)) (ht : ti_jmp pc off = some t) (kt : ¬ 0 < x → Ev lay d h t L st M Q) (kf : 0 < x → Ev lay d h (pc + 3) L st M Q) : Ev lay d h pc L (.int x :: st) M Q := ev_if hd ht (fun q => kt (by simpa [ti_cnd] using q)) (fun q => kf (by simpa [ti_cnd] using q))
theorem ev_ic_eq {off : Int} {t : Nat} {x y : Int32} (hd : decode h.2.1 pc = .ok (.if_icmp .eq off, 3)) (ht : ti_jmp pc off = some t) (kt : x = y → Ev lay d h t L st M Q) (kf : ¬ x = y → Ev lay d h (pc + 3) L st M Q) : Ev lay d h pc L (.int y :: .int x :: st) M Q := ev_ic hd ht (fun q => kt (by simpa [ti_cnd] using q)) (fun q => kf (by simpa [ti_cnd] using q))
theorem ev_ic_ne {off : Int} {t : Nat} {x y : Int32} (hd : decode h.2.1 pc = .ok (.if_icmp .ne off, 3)) (ht : ti_jmp pc off = some t) (kt : ¬ x = y → Ev lay d h t L st M Q) (kf : x = y → Ev lay d h (pc + 3) L st M Q) : Ev lay d h pc L (.int y :: .int x :: st) M Q := ev_ic hd ht (fun q => kt (by simpa [ti_cnd] using q)) (fun q => kf (by simpa [ti_cnd] using q))
theorem ev_ic_lt {off : Int} {t : Nat} {x y : Int32} (hd : decode h.2.1 pc = .ok (.if_icmp .lt off, 3)) (ht : ti_jmp pc off = some t) (kt : x < y → Ev lay d h t L st M Q) (kf : ¬ x < y → Ev lay d h (pc + 3) L st M Q) : Ev lay d h pc L (.int y :: .int x :: st) M Q := ev_ic hd ht (fun q => kt (by simpa [ti_cnd] using q)) (fun q => kf (by simpa [ti_cnd] using q))
theorem ev_ic_ge {off : Int} {t : Nat} {x y : Int32} (hd : decode h.2.1 pc = .ok (.if_icmp .ge off, 3)) (ht : ti_jmp pc off = some t) (kt : ¬ x < y → Ev lay d h t L st M Q) (kf : x < y → Ev lay d h (pc + 3) L st M Q) : Ev lay d h pc L (.int y :: .int x :: st) M Q := ev_ic hd ht (fun q => kt (by simpa [ti_cnd] using q)) (fun q => kf (by simpa [ti_cnd] using q))
theorem ev_ic_gt {off : Int} {t : Nat} {x y : Int32} (hd : decode h.2.1 pc = .ok (.if_icmp .gt off, 3)) (ht : ti_jmp pc off = some t) (kt : y < x → Ev lay d h t L st M Q) (kf : ¬ y < x → Ev lay d h (pc + 3) L st M Q) : Ev lay d h pc L (.int y :: .int x :: st) M Q := ev_ic hd ht (fun q => kt (by simpa [ti_cnd] using q)) (fun q => kf (by simpa [ti_cnd] using q))
theorem ev_ic_le {off : Int} {t : Nat} {x y : Int32} (hd : decode h.2.1 pc = .ok (.if_icmp .le off, 3)) (ht : ti_jmp pc off = some t) (kt : ¬ y < x → Ev lay d h t L st M Q) (kf : y < x → Ev lay d h (pc + 3) L st M Q) : Ev lay d h pc L (.int y :: .int x :: st) M Q := ev_ic hd ht (fun q => kt (by simpa [ti_cnd] using q)) (fun q => kf (by simpa [ti_cnd] using q))
end EVR
