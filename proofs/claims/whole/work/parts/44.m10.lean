/-! the model: cover, best, secret, old walks, worlds, claims -/
/-- lightens b more than a -/
def m_bq (sy row : Nat → Int32) (ns : Nat) (b a : Int32) : Bool := decide (0 < m_hv sy (m_kb sy row b 1 ns) ns - m_hv sy (m_kb sy row a 1 ns) ns) || (decide (m_hv sy (m_kb sy row b 1 ns) ns - m_hv sy (m_kb sy row a 1 ns) ns = 0) && decide (bc (m_kb sy row b 0 ns) < bc (m_kb sy row a 0 ns)))
def m_bst (sy row : Nat → Int32) (ns : Nat) : Nat → Int32
  | 0 => 0
  | k + 1 => if m_bq sy row ns (nI k) (m_bst sy row ns k) then nI k else m_bst sy row ns k
theorem m_bq0 {sy row : Nat → Int32} {ns : Nat} (a : Int32) : m_bq sy row ns a a = false := by simp [m_bq]
theorem m_bst1 {sy row : Nat → Int32} {ns : Nat} : (0 : Int32) = m_bst sy row ns 1 := by simp [m_bst, show nI 0 = (0 : Int32) from rfl, m_bq0]
/-- the sayings that just k know -/
def m_sec (sy : Nat → Int32) (k : Int32) : Nat → Int32
  | 0 => 0
  | b + 1 => m_sec sy k b ||| (if bc (sy (4 * b + 3)) = k then (1 : Int32) <<< (nI b &&& 31) else 0)
set_option maxHeartbeats 1000000 in
theorem c_best {I : Nat → Nat → Int32} {J : Nat → Nat → Int64} {R : Nat → Nat → Value} {d ns : Nat} (hns : I 0 6 = nI ns) (hns8 : ns ≤ 8) : Cal lyM (d + 4) hX12_best 4 [.ref 0] (I, J, R) (fun r M' => r = some (.int (m_bst (I 5) (I 1) ns 4)) ∧ M' = (ti_wr (ti_wr I 0 12 0) 0 11 (nI 2), ti_wl (ti_wl J 7 0 (m_hv (I 5) (m_kb (I 5) (I 1) (m_bst (I 5) (I 1) ns 4) 1 ns) ns).toInt64) 7 1 (bc (m_kb (I 5) (I 1) (m_bst (I 5) (I 1) ns 4) 0 ns)).toInt64, R)) := by
  have loop : ∀ (k b : Nat) (m : Int32) (z : Option Value), b ≤ 4 → 4 - b < k → m = m_bst (I 5) (I 1) ns b → Ev lyM (d + 4) hX12_best 9 [some (.ref 0), some (.int m), some (.int (nI b)), z] [] (ti_wr I 0 12 0, J, R) (fun r M' => r = some (.int (m_bst (I 5) (I 1) ns 4)) ∧ M' = (ti_wr (ti_wr I 0 12 0) 0 11 (nI 2), ti_wl (ti_wl J 7 0 (m_hv (I 5) (m_kb (I 5) (I 1) (m_bst (I 5) (I 1) ns 4) 1 ns) ns).toInt64) 7 1 (bc (m_kb (I 5) (I 1) (m_bst (I 5) (I 1) ns 4) 0 ns)).toInt64, R)) := by
    intro k
    induction k with
    | zero => intro b m z h1 h2; omega
    | succ k ih =>
      intro b m z hb hk hm
      refine ev_st dX12_best_9 rfl rfl ?_
      refine ev_iconst (v := 4) dX12_best_10 (by decide) ?_
      refine ev_ic_geN (t := 73) (a := b) (b := 4) dX12_best_11 (by decide) rfl rfl (by omega) (by omega) (fun c_11 => ?_) (fun c_11 => ?_)
      · refine ev_st dX12_best_73 rfl rfl ?_
        refine ev_iconst (v := 0) dX12_best_74 (by decide) ?_
        refine ev_putI dX12_best_75 fr_12_92 rfl rfl ?_
        refine ev_st dX12_best_78 rfl rfl ?_
        refine ev_st dX12_best_79 rfl rfl ?_
        refine ev_st dX12_best_80 rfl rfl ?_
        refine ev_st dX12_best_81 rfl rfl ?_
        refine ev_iconst (v := 1) dX12_best_82 (by decide) ?_
        refine ev_call dX12_best_83 rfl rfl mr_12_339 rfl rfl rfl (c_knownBy (I := ti_wr (ti_wr I 0 12 0) 0 11 0) hns hns8 m 1) ?_
        rintro _ _ ⟨rfl, rfl⟩
        show Ev lyM (d + 4) hX12_best 86 [some (.ref 0), some (.int m), some (.int (nI b)), z] [.int (m_kb (I 5) (I 1) m 1 ns), .ref 0, .ref 0] (ti_wr (ti_wr I 0 12 0) 0 11 0, J, R) _
        refine ev_call dX12_best_86 rfl rfl mr_12_343 rfl rfl rfl (c_heavyOf (I := ti_wr (ti_wr I 0 12 0) 0 11 0) hns hns8 (m_kb (I 5) (I 1) m 1 ns)) ?_
        rintro _ _ ⟨rfl, rfl⟩
        show Ev lyM (d + 4) hX12_best 89 [some (.ref 0), some (.int m), some (.int (nI b)), z] [.int (m_hv (I 5) (m_kb (I 5) (I 1) m 1 ns) ns), .ref 0] (ti_wr (ti_wr I 0 12 0) 0 11 0, J, R) _
        refine ev_st dX12_best_89 rfl rfl ?_
        refine ev_call dX12_best_90 rfl rfl mr_12_253 rfl rfl rfl (c_tell (m := 0) rfl (by decide) ((m_hv (I 5) (m_kb (I 5) (I 1) m 1 ns) ns).toInt64)) ?_
        rintro _ _ ⟨rfl, rfl⟩
        show Ev lyM (d + 4) hX12_best 93 [some (.ref 0), some (.int m), some (.int (nI b)), z] [] (ti_wr (ti_wr (ti_wr I 0 12 0) 0 11 0) 0 11 (nI 1), ti_wl J 7 0 ((m_hv (I 5) (m_kb (I 5) (I 1) m 1 ns) ns).toInt64), R) _
        refine ev_st dX12_best_93 rfl rfl ?_
        refine ev_st dX12_best_94 rfl rfl ?_
        refine ev_st dX12_best_95 rfl rfl ?_
        refine ev_iconst (v := 0) dX12_best_96 (by decide) ?_
        refine ev_call dX12_best_97 rfl rfl mr_12_339 rfl rfl rfl (c_knownBy (I := ti_wr (ti_wr (ti_wr I 0 12 0) 0 11 0) 0 11 (nI 1)) hns hns8 m 0) ?_
        rintro _ _ ⟨rfl, rfl⟩
        show Ev lyM (d + 4) hX12_best 100 [some (.ref 0), some (.int m), some (.int (nI b)), z] [.int (m_kb (I 5) (I 1) m 0 ns), .ref 0] (ti_wr (ti_wr (ti_wr I 0 12 0) 0 11 0) 0 11 (nI 1), ti_wl J 7 0 ((m_hv (I 5) (m_kb (I 5) (I 1) m 1 ns) ns).toInt64), R) _
        refine ev_call dX12_best_100 rfl rfl mr_12_214 rfl rfl rfl (c_bc (m_kb (I 5) (I 1) m 0 ns)) ?_
        rintro _ _ ⟨rfl, rfl⟩
        show Ev lyM (d + 4) hX12_best 103 [some (.ref 0), some (.int m), some (.int (nI b)), z] [.int (bc (m_kb (I 5) (I 1) m 0 ns)), .ref 0] (ti_wr (ti_wr (ti_wr I 0 12 0) 0 11 0) 0 11 (nI 1), ti_wl J 7 0 ((m_hv (I 5) (m_kb (I 5) (I 1) m 1 ns) ns).toInt64), R) _
        refine ev_st dX12_best_103 rfl rfl ?_
        refine ev_call dX12_best_104 rfl rfl mr_12_253 rfl rfl rfl (c_tell (m := 1) rfl (by decide) ((bc (m_kb (I 5) (I 1) m 0 ns)).toInt64)) ?_
        rintro _ _ ⟨rfl, rfl⟩
        show Ev lyM (d + 4) hX12_best 107 [some (.ref 0), some (.int m), some (.int (nI b)), z] [] (ti_wr (ti_wr (ti_wr (ti_wr I 0 12 0) 0 11 0) 0 11 (nI 1)) 0 11 (nI 2), ti_wl (ti_wl J 7 0 ((m_hv (I 5) (m_kb (I 5) (I 1) m 1 ns) ns).toInt64)) 7 1 ((bc (m_kb (I 5) (I 1) m 0 ns)).toInt64), R) _
        refine ev_st dX12_best_107 rfl rfl ?_
        exact ev_iret dX12_best_108 rfl (by subst hm; rw [show b = 4 by omega]; exact ⟨rfl, by simp only [ti_wr2]⟩)
      · refine ev_st dX12_best_14 rfl rfl ?_
        refine ev_st dX12_best_15 rfl rfl ?_
        refine ev_st dX12_best_16 rfl rfl ?_
        refine ev_iconst (v := 1) dX12_best_17 (by decide) ?_
        refine ev_call dX12_best_18 rfl rfl mr_12_339 rfl rfl rfl (c_knownBy (I := ti_wr I 0 12 0) hns hns8 (nI b) 1) ?_
        rintro _ _ ⟨rfl, rfl⟩
        show Ev lyM (d + 4) hX12_best 21 [some (.ref 0), some (.int m), some (.int (nI b)), z] [.int (m_kb (I 5) (I 1) (nI b) 1 ns), .ref 0] (ti_wr I 0 12 0, J, R) _
        refine ev_call dX12_best_21 rfl rfl mr_12_343 rfl rfl rfl (c_heavyOf (I := ti_wr I 0 12 0) hns hns8 (m_kb (I 5) (I 1) (nI b) 1 ns)) ?_
        rintro _ _ ⟨rfl, rfl⟩
        show Ev lyM (d + 4) hX12_best 24 [some (.ref 0), some (.int m), some (.int (nI b)), z] [.int (m_hv (I 5) (m_kb (I 5) (I 1) (nI b) 1 ns) ns)] (ti_wr I 0 12 0, J, R) _
        refine ev_st dX12_best_24 rfl rfl ?_
        refine ev_st dX12_best_25 rfl rfl ?_
        refine ev_st dX12_best_26 rfl rfl ?_
        refine ev_iconst (v := 1) dX12_best_27 (by decide) ?_
        refine ev_call dX12_best_28 rfl rfl mr_12_339 rfl rfl rfl (c_knownBy (I := ti_wr I 0 12 0) hns hns8 m 1) ?_
        rintro _ _ ⟨rfl, rfl⟩
        show Ev lyM (d + 4) hX12_best 31 [some (.ref 0), some (.int m), some (.int (nI b)), z] [.int (m_kb (I 5) (I 1) m 1 ns), .ref 0, .int (m_hv (I 5) (m_kb (I 5) (I 1) (nI b) 1 ns) ns)] (ti_wr I 0 12 0, J, R) _
        refine ev_call dX12_best_31 rfl rfl mr_12_343 rfl rfl rfl (c_heavyOf (I := ti_wr I 0 12 0) hns hns8 (m_kb (I 5) (I 1) m 1 ns)) ?_
        rintro _ _ ⟨rfl, rfl⟩
        show Ev lyM (d + 4) hX12_best 34 [some (.ref 0), some (.int m), some (.int (nI b)), z] [.int (m_hv (I 5) (m_kb (I 5) (I 1) m 1 ns) ns), .int (m_hv (I 5) (m_kb (I 5) (I 1) (nI b) 1 ns) ns)] (ti_wr I 0 12 0, J, R) _
        refine ev_st dX12_best_34 rfl rfl ?_
        refine ev_st (L' := [some (.ref 0), some (.int m), some (.int (nI b)), some (.int ((m_hv (I 5) (m_kb (I 5) (I 1) (nI b) 1 ns) ns) - (m_hv (I 5) (m_kb (I 5) (I 1) m 1 ns) ns)))]) dX12_best_35 rfl rfl ?_
        refine ev_st dX12_best_36 rfl rfl ?_
        refine ev_if_gt (t := 65) (x := (m_hv (I 5) (m_kb (I 5) (I 1) (nI b) 1 ns) ns) - (m_hv (I 5) (m_kb (I 5) (I 1) m 1 ns) ns)) dX12_best_37 (by decide) (fun c_37 => ?_) (fun c_37 => ?_)
        · refine ev_st dX12_best_65 rfl rfl ?_
          refine ev_st (L' := [some (.ref 0), some (.int (nI b)), some (.int (nI b)), some (.int ((m_hv (I 5) (m_kb (I 5) (I 1) (nI b) 1 ns) ns) - (m_hv (I 5) (m_kb (I 5) (I 1) m 1 ns) ns)))]) dX12_best_66 rfl rfl ?_
          refine ev_iincN (a := b) (b := b + 1) (L' := [some (.ref 0), some (.int (nI b)), some (.int (nI (b + 1))), some (.int ((m_hv (I 5) (m_kb (I 5) (I 1) (nI b) 1 ns) ns) - (m_hv (I 5) (m_kb (I 5) (I 1) m 1 ns) ns)))]) dX12_best_67 rfl (nI_1 _) rfl ?_
          refine ev_goto (t := 9) dX12_best_70 (by decide) ?_
          exact ih _ _ _ (by omega) (by omega) (by simp [m_bst, m_bq, ← hm, c_37])
        · refine ev_st dX12_best_40 rfl rfl ?_
          refine ev_if_ne (t := 67) (x := (m_hv (I 5) (m_kb (I 5) (I 1) (nI b) 1 ns) ns) - (m_hv (I 5) (m_kb (I 5) (I 1) m 1 ns) ns)) dX12_best_41 (by decide) (fun c_41 => ?_) (fun c_41 => ?_)
          · refine ev_iincN (a := b) (b := b + 1) (L' := [some (.ref 0), some (.int m), some (.int (nI (b + 1))), some (.int ((m_hv (I 5) (m_kb (I 5) (I 1) (nI b) 1 ns) ns) - (m_hv (I 5) (m_kb (I 5) (I 1) m 1 ns) ns)))]) dX12_best_67 rfl (nI_1 _) rfl ?_
            refine ev_goto (t := 9) dX12_best_70 (by decide) ?_
            exact ih _ _ _ (by omega) (by omega) (by simp [m_bst, m_bq, ← hm, c_37, c_41])
          · refine ev_st dX12_best_44 rfl rfl ?_
            refine ev_st dX12_best_45 rfl rfl ?_
            refine ev_iconst (v := 0) dX12_best_46 (by decide) ?_
            refine ev_call dX12_best_47 rfl rfl mr_12_339 rfl rfl rfl (c_knownBy (I := ti_wr I 0 12 0) hns hns8 (nI b) 0) ?_
            rintro _ _ ⟨rfl, rfl⟩
            show Ev lyM (d + 4) hX12_best 50 [some (.ref 0), some (.int m), some (.int (nI b)), some (.int ((m_hv (I 5) (m_kb (I 5) (I 1) (nI b) 1 ns) ns) - (m_hv (I 5) (m_kb (I 5) (I 1) m 1 ns) ns)))] [.int (m_kb (I 5) (I 1) (nI b) 0 ns)] (ti_wr I 0 12 0, J, R) _
            refine ev_call dX12_best_50 rfl rfl mr_12_214 rfl rfl rfl (c_bc (m_kb (I 5) (I 1) (nI b) 0 ns)) ?_
            rintro _ _ ⟨rfl, rfl⟩
            show Ev lyM (d + 4) hX12_best 53 [some (.ref 0), some (.int m), some (.int (nI b)), some (.int ((m_hv (I 5) (m_kb (I 5) (I 1) (nI b) 1 ns) ns) - (m_hv (I 5) (m_kb (I 5) (I 1) m 1 ns) ns)))] [.int (bc (m_kb (I 5) (I 1) (nI b) 0 ns))] (ti_wr I 0 12 0, J, R) _
            refine ev_st dX12_best_53 rfl rfl ?_
            refine ev_st dX12_best_54 rfl rfl ?_
            refine ev_iconst (v := 0) dX12_best_55 (by decide) ?_
            refine ev_call dX12_best_56 rfl rfl mr_12_339 rfl rfl rfl (c_knownBy (I := ti_wr I 0 12 0) hns hns8 m 0) ?_
            rintro _ _ ⟨rfl, rfl⟩
            show Ev lyM (d + 4) hX12_best 59 [some (.ref 0), some (.int m), some (.int (nI b)), some (.int ((m_hv (I 5) (m_kb (I 5) (I 1) (nI b) 1 ns) ns) - (m_hv (I 5) (m_kb (I 5) (I 1) m 1 ns) ns)))] [.int (m_kb (I 5) (I 1) m 0 ns), .int (bc (m_kb (I 5) (I 1) (nI b) 0 ns))] (ti_wr I 0 12 0, J, R) _
            refine ev_call dX12_best_59 rfl rfl mr_12_214 rfl rfl rfl (c_bc (m_kb (I 5) (I 1) m 0 ns)) ?_
            rintro _ _ ⟨rfl, rfl⟩
            show Ev lyM (d + 4) hX12_best 62 [some (.ref 0), some (.int m), some (.int (nI b)), some (.int ((m_hv (I 5) (m_kb (I 5) (I 1) (nI b) 1 ns) ns) - (m_hv (I 5) (m_kb (I 5) (I 1) m 1 ns) ns)))] [.int (bc (m_kb (I 5) (I 1) m 0 ns)), .int (bc (m_kb (I 5) (I 1) (nI b) 0 ns))] (ti_wr I 0 12 0, J, R) _
            refine ev_ic_ge (t := 67) (x := bc (m_kb (I 5) (I 1) (nI b) 0 ns)) (y := bc (m_kb (I 5) (I 1) m 0 ns)) dX12_best_62 (by decide) (fun c_62 => ?_) (fun c_62 => ?_)
            · refine ev_iincN (a := b) (b := b + 1) (L' := [some (.ref 0), some (.int m), some (.int (nI (b + 1))), some (.int ((m_hv (I 5) (m_kb (I 5) (I 1) (nI b) 1 ns) ns) - (m_hv (I 5) (m_kb (I 5) (I 1) m 1 ns) ns)))]) dX12_best_67 rfl (nI_1 _) rfl ?_
              refine ev_goto (t := 9) dX12_best_70 (by decide) ?_
              exact ih _ _ _ (by omega) (by omega) (by simp [m_bst, m_bq, ← hm, c_37, c_41, c_62])
            · refine ev_st dX12_best_65 rfl rfl ?_
              refine ev_st (L' := [some (.ref 0), some (.int (nI b)), some (.int (nI b)), some (.int ((m_hv (I 5) (m_kb (I 5) (I 1) (nI b) 1 ns) ns) - (m_hv (I 5) (m_kb (I 5) (I 1) m 1 ns) ns)))]) dX12_best_66 rfl rfl ?_
              refine ev_iincN (a := b) (b := b + 1) (L' := [some (.ref 0), some (.int (nI b)), some (.int (nI (b + 1))), some (.int ((m_hv (I 5) (m_kb (I 5) (I 1) (nI b) 1 ns) ns) - (m_hv (I 5) (m_kb (I 5) (I 1) m 1 ns) ns)))]) dX12_best_67 rfl (nI_1 _) rfl ?_
              refine ev_goto (t := 9) dX12_best_70 (by decide) ?_
              exact ih _ _ _ (by omega) (by omega) (by simp [m_bst, m_bq, ← hm, c_37, c_41, c_62])
  show Ev lyM (d + 4) hX12_best 0 [some (.ref 0), none, none, none] [] (I, J, R) _
  refine ev_st dX12_best_0 rfl rfl ?_
  refine ev_iconst (v := 0) dX12_best_1 (by decide) ?_
  refine ev_putI dX12_best_2 fr_12_89 rfl rfl ?_
  refine ev_iconst (v := 0) dX12_best_5 (by decide) ?_
  refine ev_st (L' := [some (.ref 0), some (.int 0), none, none]) dX12_best_6 rfl rfl ?_
  refine ev_iconst (v := 1) dX12_best_7 (by decide) ?_
  refine ev_st (L' := [some (.ref 0), some (.int 0), some (.int 1), none]) dX12_best_8 rfl rfl ?_
  exact loop (4 + 1) 1 0 _ (by omega) (by omega) m_bst1
theorem c_secret0 {I : Nat → Nat → Int32} {J : Nat → Nat → Int64} {R : Nat → Nat → Value} {d : Nat} {x : Int32} (hx : m_in x 0 4 = 0) : Cal lyM (d + 2) hX12_secret 4 [.ref 0, .int x] (I, J, R) (fun r M' => r = some (.int (-1)) ∧ M' = (ti_wr I 0 12 0, J, R)) := by
  show Ev lyM (d + 2) hX12_secret 0 [some (.ref 0), some (.int x), none, none] [] (I, J, R) _
  refine ev_st dX12_secret_0 rfl rfl ?_
  refine ev_iconst (v := 0) dX12_secret_1 (by decide) ?_
  refine ev_putI dX12_secret_2 fr_12_89 rfl rfl ?_
  refine ev_st dX12_secret_5 rfl rfl ?_
  refine ev_iconst (v := 0) dX12_secret_6 (by decide) ?_
  refine ev_iconst (v := 4) dX12_secret_7 (by decide) ?_
  refine ev_call dX12_secret_8 rfl rfl mr_12_98 rfl rfl rfl (c_in0 hx) ?_
  rintro _ _ ⟨rfl, rfl⟩
  show Ev lyM (d + 2) hX12_secret 11 [some (.ref 0), some (.int x), none, none] [.int 0] (ti_wr I 0 12 0, J, R) _
  refine ev_if_ne (t := 16) dX12_secret_11 (by decide) (fun q => absurd q (by decide)) (fun _ => ?_)
  refine ev_iconst (v := -1) dX12_secret_14 (by decide) ?_
  exact ev_iret dX12_secret_15 rfl (⟨rfl, rfl⟩)
set_option maxHeartbeats 1000000 in
theorem c_secret {I : Nat → Nat → Int32} {J : Nat → Nat → Int64} {R : Nat → Nat → Value} {d ns : Nat} (hns : I 0 6 = nI ns) (hns8 : ns ≤ 8) {x : Int32} (hx : m_in x 0 4 = 1) : Cal lyM (d + 2) hX12_secret 4 [.ref 0, .int x] (I, J, R) (fun r M' => r = some (.int (m_sec (I 5) x ns)) ∧ M' = (ti_wr (ti_wr I 0 12 0) 0 11 (nI 2), ti_wl (ti_wl J 7 0 (bc (m_sec (I 5) x ns)).toInt64) 7 1 (m_hv (I 5) (m_sec (I 5) x ns) ns).toInt64, R)) := by
  have loop : ∀ (k b : Nat) (m : Int32), b ≤ ns → ns - b < k → m = m_sec (I 5) x b → Ev lyM (d + 2) hX12_secret 20 [some (.ref 0), some (.int x), some (.int m), some (.int (nI b))] [] (ti_wr I 0 12 0, J, R) (fun r M' => r = some (.int (m_sec (I 5) x ns)) ∧ M' = (ti_wr (ti_wr I 0 12 0) 0 11 (nI 2), ti_wl (ti_wl J 7 0 (bc (m_sec (I 5) x ns)).toInt64) 7 1 (m_hv (I 5) (m_sec (I 5) x ns) ns).toInt64, R)) := by
    intro k
    induction k with
    | zero => intro b m  h1 h2; omega
    | succ k ih =>
      intro b m  hb hk hm
      refine ev_st dX12_secret_20 rfl rfl ?_
      refine ev_st dX12_secret_21 rfl rfl ?_
      refine ev_getI (v := nI ns) dX12_secret_22 fr_12_102 rfl rfl hns ?_
      refine ev_ic_geN (t := 61) (a := b) (b := ns) dX12_secret_25 (by decide) rfl rfl (by omega) (by omega) (fun c_25 => ?_) (fun c_25 => ?_)
      · refine ev_st dX12_secret_61 rfl rfl ?_
        refine ev_iconst (v := 0) dX12_secret_62 (by decide) ?_
        refine ev_putI dX12_secret_63 fr_12_92 rfl rfl ?_
        refine ev_st dX12_secret_66 rfl rfl ?_
        refine ev_st dX12_secret_67 rfl rfl ?_
        refine ev_call dX12_secret_68 rfl rfl mr_12_214 rfl rfl rfl (c_bc m) ?_
        rintro _ _ ⟨rfl, rfl⟩
        show Ev lyM (d + 2) hX12_secret 71 [some (.ref 0), some (.int x), some (.int m), some (.int (nI b))] [.int (bc m), .ref 0] (ti_wr (ti_wr I 0 12 0) 0 11 0, J, R) _
        refine ev_st dX12_secret_71 rfl rfl ?_
        refine ev_call dX12_secret_72 rfl rfl mr_12_253 rfl rfl rfl (c_tell (m := 0) rfl (by decide) ((bc m).toInt64)) ?_
        rintro _ _ ⟨rfl, rfl⟩
        show Ev lyM (d + 2) hX12_secret 75 [some (.ref 0), some (.int x), some (.int m), some (.int (nI b))] [] (ti_wr (ti_wr (ti_wr I 0 12 0) 0 11 0) 0 11 (nI 1), ti_wl J 7 0 ((bc m).toInt64), R) _
        refine ev_st dX12_secret_75 rfl rfl ?_
        refine ev_st dX12_secret_76 rfl rfl ?_
        refine ev_st dX12_secret_77 rfl rfl ?_
        refine ev_call dX12_secret_78 rfl rfl mr_12_343 rfl rfl rfl (c_heavyOf (I := ti_wr (ti_wr (ti_wr I 0 12 0) 0 11 0) 0 11 (nI 1)) hns hns8 m) ?_
        rintro _ _ ⟨rfl, rfl⟩
        show Ev lyM (d + 2) hX12_secret 81 [some (.ref 0), some (.int x), some (.int m), some (.int (nI b))] [.int (m_hv (I 5) m ns), .ref 0] (ti_wr (ti_wr (ti_wr I 0 12 0) 0 11 0) 0 11 (nI 1), ti_wl J 7 0 ((bc m).toInt64), R) _
        refine ev_st dX12_secret_81 rfl rfl ?_
        refine ev_call dX12_secret_82 rfl rfl mr_12_253 rfl rfl rfl (c_tell (m := 1) rfl (by decide) ((m_hv (I 5) m ns).toInt64)) ?_
        rintro _ _ ⟨rfl, rfl⟩
        show Ev lyM (d + 2) hX12_secret 85 [some (.ref 0), some (.int x), some (.int m), some (.int (nI b))] [] (ti_wr (ti_wr (ti_wr (ti_wr I 0 12 0) 0 11 0) 0 11 (nI 1)) 0 11 (nI 2), ti_wl (ti_wl J 7 0 ((bc m).toInt64)) 7 1 ((m_hv (I 5) m ns).toInt64), R) _
        refine ev_st dX12_secret_85 rfl rfl ?_
        exact ev_iret dX12_secret_86 rfl (by subst hm; rw [show b = ns by omega]; exact ⟨rfl, by simp only [ti_wr2]⟩)
      · refine ev_st dX12_secret_28 rfl rfl ?_
        refine ev_st dX12_secret_29 rfl rfl ?_
        refine ev_getC dX12_secret_30 fr_12_26 rfl rfl ?_
        refine ev_iconst (v := 4) dX12_secret_33 (by decide) ?_
        refine ev_st dX12_secret_34 rfl rfl ?_
        refine ev_imulN (a := 4) (b := b) (c := 4 * b) dX12_secret_35 rfl rfl rfl ?_
        refine ev_iconst (v := 3) dX12_secret_36 (by decide) ?_
        refine ev_iaddN (a := 4 * b) (b := 3) (c := 4 * b + 3) dX12_secret_37 rfl rfl rfl ?_
        refine ev_iald (j := 4 * b + 3) (v := I 5 (4 * b + 3)) dX12_secret_38 rfl rfl (by omega) (by decide) rfl ?_
        refine ev_call dX12_secret_39 rfl rfl mr_12_214 rfl rfl rfl (c_bc (I 5 (4 * b + 3))) ?_
        rintro _ _ ⟨rfl, rfl⟩
        show Ev lyM (d + 2) hX12_secret 42 [some (.ref 0), some (.int x), some (.int m), some (.int (nI b))] [.int (bc (I 5 (4 * b + 3))), .int m] (ti_wr I 0 12 0, J, R) _
        refine ev_st dX12_secret_42 rfl rfl ?_
        refine ev_ic_ne (t := 52) (x := bc (I 5 (4 * b + 3))) (y := x) dX12_secret_43 (by decide) (fun c_43 => ?_) (fun c_43 => ?_)
        · refine ev_iconst (v := 0) dX12_secret_52 (by decide) ?_
          refine ev_st dX12_secret_53 rfl rfl ?_
          refine ev_st (L' := [some (.ref 0), some (.int x), some (.int (m ||| 0)), some (.int (nI b))]) dX12_secret_54 rfl rfl ?_
          refine ev_iincN (a := b) (b := b + 1) (L' := [some (.ref 0), some (.int x), some (.int (m ||| 0)), some (.int (nI (b + 1)))]) dX12_secret_55 rfl (nI_1 _) rfl ?_
          refine ev_goto (t := 20) dX12_secret_58 (by decide) ?_
          exact ih _ _ (by omega) (by omega) (by simp [m_sec, ← hm, c_43])
        · refine ev_iconst (v := 1) dX12_secret_46 (by decide) ?_
          refine ev_st dX12_secret_47 rfl rfl ?_
          refine ev_st dX12_secret_48 rfl rfl ?_
          refine ev_goto (t := 53) dX12_secret_49 (by decide) ?_
          refine ev_st dX12_secret_53 rfl rfl ?_
          refine ev_st (L' := [some (.ref 0), some (.int x), some (.int (m ||| ((1 : Int32) <<< ((nI b) &&& 31)))), some (.int (nI b))]) dX12_secret_54 rfl rfl ?_
          refine ev_iincN (a := b) (b := b + 1) (L' := [some (.ref 0), some (.int x), some (.int (m ||| ((1 : Int32) <<< ((nI b) &&& 31)))), some (.int (nI (b + 1)))]) dX12_secret_55 rfl (nI_1 _) rfl ?_
          refine ev_goto (t := 20) dX12_secret_58 (by decide) ?_
          exact ih _ _ (by omega) (by omega) (by simp [m_sec, ← hm, c_43])
  show Ev lyM (d + 2) hX12_secret 0 [some (.ref 0), some (.int x), none, none] [] (I, J, R) _
  refine ev_st dX12_secret_0 rfl rfl ?_
  refine ev_iconst (v := 0) dX12_secret_1 (by decide) ?_
  refine ev_putI dX12_secret_2 fr_12_89 rfl rfl ?_
  refine ev_st dX12_secret_5 rfl rfl ?_
  refine ev_iconst (v := 0) dX12_secret_6 (by decide) ?_
  refine ev_iconst (v := 4) dX12_secret_7 (by decide) ?_
  refine ev_call dX12_secret_8 rfl rfl mr_12_98 rfl rfl rfl (c_in1 hx) ?_
  rintro _ _ ⟨rfl, rfl⟩
  show Ev lyM (d + 2) hX12_secret 11 [some (.ref 0), some (.int x), none, none] [.int 1] (ti_wr I 0 12 0, J, R) _
  refine ev_if_ne (t := 16) dX12_secret_11 (by decide) (fun _ => ?_) (fun q => absurd q (by decide))
  refine ev_iconst (v := 0) dX12_secret_16 (by decide) ?_
  refine ev_st (L' := [some (.ref 0), some (.int x), some (.int 0), none]) dX12_secret_17 rfl rfl ?_
  refine ev_iconst (v := 0) dX12_secret_18 (by decide) ?_
  refine ev_st (L' := [some (.ref 0), some (.int x), some (.int 0), some (.int 0)]) dX12_secret_19 rfl rfl ?_
  exact loop (ns + 1) 0 0  (by omega) (by omega) rfl
/-- the least set of those that cover, so far -/
def m_cov (sy : Nat → Int32) (x : Int32) (ns : Nat) : Nat → Int32
  | 0 => -1
  | k + 1 => if (m_cov sy x ns k = -1 ∨ bc (nI k) < bc (m_cov sy x ns k)) ∧ m_cv sy (nI k) x ns = true then nI k else m_cov sy x ns k
theorem b2i0 {b : Bool} : b2i b = 0 ↔ b = false := by cases b <;> decide
theorem c_areS {I : Nat → Nat → Int32} {J : Nat → Nat → Int64} {R : Nat → Nat → Value} {d ns : Nat} (hns : I 0 6 = nI ns) (hns8 : ns ≤ 8) (x : Int32) : Cal lyM (d + 1) hX12_areSayings 2 [.ref 0, .int x] (I, J, R) (fun r M' => r = some (.int (if (ix (2 ^ ns) x).isSome then 1 else 0)) ∧ M' = (I, J, R)) := by
  exact c_areSayings hns hns8 x
theorem c_cover0 {I : Nat → Nat → Int32} {J : Nat → Nat → Int64} {R : Nat → Nat → Value} {d ns : Nat} (hns : I 0 6 = nI ns) (hns8 : ns ≤ 8) {x : Int32} (hx : ix (2 ^ ns) x = none) : Cal lyM (d + 4) hX12_cover 4 [.ref 0, .int x] (I, J, R) (fun r M' => r = some (.int (-1)) ∧ M' = (ti_wr I 0 12 0, J, R)) := by
  show Ev lyM (d + 4) hX12_cover 0 [some (.ref 0), some (.int x), none, none] [] (I, J, R) _
  refine ev_st dX12_cover_0 rfl rfl ?_
  refine ev_iconst (v := 0) dX12_cover_1 (by decide) ?_
  refine ev_putI dX12_cover_2 fr_12_89 rfl rfl ?_
  refine ev_st dX12_cover_5 rfl rfl ?_
  refine ev_st dX12_cover_6 rfl rfl ?_
  refine ev_call dX12_cover_7 rfl rfl mr_12_333 rfl rfl rfl ((by have K := c_areS (I := ti_wr I 0 12 0) (J := J) (R := R) (d := d + 2) hns hns8 x; simp only [hx, Option.isSome] at K; exact K)) ?_
  rintro _ _ ⟨rfl, rfl⟩
  show Ev lyM (d + 4) hX12_cover 10 [some (.ref 0), some (.int x), none, none] [.int 0] (ti_wr I 0 12 0, J, R) _
  refine ev_if_ne (t := 15) dX12_cover_10 (by decide) (fun q => absurd q (by decide)) (fun _ => ?_)
  refine ev_iconst (v := -1) dX12_cover_13 (by decide) ?_
  exact ev_iret dX12_cover_14 rfl (⟨rfl, rfl⟩)
set_option maxHeartbeats 1000000 in
theorem c_cover {I : Nat → Nat → Int32} {J : Nat → Nat → Int64} {R : Nat → Nat → Value} {d ns j : Nat} (hns : I 0 6 = nI ns) (hns8 : ns ≤ 8) {x : Int32} (hx : ix (2 ^ ns) x = some j) : Cal lyM (d + 4) hX12_cover 4 [.ref 0, .int x] (I, J, R) (fun r M' => if m_cov (I 5) x ns 16 = -1 then r = some (.int (-2)) ∧ M' = (ti_wr I 0 12 0, J, R) else r = some (.int (bc (m_cov (I 5) x ns 16))) ∧ M' = (ti_wr (ti_wr I 0 12 0) 0 11 (nI 1), ti_wl J 7 0 (m_cov (I 5) x ns 16).toInt64, R)) := by
  have loop : ∀ (k b : Nat) (m : Int32), b ≤ 16 → 16 - b < k → m = m_cov (I 5) x ns b → Ev lyM (d + 4) hX12_cover 19 [some (.ref 0), some (.int x), some (.int m), some (.int (nI b))] [] (ti_wr I 0 12 0, J, R) (fun r M' => if m_cov (I 5) x ns 16 = -1 then r = some (.int (-2)) ∧ M' = (ti_wr I 0 12 0, J, R) else r = some (.int (bc (m_cov (I 5) x ns 16))) ∧ M' = (ti_wr (ti_wr I 0 12 0) 0 11 (nI 1), ti_wl J 7 0 (m_cov (I 5) x ns 16).toInt64, R)) := by
    intro k
    induction k with
    | zero => intro b m  h1 h2; omega
    | succ k ih =>
      intro b m  hb hk hm
      refine ev_st dX12_cover_19 rfl rfl ?_
      refine ev_bipush (v := 16) dX12_cover_20 (by decide) ?_
      refine ev_ic_geN (t := 58) (a := b) (b := 16) dX12_cover_22 (by decide) rfl rfl (by omega) (by omega) (fun c_22 => ?_) (fun c_22 => ?_)
      · refine ev_st dX12_cover_58 rfl rfl ?_
        refine ev_iconst (v := -1) dX12_cover_59 (by decide) ?_
        refine ev_ic_ne (t := 66) (x := m) (y := (-1)) dX12_cover_60 (by decide) (fun c_60 => ?_) (fun c_60 => ?_)
        · refine ev_st dX12_cover_66 rfl rfl ?_
          refine ev_iconst (v := 0) dX12_cover_67 (by decide) ?_
          refine ev_putI dX12_cover_68 fr_12_92 rfl rfl ?_
          refine ev_st dX12_cover_71 rfl rfl ?_
          refine ev_st dX12_cover_72 rfl rfl ?_
          refine ev_st dX12_cover_73 rfl rfl ?_
          refine ev_call dX12_cover_74 rfl rfl mr_12_253 rfl rfl rfl (c_tell (m := 0) rfl (by decide) m.toInt64) ?_
          rintro _ _ ⟨rfl, rfl⟩
          show Ev lyM (d + 4) hX12_cover 77 [some (.ref 0), some (.int x), some (.int m), some (.int (nI b))] [] (ti_wr (ti_wr (ti_wr I 0 12 0) 0 11 0) 0 11 (nI 1), ti_wl J 7 0 m.toInt64, R) _
          refine ev_st dX12_cover_77 rfl rfl ?_
          refine ev_call dX12_cover_78 rfl rfl mr_12_214 rfl rfl rfl (c_bc m) ?_
          rintro _ _ ⟨rfl, rfl⟩
          show Ev lyM (d + 4) hX12_cover 81 [some (.ref 0), some (.int x), some (.int m), some (.int (nI b))] [.int (bc m)] (ti_wr (ti_wr (ti_wr I 0 12 0) 0 11 0) 0 11 (nI 1), ti_wl J 7 0 m.toInt64, R) _
          exact ev_iret dX12_cover_81 rfl (by rw [show b = 16 by omega] at hm; rw [← hm]; rw [if_neg c_60]; exact ⟨rfl, by simp only [ti_wr2]⟩)
        · refine ev_bipush (v := -2) dX12_cover_63 (by decide) ?_
          exact ev_iret dX12_cover_65 rfl (by rw [show b = 16 by omega] at hm; rw [← hm]; rw [if_pos c_60]; exact ⟨rfl, rfl⟩)
      · refine ev_st dX12_cover_25 rfl rfl ?_
        refine ev_iconst (v := -1) dX12_cover_26 (by decide) ?_
        refine ev_ic_eq (t := 41) (x := m) (y := (-1)) dX12_cover_27 (by decide) (fun c_27 => ?_) (fun c_27 => ?_)
        · refine ev_st dX12_cover_41 rfl rfl ?_
          refine ev_st dX12_cover_42 rfl rfl ?_
          refine ev_st dX12_cover_43 rfl rfl ?_
          refine ev_call dX12_cover_44 rfl rfl mr_12_336 rfl rfl rfl (c_doCover (I := ti_wr I 0 12 0) hns hns8 (nI b) x) ?_
          rintro _ _ ⟨rfl, rfl⟩
          show Ev lyM (d + 4) hX12_cover 47 [some (.ref 0), some (.int x), some (.int m), some (.int (nI b))] [.int (b2i (m_cv (I 5) (nI b) x ns))] (ti_wr I 0 12 0, J, R) _
          refine ev_if_eq (t := 52) (x := b2i (m_cv (I 5) (nI b) x ns)) dX12_cover_47 (by decide) (fun c_47 => ?_) (fun c_47 => ?_)
          · refine ev_iincN (a := b) (b := b + 1) (L' := [some (.ref 0), some (.int x), some (.int m), some (.int (nI (b + 1)))]) dX12_cover_52 rfl (nI_1 _) rfl ?_
            refine ev_goto (t := 19) dX12_cover_55 (by decide) ?_
            exact ih _ _ (by omega) (by omega) (by rw [b2i0] at c_47; simp [m_cov, ← hm, c_27, c_47])
          · refine ev_st dX12_cover_50 rfl rfl ?_
            refine ev_st (L' := [some (.ref 0), some (.int x), some (.int (nI b)), some (.int (nI b))]) dX12_cover_51 rfl rfl ?_
            refine ev_iincN (a := b) (b := b + 1) (L' := [some (.ref 0), some (.int x), some (.int (nI b)), some (.int (nI (b + 1)))]) dX12_cover_52 rfl (nI_1 _) rfl ?_
            refine ev_goto (t := 19) dX12_cover_55 (by decide) ?_
            exact ih _ _ (by omega) (by omega) (by rw [b2i0] at c_47; simp [m_cov, ← hm, c_27, c_47])
        · refine ev_st dX12_cover_30 rfl rfl ?_
          refine ev_call dX12_cover_31 rfl rfl mr_12_214 rfl rfl rfl (c_bc (nI b)) ?_
          rintro _ _ ⟨rfl, rfl⟩
          show Ev lyM (d + 4) hX12_cover 34 [some (.ref 0), some (.int x), some (.int m), some (.int (nI b))] [.int (bc (nI b))] (ti_wr I 0 12 0, J, R) _
          refine ev_st dX12_cover_34 rfl rfl ?_
          refine ev_call dX12_cover_35 rfl rfl mr_12_214 rfl rfl rfl (c_bc m) ?_
          rintro _ _ ⟨rfl, rfl⟩
          show Ev lyM (d + 4) hX12_cover 38 [some (.ref 0), some (.int x), some (.int m), some (.int (nI b))] [.int (bc m), .int (bc (nI b))] (ti_wr I 0 12 0, J, R) _
          refine ev_ic_ge (t := 52) (x := bc (nI b)) (y := bc m) dX12_cover_38 (by decide) (fun c_38 => ?_) (fun c_38 => ?_)
          · refine ev_iincN (a := b) (b := b + 1) (L' := [some (.ref 0), some (.int x), some (.int m), some (.int (nI (b + 1)))]) dX12_cover_52 rfl (nI_1 _) rfl ?_
            refine ev_goto (t := 19) dX12_cover_55 (by decide) ?_
            exact ih _ _ (by omega) (by omega) (by simp [m_cov, ← hm, c_27, c_38])
          · refine ev_st dX12_cover_41 rfl rfl ?_
            refine ev_st dX12_cover_42 rfl rfl ?_
            refine ev_st dX12_cover_43 rfl rfl ?_
            refine ev_call dX12_cover_44 rfl rfl mr_12_336 rfl rfl rfl (c_doCover (I := ti_wr I 0 12 0) hns hns8 (nI b) x) ?_
            rintro _ _ ⟨rfl, rfl⟩
            show Ev lyM (d + 4) hX12_cover 47 [some (.ref 0), some (.int x), some (.int m), some (.int (nI b))] [.int (b2i (m_cv (I 5) (nI b) x ns))] (ti_wr I 0 12 0, J, R) _
            refine ev_if_eq (t := 52) (x := b2i (m_cv (I 5) (nI b) x ns)) dX12_cover_47 (by decide) (fun c_47 => ?_) (fun c_47 => ?_)
            · refine ev_iincN (a := b) (b := b + 1) (L' := [some (.ref 0), some (.int x), some (.int m), some (.int (nI (b + 1)))]) dX12_cover_52 rfl (nI_1 _) rfl ?_
              refine ev_goto (t := 19) dX12_cover_55 (by decide) ?_
              exact ih _ _ (by omega) (by omega) (by rw [b2i0] at c_47; simp [m_cov, ← hm, c_27, c_38, c_47])
            · refine ev_st dX12_cover_50 rfl rfl ?_
              refine ev_st (L' := [some (.ref 0), some (.int x), some (.int (nI b)), some (.int (nI b))]) dX12_cover_51 rfl rfl ?_
              refine ev_iincN (a := b) (b := b + 1) (L' := [some (.ref 0), some (.int x), some (.int (nI b)), some (.int (nI (b + 1)))]) dX12_cover_52 rfl (nI_1 _) rfl ?_
              refine ev_goto (t := 19) dX12_cover_55 (by decide) ?_
              exact ih _ _ (by omega) (by omega) (by rw [b2i0] at c_47; simp [m_cov, ← hm, c_27, c_38, c_47])
  show Ev lyM (d + 4) hX12_cover 0 [some (.ref 0), some (.int x), none, none] [] (I, J, R) _
  refine ev_st dX12_cover_0 rfl rfl ?_
  refine ev_iconst (v := 0) dX12_cover_1 (by decide) ?_
  refine ev_putI dX12_cover_2 fr_12_89 rfl rfl ?_
  refine ev_st dX12_cover_5 rfl rfl ?_
  refine ev_st dX12_cover_6 rfl rfl ?_
  refine ev_call dX12_cover_7 rfl rfl mr_12_333 rfl rfl rfl ((by have K := c_areS (I := ti_wr I 0 12 0) (J := J) (R := R) (d := d + 2) hns hns8 x; simp only [hx, Option.isSome] at K; exact K)) ?_
  rintro _ _ ⟨rfl, rfl⟩
  show Ev lyM (d + 4) hX12_cover 10 [some (.ref 0), some (.int x), none, none] [.int 1] (ti_wr I 0 12 0, J, R) _
  refine ev_if_ne (t := 15) dX12_cover_10 (by decide) (fun _ => ?_) (fun q => absurd q (by decide))
  refine ev_iconst (v := -1) dX12_cover_15 (by decide) ?_
  refine ev_st (L' := [some (.ref 0), some (.int x), some (.int ((-1))), none]) dX12_cover_16 rfl rfl ?_
  refine ev_iconst (v := 0) dX12_cover_17 (by decide) ?_
  refine ev_st (L' := [some (.ref 0), some (.int x), some (.int ((-1))), some (.int 0)]) dX12_cover_18 rfl rfl ?_
  exact loop (16 + 1) 0 (-1)  (by omega) (by omega) rfl
theorem c_forget {I : Nat → Nat → Int32} {J : Nat → Nat → Int64} {R : Nat → Nat → Value} {d : Nat} : Cal lyM d hX12_forget 2 [.ref 0] (I, J, R) (fun r M' => r = some (.int (I 0 33)) ∧ M' = (ti_wr (ti_wr I 0 12 0) 0 33 0, J, R)) := by
  show Ev lyM d hX12_forget 0 [some (.ref 0), none] [] (I, J, R) _
  refine ev_st dX12_forget_0 rfl rfl ?_
  refine ev_iconst (v := 0) dX12_forget_1 (by decide) ?_
  refine ev_putI dX12_forget_2 fr_12_89 rfl rfl ?_
  refine ev_st dX12_forget_5 rfl rfl ?_
  refine ev_getI (v := I 0 33) dX12_forget_6 fr_12_346 rfl rfl rfl ?_
  refine ev_st (L' := [some (.ref 0), some (.int (I 0 33))]) dX12_forget_9 rfl rfl ?_
  refine ev_st dX12_forget_10 rfl rfl ?_
  refine ev_iconst (v := 0) dX12_forget_11 (by decide) ?_
  refine ev_putI dX12_forget_12 fr_12_346 rfl rfl ?_
  refine ev_st dX12_forget_15 rfl rfl ?_
  exact ev_iret dX12_forget_16 rfl (⟨rfl, rfl⟩)
theorem c_unsaid {I : Nat → Nat → Int32} {J : Nat → Nat → Int64} {R : Nat → Nat → Value} {d : Nat} : Cal lyM d hX12_unsaid 2 [.ref 0] (I, J, R) (fun r M' => r = some (.int (I 0 37)) ∧ M' = (ti_wr (ti_wr I 0 12 0) 0 37 0, J, R)) := by
  show Ev lyM d hX12_unsaid 0 [some (.ref 0), none] [] (I, J, R) _
  refine ev_st dX12_unsaid_0 rfl rfl ?_
  refine ev_iconst (v := 0) dX12_unsaid_1 (by decide) ?_
  refine ev_putI dX12_unsaid_2 fr_12_89 rfl rfl ?_
  refine ev_st dX12_unsaid_5 rfl rfl ?_
  refine ev_getI (v := I 0 37) dX12_unsaid_6 fr_12_362 rfl rfl rfl ?_
  refine ev_st (L' := [some (.ref 0), some (.int (I 0 37))]) dX12_unsaid_9 rfl rfl ?_
  refine ev_st dX12_unsaid_10 rfl rfl ?_
  refine ev_iconst (v := 0) dX12_unsaid_11 (by decide) ?_
  refine ev_putI dX12_unsaid_12 fr_12_362 rfl rfl ?_
  refine ev_st dX12_unsaid_15 rfl rfl ?_
  exact ev_iret dX12_unsaid_16 rfl (⟨rfl, rfl⟩)
theorem if01 {p : Prop} [Decidable p] (h : ¬ (if p then (1 : Int32) else 0) = 0) : p := by
  by_cases q : p
  · exact q
  · rw [if_neg q] at h; exact absurd rfl h
theorem m_in01 (v a b : Int32) : m_in v a b = 0 ∨ m_in v a b = 1 := by
  unfold m_in; split
  · simp
  · split <;> simp
theorem m_in1 {v a b : Int32} (h : ¬ m_in v a b = 0) : m_in v a b = 1 := (m_in01 v a b).resolve_left h
theorem ix_pos {n : Nat} {x : Int32} {j : Nat} (h : ix n x = some j) : (ix n x).isSome = true := by rw [h]; rfl
theorem c_old0 {I : Nat → Nat → Int32} {J : Nat → Nat → Int64} {R : Nat → Nat → Value} {d ns no : Nat} (hns : I 0 6 = nI ns) (hns8 : ns ≤ 8) (hno : I 0 33 = nI no) (hno8 : no ≤ 8) {x v : Int32} (hx : ¬ ((ix (2 ^ ns) x).isSome = true ∧ m_in v (-160) 160 = 1 ∧ no < 8)) : Cal lyM (d + 2) hX12_old 3 [.ref 0, .int x, .int v] (I, J, R) (fun r M' => r = some (.int (-1)) ∧ M' = (ti_wr I 0 12 0, J, R)) := by
  show Ev lyM (d + 2) hX12_old 0 [some (.ref 0), some (.int x), some (.int v)] [] (I, J, R) _
  refine ev_st dX12_old_0 rfl rfl ?_
  refine ev_iconst (v := 0) dX12_old_1 (by decide) ?_
  refine ev_putI dX12_old_2 fr_12_89 rfl rfl ?_
  refine ev_st dX12_old_5 rfl rfl ?_
  refine ev_st dX12_old_6 rfl rfl ?_
  refine ev_call dX12_old_7 rfl rfl mr_12_333 rfl rfl rfl (c_areS (I := ti_wr I 0 12 0) hns hns8 x) ?_
  rintro _ _ ⟨rfl, rfl⟩
  show Ev lyM (d + 2) hX12_old 10 [some (.ref 0), some (.int x), some (.int v)] [.int (if (ix (2 ^ ns) x).isSome then 1 else 0)] (ti_wr I 0 12 0, J, R) _
  refine ev_if_eq (t := 35) (x := if (ix (2 ^ ns) x).isSome then 1 else 0) dX12_old_10 (by decide) (fun c_10 => ?_) (fun c_10 => ?_)
  · refine ev_iconst (v := -1) dX12_old_35 (by decide) ?_
    exact ev_iret dX12_old_36 rfl (⟨rfl, rfl⟩)
  · refine ev_st dX12_old_13 rfl rfl ?_
    refine ev_sipush (v := -160) dX12_old_14 (by decide) ?_
    refine ev_sipush (v := 160) dX12_old_17 (by decide) ?_
    refine ev_call dX12_old_20 rfl rfl mr_12_98 rfl rfl rfl (c_in v ((-160)) 160) ?_
    rintro _ _ ⟨rfl, rfl⟩
    show Ev lyM (d + 2) hX12_old 23 [some (.ref 0), some (.int x), some (.int v)] [.int (m_in v ((-160)) 160)] (ti_wr I 0 12 0, J, R) _
    refine ev_if_eq (t := 35) (x := m_in v ((-160)) 160) dX12_old_23 (by decide) (fun c_23 => ?_) (fun c_23 => ?_)
    · refine ev_iconst (v := -1) dX12_old_35 (by decide) ?_
      exact ev_iret dX12_old_36 rfl (⟨rfl, rfl⟩)
    · refine ev_st dX12_old_26 rfl rfl ?_
      refine ev_getI (v := nI no) dX12_old_27 fr_12_346 rfl rfl hno ?_
      refine ev_bipush (v := 8) dX12_old_30 (by decide) ?_
      refine ev_ic_neN (t := 37) (a := no) (b := 8) dX12_old_32 (by decide) rfl rfl (by omega) (by omega) (fun c_32 => ?_) (fun c_32 => ?_)
      · exact absurd ⟨if01 c_10, m_in1 c_23, by omega⟩ hx
      · refine ev_iconst (v := -1) dX12_old_35 (by decide) ?_
        exact ev_iret dX12_old_36 rfl (⟨rfl, rfl⟩)
theorem c_old {I : Nat → Nat → Int32} {J : Nat → Nat → Int64} {R : Nat → Nat → Value} {d ns no : Nat} (hns : I 0 6 = nI ns) (hns8 : ns ≤ 8) (hno : I 0 33 = nI no) (hno8 : no ≤ 8) {x v : Int32} {j : Nat} (hx : ix (2 ^ ns) x = some j) (hv : m_in v (-160) 160 = 1) (h8 : no < 8) : Cal lyM (d + 2) hX12_old 3 [.ref 0, .int x, .int v] (I, J, R) (fun r M' => r = some (.int (nI (no + 1))) ∧ M' = (ti_wr (ti_wr (ti_wr (ti_wr I 0 12 0) 18 no x) 19 no v) 0 33 (nI (no + 1)), J, R)) := by
  show Ev lyM (d + 2) hX12_old 0 [some (.ref 0), some (.int x), some (.int v)] [] (I, J, R) _
  refine ev_st dX12_old_0 rfl rfl ?_
  refine ev_iconst (v := 0) dX12_old_1 (by decide) ?_
  refine ev_putI dX12_old_2 fr_12_89 rfl rfl ?_
  refine ev_st dX12_old_5 rfl rfl ?_
  refine ev_st dX12_old_6 rfl rfl ?_
  refine ev_call dX12_old_7 rfl rfl mr_12_333 rfl rfl rfl ((by have K := c_areS (I := ti_wr I 0 12 0) (J := J) (R := R) (d := d) hns hns8 x; simp only [hx, Option.isSome] at K; exact K)) ?_
  rintro _ _ ⟨rfl, rfl⟩
  show Ev lyM (d + 2) hX12_old 10 [some (.ref 0), some (.int x), some (.int v)] [.int 1] (ti_wr I 0 12 0, J, R) _
  refine ev_if_eq (t := 35) dX12_old_10 (by decide) (fun q => absurd q (by decide)) (fun _ => ?_)
  refine ev_st dX12_old_13 rfl rfl ?_
  refine ev_sipush (v := -160) dX12_old_14 (by decide) ?_
  refine ev_sipush (v := 160) dX12_old_17 (by decide) ?_
  refine ev_call dX12_old_20 rfl rfl mr_12_98 rfl rfl rfl (c_in1 hv) ?_
  rintro _ _ ⟨rfl, rfl⟩
  show Ev lyM (d + 2) hX12_old 23 [some (.ref 0), some (.int x), some (.int v)] [.int 1] (ti_wr I 0 12 0, J, R) _
  refine ev_if_eq (t := 35) dX12_old_23 (by decide) (fun q => absurd q (by decide)) (fun _ => ?_)
  refine ev_st dX12_old_26 rfl rfl ?_
  refine ev_getI (v := nI no) dX12_old_27 fr_12_346 rfl rfl hno ?_
  refine ev_bipush (v := 8) dX12_old_30 (by decide) ?_
  refine ev_ic_neN (t := 37) (a := no) (b := 8) dX12_old_32 (by decide) rfl rfl (by omega) (by omega) (fun c_32 => ?_) (fun c_32 => ?_)
  · refine ev_st dX12_old_37 rfl rfl ?_
    refine ev_getC dX12_old_38 fr_12_67 rfl rfl ?_
    refine ev_st dX12_old_41 rfl rfl ?_
    refine ev_getI (v := nI no) dX12_old_42 fr_12_346 rfl rfl hno ?_
    refine ev_st dX12_old_45 rfl rfl ?_
    refine ev_iast (j := no) dX12_old_46 rfl rfl (by omega) (by decide) ?_
    refine ev_st dX12_old_47 rfl rfl ?_
    refine ev_getC dX12_old_48 fr_12_70 rfl rfl ?_
    refine ev_st dX12_old_51 rfl rfl ?_
    refine ev_getI (v := nI no) dX12_old_52 fr_12_346 rfl rfl hno ?_
    refine ev_st dX12_old_55 rfl rfl ?_
    refine ev_iast (j := no) dX12_old_56 rfl rfl (by omega) (by decide) ?_
    refine ev_st dX12_old_57 rfl rfl ?_
    refine ev_st dX12_old_58 rfl rfl ?_
    refine ev_getI (v := nI no) dX12_old_59 fr_12_346 rfl rfl hno ?_
    refine ev_iconst (v := 1) dX12_old_62 (by decide) ?_
    refine ev_iaddN (a := no) (b := 1) (c := no + 1) dX12_old_63 rfl rfl rfl ?_
    refine ev_putI dX12_old_64 fr_12_346 rfl rfl ?_
    refine ev_st dX12_old_67 rfl rfl ?_
    refine ev_getI (v := nI (no + 1)) dX12_old_68 fr_12_346 rfl rfl rfl ?_
    exact ev_iret dX12_old_71 rfl (⟨rfl, rfl⟩)
  · omega
