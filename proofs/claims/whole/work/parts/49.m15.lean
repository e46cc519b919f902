/-! the model: the search for what must be said -/
/-- over the sayings from s: the first that leads to an end -/
def m_ghL (ok : Nat → Bool) (rec : Nat → (Nat → Int32) → Bool × (Nat → Int32)) : Nat → Nat → (Nat → Int32) → Bool × (Nat → Int32)
  | 0, _, ln => (false, ln)
  | k + 1, s, ln => if ok s then (if (rec s ln).1 then (true, (rec s ln).2) else m_ghL ok rec k (s + 1) (rec s ln).2) else m_ghL ok rec k (s + 1) ln
def m_gok (sy rm : Nat → Int32) (w : Int32) (j : Nat) (sd ld : Int32) (s : Nat) : Bool := decide (m_has sd (nI s) = 0) && (decide (¬ m_kn sy w s = 0) && decide (¬ rm j < m_lb sy ld s))
def m_gh (sy rm : Nat → Int32) (w : Int32) (a : Nat) (spk : Int32) (ns : Nat) : Nat → Nat → Int32 → Int32 → Nat → Nat → (Nat → Int32) → Bool × (Nat → Int32)
  | 0, _, _, _, _, lf, ln => (decide (lf = 0), ln)
  | k + 1, j, sd, ld, to, lf, ln =>
    (fun r : Bool × (Nat → Int32) => if r.1 then (true, r.2) else if rm j < ld then (false, r.2) else m_gh sy rm w a spk ns k (j + 1) sd ld to lf r.2)
      (if 0 < lf ∧ (a < j ∨ spk = 0) then m_ghL (m_gok sy rm w j sd ld) (fun s l => m_gh sy rm w a spk ns k (j + 1) (sd ||| ((1 : Int32) <<< (nI s &&& 31))) (m_lb sy ld s) (to + 1) (lf - 1) (upd (upd l (2 * to) (nI j)) (2 * to + 1) (nI s))) ns 0 ln else (false, ln))
def Qg (I : Nat → Nat → Int32) (J : Nat → Nat → Int64) (R : Nat → Nat → Value) (p : Bool × (Nat → Int32)) : Option Value → TM → Prop := fun r M' => r = some (.int (b2i p.1)) ∧ M' = (va_up I 17 p.2, J, R)
theorem b2i_t {b : Bool} (h : ¬ b2i b = 0) : (1 : Int32) = b2i b := by
  cases b
  · exact absurd rfl h
  · rfl
theorem b2i_f {b : Bool} (h : b2i b = 0) : (0 : Int32) = b2i b := h.symm
theorem b2i1 {b : Bool} (h : ¬ b2i b = 0) : b = true := by
  cases b
  · exact absurd rfl h
  · rfl
set_option maxHeartbeats 1000000 in
theorem c_goHush {I : Nat → Nat → Int32} {J : Nat → Nat → Int64} {R : Nat → Nat → Value} {d ns c a : Nat} (hns : I 0 6 = nI ns) (hns8 : ns ≤ 8) (hc : I 0 1 = nI c) (hc12 : c ≤ 12) (ha : I 1 24 = nI a) (hac : a ≤ c) (w : Int32) : ∀ (k j : Nat) (sd ld : Int32) (to lf : Nat) (ln : Nat → Int32), c - j = k → j ≤ c → to + lf ≤ 3 → Cal lyM (d + k + 3) hX12_goHush 9 [.ref 0, .int (nI j), .int w, .int sd, .int ld, .int (nI to), .int (nI lf)] (va_up I 17 ln, J, R) (Qg I J R (m_gh (I 5) (I 16) w a (I 1 27) ns k j sd ld to lf ln)) := by
  intro k
  induction k with
  | zero =>
    intro j sd ld to lf ln hk hj htl
    show Ev lyM (d + 0 + 3) hX12_goHush 0 [some (.ref 0), some (.int (nI j)), some (.int w), some (.int sd), some (.int ld), some (.int (nI to)), some (.int (nI lf)), none, none] [] (va_up I 17 ln, J, R) _
    refine ev_st dX12_goHush_0 rfl rfl ?_
    refine ev_st dX12_goHush_1 rfl rfl ?_
    refine ev_getI (v := nI c) dX12_goHush_2 fr_12_13 rfl rfl hc ?_
    refine ev_ic_ltN (t := 19) (a := j) (b := c) dX12_goHush_5 (by decide) rfl rfl (by omega) (by omega) (fun c_5 => ?_) (fun c_5 => ?_)
    · omega
    · refine ev_st dX12_goHush_8 rfl rfl ?_
      refine ev_if_neN (t := 17) (a := lf) dX12_goHush_10 (by decide) rfl (by omega) (fun c_10 => ?_) (fun c_10 => ?_)
      · refine ev_iconst (v := 0) dX12_goHush_17 (by decide) ?_
        exact ev_zret dX12_goHush_18 rfl (by decide) (⟨by simp only [m_gh, c_10]; rfl, rfl⟩)
      · refine ev_iconst (v := 1) dX12_goHush_13 (by decide) ?_
        refine ev_goto (t := 18) dX12_goHush_14 (by decide) ?_
        exact ev_zret dX12_goHush_18 rfl (by decide) (⟨by simp only [m_gh, c_10]; rfl, rfl⟩)
  | succ k ih =>
    intro j sd ld to lf ln hk hj htl
    have fin : ∀ (ln : Nat → Int32) (z7 z8 : Option Value), Ev lyM (d + k + 3 + 1) hX12_goHush 172 [some (.ref 0), some (.int (nI j)), some (.int w), some (.int sd), some (.int ld), some (.int (nI to)), some (.int (nI lf)), z7, z8] [] (va_up I 17 ln, J, R) (Qg I J R ((fun p : Bool × (Nat → Int32) => if p.1 then (true, p.2) else if I 16 j < ld then (false, p.2) else m_gh (I 5) (I 16) w a (I 1 27) ns k (j + 1) sd ld to lf p.2) (false, ln))) := by
        intro ln z7 z8
        refine ev_st dX12_goHush_172 rfl rfl ?_
        refine ev_st dX12_goHush_174 rfl rfl ?_
        refine ev_getC dX12_goHush_175 fr_12_61 rfl rfl ?_
        refine ev_st dX12_goHush_178 rfl rfl ?_
        refine ev_iald (j := j) (v := I 16 j) dX12_goHush_179 rfl rfl (by omega) (by decide) rfl ?_
        refine ev_ic_gt (t := 205) (x := ld) (y := I 16 j) dX12_goHush_180 (by decide) (fun c_180 => ?_) (fun c_180 => ?_)
        · refine ev_iconst (v := 0) dX12_goHush_205 (by decide) ?_
          exact ev_zret dX12_goHush_206 rfl (by decide) (by rw [show (fun p : Bool × (Nat → Int32) => if p.1 then (true, p.2) else if I 16 j < ld then (false, p.2) else m_gh (I 5) (I 16) w a (I 1 27) ns k (j + 1) sd ld to lf p.2) (false, ln) = (false, ln) by simp [c_180]]; exact ⟨rfl, rfl⟩)
        · refine ev_st dX12_goHush_183 rfl rfl ?_
          refine ev_st dX12_goHush_184 rfl rfl ?_
          refine ev_iconst (v := 1) dX12_goHush_185 (by decide) ?_
          refine ev_iaddN (a := j) (b := 1) (c := j + 1) dX12_goHush_186 rfl rfl rfl ?_
          refine ev_st dX12_goHush_187 rfl rfl ?_
          refine ev_st dX12_goHush_188 rfl rfl ?_
          refine ev_st dX12_goHush_189 rfl rfl ?_
          refine ev_st dX12_goHush_191 rfl rfl ?_
          refine ev_st dX12_goHush_193 rfl rfl ?_
          refine ev_call dX12_goHush_195 rfl rfl mr_12_316 rfl rfl rfl (ih (j + 1) sd ld to lf ln (by omega) (by omega) (by omega)) ?_
          rintro _ _ ⟨rfl, rfl⟩
          show Ev lyM (d + k + 3 + 1) hX12_goHush 198 [some (.ref 0), some (.int (nI j)), some (.int w), some (.int sd), some (.int ld), some (.int (nI to)), some (.int (nI lf)), z7, z8] [.int (b2i (m_gh (I 5) (I 16) w a (I 1 27) ns k (j + 1) sd ld to lf ln).1)] (va_up I 17 ((m_gh (I 5) (I 16) w a (I 1 27) ns k (j + 1) sd ld to lf ln).2), J, R) _
          refine ev_if_eq (t := 205) (x := b2i (m_gh (I 5) (I 16) w a (I 1 27) ns k (j + 1) sd ld to lf ln).1) dX12_goHush_198 (by decide) (fun c_198 => ?_) (fun c_198 => ?_)
          · refine ev_iconst (v := 0) dX12_goHush_205 (by decide) ?_
            exact ev_zret dX12_goHush_206 rfl (by decide) (by rw [show (fun p : Bool × (Nat → Int32) => if p.1 then (true, p.2) else if I 16 j < ld then (false, p.2) else m_gh (I 5) (I 16) w a (I 1 27) ns k (j + 1) sd ld to lf p.2) (false, ln) = m_gh (I 5) (I 16) w a (I 1 27) ns k (j + 1) sd ld to lf ln by simp only [Bool.false_eq_true, if_false, if_neg c_180]]; exact ⟨by rw [← b2i_f c_198], rfl⟩)
          · refine ev_iconst (v := 1) dX12_goHush_201 (by decide) ?_
            refine ev_goto (t := 206) dX12_goHush_202 (by decide) ?_
            exact ev_zret dX12_goHush_206 rfl (by decide) (by rw [show (fun p : Bool × (Nat → Int32) => if p.1 then (true, p.2) else if I 16 j < ld then (false, p.2) else m_gh (I 5) (I 16) w a (I 1 27) ns k (j + 1) sd ld to lf p.2) (false, ln) = m_gh (I 5) (I 16) w a (I 1 27) ns k (j + 1) sd ld to lf ln by simp only [Bool.false_eq_true, if_false, if_neg c_180]]; exact ⟨by rw [← b2i_t c_198], rfl⟩)
    have loop : 0 < lf → ∀ (z s : Nat) (ln : Nat → Int32), s ≤ ns → ns - s < z → Ev lyM (d + k + 3 + 1) hX12_goHush 55 [some (.ref 0), some (.int (nI j)), some (.int w), some (.int sd), some (.int ld), some (.int (nI to)), some (.int (nI lf)), some (.int 1), some (.int (nI s))] [] (va_up I 17 ln, J, R) (Qg I J R ((fun p : Bool × (Nat → Int32) => if p.1 then (true, p.2) else if I 16 j < ld then (false, p.2) else m_gh (I 5) (I 16) w a (I 1 27) ns k (j + 1) sd ld to lf p.2) (m_ghL (m_gok (I 5) (I 16) w j sd ld) (fun s l => m_gh (I 5) (I 16) w a (I 1 27) ns k (j + 1) (sd ||| ((1 : Int32) <<< (nI s &&& 31))) (m_lb (I 5) ld s) (to + 1) (lf - 1) (upd (upd l (2 * to) (nI j)) (2 * to + 1) (nI s))) (ns - s) s ln))) := by
        intro hlf z
        induction z with
        | zero => intro s ln h1 h2; omega
        | succ z ih2 =>
          intro s ln hs hz
          refine ev_st dX12_goHush_55 rfl rfl ?_
          refine ev_st dX12_goHush_57 rfl rfl ?_
          refine ev_getI (v := nI ns) dX12_goHush_58 fr_12_102 rfl rfl hns ?_
          refine ev_ic_geN (t := 172) (a := s) (b := ns) dX12_goHush_61 (by decide) rfl rfl (by omega) (by omega) (fun c_61 => ?_) (fun c_61 => ?_)
          · rw [show ns - s = 0 by omega]
            exact fin ln _ _
          · refine ev_st dX12_goHush_64 rfl rfl ?_
            refine ev_if_eq (t := 172) dX12_goHush_66 (by decide) (fun q => absurd q (by decide)) (fun _ => ?_)
            refine ev_st dX12_goHush_69 rfl rfl ?_
            refine ev_st dX12_goHush_70 rfl rfl ?_
            refine ev_call dX12_goHush_72 rfl rfl mr_12_201 rfl rfl rfl (c_has sd (nI s)) ?_
            rintro _ _ ⟨rfl, rfl⟩
            show Ev lyM (d + k + 3 + 1) hX12_goHush 75 [some (.ref 0), some (.int (nI j)), some (.int w), some (.int sd), some (.int ld), some (.int (nI to)), some (.int (nI lf)), some (.int 1), some (.int (nI s))] [.int (m_has sd (nI s))] (va_up I 17 ln, J, R) _
            refine ev_if_ne (t := 166) (x := m_has sd (nI s)) dX12_goHush_75 (by decide) (fun c_75 => ?_) (fun c_75 => ?_)
            · refine ev_iincN (a := s) (b := s + 1) (L' := [some (.ref 0), some (.int (nI j)), some (.int w), some (.int sd), some (.int ld), some (.int (nI to)), some (.int (nI lf)), some (.int 1), some (.int (nI (s + 1)))]) dX12_goHush_166 rfl (nI_1 _) rfl ?_
              refine ev_goto (t := 55) dX12_goHush_169 (by decide) ?_
              have K := ih2 (s + 1) ln (by omega) (by omega)
              rw [show ns - s = (ns - (s + 1)) + 1 by omega]
              simp only [m_ghL]
              rw [if_neg (by simp [m_gok, c_75] : ¬ (m_gok (I 5) (I 16) w j sd ld) s = true)]
              exact K
            · refine ev_st dX12_goHush_78 rfl rfl ?_
              refine ev_st dX12_goHush_79 rfl rfl ?_
              refine ev_st dX12_goHush_80 rfl rfl ?_
              refine ev_call dX12_goHush_82 rfl rfl mr_12_250 rfl rfl rfl (Cal.mono (by omega) (c_doesKnow (I := va_up I 17 ln) (d := d) (s := s) (by omega) w)) ?_
              rintro _ _ ⟨rfl, rfl⟩
              show Ev lyM (d + k + 3 + 1) hX12_goHush 85 [some (.ref 0), some (.int (nI j)), some (.int w), some (.int sd), some (.int ld), some (.int (nI to)), some (.int (nI lf)), some (.int 1), some (.int (nI s))] [.int (m_kn (I 5) w s)] (va_up I 17 ln, J, R) _
              refine ev_if_eq (t := 166) (x := m_kn (I 5) w s) dX12_goHush_85 (by decide) (fun c_85 => ?_) (fun c_85 => ?_)
              · refine ev_iincN (a := s) (b := s + 1) (L' := [some (.ref 0), some (.int (nI j)), some (.int w), some (.int sd), some (.int ld), some (.int (nI to)), some (.int (nI lf)), some (.int 1), some (.int (nI (s + 1)))]) dX12_goHush_166 rfl (nI_1 _) rfl ?_
                refine ev_goto (t := 55) dX12_goHush_169 (by decide) ?_
                have K := ih2 (s + 1) ln (by omega) (by omega)
                rw [show ns - s = (ns - (s + 1)) + 1 by omega]
                simp only [m_ghL]
                rw [if_neg (by simp [m_gok, c_75, c_85] : ¬ (m_gok (I 5) (I 16) w j sd ld) s = true)]
                exact K
              · refine ev_st dX12_goHush_88 rfl rfl ?_
                refine ev_st dX12_goHush_89 rfl rfl ?_
                refine ev_st dX12_goHush_91 rfl rfl ?_
                refine ev_call dX12_goHush_93 rfl rfl mr_12_297 rfl rfl rfl (Cal.mono (by omega) (c_loadBy (I := va_up I 17 ln) (d := d) (s := s) (by omega) ld)) ?_
                rintro _ _ ⟨rfl, rfl⟩
                show Ev lyM (d + k + 3 + 1) hX12_goHush 96 [some (.ref 0), some (.int (nI j)), some (.int w), some (.int sd), some (.int ld), some (.int (nI to)), some (.int (nI lf)), some (.int 1), some (.int (nI s))] [.int (m_lb (I 5) ld s)] (va_up I 17 ln, J, R) _
                refine ev_st dX12_goHush_96 rfl rfl ?_
                refine ev_getC dX12_goHush_97 fr_12_61 rfl rfl ?_
                refine ev_st dX12_goHush_100 rfl rfl ?_
                refine ev_iald (j := j) (v := I 16 j) dX12_goHush_101 rfl rfl (by omega) (by decide) rfl ?_
                refine ev_ic_le (t := 108) (x := m_lb (I 5) ld s) (y := I 16 j) dX12_goHush_102 (by decide) (fun c_102 => ?_) (fun c_102 => ?_)
                · refine ev_st dX12_goHush_108 rfl rfl ?_
                  refine ev_getC dX12_goHush_109 fr_12_64 rfl rfl ?_
                  refine ev_iconst (v := 2) dX12_goHush_112 (by decide) ?_
                  refine ev_st dX12_goHush_113 rfl rfl ?_
                  refine ev_imulN (a := 2) (b := to) (c := 2 * to) dX12_goHush_115 rfl rfl rfl ?_
                  refine ev_st dX12_goHush_116 rfl rfl ?_
                  refine ev_iast (j := 2 * to) dX12_goHush_117 rfl rfl (by omega) (by decide) ?_
                  refine ev_st dX12_goHush_118 rfl rfl ?_
                  refine ev_getC dX12_goHush_119 fr_12_64 rfl rfl ?_
                  refine ev_iconst (v := 2) dX12_goHush_122 (by decide) ?_
                  refine ev_st dX12_goHush_123 rfl rfl ?_
                  refine ev_imulN (a := 2) (b := to) (c := 2 * to) dX12_goHush_125 rfl rfl rfl ?_
                  refine ev_iconst (v := 1) dX12_goHush_126 (by decide) ?_
                  refine ev_iaddN (a := 2 * to) (b := 1) (c := 2 * to + 1) dX12_goHush_127 rfl rfl rfl ?_
                  refine ev_st dX12_goHush_128 rfl rfl ?_
                  refine ev_iast (j := 2 * to + 1) dX12_goHush_130 rfl rfl (by omega) (by decide) ?_
                  refine ev_st dX12_goHush_131 rfl rfl ?_
                  refine ev_st dX12_goHush_132 rfl rfl ?_
                  refine ev_iconst (v := 1) dX12_goHush_133 (by decide) ?_
                  refine ev_iaddN (a := j) (b := 1) (c := j + 1) dX12_goHush_134 rfl rfl rfl ?_
                  refine ev_st dX12_goHush_135 rfl rfl ?_
                  refine ev_st dX12_goHush_136 rfl rfl ?_
                  refine ev_iconst (v := 1) dX12_goHush_137 (by decide) ?_
                  refine ev_st dX12_goHush_138 rfl rfl ?_
                  refine ev_st dX12_goHush_140 rfl rfl ?_
                  refine ev_st dX12_goHush_141 rfl rfl ?_
                  refine ev_st dX12_goHush_142 rfl rfl ?_
                  refine ev_st dX12_goHush_143 rfl rfl ?_
                  refine ev_st dX12_goHush_145 rfl rfl ?_
                  refine ev_call dX12_goHush_147 rfl rfl mr_12_297 rfl rfl rfl (Cal.mono (by omega) (c_loadBy (I := ti_wr (ti_wr (va_up I 17 ln) 17 (2 * to) (nI j)) 17 (2 * to + 1) (nI s)) (d := d) (s := s) (by omega) ld)) ?_
                  rintro _ _ ⟨rfl, rfl⟩
                  show Ev lyM (d + k + 3 + 1) hX12_goHush 150 [some (.ref 0), some (.int (nI j)), some (.int w), some (.int sd), some (.int ld), some (.int (nI to)), some (.int (nI lf)), some (.int 1), some (.int (nI s))] [.int (m_lb (I 5) ld s), .int (sd ||| ((1 : Int32) <<< ((nI s) &&& 31))), .int w, .int (nI (j + 1)), .ref 0] (ti_wr (ti_wr (va_up I 17 ln) 17 (2 * to) (nI j)) 17 (2 * to + 1) (nI s), J, R) _
                  refine ev_st dX12_goHush_150 rfl rfl ?_
                  refine ev_iconst (v := 1) dX12_goHush_152 (by decide) ?_
                  refine ev_iaddN (a := to) (b := 1) (c := to + 1) dX12_goHush_153 rfl rfl rfl ?_
                  refine ev_st dX12_goHush_154 rfl rfl ?_
                  refine ev_iconst (v := 1) dX12_goHush_156 (by decide) ?_
                  refine ev_isubN (a := lf) (b := 1) (c := lf - 1) dX12_goHush_157 rfl rfl (by omega) rfl ?_
                  refine ev_call dX12_goHush_158 rfl rfl mr_12_316 rfl rfl rfl ((by rw [ti_wr_up, ti_wr_up]; exact ih (j + 1) (sd ||| ((1 : Int32) <<< (nI s &&& 31))) (m_lb (I 5) ld s) (to + 1) (lf - 1) (upd (upd ln (2 * to) (nI j)) (2 * to + 1) (nI s)) (by omega) (by omega) (by omega))) ?_
                  rintro _ _ ⟨rfl, rfl⟩
                  show Ev lyM (d + k + 3 + 1) hX12_goHush 161 [some (.ref 0), some (.int (nI j)), some (.int w), some (.int sd), some (.int ld), some (.int (nI to)), some (.int (nI lf)), some (.int 1), some (.int (nI s))] [.int (b2i ((fun s l => m_gh (I 5) (I 16) w a (I 1 27) ns k (j + 1) (sd ||| ((1 : Int32) <<< (nI s &&& 31))) (m_lb (I 5) ld s) (to + 1) (lf - 1) (upd (upd l (2 * to) (nI j)) (2 * to + 1) (nI s))) s ln).1)] (va_up I 17 (((fun s l => m_gh (I 5) (I 16) w a (I 1 27) ns k (j + 1) (sd ||| ((1 : Int32) <<< (nI s &&& 31))) (m_lb (I 5) ld s) (to + 1) (lf - 1) (upd (upd l (2 * to) (nI j)) (2 * to + 1) (nI s))) s ln).2), J, R) _
                  refine ev_if_eq (t := 166) (x := b2i ((fun s l => m_gh (I 5) (I 16) w a (I 1 27) ns k (j + 1) (sd ||| ((1 : Int32) <<< (nI s &&& 31))) (m_lb (I 5) ld s) (to + 1) (lf - 1) (upd (upd l (2 * to) (nI j)) (2 * to + 1) (nI s))) s ln).1) dX12_goHush_161 (by decide) (fun c_161 => ?_) (fun c_161 => ?_)
                  · refine ev_iincN (a := s) (b := s + 1) (L' := [some (.ref 0), some (.int (nI j)), some (.int w), some (.int sd), some (.int ld), some (.int (nI to)), some (.int (nI lf)), some (.int 1), some (.int (nI (s + 1)))]) dX12_goHush_166 rfl (nI_1 _) rfl ?_
                    refine ev_goto (t := 55) dX12_goHush_169 (by decide) ?_
                    have K := ih2 (s + 1) ((fun s l => m_gh (I 5) (I 16) w a (I 1 27) ns k (j + 1) (sd ||| ((1 : Int32) <<< (nI s &&& 31))) (m_lb (I 5) ld s) (to + 1) (lf - 1) (upd (upd l (2 * to) (nI j)) (2 * to + 1) (nI s))) s ln).2 (by omega) (by omega)
                    rw [show ns - s = (ns - (s + 1)) + 1 by omega]
                    simp only [m_ghL]
                    rw [if_pos (by simp [m_gok, c_75, c_85, c_102] : (m_gok (I 5) (I 16) w j sd ld) s = true), if_neg (show ¬ ((fun s l => m_gh (I 5) (I 16) w a (I 1 27) ns k (j + 1) (sd ||| ((1 : Int32) <<< (nI s &&& 31))) (m_lb (I 5) ld s) (to + 1) (lf - 1) (upd (upd l (2 * to) (nI j)) (2 * to + 1) (nI s))) s ln).1 = true by rw [b2i0.mp c_161]; decide)]
                    exact K
                  · refine ev_iconst (v := 1) dX12_goHush_164 (by decide) ?_
                    exact ev_zret dX12_goHush_165 rfl (by decide) (by rw [show m_ghL (m_gok (I 5) (I 16) w j sd ld) (fun s l => m_gh (I 5) (I 16) w a (I 1 27) ns k (j + 1) (sd ||| ((1 : Int32) <<< (nI s &&& 31))) (m_lb (I 5) ld s) (to + 1) (lf - 1) (upd (upd l (2 * to) (nI j)) (2 * to + 1) (nI s))) (ns - s) s ln = (true, ((fun s l => m_gh (I 5) (I 16) w a (I 1 27) ns k (j + 1) (sd ||| ((1 : Int32) <<< (nI s &&& 31))) (m_lb (I 5) ld s) (to + 1) (lf - 1) (upd (upd l (2 * to) (nI j)) (2 * to + 1) (nI s))) s ln).2) by rw [show ns - s = (ns - (s + 1)) + 1 by omega]; simp only [m_ghL]; rw [if_pos (by simp [m_gok, c_75, c_85, c_102] : (m_gok (I 5) (I 16) w j sd ld) s = true), if_pos (b2i1 c_161)]]; exact ⟨rfl, rfl⟩)
                · refine ev_goto (t := 166) dX12_goHush_105 (by decide) ?_
                  refine ev_iincN (a := s) (b := s + 1) (L' := [some (.ref 0), some (.int (nI j)), some (.int w), some (.int sd), some (.int ld), some (.int (nI to)), some (.int (nI lf)), some (.int 1), some (.int (nI (s + 1)))]) dX12_goHush_166 rfl (nI_1 _) rfl ?_
                  refine ev_goto (t := 55) dX12_goHush_169 (by decide) ?_
                  have K := ih2 (s + 1) ln (by omega) (by omega)
                  rw [show ns - s = (ns - (s + 1)) + 1 by omega]
                  simp only [m_ghL]
                  rw [if_neg (by simp [m_gok, c_75, c_85, c_102] : ¬ (m_gok (I 5) (I 16) w j sd ld) s = true)]
                  exact K
    have l0 : Ev lyM (d + k + 3 + 1) hX12_goHush 55 [some (.ref 0), some (.int (nI j)), some (.int w), some (.int sd), some (.int ld), some (.int (nI to)), some (.int (nI lf)), some (.int 0), some (.int 0)] [] (va_up I 17 ln, J, R) (Qg I J R ((fun p : Bool × (Nat → Int32) => if p.1 then (true, p.2) else if I 16 j < ld then (false, p.2) else m_gh (I 5) (I 16) w a (I 1 27) ns k (j + 1) sd ld to lf p.2) (false, ln))) := by
        refine ev_st dX12_goHush_55 rfl rfl ?_
        refine ev_st dX12_goHush_57 rfl rfl ?_
        refine ev_getI (v := nI ns) dX12_goHush_58 fr_12_102 rfl rfl hns ?_
        refine ev_ic_geN (t := 172) (a := 0) (b := ns) dX12_goHush_61 (by decide) rfl rfl (by omega) (by omega) (fun c_61 => ?_) (fun c_61 => ?_)
        · exact fin ln _ _
        · refine ev_st dX12_goHush_64 rfl rfl ?_
          refine ev_if_eq (t := 172) dX12_goHush_66 (by decide) (fun _ => ?_) (fun q => absurd q (by decide))
          exact fin ln _ _
    show Ev lyM (d + k + 3 + 1) hX12_goHush 0 [some (.ref 0), some (.int (nI j)), some (.int w), some (.int sd), some (.int ld), some (.int (nI to)), some (.int (nI lf)), none, none] [] (va_up I 17 ln, J, R) (Qg I J R ((fun p : Bool × (Nat → Int32) => if p.1 then (true, p.2) else if I 16 j < ld then (false, p.2) else m_gh (I 5) (I 16) w a (I 1 27) ns k (j + 1) sd ld to lf p.2) (if 0 < lf ∧ (a < j ∨ I 1 27 = 0) then m_ghL (m_gok (I 5) (I 16) w j sd ld) (fun s l => m_gh (I 5) (I 16) w a (I 1 27) ns k (j + 1) (sd ||| ((1 : Int32) <<< (nI s &&& 31))) (m_lb (I 5) ld s) (to + 1) (lf - 1) (upd (upd l (2 * to) (nI j)) (2 * to + 1) (nI s))) ns 0 ln else (false, ln))))
    refine ev_st dX12_goHush_0 rfl rfl ?_
    refine ev_st dX12_goHush_1 rfl rfl ?_
    refine ev_getI (v := nI c) dX12_goHush_2 fr_12_13 rfl rfl hc ?_
    refine ev_ic_ltN (t := 19) (a := j) (b := c) dX12_goHush_5 (by decide) rfl rfl (by omega) (by omega) (fun c_5 => ?_) (fun c_5 => ?_)
    · refine ev_st dX12_goHush_19 rfl rfl ?_
      refine ev_if_leN (t := 49) (a := lf) dX12_goHush_21 (by decide) rfl (by omega) (fun c_21 => ?_) (fun c_21 => ?_)
      · refine ev_iconst (v := 0) dX12_goHush_49 (by decide) ?_
        refine ev_st (L' := [some (.ref 0), some (.int (nI j)), some (.int w), some (.int sd), some (.int ld), some (.int (nI to)), some (.int (nI lf)), some (.int 0), none]) dX12_goHush_50 rfl rfl ?_
        refine ev_iconst (v := 0) dX12_goHush_52 (by decide) ?_
        refine ev_st (L' := [some (.ref 0), some (.int (nI j)), some (.int w), some (.int sd), some (.int ld), some (.int (nI to)), some (.int (nI lf)), some (.int 0), some (.int 0)]) dX12_goHush_53 rfl rfl ?_
        rw [if_neg (by omega)]
        exact l0
      · refine ev_st dX12_goHush_24 rfl rfl ?_
        refine ev_st dX12_goHush_25 rfl rfl ?_
        refine ev_getC dX12_goHush_26 fr_12_9 rfl rfl ?_
        refine ev_bipush (v := 24) dX12_goHush_29 (by decide) ?_
        refine ev_iald (j := 24) (v := nI a) dX12_goHush_31 rfl rfl (by decide) (by decide) ha ?_
        refine ev_ic_gtN (t := 45) (a := j) (b := a) dX12_goHush_32 (by decide) rfl rfl (by omega) (by omega) (fun c_32 => ?_) (fun c_32 => ?_)
        · refine ev_iconst (v := 1) dX12_goHush_45 (by decide) ?_
          refine ev_goto (t := 50) dX12_goHush_46 (by decide) ?_
          refine ev_st (L' := [some (.ref 0), some (.int (nI j)), some (.int w), some (.int sd), some (.int ld), some (.int (nI to)), some (.int (nI lf)), some (.int 1), none]) dX12_goHush_50 rfl rfl ?_
          refine ev_iconst (v := 0) dX12_goHush_52 (by decide) ?_
          refine ev_st (L' := [some (.ref 0), some (.int (nI j)), some (.int w), some (.int sd), some (.int ld), some (.int (nI to)), some (.int (nI lf)), some (.int 1), some (.int 0)]) dX12_goHush_53 rfl rfl ?_
          rw [if_pos ⟨c_21, Or.inl c_32⟩]
          exact loop c_21 (ns + 1) 0 ln (by omega) (by omega)
        · refine ev_st dX12_goHush_35 rfl rfl ?_
          refine ev_getC dX12_goHush_36 fr_12_9 rfl rfl ?_
          refine ev_bipush (v := 27) dX12_goHush_39 (by decide) ?_
          refine ev_iald (j := 27) (v := I 1 27) dX12_goHush_41 rfl rfl (by decide) (by decide) rfl ?_
          refine ev_if_ne (t := 49) (x := I 1 27) dX12_goHush_42 (by decide) (fun c_42 => ?_) (fun c_42 => ?_)
          · refine ev_iconst (v := 0) dX12_goHush_49 (by decide) ?_
            refine ev_st (L' := [some (.ref 0), some (.int (nI j)), some (.int w), some (.int sd), some (.int ld), some (.int (nI to)), some (.int (nI lf)), some (.int 0), none]) dX12_goHush_50 rfl rfl ?_
            refine ev_iconst (v := 0) dX12_goHush_52 (by decide) ?_
            refine ev_st (L' := [some (.ref 0), some (.int (nI j)), some (.int w), some (.int sd), some (.int ld), some (.int (nI to)), some (.int (nI lf)), some (.int 0), some (.int 0)]) dX12_goHush_53 rfl rfl ?_
            rw [if_neg (fun q => q.2.elim (by omega) c_42)]
            exact l0
          · refine ev_iconst (v := 1) dX12_goHush_45 (by decide) ?_
            refine ev_goto (t := 50) dX12_goHush_46 (by decide) ?_
            refine ev_st (L' := [some (.ref 0), some (.int (nI j)), some (.int w), some (.int sd), some (.int ld), some (.int (nI to)), some (.int (nI lf)), some (.int 1), none]) dX12_goHush_50 rfl rfl ?_
            refine ev_iconst (v := 0) dX12_goHush_52 (by decide) ?_
            refine ev_st (L' := [some (.ref 0), some (.int (nI j)), some (.int w), some (.int sd), some (.int ld), some (.int (nI to)), some (.int (nI lf)), some (.int 1), some (.int 0)]) dX12_goHush_53 rfl rfl ?_
            rw [if_pos ⟨c_21, Or.inr c_42⟩]
            exact loop c_21 (ns + 1) 0 ln (by omega) (by omega)
    · omega
/-- the least number of sayings from z on, and the line that is left -/
def m_ho (g : Nat → (Nat → Int32) → Bool × (Nat → Int32)) : Nat → Nat → (Nat → Int32) → Int32 × (Nat → Int32)
  | 0, _, ln => (-2, ln)
  | k + 1, z, ln => if (g z ln).1 then (nI z, (g z ln).2) else m_ho g k (z + 1) (g z ln).2
set_option maxHeartbeats 1000000 in
theorem c_hushOfL {I : Nat → Nat → Int32} {J : Nat → Nat → Int64} {R : Nat → Nat → Value} {d ns c a : Nat} (hns : I 0 6 = nI ns) (hns8 : ns ≤ 8) (hc : I 0 1 = nI c) (hc12 : c ≤ 12) (ha : I 1 24 = nI a) (hac : a ≤ c) (w : Int32) : ∀ (k z : Nat) (ln : Nat → Int32), z ≤ 4 → 4 - z < k → Ev lyM (d + 16) hX12_hushOf 6 [some (.ref 0), some (.int w), some (.int (nI z))] [] (va_up I 17 ln, J, R) (fun r M' => r = some (.int (m_ho (fun z l => m_gh (I 5) (I 16) w a (I 1 27) ns (c - a) a (m_bt (fun s => I 1 (16 + s)) ns) (I 1 25) 0 z l) (4 - z) z ln).1) ∧ M' = (va_up I 17 (m_ho (fun z l => m_gh (I 5) (I 16) w a (I 1 27) ns (c - a) a (m_bt (fun s => I 1 (16 + s)) ns) (I 1 25) 0 z l) (4 - z) z ln).2, J, R)) := by
  intro k
  induction k with
  | zero => intro z ln h1 h2; omega
  | succ k ih =>
      intro z ln hz hk
      refine ev_st dX12_hushOf_6 rfl rfl ?_
      refine ev_iconst (v := 3) dX12_hushOf_7 (by decide) ?_
      refine ev_ic_gtN (t := 47) (a := z) (b := 3) dX12_hushOf_8 (by decide) rfl rfl (by omega) (by omega) (fun c_8 => ?_) (fun c_8 => ?_)
      · refine ev_bipush (v := -2) dX12_hushOf_47 (by decide) ?_
        exact ev_iret dX12_hushOf_49 rfl (by rw [show 4 - z = 0 by omega]; exact ⟨rfl, rfl⟩)
      · refine ev_st dX12_hushOf_11 rfl rfl ?_
        refine ev_st dX12_hushOf_12 rfl rfl ?_
        refine ev_getC dX12_hushOf_13 fr_12_9 rfl rfl ?_
        refine ev_bipush (v := 24) dX12_hushOf_16 (by decide) ?_
        refine ev_iald (j := 24) (v := nI a) dX12_hushOf_18 rfl rfl (by decide) (by decide) ha ?_
        refine ev_st dX12_hushOf_19 rfl rfl ?_
        refine ev_st dX12_hushOf_20 rfl rfl ?_
        refine ev_call dX12_hushOf_21 rfl rfl mr_12_323 rfl rfl rfl (c_saidBits (I := va_up I 17 ln) hns hns8) ?_
        rintro _ _ ⟨rfl, rfl⟩
        show Ev lyM (d + 16) hX12_hushOf 24 [some (.ref 0), some (.int w), some (.int (nI z))] [.int (m_bt (fun s => I 1 (16 + s)) ns), .int w, .int (nI a), .ref 0] (va_up I 17 ln, J, R) _
        refine ev_st dX12_hushOf_24 rfl rfl ?_
        refine ev_getC dX12_hushOf_25 fr_12_9 rfl rfl ?_
        refine ev_bipush (v := 25) dX12_hushOf_28 (by decide) ?_
        refine ev_iald (j := 25) (v := I 1 25) dX12_hushOf_30 rfl rfl (by decide) (by decide) rfl ?_
        refine ev_iconst (v := 0) dX12_hushOf_31 (by decide) ?_
        refine ev_st dX12_hushOf_32 rfl rfl ?_
        refine ev_call dX12_hushOf_33 rfl rfl mr_12_316 rfl rfl rfl (Cal.mono (d := d + (c - a) + 3) (by omega) (c_goHush (d := d) hns hns8 hc hc12 ha hac w (c - a) a (m_bt (fun s => I 1 (16 + s)) ns) (I 1 25) 0 z ln rfl hac (by omega))) ?_
        rintro _ _ ⟨rfl, rfl⟩
        show Ev lyM (d + 16) hX12_hushOf 36 [some (.ref 0), some (.int w), some (.int (nI z))] [.int (b2i ((fun z l => m_gh (I 5) (I 16) w a (I 1 27) ns (c - a) a (m_bt (fun s => I 1 (16 + s)) ns) (I 1 25) 0 z l) z ln).1)] (va_up I 17 (((fun z l => m_gh (I 5) (I 16) w a (I 1 27) ns (c - a) a (m_bt (fun s => I 1 (16 + s)) ns) (I 1 25) 0 z l) z ln).2), J, R) _
        refine ev_if_eq (t := 41) (x := b2i ((fun z l => m_gh (I 5) (I 16) w a (I 1 27) ns (c - a) a (m_bt (fun s => I 1 (16 + s)) ns) (I 1 25) 0 z l) z ln).1) dX12_hushOf_36 (by decide) (fun c_36 => ?_) (fun c_36 => ?_)
        · refine ev_iincN (a := z) (b := z + 1) (L' := [some (.ref 0), some (.int w), some (.int (nI (z + 1)))]) dX12_hushOf_41 rfl (nI_1 _) rfl ?_
          refine ev_goto (t := 6) dX12_hushOf_44 (by decide) ?_
          have K := ih (z + 1) ((fun z l => m_gh (I 5) (I 16) w a (I 1 27) ns (c - a) a (m_bt (fun s => I 1 (16 + s)) ns) (I 1 25) 0 z l) z ln).2 (by omega) (by omega)
          rw [show m_ho (fun z l => m_gh (I 5) (I 16) w a (I 1 27) ns (c - a) a (m_bt (fun s => I 1 (16 + s)) ns) (I 1 25) 0 z l) (4 - z) z ln = m_ho (fun z l => m_gh (I 5) (I 16) w a (I 1 27) ns (c - a) a (m_bt (fun s => I 1 (16 + s)) ns) (I 1 25) 0 z l) (4 - (z + 1)) (z + 1) ((fun z l => m_gh (I 5) (I 16) w a (I 1 27) ns (c - a) a (m_bt (fun s => I 1 (16 + s)) ns) (I 1 25) 0 z l) z ln).2 by rw [show 4 - z = (4 - (z + 1)) + 1 by omega]; simp only [m_ho]; rw [if_neg (show ¬ ((fun z l => m_gh (I 5) (I 16) w a (I 1 27) ns (c - a) a (m_bt (fun s => I 1 (16 + s)) ns) (I 1 25) 0 z l) z ln).1 = true by rw [b2i0.mp c_36]; decide)]]
          exact K
        · refine ev_st dX12_hushOf_39 rfl rfl ?_
          exact ev_iret dX12_hushOf_40 rfl (by rw [show m_ho (fun z l => m_gh (I 5) (I 16) w a (I 1 27) ns (c - a) a (m_bt (fun s => I 1 (16 + s)) ns) (I 1 25) 0 z l) (4 - z) z ln = (nI z, ((fun z l => m_gh (I 5) (I 16) w a (I 1 27) ns (c - a) a (m_bt (fun s => I 1 (16 + s)) ns) (I 1 25) 0 z l) z ln).2) by rw [show 4 - z = (4 - (z + 1)) + 1 by omega]; simp only [m_ho]; rw [if_pos (b2i1 c_36)]]; exact ⟨rfl, rfl⟩)
