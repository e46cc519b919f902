/-! the law's loop -/
/-- a case of the law's switch; Th is what a call that may throw asks for -/
def lw_Case (Th : Launch → Array Value → State → (Nat → Prop) → Prop) (pc0 : Nat) : Prop := ∀ {p : Program} {l : Launch} {e : Env} {s : State} {m : MethodId} {args : Array Value} {below : List Frame} {meth : Method} {c : Code} {H : Heap} {locs : List Loc} {cells slots : Nat} {Q : State → Prop} {D : va_G} {ca : Nat → ClassId} {adC adM adV : Nat → Nat} {ao : Nat} {A : Nat → Prop} {MC MM : TM} {fo : Nat → Int64} {ls : Array Slot} {b L i k : Nat} {xs : Nat → Int32},
  Th l args s A → lw_K p s m args c D ca adC adM adV ao A b L xs → lv_has ls 8 (lw_ls b adC adM ao i) → i + 5 ≤ L → LI D ca adC adM ao MC MM fo H → va_S A s.heap H locs → REL k MC MM → k < 1000 → cells + 1 ≤ room_1.cells → slots + 6 ≤ room_1.slots →
  (∀ (H : Heap) (locs : List Loc) (MC MM : TM) (fo : Nat → Int64) (ls : Array Slot), lv_has ls 8 (lw_ls b adC adM ao i) → REL (k + 1) MC MM → LI D ca adC adM ao MC MM fo H → va_S A s.heap H locs → W p l e room_1 s m args below meth c H locs (cells + 1) (slots + 6) Q (F0 m 1443 ls [])) → W p l e room_1 s m args below meth c H locs cells slots Q (F0 m pc0 ls [])
theorem and63 (x : Int32) : ∃ n : Nat, n < 64 ∧ x &&& 63 = nI n := by
  refine ⟨(x.toBitVec.toNat) % 64, Nat.mod_lt _ (by decide), ?_⟩
  apply Int32.toBitVec_inj.mp
  apply BitVec.eq_of_toNat_eq
  have e2 : (nI (x.toBitVec.toNat % 64)).toBitVec.toNat = x.toBitVec.toNat % 64 := by
    have h9 : x.toBitVec.toNat % 64 < 64 := Nat.mod_lt _ (by decide)
    show (Int32.ofNat (x.toBitVec.toNat % 64)).toBitVec.toNat = _
    rw [Int32.toBitVec_ofNat', BitVec.toNat_ofNat]
    omega
  rw [e2, Int32.toBitVec_and, BitVec.toNat_and]
  show x.toBitVec.toNat &&& 63 = _
  exact Nat.and_two_pow_sub_one_eq_mod _ 6
theorem lw_gt {L i : Nat} (hL : L ≤ 2560) (hi : i ≤ 2570) : Int32.ofNat L - 5 < nI i ↔ L < i + 5 := by
  have e1 : Int32.ofNat L - 5 = iI ((L : Int) - 5) := by
    show Int32.ofInt (L : Int) - Int32.ofInt 5 = Int32.ofInt ((L : Int) - 5)
    rw [Int32.ofInt_sub]
  rw [e1, nI_iI, iI_lt (by omega) (by omega) (by omega) (by omega)]
  omega
