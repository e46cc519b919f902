/-! subsets by bits -/
def subOK (t v : Nat) : Bool := Nat.ble (t % 2) (v % 2) && (Nat.ble (t / 2 % 2) (v / 2 % 2) && (Nat.ble (t / 4 % 2) (v / 4 % 2) && (Nat.ble (t / 8 % 2) (v / 8 % 2) && (Nat.ble (t / 16 % 2) (v / 16 % 2) && (Nat.ble (t / 32 % 2) (v / 32 % 2) && (Nat.ble (t / 64 % 2) (v / 64 % 2) && (Nat.ble (t / 128 % 2) (v / 128 % 2) && Nat.ble t v)))))))
theorem sub_ok : ∀ v, v < 256 → ∀ t, t < 256 → nI t &&& (nI v ^^^ (-1)) = 0 → subOK t v = true := by decide +kernel
theorem sub_bits (v : Nat) (hv : v < 256) (t : Nat) (ht : t < 256) (h : nI t &&& (nI v ^^^ (-1)) = 0) : t % 2 ≤ v % 2 ∧ t / 2 % 2 ≤ v / 2 % 2 ∧ t / 4 % 2 ≤ v / 4 % 2 ∧ t / 8 % 2 ≤ v / 8 % 2 ∧ t / 16 % 2 ≤ v / 16 % 2 ∧ t / 32 % 2 ≤ v / 32 % 2 ∧ t / 64 % 2 ≤ v / 64 % 2 ∧ t / 128 % 2 ≤ v / 128 % 2 ∧ t ≤ v := by
  have k := sub_ok v hv t ht h
  unfold subOK at k
  simp only [Bool.and_eq_true, Nat.ble_eq] at k
  exact k
