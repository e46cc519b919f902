/-! sets in sets -/
theorem sub_set : ∀ v, v < 256 → ∀ b, b < 256 → nI b &&& (nI v ^^^ (-1)) = 0 → cN b ≤ cN v ∧ nI v &&& (nI b ^^^ (-1)) = nI (v - b) ∧ cN (v - b) + cN b = cN v := by decide +kernel
