/-! the bits of a mask, all 256 by the kernel -/
theorem bit01 : ∀ k : Nat, k < 256 → ∀ n : Nat, n < 8 → ((nI k) >>> (nI n &&& 31)) &&& 1 = 0 ∨ ((nI k) >>> (nI n &&& 31)) &&& 1 = 1 := by decide +kernel
theorem bit_cnt : ∀ k : Nat, k < 256 → 1 + bc32 (nI k) = nI (cntN (nI k) 8) := by decide +kernel
