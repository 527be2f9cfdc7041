/-! bits of small numbers -/
def szI (A : Nat → Int32) (s : Nat) : Nat → Int32
  | 0 => 0
  | i + 1 => szI A s i + (if s / 2 ^ i % 2 = 1 then A i else 0)
def cn (s : Nat) : Nat → Nat
  | 0 => 0
  | i + 1 => cn s i + s / 2 ^ i % 2
theorem sh_u : ∀ n, n < 32 → (((nI n).toUInt32 &&& Int32.toUInt32 31).toBitVec % 32).toNat = n := by decide +kernel
theorem sh_l : ∀ n, n < 32 → ((nI n &&& 31).toBitVec.smod 32).toNat = n := by decide +kernel
theorem one_shl : ∀ n, n < 10 → (1 : Int32) <<< (nI n &&& 31) = nI (2 ^ n) := by decide +kernel
theorem bc_all : ∀ s, s < 512 → f_J6_bitCount_0f7a4 (nI s) = nI (cn s 9) := by decide +kernel
