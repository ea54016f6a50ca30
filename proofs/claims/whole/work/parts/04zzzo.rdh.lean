/-! READ: the reference reads a tag. -/
def k_mk (a : Nat) : Nat := 2 * (a / 16) + 32 * (a % 16)
theorem k_mkb : ∀ a, a < 256 → ∀ t, t < 8 → (((z_n (k_mk a) >>> (z_n (t + 1) &&& z_n 31)) &&& z_n 1) = z_n 1 ↔ ¬ a / k_tb.getD t 0 % 2 = 0) ∧ (((z_n (k_mk a) >>> (z_n (t + 1) &&& z_n 31)) &&& z_n 1) = z_n 0 ↔ a / k_tb.getD t 0 % 2 = 0) ∧ (a / k_tb.getD t 0 % 2 = 0 → (z_n (k_mk a) ||| (z_n 1 <<< (z_n (t + 1) &&& z_n 31))) = z_n (k_mk (a + k_tb.getD t 0))) := by decide +kernel
theorem k_mkv : ∀ v, v < 16 → ∀ t, t < 8 → 4 ≤ t → v / 2 ^ (t - 4) % 2 = 0 → (z_n v ||| (z_n 1 <<< ((z_n (t + 1) - z_n 5) &&& z_n 31))) = z_n (v + 2 ^ (t - 4)) := by decide +kernel
