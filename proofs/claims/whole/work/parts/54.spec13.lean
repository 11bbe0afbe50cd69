/-- a new directory of one block: its inode, its block -/
def dirD (d : Im) (i q : Int) : Im := im_wipe (up (im_put (up d (512 + i * 16) 2) (512 + i * 16 + 2) 64) (512 + i * 16 + 4) q) (q * 64) 64
theorem sam_next (d e : Im) (p i : Int) (h : p ≤ i) : (sam d e p (i - p).toNat && decide (d.1 i = e.1 i)) = sam d e p (i + 1 - p).toNat := by
  rw [show (i + 1 - p).toNat = (i - p).toNat + 1 by omega, sam, show p + ((i - p).toNat : Int) = i by omega]
theorem cpb_next (d e : Im) (b i : Int) (h : 64 * b ≤ i) : up (cpy d e (64 * b) (64 * b) (i - 64 * b)) i (d.1 i) = cpy d e (64 * b) (64 * b) (i + 1 - 64 * b) := by
  apply Subtype.ext; funext j
  show (if j = i then d.1 i % 256 else if 64 * b ≤ j ∧ j < 64 * b + (i - 64 * b) then d.1 (64 * b + (j - 64 * b)) else e.1 j) = if 64 * b ≤ j ∧ j < 64 * b + (i + 1 - 64 * b) then d.1 (64 * b + (j - 64 * b)) else e.1 j
  by_cases hj : j = i
  · rw [if_pos hj, if_pos (by omega), Int.emod_eq_of_lt (d.2 i).1 (d.2 i).2, show 64 * b + (j - 64 * b) = i by omega]
  · rw [if_neg hj]
    by_cases h2 : 64 * b ≤ j ∧ j < 64 * b + (i - 64 * b)
    · rw [if_pos h2, if_pos (by omega)]
    · rw [if_neg h2, if_neg (by omega)]
theorem cpb_0 (d e : Im) (b : Int) : e = cpy d e (64 * b) (64 * b) (64 * b - 64 * b) := by
  apply Subtype.ext; funext j
  show e.1 j = if 64 * b ≤ j ∧ j < 64 * b + (64 * b - 64 * b) then d.1 (64 * b + (j - 64 * b)) else e.1 j
  rw [if_neg (by omega)]
