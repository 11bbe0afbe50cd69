/-- a block copied; a text looked for, a text written -/
def im_cpb (e d : Im) (q r : Int) : Im := if 0 ≤ q ∧ q < 64 ∧ 0 ≤ r ∧ r < 64 then cpy e d (q * 64) (r * 64) 64 else d
def im_has (d : Im) (p : Int) (t : Nat) : Bool := (List.range (txL.getD t []).length).all (fun j => decide (im_at d (p + j) = tx t j))
theorem im_has_iff (d : Im) (p : Int) (t : Nat) : im_has d p t = true ↔ ∀ j, 0 ≤ j → j < tn t → im_at d (p + j) = tx t j := by
  unfold im_has
  rw [List.all_eq_true]
  constructor
  · intro h j h1 h2
    have := h j.toNat (List.mem_range.mpr (by unfold tn at h2; omega))
    rw [decide_eq_true_iff, Int.toNat_of_nonneg h1] at this
    exact this
  · intro h j hj
    rw [decide_eq_true_iff]
    exact h j (by omega) (by have := List.mem_range.mp hj; unfold tn; omega)
def im_txt (d : Im) (p : Int) (t : Nat) : Nat → Im
  | 0 => d
  | n + 1 => im_set (im_txt d p t n) (p + n) (tx t n)
