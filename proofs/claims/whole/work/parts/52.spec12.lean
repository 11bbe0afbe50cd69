theorem lby_of2 (x : Int64) (s : Nat) (hs : s < 64) : ((x.toUInt64 >>> ((iI s).toInt64.toUInt64 &&& Int64.toUInt64 63)).toInt64 &&& 255).toInt32 = iI (lby x s) := by
  rw [← lby_of x s hs, Int64.toInt32_and]
  rfl
def rfs (d : Im) (i : Int) (nb : Im) (n : Int) : Nat → Int → Int
  | 0, _ => -1
  | f + 1, p => if im_at d (ep d i p) ≠ 0 ∧ nmd d (ep d i p) nb n = true then p else rfs d i nb n f (p + 1)
theorem rfs_rg (d : Im) (i : Int) (nb : Im) (n : Int) : ∀ (f : Nat) (p : Int), rfs d i nb n f p = -1 ∨ (p ≤ rfs d i nb n f p ∧ rfs d i nb n f p < p + f)
  | 0, p => Or.inl rfl
  | f + 1, p => by
    rw [rfs]
    split
    · right; omega
    · rcases rfs_rg d i nb n f (p + 1) with h | h
      · left; exact h
      · right; omega
theorem im_set_in (d : Im) {p v : Int} (h : 0 ≤ p ∧ p < 4096) : im_set d p v = up d p v := by unfold im_set; rw [if_pos h]
theorem im_at_in (d : Im) {p : Int} (h : 0 ≤ p ∧ p < 4096) : im_at d p = d.1 p := by unfold im_at; rw [if_pos h]
theorem nm_at_in (nb : Im) {n j : Int} (h : 0 ≤ j ∧ j < n ∧ j < 14) : nm_at nb n j = nb.1 j := by unfold nm_at; rw [if_pos h]
theorem su_wr_in (d : Im) {p x y : Int} (hp : p = 0 ∨ p = 4032) : su_wr d (p / 64) x y = im_put (im_put (im_put (up (up (up (up (im_wipe d p 64) p 83) (p + 1) 70) (p + 2) 83) (p + 3) 75) (p + 4) x) (p + 6) y) (p + 62) (im_sum (im_put (im_put (up (up (up (up (im_wipe d p 64) p 83) (p + 1) 70) (p + 2) 83) (p + 3) 75) (p + 4) x) (p + 6) y) p 62) := by
  have e : im_txt (im_wipe d p 64) p 0 (tn 0).toNat = up (up (up (up (im_wipe d p 64) p 83) (p + 1) 70) (p + 2) 83) (p + 3) 75 := by
    show im_set (im_set (im_set (im_set (im_wipe d p 64) (p + (0 : Nat)) 83) (p + (1 : Nat)) 70) (p + (2 : Nat)) 83) (p + (3 : Nat)) 75 = _
    rw [im_set_in _ (by omega), im_set_in _ (by omega), im_set_in _ (by omega), im_set_in _ (by omega)]
    rw [show p + ((0 : Nat) : Int) = p by omega]
    rfl
  unfold su_wr su_sum
  rw [show p / 64 * 64 = p by omega, e]
/-- a directory's places are all told -/
abbrev epA (d : Im) (i z : Int) : Prop := ∀ p : Int, 0 ≤ p → p < z → ep d i p ≠ -1
