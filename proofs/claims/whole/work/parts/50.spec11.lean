/-! WORDS FOR THE REFERENCE -/
theorem im_two_in (d : Im) {p : Int} (h : 0 ≤ p ∧ p < 4095) : im_two d p = d.1 p * 256 + d.1 (p + 1) := by unfold im_two; rw [if_pos h]
theorem im_put_in (d : Im) {p v : Int} (h : 0 ≤ p ∧ p < 4095) : up (up d p (v / 256 % 256)) (p + 1) (v % 256) = im_put d p v := by
  unfold im_put; rw [if_pos h, up_mod, up_mod]
def hasB (d : Im) (p a b c e : Int) : Bool := decide (d.1 p = a ∧ d.1 (p + 1) = b ∧ d.1 (p + 2) = c ∧ d.1 (p + 3) = e)
theorem im_has0 (d : Im) {p : Int} (h : 0 ≤ p ∧ p < 4093) : im_has d p 0 = hasB d p 83 70 83 75 := by
  have e : ∀ j : Int, 0 ≤ j → j < 4 → im_at d (p + j) = d.1 (p + j) := fun j h1 h2 => by unfold im_at; rw [if_pos (by omega)]
  rw [Bool.eq_iff_iff, im_has_iff]
  unfold hasB
  rw [decide_eq_true_iff]
  have t0 : tx 0 0 = 83 := rfl
  have t1 : tx 0 1 = 70 := rfl
  have t2 : tx 0 2 = 83 := rfl
  have t3 : tx 0 3 = 75 := rfl
  constructor
  · intro q
    have q0 := q 0 (by omega) (by decide)
    have q1 := q 1 (by omega) (by decide)
    have q2 := q 2 (by omega) (by decide)
    have q3 := q 3 (by omega) (by decide)
    rw [e _ (by omega) (by omega)] at q0 q1 q2 q3
    rw [show p + 0 = p by omega] at q0
    exact ⟨q0.trans t0, q1.trans t1, q2.trans t2, q3.trans t3⟩
  · rintro ⟨q0, q1, q2, q3⟩ j h1 h2
    have h3 : j < 4 := h2
    rw [e j h1 h3]
    rcases (show j = 0 ∨ j = 1 ∨ j = 2 ∨ j = 3 by omega) with rfl | rfl | rfl | rfl
    · rw [show p + 0 = p by omega, q0, t0]
    · rw [q1, t1]
    · rw [q2, t2]
    · rw [q3, t3]
theorem ep_in (d : Im) {i p : Int} (hi : 0 ≤ i ∧ i < 32) (hp : 0 ≤ p) (h : ep d i p ≠ -1) : p / 4 < 46 ∧ dat (bk d i (p / 4)) ∧ (p / 4 < 5 ∨ dat (d.1 (512 + i * 16 + 9))) ∧ ep d i p = 64 * bk d i (p / 4) + 16 * (p % 4) := by
  unfold ep cp at h ⊢
  rw [show p * 16 / 64 = p / 4 by omega, show p * 16 % 64 = 16 * (p % 4) by omega] at h ⊢
  by_cases hc : inR i ∧ p / 4 < 46 ∧ dat (bk d i (p / 4))
  · rw [if_pos hc]
    refine ⟨hc.2.1, hc.2.2, ?_, by omega⟩
    by_cases h5 : p / 4 < 5
    · exact Or.inl h5
    · right
      have h6 := hc.2.2
      unfold bk at h6
      rw [if_neg h5] at h6
      by_cases h7 : dat (d.1 (512 + i * 16 + 9))
      · exact h7
      · rw [if_neg h7] at h6; exact absurd h6.1 (by decide)
  · rw [if_neg hc] at h; exact absurd rfl h
def mkB (t : Int → Bool) (b : Int) : Bool := decide (dat b) && !(t b)
def mkT (t : Int → Bool) (b : Int) : Int → Bool := if mkB t b = true then upB t b true else t
def dotN (nb : Im) : Nat → Im
  | 0 => nb
  | j + 1 => up (dotN nb j) j 46
def lstN (nb : Im) : Nat → Im
  | 0 => nb
  | j + 1 => up (lstN nb j) j (tx 4 j)
