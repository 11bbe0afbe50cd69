/-! THE JOURNAL, AS THE REFERENCE READS IT -/
theorem tbt_0 (b : Int) : tbt 0 b = false := by
  unfold tbt
  show (0#64).getLsbD b.toNat = false
  simp
theorem tbt_set0 (s : Int64) {b x : Int} (hb : 0 ≤ b ∧ b < 64) (hx : 0 ≤ x ∧ x < 64) : tbt (tset s b) x = (tbt s x || decide (x = b)) := tb_tset s hb hx
theorem jgs_iff (d : Im) : ∀ (f : Nat) (j : Int) (s : Int64), jgs d f j s = true ↔ ∀ i : Int, j ≤ i → i < j + f → (7 ≤ im_at d (69 + i) ∧ im_at d (69 + i) ≤ 62) ∧ tbt s (im_at d (69 + i)) = false ∧ ∀ k : Int, j ≤ k → k < i → im_at d (69 + k) ≠ im_at d (69 + i)
  | 0, j, s => by
    simp only [jgs, true_iff]
    intro i h1 h2
    omega
  | f + 1, j, s => by
    rw [jgs]
    by_cases hc : im_at d (69 + j) < 7 ∨ 62 < im_at d (69 + j) ∨ tbt s (im_at d (69 + j)) = true
    · rw [if_pos hc]
      constructor
      · intro h; cases h
      · intro h
        obtain ⟨h1, h2, -⟩ := h j (by omega) (by omega)
        rcases hc with hc | hc | hc
        · omega
        · omega
        · rw [h2] at hc; cases hc
    · rw [if_neg hc, jgs_iff d f (j + 1) _]
      have hr : 7 ≤ im_at d (69 + j) ∧ im_at d (69 + j) ≤ 62 := by omega
      have hs : tbt s (im_at d (69 + j)) = false := by
        cases z : tbt s (im_at d (69 + j)) with
        | false => rfl
        | true => exact absurd (Or.inr (Or.inr z)) hc
      constructor
      · intro h i h1 h2
        by_cases hi : i = j
        · subst hi
          exact ⟨hr, hs, fun k h3 h4 => by omega⟩
        · obtain ⟨a1, a2, a3⟩ := h i (by omega) (by omega)
          rw [tbt_set0 s (by omega) (by omega)] at a2
          rw [Bool.or_eq_false_iff, decide_eq_false_iff_not] at a2
          refine ⟨a1, a2.1, fun k h3 h4 => ?_⟩
          by_cases hk : k = j
          · subst hk; exact fun q => a2.2 q.symm
          · exact a3 k (by omega) h4
      · intro h i h1 h2
        obtain ⟨a1, a2, a3⟩ := h i (by omega) (by omega)
        refine ⟨a1, ?_, fun k h3 h4 => a3 k (by omega) h4⟩
        rw [tbt_set0 s (by omega) (by omega), a2, Bool.false_or]
        exact decide_eq_false (fun q => a3 j (by omega) (by omega) q.symm)
/-- a target differs from the first m before it; the first m are all right -/
def dsB (d : Im) (j : Int) : Nat → Bool
  | 0 => true
  | m + 1 => dsB d j m && decide (im_at d (69 + m) ≠ im_at d (69 + j))
def tgB (d : Im) : Nat → Bool
  | 0 => true
  | m + 1 => tgB d m && (decide (7 ≤ im_at d (69 + m) ∧ im_at d (69 + m) < 63) && dsB d m m)
theorem dsB_iff (d : Im) (j : Int) : ∀ m : Nat, dsB d j m = true ↔ ∀ k : Int, 0 ≤ k → k < m → im_at d (69 + k) ≠ im_at d (69 + j)
  | 0 => by simp only [dsB, true_iff]; intro k h1 h2; omega
  | m + 1 => by
    rw [dsB, Bool.and_eq_true, dsB_iff d j m, decide_eq_true_iff]
    constructor
    · rintro ⟨h1, h2⟩ k h3 h4
      by_cases h : k < m
      · exact h1 k h3 h
      · rw [show k = m by omega]; exact h2
    · intro h
      exact ⟨fun k h1 h2 => h k h1 (by omega), h _ (by omega) (by omega)⟩
theorem tgB_iff (d : Im) : ∀ m : Nat, tgB d m = true ↔ ∀ i : Int, 0 ≤ i → i < m → (7 ≤ im_at d (69 + i) ∧ im_at d (69 + i) ≤ 62) ∧ ∀ k : Int, 0 ≤ k → k < i → im_at d (69 + k) ≠ im_at d (69 + i)
  | 0 => by simp only [tgB, true_iff]; intro k h1 h2; omega
  | m + 1 => by
    rw [tgB, Bool.and_eq_true, Bool.and_eq_true, tgB_iff d m, dsB_iff, decide_eq_true_iff]
    constructor
    · rintro ⟨h1, h2, h3⟩ i h4 h5
      by_cases h : i < m
      · exact h1 i h4 h
      · have e : i = m := by omega
        subst e
        exact ⟨by omega, fun k h6 h7 => h3 k h6 (by omega)⟩
    · intro h
      have := h m (by omega) (by omega)
      exact ⟨fun i h1 h2 => h i h1 (by omega), by omega, fun k h6 h7 => this.2 k h6 (by omega)⟩
theorem tgB_jg (d : Im) (n : Int) (h : 0 ≤ n) : tgB d n.toNat = jgB d n := by
  rw [Bool.eq_iff_iff, tgB_iff]
  unfold jgB
  rw [jgs_iff]
  constructor
  · intro q i h1 h2
    obtain ⟨a1, a2⟩ := q i h1 (by omega)
    exact ⟨a1, tbt_0 _, a2⟩
  · intro q i h1 h2
    obtain ⟨a1, -, a2⟩ := q i h1 (by omega)
    exact ⟨a1, a2⟩
theorem im_has1 (d : Im) : im_has d 64 1 = hasB d 64 74 82 78 76 := by
  have e : ∀ j : Int, 0 ≤ j → j < 4 → im_at d (64 + j) = d.1 (64 + j) := fun j h1 h2 => by unfold im_at; rw [if_pos (by omega)]
  rw [Bool.eq_iff_iff, im_has_iff]
  unfold hasB
  rw [decide_eq_true_iff]
  have t0 : tx 1 0 = 74 := rfl
  have t1 : tx 1 1 = 82 := rfl
  have t2 : tx 1 2 = 78 := rfl
  have t3 : tx 1 3 = 76 := rfl
  constructor
  · intro q
    have q0 := q 0 (by omega) (by decide)
    have q1 := q 1 (by omega) (by decide)
    have q2 := q 2 (by omega) (by decide)
    have q3 := q 3 (by omega) (by decide)
    rw [e _ (by omega) (by omega)] at q0 q1 q2 q3
    exact ⟨q0.trans t0, q1.trans t1, q2.trans t2, q3.trans t3⟩
  · rintro ⟨q0, q1, q2, q3⟩ j h1 h2
    have h3 : j < 4 := h2
    rw [e j h1 h3]
    rcases (show j = 0 ∨ j = 1 ∨ j = 2 ∨ j = 3 by omega) with rfl | rfl | rfl | rfl
    · exact q0.trans t0.symm
    · exact q1.trans t1.symm
    · exact q2.trans t2.symm
    · exact q3.trans t3.symm
theorem cp2_next (x : Im) (s t i : Int) (h : 0 ≤ i ∧ i < 64) (hst : s + 64 ≤ t) : up (cpy x x s t i) (t + i) ((cpy x x s t i).1 (s + i)) = cpy x x s t (i + 1) := by
  have e : (cpy x x s t i).1 (s + i) = x.1 (s + i) := by
    show (if t ≤ s + i ∧ s + i < t + i then x.1 (s + (s + i - t)) else x.1 (s + i)) = _
    rw [if_neg (by omega)]
  rw [e]
  apply Subtype.ext; funext j
  show (if j = t + i then x.1 (s + i) % 256 else if t ≤ j ∧ j < t + i then x.1 (s + (j - t)) else x.1 j) = if t ≤ j ∧ j < t + (i + 1) then x.1 (s + (j - t)) else x.1 j
  by_cases hj : j = t + i
  · rw [if_pos hj, if_pos (by omega), Int.emod_eq_of_lt (x.2 (s + i)).1 (x.2 (s + i)).2, show s + (j - t) = s + i by omega]
  · rw [if_neg hj]
    by_cases h2 : t ≤ j ∧ j < t + i
    · rw [if_pos h2, if_pos (by omega)]
    · rw [if_neg h2, if_neg (by omega)]
theorem cp2_0 (x : Im) (s t : Int) : x = cpy x x s t 0 := by
  apply Subtype.ext; funext j
  show x.1 j = if t ≤ j ∧ j < t + 0 then x.1 (s + (j - t)) else x.1 j
  rw [if_neg (by omega)]
def rpG (d : Im) : Bool := hasB d 64 74 82 78 76 && decide (1 ≤ im_at d 68 ∧ im_at d 68 ≤ 5)
def rpH (d : Im) : Bool := im_blank d (69 + im_at d 68) (57 - im_at d 68) && decide (im_two d 126 = (im_sum d 64 62 + im_sum d 128 (im_at d 68 * 64)) % 65536)
theorem jnB_ref (d : Im) : jnB d = (rpG d && (rpH d && tgB d (im_at d 68).toNat)) := by
  have h0 := im_at_rg d 68
  unfold jnB rpG rpH
  rw [im_has1, tgB_jg d _ h0.1]
  by_cases h : 1 ≤ im_at d 68 ∧ im_at d 68 ≤ 5
  · rw [show jn_right d = (im_sum d 64 62 + im_sum d 128 (im_at d 68 * 64)) % 65536 from by unfold jn_right; rw [show min (im_at d 68) 5 = im_at d 68 by omega]]
    simp only [Bool.and_assoc]
  · rw [decide_eq_false h]; simp
