/-! WHAT AN IMAGE'S METHODS MEAN -/
theorem up_mod (d : Im) (a v : Int) : up d a (v % 256) = up d a v := by
  apply Subtype.ext; funext j; simp only [up]; rw [Int.emod_emod]
theorem iI_shr {a : Int} (h : -2147483648 ≤ a ∧ a < 2147483648) (s : Int32) (k : Nat) (hs : (s.toBitVec.smod 32).toNat = k) : iI a >>> s = iI (a / 2 ^ k) := by
  have h1 := pk_shr (iI a) s k hs
  rw [iI_toInt h] at h1
  rw [← iI_of (iI a >>> s), h1, Int.shiftRight_eq_div_pow]
  simp
def clr (d : Im) (p n : Int) : Im := ⟨fun j => if p ≤ j ∧ j < p + n then 0 else d.1 j, fun j => by
  show 0 ≤ (if p ≤ j ∧ j < p + n then 0 else d.1 j) ∧ (if p ≤ j ∧ j < p + n then 0 else d.1 j) < 256
  have := d.2 j
  split <;> omega⟩
def im_at (d : Im) (p : Int) : Int := if 0 ≤ p ∧ p < 4096 then d.1 p else 0
theorem im_at_rg (d : Im) (p : Int) : 0 ≤ im_at d p ∧ im_at d p < 256 := by
  unfold im_at; have := d.2 p; split <;> omega
def im_set (d : Im) (p v : Int) : Im := if 0 ≤ p ∧ p < 4096 then up d p v else d
def im_two (d : Im) (p : Int) : Int := if 0 ≤ p ∧ p < 4095 then d.1 p * 256 + d.1 (p + 1) else 0
theorem im_two_rg (d : Im) (p : Int) : 0 ≤ im_two d p ∧ im_two d p < 65536 := by
  unfold im_two; have := d.2 p; have := d.2 (p + 1); split <;> omega
def im_put (d : Im) (p v : Int) : Im := if 0 ≤ p ∧ p < 4095 then up (up d p (v / 256)) (p + 1) v else d
/-- places p .. p + n - 1 lie on the disk -/
abbrev rgP (p n : Int) : Prop := 0 ≤ p ∧ p ≤ 4096 ∧ 0 ≤ n ∧ n ≤ 4096 - p
def im_wipe (d : Im) (p n : Int) : Im := if rgP p n then clr d p n else d
def blk (d : Im) (p : Int) : Nat → Bool
  | 0 => true
  | n + 1 => blk d p n && decide (d.1 (p + n) = 0)
theorem blk_iff (d : Im) (p : Int) : ∀ n : Nat, blk d p n = true ↔ ∀ j, p ≤ j → j < p + n → d.1 j = 0
  | 0 => by simp only [blk, true_iff]; intro j h1 h2; omega
  | n + 1 => by
    rw [blk, Bool.and_eq_true, blk_iff d p n, decide_eq_true_iff]
    constructor
    · rintro ⟨h1, h2⟩ j h3 h4
      by_cases h : j < p + n
      · exact h1 j h3 h
      · rw [show j = p + n by omega]; exact h2
    · intro h
      exact ⟨fun j h1 h2 => h j h1 (by omega), h _ (by omega) (by omega)⟩
def im_blank (d : Im) (p n : Int) : Bool := if rgP p n then blk d p n.toNat else true
def sm (d : Im) (p : Int) : Nat → Int
  | 0 => 0
  | n + 1 => sm d p n + d.1 (p + n)
theorem sm_rg (d : Im) (p : Int) : ∀ n : Nat, 0 ≤ sm d p n ∧ sm d p n ≤ 255 * n
  | 0 => by simp [sm]
  | n + 1 => by
    have h1 := sm_rg d p n
    have h2 := d.2 (p + n)
    simp only [sm]
    omega
theorem sm_next (d : Im) (p i : Int) (h : p ≤ i) : sm d p (i - p).toNat + d.1 i = sm d p (i + 1 - p).toNat := by
  rw [show (i + 1 - p).toNat = (i - p).toNat + 1 by omega, sm, show p + ((i - p).toNat : Int) = i by omega]
def im_sum (d : Im) (p n : Int) : Int := if rgP p n then sm d p n.toNat % 65536 else 0
theorem im_sum_rg (d : Im) (p n : Int) : 0 ≤ im_sum d p n ∧ im_sum d p n < 65536 := by
  unfold im_sum; split <;> omega
/-- two images are the same at n places from p on -/
def sam (d e : Im) (p : Int) : Nat → Bool
  | 0 => true
  | n + 1 => sam d e p n && decide (d.1 (p + n) = e.1 (p + n))
theorem sam_iff (d e : Im) (p : Int) : ∀ n : Nat, sam d e p n = true ↔ ∀ j, p ≤ j → j < p + n → d.1 j = e.1 j
  | 0 => by simp only [sam, true_iff]; intro j h1 h2; omega
  | n + 1 => by
    rw [sam, Bool.and_eq_true, sam_iff d e p n, decide_eq_true_iff]
    constructor
    · rintro ⟨h1, h2⟩ j h3 h4
      by_cases h : j < p + n
      · exact h1 j h3 h
      · rw [show j = p + n by omega]; exact h2
    · intro h
      exact ⟨fun j h1 h2 => h j h1 (by omega), h _ (by omega) (by omega)⟩
def im_same (d e : Im) (b : Int) : Bool := if 0 ≤ b ∧ b < 64 then sam d e (b * 64) 64 else true
theorem clr_next (d : Im) (p i : Int) (h : p ≤ i) : up (clr d p (i - p)) i 0 = clr d p (i + 1 - p) := by
  apply Subtype.ext; funext j
  show (if j = i then (0 : Int) % 256 else if p ≤ j ∧ j < p + (i - p) then 0 else d.1 j) = if p ≤ j ∧ j < p + (i + 1 - p) then 0 else d.1 j
  by_cases hj : j = i
  · rw [if_pos hj, if_pos (by omega)]; rfl
  · rw [if_neg hj]
    by_cases h2 : p ≤ j ∧ j < p + (i - p)
    · rw [if_pos h2, if_pos (by omega)]
    · rw [if_neg h2, if_neg (by omega)]
