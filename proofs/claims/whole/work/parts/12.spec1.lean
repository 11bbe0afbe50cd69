/-! WHAT NAMES, SUPERS AND THE JOURNAL MEAN -/
/-- a name: bytes nb, of which n count -/
def nm_at (nb : Im) (n k : Int) : Int := if 0 ≤ k ∧ k < n ∧ k < 14 then nb.1 k else 0
theorem nm_at_rg (nb : Im) (n k : Int) : 0 ≤ nm_at nb n k ∧ nm_at nb n k < 256 := by
  unfold nm_at; have := nb.2 k; split <;> omega
def nm_addB (nb : Im) (n v : Int) : Im := if 0 ≤ n ∧ n < 14 then up nb n v else nb
def nm_addN (n : Int) : Int := if 0 ≤ n ∧ n < 14 then n + 1 else n
def nm_sp (nb : Im) (t : Nat) : Nat → Im
  | 0 => nb
  | j + 1 => up (nm_sp nb t j) j (tx t j)
def nm_ld (nb d : Im) (p : Int) : Nat → Im
  | 0 => nb
  | j + 1 => up (nm_ld nb d p j) j (im_at d (p + j))
def nm_hash (nb : Im) : Nat → Im
  | 0 => nb
  | j + 1 => up (nm_hash nb j) j 35
def nm_num (nb : Im) (m i : Int) : Im := up (up (nm_hash nb m.toNat) m (48 + i / 10)) (m + 1) (48 + i % 10)
/-- the byte of a long behind s bits -/
def lby (x : Int64) (s : Nat) : Int := ((x.toBitVec.toNat / 2 ^ s % 256 : Nat) : Int)
theorem lby_rg (x : Int64) (s : Nat) : 0 ≤ lby x s ∧ lby x s < 256 := by unfold lby; omega
theorem lby_of (x : Int64) (s : Nat) (hs : s < 64) : ((x.toUInt64 >>> ((iI s).toInt64.toUInt64 &&& Int64.toUInt64 63)).toInt64.toInt32 &&& iI 255) = iI (lby x s) := by
  have e1 : ((iI s).toInt64.toUInt64 &&& Int64.toUInt64 63) = UInt64.ofNat s := by
    have h : ∀ k, k < 64 → ((iI (k : Nat)).toInt64.toUInt64 &&& Int64.toUInt64 63) = UInt64.ofNat k := by decide +kernel
    exact h s hs
  rw [e1, pk_and _ 8 (by decide)]
  show Int32.ofNat _ = _
  rw [iI_nat]
  congr 1
  unfold lby
  congr 1
  have e2 : (x.toUInt64 >>> UInt64.ofNat s).toInt64.toInt32.toBitVec = ((x.toBitVec >>> s).setWidth 32) := by
    have h3 : (UInt64.ofNat s).toBitVec % 64 = BitVec.ofNat 64 s := by
      apply BitVec.eq_of_toNat_eq
      simp
      omega
    show BitVec.signExtend 32 (x.toBitVec >>> ((UInt64.ofNat s).toBitVec % 64)) = _
    rw [h3, BitVec.signExtend_eq_setWidth_of_le _ (by decide)]
    congr 1
    rw [BitVec.ushiftRight_eq', BitVec.toNat_ofNat, Nat.mod_eq_of_lt (by omega)]
  rw [e2, BitVec.toNat_setWidth, BitVec.toNat_ushiftRight, Nat.shiftRight_eq_div_pow]
  omega
/-- a long as a name, its first j bytes told: bytes and how many -/
def nm_un (nb : Im) (x : Int64) : Nat → Im × Int
  | 0 => (nb, 0)
  | j + 1 => if lby x (56 - 8 * j) ≠ 0 ∨ 0 < (nm_un nb x j).2 then (up (nm_un nb x j).1 (nm_un nb x j).2 (lby x (56 - 8 * j)), (nm_un nb x j).2 + 1) else nm_un nb x j
theorem nm_un_rg (nb : Im) (x : Int64) : ∀ j : Nat, 0 ≤ (nm_un nb x j).2 ∧ (nm_un nb x j).2 ≤ j
  | 0 => by simp [nm_un]
  | j + 1 => by
    have h := nm_un_rg nb x j
    rw [nm_un]
    split
    · show 0 ≤ (nm_un nb x j).2 + 1 ∧ (nm_un nb x j).2 + 1 ≤ _; omega
    · omega
/-- no byte 0 or 47 among the first j; how many of them are 46 -/
def nm_good (nb : Im) : Nat → Bool
  | 0 => true
  | j + 1 => nm_good nb j && decide (nb.1 j ≠ 0 ∧ nb.1 j ≠ 47)
theorem nm_good_iff (nb : Im) : ∀ n : Nat, nm_good nb n = true ↔ ∀ j : Int, 0 ≤ j → j < n → nb.1 j ≠ 0 ∧ nb.1 j ≠ 47
  | 0 => by simp only [nm_good, true_iff]; intro j h1 h2; omega
  | n + 1 => by
    rw [nm_good, Bool.and_eq_true, nm_good_iff nb n, decide_eq_true_iff]
    constructor
    · rintro ⟨h1, h2⟩ j h3 h4
      by_cases h : j < n
      · exact h1 j h3 h
      · rw [show j = n by omega]; exact h2
    · intro h
      exact ⟨fun j h1 h2 => h j h1 (by omega), h _ (by omega) (by omega)⟩
def nm_dots (nb : Im) : Nat → Int
  | 0 => 0
  | j + 1 => nm_dots nb j + (if nb.1 j = 46 then 1 else 0)
theorem nm_dots_rg (nb : Im) : ∀ j : Nat, 0 ≤ nm_dots nb j ∧ nm_dots nb j ≤ j
  | 0 => by simp [nm_dots]
  | j + 1 => by
    have h := nm_dots_rg nb j
    rw [nm_dots]
    split <;> omega
def nm_ok (nb : Im) (n : Int) : Bool := nm_good nb n.toNat && decide (2 < n ∨ nm_dots nb n.toNat < n)
-- supers
def su_ok (d : Im) (b : Int) : Bool := im_has d (b * 64) 0 && decide (im_two d (b * 64 + 62) = im_sum d (b * 64) 62)
def su_sum (d : Im) (b : Int) : Im := im_put d (b * 64 + 62) (im_sum d (b * 64) 62)
def su_wr (d : Im) (b x y : Int) : Im := su_sum (im_put (im_put (im_txt (im_wipe d (b * 64) 64) (b * 64) 0 (tn 0).toNat) (b * 64 + 4) x) (b * 64 + 6) y) b
-- the journal
def jn_right (d : Im) : Int := (im_sum d 64 62 + im_sum d 128 (min (im_at d 68) 5 * 64)) % 65536
theorem jn_right_rg (d : Im) : 0 ≤ jn_right d ∧ jn_right d < 65536 := by unfold jn_right; omega
def jn_sum (d : Im) : Im := im_put d 126 (jn_right d)
def jn_tg (d : Im) (x : Int64) : Nat → Im
  | 0 => d
  | j + 1 => im_set (jn_tg d x j) (69 + j) (lby x (56 - 8 * j))
def jn_wr (d : Im) (x : Int64) (n : Int) : Im := jn_sum (jn_tg (im_set (im_txt (im_wipe d 64 64) 64 1 (tn 1).toNat) 68 n) x n.toNat)
/-- the first j block numbers are different ones of 7 .. 62 -/
def jn_tgs (d : Im) : Nat → Prop := fun n => ∀ j : Int, 0 ≤ j → j < n → (7 ≤ im_at d (69 + j) ∧ im_at d (69 + j) ≤ 62) ∧ ∀ i : Int, 0 ≤ i → i < j → im_at d (69 + i) ≠ im_at d (69 + j)
