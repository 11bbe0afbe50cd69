/-! FINDING A NAME ON THE DISK -/
def fdZ (dk : Im) (i : Int) (x : Int64) : Int := fdR dk i (nmZ x) (nlZ x)
theorem fd_E (dk nb : Im) (i : Int) (x : Int64) : fdR dk i (nm_un nb x 8).1 (nm_un nb x 8).2 = fdZ dk i x := by
  have u := un_E nb zIm x 8
  have e : nmE (nm_un nb x 8).1 (nmZ x) (nm_un nb x 8).2 := by have := u.2; rwa [← u.1] at this
  unfold fdZ fdR nlZ
  rw [e.skE, ← u.1]
theorem rd_ep {dk : Im} {i p y : Int} (hp : 0 ≤ p) (hs : 16 * p + 15 < sz dk i) (hy : 0 ≤ y ∧ y < 16) : rdR dk i (16 * p + y) = if ep dk i p = -1 then -1 else im_at dk (ep dk i p + y) := by
  unfold rdR
  rw [if_neg (by omega)]
  have e1 : (16 * p + y) / 64 = p / 4 := by omega
  have e2 : p * 16 / 64 = p / 4 := by omega
  have ec : ep dk i p = if inR i ∧ p / 4 < 46 ∧ dat (bk dk i (p / 4)) then bk dk i (p / 4) * 64 + p * 16 % 64 else -1 := by
    unfold ep cp; rw [e2]
  have cc : cp dk i (16 * p + y) = if inR i ∧ p / 4 < 46 ∧ dat (bk dk i (p / 4)) then bk dk i (p / 4) * 64 + (16 * p + y) % 64 else -1 := by
    unfold cp; rw [e1]
  rw [cc, ec]
  by_cases c : inR i ∧ p / 4 < 46 ∧ dat (bk dk i (p / 4))
  · have := c.2.2
    rw [if_pos c, if_pos c, if_neg (by omega), if_neg (by omega), show bk dk i (p / 4) * 64 + (16 * p + y) % 64 = bk dk i (p / 4) * 64 + p * 16 % 64 + y by omega]
  · rw [if_neg c, if_neg c, if_pos rfl, if_pos rfl]
theorem ep_184 {dk : Im} {i p : Int} (h : ep dk i p ≠ -1) (hp : 0 ≤ p) : p < 184 := by
  unfold ep cp at h
  by_cases c : inR i ∧ p * 16 / 64 < 46 ∧ dat (bk dk i (p * 16 / 64))
  · omega
  · rw [if_neg c] at h; exact absurd rfl h
/-- the reference compares a name byte by byte -/
theorem fd_m {dk nb : Im} {i p n s : Int} (hp : 0 ≤ p) (hs : 16 * p + 15 < sz dk i) (hn : 1 ≤ n ∧ n ≤ 14) (h : s = 1 ↔ rdR dk i (16 * p + 1) = n ∧ ∀ j : Int, 0 ≤ j → j < n → rdR dk i (16 * p + 2 + j) = nb.1 j) : s = 1 ↔ ep dk i p ≠ -1 ∧ nmd dk (ep dk i p) nb n = true := by
  rw [h, rd_ep hp hs (by omega)]
  unfold nmd
  rw [Bool.and_eq_true, decide_eq_true_iff, nmk_iff]
  by_cases c : ep dk i p = -1
  · rw [if_pos c]; exact ⟨fun z => by omega, fun z => absurd c z.1⟩
  · rw [if_neg c]
    have q : ∀ j : Int, 0 ≤ j → j < n → (rdR dk i (16 * p + 2 + j) = nb.1 j ↔ im_at dk (ep dk i p + 2 + j) = nm_at nb n j) := fun j a b => by
      rw [show 16 * p + 2 + j = 16 * p + (2 + j) by omega, rd_ep hp hs (by omega), if_neg c, nm_at_in nb (by omega), show ep dk i p + (2 + j) = ep dk i p + 2 + j by omega]
    constructor
    · rintro ⟨h1, h2⟩
      exact ⟨c, h1, fun j a b => (q j a (by omega)).mp (h2 j a (by omega))⟩
    · rintro ⟨_, h1, h2⟩
      exact ⟨h1, fun j a b => (q j a b).mpr (h2 j a (by omega))⟩
theorem sks_s {dk nb : Im} {i p n : Int} (hp : p < sz dk i / 16) (hn : ¬ (ep dk i p ≠ -1 ∧ nmd dk (ep dk i p) nb n = true)) : sks dk i nb n (ec dk i - p).toNat p = sks dk i nb n (ec dk i - (p + 1)).toNat (p + 1) := by
  by_cases c : p < ec dk i
  · rw [show (ec dk i - p).toNat = (ec dk i - (p + 1)).toNat + 1 by omega, sks, if_neg hn]
  · rw [show (ec dk i - p).toNat = 0 by omega, show (ec dk i - (p + 1)).toNat = 0 by omega, sks, sks]
theorem sks_t {dk nb : Im} {i p n : Int} (h0 : 0 ≤ p) (hp : p < sz dk i / 16) (hn : ep dk i p ≠ -1 ∧ nmd dk (ep dk i p) nb n = true) : sks dk i nb n (ec dk i - p).toNat p = ep dk i p := by
  have := ep_184 hn.1 h0
  have c : p < ec dk i := by unfold ec; omega
  rw [show (ec dk i - p).toNat = (ec dk i - (p + 1)).toNat + 1 by omega, sks, if_pos hn]
theorem fd_n {dk : Im} {i : Int} {x : Int64} (h : ¬ inR i ∨ x = 0) : fdZ dk i x = -1 := by
  unfold fdZ fdR
  rw [if_pos]
  rcases h with h | h
  · have s : sz dk i = 0 := by unfold sz; rw [if_neg h]
    have e : ec dk i = 0 := by unfold ec; rw [s]; rfl
    unfold sk
    split
    · rfl
    · rw [e]; rfl
  · subst h
    unfold sk nlZ
    rw [un_0, if_pos rfl]
theorem rd_rg (dk : Im) (i j : Int) : -1 ≤ rdR dk i j ∧ rdR dk i j < 256 := by
  unfold rdR
  have := im_at_rg dk (cp dk i j)
  split
  · omega
  · split <;> omega
