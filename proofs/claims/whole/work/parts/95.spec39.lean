/-! THE WRITER: NAMES -/
theorem un_E (nb nc : Im) (x : Int64) : ∀ j : Nat, (nm_un nb x j).2 = (nm_un nc x j).2 ∧ nmE (nm_un nb x j).1 (nm_un nc x j).1 (nm_un nc x j).2
  | 0 => ⟨rfl, fun j a b => by have : j < 0 := b; omega⟩
  | j + 1 => by
    obtain ⟨h1, h2⟩ := un_E nb nc x j
    rw [nm_un, nm_un, h1]
    by_cases c : lby x (56 - 8 * j) ≠ 0 ∨ 0 < (nm_un nc x j).2
    · rw [if_pos c, if_pos c]
      refine ⟨rfl, fun z a b => ?_⟩
      have b2 : z < (nm_un nc x j).2 + 1 := b
      show (up _ _ _).1 z = (up _ _ _).1 z
      rw [up_at, up_at]
      by_cases e : z = (nm_un nc x j).2
      · rw [if_pos e, if_pos e]
      · rw [if_neg e, if_neg e]; exact h2 z a (by omega)
    · rw [if_neg c, if_neg c]; exact ⟨h1, h2⟩
theorem un_z (nb : Im) (x : Int64) : ∀ j : Nat, (nm_un nb x j).2 = 0 → ∀ i : Nat, i < j → lby x (56 - 8 * i) = 0
  | 0, _, i, hi => by omega
  | j + 1, h, i, hi => by
    have r := nm_un_rg nb x j
    rw [nm_un] at h
    by_cases c : lby x (56 - 8 * j) ≠ 0 ∨ 0 < (nm_un nb x j).2
    · rw [if_pos c] at h
      have h2 : (nm_un nb x j).2 + 1 = 0 := h
      omega
    · rw [if_neg c] at h
      by_cases e : i = j
      · subst e
        rcases Classical.em (lby x (56 - 8 * i) = 0) with q | q
        · exact q
        · exact absurd (Or.inl q) c
      · exact un_z nb x j h i (by omega)
theorem un_pos (nb : Im) {x : Int64} (h : x ≠ 0) : 1 ≤ (nm_un nb x 8).2 := by
  have r := nm_un_rg nb x 8
  rcases Classical.em ((nm_un nb x 8).2 = 0) with e | e
  · exfalso
    apply h
    have z := un_z nb x 8 e
    have z0 := z 0 (by omega)
    have z1 := z 1 (by omega)
    have z2 := z 2 (by omega)
    have z3 := z 3 (by omega)
    have z4 := z 4 (by omega)
    have z5 := z 5 (by omega)
    have z6 := z 6 (by omega)
    have z7 := z 7 (by omega)
    unfold lby at z0 z1 z2 z3 z4 z5 z6 z7
    have lt := x.toBitVec.isLt
    rw [← Int64.toBitVec_inj]
    apply BitVec.eq_of_toNat_eq
    show x.toBitVec.toNat = 0
    generalize x.toBitVec.toNat = X at *
    have a0 : X < 2 ^ 56 := by omega
    have a1 : X < 2 ^ 48 := by omega
    have a2 : X < 2 ^ 40 := by omega
    have a3 : X < 2 ^ 32 := by omega
    have a4 : X < 2 ^ 24 := by omega
    have a5 : X < 2 ^ 16 := by omega
    have a6 : X < 2 ^ 8 := by omega
    omega
  · omega
theorem lby_0 (s : Nat) : lby 0 s = 0 := by
  unfold lby
  show (((0#64).toNat / 2 ^ s % 256 : Nat) : Int) = 0
  simp
theorem un_0 (nb : Im) : ∀ j : Nat, (nm_un nb 0 j).2 = 0
  | 0 => rfl
  | j + 1 => by
    rw [nm_un, if_neg (by rw [lby_0, un_0 nb j]; omega)]; exact un_0 nb j
abbrev nmZ (x : Int64) : Im := (nm_un zIm x 8).1
abbrev nlZ (x : Int64) : Int := (nm_un zIm x 8).2
theorem wm_E {d nb nc : Im} {i n : Int} (h : nmE nb nc n) (hn : 0 ≤ n) : wmB d i nb n = wmB d i nc n := by
  unfold wmB; rw [h.okE hn, h.skE]
theorem wm_0 {d nb : Im} {i : Int} : wmB d i nb 0 = false := by
  unfold wmB nm_ok
  have : decide ((2 : Int) < 0 ∨ nm_dots nb (0 : Int).toNat < 0) = false := by
    rw [decide_eq_false_iff_not]
    show ¬ ((2 : Int) < 0 ∨ nm_dots nb 0 < 0)
    rw [nm_dots]; omega
  rw [this]; simp
theorem wm_k {d nb : Im} {i n : Int} (h : ¬ kd d i = 2) : wmB d i nb n = false := by
  unfold wmB; rw [decide_eq_false h]; rfl
def mpB (dk : Im) (i : Int) (x : Int64) : Bool := decide (ckZ dk = 0) && wmB (plZ dk) i (nmZ x) (nlZ x)
theorem mp_c {dk : Im} {i : Int} {x : Int64} (h : ¬ ckZ dk = 0) : mpB dk i x = false := by unfold mpB; rw [decide_eq_false h]; rfl
theorem mp_k {dk : Im} {i : Int} {x : Int64} (h : ¬ kd (plZ dk) i = 2) : mpB dk i x = false := by unfold mpB; rw [wm_k h, Bool.and_false]
theorem mp_0 {dk : Im} {i : Int} : mpB dk i 0 = false := by
  unfold mpB nlZ
  rw [un_0, wm_0, Bool.and_false]
theorem mp_z {dk : Im} {i : Int} {x : Int64} (h : mpB dk i x = true) : ckZ dk = 0 ∧ wmB (plZ dk) i (nmZ x) (nlZ x) = true := by
  unfold mpB at h
  rwa [Bool.and_eq_true, decide_eq_true_iff] at h
theorem ck_X {dk : Im} (h : ckZ dk = 0) : ¬ plX dk := fun z => by unfold ckZ at h; rw [if_pos z] at h; omega
theorem wm_t {d nb : Im} {i n : Int} (h : wmB d i nb n = true) : kd d i = 2 ∧ nm_ok nb n = true ∧ sk d i nb n = -1 := by
  unfold wmB at h
  rwa [Bool.and_eq_true, Bool.and_eq_true, decide_eq_true_iff, decide_eq_true_iff] at h
theorem wm_n {d nb : Im} {i n : Int} (hn : 0 ≤ n) (h : wmB d i nb n = true) : 1 ≤ n := by
  rcases Classical.em (n = 0) with e | e
  · rw [e, wm_0] at h; cases h
  · omega
/-- what mayPut finds out -/
theorem mp_e {dk nb : Im} {i g t : Int} {x : Int64} (P : PK dk) (hc : ckZ dk = 0) (hi : drI (plZ dk) i) (hx : x ≠ 0) (hg : g = 1 ↔ ∀ j : Int, 0 ≤ j → j < (nm_un nb x 8).2 → ((nm_un nb x 8).1.1 j ≠ 0 ∧ (nm_un nb x 8).1.1 j ≠ 47)) (ht : t = 1 ↔ (nm_un nb x 8).2 < 3 ∧ ∀ j : Int, 0 ≤ j → j < (nm_un nb x 8).2 → (nm_un nb x 8).1.1 j = 46) : mpB dk i x = decide (g = 1 ∧ ¬ t = 1 ∧ rfs (plZ dk) i (nm_un nb x 8).1 (nm_un nb x 8).2 (sz (plZ dk) i / 16 - 2).toNat 2 = -1) := by
  have u := un_E nb zIm x 8
  have r := nm_un_rg nb x 8
  have p := un_pos nb hx
  unfold mpB nmZ nlZ
  rw [decide_eq_true hc, Bool.true_and, ← u.1, ← wm_E (by have := u.2; rwa [← u.1] at this) r.1]
  unfold wmB
  rw [decide_eq_true hi.2.2, Bool.true_and, Bool.eq_iff_iff, Bool.and_eq_true, decide_eq_true_iff, decide_eq_true_iff, ok_iff _ r.1, hg, ht, sk_rf P.1 hi p P.2.1, and_assoc]
theorem en_E {tm : Int64} {d nb nc : Im} {D i n : Int} (h : nmE nb nc n) : enD tm d D i nb n = enD tm d D i nc n := by
  unfold enD; rw [h.weE]
theorem ckZ_rg (dk : Im) : -1 ≤ ckZ dk ∧ ckZ dk ≤ 64 := by
  unfold ckZ
  have := cds_rg (plZ dk) dk 64 0 0
  split <;> omega
-- link
def lnB (dk : Im) (i c : Int) (x : Int64) : Bool := decide (ckZ dk = 0) && aeB (pzC dk).1 (plZ dk) i c (nmZ x) (nlZ x)
def lnD (dk : Im) (i c : Int) (x : Int64) : Im := if lnB dk i c x = true then stD (aeT (pzC dk).1 (plZ dk) i c (nmZ x) (nlZ x)) (aeD (pzC dk).1 (plZ dk) i c (nmZ x) (nlZ x)) else dk
theorem ln_m {dk : Im} {i c : Int} {x : Int64} (h : mpB dk i x = false) : lnB dk i c x = false := by
  unfold lnB aeB aeX
  unfold mpB at h
  cases z : decide (ckZ dk = 0) with
  | false => rfl
  | true => rw [z, Bool.true_and] at h; rw [if_pos (Or.inr h)]; rfl
theorem ln_k {dk : Im} {i c : Int} {x : Int64} (h : ¬ kd (plZ dk) c = 1) : lnB dk i c x = false := by
  unfold lnB aeB aeX
  rw [if_pos (Or.inl h), Bool.and_false]
theorem ln_e {dk : Im} {i c : Int} {x : Int64} (h : mpB dk i x = true) (hk : kd (plZ dk) c = 1) : lnB dk i c x = decide (¬ rmR (pzC dk).1 (plZ dk) i = -1) ∧ aeT (pzC dk).1 (plZ dk) i c (nmZ x) (nlZ x) = rmT (pzC dk).1 (plZ dk) i ∧ aeD (pzC dk).1 (plZ dk) i c (nmZ x) (nlZ x) = enD (pzC dk).1 (plZ dk) i c (nmZ x) (nlZ x) := by
  have m := mp_z h
  have nx : ¬ aeX (plZ dk) i c (nmZ x) (nlZ x) := fun z => by
    rcases z with z | z
    · exact z hk
    · rw [m.2] at z; cases z
  unfold lnB aeB aeT aeD
  rw [decide_eq_true m.1, Bool.true_and, if_neg nx, if_neg nx, if_neg nx]
  exact ⟨rfl, rfl, rfl⟩
