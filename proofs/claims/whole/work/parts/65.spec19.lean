/-! COUNTING BITS -/
def bmap (f : Nat → Nat) : Nat → Nat → Nat
  | 0, _ => 0
  | n + 1, X => f (X % 256) + 256 * bmap f n (X / 256)
/-- a byte again and again -/
def rpt (c : Nat) : Nat → Nat
  | 0 => 0
  | n + 1 => c + 256 * rpt c n
theorem land_split (a b : Nat) : a &&& b = (a % 256 &&& b % 256) + 256 * (a / 256 &&& b / 256) := by
  have h1 : (a &&& b) % 256 = a % 256 &&& b % 256 := Nat.and_mod_two_pow (n := 8)
  have h2 : (a &&& b) / 256 = a / 256 &&& b / 256 := Nat.and_div_two_pow (n := 8)
  rw [← h1, ← h2]; omega
theorem rpt_mod (c n : Nat) (hc : c < 256) : rpt c (n + 1) % 256 = c ∧ rpt c (n + 1) / 256 = rpt c n := by
  rw [rpt]; omega
theorem k55 : ∀ y, y < 256 → ∀ t, t < 2 → ((y / 2 + 128 * t) &&& 85) = (y / 2 &&& 85) := by decide +kernel
theorem k33 : ∀ y, y < 256 → ∀ t, t < 4 → ((y / 4 + 64 * t) &&& 51) = (y / 4 &&& 51) := by decide +kernel
theorem and55 : ∀ (n X : Nat), (X / 2) &&& rpt 85 n = bmap (fun y => y / 2 &&& 85) n X
  | 0, X => by rw [rpt, bmap, Nat.and_zero]
  | n + 1, X => by
    rw [land_split, (rpt_mod 85 n (by omega)).1, (rpt_mod 85 n (by omega)).2, bmap, ← and55 n (X / 256), show X / 2 / 256 = X / 256 / 2 by omega, show X / 2 % 256 = X % 256 / 2 + 128 * (X / 256 % 2) by omega, k55 _ (by omega) _ (by omega)]
theorem and33 : ∀ (n X : Nat), X &&& rpt 51 n = bmap (fun y => y &&& 51) n X
  | 0, X => by rw [rpt, bmap, Nat.and_zero]
  | n + 1, X => by
    rw [land_split, (rpt_mod 51 n (by omega)).1, (rpt_mod 51 n (by omega)).2, bmap, ← and33 n (X / 256)]
theorem and33b : ∀ (n X : Nat), (X / 4) &&& rpt 51 n = bmap (fun y => y / 4 &&& 51) n X
  | 0, X => by rw [rpt, bmap, Nat.and_zero]
  | n + 1, X => by
    rw [land_split, (rpt_mod 51 n (by omega)).1, (rpt_mod 51 n (by omega)).2, bmap, ← and33b n (X / 256), show X / 4 / 256 = X / 256 / 4 by omega, show X / 4 % 256 = X % 256 / 4 + 64 * (X / 256 % 4) by omega, k33 _ (by omega) _ (by omega)]
theorem bmap_sub (g : Nat → Nat) (hg : ∀ y, y < 256 → g y ≤ y) : ∀ (n X : Nat), X < 256 ^ n → bmap g n X ≤ X ∧ X - bmap g n X = bmap (fun y => y - g y) n X
  | 0, X, h => by simp only [bmap]; simp at h; omega
  | n + 1, X, h => by
    have h1 := hg (X % 256) (by omega)
    have h2 := bmap_sub g hg n (X / 256) (by rw [Nat.pow_succ] at h; omega)
    simp only [bmap]
    rw [← h2.2]
    omega
theorem bmap_add (f g : Nat → Nat) : ∀ (n X : Nat), bmap f n X + bmap g n X = bmap (fun y => f y + g y) n X
  | 0, X => rfl
  | n + 1, X => by simp only [bmap]; rw [← bmap_add f g n]; omega
theorem bmap_lt (f : Nat → Nat) (hf : ∀ y, y < 256 → f y < 256) : ∀ (n X : Nat), bmap f n X < 256 ^ n
  | 0, X => by simp [bmap]
  | n + 1, X => by
    have h1 := hf (X % 256) (by omega)
    have h2 := bmap_lt f hf n (X / 256)
    simp only [bmap]; rw [Nat.pow_succ]; omega
theorem bmap_comp (f g : Nat → Nat) (hf : ∀ y, y < 256 → f y < 256) : ∀ (n X : Nat), bmap g n (bmap f n X) = bmap (fun y => g (f y)) n X
  | 0, X => rfl
  | n + 1, X => by
    have h1 := hf (X % 256) (by omega)
    simp only [bmap]
    rw [show (f (X % 256) + 256 * bmap f n (X / 256)) % 256 = f (X % 256) by omega, show (f (X % 256) + 256 * bmap f n (X / 256)) / 256 = bmap f n (X / 256) by omega, bmap_comp f g hf n]
theorem bmap_congr (f g : Nat → Nat) (h : ∀ y, y < 256 → f y = g y) : ∀ (n X : Nat), bmap f n X = bmap g n X
  | 0, X => rfl
  | n + 1, X => by simp only [bmap]; rw [h _ (by omega), bmap_congr f g h n]
theorem bmap_0f (f : Nat → Nat) (hf : ∀ y, y < 256 → f y % 16 ≤ 4 ∧ f y / 16 ≤ 4) : ∀ (n X : Nat), (bmap f n X + bmap f n X / 16) &&& rpt 15 n = bmap (fun y => f y % 16 + f y / 16) n X
  | 0, X => by rw [rpt, bmap, Nat.and_zero]; rfl
  | n + 1, X => by
    have h1 := hf (X % 256) (by omega)
    have h2 : bmap f n (X / 256) % 16 ≤ 4 := by
      cases n with
      | zero => simp [bmap]
      | succ n => have := hf (X / 256 % 256) (by omega); simp only [bmap]; omega
    rw [land_split, (rpt_mod 15 n (by omega)).1, (rpt_mod 15 n (by omega)).2]
    simp only [bmap]
    rw [← bmap_0f f hf n (X / 256)]
    have e1 : (f (X % 256) + 256 * bmap f n (X / 256) + (f (X % 256) + 256 * bmap f n (X / 256)) / 16) / 256 = bmap f n (X / 256) + bmap f n (X / 256) / 16 := by omega
    have e2 : (f (X % 256) + 256 * bmap f n (X / 256) + (f (X % 256) + 256 * bmap f n (X / 256)) / 16) % 256 = f (X % 256) + f (X % 256) / 16 + 16 * (bmap f n (X / 256) % 16) := by omega
    rw [e1, e2]
    have e3 : ∀ z : Nat, z &&& 15 = z % 16 := fun z => Nat.and_two_pow_sub_one_eq_mod z 4
    rw [e3]
    omega
/-- how many of the first n bits are set -/
def cnN : Nat → Nat → Nat
  | 0, _ => 0
  | n + 1, X => X % 2 + cnN n (X / 2)
theorem cnN_8 (n X : Nat) : cnN (8 + n) X = cnN 8 (X % 256) + cnN n (X / 256) := by
  rw [show 8 + n = n + 8 by omega]
  simp only [cnN]
  have e : X / 2 / 2 / 2 / 2 / 2 / 2 / 2 / 2 = X / 256 := by omega
  rw [e]; omega
def pf1 (y : Nat) : Nat := y - (y / 2 &&& 85)
def pf2 (y : Nat) : Nat := (y &&& 51) + (y / 4 &&& 51)
def pf3 (y : Nat) : Nat := y % 16 + y / 16
theorem pf_ok : ∀ y, y < 256 → (y / 2 &&& 85) ≤ y ∧ pf1 y < 256 ∧ pf2 (pf1 y) < 256 ∧ pf2 (pf1 y) % 16 ≤ 4 ∧ pf2 (pf1 y) / 16 ≤ 4 ∧ pf3 (pf2 (pf1 y)) = cnN 8 y ∧ cnN 8 y ≤ 8 := by decide +kernel
theorem pf2_lt : ∀ y, y < 256 → pf2 y < 256 := by decide +kernel
theorem bsh_nat (x : Int64) (s : Nat) (hs : s < 64) : (bsh x s).toBitVec.toNat = x.toBitVec.toNat / 2 ^ s := by
  unfold bsh
  have e1 : ((iI s).toInt64.toUInt64 &&& Int64.toUInt64 63) = UInt64.ofNat s := by
    have h : ∀ k, k < 64 → ((iI (k : Nat)).toInt64.toUInt64 &&& Int64.toUInt64 63) = UInt64.ofNat k := by decide +kernel
    exact h s hs
  rw [e1]
  have h3 : (UInt64.ofNat s).toBitVec % 64 = BitVec.ofNat 64 s := by
    apply BitVec.eq_of_toNat_eq
    simp
    omega
  show (x.toBitVec >>> ((UInt64.ofNat s).toBitVec % 64)).toNat = _
  rw [h3, BitVec.ushiftRight_eq', BitVec.toNat_ofNat, Nat.mod_eq_of_lt (by omega), BitVec.toNat_ushiftRight, Nat.shiftRight_eq_div_pow]
theorem bs_add (x y : Int64) (h : x.toBitVec.toNat + y.toBitVec.toNat < 2 ^ 64) : (x + y).toBitVec.toNat = x.toBitVec.toNat + y.toBitVec.toNat := by
  show (x.toBitVec + y.toBitVec).toNat = _
  rw [BitVec.toNat_add, Nat.mod_eq_of_lt h]
theorem bs_and (x y : Int64) : (x &&& y).toBitVec.toNat = x.toBitVec.toNat &&& y.toBitVec.toNat := BitVec.toNat_and ..
theorem bs_sub (x y : Int64) (h : y.toBitVec.toNat ≤ x.toBitVec.toNat) : (x - y).toBitVec.toNat = x.toBitVec.toNat - y.toBitVec.toNat := by
  show (x.toBitVec - y.toBitVec).toNat = _
  rw [BitVec.toNat_sub]
  have := x.toBitVec.isLt
  have := y.toBitVec.isLt
  omega
theorem bs1_nat (x : Int64) : (bs1 x).toBitVec.toNat = bmap pf1 8 x.toBitVec.toNat := by
  unfold bs1
  have e : (bsh x 1 &&& 6148914691236517205).toBitVec.toNat = bmap (fun y => y / 2 &&& 85) 8 x.toBitVec.toNat := by
    rw [bs_and, show bsh x 1 = bsh x ((1 : Nat) : Int) from rfl, bsh_nat x 1 (by omega), ← and55, show (2 : Nat) ^ 1 = 2 from rfl]; rfl
  have h := bmap_sub (fun y => y / 2 &&& 85) (fun y hy => (pf_ok y hy).1) 8 x.toBitVec.toNat x.toBitVec.isLt
  rw [bs_sub _ _ (by rw [e]; exact h.1), e, h.2]; rfl
theorem bs2_nat (x : Int64) : (bs2 x).toBitVec.toNat = bmap pf2 8 x.toBitVec.toNat := by
  unfold bs2
  have e1 : (x &&& 3689348814741910323).toBitVec.toNat = bmap (fun y => y &&& 51) 8 x.toBitVec.toNat := by
    rw [bs_and, ← and33]; rfl
  have e2 : (bsh x 2 &&& 3689348814741910323).toBitVec.toNat = bmap (fun y => y / 4 &&& 51) 8 x.toBitVec.toNat := by
    rw [bs_and, show bsh x 2 = bsh x ((2 : Nat) : Int) from rfl, bsh_nat x 2 (by omega), ← and33b, show (2 : Nat) ^ 2 = 4 from rfl]; rfl
  have e3 : bmap (fun y => y &&& 51) 8 x.toBitVec.toNat + bmap (fun y => y / 4 &&& 51) 8 x.toBitVec.toNat = bmap pf2 8 x.toBitVec.toNat := bmap_add _ _ 8 _
  rw [bs_add _ _ (by rw [e1, e2, e3]; exact bmap_lt pf2 pf2_lt 8 _), e1, e2, e3]
theorem bs3_nat (x : Int64) (f : Nat → Nat) (hf : ∀ y, y < 256 → f y % 16 ≤ 4 ∧ f y / 16 ≤ 4) (X : Nat) (hx : x.toBitVec.toNat = bmap f 8 X) : (bs3 x).toBitVec.toNat = bmap (fun y => pf3 (f y)) 8 X := by
  unfold bs3
  have e2 : (bsh x 4).toBitVec.toNat = x.toBitVec.toNat / 16 := by
    rw [show bsh x 4 = bsh x ((4 : Nat) : Int) from rfl, bsh_nat x 4 (by omega)]
  have lt : x.toBitVec.toNat + x.toBitVec.toNat / 16 < 2 ^ 64 := by
    rw [hx]
    simp only [bmap]
    have a0 := hf (X % 256) (by omega)
    have a1 := hf (X / 256 % 256) (by omega)
    have a2 := hf (X / 256 / 256 % 256) (by omega)
    have a3 := hf (X / 256 / 256 / 256 % 256) (by omega)
    have a4 := hf (X / 256 / 256 / 256 / 256 % 256) (by omega)
    have a5 := hf (X / 256 / 256 / 256 / 256 / 256 % 256) (by omega)
    have a6 := hf (X / 256 / 256 / 256 / 256 / 256 / 256 % 256) (by omega)
    have a7 := hf (X / 256 / 256 / 256 / 256 / 256 / 256 / 256 % 256) (by omega)
    omega
  rw [bs_and, bs_add _ _ (by rw [e2]; exact lt), e2, hx, show (1085102592571150095 : Int64).toBitVec.toNat = rpt 15 8 from rfl, bmap_0f f hf]
  rfl
theorem swar1 (p0 q1 a : Nat) (h : p0 ≤ 8) (ha : a = p0 + 256 * q1) : a / 256 = q1 := by omega
theorem swar2 (p0 p1 p2 q1 q2 q3 a b : Nat) (h : p0 ≤ 8 ∧ p1 ≤ 8 ∧ p2 ≤ 8) (ha : a = p0 + 256 * q1) (h1 : q1 = p1 + 256 * q2) (h2 : q2 = p2 + 256 * q3) (hb : b = a + q1) : b = (p0 + p1) + 256 * (p1 + p2) + 65536 * (q2 + q3) ∧ b / 65536 = q2 + q3 := by
  have e : b = (p0 + p1) + 256 * (p1 + p2) + 65536 * (q2 + q3) := by omega
  refine ⟨e, ?_⟩
  clear ha h1 h2 hb
  omega
theorem swar3 (l q2 q3 q4 q5 q6 q7 p2 p3 p4 p5 p6 b c : Nat) (h : l ≤ 4112 ∧ p2 ≤ 8 ∧ p3 ≤ 8 ∧ p4 ≤ 8 ∧ p5 ≤ 8 ∧ p6 ≤ 8) (hb : b = l + 65536 * (q2 + q3)) (h2 : q2 = p2 + 256 * q3) (h3 : q3 = p3 + 256 * q4) (h4 : q4 = p4 + 256 * q5) (h5 : q5 = p5 + 256 * q6) (h6 : q6 = p6 + 256 * q7) (hc : c = b + (q2 + q3)) : c = (l + (p2 + p3) + 256 * (p3 + p4) + 65536 * (p2 + p3 + p4 + p5) + 16777216 * (p3 + p4 + p5 + p6)) + 4294967296 * (q4 + q5 + q6 + q7) ∧ c / 4294967296 = q4 + q5 + q6 + q7 := by
  have e : c = (l + (p2 + p3) + 256 * (p3 + p4) + 65536 * (p2 + p3 + p4 + p5) + 16777216 * (p3 + p4 + p5 + p6)) + 4294967296 * (q4 + q5 + q6 + q7) := by omega
  refine ⟨e, ?_⟩
  clear hb h2 h3 h4 h5 h6 hc
  omega
theorem swar (p0 p1 p2 p3 p4 p5 p6 p7 : Nat) (h : p0 ≤ 8 ∧ p1 ≤ 8 ∧ p2 ≤ 8 ∧ p3 ≤ 8 ∧ p4 ≤ 8 ∧ p5 ≤ 8 ∧ p6 ≤ 8 ∧ p7 ≤ 8) (a b c d : Nat) (ha : a = p0 + 256 * (p1 + 256 * (p2 + 256 * (p3 + 256 * (p4 + 256 * (p5 + 256 * (p6 + 256 * p7))))))) (hb : b = a + a / 256) (hc : c = b + b / 65536) (hd : d = c + c / 4294967296) : (b < 2 ^ 64 ∧ c < 2 ^ 64 ∧ d < 2 ^ 64) ∧ d % 128 = p0 + p1 + p2 + p3 + p4 + p5 + p6 + p7 := by
  generalize h6 : p6 + 256 * p7 = q6 at ha
  generalize h5 : p5 + 256 * q6 = q5 at ha
  generalize h4 : p4 + 256 * q5 = q4 at ha
  generalize h3 : p3 + 256 * q4 = q3 at ha
  generalize h2 : p2 + 256 * q3 = q2 at ha
  generalize h1 : p1 + 256 * q2 = q1 at ha
  have s1 := swar1 p0 q1 a h.1 ha
  rw [s1] at hb
  have s2 := swar2 p0 p1 p2 q1 q2 q3 a b ⟨h.1, h.2.1, h.2.2.1⟩ ha h1.symm h2.symm hb
  rw [s2.2] at hc
  have s3 := swar3 ((p0 + p1) + 256 * (p1 + p2)) q2 q3 q4 q5 q6 p7 p2 p3 p4 p5 p6 b c (by omega) s2.1 h2.symm h3.symm h4.symm h5.symm h6.symm hc
  rw [s3.2] at hd
  have b6 : q6 ≤ 2056 := by omega
  have b5 : q5 ≤ 526344 := by omega
  have b4 : q4 ≤ 134744072 := by omega
  have bq : q4 + q5 + q6 + p7 ≤ 135272480 := by omega
  have dq : q4 + q5 + q6 + p7 = (p4 + p5 + p6 + p7) + 256 * (q5 + q6 + p7) := by omega
  have e := s3.1
  refine ⟨⟨?_, ?_, ?_⟩, ?_⟩
  · clear ha h1 h2 h3 h4 h5 h6 s2 s3 s1 dq; omega
  · clear ha h1 h2 h3 h4 h5 h6 s2 s3 s1 dq hb; omega
  · clear ha h1 h2 h3 h4 h5 h6 s2 s3 s1 dq hb hc; omega
  · rw [hd, e, dq]
    clear ha h1 h2 h3 h4 h5 h6 s2 s3 s1 hb hc hd bq b6 b5 b4 e
    omega
theorem pcn_nat (x : Int64) : pcn x = (cnN 64 x.toBitVec.toNat : Nat) := by
  have h1 := bs1_nat x
  have h2 := bs2_nat (bs1 x)
  rw [h1, bmap_comp pf1 pf2 (fun y hy => (pf_ok y hy).2.1)] at h2
  have h3 := bs3_nat (bs2 (bs1 x)) (fun y => pf2 (pf1 y)) (fun y hy => ⟨(pf_ok y hy).2.2.2.1, (pf_ok y hy).2.2.2.2.1⟩) _ h2
  rw [bmap_congr _ (cnN 8) (fun y hy => (pf_ok y hy).2.2.2.2.2.1)] at h3
  unfold pcn
  generalize bs3 (bs2 (bs1 x)) = z at h3 ⊢
  generalize hX : x.toBitVec.toNat = X at h3 ⊢
  have pc : ∀ y, y < 256 → cnN 8 y ≤ 8 := fun y hy => (pf_ok y hy).2.2.2.2.2.2
  have a0 := pc (X % 256) (by omega)
  have a1 := pc (X / 256 % 256) (by omega)
  have a2 := pc (X / 256 / 256 % 256) (by omega)
  have a3 := pc (X / 256 / 256 / 256 % 256) (by omega)
  have a4 := pc (X / 256 / 256 / 256 / 256 % 256) (by omega)
  have a5 := pc (X / 256 / 256 / 256 / 256 / 256 % 256) (by omega)
  have a6 := pc (X / 256 / 256 / 256 / 256 / 256 / 256 % 256) (by omega)
  have a7 := pc (X / 256 / 256 / 256 / 256 / 256 / 256 / 256 % 256) (by omega)
  have tot : cnN 64 X = cnN 8 (X % 256) + cnN 8 (X / 256 % 256) + cnN 8 (X / 256 / 256 % 256) + cnN 8 (X / 256 / 256 / 256 % 256) + cnN 8 (X / 256 / 256 / 256 / 256 % 256) + cnN 8 (X / 256 / 256 / 256 / 256 / 256 % 256) + cnN 8 (X / 256 / 256 / 256 / 256 / 256 / 256 % 256) + cnN 8 (X / 256 / 256 / 256 / 256 / 256 / 256 / 256 % 256) := by
    have t := fun n X => cnN_8 n X
    rw [show 64 = 8 + 56 from rfl, t, show 56 = 8 + 48 from rfl, t, show 48 = 8 + 40 from rfl, t, show 40 = 8 + 32 from rfl, t, show 32 = 8 + 24 from rfl, t, show 24 = 8 + 16 from rfl, t, show 16 = 8 + 8 from rfl, t, show cnN 8 (X / 256 / 256 / 256 / 256 / 256 / 256 / 256) = cnN 8 (X / 256 / 256 / 256 / 256 / 256 / 256 / 256 % 256) from by rw [show X / 256 / 256 / 256 / 256 / 256 / 256 / 256 % 256 = X / 256 / 256 / 256 / 256 / 256 / 256 / 256 from by have := x.toBitVec.isLt; rw [hX] at this; omega]]
    omega
  rw [tot]
  have hz : z.toBitVec.toNat = cnN 8 (X % 256) + 256 * (cnN 8 (X / 256 % 256) + 256 * (cnN 8 (X / 256 / 256 % 256) + 256 * (cnN 8 (X / 256 / 256 / 256 % 256) + 256 * (cnN 8 (X / 256 / 256 / 256 / 256 % 256) + 256 * (cnN 8 (X / 256 / 256 / 256 / 256 / 256 % 256) + 256 * (cnN 8 (X / 256 / 256 / 256 / 256 / 256 / 256 % 256) + 256 * cnN 8 (X / 256 / 256 / 256 / 256 / 256 / 256 / 256 % 256))))))) := by
    rw [h3]; simp only [bmap]; omega
  generalize cnN 8 (X % 256) = p0 at *
  generalize cnN 8 (X / 256 % 256) = p1 at *
  generalize cnN 8 (X / 256 / 256 % 256) = p2 at *
  generalize cnN 8 (X / 256 / 256 / 256 % 256) = p3 at *
  generalize cnN 8 (X / 256 / 256 / 256 / 256 % 256) = p4 at *
  generalize cnN 8 (X / 256 / 256 / 256 / 256 / 256 % 256) = p5 at *
  generalize cnN 8 (X / 256 / 256 / 256 / 256 / 256 / 256 % 256) = p6 at *
  generalize cnN 8 (X / 256 / 256 / 256 / 256 / 256 / 256 / 256 % 256) = p7 at *
  have sw := swar p0 p1 p2 p3 p4 p5 p6 p7 ⟨a0, a1, a2, a3, a4, a5, a6, a7⟩ _ _ _ _ hz rfl rfl rfl
  have q4 : (bsh z 8).toBitVec.toNat = z.toBitVec.toNat / 256 := by
    rw [show bsh z 8 = bsh z ((8 : Nat) : Int) from rfl, bsh_nat z 8 (by omega)]
  have r4 : (bs4 z).toBitVec.toNat = z.toBitVec.toNat + z.toBitVec.toNat / 256 := by
    unfold bs4; rw [bs_add _ _ (by rw [q4]; exact sw.1.1), q4]
  have q5 : (bsh (bs4 z) 16).toBitVec.toNat = (bs4 z).toBitVec.toNat / 65536 := by
    rw [show bsh (bs4 z) 16 = bsh (bs4 z) ((16 : Nat) : Int) from rfl, bsh_nat _ 16 (by omega)]
  have r5 : (bs5 (bs4 z)).toBitVec.toNat = (bs4 z).toBitVec.toNat + (bs4 z).toBitVec.toNat / 65536 := by
    unfold bs5; rw [bs_add _ _ (by rw [q5, r4]; exact sw.1.2.1), q5]
  have q6 : (bsh (bs5 (bs4 z)) 32).toBitVec.toNat = (bs5 (bs4 z)).toBitVec.toNat / 4294967296 := by
    rw [show bsh (bs5 (bs4 z)) 32 = bsh (bs5 (bs4 z)) ((32 : Nat) : Int) from rfl, bsh_nat _ 32 (by omega)]
  have r6 : (bs6 (bs5 (bs4 z))).toBitVec.toNat = (bs5 (bs4 z)).toBitVec.toNat + (bs5 (bs4 z)).toBitVec.toNat / 4294967296 := by
    unfold bs6; rw [bs_add _ _ (by rw [q6, r5, r4]; exact sw.1.2.2), q6]
  rw [r5, r4] at r6
  have fin : ((bs6 (bs5 (bs4 z))).toInt32).toBitVec.toNat % 128 = (bs6 (bs5 (bs4 z))).toBitVec.toNat % 128 := by
    show (BitVec.signExtend 32 (bs6 (bs5 (bs4 z))).toBitVec).toNat % 128 = _
    rw [BitVec.signExtend_eq_setWidth_of_le _ (by decide), BitVec.toNat_setWidth]
    omega
  rw [pk_and _ 7 (by decide), show (2 : Nat) ^ 7 = 128 from rfl]
  show (Int32.ofNat _).toInt = _
  rw [iI_nat, iI_toInt ⟨by omega, by omega⟩, fin, r6, sw.2]
/-- set bits, clear bits among f from b on -/
def csB (tm : Int64) : Nat → Int → Int
  | 0, _ => 0
  | f + 1, b => (if tbt tm b = true then 1 else 0) + csB tm f (b + 1)
def cfr (tm : Int64) : Nat → Int → Int
  | 0, _ => 0
  | f + 1, b => (if tbt tm b = false then 1 else 0) + cfr tm f (b + 1)
theorem cs_cf (tm : Int64) : ∀ (f : Nat) (b : Int), csB tm f b + cfr tm f b = f
  | 0, b => rfl
  | f + 1, b => by
    have := cs_cf tm f (b + 1)
    rw [csB, cfr]
    cases tbt tm b <;> simp <;> omega
theorem csB_add (tm : Int64) (g : Nat) : ∀ (f : Nat) (b : Int), csB tm (f + g) b = csB tm f b + csB tm g (b + f)
  | 0, b => by simp [csB]
  | f + 1, b => by
    rw [show f + 1 + g = (f + g) + 1 by omega, csB, csB_add tm g f (b + 1), csB, show b + 1 + (f : Int) = b + ((f + 1 : Nat) : Int) by omega]; omega
theorem csB_0 (tm : Int64) : ∀ (f : Nat) (b : Int), (∀ j : Int, b ≤ j → j < b + f → tbt tm j = false) → csB tm f b = 0
  | 0, b, h => rfl
  | f + 1, b, h => by
    rw [csB, if_neg (by rw [h b (by omega) (by omega)]; decide), csB_0 tm f (b + 1) (fun j h1 h2 => h j (by omega) (by omega))]; rfl
theorem cnN_cs (tm : Int64) : ∀ (f : Nat) (b : Nat), (cnN f (tm.toBitVec.toNat / 2 ^ b) : Int) = csB tm f b
  | 0, b => rfl
  | f + 1, b => by
    have h := cnN_cs tm f (b + 1)
    rw [cnN, csB, show ((b : Int) + 1) = ((b + 1 : Nat) : Int) by omega, ← h, show tm.toBitVec.toNat / 2 ^ b / 2 = tm.toBitVec.toNat / 2 ^ (b + 1) from by rw [Nat.div_div_eq_div_mul, Nat.pow_succ]]
    have e : tbt tm (b : Int) = decide (tm.toBitVec.toNat / 2 ^ b % 2 = 1) := by
      unfold tbt
      rw [Int.toNat_natCast, ← BitVec.testBit_toNat, Nat.testBit_eq_decide_div_mod_eq]
    rw [e]
    by_cases hb : tm.toBitVec.toNat / 2 ^ b % 2 = 1
    · rw [if_pos (by rw [decide_eq_true hb]), hb]; omega
    · rw [if_neg (by rw [decide_eq_false hb]; decide), show tm.toBitVec.toNat / 2 ^ b % 2 = 0 by omega]; omega
/-- the free data blocks, counted -/
theorem cfr_pcn (tm : Int64) (h : ∀ b : Int, 0 ≤ b → b < 64 → tbt tm b = true → dat b) : cfr tm 47 16 = 47 - pcn tm := by
  have h1 := cnN_cs tm 64 0
  rw [Nat.pow_zero, Nat.div_one] at h1
  have f : ∀ b : Int, 0 ≤ b → b < 64 → ¬ dat b → tbt tm b = false := fun b a1 a2 a3 => by
    cases z : tbt tm b with
    | false => rfl
    | true => exact absurd (h b a1 a2 z) a3
  have e1 := csB_add tm 48 16 ((0 : Nat) : Int)
  have e2 := csB_add tm 1 47 (((0 : Nat) : Int) + ((16 : Nat) : Int))
  have z1 := csB_0 tm 16 ((0 : Nat) : Int) (fun j a1 a2 => f j (by omega) (by omega) (by omega))
  have z2 := csB_0 tm 1 (((0 : Nat) : Int) + ((16 : Nat) : Int) + ((47 : Nat) : Int)) (fun j a1 a2 => f j (by omega) (by omega) (by omega))
  have c := cs_cf tm 47 (((0 : Nat) : Int) + ((16 : Nat) : Int))
  rw [show (((0 : Nat) : Int) + ((16 : Nat) : Int)) = 16 from rfl] at *
  rw [pcn_nat]
  rw [show 16 + 48 = 64 from rfl] at e1
  rw [show 47 + 1 = 48 from rfl] at e2
  omega
theorem cfr_rg (tm : Int64) : ∀ (f : Nat) (b : Int), 0 ≤ cfr tm f b ∧ cfr tm f b ≤ f
  | 0, b => by simp [cfr]
  | f + 1, b => by
    have := cfr_rg tm f (b + 1)
    rw [cfr]; split <;> omega
theorem tfs_none (tm : Int64) : ∀ (f : Nat) (b : Int), 0 ≤ b → (tfs tm f b = -1 ↔ cfr tm f b = 0)
  | 0, b, _ => by simp [tfs, cfr]
  | f + 1, b, hb => by
    have r := cfr_rg tm f (b + 1)
    rw [tfs, cfr]
    split
    · constructor <;> intro h <;> omega
    · rw [tfs_none tm f (b + 1) (by omega)]; omega
theorem cfr_congr (tm tn : Int64) : ∀ (f : Nat) (b : Int), (∀ j : Int, b ≤ j → j < b + f → tbt tm j = tbt tn j) → cfr tm f b = cfr tn f b
  | 0, b, h => rfl
  | f + 1, b, h => by rw [cfr, cfr, h b (by omega) (by omega), cfr_congr tm tn f (b + 1) (fun j h1 h2 => h j (by omega) (by omega))]
theorem cfr_set (tm : Int64) {q : Int} (hq : 0 ≤ q ∧ q < 64) (hf : tbt tm q = false) : ∀ (f : Nat) (b : Int), 0 ≤ b → b + f ≤ 64 → b ≤ q → q < b + f → cfr (tset tm q) f b = cfr tm f b - 1
  | 0, b, _, _, _, _ => by omega
  | f + 1, b, h0, h1, h2, h3 => by
    rw [cfr, cfr]
    by_cases e : b = q
    · subst e
      rw [if_pos hf, if_neg (by rw [tb_tset tm hq hq, decide_eq_true rfl, Bool.or_true]; decide), cfr_congr (tset tm b) tm f (b + 1) (fun j a1 a2 => by rw [tb_tset tm hq (by omega), decide_eq_false (by omega), Bool.or_false])]
      omega
    · have := cfr_set tm hq hf f (b + 1) (by omega) (by omega) (by omega) (by omega)
      rw [this, tb_tset tm hq (by omega), decide_eq_false e, Bool.or_false]; omega
theorem fre_tfs (tm : Int64) : ∀ (f : Nat) (b : Int), 16 ≤ b → fre tm f b = tfs tm f b
  | 0, b, _ => rfl
  | f + 1, b, h => by
    rw [fre, tfs, fre_tfs tm f (b + 1) (by omega)]
    by_cases e : tbt tm b = false
    · rw [if_pos ⟨h, e⟩, if_pos e]
    · rw [if_neg (fun z => e z.2), if_neg e]
theorem fre_lo (tm : Int64) : ∀ n : Nat, n ≤ 15 → fre tm (47 + n) (16 - n) = tfs tm 47 16
  | 0, _ => by rw [show (16 : Int) - ((0 : Nat) : Int) = 16 from rfl]; exact fre_tfs tm 47 16 (by omega)
  | n + 1, h => by
    rw [show 47 + (n + 1) = (47 + n) + 1 by omega, fre, if_neg (by omega), show (16 : Int) - ((n + 1 : Nat) : Int) + 1 = 16 - (n : Int) by omega]
    exact fre_lo tm n (by omega)
theorem frz_0 (tm : Int64) : frz tm 0 = tfB tm := by
  have := fre_lo tm 15 (by omega)
  unfold frz tfB
  rw [← this]; rfl
theorem tfs_clr (tm : Int64) : ∀ (f : Nat) (b : Int), tfs tm f b ≠ -1 → 0 ≤ b → tbt tm (tfs tm f b) = false ∧ ∀ j : Int, b ≤ j → j < tfs tm f b → tbt tm j = true
  | 0, b, h, _ => absurd rfl h
  | f + 1, b, h, hb => by
    rw [tfs] at h ⊢
    by_cases e : tbt tm b = false
    · rw [if_pos e]; exact ⟨e, fun j h1 h2 => by omega⟩
    · rw [if_neg e] at h ⊢
      obtain ⟨h1, h2⟩ := tfs_clr tm f (b + 1) h (by omega)
      refine ⟨h1, fun j a1 a2 => ?_⟩
      by_cases ej : j = b
      · subst ej
        cases z : tbt tm j with
        | true => rfl
        | false => exact absurd z e
      · exact h2 j (by omega) a2
theorem tfs_skip (tm : Int64) (g : Nat) : ∀ (f : Nat) (b : Int), (∀ j : Int, b ≤ j → j < b + f → tbt tm j = true) → tfs tm (f + g) b = tfs tm g (b + f)
  | 0, b, h => by simp
  | f + 1, b, h => by
    rw [show f + 1 + g = (f + g) + 1 by omega, tfs, if_neg (by rw [h b (by omega) (by omega)]; decide), tfs_skip tm g f (b + 1) (fun j h1 h2 => h j (by omega) (by omega)), show b + 1 + (f : Int) = b + ((f + 1 : Nat) : Int) by omega]
theorem tfs_congr (tm tn : Int64) : ∀ (f : Nat) (b : Int), (∀ j : Int, b ≤ j → j < b + f → tbt tm j = tbt tn j) → tfs tm f b = tfs tn f b
  | 0, b, h => rfl
  | f + 1, b, h => by rw [tfs, tfs, h b (by omega) (by omega), tfs_congr tm tn f (b + 1) (fun j h1 h2 => h j (by omega) (by omega))]
/-- the first free block behind the first free one -/
theorem frz_2 (tm : Int64) (h : tfB tm ≠ -1) : frz tm (tfB tm) = tfB (tset tm (tfB tm)) := by
  have r := tfB_rg tm
  obtain ⟨h1, h2⟩ := tfs_clr tm 47 16 h (by omega)
  change tbt tm (tfB tm) = false at h1
  change ∀ j : Int, 16 ≤ j → j < tfB tm → tbt tm j = true at h2
  generalize tfB tm = q at *
  unfold frz tfB
  rw [fre_tfs tm _ _ (by omega)]
  have s := tfs_skip (tset tm q) (62 - q).toNat (q - 15).toNat 16 (fun j a1 a2 => by
    rw [tb_tset tm (by omega) (by omega)]
    by_cases e : j = q
    · rw [decide_eq_true e, Bool.or_true]
    · rw [h2 j a1 (by omega)]; rfl)
  rw [show (q - 15).toNat + (62 - q).toNat = 47 by omega, show (16 : Int) + ((q - 15).toNat : Int) = q + 1 by omega] at s
  rw [s]
  refine tfs_congr tm (tset tm q) _ _ (fun j a1 a2 => ?_)
  rw [tb_tset tm (by omega) (by omega), decide_eq_false (by omega), Bool.or_false]
