/-! WHAT THE JOURNAL'S REPLAY AND THE REPAIRER MEAN -/
def jgs (d : Im) : Nat → Int → Int64 → Bool
  | 0, _, _ => true
  | f + 1, j, s => if im_at d (69 + j) < 7 ∨ 62 < im_at d (69 + j) ∨ tbt s (im_at d (69 + j)) = true then false else jgs d f (j + 1) (tset s (im_at d (69 + j)))
def jgB (d : Im) (n : Int) : Bool := jgs d n.toNat 0 0
def jnB (d : Im) : Bool := im_has d 64 1 && (decide (1 ≤ im_at d 68 ∧ im_at d 68 ≤ 5) && (im_blank d (69 + im_at d 68) (57 - im_at d 68) && (decide (im_two d 126 = jn_right d) && jgB d (im_at d 68))))
def rps : Nat → Int → Im → Im
  | 0, _, d => d
  | f + 1, j, d => rps f (j + 1) (im_cpb d d (2 + j) (im_at d (69 + j)))
def jnR (d : Im) : Im := im_wipe (if jnB d = true then rps (im_at d 68).toNat 0 d else d) 64 64
-- the maps
def muv (a n : Int) : Int := (iI a ||| (iI 128 >>> (iI (n % 8) &&& 31))).toInt
def muD (d : Im) (p n : Int) : Im := im_set d (p + n / 8) (muv (im_at d (p + n / 8)) n)
def mp1 (tk : Int64) : Nat → Int → Im → Im
  | 0, _, d => d
  | f + 1, b, d => mp1 tk f (b + 1) (if dat b ∧ tbt tk b = false then d else muD d 448 b)
def mp2 : Nat → Int → Im → Im
  | 0, _, d => d
  | f + 1, i, d => mp2 f (i + 1) (if ¬ i = 0 ∧ kd d i = 0 then d else muD d (448 + 8) i)
def mpF (tk : Int64) (d : Im) : Im := mp2 32 0 (mp1 tk 64 0 (im_wipe d 448 64))
def sts : Nat → Int → Im → Int → Im × Int
  | 0, _, d, c => (d, c)
  | f + 1, i, d, c => sts f (i + 1) (ino_sum d i) (c + (if kd (ino_sum d i) i = 0 then 1 else 0))
def st1 (d : Im) : Im × Int := sts 31 1 (clL d) 0
def stD (tk : Int64) (d : Im) : Im := su_wr (su_wr (mpF tk (st1 d).1) 0 (47 - pcn tk) (st1 d).2) 63 (47 - pcn tk) (st1 d).2
-- blocks that differ
def cds (d e : Im) : Nat → Int → Int → Int
  | 0, _, c => c
  | f + 1, b, c => cds d e f (b + 1) (if im_same d e b = true then c else c + 1)
theorem cds_rg (d e : Im) : ∀ (f : Nat) (b c : Int), c ≤ cds d e f b c ∧ cds d e f b c ≤ c + f
  | 0, b, c => by simp only [cds]; omega
  | f + 1, b, c => by
    rw [cds]
    split
    · have := cds_rg d e f (b + 1) c; omega
    · have := cds_rg d e f (b + 1) (c + 1); omega
def wbs (d : Im) (m : Int) : Nat → Int → Int → Im → Int × Im
  | 0, _, w, e => (w, e)
  | f + 1, b, w, e => if w < m then wbs d m f (b + 1) (if im_same d e b = true then w else w + 1) (if im_same d e b = true then e else im_cpb d e b b) else (w, e)
theorem wbs_stop (d : Im) (m : Int) (f : Nat) (b w : Int) (e : Im) (h : ¬ w < m) : wbs d m f b w e = (w, e) := by
  cases f with
  | zero => rfl
  | succ f => rw [wbs, if_neg h]
-- the plan
def tls : Nat → Int → Im → Im → Int → Im × Im × Int
  | 0, _, d, nb, n => (d, nb, n)
  | f + 1, i, d, nb, n => tls f (i + 1) (if kd d i = 2 then (tdF d nb i).1 else d) (if kd d i = 2 then (tdF d nb i).2.1 else nb) (if kd d i = 2 then (tdF d nb i).2.2 else n)
theorem tds_rg (i : Int) : ∀ (f : Nat) (e : Int) (d nb : Im) (n : Int), (0 ≤ n ∧ n ≤ 14) → 0 ≤ (tds i f e d nb n).2.2 ∧ (tds i f e d nb n).2.2 ≤ 14
  | 0, _, _, _, _, h => h
  | f + 1, e, d, nb, n, h => by rw [tds]; exact tds_rg i f (e + 1) _ _ _ (vaL_rg d n _ h)
theorem tdF_rg (d nb : Im) (i : Int) : 0 ≤ (tdF d nb i).2.2 ∧ (tdF d nb i).2.2 ≤ 14 := by
  unfold tdF
  exact tds_rg i _ _ _ _ _ (by unfold tdl; have := tn_rg 3 (by decide); have := tn_rg 4 (by decide); split <;> omega)
theorem pvL_rg (tk : Int64) (d : Im) (n i : Int) (h : 0 ≤ n ∧ n ≤ 14) : 0 ≤ pvL tk d n i ∧ pvL tk d n i ≤ 14 := by
  unfold pvL bgL
  have := tn_rg 3 (by decide)
  split
  · split <;> omega
  · exact h
/-- behind passes 0 and 1: taken, image, name, its length -/
def pl1 (dk : Im) : Int64 × Im := kpF (jnR dk)
def pT1 (dk : Im) : Int64 := pvT (pl1 dk).1 (pl1 dk).2 1
def pD1 (dk nb : Im) : Im := pvD (pl1 dk).1 (pl1 dk).2 nb 1
def pN1 (dk nb : Im) : Im := pvN (pl1 dk).1 (pl1 dk).2 nb 1
def pL1 (dk : Im) (n : Int) : Int := pvL (pl1 dk).1 (pl1 dk).2 n 1
def pT2 (dk nb : Im) : Int64 := pvT (pT1 dk) (pD1 dk nb) 2
def pD2 (dk nb : Im) : Im := pvD (pT1 dk) (pD1 dk nb) (pN1 dk nb) 2
def pN2 (dk nb : Im) : Im := pvN (pT1 dk) (pD1 dk nb) (pN1 dk nb) 2
def pL2 (dk nb : Im) (n : Int) : Int := pvL (pT1 dk) (pD1 dk nb) (pL1 dk n) 2
theorem pL2_rg (dk nb : Im) (n : Int) (h : 0 ≤ n ∧ n ≤ 14) : 0 ≤ pL2 dk nb n ∧ pL2 dk nb n ≤ 14 := pvL_rg _ _ _ _ (pvL_rg _ _ _ _ h)
/-- behind pass 2 -/
def pl3 (dk nb : Im) (n : Int) : Im × Im × Int := tls 31 1 (pD2 dk nb) (pN2 dk nb) (pL2 dk nb n)
/-- behind pass 3 -/
def pl4 (dk nb : Im) (n : Int) (q cb : Im) (cn : Int) : CT := coF (pT2 dk nb) (pl3 dk nb n).1 q cb cn
/-- the plan -/
def plD (dk nb : Im) (n : Int) (q cb : Im) (cn : Int) : Im := stD (pl4 dk nb n q cb cn).1 (pl4 dk nb n q cb cn).2.2.1.1
def plR (dk nb : Im) (n : Int) (q cb : Im) (cn : Int) : Int := cds (plD dk nb n q cb cn) dk 64 0 0
/-- neither super is good -/
abbrev plX (dk : Im) : Prop := su_ok dk 0 = false ∧ su_ok dk 63 = false
