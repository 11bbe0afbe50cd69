/-! WHAT THE PASS OVER INODES MEANS -/
def shB (d : Im) (i : Int) : Bool := decide (kd d i = 2 ∨ (kd d i = 1 ∧ 3 ≤ i)) && (im_blank d (512 + i * 16 + 9 + 1) 4 && decide (im_two d (512 + i * 16 + 14) = im_sum d (512 + i * 16) 14))
def ssB (d : Im) (i : Int) : Bool := decide (sz d i ≤ 2944 ∧ (kd d i = 1 ∨ (0 < sz d i ∧ sz d i % 64 = 0)))
def sbB (d : Im) (i : Int) : Bool := if 5 < bc d i then im_blank d (im_at d (512 + i * 16 + 9) * 64 + (bc d i - 5)) (64 - (bc d i - 5)) else im_blank d (512 + i * 16 + 4 + bc d i) (5 - bc d i + 1)
def sndB (tk : Int64) (d : Im) (i : Int) : Bool := shB d i && (ssB d i && (sbB d i && tkB tk d i))
def kps : Nat → Int → Int64 → Im → Int64 × Im
  | 0, _, tk, d => (tk, d)
  | f + 1, i, tk, d => kps f (i + 1) (if sndB tk d i = true then tkT tk d i else tk) (if sndB tk d i = true then d else im_wipe d (512 + i * 16) 16)
def kpF (d : Im) : Int64 × Im := kps 31 1 0 (im_wipe d (512 + 0 * 16) 16)
def prs : Nat → Int → Int64 → Im → Int64 × Im
  | 0, _, tk, d => (tk, d)
  | f + 1, i, tk, d => if pcn tk < 47 then (tk, d) else prs f (i - 1) (if kd d i = 0 then tk else erT tk d i) (if kd d i = 0 then d else im_wipe d (512 + i * 16) 16)
def prF (tk : Int64) (d : Im) : Int64 × Im := prs 30 31 tk d
def pvT (tk : Int64) (d : Im) (i : Int) : Int64 := if kd d i = 0 then bgT (prF tk d).1 (prF tk d).2 i else tk
def pvD (tk : Int64) (d : Im) (nb : Im) (i : Int) : Im := if kd d i = 0 then bgD (prF tk d).1 (prF tk d).2 nb i i else d
def pvN (tk : Int64) (d : Im) (nb : Im) (i : Int) : Im := if kd d i = 0 then bgN (prF tk d).1 (prF tk d).2 nb i else nb
def pvL (tk : Int64) (d : Im) (n i : Int) : Int := if kd d i = 0 then bgL (prF tk d).1 (prF tk d).2 n i else n
