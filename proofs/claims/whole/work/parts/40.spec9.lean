/-! WHAT THE WRITER MEANS -/
theorem ffs_rg (d : Im) : ∀ (f : Nat) (i : Int), ffs d f i = -1 ∨ (i ≤ ffs d f i ∧ ffs d f i < i + f)
  | 0, i => Or.inl rfl
  | f + 1, i => by
    rw [ffs]
    split
    · right; omega
    · rcases ffs_rg d f (i + 1) with h | h
      · left; exact h
      · right; omega
def wmB (d : Im) (i : Int) (nb : Im) (n : Int) : Bool := decide (kd d i = 2) && (nm_ok nb n && decide (sk d i nb n = -1))
theorem kd_in {d : Im} {i : Int} (h : ¬ kd d i = 0) : 0 ≤ i ∧ i < 32 := by
  rcases Classical.em (inR i) with z | z
  · exact z
  · exact absurd (show kd d i = 0 by unfold kd; rw [if_neg z]) h
def enD (tk : Int64) (d : Im) (q i : Int) (nb : Im) (n : Int) : Im := if rmR tk d q = -1 then rmD tk d q else we (rmD tk d q) (rmR tk d q) i nb n
-- create
abbrev crX (d : Im) (q : Int) (nb : Im) (n : Int) : Prop := ffs d 29 3 = -1 ∨ wmB d q nb n = false
def c2T (tk : Int64) (d : Im) (c : Int) : Int64 := if c = 1 then tk else bgT tk d (ffs d 29 3)
def c2D (tk : Int64) (d mb : Im) (q c : Int) : Im := if c = 1 then im_set d (512 + ffs d 29 3 * 16) 1 else bgD tk d mb (ffs d 29 3) q
def c2N (tk : Int64) (d mb : Im) (c : Int) : Im := if c = 1 then mb else bgN tk d mb (ffs d 29 3)
def c2L (tk : Int64) (d : Im) (mn c : Int) : Int := if c = 1 then mn else bgL tk d mn (ffs d 29 3)
abbrev c2X (tk : Int64) (d : Im) (c : Int) : Prop := ¬ c = 1 ∧ bgR tk d (ffs d 29 3) = -1
def crR (tk : Int64) (d mb : Im) (q : Int) (nb : Im) (n c : Int) : Int := if crX d q nb n then -1 else if c2X tk d c then -1 else if rmR (c2T tk d c) (c2D tk d mb q c) q = -1 then -1 else ffs d 29 3
def crT (tk : Int64) (d mb : Im) (q : Int) (nb : Im) (n c : Int) : Int64 := if crX d q nb n then tk else if c2X tk d c then c2T tk d c else rmT (c2T tk d c) (c2D tk d mb q c) q
def crD (tk : Int64) (d mb : Im) (q : Int) (nb : Im) (n c : Int) : Im := if crX d q nb n then d else if c2X tk d c then c2D tk d mb q c else enD (c2T tk d c) (c2D tk d mb q c) q (ffs d 29 3) nb n
def crN (tk : Int64) (d mb : Im) (q : Int) (nb : Im) (n c : Int) : Im := if crX d q nb n then mb else c2N tk d mb c
def crL (tk : Int64) (d : Im) (mn q : Int) (nb : Im) (n c : Int) : Int := if crX d q nb n then mn else c2L tk d mn c
-- a further entry
abbrev aeX (d : Im) (q i : Int) (nb : Im) (n : Int) : Prop := ¬ kd d i = 1 ∨ wmB d q nb n = false
def aeB (tk : Int64) (d : Im) (q i : Int) (nb : Im) (n : Int) : Bool := if aeX d q i nb n then false else decide (rmR tk d q ≠ -1)
def aeT (tk : Int64) (d : Im) (q i : Int) (nb : Im) (n : Int) : Int64 := if aeX d q i nb n then tk else rmT tk d q
def aeD (tk : Int64) (d : Im) (q i : Int) (nb : Im) (n : Int) : Im := if aeX d q i nb n then d else enD tk d q i nb n
-- a byte more
abbrev leY (d : Im) (i : Int) : Prop := sz d i % 64 = 0
abbrev leX (tk : Int64) (d : Im) (i : Int) : Prop := ¬ kd d i = 1 ∨ (leY d i ∧ abR tk d i = -1)
def le1 (tk : Int64) (d : Im) (i : Int) : Im := if kd d i = 1 ∧ leY d i then abD tk d i else d
def leT (tk : Int64) (d : Im) (i : Int) : Int64 := if kd d i = 1 ∧ leY d i then abT tk d i else tk
def leD (tk : Int64) (d : Im) (i c : Int) : Im := if leX tk d i then le1 tk d i else im_put (im_set (le1 tk d i) (cp (le1 tk d i) i (sz d i)) c) (512 + i * 16 + 2) (sz d i + 1)
-- an entry less
def reP (d : Im) (q : Int) (nb : Im) (n : Int) : Int := if kd d q = 2 then sk d q nb n else -1
theorem reP_rg (d : Im) (q : Int) (nb : Im) (n : Int) : reP d q nb n = -1 ∨ (1024 ≤ reP d q nb n ∧ reP d q nb n < 4032) := by
  unfold reP; have := sk_rg d q nb n; split <;> omega
def reI (d : Im) (q : Int) (nb : Im) (n : Int) : Int := im_at d (reP d q nb n)
abbrev reX (d : Im) (q : Int) (nb : Im) (n : Int) : Prop := reP d q nb n = -1 ∨ (¬ kd d (reI d q nb n) = 1 ∧ emB d (reI d q nb n) = false)
def re1 (d : Im) (q : Int) (nb : Im) (n : Int) : Im := im_wipe d (reP d q nb n) 16
abbrev reE (d : Im) (q : Int) (nb : Im) (n : Int) : Prop := ¬ kd d (reI d q nb n) = 1 ∨ lk (re1 d q nb n) (reI d q nb n) = 1
def reB (d : Im) (q : Int) (nb : Im) (n : Int) : Bool := decide (¬ reX d q nb n)
def reT (tk : Int64) (d : Im) (q : Int) (nb : Im) (n : Int) : Int64 := if reX d q nb n then tk else if reE d q nb n then erT tk (re1 d q nb n) (reI d q nb n) else tk
def reD (d : Im) (q : Int) (nb : Im) (n : Int) : Im := if reX d q nb n then d else if reE d q nb n then im_wipe (re1 d q nb n) (512 + reI d q nb n * 16) 16 else re1 d q nb n
