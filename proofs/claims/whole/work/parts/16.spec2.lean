/-! WHAT INODES MEAN -/
abbrev inR (i : Int) : Prop := 0 ≤ i ∧ i < 32
abbrev dat (b : Int) : Prop := 16 ≤ b ∧ b ≤ 62
def kd (d : Im) (i : Int) : Int := if inR i then d.1 (512 + i * 16) else 0
theorem kd_rg (d : Im) (i : Int) : 0 ≤ kd d i ∧ kd d i < 256 := by
  unfold kd; have := d.2 (512 + i * 16); split <;> omega
def lk (d : Im) (i : Int) : Int := if inR i then d.1 (512 + i * 16 + 1) else 0
theorem lk_rg (d : Im) (i : Int) : 0 ≤ lk d i ∧ lk d i < 256 := by
  unfold lk; have := d.2 (512 + i * 16 + 1); split <;> omega
def sz (d : Im) (i : Int) : Int := if inR i then d.1 (512 + i * 16 + 2) * 256 + d.1 (512 + i * 16 + 2 + 1) else 0
theorem sz_rg (d : Im) (i : Int) : 0 ≤ sz d i ∧ sz d i < 65536 := by
  unfold sz; have := d.2 (512 + i * 16 + 2); have := d.2 (512 + i * 16 + 2 + 1); split <;> omega
def bc (d : Im) (i : Int) : Int := (sz d i + 63) / 64
theorem bc_rg (d : Im) (i : Int) : 0 ≤ bc d i ∧ bc d i ≤ 1024 := by
  unfold bc; have := sz_rg d i; omega
/-- the number of block x of an inode; 0 where the indirect pointer tells none -/
def bk (d : Im) (i x : Int) : Int := if x < 5 then d.1 (512 + i * 16 + 4 + x) else if dat (d.1 (512 + i * 16 + 9)) then d.1 (d.1 (512 + i * 16 + 9) * 64 + x - 5) else 0
theorem bk_rg (d : Im) (i x : Int) : 0 ≤ bk d i x ∧ bk d i x < 256 := by
  unfold bk; have := d.2 (512 + i * 16 + 4 + x); have := d.2 (d.1 (512 + i * 16 + 9) * 64 + x - 5); split
  · omega
  · split <;> omega
/-- where byte j of the contents lies; -1 where no pointer leads there -/
def cp (d : Im) (i j : Int) : Int := if inR i ∧ j / 64 < 46 ∧ dat (bk d i (j / 64)) then bk d i (j / 64) * 64 + j % 64 else -1
theorem cp_rg (d : Im) (i j : Int) : cp d i j = -1 ∨ (1024 ≤ cp d i j ∧ cp d i j < 4032) := by
  unfold cp; split
  · right; omega
  · left; rfl
/-- a set of blocks with one more; bit 0 when it can't be had -/
def wbk (x : Int64) (b : Int) : Int64 := if dat b ∧ tbt x b = false then tset x b else x ||| 1
def bko (d : Im) (i : Int) : Nat → Int64
  | 0 => 0
  | j + 1 => wbk (bko d i j) (if cp d i (j * 64) = -1 then 0 else cp d i (j * 64) / 64)
def bks (d : Im) (i : Int) : Int64 := if 5 < bc d i then wbk (bko d i (min (bc d i) 46).toNat) (d.1 (512 + i * 16 + 9)) else bko d i (min (bc d i) 46).toNat
def tkB (tk : Int64) (d : Im) (i : Int) : Bool := decide (bks d i &&& (tk ||| 1) = 0)
def tkT (tk : Int64) (d : Im) (i : Int) : Int64 := if bks d i &&& (tk ||| 1) = 0 then tk ||| bks d i else tk
def ffs (d : Im) : Nat → Int → Int
  | 0, _ => -1
  | n + 1, i => if kd d i = 0 then i else ffs d n (i + 1)
def tfs (tk : Int64) : Nat → Int → Int
  | 0, _ => -1
  | n + 1, b => if tbt tk b = false then b else tfs tk n (b + 1)
theorem tfs_rg (tk : Int64) : ∀ (n : Nat) (b : Int), tfs tk n b = -1 ∨ (b ≤ tfs tk n b ∧ tfs tk n b < b + n)
  | 0, b => Or.inl rfl
  | n + 1, b => by
    rw [tfs]
    split
    · right; omega
    · rcases tfs_rg tk n (b + 1) with h | h
      · left; exact h
      · right; omega
/-- the first free block, and what is behind taking it -/
def tfB (tk : Int64) : Int := tfs tk 47 16
theorem tfB_rg (tk : Int64) : tfB tk = -1 ∨ (16 ≤ tfB tk ∧ tfB tk ≤ 62) := by
  unfold tfB; have := tfs_rg tk 47 16; omega
def tfT (tk : Int64) : Int64 := if tfB tk = -1 then tk else tset tk (tfB tk)
def tfD (tk : Int64) (d : Im) : Im := if tfB tk = -1 then d else im_wipe d (tfB tk * 64) 64
def ino_sum (d : Im) (i : Int) : Im := im_put d (512 + i * 16 + 14) (im_sum d (512 + i * 16) 14)
