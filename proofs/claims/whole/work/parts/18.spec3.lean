/-! BIT COUNT; blocks taken and given -/
def bsh (x : Int64) (s : Int) : Int64 := (x.toUInt64 >>> ((iI s).toInt64.toUInt64 &&& Int64.toUInt64 63)).toInt64
def bs1 (x : Int64) : Int64 := x - (bsh x 1 &&& 6148914691236517205)
def bs2 (x : Int64) : Int64 := (x &&& 3689348814741910323) + (bsh x 2 &&& 3689348814741910323)
def bs3 (x : Int64) : Int64 := (x + bsh x 4) &&& 1085102592571150095
def bs4 (x : Int64) : Int64 := x + bsh x 8
def bs5 (x : Int64) : Int64 := x + bsh x 16
def bs6 (x : Int64) : Int64 := x + bsh x 32
/-- what Long.bitCount answers -/
def pcn (x : Int64) : Int := ((bs6 (bs5 (bs4 (bs3 (bs2 (bs1 x)))))).toInt32 &&& iI 127).toInt
theorem pcn_rg (x : Int64) : 0 ≤ pcn x ∧ pcn x ≤ 127 := by
  unfold pcn
  rw [pk_and _ 7 (by decide)]
  show 0 ≤ (Int32.ofNat _).toInt ∧ (Int32.ofNat _).toInt ≤ 127
  rw [iI_nat, iI_toInt ⟨by omega, by omega⟩]
  omega
/-- addBlock can't: too large, or too few blocks -/
abbrev abX (tk : Int64) (d : Im) (i : Int) : Prop := 46 ≤ bc d i ∨ 47 - pcn tk < (if bc d i = 5 then 2 else 1)
def abR (tk : Int64) (d : Im) (i : Int) : Int := if abX tk d i then -1 else tfB tk
theorem abR_rg (tk : Int64) (d : Im) (i : Int) : abR tk d i = -1 ∨ (16 ≤ abR tk d i ∧ abR tk d i ≤ 62) := by
  unfold abR; have := tfB_rg tk; split <;> omega
def abT (tk : Int64) (d : Im) (i : Int) : Int64 := if abX tk d i then tk else if bc d i = 5 then tfT (tfT tk) else tfT tk
/-- with the indirect block, if it comes now -/
def abI (tk : Int64) (d : Im) (i : Int) : Im := if bc d i = 5 then im_set (tfD (tfT tk) (tfD tk d)) (512 + i * 16 + 9) (tfB (tfT tk)) else tfD tk d
def abD (tk : Int64) (d : Im) (i : Int) : Im := if abX tk d i then d else if bc d i < 5 then im_set (tfD tk d) (512 + i * 16 + 4 + bc d i) (tfB tk) else im_set (abI tk d i) ((abI tk d i).1 (512 + i * 16 + 9) * 64 + bc d i - 5) (tfB tk)
def erT (tk : Int64) (d : Im) (i : Int) : Int64 := tk &&& (bks d i ^^^ -1)
