/-! WHAT DIRECTORIES MEAN -/
def ec (d : Im) (i : Int) : Int := min (sz d i / 16) 184
theorem ec_rg (d : Im) (i : Int) : 0 ≤ ec d i ∧ ec d i ≤ 184 := by unfold ec; have := sz_rg d i; omega
def ep (d : Im) (i e : Int) : Int := cp d i (e * 16)
theorem ep_rg (d : Im) (i e : Int) : ep d i e = -1 ∨ (1024 ≤ ep d i e ∧ ep d i e < 4032) := cp_rg d i (e * 16)
def nmk (d : Im) (p : Int) (nb : Im) (n : Int) : Nat → Bool
  | 0 => true
  | j + 1 => nmk d p nb n j && decide (im_at d (p + 2 + j) = nm_at nb n j)
theorem nmk_iff (d : Im) (p : Int) (nb : Im) (n : Int) : ∀ m : Nat, nmk d p nb n m = true ↔ ∀ j : Int, 0 ≤ j → j < m → im_at d (p + 2 + j) = nm_at nb n j
  | 0 => by simp only [nmk, true_iff]; intro j h1 h2; omega
  | m + 1 => by
    rw [nmk, Bool.and_eq_true, nmk_iff d p nb n m, decide_eq_true_iff]
    constructor
    · rintro ⟨h1, h2⟩ j h3 h4
      by_cases h : j < m
      · exact h1 j h3 h
      · rw [show j = m by omega]; exact h2
    · intro h
      exact ⟨fun j h1 h2 => h j h1 (by omega), h _ (by omega) (by omega)⟩
/-- the entry at p has the name -/
def nmd (d : Im) (p : Int) (nb : Im) (n : Int) : Bool := decide (im_at d (p + 1) = n) && nmk d p nb n n.toNat
def sks (d : Im) (i : Int) (nb : Im) (n : Int) : Nat → Int → Int
  | 0, _ => -1
  | f + 1, e => if ep d i e ≠ -1 ∧ nmd d (ep d i e) nb n = true then ep d i e else sks d i nb n f (e + 1)
def sk (d : Im) (i : Int) (nb : Im) (n : Int) : Int := if n = 0 then -1 else sks d i nb n (ec d i - 2).toNat 2
theorem sks_rg (d : Im) (i : Int) (nb : Im) (n : Int) : ∀ (f : Nat) (e : Int), sks d i nb n f e = -1 ∨ (1024 ≤ sks d i nb n f e ∧ sks d i nb n f e < 4032)
  | 0, e => Or.inl rfl
  | f + 1, e => by
    rw [sks]
    have := ep_rg d i e
    split
    · omega
    · exact sks_rg d i nb n f (e + 1)
theorem sk_rg (d : Im) (i : Int) (nb : Im) (n : Int) : sk d i nb n = -1 ∨ (1024 ≤ sk d i nb n ∧ sk d i nb n < 4032) := by
  unfold sk; split
  · exact Or.inl rfl
  · exact sks_rg d i nb n _ _
def wek (x : Im) (p : Int) (nb : Im) (n : Int) : Nat → Im
  | 0 => x
  | j + 1 => im_set (wek x p nb n j) (p + 2 + j) (nm_at nb n j)
def we (d : Im) (p i : Int) (nb : Im) (n : Int) : Im := wek (im_set (im_set (im_wipe d p 16) p i) (p + 1) n) p nb n n.toNat
def dt1 (d : Im) (nb : Im) (i : Int) : Im := we d (ep d i 0) i (nm_sp nb 2 (tn 2).toNat) (tn 2)
def dtN (nb : Im) : Im := nm_sp (nm_sp nb 2 (tn 2).toNat) 3 (tn 3).toNat
def dtD (d : Im) (nb : Im) (i p : Int) : Im := we (dt1 d nb i) (ep (dt1 d nb i) i 1) p (dtN nb) (tn 3)
def spd (d : Im) (i p : Int) : Im := if kd d i = 2 then im_set d (cp d i 16) p else d
-- begin
def bg0 (d : Im) (i : Int) : Im := im_set d (512 + i * 16) 2
def bgR (tk : Int64) (d : Im) (i : Int) : Int := abR tk (bg0 d i) i
def bgT (tk : Int64) (d : Im) (i : Int) : Int64 := abT tk (bg0 d i) i
def bgD (tk : Int64) (d : Im) (nb : Im) (i p : Int) : Im := if bgR tk d i = -1 then im_wipe (abD tk (bg0 d i) i) (512 + i * 16) 16 else dtD (im_put (abD tk (bg0 d i) i) (512 + i * 16 + 2) 64) nb i p
def bgN (tk : Int64) (d : Im) (nb : Im) (i : Int) : Im := if bgR tk d i = -1 then nb else dtN nb
def bgL (tk : Int64) (d : Im) (n i : Int) : Int := if bgR tk d i = -1 then n else tn 3
-- room
def rms (d : Im) (i : Int) : Nat → Int → Int
  | 0, _ => -2
  | f + 1, e => if im_at d (ep d i e) = 0 then ep d i e else rms d i f (e + 1)
theorem rms_rg (d : Im) (i : Int) : ∀ (f : Nat) (e : Int), rms d i f e = -2 ∨ rms d i f e = -1 ∨ (1024 ≤ rms d i f e ∧ rms d i f e < 4032)
  | 0, e => Or.inl rfl
  | f + 1, e => by
    rw [rms]
    have := ep_rg d i e
    split
    · omega
    · exact rms_rg d i f (e + 1)
def rmF (d : Im) (i : Int) : Int := rms d i (ec d i - 2).toNat 2
def rmR (tk : Int64) (d : Im) (i : Int) : Int := if rmF d i = -2 then (if abR tk d i = -1 then -1 else abR tk d i * 64) else rmF d i
theorem rmR_rg (tk : Int64) (d : Im) (i : Int) : rmR tk d i = -1 ∨ (1024 ≤ rmR tk d i ∧ rmR tk d i < 4032) := by
  unfold rmR rmF
  have h1 := rms_rg d i (ec d i - 2).toNat 2
  have h2 := abR_rg tk d i
  split
  · split <;> omega
  · omega
def rmT (tk : Int64) (d : Im) (i : Int) : Int64 := if rmF d i = -2 then abT tk d i else tk
def rmD (tk : Int64) (d : Im) (i : Int) : Im := if rmF d i = -2 then (if abR tk d i = -1 then abD tk d i else im_put (abD tk d i) (512 + i * 16 + 2) (sz (abD tk d i) i + 64)) else d
def ems (d : Im) (i : Int) : Nat → Int → Bool
  | 0, _ => true
  | f + 1, e => if im_at d (ep d i e) = 0 then ems d i f (e + 1) else false
def emB (d : Im) (i : Int) : Bool := ems d i (ec d i - 2).toNat 2
-- valid entries
abbrev vaX (d : Im) (p : Int) : Prop := im_at d p < 3 ∨ kd d (im_at d p) = 0 ∨ im_at d (p + 1) < 1 ∨ 14 < im_at d (p + 1)
def vaN (d : Im) (nb : Im) (p : Int) : Im := if vaX d p then nb else nm_ld nb d (p + 2) (im_at d (p + 1)).toNat
def vaL (d : Im) (n p : Int) : Int := if vaX d p then n else im_at d (p + 1)
def vaB (d : Im) (nb : Im) (i p : Int) : Bool := if vaX d p then false else im_blank d (p + 2 + im_at d (p + 1)) (14 - im_at d (p + 1)) && (nm_ok (nm_ld nb d (p + 2) (im_at d (p + 1)).toNat) (im_at d (p + 1)) && decide (sk d i (nm_ld nb d (p + 2) (im_at d (p + 1)).toNat) (im_at d (p + 1)) = p))
theorem vaL_rg (d : Im) (n p : Int) (h : 0 ≤ n ∧ n ≤ 14) : 0 ≤ vaL d n p ∧ vaL d n p ≤ 14 := by
  unfold vaL; split
  · exact h
  · have := im_at_rg d (p + 1); omega
-- tidy: what is left to do from place e on, with a name in the hand
def tds (i : Int) : Nat → Int → Im → Im → Int → Im × Im × Int
  | 0, _, d, nb, n => (d, nb, n)
  | f + 1, e, d, nb, n => tds i f (e + 1) (if vaB d nb i (ep d i e) = true then d else im_wipe d (ep d i e) 16) (vaN d nb (ep d i e)) (vaL d n (ep d i e))
abbrev tdX (d : Im) (nb : Im) (i : Int) : Prop := i = 1 ∧ kd (dtD d nb i i) 2 ≠ 0
def td0 (d : Im) (nb : Im) (i : Int) : Im := if tdX d nb i then we (dtD d nb i i) (ep (dtD d nb i i) 1 2) 2 (nm_sp (dtN nb) 4 (tn 4).toNat) (tn 4) else dtD d nb i i
def tdn (d : Im) (nb : Im) (i : Int) : Im := if tdX d nb i then nm_sp (dtN nb) 4 (tn 4).toNat else dtN nb
def tdl (d : Im) (nb : Im) (i : Int) : Int := if tdX d nb i then tn 4 else tn 3
def tde (d : Im) (nb : Im) (i : Int) : Int := if tdX d nb i then 3 else 2
def tdF (d : Im) (nb : Im) (i : Int) : Im × Im × Int := tds i (ec (td0 d nb i) i - tde d nb i).toNat (tde d nb i) (td0 d nb i) (tdn d nb i) (tdl d nb i)
-- entries of an inode wiped
def cnt (d : Im) (i : Int) : Int := if kd d i = 2 then ec d i else 0
theorem cnt_rg (d : Im) (i : Int) : 0 ≤ cnt d i ∧ cnt d i ≤ 184 := by unfold cnt; have := ec_rg d i; split <;> omega
def wef (i dir : Int) : Nat → Int → Im → Im
  | 0, _, d => d
  | f + 1, e, d => wef i dir f (e + 1) (if im_at d (ep d dir e) = i then im_wipe d (ep d dir e) 16 else d)
def wed (i : Int) : Nat → Int → Im → Im
  | 0, _, d => d
  | f + 1, dir, d => wed i f (dir + 1) (wef i dir (cnt d dir - 2).toNat 2 d)
-- links
def clk (d : Im) (dir i : Int) : Im := if kd d i = 0 then d else if kd d i = 2 then im_set d (512 + dir * 16 + 1) (lk d dir + 1) else im_set d (512 + i * 16 + 1) (lk d i + 1)
def cl0 : Nat → Int → Im → Im
  | 0, _, d => d
  | f + 1, i, d => cl0 f (i + 1) (im_set d (512 + i * 16 + 1) (if kd d i = 2 then 2 else 0))
def clf (dir : Int) : Nat → Int → Im → Im
  | 0, _, d => d
  | f + 1, e, d => clf dir f (e + 1) (clk d dir (im_at d (ep d dir e)))
def cld : Nat → Int → Im → Im
  | 0, _, d => d
  | f + 1, dir, d => cld f (dir + 1) (clf dir (cnt d dir - 2).toNat 2 d)
def clL (d : Im) : Im := cld 31 1 (cl0 31 1 d)
