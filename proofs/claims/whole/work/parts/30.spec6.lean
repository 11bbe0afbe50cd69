/-! WHAT THE CONNECTOR MEANS -/
def rbt (r : Int32) (i : Int) : Bool := r.toBitVec.getLsbD i.toNat
def rset (r : Int32) (i : Int) : Int32 := r ||| (iI 1 <<< (iI i &&& 31))
theorem r31 : ∀ k, k < 32 → (iI (k : Nat) &&& 31) = Int32.ofNat k := by decide +kernel
theorem r31s : ∀ k, k < 32 → ((Int32.ofNat k).toBitVec.smod 32).toNat = k := by decide +kernel
theorem rbt_bit (r : Int32) {i : Int} (hi : 0 ≤ i ∧ i < 32) : (r >>> (iI i &&& 31)) &&& iI 1 = iI (bI (rbt r i)) := by
  have e : (iI i &&& 31) = Int32.ofNat i.toNat := by
    have := r31 i.toNat (by omega)
    rwa [Int.toNat_of_nonneg hi.1] at this
  have e2 : (r >>> Int32.ofNat i.toNat).toBitVec = r.toBitVec.sshiftRight i.toNat := by
    show r.toBitVec.sshiftRight' ((Int32.ofNat i.toNat).toBitVec.smod 32) = _
    unfold BitVec.sshiftRight'
    rw [r31s i.toNat (by omega)]
  have key : ∀ j, j < 32 → ((r >>> (iI i &&& 31)) &&& iI 1).toBitVec.getLsbD j = (decide (j = 0) && rbt r i) := by
    intro j hj
    rw [e]
    show ((r >>> Int32.ofNat i.toNat).toBitVec &&& 1#32).getLsbD j = _
    rw [BitVec.getLsbD_and, e2]
    by_cases h : j = 0
    · subst h
      rw [BitVec.getLsbD_sshiftRight]
      simp [rbt]
      intro _
      omega
    · have : (1#32).getLsbD j = false := by rw [BitVec.getLsbD_one]; simp [h]
      rw [this]
      simp [h]
  rw [← Int32.toBitVec_inj]
  apply BitVec.eq_of_getLsbD_eq
  intro j hj
  rw [key j hj]
  cases rbt r i
  · show _ = (0#32).getLsbD j; simp
  · show _ = (1#32).getLsbD j; rw [BitVec.getLsbD_one]; simp
theorem rbt_rset (r : Int32) {b j : Int} (hb : 0 ≤ b ∧ b < 32) (hj : 0 ≤ j ∧ j < 32) : rbt (rset r b) j = (rbt r j || decide (j = b)) := by
  unfold rbt rset
  show (r.toBitVec ||| (iI 1 <<< (iI b &&& 31)).toBitVec).getLsbD j.toNat = _
  rw [BitVec.getLsbD_or]
  congr 1
  have e : (iI b &&& 31) = Int32.ofNat b.toNat := by
    have := r31 b.toNat (by omega)
    rwa [Int.toNat_of_nonneg hb.1] at this
  rw [e]
  have e2 : (iI 1 <<< Int32.ofNat b.toNat).toBitVec = 1#32 <<< b.toNat := by
    show 1#32 <<< ((Int32.ofNat b.toNat).toBitVec.smod 32) = _
    rw [BitVec.shiftLeft_eq', r31s b.toNat (by omega)]
  rw [e2, BitVec.getLsbD_shiftLeft, BitVec.getLsbD_one]
  by_cases h : j = b
  · subst h
    simp
    omega
  · simp [h]
    intro _ _
    omega
/-- an inode reached: the queue and its end -/
abbrev rhX (d : Im) (t i : Int) : Prop := kd d i = 2 ∧ 0 ≤ t ∧ t < 32
def rhQ (d q : Im) (t i : Int) : Im := if rhX d t i then up q t i else q
def rhT (d : Im) (t i : Int) : Int := if rhX d t i then t + 1 else t
theorem rhT_rg (d : Im) (t i : Int) (h : 0 ≤ t ∧ t ≤ 32) : 0 ≤ rhT d t i ∧ rhT d t i ≤ 32 := by unfold rhT; split <;> omega
/-- the image, what is reached, the queue, its end -/
abbrev CS : Type := Im × Int32 × Im × Int
def fol (s : CS) (dir p : Int) : CS :=
  if kd s.1 (im_at s.1 p) = 2 ∧ rbt s.2.1 (im_at s.1 p) = true then (im_wipe s.1 p 16, s.2.1, s.2.2.1, s.2.2.2)
  else if kd s.1 (im_at s.1 p) = 0 then s
  else (spd s.1 (im_at s.1 p) dir, rset s.2.1 (im_at s.1 p), rhQ s.1 s.2.2.1 s.2.2.2 (im_at s.1 p), rhT s.1 s.2.2.2 (im_at s.1 p))
def gts (dir : Int) : Nat → Int → CS → CS
  | 0, _, s => s
  | f + 1, e, s => gts dir f (e + 1) (fol s dir (ep s.1 dir e))
def gto : Nat → Int → CS → Int × CS
  | 0, h, s => (h, s)
  | f + 1, h, s => if h < s.2.2.2 then gto f (h + 1) (gts (s.2.2.1.1 h) (ec s.1 (s.2.2.1.1 h) - 2).toNat 2 s) else (h, s)
def goF (h : Int) (s : CS) : Int × CS := gto (32 - h).toNat h s
theorem fol_rg (s : CS) (dir p : Int) (h : 0 ≤ s.2.2.2 ∧ s.2.2.2 ≤ 32) : 0 ≤ (fol s dir p).2.2.2 ∧ (fol s dir p).2.2.2 ≤ 32 := by
  unfold fol
  split
  · exact h
  · split
    · exact h
    · exact rhT_rg _ _ _ h
/-- a name for lost and found: whether there is one, the name -/
def fns (d : Im) (i : Int) : Nat → Int → Im → Int → Bool × Im × Int
  | 0, _, nb, n => (false, nb, n)
  | f + 1, m, nb, n => if sk d 2 (nm_num nb m i) (m + 2) = -1 then (true, nm_num nb m i, m + 2) else fns d i f (m + 1) (nm_num nb m i) (m + 2)
def fnF (d : Im) (r : Int32) (i : Int) (nb : Im) (n : Int) : Bool × Im × Int := fns d i (if rbt r 2 = true then 12 else 0) 1 nb n
def paF (s : CS) (i p : Int) (nb : Im) (n : Int) : CS := (spd (we s.1 p i nb n) i 2, rset s.2.1 i, rhQ (we s.1 p i nb n) s.2.2.1 s.2.2.2 i, rhT (we s.1 p i nb n) s.2.2.2 i)
theorem gto_stop (f : Nat) (h : Int) (s : CS) (hn : ¬ h < s.2.2.2) : gto f h s = (h, s) := by
  cases f with
  | zero => rfl
  | succ f => rw [gto, if_neg hn]
theorem gts_rg (dir : Int) : ∀ (f : Nat) (e : Int) (s : CS), (0 ≤ s.2.2.2 ∧ s.2.2.2 ≤ 32) → 0 ≤ (gts dir f e s).2.2.2 ∧ (gts dir f e s).2.2.2 ≤ 32
  | 0, _, s, h => h
  | f + 1, e, s, h => by rw [gts]; exact gts_rg dir f (e + 1) _ (fol_rg s dir _ h)
theorem gto_rg : ∀ (f : Nat) (h : Int) (s : CS), (0 ≤ s.2.2.2 ∧ s.2.2.2 ≤ 32) → (0 ≤ h ∧ h + f ≤ 32) → (0 ≤ (gto f h s).1 ∧ (gto f h s).1 ≤ 32) ∧ (0 ≤ (gto f h s).2.2.2.2 ∧ (gto f h s).2.2.2.2 ≤ 32)
  | 0, h, s, h1, h2 => ⟨⟨h2.1, by show h ≤ 32; omega⟩, h1⟩
  | f + 1, h, s, h1, h2 => by
    rw [gto]
    split
    · exact gto_rg f (h + 1) _ (gts_rg _ _ _ _ h1) (by omega)
    · exact ⟨⟨h2.1, by show h ≤ 32; omega⟩, h1⟩
theorem goF_rg (h : Int) (s : CS) (h1 : 0 ≤ s.2.2.2 ∧ s.2.2.2 ≤ 32) (h2 : 0 ≤ h ∧ h ≤ 32) : (0 ≤ (goF h s).1 ∧ (goF h s).1 ≤ 32) ∧ (0 ≤ (goF h s).2.2.2.2 ∧ (goF h s).2.2.2.2 ≤ 32) := gto_rg _ h s h1 (by omega)
theorem fns_rg (d : Im) (i : Int) : ∀ (f : Nat) (m : Int) (nb : Im) (n : Int), (0 ≤ n ∧ n ≤ 14) → (1 ≤ m ∧ m + f ≤ 13) → 0 ≤ (fns d i f m nb n).2.2 ∧ (fns d i f m nb n).2.2 ≤ 14
  | 0, _, _, _, h, _ => h
  | f + 1, m, nb, n, h, hm => by
    rw [fns]
    split
    · show 0 ≤ m + 2 ∧ m + 2 ≤ 14; omega
    · exact fns_rg d i f (m + 1) _ _ (by omega) (by omega)
theorem fnF_rg (d : Im) (r : Int32) (i : Int) (nb : Im) (n : Int) (h : 0 ≤ n ∧ n ≤ 14) : 0 ≤ (fnF d r i nb n).2.2 ∧ (fnF d r i nb n).2.2 ≤ 14 := by
  unfold fnF
  split <;> exact fns_rg _ _ _ _ _ _ h (by omega)
/-- the connector's whole state: taken, head, the rest, a name -/
abbrev CT : Type := Int64 × Int × CS × Im × Int
def coN (t : CT) (i : Int) : Bool × Im × Int := fnF t.2.2.1.1 t.2.2.1.2.1 i t.2.2.2.1 t.2.2.2.2
def coP (t : CT) (i : Int) : Int := if (coN t i).1 = true then rmR t.1 t.2.2.1.1 2 else -1
def coT (t : CT) (i : Int) : Int64 := if (coN t i).1 = true then rmT t.1 t.2.2.1.1 2 else t.1
def coD (t : CT) (i : Int) : Im := if (coN t i).1 = true then rmD t.1 t.2.2.1.1 2 else t.2.2.1.1
def coG (t : CT) (i : Int) : Int × CS := goF t.2.1 (paF (coD t i, t.2.2.1.2.1, t.2.2.1.2.2.1, t.2.2.1.2.2.2) i (coP t i) (coN t i).2.1 (coN t i).2.2)
def cst (t : CT) (i : Int) : CT :=
  if kd t.2.2.1.1 i = 0 ∨ rbt t.2.2.1.2.1 i = true then t
  else if coP t i = -1 then (erT (coT t i) (coD t i) i, t.2.1, (wed i 31 1 (im_wipe (coD t i) (512 + i * 16) 16), t.2.2.1.2.1, t.2.2.1.2.2.1, t.2.2.1.2.2.2), (coN t i).2.1, (coN t i).2.2)
  else (coT t i, (coG t i).1, (coG t i).2, (coN t i).2.1, (coN t i).2.2)
def cns : Nat → Int → CT → CT
  | 0, _, t => t
  | f + 1, i, t => cns f (i + 1) (cst t i)
def co0 (d q : Im) : Int × CS := if kd d 1 = 0 then (0, (d, iI 0, q, 0)) else goF 0 (d, rset (iI 0) 1, rhQ d q 0 1, rhT d 0 1)
def coF (tk : Int64) (d q nb : Im) (n : Int) : CT := cns 31 1 (tk, (co0 d q).1, (co0 d q).2, nb, n)
