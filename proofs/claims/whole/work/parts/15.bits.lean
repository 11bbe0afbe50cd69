/-! LONGS AS SETS OF BLOCK NUMBERS -/
def tbt (x : Int64) (b : Int) : Bool := x.toBitVec.getLsbD b.toNat
def tset (x : Int64) (b : Int) : Int64 := x ||| ((1 : Int64) <<< ((iI b).toInt64 &&& 63))
theorem sh63 : ∀ k, k < 64 → ((iI (k : Nat)).toInt64 &&& 63) = Int64.ofNat k := by decide +kernel
theorem sh63s : ∀ k, k < 64 → ((Int64.ofNat k).toBitVec.smod 64).toNat = k := by decide +kernel
theorem shr_bv (x : Int64) {b : Int} (hb : 0 ≤ b ∧ b < 64) : (x >>> ((iI b).toInt64 &&& 63)).toBitVec = x.toBitVec.sshiftRight b.toNat := by
  have e : ((iI b).toInt64 &&& 63) = Int64.ofNat b.toNat := by
    have := sh63 b.toNat (by omega)
    rwa [Int.toNat_of_nonneg hb.1] at this
  rw [e]
  show x.toBitVec.sshiftRight' ((Int64.ofNat b.toNat).toBitVec.smod 64) = _
  unfold BitVec.sshiftRight'
  rw [sh63s b.toNat (by omega)]
theorem tb_bit (x : Int64) {b : Int} (hb : 0 ≤ b ∧ b < 64) : (x >>> ((iI b).toInt64 &&& 63)) &&& 1 = 0 ↔ tbt x b = false := by
  have key : ∀ i, i < 64 → ((x >>> ((iI b).toInt64 &&& 63)) &&& 1).toBitVec.getLsbD i = (decide (i = 0) && tbt x b) := by
    intro i hi
    show (((x >>> ((iI b).toInt64 &&& 63)).toBitVec) &&& 1#64).getLsbD i = _
    rw [BitVec.getLsbD_and, shr_bv x hb]
    by_cases h : i = 0
    · subst h
      rw [BitVec.getLsbD_sshiftRight]
      simp [tbt]
      intro _
      omega
    · have : (1#64).getLsbD i = false := by
        rw [BitVec.getLsbD_one]; simp [h]
      rw [this]
      simp [h]
  constructor
  · intro h
    have := key 0 (by decide)
    rw [h] at this
    simpa using this.symm
  · intro h
    rw [← Int64.toBitVec_inj]
    apply BitVec.eq_of_getLsbD_eq
    intro i hi
    rw [key i hi, h]
    simp
theorem tb_tset (x : Int64) {b j : Int} (hb : 0 ≤ b ∧ b < 64) (hj : 0 ≤ j ∧ j < 64) : tbt (tset x b) j = (tbt x j || decide (j = b)) := by
  unfold tbt tset
  show (x.toBitVec ||| ((1 : Int64) <<< ((iI b).toInt64 &&& 63)).toBitVec).getLsbD j.toNat = _
  rw [BitVec.getLsbD_or]
  congr 1
  have e : ((iI b).toInt64 &&& 63) = Int64.ofNat b.toNat := by
    have := sh63 b.toNat (by omega)
    rwa [Int.toNat_of_nonneg hb.1] at this
  rw [e]
  have e2 : ((1 : Int64) <<< Int64.ofNat b.toNat).toBitVec = 1#64 <<< b.toNat := by
    show 1#64 <<< ((Int64.ofNat b.toNat).toBitVec.smod 64) = _
    rw [BitVec.shiftLeft_eq', sh63s b.toNat (by omega)]
  rw [e2, BitVec.getLsbD_shiftLeft, BitVec.getLsbD_one]
  by_cases h : j = b
  · subst h
    simp
    omega
  · simp [h]
    intro _ _
    omega
section WB
variable {G : GX} {k : KX} {cc : ByteArray} {own : String} {R : Room} {nL ce sl pc pc2 : Nat} {ws : va_W} {lv : List (Nat × Value)} {st : List Value}
theorem w_lz (C : Cx G k cc own nL R) {x y : Int64} {off : Int} (tgt : Nat) (hd : Dc cc pc (.ifCond .eq off) 3 pc2) (ht : (pc : Int) + off = (tgt : Int)) (kt : x = y → Wd G k nL ce sl ws tgt lv st) (kf : ¬ x = y → Wd G k nL ce sl ws pc2 lv st) : Wd G k nL ce sl ws pc lv (.int (lg_cmp x y) :: st) := by
  obtain ⟨hd, rfl⟩ := hd
  exact fun H locs ls hP hD hS hl => lv_if_eq C.1 C.2.1 hd ht (fun h => kt ((lg_cmp_eq x y).mp h) H locs ls hP hD hS hl) (fun h => kf (fun q => h ((lg_cmp_eq x y).mpr q)) H locs ls hP hD hS hl)
theorem w_lnz (C : Cx G k cc own nL R) {x y : Int64} {off : Int} (tgt : Nat) (hd : Dc cc pc (.ifCond .ne off) 3 pc2) (ht : (pc : Int) + off = (tgt : Int)) (kt : ¬ x = y → Wd G k nL ce sl ws tgt lv st) (kf : x = y → Wd G k nL ce sl ws pc2 lv st) : Wd G k nL ce sl ws pc lv (.int (lg_cmp x y) :: st) := by
  obtain ⟨hd, rfl⟩ := hd
  exact fun H locs ls hP hD hS hl => lv_if_ne C.1 C.2.1 hd ht (fun h => kt (fun q => h ((lg_cmp_eq x y).mpr q)) H locs ls hP hD hS hl) (fun h => kf ((lg_cmp_eq x y).mp h) H locs ls hP hD hS hl)
theorem w_tbz (C : Cx G k cc own nL R) {x : Int64} {b off : Int} (tgt : Nat) (hd : Dc cc pc (.ifCond .eq off) 3 pc2) (ht : (pc : Int) + off = (tgt : Int)) (hb : 0 ≤ b ∧ b < 64) (kt : tbt x b = false → Wd G k nL ce sl ws tgt lv st) (kf : tbt x b = true → Wd G k nL ce sl ws pc2 lv st) : Wd G k nL ce sl ws pc lv (.int (lg_cmp ((x >>> ((iI b).toInt64 &&& 63)) &&& 1) 0) :: st) :=
  w_lz C tgt hd ht (fun h => kt ((tb_bit x hb).mp h)) (fun h => kf (by cases q : tbt x b with | false => exact absurd ((tb_bit x hb).mpr q) h | true => rfl))
theorem w_tbnz (C : Cx G k cc own nL R) {x : Int64} {b off : Int} (tgt : Nat) (hd : Dc cc pc (.ifCond .ne off) 3 pc2) (ht : (pc : Int) + off = (tgt : Int)) (hb : 0 ≤ b ∧ b < 64) (kt : tbt x b = true → Wd G k nL ce sl ws tgt lv st) (kf : tbt x b = false → Wd G k nL ce sl ws pc2 lv st) : Wd G k nL ce sl ws pc lv (.int (lg_cmp ((x >>> ((iI b).toInt64 &&& 63)) &&& 1) 0) :: st) :=
  w_lnz C tgt hd ht (fun h => kt (by cases q : tbt x b with | false => exact absurd ((tb_bit x hb).mpr q) h | true => rfl)) (fun h => kf ((tb_bit x hb).mp h))
end WB
