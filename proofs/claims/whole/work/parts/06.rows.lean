/-! ROWS: an instruction each, over Wd -/
/-- a local written: the list stays in order -/
def lvS (i : Nat) (v : Value) (l : List (Nat × Value)) : List (Nat × Value) := (l.filter (fun q => !(q.1 == i) && !(q.1 + 1 == i && q.2.category == 2))).takeWhile (fun q => decide (q.1 < i)) ++ (i, v) :: (l.filter (fun q => !(q.1 == i) && !(q.1 + 1 == i && q.2.category == 2))).dropWhile (fun q => decide (q.1 < i))
def lvL (i : Nat) (v : Value) (l : List (Nat × Value)) : List (Nat × Value) := (l.filter (fun q => !(q.1 == i) && (!(q.1 == i + 1) && !(q.1 + 1 == i && q.2.category == 2)))).takeWhile (fun q => decide (q.1 < i)) ++ (i, v) :: (l.filter (fun q => !(q.1 == i) && (!(q.1 == i + 1) && !(q.1 + 1 == i && q.2.category == 2)))).dropWhile (fun q => decide (q.1 < i))
theorem lv_ord {f : List (Nat × Value)} {p : Nat × Value → Bool} {x q : Nat × Value} (h : q ∈ f.takeWhile p ++ x :: f.dropWhile p) : q ∈ x :: f := by
  have e := List.takeWhile_append_dropWhile (p := p) (l := f)
  rcases List.mem_append.mp h with h | h
  · exact List.mem_cons_of_mem _ (by rw [← e]; exact List.mem_append_left _ h)
  · rcases List.mem_cons.mp h with rfl | h
    · exact List.mem_cons_self
    · exact List.mem_cons_of_mem _ (by rw [← e]; exact List.mem_append_right _ h)
theorem lvS_has {ls : Array Slot} {n i : Nat} {v : Value} {l : List (Nat × Value)} (h : lv_has ls n ((i, v) :: l.filter (fun q => !(q.1 == i) && !(q.1 + 1 == i && q.2.category == 2)))) : lv_has ls n (lvS i v l) := ⟨h.1, h.2.1, fun q hq => h.2.2 q (lv_ord hq)⟩
theorem lvL_has {ls : Array Slot} {n i : Nat} {v : Value} {l : List (Nat × Value)} (h : lv_has ls n ((i, v) :: l.filter (fun q => !(q.1 == i) && (!(q.1 == i + 1) && !(q.1 + 1 == i && q.2.category == 2))))) : lv_has ls n (lvL i v l) := ⟨h.1, h.2.1, fun q hq => h.2.2 q (lv_ord hq)⟩
theorem iI_emod (z : Int) : iI z = iI (z % 4294967296) := by
  unfold iI
  rw [← Int32.toBitVec_inj]
  show BitVec.ofInt 32 z = BitVec.ofInt 32 (z % 4294967296)
  apply BitVec.eq_of_toNat_eq
  simp [BitVec.toNat_ofInt]
theorem iI_bv (z : Int) : ((iI z).toBitVec.toNat : Int) = z % 4294967296 := by
  show ((BitVec.ofInt 32 z).toNat : Int) = _
  rw [BitVec.toNat_ofInt]
  omega
theorem iI_mask (a : Int) (k : Nat) {m : Int} (hk : k ≤ 31) (hm : (iI m).toBitVec.toNat = 2 ^ k - 1) : iI a &&& iI m = iI (a % 2 ^ k) := by
  rw [pk_and (iI a) k hm]
  show Int32.ofNat _ = _
  rw [iI_nat]
  congr 1
  have h := iI_bv a
  rw [Int.natCast_emod, h]
  have e : (4294967296 : Int) = 2 ^ k * 2 ^ (32 - k) := by
    rw [← Int.pow_add, show k + (32 - k) = 32 by omega]; rfl
  rw [e]
  have : ((2 ^ k : Nat) : Int) = (2 : Int) ^ k := by simp
  rw [this]
  exact Int.emod_emod_of_dvd a ⟨_, rfl⟩
theorem iI_div {a b : Int} (ha : 0 ≤ a ∧ a < 2147483648) (hb : 0 < b ∧ b < 2147483648) : iI a / iI b = iI (a / b) := by
  have ra : R32 a := ⟨by omega, by omega⟩
  have rb : R32 b := ⟨by omega, by omega⟩
  have h1 : (iI a / iI b).toInt = a / b := by
    rw [lg_idiv_nonneg (by rw [iI_toInt ra]; omega) (by rw [iI_toInt rb]; omega), iI_toInt ra, iI_toInt rb]
  rw [← iI_of (iI a / iI b), h1]
theorem iI_rem {a b : Int} (ha : 0 ≤ a ∧ a < 2147483648) (hb : 0 < b ∧ b < 2147483648) : iI a - iI a / iI b * iI b = iI (a % b) := by
  rw [iI_div ha hb, iI_mul, iI_sub]
  congr 1
  have := Int.mul_ediv_add_emod a b
  rw [Int.mul_comm] at this
  omega
theorem iI_ne0 {b : Int} (hb : 0 < b ∧ b < 2147483648) : ¬ iI b = 0 := by
  intro h
  rw [iI_z, iI_eq ⟨by omega, by omega⟩ R32_0] at h
  omega
theorem bI_0 {b : Bool} : bI b = 0 ↔ b = false := by cases b <;> decide
theorem bI_rg (b : Bool) : 0 ≤ bI b ∧ bI b ≤ 1 := by cases b <;> decide
theorem nar_b (b : Bool) : narrow .boolean (.int (iI (bI b))) = .int (iI (bI b)) := by cases b <;> rfl
theorem bI_t {p : Prop} [Decidable p] (h : p) : bI (decide p) = 1 := by simp [bI, h]
theorem bI_f {p : Prop} [Decidable p] (h : ¬ p) : bI (decide p) = 0 := by simp [bI, h]
def arB (t : Int → Bool) : Nat → Int32 := fun j => iI (bI (t j))
def upB (t : Int → Bool) (a : Int) (v : Bool) : Int → Bool := fun j => if j = a then v else t j
theorem arB_at (t : Int → Bool) {z : Int} (h0 : 0 ≤ z) (h : R32 z) : arB t (iI z).toNatClampNeg = iI (bI (t z)) := by
  rw [iI_clamp h0 h]; simp only [arB]; rw [Int.toNat_of_nonneg h0]
theorem arB_set (t : Int → Bool) {z : Int} (v : Bool) (h0 : 0 ≤ z) (h : R32 z) : upd (arB t) (iI z).toNatClampNeg (iI (bI v)) = arB (upB t z v) := by
  rw [iI_clamp h0 h]
  funext j
  simp only [upd, arB, upB]
  by_cases hj : j = z.toNat
  · rw [if_pos hj, if_pos (by omega)]
  · rw [if_neg hj, if_neg (by omega)]
theorem nar_c {z : Int} (h : 0 ≤ z ∧ z < 65536) : narrow .char (.int (iI z)) = .int (iI z) := by
  have e : iI z = nI z.toNat := by show _ = Int32.ofNat _; rw [iI_nat, Int.toNat_of_nonneg h.1]
  rw [e]; exact (pk_charN (by omega)).1
theorem i2c_ok {z : Int} (h : 0 ≤ z ∧ z < 65536) : (iI z).toUInt32.toUInt16.toUInt32.toInt32 = iI z := lg_i2c_small (by rw [iI_toInt ⟨by omega, by omega⟩]; omega) (by rw [iI_toInt ⟨by omega, by omega⟩]; omega)
theorem nar_bI (b : Bool) : vp_nar .boolean (iI (bI b)) = iI (bI b) := by cases b <;> rfl
section WR
variable {G : GX} {k : KX} {cc : ByteArray} {own : String} {R : Room} {nL ce sl pc pc2 : Nat} {ws : va_W} {lv : List (Nat × Value)} {st : List Value}
/-- a world in another order -/
theorem w_ord {ws2 : va_W} (ps : List Nat) (h : ps.map (fun i => ws[i]?) = ws2.map some) (hn : va_nd ps = true) (kk : Wd G k nL ce sl ws2 pc lv st) : Wd G k nL ce sl ws pc lv st := fun H locs ls hP hD hS hl => kk H locs ls (fun j q hj => by
    have h1 : (ps.map (fun i => ws[i]?))[j]? = some (some q) := by rw [h, List.getElem?_map, hj]; rfl
    rw [List.getElem?_map] at h1
    cases hi : ps[j]? with
    | none => rw [hi] at h1; cases h1
    | some i => rw [hi] at h1; exact hP i q (Option.some.inj h1)) (hD.sub ps hn h) hS hl
theorem w_lv {lv2 : List (Nat × Value)} (ks : List Nat) (h : lv_pick lv ks = lv2) (kk : Wd G k nL ce sl ws pc lv2 st) : Wd G k nL ce sl ws pc lv st := fun H locs ls hP hD hS hl => kk H locs ls hP hD hS (lv_sub hl ks h)
theorem w_st {st2 : List Value} (h : st = st2) (kk : Wd G k nL ce sl ws pc lv st2) : Wd G k nL ce sl ws pc lv st := h ▸ kk
theorem w_ws {ws2 : va_W} (h : ws = ws2) (kk : Wd G k nL ce sl ws2 pc lv st) : Wd G k nL ce sl ws pc lv st := h ▸ kk
theorem w_iconst (C : Cx G k cc own nL R) {n : Int} (hd : Dc cc pc (.iconst n) 1 pc2) (kk : Wd G k nL ce sl ws pc2 lv (.int (iI n) :: st)) : Wd G k nL ce sl ws pc lv (st) := by
  obtain ⟨hd, rfl⟩ := hd
  exact fun H locs ls hP hD hS hl => lv_iconst C.1 C.2.1 hd rfl (kk H locs ls hP hD hS hl)
theorem w_bipush (C : Cx G k cc own nL R) {n : Int} (hd : Dc cc pc (.bipush n) 2 pc2) (hv : (Int8.ofInt n).toInt32 = iI n) (kk : Wd G k nL ce sl ws pc2 lv (.int (iI n) :: st)) : Wd G k nL ce sl ws pc lv (st) := by
  obtain ⟨hd, rfl⟩ := hd
  exact fun H locs ls hP hD hS hl => lv_bipush C.1 C.2.1 hd hv (kk H locs ls hP hD hS hl)
theorem w_sipush (C : Cx G k cc own nL R) {n : Int} (hd : Dc cc pc (.sipush n) 3 pc2) (hv : (Int16.ofInt n).toInt32 = iI n) (kk : Wd G k nL ce sl ws pc2 lv (.int (iI n) :: st)) : Wd G k nL ce sl ws pc lv (st) := by
  obtain ⟨hd, rfl⟩ := hd
  exact fun H locs ls hP hD hS hl => lv_sipush C.1 C.2.1 hd hv (kk H locs ls hP hD hS hl)
theorem w_lconst (C : Cx G k cc own nL R) {n : Fin 2} {v : Int64} (hd : Dc cc pc (.lconst n) 1 pc2) (hv : Int64.ofNat n = v) (kk : Wd G k nL ce sl ws pc2 lv (.long v :: st)) : Wd G k nL ce sl ws pc lv (st) := by
  obtain ⟨hd, rfl⟩ := hd
  exact fun H locs ls hP hD hS hl => lv_lconst C.1 C.2.1 hd hv (kk H locs ls hP hD hS hl)
theorem w_iload_n (C : Cx G k cc own nL R) {i : Fin 4} {x : Int32} (j : Nat) (hd : Dc cc pc (.iload_n i) 1 pc2) (hj : lv[j]? = some ((i : Nat), .int x)) (kk : Wd G k nL ce sl ws pc2 lv (.int x :: st)) : Wd G k nL ce sl ws pc lv (st) := by
  obtain ⟨hd, rfl⟩ := hd
  exact fun H locs ls hP hD hS hl => lv_iload_n C.1 C.2.1 hd rfl (lv_at hl j hj) (kk H locs ls hP hD hS hl)
theorem w_iload (C : Cx G k cc own nL R) {i : Nat} {x : Int32} (j : Nat) (hd : Dc cc pc (.iload i) 2 pc2) (hj : lv[j]? = some (i, .int x)) (kk : Wd G k nL ce sl ws pc2 lv (.int x :: st)) : Wd G k nL ce sl ws pc lv (st) := by
  obtain ⟨hd, rfl⟩ := hd
  exact fun H locs ls hP hD hS hl => lv_iload C.1 C.2.1 hd (lv_at hl j hj) (kk H locs ls hP hD hS hl)
theorem w_istore_n (C : Cx G k cc own nL R) {i : Fin 4} {x : Int32} {lv2 : List (Nat × Value)} (hd : Dc cc pc (.istore_n i) 1 pc2) (hn : i < nL) (h2 : lvS i (.int x) lv = lv2) (kk : Wd G k nL ce sl ws pc2 lv2 st) : Wd G k nL ce sl ws pc lv (.int x :: st) := by
  obtain ⟨hd, rfl⟩ := hd
  subst h2
  exact fun H locs ls hP hD hS hl => lv_istore_n C.1 C.2.1 hd rfl hl hn rfl (fun ls2 hl2 => kk H locs ls2 hP hD hS (lvS_has hl2))
theorem w_istore (C : Cx G k cc own nL R) {i : Nat} {x : Int32} {lv2 : List (Nat × Value)} (hd : Dc cc pc (.istore i) 2 pc2) (hn : i < nL) (h2 : lvS i (.int x) lv = lv2) (kk : Wd G k nL ce sl ws pc2 lv2 st) : Wd G k nL ce sl ws pc lv (.int x :: st) := by
  obtain ⟨hd, rfl⟩ := hd
  subst h2
  exact fun H locs ls hP hD hS hl => lv_istore C.1 C.2.1 hd hl hn rfl (fun ls2 hl2 => kk H locs ls2 hP hD hS (lvS_has hl2))
theorem w_lload_n (C : Cx G k cc own nL R) {i : Fin 4} {x : Int64} (j : Nat) (hd : Dc cc pc (.lload_n i) 1 pc2) (hj : lv[j]? = some ((i : Nat), .long x)) (kk : Wd G k nL ce sl ws pc2 lv (.long x :: st)) : Wd G k nL ce sl ws pc lv (st) := by
  obtain ⟨hd, rfl⟩ := hd
  exact fun H locs ls hP hD hS hl => lv_lload_n C.1 C.2.1 hd rfl (lv_at hl j hj) (kk H locs ls hP hD hS hl)
theorem w_lload (C : Cx G k cc own nL R) {i : Nat} {x : Int64} (j : Nat) (hd : Dc cc pc (.lload i) 2 pc2) (hj : lv[j]? = some (i, .long x)) (kk : Wd G k nL ce sl ws pc2 lv (.long x :: st)) : Wd G k nL ce sl ws pc lv (st) := by
  obtain ⟨hd, rfl⟩ := hd
  exact fun H locs ls hP hD hS hl => lv_lload C.1 C.2.1 hd (lv_at hl j hj) (kk H locs ls hP hD hS hl)
theorem w_lstore_n (C : Cx G k cc own nL R) {i : Fin 4} {x : Int64} {lv2 : List (Nat × Value)} (hd : Dc cc pc (.lstore_n i) 1 pc2) (hn : i + 1 < nL) (h2 : lvL i (.long x) lv = lv2) (kk : Wd G k nL ce sl ws pc2 lv2 st) : Wd G k nL ce sl ws pc lv (.long x :: st) := by
  obtain ⟨hd, rfl⟩ := hd
  subst h2
  exact fun H locs ls hP hD hS hl => lv_lstore_n C.1 C.2.1 hd rfl hl hn rfl (fun ls2 hl2 => kk H locs ls2 hP hD hS (lvL_has hl2))
theorem w_lstore (C : Cx G k cc own nL R) {i : Nat} {x : Int64} {lv2 : List (Nat × Value)} (hd : Dc cc pc (.lstore i) 2 pc2) (hn : i + 1 < nL) (h2 : lvL i (.long x) lv = lv2) (kk : Wd G k nL ce sl ws pc2 lv2 st) : Wd G k nL ce sl ws pc lv (.long x :: st) := by
  obtain ⟨hd, rfl⟩ := hd
  subst h2
  exact fun H locs ls hP hD hS hl => lv_lstore C.1 C.2.1 hd hl hn rfl (fun ls2 hl2 => kk H locs ls2 hP hD hS (lvL_has hl2))
theorem w_aload_n (C : Cx G k cc own nL R) {i : Fin 4} {x : Nat} (j : Nat) (hd : Dc cc pc (.aload_n i) 1 pc2) (hj : lv[j]? = some ((i : Nat), .ref x)) (kk : Wd G k nL ce sl ws pc2 lv (.ref x :: st)) : Wd G k nL ce sl ws pc lv (st) := by
  obtain ⟨hd, rfl⟩ := hd
  exact fun H locs ls hP hD hS hl => lv_aload_n C.1 C.2.1 hd rfl (lv_at hl j hj) (kk H locs ls hP hD hS hl)
theorem w_aload (C : Cx G k cc own nL R) {i : Nat} {x : Nat} (j : Nat) (hd : Dc cc pc (.aload i) 2 pc2) (hj : lv[j]? = some (i, .ref x)) (kk : Wd G k nL ce sl ws pc2 lv (.ref x :: st)) : Wd G k nL ce sl ws pc lv (st) := by
  obtain ⟨hd, rfl⟩ := hd
  exact fun H locs ls hP hD hS hl => lv_aload C.1 C.2.1 hd (lv_at hl j hj) (kk H locs ls hP hD hS hl)
theorem w_astore_n (C : Cx G k cc own nL R) {i : Fin 4} {x : Nat} {lv2 : List (Nat × Value)} (hd : Dc cc pc (.astore_n i) 1 pc2) (hn : i < nL) (h2 : lvS i (.ref x) lv = lv2) (kk : Wd G k nL ce sl ws pc2 lv2 st) : Wd G k nL ce sl ws pc lv (.ref x :: st) := by
  obtain ⟨hd, rfl⟩ := hd
  subst h2
  exact fun H locs ls hP hD hS hl => lv_astore_n C.1 C.2.1 hd rfl hl hn rfl (fun ls2 hl2 => kk H locs ls2 hP hD hS (lvS_has hl2))
theorem w_astore (C : Cx G k cc own nL R) {i : Nat} {x : Nat} {lv2 : List (Nat × Value)} (hd : Dc cc pc (.astore i) 2 pc2) (hn : i < nL) (h2 : lvS i (.ref x) lv = lv2) (kk : Wd G k nL ce sl ws pc2 lv2 st) : Wd G k nL ce sl ws pc lv (.ref x :: st) := by
  obtain ⟨hd, rfl⟩ := hd
  subst h2
  exact fun H locs ls hP hD hS hl => lv_astore C.1 C.2.1 hd hl hn rfl (fun ls2 hl2 => kk H locs ls2 hP hD hS (lvS_has hl2))
theorem w_iinc (C : Cx G k cc own nL R) {i : Nat} {n a : Int} {lv2 : List (Nat × Value)} (j : Nat) (hd : Dc cc pc (.iinc i n) 3 pc2) (hj : lv[j]? = some (i, .int (iI a))) (hn : i < nL) (h2 : lvS i (.int (iI (a + n))) lv = lv2) (kk : Wd G k nL ce sl ws pc2 lv2 st) : Wd G k nL ce sl ws pc lv st := by
  obtain ⟨hd, rfl⟩ := hd
  subst h2
  exact fun H locs ls hP hD hS hl => lv_iinc C.1 C.2.1 hd hl hj (iI_add a n) hn rfl (fun ls2 hl2 => kk H locs ls2 hP hD hS (lvS_has hl2))
theorem w_iadd (C : Cx G k cc own nL R) {a b : Int} (hd : Dc cc pc (.iadd) 1 pc2) (kk : Wd G k nL ce sl ws pc2 lv (.int (iI (a + b)) :: st)) : Wd G k nL ce sl ws pc lv (.int (iI b) :: .int (iI a) :: st) := by
  obtain ⟨hd, rfl⟩ := hd
  exact fun H locs ls hP hD hS hl => lv_iadd C.1 C.2.1 hd (by rw [iI_add]; exact kk H locs ls hP hD hS hl)
theorem w_isub (C : Cx G k cc own nL R) {a b : Int} (hd : Dc cc pc (.isub) 1 pc2) (kk : Wd G k nL ce sl ws pc2 lv (.int (iI (a - b)) :: st)) : Wd G k nL ce sl ws pc lv (.int (iI b) :: .int (iI a) :: st) := by
  obtain ⟨hd, rfl⟩ := hd
  exact fun H locs ls hP hD hS hl => lv_isub C.1 C.2.1 hd (by rw [iI_sub]; exact kk H locs ls hP hD hS hl)
theorem w_imul (C : Cx G k cc own nL R) {a b : Int} (hd : Dc cc pc (.imul) 1 pc2) (kk : Wd G k nL ce sl ws pc2 lv (.int (iI (a * b)) :: st)) : Wd G k nL ce sl ws pc lv (.int (iI b) :: .int (iI a) :: st) := by
  obtain ⟨hd, rfl⟩ := hd
  exact fun H locs ls hP hD hS hl => lv_imul C.1 C.2.1 hd (by rw [iI_mul]; exact kk H locs ls hP hD hS hl)
theorem w_idiv (C : Cx G k cc own nL R) {a b : Int} (hd : Dc cc pc (.idiv) 1 pc2) (hr : 0 ≤ a ∧ a < 2147483648 ∧ 0 < b ∧ b < 2147483648) (kk : Wd G k nL ce sl ws pc2 lv (.int (iI (a / b)) :: st)) : Wd G k nL ce sl ws pc lv (.int (iI b) :: .int (iI a) :: st) := by
  obtain ⟨hd, rfl⟩ := hd
  exact fun H locs ls hP hD hS hl => lv_idiv C.1 C.2.1 hd (iI_ne0 ⟨hr.2.2.1, hr.2.2.2⟩) (by rw [iI_div ⟨hr.1, hr.2.1⟩ ⟨hr.2.2.1, hr.2.2.2⟩]; exact kk H locs ls hP hD hS hl)
theorem w_irem (C : Cx G k cc own nL R) {a b : Int} (hd : Dc cc pc (.irem) 1 pc2) (hr : 0 ≤ a ∧ a < 2147483648 ∧ 0 < b ∧ b < 2147483648) (kk : Wd G k nL ce sl ws pc2 lv (.int (iI (a % b)) :: st)) : Wd G k nL ce sl ws pc lv (.int (iI b) :: .int (iI a) :: st) := by
  obtain ⟨hd, rfl⟩ := hd
  exact fun H locs ls hP hD hS hl => lv_irem C.1 C.2.1 hd (iI_ne0 ⟨hr.2.2.1, hr.2.2.2⟩) (by rw [iI_rem ⟨hr.1, hr.2.1⟩ ⟨hr.2.2.1, hr.2.2.2⟩]; exact kk H locs ls hP hD hS hl)
theorem w_iandm (C : Cx G k cc own nL R) {a m q : Int} (j : Nat) (hd : Dc cc pc (.iand) 1 pc2) (hj : j ≤ 31) (hm : (iI m).toBitVec.toNat = 2 ^ j - 1) (hq : (2 : Int) ^ j = q) (kk : Wd G k nL ce sl ws pc2 lv (.int (iI (a % q)) :: st)) : Wd G k nL ce sl ws pc lv (.int (iI m) :: .int (iI a) :: st) := by
  obtain ⟨hd, rfl⟩ := hd
  exact fun H locs ls hP hD hS hl => lv_iand C.1 C.2.1 hd (by rw [iI_mask a j hj hm, hq]; exact kk H locs ls hP hD hS hl)
theorem w_iand (C : Cx G k cc own nL R) {x y v : Int32} (hd : Dc cc pc (.iand) 1 pc2) (hv : x &&& y = v) (kk : Wd G k nL ce sl ws pc2 lv (.int v :: st)) : Wd G k nL ce sl ws pc lv (.int y :: .int x :: st) := by
  obtain ⟨hd, rfl⟩ := hd
  exact fun H locs ls hP hD hS hl => lv_iand C.1 C.2.1 hd (by rw [hv]; exact kk H locs ls hP hD hS hl)
theorem w_ior (C : Cx G k cc own nL R) {x y v : Int32} (hd : Dc cc pc (.ior) 1 pc2) (hv : x ||| y = v) (kk : Wd G k nL ce sl ws pc2 lv (.int v :: st)) : Wd G k nL ce sl ws pc lv (.int y :: .int x :: st) := by
  obtain ⟨hd, rfl⟩ := hd
  exact fun H locs ls hP hD hS hl => lv_ior C.1 C.2.1 hd (by rw [hv]; exact kk H locs ls hP hD hS hl)
theorem w_ixor (C : Cx G k cc own nL R) {x y v : Int32} (hd : Dc cc pc (.ixor) 1 pc2) (hv : x ^^^ y = v) (kk : Wd G k nL ce sl ws pc2 lv (.int v :: st)) : Wd G k nL ce sl ws pc lv (.int y :: .int x :: st) := by
  obtain ⟨hd, rfl⟩ := hd
  exact fun H locs ls hP hD hS hl => lv_ixor C.1 C.2.1 hd (by rw [hv]; exact kk H locs ls hP hD hS hl)
theorem w_ishl (C : Cx G k cc own nL R) {x y v : Int32} (hd : Dc cc pc (.ishl) 1 pc2) (hv : x <<< (y &&& 31) = v) (kk : Wd G k nL ce sl ws pc2 lv (.int v :: st)) : Wd G k nL ce sl ws pc lv (.int y :: .int x :: st) := by
  obtain ⟨hd, rfl⟩ := hd
  exact fun H locs ls hP hD hS hl => lv_ishl C.1 C.2.1 hd (by rw [hv]; exact kk H locs ls hP hD hS hl)
theorem w_ishr (C : Cx G k cc own nL R) {x y v : Int32} (hd : Dc cc pc (.ishr) 1 pc2) (hv : x >>> (y &&& 31) = v) (kk : Wd G k nL ce sl ws pc2 lv (.int v :: st)) : Wd G k nL ce sl ws pc lv (.int y :: .int x :: st) := by
  obtain ⟨hd, rfl⟩ := hd
  exact fun H locs ls hP hD hS hl => lv_ishr C.1 C.2.1 hd (by rw [hv]; exact kk H locs ls hP hD hS hl)
theorem w_ladd (C : Cx G k cc own nL R) {x y v : Int64} (hd : Dc cc pc (.ladd) 1 pc2) (hv : x + y = v) (kk : Wd G k nL ce sl ws pc2 lv (.long v :: st)) : Wd G k nL ce sl ws pc lv (.long y :: .long x :: st) := by
  obtain ⟨hd, rfl⟩ := hd
  exact fun H locs ls hP hD hS hl => lv_ladd C.1 C.2.1 hd (by rw [hv]; exact kk H locs ls hP hD hS hl)
theorem w_lsub (C : Cx G k cc own nL R) {x y v : Int64} (hd : Dc cc pc (.lsub) 1 pc2) (hv : x - y = v) (kk : Wd G k nL ce sl ws pc2 lv (.long v :: st)) : Wd G k nL ce sl ws pc lv (.long y :: .long x :: st) := by
  obtain ⟨hd, rfl⟩ := hd
  exact fun H locs ls hP hD hS hl => lv_lsub C.1 C.2.1 hd (by rw [hv]; exact kk H locs ls hP hD hS hl)
theorem w_land (C : Cx G k cc own nL R) {x y v : Int64} (hd : Dc cc pc (.land) 1 pc2) (hv : x &&& y = v) (kk : Wd G k nL ce sl ws pc2 lv (.long v :: st)) : Wd G k nL ce sl ws pc lv (.long y :: .long x :: st) := by
  obtain ⟨hd, rfl⟩ := hd
  exact fun H locs ls hP hD hS hl => lv_land C.1 C.2.1 hd (by rw [hv]; exact kk H locs ls hP hD hS hl)
theorem w_lor (C : Cx G k cc own nL R) {x y v : Int64} (hd : Dc cc pc (.lor) 1 pc2) (hv : x ||| y = v) (kk : Wd G k nL ce sl ws pc2 lv (.long v :: st)) : Wd G k nL ce sl ws pc lv (.long y :: .long x :: st) := by
  obtain ⟨hd, rfl⟩ := hd
  exact fun H locs ls hP hD hS hl => lv_lor C.1 C.2.1 hd (by rw [hv]; exact kk H locs ls hP hD hS hl)
theorem w_lxor (C : Cx G k cc own nL R) {x y v : Int64} (hd : Dc cc pc (.lxor) 1 pc2) (hv : x ^^^ y = v) (kk : Wd G k nL ce sl ws pc2 lv (.long v :: st)) : Wd G k nL ce sl ws pc lv (.long y :: .long x :: st) := by
  obtain ⟨hd, rfl⟩ := hd
  exact fun H locs ls hP hD hS hl => lv_lxor C.1 C.2.1 hd (by rw [hv]; exact kk H locs ls hP hD hS hl)
theorem w_lushr (C : Cx G k cc own nL R) {x v : Int64} {y : Int32} (hd : Dc cc pc (.lushr) 1 pc2) (hv : (x.toUInt64 >>> (y.toInt64.toUInt64 &&& Int64.toUInt64 63)).toInt64 = v) (kk : Wd G k nL ce sl ws pc2 lv (.long v :: st)) : Wd G k nL ce sl ws pc lv (.int y :: .long x :: st) := by
  obtain ⟨hd, rfl⟩ := hd
  exact fun H locs ls hP hD hS hl => lv_lushr C.1 C.2.1 hd hv (kk H locs ls hP hD hS hl)
theorem w_lshl (C : Cx G k cc own nL R) {x v : Int64} {y : Int32} (hd : Dc cc pc (.lshl) 1 pc2) (hv : x <<< (y.toInt64 &&& 63) = v) (kk : Wd G k nL ce sl ws pc2 lv (.long v :: st)) : Wd G k nL ce sl ws pc lv (.int y :: .long x :: st) := by
  obtain ⟨hd, rfl⟩ := hd
  exact fun H locs ls hP hD hS hl => lv_lshl C.1 C.2.1 hd hv (kk H locs ls hP hD hS hl)
theorem w_lshr (C : Cx G k cc own nL R) {x v : Int64} {y : Int32} (hd : Dc cc pc (.lshr) 1 pc2) (hv : x >>> (y.toInt64 &&& 63) = v) (kk : Wd G k nL ce sl ws pc2 lv (.long v :: st)) : Wd G k nL ce sl ws pc lv (.int y :: .long x :: st) := by
  obtain ⟨hd, rfl⟩ := hd
  exact fun H locs ls hP hD hS hl => lv_lshr C.1 C.2.1 hd hv (kk H locs ls hP hD hS hl)
theorem w_l2i (C : Cx G k cc own nL R) {x : Int64} {v : Int32} (hd : Dc cc pc (.l2i) 1 pc2) (hv : x.toInt32 = v) (kk : Wd G k nL ce sl ws pc2 lv (.int v :: st)) : Wd G k nL ce sl ws pc lv (.long x :: st) := by
  obtain ⟨hd, rfl⟩ := hd
  exact fun H locs ls hP hD hS hl => lv_l2i C.1 C.2.1 hd hv (kk H locs ls hP hD hS hl)
theorem w_i2l (C : Cx G k cc own nL R) {x : Int32} {v : Int64} (hd : Dc cc pc (.i2l) 1 pc2) (hv : x.toInt64 = v) (kk : Wd G k nL ce sl ws pc2 lv (.long v :: st)) : Wd G k nL ce sl ws pc lv (.int x :: st) := by
  obtain ⟨hd, rfl⟩ := hd
  exact fun H locs ls hP hD hS hl => lv_i2l C.1 C.2.1 hd hv (kk H locs ls hP hD hS hl)
theorem w_i2c (C : Cx G k cc own nL R) {x v : Int32} (hd : Dc cc pc (.i2c) 1 pc2) (hv : x.toUInt32.toUInt16.toUInt32.toInt32 = v) (kk : Wd G k nL ce sl ws pc2 lv (.int v :: st)) : Wd G k nL ce sl ws pc lv (.int x :: st) := by
  obtain ⟨hd, rfl⟩ := hd
  exact fun H locs ls hP hD hS hl => lv_i2c C.1 C.2.1 hd hv (kk H locs ls hP hD hS hl)
theorem w_lcmp (C : Cx G k cc own nL R) {x y : Int64} (hd : Dc cc pc (.lcmp) 1 pc2) (kk : Wd G k nL ce sl ws pc2 lv (.int (lg_cmp x y) :: st)) : Wd G k nL ce sl ws pc lv (.long y :: .long x :: st) := by
  obtain ⟨hd, rfl⟩ := hd
  exact fun H locs ls hP hD hS hl => W.lcmp C.1 C.2.1 hd (kk H locs ls hP hD hS hl)
theorem w_dup (C : Cx G k cc own nL R) {v : Value} (hd : Dc cc pc (.dup) 1 pc2) (hv : v.category = 1) (kk : Wd G k nL ce sl ws pc2 lv (v :: v :: st)) : Wd G k nL ce sl ws pc lv (v :: st) := by
  obtain ⟨hd, rfl⟩ := hd
  exact fun H locs ls hP hD hS hl => lv_dup C.1 C.2.1 hd hv (kk H locs ls hP hD hS hl)
theorem w_pop (C : Cx G k cc own nL R) {v : Value} (hd : Dc cc pc (.pop) 1 pc2) (hv : v.category = 1) (kk : Wd G k nL ce sl ws pc2 lv (st)) : Wd G k nL ce sl ws pc lv (v :: st) := by
  obtain ⟨hd, rfl⟩ := hd
  exact fun H locs ls hP hD hS hl => lv_pop C.1 C.2.1 hd hv (kk H locs ls hP hD hS hl)
theorem w_dup2 (C : Cx G k cc own nL R) {v w : Value} (hd : Dc cc pc (.dup2) 1 pc2) (hv : v.category = 1) (hw : w.category = 1) (kk : Wd G k nL ce sl ws pc2 lv (v :: w :: v :: w :: st)) : Wd G k nL ce sl ws pc lv (v :: w :: st) := by
  obtain ⟨hd, rfl⟩ := hd
  exact fun H locs ls hP hD hS hl => lv_dup2_11 C.1 C.2.1 hd hv hw (kk H locs ls hP hD hS hl)
theorem w_goto (C : Cx G k cc own nL R) {off : Int} (tgt : Nat) (hd : Dc cc pc (.goto off) 3 pc2) (ht : (pc : Int) + off = (tgt : Int)) (kk : Wd G k nL ce sl ws tgt lv st) : Wd G k nL ce sl ws pc lv st := by
  obtain ⟨hd, rfl⟩ := hd
  exact fun H locs ls hP hD hS hl => lv_goto C.1 C.2.1 hd ht (kk H locs ls hP hD hS hl)
theorem w_icmp_eq (C : Cx G k cc own nL R) {a b off : Int} (tgt : Nat) (hd : Dc cc pc (.if_icmp .eq off) 3 pc2) (ht : (pc : Int) + off = (tgt : Int)) (hr : -2147483648 ≤ a ∧ a < 2147483648 ∧ -2147483648 ≤ b ∧ b < 2147483648) (kt : a = b → Wd G k nL ce sl ws tgt lv st) (kf : ¬ a = b → Wd G k nL ce sl ws pc2 lv st) : Wd G k nL ce sl ws pc lv (.int (iI b) :: .int (iI a) :: st) := by
  obtain ⟨hd, rfl⟩ := hd
  exact fun H locs ls hP hD hS hl => lv_icmp_eq C.1 C.2.1 hd ht (fun h => kt (by rwa [iI_eq ⟨hr.1, hr.2.1⟩ ⟨hr.2.2.1, hr.2.2.2⟩] at h) H locs ls hP hD hS hl) (fun h => kf (by rwa [iI_eq ⟨hr.1, hr.2.1⟩ ⟨hr.2.2.1, hr.2.2.2⟩] at h) H locs ls hP hD hS hl)
theorem w_if_eq (C : Cx G k cc own nL R) {a off : Int} (tgt : Nat) (hd : Dc cc pc (.ifCond .eq off) 3 pc2) (ht : (pc : Int) + off = (tgt : Int)) (hr : -2147483648 ≤ a ∧ a < 2147483648) (kt : a = 0 → Wd G k nL ce sl ws tgt lv st) (kf : ¬ a = 0 → Wd G k nL ce sl ws pc2 lv st) : Wd G k nL ce sl ws pc lv (.int (iI a) :: st) := by
  obtain ⟨hd, rfl⟩ := hd
  exact fun H locs ls hP hD hS hl => lv_if_eq C.1 C.2.1 hd ht (fun h => kt (by rwa [iI_z, iI_eq hr R32_0] at h) H locs ls hP hD hS hl) (fun h => kf (by rwa [iI_z, iI_eq hr R32_0] at h) H locs ls hP hD hS hl)
theorem w_icmp_ne (C : Cx G k cc own nL R) {a b off : Int} (tgt : Nat) (hd : Dc cc pc (.if_icmp .ne off) 3 pc2) (ht : (pc : Int) + off = (tgt : Int)) (hr : -2147483648 ≤ a ∧ a < 2147483648 ∧ -2147483648 ≤ b ∧ b < 2147483648) (kt : ¬ a = b → Wd G k nL ce sl ws tgt lv st) (kf : a = b → Wd G k nL ce sl ws pc2 lv st) : Wd G k nL ce sl ws pc lv (.int (iI b) :: .int (iI a) :: st) := by
  obtain ⟨hd, rfl⟩ := hd
  exact fun H locs ls hP hD hS hl => lv_icmp_ne C.1 C.2.1 hd ht (fun h => kt (by rwa [iI_eq ⟨hr.1, hr.2.1⟩ ⟨hr.2.2.1, hr.2.2.2⟩] at h) H locs ls hP hD hS hl) (fun h => kf (by rwa [iI_eq ⟨hr.1, hr.2.1⟩ ⟨hr.2.2.1, hr.2.2.2⟩] at h) H locs ls hP hD hS hl)
theorem w_if_ne (C : Cx G k cc own nL R) {a off : Int} (tgt : Nat) (hd : Dc cc pc (.ifCond .ne off) 3 pc2) (ht : (pc : Int) + off = (tgt : Int)) (hr : -2147483648 ≤ a ∧ a < 2147483648) (kt : ¬ a = 0 → Wd G k nL ce sl ws tgt lv st) (kf : a = 0 → Wd G k nL ce sl ws pc2 lv st) : Wd G k nL ce sl ws pc lv (.int (iI a) :: st) := by
  obtain ⟨hd, rfl⟩ := hd
  exact fun H locs ls hP hD hS hl => lv_if_ne C.1 C.2.1 hd ht (fun h => kt (by rwa [iI_z, iI_eq hr R32_0] at h) H locs ls hP hD hS hl) (fun h => kf (by rwa [iI_z, iI_eq hr R32_0] at h) H locs ls hP hD hS hl)
theorem w_icmp_lt (C : Cx G k cc own nL R) {a b off : Int} (tgt : Nat) (hd : Dc cc pc (.if_icmp .lt off) 3 pc2) (ht : (pc : Int) + off = (tgt : Int)) (hr : -2147483648 ≤ a ∧ a < 2147483648 ∧ -2147483648 ≤ b ∧ b < 2147483648) (kt : a < b → Wd G k nL ce sl ws tgt lv st) (kf : ¬ a < b → Wd G k nL ce sl ws pc2 lv st) : Wd G k nL ce sl ws pc lv (.int (iI b) :: .int (iI a) :: st) := by
  obtain ⟨hd, rfl⟩ := hd
  exact fun H locs ls hP hD hS hl => lv_icmp_lt C.1 C.2.1 hd ht (fun h => kt (by rwa [iI_lt ⟨hr.1, hr.2.1⟩ ⟨hr.2.2.1, hr.2.2.2⟩] at h) H locs ls hP hD hS hl) (fun h => kf (by rwa [iI_lt ⟨hr.1, hr.2.1⟩ ⟨hr.2.2.1, hr.2.2.2⟩] at h) H locs ls hP hD hS hl)
theorem w_if_lt (C : Cx G k cc own nL R) {a off : Int} (tgt : Nat) (hd : Dc cc pc (.ifCond .lt off) 3 pc2) (ht : (pc : Int) + off = (tgt : Int)) (hr : -2147483648 ≤ a ∧ a < 2147483648) (kt : a < 0 → Wd G k nL ce sl ws tgt lv st) (kf : ¬ a < 0 → Wd G k nL ce sl ws pc2 lv st) : Wd G k nL ce sl ws pc lv (.int (iI a) :: st) := by
  obtain ⟨hd, rfl⟩ := hd
  exact fun H locs ls hP hD hS hl => lv_if_lt C.1 C.2.1 hd ht (fun h => kt (by rwa [iI_z, iI_lt hr R32_0] at h) H locs ls hP hD hS hl) (fun h => kf (by rwa [iI_z, iI_lt hr R32_0] at h) H locs ls hP hD hS hl)
theorem w_icmp_ge (C : Cx G k cc own nL R) {a b off : Int} (tgt : Nat) (hd : Dc cc pc (.if_icmp .ge off) 3 pc2) (ht : (pc : Int) + off = (tgt : Int)) (hr : -2147483648 ≤ a ∧ a < 2147483648 ∧ -2147483648 ≤ b ∧ b < 2147483648) (kt : b ≤ a → Wd G k nL ce sl ws tgt lv st) (kf : ¬ b ≤ a → Wd G k nL ce sl ws pc2 lv st) : Wd G k nL ce sl ws pc lv (.int (iI b) :: .int (iI a) :: st) := by
  obtain ⟨hd, rfl⟩ := hd
  exact fun H locs ls hP hD hS hl => lv_icmp_ge C.1 C.2.1 hd ht (fun h => kt (by rwa [iI_le ⟨hr.2.2.1, hr.2.2.2⟩ ⟨hr.1, hr.2.1⟩] at h) H locs ls hP hD hS hl) (fun h => kf (by rwa [iI_le ⟨hr.2.2.1, hr.2.2.2⟩ ⟨hr.1, hr.2.1⟩] at h) H locs ls hP hD hS hl)
theorem w_if_ge (C : Cx G k cc own nL R) {a off : Int} (tgt : Nat) (hd : Dc cc pc (.ifCond .ge off) 3 pc2) (ht : (pc : Int) + off = (tgt : Int)) (hr : -2147483648 ≤ a ∧ a < 2147483648) (kt : 0 ≤ a → Wd G k nL ce sl ws tgt lv st) (kf : ¬ 0 ≤ a → Wd G k nL ce sl ws pc2 lv st) : Wd G k nL ce sl ws pc lv (.int (iI a) :: st) := by
  obtain ⟨hd, rfl⟩ := hd
  exact fun H locs ls hP hD hS hl => lv_if_ge C.1 C.2.1 hd ht (fun h => kt (by rwa [iI_z, iI_le R32_0 hr] at h) H locs ls hP hD hS hl) (fun h => kf (by rwa [iI_z, iI_le R32_0 hr] at h) H locs ls hP hD hS hl)
theorem w_icmp_gt (C : Cx G k cc own nL R) {a b off : Int} (tgt : Nat) (hd : Dc cc pc (.if_icmp .gt off) 3 pc2) (ht : (pc : Int) + off = (tgt : Int)) (hr : -2147483648 ≤ a ∧ a < 2147483648 ∧ -2147483648 ≤ b ∧ b < 2147483648) (kt : b < a → Wd G k nL ce sl ws tgt lv st) (kf : ¬ b < a → Wd G k nL ce sl ws pc2 lv st) : Wd G k nL ce sl ws pc lv (.int (iI b) :: .int (iI a) :: st) := by
  obtain ⟨hd, rfl⟩ := hd
  exact fun H locs ls hP hD hS hl => lv_icmp_gt C.1 C.2.1 hd ht (fun h => kt (by rwa [iI_lt ⟨hr.2.2.1, hr.2.2.2⟩ ⟨hr.1, hr.2.1⟩] at h) H locs ls hP hD hS hl) (fun h => kf (by rwa [iI_lt ⟨hr.2.2.1, hr.2.2.2⟩ ⟨hr.1, hr.2.1⟩] at h) H locs ls hP hD hS hl)
theorem w_if_gt (C : Cx G k cc own nL R) {a off : Int} (tgt : Nat) (hd : Dc cc pc (.ifCond .gt off) 3 pc2) (ht : (pc : Int) + off = (tgt : Int)) (hr : -2147483648 ≤ a ∧ a < 2147483648) (kt : 0 < a → Wd G k nL ce sl ws tgt lv st) (kf : ¬ 0 < a → Wd G k nL ce sl ws pc2 lv st) : Wd G k nL ce sl ws pc lv (.int (iI a) :: st) := by
  obtain ⟨hd, rfl⟩ := hd
  exact fun H locs ls hP hD hS hl => lv_if_gt C.1 C.2.1 hd ht (fun h => kt (by rwa [iI_z, iI_lt R32_0 hr] at h) H locs ls hP hD hS hl) (fun h => kf (by rwa [iI_z, iI_lt R32_0 hr] at h) H locs ls hP hD hS hl)
theorem w_icmp_le (C : Cx G k cc own nL R) {a b off : Int} (tgt : Nat) (hd : Dc cc pc (.if_icmp .le off) 3 pc2) (ht : (pc : Int) + off = (tgt : Int)) (hr : -2147483648 ≤ a ∧ a < 2147483648 ∧ -2147483648 ≤ b ∧ b < 2147483648) (kt : a ≤ b → Wd G k nL ce sl ws tgt lv st) (kf : ¬ a ≤ b → Wd G k nL ce sl ws pc2 lv st) : Wd G k nL ce sl ws pc lv (.int (iI b) :: .int (iI a) :: st) := by
  obtain ⟨hd, rfl⟩ := hd
  exact fun H locs ls hP hD hS hl => lv_icmp_le C.1 C.2.1 hd ht (fun h => kt (by rwa [iI_le ⟨hr.1, hr.2.1⟩ ⟨hr.2.2.1, hr.2.2.2⟩] at h) H locs ls hP hD hS hl) (fun h => kf (by rwa [iI_le ⟨hr.1, hr.2.1⟩ ⟨hr.2.2.1, hr.2.2.2⟩] at h) H locs ls hP hD hS hl)
theorem w_if_le (C : Cx G k cc own nL R) {a off : Int} (tgt : Nat) (hd : Dc cc pc (.ifCond .le off) 3 pc2) (ht : (pc : Int) + off = (tgt : Int)) (hr : -2147483648 ≤ a ∧ a < 2147483648) (kt : a ≤ 0 → Wd G k nL ce sl ws tgt lv st) (kf : ¬ a ≤ 0 → Wd G k nL ce sl ws pc2 lv st) : Wd G k nL ce sl ws pc lv (.int (iI a) :: st) := by
  obtain ⟨hd, rfl⟩ := hd
  exact fun H locs ls hP hD hS hl => lv_if_le C.1 C.2.1 hd ht (fun h => kt (by rwa [iI_z, iI_le hr R32_0] at h) H locs ls hP hD hS hl) (fun h => kf (by rwa [iI_z, iI_le hr R32_0] at h) H locs ls hP hD hS hl)
theorem w_bz (C : Cx G k cc own nL R) {b : Bool} {off : Int} (tgt : Nat) (hd : Dc cc pc (.ifCond .eq off) 3 pc2) (ht : (pc : Int) + off = (tgt : Int)) (kt : b = false → Wd G k nL ce sl ws tgt lv st) (kf : b = true → Wd G k nL ce sl ws pc2 lv st) : Wd G k nL ce sl ws pc lv (.int (iI (bI b)) :: st) :=
  w_if_eq C tgt hd ht (by have := bI_rg b; omega) (fun h => kt (bI_0.mp h)) (fun h => kf (by cases b with | false => exact absurd rfl h | true => rfl))
theorem w_bnz (C : Cx G k cc own nL R) {b : Bool} {off : Int} (tgt : Nat) (hd : Dc cc pc (.ifCond .ne off) 3 pc2) (ht : (pc : Int) + off = (tgt : Int)) (kt : b = true → Wd G k nL ce sl ws tgt lv st) (kf : b = false → Wd G k nL ce sl ws pc2 lv st) : Wd G k nL ce sl ws pc lv (.int (iI (bI b)) :: st) :=
  w_if_ne C tgt hd ht (by have := bI_rg b; omega) (fun h => kt (by cases b with | false => exact absurd rfl h | true => rfl)) (fun h => kf (bI_0.mp h))
theorem w_ldc (C : Cx G k cc own nL R) {idx : Nat} {v : Int32} {z : Int} (i : Nat) (hd : Dc cc pc (.ldc idx) 2 pc2) (hw : lw_tbl[i]? = some (.constant own idx v)) (hv : v = iI z) (kk : Wd G k nL ce sl ws pc2 lv (.int (iI z) :: st)) : Wd G k nL ce sl ws pc lv st := by
  obtain ⟨hd, rfl⟩ := hd
  subst hv
  exact fun H locs ls hP hD hS hl => lv_ldc C.1 C.2.1 C.2.2.2.1 (C.2.2.2.2.1 _ (tb_in i hw rfl)) hd (kk H locs ls hP hD hS hl)
theorem w_ldc2 (C : Cx G k cc own nL R) {idx : Nat} {v : Int64} (i : Nat) (hd : Dc cc pc (.ldc2_w idx) 3 pc2) (hw : lw_tbl[i]? = some (.constantLong own idx v)) (kk : Wd G k nL ce sl ws pc2 lv (.long v :: st)) : Wd G k nL ce sl ws pc lv st := by
  obtain ⟨hd, rfl⟩ := hd
  exact fun H locs ls hP hD hS hl => lv_ldc2 C.1 C.2.1 C.2.2.2.1 (C.2.2.2.2.1 _ (tb_in i hw rfl)) hd (kk H locs ls hP hD hS hl)
variable {a ci N idx : Nat} {fs : List Value} {T : u_T} {Cn : String}
theorem w_get (C : Cx G k cc own nL R) {v : Value} (q0 kf i : Nat) (hd : Dc cc pc (.getfield idx) 3 pc2) (he : ws[q0]? = some (a, .inr (ci, fs))) (hc : vwCl[ci]? = some (Cn, T, N)) (hin : ∀ w ∈ u_ws Cn T N, w ∈ tb) (hk : kf < N) (hw : lw_tbl[i]? = some (.fieldLink own idx (T kf).1 (T kf).2.1 (T kf).2.2.1)) (hv : fs[kf]? = some v) (kk : Wd G k nL ce sl ws pc2 lv (v :: st)) : Wd G k nL ce sl ws pc lv (.ref a :: st) := by
  obtain ⟨hd, rfl⟩ := hd
  exact fun H locs ls hP hD hS hl => va_get C.1 C.2.1 C.2.2.2.2.1 hin C.2.2.2.1 C.2.2.2.2.2.1 hP q0 he hc kf hk (C.2.2.2.2.1 _ (tb_in i hw rfl)) (fun _ h => h) hv hd (kk H locs ls hP hD hS hl)
theorem w_put (C : Cx G k cc own nL R) {v : Value} {ty : FieldType} {ty0 : Nat → FieldType} {ws2 : va_W} (q0 kf i : Nat) (hd : Dc cc pc (.putfield idx) 3 pc2) (he : ws[q0]? = some (a, .inr (ci, fs))) (hc : vwCl[ci]? = some (Cn, T, N)) (hin : ∀ w ∈ u_ws Cn T N, w ∈ tb) (hty : ∀ k, k < N → parseFieldDescriptor (T k).2.2.1 = some (ty0 k)) (hnm : ∀ a, a < N → ∀ b, b < N → a ≠ b → (T a).2.1 ≠ (T b).2.1) (hk : kf < N) (hw : lw_tbl[i]? = some (.fieldLink own idx (T kf).1 (T kf).2.1 (T kf).2.2.1)) (hfin : (T kf).2.2.2 = false) (ht : parseFieldDescriptor (T kf).2.2.1 = some ty) (hn : narrow ty v = v) (hfit : fits ty v = true) (hl0 : kf < fs.length) (h2 : ws.set q0 (a, .inr (ci, fs.set kf v)) = ws2) (kk : Wd G k nL ce sl ws2 pc2 lv st) : Wd G k nL ce sl ws pc lv (v :: .ref a :: st) := by
  obtain ⟨hd, rfl⟩ := hd
  subst h2
  exact fun H locs ls hP hD hS hl => va_put C.1 C.2.1 C.2.2.2.2.1 hin ty0 hty hnm C.2.2.2.1 C.2.2.2.2.2.1 hP hD hS q0 he hc kf hk (C.2.2.2.2.1 _ (tb_in i hw rfl)) (fun _ h => h) hfin ht hn hfit hl0 hd (fun H1 locs1 hP1 hD1 hS1 => kk H1 locs1 ls hP1 hD1 hS1 hl)
theorem w_iald (C : Cx G k cc own nL R) {n : Nat} {d : Im} {z : Int} (q0 : Nat) (hd : Dc cc pc (.iaload) 1 pc2) (he : ws[q0]? = some (a, .inl (gI G, n, .inl (arI d)))) (hr : 0 ≤ z ∧ z < n ∧ z < 2147483648) (kk : Wd G k nL ce sl ws pc2 lv (.int (iI (d.1 z)) :: st)) : Wd G k nL ce sl ws pc lv (.int (iI z) :: .ref a :: st) := by
  obtain ⟨hd, rfl⟩ := hd
  exact fun H locs ls hP hD hS hl => va_iald C.1 C.2.1 C.2.2.2.2.2.1 hP q0 0 he rfl (iI_in hr.1 hr.2.1 ⟨by omega, hr.2.2⟩) hd (by rw [arI_at d hr.1 ⟨by omega, hr.2.2⟩]; exact kk H locs ls hP hD hS hl)
theorem w_alen (C : Cx G k cc own nL R) {n : Nat} {d : Im} (q0 : Nat) (hd : Dc cc pc (.arraylength) 1 pc2) (he : ws[q0]? = some (a, .inl (gI G, n, .inl (arI d)))) (kk : Wd G k nL ce sl ws pc2 lv (.int (iI (n : Int)) :: st)) : Wd G k nL ce sl ws pc lv (.ref a :: st) := by
  obtain ⟨hd, rfl⟩ := hd
  exact fun H locs ls hP hD hS hl => va_alen C.1 C.2.1 C.2.2.2.2.2.1 hP q0 0 he rfl (iI_nat n) hd (kk H locs ls hP hD hS hl)
theorem w_iast (C : Cx G k cc own nL R) {n : Nat} {d : Im} {z v : Int} {ws2 : va_W} (q0 : Nat) (hd : Dc cc pc (.iastore) 1 pc2) (he : ws[q0]? = some (a, .inl (gI G, n, .inl (arI d)))) (hr : 0 ≤ z ∧ z < n ∧ z < 2147483648) (hv : 0 ≤ v ∧ v < 256) (h2 : ws.set q0 (a, .inl (gI G, n, .inl (arI (up d z v)))) = ws2) (kk : Wd G k nL ce sl ws2 pc2 lv st) : Wd G k nL ce sl ws pc lv (.int (iI v) :: .int (iI z) :: .ref a :: st) := by
  obtain ⟨hd, rfl⟩ := hd
  subst h2
  exact fun H locs ls hP hD hS hl => va_iast C.1 C.2.1 C.2.2.2.2.2.1 hP hD hS q0 0 he rfl (iI_in hr.1 hr.2.1 ⟨by omega, hr.2.2⟩) hd (fun H1 locs1 hP1 hD1 hS1 => by
    rw [arI_set d hv hr.1 ⟨by omega, hr.2.2⟩] at hP1 hD1
    exact kk H1 locs1 ls hP1 hD1 hS1 hl)
theorem w_zald (C : Cx G k cc own nL R) {n : Nat} {t : Int → Bool} {z : Int} (q0 : Nat) (hd : Dc cc pc (.baload) 1 pc2) (he : ws[q0]? = some (a, .inl (gZ G, n, .inl (arB t)))) (hr : 0 ≤ z ∧ z < n ∧ z < 2147483648) (kk : Wd G k nL ce sl ws pc2 lv (.int (iI (bI (t z))) :: st)) : Wd G k nL ce sl ws pc lv (.int (iI z) :: .ref a :: st) := by
  obtain ⟨hd, rfl⟩ := hd
  exact fun H locs ls hP hD hS hl => va_zald C.1 C.2.1 C.2.2.2.2.2.1 hP q0 1 he rfl (iI_in hr.1 hr.2.1 ⟨by omega, hr.2.2⟩) hd (by rw [arB_at t hr.1 ⟨by omega, hr.2.2⟩]; exact kk H locs ls hP hD hS hl)
theorem w_zast (C : Cx G k cc own nL R) {n : Nat} {t : Int → Bool} {z : Int} {v : Bool} {ws2 : va_W} (q0 : Nat) (hd : Dc cc pc (.bastore) 1 pc2) (he : ws[q0]? = some (a, .inl (gZ G, n, .inl (arB t)))) (hr : 0 ≤ z ∧ z < n ∧ z < 2147483648) (h2 : ws.set q0 (a, .inl (gZ G, n, .inl (arB (upB t z v)))) = ws2) (kk : Wd G k nL ce sl ws2 pc2 lv st) : Wd G k nL ce sl ws pc lv (.int (iI (bI v)) :: .int (iI z) :: .ref a :: st) := by
  obtain ⟨hd, rfl⟩ := hd
  subst h2
  exact fun H locs ls hP hD hS hl => va_zast C.1 C.2.1 C.2.2.2.2.2.1 hP hD hS q0 1 he rfl (iI_in hr.1 hr.2.1 ⟨by omega, hr.2.2⟩) hd (fun H1 locs1 hP1 hD1 hS1 => by
    rw [nar_bI, arB_set t v hr.1 ⟨by omega, hr.2.2⟩] at hP1 hD1
    exact kk H1 locs1 ls hP1 hD1 hS1 hl)
/-- an array's contents count within its length alone -/
theorem w_arr {n : Nat} {d e : Im} {ws2 : va_W} (q0 : Nat) (he : ws[q0]? = some (a, .inl (gI G, n, .inl (arI d)))) (h : ∀ j : Int, 0 ≤ j → j < n → d.1 j = e.1 j) (h2 : ws.set q0 (a, .inl (gI G, n, .inl (arI e))) = ws2) (kk : Wd G k nL ce sl ws2 pc lv st) : Wd G k nL ce sl ws pc lv st := by
  subst h2
  intro H locs ls hP hD hS hl
  refine kk H locs ls (hP.set (A := kA k) hD he ?_ (fun q _ => rfl)) (hD.set he) hS hl
  have h1 : H[a]? = some (vp_cell (gI G) (n, .inl (arI d))) := hP q0 _ he
  show H[a]? = some (vp_cell (gI G) (n, .inl (arI e)))
  rw [h1]
  congr 1
  show arrV (gI G) n (fun j => .int (arI d j)) = arrV (gI G) n (fun j => .int (arI e j))
  unfold arrV
  congr 1
  apply Array.ext (by simp)
  intro j hj1 hj2
  simp only [Array.getElem_ofFn]
  simp only [Array.size_ofFn] at hj1
  simp only [arI]
  rw [h j (by omega) (by omega)]
variable {ret : Option FieldType} {rm : Room} {post : Option Value → va_W → Prop}
theorem w_reti (hret : RetP G k nL cc ret rm post) {x : Int32} {ty : FieldType} (hd : Dc cc pc (.ireturn) 1 pc2) (ht : ret = some ty) (hn : narrow ty (.int x) = .int x) (hc : ce = rm.cells) (hs : sl = rm.slots) (hp : post (some (.int x)) ws) : Wd G k nL ce sl ws pc lv [.int x] := by
  subst hc; subst hs
  exact hret _ _ _ _ _ hp (Or.inl ⟨x, ty, ht, hn, rfl, rfl, hd.1⟩)
theorem w_retv (hret : RetP G k nL cc ret rm post) (hd : Dc cc pc (.return_) 1 pc2) (ht : ret = none) (hc : ce = rm.cells) (hs : sl = rm.slots) (hp : post none ws) : Wd G k nL ce sl ws pc lv [] := by
  subst hc; subst hs
  exact hret _ _ _ _ _ hp (Or.inr (Or.inl ⟨ht, rfl, rfl, hd.1⟩))
theorem w_retl (hret : RetP G k nL cc ret rm post) {x : Int64} (hd : Dc cc pc (.lreturn) 1 pc2) (ht : ret = some .long) (hc : ce = rm.cells) (hs : sl = rm.slots) (hp : post (some (.long x)) ws) : Wd G k nL ce sl ws pc lv [.long x] := by
  subst hc; subst hs
  exact hret _ _ _ _ _ hp (Or.inr (Or.inr ⟨x, ht, rfl, rfl, hd.1⟩))
end WR
