/-! TEXTS: the literals' own rows; arraycopy; Math.min -/
def txL : List (List Int) := [[83, 70, 83, 75], [74, 82, 78, 76], [46], [46, 46], [108, 111, 115, 116, 43, 102, 111, 117, 110, 100]]
/-- how long a literal is, its char at a place -/
def tn (t : Nat) : Int := ((txL.getD t []).length : Int)
def tx (t : Nat) (i : Int) : Int := (txL.getD t []).getD i.toNat 0
theorem tn_ok : ∀ t, t < 5 → (stL.getD t 0 : Int) = tn t := by decide
theorem tn_rg : ∀ t, t < 5 → 1 ≤ tn t ∧ tn t ≤ 10 := by decide
theorem tx_ok0 : ∀ t, t < 5 → ∀ j, j < stL.getD t 0 → (stB.getD t []).getD j 0 = iI ((txL.getD t []).getD j 0) := by decide +kernel
theorem tx_rg0 : ∀ t, t < 5 → ∀ j, j < 11 → 0 ≤ (txL.getD t []).getD j 0 ∧ (txL.getD t []).getD j 0 < 128 := by decide +kernel
theorem tx_rg {t : Nat} {i : Int} (ht : t < 5) (h : 0 ≤ i ∧ i < tn t) : 0 ≤ tx t i ∧ tx t i < 128 := by
  have := tn_rg t ht
  exact tx_rg0 t ht i.toNat (by omega)
section TX
variable {G : GX} {k : KX} {cc : ByteArray} {own : String} {R : Room} {nL ce sl pc pc2 : Nat} {ws : va_W} {lv : List (Nat × Value)} {st : List Value} {idx t : Nat}
theorem w_getsC (C : Cx G k cc own nL R) (i : Nat) (hd : Dc cc pc (.getstatic idx) 3 pc2) (hw : lw_tbl[i]? = some (.fieldLink own idx "java/lang/String" "COMPACT_STRINGS" "Z")) (kk : Wd G k nL ce sl ws pc2 lv (.int (iI 1) :: st)) : Wd G k nL ce sl ws pc lv st := by
  obtain ⟨hd, rfl⟩ := hd
  exact fun H locs ls hP hD hS hl => va_gets C.1 C.2.1 C.2.2.2.2.2.2.2.1.2.1 hS C.2.2.2.1 (C.2.2.2.2.1 _ (tb_in i hw rfl)) (fun _ h => h) hd (kk H locs ls hP hD hS hl)
theorem w_getsQ (C : Cx G k cc own nL R) (i : Nat) (hd : Dc cc pc (.getstatic idx) 3 pc2) (hw : lw_tbl[i]? = some (.fieldLink own idx "jdk/internal/util/Preconditions" "SIOOBE_FORMATTER" "Ljava/util/function/BiFunction;")) (k0 : Wd G k nL ce sl ws pc2 lv (.null :: st)) (k1 : ∀ a : Nat, Wd G k nL ce sl ws pc2 lv (.ref a :: st)) : Wd G k nL ce sl ws pc lv st := by
  obtain ⟨hd, rfl⟩ := hd
  intro H locs ls hP hD hS hl
  rcases C.2.2.2.2.2.2.2.1.2.2.1 with h | ⟨a, h⟩
  · exact va_gets C.1 C.2.1 h hS C.2.2.2.1 (C.2.2.2.2.1 _ (tb_in i hw rfl)) (fun _ h => h) hd (k0 H locs ls hP hD hS hl)
  · exact va_gets C.1 C.2.1 h hS C.2.2.2.1 (C.2.2.2.2.1 _ (tb_in i hw rfl)) (fun _ h => h) hd (k1 a H locs ls hP hD hS hl)
theorem w_sgetC (C : Cx G k cc own nL R) (i : Nat) (ht : t < 5) (hd : Dc cc pc (.getfield idx) 3 pc2) (hw : lw_tbl[i]? = some (.fieldLink own idx "java/lang/String" "coder" "B")) (kk : Wd G k nL ce sl ws pc2 lv (.int (iI 0) :: st)) : Wd G k nL ce sl ws pc lv (.ref (gK G t) :: st) := by
  obtain ⟨hd, rfl⟩ := hd
  exact fun H locs ls hP hD hS hl => vk_getf C.1 C.2.1 (C.2.2.2.2.2.2.2.1.1.1 t ht).2.1 hS C.2.2.2.1 (C.2.2.2.2.1 _ (tb_in i hw rfl)) (fun _ h => h) hd (kk H locs ls hP hD hS hl)
theorem w_sgetV (C : Cx G k cc own nL R) (i : Nat) (ht : t < 5) (hd : Dc cc pc (.getfield idx) 3 pc2) (hw : lw_tbl[i]? = some (.fieldLink own idx "java/lang/String" "value" "[B")) (kk : Wd G k nL ce sl ws pc2 lv (.ref (gV G t) :: st)) : Wd G k nL ce sl ws pc lv (.ref (gK G t) :: st) := by
  obtain ⟨hd, rfl⟩ := hd
  exact fun H locs ls hP hD hS hl => vk_getf C.1 C.2.1 (C.2.2.2.2.2.2.2.1.1.1 t ht).2.2.1 hS C.2.2.2.1 (C.2.2.2.2.1 _ (tb_in i hw rfl)) (fun _ h => h) hd (kk H locs ls hP hD hS hl)
theorem w_slen (C : Cx G k cc own nL R) (ht : t < 5) (hd : Dc cc pc (.arraylength) 1 pc2) (kk : Wd G k nL ce sl ws pc2 lv (.int (iI (tn t)) :: st)) : Wd G k nL ce sl ws pc lv (.ref (gV G t) :: st) := by
  obtain ⟨hd, rfl⟩ := hd
  exact fun H locs ls hP hD hS hl => va_tlen C.1 C.2.1 (C.2.2.2.2.2.2.2.1.1.1 t ht).2.2.2 hS (by rw [iI_nat, tn_ok t ht]) hd (kk H locs ls hP hD hS hl)
theorem w_sbald (C : Cx G k cc own nL R) {z : Int} (ht : t < 5) (hz : 0 ≤ z ∧ z < tn t) (hd : Dc cc pc (.baload) 1 pc2) (kk : Wd G k nL ce sl ws pc2 lv (.int (iI (tx t z)) :: st)) : Wd G k nL ce sl ws pc lv (.int (iI z) :: .ref (gV G t) :: st) := by
  obtain ⟨hd, rfl⟩ := hd
  have h1 := tn_ok t ht
  have h2 := tn_rg t ht
  have hz2 : R32 z := ⟨by omega, by omega⟩
  exact fun H locs ls hP hD hS hl => va_tb C.1 C.2.1 (C.2.2.2.2.2.2.2.1.1.1 t ht).2.2.2 hS (iI_in hz.1 (by omega) hz2) (by
    show Value.int _ = _
    rw [iI_clamp hz.1 hz2, tx_ok0 t ht z.toNat (by omega)]
    rfl) hd (kk H locs ls hP hD hS hl)
theorem w_ldcS (C : Cx G k cc own nL R) {tt : String} {a : Nat} (hd : Dc cc pc (.ldc idx) 2 pc2) (hR : vk_R own idx tt a (ks k)) (kk : Wd G k nL ce sl ws pc2 lv (.ref a :: st)) : Wd G k nL ce sl ws pc lv st := by
  obtain ⟨hd, rfl⟩ := hd
  exact fun H locs ls hP hD hS hl => va_ldcS C.1 C.2.1 C.2.2.2.1 hR hd (kk H locs ls hP hD hS hl)
variable {wc w0 w2 ws' : va_W} {rest As : List Value} {y : MethodName} {bytes : ByteArray} {maxL n i1 i2 i3 i4 i5 : Nat} {ret : Option FieldType} {rm : Room} {v0 : Option Value}
/-- a call of a literal's own method, that changes nothing -/
theorem w_callT (C : Cx G k cc own nL R) (ht : t < 5) (hM : Ct G (kl k) y bytes maxL ret rm (.ref (gK G t) :: As) [] v0 []) (hw : cwv own idx y bytes maxL ret n i1 i2 i3 i4 i5) (hd : Dc cc pc (.invokevirtual idx) 3 pc2) (ho : "java/lang/String" = y.cls) (hst : st = As.reverse ++ .ref (gK G t) :: rest) (hn : As.length = n) (hcat : (rest.map fun v => v.category).sum ≤ 8)
    (hR : rm.frames + 1 ≤ R.frames ∧ 8 + (maxL + 11) + rm.locals ≤ R.locals ∧ ce + rm.cells ≤ R.cells ∧ sl + rm.slots ≤ R.slots) {st2 : List Value} (hs2 : v0.toList ++ rest = st2) (kk : Wd G k nL (ce + rm.cells) (sl + rm.slots) ws pc2 lv st2) : Wd G k nL ce sl ws pc lv st := by
  intro H locs ls hP hD hS hl
  obtain ⟨⟨w1, w2, w3, w4, w5⟩, hd1, hd2, hd3⟩ := hw
  obtain ⟨hdg, rfl⟩ := hd
  subst hst
  have hRk := C.2.2.2.2.2.2.2.2
  have htb := C.2.2.2.2.1
  refine w_run (ws := []) C hP hD hS hl [] rfl (va_runV (Ts := tb) (C := y.cls) ⟨C.1, C.2.1, C.2.2.1, C.2.2.2.1, htb⟩ (hM H.size) ⟨callB_of n htb (tb_code w5) rfl rfl rfl (htb _ (tb_in _ w4 rfl)) (htb _ (tb_in _ w1 rfl)) ⟨hd1, hd2, hd3⟩ ⟨by rw [show k.1.2.2.2.1 = R from hRk]; exact hR.1, by rw [show k.1.2.2.2.1 = R from hRk]; exact hR.2.1⟩, htb _ (tb_in _ w2 rfl), htb _ (tb_in _ w3 rfl)⟩ ⟨CtP_blind, ?_, fun U hU hW => ct_at C hP hD hS [] rfl (by decide) hU hW⟩ rfl hn hl.1 rfl (lv_room hcat) hdg ⟨by rw [show k.1.2.2.2.1 = R from hRk]; exact hR.2.2.1, by rw [show k.1.2.2.2.1 = R from hRk]; exact hR.2.2.2⟩) (fun v ws' h => by rw [h.2]) (fun v ws' h => by rw [h.1, h.2, hs2]; exact kk)
  have h := vk_recv C.2.2.2.2.2.2.2.1.1 ht hS
  rw [ho] at h
  exact h
/-- bytes copied: from the image d into e -/
def cpy (d e : Im) (sp dp n : Int) : Im := ⟨fun j => if dp ≤ j ∧ j < dp + n then d.1 (sp + (j - dp)) else e.1 j, fun j => by
  show 0 ≤ (if dp ≤ j ∧ j < dp + n then d.1 (sp + (j - dp)) else e.1 j) ∧ (if dp ≤ j ∧ j < dp + n then d.1 (sp + (j - dp)) else e.1 j) < 256
  have := d.2 (sp + (j - dp))
  have := e.2 j
  split <;> omega⟩
theorem cpy_ar (d e : Im) {sp dp n : Int} (h1 : 0 ≤ sp) (h2 : 0 ≤ dp) (h3 : 0 ≤ n) : va_cpy (arI d) (arI e) sp.toNat dp.toNat n.toNat = arI (cpy d e sp dp n) := by
  funext j
  simp only [va_cpy, arI, cpy]
  by_cases h : dp.toNat ≤ j ∧ j < dp.toNat + n.toNat
  · rw [if_pos h, if_pos (by omega), show ((sp.toNat + (j - dp.toNat) : Nat) : Int) = sp + (j - dp) by omega]
  · rw [if_neg h, if_neg (by omega)]
theorem w_copy (C : Cx G k cc own nL R) {a a0 n0 n1 : Nat} {d e : Im} {sp dp n : Int} {ws2 : va_W} (i q0 q1 : Nat) (hd : Dc cc pc (.invokestatic idx) 3 pc2) (hw : lw_tbl[i]? = some (.methodLink own idx arraycopyName)) (ha0 : ws[q0]? = some (a0, .inl (gI G, n0, .inl (arI d)))) (ha1 : ws[q1]? = some (a, .inl (gI G, n1, .inl (arI e)))) (hr : 0 ≤ sp ∧ 0 ≤ dp ∧ 0 ≤ n ∧ sp + n ≤ n0 ∧ dp + n ≤ n1 ∧ n0 < 2147483648 ∧ n1 < 2147483648) (hR : 1 ≤ R.frames ∧ (st.map fun v => v.category).sum + 32 ≤ R.locals) (h2 : ws.set q1 (a, .inl (gI G, n1, .inl (arI (cpy d e sp dp n)))) = ws2) (kk : Wd G k nL ce sl ws2 pc2 lv st) : Wd G k nL ce sl ws pc lv (.int (iI n) :: .int (iI dp) :: .ref a :: .int (iI sp) :: .ref a0 :: st) := by
  obtain ⟨hd, rfl⟩ := hd
  subst h2
  have ht := C.2.2.2.2.1
  have hRk := C.2.2.2.2.2.2.2.2
  have rs : R32 sp := ⟨by omega, by omega⟩
  have rd : R32 dp := ⟨by omega, by omega⟩
  have rn : R32 n := ⟨by omega, by omega⟩
  intro H locs ls hP hD hS hl
  have w1 : (Cond.native arraycopyName) ∈ tb := by decide +kernel
  have w2 : (Cond.static arraycopyName) ∈ tb := by decide +kernel
  have w3 : (Cond.initialized "java/lang/System") ∈ tb := by decide +kernel
  refine va_copyi (ty := .int) C.1 C.2.1 (C.2.2.1.trans hl.1.symm) C.2.2.2.1 (ht _ (tb_in i hw rfl)) (ht _ w1) (ht _ w2) (ht _ w3) C.2.2.2.2.2.1 hP hD hS q0 q1 0 0 ha0 ha1 rfl rfl rfl (sp := iI sp) (dp := iI dp) (n := iI n) (by rw [iI_z, iI_lt rs R32_0]; omega) (by rw [iI_z, iI_lt rd R32_0]; omega) (by rw [iI_z, iI_lt rn R32_0]; omega) (by rw [iI_clamp hr.1 rs, iI_clamp hr.2.2.1 rn]; omega) (by rw [iI_clamp hr.2.1 rd, iI_clamp hr.2.2.1 rn]; omega) (fun i hi => rfl) (by rw [show k.1.2.2.2.1 = R from hRk]; exact hR.1) (by rw [show k.1.2.2.2.1 = R from hRk]; exact Nat.le_trans (Nat.add_le_add_left (by decide) _) hR.2) hd (fun H1 locs1 hP1 hD1 hS1 => ?_)
  rw [iI_clamp hr.1 rs, iI_clamp hr.2.1 rd, iI_clamp hr.2.2.1 rn, cpy_ar d e hr.1 hr.2.1 hr.2.2.1] at hP1 hD1
  exact kk H1 locs1 ls hP1 hD1 hS1 hl
theorem w_min (C : Cx G k cc own nL R) {a b : Int} (i : Nat) (hd : Dc cc pc (.invokestatic idx) 3 pc2) (hw : lw_tbl[i]? = some (.methodLink own idx Lib.Math.min.name)) (hr : -2147483648 ≤ a ∧ a < 2147483648 ∧ -2147483648 ≤ b ∧ b < 2147483648) (hR : 1 ≤ R.frames ∧ (st.map fun v => v.category).sum + 13 ≤ R.locals ∧ ce ≤ R.cells ∧ sl ≤ R.slots) (kk : Wd G k nL ce sl ws pc2 lv (.int (iI (min a b)) :: st)) : Wd G k nL ce sl ws pc lv (.int (iI b) :: .int (iI a) :: st) := by
  obtain ⟨hd, rfl⟩ := hd
  have ht := C.2.2.2.2.1
  have hRk := C.2.2.2.2.2.2.2.2
  intro H locs ls hP hD hS hl
  have w2 : (Cond.static Lib.Math.min.name) ∈ tb := by decide +kernel
  have w3 : (Cond.initialized "java/lang/Math") ∈ tb := by decide +kernel
  have w4 : (Cond.code Lib.Math.min.name Lib.Math.min.code 2 (some .int)) ∈ tb := by decide +kernel
  refine va_mmin C.1 C.2.1 (C.2.2.1.trans hl.1.symm) C.2.2.2.1 (ht _ (tb_in i hw rfl)) (ht _ w2) (ht _ w3) (ht _ w4) (by rw [show k.1.2.2.2.1 = R from hRk]; exact hR.1) (by rw [show k.1.2.2.2.1 = R from hRk]; exact hR.2.1) (by rw [show k.1.2.2.2.1 = R from hRk]; exact hR.2.2.1) (by rw [show k.1.2.2.2.1 = R from hRk]; exact hR.2.2.2) hd ?_
  have e : (if iI b < iI a then iI b else iI a) = iI (min a b) := by
    by_cases h : b < a
    · rw [if_pos ((iI_lt ⟨hr.2.2.1, hr.2.2.2⟩ ⟨hr.1, hr.2.1⟩).mpr h), show min a b = b by omega]
    · rw [if_neg (fun q => h ((iI_lt ⟨hr.2.2.1, hr.2.2.2⟩ ⟨hr.1, hr.2.1⟩).mp q)), show min a b = a by omega]
  rw [e]
  exact kk H locs ls hP hD hS hl
end TX
