/-! MAKING OBJECTS AND ARRAYS -/
theorem Ct.ofI {G : GX} {l : Launch} {y : MethodName} {cc : ByteArray} {mL : Nat} {ret : Option FieldType} {rm : Room} {args : List Value} {ws : va_W} {post : Option Value → va_W → Prop} (hy : plainName y.cls = true) (hlen : (lg_sl args).length ≤ mL)
    (body : ∀ k : KX, Cx G k cc y.cls mL rm → kl k = l → k.2.1.2.2.2.1.name = y.name → RetP G k mL cc ret rm post → Wd G k mL 0 0 ws 0 (lv_args 0 args) []) : CtG G l y cc mL ret rm args ws post := by
  intro sz
  refine Met.ofW (cc := cc) (maxL := mL) (ret := ret) hy rfl ?_
  intro p e s m args' below meth c s₁ B hml hv
  obtain ⟨rfl, hsz, hP, hK, hD0, hSG⟩ := hv
  subst hsz
  have hlocks := B.notSynchronized
  have hts := atoms_spec (ws := Cond.code y cc mL ret :: tb) B.pre
  rw [lg_entry_eq]
  refine body ((p, l, e, rm, s), (m, args.toArray, below, meth, c), va_A ws s.heap.size, MQ below (CtQ G ws s.heap.size post) args.toArray s rm.cells rm.slots (va_A ws s.heap.size)) ⟨B.exec, B.bytes, hml, findClass_of_methodNamed B.named, fun w hw => hts w (List.mem_cons_of_mem _ hw), hK, fun q h => Or.inr h, hSG, rfl⟩ rfl (name_of_methodNamed B.named B.method).1 ?_ s.heap [] _ hP (hD0.self (sz := s.heap.size)) va_S.rf (lv_entry args hlen)
  intro v ws' pc lv st hpost hret H locs ls hP hD hS hl
  rcases hret with ⟨x, ty, hr, hn, rfl, rfl, hdg⟩ | ⟨hr, rfl, rfl, hdg⟩ | ⟨x, hr, rfl, rfl, hdg⟩
  · exact W.zret (Qc := CtQ G ws s.heap.size post) (free := va_A ws s.heap.size) (ty := ty) B.exec B.bytes (B.returns.trans hr) hn (fun t ht hW => ⟨⟨_, ws', rfl, hpost, by rw [ht]; exact hP, hD⟩, hS.F ht⟩) hS.2.2 hdg
  · exact W.vret (Qc := CtQ G ws s.heap.size post) (free := va_A ws s.heap.size) B.exec B.bytes (B.returns.trans hr) (fun t ht hW => ⟨⟨_, ws', rfl, hpost, by rw [ht]; exact hP, hD⟩, hS.F ht⟩) hS.2.2 hdg
  · exact W.lret (Qc := CtQ G ws s.heap.size post) (free := va_A ws s.heap.size) B.exec B.bytes (B.returns.trans hr) (fun t ht hW => ⟨⟨_, ws', rfl, hpost, by rw [ht]; exact hP, hD⟩, hS.F ht⟩) hS.2.2 hdg
section MKO
variable {G : GX} {k : KX} {cc : ByteArray} {own : String} {R : Room} {nL ce sl pc pc2 idx : Nat} {ws : va_W} {lv : List (Nat × Value)} {st : List Value} {a : Nat}
theorem w_objI (C : Cx G k cc own nL R) (i1 i2 i3 : Nat) (h1 : lw_tbl[i1]? = some (.methodLink own idx Lib.objectInit)) (h2 : lw_tbl[i2]? = some (.instanceMethod Lib.objectInit)) (h3 : lw_tbl[i3]? = some (.code Lib.objectInit { data := #[177] } 1 none)) (hd : Dc cc pc (.invokespecial idx) 3 pc2) (hf : 1 ≤ R.frames ∧ 20 ≤ R.locals) (hcat : (st.map fun v => v.category).sum ≤ 8) (kk : Wd G k nL ce sl ws pc2 lv st) : Wd G k nL ce sl ws pc lv (.ref a :: st) := by
  intro H locs ls hP hD hS hl
  obtain ⟨hd, rfl⟩ := hd
  have ht := C.2.2.2.2.1
  have hRk : kR k = R := C.2.2.2.2.2.2.2.2
  exact W.objInit C.1 C.2.1 C.2.2.2.1 (ht _ (tb_in i1 h1 rfl)) (ht _ (tb_in i2 h2 rfl)) (ht _ (tb_in i3 h3 rfl)) rfl (by rw [C.2.2.1]; exact hl.1) rfl hd (by rw [show k.1.2.2.2.1 = R from hRk]; exact hf.1) (by
    rw [show k.1.2.2.2.1 = R from hRk]
    have q : 2 * (F0 (km k) pc ls (.ref a :: st)).monitorRoom + (st.map fun v => v.category).sum ≤ 8 := lv_room hcat
    have := hf.2
    omega) (kk H locs ls hP hD hS hl)
theorem w_newO (C : Cx G k cc own nL R) {Cn : String} {T : u_T} {N ci : Nat} {fs : List Value} {ty0 : Nat → FieldType} (i1 i2 i3 : Nat) (hd : Dc cc pc (.new idx) 3 pc2) (hc : vwCl[ci]? = some (Cn, T, N)) (hin : ∀ w ∈ u_ws Cn T N, w ∈ tb) (hty : ∀ k, k < N → parseFieldDescriptor (T k).2.2.1 = some (ty0 k)) (w1 : lw_tbl[i1]? = some (.classLink own idx Cn)) (w2 : lw_tbl[i2]? = some (.instantiable Cn N)) (w3 : lw_tbl[i3]? = some (.initialized Cn)) (hfs : ∀ j, j < N → defaultValue (ty0 j) = vp_V fs j) (hce : ce + 1 ≤ R.cells) (hsl : sl + N ≤ R.slots) (kk : ∀ q : Nat, Wd G k nL (ce + 1) (sl + N) (ws ++ [(q, .inr (ci, fs))]) pc2 lv (.ref q :: st)) : Wd G k nL ce sl ws pc lv st := by
  intro H locs ls hP hD hS hl
  obtain ⟨hd, rfl⟩ := hd
  have ht := C.2.2.2.2.1
  have hRk : kR k = R := C.2.2.2.2.2.2.2.2
  exact va_new C.1 C.2.1 ht hin ty0 hty C.2.2.2.1 (ht _ (tb_in i1 w1 rfl)) (ht _ (tb_in i2 w2 rfl)) (ht _ (tb_in i3 w3 rfl)) C.2.2.2.2.2.1 hP hD hS C.2.2.2.2.2.2.1 hc hfs (by rw [show k.1.2.2.2.1 = R from hRk]; exact hce) (by rw [show k.1.2.2.2.1 = R from hRk]; exact hsl) hd (fun q H1 hP1 hD1 hS1 => kk q H1 locs ls hP1 hD1 hS1 hl)
theorem w_newI (C : Cx G k cc own nL R) {n : Int} (N : Nat) (i1 : Nat) (hd : Dc cc pc (.newarray .int) 2 pc2) (w1 : lw_tbl[i1]? = some (.arrayClass .int)) (hn : ¬ iI n < 0) (hN : (iI n).toNatClampNeg = N) (hb : N ≤ 4096) (hce : ce + 1 ≤ R.cells) (hsl : sl + N ≤ R.slots) (kk : ∀ q : Nat, Wd G k nL (ce + 1) (sl + N) (ws ++ [(q, .inl (gI G, N, .inl (arI zIm)))]) pc2 lv (.ref q :: st)) : Wd G k nL ce sl ws pc lv (.int (iI n) :: st) := by
  intro H locs ls hP hD hS hl
  obtain ⟨hd, rfl⟩ := hd
  have ht := C.2.2.2.2.1
  have hK := C.2.2.2.2.2.1
  have hRk : kR k = R := C.2.2.2.2.2.2.2.2
  refine va_newa (atype := .int) (ty := .int) (a0 := (N, .inl (arI zIm))) C.1 C.2.1 (ht _ (tb_in i1 w1 rfl)) rfl hK hP hD hS C.2.2.2.2.2.2.1 (fun cA => rfl) hn hN (by show N * 4 ≤ 536870912; omega) (by rw [show k.1.2.2.2.1 = R from hRk]; exact hce) (by rw [show k.1.2.2.2.1 = R from hRk]; exact hsl) hd (fun q cA H1 hK1 hP1 hD1 hS1 => ?_)
  have e1 := (hK.2 0 (gI G, .int) rfl).2
  have e2 := (hK1.2 2 (cA, .int) rfl).2
  have e : cA = gI G := Option.some.inj (e2.symm.trans e1)
  subst e
  exact kk q H1 locs ls hP1 hD1 hS1 hl
theorem w_newZ (C : Cx G k cc own nL R) {n : Int} (N : Nat) (i1 : Nat) (hd : Dc cc pc (.newarray .boolean) 2 pc2) (w1 : lw_tbl[i1]? = some (.arrayClass .boolean)) (hn : ¬ iI n < 0) (hN : (iI n).toNatClampNeg = N) (hb : N ≤ 4096) (hce : ce + 1 ≤ R.cells) (hsl : sl + N ≤ R.slots) (kk : ∀ q : Nat, Wd G k nL (ce + 1) (sl + N) (ws ++ [(q, .inl (gZ G, N, .inl (arB (fun _ => false))))]) pc2 lv (.ref q :: st)) : Wd G k nL ce sl ws pc lv (.int (iI n) :: st) := by
  intro H locs ls hP hD hS hl
  obtain ⟨hd, rfl⟩ := hd
  have ht := C.2.2.2.2.1
  have hK := C.2.2.2.2.2.1
  have hRk : kR k = R := C.2.2.2.2.2.2.2.2
  refine va_newa (atype := .boolean) (ty := .boolean) (a0 := (N, .inl (arB (fun _ => false)))) C.1 C.2.1 (ht _ (tb_in i1 w1 rfl)) rfl hK hP hD hS C.2.2.2.2.2.2.1 (fun cA => rfl) hn hN (by show N * 1 ≤ 536870912; omega) (by rw [show k.1.2.2.2.1 = R from hRk]; exact hce) (by rw [show k.1.2.2.2.1 = R from hRk]; exact hsl) hd (fun q cA H1 hK1 hP1 hD1 hS1 => ?_)
  have e1 := (hK.2 1 (gZ G, .boolean) rfl).2
  have e2 := (hK1.2 2 (cA, .boolean) rfl).2
  have e : cA = gZ G := Option.some.inj (e2.symm.trans e1)
  subst e
  exact kk q H1 locs ls hP1 hD1 hS1 hl
theorem w_putI (C : Cx G k cc own nL R) (hm : k.2.1.2.2.2.1.name = "<init>") {Cn : String} {T : u_T} {N ci : Nat} {fs : List Value} {v : Value} {ty : FieldType} {ty0 : Nat → FieldType} {ws2 : va_W} (q0 kf i : Nat) (hd : Dc cc pc (.putfield idx) 3 pc2) (he : ws[q0]? = some (a, .inr (ci, fs))) (hc : vwCl[ci]? = some (Cn, T, N)) (hin : ∀ w ∈ u_ws Cn T N, w ∈ tb) (hty : ∀ k, k < N → parseFieldDescriptor (T k).2.2.1 = some (ty0 k)) (hnm : ∀ a, a < N → ∀ b, b < N → a ≠ b → (T a).2.1 ≠ (T b).2.1) (hk : kf < N) (hw : lw_tbl[i]? = some (.fieldLink own idx (T kf).1 (T kf).2.1 (T kf).2.2.1)) (hfin : (T kf).2.2.2 = true) (hdecl : (T kf).1 = own) (ht : parseFieldDescriptor (T kf).2.2.1 = some ty) (hn : narrow ty v = v) (hfit : fits ty v = true) (hl0 : kf < fs.length) (h2 : ws.set q0 (a, .inr (ci, fs.set kf v)) = ws2) (kk : Wd G k nL ce sl ws2 pc2 lv st) : Wd G k nL ce sl ws pc lv (v :: .ref a :: st) := by
  subst h2
  intro H locs ls hP hD hS hl
  obtain ⟨hd, rfl⟩ := hd
  have hts := C.2.2.2.2.1
  exact va_putF C.1 C.2.1 hts hin ty0 hty hnm C.2.2.2.1 C.2.2.2.2.2.1 hP hD hS q0 he hc kf hk (hts _ (tb_in i hw rfl)) (fun _ h9 => h9) hfin hm hdecl ht hn hfit hl0 hd (fun H1 locs1 hP1 hD1 hS1 => kk H1 locs1 ls hP1 hD1 hS1 hl)
end MKO
section RUNX
variable {G : GX} {k : KX} {cc : ByteArray} {own : String} {R : Room} {nL ce sl pc pc2 : Nat} {wc ws : va_W} {lv : List (Nat × Value)} {st rest As : List Value} {y : MethodName} {bytes : ByteArray} {maxL idx n : Nat} {rm : Room} {post : Option Value → va_W → Prop}
theorem w_runX (C : Cx G k cc own nL R) {H : Heap} {locs : List Loc} {ls : Array Slot} {mc ms : Nat} {a : Array Value} (hP : va_P (gD G) vwCl wc H) (hD : va_D (kA k) wc) (hS : va_S (kA k) (ks k).heap H locs) (hl : lv_has ls nL lv) (is : List Nat) (hC : is.map (fun i => wc[i]?) = ws.map some)
    (hr : va_Run k.1.1 k.1.2.1 k.1.2.2.1 k.1.2.2.2.1 k.1.2.2.2.2 k.2.1.1 k.2.1.2.1 k.2.1.2.2.1 k.2.1.2.2.2.1 k.2.1.2.2.2.2 H locs ce sl mc ms (F0 (km k) pc ls st) rest (CtQ G ws H.size post a) (va_A ws H.size))
    (hpa : ∀ v ws', post v ws' → ∃ w1 ex, ws' = w1 ++ ex ∧ w1.map (fun q => q.1) = ws.map (fun q => q.1) ∧ Wd G k nL (ce + mc) (sl + ms) (pA wc is w1 ++ ex) (pc + 3) lv (v.toList ++ rest)) : kW k H locs ce sl (F0 (km k) pc ls st) := by
  have hF := va_free hD hS C.2.2.2.2.2.2.1 is hC
  have hat : ∀ (j : Nat) (q : Nat × va_E), ws[j]? = some q → ∃ i, i ∈ is ∧ wc[i]? = some q := by
    intro j q hj
    have h1 : (is.map (fun i => wc[i]?))[j]? = some (some q) := by rw [hC, List.getElem?_map, hj]; rfl
    rw [List.getElem?_map] at h1
    cases hi : is[j]? with
    | none => rw [hi] at h1; cases h1
    | some i => rw [hi] at h1; exact ⟨i, List.mem_of_getElem? hi, Option.some.inj h1⟩
  intro T hT X
  obtain ⟨v, st₀, t, T', L, h0, X', hL, e1, e2, ⟨⟨v', ws', hv, hpost, hP1, hD1⟩, hz, hk⟩, hgo⟩ := hr T hT X
  cases hv
  rw [h0] at hz hk
  obtain ⟨w1, ex, rfl, hadr, kk⟩ := hpa v ws' hpost
  have hlen : is.length = w1.length := by
    have q1 := congrArg List.length hC
    have q2 := congrArg List.length hadr
    simp only [List.length_map] at q1 q2
    omega
  have hpl : (pA wc is w1).map (fun q => q.1) = wc.map (fun q => q.1) := by
    refine pA_addr is wc w1 ?_
    rw [hadr, List.map_map]
    have q := congrArg (List.map (Option.map (fun q : Nat × va_E => q.1))) hC
    rw [List.map_map, List.map_map] at q
    refine Eq.trans (List.map_congr_left fun i _ => ?_) q
    exact List.getElem?_map
  -- new cells lie behind the old heap
  have hnew : ∀ (j : Nat) (q : Nat × va_E), ex[j]? = some q → H.size ≤ q.1 := by
    intro j q hj
    have hj2 : (w1 ++ ex)[w1.length + j]? = some q := by rw [List.getElem?_append_right (by omega), Nat.add_sub_cancel_left]; exact hj
    rcases hD1.2 _ q hj2 with ⟨i, e, hi⟩ | h
    · exfalso
      have h3 : (w1.map (fun q => q.1))[i]? = some q.1 := by rw [hadr, List.getElem?_map, hi]; rfl
      rw [List.getElem?_map] at h3
      cases h4 : w1[i]? with
      | none => rw [h4] at h3; cases h3
      | some q4 =>
        rw [h4] at h3
        have h5 : q4.1 = q.1 := Option.some.inj h3
        have hi2 : i < w1.length := (List.getElem?_eq_some_iff.mp h4).1
        have h6 : (w1 ++ ex)[i]? = some q4 := by rw [List.getElem?_append_left hi2]; exact h4
        have := hD1.1 i (w1.length + j) q4 q h6 hj2 h5
        omega
    · exact h
  have hPn0 : va_P (gD G) vwCl (pA wc is w1) T'.heap := by
    intro j q hj
    rw [e1]
    rcases pA_get is wc w1 j q hlen hj with h1 | ⟨h1, h2⟩
    · obtain ⟨i, hi⟩ := List.getElem?_of_mem h1
      exact hP1 i q (by rw [List.getElem?_append_left (List.getElem?_eq_some_iff.mp hi).1]; exact hi)
    · refine (hP j q h2).kept (hk q.1 (hP j q h2).lt ?_)
      rintro (⟨k2, e, h⟩ | h)
      · obtain ⟨i, hi, hq⟩ := hat k2 (q.1, e) h
        have := hD.1 j i q (q.1, e) h2 hq rfl
        subst this
        exact h1 hi
      · have := (hP j q h2).lt
        omega
  have hPn : va_P (gD G) vwCl (pA wc is w1 ++ ex) T'.heap := hPn0.app (fun j q hj => by
    rw [e1]
    exact hP1 (w1.length + j) q (by rw [List.getElem?_append_right (by omega), Nat.add_sub_cancel_left]; exact hj))
  have hlt : ∀ (j : Nat) (q : Nat × va_E), (pA wc is w1)[j]? = some q → q.1 < H.size ∧ (wc.map (fun q => q.1))[j]? = some q.1 := by
    intro j q hj
    have h1 : (wc.map (fun q => q.1))[j]? = some q.1 := by rw [← hpl, List.getElem?_map, hj]; rfl
    refine ⟨?_, h1⟩
    rw [List.getElem?_map] at h1
    cases h4 : wc[j]? with
    | none => rw [h4] at h1; cases h1
    | some q4 =>
      rw [h4] at h1
      have h5 : q4.1 = q.1 := Option.some.inj h1
      rw [← h5]; exact (hP j q4 h4).lt
  have hDp : va_D (kA k) (pA wc is w1) := hD.addr hpl
  have hDn : va_D (kA k) (pA wc is w1 ++ ex) := by
    refine ⟨fun i j p q hi hj hpq => ?_, fun j q hj => ?_⟩
    · by_cases ci : i < (pA wc is w1).length
      · rw [List.getElem?_append_left ci] at hi
        by_cases cj : j < (pA wc is w1).length
        · rw [List.getElem?_append_left cj] at hj
          exact hDp.1 i j p q hi hj hpq
        · rw [List.getElem?_append_right (by omega)] at hj
          have := (hlt i p hi).1
          have := hnew _ q hj
          omega
      · rw [List.getElem?_append_right (by omega)] at hi
        by_cases cj : j < (pA wc is w1).length
        · rw [List.getElem?_append_left cj] at hj
          have := (hlt j q hj).1
          have := hnew _ p hi
          omega
        · rw [List.getElem?_append_right (by omega)] at hj
          have := hD1.1 (w1.length + (i - (pA wc is w1).length)) (w1.length + (j - (pA wc is w1).length)) p q (by rw [List.getElem?_append_right (by omega), Nat.add_sub_cancel_left]; exact hi) (by rw [List.getElem?_append_right (by omega), Nat.add_sub_cancel_left]; exact hj) hpq
          omega
    · by_cases cj : j < (pA wc is w1).length
      · rw [List.getElem?_append_left cj] at hj
        exact hDp.2 j q hj
      · rw [List.getElem?_append_right (by omega)] at hj
        exact C.2.2.2.2.2.2.1 q.1 (Nat.le_trans hS.1 (hnew _ q hj))
  obtain ⟨t2, a1, b1⟩ := kk T'.heap (locs ++ L) ls hPn hDn ⟨Nat.le_trans hS.1 (by rw [e1]; exact hz), fun q h1 h2 => by rw [e1, hk q (Nat.lt_of_lt_of_le h1 hS.1) (fun z => h2 (hF q z))]; exact hS.2.1 q h1 h2, fun q hq => by
      rcases List.mem_append.mp hq with h | h
      · exact hS.2.2 q h
      · exact hF _ (hL q h)⟩ hl T' rfl X'
  exact ⟨t2, hgo t2 a1, b1⟩
/-- a constructor: it may leave new cells -/
abbrev CtI {E : Type} (G : GX) (l : Launch) (y : MethodName) (cc : ByteArray) (mL : Nat) (rm : Room) (args : List Value) (ws : va_W) (w1 ex : E → va_W) : Prop := CtG G l y cc mL none rm args ws (fun v w => ∃ e : E, v = none ∧ w = w1 e ++ ex e)
abbrev cwi (own : String) (idx : Nat) (y : MethodName) (bytes : ByteArray) (maxL n i1 i2 i4 i5 : Nat) : Prop := (lw_tbl[i1]? = some (.methodLink own idx y) ∧ lw_tbl[i2]? = some (.instanceMethod y) ∧ lw_tbl[i4]? = some (.initialized y.cls) ∧ lw_tbl[i5]? = some (.code y bytes maxL none)) ∧ (y.cls ≠ "java/lang/invoke/MethodHandle" ∧ y.cls ≠ "java/lang/invoke/VarHandle" ∧ (parseMethodDescriptor y.desc).map (fun d => d.parameters.length) = some n) ∧ y.name = "<init>"
abbrev cwin (own : String) (idx : Nat) (y : MethodName) (bytes : ByteArray) (maxL n j i2 i4 i5 : Nat) : Prop := (nsL[j]? = some (own, idx, y) ∧ lw_tbl[i2]? = some (.instanceMethod y) ∧ lw_tbl[i4]? = some (.initialized y.cls) ∧ lw_tbl[i5]? = some (.code y bytes maxL none)) ∧ (y.cls ≠ "java/lang/invoke/MethodHandle" ∧ y.cls ≠ "java/lang/invoke/VarHandle" ∧ (parseMethodDescriptor y.desc).map (fun d => d.parameters.length) = some n) ∧ y.name = "<init>"
variable {b i1 i2 i4 i5 : Nat}
theorem w_callI {E : Type} (C : Cx G k cc own nL R) {w1 ex : E → va_W} (hM : CtI G (kl k) y bytes maxL rm (.ref b :: As) ws w1 ex) (hw : cwi own idx y bytes maxL n i1 i2 i4 i5) (hd : Dc cc pc (.invokespecial idx) 3 pc2) (hst : st = As.reverse ++ .ref b :: rest) (hn : As.length = n) (hcat : (rest.map fun v => v.category).sum ≤ 8)
    (hR : rm.frames + 1 ≤ R.frames ∧ 8 + (maxL + 11) + rm.locals ≤ R.locals ∧ ce + rm.cells ≤ R.cells ∧ sl + rm.slots ≤ R.slots) (is : List Nat) (hC : is.map (fun i => wc[i]?) = ws.map some) (hnd : va_nd is = true) (hpa : ∀ e, (w1 e).map (fun q => q.1) = ws.map (fun q => q.1)) (kk : ∀ e, Wd G k nL (ce + rm.cells) (sl + rm.slots) (pA wc is (w1 e) ++ ex e) pc2 lv rest) : Wd G k nL ce sl wc pc lv st := by
  intro H locs ls hP hD hS hl
  obtain ⟨⟨w1', w2', w4', w5'⟩, hdd, hini⟩ := hw
  obtain ⟨hdg, rfl⟩ := hd
  subst hst
  have hRk := C.2.2.2.2.2.2.2.2
  have ht := C.2.2.2.2.1
  exact w_runX C hP hD hS hl is hC (va_runI (Ts := tb) ⟨C.1, C.2.1, C.2.2.1, C.2.2.2.1, ht⟩ (hM H.size) (cwI n ht (tb_code w5') rfl rfl rfl (ht _ (tb_in _ w4' rfl)) (ht _ (tb_in _ w1' rfl)) (ht _ (tb_in _ w2' rfl)) hini hdd ⟨by rw [show k.1.2.2.2.1 = R from hRk]; exact hR.1, by rw [show k.1.2.2.2.1 = R from hRk]; exact hR.2.1⟩) ⟨CtP_blind, fun U hU hW => ct_at C hP hD hS is hC hnd hU hW⟩ rfl hn hl.1 rfl (lv_room hcat) hdg ⟨by rw [show k.1.2.2.2.1 = R from hRk]; exact hR.2.2.1, by rw [show k.1.2.2.2.1 = R from hRk]; exact hR.2.2.2⟩) (fun v ws' ⟨e, h1, h2⟩ => ⟨w1 e, ex e, h2, hpa e, by rw [h1]; exact kk e⟩)
theorem w_callIN {E : Type} (C : Cx G k cc own nL R) {w1 ex : E → va_W} (hM : CtI G (kl k) y bytes maxL rm (.ref b :: As) ws w1 ex) (hw : cwin own idx y bytes maxL n i1 i2 i4 i5) (hd : Dc cc pc (.invokespecial idx) 3 pc2) (hst : st = As.reverse ++ .ref b :: rest) (hn : As.length = n) (hcat : (rest.map fun v => v.category).sum ≤ 8)
    (hR : rm.frames + 1 ≤ R.frames ∧ 8 + (maxL + 11) + rm.locals ≤ R.locals ∧ ce + rm.cells ≤ R.cells ∧ sl + rm.slots ≤ R.slots) (is : List Nat) (hC : is.map (fun i => wc[i]?) = ws.map some) (hnd : va_nd is = true) (hpa : ∀ e, (w1 e).map (fun q => q.1) = ws.map (fun q => q.1)) (kk : ∀ e, Wd G k nL (ce + rm.cells) (sl + rm.slots) (pA wc is (w1 e) ++ ex e) pc2 lv rest) : Wd G k nL ce sl wc pc lv st := by
  intro H locs ls hP hD hS hl
  obtain ⟨⟨w1', w2', w4', w5'⟩, hdd, hini⟩ := hw
  obtain ⟨hdg, rfl⟩ := hd
  subst hst
  have hRk := C.2.2.2.2.2.2.2.2
  have ht := C.2.2.2.2.1
  have hN := C.2.2.2.2.2.2.2.1.2.2.2.2.2.2.2.2.2 _ (List.mem_of_getElem? w1')
  exact w_runX C hP hD hS hl is hC (va_runIN (Ts := tb) ⟨C.1, C.2.1, C.2.2.1, C.2.2.2.1, ht⟩ (hM H.size) ⟨va_cnB n ht (tb_code w5') rfl rfl rfl hN (ht _ (tb_in _ w4' rfl)) hdd ⟨by rw [show k.1.2.2.2.1 = R from hRk]; exact hR.1, by rw [show k.1.2.2.2.1 = R from hRk]; exact hR.2.1⟩, hini, ht _ (tb_in _ w2' rfl)⟩ ⟨CtP_blind, fun U hU hW => ct_at C hP hD hS is hC hnd hU hW⟩ rfl hn hl.1 rfl (lv_room hcat) hdg ⟨by rw [show k.1.2.2.2.1 = R from hRk]; exact hR.2.2.1, by rw [show k.1.2.2.2.1 = R from hRk]; exact hR.2.2.2⟩) (fun v ws' ⟨e, h1, h2⟩ => ⟨w1 e, ex e, h2, hpa e, by rw [h1]; exact kk e⟩)
end RUNX
