/-! CALLS over contracts -/
theorem pA_addr : ∀ (is : List Nat) (wc w0 : va_W), is.map (fun i => (wc.map (fun q => q.1))[i]?) = (w0.map (fun q => q.1)).map some → (pA wc is w0).map (fun q => q.1) = wc.map (fun q => q.1)
  | [], wc, w0, _ => by cases w0 <;> rfl
  | i :: is, wc, w0, h => by
    cases w0 with
    | nil => cases h
    | cons c w0 =>
      have h1 : (wc.map (fun q => q.1))[i]? = some c.1 := (List.cons.inj h).1
      have h2 := (List.cons.inj h).2
      have e : (wc.set i c).map (fun q => q.1) = wc.map (fun q => q.1) := by
        rw [List.map_set]
        apply List.ext_getElem?
        intro j
        by_cases hij : i = j
        · subst hij
          rw [List.getElem?_set_self (List.getElem?_eq_some_iff.mp h1).1, h1]
        · rw [List.getElem?_set_ne hij]
      show (pA (wc.set i c) is w0).map (fun q => q.1) = _
      rw [pA_addr is (wc.set i c) w0 (by rw [e]; exact h2), e]
theorem CtP_blind {G : GX} {ws : va_W} {sz : Nat} {As : List Value} : FrameBlind (CtP G ws sz As) := by
  intro a U g mk q
  obtain ⟨q0, q1, qP, qK, qD, qS⟩ := q
  exact ⟨q0, q1, qP, va_K.moved (u := U) (U := U.calling g mk a) (Vm.Alike.refl U.vm) qK, qD, qS.same (U := U.calling g mk a) rfl⟩
section CALLS
variable {G : GX} {k : KX} {cc : ByteArray} {own : String} {R : Room} {nL ce sl pc pc2 : Nat} {wc ws : va_W} {lv : List (Nat × Value)} {st rest As : List Value} {y : MethodName} {bytes : ByteArray} {maxL idx n : Nat} {ret : Option FieldType} {rm : Room} {post : Option Value → va_W → Prop}
theorem ct_at (C : Cx G k cc own nL R) {H : Heap} {locs : List Loc} (hP : va_P (gD G) vwCl wc H) (hD : va_D (kA k) wc) (hS : va_S (kA k) (ks k).heap H locs) (is : List Nat) (hC : is.map (fun i => wc[i]?) = ws.map some) (hn : va_nd is = true) {U : State} (hU : U.heap = H) (hW : (ks k).WarmedH U.vm) : CtP G ws H.size As As.toArray U := by
  have hF := va_free hD hS C.2.2.2.2.2.2.1 is hC
  refine ⟨rfl, by rw [hU], ?_, va_K.moved hW.alike C.2.2.2.2.2.1, (hD.sub is hn hC).weaken (fun _ _ _ _ => trivial), ?_⟩
  · rw [hU]
    intro j q hj
    have h1 : (is.map (fun i => wc[i]?))[j]? = some (some q) := by rw [hC, List.getElem?_map, hj]; rfl
    rw [List.getElem?_map] at h1
    cases hi : is[j]? with
    | none => rw [hi] at h1; cases h1
    | some i => rw [hi] at h1; exact hP i q (Option.some.inj h1)
  · rw [hU]
    exact ((C.2.2.2.2.2.2.2.1.kept hS.2.1).narrow hF).warm hW
theorem w_run (C : Cx G k cc own nL R) {H : Heap} {locs : List Loc} {ls : Array Slot} {mc ms : Nat} {a : Array Value} (hP : va_P (gD G) vwCl wc H) (hD : va_D (kA k) wc) (hS : va_S (kA k) (ks k).heap H locs) (hl : lv_has ls nL lv) (is : List Nat) (hC : is.map (fun i => wc[i]?) = ws.map some)
    (hr : va_Run k.1.1 k.1.2.1 k.1.2.2.1 k.1.2.2.2.1 k.1.2.2.2.2 k.2.1.1 k.2.1.2.1 k.2.1.2.2.1 k.2.1.2.2.2.1 k.2.1.2.2.2.2 H locs ce sl mc ms (F0 (km k) pc ls st) rest (CtQ G ws H.size post a) (va_A ws H.size))
    (hpa : ∀ v ws', post v ws' → ws'.map (fun q => q.1) = ws.map (fun q => q.1)) (kk : ∀ v ws', post v ws' → Wd G k nL (ce + mc) (sl + ms) (pA wc is ws') (pc + 3) lv (v.toList ++ rest)) : kW k H locs ce sl (F0 (km k) pc ls st) := by
  have hF := va_free hD hS C.2.2.2.2.2.2.1 is hC
  have hat : ∀ (j : Nat) (q : Nat × va_E), ws[j]? = some q → ∃ i, i ∈ is ∧ wc[i]? = some q := by
    intro j q hj
    have h1 : (is.map (fun i => wc[i]?))[j]? = some (some q) := by rw [hC, List.getElem?_map, hj]; rfl
    rw [List.getElem?_map] at h1
    cases hi : is[j]? with
    | none => rw [hi] at h1; cases h1
    | some i => rw [hi] at h1; exact ⟨i, List.mem_of_getElem? hi, Option.some.inj h1⟩
  intro T hT X
  obtain ⟨v, st₀, t, T', L, h0, X', hL, e1, e2, ⟨⟨v', ws', hv, hpost, hP1, hD1⟩, hz, hk⟩, hgo⟩ := hr T hT X
  cases hv
  rw [h0] at hz hk
  have hlen : is.length = ws'.length := by
    have q1 := congrArg List.length hC
    have q2 := congrArg List.length (hpa v ws' hpost)
    simp only [List.length_map] at q1 q2
    omega
  have hPn : va_P (gD G) vwCl (pA wc is ws') T'.heap := by
    intro j q hj
    rw [e1]
    rcases pA_get is wc ws' j q hlen hj with h1 | ⟨h1, h2⟩
    · obtain ⟨i, hi⟩ := List.getElem?_of_mem h1
      exact hP1 i q hi
    · refine (hP j q h2).kept (hk q.1 (hP j q h2).lt ?_)
      rintro (⟨k2, e, h⟩ | h)
      · obtain ⟨i, hi, hq⟩ := hat k2 (q.1, e) h
        have := hD.1 j i q (q.1, e) h2 hq rfl
        subst this
        exact h1 hi
      · have := (hP j q h2).lt
        omega
  have hDn : va_D (kA k) (pA wc is ws') := by
    refine hD.addr (pA_addr is wc ws' ?_)
    rw [hpa v ws' hpost, List.map_map]
    have q := congrArg (List.map (Option.map (fun q : Nat × va_E => q.1))) hC
    rw [List.map_map, List.map_map] at q
    refine Eq.trans (List.map_congr_left fun i _ => ?_) q
    exact List.getElem?_map
  obtain ⟨t2, a1, b1⟩ := kk v ws' hpost T'.heap (locs ++ L) ls hPn hDn ⟨Nat.le_trans hS.1 (by rw [e1]; exact hz), fun q h1 h2 => by rw [e1, hk q (Nat.lt_of_lt_of_le h1 hS.1) (fun z => h2 (hF q z))]; exact hS.2.1 q h1 h2, fun q hq => by
      rcases List.mem_append.mp hq with h | h
      · exact hS.2.2 q h
      · exact hF _ (hL q h)⟩ hl T' rfl X'
  exact ⟨t2, hgo t2 a1, b1⟩
/-- the words that a virtual call rests on, by their places -/
abbrev cwv (own : String) (idx : Nat) (y : MethodName) (bytes : ByteArray) (maxL : Nat) (ret : Option FieldType) (n i1 i2 i3 i4 i5 : Nat) : Prop := (lw_tbl[i1]? = some (.methodLink own idx y) ∧ lw_tbl[i2]? = some (.instanceMethod y) ∧ lw_tbl[i3]? = some (.selects y.cls y y) ∧ lw_tbl[i4]? = some (.initialized y.cls) ∧ lw_tbl[i5]? = some (.code y bytes maxL ret)) ∧ (y.cls ≠ "java/lang/invoke/MethodHandle" ∧ y.cls ≠ "java/lang/invoke/VarHandle" ∧ (parseMethodDescriptor y.desc).map (fun d => d.parameters.length) = some n)
abbrev cws (own : String) (idx : Nat) (y : MethodName) (bytes : ByteArray) (maxL : Nat) (ret : Option FieldType) (n i1 i2 i4 i5 : Nat) : Prop := (lw_tbl[i1]? = some (.methodLink own idx y) ∧ lw_tbl[i2]? = some (.static y) ∧ lw_tbl[i4]? = some (.initialized y.cls) ∧ lw_tbl[i5]? = some (.code y bytes maxL ret)) ∧ (y.cls ≠ "java/lang/invoke/MethodHandle" ∧ y.cls ≠ "java/lang/invoke/VarHandle" ∧ (parseMethodDescriptor y.desc).map (fun d => d.parameters.length) = some n)
abbrev cwn (own : String) (idx : Nat) (y : MethodName) (bytes : ByteArray) (maxL : Nat) (ret : Option FieldType) (n j i2 i4 i5 : Nat) : Prop := (nsL[j]? = some (own, idx, y) ∧ lw_tbl[i2]? = some (.static y) ∧ lw_tbl[i4]? = some (.initialized y.cls) ∧ lw_tbl[i5]? = some (.code y bytes maxL ret)) ∧ (y.cls ≠ "java/lang/invoke/MethodHandle" ∧ y.cls ≠ "java/lang/invoke/VarHandle" ∧ (parseMethodDescriptor y.desc).map (fun d => d.parameters.length) = some n)
theorem tb_code {i : Nat} (h : lw_tbl[i]? = some (.code y bytes maxL ret)) : GoodIn tb (.code y bytes maxL ret :: tb) := fun w hw => by
  rcases List.mem_cons.mp hw with rfl | hw
  · exact tb_good _ (tb_in i h rfl)
  · exact tb_good w hw
variable {ci q0 b i1 i2 i3 i4 i5 : Nat} {fs : List Value} {T : u_T} {N : Nat} {own' : String}
theorem w_callVG (C : Cx G k cc own nL R) (hM : CtG G (kl k) y bytes maxL ret rm (.ref b :: As) ws post) (hw : cwv own idx y bytes maxL ret n i1 i2 i3 i4 i5) (hd : Dc cc pc (.invokevirtual idx) 3 pc2) (q0 : Nat) (he : wc[q0]? = some (b, .inr (ci, fs))) (hc : vwCl[ci]? = some (own', T, N)) (ho : own' = y.cls) (hst : st = As.reverse ++ .ref b :: rest) (hn : As.length = n) (hcat : (rest.map fun v => v.category).sum ≤ 8)
    (hR : rm.frames + 1 ≤ R.frames ∧ 8 + (maxL + 11) + rm.locals ≤ R.locals ∧ ce + rm.cells ≤ R.cells ∧ sl + rm.slots ≤ R.slots) (is : List Nat) (hC : is.map (fun i => wc[i]?) = ws.map some) (hnd : va_nd is = true)
    (hpa : ∀ v ws', post v ws' → ws'.map (fun q => q.1) = ws.map (fun q => q.1)) (kk : ∀ v ws', post v ws' → Wd G k nL (ce + rm.cells) (sl + rm.slots) (pA wc is ws') pc2 lv (v.toList ++ rest)) : Wd G k nL ce sl wc pc lv st := by
  intro H locs ls hP hD hS hl
  obtain ⟨⟨w1, w2, w3, w4, w5⟩, hd1, hd2, hd3⟩ := hw
  obtain ⟨hdg, rfl⟩ := hd
  subst hst
  have hRk := C.2.2.2.2.2.2.2.2
  have ht := C.2.2.2.2.1
  refine w_run C hP hD hS hl is hC (va_runV (Ts := tb) (C := y.cls) ⟨C.1, C.2.1, C.2.2.1, C.2.2.2.1, ht⟩ (hM H.size) ⟨callB_of n ht (tb_code w5) rfl rfl rfl (ht _ (tb_in _ w4 rfl)) (ht _ (tb_in _ w1 rfl)) ⟨hd1, hd2, hd3⟩ ⟨by rw [show k.1.2.2.2.1 = R from hRk]; exact hR.1, by rw [show k.1.2.2.2.1 = R from hRk]; exact hR.2.1⟩, ht _ (tb_in _ w2 rfl), ht _ (tb_in _ w3 rfl)⟩ ⟨CtP_blind, ?_, fun U hU hW => ct_at C hP hD hS is hC hnd hU hW⟩ rfl hn hl.1 rfl (lv_room hcat) hdg ⟨by rw [show k.1.2.2.2.1 = R from hRk]; exact hR.2.2.1, by rw [show k.1.2.2.2.1 = R from hRk]; exact hR.2.2.2⟩) hpa kk
  have h := va_recv C.2.2.2.2.2.1 hP hc he
  rw [ho] at h
  exact h
theorem w_callSG (C : Cx G k cc own nL R) (hM : CtG G (kl k) y bytes maxL ret rm As ws post) (hw : cws own idx y bytes maxL ret n i1 i2 i4 i5) (hd : Dc cc pc (.invokestatic idx) 3 pc2) (hst : st = As.reverse ++ rest) (hn : As.length = n) (hcat : (rest.map fun v => v.category).sum ≤ 8)
    (hR : rm.frames + 1 ≤ R.frames ∧ 8 + (maxL + 11) + rm.locals ≤ R.locals ∧ ce + rm.cells ≤ R.cells ∧ sl + rm.slots ≤ R.slots) (is : List Nat) (hC : is.map (fun i => wc[i]?) = ws.map some) (hnd : va_nd is = true)
    (hpa : ∀ v ws', post v ws' → ws'.map (fun q => q.1) = ws.map (fun q => q.1)) (kk : ∀ v ws', post v ws' → Wd G k nL (ce + rm.cells) (sl + rm.slots) (pA wc is ws') pc2 lv (v.toList ++ rest)) : Wd G k nL ce sl wc pc lv st := by
  intro H locs ls hP hD hS hl
  obtain ⟨⟨w1, w2, w4, w5⟩, hd1, hd2, hd3⟩ := hw
  obtain ⟨hdg, rfl⟩ := hd
  subst hst
  have hRk := C.2.2.2.2.2.2.2.2
  have ht := C.2.2.2.2.1
  exact w_run C hP hD hS hl is hC (va_runS (Ts := tb) ⟨C.1, C.2.1, C.2.2.1, C.2.2.2.1, ht⟩ (hM H.size) ⟨callB_of n ht (tb_code w5) rfl rfl rfl (ht _ (tb_in _ w4 rfl)) (ht _ (tb_in _ w1 rfl)) ⟨hd1, hd2, hd3⟩ ⟨by rw [show k.1.2.2.2.1 = R from hRk]; exact hR.1, by rw [show k.1.2.2.2.1 = R from hRk]; exact hR.2.1⟩, ht _ (tb_in _ w2 rfl)⟩ ⟨CtP_blind, fun U hU hW => ct_at C hP hD hS is hC hnd hU hW⟩ rfl hn hl.1 rfl (lv_room hcat) hdg ⟨by rw [show k.1.2.2.2.1 = R from hRk]; exact hR.2.2.1, by rw [show k.1.2.2.2.1 = R from hRk]; exact hR.2.2.2⟩) hpa kk
theorem w_callNG (C : Cx G k cc own nL R) (hM : CtG G (kl k) y bytes maxL ret rm As ws post) (hw : cwn own idx y bytes maxL ret n i1 i2 i4 i5) (hd : Dc cc pc (.invokestatic idx) 3 pc2) (hst : st = As.reverse ++ rest) (hn : As.length = n) (hcat : (rest.map fun v => v.category).sum ≤ 8)
    (hR : rm.frames + 1 ≤ R.frames ∧ 8 + (maxL + 11) + rm.locals ≤ R.locals ∧ ce + rm.cells ≤ R.cells ∧ sl + rm.slots ≤ R.slots) (is : List Nat) (hC : is.map (fun i => wc[i]?) = ws.map some) (hnd : va_nd is = true)
    (hpa : ∀ v ws', post v ws' → ws'.map (fun q => q.1) = ws.map (fun q => q.1)) (kk : ∀ v ws', post v ws' → Wd G k nL (ce + rm.cells) (sl + rm.slots) (pA wc is ws') pc2 lv (v.toList ++ rest)) : Wd G k nL ce sl wc pc lv st := by
  intro H locs ls hP hD hS hl
  obtain ⟨⟨w1, w2, w4, w5⟩, hd1, hd2, hd3⟩ := hw
  obtain ⟨hdg, rfl⟩ := hd
  subst hst
  have hRk := C.2.2.2.2.2.2.2.2
  have ht := C.2.2.2.2.1
  have hN := C.2.2.2.2.2.2.2.1.2.2.2.2.2.2.2.2.2 _ (List.mem_of_getElem? w1)
  exact w_run C hP hD hS hl is hC (va_runSN (Ts := tb) ⟨C.1, C.2.1, C.2.2.1, C.2.2.2.1, ht⟩ (hM H.size) ⟨va_cnB n ht (tb_code w5) rfl rfl rfl hN (ht _ (tb_in _ w4 rfl)) ⟨hd1, hd2, hd3⟩ ⟨by rw [show k.1.2.2.2.1 = R from hRk]; exact hR.1, by rw [show k.1.2.2.2.1 = R from hRk]; exact hR.2.1⟩, ht _ (tb_in _ w2 rfl), trivial⟩ ⟨CtP_blind, fun U hU hW => ct_at C hP hD hS is hC hnd hU hW⟩ rfl hn hl.1 rfl (lv_room hcat) hdg ⟨by rw [show k.1.2.2.2.1 = R from hRk]; exact hR.2.2.1, by rw [show k.1.2.2.2.1 = R from hRk]; exact hR.2.2.2⟩) hpa kk
/-- told answers and worlds -/
theorem w_callV (C : Cx G k cc own nL R) {v0 : Option Value} {w0 w2 : va_W} (hM : Ct G (kl k) y bytes maxL ret rm (.ref b :: As) ws v0 w0) (hw : cwv own idx y bytes maxL ret n i1 i2 i3 i4 i5) (hd : Dc cc pc (.invokevirtual idx) 3 pc2) (q0 : Nat) (he : wc[q0]? = some (b, .inr (ci, fs))) (hc : vwCl[ci]? = some (own', T, N)) (ho : own' = y.cls) (hst : st = As.reverse ++ .ref b :: rest) (hn : As.length = n) (hcat : (rest.map fun v => v.category).sum ≤ 8)
    (hR : rm.frames + 1 ≤ R.frames ∧ 8 + (maxL + 11) + rm.locals ≤ R.locals ∧ ce + rm.cells ≤ R.cells ∧ sl + rm.slots ≤ R.slots) (is : List Nat) (hC : is.map (fun i => wc[i]?) = ws.map some) (hnd : va_nd is = true)
    (ads : List Nat) (ha : w0.map (fun q => q.1) = ads) (hb : ws.map (fun q => q.1) = ads) (h2 : pA wc is w0 = w2) {st2 : List Value} (hs2 : v0.toList ++ rest = st2) (kk : Wd G k nL (ce + rm.cells) (sl + rm.slots) w2 pc2 lv st2) : Wd G k nL ce sl wc pc lv st :=
  w_callVG C hM hw hd q0 he hc ho hst hn hcat hR is hC hnd (fun v ws' h => by rw [h.2]; exact ha.trans hb.symm) (fun v ws' h => by rw [h.1, h.2, h2, hs2]; exact kk)
theorem w_callS (C : Cx G k cc own nL R) {v0 : Option Value} {w0 w2 : va_W} (hM : Ct G (kl k) y bytes maxL ret rm As ws v0 w0) (hw : cws own idx y bytes maxL ret n i1 i2 i4 i5) (hd : Dc cc pc (.invokestatic idx) 3 pc2) (hst : st = As.reverse ++ rest) (hn : As.length = n) (hcat : (rest.map fun v => v.category).sum ≤ 8)
    (hR : rm.frames + 1 ≤ R.frames ∧ 8 + (maxL + 11) + rm.locals ≤ R.locals ∧ ce + rm.cells ≤ R.cells ∧ sl + rm.slots ≤ R.slots) (is : List Nat) (hC : is.map (fun i => wc[i]?) = ws.map some) (hnd : va_nd is = true)
    (ads : List Nat) (ha : w0.map (fun q => q.1) = ads) (hb : ws.map (fun q => q.1) = ads) (h2 : pA wc is w0 = w2) {st2 : List Value} (hs2 : v0.toList ++ rest = st2) (kk : Wd G k nL (ce + rm.cells) (sl + rm.slots) w2 pc2 lv st2) : Wd G k nL ce sl wc pc lv st :=
  w_callSG C hM hw hd hst hn hcat hR is hC hnd (fun v ws' h => by rw [h.2]; exact ha.trans hb.symm) (fun v ws' h => by rw [h.1, h.2, h2, hs2]; exact kk)
theorem w_callN (C : Cx G k cc own nL R) {v0 : Option Value} {w0 w2 : va_W} (hM : Ct G (kl k) y bytes maxL ret rm As ws v0 w0) (hw : cwn own idx y bytes maxL ret n i1 i2 i4 i5) (hd : Dc cc pc (.invokestatic idx) 3 pc2) (hst : st = As.reverse ++ rest) (hn : As.length = n) (hcat : (rest.map fun v => v.category).sum ≤ 8)
    (hR : rm.frames + 1 ≤ R.frames ∧ 8 + (maxL + 11) + rm.locals ≤ R.locals ∧ ce + rm.cells ≤ R.cells ∧ sl + rm.slots ≤ R.slots) (is : List Nat) (hC : is.map (fun i => wc[i]?) = ws.map some) (hnd : va_nd is = true)
    (ads : List Nat) (ha : w0.map (fun q => q.1) = ads) (hb : ws.map (fun q => q.1) = ads) (h2 : pA wc is w0 = w2) {st2 : List Value} (hs2 : v0.toList ++ rest = st2) (kk : Wd G k nL (ce + rm.cells) (sl + rm.slots) w2 pc2 lv st2) : Wd G k nL ce sl wc pc lv st :=
  w_callNG C hM hw hd hst hn hcat hR is hC hnd (fun v ws' h => by rw [h.2]; exact ha.trans hb.symm) (fun v ws' h => by rw [h.1, h.2, h2, hs2]; exact kk)
end CALLS
