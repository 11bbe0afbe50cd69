/-! THE LAW: ROWS OF ITS OWN -/
abbrev kL (p : Program) (l : Launch) (e : Env) (s : State) (m : MethodId) (below : List Frame) (meth : Method) (c : Code) (b : Nat) : KX := ((p, l, e, room_1, s), (m, #[Value.ref b], below, meth, c), fun q : Nat => s.heap.size ≤ q, lw_Z below #[Value.ref b] s)
section LAW
variable {G : GX} {p : Program} {l : Launch} {e : Env} {s : State} {m : MethodId} {below : List Frame} {meth : Method} {c : Code} {b L : Nat} {xs : Nat → Int32} {pc pc2 ce sl : Nat} {ws : va_W} {lv : List (Nat × Value)} {st : List Value}
/-- the script's ints -/
def zs (xs : Nat → Int32) (i : Int) : Int := (xs i.toNat).toInt
theorem zs_rg (xs : Nat → Int32) (i : Int) : -2147483648 ≤ zs xs i ∧ zs xs i < 2147483648 := by
  have := iI_rg (xs i.toNat)
  exact ⟨this.1, this.2⟩
theorem w_sldX (C0 : lw_At p s m meth c b L xs) (hL : L ≤ 2560) {i : Int} (hi : 0 ≤ i ∧ i < L) (hd : Dc cL_law pc (.iaload) 1 pc2) (kk : Wd G (kL p l e s m below meth c b) 4 ce sl ws pc2 lv (.int (iI (zs xs i)) :: st)) : Wd G (kL p l e s m below meth c b) 4 ce sl ws pc lv (.int (iI i) :: .ref b :: st) := by
  intro H locs ls hP hD hS hl
  obtain ⟨hdg, rfl⟩ := hd
  have e1 : (iI i).toNatClampNeg = i.toNat := iI_clamp hi.1 ⟨by omega, by omega⟩
  refine va_sld C0.1 C0.2.1 C0.2.2.2.2.2.2.1 C0.2.2.2.2.2.2.2.1 (fun z => by have z2 : s.heap.size ≤ b := z; have := C0.2.2.2.2.2.2.2.1; omega) hS (i := iI i) ?_ hdg ?_
  · rintro (h | h)
    · have q : (iI i).toInt = i := iI_toInt ⟨by omega, by omega⟩
      have h2 : (iI i).toInt < (0 : Int32).toInt := Int32.lt_iff_toInt_lt.mp h
      rw [q] at h2
      have : (0 : Int32).toInt = 0 := by decide
      omega
    · rw [e1] at h; omega
  · rw [e1]
    have q := kk H locs ls hP hD hS hl
    unfold zs at q
    rw [iI_of] at q
    exact q
theorem w_slenX (C0 : lw_At p s m meth c b L xs) (hd : Dc cL_law pc (.arraylength) 1 pc2) (kk : Wd G (kL p l e s m below meth c b) 4 ce sl ws pc2 lv (.int (iI L) :: st)) : Wd G (kL p l e s m below meth c b) 4 ce sl ws pc lv (.ref b :: st) := by
  intro H locs ls hP hD hS hl
  obtain ⟨hdg, rfl⟩ := hd
  refine va_slen C0.1 C0.2.1 C0.2.2.2.2.2.2.1 C0.2.2.2.2.2.2.2.1 (fun z => by have z2 : s.heap.size ≤ b := z; have := C0.2.2.2.2.2.2.2.1; omega) hS hdg ?_
  rw [iI_nat]
  exact kk H locs ls hP hD hS hl
theorem w_endX (C0 : lw_At p s m meth c b L xs) (hd : Dc cL_law pc (.ireturn) 1 pc2) : Wd G (kL p l e s m below meth c b) 4 29 16669 ws pc lv [.int (iI 1)] := by
  intro H locs ls hP hD hS hl
  obtain ⟨hdg, -⟩ := hd
  exact va_forget (fun q hq => hS.2.2 q hq) (lw_ret C0.1 C0.2.1 C0.2.2.1 C0.2.2.2.2.2.2.2.2.1 hdg)
end LAW
/-- the reference with the disk dk, whatever else lies in it -/
abbrev RW (G : GX) (h a b tk re qu nm : Nat) (dk : Im) (hd tl nl : Int) (d : Im) (r : Int → Bool) (q : Im) (t0 : Int → Bool) (nb : Im) : va_W :=
  [(h, .inr (9, [.ref a, .ref b, .ref tk, .ref re, .ref qu, .int (iI hd), .int (iI tl), .ref nm, .int (iI nl)])), (a, .inl (gI G, 4096, .inl (arI dk))), (b, .inl (gI G, 4096, .inl (arI d))), (re, .inl (gZ G, 32, .inl (arB r))), (qu, .inl (gI G, 32, .inl (arI q))), (tk, .inl (gZ G, 64, .inl (arB t0))), (nm, .inl (gI G, 14, .inl (arI nb)))]
def RM (G : GX) (h a b tk re qu nm : Nat) (dk : Im) (w : va_W) : Prop := ∃ (hd tl nl : Int) (d : Im) (r : Int → Bool) (q : Im) (t0 : Int → Bool) (nb : Im), (0 ≤ nl ∧ nl ≤ 14) ∧ w = RW G h a b tk re qu nm dk hd tl nl d r q t0 nb
theorem pA_pre : ∀ (b a pre c : va_W), a.length = b.length → pA (pre ++ (a ++ c)) (List.range' pre.length b.length) b = pre ++ (b ++ c)
  | [], a, pre, c, h => by
    have : a = [] := List.length_eq_zero_iff.mp h
    subst this
    rfl
  | x :: b, a, pre, c, h => by
    cases a with
    | nil => cases h
    | cons y a =>
      have e : (pre ++ (y :: a ++ c)).set pre.length x = (pre ++ [x]) ++ (a ++ c) := by simp
      have ih := pA_pre b a (pre ++ [x]) c (by simpa using h)
      show pA ((pre ++ (y :: a ++ c)).set pre.length x) (List.range' (pre.length + 1) b.length) b = _
      rw [e]
      rw [show (pre ++ [x]).length = pre.length + 1 by simp] at ih
      rw [ih]
      simp
theorem pA_20 (A X wB : va_W) (hA : A.length = 20) (hX : X.length = 20) : pA (A ++ wB) [0, 1, 2, 3, 4, 5, 6, 7, 8, 9, 10, 11, 12, 13, 14, 15, 16, 17, 18, 19] X = X ++ wB := by
  have q := pA_pre X A [] wB (by omega)
  rw [hX, List.nil_append, List.nil_append] at q
  exact q
section LC
variable {G : GX} {k : KX} {pc pc2 : Nat} {wA wB : va_W} {lv : List (Nat × Value)} {st rest As : List Value} {y : MethodName} {bytes : ByteArray} {maxL idx n' i1 i2 i3 i4 i5 : Nat} {ret : Option FieldType} {rm : Room}
variable {h kg kb ko kt km rp g b o dd m mb ip co cm cmb cq wr wn wnb : Nat} {h2 a2 b2 tk2 re2 qu2 nm2 : Nat} {dk dk2 : Im} {z : Int}
theorem law_A (C : Cx G k cL_law RL 4 room_1) (hF : FD G h kg kb ko kt km rp g b o dd m mb ip co cm cmb cq wr wn wnb dk wA)
    (hM : ∀ (kk : Int64) (d : Im) (tk : Int64) (nb : Im) (n hd tl : Int) (rc : Int32) (q cb : Im) (cn : Int) (wb : Im) (wl : Int), (0 ≤ n ∧ n ≤ 14) → (0 ≤ cn ∧ cn ≤ 14) → (0 ≤ wl ∧ wl ≤ 14) → ∃ (z' : Int) (dk' : Im), z' = z ∧ dk' = dk2 ∧ CtG G (kl k) y bytes maxL ret rm (.ref h :: As) (FDw G h kg kb ko kt km rp g b o dd m mb ip co cm cmb cq wr wn wnb dk kk d tk nb n hd tl rc q cb cn wb wl) (fun v w => v = some (.int (iI z')) ∧ FD G h kg kb ko kt km rp g b o dd m mb ip co cm cmb cq wr wn wnb dk' w))
    (hw : cwv RL idx y bytes maxL ret n' i1 i2 i3 i4 i5) (hd : Dc cL_law pc (.invokevirtual idx) 3 pc2) (ho : RX10 = y.cls) (hst : st = As.reverse ++ .ref h :: rest) (hn : As.length = n') (hcat : (rest.map fun v => v.category).sum ≤ 8) (hR : rm.frames + 1 ≤ room_1.frames ∧ 8 + (maxL + 11) + rm.locals ≤ room_1.locals) (h0 : rm.cells = 0 ∧ rm.slots = 0)
    (kk : ∀ wA2, FD G h kg kb ko kt km rp g b o dd m mb ip co cm cmb cq wr wn wnb dk2 wA2 → Wd G k 4 29 16669 (wA2 ++ wB) pc2 lv (.int (iI z) :: rest)) : Wd G k 4 29 16669 (wA ++ wB) pc lv st := by
  obtain ⟨kk0, d, tk, nb, n, hd0, tl, rc, q, cb, cn, wb, wl, ⟨q1, q2, q3⟩, rfl⟩ := hF
  obtain ⟨z', dk', rfl, rfl, hc⟩ := hM kk0 d tk nb n hd0 tl rc q cb cn wb wl q1 q2 q3
  refine w_callVG C hc hw hd 0 rfl (ci := 8) rfl ho hst hn hcat ⟨hR.1, hR.2, by rw [h0.1]; decide, by rw [h0.2]; decide⟩ [0, 1, 2, 3, 4, 5, 6, 7, 8, 9, 10, 11, 12, 13, 14, 15, 16, 17, 18, 19] rfl (by decide) (fun v ws' hp => ?_) (fun v ws' hp => ?_)
  · obtain ⟨-, _, _, _, _, _, _, _, _, _, _, _, _, _, -, rfl⟩ := hp; rfl
  · obtain ⟨rfl, e1, e2, e3, e4, e5, e6, e7, e8, e9, e10, e11, e12, e13, r, rfl⟩ := hp
    rw [h0.1, h0.2, pA_20 _ _ wB rfl rfl]
    exact kk _ ⟨e1, e2, e3, e4, e5, e6, e7, e8, e9, e10, e11, e12, e13, r, rfl⟩
theorem law_B (C : Cx G k cL_law RL 4 room_1) {dkA : Im} (hF : FD G h kg kb ko kt km rp g b o dd m mb ip co cm cmb cq wr wn wnb dkA wA) (hB : RM G h2 a2 b2 tk2 re2 qu2 nm2 dk wB)
    (hM : ∀ (kk : Int64) (d : Im) (tk : Int64) (nb : Im) (n hd tl : Int) (rc : Int32) (q cb : Im) (cn : Int) (wb : Im) (wl : Int) (hd' tl' nl' : Int) (d' : Im) (r' : Int → Bool) (q' : Im) (t0' : Int → Bool) (nb' : Im), (0 ≤ nl' ∧ nl' ≤ 14) → ∃ (ws : va_W) (is : List Nat) (post : Option Value → va_W → Prop), is.map (fun i => (FDw G h kg kb ko kt km rp g b o dd m mb ip co cm cmb cq wr wn wnb dkA kk d tk nb n hd tl rc q cb cn wb wl ++ RW G h2 a2 b2 tk2 re2 qu2 nm2 dk hd' tl' nl' d' r' q' t0' nb')[i]?) = ws.map some ∧ va_nd is = true ∧ CtG G (kl k) y bytes maxL ret rm (.ref h2 :: As) ws post ∧ ∀ v w, post v w → v = some (.int (iI z)) ∧ w.map (fun q => q.1) = ws.map (fun q => q.1) ∧ ∃ wB2, pA (FDw G h kg kb ko kt km rp g b o dd m mb ip co cm cmb cq wr wn wnb dkA kk d tk nb n hd tl rc q cb cn wb wl ++ RW G h2 a2 b2 tk2 re2 qu2 nm2 dk hd' tl' nl' d' r' q' t0' nb') is w = FDw G h kg kb ko kt km rp g b o dd m mb ip co cm cmb cq wr wn wnb dkA kk d tk nb n hd tl rc q cb cn wb wl ++ wB2 ∧ RM G h2 a2 b2 tk2 re2 qu2 nm2 dk2 wB2)
    (hw : cwv RL idx y bytes maxL ret n' i1 i2 i3 i4 i5) (hd : Dc cL_law pc (.invokevirtual idx) 3 pc2) (ho : RX11 = y.cls) (hst : st = As.reverse ++ .ref h2 :: rest) (hn : As.length = n') (hcat : (rest.map fun v => v.category).sum ≤ 8) (hR : rm.frames + 1 ≤ room_1.frames ∧ 8 + (maxL + 11) + rm.locals ≤ room_1.locals) (h0 : rm.cells = 0 ∧ rm.slots = 0)
    (kk : ∀ wB2, RM G h2 a2 b2 tk2 re2 qu2 nm2 dk2 wB2 → Wd G k 4 29 16669 (wA ++ wB2) pc2 lv (.int (iI z) :: rest)) : Wd G k 4 29 16669 (wA ++ wB) pc lv st := by
  obtain ⟨kk0, d, tk, nb, n, hd0, tl, rc, q, cb, cn, wb, wl, -, rfl⟩ := hF
  obtain ⟨hd', tl', nl', d', r', q', t0', nb', hnl, rfl⟩ := hB
  obtain ⟨ws, is, post, hC, hnd, hc, hpo⟩ := hM kk0 d tk nb n hd0 tl rc q cb cn wb wl hd' tl' nl' d' r' q' t0' nb' hnl
  refine w_callVG C hc hw hd 20 rfl (ci := 9) rfl ho hst hn hcat ⟨hR.1, hR.2, by rw [h0.1]; decide, by rw [h0.2]; decide⟩ is hC hnd (fun v ws' hp => (hpo v ws' hp).2.1) (fun v ws' hp => ?_)
  obtain ⟨rfl, -, wB2, e1, e2⟩ := hpo v ws' hp
  rw [h0.1, h0.2, e1]
  exact kk wB2 e2
end LC
