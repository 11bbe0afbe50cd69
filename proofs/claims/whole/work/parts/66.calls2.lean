/-! CONTRACTS THAT LEAVE SOMETHING OPEN -/
abbrev CtE {E : Type} (G : GX) (l : Launch) (y : MethodName) (cc : ByteArray) (mL : Nat) (ret : Option FieldType) (rm : Room) (args : List Value) (ws : va_W) (P : E → Prop) (v0 : E → Option Value) (w0 : E → va_W) : Prop := CtG G l y cc mL ret rm args ws (fun v w => ∃ e : E, P e ∧ v = v0 e ∧ w = w0 e)
section CALLS2
variable {G : GX} {k : KX} {cc : ByteArray} {own : String} {R : Room} {nL ce sl pc pc2 : Nat} {wc ws : va_W} {lv : List (Nat × Value)} {st rest As : List Value} {y : MethodName} {bytes : ByteArray} {maxL idx n : Nat} {ret : Option FieldType} {rm : Room}
variable {ci q0 b i1 i2 i3 i4 i5 : Nat} {fs : List Value} {T : u_T} {N : Nat} {own' : String}
theorem w_callVE {E : Type} (C : Cx G k cc own nL R) {P : E → Prop} {v0 : E → Option Value} {w0 w2 : E → va_W} (hM : CtE G (kl k) y bytes maxL ret rm (.ref b :: As) ws P v0 w0) (hw : cwv own idx y bytes maxL ret n i1 i2 i3 i4 i5) (hd : Dc cc pc (.invokevirtual idx) 3 pc2) (q0 : Nat) (he : wc[q0]? = some (b, .inr (ci, fs))) (hc : vwCl[ci]? = some (own', T, N)) (ho : own' = y.cls) (hst : st = As.reverse ++ .ref b :: rest) (hn : As.length = n) (hcat : (rest.map fun v => v.category).sum ≤ 8)
    (hR : rm.frames + 1 ≤ R.frames ∧ 8 + (maxL + 11) + rm.locals ≤ R.locals ∧ ce + rm.cells ≤ R.cells ∧ sl + rm.slots ≤ R.slots) (is : List Nat) (hC : is.map (fun i => wc[i]?) = ws.map some) (hnd : va_nd is = true)
    (ads : List Nat) (ha : ∀ e, (w0 e).map (fun q => q.1) = ads) (hb : ws.map (fun q => q.1) = ads) (h2 : ∀ e, pA wc is (w0 e) = w2 e) {st2 : E → List Value} (hs2 : ∀ e, (v0 e).toList ++ rest = st2 e) (kk : ∀ e, P e → Wd G k nL (ce + rm.cells) (sl + rm.slots) (w2 e) pc2 lv (st2 e)) : Wd G k nL ce sl wc pc lv st :=
  w_callVG C hM hw hd q0 he hc ho hst hn hcat hR is hC hnd (fun v ws' ⟨e, _, _, h⟩ => by rw [h]; exact (ha e).trans hb.symm) (fun v ws' ⟨e, hp, h1, h3⟩ => by rw [h1, h3, h2 e, hs2 e]; exact kk e hp)
end CALLS2
