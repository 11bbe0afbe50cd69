/-! WHAT THE DESK'S OWN METHODS MEAN -/
theorem tls_rg : ∀ (f : Nat) (i : Int) (d nb : Im) (n : Int), (0 ≤ n ∧ n ≤ 14) → 0 ≤ (tls f i d nb n).2.2 ∧ (tls f i d nb n).2.2 ≤ 14
  | 0, _, _, _, _, h => h
  | f + 1, i, d, nb, n, h => by
    rw [tls]
    refine tls_rg f (i + 1) _ _ _ ?_
    split
    · exact tdF_rg d nb i
    · exact h
theorem pl3_rg (dk nb : Im) (n : Int) (h : 0 ≤ n ∧ n ≤ 14) : 0 ≤ (pl3 dk nb n).2.2 ∧ (pl3 dk nb n).2.2 ≤ 14 := by
  unfold pl3
  exact tls_rg 31 1 _ _ _ (pL2_rg dk nb n h)
theorem cst_rg (t : CT) (i : Int) (h : 0 ≤ t.2.2.2.2 ∧ t.2.2.2.2 ≤ 14) : 0 ≤ (cst t i).2.2.2.2 ∧ (cst t i).2.2.2.2 ≤ 14 := by
  unfold cst
  split
  · exact h
  · split
    · exact fnF_rg _ _ _ _ _ h
    · exact fnF_rg _ _ _ _ _ h
theorem cns_rg : ∀ (f : Nat) (i : Int) (t : CT), (0 ≤ t.2.2.2.2 ∧ t.2.2.2.2 ≤ 14) → 0 ≤ (cns f i t).2.2.2.2 ∧ (cns f i t).2.2.2.2 ≤ 14
  | 0, _, _, h => h
  | f + 1, i, t, h => by rw [cns]; exact cns_rg f (i + 1) _ (cst_rg t i h)
theorem pl4_rg (dk nb : Im) (n : Int) (q cb : Im) (cn : Int) (h : 0 ≤ cn ∧ cn ≤ 14) : 0 ≤ (pl4 dk nb n q cb cn).2.2.2.2 ∧ (pl4 dk nb n q cb cn).2.2.2.2 ≤ 14 := by
  unfold pl4 coF
  exact cns_rg 31 1 _ h
theorem plR_rg (dk nb : Im) (n : Int) (q cb : Im) (cn : Int) : 0 ≤ plR dk nb n q cb cn ∧ plR dk nb n q cb cn ≤ 64 := by
  unfold plR; have := cds_rg (plD dk nb n q cb cn) dk 64 0 0; omega
theorem bgL_rg (tk : Int64) (d : Im) (n i : Int) (h : 0 ≤ n ∧ n ≤ 14) : 0 ≤ bgL tk d n i ∧ bgL tk d n i ≤ 14 := by
  unfold bgL; have := tn_rg 3 (by decide); split <;> omega
theorem crL_rg (tk : Int64) (d : Im) (mn q : Int) (nb : Im) (n c : Int) (h : 0 ≤ mn ∧ mn ≤ 14) : 0 ≤ crL tk d mn q nb n c ∧ crL tk d mn q nb n c ≤ 14 := by
  unfold crL c2L; have := bgL_rg tk d mn (ffs d 29 3) h
  split
  · exact h
  · split <;> omega
def zIm : Im := ⟨fun _ => 0, fun _ => ⟨Int.le_refl 0, by show (0 : Int) < 256; decide⟩⟩
def fmt0 : Im := su_wr zIm 0 0 0
/-- the desk's cells: its disk, and what its passes use -/
abbrev FDw (G : GX) (h kg kb ko kt km rp g b o dd m mb ip co cm cmb cq wr wn wnb : Nat) (dk : Im) (kk : Int64) (d : Im) (tk : Int64) (nb : Im) (n hd tl : Int) (rc : Int32) (q cb : Im) (cn : Int) (wb : Im) (wl : Int) : va_W :=
  [(h, .inr (8, [.ref kg, .ref ko, .ref kt, .ref rp, .ref wr, .ref wn])), (kg, .inr (2, [.ref kb])), (kb, .inl (gI G, 4096, .inl (arI dk))), (ko, .inr (4, [.ref kg, .long kk])), (kt, .inr (1, [.ref kg, .ref ko, .ref km])), (rp, .inr (6, [.ref kg, .ref g, .ref o, .ref dd, .ref ip, .ref co])), (g, .inr (2, [.ref b])), (b, .inl (gI G, 4096, .inl (arI d))), (o, .inr (4, [.ref g, .long tk])), (dd, .inr (1, [.ref g, .ref o, .ref m])), (m, .inr (5, [.ref mb, .int (iI n)])), (mb, .inl (gI G, 14, .inl (arI nb))), (ip, .inr (3, [.ref g, .ref o, .ref dd])), (co, .inr (0, [.ref g, .ref o, .ref dd, .ref cm, .ref cq, .int (iI hd), .int (iI tl), .int rc])), (cm, .inr (5, [.ref cmb, .int (iI cn)])), (cmb, .inl (gI G, 14, .inl (arI cb))), (cq, .inl (gI G, 32, .inl (arI q))), (wr, .inr (7, [.ref g, .ref o, .ref dd])), (wn, .inr (5, [.ref wnb, .int (iI wl)])), (wnb, .inl (gI G, 14, .inl (arI wb)))]
/-- the desk with the disk dk, whatever its passes left -/
def FD (G : GX) (h kg kb ko kt km rp g b o dd m mb ip co cm cmb cq wr wn wnb : Nat) (dk : Im) (w : va_W) : Prop :=
  ∃ (kk : Int64) (d : Im) (tk : Int64) (nb : Im) (n hd tl : Int) (rc : Int32) (q cb : Im) (cn : Int) (wb : Im) (wl : Int), ((0 ≤ n ∧ n ≤ 14) ∧ (0 ≤ cn ∧ cn ≤ 14) ∧ (0 ≤ wl ∧ wl ≤ 14)) ∧ w = FDw G h kg kb ko kt km rp g b o dd m mb ip co cm cmb cq wr wn wnb dk kk d tk nb n hd tl rc q cb cn wb wl
def ckR (dk nb : Im) (n : Int) (q cb : Im) (cn : Int) : Int := if plX dk then -1 else plR dk nb n q cb cn
abbrev rpX (dk : Im) (c : Int) : Prop := c < -1 ∨ 64 < c ∨ plX dk
def rpW (dk nb : Im) (n : Int) (q cb : Im) (cn c : Int) : Int × Im := wbs (plD dk nb n q cb cn) (if c = -1 then 64 else c) 64 0 0 dk
def rpR (dk nb : Im) (n : Int) (q cb : Im) (cn c : Int) : Int := if rpX dk c then -1 else (rpW dk nb n q cb cn c).1
def rpK (dk nb : Im) (n : Int) (q cb : Im) (cn c : Int) : Im := if rpX dk c then dk else (rpW dk nb n q cb cn c).2
abbrev pkX (p v : Int) : Prop := (0 ≤ p ∧ p < 4096) ∧ (0 ≤ v ∧ v ≤ 255)
def pkK (dk : Im) (p v : Int) : Im := if pkX p v then im_set dk p v else dk
def peR (dk : Im) (p : Int) : Int := if 0 ≤ p ∧ p < 4096 then im_at dk p else -1
def slK (dk : Im) (w : Int) : Im := if 0 ≤ w ∧ w < 35 then (if w = 0 then su_sum dk 0 else if w = 1 then su_sum dk 63 else if w = 2 then jn_sum dk else ino_sum dk (w - 3)) else dk
def cmK (dk : Im) (x : Int64) (n : Int) : Im := if 1 ≤ n ∧ n ≤ 5 then jn_wr dk x n else dk
def inR2 (dk : Im) (i w : Int) : Int := if inR i then (if w = 0 then kd dk i else if w = 1 then lk dk i else if w = 2 then sz dk i else -1) else -1
def rdR (dk : Im) (i j : Int) : Int := if j < 0 ∨ sz dk i ≤ j then -1 else if cp dk i j = -1 then -1 else im_at dk (cp dk i j)
def fdR (dk : Im) (i : Int) (nb : Im) (n : Int) : Int := if sk dk i nb n = -1 then -1 else im_at dk (sk dk i nb n)
theorem fmt_ok0 : su_ok fmt0 0 = true := by decide +kernel
theorem fmt_ok : ¬ plX fmt0 := fun h => by have h1 := h.1; rw [fmt_ok0] at h1; cases h1
def fmW (nb : Im) (n : Int) (q cb : Im) (cn : Int) : Int × Im := wbs (plD fmt0 nb n q cb cn) 64 64 0 0 fmt0
-- the writer's calls
abbrev mkX (dk nb : Im) (n : Int) (q cb : Im) (cn c : Int) : Prop := ¬ (c = 1 ∨ c = 2) ∨ plX dk ∨ ¬ plR dk nb n q cb cn = 0
def mkC (dk nb : Im) (n : Int) (q cb : Im) (cn : Int) (wb : Im) (x : Int64) (i c : Int) : Int := crR (pl4 dk nb n q cb cn).1 (plD dk nb n q cb cn) (pl3 dk nb n).2.1 i (nm_un wb x 8).1 (nm_un wb x 8).2 c
def mkR (dk nb : Im) (n : Int) (q cb : Im) (cn : Int) (wb : Im) (x : Int64) (i c : Int) : Int := if mkX dk nb n q cb cn c then -1 else mkC dk nb n q cb cn wb x i c
def mkK (dk nb : Im) (n : Int) (q cb : Im) (cn : Int) (wb : Im) (x : Int64) (i c : Int) : Im := if mkX dk nb n q cb cn c ∨ mkC dk nb n q cb cn wb x i c = -1 then dk else stD (crT (pl4 dk nb n q cb cn).1 (plD dk nb n q cb cn) (pl3 dk nb n).2.1 i (nm_un wb x 8).1 (nm_un wb x 8).2 c) (crD (pl4 dk nb n q cb cn).1 (plD dk nb n q cb cn) (pl3 dk nb n).2.1 i (nm_un wb x 8).1 (nm_un wb x 8).2 c)
abbrev apX (dk nb : Im) (n : Int) (q cb : Im) (cn i c : Int) : Prop := ¬ (0 ≤ c ∧ c ≤ 255) ∨ plX dk ∨ ¬ plR dk nb n q cb cn = 0 ∨ leX (pl4 dk nb n q cb cn).1 (plD dk nb n q cb cn) i
def apK (dk nb : Im) (n : Int) (q cb : Im) (cn i c : Int) : Im := if apX dk nb n q cb cn i c then dk else stD (leT (pl4 dk nb n q cb cn).1 (plD dk nb n q cb cn) i) (leD (pl4 dk nb n q cb cn).1 (plD dk nb n q cb cn) i c)
abbrev lnX (dk nb : Im) (n : Int) (q cb : Im) (cn : Int) (wb : Im) (x : Int64) (i c : Int) : Prop := plX dk ∨ ¬ plR dk nb n q cb cn = 0 ∨ aeB (pl4 dk nb n q cb cn).1 (plD dk nb n q cb cn) i c (nm_un wb x 8).1 (nm_un wb x 8).2 = false
def lnK (dk nb : Im) (n : Int) (q cb : Im) (cn : Int) (wb : Im) (x : Int64) (i c : Int) : Im := if lnX dk nb n q cb cn wb x i c then dk else stD (aeT (pl4 dk nb n q cb cn).1 (plD dk nb n q cb cn) i c (nm_un wb x 8).1 (nm_un wb x 8).2) (aeD (pl4 dk nb n q cb cn).1 (plD dk nb n q cb cn) i c (nm_un wb x 8).1 (nm_un wb x 8).2)
abbrev ulX (dk nb : Im) (n : Int) (q cb : Im) (cn : Int) (wb : Im) (x : Int64) (i : Int) : Prop := plX dk ∨ ¬ plR dk nb n q cb cn = 0 ∨ reB (plD dk nb n q cb cn) i (nm_un wb x 8).1 (nm_un wb x 8).2 = false
def ulK (dk nb : Im) (n : Int) (q cb : Im) (cn : Int) (wb : Im) (x : Int64) (i : Int) : Im := if ulX dk nb n q cb cn wb x i then dk else stD (reT (pl4 dk nb n q cb cn).1 (plD dk nb n q cb cn) i (nm_un wb x 8).1 (nm_un wb x 8).2) (reD (plD dk nb n q cb cn) i (nm_un wb x 8).1 (nm_un wb x 8).2)
section WTS
variable {G : GX} {k : KX} {cc : ByteArray} {own : String} {R : Room} {nL ce sl pc pc2 : Nat} {ws : va_W} {lv : List (Nat × Value)} {st : List Value}
theorem w_tsIn (C : Cx G k cc own nL R) {dflt lo hi z off : Int} {offs : Array Int} {len : Nat} (tgt : Nat) (hd : Dc cc pc (.tableswitch dflt lo hi offs) len pc2) (hr : lo ≤ z ∧ z ≤ hi ∧ -2147483648 ≤ z ∧ z < 2147483648) (ho : offs[(z - lo).toNat]? = some off) (ht : (pc : Int) + off = (tgt : Int)) (kk : Wd G k nL ce sl ws tgt lv st) : Wd G k nL ce sl ws pc lv (.int (iI z) :: st) := by
  obtain ⟨hd, rfl⟩ := hd
  have e : (iI z).toInt = z := iI_toInt ⟨hr.2.2.1, hr.2.2.2⟩
  exact fun H locs ls hP hD hS hl => lv_tableIn C.1 C.2.1 hd (by rw [e]; omega) (by rw [e]; omega) (by rw [e]; exact ho) ht (kk H locs ls hP hD hS hl)
theorem w_tsOut (C : Cx G k cc own nL R) {dflt lo hi z : Int} {offs : Array Int} {len : Nat} (tgt : Nat) (hd : Dc cc pc (.tableswitch dflt lo hi offs) len pc2) (hr : (z < lo ∨ hi < z) ∧ -2147483648 ≤ z ∧ z < 2147483648) (ht : (pc : Int) + dflt = (tgt : Int)) (kk : Wd G k nL ce sl ws tgt lv st) : Wd G k nL ce sl ws pc lv (.int (iI z) :: st) := by
  obtain ⟨hd, rfl⟩ := hd
  have e : (iI z).toInt = z := iI_toInt ⟨hr.2.1, hr.2.2⟩
  exact fun H locs ls hP hD hS hl => lv_tableOut C.1 C.2.1 hd (by rw [e]; exact hr.1) ht (kk H locs ls hP hD hS hl)
end WTS
