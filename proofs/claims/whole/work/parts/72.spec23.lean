/-! PASS 2 OF THE CLASS -/
section TD
variable {tm : Int64} {d : Im} {i p : Int}
theorem pl_WF (h : WF tm d) (hi : drI d i) (hp : 0 ≤ p) (hb : p < sz d i / 16) : WF tm (plS i p d) := cg_WF h hi hp hb (plS_cg h hi hp hb)
theorem pl_dr {j : Int} (h : WF tm d) (hi : drI d i) (hp : 0 ≤ p) (hb : p < sz d i / 16) (hj : drI d j) : drI (plS i p d) j := cg_drI h hi hp hb (plS_cg h hi hp hb) hj
theorem pl_sz (h : WF tm d) (hi : drI d i) (hp : 0 ≤ p) (hb : p < sz d i / 16) (j : Int) : sz (plS i p d) j = sz d j := cg_sz h hi hp hb (plS_cg h hi hp hb) j
theorem pl_kd (h : WF tm d) (hi : drI d i) (hp : 0 ≤ p) (hb : p < sz d i / 16) (j : Int) : kd (plS i p d) j = kd d j := cg_kd h hi hp hb (plS_cg h hi hp hb) j
theorem tpl_WF : ∀ (f : Nat) (p : Int) (d : Im), WF tm d → drI d i → 0 ≤ p → p + f ≤ sz d i / 16 → WF tm (tpl i f p d)
  | 0, p, d, h, _, _, _ => h
  | f + 1, p, d, h, hi, hp, hb => by
    rw [tpl]
    exact tpl_WF f (p + 1) _ (pl_WF h hi hp (by omega)) (pl_dr h hi hp (by omega) hi) (by omega) (by rw [pl_sz h hi hp (by omega)]; omega)
theorem tds_tpl : ∀ (f : Nat) (e : Int) (d nb : Im) (n : Int), WF tm d → drI d i → 2 ≤ e → e + f ≤ sz d i / 16 → (e = 2 → ¬ (i = 1 ∧ kd d 2 ≠ 0)) → (tds i f e d nb n).1 = tpl i f e d
  | 0, e, d, nb, n, _, _, _, _, _ => rfl
  | f + 1, e, d, nb, n, h, hi, he, hb, hl => by
    have q : plS i e d = if vaB d nb i (ep d i e) = true then d else im_wipe d (ep d i e) 16 := by
      unfold plS
      rw [if_neg (by omega), if_neg (fun w => hl w.1 w.2), vaB_E d nb zIm]
    rw [tds, tpl, ← q]
    exact tds_tpl f (e + 1) _ _ _ (pl_WF h hi (by omega) (by omega)) (pl_dr h hi (by omega) (by omega) hi) (by omega) (by rw [pl_sz h hi (by omega) (by omega)]; omega) (fun w => by omega)
theorem tx_dot {t : Nat} {j : Int} (h : (t = 2 ∧ j = 0) ∨ (t = 3 ∧ (j = 0 ∨ j = 1))) : tx t j = 46 := by
  rcases h with ⟨rfl, rfl⟩ | ⟨rfl, rfl | rfl⟩ <;> decide
theorem dt_1 (nb : Im) : dt1 d nb i = plS i 0 d := by
  unfold dt1 plS
  rw [if_pos (by omega)]
  refine nmE.weE (nc := dotN zIm 2) (n := 1) (fun j a b => ?_) _ _ _
  rw [sp_at _ 2 (tx_all (by omega)), dot_at, if_pos (show 0 ≤ j ∧ j < ((tn 2).toNat : Int) from ⟨a, b⟩), if_pos (by omega)]
  exact tx_dot (by omega)
theorem dt_D (nb : Im) : dtD d nb i i = plS i 1 (plS i 0 d) := by
  unfold dtD
  rw [dt_1]
  generalize plS i 0 d = e
  unfold plS
  rw [if_pos (by omega)]
  refine nmE.weE (nc := dotN zIm 2) (n := 2) (fun j a b => ?_) _ _ _
  unfold dtN
  rw [sp_at _ 3 (tx_all (by omega)), dot_at, if_pos (show 0 ≤ j ∧ j < ((tn 3).toNat : Int) from ⟨a, b⟩), if_pos (by omega)]
  exact tx_dot (by omega)
/-- tidy is a directory's places, one after the other -/
theorem td_F (nb : Im) (h : WF tm d) (hi : drI d i) : (tdF d nb i).1 = tpl i (sz d i / 16).toNat 0 d := by
  have s := h.szE hi
  have h0 := pl_WF h hi (p := 0) (by omega) (by omega)
  have i0 := pl_dr h hi (p := 0) (by omega) (by omega) hi
  have s0 := pl_sz h hi (p := 0) (by omega) (by omega) i
  have k0 := pl_kd h hi (p := 0) (by omega) (by omega)
  have h1 := pl_WF h0 i0 (p := 1) (by omega) (by omega)
  have i1 := pl_dr h0 i0 (p := 1) (by omega) (by omega) i0
  have s1 := pl_sz h0 i0 (p := 1) (by omega) (by omega) i
  have k1 := pl_kd h0 i0 (p := 1) (by omega) (by omega)
  have e2 : tpl i (sz d i / 16).toNat 0 d = tpl i (sz d i / 16 - 2).toNat 2 (plS i 1 (plS i 0 d)) := by
    rw [show (sz d i / 16).toNat = (sz d i / 16 - 2).toNat + 1 + 1 by omega, tpl, tpl]; rfl
  rw [e2]
  unfold tdF
  by_cases x : tdX d nb i
  · have e3 : td0 d nb i = plS i 2 (plS i 1 (plS i 0 d)) := by
      unfold td0
      rw [if_pos x]
      have x2 := x.2
      rw [dt_D] at x2 ⊢
      generalize plS i 1 (plS i 0 d) = e at x2
      have x1 := x.1
      subst x1
      unfold plS
      rw [if_neg (by omega), if_pos ⟨rfl, rfl, x2⟩]
      refine nmE.weE (nc := lstN zIm 10) (n := 10) (fun j a b => ?_) _ _ _
      rw [sp_at _ 4 (tx_all (by omega)), lst_at _ (tx_all (by omega)), if_pos (show 0 ≤ j ∧ j < ((tn 4).toNat : Int) from ⟨a, b⟩), if_pos (by omega)]
    have e4 : tde d nb i = 3 := by unfold tde; rw [if_pos x]
    have h2 := pl_WF h1 i1 (p := 2) (by omega) (by omega)
    have i2 := pl_dr h1 i1 (p := 2) (by omega) (by omega) i1
    have s2 := pl_sz h1 i1 (p := 2) (by omega) (by omega) i
    rw [e3, e4, h2.ecE i2, show (sz d i / 16 - 2).toNat = (sz d i / 16 - 3).toNat + 1 by omega, tpl, s2, s1, s0]
    exact tds_tpl _ 3 _ _ _ h2 i2 (by omega) (by rw [s2, s1, s0]; omega) (fun w => by omega)
  · have e3 : td0 d nb i = plS i 1 (plS i 0 d) := by
      unfold td0
      rw [if_neg x, dt_D]
    have e4 : tde d nb i = 2 := by unfold tde; rw [if_neg x]
    rw [e3, e4, h1.ecE i1, s1, s0]
    refine tds_tpl _ 2 _ _ _ h1 i1 (by omega) (by rw [s1, s0]; omega) (fun _ w => x ⟨w.1, ?_⟩)
    rw [dt_D]; exact w.2
theorem tpD_WF (h : WF tm d) (h1 : 1 ≤ i) (h2 : i < 32) : WF tm (tpD i d) := by
  unfold tpD
  split
  · next k => exact tpl_WF _ 0 d h ⟨h1, h2, k⟩ (by omega) (by have := sz_rg d i; omega)
  · exact h
theorem tls_tdr : ∀ (f : Nat) (i : Int) (d nb : Im) (n : Int), WF tm d → 1 ≤ i → i + f ≤ 32 → (tls f i d nb n).1 = tdr f i d
  | 0, i, d, nb, n, _, _, _ => rfl
  | f + 1, i, d, nb, n, h, h1, h2 => by
    have e : (if kd d i = 2 then (tdF d nb i).1 else d) = tpD i d := by
      unfold tpD
      by_cases k : kd d i = 2
      · rw [if_pos k, if_pos k]; exact td_F nb h ⟨h1, by omega, k⟩
      · rw [if_neg k, if_neg k]
    rw [tls, tdr, e]
    exact tls_tdr f (i + 1) _ _ _ (tpD_WF h h1 (by omega)) (by omega) (by omega)
theorem tdr_WF : ∀ (f : Nat) (i : Int) (d : Im), WF tm d → 1 ≤ i → i + f ≤ 32 → WF tm (tdr f i d)
  | 0, i, d, h, _, _ => h
  | f + 1, i, d, h, h1, h2 => by
    rw [tdr]; exact tdr_WF f (i + 1) _ (tpD_WF h h1 (by omega)) (by omega) (by omega)
end TD
/-! two images that differ where the dots of directories lie -/
/-- a place of dots that is still to be written: from (i, p) on -/
def dtP (X : Im) (i p a : Int) : Prop := ∃ j q : Int, drI X j ∧ 0 ≤ q ∧ q < 2 ∧ (i < j ∨ (j = i ∧ p ≤ q)) ∧ ep X j q ≤ a ∧ a < ep X j q + 16
def eqP (i p : Int) (X Y : Im) : Prop := ∀ a : Int, ¬ dtP X i p a → Y.1 a = X.1 a
section EQ
variable {tm : Int64} {X Y : Im} {i p : Int}
theorem eqP.smE (h : WF tm X) (e : eqP i p X Y) {j : Int} (h1 : 1 ≤ j) (h2 : j < 32) (h3 : kd X j ≠ 0) : smI X Y j := by
  refine ⟨fun k a1 a2 a3 => e _ ?_, fun h5 k a1 a2 => e _ ?_⟩
  · rintro ⟨l, q, w1, w2, w3, w4, w5, w6⟩
    have s := h.szE w1
    have := h.ep_rgE w1 (p := q) (by omega) (by omega)
    omega
  · rintro ⟨l, q, w1, w2, w3, w4, w5, w6⟩
    have s := h.szE w1
    have c := h.ctE w1 (p := q) (by omega) (by omega)
    have n := c.indE h h1 h2 h3 h5
    have := h.epE w1 (p := q) (by omega) (by omega)
    omega
theorem eqP.loE (h : WF tm X) (e : eqP i p X Y) {a : Int} (ha : a < 1024) : Y.1 a = X.1 a := e _ (by
  rintro ⟨l, q, w1, w2, w3, w4, w5, w6⟩
  have s := h.szE w1
  have := h.ep_rgE w1 (p := q) (by omega) (by omega)
  omega)
theorem eqP.kdE (h : WF tm X) (e : eqP i p X Y) (j : Int) : kd Y j = kd X j := by
  unfold kd; split
  · exact e.loE h (by omega)
  · rfl
theorem eqP.szE (h : WF tm X) (e : eqP i p X Y) (j : Int) : sz Y j = sz X j := by
  unfold sz; split
  · rw [e.loE h (by omega), e.loE h (by omega)]
  · rfl
theorem eqP.WFE (h : WF tm X) (e : eqP i p X Y) : WF tm Y := h.frame (by rw [e.kdE h]; exact h.k0) (fun j a1 a2 a3 => e.smE h a1 a2 a3) (fun j a1 a2 a3 a4 k b1 b2 => by rw [e.loE h (by omega)]; exact h.bl j a1 a2 a4 k b1 b2) (by omega)
theorem eqP.drE (h : WF tm X) (e : eqP i p X Y) {j : Int} (hj : drI X j) : drI Y j := ⟨hj.1, hj.2.1, by rw [e.kdE h]; exact hj.2.2⟩
theorem eqP.epE (h : WF tm X) (e : eqP i p X Y) {j q : Int} (hj : drI X j) (hq : 0 ≤ q) (hs : q < sz X j / 16) : ep Y j q = ep X j q := by
  have s := h.szE hj
  exact (e.smE h hj.1 hj.2.1 (by omega)).epE hq hs s.2.1 s.2.2
/-- entries behind the dots are the same -/
theorem eqP.enE (h : WF tm X) (e : eqP i p X Y) {j q x : Int} (hj : drI X j) (hq : 2 ≤ q) (hs : q < sz X j / 16) (hx : 0 ≤ x ∧ x < 16) : Y.1 (ep X j q + x) = X.1 (ep X j q + x) := e _ (by
  rintro ⟨l, r, w1, w2, w3, w4, w5, w6⟩
  have s := h.szE w1
  have := h.ep_inj w1 hj (p := r) (q := q) (by omega) (by omega) (by omega) hs (by omega)
  omega)
theorem nmd_fr {d e : Im} {a n : Int} (nb : Im) (ha : 0 ≤ a ∧ a ≤ 4080) (hn : n ≤ 14) (h : ∀ x : Int, 0 ≤ x → x < 16 → e.1 (a + x) = d.1 (a + x)) : nmd e a nb n = nmd d a nb n := by
  unfold nmd
  rw [Bool.eq_iff_iff, Bool.and_eq_true, Bool.and_eq_true, nmk_iff, nmk_iff, im_at_in e (by omega), im_at_in d (by omega), h 1 (by omega) (by omega)]
  refine and_congr Iff.rfl ⟨fun w j a b => ?_, fun w j a b => ?_⟩
  · rw [← w j a b, im_at_in e (by omega), im_at_in d (by omega), show ∀ z : Int, z + 2 + j = z + (2 + j) from fun z => by omega, h (2 + j) (by omega) (by omega)]
  · rw [← w j a b, im_at_in e (by omega), im_at_in d (by omega), show ∀ z : Int, z + 2 + j = z + (2 + j) from fun z => by omega, h (2 + j) (by omega) (by omega)]
theorem sks_fr {d e : Im} {i n : Int} (nb : Im) (hn : n ≤ 14) : ∀ (f : Nat) (q : Int), (∀ r : Int, q ≤ r → r < q + f → ep e i r = ep d i r ∧ (0 ≤ ep d i r ∧ ep d i r ≤ 4080) ∧ ∀ x : Int, 0 ≤ x → x < 16 → e.1 (ep d i r + x) = d.1 (ep d i r + x)) → sks e i nb n f q = sks d i nb n f q
  | 0, q, _ => rfl
  | f + 1, q, h => by
    obtain ⟨h1, h2, h3⟩ := h q (by omega) (by omega)
    rw [sks, sks, h1, nmd_fr nb h2 hn h3, sks_fr nb hn f (q + 1) (fun r a b => h r (by omega) (by omega))]
theorem blank_fr {d e : Im} {a n : Int} (h : ∀ j : Int, a ≤ j → j < a + n → e.1 j = d.1 j) : im_blank e a n = im_blank d a n := by
  unfold im_blank
  split
  · next r =>
    rw [Bool.eq_iff_iff, blk_iff, blk_iff]
    have := r.2.2.1
    exact ⟨fun w j a b => by rw [← h j a (by omega)]; exact w j a b, fun w j a b => by rw [h j a (by omega)]; exact w j a b⟩
  · rfl
theorem ldZ_fr {d e : Im} {a : Int} (ha : 0 ≤ a ∧ a ≤ 4080) (hn : im_at d (a + 1) ≤ 14) (h : ∀ x : Int, 0 ≤ x → x < 16 → e.1 (a + x) = d.1 (a + x)) : ldZ e a = ldZ d a := by
  have r := im_at_rg d (a + 1)
  have e1 : im_at e (a + 1) = im_at d (a + 1) := by rw [im_at_in e (by omega), im_at_in d (by omega)]; exact h 1 (by omega) (by omega)
  apply im_x
  intro j
  unfold ldZ
  rw [e1, ld_at, ld_at]
  split
  · next q =>
    rw [im_at_in e (by omega), im_at_in d (by omega), show a + 2 + j = a + (2 + j) by omega]
    exact h _ (by omega) (by omega)
  · rfl
theorem eqP.vaE (h : WF tm X) (e : eqP i p X Y) {j q : Int} (hj : drI X j) (hq : 2 ≤ q) (hs : q < sz X j / 16) : vaB Y zIm j (ep X j q) = vaB X zIm j (ep X j q) := by
  have s := h.szE hj
  have er := h.ep_rgE hj (p := q) (by omega) hs
  have f := fun x a b => e.enE h hj hq hs (x := x) ⟨a, b⟩
  have f0 := f 0 (by omega) (by omega)
  have f1 := f 1 (by omega) (by omega)
  rw [show ep X j q + 0 = ep X j q by omega] at f0
  have m0 : im_at Y (ep X j q) = im_at X (ep X j q) := by rw [im_at_in Y (by omega), im_at_in X (by omega)]; exact f0
  have m1 : im_at Y (ep X j q + 1) = im_at X (ep X j q + 1) := by rw [im_at_in Y (by omega), im_at_in X (by omega)]; exact f1
  unfold vaB
  by_cases x : vaX X (ep X j q)
  · have x2 : vaX Y (ep X j q) := by unfold vaX at x ⊢; rw [m0, m1, e.kdE h]; exact x
    rw [if_pos x, if_pos x2]
  · have x2 : ¬ vaX Y (ep X j q) := by unfold vaX at x ⊢; rw [m0, m1, e.kdE h]; exact x
    have x3 := x
    unfold vaX at x3
    have l : nm_ld zIm Y (ep X j q + 2) (im_at Y (ep X j q + 1)).toNat = nm_ld zIm X (ep X j q + 2) (im_at X (ep X j q + 1)).toNat := ldZ_fr (by omega) (by omega) f
    have r := im_at_rg X (ep X j q + 1)
    rw [if_neg x, if_neg x2, l, m1]
    congr 1
    · exact blank_fr (fun k a b => by
        have := f (k - ep X j q) (by omega) (by omega)
        rwa [show ep X j q + (k - ep X j q) = k by omega] at this)
    · congr 2
      have hY := e.WFE h
      rw [sk_sks h hj (by omega), sk_sks hY (e.drE h hj) (by omega), e.szE h, sks_fr _ (by omega) _ 2 (fun r a b => ⟨e.epE h hj (by omega) (by omega), by have := h.ep_rgE hj (p := r) (by omega) (by omega); omega, fun x a1 b1 => e.enE h hj a (by omega) ⟨a1, b1⟩⟩)]
theorem dtP_s (h : WF tm X) (hi : drI X i) (hp : 0 ≤ p) (hb : p < sz X i / 16) {a : Int} (hd : dtP X i p a) (ha : ¬ (ep X i p ≤ a ∧ a < ep X i p + 16)) : dtP (plS i p X) i (p + 1) a := by
  obtain ⟨j, q, w1, w2, w3, w4, w5, w6⟩ := hd
  have s := h.szE w1
  refine ⟨j, q, pl_dr h hi hp hb w1, w2, w3, ?_, ?_⟩
  · rcases w4 with w | ⟨rfl, w⟩
    · exact Or.inl w
    · refine Or.inr ⟨rfl, ?_⟩
      by_cases e : p = q
      · subst e; exact absurd ⟨w5, w6⟩ ha
      · omega
  · rw [cg_ep h hi hp hb (plS_cg h hi hp hb) w1 (by omega) (by omega)]; exact ⟨w5, w6⟩
theorem eqP.st (h : WF tm X) (e : eqP i p X Y) (hi : drI X i) (hp : 0 ≤ p) (hb : p < sz X i / 16) : eqP i (p + 1) (plS i p X) (plS i p Y) := by
  have er := h.ep_rgE hi hp hb
  have hc := plS_cg h hi hp hb
  have hY := e.WFE h
  have ee := e.epE h hi hp hb
  have hcY := plS_cg hY (e.drE h hi) hp (by rw [e.szE h]; exact hb)
  rw [ee] at hcY
  intro a ha
  by_cases hin : ep X i p ≤ a ∧ a < ep X i p + 16
  · unfold plS
    rw [ee, e.kdE h]
    by_cases c1 : p < 2
    · rw [if_pos c1, if_pos c1, we_at Y _ (by omega) (by omega) (by omega), we_at X _ (by omega) (by omega) (by omega), if_pos hin, if_pos hin]
    · rw [if_neg c1, if_neg c1]
      by_cases c2 : p = 2 ∧ i = 1 ∧ kd X 2 ≠ 0
      · rw [if_pos c2, if_pos c2, we_at Y _ (by omega) (by omega) (by omega), we_at X _ (by omega) (by omega) (by omega), if_pos hin, if_pos hin]
      · rw [if_neg c2, if_neg c2, e.vaE h hi (by omega) hb]
        split
        · have := e.enE h hi (q := p) (x := a - ep X i p) (by omega) hb (by omega)
          rwa [show ep X i p + (a - ep X i p) = a by omega] at this
        · rw [wipe_in Y (by unfold rgP; omega) hin, wipe_in X (by unfold rgP; omega) hin]
  · rw [hc a hin, hcY a hin]
    exact e a (fun w => ha (dtP_s h hi hp hb w hin))
theorem eqP.tp : ∀ (f : Nat) (p : Int) (X Y : Im), WF tm X → eqP i p X Y → drI X i → 0 ≤ p → p + f ≤ sz X i / 16 → eqP i (p + f) (tpl i f p X) (tpl i f p Y)
  | 0, p, X, Y, _, e, _, _, _ => by rw [show p + ((0 : Nat) : Int) = p by omega]; exact e
  | f + 1, p, X, Y, h, e, hi, hp, hb => by
    rw [tpl, tpl, show p + ((f + 1 : Nat) : Int) = p + 1 + (f : Int) by omega]
    exact eqP.tp f (p + 1) _ _ (pl_WF h hi hp (by omega)) (e.st h hi hp (by omega)) (pl_dr h hi hp (by omega) hi) (by omega) (by rw [pl_sz h hi hp (by omega)]; omega)
theorem eqP.nx {z : Int} (h : eqP i z X Y) (hz : 2 ≤ z ∨ ¬ kd X i = 2) : eqP (i + 1) 0 X Y := fun a ha => h a (fun ⟨j, q, w1, w2, w3, w4, w5⟩ => ha ⟨j, q, w1, w2, w3, by
    rcases w4 with w | ⟨rfl, w⟩
    · omega
    · rcases hz with z | z
      · omega
      · exact absurd w1.2.2 z, w5⟩)
theorem eqP.tD (h : WF tm X) (e : eqP i 0 X Y) (h1 : 1 ≤ i) (h2 : i < 32) : eqP (i + 1) 0 (tpD i X) (tpD i Y) := by
  unfold tpD
  rw [e.kdE h, e.szE h]
  split
  · next k =>
    have s := h.szE ⟨h1, h2, k⟩
    have t := eqP.tp (sz X i / 16).toNat 0 X Y h e ⟨h1, h2, k⟩ (by omega) (by omega)
    exact t.nx (Or.inl (by omega))
  · next k => exact e.nx (Or.inr k)
theorem eqP.tR : ∀ (f : Nat) (i : Int) (X Y : Im), WF tm X → eqP i 0 X Y → 1 ≤ i → i + f = 32 → tdr f i Y = tdr f i X
  | 0, i, X, Y, h, e, h1, h2 => im_x (fun a => e a (by
      rintro ⟨j, q, w1, w2, w3, w4, w5⟩
      have := w1.2.1
      omega))
  | f + 1, i, X, Y, h, e, h1, h2 => by
    rw [tdr, tdr]
    exact eqP.tR f (i + 1) _ _ (tpD_WF h h1 (by omega)) (e.tD h h1 (by omega)) (by omega) (by omega)
end EQ
