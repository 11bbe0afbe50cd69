/-! NAMES WITHOUT WHAT LIES BEHIND THEM; ENTRIES BYTE BY BYTE -/
/-- the first n bytes agree -/
def nmE (nb nc : Im) (n : Int) : Prop := ∀ j : Int, 0 ≤ j → j < n → nb.1 j = nc.1 j
section NE
variable {nb nc : Im} {n : Int}
theorem nmE.sym (h : nmE nb nc n) : nmE nc nb n := fun j a b => (h j a b).symm
theorem nmE.tr {nd : Im} (h : nmE nb nc n) (g : nmE nc nd n) : nmE nb nd n := fun j a b => (h j a b).trans (g j a b)
theorem nmE.goodE (h : nmE nb nc n) : ∀ m : Nat, (m : Int) ≤ n → nm_good nb m = nm_good nc m
  | 0, _ => rfl
  | m + 1, hm => by rw [nm_good, nm_good, h.goodE m (by omega), h m (by omega) (by omega)]
theorem nmE.dotsE (h : nmE nb nc n) : ∀ m : Nat, (m : Int) ≤ n → nm_dots nb m = nm_dots nc m
  | 0, _ => rfl
  | m + 1, hm => by rw [nm_dots, nm_dots, h.dotsE m (by omega), h m (by omega) (by omega)]
theorem nmE.okE (h : nmE nb nc n) (hn : 0 ≤ n) : nm_ok nb n = nm_ok nc n := by
  unfold nm_ok
  rw [h.goodE n.toNat (by omega), h.dotsE n.toNat (by omega)]
theorem nmE.atE (h : nmE nb nc n) (j : Int) : nm_at nb n j = nm_at nc n j := by
  unfold nm_at
  split
  · next q => exact h j q.1 q.2.1
  · rfl
theorem nmE.nmkE (h : nmE nb nc n) (d : Im) (p : Int) : ∀ m : Nat, nmk d p nb n m = nmk d p nc n m
  | 0 => rfl
  | m + 1 => by rw [nmk, nmk, h.nmkE d p m, h.atE]
theorem nmE.nmdE (h : nmE nb nc n) (d : Im) (p : Int) : nmd d p nb n = nmd d p nc n := by
  unfold nmd; rw [h.nmkE]
theorem nmE.sksE (h : nmE nb nc n) (d : Im) (i : Int) : ∀ (f : Nat) (e : Int), sks d i nb n f e = sks d i nc n f e
  | 0, e => rfl
  | f + 1, e => by rw [sks, sks, h.nmdE, h.sksE d i f]
theorem nmE.skE (h : nmE nb nc n) (d : Im) (i : Int) : sk d i nb n = sk d i nc n := by
  unfold sk; rw [h.sksE]
theorem nmE.rfsE (h : nmE nb nc n) (d : Im) (i : Int) : ∀ (f : Nat) (e : Int), rfs d i nb n f e = rfs d i nc n f e
  | 0, e => rfl
  | f + 1, e => by rw [rfs, rfs, h.nmdE, h.rfsE d i f]
theorem nmE.wekE (h : nmE nb nc n) (x : Im) (p : Int) : ∀ m : Nat, wek x p nb n m = wek x p nc n m
  | 0 => rfl
  | m + 1 => by rw [wek, wek, h.wekE x p m, h.atE]
theorem nmE.weE (h : nmE nb nc n) (d : Im) (p i : Int) : we d p i nb n = we d p i nc n := by
  unfold we; rw [h.wekE]
end NE
theorem ld_at (nb d : Im) (p : Int) : ∀ (m : Nat) (j : Int), (nm_ld nb d p m).1 j = if 0 ≤ j ∧ j < m then im_at d (p + j) else nb.1 j
  | 0, j => by rw [nm_ld, if_neg (by omega)]
  | m + 1, j => by
    rw [nm_ld, up_at]
    have r := im_at_rg d (p + m)
    by_cases e : j = m
    · rw [if_pos e, if_pos (by omega), e]; omega
    · rw [if_neg e, ld_at nb d p m j]
      by_cases q : 0 ≤ j ∧ j < m
      · rw [if_pos q, if_pos (by omega)]
      · rw [if_neg q, if_neg (by omega)]
theorem ld_E (nb nc d : Im) (p : Int) (n : Int) : nmE (nm_ld nb d p n.toNat) (nm_ld nc d p n.toNat) n := fun j a b => by
  rw [ld_at, ld_at, if_pos (by omega), if_pos (by omega)]
theorem vaB_E (d nb nc : Im) (i p : Int) : vaB d nb i p = vaB d nc i p := by
  unfold vaB
  have h := ld_E nb nc d (p + 2) (im_at d (p + 1))
  have r := im_at_rg d (p + 1)
  rw [h.okE r.1, h.skE]
theorem tx_all {t : Nat} (ht : t < 5) (j : Int) : 0 ≤ tx t j ∧ tx t j < 256 := by
  unfold tx
  by_cases h : j.toNat < 11
  · have := tx_rg0 t ht j.toNat h; omega
  · have := tn_rg t ht
    unfold tn at this
    rw [List.getD_eq_getElem?_getD, List.getElem?_eq_none (by omega)]; decide
theorem sp_at (nb : Im) (t : Nat) (hx : ∀ j : Int, 0 ≤ tx t j ∧ tx t j < 256) : ∀ (m : Nat) (j : Int), (nm_sp nb t m).1 j = if 0 ≤ j ∧ j < m then tx t j else nb.1 j
  | 0, j => by rw [nm_sp, if_neg (by omega)]
  | m + 1, j => by
    rw [nm_sp, up_at]
    have r := hx m
    by_cases e : j = m
    · rw [if_pos e, if_pos (by omega), e]; omega
    · rw [if_neg e, sp_at nb t hx m j]
      by_cases q : 0 ≤ j ∧ j < m
      · rw [if_pos q, if_pos (by omega)]
      · rw [if_neg q, if_neg (by omega)]
theorem dot_at (nb : Im) : ∀ (m : Nat) (j : Int), (dotN nb m).1 j = if 0 ≤ j ∧ j < m then 46 else nb.1 j
  | 0, j => by rw [dotN, if_neg (by omega)]
  | m + 1, j => by
    rw [dotN, up_at]
    by_cases e : j = m
    · rw [if_pos e, if_pos (by omega)]; rfl
    · rw [if_neg e, dot_at nb m j]
      by_cases q : 0 ≤ j ∧ j < m
      · rw [if_pos q, if_pos (by omega)]
      · rw [if_neg q, if_neg (by omega)]
theorem lst_at (nb : Im) (hx : ∀ j : Int, 0 ≤ tx 4 j ∧ tx 4 j < 256) : ∀ (m : Nat) (j : Int), (lstN nb m).1 j = if 0 ≤ j ∧ j < m then tx 4 j else nb.1 j
  | 0, j => by rw [lstN, if_neg (by omega)]
  | m + 1, j => by
    rw [lstN, up_at]
    have r := hx m
    by_cases e : j = m
    · rw [if_pos e, if_pos (by omega), e]; omega
    · rw [if_neg e, lst_at nb hx m j]
      by_cases q : 0 ≤ j ∧ j < m
      · rw [if_pos q, if_pos (by omega)]
      · rw [if_neg q, if_neg (by omega)]
theorem wek_at (x : Im) (p : Int) (nb : Im) (n : Int) (hp : 0 ≤ p ∧ p ≤ 4080) (hn : n ≤ 14) : ∀ (m : Nat), (m : Int) ≤ n → ∀ j : Int, (wek x p nb n m).1 j = if p + 2 ≤ j ∧ j < p + 2 + m then nb.1 (j - p - 2) else x.1 j
  | 0, _, j => by rw [wek, if_neg (by omega)]
  | m + 1, hm, j => by
    rw [wek, im_set_in _ (by omega), up_at, nm_at_in nb (by omega)]
    have r := nb.2 m
    by_cases e : j = p + 2 + m
    · rw [if_pos e, if_pos (by omega), show j - p - 2 = m by omega]; omega
    · rw [if_neg e, wek_at x p nb n hp hn m (by omega) j]
      by_cases q : p + 2 ≤ j ∧ j < p + 2 + m
      · rw [if_pos q, if_pos (by omega)]
      · rw [if_neg q, if_neg (by omega)]
/-- an entry written, byte by byte -/
theorem we_at (d : Im) {p i n : Int} (nb : Im) (hp : 0 ≤ p ∧ p ≤ 4080) (hi : 0 ≤ i ∧ i < 256) (hn : 0 ≤ n ∧ n ≤ 14) (j : Int) : (we d p i nb n).1 j = if p ≤ j ∧ j < p + 16 then (if j = p then i else if j = p + 1 then n else if j < p + 2 + n then nb.1 (j - p - 2) else 0) else d.1 j := by
  unfold we
  rw [wek_at _ p nb n hp hn.2 n.toNat (by omega), im_set_in _ (by omega), im_set_in _ (by omega), up_at, up_at, wipe_at d (by unfold rgP; omega)]
  by_cases h1 : p ≤ j ∧ j < p + 16
  · rw [if_pos h1, if_pos h1]
    by_cases h2 : j = p
    · rw [if_pos h2, if_neg (by omega), if_neg (by omega), if_pos h2]; omega
    · rw [if_neg h2]
      by_cases h3 : j = p + 1
      · rw [if_pos h3, if_neg (by omega), if_pos h3]; omega
      · rw [if_neg h3]
        by_cases h4 : j < p + 2 + n
        · rw [if_pos h4, if_pos (by omega), if_neg h2, if_neg h3]
        · rw [if_neg h4, if_neg (by omega), if_neg h3, if_neg h2]
  · rw [if_neg h1, if_neg h1, if_neg (by omega), if_neg (by omega), if_neg (by omega)]
theorem we_cg (d : Im) {p i n : Int} (nb : Im) (hp : 0 ≤ p ∧ p ≤ 4080) (hi : 0 ≤ i ∧ i < 256) (hn : 0 ≤ n ∧ n ≤ 14) : cgE d (we d p i nb n) p := fun j hj => by rw [we_at d nb hp hi hn, if_neg hj]
theorem wp_cg (d : Im) {p : Int} (hp : 0 ≤ p ∧ p ≤ 4080) : cgE d (im_wipe d p 16) p := fun j hj => wipe_out d (by unfold rgP; omega) hj
theorem im_x {d e : Im} (h : ∀ j : Int, d.1 j = e.1 j) : d = e := Subtype.ext (funext h)
section FR
variable {tm : Int64} {d e : Im} {i p : Int}
theorem cg_WF (h : WF tm d) (hi : drI d i) (hp : 0 ≤ p) (hb : p < sz d i / 16) (hc : cgE d e (ep d i p)) : WF tm e := cgB.WFE h (h.ctE hi hp hb) (cgE.B h hi hp hb hc)
theorem cg_kd (h : WF tm d) (hi : drI d i) (hp : 0 ≤ p) (hb : p < sz d i / 16) (hc : cgE d e (ep d i p)) (j : Int) : kd e j = kd d j := cgB.kdE h (h.ctE hi hp hb) (cgE.B h hi hp hb hc) j
theorem cg_sz (h : WF tm d) (hi : drI d i) (hp : 0 ≤ p) (hb : p < sz d i / 16) (hc : cgE d e (ep d i p)) (j : Int) : sz e j = sz d j := cgB.szE h (h.ctE hi hp hb) (cgE.B h hi hp hb hc) j
theorem cg_ep (h : WF tm d) (hi : drI d i) (hp : 0 ≤ p) (hb : p < sz d i / 16) (hc : cgE d e (ep d i p)) {j q : Int} (hj : drI d j) (hq : 0 ≤ q) (hs : q < sz d j / 16) : ep e j q = ep d j q := by
  have s := h.szE hj
  exact (cgB.smIE h (h.ctE hi hp hb) (cgE.B h hi hp hb hc) hj.1 hj.2.1 (by omega)).epE hq hs s.2.1 s.2.2
theorem cg_ec (h : WF tm d) (hi : drI d i) (hp : 0 ≤ p) (hb : p < sz d i / 16) (hc : cgE d e (ep d i p)) (j : Int) : ec e j = ec d j := by unfold ec; rw [cg_sz h hi hp hb hc]
theorem WFn.ep_rgE (h : WF tm d) (hi : drI d i) (hp : 0 ≤ p) (hb : p < sz d i / 16) : 1024 ≤ ep d i p ∧ ep d i p + 16 ≤ 4032 := by
  have := h.epE hi hp hb; omega
/-- other entries stay -/
theorem cg_en (h : WF tm d) (hi : drI d i) (hp : 0 ≤ p) (hb : p < sz d i / 16) (hc : cgE d e (ep d i p)) {j q x : Int} (hj : drI d j) (hq : 0 ≤ q) (hs : q < sz d j / 16) (hx : 0 ≤ x ∧ x < 16) (hn : ¬ (i = j ∧ p = q)) : e.1 (ep d j q + x) = d.1 (ep d j q + x) := by
  refine hc _ (fun w => hn ?_)
  exact h.ep_inj hi hj hp hb hq hs (by omega)
end FR
/-- an entry is blank, or of an inode in use -/
def enT (d : Im) (a : Int) : Prop := (∀ j : Int, 0 ≤ j → j < 16 → d.1 (a + j) = 0) ∨ kd d (d.1 a) ≠ 0
def TY (d : Im) (i z : Int) : Prop := ∀ q : Int, 2 ≤ q → q < z → enT d (ep d i q)
section SKS
variable {tm : Int64} {d : Im} {i n : Int} {nb : Im}
/-- the first entry of a name -/
def fM (d : Im) (i : Int) (nb : Im) (n e q : Int) : Prop := nmd d (ep d i q) nb n = true ∧ ∀ x : Int, e ≤ x → x < q → nmd d (ep d i x) nb n = false
theorem sks_ex : ∀ (f : Nat) (e : Int), (∀ q : Int, e ≤ q → q < e + f → ep d i q ≠ -1) → (sks d i nb n f e = -1 ∧ ∀ q : Int, e ≤ q → q < e + f → nmd d (ep d i q) nb n = false) ∨ ∃ q : Int, e ≤ q ∧ q < e + f ∧ sks d i nb n f e = ep d i q ∧ fM d i nb n e q
  | 0, e, h => Or.inl ⟨rfl, fun q h1 h2 => by omega⟩
  | f + 1, e, h => by
    rw [sks]
    cases z : nmd d (ep d i e) nb n with
    | true => rw [if_pos ⟨h e (by omega) (by omega), rfl⟩]; exact Or.inr ⟨e, by omega, by omega, rfl, z, fun x a b => by omega⟩
    | false =>
      rw [if_neg (fun w => by cases w.2)]
      rcases sks_ex f (e + 1) (fun q a b => h q (by omega) (by omega)) with ⟨h1, h2⟩ | ⟨q, h1, h2, h3, h4, h5⟩
      · refine Or.inl ⟨h1, fun q a b => ?_⟩
        by_cases w : q = e
        · rw [w]; exact z
        · exact h2 q (by omega) (by omega)
      · refine Or.inr ⟨q, by omega, by omega, h3, h4, fun x a b => ?_⟩
        by_cases w : x = e
        · rw [w]; exact z
        · exact h5 x (by omega) b
theorem nmd_n0 (hn : 1 ≤ n) {a : Int} (ha : 0 ≤ a ∧ a + 16 ≤ 4096) (h0 : kd d 0 = 0) (he : enT d a) (h : nmd d a nb n = true) : im_at d a ≠ 0 := by
  unfold nmd at h
  rw [Bool.and_eq_true, decide_eq_true_iff, im_at_in d (by omega)] at h
  rw [im_at_in d (by omega)]
  rcases he with g | g
  · have := g 1 (by omega) (by omega); omega
  · intro w; rw [w] at g; exact g h0
theorem rfs_ex (hn : 1 ≤ n) (h0 : kd d 0 = 0) : ∀ (f : Nat) (e : Int), (∀ q : Int, e ≤ q → q < e + f → (0 ≤ ep d i q ∧ ep d i q + 16 ≤ 4096) ∧ enT d (ep d i q)) → (rfs d i nb n f e = -1 ∧ ∀ q : Int, e ≤ q → q < e + f → nmd d (ep d i q) nb n = false) ∨ ∃ q : Int, e ≤ q ∧ q < e + f ∧ rfs d i nb n f e = q ∧ fM d i nb n e q
  | 0, e, h => Or.inl ⟨rfl, fun q h1 h2 => by omega⟩
  | f + 1, e, h => by
    rw [rfs]
    cases z : nmd d (ep d i e) nb n with
    | true =>
      have g := h e (by omega) (by omega)
      rw [if_pos ⟨nmd_n0 hn g.1 h0 g.2 z, rfl⟩]; exact Or.inr ⟨e, by omega, by omega, rfl, z, fun x a b => by omega⟩
    | false =>
      rw [if_neg (fun w => by cases w.2)]
      rcases rfs_ex hn h0 f (e + 1) (fun q a b => h q (by omega) (by omega)) with ⟨h1, h2⟩ | ⟨q, h1, h2, h3, h4, h5⟩
      · refine Or.inl ⟨h1, fun q a b => ?_⟩
        by_cases w : q = e
        · rw [w]; exact z
        · exact h2 q (by omega) (by omega)
      · refine Or.inr ⟨q, by omega, by omega, h3, h4, fun x a b => ?_⟩
        by_cases w : x = e
        · rw [w]; exact z
        · exact h5 x (by omega) b
theorem fM_u {e q r : Int} (h : fM d i nb n e q) (g : fM d i nb n e r) (hq : e ≤ q) (hr : e ≤ r) : q = r := by
  rcases Int.lt_trichotomy q r with w | w | w
  · have := g.2 q hq w; rw [h.1] at this; cases this
  · exact w
  · have := h.2 r hr w; rw [g.1] at this; cases this
theorem sk_sks (h : WF tm d) (hi : drI d i) (hn : 1 ≤ n) : sk d i nb n = sks d i nb n (sz d i / 16 - 2).toNat 2 := by
  unfold sk; rw [if_neg (by omega), h.ecE hi]
/-- both look for a name, and find it at the same place -/
theorem sk_rfs (h : WF tm d) (hi : drI d i) (hn : 1 ≤ n) (ht : TY d i (sz d i / 16)) : (sk d i nb n = -1 ∧ rfs d i nb n (sz d i / 16 - 2).toNat 2 = -1) ∨ ∃ q : Int, 2 ≤ q ∧ q < sz d i / 16 ∧ sk d i nb n = ep d i q ∧ rfs d i nb n (sz d i / 16 - 2).toNat 2 = q ∧ nmd d (ep d i q) nb n = true := by
  rw [sk_sks h hi hn]
  have s := h.szE hi
  have hr : ∀ q : Int, 2 ≤ q → q < 2 + ((sz d i / 16 - 2).toNat : Int) → (0 ≤ ep d i q ∧ ep d i q + 16 ≤ 4096) ∧ enT d (ep d i q) := fun q a b => by
    have := h.ep_rgE hi (p := q) (by omega) (by omega)
    exact ⟨by omega, ht q a (by omega)⟩
  rcases sks_ex (d := d) (i := i) (nb := nb) (n := n) (sz d i / 16 - 2).toNat 2 (fun q a b => by have := (hr q a b).1; omega) with ⟨h1, h2⟩ | ⟨q, h1, h2, h3, h4⟩
  · rcases rfs_ex (d := d) (i := i) (nb := nb) hn h.k0 (sz d i / 16 - 2).toNat 2 hr with ⟨g1, g2⟩ | ⟨r, g1, g2, g3, g4⟩
    · exact Or.inl ⟨h1, g1⟩
    · have := h2 r g1 g2; rw [g4.1] at this; cases this
  · rcases rfs_ex (d := d) (i := i) (nb := nb) hn h.k0 (sz d i / 16 - 2).toNat 2 hr with ⟨g1, g2⟩ | ⟨r, g1, g2, g3, g4⟩
    · have := g2 q h1 h2; rw [h4.1] at this; cases this
    · have e := fM_u h4 g4 h1 g1
      subst e
      exact Or.inr ⟨q, h1, by omega, h3, g3, h4.1⟩
end SKS
