/-! PASS 2, PLACE BY PLACE -/
theorem dots_iff (nb : Im) : ∀ m : Nat, nm_dots nb m = m ↔ ∀ j : Int, 0 ≤ j → j < m → nb.1 j = 46
  | 0 => by simp only [nm_dots]; exact ⟨fun _ j a b => by omega, fun _ => rfl⟩
  | m + 1 => by
    have r := nm_dots_rg nb m
    have ih := dots_iff nb m
    rw [nm_dots]
    constructor
    · intro h j a b
      by_cases e : nb.1 m = 46
      · rw [if_pos e] at h
        by_cases w : j = m
        · rw [w]; exact e
        · exact ih.mp (by omega) j a (by omega)
      · rw [if_neg e] at h; omega
    · intro h
      rw [if_pos (h m (by omega) (by omega)), ih.mpr (fun j a b => h j a (by omega))]; omega
theorem ok_iff (nb : Im) {n : Int} (hn : 0 ≤ n) : nm_ok nb n = true ↔ (∀ j : Int, 0 ≤ j → j < n → nb.1 j ≠ 0 ∧ nb.1 j ≠ 47) ∧ ¬ (n < 3 ∧ ∀ j : Int, 0 ≤ j → j < n → nb.1 j = 46) := by
  unfold nm_ok
  have h1 := nm_good_iff nb n.toNat
  have h2 := dots_iff nb n.toNat
  have r := nm_dots_rg nb n.toNat
  rw [Int.toNat_of_nonneg hn] at h1 h2 r
  rw [Bool.and_eq_true, decide_eq_true_iff, h1, ← h2]
  refine and_congr Iff.rfl ?_
  omega
theorem al_s {P : Int → Prop} {g g' k : Int} (h : g = 1 ↔ ∀ j : Int, 0 ≤ j → j < k → P j) (hk : 0 ≤ k) (e : g' = 1 ↔ g = 1 ∧ P k) : g' = 1 ↔ ∀ j : Int, 0 ≤ j → j < k + 1 → P j := by
  rw [e, h]
  constructor
  · rintro ⟨h1, h2⟩ j a b
    by_cases w : j = k
    · rw [w]; exact h2
    · exact h1 j a (by omega)
  · intro h1
    exact ⟨fun j a b => h1 j a (by omega), h1 k hk (by omega)⟩
theorem al_s2 {Q : Prop} {P : Int → Prop} {g g' k : Int} (h : g = 1 ↔ Q ∧ ∀ j : Int, 0 ≤ j → j < k → P j) (hk : 0 ≤ k) (e : g' = 1 ↔ g = 1 ∧ P k) : g' = 1 ↔ Q ∧ ∀ j : Int, 0 ≤ j → j < k + 1 → P j := by
  rw [e, h]
  constructor
  · rintro ⟨⟨h0, h1⟩, h2⟩
    refine ⟨h0, fun j a b => ?_⟩
    by_cases w : j = k
    · rw [w]; exact h2
    · exact h1 j a (by omega)
  · rintro ⟨h0, h1⟩
    exact ⟨⟨h0, fun j a b => h1 j a (by omega)⟩, h1 k hk (by omega)⟩
/-- isValid of the reference -/
def rvB (d : Im) (i p : Int) : Bool := if vaX d (ep d i p) then false else im_blank d (ep d i p + 2 + im_at d (ep d i p + 1)) (14 - im_at d (ep d i p + 1)) && (nm_ok (nm_ld zIm d (ep d i p + 2) (im_at d (ep d i p + 1)).toNat) (im_at d (ep d i p + 1)) && decide (rfs d i (nm_ld zIm d (ep d i p + 2) (im_at d (ep d i p + 1)).toNat) (im_at d (ep d i p + 1)) (p - 2).toNat 2 = -1))
theorem rv_x {d : Im} {i p : Int} (h : vaX d (ep d i p)) : rvB d i p = false := by unfold rvB; rw [if_pos h]
theorem vaX_iff {d : Im} {a : Int} (ha : 0 ≤ a ∧ a ≤ 4080) : vaX d a ↔ (d.1 a < 3 ∨ 32 ≤ d.1 a ∨ kd d (d.1 a) = 0 ∨ im_at d (a + 1) < 1 ∨ 14 < im_at d (a + 1)) := by
  unfold vaX
  rw [im_at_in d (by omega)]
  by_cases h : inR (d.1 a)
  · omega
  · have : kd d (d.1 a) = 0 := by unfold kd; rw [if_neg h]
    omega
theorem rv_x2 {d : Im} {i p : Int} (ha : 0 ≤ ep d i p ∧ ep d i p ≤ 4080) (h : d.1 (ep d i p) < 3 ∨ 32 ≤ d.1 (ep d i p) ∨ kd d (d.1 (ep d i p)) = 0 ∨ im_at d (ep d i p + 1) < 1 ∨ 14 < im_at d (ep d i p + 1)) : rvB d i p = false := rv_x ((vaX_iff ha).mpr h)
theorem rv_b {d : Im} {i p : Int} (h : im_blank d (ep d i p + 2 + im_at d (ep d i p + 1)) (14 - im_at d (ep d i p + 1)) = false) : rvB d i p = false := by
  unfold rvB; rw [h]; split <;> rfl
/-- the name loaded from an entry -/
abbrev ldZ (d : Im) (a : Int) : Im := nm_ld zIm d (a + 2) (im_at d (a + 1)).toNat
theorem ld_nE {d nb : Im} {a n : Int} (ha : 0 ≤ a ∧ a ≤ 4080) (hn : n = im_at d (a + 1)) (h14 : n ≤ 14) (h : ∀ j : Int, 0 ≤ j → j < n → nb.1 j = d.1 (a + 2 + j)) : nmE nb (ldZ d a) n := fun j h1 h2 => by
  rw [ld_at, if_pos (by omega), h j h1 h2, im_at_in d (by omega)]
theorem rv_e {d nb : Im} {i p g t : Int} (h : ¬ vaX d (ep d i p)) (ha : 0 ≤ ep d i p ∧ ep d i p ≤ 4080) (hb : im_blank d (ep d i p + 2 + im_at d (ep d i p + 1)) (14 - im_at d (ep d i p + 1)) = true) (hnb : ∀ j : Int, 0 ≤ j → j < im_at d (ep d i p + 1) → nb.1 j = d.1 (ep d i p + 2 + j)) (hg : g = 1 ↔ ∀ j : Int, 0 ≤ j → j < im_at d (ep d i p + 1) → (d.1 (ep d i p + 2 + j) ≠ 0 ∧ d.1 (ep d i p + 2 + j) ≠ 47)) (ht : t = 1 ↔ im_at d (ep d i p + 1) < 3 ∧ ∀ j : Int, 0 ≤ j → j < im_at d (ep d i p + 1) → d.1 (ep d i p + 2 + j) = 46) : rvB d i p = decide (g = 1 ∧ ¬ t = 1 ∧ rfs d i nb (im_at d (ep d i p + 1)) (p - 2).toNat 2 = -1) := by
  have r := im_at_rg d (ep d i p + 1)
  have e := ld_nE ha rfl (by unfold vaX at h; omega) hnb
  unfold rvB
  rw [if_neg h, hb, Bool.true_and, ← e.okE r.1, ← e.rfsE, Bool.eq_iff_iff, Bool.and_eq_true, decide_eq_true_iff, decide_eq_true_iff, ok_iff nb r.1, hg, ht, and_assoc]
  have q1 : (∀ j : Int, 0 ≤ j → j < im_at d (ep d i p + 1) → nb.1 j ≠ 0 ∧ nb.1 j ≠ 47) ↔ ∀ j : Int, 0 ≤ j → j < im_at d (ep d i p + 1) → (d.1 (ep d i p + 2 + j) ≠ 0 ∧ d.1 (ep d i p + 2 + j) ≠ 47) := ⟨fun w j a b => by rw [← hnb j a b]; exact w j a b, fun w j a b => by rw [hnb j a b]; exact w j a b⟩
  have q2 : (∀ j : Int, 0 ≤ j → j < im_at d (ep d i p + 1) → nb.1 j = 46) ↔ ∀ j : Int, 0 ≤ j → j < im_at d (ep d i p + 1) → d.1 (ep d i p + 2 + j) = 46 := ⟨fun w j a b => by rw [← hnb j a b]; exact w j a b, fun w j a b => by rw [hnb j a b]; exact w j a b⟩
  rw [q1, q2]
section RV
variable {tm : Int64} {d : Im} {i p : Int}
theorem nmd_ld (ha : 0 ≤ p ∧ p ≤ 4080) (h14 : im_at d (p + 1) ≤ 14) : nmd d p (ldZ d p) (im_at d (p + 1)) = true := by
  have r := im_at_rg d (p + 1)
  unfold nmd
  rw [Bool.and_eq_true, decide_eq_true_iff, nmk_iff]
  refine ⟨rfl, fun j a b => ?_⟩
  rw [nm_at_in _ (by omega), ld_at, if_pos (by omega)]
/-- where the entries before are tidy, both ask the same -/
theorem rv_va (h : WF tm d) (hi : drI d i) (hp : 2 ≤ p) (hb : p < sz d i / 16) (ht : TY d i p) : rvB d i p = vaB d zIm i (ep d i p) := by
  unfold rvB vaB
  by_cases x : vaX d (ep d i p)
  · rw [if_pos x, if_pos x]
  · rw [if_neg x, if_neg x]
    congr 2
    have er := h.ep_rgE hi (p := p) (by omega) hb
    have s := h.szE hi
    have x2 := x
    unfold vaX at x2
    have m := nmd_ld (d := d) (p := ep d i p) (by omega) (by omega)
    rw [sk_sks h hi (by omega), decide_eq_decide]
    have hr : ∀ q : Int, 2 ≤ q → q < 2 + ((p - 2).toNat : Int) → (0 ≤ ep d i q ∧ ep d i q + 16 ≤ 4096) ∧ enT d (ep d i q) := fun q a b => by
      have := h.ep_rgE hi (p := q) (by omega) (by omega)
      exact ⟨by omega, ht q a (by omega)⟩
    rcases sks_ex (d := d) (i := i) (nb := ldZ d (ep d i p)) (n := im_at d (ep d i p + 1)) (sz d i / 16 - 2).toNat 2 (fun q a b => by have := h.ep_rgE hi (p := q) (by omega) (by omega); omega) with ⟨h1, h2⟩ | ⟨q, h1, h2, h3, h4⟩
    · have := h2 p hp (by omega); rw [m] at this; cases this
    · rw [h3]
      rcases rfs_ex (d := d) (i := i) (nb := ldZ d (ep d i p)) (n := im_at d (ep d i p + 1)) (by omega) h.k0 (p - 2).toNat 2 hr with ⟨g1, g2⟩ | ⟨r, g1, g2, g3, g4⟩
      · rw [g1]
        refine ⟨fun _ => ?_, fun _ => rfl⟩
        have : fM d i (ldZ d (ep d i p)) (im_at d (ep d i p + 1)) 2 p := ⟨m, fun z a b => g2 z a (by omega)⟩
        rw [fM_u h4 this h1 hp]
      · rw [g3]
        refine ⟨fun e => by omega, fun e => ?_⟩
        have e2 := fM_u h4 g4 h1 g1
        subst e2
        have := h.ep_inj hi hi (p := q) (q := p) (by omega) (by omega) (by omega) hb (by omega)
        omega
/-- one place of a directory -/
def plS (i p : Int) (d : Im) : Im := if p < 2 then we d (ep d i p) i (dotN zIm 2) (p + 1) else if p = 2 ∧ i = 1 ∧ kd d 2 ≠ 0 then we d (ep d i p) 2 (lstN zIm 10) 10 else if vaB d zIm i (ep d i p) = true then d else im_wipe d (ep d i p) 16
def tpl (i : Int) : Nat → Int → Im → Im
  | 0, _, d => d
  | f + 1, p, d => tpl i f (p + 1) (plS i p d)
def tpD (i : Int) (d : Im) : Im := if kd d i = 2 then tpl i (sz d i / 16).toNat 0 d else d
def tdr : Nat → Int → Im → Im
  | 0, _, d => d
  | f + 1, i, d => tdr f (i + 1) (tpD i d)
theorem plS_cg (h : WF tm d) (hi : drI d i) (hp : 0 ≤ p) (hb : p < sz d i / 16) : cgE d (plS i p d) (ep d i p) := by
  have er := h.ep_rgE hi hp hb
  unfold plS
  split
  · exact we_cg d _ (by omega) (by omega) (by omega)
  · split
    · exact we_cg d _ (by omega) (by omega) (by omega)
    · split
      · exact cgE.rf _ _
      · exact wp_cg d (by omega)
theorem plS_en (h : WF tm d) (hi : drI d i) (hp : 2 ≤ p) (hb : p < sz d i / 16) : enT (plS i p d) (ep d i p) := by
  have er := h.ep_rgE hi (p := p) (by omega) hb
  have k := cg_kd h hi (by omega) hb (plS_cg h hi (by omega) hb)
  unfold enT
  rw [k]
  unfold plS
  rw [if_neg (by omega)]
  split
  · next q =>
    right
    rw [we_at d _ (by omega) (by omega) (by omega), if_pos (by omega), if_pos rfl]
    exact q.2.2
  · split
    · next q =>
      right
      intro e
      have : vaX d (ep d i p) := Or.inr (Or.inl (by rw [im_at_in d (by omega)]; exact e))
      unfold vaB at q
      rw [if_pos this] at q; cases q
    · left
      intro j a b
      exact wipe_in d (by unfold rgP; omega) (by omega)
theorem cg_enT {e : Im} {j q : Int} (h : WF tm d) (hi : drI d i) (hp : 0 ≤ p) (hb : p < sz d i / 16) (hc : cgE d e (ep d i p)) (hj : drI d j) (hq : 0 ≤ q) (hs : q < sz d j / 16) (hn : ¬ (i = j ∧ p = q)) (ht : enT d (ep d j q)) : enT e (ep d j q) := by
  have f := fun x hx => cg_en h hi hp hb hc hj hq hs (x := x) hx hn
  unfold enT
  rw [cg_kd h hi hp hb hc]
  have f0 := f 0 (by omega)
  rw [show ep d j q + 0 = ep d j q by omega] at f0
  rw [f0]
  rcases ht with g | g
  · left; intro x a b; rw [f x ⟨a, b⟩]; exact g x a b
  · exact Or.inr g
theorem cg_drI {e : Im} {j : Int} (h : WF tm d) (hi : drI d i) (hp : 0 ≤ p) (hb : p < sz d i / 16) (hc : cgE d e (ep d i p)) (hj : drI d j) : drI e j := ⟨hj.1, hj.2.1, by rw [cg_kd h hi hp hb hc]; exact hj.2.2⟩
theorem TY_s (h : WF tm d) (hi : drI d i) (hp : 0 ≤ p) (hb : p < sz d i / 16) (ht : TY d i p) : TY (plS i p d) i (p + 1) := by
  have c := plS_cg h hi hp hb
  intro q a b
  rw [cg_ep h hi hp hb c hi (by omega) (by omega)]
  by_cases e : q = p
  · subst e; exact plS_en h hi a hb
  · exact cg_enT h hi hp hb c hi (by omega) (by omega) (by omega) (ht q a (by omega))
/-- directories are tidy: all but j .. -/
def DEn (d : Im) (n : Int) : Prop := ∀ i : Int, drI d i → i < n → TY d i (sz d i / 16)
abbrev DE (d : Im) : Prop := DEn d 32
theorem DEn_s {n : Int} (h : WF tm d) (hi : drI d i) (hp : 0 ≤ p) (hb : p < sz d i / 16) (hn : n ≤ i) (ht : DEn d n) : DEn (plS i p d) n := by
  have c := plS_cg h hi hp hb
  intro j hj hjn q a b
  have hj2 : drI d j := ⟨hj.1, hj.2.1, by rw [← cg_kd h hi hp hb c]; exact hj.2.2⟩
  rw [cg_sz h hi hp hb c] at b
  rw [cg_ep h hi hp hb c hj2 (by omega) b]
  exact cg_enT h hi hp hb c hj2 (by omega) b (by omega) (ht j hj2 hjn q a b)
theorem DEn_n (h : DEn d i) (ht : TY d i p) (hp : sz d i / 16 ≤ p) : DEn d (i + 1) := fun j hj hn q a b => by
  by_cases e : j = i
  · subst e; exact ht q a (by omega)
  · exact h j hj (by omega) q a b
theorem DEn_k (h : DEn d i) (hk : ¬ kd d i = 2) : DEn d (i + 1) := fun j hj hn => by
  by_cases e : j = i
  · subst e; exact absurd hj.2.2 hk
  · exact h j hj (by omega)
theorem pl_dots (nb : Im) (hp : 0 ≤ p ∧ p < 2) : plS i p d = we d (ep d i p) i (dotN nb (p + 1).toNat) (p + 1) := by
  unfold plS
  rw [if_pos hp.2]
  exact nmE.weE (fun j a b => by rw [dot_at, dot_at, if_pos (by omega), if_pos (by omega)]) _ _ _
theorem pl_lost (nb : Im) (hp : p = 2) (hi : i = 1) (hk : 0 < kd d 2) : plS i p d = we d (ep d i p) 2 (lstN nb 10) 10 := by
  unfold plS
  rw [if_neg (by omega), if_pos ⟨hp, hi, by omega⟩]
  exact nmE.weE (fun j a b => by rw [lst_at _ (tx_all (by omega)), lst_at _ (tx_all (by omega)), if_pos (by omega), if_pos (by omega)]) _ _ _
theorem pl_val (h : WF tm d) (hi : drI d i) (hp : 2 ≤ p) (hb : p < sz d i / 16) (ht : TY d i p) (hl : ¬ (p = 2 ∧ i = 1 ∧ kd d 2 ≠ 0)) (hv : rvB d i p = true) : plS i p d = d := by
  unfold plS
  rw [if_neg (by omega), if_neg hl, ← rv_va h hi hp hb ht, if_pos hv]
theorem pl_wipe (h : WF tm d) (hi : drI d i) (hp : 2 ≤ p) (hb : p < sz d i / 16) (ht : TY d i p) (hl : ¬ (p = 2 ∧ i = 1 ∧ kd d 2 ≠ 0)) (hv : rvB d i p = false) : plS i p d = im_wipe d (ep d i p) 16 := by
  unfold plS
  rw [if_neg (by omega), if_neg hl, ← rv_va h hi hp hb ht, if_neg (by rw [hv]; decide)]
end RV
