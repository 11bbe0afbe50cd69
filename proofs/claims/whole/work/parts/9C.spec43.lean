/-! THE WRITER: AN ENTRY TAKEN OUT -/
section CW
variable {tm : Int64} {d : Im} {D0 p0 v : Int}
theorem wp_at (h : WF tm d) (h0 : drI d D0) (hp : 0 ≤ p0) (hb : p0 < sz d D0 / 16) {D p : Int} (hD : drI d D) (h1 : 0 ≤ p) (h2 : p < sz d D / 16) : im_at (im_wipe d (ep d D0 p0) 16) (ep (im_wipe d (ep d D0 p0) 16) D p) = if D0 = D ∧ p0 = p then 0 else im_at d (ep d D p) := by
  have er := h.ep_rgE h0 hp hb
  have er2 := h.ep_rgE hD h1 h2
  have c := wp_cg d (p := ep d D0 p0) (by omega)
  rw [cg_ep h h0 hp hb c hD h1 h2, im_at_in _ (by omega), im_at_in _ (by omega)]
  by_cases e : D0 = D ∧ p0 = p
  · obtain ⟨rfl, rfl⟩ := e
    rw [if_pos ⟨rfl, rfl⟩]; exact wipe_in d (by unfold rgP; omega) (by omega)
  · rw [if_neg e]
    have := cg_en h h0 hp hb c hD h1 h2 (x := 0) (by omega) e
    rwa [show ep d D p + 0 = ep d D p by omega] at this
theorem ct1_w (h : WF tm d) (h0 : drI d D0) (hp : 0 ≤ p0) (hb : p0 < sz d D0 / 16) (hv : im_at d (ep d D0 p0) = v) (v0 : v ≠ 0) {D : Int} (hD : drI d D) : ∀ (f : Nat) (p : Int), 0 ≤ p → p + f ≤ sz d D / 16 → ct1 (im_wipe d (ep d D0 p0) 16) v D f p = ct1 d v D f p - (if D0 = D ∧ p ≤ p0 ∧ p0 < p + f then 1 else 0)
  | 0, p, _, _ => by rw [ct1, ct1, if_neg (by omega)]; rfl
  | f + 1, p, h1, h2 => by
    rw [ct1, ct1, wp_at h h0 hp hb hD h1 (by omega), ct1_w h h0 hp hb hv v0 hD f (p + 1) (by omega) (by omega)]
    by_cases e : D0 = D ∧ p0 = p
    · obtain ⟨rfl, rfl⟩ := e
      rw [if_pos (show D0 = D0 ∧ p0 = p0 from ⟨rfl, rfl⟩), if_neg (show ¬ (0 : Int) = v from fun z => v0 z.symm), if_neg (show ¬ (D0 = D0 ∧ p0 + 1 ≤ p0 ∧ p0 < p0 + 1 + (f : Int)) by omega), if_pos hv, if_pos (show D0 = D0 ∧ p0 ≤ p0 ∧ p0 < p0 + ((f + 1 : Nat) : Int) from ⟨rfl, by omega, by omega⟩)]; omega
    · rw [if_neg e]
      by_cases c : D0 = D ∧ p + 1 ≤ p0 ∧ p0 < p + 1 + f
      · rw [if_pos c, if_pos (show D0 = D ∧ p ≤ p0 ∧ p0 < p + ((f + 1 : Nat) : Int) from ⟨c.1, by omega, by omega⟩)]; omega
      · rw [if_neg c, if_neg (show ¬ (D0 = D ∧ p ≤ p0 ∧ p0 < p + ((f + 1 : Nat) : Int)) from fun z => c ⟨z.1, by have := z.2; have : p0 ≠ p := fun w => e ⟨z.1, w⟩; omega, by omega⟩)]; omega
theorem ctA_w (h : WF tm d) (h0 : drI d D0) (hp : 2 ≤ p0) (hb : p0 < sz d D0 / 16) (hv : im_at d (ep d D0 p0) = v) (v0 : v ≠ 0) : ∀ (f : Nat) (D : Int), 1 ≤ D → D + f ≤ 32 → ctA (im_wipe d (ep d D0 p0) 16) v f D = ctA d v f D - (if D ≤ D0 ∧ D0 < D + f then 1 else 0)
  | 0, D, _, _ => by rw [ctA, ctA, if_neg (by omega)]; rfl
  | f + 1, D, h1, h2 => by
    have er := h.ep_rgE h0 (p := p0) (by omega) hb
    have c := wp_cg d (p := ep d D0 p0) (by omega)
    have ce : cnt (im_wipe d (ep d D0 p0) 16) D = cnt d D := by unfold cnt; rw [cg_kd h h0 (by omega) hb c, cg_ec h h0 (by omega) hb c]
    rw [ctA, ctA, ce, ctA_w h h0 hp hb hv v0 f (D + 1) (by omega) (by omega)]
    by_cases k : kd d D = 2
    · have hD : drI d D := ⟨h1, by omega, k⟩
      have s := h.szE hD
      have cc : cnt d D = sz d D / 16 := by unfold cnt; rw [if_pos k, h.ecE hD]
      rw [cc, ct1_w h h0 (by omega) hb hv v0 hD _ 2 (by omega) (by omega)]
      by_cases e : D0 = D
      · subst e
        rw [if_pos (by omega), if_neg (by omega), if_pos (by omega)]; omega
      · rw [if_neg (by omega)]
        by_cases g : D + 1 ≤ D0 ∧ D0 < D + 1 + f
        · rw [if_pos g, if_pos (by omega)]; omega
        · rw [if_neg g, if_neg (by omega)]; omega
    · have e : D0 ≠ D := fun z => k (by rw [← z]; exact h0.2.2)
      have cc : cnt d D = 0 := by unfold cnt; rw [if_neg k]
      rw [cc, show ((0 : Int) - 2).toNat = 0 from rfl, ct1, ct1]
      by_cases g : D + 1 ≤ D0 ∧ D0 < D + 1 + f
      · rw [if_pos g, if_pos (by omega)]; omega
      · rw [if_neg g, if_neg (by omega)]; omega
theorem wp_DR (h : WF tm d) (h0 : drI d D0) (hp : 0 ≤ p0) (hb : p0 < sz d D0 / 16) (R : DR d) : DR (im_wipe d (ep d D0 p0) 16) := by
  have er := h.ep_rgE h0 hp hb
  have c := wp_cg d (p := ep d D0 p0) (by omega)
  intro j hj q a b
  have hj2 : drI d j := ⟨hj.1, hj.2.1, by rw [← cg_kd h h0 hp hb c]; exact hj.2.2⟩
  rw [cg_sz h h0 hp hb c] at b
  have er2 := h.ep_rgE hj2 (p := q) (by omega) b
  have w := wp_at h h0 hp hb hj2 (p := q) (by omega) b
  rw [cg_ep h h0 hp hb c hj2 (by omega) b, im_at_in _ (by omega)] at w
  rw [cg_ep h h0 hp hb c hj2 (by omega) b, w]
  split
  · omega
  · rw [im_at_in _ (by omega)]; exact R j hj2 q a b
theorem wI_DR {i : Int} (h : WF tm d) (hi : inR i) (R : DR d) : DR (wI d i) := DR_fr (fun j hj => by
    have ne : j ≠ i := fun e => by have := hj.2.2; rw [e, wI_kd d hi] at this; omega
    have hj2 : drI d j := ⟨hj.1, hj.2.1, by rw [← wI_ne d hi (by have := hj.1; have := hj.2.1; omega) ne]; exact hj.2.2⟩
    have m := wI_sm h hi hj.1 hj.2.1 hj.2.1 (by have := hj2.2.2; omega) ne
    have s := h.szE hj2
    refine ⟨hj2, m.szE, fun q a b => ⟨m.epE (by omega) b s.2.1 s.2.2, ?_⟩⟩
    have er := h.ep_rgE hj2 (p := q) (by omega) b
    exact wipe_out d (wI_rg hi) (by omega)) R
end CW
theorem ctA_rg {tm : Int64} {d : Im} (h : WF tm d) (i : Int) : 0 ≤ ctA d i 31 1 ∧ ctA d i 31 1 < 256 := by
  have a := ctA_b h i 31 1 (by omega) (by omega)
  have b := tot_le h 31 1 (fun _ => false) (by omega) (by omega) (fun b w => by cases w)
  have c := cnb_le (fun _ => false) 64
  omega
def ulB (dk : Im) (i : Int) (x : Int64) : Bool := decide (ckZ dk = 0) && reB (plZ dk) i (nmZ x) (nlZ x)
def ulG (dk : Im) (i : Int) (x : Int64) : Im := if ulB dk i x = true then stD (reT (pzC dk).1 (plZ dk) i (nmZ x) (nlZ x)) (reD (plZ dk) i (nmZ x) (nlZ x)) else dk
section UL
variable {dk nb : Im} {i : Int} {x : Int64}
theorem ul_c (h : ¬ ckZ dk = 0) : ulB dk i x = false := by unfold ulB; rw [decide_eq_false h]; rfl
theorem ul_X (h : reX (plZ dk) i (nmZ x) (nlZ x)) : ulB dk i x = false := by
  unfold ulB reB; rw [decide_eq_false (show ¬ ¬ reX (plZ dk) i (nmZ x) (nlZ x) from fun z => z h), Bool.and_false]
theorem ul_k (h : ¬ kd (plZ dk) i = 2) : ulB dk i x = false := ul_X (Or.inl (by unfold reP; rw [if_neg h]))
theorem ul_0 : ulB dk i 0 = false := ul_X (Or.inl (by
  unfold reP nlZ
  rw [un_0]
  split
  · unfold sk; rw [if_pos rfl]
  · rfl))
/-- where the entry lies -/
theorem ul_p (P : PK dk) (hi : drI (plZ dk) i) (hx : x ≠ 0) : (reP (plZ dk) i (nmZ x) (nlZ x) = -1 ∧ rfs (plZ dk) i (nm_un nb x 8).1 (nm_un nb x 8).2 (sz (plZ dk) i / 16 - 2).toNat 2 = -1) ∨ ∃ q : Int, 2 ≤ q ∧ q < sz (plZ dk) i / 16 ∧ reP (plZ dk) i (nmZ x) (nlZ x) = ep (plZ dk) i q ∧ rfs (plZ dk) i (nm_un nb x 8).1 (nm_un nb x 8).2 (sz (plZ dk) i / 16 - 2).toNat 2 = q ∧ kd (plZ dk) ((plZ dk).1 (ep (plZ dk) i q)) ≠ 0 := by
  have u := un_E nb zIm x 8
  have p := un_pos nb hx
  have e2 : nmE (nm_un nb x 8).1 (nmZ x) (nm_un nb x 8).2 := by have := u.2; rwa [← u.1] at this
  have eP : reP (plZ dk) i (nmZ x) (nlZ x) = sk (plZ dk) i (nm_un nb x 8).1 (nm_un nb x 8).2 := by
    unfold reP nlZ; rw [if_pos hi.2.2, ← u.1, e2.skE]
  rw [eP]
  rcases sk_rfs (nb := (nm_un nb x 8).1) P.1 hi p (P.2.1 i hi hi.2.1) with h | ⟨q, h1, h2, h3, h4, h5⟩
  · exact Or.inl h
  · refine Or.inr ⟨q, h1, h2, h3, h4, ?_⟩
    have er := P.1.ep_rgE hi (p := q) (by omega) h2
    rcases P.2.1 i hi hi.2.1 q h1 h2 with g | g
    · exfalso
      unfold nmd at h5
      rw [Bool.and_eq_true, decide_eq_true_iff, im_at_in _ (by omega)] at h5
      have := g 1 (by omega) (by omega)
      omega
    · exact g
theorem ems_ex {d : Im} {j : Int} : ∀ (f : Nat) (e : Int), ems d j f e = true ∨ ems d j f e = false := fun f e => by cases ems d j f e <;> simp
/-- what is left behind it -/
theorem ul_t {q v : Int} (P : PK dk) (hc : ckZ dk = 0) (hi : drI (plZ dk) i) (hq : 2 ≤ q) (hb : q < sz (plZ dk) i / 16) (hP : reP (plZ dk) i (nmZ x) (nlZ x) = ep (plZ dk) i q) (hv : (plZ dk).1 (ep (plZ dk) i q) = v) (hk : kd (plZ dk) v ≠ 0) (hE : kd (plZ dk) v = 2 → emB (plZ dk) v = true) : ulB dk i x = true ∧ (kd (plZ dk) v = 2 ∨ ctA (im_wipe (plZ dk) (ep (plZ dk) i q) 16) v 31 1 = 0 → reT (pzC dk).1 (plZ dk) i (nmZ x) (nlZ x) = erT (pzC dk).1 (im_wipe (plZ dk) (ep (plZ dk) i q) 16) v ∧ reD (plZ dk) i (nmZ x) (nlZ x) = wI (im_wipe (plZ dk) (ep (plZ dk) i q) 16) v) ∧ (¬ kd (plZ dk) v = 2 → ¬ ctA (im_wipe (plZ dk) (ep (plZ dk) i q) 16) v 31 1 = 0 → reT (pzC dk).1 (plZ dk) i (nmZ x) (nlZ x) = (pzC dk).1 ∧ reD (plZ dk) i (nmZ x) (nlZ x) = im_wipe (plZ dk) (ep (plZ dk) i q) 16) := by
  have er := P.1.ep_rgE hi (p := q) (by omega) hb
  have vi : im_at (plZ dk) (ep (plZ dk) i q) = v := by rw [im_at_in _ (by omega)]; exact hv
  have eI : reI (plZ dk) i (nmZ x) (nlZ x) = v := by unfold reI; rw [hP]; exact vi
  have e1 : re1 (plZ dk) i (nmZ x) (nlZ x) = im_wipe (plZ dk) (ep (plZ dk) i q) 16 := by unfold re1; rw [hP]
  have vR := kd_R hk
  have v0 : v ≠ 0 := fun z => by rw [z, P.1.k0] at hk; exact hk rfl
  have k12 : kd (plZ dk) v = 1 ∨ kd (plZ dk) v = 2 := (P.1.ok v (by omega) (by omega) hk).1.1
  have nX : ¬ reX (plZ dk) i (nmZ x) (nlZ x) := fun z => by
    unfold reX at z
    rw [eI, hP] at z
    rcases z with z | ⟨z1, z2⟩
    · omega
    · rw [hE (by omega)] at z2; cases z2
  have cw := ctA_w P.1 hi hq hb vi v0 31 1 (by omega) (by omega)
  rw [if_pos (by have := hi.1; have := hi.2.1; omega)] at cw
  have lk1 : kd (plZ dk) v = 1 → lk (im_wipe (plZ dk) (ep (plZ dk) i q) 16) v = ctA (plZ dk) v 31 1 := fun k1 => by
    rw [← P.2.2 v (by omega) (by omega) k1]
    unfold lk
    rw [if_pos vR, if_pos vR]
    exact wipe_out _ (by unfold rgP; omega) (by omega)
  have eE : reE (plZ dk) i (nmZ x) (nlZ x) ↔ (kd (plZ dk) v = 2 ∨ ctA (im_wipe (plZ dk) (ep (plZ dk) i q) 16) v 31 1 = 0) := by
    unfold reE
    rw [eI, e1, cw]
    constructor
    · rintro (z | z)
      · exact Or.inl (by omega)
      · rcases k12 with k1 | k2
        · rw [lk1 k1] at z; exact Or.inr (by omega)
        · exact Or.inl k2
    · rintro (z | z)
      · exact Or.inl (by omega)
      · rcases k12 with k1 | k2
        · exact Or.inr (by rw [lk1 k1]; omega)
        · exact Or.inl (by omega)
  refine ⟨?_, fun z => ?_, fun z1 z2 => ?_⟩
  · unfold ulB reB; rw [decide_eq_true hc, decide_eq_true nX]; rfl
  · unfold reT reD
    rw [if_neg nX, if_neg nX, if_pos (eE.mpr z), if_pos (eE.mpr z), e1, eI]; exact ⟨rfl, rfl⟩
  · have nE : ¬ reE (plZ dk) i (nmZ x) (nlZ x) := fun w => (eE.mp w).elim z1 z2
    unfold reT reD
    rw [if_neg nX, if_neg nX, if_neg nE, if_neg nE, e1]; exact ⟨rfl, rfl⟩
theorem ul_e {v : Int} (hP : reP (plZ dk) i (nmZ x) (nlZ x) ≠ -1) (hv : reI (plZ dk) i (nmZ x) (nlZ x) = v) (hk : kd (plZ dk) v = 2) (hE : emB (plZ dk) v = false) : ulB dk i x = false := ul_X (Or.inr (by rw [hv]; exact ⟨by omega, hE⟩))
end UL
