/-! PASS 3: CONNECTING -/
section GT
variable {tm : Int64}
theorem gts_inv : ∀ (f : Nat) (e : Int) (h dr : Int) (s : CS), GI tm h s → drI s.1 dr → 2 ≤ e → e + f ≤ sz s.1 dr / 16 → GI tm h (gts dr f e s) ∧ (∀ j : Int, kd (gts dr f e s).1 j = kd s.1 j) ∧ (∀ j : Int, 0 ≤ j → j < 32 → rbt s.2.1 j = true → rbt (gts dr f e s).2.1 j = true)
  | 0, e, h, dr, s, g, _, _, _ => ⟨g, fun _ => rfl, fun _ _ _ w => w⟩
  | f + 1, e, h, dr, s, g, hd, he, hb => by
    rw [gts]
    have g2 := fo_GI g hd he (by omega)
    have k2 := fo_kd g hd he (by omega)
    obtain ⟨a1, a2, a3⟩ := gts_inv f (e + 1) h dr _ g2 (fo_dr g hd he (by omega)) (by omega) (by rw [fo_sz g hd he (by omega)]; omega)
    refine ⟨a1, fun j => by rw [a2, k2], fun j b1 b2 b3 => a3 j b1 b2 ?_⟩
    unfold fol
    split
    · exact b3
    · split
      · exact b3
      · next c2 =>
        have := kd_R c2
        show rbt (rset s.2.1 _) j = true
        rw [rbt_rset _ this ⟨b1, b2⟩, b3]; rfl
theorem gto_inv : ∀ (f : Nat) (h : Int) (s : CS), GI tm h s → (∀ j : Int, kd (gto f h s).2.1 j = kd s.1 j) ∧ (∀ j : Int, 0 ≤ j → j < 32 → rbt s.2.1 j = true → rbt (gto f h s).2.2.1 j = true)
  | 0, h, s, g => ⟨fun _ => rfl, fun _ _ _ w => w⟩
  | f + 1, h, s, g => by
    have T := g.T
    rw [gto]
    by_cases c : h < s.2.2.2
    · rw [if_pos c]
      have dr := g.Q h (by omega) c
      have sz9 := g.W.szE dr
      have ec9 := g.W.ecE dr
      obtain ⟨a1, a2, a3⟩ := gts_inv (ec s.1 (s.2.2.1.1 h) - 2).toNat 2 h (s.2.2.1.1 h) s g dr (by omega) (by omega)
      have a4 : GI tm (h + 1) (gts (s.2.2.1.1 h) (ec s.1 (s.2.2.1.1 h) - 2).toNat 2 s) := by
        obtain ⟨b1, b2, b3⟩ := gts_inv (ec s.1 (s.2.2.1.1 h) - 2).toNat 2 (h + 1) (s.2.2.1.1 h) s (g.hh (by omega) (by omega)) dr (by omega) (by omega)
        exact b1
      obtain ⟨c1, c2⟩ := gto_inv f (h + 1) _ a4
      exact ⟨fun j => by rw [c1, a2], fun j b1 b2 b3 => c2 j b1 b2 (a3 j b1 b2 b3)⟩
    · rw [if_neg c]; exact ⟨fun _ => rfl, fun _ _ _ w => w⟩
theorem rbt_0 (j : Int) : rbt (iI 0) j = false := by
  unfold rbt
  show (0#32).getLsbD j.toNat = false
  simp
/-- the state at the start: the root is reached -/
abbrev cs0 (d q : Im) : CS := (d, rset (iI 0) 1, rhQ d q 0 1, rhT d 0 1)
theorem cs0_GI {d q : Im} (W : WF tm d) (D : DE d) (hk : kd d 1 = 2) : GI tm 0 (cs0 d q) :=
  rh_GI (h := 0) (t := 0) (r := iI 0) W D ⟨by omega, by omega, (cnb_le _ 32).1⟩ (fun j a b => by omega) (fun j a b c => by rw [rbt_0] at c; cases c) (by omega) (fun _ => rbt_0 1)
theorem co0_E {d q : Im} (hk : kd d 1 = 2) : co0 d q = goF 0 (cs0 d q) := by
  unfold co0; rw [if_neg (by omega)]
/-- lost and found is reached at once -/
theorem co0_2 {d q : Im} (W : WF tm d) (D : DE d) (hk : kd d 1 = 2) (hl : kd d 2 ≠ 0 → d.1 (ep d 1 2) = 2) : (∀ j : Int, kd (goF 0 (cs0 d q)).2.1 j = kd d j) ∧ (kd d 2 ≠ 0 → rbt (goF 0 (cs0 d q)).2.2.1 2 = true) := by
  have g := cs0_GI (q := q) W D hk
  have i0 := gto_inv 32 0 _ g
  refine ⟨i0.1, fun h2 => ?_⟩
  have dr : drI d 1 := ⟨by omega, by omega, hk⟩
  have s := W.szE dr
  have er := W.ep_rgE dr (p := 2) (by omega) (by omega)
  have x : rhX d 0 1 := ⟨hk, by omega, by omega⟩
  have eQ : rhQ d q 0 1 = up q 0 1 := by unfold rhQ; rw [if_pos x]
  have eT : rhT d 0 1 = 1 := by unfold rhT; rw [if_pos x]; rfl
  have q0 : (cs0 d q).2.2.1.1 0 = 1 := by show (rhQ d q 0 1).1 0 = 1; rw [eQ]; rfl
  have t0 : (0 : Int) < (cs0 d q).2.2.2 := by show 0 < rhT d 0 1; rw [eT]; omega
  show rbt (gto 32 0 (cs0 d q)).2.2.1 2 = true
  rw [show (32 : Nat) = 31 + 1 from rfl, gto, if_pos t0, q0]
  have e0 : (cs0 d q).1 = d := rfl
  have ecE := W.ecE dr
  have g1 := g.hh (h' := 0 + 1) (by omega) (by omega)
  have dr0 : drI (cs0 d q).1 1 := dr
  obtain ⟨a1, a2, a3⟩ := gts_inv (ec (cs0 d q).1 1 - 2).toNat 2 (0 + 1) 1 (cs0 d q) g1 dr0 (by omega) (by rw [e0, ecE]; omega)
  refine (gto_inv 31 (0 + 1) _ a1).2 2 (by omega) (by omega) ?_
  have en : (ec (cs0 d q).1 1 - 2).toNat = (ec d 1 - 3).toNat + 1 := by rw [e0]; omega
  rw [en, gts, e0]
  have ef : fol (cs0 d q) 1 (ep d 1 2) = fol (cs0 d q) 1 (ep (cs0 d q).1 1 2) := rfl
  obtain ⟨b1, b2, b3⟩ := gts_inv (ec d 1 - 3).toNat (2 + 1) (0 + 1) 1 (fol (cs0 d q) 1 (ep d 1 2)) (fo_GI g1 dr0 (by omega) (by rw [e0]; omega)) (fo_dr g1 dr0 (by omega) (by rw [e0]; omega)) (by omega) (by
    have := fo_sz g1 dr0 (e := 2) (by omega) (by rw [e0]; omega) 1
    rw [ef, this, e0]; omega)
  refine b3 2 (by omega) (by omega) ?_
  have v2 := hl h2
  have vi : im_at (cs0 d q).1 (ep d 1 2) = 2 := by rw [im_at_in _ (by omega)]; exact v2
  unfold fol
  rw [vi]
  by_cases c : kd (cs0 d q).1 2 = 2 ∧ rbt (cs0 d q).2.1 2 = true
  · rw [if_pos c]; exact c.2
  · rw [if_neg c, if_neg h2]
    show rbt (rset (rset (iI 0) 1) 2) 2 = true
    rw [rbt_rset _ (by omega) (by omega), decide_eq_true rfl, Bool.or_true]
end GT
/-- what is kept while connecting -/
def CI (t : CT) : Prop := GI t.1 t.2.1 t.2.2.1 ∧ t.2.1 = t.2.2.1.2.2.2 ∧ (kd t.2.2.1.1 2 ≠ 0 → rbt t.2.2.1.2.1 2 = true)
section CI
variable {t : CT} {i : Int}
theorem CI.G (c : CI t) : GI t.1 t.2.1 t.2.2.1 := c.1
theorem CI.lost (c : CI t) (h : rbt t.2.2.1.2.1 2 = true) : kd t.2.2.1.1 2 ≠ 0 := c.1.K 2 (by omega) (by omega) h
theorem CI.drop {x : Int64} {y : Im} (c : CI t) (u : Im) (v : Int) (hi : 1 ≤ i ∧ i < 32) (hr : rbt t.2.2.1.2.1 i = false) (hk : kd t.2.2.1.1 i ≠ 0) (hy : ∀ j : Int, kd y j = kd t.2.2.1.1 j) (W : WF (erT x y i) (wed i 31 1 (im_wipe y (512 + i * 16) 16))) (D : DE (wed i 31 1 (im_wipe y (512 + i * 16) 16))) (K : ∀ j : Int, kd (wed i 31 1 (im_wipe y (512 + i * 16) 16)) j = kd (wI y i) j) : CI (erT x y i, t.2.1, (wed i 31 1 (im_wipe y (512 + i * 16) 16), t.2.2.1.2.1, t.2.2.1.2.2.1, t.2.2.1.2.2.2), u, v) := by
  generalize wed i 31 1 (im_wipe y (512 + i * 16) 16) = z9 at W D K ⊢
  have T := c.1.T
  have kn : ∀ j : Int, inR j → j ≠ i → kd z9 j = kd t.2.2.1.1 j := fun j a b => by rw [K, wI_ne y (by omega) a b, hy]
  have ne : ∀ j : Int, rbt t.2.2.1.2.1 j = true → j ≠ i := fun j w e => by rw [e, hr] at w; cases w
  refine ⟨⟨W, D, ⟨T.1, T.2.1, T.2.2.1⟩, fun j a b => ?_, fun j a b w => ?_⟩, c.2.1, fun w => ?_⟩
  · have a2 : t.2.1 ≤ j := a
    have b2 : j < t.2.2.1.2.2.2 := b
    have := c.2.1
    omega
  · rw [kn j ⟨a, b⟩ (ne j w)]; exact c.1.K j a b w
  · by_cases e : (2 : Int) = i
    · exfalso
      have w2 : kd z9 2 ≠ 0 := w
      rw [K, e, wI_kd y (by omega)] at w2
      exact w2 rfl
    · refine c.2.2 ?_
      have w2 : kd z9 2 ≠ 0 := w
      rwa [kn 2 (by omega) e] at w2
end CI
