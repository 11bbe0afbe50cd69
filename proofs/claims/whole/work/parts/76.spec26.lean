/-! PASS 3: NAMES FOR LOST AND FOUND, INODES DROPPED -/
theorem hash_at (nb : Im) : ∀ (m : Nat) (j : Int), (nm_hash nb m).1 j = if 0 ≤ j ∧ j < m then 35 else nb.1 j
  | 0, j => by rw [nm_hash, if_neg (by omega)]
  | m + 1, j => by
    rw [nm_hash, up_at]
    by_cases e : j = m
    · rw [if_pos e, if_pos (by omega)]; rfl
    · rw [if_neg e, hash_at nb m j]
      by_cases q : 0 ≤ j ∧ j < m
      · rw [if_pos q, if_pos (by omega)]
      · rw [if_neg q, if_neg (by omega)]
theorem nn_E (nb nc : Im) {m i : Int} (hm : 0 ≤ m) : nmE (nm_num nb m i) (nm_num nc m i) (m + 2) := fun j a b => by
  unfold nm_num
  rw [up_at, up_at, up_at, up_at, hash_at, hash_at]
  by_cases e1 : j = m + 1
  · rw [if_pos e1, if_pos e1]
  · rw [if_neg e1, if_neg e1]
    by_cases e2 : j = m
    · rw [if_pos e2, if_pos e2]
    · rw [if_neg e2, if_neg e2, if_pos (by omega), if_pos (by omega)]
theorem sk_rf {tm : Int64} {d : Im} {i n : Int} {nb : Im} (h : WF tm d) (hi : drI d i) (hn : 1 ≤ n) (D : DE d) : sk d i nb n = -1 ↔ rfs d i nb n (sz d i / 16 - 2).toNat 2 = -1 := by
  rcases sk_rfs (nb := nb) h hi hn (D i hi hi.2.1) with ⟨h1, h2⟩ | ⟨q, h1, h2, h3, h4, _⟩
  · rw [h1, h2]
  · have := h.ep_rgE hi (p := q) (by omega) h2
    rw [h3, h4]; constructor <;> intro w <;> omega
/-- the search for a name doesn't hang on what was in the hand before -/
theorem fns_E (d : Im) (i : Int) : ∀ (f : Nat) (m : Int) (nb nc : Im) (n n' : Int), 0 ≤ m → (fns d i f m nb n).1 = (fns d i f m nc n').1 ∧ ((fns d i f m nb n).1 = true → (fns d i f m nb n).2.2 = (fns d i f m nc n').2.2 ∧ nmE (fns d i f m nb n).2.1 (fns d i f m nc n').2.1 (fns d i f m nc n').2.2)
  | 0, m, nb, nc, n, n', _ => ⟨rfl, fun w => (by cases w)⟩
  | f + 1, m, nb, nc, n, n', hm => by
    have e := nn_E nb nc (i := i) hm
    rw [fns, fns, e.skE]
    by_cases c : sk d 2 (nm_num nc m i) (m + 2) = -1
    · rw [if_pos c, if_pos c]; exact ⟨rfl, fun _ => ⟨rfl, e⟩⟩
    · rw [if_neg c, if_neg c]; exact fns_E d i f (m + 1) _ _ _ _ (by omega)
section DROP
variable {tm : Int64} {x : Im} {i D P : Int}
/-- entries of i may be left from (D, P) on -/
def DW (i : Int) (x : Im) (D P : Int) : Prop := ∀ j : Int, drI x j → ∀ q : Int, 2 ≤ q → q < sz x j / 16 → enT x (ep x j q) ∨ (x.1 (ep x j q) = i ∧ (D < j ∨ (j = D ∧ P ≤ q)))
theorem DW_0 (h : WF tm x) (d : DE x) (h1 : 1 ≤ i) (h2 : i < 32) (h3 : kd x i ≠ 0) : DW i (wI x i) 0 0 := by
  have hR : inR i := by omega
  intro j hj q a b
  have hji : j ≠ i := fun e => by have := hj.2.2; rw [e, wI_kd x hR] at this; omega
  have hj2 : drI x j := ⟨hj.1, hj.2.1, by rw [← wI_ne x hR (by omega) hji]; exact hj.2.2⟩
  have sm := wI_sm h hR hj.1 hj.2.1 hj.2.1 (by have := hj2.2.2; omega) hji
  have s := h.szE hj2
  rw [sm.szE] at b
  rw [sm.epE (by omega) b s.2.1 s.2.2]
  have er := h.ep_rgE hj2 (p := q) (by omega) b
  have f : ∀ y : Int, 1024 ≤ y → (wI x i).1 y = x.1 y := fun y hy => wipe_out x (wI_rg hR) (by omega)
  rw [f _ er.1]
  rcases d j hj2 hj.2.1 q a b with g | g
  · exact Or.inl (Or.inl (fun z a1 a2 => by rw [f _ (by omega)]; exact g z a1 a2))
  · by_cases e : x.1 (ep x j q) = i
    · exact Or.inr ⟨e, Or.inl hj.1⟩
    · refine Or.inl (Or.inr ?_)
      rw [f _ er.1, wI_ne x hR (kd_R g) e]; exact g
theorem DW_n (h : DW i x D P) (hP : ¬ kd x D = 2 ∨ sz x D / 16 ≤ P) : DW i x (D + 1) 2 := fun j hj q a b => by
  rcases h j hj q a b with g | ⟨g1, g2⟩
  · exact Or.inl g
  · refine Or.inr ⟨g1, ?_⟩
    rcases g2 with g2 | ⟨g2, g3⟩
    · by_cases e : j = D + 1
      · exact Or.inr ⟨e, a⟩
      · exact Or.inl (by omega)
    · subst g2
      rcases hP with w | w
      · exact absurd hj.2.2 w
      · omega
/-- one place -/
def drS (i D P : Int) (x : Im) : Im := if im_at x (ep x D P) = i then im_wipe x (ep x D P) 16 else x
theorem drS_cg (h : WF tm x) (hD : drI x D) (hP : 0 ≤ P) (hb : P < sz x D / 16) : cgE x (drS i D P x) (ep x D P) := by
  have er := h.ep_rgE hD hP hb
  unfold drS
  split
  · exact wp_cg x (by omega)
  · exact cgE.rf _ _
theorem DW_s (h : WF tm x) (hD : drI x D) (hP : 2 ≤ P) (hb : P < sz x D / 16) (w : DW i x D P) : DW i (drS i D P x) D (P + 1) := by
  have er := h.ep_rgE hD (p := P) (by omega) hb
  have c := drS_cg (i := i) h hD (by omega) hb
  intro j hj q a b
  have hj2 : drI x j := ⟨hj.1, hj.2.1, by rw [← cg_kd h hD (by omega) hb c]; exact hj.2.2⟩
  rw [cg_sz h hD (by omega) hb c] at b
  rw [cg_ep h hD (by omega) hb c hj2 (by omega) b]
  by_cases e : D = j ∧ P = q
  · obtain ⟨rfl, rfl⟩ := e
    left
    by_cases z : im_at x (ep x D P) = i
    · left; intro y a1 a2; unfold drS; rw [if_pos z]; exact wipe_in _ (by unfold rgP; omega) (by omega)
    · have : drS i D P x = x := by unfold drS; rw [if_neg z]
      rw [this]
      rcases w D hD P hP hb with g | ⟨g1, g2⟩
      · exact g
      · rw [im_at_in x (by omega)] at z; exact absurd g1 z
  · have f0 := cg_en h hD (by omega) hb c hj2 (by omega) b (x := 0) (by omega) e
    rw [show ep x j q + 0 = ep x j q by omega] at f0
    rcases w j hj2 q a b with g | ⟨g1, g2⟩
    · exact Or.inl (cg_enT h hD (by omega) hb c hj2 (by omega) b e g)
    · exact Or.inr ⟨by rw [f0]; exact g1, by omega⟩
theorem DW_E (w : DW i x 32 P) : DE x := fun j hj _ q a b => by
  rcases w j hj q a b with g | ⟨g1, g2⟩
  · exact g
  · have := hj.2.1; omega
end DROP
