/-! WHAT HOLDS BEHIND THE PASSES -/
section TD2
variable {tm : Int64} {i : Int}
theorem tpl_inv : ∀ (f : Nat) (p : Int) (d : Im), WF tm d → drI d i → 0 ≤ p → p + f ≤ sz d i / 16 → DEn d i → TY d i p → DEn (tpl i f p d) i ∧ TY (tpl i f p d) i (p + f) ∧ sz (tpl i f p d) i = sz d i ∧ ∀ j : Int, kd (tpl i f p d) j = kd d j
  | 0, p, d, h, hi, hp, hb, hD, hT => ⟨hD, by rw [show p + ((0 : Nat) : Int) = p by omega]; exact hT, rfl, fun _ => rfl⟩
  | f + 1, p, d, h, hi, hp, hb, hD, hT => by
    have hb2 : p < sz d i / 16 := by omega
    rw [tpl, show p + ((f + 1 : Nat) : Int) = p + 1 + (f : Int) by omega]
    obtain ⟨a1, a2, a3, a4⟩ := tpl_inv f (p + 1) (plS i p d) (pl_WF h hi hp hb2) (pl_dr h hi hp hb2 hi) (by omega) (by rw [pl_sz h hi hp hb2]; omega) (DEn_s h hi hp hb2 (by omega) hD) (TY_s h hi hp hb2 hT)
    exact ⟨a1, a2, by rw [a3, pl_sz h hi hp hb2], fun j => by rw [a4, pl_kd h hi hp hb2]⟩
theorem tpD_inv {d : Im} (h : WF tm d) (h1 : 1 ≤ i) (h2 : i < 32) (hD : DEn d i) : DEn (tpD i d) (i + 1) ∧ ∀ j : Int, kd (tpD i d) j = kd d j := by
  unfold tpD
  split
  · next k =>
    have s := h.szE ⟨h1, h2, k⟩
    obtain ⟨a1, a2, a3, a4⟩ := tpl_inv (sz d i / 16).toNat 0 d h ⟨h1, h2, k⟩ (by omega) (by omega) hD (fun q a b => by omega)
    exact ⟨DEn_n a1 a2 (by rw [a3]; omega), a4⟩
  · next k => exact ⟨DEn_k hD k, fun _ => rfl⟩
theorem tdr_inv : ∀ (f : Nat) (i : Int) (d : Im), WF tm d → 1 ≤ i → i + f = 32 → DEn d i → DE (tdr f i d) ∧ ∀ j : Int, kd (tdr f i d) j = kd d j
  | 0, i, d, h, h1, h2, hD => ⟨by rw [tdr]; have := hD; rwa [show i = 32 by omega] at this, fun _ => rfl⟩
  | f + 1, i, d, h, h1, h2, hD => by
    rw [tdr]
    obtain ⟨a1, a2⟩ := tpD_inv h h1 (by omega) hD
    obtain ⟨b1, b2⟩ := tdr_inv f (i + 1) _ (tpD_WF h h1 (by omega)) (by omega) (by omega) a1
    exact ⟨b1, fun j => by rw [b2, a2]⟩
theorem tpl_kd : ∀ (f : Nat) (p : Int) (d : Im), WF tm d → drI d i → 0 ≤ p → p + f ≤ sz d i / 16 → ∀ j : Int, kd (tpl i f p d) j = kd d j
  | 0, p, d, h, hi, hp, hb, j => rfl
  | f + 1, p, d, h, hi, hp, hb, j => by
    have hb2 : p < sz d i / 16 := by omega
    rw [tpl, tpl_kd f (p + 1) (plS i p d) (pl_WF h hi hp hb2) (pl_dr h hi hp hb2 hi) (by omega) (by rw [pl_sz h hi hp hb2]; omega), pl_kd h hi hp hb2]
theorem tpD_kd {d : Im} (h : WF tm d) (h1 : 1 ≤ i) (h2 : i < 32) : ∀ j : Int, kd (tpD i d) j = kd d j := fun j => by
  unfold tpD
  split
  · next k => exact tpl_kd _ 0 d h ⟨h1, h2, k⟩ (by omega) (by have := sz_rg d i; omega) j
  · rfl
/-- lost and found is in the root -/
def LL (d : Im) : Prop := kd d 2 ≠ 0 → d.1 (ep d 1 2) = 2
theorem LL_k {d : Im} {p : Int} (h : WF tm d) (h1 : drI d 1) (hi : drI d i) (hp : 0 ≤ p) (hb : p < sz d i / 16) (hn : ¬ (i = 1 ∧ p = 2)) (l : LL d) : LL (plS i p d) := by
  have s := h.szE h1
  have c := plS_cg h hi hp hb
  intro k
  rw [pl_kd h hi hp hb] at k
  rw [cg_ep h hi hp hb c h1 (by omega) (by omega)]
  have e := cg_en h hi hp hb c h1 (q := 2) (x := 0) (by omega) (by omega) (by omega) (by omega)
  rw [show ep d 1 2 + 0 = ep d 1 2 by omega] at e
  rw [e]; exact l k
theorem LL_2 {d : Im} (h : WF tm d) (h1 : drI d 1) : LL (plS 1 2 d) := by
  have s := h.szE h1
  have c := plS_cg h h1 (p := 2) (by omega) (by omega)
  have er := h.ep_rgE h1 (p := 2) (by omega) (by omega)
  intro k
  rw [pl_kd h h1 (by omega) (by omega)] at k
  rw [cg_ep h h1 (by omega) (by omega) c h1 (by omega) (by omega)]
  unfold plS
  rw [if_neg (by omega), if_pos ⟨rfl, rfl, k⟩, we_at d _ (by omega) (by omega) (by omega), if_pos (by omega), if_pos rfl]
theorem tpl_L1 : ∀ (f : Nat) (p : Int) (d : Im), WF tm d → drI d 1 → 0 ≤ p → p + f ≤ sz d 1 / 16 → 3 ≤ p + f → (2 < p → LL d) → LL (tpl 1 f p d)
  | 0, p, d, h, hi, hp, hb, h3, l => l (by omega)
  | f + 1, p, d, h, hi, hp, hb, h3, l => by
    have hb2 : p < sz d 1 / 16 := by omega
    rw [tpl]
    refine tpl_L1 f (p + 1) _ (pl_WF h hi hp hb2) (pl_dr h hi hp hb2 hi) (by omega) (by rw [pl_sz h hi hp hb2]; omega) (by omega) (fun w => ?_)
    by_cases e : p = 2
    · subst e; exact LL_2 h hi
    · exact LL_k h hi hi hp hb2 (by omega) (l (by omega))
theorem tpl_L2 : ∀ (f : Nat) (p : Int) (d : Im), WF tm d → drI d 1 → drI d i → i ≠ 1 → 0 ≤ p → p + f ≤ sz d i / 16 → LL d → LL (tpl i f p d)
  | 0, p, d, h, h1, hi, hn, hp, hb, l => l
  | f + 1, p, d, h, h1, hi, hn, hp, hb, l => by
    have hb2 : p < sz d i / 16 := by omega
    rw [tpl]
    exact tpl_L2 f (p + 1) _ (pl_WF h hi hp hb2) (pl_dr h hi hp hb2 h1) (pl_dr h hi hp hb2 hi) hn (by omega) (by rw [pl_sz h hi hp hb2]; omega) (LL_k h h1 hi hp hb2 (by omega) l)
theorem tdr_L2 : ∀ (f : Nat) (i : Int) (d : Im), WF tm d → 2 ≤ i → i + f = 32 → drI d 1 → LL d → LL (tdr f i d)
  | 0, i, d, h, h1, h2, r, l => l
  | f + 1, i, d, h, h1, h2, r, l => by
    rw [tdr]
    have k : ∀ j : Int, kd (tpD i d) j = kd d j := (tpD_kd h (by omega) (by omega))
    refine tdr_L2 f (i + 1) _ (tpD_WF h (by omega) (by omega)) (by omega) (by omega) ⟨r.1, r.2.1, by rw [k]; exact r.2.2⟩ ?_
    unfold tpD
    split
    · next q => exact tpl_L2 _ 0 d h r ⟨by omega, by omega, q⟩ (by omega) (by omega) (by have := sz_rg d i; omega) l
    · exact l
theorem tdr_LL {d : Im} (h : WF tm d) (r : drI d 1) : LL (tdr 31 1 d) := by
  have s := h.szE r
  rw [show (31 : Nat) = 30 + 1 from rfl, tdr]
  have k : ∀ j : Int, kd (tpD 1 d) j = kd d j := (tpD_kd h (by omega) (by omega))
  refine tdr_L2 30 (1 + 1) _ (tpD_WF h (by omega) (by omega)) (by omega) (by omega) ⟨r.1, r.2.1, by rw [k]; exact r.2.2⟩ ?_
  unfold tpD
  rw [if_pos r.2.2]
  exact tpl_L1 _ 0 d h r (by omega) (by omega) (by omega) (fun w => by omega)
end TD2
-- the root is there behind pass 1
theorem prs_end : ∀ (f : Nat) (y : Int) (m : Int64) (x : Im), y ≤ 31 → (f : Int) + 1 ≤ y → pcn (prs f y m x).1 < 47 ∨ ∀ j : Int, y - f < j → j ≤ y → kd (prs f y m x).2 j = 0
  | 0, y, m, x, _, _ => Or.inr (fun j a b => by omega)
  | f + 1, y, m, x, h1, h2 => by
    rw [prs]
    by_cases c : pcn m < 47
    · rw [if_pos c]; exact Or.inl c
    · rw [if_neg c]
      rcases prs_end f (y - 1) (if kd x y = 0 then m else erT m x y) (if kd x y = 0 then x else im_wipe x (512 + y * 16) 16) (by omega) (by omega) with g | g
      · exact Or.inl g
      · refine Or.inr (fun j a b => ?_)
        by_cases e : j = y
        · subst e
          refine prs_k0 (by omega) f (j - 1) _ _ ?_ (by omega) (by omega)
          by_cases k : kd x j = 0
          · rw [if_pos k]; exact k
          · rw [if_neg k]; exact wI_kd x (by omega)
        · exact g j (by omega) (by omega)
theorem prs_k1 : ∀ (f : Nat) (y : Int) (m : Int64) (x : Im), y ≤ 31 → (f : Int) + 1 ≤ y → kd (prs f y m x).2 1 = kd x 1
  | 0, y, m, x, _, _ => rfl
  | f + 1, y, m, x, h1, h2 => by
    rw [prs]
    split
    · rfl
    · rw [prs_k1 f (y - 1) _ _ (by omega) (by omega)]
      split
      · rfl
      · exact wI_ne x (by omega) (by omega) (by omega)
theorem pr_free {tm : Int64} {d : Im} (h : WF tm d) (hk : kd d 1 = 0) : tfB (prF tm d).1 ≠ -1 := by
  have w := prF_WF h
  rcases prs_end 30 31 tm d (by omega) (by omega) with g | g
  · intro e
    have := w.free.mp e
    have g2 : pcn (prF tm d).1 < 47 := g
    omega
  · have k1 : kd (prF tm d).2 1 = 0 := by
      have := prs_k1 30 31 tm d (by omega) (by omega)
      rw [hk] at this; exact this
    have z : tbt (prF tm d).1 16 = false := by
      cases c : tbt (prF tm d).1 16 with
      | false => rfl
      | true =>
        obtain ⟨i, a1, a2, a3, -⟩ := (w.tk 16 (by omega) (by omega)).mp c
        exfalso
        by_cases e : i = 1
        · subst e; exact a3 k1
        · exact a3 (g i (by omega) (by omega))
    unfold tfB
    rw [show (47 : Nat) = 46 + 1 from rfl, tfs, if_pos z]
    decide
theorem ri1_1 {s : Int64 × Im} (h : WF s.1 s.2) : kd (ri1 s 1).2 1 = 2 := by
  unfold ri1
  by_cases k : kd s.2 1 = 0
  · rw [if_pos k]
    have f := pr_free h k
    show kd (mdD s.1 s.2 1) 1 = 2
    unfold mdD
    rw [if_neg f]
    exact dir_kd (by omega) (tf_clr f).1
  · rw [if_neg k]
    exact (h.ok 1 (by omega) (by omega) k).1.2.2.2 (by omega)
theorem ri1_2 {s : Int64 × Im} (h : WF s.1 s.2) (hk : kd s.2 1 = 2) : kd (ri1 s 2).2 1 = 2 := by
  unfold ri1
  by_cases k : kd s.2 2 = 0
  · rw [if_pos k]
    show kd (mdD s.1 s.2 2) 1 = 2
    have k1 : kd (prF s.1 s.2).2 1 = 2 := by
      have := prs_k1 30 31 s.1 s.2 (by omega) (by omega)
      rw [hk] at this; exact this
    unfold mdD
    by_cases c : tfB (prF s.1 s.2).1 = -1
    · rw [if_pos c]; exact k1
    · rw [if_neg c]
      have t := tf_clr c
      rw [(smI.new (prF_WF h) (i := 2) (by omega) t.1 t.2 (j := 1) (by omega) (by omega) (by omega) (by omega)).kdE]; exact k1
  · rw [if_neg k]; exact hk
theorem pz_ok (dk : Im) : WF (pzT dk) (pzD dk) ∧ DE (pzD dk) ∧ kd (pzD dk) 1 = 2 ∧ LL (pzD dk) := by
  have w := riF_WF (jnR dk)
  have w0 := kpF_WF (jnR dk)
  have k : kd (riF (jnR dk)).2 1 = 2 := by
    unfold riF
    exact ri1_2 (ri1_WF w0 (by omega) (by omega)) (ri1_1 w0)
  unfold pzT pzD
  generalize riF (jnR dk) = s at *
  have i := tdr_inv 31 1 s.2 w (by omega) (by omega) (fun j hj hn => by have := hj.1; omega)
  exact ⟨tdr_WF 31 1 s.2 w (by omega) (by omega), i.1, by rw [i.2]; exact k, tdr_LL w ⟨by omega, by omega, k⟩⟩
