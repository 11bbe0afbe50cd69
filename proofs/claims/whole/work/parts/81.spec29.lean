/-! AN ENTRY PUT INTO A DIRECTORY -/
section PE
variable {tm : Int64} {d nb : Im} {D i n p : Int}
theorem ab_sz (h : WF tm d) (h1 : 1 ≤ D) (h2 : D < 32) (h3 : kd d D ≠ 0) (hx : ¬ abX tm d D) : sz (abD tm d D) D = sz d D := by
  have f := ab_fr h hx
  have hb := bc_rg d D
  have hq := f.2.1.1
  have eD : tfD tm d = im_wipe d (tfB tm * 64) 64 := by unfold tfD; rw [if_neg (by omega)]
  unfold abD
  rw [if_neg hx]
  by_cases c : bc d D < 5
  · rw [if_pos c, im_set_in _ (by omega), sz_up (by omega) (by omega), eD, sz_wp (by omega)]
  · rw [if_neg c]
    by_cases c5 : bc d D = 5
    · have g := f.2.2 c5
      have eI : abI tm d D = up (im_wipe (im_wipe d (tfB tm * 64) 64) (tfB (tfT tm) * 64) 64) (512 + D * 16 + 9) (tfB (tfT tm)) := by
        unfold abI; rw [if_pos c5, eD]; unfold tfD; rw [if_neg (by have := g.1; omega), im_set_in _ (by omega)]
      have e9 : (abI tm d D).1 (512 + D * 16 + 9) = tfB (tfT tm) := by rw [eI, up_at, if_pos rfl]; omega
      rw [e9, im_set_in _ (by omega), sz_up (by omega) (by omega), eI, sz_up (by omega) (by omega), sz_wp (by omega), sz_wp (by omega)]
    · have g := h.indE h1 h2 h3 (by omega)
      have eI : abI tm d D = im_wipe d (tfB tm * 64) 64 := by unfold abI; rw [if_neg c5, eD]
      have e9 : (abI tm d D).1 (512 + D * 16 + 9) = ind d D := by rw [eI]; exact wipe_out _ (by unfold rgP; omega) (by omega)
      rw [e9, im_set_in _ (by omega), sz_up (by omega) (by omega), eI, sz_wp (by omega)]
theorem ab_R (h : WF tm d) : abR tm d D = -1 ↔ abX tm d D := by
  unfold abR
  by_cases c : abX tm d D
  · rw [if_pos c]; exact ⟨fun _ => c, fun _ => rfl⟩
  · rw [if_neg c]
    have f := (ab_fr h c).2.1.1
    exact ⟨fun z => by omega, fun z => absurd z c⟩
theorem rm_gw (h : WF tm d) (h1 : 1 ≤ D) (h2 : D < 32) (h3 : kd d D ≠ 0) (hf : rmF d D = -2) : rmD tm d D = gwD tm d D 64 ∧ rmR tm d D = (if abX tm d D then -1 else tfB tm * 64) ∧ rmT tm d D = abT tm d D := by
  unfold rmD rmR rmT gwD
  rw [if_pos hf, if_pos hf, if_pos hf]
  by_cases c : abX tm d D
  · have : abD tm d D = d := by unfold abD; rw [if_pos c]
    rw [if_pos c, if_pos c, if_pos ((ab_R h).mpr c), if_pos ((ab_R h).mpr c)]; exact ⟨this, rfl, rfl⟩
  · have : abR tm d D = tfB tm := by unfold abR; rw [if_neg c]
    rw [if_neg c, if_neg c, if_neg (fun z => c ((ab_R h).mp z)), if_neg (fun z => c ((ab_R h).mp z)), ab_sz h h1 h2 h3 c, this]; exact ⟨rfl, rfl, rfl⟩
theorem rm_in (hf : rmF d D ≠ -2) : rmD tm d D = d ∧ rmR tm d D = rmF d D ∧ rmT tm d D = tm := by
  unfold rmD rmR rmT
  rw [if_neg hf, if_neg hf, if_neg hf]; exact ⟨rfl, rfl, rfl⟩
/-- room among the places -/
theorem en_0 (hf : rmF d D = ep d D p) (hp : 1024 ≤ ep d D p) : rmR tm d D = ep d D p ∧ enD tm d D i nb n = we d (ep d D p) i nb n := by
  have g := rm_in (tm := tm) (d := d) (D := D) (by rw [hf]; omega)
  unfold enD
  rw [g.1, g.2.1, hf, if_neg (by omega)]
  exact ⟨rfl, rfl⟩
theorem en_1 (h : WF tm d) (h1 : 1 ≤ D) (h2 : D < 32) (h3 : kd d D ≠ 0) (hf : rmF d D = -2) (hx : abX tm d D) : rmR tm d D = -1 ∧ enD tm d D i nb n = gwD tm d D 64 := by
  have g := rm_gw h h1 h2 h3 hf
  rw [if_pos hx] at g
  unfold enD
  rw [g.1, g.2.1, if_pos rfl]; exact ⟨rfl, rfl⟩
theorem gw_ep (h : WF tm d) (hD : drI d D) (hx : ¬ abX tm d D) : ep (gwD tm d D 64) D (sz d D / 16) = tfB tm * 64 ∧ sz (gwD tm d D 64) D = sz d D + 64 ∧ WF (abT tm d D) (gwD tm d D 64) ∧ drI (gwD tm d D 64) D := by
  have s := h.szE hD
  have h3 : kd d D ≠ 0 := by have := hD.2.2; omega
  have w := gw_WF h hD.1 hD.2.1 h3 hx s.2.2 (w := 64) (Or.inl rfl)
  have sz2 := gw_sz h hD.1 hD.2.1 h3 hx (w := 64) (by omega)
  have dr : drI (gwD tm d D 64) D := ⟨hD.1, hD.2.1, by rw [gw_kd h hD.1 hD.2.1 h3 hx]; exact hD.2.2⟩
  refine ⟨?_, sz2, w.1, dr⟩
  have e := w.1.epE dr (p := sz d D / 16) (by omega) (by rw [sz2]; omega)
  have eb : sz d D / 16 / 4 = bc d D := by
    have : bc d D = (sz d D + 63) / 64 := rfl
    rw [this]; omega
  rw [eb, gw_bkn h hD.1 hD.2.1 h3 hx] at e
  omega
theorem en_2 (h : WF tm d) (hD : drI d D) (hf : rmF d D = -2) (hx : ¬ abX tm d D) : rmR tm d D = tfB tm * 64 ∧ enD tm d D i nb n = we (gwD tm d D 64) (ep (gwD tm d D 64) D (sz d D / 16)) i nb n := by
  have h3 : kd d D ≠ 0 := by have := hD.2.2; omega
  have g := rm_gw h hD.1 hD.2.1 h3 hf
  have f := (ab_fr h hx).2.1.1
  rw [if_neg hx] at g
  unfold enD
  rw [g.1, g.2.1, if_neg (by omega), (gw_ep h hD hx).1]; exact ⟨rfl, rfl⟩
theorem gw_DE (h : WF tm d) (hD : drI d D) (hx : ¬ abX tm d D) (E : DE d) : DE (gwD tm d D 64) := by
  have s := h.szE hD
  have h3 : kd d D ≠ 0 := by have := hD.2.2; omega
  obtain ⟨-, s2, W2, dr⟩ := gw_ep h hD hx
  have k := gw_kd h hD.1 hD.2.1 h3 hx (w := 64)
  have bl := fun {b a : Int} hb ha => gw_blk h hD.1 hD.2.1 h3 hx (w := 64) (b := b) (a := a) hb ha
  intro j hj hjn q a b
  have hj2 : drI d j := ⟨hj.1, hj.2.1, by rw [← k]; exact hj.2.2⟩
  have h4 : kd d j ≠ 0 := by have := hj2.2.2; omega
  have sj := h.szE hj2
  by_cases old : q < sz d j / 16
  · have eo := h.epE hj2 (p := q) (by omega) old
    have e : ep (gwD tm d D 64) j q = ep d j q := by
      rw [(W2.epE hj (p := q) (by omega) b).1, eo.1]
      by_cases c : j = D
      · subst c; rw [gw_bko h hD.1 hD.2.1 h3 hx (by omega) eo.2.2]
      · rw [(gw_sm h hD.1 hD.2.1 h3 hx hj.1 hj.2.1 c h4).bkE (by omega) eo.2.2 (h.ok j hj.1 hj.2.1 h4).1.bc]
    have hb : ∃ l : Int, 1 ≤ l ∧ l < 32 ∧ kd d l ≠ 0 ∧ own d l (bk d j (q / 4)) ∧ (l ≠ D ∨ inB d D (bc d D) (bk d j (q / 4))) := by
      refine ⟨j, hj.1, hj.2.1, h4, Or.inl ⟨q / 4, by omega, eo.2.2, rfl⟩, ?_⟩
      by_cases c : j = D
      · subst c; exact Or.inr ⟨q / 4, by omega, eo.2.2, rfl⟩
      · exact Or.inl c
    have f : ∀ x : Int, 0 ≤ x → x < 16 → (gwD tm d D 64).1 (ep d j q + x) = d.1 (ep d j q + x) := fun x x1 x2 => bl hb (by omega)
    have f0 := f 0 (by omega) (by omega)
    rw [show ep d j q + 0 = ep d j q by omega] at f0
    rw [e]
    unfold enT
    rw [k, f0]
    rcases E j hj2 hjn q a old with g | g
    · left; intro x x1 x2; rw [f x x1 x2]; exact g x x1 x2
    · exact Or.inr g
  · have c : j = D := by
      rcases Classical.em (j = D) with c | c
      · exact c
      · rw [gw_szn h hD.1 hD.2.1 h3 hx c] at b; exact absurd b old
    subst c
    rw [s2] at b
    have e := (W2.epE hj (p := q) (by omega) (by rw [s2]; exact b)).1
    have eb : q / 4 = bc d j := by
      have : bc d j = (sz d j + 63) / 64 := rfl
      rw [this]; omega
    rw [eb, gw_bkn h hD.1 hD.2.1 h3 hx] at e
    have f := ab_fr h hx
    have hb := bc_rg d j
    left
    intro x x1 x2
    rw [e, gw_at h hD.1 hD.2.1 h3 hx, if_neg (by omega), if_neg (by omega), if_neg ?_, if_neg (by omega), if_pos (by omega)]
    rcases gw_pt h hD.1 hD.2.1 h3 hx with ⟨c, e⟩ | ⟨c, e⟩ | ⟨c, e, e2, e3⟩
    · omega
    · have g := f.2.2 c; omega
    · omega
theorem we_en {x : Im} {a : Int} (ha : 0 ≤ a ∧ a ≤ 4080) (hi : kd x i ≠ 0) (hn : 0 ≤ n ∧ n ≤ 14) (hk : ∀ j, kd (we x a i nb n) j = kd x j) : enT (we x a i nb n) a := by
  have := kd_R hi
  right
  rw [we_at x nb ha (by omega) hn, if_pos (by omega), if_pos rfl, hk]; exact hi
theorem rms_ex : ∀ (f : Nat) (p : Int), rms d D f p = -2 ∨ ∃ q : Int, p ≤ q ∧ q < p + f ∧ rms d D f p = ep d D q ∧ im_at d (ep d D q) = 0
  | 0, p => Or.inl rfl
  | f + 1, p => by
    rw [rms]
    by_cases c : im_at d (ep d D p) = 0
    · rw [if_pos c]; exact Or.inr ⟨p, by omega, by omega, rfl, c⟩
    · rw [if_neg c]
      rcases rms_ex f (p + 1) with g | ⟨q, g1, g2, g3⟩
      · exact Or.inl g
      · exact Or.inr ⟨q, by omega, by omega, g3⟩
theorem en_WF (h : WF tm d) (hD : drI d D) (E : DE d) (hi : kd d i ≠ 0) (hn : 0 ≤ n ∧ n ≤ 14) : WF (rmT tm d D) (enD tm d D i nb n) ∧ DE (enD tm d D i nb n) ∧ ∀ j : Int, kd (enD tm d D i nb n) j = kd d j := by
  have s := h.szE hD
  have h3 : kd d D ≠ 0 := by have := hD.2.2; omega
  have hR := kd_R hi
  have ex := rms_ex (d := d) (D := D) (ec d D - 2).toNat 2
  rw [h.ecE hD] at ex
  have er : rms d D (sz d D / 16 - 2).toNat 2 = rmF d D := by unfold rmF; rw [h.ecE hD]
  rw [er] at ex
  rcases ex with hf | ⟨q, h1, h2, hf, h4⟩
  · have g := rm_gw h hD.1 hD.2.1 h3 hf
    rw [g.2.2]
    by_cases hx : abX tm d D
    · rw [(en_1 h hD.1 hD.2.1 h3 hf hx).2]
      have e1 : gwD tm d D 64 = d := by unfold gwD; rw [if_pos hx]
      have e2 : abT tm d D = tm := by unfold abT; rw [if_pos hx]
      rw [e1, e2]; exact ⟨h, E, fun _ => rfl⟩
    · rw [(en_2 h hD hf hx).2]
      obtain ⟨e1, s2, W2, dr⟩ := gw_ep h hD hx
      have k := gw_kd h hD.1 hD.2.1 h3 hx (w := 64)
      have a1 := W2.ep_rgE dr (p := sz d D / 16) (by omega) (by rw [s2]; omega)
      have c := we_cg (gwD tm d D 64) (p := ep (gwD tm d D 64) D (sz d D / 16)) (i := i) (n := n) nb (by omega) (by omega) hn
      have hb : sz d D / 16 < sz (gwD tm d D 64) D / 16 := by rw [s2]; omega
      have kk := cg_kd W2 dr (by omega) hb c
      exact ⟨cg_WF W2 dr (by omega) hb c, cg_DE W2 dr (by omega) hb c (Or.inr (we_en (by omega) (by rw [k]; exact hi) hn kk)) (gw_DE h hD hx E), fun j => by rw [kk, k]⟩
  · have a1 := h.ep_rgE hD (p := q) (by omega) (by omega)
    rw [(en_0 (tm := tm) (i := i) (nb := nb) (n := n) hf (by omega)).2, (rm_in (tm := tm) (by rw [hf]; omega)).2.2]
    have c := we_cg d (p := ep d D q) (i := i) (n := n) nb (by omega) (by omega) hn
    have kk := cg_kd h hD (by omega) (by omega) c
    exact ⟨cg_WF h hD (by omega) (by omega) c, cg_DE h hD (by omega) (by omega) c (Or.inr (we_en (by omega) hi hn kk)) E, kk⟩
end PE
