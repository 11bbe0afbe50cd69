/-! PASS 1 OF THE CLASS AND OF THE REFERENCE -/
theorem bks_fr {tm : Int64} {d e : Im} {i : Int} (h : WF tm d) (h1 : 1 ≤ i) (h2 : i < 32) (h3 : kd d i ≠ 0) (s : smI d e i) : bks e i = bks d i := by
  have o := h.ok i h1 h2 h3
  have b46 := o.1.bc
  obtain ⟨a1, a2, a3⟩ := bks_bits d i (by omega) b46
  obtain ⟨c1, c2, c3⟩ := bks_bits e i (by omega) (by rw [s.bcE]; exact b46)
  apply tbt_x
  intro b hb1 hb2
  by_cases h0 : b = 0
  · subst h0; rw [a1.mpr o.2, c1.mpr (s.gdAE b46 o.2)]
  · by_cases hd : dat b
    · rw [Bool.eq_iff_iff, a2 b hd, c2 b hd]; exact s.ownE b46 b
    · rw [a3 b (by omega) hb2 hd, c3 b (by omega) hb2 hd]
theorem erT_fr {tm : Int64} {d e : Im} {i : Int} (h : WF tm d) (h1 : 1 ≤ i) (h2 : i < 32) (h3 : kd d i ≠ 0) (s : smI d e i) : erT tm e i = erT tm d i := by
  unfold erT; rw [bks_fr h h1 h2 h3 s]
/-- different at most where the dots of the root lie -/
def eq1 (X Y : Im) : Prop := ∀ a : Int, ¬ (drI X 1 ∧ ep X 1 0 ≤ a ∧ a < ep X 1 0 + 32) → Y.1 a = X.1 a
section E1
variable {tm : Int64} {X Y : Im}
theorem eq1.P (h : WF tm X) (e : eq1 X Y) : eqP 1 0 X Y := fun a ha => e a (fun ⟨w1, w2, w3⟩ => ha (by
    have s := h.szE w1
    have e0 := h.epE w1 (p := 0) (by omega) (by omega)
    have e1 := h.epE w1 (p := 1) (by omega) (by omega)
    rw [show (0 : Int) / 4 = 0 from rfl] at e0
    rw [show (1 : Int) / 4 = 0 from rfl] at e1
    by_cases c : a < ep X 1 0 + 16
    · exact ⟨1, 0, w1, by omega, by omega, Or.inr ⟨rfl, by omega⟩, by omega, by omega⟩
    · exact ⟨1, 1, w1, by omega, by omega, Or.inr ⟨rfl, by omega⟩, by omega, by omega⟩))
theorem eq1.wp {y : Int} (h : WF tm X) (e : eq1 X Y) (h1 : 2 ≤ y) (h2 : y < 32) : eq1 (wI X y) (wI Y y) := fun a ha => by
  by_cases c : 512 + y * 16 ≤ a ∧ a < 512 + y * 16 + 16
  · rw [wipe_in X (wI_rg (by omega)) c, wipe_in Y (wI_rg (by omega)) c]
  · rw [wipe_out X (wI_rg (by omega)) c, wipe_out Y (wI_rg (by omega)) c]
    refine e a (fun ⟨w1, w2⟩ => ha ⟨⟨by omega, by omega, ?_⟩, ?_⟩)
    · rw [wI_ne X (by omega) (by omega) (by omega)]; exact w1.2.2
    · have s := h.szE w1
      rw [(wI_sm h (i := y) (by omega) w1.1 w1.2.1 w1.2.1 (by have := w1.2.2; omega) (by omega)).epE (p := 0) (by omega) (by omega) s.2.1 s.2.2]
      exact w2
theorem eq1.pr : ∀ (f : Nat) (y : Int) (m : Int64) (X Y : Im), WF m X → eq1 X Y → y ≤ 31 → (f : Int) + 1 ≤ y → (prs f y m Y).1 = (prs f y m X).1 ∧ eq1 (prs f y m X).2 (prs f y m Y).2
  | 0, y, m, X, Y, _, e, _, _ => ⟨rfl, e⟩
  | f + 1, y, m, X, Y, h, e, h1, h2 => by
    rw [prs, prs, (e.P h).kdE h]
    by_cases c : pcn m < 47
    · rw [if_pos c, if_pos c]; exact ⟨rfl, e⟩
    · rw [if_neg c, if_neg c]
      by_cases k : kd X y = 0
      · rw [if_pos k, if_pos k, if_pos k, if_pos k]; exact eq1.pr f (y - 1) m X Y h e (by omega) (by omega)
      · rw [if_neg k, if_neg k, if_neg k, if_neg k, erT_fr h (by omega) (by omega) k ((e.P h).smE h (by omega) (by omega) k)]
        exact eq1.pr f (y - 1) _ _ _ (h.erase (by omega) (by omega) k) (e.wp h (by omega) (by omega)) (by omega) (by omega)
theorem eq1.dr {q : Int} (h : WF tm X) (e : eq1 X Y) (hq : dat q) (ht : tbt tm q = false) : eq1 (dirD X 2 q) (dirD Y 2 q) := fun a ha => by
  rw [dir_at (by omega) hq, dir_at (by omega) hq]
  have key : ¬ (drI X 1 ∧ ep X 1 0 ≤ a ∧ a < ep X 1 0 + 32) := fun ⟨w1, w2⟩ => ha (by
    have s := h.szE w1
    have sm := smI.new h (i := 2) (by omega) hq ht (j := 1) (by omega) (by omega) (by omega) (by have := w1.2.2; omega)
    refine ⟨⟨by omega, by omega, by rw [sm.kdE]; exact w1.2.2⟩, ?_⟩
    rw [sm.epE (p := 0) (by omega) (by omega) s.2.1 s.2.2]
    exact w2)
  rw [e a key]
end E1
section BG
variable {tm : Int64} {d : Im} {i : Int}
theorem bg0_at (hi : inR i) (j : Int) : (bg0 d i).1 j = if j = 512 + i * 16 then 2 else d.1 j := by
  unfold bg0
  rw [im_set_in _ (by omega), up_at]; rfl
theorem bg0_bc (h : WF tm d) (h1 : 1 ≤ i) (h2 : i < 32) (hk : kd d i = 0) : bc (bg0 d i) i = 0 := by
  have b := h.bl i h1 h2 hk
  unfold bc sz
  rw [if_pos (by omega), bg0_at (by omega), bg0_at (by omega), if_neg (by omega), if_neg (by omega), b 2 (by omega) (by omega), show 512 + i * 16 + 2 + 1 = 512 + i * 16 + 3 by omega, b 3 (by omega) (by omega)]
  rfl
theorem bg_X (h : WF tm d) (h1 : 1 ≤ i) (h2 : i < 32) (hk : kd d i = 0) : abX tm (bg0 d i) i ↔ tfB tm = -1 := by
  unfold abX
  rw [bg0_bc h h1 h2 hk, h.free, if_neg (by omega)]
  have := h.pcE
  omega
theorem bg_T (h : WF tm d) (h1 : 1 ≤ i) (h2 : i < 32) (hk : kd d i = 0) : bgT tm d i = if tfB tm = -1 then tm else tset tm (tfB tm) := by
  unfold bgT abT
  by_cases c : tfB tm = -1
  · rw [if_pos ((bg_X h h1 h2 hk).mpr c), if_pos c]
  · rw [if_neg (fun w => c ((bg_X h h1 h2 hk).mp w)), if_neg c, if_neg (by rw [bg0_bc h h1 h2 hk]; omega)]; unfold tfT; rw [if_neg c]
theorem bg_R (h : WF tm d) (h1 : 1 ≤ i) (h2 : i < 32) (hk : kd d i = 0) : bgR tm d i = tfB tm := by
  unfold bgR abR
  by_cases c : tfB tm = -1
  · rw [if_pos ((bg_X h h1 h2 hk).mpr c), c]
  · rw [if_neg (fun w => c ((bg_X h h1 h2 hk).mp w))]
theorem bg_D (nb : Im) (p : Int) (h : WF tm d) (h1 : 1 ≤ i) (h2 : i < 32) (hk : kd d i = 0) : bgD tm d nb i p = if tfB tm = -1 then d else dtD (dirD d i (tfB tm)) nb i p := by
  have b := h.bl i h1 h2 hk
  have bc0 := bg0_bc h h1 h2 hk
  unfold bgD
  rw [bg_R h h1 h2 hk]
  by_cases c : tfB tm = -1
  · rw [if_pos c, if_pos c]
    unfold abD
    rw [if_pos ((bg_X h h1 h2 hk).mpr c)]
    apply im_x
    intro j
    by_cases hj : 512 + i * 16 ≤ j ∧ j < 512 + i * 16 + 16
    · rw [wipe_in _ (by unfold rgP; omega) hj]
      have := b (j - (512 + i * 16)) (by omega) (by omega)
      rw [show 512 + i * 16 + (j - (512 + i * 16)) = j by omega] at this
      exact this.symm
    · rw [wipe_out _ (by unfold rgP; omega) hj, bg0_at (by omega), if_neg (by omega)]
  · rw [if_neg c, if_neg c]
    have hq := (tf_clr c).1
    have e : im_put (abD tm (bg0 d i) i) (512 + i * 16 + 2) 64 = dirD d i (tfB tm) := by
      unfold abD
      rw [if_neg (fun w => c ((bg_X h h1 h2 hk).mp w)), bc0, if_pos (by omega)]
      unfold tfD
      rw [if_neg c]
      apply im_x
      intro j
      rw [put_at _ (by omega), im_set_in _ (by omega), up_at, wipe_at _ (by unfold rgP; omega), bg0_at (by omega), dir_at (by omega) hq]
      by_cases j1 : tfB tm * 64 ≤ j ∧ j < tfB tm * 64 + 64
      · rw [if_pos j1, if_neg (by omega), if_neg (by omega), if_neg (by omega), if_pos j1]
      · rw [if_neg j1, if_neg j1]
        by_cases j2 : j = 512 + i * 16 + 4
        · rw [if_pos j2, if_neg (by omega), if_neg (by omega), if_pos (by omega)]; omega
        · rw [if_neg j2]
          by_cases j3 : j = 512 + i * 16 + 3
          · rw [if_pos j3, if_pos (by omega)]; rfl
          · rw [if_neg j3, if_neg (by omega)]
            by_cases j4 : j = 512 + i * 16 + 2
            · rw [if_pos j4, if_pos j4]; rfl
            · rw [if_neg j4, if_neg j4, if_neg (by omega)]
    rw [e]
end BG
section PV
variable {tm : Int64} {d nb : Im} {i : Int}
theorem prF_k0 (h1 : inR i) (hk : kd d i = 0) : kd (prF tm d).2 i = 0 := prs_k0 h1 30 31 tm d hk (by omega) (by omega)
theorem pv_T (h : WF tm d) (h1 : 1 ≤ i) (h2 : i < 32) : pvT tm d i = (ri1 (tm, d) i).1 := by
  unfold pvT ri1
  by_cases k : kd d i = 0
  · rw [if_pos k, if_pos (show kd (tm, d).2 i = 0 from k), bg_T (prF_WF h) h1 h2 (prF_k0 (by omega) k)]; rfl
  · rw [if_neg k, if_neg (show ¬ kd (tm, d).2 i = 0 from k)]
theorem pv_D (h : WF tm d) (h1 : 1 ≤ i) (h2 : i < 32) : pvD tm d nb i = (ri1 (tm, d) i).2 ∨ (kd d i = 0 ∧ tfB (prF tm d).1 ≠ -1 ∧ (ri1 (tm, d) i).2 = dirD (prF tm d).2 i (tfB (prF tm d).1) ∧ pvD tm d nb i = plS i 1 (plS i 0 (dirD (prF tm d).2 i (tfB (prF tm d).1)))) := by
  unfold pvD ri1
  by_cases k : kd d i = 0
  · rw [if_pos k, if_pos (show kd (tm, d).2 i = 0 from k), bg_D nb i (prF_WF h) h1 h2 (prF_k0 (by omega) k)]
    dsimp only
    unfold mdD
    by_cases c : tfB (prF tm d).1 = -1
    · rw [if_pos c, if_pos c]; exact Or.inl rfl
    · rw [if_neg c, if_neg c]; exact Or.inr ⟨k, c, rfl, dt_D nb⟩
  · rw [if_neg k, if_neg (show ¬ kd (tm, d).2 i = 0 from k)]; exact Or.inl rfl
/-- dots written: where it differs -/
theorem dots_df {e : Im} (h : WF tm e) (hi : drI e i) (a : Int) (ha : ¬ (ep e i 0 ≤ a ∧ a < ep e i 0 + 32)) : (plS i 1 (plS i 0 e)).1 a = e.1 a := by
  have s := h.szE hi
  have e0 := h.epE hi (p := 0) (by omega) (by omega)
  have e1 := h.epE hi (p := 1) (by omega) (by omega)
  rw [show (0 : Int) / 4 = 0 from rfl] at e0
  rw [show (1 : Int) / 4 = 0 from rfl] at e1
  have c0 := plS_cg h hi (p := 0) (by omega) (by omega)
  have h0 := pl_WF h hi (p := 0) (by omega) (by omega)
  have i0 := pl_dr h hi (p := 0) (by omega) (by omega) hi
  have s0 := pl_sz h hi (p := 0) (by omega) (by omega) i
  have c1 := plS_cg h0 i0 (p := 1) (by omega) (by omega)
  rw [cg_ep h hi (by omega) (by omega) c0 hi (q := 1) (by omega) (by omega)] at c1
  rw [c1 a (by omega), c0 a (by omega)]
end PV
theorem pT_1 (dk : Im) : pT1 dk = (ri1 (kpF (jnR dk)) 1).1 := by
  have w := kpF_WF (jnR dk)
  unfold pT1 pl1
  generalize kpF (jnR dk) = s at *
  exact pv_T (tm := s.1) (d := s.2) w (by omega) (by omega)
theorem pD_1 (dk nb : Im) : eq1 (ri1 (kpF (jnR dk)) 1).2 (pD1 dk nb) := by
  have w := kpF_WF (jnR dk)
  unfold pD1 pl1
  generalize kpF (jnR dk) = s at *
  have w1 := ri1_WF (s := s) (i := 1) w (by omega) (by omega)
  rcases pv_D (tm := s.1) (d := s.2) (nb := nb) w (i := 1) (by omega) (by omega) with h | ⟨h1, h2, h3, h4⟩
  · rw [h]; intro a _; rfl
  · have e3 : (ri1 s 1).2 = dirD (prF s.1 s.2).2 1 (tfB (prF s.1 s.2).1) := h3
    rw [h4, ← e3]
    have dr : drI (ri1 s 1).2 1 := ⟨by omega, by omega, by rw [e3]; exact dir_kd (by omega) (tf_clr h2).1⟩
    intro a ha
    exact dots_df w1 dr a (fun q => ha ⟨dr, q⟩)
theorem pT_2 (dk nb : Im) : pT2 dk nb = (riF (jnR dk)).1 ∧ eqP 1 0 (riF (jnR dk)).2 (pD2 dk nb) := by
  have w := kpF_WF (jnR dk)
  have w1 := ri1_WF (s := kpF (jnR dk)) (i := 1) w (by omega) (by omega)
  have w2 := riF_WF (jnR dk)
  have e1 := pD_1 dk nb
  have t1 := pT_1 dk
  have P1 := e1.P w1
  have hY := P1.WFE w1
  unfold pT2 pD2
  rw [t1]
  unfold riF at w2 ⊢
  generalize ri1 (kpF (jnR dk)) 1 = s at *
  generalize pD1 dk nb = Y at *
  have hpr := eq1.pr 30 31 s.1 s.2 Y w1 e1 (by omega) (by omega)
  change (prF s.1 Y).1 = (prF s.1 s.2).1 ∧ eq1 (prF s.1 s.2).2 (prF s.1 Y).2 at hpr
  have k2 := P1.kdE w1 2
  by_cases k : kd s.2 2 = 0
  · have kY : kd Y 2 = 0 := by rw [k2]; exact k
    have wp := prF_WF w1
    have ea : ri1 s 2 = (mdT s.1 s.2, mdD s.1 s.2 2) := by unfold ri1; rw [if_pos k]
    have eb : ri1 (s.1, Y) 2 = (mdT s.1 Y, mdD s.1 Y 2) := by unfold ri1; rw [if_pos (show kd (s.1, Y).2 2 = 0 from kY)]
    have et : mdT s.1 Y = mdT s.1 s.2 := by unfold mdT; rw [hpr.1]
    refine ⟨?_, ?_⟩
    · rw [pv_T hY (by omega) (by omega), eb, ea]; exact et
    · rw [ea] at w2 ⊢
      change WF (mdT s.1 s.2) (mdD s.1 s.2 2) at w2
      show eqP 1 0 (mdD s.1 s.2 2) _
      rcases pv_D (nb := pN1 dk nb) hY (i := 2) (by omega) (by omega) with h | ⟨h1, h2, h3, h4⟩
      · rw [h, eb]
        show eqP 1 0 (mdD s.1 s.2 2) (mdD s.1 Y 2)
        refine eq1.P w2 ?_
        unfold mdD
        rw [hpr.1]
        by_cases c : tfB (prF s.1 s.2).1 = -1
        · rw [if_pos c, if_pos c]; exact hpr.2
        · rw [if_neg c, if_neg c]; exact hpr.2.dr wp (tf_clr c).1 (tf_clr c).2
      · rw [h4]
        rw [hpr.1] at h2 ⊢
        have ed := hpr.2.dr wp (tf_clr h2).1 (tf_clr h2).2
        have em : mdD s.1 s.2 2 = dirD (prF s.1 s.2).2 2 (tfB (prF s.1 s.2).1) := by unfold mdD; rw [if_neg h2]
        rw [← em] at ed
        have P2 := ed.P w2
        have dX : drI (mdD s.1 s.2 2) 2 := ⟨by omega, by omega, by rw [em]; exact dir_kd (by omega) (tf_clr h2).1⟩
        have sX := w2.szE dX
        generalize dirD (prF s.1 Y).2 2 (tfB (prF s.1 s.2).1) = Z at *
        generalize mdD s.1 s.2 2 = V at *
        intro a ha
        rw [dots_df (P2.WFE w2) (P2.drE w2 dX) a, P2 a ha]
        rw [P2.epE w2 dX (by omega) (by omega)]
        intro q
        refine ha ?_
        have e0 := w2.epE dX (p := 0) (by omega) (by omega)
        have e1 := w2.epE dX (p := 1) (by omega) (by omega)
        rw [show (0 : Int) / 4 = 0 from rfl] at e0
        rw [show (1 : Int) / 4 = 0 from rfl] at e1
        by_cases c : a < ep V 2 0 + 16
        · exact ⟨2, 0, dX, by omega, by omega, Or.inl (by omega), by omega, by omega⟩
        · exact ⟨2, 1, dX, by omega, by omega, Or.inl (by omega), by omega, by omega⟩
  · have kY : ¬ kd Y 2 = 0 := by rw [k2]; exact k
    have ea : ri1 s 2 = s := by unfold ri1; rw [if_neg k]
    rw [ea]
    unfold pvT pvD
    rw [if_neg kY, if_neg kY]
    exact ⟨rfl, P1⟩
/-- the plan behind pass 2 is the reference's -/
theorem pl3_E (dk nb : Im) (n : Int) : (pl3 dk nb n).1 = tdr 31 1 (riF (jnR dk)).2 := by
  have w2 := riF_WF (jnR dk)
  have h := (pT_2 dk nb).2
  unfold pl3
  rw [tls_tdr 31 1 _ _ _ (h.WFE w2) (by omega) (by omega)]
  exact eqP.tR 31 1 _ _ w2 h (by omega) (by omega)
