/-! PASS 3: WHAT IS KEPT WHILE GOING THROUGH -/
def cnb (f : Int → Bool) : Nat → Int
  | 0 => 0
  | n + 1 => cnb f n + (if f n = true then 1 else 0)
theorem cnb_le (f : Int → Bool) : ∀ n : Nat, 0 ≤ cnb f n ∧ cnb f n ≤ n
  | 0 => by simp [cnb]
  | n + 1 => by have := cnb_le f n; rw [cnb]; split <;> omega
theorem cnb_mono (f g : Int → Bool) : ∀ n : Nat, (∀ j : Int, 0 ≤ j → j < n → f j = true → g j = true) → cnb f n ≤ cnb g n
  | 0, _ => by simp [cnb]
  | n + 1, h => by
    have ih := cnb_mono f g n (fun j a b => h j a (by omega))
    have hn := h n (by omega) (by omega)
    rw [cnb, cnb]
    by_cases c : f n = true
    · rw [if_pos c, if_pos (hn c)]; omega
    · rw [if_neg c]; split <;> omega
theorem cnb_set (f g : Int → Bool) {j : Int} (hf : f j = false) (hg : g j = true) : ∀ n : Nat, 0 ≤ j → j < n → (∀ x : Int, 0 ≤ x → x < n → x ≠ j → g x = f x) → cnb g n = cnb f n + 1
  | 0, h1, h2, _ => by omega
  | n + 1, h1, h2, h => by
    rw [cnb, cnb]
    by_cases e : (n : Int) = j
    · rw [e, if_pos hg, if_neg (by rw [hf]; decide)]
      have a := cnb_mono f g n (fun x a b c => by rw [h x a (by omega) (by omega)]; exact c)
      have b := cnb_mono g f n (fun x a b c => by rw [← h x a (by omega) (by omega)]; exact c)
      omega
    · have ih := cnb_set f g hf hg n h1 (by omega) (fun x a b c => h x a (by omega) c)
      rw [h n (by omega) (by omega) e, ih]; omega
theorem cnb_free (f : Int → Bool) {j : Int} (hf : f j = false) (n : Nat) (h1 : 0 ≤ j) (h2 : j < n) : cnb f n ≤ n - 1 := by
  have a := cnb_set f (fun x => if x = j then true else f x) hf (by simp) n h1 h2 (fun x a b c => by simp [c])
  have b := cnb_le (fun x => if x = j then true else f x) n
  omega
/-- what is kept: head h -/
def GI (tm : Int64) (h : Int) (s : CS) : Prop := WF tm s.1 ∧ DE s.1 ∧ (0 ≤ h ∧ h ≤ s.2.2.2 ∧ s.2.2.2 ≤ cnb (rbt s.2.1) 32) ∧ (∀ j : Int, h ≤ j → j < s.2.2.2 → drI s.1 (s.2.2.1.1 j)) ∧ (∀ j : Int, 0 ≤ j → j < 32 → rbt s.2.1 j = true → kd s.1 j ≠ 0)
section GI
variable {tm : Int64} {h : Int} {s : CS} {dr e : Int}
theorem GI.W (g : GI tm h s) : WF tm s.1 := g.1
theorem GI.D (g : GI tm h s) : DE s.1 := g.2.1
theorem GI.T (g : GI tm h s) : 0 ≤ h ∧ h ≤ s.2.2.2 ∧ s.2.2.2 ≤ cnb (rbt s.2.1) 32 ∧ s.2.2.2 ≤ 32 := by
  have := g.2.2.1; have b := cnb_le (rbt s.2.1) 32; omega
theorem GI.Q (g : GI tm h s) : ∀ j : Int, h ≤ j → j < s.2.2.2 → drI s.1 (s.2.2.1.1 j) := g.2.2.2.1
theorem GI.K (g : GI tm h s) : ∀ j : Int, 0 ≤ j → j < 32 → rbt s.2.1 j = true → kd s.1 j ≠ 0 := g.2.2.2.2
theorem GI.F (g : GI tm h s) {j : Int} (h1 : 0 ≤ j) (h2 : j < 32) (hf : rbt s.2.1 j = false) : s.2.2.2 < 32 := by
  have := g.T; have b := cnb_free (rbt s.2.1) hf 32 h1 (by omega); omega
end GI
theorem kd_R {d : Im} {i : Int} (h : kd d i ≠ 0) : inR i := by
  unfold kd at h
  by_cases c : inR i
  · exact c
  · rw [if_neg c] at h; exact absurd rfl h
theorem rs_id {r : Int32} {i : Int} (hi : 0 ≤ i ∧ i < 32) (h : rbt r i = true) {j : Int} (hj : 0 ≤ j ∧ j < 32) : rbt (rset r i) j = rbt r j := by
  rw [rbt_rset r hi hj]
  by_cases e : j = i
  · subst e; rw [h]; rfl
  · rw [decide_eq_false e, Bool.or_false]
theorem rs_up {r : Int32} {i : Int} (hi : 0 ≤ i ∧ i < 32) {j : Int} (hj : 0 ≤ j ∧ j < 32) : upB (rbt r) i true j = rbt (rset r i) j := by
  rw [rbt_rset r hi hj]
  unfold upB
  by_cases e : j = i
  · rw [if_pos e, decide_eq_true e, Bool.or_true]
  · rw [if_neg e, decide_eq_false e, Bool.or_false]
theorem rhQ_n {d q : Im} {t i : Int} (h : ¬ kd d i = 2) : rhQ d q t i = q := by
  unfold rhQ rhX
  rw [if_neg (fun z => h z.1)]
theorem rhT_n {d : Im} {t i : Int} (h : ¬ kd d i = 2) : rhT d t i = t := by
  unfold rhT rhX
  rw [if_neg (fun z => h z.1)]
theorem rhQ_k {d e : Im} {q : Im} {t i : Int} (h : kd e i = kd d i) : rhQ e q t i = rhQ d q t i := by
  unfold rhQ rhX; rw [h]
theorem rhT_k {d e : Im} {t i : Int} (h : kd e i = kd d i) : rhT e t i = rhT d t i := by
  unfold rhT rhX; rw [h]
section FOL
variable {s : CS} {dr p : Int}
theorem fo_a (hp : 0 ≤ p ∧ p < 4096) (h1 : kd s.1 (s.1.1 p) = 2) (h2 : rbt s.2.1 (s.1.1 p) = true) : fol s dr p = (im_wipe s.1 p 16, s.2.1, s.2.2.1, s.2.2.2) := by
  unfold fol; rw [im_at_in s.1 hp, if_pos ⟨h1, h2⟩]
theorem fo_0 (hp : 0 ≤ p ∧ p < 4096) (h0 : kd s.1 0 = 0) (h1 : s.1.1 p = 0) : fol s dr p = s := by
  unfold fol; rw [im_at_in s.1 hp, h1, if_neg (by omega), if_pos h0]
theorem fo_3 (hp : 0 ≤ p ∧ p < 4096) (h1 : ¬ kd s.1 (s.1.1 p) = 2) (h2 : kd s.1 (s.1.1 p) ≠ 0) : fol s dr p = (s.1, rset s.2.1 (s.1.1 p), s.2.2.1, s.2.2.2) := by
  unfold fol; rw [im_at_in s.1 hp, if_neg (fun z => h1 z.1), if_neg h2, rhQ_n h1, rhT_n h1]
  unfold spd; rw [if_neg h1]
theorem fo_4 (hp : 0 ≤ p ∧ p < 4096) (h1 : kd s.1 (s.1.1 p) = 2) (h2 : rbt s.2.1 (s.1.1 p) = false) (h3 : 0 ≤ ep s.1 (s.1.1 p) 1 ∧ ep s.1 (s.1.1 p) 1 < 4096) (h4 : kd (up s.1 (ep s.1 (s.1.1 p) 1) dr) (s.1.1 p) = kd s.1 (s.1.1 p)) : fol s dr p = (up s.1 (ep s.1 (s.1.1 p) 1) dr, rset s.2.1 (s.1.1 p), rhQ (up s.1 (ep s.1 (s.1.1 p) 1) dr) s.2.2.1 s.2.2.2 (s.1.1 p), rhT (up s.1 (ep s.1 (s.1.1 p) 1) dr) s.2.2.2 (s.1.1 p)) := by
  unfold fol
  rw [im_at_in s.1 hp, if_neg (fun z => by rw [h2] at z; cases z.2), if_neg (by omega), rhQ_k h4, rhT_k h4]
  unfold spd
  rw [if_pos h1, im_set_in _ (by exact h3)]
  rfl
end FOL
theorem up_cg (d : Im) (p v : Int) : cgE d (up d p v) p := fun j hj => by rw [up_at, if_neg (by omega)]
section FG
variable {tm : Int64} {d e : Im} {i p : Int}
/-- an entry that is no longer what it was -/
theorem cg_DE (h : WF tm d) (hi : drI d i) (hp : 0 ≤ p) (hb : p < sz d i / 16) (hc : cgE d e (ep d i p)) (ht : p < 2 ∨ enT e (ep d i p)) (D : DE d) : DE e := by
  intro j hj hjn q a b
  have hj2 : drI d j := ⟨hj.1, hj.2.1, by rw [← cg_kd h hi hp hb hc]; exact hj.2.2⟩
  rw [cg_sz h hi hp hb hc] at b
  rw [cg_ep h hi hp hb hc hj2 (by omega) b]
  by_cases c : i = j ∧ p = q
  · obtain ⟨rfl, rfl⟩ := c
    rcases ht with t | t
    · omega
    · exact t
  · exact cg_enT h hi hp hb hc hj2 (by omega) b c (D j hj2 hjn q a b)
end FG
section FF
variable {tm : Int64} {h : Int} {s : CS} {dr e : Int}
/-- what a step of going through changes of the image -/
theorem fo_cg (g : GI tm h s) (hd : drI s.1 dr) (he : 2 ≤ e) (hb : e < sz s.1 dr / 16) : ∃ i p : Int, drI s.1 i ∧ 0 ≤ p ∧ p < sz s.1 i / 16 ∧ cgE s.1 (fol s dr (ep s.1 dr e)).1 (ep s.1 i p) ∧ (p < 2 ∨ enT (fol s dr (ep s.1 dr e)).1 (ep s.1 i p)) := by
  have er := g.W.ep_rgE hd (p := e) (by omega) hb
  have hp : 0 ≤ ep s.1 dr e ∧ ep s.1 dr e < 4096 := by omega
  have s0 := g.W.szE hd
  by_cases k2 : kd s.1 (s.1.1 (ep s.1 dr e)) = 2
  · by_cases r : rbt s.2.1 (s.1.1 (ep s.1 dr e)) = true
    · rw [fo_a hp k2 r]
      refine ⟨dr, e, hd, by omega, hb, wp_cg s.1 (by omega), Or.inr (Or.inl (fun j a b => wipe_in _ (by unfold rgP; omega) (by omega)))⟩
    · have r0 : rbt s.2.1 (s.1.1 (ep s.1 dr e)) = false := by cases z : rbt s.2.1 (s.1.1 (ep s.1 dr e)) with | false => rfl | true => exact absurd z r
      have hi := kd_R (d := s.1) (i := s.1.1 (ep s.1 dr e)) (by omega)
      have n0 : s.1.1 (ep s.1 dr e) ≠ 0 := fun z => by rw [z, g.W.k0] at k2; omega
      have dv : drI s.1 (s.1.1 (ep s.1 dr e)) := ⟨by omega, by omega, k2⟩
      have sv := g.W.szE dv
      have e1 := g.W.ep_rgE dv (p := 1) (by omega) (by omega)
      have c := up_cg s.1 (ep s.1 (s.1.1 (ep s.1 dr e)) 1) dr
      rw [fo_4 hp k2 r0 (by omega) (cg_kd g.W dv (by omega) (by omega) c _)]
      exact ⟨_, 1, dv, by omega, by omega, c, Or.inl (by omega)⟩
  · refine ⟨dr, e, hd, by omega, hb, ?_⟩
    have en : enT s.1 (ep s.1 dr e) := g.D dr hd hd.2.1 e he hb
    by_cases k0 : kd s.1 (s.1.1 (ep s.1 dr e)) = 0
    · have : fol s dr (ep s.1 dr e) = s := by unfold fol; rw [im_at_in s.1 hp, if_neg (fun z => k2 z.1), if_pos k0]
      rw [this]
      exact ⟨cgE.rf _ _, Or.inr en⟩
    · rw [fo_3 hp k2 k0]
      exact ⟨cgE.rf _ _, Or.inr en⟩
theorem fo_kd (g : GI tm h s) (hd : drI s.1 dr) (he : 2 ≤ e) (hb : e < sz s.1 dr / 16) (j : Int) : kd (fol s dr (ep s.1 dr e)).1 j = kd s.1 j := by
  obtain ⟨i, p, h1, h2, h3, h4, h5⟩ := fo_cg g hd he hb
  exact cg_kd g.W h1 h2 h3 h4 j
theorem fo_sz (g : GI tm h s) (hd : drI s.1 dr) (he : 2 ≤ e) (hb : e < sz s.1 dr / 16) (j : Int) : sz (fol s dr (ep s.1 dr e)).1 j = sz s.1 j := by
  obtain ⟨i, p, h1, h2, h3, h4, h5⟩ := fo_cg g hd he hb
  exact cg_sz g.W h1 h2 h3 h4 j
theorem fo_dr (g : GI tm h s) (hd : drI s.1 dr) (he : 2 ≤ e) (hb : e < sz s.1 dr / 16) : drI (fol s dr (ep s.1 dr e)).1 dr := ⟨hd.1, hd.2.1, by rw [fo_kd g hd he hb]; exact hd.2.2⟩
/-- an inode reached keeps the rest -/
theorem rh_GI {d : Im} {r : Int32} {q : Im} {t v : Int} (W : WF tm d) (D : DE d) (T : 0 ≤ h ∧ h ≤ t ∧ t ≤ cnb (rbt r) 32) (Q : ∀ j : Int, h ≤ j → j < t → drI d (q.1 j)) (K : ∀ j : Int, 0 ≤ j → j < 32 → rbt r j = true → kd d j ≠ 0) (hv : kd d v ≠ 0) (hf : kd d v = 2 → rbt r v = false) : GI tm h (d, rset r v, rhQ d q t v, rhT d t v) := by
  have hi := kd_R hv
  have v0 : v ≠ 0 := fun z => by rw [z, W.k0] at hv; exact hv rfl
  have mono : cnb (rbt r) 32 ≤ cnb (rbt (rset r v)) 32 := cnb_mono _ _ 32 (fun j a b c => by rw [rbt_rset r hi ⟨a, by omega⟩, c]; rfl)
  have K2 : ∀ j : Int, 0 ≤ j → j < 32 → rbt (rset r v) j = true → kd d j ≠ 0 := fun j a b c => by
    rw [rbt_rset r hi ⟨a, b⟩, Bool.or_eq_true, decide_eq_true_iff] at c
    rcases c with c | c
    · exact K j a b c
    · rw [c]; exact hv
  by_cases k2 : kd d v = 2
  · have f := hf k2
    have t31 := cnb_free (rbt r) f 32 hi.1 (by omega)
    have st := cnb_set (rbt r) (rbt (rset r v)) f (by rw [rbt_rset r hi hi, decide_eq_true rfl, Bool.or_true]) 32 hi.1 (by omega) (fun x a b c => by rw [rbt_rset r hi ⟨a, by omega⟩, decide_eq_false c, Bool.or_false])
    have x : rhX d t v := ⟨k2, by omega, by omega⟩
    have eQ : rhQ d q t v = up q t v := by unfold rhQ; rw [if_pos x]
    have eT : rhT d t v = t + 1 := by unfold rhT; rw [if_pos x]
    rw [eQ, eT]
    refine ⟨W, D, ⟨T.1, by show h ≤ t + 1; omega, by show t + 1 ≤ cnb (rbt (rset r v)) 32; omega⟩, fun j a b => ?_, K2⟩
    have b2 : j < t + 1 := b
    show drI d ((up q t v).1 j)
    rw [up_at]
    by_cases c : j = t
    · rw [if_pos c, show v % 256 = v by omega]; exact ⟨by omega, by omega, k2⟩
    · rw [if_neg c]; exact Q j a (by omega)
  · rw [rhQ_n k2, rhT_n k2]
    exact ⟨W, D, ⟨T.1, T.2.1, by show t ≤ cnb (rbt (rset r v)) 32; omega⟩, Q, K2⟩
theorem fo_GI (g : GI tm h s) (hd : drI s.1 dr) (he : 2 ≤ e) (hb : e < sz s.1 dr / 16) : GI tm h (fol s dr (ep s.1 dr e)) := by
  have k := fo_kd g hd he hb
  have er := g.W.ep_rgE hd (p := e) (by omega) hb
  have hp : 0 ≤ ep s.1 dr e ∧ ep s.1 dr e < 4096 := by omega
  have W : WF tm (fol s dr (ep s.1 dr e)).1 ∧ DE (fol s dr (ep s.1 dr e)).1 := by
    obtain ⟨i, p, h1, h2, h3, h4, h5⟩ := fo_cg g hd he hb
    exact ⟨cg_WF g.W h1 h2 h3 h4, cg_DE g.W h1 h2 h3 h4 h5 g.D⟩
  have T := g.T
  by_cases k2 : kd s.1 (s.1.1 (ep s.1 dr e)) = 2
  · by_cases r : rbt s.2.1 (s.1.1 (ep s.1 dr e)) = true
    · rw [fo_a hp k2 r] at W k ⊢
      exact ⟨W.1, W.2, ⟨T.1, T.2.1, T.2.2.1⟩, fun j a b => ⟨(g.Q j a b).1, (g.Q j a b).2.1, by rw [k]; exact (g.Q j a b).2.2⟩, fun j a b c => by rw [k]; exact g.K j a b c⟩
    · have r0 : rbt s.2.1 (s.1.1 (ep s.1 dr e)) = false := by cases z : rbt s.2.1 (s.1.1 (ep s.1 dr e)) with | false => rfl | true => exact absurd z r
      have hi := kd_R (d := s.1) (i := s.1.1 (ep s.1 dr e)) (by omega)
      have n0 : s.1.1 (ep s.1 dr e) ≠ 0 := fun z => by rw [z, g.W.k0] at k2; omega
      have dv : drI s.1 (s.1.1 (ep s.1 dr e)) := ⟨by omega, by omega, k2⟩
      have sv := g.W.szE dv
      have e1 := g.W.ep_rgE dv (p := 1) (by omega) (by omega)
      have c := up_cg s.1 (ep s.1 (s.1.1 (ep s.1 dr e)) 1) dr
      rw [fo_4 hp k2 r0 (by omega) (cg_kd g.W dv (by omega) (by omega) c _)] at W k ⊢
      exact rh_GI W.1 W.2 ⟨T.1, T.2.1, T.2.2.1⟩ (fun j a b => ⟨(g.Q j a b).1, (g.Q j a b).2.1, by rw [k]; exact (g.Q j a b).2.2⟩) (fun j a b c => by rw [k]; exact g.K j a b c) (by rw [k]; omega) (fun _ => r0)
  · by_cases k0 : kd s.1 (s.1.1 (ep s.1 dr e)) = 0
    · have : fol s dr (ep s.1 dr e) = s := by unfold fol; rw [im_at_in s.1 hp, if_neg (fun z => k2 z.1), if_pos k0]
      rw [this]; exact g
    · rw [fo_3 hp k2 k0]
      have := rh_GI g.W g.D ⟨T.1, T.2.1, T.2.2.1⟩ g.Q g.K (v := s.1.1 (ep s.1 dr e)) k0 (fun z => absurd z k2)
      rwa [rhQ_n k2, rhT_n k2] at this
theorem GI.hh {h' : Int} (g : GI tm h s) (h1 : h ≤ h') (h2 : h' ≤ s.2.2.2) : GI tm h' s := ⟨g.1, g.2.1, ⟨by have := g.T; omega, h2, g.2.2.1.2.2⟩, fun j a b => g.2.2.2.1 j (by omega) b, g.2.2.2.2⟩
end FF
