/-! THE PLAN DOESN'T HANG ON WHAT LAY IN THE QUEUE AND IN THE NAMES -/
def qeq (s s' : CS) : Prop := s.1 = s'.1 ∧ s.2.1 = s'.2.1 ∧ s.2.2.2 = s'.2.2.2 ∧ ∀ j : Int, 0 ≤ j → j < s.2.2.2 → s.2.2.1.1 j = s'.2.2.1.1 j
section QE
theorem rh_q {d q q' : Im} {t i : Int} (h : ∀ j : Int, 0 ≤ j → j < t → q.1 j = q'.1 j) : ∀ j : Int, 0 ≤ j → j < rhT d t i → (rhQ d q t i).1 j = (rhQ d q' t i).1 j := by
  intro j a b
  unfold rhT at b
  unfold rhQ
  by_cases x : rhX d t i
  · rw [if_pos x] at b
    rw [if_pos x, if_pos x, up_at, up_at]
    by_cases e : j = t
    · rw [if_pos e, if_pos e]
    · rw [if_neg e, if_neg e]; exact h j a (by omega)
  · rw [if_neg x] at b
    rw [if_neg x, if_neg x]; exact h j a b
theorem fol_q {s s' : CS} (h : qeq s s') (dir p : Int) : qeq (fol s dir p) (fol s' dir p) := by
  obtain ⟨d, r, q, t⟩ := s
  obtain ⟨d', r', q', t'⟩ := s'
  obtain ⟨h1, h2, h3, h4⟩ := h
  dsimp only at h1 h2 h3 h4
  subst h1 h2 h3
  unfold fol
  dsimp only
  split
  · exact ⟨rfl, rfl, rfl, h4⟩
  · split
    · exact ⟨rfl, rfl, rfl, h4⟩
    · exact ⟨rfl, rfl, rfl, rh_q h4⟩
theorem gts_q (dir : Int) : ∀ (f : Nat) (e : Int) (s s' : CS), qeq s s' → qeq (gts dir f e s) (gts dir f e s')
  | 0, e, s, s', h => h
  | f + 1, e, s, s', h => by
    rw [gts, gts, ← h.1]
    exact gts_q dir f (e + 1) _ _ (fol_q h dir _)
theorem gto_q : ∀ (f : Nat) (h : Int) (s s' : CS), 0 ≤ h → qeq s s' → (gto f h s).1 = (gto f h s').1 ∧ qeq (gto f h s).2 (gto f h s').2
  | 0, h, s, s', _, e => ⟨rfl, e⟩
  | f + 1, h, s, s', h0, e => by
    rw [gto, gto, ← e.2.2.1]
    by_cases c : h < s.2.2.2
    · rw [if_pos c, if_pos c, ← e.2.2.2 h h0 c, ← e.1]
      exact gto_q f (h + 1) _ _ (by omega) (gts_q _ _ _ _ _ e)
    · rw [if_neg c, if_neg c]; exact ⟨rfl, e⟩
theorem goF_q {h : Int} {s s' : CS} (h0 : 0 ≤ h) (e : qeq s s') : (goF h s).1 = (goF h s').1 ∧ qeq (goF h s).2 (goF h s').2 := gto_q _ h s s' h0 e
def teq (t t' : CT) : Prop := t.1 = t'.1 ∧ t.2.1 = t'.2.1 ∧ qeq t.2.2.1 t'.2.2.1
theorem cst_q {t t' : CT} (h : teq t t') (h0 : 0 ≤ t.2.1) (i : Int) : teq (cst t i) (cst t' i) := by
  obtain ⟨x, hh, ⟨d, r, q, tl⟩, u, v⟩ := t
  obtain ⟨x', hh', ⟨d', r', q', tl'⟩, u', v'⟩ := t'
  obtain ⟨g1, g2, h1, h2, h3, h4⟩ := h
  dsimp only at g1 g2 h0 h1 h2 h3 h4
  subst g1 g2 h1 h2 h3
  by_cases k0 : kd d i = 0
  · rw [cst_A k0, cst_A k0]; exact ⟨rfl, rfl, rfl, rfl, rfl, h4⟩
  · by_cases k1 : rbt r i = true
    · rw [cst_B k1, cst_B k1]; exact ⟨rfl, rfl, rfl, rfl, rfl, h4⟩
    · have k2 : rbt r i = false := by cases z : rbt r i with | false => rfl | true => exact absurd z k1
      have fe := fns_E d i (if rbt r 2 = true then 12 else 0) 1 u u' v v' (by omega)
      change (fnF d r i u v).1 = (fnF d r i u' v').1 ∧ ((fnF d r i u v).1 = true → (fnF d r i u v).2.2 = (fnF d r i u' v').2.2 ∧ nmE (fnF d r i u v).2.1 (fnF d r i u' v').2.1 (fnF d r i u' v').2.2) at fe
      by_cases f : (fnF d r i u v).1 = true
      · have f' : (fnF d r i u' v').1 = true := by rw [← fe.1]; exact f
        by_cases m : rmR x d 2 = -1
        · rw [cst_R k0 k2 f m, cst_R k0 k2 f' m]; exact ⟨rfl, rfl, rfl, rfl, rfl, h4⟩
        · rw [cst_P k0 k2 f m, cst_P k0 k2 f' m]
          have n := fe.2 f
          have w : we (rmD x d 2) (rmR x d 2) i (fnF d r i u v).2.1 (fnF d r i u v).2.2 = we (rmD x d 2) (rmR x d 2) i (fnF d r i u' v').2.1 (fnF d r i u' v').2.2 := by
            rw [n.1]; exact n.2.weE _ _ _
          have e : qeq (paF (rmD x d 2, r, q, tl) i (rmR x d 2) (fnF d r i u v).2.1 (fnF d r i u v).2.2) (paF (rmD x d 2, r, q', tl) i (rmR x d 2) (fnF d r i u' v').2.1 (fnF d r i u' v').2.2) := by
            unfold paF
            dsimp only
            rw [w]
            exact ⟨rfl, rfl, rfl, rh_q h4⟩
          have g := goF_q h0 e
          exact ⟨rfl, g.1, g.2⟩
      · have f0 : (fnF d r i u v).1 = false := by cases z : (fnF d r i u v).1 with | false => rfl | true => exact absurd z f
        rw [cst_F k0 k2 f0, cst_F k0 k2 (by rw [← fe.1]; exact f0)]; exact ⟨rfl, rfl, rfl, rfl, rfl, h4⟩
theorem gto_h : ∀ (f : Nat) (h : Int) (s : CS), 0 ≤ h → 0 ≤ (gto f h s).1
  | 0, h, s, h0 => h0
  | f + 1, h, s, h0 => by
    rw [gto]
    split
    · exact gto_h f (h + 1) _ (by omega)
    · exact h0
theorem cst_h {t : CT} (h0 : 0 ≤ t.2.1) (i : Int) : 0 ≤ (cst t i).2.1 := by
  unfold cst
  split
  · exact h0
  · split
    · exact h0
    · exact gto_h _ _ _ h0
theorem cns_q : ∀ (f : Nat) (i : Int) (t t' : CT), teq t t' → 0 ≤ t.2.1 → teq (cns f i t) (cns f i t')
  | 0, i, t, t', h, _ => h
  | f + 1, i, t, t', h, h0 => by rw [cns, cns]; exact cns_q f (i + 1) _ _ (cst_q h h0 i) (cst_h h0 i)
theorem coF_q (tk : Int64) (d q q' nb nb' : Im) (n n' : Int) : teq (coF tk d q nb n) (coF tk d q' nb' n') := by
  unfold coF
  have e : (co0 d q).1 = (co0 d q').1 ∧ qeq (co0 d q).2 (co0 d q').2 := by
    unfold co0
    split
    · exact ⟨rfl, rfl, rfl, rfl, fun j a b => absurd b (by show ¬ j < 0; omega)⟩
    · exact goF_q (by omega) ⟨rfl, rfl, rfl, rh_q (fun j a b => by omega)⟩
  refine cns_q 31 1 _ _ ⟨rfl, e.1, e.2⟩ ?_
  show 0 ≤ (co0 d q).1
  exact (co0_rg d q).1.1
end QE
-- the plan, told without them
def pzT (dk : Im) : Int64 := (riF (jnR dk)).1
def pzD (dk : Im) : Im := tdr 31 1 (riF (jnR dk)).2
def pzC (dk : Im) : CT := coF (pzT dk) (pzD dk) zIm zIm 0
def plZ (dk : Im) : Im := stD (pzC dk).1 (pzC dk).2.2.1.1
theorem pz_q (dk q nb : Im) (n : Int) : (coF (pzT dk) (pzD dk) q nb n).1 = (pzC dk).1 ∧ (coF (pzT dk) (pzD dk) q nb n).2.2.1.1 = (pzC dk).2.2.1.1 := by
  have h := coF_q (pzT dk) (pzD dk) q zIm nb zIm n 0
  unfold pzC
  exact ⟨h.1, h.2.2.1⟩
theorem pl4_E (dk nb : Im) (n : Int) (q cb : Im) (cn : Int) : (pl4 dk nb n q cb cn).1 = (pzC dk).1 ∧ (pl4 dk nb n q cb cn).2.2.1.1 = (pzC dk).2.2.1.1 := by
  have h := pz_q dk q cb cn
  unfold pzT pzD at h
  unfold pl4
  rw [(pT_2 dk nb).1, pl3_E dk nb n]
  exact h
theorem plD_E (dk nb : Im) (n : Int) (q cb : Im) (cn : Int) : plD dk nb n q cb cn = plZ dk := by
  have h := pl4_E dk nb n q cb cn
  unfold plD plZ
  rw [h.1, h.2]
theorem plR_E (dk nb : Im) (n : Int) (q cb : Im) (cn : Int) : plR dk nb n q cb cn = cds (plZ dk) dk 64 0 0 := by
  unfold plR; rw [plD_E]
