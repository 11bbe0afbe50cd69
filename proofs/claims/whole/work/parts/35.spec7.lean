theorem co0_rg (d q : Im) : (0 ≤ (co0 d q).1 ∧ (co0 d q).1 ≤ 32) ∧ (0 ≤ (co0 d q).2.2.2.2 ∧ (co0 d q).2.2.2.2 ≤ 32) := by
  unfold co0
  split
  · exact ⟨⟨by show (0 : Int) ≤ 0; decide, by show (0 : Int) ≤ 32; decide⟩, by show (0 : Int) ≤ 0; decide, by show (0 : Int) ≤ 32; decide⟩
  · exact goF_rg 0 _ (rhT_rg d 0 1 (by omega)) (by omega)
section CST
variable {x : Int64} {hh t2 v i : Int} {r : Int32} {y z u : Im}
theorem cst_A (h : kd y i = 0) : cst (x, hh, (y, r, z, t2), u, v) i = (x, hh, (y, r, z, t2), u, v) := by
  unfold cst; rw [if_pos (Or.inl h)]
theorem cst_B (h : rbt r i = true) : cst (x, hh, (y, r, z, t2), u, v) i = (x, hh, (y, r, z, t2), u, v) := by
  unfold cst; rw [if_pos (Or.inr h)]
theorem cst_N (h1 : ¬ kd y i = 0) (h2 : rbt r i = false) : ¬ (kd (x, hh, ((y, r, z, t2) : CS), u, v).2.2.1.1 i = 0 ∨ rbt (x, hh, ((y, r, z, t2) : CS), u, v).2.2.1.2.1 i = true) := by
  rintro (q | q)
  · exact h1 q
  · rw [show rbt r i = true from q] at h2; cases h2
theorem cst_F (h1 : ¬ kd y i = 0) (h2 : rbt r i = false) (h3 : (fnF y r i u v).1 = false) : cst (x, hh, (y, r, z, t2), u, v) i = (erT x y i, hh, (wed i 31 1 (im_wipe y (512 + i * 16) 16), r, z, t2), (fnF y r i u v).2.1, (fnF y r i u v).2.2) := by
  have e : ¬ (fnF y r i u v).1 = true := by rw [h3]; decide
  unfold cst
  rw [if_neg (cst_N h1 h2), if_pos (by unfold coP coN; dsimp only; rw [if_neg e])]
  unfold coT coD coN
  dsimp only
  rw [if_neg e, if_neg e]
theorem cst_R (h1 : ¬ kd y i = 0) (h2 : rbt r i = false) (h3 : (fnF y r i u v).1 = true) (h4 : rmR x y 2 = -1) : cst (x, hh, (y, r, z, t2), u, v) i = (erT (rmT x y 2) (rmD x y 2) i, hh, (wed i 31 1 (im_wipe (rmD x y 2) (512 + i * 16) 16), r, z, t2), (fnF y r i u v).2.1, (fnF y r i u v).2.2) := by
  unfold cst
  rw [if_neg (cst_N h1 h2), if_pos (by unfold coP coN; dsimp only; rw [if_pos h3]; exact h4)]
  unfold coT coD coN
  dsimp only
  rw [if_pos h3, if_pos h3]
theorem cst_P (h1 : ¬ kd y i = 0) (h2 : rbt r i = false) (h3 : (fnF y r i u v).1 = true) (h4 : ¬ rmR x y 2 = -1) : cst (x, hh, (y, r, z, t2), u, v) i = (rmT x y 2, (goF hh (paF (rmD x y 2, r, z, t2) i (rmR x y 2) (fnF y r i u v).2.1 (fnF y r i u v).2.2)).1, (goF hh (paF (rmD x y 2, r, z, t2) i (rmR x y 2) (fnF y r i u v).2.1 (fnF y r i u v).2.2)).2, (fnF y r i u v).2.1, (fnF y r i u v).2.2) := by
  unfold cst
  rw [if_neg (cst_N h1 h2), if_neg (by unfold coP coN; dsimp only; rw [if_pos h3]; exact h4)]
  unfold coG coT coD coP coN
  dsimp only
  rw [if_pos h3, if_pos h3, if_pos h3]
end CST
