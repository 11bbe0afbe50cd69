/-! PASS 3: AN INODE PUT INTO LOST AND FOUND -/
theorem en_we {x : Int64} {y nb nc : Im} {i n m : Int} (h : ¬ rmR x y 2 = -1) (hn : n = m) (e : nmE nb nc n) : enD x y 2 i nb n = we (rmD x y 2) (rmR x y 2) i nc m := by
  unfold enD; rw [if_neg h, e.weE, hn]
theorem pa_1 {E D q nc : Im} {r : Int32} {tl i P m : Int} (hE : E = we D P i nc m) (hk : ¬ kd E i = 2) : paF (D, r, q, tl) i P nc m = (E, rset r i, rhQ E q tl i, rhT E tl i) := by
  unfold paF spd
  dsimp only
  rw [← hE, if_neg hk]
theorem pa_2 {E D q nc : Im} {r : Int32} {tl i P m : Int} (hE : E = we D P i nc m) (hk : kd E i = 2) (hp : 0 ≤ ep E i 1 ∧ ep E i 1 < 4096) (hu : kd (up E (ep E i 1) 2) i = kd E i) : paF (D, r, q, tl) i P nc m = (up E (ep E i 1) 2, rset r i, rhQ (up E (ep E i 1) 2) q tl i, rhT (up E (ep E i 1) 2) tl i) := by
  unfold paF spd
  dsimp only
  rw [← hE, if_pos hk, rhQ_k hu, rhT_k hu, im_set_in _ (by exact hp)]
  rfl
section CP
variable {t : CT} {i : Int}
theorem CI.pg {x : Int64} {E : Im} (c : CI t) (W : WF x E) (D : DE E) (K : ∀ j : Int, kd E j = kd t.2.2.1.1 j) (hk : kd E i ≠ 0) (hr : rbt t.2.2.1.2.1 i = false) : GI x t.2.1 (E, rset t.2.2.1.2.1 i, rhQ E t.2.2.1.2.2.1 t.2.2.1.2.2.2 i, rhT E t.2.2.1.2.2.2 i) := by
  have T := c.1.T
  have e := c.2.1
  exact rh_GI W D ⟨T.1, T.2.1, T.2.2.1⟩ (fun j a b => by omega) (fun j a b w => by rw [K]; exact c.1.K j a b w) hk (fun _ => hr)
/-- behind putting it there and going on -/
theorem CI.put {x : Int64} {E : Im} {S : CS} (c : CI t) (hi : inR i) (u : Im) (v : Int) (K : ∀ j : Int, kd E j = kd t.2.2.1.1 j) (hS : S = (E, rset t.2.2.1.2.1 i, rhQ E t.2.2.1.2.2.1 t.2.2.1.2.2.2 i, rhT E t.2.2.1.2.2.2 i)) (g : GI x t.2.1 S) (g2 : GI x (goF t.2.1 S).1 (goF t.2.1 S).2) (e2 : (goF t.2.1 S).1 = (goF t.2.1 S).2.2.2.2) : CI (x, (goF t.2.1 S).1, (goF t.2.1 S).2, u, v) := by
  have iv := gto_inv (32 - t.2.1).toNat t.2.1 S g
  change (∀ j : Int, kd (goF t.2.1 S).2.1 j = kd S.1 j) ∧ (∀ j : Int, 0 ≤ j → j < 32 → rbt S.2.1 j = true → rbt (goF t.2.1 S).2.2.1 j = true) at iv
  generalize goF t.2.1 S = z at *
  refine ⟨g2, e2, fun w => iv.2 2 (by omega) (by omega) ?_⟩
  have w2 : kd z.2.1 2 ≠ 0 := w
  rw [iv.1, hS] at w2
  have w3 : kd E 2 ≠ 0 := w2
  rw [K] at w3
  rw [hS]
  show rbt (rset t.2.2.1.2.1 i) 2 = true
  rw [rbt_rset _ hi (by omega), c.2.2 w3]; rfl
theorem cs_A (h : kd t.2.2.1.1 i = 0 ∨ rbt t.2.2.1.2.1 i = true) : cst t i = t := by unfold cst; rw [if_pos h]
theorem cs_F (h1 : ¬ kd t.2.2.1.1 i = 0) (h2 : rbt t.2.2.1.2.1 i = false) (h3 : (fnF t.2.2.1.1 t.2.2.1.2.1 i t.2.2.2.1 t.2.2.2.2).1 = false) : cst t i = (erT t.1 t.2.2.1.1 i, t.2.1, (wed i 31 1 (im_wipe t.2.2.1.1 (512 + i * 16) 16), t.2.2.1.2.1, t.2.2.1.2.2.1, t.2.2.1.2.2.2), (fnF t.2.2.1.1 t.2.2.1.2.1 i t.2.2.2.1 t.2.2.2.2).2.1, (fnF t.2.2.1.1 t.2.2.1.2.1 i t.2.2.2.1 t.2.2.2.2).2.2) := by
  obtain ⟨x, hh, ⟨y, r, z, t2⟩, u, v⟩ := t
  exact cst_F h1 h2 h3
theorem cs_R (h1 : ¬ kd t.2.2.1.1 i = 0) (h2 : rbt t.2.2.1.2.1 i = false) (h3 : (fnF t.2.2.1.1 t.2.2.1.2.1 i t.2.2.2.1 t.2.2.2.2).1 = true) (h4 : rmR t.1 t.2.2.1.1 2 = -1) : cst t i = (erT (rmT t.1 t.2.2.1.1 2) (rmD t.1 t.2.2.1.1 2) i, t.2.1, (wed i 31 1 (im_wipe (rmD t.1 t.2.2.1.1 2) (512 + i * 16) 16), t.2.2.1.2.1, t.2.2.1.2.2.1, t.2.2.1.2.2.2), (fnF t.2.2.1.1 t.2.2.1.2.1 i t.2.2.2.1 t.2.2.2.2).2.1, (fnF t.2.2.1.1 t.2.2.1.2.1 i t.2.2.2.1 t.2.2.2.2).2.2) := by
  obtain ⟨x, hh, ⟨y, r, z, t2⟩, u, v⟩ := t
  exact cst_R h1 h2 h3 h4
theorem cs_P (h1 : ¬ kd t.2.2.1.1 i = 0) (h2 : rbt t.2.2.1.2.1 i = false) (h3 : (fnF t.2.2.1.1 t.2.2.1.2.1 i t.2.2.2.1 t.2.2.2.2).1 = true) (h4 : ¬ rmR t.1 t.2.2.1.1 2 = -1) {S : CS} (hS : S = paF (rmD t.1 t.2.2.1.1 2, t.2.2.1.2.1, t.2.2.1.2.2.1, t.2.2.1.2.2.2) i (rmR t.1 t.2.2.1.1 2) (fnF t.2.2.1.1 t.2.2.1.2.1 i t.2.2.2.1 t.2.2.2.2).2.1 (fnF t.2.2.1.1 t.2.2.1.2.1 i t.2.2.2.1 t.2.2.2.2).2.2) : cst t i = (rmT t.1 t.2.2.1.1 2, (goF t.2.1 S).1, (goF t.2.1 S).2, (fnF t.2.2.1.1 t.2.2.1.2.1 i t.2.2.2.1 t.2.2.2.2).2.1, (fnF t.2.2.1.1 t.2.2.1.2.1 i t.2.2.2.1 t.2.2.2.2).2.2) := by
  subst hS
  obtain ⟨x, hh, ⟨y, r, z, t2⟩, u, v⟩ := t
  exact cst_P h1 h2 h3 h4
theorem fn_0 (h : rbt t.2.2.1.2.1 2 = false) : (fnF t.2.2.1.1 t.2.2.1.2.1 i t.2.2.2.1 t.2.2.2.2).1 = false := by
  unfold fnF; rw [if_neg (by rw [h]; decide)]; rfl
theorem fn_1 (h : rbt t.2.2.1.2.1 2 = true) : (fnF t.2.2.1.1 t.2.2.1.2.1 i t.2.2.2.1 t.2.2.2.2).1 = (fns t.2.2.1.1 i 12 1 zIm 0).1 ∧ ((fns t.2.2.1.1 i 12 1 zIm 0).1 = true → (fnF t.2.2.1.1 t.2.2.1.2.1 i t.2.2.2.1 t.2.2.2.2).2.2 = (fns t.2.2.1.1 i 12 1 zIm 0).2.2 ∧ nmE (fns t.2.2.1.1 i 12 1 zIm 0).2.1 (fnF t.2.2.1.1 t.2.2.1.2.1 i t.2.2.2.1 t.2.2.2.2).2.1 (fns t.2.2.1.1 i 12 1 zIm 0).2.2) := by
  unfold fnF
  rw [if_pos h]
  have e := fns_E t.2.2.1.1 i 12 1 t.2.2.2.1 zIm t.2.2.2.2 0 (by omega)
  generalize fns t.2.2.1.1 i 12 1 t.2.2.2.1 t.2.2.2.2 = A at *
  generalize fns t.2.2.1.1 i 12 1 zIm 0 = B at *
  refine ⟨e.1, fun w => ?_⟩
  have := e.2 (by rw [e.1]; exact w)
  exact ⟨this.1, this.2.sym⟩
end CP
