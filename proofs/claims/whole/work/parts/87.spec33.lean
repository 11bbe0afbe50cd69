/-! PASS 4 OF THE CLASS, AND OF THE REFERENCE -/
def cbJ (d : Im) (D I j : Int) : Int := if kd d I = 0 then 0 else if kd d I = 2 then (if j = D then 1 else 0) else (if j = I then 1 else 0)
def cs1 (d : Im) (D j : Int) : Nat → Int → Int
  | 0, _ => 0
  | f + 1, p => cbJ d D (im_at d (ep d D p)) j + cs1 d D j f (p + 1)
def csA (d : Im) (j : Int) : Nat → Int → Int
  | 0, _ => 0
  | f + 1, D => cs1 d D j (cnt d D - 2).toNat 2 + csA d j f (D + 1)
/-- the links are L, all else is as it was -/
def LI (d x : Im) (L : Int → Int) : Prop := (∀ a : Int, (∀ j : Int, 1 ≤ j → j < 32 → a ≠ 512 + j * 16 + 1) → x.1 a = d.1 a) ∧ ∀ j : Int, 1 ≤ j → j < 32 → x.1 (512 + j * 16 + 1) = L j % 256
section LI
variable {d x : Im} {L : Int → Int}
theorem LI.E (h : LI d x L) : lkE d x := fun a ha => h.1 a (fun j a1 a2 => (ha j a1 a2).1)
theorem LI.c {M : Int → Int} (h : LI d x L) (e : ∀ j : Int, 1 ≤ j → j < 32 → L j = M j) : LI d x M := ⟨h.1, fun j a b => by rw [← e j a b]; exact h.2 j a b⟩
theorem cl0_LI (d : Im) : ∀ (f : Nat) (i : Int) (x : Im), 1 ≤ i → i + f = 32 → (∀ a : Int, (∀ j : Int, 1 ≤ j → j < 32 → a ≠ 512 + j * 16 + 1) → x.1 a = d.1 a) → (∀ j : Int, 1 ≤ j → j < i → x.1 (512 + j * 16 + 1) = if kd d j = 2 then 2 else 0) → LI d (cl0 f i x) (fun j => if kd d j = 2 then 2 else 0)
  | 0, i, x, h1, h2, ha, hb => ⟨ha, fun j a b => by
      show x.1 (512 + j * 16 + 1) = (if kd d j = 2 then 2 else 0) % 256
      rw [hb j a (by omega)]; split <;> rfl⟩
  | f + 1, i, x, h1, h2, ha, hb => by
    have k : kd x i = kd d i := by unfold kd; split; exact ha _ (fun j _ _ => by omega); rfl
    rw [cl0, k, im_set_in _ (by omega)]
    refine cl0_LI d f (i + 1) _ (by omega) (by omega) (fun a w => ?_) (fun j a b => ?_)
    · rw [up_at, if_neg (w i h1 (by omega))]; exact ha a w
    · rw [up_at]
      by_cases e : j = i
      · subst e; rw [if_pos rfl]; split <;> rfl
      · rw [if_neg (by omega)]; exact hb j a (by omega)
theorem clk_LI (h : LI d x L) (h0 : kd d 0 = 0) {D I : Int} (hD : 1 ≤ D ∧ D < 32) : LI d (clk x D I) (fun j => L j + cbJ d D I j) := by
  unfold clk cbJ
  rw [h.E.kdE]
  by_cases k0 : kd d I = 0
  · rw [if_pos k0]; exact h.c (fun j _ _ => by rw [if_pos k0]; omega)
  · rw [if_neg k0]
    have key : ∀ y : Int, 1 ≤ y → y < 32 → LI d (im_set x (512 + y * 16 + 1) (lk x y + 1)) (fun j => L j + if j = y then 1 else 0) := fun y y1 y2 => by
      rw [im_set_in _ (by omega)]
      refine ⟨fun a w => by rw [up_at, if_neg (w y y1 y2)]; exact h.1 a w, fun j a b => ?_⟩
      have e : lk x y = L y % 256 := by unfold lk; rw [if_pos (show inR y by omega)]; exact h.2 y y1 y2
      rw [up_at, e]
      show _ = (L j + if j = y then 1 else 0) % 256
      by_cases c : j = y
      · subst c; rw [if_pos rfl, if_pos rfl]; omega
      · rw [if_neg (by omega), if_neg c, h.2 j a b, Int.add_zero]
    by_cases k2 : kd d I = 2
    · rw [if_pos k2]; exact (key D hD.1 hD.2).c (fun j _ _ => by rw [if_neg k0, if_pos k2])
    · rw [if_neg k2]
      have := kd_R k0
      have i0 : I ≠ 0 := fun e => k0 (by rw [e]; exact h0)
      exact (key I (by omega) (by omega)).c (fun j _ _ => by rw [if_neg k0, if_neg k2])
theorem clf_LI (h0 : kd d 0 = 0) {D : Int} (hD : 1 ≤ D ∧ D < 32) : ∀ (f : Nat) (e : Int) (x : Im) (L : Int → Int), LI d x L → 0 ≤ e → LI d (clf D f e x) (fun j => L j + cs1 d D j f e)
  | 0, e, x, L, h, _ => h.c (fun j _ _ => by rw [cs1]; omega)
  | f + 1, e, x, L, h, he => by
    rw [clf, h.E.atE he]
    exact (clf_LI h0 hD f (e + 1) _ _ (clk_LI h h0 hD) (by omega)).c (fun j _ _ => by rw [cs1]; omega)
theorem cld_LI (h0 : kd d 0 = 0) : ∀ (f : Nat) (D : Int) (x : Im) (L : Int → Int), LI d x L → 1 ≤ D → D + f ≤ 32 → LI d (cld f D x) (fun j => L j + csA d j f D)
  | 0, D, x, L, h, _, _ => h.c (fun j _ _ => by rw [csA]; omega)
  | f + 1, D, x, L, h, h1, h2 => by
    rw [cld, h.E.cntE]
    exact (cld_LI h0 f (D + 1) _ _ (clf_LI h0 ⟨h1, by omega⟩ _ 2 x L h (by omega)) (by omega) (by omega)).c (fun j _ _ => by rw [csA]; omega)
theorem cs1_2 {j : Int} (k : kd d j = 2) (D : Int) : ∀ (f : Nat) (p : Int), cs1 d D j f p = if D = j then dc1 d j f p else 0
  | 0, p => by rw [cs1, dc1]; split <;> rfl
  | f + 1, p => by
    rw [cs1, dc1, cs1_2 k D f (p + 1)]
    unfold cbJ
    by_cases e : D = j
    · subst e
      rw [if_pos rfl, if_pos rfl, if_pos rfl]
      by_cases k0 : kd d (im_at d (ep d D p)) = 0
      · rw [if_pos k0, if_neg (by omega)]
      · rw [if_neg k0]
        by_cases k2 : kd d (im_at d (ep d D p)) = 2
        · rw [if_pos k2, if_pos k2]
        · rw [if_neg k2, if_neg k2, if_neg (fun z => k2 (by rw [← z]; exact k))]
    · rw [if_neg e, if_neg e, if_neg (show ¬ j = D from fun z => e z.symm)]
      by_cases k0 : kd d (im_at d (ep d D p)) = 0
      · rw [if_pos k0]; rfl
      · rw [if_neg k0]
        by_cases k2 : kd d (im_at d (ep d D p)) = 2
        · rw [if_pos k2]; rfl
        · rw [if_neg k2, if_neg (fun z => k2 (by rw [← z]; exact k))]; rfl
theorem csA_2 {j : Int} (k : kd d j = 2) : ∀ (f : Nat) (D : Int), csA d j f D = if D ≤ j ∧ j < D + f then dc1 d j (cnt d j - 2).toNat 2 else 0
  | 0, D => by rw [csA, if_neg (by omega)]
  | f + 1, D => by
    rw [csA, cs1_2 k, csA_2 k f (D + 1)]
    by_cases e : D = j
    · subst e; rw [if_pos rfl, if_neg (by omega), if_pos (by omega)]; omega
    · rw [if_neg e]
      by_cases c : D + 1 ≤ j ∧ j < D + 1 + f
      · rw [if_pos c, if_pos (by omega)]; omega
      · rw [if_neg c, if_neg (by omega)]; rfl
theorem cs1_1 {j : Int} (k : ¬ kd d j = 2) {D : Int} (hD : D ≠ j) : ∀ (f : Nat) (p : Int), cs1 d D j f p = if kd d j = 0 then 0 else ct1 d j D f p
  | 0, p => by rw [cs1, ct1]; split <;> rfl
  | f + 1, p => by
    rw [cs1, ct1, cs1_1 k hD f (p + 1)]
    unfold cbJ
    have e2 : (if kd d (im_at d (ep d D p)) = 0 then (0 : Int) else if kd d (im_at d (ep d D p)) = 2 then (if j = D then 1 else 0) else (if j = im_at d (ep d D p) then 1 else 0)) = if kd d j = 0 then 0 else (if im_at d (ep d D p) = j then 1 else 0) := by
      by_cases c : im_at d (ep d D p) = j
      · rw [c, if_neg k, if_pos rfl]
      · rw [if_neg (show ¬ j = D from fun z => hD z.symm), if_neg (show ¬ j = im_at d (ep d D p) from fun z => c z.symm), if_neg c]
        split <;> (try split) <;> (try split) <;> rfl
    rw [e2]
    split <;> omega
theorem csA_1 {j : Int} (k : ¬ kd d j = 2) : ∀ (f : Nat) (D : Int), csA d j f D = if kd d j = 0 then 0 else ctA d j f D
  | 0, D => by rw [csA, ctA]; split <;> rfl
  | f + 1, D => by
    rw [csA, ctA, csA_1 k f (D + 1)]
    by_cases e : D = j
    · subst e
      have c : cnt d D = 0 := by unfold cnt; rw [if_neg k]
      rw [c, show ((0 : Int) - 2).toNat = 0 from rfl, cs1, ct1]
      split <;> omega
    · rw [cs1_1 k e]
      split <;> omega
/-- links counted -/
theorem clL_LI (h0 : kd d 0 = 0) : LI d (clL d) (Lk d) := by
  unfold clL
  refine (cld_LI h0 31 1 _ _ (cl0_LI d 31 1 d (by omega) (by omega) (fun _ _ => rfl) (fun j a b => by omega)) (by omega) (by omega)).c (fun j a b => ?_)
  unfold Lk
  by_cases k : kd d j = 2
  · rw [if_pos k, if_pos k, csA_2 k 31 1, if_pos (by omega)]
  · rw [if_neg k, if_neg k, csA_1 k]; omega
end LI
theorem sm_c {d e : Im} {p : Int} : ∀ n : Nat, (∀ j : Int, p ≤ j → j < p + n → d.1 j = e.1 j) → sm d p n = sm e p n
  | 0, _ => rfl
  | n + 1, h => by
    rw [sm, sm, sm_c n (fun j a b => h j a (by omega)), h (p + n) (by omega) (by omega)]
theorem sum_c {d e : Im} {p n : Int} (h : ∀ j : Int, p ≤ j → j < p + n → d.1 j = e.1 j) : im_sum d p n = im_sum e p n := by
  unfold im_sum
  split
  · next r => rw [sm_c n.toNat (fun j a b => h j a (by have := r.2.2.1; omega))]
  · rfl
/-- one inode of finish -/
def fnS (d x : Im) (i : Int) : Im := if kd d i = 0 then x else ino_sum (up x (512 + i * 16 + 1) (Lk d i)) i
def fnI (d : Im) : Nat → Int → Im → Im
  | 0, _, x => x
  | f + 1, i, x => fnI d f (i + 1) (fnS d x i)
theorem is_at {x : Im} {i : Int} (hi : inR i) (a : Int) : (ino_sum x i).1 a = if a = 512 + i * 16 + 15 then im_sum x (512 + i * 16) 14 % 256 else if a = 512 + i * 16 + 14 then im_sum x (512 + i * 16) 14 / 256 % 256 else x.1 a := by
  unfold ino_sum
  rw [put_at _ (by omega), show 512 + i * 16 + 14 + 1 = 512 + i * 16 + 15 by omega]
theorem fnS_at {tm : Int64} {d x : Im} {i : Int} (w : WF tm d) (h1 : 1 ≤ i) (h2 : i < 32) {a : Int} (ha : ¬ (512 + i * 16 ≤ a ∧ a < 512 + i * 16 + 16) ∨ (a ≠ 512 + i * 16 + 1 ∧ a ≠ 512 + i * 16 + 14 ∧ a ≠ 512 + i * 16 + 15) ∨ kd d i = 0) : (fnS d x i).1 a = x.1 a := by
  unfold fnS
  split
  · rfl
  · rw [is_at (by omega), if_neg (by omega), if_neg (by omega), up_at, if_neg (by omega)]
/-- what is kept while finishing inode by inode -/
def FI (d x : Im) (i : Int) : Prop := lkE d x ∧ (∀ j k : Int, i ≤ j → j < 32 → 0 ≤ k → k < 16 → x.1 (512 + j * 16 + k) = d.1 (512 + j * 16 + k)) ∧ (∀ j k : Int, 1 ≤ j → j < 32 → kd d j = 0 → 0 ≤ k → k < 16 → x.1 (512 + j * 16 + k) = 0)
section FI
variable {tm : Int64} {d x X : Im} {i : Int}
theorem FI_0 (w : WF tm d) : FI d d 1 := ⟨lkE.rf d, fun _ _ _ _ _ _ => rfl, fun j k a b c e f => w.bl j a b c k e f⟩
theorem FI_s (w : WF tm d) (h1 : 1 ≤ i) (h2 : i < 32) (f : FI d x i) : FI d (fnS d x i) (i + 1) := by
  refine ⟨fun a ha => ?_, fun j k a b c e => ?_, fun j k a b c e g => ?_⟩
  · rw [fnS_at w h1 h2 (Or.inr (Or.inl (ha i h1 h2)))]; exact f.1 a ha
  · rw [fnS_at w h1 h2 (Or.inl (by omega))]; exact f.2.1 j k (by omega) b c e
  · by_cases q : j = i
    · subst q; rw [fnS_at w h1 h2 (Or.inr (Or.inr c))]; exact f.2.2 j k a b c e g
    · rw [fnS_at w h1 h2 (Or.inl (by omega))]; exact f.2.2 j k a b c e g
theorem FI.W (w : WF tm d) (f : FI d x i) : WF tm x := f.1.WFE w (fun j a b c k e g => f.2.2 j k a b c e g)
/-- free inodes -/
def fi (d : Im) : Nat → Int → Int
  | 0, _ => 0
  | f + 1, i => (if kd d i = 0 then 1 else 0) + fi d f (i + 1)
def RLx (d X x : Im) (i : Int) : Prop := (∀ a : Int, (∀ j : Int, i ≤ j → j < 32 → a ≠ 512 + j * 16 + 1) → X.1 a = x.1 a) ∧ ∀ j : Int, i ≤ j → j < 32 → X.1 (512 + j * 16 + 1) = Lk d j
theorem RLx_s (w : WF tm d) (h1 : 1 ≤ i) (h2 : i < 32) (f : FI d x i) (r : RLx d X x i) : RLx d (ino_sum X i) (fnS d x i) (i + 1) := by
  have lr := Lk_rg w h1 h2
  refine ⟨fun a ha => ?_, fun j a b => by rw [is_at (by omega), if_neg (by omega), if_neg (by omega)]; exact r.2 j (by omega) b⟩
  by_cases k : kd d i = 0
  · have L0 : Lk d i = 0 := by unfold Lk; rw [if_neg (by omega), if_pos k]
    have z : ∀ y : Int, 0 ≤ y → y < 16 → X.1 (512 + i * 16 + y) = 0 := fun y y1 y2 => by
      by_cases c : y = 1
      · rw [c, r.2 i (by omega) h2, L0]
      · rw [r.1 _ (fun j _ _ => by omega)]; exact f.2.2 i y h1 h2 k y1 y2
    have s0 : im_sum X (512 + i * 16) 14 = 0 := by
      have e : im_sum X (512 + i * 16) 14 = im_sum zIm (512 + i * 16) 14 := sum_c (fun j a b => by
        have := z (j - (512 + i * 16)) (by omega) (by omega)
        rw [show 512 + i * 16 + (j - (512 + i * 16)) = j by omega] at this
        exact this)
      have q : ∀ n : Nat, sm zIm (512 + i * 16) n = 0 := fun n => by
        induction n with
        | zero => rfl
        | succ n ih => rw [sm, ih]; rfl
      rw [e]; unfold im_sum; split
      · rw [q]; rfl
      · rfl
    have e : fnS d x i = x := by unfold fnS; rw [if_pos k]
    rw [e, is_at (by omega), s0]
    have x0 : ∀ y : Int, 0 ≤ y → y < 16 → x.1 (512 + i * 16 + y) = 0 := fun y y1 y2 => f.2.2 i y h1 h2 k y1 y2
    by_cases a15 : a = 512 + i * 16 + 15
    · rw [if_pos a15, a15, x0 15 (by omega) (by omega)]; rfl
    · rw [if_neg a15]
      by_cases a14 : a = 512 + i * 16 + 14
      · rw [if_pos a14, a14, x0 14 (by omega) (by omega)]; rfl
      · rw [if_neg a14]
        by_cases a1 : a = 512 + i * 16 + 1
        · rw [a1, z 1 (by omega) (by omega), x0 1 (by omega) (by omega)]
        · exact r.1 a (fun j b c => by
            by_cases q : j = i
            · subst q; exact a1
            · exact ha j (by omega) c)
  · have e : fnS d x i = ino_sum (up x (512 + i * 16 + 1) (Lk d i)) i := by unfold fnS; rw [if_neg k]
    have ag : ∀ y : Int, (∀ j : Int, i + 1 ≤ j → j < 32 → y ≠ 512 + j * 16 + 1) → X.1 y = (up x (512 + i * 16 + 1) (Lk d i)).1 y := fun y hy => by
      rw [up_at]
      by_cases c : y = 512 + i * 16 + 1
      · rw [if_pos c, c, r.2 i (by omega) h2]; omega
      · rw [if_neg c]; exact r.1 y (fun j b1 b2 => by
          by_cases q : j = i
          · subst q; exact c
          · exact hy j (by omega) b2)
    have es : im_sum X (512 + i * 16) 14 = im_sum (up x (512 + i * 16 + 1) (Lk d i)) (512 + i * 16) 14 := sum_c (fun j a b => ag j (fun l _ _ => by omega))
    rw [e, is_at (by omega), is_at (by omega), es, ag a ha]
theorem sts_E (w : WF tm d) : ∀ (f : Nat) (i : Int) (X x : Im) (c : Int), 1 ≤ i → i + f = 32 → FI d x i → RLx d X x i → (sts f i X c).1 = fnI d f i x ∧ (sts f i X c).2 = c + fi d f i
  | 0, i, X, x, c, h1, h2, g, r => ⟨im_x (fun a => r.1 a (fun j b1 b2 => by omega)), by rw [sts, fi]; omega⟩
  | f + 1, i, X, x, c, h1, h2, g, r => by
    rw [sts, fnI, fi]
    have g2 := FI_s w h1 (by omega) g
    have r2 := RLx_s w h1 (by omega) g r
    have ih := sts_E w f (i + 1) _ _ (c + (if kd (ino_sum X i) i = 0 then 1 else 0)) (by omega) (by omega) g2 r2
    have k : kd (ino_sum X i) i = kd d i := by
      rw [kd_at (by omega), is_at (by omega), if_neg (by omega), if_neg (by omega), r.1 _ (fun j _ _ => by omega), kd_at (by omega)]
      have := g.2.1 i 0 (by omega) (by omega) (by omega) (by omega)
      rwa [show 512 + i * 16 + 0 = 512 + i * 16 by omega] at this
    refine ⟨ih.1, ?_⟩
    rw [ih.2, k]; omega
theorem st1_E (w : WF tm d) : (st1 d).1 = fnI d 31 1 d ∧ (st1 d).2 = fi d 31 1 := by
  have l := clL_LI w.k0
  have e := sts_E w 31 1 (clL d) d 0 (by omega) (by omega) (FI_0 w) ⟨fun a ha => l.1 a ha, fun j a b => by rw [l.2 j a b]; have := Lk_rg w a b; omega⟩
  exact ⟨e.1, by unfold st1; rw [e.2]; omega⟩
theorem fnI_FI (w : WF tm d) : ∀ (f : Nat) (i : Int) (x : Im), 1 ≤ i → i + f = 32 → FI d x i → FI d (fnI d f i x) 32
  | 0, i, x, h1, h2, g => by rw [fnI, ← show i = 32 by omega]; exact g
  | f + 1, i, x, h1, h2, g => by rw [fnI]; exact fnI_FI w f (i + 1) _ (by omega) (by omega) (FI_s w h1 (by omega) g)
theorem fi_rg (d : Im) : ∀ (f : Nat) (i : Int), 0 ≤ fi d f i ∧ fi d f i ≤ f
  | 0, i => by simp [fi]
  | f + 1, i => by have := fi_rg d f (i + 1); rw [fi]; split <;> omega
end FI
