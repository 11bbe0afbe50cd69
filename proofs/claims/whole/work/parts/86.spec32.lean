/-! PASS 4: LINKS -/
/-- different at most in links and sums of inodes -/
def lkE (d x : Im) : Prop := ∀ a : Int, (∀ j : Int, 1 ≤ j → j < 32 → a ≠ 512 + j * 16 + 1 ∧ a ≠ 512 + j * 16 + 14 ∧ a ≠ 512 + j * 16 + 15) → x.1 a = d.1 a
section LK
variable {d x : Im}
theorem lkE.hiE (h : lkE d x) {a : Int} (ha : 1024 ≤ a) : x.1 a = d.1 a := h a (fun j _ _ => by omega)
theorem lkE.inE (h : lkE d x) {i k : Int} (hi : inR i) (hk : 0 ≤ k ∧ k < 14 ∧ k ≠ 1) : x.1 (512 + i * 16 + k) = d.1 (512 + i * 16 + k) := h _ (fun j _ _ => by omega)
theorem lkE.kdE (h : lkE d x) (i : Int) : kd x i = kd d i := by
  unfold kd; split
  · next hi => have := h.inE hi (k := 0) (by omega); rwa [show 512 + i * 16 + 0 = 512 + i * 16 by omega] at this
  · rfl
theorem lkE.szE (h : lkE d x) (i : Int) : sz x i = sz d i := by
  unfold sz; split
  · next hi =>
    have h2 := h.inE hi (k := 2) (by omega)
    have h3 := h.inE hi (k := 3) (by omega)
    rw [show 512 + i * 16 + 2 + 1 = 512 + i * 16 + 3 by omega, h2, h3]
  · rfl
theorem lkE.bkE (h : lkE d x) {i y : Int} (hi : inR i) (hy : 0 ≤ y ∧ y < 46) : bk x i y = bk d i y := by
  unfold bk
  have h9 := h.inE hi (k := 9) (by omega)
  by_cases c : y < 5
  · rw [if_pos c, if_pos c]
    have := h.inE hi (k := 4 + y) (by omega)
    rwa [show 512 + i * 16 + (4 + y) = 512 + i * 16 + 4 + y by omega] at this
  · rw [if_neg c, if_neg c, h9]
    by_cases c2 : dat (d.1 (512 + i * 16 + 9))
    · rw [if_pos c2, if_pos c2]; exact h.hiE (by omega)
    · rw [if_neg c2, if_neg c2]
theorem lkE.cpE (h : lkE d x) {i j : Int} (hj : 0 ≤ j) : cp x i j = cp d i j := by
  unfold cp
  by_cases c : inR i ∧ j / 64 < 46
  · rw [h.bkE c.1 ⟨by omega, c.2⟩]
  · rw [if_neg (fun z => c ⟨z.1, z.2.1⟩), if_neg (fun z => c ⟨z.1, z.2.1⟩)]
theorem lkE.epE (h : lkE d x) {i p : Int} (hp : 0 ≤ p) : ep x i p = ep d i p := h.cpE (by omega)
theorem lkE.atE (h : lkE d x) {i p : Int} (hp : 0 ≤ p) : im_at x (ep x i p) = im_at d (ep d i p) := by
  rw [h.epE hp]
  rcases ep_rg d i p with e | e
  · rw [e]; rfl
  · rw [im_at_in x (by omega), im_at_in d (by omega)]; exact h.hiE (by omega)
theorem lkE.ecE (h : lkE d x) (i : Int) : ec x i = ec d i := by unfold ec; rw [h.szE]
theorem lkE.cntE (h : lkE d x) (i : Int) : cnt x i = cnt d i := by unfold cnt; rw [h.kdE, h.ecE]
theorem lkE.rf (d : Im) : lkE d d := fun _ _ => rfl
theorem lkE.WFE {tm : Int64} (h : lkE d x) (w : WF tm d) (hz : ∀ i : Int, 1 ≤ i → i < 32 → kd d i = 0 → ∀ j : Int, 0 ≤ j → j < 16 → x.1 (512 + i * 16 + j) = 0) : WF tm x :=
  w.frame (by rw [h.kdE]; exact w.k0) (fun i h1 h2 h3 => ⟨fun j a b c => h.inE (by omega) (by omega), fun h5 j a b => h.hiE (by have := (w.indE h1 h2 h3 h5).1; omega)⟩) (fun i h1 h2 _ h4 => hz i h1 h2 h4) (by omega)
end LK
-- how often an inode is in a directory; how many directories are
def ct1 (d : Im) (i D : Int) : Nat → Int → Int
  | 0, _ => 0
  | f + 1, p => (if im_at d (ep d D p) = i then 1 else 0) + ct1 d i D f (p + 1)
def ctA (d : Im) (i : Int) : Nat → Int → Int
  | 0, _ => 0
  | f + 1, D => ct1 d i D (cnt d D - 2).toNat 2 + ctA d i f (D + 1)
def dc1 (d : Im) (D : Int) : Nat → Int → Int
  | 0, _ => 0
  | f + 1, p => (if kd d (im_at d (ep d D p)) = 2 then 1 else 0) + dc1 d D f (p + 1)
def Lk (d : Im) (j : Int) : Int := if kd d j = 2 then 2 + dc1 d j (cnt d j - 2).toNat 2 else if kd d j = 0 then 0 else ctA d j 31 1
theorem ct1_rg (d : Im) (i D : Int) : ∀ (f : Nat) (p : Int), 0 ≤ ct1 d i D f p ∧ ct1 d i D f p ≤ f
  | 0, p => by simp [ct1]
  | f + 1, p => by have := ct1_rg d i D f (p + 1); rw [ct1]; split <;> omega
theorem dc1_rg (d : Im) (D : Int) : ∀ (f : Nat) (p : Int), 0 ≤ dc1 d D f p ∧ dc1 d D f p ≤ f
  | 0, p => by simp [dc1]
  | f + 1, p => by have := dc1_rg d D f (p + 1); rw [dc1]; split <;> omega
theorem lk_ct1 {d x : Im} (h : lkE d x) (i D : Int) : ∀ (f : Nat) (p : Int), 0 ≤ p → ct1 x i D f p = ct1 d i D f p
  | 0, p, _ => rfl
  | f + 1, p, hp => by rw [ct1, ct1, h.atE hp, lk_ct1 h i D f (p + 1) (by omega)]
theorem lk_ctA {d x : Im} (h : lkE d x) (i : Int) : ∀ (f : Nat) (D : Int), ctA x i f D = ctA d i f D
  | 0, D => rfl
  | f + 1, D => by rw [ctA, ctA, h.cntE, lk_ct1 h i D _ 2 (by omega), lk_ctA h i f]
theorem lk_dc1 {d x : Im} (h : lkE d x) (D : Int) : ∀ (f : Nat) (p : Int), 0 ≤ p → dc1 x D f p = dc1 d D f p
  | 0, p, _ => rfl
  | f + 1, p, hp => by rw [dc1, dc1, h.atE hp, h.kdE, lk_dc1 h D f (p + 1) (by omega)]
theorem lk_Lk {d x : Im} (h : lkE d x) (j : Int) : Lk x j = Lk d j := by
  unfold Lk; rw [h.kdE, h.cntE, lk_dc1 h j _ 2 (by omega), lk_ctA h]
-- there are not so many entries
def tot (d : Im) : Nat → Int → Int
  | 0, _ => 0
  | f + 1, D => (if kd d D = 2 then bc d D else 0) + tot d f (D + 1)
theorem tot_0 (d : Im) : ∀ (f : Nat) (D : Int), 0 ≤ tot d f D
  | 0, D => by simp [tot]
  | f + 1, D => by have := tot_0 d f (D + 1); have := bc_rg d D; rw [tot]; split <;> omega
theorem mk_n {tm : Int64} {d : Im} (h : WF tm d) {D : Int} (hD : drI d D) (m : Int → Bool) (hm : ∀ b : Int, inB d D (bc d D) b → m b = false) : ∀ y : Nat, (y : Int) ≤ bc d D → ∃ m2 : Int → Bool, (∀ b : Int, m2 b = true ↔ m b = true ∨ inB d D y b) ∧ cnb m2 64 = cnb m 64 + y
  | 0, _ => ⟨m, fun b => ⟨Or.inl, fun w => w.elim id (fun z => absurd z (inB_0 d D b))⟩, by omega⟩
  | y + 1, hy => by
    obtain ⟨m2, h1, h2⟩ := mk_n h hD m hm y (by omega)
    have g := (h.ok D hD.1 hD.2.1 (by have := hD.2.2; omega)).2.1 y (by omega) (by omega)
    have f : m2 (bk d D y) = false := by
      cases z : m2 (bk d D y) with
      | false => rfl
      | true =>
        rcases (h1 _).mp z with w | w
        · rw [hm _ ⟨y, by omega, by omega, rfl⟩] at w; cases w
        · exact absurd w g.2.2
    refine ⟨upB m2 (bk d D y) true, fun b => ?_, ?_⟩
    · rw [upB_t, h1, show ((y + 1 : Nat) : Int) = (y : Int) + 1 by omega, inB_s d D b (by omega), or_assoc]
      exact or_congr Iff.rfl (or_congr Iff.rfl eq_comm)
    · rw [cnb_set m2 (upB m2 (bk d D y) true) f (by unfold upB; rw [if_pos rfl]) 64 (by omega) (by omega) (fun z _ _ c => by unfold upB; rw [if_neg c]), h2]; omega
theorem tot_le {tm : Int64} {d : Im} (h : WF tm d) : ∀ (f : Nat) (D : Int) (m : Int → Bool), 1 ≤ D → D + f ≤ 32 → (∀ b : Int, m b = true → ∃ i : Int, 1 ≤ i ∧ i < D ∧ kd d i ≠ 0 ∧ own d i b) → cnb m 64 + tot d f D ≤ 64
  | 0, D, m, _, _, _ => by have := cnb_le m 64; rw [tot]; omega
  | f + 1, D, m, h1, h2, hm => by
    rw [tot]
    by_cases k : kd d D = 2
    · rw [if_pos k]
      have hb := bc_rg d D
      obtain ⟨m2, g1, g2⟩ := mk_n h ⟨h1, by omega, k⟩ m (fun b w => by
        cases z : m b with
        | false => rfl
        | true =>
          obtain ⟨i, a1, a2, a3, a4⟩ := hm b z
          have := h.dj i D b a1 (by omega) h1 (by omega) a3 (by omega) a4 (Or.inl w)
          omega) (bc d D).toNat (by omega)
      rw [Int.toNat_of_nonneg hb.1] at g1 g2
      have := tot_le h f (D + 1) m2 (by omega) (by omega) (fun b w => by
        rcases (g1 b).mp w with z | z
        · obtain ⟨i, a1, a2, a3, a4⟩ := hm b z
          exact ⟨i, a1, by omega, a3, a4⟩
        · exact ⟨D, h1, by omega, by omega, Or.inl z⟩)
      omega
    · rw [if_neg k]
      have := tot_le h f (D + 1) m (by omega) (by omega) (fun b w => by
        obtain ⟨i, a1, a2, a3, a4⟩ := hm b w
        exact ⟨i, a1, by omega, a3, a4⟩)
      omega
theorem ctA_b {tm : Int64} {d : Im} (h : WF tm d) (i : Int) : ∀ (f : Nat) (D : Int), 1 ≤ D → D + f ≤ 32 → 0 ≤ ctA d i f D ∧ (ctA d i f D = 0 ∨ ctA d i f D + 2 ≤ 4 * tot d f D)
  | 0, D, _, _ => by rw [ctA]; omega
  | f + 1, D, h1, h2 => by
    have ih := ctA_b h i f (D + 1) (by omega) (by omega)
    have r := ct1_rg d i D (cnt d D - 2).toNat 2
    have t0 := tot_0 d f (D + 1)
    rw [ctA, tot]
    by_cases k : kd d D = 2
    · have s := h.szE ⟨h1, by omega, k⟩
      have e := h.ecE ⟨h1, by omega, k⟩
      have c : cnt d D = sz d D / 16 := by unfold cnt; rw [if_pos k, e]
      have b : bc d D = (sz d D + 63) / 64 := rfl
      rw [if_pos k]
      omega
    · have c : cnt d D = 0 := by unfold cnt; rw [if_neg k]
      rw [c] at r ⊢
      rw [if_neg k]
      have : ((0 : Int) - 2).toNat = 0 := rfl
      rw [this] at r ⊢
      omega
theorem Lk_rg {tm : Int64} {d : Im} (h : WF tm d) {j : Int} (h1 : 1 ≤ j) (h2 : j < 32) : 0 ≤ Lk d j ∧ Lk d j < 256 := by
  unfold Lk
  split
  · next k =>
    have r := dc1_rg d j (cnt d j - 2).toNat 2
    have c := cnt_rg d j
    omega
  · split
    · omega
    · have a := ctA_b h j 31 1 (by omega) (by omega)
      have b := tot_le h 31 1 (fun _ => false) (by omega) (by omega) (fun b w => by cases w)
      have c := cnb_le (fun _ => false) 64
      omega
