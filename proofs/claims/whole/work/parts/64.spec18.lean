/-! FRAMES: what an inode's blocks depend on -/
/-- inode i is the same on both, and its indirect block -/
def smI (d e : Im) (i : Int) : Prop := (∀ j : Int, 0 ≤ j → j < 10 → j ≠ 1 → e.1 (512 + i * 16 + j) = d.1 (512 + i * 16 + j)) ∧ (5 < bc d i → ∀ j : Int, 0 ≤ j → j < 64 → e.1 (ind d i * 64 + j) = d.1 (ind d i * 64 + j))
section SM
variable {d e : Im} {i : Int}
theorem smI.kdE (h : smI d e i) : kd e i = kd d i := by
  have := h.1 0 (by omega) (by omega) (by omega)
  unfold kd
  rw [show 512 + i * 16 + 0 = 512 + i * 16 by omega] at this
  rw [this]
theorem smI.szE (h : smI d e i) : sz e i = sz d i := by
  have h1 := h.1 2 (by omega) (by omega) (by omega)
  have h2 := h.1 3 (by omega) (by omega) (by omega)
  unfold sz
  rw [show 512 + i * 16 + 2 + 1 = 512 + i * 16 + 3 by omega, h1, h2]
theorem smI.bcE (h : smI d e i) : bc e i = bc d i := by
  unfold bc; rw [h.szE]
theorem smI.indE (h : smI d e i) : ind e i = ind d i := h.1 9 (by omega) (by omega) (by omega)
theorem smI.bkE (h : smI d e i) {x : Int} (hx : 0 ≤ x) (hb : x < bc d i) (h46 : bc d i ≤ 46) : bk e i x = bk d i x := by
  unfold bk
  by_cases h5 : x < 5
  · rw [if_pos h5, if_pos h5]
    have := h.1 (4 + x) (by omega) (by omega) (by omega)
    rwa [show 512 + i * 16 + (4 + x) = 512 + i * 16 + 4 + x by omega] at this
  · rw [if_neg h5, if_neg h5]
    have e9 := h.indE
    unfold ind at e9
    rw [e9]
    have := h.2 (by omega) (x - 5) (by omega) (by omega)
    unfold ind at this
    rw [show d.1 (512 + i * 16 + 9) * 64 + (x - 5) = d.1 (512 + i * 16 + 9) * 64 + x - 5 by omega] at this
    rw [this]
theorem smI.inBE (h : smI d e i) {x b : Int} (hb : x ≤ bc d i) (h46 : bc d i ≤ 46) : inB e i x b ↔ inB d i x b := by
  constructor
  · rintro ⟨y, h1, h2, h3⟩; exact ⟨y, h1, h2, by rw [← h.bkE h1 (by omega) h46]; exact h3⟩
  · rintro ⟨y, h1, h2, h3⟩; exact ⟨y, h1, h2, by rw [h.bkE h1 (by omega) h46]; exact h3⟩
theorem smI.ownE (h : smI d e i) (h46 : bc d i ≤ 46) (b : Int) : own e i b ↔ own d i b := by
  unfold own
  rw [h.bcE, h.inBE (by omega) h46, h.indE]
theorem smI.gdAE (h : smI d e i) (h46 : bc d i ≤ 46) (hg : gdA 0 d i) : gdA 0 e i := by
  unfold gdA
  rw [h.bcE, h.indE, h.inBE (by omega) h46]
  refine ⟨fun x h1 h2 => ?_, hg.2⟩
  rw [h.bkE h1 h2 h46, h.inBE (by omega) h46]
  exact hg.1 x h1 h2
theorem smI.ok1E (h : smI d e i) (hg : ok1 d i) : ok1 e i := by
  unfold ok1
  rw [h.kdE, h.szE]; exact hg
theorem smI.rf (d : Im) (i : Int) : smI d d i := ⟨fun _ _ _ _ => rfl, fun _ _ _ _ => rfl⟩
theorem smI.epE (h : smI d e i) {p : Int} (hp : 0 ≤ p) (hb : p < sz d i / 16) (h46 : sz d i ≤ 2944) (h64 : sz d i % 64 = 0) : ep e i p = ep d i p := by
  unfold ep cp
  have hb2 : p * 16 / 64 < bc d i := by
    unfold bc; omega
  rw [h.bkE (by omega) hb2 (by unfold bc; omega)]
end SM
theorem WFn.frame {n : Int} {tm : Int64} {d e : Im} (h : WFn n tm d) (h0 : kd e 0 = 0) (hs : ∀ i : Int, 1 ≤ i → i < n → kd d i ≠ 0 → smI d e i) (hz : ∀ i : Int, 1 ≤ i → i < n → i < 32 → kd d i = 0 → ∀ j : Int, 0 ≤ j → j < 16 → e.1 (512 + i * 16 + j) = 0) (hn : n ≤ 32) : WFn n tm e := by
  have hk : ∀ i : Int, 1 ≤ i → i < n → kd e i = kd d i := by
    intro i h1 h2
    by_cases hk : kd d i = 0
    · have := hz i h1 h2 (by omega) hk 0 (by omega) (by omega)
      unfold kd at hk ⊢
      rw [show 512 + i * 16 + 0 = 512 + i * 16 by omega] at this
      rw [this, hk]; split <;> rfl
    · exact (hs i h1 h2 hk).kdE
  refine ⟨?_, ?_, ?_, h0, ?_⟩
  · intro i h1 h2 h3
    rw [hk i h1 h2] at h3
    have o := h.ok i h1 h2 h3
    exact ⟨(hs i h1 h2 h3).ok1E o.1, (hs i h1 h2 h3).gdAE o.1.bc o.2⟩
  · intro i j b h1 h2 h3 h4 h5 h6 h7 h8
    rw [hk i h1 h2] at h5
    rw [hk j h3 h4] at h6
    rw [(hs i h1 h2 h5).ownE (h.ok i h1 h2 h5).1.bc] at h7
    rw [(hs j h3 h4 h6).ownE (h.ok j h3 h4 h6).1.bc] at h8
    exact h.dj i j b h1 h2 h3 h4 h5 h6 h7 h8
  · intro b h1 h2
    rw [h.tk b h1 h2]
    constructor
    · rintro ⟨i, a1, a2, a3, a4⟩
      exact ⟨i, a1, a2, by rw [hk i a1 a2]; exact a3, by rw [(hs i a1 a2 a3).ownE (h.ok i a1 a2 a3).1.bc]; exact a4⟩
    · rintro ⟨i, a1, a2, a3, a4⟩
      rw [hk i a1 a2] at a3
      exact ⟨i, a1, a2, a3, by rw [(hs i a1 a2 a3).ownE (h.ok i a1 a2 a3).1.bc] at a4; exact a4⟩
  · intro i h1 h2 h3 j h4 h5
    rw [hk i h1 h2] at h3
    exact hz i h1 h2 (by omega) h3 j h4 h5
theorem kd_at {d : Im} {i : Int} (hi : inR i) : kd d i = d.1 (512 + i * 16) := by unfold kd; rw [if_pos hi]
/-- a block of contents of an inode in use -/
def ctB (d : Im) (b : Int) : Prop := ∃ i x : Int, 1 ≤ i ∧ i < 32 ∧ kd d i ≠ 0 ∧ 0 ≤ x ∧ x < bc d i ∧ bk d i x = b
theorem ctB.datE {tm : Int64} {d : Im} {b : Int} (h : WF tm d) (hb : ctB d b) : dat b := by
  obtain ⟨i, x, h1, h2, h3, h4, h5, rfl⟩ := hb
  exact ((h.ok i h1 h2 h3).2.1 x h4 h5).1
theorem ctB.indE {tm : Int64} {d : Im} {b i : Int} (h : WF tm d) (hb : ctB d b) (h1 : 1 ≤ i) (h2 : i < 32) (h3 : kd d i ≠ 0) (h5 : 5 < bc d i) : ind d i ≠ b := by
  obtain ⟨j, x, a1, a2, a3, a4, a5, rfl⟩ := hb
  intro e
  have : i = j := h.dj i j _ h1 h2 a1 a2 h3 a3 (Or.inr ⟨h5, e⟩) (Or.inl ⟨x, a4, a5, rfl⟩)
  subst this
  exact ((h.ok i h1 h2 h3).2.2 h5).2.2 ⟨x, a4, a5, e.symm⟩
/-- a change in a block of contents alone -/
def cgB (d e : Im) (b : Int) : Prop := ∀ j : Int, ¬ (b * 64 ≤ j ∧ j < b * 64 + 64) → e.1 j = d.1 j
theorem cgB.smIE {tm : Int64} {d e : Im} {b i : Int} (h : WF tm d) (hb : ctB d b) (hc : cgB d e b) (h1 : 1 ≤ i) (h2 : i < 32) (h3 : kd d i ≠ 0) : smI d e i := by
  have hd := hb.datE h
  refine ⟨fun j a1 a2 a3 => hc _ (by omega), fun h5 j a1 a2 => hc _ ?_⟩
  have := hb.indE h h1 h2 h3 h5
  omega
theorem cgB.lo {tm : Int64} {d e : Im} {b j : Int} (h : WF tm d) (hb : ctB d b) (hc : cgB d e b) (hj : j < 1024) : e.1 j = d.1 j := by
  have hd := hb.datE h
  exact hc _ (by omega)
theorem cgB.kdE {tm : Int64} {d e : Im} {b : Int} (h : WF tm d) (hb : ctB d b) (hc : cgB d e b) (i : Int) : kd e i = kd d i := by
  unfold kd
  split
  · rw [cgB.lo h hb hc (by omega)]
  · rfl
theorem cgB.szE {tm : Int64} {d e : Im} {b : Int} (h : WF tm d) (hb : ctB d b) (hc : cgB d e b) (i : Int) : sz e i = sz d i := by
  unfold sz
  split
  · rw [cgB.lo h hb hc (by omega), cgB.lo h hb hc (by omega)]
  · rfl
theorem cgB.WFE {tm : Int64} {d e : Im} {b : Int} (h : WF tm d) (hb : ctB d b) (hc : cgB d e b) : WF tm e :=
  h.frame (by rw [cgB.kdE h hb hc]; exact h.k0) (fun i h1 h2 h3 => cgB.smIE h hb hc h1 h2 h3) (fun i h1 h2 h3 h4 j h5 h6 => by rw [cgB.lo h hb hc (by omega)]; exact h.bl i h1 h2 h4 j h5 h6) (by omega)
/-- a directory in use -/
abbrev drI (d : Im) (i : Int) : Prop := 1 ≤ i ∧ i < 32 ∧ kd d i = 2
section DR
variable {tm : Int64} {d : Im} {i p : Int}
theorem WFn.szE (h : WF tm d) (hi : drI d i) : 64 ≤ sz d i ∧ sz d i ≤ 2944 ∧ sz d i % 64 = 0 := by
  have o := (h.ok i hi.1 hi.2.1 (by omega)).1
  have := o.2.2.1 hi.2.2
  exact ⟨by omega, o.2.1, this.2⟩
theorem WFn.ecE (h : WF tm d) (hi : drI d i) : ec d i = sz d i / 16 := by
  have := h.szE hi
  unfold ec; omega
theorem WFn.epE (h : WF tm d) (hi : drI d i) (hp : 0 ≤ p) (hb : p < sz d i / 16) : ep d i p = 64 * bk d i (p / 4) + 16 * (p % 4) ∧ dat (bk d i (p / 4)) ∧ p / 4 < bc d i := by
  have hs := h.szE hi
  have hb2 : p / 4 < bc d i := by unfold bc; omega
  have g := ((h.ok i hi.1 hi.2.1 (by omega)).2.1 (p / 4) (by omega) hb2).1
  unfold ep cp
  rw [show p * 16 / 64 = p / 4 by omega, show p * 16 % 64 = 16 * (p % 4) by omega, if_pos (show inR i ∧ p / 4 < 46 ∧ dat (bk d i (p / 4)) from ⟨by omega, by omega, g⟩)]
  exact ⟨by omega, g, hb2⟩
theorem WFn.epAE (h : WF tm d) (hi : drI d i) : epA d i (sz d i / 16) := fun p h1 h2 => by
  have := h.epE hi h1 h2
  omega
theorem WFn.ctE (h : WF tm d) (hi : drI d i) (hp : 0 ≤ p) (hb : p < sz d i / 16) : ctB d (bk d i (p / 4)) :=
  ⟨i, p / 4, hi.1, hi.2.1, by omega, by omega, (h.epE hi hp hb).2.2, rfl⟩
/-- places of entries are different -/
theorem WFn.ep_inj (h : WF tm d) {j q : Int} (hi : drI d i) (hj : drI d j) (hp : 0 ≤ p) (hb : p < sz d i / 16) (hq : 0 ≤ q) (hc : q < sz d j / 16) (e : ¬ (ep d i p + 16 ≤ ep d j q ∨ ep d j q + 16 ≤ ep d i p)) : i = j ∧ p = q := by
  have h1 := h.epE hi hp hb
  have h2 := h.epE hj hq hc
  have e1 : bk d i (p / 4) = bk d j (q / 4) ∧ p % 4 = q % 4 := by omega
  have e2 : i = j := h.dj i j (bk d i (p / 4)) hi.1 hi.2.1 hj.1 hj.2.1 (by omega) (by omega) (Or.inl ⟨p / 4, by omega, h1.2.2, rfl⟩) (Or.inl ⟨q / 4, by omega, h2.2.2, e1.1.symm⟩)
  subst e2
  refine ⟨rfl, ?_⟩
  have g := (h.ok i hi.1 hi.2.1 (by omega)).2.1
  by_cases hlt : p / 4 < q / 4
  · exact absurd ⟨p / 4, by omega, hlt, e1.1⟩ (g (q / 4) (by omega) h2.2.2).2.2
  · by_cases hgt : q / 4 < p / 4
    · exact absurd ⟨q / 4, by omega, hgt, e1.1.symm⟩ (g (p / 4) (by omega) h1.2.2).2.2
    · omega
end DR
/-- a change in one entry alone -/
def cgE (d e : Im) (a : Int) : Prop := ∀ j : Int, ¬ (a ≤ j ∧ j < a + 16) → e.1 j = d.1 j
theorem cgE.B {tm : Int64} {d e : Im} {i p : Int} (h : WF tm d) (hi : drI d i) (hp : 0 ≤ p) (hb : p < sz d i / 16) (hc : cgE d e (ep d i p)) : cgB d e (bk d i (p / 4)) := fun j hj => hc j (by have := h.epE hi hp hb; omega)
theorem cgE.rf (d : Im) (a : Int) : cgE d d a := fun _ _ => rfl
