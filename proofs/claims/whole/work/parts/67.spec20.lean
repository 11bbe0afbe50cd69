/-! HOW PASS 1 KEEPS WF -/
theorem wipe_at (d : Im) {p n : Int} (h : rgP p n) (j : Int) : (im_wipe d p n).1 j = if p ≤ j ∧ j < p + n then 0 else d.1 j := by
  unfold im_wipe; rw [if_pos h]; rfl
theorem wipe_in (d : Im) {p n j : Int} (h : rgP p n) (hj : p ≤ j ∧ j < p + n) : (im_wipe d p n).1 j = 0 := by
  rw [wipe_at d h, if_pos hj]
theorem wipe_out (d : Im) {p n j : Int} (h : rgP p n) (hj : ¬ (p ≤ j ∧ j < p + n)) : (im_wipe d p n).1 j = d.1 j := by
  rw [wipe_at d h, if_neg hj]
/-- an inode wiped -/
abbrev wI (d : Im) (i : Int) : Im := im_wipe d (512 + i * 16) 16
theorem wI_rg {i : Int} (hi : inR i) : rgP (512 + i * 16) 16 := by unfold rgP; omega
theorem wI_kd (d : Im) {i : Int} (hi : inR i) : kd (wI d i) i = 0 := by
  rw [kd_at hi]; exact wipe_in d (wI_rg hi) (by omega)
theorem wI_ne (d : Im) {i j : Int} (hi : inR i) (hj : inR j) (e : j ≠ i) : kd (wI d i) j = kd d j := by
  rw [kd_at hj, kd_at hj]; exact wipe_out d (wI_rg hi) (by omega)
theorem WFn.datE {n : Int} {tm : Int64} {d : Im} {i b : Int} (h : WFn n tm d) (h1 : 1 ≤ i) (h2 : i < n) (h3 : kd d i ≠ 0) (ho : own d i b) : dat b := own_dat (h.ok i h1 h2 h3).2 ho
theorem WFn.bits {n : Int} {tm : Int64} {d : Im} (h : WFn n tm d) : ∀ b : Int, 0 ≤ b → b < 64 → tbt tm b = true → dat b := fun b h1 h2 h3 => by
  obtain ⟨i, a1, a2, a3, a4⟩ := (h.tk b h1 h2).mp h3
  exact h.datE a1 a2 a3 a4
theorem WFn.ownT {n : Int} {tm : Int64} {d : Im} {i b : Int} (h : WFn n tm d) (h1 : 1 ≤ i) (h2 : i < n) (h3 : kd d i ≠ 0) (ho : own d i b) : tbt tm b = true := by
  have := h.datE h1 h2 h3 ho
  exact (h.tk b (by omega) (by omega)).mpr ⟨i, h1, h2, h3, ho⟩
theorem WFn.free {n : Int} {tm : Int64} {d : Im} (h : WFn n tm d) : tfB tm = -1 ↔ 47 - pcn tm = 0 := by
  rw [← cfr_pcn tm h.bits]
  exact tfs_none tm 47 16 (by omega)
theorem WFn.pcE {n : Int} {tm : Int64} {d : Im} (h : WFn n tm d) : 0 ≤ 47 - pcn tm := by
  rw [← cfr_pcn tm h.bits]; exact (cfr_rg tm 47 16).1
theorem wI_sm {n : Int} {tm : Int64} {d : Im} {i j : Int} (h : WFn n tm d) (hi : inR i) (h1 : 1 ≤ j) (h2 : j < n) (h32 : j < 32) (hk : kd d j ≠ 0) (e : j ≠ i) : smI d (wI d i) j := by
  refine ⟨fun k a1 a2 _ => wipe_out d (wI_rg hi) (by omega), fun h5 k a1 a2 => wipe_out d (wI_rg hi) ?_⟩
  have := ((h.ok j h1 h2 hk).2.2 h5).1
  omega
theorem WF_1 (d : Im) : WFn 1 0 (im_wipe d (512 + 0 * 16) 16) := by
  refine ⟨fun i h1 h2 => by omega, fun i j b h1 h2 => by omega, fun b h1 h2 => ⟨fun h => ?_, fun h => absurd h (usd_1 _ _)⟩, wI_kd d (i := 0) (by omega), fun i h1 h2 => by omega⟩
  rw [tbt_0] at h; cases h
theorem WFn.step_t {tm : Int64} {d : Im} {i : Int} (h : WFn i tm d) (h1 : 1 ≤ i) (h2 : i < 32) (hs : sndB tm d i = true) : WFn (i + 1) (tkT tm d i) d := by
  have f := snd_f hs
  have hh : hsB d i := by
    have g := hs
    unfold sndB at g
    simp only [Bool.and_eq_true] at g
    exact ⟨g.1, g.2.1⟩
  have hb := hh.bc
  have hg : gdA tm d i := by
    have g := hs
    unfold sndB at g
    simp only [Bool.and_eq_true] at g
    exact (tkB_iff tm d i (by omega) hb).mp g.2.2.2
  have g0 := gdA_0.mp hg
  have hss : sz d i ≤ 2944 ∧ (kd d i = 1 ∨ (0 < sz d i ∧ sz d i % 64 = 0)) := by
    have g := hh.2
    unfold ssB at g
    rwa [decide_eq_true_iff] at g
  have hk : kd d i ≠ 0 := by have := f.1; omega
  have hok : ok1 d i := ⟨by have := f.1; omega, hss.1, fun e => by rcases hss.2 with q | q; omega; exact q, fun e => by have := f.1; omega⟩
  refine ⟨?_, ?_, ?_, h.k0, ?_⟩
  · intro j a1 a2 a3
    by_cases e : j = i
    · subst e; exact ⟨hok, g0.1⟩
    · exact h.ok j a1 (by omega) a3
  · intro a c b a1 a2 a3 a4 a5 a6 a7 a8
    by_cases e1 : a = i
    · by_cases e2 : c = i
      · omega
      · subst e1
        have := h.ownT a3 (by omega) a6 a8
        rw [g0.2 b a7] at this; cases this
    · by_cases e2 : c = i
      · subst e2
        have := h.ownT a1 (by omega) a5 a7
        rw [g0.2 b a8] at this; cases this
      · exact h.dj a c b a1 (by omega) a3 (by omega) a5 a6 a7 a8
  · intro b a1 a2
    rw [tkT_bit tm d i (by omega) hb hg ⟨a1, a2⟩, h.tk b a1 a2, usd_s d b h1]
    exact or_congr Iff.rfl ⟨fun z => ⟨hk, z⟩, fun z => z.2⟩
  · intro j a1 a2 a3
    by_cases e : j = i
    · subst e; exact absurd a3 hk
    · exact h.bl j a1 (by omega) a3
theorem WFn.step_f {tm : Int64} {d : Im} {i : Int} (h : WFn i tm d) (h1 : 1 ≤ i) (h2 : i < 32) : WFn (i + 1) tm (im_wipe d (512 + i * 16) 16) := by
  have hi : inR i := by omega
  have k := wI_kd d hi
  have g : WFn i tm (wI d i) := h.frame (by rw [wI_ne d hi (by omega) (by omega)]; exact h.k0) (fun j a1 a2 a3 => wI_sm h hi a1 a2 (by omega) a3 (by omega)) (fun j a1 a2 a3 a4 k b1 b2 => by
    show (wI d i).1 _ = 0
    rw [wipe_out d (wI_rg hi) (by omega)]
    exact h.bl j a1 a2 a4 k b1 b2) (by omega)
  refine ⟨fun j a1 a2 a3 => ?_, fun a c b a1 a2 a3 a4 a5 a6 => ?_, fun b a1 a2 => ?_, g.k0, fun j a1 a2 a3 q b1 b2 => ?_⟩
  · by_cases e : j = i
    · subst e; exact absurd k a3
    · exact g.ok j a1 (by omega) a3
  · by_cases e1 : a = i
    · subst e1; exact absurd k a5
    · by_cases e2 : c = i
      · subst e2; exact absurd k a6
      · exact g.dj a c b a1 (by omega) a3 (by omega) a5 a6
  · rw [g.tk b a1 a2, usd_s _ b h1]
    exact ⟨Or.inl, fun z => z.elim id (fun w => absurd k w.1)⟩
  · by_cases e : j = i
    · subst e; exact wipe_in d (wI_rg hi) (by omega)
    · exact g.bl j a1 (by omega) a3 q b1 b2
theorem WFn.erase {tm : Int64} {d : Im} {i : Int} (h : WF tm d) (h1 : 1 ≤ i) (h2 : i < 32) (h3 : kd d i ≠ 0) : WF (erT tm d i) (im_wipe d (512 + i * 16) 16) := by
  have hi : inR i := by omega
  have k := wI_kd d hi
  have o := h.ok i h1 h2 h3
  have sm : ∀ j : Int, 1 ≤ j → j < 32 → kd d j ≠ 0 → j ≠ i → smI d (wI d i) j := fun j a1 a2 a3 a4 => wI_sm h hi a1 a2 a2 a3 a4
  have kn : ∀ j : Int, 1 ≤ j → j < 32 → j ≠ i → kd (wI d i) j = kd d j := fun j a1 a2 a3 => wI_ne d hi (by omega) a3
  refine ⟨fun j a1 a2 a3 => ?_, fun a c b a1 a2 a3 a4 a5 a6 a7 a8 => ?_, fun b a1 a2 => ?_, by rw [wI_ne d hi (by omega) (by omega)]; exact h.k0, fun j a1 a2 a3 q b1 b2 => ?_⟩
  · by_cases e : j = i
    · subst e; exact absurd k a3
    · rw [kn j a1 a2 e] at a3
      have oj := h.ok j a1 a2 a3
      exact ⟨(sm j a1 a2 a3 e).ok1E oj.1, (sm j a1 a2 a3 e).gdAE oj.1.bc oj.2⟩
  · by_cases e1 : a = i
    · subst e1; exact absurd k a5
    · by_cases e2 : c = i
      · subst e2; exact absurd k a6
      · rw [kn a a1 a2 e1] at a5
        rw [kn c a3 a4 e2] at a6
        exact h.dj a c b a1 a2 a3 a4 a5 a6 (((sm a a1 a2 a5 e1).ownE (h.ok a a1 a2 a5).1.bc b).mp a7) (((sm c a3 a4 a6 e2).ownE (h.ok c a3 a4 a6).1.bc b).mp a8)
  · rw [erT_bit tm d i hi o.1.bc o.2 ⟨a1, a2⟩, h.tk b a1 a2]
    constructor
    · rintro ⟨⟨j, b1, b2, b3, b4⟩, b5⟩
      have e : j ≠ i := fun e => b5 (e ▸ b4)
      exact ⟨j, b1, b2, by rw [kn j b1 b2 e]; exact b3, ((sm j b1 b2 b3 e).ownE (h.ok j b1 b2 b3).1.bc b).mpr b4⟩
    · rintro ⟨j, b1, b2, b3, b4⟩
      have e : j ≠ i := fun e => b3 (e ▸ k)
      rw [kn j b1 b2 e] at b3
      have b6 := ((sm j b1 b2 b3 e).ownE (h.ok j b1 b2 b3).1.bc b).mp b4
      exact ⟨⟨j, b1, b2, b3, b6⟩, fun z => e (h.dj j i b b1 b2 h1 h2 b3 h3 b6 z)⟩
  · by_cases e : j = i
    · subst e; exact wipe_in d (wI_rg hi) (by omega)
    · rw [kn j a1 a2 e] at a3
      rw [wipe_out d (wI_rg hi) (by omega)]
      exact h.bl j a1 a2 a3 q b1 b2
/-- inode i gets new blocks, the others stay -/
theorem WFn.chg {tm tn : Int64} {d e : Im} {i : Int} (h : WF tm d) (h1 : 1 ≤ i) (h2 : i < 32) (h0 : kd e 0 = 0) (hs : ∀ j : Int, 1 ≤ j → j < 32 → j ≠ i → kd d j ≠ 0 → smI d e j) (hz : ∀ j : Int, 1 ≤ j → j < 32 → j ≠ i → kd d j = 0 → ∀ k : Int, 0 ≤ k → k < 16 → e.1 (512 + j * 16 + k) = 0) (hk : kd e i ≠ 0) (ho : ok1 e i) (hg : gdA 0 e i) (N : Int → Prop) (hN : ∀ b, N b → tbt tm b = false) (hw : ∀ b, own e i b ↔ (kd d i ≠ 0 ∧ own d i b) ∨ N b) (ht : ∀ b : Int, 0 ≤ b → b < 64 → (tbt tn b = true ↔ tbt tm b = true ∨ N b)) : WF tn e := by
  have kn : ∀ j : Int, 1 ≤ j → j < 32 → j ≠ i → (kd e j ≠ 0 ↔ kd d j ≠ 0) := by
    intro j a1 a2 a3
    by_cases q : kd d j = 0
    · have := hz j a1 a2 a3 q 0 (by omega) (by omega)
      rw [show 512 + j * 16 + 0 = 512 + j * 16 by omega, ← kd_at (by omega)] at this
      rw [this, q]
    · rw [(hs j a1 a2 a3 q).kdE]
  have oi : ∀ (c b : Int), 1 ≤ c → c < 32 → c ≠ i → kd d c ≠ 0 → own d c b → own e i b → c = i := by
    intro c b a1 a2 a3 a4 a5 a6
    rcases (hw b).mp a6 with q | q
    · exact h.dj c i b a1 a2 h1 h2 a4 q.1 a5 q.2
    · have := h.ownT a1 a2 a4 a5
      rw [hN b q] at this; cases this
  refine ⟨fun j a1 a2 a3 => ?_, fun a c b a1 a2 a3 a4 a5 a6 a7 a8 => ?_, fun b a1 a2 => ?_, h0, fun j a1 a2 a3 => ?_⟩
  · by_cases q : j = i
    · subst q; exact ⟨ho, hg⟩
    · rw [kn j a1 a2 q] at a3
      have oj := h.ok j a1 a2 a3
      exact ⟨(hs j a1 a2 q a3).ok1E oj.1, (hs j a1 a2 q a3).gdAE oj.1.bc oj.2⟩
  · by_cases e1 : a = i
    · by_cases e2 : c = i
      · omega
      · subst e1
        rw [kn c a3 a4 e2] at a6
        exact (oi c b a3 a4 e2 a6 (((hs c a3 a4 e2 a6).ownE (h.ok c a3 a4 a6).1.bc b).mp a8) a7).symm
    · rw [kn a a1 a2 e1] at a5
      have a9 := ((hs a a1 a2 e1 a5).ownE (h.ok a a1 a2 a5).1.bc b).mp a7
      by_cases e2 : c = i
      · subst e2
        exact oi a b a1 a2 e1 a5 a9 a8
      · rw [kn c a3 a4 e2] at a6
        exact h.dj a c b a1 a2 a3 a4 a5 a6 a9 (((hs c a3 a4 e2 a6).ownE (h.ok c a3 a4 a6).1.bc b).mp a8)
  · rw [ht b a1 a2, h.tk b a1 a2]
    constructor
    · rintro (⟨j, b1, b2, b3, b4⟩ | q)
      · by_cases e : j = i
        · subst e; exact ⟨j, b1, b2, hk, (hw b).mpr (Or.inl ⟨b3, b4⟩)⟩
        · exact ⟨j, b1, b2, (kn j b1 b2 e).mpr b3, ((hs j b1 b2 e b3).ownE (h.ok j b1 b2 b3).1.bc b).mpr b4⟩
      · exact ⟨i, h1, h2, hk, (hw b).mpr (Or.inr q)⟩
    · rintro ⟨j, b1, b2, b3, b4⟩
      by_cases e : j = i
      · subst e
        rcases (hw b).mp b4 with q | q
        · exact Or.inl ⟨j, b1, b2, q.1, q.2⟩
        · exact Or.inr q
      · rw [kn j b1 b2 e] at b3
        exact Or.inl ⟨j, b1, b2, b3, ((hs j b1 b2 e b3).ownE (h.ok j b1 b2 b3).1.bc b).mp b4⟩
  · by_cases e : j = i
    · subst e; exact absurd a3 hk
    · exact hz j a1 a2 e (by rcases Classical.em (kd d j = 0) with q | q; exact q; exact absurd a3 ((kn j a1 a2 e).mpr q))
theorem put_at (d : Im) {p v : Int} (hp : 0 ≤ p ∧ p < 4095) (j : Int) : (im_put d p v).1 j = if j = p + 1 then v % 256 else if j = p then v / 256 % 256 else d.1 j := by
  unfold im_put; rw [if_pos hp]; rfl
section DIR
variable {tm : Int64} {d : Im} {i q : Int}
theorem dir_at (hi : inR i) (hq : dat q) (j : Int) : (dirD d i q).1 j = if q * 64 ≤ j ∧ j < q * 64 + 64 then 0 else if j = 512 + i * 16 + 4 then q else if j = 512 + i * 16 + 3 then 64 else if j = 512 + i * 16 + 2 then 0 else if j = 512 + i * 16 then 2 else d.1 j := by
  unfold dirD
  rw [wipe_at _ (by unfold rgP; omega), up_at, put_at _ (by omega), up_at, show 512 + i * 16 + 2 + 1 = 512 + i * 16 + 3 by omega, show q % 256 = q by omega]
  rfl
theorem dir_kd (hi : inR i) (hq : dat q) : kd (dirD d i q) i = 2 := by
  rw [kd_at hi, dir_at hi hq, if_neg (by omega), if_neg (by omega), if_neg (by omega), if_neg (by omega), if_pos rfl]
theorem dir_sz (hi : inR i) (hq : dat q) : sz (dirD d i q) i = 64 := by
  unfold sz
  rw [if_pos hi, dir_at hi hq, dir_at hi hq, if_neg (by omega), if_neg (by omega), if_neg (by omega), if_pos rfl, if_neg (by omega), if_neg (by omega), if_pos (by omega)]
  rfl
theorem dir_bc (hi : inR i) (hq : dat q) : bc (dirD d i q) i = 1 := by
  unfold bc; rw [dir_sz hi hq]; rfl
theorem dir_bk (hi : inR i) (hq : dat q) : bk (dirD d i q) i 0 = q := by
  unfold bk
  rw [if_pos (by omega), dir_at hi hq, if_neg (by omega), if_pos (by omega)]
theorem dir_inB (hi : inR i) (hq : dat q) (b : Int) : inB (dirD d i q) i 1 b ↔ b = q := by
  constructor
  · rintro ⟨x, h1, h2, h3⟩
    rw [show x = 0 by omega, dir_bk hi hq] at h3
    exact h3.symm
  · rintro rfl
    exact ⟨0, by omega, by omega, dir_bk hi hq⟩
theorem dir_own (hi : inR i) (hq : dat q) (b : Int) : own (dirD d i q) i b ↔ b = q := by
  unfold own
  rw [dir_bc hi hq, dir_inB hi hq]
  exact ⟨fun h => h.elim id (fun z => by omega), Or.inl⟩
theorem smI.new (h : WF tm d) (hi : 1 ≤ i ∧ i < 32) (hq : dat q) (ht : tbt tm q = false) {j : Int} (h1 : 1 ≤ j) (h2 : j < 32) (h3 : j ≠ i) (h4 : kd d j ≠ 0) : smI d (dirD d i q) j := by
  have hR : inR i := by omega
  refine ⟨fun k a1 a2 _ => ?_, fun h5 k a1 a2 => ?_⟩
  · rw [dir_at hR hq, if_neg (by omega), if_neg (by omega), if_neg (by omega), if_neg (by omega), if_neg (by omega)]
  · have o := ((h.ok j h1 h2 h4).2.2 h5).1
    have t := h.ownT h1 h2 h4 (Or.inr ⟨h5, rfl⟩)
    have : ind d j ≠ q := fun e => by rw [e, ht] at t; cases t
    rw [dir_at hR hq, if_neg (by omega), if_neg (by omega), if_neg (by omega), if_neg (by omega), if_neg (by omega)]
theorem WFn.dir (h : WF tm d) (hi : 1 ≤ i ∧ i < 32) (hk : kd d i = 0) (hq : dat q) (ht : tbt tm q = false) : WF (tset tm q) (dirD d i q) := by
  have hR : inR i := by omega
  have k := dir_kd (d := d) hR hq
  have s := dir_sz (d := d) hR hq
  refine h.chg hi.1 hi.2 ?_ (fun j a1 a2 a3 a4 => smI.new h hi hq ht a1 a2 a3 a4) (fun j a1 a2 a3 a4 x b1 b2 => ?_) (by omega) ?_ ?_ (fun b => b = q) (fun b e => by rw [e]; exact ht) (fun b => ?_) (fun b a1 a2 => tset_iff tm hq ⟨a1, a2⟩)
  · rw [kd_at (by omega), dir_at hR hq, if_neg (by omega), if_neg (by omega), if_neg (by omega), if_neg (by omega), if_neg (by omega), ← kd_at (by omega)]
    exact h.k0
  · rw [dir_at hR hq, if_neg (by omega), if_neg (by omega), if_neg (by omega), if_neg (by omega), if_neg (by omega)]
    exact h.bl j a1 a2 a4 x b1 b2
  · exact ⟨Or.inr k, by omega, fun _ => by omega, fun _ => k⟩
  · unfold gdA
    rw [dir_bc hR hq]
    refine ⟨fun x a1 a2 => ?_, fun z => by omega⟩
    rw [show x = 0 by omega, dir_bk hR hq]
    exact ⟨hq, tbt_0 _, inB_0 _ _ _⟩
  · rw [dir_own hR hq]
    exact ⟨Or.inr, fun z => z.elim (fun w => absurd hk w.1) id⟩
end DIR
theorem tf_clr {tm : Int64} (h : tfB tm ≠ -1) : dat (tfB tm) ∧ tbt tm (tfB tm) = false := by
  have r := tfB_rg tm
  exact ⟨by omega, (tfs_clr tm 47 16 h (by omega)).1⟩
/-- the room made, the set and the disk behind make -/
def mdT (tm : Int64) (d : Im) : Int64 := if tfB (prF tm d).1 = -1 then (prF tm d).1 else tset (prF tm d).1 (tfB (prF tm d).1)
def mdD (tm : Int64) (d : Im) (i : Int) : Im := if tfB (prF tm d).1 = -1 then (prF tm d).2 else dirD (prF tm d).2 i (tfB (prF tm d).1)
theorem prs_stop : ∀ (f : Nat) (y : Int) (m : Int64) (x : Im), pcn m < 47 → prs f y m x = (m, x)
  | 0, y, m, x, h => rfl
  | f + 1, y, m, x, h => by rw [prs, if_pos h]
theorem prs_WF : ∀ (f : Nat) (y : Int) (m : Int64) (x : Im), WF m x → y ≤ 31 → (f : Int) ≤ y → WF (prs f y m x).1 (prs f y m x).2
  | 0, y, m, x, h, _, _ => h
  | f + 1, y, m, x, h, h1, h2 => by
    rw [prs]
    split
    · exact h
    · by_cases k : kd x y = 0
      · rw [if_pos k, if_pos k]; exact prs_WF f (y - 1) m x h (by omega) (by omega)
      · rw [if_neg k, if_neg k]; exact prs_WF f (y - 1) _ _ (h.erase (by omega) (by omega) k) (by omega) (by omega)
theorem prF_WF {tm : Int64} {d : Im} (h : WF tm d) : WF (prF tm d).1 (prF tm d).2 := prs_WF 30 31 tm d h (by omega) (by omega)
theorem prs_k0 {i : Int} (hi : inR i) : ∀ (f : Nat) (y : Int) (m : Int64) (x : Im), kd x i = 0 → y ≤ 31 → (f : Int) ≤ y → kd (prs f y m x).2 i = 0
  | 0, y, m, x, h, _, _ => h
  | f + 1, y, m, x, h, h1, h2 => by
    rw [prs]
    split
    · exact h
    · by_cases k : kd x y = 0
      · rw [if_pos k, if_pos k]; exact prs_k0 hi f (y - 1) m x h (by omega) (by omega)
      · rw [if_neg k, if_neg k]
        refine prs_k0 hi f (y - 1) _ _ ?_ (by omega) (by omega)
        have e : i ≠ y := fun e => k (e ▸ h)
        rw [wI_ne x (by omega) hi e]; exact h
theorem md_WF {tm : Int64} {d : Im} {i : Int} (h : WF tm d) (h1 : 1 ≤ i) (h2 : i < 32) (hk : kd d i = 0) : WF (mdT tm d) (mdD tm d i) := by
  unfold mdT mdD
  have w := prF_WF h
  have k : kd (prF tm d).2 i = 0 := prs_k0 (by omega) 30 31 tm d hk (by omega) (by omega)
  by_cases e : tfB (prF tm d).1 = -1
  · rw [if_pos e, if_pos e]; exact w
  · rw [if_neg e, if_neg e]
    have c := tf_clr e
    exact w.dir ⟨h1, h2⟩ k c.1 c.2
def ri1 (s : Int64 × Im) (i : Int) : Int64 × Im := if kd s.2 i = 0 then (mdT s.1 s.2, mdD s.1 s.2 i) else s
def riF (d : Im) : Int64 × Im := ri1 (ri1 (kpF d) 1) 2
theorem ri1_WF {s : Int64 × Im} {i : Int} (h : WF s.1 s.2) (h1 : 1 ≤ i) (h2 : i < 32) : WF (ri1 s i).1 (ri1 s i).2 := by
  unfold ri1
  split
  · next k => exact md_WF h h1 h2 k
  · exact h
theorem kps_WF : ∀ (f : Nat) (i : Int) (m : Int64) (x : Im), WFn i m x → 1 ≤ i → i + f ≤ 32 → WFn (i + f) (kps f i m x).1 (kps f i m x).2
  | 0, i, m, x, h, _, _ => by rw [show i + ((0 : Nat) : Int) = i by omega]; exact h
  | f + 1, i, m, x, h, h1, h2 => by
    rw [kps, show i + ((f + 1 : Nat) : Int) = i + 1 + (f : Int) by omega]
    refine kps_WF f (i + 1) _ _ ?_ (by omega) (by omega)
    by_cases s : sndB m x i = true
    · rw [if_pos s, if_pos s]; exact h.step_t h1 (by omega) s
    · rw [if_neg s, if_neg s]; exact h.step_f h1 (by omega)
theorem kpF_WF (d : Im) : WF (kpF d).1 (kpF d).2 := kps_WF 31 1 0 _ (WF_1 d) (by omega) (by omega)
theorem riF_WF (d : Im) : WF (riF d).1 (riF d).2 := ri1_WF (s := ri1 (kpF d) 1) (ri1_WF (s := kpF d) (kpF_WF d) (by omega) (by omega)) (by omega) (by omega)
