/-! AN INODE GETS A BLOCK MORE -/
def gwD (tm : Int64) (d : Im) (i w : Int) : Im := if abX tm d i then d else im_put (abD tm d i) (512 + i * 16 + 2) (sz d i + w)
/-- what is free when an inode may grow -/
theorem ab_fr {tm : Int64} {d : Im} {i : Int} (h : WF tm d) (hx : ¬ abX tm d i) : bc d i ≤ 45 ∧ (dat (tfB tm) ∧ tbt tm (tfB tm) = false) ∧ (bc d i = 5 → dat (tfB (tfT tm)) ∧ tbt tm (tfB (tfT tm)) = false ∧ tfB (tfT tm) ≠ tfB tm) := by
  have pc := h.pcE
  have fr := h.free
  unfold abX at hx
  have n1 : tfB tm ≠ -1 := by
    intro e
    have := fr.mp e
    refine hx (Or.inr ?_)
    split <;> omega
  have c := tf_clr n1
  refine ⟨by omega, c, fun h5 => ?_⟩
  rw [if_pos h5] at hx
  have e : tfT tm = tset tm (tfB tm) := by unfold tfT; rw [if_neg n1]
  rw [e]
  have st := cfr_set tm (q := tfB tm) (by omega) c.2 47 16 (by omega) (by omega) (by omega) (by omega)
  have c0 := cfr_pcn tm h.bits
  have n2 : tfB (tset tm (tfB tm)) ≠ -1 := fun w => by
    have := (tfs_none (tset tm (tfB tm)) 47 16 (by omega)).mp w
    omega
  have c2 := tf_clr n2
  have hr := c2.1
  have c3 := c2.2
  rw [tb_tset tm (by omega) (by omega), Bool.or_eq_false_iff, decide_eq_false_iff_not] at c3
  exact ⟨c2.1, c3.1, c3.2⟩
/-- and when it may not -/
theorem ab_no {tm : Int64} {d : Im} {i : Int} (h : WF tm d) : abX tm d i ↔ (46 ≤ bc d i ∨ tfB tm = -1 ∨ (bc d i = 5 ∧ tfB (tset tm (tfB tm)) = -1)) := by
  have pc := h.pcE
  have fr := h.free
  constructor
  · intro hx
    by_cases n1 : tfB tm = -1
    · exact Or.inr (Or.inl n1)
    · unfold abX at hx
      by_cases h5 : bc d i = 5
      · rw [if_pos h5] at hx
        refine Or.inr (Or.inr ⟨h5, ?_⟩)
        have c := tf_clr n1
        have st := cfr_set tm (q := tfB tm) (by omega) c.2 47 16 (by omega) (by omega) (by omega) (by omega)
        have c0 := cfr_pcn tm h.bits
        exact (tfs_none (tset tm (tfB tm)) 47 16 (by omega)).mpr (by omega)
      · rw [if_neg h5] at hx; omega
  · intro hx
    rcases Classical.em (abX tm d i) with a | a
    · exact a
    · have f := ab_fr h a
      rcases hx with w | w | ⟨w1, w2⟩
      · omega
      · have := f.2.1.1; rw [w] at this; omega
      · have g := f.2.2 w1
        have e : tfT tm = tset tm (tfB tm) := by unfold tfT; rw [if_neg (by have := f.2.1.1; omega)]
        rw [e, w2] at g; omega
section GW
variable {tm : Int64} {d : Im} {i w : Int}
/-- where the new block's number goes -/
def gPt (tm : Int64) (d : Im) (i : Int) : Int := if bc d i < 5 then 512 + i * 16 + 4 + bc d i else if bc d i = 5 then tfB (tfT tm) * 64 else ind d i * 64 + bc d i - 5
theorem WFn.indE (h : WF tm d) (h1 : 1 ≤ i) (h2 : i < 32) (h3 : kd d i ≠ 0) (h5 : 5 < bc d i) : dat (ind d i) ∧ tbt tm (ind d i) = true := ⟨((h.ok i h1 h2 h3).2.2 h5).1, h.ownT h1 h2 h3 (Or.inr ⟨h5, rfl⟩)⟩
theorem gw_pt (h : WF tm d) (h1 : 1 ≤ i) (h2 : i < 32) (h3 : kd d i ≠ 0) (hx : ¬ abX tm d i) : (bc d i < 5 ∧ gPt tm d i = 512 + i * 16 + 4 + bc d i) ∨ (bc d i = 5 ∧ gPt tm d i = tfB (tfT tm) * 64) ∨ (5 < bc d i ∧ gPt tm d i = ind d i * 64 + bc d i - 5 ∧ dat (ind d i) ∧ ind d i ≠ tfB tm) := by
  unfold gPt
  by_cases c : bc d i < 5
  · rw [if_pos c]; exact Or.inl ⟨c, rfl⟩
  · rw [if_neg c]
    by_cases c5 : bc d i = 5
    · rw [if_pos c5]; exact Or.inr (Or.inl ⟨c5, rfl⟩)
    · rw [if_neg c5]
      have g := h.indE h1 h2 h3 (by omega)
      exact Or.inr (Or.inr ⟨by omega, rfl, g.1, fun e => by rw [e, (ab_fr h hx).2.1.2] at g; cases g.2⟩)
theorem gw_at (h : WF tm d) (h1 : 1 ≤ i) (h2 : i < 32) (h3 : kd d i ≠ 0) (hx : ¬ abX tm d i) (a : Int) : (gwD tm d i w).1 a = if a = 512 + i * 16 + 3 then (sz d i + w) % 256 else if a = 512 + i * 16 + 2 then (sz d i + w) / 256 % 256 else if a = gPt tm d i then tfB tm else if bc d i = 5 ∧ a = 512 + i * 16 + 9 then tfB (tfT tm) else if tfB tm * 64 ≤ a ∧ a < tfB tm * 64 + 64 then 0 else if bc d i = 5 ∧ (tfB (tfT tm) * 64 ≤ a ∧ a < tfB (tfT tm) * 64 + 64) then 0 else d.1 a := by
  have f := ab_fr h hx
  have hb := bc_rg d i
  have hq := f.2.1.1
  have n1 : ¬ tfB tm = -1 := by omega
  unfold gwD
  rw [if_neg hx, put_at _ (by omega), show 512 + i * 16 + 2 + 1 = 512 + i * 16 + 3 by omega]
  by_cases a3 : a = 512 + i * 16 + 3
  · rw [if_pos a3, if_pos a3]
  rw [if_neg a3, if_neg a3]
  by_cases a2 : a = 512 + i * 16 + 2
  · rw [if_pos a2, if_pos a2]
  rw [if_neg a2, if_neg a2]
  have eD : tfD tm d = im_wipe d (tfB tm * 64) 64 := by unfold tfD; rw [if_neg n1]
  have vq : tfB tm % 256 = tfB tm := by omega
  unfold abD
  rw [if_neg hx]
  rcases gw_pt h h1 h2 h3 hx with ⟨c, e⟩ | ⟨c, e⟩ | ⟨c, e, e2, e3⟩
  · rw [if_pos c, e, eD, im_set_in _ (by omega), up_at, wipe_at _ (by unfold rgP; omega), vq, if_neg (show ¬ (bc d i = 5 ∧ a = 512 + i * 16 + 9) by omega), if_neg (show ¬ (bc d i = 5 ∧ (tfB (tfT tm) * 64 ≤ a ∧ a < tfB (tfT tm) * 64 + 64)) by omega)]
  · have g := f.2.2 c
    have n2 : ¬ tfB (tfT tm) = -1 := by omega
    have eI : abI tm d i = im_set (im_wipe (im_wipe d (tfB tm * 64) 64) (tfB (tfT tm) * 64) 64) (512 + i * 16 + 9) (tfB (tfT tm)) := by
      unfold abI; rw [if_pos c, eD]; unfold tfD; rw [if_neg n2]
    have e9 : (abI tm d i).1 (512 + i * 16 + 9) = tfB (tfT tm) := by
      rw [eI, im_set_in _ (by omega), up_at, if_pos rfl]; omega
    rw [if_neg (by omega), e9, c, e, show tfB (tfT tm) * 64 + 5 - 5 = tfB (tfT tm) * 64 by omega, im_set_in _ (by omega), up_at, vq]
    by_cases aP : a = tfB (tfT tm) * 64
    · rw [if_pos aP, if_pos aP]
    · rw [if_neg aP, if_neg aP, eI, im_set_in _ (by omega), up_at, wipe_at _ (by unfold rgP; omega), wipe_at _ (by unfold rgP; omega)]
      by_cases a9 : a = 512 + i * 16 + 9
      · rw [if_pos a9, if_pos (show (5 : Int) = 5 ∧ a = 512 + i * 16 + 9 from ⟨rfl, a9⟩)]; omega
      · rw [if_neg a9, if_neg (show ¬ ((5 : Int) = 5 ∧ a = 512 + i * 16 + 9) from fun z => a9 z.2)]
        by_cases ao : tfB (tfT tm) * 64 ≤ a ∧ a < tfB (tfT tm) * 64 + 64
        · rw [if_pos ao, if_neg (show ¬ (tfB tm * 64 ≤ a ∧ a < tfB tm * 64 + 64) by omega), if_pos (show (5 : Int) = 5 ∧ (tfB (tfT tm) * 64 ≤ a ∧ a < tfB (tfT tm) * 64 + 64) from ⟨rfl, ao⟩)]
        · rw [if_neg ao, if_neg (show ¬ ((5 : Int) = 5 ∧ (tfB (tfT tm) * 64 ≤ a ∧ a < tfB (tfT tm) * 64 + 64)) from fun z => ao z.2)]
  · have eI : abI tm d i = im_wipe d (tfB tm * 64) 64 := by unfold abI; rw [if_neg (by omega), eD]
    have e9 : (abI tm d i).1 (512 + i * 16 + 9) = ind d i := by rw [eI]; exact wipe_out _ (by unfold rgP; omega) (by omega)
    rw [if_neg (by omega), e9, e, im_set_in _ (by omega), up_at, vq, eI, wipe_at _ (by unfold rgP; omega), if_neg (show ¬ (bc d i = 5 ∧ a = 512 + i * 16 + 9) by omega), if_neg (show ¬ (bc d i = 5 ∧ (tfB (tfT tm) * 64 ≤ a ∧ a < tfB (tfT tm) * 64 + 64)) by omega)]
/-- everything else stays -/
theorem gw_out (h : WF tm d) (h1 : 1 ≤ i) (h2 : i < 32) (h3 : kd d i ≠ 0) (hx : ¬ abX tm d i) {a : Int} (ha : ¬ (512 + i * 16 ≤ a ∧ a < 512 + i * 16 + 16)) (hq : ¬ (tfB tm * 64 ≤ a ∧ a < tfB tm * 64 + 64)) (ho : bc d i = 5 → ¬ (tfB (tfT tm) * 64 ≤ a ∧ a < tfB (tfT tm) * 64 + 64)) (hi : 5 < bc d i → ¬ (ind d i * 64 ≤ a ∧ a < ind d i * 64 + 64)) : (gwD tm d i w).1 a = d.1 a := by
  have f := ab_fr h hx
  have hb := bc_rg d i
  have np : a ≠ gPt tm d i := by
    rcases gw_pt h h1 h2 h3 hx with ⟨c, e⟩ | ⟨c, e⟩ | ⟨c, e, e2, e3⟩
    · omega
    · have := ho c; omega
    · have := hi c; omega
  rw [gw_at h h1 h2 h3 hx, if_neg (by omega), if_neg (by omega), if_neg np, if_neg (by omega), if_neg hq, if_neg (fun z => ho z.1 z.2)]
/-- a block that an inode other than i has, or that lies in i's contents -/
theorem gw_blk (h : WF tm d) (h1 : 1 ≤ i) (h2 : i < 32) (h3 : kd d i ≠ 0) (hx : ¬ abX tm d i) {b a : Int} (hb : ∃ j : Int, 1 ≤ j ∧ j < 32 ∧ kd d j ≠ 0 ∧ own d j b ∧ (j ≠ i ∨ inB d i (bc d i) b)) (ha : b * 64 ≤ a ∧ a < b * 64 + 64) : (gwD tm d i w).1 a = d.1 a := by
  obtain ⟨j, j1, j2, j3, j4, j5⟩ := hb
  have hd := h.datE j1 j2 j3 j4
  have ht := h.ownT j1 j2 j3 j4
  have f := ab_fr h hx
  have bq : b ≠ tfB tm := fun e => by rw [e, f.2.1.2] at ht; cases ht
  refine gw_out h h1 h2 h3 hx (by omega) (by omega) (fun c z => ?_) (fun c z => ?_)
  · have g := f.2.2 c
    have : b ≠ tfB (tfT tm) := fun e => by rw [e, g.2.1] at ht; cases ht
    omega
  · have e : b = ind d i := by omega
    rcases j5 with j5 | j5
    · exact j5 (h.dj j i b j1 j2 h1 h2 j3 h3 j4 (Or.inr ⟨c, e.symm⟩))
    · exact ((h.ok i h1 h2 h3).2.2 c).2.2 (e ▸ j5)
theorem gw_sm (h : WF tm d) (h1 : 1 ≤ i) (h2 : i < 32) (h3 : kd d i ≠ 0) (hx : ¬ abX tm d i) {j : Int} (j1 : 1 ≤ j) (j2 : j < 32) (j3 : j ≠ i) (j4 : kd d j ≠ 0) : smI d (gwD tm d i w) j := by
  have f := ab_fr h hx
  refine ⟨fun k a1 a2 _ => gw_out h h1 h2 h3 hx (by omega) (by omega) (fun c z => ?_) (fun c z => ?_), fun h5 k a1 a2 => gw_blk h h1 h2 h3 hx ⟨j, j1, j2, j4, Or.inr ⟨h5, rfl⟩, Or.inl j3⟩ (by omega)⟩
  · have g := f.2.2 c; omega
  · have g := h.indE h1 h2 h3 c; omega
theorem gw_lo (h : WF tm d) (h1 : 1 ≤ i) (h2 : i < 32) (h3 : kd d i ≠ 0) (hx : ¬ abX tm d i) {a : Int} (ha : a < 1024) (hi : ¬ (512 + i * 16 ≤ a ∧ a < 512 + i * 16 + 16)) : (gwD tm d i w).1 a = d.1 a := by
  have f := ab_fr h hx
  refine gw_out h h1 h2 h3 hx hi (by omega) (fun c z => ?_) (fun c z => ?_)
  · have g := f.2.2 c; omega
  · have g := h.indE h1 h2 h3 c; omega
theorem gw_kd (h : WF tm d) (h1 : 1 ≤ i) (h2 : i < 32) (h3 : kd d i ≠ 0) (hx : ¬ abX tm d i) (j : Int) : kd (gwD tm d i w) j = kd d j := by
  unfold kd
  split
  · by_cases e : j = i
    · subst e
      have f := ab_fr h hx
      have hb := bc_rg d j
      have np : 512 + j * 16 ≠ gPt tm d j := by
        rcases gw_pt h h1 h2 h3 hx with ⟨c, e⟩ | ⟨c, e⟩ | ⟨c, e, e2, e3⟩
        · omega
        · have g := f.2.2 c; omega
        · omega
      rw [gw_at h h1 h2 h3 hx, if_neg (by omega), if_neg (by omega), if_neg np, if_neg (by omega), if_neg (by omega), if_neg (fun z => by have g := f.2.2 z.1; omega)]
    · exact gw_lo h h1 h2 h3 hx (by omega) (by omega)
  · rfl
theorem gw_szn (h : WF tm d) (h1 : 1 ≤ i) (h2 : i < 32) (h3 : kd d i ≠ 0) (hx : ¬ abX tm d i) {j : Int} (hj : j ≠ i) : sz (gwD tm d i w) j = sz d j := by
  unfold sz
  split
  · rw [gw_lo h h1 h2 h3 hx (by omega) (by omega), gw_lo h h1 h2 h3 hx (by omega) (by omega)]
  · rfl
theorem gw_sz (h : WF tm d) (h1 : 1 ≤ i) (h2 : i < 32) (h3 : kd d i ≠ 0) (hx : ¬ abX tm d i) (hw : 0 ≤ w ∧ w ≤ 64) : sz (gwD tm d i w) i = sz d i + w := by
  have r := sz_rg d i
  have := (h.ok i h1 h2 h3).1.2.1
  have hR : inR i := by omega
  have e : sz (gwD tm d i w) i = (gwD tm d i w).1 (512 + i * 16 + 2) * 256 + (gwD tm d i w).1 (512 + i * 16 + 2 + 1) := by
    show (if inR i then _ else _) = _
    rw [if_pos hR]
  rw [e, gw_at h h1 h2 h3 hx, gw_at h h1 h2 h3 hx, if_neg (by omega), if_pos rfl, if_pos (by omega)]
  omega
theorem gw_ind (h : WF tm d) (h1 : 1 ≤ i) (h2 : i < 32) (h3 : kd d i ≠ 0) (hx : ¬ abX tm d i) (h5 : 5 ≤ bc d i) : ind (gwD tm d i w) i = if bc d i = 5 then tfB (tfT tm) else ind d i := by
  have f := ab_fr h hx
  have np : 512 + i * 16 + 9 ≠ gPt tm d i := by
    rcases gw_pt h h1 h2 h3 hx with ⟨c, e⟩ | ⟨c, e⟩ | ⟨c, e, e2, e3⟩
    · omega
    · have g := f.2.2 c; omega
    · omega
  show (gwD tm d i w).1 (512 + i * 16 + 9) = _
  rw [gw_at h h1 h2 h3 hx, if_neg (by omega), if_neg (by omega), if_neg np]
  by_cases c : bc d i = 5
  · rw [if_pos ⟨c, rfl⟩, if_pos c]
  · rw [if_neg (fun z => c z.1), if_neg c, if_neg (by omega), if_neg (fun z => c z.1)]
theorem gw_bko (h : WF tm d) (h1 : 1 ≤ i) (h2 : i < 32) (h3 : kd d i ≠ 0) (hx : ¬ abX tm d i) {x : Int} (x0 : 0 ≤ x) (hb : x < bc d i) : bk (gwD tm d i w) i x = bk d i x := by
  have f := ab_fr h hx
  have hp := gw_pt h h1 h2 h3 hx
  unfold bk
  by_cases c : x < 5
  · rw [if_pos c, if_pos c, gw_at h h1 h2 h3 hx, if_neg (by omega), if_neg (by omega), if_neg ?_, if_neg (by omega), if_neg (by omega), if_neg (fun z => by have g := f.2.2 z.1; omega)]
    rcases hp with ⟨c, e⟩ | ⟨c, e⟩ | ⟨c, e, e2, e3⟩
    · omega
    · have g := f.2.2 c; omega
    · omega
  · have g := h.indE h1 h2 h3 (by omega)
    have ei : (gwD tm d i w).1 (512 + i * 16 + 9) = d.1 (512 + i * 16 + 9) := by
      have := gw_ind h h1 h2 h3 hx (w := w) (by omega)
      rwa [if_neg (by omega)] at this
    rw [if_neg c, if_neg c, ei]
    have dd : dat (d.1 (512 + i * 16 + 9)) := g.1
    rw [if_pos dd, if_pos dd, gw_at h h1 h2 h3 hx, if_neg (by omega), if_neg (by omega), if_neg ?_, if_neg (by omega), if_neg ?_, if_neg (by omega)]
    · rcases hp with ⟨c, e⟩ | ⟨c, e⟩ | ⟨c, e, e2, e3⟩
      · omega
      · omega
      · have e4 : ind d i = d.1 (512 + i * 16 + 9) := rfl
        omega
    · have hne : ind d i ≠ tfB tm := fun e => by have g2 := g.2; rw [e, f.2.1.2] at g2; cases g2
      have e4 : ind d i = d.1 (512 + i * 16 + 9) := rfl
      omega
theorem gw_bkn (h : WF tm d) (h1 : 1 ≤ i) (h2 : i < 32) (h3 : kd d i ≠ 0) (hx : ¬ abX tm d i) : bk (gwD tm d i w) i (bc d i) = tfB tm := by
  have f := ab_fr h hx
  have hb := bc_rg d i
  have hp := gw_pt h h1 h2 h3 hx
  have pt : ∀ a : Int, a = gPt tm d i → a ≠ 512 + i * 16 + 3 → a ≠ 512 + i * 16 + 2 → (gwD tm d i w).1 a = tfB tm := fun a e n3 n2 => by
    rw [gw_at h h1 h2 h3 hx, if_neg n3, if_neg n2, if_pos e]
  unfold bk
  rcases hp with ⟨c, e⟩ | ⟨c, e⟩ | ⟨c, e, e2, e3⟩
  · rw [if_pos c]; exact pt _ (by omega) (by omega) (by omega)
  · have g := f.2.2 c
    have ei : (gwD tm d i w).1 (512 + i * 16 + 9) = tfB (tfT tm) := by
      have := gw_ind h h1 h2 h3 hx (w := w) (by omega)
      rwa [if_pos c] at this
    rw [if_neg (by omega), ei, if_pos g.1]
    exact pt _ (by omega) (by omega) (by omega)
  · have ei : (gwD tm d i w).1 (512 + i * 16 + 9) = ind d i := by
      have := gw_ind h h1 h2 h3 hx (w := w) (by omega)
      rwa [if_neg (by omega)] at this
    rw [if_neg (by omega), ei, if_pos e2]
    exact pt _ (by omega) (by omega) (by omega)
theorem inB_x {e : Im} {n b : Int} (hb : ∀ x : Int, 0 ≤ x → x < n → bk e i x = bk d i x) : inB e i n b ↔ inB d i n b := by
  constructor
  · rintro ⟨x, a1, a2, a3⟩; exact ⟨x, a1, a2, by rw [← hb x a1 a2]; exact a3⟩
  · rintro ⟨x, a1, a2, a3⟩; exact ⟨x, a1, a2, by rw [hb x a1 a2]; exact a3⟩
theorem gw_WF (h : WF tm d) (h1 : 1 ≤ i) (h2 : i < 32) (h3 : kd d i ≠ 0) (hx : ¬ abX tm d i) (hm : sz d i % 64 = 0) (hw : w = 64 ∨ (w = 1 ∧ kd d i = 1)) : WF (abT tm d i) (gwD tm d i w) ∧ bc (gwD tm d i w) i = bc d i + 1 := by
  have f := ab_fr h hx
  have hb := bc_rg d i
  have s := gw_sz h h1 h2 h3 hx (w := w) (by omega)
  have o := h.ok i h1 h2 h3
  have o3 := o.1.2.2.1
  have r := sz_rg d i
  have bn : bc (gwD tm d i w) i = bc d i + 1 := by
    have e : bc (gwD tm d i w) i = (sz (gwD tm d i w) i + 63) / 64 := rfl
    have e2 : bc d i = (sz d i + 63) / 64 := rfl
    rw [e, s, e2]; omega
  refine ⟨?_, bn⟩
  have k := gw_kd h h1 h2 h3 hx (w := w)
  have bo := fun x a b => gw_bko h h1 h2 h3 hx (w := w) (x := x) a b
  have inq : ¬ inB d i (bc d i) (tfB tm) := fun z => by
    have t := h.ownT h1 h2 h3 (Or.inl z)
    rw [f.2.1.2] at t; cases t
  have iB : ∀ b, inB (gwD tm d i w) i (bc d i + 1) b ↔ inB d i (bc d i) b ∨ b = tfB tm := fun b => by
    rw [inB_s _ i b hb.1, gw_bkn h h1 h2 h3 hx, inB_x bo]
    exact or_congr Iff.rfl eq_comm
  refine h.chg h1 h2 (by rw [k]; exact h.k0) (fun j a1 a2 a3 a4 => gw_sm h h1 h2 h3 hx a1 a2 a3 a4) (fun j a1 a2 a3 a4 z b1 b2 => by rw [gw_lo h h1 h2 h3 hx (by omega) (by omega)]; exact h.bl j a1 a2 a4 z b1 b2) (by rw [k]; exact h3) ?_ ?_ (fun b => b = tfB tm ∨ (bc d i = 5 ∧ b = tfB (tfT tm))) ?_ ?_ ?_
  · unfold ok1
    rw [k, s]
    have b45 := f.1
    have e2 : bc d i = (sz d i + 63) / 64 := rfl
    refine ⟨o.1.1, by omega, fun z => ?_, o.1.2.2.2⟩
    have := o3 z
    omega
  · refine ⟨fun x a1 a2 => ?_, fun c5 => ?_⟩
    · rw [bn] at a2
      by_cases e : x = bc d i
      · subst e
        rw [gw_bkn h h1 h2 h3 hx]
        exact ⟨f.2.1.1, tbt_0 _, fun z => inq ((inB_x bo).mp z)⟩
      · rw [bo x a1 (by omega)]
        have g := o.2.1 x a1 (by omega)
        exact ⟨g.1, g.2.1, fun z => g.2.2 ((inB_x (fun y b1 b2 => bo y b1 (by omega))).mp z)⟩
    · rw [bn] at c5 ⊢
      rw [gw_ind h h1 h2 h3 hx (by omega), iB]
      by_cases c : bc d i = 5
      · rw [if_pos c]
        have g := f.2.2 c
        refine ⟨g.1, tbt_0 _, fun z => ?_⟩
        rcases z with z | z
        · have t := h.ownT h1 h2 h3 (Or.inl z)
          rw [g.2.1] at t; cases t
        · exact g.2.2 z
      · rw [if_neg c]
        have g := o.2.2 (by omega)
        have t := h.indE h1 h2 h3 (by omega)
        exact ⟨g.1, tbt_0 _, fun z => z.elim g.2.2 (fun e => by rw [e, f.2.1.2] at t; cases t.2)⟩
  · rintro b (rfl | ⟨c, rfl⟩)
    · exact f.2.1.2
    · exact (f.2.2 c).2.1
  · intro b
    unfold own
    rw [bn, iB]
    constructor
    · rintro ((z | z) | ⟨z1, z2⟩)
      · exact Or.inl ⟨h3, Or.inl z⟩
      · exact Or.inr (Or.inl z)
      · rw [gw_ind h h1 h2 h3 hx (by omega)] at z2
        by_cases c : bc d i = 5
        · rw [if_pos c] at z2; exact Or.inr (Or.inr ⟨c, z2.symm⟩)
        · rw [if_neg c] at z2; exact Or.inl ⟨h3, Or.inr ⟨by omega, z2⟩⟩
    · rintro (⟨-, z | ⟨z1, z2⟩⟩ | z | ⟨c, z⟩)
      · exact Or.inl (Or.inl z)
      · refine Or.inr ⟨by omega, ?_⟩
        rw [gw_ind h h1 h2 h3 hx (by omega), if_neg (by omega)]; exact z2
      · exact Or.inl (Or.inr z)
      · refine Or.inr ⟨by omega, ?_⟩
        rw [gw_ind h h1 h2 h3 hx (by omega), if_pos c]; exact z.symm
  · intro b a1 a2
    unfold abT
    rw [if_neg hx]
    have e : tfT tm = tset tm (tfB tm) := by unfold tfT; rw [if_neg (by have := f.2.1.1; omega)]
    by_cases c : bc d i = 5
    · have g := f.2.2 c
      rw [if_pos c]
      have e2 : tfT (tfT tm) = tset (tfT tm) (tfB (tfT tm)) := by
        show (if tfB (tfT tm) = -1 then _ else _) = _
        rw [if_neg (by have := g.1; omega)]
      rw [e2, tset_iff _ g.1 ⟨a1, a2⟩]
      have e3 : tbt (tfT tm) b = true ↔ tbt tm b = true ∨ b = tfB tm := by rw [e]; exact tset_iff tm f.2.1.1 ⟨a1, a2⟩
      rw [e3, or_assoc]
      exact or_congr Iff.rfl (or_congr Iff.rfl ⟨fun z => ⟨c, z⟩, fun z => z.2⟩)
    · rw [if_neg c, e, tset_iff tm f.2.1.1 ⟨a1, a2⟩]
      exact or_congr Iff.rfl ⟨Or.inl, fun z => z.elim id (fun y => absurd y.1 c)⟩
end GW
