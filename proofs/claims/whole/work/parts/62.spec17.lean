/-! WHAT isSound OF THE REFERENCE MEANS -/
def snT (tm : Int64) (d : Im) (i : Int) : Int64 := if sndB tm d i = true then tkT tm d i else tm
theorem snd_f {tm : Int64} {d : Im} {i : Int} (h : sndB tm d i = true) : (kd d i = 2 ∨ (kd d i = 1 ∧ 3 ≤ i)) ∧ im_blank d (512 + 16 * i + 10) 4 = true ∧ im_two d (512 + 16 * i + 14) = im_sum d (512 + 16 * i) 14 ∧ sz d i ≤ 2944 ∧ (kd d i = 1 ∨ (0 < sz d i ∧ sz d i % 64 = 0)) ∧ sbB d i = true ∧ tkB tm d i = true := by
  unfold sndB shB ssB at h
  simp only [Bool.and_eq_true, decide_eq_true_iff] at h
  rw [show 512 + i * 16 + 9 + 1 = 512 + 16 * i + 10 by omega, show 512 + i * 16 + 14 = 512 + 16 * i + 14 by omega, show 512 + i * 16 = 512 + 16 * i by omega] at h
  exact ⟨h.1.1, h.1.2.1, h.1.2.2, h.2.1.1, h.2.1.2, h.2.2.1, h.2.2.2⟩
/-- head and size are sound -/
def hsB (d : Im) (i : Int) : Prop := shB d i = true ∧ ssB d i = true
theorem hs_t {d : Im} {i : Int} (h1 : ¬ kd d i < 1) (h2 : ¬ 2 < kd d i) (h3 : ¬ 3 ≤ i → kd d i = 2) (h4 : im_two d (512 + 16 * i + 14) = im_sum d (512 + 16 * i) 14) (h5 : im_blank d (512 + 16 * i + 10) 4 = true) (h6 : ¬ 2944 < sz d i) (h7 : kd d i = 2 → 0 < sz d i ∧ sz d i % 64 = 0) : hsB d i := by
  unfold hsB shB ssB
  simp only [Bool.and_eq_true, decide_eq_true_iff]
  rw [show 512 + i * 16 + 9 + 1 = 512 + 16 * i + 10 by omega, show 512 + i * 16 + 14 = 512 + 16 * i + 14 by omega, show 512 + i * 16 = 512 + 16 * i by omega]
  exact ⟨⟨by omega, h5, h4⟩, by omega, by omega⟩
theorem hsB.sz {d : Im} {i : Int} (h : hsB d i) : sz d i ≤ 2944 := by
  have := h.2
  unfold ssB at this
  rw [decide_eq_true_iff] at this
  exact this.1
theorem hsB.bc {d : Im} {i : Int} (h : hsB d i) : bc d i ≤ 46 := by
  have := h.sz
  unfold Jvm.Pilot.CFsckDeskLaw_law_r3444_266bec.bc; omega
theorem hsB.snd {tm : Int64} {d : Im} {i : Int} (h : hsB d i) : sndB tm d i = (sbB d i && tkB tm d i) := by
  unfold sndB; rw [h.1, h.2]; rfl
/-- pointers behind the last block are 0, and there is an indirect one if it's needed -/
def ptB (d : Im) (i x : Int) : Prop := ∀ y : Int, 0 ≤ y → y < x → bc d i ≤ y → d.1 (512 + 16 * i + 4 + y) = 0
theorem ptB_0 (d : Im) (i : Int) : ptB d i 0 := fun y h1 h2 => by omega
theorem ptB_s {d : Im} {i x : Int} (hx : 0 ≤ x) : ptB d i (x + 1) ↔ ptB d i x ∧ (bc d i ≤ x → d.1 (512 + 16 * i + 4 + x) = 0) := by
  constructor
  · intro h
    exact ⟨fun y h1 h2 => h y h1 (by omega), h x hx (by omega)⟩
  · rintro ⟨h1, h2⟩ y h3 h4
    by_cases h : y = x
    · subst h; exact h2
    · exact h1 y h3 (by omega)
theorem sb_le {d : Im} {i : Int} (hi : 0 ≤ i ∧ i < 32) (h5 : ¬ 5 < bc d i) : sbB d i = true ↔ ptB d i 5 ∧ (5 < bc d i ↔ ind d i ≠ 0) := by
  have h0 := bc_rg d i
  unfold sbB im_blank
  rw [if_neg h5, if_pos (by unfold rgP; omega), blk_iff, show ((5 - bc d i + 1).toNat : Int) = 6 - bc d i by omega]
  constructor
  · intro h
    refine ⟨fun y h1 h2 h3 => ?_, fun z => absurd z h5, fun z => absurd (h _ (by omega) (by omega)) z⟩
    have := h (512 + 16 * i + 4 + y) (by omega) (by omega)
    exact this
  · rintro ⟨h1, h2⟩ j h3 h4
    by_cases hj : j = 512 + i * 16 + 9
    · subst hj
      rcases Classical.em (ind d i = 0) with e | e
      · exact e
      · exact absurd (h2.mpr e) h5
    · have := h1 (j - (512 + 16 * i + 4)) (by omega) (by omega) (by omega)
      rwa [show 512 + 16 * i + 4 + (j - (512 + 16 * i + 4)) = j by omega] at this
theorem sb_gt {d : Im} {i : Int} (hi : 0 ≤ i ∧ i < 32) (h5 : 5 < bc d i) (h46 : bc d i ≤ 46) (hd : dat (ind d i)) : sbB d i = true ↔ ∀ y : Int, bc d i - 5 ≤ y → y < 64 → d.1 (64 * ind d i + y) = 0 := by
  have e9 : im_at d (512 + i * 16 + 9) = ind d i := im_at_in d (by omega)
  unfold sbB im_blank
  rw [if_pos h5, e9, if_pos (by unfold rgP; omega), blk_iff, show ((64 - (bc d i - 5)).toNat : Int) = 64 - (bc d i - 5) by omega]
  constructor
  · intro h y h1 h2
    exact h _ (by omega) (by omega)
  · intro h j h1 h2
    have := h (j - 64 * ind d i) (by omega) (by omega)
    rwa [show 64 * ind d i + (j - 64 * ind d i) = j by omega] at this
theorem pt_gt {d : Im} {i : Int} (h5 : 5 < bc d i) : ptB d i 5 := fun y h1 h2 h3 => by omega
def mkM (m : Int64) (q : Int) : Int64 := if mkB (tbt m) q = true then tset m q else m
theorem mkB_iff (m : Int64) (q : Int) : mkB (tbt m) q = true ↔ dat q ∧ tbt m q = false := by
  unfold mkB
  rw [Bool.and_eq_true, decide_eq_true_iff]
  refine and_congr Iff.rfl ?_
  cases tbt m q <;> simp
theorem mkT_M (m : Int64) (q : Int) : ∀ j : Int, 0 ≤ j → j < (64 : Nat) → mkT (tbt m) q j = tbt (mkM m q) j := by
  intro j h1 h2
  unfold mkT mkM
  split
  · next h =>
    have hd := ((mkB_iff m q).mp h).1
    rw [tb_tset m (by omega) (by omega)]
    unfold upB
    by_cases e : j = q
    · rw [if_pos e, decide_eq_true e, Bool.or_true]
    · rw [if_neg e, decide_eq_false e, Bool.or_false]
  · rfl
theorem tset_iff (m : Int64) {q b : Int} (hq : dat q) (hb : 0 ≤ b ∧ b < 64) : tbt (tset m q) b = true ↔ tbt m b = true ∨ b = q := by
  rw [tb_tset m (by omega) hb, Bool.or_eq_true, decide_eq_true_iff]
/-- how far the marking is: m with the indirect block, if there is one -/
def mkI (tm : Int64) (d : Im) (i : Int) (z : Int) (m : Int64) : Prop := (z = 0 ∧ m = tm) ∨ (z = 1 ∧ m = tset tm (ind d i) ∧ dat (ind d i) ∧ tbt tm (ind d i) = false ∧ 5 < bc d i)
/-- the first x blocks are marked too -/
def mkX2 (m : Int64) (d : Im) (i x : Int) (m2 : Int64) : Prop := (∀ b : Int, 0 ≤ b → b < 64 → (tbt m2 b = true ↔ tbt m b = true ∨ inB d i x b)) ∧ gdB m d i x
theorem mkX2_0 (m : Int64) (d : Im) (i : Int) : mkX2 m d i 0 m := ⟨fun b _ _ => ⟨Or.inl, fun h => h.elim id (fun z => absurd z (inB_0 d i b))⟩, fun x h1 h2 => by omega⟩
theorem mkX2_s {m m2 : Int64} {d : Im} {i x : Int} (hx : 0 ≤ x) (h : mkX2 m d i x m2) (hk : mkB (tbt m2) (bk d i x) = true) : mkX2 m d i (x + 1) (mkM m2 (bk d i x)) := by
  obtain ⟨h1, h2⟩ := (mkB_iff m2 _).mp hk
  unfold mkM
  rw [if_pos hk]
  refine ⟨fun b hb1 hb2 => ?_, ?_⟩
  · rw [tset_iff m2 h1 ⟨hb1, hb2⟩, h.1 b hb1 hb2, inB_s d i b hx, or_assoc]
    exact or_congr Iff.rfl (or_congr Iff.rfl eq_comm)
  · rw [gdB_s m d i hx]
    have hn : ¬ (tbt m (bk d i x) = true ∨ inB d i x (bk d i x)) := fun z => by rw [(h.1 _ (by omega) (by omega)).mpr z] at h2; cases h2
    refine ⟨h.2, h1, ?_, fun z => hn (Or.inr z)⟩
    cases z : tbt m (bk d i x) with
    | false => rfl
    | true => exact absurd (Or.inl z) hn
theorem mk_fail {tm m m2 : Int64} {d : Im} {i x z : Int} (hs : hsB d i) (hi : inR i) (hz : mkI tm d i z m) (hx : 0 ≤ x ∧ x < bc d i) (h : mkX2 m d i x m2) (hk : mkB (tbt m2) (bk d i x) = false) : sndB tm d i = false := by
  rw [hs.snd]
  cases hb : tkB tm d i with
  | false => rw [Bool.and_false]
  | true =>
    exfalso
    have hg := (tkB_iff tm d i hi hs.bc).mp hb
    have g := hg.1 x hx.1 hx.2
    have : ¬ (dat (bk d i x) ∧ tbt m2 (bk d i x) = false) := fun w => by rw [(mkB_iff m2 _).mpr w] at hk; cases hk
    refine this ⟨g.1, ?_⟩
    cases hq : tbt m2 (bk d i x) with
    | false => rfl
    | true =>
      exfalso
      have hd := g.1
      rcases (h.1 _ (by omega) (by omega)).mp hq with h1 | h1
      · rcases hz with ⟨-, rfl⟩ | ⟨-, rfl, e1, e2, e3⟩
        · rw [g.2.1] at h1; cases h1
        · rw [tset_iff tm e1 (by omega), g.2.1] at h1
          rcases h1 with h1 | h1
          · cases h1
          · exact (hg.2 e3).2.2 ⟨x, hx.1, hx.2, h1⟩
      · exact g.2.2 h1
theorem mk_gdA {tm m m2 : Int64} {d : Im} {i z : Int} (hz : mkI tm d i z m) (h5 : 5 < bc d i → z = 1) (h : mkX2 m d i (bc d i) m2) : gdA tm d i := by
  have key : ∀ x : Int, 0 ≤ x → x < bc d i → tbt tm (bk d i x) = false ∧ (z = 1 → bk d i x ≠ ind d i) := by
    intro x h1 h2
    have g := (h.2 x h1 h2).2.1
    have hd := (h.2 x h1 h2).1
    rcases hz with ⟨rfl, rfl⟩ | ⟨-, rfl, e1, e2, e3⟩
    · exact ⟨g, fun w => by omega⟩
    · rw [tb_tset tm (by omega) (by omega), Bool.or_eq_false_iff, decide_eq_false_iff_not] at g
      exact ⟨g.1, fun _ => g.2⟩
  refine ⟨fun x h1 h2 => ⟨(h.2 x h1 h2).1, (key x h1 h2).1, (h.2 x h1 h2).2.2⟩, fun q => ?_⟩
  have hz1 := h5 q
  rcases hz with ⟨e, -⟩ | ⟨-, -, e1, e2, -⟩
  · omega
  · exact ⟨e1, e2, fun ⟨x, h1, h2, h3⟩ => (key x h1 h2).2 hz1 h3⟩
theorem mk_done {tm m m2 : Int64} {d : Im} {i z : Int} (hs : hsB d i) (hi : inR i) (hb : sbB d i = true) (hz : mkI tm d i z m) (h5 : 5 < bc d i → z = 1) (h : mkX2 m d i (bc d i) m2) : sndB tm d i = true ∧ ∀ j : Int, 0 ≤ j → j < (64 : Nat) → tbt m2 j = tbt (snT tm d i) j := by
  have hg := mk_gdA hz h5 h
  have e : sndB tm d i = true := by rw [hs.snd, hb, (tkB_iff tm d i hi hs.bc).mpr hg]; rfl
  refine ⟨e, fun j h1 h2 => ?_⟩
  unfold snT
  rw [if_pos e, Bool.eq_iff_iff, tkT_bit tm d i hi hs.bc hg ⟨h1, by omega⟩, h.1 j h1 (by omega)]
  unfold own
  rcases hz with ⟨e0, rfl⟩ | ⟨-, rfl, e1, e2, e3⟩
  · have : ¬ 5 < bc d i := fun w => by have := h5 w; omega
    exact or_congr Iff.rfl ⟨Or.inl, fun w => w.elim id (fun y => absurd y.1 this)⟩
  · rw [tset_iff tm e1 ⟨h1, by omega⟩]
    constructor
    · rintro ((w | w) | w)
      · exact Or.inl w
      · exact Or.inr (Or.inr ⟨e3, w.symm⟩)
      · exact Or.inr (Or.inl w)
    · rintro (w | w | w)
      · exact Or.inl (Or.inl w)
      · exact Or.inr w
      · exact Or.inl (Or.inr w.2.symm)
/-- the marks taken back: y of them -/
def ubX (m2 : Int64) (d : Im) (i y : Int) (t : Int → Bool) : Prop := ∀ b : Int, 0 ≤ b → b < 64 → (t b = true ↔ tbt m2 b = true ∧ ¬ inB d i y b)
theorem ubX_0 (m2 : Int64) (d : Im) (i : Int) : ubX m2 d i 0 (tbt m2) := fun b _ _ => ⟨fun h => ⟨h, inB_0 d i b⟩, fun h => h.1⟩
theorem ubX_s {m2 : Int64} {d : Im} {i y : Int} {t : Int → Bool} (hy : 0 ≤ y) (h : ubX m2 d i y t) : ubX m2 d i (y + 1) (upB t (bk d i y) false) := by
  intro b h1 h2
  unfold upB
  rw [inB_s d i b hy]
  by_cases e : b = bk d i y
  · rw [if_pos e]; exact ⟨fun w => (by cases w), fun w => absurd (Or.inr e.symm) w.2⟩
  · rw [if_neg e, h b h1 h2]
    exact and_congr Iff.rfl ⟨fun w q => q.elim w (fun z => e z.symm), fun w q => w (Or.inl q)⟩
theorem ub_m {m m2 : Int64} {d : Im} {i y : Int} {t : Int → Bool} (h : mkX2 m d i y m2) (hu : ubX m2 d i y t) : ∀ b : Int, 0 ≤ b → b < 64 → t b = tbt m b := by
  intro b h1 h2
  rw [Bool.eq_iff_iff, hu b h1 h2, h.1 b h1 h2]
  constructor
  · rintro ⟨w | w, q⟩
    · exact w
    · exact absurd w q
  · intro w
    refine ⟨Or.inl w, ?_⟩
    rintro ⟨x, a1, a2, rfl⟩
    have := (h.2 x a1 a2).2.1
    rw [w] at this; cases this
theorem ub_a {tm m m2 : Int64} {d : Im} {i y z : Int} {t : Int → Bool} (hf : sndB tm d i = false) (hz : mkI tm d i z m) (hz0 : z ≠ 1) (h : mkX2 m d i y m2) (hu : ubX m2 d i y t) : ∀ j : Int, 0 ≤ j → j < (64 : Nat) → t j = tbt (snT tm d i) j := by
  intro j h1 h2
  rw [ub_m h hu j h1 (by omega)]
  unfold snT
  rw [if_neg (by rw [hf]; decide)]
  rcases hz with ⟨-, rfl⟩ | ⟨e, -⟩
  · rfl
  · exact absurd e hz0
theorem ub_b {tm m m2 : Int64} {d : Im} {i y z : Int} {t : Int → Bool} (hf : sndB tm d i = false) (hz : mkI tm d i z m) (hz0 : z = 1) (h : mkX2 m d i y m2) (hu : ubX m2 d i y t) : ∀ j : Int, 0 ≤ j → j < (64 : Nat) → upB t (ind d i) false j = tbt (snT tm d i) j := by
  intro j h1 h2
  unfold snT upB
  rw [if_neg (show ¬ sndB tm d i = true by rw [hf]; decide)]
  rcases hz with ⟨e, -⟩ | ⟨-, rfl, e1, e2, e3⟩
  · omega
  · by_cases e : j = ind d i
    · rw [if_pos e, e, e2]
    · rw [if_neg e, ub_m h hu j h1 (by omega), tb_tset tm (by omega) (by omega), decide_eq_false e, Bool.or_false]
/-- no sound inode where the pointers are wrong -/
theorem pt_f {tm : Int64} {d : Im} {i : Int} (hs : hsB d i) (hi : inR i) (h : ¬ (ptB d i 5 ∧ (5 < bc d i ↔ ind d i ≠ 0))) : sndB tm d i = false := by
  rw [hs.snd]
  by_cases h5 : 5 < bc d i
  · have e0 : ind d i = 0 := by
      rcases Classical.em (ind d i = 0) with e | e
      · exact e
      · exact absurd ⟨pt_gt h5, fun _ => e, fun _ => h5⟩ h
    cases hb : tkB tm d i with
    | false => rw [Bool.and_false]
    | true =>
      have := (((tkB_iff tm d i hi hs.bc).mp hb).2 h5).1
      rw [e0] at this
      exact absurd this not_dat0
  · cases hb : sbB d i with
    | false => rfl
    | true => exact absurd ((sb_le hi h5).mp hb) h
theorem ind_f {tm : Int64} {d : Im} {i : Int} (hs : hsB d i) (hi : inR i) (h5 : 5 < bc d i) (h : mkB (tbt tm) (ind d i) = false) : sndB tm d i = false := by
  rw [hs.snd]
  cases hb : tkB tm d i with
  | false => rw [Bool.and_false]
  | true =>
    have g := ((tkB_iff tm d i hi hs.bc).mp hb).2 h5
    rw [(mkB_iff tm _).mpr ⟨g.1, g.2.1⟩] at h; cases h
theorem sb_f {tm : Int64} {d : Im} {i : Int} (hs : hsB d i) (h : ¬ sbB d i = true) : sndB tm d i = false := by
  rw [hs.snd]
  cases hb : sbB d i with
  | false => rfl
  | true => exact absurd hb h
theorem sbl_s {A : Prop} {f : Int → Int} {lo y s s' : Int} (h : s = 1 ↔ A ∧ ∀ q : Int, lo ≤ q → q < y → f q = 0) (hs : s = 1) (hl : lo ≤ y) (he : s' = 1 ↔ f y = 0) : s' = 1 ↔ A ∧ ∀ q : Int, lo ≤ q → q < y + 1 → f q = 0 := by
  obtain ⟨h1, h2⟩ := h.mp hs
  rw [he]
  constructor
  · intro e
    refine ⟨h1, fun q a b => ?_⟩
    by_cases hq : q = y
    · subst hq; exact e
    · exact h2 q a (by omega)
  · intro e
    exact e.2 y hl (by omega)
