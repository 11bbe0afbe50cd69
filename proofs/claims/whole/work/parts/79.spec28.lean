/-! GROWING, AS THE REFERENCE DOES IT -/
theorem sz_up {d : Im} {a v i : Int} (h : a ≠ 512 + i * 16 + 2) (h2 : a ≠ 512 + i * 16 + 3) : sz (up d a v) i = sz d i := by
  unfold sz
  split
  · rw [up_at, up_at, if_neg (fun z => h z.symm), if_neg (fun z => h2 (by omega))]
  · rfl
theorem sz_wp {d : Im} {p n i : Int} (hp : 1024 ≤ p) : sz (im_wipe d p n) i = sz d i := by
  unfold sz
  split
  · by_cases r : rgP p n
    · rw [wipe_out d r (by omega), wipe_out d r (by omega)]
    · unfold im_wipe; rw [if_neg r]
  · rfl
section GR
variable {tm : Int64} {d : Im} {i w : Int}
theorem gw_A (h : WF tm d) (h1 : 1 ≤ i) (h2 : i < 32) (hx : ¬ abX tm d i) (c : bc d i < 5) : gwD tm d i w = im_put (up (im_wipe d (64 * tfB tm) 64) (512 + 16 * i + 4 + bc d i) (tfB tm)) (512 + 16 * i + 2) (sz d i + w) := by
  have f := ab_fr h hx
  have hb := bc_rg d i
  unfold gwD abD tfD
  rw [if_neg hx, if_neg hx, if_pos c, if_neg (by have := f.2.1.1; omega), im_set_in _ (by omega), show tfB tm * 64 = 64 * tfB tm by omega, show 512 + i * 16 = 512 + 16 * i by omega]
theorem gw_B (h : WF tm d) (h1 : 1 ≤ i) (h2 : i < 32) (hx : ¬ abX tm d i) (c : bc d i = 5) : gwD tm d i w = im_put (up (up (im_wipe (im_wipe d (64 * tfB tm) 64) (64 * tfB (tfT tm)) 64) (512 + 16 * i + 9) (tfB (tfT tm))) (64 * tfB (tfT tm) + bc d i - 5) (tfB tm)) (512 + 16 * i + 2) (sz d i + w) := by
  have f := ab_fr h hx
  have g := f.2.2 c
  have eD : tfD tm d = im_wipe d (tfB tm * 64) 64 := by unfold tfD; rw [if_neg (by have := f.2.1.1; omega)]
  have eI : abI tm d i = up (im_wipe (im_wipe d (tfB tm * 64) 64) (tfB (tfT tm) * 64) 64) (512 + i * 16 + 9) (tfB (tfT tm)) := by
    unfold abI; rw [if_pos c, eD]; unfold tfD; rw [if_neg (by have := g.1; omega), im_set_in _ (by omega)]
  have e9 : (abI tm d i).1 (512 + i * 16 + 9) = tfB (tfT tm) := by rw [eI, up_at, if_pos rfl]; omega
  unfold gwD abD
  rw [if_neg hx, if_neg hx, if_neg (by omega), e9, eI, im_set_in _ (by omega), show tfB tm * 64 = 64 * tfB tm by omega, show tfB (tfT tm) * 64 = 64 * tfB (tfT tm) by omega, show 512 + i * 16 = 512 + 16 * i by omega]
theorem gw_C (h : WF tm d) (h1 : 1 ≤ i) (h2 : i < 32) (h3 : kd d i ≠ 0) (hx : ¬ abX tm d i) (c : 5 < bc d i) : gwD tm d i w = im_put (up (im_wipe d (64 * tfB tm) 64) (64 * ind d i + bc d i - 5) (tfB tm)) (512 + 16 * i + 2) (sz d i + w) := by
  have f := ab_fr h hx
  have g := h.indE h1 h2 h3 c
  have eD : tfD tm d = im_wipe d (tfB tm * 64) 64 := by unfold tfD; rw [if_neg (by have := f.2.1.1; omega)]
  have eI : abI tm d i = im_wipe d (tfB tm * 64) 64 := by unfold abI; rw [if_neg (by omega), eD]
  have e9 : (abI tm d i).1 (512 + i * 16 + 9) = ind d i := by rw [eI]; exact wipe_out _ (by unfold rgP; omega) (by omega)
  unfold gwD abD
  rw [if_neg hx, if_neg hx, if_neg (by omega), e9, eI, im_set_in _ (by omega), show tfB tm * 64 = 64 * tfB tm by omega, show ind d i * 64 = 64 * ind d i by omega, show 512 + i * 16 + 2 = 512 + 16 * i + 2 by omega]
theorem tfT_n {tm : Int64} (h : tfB tm ≠ -1) : tfT tm = tset tm (tfB tm) := by unfold tfT; rw [if_neg h]
end GR
