/-! HOW LARGE THE ANSWERS ARE -/
theorem wbs_rg (d : Im) (m : Int) : ∀ (f : Nat) (b w : Int) (e : Im), w ≤ (wbs d m f b w e).1 ∧ (wbs d m f b w e).1 ≤ w + f
  | 0, b, w, e => by show w ≤ w ∧ w ≤ w + ((0 : Nat) : Int); omega
  | f + 1, b, w, e => by
    rw [wbs]
    split
    · by_cases c : im_same d e b = true
      · rw [if_pos c, if_pos c]
        have := wbs_rg d m f (b + 1) w e
        omega
      · rw [if_neg c, if_neg c]
        have := wbs_rg d m f (b + 1) (w + 1) (im_cpb d e b b)
        omega
    · show w ≤ w ∧ w ≤ w + ((f + 1 : Nat) : Int); omega
theorem wbZ_rg (dk : Im) (c : Int) : 0 ≤ (wbZ dk c).1 ∧ (wbZ dk c).1 ≤ 64 := by
  have := wbs_rg (plZ dk) (if c = -1 then 64 else c) 64 0 0 dk
  unfold wbZ; omega
theorem rpZ_rg (dk : Im) (c : Int) : -1 ≤ rpZ dk c ∧ rpZ dk c ≤ 64 := by
  unfold rpZ
  have := wbZ_rg dk c
  split <;> omega
theorem peR_rg (dk : Im) (p : Int) : -1 ≤ peR dk p ∧ peR dk p < 256 := by
  unfold peR
  have := im_at_rg dk p
  split <;> omega
theorem inR2_rg (dk : Im) (i w : Int) : -1 ≤ inR2 dk i w ∧ inR2 dk i w < 65536 := by
  unfold inR2
  have := kd_rg dk i
  have := lk_rg dk i
  have := sz_rg dk i
  split
  · split
    · omega
    · split
      · omega
      · split <;> omega
  · omega
theorem fdZ_rg (dk : Im) (i : Int) (x : Int64) : -1 ≤ fdZ dk i x ∧ fdZ dk i x < 256 := by
  unfold fdZ fdR
  have := im_at_rg dk (sk dk i (nmZ x) (nlZ x))
  split <;> omega
theorem mkZ_rg (dk : Im) (i c : Int) (x : Int64) : -1 ≤ mkZ dk i c x ∧ mkZ dk i c x < 64 := by
  unfold mkZ crR
  have := ffs_ex (plZ dk) 29 3
  split
  · omega
  · split
    · omega
    · split
      · omega
      · split <;> omega
theorem dec_b {P : Prop} [Decidable (¬ P)] {b : Bool} (h : P ↔ b = false) : decide (¬ P) = b := by
  cases b with
  | false => exact decide_eq_false (fun z => z (h.mpr rfl))
  | true => exact decide_eq_true (fun z => by have := h.mp z; cases this)
