/-! THE WRITER: MAKING, AS THE REFERENCE DOES IT -/
theorem up_z {d : Im} {a v : Int} (h : d.1 a = 0) : up (up d a v) a 0 = d := im_x (fun j => by
  rw [up_at]
  by_cases e : j = a
  · rw [if_pos e, e, h]; rfl
  · rw [if_neg e, up_at, if_neg e])
section M2
variable {tm : Int64} {d : Im} {i j c : Int}
/-- what is known before the entry is put -/
def MJ (tm : Int64) (d y : Im) (i j c : Int) : Prop := y = c2D tm d zIm i c ∧ ¬ c2X tm d c ∧ WF (c2T tm d c) y ∧ DE y ∧ drI y i ∧ kd y j ≠ 0
theorem mj_1 (h : WF tm d) (D : DE d) (hf : ffs d 29 3 = j) (hj : 3 ≤ j ∧ j < 32) (hk : kd d j = 0) (hi : drI d i) (hc : c = 1) : MJ tm d (up d (512 + 16 * j) c) i j c := by
  subst hc
  have f := file_ok h D hj.1 hj.2 hk
  have e : up d (512 + 16 * j) 1 = up d (512 + j * 16) 1 := by rw [show 512 + 16 * j = 512 + j * 16 by omega]
  have n : i ≠ j := fun z => by have := hi.2.2; rw [z, hk] at this; omega
  rw [e]
  refine ⟨?_, fun z => z.1 rfl, ?_, f.2.1, ⟨hi.1, hi.2.1, by rw [f.2.2.2 i n]; exact hi.2.2⟩, by rw [f.2.2.1]; omega⟩
  · unfold c2D; rw [if_pos rfl, hf, im_set_in _ (by omega)]
  · unfold c2T; rw [if_pos rfl]; exact f.1
theorem mj_x (h : WF tm d) (hf : ffs d 29 3 = j) (hj : 3 ≤ j ∧ j < 32) (hk : kd d j = 0) (hc : c = 2) (ht : tfB tm = -1) : c2X tm d c := by
  subst hc
  refine ⟨by omega, ?_⟩
  rw [hf, bg_R h (by omega) hj.2 hk]; exact ht
theorem mj_2 (nb nc : Im) (h : WF tm d) (D : DE d) (hf : ffs d 29 3 = j) (hj : 3 ≤ j ∧ j < 32) (hk : kd d j = 0) (hi : drI d i) (hc : c = 2) (ht : ¬ tfB tm = -1) : MJ tm d (we (we (dirD d j (tfB tm)) (64 * tfB tm) j (dotN nb 1) 1) (64 * tfB tm + 16) i (dotN nc 2) 2) i j c := by
  subst hc
  have t := tf_clr ht
  have n : i ≠ j := fun z => by have := hi.2.2; rw [z, hk] at this; omega
  have dd := dir_DE h D (j := j) (by omega) hk t.1 t.2
  have W2 := h.dir (i := j) (by omega) hk t.1 t.2
  have kj := dir_kd (d := d) (i := j) (by omega) t.1
  have o := dt_ok zIm W2 dd.1 (j := j) (p := i) ⟨by omega, hj.2, kj⟩ (by have := hi.1; have := hi.2.1; omega)
  rw [dt_F nb nc zIm h (by omega) hk t.1 t.2]
  refine ⟨?_, fun z => ?_, ?_, o.2.1, ⟨hi.1, hi.2.1, by rw [o.2.2, dd.2 i n]; exact hi.2.2⟩, by rw [o.2.2, kj]; omega⟩
  · unfold c2D; rw [if_neg (by omega), hf, bg_D zIm i h (by omega) hj.2 hk, if_neg ht]
  · have := z.2; rw [hf, bg_R h (by omega) hj.2 hk] at this; exact ht this
  · unfold c2T; rw [if_neg (by omega), hf, bg_T h (by omega) hj.2 hk, if_neg ht]; exact o.1
end M2
