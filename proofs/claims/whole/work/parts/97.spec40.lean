/-! THE WRITER: MAKING -/
section MK
variable {tm : Int64} {d nb : Im} {j p q n : Int}
theorem blank_bc {e : Im} (hj : inR j) (h2 : e.1 (512 + j * 16 + 2) = 0) (h3 : e.1 (512 + j * 16 + 3) = 0) : sz e j = 0 ∧ bc e j = 0 := by
  have s : sz e j = 0 := by unfold sz; rw [if_pos hj, h2, show 512 + j * 16 + 2 + 1 = 512 + j * 16 + 3 by omega, h3]; rfl
  exact ⟨s, by unfold bc; rw [s]; rfl⟩
/-- a file of no bytes -/
theorem file_ok (h : WF tm d) (D : DE d) (h1 : 3 ≤ j) (h2 : j < 32) (hk : kd d j = 0) : WF tm (up d (512 + j * 16) 1) ∧ DE (up d (512 + j * 16) 1) ∧ kd (up d (512 + j * 16) 1) j = 1 ∧ (∀ k : Int, k ≠ j → kd (up d (512 + j * 16) 1) k = kd d k) := by
  have hR : inR j := by omega
  have b := h.bl j (by omega) h2 hk
  have kj : kd (up d (512 + j * 16) 1) j = 1 := by rw [kd_at hR, up_at, if_pos rfl]; rfl
  have kn : ∀ k : Int, k ≠ j → kd (up d (512 + j * 16) 1) k = kd d k := fun k hk => kd_up (by omega)
  have s := blank_bc (e := up d (512 + j * 16) 1) hR (by rw [up_at, if_neg (by omega)]; exact b 2 (by omega) (by omega)) (by rw [up_at, if_neg (by omega)]; exact b 3 (by omega) (by omega))
  have sm : ∀ k : Int, 1 ≤ k → k < 32 → k ≠ j → kd d k ≠ 0 → smI d (up d (512 + j * 16) 1) k := fun k a1 a2 a3 a4 => ⟨fun y b1 b2 _ => by rw [up_at, if_neg (by omega)], fun h5 y b1 b2 => by
    have := (h.indE a1 a2 a4 h5).1
    rw [up_at, if_neg (by omega)]⟩
  refine ⟨?_, ?_, kj, kn⟩
  · refine h.chg (by omega) h2 (by rw [kn 0 (by omega)]; exact h.k0) sm (fun k a1 a2 a3 a4 y b1 b2 => by rw [up_at, if_neg (by omega)]; exact h.bl k a1 a2 a4 y b1 b2) (by omega) ?_ ?_ (fun _ => False) (fun b z => z.elim) (fun b => ?_) (fun b _ _ => ⟨Or.inl, fun z => z.elim id False.elim⟩)
    · exact ⟨Or.inl kj, by omega, fun z => by omega, fun z => by omega⟩
    · unfold gdA; rw [s.2]
      exact ⟨fun x a1 a2 => by omega, fun z => by omega⟩
    · unfold own; rw [s.2]
      exact ⟨fun z => z.elim (fun w => absurd w (inB_0 _ _ _)) (fun w => by omega), fun z => z.elim (fun w => absurd hk w.1) False.elim⟩
  · intro i hi hn y a c
    have hij : i ≠ j := fun e => by have := hi.2.2; rw [e, kj] at this; omega
    have hi2 : drI d i := ⟨hi.1, hi.2.1, by rw [← kn i hij]; exact hi.2.2⟩
    have m := sm i hi.1 hi.2.1 hij (by have := hi2.2.2; omega)
    have sz9 := h.szE hi2
    rw [m.szE] at c
    have er := h.ep_rgE hi2 (p := y) (by omega) c
    rw [m.epE (by omega) c sz9.2.1 sz9.2.2]
    rcases D i hi2 hn y a c with g | g
    · left; intro z z1 z2; rw [up_at, if_neg (by omega)]; exact g z z1 z2
    · right
      rw [up_at, if_neg (by omega)]
      by_cases e : d.1 (ep d i y) = j
      · rw [e]; omega
      · rw [kn _ e]; exact g
theorem dir_DE (h : WF tm d) (D : DE d) (hj : 1 ≤ j ∧ j < 32) (hk : kd d j = 0) (hq : dat q) (ht : tbt tm q = false) : DE (dirD d j q) ∧ (∀ k : Int, k ≠ j → kd (dirD d j q) k = kd d k) := by
  have hR : inR j := by omega
  have W2 := h.dir hj hk hq ht
  have kj := dir_kd (d := d) hR hq
  have sj := dir_sz (d := d) hR hq
  have ot : ∀ a : Int, ¬ (512 + j * 16 ≤ a ∧ a < 512 + j * 16 + 16) → ¬ (q * 64 ≤ a ∧ a < q * 64 + 64) → (dirD d j q).1 a = d.1 a := fun a a1 a2 => by
    rw [dir_at hR hq, if_neg a2, if_neg (by omega), if_neg (by omega), if_neg (by omega), if_neg (by omega)]
  have kn : ∀ k : Int, k ≠ j → kd (dirD d j q) k = kd d k := fun k hk => by
    unfold kd
    split
    · exact ot _ (by omega) (by omega)
    · rfl
  refine ⟨?_, kn⟩
  intro i hi hn y a c
  by_cases e : i = j
  · subst e
    rw [sj] at c
    have ee := (W2.epE hi (p := y) (by omega) (by rw [sj]; exact c)).1
    rw [show y / 4 = 0 by omega, dir_bk hR hq] at ee
    left
    intro z z1 z2
    rw [ee, dir_at hR hq, if_pos (by omega)]
  · have hi2 : drI d i := ⟨hi.1, hi.2.1, by rw [← kn i e]; exact hi.2.2⟩
    have m := smI.new h hj hq ht hi.1 hi.2.1 e (by have := hi2.2.2; omega)
    have sz9 := h.szE hi2
    rw [m.szE] at c
    have er := h.epE hi2 (p := y) (by omega) c
    have tb := h.ownT hi.1 hi.2.1 (by have := hi2.2.2; omega) (Or.inl ⟨y / 4, by omega, er.2.2, rfl⟩)
    have nq : bk d i (y / 4) ≠ q := fun w => by rw [w, ht] at tb; cases tb
    rw [m.epE (by omega) c sz9.2.1 sz9.2.2]
    rcases D i hi2 hn y a c with g | g
    · left; intro z z1 z2; rw [ot _ (by omega) (by omega)]; exact g z z1 z2
    · right
      rw [ot _ (by omega) (by omega)]
      by_cases w : d.1 (ep d i y) = j
      · rw [w]; omega
      · rw [kn _ w]; exact g
theorem dt_N (nb : Im) : dtD d nb j p = we (plS j 0 d) (ep (plS j 0 d) j 1) p (dotN zIm 2) 2 := by
  unfold dtD
  rw [dt_1]
  refine nmE.weE (nc := dotN zIm 2) (n := 2) (fun y a b => ?_) _ _ _
  unfold dtN
  rw [sp_at _ 3 (tx_all (by omega)), dot_at, if_pos (show 0 ≤ y ∧ y < ((tn 3).toNat : Int) from ⟨a, b⟩), if_pos (by omega)]
  exact tx_dot (by omega)
/-- the dots of a new directory -/
theorem dt_ok (nb : Im) (h : WF tm d) (D : DE d) (hj : drI d j) (hp : 0 ≤ p ∧ p < 32) : WF tm (dtD d nb j p) ∧ DE (dtD d nb j p) ∧ (∀ k : Int, kd (dtD d nb j p) k = kd d k) := by
  have s := h.szE hj
  have c0 := plS_cg h hj (p := 0) (by omega) (by omega)
  have h0 := pl_WF h hj (p := 0) (by omega) (by omega)
  have D0 := cg_DE h hj (by omega) (by omega) c0 (Or.inl (by omega)) D
  have i0 := pl_dr h hj (p := 0) (by omega) (by omega) hj
  have s0 := pl_sz h hj (p := 0) (by omega) (by omega) j
  have k0 := pl_kd h hj (p := 0) (by omega) (by omega)
  have er := h0.ep_rgE i0 (p := 1) (by omega) (by omega)
  have c1 := we_cg (plS j 0 d) (p := ep (plS j 0 d) j 1) (i := p) (n := 2) (dotN zIm 2) (by omega) (by omega) (by omega)
  rw [dt_N]
  exact ⟨cg_WF h0 i0 (by omega) (by omega) c1, cg_DE h0 i0 (by omega) (by omega) c1 (Or.inl (by omega)) D0, fun k => by rw [cg_kd h0 i0 (by omega) (by omega) c1, k0]⟩
theorem dt_F (nb nc nd : Im) (h : WF tm d) (hj : 1 ≤ j ∧ j < 32) (hk : kd d j = 0) (hq : dat q) (ht : tbt tm q = false) : we (we (dirD d j q) (64 * q) j (dotN nb 1) 1) (64 * q + 16) p (dotN nc 2) 2 = dtD (dirD d j q) nd j p := by
  have hR : inR j := by omega
  have W2 := h.dir hj hk hq ht
  have dr : drI (dirD d j q) j := ⟨hj.1, hj.2, dir_kd hR hq⟩
  have s := dir_sz (d := d) hR hq
  have e0 := (W2.epE dr (p := 0) (by omega) (by omega)).1
  have e1 := (W2.epE dr (p := 1) (by omega) (by omega)).1
  rw [show (0 : Int) / 4 = 0 from rfl, dir_bk hR hq] at e0
  rw [show (1 : Int) / 4 = 0 from rfl, dir_bk hR hq] at e1
  have p0 : we (dirD d j q) (64 * q) j (dotN nb 1) 1 = plS j 0 (dirD d j q) := by
    rw [pl_dots nb (p := 0) (by omega), e0, show 64 * q + 16 * ((0 : Int) % 4) = 64 * q by omega]
    rfl
  rw [dt_N, p0, cg_ep W2 dr (by omega) (by omega) (plS_cg W2 dr (p := 0) (by omega) (by omega)) dr (q := 1) (by omega) (by omega), e1, show 64 * q + 16 * ((1 : Int) % 4) = 64 * q + 16 by omega]
  exact nmE.weE (fun y a b => by rw [dot_at, dot_at, if_pos (by omega), if_pos (by omega)]) _ _ _
theorem ffs_ex (d : Im) : ∀ (f : Nat) (i : Int), (ffs d f i = -1 ∧ ∀ k : Int, i ≤ k → k < i + f → kd d k ≠ 0) ∨ (i ≤ ffs d f i ∧ ffs d f i < i + f ∧ kd d (ffs d f i) = 0)
  | 0, i => Or.inl ⟨rfl, fun k a b => by omega⟩
  | f + 1, i => by
    rw [ffs]
    by_cases c : kd d i = 0
    · rw [if_pos c]; exact Or.inr ⟨by omega, by omega, c⟩
    · rw [if_neg c]
      rcases ffs_ex d f (i + 1) with ⟨g1, g2⟩ | ⟨g1, g2, g3⟩
      · refine Or.inl ⟨g1, fun k a b => ?_⟩
        by_cases e : k = i
        · rw [e]; exact c
        · exact g2 k (by omega) (by omega)
      · exact Or.inr ⟨by omega, by omega, g3⟩
end MK
def mkZ (dk : Im) (i c : Int) (x : Int64) : Int := if ¬ (c = 1 ∨ c = 2) ∨ ¬ ckZ dk = 0 then -1 else crR (pzC dk).1 (plZ dk) zIm i (nmZ x) (nlZ x) c
def mkG (dk : Im) (i c : Int) (x : Int64) : Im := if mkZ dk i c x = -1 then dk else stD (crT (pzC dk).1 (plZ dk) zIm i (nmZ x) (nlZ x) c) (crD (pzC dk).1 (plZ dk) zIm i (nmZ x) (nlZ x) c)
section MZ
variable {dk : Im} {i c : Int} {x : Int64}
theorem mz_c (h : ¬ (c = 1 ∨ c = 2)) : mkZ dk i c x = -1 := by unfold mkZ; rw [if_pos (Or.inl h)]
theorem mz_m (h : mpB dk i x = false) : mkZ dk i c x = -1 := by
  unfold mkZ
  by_cases k : ¬ (c = 1 ∨ c = 2) ∨ ¬ ckZ dk = 0
  · rw [if_pos k]
  · rw [if_neg k]
    unfold crR
    rw [if_pos]
    right
    unfold mpB at h
    rwa [decide_eq_true (by rcases Classical.em (ckZ dk = 0) with z | z; exact z; exact absurd (Or.inr z) k), Bool.true_and] at h
theorem mz_f (h : ffs (plZ dk) 29 3 = -1) : mkZ dk i c x = -1 := by
  unfold mkZ
  split
  · rfl
  · unfold crR; rw [if_pos (Or.inl h)]
/-- where all is right so far -/
theorem mz_e (hm : mpB dk i x = true) (hc : c = 1 ∨ c = 2) (hf : ffs (plZ dk) 29 3 ≠ -1) : mkZ dk i c x = (if c2X (pzC dk).1 (plZ dk) c then -1 else if rmR (c2T (pzC dk).1 (plZ dk) c) (c2D (pzC dk).1 (plZ dk) zIm i c) i = -1 then -1 else ffs (plZ dk) 29 3) ∧ (¬ c2X (pzC dk).1 (plZ dk) c → crT (pzC dk).1 (plZ dk) zIm i (nmZ x) (nlZ x) c = rmT (c2T (pzC dk).1 (plZ dk) c) (c2D (pzC dk).1 (plZ dk) zIm i c) i ∧ crD (pzC dk).1 (plZ dk) zIm i (nmZ x) (nlZ x) c = enD (c2T (pzC dk).1 (plZ dk) c) (c2D (pzC dk).1 (plZ dk) zIm i c) i (ffs (plZ dk) 29 3) (nmZ x) (nlZ x)) := by
  have m := mp_z hm
  have nx : ¬ crX (plZ dk) i (nmZ x) (nlZ x) := fun z => by
    rcases z with z | z
    · exact hf z
    · rw [m.2] at z; cases z
  refine ⟨?_, fun h2 => ?_⟩
  · unfold mkZ crR
    rw [if_neg (fun z => by rcases z with z | z; exact z hc; exact z m.1), if_neg nx]
  · unfold crT crD
    rw [if_neg nx, if_neg nx, if_neg h2, if_neg h2]; exact ⟨rfl, rfl⟩
end MZ
