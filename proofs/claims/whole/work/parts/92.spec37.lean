/-! WHAT FINISH KEEPS -/
theorem su_out {d : Im} {p x y a : Int} (hp : p = 0 ∨ p = 4032) (ha : ¬ (p ≤ a ∧ a < p + 64)) : (su_wr d (p / 64) x y).1 a = d.1 a := by
  rw [su_wr_in d hp, put_at _ (by omega), put_at _ (by omega), put_at _ (by omega), up_at, up_at, up_at, up_at, wipe_out _ (by unfold rgP; omega) ha]
  rw [if_neg (by omega), if_neg (by omega), if_neg (by omega), if_neg (by omega), if_neg (by omega), if_neg (by omega), if_neg (by omega), if_neg (by omega), if_neg (by omega), if_neg (by omega)]
theorem muD_out {d : Im} {p n a : Int} (ha : a ≠ p + n / 8) : (muD d p n).1 a = d.1 a := by
  unfold muD im_set
  split
  · rw [up_at, if_neg ha]
  · rfl
theorem mp1_out (tm : Int64) {a : Int} (ha : ¬ (448 ≤ a ∧ a < 512)) : ∀ (f : Nat) (b : Int) (x : Im), 0 ≤ b → b + f ≤ 64 → (mp1 tm f b x).1 a = x.1 a
  | 0, b, x, _, _ => rfl
  | f + 1, b, x, h1, h2 => by
    rw [mp1, mp1_out tm ha f (b + 1) _ (by omega) (by omega)]
    split
    · rfl
    · exact muD_out (by omega)
theorem mp2_out {a : Int} (ha : ¬ (448 ≤ a ∧ a < 512)) : ∀ (f : Nat) (b : Int) (x : Im), 0 ≤ b → b + f ≤ 32 → (mp2 f b x).1 a = x.1 a
  | 0, b, x, _, _ => rfl
  | f + 1, b, x, h1, h2 => by
    rw [mp2, mp2_out ha f (b + 1) _ (by omega) (by omega)]
    split
    · rfl
    · exact muD_out (by omega)
/-- the same where inodes and contents lie -/
def agr (x y : Im) : Prop := ∀ a : Int, 512 ≤ a → a < 4032 → y.1 a = x.1 a
theorem st_agr {tm : Int64} {d : Im} (w : WF tm d) : agr (fnI d 31 1 d) (stD tm d) := fun a h1 h2 => by
  rw [st_E w]
  have e1 := su_out (d := su_wr (mpF tm (fnI d 31 1 d)) 0 (fbs tm 64 0) (fz (fnI d 31 1 d) 32 0)) (p := 4032) (x := fbs tm 64 0) (y := fz (fnI d 31 1 d) 32 0) (a := a) (Or.inr rfl) (by omega)
  have e2 := su_out (d := mpF tm (fnI d 31 1 d)) (p := 0) (x := fbs tm 64 0) (y := fz (fnI d 31 1 d) 32 0) (a := a) (Or.inl rfl) (by omega)
  rw [show (4032 : Int) / 64 = 63 from rfl] at e1
  rw [show (0 : Int) / 64 = 0 from rfl] at e2
  rw [e1, e2]
  unfold mpF
  rw [mp2_out (by omega) 32 0 _ (by omega) (by omega), mp1_out tm (by omega) 64 0 _ (by omega) (by omega), wipe_out _ (by unfold rgP; omega) (by omega)]
section AG
variable {x y : Im}
theorem agr.kdE (h : agr x y) (i : Int) : kd y i = kd x i := by
  unfold kd; split
  · exact h _ (by omega) (by omega)
  · rfl
theorem agr.lkE (h : agr x y) (i : Int) : lk y i = lk x i := by
  unfold lk; split
  · exact h _ (by omega) (by omega)
  · rfl
theorem agr.szE (h : agr x y) (i : Int) : sz y i = sz x i := by
  unfold sz; split
  · rw [h _ (by omega) (by omega), h _ (by omega) (by omega)]
  · rfl
theorem agr.bkE (h : agr x y) {i z : Int} (hi : inR i) (hz : 0 ≤ z ∧ z < 46) : bk y i z = bk x i z := by
  unfold bk
  have h9 := h (512 + i * 16 + 9) (by omega) (by omega)
  by_cases c : z < 5
  · rw [if_pos c, if_pos c]; exact h _ (by omega) (by omega)
  · rw [if_neg c, if_neg c, h9]
    by_cases c2 : dat (x.1 (512 + i * 16 + 9))
    · rw [if_pos c2, if_pos c2]; exact h _ (by omega) (by omega)
    · rw [if_neg c2, if_neg c2]
theorem agr.cpE (h : agr x y) {i j : Int} (hj : 0 ≤ j) : cp y i j = cp x i j := by
  unfold cp
  by_cases c : inR i ∧ j / 64 < 46
  · rw [h.bkE c.1 ⟨by omega, c.2⟩]
  · rw [if_neg (fun z => c ⟨z.1, z.2.1⟩), if_neg (fun z => c ⟨z.1, z.2.1⟩)]
theorem agr.epE (h : agr x y) {i p : Int} (hp : 0 ≤ p) : ep y i p = ep x i p := h.cpE (by omega)
theorem agr.atE (h : agr x y) {i p : Int} (hp : 0 ≤ p) : im_at y (ep y i p) = im_at x (ep x i p) := by
  rw [h.epE hp]
  rcases ep_rg x i p with e | e
  · rw [e]; rfl
  · rw [im_at_in y (by omega), im_at_in x (by omega)]; exact h _ (by omega) (by omega)
theorem agr.cntE (h : agr x y) (i : Int) : cnt y i = cnt x i := by unfold cnt ec; rw [h.kdE, h.szE]
theorem agr.WFE {tm : Int64} (h : agr x y) (w : WF tm x) : WF tm y :=
  w.frame (by rw [h.kdE]; exact w.k0) (fun i h1 h2 h3 => ⟨fun j a b c => h _ (by omega) (by omega), fun h5 j a b => by have := (w.indE h1 h2 h3 h5).1; exact h _ (by omega) (by omega)⟩) (fun i h1 h2 _ h4 j a b => by rw [h _ (by omega) (by omega)]; exact w.bl i h1 h2 h4 j a b) (by omega)
theorem agr.DEE {tm : Int64} (h : agr x y) (w : WF tm x) (D : DE x) : DE y := fun i hi hn q a b => by
  have hi2 : drI x i := ⟨hi.1, hi.2.1, by rw [← h.kdE]; exact hi.2.2⟩
  rw [h.szE] at b
  have er := w.ep_rgE hi2 (p := q) (by omega) b
  rw [h.epE (by omega)]
  unfold enT
  rw [h.kdE, h _ (by omega) (by omega)]
  rcases D i hi2 hn q a b with g | g
  · left; intro j a1 a2; rw [h _ (by omega) (by omega)]; exact g j a1 a2
  · exact Or.inr g
theorem agr.ct1E (h : agr x y) (i D : Int) : ∀ (f : Nat) (p : Int), 0 ≤ p → ct1 y i D f p = ct1 x i D f p
  | 0, p, _ => rfl
  | f + 1, p, hp => by rw [ct1, ct1, h.atE hp, agr.ct1E h i D f (p + 1) (by omega)]
theorem agr.ctAE (h : agr x y) (i : Int) : ∀ (f : Nat) (D : Int), ctA y i f D = ctA x i f D
  | 0, D => rfl
  | f + 1, D => by rw [ctA, ctA, h.cntE, h.ct1E i D _ 2 (by omega), agr.ctAE h i f]
end AG
theorem lk_DE {tm : Int64} {d x : Im} (h : lkE d x) (w : WF tm d) (D : DE d) : DE x := fun i hi hn q a b => by
  have hi2 : drI d i := ⟨hi.1, hi.2.1, by rw [← h.kdE]; exact hi.2.2⟩
  rw [h.szE] at b
  have er := w.ep_rgE hi2 (p := q) (by omega) b
  rw [h.epE (by omega)]
  unfold enT
  rw [h.kdE, h.hiE (by omega)]
  rcases D i hi2 hn q a b with g | g
  · left; intro j a1 a2; rw [h.hiE (by omega)]; exact g j a1 a2
  · exact Or.inr g
/-- the links that finish writes -/
theorem fnI_lk {tm : Int64} {d : Im} (w : WF tm d) {j : Int} (hj : 1 ≤ j ∧ j < 32) (hk : kd d j ≠ 0) : ∀ (f : Nat) (i : Int) (x : Im), 1 ≤ i → i + f = 32 → FI d x i → (j < i → x.1 (512 + j * 16 + 1) = Lk d j) → (fnI d f i x).1 (512 + j * 16 + 1) = Lk d j
  | 0, i, x, h1, h2, g, l => l (by omega)
  | f + 1, i, x, h1, h2, g, l => by
    rw [fnI]
    refine fnI_lk w hj hk f (i + 1) _ (by omega) (by omega) (FI_s w h1 (by omega) g) (fun c => ?_)
    by_cases e : j = i
    · subst e
      have r := Lk_rg w h1 (by omega)
      unfold fnS
      rw [if_neg hk, is_at (by omega), if_neg (by omega), if_neg (by omega), up_at, if_pos rfl]; omega
    · rw [fnS_at w h1 (by omega) (Or.inl (by omega))]; exact l (by omega)
theorem st_ok {tm : Int64} {d : Im} (w : WF tm d) (D : DE d) : WF tm (stD tm d) ∧ DE (stD tm d) ∧ (∀ j : Int, kd (stD tm d) j = kd d j) ∧ ∀ j : Int, 1 ≤ j → j < 32 → kd d j = 1 → lk (stD tm d) j = ctA (stD tm d) j 31 1 := by
  have f := fnI_FI w 31 1 d (by omega) (by omega) (FI_0 w)
  have a := st_agr w
  have wx := FI.W w f
  refine ⟨a.WFE wx, a.DEE wx (lk_DE f.1 w D), fun j => by rw [a.kdE, f.1.kdE], fun j h1 h2 k => ?_⟩
  rw [a.lkE, a.ctAE, lk_ctA f.1]
  have l := fnI_lk w ⟨h1, h2⟩ (by omega) 31 1 d (by omega) (by omega) (FI_0 w) (fun c => by omega)
  unfold lk
  rw [if_pos (show inR j by omega), l]
  unfold Lk
  rw [if_neg (by omega), if_neg (by omega)]
/-- the image behind the passes -/
def paD (dk : Im) : Im := if plX dk then dk else plZ dk
