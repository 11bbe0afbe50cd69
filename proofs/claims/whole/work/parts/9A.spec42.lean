/-! THE WRITER: A BYTE MORE -/
theorem bk_put {x : Im} {i y v : Int} (hi : inR i) (hy : 0 ≤ y) : bk (im_put x (512 + i * 16 + 2) v) i y = bk x i y := by
  have h : ∀ a : Int, a ≠ 512 + i * 16 + 2 → a ≠ 512 + i * 16 + 3 → (im_put x (512 + i * 16 + 2) v).1 a = x.1 a := fun a a1 a2 => by
    rw [put_at _ (by omega), if_neg (by omega), if_neg a1]
  unfold bk
  rw [h (512 + i * 16 + 9) (by omega) (by omega)]
  by_cases c : y < 5
  · rw [if_pos c, if_pos c]; exact h _ (by omega) (by omega)
  · rw [if_neg c, if_neg c]
    by_cases dd : dat (x.1 (512 + i * 16 + 9))
    · rw [if_pos dd, if_pos dd]; exact h _ (by omega) (by omega)
    · rw [if_neg dd, if_neg dd]
theorem put_up {x : Im} {p v a c : Int} (hp : 0 ≤ p ∧ p < 1023) (ha : 1024 ≤ a) : im_put (up x a c) p v = up (im_put x p v) a c := im_x (fun j => by
  rw [put_at _ (by omega), up_at, up_at, put_at _ (by omega)]
  by_cases e : j = a
  · rw [if_pos e, if_pos e, if_neg (by omega), if_neg (by omega)]
  · rw [if_neg e, if_neg e])
theorem DR_fr {d e : Im} (h : ∀ j : Int, drI e j → drI d j ∧ sz e j = sz d j ∧ ∀ q : Int, 2 ≤ q → q < sz d j / 16 → ep e j q = ep d j q ∧ e.1 (ep d j q) = d.1 (ep d j q)) (D : DR d) : DR e := fun j hj q a b => by
  obtain ⟨h1, h2, h3⟩ := h j hj
  rw [h2] at b
  obtain ⟨h4, h5⟩ := h3 q a b
  rw [h4, h5]; exact D j h1 q a b
section AP
variable {tm : Int64} {d e : Im} {i c a : Int}
/-- a byte of a file's contents -/
theorem fb_ok (h : WF tm d) (D : DR d) (h1 : 1 ≤ i) (h2 : i < 32) (hk : kd d i = 1) {y : Int} (hy : 0 ≤ y ∧ y < bc d i) (ha : bk d i y * 64 ≤ a ∧ a < bk d i y * 64 + 64) : WF tm (up d a c) ∧ DR (up d a c) := by
  have cb : ctB d (bk d i y) := ⟨i, y, h1, h2, by omega, hy.1, hy.2, rfl⟩
  have cg : cgB d (up d a c) (bk d i y) := fun j hj => by rw [up_at, if_neg (by omega)]
  have W2 := cgB.WFE h cb cg
  have k := cgB.kdE h cb cg
  refine ⟨W2, DR_fr (fun j hj => ?_) D⟩
  have hj2 : drI d j := ⟨hj.1, hj.2.1, by rw [← k]; exact hj.2.2⟩
  refine ⟨hj2, cgB.szE h cb cg j, fun q a1 b1 => ?_⟩
  have s := h.szE hj2
  have m := cgB.smIE h cb cg hj.1 hj.2.1 (by have := hj2.2.2; omega)
  refine ⟨m.epE (by omega) b1 s.2.1 s.2.2, ?_⟩
  have er := h.epE hj2 (p := q) (by omega) b1
  have ne : bk d j (q / 4) ≠ bk d i y := fun z => by
    have := h.dj j i (bk d i y) hj.1 hj.2.1 h1 h2 (by have := hj2.2.2; omega) (by omega) (Or.inl ⟨q / 4, by omega, er.2.2, z⟩) (Or.inl ⟨y, hy.1, hy.2, rfl⟩)
    have h3 := hj2.2.2
    rw [this] at h3; omega
  rw [up_at, if_neg (by omega)]
theorem gw_DR (h : WF tm d) (D : DR d) (h1 : 1 ≤ i) (h2 : i < 32) (hk : kd d i = 1) (hx : ¬ abX tm d i) : DR (gwD tm d i 1) := by
  have h3 : kd d i ≠ 0 := by omega
  have k := gw_kd h h1 h2 h3 hx (w := 1)
  refine DR_fr (fun j hj => ?_) D
  have hj2 : drI d j := ⟨hj.1, hj.2.1, by rw [← k]; exact hj.2.2⟩
  have ne : j ≠ i := fun z => by have := hj2.2.2; rw [z] at this; omega
  have h4 : kd d j ≠ 0 := by have := hj2.2.2; omega
  have m := gw_sm h h1 h2 h3 hx (w := 1) hj.1 hj.2.1 ne h4
  refine ⟨hj2, m.szE, fun q a1 b1 => ?_⟩
  have s := h.szE hj2
  have er := h.epE hj2 (p := q) (by omega) b1
  exact ⟨m.epE (by omega) b1 s.2.1 s.2.2, gw_blk h h1 h2 h3 hx ⟨j, hj.1, hj.2.1, h4, Or.inl ⟨q / 4, by omega, er.2.2, rfl⟩, Or.inl ne⟩ (by omega)⟩
theorem sz_st {x : Im} (hi : inR i) : sz x i = x.1 (512 + i * 16 + 2) * 256 + x.1 (512 + i * 16 + 3) := by
  unfold sz; rw [if_pos hi, show 512 + i * 16 + 2 + 1 = 512 + i * 16 + 3 by omega]
/-- a file that has room -/
theorem pu_ok (h : WF tm d) (D : DR d) (h1 : 1 ≤ i) (h2 : i < 32) (hk : kd d i = 1) (hm : sz d i % 64 ≠ 0) : WF tm (im_put d (512 + i * 16 + 2) (sz d i + 1)) ∧ DR (im_put d (512 + i * 16 + 2) (sz d i + 1)) ∧ bc (im_put d (512 + i * 16 + 2) (sz d i + 1)) i = bc d i ∧ kd (im_put d (512 + i * 16 + 2) (sz d i + 1)) i = 1 := by
  have hR : inR i := by omega
  have o := h.ok i h1 h2 (by omega)
  have r := sz_rg d i
  have o2 := o.1.2.1
  have at' : ∀ a : Int, (im_put d (512 + i * 16 + 2) (sz d i + 1)).1 a = if a = 512 + i * 16 + 3 then (sz d i + 1) % 256 else if a = 512 + i * 16 + 2 then (sz d i + 1) / 256 % 256 else d.1 a := fun a => by
    rw [put_at _ (by omega), show 512 + i * 16 + 2 + 1 = 512 + i * 16 + 3 by omega]
  have ot : ∀ a : Int, a ≠ 512 + i * 16 + 2 → a ≠ 512 + i * 16 + 3 → (im_put d (512 + i * 16 + 2) (sz d i + 1)).1 a = d.1 a := fun a a1 a2 => by rw [at', if_neg a2, if_neg a1]
  have s : sz (im_put d (512 + i * 16 + 2) (sz d i + 1)) i = sz d i + 1 := by
    rw [sz_st hR, at', at', if_neg (by omega), if_pos rfl, if_pos rfl]; omega
  have bk' := fun y hy => bk_put (x := d) (v := sz d i + 1) hR (y := y) hy
  generalize im_put d (512 + i * 16 + 2) (sz d i + 1) = e at *
  have b1 : bc e i = bc d i := by
    have e1 : bc e i = (sz e i + 63) / 64 := rfl
    have e2 : bc d i = (sz d i + 63) / 64 := rfl
    rw [e1, e2, s]; omega
  have kd' : ∀ j : Int, kd e j = kd d j := fun j => by
    unfold kd; split
    · exact ot _ (by omega) (by omega)
    · rfl
  have sm : ∀ j : Int, 1 ≤ j → j < 32 → j ≠ i → kd d j ≠ 0 → smI d e j := fun j a1 a2 a3 a4 => ⟨fun y c1 c2 _ => ot _ (by omega) (by omega), fun h5 y c1 c2 => by
    have := (h.indE a1 a2 a4 h5).1
    exact ot _ (by omega) (by omega)⟩
  have ind' : ind e i = ind d i := ot _ (by omega) (by omega)
  have inb : ∀ n b : Int, inB e i n b ↔ inB d i n b := fun n b => inB_x (fun y c1 c2 => bk' y c1)
  refine ⟨?_, ?_, b1, by rw [kd']; exact hk⟩
  · refine h.chg h1 h2 (by rw [kd']; exact h.k0) sm (fun j a1 a2 a3 a4 y c1 c2 => by rw [ot _ (by omega) (by omega)]; exact h.bl j a1 a2 a4 y c1 c2) (by rw [kd']; omega) ?_ ?_ (fun _ => False) (fun b z => z.elim) (fun b => ?_) (fun b _ _ => ⟨Or.inl, fun z => z.elim id False.elim⟩)
    · unfold ok1; rw [kd', s]
      refine ⟨o.1.1, by omega, fun z => by omega, o.1.2.2.2⟩
    · unfold gdA; rw [b1, ind', inb]
      refine ⟨fun x a1 a2 => ?_, o.2.2⟩
      rw [bk' x a1, inb]; exact o.2.1 x a1 a2
    · unfold own; rw [b1, ind', inb]
      exact ⟨fun z => Or.inl ⟨by omega, z⟩, fun z => z.elim (fun w => w.2) False.elim⟩
  · refine DR_fr (fun j hj => ?_) D
    have hj2 : drI d j := ⟨hj.1, hj.2.1, by rw [← kd']; exact hj.2.2⟩
    have ne : j ≠ i := fun z => by have := hj2.2.2; rw [z] at this; omega
    have m := sm j hj.1 hj.2.1 ne (by have := hj2.2.2; omega)
    refine ⟨hj2, m.szE, fun q a1 c1 => ?_⟩
    have s9 := h.szE hj2
    have er := h.ep_rgE hj2 (p := q) (by omega) c1
    exact ⟨m.epE (by omega) c1 s9.2.1 s9.2.2, ot _ (by omega) (by omega)⟩
theorem ap_g (h : WF tm d) (D : DR d) (h1 : 1 ≤ i) (h2 : i < 32) (hk : kd d i = 1) (hm : sz d i % 64 = 0) (hx : ¬ abX tm d i) : bk (gwD tm d i 1) i (sz d i / 64) = tfB tm ∧ leD tm d i c = up (gwD tm d i 1) (64 * tfB tm + sz d i % 64) c ∧ WF (leT tm d i) (up (gwD tm d i 1) (64 * tfB tm + sz d i % 64) c) ∧ DR (up (gwD tm d i 1) (64 * tfB tm + sz d i % 64) c) ∧ ¬ leX tm d i := by
  have h3 : kd d i ≠ 0 := by omega
  have f := ab_fr h hx
  have hb : bc d i = sz d i / 64 := by have : bc d i = (sz d i + 63) / 64 := rfl; omega
  have w := gw_WF h h1 h2 h3 hx hm (w := 1) (Or.inr ⟨rfl, hk⟩)
  have bn := gw_bkn h h1 h2 h3 hx (w := 1)
  have b0 := bc_rg d i
  rw [hb] at bn
  have eT : leT tm d i = abT tm d i := by unfold leT leY; rw [if_pos ⟨hk, hm⟩]
  have eL : le1 tm d i = abD tm d i := by unfold le1 leY; rw [if_pos ⟨hk, hm⟩]
  have nx : ¬ leX tm d i := fun z => by
    rcases z with z | z
    · exact z hk
    · exact hx ((ab_R h).mp z.2)
  have gE : gwD tm d i 1 = im_put (abD tm d i) (512 + i * 16 + 2) (sz d i + 1) := by unfold gwD; rw [if_neg hx]
  have bA : bk (abD tm d i) i (sz d i / 64) = tfB tm := by
    rw [gE, bk_put (by omega) (by omega)] at bn; exact bn
  have hq := f.2.1.1
  have cpE : cp (abD tm d i) i (sz d i) = 64 * tfB tm + sz d i % 64 := by
    unfold cp
    rw [bA, if_pos ⟨by omega, by omega, hq⟩]; omega
  have fb := fb_ok (c := c) w.1 (gw_DR h D h1 h2 hk hx) h1 h2 (by rw [gw_kd h h1 h2 h3 hx]; exact hk) (y := sz d i / 64) (by rw [w.2]; omega) (a := 64 * tfB tm + sz d i % 64) (by rw [bn]; omega)
  refine ⟨bn, ?_, by rw [eT]; exact fb.1, fb.2, nx⟩
  unfold leD
  rw [if_neg nx, eL, cpE, im_set_in _ (by omega), gE, put_up (by omega) (by omega)]
theorem ap_n (h : WF tm d) (D : DR d) (h1 : 1 ≤ i) (h2 : i < 32) (hk : kd d i = 1) (hm : ¬ sz d i % 64 = 0) : dat (bk d i (sz d i / 64)) ∧ (sz d i / 64 < 5 ∨ dat (ind d i)) ∧ leD tm d i c = up (im_put d (512 + i * 16 + 2) (sz d i + 1)) (64 * bk d i (sz d i / 64) + sz d i % 64) c ∧ WF (leT tm d i) (up (im_put d (512 + i * 16 + 2) (sz d i + 1)) (64 * bk d i (sz d i / 64) + sz d i % 64) c) ∧ DR (up (im_put d (512 + i * 16 + 2) (sz d i + 1)) (64 * bk d i (sz d i / 64) + sz d i % 64) c) ∧ ¬ leX tm d i := by
  have h3 : kd d i ≠ 0 := by omega
  have hb : bc d i = (sz d i + 63) / 64 := rfl
  have r := sz_rg d i
  have o := h.ok i h1 h2 h3
  have o2 := o.1.2.1
  have g := (o.2.1 (sz d i / 64) (by omega) (by omega)).1
  have p := pu_ok h D h1 h2 hk hm
  have nx : ¬ leX tm d i := fun z => by
    rcases z with z | z
    · exact z hk
    · exact hm z.1
  have eT : leT tm d i = tm := by unfold leT leY; rw [if_neg (fun z => hm z.2)]
  have eL : le1 tm d i = d := by unfold le1 leY; rw [if_neg (fun z => hm z.2)]
  have cpE : cp d i (sz d i) = 64 * bk d i (sz d i / 64) + sz d i % 64 := by
    unfold cp
    rw [if_pos ⟨by omega, by omega, g⟩]; omega
  have fb := fb_ok (c := c) p.1 p.2.1 h1 h2 p.2.2.2 (y := sz d i / 64) (by rw [p.2.2.1]; omega) (a := 64 * bk d i (sz d i / 64) + sz d i % 64) (by rw [bk_put (by omega) (by omega)]; omega)
  refine ⟨g, ?_, ?_, by rw [eT]; exact fb.1, fb.2, nx⟩
  · by_cases c5 : sz d i / 64 < 5
    · exact Or.inl c5
    · exact Or.inr (h.indE h1 h2 h3 (by omega)).1
  · unfold leD
    rw [if_neg nx, eL, cpE, im_set_in _ (by omega), put_up (by omega) (by omega)]
end AP
def apB (dk : Im) (i c : Int) : Bool := decide ((0 ≤ c ∧ c ≤ 255) ∧ ckZ dk = 0 ∧ ¬ leX (pzC dk).1 (plZ dk) i)
def apG (dk : Im) (i c : Int) : Im := if apB dk i c = true then stD (leT (pzC dk).1 (plZ dk) i) (leD (pzC dk).1 (plZ dk) i c) else dk
theorem ap_f {dk : Im} {i c : Int} (h : ¬ (0 ≤ c ∧ c ≤ 255) ∨ ¬ ckZ dk = 0 ∨ leX (pzC dk).1 (plZ dk) i) : apB dk i c = false := by
  unfold apB
  rw [decide_eq_false]
  rintro ⟨h1, h2, h3⟩
  rcases h with z | z | z
  · exact z h1
  · exact z h2
  · exact h3 z
theorem ap_t {dk : Im} {i c : Int} (h1 : 0 ≤ c ∧ c ≤ 255) (h2 : ckZ dk = 0) (h3 : ¬ leX (pzC dk).1 (plZ dk) i) : apB dk i c = true := by
  unfold apB; rw [decide_eq_true ⟨h1, h2, h3⟩]
