/-! PASS 5: THE MAPS -/
def mbv (n : Int) : Int := (iI 128 >>> (iI (n % 8) &&& 31)).toInt
theorem mb_t : ∀ k : Nat, k < 8 → (iI 128 >>> (iI ((k : Nat) : Int) &&& 31)).toInt = ((2 ^ (7 - k) : Nat) : Int) := by decide +kernel
theorem mb_o : ∀ k : Nat, k < 8 → ∀ a : Nat, a < 256 → a % 2 ^ (8 - k) = 0 → (iI ((a : Nat) : Int) ||| (iI 128 >>> (iI ((k : Nat) : Int) &&& 31))).toInt = ((a + 2 ^ (7 - k) : Nat) : Int) := by decide +kernel
theorem mb_c {n : Int} (hn : 0 ≤ n) : (n % 8 = 0 ∧ mbv n = 128) ∨ (n % 8 = 1 ∧ mbv n = 64) ∨ (n % 8 = 2 ∧ mbv n = 32) ∨ (n % 8 = 3 ∧ mbv n = 16) ∨ (n % 8 = 4 ∧ mbv n = 8) ∨ (n % 8 = 5 ∧ mbv n = 4) ∨ (n % 8 = 6 ∧ mbv n = 2) ∨ (n % 8 = 7 ∧ mbv n = 1) := by
  have h := mb_t (n % 8).toNat (by omega)
  rw [show (((n % 8).toNat : Nat) : Int) = n % 8 by omega] at h
  have e : mbv n = ((2 ^ (7 - (n % 8).toNat) : Nat) : Int) := h
  have c : n % 8 = 0 ∨ n % 8 = 1 ∨ n % 8 = 2 ∨ n % 8 = 3 ∨ n % 8 = 4 ∨ n % 8 = 5 ∨ n % 8 = 6 ∨ n % 8 = 7 := by omega
  rw [e]
  rcases c with c | c | c | c | c | c | c | c <;> rw [c] <;> decide
theorem mu_add {a n : Int} (ha : 0 ≤ a ∧ a < 256) (hn : 0 ≤ n) (h : a % (2 * mbv n) = 0) : muv a n = a + mbv n := by
  have o := mb_o (n % 8).toNat (by omega) a.toNat (by omega)
  rw [show (((n % 8).toNat : Nat) : Int) = n % 8 by omega, show ((a.toNat : Nat) : Int) = a by omega] at o
  have t := mb_t (n % 8).toNat (by omega)
  rw [show (((n % 8).toNat : Nat) : Int) = n % 8 by omega] at t
  have e : mbv n = ((2 ^ (7 - (n % 8).toNat) : Nat) : Int) := t
  have p : a.toNat % 2 ^ (8 - (n % 8).toNat) = 0 := by
    rcases mb_c hn with ⟨c, m⟩ | ⟨c, m⟩ | ⟨c, m⟩ | ⟨c, m⟩ | ⟨c, m⟩ | ⟨c, m⟩ | ⟨c, m⟩ | ⟨c, m⟩ <;> rw [m] at h <;> rw [c]
    · show a.toNat % 256 = 0; omega
    · show a.toNat % 128 = 0; omega
    · show a.toNat % 64 = 0; omega
    · show a.toNat % 32 = 0; omega
    · show a.toNat % 16 = 0; omega
    · show a.toNat % 8 = 0; omega
    · show a.toNat % 4 = 0; omega
    · show a.toNat % 2 = 0; omega
  have o2 := o p
  have g : muv a n = ((a.toNat + 2 ^ (7 - (n % 8).toNat) : Nat) : Int) := o2
  rw [g, e]
  omega
/-- nothing is marked from n on -/
def MBi (p : Int) (x : Im) (n N : Int) : Prop := ∀ c : Int, n / 8 ≤ c → c < N → (c = n / 8 → x.1 (p + c) % (2 * mbv n) = 0) ∧ (n / 8 < c → x.1 (p + c) = 0)
section MB
variable {p n N : Int} {x : Im}
theorem MBi_0 (h : ∀ c : Int, 0 ≤ c → c < N → x.1 (p + c) = 0) : MBi p x 0 N := fun c a b => ⟨fun _ => by rw [h c (by omega) b]; rfl, fun _ => h c (by omega) b⟩
theorem MB_v (h : MBi p x n N) (hn : 0 ≤ n) (hN : n / 8 < N) : x.1 (p + n / 8) % (2 * mbv n) = 0 ∧ x.1 (p + n / 8) + mbv n < 256 ∧ 0 < mbv n := by
  have a := (h (n / 8) (by omega) hN).1 rfl
  have b := x.2 (p + n / 8)
  refine ⟨a, ?_⟩
  rcases mb_c hn with ⟨c, m⟩ | ⟨c, m⟩ | ⟨c, m⟩ | ⟨c, m⟩ | ⟨c, m⟩ | ⟨c, m⟩ | ⟨c, m⟩ | ⟨c, m⟩ <;> rw [m] at a ⊢ <;> omega
theorem MB_u (h : MBi p x n N) (hn : 0 ≤ n) (hN : n / 8 < N) : MBi p (up x (p + n / 8) (x.1 (p + n / 8) + mbv n)) (n + 1) N := by
  have v := MB_v h hn hN
  have b := x.2 (p + n / 8)
  intro c a1 a2
  rw [up_at]
  refine ⟨fun e => ?_, fun e => ?_⟩
  · by_cases w : c = n / 8
    · rw [if_pos (by omega)]
      have v1 := v.1
      generalize x.1 (p + n / 8) = y at *
      rcases mb_c hn with ⟨c1, m1⟩ | ⟨c1, m1⟩ | ⟨c1, m1⟩ | ⟨c1, m1⟩ | ⟨c1, m1⟩ | ⟨c1, m1⟩ | ⟨c1, m1⟩ | ⟨c1, m1⟩ <;> rcases mb_c (show 0 ≤ n + 1 by omega) with ⟨c2, m2⟩ | ⟨c2, m2⟩ | ⟨c2, m2⟩ | ⟨c2, m2⟩ | ⟨c2, m2⟩ | ⟨c2, m2⟩ | ⟨c2, m2⟩ | ⟨c2, m2⟩ <;> first | (exfalso; omega) | (rw [m1] at v v1 ⊢; rw [m2]; omega)
    · rw [if_neg (by omega), (h c (by omega) a2).2 (by omega)]; rfl
  · rw [if_neg (by omega)]; exact (h c (by omega) a2).2 (by omega)
theorem MB_k (h : MBi p x n N) (hn : 0 ≤ n) : MBi p x (n + 1) N := by
  intro c a1 a2
  refine ⟨fun e => ?_, fun e => (h c (by omega) a2).2 (by omega)⟩
  by_cases w : c = n / 8
  · have v1 := (h c (by omega) a2).1 w
    rcases mb_c hn with ⟨c1, m1⟩ | ⟨c1, m1⟩ | ⟨c1, m1⟩ | ⟨c1, m1⟩ | ⟨c1, m1⟩ | ⟨c1, m1⟩ | ⟨c1, m1⟩ | ⟨c1, m1⟩ <;> rcases mb_c (show 0 ≤ n + 1 by omega) with ⟨c2, m2⟩ | ⟨c2, m2⟩ | ⟨c2, m2⟩ | ⟨c2, m2⟩ | ⟨c2, m2⟩ | ⟨c2, m2⟩ | ⟨c2, m2⟩ | ⟨c2, m2⟩ <;> first | (exfalso; omega) | (rw [m1] at v1; rw [m2]; omega)
  · rw [(h c (by omega) a2).2 (by omega)]; rfl
theorem mu_D (h : MBi p x n N) (hn : 0 ≤ n) (hN : n / 8 < N) (hp : 0 ≤ p ∧ p + n / 8 < 4096) : up x (p + n / 8) (x.1 (p + n / 8) + mbv n) = muD x p n := by
  have v := MB_v h hn hN
  unfold muD
  rw [im_set_in _ (by omega), im_at_in _ (by omega), mu_add (x.2 _) hn v.1]
theorem up_id (x : Im) (a : Int) : up x a (x.1 a + 0) = x := im_x (fun j => by
  rw [up_at]
  by_cases e : j = a
  · rw [if_pos e, e]; have := x.2 a; omega
  · rw [if_neg e])
end MB
def fbs (tm : Int64) : Nat → Int → Int
  | 0, _ => 0
  | f + 1, b => (if dat b ∧ tbt tm b = false then 1 else 0) + fbs tm f (b + 1)
theorem fbs_rg (tm : Int64) : ∀ (f : Nat) (b : Int), 0 ≤ fbs tm f b ∧ fbs tm f b ≤ f
  | 0, b => by simp [fbs]
  | f + 1, b => by have := fbs_rg tm f (b + 1); rw [fbs]; split <;> omega
theorem fbs_a (tm : Int64) (n : Nat) : ∀ (m : Nat) (b : Int), fbs tm (m + n) b = fbs tm m b + fbs tm n (b + m)
  | 0, b => by rw [fbs, Nat.zero_add, show b + ((0 : Nat) : Int) = b by omega]; omega
  | m + 1, b => by
    rw [show m + 1 + n = (m + n) + 1 by omega, fbs, fbs, fbs_a tm n m (b + 1), show b + 1 + (m : Int) = b + ((m + 1 : Nat) : Int) by omega]; omega
theorem fbs_z (tm : Int64) : ∀ (f : Nat) (b : Int), (∀ j : Int, b ≤ j → j < b + f → ¬ dat j) → fbs tm f b = 0
  | 0, b, _ => rfl
  | f + 1, b, h => by rw [fbs, if_neg (fun z => h b (by omega) (by omega) z.1), fbs_z tm f (b + 1) (fun j a c => h j (by omega) (by omega))]; rfl
theorem fbs_c (tm : Int64) : ∀ (f : Nat) (b : Int), 16 ≤ b → b + f ≤ 63 → fbs tm f b = cfr tm f b
  | 0, b, _, _ => rfl
  | f + 1, b, h1, h2 => by
    rw [fbs, cfr, fbs_c tm f (b + 1) (by omega) (by omega)]
    by_cases c : tbt tm b = false
    · rw [if_pos ⟨by omega, c⟩, if_pos c]
    · rw [if_neg (fun z => c z.2), if_neg c]
theorem fbs_E {tm : Int64} {d : Im} (h : WF tm d) : fbs tm 64 0 = 47 - pcn tm := by
  rw [← cfr_pcn tm h.bits, show 64 = 16 + (47 + 1) from rfl, fbs_a tm (47 + 1) 16 0, fbs_a tm 1 47 _, fbs_z tm 16 0 (fun j a b => by omega), fbs_c tm 47 _ (by omega) (by omega), fbs_z tm 1 _ (fun j a b => by omega)]
  rw [show (0 : Int) + ((16 : Nat) : Int) = 16 from rfl]
  omega
def fz (d : Im) : Nat → Int → Int
  | 0, _ => 0
  | f + 1, i => (if ¬ i = 0 ∧ kd d i = 0 then 1 else 0) + fz d f (i + 1)
theorem fz_E (d : Im) : ∀ (f : Nat) (i : Int), 1 ≤ i → fz d f i = fi d f i
  | 0, i, _ => rfl
  | f + 1, i, h => by
    rw [fz, fi, fz_E d f (i + 1) (by omega)]
    by_cases k : kd d i = 0
    · rw [if_pos ⟨by omega, k⟩, if_pos k]
    · rw [if_neg (fun z => k z.2), if_neg k]
theorem fz_0 (d : Im) : fz d 32 0 = fi d 31 1 := by
  rw [show (32 : Nat) = 31 + 1 from rfl, fz, if_neg (fun z => z.1 rfl), fz_E d 31 (0 + 1) (by omega)]
  rw [show (0 : Int) + 1 = 1 from rfl]; omega
theorem fz_rg (d : Im) : ∀ (f : Nat) (i : Int), 0 ≤ fz d f i ∧ fz d f i ≤ f
  | 0, i => by simp [fz]
  | f + 1, i => by have := fz_rg d f (i + 1); rw [fz]; split <;> omega
theorem fi_c {d e : Im} (h : ∀ j, kd e j = kd d j) : ∀ (f : Nat) (i : Int), fi e f i = fi d f i
  | 0, i => rfl
  | f + 1, i => by rw [fi, fi, h, fi_c h f]
theorem kd_up {x : Im} {a v i : Int} (h : a ≠ 512 + i * 16) : kd (up x a v) i = kd x i := by
  unfold kd
  split
  · rw [up_at, if_neg (fun z => h z.symm)]
  · rfl
theorem kd_lo {x : Im} {a v : Int} (h : a < 512) (i : Int) : kd (up x a v) i = kd x i := by
  by_cases c : inR i
  · exact kd_up (by omega)
  · unfold kd; rw [if_neg c, if_neg c]
theorem kd_wm {x : Im} (i : Int) : kd (im_wipe x 448 64) i = kd x i := by
  unfold kd
  split
  · exact wipe_out x (by unfold rgP; omega) (by omega)
  · rfl
/-- what finish leaves -/
theorem st_E {tm : Int64} {d : Im} (w : WF tm d) : stD tm d = su_wr (su_wr (mpF tm (fnI d 31 1 d)) 0 (fbs tm 64 0) (fz (fnI d 31 1 d) 32 0)) 63 (fbs tm 64 0) (fz (fnI d 31 1 d) 32 0) := by
  have e := st1_E w
  have k := (fnI_FI w 31 1 d (by omega) (by omega) (FI_0 w)).1.kdE
  unfold stD
  rw [e.1, e.2, fbs_E w, fz_0, fi_c k]
/-- numbers in entries are inodes' -/
def DR (d : Im) : Prop := ∀ i : Int, drI d i → ∀ q : Int, 2 ≤ q → q < sz d i / 16 → d.1 (ep d i q) < 32
theorem DE.R {d : Im} (h : DE d) : DR d := fun i hi q a b => by
  rcases h i hi hi.2.1 q a b with w | w
  · have := w 0 (by omega) (by omega)
    rw [show ep d i q + 0 = ep d i q by omega] at this; omega
  · exact (kd_R w).2
