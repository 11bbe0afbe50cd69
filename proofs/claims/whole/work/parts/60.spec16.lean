/-! A DISK BEHIND PASS 1: what is known of its inodes and blocks -/
section WA
variable {G : GX} {k : KX} {nL ce sl pc : Nat} {ws : va_W} {lv : List (Nat × Value)} {st : List Value} {a : Nat}
theorem w_arrB {n : Nat} {d e : Int → Bool} {ws2 : va_W} (q0 : Nat) (he : ws[q0]? = some (a, .inl (gZ G, n, .inl (arB d)))) (h : ∀ j : Int, 0 ≤ j → j < n → d j = e j) (h2 : ws.set q0 (a, .inl (gZ G, n, .inl (arB e))) = ws2) (kk : Wd G k nL ce sl ws2 pc lv st) : Wd G k nL ce sl ws pc lv st := by
  subst h2
  intro H locs ls hP hD hS hl
  refine kk H locs ls (hP.set (A := kA k) hD he ?_ (fun q _ => rfl)) (hD.set he) hS hl
  have h1 : H[a]? = some (vp_cell (gZ G) (n, .inl (arB d))) := hP q0 _ he
  show H[a]? = some (vp_cell (gZ G) (n, .inl (arB e)))
  rw [h1]
  congr 1
  show arrV (gZ G) n (fun j => .int (arB d j)) = arrV (gZ G) n (fun j => .int (arB e j))
  unfold arrV
  congr 1
  apply Array.ext (by simp)
  intro j hj1 hj2
  simp only [Array.getElem_ofFn]
  simp only [Array.size_ofFn] at hj1
  simp only [arB]
  rw [h j (by omega) (by omega)]
end WA
/-- an inode's head is sound -/
def ok1 (d : Im) (i : Int) : Prop := (kd d i = 1 ∨ kd d i = 2) ∧ sz d i ≤ 2944 ∧ (kd d i = 2 → 0 < sz d i ∧ sz d i % 64 = 0) ∧ (i < 3 → kd d i = 2)
theorem ok1.bc {d : Im} {i : Int} (h : ok1 d i) : bc d i ≤ 46 := by
  have := h.2.1
  unfold Jvm.Pilot.CFsckDeskLaw_law_r3444_266bec.bc; omega
/-- one of the inodes 1 .. n - 1 in use has the block -/
def usd (d : Im) (n q : Int) : Prop := ∃ i : Int, 1 ≤ i ∧ i < n ∧ kd d i ≠ 0 ∧ own d i q
def WFn (n : Int) (tm : Int64) (d : Im) : Prop :=
  (∀ i : Int, 1 ≤ i → i < n → kd d i ≠ 0 → ok1 d i ∧ gdA 0 d i) ∧ (∀ i j b : Int, 1 ≤ i → i < n → 1 ≤ j → j < n → kd d i ≠ 0 → kd d j ≠ 0 → own d i b → own d j b → i = j) ∧ (∀ b : Int, 0 ≤ b → b < 64 → (tbt tm b = true ↔ usd d n b)) ∧ (kd d 0 = 0) ∧ (∀ i : Int, 1 ≤ i → i < n → kd d i = 0 → ∀ j : Int, 0 ≤ j → j < 16 → d.1 (512 + i * 16 + j) = 0)
theorem WFn.ok {n : Int} {tm : Int64} {d : Im} (h : WFn n tm d) : ∀ i : Int, 1 ≤ i → i < n → kd d i ≠ 0 → ok1 d i ∧ gdA 0 d i := h.1
theorem WFn.dj {n : Int} {tm : Int64} {d : Im} (h : WFn n tm d) : ∀ i j b : Int, 1 ≤ i → i < n → 1 ≤ j → j < n → kd d i ≠ 0 → kd d j ≠ 0 → own d i b → own d j b → i = j := h.2.1
theorem WFn.tk {n : Int} {tm : Int64} {d : Im} (h : WFn n tm d) : ∀ b : Int, 0 ≤ b → b < 64 → (tbt tm b = true ↔ usd d n b) := h.2.2.1
theorem WFn.k0 {n : Int} {tm : Int64} {d : Im} (h : WFn n tm d) : kd d 0 = 0 := h.2.2.2.1
theorem WFn.bl {n : Int} {tm : Int64} {d : Im} (h : WFn n tm d) : ∀ i : Int, 1 ≤ i → i < n → kd d i = 0 → ∀ j : Int, 0 ≤ j → j < 16 → d.1 (512 + i * 16 + j) = 0 := h.2.2.2.2
abbrev WF (tm : Int64) (d : Im) : Prop := WFn 32 tm d
theorem usd_1 (d : Im) (q : Int) : ¬ usd d 1 q := fun ⟨i, h1, h2, _⟩ => by omega
theorem usd_s (d : Im) (q : Int) {i : Int} (hi : 1 ≤ i) : usd d (i + 1) q ↔ usd d i q ∨ (kd d i ≠ 0 ∧ own d i q) := by
  constructor
  · rintro ⟨x, h1, h2, h3⟩
    by_cases h : x = i
    · subst h; exact Or.inr h3
    · exact Or.inl ⟨x, h1, by omega, h3⟩
  · rintro (⟨x, h1, h2, h3⟩ | h)
    · exact ⟨x, h1, by omega, h3⟩
    · exact ⟨i, hi, by omega, h⟩
theorem upB_t (t : Int → Bool) (b q : Int) : upB t b true q = true ↔ t q = true ∨ q = b := by
  unfold upB
  by_cases h : q = b
  · rw [if_pos h]; exact ⟨fun _ => Or.inr h, fun _ => rfl⟩
  · rw [if_neg h]; exact ⟨fun z => Or.inl z, fun z => z.elim id (fun e => absurd e h)⟩
theorem us_in {t : Int → Bool} {d : Im} {i x : Int} (hx : 0 ≤ x) (h : ∀ q : Int, 0 ≤ q → q < 64 → (t q = true ↔ usd d i q ∨ inB d i x q)) : ∀ q : Int, 0 ≤ q → q < 64 → (upB t (bk d i x) true q = true ↔ usd d i q ∨ inB d i (x + 1) q) := by
  intro q h1 h2
  rw [upB_t, h q h1 h2, inB_s d i q hx, or_assoc]
  exact or_congr Iff.rfl (or_congr Iff.rfl eq_comm)
theorem us_a {t : Int → Bool} {d : Im} {i x : Int} (hi : 1 ≤ i) (hk : kd d i = 0) (hx : x = 0) (h : ∀ q : Int, 0 ≤ q → q < 64 → (t q = true ↔ usd d i q ∨ inB d i x q)) : ∀ q : Int, 0 ≤ q → q < 64 → (t q = true ↔ usd d (i + 1) q) := by
  intro q h1 h2
  subst hx
  rw [h q h1 h2, usd_s d q hi]
  exact or_congr Iff.rfl ⟨fun z => absurd z (inB_0 d i q), fun z => absurd hk z.1⟩
theorem us_b {t : Int → Bool} {d : Im} {i x : Int} (hi : 1 ≤ i) (hk : ¬ kd d i = 0) (hx : x = bc d i) (h5 : ¬ 5 < bc d i) (h : ∀ q : Int, 0 ≤ q → q < 64 → (t q = true ↔ usd d i q ∨ inB d i x q)) : ∀ q : Int, 0 ≤ q → q < 64 → (t q = true ↔ usd d (i + 1) q) := by
  intro q h1 h2
  subst hx
  rw [h q h1 h2, usd_s d q hi]
  exact or_congr Iff.rfl ⟨fun z => ⟨hk, Or.inl z⟩, fun z => z.2.elim id (fun w => absurd w.1 h5)⟩
theorem us_c {t : Int → Bool} {d : Im} {i x : Int} (hi : 1 ≤ i) (hk : ¬ kd d i = 0) (hx : x = bc d i) (h5 : 5 < bc d i) (h : ∀ q : Int, 0 ≤ q → q < 64 → (t q = true ↔ usd d i q ∨ inB d i x q)) : ∀ q : Int, 0 ≤ q → q < 64 → (upB t (ind d i) true q = true ↔ usd d (i + 1) q) := by
  intro q h1 h2
  subst hx
  rw [upB_t, h q h1 h2, usd_s d q hi, or_assoc]
  exact or_congr Iff.rfl ⟨fun z => ⟨hk, z.elim Or.inl (fun e => Or.inr ⟨h5, e.symm⟩)⟩, fun z => z.2.elim Or.inl (fun w => Or.inr w.2.symm)⟩
def fre (tm : Int64) : Nat → Int → Int
  | 0, _ => -1
  | f + 1, b => if 16 ≤ b ∧ tbt tm b = false then b else fre tm f (b + 1)
theorem fre_rg (tm : Int64) : ∀ (f : Nat) (b : Int), fre tm f b = -1 ∨ (16 ≤ fre tm f b ∧ b ≤ fre tm f b ∧ fre tm f b < b + f ∧ tbt tm (fre tm f b) = false)
  | 0, b => Or.inl rfl
  | f + 1, b => by
    rw [fre]
    split
    · next h => right; exact ⟨h.1, by omega, by omega, h.2⟩
    · rcases fre_rg tm f (b + 1) with h | h
      · left; exact h
      · right; exact ⟨h.1, by omega, by omega, h.2.2.2⟩
/-- the first free block behind z -/
def frz (tm : Int64) (z : Int) : Int := fre tm (62 - z).toNat (z + 1)
theorem frz_rg (tm : Int64) {z : Int} (hz : 0 ≤ z ∧ z ≤ 62) : frz tm z = -1 ∨ (16 ≤ frz tm z ∧ z < frz tm z ∧ frz tm z ≤ 62 ∧ tbt tm (frz tm z) = false) := by
  unfold frz
  rcases fre_rg tm (62 - z).toNat (z + 1) with h | h
  · exact Or.inl h
  · right; exact ⟨h.1, by omega, by omega, h.2.2.2⟩
theorem arr_tk {tm : Int64} {d : Im} {n : Int} {t : Int → Bool} (hw : WFn n tm d) (h : ∀ q : Int, 0 ≤ q → q < 64 → (t q = true ↔ usd d n q)) : ∀ j : Int, 0 ≤ j → j < (64 : Nat) → t j = tbt tm j := by
  intro j h1 h2
  rw [Bool.eq_iff_iff, h j h1 (by omega), hw.tk j h1 (by omega)]
