/-! BITS OF SETS; what an inode has -/
theorem tbt_or (x y : Int64) (b : Int) : tbt (x ||| y) b = (tbt x b || tbt y b) := by
  unfold tbt
  show (x.toBitVec ||| y.toBitVec).getLsbD b.toNat = _
  rw [BitVec.getLsbD_or]
theorem tbt_and (x y : Int64) (b : Int) : tbt (x &&& y) b = (tbt x b && tbt y b) := by
  unfold tbt
  show (x.toBitVec &&& y.toBitVec).getLsbD b.toNat = _
  rw [BitVec.getLsbD_and]
theorem tbt_not (x : Int64) {b : Int} (hb : 0 ≤ b ∧ b < 64) : tbt (x ^^^ -1) b = !(tbt x b) := by
  unfold tbt
  show (x.toBitVec ^^^ (-1#64)).getLsbD b.toNat = _
  rw [BitVec.getLsbD_xor]
  have : (-1#64).getLsbD b.toNat = true := by
    rw [show (-1#64) = BitVec.allOnes 64 by decide, BitVec.getLsbD_allOnes]
    simp; omega
  rw [this, Bool.xor_true]
theorem tbt_one {b : Int} (hb : 0 ≤ b ∧ b < 64) : tbt 1 b = decide (b = 0) := by
  unfold tbt
  show (1#64).getLsbD b.toNat = _
  rw [BitVec.getLsbD_one]
  by_cases h : b = 0
  · subst h; rfl
  · rw [decide_eq_false h]; simp; omega
theorem tbt_z (x : Int64) : x = 0 ↔ ∀ b : Int, 0 ≤ b → b < 64 → tbt x b = false := by
  constructor
  · rintro rfl b - -
    exact tbt_0 b
  · intro h
    rw [← Int64.toBitVec_inj]
    apply BitVec.eq_of_getLsbD_eq
    intro i hi
    have := h (i : Int) (by omega) (by omega)
    unfold tbt at this
    rw [Int.toNat_natCast] at this
    rw [this]
    show false = (0#64).getLsbD i
    simp
theorem tbt_x (x y : Int64) (h : ∀ b : Int, 0 ≤ b → b < 64 → tbt x b = tbt y b) : x = y := by
  rw [← Int64.toBitVec_inj]
  apply BitVec.eq_of_getLsbD_eq
  intro i hi
  have := h (i : Int) (by omega) (by omega)
  unfold tbt at this
  rwa [Int.toNat_natCast] at this
/-- the number of an inode's indirect block -/
abbrev ind (d : Im) (i : Int) : Int := d.1 (512 + i * 16 + 9)
/-- b is one of the first n blocks of an inode -/
def inB (d : Im) (i n b : Int) : Prop := ∃ x : Int, 0 ≤ x ∧ x < n ∧ bk d i x = b
theorem inB_0 (d : Im) (i b : Int) : ¬ inB d i 0 b := fun ⟨x, h1, h2, _⟩ => by omega
theorem inB_s (d : Im) (i b : Int) {n : Int} (hn : 0 ≤ n) : inB d i (n + 1) b ↔ inB d i n b ∨ bk d i n = b := by
  constructor
  · rintro ⟨x, h1, h2, h3⟩
    by_cases h : x = n
    · subst h; exact Or.inr h3
    · exact Or.inl ⟨x, h1, by omega, h3⟩
  · rintro (⟨x, h1, h2, h3⟩ | h)
    · exact ⟨x, h1, by omega, h3⟩
    · exact ⟨n, hn, by omega, h⟩
/-- the first n blocks are different data blocks that s hasn't -/
def gdB (s : Int64) (d : Im) (i n : Int) : Prop := ∀ x : Int, 0 ≤ x → x < n → dat (bk d i x) ∧ tbt s (bk d i x) = false ∧ ¬ inB d i x (bk d i x)
theorem gdB_s (s : Int64) (d : Im) (i : Int) {n : Int} (hn : 0 ≤ n) : gdB s d i (n + 1) ↔ gdB s d i n ∧ dat (bk d i n) ∧ tbt s (bk d i n) = false ∧ ¬ inB d i n (bk d i n) := by
  constructor
  · intro h
    exact ⟨fun x h1 h2 => h x h1 (by omega), h n hn (by omega)⟩
  · rintro ⟨h1, h2⟩ x h3 h4
    by_cases h : x = n
    · subst h; exact h2
    · exact h1 x h3 (by omega)
theorem cp_blk (d : Im) (i : Int) (hi : inR i) (j : Nat) (hj : j < 46) : (if cp d i ((j : Int) * 64) = -1 then (0 : Int) else cp d i ((j : Int) * 64) / 64) = if dat (bk d i j) then bk d i j else 0 := by
  unfold cp
  rw [show (j : Int) * 64 / 64 = j by omega, show (j : Int) * 64 % 64 = 0 by omega]
  by_cases h : dat (bk d i j)
  · rw [if_pos (show inR i ∧ (j : Int) < 46 ∧ dat (bk d i j) from ⟨hi, by omega, h⟩), if_pos h, if_neg (by omega)]; omega
  · rw [if_neg (fun z : inR i ∧ (j : Int) < 46 ∧ dat (bk d i j) => h z.2.2), if_neg h, if_pos rfl]
theorem not_dat0 : ¬ dat 0 := by decide
theorem wbk_bit (x : Int64) (q b : Int) (hb : 0 ≤ b ∧ b < 64) : tbt (wbk x q) b = if dat q ∧ tbt x q = false then (tbt x b || decide (b = q)) else (tbt x b || decide (b = 0)) := by
  unfold wbk
  split
  · next h => rw [tb_tset x (by have := h.1; omega) hb]
  · rw [tbt_or, tbt_one hb]
/-- the set of the first n blocks: bit 0 tells that one can't be had -/
theorem bko_bits (d : Im) (i : Int) (hi : inR i) : ∀ n : Nat, n ≤ 46 → (tbt (bko d i n) 0 = false ↔ gdB 0 d i n) ∧ (∀ b : Int, dat b → (tbt (bko d i n) b = true ↔ inB d i n b)) ∧ (∀ b : Int, 0 < b → b < 64 → ¬ dat b → tbt (bko d i n) b = false)
  | 0, _ => by
    refine ⟨⟨fun _ x h1 h2 => by omega, fun _ => tbt_0 0⟩, fun b _ => ⟨fun h => ?_, fun h => absurd h (inB_0 d i b)⟩, fun b _ _ _ => tbt_0 b⟩
    rw [bko, tbt_0] at h; cases h
  | n + 1, hn => by
    obtain ⟨h1, h2, h3⟩ := bko_bits d i hi n (by omega)
    rw [bko, cp_blk d i hi n (by omega)]
    have cst : ((n + 1 : Nat) : Int) = (n : Int) + 1 := by omega
    rw [cst]
    by_cases hd : dat (bk d i n)
    · rw [if_pos hd]
      have hin := h2 _ hd
      refine ⟨?_, ?_, ?_⟩
      · rw [wbk_bit _ _ _ (by omega), gdB_s 0 d i (by omega), ← h1]
        by_cases hq : tbt (bko d i n) (bk d i n) = false
        · rw [if_pos ⟨hd, hq⟩, decide_eq_false (by omega), Bool.or_false]
          exact ⟨fun h => ⟨h, hd, tbt_0 _, fun z => by rw [hin.mpr z] at hq; cases hq⟩, fun h => h.1⟩
        · rw [if_neg (fun z => hq z.2), decide_eq_true rfl, Bool.or_true]
          refine ⟨fun h => (by cases h), fun h => absurd (hin.mp (by cases z : tbt (bko d i n) (bk d i n) with | true => rfl | false => exact absurd z hq)) h.2.2.2⟩
      · intro b hb
        rw [wbk_bit _ _ _ (by omega), inB_s d i b (by omega), ← h2 b hb]
        by_cases hq : tbt (bko d i n) (bk d i n) = false
        · rw [if_pos ⟨hd, hq⟩, Bool.or_eq_true, decide_eq_true_iff]
          exact or_congr Iff.rfl eq_comm
        · rw [if_neg (fun z => hq z.2), decide_eq_false (by omega), Bool.or_false]
          refine ⟨fun h => Or.inl h, fun h => h.elim id (fun e => ?_)⟩
          rw [← e]; cases z : tbt (bko d i n) (bk d i n) with | true => rfl | false => exact absurd z hq
      · intro b hb1 hb2 hb
        rw [wbk_bit _ _ _ (by omega)]
        split
        · rw [h3 b hb1 hb2 hb, decide_eq_false (show ¬ b = bk d i n from fun e => hb (by rw [e]; exact hd))]; rfl
        · rw [h3 b hb1 hb2 hb, decide_eq_false (by omega)]; rfl
    · rw [if_neg hd]
      refine ⟨?_, ?_, ?_⟩
      · rw [wbk_bit _ _ _ (by omega), if_neg (fun z => not_dat0 z.1), decide_eq_true rfl, Bool.or_true, gdB_s 0 d i (by omega)]
        exact ⟨fun h => (by cases h), fun h => absurd h.2.1 hd⟩
      · intro b hb
        rw [wbk_bit _ _ _ (by omega), if_neg (fun z => not_dat0 z.1), decide_eq_false (by omega), Bool.or_false, inB_s d i b (by omega), h2 b hb]
        exact ⟨fun h => Or.inl h, fun h => h.elim id (fun e => absurd (e ▸ hb) hd)⟩
      · intro b hb1 hb2 hb
        rw [wbk_bit _ _ _ (by omega), if_neg (fun z => not_dat0 z.1), decide_eq_false (by omega), Bool.or_false, h3 b hb1 hb2 hb]
/-- an inode has block b -/
def own (d : Im) (i b : Int) : Prop := inB d i (bc d i) b ∨ (5 < bc d i ∧ ind d i = b)
/-- an inode's blocks are different data blocks that s hasn't -/
def gdA (s : Int64) (d : Im) (i : Int) : Prop := gdB s d i (bc d i) ∧ (5 < bc d i → dat (ind d i) ∧ tbt s (ind d i) = false ∧ ¬ inB d i (bc d i) (ind d i))
theorem bks_bits (d : Im) (i : Int) (hi : inR i) (hn : bc d i ≤ 46) : (tbt (bks d i) 0 = false ↔ gdA 0 d i) ∧ (∀ b : Int, dat b → (tbt (bks d i) b = true ↔ own d i b)) ∧ (∀ b : Int, 0 < b → b < 64 → ¬ dat b → tbt (bks d i) b = false) := by
  have h0 := bc_rg d i
  obtain ⟨h1, h2, h3⟩ := bko_bits d i hi (bc d i).toNat (by omega)
  rw [Int.toNat_of_nonneg h0.1] at h1 h2
  have e : (min (bc d i) 46).toNat = (bc d i).toNat := by omega
  unfold bks gdA own
  rw [e]
  by_cases h5 : 5 < bc d i
  · rw [if_pos h5]
    refine ⟨?_, ?_, ?_⟩
    · rw [wbk_bit _ _ _ (by omega)]
      by_cases hq : dat (ind d i) ∧ tbt (bko d i (bc d i).toNat) (ind d i) = false
      · rw [if_pos hq, decide_eq_false (show ¬ (0 : Int) = ind d i from fun e => not_dat0 (by rw [e]; exact hq.1)), Bool.or_false, h1]
        exact ⟨fun h => ⟨h, fun _ => ⟨hq.1, tbt_0 _, fun z => by have w := hq.2; rw [(h2 _ hq.1).mpr z] at w; cases w⟩⟩, fun h => h.1⟩
      · rw [if_neg hq, decide_eq_true rfl, Bool.or_true]
        refine ⟨fun h => (by cases h), fun h => absurd ⟨(h.2 h5).1, ?_⟩ hq⟩
        cases z : tbt (bko d i (bc d i).toNat) (ind d i) with
        | false => rfl
        | true => exact absurd ((h2 _ (h.2 h5).1).mp z) (h.2 h5).2.2
    · intro b hb
      rw [wbk_bit _ _ _ (by omega), ← h2 b hb]
      by_cases hq : dat (ind d i) ∧ tbt (bko d i (bc d i).toNat) (ind d i) = false
      · rw [if_pos hq, Bool.or_eq_true, decide_eq_true_iff]
        exact or_congr Iff.rfl ⟨fun h => ⟨h5, h.symm⟩, fun h => h.2.symm⟩
      · rw [if_neg hq, decide_eq_false (by omega), Bool.or_false]
        refine ⟨fun h => Or.inl h, fun h => h.elim id (fun q => ?_)⟩
        cases z : tbt (bko d i (bc d i).toNat) b with
        | true => rfl
        | false => exact absurd ⟨q.2 ▸ hb, by rw [q.2]; exact z⟩ hq
    · intro b hb1 hb2 hb
      rw [wbk_bit _ _ _ (by omega)]
      split
      · next hq => rw [h3 b hb1 hb2 hb, decide_eq_false (show ¬ b = ind d i from fun e => hb (by rw [e]; exact hq.1))]; rfl
      · rw [h3 b hb1 hb2 hb, decide_eq_false (by omega)]; rfl
  · rw [if_neg h5]
    refine ⟨?_, ?_, h3⟩
    · rw [h1]; exact ⟨fun h => ⟨h, fun q => absurd q h5⟩, fun h => h.1⟩
    · intro b hb
      rw [h2 b hb]; exact ⟨fun h => Or.inl h, fun h => h.elim id (fun q => absurd q.1 h5)⟩
theorem gdB_w {s : Int64} {d : Im} {i n : Int} (h : gdB s d i n) : gdB 0 d i n := fun x h1 h2 => ⟨(h x h1 h2).1, tbt_0 _, (h x h1 h2).2.2⟩
theorem gdA_0 {s : Int64} {d : Im} {i : Int} : gdA s d i ↔ gdA 0 d i ∧ ∀ b, own d i b → tbt s b = false := by
  constructor
  · intro h
    refine ⟨⟨gdB_w h.1, fun q => ⟨(h.2 q).1, tbt_0 _, (h.2 q).2.2⟩⟩, ?_⟩
    rintro b (⟨x, h1, h2, rfl⟩ | ⟨h1, rfl⟩)
    · exact (h.1 x h1 h2).2.1
    · exact (h.2 h1).2.1
  · rintro ⟨h, q⟩
    exact ⟨fun x h1 h2 => ⟨(h.1 x h1 h2).1, q _ (Or.inl ⟨x, h1, h2, rfl⟩), (h.1 x h1 h2).2.2⟩, fun h5 => ⟨(h.2 h5).1, q _ (Or.inr ⟨h5, rfl⟩), (h.2 h5).2.2⟩⟩
theorem own_dat {s : Int64} {d : Im} {i b : Int} (h : gdA s d i) (ho : own d i b) : dat b := by
  rcases ho with ⟨x, h1, h2, rfl⟩ | ⟨h1, rfl⟩
  · exact (h.1 x h1 h2).1
  · exact (h.2 h1).1
theorem tkB_iff (tm : Int64) (d : Im) (i : Int) (hi : inR i) (hn : bc d i ≤ 46) : tkB tm d i = true ↔ gdA tm d i := by
  obtain ⟨h1, h2, h3⟩ := bks_bits d i hi hn
  unfold tkB
  rw [decide_eq_true_iff, tbt_z, gdA_0, ← h1]
  constructor
  · intro h
    have h0 := h 0 (by omega) (by omega)
    rw [tbt_and, tbt_or, tbt_one (by omega), decide_eq_true rfl, Bool.or_true, Bool.and_true] at h0
    refine ⟨h0, fun b hb => ?_⟩
    have hd := own_dat (h1.mp h0) hb
    have q := h b (by omega) (by omega)
    rw [tbt_and, tbt_or, (h2 b hd).mpr hb, Bool.true_and, Bool.or_eq_false_iff] at q
    exact q.1
  · rintro ⟨h0, h⟩ b hb1 hb2
    rw [tbt_and, tbt_or, tbt_one ⟨hb1, hb2⟩]
    by_cases hb : b = 0
    · subst hb; rw [h0]; rfl
    · rw [decide_eq_false hb, Bool.or_false]
      by_cases hd : dat b
      · cases z : tbt (bks d i) b with
        | false => rfl
        | true => rw [h b ((h2 b hd).mp z)]; rfl
      · rw [h3 b (by omega) hb2 hd]; rfl
theorem tkT_bit (tm : Int64) (d : Im) (i : Int) (hi : inR i) (hn : bc d i ≤ 46) (hg : gdA tm d i) {b : Int} (hb : 0 ≤ b ∧ b < 64) : tbt (tkT tm d i) b = true ↔ tbt tm b = true ∨ own d i b := by
  obtain ⟨h1, h2, h3⟩ := bks_bits d i hi hn
  have hk := (tkB_iff tm d i hi hn).mpr hg
  unfold tkB at hk
  rw [decide_eq_true_iff] at hk
  unfold tkT
  rw [if_pos hk, tbt_or, Bool.or_eq_true]
  refine or_congr Iff.rfl ?_
  by_cases hd : dat b
  · exact h2 b hd
  · have : tbt (bks d i) b = false := by
      by_cases h0 : b = 0
      · subst h0; exact h1.mpr (gdA_0.mp hg).1
      · exact h3 b (by omega) hb.2 hd
    rw [this]
    exact ⟨fun h => (by cases h), fun h => absurd (own_dat hg h) hd⟩
theorem erT_bit (tm : Int64) (d : Im) (i : Int) (hi : inR i) (hn : bc d i ≤ 46) (hg : gdA 0 d i) {b : Int} (hb : 0 ≤ b ∧ b < 64) : tbt (erT tm d i) b = true ↔ tbt tm b = true ∧ ¬ own d i b := by
  obtain ⟨h1, h2, h3⟩ := bks_bits d i hi hn
  unfold erT
  rw [tbt_and, tbt_not _ hb, Bool.and_eq_true]
  refine and_congr Iff.rfl ?_
  by_cases hd : dat b
  · rw [← h2 b hd]; cases tbt (bks d i) b <;> simp
  · have : tbt (bks d i) b = false := by
      by_cases h0 : b = 0
      · subst h0; exact h1.mpr hg
      · exact h3 b (by omega) hb.2 hd
    rw [this]
    exact ⟨fun _ h => hd (own_dat hg h), fun _ => rfl⟩
