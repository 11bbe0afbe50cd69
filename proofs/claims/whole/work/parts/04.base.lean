/-! THE BASE: ints as numbers (iI), the judgement Wd (world, locals and frame in one), contracts Ct -/
def iI (z : Int) : Int32 := Int32.ofInt z
def R32 (z : Int) : Prop := -2147483648 ≤ z ∧ z < 2147483648
theorem iI_add (a b : Int) : iI a + iI b = iI (a + b) := (Int32.ofInt_add a b).symm
theorem iI_sub (a b : Int) : iI a - iI b = iI (a - b) := (Int32.ofInt_sub a b).symm
theorem iI_mul (a b : Int) : iI a * iI b = iI (a * b) := (Int32.ofInt_mul a b).symm
theorem iI_neg (a : Int) : -iI a = iI (-a) := (Int32.ofInt_neg a).symm
theorem iI_toInt {z : Int} (h : R32 z) : (iI z).toInt = z := Int32.toInt_ofInt_of_le (by have := h.1; omega) (by have := h.2; omega)
theorem iI_of (x : Int32) : iI x.toInt = x := Int32.ofInt_toInt x
theorem iI_rg (x : Int32) : R32 x.toInt := ⟨by have := x.le_toInt; omega, by have := x.toInt_lt; omega⟩
theorem iI_lt {a b : Int} (ha : R32 a) (hb : R32 b) : iI a < iI b ↔ a < b := by
  rw [Int32.lt_iff_toInt_lt, iI_toInt ha, iI_toInt hb]
theorem iI_le {a b : Int} (ha : R32 a) (hb : R32 b) : iI a ≤ iI b ↔ a ≤ b := by
  rw [Int32.le_iff_toInt_le, iI_toInt ha, iI_toInt hb]
theorem iI_eq {a b : Int} (ha : R32 a) (hb : R32 b) : iI a = iI b ↔ a = b := by
  rw [← Int32.toInt_inj, iI_toInt ha, iI_toInt hb]
theorem iI_z : (0 : Int32) = iI 0 := rfl
theorem R32_0 : R32 0 := ⟨by decide, by decide⟩
theorem iI_clamp {z : Int} (h0 : 0 ≤ z) (h : R32 z) : (iI z).toNatClampNeg = z.toNat := by
  unfold Int32.toNatClampNeg; rw [iI_toInt h]
theorem iI_nat (n : Nat) : Int32.ofNat n = iI (n : Int) := by
  unfold iI; rfl
theorem iI_in {z : Int} {n : Nat} (h0 : 0 ≤ z) (h1 : z < n) (h : R32 z) : vp_in (iI z) n := by
  intro q
  rcases q with q | q
  · rw [iI_z, iI_lt h R32_0] at q; omega
  · rw [iI_clamp h0 h] at q; omega
/-- a truth as a number -/
def bI (b : Bool) : Int := if b then 1 else 0
/-- an image: a byte for each place; an array of ints that holds it -/
abbrev Im : Type := { f : Int → Int // ∀ j, 0 ≤ f j ∧ f j < 256 }
def arI (d : Im) : Nat → Int32 := fun j => iI (d.1 j)
def up (d : Im) (a v : Int) : Im := ⟨fun j => if j = a then v % 256 else d.1 j, fun j => by
  by_cases h : j = a
  · simp only [h, if_true]; omega
  · simp only [h, if_false]; exact d.2 j⟩
theorem up_at (d : Im) (a v j : Int) : (up d a v).1 j = if j = a then v % 256 else d.1 j := rfl
theorem arI_at (d : Im) {z : Int} (h0 : 0 ≤ z) (h : R32 z) : arI d (iI z).toNatClampNeg = iI (d.1 z) := by
  rw [iI_clamp h0 h]; simp only [arI]; rw [Int.toNat_of_nonneg h0]
theorem arI_set (d : Im) {z v : Int} (hv : 0 ≤ v ∧ v < 256) (h0 : 0 ≤ z) (h : R32 z) : upd (arI d) (iI z).toNatClampNeg (iI v) = arI (up d z v) := by
  rw [iI_clamp h0 h]
  funext j
  simp only [upd, arI, up]
  by_cases hj : j = z.toNat
  · rw [if_pos hj, if_pos (by omega), Int.emod_eq_of_lt hv.1 hv.2]
  · rw [if_neg hj, if_neg (by omega)]
/-- what is fixed: the tables' numbers, the classes of int[] and boolean[], the places of the literals and of their bytes -/
abbrev GX : Type := va_G × (ClassId × ClassId) × (Nat → Nat) × (Nat → Nat)
abbrev gD (G : GX) : va_G := G.1
abbrev gI (G : GX) : ClassId := G.2.1.1
abbrev gZ (G : GX) : ClassId := G.2.1.2
abbrev gK (G : GX) : Nat → Nat := G.2.2.1
abbrev gV (G : GX) : Nat → Nat := G.2.2.2
abbrev gT (G : GX) : List (ClassId × FieldType) := [(gI G, .int), (gZ G, .boolean)]
def stL : List Nat := [4, 4, 1, 2, 10]
def stB : List (List Int32) := [[83, 70, 83, 75], [74, 82, 78, 76], [46], [46, 46], [108, 111, 115, 116, 43, 102, 111, 117, 110, 100]]
/-- private members of nest mates -/
def nsL : List (String × Nat × MethodName) := [("FsckDesk", 54, yX6_init), ("FsckDesk", 9, yX2_init), ("FsckDesk$Connector", 25, yX6_init), ("FsckDesk$Directories", 21, yX6_init), ("FsckDesk$Inodes", 48, yX10_isDataBlock), ("FsckDesk$Repairer", 114, yX10_isDataBlock)]
/-- the constants of texts, where they lie; two statics of the JDK -/
def SG (G : GX) (A : Nat → Prop) (U : State) (H : Heap) : Prop :=
  vk_S 5 stL stB (gK G) (gV G) A U H ∧ va_Z "java/lang/String" "COMPACT_STRINGS" "Z" (.int 1) A U H ∧ va_Zq "jdk/internal/util/Preconditions" "SIOOBE_FORMATTER" "Ljava/util/function/BiFunction;" A U H ∧ vk_R "FsckDesk$Super" 11 "SFSK" (gK G 0) U ∧ vk_R "FsckDesk$Journal" 17 "JRNL" (gK G 1) U ∧ vk_R "FsckDesk$Directories" 68 "." (gK G 2) U ∧ vk_R "FsckDesk$Directories" 78 ".." (gK G 3) U ∧ vk_R "FsckDesk$Directories" 98 "lost+found" (gK G 4) U ∧ vk_R "FsckDeskModel" 82 "lost+found" (gK G 4) U ∧ ∀ q ∈ nsL, va_Nw (.methodLinkNest q.1 q.2.1 q.2.2 "FsckDesk") U
theorem SG.same {G : GX} {A : Nat → Prop} {u U : State} {H : Heap} (hv : U.vm = u.vm) (h : SG G A u H) : SG G A U H := by
  have ha : u.vm.Alike U.vm := by rw [hv]; exact Vm.Alike.refl _
  obtain ⟨h1, h2, h3, r1, r2, r3, r4, r5, r6, r7⟩ := h
  exact ⟨h1.moved ha, h2.moved ha, h3.moved ha, r1.same hv, r2.same hv, r3.same hv, r4.same hv, r5.same hv, r6.same hv, fun q hq => (r7 q hq).same rfl hv.symm⟩
theorem SG.warm {G : GX} {A : Nat → Prop} {u U : State} {H : Heap} (hW : u.WarmedH U.vm) (h : SG G A u H) : SG G A U H := by
  obtain ⟨h1, h2, h3, r1, r2, r3, r4, r5, r6, r7⟩ := h
  exact ⟨h1.moved hW.alike, h2.moved hW.alike, h3.moved hW.alike, r1.warm hW, r2.warm hW, r3.warm hW, r4.warm hW, r5.warm hW, r6.warm hW, fun q hq => (r7 q hq).warmM hW⟩
theorem SG.kept {G : GX} {A : Nat → Prop} {U : State} {H H1 : Heap} (h : SG G A U H) (hq : ∀ a : Nat, a < H.size → ¬ A a → H1[a]? = H[a]?) : SG G A U H1 := by
  obtain ⟨h1, h2, h3, r⟩ := h
  exact ⟨h1.kept hq, h2.kept hq, h3.kept hq, r⟩
theorem SG.narrow {G : GX} {A B : Nat → Prop} {U : State} {H : Heap} (h : SG G A U H) (hAB : ∀ q, B q → A q) : SG G B U H := by
  obtain ⟨h1, h2, h3, r⟩ := h
  exact ⟨h1.narrow hAB, h2.narrow hAB, h3.narrow hAB, r⟩
/-- the words that stay true in every callee -/
def tb : List Cond := lw_tbl.filter goodWord
theorem tb_good : GoodIn tb tb := fun w h => ⟨h, good_of_word (List.mem_filter.mp h).2⟩
theorem tb_in {w : Cond} (i : Nat) (h : lw_tbl[i]? = some w) (hg : goodWord w = true) : w ∈ tb := List.mem_filter.mpr ⟨List.mem_of_getElem? h, hg⟩
/-- one run of a method: program, launch, environment, room, start; method, arguments, what is below, its record, its code; the cells that it may change, what it must come to -/
abbrev KX : Type := (Program × Launch × Env × Room × State) × (MethodId × Array Value × List Frame × Method × Code) × (Nat → Prop) × (State → Prop)
abbrev kl (k : KX) : Launch := k.1.2.1
abbrev kR (k : KX) : Room := k.1.2.2.2.1
abbrev ks (k : KX) : State := k.1.2.2.2.2
abbrev km (k : KX) : MethodId := k.2.1.1
abbrev ka (k : KX) : Array Value := k.2.1.2.1
abbrev kc (k : KX) : Code := k.2.1.2.2.2.2
abbrev kA (k : KX) : Nat → Prop := k.2.2.1
abbrev kW (k : KX) (H : Heap) (locs : List Loc) (ce sl : Nat) (g : JFrame) : Prop := W k.1.1 k.1.2.1 k.1.2.2.1 k.1.2.2.2.1 k.1.2.2.2.2 k.2.1.1 k.2.1.2.1 k.2.1.2.2.1 k.2.1.2.2.2.1 k.2.1.2.2.2.2 H locs ce sl k.2.2.2 g
/-- the machine comes to its end from here, whatever heap and locals hold the listed world and locals -/
def Wd (G : GX) (k : KX) (nL ce sl : Nat) (ws : va_W) (pc : Nat) (lv : List (Nat × Value)) (st : List Value) : Prop :=
  ∀ (H : Heap) (locs : List Loc) (ls : Array Slot), va_P (gD G) vwCl ws H → va_D (kA k) ws → va_S (kA k) (ks k).heap H locs → lv_has ls nL lv → kW k H locs ce sl (F0 (km k) pc ls st)
/-- what is known of a run throughout -/
def Cx (G : GX) (k : KX) (cc : ByteArray) (own : String) (nL : Nat) (R : Room) : Prop :=
  k.1.1.tables.exec = Jvm.exec ∧ (kc k).code = cc ∧ (kc k).maxLocals = nL ∧ (ks k).vm.findClass own = some (km k).cls ∧ (∀ w ∈ tb, w.before (ka k) (ks k) = true) ∧ va_K (gD G) vwCl (gT G) (ks k) ∧ (∀ q : Nat, (ks k).heap.size ≤ q → kA k q) ∧ SG G (kA k) (ks k) (ks k).heap ∧ kR k = R
/-- a method's contract: from a world ws, with these arguments, it returns v and leaves the world ws', as post says; nothing else changes -/
def CtQ (G : GX) (ws : va_W) (sz : Nat) (post : Option Value → va_W → Prop) : Array Value → State → Outcome → State → Prop := fun _ st oc t => (∃ (v : Option Value) (ws' : va_W), oc = .returned v ∧ post v ws' ∧ va_P (gD G) vwCl ws' t.heap ∧ va_D (va_A ws sz) ws') ∧ va_F (va_A ws sz) st t
def CtP (G : GX) (ws : va_W) (sz : Nat) (args : List Value) : Array Value → State → Prop := va_Pc args (fun U => U.heap.size = sz ∧ va_P (gD G) vwCl ws U.heap ∧ va_K (gD G) vwCl (gT G) U ∧ va_D (fun _ => True) ws ∧ SG G (va_A ws sz) U U.heap)
def CtG (G : GX) (l : Launch) (y : MethodName) (cc : ByteArray) (mL : Nat) (ret : Option FieldType) (rm : Room) (args : List Value) (ws : va_W) (post : Option Value → va_W → Prop) : Prop :=
  ∀ sz : Nat, Met l y (.code y cc mL ret :: tb) rm (CtP G ws sz args) (CtQ G ws sz post) rm.cells rm.slots (va_A ws sz)
/-- a contract whose answer and world are told -/
abbrev Ct (G : GX) (l : Launch) (y : MethodName) (cc : ByteArray) (mL : Nat) (ret : Option FieldType) (rm : Room) (args : List Value) (ws : va_W) (v0 : Option Value) (w0 : va_W) : Prop := CtG G l y cc mL ret rm args ws (fun v w => v = v0 ∧ w = w0)
/-- a return instruction, and what lies on the stack at it -/
def RetI (cc : ByteArray) (ret : Option FieldType) (pc : Nat) (v : Option Value) (st : List Value) : Prop :=
  (∃ (x : Int32) (ty : FieldType), ret = some ty ∧ narrow ty (.int x) = .int x ∧ v = some (.int x) ∧ st = [.int x] ∧ decode cc pc = .ok (.ireturn, 1)) ∨ (ret = none ∧ v = none ∧ st = [] ∧ decode cc pc = .ok (.return_, 1)) ∨ (∃ x : Int64, ret = some .long ∧ v = some (.long x) ∧ st = [.long x] ∧ decode cc pc = .ok (.lreturn, 1))
def RetP (G : GX) (k : KX) (nL : Nat) (cc : ByteArray) (ret : Option FieldType) (rm : Room) (post : Option Value → va_W → Prop) : Prop :=
  ∀ (v : Option Value) (ws' : va_W) (pc : Nat) (lv : List (Nat × Value)) (st : List Value), post v ws' → RetI cc ret pc v st → Wd G k nL rm.cells rm.slots ws' pc lv st
theorem Ct.of {G : GX} {l : Launch} {y : MethodName} {cc : ByteArray} {mL : Nat} {ret : Option FieldType} {rm : Room} {args : List Value} {ws : va_W} {post : Option Value → va_W → Prop} (hy : plainName y.cls = true) (hlen : (lg_sl args).length ≤ mL)
    (body : ∀ k : KX, Cx G k cc y.cls mL rm → kl k = l → RetP G k mL cc ret rm post → Wd G k mL 0 0 ws 0 (lv_args 0 args) []) : CtG G l y cc mL ret rm args ws post := by
  intro sz
  refine Met.ofW (cc := cc) (maxL := mL) (ret := ret) hy rfl ?_
  intro p e s m args' below meth c s₁ B hml hv
  obtain ⟨rfl, hsz, hP, hK, hD0, hSG⟩ := hv
  subst hsz
  have hlocks := B.notSynchronized
  have hts := atoms_spec (ws := Cond.code y cc mL ret :: tb) B.pre
  rw [lg_entry_eq]
  refine body ((p, l, e, rm, s), (m, args.toArray, below, meth, c), va_A ws s.heap.size, MQ below (CtQ G ws s.heap.size post) args.toArray s rm.cells rm.slots (va_A ws s.heap.size)) ⟨B.exec, B.bytes, hml, findClass_of_methodNamed B.named, fun w hw => hts w (List.mem_cons_of_mem _ hw), hK, fun q h => Or.inr h, hSG, rfl⟩ rfl ?_ s.heap [] _ hP (hD0.self (sz := s.heap.size)) va_S.rf (lv_entry args hlen)
  intro v ws' pc lv st hpost hret H locs ls hP hD hS hl
  rcases hret with ⟨x, ty, hr, hn, rfl, rfl, hdg⟩ | ⟨hr, rfl, rfl, hdg⟩ | ⟨x, hr, rfl, rfl, hdg⟩
  · exact W.zret (Qc := CtQ G ws s.heap.size post) (free := va_A ws s.heap.size) (ty := ty) B.exec B.bytes (B.returns.trans hr) hn (fun t ht hW => ⟨⟨_, ws', rfl, hpost, by rw [ht]; exact hP, hD⟩, hS.F ht⟩) hS.2.2 hdg
  · exact W.vret (Qc := CtQ G ws s.heap.size post) (free := va_A ws s.heap.size) B.exec B.bytes (B.returns.trans hr) (fun t ht hW => ⟨⟨_, ws', rfl, hpost, by rw [ht]; exact hP, hD⟩, hS.F ht⟩) hS.2.2 hdg
  · exact W.lret (Qc := CtQ G ws s.heap.size post) (free := va_A ws s.heap.size) B.exec B.bytes (B.returns.trans hr) (fun t ht hW => ⟨⟨_, ws', rfl, hpost, by rw [ht]; exact hP, hD⟩, hS.F ht⟩) hS.2.2 hdg
/-- cells put at places of a world -/
def pA : va_W → List Nat → va_W → va_W
  | wc, i :: is, c :: w0 => pA (wc.set i c) is w0
  | wc, _, _ => wc
theorem pA_get : ∀ (is : List Nat) (wc w0 : va_W) (j : Nat) (q : Nat × va_E), is.length = w0.length → (pA wc is w0)[j]? = some q → q ∈ w0 ∨ (j ∉ is ∧ wc[j]? = some q)
  | [], wc, w0, j, q, hl, h => by
    cases w0 with
    | nil => exact Or.inr ⟨List.not_mem_nil, h⟩
    | cons c w0 => cases hl
  | i :: is, wc, w0, j, q, hl, h => by
    cases w0 with
    | nil => cases hl
    | cons c w0 =>
      rcases pA_get is (wc.set i c) w0 j q (Nat.succ.inj hl) h with h1 | ⟨h1, h2⟩
      · exact Or.inl (List.mem_cons_of_mem _ h1)
      · by_cases hij : i = j
        · subst hij
          by_cases hlt : i < wc.length
          · rw [List.getElem?_set_self hlt] at h2
            cases h2
            exact Or.inl List.mem_cons_self
          · rw [List.getElem?_eq_none (by rw [List.length_set]; omega)] at h2
            cases h2
        · rw [List.getElem?_set_ne hij] at h2
          exact Or.inr ⟨fun z => (List.mem_cons.mp z).elim (fun e => hij e.symm) h1, h2⟩
theorem va_D.addr {A : Nat → Prop} {w w' : va_W} (h : va_D A w) (he : w'.map (fun q => q.1) = w.map (fun q => q.1)) : va_D A w' := by
  have key : ∀ (i : Nat) (q : Nat × va_E), w'[i]? = some q → ∃ q0, w[i]? = some q0 ∧ q0.1 = q.1 := by
    intro i q hq
    have h1 : (w'.map (fun q => q.1))[i]? = some q.1 := by rw [List.getElem?_map, hq]; rfl
    rw [he, List.getElem?_map] at h1
    cases hw : w[i]? with
    | none => rw [hw] at h1; cases h1
    | some q0 => rw [hw] at h1; exact ⟨q0, rfl, Option.some.inj h1⟩
  refine ⟨fun i j p q hi hj hpq => ?_, fun i q hq => ?_⟩
  · obtain ⟨p0, h1, h2⟩ := key i p hi
    obtain ⟨q0, h3, h4⟩ := key j q hj
    exact h.1 i j p0 q0 h1 h3 (h2.trans (hpq.trans h4.symm))
  · obtain ⟨q0, h1, h2⟩ := key i q hq
    rw [← h2]
    exact h.2 i q0 h1
