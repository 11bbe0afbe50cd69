/-! THE START -/
def tmS : Nat → Term := fun i => match i with
  | 0 => .string "FsckDesk$Super" 11
  | 1 => .string "FsckDesk$Journal" 17
  | 2 => .string "FsckDesk$Directories" 68
  | 3 => .string "FsckDesk$Directories" 78
  | _ => .string "FsckDesk$Directories" 98
theorem nsL_in : ∀ q ∈ nsL, (Cond.methodLinkNest q.1 q.2.1 q.2.2 "FsckDesk") ∈ lw_tbl := by decide +kernel
set_option maxHeartbeats 4000000 in
set_option maxRecDepth 100000 in
theorem G_start {p : Program} {s : State} {m : MethodId} {meth : Method} {c : Code} {b L : Nat} {xs : Nat → Int32} (C0 : lw_At p s m meth c b L xs) : ∃ G : GX, va_K (gD G) vwCl (gT G) s ∧ SG G (fun q : Nat => s.heap.size ≤ q) s s.heap := by
  obtain ⟨hx, hb, hr, hml, hown, hts, hX, hbl, hlk, hgv⟩ := C0
  have hgf := flat_of_before _ hgv
  have inn : ∀ {C : String} {T : u_T} {N : Nat}, (∀ w ∈ u_ws C T N, w ∈ tb) → ∀ w ∈ u_ws C T N, w ∈ lw_tbl := fun h w hw => (List.mem_filter.mp (h w hw)).1
  obtain ⟨c0, i0, K0⟩ := u_known (C := RX0) (T := TX0) (N := 8) (n := 8) hts (inn inX0) (hts (.instantiable RX0 8) (by decide +kernel))
  obtain ⟨c1, i1, K1⟩ := u_known (C := RX1) (T := TX1) (N := 3) (n := 3) hts (inn inX1) (hts (.instantiable RX1 3) (by decide +kernel))
  obtain ⟨c2, i2, K2⟩ := u_known (C := RX2) (T := TX2) (N := 1) (n := 1) hts (inn inX2) (hts (.instantiable RX2 1) (by decide +kernel))
  obtain ⟨c3, i3, K3⟩ := u_known (C := RX3) (T := TX3) (N := 3) (n := 3) hts (inn inX3) (hts (.instantiable RX3 3) (by decide +kernel))
  obtain ⟨c4, i4, K4⟩ := u_known (C := RX4) (T := TX4) (N := 2) (n := 2) hts (inn inX4) (hts (.instantiable RX4 2) (by decide +kernel))
  obtain ⟨c5, i5, K5⟩ := u_known (C := RX6) (T := TX6) (N := 2) (n := 2) hts (inn inX6) (hts (.instantiable RX6 2) (by decide +kernel))
  obtain ⟨c6, i6, K6⟩ := u_known (C := RX7) (T := TX7) (N := 6) (n := 6) hts (inn inX7) (hts (.instantiable RX7 6) (by decide +kernel))
  obtain ⟨c7, i7, K7⟩ := u_known (C := RX9) (T := TX9) (N := 3) (n := 3) hts (inn inX9) (hts (.instantiable RX9 3) (by decide +kernel))
  obtain ⟨c8, i8, K8⟩ := u_known (C := RX10) (T := TX10) (N := 6) (n := 6) hts (inn inX10) (hts (.instantiable RX10 6) (by decide +kernel))
  obtain ⟨c9, i9, K9⟩ := u_known (C := RX11) (T := TX11) (N := 9) (n := 9) hts (inn inX11) (hts (.instantiable RX11 9) (by decide +kernel))
  obtain ⟨cI, kI, cpI, hI1, hI2, hI3⟩ := Cond.arrayClass_spec (hts (.arrayClass .int) (by decide +kernel))
  obtain ⟨cZ, kZ, cpZ, hZ1, hZ2, hZ3⟩ := Cond.arrayClass_spec (hts (.arrayClass .boolean) (by decide +kernel))
  have hA : ∀ a : Nat, a < s.heap.size → ¬ (fun q : Nat => s.heap.size ≤ q) a := fun a h z => by have z2 : s.heap.size ≤ a := z; omega
  obtain ⟨adK, adV, hS5, had⟩ := vk_Sof (args := #[Value.ref b]) (s := s) (N := 5) (tm := tmS) (len := stL) (byt := stB) (A := fun q : Nat => s.heap.size ≤ q) (by decide)
    (fun i hi => by rcases (show i = 0 ∨ i = 1 ∨ i = 2 ∨ i = 3 ∨ i = 4 by omega) with rfl | rfl | rfl | rfl | rfl <;> exact hgf _ (by decide +kernel))
    (fun i hi => by rcases (show i = 0 ∨ i = 1 ∨ i = 2 ∨ i = 3 ∨ i = 4 by omega) with rfl | rfl | rfl | rfl | rfl <;> exact hgf _ (by decide +kernel))
    (fun i hi => by rcases (show i = 0 ∨ i = 1 ∨ i = 2 ∨ i = 3 ∨ i = 4 by omega) with rfl | rfl | rfl | rfl | rfl <;> exact hgf _ (by decide +kernel))
    (fun i hi => by rcases (show i = 0 ∨ i = 1 ∨ i = 2 ∨ i = 3 ∨ i = 4 by omega) with rfl | rfl | rfl | rfl | rfl <;> exact hgf _ (by decide +kernel))
    (fun i hi j hj => by
      rcases (show i = 0 ∨ i = 1 ∨ i = 2 ∨ i = 3 ∨ i = 4 by omega) with rfl | rfl | rfl | rfl | rfl
      · have h : j < 4 := hj
        rcases (show j = 0 ∨ j = 1 ∨ j = 2 ∨ j = 3 by omega) with rfl | rfl | rfl | rfl <;> exact hgf _ (by decide +kernel)
      · have h : j < 4 := hj
        rcases (show j = 0 ∨ j = 1 ∨ j = 2 ∨ j = 3 by omega) with rfl | rfl | rfl | rfl <;> exact hgf _ (by decide +kernel)
      · have h : j < 1 := hj
        rcases (show j = 0 by omega) with rfl; exact hgf _ (by decide +kernel)
      · have h : j < 2 := hj
        rcases (show j = 0 ∨ j = 1 by omega) with rfl | rfl <;> exact hgf _ (by decide +kernel)
      · have h : j < 10 := hj
        rcases (show j = 0 ∨ j = 1 ∨ j = 2 ∨ j = 3 ∨ j = 4 ∨ j = 5 ∨ j = 6 ∨ j = 7 ∨ j = 8 ∨ j = 9 by omega) with rfl | rfl | rfl | rfl | rfl | rfl | rfl | rfl | rfl | rfl <;> exact hgf _ (by decide +kernel))
    (fun i j hi hj hij => by
      rcases (show i = 0 ∨ i = 1 ∨ i = 2 ∨ i = 3 ∨ i = 4 by omega) with rfl | rfl | rfl | rfl | rfl <;> rcases (show j = 0 ∨ j = 1 ∨ j = 2 ∨ j = 3 ∨ j = 4 by omega) with rfl | rfl | rfl | rfl | rfl <;> first | exact absurd rfl hij | exact Or.inl (hgf _ (by decide +kernel)) | exact Or.inr (hgf _ (by decide +kernel)))
    hA
  refine ⟨((fun k => [c0, c1, c2, c3, c4, c5, c6, c7, c8, c9].getD k c0, fun k => [i0, i1, i2, i3, i4, i5, i6, i7, i8, i9].getD k i0), (cI, cZ), adK, adV), ⟨fun k q hq => ?_, fun k q hq => ?_⟩, hS5, ?_, ?_, ?_, ?_, ?_, ?_, ?_, ?_, ?_⟩
  · match k, hq with
    | 0, hq => cases hq; exact K0
    | 1, hq => cases hq; exact K1
    | 2, hq => cases hq; exact K2
    | 3, hq => cases hq; exact K3
    | 4, hq => cases hq; exact K4
    | 5, hq => cases hq; exact K5
    | 6, hq => cases hq; exact K6
    | 7, hq => cases hq; exact K7
    | 8, hq => cases hq; exact K8
    | 9, hq => cases hq; exact K9
    | k + 10, hq => simp at hq
  · match k, hq with
    | 0, hq => cases hq; exact ⟨fun n z => ⟨fun k h => (by cases h), kI, hI2, cpI, hI3⟩, hI1⟩
    | 1, hq => cases hq; exact ⟨fun n z => ⟨fun k h => (by cases h), kZ, hZ2, cpZ, hZ3⟩, hZ1⟩
    | k + 2, hq => simp at hq
  · exact va_Zof (hts (.laysStatic "java/lang/String" "COMPACT_STRINGS" "Z") (by decide +kernel)) (hts (.initialized "java/lang/String") (by decide +kernel)) (va_eqi (hgf _ (by decide +kernel))) hA
  · exact va_Zqof (hts (.laysStatic "jdk/internal/util/Preconditions" "SIOOBE_FORMATTER" "Ljava/util/function/BiFunction;") (by decide +kernel)) (hts (.initialized "jdk/internal/util/Preconditions") (by decide +kernel)) (hgf _ (by decide +kernel)) hA
  · exact vk_R.of (hts (.stringRef "FsckDesk$Super" 11 "SFSK") (by decide +kernel)) (had 0 (by omega))
  · exact vk_R.of (hts (.stringRef "FsckDesk$Journal" 17 "JRNL") (by decide +kernel)) (had 1 (by omega))
  · exact vk_R.of (hts (.stringRef "FsckDesk$Directories" 68 ".") (by decide +kernel)) (had 2 (by omega))
  · exact vk_R.of (hts (.stringRef "FsckDesk$Directories" 78 "..") (by decide +kernel)) (had 3 (by omega))
  · exact vk_R.of (hts (.stringRef "FsckDesk$Directories" 98 "lost+found") (by decide +kernel)) (had 4 (by omega))
  · exact vk_R.of (hts (.stringRef "FsckDeskModel" 82 "lost+found") (by decide +kernel)) (va_eqR (t := .string "FsckDesk$Directories" 98) (hgf _ (by decide +kernel)) (had 4 (by omega)))
  · exact fun q hq => va_Nw.of rfl (hts _ (nsL_in q hq))
