/-! CONSTRUCTORS -/
abbrev rmX2_init : Room := { frames := 1, cells := 1, slots := 4096, locals := 20 }
set_option maxHeartbeats 4000000 in
set_option maxRecDepth 100000 in
theorem ct_X2_init (G : GX) (l : Launch) (h : Nat) : CtI (E := Nat) G l yX2_init cX2_init 1 rmX2_init [.ref h] [(h, .inr (2, [.null]))] (fun e_ => [(h, .inr (2, [.ref e_]))]) (fun e_ => [(e_, .inl (gI G, 4096, .inl (arI zIm)))]) := by
  refine Ct.ofI (by decide) (Nat.le_of_ble_eq_true rfl) ?_
  intro k C hl hm hret
  subst hl
  replace hm : k.2.1.2.2.2.1.name = "<init>" := hm
  refine w_lv (lv2 := [(0, .ref h)]) [0] rfl ?_
  refine w_aload_n C 0 dX2_init_0 rfl ?_
  refine w_objI C 98 91 92 (by decide +kernel) (by decide +kernel) (by decide +kernel) dX2_init_1 (by decide) (by decide) ?_
  refine w_aload_n C 0 dX2_init_4 rfl ?_
  refine w_sipush C dX2_init_5 (by decide) ?_
  refine w_newI C 4096 103 dX2_init_8 (by decide +kernel) (by decide) (by decide) (by decide) (Nat.le_of_ble_eq_true rfl) (Nat.le_of_ble_eq_true rfl) (fun q_8 => ?_)
  show Wd G k 1 1 4096 [(h, .inr (2, [.null])), (q_8, .inl (gI G, 4096, .inl (arI zIm)))] 10 [(0, .ref h)] [.ref q_8, .ref h]
  refine w_putI (ty := (.array .int)) (ws2 := [(h, .inr (2, [.ref q_8])), (q_8, .inl (gI G, 4096, .inl (arI zIm)))]) C hm 0 0 99 dX2_init_10 rfl rfl inX2 tyX2_ok nmX2 (by decide) (by decide +kernel) rfl rfl (by decide +kernel) rfl rfl (Nat.le_of_ble_eq_true rfl) rfl ?_
  exact w_retv hret dX2_init_13 rfl rfl rfl ⟨q_8, rfl, rfl⟩

abbrev rmX4_init : Room := { frames := 1, cells := 0, slots := 0, locals := 20 }
set_option maxHeartbeats 4000000 in
set_option maxRecDepth 100000 in
theorem ct_X4_init (G : GX) (l : Launch) (h p1 : Nat) : CtI (E := Unit) G l yX4_init cX4_init 2 rmX4_init [.ref h, .ref p1] [(h, .inr (4, [.null, .long 0]))] (fun e_ => [(h, .inr (4, [.ref p1, .long 0]))]) (fun e_ => []) := by
  refine Ct.ofI (by decide) (Nat.le_of_ble_eq_true rfl) ?_
  intro k C hl hm hret
  subst hl
  replace hm : k.2.1.2.2.2.1.name = "<init>" := hm
  refine w_lv (lv2 := [(0, .ref h), (1, .ref p1)]) [0, 1] rfl ?_
  refine w_aload_n C 0 dX4_init_0 rfl ?_
  refine w_objI C 109 91 92 (by decide +kernel) (by decide +kernel) (by decide +kernel) dX4_init_1 (by decide) (by decide) ?_
  refine w_aload_n C 0 dX4_init_4 rfl ?_
  refine w_aload_n C 1 dX4_init_5 rfl ?_
  refine w_putI (ty := (.object "FsckDesk$Image")) (ws2 := [(h, .inr (4, [.ref p1, .long 0]))]) C hm 0 0 110 dX4_init_6 rfl rfl inX4 tyX4_ok nmX4 (by decide) (by decide +kernel) rfl rfl (by decide +kernel) rfl rfl (Nat.le_of_ble_eq_true rfl) rfl ?_
  exact w_retv hret dX4_init_9 rfl rfl rfl ⟨(), rfl, rfl⟩

abbrev rmX6_init : Room := { frames := 1, cells := 1, slots := 14, locals := 20 }
set_option maxHeartbeats 4000000 in
set_option maxRecDepth 100000 in
theorem ct_X6_init (G : GX) (l : Launch) (h : Nat) : CtI (E := Nat) G l yX6_init cX6_init 1 rmX6_init [.ref h] [(h, .inr (5, [.null, .int (iI 0)]))] (fun e_ => [(h, .inr (5, [.ref e_, .int (iI 0)]))]) (fun e_ => [(e_, .inl (gI G, 14, .inl (arI zIm)))]) := by
  refine Ct.ofI (by decide) (Nat.le_of_ble_eq_true rfl) ?_
  intro k C hl hm hret
  subst hl
  replace hm : k.2.1.2.2.2.1.name = "<init>" := hm
  refine w_lv (lv2 := [(0, .ref h)]) [0] rfl ?_
  refine w_aload_n C 0 dX6_init_0 rfl ?_
  refine w_objI C 128 91 92 (by decide +kernel) (by decide +kernel) (by decide +kernel) dX6_init_1 (by decide) (by decide) ?_
  refine w_aload_n C 0 dX6_init_4 rfl ?_
  refine w_bipush C dX6_init_5 (by decide) ?_
  refine w_newI C 14 103 dX6_init_7 (by decide +kernel) (by decide) (by decide) (by decide) (Nat.le_of_ble_eq_true rfl) (Nat.le_of_ble_eq_true rfl) (fun q_7 => ?_)
  show Wd G k 1 1 14 [(h, .inr (5, [.null, .int (iI 0)])), (q_7, .inl (gI G, 14, .inl (arI zIm)))] 9 [(0, .ref h)] [.ref q_7, .ref h]
  refine w_putI (ty := (.array .int)) (ws2 := [(h, .inr (5, [.ref q_7, .int (iI 0)])), (q_7, .inl (gI G, 14, .inl (arI zIm)))]) C hm 0 0 129 dX6_init_9 rfl rfl inX6 tyX6_ok nmX6 (by decide) (by decide +kernel) rfl rfl (by decide +kernel) rfl rfl (Nat.le_of_ble_eq_true rfl) rfl ?_
  exact w_retv hret dX6_init_12 rfl rfl rfl ⟨q_7, rfl, rfl⟩

theorem gX1_21 : cwin RX1 21 yX6_init cX6_init 1 0 3 126 69 127 := by decide +kernel
abbrev rmX1_init : Room := { frames := 2, cells := 2, slots := 16, locals := 40 }
set_option maxHeartbeats 4000000 in
set_option maxRecDepth 100000 in
theorem ct_X1_init (G : GX) (l : Launch) (h p1 p2 : Nat) : CtI (E := Nat × Nat) G l yX1_init cX1_init 3 rmX1_init [.ref h, .ref p1, .ref p2] [(h, .inr (1, [.null, .null, .null]))] (fun e_ => [(h, .inr (1, [.ref p1, .ref p2, .ref e_.1]))]) (fun e_ => [(e_.1, .inr (5, [.ref e_.2, .int (iI 0)])), (e_.2, .inl (gI G, 14, .inl (arI zIm)))]) := by
  refine Ct.ofI (by decide) (Nat.le_of_ble_eq_true rfl) ?_
  intro k C hl hm hret
  subst hl
  replace hm : k.2.1.2.2.2.1.name = "<init>" := hm
  refine w_lv (lv2 := [(0, .ref h), (1, .ref p1), (2, .ref p2)]) [0, 1, 2] rfl ?_
  refine w_aload_n C 0 dX1_init_0 rfl ?_
  refine w_objI C 122 91 92 (by decide +kernel) (by decide +kernel) (by decide +kernel) dX1_init_1 (by decide) (by decide) ?_
  refine w_aload_n C 0 dX1_init_4 rfl ?_
  refine w_aload_n C 1 dX1_init_5 rfl ?_
  refine w_putI (ty := (.object "FsckDesk$Image")) (ws2 := [(h, .inr (1, [.ref p1, .null, .null]))]) C hm 0 0 136 dX1_init_6 rfl rfl inX1 tyX1_ok nmX1 (by decide) (by decide +kernel) rfl rfl (by decide +kernel) rfl rfl (Nat.le_of_ble_eq_true rfl) rfl ?_
  refine w_aload_n C 0 dX1_init_9 rfl ?_
  refine w_aload_n C 2 dX1_init_10 rfl ?_
  refine w_putI (ty := (.object "FsckDesk$Inodes")) (ws2 := [(h, .inr (1, [.ref p1, .ref p2, .null]))]) C hm 0 1 137 dX1_init_11 rfl rfl inX1 tyX1_ok nmX1 (by decide) (by decide +kernel) rfl rfl (by decide +kernel) rfl rfl (Nat.le_of_ble_eq_true rfl) rfl ?_
  refine w_aload_n C 0 dX1_init_14 rfl ?_
  refine w_newO (ci := 5) (fs := [.null, .int (iI 0)]) C 123 124 69 dX1_init_15 rfl inX6 tyX6_ok (by decide +kernel) (by decide +kernel) (by decide +kernel) (fun j hj => by rcases (show j = 0 ∨ j = 1 by omega) with rfl | rfl <;> rfl) (Nat.le_of_ble_eq_true rfl) (Nat.le_of_ble_eq_true rfl) (fun q_15 => ?_)
  show Wd G k 3 1 2 [(h, .inr (1, [.ref p1, .ref p2, .null])), (q_15, .inr (5, [.null, .int (iI 0)]))] 18 [(0, .ref h), (1, .ref p1), (2, .ref p2)] [.ref q_15, .ref h]
  refine w_dup C dX1_init_18 rfl ?_
  refine w_callIN (As := []) (rest := [.ref q_15, .ref h]) C (ct_X6_init G (kl k) q_15) gX1_21 dX1_init_19 rfl rfl (Nat.le_of_ble_eq_true rfl) (by decide) [1] rfl (by decide) (fun _ => rfl) (fun e_ => ?_)
  revert e_; intro n1_0
  show Wd G k 3 2 16 [(h, .inr (1, [.ref p1, .ref p2, .null])), (q_15, .inr (5, [.ref n1_0, .int (iI 0)])), (n1_0, .inl (gI G, 14, .inl (arI zIm)))] 22 [(0, .ref h), (1, .ref p1), (2, .ref p2)] [.ref q_15, .ref h]
  refine w_putI (ty := (.object "FsckDesk$Name")) (ws2 := [(h, .inr (1, [.ref p1, .ref p2, .ref q_15])), (q_15, .inr (5, [.ref n1_0, .int (iI 0)])), (n1_0, .inl (gI G, 14, .inl (arI zIm)))]) C hm 0 2 138 dX1_init_22 rfl rfl inX1 tyX1_ok nmX1 (by decide) (by decide +kernel) rfl rfl (by decide +kernel) rfl rfl (Nat.le_of_ble_eq_true rfl) rfl ?_
  exact w_retv hret dX1_init_25 rfl rfl rfl ⟨(q_15, n1_0), rfl, rfl⟩

abbrev rmX3_init : Room := { frames := 1, cells := 0, slots := 0, locals := 20 }
set_option maxHeartbeats 4000000 in
set_option maxRecDepth 100000 in
theorem ct_X3_init (G : GX) (l : Launch) (h p1 p2 p3 : Nat) : CtI (E := Unit) G l yX3_init cX3_init 4 rmX3_init [.ref h, .ref p1, .ref p2, .ref p3] [(h, .inr (3, [.null, .null, .null]))] (fun e_ => [(h, .inr (3, [.ref p1, .ref p2, .ref p3]))]) (fun e_ => []) := by
  refine Ct.ofI (by decide) (Nat.le_of_ble_eq_true rfl) ?_
  intro k C hl hm hret
  subst hl
  replace hm : k.2.1.2.2.2.1.name = "<init>" := hm
  refine w_lv (lv2 := [(0, .ref h), (1, .ref p1), (2, .ref p2), (3, .ref p3)]) [0, 1, 2, 3] rfl ?_
  refine w_aload_n C 0 dX3_init_0 rfl ?_
  refine w_objI C 157 91 92 (by decide +kernel) (by decide +kernel) (by decide +kernel) dX3_init_1 (by decide) (by decide) ?_
  refine w_aload_n C 0 dX3_init_4 rfl ?_
  refine w_aload_n C 1 dX3_init_5 rfl ?_
  refine w_putI (ty := (.object "FsckDesk$Image")) (ws2 := [(h, .inr (3, [.ref p1, .null, .null]))]) C hm 0 0 158 dX3_init_6 rfl rfl inX3 tyX3_ok nmX3 (by decide) (by decide +kernel) rfl rfl (by decide +kernel) rfl rfl (Nat.le_of_ble_eq_true rfl) rfl ?_
  refine w_aload_n C 0 dX3_init_9 rfl ?_
  refine w_aload_n C 2 dX3_init_10 rfl ?_
  refine w_putI (ty := (.object "FsckDesk$Inodes")) (ws2 := [(h, .inr (3, [.ref p1, .ref p2, .null]))]) C hm 0 1 159 dX3_init_11 rfl rfl inX3 tyX3_ok nmX3 (by decide) (by decide +kernel) rfl rfl (by decide +kernel) rfl rfl (Nat.le_of_ble_eq_true rfl) rfl ?_
  refine w_aload_n C 0 dX3_init_14 rfl ?_
  refine w_aload_n C 3 dX3_init_15 rfl ?_
  refine w_putI (ty := (.object "FsckDesk$Directories")) (ws2 := [(h, .inr (3, [.ref p1, .ref p2, .ref p3]))]) C hm 0 2 160 dX3_init_16 rfl rfl inX3 tyX3_ok nmX3 (by decide) (by decide +kernel) rfl rfl (by decide +kernel) rfl rfl (Nat.le_of_ble_eq_true rfl) rfl ?_
  exact w_retv hret dX3_init_19 rfl rfl rfl ⟨(), rfl, rfl⟩

theorem gX0_25 : cwin RX0 25 yX6_init cX6_init 1 0 2 126 69 127 := by decide +kernel
abbrev rmX0_init : Room := { frames := 2, cells := 3, slots := 48, locals := 40 }
set_option maxHeartbeats 4000000 in
set_option maxRecDepth 100000 in
theorem ct_X0_init (G : GX) (l : Launch) (h p1 p2 p3 : Nat) : CtI (E := Nat × Nat × Nat) G l yX0_init cX0_init 4 rmX0_init [.ref h, .ref p1, .ref p2, .ref p3] [(h, .inr (0, [.null, .null, .null, .null, .null, .int (iI 0), .int (iI 0), .int (iI 0)]))] (fun e_ => [(h, .inr (0, [.ref p1, .ref p2, .ref p3, .ref e_.1, .ref e_.2.2, .int (iI 0), .int (iI 0), .int (iI 0)]))]) (fun e_ => [(e_.1, .inr (5, [.ref e_.2.1, .int (iI 0)])), (e_.2.1, .inl (gI G, 14, .inl (arI zIm))), (e_.2.2, .inl (gI G, 32, .inl (arI zIm)))]) := by
  refine Ct.ofI (by decide) (Nat.le_of_ble_eq_true rfl) ?_
  intro k C hl hm hret
  subst hl
  replace hm : k.2.1.2.2.2.1.name = "<init>" := hm
  refine w_lv (lv2 := [(0, .ref h), (1, .ref p1), (2, .ref p2), (3, .ref p3)]) [0, 1, 2, 3] rfl ?_
  refine w_aload_n C 0 dX0_init_0 rfl ?_
  refine w_objI C 173 91 92 (by decide +kernel) (by decide +kernel) (by decide +kernel) dX0_init_1 (by decide) (by decide) ?_
  refine w_aload_n C 0 dX0_init_4 rfl ?_
  refine w_aload_n C 1 dX0_init_5 rfl ?_
  refine w_putI (ty := (.object "FsckDesk$Image")) (ws2 := [(h, .inr (0, [.ref p1, .null, .null, .null, .null, .int (iI 0), .int (iI 0), .int (iI 0)]))]) C hm 0 0 176 dX0_init_6 rfl rfl inX0 tyX0_ok nmX0 (by decide) (by decide +kernel) rfl rfl (by decide +kernel) rfl rfl (Nat.le_of_ble_eq_true rfl) rfl ?_
  refine w_aload_n C 0 dX0_init_9 rfl ?_
  refine w_aload_n C 2 dX0_init_10 rfl ?_
  refine w_putI (ty := (.object "FsckDesk$Inodes")) (ws2 := [(h, .inr (0, [.ref p1, .ref p2, .null, .null, .null, .int (iI 0), .int (iI 0), .int (iI 0)]))]) C hm 0 1 177 dX0_init_11 rfl rfl inX0 tyX0_ok nmX0 (by decide) (by decide +kernel) rfl rfl (by decide +kernel) rfl rfl (Nat.le_of_ble_eq_true rfl) rfl ?_
  refine w_aload_n C 0 dX0_init_14 rfl ?_
  refine w_aload_n C 3 dX0_init_15 rfl ?_
  refine w_putI (ty := (.object "FsckDesk$Directories")) (ws2 := [(h, .inr (0, [.ref p1, .ref p2, .ref p3, .null, .null, .int (iI 0), .int (iI 0), .int (iI 0)]))]) C hm 0 2 178 dX0_init_16 rfl rfl inX0 tyX0_ok nmX0 (by decide) (by decide +kernel) rfl rfl (by decide +kernel) rfl rfl (Nat.le_of_ble_eq_true rfl) rfl ?_
  refine w_aload_n C 0 dX0_init_19 rfl ?_
  refine w_newO (ci := 5) (fs := [.null, .int (iI 0)]) C 174 124 69 dX0_init_20 rfl inX6 tyX6_ok (by decide +kernel) (by decide +kernel) (by decide +kernel) (fun j hj => by rcases (show j = 0 ∨ j = 1 by omega) with rfl | rfl <;> rfl) (Nat.le_of_ble_eq_true rfl) (Nat.le_of_ble_eq_true rfl) (fun q_20 => ?_)
  show Wd G k 4 1 2 [(h, .inr (0, [.ref p1, .ref p2, .ref p3, .null, .null, .int (iI 0), .int (iI 0), .int (iI 0)])), (q_20, .inr (5, [.null, .int (iI 0)]))] 23 [(0, .ref h), (1, .ref p1), (2, .ref p2), (3, .ref p3)] [.ref q_20, .ref h]
  refine w_dup C dX0_init_23 rfl ?_
  refine w_callIN (As := []) (rest := [.ref q_20, .ref h]) C (ct_X6_init G (kl k) q_20) gX0_25 dX0_init_24 rfl rfl (Nat.le_of_ble_eq_true rfl) (by decide) [1] rfl (by decide) (fun _ => rfl) (fun e_ => ?_)
  revert e_; intro n1_0
  show Wd G k 4 2 16 [(h, .inr (0, [.ref p1, .ref p2, .ref p3, .null, .null, .int (iI 0), .int (iI 0), .int (iI 0)])), (q_20, .inr (5, [.ref n1_0, .int (iI 0)])), (n1_0, .inl (gI G, 14, .inl (arI zIm)))] 27 [(0, .ref h), (1, .ref p1), (2, .ref p2), (3, .ref p3)] [.ref q_20, .ref h]
  refine w_putI (ty := (.object "FsckDesk$Name")) (ws2 := [(h, .inr (0, [.ref p1, .ref p2, .ref p3, .ref q_20, .null, .int (iI 0), .int (iI 0), .int (iI 0)])), (q_20, .inr (5, [.ref n1_0, .int (iI 0)])), (n1_0, .inl (gI G, 14, .inl (arI zIm)))]) C hm 0 3 179 dX0_init_27 rfl rfl inX0 tyX0_ok nmX0 (by decide) (by decide +kernel) rfl rfl (by decide +kernel) rfl rfl (Nat.le_of_ble_eq_true rfl) rfl ?_
  refine w_aload_n C 0 dX0_init_30 rfl ?_
  refine w_bipush C dX0_init_31 (by decide) ?_
  refine w_newI C 32 103 dX0_init_33 (by decide +kernel) (by decide) (by decide) (by decide) (Nat.le_of_ble_eq_true rfl) (Nat.le_of_ble_eq_true rfl) (fun q_33 => ?_)
  show Wd G k 4 3 48 [(h, .inr (0, [.ref p1, .ref p2, .ref p3, .ref q_20, .null, .int (iI 0), .int (iI 0), .int (iI 0)])), (q_20, .inr (5, [.ref n1_0, .int (iI 0)])), (n1_0, .inl (gI G, 14, .inl (arI zIm))), (q_33, .inl (gI G, 32, .inl (arI zIm)))] 35 [(0, .ref h), (1, .ref p1), (2, .ref p2), (3, .ref p3)] [.ref q_33, .ref h]
  refine w_putI (ty := (.array .int)) (ws2 := [(h, .inr (0, [.ref p1, .ref p2, .ref p3, .ref q_20, .ref q_33, .int (iI 0), .int (iI 0), .int (iI 0)])), (q_20, .inr (5, [.ref n1_0, .int (iI 0)])), (n1_0, .inl (gI G, 14, .inl (arI zIm))), (q_33, .inl (gI G, 32, .inl (arI zIm)))]) C hm 0 4 180 dX0_init_35 rfl rfl inX0 tyX0_ok nmX0 (by decide) (by decide +kernel) rfl rfl (by decide +kernel) rfl rfl (Nat.le_of_ble_eq_true rfl) rfl ?_
  exact w_retv hret dX0_init_38 rfl rfl rfl ⟨(q_20, n1_0, q_33), rfl, rfl⟩

abbrev rmX9_init : Room := { frames := 1, cells := 0, slots := 0, locals := 20 }
set_option maxHeartbeats 4000000 in
set_option maxRecDepth 100000 in
theorem ct_X9_init (G : GX) (l : Launch) (h p1 p2 p3 : Nat) : CtI (E := Unit) G l yX9_init cX9_init 4 rmX9_init [.ref h, .ref p1, .ref p2, .ref p3] [(h, .inr (7, [.null, .null, .null]))] (fun e_ => [(h, .inr (7, [.ref p1, .ref p2, .ref p3]))]) (fun e_ => []) := by
  refine Ct.ofI (by decide) (Nat.le_of_ble_eq_true rfl) ?_
  intro k C hl hm hret
  subst hl
  replace hm : k.2.1.2.2.2.1.name = "<init>" := hm
  refine w_lv (lv2 := [(0, .ref h), (1, .ref p1), (2, .ref p2), (3, .ref p3)]) [0, 1, 2, 3] rfl ?_
  refine w_aload_n C 0 dX9_init_0 rfl ?_
  refine w_objI C 225 91 92 (by decide +kernel) (by decide +kernel) (by decide +kernel) dX9_init_1 (by decide) (by decide) ?_
  refine w_aload_n C 0 dX9_init_4 rfl ?_
  refine w_aload_n C 1 dX9_init_5 rfl ?_
  refine w_putI (ty := (.object "FsckDesk$Image")) (ws2 := [(h, .inr (7, [.ref p1, .null, .null]))]) C hm 0 0 226 dX9_init_6 rfl rfl inX9 tyX9_ok nmX9 (by decide) (by decide +kernel) rfl rfl (by decide +kernel) rfl rfl (Nat.le_of_ble_eq_true rfl) rfl ?_
  refine w_aload_n C 0 dX9_init_9 rfl ?_
  refine w_aload_n C 2 dX9_init_10 rfl ?_
  refine w_putI (ty := (.object "FsckDesk$Inodes")) (ws2 := [(h, .inr (7, [.ref p1, .ref p2, .null]))]) C hm 0 1 227 dX9_init_11 rfl rfl inX9 tyX9_ok nmX9 (by decide) (by decide +kernel) rfl rfl (by decide +kernel) rfl rfl (Nat.le_of_ble_eq_true rfl) rfl ?_
  refine w_aload_n C 0 dX9_init_14 rfl ?_
  refine w_aload_n C 3 dX9_init_15 rfl ?_
  refine w_putI (ty := (.object "FsckDesk$Directories")) (ws2 := [(h, .inr (7, [.ref p1, .ref p2, .ref p3]))]) C hm 0 2 228 dX9_init_16 rfl rfl inX9 tyX9_ok nmX9 (by decide) (by decide +kernel) rfl rfl (by decide +kernel) rfl rfl (Nat.le_of_ble_eq_true rfl) rfl ?_
  exact w_retv hret dX9_init_19 rfl rfl rfl ⟨(), rfl, rfl⟩

theorem gX7_28 : cwi RX7 28 yX3_init cX3_init 4 3 154 155 71 156 := by decide +kernel
theorem gX7_37 : cwi RX7 37 yX0_init cX0_init 4 3 170 171 72 172 := by decide +kernel
abbrev rmX7_init : Room := { frames := 3, cells := 5, slots := 59, locals := 63 }
set_option maxHeartbeats 4000000 in
set_option maxRecDepth 100000 in
theorem ct_X7_init (G : GX) (l : Launch) (h p1 p2 p3 p4 : Nat) : CtI (E := Nat × Nat × Nat × Nat × Nat) G l yX7_init cX7_init 5 rmX7_init [.ref h, .ref p1, .ref p2, .ref p3, .ref p4] [(h, .inr (6, [.null, .null, .null, .null, .null, .null]))] (fun e_ => [(h, .inr (6, [.ref p1, .ref p2, .ref p3, .ref p4, .ref e_.1, .ref e_.2.1]))]) (fun e_ => [(e_.1, .inr (3, [.ref p2, .ref p3, .ref p4])), (e_.2.1, .inr (0, [.ref p2, .ref p3, .ref p4, .ref e_.2.2.1, .ref e_.2.2.2.2, .int (iI 0), .int (iI 0), .int (iI 0)])), (e_.2.2.1, .inr (5, [.ref e_.2.2.2.1, .int (iI 0)])), (e_.2.2.2.1, .inl (gI G, 14, .inl (arI zIm))), (e_.2.2.2.2, .inl (gI G, 32, .inl (arI zIm)))]) := by
  refine Ct.ofI (by decide) (Nat.le_of_ble_eq_true rfl) ?_
  intro k C hl hm hret
  subst hl
  replace hm : k.2.1.2.2.2.1.name = "<init>" := hm
  refine w_lv (lv2 := [(0, .ref h), (1, .ref p1), (2, .ref p2), (3, .ref p3), (4, .ref p4)]) [0, 1, 2, 3, 4] rfl ?_
  refine w_aload_n C 0 dX7_init_0 rfl ?_
  refine w_objI C 151 91 92 (by decide +kernel) (by decide +kernel) (by decide +kernel) dX7_init_1 (by decide) (by decide) ?_
  refine w_aload_n C 0 dX7_init_4 rfl ?_
  refine w_aload_n C 1 dX7_init_5 rfl ?_
  refine w_putI (ty := (.object "FsckDesk$Image")) (ws2 := [(h, .inr (6, [.ref p1, .null, .null, .null, .null, .null]))]) C hm 0 0 201 dX7_init_6 rfl rfl inX7 tyX7_ok nmX7 (by decide) (by decide +kernel) rfl rfl (by decide +kernel) rfl rfl (Nat.le_of_ble_eq_true rfl) rfl ?_
  refine w_aload_n C 0 dX7_init_9 rfl ?_
  refine w_aload_n C 2 dX7_init_10 rfl ?_
  refine w_putI (ty := (.object "FsckDesk$Image")) (ws2 := [(h, .inr (6, [.ref p1, .ref p2, .null, .null, .null, .null]))]) C hm 0 1 202 dX7_init_11 rfl rfl inX7 tyX7_ok nmX7 (by decide) (by decide +kernel) rfl rfl (by decide +kernel) rfl rfl (Nat.le_of_ble_eq_true rfl) rfl ?_
  refine w_aload_n C 0 dX7_init_14 rfl ?_
  refine w_aload_n C 3 dX7_init_15 rfl ?_
  refine w_putI (ty := (.object "FsckDesk$Inodes")) (ws2 := [(h, .inr (6, [.ref p1, .ref p2, .ref p3, .null, .null, .null]))]) C hm 0 2 203 dX7_init_16 rfl rfl inX7 tyX7_ok nmX7 (by decide) (by decide +kernel) rfl rfl (by decide +kernel) rfl rfl (Nat.le_of_ble_eq_true rfl) rfl ?_
  refine w_aload_n C 0 dX7_init_19 rfl ?_
  refine w_aload C 4 dX7_init_20 rfl ?_
  refine w_putI (ty := (.object "FsckDesk$Directories")) (ws2 := [(h, .inr (6, [.ref p1, .ref p2, .ref p3, .ref p4, .null, .null]))]) C hm 0 3 204 dX7_init_22 rfl rfl inX7 tyX7_ok nmX7 (by decide) (by decide +kernel) rfl rfl (by decide +kernel) rfl rfl (Nat.le_of_ble_eq_true rfl) rfl ?_
  refine w_aload_n C 0 dX7_init_25 rfl ?_
  refine w_newO (ci := 3) (fs := [.null, .null, .null]) C 152 153 71 dX7_init_26 rfl inX3 tyX3_ok (by decide +kernel) (by decide +kernel) (by decide +kernel) (fun j hj => by rcases (show j = 0 ∨ j = 1 ∨ j = 2 by omega) with rfl | rfl | rfl <;> rfl) (Nat.le_of_ble_eq_true rfl) (Nat.le_of_ble_eq_true rfl) (fun q_26 => ?_)
  show Wd G k 5 1 3 [(h, .inr (6, [.ref p1, .ref p2, .ref p3, .ref p4, .null, .null])), (q_26, .inr (3, [.null, .null, .null]))] 29 [(0, .ref h), (1, .ref p1), (2, .ref p2), (3, .ref p3), (4, .ref p4)] [.ref q_26, .ref h]
  refine w_dup C dX7_init_29 rfl ?_
  refine w_aload_n C 2 dX7_init_30 rfl ?_
  refine w_aload_n C 3 dX7_init_31 rfl ?_
  refine w_aload C 4 dX7_init_32 rfl ?_
  refine w_callI (As := [.ref p2, .ref p3, .ref p4]) (rest := [.ref q_26, .ref h]) C (ct_X3_init G (kl k) q_26 p2 p3 p4) gX7_28 dX7_init_34 rfl rfl (Nat.le_of_ble_eq_true rfl) (by decide) [1] rfl (by decide) (fun _ => rfl) (fun e_ => ?_)
  show Wd G k 5 1 3 [(h, .inr (6, [.ref p1, .ref p2, .ref p3, .ref p4, .null, .null])), (q_26, .inr (3, [.ref p2, .ref p3, .ref p4]))] 37 [(0, .ref h), (1, .ref p1), (2, .ref p2), (3, .ref p3), (4, .ref p4)] [.ref q_26, .ref h]
  refine w_putI (ty := (.object "FsckDesk$InodePass")) (ws2 := [(h, .inr (6, [.ref p1, .ref p2, .ref p3, .ref p4, .ref q_26, .null])), (q_26, .inr (3, [.ref p2, .ref p3, .ref p4]))]) C hm 0 4 205 dX7_init_37 rfl rfl inX7 tyX7_ok nmX7 (by decide) (by decide +kernel) rfl rfl (by decide +kernel) rfl rfl (Nat.le_of_ble_eq_true rfl) rfl ?_
  refine w_aload_n C 0 dX7_init_40 rfl ?_
  refine w_newO (ci := 0) (fs := [.null, .null, .null, .null, .null, .int (iI 0), .int (iI 0), .int (iI 0)]) C 168 169 72 dX7_init_41 rfl inX0 tyX0_ok (by decide +kernel) (by decide +kernel) (by decide +kernel) (fun j hj => by rcases (show j = 0 ∨ j = 1 ∨ j = 2 ∨ j = 3 ∨ j = 4 ∨ j = 5 ∨ j = 6 ∨ j = 7 by omega) with rfl | rfl | rfl | rfl | rfl | rfl | rfl | rfl <;> rfl) (Nat.le_of_ble_eq_true rfl) (Nat.le_of_ble_eq_true rfl) (fun q_41 => ?_)
  show Wd G k 5 2 11 [(h, .inr (6, [.ref p1, .ref p2, .ref p3, .ref p4, .ref q_26, .null])), (q_26, .inr (3, [.ref p2, .ref p3, .ref p4])), (q_41, .inr (0, [.null, .null, .null, .null, .null, .int (iI 0), .int (iI 0), .int (iI 0)]))] 44 [(0, .ref h), (1, .ref p1), (2, .ref p2), (3, .ref p3), (4, .ref p4)] [.ref q_41, .ref h]
  refine w_dup C dX7_init_44 rfl ?_
  refine w_aload_n C 2 dX7_init_45 rfl ?_
  refine w_aload_n C 3 dX7_init_46 rfl ?_
  refine w_aload C 4 dX7_init_47 rfl ?_
  refine w_callI (As := [.ref p2, .ref p3, .ref p4]) (rest := [.ref q_41, .ref h]) C (ct_X0_init G (kl k) q_41 p2 p3 p4) gX7_37 dX7_init_49 rfl rfl (Nat.le_of_ble_eq_true rfl) (by decide) [2] rfl (by decide) (fun _ => rfl) (fun e_ => ?_)
  obtain ⟨n2_0, n2_1, n2_2⟩ := e_
  show Wd G k 5 5 59 [(h, .inr (6, [.ref p1, .ref p2, .ref p3, .ref p4, .ref q_26, .null])), (q_26, .inr (3, [.ref p2, .ref p3, .ref p4])), (q_41, .inr (0, [.ref p2, .ref p3, .ref p4, .ref n2_0, .ref n2_2, .int (iI 0), .int (iI 0), .int (iI 0)])), (n2_0, .inr (5, [.ref n2_1, .int (iI 0)])), (n2_1, .inl (gI G, 14, .inl (arI zIm))), (n2_2, .inl (gI G, 32, .inl (arI zIm)))] 52 [(0, .ref h), (1, .ref p1), (2, .ref p2), (3, .ref p3), (4, .ref p4)] [.ref q_41, .ref h]
  refine w_putI (ty := (.object "FsckDesk$Connector")) (ws2 := [(h, .inr (6, [.ref p1, .ref p2, .ref p3, .ref p4, .ref q_26, .ref q_41])), (q_26, .inr (3, [.ref p2, .ref p3, .ref p4])), (q_41, .inr (0, [.ref p2, .ref p3, .ref p4, .ref n2_0, .ref n2_2, .int (iI 0), .int (iI 0), .int (iI 0)])), (n2_0, .inr (5, [.ref n2_1, .int (iI 0)])), (n2_1, .inl (gI G, 14, .inl (arI zIm))), (n2_2, .inl (gI G, 32, .inl (arI zIm)))]) C hm 0 5 206 dX7_init_52 rfl rfl inX7 tyX7_ok nmX7 (by decide) (by decide +kernel) rfl rfl (by decide +kernel) rfl rfl (Nat.le_of_ble_eq_true rfl) rfl ?_
  exact w_retv hret dX7_init_55 rfl rfl rfl ⟨(q_26, q_41, n2_0, n2_1, n2_2), rfl, rfl⟩

theorem gX10_9 : cwin RX10 9 yX2_init cX2_init 1 0 1 96 66 97 := by decide +kernel
theorem gX10_12 : cwi RX10 12 yX4_init cX4_init 2 1 106 107 67 108 := by decide +kernel
theorem gX10_17 : cwi RX10 17 yX1_init cX1_init 3 2 119 120 68 121 := by decide +kernel
theorem gX10_36 : cwi RX10 36 yX7_init cX7_init 5 4 148 149 70 150 := by decide +kernel
theorem gX10_45 : cwi RX10 45 yX9_init cX9_init 4 3 222 223 73 224 := by decide +kernel
theorem gX10_54 : cwin RX10 54 yX6_init cX6_init 1 0 0 126 69 127 := by decide +kernel
abbrev rmX10_init : Room := { frames := 4, cells := 21, slots := 8320, locals := 87 }
set_option maxHeartbeats 4000000 in
set_option maxRecDepth 100000 in
theorem ct_X10_init (G : GX) (l : Launch) (h : Nat) : CtI (E := Nat × Nat × Nat × Nat × Nat × Nat × Nat × Nat × Nat × Nat × Nat × Nat × Nat × Nat × Nat × Nat × Nat × Nat × Nat × Nat × Nat) G l yX10_init cX10_init 6 rmX10_init [.ref h] [(h, .inr (8, [.null, .null, .null, .null, .null, .null]))] (fun e_ => [(h, .inr (8, [.ref e_.1, .ref e_.2.2.1, .ref e_.2.2.2.2.2.2.2.2.2.1, .ref e_.2.2.2.2.2.2.2.2.2.2.2.2.1, .ref e_.2.2.2.2.2.2.2.2.2.2.2.2.2.2.2.2.2.2.1, .ref e_.2.2.2.2.2.2.2.2.2.2.2.2.2.2.2.2.2.2.2.1]))]) (fun e_ => [(e_.1, .inr (2, [.ref e_.2.1])), (e_.2.1, .inl (gI G, 4096, .inl (arI zIm))), (e_.2.2.1, .inr (4, [.ref e_.1, .long 0])), (e_.2.2.2.1, .inr (2, [.ref e_.2.2.2.2.1])), (e_.2.2.2.2.1, .inl (gI G, 4096, .inl (arI zIm))), (e_.2.2.2.2.2.1, .inr (4, [.ref e_.2.2.2.1, .long 0])), (e_.2.2.2.2.2.2.1, .inr (1, [.ref e_.2.2.2.1, .ref e_.2.2.2.2.2.1, .ref e_.2.2.2.2.2.2.2.1])), (e_.2.2.2.2.2.2.2.1, .inr (5, [.ref e_.2.2.2.2.2.2.2.2.1, .int (iI 0)])), (e_.2.2.2.2.2.2.2.2.1, .inl (gI G, 14, .inl (arI zIm))), (e_.2.2.2.2.2.2.2.2.2.1, .inr (1, [.ref e_.1, .ref e_.2.2.1, .ref e_.2.2.2.2.2.2.2.2.2.2.1])), (e_.2.2.2.2.2.2.2.2.2.2.1, .inr (5, [.ref e_.2.2.2.2.2.2.2.2.2.2.2.1, .int (iI 0)])), (e_.2.2.2.2.2.2.2.2.2.2.2.1, .inl (gI G, 14, .inl (arI zIm))), (e_.2.2.2.2.2.2.2.2.2.2.2.2.1, .inr (6, [.ref e_.1, .ref e_.2.2.2.1, .ref e_.2.2.2.2.2.1, .ref e_.2.2.2.2.2.2.1, .ref e_.2.2.2.2.2.2.2.2.2.2.2.2.2.1, .ref e_.2.2.2.2.2.2.2.2.2.2.2.2.2.2.1])), (e_.2.2.2.2.2.2.2.2.2.2.2.2.2.1, .inr (3, [.ref e_.2.2.2.1, .ref e_.2.2.2.2.2.1, .ref e_.2.2.2.2.2.2.1])), (e_.2.2.2.2.2.2.2.2.2.2.2.2.2.2.1, .inr (0, [.ref e_.2.2.2.1, .ref e_.2.2.2.2.2.1, .ref e_.2.2.2.2.2.2.1, .ref e_.2.2.2.2.2.2.2.2.2.2.2.2.2.2.2.1, .ref e_.2.2.2.2.2.2.2.2.2.2.2.2.2.2.2.2.2.1, .int (iI 0), .int (iI 0), .int (iI 0)])), (e_.2.2.2.2.2.2.2.2.2.2.2.2.2.2.2.1, .inr (5, [.ref e_.2.2.2.2.2.2.2.2.2.2.2.2.2.2.2.2.1, .int (iI 0)])), (e_.2.2.2.2.2.2.2.2.2.2.2.2.2.2.2.2.1, .inl (gI G, 14, .inl (arI zIm))), (e_.2.2.2.2.2.2.2.2.2.2.2.2.2.2.2.2.2.1, .inl (gI G, 32, .inl (arI zIm))), (e_.2.2.2.2.2.2.2.2.2.2.2.2.2.2.2.2.2.2.1, .inr (7, [.ref e_.2.2.2.1, .ref e_.2.2.2.2.2.1, .ref e_.2.2.2.2.2.2.1])), (e_.2.2.2.2.2.2.2.2.2.2.2.2.2.2.2.2.2.2.2.1, .inr (5, [.ref e_.2.2.2.2.2.2.2.2.2.2.2.2.2.2.2.2.2.2.2.2, .int (iI 0)])), (e_.2.2.2.2.2.2.2.2.2.2.2.2.2.2.2.2.2.2.2.2, .inl (gI G, 14, .inl (arI zIm)))]) := by
  refine Ct.ofI (by decide) (Nat.le_of_ble_eq_true rfl) ?_
  intro k C hl hm hret
  subst hl
  replace hm : k.2.1.2.2.2.1.name = "<init>" := hm
  refine w_lv (lv2 := [(0, .ref h)]) [0] rfl ?_
  refine w_aload_n C 0 dX10_init_0 rfl ?_
  refine w_objI C 90 91 92 (by decide +kernel) (by decide +kernel) (by decide +kernel) dX10_init_1 (by decide) (by decide) ?_
  refine w_newO (ci := 2) (fs := [.null]) C 93 94 66 dX10_init_4 rfl inX2 tyX2_ok (by decide +kernel) (by decide +kernel) (by decide +kernel) (fun j hj => by rcases (show j = 0 by omega) with rfl <;> rfl) (Nat.le_of_ble_eq_true rfl) (Nat.le_of_ble_eq_true rfl) (fun q_4 => ?_)
  show Wd G k 6 1 1 [(h, .inr (8, [.null, .null, .null, .null, .null, .null])), (q_4, .inr (2, [.null]))] 7 [(0, .ref h)] [.ref q_4]
  refine w_dup C dX10_init_7 rfl ?_
  refine w_callIN (As := []) (rest := [.ref q_4]) C (ct_X2_init G (kl k) q_4) gX10_9 dX10_init_8 rfl rfl (Nat.le_of_ble_eq_true rfl) (by decide) [1] rfl (by decide) (fun _ => rfl) (fun e_ => ?_)
  revert e_; intro n1_0
  show Wd G k 6 2 4097 [(h, .inr (8, [.null, .null, .null, .null, .null, .null])), (q_4, .inr (2, [.ref n1_0])), (n1_0, .inl (gI G, 4096, .inl (arI zIm)))] 11 [(0, .ref h)] [.ref q_4]
  refine w_astore_n (lv2 := [(0, .ref h), (1, .ref q_4)]) C dX10_init_11 (by decide) rfl ?_
  refine w_newO (ci := 4) (fs := [.null, .long 0]) C 104 105 67 dX10_init_12 rfl inX4 tyX4_ok (by decide +kernel) (by decide +kernel) (by decide +kernel) (fun j hj => by rcases (show j = 0 ∨ j = 1 by omega) with rfl | rfl <;> rfl) (Nat.le_of_ble_eq_true rfl) (Nat.le_of_ble_eq_true rfl) (fun q_12 => ?_)
  show Wd G k 6 3 4099 [(h, .inr (8, [.null, .null, .null, .null, .null, .null])), (q_4, .inr (2, [.ref n1_0])), (n1_0, .inl (gI G, 4096, .inl (arI zIm))), (q_12, .inr (4, [.null, .long 0]))] 15 [(0, .ref h), (1, .ref q_4)] [.ref q_12]
  refine w_dup C dX10_init_15 rfl ?_
  refine w_aload_n C 1 dX10_init_16 rfl ?_
  refine w_callI (As := [.ref q_4]) (rest := [.ref q_12]) C (ct_X4_init G (kl k) q_12 q_4) gX10_12 dX10_init_17 rfl rfl (Nat.le_of_ble_eq_true rfl) (by decide) [3] rfl (by decide) (fun _ => rfl) (fun e_ => ?_)
  show Wd G k 6 3 4099 [(h, .inr (8, [.null, .null, .null, .null, .null, .null])), (q_4, .inr (2, [.ref n1_0])), (n1_0, .inl (gI G, 4096, .inl (arI zIm))), (q_12, .inr (4, [.ref q_4, .long 0]))] 20 [(0, .ref h), (1, .ref q_4)] [.ref q_12]
  refine w_astore_n (lv2 := [(0, .ref h), (1, .ref q_4), (2, .ref q_12)]) C dX10_init_20 (by decide) rfl ?_
  refine w_newO (ci := 2) (fs := [.null]) C 93 94 66 dX10_init_21 rfl inX2 tyX2_ok (by decide +kernel) (by decide +kernel) (by decide +kernel) (fun j hj => by rcases (show j = 0 by omega) with rfl <;> rfl) (Nat.le_of_ble_eq_true rfl) (Nat.le_of_ble_eq_true rfl) (fun q_21 => ?_)
  show Wd G k 6 4 4100 [(h, .inr (8, [.null, .null, .null, .null, .null, .null])), (q_4, .inr (2, [.ref n1_0])), (n1_0, .inl (gI G, 4096, .inl (arI zIm))), (q_12, .inr (4, [.ref q_4, .long 0])), (q_21, .inr (2, [.null]))] 24 [(0, .ref h), (1, .ref q_4), (2, .ref q_12)] [.ref q_21]
  refine w_dup C dX10_init_24 rfl ?_
  refine w_callIN (As := []) (rest := [.ref q_21]) C (ct_X2_init G (kl k) q_21) gX10_9 dX10_init_25 rfl rfl (Nat.le_of_ble_eq_true rfl) (by decide) [4] rfl (by decide) (fun _ => rfl) (fun e_ => ?_)
  revert e_; intro n3_0
  show Wd G k 6 5 8196 [(h, .inr (8, [.null, .null, .null, .null, .null, .null])), (q_4, .inr (2, [.ref n1_0])), (n1_0, .inl (gI G, 4096, .inl (arI zIm))), (q_12, .inr (4, [.ref q_4, .long 0])), (q_21, .inr (2, [.ref n3_0])), (n3_0, .inl (gI G, 4096, .inl (arI zIm)))] 28 [(0, .ref h), (1, .ref q_4), (2, .ref q_12)] [.ref q_21]
  refine w_astore_n (lv2 := [(0, .ref h), (1, .ref q_4), (2, .ref q_12), (3, .ref q_21)]) C dX10_init_28 (by decide) rfl ?_
  refine w_newO (ci := 4) (fs := [.null, .long 0]) C 104 105 67 dX10_init_29 rfl inX4 tyX4_ok (by decide +kernel) (by decide +kernel) (by decide +kernel) (fun j hj => by rcases (show j = 0 ∨ j = 1 by omega) with rfl | rfl <;> rfl) (Nat.le_of_ble_eq_true rfl) (Nat.le_of_ble_eq_true rfl) (fun q_29 => ?_)
  show Wd G k 6 6 8198 [(h, .inr (8, [.null, .null, .null, .null, .null, .null])), (q_4, .inr (2, [.ref n1_0])), (n1_0, .inl (gI G, 4096, .inl (arI zIm))), (q_12, .inr (4, [.ref q_4, .long 0])), (q_21, .inr (2, [.ref n3_0])), (n3_0, .inl (gI G, 4096, .inl (arI zIm))), (q_29, .inr (4, [.null, .long 0]))] 32 [(0, .ref h), (1, .ref q_4), (2, .ref q_12), (3, .ref q_21)] [.ref q_29]
  refine w_dup C dX10_init_32 rfl ?_
  refine w_aload_n C 3 dX10_init_33 rfl ?_
  refine w_callI (As := [.ref q_21]) (rest := [.ref q_29]) C (ct_X4_init G (kl k) q_29 q_21) gX10_12 dX10_init_34 rfl rfl (Nat.le_of_ble_eq_true rfl) (by decide) [6] rfl (by decide) (fun _ => rfl) (fun e_ => ?_)
  show Wd G k 6 6 8198 [(h, .inr (8, [.null, .null, .null, .null, .null, .null])), (q_4, .inr (2, [.ref n1_0])), (n1_0, .inl (gI G, 4096, .inl (arI zIm))), (q_12, .inr (4, [.ref q_4, .long 0])), (q_21, .inr (2, [.ref n3_0])), (n3_0, .inl (gI G, 4096, .inl (arI zIm))), (q_29, .inr (4, [.ref q_21, .long 0]))] 37 [(0, .ref h), (1, .ref q_4), (2, .ref q_12), (3, .ref q_21)] [.ref q_29]
  refine w_astore (lv2 := [(0, .ref h), (1, .ref q_4), (2, .ref q_12), (3, .ref q_21), (4, .ref q_29)]) C dX10_init_37 (by decide) rfl ?_
  refine w_newO (ci := 1) (fs := [.null, .null, .null]) C 117 118 68 dX10_init_39 rfl inX1 tyX1_ok (by decide +kernel) (by decide +kernel) (by decide +kernel) (fun j hj => by rcases (show j = 0 ∨ j = 1 ∨ j = 2 by omega) with rfl | rfl | rfl <;> rfl) (Nat.le_of_ble_eq_true rfl) (Nat.le_of_ble_eq_true rfl) (fun q_39 => ?_)
  show Wd G k 6 7 8201 [(h, .inr (8, [.null, .null, .null, .null, .null, .null])), (q_4, .inr (2, [.ref n1_0])), (n1_0, .inl (gI G, 4096, .inl (arI zIm))), (q_12, .inr (4, [.ref q_4, .long 0])), (q_21, .inr (2, [.ref n3_0])), (n3_0, .inl (gI G, 4096, .inl (arI zIm))), (q_29, .inr (4, [.ref q_21, .long 0])), (q_39, .inr (1, [.null, .null, .null]))] 42 [(0, .ref h), (1, .ref q_4), (2, .ref q_12), (3, .ref q_21), (4, .ref q_29)] [.ref q_39]
  refine w_dup C dX10_init_42 rfl ?_
  refine w_aload_n C 3 dX10_init_43 rfl ?_
  refine w_aload C 4 dX10_init_44 rfl ?_
  refine w_callI (As := [.ref q_21, .ref q_29]) (rest := [.ref q_39]) C (ct_X1_init G (kl k) q_39 q_21 q_29) gX10_17 dX10_init_46 rfl rfl (Nat.le_of_ble_eq_true rfl) (by decide) [7] rfl (by decide) (fun _ => rfl) (fun e_ => ?_)
  obtain ⟨n5_0, n5_1⟩ := e_
  show Wd G k 6 9 8217 [(h, .inr (8, [.null, .null, .null, .null, .null, .null])), (q_4, .inr (2, [.ref n1_0])), (n1_0, .inl (gI G, 4096, .inl (arI zIm))), (q_12, .inr (4, [.ref q_4, .long 0])), (q_21, .inr (2, [.ref n3_0])), (n3_0, .inl (gI G, 4096, .inl (arI zIm))), (q_29, .inr (4, [.ref q_21, .long 0])), (q_39, .inr (1, [.ref q_21, .ref q_29, .ref n5_0])), (n5_0, .inr (5, [.ref n5_1, .int (iI 0)])), (n5_1, .inl (gI G, 14, .inl (arI zIm)))] 49 [(0, .ref h), (1, .ref q_4), (2, .ref q_12), (3, .ref q_21), (4, .ref q_29)] [.ref q_39]
  refine w_astore (lv2 := [(0, .ref h), (1, .ref q_4), (2, .ref q_12), (3, .ref q_21), (4, .ref q_29), (5, .ref q_39)]) C dX10_init_49 (by decide) rfl ?_
  refine w_aload_n C 0 dX10_init_51 rfl ?_
  refine w_aload_n C 1 dX10_init_52 rfl ?_
  refine w_putI (ty := (.object "FsckDesk$Image")) (ws2 := [(h, .inr (8, [.ref q_4, .null, .null, .null, .null, .null])), (q_4, .inr (2, [.ref n1_0])), (n1_0, .inl (gI G, 4096, .inl (arI zIm))), (q_12, .inr (4, [.ref q_4, .long 0])), (q_21, .inr (2, [.ref n3_0])), (n3_0, .inl (gI G, 4096, .inl (arI zIm))), (q_29, .inr (4, [.ref q_21, .long 0])), (q_39, .inr (1, [.ref q_21, .ref q_29, .ref n5_0])), (n5_0, .inr (5, [.ref n5_1, .int (iI 0)])), (n5_1, .inl (gI G, 14, .inl (arI zIm)))]) C hm 0 0 238 dX10_init_53 rfl rfl inX10 tyX10_ok nmX10 (by decide) (by decide +kernel) rfl rfl (by decide +kernel) rfl rfl (Nat.le_of_ble_eq_true rfl) rfl ?_
  refine w_aload_n C 0 dX10_init_56 rfl ?_
  refine w_aload_n C 2 dX10_init_57 rfl ?_
  refine w_putI (ty := (.object "FsckDesk$Inodes")) (ws2 := [(h, .inr (8, [.ref q_4, .ref q_12, .null, .null, .null, .null])), (q_4, .inr (2, [.ref n1_0])), (n1_0, .inl (gI G, 4096, .inl (arI zIm))), (q_12, .inr (4, [.ref q_4, .long 0])), (q_21, .inr (2, [.ref n3_0])), (n3_0, .inl (gI G, 4096, .inl (arI zIm))), (q_29, .inr (4, [.ref q_21, .long 0])), (q_39, .inr (1, [.ref q_21, .ref q_29, .ref n5_0])), (n5_0, .inr (5, [.ref n5_1, .int (iI 0)])), (n5_1, .inl (gI G, 14, .inl (arI zIm)))]) C hm 0 1 239 dX10_init_58 rfl rfl inX10 tyX10_ok nmX10 (by decide) (by decide +kernel) rfl rfl (by decide +kernel) rfl rfl (Nat.le_of_ble_eq_true rfl) rfl ?_
  refine w_aload_n C 0 dX10_init_61 rfl ?_
  refine w_newO (ci := 1) (fs := [.null, .null, .null]) C 117 118 68 dX10_init_62 rfl inX1 tyX1_ok (by decide +kernel) (by decide +kernel) (by decide +kernel) (fun j hj => by rcases (show j = 0 ∨ j = 1 ∨ j = 2 by omega) with rfl | rfl | rfl <;> rfl) (Nat.le_of_ble_eq_true rfl) (Nat.le_of_ble_eq_true rfl) (fun q_62 => ?_)
  show Wd G k 6 10 8220 [(h, .inr (8, [.ref q_4, .ref q_12, .null, .null, .null, .null])), (q_4, .inr (2, [.ref n1_0])), (n1_0, .inl (gI G, 4096, .inl (arI zIm))), (q_12, .inr (4, [.ref q_4, .long 0])), (q_21, .inr (2, [.ref n3_0])), (n3_0, .inl (gI G, 4096, .inl (arI zIm))), (q_29, .inr (4, [.ref q_21, .long 0])), (q_39, .inr (1, [.ref q_21, .ref q_29, .ref n5_0])), (n5_0, .inr (5, [.ref n5_1, .int (iI 0)])), (n5_1, .inl (gI G, 14, .inl (arI zIm))), (q_62, .inr (1, [.null, .null, .null]))] 65 [(0, .ref h), (1, .ref q_4), (2, .ref q_12), (3, .ref q_21), (4, .ref q_29), (5, .ref q_39)] [.ref q_62, .ref h]
  refine w_dup C dX10_init_65 rfl ?_
  refine w_aload_n C 1 dX10_init_66 rfl ?_
  refine w_aload_n C 2 dX10_init_67 rfl ?_
  refine w_callI (As := [.ref q_4, .ref q_12]) (rest := [.ref q_62, .ref h]) C (ct_X1_init G (kl k) q_62 q_4 q_12) gX10_17 dX10_init_68 rfl rfl (Nat.le_of_ble_eq_true rfl) (by decide) [10] rfl (by decide) (fun _ => rfl) (fun e_ => ?_)
  obtain ⟨n6_0, n6_1⟩ := e_
  show Wd G k 6 12 8236 [(h, .inr (8, [.ref q_4, .ref q_12, .null, .null, .null, .null])), (q_4, .inr (2, [.ref n1_0])), (n1_0, .inl (gI G, 4096, .inl (arI zIm))), (q_12, .inr (4, [.ref q_4, .long 0])), (q_21, .inr (2, [.ref n3_0])), (n3_0, .inl (gI G, 4096, .inl (arI zIm))), (q_29, .inr (4, [.ref q_21, .long 0])), (q_39, .inr (1, [.ref q_21, .ref q_29, .ref n5_0])), (n5_0, .inr (5, [.ref n5_1, .int (iI 0)])), (n5_1, .inl (gI G, 14, .inl (arI zIm))), (q_62, .inr (1, [.ref q_4, .ref q_12, .ref n6_0])), (n6_0, .inr (5, [.ref n6_1, .int (iI 0)])), (n6_1, .inl (gI G, 14, .inl (arI zIm)))] 71 [(0, .ref h), (1, .ref q_4), (2, .ref q_12), (3, .ref q_21), (4, .ref q_29), (5, .ref q_39)] [.ref q_62, .ref h]
  refine w_putI (ty := (.object "FsckDesk$Directories")) (ws2 := [(h, .inr (8, [.ref q_4, .ref q_12, .ref q_62, .null, .null, .null])), (q_4, .inr (2, [.ref n1_0])), (n1_0, .inl (gI G, 4096, .inl (arI zIm))), (q_12, .inr (4, [.ref q_4, .long 0])), (q_21, .inr (2, [.ref n3_0])), (n3_0, .inl (gI G, 4096, .inl (arI zIm))), (q_29, .inr (4, [.ref q_21, .long 0])), (q_39, .inr (1, [.ref q_21, .ref q_29, .ref n5_0])), (n5_0, .inr (5, [.ref n5_1, .int (iI 0)])), (n5_1, .inl (gI G, 14, .inl (arI zIm))), (q_62, .inr (1, [.ref q_4, .ref q_12, .ref n6_0])), (n6_0, .inr (5, [.ref n6_1, .int (iI 0)])), (n6_1, .inl (gI G, 14, .inl (arI zIm)))]) C hm 0 2 240 dX10_init_71 rfl rfl inX10 tyX10_ok nmX10 (by decide) (by decide +kernel) rfl rfl (by decide +kernel) rfl rfl (Nat.le_of_ble_eq_true rfl) rfl ?_
  refine w_aload_n C 0 dX10_init_74 rfl ?_
  refine w_newO (ci := 6) (fs := [.null, .null, .null, .null, .null, .null]) C 146 147 70 dX10_init_75 rfl inX7 tyX7_ok (by decide +kernel) (by decide +kernel) (by decide +kernel) (fun j hj => by rcases (show j = 0 ∨ j = 1 ∨ j = 2 ∨ j = 3 ∨ j = 4 ∨ j = 5 by omega) with rfl | rfl | rfl | rfl | rfl | rfl <;> rfl) (Nat.le_of_ble_eq_true rfl) (Nat.le_of_ble_eq_true rfl) (fun q_75 => ?_)
  show Wd G k 6 13 8242 [(h, .inr (8, [.ref q_4, .ref q_12, .ref q_62, .null, .null, .null])), (q_4, .inr (2, [.ref n1_0])), (n1_0, .inl (gI G, 4096, .inl (arI zIm))), (q_12, .inr (4, [.ref q_4, .long 0])), (q_21, .inr (2, [.ref n3_0])), (n3_0, .inl (gI G, 4096, .inl (arI zIm))), (q_29, .inr (4, [.ref q_21, .long 0])), (q_39, .inr (1, [.ref q_21, .ref q_29, .ref n5_0])), (n5_0, .inr (5, [.ref n5_1, .int (iI 0)])), (n5_1, .inl (gI G, 14, .inl (arI zIm))), (q_62, .inr (1, [.ref q_4, .ref q_12, .ref n6_0])), (n6_0, .inr (5, [.ref n6_1, .int (iI 0)])), (n6_1, .inl (gI G, 14, .inl (arI zIm))), (q_75, .inr (6, [.null, .null, .null, .null, .null, .null]))] 78 [(0, .ref h), (1, .ref q_4), (2, .ref q_12), (3, .ref q_21), (4, .ref q_29), (5, .ref q_39)] [.ref q_75, .ref h]
  refine w_dup C dX10_init_78 rfl ?_
  refine w_aload_n C 1 dX10_init_79 rfl ?_
  refine w_aload_n C 3 dX10_init_80 rfl ?_
  refine w_aload C 4 dX10_init_81 rfl ?_
  refine w_aload C 5 dX10_init_83 rfl ?_
  refine w_callI (As := [.ref q_4, .ref q_21, .ref q_29, .ref q_39]) (rest := [.ref q_75, .ref h]) C (ct_X7_init G (kl k) q_75 q_4 q_21 q_29 q_39) gX10_36 dX10_init_85 rfl rfl (Nat.le_of_ble_eq_true rfl) (by decide) [13] rfl (by decide) (fun _ => rfl) (fun e_ => ?_)
  obtain ⟨n7_0, n7_1, n7_2, n7_3, n7_4⟩ := e_
  show Wd G k 6 18 8301 [(h, .inr (8, [.ref q_4, .ref q_12, .ref q_62, .null, .null, .null])), (q_4, .inr (2, [.ref n1_0])), (n1_0, .inl (gI G, 4096, .inl (arI zIm))), (q_12, .inr (4, [.ref q_4, .long 0])), (q_21, .inr (2, [.ref n3_0])), (n3_0, .inl (gI G, 4096, .inl (arI zIm))), (q_29, .inr (4, [.ref q_21, .long 0])), (q_39, .inr (1, [.ref q_21, .ref q_29, .ref n5_0])), (n5_0, .inr (5, [.ref n5_1, .int (iI 0)])), (n5_1, .inl (gI G, 14, .inl (arI zIm))), (q_62, .inr (1, [.ref q_4, .ref q_12, .ref n6_0])), (n6_0, .inr (5, [.ref n6_1, .int (iI 0)])), (n6_1, .inl (gI G, 14, .inl (arI zIm))), (q_75, .inr (6, [.ref q_4, .ref q_21, .ref q_29, .ref q_39, .ref n7_0, .ref n7_1])), (n7_0, .inr (3, [.ref q_21, .ref q_29, .ref q_39])), (n7_1, .inr (0, [.ref q_21, .ref q_29, .ref q_39, .ref n7_2, .ref n7_4, .int (iI 0), .int (iI 0), .int (iI 0)])), (n7_2, .inr (5, [.ref n7_3, .int (iI 0)])), (n7_3, .inl (gI G, 14, .inl (arI zIm))), (n7_4, .inl (gI G, 32, .inl (arI zIm)))] 88 [(0, .ref h), (1, .ref q_4), (2, .ref q_12), (3, .ref q_21), (4, .ref q_29), (5, .ref q_39)] [.ref q_75, .ref h]
  refine w_putI (ty := (.object "FsckDesk$Repairer")) (ws2 := [(h, .inr (8, [.ref q_4, .ref q_12, .ref q_62, .ref q_75, .null, .null])), (q_4, .inr (2, [.ref n1_0])), (n1_0, .inl (gI G, 4096, .inl (arI zIm))), (q_12, .inr (4, [.ref q_4, .long 0])), (q_21, .inr (2, [.ref n3_0])), (n3_0, .inl (gI G, 4096, .inl (arI zIm))), (q_29, .inr (4, [.ref q_21, .long 0])), (q_39, .inr (1, [.ref q_21, .ref q_29, .ref n5_0])), (n5_0, .inr (5, [.ref n5_1, .int (iI 0)])), (n5_1, .inl (gI G, 14, .inl (arI zIm))), (q_62, .inr (1, [.ref q_4, .ref q_12, .ref n6_0])), (n6_0, .inr (5, [.ref n6_1, .int (iI 0)])), (n6_1, .inl (gI G, 14, .inl (arI zIm))), (q_75, .inr (6, [.ref q_4, .ref q_21, .ref q_29, .ref q_39, .ref n7_0, .ref n7_1])), (n7_0, .inr (3, [.ref q_21, .ref q_29, .ref q_39])), (n7_1, .inr (0, [.ref q_21, .ref q_29, .ref q_39, .ref n7_2, .ref n7_4, .int (iI 0), .int (iI 0), .int (iI 0)])), (n7_2, .inr (5, [.ref n7_3, .int (iI 0)])), (n7_3, .inl (gI G, 14, .inl (arI zIm))), (n7_4, .inl (gI G, 32, .inl (arI zIm)))]) C hm 0 3 241 dX10_init_88 rfl rfl inX10 tyX10_ok nmX10 (by decide) (by decide +kernel) rfl rfl (by decide +kernel) rfl rfl (Nat.le_of_ble_eq_true rfl) rfl ?_
  refine w_aload_n C 0 dX10_init_91 rfl ?_
  refine w_newO (ci := 7) (fs := [.null, .null, .null]) C 220 221 73 dX10_init_92 rfl inX9 tyX9_ok (by decide +kernel) (by decide +kernel) (by decide +kernel) (fun j hj => by rcases (show j = 0 ∨ j = 1 ∨ j = 2 by omega) with rfl | rfl | rfl <;> rfl) (Nat.le_of_ble_eq_true rfl) (Nat.le_of_ble_eq_true rfl) (fun q_92 => ?_)
  show Wd G k 6 19 8304 [(h, .inr (8, [.ref q_4, .ref q_12, .ref q_62, .ref q_75, .null, .null])), (q_4, .inr (2, [.ref n1_0])), (n1_0, .inl (gI G, 4096, .inl (arI zIm))), (q_12, .inr (4, [.ref q_4, .long 0])), (q_21, .inr (2, [.ref n3_0])), (n3_0, .inl (gI G, 4096, .inl (arI zIm))), (q_29, .inr (4, [.ref q_21, .long 0])), (q_39, .inr (1, [.ref q_21, .ref q_29, .ref n5_0])), (n5_0, .inr (5, [.ref n5_1, .int (iI 0)])), (n5_1, .inl (gI G, 14, .inl (arI zIm))), (q_62, .inr (1, [.ref q_4, .ref q_12, .ref n6_0])), (n6_0, .inr (5, [.ref n6_1, .int (iI 0)])), (n6_1, .inl (gI G, 14, .inl (arI zIm))), (q_75, .inr (6, [.ref q_4, .ref q_21, .ref q_29, .ref q_39, .ref n7_0, .ref n7_1])), (n7_0, .inr (3, [.ref q_21, .ref q_29, .ref q_39])), (n7_1, .inr (0, [.ref q_21, .ref q_29, .ref q_39, .ref n7_2, .ref n7_4, .int (iI 0), .int (iI 0), .int (iI 0)])), (n7_2, .inr (5, [.ref n7_3, .int (iI 0)])), (n7_3, .inl (gI G, 14, .inl (arI zIm))), (n7_4, .inl (gI G, 32, .inl (arI zIm))), (q_92, .inr (7, [.null, .null, .null]))] 95 [(0, .ref h), (1, .ref q_4), (2, .ref q_12), (3, .ref q_21), (4, .ref q_29), (5, .ref q_39)] [.ref q_92, .ref h]
  refine w_dup C dX10_init_95 rfl ?_
  refine w_aload_n C 3 dX10_init_96 rfl ?_
  refine w_aload C 4 dX10_init_97 rfl ?_
  refine w_aload C 5 dX10_init_99 rfl ?_
  refine w_callI (As := [.ref q_21, .ref q_29, .ref q_39]) (rest := [.ref q_92, .ref h]) C (ct_X9_init G (kl k) q_92 q_21 q_29 q_39) gX10_45 dX10_init_101 rfl rfl (Nat.le_of_ble_eq_true rfl) (by decide) [19] rfl (by decide) (fun _ => rfl) (fun e_ => ?_)
  show Wd G k 6 19 8304 [(h, .inr (8, [.ref q_4, .ref q_12, .ref q_62, .ref q_75, .null, .null])), (q_4, .inr (2, [.ref n1_0])), (n1_0, .inl (gI G, 4096, .inl (arI zIm))), (q_12, .inr (4, [.ref q_4, .long 0])), (q_21, .inr (2, [.ref n3_0])), (n3_0, .inl (gI G, 4096, .inl (arI zIm))), (q_29, .inr (4, [.ref q_21, .long 0])), (q_39, .inr (1, [.ref q_21, .ref q_29, .ref n5_0])), (n5_0, .inr (5, [.ref n5_1, .int (iI 0)])), (n5_1, .inl (gI G, 14, .inl (arI zIm))), (q_62, .inr (1, [.ref q_4, .ref q_12, .ref n6_0])), (n6_0, .inr (5, [.ref n6_1, .int (iI 0)])), (n6_1, .inl (gI G, 14, .inl (arI zIm))), (q_75, .inr (6, [.ref q_4, .ref q_21, .ref q_29, .ref q_39, .ref n7_0, .ref n7_1])), (n7_0, .inr (3, [.ref q_21, .ref q_29, .ref q_39])), (n7_1, .inr (0, [.ref q_21, .ref q_29, .ref q_39, .ref n7_2, .ref n7_4, .int (iI 0), .int (iI 0), .int (iI 0)])), (n7_2, .inr (5, [.ref n7_3, .int (iI 0)])), (n7_3, .inl (gI G, 14, .inl (arI zIm))), (n7_4, .inl (gI G, 32, .inl (arI zIm))), (q_92, .inr (7, [.ref q_21, .ref q_29, .ref q_39]))] 104 [(0, .ref h), (1, .ref q_4), (2, .ref q_12), (3, .ref q_21), (4, .ref q_29), (5, .ref q_39)] [.ref q_92, .ref h]
  refine w_putI (ty := (.object "FsckDesk$Writer")) (ws2 := [(h, .inr (8, [.ref q_4, .ref q_12, .ref q_62, .ref q_75, .ref q_92, .null])), (q_4, .inr (2, [.ref n1_0])), (n1_0, .inl (gI G, 4096, .inl (arI zIm))), (q_12, .inr (4, [.ref q_4, .long 0])), (q_21, .inr (2, [.ref n3_0])), (n3_0, .inl (gI G, 4096, .inl (arI zIm))), (q_29, .inr (4, [.ref q_21, .long 0])), (q_39, .inr (1, [.ref q_21, .ref q_29, .ref n5_0])), (n5_0, .inr (5, [.ref n5_1, .int (iI 0)])), (n5_1, .inl (gI G, 14, .inl (arI zIm))), (q_62, .inr (1, [.ref q_4, .ref q_12, .ref n6_0])), (n6_0, .inr (5, [.ref n6_1, .int (iI 0)])), (n6_1, .inl (gI G, 14, .inl (arI zIm))), (q_75, .inr (6, [.ref q_4, .ref q_21, .ref q_29, .ref q_39, .ref n7_0, .ref n7_1])), (n7_0, .inr (3, [.ref q_21, .ref q_29, .ref q_39])), (n7_1, .inr (0, [.ref q_21, .ref q_29, .ref q_39, .ref n7_2, .ref n7_4, .int (iI 0), .int (iI 0), .int (iI 0)])), (n7_2, .inr (5, [.ref n7_3, .int (iI 0)])), (n7_3, .inl (gI G, 14, .inl (arI zIm))), (n7_4, .inl (gI G, 32, .inl (arI zIm))), (q_92, .inr (7, [.ref q_21, .ref q_29, .ref q_39]))]) C hm 0 4 242 dX10_init_104 rfl rfl inX10 tyX10_ok nmX10 (by decide) (by decide +kernel) rfl rfl (by decide +kernel) rfl rfl (Nat.le_of_ble_eq_true rfl) rfl ?_
  refine w_aload_n C 0 dX10_init_107 rfl ?_
  refine w_newO (ci := 5) (fs := [.null, .int (iI 0)]) C 236 124 69 dX10_init_108 rfl inX6 tyX6_ok (by decide +kernel) (by decide +kernel) (by decide +kernel) (fun j hj => by rcases (show j = 0 ∨ j = 1 by omega) with rfl | rfl <;> rfl) (Nat.le_of_ble_eq_true rfl) (Nat.le_of_ble_eq_true rfl) (fun q_108 => ?_)
  show Wd G k 6 20 8306 [(h, .inr (8, [.ref q_4, .ref q_12, .ref q_62, .ref q_75, .ref q_92, .null])), (q_4, .inr (2, [.ref n1_0])), (n1_0, .inl (gI G, 4096, .inl (arI zIm))), (q_12, .inr (4, [.ref q_4, .long 0])), (q_21, .inr (2, [.ref n3_0])), (n3_0, .inl (gI G, 4096, .inl (arI zIm))), (q_29, .inr (4, [.ref q_21, .long 0])), (q_39, .inr (1, [.ref q_21, .ref q_29, .ref n5_0])), (n5_0, .inr (5, [.ref n5_1, .int (iI 0)])), (n5_1, .inl (gI G, 14, .inl (arI zIm))), (q_62, .inr (1, [.ref q_4, .ref q_12, .ref n6_0])), (n6_0, .inr (5, [.ref n6_1, .int (iI 0)])), (n6_1, .inl (gI G, 14, .inl (arI zIm))), (q_75, .inr (6, [.ref q_4, .ref q_21, .ref q_29, .ref q_39, .ref n7_0, .ref n7_1])), (n7_0, .inr (3, [.ref q_21, .ref q_29, .ref q_39])), (n7_1, .inr (0, [.ref q_21, .ref q_29, .ref q_39, .ref n7_2, .ref n7_4, .int (iI 0), .int (iI 0), .int (iI 0)])), (n7_2, .inr (5, [.ref n7_3, .int (iI 0)])), (n7_3, .inl (gI G, 14, .inl (arI zIm))), (n7_4, .inl (gI G, 32, .inl (arI zIm))), (q_92, .inr (7, [.ref q_21, .ref q_29, .ref q_39])), (q_108, .inr (5, [.null, .int (iI 0)]))] 111 [(0, .ref h), (1, .ref q_4), (2, .ref q_12), (3, .ref q_21), (4, .ref q_29), (5, .ref q_39)] [.ref q_108, .ref h]
  refine w_dup C dX10_init_111 rfl ?_
  refine w_callIN (As := []) (rest := [.ref q_108, .ref h]) C (ct_X6_init G (kl k) q_108) gX10_54 dX10_init_112 rfl rfl (Nat.le_of_ble_eq_true rfl) (by decide) [20] rfl (by decide) (fun _ => rfl) (fun e_ => ?_)
  revert e_; intro n9_0
  show Wd G k 6 21 8320 [(h, .inr (8, [.ref q_4, .ref q_12, .ref q_62, .ref q_75, .ref q_92, .null])), (q_4, .inr (2, [.ref n1_0])), (n1_0, .inl (gI G, 4096, .inl (arI zIm))), (q_12, .inr (4, [.ref q_4, .long 0])), (q_21, .inr (2, [.ref n3_0])), (n3_0, .inl (gI G, 4096, .inl (arI zIm))), (q_29, .inr (4, [.ref q_21, .long 0])), (q_39, .inr (1, [.ref q_21, .ref q_29, .ref n5_0])), (n5_0, .inr (5, [.ref n5_1, .int (iI 0)])), (n5_1, .inl (gI G, 14, .inl (arI zIm))), (q_62, .inr (1, [.ref q_4, .ref q_12, .ref n6_0])), (n6_0, .inr (5, [.ref n6_1, .int (iI 0)])), (n6_1, .inl (gI G, 14, .inl (arI zIm))), (q_75, .inr (6, [.ref q_4, .ref q_21, .ref q_29, .ref q_39, .ref n7_0, .ref n7_1])), (n7_0, .inr (3, [.ref q_21, .ref q_29, .ref q_39])), (n7_1, .inr (0, [.ref q_21, .ref q_29, .ref q_39, .ref n7_2, .ref n7_4, .int (iI 0), .int (iI 0), .int (iI 0)])), (n7_2, .inr (5, [.ref n7_3, .int (iI 0)])), (n7_3, .inl (gI G, 14, .inl (arI zIm))), (n7_4, .inl (gI G, 32, .inl (arI zIm))), (q_92, .inr (7, [.ref q_21, .ref q_29, .ref q_39])), (q_108, .inr (5, [.ref n9_0, .int (iI 0)])), (n9_0, .inl (gI G, 14, .inl (arI zIm)))] 115 [(0, .ref h), (1, .ref q_4), (2, .ref q_12), (3, .ref q_21), (4, .ref q_29), (5, .ref q_39)] [.ref q_108, .ref h]
  refine w_putI (ty := (.object "FsckDesk$Name")) (ws2 := [(h, .inr (8, [.ref q_4, .ref q_12, .ref q_62, .ref q_75, .ref q_92, .ref q_108])), (q_4, .inr (2, [.ref n1_0])), (n1_0, .inl (gI G, 4096, .inl (arI zIm))), (q_12, .inr (4, [.ref q_4, .long 0])), (q_21, .inr (2, [.ref n3_0])), (n3_0, .inl (gI G, 4096, .inl (arI zIm))), (q_29, .inr (4, [.ref q_21, .long 0])), (q_39, .inr (1, [.ref q_21, .ref q_29, .ref n5_0])), (n5_0, .inr (5, [.ref n5_1, .int (iI 0)])), (n5_1, .inl (gI G, 14, .inl (arI zIm))), (q_62, .inr (1, [.ref q_4, .ref q_12, .ref n6_0])), (n6_0, .inr (5, [.ref n6_1, .int (iI 0)])), (n6_1, .inl (gI G, 14, .inl (arI zIm))), (q_75, .inr (6, [.ref q_4, .ref q_21, .ref q_29, .ref q_39, .ref n7_0, .ref n7_1])), (n7_0, .inr (3, [.ref q_21, .ref q_29, .ref q_39])), (n7_1, .inr (0, [.ref q_21, .ref q_29, .ref q_39, .ref n7_2, .ref n7_4, .int (iI 0), .int (iI 0), .int (iI 0)])), (n7_2, .inr (5, [.ref n7_3, .int (iI 0)])), (n7_3, .inl (gI G, 14, .inl (arI zIm))), (n7_4, .inl (gI G, 32, .inl (arI zIm))), (q_92, .inr (7, [.ref q_21, .ref q_29, .ref q_39])), (q_108, .inr (5, [.ref n9_0, .int (iI 0)])), (n9_0, .inl (gI G, 14, .inl (arI zIm)))]) C hm 0 5 243 dX10_init_115 rfl rfl inX10 tyX10_ok nmX10 (by decide) (by decide +kernel) rfl rfl (by decide +kernel) rfl rfl (Nat.le_of_ble_eq_true rfl) rfl ?_
  exact w_retv hret dX10_init_118 rfl rfl rfl ⟨(q_4, n1_0, q_12, q_21, n3_0, q_29, q_39, n5_0, n5_1, q_62, n6_0, n6_1, q_75, n7_0, n7_1, n7_2, n7_3, n7_4, q_92, q_108, n9_0), rfl, rfl⟩

abbrev rmX11_init : Room := { frames := 1, cells := 6, slots := 8334, locals := 20 }
set_option maxHeartbeats 4000000 in
set_option maxRecDepth 100000 in
theorem ct_X11_init (G : GX) (l : Launch) (h : Nat) : CtI (E := Nat × Nat × Nat × Nat × Nat × Nat) G l yX11_init cX11_init 1 rmX11_init [.ref h] [(h, .inr (9, [.null, .null, .null, .null, .null, .int (iI 0), .int (iI 0), .null, .int (iI 0)]))] (fun e_ => [(h, .inr (9, [.ref e_.1, .ref e_.2.1, .ref e_.2.2.1, .ref e_.2.2.2.1, .ref e_.2.2.2.2.1, .int (iI 0), .int (iI 0), .ref e_.2.2.2.2.2, .int (iI 0)]))]) (fun e_ => [(e_.1, .inl (gI G, 4096, .inl (arI zIm))), (e_.2.1, .inl (gI G, 4096, .inl (arI zIm))), (e_.2.2.1, .inl (gZ G, 64, .inl (arB (fun _ => false)))), (e_.2.2.2.1, .inl (gZ G, 32, .inl (arB (fun _ => false)))), (e_.2.2.2.2.1, .inl (gI G, 32, .inl (arI zIm))), (e_.2.2.2.2.2, .inl (gI G, 14, .inl (arI zIm)))]) := by
  refine Ct.ofI (by decide) (Nat.le_of_ble_eq_true rfl) ?_
  intro k C hl hm hret
  subst hl
  replace hm : k.2.1.2.2.2.1.name = "<init>" := hm
  refine w_lv (lv2 := [(0, .ref h)]) [0] rfl ?_
  refine w_aload_n C 0 dX11_init_0 rfl ?_
  refine w_objI C 845 91 92 (by decide +kernel) (by decide +kernel) (by decide +kernel) dX11_init_1 (by decide) (by decide) ?_
  refine w_aload_n C 0 dX11_init_4 rfl ?_
  refine w_sipush C dX11_init_5 (by decide) ?_
  refine w_newI C 4096 103 dX11_init_8 (by decide +kernel) (by decide) (by decide) (by decide) (Nat.le_of_ble_eq_true rfl) (Nat.le_of_ble_eq_true rfl) (fun q_8 => ?_)
  show Wd G k 1 1 4096 [(h, .inr (9, [.null, .null, .null, .null, .null, .int (iI 0), .int (iI 0), .null, .int (iI 0)])), (q_8, .inl (gI G, 4096, .inl (arI zIm)))] 10 [(0, .ref h)] [.ref q_8, .ref h]
  refine w_putI (ty := (.array .int)) (ws2 := [(h, .inr (9, [.ref q_8, .null, .null, .null, .null, .int (iI 0), .int (iI 0), .null, .int (iI 0)])), (q_8, .inl (gI G, 4096, .inl (arI zIm)))]) C hm 0 0 846 dX11_init_10 rfl rfl inX11 tyX11_ok nmX11 (by decide) (by decide +kernel) rfl rfl (by decide +kernel) rfl rfl (Nat.le_of_ble_eq_true rfl) rfl ?_
  refine w_aload_n C 0 dX11_init_13 rfl ?_
  refine w_sipush C dX11_init_14 (by decide) ?_
  refine w_newI C 4096 103 dX11_init_17 (by decide +kernel) (by decide) (by decide) (by decide) (Nat.le_of_ble_eq_true rfl) (Nat.le_of_ble_eq_true rfl) (fun q_17 => ?_)
  show Wd G k 1 2 8192 [(h, .inr (9, [.ref q_8, .null, .null, .null, .null, .int (iI 0), .int (iI 0), .null, .int (iI 0)])), (q_8, .inl (gI G, 4096, .inl (arI zIm))), (q_17, .inl (gI G, 4096, .inl (arI zIm)))] 19 [(0, .ref h)] [.ref q_17, .ref h]
  refine w_putI (ty := (.array .int)) (ws2 := [(h, .inr (9, [.ref q_8, .ref q_17, .null, .null, .null, .int (iI 0), .int (iI 0), .null, .int (iI 0)])), (q_8, .inl (gI G, 4096, .inl (arI zIm))), (q_17, .inl (gI G, 4096, .inl (arI zIm)))]) C hm 0 1 847 dX11_init_19 rfl rfl inX11 tyX11_ok nmX11 (by decide) (by decide +kernel) rfl rfl (by decide +kernel) rfl rfl (Nat.le_of_ble_eq_true rfl) rfl ?_
  refine w_aload_n C 0 dX11_init_22 rfl ?_
  refine w_bipush C dX11_init_23 (by decide) ?_
  refine w_newZ C 64 874 dX11_init_25 (by decide +kernel) (by decide) (by decide) (by decide) (Nat.le_of_ble_eq_true rfl) (Nat.le_of_ble_eq_true rfl) (fun q_25 => ?_)
  show Wd G k 1 3 8256 [(h, .inr (9, [.ref q_8, .ref q_17, .null, .null, .null, .int (iI 0), .int (iI 0), .null, .int (iI 0)])), (q_8, .inl (gI G, 4096, .inl (arI zIm))), (q_17, .inl (gI G, 4096, .inl (arI zIm))), (q_25, .inl (gZ G, 64, .inl (arB (fun _ => false))))] 27 [(0, .ref h)] [.ref q_25, .ref h]
  refine w_putI (ty := (.array .boolean)) (ws2 := [(h, .inr (9, [.ref q_8, .ref q_17, .ref q_25, .null, .null, .int (iI 0), .int (iI 0), .null, .int (iI 0)])), (q_8, .inl (gI G, 4096, .inl (arI zIm))), (q_17, .inl (gI G, 4096, .inl (arI zIm))), (q_25, .inl (gZ G, 64, .inl (arB (fun _ => false))))]) C hm 0 2 848 dX11_init_27 rfl rfl inX11 tyX11_ok nmX11 (by decide) (by decide +kernel) rfl rfl (by decide +kernel) rfl rfl (Nat.le_of_ble_eq_true rfl) rfl ?_
  refine w_aload_n C 0 dX11_init_30 rfl ?_
  refine w_bipush C dX11_init_31 (by decide) ?_
  refine w_newZ C 32 874 dX11_init_33 (by decide +kernel) (by decide) (by decide) (by decide) (Nat.le_of_ble_eq_true rfl) (Nat.le_of_ble_eq_true rfl) (fun q_33 => ?_)
  show Wd G k 1 4 8288 [(h, .inr (9, [.ref q_8, .ref q_17, .ref q_25, .null, .null, .int (iI 0), .int (iI 0), .null, .int (iI 0)])), (q_8, .inl (gI G, 4096, .inl (arI zIm))), (q_17, .inl (gI G, 4096, .inl (arI zIm))), (q_25, .inl (gZ G, 64, .inl (arB (fun _ => false)))), (q_33, .inl (gZ G, 32, .inl (arB (fun _ => false))))] 35 [(0, .ref h)] [.ref q_33, .ref h]
  refine w_putI (ty := (.array .boolean)) (ws2 := [(h, .inr (9, [.ref q_8, .ref q_17, .ref q_25, .ref q_33, .null, .int (iI 0), .int (iI 0), .null, .int (iI 0)])), (q_8, .inl (gI G, 4096, .inl (arI zIm))), (q_17, .inl (gI G, 4096, .inl (arI zIm))), (q_25, .inl (gZ G, 64, .inl (arB (fun _ => false)))), (q_33, .inl (gZ G, 32, .inl (arB (fun _ => false))))]) C hm 0 3 849 dX11_init_35 rfl rfl inX11 tyX11_ok nmX11 (by decide) (by decide +kernel) rfl rfl (by decide +kernel) rfl rfl (Nat.le_of_ble_eq_true rfl) rfl ?_
  refine w_aload_n C 0 dX11_init_38 rfl ?_
  refine w_bipush C dX11_init_39 (by decide) ?_
  refine w_newI C 32 103 dX11_init_41 (by decide +kernel) (by decide) (by decide) (by decide) (Nat.le_of_ble_eq_true rfl) (Nat.le_of_ble_eq_true rfl) (fun q_41 => ?_)
  show Wd G k 1 5 8320 [(h, .inr (9, [.ref q_8, .ref q_17, .ref q_25, .ref q_33, .null, .int (iI 0), .int (iI 0), .null, .int (iI 0)])), (q_8, .inl (gI G, 4096, .inl (arI zIm))), (q_17, .inl (gI G, 4096, .inl (arI zIm))), (q_25, .inl (gZ G, 64, .inl (arB (fun _ => false)))), (q_33, .inl (gZ G, 32, .inl (arB (fun _ => false)))), (q_41, .inl (gI G, 32, .inl (arI zIm)))] 43 [(0, .ref h)] [.ref q_41, .ref h]
  refine w_putI (ty := (.array .int)) (ws2 := [(h, .inr (9, [.ref q_8, .ref q_17, .ref q_25, .ref q_33, .ref q_41, .int (iI 0), .int (iI 0), .null, .int (iI 0)])), (q_8, .inl (gI G, 4096, .inl (arI zIm))), (q_17, .inl (gI G, 4096, .inl (arI zIm))), (q_25, .inl (gZ G, 64, .inl (arB (fun _ => false)))), (q_33, .inl (gZ G, 32, .inl (arB (fun _ => false)))), (q_41, .inl (gI G, 32, .inl (arI zIm)))]) C hm 0 4 850 dX11_init_43 rfl rfl inX11 tyX11_ok nmX11 (by decide) (by decide +kernel) rfl rfl (by decide +kernel) rfl rfl (Nat.le_of_ble_eq_true rfl) rfl ?_
  refine w_aload_n C 0 dX11_init_46 rfl ?_
  refine w_bipush C dX11_init_47 (by decide) ?_
  refine w_newI C 14 103 dX11_init_49 (by decide +kernel) (by decide) (by decide) (by decide) (Nat.le_of_ble_eq_true rfl) (Nat.le_of_ble_eq_true rfl) (fun q_49 => ?_)
  show Wd G k 1 6 8334 [(h, .inr (9, [.ref q_8, .ref q_17, .ref q_25, .ref q_33, .ref q_41, .int (iI 0), .int (iI 0), .null, .int (iI 0)])), (q_8, .inl (gI G, 4096, .inl (arI zIm))), (q_17, .inl (gI G, 4096, .inl (arI zIm))), (q_25, .inl (gZ G, 64, .inl (arB (fun _ => false)))), (q_33, .inl (gZ G, 32, .inl (arB (fun _ => false)))), (q_41, .inl (gI G, 32, .inl (arI zIm))), (q_49, .inl (gI G, 14, .inl (arI zIm)))] 51 [(0, .ref h)] [.ref q_49, .ref h]
  refine w_putI (ty := (.array .int)) (ws2 := [(h, .inr (9, [.ref q_8, .ref q_17, .ref q_25, .ref q_33, .ref q_41, .int (iI 0), .int (iI 0), .ref q_49, .int (iI 0)])), (q_8, .inl (gI G, 4096, .inl (arI zIm))), (q_17, .inl (gI G, 4096, .inl (arI zIm))), (q_25, .inl (gZ G, 64, .inl (arB (fun _ => false)))), (q_33, .inl (gZ G, 32, .inl (arB (fun _ => false)))), (q_41, .inl (gI G, 32, .inl (arI zIm))), (q_49, .inl (gI G, 14, .inl (arI zIm)))]) C hm 0 7 853 dX11_init_51 rfl rfl inX11 tyX11_ok nmX11 (by decide) (by decide +kernel) rfl rfl (by decide +kernel) rfl rfl (Nat.le_of_ble_eq_true rfl) rfl ?_
  exact w_retv hret dX11_init_54 rfl rfl rfl ⟨(q_8, q_17, q_25, q_33, q_41, q_49), rfl, rfl⟩
