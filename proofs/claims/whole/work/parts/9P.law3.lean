/-! THE LAW: ITS LOOP -/
section LAWL
variable {G : GX} {p : Program} {l : Launch} {e : Env} {s : State} {mm : MethodId} {below : List Frame} {meth : Method} {c : Code} {b0 L : Nat} {xs : Nat → Int32}
variable {h kg kb ko kt km rp g b o dd m mb ip co cm cmb cq wr wn wnb : Nat} {h2 a2 b2 tk2 re2 qu2 nm2 : Nat}
set_option maxHeartbeats 4000000 in
set_option maxRecDepth 100000 in
theorem law_loop (C0 : lw_At p s mm meth c b0 L xs) (hL : L ≤ 2560) (C : Cx G (kL p l e s mm below meth c b0) cL_law RL 4 room_1) : ∀ (nn : Nat) (i : Int) (dk : Im) (wA wB : va_W), FD G h kg kb ko kt km rp g b o dd m mb ip co cm cmb cq wr wn wnb dk wA → RM G h2 a2 b2 tk2 re2 qu2 nm2 dk wB → (0 ≤ i ∧ i ≤ L) → (3000 - i).toNat = nn → Wd G (kL p l e s mm below meth c b0) 4 29 16669 (wA ++ wB) 18 [(0, .ref b0), (1, .ref h), (2, .ref h2), (3, .int (iI i))] [] := by
  intro nn
  induction nn using Nat.strongRecOn with
  | ind nn ih =>
    intro i dk wA wB hF hB hi hm
    refine w_iload_n C 3 dL_law_18 rfl ?_
    refine w_aload_n C 0 dL_law_19 rfl ?_
    refine w_slenX C0 dL_law_20 ?_
    refine w_iconst C dL_law_21 ?_
    refine w_isub C dL_law_22 ?_
    refine w_icmp_gt C 672 dL_law_23 rfl (by omega) (fun c1 => ?_) (fun c1 => ?_)
    · refine w_iconst C dL_law_672 ?_
      exact w_endX C0 dL_law_673
    · have back : ∀ dk2 wA2 wB2, FD G h kg kb ko kt km rp g b o dd m mb ip co cm cmb cq wr wn wnb dk2 wA2 → RM G h2 a2 b2 tk2 re2 qu2 nm2 dk2 wB2 → Wd G (kL p l e s mm below meth c b0) 4 29 16669 (wA2 ++ wB2) 666 [(0, .ref b0), (1, .ref h), (2, .ref h2), (3, .int (iI i))] [] := fun dk2 wA2 wB2 hF2 hB2 => by
        refine w_iinc (lv2 := [(0, .ref b0), (1, .ref h), (2, .ref h2), (3, .int (iI (i + 5)))]) C 3 dL_law_666 rfl (by decide) rfl ?_
        refine w_goto C 18 dL_law_669 rfl ?_
        exact ih _ (by omega) (i + 5) dk2 wA2 wB2 hF2 hB2 (by omega) rfl
      refine w_aload_n C 0 dL_law_26 rfl ?_
      refine w_iload_n C 3 dL_law_27 rfl ?_
      refine w_sldX C0 hL (by omega) dL_law_28 ?_
      refine w_bipush C dL_law_29 (by decide) ?_
      generalize hv : (iI (zs xs i) &&& iI 15).toInt = v
      refine w_iand (v := iI v) C dL_law_31 (by rw [← hv, iI_of]) ?_
      have hr : -2147483648 ≤ v ∧ v < 2147483648 := by rw [← hv]; exact iI_rg _
      by_cases hc : v < 0 ∨ 13 < v
      · exact w_tsOut C 666 dL_law_32 ⟨hc, hr⟩ rfl (back dk wA wB hF hB)
      · rcases (show v = 0 ∨ v = 1 ∨ v = 2 ∨ v = 3 ∨ v = 4 ∨ v = 5 ∨ v = 6 ∨ v = 7 ∨ v = 8 ∨ v = 9 ∨ v = 10 ∨ v = 11 ∨ v = 12 ∨ v = 13 by omega) with h0 | h0 | h0 | h0 | h0 | h0 | h0 | h0 | h0 | h0 | h0 | h0 | h0 | h0
        · subst h0; exact w_tsIn C 104 dL_law_32 (by omega) rfl rfl (law_c0 C0 hL C hF hB (by omega) back)
        · subst h0; exact w_tsIn C 117 dL_law_32 (by omega) rfl rfl (law_c1 C0 hL C hF hB (by omega) back)
        · subst h0; exact w_tsIn C 150 dL_law_32 (by omega) rfl rfl (law_c2 C0 hL C hF hB (by omega) back)
        · subst h0; exact w_tsIn C 173 dL_law_32 (by omega) rfl rfl (law_c3 C0 hL C hF hB (by omega) back)
        · subst h0; exact w_tsIn C 196 dL_law_32 (by omega) rfl rfl (law_c4 C0 hL C hF hB (by omega) back)
        · subst h0; exact w_tsIn C 259 dL_law_32 (by omega) rfl rfl (law_c5 C0 hL C hF hB (by omega) back)
        · subst h0; exact w_tsIn C 272 dL_law_32 (by omega) rfl rfl (law_c6 C0 hL C hF hB (by omega) back)
        · subst h0; exact w_tsIn C 295 dL_law_32 (by omega) rfl rfl (law_c7 C0 hL C hF hB (by omega) back)
        · subst h0; exact w_tsIn C 328 dL_law_32 (by omega) rfl rfl (law_c8 C0 hL C hF hB (by omega) back)
        · subst h0; exact w_tsIn C 361 dL_law_32 (by omega) rfl rfl (law_c9 C0 hL C hF hB (by omega) back)
        · subst h0; exact w_tsIn C 424 dL_law_32 (by omega) rfl rfl (law_c10 C0 hL C hF hB (by omega) back)
        · subst h0; exact w_tsIn C 497 dL_law_32 (by omega) rfl rfl (law_c11 C0 hL C hF hB (by omega) back)
        · subst h0; exact w_tsIn C 530 dL_law_32 (by omega) rfl rfl (law_c12 C0 hL C hF hB (by omega) back)
        · subst h0; exact w_tsIn C 603 dL_law_32 (by omega) rfl rfl (law_c13 C0 hL C hF hB (by omega) back)
end LAWL
theorem gL_9 : cwi RL 9 yX10_init cX10_init 6 0 87 88 65 89 := by decide +kernel
theorem gL_12 : cwi RL 12 yX11_init cX11_init 1 0 842 843 74 844 := by decide +kernel
set_option maxHeartbeats 4000000 in
set_option maxRecDepth 100000 in
theorem law_key {G : GX} {p : Program} {l : Launch} {e : Env} {s : State} {mm : MethodId} {below : List Frame} {meth : Method} {c : Code} {b0 L : Nat} {xs : Nat → Int32} (C0 : lw_At p s mm meth c b0 L xs) (hL : L ≤ 2560) (C : Cx G (kL p l e s mm below meth c b0) cL_law RL 4 room_1) : Wd G (kL p l e s mm below meth c b0) 4 0 0 [] 0 (lv_args 0 [.ref b0]) [] := by
  refine w_lv (lv2 := [(0, .ref b0)]) [0] rfl ?_
  refine w_newO (ci := 8) (fs := [.null, .null, .null, .null, .null, .null]) C 85 86 65 dL_law_0 rfl inX10 tyX10_ok (by decide +kernel) (by decide +kernel) (by decide +kernel) (fun j hj => by rcases (show j = 0 ∨ j = 1 ∨ j = 2 ∨ j = 3 ∨ j = 4 ∨ j = 5 by omega) with rfl | rfl | rfl | rfl | rfl | rfl <;> rfl) (Nat.le_of_ble_eq_true rfl) (Nat.le_of_ble_eq_true rfl) (fun q_0 => ?_)
  show Wd G (kL p l e s mm below meth c b0) 4 1 6 [(q_0, .inr (8, [.null, .null, .null, .null, .null, .null]))] 3 [(0, .ref b0)] [.ref q_0]
  refine w_dup C dL_law_3 rfl ?_
  refine w_callI (As := []) (rest := [.ref q_0]) C (ct_X10_init G l q_0) gL_9 dL_law_4 rfl rfl (Nat.le_of_ble_eq_true rfl) (by decide) [0] rfl (by decide) (fun _ => rfl) (fun e_ => ?_)
  obtain ⟨n1_0, n1_1, n1_2, n1_3, n1_4, n1_5, n1_6, n1_7, n1_8, n1_9, n1_10, n1_11, n1_12, n1_13, n1_14, n1_15, n1_16, n1_17, n1_18, n1_19, n1_20⟩ := e_
  show Wd G (kL p l e s mm below meth c b0) 4 22 8326 [(q_0, .inr (8, [.ref n1_0, .ref n1_2, .ref n1_9, .ref n1_12, .ref n1_18, .ref n1_19])), (n1_0, .inr (2, [.ref n1_1])), (n1_1, .inl (gI G, 4096, .inl (arI zIm))), (n1_2, .inr (4, [.ref n1_0, .long 0])), (n1_3, .inr (2, [.ref n1_4])), (n1_4, .inl (gI G, 4096, .inl (arI zIm))), (n1_5, .inr (4, [.ref n1_3, .long 0])), (n1_6, .inr (1, [.ref n1_3, .ref n1_5, .ref n1_7])), (n1_7, .inr (5, [.ref n1_8, .int (iI 0)])), (n1_8, .inl (gI G, 14, .inl (arI zIm))), (n1_9, .inr (1, [.ref n1_0, .ref n1_2, .ref n1_10])), (n1_10, .inr (5, [.ref n1_11, .int (iI 0)])), (n1_11, .inl (gI G, 14, .inl (arI zIm))), (n1_12, .inr (6, [.ref n1_0, .ref n1_3, .ref n1_5, .ref n1_6, .ref n1_13, .ref n1_14])), (n1_13, .inr (3, [.ref n1_3, .ref n1_5, .ref n1_6])), (n1_14, .inr (0, [.ref n1_3, .ref n1_5, .ref n1_6, .ref n1_15, .ref n1_17, .int (iI 0), .int (iI 0), .int (iI 0)])), (n1_15, .inr (5, [.ref n1_16, .int (iI 0)])), (n1_16, .inl (gI G, 14, .inl (arI zIm))), (n1_17, .inl (gI G, 32, .inl (arI zIm))), (n1_18, .inr (7, [.ref n1_3, .ref n1_5, .ref n1_6])), (n1_19, .inr (5, [.ref n1_20, .int (iI 0)])), (n1_20, .inl (gI G, 14, .inl (arI zIm)))] 7 [(0, .ref b0)] [.ref q_0]
  refine w_astore_n (lv2 := [(0, .ref b0), (1, .ref q_0)]) C dL_law_7 (by decide) rfl ?_
  refine w_newO (ci := 9) (fs := [.null, .null, .null, .null, .null, .int (iI 0), .int (iI 0), .null, .int (iI 0)]) C 840 841 74 dL_law_8 rfl inX11 tyX11_ok (by decide +kernel) (by decide +kernel) (by decide +kernel) (fun j hj => by rcases (show j = 0 ∨ j = 1 ∨ j = 2 ∨ j = 3 ∨ j = 4 ∨ j = 5 ∨ j = 6 ∨ j = 7 ∨ j = 8 by omega) with rfl | rfl | rfl | rfl | rfl | rfl | rfl | rfl | rfl <;> rfl) (Nat.le_of_ble_eq_true rfl) (Nat.le_of_ble_eq_true rfl) (fun q_8 => ?_)
  show Wd G (kL p l e s mm below meth c b0) 4 23 8335 [(q_0, .inr (8, [.ref n1_0, .ref n1_2, .ref n1_9, .ref n1_12, .ref n1_18, .ref n1_19])), (n1_0, .inr (2, [.ref n1_1])), (n1_1, .inl (gI G, 4096, .inl (arI zIm))), (n1_2, .inr (4, [.ref n1_0, .long 0])), (n1_3, .inr (2, [.ref n1_4])), (n1_4, .inl (gI G, 4096, .inl (arI zIm))), (n1_5, .inr (4, [.ref n1_3, .long 0])), (n1_6, .inr (1, [.ref n1_3, .ref n1_5, .ref n1_7])), (n1_7, .inr (5, [.ref n1_8, .int (iI 0)])), (n1_8, .inl (gI G, 14, .inl (arI zIm))), (n1_9, .inr (1, [.ref n1_0, .ref n1_2, .ref n1_10])), (n1_10, .inr (5, [.ref n1_11, .int (iI 0)])), (n1_11, .inl (gI G, 14, .inl (arI zIm))), (n1_12, .inr (6, [.ref n1_0, .ref n1_3, .ref n1_5, .ref n1_6, .ref n1_13, .ref n1_14])), (n1_13, .inr (3, [.ref n1_3, .ref n1_5, .ref n1_6])), (n1_14, .inr (0, [.ref n1_3, .ref n1_5, .ref n1_6, .ref n1_15, .ref n1_17, .int (iI 0), .int (iI 0), .int (iI 0)])), (n1_15, .inr (5, [.ref n1_16, .int (iI 0)])), (n1_16, .inl (gI G, 14, .inl (arI zIm))), (n1_17, .inl (gI G, 32, .inl (arI zIm))), (n1_18, .inr (7, [.ref n1_3, .ref n1_5, .ref n1_6])), (n1_19, .inr (5, [.ref n1_20, .int (iI 0)])), (n1_20, .inl (gI G, 14, .inl (arI zIm))), (q_8, .inr (9, [.null, .null, .null, .null, .null, .int (iI 0), .int (iI 0), .null, .int (iI 0)]))] 11 [(0, .ref b0), (1, .ref q_0)] [.ref q_8]
  refine w_dup C dL_law_11 rfl ?_
  refine w_callI (As := []) (rest := [.ref q_8]) C (ct_X11_init G l q_8) gL_12 dL_law_12 rfl rfl (Nat.le_of_ble_eq_true rfl) (by decide) [22] rfl (by decide) (fun _ => rfl) (fun e_ => ?_)
  obtain ⟨n2_0, n2_1, n2_2, n2_3, n2_4, n2_5⟩ := e_
  show Wd G (kL p l e s mm below meth c b0) 4 29 16669 [(q_0, .inr (8, [.ref n1_0, .ref n1_2, .ref n1_9, .ref n1_12, .ref n1_18, .ref n1_19])), (n1_0, .inr (2, [.ref n1_1])), (n1_1, .inl (gI G, 4096, .inl (arI zIm))), (n1_2, .inr (4, [.ref n1_0, .long 0])), (n1_3, .inr (2, [.ref n1_4])), (n1_4, .inl (gI G, 4096, .inl (arI zIm))), (n1_5, .inr (4, [.ref n1_3, .long 0])), (n1_6, .inr (1, [.ref n1_3, .ref n1_5, .ref n1_7])), (n1_7, .inr (5, [.ref n1_8, .int (iI 0)])), (n1_8, .inl (gI G, 14, .inl (arI zIm))), (n1_9, .inr (1, [.ref n1_0, .ref n1_2, .ref n1_10])), (n1_10, .inr (5, [.ref n1_11, .int (iI 0)])), (n1_11, .inl (gI G, 14, .inl (arI zIm))), (n1_12, .inr (6, [.ref n1_0, .ref n1_3, .ref n1_5, .ref n1_6, .ref n1_13, .ref n1_14])), (n1_13, .inr (3, [.ref n1_3, .ref n1_5, .ref n1_6])), (n1_14, .inr (0, [.ref n1_3, .ref n1_5, .ref n1_6, .ref n1_15, .ref n1_17, .int (iI 0), .int (iI 0), .int (iI 0)])), (n1_15, .inr (5, [.ref n1_16, .int (iI 0)])), (n1_16, .inl (gI G, 14, .inl (arI zIm))), (n1_17, .inl (gI G, 32, .inl (arI zIm))), (n1_18, .inr (7, [.ref n1_3, .ref n1_5, .ref n1_6])), (n1_19, .inr (5, [.ref n1_20, .int (iI 0)])), (n1_20, .inl (gI G, 14, .inl (arI zIm))), (q_8, .inr (9, [.ref n2_0, .ref n2_1, .ref n2_2, .ref n2_3, .ref n2_4, .int (iI 0), .int (iI 0), .ref n2_5, .int (iI 0)])), (n2_0, .inl (gI G, 4096, .inl (arI zIm))), (n2_1, .inl (gI G, 4096, .inl (arI zIm))), (n2_2, .inl (gZ G, 64, .inl (arB (fun _ => false)))), (n2_3, .inl (gZ G, 32, .inl (arB (fun _ => false)))), (n2_4, .inl (gI G, 32, .inl (arI zIm))), (n2_5, .inl (gI G, 14, .inl (arI zIm)))] 15 [(0, .ref b0), (1, .ref q_0)] [.ref q_8]
  refine w_astore_n (lv2 := [(0, .ref b0), (1, .ref q_0), (2, .ref q_8)]) C dL_law_15 (by decide) rfl ?_
  refine w_iconst C dL_law_16 ?_
  refine w_istore_n (lv2 := [(0, .ref b0), (1, .ref q_0), (2, .ref q_8), (3, .int (iI 0))]) C dL_law_17 (by decide) rfl ?_
  refine w_ord (ws2 := FDw G q_0 n1_0 n1_1 n1_2 n1_9 n1_10 n1_12 n1_3 n1_4 n1_5 n1_6 n1_7 n1_8 n1_13 n1_14 n1_15 n1_16 n1_17 n1_18 n1_19 n1_20 zIm 0 zIm 0 zIm 0 0 0 (iI 0) zIm zIm 0 zIm 0 ++ RW G q_8 n2_0 n2_1 n2_2 n2_3 n2_4 n2_5 zIm 0 0 0 zIm (fun _ => false) zIm (fun _ => false) zIm) [0, 1, 2, 3, 10, 13, 4, 5, 6, 7, 8, 9, 14, 15, 16, 17, 18, 19, 20, 21, 22, 23, 24, 26, 27, 25, 28] rfl (by decide) ?_
  exact law_loop C0 hL C _ 0 zIm _ _ ⟨0, zIm, 0, zIm, 0, 0, 0, iI 0, zIm, zIm, 0, zIm, 0, ⟨⟨by decide, by decide⟩, ⟨by decide, by decide⟩, ⟨by decide, by decide⟩⟩, rfl⟩ ⟨0, 0, 0, zIm, fun _ => false, zIm, fun _ => false, zIm, ⟨by decide, by decide⟩, rfl⟩ ⟨by decide, by omega⟩ rfl
set_option maxHeartbeats 4000000 in
set_option maxRecDepth 100000 in
theorem whole_start {p : Program} {e : Env} {s : State} {m : MethodId} {below : List Frame} {meth : Method} {c : Code} (l : Launch) {b L : Nat} {xs : Nat → Int32} (hL : L ≤ 2560) (C0 : lw_At p s m meth c b L xs) : W p l e room_1 s m #[Value.ref b] below meth c s.heap [] 0 0 (lw_Z below #[Value.ref b] s) (entryFrame m ([Value.ref b] : List Value).toArray 4) := by
  obtain ⟨G, hK, hSG⟩ := G_start C0
  have C : Cx G (kL p l e s m below meth c b) cL_law RL 4 room_1 := ⟨C0.1, C0.2.1, C0.2.2.2.1, C0.2.2.2.2.1, fun w hw => C0.2.2.2.2.2.1 w (List.mem_filter.mp hw).1, hK, fun q h => h, hSG, rfl⟩
  rw [lg_entry_eq]
  have key : Wd G (kL p l e s m below meth c b) 4 0 0 [] 0 (lv_args 0 [.ref b]) [] := law_key C0 hL C
  exact key s.heap [] _ (fun k q h => by simp at h) ⟨fun i j p q h => by simp at h, fun k q h => by simp at h⟩ va_S.rf (lv_entry [.ref b] (Nat.le_of_ble_eq_true rfl))
