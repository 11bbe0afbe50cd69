set_option maxHeartbeats 4000000 in
set_option maxRecDepth 100000 in
theorem ct_J13_bitCount_95d88 (G : GX) (l : Launch) (x : Int64) : Ct G l yJ13_bitCount_95d88 cJ13_bitCount_95d88 2 (some .int) rmJ13_bitCount_95d88 [.long x] [] (some (.int (iI (pcn x)))) [] := by
  refine Ct.of (by decide) (Nat.le_of_ble_eq_true rfl) ?_
  intro k C hl hret
  subst hl
  refine w_lv (lv2 := [(0, .long x)]) [0] rfl ?_
  refine w_lload_n C 0 dJ13_bitCount_95d88_0 rfl ?_
  refine w_lload_n C 0 dJ13_bitCount_95d88_1 rfl ?_
  refine w_iconst C dJ13_bitCount_95d88_2 ?_
  refine w_lushr (v := (x.toUInt64 >>> ((iI 1).toInt64.toUInt64 &&& Int64.toUInt64 63)).toInt64) C dJ13_bitCount_95d88_3 rfl ?_
  refine w_ldc2 (v := 6148914691236517205) C 488 dJ13_bitCount_95d88_4 (by decide +kernel) ?_
  refine w_land (v := ((x.toUInt64 >>> ((iI 1).toInt64.toUInt64 &&& Int64.toUInt64 63)).toInt64) &&& 6148914691236517205) C dJ13_bitCount_95d88_7 rfl ?_
  refine w_lsub (v := x - (((x.toUInt64 >>> ((iI 1).toInt64.toUInt64 &&& Int64.toUInt64 63)).toInt64) &&& 6148914691236517205)) C dJ13_bitCount_95d88_8 rfl ?_
  refine w_st (st2 := [.long (bs1 x)]) rfl ?_
  refine w_lstore_n (lv2 := [(0, .long (bs1 x))]) C dJ13_bitCount_95d88_9 (by decide) rfl ?_
  refine w_lload_n C 0 dJ13_bitCount_95d88_10 rfl ?_
  refine w_ldc2 (v := 3689348814741910323) C 489 dJ13_bitCount_95d88_11 (by decide +kernel) ?_
  refine w_land (v := (bs1 x) &&& 3689348814741910323) C dJ13_bitCount_95d88_14 rfl ?_
  refine w_lload_n C 0 dJ13_bitCount_95d88_15 rfl ?_
  refine w_iconst C dJ13_bitCount_95d88_16 ?_
  refine w_lushr (v := ((bs1 x).toUInt64 >>> ((iI 2).toInt64.toUInt64 &&& Int64.toUInt64 63)).toInt64) C dJ13_bitCount_95d88_17 rfl ?_
  refine w_ldc2 (v := 3689348814741910323) C 489 dJ13_bitCount_95d88_18 (by decide +kernel) ?_
  refine w_land (v := (((bs1 x).toUInt64 >>> ((iI 2).toInt64.toUInt64 &&& Int64.toUInt64 63)).toInt64) &&& 3689348814741910323) C dJ13_bitCount_95d88_21 rfl ?_
  refine w_ladd (v := ((bs1 x) &&& 3689348814741910323) + ((((bs1 x).toUInt64 >>> ((iI 2).toInt64.toUInt64 &&& Int64.toUInt64 63)).toInt64) &&& 3689348814741910323)) C dJ13_bitCount_95d88_22 rfl ?_
  refine w_st (st2 := [.long (bs2 (bs1 x))]) rfl ?_
  refine w_lstore_n (lv2 := [(0, .long (bs2 (bs1 x)))]) C dJ13_bitCount_95d88_23 (by decide) rfl ?_
  refine w_lload_n C 0 dJ13_bitCount_95d88_24 rfl ?_
  refine w_lload_n C 0 dJ13_bitCount_95d88_25 rfl ?_
  refine w_iconst C dJ13_bitCount_95d88_26 ?_
  refine w_lushr (v := ((bs2 (bs1 x)).toUInt64 >>> ((iI 4).toInt64.toUInt64 &&& Int64.toUInt64 63)).toInt64) C dJ13_bitCount_95d88_27 rfl ?_
  refine w_ladd (v := (bs2 (bs1 x)) + (((bs2 (bs1 x)).toUInt64 >>> ((iI 4).toInt64.toUInt64 &&& Int64.toUInt64 63)).toInt64)) C dJ13_bitCount_95d88_28 rfl ?_
  refine w_ldc2 (v := 1085102592571150095) C 490 dJ13_bitCount_95d88_29 (by decide +kernel) ?_
  refine w_land (v := ((bs2 (bs1 x)) + (((bs2 (bs1 x)).toUInt64 >>> ((iI 4).toInt64.toUInt64 &&& Int64.toUInt64 63)).toInt64)) &&& 1085102592571150095) C dJ13_bitCount_95d88_32 rfl ?_
  refine w_st (st2 := [.long (bs3 (bs2 (bs1 x)))]) rfl ?_
  refine w_lstore_n (lv2 := [(0, .long (bs3 (bs2 (bs1 x))))]) C dJ13_bitCount_95d88_33 (by decide) rfl ?_
  refine w_lload_n C 0 dJ13_bitCount_95d88_34 rfl ?_
  refine w_lload_n C 0 dJ13_bitCount_95d88_35 rfl ?_
  refine w_bipush C dJ13_bitCount_95d88_36 (by decide) ?_
  refine w_lushr (v := ((bs3 (bs2 (bs1 x))).toUInt64 >>> ((iI 8).toInt64.toUInt64 &&& Int64.toUInt64 63)).toInt64) C dJ13_bitCount_95d88_38 rfl ?_
  refine w_ladd (v := (bs3 (bs2 (bs1 x))) + (((bs3 (bs2 (bs1 x))).toUInt64 >>> ((iI 8).toInt64.toUInt64 &&& Int64.toUInt64 63)).toInt64)) C dJ13_bitCount_95d88_39 rfl ?_
  refine w_st (st2 := [.long (bs4 (bs3 (bs2 (bs1 x))))]) rfl ?_
  refine w_lstore_n (lv2 := [(0, .long (bs4 (bs3 (bs2 (bs1 x)))))]) C dJ13_bitCount_95d88_40 (by decide) rfl ?_
  refine w_lload_n C 0 dJ13_bitCount_95d88_41 rfl ?_
  refine w_lload_n C 0 dJ13_bitCount_95d88_42 rfl ?_
  refine w_bipush C dJ13_bitCount_95d88_43 (by decide) ?_
  refine w_lushr (v := ((bs4 (bs3 (bs2 (bs1 x)))).toUInt64 >>> ((iI 16).toInt64.toUInt64 &&& Int64.toUInt64 63)).toInt64) C dJ13_bitCount_95d88_45 rfl ?_
  refine w_ladd (v := (bs4 (bs3 (bs2 (bs1 x)))) + (((bs4 (bs3 (bs2 (bs1 x)))).toUInt64 >>> ((iI 16).toInt64.toUInt64 &&& Int64.toUInt64 63)).toInt64)) C dJ13_bitCount_95d88_46 rfl ?_
  refine w_st (st2 := [.long (bs5 (bs4 (bs3 (bs2 (bs1 x)))))]) rfl ?_
  refine w_lstore_n (lv2 := [(0, .long (bs5 (bs4 (bs3 (bs2 (bs1 x))))))]) C dJ13_bitCount_95d88_47 (by decide) rfl ?_
  refine w_lload_n C 0 dJ13_bitCount_95d88_48 rfl ?_
  refine w_lload_n C 0 dJ13_bitCount_95d88_49 rfl ?_
  refine w_bipush C dJ13_bitCount_95d88_50 (by decide) ?_
  refine w_lushr (v := ((bs5 (bs4 (bs3 (bs2 (bs1 x))))).toUInt64 >>> ((iI 32).toInt64.toUInt64 &&& Int64.toUInt64 63)).toInt64) C dJ13_bitCount_95d88_52 rfl ?_
  refine w_ladd (v := (bs5 (bs4 (bs3 (bs2 (bs1 x))))) + (((bs5 (bs4 (bs3 (bs2 (bs1 x))))).toUInt64 >>> ((iI 32).toInt64.toUInt64 &&& Int64.toUInt64 63)).toInt64)) C dJ13_bitCount_95d88_53 rfl ?_
  refine w_st (st2 := [.long (bs6 (bs5 (bs4 (bs3 (bs2 (bs1 x))))))]) rfl ?_
  refine w_lstore_n (lv2 := [(0, .long (bs6 (bs5 (bs4 (bs3 (bs2 (bs1 x)))))))]) C dJ13_bitCount_95d88_54 (by decide) rfl ?_
  refine w_lload_n C 0 dJ13_bitCount_95d88_55 rfl ?_
  refine w_l2i (v := (bs6 (bs5 (bs4 (bs3 (bs2 (bs1 x)))))).toInt32) C dJ13_bitCount_95d88_56 rfl ?_
  refine w_bipush C dJ13_bitCount_95d88_57 (by decide) ?_
  refine w_iand (v := (iI (pcn x))) C dJ13_bitCount_95d88_59 (by unfold pcn; rw [iI_of]) ?_
  exact w_reti hret dJ13_bitCount_95d88_60 rfl rfl rfl rfl ⟨rfl, rfl⟩

theorem gX4_65 : cwv RX4 65 yX4_blocksOf cX4_blocksOf 7 (some .long) 1 462 463 464 67 465 := by decide +kernel
set_option maxHeartbeats 4000000 in
set_option maxRecDepth 100000 in
theorem ct_X4_takeBlocks (G : GX) (l : Launch) (h : Nat) (g : Nat) (b : Nat) (tk : Int64) (d : Im) (i : Int) (hi : 0 ≤ i ∧ i < 32) : Ct G l yX4_takeBlocks cX4_takeBlocks 4 (some .boolean) rmX4_takeBlocks [.ref h, .int (iI i)] [(h, .inr (4, [.ref g, .long tk])), (g, .inr (2, [.ref b])), (b, .inl (gI G, 4096, .inl (arI d)))] (some (.int (iI (bI (tkB tk d i))))) [(h, .inr (4, [.ref g, .long (tkT tk d i)])), (g, .inr (2, [.ref b])), (b, .inl (gI G, 4096, .inl (arI d)))] := by
  refine Ct.of (by decide) (Nat.le_of_ble_eq_true rfl) ?_
  intro k C hl hret
  subst hl
  refine w_lv (lv2 := [(0, .ref h), (1, .int (iI i))]) [0, 1] rfl ?_
  refine w_aload_n C 0 dX4_takeBlocks_0 rfl ?_
  refine w_iload_n C 1 dX4_takeBlocks_1 rfl ?_
  refine w_callV (As := [.int (iI i)]) (rest := []) (w2 := [(h, .inr (4, [.ref g, .long tk])), (g, .inr (2, [.ref b])), (b, .inl (gI G, 4096, .inl (arI d)))]) (st2 := [.long (bks d i)]) C (ct_X4_blocksOf G (kl k) h g b tk d i (by omega)) gX4_65 dX4_takeBlocks_2 0 rfl rfl rfl rfl rfl (Nat.le_of_ble_eq_true rfl) (by decide) [0, 1, 2] rfl (by decide) [h, g, b] rfl rfl rfl rfl ?_
  refine w_lstore_n (lv2 := [(0, .ref h), (1, .int (iI i)), (2, .long (bks d i))]) C dX4_takeBlocks_5 (by decide) rfl ?_
  refine w_lload_n C 2 dX4_takeBlocks_6 rfl ?_
  refine w_aload_n C 0 dX4_takeBlocks_7 rfl ?_
  refine w_get C 0 1 111 dX4_takeBlocks_8 rfl rfl inX4 (by decide) (by decide +kernel) rfl ?_
  refine w_lconst (v := 1) C dX4_takeBlocks_11 (by decide) ?_
  refine w_lor (v := tk ||| 1) C dX4_takeBlocks_12 rfl ?_
  refine w_land (v := (bks d i) &&& (tk ||| 1)) C dX4_takeBlocks_13 rfl ?_
  refine w_lconst (v := 0) C dX4_takeBlocks_14 (by decide) ?_
  refine w_lcmp C dX4_takeBlocks_15 ?_
  refine w_lz C 21 dX4_takeBlocks_16 rfl (fun c_1 => ?_) (fun c_1 => ?_)
  · refine w_aload_n C 0 dX4_takeBlocks_21 rfl ?_
    refine w_dup C dX4_takeBlocks_22 rfl ?_
    refine w_get C 0 1 111 dX4_takeBlocks_23 rfl rfl inX4 (by decide) (by decide +kernel) rfl ?_
    refine w_lload_n C 2 dX4_takeBlocks_26 rfl ?_
    refine w_lor (v := tk ||| (bks d i)) C dX4_takeBlocks_27 rfl ?_
    refine w_put (ty := .long) (ws2 := [(h, .inr (4, [.ref g, .long (tk ||| (bks d i))])), (g, .inr (2, [.ref b])), (b, .inl (gI G, 4096, .inl (arI d)))]) C 0 1 111 dX4_takeBlocks_28 rfl rfl inX4 tyX4_ok nmX4 (by decide) (by decide +kernel) rfl (by decide +kernel) rfl rfl (Nat.le_of_ble_eq_true rfl) rfl ?_
    refine w_iconst C dX4_takeBlocks_31 ?_
    exact w_reti hret dX4_takeBlocks_32 rfl rfl rfl rfl ⟨congrArg (fun z => some (Value.int (iI z))) (by unfold tkB; rw [decide_eq_true (by assumption)]; rfl), (by unfold tkT; rw [if_pos (by assumption)])⟩
  · refine w_iconst C dX4_takeBlocks_19 ?_
    exact w_reti hret dX4_takeBlocks_20 rfl rfl rfl rfl ⟨congrArg (fun z => some (Value.int (iI z))) (by unfold tkB; rw [decide_eq_false (by assumption)]; rfl), (by unfold tkT; rw [if_neg (by assumption)])⟩

theorem gX4_69 : cwv RX4 69 yX4_kind cX4_kind 2 (some .int) 1 783 424 425 67 426 := by decide +kernel
set_option maxHeartbeats 4000000 in
set_option maxRecDepth 100000 in
theorem ct_X4_firstFree (G : GX) (l : Launch) (h : Nat) (g : Nat) (b : Nat) (tk : Int64) (d : Im) : Ct G l yX4_firstFree cX4_firstFree 2 (some .int) rmX4_firstFree [.ref h] [(h, .inr (4, [.ref g, .long tk])), (g, .inr (2, [.ref b])), (b, .inl (gI G, 4096, .inl (arI d)))] (some (.int (iI (ffs d 29 3)))) [(h, .inr (4, [.ref g, .long tk])), (g, .inr (2, [.ref b])), (b, .inl (gI G, 4096, .inl (arI d)))] := by
  refine Ct.of (by decide) (Nat.le_of_ble_eq_true rfl) ?_
  intro k C hl hret
  subst hl
  refine w_lv (lv2 := [(0, .ref h)]) [0] rfl ?_
  refine w_iconst C dX4_firstFree_0 ?_
  refine w_istore_n (lv2 := [(0, .ref h), (1, .int (iI 3))]) C dX4_firstFree_1 (by decide) rfl ?_
  have L_2 : ∀ (nn_2 : Nat) (i : Int), (3 ≤ i ∧ i ≤ 32) → (ffs d 29 3 = ffs d (32 - i).toNat i) → (32 - i).toNat = nn_2 → Wd G k 2 0 0 [(h, .inr (4, [.ref g, .long tk])), (g, .inr (2, [.ref b])), (b, .inl (gI G, 4096, .inl (arI d)))] 2 [(0, .ref h), (1, .int (iI i))] [] := by
    intro nn_2
    induction nn_2 using Nat.strongRecOn with
    | ind nn_2 ih_2 =>
      intro i h1 h2 hm_2
      refine w_iload_n C 1 dX4_firstFree_2 rfl ?_
      refine w_bipush C dX4_firstFree_3 (by decide) ?_
      refine w_icmp_ge C 24 dX4_firstFree_5 rfl (by omega) (fun c_1 => ?_) (fun c_1 => ?_)
      · refine w_iconst C dX4_firstFree_24 ?_
        exact w_reti hret dX4_firstFree_25 rfl rfl rfl rfl ⟨congrArg (fun z => some (Value.int (iI z))) (by rw [h2, show (32 - i).toNat = 0 by omega, ffs]), rfl⟩
      · refine w_aload_n C 0 dX4_firstFree_8 rfl ?_
        refine w_iload_n C 1 dX4_firstFree_9 rfl ?_
        refine w_callV (As := [.int (iI i)]) (rest := []) (w2 := [(h, .inr (4, [.ref g, .long tk])), (g, .inr (2, [.ref b])), (b, .inl (gI G, 4096, .inl (arI d)))]) (st2 := [.int (iI (kd d i))]) C (ct_X4_kind G (kl k) h g b tk d i (by omega)) gX4_69 dX4_firstFree_10 0 rfl rfl rfl rfl rfl (Nat.le_of_ble_eq_true rfl) (by decide) [0, 1, 2] rfl (by decide) [h, g, b] rfl rfl rfl rfl ?_
        have f_2 := kd_rg d i
        refine w_if_ne C 18 dX4_firstFree_13 rfl (by omega) (fun c_3 => ?_) (fun c_3 => ?_)
        · refine w_iinc (lv2 := [(0, .ref h), (1, .int (iI (i + 1)))]) C 1 dX4_firstFree_18 rfl (by decide) rfl ?_
          refine w_goto C 2 dX4_firstFree_21 rfl ?_
          exact ih_2 _ (by omega) (i + 1) (by omega) (by rw [h2, show (32 - i).toNat = (32 - (i + 1)).toNat + 1 by omega, ffs, if_neg (by assumption)]) rfl
        · refine w_iload_n C 1 dX4_firstFree_16 rfl ?_
          exact w_reti hret dX4_firstFree_17 rfl rfl rfl rfl ⟨congrArg (fun z => some (Value.int (iI z))) (by rw [h2, show (32 - i).toNat = (32 - (i + 1)).toNat + 1 by omega, ffs, if_pos (by assumption)]), rfl⟩
  exact L_2 _ 3 (by omega) rfl rfl

theorem gX4_72 : cws RX4 72 yJ13_bitCount_95d88 cJ13_bitCount_95d88 2 (some .int) 1 485 486 84 487 := by decide +kernel
set_option maxHeartbeats 4000000 in
set_option maxRecDepth 100000 in
theorem ct_X4_hasFreeBlock (G : GX) (l : Launch) (h : Nat) (g : Nat) (b : Nat) (tk : Int64) (d : Im) : Ct G l yX4_hasFreeBlock cX4_hasFreeBlock 1 (some .boolean) rmX4_hasFreeBlock [.ref h] [(h, .inr (4, [.ref g, .long tk])), (g, .inr (2, [.ref b])), (b, .inl (gI G, 4096, .inl (arI d)))] (some (.int (iI (bI (decide (pcn tk < 47)))))) [(h, .inr (4, [.ref g, .long tk])), (g, .inr (2, [.ref b])), (b, .inl (gI G, 4096, .inl (arI d)))] := by
  refine Ct.of (by decide) (Nat.le_of_ble_eq_true rfl) ?_
  intro k C hl hret
  subst hl
  refine w_lv (lv2 := [(0, .ref h)]) [0] rfl ?_
  refine w_aload_n C 0 dX4_hasFreeBlock_0 rfl ?_
  refine w_get C 0 1 111 dX4_hasFreeBlock_1 rfl rfl inX4 (by decide) (by decide +kernel) rfl ?_
  refine w_callS (As := [.long tk]) (rest := []) (w2 := [(h, .inr (4, [.ref g, .long tk])), (g, .inr (2, [.ref b])), (b, .inl (gI G, 4096, .inl (arI d)))]) (st2 := [.int (iI (pcn tk))]) C (ct_J13_bitCount_95d88 G (kl k) tk) gX4_72 dX4_hasFreeBlock_4 rfl rfl (Nat.le_of_ble_eq_true rfl) (by decide) [] rfl (by decide) [] rfl rfl rfl rfl ?_
  have f_1 := pcn_rg tk
  refine w_bipush C dX4_hasFreeBlock_7 (by decide) ?_
  refine w_icmp_ge C 16 dX4_hasFreeBlock_9 rfl (by omega) (fun c_2 => ?_) (fun c_2 => ?_)
  · refine w_iconst C dX4_hasFreeBlock_16 ?_
    exact w_reti hret dX4_hasFreeBlock_17 rfl rfl rfl rfl ⟨congrArg (fun z => some (Value.int (iI z))) (by first | exact (bI_t (by omega)).symm | exact (bI_f (by omega)).symm), rfl⟩
  · refine w_iconst C dX4_hasFreeBlock_12 ?_
    refine w_goto C 17 dX4_hasFreeBlock_13 rfl ?_
    exact w_reti hret dX4_hasFreeBlock_17 rfl rfl rfl rfl ⟨congrArg (fun z => some (Value.int (iI z))) (by first | exact (bI_t (by omega)).symm | exact (bI_f (by omega)).symm), rfl⟩

set_option maxHeartbeats 4000000 in
set_option maxRecDepth 100000 in
theorem ct_X4_takeFreeBlock (G : GX) (l : Launch) (h : Nat) (g : Nat) (b : Nat) (tk : Int64) (d : Im) : Ct G l yX4_takeFreeBlock cX4_takeFreeBlock 2 (some .int) rmX4_takeFreeBlock [.ref h] [(h, .inr (4, [.ref g, .long tk])), (g, .inr (2, [.ref b])), (b, .inl (gI G, 4096, .inl (arI d)))] (some (.int (iI (tfB tk)))) [(h, .inr (4, [.ref g, .long (tfT tk)])), (g, .inr (2, [.ref b])), (b, .inl (gI G, 4096, .inl (arI (tfD tk d))))] := by
  refine Ct.of (by decide) (Nat.le_of_ble_eq_true rfl) ?_
  intro k C hl hret
  subst hl
  refine w_lv (lv2 := [(0, .ref h)]) [0] rfl ?_
  refine w_bipush C dX4_takeFreeBlock_0 (by decide) ?_
  refine w_istore_n (lv2 := [(0, .ref h), (1, .int (iI 16))]) C dX4_takeFreeBlock_2 (by decide) rfl ?_
  have L_3 : ∀ (nn_3 : Nat) (q : Int), (16 ≤ q ∧ q ≤ 63) → (tfB tk = tfs tk (63 - q).toNat q) → (63 - q).toNat = nn_3 → Wd G k 2 0 0 [(h, .inr (4, [.ref g, .long tk])), (g, .inr (2, [.ref b])), (b, .inl (gI G, 4096, .inl (arI d)))] 3 [(0, .ref h), (1, .int (iI q))] [] := by
    intro nn_3
    induction nn_3 using Nat.strongRecOn with
    | ind nn_3 ih_3 =>
      intro q h1 h2 hm_3
      refine w_iload_n C 1 dX4_takeFreeBlock_3 rfl ?_
      refine w_bipush C dX4_takeFreeBlock_4 (by decide) ?_
      refine w_icmp_gt C 55 dX4_takeFreeBlock_6 rfl (by omega) (fun c_1 => ?_) (fun c_1 => ?_)
      · have h4 : tfB tk = -1 := by rw [h2, show (63 - q).toNat = 0 by omega, tfs]
        refine w_iconst C dX4_takeFreeBlock_55 ?_
        exact w_reti hret dX4_takeFreeBlock_56 rfl rfl rfl rfl ⟨congrArg (fun z => some (Value.int (iI z))) h4.symm, (by unfold tfT tfD; rw [if_pos h4, if_pos h4])⟩
      · refine w_aload_n C 0 dX4_takeFreeBlock_9 rfl ?_
        refine w_get C 0 1 111 dX4_takeFreeBlock_10 rfl rfl inX4 (by decide) (by decide +kernel) rfl ?_
        refine w_iload_n C 1 dX4_takeFreeBlock_13 rfl ?_
        refine w_lshr (v := tk >>> ((iI q).toInt64 &&& 63)) C dX4_takeFreeBlock_14 rfl ?_
        refine w_lconst (v := 1) C dX4_takeFreeBlock_15 (by decide) ?_
        refine w_land (v := (tk >>> ((iI q).toInt64 &&& 63)) &&& 1) C dX4_takeFreeBlock_16 rfl ?_
        refine w_lconst (v := 0) C dX4_takeFreeBlock_17 (by decide) ?_
        refine w_lcmp C dX4_takeFreeBlock_18 ?_
        refine w_tbnz C 49 dX4_takeFreeBlock_19 rfl (by omega) (fun c_2 => ?_) (fun c_2 => ?_)
        · refine w_iinc (lv2 := [(0, .ref h), (1, .int (iI (q + 1)))]) C 1 dX4_takeFreeBlock_49 rfl (by decide) rfl ?_
          refine w_goto C 3 dX4_takeFreeBlock_52 rfl ?_
          exact ih_3 _ (by omega) (q + 1) (by omega) (by rw [h2, show (63 - q).toNat = (63 - (q + 1)).toNat + 1 by omega, tfs, if_neg (by rw [show tbt tk q = true by assumption]; decide)]) rfl
        · have h4 : tfB tk = q := by rw [h2, show (63 - q).toNat = (63 - (q + 1)).toNat + 1 by omega, tfs, if_pos (by assumption)]
          refine w_aload_n C 0 dX4_takeFreeBlock_22 rfl ?_
          refine w_dup C dX4_takeFreeBlock_23 rfl ?_
          refine w_get C 0 1 111 dX4_takeFreeBlock_24 rfl rfl inX4 (by decide) (by decide +kernel) rfl ?_
          refine w_lconst (v := 1) C dX4_takeFreeBlock_27 (by decide) ?_
          refine w_iload_n C 1 dX4_takeFreeBlock_28 rfl ?_
          refine w_lshl (v := (1 : Int64) <<< ((iI q).toInt64 &&& 63)) C dX4_takeFreeBlock_29 rfl ?_
          refine w_lor (v := tset tk q) C dX4_takeFreeBlock_30 rfl ?_
          refine w_put (ty := .long) (ws2 := [(h, .inr (4, [.ref g, .long (tset tk q)])), (g, .inr (2, [.ref b])), (b, .inl (gI G, 4096, .inl (arI d)))]) C 0 1 111 dX4_takeFreeBlock_31 rfl rfl inX4 tyX4_ok nmX4 (by decide) (by decide +kernel) rfl (by decide +kernel) rfl rfl (Nat.le_of_ble_eq_true rfl) rfl ?_
          refine w_aload_n C 0 dX4_takeFreeBlock_34 rfl ?_
          refine w_get C 0 0 110 dX4_takeFreeBlock_35 rfl rfl inX4 (by decide) (by decide +kernel) rfl ?_
          refine w_iload_n C 1 dX4_takeFreeBlock_38 rfl ?_
          refine w_bipush C dX4_takeFreeBlock_39 (by decide) ?_
          refine w_imul C dX4_takeFreeBlock_41 ?_
          refine w_bipush C dX4_takeFreeBlock_42 (by decide) ?_
          refine w_callV (As := [.int (iI (q * 64)), .int (iI 64)]) (rest := []) (w2 := [(h, .inr (4, [.ref g, .long (tset tk q)])), (g, .inr (2, [.ref b])), (b, .inl (gI G, 4096, .inl (arI (im_wipe d (q * 64) 64))))]) (st2 := []) C (ct_X2_wipe G (kl k) g b d (q * 64) 64 (by omega) (by omega)) gX4_78 dX4_takeFreeBlock_44 1 rfl rfl rfl rfl rfl (Nat.le_of_ble_eq_true rfl) (by decide) [1, 2] rfl (by decide) [g, b] rfl rfl rfl rfl ?_
          refine w_iload_n C 1 dX4_takeFreeBlock_47 rfl ?_
          exact w_reti hret dX4_takeFreeBlock_48 rfl rfl rfl rfl ⟨congrArg (fun z => some (Value.int (iI z))) h4.symm, (by unfold tfT tfD; rw [if_neg (by omega), if_neg (by omega), h4])⟩
  exact L_3 _ 16 (by omega) rfl rfl

theorem gX4_87 : cwv RX4 87 yX4_wipe cX4_wipe 2 none 1 496 412 413 67 414 := by decide +kernel
set_option maxHeartbeats 4000000 in
set_option maxRecDepth 100000 in
theorem ct_X4_erase (G : GX) (l : Launch) (h : Nat) (g : Nat) (b : Nat) (tk : Int64) (d : Im) (i : Int) (hi : 0 ≤ i ∧ i < 256) : Ct G l yX4_erase cX4_erase 2 none rmX4_erase [.ref h, .int (iI i)] [(h, .inr (4, [.ref g, .long tk])), (g, .inr (2, [.ref b])), (b, .inl (gI G, 4096, .inl (arI d)))] none [(h, .inr (4, [.ref g, .long (erT tk d i)])), (g, .inr (2, [.ref b])), (b, .inl (gI G, 4096, .inl (arI (im_wipe d (512 + i * 16) 16))))] := by
  refine Ct.of (by decide) (Nat.le_of_ble_eq_true rfl) ?_
  intro k C hl hret
  subst hl
  refine w_lv (lv2 := [(0, .ref h), (1, .int (iI i))]) [0, 1] rfl ?_
  refine w_aload_n C 0 dX4_erase_0 rfl ?_
  refine w_dup C dX4_erase_1 rfl ?_
  refine w_get C 0 1 111 dX4_erase_2 rfl rfl inX4 (by decide) (by decide +kernel) rfl ?_
  refine w_aload_n C 0 dX4_erase_5 rfl ?_
  refine w_iload_n C 1 dX4_erase_6 rfl ?_
  refine w_callV (As := [.int (iI i)]) (rest := [.long tk, .ref h]) (w2 := [(h, .inr (4, [.ref g, .long tk])), (g, .inr (2, [.ref b])), (b, .inl (gI G, 4096, .inl (arI d)))]) (st2 := [.long (bks d i), .long tk, .ref h]) C (ct_X4_blocksOf G (kl k) h g b tk d i (by omega)) gX4_65 dX4_erase_7 0 rfl rfl rfl rfl rfl (Nat.le_of_ble_eq_true rfl) (by decide) [0, 1, 2] rfl (by decide) [h, g, b] rfl rfl rfl rfl ?_
  refine w_ldc2 (v := -1) C 495 dX4_erase_10 (by decide +kernel) ?_
  refine w_lxor (v := (bks d i) ^^^ (-1)) C dX4_erase_13 rfl ?_
  refine w_land (v := tk &&& ((bks d i) ^^^ (-1))) C dX4_erase_14 rfl ?_
  refine w_put (ty := .long) (ws2 := [(h, .inr (4, [.ref g, .long (tk &&& ((bks d i) ^^^ (-1)))])), (g, .inr (2, [.ref b])), (b, .inl (gI G, 4096, .inl (arI d)))]) C 0 1 111 dX4_erase_15 rfl rfl inX4 tyX4_ok nmX4 (by decide) (by decide +kernel) rfl (by decide +kernel) rfl rfl (Nat.le_of_ble_eq_true rfl) rfl ?_
  refine w_aload_n C 0 dX4_erase_18 rfl ?_
  refine w_iload_n C 1 dX4_erase_19 rfl ?_
  refine w_callV (As := [.int (iI i)]) (rest := []) (w2 := [(h, .inr (4, [.ref g, .long (tk &&& ((bks d i) ^^^ (-1)))])), (g, .inr (2, [.ref b])), (b, .inl (gI G, 4096, .inl (arI (im_wipe d (512 + i * 16) 16))))]) (st2 := []) C (ct_X4_wipe G (kl k) h g b (tk &&& ((bks d i) ^^^ (-1))) d i (by omega)) gX4_87 dX4_erase_20 0 rfl rfl rfl rfl rfl (Nat.le_of_ble_eq_true rfl) (by decide) [0, 1, 2] rfl (by decide) [h, g, b] rfl rfl rfl rfl ?_
  exact w_retv hret dX4_erase_23 rfl rfl rfl ⟨rfl, rfl⟩
