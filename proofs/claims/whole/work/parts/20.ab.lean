theorem gX4_81 : cwv RX4 81 yX4_takeFreeBlock cX4_takeFreeBlock 2 (some .int) 0 510 512 3 67 513 := by decide +kernel
set_option maxHeartbeats 4000000 in
set_option maxRecDepth 100000 in
theorem ct_X4_addBlock (G : GX) (l : Launch) (h : Nat) (g : Nat) (b : Nat) (tk : Int64) (d : Im) (i : Int) (hi : 0 ≤ i ∧ i < 32) : Ct G l yX4_addBlock cX4_addBlock 6 (some .int) rmX4_addBlock [.ref h, .int (iI i)] [(h, .inr (4, [.ref g, .long tk])), (g, .inr (2, [.ref b])), (b, .inl (gI G, 4096, .inl (arI d)))] (some (.int (iI (abR tk d i)))) [(h, .inr (4, [.ref g, .long (abT tk d i)])), (g, .inr (2, [.ref b])), (b, .inl (gI G, 4096, .inl (arI (abD tk d i))))] := by
  refine Ct.of (by decide) (Nat.le_of_ble_eq_true rfl) ?_
  intro k C hl hret
  subst hl
  refine w_lv (lv2 := [(0, .ref h), (1, .int (iI i))]) [0, 1] rfl ?_
  refine w_aload_n C 0 dX4_addBlock_0 rfl ?_
  refine w_iload_n C 1 dX4_addBlock_1 rfl ?_
  refine w_callV (As := [.int (iI i)]) (rest := []) (w2 := [(h, .inr (4, [.ref g, .long tk])), (g, .inr (2, [.ref b])), (b, .inl (gI G, 4096, .inl (arI d)))]) (st2 := [.int (iI (bc d i))]) C (ct_X4_blockCount G (kl k) h g b tk d i (by omega)) gX4_51 dX4_addBlock_2 0 rfl rfl rfl rfl rfl (Nat.le_of_ble_eq_true rfl) (by decide) [0, 1, 2] rfl (by decide) [h, g, b] rfl rfl rfl rfl ?_
  have f_1 := bc_rg d i
  refine w_istore_n (lv2 := [(0, .ref h), (1, .int (iI i)), (2, .int (iI (bc d i)))]) C dX4_addBlock_5 (by decide) rfl ?_
  refine w_iload_n C 2 dX4_addBlock_6 rfl ?_
  refine w_iconst C dX4_addBlock_7 ?_
  refine w_icmp_ne C 15 dX4_addBlock_8 rfl (by omega) (fun c_2 => ?_) (fun c_2 => ?_)
  · refine w_iconst C dX4_addBlock_15 ?_
    refine w_istore_n (lv2 := [(0, .ref h), (1, .int (iI i)), (2, .int (iI (bc d i))), (3, .int (iI 1))]) C dX4_addBlock_16 (by decide) rfl ?_
    have nx : ¬ bc d i = 5 ∨ bc d i = 5 := by omega
    refine w_iload_n C 2 dX4_addBlock_17 rfl ?_
    refine w_bipush C dX4_addBlock_18 (by decide) ?_
    refine w_icmp_ge C 37 dX4_addBlock_20 rfl (by omega) (fun c_3 => ?_) (fun c_3 => ?_)
    · refine w_iconst C dX4_addBlock_37 ?_
      exact w_reti hret dX4_addBlock_38 rfl rfl rfl rfl ⟨congrArg (fun z => some (Value.int (iI z))) (by unfold abR; rw [if_pos (by unfold abX; first | (left; omega) | (right; rw [if_pos (by omega)]; omega) | (right; rw [if_neg (by omega)]; omega))]), (by unfold abT abD; rw [if_pos (by unfold abX; first | (left; omega) | (right; rw [if_pos (by omega)]; omega) | (right; rw [if_neg (by omega)]; omega)), if_pos (by unfold abX; first | (left; omega) | (right; rw [if_pos (by omega)]; omega) | (right; rw [if_neg (by omega)]; omega))])⟩
    · refine w_bipush C dX4_addBlock_23 (by decide) ?_
      refine w_aload_n C 0 dX4_addBlock_25 rfl ?_
      refine w_get C 0 1 111 dX4_addBlock_26 rfl rfl inX4 (by decide) (by decide +kernel) rfl ?_
      refine w_callS (As := [.long tk]) (rest := [.int (iI 47)]) (w2 := [(h, .inr (4, [.ref g, .long tk])), (g, .inr (2, [.ref b])), (b, .inl (gI G, 4096, .inl (arI d)))]) (st2 := [.int (iI (pcn tk)), .int (iI 47)]) C (ct_J13_bitCount_95d88 G (kl k) tk) gX4_72 dX4_addBlock_29 rfl rfl (Nat.le_of_ble_eq_true rfl) (by decide) [] rfl (by decide) [] rfl rfl rfl rfl ?_
      have f_4 := pcn_rg tk
      refine w_isub C dX4_addBlock_32 ?_
      refine w_iload_n C 3 dX4_addBlock_33 rfl ?_
      refine w_icmp_ge C 39 dX4_addBlock_34 rfl (by omega) (fun c_5 => ?_) (fun c_5 => ?_)
      · have nx : ¬ abX tk d i := by unfold abX; first | (rw [if_pos (by omega)]; omega) | (rw [if_neg (by omega)]; omega)
        refine w_aload_n C 0 dX4_addBlock_39 rfl ?_
        refine w_callV (As := []) (rest := []) (w2 := [(h, .inr (4, [.ref g, .long (tfT tk)])), (g, .inr (2, [.ref b])), (b, .inl (gI G, 4096, .inl (arI (tfD tk d))))]) (st2 := [.int (iI (tfB tk))]) C (ct_X4_takeFreeBlock G (kl k) h g b tk d) gX4_81 dX4_addBlock_40 0 rfl rfl rfl rfl rfl (Nat.le_of_ble_eq_true rfl) (by decide) [0, 1, 2] rfl (by decide) [h, g, b] rfl rfl rfl rfl ?_
        have f_6 := tfB_rg tk
        refine w_istore (lv2 := [(0, .ref h), (1, .int (iI i)), (2, .int (iI (bc d i))), (3, .int (iI 1)), (4, .int (iI (tfB tk)))]) C dX4_addBlock_43 (by decide) rfl ?_
        refine w_iload_n C 2 dX4_addBlock_45 rfl ?_
        refine w_iconst C dX4_addBlock_46 ?_
        refine w_icmp_ge C 70 dX4_addBlock_47 rfl (by omega) (fun c_7 => ?_) (fun c_7 => ?_)
        · refine w_iload_n C 2 dX4_addBlock_70 rfl ?_
          refine w_iconst C dX4_addBlock_71 ?_
          refine w_icmp_ne C 93 dX4_addBlock_72 rfl (by omega) (fun c_8 => ?_) (fun c_8 => ?_)
          · refine w_ws (ws2 := [(h, .inr (4, [.ref g, .long (tfT tk)])), (g, .inr (2, [.ref b])), (b, .inl (gI G, 4096, .inl (arI (abI tk d i))))]) (by unfold abI; first | rw [if_pos (by omega)] | rw [if_neg (by omega)]) ?_
            refine w_aload_n C 0 dX4_addBlock_93 rfl ?_
            refine w_get C 0 0 110 dX4_addBlock_94 rfl rfl inX4 (by decide) (by decide +kernel) rfl ?_
            refine w_iload_n C 1 dX4_addBlock_97 rfl ?_
            refine w_callS (As := [.int (iI i)]) (rest := [.ref g]) (w2 := [(h, .inr (4, [.ref g, .long (tfT tk)])), (g, .inr (2, [.ref b])), (b, .inl (gI G, 4096, .inl (arI (abI tk d i))))]) (st2 := [.int (iI (512 + i * 16)), .ref g]) C (ct_X4_placeOf G (kl k) i) gX4_19 dX4_addBlock_98 rfl rfl (Nat.le_of_ble_eq_true rfl) (by decide) [] rfl (by decide) [] rfl rfl rfl rfl ?_
            refine w_bipush C dX4_addBlock_101 (by decide) ?_
            refine w_iadd C dX4_addBlock_103 ?_
            refine w_callV (As := [.int (iI ((512 + i * 16) + 9))]) (rest := []) (w2 := [(h, .inr (4, [.ref g, .long (tfT tk)])), (g, .inr (2, [.ref b])), (b, .inl (gI G, 4096, .inl (arI (abI tk d i))))]) (st2 := [.int (iI (im_at (abI tk d i) ((512 + i * 16) + 9)))]) C (ct_X2_at G (kl k) g b (abI tk d i) ((512 + i * 16) + 9) (by omega)) gX4_23 dX4_addBlock_104 1 rfl rfl rfl rfl rfl (Nat.le_of_ble_eq_true rfl) (by decide) [1, 2] rfl (by decide) [g, b] rfl rfl rfl rfl ?_
            have f_9 := im_at_rg (abI tk d i) ((512 + i * 16) + 9)
            have e9 : im_at (abI tk d i) (512 + i * 16 + 9) = (abI tk d i).1 (512 + i * 16 + 9) := by unfold im_at; rw [if_pos (by omega)]
            refine w_st (st2 := [.int (iI ((abI tk d i).1 (512 + i * 16 + 9)))]) (by rw [e9]) ?_
            refine w_istore (lv2 := [(0, .ref h), (1, .int (iI i)), (2, .int (iI (bc d i))), (3, .int (iI 1)), (4, .int (iI (tfB tk))), (5, .int (iI ((abI tk d i).1 (512 + i * 16 + 9))))]) C dX4_addBlock_107 (by decide) rfl ?_
            have b9 := (abI tk d i).2 (512 + i * 16 + 9)
            refine w_aload_n C 0 dX4_addBlock_109 rfl ?_
            refine w_get C 0 0 110 dX4_addBlock_110 rfl rfl inX4 (by decide) (by decide +kernel) rfl ?_
            refine w_iload C 5 dX4_addBlock_113 rfl ?_
            refine w_bipush C dX4_addBlock_115 (by decide) ?_
            refine w_imul C dX4_addBlock_117 ?_
            refine w_iload_n C 2 dX4_addBlock_118 rfl ?_
            refine w_iadd C dX4_addBlock_119 ?_
            refine w_iconst C dX4_addBlock_120 ?_
            refine w_isub C dX4_addBlock_121 ?_
            refine w_iload C 4 dX4_addBlock_122 rfl ?_
            refine w_callV (As := [.int (iI (((((abI tk d i).1 (512 + i * 16 + 9)) * 64) + (bc d i)) - 5)), .int (iI (tfB tk))]) (rest := []) (w2 := [(h, .inr (4, [.ref g, .long (tfT tk)])), (g, .inr (2, [.ref b])), (b, .inl (gI G, 4096, .inl (arI (im_set (abI tk d i) (((((abI tk d i).1 (512 + i * 16 + 9)) * 64) + (bc d i)) - 5) (tfB tk)))))]) (st2 := []) C (ct_X2_set G (kl k) g b (abI tk d i) (((((abI tk d i).1 (512 + i * 16 + 9)) * 64) + (bc d i)) - 5) (tfB tk) (by omega)) gX4_31 dX4_addBlock_124 1 rfl rfl rfl rfl rfl (Nat.le_of_ble_eq_true rfl) (by decide) [1, 2] rfl (by decide) [g, b] rfl rfl rfl rfl ?_
            refine w_iload C 4 dX4_addBlock_127 rfl ?_
            exact w_reti hret dX4_addBlock_129 rfl rfl rfl rfl ⟨congrArg (fun z => some (Value.int (iI z))) (by unfold abR; rw [if_neg nx]), (by unfold abT abD; rw [if_neg nx, if_neg nx]; first | rw [if_pos (by omega), if_neg (by omega)] | rw [if_neg (by omega), if_neg (by omega)])⟩
          · omega
        · refine w_aload_n C 0 dX4_addBlock_50 rfl ?_
          refine w_get C 0 0 110 dX4_addBlock_51 rfl rfl inX4 (by decide) (by decide +kernel) rfl ?_
          refine w_iload_n C 1 dX4_addBlock_54 rfl ?_
          refine w_callS (As := [.int (iI i)]) (rest := [.ref g]) (w2 := [(h, .inr (4, [.ref g, .long (tfT tk)])), (g, .inr (2, [.ref b])), (b, .inl (gI G, 4096, .inl (arI (tfD tk d))))]) (st2 := [.int (iI (512 + i * 16)), .ref g]) C (ct_X4_placeOf G (kl k) i) gX4_19 dX4_addBlock_55 rfl rfl (Nat.le_of_ble_eq_true rfl) (by decide) [] rfl (by decide) [] rfl rfl rfl rfl ?_
          refine w_iconst C dX4_addBlock_58 ?_
          refine w_iadd C dX4_addBlock_59 ?_
          refine w_iload_n C 2 dX4_addBlock_60 rfl ?_
          refine w_iadd C dX4_addBlock_61 ?_
          refine w_iload C 4 dX4_addBlock_62 rfl ?_
          refine w_callV (As := [.int (iI (((512 + i * 16) + 4) + (bc d i))), .int (iI (tfB tk))]) (rest := []) (w2 := [(h, .inr (4, [.ref g, .long (tfT tk)])), (g, .inr (2, [.ref b])), (b, .inl (gI G, 4096, .inl (arI (im_set (tfD tk d) (((512 + i * 16) + 4) + (bc d i)) (tfB tk)))))]) (st2 := []) C (ct_X2_set G (kl k) g b (tfD tk d) (((512 + i * 16) + 4) + (bc d i)) (tfB tk) (by omega)) gX4_31 dX4_addBlock_64 1 rfl rfl rfl rfl rfl (Nat.le_of_ble_eq_true rfl) (by decide) [1, 2] rfl (by decide) [g, b] rfl rfl rfl rfl ?_
          refine w_iload C 4 dX4_addBlock_67 rfl ?_
          exact w_reti hret dX4_addBlock_69 rfl rfl rfl rfl ⟨congrArg (fun z => some (Value.int (iI z))) (by unfold abR; rw [if_neg nx]), (by unfold abT abD; rw [if_neg nx, if_neg nx, if_neg (by omega), if_pos (by omega)])⟩
      · refine w_iconst C dX4_addBlock_37 ?_
        exact w_reti hret dX4_addBlock_38 rfl rfl rfl rfl ⟨congrArg (fun z => some (Value.int (iI z))) (by unfold abR; rw [if_pos (by unfold abX; first | (left; omega) | (right; rw [if_pos (by omega)]; omega) | (right; rw [if_neg (by omega)]; omega))]), (by unfold abT abD; rw [if_pos (by unfold abX; first | (left; omega) | (right; rw [if_pos (by omega)]; omega) | (right; rw [if_neg (by omega)]; omega)), if_pos (by unfold abX; first | (left; omega) | (right; rw [if_pos (by omega)]; omega) | (right; rw [if_neg (by omega)]; omega))])⟩
  · refine w_iconst C dX4_addBlock_11 ?_
    refine w_goto C 16 dX4_addBlock_12 rfl ?_
    refine w_istore_n (lv2 := [(0, .ref h), (1, .int (iI i)), (2, .int (iI (bc d i))), (3, .int (iI 2))]) C dX4_addBlock_16 (by decide) rfl ?_
    have nx : ¬ bc d i = 5 ∨ bc d i = 5 := by omega
    refine w_iload_n C 2 dX4_addBlock_17 rfl ?_
    refine w_bipush C dX4_addBlock_18 (by decide) ?_
    refine w_icmp_ge C 37 dX4_addBlock_20 rfl (by omega) (fun c_10 => ?_) (fun c_10 => ?_)
    · refine w_iconst C dX4_addBlock_37 ?_
      exact w_reti hret dX4_addBlock_38 rfl rfl rfl rfl ⟨congrArg (fun z => some (Value.int (iI z))) (by unfold abR; rw [if_pos (by unfold abX; first | (left; omega) | (right; rw [if_pos (by omega)]; omega) | (right; rw [if_neg (by omega)]; omega))]), (by unfold abT abD; rw [if_pos (by unfold abX; first | (left; omega) | (right; rw [if_pos (by omega)]; omega) | (right; rw [if_neg (by omega)]; omega)), if_pos (by unfold abX; first | (left; omega) | (right; rw [if_pos (by omega)]; omega) | (right; rw [if_neg (by omega)]; omega))])⟩
    · refine w_bipush C dX4_addBlock_23 (by decide) ?_
      refine w_aload_n C 0 dX4_addBlock_25 rfl ?_
      refine w_get C 0 1 111 dX4_addBlock_26 rfl rfl inX4 (by decide) (by decide +kernel) rfl ?_
      refine w_callS (As := [.long tk]) (rest := [.int (iI 47)]) (w2 := [(h, .inr (4, [.ref g, .long tk])), (g, .inr (2, [.ref b])), (b, .inl (gI G, 4096, .inl (arI d)))]) (st2 := [.int (iI (pcn tk)), .int (iI 47)]) C (ct_J13_bitCount_95d88 G (kl k) tk) gX4_72 dX4_addBlock_29 rfl rfl (Nat.le_of_ble_eq_true rfl) (by decide) [] rfl (by decide) [] rfl rfl rfl rfl ?_
      have f_11 := pcn_rg tk
      refine w_isub C dX4_addBlock_32 ?_
      refine w_iload_n C 3 dX4_addBlock_33 rfl ?_
      refine w_icmp_ge C 39 dX4_addBlock_34 rfl (by omega) (fun c_12 => ?_) (fun c_12 => ?_)
      · have nx : ¬ abX tk d i := by unfold abX; first | (rw [if_pos (by omega)]; omega) | (rw [if_neg (by omega)]; omega)
        refine w_aload_n C 0 dX4_addBlock_39 rfl ?_
        refine w_callV (As := []) (rest := []) (w2 := [(h, .inr (4, [.ref g, .long (tfT tk)])), (g, .inr (2, [.ref b])), (b, .inl (gI G, 4096, .inl (arI (tfD tk d))))]) (st2 := [.int (iI (tfB tk))]) C (ct_X4_takeFreeBlock G (kl k) h g b tk d) gX4_81 dX4_addBlock_40 0 rfl rfl rfl rfl rfl (Nat.le_of_ble_eq_true rfl) (by decide) [0, 1, 2] rfl (by decide) [h, g, b] rfl rfl rfl rfl ?_
        have f_13 := tfB_rg tk
        refine w_istore (lv2 := [(0, .ref h), (1, .int (iI i)), (2, .int (iI (bc d i))), (3, .int (iI 2)), (4, .int (iI (tfB tk)))]) C dX4_addBlock_43 (by decide) rfl ?_
        refine w_iload_n C 2 dX4_addBlock_45 rfl ?_
        refine w_iconst C dX4_addBlock_46 ?_
        refine w_icmp_ge C 70 dX4_addBlock_47 rfl (by omega) (fun c_14 => ?_) (fun c_14 => ?_)
        · refine w_iload_n C 2 dX4_addBlock_70 rfl ?_
          refine w_iconst C dX4_addBlock_71 ?_
          refine w_icmp_ne C 93 dX4_addBlock_72 rfl (by omega) (fun c_15 => ?_) (fun c_15 => ?_)
          · omega
          · refine w_aload_n C 0 dX4_addBlock_75 rfl ?_
            refine w_get C 0 0 110 dX4_addBlock_76 rfl rfl inX4 (by decide) (by decide +kernel) rfl ?_
            refine w_iload_n C 1 dX4_addBlock_79 rfl ?_
            refine w_callS (As := [.int (iI i)]) (rest := [.ref g]) (w2 := [(h, .inr (4, [.ref g, .long (tfT tk)])), (g, .inr (2, [.ref b])), (b, .inl (gI G, 4096, .inl (arI (tfD tk d))))]) (st2 := [.int (iI (512 + i * 16)), .ref g]) C (ct_X4_placeOf G (kl k) i) gX4_19 dX4_addBlock_80 rfl rfl (Nat.le_of_ble_eq_true rfl) (by decide) [] rfl (by decide) [] rfl rfl rfl rfl ?_
            refine w_bipush C dX4_addBlock_83 (by decide) ?_
            refine w_iadd C dX4_addBlock_85 ?_
            refine w_aload_n C 0 dX4_addBlock_86 rfl ?_
            refine w_callV (As := []) (rest := [.int (iI ((512 + i * 16) + 9)), .ref g]) (w2 := [(h, .inr (4, [.ref g, .long (tfT (tfT tk))])), (g, .inr (2, [.ref b])), (b, .inl (gI G, 4096, .inl (arI (tfD (tfT tk) (tfD tk d)))))]) (st2 := [.int (iI (tfB (tfT tk))), .int (iI ((512 + i * 16) + 9)), .ref g]) C (ct_X4_takeFreeBlock G (kl k) h g b (tfT tk) (tfD tk d)) gX4_81 dX4_addBlock_87 0 rfl rfl rfl rfl rfl (Nat.le_of_ble_eq_true rfl) (by decide) [0, 1, 2] rfl (by decide) [h, g, b] rfl rfl rfl rfl ?_
            have f_16 := tfB_rg (tfT tk)
            refine w_callV (As := [.int (iI ((512 + i * 16) + 9)), .int (iI (tfB (tfT tk)))]) (rest := []) (w2 := [(h, .inr (4, [.ref g, .long (tfT (tfT tk))])), (g, .inr (2, [.ref b])), (b, .inl (gI G, 4096, .inl (arI (im_set (tfD (tfT tk) (tfD tk d)) ((512 + i * 16) + 9) (tfB (tfT tk))))))]) (st2 := []) C (ct_X2_set G (kl k) g b (tfD (tfT tk) (tfD tk d)) ((512 + i * 16) + 9) (tfB (tfT tk)) (by omega)) gX4_31 dX4_addBlock_90 1 rfl rfl rfl rfl rfl (Nat.le_of_ble_eq_true rfl) (by decide) [1, 2] rfl (by decide) [g, b] rfl rfl rfl rfl ?_
            refine w_ws (ws2 := [(h, .inr (4, [.ref g, .long (tfT (tfT tk))])), (g, .inr (2, [.ref b])), (b, .inl (gI G, 4096, .inl (arI (abI tk d i))))]) (by unfold abI; first | rw [if_pos (by omega)] | rw [if_neg (by omega)]) ?_
            refine w_aload_n C 0 dX4_addBlock_93 rfl ?_
            refine w_get C 0 0 110 dX4_addBlock_94 rfl rfl inX4 (by decide) (by decide +kernel) rfl ?_
            refine w_iload_n C 1 dX4_addBlock_97 rfl ?_
            refine w_callS (As := [.int (iI i)]) (rest := [.ref g]) (w2 := [(h, .inr (4, [.ref g, .long (tfT (tfT tk))])), (g, .inr (2, [.ref b])), (b, .inl (gI G, 4096, .inl (arI (abI tk d i))))]) (st2 := [.int (iI (512 + i * 16)), .ref g]) C (ct_X4_placeOf G (kl k) i) gX4_19 dX4_addBlock_98 rfl rfl (Nat.le_of_ble_eq_true rfl) (by decide) [] rfl (by decide) [] rfl rfl rfl rfl ?_
            refine w_bipush C dX4_addBlock_101 (by decide) ?_
            refine w_iadd C dX4_addBlock_103 ?_
            refine w_callV (As := [.int (iI ((512 + i * 16) + 9))]) (rest := []) (w2 := [(h, .inr (4, [.ref g, .long (tfT (tfT tk))])), (g, .inr (2, [.ref b])), (b, .inl (gI G, 4096, .inl (arI (abI tk d i))))]) (st2 := [.int (iI (im_at (abI tk d i) ((512 + i * 16) + 9)))]) C (ct_X2_at G (kl k) g b (abI tk d i) ((512 + i * 16) + 9) (by omega)) gX4_23 dX4_addBlock_104 1 rfl rfl rfl rfl rfl (Nat.le_of_ble_eq_true rfl) (by decide) [1, 2] rfl (by decide) [g, b] rfl rfl rfl rfl ?_
            have f_17 := im_at_rg (abI tk d i) ((512 + i * 16) + 9)
            have e9 : im_at (abI tk d i) (512 + i * 16 + 9) = (abI tk d i).1 (512 + i * 16 + 9) := by unfold im_at; rw [if_pos (by omega)]
            refine w_st (st2 := [.int (iI ((abI tk d i).1 (512 + i * 16 + 9)))]) (by rw [e9]) ?_
            refine w_istore (lv2 := [(0, .ref h), (1, .int (iI i)), (2, .int (iI (bc d i))), (3, .int (iI 2)), (4, .int (iI (tfB tk))), (5, .int (iI ((abI tk d i).1 (512 + i * 16 + 9))))]) C dX4_addBlock_107 (by decide) rfl ?_
            have b9 := (abI tk d i).2 (512 + i * 16 + 9)
            refine w_aload_n C 0 dX4_addBlock_109 rfl ?_
            refine w_get C 0 0 110 dX4_addBlock_110 rfl rfl inX4 (by decide) (by decide +kernel) rfl ?_
            refine w_iload C 5 dX4_addBlock_113 rfl ?_
            refine w_bipush C dX4_addBlock_115 (by decide) ?_
            refine w_imul C dX4_addBlock_117 ?_
            refine w_iload_n C 2 dX4_addBlock_118 rfl ?_
            refine w_iadd C dX4_addBlock_119 ?_
            refine w_iconst C dX4_addBlock_120 ?_
            refine w_isub C dX4_addBlock_121 ?_
            refine w_iload C 4 dX4_addBlock_122 rfl ?_
            refine w_callV (As := [.int (iI (((((abI tk d i).1 (512 + i * 16 + 9)) * 64) + (bc d i)) - 5)), .int (iI (tfB tk))]) (rest := []) (w2 := [(h, .inr (4, [.ref g, .long (tfT (tfT tk))])), (g, .inr (2, [.ref b])), (b, .inl (gI G, 4096, .inl (arI (im_set (abI tk d i) (((((abI tk d i).1 (512 + i * 16 + 9)) * 64) + (bc d i)) - 5) (tfB tk)))))]) (st2 := []) C (ct_X2_set G (kl k) g b (abI tk d i) (((((abI tk d i).1 (512 + i * 16 + 9)) * 64) + (bc d i)) - 5) (tfB tk) (by omega)) gX4_31 dX4_addBlock_124 1 rfl rfl rfl rfl rfl (Nat.le_of_ble_eq_true rfl) (by decide) [1, 2] rfl (by decide) [g, b] rfl rfl rfl rfl ?_
            refine w_iload C 4 dX4_addBlock_127 rfl ?_
            exact w_reti hret dX4_addBlock_129 rfl rfl rfl rfl ⟨congrArg (fun z => some (Value.int (iI z))) (by unfold abR; rw [if_neg nx]), (by unfold abT abD; rw [if_neg nx, if_neg nx]; first | rw [if_pos (by omega), if_neg (by omega)] | rw [if_neg (by omega), if_neg (by omega)])⟩
        · refine w_aload_n C 0 dX4_addBlock_50 rfl ?_
          refine w_get C 0 0 110 dX4_addBlock_51 rfl rfl inX4 (by decide) (by decide +kernel) rfl ?_
          refine w_iload_n C 1 dX4_addBlock_54 rfl ?_
          refine w_callS (As := [.int (iI i)]) (rest := [.ref g]) (w2 := [(h, .inr (4, [.ref g, .long (tfT tk)])), (g, .inr (2, [.ref b])), (b, .inl (gI G, 4096, .inl (arI (tfD tk d))))]) (st2 := [.int (iI (512 + i * 16)), .ref g]) C (ct_X4_placeOf G (kl k) i) gX4_19 dX4_addBlock_55 rfl rfl (Nat.le_of_ble_eq_true rfl) (by decide) [] rfl (by decide) [] rfl rfl rfl rfl ?_
          refine w_iconst C dX4_addBlock_58 ?_
          refine w_iadd C dX4_addBlock_59 ?_
          refine w_iload_n C 2 dX4_addBlock_60 rfl ?_
          refine w_iadd C dX4_addBlock_61 ?_
          refine w_iload C 4 dX4_addBlock_62 rfl ?_
          refine w_callV (As := [.int (iI (((512 + i * 16) + 4) + (bc d i))), .int (iI (tfB tk))]) (rest := []) (w2 := [(h, .inr (4, [.ref g, .long (tfT tk)])), (g, .inr (2, [.ref b])), (b, .inl (gI G, 4096, .inl (arI (im_set (tfD tk d) (((512 + i * 16) + 4) + (bc d i)) (tfB tk)))))]) (st2 := []) C (ct_X2_set G (kl k) g b (tfD tk d) (((512 + i * 16) + 4) + (bc d i)) (tfB tk) (by omega)) gX4_31 dX4_addBlock_64 1 rfl rfl rfl rfl rfl (Nat.le_of_ble_eq_true rfl) (by decide) [1, 2] rfl (by decide) [g, b] rfl rfl rfl rfl ?_
          refine w_iload C 4 dX4_addBlock_67 rfl ?_
          exact w_reti hret dX4_addBlock_69 rfl rfl rfl rfl ⟨congrArg (fun z => some (Value.int (iI z))) (by unfold abR; rw [if_neg nx]), (by unfold abT abD; rw [if_neg nx, if_neg nx, if_neg (by omega), if_pos (by omega)])⟩
      · refine w_iconst C dX4_addBlock_37 ?_
        exact w_reti hret dX4_addBlock_38 rfl rfl rfl rfl ⟨congrArg (fun z => some (Value.int (iI z))) (by unfold abR; rw [if_pos (by unfold abX; first | (left; omega) | (right; rw [if_pos (by omega)]; omega) | (right; rw [if_neg (by omega)]; omega))]), (by unfold abT abD; rw [if_pos (by unfold abX; first | (left; omega) | (right; rw [if_pos (by omega)]; omega) | (right; rw [if_neg (by omega)]; omega)), if_pos (by unfold abX; first | (left; omega) | (right; rw [if_pos (by omega)]; omega) | (right; rw [if_neg (by omega)]; omega))])⟩
