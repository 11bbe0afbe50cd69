theorem gX3_45 : cwv RX3 45 yX4_kind cX4_kind 2 (some .int) 1 423 424 425 67 426 := by decide +kernel
theorem gX3_49 : cws RX3 49 yX4_placeOf cX4_placeOf 1 (some .int) 1 431 416 67 417 := by decide +kernel
theorem gX3_52 : cwv RX3 52 yX2_isBlank cX2_isBlank 4 (some .boolean) 2 432 383 384 66 385 := by decide +kernel
theorem gX3_58 : cwv RX3 58 yX2_pairAt cX2_pairAt 2 (some .int) 1 433 363 364 66 365 := by decide +kernel
theorem gX3_61 : cwv RX3 61 yX4_rightSum cX4_rightSum 2 (some .int) 1 434 435 436 67 437 := by decide +kernel
set_option maxHeartbeats 4000000 in
set_option maxRecDepth 100000 in
theorem ct_X3_hasSoundHead (G : GX) (l : Launch) (h : Nat) (o : Nat) (g : Nat) (b : Nat) (dd : Nat) (tk : Int64) (d : Im) (i : Int) (hi : 0 ≤ i ∧ i < 32) : Ct G l yX3_hasSoundHead cX3_hasSoundHead 4 (some .boolean) rmX3_hasSoundHead [.ref h, .int (iI i)] [(h, .inr (3, [.ref g, .ref o, .ref dd])), (o, .inr (4, [.ref g, .long tk])), (g, .inr (2, [.ref b])), (b, .inl (gI G, 4096, .inl (arI d)))] (some (.int (iI (bI (shB d i))))) [(h, .inr (3, [.ref g, .ref o, .ref dd])), (o, .inr (4, [.ref g, .long tk])), (g, .inr (2, [.ref b])), (b, .inl (gI G, 4096, .inl (arI d)))] := by
  refine Ct.of (by decide) (Nat.le_of_ble_eq_true rfl) ?_
  intro k C hl hret
  subst hl
  refine w_lv (lv2 := [(0, .ref h), (1, .int (iI i))]) [0, 1] rfl ?_
  refine w_aload_n C 0 dX3_hasSoundHead_0 rfl ?_
  refine w_get C 0 1 159 dX3_hasSoundHead_1 rfl rfl inX3 (by decide) (by decide +kernel) rfl ?_
  refine w_iload_n C 1 dX3_hasSoundHead_4 rfl ?_
  refine w_callV (As := [.int (iI i)]) (rest := []) (w2 := [(h, .inr (3, [.ref g, .ref o, .ref dd])), (o, .inr (4, [.ref g, .long tk])), (g, .inr (2, [.ref b])), (b, .inl (gI G, 4096, .inl (arI d)))]) (st2 := [.int (iI (kd d i))]) C (ct_X4_kind G (kl k) o g b tk d i (by omega)) gX3_45 dX3_hasSoundHead_5 1 rfl rfl rfl rfl rfl (Nat.le_of_ble_eq_true rfl) (by decide) [1, 2, 3] rfl (by decide) [o, g, b] rfl rfl rfl rfl ?_
  have f_1 := kd_rg d i
  refine w_istore_n (lv2 := [(0, .ref h), (1, .int (iI i)), (2, .int (iI (kd d i)))]) C dX3_hasSoundHead_8 (by decide) rfl ?_
  refine w_iload_n C 1 dX3_hasSoundHead_9 rfl ?_
  refine w_callS (As := [.int (iI i)]) (rest := []) (w2 := [(h, .inr (3, [.ref g, .ref o, .ref dd])), (o, .inr (4, [.ref g, .long tk])), (g, .inr (2, [.ref b])), (b, .inl (gI G, 4096, .inl (arI d)))]) (st2 := [.int (iI (512 + i * 16))]) C (ct_X4_placeOf G (kl k) i) gX3_49 dX3_hasSoundHead_10 rfl rfl (Nat.le_of_ble_eq_true rfl) (by decide) [] rfl (by decide) [] rfl rfl rfl rfl ?_
  refine w_istore_n (lv2 := [(0, .ref h), (1, .int (iI i)), (2, .int (iI (kd d i))), (3, .int (iI (512 + i * 16)))]) C dX3_hasSoundHead_13 (by decide) rfl ?_
  refine w_iload_n C 2 dX3_hasSoundHead_14 rfl ?_
  refine w_iconst C dX3_hasSoundHead_15 ?_
  refine w_icmp_eq C 29 dX3_hasSoundHead_16 rfl (by omega) (fun c_2 => ?_) (fun c_2 => ?_)
  · have hk : kd d i = 2 ∨ (kd d i = 1 ∧ 3 ≤ i) := by omega
    refine w_aload_n C 0 dX3_hasSoundHead_29 rfl ?_
    refine w_get C 0 0 158 dX3_hasSoundHead_30 rfl rfl inX3 (by decide) (by decide +kernel) rfl ?_
    refine w_iload_n C 3 dX3_hasSoundHead_33 rfl ?_
    refine w_bipush C dX3_hasSoundHead_34 (by decide) ?_
    refine w_iadd C dX3_hasSoundHead_36 ?_
    refine w_iconst C dX3_hasSoundHead_37 ?_
    refine w_iadd C dX3_hasSoundHead_38 ?_
    refine w_iconst C dX3_hasSoundHead_39 ?_
    refine w_callV (As := [.int (iI (((512 + i * 16) + 9) + 1)), .int (iI 4)]) (rest := []) (w2 := [(h, .inr (3, [.ref g, .ref o, .ref dd])), (o, .inr (4, [.ref g, .long tk])), (g, .inr (2, [.ref b])), (b, .inl (gI G, 4096, .inl (arI d)))]) (st2 := [.int (iI (bI (im_blank d (((512 + i * 16) + 9) + 1) 4)))]) C (ct_X2_isBlank G (kl k) g b d (((512 + i * 16) + 9) + 1) 4 (by omega) (by omega)) gX3_52 dX3_hasSoundHead_40 2 rfl rfl rfl rfl rfl (Nat.le_of_ble_eq_true rfl) (by decide) [2, 3] rfl (by decide) [g, b] rfl rfl rfl rfl ?_
    refine w_bz C 72 dX3_hasSoundHead_43 rfl (fun c_3 => ?_) (fun c_3 => ?_)
    · refine w_iconst C dX3_hasSoundHead_72 ?_
      exact w_reti hret dX3_hasSoundHead_73 rfl rfl rfl rfl ⟨congrArg (fun z => some (Value.int (iI z))) (by unfold shB; first | (rw [decide_eq_false (by omega)]; rfl) | (rw [decide_eq_true hk, c_3]; rfl) | (rw [decide_eq_true hk, decide_eq_true c_3, show im_blank d (512 + i * 16 + 9 + 1) 4 = true from (by assumption)]; rfl) | (rw [decide_eq_true hk, decide_eq_false c_3, show im_blank d (512 + i * 16 + 9 + 1) 4 = true from (by assumption)]; rfl)), rfl⟩
    · refine w_aload_n C 0 dX3_hasSoundHead_46 rfl ?_
      refine w_get C 0 0 158 dX3_hasSoundHead_47 rfl rfl inX3 (by decide) (by decide +kernel) rfl ?_
      refine w_iload_n C 3 dX3_hasSoundHead_50 rfl ?_
      refine w_bipush C dX3_hasSoundHead_51 (by decide) ?_
      refine w_iadd C dX3_hasSoundHead_53 ?_
      refine w_callV (As := [.int (iI ((512 + i * 16) + 14))]) (rest := []) (w2 := [(h, .inr (3, [.ref g, .ref o, .ref dd])), (o, .inr (4, [.ref g, .long tk])), (g, .inr (2, [.ref b])), (b, .inl (gI G, 4096, .inl (arI d)))]) (st2 := [.int (iI (im_two d ((512 + i * 16) + 14)))]) C (ct_X2_pairAt G (kl k) g b d ((512 + i * 16) + 14) (by omega)) gX3_58 dX3_hasSoundHead_54 2 rfl rfl rfl rfl rfl (Nat.le_of_ble_eq_true rfl) (by decide) [2, 3] rfl (by decide) [g, b] rfl rfl rfl rfl ?_
      have f_4 := im_two_rg d ((512 + i * 16) + 14)
      refine w_aload_n C 0 dX3_hasSoundHead_57 rfl ?_
      refine w_get C 0 1 159 dX3_hasSoundHead_58 rfl rfl inX3 (by decide) (by decide +kernel) rfl ?_
      refine w_iload_n C 1 dX3_hasSoundHead_61 rfl ?_
      refine w_callV (As := [.int (iI i)]) (rest := [.int (iI (im_two d ((512 + i * 16) + 14)))]) (w2 := [(h, .inr (3, [.ref g, .ref o, .ref dd])), (o, .inr (4, [.ref g, .long tk])), (g, .inr (2, [.ref b])), (b, .inl (gI G, 4096, .inl (arI d)))]) (st2 := [.int (iI (im_sum d (512 + i * 16) 14)), .int (iI (im_two d ((512 + i * 16) + 14)))]) C (ct_X4_rightSum G (kl k) o g b tk d i (by omega)) gX3_61 dX3_hasSoundHead_62 1 rfl rfl rfl rfl rfl (Nat.le_of_ble_eq_true rfl) (by decide) [1, 2, 3] rfl (by decide) [o, g, b] rfl rfl rfl rfl ?_
      have f_5 := im_sum_rg d (512 + i * 16) 14
      refine w_icmp_ne C 72 dX3_hasSoundHead_65 rfl (by omega) (fun c_6 => ?_) (fun c_6 => ?_)
      · refine w_iconst C dX3_hasSoundHead_72 ?_
        exact w_reti hret dX3_hasSoundHead_73 rfl rfl rfl rfl ⟨congrArg (fun z => some (Value.int (iI z))) (by unfold shB; first | (rw [decide_eq_false (by omega)]; rfl) | (rw [decide_eq_true hk, c_6]; rfl) | (rw [decide_eq_true hk, decide_eq_true c_6, show im_blank d (512 + i * 16 + 9 + 1) 4 = true from (by assumption)]; rfl) | (rw [decide_eq_true hk, decide_eq_false c_6, show im_blank d (512 + i * 16 + 9 + 1) 4 = true from (by assumption)]; rfl)), rfl⟩
      · refine w_iconst C dX3_hasSoundHead_68 ?_
        refine w_goto C 73 dX3_hasSoundHead_69 rfl ?_
        exact w_reti hret dX3_hasSoundHead_73 rfl rfl rfl rfl ⟨congrArg (fun z => some (Value.int (iI z))) (by unfold shB; first | (rw [decide_eq_false (by omega)]; rfl) | (rw [decide_eq_true hk, c_6]; rfl) | (rw [decide_eq_true hk, decide_eq_true c_6, show im_blank d (512 + i * 16 + 9 + 1) 4 = true from (by assumption)]; rfl) | (rw [decide_eq_true hk, decide_eq_false c_6, show im_blank d (512 + i * 16 + 9 + 1) 4 = true from (by assumption)]; rfl)), rfl⟩
  · refine w_iload_n C 2 dX3_hasSoundHead_19 rfl ?_
    refine w_iconst C dX3_hasSoundHead_20 ?_
    refine w_icmp_ne C 72 dX3_hasSoundHead_21 rfl (by omega) (fun c_7 => ?_) (fun c_7 => ?_)
    · refine w_iconst C dX3_hasSoundHead_72 ?_
      exact w_reti hret dX3_hasSoundHead_73 rfl rfl rfl rfl ⟨congrArg (fun z => some (Value.int (iI z))) (by unfold shB; first | (rw [decide_eq_false (by omega)]; rfl) | (rw [decide_eq_true hk, c_7]; rfl) | (rw [decide_eq_true hk, decide_eq_true c_7, show im_blank d (512 + i * 16 + 9 + 1) 4 = true from (by assumption)]; rfl) | (rw [decide_eq_true hk, decide_eq_false c_7, show im_blank d (512 + i * 16 + 9 + 1) 4 = true from (by assumption)]; rfl)), rfl⟩
    · refine w_iload_n C 1 dX3_hasSoundHead_24 rfl ?_
      refine w_iconst C dX3_hasSoundHead_25 ?_
      refine w_icmp_lt C 72 dX3_hasSoundHead_26 rfl (by omega) (fun c_8 => ?_) (fun c_8 => ?_)
      · refine w_iconst C dX3_hasSoundHead_72 ?_
        exact w_reti hret dX3_hasSoundHead_73 rfl rfl rfl rfl ⟨congrArg (fun z => some (Value.int (iI z))) (by unfold shB; first | (rw [decide_eq_false (by omega)]; rfl) | (rw [decide_eq_true hk, c_8]; rfl) | (rw [decide_eq_true hk, decide_eq_true c_8, show im_blank d (512 + i * 16 + 9 + 1) 4 = true from (by assumption)]; rfl) | (rw [decide_eq_true hk, decide_eq_false c_8, show im_blank d (512 + i * 16 + 9 + 1) 4 = true from (by assumption)]; rfl)), rfl⟩
      · have hk : kd d i = 2 ∨ (kd d i = 1 ∧ 3 ≤ i) := by omega
        refine w_aload_n C 0 dX3_hasSoundHead_29 rfl ?_
        refine w_get C 0 0 158 dX3_hasSoundHead_30 rfl rfl inX3 (by decide) (by decide +kernel) rfl ?_
        refine w_iload_n C 3 dX3_hasSoundHead_33 rfl ?_
        refine w_bipush C dX3_hasSoundHead_34 (by decide) ?_
        refine w_iadd C dX3_hasSoundHead_36 ?_
        refine w_iconst C dX3_hasSoundHead_37 ?_
        refine w_iadd C dX3_hasSoundHead_38 ?_
        refine w_iconst C dX3_hasSoundHead_39 ?_
        refine w_callV (As := [.int (iI (((512 + i * 16) + 9) + 1)), .int (iI 4)]) (rest := []) (w2 := [(h, .inr (3, [.ref g, .ref o, .ref dd])), (o, .inr (4, [.ref g, .long tk])), (g, .inr (2, [.ref b])), (b, .inl (gI G, 4096, .inl (arI d)))]) (st2 := [.int (iI (bI (im_blank d (((512 + i * 16) + 9) + 1) 4)))]) C (ct_X2_isBlank G (kl k) g b d (((512 + i * 16) + 9) + 1) 4 (by omega) (by omega)) gX3_52 dX3_hasSoundHead_40 2 rfl rfl rfl rfl rfl (Nat.le_of_ble_eq_true rfl) (by decide) [2, 3] rfl (by decide) [g, b] rfl rfl rfl rfl ?_
        refine w_bz C 72 dX3_hasSoundHead_43 rfl (fun c_9 => ?_) (fun c_9 => ?_)
        · refine w_iconst C dX3_hasSoundHead_72 ?_
          exact w_reti hret dX3_hasSoundHead_73 rfl rfl rfl rfl ⟨congrArg (fun z => some (Value.int (iI z))) (by unfold shB; first | (rw [decide_eq_false (by omega)]; rfl) | (rw [decide_eq_true hk, c_9]; rfl) | (rw [decide_eq_true hk, decide_eq_true c_9, show im_blank d (512 + i * 16 + 9 + 1) 4 = true from (by assumption)]; rfl) | (rw [decide_eq_true hk, decide_eq_false c_9, show im_blank d (512 + i * 16 + 9 + 1) 4 = true from (by assumption)]; rfl)), rfl⟩
        · refine w_aload_n C 0 dX3_hasSoundHead_46 rfl ?_
          refine w_get C 0 0 158 dX3_hasSoundHead_47 rfl rfl inX3 (by decide) (by decide +kernel) rfl ?_
          refine w_iload_n C 3 dX3_hasSoundHead_50 rfl ?_
          refine w_bipush C dX3_hasSoundHead_51 (by decide) ?_
          refine w_iadd C dX3_hasSoundHead_53 ?_
          refine w_callV (As := [.int (iI ((512 + i * 16) + 14))]) (rest := []) (w2 := [(h, .inr (3, [.ref g, .ref o, .ref dd])), (o, .inr (4, [.ref g, .long tk])), (g, .inr (2, [.ref b])), (b, .inl (gI G, 4096, .inl (arI d)))]) (st2 := [.int (iI (im_two d ((512 + i * 16) + 14)))]) C (ct_X2_pairAt G (kl k) g b d ((512 + i * 16) + 14) (by omega)) gX3_58 dX3_hasSoundHead_54 2 rfl rfl rfl rfl rfl (Nat.le_of_ble_eq_true rfl) (by decide) [2, 3] rfl (by decide) [g, b] rfl rfl rfl rfl ?_
          have f_10 := im_two_rg d ((512 + i * 16) + 14)
          refine w_aload_n C 0 dX3_hasSoundHead_57 rfl ?_
          refine w_get C 0 1 159 dX3_hasSoundHead_58 rfl rfl inX3 (by decide) (by decide +kernel) rfl ?_
          refine w_iload_n C 1 dX3_hasSoundHead_61 rfl ?_
          refine w_callV (As := [.int (iI i)]) (rest := [.int (iI (im_two d ((512 + i * 16) + 14)))]) (w2 := [(h, .inr (3, [.ref g, .ref o, .ref dd])), (o, .inr (4, [.ref g, .long tk])), (g, .inr (2, [.ref b])), (b, .inl (gI G, 4096, .inl (arI d)))]) (st2 := [.int (iI (im_sum d (512 + i * 16) 14)), .int (iI (im_two d ((512 + i * 16) + 14)))]) C (ct_X4_rightSum G (kl k) o g b tk d i (by omega)) gX3_61 dX3_hasSoundHead_62 1 rfl rfl rfl rfl rfl (Nat.le_of_ble_eq_true rfl) (by decide) [1, 2, 3] rfl (by decide) [o, g, b] rfl rfl rfl rfl ?_
          have f_11 := im_sum_rg d (512 + i * 16) 14
          refine w_icmp_ne C 72 dX3_hasSoundHead_65 rfl (by omega) (fun c_12 => ?_) (fun c_12 => ?_)
          · refine w_iconst C dX3_hasSoundHead_72 ?_
            exact w_reti hret dX3_hasSoundHead_73 rfl rfl rfl rfl ⟨congrArg (fun z => some (Value.int (iI z))) (by unfold shB; first | (rw [decide_eq_false (by omega)]; rfl) | (rw [decide_eq_true hk, c_12]; rfl) | (rw [decide_eq_true hk, decide_eq_true c_12, show im_blank d (512 + i * 16 + 9 + 1) 4 = true from (by assumption)]; rfl) | (rw [decide_eq_true hk, decide_eq_false c_12, show im_blank d (512 + i * 16 + 9 + 1) 4 = true from (by assumption)]; rfl)), rfl⟩
          · refine w_iconst C dX3_hasSoundHead_68 ?_
            refine w_goto C 73 dX3_hasSoundHead_69 rfl ?_
            exact w_reti hret dX3_hasSoundHead_73 rfl rfl rfl rfl ⟨congrArg (fun z => some (Value.int (iI z))) (by unfold shB; first | (rw [decide_eq_false (by omega)]; rfl) | (rw [decide_eq_true hk, c_12]; rfl) | (rw [decide_eq_true hk, decide_eq_true c_12, show im_blank d (512 + i * 16 + 9 + 1) 4 = true from (by assumption)]; rfl) | (rw [decide_eq_true hk, decide_eq_false c_12, show im_blank d (512 + i * 16 + 9 + 1) 4 = true from (by assumption)]; rfl)), rfl⟩

theorem gX3_64 : cwv RX3 64 yX4_size cX4_size 2 (some .int) 1 443 444 445 67 446 := by decide +kernel
set_option maxHeartbeats 4000000 in
set_option maxRecDepth 100000 in
theorem ct_X3_hasSoundSize (G : GX) (l : Launch) (h : Nat) (o : Nat) (g : Nat) (b : Nat) (dd : Nat) (tk : Int64) (d : Im) (i : Int) (hi : 0 ≤ i ∧ i < 32) : Ct G l yX3_hasSoundSize cX3_hasSoundSize 3 (some .boolean) rmX3_hasSoundSize [.ref h, .int (iI i)] [(h, .inr (3, [.ref g, .ref o, .ref dd])), (o, .inr (4, [.ref g, .long tk])), (g, .inr (2, [.ref b])), (b, .inl (gI G, 4096, .inl (arI d)))] (some (.int (iI (bI (ssB d i))))) [(h, .inr (3, [.ref g, .ref o, .ref dd])), (o, .inr (4, [.ref g, .long tk])), (g, .inr (2, [.ref b])), (b, .inl (gI G, 4096, .inl (arI d)))] := by
  refine Ct.of (by decide) (Nat.le_of_ble_eq_true rfl) ?_
  intro k C hl hret
  subst hl
  refine w_lv (lv2 := [(0, .ref h), (1, .int (iI i))]) [0, 1] rfl ?_
  refine w_aload_n C 0 dX3_hasSoundSize_0 rfl ?_
  refine w_get C 0 1 159 dX3_hasSoundSize_1 rfl rfl inX3 (by decide) (by decide +kernel) rfl ?_
  refine w_iload_n C 1 dX3_hasSoundSize_4 rfl ?_
  refine w_callV (As := [.int (iI i)]) (rest := []) (w2 := [(h, .inr (3, [.ref g, .ref o, .ref dd])), (o, .inr (4, [.ref g, .long tk])), (g, .inr (2, [.ref b])), (b, .inl (gI G, 4096, .inl (arI d)))]) (st2 := [.int (iI (sz d i))]) C (ct_X4_size G (kl k) o g b tk d i (by omega)) gX3_64 dX3_hasSoundSize_5 1 rfl rfl rfl rfl rfl (Nat.le_of_ble_eq_true rfl) (by decide) [1, 2, 3] rfl (by decide) [o, g, b] rfl rfl rfl rfl ?_
  have f_1 := sz_rg d i
  refine w_istore_n (lv2 := [(0, .ref h), (1, .int (iI i)), (2, .int (iI (sz d i)))]) C dX3_hasSoundSize_8 (by decide) rfl ?_
  refine w_iload_n C 2 dX3_hasSoundSize_9 rfl ?_
  refine w_sipush C dX3_hasSoundSize_10 (by decide) ?_
  refine w_icmp_gt C 43 dX3_hasSoundSize_13 rfl (by omega) (fun c_2 => ?_) (fun c_2 => ?_)
  · refine w_iconst C dX3_hasSoundSize_43 ?_
    exact w_reti hret dX3_hasSoundSize_44 rfl rfl rfl rfl ⟨congrArg (fun z => some (Value.int (iI z))) (by unfold ssB; first | (rw [decide_eq_false (by omega)]; rfl) | (rw [decide_eq_true (by omega)]; rfl)), rfl⟩
  · refine w_aload_n C 0 dX3_hasSoundSize_16 rfl ?_
    refine w_get C 0 1 159 dX3_hasSoundSize_17 rfl rfl inX3 (by decide) (by decide +kernel) rfl ?_
    refine w_iload_n C 1 dX3_hasSoundSize_20 rfl ?_
    refine w_callV (As := [.int (iI i)]) (rest := []) (w2 := [(h, .inr (3, [.ref g, .ref o, .ref dd])), (o, .inr (4, [.ref g, .long tk])), (g, .inr (2, [.ref b])), (b, .inl (gI G, 4096, .inl (arI d)))]) (st2 := [.int (iI (kd d i))]) C (ct_X4_kind G (kl k) o g b tk d i (by omega)) gX3_45 dX3_hasSoundSize_21 1 rfl rfl rfl rfl rfl (Nat.le_of_ble_eq_true rfl) (by decide) [1, 2, 3] rfl (by decide) [o, g, b] rfl rfl rfl rfl ?_
    have f_3 := kd_rg d i
    refine w_iconst C dX3_hasSoundSize_24 ?_
    refine w_icmp_eq C 39 dX3_hasSoundSize_25 rfl (by omega) (fun c_4 => ?_) (fun c_4 => ?_)
    · refine w_iconst C dX3_hasSoundSize_39 ?_
      refine w_goto C 44 dX3_hasSoundSize_40 rfl ?_
      exact w_reti hret dX3_hasSoundSize_44 rfl rfl rfl rfl ⟨congrArg (fun z => some (Value.int (iI z))) (by unfold ssB; first | (rw [decide_eq_false (by omega)]; rfl) | (rw [decide_eq_true (by omega)]; rfl)), rfl⟩
    · refine w_iload_n C 2 dX3_hasSoundSize_28 rfl ?_
      refine w_if_le C 43 dX3_hasSoundSize_29 rfl (by omega) (fun c_5 => ?_) (fun c_5 => ?_)
      · refine w_iconst C dX3_hasSoundSize_43 ?_
        exact w_reti hret dX3_hasSoundSize_44 rfl rfl rfl rfl ⟨congrArg (fun z => some (Value.int (iI z))) (by unfold ssB; first | (rw [decide_eq_false (by omega)]; rfl) | (rw [decide_eq_true (by omega)]; rfl)), rfl⟩
      · refine w_iload_n C 2 dX3_hasSoundSize_32 rfl ?_
        refine w_bipush C dX3_hasSoundSize_33 (by decide) ?_
        refine w_irem C dX3_hasSoundSize_35 (by omega) ?_
        refine w_if_ne C 43 dX3_hasSoundSize_36 rfl (by omega) (fun c_6 => ?_) (fun c_6 => ?_)
        · refine w_iconst C dX3_hasSoundSize_43 ?_
          exact w_reti hret dX3_hasSoundSize_44 rfl rfl rfl rfl ⟨congrArg (fun z => some (Value.int (iI z))) (by unfold ssB; first | (rw [decide_eq_false (by omega)]; rfl) | (rw [decide_eq_true (by omega)]; rfl)), rfl⟩
        · refine w_iconst C dX3_hasSoundSize_39 ?_
          refine w_goto C 44 dX3_hasSoundSize_40 rfl ?_
          exact w_reti hret dX3_hasSoundSize_44 rfl rfl rfl rfl ⟨congrArg (fun z => some (Value.int (iI z))) (by unfold ssB; first | (rw [decide_eq_false (by omega)]; rfl) | (rw [decide_eq_true (by omega)]; rfl)), rfl⟩

theorem gX3_67 : cwv RX3 67 yX4_blockCount cX4_blockCount 2 (some .int) 1 452 453 454 67 455 := by decide +kernel
theorem gX3_70 : cwv RX3 70 yX2_at cX2_at 2 (some .int) 1 457 359 360 66 361 := by decide +kernel
set_option maxHeartbeats 4000000 in
set_option maxRecDepth 100000 in
theorem ct_X3_hasBlankRest (G : GX) (l : Launch) (h : Nat) (o : Nat) (g : Nat) (b : Nat) (dd : Nat) (tk : Int64) (d : Im) (i : Int) (hi : 0 ≤ i ∧ i < 32) : Ct G l yX3_hasBlankRest cX3_hasBlankRest 5 (some .boolean) rmX3_hasBlankRest [.ref h, .int (iI i)] [(h, .inr (3, [.ref g, .ref o, .ref dd])), (o, .inr (4, [.ref g, .long tk])), (g, .inr (2, [.ref b])), (b, .inl (gI G, 4096, .inl (arI d)))] (some (.int (iI (bI (sbB d i))))) [(h, .inr (3, [.ref g, .ref o, .ref dd])), (o, .inr (4, [.ref g, .long tk])), (g, .inr (2, [.ref b])), (b, .inl (gI G, 4096, .inl (arI d)))] := by
  refine Ct.of (by decide) (Nat.le_of_ble_eq_true rfl) ?_
  intro k C hl hret
  subst hl
  refine w_lv (lv2 := [(0, .ref h), (1, .int (iI i))]) [0, 1] rfl ?_
  refine w_aload_n C 0 dX3_hasBlankRest_0 rfl ?_
  refine w_get C 0 1 159 dX3_hasBlankRest_1 rfl rfl inX3 (by decide) (by decide +kernel) rfl ?_
  refine w_iload_n C 1 dX3_hasBlankRest_4 rfl ?_
  refine w_callV (As := [.int (iI i)]) (rest := []) (w2 := [(h, .inr (3, [.ref g, .ref o, .ref dd])), (o, .inr (4, [.ref g, .long tk])), (g, .inr (2, [.ref b])), (b, .inl (gI G, 4096, .inl (arI d)))]) (st2 := [.int (iI (bc d i))]) C (ct_X4_blockCount G (kl k) o g b tk d i (by omega)) gX3_67 dX3_hasBlankRest_5 1 rfl rfl rfl rfl rfl (Nat.le_of_ble_eq_true rfl) (by decide) [1, 2, 3] rfl (by decide) [o, g, b] rfl rfl rfl rfl ?_
  have f_1 := bc_rg d i
  refine w_istore_n (lv2 := [(0, .ref h), (1, .int (iI i)), (2, .int (iI (bc d i)))]) C dX3_hasBlankRest_8 (by decide) rfl ?_
  refine w_iload_n C 1 dX3_hasBlankRest_9 rfl ?_
  refine w_callS (As := [.int (iI i)]) (rest := []) (w2 := [(h, .inr (3, [.ref g, .ref o, .ref dd])), (o, .inr (4, [.ref g, .long tk])), (g, .inr (2, [.ref b])), (b, .inl (gI G, 4096, .inl (arI d)))]) (st2 := [.int (iI (512 + i * 16))]) C (ct_X4_placeOf G (kl k) i) gX3_49 dX3_hasBlankRest_10 rfl rfl (Nat.le_of_ble_eq_true rfl) (by decide) [] rfl (by decide) [] rfl rfl rfl rfl ?_
  refine w_istore_n (lv2 := [(0, .ref h), (1, .int (iI i)), (2, .int (iI (bc d i))), (3, .int (iI (512 + i * 16)))]) C dX3_hasBlankRest_13 (by decide) rfl ?_
  refine w_iload_n C 2 dX3_hasBlankRest_14 rfl ?_
  refine w_iconst C dX3_hasBlankRest_15 ?_
  refine w_icmp_gt C 37 dX3_hasBlankRest_16 rfl (by omega) (fun c_2 => ?_) (fun c_2 => ?_)
  · refine w_iload_n C 2 dX3_hasBlankRest_37 rfl ?_
    refine w_iconst C dX3_hasBlankRest_38 ?_
    refine w_isub C dX3_hasBlankRest_39 ?_
    refine w_istore (lv2 := [(0, .ref h), (1, .int (iI i)), (2, .int (iI (bc d i))), (3, .int (iI (512 + i * 16))), (4, .int (iI ((bc d i) - 5)))]) C dX3_hasBlankRest_40 (by decide) rfl ?_
    refine w_aload_n C 0 dX3_hasBlankRest_42 rfl ?_
    refine w_get C 0 0 158 dX3_hasBlankRest_43 rfl rfl inX3 (by decide) (by decide +kernel) rfl ?_
    refine w_aload_n C 0 dX3_hasBlankRest_46 rfl ?_
    refine w_get C 0 0 158 dX3_hasBlankRest_47 rfl rfl inX3 (by decide) (by decide +kernel) rfl ?_
    refine w_iload_n C 3 dX3_hasBlankRest_50 rfl ?_
    refine w_bipush C dX3_hasBlankRest_51 (by decide) ?_
    refine w_iadd C dX3_hasBlankRest_53 ?_
    refine w_callV (As := [.int (iI ((512 + i * 16) + 9))]) (rest := [.ref g]) (w2 := [(h, .inr (3, [.ref g, .ref o, .ref dd])), (o, .inr (4, [.ref g, .long tk])), (g, .inr (2, [.ref b])), (b, .inl (gI G, 4096, .inl (arI d)))]) (st2 := [.int (iI (im_at d ((512 + i * 16) + 9))), .ref g]) C (ct_X2_at G (kl k) g b d ((512 + i * 16) + 9) (by omega)) gX3_70 dX3_hasBlankRest_54 2 rfl rfl rfl rfl rfl (Nat.le_of_ble_eq_true rfl) (by decide) [2, 3] rfl (by decide) [g, b] rfl rfl rfl rfl ?_
    have f_3 := im_at_rg d ((512 + i * 16) + 9)
    refine w_bipush C dX3_hasBlankRest_57 (by decide) ?_
    refine w_imul C dX3_hasBlankRest_59 ?_
    refine w_iload C 4 dX3_hasBlankRest_60 rfl ?_
    refine w_iadd C dX3_hasBlankRest_62 ?_
    refine w_bipush C dX3_hasBlankRest_63 (by decide) ?_
    refine w_iload C 4 dX3_hasBlankRest_65 rfl ?_
    refine w_isub C dX3_hasBlankRest_67 ?_
    refine w_callV (As := [.int (iI (((im_at d ((512 + i * 16) + 9)) * 64) + ((bc d i) - 5))), .int (iI (64 - ((bc d i) - 5)))]) (rest := []) (w2 := [(h, .inr (3, [.ref g, .ref o, .ref dd])), (o, .inr (4, [.ref g, .long tk])), (g, .inr (2, [.ref b])), (b, .inl (gI G, 4096, .inl (arI d)))]) (st2 := [.int (iI (bI (im_blank d (((im_at d ((512 + i * 16) + 9)) * 64) + ((bc d i) - 5)) (64 - ((bc d i) - 5)))))]) C (ct_X2_isBlank G (kl k) g b d (((im_at d ((512 + i * 16) + 9)) * 64) + ((bc d i) - 5)) (64 - ((bc d i) - 5)) (by omega) (by omega)) gX3_52 dX3_hasBlankRest_68 2 rfl rfl rfl rfl rfl (Nat.le_of_ble_eq_true rfl) (by decide) [2, 3] rfl (by decide) [g, b] rfl rfl rfl rfl ?_
    exact w_reti hret dX3_hasBlankRest_71 rfl (nar_b _) rfl rfl ⟨congrArg (fun z => some (Value.int (iI (bI z)))) (by unfold sbB; rw [if_pos (by omega)]), rfl⟩
  · refine w_aload_n C 0 dX3_hasBlankRest_19 rfl ?_
    refine w_get C 0 0 158 dX3_hasBlankRest_20 rfl rfl inX3 (by decide) (by decide +kernel) rfl ?_
    refine w_iload_n C 3 dX3_hasBlankRest_23 rfl ?_
    refine w_iconst C dX3_hasBlankRest_24 ?_
    refine w_iadd C dX3_hasBlankRest_25 ?_
    refine w_iload_n C 2 dX3_hasBlankRest_26 rfl ?_
    refine w_iadd C dX3_hasBlankRest_27 ?_
    refine w_iconst C dX3_hasBlankRest_28 ?_
    refine w_iload_n C 2 dX3_hasBlankRest_29 rfl ?_
    refine w_isub C dX3_hasBlankRest_30 ?_
    refine w_iconst C dX3_hasBlankRest_31 ?_
    refine w_iadd C dX3_hasBlankRest_32 ?_
    refine w_callV (As := [.int (iI (((512 + i * 16) + 4) + (bc d i))), .int (iI ((5 - (bc d i)) + 1))]) (rest := []) (w2 := [(h, .inr (3, [.ref g, .ref o, .ref dd])), (o, .inr (4, [.ref g, .long tk])), (g, .inr (2, [.ref b])), (b, .inl (gI G, 4096, .inl (arI d)))]) (st2 := [.int (iI (bI (im_blank d (((512 + i * 16) + 4) + (bc d i)) ((5 - (bc d i)) + 1))))]) C (ct_X2_isBlank G (kl k) g b d (((512 + i * 16) + 4) + (bc d i)) ((5 - (bc d i)) + 1) (by omega) (by omega)) gX3_52 dX3_hasBlankRest_33 2 rfl rfl rfl rfl rfl (Nat.le_of_ble_eq_true rfl) (by decide) [2, 3] rfl (by decide) [g, b] rfl rfl rfl rfl ?_
    exact w_reti hret dX3_hasBlankRest_36 rfl (nar_b _) rfl rfl ⟨congrArg (fun z => some (Value.int (iI (bI z)))) (by unfold sbB; rw [if_neg (by omega)]), rfl⟩

theorem gX3_23 : cwv RX3 23 yX4_forgetTaken cX4_forgetTaken 1 none 0 407 408 409 67 410 := by decide +kernel
theorem gX3_28 : cwv RX3 28 yX4_wipe cX4_wipe 2 none 1 411 412 413 67 414 := by decide +kernel
theorem gX3_32 : cwv RX3 32 yX3_hasSoundHead cX3_hasSoundHead 4 (some .boolean) 1 419 421 0 71 422 := by decide +kernel
theorem gX3_36 : cwv RX3 36 yX3_hasSoundSize cX3_hasSoundSize 3 (some .boolean) 1 439 441 1 71 442 := by decide +kernel
theorem gX3_39 : cwv RX3 39 yX3_hasBlankRest cX3_hasBlankRest 5 (some .boolean) 1 448 450 2 71 451 := by decide +kernel
theorem gX3_42 : cwv RX3 42 yX4_takeBlocks cX4_takeBlocks 4 (some .boolean) 1 458 459 460 67 461 := by decide +kernel
set_option maxHeartbeats 4000000 in
set_option maxRecDepth 100000 in
theorem ct_X3_keepSound (G : GX) (l : Launch) (h : Nat) (o : Nat) (g : Nat) (b : Nat) (dd : Nat) (tk : Int64) (d : Im) : Ct G l yX3_keepSound cX3_keepSound 3 none rmX3_keepSound [.ref h] [(h, .inr (3, [.ref g, .ref o, .ref dd])), (o, .inr (4, [.ref g, .long tk])), (g, .inr (2, [.ref b])), (b, .inl (gI G, 4096, .inl (arI d)))] none [(h, .inr (3, [.ref g, .ref o, .ref dd])), (o, .inr (4, [.ref g, .long ((kpF d).1)])), (g, .inr (2, [.ref b])), (b, .inl (gI G, 4096, .inl (arI ((kpF d).2))))] := by
  refine Ct.of (by decide) (Nat.le_of_ble_eq_true rfl) ?_
  intro k C hl hret
  subst hl
  refine w_lv (lv2 := [(0, .ref h)]) [0] rfl ?_
  refine w_aload_n C 0 dX3_keepSound_0 rfl ?_
  refine w_get C 0 1 159 dX3_keepSound_1 rfl rfl inX3 (by decide) (by decide +kernel) rfl ?_
  refine w_callV (As := []) (rest := []) (w2 := [(h, .inr (3, [.ref g, .ref o, .ref dd])), (o, .inr (4, [.ref g, .long 0])), (g, .inr (2, [.ref b])), (b, .inl (gI G, 4096, .inl (arI d)))]) (st2 := []) C (ct_X4_forgetTaken G (kl k) o g b tk d) gX3_23 dX3_keepSound_4 1 rfl rfl rfl rfl rfl (Nat.le_of_ble_eq_true rfl) (by decide) [1, 2, 3] rfl (by decide) [o, g, b] rfl rfl rfl rfl ?_
  refine w_aload_n C 0 dX3_keepSound_7 rfl ?_
  refine w_get C 0 1 159 dX3_keepSound_8 rfl rfl inX3 (by decide) (by decide +kernel) rfl ?_
  refine w_iconst C dX3_keepSound_11 ?_
  refine w_callV (As := [.int (iI 0)]) (rest := []) (w2 := [(h, .inr (3, [.ref g, .ref o, .ref dd])), (o, .inr (4, [.ref g, .long 0])), (g, .inr (2, [.ref b])), (b, .inl (gI G, 4096, .inl (arI (im_wipe d (512 + 0 * 16) 16))))]) (st2 := []) C (ct_X4_wipe G (kl k) o g b 0 d 0 (by omega)) gX3_28 dX3_keepSound_12 1 rfl rfl rfl rfl rfl (Nat.le_of_ble_eq_true rfl) (by decide) [1, 2, 3] rfl (by decide) [o, g, b] rfl rfl rfl rfl ?_
  refine w_iconst C dX3_keepSound_15 ?_
  refine w_istore_n (lv2 := [(0, .ref h), (1, .int (iI 1))]) C dX3_keepSound_16 (by decide) rfl ?_
  refine w_ord (ws2 := [(h, .inr (3, [.ref g, .ref o, .ref dd])), (o, .inr (4, [.ref g, .long 0])), (g, .inr (2, [.ref b])), (b, .inl (gI G, 4096, .inl (arI ((im_wipe d (512 + 0 * 16) 16)))))]) [0, 1, 2, 3] rfl (by decide) ?_
  have L_17 : ∀ (nn_17 : Nat) (i : Int) (x : Int64) (y : Im), (1 ≤ i ∧ i ≤ 32) → (kpF d = kps (32 - i).toNat i x y) → (32 - i).toNat = nn_17 → Wd G k 3 0 0 [(h, .inr (3, [.ref g, .ref o, .ref dd])), (o, .inr (4, [.ref g, .long x])), (g, .inr (2, [.ref b])), (b, .inl (gI G, 4096, .inl (arI y)))] 17 [(0, .ref h), (1, .int (iI i))] [] := by
    intro nn_17
    induction nn_17 using Nat.strongRecOn with
    | ind nn_17 ih_17 =>
      intro i x y h1 h2 hm_17
      refine w_iload_n C 1 dX3_keepSound_17 rfl ?_
      refine w_bipush C dX3_keepSound_18 (by decide) ?_
      refine w_icmp_ge C 82 dX3_keepSound_20 rfl (by omega) (fun c_1 => ?_) (fun c_1 => ?_)
      · exact w_retv hret dX3_keepSound_82 rfl rfl rfl ⟨rfl, (by rw [h2, show (32 - i).toNat = 0 by omega, kps])⟩
      · refine w_aload_n C 0 dX3_keepSound_23 rfl ?_
        refine w_iload_n C 1 dX3_keepSound_24 rfl ?_
        refine w_callV (As := [.int (iI i)]) (rest := []) (w2 := [(h, .inr (3, [.ref g, .ref o, .ref dd])), (o, .inr (4, [.ref g, .long x])), (g, .inr (2, [.ref b])), (b, .inl (gI G, 4096, .inl (arI y)))]) (st2 := [.int (iI (bI (shB y i)))]) C (ct_X3_hasSoundHead G (kl k) h o g b dd x y i (by omega)) gX3_32 dX3_keepSound_25 0 rfl rfl rfl rfl rfl (Nat.le_of_ble_eq_true rfl) (by decide) [0, 1, 2, 3] rfl (by decide) [h, o, g, b] rfl rfl rfl rfl ?_
        refine w_bz C 62 dX3_keepSound_28 rfl (fun c_2 => ?_) (fun c_2 => ?_)
        · refine w_iconst C dX3_keepSound_62 ?_
          refine w_istore_n (lv2 := [(0, .ref h), (1, .int (iI i)), (2, .int (iI 0))]) C dX3_keepSound_63 (by decide) rfl ?_
          refine w_iload_n C 2 dX3_keepSound_64 rfl ?_
          refine w_if_ne C 76 dX3_keepSound_65 rfl (by omega) (fun c_3 => ?_) (fun c_3 => ?_)
          · omega
          · refine w_aload_n C 0 dX3_keepSound_68 rfl ?_
            refine w_get C 0 1 159 dX3_keepSound_69 rfl rfl inX3 (by decide) (by decide +kernel) rfl ?_
            refine w_iload_n C 1 dX3_keepSound_72 rfl ?_
            refine w_callV (As := [.int (iI i)]) (rest := []) (w2 := [(h, .inr (3, [.ref g, .ref o, .ref dd])), (o, .inr (4, [.ref g, .long x])), (g, .inr (2, [.ref b])), (b, .inl (gI G, 4096, .inl (arI (im_wipe y (512 + i * 16) 16))))]) (st2 := []) C (ct_X4_wipe G (kl k) o g b x y i (by omega)) gX3_28 dX3_keepSound_73 1 rfl rfl rfl rfl rfl (Nat.le_of_ble_eq_true rfl) (by decide) [1, 2, 3] rfl (by decide) [o, g, b] rfl rfl rfl rfl ?_
            refine w_iinc (lv2 := [(0, .ref h), (1, .int (iI (i + 1))), (2, .int (iI 0))]) C 1 dX3_keepSound_76 rfl (by decide) rfl ?_
            refine w_goto C 17 dX3_keepSound_79 rfl ?_
            refine w_ord (ws2 := [(h, .inr (3, [.ref g, .ref o, .ref dd])), (o, .inr (4, [.ref g, .long x])), (g, .inr (2, [.ref b])), (b, .inl (gI G, 4096, .inl (arI ((im_wipe y (512 + i * 16) 16)))))]) [0, 1, 2, 3] rfl (by decide) ?_
            refine w_lv (lv2 := [(0, .ref h), (1, .int (iI ((i + 1))))]) [0, 1] rfl ?_
            exact ih_17 _ (by omega) (i + 1) x (im_wipe y (512 + i * 16) 16) (by omega) (by rw [h2, show (32 - i).toNat = (32 - (i + 1)).toNat + 1 by omega, kps]; first | (rw [show sndB x y i = true from by unfold sndB; simp only [c_1, c_2, c_3]; rfl]; rfl) | (rw [show sndB x y i = false from by unfold sndB; simp [c_1, c_2, c_3]]; rfl)) rfl
        · refine w_aload_n C 0 dX3_keepSound_31 rfl ?_
          refine w_iload_n C 1 dX3_keepSound_32 rfl ?_
          refine w_callV (As := [.int (iI i)]) (rest := []) (w2 := [(h, .inr (3, [.ref g, .ref o, .ref dd])), (o, .inr (4, [.ref g, .long x])), (g, .inr (2, [.ref b])), (b, .inl (gI G, 4096, .inl (arI y)))]) (st2 := [.int (iI (bI (ssB y i)))]) C (ct_X3_hasSoundSize G (kl k) h o g b dd x y i (by omega)) gX3_36 dX3_keepSound_33 0 rfl rfl rfl rfl rfl (Nat.le_of_ble_eq_true rfl) (by decide) [0, 1, 2, 3] rfl (by decide) [h, o, g, b] rfl rfl rfl rfl ?_
          refine w_bz C 62 dX3_keepSound_36 rfl (fun c_4 => ?_) (fun c_4 => ?_)
          · refine w_iconst C dX3_keepSound_62 ?_
            refine w_istore_n (lv2 := [(0, .ref h), (1, .int (iI i)), (2, .int (iI 0))]) C dX3_keepSound_63 (by decide) rfl ?_
            refine w_iload_n C 2 dX3_keepSound_64 rfl ?_
            refine w_if_ne C 76 dX3_keepSound_65 rfl (by omega) (fun c_5 => ?_) (fun c_5 => ?_)
            · omega
            · refine w_aload_n C 0 dX3_keepSound_68 rfl ?_
              refine w_get C 0 1 159 dX3_keepSound_69 rfl rfl inX3 (by decide) (by decide +kernel) rfl ?_
              refine w_iload_n C 1 dX3_keepSound_72 rfl ?_
              refine w_callV (As := [.int (iI i)]) (rest := []) (w2 := [(h, .inr (3, [.ref g, .ref o, .ref dd])), (o, .inr (4, [.ref g, .long x])), (g, .inr (2, [.ref b])), (b, .inl (gI G, 4096, .inl (arI (im_wipe y (512 + i * 16) 16))))]) (st2 := []) C (ct_X4_wipe G (kl k) o g b x y i (by omega)) gX3_28 dX3_keepSound_73 1 rfl rfl rfl rfl rfl (Nat.le_of_ble_eq_true rfl) (by decide) [1, 2, 3] rfl (by decide) [o, g, b] rfl rfl rfl rfl ?_
              refine w_iinc (lv2 := [(0, .ref h), (1, .int (iI (i + 1))), (2, .int (iI 0))]) C 1 dX3_keepSound_76 rfl (by decide) rfl ?_
              refine w_goto C 17 dX3_keepSound_79 rfl ?_
              refine w_ord (ws2 := [(h, .inr (3, [.ref g, .ref o, .ref dd])), (o, .inr (4, [.ref g, .long x])), (g, .inr (2, [.ref b])), (b, .inl (gI G, 4096, .inl (arI ((im_wipe y (512 + i * 16) 16)))))]) [0, 1, 2, 3] rfl (by decide) ?_
              refine w_lv (lv2 := [(0, .ref h), (1, .int (iI ((i + 1))))]) [0, 1] rfl ?_
              exact ih_17 _ (by omega) (i + 1) x (im_wipe y (512 + i * 16) 16) (by omega) (by rw [h2, show (32 - i).toNat = (32 - (i + 1)).toNat + 1 by omega, kps]; first | (rw [show sndB x y i = true from by unfold sndB; simp only [c_1, c_2, c_4, c_5]; rfl]; rfl) | (rw [show sndB x y i = false from by unfold sndB; simp [c_1, c_2, c_4, c_5]]; rfl)) rfl
          · refine w_aload_n C 0 dX3_keepSound_39 rfl ?_
            refine w_iload_n C 1 dX3_keepSound_40 rfl ?_
            refine w_callV (As := [.int (iI i)]) (rest := []) (w2 := [(h, .inr (3, [.ref g, .ref o, .ref dd])), (o, .inr (4, [.ref g, .long x])), (g, .inr (2, [.ref b])), (b, .inl (gI G, 4096, .inl (arI y)))]) (st2 := [.int (iI (bI (sbB y i)))]) C (ct_X3_hasBlankRest G (kl k) h o g b dd x y i (by omega)) gX3_39 dX3_keepSound_41 0 rfl rfl rfl rfl rfl (Nat.le_of_ble_eq_true rfl) (by decide) [0, 1, 2, 3] rfl (by decide) [h, o, g, b] rfl rfl rfl rfl ?_
            refine w_bz C 62 dX3_keepSound_44 rfl (fun c_6 => ?_) (fun c_6 => ?_)
            · refine w_iconst C dX3_keepSound_62 ?_
              refine w_istore_n (lv2 := [(0, .ref h), (1, .int (iI i)), (2, .int (iI 0))]) C dX3_keepSound_63 (by decide) rfl ?_
              refine w_iload_n C 2 dX3_keepSound_64 rfl ?_
              refine w_if_ne C 76 dX3_keepSound_65 rfl (by omega) (fun c_7 => ?_) (fun c_7 => ?_)
              · omega
              · refine w_aload_n C 0 dX3_keepSound_68 rfl ?_
                refine w_get C 0 1 159 dX3_keepSound_69 rfl rfl inX3 (by decide) (by decide +kernel) rfl ?_
                refine w_iload_n C 1 dX3_keepSound_72 rfl ?_
                refine w_callV (As := [.int (iI i)]) (rest := []) (w2 := [(h, .inr (3, [.ref g, .ref o, .ref dd])), (o, .inr (4, [.ref g, .long x])), (g, .inr (2, [.ref b])), (b, .inl (gI G, 4096, .inl (arI (im_wipe y (512 + i * 16) 16))))]) (st2 := []) C (ct_X4_wipe G (kl k) o g b x y i (by omega)) gX3_28 dX3_keepSound_73 1 rfl rfl rfl rfl rfl (Nat.le_of_ble_eq_true rfl) (by decide) [1, 2, 3] rfl (by decide) [o, g, b] rfl rfl rfl rfl ?_
                refine w_iinc (lv2 := [(0, .ref h), (1, .int (iI (i + 1))), (2, .int (iI 0))]) C 1 dX3_keepSound_76 rfl (by decide) rfl ?_
                refine w_goto C 17 dX3_keepSound_79 rfl ?_
                refine w_ord (ws2 := [(h, .inr (3, [.ref g, .ref o, .ref dd])), (o, .inr (4, [.ref g, .long x])), (g, .inr (2, [.ref b])), (b, .inl (gI G, 4096, .inl (arI ((im_wipe y (512 + i * 16) 16)))))]) [0, 1, 2, 3] rfl (by decide) ?_
                refine w_lv (lv2 := [(0, .ref h), (1, .int (iI ((i + 1))))]) [0, 1] rfl ?_
                exact ih_17 _ (by omega) (i + 1) x (im_wipe y (512 + i * 16) 16) (by omega) (by rw [h2, show (32 - i).toNat = (32 - (i + 1)).toNat + 1 by omega, kps]; first | (rw [show sndB x y i = true from by unfold sndB; simp only [c_1, c_2, c_4, c_6, c_7]; rfl]; rfl) | (rw [show sndB x y i = false from by unfold sndB; simp [c_1, c_2, c_4, c_6, c_7]]; rfl)) rfl
            · refine w_aload_n C 0 dX3_keepSound_47 rfl ?_
              refine w_get C 0 1 159 dX3_keepSound_48 rfl rfl inX3 (by decide) (by decide +kernel) rfl ?_
              refine w_iload_n C 1 dX3_keepSound_51 rfl ?_
              refine w_callV (As := [.int (iI i)]) (rest := []) (w2 := [(h, .inr (3, [.ref g, .ref o, .ref dd])), (o, .inr (4, [.ref g, .long (tkT x y i)])), (g, .inr (2, [.ref b])), (b, .inl (gI G, 4096, .inl (arI y)))]) (st2 := [.int (iI (bI (tkB x y i)))]) C (ct_X4_takeBlocks G (kl k) o g b x y i (by omega)) gX3_42 dX3_keepSound_52 1 rfl rfl rfl rfl rfl (Nat.le_of_ble_eq_true rfl) (by decide) [1, 2, 3] rfl (by decide) [o, g, b] rfl rfl rfl rfl ?_
              refine w_bz C 62 dX3_keepSound_55 rfl (fun c_8 => ?_) (fun c_8 => ?_)
              · refine w_ws (ws2 := [(h, .inr (3, [.ref g, .ref o, .ref dd])), (o, .inr (4, [.ref g, .long x])), (g, .inr (2, [.ref b])), (b, .inl (gI G, 4096, .inl (arI y)))]) (by unfold tkT; rw [if_neg (of_decide_eq_false c_8)]) ?_
                refine w_iconst C dX3_keepSound_62 ?_
                refine w_istore_n (lv2 := [(0, .ref h), (1, .int (iI i)), (2, .int (iI 0))]) C dX3_keepSound_63 (by decide) rfl ?_
                refine w_iload_n C 2 dX3_keepSound_64 rfl ?_
                refine w_if_ne C 76 dX3_keepSound_65 rfl (by omega) (fun c_9 => ?_) (fun c_9 => ?_)
                · omega
                · refine w_aload_n C 0 dX3_keepSound_68 rfl ?_
                  refine w_get C 0 1 159 dX3_keepSound_69 rfl rfl inX3 (by decide) (by decide +kernel) rfl ?_
                  refine w_iload_n C 1 dX3_keepSound_72 rfl ?_
                  refine w_callV (As := [.int (iI i)]) (rest := []) (w2 := [(h, .inr (3, [.ref g, .ref o, .ref dd])), (o, .inr (4, [.ref g, .long x])), (g, .inr (2, [.ref b])), (b, .inl (gI G, 4096, .inl (arI (im_wipe y (512 + i * 16) 16))))]) (st2 := []) C (ct_X4_wipe G (kl k) o g b x y i (by omega)) gX3_28 dX3_keepSound_73 1 rfl rfl rfl rfl rfl (Nat.le_of_ble_eq_true rfl) (by decide) [1, 2, 3] rfl (by decide) [o, g, b] rfl rfl rfl rfl ?_
                  refine w_iinc (lv2 := [(0, .ref h), (1, .int (iI (i + 1))), (2, .int (iI 0))]) C 1 dX3_keepSound_76 rfl (by decide) rfl ?_
                  refine w_goto C 17 dX3_keepSound_79 rfl ?_
                  refine w_ord (ws2 := [(h, .inr (3, [.ref g, .ref o, .ref dd])), (o, .inr (4, [.ref g, .long x])), (g, .inr (2, [.ref b])), (b, .inl (gI G, 4096, .inl (arI ((im_wipe y (512 + i * 16) 16)))))]) [0, 1, 2, 3] rfl (by decide) ?_
                  refine w_lv (lv2 := [(0, .ref h), (1, .int (iI ((i + 1))))]) [0, 1] rfl ?_
                  exact ih_17 _ (by omega) (i + 1) x (im_wipe y (512 + i * 16) 16) (by omega) (by rw [h2, show (32 - i).toNat = (32 - (i + 1)).toNat + 1 by omega, kps]; first | (rw [show sndB x y i = true from by unfold sndB; simp only [c_1, c_2, c_4, c_6, c_8, c_9]; rfl]; rfl) | (rw [show sndB x y i = false from by unfold sndB; simp [c_1, c_2, c_4, c_6, c_8, c_9]]; rfl)) rfl
              · refine w_iconst C dX3_keepSound_58 ?_
                refine w_goto C 63 dX3_keepSound_59 rfl ?_
                refine w_istore_n (lv2 := [(0, .ref h), (1, .int (iI i)), (2, .int (iI 1))]) C dX3_keepSound_63 (by decide) rfl ?_
                refine w_iload_n C 2 dX3_keepSound_64 rfl ?_
                refine w_if_ne C 76 dX3_keepSound_65 rfl (by omega) (fun c_10 => ?_) (fun c_10 => ?_)
                · refine w_iinc (lv2 := [(0, .ref h), (1, .int (iI (i + 1))), (2, .int (iI 1))]) C 1 dX3_keepSound_76 rfl (by decide) rfl ?_
                  refine w_goto C 17 dX3_keepSound_79 rfl ?_
                  refine w_ord (ws2 := [(h, .inr (3, [.ref g, .ref o, .ref dd])), (o, .inr (4, [.ref g, .long ((tkT x y i))])), (g, .inr (2, [.ref b])), (b, .inl (gI G, 4096, .inl (arI y)))]) [0, 1, 2, 3] rfl (by decide) ?_
                  refine w_lv (lv2 := [(0, .ref h), (1, .int (iI ((i + 1))))]) [0, 1] rfl ?_
                  exact ih_17 _ (by omega) (i + 1) (tkT x y i) y (by omega) (by rw [h2, show (32 - i).toNat = (32 - (i + 1)).toNat + 1 by omega, kps]; first | (rw [show sndB x y i = true from by unfold sndB; simp only [c_1, c_2, c_4, c_6, c_8, c_10]; rfl]; rfl) | (rw [show sndB x y i = false from by unfold sndB; simp [c_1, c_2, c_4, c_6, c_8, c_10]]; rfl)) rfl
                · omega
  exact L_17 _ 1 0 (im_wipe d (512 + 0 * 16) 16) (by omega) (by unfold kpF; rw [show ((32 : Int) - 1).toNat = 31 from rfl]) rfl

theorem gX3_80 : cwv RX3 80 yX1_begin cX1_begin 3 (some .boolean) 2 497 498 499 68 500 := by decide +kernel
theorem gX3_73 : cwv RX3 73 yX4_hasFreeBlock cX4_hasFreeBlock 1 (some .boolean) 0 481 482 483 67 484 := by decide +kernel
theorem gX3_77 : cwv RX3 77 yX4_erase cX4_erase 2 none 1 491 492 493 67 494 := by decide +kernel
set_option maxHeartbeats 4000000 in
set_option maxRecDepth 100000 in
theorem ct_X3_provide (G : GX) (l : Launch) (h : Nat) (o : Nat) (g : Nat) (b : Nat) (dd : Nat) (tk : Int64) (d : Im) (m : Nat) (mb : Nat) (nb : Im) (n : Int) (i : Int) (hi : 0 ≤ i ∧ i < 32) : Ct G l yX3_provide cX3_provide 3 none rmX3_provide [.ref h, .int (iI i)] [(h, .inr (3, [.ref g, .ref o, .ref dd])), (o, .inr (4, [.ref g, .long tk])), (g, .inr (2, [.ref b])), (b, .inl (gI G, 4096, .inl (arI d))), (dd, .inr (1, [.ref g, .ref o, .ref m])), (m, .inr (5, [.ref mb, .int (iI n)])), (mb, .inl (gI G, 14, .inl (arI nb)))] none [(h, .inr (3, [.ref g, .ref o, .ref dd])), (o, .inr (4, [.ref g, .long (pvT tk d i)])), (g, .inr (2, [.ref b])), (b, .inl (gI G, 4096, .inl (arI (pvD tk d nb i)))), (dd, .inr (1, [.ref g, .ref o, .ref m])), (m, .inr (5, [.ref mb, .int (iI (pvL tk d n i))])), (mb, .inl (gI G, 14, .inl (arI (pvN tk d nb i))))] := by
  refine Ct.of (by decide) (Nat.le_of_ble_eq_true rfl) ?_
  intro k C hl hret
  subst hl
  refine w_lv (lv2 := [(0, .ref h), (1, .int (iI i))]) [0, 1] rfl ?_
  refine w_aload_n C 0 dX3_provide_0 rfl ?_
  refine w_get C 0 1 159 dX3_provide_1 rfl rfl inX3 (by decide) (by decide +kernel) rfl ?_
  refine w_iload_n C 1 dX3_provide_4 rfl ?_
  refine w_callV (As := [.int (iI i)]) (rest := []) (w2 := [(h, .inr (3, [.ref g, .ref o, .ref dd])), (o, .inr (4, [.ref g, .long tk])), (g, .inr (2, [.ref b])), (b, .inl (gI G, 4096, .inl (arI d))), (dd, .inr (1, [.ref g, .ref o, .ref m])), (m, .inr (5, [.ref mb, .int (iI n)])), (mb, .inl (gI G, 14, .inl (arI nb)))]) (st2 := [.int (iI (kd d i))]) C (ct_X4_kind G (kl k) o g b tk d i (by omega)) gX3_45 dX3_provide_5 1 rfl rfl rfl rfl rfl (Nat.le_of_ble_eq_true rfl) (by decide) [1, 2, 3] rfl (by decide) [o, g, b] rfl rfl rfl rfl ?_
  have f_1 := kd_rg d i
  refine w_if_eq C 12 dX3_provide_8 rfl (by omega) (fun c_2 => ?_) (fun c_2 => ?_)
  · have hz : kd d i = 0 := c_2
    refine w_bipush C dX3_provide_12 (by decide) ?_
    refine w_istore_n (lv2 := [(0, .ref h), (1, .int (iI i)), (2, .int (iI 31))]) C dX3_provide_14 (by decide) rfl ?_
    have L_15 : ∀ (nn_15 : Nat) (j : Int) (x : Int64) (y : Im), (1 ≤ j ∧ j ≤ 31) → (prF tk d = prs (j - 1).toNat j x y) → (j - 1).toNat = nn_15 → Wd G k 3 0 0 [(h, .inr (3, [.ref g, .ref o, .ref dd])), (o, .inr (4, [.ref g, .long x])), (g, .inr (2, [.ref b])), (b, .inl (gI G, 4096, .inl (arI y))), (dd, .inr (1, [.ref g, .ref o, .ref m])), (m, .inr (5, [.ref mb, .int (iI n)])), (mb, .inl (gI G, 14, .inl (arI nb)))] 15 [(0, .ref h), (1, .int (iI i)), (2, .int (iI j))] [] := by
      intro nn_15
      induction nn_15 using Nat.strongRecOn with
      | ind nn_15 ih_15 =>
        intro j x y h1 h2 hm_15
        refine w_iload_n C 2 dX3_provide_15 rfl ?_
        refine w_iconst C dX3_provide_16 ?_
        refine w_icmp_le C 55 dX3_provide_17 rfl (by omega) (fun c_3 => ?_) (fun c_3 => ?_)
        · have h4 : prF tk d = (x, y) := by rw [h2, show (j - 1).toNat = 0 by omega, prs]
          refine w_aload_n C 0 dX3_provide_55 rfl ?_
          refine w_get C 0 2 160 dX3_provide_56 rfl rfl inX3 (by decide) (by decide +kernel) rfl ?_
          refine w_iload_n C 1 dX3_provide_59 rfl ?_
          refine w_iload_n C 1 dX3_provide_60 rfl ?_
          refine w_callV (As := [.int (iI i), .int (iI i)]) (rest := []) (w2 := [(h, .inr (3, [.ref g, .ref o, .ref dd])), (o, .inr (4, [.ref g, .long (bgT x y i)])), (g, .inr (2, [.ref b])), (b, .inl (gI G, 4096, .inl (arI (bgD x y nb i i)))), (dd, .inr (1, [.ref g, .ref o, .ref m])), (m, .inr (5, [.ref mb, .int (iI (bgL x y n i))])), (mb, .inl (gI G, 14, .inl (arI (bgN x y nb i))))]) (st2 := [.int (iI (bI (decide (bgR x y i ≠ -1))))]) C (ct_X1_begin G (kl k) dd o g b m x y mb nb n i i (by omega)) gX3_80 dX3_provide_61 4 rfl rfl rfl rfl rfl (Nat.le_of_ble_eq_true rfl) (by decide) [4, 1, 2, 3, 5, 6] rfl (by decide) [dd, o, g, b, m, mb] rfl rfl rfl rfl ?_
          refine w_pop C dX3_provide_64 rfl ?_
          exact w_retv hret dX3_provide_65 rfl rfl rfl ⟨rfl, (by unfold pvT pvD pvN pvL; rw [if_pos hz, if_pos hz, if_pos hz, if_pos hz, h4])⟩
        · refine w_aload_n C 0 dX3_provide_20 rfl ?_
          refine w_get C 0 1 159 dX3_provide_21 rfl rfl inX3 (by decide) (by decide +kernel) rfl ?_
          refine w_callV (As := []) (rest := []) (w2 := [(h, .inr (3, [.ref g, .ref o, .ref dd])), (o, .inr (4, [.ref g, .long x])), (g, .inr (2, [.ref b])), (b, .inl (gI G, 4096, .inl (arI y))), (dd, .inr (1, [.ref g, .ref o, .ref m])), (m, .inr (5, [.ref mb, .int (iI n)])), (mb, .inl (gI G, 14, .inl (arI nb)))]) (st2 := [.int (iI (bI (decide (pcn x < 47))))]) C (ct_X4_hasFreeBlock G (kl k) o g b x y) gX3_73 dX3_provide_24 1 rfl rfl rfl rfl rfl (Nat.le_of_ble_eq_true rfl) (by decide) [1, 2, 3] rfl (by decide) [o, g, b] rfl rfl rfl rfl ?_
          refine w_bnz C 55 dX3_provide_27 rfl (fun c_4 => ?_) (fun c_4 => ?_)
          · have h4 : prF tk d = (x, y) := by rw [h2, show (j - 1).toNat = (j - 1 - 1).toNat + 1 by omega, prs, if_pos (of_decide_eq_true c_4)]
            refine w_aload_n C 0 dX3_provide_55 rfl ?_
            refine w_get C 0 2 160 dX3_provide_56 rfl rfl inX3 (by decide) (by decide +kernel) rfl ?_
            refine w_iload_n C 1 dX3_provide_59 rfl ?_
            refine w_iload_n C 1 dX3_provide_60 rfl ?_
            refine w_callV (As := [.int (iI i), .int (iI i)]) (rest := []) (w2 := [(h, .inr (3, [.ref g, .ref o, .ref dd])), (o, .inr (4, [.ref g, .long (bgT x y i)])), (g, .inr (2, [.ref b])), (b, .inl (gI G, 4096, .inl (arI (bgD x y nb i i)))), (dd, .inr (1, [.ref g, .ref o, .ref m])), (m, .inr (5, [.ref mb, .int (iI (bgL x y n i))])), (mb, .inl (gI G, 14, .inl (arI (bgN x y nb i))))]) (st2 := [.int (iI (bI (decide (bgR x y i ≠ -1))))]) C (ct_X1_begin G (kl k) dd o g b m x y mb nb n i i (by omega)) gX3_80 dX3_provide_61 4 rfl rfl rfl rfl rfl (Nat.le_of_ble_eq_true rfl) (by decide) [4, 1, 2, 3, 5, 6] rfl (by decide) [dd, o, g, b, m, mb] rfl rfl rfl rfl ?_
            refine w_pop C dX3_provide_64 rfl ?_
            exact w_retv hret dX3_provide_65 rfl rfl rfl ⟨rfl, (by unfold pvT pvD pvN pvL; rw [if_pos hz, if_pos hz, if_pos hz, if_pos hz, h4])⟩
          · have hf : ¬ pcn x < 47 := of_decide_eq_false c_4
            refine w_aload_n C 0 dX3_provide_30 rfl ?_
            refine w_get C 0 1 159 dX3_provide_31 rfl rfl inX3 (by decide) (by decide +kernel) rfl ?_
            refine w_iload_n C 2 dX3_provide_34 rfl ?_
            refine w_callV (As := [.int (iI j)]) (rest := []) (w2 := [(h, .inr (3, [.ref g, .ref o, .ref dd])), (o, .inr (4, [.ref g, .long x])), (g, .inr (2, [.ref b])), (b, .inl (gI G, 4096, .inl (arI y))), (dd, .inr (1, [.ref g, .ref o, .ref m])), (m, .inr (5, [.ref mb, .int (iI n)])), (mb, .inl (gI G, 14, .inl (arI nb)))]) (st2 := [.int (iI (kd y j))]) C (ct_X4_kind G (kl k) o g b x y j (by omega)) gX3_45 dX3_provide_35 1 rfl rfl rfl rfl rfl (Nat.le_of_ble_eq_true rfl) (by decide) [1, 2, 3] rfl (by decide) [o, g, b] rfl rfl rfl rfl ?_
            have f_5 := kd_rg y j
            refine w_if_eq C 49 dX3_provide_38 rfl (by omega) (fun c_6 => ?_) (fun c_6 => ?_)
            · refine w_iinc (lv2 := [(0, .ref h), (1, .int (iI i)), (2, .int (iI (j + (-1))))]) C 2 dX3_provide_49 rfl (by decide) rfl ?_
              refine w_goto C 15 dX3_provide_52 rfl ?_
              refine w_lv (lv2 := [(0, .ref h), (1, .int (iI i)), (2, .int (iI ((j + (-1)))))]) [0, 1, 2] rfl ?_
              exact ih_15 _ (by omega) (j + (-1)) x y (by omega) (by rw [h2, show (j - 1).toNat = (j + (-1) - 1).toNat + 1 by omega, prs, if_neg hf, show j - 1 = j + (-1) by omega]; first | rw [if_pos c_6, if_pos c_6] | rw [if_neg c_6, if_neg c_6]) rfl
            · refine w_aload_n C 0 dX3_provide_41 rfl ?_
              refine w_get C 0 1 159 dX3_provide_42 rfl rfl inX3 (by decide) (by decide +kernel) rfl ?_
              refine w_iload_n C 2 dX3_provide_45 rfl ?_
              refine w_callV (As := [.int (iI j)]) (rest := []) (w2 := [(h, .inr (3, [.ref g, .ref o, .ref dd])), (o, .inr (4, [.ref g, .long (erT x y j)])), (g, .inr (2, [.ref b])), (b, .inl (gI G, 4096, .inl (arI (im_wipe y (512 + j * 16) 16)))), (dd, .inr (1, [.ref g, .ref o, .ref m])), (m, .inr (5, [.ref mb, .int (iI n)])), (mb, .inl (gI G, 14, .inl (arI nb)))]) (st2 := []) C (ct_X4_erase G (kl k) o g b x y j (by omega)) gX3_77 dX3_provide_46 1 rfl rfl rfl rfl rfl (Nat.le_of_ble_eq_true rfl) (by decide) [1, 2, 3] rfl (by decide) [o, g, b] rfl rfl rfl rfl ?_
              refine w_iinc (lv2 := [(0, .ref h), (1, .int (iI i)), (2, .int (iI (j + (-1))))]) C 2 dX3_provide_49 rfl (by decide) rfl ?_
              refine w_goto C 15 dX3_provide_52 rfl ?_
              refine w_ord (ws2 := [(h, .inr (3, [.ref g, .ref o, .ref dd])), (o, .inr (4, [.ref g, .long ((erT x y j))])), (g, .inr (2, [.ref b])), (b, .inl (gI G, 4096, .inl (arI ((im_wipe y (512 + j * 16) 16))))), (dd, .inr (1, [.ref g, .ref o, .ref m])), (m, .inr (5, [.ref mb, .int (iI n)])), (mb, .inl (gI G, 14, .inl (arI nb)))]) [0, 1, 2, 3, 4, 5, 6] rfl (by decide) ?_
              refine w_lv (lv2 := [(0, .ref h), (1, .int (iI i)), (2, .int (iI ((j + (-1)))))]) [0, 1, 2] rfl ?_
              exact ih_15 _ (by omega) (j + (-1)) (erT x y j) (im_wipe y (512 + j * 16) 16) (by omega) (by rw [h2, show (j - 1).toNat = (j + (-1) - 1).toNat + 1 by omega, prs, if_neg hf, show j - 1 = j + (-1) by omega]; first | rw [if_pos c_6, if_pos c_6] | rw [if_neg c_6, if_neg c_6]) rfl
    exact L_15 _ 31 tk d (by omega) (by unfold prF; rw [show ((31 : Int) - 1).toNat = 30 from rfl]) rfl
  · have hz : ¬ kd d i = 0 := c_2
    exact w_retv hret dX3_provide_11 rfl rfl rfl ⟨rfl, (by unfold pvT pvD pvN pvL; rw [if_neg hz, if_neg hz, if_neg hz, if_neg hz])⟩
