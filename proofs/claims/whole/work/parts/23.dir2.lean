theorem gX1_83 : cwv RX1 83 yX4_begin cX4_begin 3 none 2 501 502 503 67 504 := by decide +kernel
theorem gX1_95 : cwv RX1 95 yX1_writeDots cX1_writeDots 3 none 2 520 521 522 68 523 := by decide +kernel
theorem gX1_89 : cwv RX1 89 yX4_wipe cX4_wipe 2 none 1 514 412 413 67 414 := by decide +kernel
set_option maxHeartbeats 4000000 in
set_option maxRecDepth 100000 in
theorem ct_X1_begin (G : GX) (l : Launch) (h : Nat) (o : Nat) (g : Nat) (b : Nat) (m : Nat) (tk : Int64) (d : Im) (mb : Nat) (nb : Im) (n : Int) (i : Int) (p : Int) (hi : 0 ≤ i ∧ i < 32) : Ct G l yX1_begin cX1_begin 3 (some .boolean) rmX1_begin [.ref h, .int (iI i), .int (iI p)] [(h, .inr (1, [.ref g, .ref o, .ref m])), (o, .inr (4, [.ref g, .long tk])), (g, .inr (2, [.ref b])), (b, .inl (gI G, 4096, .inl (arI d))), (m, .inr (5, [.ref mb, .int (iI n)])), (mb, .inl (gI G, 14, .inl (arI nb)))] (some (.int (iI (bI (decide (bgR tk d i ≠ -1)))))) [(h, .inr (1, [.ref g, .ref o, .ref m])), (o, .inr (4, [.ref g, .long (bgT tk d i)])), (g, .inr (2, [.ref b])), (b, .inl (gI G, 4096, .inl (arI (bgD tk d nb i p)))), (m, .inr (5, [.ref mb, .int (iI (bgL tk d n i))])), (mb, .inl (gI G, 14, .inl (arI (bgN tk d nb i))))] := by
  refine Ct.of (by decide) (Nat.le_of_ble_eq_true rfl) ?_
  intro k C hl hret
  subst hl
  refine w_lv (lv2 := [(0, .ref h), (1, .int (iI i)), (2, .int (iI p))]) [0, 1, 2] rfl ?_
  refine w_aload_n C 0 dX1_begin_0 rfl ?_
  refine w_get C 0 1 137 dX1_begin_1 rfl rfl inX1 (by decide) (by decide +kernel) rfl ?_
  refine w_iload_n C 1 dX1_begin_4 rfl ?_
  refine w_iconst C dX1_begin_5 ?_
  refine w_callV (As := [.int (iI i), .int (iI 2)]) (rest := []) (w2 := [(h, .inr (1, [.ref g, .ref o, .ref m])), (o, .inr (4, [.ref g, .long tk])), (g, .inr (2, [.ref b])), (b, .inl (gI G, 4096, .inl (arI (im_set d (512 + i * 16) 2)))), (m, .inr (5, [.ref mb, .int (iI n)])), (mb, .inl (gI G, 14, .inl (arI nb)))]) (st2 := []) C (ct_X4_begin G (kl k) o g b tk d i 2 (by omega)) gX1_83 dX1_begin_6 1 rfl rfl rfl rfl rfl (Nat.le_of_ble_eq_true rfl) (by decide) [1, 2, 3] rfl (by decide) [o, g, b] rfl rfl rfl rfl ?_
  refine w_aload_n C 0 dX1_begin_9 rfl ?_
  refine w_get C 0 1 137 dX1_begin_10 rfl rfl inX1 (by decide) (by decide +kernel) rfl ?_
  refine w_iload_n C 1 dX1_begin_13 rfl ?_
  refine w_callV (As := [.int (iI i)]) (rest := []) (w2 := [(h, .inr (1, [.ref g, .ref o, .ref m])), (o, .inr (4, [.ref g, .long (abT tk (im_set d (512 + i * 16) 2) i)])), (g, .inr (2, [.ref b])), (b, .inl (gI G, 4096, .inl (arI (abD tk (im_set d (512 + i * 16) 2) i)))), (m, .inr (5, [.ref mb, .int (iI n)])), (mb, .inl (gI G, 14, .inl (arI nb)))]) (st2 := [.int (iI (abR tk (im_set d (512 + i * 16) 2) i))]) C (ct_X4_addBlock G (kl k) o g b tk (im_set d (512 + i * 16) 2) i (by omega)) gX1_86 dX1_begin_14 1 rfl rfl rfl rfl rfl (Nat.le_of_ble_eq_true rfl) (by decide) [1, 2, 3] rfl (by decide) [o, g, b] rfl rfl rfl rfl ?_
  have f_1 := abR_rg tk (im_set d (512 + i * 16) 2) i
  refine w_iconst C dX1_begin_17 ?_
  refine w_icmp_ne C 31 dX1_begin_18 rfl (by omega) (fun c_2 => ?_) (fun c_2 => ?_)
  · refine w_aload_n C 0 dX1_begin_31 rfl ?_
    refine w_get C 0 1 137 dX1_begin_32 rfl rfl inX1 (by decide) (by decide +kernel) rfl ?_
    refine w_iload_n C 1 dX1_begin_35 rfl ?_
    refine w_bipush C dX1_begin_36 (by decide) ?_
    refine w_callV (As := [.int (iI i), .int (iI 64)]) (rest := []) (w2 := [(h, .inr (1, [.ref g, .ref o, .ref m])), (o, .inr (4, [.ref g, .long ((abT tk (im_set d (512 + i * 16) 2) i))])), (g, .inr (2, [.ref b])), (b, .inl (gI G, 4096, .inl (arI (im_put (abD tk (im_set d (512 + i * 16) 2) i) (512 + i * 16 + 2) 64)))), (m, .inr (5, [.ref mb, .int (iI n)])), (mb, .inl (gI G, 14, .inl (arI nb)))]) (st2 := []) C (ct_X4_setSize G (kl k) o g b (abT tk (im_set d (512 + i * 16) 2) i) (abD tk (im_set d (512 + i * 16) 2) i) i 64 (by omega) (by omega)) gX1_92 dX1_begin_38 1 rfl rfl rfl rfl rfl (Nat.le_of_ble_eq_true rfl) (by decide) [1, 2, 3] rfl (by decide) [o, g, b] rfl rfl rfl rfl ?_
    refine w_aload_n C 0 dX1_begin_41 rfl ?_
    refine w_iload_n C 1 dX1_begin_42 rfl ?_
    refine w_iload_n C 2 dX1_begin_43 rfl ?_
    refine w_callV (As := [.int (iI i), .int (iI p)]) (rest := []) (w2 := [(h, .inr (1, [.ref g, .ref o, .ref m])), (o, .inr (4, [.ref g, .long (((abT tk (im_set d (512 + i * 16) 2) i)))])), (g, .inr (2, [.ref b])), (b, .inl (gI G, 4096, .inl (arI (dtD (im_put (abD tk (im_set d (512 + i * 16) 2) i) (512 + i * 16 + 2) 64) nb i p)))), (m, .inr (5, [.ref mb, .int (iI (tn 3))])), (mb, .inl (gI G, 14, .inl (arI (dtN nb))))]) (st2 := []) C (ct_X1_writeDots G (kl k) h o g b m ((abT tk (im_set d (512 + i * 16) 2) i)) (im_put (abD tk (im_set d (512 + i * 16) 2) i) (512 + i * 16 + 2) 64) mb nb n i p (by omega)) gX1_95 dX1_begin_44 0 rfl rfl rfl rfl rfl (Nat.le_of_ble_eq_true rfl) (by decide) [0, 1, 2, 3, 4, 5] rfl (by decide) [h, o, g, b, m, mb] rfl rfl rfl rfl ?_
    refine w_iconst C dX1_begin_47 ?_
    exact w_reti hret dX1_begin_48 rfl rfl rfl rfl ⟨congrArg (fun z => some (Value.int (iI z))) (by rw [bI_t (by assumption)]), (by unfold bgD bgN bgL bgT; have z : ¬ bgR tk d i = -1 := (by assumption); rw [if_neg z, if_neg z, if_neg z]; rfl)⟩
  · refine w_aload_n C 0 dX1_begin_21 rfl ?_
    refine w_get C 0 1 137 dX1_begin_22 rfl rfl inX1 (by decide) (by decide +kernel) rfl ?_
    refine w_iload_n C 1 dX1_begin_25 rfl ?_
    refine w_callV (As := [.int (iI i)]) (rest := []) (w2 := [(h, .inr (1, [.ref g, .ref o, .ref m])), (o, .inr (4, [.ref g, .long ((abT tk (im_set d (512 + i * 16) 2) i))])), (g, .inr (2, [.ref b])), (b, .inl (gI G, 4096, .inl (arI (im_wipe (abD tk (im_set d (512 + i * 16) 2) i) (512 + i * 16) 16)))), (m, .inr (5, [.ref mb, .int (iI n)])), (mb, .inl (gI G, 14, .inl (arI nb)))]) (st2 := []) C (ct_X4_wipe G (kl k) o g b (abT tk (im_set d (512 + i * 16) 2) i) (abD tk (im_set d (512 + i * 16) 2) i) i (by omega)) gX1_89 dX1_begin_26 1 rfl rfl rfl rfl rfl (Nat.le_of_ble_eq_true rfl) (by decide) [1, 2, 3] rfl (by decide) [o, g, b] rfl rfl rfl rfl ?_
    refine w_iconst C dX1_begin_29 ?_
    exact w_reti hret dX1_begin_30 rfl rfl rfl rfl ⟨congrArg (fun z => some (Value.int (iI z))) (by rw [bI_f (fun z => z (by assumption))]), (by unfold bgD bgN bgL bgT; have z : bgR tk d i = -1 := (by assumption); rw [if_pos z, if_pos z, if_pos z]; rfl)⟩

theorem gX1_107 : cwv RX1 107 yX6_load cX6_load 5 none 3 573 574 575 69 576 := by decide +kernel
theorem gX1_111 : cwv RX1 111 yX2_isBlank cX2_isBlank 4 (some .boolean) 2 578 383 384 66 385 := by decide +kernel
theorem gX1_114 : cwv RX1 114 yX6_isAllowed cX6_isAllowed 4 (some .boolean) 0 579 580 581 69 582 := by decide +kernel
theorem gX1_118 : cwv RX1 118 yX1_seek cX1_seek 6 (some .int) 2 584 585 586 68 587 := by decide +kernel
set_option maxHeartbeats 4000000 in
set_option maxRecDepth 100000 in
theorem ct_X1_isValid (G : GX) (l : Launch) (h : Nat) (o : Nat) (g : Nat) (b : Nat) (m : Nat) (tk : Int64) (d : Im) (mb : Nat) (nb : Im) (n : Int) (i : Int) (p : Int) (hi : -2147483648 ≤ i ∧ i < 2147483648) (hp : -1 ≤ p ∧ p < 5000) : Ct G l yX1_isValid cX1_isValid 5 (some .boolean) rmX1_isValid [.ref h, .int (iI i), .int (iI p)] [(h, .inr (1, [.ref g, .ref o, .ref m])), (o, .inr (4, [.ref g, .long tk])), (g, .inr (2, [.ref b])), (b, .inl (gI G, 4096, .inl (arI d))), (m, .inr (5, [.ref mb, .int (iI n)])), (mb, .inl (gI G, 14, .inl (arI nb)))] (some (.int (iI (bI (vaB d nb i p))))) [(h, .inr (1, [.ref g, .ref o, .ref m])), (o, .inr (4, [.ref g, .long tk])), (g, .inr (2, [.ref b])), (b, .inl (gI G, 4096, .inl (arI d))), (m, .inr (5, [.ref mb, .int (iI (vaL d n p))])), (mb, .inl (gI G, 14, .inl (arI (vaN d nb p))))] := by
  refine Ct.of (by decide) (Nat.le_of_ble_eq_true rfl) ?_
  intro k C hl hret
  subst hl
  refine w_lv (lv2 := [(0, .ref h), (1, .int (iI i)), (2, .int (iI p))]) [0, 1, 2] rfl ?_
  refine w_aload_n C 0 dX1_isValid_0 rfl ?_
  refine w_get C 0 0 136 dX1_isValid_1 rfl rfl inX1 (by decide) (by decide +kernel) rfl ?_
  refine w_iload_n C 2 dX1_isValid_4 rfl ?_
  refine w_callV (As := [.int (iI p)]) (rest := []) (w2 := [(h, .inr (1, [.ref g, .ref o, .ref m])), (o, .inr (4, [.ref g, .long tk])), (g, .inr (2, [.ref b])), (b, .inl (gI G, 4096, .inl (arI d))), (m, .inr (5, [.ref mb, .int (iI n)])), (mb, .inl (gI G, 14, .inl (arI nb)))]) (st2 := [.int (iI (im_at d p))]) C (ct_X2_at G (kl k) g b d p (by omega)) gX1_55 dX1_isValid_5 2 rfl rfl rfl rfl rfl (Nat.le_of_ble_eq_true rfl) (by decide) [2, 3] rfl (by decide) [g, b] rfl rfl rfl rfl ?_
  have f_1 := im_at_rg d p
  refine w_istore_n (lv2 := [(0, .ref h), (1, .int (iI i)), (2, .int (iI p)), (3, .int (iI (im_at d p)))]) C dX1_isValid_8 (by decide) rfl ?_
  refine w_aload_n C 0 dX1_isValid_9 rfl ?_
  refine w_get C 0 0 136 dX1_isValid_10 rfl rfl inX1 (by decide) (by decide +kernel) rfl ?_
  refine w_iload_n C 2 dX1_isValid_13 rfl ?_
  refine w_iconst C dX1_isValid_14 ?_
  refine w_iadd C dX1_isValid_15 ?_
  refine w_callV (As := [.int (iI (p + 1))]) (rest := []) (w2 := [(h, .inr (1, [.ref g, .ref o, .ref m])), (o, .inr (4, [.ref g, .long tk])), (g, .inr (2, [.ref b])), (b, .inl (gI G, 4096, .inl (arI d))), (m, .inr (5, [.ref mb, .int (iI n)])), (mb, .inl (gI G, 14, .inl (arI nb)))]) (st2 := [.int (iI (im_at d (p + 1)))]) C (ct_X2_at G (kl k) g b d (p + 1) (by omega)) gX1_55 dX1_isValid_16 2 rfl rfl rfl rfl rfl (Nat.le_of_ble_eq_true rfl) (by decide) [2, 3] rfl (by decide) [g, b] rfl rfl rfl rfl ?_
  have f_2 := im_at_rg d (p + 1)
  refine w_istore (lv2 := [(0, .ref h), (1, .int (iI i)), (2, .int (iI p)), (3, .int (iI (im_at d p))), (4, .int (iI (im_at d (p + 1))))]) C dX1_isValid_19 (by decide) rfl ?_
  refine w_iload_n C 3 dX1_isValid_21 rfl ?_
  refine w_iconst C dX1_isValid_22 ?_
  refine w_icmp_lt C 50 dX1_isValid_23 rfl (by omega) (fun c_3 => ?_) (fun c_3 => ?_)
  · have hx : vaX d p := by unfold vaX; omega
    refine w_iconst C dX1_isValid_50 ?_
    exact w_reti hret dX1_isValid_51 rfl rfl rfl rfl ⟨congrArg (fun z => some (Value.int (iI z))) (by unfold vaB; rw [if_pos hx]; rfl), (by unfold vaN vaL; rw [if_pos hx, if_pos hx])⟩
  · refine w_aload_n C 0 dX1_isValid_26 rfl ?_
    refine w_get C 0 1 137 dX1_isValid_27 rfl rfl inX1 (by decide) (by decide +kernel) rfl ?_
    refine w_iload_n C 3 dX1_isValid_30 rfl ?_
    refine w_callV (As := [.int (iI (im_at d p))]) (rest := []) (w2 := [(h, .inr (1, [.ref g, .ref o, .ref m])), (o, .inr (4, [.ref g, .long tk])), (g, .inr (2, [.ref b])), (b, .inl (gI G, 4096, .inl (arI d))), (m, .inr (5, [.ref mb, .int (iI n)])), (mb, .inl (gI G, 14, .inl (arI nb)))]) (st2 := [.int (iI (kd d (im_at d p)))]) C (ct_X4_kind G (kl k) o g b tk d (im_at d p) (by omega)) gX1_80 dX1_isValid_31 1 rfl rfl rfl rfl rfl (Nat.le_of_ble_eq_true rfl) (by decide) [1, 2, 3] rfl (by decide) [o, g, b] rfl rfl rfl rfl ?_
    have f_4 := kd_rg d (im_at d p)
    refine w_if_eq C 50 dX1_isValid_34 rfl (by omega) (fun c_5 => ?_) (fun c_5 => ?_)
    · have hx : vaX d p := by unfold vaX; omega
      refine w_iconst C dX1_isValid_50 ?_
      exact w_reti hret dX1_isValid_51 rfl rfl rfl rfl ⟨congrArg (fun z => some (Value.int (iI z))) (by unfold vaB; rw [if_pos hx]; rfl), (by unfold vaN vaL; rw [if_pos hx, if_pos hx])⟩
    · refine w_iload C 4 dX1_isValid_37 rfl ?_
      refine w_iconst C dX1_isValid_39 ?_
      refine w_icmp_lt C 50 dX1_isValid_40 rfl (by omega) (fun c_6 => ?_) (fun c_6 => ?_)
      · have hx : vaX d p := by unfold vaX; omega
        refine w_iconst C dX1_isValid_50 ?_
        exact w_reti hret dX1_isValid_51 rfl rfl rfl rfl ⟨congrArg (fun z => some (Value.int (iI z))) (by unfold vaB; rw [if_pos hx]; rfl), (by unfold vaN vaL; rw [if_pos hx, if_pos hx])⟩
      · refine w_iload C 4 dX1_isValid_43 rfl ?_
        refine w_bipush C dX1_isValid_45 (by decide) ?_
        refine w_icmp_le C 52 dX1_isValid_47 rfl (by omega) (fun c_7 => ?_) (fun c_7 => ?_)
        · have hx : ¬ vaX d p := by unfold vaX; omega
          refine w_aload_n C 0 dX1_isValid_52 rfl ?_
          refine w_get C 0 2 138 dX1_isValid_53 rfl rfl inX1 (by decide) (by decide +kernel) rfl ?_
          refine w_aload_n C 0 dX1_isValid_56 rfl ?_
          refine w_get C 0 0 136 dX1_isValid_57 rfl rfl inX1 (by decide) (by decide +kernel) rfl ?_
          refine w_iload_n C 2 dX1_isValid_60 rfl ?_
          refine w_iconst C dX1_isValid_61 ?_
          refine w_iadd C dX1_isValid_62 ?_
          refine w_iload C 4 dX1_isValid_63 rfl ?_
          refine w_callV (As := [.ref g, .int (iI (p + 2)), .int (iI (im_at d (p + 1)))]) (rest := []) (w2 := [(h, .inr (1, [.ref g, .ref o, .ref m])), (o, .inr (4, [.ref g, .long tk])), (g, .inr (2, [.ref b])), (b, .inl (gI G, 4096, .inl (arI d))), (m, .inr (5, [.ref mb, .int (iI ((im_at d (p + 1))))])), (mb, .inl (gI G, 14, .inl (arI (nm_ld nb d (p + 2) (im_at d (p + 1)).toNat))))]) (st2 := []) C (ct_X6_load G (kl k) m mb nb n g b d (p + 2) (im_at d (p + 1)) (by omega) (by omega)) gX1_107 dX1_isValid_65 4 rfl rfl rfl rfl rfl (Nat.le_of_ble_eq_true rfl) (by decide) [4, 5, 2, 3] rfl (by decide) [m, mb, g, b] rfl rfl rfl rfl ?_
          refine w_aload_n C 0 dX1_isValid_68 rfl ?_
          refine w_get C 0 0 136 dX1_isValid_69 rfl rfl inX1 (by decide) (by decide +kernel) rfl ?_
          refine w_iload_n C 2 dX1_isValid_72 rfl ?_
          refine w_iconst C dX1_isValid_73 ?_
          refine w_iadd C dX1_isValid_74 ?_
          refine w_iload C 4 dX1_isValid_75 rfl ?_
          refine w_iadd C dX1_isValid_77 ?_
          refine w_bipush C dX1_isValid_78 (by decide) ?_
          refine w_iload C 4 dX1_isValid_80 rfl ?_
          refine w_isub C dX1_isValid_82 ?_
          refine w_callV (As := [.int (iI ((p + 2) + (im_at d (p + 1)))), .int (iI (14 - (im_at d (p + 1))))]) (rest := []) (w2 := [(h, .inr (1, [.ref g, .ref o, .ref m])), (o, .inr (4, [.ref g, .long tk])), (g, .inr (2, [.ref b])), (b, .inl (gI G, 4096, .inl (arI d))), (m, .inr (5, [.ref mb, .int (iI ((im_at d (p + 1))))])), (mb, .inl (gI G, 14, .inl (arI (nm_ld nb d (p + 2) (im_at d (p + 1)).toNat))))]) (st2 := [.int (iI (bI (im_blank d ((p + 2) + (im_at d (p + 1))) (14 - (im_at d (p + 1))))))]) C (ct_X2_isBlank G (kl k) g b d ((p + 2) + (im_at d (p + 1))) (14 - (im_at d (p + 1))) (by omega) (by omega)) gX1_111 dX1_isValid_83 2 rfl rfl rfl rfl rfl (Nat.le_of_ble_eq_true rfl) (by decide) [2, 3] rfl (by decide) [g, b] rfl rfl rfl rfl ?_
          refine w_bz C 116 dX1_isValid_86 rfl (fun c_8 => ?_) (fun c_8 => ?_)
          · refine w_iconst C dX1_isValid_116 ?_
            exact w_reti hret dX1_isValid_117 rfl rfl rfl rfl ⟨congrArg (fun z => some (Value.int (iI z))) (by unfold vaB; rw [if_neg hx]; simp [bI, c_3, c_5, c_6, c_7, c_8]), (by unfold vaN vaL; rw [if_neg hx, if_neg hx])⟩
          · refine w_aload_n C 0 dX1_isValid_89 rfl ?_
            refine w_get C 0 2 138 dX1_isValid_90 rfl rfl inX1 (by decide) (by decide +kernel) rfl ?_
            refine w_callV (As := []) (rest := []) (w2 := [(h, .inr (1, [.ref g, .ref o, .ref m])), (o, .inr (4, [.ref g, .long tk])), (g, .inr (2, [.ref b])), (b, .inl (gI G, 4096, .inl (arI d))), (m, .inr (5, [.ref mb, .int (iI (((im_at d (p + 1)))))])), (mb, .inl (gI G, 14, .inl (arI ((nm_ld nb d (p + 2) (im_at d (p + 1)).toNat)))))]) (st2 := [.int (iI (bI (nm_ok (nm_ld nb d (p + 2) (im_at d (p + 1)).toNat) ((im_at d (p + 1))))))]) C (ct_X6_isAllowed G (kl k) m mb (nm_ld nb d (p + 2) (im_at d (p + 1)).toNat) ((im_at d (p + 1))) (by omega)) gX1_114 dX1_isValid_93 4 rfl rfl rfl rfl rfl (Nat.le_of_ble_eq_true rfl) (by decide) [4, 5] rfl (by decide) [m, mb] rfl rfl rfl rfl ?_
            refine w_bz C 116 dX1_isValid_96 rfl (fun c_9 => ?_) (fun c_9 => ?_)
            · refine w_iconst C dX1_isValid_116 ?_
              exact w_reti hret dX1_isValid_117 rfl rfl rfl rfl ⟨congrArg (fun z => some (Value.int (iI z))) (by unfold vaB; rw [if_neg hx]; simp [bI, c_3, c_5, c_6, c_7, c_8, c_9]), (by unfold vaN vaL; rw [if_neg hx, if_neg hx])⟩
            · refine w_aload_n C 0 dX1_isValid_99 rfl ?_
              refine w_iload_n C 1 dX1_isValid_100 rfl ?_
              refine w_aload_n C 0 dX1_isValid_101 rfl ?_
              refine w_get C 0 2 138 dX1_isValid_102 rfl rfl inX1 (by decide) (by decide +kernel) rfl ?_
              refine w_callV (As := [.int (iI i), .ref m]) (rest := []) (w2 := [(h, .inr (1, [.ref g, .ref o, .ref m])), (o, .inr (4, [.ref g, .long tk])), (g, .inr (2, [.ref b])), (b, .inl (gI G, 4096, .inl (arI d))), (m, .inr (5, [.ref mb, .int (iI ((((im_at d (p + 1))))))])), (mb, .inl (gI G, 14, .inl (arI (((nm_ld nb d (p + 2) (im_at d (p + 1)).toNat))))))]) (st2 := [.int (iI (sk d i ((nm_ld nb d (p + 2) (im_at d (p + 1)).toNat)) (((im_at d (p + 1))))))]) C (ct_X1_seek G (kl k) h o g b m tk d m mb ((nm_ld nb d (p + 2) (im_at d (p + 1)).toNat)) (((im_at d (p + 1)))) i (by omega) (by omega)) gX1_118 dX1_isValid_105 0 rfl rfl rfl rfl rfl (Nat.le_of_ble_eq_true rfl) (by decide) [0, 1, 2, 3, 4, 5] rfl (by decide) [h, o, g, b, m, mb] rfl rfl rfl rfl ?_
              have f_10 := sk_rg d i ((nm_ld nb d (p + 2) (im_at d (p + 1)).toNat)) (((im_at d (p + 1))))
              refine w_iload_n C 2 dX1_isValid_108 rfl ?_
              refine w_icmp_ne C 116 dX1_isValid_109 rfl (by omega) (fun c_11 => ?_) (fun c_11 => ?_)
              · refine w_iconst C dX1_isValid_116 ?_
                exact w_reti hret dX1_isValid_117 rfl rfl rfl rfl ⟨congrArg (fun z => some (Value.int (iI z))) (by unfold vaB; rw [if_neg hx]; simp [bI, c_3, c_5, c_6, c_7, c_8, c_9, c_11]), (by unfold vaN vaL; rw [if_neg hx, if_neg hx])⟩
              · refine w_iconst C dX1_isValid_112 ?_
                refine w_goto C 117 dX1_isValid_113 rfl ?_
                exact w_reti hret dX1_isValid_117 rfl rfl rfl rfl ⟨congrArg (fun z => some (Value.int (iI z))) (by unfold vaB; rw [if_neg hx]; simp [bI, c_3, c_5, c_6, c_7, c_8, c_9, c_11]), (by unfold vaN vaL; rw [if_neg hx, if_neg hx])⟩
        · have hx : vaX d p := by unfold vaX; omega
          refine w_iconst C dX1_isValid_50 ?_
          exact w_reti hret dX1_isValid_51 rfl rfl rfl rfl ⟨congrArg (fun z => some (Value.int (iI z))) (by unfold vaB; rw [if_pos hx]; rfl), (by unfold vaN vaL; rw [if_pos hx, if_pos hx])⟩
