theorem gX11_152 : cwv RX11 152 yX11_load cX11_load 2 none 0 908 910 26 74 911 := by decide +kernel
theorem gX11_176 : cwv RX11 176 yX11_store cX11_store 2 none 0 896 898 24 74 899 := by decide +kernel
set_option maxHeartbeats 4000000 in
set_option maxRecDepth 100000 in
theorem ct_X11_seal (G : GX) (l : Launch) (h : Nat) (a : Nat) (b : Nat) (tk : Nat) (re : Nat) (qu : Nat) (nm : Nat) (hd : Int) (tl : Int) (nl : Int) (dk : Im) (d : Im) (w : Int) (hw : -2147483648 ≤ w ∧ w < 2147483648) : Ct G l yX11_seal cX11_seal 3 (some .boolean) rmX11_seal [.ref h, .int (iI w)] [(h, .inr (9, [.ref a, .ref b, .ref tk, .ref re, .ref qu, .int (iI hd), .int (iI tl), .ref nm, .int (iI nl)])), (a, .inl (gI G, 4096, .inl (arI dk))), (b, .inl (gI G, 4096, .inl (arI d)))] (some (.int (iI (bI (decide (0 ≤ w ∧ w < 35)))))) [(h, .inr (9, [.ref a, .ref b, .ref tk, .ref re, .ref qu, .int (iI hd), .int (iI tl), .ref nm, .int (iI nl)])), (a, .inl (gI G, 4096, .inl (arI (slK dk w)))), (b, .inl (gI G, 4096, .inl (arI (if 0 ≤ w ∧ w < 35 then slK dk w else d))))] := by
  refine Ct.of (by decide) (Nat.le_of_ble_eq_true rfl) ?_
  intro k C hl hret
  subst hl
  refine w_lv (lv2 := [(0, .ref h), (1, .int (iI w))]) [0, 1] rfl ?_
  refine w_iload_n C 1 dX11_seal_0 rfl ?_
  refine w_if_lt C 10 dX11_seal_1 rfl (by omega) (fun c_1 => ?_) (fun c_1 => ?_)
  · refine w_iconst C dX11_seal_10 ?_
    exact w_reti hret dX11_seal_11 rfl rfl rfl rfl ⟨congrArg (fun z => some (Value.int (iI z))) (by first | exact (bI_t (by omega)).symm | exact (bI_f (by omega)).symm), (by unfold slK; rw [if_neg (by omega), if_neg (by omega)])⟩
  · refine w_iload_n C 1 dX11_seal_4 rfl ?_
    refine w_bipush C dX11_seal_5 (by decide) ?_
    refine w_icmp_lt C 12 dX11_seal_7 rfl (by omega) (fun c_2 => ?_) (fun c_2 => ?_)
    · refine w_aload_n C 0 dX11_seal_12 rfl ?_
      refine w_callV (As := []) (rest := []) (w2 := [(h, .inr (9, [.ref a, .ref b, .ref tk, .ref re, .ref qu, .int (iI hd), .int (iI tl), .ref nm, .int (iI nl)])), (a, .inl (gI G, 4096, .inl (arI dk))), (b, .inl (gI G, 4096, .inl (arI dk)))]) (st2 := []) C (ct_X11_load G (kl k) h a b tk re qu nm hd tl nl dk d) gX11_152 dX11_seal_13 0 rfl rfl rfl rfl rfl (Nat.le_of_ble_eq_true rfl) (by decide) [0, 1, 2] rfl (by decide) [h, a, b] rfl rfl rfl rfl ?_
      refine w_iload_n C 1 dX11_seal_16 rfl ?_
      refine w_iconst C dX11_seal_17 ?_
      refine w_icmp_ge C 47 dX11_seal_18 rfl (by omega) (fun c_3 => ?_) (fun c_3 => ?_)
      · refine w_iload_n C 1 dX11_seal_47 rfl ?_
        refine w_iconst C dX11_seal_48 ?_
        refine w_icmp_ne C 107 dX11_seal_49 rfl (by omega) (fun c_4 => ?_) (fun c_4 => ?_)
        · refine w_aload_n C 0 dX11_seal_107 rfl ?_
          refine w_iload_n C 1 dX11_seal_108 rfl ?_
          refine w_iconst C dX11_seal_109 ?_
          refine w_isub C dX11_seal_110 ?_
          refine w_callS (As := [.int (iI (w - 3))]) (rest := [.ref h]) (w2 := [(h, .inr (9, [.ref a, .ref b, .ref tk, .ref re, .ref qu, .int (iI hd), .int (iI tl), .ref nm, .int (iI nl)])), (a, .inl (gI G, 4096, .inl (arI dk))), (b, .inl (gI G, 4096, .inl (arI dk)))]) (st2 := [.int (iI (512 + 16 * (w - 3))), .ref h]) C (ct_X11_base G (kl k) (w - 3)) gX11_42 dX11_seal_111 rfl rfl (Nat.le_of_ble_eq_true rfl) (by decide) [] rfl (by decide) [] rfl rfl rfl rfl ?_
          refine w_bipush C dX11_seal_114 (by decide) ?_
          refine w_iadd C dX11_seal_116 ?_
          refine w_aload_n C 0 dX11_seal_117 rfl ?_
          refine w_iload_n C 1 dX11_seal_118 rfl ?_
          refine w_iconst C dX11_seal_119 ?_
          refine w_isub C dX11_seal_120 ?_
          refine w_callS (As := [.int (iI (w - 3))]) (rest := [.ref h, .int (iI ((512 + 16 * (w - 3)) + 14)), .ref h]) (w2 := [(h, .inr (9, [.ref a, .ref b, .ref tk, .ref re, .ref qu, .int (iI hd), .int (iI tl), .ref nm, .int (iI nl)])), (a, .inl (gI G, 4096, .inl (arI dk))), (b, .inl (gI G, 4096, .inl (arI dk)))]) (st2 := [.int (iI (512 + 16 * (w - 3))), .ref h, .int (iI ((512 + 16 * (w - 3)) + 14)), .ref h]) C (ct_X11_base G (kl k) (w - 3)) gX11_42 dX11_seal_121 rfl rfl (Nat.le_of_ble_eq_true rfl) (by decide) [] rfl (by decide) [] rfl rfl rfl rfl ?_
          refine w_bipush C dX11_seal_124 (by decide) ?_
          refine w_callV (As := [.int (iI (512 + 16 * (w - 3))), .int (iI 14)]) (rest := [.int (iI ((512 + 16 * (w - 3)) + 14)), .ref h]) (w2 := [(h, .inr (9, [.ref a, .ref b, .ref tk, .ref re, .ref qu, .int (iI hd), .int (iI tl), .ref nm, .int (iI nl)])), (a, .inl (gI G, 4096, .inl (arI dk))), (b, .inl (gI G, 4096, .inl (arI dk)))]) (st2 := [.int (iI (im_sum dk (512 + 16 * (w - 3)) 14)), .int (iI ((512 + 16 * (w - 3)) + 14)), .ref h]) C (ct_X11_sum G (kl k) h a b tk re qu nm hd tl nl dk (512 + 16 * (w - 3)) 14 (by unfold rgP; omega)) gX11_38 dX11_seal_126 0 rfl rfl rfl rfl rfl (Nat.le_of_ble_eq_true rfl) (by decide) [0, 2] rfl (by decide) [h, b] rfl rfl rfl rfl ?_
          have f_5 := im_sum_rg dk (512 + 16 * (w - 3)) 14
          refine w_callV (As := [.int (iI ((512 + 16 * (w - 3)) + 14)), .int (iI (im_sum dk (512 + 16 * (w - 3)) 14))]) (rest := []) (w2 := [(h, .inr (9, [.ref a, .ref b, .ref tk, .ref re, .ref qu, .int (iI hd), .int (iI tl), .ref nm, .int (iI nl)])), (a, .inl (gI G, 4096, .inl (arI dk))), (b, .inl (gI G, 4096, .inl (arI (im_put dk ((512 + 16 * (w - 3)) + 14) (im_sum dk (512 + 16 * (w - 3)) 14)))))]) (st2 := []) C (ct_X11_put G (kl k) h a b tk re qu nm hd tl nl dk ((512 + 16 * (w - 3)) + 14) (im_sum dk (512 + 16 * (w - 3)) 14) (by omega) (by omega)) gX11_103 dX11_seal_129 0 rfl rfl rfl rfl rfl (Nat.le_of_ble_eq_true rfl) (by decide) [0, 2] rfl (by decide) [h, b] rfl rfl rfl rfl ?_
          refine w_ws (ws2 := [(h, .inr (9, [.ref a, .ref b, .ref tk, .ref re, .ref qu, .int (iI hd), .int (iI tl), .ref nm, .int (iI nl)])), (a, .inl (gI G, 4096, .inl (arI dk))), (b, .inl (gI G, 4096, .inl (arI (slK dk w))))]) (by unfold slK; rw [if_pos (show 0 ≤ w ∧ w < 35 by omega)]; first | (rw [if_pos hw0, hw0]; rfl) | (rw [if_neg (by omega), if_pos hw0, hw0]; rfl) | (rw [if_neg (by omega), if_neg (by omega), if_pos hw0]; unfold jn_sum jn_right; rfl) | (rw [if_neg (by omega), if_neg (by omega), if_neg (by omega)]; unfold ino_sum; rw [show 512 + (w - 3) * 16 = 512 + 16 * (w - 3) by omega])) ?_
          refine w_aload_n C 0 dX11_seal_132 rfl ?_
          refine w_callV (As := []) (rest := []) (w2 := [(h, .inr (9, [.ref a, .ref b, .ref tk, .ref re, .ref qu, .int (iI hd), .int (iI tl), .ref nm, .int (iI nl)])), (a, .inl (gI G, 4096, .inl (arI (slK dk w)))), (b, .inl (gI G, 4096, .inl (arI (slK dk w))))]) (st2 := []) C (ct_X11_store G (kl k) h a b tk re qu nm hd tl nl dk (slK dk w)) gX11_176 dX11_seal_133 0 rfl rfl rfl rfl rfl (Nat.le_of_ble_eq_true rfl) (by decide) [0, 1, 2] rfl (by decide) [h, a, b] rfl rfl rfl rfl ?_
          refine w_iconst C dX11_seal_136 ?_
          exact w_reti hret dX11_seal_137 rfl rfl rfl rfl ⟨congrArg (fun z => some (Value.int (iI z))) (by first | exact (bI_t (by omega)).symm | exact (bI_f (by omega)).symm), (by rw [if_pos (show 0 ≤ w ∧ w < 35 by omega)])⟩
        · have hw0 := c_4
          refine w_aload_n C 0 dX11_seal_52 rfl ?_
          refine w_get C 0 1 847 dX11_seal_53 rfl rfl inX11 (by decide) (by decide +kernel) rfl ?_
          refine w_bipush C dX11_seal_56 (by decide) ?_
          refine w_iald C 2 dX11_seal_58 rfl (by omega) ?_
          have b_6 := dk.2 68
          refine w_iconst C dX11_seal_59 ?_
          refine w_icmp_le C 67 dX11_seal_60 rfl (by omega) (fun c_7 => ?_) (fun c_7 => ?_)
          · refine w_aload_n C 0 dX11_seal_67 rfl ?_
            refine w_get C 0 1 847 dX11_seal_68 rfl rfl inX11 (by decide) (by decide +kernel) rfl ?_
            refine w_bipush C dX11_seal_71 (by decide) ?_
            refine w_iald C 2 dX11_seal_73 rfl (by omega) ?_
            have b_8 := dk.2 68
            refine w_st (st2 := [.int (iI (min (im_at dk 68) 5))]) (by rw [im_at_in dk (by omega)]; first | rw [show min (dk.1 68) 5 = 5 by omega] | rw [show min (dk.1 68) 5 = dk.1 68 by omega]) ?_
            refine w_istore_n (lv2 := [(0, .ref h), (1, .int (iI w)), (2, .int (iI (min (im_at dk 68) 5)))]) C dX11_seal_74 (by decide) rfl ?_
            have n5 := im_at_rg dk 68
            refine w_aload_n C 0 dX11_seal_75 rfl ?_
            refine w_bipush C dX11_seal_76 (by decide) ?_
            refine w_aload_n C 0 dX11_seal_78 rfl ?_
            refine w_bipush C dX11_seal_79 (by decide) ?_
            refine w_bipush C dX11_seal_81 (by decide) ?_
            refine w_callV (As := [.int (iI 64), .int (iI 62)]) (rest := [.int (iI 126), .ref h]) (w2 := [(h, .inr (9, [.ref a, .ref b, .ref tk, .ref re, .ref qu, .int (iI hd), .int (iI tl), .ref nm, .int (iI nl)])), (a, .inl (gI G, 4096, .inl (arI dk))), (b, .inl (gI G, 4096, .inl (arI dk)))]) (st2 := [.int (iI (im_sum dk 64 62)), .int (iI 126), .ref h]) C (ct_X11_sum G (kl k) h a b tk re qu nm hd tl nl dk 64 62 (by unfold rgP; omega)) gX11_38 dX11_seal_83 0 rfl rfl rfl rfl rfl (Nat.le_of_ble_eq_true rfl) (by decide) [0, 2] rfl (by decide) [h, b] rfl rfl rfl rfl ?_
            have f_9 := im_sum_rg dk 64 62
            refine w_aload_n C 0 dX11_seal_86 rfl ?_
            refine w_sipush C dX11_seal_87 (by decide) ?_
            refine w_iload_n C 2 dX11_seal_90 rfl ?_
            refine w_bipush C dX11_seal_91 (by decide) ?_
            refine w_imul C dX11_seal_93 ?_
            refine w_callV (As := [.int (iI 128), .int (iI ((min (im_at dk 68) 5) * 64))]) (rest := [.int (iI (im_sum dk 64 62)), .int (iI 126), .ref h]) (w2 := [(h, .inr (9, [.ref a, .ref b, .ref tk, .ref re, .ref qu, .int (iI hd), .int (iI tl), .ref nm, .int (iI nl)])), (a, .inl (gI G, 4096, .inl (arI dk))), (b, .inl (gI G, 4096, .inl (arI dk)))]) (st2 := [.int (iI (im_sum dk 128 ((min (im_at dk 68) 5) * 64))), .int (iI (im_sum dk 64 62)), .int (iI 126), .ref h]) C (ct_X11_sum G (kl k) h a b tk re qu nm hd tl nl dk 128 ((min (im_at dk 68) 5) * 64) (by have := im_at_rg dk 68; unfold rgP; omega)) gX11_38 dX11_seal_94 0 rfl rfl rfl rfl rfl (Nat.le_of_ble_eq_true rfl) (by decide) [0, 2] rfl (by decide) [h, b] rfl rfl rfl rfl ?_
            have f_10 := im_sum_rg dk 128 ((min (im_at dk 68) 5) * 64)
            refine w_iadd C dX11_seal_97 ?_
            refine w_ldc (z := 65536) C 895 dX11_seal_98 (by decide +kernel) rfl ?_
            refine w_irem C dX11_seal_100 (by omega) ?_
            refine w_callV (As := [.int (iI 126), .int (iI (((im_sum dk 64 62) + (im_sum dk 128 ((min (im_at dk 68) 5) * 64))) % 65536))]) (rest := []) (w2 := [(h, .inr (9, [.ref a, .ref b, .ref tk, .ref re, .ref qu, .int (iI hd), .int (iI tl), .ref nm, .int (iI nl)])), (a, .inl (gI G, 4096, .inl (arI dk))), (b, .inl (gI G, 4096, .inl (arI (im_put dk 126 (((im_sum dk 64 62) + (im_sum dk 128 ((min (im_at dk 68) 5) * 64))) % 65536)))))]) (st2 := []) C (ct_X11_put G (kl k) h a b tk re qu nm hd tl nl dk 126 (((im_sum dk 64 62) + (im_sum dk 128 ((min (im_at dk 68) 5) * 64))) % 65536) (by omega) (by omega)) gX11_103 dX11_seal_101 0 rfl rfl rfl rfl rfl (Nat.le_of_ble_eq_true rfl) (by decide) [0, 2] rfl (by decide) [h, b] rfl rfl rfl rfl ?_
            refine w_goto C 132 dX11_seal_104 rfl ?_
            refine w_ws (ws2 := [(h, .inr (9, [.ref a, .ref b, .ref tk, .ref re, .ref qu, .int (iI hd), .int (iI tl), .ref nm, .int (iI nl)])), (a, .inl (gI G, 4096, .inl (arI dk))), (b, .inl (gI G, 4096, .inl (arI (slK dk w))))]) (by unfold slK; rw [if_pos (show 0 ≤ w ∧ w < 35 by omega)]; first | (rw [if_pos hw0, hw0]; rfl) | (rw [if_neg (by omega), if_pos hw0, hw0]; rfl) | (rw [if_neg (by omega), if_neg (by omega), if_pos hw0]; unfold jn_sum jn_right; rfl) | (rw [if_neg (by omega), if_neg (by omega), if_neg (by omega)]; unfold ino_sum; rw [show 512 + (w - 3) * 16 = 512 + 16 * (w - 3) by omega])) ?_
            refine w_aload_n C 0 dX11_seal_132 rfl ?_
            refine w_callV (As := []) (rest := []) (w2 := [(h, .inr (9, [.ref a, .ref b, .ref tk, .ref re, .ref qu, .int (iI hd), .int (iI tl), .ref nm, .int (iI nl)])), (a, .inl (gI G, 4096, .inl (arI (slK dk w)))), (b, .inl (gI G, 4096, .inl (arI (slK dk w))))]) (st2 := []) C (ct_X11_store G (kl k) h a b tk re qu nm hd tl nl dk (slK dk w)) gX11_176 dX11_seal_133 0 rfl rfl rfl rfl rfl (Nat.le_of_ble_eq_true rfl) (by decide) [0, 1, 2] rfl (by decide) [h, a, b] rfl rfl rfl rfl ?_
            refine w_iconst C dX11_seal_136 ?_
            exact w_reti hret dX11_seal_137 rfl rfl rfl rfl ⟨congrArg (fun z => some (Value.int (iI z))) (by first | exact (bI_t (by omega)).symm | exact (bI_f (by omega)).symm), (by rw [if_pos (show 0 ≤ w ∧ w < 35 by omega)])⟩
          · refine w_iconst C dX11_seal_63 ?_
            refine w_goto C 74 dX11_seal_64 rfl ?_
            refine w_st (st2 := [.int (iI (min (im_at dk 68) 5))]) (by rw [im_at_in dk (by omega)]; first | rw [show min (dk.1 68) 5 = 5 by omega] | rw [show min (dk.1 68) 5 = dk.1 68 by omega]) ?_
            refine w_istore_n (lv2 := [(0, .ref h), (1, .int (iI w)), (2, .int (iI (min (im_at dk 68) 5)))]) C dX11_seal_74 (by decide) rfl ?_
            have n5 := im_at_rg dk 68
            refine w_aload_n C 0 dX11_seal_75 rfl ?_
            refine w_bipush C dX11_seal_76 (by decide) ?_
            refine w_aload_n C 0 dX11_seal_78 rfl ?_
            refine w_bipush C dX11_seal_79 (by decide) ?_
            refine w_bipush C dX11_seal_81 (by decide) ?_
            refine w_callV (As := [.int (iI 64), .int (iI 62)]) (rest := [.int (iI 126), .ref h]) (w2 := [(h, .inr (9, [.ref a, .ref b, .ref tk, .ref re, .ref qu, .int (iI hd), .int (iI tl), .ref nm, .int (iI nl)])), (a, .inl (gI G, 4096, .inl (arI dk))), (b, .inl (gI G, 4096, .inl (arI dk)))]) (st2 := [.int (iI (im_sum dk 64 62)), .int (iI 126), .ref h]) C (ct_X11_sum G (kl k) h a b tk re qu nm hd tl nl dk 64 62 (by unfold rgP; omega)) gX11_38 dX11_seal_83 0 rfl rfl rfl rfl rfl (Nat.le_of_ble_eq_true rfl) (by decide) [0, 2] rfl (by decide) [h, b] rfl rfl rfl rfl ?_
            have f_11 := im_sum_rg dk 64 62
            refine w_aload_n C 0 dX11_seal_86 rfl ?_
            refine w_sipush C dX11_seal_87 (by decide) ?_
            refine w_iload_n C 2 dX11_seal_90 rfl ?_
            refine w_bipush C dX11_seal_91 (by decide) ?_
            refine w_imul C dX11_seal_93 ?_
            refine w_callV (As := [.int (iI 128), .int (iI ((min (im_at dk 68) 5) * 64))]) (rest := [.int (iI (im_sum dk 64 62)), .int (iI 126), .ref h]) (w2 := [(h, .inr (9, [.ref a, .ref b, .ref tk, .ref re, .ref qu, .int (iI hd), .int (iI tl), .ref nm, .int (iI nl)])), (a, .inl (gI G, 4096, .inl (arI dk))), (b, .inl (gI G, 4096, .inl (arI dk)))]) (st2 := [.int (iI (im_sum dk 128 ((min (im_at dk 68) 5) * 64))), .int (iI (im_sum dk 64 62)), .int (iI 126), .ref h]) C (ct_X11_sum G (kl k) h a b tk re qu nm hd tl nl dk 128 ((min (im_at dk 68) 5) * 64) (by have := im_at_rg dk 68; unfold rgP; omega)) gX11_38 dX11_seal_94 0 rfl rfl rfl rfl rfl (Nat.le_of_ble_eq_true rfl) (by decide) [0, 2] rfl (by decide) [h, b] rfl rfl rfl rfl ?_
            have f_12 := im_sum_rg dk 128 ((min (im_at dk 68) 5) * 64)
            refine w_iadd C dX11_seal_97 ?_
            refine w_ldc (z := 65536) C 895 dX11_seal_98 (by decide +kernel) rfl ?_
            refine w_irem C dX11_seal_100 (by omega) ?_
            refine w_callV (As := [.int (iI 126), .int (iI (((im_sum dk 64 62) + (im_sum dk 128 ((min (im_at dk 68) 5) * 64))) % 65536))]) (rest := []) (w2 := [(h, .inr (9, [.ref a, .ref b, .ref tk, .ref re, .ref qu, .int (iI hd), .int (iI tl), .ref nm, .int (iI nl)])), (a, .inl (gI G, 4096, .inl (arI dk))), (b, .inl (gI G, 4096, .inl (arI (im_put dk 126 (((im_sum dk 64 62) + (im_sum dk 128 ((min (im_at dk 68) 5) * 64))) % 65536)))))]) (st2 := []) C (ct_X11_put G (kl k) h a b tk re qu nm hd tl nl dk 126 (((im_sum dk 64 62) + (im_sum dk 128 ((min (im_at dk 68) 5) * 64))) % 65536) (by omega) (by omega)) gX11_103 dX11_seal_101 0 rfl rfl rfl rfl rfl (Nat.le_of_ble_eq_true rfl) (by decide) [0, 2] rfl (by decide) [h, b] rfl rfl rfl rfl ?_
            refine w_goto C 132 dX11_seal_104 rfl ?_
            refine w_ws (ws2 := [(h, .inr (9, [.ref a, .ref b, .ref tk, .ref re, .ref qu, .int (iI hd), .int (iI tl), .ref nm, .int (iI nl)])), (a, .inl (gI G, 4096, .inl (arI dk))), (b, .inl (gI G, 4096, .inl (arI (slK dk w))))]) (by unfold slK; rw [if_pos (show 0 ≤ w ∧ w < 35 by omega)]; first | (rw [if_pos hw0, hw0]; rfl) | (rw [if_neg (by omega), if_pos hw0, hw0]; rfl) | (rw [if_neg (by omega), if_neg (by omega), if_pos hw0]; unfold jn_sum jn_right; rfl) | (rw [if_neg (by omega), if_neg (by omega), if_neg (by omega)]; unfold ino_sum; rw [show 512 + (w - 3) * 16 = 512 + 16 * (w - 3) by omega])) ?_
            refine w_aload_n C 0 dX11_seal_132 rfl ?_
            refine w_callV (As := []) (rest := []) (w2 := [(h, .inr (9, [.ref a, .ref b, .ref tk, .ref re, .ref qu, .int (iI hd), .int (iI tl), .ref nm, .int (iI nl)])), (a, .inl (gI G, 4096, .inl (arI (slK dk w)))), (b, .inl (gI G, 4096, .inl (arI (slK dk w))))]) (st2 := []) C (ct_X11_store G (kl k) h a b tk re qu nm hd tl nl dk (slK dk w)) gX11_176 dX11_seal_133 0 rfl rfl rfl rfl rfl (Nat.le_of_ble_eq_true rfl) (by decide) [0, 1, 2] rfl (by decide) [h, a, b] rfl rfl rfl rfl ?_
            refine w_iconst C dX11_seal_136 ?_
            exact w_reti hret dX11_seal_137 rfl rfl rfl rfl ⟨congrArg (fun z => some (Value.int (iI z))) (by first | exact (bI_t (by omega)).symm | exact (bI_f (by omega)).symm), (by rw [if_pos (show 0 ≤ w ∧ w < 35 by omega)])⟩
      · rcases (show w = 0 ∨ w = 1 by omega) with hw0 | hw0
        · refine w_aload_n C 0 dX11_seal_21 rfl ?_
          refine w_sipush C dX11_seal_22 (by decide) ?_
          refine w_iload_n C 1 dX11_seal_25 rfl ?_
          refine w_imul C dX11_seal_26 ?_
          refine w_bipush C dX11_seal_27 (by decide) ?_
          refine w_iadd C dX11_seal_29 ?_
          refine w_aload_n C 0 dX11_seal_30 rfl ?_
          refine w_sipush C dX11_seal_31 (by decide) ?_
          refine w_iload_n C 1 dX11_seal_34 rfl ?_
          refine w_imul C dX11_seal_35 ?_
          refine w_bipush C dX11_seal_36 (by decide) ?_
          refine w_callV (As := [.int (iI (4032 * w)), .int (iI 62)]) (rest := [.int (iI ((4032 * w) + 62)), .ref h]) (w2 := [(h, .inr (9, [.ref a, .ref b, .ref tk, .ref re, .ref qu, .int (iI hd), .int (iI tl), .ref nm, .int (iI nl)])), (a, .inl (gI G, 4096, .inl (arI dk))), (b, .inl (gI G, 4096, .inl (arI dk)))]) (st2 := [.int (iI (im_sum dk (4032 * w) 62)), .int (iI ((4032 * w) + 62)), .ref h]) C (ct_X11_sum G (kl k) h a b tk re qu nm hd tl nl dk (4032 * w) 62 (by unfold rgP; omega)) gX11_38 dX11_seal_38 0 rfl rfl rfl rfl rfl (Nat.le_of_ble_eq_true rfl) (by decide) [0, 2] rfl (by decide) [h, b] rfl rfl rfl rfl ?_
          have f_13 := im_sum_rg dk (4032 * w) 62
          refine w_callV (As := [.int (iI ((4032 * w) + 62)), .int (iI (im_sum dk (4032 * w) 62))]) (rest := []) (w2 := [(h, .inr (9, [.ref a, .ref b, .ref tk, .ref re, .ref qu, .int (iI hd), .int (iI tl), .ref nm, .int (iI nl)])), (a, .inl (gI G, 4096, .inl (arI dk))), (b, .inl (gI G, 4096, .inl (arI (im_put dk ((4032 * w) + 62) (im_sum dk (4032 * w) 62)))))]) (st2 := []) C (ct_X11_put G (kl k) h a b tk re qu nm hd tl nl dk ((4032 * w) + 62) (im_sum dk (4032 * w) 62) (by omega) (by omega)) gX11_103 dX11_seal_41 0 rfl rfl rfl rfl rfl (Nat.le_of_ble_eq_true rfl) (by decide) [0, 2] rfl (by decide) [h, b] rfl rfl rfl rfl ?_
          refine w_goto C 132 dX11_seal_44 rfl ?_
          refine w_ws (ws2 := [(h, .inr (9, [.ref a, .ref b, .ref tk, .ref re, .ref qu, .int (iI hd), .int (iI tl), .ref nm, .int (iI nl)])), (a, .inl (gI G, 4096, .inl (arI dk))), (b, .inl (gI G, 4096, .inl (arI (slK dk w))))]) (by unfold slK; rw [if_pos (show 0 ≤ w ∧ w < 35 by omega)]; first | (rw [if_pos hw0, hw0]; rfl) | (rw [if_neg (by omega), if_pos hw0, hw0]; rfl) | (rw [if_neg (by omega), if_neg (by omega), if_pos hw0]; unfold jn_sum jn_right; rfl) | (rw [if_neg (by omega), if_neg (by omega), if_neg (by omega)]; unfold ino_sum; rw [show 512 + (w - 3) * 16 = 512 + 16 * (w - 3) by omega])) ?_
          refine w_aload_n C 0 dX11_seal_132 rfl ?_
          refine w_callV (As := []) (rest := []) (w2 := [(h, .inr (9, [.ref a, .ref b, .ref tk, .ref re, .ref qu, .int (iI hd), .int (iI tl), .ref nm, .int (iI nl)])), (a, .inl (gI G, 4096, .inl (arI (slK dk w)))), (b, .inl (gI G, 4096, .inl (arI (slK dk w))))]) (st2 := []) C (ct_X11_store G (kl k) h a b tk re qu nm hd tl nl dk (slK dk w)) gX11_176 dX11_seal_133 0 rfl rfl rfl rfl rfl (Nat.le_of_ble_eq_true rfl) (by decide) [0, 1, 2] rfl (by decide) [h, a, b] rfl rfl rfl rfl ?_
          refine w_iconst C dX11_seal_136 ?_
          exact w_reti hret dX11_seal_137 rfl rfl rfl rfl ⟨congrArg (fun z => some (Value.int (iI z))) (by first | exact (bI_t (by omega)).symm | exact (bI_f (by omega)).symm), (by rw [if_pos (show 0 ≤ w ∧ w < 35 by omega)])⟩
        · refine w_aload_n C 0 dX11_seal_21 rfl ?_
          refine w_sipush C dX11_seal_22 (by decide) ?_
          refine w_iload_n C 1 dX11_seal_25 rfl ?_
          refine w_imul C dX11_seal_26 ?_
          refine w_bipush C dX11_seal_27 (by decide) ?_
          refine w_iadd C dX11_seal_29 ?_
          refine w_aload_n C 0 dX11_seal_30 rfl ?_
          refine w_sipush C dX11_seal_31 (by decide) ?_
          refine w_iload_n C 1 dX11_seal_34 rfl ?_
          refine w_imul C dX11_seal_35 ?_
          refine w_bipush C dX11_seal_36 (by decide) ?_
          refine w_callV (As := [.int (iI (4032 * w)), .int (iI 62)]) (rest := [.int (iI ((4032 * w) + 62)), .ref h]) (w2 := [(h, .inr (9, [.ref a, .ref b, .ref tk, .ref re, .ref qu, .int (iI hd), .int (iI tl), .ref nm, .int (iI nl)])), (a, .inl (gI G, 4096, .inl (arI dk))), (b, .inl (gI G, 4096, .inl (arI dk)))]) (st2 := [.int (iI (im_sum dk (4032 * w) 62)), .int (iI ((4032 * w) + 62)), .ref h]) C (ct_X11_sum G (kl k) h a b tk re qu nm hd tl nl dk (4032 * w) 62 (by unfold rgP; omega)) gX11_38 dX11_seal_38 0 rfl rfl rfl rfl rfl (Nat.le_of_ble_eq_true rfl) (by decide) [0, 2] rfl (by decide) [h, b] rfl rfl rfl rfl ?_
          have f_14 := im_sum_rg dk (4032 * w) 62
          refine w_callV (As := [.int (iI ((4032 * w) + 62)), .int (iI (im_sum dk (4032 * w) 62))]) (rest := []) (w2 := [(h, .inr (9, [.ref a, .ref b, .ref tk, .ref re, .ref qu, .int (iI hd), .int (iI tl), .ref nm, .int (iI nl)])), (a, .inl (gI G, 4096, .inl (arI dk))), (b, .inl (gI G, 4096, .inl (arI (im_put dk ((4032 * w) + 62) (im_sum dk (4032 * w) 62)))))]) (st2 := []) C (ct_X11_put G (kl k) h a b tk re qu nm hd tl nl dk ((4032 * w) + 62) (im_sum dk (4032 * w) 62) (by omega) (by omega)) gX11_103 dX11_seal_41 0 rfl rfl rfl rfl rfl (Nat.le_of_ble_eq_true rfl) (by decide) [0, 2] rfl (by decide) [h, b] rfl rfl rfl rfl ?_
          refine w_goto C 132 dX11_seal_44 rfl ?_
          refine w_ws (ws2 := [(h, .inr (9, [.ref a, .ref b, .ref tk, .ref re, .ref qu, .int (iI hd), .int (iI tl), .ref nm, .int (iI nl)])), (a, .inl (gI G, 4096, .inl (arI dk))), (b, .inl (gI G, 4096, .inl (arI (slK dk w))))]) (by unfold slK; rw [if_pos (show 0 ≤ w ∧ w < 35 by omega)]; first | (rw [if_pos hw0, hw0]; rfl) | (rw [if_neg (by omega), if_pos hw0, hw0]; rfl) | (rw [if_neg (by omega), if_neg (by omega), if_pos hw0]; unfold jn_sum jn_right; rfl) | (rw [if_neg (by omega), if_neg (by omega), if_neg (by omega)]; unfold ino_sum; rw [show 512 + (w - 3) * 16 = 512 + 16 * (w - 3) by omega])) ?_
          refine w_aload_n C 0 dX11_seal_132 rfl ?_
          refine w_callV (As := []) (rest := []) (w2 := [(h, .inr (9, [.ref a, .ref b, .ref tk, .ref re, .ref qu, .int (iI hd), .int (iI tl), .ref nm, .int (iI nl)])), (a, .inl (gI G, 4096, .inl (arI (slK dk w)))), (b, .inl (gI G, 4096, .inl (arI (slK dk w))))]) (st2 := []) C (ct_X11_store G (kl k) h a b tk re qu nm hd tl nl dk (slK dk w)) gX11_176 dX11_seal_133 0 rfl rfl rfl rfl rfl (Nat.le_of_ble_eq_true rfl) (by decide) [0, 1, 2] rfl (by decide) [h, a, b] rfl rfl rfl rfl ?_
          refine w_iconst C dX11_seal_136 ?_
          exact w_reti hret dX11_seal_137 rfl rfl rfl rfl ⟨congrArg (fun z => some (Value.int (iI z))) (by first | exact (bI_t (by omega)).symm | exact (bI_f (by omega)).symm), (by rw [if_pos (show 0 ≤ w ∧ w < 35 by omega)])⟩
    · refine w_iconst C dX11_seal_10 ?_
      exact w_reti hret dX11_seal_11 rfl rfl rfl rfl ⟨congrArg (fun z => some (Value.int (iI z))) (by first | exact (bI_t (by omega)).symm | exact (bI_f (by omega)).symm), (by unfold slK; rw [if_neg (by omega), if_neg (by omega)])⟩

theorem gX11_184 : cwv RX11 184 yX11_seal cX11_seal 3 (some .boolean) 1 1074 1066 1067 74 1068 := by decide +kernel
set_option maxHeartbeats 4000000 in
set_option maxRecDepth 100000 in
theorem ct_X11_commit (G : GX) (l : Launch) (h : Nat) (a : Nat) (b : Nat) (tk : Nat) (re : Nat) (qu : Nat) (nm : Nat) (hd : Int) (tl : Int) (nl : Int) (dk : Im) (d : Im) (x : Int64) (c : Int) (hc : -2147483648 ≤ c ∧ c < 2147483648) : Ct G l yX11_commit cX11_commit 5 (some .boolean) rmX11_commit [.ref h, .long x, .int (iI c)] [(h, .inr (9, [.ref a, .ref b, .ref tk, .ref re, .ref qu, .int (iI hd), .int (iI tl), .ref nm, .int (iI nl)])), (a, .inl (gI G, 4096, .inl (arI dk))), (b, .inl (gI G, 4096, .inl (arI d)))] (some (.int (iI (bI (decide (1 ≤ c ∧ c ≤ 5)))))) [(h, .inr (9, [.ref a, .ref b, .ref tk, .ref re, .ref qu, .int (iI hd), .int (iI tl), .ref nm, .int (iI nl)])), (a, .inl (gI G, 4096, .inl (arI (cmK dk x c)))), (b, .inl (gI G, 4096, .inl (arI (if 1 ≤ c ∧ c ≤ 5 then cmK dk x c else d))))] := by
  refine Ct.of (by decide) (Nat.le_of_ble_eq_true rfl) ?_
  intro k C hl hret
  subst hl
  refine w_lv (lv2 := [(0, .ref h), (1, .long x), (3, .int (iI c))]) [0, 1, 2] rfl ?_
  refine w_iload_n C 2 dX11_commit_0 rfl ?_
  refine w_iconst C dX11_commit_1 ?_
  refine w_icmp_lt C 10 dX11_commit_2 rfl (by omega) (fun c_1 => ?_) (fun c_1 => ?_)
  · refine w_iconst C dX11_commit_10 ?_
    exact w_reti hret dX11_commit_11 rfl rfl rfl rfl ⟨congrArg (fun z => some (Value.int (iI z))) (by first | exact (bI_t (by omega)).symm | exact (bI_f (by omega)).symm), (by unfold cmK; rw [if_neg (by omega), if_neg (by omega)])⟩
  · refine w_iload_n C 2 dX11_commit_5 rfl ?_
    refine w_iconst C dX11_commit_6 ?_
    refine w_icmp_le C 12 dX11_commit_7 rfl (by omega) (fun c_2 => ?_) (fun c_2 => ?_)
    · refine w_aload_n C 0 dX11_commit_12 rfl ?_
      refine w_callV (As := []) (rest := []) (w2 := [(h, .inr (9, [.ref a, .ref b, .ref tk, .ref re, .ref qu, .int (iI hd), .int (iI tl), .ref nm, .int (iI nl)])), (a, .inl (gI G, 4096, .inl (arI dk))), (b, .inl (gI G, 4096, .inl (arI dk)))]) (st2 := []) C (ct_X11_load G (kl k) h a b tk re qu nm hd tl nl dk d) gX11_152 dX11_commit_13 0 rfl rfl rfl rfl rfl (Nat.le_of_ble_eq_true rfl) (by decide) [0, 1, 2] rfl (by decide) [h, a, b] rfl rfl rfl rfl ?_
      refine w_aload_n C 0 dX11_commit_16 rfl ?_
      refine w_bipush C dX11_commit_17 (by decide) ?_
      refine w_bipush C dX11_commit_19 (by decide) ?_
      refine w_callV (As := [.int (iI 64), .int (iI 64)]) (rest := []) (w2 := [(h, .inr (9, [.ref a, .ref b, .ref tk, .ref re, .ref qu, .int (iI hd), .int (iI tl), .ref nm, .int (iI nl)])), (a, .inl (gI G, 4096, .inl (arI dk))), (b, .inl (gI G, 4096, .inl (arI (im_wipe dk 64 64))))]) (st2 := []) C (ct_X11_clear G (kl k) h a b tk re qu nm hd tl nl dk 64 64 (by unfold rgP; omega)) gX11_65 dX11_commit_21 0 rfl rfl rfl rfl rfl (Nat.le_of_ble_eq_true rfl) (by decide) [0, 2] rfl (by decide) [h, b] rfl rfl rfl rfl ?_
      refine w_aload_n C 0 dX11_commit_24 rfl ?_
      refine w_get C 0 1 847 dX11_commit_25 rfl rfl inX11 (by decide) (by decide +kernel) rfl ?_
      refine w_bipush C dX11_commit_28 (by decide) ?_
      refine w_bipush C dX11_commit_30 (by decide) ?_
      refine w_iast (ws2 := [(h, .inr (9, [.ref a, .ref b, .ref tk, .ref re, .ref qu, .int (iI hd), .int (iI tl), .ref nm, .int (iI nl)])), (a, .inl (gI G, 4096, .inl (arI dk))), (b, .inl (gI G, 4096, .inl (arI (up (im_wipe dk 64 64) 64 74))))]) C 2 dX11_commit_32 rfl (by omega) (by omega) rfl ?_
      refine w_aload_n C 0 dX11_commit_33 rfl ?_
      refine w_get C 0 1 847 dX11_commit_34 rfl rfl inX11 (by decide) (by decide +kernel) rfl ?_
      refine w_bipush C dX11_commit_37 (by decide) ?_
      refine w_bipush C dX11_commit_39 (by decide) ?_
      refine w_iast (ws2 := [(h, .inr (9, [.ref a, .ref b, .ref tk, .ref re, .ref qu, .int (iI hd), .int (iI tl), .ref nm, .int (iI nl)])), (a, .inl (gI G, 4096, .inl (arI dk))), (b, .inl (gI G, 4096, .inl (arI (up (up (im_wipe dk 64 64) 64 74) 65 82))))]) C 2 dX11_commit_41 rfl (by omega) (by omega) rfl ?_
      refine w_aload_n C 0 dX11_commit_42 rfl ?_
      refine w_get C 0 1 847 dX11_commit_43 rfl rfl inX11 (by decide) (by decide +kernel) rfl ?_
      refine w_bipush C dX11_commit_46 (by decide) ?_
      refine w_bipush C dX11_commit_48 (by decide) ?_
      refine w_iast (ws2 := [(h, .inr (9, [.ref a, .ref b, .ref tk, .ref re, .ref qu, .int (iI hd), .int (iI tl), .ref nm, .int (iI nl)])), (a, .inl (gI G, 4096, .inl (arI dk))), (b, .inl (gI G, 4096, .inl (arI (up (up (up (im_wipe dk 64 64) 64 74) 65 82) 66 78))))]) C 2 dX11_commit_50 rfl (by omega) (by omega) rfl ?_
      refine w_aload_n C 0 dX11_commit_51 rfl ?_
      refine w_get C 0 1 847 dX11_commit_52 rfl rfl inX11 (by decide) (by decide +kernel) rfl ?_
      refine w_bipush C dX11_commit_55 (by decide) ?_
      refine w_bipush C dX11_commit_57 (by decide) ?_
      refine w_iast (ws2 := [(h, .inr (9, [.ref a, .ref b, .ref tk, .ref re, .ref qu, .int (iI hd), .int (iI tl), .ref nm, .int (iI nl)])), (a, .inl (gI G, 4096, .inl (arI dk))), (b, .inl (gI G, 4096, .inl (arI (up (up (up (up (im_wipe dk 64 64) 64 74) 65 82) 66 78) 67 76))))]) C 2 dX11_commit_59 rfl (by omega) (by omega) rfl ?_
      refine w_aload_n C 0 dX11_commit_60 rfl ?_
      refine w_get C 0 1 847 dX11_commit_61 rfl rfl inX11 (by decide) (by decide +kernel) rfl ?_
      refine w_bipush C dX11_commit_64 (by decide) ?_
      refine w_iload_n C 2 dX11_commit_66 rfl ?_
      refine w_iast (ws2 := [(h, .inr (9, [.ref a, .ref b, .ref tk, .ref re, .ref qu, .int (iI hd), .int (iI tl), .ref nm, .int (iI nl)])), (a, .inl (gI G, 4096, .inl (arI dk))), (b, .inl (gI G, 4096, .inl (arI (up (up (up (up (up (im_wipe dk 64 64) 64 74) 65 82) 66 78) 67 76) 68 c))))]) C 2 dX11_commit_67 rfl (by omega) (by omega) rfl ?_
      refine w_iconst C dX11_commit_68 ?_
      refine w_istore (lv2 := [(0, .ref h), (1, .long x), (3, .int (iI c)), (4, .int (iI 0))]) C dX11_commit_69 (by decide) rfl ?_
      have L_71 : ∀ (nn_71 : Nat) (i : Int) (e : Im) (j : Nat), (i = (j : Int) ∧ i ≤ c) → (e = jn_tg (im_set (im_txt (im_wipe dk 64 64) 64 1 (tn 1).toNat) 68 c) x j) → c.toNat - j = nn_71 → Wd G k 5 0 0 [(h, .inr (9, [.ref a, .ref b, .ref tk, .ref re, .ref qu, .int (iI hd), .int (iI tl), .ref nm, .int (iI nl)])), (a, .inl (gI G, 4096, .inl (arI dk))), (b, .inl (gI G, 4096, .inl (arI e)))] 71 [(0, .ref h), (1, .long x), (3, .int (iI c)), (4, .int (iI i))] [] := by
        intro nn_71
        induction nn_71 using Nat.strongRecOn with
        | ind nn_71 ih_71 =>
          intro i e j h1 h2 hm_71
          refine w_iload C 3 dX11_commit_71 rfl ?_
          refine w_iload_n C 2 dX11_commit_73 rfl ?_
          refine w_icmp_ge C 108 dX11_commit_74 rfl (by omega) (fun c_3 => ?_) (fun c_3 => ?_)
          · refine w_aload_n C 0 dX11_commit_108 rfl ?_
            refine w_callV (As := []) (rest := []) (w2 := [(h, .inr (9, [.ref a, .ref b, .ref tk, .ref re, .ref qu, .int (iI hd), .int (iI tl), .ref nm, .int (iI nl)])), (a, .inl (gI G, 4096, .inl (arI e))), (b, .inl (gI G, 4096, .inl (arI e)))]) (st2 := []) C (ct_X11_store G (kl k) h a b tk re qu nm hd tl nl dk e) gX11_176 dX11_commit_109 0 rfl rfl rfl rfl rfl (Nat.le_of_ble_eq_true rfl) (by decide) [0, 1, 2] rfl (by decide) [h, a, b] rfl rfl rfl rfl ?_
            refine w_aload_n C 0 dX11_commit_112 rfl ?_
            refine w_iconst C dX11_commit_113 ?_
            refine w_callV (As := [.int (iI 2)]) (rest := []) (w2 := [(h, .inr (9, [.ref a, .ref b, .ref tk, .ref re, .ref qu, .int (iI hd), .int (iI tl), .ref nm, .int (iI nl)])), (a, .inl (gI G, 4096, .inl (arI (slK e 2)))), (b, .inl (gI G, 4096, .inl (arI (if 0 ≤ 2 ∧ 2 < 35 then slK e 2 else e))))]) (st2 := [.int (iI (bI (decide (0 ≤ 2 ∧ 2 < 35))))]) C (ct_X11_seal G (kl k) h a b tk re qu nm hd tl nl e e 2 (by omega)) gX11_184 dX11_commit_114 0 rfl rfl rfl rfl rfl (Nat.le_of_ble_eq_true rfl) (by decide) [0, 1, 2] rfl (by decide) [h, a, b] rfl rfl rfl rfl ?_
            exact w_reti hret dX11_commit_117 rfl (nar_b _) rfl rfl ⟨congrArg (fun z => some (Value.int (iI (bI z)))) (by rw [decide_eq_true (show 0 ≤ (2 : Int) ∧ (2 : Int) < 35 by omega), decide_eq_true (show 1 ≤ c ∧ c ≤ 5 by omega)]), (by unfold cmK slK; rw [if_pos (show 0 ≤ (2 : Int) ∧ (2 : Int) < 35 by omega), if_pos (show 1 ≤ c ∧ c ≤ 5 by omega), if_pos (show 1 ≤ c ∧ c ≤ 5 by omega), if_pos (show 0 ≤ (2 : Int) ∧ (2 : Int) < 35 by omega), if_neg (by omega), if_neg (by omega), if_pos rfl]; unfold jn_wr; rw [h2, show j = c.toNat by omega])⟩
          · refine w_aload_n C 0 dX11_commit_77 rfl ?_
            refine w_get C 0 1 847 dX11_commit_78 rfl rfl inX11 (by decide) (by decide +kernel) rfl ?_
            refine w_bipush C dX11_commit_81 (by decide) ?_
            refine w_iload C 3 dX11_commit_83 rfl ?_
            refine w_iadd C dX11_commit_85 ?_
            refine w_lload_n C 1 dX11_commit_86 rfl ?_
            refine w_bipush C dX11_commit_87 (by decide) ?_
            refine w_bipush C dX11_commit_89 (by decide) ?_
            refine w_iload C 3 dX11_commit_91 rfl ?_
            refine w_imul C dX11_commit_93 ?_
            refine w_isub C dX11_commit_94 ?_
            refine w_lushr (v := (x.toUInt64 >>> ((iI (56 - (8 * i))).toInt64.toUInt64 &&& Int64.toUInt64 63)).toInt64) C dX11_commit_95 rfl ?_
            refine w_ldc2 (v := 255) C 1073 dX11_commit_96 (by decide +kernel) ?_
            refine w_land (v := ((x.toUInt64 >>> ((iI (56 - (8 * i))).toInt64.toUInt64 &&& Int64.toUInt64 63)).toInt64) &&& 255) C dX11_commit_99 rfl ?_
            refine w_l2i (v := (iI (lby x (56 - 8 * j)))) C dX11_commit_100 (by have q := lby_of2 x (56 - 8 * j) (by omega); rwa [show ((56 - 8 * j : Nat) : Int) = 56 - 8 * i by omega] at q) ?_
            have q2 := lby_rg x (56 - 8 * j)
            refine w_iast (ws2 := [(h, .inr (9, [.ref a, .ref b, .ref tk, .ref re, .ref qu, .int (iI hd), .int (iI tl), .ref nm, .int (iI nl)])), (a, .inl (gI G, 4096, .inl (arI dk))), (b, .inl (gI G, 4096, .inl (arI (up e (69 + i) (lby x (56 - 8 * j))))))]) C 2 dX11_commit_101 rfl (by omega) (by omega) rfl ?_
            refine w_iinc (lv2 := [(0, .ref h), (1, .long x), (3, .int (iI c)), (4, .int (iI (i + 1)))]) C 3 dX11_commit_102 rfl (by decide) rfl ?_
            refine w_goto C 71 dX11_commit_105 rfl ?_
            exact ih_71 _ (by omega) (i + 1) (up e (69 + i) (lby x (56 - 8 * j))) (j + 1) (by omega) (by rw [jn_tg, ← h2, h1.1, im_set_in _ (by omega)]) rfl
      exact L_71 _ 0 (up (up (up (up (up (im_wipe dk 64 64) 64 74) 65 82) 66 78) 67 76) 68 c) 0 (by omega) (by show _ = im_set (im_set (im_set (im_set (im_set (im_wipe dk 64 64) (64 + (0 : Nat)) 74) (64 + (1 : Nat)) 82) (64 + (2 : Nat)) 78) (64 + (3 : Nat)) 76) 68 c; rw [im_set_in _ (by omega), im_set_in _ (by omega), im_set_in _ (by omega), im_set_in _ (by omega), im_set_in _ (by omega)]; rfl) rfl
    · refine w_iconst C dX11_commit_10 ?_
      exact w_reti hret dX11_commit_11 rfl rfl rfl rfl ⟨congrArg (fun z => some (Value.int (iI z))) (by first | exact (bI_t (by omega)).symm | exact (bI_f (by omega)).symm), (by unfold cmK; rw [if_neg (by omega), if_neg (by omega)])⟩

theorem gX11_195 : cwv RX11 195 yX11_inode cX11_inode 4 (some .int) 2 1088 1081 1082 74 1083 := by decide +kernel
set_option maxHeartbeats 4000000 in
set_option maxRecDepth 100000 in
theorem ct_X11_read (G : GX) (l : Launch) (h : Nat) (a : Nat) (b : Nat) (tk : Nat) (re : Nat) (qu : Nat) (nm : Nat) (hd : Int) (tl : Int) (nl : Int) (dk : Im) (i : Int) (j : Int) (hi : -2147483648 ≤ i ∧ i < 2147483648) (hj : -2147483648 ≤ j ∧ j < 2147483648) : Ct G l yX11_read cX11_read 5 (some .int) rmX11_read [.ref h, .int (iI i), .int (iI j)] [(h, .inr (9, [.ref a, .ref b, .ref tk, .ref re, .ref qu, .int (iI hd), .int (iI tl), .ref nm, .int (iI nl)])), (a, .inl (gI G, 4096, .inl (arI dk)))] (some (.int (iI (rdR dk i j)))) [(h, .inr (9, [.ref a, .ref b, .ref tk, .ref re, .ref qu, .int (iI hd), .int (iI tl), .ref nm, .int (iI nl)])), (a, .inl (gI G, 4096, .inl (arI dk)))] := by
  refine Ct.of (by decide) (Nat.le_of_ble_eq_true rfl) ?_
  intro k C hl hret
  subst hl
  refine w_lv (lv2 := [(0, .ref h), (1, .int (iI i)), (2, .int (iI j))]) [0, 1, 2] rfl ?_
  refine w_iload_n C 1 dX11_read_0 rfl ?_
  refine w_if_lt C 33 dX11_read_1 rfl (by omega) (fun c_1 => ?_) (fun c_1 => ?_)
  · refine w_iconst C dX11_read_33 ?_
    exact w_reti hret dX11_read_34 rfl rfl rfl rfl ⟨congrArg (fun z => some (Value.int (iI z))) (by unfold rdR; first | (rw [if_pos (by omega)]; done) | (rw [show sz dk i = 0 from by unfold sz; rw [if_neg (by omega)], if_pos (by omega)]; done) | rw [if_neg (by omega), if_pos (show cp dk i j = -1 by unfold cp; rw [if_neg (by omega)])]), rfl⟩
  · refine w_iload_n C 1 dX11_read_4 rfl ?_
    refine w_bipush C dX11_read_5 (by decide) ?_
    refine w_icmp_ge C 33 dX11_read_7 rfl (by omega) (fun c_2 => ?_) (fun c_2 => ?_)
    · refine w_iconst C dX11_read_33 ?_
      exact w_reti hret dX11_read_34 rfl rfl rfl rfl ⟨congrArg (fun z => some (Value.int (iI z))) (by unfold rdR; first | (rw [if_pos (by omega)]; done) | (rw [show sz dk i = 0 from by unfold sz; rw [if_neg (by omega)], if_pos (by omega)]; done) | rw [if_neg (by omega), if_pos (show cp dk i j = -1 by unfold cp; rw [if_neg (by omega)])]), rfl⟩
    · refine w_iload_n C 2 dX11_read_10 rfl ?_
      refine w_if_lt C 33 dX11_read_11 rfl (by omega) (fun c_3 => ?_) (fun c_3 => ?_)
      · refine w_iconst C dX11_read_33 ?_
        exact w_reti hret dX11_read_34 rfl rfl rfl rfl ⟨congrArg (fun z => some (Value.int (iI z))) (by unfold rdR; first | (rw [if_pos (by omega)]; done) | (rw [show sz dk i = 0 from by unfold sz; rw [if_neg (by omega)], if_pos (by omega)]; done) | rw [if_neg (by omega), if_pos (show cp dk i j = -1 by unfold cp; rw [if_neg (by omega)])]), rfl⟩
      · refine w_iload_n C 2 dX11_read_14 rfl ?_
        refine w_aload_n C 0 dX11_read_15 rfl ?_
        refine w_iload_n C 1 dX11_read_16 rfl ?_
        refine w_iconst C dX11_read_17 ?_
        refine w_callV (As := [.int (iI i), .int (iI 2)]) (rest := [.int (iI j)]) (w2 := [(h, .inr (9, [.ref a, .ref b, .ref tk, .ref re, .ref qu, .int (iI hd), .int (iI tl), .ref nm, .int (iI nl)])), (a, .inl (gI G, 4096, .inl (arI dk)))]) (st2 := [.int (iI (inR2 dk i 2)), .int (iI j)]) C (ct_X11_inode G (kl k) h a b tk re qu nm hd tl nl dk i 2 (by omega) (by omega)) gX11_195 dX11_read_18 0 rfl rfl rfl rfl rfl (Nat.le_of_ble_eq_true rfl) (by decide) [0, 1] rfl (by decide) [h, a] rfl rfl rfl rfl ?_
        have e2 : inR2 dk i 2 = sz dk i := by unfold inR2; rw [if_pos (show inR i by omega), if_neg (by decide), if_neg (by decide), if_pos rfl]
        have s9 := sz_rg dk i
        refine w_st (st2 := [.int (iI (sz dk i)), .int (iI j)]) (by rw [e2]) ?_
        refine w_icmp_ge C 33 dX11_read_21 rfl (by omega) (fun c_4 => ?_) (fun c_4 => ?_)
        · refine w_iconst C dX11_read_33 ?_
          exact w_reti hret dX11_read_34 rfl rfl rfl rfl ⟨congrArg (fun z => some (Value.int (iI z))) (by unfold rdR; first | (rw [if_pos (by omega)]; done) | (rw [show sz dk i = 0 from by unfold sz; rw [if_neg (by omega)], if_pos (by omega)]; done) | rw [if_neg (by omega), if_pos (show cp dk i j = -1 by unfold cp; rw [if_neg (by omega)])]), rfl⟩
        · refine w_iload_n C 2 dX11_read_24 rfl ?_
          refine w_bipush C dX11_read_25 (by decide) ?_
          refine w_idiv C dX11_read_27 (by omega) ?_
          refine w_bipush C dX11_read_28 (by decide) ?_
          refine w_icmp_le C 35 dX11_read_30 rfl (by omega) (fun c_5 => ?_) (fun c_5 => ?_)
          · refine w_iload_n C 2 dX11_read_35 rfl ?_
            refine w_bipush C dX11_read_36 (by decide) ?_
            refine w_idiv C dX11_read_38 (by omega) ?_
            refine w_istore_n (lv2 := [(0, .ref h), (1, .int (iI i)), (2, .int (iI j)), (3, .int (iI (j / 64)))]) C dX11_read_39 (by decide) rfl ?_
            refine w_aload_n C 0 dX11_read_40 rfl ?_
            refine w_get C 0 0 846 dX11_read_41 rfl rfl inX11 (by decide) (by decide +kernel) rfl ?_
            refine w_iload_n C 1 dX11_read_44 rfl ?_
            refine w_callS (As := [.int (iI i)]) (rest := [.ref a]) (w2 := [(h, .inr (9, [.ref a, .ref b, .ref tk, .ref re, .ref qu, .int (iI hd), .int (iI tl), .ref nm, .int (iI nl)])), (a, .inl (gI G, 4096, .inl (arI dk)))]) (st2 := [.int (iI (512 + 16 * i)), .ref a]) C (ct_X11_base G (kl k) i) gX11_42 dX11_read_45 rfl rfl (Nat.le_of_ble_eq_true rfl) (by decide) [] rfl (by decide) [] rfl rfl rfl rfl ?_
            refine w_iload_n C 3 dX11_read_48 rfl ?_
            refine w_iconst C dX11_read_49 ?_
            refine w_icmp_ge C 59 dX11_read_50 rfl (by omega) (fun c_6 => ?_) (fun c_6 => ?_)
            · refine w_bipush C dX11_read_59 (by decide) ?_
              refine w_iadd C dX11_read_61 ?_
              refine w_iald C 1 dX11_read_62 rfl (by omega) ?_
              have b_7 := dk.2 ((512 + 16 * i) + 9)
              refine w_istore (lv2 := [(0, .ref h), (1, .int (iI i)), (2, .int (iI j)), (3, .int (iI (j / 64))), (4, .int (iI (dk.1 ((512 + 16 * i) + 9))))]) C dX11_read_63 (by decide) rfl ?_
              refine w_iload C 4 dX11_read_65 rfl ?_
              refine w_bipush C dX11_read_67 (by decide) ?_
              refine w_icmp_lt C 79 dX11_read_69 rfl (by omega) (fun c_8 => ?_) (fun c_8 => ?_)
              · have hb : ¬ dat (bk dk i (j / 64)) := by unfold bk; first | (rw [if_pos (show j / 64 < 5 by omega), show 512 + i * 16 + 4 + j / 64 = 512 + 16 * i + (4 + j / 64) by omega]; omega) | (rw [if_neg (show ¬ j / 64 < 5 by omega), show 512 + i * 16 + 9 = 512 + 16 * i + 9 by omega, if_neg (by omega)]; decide)
                have hcp : cp dk i j = -1 := by unfold cp; rw [if_neg (fun z => hb z.2.2)]
                refine w_iconst C dX11_read_79 ?_
                exact w_reti hret dX11_read_80 rfl rfl rfl rfl ⟨congrArg (fun z => some (Value.int (iI z))) (by unfold rdR; rw [if_neg (by omega), if_pos hcp]), rfl⟩
              · refine w_iload C 4 dX11_read_72 rfl ?_
                refine w_bipush C dX11_read_74 (by decide) ?_
                refine w_icmp_lt C 81 dX11_read_76 rfl (by omega) (fun c_9 => ?_) (fun c_9 => ?_)
                · refine w_iload_n C 3 dX11_read_81 rfl ?_
                  refine w_iconst C dX11_read_82 ?_
                  refine w_icmp_lt C 118 dX11_read_83 rfl (by omega) (fun c_10 => ?_) (fun c_10 => ?_)
                  · omega
                  · refine w_aload_n C 0 dX11_read_86 rfl ?_
                    refine w_get C 0 0 846 dX11_read_87 rfl rfl inX11 (by decide) (by decide +kernel) rfl ?_
                    refine w_bipush C dX11_read_90 (by decide) ?_
                    refine w_iload C 4 dX11_read_92 rfl ?_
                    refine w_imul C dX11_read_94 ?_
                    refine w_iload_n C 3 dX11_read_95 rfl ?_
                    refine w_iadd C dX11_read_96 ?_
                    refine w_iconst C dX11_read_97 ?_
                    refine w_isub C dX11_read_98 ?_
                    refine w_iald C 1 dX11_read_99 rfl (by omega) ?_
                    have b_11 := dk.2 (((64 * (dk.1 ((512 + 16 * i) + 9))) + (j / 64)) - 5)
                    refine w_istore (lv2 := [(0, .ref h), (1, .int (iI i)), (2, .int (iI j)), (3, .int (iI (j / 64))), (4, .int (iI (dk.1 (((64 * (dk.1 ((512 + 16 * i) + 9))) + (j / 64)) - 5))))]) C dX11_read_100 (by decide) rfl ?_
                    refine w_iload C 4 dX11_read_102 rfl ?_
                    refine w_bipush C dX11_read_104 (by decide) ?_
                    refine w_icmp_lt C 116 dX11_read_106 rfl (by omega) (fun c_12 => ?_) (fun c_12 => ?_)
                    · have hb : ¬ dat (bk dk i (j / 64)) := by unfold bk; rw [if_neg (show ¬ j / 64 < 5 by omega), show 512 + i * 16 + 9 = 512 + 16 * i + 9 by omega, if_pos (by omega), show dk.1 (512 + 16 * i + 9) * 64 + j / 64 - 5 = 64 * dk.1 (512 + 16 * i + 9) + j / 64 - 5 by omega]; omega
                      have hcp : cp dk i j = -1 := by unfold cp; rw [if_neg (fun z => hb z.2.2)]
                      refine w_iconst C dX11_read_116 ?_
                      exact w_reti hret dX11_read_117 rfl rfl rfl rfl ⟨congrArg (fun z => some (Value.int (iI z))) (by unfold rdR; rw [if_neg (by omega), if_pos hcp]), rfl⟩
                    · refine w_iload C 4 dX11_read_109 rfl ?_
                      refine w_bipush C dX11_read_111 (by decide) ?_
                      refine w_icmp_lt C 118 dX11_read_113 rfl (by omega) (fun c_13 => ?_) (fun c_13 => ?_)
                      · have hb : bk dk i (j / 64) = dk.1 (64 * dk.1 (512 + 16 * i + 9) + j / 64 - 5) := by unfold bk; rw [if_neg (show ¬ j / 64 < 5 by omega), show 512 + i * 16 + 9 = 512 + 16 * i + 9 by omega, if_pos (by omega), show dk.1 (512 + 16 * i + 9) * 64 + j / 64 - 5 = 64 * dk.1 (512 + 16 * i + 9) + j / 64 - 5 by omega]
                        have hcp : cp dk i j = 64 * dk.1 (64 * dk.1 (512 + 16 * i + 9) + j / 64 - 5) + j % 64 := by unfold cp; rw [if_pos (show inR i ∧ j / 64 < 46 ∧ dat (bk dk i (j / 64)) by rw [hb]; omega), hb]; omega
                        refine w_aload_n C 0 dX11_read_118 rfl ?_
                        refine w_get C 0 0 846 dX11_read_119 rfl rfl inX11 (by decide) (by decide +kernel) rfl ?_
                        refine w_bipush C dX11_read_122 (by decide) ?_
                        refine w_iload C 4 dX11_read_124 rfl ?_
                        refine w_imul C dX11_read_126 ?_
                        refine w_iload_n C 2 dX11_read_127 rfl ?_
                        refine w_bipush C dX11_read_128 (by decide) ?_
                        refine w_irem C dX11_read_130 (by omega) ?_
                        refine w_iadd C dX11_read_131 ?_
                        refine w_iald C 1 dX11_read_132 rfl (by omega) ?_
                        have b_14 := dk.2 ((64 * (dk.1 (((64 * (dk.1 ((512 + 16 * i) + 9))) + (j / 64)) - 5))) + (j % 64))
                        exact w_reti hret dX11_read_133 rfl rfl rfl rfl ⟨congrArg (fun z => some (Value.int (iI z))) (by unfold rdR; rw [if_neg (by omega), if_neg (by omega), hcp, im_at_in dk (by omega)]), rfl⟩
                      · have hb : ¬ dat (bk dk i (j / 64)) := by unfold bk; rw [if_neg (show ¬ j / 64 < 5 by omega), show 512 + i * 16 + 9 = 512 + 16 * i + 9 by omega, if_pos (by omega), show dk.1 (512 + 16 * i + 9) * 64 + j / 64 - 5 = 64 * dk.1 (512 + 16 * i + 9) + j / 64 - 5 by omega]; omega
                        have hcp : cp dk i j = -1 := by unfold cp; rw [if_neg (fun z => hb z.2.2)]
                        refine w_iconst C dX11_read_116 ?_
                        exact w_reti hret dX11_read_117 rfl rfl rfl rfl ⟨congrArg (fun z => some (Value.int (iI z))) (by unfold rdR; rw [if_neg (by omega), if_pos hcp]), rfl⟩
                · have hb : ¬ dat (bk dk i (j / 64)) := by unfold bk; first | (rw [if_pos (show j / 64 < 5 by omega), show 512 + i * 16 + 4 + j / 64 = 512 + 16 * i + (4 + j / 64) by omega]; omega) | (rw [if_neg (show ¬ j / 64 < 5 by omega), show 512 + i * 16 + 9 = 512 + 16 * i + 9 by omega, if_neg (by omega)]; decide)
                  have hcp : cp dk i j = -1 := by unfold cp; rw [if_neg (fun z => hb z.2.2)]
                  refine w_iconst C dX11_read_79 ?_
                  exact w_reti hret dX11_read_80 rfl rfl rfl rfl ⟨congrArg (fun z => some (Value.int (iI z))) (by unfold rdR; rw [if_neg (by omega), if_pos hcp]), rfl⟩
            · refine w_iconst C dX11_read_53 ?_
              refine w_iload_n C 3 dX11_read_54 rfl ?_
              refine w_iadd C dX11_read_55 ?_
              refine w_goto C 61 dX11_read_56 rfl ?_
              refine w_iadd C dX11_read_61 ?_
              refine w_iald C 1 dX11_read_62 rfl (by omega) ?_
              have b_15 := dk.2 ((512 + 16 * i) + (4 + (j / 64)))
              refine w_istore (lv2 := [(0, .ref h), (1, .int (iI i)), (2, .int (iI j)), (3, .int (iI (j / 64))), (4, .int (iI (dk.1 ((512 + 16 * i) + (4 + (j / 64))))))]) C dX11_read_63 (by decide) rfl ?_
              refine w_iload C 4 dX11_read_65 rfl ?_
              refine w_bipush C dX11_read_67 (by decide) ?_
              refine w_icmp_lt C 79 dX11_read_69 rfl (by omega) (fun c_16 => ?_) (fun c_16 => ?_)
              · have hb : ¬ dat (bk dk i (j / 64)) := by unfold bk; first | (rw [if_pos (show j / 64 < 5 by omega), show 512 + i * 16 + 4 + j / 64 = 512 + 16 * i + (4 + j / 64) by omega]; omega) | (rw [if_neg (show ¬ j / 64 < 5 by omega), show 512 + i * 16 + 9 = 512 + 16 * i + 9 by omega, if_neg (by omega)]; decide)
                have hcp : cp dk i j = -1 := by unfold cp; rw [if_neg (fun z => hb z.2.2)]
                refine w_iconst C dX11_read_79 ?_
                exact w_reti hret dX11_read_80 rfl rfl rfl rfl ⟨congrArg (fun z => some (Value.int (iI z))) (by unfold rdR; rw [if_neg (by omega), if_pos hcp]), rfl⟩
              · refine w_iload C 4 dX11_read_72 rfl ?_
                refine w_bipush C dX11_read_74 (by decide) ?_
                refine w_icmp_lt C 81 dX11_read_76 rfl (by omega) (fun c_17 => ?_) (fun c_17 => ?_)
                · refine w_iload_n C 3 dX11_read_81 rfl ?_
                  refine w_iconst C dX11_read_82 ?_
                  refine w_icmp_lt C 118 dX11_read_83 rfl (by omega) (fun c_18 => ?_) (fun c_18 => ?_)
                  · have hb : bk dk i (j / 64) = dk.1 (512 + 16 * i + (4 + j / 64)) := by unfold bk; rw [if_pos (show j / 64 < 5 by omega), show 512 + i * 16 + 4 + j / 64 = 512 + 16 * i + (4 + j / 64) by omega]
                    have hcp : cp dk i j = 64 * dk.1 (512 + 16 * i + (4 + j / 64)) + j % 64 := by unfold cp; rw [if_pos (show inR i ∧ j / 64 < 46 ∧ dat (bk dk i (j / 64)) by rw [hb]; omega), hb]; omega
                    refine w_aload_n C 0 dX11_read_118 rfl ?_
                    refine w_get C 0 0 846 dX11_read_119 rfl rfl inX11 (by decide) (by decide +kernel) rfl ?_
                    refine w_bipush C dX11_read_122 (by decide) ?_
                    refine w_iload C 4 dX11_read_124 rfl ?_
                    refine w_imul C dX11_read_126 ?_
                    refine w_iload_n C 2 dX11_read_127 rfl ?_
                    refine w_bipush C dX11_read_128 (by decide) ?_
                    refine w_irem C dX11_read_130 (by omega) ?_
                    refine w_iadd C dX11_read_131 ?_
                    refine w_iald C 1 dX11_read_132 rfl (by omega) ?_
                    have b_19 := dk.2 ((64 * (dk.1 ((512 + 16 * i) + (4 + (j / 64))))) + (j % 64))
                    exact w_reti hret dX11_read_133 rfl rfl rfl rfl ⟨congrArg (fun z => some (Value.int (iI z))) (by unfold rdR; rw [if_neg (by omega), if_neg (by omega), hcp, im_at_in dk (by omega)]), rfl⟩
                  · omega
                · have hb : ¬ dat (bk dk i (j / 64)) := by unfold bk; first | (rw [if_pos (show j / 64 < 5 by omega), show 512 + i * 16 + 4 + j / 64 = 512 + 16 * i + (4 + j / 64) by omega]; omega) | (rw [if_neg (show ¬ j / 64 < 5 by omega), show 512 + i * 16 + 9 = 512 + 16 * i + 9 by omega, if_neg (by omega)]; decide)
                  have hcp : cp dk i j = -1 := by unfold cp; rw [if_neg (fun z => hb z.2.2)]
                  refine w_iconst C dX11_read_79 ?_
                  exact w_reti hret dX11_read_80 rfl rfl rfl rfl ⟨congrArg (fun z => some (Value.int (iI z))) (by unfold rdR; rw [if_neg (by omega), if_pos hcp]), rfl⟩
          · refine w_iconst C dX11_read_33 ?_
            exact w_reti hret dX11_read_34 rfl rfl rfl rfl ⟨congrArg (fun z => some (Value.int (iI z))) (by unfold rdR; first | (rw [if_pos (by omega)]; done) | (rw [show sz dk i = 0 from by unfold sz; rw [if_neg (by omega)], if_pos (by omega)]; done) | rw [if_neg (by omega), if_pos (show cp dk i j = -1 by unfold cp; rw [if_neg (by omega)])]), rfl⟩
