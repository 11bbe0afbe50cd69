theorem gX11_52 : cwv RX11 52 yX11_blocks cX11_blocks 2 (some .int) 1 947 949 35 74 950 := by decide +kernel
set_option maxHeartbeats 4000000 in
set_option maxRecDepth 100000 in
theorem ct_X11_free (G : GX) (l : Launch) (h : Nat) (a : Nat) (b : Nat) (tk : Nat) (re : Nat) (qu : Nat) (nm : Nat) (hd : Int) (tl : Int) (nl : Int) (d : Im) (t : Int → Bool) (tm : Int64) (z : Int) (hw : WF tm d) (hz : 0 ≤ z ∧ z ≤ 62) : Ct G l yX11_free cX11_free 4 (some .int) rmX11_free [.ref h, .int (iI z)] [(h, .inr (9, [.ref a, .ref b, .ref tk, .ref re, .ref qu, .int (iI hd), .int (iI tl), .ref nm, .int (iI nl)])), (b, .inl (gI G, 4096, .inl (arI d))), (tk, .inl (gZ G, 64, .inl (arB t)))] (some (.int (iI (frz tm z)))) [(h, .inr (9, [.ref a, .ref b, .ref tk, .ref re, .ref qu, .int (iI hd), .int (iI tl), .ref nm, .int (iI nl)])), (b, .inl (gI G, 4096, .inl (arI d))), (tk, .inl (gZ G, 64, .inl (arB (tbt tm))))] := by
  refine Ct.of (by decide) (Nat.le_of_ble_eq_true rfl) ?_
  intro k C hl hret
  subst hl
  refine w_lv (lv2 := [(0, .ref h), (1, .int (iI z))]) [0, 1] rfl ?_
  refine w_iconst C dX11_free_0 ?_
  refine w_istore_n (lv2 := [(0, .ref h), (1, .int (iI z)), (2, .int (iI 0))]) C dX11_free_1 (by decide) rfl ?_
  have L_2 : ∀ (nn_2 : Nat) (i : Int) (t2 : Int → Bool), (0 ≤ i ∧ i ≤ 64) → (∀ q : Int, 0 ≤ q → q < i → t2 q = false) → (64 - i).toNat = nn_2 → Wd G k 4 0 0 [(h, .inr (9, [.ref a, .ref b, .ref tk, .ref re, .ref qu, .int (iI hd), .int (iI tl), .ref nm, .int (iI nl)])), (b, .inl (gI G, 4096, .inl (arI d))), (tk, .inl (gZ G, 64, .inl (arB t2)))] 2 [(0, .ref h), (1, .int (iI z)), (2, .int (iI i))] [] := by
    intro nn_2
    induction nn_2 using Nat.strongRecOn with
    | ind nn_2 ih_2 =>
      intro i t2 h1 h2 hm_2
      refine w_iload_n C 2 dX11_free_2 rfl ?_
      refine w_bipush C dX11_free_3 (by decide) ?_
      refine w_icmp_ge C 21 dX11_free_5 rfl (by omega) (fun c_1 => ?_) (fun c_1 => ?_)
      · refine w_iconst C dX11_free_21 ?_
        refine w_istore_n (lv2 := [(0, .ref h), (1, .int (iI z)), (2, .int (iI 1))]) C dX11_free_22 (by decide) rfl ?_
        have L_23 : ∀ (nn_23 : Nat) (i : Int) (t2 : Int → Bool), (1 ≤ i ∧ i ≤ 32) → (∀ q : Int, 0 ≤ q → q < 64 → (t2 q = true ↔ usd d i q)) → (32 - i).toNat = nn_23 → Wd G k 4 0 0 [(h, .inr (9, [.ref a, .ref b, .ref tk, .ref re, .ref qu, .int (iI hd), .int (iI tl), .ref nm, .int (iI nl)])), (b, .inl (gI G, 4096, .inl (arI d))), (tk, .inl (gZ G, 64, .inl (arB t2)))] 23 [(0, .ref h), (1, .int (iI z)), (2, .int (iI i))] [] := by
          intro nn_23
          induction nn_23 using Nat.strongRecOn with
          | ind nn_23 ih_23 =>
            intro i t2 h1 hT hm_23
            refine w_iload_n C 2 dX11_free_23 rfl ?_
            refine w_bipush C dX11_free_24 (by decide) ?_
            refine w_icmp_ge C 107 dX11_free_26 rfl (by omega) (fun c_2 => ?_) (fun c_2 => ?_)
            · refine w_arrB (e := tbt tm) (ws2 := [(h, .inr (9, [.ref a, .ref b, .ref tk, .ref re, .ref qu, .int (iI hd), .int (iI tl), .ref nm, .int (iI nl)])), (b, .inl (gI G, 4096, .inl (arI d))), (tk, .inl (gZ G, 64, .inl (arB (tbt tm))))]) 2 rfl (arr_tk hw (by rw [show (32 : Int) = i by omega]; exact hT)) rfl ?_
              refine w_iload_n C 1 dX11_free_107 rfl ?_
              refine w_iconst C dX11_free_108 ?_
              refine w_iadd C dX11_free_109 ?_
              refine w_istore_n (lv2 := [(0, .ref h), (1, .int (iI z)), (2, .int (iI (z + 1)))]) C dX11_free_110 (by decide) rfl ?_
              have L_111 : ∀ (nn_111 : Nat) (y : Int), (z + 1 ≤ y ∧ y ≤ 63) → (frz tm z = fre tm (63 - y).toNat y) → (63 - y).toNat = nn_111 → Wd G k 4 0 0 [(h, .inr (9, [.ref a, .ref b, .ref tk, .ref re, .ref qu, .int (iI hd), .int (iI tl), .ref nm, .int (iI nl)])), (b, .inl (gI G, 4096, .inl (arI d))), (tk, .inl (gZ G, 64, .inl (arB (tbt tm))))] 111 [(0, .ref h), (1, .int (iI z)), (2, .int (iI y))] [] := by
                intro nn_111
                induction nn_111 using Nat.strongRecOn with
                | ind nn_111 ih_111 =>
                  intro y h4 h5 hm_111
                  refine w_iload_n C 2 dX11_free_111 rfl ?_
                  refine w_bipush C dX11_free_112 (by decide) ?_
                  refine w_icmp_ge C 140 dX11_free_114 rfl (by omega) (fun c_3 => ?_) (fun c_3 => ?_)
                  · refine w_iconst C dX11_free_140 ?_
                    exact w_reti hret dX11_free_141 rfl rfl rfl rfl ⟨congrArg (fun z => some (Value.int (iI z))) (by rw [h5, show (63 - y).toNat = 0 by omega, fre]), rfl⟩
                  · refine w_iload_n C 2 dX11_free_117 rfl ?_
                    refine w_bipush C dX11_free_118 (by decide) ?_
                    refine w_icmp_lt C 134 dX11_free_120 rfl (by omega) (fun c_4 => ?_) (fun c_4 => ?_)
                    · refine w_iinc (lv2 := [(0, .ref h), (1, .int (iI z)), (2, .int (iI (y + 1)))]) C 2 dX11_free_134 rfl (by decide) rfl ?_
                      refine w_goto C 111 dX11_free_137 rfl ?_
                      exact ih_111 _ (by omega) (y + 1) (by omega) (by rw [h5, show (63 - y).toNat = (63 - (y + 1)).toNat + 1 by omega, fre, if_neg (by first | omega | (rw [c_4]; simp))]) rfl
                    · refine w_aload_n C 0 dX11_free_123 rfl ?_
                      refine w_get C 0 2 848 dX11_free_124 rfl rfl inX11 (by decide) (by decide +kernel) rfl ?_
                      refine w_iload_n C 2 dX11_free_127 rfl ?_
                      refine w_zald C 2 dX11_free_128 rfl (by omega) ?_
                      refine w_bnz C 134 dX11_free_129 rfl (fun c_5 => ?_) (fun c_5 => ?_)
                      · refine w_iinc (lv2 := [(0, .ref h), (1, .int (iI z)), (2, .int (iI (y + 1)))]) C 2 dX11_free_134 rfl (by decide) rfl ?_
                        refine w_goto C 111 dX11_free_137 rfl ?_
                        exact ih_111 _ (by omega) (y + 1) (by omega) (by rw [h5, show (63 - y).toNat = (63 - (y + 1)).toNat + 1 by omega, fre, if_neg (by first | omega | (rw [c_5]; simp))]) rfl
                      · refine w_iload_n C 2 dX11_free_132 rfl ?_
                        exact w_reti hret dX11_free_133 rfl rfl rfl rfl ⟨congrArg (fun z => some (Value.int (iI z))) (by rw [h5, show (63 - y).toNat = (63 - (y + 1)).toNat + 1 by omega, fre, if_pos (show 16 ≤ y ∧ tbt tm y = false from And.intro (by omega) c_5)]), rfl⟩
              exact L_111 _ (z + 1) (by omega) (by unfold frz; rw [show (63 - (z + 1)).toNat = (62 - z).toNat by omega]) rfl
            · refine w_iconst C dX11_free_29 ?_
              refine w_istore_n (lv2 := [(0, .ref h), (1, .int (iI z)), (2, .int (iI i)), (3, .int (iI 0))]) C dX11_free_30 (by decide) rfl ?_
              have L_31 : ∀ (nn_31 : Nat) (x : Int) (t2 : Int → Bool), (0 ≤ x ∧ (kd d i = 0 → x = 0) ∧ (kd d i ≠ 0 → x ≤ bc d i)) → (∀ q : Int, 0 ≤ q → q < 64 → (t2 q = true ↔ usd d i q ∨ inB d i x q)) → (bc d i - x).toNat = nn_31 → Wd G k 4 0 0 [(h, .inr (9, [.ref a, .ref b, .ref tk, .ref re, .ref qu, .int (iI hd), .int (iI tl), .ref nm, .int (iI nl)])), (b, .inl (gI G, 4096, .inl (arI d))), (tk, .inl (gZ G, 64, .inl (arB t2)))] 31 [(0, .ref h), (1, .int (iI z)), (2, .int (iI i)), (3, .int (iI x))] [] := by
                intro nn_31
                induction nn_31 using Nat.strongRecOn with
                | ind nn_31 ih_31 =>
                  intro x t2 h3 hU hm_31
                  have c9 := bc_rg d i
                  have k9 := kd_rg d i
                  refine w_aload_n C 0 dX11_free_31 rfl ?_
                  refine w_iload_n C 2 dX11_free_32 rfl ?_
                  refine w_callV (As := [.int (iI i)]) (rest := []) (w2 := [(h, .inr (9, [.ref a, .ref b, .ref tk, .ref re, .ref qu, .int (iI hd), .int (iI tl), .ref nm, .int (iI nl)])), (b, .inl (gI G, 4096, .inl (arI d))), (tk, .inl (gZ G, 64, .inl (arB t2)))]) (st2 := [.int (iI (kd d i))]) C (ct_X11_kind G (kl k) h a b tk re qu nm hd tl nl d i (by omega)) gX11_62 dX11_free_33 0 rfl rfl rfl rfl rfl (Nat.le_of_ble_eq_true rfl) (by decide) [0, 1] rfl (by decide) [h, b] rfl rfl rfl rfl ?_
                  have f_6 := kd_rg d i
                  refine w_if_le C 66 dX11_free_36 rfl (by omega) (fun c_7 => ?_) (fun c_7 => ?_)
                  · refine w_aload_n C 0 dX11_free_66 rfl ?_
                    refine w_iload_n C 2 dX11_free_67 rfl ?_
                    refine w_callV (As := [.int (iI i)]) (rest := []) (w2 := [(h, .inr (9, [.ref a, .ref b, .ref tk, .ref re, .ref qu, .int (iI hd), .int (iI tl), .ref nm, .int (iI nl)])), (b, .inl (gI G, 4096, .inl (arI d))), (tk, .inl (gZ G, 64, .inl (arB t2)))]) (st2 := [.int (iI (kd d i))]) C (ct_X11_kind G (kl k) h a b tk re qu nm hd tl nl d i (by omega)) gX11_62 dX11_free_68 0 rfl rfl rfl rfl rfl (Nat.le_of_ble_eq_true rfl) (by decide) [0, 1] rfl (by decide) [h, b] rfl rfl rfl rfl ?_
                    have f_8 := kd_rg d i
                    refine w_if_le C 101 dX11_free_71 rfl (by omega) (fun c_9 => ?_) (fun c_9 => ?_)
                    · refine w_iinc (lv2 := [(0, .ref h), (1, .int (iI z)), (2, .int (iI (i + 1))), (3, .int (iI x))]) C 2 dX11_free_101 rfl (by decide) rfl ?_
                      refine w_goto C 23 dX11_free_104 rfl ?_
                      refine w_lv (lv2 := [(0, .ref h), (1, .int (iI z)), (2, .int (iI (i + 1)))]) [0, 1, 2] rfl ?_
                      exact ih_23 _ (by omega) (i + 1) t2 (by omega) (by first | exact us_a h1.1 (by omega) (by omega) hU | exact us_b h1.1 (by omega) (by omega) (by omega) hU | exact us_c h1.1 (by omega) (by omega) (by omega) hU) rfl
                    · omega
                  · refine w_iload_n C 3 dX11_free_39 rfl ?_
                    refine w_aload_n C 0 dX11_free_40 rfl ?_
                    refine w_iload_n C 2 dX11_free_41 rfl ?_
                    refine w_callV (As := [.int (iI i)]) (rest := [.int (iI x)]) (w2 := [(h, .inr (9, [.ref a, .ref b, .ref tk, .ref re, .ref qu, .int (iI hd), .int (iI tl), .ref nm, .int (iI nl)])), (b, .inl (gI G, 4096, .inl (arI d))), (tk, .inl (gZ G, 64, .inl (arB t2)))]) (st2 := [.int (iI (bc d i)), .int (iI x)]) C (ct_X11_blocks G (kl k) h a b tk re qu nm hd tl nl d i (by omega)) gX11_52 dX11_free_42 0 rfl rfl rfl rfl rfl (Nat.le_of_ble_eq_true rfl) (by decide) [0, 1] rfl (by decide) [h, b] rfl rfl rfl rfl ?_
                    have f_10 := bc_rg d i
                    refine w_icmp_ge C 66 dX11_free_45 rfl (by omega) (fun c_11 => ?_) (fun c_11 => ?_)
                    · refine w_aload_n C 0 dX11_free_66 rfl ?_
                      refine w_iload_n C 2 dX11_free_67 rfl ?_
                      refine w_callV (As := [.int (iI i)]) (rest := []) (w2 := [(h, .inr (9, [.ref a, .ref b, .ref tk, .ref re, .ref qu, .int (iI hd), .int (iI tl), .ref nm, .int (iI nl)])), (b, .inl (gI G, 4096, .inl (arI d))), (tk, .inl (gZ G, 64, .inl (arB t2)))]) (st2 := [.int (iI (kd d i))]) C (ct_X11_kind G (kl k) h a b tk re qu nm hd tl nl d i (by omega)) gX11_62 dX11_free_68 0 rfl rfl rfl rfl rfl (Nat.le_of_ble_eq_true rfl) (by decide) [0, 1] rfl (by decide) [h, b] rfl rfl rfl rfl ?_
                      have f_12 := kd_rg d i
                      refine w_if_le C 101 dX11_free_71 rfl (by omega) (fun c_13 => ?_) (fun c_13 => ?_)
                      · omega
                      · refine w_aload_n C 0 dX11_free_74 rfl ?_
                        refine w_iload_n C 2 dX11_free_75 rfl ?_
                        refine w_callV (As := [.int (iI i)]) (rest := []) (w2 := [(h, .inr (9, [.ref a, .ref b, .ref tk, .ref re, .ref qu, .int (iI hd), .int (iI tl), .ref nm, .int (iI nl)])), (b, .inl (gI G, 4096, .inl (arI d))), (tk, .inl (gZ G, 64, .inl (arB t2)))]) (st2 := [.int (iI (bc d i))]) C (ct_X11_blocks G (kl k) h a b tk re qu nm hd tl nl d i (by omega)) gX11_52 dX11_free_76 0 rfl rfl rfl rfl rfl (Nat.le_of_ble_eq_true rfl) (by decide) [0, 1] rfl (by decide) [h, b] rfl rfl rfl rfl ?_
                        have f_14 := bc_rg d i
                        refine w_iconst C dX11_free_79 ?_
                        refine w_icmp_le C 101 dX11_free_80 rfl (by omega) (fun c_15 => ?_) (fun c_15 => ?_)
                        · refine w_iinc (lv2 := [(0, .ref h), (1, .int (iI z)), (2, .int (iI (i + 1))), (3, .int (iI x))]) C 2 dX11_free_101 rfl (by decide) rfl ?_
                          refine w_goto C 23 dX11_free_104 rfl ?_
                          refine w_lv (lv2 := [(0, .ref h), (1, .int (iI z)), (2, .int (iI (i + 1)))]) [0, 1, 2] rfl ?_
                          exact ih_23 _ (by omega) (i + 1) t2 (by omega) (by first | exact us_a h1.1 (by omega) (by omega) hU | exact us_b h1.1 (by omega) (by omega) (by omega) hU | exact us_c h1.1 (by omega) (by omega) (by omega) hU) rfl
                        · have ok := hw.ok i h1.1 (by omega) (by omega)
                          have g2 := (ok.2.2 (by omega)).1
                          refine w_aload_n C 0 dX11_free_83 rfl ?_
                          refine w_get C 0 2 848 dX11_free_84 rfl rfl inX11 (by decide) (by decide +kernel) rfl ?_
                          refine w_aload_n C 0 dX11_free_87 rfl ?_
                          refine w_get C 0 1 847 dX11_free_88 rfl rfl inX11 (by decide) (by decide +kernel) rfl ?_
                          refine w_iload_n C 2 dX11_free_91 rfl ?_
                          refine w_callS (As := [.int (iI i)]) (rest := [.ref b, .ref tk]) (w2 := [(h, .inr (9, [.ref a, .ref b, .ref tk, .ref re, .ref qu, .int (iI hd), .int (iI tl), .ref nm, .int (iI nl)])), (b, .inl (gI G, 4096, .inl (arI d))), (tk, .inl (gZ G, 64, .inl (arB t2)))]) (st2 := [.int (iI (512 + 16 * i)), .ref b, .ref tk]) C (ct_X11_base G (kl k) i) gX11_42 dX11_free_92 rfl rfl (Nat.le_of_ble_eq_true rfl) (by decide) [] rfl (by decide) [] rfl rfl rfl rfl ?_
                          refine w_bipush C dX11_free_95 (by decide) ?_
                          refine w_iadd C dX11_free_97 ?_
                          refine w_iald C 1 dX11_free_98 rfl (by omega) ?_
                          have b_16 := d.2 ((512 + 16 * i) + 9)
                          refine w_st (st2 := [.int (iI (ind d i)), .ref tk]) (by rw [show 512 + 16 * i + 9 = 512 + i * 16 + 9 by omega]) ?_
                          refine w_iconst C dX11_free_99 ?_
                          refine w_st (st2 := [.int (iI (bI true)), .int (iI (ind d i)), .ref tk]) rfl ?_
                          refine w_zast (ws2 := [(h, .inr (9, [.ref a, .ref b, .ref tk, .ref re, .ref qu, .int (iI hd), .int (iI tl), .ref nm, .int (iI nl)])), (b, .inl (gI G, 4096, .inl (arI d))), (tk, .inl (gZ G, 64, .inl (arB (upB t2 (ind d i) true))))]) C 2 dX11_free_100 rfl (by omega) rfl ?_
                          refine w_iinc (lv2 := [(0, .ref h), (1, .int (iI z)), (2, .int (iI (i + 1))), (3, .int (iI x))]) C 2 dX11_free_101 rfl (by decide) rfl ?_
                          refine w_goto C 23 dX11_free_104 rfl ?_
                          refine w_lv (lv2 := [(0, .ref h), (1, .int (iI z)), (2, .int (iI (i + 1)))]) [0, 1, 2] rfl ?_
                          exact ih_23 _ (by omega) (i + 1) (upB t2 (ind d i) true) (by omega) (by first | exact us_a h1.1 (by omega) (by omega) hU | exact us_b h1.1 (by omega) (by omega) (by omega) hU | exact us_c h1.1 (by omega) (by omega) (by omega) hU) rfl
                    · have ok := hw.ok i h1.1 (by omega) (by omega)
                      have o46 := ok.1.bc
                      have g1 := ok.2.1 x h3.1 (by omega)
                      have g2 := ok.2.2
                      refine w_aload_n C 0 dX11_free_48 rfl ?_
                      refine w_get C 0 2 848 dX11_free_49 rfl rfl inX11 (by decide) (by decide +kernel) rfl ?_
                      refine w_aload_n C 0 dX11_free_52 rfl ?_
                      refine w_iload_n C 2 dX11_free_53 rfl ?_
                      refine w_iload_n C 3 dX11_free_54 rfl ?_
                      refine w_callV (As := [.int (iI i), .int (iI x)]) (rest := [.ref tk]) (w2 := [(h, .inr (9, [.ref a, .ref b, .ref tk, .ref re, .ref qu, .int (iI hd), .int (iI tl), .ref nm, .int (iI nl)])), (b, .inl (gI G, 4096, .inl (arI d))), (tk, .inl (gZ G, 64, .inl (arB t2)))]) (st2 := [.int (iI (bk d i x)), .ref tk]) C (ct_X11_block G (kl k) h a b tk re qu nm hd tl nl d i x (by omega) (by refine ⟨h3.1, by omega, ?_⟩; by_cases w : x < 5; exact Or.inl w; exact Or.inr (g2 (by omega)).1)) gX11_59 dX11_free_55 0 rfl rfl rfl rfl rfl (Nat.le_of_ble_eq_true rfl) (by decide) [0, 1] rfl (by decide) [h, b] rfl rfl rfl rfl ?_
                      have f_17 := bk_rg d i x
                      refine w_iconst C dX11_free_58 ?_
                      refine w_st (st2 := [.int (iI (bI true)), .int (iI (bk d i x)), .ref tk]) rfl ?_
                      refine w_zast (ws2 := [(h, .inr (9, [.ref a, .ref b, .ref tk, .ref re, .ref qu, .int (iI hd), .int (iI tl), .ref nm, .int (iI nl)])), (b, .inl (gI G, 4096, .inl (arI d))), (tk, .inl (gZ G, 64, .inl (arB (upB t2 (bk d i x) true))))]) C 2 dX11_free_59 rfl (by omega) rfl ?_
                      refine w_iinc (lv2 := [(0, .ref h), (1, .int (iI z)), (2, .int (iI i)), (3, .int (iI (x + 1)))]) C 3 dX11_free_60 rfl (by decide) rfl ?_
                      refine w_goto C 31 dX11_free_63 rfl ?_
                      exact ih_31 _ (by omega) (x + 1) (upB t2 (bk d i x) true) (by omega) (us_in h3.1 hU) rfl
              exact L_31 _ 0 t2 (by have c9 := bc_rg d i; omega) (fun q a b => by rw [hT q a b]; exact ⟨Or.inl, fun w => w.elim id (fun y => absurd y (inB_0 d i q))⟩) rfl
        exact L_23 _ 1 t2 (by omega) (fun q a b => by rw [h2 q a (by omega)]; exact ⟨fun w => (by cases w), fun w => absurd w (usd_1 d q)⟩) rfl
      · refine w_aload_n C 0 dX11_free_8 rfl ?_
        refine w_get C 0 2 848 dX11_free_9 rfl rfl inX11 (by decide) (by decide +kernel) rfl ?_
        refine w_iload_n C 2 dX11_free_12 rfl ?_
        refine w_iconst C dX11_free_13 ?_
        refine w_st (st2 := [.int (iI (bI false)), .int (iI i), .ref tk]) rfl ?_
        refine w_zast (ws2 := [(h, .inr (9, [.ref a, .ref b, .ref tk, .ref re, .ref qu, .int (iI hd), .int (iI tl), .ref nm, .int (iI nl)])), (b, .inl (gI G, 4096, .inl (arI d))), (tk, .inl (gZ G, 64, .inl (arB (upB t2 i false))))]) C 2 dX11_free_14 rfl (by omega) rfl ?_
        refine w_iinc (lv2 := [(0, .ref h), (1, .int (iI z)), (2, .int (iI (i + 1)))]) C 2 dX11_free_15 rfl (by decide) rfl ?_
        refine w_goto C 2 dX11_free_18 rfl ?_
        exact ih_2 _ (by omega) (i + 1) (upB t2 i false) (by omega) (fun q a b => by unfold upB; by_cases e : q = i; (rw [if_pos e]); (rw [if_neg e]; exact h2 q a (by omega))) rfl
  exact L_2 _ 0 t (by omega) (fun q h1 h2 => by omega) rfl
