theorem gX11_202 : cwv RX11 202 yX11_read cX11_read 5 (some .int) 2 1097 1085 1086 74 1087 := by decide +kernel
set_option maxHeartbeats 4000000 in
set_option maxRecDepth 100000 in
theorem ct_X11_find_ (G : GX) (l : Launch) (h : Nat) (a : Nat) (b : Nat) (tk : Nat) (re : Nat) (qu : Nat) (nm : Nat) (hd : Int) (tl : Int) (nl : Int) (dk : Im) (nb : Im) (i : Int) (x : Int64) (hnl : 0 ≤ nl ∧ nl ≤ 14) (hi : -2147483648 ≤ i ∧ i < 2147483648) : CtE G l yX11_find_ cX11_find_ 7 (some .int) rmX11_find_ [.ref h, .int (iI i), .long x] [(h, .inr (9, [.ref a, .ref b, .ref tk, .ref re, .ref qu, .int (iI hd), .int (iI tl), .ref nm, .int (iI nl)])), (a, .inl (gI G, 4096, .inl (arI dk))), (nm, .inl (gI G, 14, .inl (arI nb)))] (fun e_ : Im × Int => (0 ≤ e_.2 ∧ e_.2 ≤ 14)) (fun e_ : Im × Int => (some (.int (iI (fdZ dk i x))))) (fun e_ : Im × Int => [(h, .inr (9, [.ref a, .ref b, .ref tk, .ref re, .ref qu, .int (iI hd), .int (iI tl), .ref nm, .int (iI e_.2)])), (a, .inl (gI G, 4096, .inl (arI dk))), (nm, .inl (gI G, 14, .inl (arI e_.1)))]) := by
  refine Ct.of (by decide) (Nat.le_of_ble_eq_true rfl) ?_
  intro k C hl hret
  subst hl
  refine w_lv (lv2 := [(0, .ref h), (1, .int (iI i)), (2, .long x)]) [0, 1, 2] rfl ?_
  refine w_iload_n C 1 dX11_find__0 rfl ?_
  refine w_if_lt C 16 dX11_find__1 rfl (by omega) (fun c_1 => ?_) (fun c_1 => ?_)
  · have hV : fdZ dk i x = -1 := fd_n (Or.inl (by omega))
    refine w_iconst C dX11_find__16 ?_
    exact w_reti hret dX11_find__17 rfl rfl rfl rfl ⟨(nb, nl), hnl, congrArg (fun z => some (Value.int (iI z))) hV.symm, rfl⟩
  · refine w_iload_n C 1 dX11_find__4 rfl ?_
    refine w_bipush C dX11_find__5 (by decide) ?_
    refine w_icmp_ge C 16 dX11_find__7 rfl (by omega) (fun c_2 => ?_) (fun c_2 => ?_)
    · have hV : fdZ dk i x = -1 := fd_n (Or.inl (by omega))
      refine w_iconst C dX11_find__16 ?_
      exact w_reti hret dX11_find__17 rfl rfl rfl rfl ⟨(nb, nl), hnl, congrArg (fun z => some (Value.int (iI z))) hV.symm, rfl⟩
    · refine w_lload_n C 2 dX11_find__10 rfl ?_
      refine w_lconst (v := 0) C dX11_find__11 (by decide) ?_
      refine w_lcmp C dX11_find__12 ?_
      refine w_lnz C 18 dX11_find__13 rfl (fun c_3 => ?_) (fun c_3 => ?_)
      · have p9 := un_pos nb c_3
        have r9 := nm_un_rg nb x 8
        have s9 := sz_rg dk i
        refine w_aload_n C 0 dX11_find__18 rfl ?_
        refine w_lload_n C 2 dX11_find__19 rfl ?_
        refine w_callV (As := [.long x]) (rest := []) (w2 := [(h, .inr (9, [.ref a, .ref b, .ref tk, .ref re, .ref qu, .int (iI hd), .int (iI tl), .ref nm, .int (iI ((nm_un nb x 8).2))])), (a, .inl (gI G, 4096, .inl (arI dk))), (nm, .inl (gI G, 14, .inl (arI ((nm_un nb x 8).1))))]) (st2 := []) C (ct_X11_nameOf G (kl k) h a b tk re qu nm hd tl nl nb x) gX11_198 dX11_find__20 0 rfl rfl rfl rfl rfl (Nat.le_of_ble_eq_true rfl) (by decide) [0, 2] rfl (by decide) [h, nm] rfl rfl rfl rfl ?_
        refine w_iconst C dX11_find__23 ?_
        refine w_istore (lv2 := [(0, .ref h), (1, .int (iI i)), (2, .long x), (4, .int (iI 2))]) C dX11_find__24 (by decide) rfl ?_
        have L_26 : ∀ (nn_26 : Nat) (p : Int), (2 ≤ p ∧ p ≤ 4097) → (sk dk i (nm_un nb x 8).1 (nm_un nb x 8).2 = sks dk i (nm_un nb x 8).1 (nm_un nb x 8).2 (ec dk i - p).toNat p) → (5000 - p).toNat = nn_26 → Wd G k 7 0 0 [(h, .inr (9, [.ref a, .ref b, .ref tk, .ref re, .ref qu, .int (iI hd), .int (iI tl), .ref nm, .int (iI ((nm_un nb x 8).2))])), (a, .inl (gI G, 4096, .inl (arI dk))), (nm, .inl (gI G, 14, .inl (arI ((nm_un nb x 8).1))))] 26 [(0, .ref h), (1, .int (iI i)), (2, .long x), (4, .int (iI p))] [] := by
          intro nn_26
          induction nn_26 using Nat.strongRecOn with
          | ind nn_26 ih_26 =>
            intro p h1 h2 hm_26
            refine w_bipush C dX11_find__26 (by decide) ?_
            refine w_iload C 3 dX11_find__28 rfl ?_
            refine w_imul C dX11_find__30 ?_
            refine w_bipush C dX11_find__31 (by decide) ?_
            refine w_iadd C dX11_find__33 ?_
            refine w_aload_n C 0 dX11_find__34 rfl ?_
            refine w_iload_n C 1 dX11_find__35 rfl ?_
            refine w_iconst C dX11_find__36 ?_
            refine w_callV (As := [.int (iI i), .int (iI 2)]) (rest := [.int (iI ((16 * p) + 15))]) (w2 := [(h, .inr (9, [.ref a, .ref b, .ref tk, .ref re, .ref qu, .int (iI hd), .int (iI tl), .ref nm, .int (iI ((nm_un nb x 8).2))])), (a, .inl (gI G, 4096, .inl (arI dk))), (nm, .inl (gI G, 14, .inl (arI ((nm_un nb x 8).1))))]) (st2 := [.int (iI (inR2 dk i 2)), .int (iI ((16 * p) + 15))]) C (ct_X11_inode G (kl k) h a b tk re qu nm hd tl ((nm_un nb x 8).2) dk i 2 (by omega) (by omega)) gX11_195 dX11_find__37 0 rfl rfl rfl rfl rfl (Nat.le_of_ble_eq_true rfl) (by decide) [0, 1] rfl (by decide) [h, a] rfl rfl rfl rfl ?_
            refine w_st (st2 := [.int (iI (sz dk i)), .int (iI ((16 * p) + 15))]) (by unfold inR2; rw [if_pos (show inR i by omega), if_neg (by omega), if_neg (by omega), if_pos rfl]) ?_
            refine w_icmp_ge C 146 dX11_find__40 rfl (by omega) (fun c_4 => ?_) (fun c_4 => ?_)
            · have n9 : (ec dk i - p).toNat = 0 := by unfold ec; omega
              refine w_iconst C dX11_find__146 ?_
              exact w_reti hret dX11_find__147 rfl rfl rfl rfl ⟨((nm_un nb x 8).1, (nm_un nb x 8).2), (show 0 ≤ (nm_un nb x 8).2 ∧ (nm_un nb x 8).2 ≤ 14 by omega), congrArg (fun z => some (Value.int (iI z))) (by rw [← fd_E dk nb]; unfold fdR; rw [h2, n9, sks, if_pos rfl]), rfl⟩
            · refine w_aload_n C 0 dX11_find__43 rfl ?_
              refine w_iload_n C 1 dX11_find__44 rfl ?_
              refine w_bipush C dX11_find__45 (by decide) ?_
              refine w_iload C 3 dX11_find__47 rfl ?_
              refine w_imul C dX11_find__49 ?_
              refine w_iconst C dX11_find__50 ?_
              refine w_iadd C dX11_find__51 ?_
              refine w_callV (As := [.int (iI i), .int (iI ((16 * p) + 1))]) (rest := []) (w2 := [(h, .inr (9, [.ref a, .ref b, .ref tk, .ref re, .ref qu, .int (iI hd), .int (iI tl), .ref nm, .int (iI ((nm_un nb x 8).2))])), (a, .inl (gI G, 4096, .inl (arI dk))), (nm, .inl (gI G, 14, .inl (arI ((nm_un nb x 8).1))))]) (st2 := [.int (iI (rdR dk i ((16 * p) + 1)))]) C (ct_X11_read G (kl k) h a b tk re qu nm hd tl ((nm_un nb x 8).2) dk i ((16 * p) + 1) (by omega) (by omega)) gX11_202 dX11_find__52 0 rfl rfl rfl rfl rfl (Nat.le_of_ble_eq_true rfl) (by decide) [0, 1] rfl (by decide) [h, a] rfl rfl rfl rfl ?_
              have d9 := rd_rg dk i (16 * p + 1)
              refine w_aload_n C 0 dX11_find__55 rfl ?_
              refine w_get C 0 8 854 dX11_find__56 rfl rfl inX11 (by decide) (by decide +kernel) rfl ?_
              refine w_icmp_ne C 66 dX11_find__59 rfl (by omega) (fun c_5 => ?_) (fun c_5 => ?_)
              · refine w_iconst C dX11_find__66 ?_
                refine w_istore (lv2 := [(0, .ref h), (1, .int (iI i)), (2, .long x), (4, .int (iI p)), (5, .int (iI 0))]) C dX11_find__67 (by decide) rfl ?_
                refine w_iconst C dX11_find__69 ?_
                refine w_istore (lv2 := [(0, .ref h), (1, .int (iI i)), (2, .long x), (4, .int (iI p)), (5, .int (iI 0)), (6, .int (iI 0))]) C dX11_find__70 (by decide) rfl ?_
                have L_72 : ∀ (nn_72 : Nat) (u : Int) (s : Int), (0 ≤ u ∧ u ≤ (nm_un nb x 8).2 ∧ (s = 0 ∨ s = 1)) → (s = 1 ↔ rdR dk i (16 * p + 1) = (nm_un nb x 8).2 ∧ ∀ j : Int, 0 ≤ j → j < u → rdR dk i (16 * p + 2 + j) = (nm_un nb x 8).1.1 j) → ((nm_un nb x 8).2 - u).toNat = nn_72 → Wd G k 7 0 0 [(h, .inr (9, [.ref a, .ref b, .ref tk, .ref re, .ref qu, .int (iI hd), .int (iI tl), .ref nm, .int (iI ((nm_un nb x 8).2))])), (a, .inl (gI G, 4096, .inl (arI dk))), (nm, .inl (gI G, 14, .inl (arI ((nm_un nb x 8).1))))] 72 [(0, .ref h), (1, .int (iI i)), (2, .long x), (4, .int (iI p)), (5, .int (iI s)), (6, .int (iI u))] [] := by
                  intro nn_72
                  induction nn_72 using Nat.strongRecOn with
                  | ind nn_72 ih_72 =>
                    intro u s h3 h4 hm_72
                    refine w_iload C 5 dX11_find__72 rfl ?_
                    refine w_aload_n C 0 dX11_find__74 rfl ?_
                    refine w_get C 0 8 854 dX11_find__75 rfl rfl inX11 (by decide) (by decide +kernel) rfl ?_
                    refine w_icmp_ge C 124 dX11_find__78 rfl (by omega) (fun c_6 => ?_) (fun c_6 => ?_)
                    · have hm9 := fd_m (dk := dk) (nb := (nm_un nb x 8).1) (i := i) (p := p) (n := (nm_un nb x 8).2) (s := s) (by omega) (by omega) (by omega) (by rw [h4, show u = (nm_un nb x 8).2 by omega])
                      refine w_iload C 4 dX11_find__124 rfl ?_
                      refine w_if_eq C 140 dX11_find__126 rfl (by omega) (fun c_7 => ?_) (fun c_7 => ?_)
                      · refine w_iinc (lv2 := [(0, .ref h), (1, .int (iI i)), (2, .long x), (4, .int (iI (p + 1))), (5, .int (iI s)), (6, .int (iI u))]) C 3 dX11_find__140 rfl (by decide) rfl ?_
                        refine w_goto C 26 dX11_find__143 rfl ?_
                        refine w_lv (lv2 := [(0, .ref h), (1, .int (iI i)), (2, .long x), (4, .int (iI (p + 1)))]) [0, 1, 2, 3] rfl ?_
                        exact ih_26 _ (by omega) (p + 1) (by omega) (by rw [h2]; exact sks_s (by omega) (fun w => by have w2 := hm9.mpr w; omega)) rfl
                      · have hm8 := hm9.mp (by omega)
                        have t9 := sks_t (by omega) (by omega) hm8
                        have er9 := ep_rg dk i p
                        refine w_aload_n C 0 dX11_find__129 rfl ?_
                        refine w_iload_n C 1 dX11_find__130 rfl ?_
                        refine w_bipush C dX11_find__131 (by decide) ?_
                        refine w_iload C 3 dX11_find__133 rfl ?_
                        refine w_imul C dX11_find__135 ?_
                        refine w_callV (As := [.int (iI i), .int (iI (16 * p))]) (rest := []) (w2 := [(h, .inr (9, [.ref a, .ref b, .ref tk, .ref re, .ref qu, .int (iI hd), .int (iI tl), .ref nm, .int (iI ((nm_un nb x 8).2))])), (a, .inl (gI G, 4096, .inl (arI dk))), (nm, .inl (gI G, 14, .inl (arI ((nm_un nb x 8).1))))]) (st2 := [.int (iI (rdR dk i (16 * p)))]) C (ct_X11_read G (kl k) h a b tk re qu nm hd tl ((nm_un nb x 8).2) dk i (16 * p) (by omega) (by omega)) gX11_202 dX11_find__136 0 rfl rfl rfl rfl rfl (Nat.le_of_ble_eq_true rfl) (by decide) [0, 1] rfl (by decide) [h, a] rfl rfl rfl rfl ?_
                        exact w_reti hret dX11_find__139 rfl rfl rfl rfl ⟨((nm_un nb x 8).1, (nm_un nb x 8).2), (show 0 ≤ (nm_un nb x 8).2 ∧ (nm_un nb x 8).2 ≤ 14 by omega), congrArg (fun z => some (Value.int (iI z))) (by rw [← fd_E dk nb]; unfold fdR; rw [h2, t9, if_neg hm8.1]; have w := rd_ep (dk := dk) (i := i) (p := p) (y := 0) (by omega) (by omega) (by omega); rw [show 16 * p + 0 = 16 * p by omega, if_neg hm8.1, show ep dk i p + 0 = ep dk i p by omega] at w; exact w), rfl⟩
                    · refine w_iload C 4 dX11_find__81 rfl ?_
                      refine w_if_eq C 115 dX11_find__83 rfl (by omega) (fun c_8 => ?_) (fun c_8 => ?_)
                      · refine w_iconst C dX11_find__115 ?_
                        refine w_istore (lv2 := [(0, .ref h), (1, .int (iI i)), (2, .long x), (4, .int (iI p)), (5, .int (iI 0)), (6, .int (iI u))]) C dX11_find__116 (by decide) rfl ?_
                        refine w_iinc (lv2 := [(0, .ref h), (1, .int (iI i)), (2, .long x), (4, .int (iI p)), (5, .int (iI 0)), (6, .int (iI (u + 1)))]) C 5 dX11_find__118 rfl (by decide) rfl ?_
                        refine w_goto C 72 dX11_find__121 rfl ?_
                        exact ih_72 _ (by omega) (u + 1) 0 (by omega) (al_s2 h4 h3.1 (by omega)) rfl
                      · refine w_aload_n C 0 dX11_find__86 rfl ?_
                        refine w_iload_n C 1 dX11_find__87 rfl ?_
                        refine w_bipush C dX11_find__88 (by decide) ?_
                        refine w_iload C 3 dX11_find__90 rfl ?_
                        refine w_imul C dX11_find__92 ?_
                        refine w_iconst C dX11_find__93 ?_
                        refine w_iadd C dX11_find__94 ?_
                        refine w_iload C 5 dX11_find__95 rfl ?_
                        refine w_iadd C dX11_find__97 ?_
                        refine w_callV (As := [.int (iI i), .int (iI (((16 * p) + 2) + u))]) (rest := []) (w2 := [(h, .inr (9, [.ref a, .ref b, .ref tk, .ref re, .ref qu, .int (iI hd), .int (iI tl), .ref nm, .int (iI ((nm_un nb x 8).2))])), (a, .inl (gI G, 4096, .inl (arI dk))), (nm, .inl (gI G, 14, .inl (arI ((nm_un nb x 8).1))))]) (st2 := [.int (iI (rdR dk i (((16 * p) + 2) + u)))]) C (ct_X11_read G (kl k) h a b tk re qu nm hd tl ((nm_un nb x 8).2) dk i (((16 * p) + 2) + u) (by omega) (by omega)) gX11_202 dX11_find__98 0 rfl rfl rfl rfl rfl (Nat.le_of_ble_eq_true rfl) (by decide) [0, 1] rfl (by decide) [h, a] rfl rfl rfl rfl ?_
                        have d8 := rd_rg dk i (16 * p + 2 + u)
                        refine w_aload_n C 0 dX11_find__101 rfl ?_
                        refine w_get C 0 7 853 dX11_find__102 rfl rfl inX11 (by decide) (by decide +kernel) rfl ?_
                        refine w_iload C 5 dX11_find__105 rfl ?_
                        refine w_iald C 2 dX11_find__107 rfl (by omega) ?_
                        have b_9 := ((nm_un nb x 8).1).2 u
                        refine w_icmp_ne C 115 dX11_find__108 rfl (by omega) (fun c_10 => ?_) (fun c_10 => ?_)
                        · refine w_iconst C dX11_find__115 ?_
                          refine w_istore (lv2 := [(0, .ref h), (1, .int (iI i)), (2, .long x), (4, .int (iI p)), (5, .int (iI 0)), (6, .int (iI u))]) C dX11_find__116 (by decide) rfl ?_
                          refine w_iinc (lv2 := [(0, .ref h), (1, .int (iI i)), (2, .long x), (4, .int (iI p)), (5, .int (iI 0)), (6, .int (iI (u + 1)))]) C 5 dX11_find__118 rfl (by decide) rfl ?_
                          refine w_goto C 72 dX11_find__121 rfl ?_
                          exact ih_72 _ (by omega) (u + 1) 0 (by omega) (al_s2 h4 h3.1 (by omega)) rfl
                        · refine w_iconst C dX11_find__111 ?_
                          refine w_goto C 116 dX11_find__112 rfl ?_
                          refine w_istore (lv2 := [(0, .ref h), (1, .int (iI i)), (2, .long x), (4, .int (iI p)), (5, .int (iI 1)), (6, .int (iI u))]) C dX11_find__116 (by decide) rfl ?_
                          refine w_iinc (lv2 := [(0, .ref h), (1, .int (iI i)), (2, .long x), (4, .int (iI p)), (5, .int (iI 1)), (6, .int (iI (u + 1)))]) C 5 dX11_find__118 rfl (by decide) rfl ?_
                          refine w_goto C 72 dX11_find__121 rfl ?_
                          exact ih_72 _ (by omega) (u + 1) 1 (by omega) (al_s2 h4 h3.1 (by omega)) rfl
                exact L_72 _ 0 0 (by omega) ⟨fun z => ⟨by omega, fun j a b => by omega⟩, fun z => by have z1 := z.1; omega⟩ rfl
              · refine w_iconst C dX11_find__62 ?_
                refine w_goto C 67 dX11_find__63 rfl ?_
                refine w_istore (lv2 := [(0, .ref h), (1, .int (iI i)), (2, .long x), (4, .int (iI p)), (5, .int (iI 1))]) C dX11_find__67 (by decide) rfl ?_
                refine w_iconst C dX11_find__69 ?_
                refine w_istore (lv2 := [(0, .ref h), (1, .int (iI i)), (2, .long x), (4, .int (iI p)), (5, .int (iI 1)), (6, .int (iI 0))]) C dX11_find__70 (by decide) rfl ?_
                have L_72 : ∀ (nn_72 : Nat) (u : Int) (s : Int), (0 ≤ u ∧ u ≤ (nm_un nb x 8).2 ∧ (s = 0 ∨ s = 1)) → (s = 1 ↔ rdR dk i (16 * p + 1) = (nm_un nb x 8).2 ∧ ∀ j : Int, 0 ≤ j → j < u → rdR dk i (16 * p + 2 + j) = (nm_un nb x 8).1.1 j) → ((nm_un nb x 8).2 - u).toNat = nn_72 → Wd G k 7 0 0 [(h, .inr (9, [.ref a, .ref b, .ref tk, .ref re, .ref qu, .int (iI hd), .int (iI tl), .ref nm, .int (iI ((nm_un nb x 8).2))])), (a, .inl (gI G, 4096, .inl (arI dk))), (nm, .inl (gI G, 14, .inl (arI ((nm_un nb x 8).1))))] 72 [(0, .ref h), (1, .int (iI i)), (2, .long x), (4, .int (iI p)), (5, .int (iI s)), (6, .int (iI u))] [] := by
                  intro nn_72
                  induction nn_72 using Nat.strongRecOn with
                  | ind nn_72 ih_72 =>
                    intro u s h3 h4 hm_72
                    refine w_iload C 5 dX11_find__72 rfl ?_
                    refine w_aload_n C 0 dX11_find__74 rfl ?_
                    refine w_get C 0 8 854 dX11_find__75 rfl rfl inX11 (by decide) (by decide +kernel) rfl ?_
                    refine w_icmp_ge C 124 dX11_find__78 rfl (by omega) (fun c_11 => ?_) (fun c_11 => ?_)
                    · have hm9 := fd_m (dk := dk) (nb := (nm_un nb x 8).1) (i := i) (p := p) (n := (nm_un nb x 8).2) (s := s) (by omega) (by omega) (by omega) (by rw [h4, show u = (nm_un nb x 8).2 by omega])
                      refine w_iload C 4 dX11_find__124 rfl ?_
                      refine w_if_eq C 140 dX11_find__126 rfl (by omega) (fun c_12 => ?_) (fun c_12 => ?_)
                      · refine w_iinc (lv2 := [(0, .ref h), (1, .int (iI i)), (2, .long x), (4, .int (iI (p + 1))), (5, .int (iI s)), (6, .int (iI u))]) C 3 dX11_find__140 rfl (by decide) rfl ?_
                        refine w_goto C 26 dX11_find__143 rfl ?_
                        refine w_lv (lv2 := [(0, .ref h), (1, .int (iI i)), (2, .long x), (4, .int (iI (p + 1)))]) [0, 1, 2, 3] rfl ?_
                        exact ih_26 _ (by omega) (p + 1) (by omega) (by rw [h2]; exact sks_s (by omega) (fun w => by have w2 := hm9.mpr w; omega)) rfl
                      · have hm8 := hm9.mp (by omega)
                        have t9 := sks_t (by omega) (by omega) hm8
                        have er9 := ep_rg dk i p
                        refine w_aload_n C 0 dX11_find__129 rfl ?_
                        refine w_iload_n C 1 dX11_find__130 rfl ?_
                        refine w_bipush C dX11_find__131 (by decide) ?_
                        refine w_iload C 3 dX11_find__133 rfl ?_
                        refine w_imul C dX11_find__135 ?_
                        refine w_callV (As := [.int (iI i), .int (iI (16 * p))]) (rest := []) (w2 := [(h, .inr (9, [.ref a, .ref b, .ref tk, .ref re, .ref qu, .int (iI hd), .int (iI tl), .ref nm, .int (iI ((nm_un nb x 8).2))])), (a, .inl (gI G, 4096, .inl (arI dk))), (nm, .inl (gI G, 14, .inl (arI ((nm_un nb x 8).1))))]) (st2 := [.int (iI (rdR dk i (16 * p)))]) C (ct_X11_read G (kl k) h a b tk re qu nm hd tl ((nm_un nb x 8).2) dk i (16 * p) (by omega) (by omega)) gX11_202 dX11_find__136 0 rfl rfl rfl rfl rfl (Nat.le_of_ble_eq_true rfl) (by decide) [0, 1] rfl (by decide) [h, a] rfl rfl rfl rfl ?_
                        exact w_reti hret dX11_find__139 rfl rfl rfl rfl ⟨((nm_un nb x 8).1, (nm_un nb x 8).2), (show 0 ≤ (nm_un nb x 8).2 ∧ (nm_un nb x 8).2 ≤ 14 by omega), congrArg (fun z => some (Value.int (iI z))) (by rw [← fd_E dk nb]; unfold fdR; rw [h2, t9, if_neg hm8.1]; have w := rd_ep (dk := dk) (i := i) (p := p) (y := 0) (by omega) (by omega) (by omega); rw [show 16 * p + 0 = 16 * p by omega, if_neg hm8.1, show ep dk i p + 0 = ep dk i p by omega] at w; exact w), rfl⟩
                    · refine w_iload C 4 dX11_find__81 rfl ?_
                      refine w_if_eq C 115 dX11_find__83 rfl (by omega) (fun c_13 => ?_) (fun c_13 => ?_)
                      · refine w_iconst C dX11_find__115 ?_
                        refine w_istore (lv2 := [(0, .ref h), (1, .int (iI i)), (2, .long x), (4, .int (iI p)), (5, .int (iI 0)), (6, .int (iI u))]) C dX11_find__116 (by decide) rfl ?_
                        refine w_iinc (lv2 := [(0, .ref h), (1, .int (iI i)), (2, .long x), (4, .int (iI p)), (5, .int (iI 0)), (6, .int (iI (u + 1)))]) C 5 dX11_find__118 rfl (by decide) rfl ?_
                        refine w_goto C 72 dX11_find__121 rfl ?_
                        exact ih_72 _ (by omega) (u + 1) 0 (by omega) (al_s2 h4 h3.1 (by omega)) rfl
                      · refine w_aload_n C 0 dX11_find__86 rfl ?_
                        refine w_iload_n C 1 dX11_find__87 rfl ?_
                        refine w_bipush C dX11_find__88 (by decide) ?_
                        refine w_iload C 3 dX11_find__90 rfl ?_
                        refine w_imul C dX11_find__92 ?_
                        refine w_iconst C dX11_find__93 ?_
                        refine w_iadd C dX11_find__94 ?_
                        refine w_iload C 5 dX11_find__95 rfl ?_
                        refine w_iadd C dX11_find__97 ?_
                        refine w_callV (As := [.int (iI i), .int (iI (((16 * p) + 2) + u))]) (rest := []) (w2 := [(h, .inr (9, [.ref a, .ref b, .ref tk, .ref re, .ref qu, .int (iI hd), .int (iI tl), .ref nm, .int (iI ((nm_un nb x 8).2))])), (a, .inl (gI G, 4096, .inl (arI dk))), (nm, .inl (gI G, 14, .inl (arI ((nm_un nb x 8).1))))]) (st2 := [.int (iI (rdR dk i (((16 * p) + 2) + u)))]) C (ct_X11_read G (kl k) h a b tk re qu nm hd tl ((nm_un nb x 8).2) dk i (((16 * p) + 2) + u) (by omega) (by omega)) gX11_202 dX11_find__98 0 rfl rfl rfl rfl rfl (Nat.le_of_ble_eq_true rfl) (by decide) [0, 1] rfl (by decide) [h, a] rfl rfl rfl rfl ?_
                        have d8 := rd_rg dk i (16 * p + 2 + u)
                        refine w_aload_n C 0 dX11_find__101 rfl ?_
                        refine w_get C 0 7 853 dX11_find__102 rfl rfl inX11 (by decide) (by decide +kernel) rfl ?_
                        refine w_iload C 5 dX11_find__105 rfl ?_
                        refine w_iald C 2 dX11_find__107 rfl (by omega) ?_
                        have b_14 := ((nm_un nb x 8).1).2 u
                        refine w_icmp_ne C 115 dX11_find__108 rfl (by omega) (fun c_15 => ?_) (fun c_15 => ?_)
                        · refine w_iconst C dX11_find__115 ?_
                          refine w_istore (lv2 := [(0, .ref h), (1, .int (iI i)), (2, .long x), (4, .int (iI p)), (5, .int (iI 0)), (6, .int (iI u))]) C dX11_find__116 (by decide) rfl ?_
                          refine w_iinc (lv2 := [(0, .ref h), (1, .int (iI i)), (2, .long x), (4, .int (iI p)), (5, .int (iI 0)), (6, .int (iI (u + 1)))]) C 5 dX11_find__118 rfl (by decide) rfl ?_
                          refine w_goto C 72 dX11_find__121 rfl ?_
                          exact ih_72 _ (by omega) (u + 1) 0 (by omega) (al_s2 h4 h3.1 (by omega)) rfl
                        · refine w_iconst C dX11_find__111 ?_
                          refine w_goto C 116 dX11_find__112 rfl ?_
                          refine w_istore (lv2 := [(0, .ref h), (1, .int (iI i)), (2, .long x), (4, .int (iI p)), (5, .int (iI 1)), (6, .int (iI u))]) C dX11_find__116 (by decide) rfl ?_
                          refine w_iinc (lv2 := [(0, .ref h), (1, .int (iI i)), (2, .long x), (4, .int (iI p)), (5, .int (iI 1)), (6, .int (iI (u + 1)))]) C 5 dX11_find__118 rfl (by decide) rfl ?_
                          refine w_goto C 72 dX11_find__121 rfl ?_
                          exact ih_72 _ (by omega) (u + 1) 1 (by omega) (al_s2 h4 h3.1 (by omega)) rfl
                exact L_72 _ 0 1 (by omega) ⟨fun z => ⟨by omega, fun j a b => by omega⟩, fun z => by have z1 := z.1; omega⟩ rfl
        exact L_26 _ 2 (by omega) (by unfold sk; rw [if_neg (by omega)]) rfl
      · have hV : fdZ dk i x = -1 := fd_n (Or.inr c_3)
        refine w_iconst C dX11_find__16 ?_
        exact w_reti hret dX11_find__17 rfl rfl rfl rfl ⟨(nb, nl), hnl, congrArg (fun z => some (Value.int (iI z))) hV.symm, rfl⟩
