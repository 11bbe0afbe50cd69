theorem gX11_79 : cwv RX11 79 yX11_find cX11_find 4 (some .int) 2 1005 1007 49 74 1008 := by decide +kernel
set_option maxHeartbeats 4000000 in
set_option maxRecDepth 100000 in
theorem ct_X11_isValid (G : GX) (l : Launch) (h : Nat) (a : Nat) (b : Nat) (tk : Nat) (re : Nat) (qu : Nat) (nm : Nat) (hd : Int) (tl : Int) (nl : Int) (d : Im) (nb : Im) (i : Int) (p : Int) (hnl : 0 ≤ nl ∧ nl ≤ 14) (hi : 0 ≤ i ∧ i < 32) (hp : 2 ≤ p ∧ p < 1000) (he : epA d i (p + 1)) : CtE G l yX11_isValid cX11_isValid 9 (some .boolean) rmX11_isValid [.ref h, .int (iI i), .int (iI p)] [(h, .inr (9, [.ref a, .ref b, .ref tk, .ref re, .ref qu, .int (iI hd), .int (iI tl), .ref nm, .int (iI nl)])), (b, .inl (gI G, 4096, .inl (arI d))), (nm, .inl (gI G, 14, .inl (arI nb)))] (fun e_ : Im × Int => (0 ≤ e_.2 ∧ e_.2 ≤ 14)) (fun e_ : Im × Int => (some (.int (iI (bI (rvB d i p)))))) (fun e_ : Im × Int => [(h, .inr (9, [.ref a, .ref b, .ref tk, .ref re, .ref qu, .int (iI hd), .int (iI tl), .ref nm, .int (iI e_.2)])), (b, .inl (gI G, 4096, .inl (arI d))), (nm, .inl (gI G, 14, .inl (arI e_.1)))]) := by
  refine Ct.of (by decide) (Nat.le_of_ble_eq_true rfl) ?_
  intro k C hl hret
  subst hl
  refine w_lv (lv2 := [(0, .ref h), (1, .int (iI i)), (2, .int (iI p))]) [0, 1, 2] rfl ?_
  have e0 := he p (by omega) (by omega)
  have e1 := ep_rg d i p
  have a1 : im_at d (ep d i p + 1) = d.1 (ep d i p + 1) := im_at_in d (by omega)
  have a0 : im_at d (ep d i p) = d.1 (ep d i p) := im_at_in d (by omega)
  have r1 := d.2 (ep d i p + 1)
  have r0 := d.2 (ep d i p)
  refine w_aload_n C 0 dX11_isValid_0 rfl ?_
  refine w_iload_n C 1 dX11_isValid_1 rfl ?_
  refine w_iload_n C 2 dX11_isValid_2 rfl ?_
  refine w_callV (As := [.int (iI i), .int (iI p)]) (rest := []) (w2 := [(h, .inr (9, [.ref a, .ref b, .ref tk, .ref re, .ref qu, .int (iI hd), .int (iI tl), .ref nm, .int (iI nl)])), (b, .inl (gI G, 4096, .inl (arI d))), (nm, .inl (gI G, 14, .inl (arI nb)))]) (st2 := [.int (iI (ep d i p))]) C (ct_X11_entry G (kl k) h a b tk re qu nm hd tl nl d i p (by omega) (by omega) (by omega)) gX11_73 dX11_isValid_3 0 rfl rfl rfl rfl rfl (Nat.le_of_ble_eq_true rfl) (by decide) [0, 1] rfl (by decide) [h, b] rfl rfl rfl rfl ?_
  have f_1 := ep_rg d i p
  refine w_istore_n (lv2 := [(0, .ref h), (1, .int (iI i)), (2, .int (iI p)), (3, .int (iI (ep d i p)))]) C dX11_isValid_6 (by decide) rfl ?_
  refine w_aload_n C 0 dX11_isValid_7 rfl ?_
  refine w_get C 0 1 847 dX11_isValid_8 rfl rfl inX11 (by decide) (by decide +kernel) rfl ?_
  refine w_iload_n C 3 dX11_isValid_11 rfl ?_
  refine w_iald C 1 dX11_isValid_12 rfl (by omega) ?_
  have b_2 := d.2 (ep d i p)
  refine w_istore (lv2 := [(0, .ref h), (1, .int (iI i)), (2, .int (iI p)), (3, .int (iI (ep d i p))), (4, .int (iI (d.1 (ep d i p))))]) C dX11_isValid_13 (by decide) rfl ?_
  refine w_aload_n C 0 dX11_isValid_15 rfl ?_
  refine w_get C 0 1 847 dX11_isValid_16 rfl rfl inX11 (by decide) (by decide +kernel) rfl ?_
  refine w_iload_n C 3 dX11_isValid_19 rfl ?_
  refine w_iconst C dX11_isValid_20 ?_
  refine w_iadd C dX11_isValid_21 ?_
  refine w_iald C 1 dX11_isValid_22 rfl (by omega) ?_
  have b_3 := d.2 ((ep d i p) + 1)
  refine w_st (st2 := [.int (iI (im_at d (ep d i p + 1)))]) (by rw [a1]) ?_
  refine w_istore (lv2 := [(0, .ref h), (1, .int (iI i)), (2, .int (iI p)), (3, .int (iI (ep d i p))), (4, .int (iI (d.1 (ep d i p)))), (5, .int (iI (im_at d (ep d i p + 1))))]) C dX11_isValid_23 (by decide) rfl ?_
  refine w_iload C 4 dX11_isValid_25 rfl ?_
  refine w_iconst C dX11_isValid_27 ?_
  refine w_icmp_lt C 78 dX11_isValid_28 rfl (by omega) (fun c_4 => ?_) (fun c_4 => ?_)
  · refine w_iconst C dX11_isValid_78 ?_
    exact w_reti hret dX11_isValid_79 rfl rfl rfl rfl ⟨(nb, nl), hnl, congrArg (fun z => some (Value.int (iI z))) (by first | (rw [rv_b hbl]; rfl) | (rw [rv_x2 (d := d) (i := i) (p := p) (by omega) (by omega)]; rfl)), rfl⟩
  · refine w_iload C 4 dX11_isValid_31 rfl ?_
    refine w_bipush C dX11_isValid_33 (by decide) ?_
    refine w_icmp_ge C 78 dX11_isValid_35 rfl (by omega) (fun c_5 => ?_) (fun c_5 => ?_)
    · refine w_iconst C dX11_isValid_78 ?_
      exact w_reti hret dX11_isValid_79 rfl rfl rfl rfl ⟨(nb, nl), hnl, congrArg (fun z => some (Value.int (iI z))) (by first | (rw [rv_b hbl]; rfl) | (rw [rv_x2 (d := d) (i := i) (p := p) (by omega) (by omega)]; rfl)), rfl⟩
    · refine w_aload_n C 0 dX11_isValid_38 rfl ?_
      refine w_iload C 4 dX11_isValid_39 rfl ?_
      refine w_callV (As := [.int (iI (d.1 (ep d i p)))]) (rest := []) (w2 := [(h, .inr (9, [.ref a, .ref b, .ref tk, .ref re, .ref qu, .int (iI hd), .int (iI tl), .ref nm, .int (iI nl)])), (b, .inl (gI G, 4096, .inl (arI d))), (nm, .inl (gI G, 14, .inl (arI nb)))]) (st2 := [.int (iI (kd d (d.1 (ep d i p))))]) C (ct_X11_kind G (kl k) h a b tk re qu nm hd tl nl d (d.1 (ep d i p)) (by omega)) gX11_62 dX11_isValid_41 0 rfl rfl rfl rfl rfl (Nat.le_of_ble_eq_true rfl) (by decide) [0, 1] rfl (by decide) [h, b] rfl rfl rfl rfl ?_
      have f_6 := kd_rg d (d.1 (ep d i p))
      refine w_if_eq C 78 dX11_isValid_44 rfl (by omega) (fun c_7 => ?_) (fun c_7 => ?_)
      · refine w_iconst C dX11_isValid_78 ?_
        exact w_reti hret dX11_isValid_79 rfl rfl rfl rfl ⟨(nb, nl), hnl, congrArg (fun z => some (Value.int (iI z))) (by first | (rw [rv_b hbl]; rfl) | (rw [rv_x2 (d := d) (i := i) (p := p) (by omega) (by omega)]; rfl)), rfl⟩
      · refine w_iload C 5 dX11_isValid_47 rfl ?_
        refine w_iconst C dX11_isValid_49 ?_
        refine w_icmp_lt C 78 dX11_isValid_50 rfl (by omega) (fun c_8 => ?_) (fun c_8 => ?_)
        · refine w_iconst C dX11_isValid_78 ?_
          exact w_reti hret dX11_isValid_79 rfl rfl rfl rfl ⟨(nb, nl), hnl, congrArg (fun z => some (Value.int (iI z))) (by first | (rw [rv_b hbl]; rfl) | (rw [rv_x2 (d := d) (i := i) (p := p) (by omega) (by omega)]; rfl)), rfl⟩
        · refine w_iload C 5 dX11_isValid_53 rfl ?_
          refine w_bipush C dX11_isValid_55 (by decide) ?_
          refine w_icmp_gt C 78 dX11_isValid_57 rfl (by omega) (fun c_9 => ?_) (fun c_9 => ?_)
          · refine w_iconst C dX11_isValid_78 ?_
            exact w_reti hret dX11_isValid_79 rfl rfl rfl rfl ⟨(nb, nl), hnl, congrArg (fun z => some (Value.int (iI z))) (by first | (rw [rv_b hbl]; rfl) | (rw [rv_x2 (d := d) (i := i) (p := p) (by omega) (by omega)]; rfl)), rfl⟩
          · refine w_aload_n C 0 dX11_isValid_60 rfl ?_
            refine w_iload_n C 3 dX11_isValid_61 rfl ?_
            refine w_iconst C dX11_isValid_62 ?_
            refine w_iadd C dX11_isValid_63 ?_
            refine w_iload C 5 dX11_isValid_64 rfl ?_
            refine w_iadd C dX11_isValid_66 ?_
            refine w_bipush C dX11_isValid_67 (by decide) ?_
            refine w_iload C 5 dX11_isValid_69 rfl ?_
            refine w_isub C dX11_isValid_71 ?_
            refine w_callV (As := [.int (iI (((ep d i p) + 2) + (im_at d (ep d i p + 1)))), .int (iI (14 - (im_at d (ep d i p + 1))))]) (rest := []) (w2 := [(h, .inr (9, [.ref a, .ref b, .ref tk, .ref re, .ref qu, .int (iI hd), .int (iI tl), .ref nm, .int (iI nl)])), (b, .inl (gI G, 4096, .inl (arI d))), (nm, .inl (gI G, 14, .inl (arI nb)))]) (st2 := [.int (iI (bI (im_blank d (((ep d i p) + 2) + (im_at d (ep d i p + 1))) (14 - (im_at d (ep d i p + 1))))))]) C (ct_X11_isClear G (kl k) h a b tk re qu nm hd tl nl d (((ep d i p) + 2) + (im_at d (ep d i p + 1))) (14 - (im_at d (ep d i p + 1))) (by unfold rgP; omega)) gX11_48 dX11_isValid_72 0 rfl rfl rfl rfl rfl (Nat.le_of_ble_eq_true rfl) (by decide) [0, 1] rfl (by decide) [h, b] rfl rfl rfl rfl ?_
            refine w_bnz C 80 dX11_isValid_75 rfl (fun c_10 => ?_) (fun c_10 => ?_)
            · have hbl := c_10
              refine w_aload_n C 0 dX11_isValid_80 rfl ?_
              refine w_iload C 5 dX11_isValid_81 rfl ?_
              refine w_put (ty := .int) (ws2 := [(h, .inr (9, [.ref a, .ref b, .ref tk, .ref re, .ref qu, .int (iI hd), .int (iI tl), .ref nm, .int (iI (im_at d (ep d i p + 1)))])), (b, .inl (gI G, 4096, .inl (arI d))), (nm, .inl (gI G, 14, .inl (arI nb)))]) C 0 8 854 dX11_isValid_83 rfl rfl inX11 tyX11_ok nmX11 (by decide) (by decide +kernel) rfl (by decide +kernel) rfl rfl (Nat.le_of_ble_eq_true rfl) rfl ?_
              refine w_iconst C dX11_isValid_86 ?_
              refine w_istore (lv2 := [(0, .ref h), (1, .int (iI i)), (2, .int (iI p)), (3, .int (iI (ep d i p))), (4, .int (iI (d.1 (ep d i p)))), (5, .int (iI (im_at d (ep d i p + 1)))), (6, .int (iI 1))]) C dX11_isValid_87 (by decide) rfl ?_
              refine w_iload C 5 dX11_isValid_89 rfl ?_
              refine w_iconst C dX11_isValid_91 ?_
              refine w_icmp_ge C 99 dX11_isValid_92 rfl (by omega) (fun c_11 => ?_) (fun c_11 => ?_)
              · refine w_iconst C dX11_isValid_99 ?_
                refine w_istore (lv2 := [(0, .ref h), (1, .int (iI i)), (2, .int (iI p)), (3, .int (iI (ep d i p))), (4, .int (iI (d.1 (ep d i p)))), (5, .int (iI (im_at d (ep d i p + 1)))), (6, .int (iI 1)), (7, .int (iI 0))]) C dX11_isValid_100 (by decide) rfl ?_
                refine w_iconst C dX11_isValid_102 ?_
                refine w_istore (lv2 := [(0, .ref h), (1, .int (iI i)), (2, .int (iI p)), (3, .int (iI (ep d i p))), (4, .int (iI (d.1 (ep d i p)))), (5, .int (iI (im_at d (ep d i p + 1)))), (6, .int (iI 1)), (7, .int (iI 0)), (8, .int (iI 0))]) C dX11_isValid_103 (by decide) rfl ?_
                refine w_lv (lv2 := [(0, .ref h), (1, .int (iI i)), (2, .int (iI p)), (3, .int (iI (ep d i p))), (5, .int (iI (im_at d (ep d i p + 1)))), (6, .int (iI 1)), (7, .int (iI 0)), (8, .int (iI 0))]) [0, 1, 2, 3, 5, 6, 7, 8] rfl ?_
                have L_105 : ∀ (nn_105 : Nat) (u : Int) (nb2 : Im) (g : Int) (t : Int), (0 ≤ u ∧ u ≤ im_at d (ep d i p + 1) ∧ (g = 0 ∨ g = 1) ∧ (t = 0 ∨ t = 1)) → (∀ j : Int, 0 ≤ j → j < u → nb2.1 j = d.1 (ep d i p + 2 + j)) → (g = 1 ↔ ∀ j : Int, 0 ≤ j → j < u → (d.1 (ep d i p + 2 + j) ≠ 0 ∧ d.1 (ep d i p + 2 + j) ≠ 47)) → (t = 1 ↔ im_at d (ep d i p + 1) < 3 ∧ ∀ j : Int, 0 ≤ j → j < u → d.1 (ep d i p + 2 + j) = 46) → (im_at d (ep d i p + 1) - u).toNat = nn_105 → Wd G k 9 0 0 [(h, .inr (9, [.ref a, .ref b, .ref tk, .ref re, .ref qu, .int (iI hd), .int (iI tl), .ref nm, .int (iI (im_at d (ep d i p + 1)))])), (b, .inl (gI G, 4096, .inl (arI d))), (nm, .inl (gI G, 14, .inl (arI nb2)))] 105 [(0, .ref h), (1, .int (iI i)), (2, .int (iI p)), (3, .int (iI (ep d i p))), (5, .int (iI (im_at d (ep d i p + 1)))), (6, .int (iI g)), (7, .int (iI t)), (8, .int (iI u))] [] := by
                  intro nn_105
                  induction nn_105 using Nat.strongRecOn with
                  | ind nn_105 ih_105 =>
                    intro u nb2 g t h1 h2 h3 h4 hm_105
                    refine w_iload C 7 dX11_isValid_105 rfl ?_
                    refine w_iload C 4 dX11_isValid_107 rfl ?_
                    refine w_icmp_ge C 194 dX11_isValid_109 rfl (by omega) (fun c_12 => ?_) (fun c_12 => ?_)
                    · refine w_iload C 5 dX11_isValid_194 rfl ?_
                      refine w_if_eq C 218 dX11_isValid_196 rfl (by omega) (fun c_13 => ?_) (fun c_13 => ?_)
                      · refine w_iconst C dX11_isValid_218 ?_
                        exact w_reti hret dX11_isValid_219 rfl rfl rfl rfl ⟨(nb2, im_at d (ep d i p + 1)), (by omega), congrArg (fun z => some (Value.int (iI z))) (by rw [rv_e (nb := nb2) (g := g) (t := t) (fun w => by have w2 := (vaX_iff (by omega)).mp w; omega) (by omega) hbl (fun j a b => h2 j a (by omega)) (by rw [h3, show u = im_at d (ep d i p + 1) by omega]) (by rw [h4, show u = im_at d (ep d i p + 1) by omega])]; first | (rw [decide_eq_true (by omega)]; rfl) | (rw [decide_eq_false (by omega)]; rfl)), rfl⟩
                      · refine w_iload C 6 dX11_isValid_199 rfl ?_
                        refine w_if_ne C 218 dX11_isValid_201 rfl (by omega) (fun c_14 => ?_) (fun c_14 => ?_)
                        · refine w_iconst C dX11_isValid_218 ?_
                          exact w_reti hret dX11_isValid_219 rfl rfl rfl rfl ⟨(nb2, im_at d (ep d i p + 1)), (by omega), congrArg (fun z => some (Value.int (iI z))) (by rw [rv_e (nb := nb2) (g := g) (t := t) (fun w => by have w2 := (vaX_iff (by omega)).mp w; omega) (by omega) hbl (fun j a b => h2 j a (by omega)) (by rw [h3, show u = im_at d (ep d i p + 1) by omega]) (by rw [h4, show u = im_at d (ep d i p + 1) by omega])]; first | (rw [decide_eq_true (by omega)]; rfl) | (rw [decide_eq_false (by omega)]; rfl)), rfl⟩
                        · refine w_aload_n C 0 dX11_isValid_204 rfl ?_
                          refine w_iload_n C 1 dX11_isValid_205 rfl ?_
                          refine w_iload_n C 2 dX11_isValid_206 rfl ?_
                          refine w_callV (As := [.int (iI i), .int (iI p)]) (rest := []) (w2 := [(h, .inr (9, [.ref a, .ref b, .ref tk, .ref re, .ref qu, .int (iI hd), .int (iI tl), .ref nm, .int (iI (im_at d (ep d i p + 1)))])), (b, .inl (gI G, 4096, .inl (arI d))), (nm, .inl (gI G, 14, .inl (arI nb2)))]) (st2 := [.int (iI (rfs d i nb2 (im_at d (ep d i p + 1)) (p - 2).toNat 2))]) C (ct_X11_find G (kl k) h a b tk re qu nm hd tl (im_at d (ep d i p + 1)) d nb2 i p (by omega) (by omega) (by omega) (fun q a b => he q a (by omega))) gX11_79 dX11_isValid_207 0 rfl rfl rfl rfl rfl (Nat.le_of_ble_eq_true rfl) (by decide) [0, 1, 2] rfl (by decide) [h, b, nm] rfl rfl rfl rfl ?_
                          have f_15 := rfs_rg d i nb2 (im_at d (ep d i p + 1)) (p - 2).toNat 2
                          refine w_iconst C dX11_isValid_210 ?_
                          refine w_icmp_ne C 218 dX11_isValid_211 rfl (by omega) (fun c_16 => ?_) (fun c_16 => ?_)
                          · refine w_iconst C dX11_isValid_218 ?_
                            exact w_reti hret dX11_isValid_219 rfl rfl rfl rfl ⟨(nb2, im_at d (ep d i p + 1)), (by omega), congrArg (fun z => some (Value.int (iI z))) (by rw [rv_e (nb := nb2) (g := g) (t := t) (fun w => by have w2 := (vaX_iff (by omega)).mp w; omega) (by omega) hbl (fun j a b => h2 j a (by omega)) (by rw [h3, show u = im_at d (ep d i p + 1) by omega]) (by rw [h4, show u = im_at d (ep d i p + 1) by omega])]; first | (rw [decide_eq_true (by omega)]; rfl) | (rw [decide_eq_false (by omega)]; rfl)), rfl⟩
                          · refine w_iconst C dX11_isValid_214 ?_
                            refine w_goto C 219 dX11_isValid_215 rfl ?_
                            exact w_reti hret dX11_isValid_219 rfl rfl rfl rfl ⟨(nb2, im_at d (ep d i p + 1)), (by omega), congrArg (fun z => some (Value.int (iI z))) (by rw [rv_e (nb := nb2) (g := g) (t := t) (fun w => by have w2 := (vaX_iff (by omega)).mp w; omega) (by omega) hbl (fun j a b => h2 j a (by omega)) (by rw [h3, show u = im_at d (ep d i p + 1) by omega]) (by rw [h4, show u = im_at d (ep d i p + 1) by omega])]; first | (rw [decide_eq_true (by omega)]; rfl) | (rw [decide_eq_false (by omega)]; rfl)), rfl⟩
                    · refine w_aload_n C 0 dX11_isValid_112 rfl ?_
                      refine w_get C 0 7 853 dX11_isValid_113 rfl rfl inX11 (by decide) (by decide +kernel) rfl ?_
                      refine w_iload C 7 dX11_isValid_116 rfl ?_
                      refine w_aload_n C 0 dX11_isValid_118 rfl ?_
                      refine w_get C 0 1 847 dX11_isValid_119 rfl rfl inX11 (by decide) (by decide +kernel) rfl ?_
                      refine w_iload_n C 3 dX11_isValid_122 rfl ?_
                      refine w_iconst C dX11_isValid_123 ?_
                      refine w_iadd C dX11_isValid_124 ?_
                      refine w_iload C 7 dX11_isValid_125 rfl ?_
                      refine w_iadd C dX11_isValid_127 ?_
                      refine w_iald C 1 dX11_isValid_128 rfl (by omega) ?_
                      have b_17 := d.2 (((ep d i p) + 2) + u)
                      refine w_iast (ws2 := [(h, .inr (9, [.ref a, .ref b, .ref tk, .ref re, .ref qu, .int (iI hd), .int (iI tl), .ref nm, .int (iI (im_at d (ep d i p + 1)))])), (b, .inl (gI G, 4096, .inl (arI d))), (nm, .inl (gI G, 14, .inl (arI (up nb2 u (d.1 (((ep d i p) + 2) + u))))))]) C 2 dX11_isValid_129 rfl (by omega) (by omega) rfl ?_
                      refine w_iload C 5 dX11_isValid_130 rfl ?_
                      refine w_if_eq C 161 dX11_isValid_132 rfl (by omega) (fun c_18 => ?_) (fun c_18 => ?_)
                      · refine w_iconst C dX11_isValid_161 ?_
                        refine w_istore (lv2 := [(0, .ref h), (1, .int (iI i)), (2, .int (iI p)), (3, .int (iI (ep d i p))), (5, .int (iI (im_at d (ep d i p + 1)))), (6, .int (iI 0)), (7, .int (iI t)), (8, .int (iI u))]) C dX11_isValid_162 (by decide) rfl ?_
                        refine w_iload C 6 dX11_isValid_164 rfl ?_
                        refine w_if_eq C 185 dX11_isValid_166 rfl (by omega) (fun c_19 => ?_) (fun c_19 => ?_)
                        · refine w_iconst C dX11_isValid_185 ?_
                          refine w_istore (lv2 := [(0, .ref h), (1, .int (iI i)), (2, .int (iI p)), (3, .int (iI (ep d i p))), (5, .int (iI (im_at d (ep d i p + 1)))), (6, .int (iI 0)), (7, .int (iI 0)), (8, .int (iI u))]) C dX11_isValid_186 (by decide) rfl ?_
                          refine w_iinc (lv2 := [(0, .ref h), (1, .int (iI i)), (2, .int (iI p)), (3, .int (iI (ep d i p))), (5, .int (iI (im_at d (ep d i p + 1)))), (6, .int (iI 0)), (7, .int (iI 0)), (8, .int (iI (u + 1)))]) C 7 dX11_isValid_188 rfl (by decide) rfl ?_
                          refine w_goto C 105 dX11_isValid_191 rfl ?_
                          exact ih_105 _ (by omega) (u + 1) (up nb2 u (d.1 (((ep d i p) + 2) + u))) 0 0 (by omega) (fun j a b => by rw [up_at]; by_cases e : j = u; (rw [if_pos e, e, Int.emod_eq_of_lt (d.2 _).1 (d.2 _).2]); (rw [if_neg e]; exact h2 j a (by omega))) (al_s h3 h1.1 (by omega)) (al_s2 h4 h1.1 (by omega)) rfl
                        · refine w_aload_n C 0 dX11_isValid_169 rfl ?_
                          refine w_get C 0 7 853 dX11_isValid_170 rfl rfl inX11 (by decide) (by decide +kernel) rfl ?_
                          refine w_iload C 7 dX11_isValid_173 rfl ?_
                          refine w_iald C 2 dX11_isValid_175 rfl (by omega) ?_
                          have b_20 := (up nb2 u (d.1 (((ep d i p) + 2) + u))).2 u
                          refine w_st (st2 := [.int (iI (d.1 (ep d i p + 2 + u)))]) (by rw [up_at, if_pos rfl, Int.emod_eq_of_lt (d.2 _).1 (d.2 _).2]) ?_
                          refine w_bipush C dX11_isValid_176 (by decide) ?_
                          refine w_icmp_ne C 185 dX11_isValid_178 rfl (by omega) (fun c_21 => ?_) (fun c_21 => ?_)
                          · refine w_iconst C dX11_isValid_185 ?_
                            refine w_istore (lv2 := [(0, .ref h), (1, .int (iI i)), (2, .int (iI p)), (3, .int (iI (ep d i p))), (5, .int (iI (im_at d (ep d i p + 1)))), (6, .int (iI 0)), (7, .int (iI 0)), (8, .int (iI u))]) C dX11_isValid_186 (by decide) rfl ?_
                            refine w_iinc (lv2 := [(0, .ref h), (1, .int (iI i)), (2, .int (iI p)), (3, .int (iI (ep d i p))), (5, .int (iI (im_at d (ep d i p + 1)))), (6, .int (iI 0)), (7, .int (iI 0)), (8, .int (iI (u + 1)))]) C 7 dX11_isValid_188 rfl (by decide) rfl ?_
                            refine w_goto C 105 dX11_isValid_191 rfl ?_
                            exact ih_105 _ (by omega) (u + 1) (up nb2 u (d.1 (((ep d i p) + 2) + u))) 0 0 (by omega) (fun j a b => by rw [up_at]; by_cases e : j = u; (rw [if_pos e, e, Int.emod_eq_of_lt (d.2 _).1 (d.2 _).2]); (rw [if_neg e]; exact h2 j a (by omega))) (al_s h3 h1.1 (by omega)) (al_s2 h4 h1.1 (by omega)) rfl
                          · refine w_iconst C dX11_isValid_181 ?_
                            refine w_goto C 186 dX11_isValid_182 rfl ?_
                            refine w_istore (lv2 := [(0, .ref h), (1, .int (iI i)), (2, .int (iI p)), (3, .int (iI (ep d i p))), (5, .int (iI (im_at d (ep d i p + 1)))), (6, .int (iI 0)), (7, .int (iI 1)), (8, .int (iI u))]) C dX11_isValid_186 (by decide) rfl ?_
                            refine w_iinc (lv2 := [(0, .ref h), (1, .int (iI i)), (2, .int (iI p)), (3, .int (iI (ep d i p))), (5, .int (iI (im_at d (ep d i p + 1)))), (6, .int (iI 0)), (7, .int (iI 1)), (8, .int (iI (u + 1)))]) C 7 dX11_isValid_188 rfl (by decide) rfl ?_
                            refine w_goto C 105 dX11_isValid_191 rfl ?_
                            exact ih_105 _ (by omega) (u + 1) (up nb2 u (d.1 (((ep d i p) + 2) + u))) 0 1 (by omega) (fun j a b => by rw [up_at]; by_cases e : j = u; (rw [if_pos e, e, Int.emod_eq_of_lt (d.2 _).1 (d.2 _).2]); (rw [if_neg e]; exact h2 j a (by omega))) (al_s h3 h1.1 (by omega)) (al_s2 h4 h1.1 (by omega)) rfl
                      · refine w_aload_n C 0 dX11_isValid_135 rfl ?_
                        refine w_get C 0 7 853 dX11_isValid_136 rfl rfl inX11 (by decide) (by decide +kernel) rfl ?_
                        refine w_iload C 7 dX11_isValid_139 rfl ?_
                        refine w_iald C 2 dX11_isValid_141 rfl (by omega) ?_
                        have b_22 := (up nb2 u (d.1 (((ep d i p) + 2) + u))).2 u
                        refine w_st (st2 := [.int (iI (d.1 (ep d i p + 2 + u)))]) (by rw [up_at, if_pos rfl, Int.emod_eq_of_lt (d.2 _).1 (d.2 _).2]) ?_
                        refine w_if_eq C 161 dX11_isValid_142 rfl (by omega) (fun c_23 => ?_) (fun c_23 => ?_)
                        · refine w_iconst C dX11_isValid_161 ?_
                          refine w_istore (lv2 := [(0, .ref h), (1, .int (iI i)), (2, .int (iI p)), (3, .int (iI (ep d i p))), (5, .int (iI (im_at d (ep d i p + 1)))), (6, .int (iI 0)), (7, .int (iI t)), (8, .int (iI u))]) C dX11_isValid_162 (by decide) rfl ?_
                          refine w_iload C 6 dX11_isValid_164 rfl ?_
                          refine w_if_eq C 185 dX11_isValid_166 rfl (by omega) (fun c_24 => ?_) (fun c_24 => ?_)
                          · refine w_iconst C dX11_isValid_185 ?_
                            refine w_istore (lv2 := [(0, .ref h), (1, .int (iI i)), (2, .int (iI p)), (3, .int (iI (ep d i p))), (5, .int (iI (im_at d (ep d i p + 1)))), (6, .int (iI 0)), (7, .int (iI 0)), (8, .int (iI u))]) C dX11_isValid_186 (by decide) rfl ?_
                            refine w_iinc (lv2 := [(0, .ref h), (1, .int (iI i)), (2, .int (iI p)), (3, .int (iI (ep d i p))), (5, .int (iI (im_at d (ep d i p + 1)))), (6, .int (iI 0)), (7, .int (iI 0)), (8, .int (iI (u + 1)))]) C 7 dX11_isValid_188 rfl (by decide) rfl ?_
                            refine w_goto C 105 dX11_isValid_191 rfl ?_
                            exact ih_105 _ (by omega) (u + 1) (up nb2 u (d.1 (((ep d i p) + 2) + u))) 0 0 (by omega) (fun j a b => by rw [up_at]; by_cases e : j = u; (rw [if_pos e, e, Int.emod_eq_of_lt (d.2 _).1 (d.2 _).2]); (rw [if_neg e]; exact h2 j a (by omega))) (al_s h3 h1.1 (by omega)) (al_s2 h4 h1.1 (by omega)) rfl
                          · refine w_aload_n C 0 dX11_isValid_169 rfl ?_
                            refine w_get C 0 7 853 dX11_isValid_170 rfl rfl inX11 (by decide) (by decide +kernel) rfl ?_
                            refine w_iload C 7 dX11_isValid_173 rfl ?_
                            refine w_iald C 2 dX11_isValid_175 rfl (by omega) ?_
                            have b_25 := (up nb2 u (d.1 (((ep d i p) + 2) + u))).2 u
                            refine w_st (st2 := [.int (iI (d.1 (ep d i p + 2 + u)))]) (by rw [up_at, if_pos rfl, Int.emod_eq_of_lt (d.2 _).1 (d.2 _).2]) ?_
                            refine w_bipush C dX11_isValid_176 (by decide) ?_
                            refine w_icmp_ne C 185 dX11_isValid_178 rfl (by omega) (fun c_26 => ?_) (fun c_26 => ?_)
                            · refine w_iconst C dX11_isValid_185 ?_
                              refine w_istore (lv2 := [(0, .ref h), (1, .int (iI i)), (2, .int (iI p)), (3, .int (iI (ep d i p))), (5, .int (iI (im_at d (ep d i p + 1)))), (6, .int (iI 0)), (7, .int (iI 0)), (8, .int (iI u))]) C dX11_isValid_186 (by decide) rfl ?_
                              refine w_iinc (lv2 := [(0, .ref h), (1, .int (iI i)), (2, .int (iI p)), (3, .int (iI (ep d i p))), (5, .int (iI (im_at d (ep d i p + 1)))), (6, .int (iI 0)), (7, .int (iI 0)), (8, .int (iI (u + 1)))]) C 7 dX11_isValid_188 rfl (by decide) rfl ?_
                              refine w_goto C 105 dX11_isValid_191 rfl ?_
                              exact ih_105 _ (by omega) (u + 1) (up nb2 u (d.1 (((ep d i p) + 2) + u))) 0 0 (by omega) (fun j a b => by rw [up_at]; by_cases e : j = u; (rw [if_pos e, e, Int.emod_eq_of_lt (d.2 _).1 (d.2 _).2]); (rw [if_neg e]; exact h2 j a (by omega))) (al_s h3 h1.1 (by omega)) (al_s2 h4 h1.1 (by omega)) rfl
                            · refine w_iconst C dX11_isValid_181 ?_
                              refine w_goto C 186 dX11_isValid_182 rfl ?_
                              refine w_istore (lv2 := [(0, .ref h), (1, .int (iI i)), (2, .int (iI p)), (3, .int (iI (ep d i p))), (5, .int (iI (im_at d (ep d i p + 1)))), (6, .int (iI 0)), (7, .int (iI 1)), (8, .int (iI u))]) C dX11_isValid_186 (by decide) rfl ?_
                              refine w_iinc (lv2 := [(0, .ref h), (1, .int (iI i)), (2, .int (iI p)), (3, .int (iI (ep d i p))), (5, .int (iI (im_at d (ep d i p + 1)))), (6, .int (iI 0)), (7, .int (iI 1)), (8, .int (iI (u + 1)))]) C 7 dX11_isValid_188 rfl (by decide) rfl ?_
                              refine w_goto C 105 dX11_isValid_191 rfl ?_
                              exact ih_105 _ (by omega) (u + 1) (up nb2 u (d.1 (((ep d i p) + 2) + u))) 0 1 (by omega) (fun j a b => by rw [up_at]; by_cases e : j = u; (rw [if_pos e, e, Int.emod_eq_of_lt (d.2 _).1 (d.2 _).2]); (rw [if_neg e]; exact h2 j a (by omega))) (al_s h3 h1.1 (by omega)) (al_s2 h4 h1.1 (by omega)) rfl
                        · refine w_aload_n C 0 dX11_isValid_145 rfl ?_
                          refine w_get C 0 7 853 dX11_isValid_146 rfl rfl inX11 (by decide) (by decide +kernel) rfl ?_
                          refine w_iload C 7 dX11_isValid_149 rfl ?_
                          refine w_iald C 2 dX11_isValid_151 rfl (by omega) ?_
                          have b_27 := (up nb2 u (d.1 (((ep d i p) + 2) + u))).2 u
                          refine w_st (st2 := [.int (iI (d.1 (ep d i p + 2 + u)))]) (by rw [up_at, if_pos rfl, Int.emod_eq_of_lt (d.2 _).1 (d.2 _).2]) ?_
                          refine w_bipush C dX11_isValid_152 (by decide) ?_
                          refine w_icmp_eq C 161 dX11_isValid_154 rfl (by omega) (fun c_28 => ?_) (fun c_28 => ?_)
                          · refine w_iconst C dX11_isValid_161 ?_
                            refine w_istore (lv2 := [(0, .ref h), (1, .int (iI i)), (2, .int (iI p)), (3, .int (iI (ep d i p))), (5, .int (iI (im_at d (ep d i p + 1)))), (6, .int (iI 0)), (7, .int (iI t)), (8, .int (iI u))]) C dX11_isValid_162 (by decide) rfl ?_
                            refine w_iload C 6 dX11_isValid_164 rfl ?_
                            refine w_if_eq C 185 dX11_isValid_166 rfl (by omega) (fun c_29 => ?_) (fun c_29 => ?_)
                            · refine w_iconst C dX11_isValid_185 ?_
                              refine w_istore (lv2 := [(0, .ref h), (1, .int (iI i)), (2, .int (iI p)), (3, .int (iI (ep d i p))), (5, .int (iI (im_at d (ep d i p + 1)))), (6, .int (iI 0)), (7, .int (iI 0)), (8, .int (iI u))]) C dX11_isValid_186 (by decide) rfl ?_
                              refine w_iinc (lv2 := [(0, .ref h), (1, .int (iI i)), (2, .int (iI p)), (3, .int (iI (ep d i p))), (5, .int (iI (im_at d (ep d i p + 1)))), (6, .int (iI 0)), (7, .int (iI 0)), (8, .int (iI (u + 1)))]) C 7 dX11_isValid_188 rfl (by decide) rfl ?_
                              refine w_goto C 105 dX11_isValid_191 rfl ?_
                              exact ih_105 _ (by omega) (u + 1) (up nb2 u (d.1 (((ep d i p) + 2) + u))) 0 0 (by omega) (fun j a b => by rw [up_at]; by_cases e : j = u; (rw [if_pos e, e, Int.emod_eq_of_lt (d.2 _).1 (d.2 _).2]); (rw [if_neg e]; exact h2 j a (by omega))) (al_s h3 h1.1 (by omega)) (al_s2 h4 h1.1 (by omega)) rfl
                            · refine w_aload_n C 0 dX11_isValid_169 rfl ?_
                              refine w_get C 0 7 853 dX11_isValid_170 rfl rfl inX11 (by decide) (by decide +kernel) rfl ?_
                              refine w_iload C 7 dX11_isValid_173 rfl ?_
                              refine w_iald C 2 dX11_isValid_175 rfl (by omega) ?_
                              have b_30 := (up nb2 u (d.1 (((ep d i p) + 2) + u))).2 u
                              refine w_st (st2 := [.int (iI (d.1 (ep d i p + 2 + u)))]) (by rw [up_at, if_pos rfl, Int.emod_eq_of_lt (d.2 _).1 (d.2 _).2]) ?_
                              refine w_bipush C dX11_isValid_176 (by decide) ?_
                              refine w_icmp_ne C 185 dX11_isValid_178 rfl (by omega) (fun c_31 => ?_) (fun c_31 => ?_)
                              · refine w_iconst C dX11_isValid_185 ?_
                                refine w_istore (lv2 := [(0, .ref h), (1, .int (iI i)), (2, .int (iI p)), (3, .int (iI (ep d i p))), (5, .int (iI (im_at d (ep d i p + 1)))), (6, .int (iI 0)), (7, .int (iI 0)), (8, .int (iI u))]) C dX11_isValid_186 (by decide) rfl ?_
                                refine w_iinc (lv2 := [(0, .ref h), (1, .int (iI i)), (2, .int (iI p)), (3, .int (iI (ep d i p))), (5, .int (iI (im_at d (ep d i p + 1)))), (6, .int (iI 0)), (7, .int (iI 0)), (8, .int (iI (u + 1)))]) C 7 dX11_isValid_188 rfl (by decide) rfl ?_
                                refine w_goto C 105 dX11_isValid_191 rfl ?_
                                exact ih_105 _ (by omega) (u + 1) (up nb2 u (d.1 (((ep d i p) + 2) + u))) 0 0 (by omega) (fun j a b => by rw [up_at]; by_cases e : j = u; (rw [if_pos e, e, Int.emod_eq_of_lt (d.2 _).1 (d.2 _).2]); (rw [if_neg e]; exact h2 j a (by omega))) (al_s h3 h1.1 (by omega)) (al_s2 h4 h1.1 (by omega)) rfl
                              · refine w_iconst C dX11_isValid_181 ?_
                                refine w_goto C 186 dX11_isValid_182 rfl ?_
                                refine w_istore (lv2 := [(0, .ref h), (1, .int (iI i)), (2, .int (iI p)), (3, .int (iI (ep d i p))), (5, .int (iI (im_at d (ep d i p + 1)))), (6, .int (iI 0)), (7, .int (iI 1)), (8, .int (iI u))]) C dX11_isValid_186 (by decide) rfl ?_
                                refine w_iinc (lv2 := [(0, .ref h), (1, .int (iI i)), (2, .int (iI p)), (3, .int (iI (ep d i p))), (5, .int (iI (im_at d (ep d i p + 1)))), (6, .int (iI 0)), (7, .int (iI 1)), (8, .int (iI (u + 1)))]) C 7 dX11_isValid_188 rfl (by decide) rfl ?_
                                refine w_goto C 105 dX11_isValid_191 rfl ?_
                                exact ih_105 _ (by omega) (u + 1) (up nb2 u (d.1 (((ep d i p) + 2) + u))) 0 1 (by omega) (fun j a b => by rw [up_at]; by_cases e : j = u; (rw [if_pos e, e, Int.emod_eq_of_lt (d.2 _).1 (d.2 _).2]); (rw [if_neg e]; exact h2 j a (by omega))) (al_s h3 h1.1 (by omega)) (al_s2 h4 h1.1 (by omega)) rfl
                          · refine w_iconst C dX11_isValid_157 ?_
                            refine w_goto C 162 dX11_isValid_158 rfl ?_
                            refine w_istore (lv2 := [(0, .ref h), (1, .int (iI i)), (2, .int (iI p)), (3, .int (iI (ep d i p))), (5, .int (iI (im_at d (ep d i p + 1)))), (6, .int (iI 1)), (7, .int (iI t)), (8, .int (iI u))]) C dX11_isValid_162 (by decide) rfl ?_
                            refine w_iload C 6 dX11_isValid_164 rfl ?_
                            refine w_if_eq C 185 dX11_isValid_166 rfl (by omega) (fun c_32 => ?_) (fun c_32 => ?_)
                            · refine w_iconst C dX11_isValid_185 ?_
                              refine w_istore (lv2 := [(0, .ref h), (1, .int (iI i)), (2, .int (iI p)), (3, .int (iI (ep d i p))), (5, .int (iI (im_at d (ep d i p + 1)))), (6, .int (iI 1)), (7, .int (iI 0)), (8, .int (iI u))]) C dX11_isValid_186 (by decide) rfl ?_
                              refine w_iinc (lv2 := [(0, .ref h), (1, .int (iI i)), (2, .int (iI p)), (3, .int (iI (ep d i p))), (5, .int (iI (im_at d (ep d i p + 1)))), (6, .int (iI 1)), (7, .int (iI 0)), (8, .int (iI (u + 1)))]) C 7 dX11_isValid_188 rfl (by decide) rfl ?_
                              refine w_goto C 105 dX11_isValid_191 rfl ?_
                              exact ih_105 _ (by omega) (u + 1) (up nb2 u (d.1 (((ep d i p) + 2) + u))) 1 0 (by omega) (fun j a b => by rw [up_at]; by_cases e : j = u; (rw [if_pos e, e, Int.emod_eq_of_lt (d.2 _).1 (d.2 _).2]); (rw [if_neg e]; exact h2 j a (by omega))) (al_s h3 h1.1 (by omega)) (al_s2 h4 h1.1 (by omega)) rfl
                            · refine w_aload_n C 0 dX11_isValid_169 rfl ?_
                              refine w_get C 0 7 853 dX11_isValid_170 rfl rfl inX11 (by decide) (by decide +kernel) rfl ?_
                              refine w_iload C 7 dX11_isValid_173 rfl ?_
                              refine w_iald C 2 dX11_isValid_175 rfl (by omega) ?_
                              have b_33 := (up nb2 u (d.1 (((ep d i p) + 2) + u))).2 u
                              refine w_st (st2 := [.int (iI (d.1 (ep d i p + 2 + u)))]) (by rw [up_at, if_pos rfl, Int.emod_eq_of_lt (d.2 _).1 (d.2 _).2]) ?_
                              refine w_bipush C dX11_isValid_176 (by decide) ?_
                              refine w_icmp_ne C 185 dX11_isValid_178 rfl (by omega) (fun c_34 => ?_) (fun c_34 => ?_)
                              · refine w_iconst C dX11_isValid_185 ?_
                                refine w_istore (lv2 := [(0, .ref h), (1, .int (iI i)), (2, .int (iI p)), (3, .int (iI (ep d i p))), (5, .int (iI (im_at d (ep d i p + 1)))), (6, .int (iI 1)), (7, .int (iI 0)), (8, .int (iI u))]) C dX11_isValid_186 (by decide) rfl ?_
                                refine w_iinc (lv2 := [(0, .ref h), (1, .int (iI i)), (2, .int (iI p)), (3, .int (iI (ep d i p))), (5, .int (iI (im_at d (ep d i p + 1)))), (6, .int (iI 1)), (7, .int (iI 0)), (8, .int (iI (u + 1)))]) C 7 dX11_isValid_188 rfl (by decide) rfl ?_
                                refine w_goto C 105 dX11_isValid_191 rfl ?_
                                exact ih_105 _ (by omega) (u + 1) (up nb2 u (d.1 (((ep d i p) + 2) + u))) 1 0 (by omega) (fun j a b => by rw [up_at]; by_cases e : j = u; (rw [if_pos e, e, Int.emod_eq_of_lt (d.2 _).1 (d.2 _).2]); (rw [if_neg e]; exact h2 j a (by omega))) (al_s h3 h1.1 (by omega)) (al_s2 h4 h1.1 (by omega)) rfl
                              · refine w_iconst C dX11_isValid_181 ?_
                                refine w_goto C 186 dX11_isValid_182 rfl ?_
                                refine w_istore (lv2 := [(0, .ref h), (1, .int (iI i)), (2, .int (iI p)), (3, .int (iI (ep d i p))), (5, .int (iI (im_at d (ep d i p + 1)))), (6, .int (iI 1)), (7, .int (iI 1)), (8, .int (iI u))]) C dX11_isValid_186 (by decide) rfl ?_
                                refine w_iinc (lv2 := [(0, .ref h), (1, .int (iI i)), (2, .int (iI p)), (3, .int (iI (ep d i p))), (5, .int (iI (im_at d (ep d i p + 1)))), (6, .int (iI 1)), (7, .int (iI 1)), (8, .int (iI (u + 1)))]) C 7 dX11_isValid_188 rfl (by decide) rfl ?_
                                refine w_goto C 105 dX11_isValid_191 rfl ?_
                                exact ih_105 _ (by omega) (u + 1) (up nb2 u (d.1 (((ep d i p) + 2) + u))) 1 1 (by omega) (fun j a b => by rw [up_at]; by_cases e : j = u; (rw [if_pos e, e, Int.emod_eq_of_lt (d.2 _).1 (d.2 _).2]); (rw [if_neg e]; exact h2 j a (by omega))) (al_s h3 h1.1 (by omega)) (al_s2 h4 h1.1 (by omega)) rfl
                exact L_105 _ 0 nb 1 0 (by omega) (fun j a b => by omega) ⟨fun _ j a b => by omega, fun _ => rfl⟩ ⟨fun _ => ⟨by omega, fun j a b => by omega⟩, fun w => by have w2 := w.1; omega⟩ rfl
              · refine w_iconst C dX11_isValid_95 ?_
                refine w_goto C 100 dX11_isValid_96 rfl ?_
                refine w_istore (lv2 := [(0, .ref h), (1, .int (iI i)), (2, .int (iI p)), (3, .int (iI (ep d i p))), (4, .int (iI (d.1 (ep d i p)))), (5, .int (iI (im_at d (ep d i p + 1)))), (6, .int (iI 1)), (7, .int (iI 1))]) C dX11_isValid_100 (by decide) rfl ?_
                refine w_iconst C dX11_isValid_102 ?_
                refine w_istore (lv2 := [(0, .ref h), (1, .int (iI i)), (2, .int (iI p)), (3, .int (iI (ep d i p))), (4, .int (iI (d.1 (ep d i p)))), (5, .int (iI (im_at d (ep d i p + 1)))), (6, .int (iI 1)), (7, .int (iI 1)), (8, .int (iI 0))]) C dX11_isValid_103 (by decide) rfl ?_
                refine w_lv (lv2 := [(0, .ref h), (1, .int (iI i)), (2, .int (iI p)), (3, .int (iI (ep d i p))), (5, .int (iI (im_at d (ep d i p + 1)))), (6, .int (iI 1)), (7, .int (iI 1)), (8, .int (iI 0))]) [0, 1, 2, 3, 5, 6, 7, 8] rfl ?_
                have L_105 : ∀ (nn_105 : Nat) (u : Int) (nb2 : Im) (g : Int) (t : Int), (0 ≤ u ∧ u ≤ im_at d (ep d i p + 1) ∧ (g = 0 ∨ g = 1) ∧ (t = 0 ∨ t = 1)) → (∀ j : Int, 0 ≤ j → j < u → nb2.1 j = d.1 (ep d i p + 2 + j)) → (g = 1 ↔ ∀ j : Int, 0 ≤ j → j < u → (d.1 (ep d i p + 2 + j) ≠ 0 ∧ d.1 (ep d i p + 2 + j) ≠ 47)) → (t = 1 ↔ im_at d (ep d i p + 1) < 3 ∧ ∀ j : Int, 0 ≤ j → j < u → d.1 (ep d i p + 2 + j) = 46) → (im_at d (ep d i p + 1) - u).toNat = nn_105 → Wd G k 9 0 0 [(h, .inr (9, [.ref a, .ref b, .ref tk, .ref re, .ref qu, .int (iI hd), .int (iI tl), .ref nm, .int (iI (im_at d (ep d i p + 1)))])), (b, .inl (gI G, 4096, .inl (arI d))), (nm, .inl (gI G, 14, .inl (arI nb2)))] 105 [(0, .ref h), (1, .int (iI i)), (2, .int (iI p)), (3, .int (iI (ep d i p))), (5, .int (iI (im_at d (ep d i p + 1)))), (6, .int (iI g)), (7, .int (iI t)), (8, .int (iI u))] [] := by
                  intro nn_105
                  induction nn_105 using Nat.strongRecOn with
                  | ind nn_105 ih_105 =>
                    intro u nb2 g t h1 h2 h3 h4 hm_105
                    refine w_iload C 7 dX11_isValid_105 rfl ?_
                    refine w_iload C 4 dX11_isValid_107 rfl ?_
                    refine w_icmp_ge C 194 dX11_isValid_109 rfl (by omega) (fun c_35 => ?_) (fun c_35 => ?_)
                    · refine w_iload C 5 dX11_isValid_194 rfl ?_
                      refine w_if_eq C 218 dX11_isValid_196 rfl (by omega) (fun c_36 => ?_) (fun c_36 => ?_)
                      · refine w_iconst C dX11_isValid_218 ?_
                        exact w_reti hret dX11_isValid_219 rfl rfl rfl rfl ⟨(nb2, im_at d (ep d i p + 1)), (by omega), congrArg (fun z => some (Value.int (iI z))) (by rw [rv_e (nb := nb2) (g := g) (t := t) (fun w => by have w2 := (vaX_iff (by omega)).mp w; omega) (by omega) hbl (fun j a b => h2 j a (by omega)) (by rw [h3, show u = im_at d (ep d i p + 1) by omega]) (by rw [h4, show u = im_at d (ep d i p + 1) by omega])]; first | (rw [decide_eq_true (by omega)]; rfl) | (rw [decide_eq_false (by omega)]; rfl)), rfl⟩
                      · refine w_iload C 6 dX11_isValid_199 rfl ?_
                        refine w_if_ne C 218 dX11_isValid_201 rfl (by omega) (fun c_37 => ?_) (fun c_37 => ?_)
                        · refine w_iconst C dX11_isValid_218 ?_
                          exact w_reti hret dX11_isValid_219 rfl rfl rfl rfl ⟨(nb2, im_at d (ep d i p + 1)), (by omega), congrArg (fun z => some (Value.int (iI z))) (by rw [rv_e (nb := nb2) (g := g) (t := t) (fun w => by have w2 := (vaX_iff (by omega)).mp w; omega) (by omega) hbl (fun j a b => h2 j a (by omega)) (by rw [h3, show u = im_at d (ep d i p + 1) by omega]) (by rw [h4, show u = im_at d (ep d i p + 1) by omega])]; first | (rw [decide_eq_true (by omega)]; rfl) | (rw [decide_eq_false (by omega)]; rfl)), rfl⟩
                        · refine w_aload_n C 0 dX11_isValid_204 rfl ?_
                          refine w_iload_n C 1 dX11_isValid_205 rfl ?_
                          refine w_iload_n C 2 dX11_isValid_206 rfl ?_
                          refine w_callV (As := [.int (iI i), .int (iI p)]) (rest := []) (w2 := [(h, .inr (9, [.ref a, .ref b, .ref tk, .ref re, .ref qu, .int (iI hd), .int (iI tl), .ref nm, .int (iI (im_at d (ep d i p + 1)))])), (b, .inl (gI G, 4096, .inl (arI d))), (nm, .inl (gI G, 14, .inl (arI nb2)))]) (st2 := [.int (iI (rfs d i nb2 (im_at d (ep d i p + 1)) (p - 2).toNat 2))]) C (ct_X11_find G (kl k) h a b tk re qu nm hd tl (im_at d (ep d i p + 1)) d nb2 i p (by omega) (by omega) (by omega) (fun q a b => he q a (by omega))) gX11_79 dX11_isValid_207 0 rfl rfl rfl rfl rfl (Nat.le_of_ble_eq_true rfl) (by decide) [0, 1, 2] rfl (by decide) [h, b, nm] rfl rfl rfl rfl ?_
                          have f_38 := rfs_rg d i nb2 (im_at d (ep d i p + 1)) (p - 2).toNat 2
                          refine w_iconst C dX11_isValid_210 ?_
                          refine w_icmp_ne C 218 dX11_isValid_211 rfl (by omega) (fun c_39 => ?_) (fun c_39 => ?_)
                          · refine w_iconst C dX11_isValid_218 ?_
                            exact w_reti hret dX11_isValid_219 rfl rfl rfl rfl ⟨(nb2, im_at d (ep d i p + 1)), (by omega), congrArg (fun z => some (Value.int (iI z))) (by rw [rv_e (nb := nb2) (g := g) (t := t) (fun w => by have w2 := (vaX_iff (by omega)).mp w; omega) (by omega) hbl (fun j a b => h2 j a (by omega)) (by rw [h3, show u = im_at d (ep d i p + 1) by omega]) (by rw [h4, show u = im_at d (ep d i p + 1) by omega])]; first | (rw [decide_eq_true (by omega)]; rfl) | (rw [decide_eq_false (by omega)]; rfl)), rfl⟩
                          · refine w_iconst C dX11_isValid_214 ?_
                            refine w_goto C 219 dX11_isValid_215 rfl ?_
                            exact w_reti hret dX11_isValid_219 rfl rfl rfl rfl ⟨(nb2, im_at d (ep d i p + 1)), (by omega), congrArg (fun z => some (Value.int (iI z))) (by rw [rv_e (nb := nb2) (g := g) (t := t) (fun w => by have w2 := (vaX_iff (by omega)).mp w; omega) (by omega) hbl (fun j a b => h2 j a (by omega)) (by rw [h3, show u = im_at d (ep d i p + 1) by omega]) (by rw [h4, show u = im_at d (ep d i p + 1) by omega])]; first | (rw [decide_eq_true (by omega)]; rfl) | (rw [decide_eq_false (by omega)]; rfl)), rfl⟩
                    · refine w_aload_n C 0 dX11_isValid_112 rfl ?_
                      refine w_get C 0 7 853 dX11_isValid_113 rfl rfl inX11 (by decide) (by decide +kernel) rfl ?_
                      refine w_iload C 7 dX11_isValid_116 rfl ?_
                      refine w_aload_n C 0 dX11_isValid_118 rfl ?_
                      refine w_get C 0 1 847 dX11_isValid_119 rfl rfl inX11 (by decide) (by decide +kernel) rfl ?_
                      refine w_iload_n C 3 dX11_isValid_122 rfl ?_
                      refine w_iconst C dX11_isValid_123 ?_
                      refine w_iadd C dX11_isValid_124 ?_
                      refine w_iload C 7 dX11_isValid_125 rfl ?_
                      refine w_iadd C dX11_isValid_127 ?_
                      refine w_iald C 1 dX11_isValid_128 rfl (by omega) ?_
                      have b_40 := d.2 (((ep d i p) + 2) + u)
                      refine w_iast (ws2 := [(h, .inr (9, [.ref a, .ref b, .ref tk, .ref re, .ref qu, .int (iI hd), .int (iI tl), .ref nm, .int (iI (im_at d (ep d i p + 1)))])), (b, .inl (gI G, 4096, .inl (arI d))), (nm, .inl (gI G, 14, .inl (arI (up nb2 u (d.1 (((ep d i p) + 2) + u))))))]) C 2 dX11_isValid_129 rfl (by omega) (by omega) rfl ?_
                      refine w_iload C 5 dX11_isValid_130 rfl ?_
                      refine w_if_eq C 161 dX11_isValid_132 rfl (by omega) (fun c_41 => ?_) (fun c_41 => ?_)
                      · refine w_iconst C dX11_isValid_161 ?_
                        refine w_istore (lv2 := [(0, .ref h), (1, .int (iI i)), (2, .int (iI p)), (3, .int (iI (ep d i p))), (5, .int (iI (im_at d (ep d i p + 1)))), (6, .int (iI 0)), (7, .int (iI t)), (8, .int (iI u))]) C dX11_isValid_162 (by decide) rfl ?_
                        refine w_iload C 6 dX11_isValid_164 rfl ?_
                        refine w_if_eq C 185 dX11_isValid_166 rfl (by omega) (fun c_42 => ?_) (fun c_42 => ?_)
                        · refine w_iconst C dX11_isValid_185 ?_
                          refine w_istore (lv2 := [(0, .ref h), (1, .int (iI i)), (2, .int (iI p)), (3, .int (iI (ep d i p))), (5, .int (iI (im_at d (ep d i p + 1)))), (6, .int (iI 0)), (7, .int (iI 0)), (8, .int (iI u))]) C dX11_isValid_186 (by decide) rfl ?_
                          refine w_iinc (lv2 := [(0, .ref h), (1, .int (iI i)), (2, .int (iI p)), (3, .int (iI (ep d i p))), (5, .int (iI (im_at d (ep d i p + 1)))), (6, .int (iI 0)), (7, .int (iI 0)), (8, .int (iI (u + 1)))]) C 7 dX11_isValid_188 rfl (by decide) rfl ?_
                          refine w_goto C 105 dX11_isValid_191 rfl ?_
                          exact ih_105 _ (by omega) (u + 1) (up nb2 u (d.1 (((ep d i p) + 2) + u))) 0 0 (by omega) (fun j a b => by rw [up_at]; by_cases e : j = u; (rw [if_pos e, e, Int.emod_eq_of_lt (d.2 _).1 (d.2 _).2]); (rw [if_neg e]; exact h2 j a (by omega))) (al_s h3 h1.1 (by omega)) (al_s2 h4 h1.1 (by omega)) rfl
                        · refine w_aload_n C 0 dX11_isValid_169 rfl ?_
                          refine w_get C 0 7 853 dX11_isValid_170 rfl rfl inX11 (by decide) (by decide +kernel) rfl ?_
                          refine w_iload C 7 dX11_isValid_173 rfl ?_
                          refine w_iald C 2 dX11_isValid_175 rfl (by omega) ?_
                          have b_43 := (up nb2 u (d.1 (((ep d i p) + 2) + u))).2 u
                          refine w_st (st2 := [.int (iI (d.1 (ep d i p + 2 + u)))]) (by rw [up_at, if_pos rfl, Int.emod_eq_of_lt (d.2 _).1 (d.2 _).2]) ?_
                          refine w_bipush C dX11_isValid_176 (by decide) ?_
                          refine w_icmp_ne C 185 dX11_isValid_178 rfl (by omega) (fun c_44 => ?_) (fun c_44 => ?_)
                          · refine w_iconst C dX11_isValid_185 ?_
                            refine w_istore (lv2 := [(0, .ref h), (1, .int (iI i)), (2, .int (iI p)), (3, .int (iI (ep d i p))), (5, .int (iI (im_at d (ep d i p + 1)))), (6, .int (iI 0)), (7, .int (iI 0)), (8, .int (iI u))]) C dX11_isValid_186 (by decide) rfl ?_
                            refine w_iinc (lv2 := [(0, .ref h), (1, .int (iI i)), (2, .int (iI p)), (3, .int (iI (ep d i p))), (5, .int (iI (im_at d (ep d i p + 1)))), (6, .int (iI 0)), (7, .int (iI 0)), (8, .int (iI (u + 1)))]) C 7 dX11_isValid_188 rfl (by decide) rfl ?_
                            refine w_goto C 105 dX11_isValid_191 rfl ?_
                            exact ih_105 _ (by omega) (u + 1) (up nb2 u (d.1 (((ep d i p) + 2) + u))) 0 0 (by omega) (fun j a b => by rw [up_at]; by_cases e : j = u; (rw [if_pos e, e, Int.emod_eq_of_lt (d.2 _).1 (d.2 _).2]); (rw [if_neg e]; exact h2 j a (by omega))) (al_s h3 h1.1 (by omega)) (al_s2 h4 h1.1 (by omega)) rfl
                          · refine w_iconst C dX11_isValid_181 ?_
                            refine w_goto C 186 dX11_isValid_182 rfl ?_
                            refine w_istore (lv2 := [(0, .ref h), (1, .int (iI i)), (2, .int (iI p)), (3, .int (iI (ep d i p))), (5, .int (iI (im_at d (ep d i p + 1)))), (6, .int (iI 0)), (7, .int (iI 1)), (8, .int (iI u))]) C dX11_isValid_186 (by decide) rfl ?_
                            refine w_iinc (lv2 := [(0, .ref h), (1, .int (iI i)), (2, .int (iI p)), (3, .int (iI (ep d i p))), (5, .int (iI (im_at d (ep d i p + 1)))), (6, .int (iI 0)), (7, .int (iI 1)), (8, .int (iI (u + 1)))]) C 7 dX11_isValid_188 rfl (by decide) rfl ?_
                            refine w_goto C 105 dX11_isValid_191 rfl ?_
                            exact ih_105 _ (by omega) (u + 1) (up nb2 u (d.1 (((ep d i p) + 2) + u))) 0 1 (by omega) (fun j a b => by rw [up_at]; by_cases e : j = u; (rw [if_pos e, e, Int.emod_eq_of_lt (d.2 _).1 (d.2 _).2]); (rw [if_neg e]; exact h2 j a (by omega))) (al_s h3 h1.1 (by omega)) (al_s2 h4 h1.1 (by omega)) rfl
                      · refine w_aload_n C 0 dX11_isValid_135 rfl ?_
                        refine w_get C 0 7 853 dX11_isValid_136 rfl rfl inX11 (by decide) (by decide +kernel) rfl ?_
                        refine w_iload C 7 dX11_isValid_139 rfl ?_
                        refine w_iald C 2 dX11_isValid_141 rfl (by omega) ?_
                        have b_45 := (up nb2 u (d.1 (((ep d i p) + 2) + u))).2 u
                        refine w_st (st2 := [.int (iI (d.1 (ep d i p + 2 + u)))]) (by rw [up_at, if_pos rfl, Int.emod_eq_of_lt (d.2 _).1 (d.2 _).2]) ?_
                        refine w_if_eq C 161 dX11_isValid_142 rfl (by omega) (fun c_46 => ?_) (fun c_46 => ?_)
                        · refine w_iconst C dX11_isValid_161 ?_
                          refine w_istore (lv2 := [(0, .ref h), (1, .int (iI i)), (2, .int (iI p)), (3, .int (iI (ep d i p))), (5, .int (iI (im_at d (ep d i p + 1)))), (6, .int (iI 0)), (7, .int (iI t)), (8, .int (iI u))]) C dX11_isValid_162 (by decide) rfl ?_
                          refine w_iload C 6 dX11_isValid_164 rfl ?_
                          refine w_if_eq C 185 dX11_isValid_166 rfl (by omega) (fun c_47 => ?_) (fun c_47 => ?_)
                          · refine w_iconst C dX11_isValid_185 ?_
                            refine w_istore (lv2 := [(0, .ref h), (1, .int (iI i)), (2, .int (iI p)), (3, .int (iI (ep d i p))), (5, .int (iI (im_at d (ep d i p + 1)))), (6, .int (iI 0)), (7, .int (iI 0)), (8, .int (iI u))]) C dX11_isValid_186 (by decide) rfl ?_
                            refine w_iinc (lv2 := [(0, .ref h), (1, .int (iI i)), (2, .int (iI p)), (3, .int (iI (ep d i p))), (5, .int (iI (im_at d (ep d i p + 1)))), (6, .int (iI 0)), (7, .int (iI 0)), (8, .int (iI (u + 1)))]) C 7 dX11_isValid_188 rfl (by decide) rfl ?_
                            refine w_goto C 105 dX11_isValid_191 rfl ?_
                            exact ih_105 _ (by omega) (u + 1) (up nb2 u (d.1 (((ep d i p) + 2) + u))) 0 0 (by omega) (fun j a b => by rw [up_at]; by_cases e : j = u; (rw [if_pos e, e, Int.emod_eq_of_lt (d.2 _).1 (d.2 _).2]); (rw [if_neg e]; exact h2 j a (by omega))) (al_s h3 h1.1 (by omega)) (al_s2 h4 h1.1 (by omega)) rfl
                          · refine w_aload_n C 0 dX11_isValid_169 rfl ?_
                            refine w_get C 0 7 853 dX11_isValid_170 rfl rfl inX11 (by decide) (by decide +kernel) rfl ?_
                            refine w_iload C 7 dX11_isValid_173 rfl ?_
                            refine w_iald C 2 dX11_isValid_175 rfl (by omega) ?_
                            have b_48 := (up nb2 u (d.1 (((ep d i p) + 2) + u))).2 u
                            refine w_st (st2 := [.int (iI (d.1 (ep d i p + 2 + u)))]) (by rw [up_at, if_pos rfl, Int.emod_eq_of_lt (d.2 _).1 (d.2 _).2]) ?_
                            refine w_bipush C dX11_isValid_176 (by decide) ?_
                            refine w_icmp_ne C 185 dX11_isValid_178 rfl (by omega) (fun c_49 => ?_) (fun c_49 => ?_)
                            · refine w_iconst C dX11_isValid_185 ?_
                              refine w_istore (lv2 := [(0, .ref h), (1, .int (iI i)), (2, .int (iI p)), (3, .int (iI (ep d i p))), (5, .int (iI (im_at d (ep d i p + 1)))), (6, .int (iI 0)), (7, .int (iI 0)), (8, .int (iI u))]) C dX11_isValid_186 (by decide) rfl ?_
                              refine w_iinc (lv2 := [(0, .ref h), (1, .int (iI i)), (2, .int (iI p)), (3, .int (iI (ep d i p))), (5, .int (iI (im_at d (ep d i p + 1)))), (6, .int (iI 0)), (7, .int (iI 0)), (8, .int (iI (u + 1)))]) C 7 dX11_isValid_188 rfl (by decide) rfl ?_
                              refine w_goto C 105 dX11_isValid_191 rfl ?_
                              exact ih_105 _ (by omega) (u + 1) (up nb2 u (d.1 (((ep d i p) + 2) + u))) 0 0 (by omega) (fun j a b => by rw [up_at]; by_cases e : j = u; (rw [if_pos e, e, Int.emod_eq_of_lt (d.2 _).1 (d.2 _).2]); (rw [if_neg e]; exact h2 j a (by omega))) (al_s h3 h1.1 (by omega)) (al_s2 h4 h1.1 (by omega)) rfl
                            · refine w_iconst C dX11_isValid_181 ?_
                              refine w_goto C 186 dX11_isValid_182 rfl ?_
                              refine w_istore (lv2 := [(0, .ref h), (1, .int (iI i)), (2, .int (iI p)), (3, .int (iI (ep d i p))), (5, .int (iI (im_at d (ep d i p + 1)))), (6, .int (iI 0)), (7, .int (iI 1)), (8, .int (iI u))]) C dX11_isValid_186 (by decide) rfl ?_
                              refine w_iinc (lv2 := [(0, .ref h), (1, .int (iI i)), (2, .int (iI p)), (3, .int (iI (ep d i p))), (5, .int (iI (im_at d (ep d i p + 1)))), (6, .int (iI 0)), (7, .int (iI 1)), (8, .int (iI (u + 1)))]) C 7 dX11_isValid_188 rfl (by decide) rfl ?_
                              refine w_goto C 105 dX11_isValid_191 rfl ?_
                              exact ih_105 _ (by omega) (u + 1) (up nb2 u (d.1 (((ep d i p) + 2) + u))) 0 1 (by omega) (fun j a b => by rw [up_at]; by_cases e : j = u; (rw [if_pos e, e, Int.emod_eq_of_lt (d.2 _).1 (d.2 _).2]); (rw [if_neg e]; exact h2 j a (by omega))) (al_s h3 h1.1 (by omega)) (al_s2 h4 h1.1 (by omega)) rfl
                        · refine w_aload_n C 0 dX11_isValid_145 rfl ?_
                          refine w_get C 0 7 853 dX11_isValid_146 rfl rfl inX11 (by decide) (by decide +kernel) rfl ?_
                          refine w_iload C 7 dX11_isValid_149 rfl ?_
                          refine w_iald C 2 dX11_isValid_151 rfl (by omega) ?_
                          have b_50 := (up nb2 u (d.1 (((ep d i p) + 2) + u))).2 u
                          refine w_st (st2 := [.int (iI (d.1 (ep d i p + 2 + u)))]) (by rw [up_at, if_pos rfl, Int.emod_eq_of_lt (d.2 _).1 (d.2 _).2]) ?_
                          refine w_bipush C dX11_isValid_152 (by decide) ?_
                          refine w_icmp_eq C 161 dX11_isValid_154 rfl (by omega) (fun c_51 => ?_) (fun c_51 => ?_)
                          · refine w_iconst C dX11_isValid_161 ?_
                            refine w_istore (lv2 := [(0, .ref h), (1, .int (iI i)), (2, .int (iI p)), (3, .int (iI (ep d i p))), (5, .int (iI (im_at d (ep d i p + 1)))), (6, .int (iI 0)), (7, .int (iI t)), (8, .int (iI u))]) C dX11_isValid_162 (by decide) rfl ?_
                            refine w_iload C 6 dX11_isValid_164 rfl ?_
                            refine w_if_eq C 185 dX11_isValid_166 rfl (by omega) (fun c_52 => ?_) (fun c_52 => ?_)
                            · refine w_iconst C dX11_isValid_185 ?_
                              refine w_istore (lv2 := [(0, .ref h), (1, .int (iI i)), (2, .int (iI p)), (3, .int (iI (ep d i p))), (5, .int (iI (im_at d (ep d i p + 1)))), (6, .int (iI 0)), (7, .int (iI 0)), (8, .int (iI u))]) C dX11_isValid_186 (by decide) rfl ?_
                              refine w_iinc (lv2 := [(0, .ref h), (1, .int (iI i)), (2, .int (iI p)), (3, .int (iI (ep d i p))), (5, .int (iI (im_at d (ep d i p + 1)))), (6, .int (iI 0)), (7, .int (iI 0)), (8, .int (iI (u + 1)))]) C 7 dX11_isValid_188 rfl (by decide) rfl ?_
                              refine w_goto C 105 dX11_isValid_191 rfl ?_
                              exact ih_105 _ (by omega) (u + 1) (up nb2 u (d.1 (((ep d i p) + 2) + u))) 0 0 (by omega) (fun j a b => by rw [up_at]; by_cases e : j = u; (rw [if_pos e, e, Int.emod_eq_of_lt (d.2 _).1 (d.2 _).2]); (rw [if_neg e]; exact h2 j a (by omega))) (al_s h3 h1.1 (by omega)) (al_s2 h4 h1.1 (by omega)) rfl
                            · refine w_aload_n C 0 dX11_isValid_169 rfl ?_
                              refine w_get C 0 7 853 dX11_isValid_170 rfl rfl inX11 (by decide) (by decide +kernel) rfl ?_
                              refine w_iload C 7 dX11_isValid_173 rfl ?_
                              refine w_iald C 2 dX11_isValid_175 rfl (by omega) ?_
                              have b_53 := (up nb2 u (d.1 (((ep d i p) + 2) + u))).2 u
                              refine w_st (st2 := [.int (iI (d.1 (ep d i p + 2 + u)))]) (by rw [up_at, if_pos rfl, Int.emod_eq_of_lt (d.2 _).1 (d.2 _).2]) ?_
                              refine w_bipush C dX11_isValid_176 (by decide) ?_
                              refine w_icmp_ne C 185 dX11_isValid_178 rfl (by omega) (fun c_54 => ?_) (fun c_54 => ?_)
                              · refine w_iconst C dX11_isValid_185 ?_
                                refine w_istore (lv2 := [(0, .ref h), (1, .int (iI i)), (2, .int (iI p)), (3, .int (iI (ep d i p))), (5, .int (iI (im_at d (ep d i p + 1)))), (6, .int (iI 0)), (7, .int (iI 0)), (8, .int (iI u))]) C dX11_isValid_186 (by decide) rfl ?_
                                refine w_iinc (lv2 := [(0, .ref h), (1, .int (iI i)), (2, .int (iI p)), (3, .int (iI (ep d i p))), (5, .int (iI (im_at d (ep d i p + 1)))), (6, .int (iI 0)), (7, .int (iI 0)), (8, .int (iI (u + 1)))]) C 7 dX11_isValid_188 rfl (by decide) rfl ?_
                                refine w_goto C 105 dX11_isValid_191 rfl ?_
                                exact ih_105 _ (by omega) (u + 1) (up nb2 u (d.1 (((ep d i p) + 2) + u))) 0 0 (by omega) (fun j a b => by rw [up_at]; by_cases e : j = u; (rw [if_pos e, e, Int.emod_eq_of_lt (d.2 _).1 (d.2 _).2]); (rw [if_neg e]; exact h2 j a (by omega))) (al_s h3 h1.1 (by omega)) (al_s2 h4 h1.1 (by omega)) rfl
                              · refine w_iconst C dX11_isValid_181 ?_
                                refine w_goto C 186 dX11_isValid_182 rfl ?_
                                refine w_istore (lv2 := [(0, .ref h), (1, .int (iI i)), (2, .int (iI p)), (3, .int (iI (ep d i p))), (5, .int (iI (im_at d (ep d i p + 1)))), (6, .int (iI 0)), (7, .int (iI 1)), (8, .int (iI u))]) C dX11_isValid_186 (by decide) rfl ?_
                                refine w_iinc (lv2 := [(0, .ref h), (1, .int (iI i)), (2, .int (iI p)), (3, .int (iI (ep d i p))), (5, .int (iI (im_at d (ep d i p + 1)))), (6, .int (iI 0)), (7, .int (iI 1)), (8, .int (iI (u + 1)))]) C 7 dX11_isValid_188 rfl (by decide) rfl ?_
                                refine w_goto C 105 dX11_isValid_191 rfl ?_
                                exact ih_105 _ (by omega) (u + 1) (up nb2 u (d.1 (((ep d i p) + 2) + u))) 0 1 (by omega) (fun j a b => by rw [up_at]; by_cases e : j = u; (rw [if_pos e, e, Int.emod_eq_of_lt (d.2 _).1 (d.2 _).2]); (rw [if_neg e]; exact h2 j a (by omega))) (al_s h3 h1.1 (by omega)) (al_s2 h4 h1.1 (by omega)) rfl
                          · refine w_iconst C dX11_isValid_157 ?_
                            refine w_goto C 162 dX11_isValid_158 rfl ?_
                            refine w_istore (lv2 := [(0, .ref h), (1, .int (iI i)), (2, .int (iI p)), (3, .int (iI (ep d i p))), (5, .int (iI (im_at d (ep d i p + 1)))), (6, .int (iI 1)), (7, .int (iI t)), (8, .int (iI u))]) C dX11_isValid_162 (by decide) rfl ?_
                            refine w_iload C 6 dX11_isValid_164 rfl ?_
                            refine w_if_eq C 185 dX11_isValid_166 rfl (by omega) (fun c_55 => ?_) (fun c_55 => ?_)
                            · refine w_iconst C dX11_isValid_185 ?_
                              refine w_istore (lv2 := [(0, .ref h), (1, .int (iI i)), (2, .int (iI p)), (3, .int (iI (ep d i p))), (5, .int (iI (im_at d (ep d i p + 1)))), (6, .int (iI 1)), (7, .int (iI 0)), (8, .int (iI u))]) C dX11_isValid_186 (by decide) rfl ?_
                              refine w_iinc (lv2 := [(0, .ref h), (1, .int (iI i)), (2, .int (iI p)), (3, .int (iI (ep d i p))), (5, .int (iI (im_at d (ep d i p + 1)))), (6, .int (iI 1)), (7, .int (iI 0)), (8, .int (iI (u + 1)))]) C 7 dX11_isValid_188 rfl (by decide) rfl ?_
                              refine w_goto C 105 dX11_isValid_191 rfl ?_
                              exact ih_105 _ (by omega) (u + 1) (up nb2 u (d.1 (((ep d i p) + 2) + u))) 1 0 (by omega) (fun j a b => by rw [up_at]; by_cases e : j = u; (rw [if_pos e, e, Int.emod_eq_of_lt (d.2 _).1 (d.2 _).2]); (rw [if_neg e]; exact h2 j a (by omega))) (al_s h3 h1.1 (by omega)) (al_s2 h4 h1.1 (by omega)) rfl
                            · refine w_aload_n C 0 dX11_isValid_169 rfl ?_
                              refine w_get C 0 7 853 dX11_isValid_170 rfl rfl inX11 (by decide) (by decide +kernel) rfl ?_
                              refine w_iload C 7 dX11_isValid_173 rfl ?_
                              refine w_iald C 2 dX11_isValid_175 rfl (by omega) ?_
                              have b_56 := (up nb2 u (d.1 (((ep d i p) + 2) + u))).2 u
                              refine w_st (st2 := [.int (iI (d.1 (ep d i p + 2 + u)))]) (by rw [up_at, if_pos rfl, Int.emod_eq_of_lt (d.2 _).1 (d.2 _).2]) ?_
                              refine w_bipush C dX11_isValid_176 (by decide) ?_
                              refine w_icmp_ne C 185 dX11_isValid_178 rfl (by omega) (fun c_57 => ?_) (fun c_57 => ?_)
                              · refine w_iconst C dX11_isValid_185 ?_
                                refine w_istore (lv2 := [(0, .ref h), (1, .int (iI i)), (2, .int (iI p)), (3, .int (iI (ep d i p))), (5, .int (iI (im_at d (ep d i p + 1)))), (6, .int (iI 1)), (7, .int (iI 0)), (8, .int (iI u))]) C dX11_isValid_186 (by decide) rfl ?_
                                refine w_iinc (lv2 := [(0, .ref h), (1, .int (iI i)), (2, .int (iI p)), (3, .int (iI (ep d i p))), (5, .int (iI (im_at d (ep d i p + 1)))), (6, .int (iI 1)), (7, .int (iI 0)), (8, .int (iI (u + 1)))]) C 7 dX11_isValid_188 rfl (by decide) rfl ?_
                                refine w_goto C 105 dX11_isValid_191 rfl ?_
                                exact ih_105 _ (by omega) (u + 1) (up nb2 u (d.1 (((ep d i p) + 2) + u))) 1 0 (by omega) (fun j a b => by rw [up_at]; by_cases e : j = u; (rw [if_pos e, e, Int.emod_eq_of_lt (d.2 _).1 (d.2 _).2]); (rw [if_neg e]; exact h2 j a (by omega))) (al_s h3 h1.1 (by omega)) (al_s2 h4 h1.1 (by omega)) rfl
                              · refine w_iconst C dX11_isValid_181 ?_
                                refine w_goto C 186 dX11_isValid_182 rfl ?_
                                refine w_istore (lv2 := [(0, .ref h), (1, .int (iI i)), (2, .int (iI p)), (3, .int (iI (ep d i p))), (5, .int (iI (im_at d (ep d i p + 1)))), (6, .int (iI 1)), (7, .int (iI 1)), (8, .int (iI u))]) C dX11_isValid_186 (by decide) rfl ?_
                                refine w_iinc (lv2 := [(0, .ref h), (1, .int (iI i)), (2, .int (iI p)), (3, .int (iI (ep d i p))), (5, .int (iI (im_at d (ep d i p + 1)))), (6, .int (iI 1)), (7, .int (iI 1)), (8, .int (iI (u + 1)))]) C 7 dX11_isValid_188 rfl (by decide) rfl ?_
                                refine w_goto C 105 dX11_isValid_191 rfl ?_
                                exact ih_105 _ (by omega) (u + 1) (up nb2 u (d.1 (((ep d i p) + 2) + u))) 1 1 (by omega) (fun j a b => by rw [up_at]; by_cases e : j = u; (rw [if_pos e, e, Int.emod_eq_of_lt (d.2 _).1 (d.2 _).2]); (rw [if_neg e]; exact h2 j a (by omega))) (al_s h3 h1.1 (by omega)) (al_s2 h4 h1.1 (by omega)) rfl
                exact L_105 _ 0 nb 1 1 (by omega) (fun j a b => by omega) ⟨fun _ j a b => by omega, fun _ => rfl⟩ ⟨fun _ => ⟨by omega, fun j a b => by omega⟩, fun w => by have w2 := w.1; omega⟩ rfl
            · have hbl := c_10
              refine w_iconst C dX11_isValid_78 ?_
              exact w_reti hret dX11_isValid_79 rfl rfl rfl rfl ⟨(nb, nl), hnl, congrArg (fun z => some (Value.int (iI z))) (by first | (rw [rv_b hbl]; rfl) | (rw [rv_x2 (d := d) (i := i) (p := p) (by omega) (by omega)]; rfl)), rfl⟩

theorem gX11_106 : cwv RX11 106 yX11_places cX11_places 2 (some .int) 1 979 981 43 74 982 := by decide +kernel
theorem gX11_118 : cwv RX11 118 yX11_isValid cX11_isValid 9 (some .boolean) 2 1001 1003 48 74 1004 := by decide +kernel
theorem gX11_115 : cwv RX11 115 yX11_lostName cX11_lostName 3 none 0 995 997 47 74 998 := by decide +kernel
theorem gX11_112 : cwv RX11 112 yX11_write cX11_write 4 none 2 991 993 46 74 994 := by decide +kernel
theorem gX11_109 : cwv RX11 109 yX11_dots cX11_dots 3 none 1 987 989 45 74 990 := by decide +kernel
set_option maxHeartbeats 4000000 in
set_option maxRecDepth 100000 in
theorem ct_X11_entries (G : GX) (l : Launch) (h : Nat) (a : Nat) (b : Nat) (tk : Nat) (re : Nat) (qu : Nat) (nm : Nat) (hd : Int) (tl : Int) (nl : Int) (d : Im) (nb : Im) (tm : Int64) (hnl : 0 ≤ nl ∧ nl ≤ 14) (hw : WF tm d) : CtE G l yX11_entries cX11_entries 4 none rmX11_entries [.ref h] [(h, .inr (9, [.ref a, .ref b, .ref tk, .ref re, .ref qu, .int (iI hd), .int (iI tl), .ref nm, .int (iI nl)])), (b, .inl (gI G, 4096, .inl (arI d))), (nm, .inl (gI G, 14, .inl (arI nb)))] (fun e_ : Im × Int => (0 ≤ e_.2 ∧ e_.2 ≤ 14) ∧ (WF tm (tdr 31 1 d)) ∧ (DE (tdr 31 1 d))) (fun e_ : Im × Int => none) (fun e_ : Im × Int => [(h, .inr (9, [.ref a, .ref b, .ref tk, .ref re, .ref qu, .int (iI hd), .int (iI tl), .ref nm, .int (iI e_.2)])), (b, .inl (gI G, 4096, .inl (arI (tdr 31 1 d)))), (nm, .inl (gI G, 14, .inl (arI e_.1)))]) := by
  refine Ct.of (by decide) (Nat.le_of_ble_eq_true rfl) ?_
  intro k C hl hret
  subst hl
  refine w_lv (lv2 := [(0, .ref h)]) [0] rfl ?_
  refine w_iconst C dX11_entries_0 ?_
  refine w_istore_n (lv2 := [(0, .ref h), (1, .int (iI 1))]) C dX11_entries_1 (by decide) rfl ?_
  have L_2 : ∀ (nn_2 : Nat) (i : Int) (x : Im) (nb2 : Im) (n2 : Int), (1 ≤ i ∧ i ≤ 32) → (0 ≤ n2 ∧ n2 ≤ 14) → (WF tm x) → (DEn x i) → (tdr 31 1 d = tdr (32 - i).toNat i x) → (32 - i).toNat = nn_2 → Wd G k 4 0 0 [(h, .inr (9, [.ref a, .ref b, .ref tk, .ref re, .ref qu, .int (iI hd), .int (iI tl), .ref nm, .int (iI n2)])), (b, .inl (gI G, 4096, .inl (arI x))), (nm, .inl (gI G, 14, .inl (arI nb2)))] 2 [(0, .ref h), (1, .int (iI i))] [] := by
    intro nn_2
    induction nn_2 using Nat.strongRecOn with
    | ind nn_2 ih_2 =>
      intro i x nb2 n2 h1 hn2 hW hD hp hm_2
      refine w_iload_n C 1 dX11_entries_2 rfl ?_
      refine w_bipush C dX11_entries_3 (by decide) ?_
      refine w_icmp_ge C 115 dX11_entries_5 rfl (by omega) (fun c_1 => ?_) (fun c_1 => ?_)
      · refine w_ws (ws2 := [(h, .inr (9, [.ref a, .ref b, .ref tk, .ref re, .ref qu, .int (iI hd), .int (iI tl), .ref nm, .int (iI n2)])), (b, .inl (gI G, 4096, .inl (arI (tdr 31 1 d)))), (nm, .inl (gI G, 14, .inl (arI nb2)))]) (by rw [hp, show (32 - i).toNat = 0 by omega, tdr]) ?_
        exact w_retv hret dX11_entries_115 rfl rfl rfl ⟨(nb2, n2), ⟨hn2, (by rw [hp, show (32 - i).toNat = 0 by omega, tdr]; exact hW), (by rw [hp, show (32 - i).toNat = 0 by omega, tdr]; have w := hD; rwa [show i = 32 by omega] at w)⟩, rfl, rfl⟩
      · refine w_iconst C dX11_entries_8 ?_
        refine w_istore_n (lv2 := [(0, .ref h), (1, .int (iI i)), (2, .int (iI 0))]) C dX11_entries_9 (by decide) rfl ?_
        have L_10 : ∀ (nn_10 : Nat) (p : Int) (y : Im) (nb3 : Im) (n3 : Int), (0 ≤ p) → (0 ≤ n3 ∧ n3 ≤ 14) → (WF tm y) → (kd y i = 2 → p ≤ sz y i / 16 ∧ TY y i p) → (DEn y i) → (tdr 31 1 d = tdr (32 - (i + 1)).toNat (i + 1) (if kd y i = 2 then tpl i (sz y i / 16 - p).toNat p y else y)) → (sz y i / 16 - p).toNat = nn_10 → Wd G k 4 0 0 [(h, .inr (9, [.ref a, .ref b, .ref tk, .ref re, .ref qu, .int (iI hd), .int (iI tl), .ref nm, .int (iI n3)])), (b, .inl (gI G, 4096, .inl (arI y))), (nm, .inl (gI G, 14, .inl (arI nb3)))] 10 [(0, .ref h), (1, .int (iI i)), (2, .int (iI p))] [] := by
          intro nn_10
          induction nn_10 using Nat.strongRecOn with
          | ind nn_10 ih_10 =>
            intro p y nb3 n3 h3 hn3 hW2 hT3 hD2 hp2 hm_10
            refine w_aload_n C 0 dX11_entries_10 rfl ?_
            refine w_iload_n C 1 dX11_entries_11 rfl ?_
            refine w_callV (As := [.int (iI i)]) (rest := []) (w2 := [(h, .inr (9, [.ref a, .ref b, .ref tk, .ref re, .ref qu, .int (iI hd), .int (iI tl), .ref nm, .int (iI n3)])), (b, .inl (gI G, 4096, .inl (arI y))), (nm, .inl (gI G, 14, .inl (arI nb3)))]) (st2 := [.int (iI (kd y i))]) C (ct_X11_kind G (kl k) h a b tk re qu nm hd tl n3 y i (by omega)) gX11_62 dX11_entries_12 0 rfl rfl rfl rfl rfl (Nat.le_of_ble_eq_true rfl) (by decide) [0, 1] rfl (by decide) [h, b] rfl rfl rfl rfl ?_
            have f_2 := kd_rg y i
            refine w_iconst C dX11_entries_15 ?_
            refine w_icmp_ne C 109 dX11_entries_16 rfl (by omega) (fun c_3 => ?_) (fun c_3 => ?_)
            · have hkn : ¬ kd y i = 2 := c_3
              refine w_iinc (lv2 := [(0, .ref h), (1, .int (iI (i + 1))), (2, .int (iI p))]) C 1 dX11_entries_109 rfl (by decide) rfl ?_
              refine w_goto C 2 dX11_entries_112 rfl ?_
              refine w_lv (lv2 := [(0, .ref h), (1, .int (iI (i + 1)))]) [0, 1] rfl ?_
              exact ih_2 _ (by omega) (i + 1) y nb3 n3 (by omega) hn3 hW2 (by first | exact DEn_n hD2 hT2 (by omega) | exact DEn_k hD2 hkn) (by rw [hp2]; first | (rw [if_neg hkn]; done) | (rw [if_pos hdr.2.2, show (sz y i / 16 - p).toNat = 0 by omega, tpl])) rfl
            · have hdr : drI y i := ⟨h1.1, by omega, c_3⟩
              have hT2 := (hT3 hdr.2.2).2
              have hT1 := (hT3 hdr.2.2).1
              have hs9 := hW2.szE hdr
              refine w_iload_n C 2 dX11_entries_19 rfl ?_
              refine w_aload_n C 0 dX11_entries_20 rfl ?_
              refine w_iload_n C 1 dX11_entries_21 rfl ?_
              refine w_callV (As := [.int (iI i)]) (rest := [.int (iI p)]) (w2 := [(h, .inr (9, [.ref a, .ref b, .ref tk, .ref re, .ref qu, .int (iI hd), .int (iI tl), .ref nm, .int (iI n3)])), (b, .inl (gI G, 4096, .inl (arI y))), (nm, .inl (gI G, 14, .inl (arI nb3)))]) (st2 := [.int (iI (sz y i / 16)), .int (iI p)]) C (ct_X11_places G (kl k) h a b tk re qu nm hd tl n3 y i (by omega)) gX11_106 dX11_entries_22 0 rfl rfl rfl rfl rfl (Nat.le_of_ble_eq_true rfl) (by decide) [0, 1] rfl (by decide) [h, b] rfl rfl rfl rfl ?_
              have f_4 := sz_rg y i
              refine w_icmp_ge C 109 dX11_entries_25 rfl (by omega) (fun c_5 => ?_) (fun c_5 => ?_)
              · refine w_iinc (lv2 := [(0, .ref h), (1, .int (iI (i + 1))), (2, .int (iI p))]) C 1 dX11_entries_109 rfl (by decide) rfl ?_
                refine w_goto C 2 dX11_entries_112 rfl ?_
                refine w_lv (lv2 := [(0, .ref h), (1, .int (iI (i + 1)))]) [0, 1] rfl ?_
                exact ih_2 _ (by omega) (i + 1) y nb3 n3 (by omega) hn3 hW2 (by first | exact DEn_n hD2 hT2 (by omega) | exact DEn_k hD2 hkn) (by rw [hp2]; first | (rw [if_neg hkn]; done) | (rw [if_pos hdr.2.2, show (sz y i / 16 - p).toNat = 0 by omega, tpl])) rfl
              · have er9 := hW2.ep_rgE hdr h3 (by omega)
                refine w_aload_n C 0 dX11_entries_28 rfl ?_
                refine w_iload_n C 1 dX11_entries_29 rfl ?_
                refine w_iload_n C 2 dX11_entries_30 rfl ?_
                refine w_callV (As := [.int (iI i), .int (iI p)]) (rest := []) (w2 := [(h, .inr (9, [.ref a, .ref b, .ref tk, .ref re, .ref qu, .int (iI hd), .int (iI tl), .ref nm, .int (iI n3)])), (b, .inl (gI G, 4096, .inl (arI y))), (nm, .inl (gI G, 14, .inl (arI nb3)))]) (st2 := [.int (iI (ep y i p))]) C (ct_X11_entry G (kl k) h a b tk re qu nm hd tl n3 y i p (by omega) (by omega) (by omega)) gX11_73 dX11_entries_31 0 rfl rfl rfl rfl rfl (Nat.le_of_ble_eq_true rfl) (by decide) [0, 1] rfl (by decide) [h, b] rfl rfl rfl rfl ?_
                have f_6 := ep_rg y i p
                refine w_istore_n (lv2 := [(0, .ref h), (1, .int (iI i)), (2, .int (iI p)), (3, .int (iI (ep y i p)))]) C dX11_entries_34 (by decide) rfl ?_
                refine w_iload_n C 2 dX11_entries_35 rfl ?_
                refine w_iconst C dX11_entries_36 ?_
                refine w_icmp_ge C 56 dX11_entries_37 rfl (by omega) (fun c_7 => ?_) (fun c_7 => ?_)
                · refine w_iload_n C 2 dX11_entries_56 rfl ?_
                  refine w_iconst C dX11_entries_57 ?_
                  refine w_icmp_ne C 87 dX11_entries_58 rfl (by omega) (fun c_8 => ?_) (fun c_8 => ?_)
                  · refine w_aload_n C 0 dX11_entries_87 rfl ?_
                    refine w_iload_n C 1 dX11_entries_88 rfl ?_
                    refine w_iload_n C 2 dX11_entries_89 rfl ?_
                    refine w_callVE (E := Im × Int) (As := [.int (iI i), .int (iI p)]) (rest := []) (w2 := (fun e_ : Im × Int => [(h, .inr (9, [.ref a, .ref b, .ref tk, .ref re, .ref qu, .int (iI hd), .int (iI tl), .ref nm, .int (iI e_.2)])), (b, .inl (gI G, 4096, .inl (arI y))), (nm, .inl (gI G, 14, .inl (arI e_.1)))])) (st2 := (fun e_ : Im × Int => [.int (iI (bI (rvB y i p)))])) C (ct_X11_isValid G (kl k) h a b tk re qu nm hd tl n3 y nb3 i p (by omega) (by omega) (by omega) (fun q a b => by have w := hW2.ep_rgE hdr a (by omega); omega)) gX11_118 dX11_entries_90 0 rfl rfl rfl rfl rfl (Nat.le_of_ble_eq_true rfl) (by decide) [0, 1, 2] rfl (by decide) [h, b, nm] (fun _ => rfl) rfl (fun _ => rfl) (fun _ => rfl) ?_
                    rintro ⟨nb4, n4⟩ ⟨hn4⟩
                    show Wd G k 4 _ _ [(h, .inr (9, [.ref a, .ref b, .ref tk, .ref re, .ref qu, .int (iI hd), .int (iI tl), .ref nm, .int (iI n4)])), (b, .inl (gI G, 4096, .inl (arI y))), (nm, .inl (gI G, 14, .inl (arI nb4)))] 93 [(0, .ref h), (1, .int (iI i)), (2, .int (iI p)), (3, .int (iI (ep y i p)))] [.int (iI (bI (rvB y i p)))]
                    refine w_bnz C 103 dX11_entries_93 rfl (fun c_9 => ?_) (fun c_9 => ?_)
                    · have hv := c_9
                      refine w_arr (e := plS i p y) (ws2 := [(h, .inr (9, [.ref a, .ref b, .ref tk, .ref re, .ref qu, .int (iI hd), .int (iI tl), .ref nm, .int (iI n4)])), (b, .inl (gI G, 4096, .inl (arI (plS i p y)))), (nm, .inl (gI G, 14, .inl (arI nb4)))]) 1 rfl (fun j _ _ => congrArg (fun z : Im => z.1 j) (by first | exact (pl_dots nb3 (by omega)).symm | exact (pl_lost nb3 (by omega) (by omega) (by omega)).symm | exact (pl_val hW2 hdr (by omega) (by omega) hT2 (by omega) hv).symm | exact (pl_wipe hW2 hdr (by omega) (by omega) hT2 (by omega) hv).symm)) rfl ?_
                      refine w_iinc (lv2 := [(0, .ref h), (1, .int (iI i)), (2, .int (iI (p + 1))), (3, .int (iI (ep y i p)))]) C 2 dX11_entries_103 rfl (by decide) rfl ?_
                      refine w_goto C 10 dX11_entries_106 rfl ?_
                      refine w_lv (lv2 := [(0, .ref h), (1, .int (iI i)), (2, .int (iI (p + 1)))]) [0, 1, 2] rfl ?_
                      exact ih_10 _ (by rw [cg_sz hW2 hdr h3 (by omega) (plS_cg hW2 hdr h3 (by omega))]; omega) (p + 1) (plS i p y) nb4 n4 (by omega) (by omega) (cg_WF hW2 hdr h3 (by omega) (plS_cg hW2 hdr h3 (by omega))) (fun _ => ⟨by rw [cg_sz hW2 hdr h3 (by omega) (plS_cg hW2 hdr h3 (by omega))]; omega, TY_s hW2 hdr h3 (by omega) hT2⟩) (DEn_s hW2 hdr h3 (by omega) (by omega) hD2) (by rw [hp2, if_pos hdr.2.2, cg_kd hW2 hdr h3 (by omega) (plS_cg hW2 hdr h3 (by omega)), cg_sz hW2 hdr h3 (by omega) (plS_cg hW2 hdr h3 (by omega)), if_pos hdr.2.2, show (sz y i / 16 - p).toNat = (sz y i / 16 - (p + 1)).toNat + 1 by omega, tpl]) rfl
                    · have hv := c_9
                      refine w_aload_n C 0 dX11_entries_96 rfl ?_
                      refine w_iload_n C 3 dX11_entries_97 rfl ?_
                      refine w_bipush C dX11_entries_98 (by decide) ?_
                      refine w_callV (As := [.int (iI (ep y i p)), .int (iI 16)]) (rest := []) (w2 := [(h, .inr (9, [.ref a, .ref b, .ref tk, .ref re, .ref qu, .int (iI hd), .int (iI tl), .ref nm, .int (iI n4)])), (b, .inl (gI G, 4096, .inl (arI (im_wipe y (ep y i p) 16)))), (nm, .inl (gI G, 14, .inl (arI nb4)))]) (st2 := []) C (ct_X11_clear G (kl k) h a b tk re qu nm hd tl n4 y (ep y i p) 16 (by unfold rgP; omega)) gX11_65 dX11_entries_100 0 rfl rfl rfl rfl rfl (Nat.le_of_ble_eq_true rfl) (by decide) [0, 1] rfl (by decide) [h, b] rfl rfl rfl rfl ?_
                      refine w_arr (e := plS i p y) (ws2 := [(h, .inr (9, [.ref a, .ref b, .ref tk, .ref re, .ref qu, .int (iI hd), .int (iI tl), .ref nm, .int (iI n4)])), (b, .inl (gI G, 4096, .inl (arI (plS i p y)))), (nm, .inl (gI G, 14, .inl (arI nb4)))]) 1 rfl (fun j _ _ => congrArg (fun z : Im => z.1 j) (by first | exact (pl_dots nb3 (by omega)).symm | exact (pl_lost nb3 (by omega) (by omega) (by omega)).symm | exact (pl_val hW2 hdr (by omega) (by omega) hT2 (by omega) hv).symm | exact (pl_wipe hW2 hdr (by omega) (by omega) hT2 (by omega) hv).symm)) rfl ?_
                      refine w_iinc (lv2 := [(0, .ref h), (1, .int (iI i)), (2, .int (iI (p + 1))), (3, .int (iI (ep y i p)))]) C 2 dX11_entries_103 rfl (by decide) rfl ?_
                      refine w_goto C 10 dX11_entries_106 rfl ?_
                      refine w_lv (lv2 := [(0, .ref h), (1, .int (iI i)), (2, .int (iI (p + 1)))]) [0, 1, 2] rfl ?_
                      exact ih_10 _ (by rw [cg_sz hW2 hdr h3 (by omega) (plS_cg hW2 hdr h3 (by omega))]; omega) (p + 1) (plS i p y) nb4 n4 (by omega) (by omega) (cg_WF hW2 hdr h3 (by omega) (plS_cg hW2 hdr h3 (by omega))) (fun _ => ⟨by rw [cg_sz hW2 hdr h3 (by omega) (plS_cg hW2 hdr h3 (by omega))]; omega, TY_s hW2 hdr h3 (by omega) hT2⟩) (DEn_s hW2 hdr h3 (by omega) (by omega) hD2) (by rw [hp2, if_pos hdr.2.2, cg_kd hW2 hdr h3 (by omega) (plS_cg hW2 hdr h3 (by omega)), cg_sz hW2 hdr h3 (by omega) (plS_cg hW2 hdr h3 (by omega)), if_pos hdr.2.2, show (sz y i / 16 - p).toNat = (sz y i / 16 - (p + 1)).toNat + 1 by omega, tpl]) rfl
                  · refine w_iload_n C 1 dX11_entries_61 rfl ?_
                    refine w_iconst C dX11_entries_62 ?_
                    refine w_icmp_ne C 87 dX11_entries_63 rfl (by omega) (fun c_10 => ?_) (fun c_10 => ?_)
                    · refine w_aload_n C 0 dX11_entries_87 rfl ?_
                      refine w_iload_n C 1 dX11_entries_88 rfl ?_
                      refine w_iload_n C 2 dX11_entries_89 rfl ?_
                      refine w_callVE (E := Im × Int) (As := [.int (iI i), .int (iI p)]) (rest := []) (w2 := (fun e_ : Im × Int => [(h, .inr (9, [.ref a, .ref b, .ref tk, .ref re, .ref qu, .int (iI hd), .int (iI tl), .ref nm, .int (iI e_.2)])), (b, .inl (gI G, 4096, .inl (arI y))), (nm, .inl (gI G, 14, .inl (arI e_.1)))])) (st2 := (fun e_ : Im × Int => [.int (iI (bI (rvB y i p)))])) C (ct_X11_isValid G (kl k) h a b tk re qu nm hd tl n3 y nb3 i p (by omega) (by omega) (by omega) (fun q a b => by have w := hW2.ep_rgE hdr a (by omega); omega)) gX11_118 dX11_entries_90 0 rfl rfl rfl rfl rfl (Nat.le_of_ble_eq_true rfl) (by decide) [0, 1, 2] rfl (by decide) [h, b, nm] (fun _ => rfl) rfl (fun _ => rfl) (fun _ => rfl) ?_
                      rintro ⟨nb4, n4⟩ ⟨hn4⟩
                      show Wd G k 4 _ _ [(h, .inr (9, [.ref a, .ref b, .ref tk, .ref re, .ref qu, .int (iI hd), .int (iI tl), .ref nm, .int (iI n4)])), (b, .inl (gI G, 4096, .inl (arI y))), (nm, .inl (gI G, 14, .inl (arI nb4)))] 93 [(0, .ref h), (1, .int (iI i)), (2, .int (iI p)), (3, .int (iI (ep y i p)))] [.int (iI (bI (rvB y i p)))]
                      refine w_bnz C 103 dX11_entries_93 rfl (fun c_11 => ?_) (fun c_11 => ?_)
                      · have hv := c_11
                        refine w_arr (e := plS i p y) (ws2 := [(h, .inr (9, [.ref a, .ref b, .ref tk, .ref re, .ref qu, .int (iI hd), .int (iI tl), .ref nm, .int (iI n4)])), (b, .inl (gI G, 4096, .inl (arI (plS i p y)))), (nm, .inl (gI G, 14, .inl (arI nb4)))]) 1 rfl (fun j _ _ => congrArg (fun z : Im => z.1 j) (by first | exact (pl_dots nb3 (by omega)).symm | exact (pl_lost nb3 (by omega) (by omega) (by omega)).symm | exact (pl_val hW2 hdr (by omega) (by omega) hT2 (by omega) hv).symm | exact (pl_wipe hW2 hdr (by omega) (by omega) hT2 (by omega) hv).symm)) rfl ?_
                        refine w_iinc (lv2 := [(0, .ref h), (1, .int (iI i)), (2, .int (iI (p + 1))), (3, .int (iI (ep y i p)))]) C 2 dX11_entries_103 rfl (by decide) rfl ?_
                        refine w_goto C 10 dX11_entries_106 rfl ?_
                        refine w_lv (lv2 := [(0, .ref h), (1, .int (iI i)), (2, .int (iI (p + 1)))]) [0, 1, 2] rfl ?_
                        exact ih_10 _ (by rw [cg_sz hW2 hdr h3 (by omega) (plS_cg hW2 hdr h3 (by omega))]; omega) (p + 1) (plS i p y) nb4 n4 (by omega) (by omega) (cg_WF hW2 hdr h3 (by omega) (plS_cg hW2 hdr h3 (by omega))) (fun _ => ⟨by rw [cg_sz hW2 hdr h3 (by omega) (plS_cg hW2 hdr h3 (by omega))]; omega, TY_s hW2 hdr h3 (by omega) hT2⟩) (DEn_s hW2 hdr h3 (by omega) (by omega) hD2) (by rw [hp2, if_pos hdr.2.2, cg_kd hW2 hdr h3 (by omega) (plS_cg hW2 hdr h3 (by omega)), cg_sz hW2 hdr h3 (by omega) (plS_cg hW2 hdr h3 (by omega)), if_pos hdr.2.2, show (sz y i / 16 - p).toNat = (sz y i / 16 - (p + 1)).toNat + 1 by omega, tpl]) rfl
                      · have hv := c_11
                        refine w_aload_n C 0 dX11_entries_96 rfl ?_
                        refine w_iload_n C 3 dX11_entries_97 rfl ?_
                        refine w_bipush C dX11_entries_98 (by decide) ?_
                        refine w_callV (As := [.int (iI (ep y i p)), .int (iI 16)]) (rest := []) (w2 := [(h, .inr (9, [.ref a, .ref b, .ref tk, .ref re, .ref qu, .int (iI hd), .int (iI tl), .ref nm, .int (iI n4)])), (b, .inl (gI G, 4096, .inl (arI (im_wipe y (ep y i p) 16)))), (nm, .inl (gI G, 14, .inl (arI nb4)))]) (st2 := []) C (ct_X11_clear G (kl k) h a b tk re qu nm hd tl n4 y (ep y i p) 16 (by unfold rgP; omega)) gX11_65 dX11_entries_100 0 rfl rfl rfl rfl rfl (Nat.le_of_ble_eq_true rfl) (by decide) [0, 1] rfl (by decide) [h, b] rfl rfl rfl rfl ?_
                        refine w_arr (e := plS i p y) (ws2 := [(h, .inr (9, [.ref a, .ref b, .ref tk, .ref re, .ref qu, .int (iI hd), .int (iI tl), .ref nm, .int (iI n4)])), (b, .inl (gI G, 4096, .inl (arI (plS i p y)))), (nm, .inl (gI G, 14, .inl (arI nb4)))]) 1 rfl (fun j _ _ => congrArg (fun z : Im => z.1 j) (by first | exact (pl_dots nb3 (by omega)).symm | exact (pl_lost nb3 (by omega) (by omega) (by omega)).symm | exact (pl_val hW2 hdr (by omega) (by omega) hT2 (by omega) hv).symm | exact (pl_wipe hW2 hdr (by omega) (by omega) hT2 (by omega) hv).symm)) rfl ?_
                        refine w_iinc (lv2 := [(0, .ref h), (1, .int (iI i)), (2, .int (iI (p + 1))), (3, .int (iI (ep y i p)))]) C 2 dX11_entries_103 rfl (by decide) rfl ?_
                        refine w_goto C 10 dX11_entries_106 rfl ?_
                        refine w_lv (lv2 := [(0, .ref h), (1, .int (iI i)), (2, .int (iI (p + 1)))]) [0, 1, 2] rfl ?_
                        exact ih_10 _ (by rw [cg_sz hW2 hdr h3 (by omega) (plS_cg hW2 hdr h3 (by omega))]; omega) (p + 1) (plS i p y) nb4 n4 (by omega) (by omega) (cg_WF hW2 hdr h3 (by omega) (plS_cg hW2 hdr h3 (by omega))) (fun _ => ⟨by rw [cg_sz hW2 hdr h3 (by omega) (plS_cg hW2 hdr h3 (by omega))]; omega, TY_s hW2 hdr h3 (by omega) hT2⟩) (DEn_s hW2 hdr h3 (by omega) (by omega) hD2) (by rw [hp2, if_pos hdr.2.2, cg_kd hW2 hdr h3 (by omega) (plS_cg hW2 hdr h3 (by omega)), cg_sz hW2 hdr h3 (by omega) (plS_cg hW2 hdr h3 (by omega)), if_pos hdr.2.2, show (sz y i / 16 - p).toNat = (sz y i / 16 - (p + 1)).toNat + 1 by omega, tpl]) rfl
                    · refine w_aload_n C 0 dX11_entries_66 rfl ?_
                      refine w_iconst C dX11_entries_67 ?_
                      refine w_callV (As := [.int (iI 2)]) (rest := []) (w2 := [(h, .inr (9, [.ref a, .ref b, .ref tk, .ref re, .ref qu, .int (iI hd), .int (iI tl), .ref nm, .int (iI n3)])), (b, .inl (gI G, 4096, .inl (arI y))), (nm, .inl (gI G, 14, .inl (arI nb3)))]) (st2 := [.int (iI (kd y 2))]) C (ct_X11_kind G (kl k) h a b tk re qu nm hd tl n3 y 2 (by omega)) gX11_62 dX11_entries_68 0 rfl rfl rfl rfl rfl (Nat.le_of_ble_eq_true rfl) (by decide) [0, 1] rfl (by decide) [h, b] rfl rfl rfl rfl ?_
                      have f_12 := kd_rg y 2
                      refine w_if_le C 87 dX11_entries_71 rfl (by omega) (fun c_13 => ?_) (fun c_13 => ?_)
                      · refine w_aload_n C 0 dX11_entries_87 rfl ?_
                        refine w_iload_n C 1 dX11_entries_88 rfl ?_
                        refine w_iload_n C 2 dX11_entries_89 rfl ?_
                        refine w_callVE (E := Im × Int) (As := [.int (iI i), .int (iI p)]) (rest := []) (w2 := (fun e_ : Im × Int => [(h, .inr (9, [.ref a, .ref b, .ref tk, .ref re, .ref qu, .int (iI hd), .int (iI tl), .ref nm, .int (iI e_.2)])), (b, .inl (gI G, 4096, .inl (arI y))), (nm, .inl (gI G, 14, .inl (arI e_.1)))])) (st2 := (fun e_ : Im × Int => [.int (iI (bI (rvB y i p)))])) C (ct_X11_isValid G (kl k) h a b tk re qu nm hd tl n3 y nb3 i p (by omega) (by omega) (by omega) (fun q a b => by have w := hW2.ep_rgE hdr a (by omega); omega)) gX11_118 dX11_entries_90 0 rfl rfl rfl rfl rfl (Nat.le_of_ble_eq_true rfl) (by decide) [0, 1, 2] rfl (by decide) [h, b, nm] (fun _ => rfl) rfl (fun _ => rfl) (fun _ => rfl) ?_
                        rintro ⟨nb4, n4⟩ ⟨hn4⟩
                        show Wd G k 4 _ _ [(h, .inr (9, [.ref a, .ref b, .ref tk, .ref re, .ref qu, .int (iI hd), .int (iI tl), .ref nm, .int (iI n4)])), (b, .inl (gI G, 4096, .inl (arI y))), (nm, .inl (gI G, 14, .inl (arI nb4)))] 93 [(0, .ref h), (1, .int (iI i)), (2, .int (iI p)), (3, .int (iI (ep y i p)))] [.int (iI (bI (rvB y i p)))]
                        refine w_bnz C 103 dX11_entries_93 rfl (fun c_14 => ?_) (fun c_14 => ?_)
                        · have hv := c_14
                          refine w_arr (e := plS i p y) (ws2 := [(h, .inr (9, [.ref a, .ref b, .ref tk, .ref re, .ref qu, .int (iI hd), .int (iI tl), .ref nm, .int (iI n4)])), (b, .inl (gI G, 4096, .inl (arI (plS i p y)))), (nm, .inl (gI G, 14, .inl (arI nb4)))]) 1 rfl (fun j _ _ => congrArg (fun z : Im => z.1 j) (by first | exact (pl_dots nb3 (by omega)).symm | exact (pl_lost nb3 (by omega) (by omega) (by omega)).symm | exact (pl_val hW2 hdr (by omega) (by omega) hT2 (by omega) hv).symm | exact (pl_wipe hW2 hdr (by omega) (by omega) hT2 (by omega) hv).symm)) rfl ?_
                          refine w_iinc (lv2 := [(0, .ref h), (1, .int (iI i)), (2, .int (iI (p + 1))), (3, .int (iI (ep y i p)))]) C 2 dX11_entries_103 rfl (by decide) rfl ?_
                          refine w_goto C 10 dX11_entries_106 rfl ?_
                          refine w_lv (lv2 := [(0, .ref h), (1, .int (iI i)), (2, .int (iI (p + 1)))]) [0, 1, 2] rfl ?_
                          exact ih_10 _ (by rw [cg_sz hW2 hdr h3 (by omega) (plS_cg hW2 hdr h3 (by omega))]; omega) (p + 1) (plS i p y) nb4 n4 (by omega) (by omega) (cg_WF hW2 hdr h3 (by omega) (plS_cg hW2 hdr h3 (by omega))) (fun _ => ⟨by rw [cg_sz hW2 hdr h3 (by omega) (plS_cg hW2 hdr h3 (by omega))]; omega, TY_s hW2 hdr h3 (by omega) hT2⟩) (DEn_s hW2 hdr h3 (by omega) (by omega) hD2) (by rw [hp2, if_pos hdr.2.2, cg_kd hW2 hdr h3 (by omega) (plS_cg hW2 hdr h3 (by omega)), cg_sz hW2 hdr h3 (by omega) (plS_cg hW2 hdr h3 (by omega)), if_pos hdr.2.2, show (sz y i / 16 - p).toNat = (sz y i / 16 - (p + 1)).toNat + 1 by omega, tpl]) rfl
                        · have hv := c_14
                          refine w_aload_n C 0 dX11_entries_96 rfl ?_
                          refine w_iload_n C 3 dX11_entries_97 rfl ?_
                          refine w_bipush C dX11_entries_98 (by decide) ?_
                          refine w_callV (As := [.int (iI (ep y i p)), .int (iI 16)]) (rest := []) (w2 := [(h, .inr (9, [.ref a, .ref b, .ref tk, .ref re, .ref qu, .int (iI hd), .int (iI tl), .ref nm, .int (iI n4)])), (b, .inl (gI G, 4096, .inl (arI (im_wipe y (ep y i p) 16)))), (nm, .inl (gI G, 14, .inl (arI nb4)))]) (st2 := []) C (ct_X11_clear G (kl k) h a b tk re qu nm hd tl n4 y (ep y i p) 16 (by unfold rgP; omega)) gX11_65 dX11_entries_100 0 rfl rfl rfl rfl rfl (Nat.le_of_ble_eq_true rfl) (by decide) [0, 1] rfl (by decide) [h, b] rfl rfl rfl rfl ?_
                          refine w_arr (e := plS i p y) (ws2 := [(h, .inr (9, [.ref a, .ref b, .ref tk, .ref re, .ref qu, .int (iI hd), .int (iI tl), .ref nm, .int (iI n4)])), (b, .inl (gI G, 4096, .inl (arI (plS i p y)))), (nm, .inl (gI G, 14, .inl (arI nb4)))]) 1 rfl (fun j _ _ => congrArg (fun z : Im => z.1 j) (by first | exact (pl_dots nb3 (by omega)).symm | exact (pl_lost nb3 (by omega) (by omega) (by omega)).symm | exact (pl_val hW2 hdr (by omega) (by omega) hT2 (by omega) hv).symm | exact (pl_wipe hW2 hdr (by omega) (by omega) hT2 (by omega) hv).symm)) rfl ?_
                          refine w_iinc (lv2 := [(0, .ref h), (1, .int (iI i)), (2, .int (iI (p + 1))), (3, .int (iI (ep y i p)))]) C 2 dX11_entries_103 rfl (by decide) rfl ?_
                          refine w_goto C 10 dX11_entries_106 rfl ?_
                          refine w_lv (lv2 := [(0, .ref h), (1, .int (iI i)), (2, .int (iI (p + 1)))]) [0, 1, 2] rfl ?_
                          exact ih_10 _ (by rw [cg_sz hW2 hdr h3 (by omega) (plS_cg hW2 hdr h3 (by omega))]; omega) (p + 1) (plS i p y) nb4 n4 (by omega) (by omega) (cg_WF hW2 hdr h3 (by omega) (plS_cg hW2 hdr h3 (by omega))) (fun _ => ⟨by rw [cg_sz hW2 hdr h3 (by omega) (plS_cg hW2 hdr h3 (by omega))]; omega, TY_s hW2 hdr h3 (by omega) hT2⟩) (DEn_s hW2 hdr h3 (by omega) (by omega) hD2) (by rw [hp2, if_pos hdr.2.2, cg_kd hW2 hdr h3 (by omega) (plS_cg hW2 hdr h3 (by omega)), cg_sz hW2 hdr h3 (by omega) (plS_cg hW2 hdr h3 (by omega)), if_pos hdr.2.2, show (sz y i / 16 - p).toNat = (sz y i / 16 - (p + 1)).toNat + 1 by omega, tpl]) rfl
                      · refine w_aload_n C 0 dX11_entries_74 rfl ?_
                        refine w_callV (As := []) (rest := []) (w2 := [(h, .inr (9, [.ref a, .ref b, .ref tk, .ref re, .ref qu, .int (iI hd), .int (iI tl), .ref nm, .int (iI 10)])), (b, .inl (gI G, 4096, .inl (arI y))), (nm, .inl (gI G, 14, .inl (arI (lstN nb3 10))))]) (st2 := []) C (ct_X11_lostName G (kl k) h a b tk re qu nm hd tl n3 nb3) gX11_115 dX11_entries_75 0 rfl rfl rfl rfl rfl (Nat.le_of_ble_eq_true rfl) (by decide) [0, 2] rfl (by decide) [h, nm] rfl rfl rfl rfl ?_
                        refine w_aload_n C 0 dX11_entries_78 rfl ?_
                        refine w_iload_n C 3 dX11_entries_79 rfl ?_
                        refine w_iconst C dX11_entries_80 ?_
                        refine w_callV (As := [.int (iI (ep y i p)), .int (iI 2)]) (rest := []) (w2 := [(h, .inr (9, [.ref a, .ref b, .ref tk, .ref re, .ref qu, .int (iI hd), .int (iI tl), .ref nm, .int (iI 10)])), (b, .inl (gI G, 4096, .inl (arI (we y (ep y i p) 2 (lstN nb3 10) 10)))), (nm, .inl (gI G, 14, .inl (arI (lstN nb3 10))))]) (st2 := []) C (ct_X11_write G (kl k) h a b tk re qu nm hd tl 10 y (lstN nb3 10) (ep y i p) 2 (by omega) (by omega) (by omega)) gX11_112 dX11_entries_81 0 rfl rfl rfl rfl rfl (Nat.le_of_ble_eq_true rfl) (by decide) [0, 1, 2] rfl (by decide) [h, b, nm] rfl rfl rfl rfl ?_
                        refine w_goto C 103 dX11_entries_84 rfl ?_
                        refine w_arr (e := plS i p y) (ws2 := [(h, .inr (9, [.ref a, .ref b, .ref tk, .ref re, .ref qu, .int (iI hd), .int (iI tl), .ref nm, .int (iI 10)])), (b, .inl (gI G, 4096, .inl (arI (plS i p y)))), (nm, .inl (gI G, 14, .inl (arI (lstN nb3 10))))]) 1 rfl (fun j _ _ => congrArg (fun z : Im => z.1 j) (by first | exact (pl_dots nb3 (by omega)).symm | exact (pl_lost nb3 (by omega) (by omega) (by omega)).symm | exact (pl_val hW2 hdr (by omega) (by omega) hT2 (by omega) hv).symm | exact (pl_wipe hW2 hdr (by omega) (by omega) hT2 (by omega) hv).symm)) rfl ?_
                        refine w_iinc (lv2 := [(0, .ref h), (1, .int (iI i)), (2, .int (iI (p + 1))), (3, .int (iI (ep y i p)))]) C 2 dX11_entries_103 rfl (by decide) rfl ?_
                        refine w_goto C 10 dX11_entries_106 rfl ?_
                        refine w_lv (lv2 := [(0, .ref h), (1, .int (iI i)), (2, .int (iI (p + 1)))]) [0, 1, 2] rfl ?_
                        exact ih_10 _ (by rw [cg_sz hW2 hdr h3 (by omega) (plS_cg hW2 hdr h3 (by omega))]; omega) (p + 1) (plS i p y) (lstN nb3 10) 10 (by omega) (by omega) (cg_WF hW2 hdr h3 (by omega) (plS_cg hW2 hdr h3 (by omega))) (fun _ => ⟨by rw [cg_sz hW2 hdr h3 (by omega) (plS_cg hW2 hdr h3 (by omega))]; omega, TY_s hW2 hdr h3 (by omega) hT2⟩) (DEn_s hW2 hdr h3 (by omega) (by omega) hD2) (by rw [hp2, if_pos hdr.2.2, cg_kd hW2 hdr h3 (by omega) (plS_cg hW2 hdr h3 (by omega)), cg_sz hW2 hdr h3 (by omega) (plS_cg hW2 hdr h3 (by omega)), if_pos hdr.2.2, show (sz y i / 16 - p).toNat = (sz y i / 16 - (p + 1)).toNat + 1 by omega, tpl]) rfl
                · refine w_aload_n C 0 dX11_entries_40 rfl ?_
                  refine w_iload_n C 2 dX11_entries_41 rfl ?_
                  refine w_iconst C dX11_entries_42 ?_
                  refine w_iadd C dX11_entries_43 ?_
                  refine w_callV (As := [.int (iI (p + 1))]) (rest := []) (w2 := [(h, .inr (9, [.ref a, .ref b, .ref tk, .ref re, .ref qu, .int (iI hd), .int (iI tl), .ref nm, .int (iI (p + 1))])), (b, .inl (gI G, 4096, .inl (arI y))), (nm, .inl (gI G, 14, .inl (arI (dotN nb3 (p + 1).toNat))))]) (st2 := []) C (ct_X11_dots G (kl k) h a b tk re qu nm hd tl n3 nb3 (p + 1) (by omega)) gX11_109 dX11_entries_44 0 rfl rfl rfl rfl rfl (Nat.le_of_ble_eq_true rfl) (by decide) [0, 2] rfl (by decide) [h, nm] rfl rfl rfl rfl ?_
                  refine w_aload_n C 0 dX11_entries_47 rfl ?_
                  refine w_iload_n C 3 dX11_entries_48 rfl ?_
                  refine w_iload_n C 1 dX11_entries_49 rfl ?_
                  refine w_callV (As := [.int (iI (ep y i p)), .int (iI i)]) (rest := []) (w2 := [(h, .inr (9, [.ref a, .ref b, .ref tk, .ref re, .ref qu, .int (iI hd), .int (iI tl), .ref nm, .int (iI (p + 1))])), (b, .inl (gI G, 4096, .inl (arI (we y (ep y i p) i (dotN nb3 (p + 1).toNat) (p + 1))))), (nm, .inl (gI G, 14, .inl (arI (dotN nb3 (p + 1).toNat))))]) (st2 := []) C (ct_X11_write G (kl k) h a b tk re qu nm hd tl (p + 1) y (dotN nb3 (p + 1).toNat) (ep y i p) i (by omega) (by omega) (by omega)) gX11_112 dX11_entries_50 0 rfl rfl rfl rfl rfl (Nat.le_of_ble_eq_true rfl) (by decide) [0, 1, 2] rfl (by decide) [h, b, nm] rfl rfl rfl rfl ?_
                  refine w_goto C 103 dX11_entries_53 rfl ?_
                  refine w_arr (e := plS i p y) (ws2 := [(h, .inr (9, [.ref a, .ref b, .ref tk, .ref re, .ref qu, .int (iI hd), .int (iI tl), .ref nm, .int (iI (p + 1))])), (b, .inl (gI G, 4096, .inl (arI (plS i p y)))), (nm, .inl (gI G, 14, .inl (arI (dotN nb3 (p + 1).toNat))))]) 1 rfl (fun j _ _ => congrArg (fun z : Im => z.1 j) (by first | exact (pl_dots nb3 (by omega)).symm | exact (pl_lost nb3 (by omega) (by omega) (by omega)).symm | exact (pl_val hW2 hdr (by omega) (by omega) hT2 (by omega) hv).symm | exact (pl_wipe hW2 hdr (by omega) (by omega) hT2 (by omega) hv).symm)) rfl ?_
                  refine w_iinc (lv2 := [(0, .ref h), (1, .int (iI i)), (2, .int (iI (p + 1))), (3, .int (iI (ep y i p)))]) C 2 dX11_entries_103 rfl (by decide) rfl ?_
                  refine w_goto C 10 dX11_entries_106 rfl ?_
                  refine w_lv (lv2 := [(0, .ref h), (1, .int (iI i)), (2, .int (iI (p + 1)))]) [0, 1, 2] rfl ?_
                  exact ih_10 _ (by rw [cg_sz hW2 hdr h3 (by omega) (plS_cg hW2 hdr h3 (by omega))]; omega) (p + 1) (plS i p y) (dotN nb3 (p + 1).toNat) (p + 1) (by omega) (by omega) (cg_WF hW2 hdr h3 (by omega) (plS_cg hW2 hdr h3 (by omega))) (fun _ => ⟨by rw [cg_sz hW2 hdr h3 (by omega) (plS_cg hW2 hdr h3 (by omega))]; omega, TY_s hW2 hdr h3 (by omega) hT2⟩) (DEn_s hW2 hdr h3 (by omega) (by omega) hD2) (by rw [hp2, if_pos hdr.2.2, cg_kd hW2 hdr h3 (by omega) (plS_cg hW2 hdr h3 (by omega)), cg_sz hW2 hdr h3 (by omega) (plS_cg hW2 hdr h3 (by omega)), if_pos hdr.2.2, show (sz y i / 16 - p).toNat = (sz y i / 16 - (p + 1)).toNat + 1 by omega, tpl]) rfl
        exact L_10 _ 0 x nb2 n2 (by omega) hn2 hW (fun _ => ⟨by have w := sz_rg x i; omega, fun q a b => by omega⟩) hD (by rw [hp, show (32 - i).toNat = (32 - (i + 1)).toNat + 1 by omega, tdr]; unfold tpD; rw [Int.sub_zero]) rfl
  exact L_2 _ 1 d nb nl (by omega) hnl hw (fun j a b => by have w := a.1; omega) (by rw [show ((32 : Int) - 1).toNat = 31 from rfl]) rfl
