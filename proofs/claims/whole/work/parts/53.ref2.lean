theorem gX11_65 : cwv RX11 65 yX11_clear cX11_clear 4 none 2 883 885 21 74 886 := by decide +kernel
set_option maxHeartbeats 4000000 in
set_option maxRecDepth 100000 in
theorem ct_X11_write (G : GX) (l : Launch) (h : Nat) (a : Nat) (b : Nat) (tk : Nat) (re : Nat) (qu : Nat) (nm : Nat) (hd : Int) (tl : Int) (nl : Int) (d : Im) (nb : Im) (p : Int) (i : Int) (hnl : 0 ≤ nl ∧ nl ≤ 14) (hp : 0 ≤ p ∧ p ≤ 4080) (hi : 0 ≤ i ∧ i < 256) : Ct G l yX11_write cX11_write 4 none rmX11_write [.ref h, .int (iI p), .int (iI i)] [(h, .inr (9, [.ref a, .ref b, .ref tk, .ref re, .ref qu, .int (iI hd), .int (iI tl), .ref nm, .int (iI nl)])), (b, .inl (gI G, 4096, .inl (arI d))), (nm, .inl (gI G, 14, .inl (arI nb)))] none [(h, .inr (9, [.ref a, .ref b, .ref tk, .ref re, .ref qu, .int (iI hd), .int (iI tl), .ref nm, .int (iI nl)])), (b, .inl (gI G, 4096, .inl (arI (we d p i nb nl)))), (nm, .inl (gI G, 14, .inl (arI nb)))] := by
  refine Ct.of (by decide) (Nat.le_of_ble_eq_true rfl) ?_
  intro k C hl hret
  subst hl
  refine w_lv (lv2 := [(0, .ref h), (1, .int (iI p)), (2, .int (iI i))]) [0, 1, 2] rfl ?_
  refine w_aload_n C 0 dX11_write_0 rfl ?_
  refine w_iload_n C 1 dX11_write_1 rfl ?_
  refine w_bipush C dX11_write_2 (by decide) ?_
  refine w_callV (As := [.int (iI p), .int (iI 16)]) (rest := []) (w2 := [(h, .inr (9, [.ref a, .ref b, .ref tk, .ref re, .ref qu, .int (iI hd), .int (iI tl), .ref nm, .int (iI nl)])), (b, .inl (gI G, 4096, .inl (arI (im_wipe d p 16)))), (nm, .inl (gI G, 14, .inl (arI nb)))]) (st2 := []) C (ct_X11_clear G (kl k) h a b tk re qu nm hd tl nl d p 16 (by unfold rgP; omega)) gX11_65 dX11_write_4 0 rfl rfl rfl rfl rfl (Nat.le_of_ble_eq_true rfl) (by decide) [0, 1] rfl (by decide) [h, b] rfl rfl rfl rfl ?_
  refine w_aload_n C 0 dX11_write_7 rfl ?_
  refine w_get C 0 1 847 dX11_write_8 rfl rfl inX11 (by decide) (by decide +kernel) rfl ?_
  refine w_iload_n C 1 dX11_write_11 rfl ?_
  refine w_iload_n C 2 dX11_write_12 rfl ?_
  refine w_iast (ws2 := [(h, .inr (9, [.ref a, .ref b, .ref tk, .ref re, .ref qu, .int (iI hd), .int (iI tl), .ref nm, .int (iI nl)])), (b, .inl (gI G, 4096, .inl (arI (up (im_wipe d p 16) p i)))), (nm, .inl (gI G, 14, .inl (arI nb)))]) C 1 dX11_write_13 rfl (by omega) (by omega) rfl ?_
  refine w_aload_n C 0 dX11_write_14 rfl ?_
  refine w_get C 0 1 847 dX11_write_15 rfl rfl inX11 (by decide) (by decide +kernel) rfl ?_
  refine w_iload_n C 1 dX11_write_18 rfl ?_
  refine w_iconst C dX11_write_19 ?_
  refine w_iadd C dX11_write_20 ?_
  refine w_aload_n C 0 dX11_write_21 rfl ?_
  refine w_get C 0 8 854 dX11_write_22 rfl rfl inX11 (by decide) (by decide +kernel) rfl ?_
  refine w_iast (ws2 := [(h, .inr (9, [.ref a, .ref b, .ref tk, .ref re, .ref qu, .int (iI hd), .int (iI tl), .ref nm, .int (iI nl)])), (b, .inl (gI G, 4096, .inl (arI (up (up (im_wipe d p 16) p i) (p + 1) nl)))), (nm, .inl (gI G, 14, .inl (arI nb)))]) C 1 dX11_write_25 rfl (by omega) (by omega) rfl ?_
  refine w_iconst C dX11_write_26 ?_
  refine w_istore_n (lv2 := [(0, .ref h), (1, .int (iI p)), (2, .int (iI i)), (3, .int (iI 0))]) C dX11_write_27 (by decide) rfl ?_
  have L_28 : ∀ (nn_28 : Nat) (j : Int) (x : Im), (0 ≤ j ∧ j ≤ nl) → (x = wek (im_set (im_set (im_wipe d p 16) p i) (p + 1) nl) p nb nl j.toNat) → (nl - j).toNat = nn_28 → Wd G k 4 0 0 [(h, .inr (9, [.ref a, .ref b, .ref tk, .ref re, .ref qu, .int (iI hd), .int (iI tl), .ref nm, .int (iI nl)])), (b, .inl (gI G, 4096, .inl (arI x))), (nm, .inl (gI G, 14, .inl (arI nb)))] 28 [(0, .ref h), (1, .int (iI p)), (2, .int (iI i)), (3, .int (iI j))] [] := by
    intro nn_28
    induction nn_28 using Nat.strongRecOn with
    | ind nn_28 ih_28 =>
      intro j x h1 h2 hm_28
      refine w_iload_n C 3 dX11_write_28 rfl ?_
      refine w_aload_n C 0 dX11_write_29 rfl ?_
      refine w_get C 0 8 854 dX11_write_30 rfl rfl inX11 (by decide) (by decide +kernel) rfl ?_
      refine w_icmp_ge C 58 dX11_write_33 rfl (by omega) (fun c_1 => ?_) (fun c_1 => ?_)
      · exact w_retv hret dX11_write_58 rfl rfl rfl ⟨rfl, (by unfold we; rw [h2, show j = nl by omega])⟩
      · refine w_aload_n C 0 dX11_write_36 rfl ?_
        refine w_get C 0 1 847 dX11_write_37 rfl rfl inX11 (by decide) (by decide +kernel) rfl ?_
        refine w_iload_n C 1 dX11_write_40 rfl ?_
        refine w_iconst C dX11_write_41 ?_
        refine w_iadd C dX11_write_42 ?_
        refine w_iload_n C 3 dX11_write_43 rfl ?_
        refine w_iadd C dX11_write_44 ?_
        refine w_aload_n C 0 dX11_write_45 rfl ?_
        refine w_get C 0 7 853 dX11_write_46 rfl rfl inX11 (by decide) (by decide +kernel) rfl ?_
        refine w_iload_n C 3 dX11_write_49 rfl ?_
        refine w_iald C 2 dX11_write_50 rfl (by omega) ?_
        have b_2 := nb.2 j
        refine w_iast (ws2 := [(h, .inr (9, [.ref a, .ref b, .ref tk, .ref re, .ref qu, .int (iI hd), .int (iI tl), .ref nm, .int (iI nl)])), (b, .inl (gI G, 4096, .inl (arI (up x ((p + 2) + j) (nb.1 j))))), (nm, .inl (gI G, 14, .inl (arI nb)))]) C 1 dX11_write_51 rfl (by omega) (by omega) rfl ?_
        refine w_iinc (lv2 := [(0, .ref h), (1, .int (iI p)), (2, .int (iI i)), (3, .int (iI (j + 1)))]) C 3 dX11_write_52 rfl (by decide) rfl ?_
        refine w_goto C 28 dX11_write_55 rfl ?_
        exact ih_28 _ (by omega) (j + 1) (up x ((p + 2) + j) (nb.1 j)) (by omega) (by rw [show (j + 1).toNat = j.toNat + 1 by omega, wek, ← h2, show ((j.toNat : Nat) : Int) = j by omega, im_set_in _ (by omega), nm_at_in _ (by omega)]) rfl
  exact L_28 _ 0 (up (up (im_wipe d p 16) p i) (p + 1) nl) (by omega) (by rw [im_set_in _ (by omega), im_set_in _ (by omega)]; rfl) rfl

set_option maxHeartbeats 4000000 in
set_option maxRecDepth 100000 in
theorem ct_X11_dots (G : GX) (l : Launch) (h : Nat) (a : Nat) (b : Nat) (tk : Nat) (re : Nat) (qu : Nat) (nm : Nat) (hd : Int) (tl : Int) (nl : Int) (nb : Im) (n : Int) (hn : 0 ≤ n ∧ n ≤ 14) : Ct G l yX11_dots cX11_dots 3 none rmX11_dots [.ref h, .int (iI n)] [(h, .inr (9, [.ref a, .ref b, .ref tk, .ref re, .ref qu, .int (iI hd), .int (iI tl), .ref nm, .int (iI nl)])), (nm, .inl (gI G, 14, .inl (arI nb)))] none [(h, .inr (9, [.ref a, .ref b, .ref tk, .ref re, .ref qu, .int (iI hd), .int (iI tl), .ref nm, .int (iI n)])), (nm, .inl (gI G, 14, .inl (arI (dotN nb n.toNat))))] := by
  refine Ct.of (by decide) (Nat.le_of_ble_eq_true rfl) ?_
  intro k C hl hret
  subst hl
  refine w_lv (lv2 := [(0, .ref h), (1, .int (iI n))]) [0, 1] rfl ?_
  refine w_aload_n C 0 dX11_dots_0 rfl ?_
  refine w_iload_n C 1 dX11_dots_1 rfl ?_
  refine w_put (ty := .int) (ws2 := [(h, .inr (9, [.ref a, .ref b, .ref tk, .ref re, .ref qu, .int (iI hd), .int (iI tl), .ref nm, .int (iI n)])), (nm, .inl (gI G, 14, .inl (arI nb)))]) C 0 8 854 dX11_dots_2 rfl rfl inX11 tyX11_ok nmX11 (by decide) (by decide +kernel) rfl (by decide +kernel) rfl rfl (Nat.le_of_ble_eq_true rfl) rfl ?_
  refine w_iconst C dX11_dots_5 ?_
  refine w_istore_n (lv2 := [(0, .ref h), (1, .int (iI n)), (2, .int (iI 0))]) C dX11_dots_6 (by decide) rfl ?_
  have L_7 : ∀ (nn_7 : Nat) (j : Int) (x : Im), (0 ≤ j ∧ j ≤ n) → (x = dotN nb j.toNat) → (n - j).toNat = nn_7 → Wd G k 3 0 0 [(h, .inr (9, [.ref a, .ref b, .ref tk, .ref re, .ref qu, .int (iI hd), .int (iI tl), .ref nm, .int (iI n)])), (nm, .inl (gI G, 14, .inl (arI x)))] 7 [(0, .ref h), (1, .int (iI n)), (2, .int (iI j))] [] := by
    intro nn_7
    induction nn_7 using Nat.strongRecOn with
    | ind nn_7 ih_7 =>
      intro j x h1 h2 hm_7
      refine w_iload_n C 2 dX11_dots_7 rfl ?_
      refine w_iload_n C 1 dX11_dots_8 rfl ?_
      refine w_icmp_ge C 26 dX11_dots_9 rfl (by omega) (fun c_1 => ?_) (fun c_1 => ?_)
      · exact w_retv hret dX11_dots_26 rfl rfl rfl ⟨rfl, (by rw [h2, show j = n by omega])⟩
      · refine w_aload_n C 0 dX11_dots_12 rfl ?_
        refine w_get C 0 7 853 dX11_dots_13 rfl rfl inX11 (by decide) (by decide +kernel) rfl ?_
        refine w_iload_n C 2 dX11_dots_16 rfl ?_
        refine w_bipush C dX11_dots_17 (by decide) ?_
        refine w_iast (ws2 := [(h, .inr (9, [.ref a, .ref b, .ref tk, .ref re, .ref qu, .int (iI hd), .int (iI tl), .ref nm, .int (iI n)])), (nm, .inl (gI G, 14, .inl (arI (up x j 46))))]) C 1 dX11_dots_19 rfl (by omega) (by omega) rfl ?_
        refine w_iinc (lv2 := [(0, .ref h), (1, .int (iI n)), (2, .int (iI (j + 1)))]) C 2 dX11_dots_20 rfl (by decide) rfl ?_
        refine w_goto C 7 dX11_dots_23 rfl ?_
        exact ih_7 _ (by omega) (j + 1) (up x j 46) (by omega) (by rw [show (j + 1).toNat = j.toNat + 1 by omega, dotN, ← h2, show ((j.toNat : Nat) : Int) = j by omega]) rfl
  exact L_7 _ 0 nb (by omega) rfl rfl

theorem gX11_84 : cwv RX11 84 yJ0_charAt_5068e cJ0_charAt_5068e 2 (some .char) 1 1000 294 295 77 296 := by decide +kernel
set_option maxHeartbeats 4000000 in
set_option maxRecDepth 100000 in
theorem ct_X11_lostName (G : GX) (l : Launch) (h : Nat) (a : Nat) (b : Nat) (tk : Nat) (re : Nat) (qu : Nat) (nm : Nat) (hd : Int) (tl : Int) (nl : Int) (nb : Im) : Ct G l yX11_lostName cX11_lostName 3 none rmX11_lostName [.ref h] [(h, .inr (9, [.ref a, .ref b, .ref tk, .ref re, .ref qu, .int (iI hd), .int (iI tl), .ref nm, .int (iI nl)])), (nm, .inl (gI G, 14, .inl (arI nb)))] none [(h, .inr (9, [.ref a, .ref b, .ref tk, .ref re, .ref qu, .int (iI hd), .int (iI tl), .ref nm, .int (iI 10)])), (nm, .inl (gI G, 14, .inl (arI (lstN nb 10))))] := by
  refine Ct.of (by decide) (Nat.le_of_ble_eq_true rfl) ?_
  intro k C hl hret
  subst hl
  refine w_lv (lv2 := [(0, .ref h)]) [0] rfl ?_
  refine w_ldcS C dX11_lostName_0 C.2.2.2.2.2.2.2.1.2.2.2.2.2.2.2.2.1 ?_
  refine w_astore_n (lv2 := [(0, .ref h), (1, .ref (gK G 4))]) C dX11_lostName_2 (by decide) rfl ?_
  refine w_aload_n C 0 dX11_lostName_3 rfl ?_
  refine w_bipush C dX11_lostName_4 (by decide) ?_
  refine w_put (ty := .int) (ws2 := [(h, .inr (9, [.ref a, .ref b, .ref tk, .ref re, .ref qu, .int (iI hd), .int (iI tl), .ref nm, .int (iI 10)])), (nm, .inl (gI G, 14, .inl (arI nb)))]) C 0 8 854 dX11_lostName_6 rfl rfl inX11 tyX11_ok nmX11 (by decide) (by decide +kernel) rfl (by decide +kernel) rfl rfl (Nat.le_of_ble_eq_true rfl) rfl ?_
  refine w_iconst C dX11_lostName_9 ?_
  refine w_istore_n (lv2 := [(0, .ref h), (1, .ref (gK G 4)), (2, .int (iI 0))]) C dX11_lostName_10 (by decide) rfl ?_
  have L_11 : ∀ (nn_11 : Nat) (j : Int) (x : Im), (0 ≤ j ∧ j ≤ 10) → (x = lstN nb j.toNat) → (10 - j).toNat = nn_11 → Wd G k 3 0 0 [(h, .inr (9, [.ref a, .ref b, .ref tk, .ref re, .ref qu, .int (iI hd), .int (iI tl), .ref nm, .int (iI 10)])), (nm, .inl (gI G, 14, .inl (arI x)))] 11 [(0, .ref h), (1, .ref (gK G 4)), (2, .int (iI j))] [] := by
    intro nn_11
    induction nn_11 using Nat.strongRecOn with
    | ind nn_11 ih_11 =>
      intro j x h1 h2 hm_11
      have t4 : tn 4 = 10 := rfl
      refine w_iload_n C 2 dX11_lostName_11 rfl ?_
      refine w_bipush C dX11_lostName_12 (by decide) ?_
      refine w_icmp_ge C 34 dX11_lostName_14 rfl (by omega) (fun c_1 => ?_) (fun c_1 => ?_)
      · exact w_retv hret dX11_lostName_34 rfl rfl rfl ⟨rfl, (by rw [h2, show j.toNat = 10 by omega])⟩
      · refine w_aload_n C 0 dX11_lostName_17 rfl ?_
        refine w_get C 0 7 853 dX11_lostName_18 rfl rfl inX11 (by decide) (by decide +kernel) rfl ?_
        refine w_iload_n C 2 dX11_lostName_21 rfl ?_
        refine w_aload_n C 1 dX11_lostName_22 rfl ?_
        refine w_iload_n C 2 dX11_lostName_23 rfl ?_
        refine w_callT (t := 4) (As := [.int (iI j)]) (rest := [.int (iI j), .ref nm]) (st2 := [.int (iI (tx 4 j)), .int (iI j), .ref nm]) C (by omega) (ct_J0_charAt_5068e G (kl k) 4 j (by decide) (by omega)) gX11_84 dX11_lostName_24 rfl rfl rfl (Nat.le_of_ble_eq_true rfl) (by decide) rfl ?_
        have f_2 := @tx_rg 4 j (by omega) (by omega)
        refine w_iast (ws2 := [(h, .inr (9, [.ref a, .ref b, .ref tk, .ref re, .ref qu, .int (iI hd), .int (iI tl), .ref nm, .int (iI 10)])), (nm, .inl (gI G, 14, .inl (arI (up x j (tx 4 j)))))]) C 1 dX11_lostName_27 rfl (by omega) (by omega) rfl ?_
        refine w_iinc (lv2 := [(0, .ref h), (1, .ref (gK G 4)), (2, .int (iI (j + 1)))]) C 2 dX11_lostName_28 rfl (by decide) rfl ?_
        refine w_goto C 11 dX11_lostName_31 rfl ?_
        exact ih_11 _ (by omega) (j + 1) (up x j (tx 4 j)) (by omega) (by rw [show (j + 1).toNat = j.toNat + 1 by omega, lstN, ← h2, show ((j.toNat : Nat) : Int) = j by omega]) rfl
  exact L_11 _ 0 nb (by omega) rfl rfl

set_option maxHeartbeats 4000000 in
set_option maxRecDepth 100000 in
theorem ct_X11_isName (G : GX) (l : Launch) (h : Nat) (a : Nat) (b : Nat) (tk : Nat) (re : Nat) (qu : Nat) (nm : Nat) (hd : Int) (tl : Int) (nl : Int) (d : Im) (nb : Im) (p : Int) (hnl : 0 ≤ nl ∧ nl ≤ 14) (hp : 0 ≤ p ∧ p ≤ 4080) : Ct G l yX11_isName cX11_isName 4 (some .boolean) rmX11_isName [.ref h, .int (iI p)] [(h, .inr (9, [.ref a, .ref b, .ref tk, .ref re, .ref qu, .int (iI hd), .int (iI tl), .ref nm, .int (iI nl)])), (b, .inl (gI G, 4096, .inl (arI d))), (nm, .inl (gI G, 14, .inl (arI nb)))] (some (.int (iI (bI (nmd d p nb nl))))) [(h, .inr (9, [.ref a, .ref b, .ref tk, .ref re, .ref qu, .int (iI hd), .int (iI tl), .ref nm, .int (iI nl)])), (b, .inl (gI G, 4096, .inl (arI d))), (nm, .inl (gI G, 14, .inl (arI nb)))] := by
  refine Ct.of (by decide) (Nat.le_of_ble_eq_true rfl) ?_
  intro k C hl hret
  subst hl
  refine w_lv (lv2 := [(0, .ref h), (1, .int (iI p))]) [0, 1] rfl ?_
  refine w_aload_n C 0 dX11_isName_0 rfl ?_
  refine w_get C 0 1 847 dX11_isName_1 rfl rfl inX11 (by decide) (by decide +kernel) rfl ?_
  refine w_iload_n C 1 dX11_isName_4 rfl ?_
  refine w_iconst C dX11_isName_5 ?_
  refine w_iadd C dX11_isName_6 ?_
  refine w_iald C 1 dX11_isName_7 rfl (by omega) ?_
  have b_1 := d.2 (p + 1)
  refine w_aload_n C 0 dX11_isName_8 rfl ?_
  refine w_get C 0 8 854 dX11_isName_9 rfl rfl inX11 (by decide) (by decide +kernel) rfl ?_
  refine w_icmp_ne C 19 dX11_isName_12 rfl (by omega) (fun c_2 => ?_) (fun c_2 => ?_)
  · refine w_iconst C dX11_isName_19 ?_
    refine w_istore_n (lv2 := [(0, .ref h), (1, .int (iI p)), (2, .int (iI 0))]) C dX11_isName_20 (by decide) rfl ?_
    refine w_iconst C dX11_isName_21 ?_
    refine w_istore_n (lv2 := [(0, .ref h), (1, .int (iI p)), (2, .int (iI 0)), (3, .int (iI 0))]) C dX11_isName_22 (by decide) rfl ?_
    have L_23 : ∀ (nn_23 : Nat) (j : Int) (s : Int), (0 ≤ j ∧ j ≤ nl) → (s = bI (decide (im_at d (p + 1) = nl) && nmk d p nb nl j.toNat)) → (nl - j).toNat = nn_23 → Wd G k 4 0 0 [(h, .inr (9, [.ref a, .ref b, .ref tk, .ref re, .ref qu, .int (iI hd), .int (iI tl), .ref nm, .int (iI nl)])), (b, .inl (gI G, 4096, .inl (arI d))), (nm, .inl (gI G, 14, .inl (arI nb)))] 23 [(0, .ref h), (1, .int (iI p)), (2, .int (iI s)), (3, .int (iI j))] [] := by
      intro nn_23
      induction nn_23 using Nat.strongRecOn with
      | ind nn_23 ih_23 =>
        intro j s h1 h3 hm_23
        have q1 := bI_rg (decide (im_at d (p + 1) = nl) && nmk d p nb nl j.toNat)
        refine w_iload_n C 3 dX11_isName_23 rfl ?_
        refine w_aload_n C 0 dX11_isName_24 rfl ?_
        refine w_get C 0 8 854 dX11_isName_25 rfl rfl inX11 (by decide) (by decide +kernel) rfl ?_
        refine w_icmp_ge C 66 dX11_isName_28 rfl (by omega) (fun c_3 => ?_) (fun c_3 => ?_)
        · refine w_iload_n C 2 dX11_isName_66 rfl ?_
          refine w_st (st2 := [.int (iI (bI (decide (im_at d (p + 1) = nl) && nmk d p nb nl j.toNat)))]) (by rw [h3]) ?_
          exact w_reti hret dX11_isName_67 rfl (nar_b _) rfl rfl ⟨congrArg (fun z => some (Value.int (iI (bI z)))) (by unfold nmd; rw [show j = nl by omega]), rfl⟩
        · refine w_iload_n C 2 dX11_isName_31 rfl ?_
          refine w_if_eq C 58 dX11_isName_32 rfl (by omega) (fun c_4 => ?_) (fun c_4 => ?_)
          · refine w_iconst C dX11_isName_58 ?_
            refine w_istore_n (lv2 := [(0, .ref h), (1, .int (iI p)), (2, .int (iI 0)), (3, .int (iI j))]) C dX11_isName_59 (by decide) rfl ?_
            refine w_iinc (lv2 := [(0, .ref h), (1, .int (iI p)), (2, .int (iI 0)), (3, .int (iI (j + 1)))]) C 3 dX11_isName_60 rfl (by decide) rfl ?_
            refine w_goto C 23 dX11_isName_63 rfl ?_
            exact ih_23 _ (by omega) (j + 1) 0 (by omega) (by rw [show (j + 1).toNat = j.toNat + 1 by omega, nmk, show ((j.toNat : Nat) : Int) = j by omega, im_at_in d (p := p + 2 + j) (by omega), nm_at_in nb (by omega), ← Bool.and_assoc]; cases z : (decide (im_at d (p + 1) = nl) && nmk d p nb nl j.toNat) with | false => (rw [z] at h3; first | rfl | (exfalso; change s = 0 at h3; omega)) | true => (rw [z] at h3; change s = 1 at h3; first | (rw [decide_eq_true (by omega)]; rfl) | (rw [decide_eq_false (by omega)]; rfl) | (exfalso; omega))) rfl
          · refine w_aload_n C 0 dX11_isName_35 rfl ?_
            refine w_get C 0 1 847 dX11_isName_36 rfl rfl inX11 (by decide) (by decide +kernel) rfl ?_
            refine w_iload_n C 1 dX11_isName_39 rfl ?_
            refine w_iconst C dX11_isName_40 ?_
            refine w_iadd C dX11_isName_41 ?_
            refine w_iload_n C 3 dX11_isName_42 rfl ?_
            refine w_iadd C dX11_isName_43 ?_
            refine w_iald C 1 dX11_isName_44 rfl (by omega) ?_
            have b_5 := d.2 ((p + 2) + j)
            refine w_aload_n C 0 dX11_isName_45 rfl ?_
            refine w_get C 0 7 853 dX11_isName_46 rfl rfl inX11 (by decide) (by decide +kernel) rfl ?_
            refine w_iload_n C 3 dX11_isName_49 rfl ?_
            refine w_iald C 2 dX11_isName_50 rfl (by omega) ?_
            have b_6 := nb.2 j
            refine w_icmp_ne C 58 dX11_isName_51 rfl (by omega) (fun c_7 => ?_) (fun c_7 => ?_)
            · refine w_iconst C dX11_isName_58 ?_
              refine w_istore_n (lv2 := [(0, .ref h), (1, .int (iI p)), (2, .int (iI 0)), (3, .int (iI j))]) C dX11_isName_59 (by decide) rfl ?_
              refine w_iinc (lv2 := [(0, .ref h), (1, .int (iI p)), (2, .int (iI 0)), (3, .int (iI (j + 1)))]) C 3 dX11_isName_60 rfl (by decide) rfl ?_
              refine w_goto C 23 dX11_isName_63 rfl ?_
              exact ih_23 _ (by omega) (j + 1) 0 (by omega) (by rw [show (j + 1).toNat = j.toNat + 1 by omega, nmk, show ((j.toNat : Nat) : Int) = j by omega, im_at_in d (p := p + 2 + j) (by omega), nm_at_in nb (by omega), ← Bool.and_assoc]; cases z : (decide (im_at d (p + 1) = nl) && nmk d p nb nl j.toNat) with | false => (rw [z] at h3; first | rfl | (exfalso; change s = 0 at h3; omega)) | true => (rw [z] at h3; change s = 1 at h3; first | (rw [decide_eq_true (by omega)]; rfl) | (rw [decide_eq_false (by omega)]; rfl) | (exfalso; omega))) rfl
            · refine w_iconst C dX11_isName_54 ?_
              refine w_goto C 59 dX11_isName_55 rfl ?_
              refine w_istore_n (lv2 := [(0, .ref h), (1, .int (iI p)), (2, .int (iI 1)), (3, .int (iI j))]) C dX11_isName_59 (by decide) rfl ?_
              refine w_iinc (lv2 := [(0, .ref h), (1, .int (iI p)), (2, .int (iI 1)), (3, .int (iI (j + 1)))]) C 3 dX11_isName_60 rfl (by decide) rfl ?_
              refine w_goto C 23 dX11_isName_63 rfl ?_
              exact ih_23 _ (by omega) (j + 1) 1 (by omega) (by rw [show (j + 1).toNat = j.toNat + 1 by omega, nmk, show ((j.toNat : Nat) : Int) = j by omega, im_at_in d (p := p + 2 + j) (by omega), nm_at_in nb (by omega), ← Bool.and_assoc]; cases z : (decide (im_at d (p + 1) = nl) && nmk d p nb nl j.toNat) with | false => (rw [z] at h3; first | rfl | (exfalso; change s = 0 at h3; omega)) | true => (rw [z] at h3; change s = 1 at h3; first | (rw [decide_eq_true (by omega)]; rfl) | (rw [decide_eq_false (by omega)]; rfl) | (exfalso; omega))) rfl
    exact L_23 _ 0 0 (by omega) (by rw [im_at_in d (by omega)]; first | (rw [decide_eq_true c_2]; rfl) | (rw [decide_eq_false c_2]; rfl)) rfl
  · refine w_iconst C dX11_isName_15 ?_
    refine w_goto C 20 dX11_isName_16 rfl ?_
    refine w_istore_n (lv2 := [(0, .ref h), (1, .int (iI p)), (2, .int (iI 1))]) C dX11_isName_20 (by decide) rfl ?_
    refine w_iconst C dX11_isName_21 ?_
    refine w_istore_n (lv2 := [(0, .ref h), (1, .int (iI p)), (2, .int (iI 1)), (3, .int (iI 0))]) C dX11_isName_22 (by decide) rfl ?_
    have L_23 : ∀ (nn_23 : Nat) (j : Int) (s : Int), (0 ≤ j ∧ j ≤ nl) → (s = bI (decide (im_at d (p + 1) = nl) && nmk d p nb nl j.toNat)) → (nl - j).toNat = nn_23 → Wd G k 4 0 0 [(h, .inr (9, [.ref a, .ref b, .ref tk, .ref re, .ref qu, .int (iI hd), .int (iI tl), .ref nm, .int (iI nl)])), (b, .inl (gI G, 4096, .inl (arI d))), (nm, .inl (gI G, 14, .inl (arI nb)))] 23 [(0, .ref h), (1, .int (iI p)), (2, .int (iI s)), (3, .int (iI j))] [] := by
      intro nn_23
      induction nn_23 using Nat.strongRecOn with
      | ind nn_23 ih_23 =>
        intro j s h1 h3 hm_23
        have q1 := bI_rg (decide (im_at d (p + 1) = nl) && nmk d p nb nl j.toNat)
        refine w_iload_n C 3 dX11_isName_23 rfl ?_
        refine w_aload_n C 0 dX11_isName_24 rfl ?_
        refine w_get C 0 8 854 dX11_isName_25 rfl rfl inX11 (by decide) (by decide +kernel) rfl ?_
        refine w_icmp_ge C 66 dX11_isName_28 rfl (by omega) (fun c_8 => ?_) (fun c_8 => ?_)
        · refine w_iload_n C 2 dX11_isName_66 rfl ?_
          refine w_st (st2 := [.int (iI (bI (decide (im_at d (p + 1) = nl) && nmk d p nb nl j.toNat)))]) (by rw [h3]) ?_
          exact w_reti hret dX11_isName_67 rfl (nar_b _) rfl rfl ⟨congrArg (fun z => some (Value.int (iI (bI z)))) (by unfold nmd; rw [show j = nl by omega]), rfl⟩
        · refine w_iload_n C 2 dX11_isName_31 rfl ?_
          refine w_if_eq C 58 dX11_isName_32 rfl (by omega) (fun c_9 => ?_) (fun c_9 => ?_)
          · refine w_iconst C dX11_isName_58 ?_
            refine w_istore_n (lv2 := [(0, .ref h), (1, .int (iI p)), (2, .int (iI 0)), (3, .int (iI j))]) C dX11_isName_59 (by decide) rfl ?_
            refine w_iinc (lv2 := [(0, .ref h), (1, .int (iI p)), (2, .int (iI 0)), (3, .int (iI (j + 1)))]) C 3 dX11_isName_60 rfl (by decide) rfl ?_
            refine w_goto C 23 dX11_isName_63 rfl ?_
            exact ih_23 _ (by omega) (j + 1) 0 (by omega) (by rw [show (j + 1).toNat = j.toNat + 1 by omega, nmk, show ((j.toNat : Nat) : Int) = j by omega, im_at_in d (p := p + 2 + j) (by omega), nm_at_in nb (by omega), ← Bool.and_assoc]; cases z : (decide (im_at d (p + 1) = nl) && nmk d p nb nl j.toNat) with | false => (rw [z] at h3; first | rfl | (exfalso; change s = 0 at h3; omega)) | true => (rw [z] at h3; change s = 1 at h3; first | (rw [decide_eq_true (by omega)]; rfl) | (rw [decide_eq_false (by omega)]; rfl) | (exfalso; omega))) rfl
          · refine w_aload_n C 0 dX11_isName_35 rfl ?_
            refine w_get C 0 1 847 dX11_isName_36 rfl rfl inX11 (by decide) (by decide +kernel) rfl ?_
            refine w_iload_n C 1 dX11_isName_39 rfl ?_
            refine w_iconst C dX11_isName_40 ?_
            refine w_iadd C dX11_isName_41 ?_
            refine w_iload_n C 3 dX11_isName_42 rfl ?_
            refine w_iadd C dX11_isName_43 ?_
            refine w_iald C 1 dX11_isName_44 rfl (by omega) ?_
            have b_10 := d.2 ((p + 2) + j)
            refine w_aload_n C 0 dX11_isName_45 rfl ?_
            refine w_get C 0 7 853 dX11_isName_46 rfl rfl inX11 (by decide) (by decide +kernel) rfl ?_
            refine w_iload_n C 3 dX11_isName_49 rfl ?_
            refine w_iald C 2 dX11_isName_50 rfl (by omega) ?_
            have b_11 := nb.2 j
            refine w_icmp_ne C 58 dX11_isName_51 rfl (by omega) (fun c_12 => ?_) (fun c_12 => ?_)
            · refine w_iconst C dX11_isName_58 ?_
              refine w_istore_n (lv2 := [(0, .ref h), (1, .int (iI p)), (2, .int (iI 0)), (3, .int (iI j))]) C dX11_isName_59 (by decide) rfl ?_
              refine w_iinc (lv2 := [(0, .ref h), (1, .int (iI p)), (2, .int (iI 0)), (3, .int (iI (j + 1)))]) C 3 dX11_isName_60 rfl (by decide) rfl ?_
              refine w_goto C 23 dX11_isName_63 rfl ?_
              exact ih_23 _ (by omega) (j + 1) 0 (by omega) (by rw [show (j + 1).toNat = j.toNat + 1 by omega, nmk, show ((j.toNat : Nat) : Int) = j by omega, im_at_in d (p := p + 2 + j) (by omega), nm_at_in nb (by omega), ← Bool.and_assoc]; cases z : (decide (im_at d (p + 1) = nl) && nmk d p nb nl j.toNat) with | false => (rw [z] at h3; first | rfl | (exfalso; change s = 0 at h3; omega)) | true => (rw [z] at h3; change s = 1 at h3; first | (rw [decide_eq_true (by omega)]; rfl) | (rw [decide_eq_false (by omega)]; rfl) | (exfalso; omega))) rfl
            · refine w_iconst C dX11_isName_54 ?_
              refine w_goto C 59 dX11_isName_55 rfl ?_
              refine w_istore_n (lv2 := [(0, .ref h), (1, .int (iI p)), (2, .int (iI 1)), (3, .int (iI j))]) C dX11_isName_59 (by decide) rfl ?_
              refine w_iinc (lv2 := [(0, .ref h), (1, .int (iI p)), (2, .int (iI 1)), (3, .int (iI (j + 1)))]) C 3 dX11_isName_60 rfl (by decide) rfl ?_
              refine w_goto C 23 dX11_isName_63 rfl ?_
              exact ih_23 _ (by omega) (j + 1) 1 (by omega) (by rw [show (j + 1).toNat = j.toNat + 1 by omega, nmk, show ((j.toNat : Nat) : Int) = j by omega, im_at_in d (p := p + 2 + j) (by omega), nm_at_in nb (by omega), ← Bool.and_assoc]; cases z : (decide (im_at d (p + 1) = nl) && nmk d p nb nl j.toNat) with | false => (rw [z] at h3; first | rfl | (exfalso; change s = 0 at h3; omega)) | true => (rw [z] at h3; change s = 1 at h3; first | (rw [decide_eq_true (by omega)]; rfl) | (rw [decide_eq_false (by omega)]; rfl) | (exfalso; omega))) rfl
    exact L_23 _ 0 1 (by omega) (by rw [im_at_in d (by omega)]; first | (rw [decide_eq_true c_2]; rfl) | (rw [decide_eq_false c_2]; rfl)) rfl

theorem gX11_73 : cwv RX11 73 yX11_entry cX11_entry 3 (some .int) 2 983 985 44 74 986 := by decide +kernel
theorem gX11_76 : cwv RX11 76 yX11_isName cX11_isName 4 (some .boolean) 1 1009 1011 50 74 1012 := by decide +kernel
set_option maxHeartbeats 4000000 in
set_option maxRecDepth 100000 in
theorem ct_X11_find (G : GX) (l : Launch) (h : Nat) (a : Nat) (b : Nat) (tk : Nat) (re : Nat) (qu : Nat) (nm : Nat) (hd : Int) (tl : Int) (nl : Int) (d : Im) (nb : Im) (i : Int) (z : Int) (hnl : 0 ≤ nl ∧ nl ≤ 14) (hi : 0 ≤ i ∧ i < 32) (hz : z ≤ 1000 ∧ -2147483648 ≤ z) (he : epA d i z) : Ct G l yX11_find cX11_find 4 (some .int) rmX11_find [.ref h, .int (iI i), .int (iI z)] [(h, .inr (9, [.ref a, .ref b, .ref tk, .ref re, .ref qu, .int (iI hd), .int (iI tl), .ref nm, .int (iI nl)])), (b, .inl (gI G, 4096, .inl (arI d))), (nm, .inl (gI G, 14, .inl (arI nb)))] (some (.int (iI (rfs d i nb nl (z - 2).toNat 2)))) [(h, .inr (9, [.ref a, .ref b, .ref tk, .ref re, .ref qu, .int (iI hd), .int (iI tl), .ref nm, .int (iI nl)])), (b, .inl (gI G, 4096, .inl (arI d))), (nm, .inl (gI G, 14, .inl (arI nb)))] := by
  refine Ct.of (by decide) (Nat.le_of_ble_eq_true rfl) ?_
  intro k C hl hret
  subst hl
  refine w_lv (lv2 := [(0, .ref h), (1, .int (iI i)), (2, .int (iI z))]) [0, 1, 2] rfl ?_
  refine w_iconst C dX11_find_0 ?_
  refine w_istore_n (lv2 := [(0, .ref h), (1, .int (iI i)), (2, .int (iI z)), (3, .int (iI 2))]) C dX11_find_1 (by decide) rfl ?_
  have L_2 : ∀ (nn_2 : Nat) (p : Int), (2 ≤ p ∧ (p ≤ z ∨ p = 2)) → (rfs d i nb nl (z - 2).toNat 2 = rfs d i nb nl (z - p).toNat p) → (z - p).toNat = nn_2 → Wd G k 4 0 0 [(h, .inr (9, [.ref a, .ref b, .ref tk, .ref re, .ref qu, .int (iI hd), .int (iI tl), .ref nm, .int (iI nl)])), (b, .inl (gI G, 4096, .inl (arI d))), (nm, .inl (gI G, 14, .inl (arI nb)))] 2 [(0, .ref h), (1, .int (iI i)), (2, .int (iI z)), (3, .int (iI p))] [] := by
    intro nn_2
    induction nn_2 using Nat.strongRecOn with
    | ind nn_2 ih_2 =>
      intro p h1 h2 hm_2
      refine w_iload_n C 3 dX11_find_2 rfl ?_
      refine w_iload_n C 2 dX11_find_3 rfl ?_
      refine w_icmp_ge C 42 dX11_find_4 rfl (by omega) (fun c_1 => ?_) (fun c_1 => ?_)
      · refine w_iconst C dX11_find_42 ?_
        exact w_reti hret dX11_find_43 rfl rfl rfl rfl ⟨congrArg (fun z => some (Value.int (iI z))) (by rw [h2, show (z - p).toNat = 0 by omega, rfs]), rfl⟩
      · refine w_aload_n C 0 dX11_find_7 rfl ?_
        refine w_get C 0 1 847 dX11_find_8 rfl rfl inX11 (by decide) (by decide +kernel) rfl ?_
        refine w_aload_n C 0 dX11_find_11 rfl ?_
        refine w_iload_n C 1 dX11_find_12 rfl ?_
        refine w_iload_n C 3 dX11_find_13 rfl ?_
        refine w_callV (As := [.int (iI i), .int (iI p)]) (rest := [.ref b]) (w2 := [(h, .inr (9, [.ref a, .ref b, .ref tk, .ref re, .ref qu, .int (iI hd), .int (iI tl), .ref nm, .int (iI nl)])), (b, .inl (gI G, 4096, .inl (arI d))), (nm, .inl (gI G, 14, .inl (arI nb)))]) (st2 := [.int (iI (ep d i p)), .ref b]) C (ct_X11_entry G (kl k) h a b tk re qu nm hd tl nl d i p (by omega) (by omega) (he p (by omega) (by omega))) gX11_73 dX11_find_14 0 rfl rfl rfl rfl rfl (Nat.le_of_ble_eq_true rfl) (by decide) [0, 1] rfl (by decide) [h, b] rfl rfl rfl rfl ?_
        have f_2 := ep_rg d i p
        have ne := he p (by omega) (by omega)
        refine w_iald C 1 dX11_find_17 rfl (by omega) ?_
        have b_3 := d.2 (ep d i p)
        refine w_if_eq C 36 dX11_find_18 rfl (by omega) (fun c_4 => ?_) (fun c_4 => ?_)
        · refine w_iinc (lv2 := [(0, .ref h), (1, .int (iI i)), (2, .int (iI z)), (3, .int (iI (p + 1)))]) C 3 dX11_find_36 rfl (by decide) rfl ?_
          refine w_goto C 2 dX11_find_39 rfl ?_
          exact ih_2 _ (by omega) (p + 1) (by omega) (by rw [h2, show (z - p).toNat = (z - (p + 1)).toNat + 1 by omega, rfs, im_at_in d (by omega), if_neg (by first | (rw [c_4]; simp; done) | (intro w; exact w.1 c_4))]) rfl
        · have hnz := c_4
          refine w_aload_n C 0 dX11_find_21 rfl ?_
          refine w_aload_n C 0 dX11_find_22 rfl ?_
          refine w_iload_n C 1 dX11_find_23 rfl ?_
          refine w_iload_n C 3 dX11_find_24 rfl ?_
          refine w_callV (As := [.int (iI i), .int (iI p)]) (rest := [.ref h]) (w2 := [(h, .inr (9, [.ref a, .ref b, .ref tk, .ref re, .ref qu, .int (iI hd), .int (iI tl), .ref nm, .int (iI nl)])), (b, .inl (gI G, 4096, .inl (arI d))), (nm, .inl (gI G, 14, .inl (arI nb)))]) (st2 := [.int (iI (ep d i p)), .ref h]) C (ct_X11_entry G (kl k) h a b tk re qu nm hd tl nl d i p (by omega) (by omega) (he p (by omega) (by omega))) gX11_73 dX11_find_25 0 rfl rfl rfl rfl rfl (Nat.le_of_ble_eq_true rfl) (by decide) [0, 1] rfl (by decide) [h, b] rfl rfl rfl rfl ?_
          have f_5 := ep_rg d i p
          refine w_callV (As := [.int (iI (ep d i p))]) (rest := []) (w2 := [(h, .inr (9, [.ref a, .ref b, .ref tk, .ref re, .ref qu, .int (iI hd), .int (iI tl), .ref nm, .int (iI nl)])), (b, .inl (gI G, 4096, .inl (arI d))), (nm, .inl (gI G, 14, .inl (arI nb)))]) (st2 := [.int (iI (bI (nmd d (ep d i p) nb nl)))]) C (ct_X11_isName G (kl k) h a b tk re qu nm hd tl nl d nb (ep d i p) (by omega) (by omega)) gX11_76 dX11_find_28 0 rfl rfl rfl rfl rfl (Nat.le_of_ble_eq_true rfl) (by decide) [0, 1, 2] rfl (by decide) [h, b, nm] rfl rfl rfl rfl ?_
          refine w_bz C 36 dX11_find_31 rfl (fun c_6 => ?_) (fun c_6 => ?_)
          · refine w_iinc (lv2 := [(0, .ref h), (1, .int (iI i)), (2, .int (iI z)), (3, .int (iI (p + 1)))]) C 3 dX11_find_36 rfl (by decide) rfl ?_
            refine w_goto C 2 dX11_find_39 rfl ?_
            exact ih_2 _ (by omega) (p + 1) (by omega) (by rw [h2, show (z - p).toNat = (z - (p + 1)).toNat + 1 by omega, rfs, im_at_in d (by omega), if_neg (by first | (rw [c_6]; simp; done) | (intro w; exact w.1 c_6))]) rfl
          · refine w_iload_n C 3 dX11_find_34 rfl ?_
            exact w_reti hret dX11_find_35 rfl rfl rfl rfl ⟨congrArg (fun z => some (Value.int (iI z))) (by rw [h2, show (z - p).toNat = (z - (p + 1)).toNat + 1 by omega, rfs, im_at_in d (by omega), if_pos (And.intro hnz c_6)]), rfl⟩
  exact L_2 _ 2 (by omega) rfl rfl

theorem gX11_103 : cwv RX11 103 yX11_put cX11_put 3 none 2 887 889 22 74 890 := by decide +kernel
set_option maxHeartbeats 4000000 in
set_option maxRecDepth 100000 in
theorem ct_X11_superAt (G : GX) (l : Launch) (h : Nat) (a : Nat) (b : Nat) (tk : Nat) (re : Nat) (qu : Nat) (nm : Nat) (hd : Int) (tl : Int) (nl : Int) (d : Im) (p : Int) (x : Int) (y : Int) (hp : p = 0 ∨ p = 4032) (hx : 0 ≤ x ∧ x < 65536) (hy : 0 ≤ y ∧ y < 65536) : Ct G l yX11_superAt cX11_superAt 4 none rmX11_superAt [.ref h, .int (iI p), .int (iI x), .int (iI y)] [(h, .inr (9, [.ref a, .ref b, .ref tk, .ref re, .ref qu, .int (iI hd), .int (iI tl), .ref nm, .int (iI nl)])), (b, .inl (gI G, 4096, .inl (arI d)))] none [(h, .inr (9, [.ref a, .ref b, .ref tk, .ref re, .ref qu, .int (iI hd), .int (iI tl), .ref nm, .int (iI nl)])), (b, .inl (gI G, 4096, .inl (arI (su_wr d (p / 64) x y))))] := by
  refine Ct.of (by decide) (Nat.le_of_ble_eq_true rfl) ?_
  intro k C hl hret
  subst hl
  refine w_lv (lv2 := [(0, .ref h), (1, .int (iI p)), (2, .int (iI x)), (3, .int (iI y))]) [0, 1, 2, 3] rfl ?_
  refine w_aload_n C 0 dX11_superAt_0 rfl ?_
  refine w_iload_n C 1 dX11_superAt_1 rfl ?_
  refine w_bipush C dX11_superAt_2 (by decide) ?_
  refine w_callV (As := [.int (iI p), .int (iI 64)]) (rest := []) (w2 := [(h, .inr (9, [.ref a, .ref b, .ref tk, .ref re, .ref qu, .int (iI hd), .int (iI tl), .ref nm, .int (iI nl)])), (b, .inl (gI G, 4096, .inl (arI (im_wipe d p 64))))]) (st2 := []) C (ct_X11_clear G (kl k) h a b tk re qu nm hd tl nl d p 64 (by unfold rgP; omega)) gX11_65 dX11_superAt_4 0 rfl rfl rfl rfl rfl (Nat.le_of_ble_eq_true rfl) (by decide) [0, 1] rfl (by decide) [h, b] rfl rfl rfl rfl ?_
  refine w_aload_n C 0 dX11_superAt_7 rfl ?_
  refine w_get C 0 1 847 dX11_superAt_8 rfl rfl inX11 (by decide) (by decide +kernel) rfl ?_
  refine w_iload_n C 1 dX11_superAt_11 rfl ?_
  refine w_bipush C dX11_superAt_12 (by decide) ?_
  refine w_iast (ws2 := [(h, .inr (9, [.ref a, .ref b, .ref tk, .ref re, .ref qu, .int (iI hd), .int (iI tl), .ref nm, .int (iI nl)])), (b, .inl (gI G, 4096, .inl (arI (up (im_wipe d p 64) p 83))))]) C 1 dX11_superAt_14 rfl (by omega) (by omega) rfl ?_
  refine w_aload_n C 0 dX11_superAt_15 rfl ?_
  refine w_get C 0 1 847 dX11_superAt_16 rfl rfl inX11 (by decide) (by decide +kernel) rfl ?_
  refine w_iload_n C 1 dX11_superAt_19 rfl ?_
  refine w_iconst C dX11_superAt_20 ?_
  refine w_iadd C dX11_superAt_21 ?_
  refine w_bipush C dX11_superAt_22 (by decide) ?_
  refine w_iast (ws2 := [(h, .inr (9, [.ref a, .ref b, .ref tk, .ref re, .ref qu, .int (iI hd), .int (iI tl), .ref nm, .int (iI nl)])), (b, .inl (gI G, 4096, .inl (arI (up (up (im_wipe d p 64) p 83) (p + 1) 70))))]) C 1 dX11_superAt_24 rfl (by omega) (by omega) rfl ?_
  refine w_aload_n C 0 dX11_superAt_25 rfl ?_
  refine w_get C 0 1 847 dX11_superAt_26 rfl rfl inX11 (by decide) (by decide +kernel) rfl ?_
  refine w_iload_n C 1 dX11_superAt_29 rfl ?_
  refine w_iconst C dX11_superAt_30 ?_
  refine w_iadd C dX11_superAt_31 ?_
  refine w_bipush C dX11_superAt_32 (by decide) ?_
  refine w_iast (ws2 := [(h, .inr (9, [.ref a, .ref b, .ref tk, .ref re, .ref qu, .int (iI hd), .int (iI tl), .ref nm, .int (iI nl)])), (b, .inl (gI G, 4096, .inl (arI (up (up (up (im_wipe d p 64) p 83) (p + 1) 70) (p + 2) 83))))]) C 1 dX11_superAt_34 rfl (by omega) (by omega) rfl ?_
  refine w_aload_n C 0 dX11_superAt_35 rfl ?_
  refine w_get C 0 1 847 dX11_superAt_36 rfl rfl inX11 (by decide) (by decide +kernel) rfl ?_
  refine w_iload_n C 1 dX11_superAt_39 rfl ?_
  refine w_iconst C dX11_superAt_40 ?_
  refine w_iadd C dX11_superAt_41 ?_
  refine w_bipush C dX11_superAt_42 (by decide) ?_
  refine w_iast (ws2 := [(h, .inr (9, [.ref a, .ref b, .ref tk, .ref re, .ref qu, .int (iI hd), .int (iI tl), .ref nm, .int (iI nl)])), (b, .inl (gI G, 4096, .inl (arI (up (up (up (up (im_wipe d p 64) p 83) (p + 1) 70) (p + 2) 83) (p + 3) 75))))]) C 1 dX11_superAt_44 rfl (by omega) (by omega) rfl ?_
  refine w_aload_n C 0 dX11_superAt_45 rfl ?_
  refine w_iload_n C 1 dX11_superAt_46 rfl ?_
  refine w_iconst C dX11_superAt_47 ?_
  refine w_iadd C dX11_superAt_48 ?_
  refine w_iload_n C 2 dX11_superAt_49 rfl ?_
  refine w_callV (As := [.int (iI (p + 4)), .int (iI x)]) (rest := []) (w2 := [(h, .inr (9, [.ref a, .ref b, .ref tk, .ref re, .ref qu, .int (iI hd), .int (iI tl), .ref nm, .int (iI nl)])), (b, .inl (gI G, 4096, .inl (arI (im_put (up (up (up (up (im_wipe d p 64) p 83) (p + 1) 70) (p + 2) 83) (p + 3) 75) (p + 4) x))))]) (st2 := []) C (ct_X11_put G (kl k) h a b tk re qu nm hd tl nl (up (up (up (up (im_wipe d p 64) p 83) (p + 1) 70) (p + 2) 83) (p + 3) 75) (p + 4) x (by omega) (by omega)) gX11_103 dX11_superAt_50 0 rfl rfl rfl rfl rfl (Nat.le_of_ble_eq_true rfl) (by decide) [0, 1] rfl (by decide) [h, b] rfl rfl rfl rfl ?_
  refine w_aload_n C 0 dX11_superAt_53 rfl ?_
  refine w_iload_n C 1 dX11_superAt_54 rfl ?_
  refine w_bipush C dX11_superAt_55 (by decide) ?_
  refine w_iadd C dX11_superAt_57 ?_
  refine w_iload_n C 3 dX11_superAt_58 rfl ?_
  refine w_callV (As := [.int (iI (p + 6)), .int (iI y)]) (rest := []) (w2 := [(h, .inr (9, [.ref a, .ref b, .ref tk, .ref re, .ref qu, .int (iI hd), .int (iI tl), .ref nm, .int (iI nl)])), (b, .inl (gI G, 4096, .inl (arI (im_put (im_put (up (up (up (up (im_wipe d p 64) p 83) (p + 1) 70) (p + 2) 83) (p + 3) 75) (p + 4) x) (p + 6) y))))]) (st2 := []) C (ct_X11_put G (kl k) h a b tk re qu nm hd tl nl (im_put (up (up (up (up (im_wipe d p 64) p 83) (p + 1) 70) (p + 2) 83) (p + 3) 75) (p + 4) x) (p + 6) y (by omega) (by omega)) gX11_103 dX11_superAt_59 0 rfl rfl rfl rfl rfl (Nat.le_of_ble_eq_true rfl) (by decide) [0, 1] rfl (by decide) [h, b] rfl rfl rfl rfl ?_
  refine w_aload_n C 0 dX11_superAt_62 rfl ?_
  refine w_iload_n C 1 dX11_superAt_63 rfl ?_
  refine w_bipush C dX11_superAt_64 (by decide) ?_
  refine w_iadd C dX11_superAt_66 ?_
  refine w_aload_n C 0 dX11_superAt_67 rfl ?_
  refine w_iload_n C 1 dX11_superAt_68 rfl ?_
  refine w_bipush C dX11_superAt_69 (by decide) ?_
  refine w_callV (As := [.int (iI p), .int (iI 62)]) (rest := [.int (iI (p + 62)), .ref h]) (w2 := [(h, .inr (9, [.ref a, .ref b, .ref tk, .ref re, .ref qu, .int (iI hd), .int (iI tl), .ref nm, .int (iI nl)])), (b, .inl (gI G, 4096, .inl (arI (im_put (im_put (up (up (up (up (im_wipe d p 64) p 83) (p + 1) 70) (p + 2) 83) (p + 3) 75) (p + 4) x) (p + 6) y))))]) (st2 := [.int (iI (im_sum (im_put (im_put (up (up (up (up (im_wipe d p 64) p 83) (p + 1) 70) (p + 2) 83) (p + 3) 75) (p + 4) x) (p + 6) y) p 62)), .int (iI (p + 62)), .ref h]) C (ct_X11_sum G (kl k) h a b tk re qu nm hd tl nl (im_put (im_put (up (up (up (up (im_wipe d p 64) p 83) (p + 1) 70) (p + 2) 83) (p + 3) 75) (p + 4) x) (p + 6) y) p 62 (by unfold rgP; omega)) gX11_38 dX11_superAt_71 0 rfl rfl rfl rfl rfl (Nat.le_of_ble_eq_true rfl) (by decide) [0, 1] rfl (by decide) [h, b] rfl rfl rfl rfl ?_
  have f_1 := im_sum_rg (im_put (im_put (up (up (up (up (im_wipe d p 64) p 83) (p + 1) 70) (p + 2) 83) (p + 3) 75) (p + 4) x) (p + 6) y) p 62
  refine w_callV (As := [.int (iI (p + 62)), .int (iI (im_sum (im_put (im_put (up (up (up (up (im_wipe d p 64) p 83) (p + 1) 70) (p + 2) 83) (p + 3) 75) (p + 4) x) (p + 6) y) p 62))]) (rest := []) (w2 := [(h, .inr (9, [.ref a, .ref b, .ref tk, .ref re, .ref qu, .int (iI hd), .int (iI tl), .ref nm, .int (iI nl)])), (b, .inl (gI G, 4096, .inl (arI (im_put (im_put (im_put (up (up (up (up (im_wipe d p 64) p 83) (p + 1) 70) (p + 2) 83) (p + 3) 75) (p + 4) x) (p + 6) y) (p + 62) (im_sum (im_put (im_put (up (up (up (up (im_wipe d p 64) p 83) (p + 1) 70) (p + 2) 83) (p + 3) 75) (p + 4) x) (p + 6) y) p 62)))))]) (st2 := []) C (ct_X11_put G (kl k) h a b tk re qu nm hd tl nl (im_put (im_put (up (up (up (up (im_wipe d p 64) p 83) (p + 1) 70) (p + 2) 83) (p + 3) 75) (p + 4) x) (p + 6) y) (p + 62) (im_sum (im_put (im_put (up (up (up (up (im_wipe d p 64) p 83) (p + 1) 70) (p + 2) 83) (p + 3) 75) (p + 4) x) (p + 6) y) p 62) (by omega) (by omega)) gX11_103 dX11_superAt_74 0 rfl rfl rfl rfl rfl (Nat.le_of_ble_eq_true rfl) (by decide) [0, 1] rfl (by decide) [h, b] rfl rfl rfl rfl ?_
  exact w_retv hret dX11_superAt_77 rfl rfl rfl ⟨rfl, (by rw [su_wr_in d hp])⟩

theorem gX11_62 : cwv RX11 62 yX11_kind cX11_kind 2 (some .int) 1 959 961 38 74 962 := by decide +kernel
set_option maxHeartbeats 4000000 in
set_option maxRecDepth 100000 in
theorem ct_X11_reach (G : GX) (l : Launch) (h : Nat) (a : Nat) (b : Nat) (tk : Nat) (re : Nat) (qu : Nat) (nm : Nat) (hd : Int) (tl : Int) (nl : Int) (d : Im) (r : Int → Bool) (q : Im) (i : Int) (hi : 0 ≤ i ∧ i < 32) (ht : 0 ≤ tl ∧ tl < 32) : Ct G l yX11_reach cX11_reach 2 none rmX11_reach [.ref h, .int (iI i)] [(h, .inr (9, [.ref a, .ref b, .ref tk, .ref re, .ref qu, .int (iI hd), .int (iI tl), .ref nm, .int (iI nl)])), (b, .inl (gI G, 4096, .inl (arI d))), (re, .inl (gZ G, 32, .inl (arB r))), (qu, .inl (gI G, 32, .inl (arI q)))] none [(h, .inr (9, [.ref a, .ref b, .ref tk, .ref re, .ref qu, .int (iI hd), .int (iI (rhT d tl i)), .ref nm, .int (iI nl)])), (b, .inl (gI G, 4096, .inl (arI d))), (re, .inl (gZ G, 32, .inl (arB (upB r i true)))), (qu, .inl (gI G, 32, .inl (arI (rhQ d q tl i))))] := by
  refine Ct.of (by decide) (Nat.le_of_ble_eq_true rfl) ?_
  intro k C hl hret
  subst hl
  refine w_lv (lv2 := [(0, .ref h), (1, .int (iI i))]) [0, 1] rfl ?_
  refine w_aload_n C 0 dX11_reach_0 rfl ?_
  refine w_get C 0 3 849 dX11_reach_1 rfl rfl inX11 (by decide) (by decide +kernel) rfl ?_
  refine w_iload_n C 1 dX11_reach_4 rfl ?_
  refine w_iconst C dX11_reach_5 ?_
  refine w_st (st2 := [.int (iI (bI true)), .int (iI i), .ref re]) rfl ?_
  refine w_zast (ws2 := [(h, .inr (9, [.ref a, .ref b, .ref tk, .ref re, .ref qu, .int (iI hd), .int (iI tl), .ref nm, .int (iI nl)])), (b, .inl (gI G, 4096, .inl (arI d))), (re, .inl (gZ G, 32, .inl (arB (upB r i true)))), (qu, .inl (gI G, 32, .inl (arI q)))]) C 2 dX11_reach_6 rfl (by omega) rfl ?_
  refine w_aload_n C 0 dX11_reach_7 rfl ?_
  refine w_iload_n C 1 dX11_reach_8 rfl ?_
  refine w_callV (As := [.int (iI i)]) (rest := []) (w2 := [(h, .inr (9, [.ref a, .ref b, .ref tk, .ref re, .ref qu, .int (iI hd), .int (iI tl), .ref nm, .int (iI nl)])), (b, .inl (gI G, 4096, .inl (arI d))), (re, .inl (gZ G, 32, .inl (arB (upB r i true)))), (qu, .inl (gI G, 32, .inl (arI q)))]) (st2 := [.int (iI (kd d i))]) C (ct_X11_kind G (kl k) h a b tk re qu nm hd tl nl d i (by omega)) gX11_62 dX11_reach_9 0 rfl rfl rfl rfl rfl (Nat.le_of_ble_eq_true rfl) (by decide) [0, 1] rfl (by decide) [h, b] rfl rfl rfl rfl ?_
  have f_1 := kd_rg d i
  refine w_iconst C dX11_reach_12 ?_
  refine w_icmp_ne C 36 dX11_reach_13 rfl (by omega) (fun c_2 => ?_) (fun c_2 => ?_)
  · exact w_retv hret dX11_reach_36 rfl rfl rfl ⟨rfl, (by unfold rhT rhQ; first | (rw [if_neg (by omega), if_neg (by omega)]; done) | rw [if_pos (by omega), if_pos (by omega)])⟩
  · refine w_aload_n C 0 dX11_reach_16 rfl ?_
    refine w_get C 0 4 850 dX11_reach_17 rfl rfl inX11 (by decide) (by decide +kernel) rfl ?_
    refine w_aload_n C 0 dX11_reach_20 rfl ?_
    refine w_get C 0 6 852 dX11_reach_21 rfl rfl inX11 (by decide) (by decide +kernel) rfl ?_
    refine w_iload_n C 1 dX11_reach_24 rfl ?_
    refine w_iast (ws2 := [(h, .inr (9, [.ref a, .ref b, .ref tk, .ref re, .ref qu, .int (iI hd), .int (iI tl), .ref nm, .int (iI nl)])), (b, .inl (gI G, 4096, .inl (arI d))), (re, .inl (gZ G, 32, .inl (arB (upB r i true)))), (qu, .inl (gI G, 32, .inl (arI (up q tl i))))]) C 3 dX11_reach_25 rfl (by omega) (by omega) rfl ?_
    refine w_aload_n C 0 dX11_reach_26 rfl ?_
    refine w_dup C dX11_reach_27 rfl ?_
    refine w_get C 0 6 852 dX11_reach_28 rfl rfl inX11 (by decide) (by decide +kernel) rfl ?_
    refine w_iconst C dX11_reach_31 ?_
    refine w_iadd C dX11_reach_32 ?_
    refine w_put (ty := .int) (ws2 := [(h, .inr (9, [.ref a, .ref b, .ref tk, .ref re, .ref qu, .int (iI hd), .int (iI (tl + 1)), .ref nm, .int (iI nl)])), (b, .inl (gI G, 4096, .inl (arI d))), (re, .inl (gZ G, 32, .inl (arB (upB r i true)))), (qu, .inl (gI G, 32, .inl (arI (up q tl i))))]) C 0 6 852 dX11_reach_33 rfl rfl inX11 tyX11_ok nmX11 (by decide) (by decide +kernel) rfl (by decide +kernel) rfl rfl (Nat.le_of_ble_eq_true rfl) rfl ?_
    exact w_retv hret dX11_reach_36 rfl rfl rfl ⟨rfl, (by unfold rhT rhQ; first | (rw [if_neg (by omega), if_neg (by omega)]; done) | rw [if_pos (by omega), if_pos (by omega)])⟩

set_option maxHeartbeats 4000000 in
set_option maxRecDepth 100000 in
theorem ct_X11_poke (G : GX) (l : Launch) (h : Nat) (a : Nat) (b : Nat) (tk : Nat) (re : Nat) (qu : Nat) (nm : Nat) (hd : Int) (tl : Int) (nl : Int) (dk : Im) (p : Int) (v : Int) (hp : -2147483648 ≤ p ∧ p < 2147483648) (hv : -2147483648 ≤ v ∧ v < 2147483648) : Ct G l yX11_poke cX11_poke 3 (some .boolean) rmX11_poke [.ref h, .int (iI p), .int (iI v)] [(h, .inr (9, [.ref a, .ref b, .ref tk, .ref re, .ref qu, .int (iI hd), .int (iI tl), .ref nm, .int (iI nl)])), (a, .inl (gI G, 4096, .inl (arI dk)))] (some (.int (iI (bI (decide (pkX p v)))))) [(h, .inr (9, [.ref a, .ref b, .ref tk, .ref re, .ref qu, .int (iI hd), .int (iI tl), .ref nm, .int (iI nl)])), (a, .inl (gI G, 4096, .inl (arI (pkK dk p v))))] := by
  refine Ct.of (by decide) (Nat.le_of_ble_eq_true rfl) ?_
  intro k C hl hret
  subst hl
  refine w_lv (lv2 := [(0, .ref h), (1, .int (iI p)), (2, .int (iI v))]) [0, 1, 2] rfl ?_
  refine w_iload_n C 1 dX11_poke_0 rfl ?_
  refine w_if_lt C 22 dX11_poke_1 rfl (by omega) (fun c_1 => ?_) (fun c_1 => ?_)
  · refine w_iconst C dX11_poke_22 ?_
    exact w_reti hret dX11_poke_23 rfl rfl rfl rfl ⟨congrArg (fun z => some (Value.int (iI z))) (by first | exact (bI_t (by omega)).symm | exact (bI_f (by omega)).symm), (by unfold pkK; first | (rw [if_neg (by omega)]; done) | rw [if_pos (by omega), im_set_in _ (by omega)])⟩
  · refine w_iload_n C 1 dX11_poke_4 rfl ?_
    refine w_sipush C dX11_poke_5 (by decide) ?_
    refine w_icmp_ge C 22 dX11_poke_8 rfl (by omega) (fun c_2 => ?_) (fun c_2 => ?_)
    · refine w_iconst C dX11_poke_22 ?_
      exact w_reti hret dX11_poke_23 rfl rfl rfl rfl ⟨congrArg (fun z => some (Value.int (iI z))) (by first | exact (bI_t (by omega)).symm | exact (bI_f (by omega)).symm), (by unfold pkK; first | (rw [if_neg (by omega)]; done) | rw [if_pos (by omega), im_set_in _ (by omega)])⟩
    · refine w_iload_n C 2 dX11_poke_11 rfl ?_
      refine w_if_lt C 22 dX11_poke_12 rfl (by omega) (fun c_3 => ?_) (fun c_3 => ?_)
      · refine w_iconst C dX11_poke_22 ?_
        exact w_reti hret dX11_poke_23 rfl rfl rfl rfl ⟨congrArg (fun z => some (Value.int (iI z))) (by first | exact (bI_t (by omega)).symm | exact (bI_f (by omega)).symm), (by unfold pkK; first | (rw [if_neg (by omega)]; done) | rw [if_pos (by omega), im_set_in _ (by omega)])⟩
      · refine w_iload_n C 2 dX11_poke_15 rfl ?_
        refine w_sipush C dX11_poke_16 (by decide) ?_
        refine w_icmp_le C 24 dX11_poke_19 rfl (by omega) (fun c_4 => ?_) (fun c_4 => ?_)
        · refine w_aload_n C 0 dX11_poke_24 rfl ?_
          refine w_get C 0 0 846 dX11_poke_25 rfl rfl inX11 (by decide) (by decide +kernel) rfl ?_
          refine w_iload_n C 1 dX11_poke_28 rfl ?_
          refine w_iload_n C 2 dX11_poke_29 rfl ?_
          refine w_iast (ws2 := [(h, .inr (9, [.ref a, .ref b, .ref tk, .ref re, .ref qu, .int (iI hd), .int (iI tl), .ref nm, .int (iI nl)])), (a, .inl (gI G, 4096, .inl (arI (up dk p v))))]) C 1 dX11_poke_30 rfl (by omega) (by omega) rfl ?_
          refine w_iconst C dX11_poke_31 ?_
          exact w_reti hret dX11_poke_32 rfl rfl rfl rfl ⟨congrArg (fun z => some (Value.int (iI z))) (by first | exact (bI_t (by omega)).symm | exact (bI_f (by omega)).symm), (by unfold pkK; first | (rw [if_neg (by omega)]; done) | rw [if_pos (by omega), im_set_in _ (by omega)])⟩
        · refine w_iconst C dX11_poke_22 ?_
          exact w_reti hret dX11_poke_23 rfl rfl rfl rfl ⟨congrArg (fun z => some (Value.int (iI z))) (by first | exact (bI_t (by omega)).symm | exact (bI_f (by omega)).symm), (by unfold pkK; first | (rw [if_neg (by omega)]; done) | rw [if_pos (by omega), im_set_in _ (by omega)])⟩

set_option maxHeartbeats 4000000 in
set_option maxRecDepth 100000 in
theorem ct_X11_peek (G : GX) (l : Launch) (h : Nat) (a : Nat) (b : Nat) (tk : Nat) (re : Nat) (qu : Nat) (nm : Nat) (hd : Int) (tl : Int) (nl : Int) (dk : Im) (p : Int) (hp : -2147483648 ≤ p ∧ p < 2147483648) : Ct G l yX11_peek cX11_peek 2 (some .int) rmX11_peek [.ref h, .int (iI p)] [(h, .inr (9, [.ref a, .ref b, .ref tk, .ref re, .ref qu, .int (iI hd), .int (iI tl), .ref nm, .int (iI nl)])), (a, .inl (gI G, 4096, .inl (arI dk)))] (some (.int (iI (peR dk p)))) [(h, .inr (9, [.ref a, .ref b, .ref tk, .ref re, .ref qu, .int (iI hd), .int (iI tl), .ref nm, .int (iI nl)])), (a, .inl (gI G, 4096, .inl (arI dk)))] := by
  refine Ct.of (by decide) (Nat.le_of_ble_eq_true rfl) ?_
  intro k C hl hret
  subst hl
  refine w_lv (lv2 := [(0, .ref h), (1, .int (iI p))]) [0, 1] rfl ?_
  refine w_iload_n C 1 dX11_peek_0 rfl ?_
  refine w_if_lt C 11 dX11_peek_1 rfl (by omega) (fun c_1 => ?_) (fun c_1 => ?_)
  · refine w_iconst C dX11_peek_11 ?_
    refine w_goto C 21 dX11_peek_12 rfl ?_
    exact w_reti hret dX11_peek_21 rfl rfl rfl rfl ⟨congrArg (fun z => some (Value.int (iI z))) (by unfold peR; first | (rw [if_neg (by omega)]; done) | rw [if_pos (by omega), im_at_in _ (by omega)]), rfl⟩
  · refine w_iload_n C 1 dX11_peek_4 rfl ?_
    refine w_sipush C dX11_peek_5 (by decide) ?_
    refine w_icmp_lt C 15 dX11_peek_8 rfl (by omega) (fun c_2 => ?_) (fun c_2 => ?_)
    · refine w_aload_n C 0 dX11_peek_15 rfl ?_
      refine w_get C 0 0 846 dX11_peek_16 rfl rfl inX11 (by decide) (by decide +kernel) rfl ?_
      refine w_iload_n C 1 dX11_peek_19 rfl ?_
      refine w_iald C 1 dX11_peek_20 rfl (by omega) ?_
      have b_3 := dk.2 p
      exact w_reti hret dX11_peek_21 rfl rfl rfl rfl ⟨congrArg (fun z => some (Value.int (iI z))) (by unfold peR; first | (rw [if_neg (by omega)]; done) | rw [if_pos (by omega), im_at_in _ (by omega)]), rfl⟩
    · refine w_iconst C dX11_peek_11 ?_
      refine w_goto C 21 dX11_peek_12 rfl ?_
      exact w_reti hret dX11_peek_21 rfl rfl rfl rfl ⟨congrArg (fun z => some (Value.int (iI z))) (by unfold peR; first | (rw [if_neg (by omega)]; done) | rw [if_pos (by omega), im_at_in _ (by omega)]), rfl⟩

set_option maxHeartbeats 4000000 in
set_option maxRecDepth 100000 in
theorem ct_X11_inode (G : GX) (l : Launch) (h : Nat) (a : Nat) (b : Nat) (tk : Nat) (re : Nat) (qu : Nat) (nm : Nat) (hd : Int) (tl : Int) (nl : Int) (dk : Im) (i : Int) (w : Int) (hi : -2147483648 ≤ i ∧ i < 2147483648) (hw : -2147483648 ≤ w ∧ w < 2147483648) : Ct G l yX11_inode cX11_inode 4 (some .int) rmX11_inode [.ref h, .int (iI i), .int (iI w)] [(h, .inr (9, [.ref a, .ref b, .ref tk, .ref re, .ref qu, .int (iI hd), .int (iI tl), .ref nm, .int (iI nl)])), (a, .inl (gI G, 4096, .inl (arI dk)))] (some (.int (iI (inR2 dk i w)))) [(h, .inr (9, [.ref a, .ref b, .ref tk, .ref re, .ref qu, .int (iI hd), .int (iI tl), .ref nm, .int (iI nl)])), (a, .inl (gI G, 4096, .inl (arI dk)))] := by
  refine Ct.of (by decide) (Nat.le_of_ble_eq_true rfl) ?_
  intro k C hl hret
  subst hl
  refine w_lv (lv2 := [(0, .ref h), (1, .int (iI i)), (2, .int (iI w))]) [0, 1, 2] rfl ?_
  refine w_iload_n C 1 dX11_inode_0 rfl ?_
  refine w_if_lt C 19 dX11_inode_1 rfl (by omega) (fun c_1 => ?_) (fun c_1 => ?_)
  · refine w_iconst C dX11_inode_19 ?_
    exact w_reti hret dX11_inode_20 rfl rfl rfl rfl ⟨congrArg (fun z => some (Value.int (iI z))) (by unfold inR2; first | (rw [if_neg (by omega)]; done) | (rw [if_pos (by omega), if_neg (by omega), if_neg (by omega), if_neg (by omega)]; done) | (rw [if_pos (by omega)]; unfold kd lk sz; rcases (show w = 0 ∨ w = 1 ∨ w = 2 by omega) with rfl | rfl | rfl <;> simp only [if_pos (show inR i by omega), if_true, if_false] <;> first | (exfalso; omega) | (simp; rw [show 512 + 16 * i = 512 + i * 16 by omega]; done) | (simp; rw [show 512 + 16 * i + 3 = 512 + i * 16 + 2 + 1 by omega, show 512 + 16 * i + 2 = 512 + i * 16 + 2 by omega]; done))), rfl⟩
  · refine w_iload_n C 1 dX11_inode_4 rfl ?_
    refine w_bipush C dX11_inode_5 (by decide) ?_
    refine w_icmp_ge C 19 dX11_inode_7 rfl (by omega) (fun c_2 => ?_) (fun c_2 => ?_)
    · refine w_iconst C dX11_inode_19 ?_
      exact w_reti hret dX11_inode_20 rfl rfl rfl rfl ⟨congrArg (fun z => some (Value.int (iI z))) (by unfold inR2; first | (rw [if_neg (by omega)]; done) | (rw [if_pos (by omega), if_neg (by omega), if_neg (by omega), if_neg (by omega)]; done) | (rw [if_pos (by omega)]; unfold kd lk sz; rcases (show w = 0 ∨ w = 1 ∨ w = 2 by omega) with rfl | rfl | rfl <;> simp only [if_pos (show inR i by omega), if_true, if_false] <;> first | (exfalso; omega) | (simp; rw [show 512 + 16 * i = 512 + i * 16 by omega]; done) | (simp; rw [show 512 + 16 * i + 3 = 512 + i * 16 + 2 + 1 by omega, show 512 + 16 * i + 2 = 512 + i * 16 + 2 by omega]; done))), rfl⟩
    · refine w_iload_n C 2 dX11_inode_10 rfl ?_
      refine w_if_lt C 19 dX11_inode_11 rfl (by omega) (fun c_3 => ?_) (fun c_3 => ?_)
      · refine w_iconst C dX11_inode_19 ?_
        exact w_reti hret dX11_inode_20 rfl rfl rfl rfl ⟨congrArg (fun z => some (Value.int (iI z))) (by unfold inR2; first | (rw [if_neg (by omega)]; done) | (rw [if_pos (by omega), if_neg (by omega), if_neg (by omega), if_neg (by omega)]; done) | (rw [if_pos (by omega)]; unfold kd lk sz; rcases (show w = 0 ∨ w = 1 ∨ w = 2 by omega) with rfl | rfl | rfl <;> simp only [if_pos (show inR i by omega), if_true, if_false] <;> first | (exfalso; omega) | (simp; rw [show 512 + 16 * i = 512 + i * 16 by omega]; done) | (simp; rw [show 512 + 16 * i + 3 = 512 + i * 16 + 2 + 1 by omega, show 512 + 16 * i + 2 = 512 + i * 16 + 2 by omega]; done))), rfl⟩
      · refine w_iload_n C 2 dX11_inode_14 rfl ?_
        refine w_iconst C dX11_inode_15 ?_
        refine w_icmp_le C 21 dX11_inode_16 rfl (by omega) (fun c_4 => ?_) (fun c_4 => ?_)
        · refine w_iload_n C 1 dX11_inode_21 rfl ?_
          refine w_callS (As := [.int (iI i)]) (rest := []) (w2 := [(h, .inr (9, [.ref a, .ref b, .ref tk, .ref re, .ref qu, .int (iI hd), .int (iI tl), .ref nm, .int (iI nl)])), (a, .inl (gI G, 4096, .inl (arI dk)))]) (st2 := [.int (iI (512 + 16 * i))]) C (ct_X11_base G (kl k) i) gX11_42 dX11_inode_22 rfl rfl (Nat.le_of_ble_eq_true rfl) (by decide) [] rfl (by decide) [] rfl rfl rfl rfl ?_
          refine w_istore_n (lv2 := [(0, .ref h), (1, .int (iI i)), (2, .int (iI w)), (3, .int (iI (512 + 16 * i)))]) C dX11_inode_25 (by decide) rfl ?_
          refine w_iload_n C 2 dX11_inode_26 rfl ?_
          refine w_iconst C dX11_inode_27 ?_
          refine w_icmp_ge C 42 dX11_inode_28 rfl (by omega) (fun c_5 => ?_) (fun c_5 => ?_)
          · refine w_aload_n C 0 dX11_inode_42 rfl ?_
            refine w_get C 0 0 846 dX11_inode_43 rfl rfl inX11 (by decide) (by decide +kernel) rfl ?_
            refine w_iload_n C 3 dX11_inode_46 rfl ?_
            refine w_iconst C dX11_inode_47 ?_
            refine w_iadd C dX11_inode_48 ?_
            refine w_iald C 1 dX11_inode_49 rfl (by omega) ?_
            have b_6 := dk.2 ((512 + 16 * i) + 2)
            refine w_sipush C dX11_inode_50 (by decide) ?_
            refine w_imul C dX11_inode_53 ?_
            refine w_aload_n C 0 dX11_inode_54 rfl ?_
            refine w_get C 0 0 846 dX11_inode_55 rfl rfl inX11 (by decide) (by decide +kernel) rfl ?_
            refine w_iload_n C 3 dX11_inode_58 rfl ?_
            refine w_iconst C dX11_inode_59 ?_
            refine w_iadd C dX11_inode_60 ?_
            refine w_iald C 1 dX11_inode_61 rfl (by omega) ?_
            have b_7 := dk.2 ((512 + 16 * i) + 3)
            refine w_iadd C dX11_inode_62 ?_
            exact w_reti hret dX11_inode_63 rfl rfl rfl rfl ⟨congrArg (fun z => some (Value.int (iI z))) (by unfold inR2; first | (rw [if_neg (by omega)]; done) | (rw [if_pos (by omega), if_neg (by omega), if_neg (by omega), if_neg (by omega)]; done) | (rw [if_pos (by omega)]; unfold kd lk sz; rcases (show w = 0 ∨ w = 1 ∨ w = 2 by omega) with rfl | rfl | rfl <;> simp only [if_pos (show inR i by omega), if_true, if_false] <;> first | (exfalso; omega) | (simp; rw [show 512 + 16 * i = 512 + i * 16 by omega]; done) | (simp; rw [show 512 + 16 * i + 3 = 512 + i * 16 + 2 + 1 by omega, show 512 + 16 * i + 2 = 512 + i * 16 + 2 by omega]; done))), rfl⟩
          · refine w_aload_n C 0 dX11_inode_31 rfl ?_
            refine w_get C 0 0 846 dX11_inode_32 rfl rfl inX11 (by decide) (by decide +kernel) rfl ?_
            refine w_iload_n C 3 dX11_inode_35 rfl ?_
            refine w_iload_n C 2 dX11_inode_36 rfl ?_
            refine w_iadd C dX11_inode_37 ?_
            refine w_iald C 1 dX11_inode_38 rfl (by omega) ?_
            have b_8 := dk.2 ((512 + 16 * i) + w)
            refine w_goto C 63 dX11_inode_39 rfl ?_
            exact w_reti hret dX11_inode_63 rfl rfl rfl rfl ⟨congrArg (fun z => some (Value.int (iI z))) (by unfold inR2; first | (rw [if_neg (by omega)]; done) | (rw [if_pos (by omega), if_neg (by omega), if_neg (by omega), if_neg (by omega)]; done) | (rw [if_pos (by omega)]; unfold kd lk sz; rcases (show w = 0 ∨ w = 1 ∨ w = 2 by omega) with rfl | rfl | rfl <;> simp only [if_pos (show inR i by omega), if_true, if_false] <;> first | (exfalso; omega) | (simp; rw [show 512 + 16 * i = 512 + i * 16 by omega]; done) | (simp; rw [show 512 + 16 * i + 3 = 512 + i * 16 + 2 + 1 by omega, show 512 + 16 * i + 2 = 512 + i * 16 + 2 by omega]; done))), rfl⟩
        · refine w_iconst C dX11_inode_19 ?_
          exact w_reti hret dX11_inode_20 rfl rfl rfl rfl ⟨congrArg (fun z => some (Value.int (iI z))) (by unfold inR2; first | (rw [if_neg (by omega)]; done) | (rw [if_pos (by omega), if_neg (by omega), if_neg (by omega), if_neg (by omega)]; done) | (rw [if_pos (by omega)]; unfold kd lk sz; rcases (show w = 0 ∨ w = 1 ∨ w = 2 by omega) with rfl | rfl | rfl <;> simp only [if_pos (show inR i by omega), if_true, if_false] <;> first | (exfalso; omega) | (simp; rw [show 512 + 16 * i = 512 + i * 16 by omega]; done) | (simp; rw [show 512 + 16 * i + 3 = 512 + i * 16 + 2 + 1 by omega, show 512 + 16 * i + 2 = 512 + i * 16 + 2 by omega]; done))), rfl⟩
