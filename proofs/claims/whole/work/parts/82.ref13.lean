theorem gX11_142 : cwv RX11 142 yX11_grow cX11_grow 6 (some .boolean) 2 1033 1035 56 74 1036 := by decide +kernel
set_option maxHeartbeats 4000000 in
set_option maxRecDepth 100000 in
theorem ct_X11_putEntry (G : GX) (l : Launch) (h : Nat) (a : Nat) (b : Nat) (tk : Nat) (re : Nat) (qu : Nat) (nm : Nat) (hd : Int) (tl : Int) (nl : Int) (d : Im) (t : Int → Bool) (tm : Int64) (nb : Im) (D : Int) (i : Int) (hw : WF tm d) (hD : drI d D) (hi : 0 ≤ i ∧ i < 32) (hnl : 0 ≤ nl ∧ nl ≤ 14) : CtE G l yX11_putEntry cX11_putEntry 4 (some .boolean) rmX11_putEntry [.ref h, .int (iI D), .int (iI i)] [(h, .inr (9, [.ref a, .ref b, .ref tk, .ref re, .ref qu, .int (iI hd), .int (iI tl), .ref nm, .int (iI nl)])), (b, .inl (gI G, 4096, .inl (arI d))), (tk, .inl (gZ G, 64, .inl (arB t))), (nm, .inl (gI G, 14, .inl (arI nb)))] (fun e_ : (Int → Bool) => True) (fun e_ : (Int → Bool) => (some (.int (iI (bI (decide (¬ rmR tm d D = -1))))))) (fun e_ : (Int → Bool) => [(h, .inr (9, [.ref a, .ref b, .ref tk, .ref re, .ref qu, .int (iI hd), .int (iI tl), .ref nm, .int (iI nl)])), (b, .inl (gI G, 4096, .inl (arI (enD tm d D i nb nl)))), (tk, .inl (gZ G, 64, .inl (arB e_))), (nm, .inl (gI G, 14, .inl (arI nb)))]) := by
  refine Ct.of (by decide) (Nat.le_of_ble_eq_true rfl) ?_
  intro k C hl hret
  subst hl
  refine w_lv (lv2 := [(0, .ref h), (1, .int (iI D)), (2, .int (iI i))]) [0, 1, 2] rfl ?_
  have s9 := hw.szE hD
  have hk : kd d D ≠ 0 := by have w := hD.2.2; omega
  have h1D := hD.1
  have h2D := hD.2.1
  refine w_iconst C dX11_putEntry_0 ?_
  refine w_istore_n (lv2 := [(0, .ref h), (1, .int (iI D)), (2, .int (iI i)), (3, .int (iI 2))]) C dX11_putEntry_1 (by decide) rfl ?_
  have L_2 : ∀ (nn_2 : Nat) (p : Int), (2 ≤ p ∧ p ≤ sz d D / 16) → (rmF d D = rms d D (sz d D / 16 - p).toNat p) → (sz d D / 16 - p).toNat = nn_2 → Wd G k 4 0 0 [(h, .inr (9, [.ref a, .ref b, .ref tk, .ref re, .ref qu, .int (iI hd), .int (iI tl), .ref nm, .int (iI nl)])), (b, .inl (gI G, 4096, .inl (arI d))), (tk, .inl (gZ G, 64, .inl (arB t))), (nm, .inl (gI G, 14, .inl (arI nb)))] 2 [(0, .ref h), (1, .int (iI D)), (2, .int (iI i)), (3, .int (iI p))] [] := by
    intro nn_2
    induction nn_2 using Nat.strongRecOn with
    | ind nn_2 ih_2 =>
      intro p h1 hp hm_2
      refine w_iload_n C 3 dX11_putEntry_2 rfl ?_
      refine w_aload_n C 0 dX11_putEntry_3 rfl ?_
      refine w_iload_n C 1 dX11_putEntry_4 rfl ?_
      refine w_callV (As := [.int (iI D)]) (rest := [.int (iI p)]) (w2 := [(h, .inr (9, [.ref a, .ref b, .ref tk, .ref re, .ref qu, .int (iI hd), .int (iI tl), .ref nm, .int (iI nl)])), (b, .inl (gI G, 4096, .inl (arI d))), (tk, .inl (gZ G, 64, .inl (arB t))), (nm, .inl (gI G, 14, .inl (arI nb)))]) (st2 := [.int (iI (sz d D / 16)), .int (iI p)]) C (ct_X11_places G (kl k) h a b tk re qu nm hd tl nl d D (by omega)) gX11_106 dX11_putEntry_5 0 rfl rfl rfl rfl rfl (Nat.le_of_ble_eq_true rfl) (by decide) [0, 1] rfl (by decide) [h, b] rfl rfl rfl rfl ?_
      have f_1 := sz_rg d D
      refine w_icmp_ge C 31 dX11_putEntry_8 rfl (by omega) (fun c_2 => ?_) (fun c_2 => ?_)
      · have hf : rmF d D = -2 := by rw [hp, show (sz d D / 16 - p).toNat = 0 by omega, rms]
        refine w_iload_n C 3 dX11_putEntry_31 rfl ?_
        refine w_aload_n C 0 dX11_putEntry_32 rfl ?_
        refine w_iload_n C 1 dX11_putEntry_33 rfl ?_
        refine w_callV (As := [.int (iI D)]) (rest := [.int (iI p)]) (w2 := [(h, .inr (9, [.ref a, .ref b, .ref tk, .ref re, .ref qu, .int (iI hd), .int (iI tl), .ref nm, .int (iI nl)])), (b, .inl (gI G, 4096, .inl (arI d))), (tk, .inl (gZ G, 64, .inl (arB t))), (nm, .inl (gI G, 14, .inl (arI nb)))]) (st2 := [.int (iI (sz d D / 16)), .int (iI p)]) C (ct_X11_places G (kl k) h a b tk re qu nm hd tl nl d D (by omega)) gX11_106 dX11_putEntry_34 0 rfl rfl rfl rfl rfl (Nat.le_of_ble_eq_true rfl) (by decide) [0, 1] rfl (by decide) [h, b] rfl rfl rfl rfl ?_
        have f_3 := sz_rg d D
        refine w_icmp_ne C 52 dX11_putEntry_37 rfl (by omega) (fun c_4 => ?_) (fun c_4 => ?_)
        · have hz9 : True := trivial
          refine w_aload_n C 0 dX11_putEntry_52 rfl ?_
          refine w_aload_n C 0 dX11_putEntry_53 rfl ?_
          refine w_iload_n C 1 dX11_putEntry_54 rfl ?_
          refine w_iload_n C 3 dX11_putEntry_55 rfl ?_
          refine w_callV (As := [.int (iI D), .int (iI p)]) (rest := [.ref h]) (w2 := [(h, .inr (9, [.ref a, .ref b, .ref tk, .ref re, .ref qu, .int (iI hd), .int (iI tl), .ref nm, .int (iI nl)])), (b, .inl (gI G, 4096, .inl (arI d))), (tk, .inl (gZ G, 64, .inl (arB t))), (nm, .inl (gI G, 14, .inl (arI nb)))]) (st2 := [.int (iI (ep d D p)), .ref h]) C (ct_X11_entry G (kl k) h a b tk re qu nm hd tl nl d D p (by omega) (by omega) (by omega)) gX11_73 dX11_putEntry_56 0 rfl rfl rfl rfl rfl (Nat.le_of_ble_eq_true rfl) (by decide) [0, 1] rfl (by decide) [h, b] rfl rfl rfl rfl ?_
          have f_5 := ep_rg d D p
          refine w_iload_n C 2 dX11_putEntry_59 rfl ?_
          refine w_callV (As := [.int (iI (ep d D p)), .int (iI i)]) (rest := []) (w2 := [(h, .inr (9, [.ref a, .ref b, .ref tk, .ref re, .ref qu, .int (iI hd), .int (iI tl), .ref nm, .int (iI nl)])), (b, .inl (gI G, 4096, .inl (arI (we d (ep d D p) i nb nl)))), (tk, .inl (gZ G, 64, .inl (arB t))), (nm, .inl (gI G, 14, .inl (arI nb)))]) (st2 := []) C (ct_X11_write G (kl k) h a b tk re qu nm hd tl nl d nb (ep d D p) i (by omega) (by omega) (by omega)) gX11_112 dX11_putEntry_60 0 rfl rfl rfl rfl rfl (Nat.le_of_ble_eq_true rfl) (by decide) [0, 1, 3] rfl (by decide) [h, b, nm] rfl rfl rfl rfl ?_
          refine w_ws (ws2 := [(h, .inr (9, [.ref a, .ref b, .ref tk, .ref re, .ref qu, .int (iI hd), .int (iI tl), .ref nm, .int (iI nl)])), (b, .inl (gI G, 4096, .inl (arI (enD tm d D i nb nl)))), (tk, .inl (gZ G, 64, .inl (arB t))), (nm, .inl (gI G, 14, .inl (arI nb)))]) (by first | (exfalso; omega) | rw [e0.2]) ?_
          refine w_iconst C dX11_putEntry_63 ?_
          exact w_reti hret dX11_putEntry_64 rfl rfl rfl rfl ⟨(t), trivial, congrArg (fun z => some (Value.int (iI z))) (by first | (exfalso; omega) | (rw [decide_eq_true (by rw [e0.1]; omega)]; rfl)), rfl⟩
        · refine w_aload_n C 0 dX11_putEntry_40 rfl ?_
          refine w_iload_n C 1 dX11_putEntry_41 rfl ?_
          refine w_bipush C dX11_putEntry_42 (by decide) ?_
          refine w_callVE (E := (Int → Bool)) (As := [.int (iI D), .int (iI 64)]) (rest := []) (w2 := (fun e_ : (Int → Bool) => [(h, .inr (9, [.ref a, .ref b, .ref tk, .ref re, .ref qu, .int (iI hd), .int (iI tl), .ref nm, .int (iI nl)])), (b, .inl (gI G, 4096, .inl (arI (gwD tm d D 64)))), (tk, .inl (gZ G, 64, .inl (arB e_))), (nm, .inl (gI G, 14, .inl (arI nb)))])) (st2 := (fun e_ : (Int → Bool) => [.int (iI (bI (decide (¬ abX tm d D))))])) C (ct_X11_grow G (kl k) h a b tk re qu nm hd tl nl d t tm D 64 hw (by omega) hk (by omega) (by omega)) gX11_142 dX11_putEntry_44 0 rfl rfl rfl rfl rfl (Nat.le_of_ble_eq_true rfl) (by decide) [0, 1, 2] rfl (by decide) [h, b, tk] (fun _ => rfl) rfl (fun _ => rfl) (fun _ => rfl) ?_
          intro t3 hu
          show Wd G k 4 _ _ [(h, .inr (9, [.ref a, .ref b, .ref tk, .ref re, .ref qu, .int (iI hd), .int (iI tl), .ref nm, .int (iI nl)])), (b, .inl (gI G, 4096, .inl (arI (gwD tm d D 64)))), (tk, .inl (gZ G, 64, .inl (arB t3))), (nm, .inl (gI G, 14, .inl (arI nb)))] 47 [(0, .ref h), (1, .int (iI D)), (2, .int (iI i)), (3, .int (iI p))] [.int (iI (bI (decide (¬ abX tm d D))))]
          refine w_bnz C 52 dX11_putEntry_47 rfl (fun c_6 => ?_) (fun c_6 => ?_)
          · have hX : ¬ abX tm d D := of_decide_eq_true c_6
            have gE := gw_ep hw hD hX
            have p9 : p = sz d D / 16 := by omega
            have e0 : rmR tm d D = tfB tm * 64 ∧ enD tm d D i nb nl = we (gwD tm d D 64) (ep (gwD tm d D 64) D p) i nb nl := by first | (exfalso; omega) | (rw [p9]; exact en_2 hw hD hf hX)
            have er9 := gE.2.2.1.ep_rgE gE.2.2.2 (p := p) (by omega) (by rw [gE.2.1]; omega)
            have f9 := (ab_fr hw hX).2.1.1
            have hz9 : True := trivial
            refine w_aload_n C 0 dX11_putEntry_52 rfl ?_
            refine w_aload_n C 0 dX11_putEntry_53 rfl ?_
            refine w_iload_n C 1 dX11_putEntry_54 rfl ?_
            refine w_iload_n C 3 dX11_putEntry_55 rfl ?_
            refine w_callV (As := [.int (iI D), .int (iI p)]) (rest := [.ref h]) (w2 := [(h, .inr (9, [.ref a, .ref b, .ref tk, .ref re, .ref qu, .int (iI hd), .int (iI tl), .ref nm, .int (iI nl)])), (b, .inl (gI G, 4096, .inl (arI (gwD tm d D 64)))), (tk, .inl (gZ G, 64, .inl (arB t3))), (nm, .inl (gI G, 14, .inl (arI nb)))]) (st2 := [.int (iI (ep (gwD tm d D 64) D p)), .ref h]) C (ct_X11_entry G (kl k) h a b tk re qu nm hd tl nl (gwD tm d D 64) D p (by omega) (by omega) (by omega)) gX11_73 dX11_putEntry_56 0 rfl rfl rfl rfl rfl (Nat.le_of_ble_eq_true rfl) (by decide) [0, 1] rfl (by decide) [h, b] rfl rfl rfl rfl ?_
            have f_7 := ep_rg (gwD tm d D 64) D p
            refine w_iload_n C 2 dX11_putEntry_59 rfl ?_
            refine w_callV (As := [.int (iI (ep (gwD tm d D 64) D p)), .int (iI i)]) (rest := []) (w2 := [(h, .inr (9, [.ref a, .ref b, .ref tk, .ref re, .ref qu, .int (iI hd), .int (iI tl), .ref nm, .int (iI nl)])), (b, .inl (gI G, 4096, .inl (arI (we (gwD tm d D 64) (ep (gwD tm d D 64) D p) i nb nl)))), (tk, .inl (gZ G, 64, .inl (arB t3))), (nm, .inl (gI G, 14, .inl (arI nb)))]) (st2 := []) C (ct_X11_write G (kl k) h a b tk re qu nm hd tl nl (gwD tm d D 64) nb (ep (gwD tm d D 64) D p) i (by omega) (by omega) (by omega)) gX11_112 dX11_putEntry_60 0 rfl rfl rfl rfl rfl (Nat.le_of_ble_eq_true rfl) (by decide) [0, 1, 3] rfl (by decide) [h, b, nm] rfl rfl rfl rfl ?_
            refine w_ws (ws2 := [(h, .inr (9, [.ref a, .ref b, .ref tk, .ref re, .ref qu, .int (iI hd), .int (iI tl), .ref nm, .int (iI nl)])), (b, .inl (gI G, 4096, .inl (arI (enD tm d D i nb nl)))), (tk, .inl (gZ G, 64, .inl (arB t3))), (nm, .inl (gI G, 14, .inl (arI nb)))]) (by first | (exfalso; omega) | rw [e0.2]) ?_
            refine w_iconst C dX11_putEntry_63 ?_
            exact w_reti hret dX11_putEntry_64 rfl rfl rfl rfl ⟨(t3), trivial, congrArg (fun z => some (Value.int (iI z))) (by first | (exfalso; omega) | (rw [decide_eq_true (by rw [e0.1]; omega)]; rfl)), rfl⟩
          · have hX : abX tm d D := by have w := c_6; rw [decide_eq_false_iff_not] at w; exact Classical.not_not.mp w
            have e1 : rmR tm d D = -1 ∧ enD tm d D i nb nl = gwD tm d D 64 := by first | (exfalso; omega) | exact en_1 hw hD.1 hD.2.1 hk hf hX
            refine w_ws (ws2 := [(h, .inr (9, [.ref a, .ref b, .ref tk, .ref re, .ref qu, .int (iI hd), .int (iI tl), .ref nm, .int (iI nl)])), (b, .inl (gI G, 4096, .inl (arI (enD tm d D i nb nl)))), (tk, .inl (gZ G, 64, .inl (arB t3))), (nm, .inl (gI G, 14, .inl (arI nb)))]) (by rw [e1.2]) ?_
            refine w_iconst C dX11_putEntry_50 ?_
            exact w_reti hret dX11_putEntry_51 rfl rfl rfl rfl ⟨(t3), trivial, congrArg (fun z => some (Value.int (iI z))) (by rw [decide_eq_false (fun z => z e1.1)]; rfl), rfl⟩
      · have er9 := hw.ep_rgE hD (p := p) (by omega) (by omega)
        refine w_aload_n C 0 dX11_putEntry_11 rfl ?_
        refine w_get C 0 1 847 dX11_putEntry_12 rfl rfl inX11 (by decide) (by decide +kernel) rfl ?_
        refine w_aload_n C 0 dX11_putEntry_15 rfl ?_
        refine w_iload_n C 1 dX11_putEntry_16 rfl ?_
        refine w_iload_n C 3 dX11_putEntry_17 rfl ?_
        refine w_callV (As := [.int (iI D), .int (iI p)]) (rest := [.ref b]) (w2 := [(h, .inr (9, [.ref a, .ref b, .ref tk, .ref re, .ref qu, .int (iI hd), .int (iI tl), .ref nm, .int (iI nl)])), (b, .inl (gI G, 4096, .inl (arI d))), (tk, .inl (gZ G, 64, .inl (arB t))), (nm, .inl (gI G, 14, .inl (arI nb)))]) (st2 := [.int (iI (ep d D p)), .ref b]) C (ct_X11_entry G (kl k) h a b tk re qu nm hd tl nl d D p (by omega) (by omega) (by omega)) gX11_73 dX11_putEntry_18 0 rfl rfl rfl rfl rfl (Nat.le_of_ble_eq_true rfl) (by decide) [0, 1] rfl (by decide) [h, b] rfl rfl rfl rfl ?_
        have f_8 := ep_rg d D p
        refine w_iald C 1 dX11_putEntry_21 rfl (by omega) ?_
        have b_9 := d.2 (ep d D p)
        refine w_if_eq C 31 dX11_putEntry_22 rfl (by omega) (fun c_10 => ?_) (fun c_10 => ?_)
        · have hf : rmF d D = ep d D p := by rw [hp, show (sz d D / 16 - p).toNat = (sz d D / 16 - (p + 1)).toNat + 1 by omega, rms, if_pos (by rw [im_at_in d (by omega)]; exact c_10)]
          have e0 := en_0 (tm := tm) (i := i) (nb := nb) (n := nl) hf (by omega)
          refine w_iload_n C 3 dX11_putEntry_31 rfl ?_
          refine w_aload_n C 0 dX11_putEntry_32 rfl ?_
          refine w_iload_n C 1 dX11_putEntry_33 rfl ?_
          refine w_callV (As := [.int (iI D)]) (rest := [.int (iI p)]) (w2 := [(h, .inr (9, [.ref a, .ref b, .ref tk, .ref re, .ref qu, .int (iI hd), .int (iI tl), .ref nm, .int (iI nl)])), (b, .inl (gI G, 4096, .inl (arI d))), (tk, .inl (gZ G, 64, .inl (arB t))), (nm, .inl (gI G, 14, .inl (arI nb)))]) (st2 := [.int (iI (sz d D / 16)), .int (iI p)]) C (ct_X11_places G (kl k) h a b tk re qu nm hd tl nl d D (by omega)) gX11_106 dX11_putEntry_34 0 rfl rfl rfl rfl rfl (Nat.le_of_ble_eq_true rfl) (by decide) [0, 1] rfl (by decide) [h, b] rfl rfl rfl rfl ?_
          have f_11 := sz_rg d D
          refine w_icmp_ne C 52 dX11_putEntry_37 rfl (by omega) (fun c_12 => ?_) (fun c_12 => ?_)
          · have hz9 : True := trivial
            refine w_aload_n C 0 dX11_putEntry_52 rfl ?_
            refine w_aload_n C 0 dX11_putEntry_53 rfl ?_
            refine w_iload_n C 1 dX11_putEntry_54 rfl ?_
            refine w_iload_n C 3 dX11_putEntry_55 rfl ?_
            refine w_callV (As := [.int (iI D), .int (iI p)]) (rest := [.ref h]) (w2 := [(h, .inr (9, [.ref a, .ref b, .ref tk, .ref re, .ref qu, .int (iI hd), .int (iI tl), .ref nm, .int (iI nl)])), (b, .inl (gI G, 4096, .inl (arI d))), (tk, .inl (gZ G, 64, .inl (arB t))), (nm, .inl (gI G, 14, .inl (arI nb)))]) (st2 := [.int (iI (ep d D p)), .ref h]) C (ct_X11_entry G (kl k) h a b tk re qu nm hd tl nl d D p (by omega) (by omega) (by omega)) gX11_73 dX11_putEntry_56 0 rfl rfl rfl rfl rfl (Nat.le_of_ble_eq_true rfl) (by decide) [0, 1] rfl (by decide) [h, b] rfl rfl rfl rfl ?_
            have f_13 := ep_rg d D p
            refine w_iload_n C 2 dX11_putEntry_59 rfl ?_
            refine w_callV (As := [.int (iI (ep d D p)), .int (iI i)]) (rest := []) (w2 := [(h, .inr (9, [.ref a, .ref b, .ref tk, .ref re, .ref qu, .int (iI hd), .int (iI tl), .ref nm, .int (iI nl)])), (b, .inl (gI G, 4096, .inl (arI (we d (ep d D p) i nb nl)))), (tk, .inl (gZ G, 64, .inl (arB t))), (nm, .inl (gI G, 14, .inl (arI nb)))]) (st2 := []) C (ct_X11_write G (kl k) h a b tk re qu nm hd tl nl d nb (ep d D p) i (by omega) (by omega) (by omega)) gX11_112 dX11_putEntry_60 0 rfl rfl rfl rfl rfl (Nat.le_of_ble_eq_true rfl) (by decide) [0, 1, 3] rfl (by decide) [h, b, nm] rfl rfl rfl rfl ?_
            refine w_ws (ws2 := [(h, .inr (9, [.ref a, .ref b, .ref tk, .ref re, .ref qu, .int (iI hd), .int (iI tl), .ref nm, .int (iI nl)])), (b, .inl (gI G, 4096, .inl (arI (enD tm d D i nb nl)))), (tk, .inl (gZ G, 64, .inl (arB t))), (nm, .inl (gI G, 14, .inl (arI nb)))]) (by first | (exfalso; omega) | rw [e0.2]) ?_
            refine w_iconst C dX11_putEntry_63 ?_
            exact w_reti hret dX11_putEntry_64 rfl rfl rfl rfl ⟨(t), trivial, congrArg (fun z => some (Value.int (iI z))) (by first | (exfalso; omega) | (rw [decide_eq_true (by rw [e0.1]; omega)]; rfl)), rfl⟩
          · refine w_aload_n C 0 dX11_putEntry_40 rfl ?_
            refine w_iload_n C 1 dX11_putEntry_41 rfl ?_
            refine w_bipush C dX11_putEntry_42 (by decide) ?_
            refine w_callVE (E := (Int → Bool)) (As := [.int (iI D), .int (iI 64)]) (rest := []) (w2 := (fun e_ : (Int → Bool) => [(h, .inr (9, [.ref a, .ref b, .ref tk, .ref re, .ref qu, .int (iI hd), .int (iI tl), .ref nm, .int (iI nl)])), (b, .inl (gI G, 4096, .inl (arI (gwD tm d D 64)))), (tk, .inl (gZ G, 64, .inl (arB e_))), (nm, .inl (gI G, 14, .inl (arI nb)))])) (st2 := (fun e_ : (Int → Bool) => [.int (iI (bI (decide (¬ abX tm d D))))])) C (ct_X11_grow G (kl k) h a b tk re qu nm hd tl nl d t tm D 64 hw (by omega) hk (by omega) (by omega)) gX11_142 dX11_putEntry_44 0 rfl rfl rfl rfl rfl (Nat.le_of_ble_eq_true rfl) (by decide) [0, 1, 2] rfl (by decide) [h, b, tk] (fun _ => rfl) rfl (fun _ => rfl) (fun _ => rfl) ?_
            intro t3 hu
            show Wd G k 4 _ _ [(h, .inr (9, [.ref a, .ref b, .ref tk, .ref re, .ref qu, .int (iI hd), .int (iI tl), .ref nm, .int (iI nl)])), (b, .inl (gI G, 4096, .inl (arI (gwD tm d D 64)))), (tk, .inl (gZ G, 64, .inl (arB t3))), (nm, .inl (gI G, 14, .inl (arI nb)))] 47 [(0, .ref h), (1, .int (iI D)), (2, .int (iI i)), (3, .int (iI p))] [.int (iI (bI (decide (¬ abX tm d D))))]
            refine w_bnz C 52 dX11_putEntry_47 rfl (fun c_14 => ?_) (fun c_14 => ?_)
            · have hX : ¬ abX tm d D := of_decide_eq_true c_14
              have gE := gw_ep hw hD hX
              have p9 : p = sz d D / 16 := by omega
              have e0 : rmR tm d D = tfB tm * 64 ∧ enD tm d D i nb nl = we (gwD tm d D 64) (ep (gwD tm d D 64) D p) i nb nl := by first | (exfalso; omega) | (rw [p9]; exact en_2 hw hD hf hX)
              have er9 := gE.2.2.1.ep_rgE gE.2.2.2 (p := p) (by omega) (by rw [gE.2.1]; omega)
              have f9 := (ab_fr hw hX).2.1.1
              have hz9 : True := trivial
              refine w_aload_n C 0 dX11_putEntry_52 rfl ?_
              refine w_aload_n C 0 dX11_putEntry_53 rfl ?_
              refine w_iload_n C 1 dX11_putEntry_54 rfl ?_
              refine w_iload_n C 3 dX11_putEntry_55 rfl ?_
              refine w_callV (As := [.int (iI D), .int (iI p)]) (rest := [.ref h]) (w2 := [(h, .inr (9, [.ref a, .ref b, .ref tk, .ref re, .ref qu, .int (iI hd), .int (iI tl), .ref nm, .int (iI nl)])), (b, .inl (gI G, 4096, .inl (arI (gwD tm d D 64)))), (tk, .inl (gZ G, 64, .inl (arB t3))), (nm, .inl (gI G, 14, .inl (arI nb)))]) (st2 := [.int (iI (ep (gwD tm d D 64) D p)), .ref h]) C (ct_X11_entry G (kl k) h a b tk re qu nm hd tl nl (gwD tm d D 64) D p (by omega) (by omega) (by omega)) gX11_73 dX11_putEntry_56 0 rfl rfl rfl rfl rfl (Nat.le_of_ble_eq_true rfl) (by decide) [0, 1] rfl (by decide) [h, b] rfl rfl rfl rfl ?_
              have f_15 := ep_rg (gwD tm d D 64) D p
              refine w_iload_n C 2 dX11_putEntry_59 rfl ?_
              refine w_callV (As := [.int (iI (ep (gwD tm d D 64) D p)), .int (iI i)]) (rest := []) (w2 := [(h, .inr (9, [.ref a, .ref b, .ref tk, .ref re, .ref qu, .int (iI hd), .int (iI tl), .ref nm, .int (iI nl)])), (b, .inl (gI G, 4096, .inl (arI (we (gwD tm d D 64) (ep (gwD tm d D 64) D p) i nb nl)))), (tk, .inl (gZ G, 64, .inl (arB t3))), (nm, .inl (gI G, 14, .inl (arI nb)))]) (st2 := []) C (ct_X11_write G (kl k) h a b tk re qu nm hd tl nl (gwD tm d D 64) nb (ep (gwD tm d D 64) D p) i (by omega) (by omega) (by omega)) gX11_112 dX11_putEntry_60 0 rfl rfl rfl rfl rfl (Nat.le_of_ble_eq_true rfl) (by decide) [0, 1, 3] rfl (by decide) [h, b, nm] rfl rfl rfl rfl ?_
              refine w_ws (ws2 := [(h, .inr (9, [.ref a, .ref b, .ref tk, .ref re, .ref qu, .int (iI hd), .int (iI tl), .ref nm, .int (iI nl)])), (b, .inl (gI G, 4096, .inl (arI (enD tm d D i nb nl)))), (tk, .inl (gZ G, 64, .inl (arB t3))), (nm, .inl (gI G, 14, .inl (arI nb)))]) (by first | (exfalso; omega) | rw [e0.2]) ?_
              refine w_iconst C dX11_putEntry_63 ?_
              exact w_reti hret dX11_putEntry_64 rfl rfl rfl rfl ⟨(t3), trivial, congrArg (fun z => some (Value.int (iI z))) (by first | (exfalso; omega) | (rw [decide_eq_true (by rw [e0.1]; omega)]; rfl)), rfl⟩
            · have hX : abX tm d D := by have w := c_14; rw [decide_eq_false_iff_not] at w; exact Classical.not_not.mp w
              have e1 : rmR tm d D = -1 ∧ enD tm d D i nb nl = gwD tm d D 64 := by first | (exfalso; omega) | exact en_1 hw hD.1 hD.2.1 hk hf hX
              refine w_ws (ws2 := [(h, .inr (9, [.ref a, .ref b, .ref tk, .ref re, .ref qu, .int (iI hd), .int (iI tl), .ref nm, .int (iI nl)])), (b, .inl (gI G, 4096, .inl (arI (enD tm d D i nb nl)))), (tk, .inl (gZ G, 64, .inl (arB t3))), (nm, .inl (gI G, 14, .inl (arI nb)))]) (by rw [e1.2]) ?_
              refine w_iconst C dX11_putEntry_50 ?_
              exact w_reti hret dX11_putEntry_51 rfl rfl rfl rfl ⟨(t3), trivial, congrArg (fun z => some (Value.int (iI z))) (by rw [decide_eq_false (fun z => z e1.1)]; rfl), rfl⟩
        · refine w_iinc (lv2 := [(0, .ref h), (1, .int (iI D)), (2, .int (iI i)), (3, .int (iI (p + 1)))]) C 3 dX11_putEntry_25 rfl (by decide) rfl ?_
          refine w_goto C 2 dX11_putEntry_28 rfl ?_
          exact ih_2 _ (by omega) (p + 1) (by omega) (by rw [hp, show (sz d D / 16 - p).toNat = (sz d D / 16 - (p + 1)).toNat + 1 by omega, rms, if_neg (by rw [im_at_in d (by omega)]; exact c_10)]) rfl
  exact L_2 _ 2 (by omega) (by unfold rmF; rw [hw.ecE hD]) rfl
