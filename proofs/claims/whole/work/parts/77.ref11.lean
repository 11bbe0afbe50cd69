set_option maxHeartbeats 4000000 in
set_option maxRecDepth 100000 in
theorem ct_X11_lostNameOf (G : GX) (l : Launch) (h : Nat) (a : Nat) (b : Nat) (tk : Nat) (re : Nat) (qu : Nat) (nm : Nat) (hd : Int) (tl : Int) (nl : Int) (d : Im) (nb : Im) (i : Int) (tm : Int64) (hnl : 0 ≤ nl ∧ nl ≤ 14) (hw : WF tm d) (hD : DE d) (h2 : drI d 2) (hi : 1 ≤ i ∧ i < 32) : CtE G l yX11_lostNameOf cX11_lostNameOf 4 (some .boolean) rmX11_lostNameOf [.ref h, .int (iI i)] [(h, .inr (9, [.ref a, .ref b, .ref tk, .ref re, .ref qu, .int (iI hd), .int (iI tl), .ref nm, .int (iI nl)])), (b, .inl (gI G, 4096, .inl (arI d))), (nm, .inl (gI G, 14, .inl (arI nb)))] (fun e_ : Im × Int => (0 ≤ e_.2 ∧ e_.2 ≤ 14) ∧ ((fns d i 12 1 zIm 0).1 = true → e_.2 = (fns d i 12 1 zIm 0).2.2 ∧ nmE e_.1 (fns d i 12 1 zIm 0).2.1 e_.2)) (fun e_ : Im × Int => (some (.int (iI (bI ((fns d i 12 1 zIm 0).1)))))) (fun e_ : Im × Int => [(h, .inr (9, [.ref a, .ref b, .ref tk, .ref re, .ref qu, .int (iI hd), .int (iI tl), .ref nm, .int (iI e_.2)])), (b, .inl (gI G, 4096, .inl (arI d))), (nm, .inl (gI G, 14, .inl (arI e_.1)))]) := by
  refine Ct.of (by decide) (Nat.le_of_ble_eq_true rfl) ?_
  intro k C hl hret
  subst hl
  refine w_lv (lv2 := [(0, .ref h), (1, .int (iI i))]) [0, 1] rfl ?_
  refine w_iconst C dX11_lostNameOf_0 ?_
  refine w_istore_n (lv2 := [(0, .ref h), (1, .int (iI i)), (2, .int (iI 1))]) C dX11_lostNameOf_1 (by decide) rfl ?_
  have L_2 : ∀ (nn_2 : Nat) (m : Int) (nb2 : Im) (n2 : Int) (zc : Im) (nc : Int), (1 ≤ m ∧ m ≤ 13) → (0 ≤ n2 ∧ n2 ≤ 14) → (fns d i 12 1 zIm 0 = fns d i (13 - m).toNat m zc nc) → (13 - m).toNat = nn_2 → Wd G k 4 0 0 [(h, .inr (9, [.ref a, .ref b, .ref tk, .ref re, .ref qu, .int (iI hd), .int (iI tl), .ref nm, .int (iI n2)])), (b, .inl (gI G, 4096, .inl (arI d))), (nm, .inl (gI G, 14, .inl (arI nb2)))] 2 [(0, .ref h), (1, .int (iI i)), (2, .int (iI m))] [] := by
    intro nn_2
    induction nn_2 using Nat.strongRecOn with
    | ind nn_2 ih_2 =>
      intro m nb2 n2 zc nc h1 hn2 hp hm_2
      refine w_iload_n C 2 dX11_lostNameOf_2 rfl ?_
      refine w_bipush C dX11_lostNameOf_3 (by decide) ?_
      refine w_icmp_gt C 86 dX11_lostNameOf_5 rfl (by omega) (fun c_1 => ?_) (fun c_1 => ?_)
      · have hT9 : fns d i 12 1 zIm 0 = (false, zc, nc) := by rw [hp, show (13 - m).toNat = 0 by omega, fns]
        refine w_iconst C dX11_lostNameOf_86 ?_
        exact w_reti hret dX11_lostNameOf_87 rfl rfl rfl rfl ⟨(nb2, n2), ⟨hn2, (fun w => by rw [hT9] at w; cases w)⟩, congrArg (fun z => some (Value.int (iI z))) (by rw [hT9]; rfl), rfl⟩
      · refine w_aload_n C 0 dX11_lostNameOf_8 rfl ?_
        refine w_iload_n C 2 dX11_lostNameOf_9 rfl ?_
        refine w_iconst C dX11_lostNameOf_10 ?_
        refine w_iadd C dX11_lostNameOf_11 ?_
        refine w_put (ty := .int) (ws2 := [(h, .inr (9, [.ref a, .ref b, .ref tk, .ref re, .ref qu, .int (iI hd), .int (iI tl), .ref nm, .int (iI (m + 2))])), (b, .inl (gI G, 4096, .inl (arI d))), (nm, .inl (gI G, 14, .inl (arI nb2)))]) C 0 8 854 dX11_lostNameOf_12 rfl rfl inX11 tyX11_ok nmX11 (by decide) (by decide +kernel) rfl (by decide +kernel) rfl rfl (Nat.le_of_ble_eq_true rfl) rfl ?_
        refine w_iconst C dX11_lostNameOf_15 ?_
        refine w_arr (e := nm_hash nb2 (Int.toNat 0)) (ws2 := [(h, .inr (9, [.ref a, .ref b, .ref tk, .ref re, .ref qu, .int (iI hd), .int (iI tl), .ref nm, .int (iI (m + 2))])), (b, .inl (gI G, 4096, .inl (arI d))), (nm, .inl (gI G, 14, .inl (arI (nm_hash nb2 (Int.toNat 0)))))]) 2 rfl (fun j _ _ => rfl) rfl ?_
        refine w_istore_n (lv2 := [(0, .ref h), (1, .int (iI i)), (2, .int (iI m)), (3, .int (iI 0))]) C dX11_lostNameOf_16 (by decide) rfl ?_
        have L_17 : ∀ (nn_17 : Nat) (u : Int), (0 ≤ u ∧ u ≤ m) → (m - u).toNat = nn_17 → Wd G k 4 0 0 [(h, .inr (9, [.ref a, .ref b, .ref tk, .ref re, .ref qu, .int (iI hd), .int (iI tl), .ref nm, .int (iI (m + 2))])), (b, .inl (gI G, 4096, .inl (arI d))), (nm, .inl (gI G, 14, .inl (arI (nm_hash nb2 (Int.toNat u)))))] 17 [(0, .ref h), (1, .int (iI i)), (2, .int (iI m)), (3, .int (iI u))] [] := by
          intro nn_17
          induction nn_17 using Nat.strongRecOn with
          | ind nn_17 ih_17 =>
            intro u h3 hm_17
            refine w_iload_n C 3 dX11_lostNameOf_17 rfl ?_
            refine w_iload_n C 2 dX11_lostNameOf_18 rfl ?_
            refine w_icmp_ge C 36 dX11_lostNameOf_19 rfl (by omega) (fun c_2 => ?_) (fun c_2 => ?_)
            · refine w_aload_n C 0 dX11_lostNameOf_36 rfl ?_
              refine w_get C 0 7 853 dX11_lostNameOf_37 rfl rfl inX11 (by decide) (by decide +kernel) rfl ?_
              refine w_iload_n C 2 dX11_lostNameOf_40 rfl ?_
              refine w_bipush C dX11_lostNameOf_41 (by decide) ?_
              refine w_iload_n C 1 dX11_lostNameOf_43 rfl ?_
              refine w_bipush C dX11_lostNameOf_44 (by decide) ?_
              refine w_idiv C dX11_lostNameOf_46 (by omega) ?_
              refine w_iadd C dX11_lostNameOf_47 ?_
              refine w_iast (ws2 := [(h, .inr (9, [.ref a, .ref b, .ref tk, .ref re, .ref qu, .int (iI hd), .int (iI tl), .ref nm, .int (iI (m + 2))])), (b, .inl (gI G, 4096, .inl (arI d))), (nm, .inl (gI G, 14, .inl (arI (up (nm_hash nb2 (Int.toNat u)) m (48 + (i / 10))))))]) C 2 dX11_lostNameOf_48 rfl (by omega) (by omega) rfl ?_
              refine w_aload_n C 0 dX11_lostNameOf_49 rfl ?_
              refine w_get C 0 7 853 dX11_lostNameOf_50 rfl rfl inX11 (by decide) (by decide +kernel) rfl ?_
              refine w_iload_n C 2 dX11_lostNameOf_53 rfl ?_
              refine w_iconst C dX11_lostNameOf_54 ?_
              refine w_iadd C dX11_lostNameOf_55 ?_
              refine w_bipush C dX11_lostNameOf_56 (by decide) ?_
              refine w_iload_n C 1 dX11_lostNameOf_58 rfl ?_
              refine w_bipush C dX11_lostNameOf_59 (by decide) ?_
              refine w_irem C dX11_lostNameOf_61 (by omega) ?_
              refine w_iadd C dX11_lostNameOf_62 ?_
              refine w_iast (ws2 := [(h, .inr (9, [.ref a, .ref b, .ref tk, .ref re, .ref qu, .int (iI hd), .int (iI tl), .ref nm, .int (iI (m + 2))])), (b, .inl (gI G, 4096, .inl (arI d))), (nm, .inl (gI G, 14, .inl (arI (up (up (nm_hash nb2 (Int.toNat u)) m (48 + (i / 10))) (m + 1) (48 + (i % 10))))))]) C 2 dX11_lostNameOf_63 rfl (by omega) (by omega) rfl ?_
              have hs9 : sk d 2 (nm_num zc m i) (m + 2) = -1 ↔ rfs d 2 (nm_num nb2 m i) (m + 2) (sz d 2 / 16 - 2).toNat 2 = -1 := by rw [← (nn_E nb2 zc (i := i) (by omega)).skE]; exact sk_rf hw h2 (by omega) hD
              refine w_arr (e := nm_num nb2 m i) (ws2 := [(h, .inr (9, [.ref a, .ref b, .ref tk, .ref re, .ref qu, .int (iI hd), .int (iI tl), .ref nm, .int (iI (m + 2))])), (b, .inl (gI G, 4096, .inl (arI d))), (nm, .inl (gI G, 14, .inl (arI (nm_num nb2 m i))))]) 2 rfl (fun j _ _ => by unfold nm_num; rw [show m.toNat = u.toNat by omega]) rfl ?_
              refine w_aload_n C 0 dX11_lostNameOf_64 rfl ?_
              refine w_iconst C dX11_lostNameOf_65 ?_
              refine w_aload_n C 0 dX11_lostNameOf_66 rfl ?_
              refine w_iconst C dX11_lostNameOf_67 ?_
              refine w_callV (As := [.int (iI 2)]) (rest := [.int (iI 2), .ref h]) (w2 := [(h, .inr (9, [.ref a, .ref b, .ref tk, .ref re, .ref qu, .int (iI hd), .int (iI tl), .ref nm, .int (iI (m + 2))])), (b, .inl (gI G, 4096, .inl (arI d))), (nm, .inl (gI G, 14, .inl (arI (nm_num nb2 m i))))]) (st2 := [.int (iI (sz d 2 / 16)), .int (iI 2), .ref h]) C (ct_X11_places G (kl k) h a b tk re qu nm hd tl (m + 2) d 2 (by omega)) gX11_106 dX11_lostNameOf_68 0 rfl rfl rfl rfl rfl (Nat.le_of_ble_eq_true rfl) (by decide) [0, 1] rfl (by decide) [h, b] rfl rfl rfl rfl ?_
              have f_3 := sz_rg d 2
              refine w_callV (As := [.int (iI 2), .int (iI (sz d 2 / 16))]) (rest := []) (w2 := [(h, .inr (9, [.ref a, .ref b, .ref tk, .ref re, .ref qu, .int (iI hd), .int (iI tl), .ref nm, .int (iI (m + 2))])), (b, .inl (gI G, 4096, .inl (arI d))), (nm, .inl (gI G, 14, .inl (arI (nm_num nb2 m i))))]) (st2 := [.int (iI (rfs d 2 (nm_num nb2 m i) (m + 2) ((sz d 2 / 16) - 2).toNat 2))]) C (ct_X11_find G (kl k) h a b tk re qu nm hd tl (m + 2) d (nm_num nb2 m i) 2 (sz d 2 / 16) (by omega) (by omega) (by have w := hw.szE h2; omega) (hw.epAE h2)) gX11_79 dX11_lostNameOf_71 0 rfl rfl rfl rfl rfl (Nat.le_of_ble_eq_true rfl) (by decide) [0, 1, 2] rfl (by decide) [h, b, nm] rfl rfl rfl rfl ?_
              have f_4 := rfs_rg d 2 (nm_num nb2 m i) (m + 2) ((sz d 2 / 16) - 2).toNat 2
              refine w_iconst C dX11_lostNameOf_74 ?_
              refine w_icmp_ne C 80 dX11_lostNameOf_75 rfl (by omega) (fun c_5 => ?_) (fun c_5 => ?_)
              · refine w_iinc (lv2 := [(0, .ref h), (1, .int (iI i)), (2, .int (iI (m + 1))), (3, .int (iI u))]) C 2 dX11_lostNameOf_80 rfl (by decide) rfl ?_
                refine w_goto C 2 dX11_lostNameOf_83 rfl ?_
                refine w_lv (lv2 := [(0, .ref h), (1, .int (iI i)), (2, .int (iI (m + 1)))]) [0, 1, 2] rfl ?_
                exact ih_2 _ (by omega) (m + 1) (nm_num nb2 m i) (m + 2) (nm_num zc m i) (m + 2) (by omega) (by omega) (by rw [hp, show (13 - m).toNat = (13 - (m + 1)).toNat + 1 by omega, fns, if_neg (fun w => c_5 (hs9.mp w))]) rfl
              · have hT9 : fns d i 12 1 zIm 0 = (true, nm_num zc m i, m + 2) := by rw [hp, show (13 - m).toNat = (13 - (m + 1)).toNat + 1 by omega, fns, if_pos (hs9.mpr c_5)]
                refine w_iconst C dX11_lostNameOf_78 ?_
                exact w_reti hret dX11_lostNameOf_79 rfl rfl rfl rfl ⟨(nm_num nb2 m i, m + 2), ⟨(by omega), (fun _ => by rw [hT9]; exact ⟨rfl, nn_E nb2 zc (by omega)⟩)⟩, congrArg (fun z => some (Value.int (iI z))) (by rw [hT9]; rfl), rfl⟩
            · refine w_aload_n C 0 dX11_lostNameOf_22 rfl ?_
              refine w_get C 0 7 853 dX11_lostNameOf_23 rfl rfl inX11 (by decide) (by decide +kernel) rfl ?_
              refine w_iload_n C 3 dX11_lostNameOf_26 rfl ?_
              refine w_bipush C dX11_lostNameOf_27 (by decide) ?_
              refine w_iast (ws2 := [(h, .inr (9, [.ref a, .ref b, .ref tk, .ref re, .ref qu, .int (iI hd), .int (iI tl), .ref nm, .int (iI (m + 2))])), (b, .inl (gI G, 4096, .inl (arI d))), (nm, .inl (gI G, 14, .inl (arI (up (nm_hash nb2 (Int.toNat u)) u 35))))]) C 2 dX11_lostNameOf_29 rfl (by omega) (by omega) rfl ?_
              refine w_arr (e := nm_hash nb2 (Int.toNat (u + 1))) (ws2 := [(h, .inr (9, [.ref a, .ref b, .ref tk, .ref re, .ref qu, .int (iI hd), .int (iI tl), .ref nm, .int (iI (m + 2))])), (b, .inl (gI G, 4096, .inl (arI d))), (nm, .inl (gI G, 14, .inl (arI (nm_hash nb2 (Int.toNat (u + 1))))))]) 2 rfl (fun j _ _ => by rw [show (u + 1).toNat = u.toNat + 1 by omega, nm_hash, show (u.toNat : Int) = u by omega]) rfl ?_
              refine w_iinc (lv2 := [(0, .ref h), (1, .int (iI i)), (2, .int (iI m)), (3, .int (iI (u + 1)))]) C 3 dX11_lostNameOf_30 rfl (by decide) rfl ?_
              refine w_goto C 17 dX11_lostNameOf_33 rfl ?_
              exact ih_17 _ (by omega) (u + 1) (by omega) rfl
        exact L_17 _ 0 (by omega) rfl
  exact L_2 _ 1 nb nl zIm 0 (by omega) hnl (by rw [show ((13 : Int) - 1).toNat = 12 from rfl]) rfl

set_option maxHeartbeats 4000000 in
set_option maxRecDepth 100000 in
theorem ct_X11_drop (G : GX) (l : Launch) (h : Nat) (a : Nat) (b : Nat) (tk : Nat) (re : Nat) (qu : Nat) (nm : Nat) (hd : Int) (tl : Int) (nl : Int) (d : Im) (i : Int) (tm : Int64) (hw : WF tm d) (hD : DE d) (hi : 1 ≤ i ∧ i < 32) (hk : kd d i ≠ 0) : CtE G l yX11_drop cX11_drop 4 none rmX11_drop [.ref h, .int (iI i)] [(h, .inr (9, [.ref a, .ref b, .ref tk, .ref re, .ref qu, .int (iI hd), .int (iI tl), .ref nm, .int (iI nl)])), (b, .inl (gI G, 4096, .inl (arI d)))] (fun e_ : Unit => (WF (erT tm d i) (wed i 31 1 (im_wipe d (512 + i * 16) 16))) ∧ (DE (wed i 31 1 (im_wipe d (512 + i * 16) 16))) ∧ (∀ j : Int, kd (wed i 31 1 (im_wipe d (512 + i * 16) 16)) j = kd (wI d i) j)) (fun e_ : Unit => none) (fun e_ : Unit => [(h, .inr (9, [.ref a, .ref b, .ref tk, .ref re, .ref qu, .int (iI hd), .int (iI tl), .ref nm, .int (iI nl)])), (b, .inl (gI G, 4096, .inl (arI (wed i 31 1 (im_wipe d (512 + i * 16) 16)))))]) := by
  refine Ct.of (by decide) (Nat.le_of_ble_eq_true rfl) ?_
  intro k C hl hret
  subst hl
  refine w_lv (lv2 := [(0, .ref h), (1, .int (iI i))]) [0, 1] rfl ?_
  refine w_aload_n C 0 dX11_drop_0 rfl ?_
  refine w_iload_n C 1 dX11_drop_1 rfl ?_
  refine w_callS (As := [.int (iI i)]) (rest := [.ref h]) (w2 := [(h, .inr (9, [.ref a, .ref b, .ref tk, .ref re, .ref qu, .int (iI hd), .int (iI tl), .ref nm, .int (iI nl)])), (b, .inl (gI G, 4096, .inl (arI d)))]) (st2 := [.int (iI (512 + 16 * i)), .ref h]) C (ct_X11_base G (kl k) i) gX11_42 dX11_drop_2 rfl rfl (Nat.le_of_ble_eq_true rfl) (by decide) [] rfl (by decide) [] rfl rfl rfl rfl ?_
  refine w_bipush C dX11_drop_5 (by decide) ?_
  refine w_callV (As := [.int (iI (512 + 16 * i)), .int (iI 16)]) (rest := []) (w2 := [(h, .inr (9, [.ref a, .ref b, .ref tk, .ref re, .ref qu, .int (iI hd), .int (iI tl), .ref nm, .int (iI nl)])), (b, .inl (gI G, 4096, .inl (arI (im_wipe d (512 + 16 * i) 16))))]) (st2 := []) C (ct_X11_clear G (kl k) h a b tk re qu nm hd tl nl d (512 + 16 * i) 16 (by unfold rgP; omega)) gX11_65 dX11_drop_7 0 rfl rfl rfl rfl rfl (Nat.le_of_ble_eq_true rfl) (by decide) [0, 1] rfl (by decide) [h, b] rfl rfl rfl rfl ?_
  refine w_ws (ws2 := [(h, .inr (9, [.ref a, .ref b, .ref tk, .ref re, .ref qu, .int (iI hd), .int (iI tl), .ref nm, .int (iI nl)])), (b, .inl (gI G, 4096, .inl (arI (im_wipe d (512 + i * 16) 16))))]) (by rw [show 512 + 16 * i = 512 + i * 16 by omega]) ?_
  refine w_iconst C dX11_drop_10 ?_
  refine w_istore_n (lv2 := [(0, .ref h), (1, .int (iI i)), (2, .int (iI 1))]) C dX11_drop_11 (by decide) rfl ?_
  have L_12 : ∀ (nn_12 : Nat) (D : Int) (x : Im), (1 ≤ D ∧ D ≤ 32) → (WF (erT tm d i) x) → (DW i x D 2) → (∀ j : Int, kd x j = kd (wI d i) j) → (wed i 31 1 (im_wipe d (512 + i * 16) 16) = wed i (32 - D).toNat D x) → (32 - D).toNat = nn_12 → Wd G k 4 0 0 [(h, .inr (9, [.ref a, .ref b, .ref tk, .ref re, .ref qu, .int (iI hd), .int (iI tl), .ref nm, .int (iI nl)])), (b, .inl (gI G, 4096, .inl (arI x)))] 12 [(0, .ref h), (1, .int (iI i)), (2, .int (iI D))] [] := by
    intro nn_12
    induction nn_12 using Nat.strongRecOn with
    | ind nn_12 ih_12 =>
      intro D x h1 hW hw2 hK hp hm_12
      refine w_iload_n C 2 dX11_drop_12 rfl ?_
      refine w_bipush C dX11_drop_13 (by decide) ?_
      refine w_icmp_ge C 77 dX11_drop_15 rfl (by omega) (fun c_1 => ?_) (fun c_1 => ?_)
      · have hE9 : wed i 31 1 (im_wipe d (512 + i * 16) 16) = x := by rw [hp, show (32 - D).toNat = 0 by omega, wed]
        refine w_ws (ws2 := [(h, .inr (9, [.ref a, .ref b, .ref tk, .ref re, .ref qu, .int (iI hd), .int (iI tl), .ref nm, .int (iI nl)])), (b, .inl (gI G, 4096, .inl (arI (wed i 31 1 (im_wipe d (512 + i * 16) 16)))))]) (by rw [hp, show (32 - D).toNat = 0 by omega, wed]) ?_
        exact w_retv hret dX11_drop_77 rfl rfl rfl ⟨(()), ⟨(by rw [hE9]; exact hW), (by rw [hE9]; have w := hw2; rw [show D = 32 by omega] at w; exact DW_E w), (by rw [hE9]; exact hK)⟩, rfl, rfl⟩
      · refine w_iconst C dX11_drop_18 ?_
        refine w_istore_n (lv2 := [(0, .ref h), (1, .int (iI i)), (2, .int (iI D)), (3, .int (iI 2))]) C dX11_drop_19 (by decide) rfl ?_
        have L_20 : ∀ (nn_20 : Nat) (p : Int) (x : Im), (2 ≤ p ∧ (kd x D = 2 → p ≤ sz x D / 16)) → (WF (erT tm d i) x) → (DW i x D p) → (∀ j : Int, kd x j = kd (wI d i) j) → (wed i 31 1 (im_wipe d (512 + i * 16) 16) = wed i (32 - (D + 1)).toNat (D + 1) (wef i D (cnt x D - p).toNat p x)) → (sz x D / 16 - p).toNat = nn_20 → Wd G k 4 0 0 [(h, .inr (9, [.ref a, .ref b, .ref tk, .ref re, .ref qu, .int (iI hd), .int (iI tl), .ref nm, .int (iI nl)])), (b, .inl (gI G, 4096, .inl (arI x)))] 20 [(0, .ref h), (1, .int (iI i)), (2, .int (iI D)), (3, .int (iI p))] [] := by
          intro nn_20
          induction nn_20 using Nat.strongRecOn with
          | ind nn_20 ih_20 =>
            intro p x h3 hW2 hw3 hK2 hp2 hm_20
            refine w_aload_n C 0 dX11_drop_20 rfl ?_
            refine w_iload_n C 2 dX11_drop_21 rfl ?_
            refine w_callV (As := [.int (iI D)]) (rest := []) (w2 := [(h, .inr (9, [.ref a, .ref b, .ref tk, .ref re, .ref qu, .int (iI hd), .int (iI tl), .ref nm, .int (iI nl)])), (b, .inl (gI G, 4096, .inl (arI x)))]) (st2 := [.int (iI (kd x D))]) C (ct_X11_kind G (kl k) h a b tk re qu nm hd tl nl x D (by omega)) gX11_62 dX11_drop_22 0 rfl rfl rfl rfl rfl (Nat.le_of_ble_eq_true rfl) (by decide) [0, 1] rfl (by decide) [h, b] rfl rfl rfl rfl ?_
            have f_2 := kd_rg x D
            refine w_iconst C dX11_drop_25 ?_
            refine w_icmp_ne C 71 dX11_drop_26 rfl (by omega) (fun c_3 => ?_) (fun c_3 => ?_)
            · have hkn : ¬ kd x D = 2 := c_3
              refine w_iinc (lv2 := [(0, .ref h), (1, .int (iI i)), (2, .int (iI (D + 1))), (3, .int (iI p))]) C 2 dX11_drop_71 rfl (by decide) rfl ?_
              refine w_goto C 12 dX11_drop_74 rfl ?_
              refine w_lv (lv2 := [(0, .ref h), (1, .int (iI i)), (2, .int (iI (D + 1)))]) [0, 1, 2] rfl ?_
              exact ih_12 _ (by omega) (D + 1) x (by omega) hW2 (DW_n hw3 (by first | exact Or.inl hkn | exact Or.inr (by omega))) hK2 (by rw [hp2]; first | (rw [show (cnt x D - p).toNat = 0 by (unfold cnt; rw [if_neg hkn]; omega), wef]; done) | (rw [show (cnt x D - p).toNat = 0 by (unfold cnt; rw [if_pos hdr.2.2, hW2.ecE hdr]; omega), wef])) rfl
            · have hdr : drI x D := ⟨h1.1, by omega, c_3⟩
              have hs9 := hW2.szE hdr
              have h39 := h3.2 hdr.2.2
              refine w_iload_n C 3 dX11_drop_29 rfl ?_
              refine w_aload_n C 0 dX11_drop_30 rfl ?_
              refine w_iload_n C 2 dX11_drop_31 rfl ?_
              refine w_callV (As := [.int (iI D)]) (rest := [.int (iI p)]) (w2 := [(h, .inr (9, [.ref a, .ref b, .ref tk, .ref re, .ref qu, .int (iI hd), .int (iI tl), .ref nm, .int (iI nl)])), (b, .inl (gI G, 4096, .inl (arI x)))]) (st2 := [.int (iI (sz x D / 16)), .int (iI p)]) C (ct_X11_places G (kl k) h a b tk re qu nm hd tl nl x D (by omega)) gX11_106 dX11_drop_32 0 rfl rfl rfl rfl rfl (Nat.le_of_ble_eq_true rfl) (by decide) [0, 1] rfl (by decide) [h, b] rfl rfl rfl rfl ?_
              have f_4 := sz_rg x D
              refine w_icmp_ge C 71 dX11_drop_35 rfl (by omega) (fun c_5 => ?_) (fun c_5 => ?_)
              · refine w_iinc (lv2 := [(0, .ref h), (1, .int (iI i)), (2, .int (iI (D + 1))), (3, .int (iI p))]) C 2 dX11_drop_71 rfl (by decide) rfl ?_
                refine w_goto C 12 dX11_drop_74 rfl ?_
                refine w_lv (lv2 := [(0, .ref h), (1, .int (iI i)), (2, .int (iI (D + 1)))]) [0, 1, 2] rfl ?_
                exact ih_12 _ (by omega) (D + 1) x (by omega) hW2 (DW_n hw3 (by first | exact Or.inl hkn | exact Or.inr (by omega))) hK2 (by rw [hp2]; first | (rw [show (cnt x D - p).toNat = 0 by (unfold cnt; rw [if_neg hkn]; omega), wef]; done) | (rw [show (cnt x D - p).toNat = 0 by (unfold cnt; rw [if_pos hdr.2.2, hW2.ecE hdr]; omega), wef])) rfl
              · have er9 := hW2.ep_rgE hdr (p := p) (by omega) (by omega)
                have hc9 := drS_cg (i := i) hW2 hdr (P := p) (by omega) (by omega)
                refine w_aload_n C 0 dX11_drop_38 rfl ?_
                refine w_get C 0 1 847 dX11_drop_39 rfl rfl inX11 (by decide) (by decide +kernel) rfl ?_
                refine w_aload_n C 0 dX11_drop_42 rfl ?_
                refine w_iload_n C 2 dX11_drop_43 rfl ?_
                refine w_iload_n C 3 dX11_drop_44 rfl ?_
                refine w_callV (As := [.int (iI D), .int (iI p)]) (rest := [.ref b]) (w2 := [(h, .inr (9, [.ref a, .ref b, .ref tk, .ref re, .ref qu, .int (iI hd), .int (iI tl), .ref nm, .int (iI nl)])), (b, .inl (gI G, 4096, .inl (arI x)))]) (st2 := [.int (iI (ep x D p)), .ref b]) C (ct_X11_entry G (kl k) h a b tk re qu nm hd tl nl x D p (by omega) (by omega) (by omega)) gX11_73 dX11_drop_45 0 rfl rfl rfl rfl rfl (Nat.le_of_ble_eq_true rfl) (by decide) [0, 1] rfl (by decide) [h, b] rfl rfl rfl rfl ?_
                have f_6 := ep_rg x D p
                refine w_iald C 1 dX11_drop_48 rfl (by omega) ?_
                have b_7 := x.2 (ep x D p)
                refine w_iload_n C 1 dX11_drop_49 rfl ?_
                refine w_icmp_ne C 65 dX11_drop_50 rfl (by omega) (fun c_8 => ?_) (fun c_8 => ?_)
                · refine w_arr (e := drS i D p x) (ws2 := [(h, .inr (9, [.ref a, .ref b, .ref tk, .ref re, .ref qu, .int (iI hd), .int (iI tl), .ref nm, .int (iI nl)])), (b, .inl (gI G, 4096, .inl (arI (drS i D p x))))]) 1 rfl (fun j _ _ => congrArg (fun z : Im => z.1 j) (by unfold drS; rw [im_at_in x (by omega)]; first | (rw [if_pos c_8]; done) | rw [if_neg c_8])) rfl ?_
                  refine w_iinc (lv2 := [(0, .ref h), (1, .int (iI i)), (2, .int (iI D)), (3, .int (iI (p + 1)))]) C 3 dX11_drop_65 rfl (by decide) rfl ?_
                  refine w_goto C 20 dX11_drop_68 rfl ?_
                  exact ih_20 _ (by rw [cg_sz hW2 hdr (by omega) (by omega) hc9]; omega) (p + 1) (drS i D p x) (by rw [cg_sz hW2 hdr (by omega) (by omega) hc9]; omega) (cg_WF hW2 hdr (by omega) (by omega) hc9) (DW_s hW2 hdr (by omega) (by omega) hw3) (fun j => by rw [cg_kd hW2 hdr (by omega) (by omega) hc9]; exact hK2 j) (by have w := hW2.ecE hdr; rw [hp2]; unfold cnt; rw [cg_kd hW2 hdr (by omega) (by omega) hc9, cg_ec hW2 hdr (by omega) (by omega) hc9, if_pos hdr.2.2, show (ec x D - p).toNat = (ec x D - (p + 1)).toNat + 1 by omega, wef]; rfl) rfl
                · refine w_aload_n C 0 dX11_drop_53 rfl ?_
                  refine w_aload_n C 0 dX11_drop_54 rfl ?_
                  refine w_iload_n C 2 dX11_drop_55 rfl ?_
                  refine w_iload_n C 3 dX11_drop_56 rfl ?_
                  refine w_callV (As := [.int (iI D), .int (iI p)]) (rest := [.ref h]) (w2 := [(h, .inr (9, [.ref a, .ref b, .ref tk, .ref re, .ref qu, .int (iI hd), .int (iI tl), .ref nm, .int (iI nl)])), (b, .inl (gI G, 4096, .inl (arI x)))]) (st2 := [.int (iI (ep x D p)), .ref h]) C (ct_X11_entry G (kl k) h a b tk re qu nm hd tl nl x D p (by omega) (by omega) (by omega)) gX11_73 dX11_drop_57 0 rfl rfl rfl rfl rfl (Nat.le_of_ble_eq_true rfl) (by decide) [0, 1] rfl (by decide) [h, b] rfl rfl rfl rfl ?_
                  have f_9 := ep_rg x D p
                  refine w_bipush C dX11_drop_60 (by decide) ?_
                  refine w_callV (As := [.int (iI (ep x D p)), .int (iI 16)]) (rest := []) (w2 := [(h, .inr (9, [.ref a, .ref b, .ref tk, .ref re, .ref qu, .int (iI hd), .int (iI tl), .ref nm, .int (iI nl)])), (b, .inl (gI G, 4096, .inl (arI (im_wipe x (ep x D p) 16))))]) (st2 := []) C (ct_X11_clear G (kl k) h a b tk re qu nm hd tl nl x (ep x D p) 16 (by unfold rgP; omega)) gX11_65 dX11_drop_62 0 rfl rfl rfl rfl rfl (Nat.le_of_ble_eq_true rfl) (by decide) [0, 1] rfl (by decide) [h, b] rfl rfl rfl rfl ?_
                  refine w_arr (e := drS i D p x) (ws2 := [(h, .inr (9, [.ref a, .ref b, .ref tk, .ref re, .ref qu, .int (iI hd), .int (iI tl), .ref nm, .int (iI nl)])), (b, .inl (gI G, 4096, .inl (arI (drS i D p x))))]) 1 rfl (fun j _ _ => congrArg (fun z : Im => z.1 j) (by unfold drS; rw [im_at_in x (by omega)]; first | (rw [if_pos c_8]; done) | rw [if_neg c_8])) rfl ?_
                  refine w_iinc (lv2 := [(0, .ref h), (1, .int (iI i)), (2, .int (iI D)), (3, .int (iI (p + 1)))]) C 3 dX11_drop_65 rfl (by decide) rfl ?_
                  refine w_goto C 20 dX11_drop_68 rfl ?_
                  exact ih_20 _ (by rw [cg_sz hW2 hdr (by omega) (by omega) hc9]; omega) (p + 1) (drS i D p x) (by rw [cg_sz hW2 hdr (by omega) (by omega) hc9]; omega) (cg_WF hW2 hdr (by omega) (by omega) hc9) (DW_s hW2 hdr (by omega) (by omega) hw3) (fun j => by rw [cg_kd hW2 hdr (by omega) (by omega) hc9]; exact hK2 j) (by have w := hW2.ecE hdr; rw [hp2]; unfold cnt; rw [cg_kd hW2 hdr (by omega) (by omega) hc9, cg_ec hW2 hdr (by omega) (by omega) hc9, if_pos hdr.2.2, show (ec x D - p).toNat = (ec x D - (p + 1)).toNat + 1 by omega, wef]; rfl) rfl
        exact L_20 _ 2 x (by refine ⟨by omega, fun z => ?_⟩; have w := hW.szE ⟨h1.1, by omega, z⟩; omega) hW hw2 hK (by rw [hp, show (32 - D).toNat = (32 - (D + 1)).toNat + 1 by omega, wed]) rfl
  exact L_12 _ 1 (im_wipe d (512 + i * 16) 16) (by omega) (hw.erase hi.1 hi.2 hk) (DW_n (DW_0 hw hD hi.1 hi.2 hk) (Or.inl (by have w := hw.k0; rw [wI_ne d (by omega) (by omega) (by omega), w]; omega))) (fun _ => rfl) (by rw [show ((32 : Int) - 1).toNat = 31 from rfl]) rfl
