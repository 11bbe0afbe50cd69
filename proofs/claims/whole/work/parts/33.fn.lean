theorem gX0_100 : cwv RX0 100 yX6_number cX6_number 4 none 2 629 630 631 69 632 := by decide +kernel
theorem gX0_103 : cwv RX0 103 yX1_seek cX1_seek 6 (some .int) 2 633 585 586 68 587 := by decide +kernel
set_option maxHeartbeats 4000000 in
set_option maxRecDepth 100000 in
theorem ct_X0_findName (G : GX) (l : Launch) (h : Nat) (o : Nat) (g : Nat) (b : Nat) (dd : Nat) (cm : Nat) (cq : Nat) (m : Nat) (hd : Int) (tl : Int) (rc : Int32) (tk : Int64) (d : Im) (cmb : Nat) (nb : Im) (n : Int) (i : Int) (hi : 0 ≤ i ∧ i < 32) (hn : 0 ≤ n ∧ n ≤ 14) : Ct G l yX0_findName cX0_findName 4 (some .boolean) rmX0_findName [.ref h, .int (iI i)] [(h, .inr (0, [.ref g, .ref o, .ref dd, .ref cm, .ref cq, .int (iI hd), .int (iI tl), .int rc])), (o, .inr (4, [.ref g, .long tk])), (g, .inr (2, [.ref b])), (b, .inl (gI G, 4096, .inl (arI d))), (dd, .inr (1, [.ref g, .ref o, .ref m])), (cm, .inr (5, [.ref cmb, .int (iI n)])), (cmb, .inl (gI G, 14, .inl (arI nb)))] (some (.int (iI (bI ((fnF d rc i nb n).1))))) [(h, .inr (0, [.ref g, .ref o, .ref dd, .ref cm, .ref cq, .int (iI hd), .int (iI tl), .int rc])), (o, .inr (4, [.ref g, .long tk])), (g, .inr (2, [.ref b])), (b, .inl (gI G, 4096, .inl (arI d))), (dd, .inr (1, [.ref g, .ref o, .ref m])), (cm, .inr (5, [.ref cmb, .int (iI ((fnF d rc i nb n).2.2))])), (cmb, .inl (gI G, 14, .inl (arI ((fnF d rc i nb n).2.1))))] := by
  refine Ct.of (by decide) (Nat.le_of_ble_eq_true rfl) ?_
  intro k C hl hret
  subst hl
  refine w_lv (lv2 := [(0, .ref h), (1, .int (iI i))]) [0, 1] rfl ?_
  refine w_aload_n C 0 dX0_findName_0 rfl ?_
  refine w_iconst C dX0_findName_1 ?_
  refine w_callV (As := [.int (iI 2)]) (rest := []) (w2 := [(h, .inr (0, [.ref g, .ref o, .ref dd, .ref cm, .ref cq, .int (iI hd), .int (iI tl), .int rc])), (o, .inr (4, [.ref g, .long tk])), (g, .inr (2, [.ref b])), (b, .inl (gI G, 4096, .inl (arI d))), (dd, .inr (1, [.ref g, .ref o, .ref m])), (cm, .inr (5, [.ref cmb, .int (iI n)])), (cmb, .inl (gI G, 14, .inl (arI nb)))]) (st2 := [.int (iI (bI (rbt rc 2)))]) C (ct_X0_isReached G (kl k) h o g dd cm cq hd tl rc 2 (by omega)) gX0_57 dX0_findName_2 0 rfl rfl rfl rfl rfl (Nat.le_of_ble_eq_true rfl) (by decide) [0] rfl (by decide) [h] rfl rfl rfl rfl ?_
  refine w_bz C 13 dX0_findName_5 rfl (fun c_1 => ?_) (fun c_1 => ?_)
  · refine w_iconst C dX0_findName_13 ?_
    refine w_istore_n (lv2 := [(0, .ref h), (1, .int (iI i)), (2, .int (iI 0))]) C dX0_findName_14 (by decide) rfl ?_
    refine w_iconst C dX0_findName_15 ?_
    refine w_istore_n (lv2 := [(0, .ref h), (1, .int (iI i)), (2, .int (iI 0)), (3, .int (iI 1))]) C dX0_findName_16 (by decide) rfl ?_
    have L_17 : ∀ (nn_17 : Nat) (mk : Int) (w : Int) (y : Im) (z : Int), ((w = 12 ∨ w = 0) ∧ 1 ≤ mk ∧ mk ≤ w + 1) → (fnF d rc i nb n = fns d i (w + 1 - mk).toNat mk y z) → (w + 1 - mk).toNat = nn_17 → Wd G k 4 0 0 [(h, .inr (0, [.ref g, .ref o, .ref dd, .ref cm, .ref cq, .int (iI hd), .int (iI tl), .int rc])), (o, .inr (4, [.ref g, .long tk])), (g, .inr (2, [.ref b])), (b, .inl (gI G, 4096, .inl (arI d))), (dd, .inr (1, [.ref g, .ref o, .ref m])), (cm, .inr (5, [.ref cmb, .int (iI z)])), (cmb, .inl (gI G, 14, .inl (arI y)))] 17 [(0, .ref h), (1, .int (iI i)), (2, .int (iI w)), (3, .int (iI mk))] [] := by
      intro nn_17
      induction nn_17 using Nat.strongRecOn with
      | ind nn_17 ih_17 =>
        intro mk w y z h0 h2 hm_17
        refine w_iload_n C 3 dX0_findName_17 rfl ?_
        refine w_iload_n C 2 dX0_findName_18 rfl ?_
        refine w_icmp_gt C 55 dX0_findName_19 rfl (by omega) (fun c_2 => ?_) (fun c_2 => ?_)
        · have h5 : fnF d rc i nb n = (false, y, z) := by rw [h2, show (w + 1 - mk).toNat = 0 by omega, fns]
          refine w_iconst C dX0_findName_55 ?_
          exact w_reti hret dX0_findName_56 rfl rfl rfl rfl ⟨congrArg (fun z => some (Value.int (iI z))) (by rw [h5]; rfl), (by rw [h5])⟩
        · refine w_aload_n C 0 dX0_findName_22 rfl ?_
          refine w_get C 0 3 179 dX0_findName_23 rfl rfl inX0 (by decide) (by decide +kernel) rfl ?_
          refine w_iload_n C 3 dX0_findName_26 rfl ?_
          refine w_iload_n C 1 dX0_findName_27 rfl ?_
          refine w_callV (As := [.int (iI mk), .int (iI i)]) (rest := []) (w2 := [(h, .inr (0, [.ref g, .ref o, .ref dd, .ref cm, .ref cq, .int (iI hd), .int (iI tl), .int rc])), (o, .inr (4, [.ref g, .long tk])), (g, .inr (2, [.ref b])), (b, .inl (gI G, 4096, .inl (arI d))), (dd, .inr (1, [.ref g, .ref o, .ref m])), (cm, .inr (5, [.ref cmb, .int (iI (mk + 2))])), (cmb, .inl (gI G, 14, .inl (arI (nm_num y mk i))))]) (st2 := []) C (ct_X6_number G (kl k) cm cmb y z mk i (by omega) (by omega)) gX0_100 dX0_findName_28 5 rfl rfl rfl rfl rfl (Nat.le_of_ble_eq_true rfl) (by decide) [5, 6] rfl (by decide) [cm, cmb] rfl rfl rfl rfl ?_
          refine w_aload_n C 0 dX0_findName_31 rfl ?_
          refine w_get C 0 2 178 dX0_findName_32 rfl rfl inX0 (by decide) (by decide +kernel) rfl ?_
          refine w_iconst C dX0_findName_35 ?_
          refine w_aload_n C 0 dX0_findName_36 rfl ?_
          refine w_get C 0 3 179 dX0_findName_37 rfl rfl inX0 (by decide) (by decide +kernel) rfl ?_
          refine w_callV (As := [.int (iI 2), .ref cm]) (rest := []) (w2 := [(h, .inr (0, [.ref g, .ref o, .ref dd, .ref cm, .ref cq, .int (iI hd), .int (iI tl), .int rc])), (o, .inr (4, [.ref g, .long tk])), (g, .inr (2, [.ref b])), (b, .inl (gI G, 4096, .inl (arI d))), (dd, .inr (1, [.ref g, .ref o, .ref m])), (cm, .inr (5, [.ref cmb, .int (iI ((mk + 2)))])), (cmb, .inl (gI G, 14, .inl (arI ((nm_num y mk i)))))]) (st2 := [.int (iI (sk d 2 (nm_num y mk i) (mk + 2)))]) C (ct_X1_seek G (kl k) dd o g b m tk d cm cmb (nm_num y mk i) (mk + 2) 2 (by omega) (by omega)) gX0_103 dX0_findName_40 4 rfl rfl rfl rfl rfl (Nat.le_of_ble_eq_true rfl) (by decide) [4, 1, 2, 3, 5, 6] rfl (by decide) [dd, o, g, b, cm, cmb] rfl rfl rfl rfl ?_
          have f_3 := sk_rg d 2 (nm_num y mk i) (mk + 2)
          refine w_iconst C dX0_findName_43 ?_
          refine w_icmp_ne C 49 dX0_findName_44 rfl (by omega) (fun c_4 => ?_) (fun c_4 => ?_)
          · refine w_iinc (lv2 := [(0, .ref h), (1, .int (iI i)), (2, .int (iI w)), (3, .int (iI (mk + 1)))]) C 3 dX0_findName_49 rfl (by decide) rfl ?_
            refine w_goto C 17 dX0_findName_52 rfl ?_
            refine w_ord (ws2 := [(h, .inr (0, [.ref g, .ref o, .ref dd, .ref cm, .ref cq, .int (iI hd), .int (iI tl), .int rc])), (o, .inr (4, [.ref g, .long tk])), (g, .inr (2, [.ref b])), (b, .inl (gI G, 4096, .inl (arI d))), (dd, .inr (1, [.ref g, .ref o, .ref m])), (cm, .inr (5, [.ref cmb, .int (iI (((mk + 2))))])), (cmb, .inl (gI G, 14, .inl (arI (((nm_num y mk i))))))]) [0, 1, 2, 3, 4, 5, 6] rfl (by decide) ?_
            refine w_lv (lv2 := [(0, .ref h), (1, .int (iI i)), (2, .int (iI w)), (3, .int (iI ((mk + 1))))]) [0, 1, 2, 3] rfl ?_
            exact ih_17 _ (by omega) (mk + 1) w ((nm_num y mk i)) ((mk + 2)) (by omega) (by rw [h2, show (w + 1 - mk).toNat = (w + 1 - (mk + 1)).toNat + 1 by omega, fns, if_neg c_4]) rfl
          · have h5 : fnF d rc i nb n = (true, nm_num y mk i, mk + 2) := by rw [h2, show (w + 1 - mk).toNat = (w + 1 - (mk + 1)).toNat + 1 by omega, fns, if_pos c_4]
            refine w_iconst C dX0_findName_47 ?_
            exact w_reti hret dX0_findName_48 rfl rfl rfl rfl ⟨congrArg (fun z => some (Value.int (iI z))) (by rw [h5]; rfl), (by rw [h5])⟩
    exact L_17 _ 1 0 nb n (by omega) (by unfold fnF; first | rw [if_pos c_1, show ((12 : Int) + 1 - 1).toNat = 12 from rfl] | rw [if_neg (by rw [c_1]; decide), show ((0 : Int) + 1 - 1).toNat = 0 from rfl]) rfl
  · refine w_bipush C dX0_findName_8 (by decide) ?_
    refine w_goto C 14 dX0_findName_10 rfl ?_
    refine w_istore_n (lv2 := [(0, .ref h), (1, .int (iI i)), (2, .int (iI 12))]) C dX0_findName_14 (by decide) rfl ?_
    refine w_iconst C dX0_findName_15 ?_
    refine w_istore_n (lv2 := [(0, .ref h), (1, .int (iI i)), (2, .int (iI 12)), (3, .int (iI 1))]) C dX0_findName_16 (by decide) rfl ?_
    have L_17 : ∀ (nn_17 : Nat) (mk : Int) (w : Int) (y : Im) (z : Int), ((w = 12 ∨ w = 0) ∧ 1 ≤ mk ∧ mk ≤ w + 1) → (fnF d rc i nb n = fns d i (w + 1 - mk).toNat mk y z) → (w + 1 - mk).toNat = nn_17 → Wd G k 4 0 0 [(h, .inr (0, [.ref g, .ref o, .ref dd, .ref cm, .ref cq, .int (iI hd), .int (iI tl), .int rc])), (o, .inr (4, [.ref g, .long tk])), (g, .inr (2, [.ref b])), (b, .inl (gI G, 4096, .inl (arI d))), (dd, .inr (1, [.ref g, .ref o, .ref m])), (cm, .inr (5, [.ref cmb, .int (iI z)])), (cmb, .inl (gI G, 14, .inl (arI y)))] 17 [(0, .ref h), (1, .int (iI i)), (2, .int (iI w)), (3, .int (iI mk))] [] := by
      intro nn_17
      induction nn_17 using Nat.strongRecOn with
      | ind nn_17 ih_17 =>
        intro mk w y z h0 h2 hm_17
        refine w_iload_n C 3 dX0_findName_17 rfl ?_
        refine w_iload_n C 2 dX0_findName_18 rfl ?_
        refine w_icmp_gt C 55 dX0_findName_19 rfl (by omega) (fun c_5 => ?_) (fun c_5 => ?_)
        · have h5 : fnF d rc i nb n = (false, y, z) := by rw [h2, show (w + 1 - mk).toNat = 0 by omega, fns]
          refine w_iconst C dX0_findName_55 ?_
          exact w_reti hret dX0_findName_56 rfl rfl rfl rfl ⟨congrArg (fun z => some (Value.int (iI z))) (by rw [h5]; rfl), (by rw [h5])⟩
        · refine w_aload_n C 0 dX0_findName_22 rfl ?_
          refine w_get C 0 3 179 dX0_findName_23 rfl rfl inX0 (by decide) (by decide +kernel) rfl ?_
          refine w_iload_n C 3 dX0_findName_26 rfl ?_
          refine w_iload_n C 1 dX0_findName_27 rfl ?_
          refine w_callV (As := [.int (iI mk), .int (iI i)]) (rest := []) (w2 := [(h, .inr (0, [.ref g, .ref o, .ref dd, .ref cm, .ref cq, .int (iI hd), .int (iI tl), .int rc])), (o, .inr (4, [.ref g, .long tk])), (g, .inr (2, [.ref b])), (b, .inl (gI G, 4096, .inl (arI d))), (dd, .inr (1, [.ref g, .ref o, .ref m])), (cm, .inr (5, [.ref cmb, .int (iI (mk + 2))])), (cmb, .inl (gI G, 14, .inl (arI (nm_num y mk i))))]) (st2 := []) C (ct_X6_number G (kl k) cm cmb y z mk i (by omega) (by omega)) gX0_100 dX0_findName_28 5 rfl rfl rfl rfl rfl (Nat.le_of_ble_eq_true rfl) (by decide) [5, 6] rfl (by decide) [cm, cmb] rfl rfl rfl rfl ?_
          refine w_aload_n C 0 dX0_findName_31 rfl ?_
          refine w_get C 0 2 178 dX0_findName_32 rfl rfl inX0 (by decide) (by decide +kernel) rfl ?_
          refine w_iconst C dX0_findName_35 ?_
          refine w_aload_n C 0 dX0_findName_36 rfl ?_
          refine w_get C 0 3 179 dX0_findName_37 rfl rfl inX0 (by decide) (by decide +kernel) rfl ?_
          refine w_callV (As := [.int (iI 2), .ref cm]) (rest := []) (w2 := [(h, .inr (0, [.ref g, .ref o, .ref dd, .ref cm, .ref cq, .int (iI hd), .int (iI tl), .int rc])), (o, .inr (4, [.ref g, .long tk])), (g, .inr (2, [.ref b])), (b, .inl (gI G, 4096, .inl (arI d))), (dd, .inr (1, [.ref g, .ref o, .ref m])), (cm, .inr (5, [.ref cmb, .int (iI ((mk + 2)))])), (cmb, .inl (gI G, 14, .inl (arI ((nm_num y mk i)))))]) (st2 := [.int (iI (sk d 2 (nm_num y mk i) (mk + 2)))]) C (ct_X1_seek G (kl k) dd o g b m tk d cm cmb (nm_num y mk i) (mk + 2) 2 (by omega) (by omega)) gX0_103 dX0_findName_40 4 rfl rfl rfl rfl rfl (Nat.le_of_ble_eq_true rfl) (by decide) [4, 1, 2, 3, 5, 6] rfl (by decide) [dd, o, g, b, cm, cmb] rfl rfl rfl rfl ?_
          have f_6 := sk_rg d 2 (nm_num y mk i) (mk + 2)
          refine w_iconst C dX0_findName_43 ?_
          refine w_icmp_ne C 49 dX0_findName_44 rfl (by omega) (fun c_7 => ?_) (fun c_7 => ?_)
          · refine w_iinc (lv2 := [(0, .ref h), (1, .int (iI i)), (2, .int (iI w)), (3, .int (iI (mk + 1)))]) C 3 dX0_findName_49 rfl (by decide) rfl ?_
            refine w_goto C 17 dX0_findName_52 rfl ?_
            refine w_ord (ws2 := [(h, .inr (0, [.ref g, .ref o, .ref dd, .ref cm, .ref cq, .int (iI hd), .int (iI tl), .int rc])), (o, .inr (4, [.ref g, .long tk])), (g, .inr (2, [.ref b])), (b, .inl (gI G, 4096, .inl (arI d))), (dd, .inr (1, [.ref g, .ref o, .ref m])), (cm, .inr (5, [.ref cmb, .int (iI (((mk + 2))))])), (cmb, .inl (gI G, 14, .inl (arI (((nm_num y mk i))))))]) [0, 1, 2, 3, 4, 5, 6] rfl (by decide) ?_
            refine w_lv (lv2 := [(0, .ref h), (1, .int (iI i)), (2, .int (iI w)), (3, .int (iI ((mk + 1))))]) [0, 1, 2, 3] rfl ?_
            exact ih_17 _ (by omega) (mk + 1) w ((nm_num y mk i)) ((mk + 2)) (by omega) (by rw [h2, show (w + 1 - mk).toNat = (w + 1 - (mk + 1)).toNat + 1 by omega, fns, if_neg c_7]) rfl
          · have h5 : fnF d rc i nb n = (true, nm_num y mk i, mk + 2) := by rw [h2, show (w + 1 - mk).toNat = (w + 1 - (mk + 1)).toNat + 1 by omega, fns, if_pos c_7]
            refine w_iconst C dX0_findName_47 ?_
            exact w_reti hret dX0_findName_48 rfl rfl rfl rfl ⟨congrArg (fun z => some (Value.int (iI z))) (by rw [h5]; rfl), (by rw [h5])⟩
    exact L_17 _ 1 12 nb n (by omega) (by unfold fnF; first | rw [if_pos c_1, show ((12 : Int) + 1 - 1).toNat = 12 from rfl] | rw [if_neg (by rw [c_1]; decide), show ((0 : Int) + 1 - 1).toNat = 0 from rfl]) rfl
