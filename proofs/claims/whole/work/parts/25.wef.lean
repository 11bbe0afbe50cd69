set_option maxHeartbeats 4000000 in
set_option maxRecDepth 100000 in
theorem ct_X1_wipeEntriesOf (G : GX) (l : Launch) (h : Nat) (o : Nat) (g : Nat) (b : Nat) (m : Nat) (tk : Int64) (d : Im) (i : Int) (hi : 0 ≤ i ∧ i < 32) : Ct G l yX1_wipeEntriesOf cX1_wipeEntriesOf 6 none rmX1_wipeEntriesOf [.ref h, .int (iI i)] [(h, .inr (1, [.ref g, .ref o, .ref m])), (o, .inr (4, [.ref g, .long tk])), (g, .inr (2, [.ref b])), (b, .inl (gI G, 4096, .inl (arI d)))] none [(h, .inr (1, [.ref g, .ref o, .ref m])), (o, .inr (4, [.ref g, .long tk])), (g, .inr (2, [.ref b])), (b, .inl (gI G, 4096, .inl (arI (wed i 31 1 d))))] := by
  refine Ct.of (by decide) (Nat.le_of_ble_eq_true rfl) ?_
  intro k C hl hret
  subst hl
  refine w_lv (lv2 := [(0, .ref h), (1, .int (iI i))]) [0, 1] rfl ?_
  refine w_iconst C dX1_wipeEntriesOf_0 ?_
  refine w_istore_n (lv2 := [(0, .ref h), (1, .int (iI i)), (2, .int (iI 1))]) C dX1_wipeEntriesOf_1 (by decide) rfl ?_
  have L_2 : ∀ (nn_2 : Nat) (q : Int) (x : Im), (1 ≤ q ∧ q ≤ 32) → (wed i 31 1 d = wed i (32 - q).toNat q x) → (32 - q).toNat = nn_2 → Wd G k 6 0 0 [(h, .inr (1, [.ref g, .ref o, .ref m])), (o, .inr (4, [.ref g, .long tk])), (g, .inr (2, [.ref b])), (b, .inl (gI G, 4096, .inl (arI x)))] 2 [(0, .ref h), (1, .int (iI i)), (2, .int (iI q))] [] := by
    intro nn_2
    induction nn_2 using Nat.strongRecOn with
    | ind nn_2 ih_2 =>
      intro q x h1 h2 hm_2
      refine w_iload_n C 2 dX1_wipeEntriesOf_2 rfl ?_
      refine w_bipush C dX1_wipeEntriesOf_3 (by decide) ?_
      refine w_icmp_ge C 79 dX1_wipeEntriesOf_5 rfl (by omega) (fun c_1 => ?_) (fun c_1 => ?_)
      · exact w_retv hret dX1_wipeEntriesOf_79 rfl rfl rfl ⟨rfl, (by rw [h2, show (32 - q).toNat = 0 by omega, wed])⟩
      · refine w_aload_n C 0 dX1_wipeEntriesOf_8 rfl ?_
        refine w_get C 0 1 137 dX1_wipeEntriesOf_9 rfl rfl inX1 (by decide) (by decide +kernel) rfl ?_
        refine w_iload_n C 2 dX1_wipeEntriesOf_12 rfl ?_
        refine w_callV (As := [.int (iI q)]) (rest := []) (w2 := [(h, .inr (1, [.ref g, .ref o, .ref m])), (o, .inr (4, [.ref g, .long tk])), (g, .inr (2, [.ref b])), (b, .inl (gI G, 4096, .inl (arI x)))]) (st2 := [.int (iI (kd x q))]) C (ct_X4_kind G (kl k) o g b tk x q (by omega)) gX1_80 dX1_wipeEntriesOf_13 1 rfl rfl rfl rfl rfl (Nat.le_of_ble_eq_true rfl) (by decide) [1, 2, 3] rfl (by decide) [o, g, b] rfl rfl rfl rfl ?_
        have f_2 := kd_rg x q
        refine w_iconst C dX1_wipeEntriesOf_16 ?_
        refine w_icmp_ne C 28 dX1_wipeEntriesOf_17 rfl (by omega) (fun c_3 => ?_) (fun c_3 => ?_)
        · refine w_iconst C dX1_wipeEntriesOf_28 ?_
          refine w_st (st2 := [.int (iI (cnt x q))]) (by unfold cnt; first | rw [if_pos c_3] | rw [if_neg c_3]) ?_
          refine w_istore_n (lv2 := [(0, .ref h), (1, .int (iI i)), (2, .int (iI q)), (3, .int (iI (cnt x q)))]) C dX1_wipeEntriesOf_29 (by decide) rfl ?_
          refine w_iconst C dX1_wipeEntriesOf_30 ?_
          refine w_istore (lv2 := [(0, .ref h), (1, .int (iI i)), (2, .int (iI q)), (3, .int (iI (cnt x q))), (4, .int (iI 2))]) C dX1_wipeEntriesOf_31 (by decide) rfl ?_
          have L_33 : ∀ (nn_33 : Nat) (e : Int) (y : Im), (2 ≤ e ∧ e ≤ 184) → (wef i q (cnt x q - 2).toNat 2 x = wef i q (cnt x q - e).toNat e y) → (cnt x q - e).toNat = nn_33 → Wd G k 6 0 0 [(h, .inr (1, [.ref g, .ref o, .ref m])), (o, .inr (4, [.ref g, .long tk])), (g, .inr (2, [.ref b])), (b, .inl (gI G, 4096, .inl (arI y)))] 33 [(0, .ref h), (1, .int (iI i)), (2, .int (iI q)), (3, .int (iI (cnt x q))), (4, .int (iI e))] [] := by
            intro nn_33
            induction nn_33 using Nat.strongRecOn with
            | ind nn_33 ih_33 =>
              intro e y h3 h4 hm_33
              have q9 := cnt_rg x q
              refine w_iload C 4 dX1_wipeEntriesOf_33 rfl ?_
              refine w_iload_n C 3 dX1_wipeEntriesOf_35 rfl ?_
              refine w_icmp_ge C 73 dX1_wipeEntriesOf_36 rfl (by omega) (fun c_4 => ?_) (fun c_4 => ?_)
              · refine w_iinc (lv2 := [(0, .ref h), (1, .int (iI i)), (2, .int (iI (q + 1))), (3, .int (iI (cnt x q))), (4, .int (iI e))]) C 2 dX1_wipeEntriesOf_73 rfl (by decide) rfl ?_
                refine w_goto C 2 dX1_wipeEntriesOf_76 rfl ?_
                refine w_lv (lv2 := [(0, .ref h), (1, .int (iI i)), (2, .int (iI ((q + 1))))]) [0, 1, 2] rfl ?_
                exact ih_2 _ (by omega) (q + 1) y (by omega) (by rw [h2, show (32 - q).toNat = (32 - (q + 1)).toNat + 1 by omega, wed, h4, show (cnt x q - e).toNat = 0 by omega, wef]) rfl
              · refine w_aload_n C 0 dX1_wipeEntriesOf_39 rfl ?_
                refine w_iload_n C 2 dX1_wipeEntriesOf_40 rfl ?_
                refine w_iload C 4 dX1_wipeEntriesOf_41 rfl ?_
                refine w_callV (As := [.int (iI q), .int (iI e)]) (rest := []) (w2 := [(h, .inr (1, [.ref g, .ref o, .ref m])), (o, .inr (4, [.ref g, .long tk])), (g, .inr (2, [.ref b])), (b, .inl (gI G, 4096, .inl (arI y)))]) (st2 := [.int (iI (ep y q e))]) C (ct_X1_entryPlace G (kl k) h o g b m tk y q e (by omega) (by omega)) gX1_48 dX1_wipeEntriesOf_43 0 rfl rfl rfl rfl rfl (Nat.le_of_ble_eq_true rfl) (by decide) [0, 1, 2, 3] rfl (by decide) [h, o, g, b] rfl rfl rfl rfl ?_
                have f_5 := ep_rg y q e
                refine w_istore (lv2 := [(0, .ref h), (1, .int (iI i)), (2, .int (iI q)), (3, .int (iI (cnt x q))), (4, .int (iI e)), (5, .int (iI (ep y q e)))]) C dX1_wipeEntriesOf_46 (by decide) rfl ?_
                refine w_aload_n C 0 dX1_wipeEntriesOf_48 rfl ?_
                refine w_get C 0 0 136 dX1_wipeEntriesOf_49 rfl rfl inX1 (by decide) (by decide +kernel) rfl ?_
                refine w_iload C 5 dX1_wipeEntriesOf_52 rfl ?_
                refine w_callV (As := [.int (iI (ep y q e))]) (rest := []) (w2 := [(h, .inr (1, [.ref g, .ref o, .ref m])), (o, .inr (4, [.ref g, .long tk])), (g, .inr (2, [.ref b])), (b, .inl (gI G, 4096, .inl (arI y)))]) (st2 := [.int (iI (im_at y (ep y q e)))]) C (ct_X2_at G (kl k) g b y (ep y q e) (by omega)) gX1_55 dX1_wipeEntriesOf_54 2 rfl rfl rfl rfl rfl (Nat.le_of_ble_eq_true rfl) (by decide) [2, 3] rfl (by decide) [g, b] rfl rfl rfl rfl ?_
                have f_6 := im_at_rg y (ep y q e)
                refine w_iload_n C 1 dX1_wipeEntriesOf_57 rfl ?_
                refine w_icmp_ne C 67 dX1_wipeEntriesOf_58 rfl (by omega) (fun c_7 => ?_) (fun c_7 => ?_)
                · refine w_iinc (lv2 := [(0, .ref h), (1, .int (iI i)), (2, .int (iI q)), (3, .int (iI (cnt x q))), (4, .int (iI (e + 1))), (5, .int (iI (ep y q e)))]) C 4 dX1_wipeEntriesOf_67 rfl (by decide) rfl ?_
                  refine w_goto C 33 dX1_wipeEntriesOf_70 rfl ?_
                  refine w_lv (lv2 := [(0, .ref h), (1, .int (iI i)), (2, .int (iI q)), (3, .int (iI (cnt x q))), (4, .int (iI ((e + 1))))]) [0, 1, 2, 3, 4] rfl ?_
                  exact ih_33 _ (by omega) (e + 1) y (by omega) (by rw [h4, show (cnt x q - e).toNat = (cnt x q - (e + 1)).toNat + 1 by omega, wef]; first | rw [if_pos c_7] | rw [if_neg c_7]) rfl
                · refine w_aload_n C 0 dX1_wipeEntriesOf_61 rfl ?_
                  refine w_iload C 5 dX1_wipeEntriesOf_62 rfl ?_
                  refine w_callV (As := [.int (iI (ep y q e))]) (rest := []) (w2 := [(h, .inr (1, [.ref g, .ref o, .ref m])), (o, .inr (4, [.ref g, .long tk])), (g, .inr (2, [.ref b])), (b, .inl (gI G, 4096, .inl (arI (im_wipe y (ep y q e) 16))))]) (st2 := []) C (ct_X1_wipeEntry G (kl k) h o g b m tk y (ep y q e) (by omega)) gX1_104 dX1_wipeEntriesOf_64 0 rfl rfl rfl rfl rfl (Nat.le_of_ble_eq_true rfl) (by decide) [0, 1, 2, 3] rfl (by decide) [h, o, g, b] rfl rfl rfl rfl ?_
                  refine w_iinc (lv2 := [(0, .ref h), (1, .int (iI i)), (2, .int (iI q)), (3, .int (iI (cnt x q))), (4, .int (iI (e + 1))), (5, .int (iI (ep y q e)))]) C 4 dX1_wipeEntriesOf_67 rfl (by decide) rfl ?_
                  refine w_goto C 33 dX1_wipeEntriesOf_70 rfl ?_
                  refine w_ord (ws2 := [(h, .inr (1, [.ref g, .ref o, .ref m])), (o, .inr (4, [.ref g, .long tk])), (g, .inr (2, [.ref b])), (b, .inl (gI G, 4096, .inl (arI ((im_wipe y (ep y q e) 16)))))]) [0, 1, 2, 3] rfl (by decide) ?_
                  refine w_lv (lv2 := [(0, .ref h), (1, .int (iI i)), (2, .int (iI q)), (3, .int (iI (cnt x q))), (4, .int (iI ((e + 1))))]) [0, 1, 2, 3, 4] rfl ?_
                  exact ih_33 _ (by omega) (e + 1) (im_wipe y (ep y q e) 16) (by omega) (by rw [h4, show (cnt x q - e).toNat = (cnt x q - (e + 1)).toNat + 1 by omega, wef]; first | rw [if_pos c_7] | rw [if_neg c_7]) rfl
          exact L_33 _ 2 x (by omega) rfl rfl
        · refine w_aload_n C 0 dX1_wipeEntriesOf_20 rfl ?_
          refine w_iload_n C 2 dX1_wipeEntriesOf_21 rfl ?_
          refine w_callV (As := [.int (iI q)]) (rest := []) (w2 := [(h, .inr (1, [.ref g, .ref o, .ref m])), (o, .inr (4, [.ref g, .long tk])), (g, .inr (2, [.ref b])), (b, .inl (gI G, 4096, .inl (arI x)))]) (st2 := [.int (iI (ec x q))]) C (ct_X1_entryCount G (kl k) h o g b m tk x q (by omega)) gX1_45 dX1_wipeEntriesOf_22 0 rfl rfl rfl rfl rfl (Nat.le_of_ble_eq_true rfl) (by decide) [0, 1, 2, 3] rfl (by decide) [h, o, g, b] rfl rfl rfl rfl ?_
          have f_8 := ec_rg x q
          refine w_goto C 29 dX1_wipeEntriesOf_25 rfl ?_
          refine w_st (st2 := [.int (iI (cnt x q))]) (by unfold cnt; first | rw [if_pos c_3] | rw [if_neg c_3]) ?_
          refine w_istore_n (lv2 := [(0, .ref h), (1, .int (iI i)), (2, .int (iI q)), (3, .int (iI (cnt x q)))]) C dX1_wipeEntriesOf_29 (by decide) rfl ?_
          refine w_iconst C dX1_wipeEntriesOf_30 ?_
          refine w_istore (lv2 := [(0, .ref h), (1, .int (iI i)), (2, .int (iI q)), (3, .int (iI (cnt x q))), (4, .int (iI 2))]) C dX1_wipeEntriesOf_31 (by decide) rfl ?_
          have L_33 : ∀ (nn_33 : Nat) (e : Int) (y : Im), (2 ≤ e ∧ e ≤ 184) → (wef i q (cnt x q - 2).toNat 2 x = wef i q (cnt x q - e).toNat e y) → (cnt x q - e).toNat = nn_33 → Wd G k 6 0 0 [(h, .inr (1, [.ref g, .ref o, .ref m])), (o, .inr (4, [.ref g, .long tk])), (g, .inr (2, [.ref b])), (b, .inl (gI G, 4096, .inl (arI y)))] 33 [(0, .ref h), (1, .int (iI i)), (2, .int (iI q)), (3, .int (iI (cnt x q))), (4, .int (iI e))] [] := by
            intro nn_33
            induction nn_33 using Nat.strongRecOn with
            | ind nn_33 ih_33 =>
              intro e y h3 h4 hm_33
              have q9 := cnt_rg x q
              refine w_iload C 4 dX1_wipeEntriesOf_33 rfl ?_
              refine w_iload_n C 3 dX1_wipeEntriesOf_35 rfl ?_
              refine w_icmp_ge C 73 dX1_wipeEntriesOf_36 rfl (by omega) (fun c_9 => ?_) (fun c_9 => ?_)
              · refine w_iinc (lv2 := [(0, .ref h), (1, .int (iI i)), (2, .int (iI (q + 1))), (3, .int (iI (cnt x q))), (4, .int (iI e))]) C 2 dX1_wipeEntriesOf_73 rfl (by decide) rfl ?_
                refine w_goto C 2 dX1_wipeEntriesOf_76 rfl ?_
                refine w_lv (lv2 := [(0, .ref h), (1, .int (iI i)), (2, .int (iI ((q + 1))))]) [0, 1, 2] rfl ?_
                exact ih_2 _ (by omega) (q + 1) y (by omega) (by rw [h2, show (32 - q).toNat = (32 - (q + 1)).toNat + 1 by omega, wed, h4, show (cnt x q - e).toNat = 0 by omega, wef]) rfl
              · refine w_aload_n C 0 dX1_wipeEntriesOf_39 rfl ?_
                refine w_iload_n C 2 dX1_wipeEntriesOf_40 rfl ?_
                refine w_iload C 4 dX1_wipeEntriesOf_41 rfl ?_
                refine w_callV (As := [.int (iI q), .int (iI e)]) (rest := []) (w2 := [(h, .inr (1, [.ref g, .ref o, .ref m])), (o, .inr (4, [.ref g, .long tk])), (g, .inr (2, [.ref b])), (b, .inl (gI G, 4096, .inl (arI y)))]) (st2 := [.int (iI (ep y q e))]) C (ct_X1_entryPlace G (kl k) h o g b m tk y q e (by omega) (by omega)) gX1_48 dX1_wipeEntriesOf_43 0 rfl rfl rfl rfl rfl (Nat.le_of_ble_eq_true rfl) (by decide) [0, 1, 2, 3] rfl (by decide) [h, o, g, b] rfl rfl rfl rfl ?_
                have f_10 := ep_rg y q e
                refine w_istore (lv2 := [(0, .ref h), (1, .int (iI i)), (2, .int (iI q)), (3, .int (iI (cnt x q))), (4, .int (iI e)), (5, .int (iI (ep y q e)))]) C dX1_wipeEntriesOf_46 (by decide) rfl ?_
                refine w_aload_n C 0 dX1_wipeEntriesOf_48 rfl ?_
                refine w_get C 0 0 136 dX1_wipeEntriesOf_49 rfl rfl inX1 (by decide) (by decide +kernel) rfl ?_
                refine w_iload C 5 dX1_wipeEntriesOf_52 rfl ?_
                refine w_callV (As := [.int (iI (ep y q e))]) (rest := []) (w2 := [(h, .inr (1, [.ref g, .ref o, .ref m])), (o, .inr (4, [.ref g, .long tk])), (g, .inr (2, [.ref b])), (b, .inl (gI G, 4096, .inl (arI y)))]) (st2 := [.int (iI (im_at y (ep y q e)))]) C (ct_X2_at G (kl k) g b y (ep y q e) (by omega)) gX1_55 dX1_wipeEntriesOf_54 2 rfl rfl rfl rfl rfl (Nat.le_of_ble_eq_true rfl) (by decide) [2, 3] rfl (by decide) [g, b] rfl rfl rfl rfl ?_
                have f_11 := im_at_rg y (ep y q e)
                refine w_iload_n C 1 dX1_wipeEntriesOf_57 rfl ?_
                refine w_icmp_ne C 67 dX1_wipeEntriesOf_58 rfl (by omega) (fun c_12 => ?_) (fun c_12 => ?_)
                · refine w_iinc (lv2 := [(0, .ref h), (1, .int (iI i)), (2, .int (iI q)), (3, .int (iI (cnt x q))), (4, .int (iI (e + 1))), (5, .int (iI (ep y q e)))]) C 4 dX1_wipeEntriesOf_67 rfl (by decide) rfl ?_
                  refine w_goto C 33 dX1_wipeEntriesOf_70 rfl ?_
                  refine w_lv (lv2 := [(0, .ref h), (1, .int (iI i)), (2, .int (iI q)), (3, .int (iI (cnt x q))), (4, .int (iI ((e + 1))))]) [0, 1, 2, 3, 4] rfl ?_
                  exact ih_33 _ (by omega) (e + 1) y (by omega) (by rw [h4, show (cnt x q - e).toNat = (cnt x q - (e + 1)).toNat + 1 by omega, wef]; first | rw [if_pos c_12] | rw [if_neg c_12]) rfl
                · refine w_aload_n C 0 dX1_wipeEntriesOf_61 rfl ?_
                  refine w_iload C 5 dX1_wipeEntriesOf_62 rfl ?_
                  refine w_callV (As := [.int (iI (ep y q e))]) (rest := []) (w2 := [(h, .inr (1, [.ref g, .ref o, .ref m])), (o, .inr (4, [.ref g, .long tk])), (g, .inr (2, [.ref b])), (b, .inl (gI G, 4096, .inl (arI (im_wipe y (ep y q e) 16))))]) (st2 := []) C (ct_X1_wipeEntry G (kl k) h o g b m tk y (ep y q e) (by omega)) gX1_104 dX1_wipeEntriesOf_64 0 rfl rfl rfl rfl rfl (Nat.le_of_ble_eq_true rfl) (by decide) [0, 1, 2, 3] rfl (by decide) [h, o, g, b] rfl rfl rfl rfl ?_
                  refine w_iinc (lv2 := [(0, .ref h), (1, .int (iI i)), (2, .int (iI q)), (3, .int (iI (cnt x q))), (4, .int (iI (e + 1))), (5, .int (iI (ep y q e)))]) C 4 dX1_wipeEntriesOf_67 rfl (by decide) rfl ?_
                  refine w_goto C 33 dX1_wipeEntriesOf_70 rfl ?_
                  refine w_ord (ws2 := [(h, .inr (1, [.ref g, .ref o, .ref m])), (o, .inr (4, [.ref g, .long tk])), (g, .inr (2, [.ref b])), (b, .inl (gI G, 4096, .inl (arI ((im_wipe y (ep y q e) 16)))))]) [0, 1, 2, 3] rfl (by decide) ?_
                  refine w_lv (lv2 := [(0, .ref h), (1, .int (iI i)), (2, .int (iI q)), (3, .int (iI (cnt x q))), (4, .int (iI ((e + 1))))]) [0, 1, 2, 3, 4] rfl ?_
                  exact ih_33 _ (by omega) (e + 1) (im_wipe y (ep y q e) 16) (by omega) (by rw [h4, show (cnt x q - e).toNat = (cnt x q - (e + 1)).toNat + 1 by omega, wef]; first | rw [if_pos c_12] | rw [if_neg c_12]) rfl
          exact L_33 _ 2 x (by omega) rfl rfl
  exact L_2 _ 1 d (by omega) (by rw [show ((32 : Int) - 1).toNat = 31 from rfl]) rfl
