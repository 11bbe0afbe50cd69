theorem gX1_125 : cwv RX1 125 yX1_countLink cX1_countLink 5 none 2 660 662 14 68 663 := by decide +kernel
set_option maxHeartbeats 4000000 in
set_option maxRecDepth 100000 in
theorem ct_X1_countLinks (G : GX) (l : Launch) (h : Nat) (o : Nat) (g : Nat) (b : Nat) (m : Nat) (tk : Int64) (d : Im) : Ct G l yX1_countLinks cX1_countLinks 4 none rmX1_countLinks [.ref h] [(h, .inr (1, [.ref g, .ref o, .ref m])), (o, .inr (4, [.ref g, .long tk])), (g, .inr (2, [.ref b])), (b, .inl (gI G, 4096, .inl (arI d)))] none [(h, .inr (1, [.ref g, .ref o, .ref m])), (o, .inr (4, [.ref g, .long tk])), (g, .inr (2, [.ref b])), (b, .inl (gI G, 4096, .inl (arI (clL d))))] := by
  refine Ct.of (by decide) (Nat.le_of_ble_eq_true rfl) ?_
  intro k C hl hret
  subst hl
  refine w_lv (lv2 := [(0, .ref h)]) [0] rfl ?_
  refine w_iconst C dX1_countLinks_0 ?_
  refine w_istore_n (lv2 := [(0, .ref h), (1, .int (iI 1))]) C dX1_countLinks_1 (by decide) rfl ?_
  have L_2 : ∀ (nn_2 : Nat) (q : Int) (x : Im), (1 ≤ q ∧ q ≤ 32) → (cl0 31 1 d = cl0 (32 - q).toNat q x) → (32 - q).toNat = nn_2 → Wd G k 4 0 0 [(h, .inr (1, [.ref g, .ref o, .ref m])), (o, .inr (4, [.ref g, .long tk])), (g, .inr (2, [.ref b])), (b, .inl (gI G, 4096, .inl (arI x)))] 2 [(0, .ref h), (1, .int (iI q))] [] := by
    intro nn_2
    induction nn_2 using Nat.strongRecOn with
    | ind nn_2 ih_2 =>
      intro q x h1 h2 hm_2
      refine w_iload_n C 1 dX1_countLinks_2 rfl ?_
      refine w_bipush C dX1_countLinks_3 (by decide) ?_
      refine w_icmp_ge C 39 dX1_countLinks_5 rfl (by omega) (fun c_1 => ?_) (fun c_1 => ?_)
      · refine w_iconst C dX1_countLinks_39 ?_
        refine w_istore_n (lv2 := [(0, .ref h), (1, .int (iI 1))]) C dX1_countLinks_40 (by decide) rfl ?_
        have L_41 : ∀ (nn_41 : Nat) (r : Int) (u : Im), (1 ≤ r ∧ r ≤ 32) → (clL d = cld (32 - r).toNat r u) → (32 - r).toNat = nn_41 → Wd G k 4 0 0 [(h, .inr (1, [.ref g, .ref o, .ref m])), (o, .inr (4, [.ref g, .long tk])), (g, .inr (2, [.ref b])), (b, .inl (gI G, 4096, .inl (arI u)))] 41 [(0, .ref h), (1, .int (iI r))] [] := by
          intro nn_41
          induction nn_41 using Nat.strongRecOn with
          | ind nn_41 ih_41 =>
            intro r u h5 h6 hm_41
            refine w_iload_n C 1 dX1_countLinks_41 rfl ?_
            refine w_bipush C dX1_countLinks_42 (by decide) ?_
            refine w_icmp_ge C 106 dX1_countLinks_44 rfl (by omega) (fun c_2 => ?_) (fun c_2 => ?_)
            · exact w_retv hret dX1_countLinks_106 rfl rfl rfl ⟨rfl, (by rw [h6, show (32 - r).toNat = 0 by omega, cld])⟩
            · refine w_aload_n C 0 dX1_countLinks_47 rfl ?_
              refine w_get C 0 1 137 dX1_countLinks_48 rfl rfl inX1 (by decide) (by decide +kernel) rfl ?_
              refine w_iload_n C 1 dX1_countLinks_51 rfl ?_
              refine w_callV (As := [.int (iI r)]) (rest := []) (w2 := [(h, .inr (1, [.ref g, .ref o, .ref m])), (o, .inr (4, [.ref g, .long tk])), (g, .inr (2, [.ref b])), (b, .inl (gI G, 4096, .inl (arI u)))]) (st2 := [.int (iI (kd u r))]) C (ct_X4_kind G (kl k) o g b tk u r (by omega)) gX1_80 dX1_countLinks_52 1 rfl rfl rfl rfl rfl (Nat.le_of_ble_eq_true rfl) (by decide) [1, 2, 3] rfl (by decide) [o, g, b] rfl rfl rfl rfl ?_
              have f_3 := kd_rg u r
              refine w_iconst C dX1_countLinks_55 ?_
              refine w_icmp_ne C 67 dX1_countLinks_56 rfl (by omega) (fun c_4 => ?_) (fun c_4 => ?_)
              · refine w_iconst C dX1_countLinks_67 ?_
                refine w_st (st2 := [.int (iI (cnt u r))]) (by unfold cnt; first | rw [if_pos c_4] | rw [if_neg c_4]) ?_
                refine w_istore_n (lv2 := [(0, .ref h), (1, .int (iI r)), (2, .int (iI (cnt u r)))]) C dX1_countLinks_68 (by decide) rfl ?_
                refine w_iconst C dX1_countLinks_69 ?_
                refine w_istore_n (lv2 := [(0, .ref h), (1, .int (iI r)), (2, .int (iI (cnt u r))), (3, .int (iI 2))]) C dX1_countLinks_70 (by decide) rfl ?_
                have L_71 : ∀ (nn_71 : Nat) (e : Int) (y : Im), (2 ≤ e ∧ e ≤ 184) → (clf r (cnt u r - 2).toNat 2 u = clf r (cnt u r - e).toNat e y) → (cnt u r - e).toNat = nn_71 → Wd G k 4 0 0 [(h, .inr (1, [.ref g, .ref o, .ref m])), (o, .inr (4, [.ref g, .long tk])), (g, .inr (2, [.ref b])), (b, .inl (gI G, 4096, .inl (arI y)))] 71 [(0, .ref h), (1, .int (iI r)), (2, .int (iI (cnt u r))), (3, .int (iI e))] [] := by
                  intro nn_71
                  induction nn_71 using Nat.strongRecOn with
                  | ind nn_71 ih_71 =>
                    intro e y h7 h8 hm_71
                    have q9 := cnt_rg u r
                    refine w_iload_n C 3 dX1_countLinks_71 rfl ?_
                    refine w_iload_n C 2 dX1_countLinks_72 rfl ?_
                    refine w_icmp_ge C 100 dX1_countLinks_73 rfl (by omega) (fun c_5 => ?_) (fun c_5 => ?_)
                    · refine w_iinc (lv2 := [(0, .ref h), (1, .int (iI (r + 1))), (2, .int (iI (cnt u r))), (3, .int (iI e))]) C 1 dX1_countLinks_100 rfl (by decide) rfl ?_
                      refine w_goto C 41 dX1_countLinks_103 rfl ?_
                      refine w_lv (lv2 := [(0, .ref h), (1, .int (iI ((r + 1))))]) [0, 1] rfl ?_
                      exact ih_41 _ (by omega) (r + 1) y (by omega) (by rw [h6, show (32 - r).toNat = (32 - (r + 1)).toNat + 1 by omega, cld, h8, show (cnt u r - e).toNat = 0 by omega, clf]) rfl
                    · refine w_aload_n C 0 dX1_countLinks_76 rfl ?_
                      refine w_iload_n C 1 dX1_countLinks_77 rfl ?_
                      refine w_aload_n C 0 dX1_countLinks_78 rfl ?_
                      refine w_get C 0 0 136 dX1_countLinks_79 rfl rfl inX1 (by decide) (by decide +kernel) rfl ?_
                      refine w_aload_n C 0 dX1_countLinks_82 rfl ?_
                      refine w_iload_n C 1 dX1_countLinks_83 rfl ?_
                      refine w_iload_n C 3 dX1_countLinks_84 rfl ?_
                      refine w_callV (As := [.int (iI r), .int (iI e)]) (rest := [.ref g, .int (iI r), .ref h]) (w2 := [(h, .inr (1, [.ref g, .ref o, .ref m])), (o, .inr (4, [.ref g, .long tk])), (g, .inr (2, [.ref b])), (b, .inl (gI G, 4096, .inl (arI y)))]) (st2 := [.int (iI (ep y r e)), .ref g, .int (iI r), .ref h]) C (ct_X1_entryPlace G (kl k) h o g b m tk y r e (by omega) (by omega)) gX1_48 dX1_countLinks_85 0 rfl rfl rfl rfl rfl (Nat.le_of_ble_eq_true rfl) (by decide) [0, 1, 2, 3] rfl (by decide) [h, o, g, b] rfl rfl rfl rfl ?_
                      have f_6 := ep_rg y r e
                      refine w_callV (As := [.int (iI (ep y r e))]) (rest := [.int (iI r), .ref h]) (w2 := [(h, .inr (1, [.ref g, .ref o, .ref m])), (o, .inr (4, [.ref g, .long tk])), (g, .inr (2, [.ref b])), (b, .inl (gI G, 4096, .inl (arI y)))]) (st2 := [.int (iI (im_at y (ep y r e))), .int (iI r), .ref h]) C (ct_X2_at G (kl k) g b y (ep y r e) (by omega)) gX1_55 dX1_countLinks_88 2 rfl rfl rfl rfl rfl (Nat.le_of_ble_eq_true rfl) (by decide) [2, 3] rfl (by decide) [g, b] rfl rfl rfl rfl ?_
                      have f_7 := im_at_rg y (ep y r e)
                      refine w_callV (As := [.int (iI r), .int (iI (im_at y (ep y r e)))]) (rest := []) (w2 := [(h, .inr (1, [.ref g, .ref o, .ref m])), (o, .inr (4, [.ref g, .long tk])), (g, .inr (2, [.ref b])), (b, .inl (gI G, 4096, .inl (arI (clk y r (im_at y (ep y r e))))))]) (st2 := []) C (ct_X1_countLink G (kl k) h o g b m tk y r (im_at y (ep y r e)) (by omega) (by omega)) gX1_125 dX1_countLinks_91 0 rfl rfl rfl rfl rfl (Nat.le_of_ble_eq_true rfl) (by decide) [0, 1, 2, 3] rfl (by decide) [h, o, g, b] rfl rfl rfl rfl ?_
                      refine w_iinc (lv2 := [(0, .ref h), (1, .int (iI r)), (2, .int (iI (cnt u r))), (3, .int (iI (e + 1)))]) C 3 dX1_countLinks_94 rfl (by decide) rfl ?_
                      refine w_goto C 71 dX1_countLinks_97 rfl ?_
                      refine w_ord (ws2 := [(h, .inr (1, [.ref g, .ref o, .ref m])), (o, .inr (4, [.ref g, .long tk])), (g, .inr (2, [.ref b])), (b, .inl (gI G, 4096, .inl (arI ((clk y r (im_at y (ep y r e)))))))]) [0, 1, 2, 3] rfl (by decide) ?_
                      refine w_lv (lv2 := [(0, .ref h), (1, .int (iI r)), (2, .int (iI (cnt u r))), (3, .int (iI ((e + 1))))]) [0, 1, 2, 3] rfl ?_
                      exact ih_71 _ (by omega) (e + 1) (clk y r (im_at y (ep y r e))) (by omega) (by rw [h8, show (cnt u r - e).toNat = (cnt u r - (e + 1)).toNat + 1 by omega, clf]) rfl
                exact L_71 _ 2 u (by omega) rfl rfl
              · refine w_aload_n C 0 dX1_countLinks_59 rfl ?_
                refine w_iload_n C 1 dX1_countLinks_60 rfl ?_
                refine w_callV (As := [.int (iI r)]) (rest := []) (w2 := [(h, .inr (1, [.ref g, .ref o, .ref m])), (o, .inr (4, [.ref g, .long tk])), (g, .inr (2, [.ref b])), (b, .inl (gI G, 4096, .inl (arI u)))]) (st2 := [.int (iI (ec u r))]) C (ct_X1_entryCount G (kl k) h o g b m tk u r (by omega)) gX1_45 dX1_countLinks_61 0 rfl rfl rfl rfl rfl (Nat.le_of_ble_eq_true rfl) (by decide) [0, 1, 2, 3] rfl (by decide) [h, o, g, b] rfl rfl rfl rfl ?_
                have f_8 := ec_rg u r
                refine w_goto C 68 dX1_countLinks_64 rfl ?_
                refine w_st (st2 := [.int (iI (cnt u r))]) (by unfold cnt; first | rw [if_pos c_4] | rw [if_neg c_4]) ?_
                refine w_istore_n (lv2 := [(0, .ref h), (1, .int (iI r)), (2, .int (iI (cnt u r)))]) C dX1_countLinks_68 (by decide) rfl ?_
                refine w_iconst C dX1_countLinks_69 ?_
                refine w_istore_n (lv2 := [(0, .ref h), (1, .int (iI r)), (2, .int (iI (cnt u r))), (3, .int (iI 2))]) C dX1_countLinks_70 (by decide) rfl ?_
                have L_71 : ∀ (nn_71 : Nat) (e : Int) (y : Im), (2 ≤ e ∧ e ≤ 184) → (clf r (cnt u r - 2).toNat 2 u = clf r (cnt u r - e).toNat e y) → (cnt u r - e).toNat = nn_71 → Wd G k 4 0 0 [(h, .inr (1, [.ref g, .ref o, .ref m])), (o, .inr (4, [.ref g, .long tk])), (g, .inr (2, [.ref b])), (b, .inl (gI G, 4096, .inl (arI y)))] 71 [(0, .ref h), (1, .int (iI r)), (2, .int (iI (cnt u r))), (3, .int (iI e))] [] := by
                  intro nn_71
                  induction nn_71 using Nat.strongRecOn with
                  | ind nn_71 ih_71 =>
                    intro e y h7 h8 hm_71
                    have q9 := cnt_rg u r
                    refine w_iload_n C 3 dX1_countLinks_71 rfl ?_
                    refine w_iload_n C 2 dX1_countLinks_72 rfl ?_
                    refine w_icmp_ge C 100 dX1_countLinks_73 rfl (by omega) (fun c_9 => ?_) (fun c_9 => ?_)
                    · refine w_iinc (lv2 := [(0, .ref h), (1, .int (iI (r + 1))), (2, .int (iI (cnt u r))), (3, .int (iI e))]) C 1 dX1_countLinks_100 rfl (by decide) rfl ?_
                      refine w_goto C 41 dX1_countLinks_103 rfl ?_
                      refine w_lv (lv2 := [(0, .ref h), (1, .int (iI ((r + 1))))]) [0, 1] rfl ?_
                      exact ih_41 _ (by omega) (r + 1) y (by omega) (by rw [h6, show (32 - r).toNat = (32 - (r + 1)).toNat + 1 by omega, cld, h8, show (cnt u r - e).toNat = 0 by omega, clf]) rfl
                    · refine w_aload_n C 0 dX1_countLinks_76 rfl ?_
                      refine w_iload_n C 1 dX1_countLinks_77 rfl ?_
                      refine w_aload_n C 0 dX1_countLinks_78 rfl ?_
                      refine w_get C 0 0 136 dX1_countLinks_79 rfl rfl inX1 (by decide) (by decide +kernel) rfl ?_
                      refine w_aload_n C 0 dX1_countLinks_82 rfl ?_
                      refine w_iload_n C 1 dX1_countLinks_83 rfl ?_
                      refine w_iload_n C 3 dX1_countLinks_84 rfl ?_
                      refine w_callV (As := [.int (iI r), .int (iI e)]) (rest := [.ref g, .int (iI r), .ref h]) (w2 := [(h, .inr (1, [.ref g, .ref o, .ref m])), (o, .inr (4, [.ref g, .long tk])), (g, .inr (2, [.ref b])), (b, .inl (gI G, 4096, .inl (arI y)))]) (st2 := [.int (iI (ep y r e)), .ref g, .int (iI r), .ref h]) C (ct_X1_entryPlace G (kl k) h o g b m tk y r e (by omega) (by omega)) gX1_48 dX1_countLinks_85 0 rfl rfl rfl rfl rfl (Nat.le_of_ble_eq_true rfl) (by decide) [0, 1, 2, 3] rfl (by decide) [h, o, g, b] rfl rfl rfl rfl ?_
                      have f_10 := ep_rg y r e
                      refine w_callV (As := [.int (iI (ep y r e))]) (rest := [.int (iI r), .ref h]) (w2 := [(h, .inr (1, [.ref g, .ref o, .ref m])), (o, .inr (4, [.ref g, .long tk])), (g, .inr (2, [.ref b])), (b, .inl (gI G, 4096, .inl (arI y)))]) (st2 := [.int (iI (im_at y (ep y r e))), .int (iI r), .ref h]) C (ct_X2_at G (kl k) g b y (ep y r e) (by omega)) gX1_55 dX1_countLinks_88 2 rfl rfl rfl rfl rfl (Nat.le_of_ble_eq_true rfl) (by decide) [2, 3] rfl (by decide) [g, b] rfl rfl rfl rfl ?_
                      have f_11 := im_at_rg y (ep y r e)
                      refine w_callV (As := [.int (iI r), .int (iI (im_at y (ep y r e)))]) (rest := []) (w2 := [(h, .inr (1, [.ref g, .ref o, .ref m])), (o, .inr (4, [.ref g, .long tk])), (g, .inr (2, [.ref b])), (b, .inl (gI G, 4096, .inl (arI (clk y r (im_at y (ep y r e))))))]) (st2 := []) C (ct_X1_countLink G (kl k) h o g b m tk y r (im_at y (ep y r e)) (by omega) (by omega)) gX1_125 dX1_countLinks_91 0 rfl rfl rfl rfl rfl (Nat.le_of_ble_eq_true rfl) (by decide) [0, 1, 2, 3] rfl (by decide) [h, o, g, b] rfl rfl rfl rfl ?_
                      refine w_iinc (lv2 := [(0, .ref h), (1, .int (iI r)), (2, .int (iI (cnt u r))), (3, .int (iI (e + 1)))]) C 3 dX1_countLinks_94 rfl (by decide) rfl ?_
                      refine w_goto C 71 dX1_countLinks_97 rfl ?_
                      refine w_ord (ws2 := [(h, .inr (1, [.ref g, .ref o, .ref m])), (o, .inr (4, [.ref g, .long tk])), (g, .inr (2, [.ref b])), (b, .inl (gI G, 4096, .inl (arI ((clk y r (im_at y (ep y r e)))))))]) [0, 1, 2, 3] rfl (by decide) ?_
                      refine w_lv (lv2 := [(0, .ref h), (1, .int (iI r)), (2, .int (iI (cnt u r))), (3, .int (iI ((e + 1))))]) [0, 1, 2, 3] rfl ?_
                      exact ih_71 _ (by omega) (e + 1) (clk y r (im_at y (ep y r e))) (by omega) (by rw [h8, show (cnt u r - e).toNat = (cnt u r - (e + 1)).toNat + 1 by omega, clf]) rfl
                exact L_71 _ 2 u (by omega) rfl rfl
        exact L_41 _ 1 x (by omega) (by unfold clL; rw [h2, show (32 - q).toNat = 0 by omega, cl0, show ((32 : Int) - 1).toNat = 31 from rfl]) rfl
      · refine w_aload_n C 0 dX1_countLinks_8 rfl ?_
        refine w_get C 0 1 137 dX1_countLinks_9 rfl rfl inX1 (by decide) (by decide +kernel) rfl ?_
        refine w_iload_n C 1 dX1_countLinks_12 rfl ?_
        refine w_aload_n C 0 dX1_countLinks_13 rfl ?_
        refine w_get C 0 1 137 dX1_countLinks_14 rfl rfl inX1 (by decide) (by decide +kernel) rfl ?_
        refine w_iload_n C 1 dX1_countLinks_17 rfl ?_
        refine w_callV (As := [.int (iI q)]) (rest := [.int (iI q), .ref o]) (w2 := [(h, .inr (1, [.ref g, .ref o, .ref m])), (o, .inr (4, [.ref g, .long tk])), (g, .inr (2, [.ref b])), (b, .inl (gI G, 4096, .inl (arI x)))]) (st2 := [.int (iI (kd x q)), .int (iI q), .ref o]) C (ct_X4_kind G (kl k) o g b tk x q (by omega)) gX1_80 dX1_countLinks_18 1 rfl rfl rfl rfl rfl (Nat.le_of_ble_eq_true rfl) (by decide) [1, 2, 3] rfl (by decide) [o, g, b] rfl rfl rfl rfl ?_
        have f_12 := kd_rg x q
        refine w_iconst C dX1_countLinks_21 ?_
        refine w_icmp_ne C 29 dX1_countLinks_22 rfl (by omega) (fun c_13 => ?_) (fun c_13 => ?_)
        · refine w_iconst C dX1_countLinks_29 ?_
          refine w_callV (As := [.int (iI q), .int (iI 0)]) (rest := []) (w2 := [(h, .inr (1, [.ref g, .ref o, .ref m])), (o, .inr (4, [.ref g, .long tk])), (g, .inr (2, [.ref b])), (b, .inl (gI G, 4096, .inl (arI (im_set x (512 + q * 16 + 1) 0))))]) (st2 := []) C (ct_X4_setLinks G (kl k) o g b tk x q 0 (by omega)) gX1_122 dX1_countLinks_30 1 rfl rfl rfl rfl rfl (Nat.le_of_ble_eq_true rfl) (by decide) [1, 2, 3] rfl (by decide) [o, g, b] rfl rfl rfl rfl ?_
          refine w_iinc (lv2 := [(0, .ref h), (1, .int (iI (q + 1)))]) C 1 dX1_countLinks_33 rfl (by decide) rfl ?_
          refine w_goto C 2 dX1_countLinks_36 rfl ?_
          refine w_ord (ws2 := [(h, .inr (1, [.ref g, .ref o, .ref m])), (o, .inr (4, [.ref g, .long tk])), (g, .inr (2, [.ref b])), (b, .inl (gI G, 4096, .inl (arI ((im_set x (512 + q * 16 + 1) 0)))))]) [0, 1, 2, 3] rfl (by decide) ?_
          refine w_lv (lv2 := [(0, .ref h), (1, .int (iI ((q + 1))))]) [0, 1] rfl ?_
          exact ih_2 _ (by omega) (q + 1) (im_set x (512 + q * 16 + 1) 0) (by omega) (by rw [h2, show (32 - q).toNat = (32 - (q + 1)).toNat + 1 by omega, cl0]; first | rw [if_pos c_13] | rw [if_neg c_13]) rfl
        · refine w_iconst C dX1_countLinks_25 ?_
          refine w_goto C 30 dX1_countLinks_26 rfl ?_
          refine w_callV (As := [.int (iI q), .int (iI 2)]) (rest := []) (w2 := [(h, .inr (1, [.ref g, .ref o, .ref m])), (o, .inr (4, [.ref g, .long tk])), (g, .inr (2, [.ref b])), (b, .inl (gI G, 4096, .inl (arI (im_set x (512 + q * 16 + 1) 2))))]) (st2 := []) C (ct_X4_setLinks G (kl k) o g b tk x q 2 (by omega)) gX1_122 dX1_countLinks_30 1 rfl rfl rfl rfl rfl (Nat.le_of_ble_eq_true rfl) (by decide) [1, 2, 3] rfl (by decide) [o, g, b] rfl rfl rfl rfl ?_
          refine w_iinc (lv2 := [(0, .ref h), (1, .int (iI (q + 1)))]) C 1 dX1_countLinks_33 rfl (by decide) rfl ?_
          refine w_goto C 2 dX1_countLinks_36 rfl ?_
          refine w_ord (ws2 := [(h, .inr (1, [.ref g, .ref o, .ref m])), (o, .inr (4, [.ref g, .long tk])), (g, .inr (2, [.ref b])), (b, .inl (gI G, 4096, .inl (arI ((im_set x (512 + q * 16 + 1) 2)))))]) [0, 1, 2, 3] rfl (by decide) ?_
          refine w_lv (lv2 := [(0, .ref h), (1, .int (iI ((q + 1))))]) [0, 1] rfl ?_
          exact ih_2 _ (by omega) (q + 1) (im_set x (512 + q * 16 + 1) 2) (by omega) (by rw [h2, show (32 - q).toNat = (32 - (q + 1)).toNat + 1 by omega, cl0]; first | rw [if_pos c_13] | rw [if_neg c_13]) rfl
  exact L_2 _ 1 d (by omega) (by rw [show ((32 : Int) - 1).toNat = 31 from rfl]) rfl
