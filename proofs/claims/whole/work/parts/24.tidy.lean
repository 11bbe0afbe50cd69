theorem gX1_100 : cwv RX1 100 yX1_isValid cX1_isValid 5 (some .boolean) 2 568 570 5 68 571 := by decide +kernel
theorem gX1_104 : cwv RX1 104 yX1_wipeEntry cX1_wipeEntry 2 none 1 592 593 594 68 595 := by decide +kernel
set_option maxHeartbeats 4000000 in
set_option maxRecDepth 100000 in
theorem ct_X1_tidy (G : GX) (l : Launch) (h : Nat) (o : Nat) (g : Nat) (b : Nat) (m : Nat) (tk : Int64) (d : Im) (mb : Nat) (nb : Im) (n : Int) (i : Int) (hi : 0 ≤ i ∧ i < 32) (hn : 0 ≤ n ∧ n ≤ 14) : Ct G l yX1_tidy cX1_tidy 6 none rmX1_tidy [.ref h, .int (iI i)] [(h, .inr (1, [.ref g, .ref o, .ref m])), (o, .inr (4, [.ref g, .long tk])), (g, .inr (2, [.ref b])), (b, .inl (gI G, 4096, .inl (arI d))), (m, .inr (5, [.ref mb, .int (iI n)])), (mb, .inl (gI G, 14, .inl (arI nb)))] none [(h, .inr (1, [.ref g, .ref o, .ref m])), (o, .inr (4, [.ref g, .long tk])), (g, .inr (2, [.ref b])), (b, .inl (gI G, 4096, .inl (arI ((tdF d nb i).1)))), (m, .inr (5, [.ref mb, .int (iI ((tdF d nb i).2.2))])), (mb, .inl (gI G, 14, .inl (arI ((tdF d nb i).2.1))))] := by
  refine Ct.of (by decide) (Nat.le_of_ble_eq_true rfl) ?_
  intro k C hl hret
  subst hl
  refine w_lv (lv2 := [(0, .ref h), (1, .int (iI i))]) [0, 1] rfl ?_
  refine w_aload_n C 0 dX1_tidy_0 rfl ?_
  refine w_iload_n C 1 dX1_tidy_1 rfl ?_
  refine w_iload_n C 1 dX1_tidy_2 rfl ?_
  refine w_callV (As := [.int (iI i), .int (iI i)]) (rest := []) (w2 := [(h, .inr (1, [.ref g, .ref o, .ref m])), (o, .inr (4, [.ref g, .long tk])), (g, .inr (2, [.ref b])), (b, .inl (gI G, 4096, .inl (arI (dtD d nb i i)))), (m, .inr (5, [.ref mb, .int (iI (tn 3))])), (mb, .inl (gI G, 14, .inl (arI (dtN nb))))]) (st2 := []) C (ct_X1_writeDots G (kl k) h o g b m tk d mb nb n i i (by omega)) gX1_95 dX1_tidy_3 0 rfl rfl rfl rfl rfl (Nat.le_of_ble_eq_true rfl) (by decide) [0, 1, 2, 3, 4, 5] rfl (by decide) [h, o, g, b, m, mb] rfl rfl rfl rfl ?_
  refine w_iconst C dX1_tidy_6 ?_
  refine w_istore_n (lv2 := [(0, .ref h), (1, .int (iI i)), (2, .int (iI 2))]) C dX1_tidy_7 (by decide) rfl ?_
  refine w_iload_n C 1 dX1_tidy_8 rfl ?_
  refine w_iconst C dX1_tidy_9 ?_
  refine w_icmp_ne C 51 dX1_tidy_10 rfl (by omega) (fun c_1 => ?_) (fun c_1 => ?_)
  · have hx : ¬ tdX d nb i := fun z => absurd z.1 (by assumption)
    refine w_ws (ws2 := [(h, .inr (1, [.ref g, .ref o, .ref m])), (o, .inr (4, [.ref g, .long tk])), (g, .inr (2, [.ref b])), (b, .inl (gI G, 4096, .inl (arI (td0 d nb i)))), (m, .inr (5, [.ref mb, .int (iI (tdl d nb i))])), (mb, .inl (gI G, 14, .inl (arI (tdn d nb i))))]) (by unfold td0 tdn tdl; first | (rw [if_neg hx, if_neg hx, if_neg hx]; done) | rw [if_pos hx, if_pos hx, if_pos hx]) ?_
    refine w_aload_n C 0 dX1_tidy_51 rfl ?_
    refine w_iload_n C 1 dX1_tidy_52 rfl ?_
    refine w_callV (As := [.int (iI i)]) (rest := []) (w2 := [(h, .inr (1, [.ref g, .ref o, .ref m])), (o, .inr (4, [.ref g, .long tk])), (g, .inr (2, [.ref b])), (b, .inl (gI G, 4096, .inl (arI ((td0 d nb i))))), (m, .inr (5, [.ref mb, .int (iI (tdl d nb i))])), (mb, .inl (gI G, 14, .inl (arI (tdn d nb i))))]) (st2 := [.int (iI (ec (td0 d nb i) i))]) C (ct_X1_entryCount G (kl k) h o g b m tk (td0 d nb i) i (by omega)) gX1_45 dX1_tidy_53 0 rfl rfl rfl rfl rfl (Nat.le_of_ble_eq_true rfl) (by decide) [0, 1, 2, 3] rfl (by decide) [h, o, g, b] rfl rfl rfl rfl ?_
    have f_2 := ec_rg (td0 d nb i) i
    refine w_istore_n (lv2 := [(0, .ref h), (1, .int (iI i)), (2, .int (iI 2)), (3, .int (iI (ec (td0 d nb i) i)))]) C dX1_tidy_56 (by decide) rfl ?_
    refine w_iload_n C 2 dX1_tidy_57 rfl ?_
    refine w_istore (lv2 := [(0, .ref h), (1, .int (iI i)), (2, .int (iI 2)), (3, .int (iI (ec (td0 d nb i) i))), (4, .int (iI 2))]) C dX1_tidy_58 (by decide) rfl ?_
    refine w_ord (ws2 := [(h, .inr (1, [.ref g, .ref o, .ref m])), (o, .inr (4, [.ref g, .long tk])), (g, .inr (2, [.ref b])), (b, .inl (gI G, 4096, .inl (arI (((td0 d nb i)))))), (m, .inr (5, [.ref mb, .int (iI ((tdl d nb i)))])), (mb, .inl (gI G, 14, .inl (arI ((tdn d nb i)))))]) [0, 1, 2, 3, 4, 5] rfl (by decide) ?_
    refine w_lv (lv2 := [(0, .ref h), (1, .int (iI i)), (3, .int (iI (ec (td0 d nb i) i))), (4, .int (iI 2))]) [0, 1, 3, 4] rfl ?_
    have L_60 : ∀ (nn_60 : Nat) (e : Int) (x : Im) (y : Im) (z : Int), (2 ≤ e ∧ e ≤ 184 ∧ 0 ≤ z ∧ z ≤ 14) → (tdF d nb i = tds i (ec (td0 d nb i) i - e).toNat e x y z) → (ec (td0 d nb i) i - e).toNat = nn_60 → Wd G k 6 0 0 [(h, .inr (1, [.ref g, .ref o, .ref m])), (o, .inr (4, [.ref g, .long tk])), (g, .inr (2, [.ref b])), (b, .inl (gI G, 4096, .inl (arI x))), (m, .inr (5, [.ref mb, .int (iI z)])), (mb, .inl (gI G, 14, .inl (arI y)))] 60 [(0, .ref h), (1, .int (iI i)), (3, .int (iI (ec (td0 d nb i) i))), (4, .int (iI e))] [] := by
      intro nn_60
      induction nn_60 using Nat.strongRecOn with
      | ind nn_60 ih_60 =>
        intro e x y z h1 h2 hm_60
        have q9 := ec_rg (td0 d nb i) i
        refine w_iload C 3 dX1_tidy_60 rfl ?_
        refine w_iload_n C 2 dX1_tidy_62 rfl ?_
        refine w_icmp_ge C 97 dX1_tidy_63 rfl (by omega) (fun c_3 => ?_) (fun c_3 => ?_)
        · exact w_retv hret dX1_tidy_97 rfl rfl rfl ⟨rfl, (by rw [h2, show (ec (td0 d nb i) i - e).toNat = 0 by omega, tds])⟩
        · refine w_aload_n C 0 dX1_tidy_66 rfl ?_
          refine w_iload_n C 1 dX1_tidy_67 rfl ?_
          refine w_iload C 3 dX1_tidy_68 rfl ?_
          refine w_callV (As := [.int (iI i), .int (iI e)]) (rest := []) (w2 := [(h, .inr (1, [.ref g, .ref o, .ref m])), (o, .inr (4, [.ref g, .long tk])), (g, .inr (2, [.ref b])), (b, .inl (gI G, 4096, .inl (arI x))), (m, .inr (5, [.ref mb, .int (iI z)])), (mb, .inl (gI G, 14, .inl (arI y)))]) (st2 := [.int (iI (ep x i e))]) C (ct_X1_entryPlace G (kl k) h o g b m tk x i e (by omega) (by omega)) gX1_48 dX1_tidy_70 0 rfl rfl rfl rfl rfl (Nat.le_of_ble_eq_true rfl) (by decide) [0, 1, 2, 3] rfl (by decide) [h, o, g, b] rfl rfl rfl rfl ?_
          have f_4 := ep_rg x i e
          refine w_istore (lv2 := [(0, .ref h), (1, .int (iI i)), (3, .int (iI (ec (td0 d nb i) i))), (4, .int (iI e)), (5, .int (iI (ep x i e)))]) C dX1_tidy_73 (by decide) rfl ?_
          refine w_aload_n C 0 dX1_tidy_75 rfl ?_
          refine w_iload_n C 1 dX1_tidy_76 rfl ?_
          refine w_iload C 4 dX1_tidy_77 rfl ?_
          refine w_callV (As := [.int (iI i), .int (iI (ep x i e))]) (rest := []) (w2 := [(h, .inr (1, [.ref g, .ref o, .ref m])), (o, .inr (4, [.ref g, .long tk])), (g, .inr (2, [.ref b])), (b, .inl (gI G, 4096, .inl (arI x))), (m, .inr (5, [.ref mb, .int (iI (vaL x z (ep x i e)))])), (mb, .inl (gI G, 14, .inl (arI (vaN x y (ep x i e)))))]) (st2 := [.int (iI (bI (vaB x y i (ep x i e))))]) C (ct_X1_isValid G (kl k) h o g b m tk x mb y z i (ep x i e) (by omega) (by omega)) gX1_100 dX1_tidy_79 0 rfl rfl rfl rfl rfl (Nat.le_of_ble_eq_true rfl) (by decide) [0, 1, 2, 3, 4, 5] rfl (by decide) [h, o, g, b, m, mb] rfl rfl rfl rfl ?_
          refine w_bnz C 91 dX1_tidy_82 rfl (fun c_5 => ?_) (fun c_5 => ?_)
          · refine w_iinc (lv2 := [(0, .ref h), (1, .int (iI i)), (3, .int (iI (ec (td0 d nb i) i))), (4, .int (iI (e + 1))), (5, .int (iI (ep x i e)))]) C 3 dX1_tidy_91 rfl (by decide) rfl ?_
            refine w_goto C 60 dX1_tidy_94 rfl ?_
            refine w_ord (ws2 := [(h, .inr (1, [.ref g, .ref o, .ref m])), (o, .inr (4, [.ref g, .long tk])), (g, .inr (2, [.ref b])), (b, .inl (gI G, 4096, .inl (arI x))), (m, .inr (5, [.ref mb, .int (iI ((vaL x z (ep x i e))))])), (mb, .inl (gI G, 14, .inl (arI ((vaN x y (ep x i e))))))]) [0, 1, 2, 3, 4, 5] rfl (by decide) ?_
            refine w_lv (lv2 := [(0, .ref h), (1, .int (iI i)), (3, .int (iI (ec (td0 d nb i) i))), (4, .int (iI ((e + 1))))]) [0, 1, 2, 3] rfl ?_
            exact ih_60 _ (by omega) (e + 1) x (vaN x y (ep x i e)) (vaL x z (ep x i e)) (by have := vaL_rg x z (ep x i e) (by omega); omega) (by rw [h2, show (ec (td0 d nb i) i - e).toNat = (ec (td0 d nb i) i - (e + 1)).toNat + 1 by omega, tds]; first | rw [if_pos (by assumption)] | rw [if_neg (by rw [show vaB x y i (ep x i e) = false from (by assumption)]; decide)]) rfl
          · refine w_aload_n C 0 dX1_tidy_85 rfl ?_
            refine w_iload C 4 dX1_tidy_86 rfl ?_
            refine w_callV (As := [.int (iI (ep x i e))]) (rest := []) (w2 := [(h, .inr (1, [.ref g, .ref o, .ref m])), (o, .inr (4, [.ref g, .long tk])), (g, .inr (2, [.ref b])), (b, .inl (gI G, 4096, .inl (arI (im_wipe x (ep x i e) 16)))), (m, .inr (5, [.ref mb, .int (iI (vaL x z (ep x i e)))])), (mb, .inl (gI G, 14, .inl (arI (vaN x y (ep x i e)))))]) (st2 := []) C (ct_X1_wipeEntry G (kl k) h o g b m tk x (ep x i e) (by omega)) gX1_104 dX1_tidy_88 0 rfl rfl rfl rfl rfl (Nat.le_of_ble_eq_true rfl) (by decide) [0, 1, 2, 3] rfl (by decide) [h, o, g, b] rfl rfl rfl rfl ?_
            refine w_iinc (lv2 := [(0, .ref h), (1, .int (iI i)), (3, .int (iI (ec (td0 d nb i) i))), (4, .int (iI (e + 1))), (5, .int (iI (ep x i e)))]) C 3 dX1_tidy_91 rfl (by decide) rfl ?_
            refine w_goto C 60 dX1_tidy_94 rfl ?_
            refine w_ord (ws2 := [(h, .inr (1, [.ref g, .ref o, .ref m])), (o, .inr (4, [.ref g, .long tk])), (g, .inr (2, [.ref b])), (b, .inl (gI G, 4096, .inl (arI ((im_wipe x (ep x i e) 16))))), (m, .inr (5, [.ref mb, .int (iI ((vaL x z (ep x i e))))])), (mb, .inl (gI G, 14, .inl (arI ((vaN x y (ep x i e))))))]) [0, 1, 2, 3, 4, 5] rfl (by decide) ?_
            refine w_lv (lv2 := [(0, .ref h), (1, .int (iI i)), (3, .int (iI (ec (td0 d nb i) i))), (4, .int (iI ((e + 1))))]) [0, 1, 2, 3] rfl ?_
            exact ih_60 _ (by omega) (e + 1) (im_wipe x (ep x i e) 16) (vaN x y (ep x i e)) (vaL x z (ep x i e)) (by have := vaL_rg x z (ep x i e) (by omega); omega) (by rw [h2, show (ec (td0 d nb i) i - e).toNat = (ec (td0 d nb i) i - (e + 1)).toNat + 1 by omega, tds]; first | rw [if_pos (by assumption)] | rw [if_neg (by rw [show vaB x y i (ep x i e) = false from (by assumption)]; decide)]) rfl
    exact L_60 _ 2 ((td0 d nb i)) (tdn d nb i) (tdl d nb i) (by have := tn_rg 3 (by decide); have := tn_rg 4 (by decide); unfold tdl; split <;> omega) (by unfold tdF tde; first | (rw [if_neg hx]; done) | (rw [if_pos hx]; rfl)) rfl
  · refine w_aload_n C 0 dX1_tidy_13 rfl ?_
    refine w_get C 0 1 137 dX1_tidy_14 rfl rfl inX1 (by decide) (by decide +kernel) rfl ?_
    refine w_iconst C dX1_tidy_17 ?_
    refine w_callV (As := [.int (iI 2)]) (rest := []) (w2 := [(h, .inr (1, [.ref g, .ref o, .ref m])), (o, .inr (4, [.ref g, .long tk])), (g, .inr (2, [.ref b])), (b, .inl (gI G, 4096, .inl (arI ((dtD d nb i i))))), (m, .inr (5, [.ref mb, .int (iI (tn 3))])), (mb, .inl (gI G, 14, .inl (arI (dtN nb))))]) (st2 := [.int (iI (kd (dtD d nb i i) 2))]) C (ct_X4_kind G (kl k) o g b tk (dtD d nb i i) 2 (by omega)) gX1_80 dX1_tidy_18 1 rfl rfl rfl rfl rfl (Nat.le_of_ble_eq_true rfl) (by decide) [1, 2, 3] rfl (by decide) [o, g, b] rfl rfl rfl rfl ?_
    have f_6 := kd_rg (dtD d nb i i) 2
    refine w_if_eq C 51 dX1_tidy_21 rfl (by omega) (fun c_7 => ?_) (fun c_7 => ?_)
    · have hx : ¬ tdX d nb i := fun z => z.2 (by assumption)
      refine w_ws (ws2 := [(h, .inr (1, [.ref g, .ref o, .ref m])), (o, .inr (4, [.ref g, .long tk])), (g, .inr (2, [.ref b])), (b, .inl (gI G, 4096, .inl (arI (td0 d nb i)))), (m, .inr (5, [.ref mb, .int (iI (tdl d nb i))])), (mb, .inl (gI G, 14, .inl (arI (tdn d nb i))))]) (by unfold td0 tdn tdl; first | (rw [if_neg hx, if_neg hx, if_neg hx]; done) | rw [if_pos hx, if_pos hx, if_pos hx]) ?_
      refine w_aload_n C 0 dX1_tidy_51 rfl ?_
      refine w_iload_n C 1 dX1_tidy_52 rfl ?_
      refine w_callV (As := [.int (iI i)]) (rest := []) (w2 := [(h, .inr (1, [.ref g, .ref o, .ref m])), (o, .inr (4, [.ref g, .long tk])), (g, .inr (2, [.ref b])), (b, .inl (gI G, 4096, .inl (arI ((td0 d nb i))))), (m, .inr (5, [.ref mb, .int (iI (tdl d nb i))])), (mb, .inl (gI G, 14, .inl (arI (tdn d nb i))))]) (st2 := [.int (iI (ec (td0 d nb i) i))]) C (ct_X1_entryCount G (kl k) h o g b m tk (td0 d nb i) i (by omega)) gX1_45 dX1_tidy_53 0 rfl rfl rfl rfl rfl (Nat.le_of_ble_eq_true rfl) (by decide) [0, 1, 2, 3] rfl (by decide) [h, o, g, b] rfl rfl rfl rfl ?_
      have f_8 := ec_rg (td0 d nb i) i
      refine w_istore_n (lv2 := [(0, .ref h), (1, .int (iI i)), (2, .int (iI 2)), (3, .int (iI (ec (td0 d nb i) i)))]) C dX1_tidy_56 (by decide) rfl ?_
      refine w_iload_n C 2 dX1_tidy_57 rfl ?_
      refine w_istore (lv2 := [(0, .ref h), (1, .int (iI i)), (2, .int (iI 2)), (3, .int (iI (ec (td0 d nb i) i))), (4, .int (iI 2))]) C dX1_tidy_58 (by decide) rfl ?_
      refine w_ord (ws2 := [(h, .inr (1, [.ref g, .ref o, .ref m])), (o, .inr (4, [.ref g, .long tk])), (g, .inr (2, [.ref b])), (b, .inl (gI G, 4096, .inl (arI (((td0 d nb i)))))), (m, .inr (5, [.ref mb, .int (iI ((tdl d nb i)))])), (mb, .inl (gI G, 14, .inl (arI ((tdn d nb i)))))]) [0, 1, 2, 3, 4, 5] rfl (by decide) ?_
      refine w_lv (lv2 := [(0, .ref h), (1, .int (iI i)), (3, .int (iI (ec (td0 d nb i) i))), (4, .int (iI 2))]) [0, 1, 3, 4] rfl ?_
      have L_60 : ∀ (nn_60 : Nat) (e : Int) (x : Im) (y : Im) (z : Int), (2 ≤ e ∧ e ≤ 184 ∧ 0 ≤ z ∧ z ≤ 14) → (tdF d nb i = tds i (ec (td0 d nb i) i - e).toNat e x y z) → (ec (td0 d nb i) i - e).toNat = nn_60 → Wd G k 6 0 0 [(h, .inr (1, [.ref g, .ref o, .ref m])), (o, .inr (4, [.ref g, .long tk])), (g, .inr (2, [.ref b])), (b, .inl (gI G, 4096, .inl (arI x))), (m, .inr (5, [.ref mb, .int (iI z)])), (mb, .inl (gI G, 14, .inl (arI y)))] 60 [(0, .ref h), (1, .int (iI i)), (3, .int (iI (ec (td0 d nb i) i))), (4, .int (iI e))] [] := by
        intro nn_60
        induction nn_60 using Nat.strongRecOn with
        | ind nn_60 ih_60 =>
          intro e x y z h1 h2 hm_60
          have q9 := ec_rg (td0 d nb i) i
          refine w_iload C 3 dX1_tidy_60 rfl ?_
          refine w_iload_n C 2 dX1_tidy_62 rfl ?_
          refine w_icmp_ge C 97 dX1_tidy_63 rfl (by omega) (fun c_9 => ?_) (fun c_9 => ?_)
          · exact w_retv hret dX1_tidy_97 rfl rfl rfl ⟨rfl, (by rw [h2, show (ec (td0 d nb i) i - e).toNat = 0 by omega, tds])⟩
          · refine w_aload_n C 0 dX1_tidy_66 rfl ?_
            refine w_iload_n C 1 dX1_tidy_67 rfl ?_
            refine w_iload C 3 dX1_tidy_68 rfl ?_
            refine w_callV (As := [.int (iI i), .int (iI e)]) (rest := []) (w2 := [(h, .inr (1, [.ref g, .ref o, .ref m])), (o, .inr (4, [.ref g, .long tk])), (g, .inr (2, [.ref b])), (b, .inl (gI G, 4096, .inl (arI x))), (m, .inr (5, [.ref mb, .int (iI z)])), (mb, .inl (gI G, 14, .inl (arI y)))]) (st2 := [.int (iI (ep x i e))]) C (ct_X1_entryPlace G (kl k) h o g b m tk x i e (by omega) (by omega)) gX1_48 dX1_tidy_70 0 rfl rfl rfl rfl rfl (Nat.le_of_ble_eq_true rfl) (by decide) [0, 1, 2, 3] rfl (by decide) [h, o, g, b] rfl rfl rfl rfl ?_
            have f_10 := ep_rg x i e
            refine w_istore (lv2 := [(0, .ref h), (1, .int (iI i)), (3, .int (iI (ec (td0 d nb i) i))), (4, .int (iI e)), (5, .int (iI (ep x i e)))]) C dX1_tidy_73 (by decide) rfl ?_
            refine w_aload_n C 0 dX1_tidy_75 rfl ?_
            refine w_iload_n C 1 dX1_tidy_76 rfl ?_
            refine w_iload C 4 dX1_tidy_77 rfl ?_
            refine w_callV (As := [.int (iI i), .int (iI (ep x i e))]) (rest := []) (w2 := [(h, .inr (1, [.ref g, .ref o, .ref m])), (o, .inr (4, [.ref g, .long tk])), (g, .inr (2, [.ref b])), (b, .inl (gI G, 4096, .inl (arI x))), (m, .inr (5, [.ref mb, .int (iI (vaL x z (ep x i e)))])), (mb, .inl (gI G, 14, .inl (arI (vaN x y (ep x i e)))))]) (st2 := [.int (iI (bI (vaB x y i (ep x i e))))]) C (ct_X1_isValid G (kl k) h o g b m tk x mb y z i (ep x i e) (by omega) (by omega)) gX1_100 dX1_tidy_79 0 rfl rfl rfl rfl rfl (Nat.le_of_ble_eq_true rfl) (by decide) [0, 1, 2, 3, 4, 5] rfl (by decide) [h, o, g, b, m, mb] rfl rfl rfl rfl ?_
            refine w_bnz C 91 dX1_tidy_82 rfl (fun c_11 => ?_) (fun c_11 => ?_)
            · refine w_iinc (lv2 := [(0, .ref h), (1, .int (iI i)), (3, .int (iI (ec (td0 d nb i) i))), (4, .int (iI (e + 1))), (5, .int (iI (ep x i e)))]) C 3 dX1_tidy_91 rfl (by decide) rfl ?_
              refine w_goto C 60 dX1_tidy_94 rfl ?_
              refine w_ord (ws2 := [(h, .inr (1, [.ref g, .ref o, .ref m])), (o, .inr (4, [.ref g, .long tk])), (g, .inr (2, [.ref b])), (b, .inl (gI G, 4096, .inl (arI x))), (m, .inr (5, [.ref mb, .int (iI ((vaL x z (ep x i e))))])), (mb, .inl (gI G, 14, .inl (arI ((vaN x y (ep x i e))))))]) [0, 1, 2, 3, 4, 5] rfl (by decide) ?_
              refine w_lv (lv2 := [(0, .ref h), (1, .int (iI i)), (3, .int (iI (ec (td0 d nb i) i))), (4, .int (iI ((e + 1))))]) [0, 1, 2, 3] rfl ?_
              exact ih_60 _ (by omega) (e + 1) x (vaN x y (ep x i e)) (vaL x z (ep x i e)) (by have := vaL_rg x z (ep x i e) (by omega); omega) (by rw [h2, show (ec (td0 d nb i) i - e).toNat = (ec (td0 d nb i) i - (e + 1)).toNat + 1 by omega, tds]; first | rw [if_pos (by assumption)] | rw [if_neg (by rw [show vaB x y i (ep x i e) = false from (by assumption)]; decide)]) rfl
            · refine w_aload_n C 0 dX1_tidy_85 rfl ?_
              refine w_iload C 4 dX1_tidy_86 rfl ?_
              refine w_callV (As := [.int (iI (ep x i e))]) (rest := []) (w2 := [(h, .inr (1, [.ref g, .ref o, .ref m])), (o, .inr (4, [.ref g, .long tk])), (g, .inr (2, [.ref b])), (b, .inl (gI G, 4096, .inl (arI (im_wipe x (ep x i e) 16)))), (m, .inr (5, [.ref mb, .int (iI (vaL x z (ep x i e)))])), (mb, .inl (gI G, 14, .inl (arI (vaN x y (ep x i e)))))]) (st2 := []) C (ct_X1_wipeEntry G (kl k) h o g b m tk x (ep x i e) (by omega)) gX1_104 dX1_tidy_88 0 rfl rfl rfl rfl rfl (Nat.le_of_ble_eq_true rfl) (by decide) [0, 1, 2, 3] rfl (by decide) [h, o, g, b] rfl rfl rfl rfl ?_
              refine w_iinc (lv2 := [(0, .ref h), (1, .int (iI i)), (3, .int (iI (ec (td0 d nb i) i))), (4, .int (iI (e + 1))), (5, .int (iI (ep x i e)))]) C 3 dX1_tidy_91 rfl (by decide) rfl ?_
              refine w_goto C 60 dX1_tidy_94 rfl ?_
              refine w_ord (ws2 := [(h, .inr (1, [.ref g, .ref o, .ref m])), (o, .inr (4, [.ref g, .long tk])), (g, .inr (2, [.ref b])), (b, .inl (gI G, 4096, .inl (arI ((im_wipe x (ep x i e) 16))))), (m, .inr (5, [.ref mb, .int (iI ((vaL x z (ep x i e))))])), (mb, .inl (gI G, 14, .inl (arI ((vaN x y (ep x i e))))))]) [0, 1, 2, 3, 4, 5] rfl (by decide) ?_
              refine w_lv (lv2 := [(0, .ref h), (1, .int (iI i)), (3, .int (iI (ec (td0 d nb i) i))), (4, .int (iI ((e + 1))))]) [0, 1, 2, 3] rfl ?_
              exact ih_60 _ (by omega) (e + 1) (im_wipe x (ep x i e) 16) (vaN x y (ep x i e)) (vaL x z (ep x i e)) (by have := vaL_rg x z (ep x i e) (by omega); omega) (by rw [h2, show (ec (td0 d nb i) i - e).toNat = (ec (td0 d nb i) i - (e + 1)).toNat + 1 by omega, tds]; first | rw [if_pos (by assumption)] | rw [if_neg (by rw [show vaB x y i (ep x i e) = false from (by assumption)]; decide)]) rfl
      exact L_60 _ 2 ((td0 d nb i)) (tdn d nb i) (tdl d nb i) (by have := tn_rg 3 (by decide); have := tn_rg 4 (by decide); unfold tdl; split <;> omega) (by unfold tdF tde; first | (rw [if_neg hx]; done) | (rw [if_pos hx]; rfl)) rfl
    · have hx : tdX d nb i := ⟨by omega, by assumption⟩
      refine w_aload_n C 0 dX1_tidy_24 rfl ?_
      refine w_get C 0 2 138 dX1_tidy_25 rfl rfl inX1 (by decide) (by decide +kernel) rfl ?_
      refine w_ldcS C dX1_tidy_28 C.2.2.2.2.2.2.2.1.2.2.2.2.2.2.2.1 ?_
      refine w_callV (As := [.ref (gK G 4)]) (rest := []) (w2 := [(h, .inr (1, [.ref g, .ref o, .ref m])), (o, .inr (4, [.ref g, .long tk])), (g, .inr (2, [.ref b])), (b, .inl (gI G, 4096, .inl (arI ((dtD d nb i i))))), (m, .inr (5, [.ref mb, .int (iI (tn 4))])), (mb, .inl (gI G, 14, .inl (arI (nm_sp (dtN nb) 4 (tn 4).toNat))))]) (st2 := []) C (ct_X6_spell G (kl k) m mb (dtN nb) (tn 3) 4 (by decide)) gX1_70 dX1_tidy_30 4 rfl rfl rfl rfl rfl (Nat.le_of_ble_eq_true rfl) (by decide) [4, 5] rfl (by decide) [m, mb] rfl rfl rfl rfl ?_
      refine w_aload_n C 0 dX1_tidy_33 rfl ?_
      refine w_aload_n C 0 dX1_tidy_34 rfl ?_
      refine w_iconst C dX1_tidy_35 ?_
      refine w_iconst C dX1_tidy_36 ?_
      refine w_callV (As := [.int (iI 1), .int (iI 2)]) (rest := [.ref h]) (w2 := [(h, .inr (1, [.ref g, .ref o, .ref m])), (o, .inr (4, [.ref g, .long tk])), (g, .inr (2, [.ref b])), (b, .inl (gI G, 4096, .inl (arI (((dtD d nb i i)))))), (m, .inr (5, [.ref mb, .int (iI (tn 4))])), (mb, .inl (gI G, 14, .inl (arI (nm_sp (dtN nb) 4 (tn 4).toNat))))]) (st2 := [.int (iI (ep ((dtD d nb i i)) 1 2)), .ref h]) C (ct_X1_entryPlace G (kl k) h o g b m tk ((dtD d nb i i)) 1 2 (by omega) (by omega)) gX1_48 dX1_tidy_37 0 rfl rfl rfl rfl rfl (Nat.le_of_ble_eq_true rfl) (by decide) [0, 1, 2, 3] rfl (by decide) [h, o, g, b] rfl rfl rfl rfl ?_
      have f_12 := ep_rg ((dtD d nb i i)) 1 2
      refine w_iconst C dX1_tidy_40 ?_
      refine w_aload_n C 0 dX1_tidy_41 rfl ?_
      refine w_get C 0 2 138 dX1_tidy_42 rfl rfl inX1 (by decide) (by decide +kernel) rfl ?_
      refine w_callV (As := [.int (iI (ep ((dtD d nb i i)) 1 2)), .int (iI 2), .ref m]) (rest := []) (w2 := [(h, .inr (1, [.ref g, .ref o, .ref m])), (o, .inr (4, [.ref g, .long tk])), (g, .inr (2, [.ref b])), (b, .inl (gI G, 4096, .inl (arI (we (((dtD d nb i i))) (ep ((dtD d nb i i)) 1 2) 2 (nm_sp (dtN nb) 4 (tn 4).toNat) (tn 4))))), (m, .inr (5, [.ref mb, .int (iI ((tn 4)))])), (mb, .inl (gI G, 14, .inl (arI ((nm_sp (dtN nb) 4 (tn 4).toNat)))))]) (st2 := []) C (ct_X1_writeEntry G (kl k) h o g b m tk (((dtD d nb i i))) m mb (nm_sp (dtN nb) 4 (tn 4).toNat) (tn 4) (ep ((dtD d nb i i)) 1 2) 2 (by have := tn_rg 2 (by decide); have := tn_rg 3 (by decide); have := tn_rg 4 (by decide); omega) (by omega)) gX1_74 dX1_tidy_45 0 rfl rfl rfl rfl rfl (Nat.le_of_ble_eq_true rfl) (by decide) [0, 1, 2, 3, 4, 5] rfl (by decide) [h, o, g, b, m, mb] rfl rfl rfl rfl ?_
      refine w_iinc (lv2 := [(0, .ref h), (1, .int (iI i)), (2, .int (iI (2 + 1)))]) C 2 dX1_tidy_48 rfl (by decide) rfl ?_
      refine w_ws (ws2 := [(h, .inr (1, [.ref g, .ref o, .ref m])), (o, .inr (4, [.ref g, .long tk])), (g, .inr (2, [.ref b])), (b, .inl (gI G, 4096, .inl (arI (td0 d nb i)))), (m, .inr (5, [.ref mb, .int (iI (tdl d nb i))])), (mb, .inl (gI G, 14, .inl (arI (tdn d nb i))))]) (by unfold td0 tdn tdl; first | (rw [if_neg hx, if_neg hx, if_neg hx]; done) | rw [if_pos hx, if_pos hx, if_pos hx]) ?_
      refine w_aload_n C 0 dX1_tidy_51 rfl ?_
      refine w_iload_n C 1 dX1_tidy_52 rfl ?_
      refine w_callV (As := [.int (iI i)]) (rest := []) (w2 := [(h, .inr (1, [.ref g, .ref o, .ref m])), (o, .inr (4, [.ref g, .long tk])), (g, .inr (2, [.ref b])), (b, .inl (gI G, 4096, .inl (arI ((td0 d nb i))))), (m, .inr (5, [.ref mb, .int (iI (tdl d nb i))])), (mb, .inl (gI G, 14, .inl (arI (tdn d nb i))))]) (st2 := [.int (iI (ec (td0 d nb i) i))]) C (ct_X1_entryCount G (kl k) h o g b m tk (td0 d nb i) i (by omega)) gX1_45 dX1_tidy_53 0 rfl rfl rfl rfl rfl (Nat.le_of_ble_eq_true rfl) (by decide) [0, 1, 2, 3] rfl (by decide) [h, o, g, b] rfl rfl rfl rfl ?_
      have f_13 := ec_rg (td0 d nb i) i
      refine w_istore_n (lv2 := [(0, .ref h), (1, .int (iI i)), (2, .int (iI (2 + 1))), (3, .int (iI (ec (td0 d nb i) i)))]) C dX1_tidy_56 (by decide) rfl ?_
      refine w_iload_n C 2 dX1_tidy_57 rfl ?_
      refine w_istore (lv2 := [(0, .ref h), (1, .int (iI i)), (2, .int (iI (2 + 1))), (3, .int (iI (ec (td0 d nb i) i))), (4, .int (iI (2 + 1)))]) C dX1_tidy_58 (by decide) rfl ?_
      refine w_ord (ws2 := [(h, .inr (1, [.ref g, .ref o, .ref m])), (o, .inr (4, [.ref g, .long tk])), (g, .inr (2, [.ref b])), (b, .inl (gI G, 4096, .inl (arI (((td0 d nb i)))))), (m, .inr (5, [.ref mb, .int (iI ((tdl d nb i)))])), (mb, .inl (gI G, 14, .inl (arI ((tdn d nb i)))))]) [0, 1, 2, 3, 4, 5] rfl (by decide) ?_
      refine w_lv (lv2 := [(0, .ref h), (1, .int (iI i)), (3, .int (iI (ec (td0 d nb i) i))), (4, .int (iI ((2 + 1))))]) [0, 1, 3, 4] rfl ?_
      have L_60 : ∀ (nn_60 : Nat) (e : Int) (x : Im) (y : Im) (z : Int), (2 ≤ e ∧ e ≤ 184 ∧ 0 ≤ z ∧ z ≤ 14) → (tdF d nb i = tds i (ec (td0 d nb i) i - e).toNat e x y z) → (ec (td0 d nb i) i - e).toNat = nn_60 → Wd G k 6 0 0 [(h, .inr (1, [.ref g, .ref o, .ref m])), (o, .inr (4, [.ref g, .long tk])), (g, .inr (2, [.ref b])), (b, .inl (gI G, 4096, .inl (arI x))), (m, .inr (5, [.ref mb, .int (iI z)])), (mb, .inl (gI G, 14, .inl (arI y)))] 60 [(0, .ref h), (1, .int (iI i)), (3, .int (iI (ec (td0 d nb i) i))), (4, .int (iI e))] [] := by
        intro nn_60
        induction nn_60 using Nat.strongRecOn with
        | ind nn_60 ih_60 =>
          intro e x y z h1 h2 hm_60
          have q9 := ec_rg (td0 d nb i) i
          refine w_iload C 3 dX1_tidy_60 rfl ?_
          refine w_iload_n C 2 dX1_tidy_62 rfl ?_
          refine w_icmp_ge C 97 dX1_tidy_63 rfl (by omega) (fun c_14 => ?_) (fun c_14 => ?_)
          · exact w_retv hret dX1_tidy_97 rfl rfl rfl ⟨rfl, (by rw [h2, show (ec (td0 d nb i) i - e).toNat = 0 by omega, tds])⟩
          · refine w_aload_n C 0 dX1_tidy_66 rfl ?_
            refine w_iload_n C 1 dX1_tidy_67 rfl ?_
            refine w_iload C 3 dX1_tidy_68 rfl ?_
            refine w_callV (As := [.int (iI i), .int (iI e)]) (rest := []) (w2 := [(h, .inr (1, [.ref g, .ref o, .ref m])), (o, .inr (4, [.ref g, .long tk])), (g, .inr (2, [.ref b])), (b, .inl (gI G, 4096, .inl (arI x))), (m, .inr (5, [.ref mb, .int (iI z)])), (mb, .inl (gI G, 14, .inl (arI y)))]) (st2 := [.int (iI (ep x i e))]) C (ct_X1_entryPlace G (kl k) h o g b m tk x i e (by omega) (by omega)) gX1_48 dX1_tidy_70 0 rfl rfl rfl rfl rfl (Nat.le_of_ble_eq_true rfl) (by decide) [0, 1, 2, 3] rfl (by decide) [h, o, g, b] rfl rfl rfl rfl ?_
            have f_15 := ep_rg x i e
            refine w_istore (lv2 := [(0, .ref h), (1, .int (iI i)), (3, .int (iI (ec (td0 d nb i) i))), (4, .int (iI e)), (5, .int (iI (ep x i e)))]) C dX1_tidy_73 (by decide) rfl ?_
            refine w_aload_n C 0 dX1_tidy_75 rfl ?_
            refine w_iload_n C 1 dX1_tidy_76 rfl ?_
            refine w_iload C 4 dX1_tidy_77 rfl ?_
            refine w_callV (As := [.int (iI i), .int (iI (ep x i e))]) (rest := []) (w2 := [(h, .inr (1, [.ref g, .ref o, .ref m])), (o, .inr (4, [.ref g, .long tk])), (g, .inr (2, [.ref b])), (b, .inl (gI G, 4096, .inl (arI x))), (m, .inr (5, [.ref mb, .int (iI (vaL x z (ep x i e)))])), (mb, .inl (gI G, 14, .inl (arI (vaN x y (ep x i e)))))]) (st2 := [.int (iI (bI (vaB x y i (ep x i e))))]) C (ct_X1_isValid G (kl k) h o g b m tk x mb y z i (ep x i e) (by omega) (by omega)) gX1_100 dX1_tidy_79 0 rfl rfl rfl rfl rfl (Nat.le_of_ble_eq_true rfl) (by decide) [0, 1, 2, 3, 4, 5] rfl (by decide) [h, o, g, b, m, mb] rfl rfl rfl rfl ?_
            refine w_bnz C 91 dX1_tidy_82 rfl (fun c_16 => ?_) (fun c_16 => ?_)
            · refine w_iinc (lv2 := [(0, .ref h), (1, .int (iI i)), (3, .int (iI (ec (td0 d nb i) i))), (4, .int (iI (e + 1))), (5, .int (iI (ep x i e)))]) C 3 dX1_tidy_91 rfl (by decide) rfl ?_
              refine w_goto C 60 dX1_tidy_94 rfl ?_
              refine w_ord (ws2 := [(h, .inr (1, [.ref g, .ref o, .ref m])), (o, .inr (4, [.ref g, .long tk])), (g, .inr (2, [.ref b])), (b, .inl (gI G, 4096, .inl (arI x))), (m, .inr (5, [.ref mb, .int (iI ((vaL x z (ep x i e))))])), (mb, .inl (gI G, 14, .inl (arI ((vaN x y (ep x i e))))))]) [0, 1, 2, 3, 4, 5] rfl (by decide) ?_
              refine w_lv (lv2 := [(0, .ref h), (1, .int (iI i)), (3, .int (iI (ec (td0 d nb i) i))), (4, .int (iI ((e + 1))))]) [0, 1, 2, 3] rfl ?_
              exact ih_60 _ (by omega) (e + 1) x (vaN x y (ep x i e)) (vaL x z (ep x i e)) (by have := vaL_rg x z (ep x i e) (by omega); omega) (by rw [h2, show (ec (td0 d nb i) i - e).toNat = (ec (td0 d nb i) i - (e + 1)).toNat + 1 by omega, tds]; first | rw [if_pos (by assumption)] | rw [if_neg (by rw [show vaB x y i (ep x i e) = false from (by assumption)]; decide)]) rfl
            · refine w_aload_n C 0 dX1_tidy_85 rfl ?_
              refine w_iload C 4 dX1_tidy_86 rfl ?_
              refine w_callV (As := [.int (iI (ep x i e))]) (rest := []) (w2 := [(h, .inr (1, [.ref g, .ref o, .ref m])), (o, .inr (4, [.ref g, .long tk])), (g, .inr (2, [.ref b])), (b, .inl (gI G, 4096, .inl (arI (im_wipe x (ep x i e) 16)))), (m, .inr (5, [.ref mb, .int (iI (vaL x z (ep x i e)))])), (mb, .inl (gI G, 14, .inl (arI (vaN x y (ep x i e)))))]) (st2 := []) C (ct_X1_wipeEntry G (kl k) h o g b m tk x (ep x i e) (by omega)) gX1_104 dX1_tidy_88 0 rfl rfl rfl rfl rfl (Nat.le_of_ble_eq_true rfl) (by decide) [0, 1, 2, 3] rfl (by decide) [h, o, g, b] rfl rfl rfl rfl ?_
              refine w_iinc (lv2 := [(0, .ref h), (1, .int (iI i)), (3, .int (iI (ec (td0 d nb i) i))), (4, .int (iI (e + 1))), (5, .int (iI (ep x i e)))]) C 3 dX1_tidy_91 rfl (by decide) rfl ?_
              refine w_goto C 60 dX1_tidy_94 rfl ?_
              refine w_ord (ws2 := [(h, .inr (1, [.ref g, .ref o, .ref m])), (o, .inr (4, [.ref g, .long tk])), (g, .inr (2, [.ref b])), (b, .inl (gI G, 4096, .inl (arI ((im_wipe x (ep x i e) 16))))), (m, .inr (5, [.ref mb, .int (iI ((vaL x z (ep x i e))))])), (mb, .inl (gI G, 14, .inl (arI ((vaN x y (ep x i e))))))]) [0, 1, 2, 3, 4, 5] rfl (by decide) ?_
              refine w_lv (lv2 := [(0, .ref h), (1, .int (iI i)), (3, .int (iI (ec (td0 d nb i) i))), (4, .int (iI ((e + 1))))]) [0, 1, 2, 3] rfl ?_
              exact ih_60 _ (by omega) (e + 1) (im_wipe x (ep x i e) 16) (vaN x y (ep x i e)) (vaL x z (ep x i e)) (by have := vaL_rg x z (ep x i e) (by omega); omega) (by rw [h2, show (ec (td0 d nb i) i - e).toNat = (ec (td0 d nb i) i - (e + 1)).toNat + 1 by omega, tds]; first | rw [if_pos (by assumption)] | rw [if_neg (by rw [show vaB x y i (ep x i e) = false from (by assumption)]; decide)]) rfl
      exact L_60 _ (2 + 1) ((td0 d nb i)) (tdn d nb i) (tdl d nb i) (by have := tn_rg 3 (by decide); have := tn_rg 4 (by decide); unfold tdl; split <;> omega) (by unfold tdF tde; first | (rw [if_neg hx]; done) | (rw [if_pos hx]; rfl)) rfl
