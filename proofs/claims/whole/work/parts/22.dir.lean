theorem gX1_26 : cwv RX1 26 yX4_size cX4_size 2 (some .int) 1 566 444 445 67 446 := by decide +kernel
set_option maxHeartbeats 4000000 in
set_option maxRecDepth 100000 in
theorem ct_X1_entryCount (G : GX) (l : Launch) (h : Nat) (o : Nat) (g : Nat) (b : Nat) (m : Nat) (tk : Int64) (d : Im) (i : Int) (hi : -2147483648 ≤ i ∧ i < 2147483648) : Ct G l yX1_entryCount cX1_entryCount 2 (some .int) rmX1_entryCount [.ref h, .int (iI i)] [(h, .inr (1, [.ref g, .ref o, .ref m])), (o, .inr (4, [.ref g, .long tk])), (g, .inr (2, [.ref b])), (b, .inl (gI G, 4096, .inl (arI d)))] (some (.int (iI (ec d i)))) [(h, .inr (1, [.ref g, .ref o, .ref m])), (o, .inr (4, [.ref g, .long tk])), (g, .inr (2, [.ref b])), (b, .inl (gI G, 4096, .inl (arI d)))] := by
  refine Ct.of (by decide) (Nat.le_of_ble_eq_true rfl) ?_
  intro k C hl hret
  subst hl
  refine w_lv (lv2 := [(0, .ref h), (1, .int (iI i))]) [0, 1] rfl ?_
  refine w_aload_n C 0 dX1_entryCount_0 rfl ?_
  refine w_get C 0 1 137 dX1_entryCount_1 rfl rfl inX1 (by decide) (by decide +kernel) rfl ?_
  refine w_iload_n C 1 dX1_entryCount_4 rfl ?_
  refine w_callV (As := [.int (iI i)]) (rest := []) (w2 := [(h, .inr (1, [.ref g, .ref o, .ref m])), (o, .inr (4, [.ref g, .long tk])), (g, .inr (2, [.ref b])), (b, .inl (gI G, 4096, .inl (arI d)))]) (st2 := [.int (iI (sz d i))]) C (ct_X4_size G (kl k) o g b tk d i (by omega)) gX1_26 dX1_entryCount_5 1 rfl rfl rfl rfl rfl (Nat.le_of_ble_eq_true rfl) (by decide) [1, 2, 3] rfl (by decide) [o, g, b] rfl rfl rfl rfl ?_
  have f_1 := sz_rg d i
  refine w_bipush C dX1_entryCount_8 (by decide) ?_
  refine w_idiv C dX1_entryCount_10 (by omega) ?_
  refine w_sipush C dX1_entryCount_11 (by decide) ?_
  refine w_min C 567 dX1_entryCount_14 (by decide +kernel) (by omega) (by decide) ?_
  exact w_reti hret dX1_entryCount_17 rfl rfl rfl rfl ⟨congrArg (fun z => some (Value.int (iI z))) rfl, rfl⟩

theorem gX1_38 : cwv RX1 38 yX4_contentPlace cX4_contentPlace 6 (some .int) 2 539 468 469 67 470 := by decide +kernel
set_option maxHeartbeats 4000000 in
set_option maxRecDepth 100000 in
theorem ct_X1_entryPlace (G : GX) (l : Launch) (h : Nat) (o : Nat) (g : Nat) (b : Nat) (m : Nat) (tk : Int64) (d : Im) (i : Int) (e : Int) (hi : -2147483648 ≤ i ∧ i < 2147483648) (he : 0 ≤ e ∧ e < 1000) : Ct G l yX1_entryPlace cX1_entryPlace 3 (some .int) rmX1_entryPlace [.ref h, .int (iI i), .int (iI e)] [(h, .inr (1, [.ref g, .ref o, .ref m])), (o, .inr (4, [.ref g, .long tk])), (g, .inr (2, [.ref b])), (b, .inl (gI G, 4096, .inl (arI d)))] (some (.int (iI (ep d i e)))) [(h, .inr (1, [.ref g, .ref o, .ref m])), (o, .inr (4, [.ref g, .long tk])), (g, .inr (2, [.ref b])), (b, .inl (gI G, 4096, .inl (arI d)))] := by
  refine Ct.of (by decide) (Nat.le_of_ble_eq_true rfl) ?_
  intro k C hl hret
  subst hl
  refine w_lv (lv2 := [(0, .ref h), (1, .int (iI i)), (2, .int (iI e))]) [0, 1, 2] rfl ?_
  refine w_aload_n C 0 dX1_entryPlace_0 rfl ?_
  refine w_get C 0 1 137 dX1_entryPlace_1 rfl rfl inX1 (by decide) (by decide +kernel) rfl ?_
  refine w_iload_n C 1 dX1_entryPlace_4 rfl ?_
  refine w_iload_n C 2 dX1_entryPlace_5 rfl ?_
  refine w_bipush C dX1_entryPlace_6 (by decide) ?_
  refine w_imul C dX1_entryPlace_8 ?_
  refine w_callV (As := [.int (iI i), .int (iI (e * 16))]) (rest := []) (w2 := [(h, .inr (1, [.ref g, .ref o, .ref m])), (o, .inr (4, [.ref g, .long tk])), (g, .inr (2, [.ref b])), (b, .inl (gI G, 4096, .inl (arI d)))]) (st2 := [.int (iI (cp d i (e * 16)))]) C (ct_X4_contentPlace G (kl k) o g b tk d i (e * 16) (by omega) (by omega)) gX1_38 dX1_entryPlace_9 1 rfl rfl rfl rfl rfl (Nat.le_of_ble_eq_true rfl) (by decide) [1, 2, 3] rfl (by decide) [o, g, b] rfl rfl rfl rfl ?_
  have f_1 := cp_rg d i (e * 16)
  exact w_reti hret dX1_entryPlace_12 rfl rfl rfl rfl ⟨congrArg (fun z => some (Value.int (iI z))) rfl, rfl⟩

theorem gX1_41 : cwv RX1 41 yX6_length cX6_length 1 (some .int) 0 546 547 548 69 549 := by decide +kernel
theorem gX1_55 : cwv RX1 55 yX2_at cX2_at 2 (some .int) 1 572 359 360 66 361 := by decide +kernel
theorem gX1_60 : cwv RX1 60 yX6_at cX6_at 2 (some .int) 1 550 551 552 69 553 := by decide +kernel
set_option maxHeartbeats 4000000 in
set_option maxRecDepth 100000 in
theorem ct_X1_isNamed (G : GX) (l : Launch) (h : Nat) (o : Nat) (g : Nat) (b : Nat) (m : Nat) (tk : Int64) (d : Im) (v : Nat) (vb : Nat) (nb : Im) (n : Int) (p : Int) (hn : 0 ≤ n ∧ n ≤ 14) (hp : -1 ≤ p ∧ p < 5000) : Ct G l yX1_isNamed cX1_isNamed 5 (some .boolean) rmX1_isNamed [.ref h, .int (iI p), .ref v] [(h, .inr (1, [.ref g, .ref o, .ref m])), (o, .inr (4, [.ref g, .long tk])), (g, .inr (2, [.ref b])), (b, .inl (gI G, 4096, .inl (arI d))), (v, .inr (5, [.ref vb, .int (iI n)])), (vb, .inl (gI G, 14, .inl (arI nb)))] (some (.int (iI (bI (nmd d p nb n))))) [(h, .inr (1, [.ref g, .ref o, .ref m])), (o, .inr (4, [.ref g, .long tk])), (g, .inr (2, [.ref b])), (b, .inl (gI G, 4096, .inl (arI d))), (v, .inr (5, [.ref vb, .int (iI n)])), (vb, .inl (gI G, 14, .inl (arI nb)))] := by
  refine Ct.of (by decide) (Nat.le_of_ble_eq_true rfl) ?_
  intro k C hl hret
  subst hl
  refine w_lv (lv2 := [(0, .ref h), (1, .int (iI p)), (2, .ref v)]) [0, 1, 2] rfl ?_
  refine w_aload_n C 2 dX1_isNamed_0 rfl ?_
  refine w_callV (As := []) (rest := []) (w2 := [(h, .inr (1, [.ref g, .ref o, .ref m])), (o, .inr (4, [.ref g, .long tk])), (g, .inr (2, [.ref b])), (b, .inl (gI G, 4096, .inl (arI d))), (v, .inr (5, [.ref vb, .int (iI n)])), (vb, .inl (gI G, 14, .inl (arI nb)))]) (st2 := [.int (iI n)]) C (ct_X6_length G (kl k) v vb nb n) gX1_41 dX1_isNamed_1 4 rfl rfl rfl rfl rfl (Nat.le_of_ble_eq_true rfl) (by decide) [4, 5] rfl (by decide) [v, vb] rfl rfl rfl rfl ?_
  refine w_istore_n (lv2 := [(0, .ref h), (1, .int (iI p)), (2, .ref v), (3, .int (iI n))]) C dX1_isNamed_4 (by decide) rfl ?_
  refine w_aload_n C 0 dX1_isNamed_5 rfl ?_
  refine w_get C 0 0 136 dX1_isNamed_6 rfl rfl inX1 (by decide) (by decide +kernel) rfl ?_
  refine w_iload_n C 1 dX1_isNamed_9 rfl ?_
  refine w_iconst C dX1_isNamed_10 ?_
  refine w_iadd C dX1_isNamed_11 ?_
  refine w_callV (As := [.int (iI (p + 1))]) (rest := []) (w2 := [(h, .inr (1, [.ref g, .ref o, .ref m])), (o, .inr (4, [.ref g, .long tk])), (g, .inr (2, [.ref b])), (b, .inl (gI G, 4096, .inl (arI d))), (v, .inr (5, [.ref vb, .int (iI n)])), (vb, .inl (gI G, 14, .inl (arI nb)))]) (st2 := [.int (iI (im_at d (p + 1)))]) C (ct_X2_at G (kl k) g b d (p + 1) (by omega)) gX1_55 dX1_isNamed_12 2 rfl rfl rfl rfl rfl (Nat.le_of_ble_eq_true rfl) (by decide) [2, 3] rfl (by decide) [g, b] rfl rfl rfl rfl ?_
  have f_1 := im_at_rg d (p + 1)
  refine w_iload_n C 3 dX1_isNamed_15 rfl ?_
  refine w_icmp_eq C 21 dX1_isNamed_16 rfl (by omega) (fun c_2 => ?_) (fun c_2 => ?_)
  · have hc : im_at d (p + 1) = n := by assumption
    refine w_iconst C dX1_isNamed_21 ?_
    refine w_istore (lv2 := [(0, .ref h), (1, .int (iI p)), (2, .ref v), (3, .int (iI n)), (4, .int (iI 0))]) C dX1_isNamed_22 (by decide) rfl ?_
    have L_24 : ∀ (nn_24 : Nat) (j : Int), (0 ≤ j ∧ j ≤ n) → (∀ q : Int, 0 ≤ q → q < j → im_at d (p + 2 + q) = nm_at nb n q) → (n - j).toNat = nn_24 → Wd G k 5 0 0 [(h, .inr (1, [.ref g, .ref o, .ref m])), (o, .inr (4, [.ref g, .long tk])), (g, .inr (2, [.ref b])), (b, .inl (gI G, 4096, .inl (arI d))), (v, .inr (5, [.ref vb, .int (iI n)])), (vb, .inl (gI G, 14, .inl (arI nb)))] 24 [(0, .ref h), (1, .int (iI p)), (2, .ref v), (3, .int (iI n)), (4, .int (iI j))] [] := by
      intro nn_24
      induction nn_24 using Nat.strongRecOn with
      | ind nn_24 ih_24 =>
        intro j h1 h2 hm_24
        refine w_iload C 4 dX1_isNamed_24 rfl ?_
        refine w_iload_n C 3 dX1_isNamed_26 rfl ?_
        refine w_icmp_ge C 60 dX1_isNamed_27 rfl (by omega) (fun c_3 => ?_) (fun c_3 => ?_)
        · refine w_iconst C dX1_isNamed_60 ?_
          exact w_reti hret dX1_isNamed_61 rfl rfl rfl rfl ⟨congrArg (fun z => some (Value.int (iI z))) (by unfold nmd; rw [decide_eq_true hc, (nmk_iff d p nb n n.toNat).mpr (fun q a b => h2 q a (by omega))]; rfl), rfl⟩
        · refine w_aload_n C 0 dX1_isNamed_30 rfl ?_
          refine w_get C 0 0 136 dX1_isNamed_31 rfl rfl inX1 (by decide) (by decide +kernel) rfl ?_
          refine w_iload_n C 1 dX1_isNamed_34 rfl ?_
          refine w_iconst C dX1_isNamed_35 ?_
          refine w_iadd C dX1_isNamed_36 ?_
          refine w_iload C 4 dX1_isNamed_37 rfl ?_
          refine w_iadd C dX1_isNamed_39 ?_
          refine w_callV (As := [.int (iI ((p + 2) + j))]) (rest := []) (w2 := [(h, .inr (1, [.ref g, .ref o, .ref m])), (o, .inr (4, [.ref g, .long tk])), (g, .inr (2, [.ref b])), (b, .inl (gI G, 4096, .inl (arI d))), (v, .inr (5, [.ref vb, .int (iI n)])), (vb, .inl (gI G, 14, .inl (arI nb)))]) (st2 := [.int (iI (im_at d ((p + 2) + j)))]) C (ct_X2_at G (kl k) g b d ((p + 2) + j) (by omega)) gX1_55 dX1_isNamed_40 2 rfl rfl rfl rfl rfl (Nat.le_of_ble_eq_true rfl) (by decide) [2, 3] rfl (by decide) [g, b] rfl rfl rfl rfl ?_
          have f_4 := im_at_rg d ((p + 2) + j)
          refine w_aload_n C 2 dX1_isNamed_43 rfl ?_
          refine w_iload C 4 dX1_isNamed_44 rfl ?_
          refine w_callV (As := [.int (iI j)]) (rest := [.int (iI (im_at d ((p + 2) + j)))]) (w2 := [(h, .inr (1, [.ref g, .ref o, .ref m])), (o, .inr (4, [.ref g, .long tk])), (g, .inr (2, [.ref b])), (b, .inl (gI G, 4096, .inl (arI d))), (v, .inr (5, [.ref vb, .int (iI n)])), (vb, .inl (gI G, 14, .inl (arI nb)))]) (st2 := [.int (iI (nm_at nb n j)), .int (iI (im_at d ((p + 2) + j)))]) C (ct_X6_at G (kl k) v vb nb n j (by omega) (by omega)) gX1_60 dX1_isNamed_46 4 rfl rfl rfl rfl rfl (Nat.le_of_ble_eq_true rfl) (by decide) [4, 5] rfl (by decide) [v, vb] rfl rfl rfl rfl ?_
          have f_5 := nm_at_rg nb n j
          refine w_icmp_eq C 54 dX1_isNamed_49 rfl (by omega) (fun c_6 => ?_) (fun c_6 => ?_)
          · refine w_iinc (lv2 := [(0, .ref h), (1, .int (iI p)), (2, .ref v), (3, .int (iI n)), (4, .int (iI (j + 1)))]) C 4 dX1_isNamed_54 rfl (by decide) rfl ?_
            refine w_goto C 24 dX1_isNamed_57 rfl ?_
            refine w_lv (lv2 := [(0, .ref h), (1, .int (iI p)), (2, .ref v), (3, .int (iI n)), (4, .int (iI ((j + 1))))]) [0, 1, 2, 3, 4] rfl ?_
            exact ih_24 _ (by omega) (j + 1) (by omega) (fun q a b => if z : q = j then (by rw [z]; assumption) else h2 q a (by omega)) rfl
          · refine w_iconst C dX1_isNamed_52 ?_
            exact w_reti hret dX1_isNamed_53 rfl rfl rfl rfl ⟨congrArg (fun z => some (Value.int (iI z))) (by unfold nmd; rw [show nmk d p nb n n.toNat = false from by cases z : nmk d p nb n n.toNat with | false => rfl | true => exact absurd ((nmk_iff d p nb n n.toNat).mp z j (by omega) (by omega)) (by assumption), Bool.and_false]; rfl), rfl⟩
    exact L_24 _ 0 (by omega) (fun q a b => by omega) rfl
  · refine w_iconst C dX1_isNamed_19 ?_
    exact w_reti hret dX1_isNamed_20 rfl rfl rfl rfl ⟨congrArg (fun z => some (Value.int (iI z))) (by unfold nmd; rw [decide_eq_false (by assumption)]; rfl), rfl⟩

theorem gX1_45 : cwv RX1 45 yX1_entryCount cX1_entryCount 2 (some .int) 1 562 563 564 68 565 := by decide +kernel
theorem gX1_48 : cwv RX1 48 yX1_entryPlace cX1_entryPlace 3 (some .int) 2 535 536 537 68 538 := by decide +kernel
theorem gX1_51 : cwv RX1 51 yX1_isNamed cX1_isNamed 5 (some .boolean) 2 588 590 6 68 591 := by decide +kernel
set_option maxHeartbeats 4000000 in
set_option maxRecDepth 100000 in
theorem ct_X1_seek (G : GX) (l : Launch) (h : Nat) (o : Nat) (g : Nat) (b : Nat) (m : Nat) (tk : Int64) (d : Im) (v : Nat) (vb : Nat) (nb : Im) (n : Int) (i : Int) (hn : 0 ≤ n ∧ n ≤ 14) (hi : -2147483648 ≤ i ∧ i < 2147483648) : Ct G l yX1_seek cX1_seek 6 (some .int) rmX1_seek [.ref h, .int (iI i), .ref v] [(h, .inr (1, [.ref g, .ref o, .ref m])), (o, .inr (4, [.ref g, .long tk])), (g, .inr (2, [.ref b])), (b, .inl (gI G, 4096, .inl (arI d))), (v, .inr (5, [.ref vb, .int (iI n)])), (vb, .inl (gI G, 14, .inl (arI nb)))] (some (.int (iI (sk d i nb n)))) [(h, .inr (1, [.ref g, .ref o, .ref m])), (o, .inr (4, [.ref g, .long tk])), (g, .inr (2, [.ref b])), (b, .inl (gI G, 4096, .inl (arI d))), (v, .inr (5, [.ref vb, .int (iI n)])), (vb, .inl (gI G, 14, .inl (arI nb)))] := by
  refine Ct.of (by decide) (Nat.le_of_ble_eq_true rfl) ?_
  intro k C hl hret
  subst hl
  refine w_lv (lv2 := [(0, .ref h), (1, .int (iI i)), (2, .ref v)]) [0, 1, 2] rfl ?_
  refine w_aload_n C 2 dX1_seek_0 rfl ?_
  refine w_callV (As := []) (rest := []) (w2 := [(h, .inr (1, [.ref g, .ref o, .ref m])), (o, .inr (4, [.ref g, .long tk])), (g, .inr (2, [.ref b])), (b, .inl (gI G, 4096, .inl (arI d))), (v, .inr (5, [.ref vb, .int (iI n)])), (vb, .inl (gI G, 14, .inl (arI nb)))]) (st2 := [.int (iI n)]) C (ct_X6_length G (kl k) v vb nb n) gX1_41 dX1_seek_1 4 rfl rfl rfl rfl rfl (Nat.le_of_ble_eq_true rfl) (by decide) [4, 5] rfl (by decide) [v, vb] rfl rfl rfl rfl ?_
  refine w_if_ne C 9 dX1_seek_4 rfl (by omega) (fun c_1 => ?_) (fun c_1 => ?_)
  · refine w_aload_n C 0 dX1_seek_9 rfl ?_
    refine w_iload_n C 1 dX1_seek_10 rfl ?_
    refine w_callV (As := [.int (iI i)]) (rest := []) (w2 := [(h, .inr (1, [.ref g, .ref o, .ref m])), (o, .inr (4, [.ref g, .long tk])), (g, .inr (2, [.ref b])), (b, .inl (gI G, 4096, .inl (arI d))), (v, .inr (5, [.ref vb, .int (iI n)])), (vb, .inl (gI G, 14, .inl (arI nb)))]) (st2 := [.int (iI (ec d i))]) C (ct_X1_entryCount G (kl k) h o g b m tk d i (by omega)) gX1_45 dX1_seek_11 0 rfl rfl rfl rfl rfl (Nat.le_of_ble_eq_true rfl) (by decide) [0, 1, 2, 3] rfl (by decide) [h, o, g, b] rfl rfl rfl rfl ?_
    have f_2 := ec_rg d i
    refine w_istore_n (lv2 := [(0, .ref h), (1, .int (iI i)), (2, .ref v), (3, .int (iI (ec d i)))]) C dX1_seek_14 (by decide) rfl ?_
    refine w_iconst C dX1_seek_15 ?_
    refine w_istore (lv2 := [(0, .ref h), (1, .int (iI i)), (2, .ref v), (3, .int (iI (ec d i))), (4, .int (iI 2))]) C dX1_seek_16 (by decide) rfl ?_
    have L_18 : ∀ (nn_18 : Nat) (e : Int), (2 ≤ e ∧ e ≤ 184) → (sk d i nb n = sks d i nb n (ec d i - e).toNat e) → (ec d i - e).toNat = nn_18 → Wd G k 6 0 0 [(h, .inr (1, [.ref g, .ref o, .ref m])), (o, .inr (4, [.ref g, .long tk])), (g, .inr (2, [.ref b])), (b, .inl (gI G, 4096, .inl (arI d))), (v, .inr (5, [.ref vb, .int (iI n)])), (vb, .inl (gI G, 14, .inl (arI nb)))] 18 [(0, .ref h), (1, .int (iI i)), (2, .ref v), (3, .int (iI (ec d i))), (4, .int (iI e))] [] := by
      intro nn_18
      induction nn_18 using Nat.strongRecOn with
      | ind nn_18 ih_18 =>
        intro e h1 h2 hm_18
        have q9 := ec_rg d i
        refine w_iload C 4 dX1_seek_18 rfl ?_
        refine w_iload_n C 3 dX1_seek_20 rfl ?_
        refine w_icmp_ge C 58 dX1_seek_21 rfl (by omega) (fun c_3 => ?_) (fun c_3 => ?_)
        · refine w_iconst C dX1_seek_58 ?_
          exact w_reti hret dX1_seek_59 rfl rfl rfl rfl ⟨congrArg (fun z => some (Value.int (iI z))) (by rw [h2, show (ec d i - e).toNat = 0 by omega, sks]), rfl⟩
        · refine w_aload_n C 0 dX1_seek_24 rfl ?_
          refine w_iload_n C 1 dX1_seek_25 rfl ?_
          refine w_iload C 4 dX1_seek_26 rfl ?_
          refine w_callV (As := [.int (iI i), .int (iI e)]) (rest := []) (w2 := [(h, .inr (1, [.ref g, .ref o, .ref m])), (o, .inr (4, [.ref g, .long tk])), (g, .inr (2, [.ref b])), (b, .inl (gI G, 4096, .inl (arI d))), (v, .inr (5, [.ref vb, .int (iI n)])), (vb, .inl (gI G, 14, .inl (arI nb)))]) (st2 := [.int (iI (ep d i e))]) C (ct_X1_entryPlace G (kl k) h o g b m tk d i e (by omega) (by omega)) gX1_48 dX1_seek_28 0 rfl rfl rfl rfl rfl (Nat.le_of_ble_eq_true rfl) (by decide) [0, 1, 2, 3] rfl (by decide) [h, o, g, b] rfl rfl rfl rfl ?_
          have f_4 := ep_rg d i e
          refine w_istore (lv2 := [(0, .ref h), (1, .int (iI i)), (2, .ref v), (3, .int (iI (ec d i))), (4, .int (iI e)), (5, .int (iI (ep d i e)))]) C dX1_seek_31 (by decide) rfl ?_
          refine w_iload C 5 dX1_seek_33 rfl ?_
          refine w_iconst C dX1_seek_35 ?_
          refine w_icmp_eq C 52 dX1_seek_36 rfl (by omega) (fun c_5 => ?_) (fun c_5 => ?_)
          · refine w_iinc (lv2 := [(0, .ref h), (1, .int (iI i)), (2, .ref v), (3, .int (iI (ec d i))), (4, .int (iI (e + 1))), (5, .int (iI (ep d i e)))]) C 4 dX1_seek_52 rfl (by decide) rfl ?_
            refine w_goto C 18 dX1_seek_55 rfl ?_
            refine w_lv (lv2 := [(0, .ref h), (1, .int (iI i)), (2, .ref v), (3, .int (iI (ec d i))), (4, .int (iI ((e + 1))))]) [0, 1, 2, 3, 4] rfl ?_
            exact ih_18 _ (by omega) (e + 1) (by omega) (by rw [h2, show (ec d i - e).toNat = (ec d i - (e + 1)).toNat + 1 by omega, sks, if_neg (by simp [c_1, c_3, c_5])]) rfl
          · refine w_aload_n C 0 dX1_seek_39 rfl ?_
            refine w_iload C 5 dX1_seek_40 rfl ?_
            refine w_aload_n C 2 dX1_seek_42 rfl ?_
            refine w_callV (As := [.int (iI (ep d i e)), .ref v]) (rest := []) (w2 := [(h, .inr (1, [.ref g, .ref o, .ref m])), (o, .inr (4, [.ref g, .long tk])), (g, .inr (2, [.ref b])), (b, .inl (gI G, 4096, .inl (arI d))), (v, .inr (5, [.ref vb, .int (iI n)])), (vb, .inl (gI G, 14, .inl (arI nb)))]) (st2 := [.int (iI (bI (nmd d (ep d i e) nb n)))]) C (ct_X1_isNamed G (kl k) h o g b m tk d v vb nb n (ep d i e) (by omega) (by omega)) gX1_51 dX1_seek_43 0 rfl rfl rfl rfl rfl (Nat.le_of_ble_eq_true rfl) (by decide) [0, 1, 2, 3, 4, 5] rfl (by decide) [h, o, g, b, v, vb] rfl rfl rfl rfl ?_
            refine w_bz C 52 dX1_seek_46 rfl (fun c_6 => ?_) (fun c_6 => ?_)
            · refine w_iinc (lv2 := [(0, .ref h), (1, .int (iI i)), (2, .ref v), (3, .int (iI (ec d i))), (4, .int (iI (e + 1))), (5, .int (iI (ep d i e)))]) C 4 dX1_seek_52 rfl (by decide) rfl ?_
              refine w_goto C 18 dX1_seek_55 rfl ?_
              refine w_lv (lv2 := [(0, .ref h), (1, .int (iI i)), (2, .ref v), (3, .int (iI (ec d i))), (4, .int (iI ((e + 1))))]) [0, 1, 2, 3, 4] rfl ?_
              exact ih_18 _ (by omega) (e + 1) (by omega) (by rw [h2, show (ec d i - e).toNat = (ec d i - (e + 1)).toNat + 1 by omega, sks, if_neg (by simp [c_1, c_3, c_5, c_6])]) rfl
            · refine w_iload C 5 dX1_seek_49 rfl ?_
              exact w_reti hret dX1_seek_51 rfl rfl rfl rfl ⟨congrArg (fun z => some (Value.int (iI z))) (by rw [h2, show (ec d i - e).toNat = (ec d i - (e + 1)).toNat + 1 by omega, sks, if_pos (by simp [c_1, c_3, c_5, c_6])]), rfl⟩
    exact L_18 _ 2 (by omega) (by unfold sk; rw [if_neg (by assumption)]) rfl
  · refine w_iconst C dX1_seek_7 ?_
    exact w_reti hret dX1_seek_8 rfl rfl rfl rfl ⟨congrArg (fun z => some (Value.int (iI z))) (by unfold sk; rw [if_pos (by assumption)]), rfl⟩

theorem gX1_61 : cwv RX1 61 yX2_wipe cX2_wipe 3 none 2 544 262 263 66 264 := by decide +kernel
theorem gX1_65 : cwv RX1 65 yX2_set cX2_set 3 none 2 545 332 333 66 334 := by decide +kernel
set_option maxHeartbeats 4000000 in
set_option maxRecDepth 100000 in
theorem ct_X1_writeEntry (G : GX) (l : Launch) (h : Nat) (o : Nat) (g : Nat) (b : Nat) (m : Nat) (tk : Int64) (d : Im) (v : Nat) (vb : Nat) (nb : Im) (n : Int) (p : Int) (i : Int) (hn : 0 ≤ n ∧ n ≤ 14) (hp : -1 ≤ p ∧ p < 5000) : Ct G l yX1_writeEntry cX1_writeEntry 5 none rmX1_writeEntry [.ref h, .int (iI p), .int (iI i), .ref v] [(h, .inr (1, [.ref g, .ref o, .ref m])), (o, .inr (4, [.ref g, .long tk])), (g, .inr (2, [.ref b])), (b, .inl (gI G, 4096, .inl (arI d))), (v, .inr (5, [.ref vb, .int (iI n)])), (vb, .inl (gI G, 14, .inl (arI nb)))] none [(h, .inr (1, [.ref g, .ref o, .ref m])), (o, .inr (4, [.ref g, .long tk])), (g, .inr (2, [.ref b])), (b, .inl (gI G, 4096, .inl (arI (we d p i nb n)))), (v, .inr (5, [.ref vb, .int (iI n)])), (vb, .inl (gI G, 14, .inl (arI nb)))] := by
  refine Ct.of (by decide) (Nat.le_of_ble_eq_true rfl) ?_
  intro k C hl hret
  subst hl
  refine w_lv (lv2 := [(0, .ref h), (1, .int (iI p)), (2, .int (iI i)), (3, .ref v)]) [0, 1, 2, 3] rfl ?_
  refine w_aload_n C 0 dX1_writeEntry_0 rfl ?_
  refine w_get C 0 0 136 dX1_writeEntry_1 rfl rfl inX1 (by decide) (by decide +kernel) rfl ?_
  refine w_iload_n C 1 dX1_writeEntry_4 rfl ?_
  refine w_bipush C dX1_writeEntry_5 (by decide) ?_
  refine w_callV (As := [.int (iI p), .int (iI 16)]) (rest := []) (w2 := [(h, .inr (1, [.ref g, .ref o, .ref m])), (o, .inr (4, [.ref g, .long tk])), (g, .inr (2, [.ref b])), (b, .inl (gI G, 4096, .inl (arI (im_wipe d p 16)))), (v, .inr (5, [.ref vb, .int (iI n)])), (vb, .inl (gI G, 14, .inl (arI nb)))]) (st2 := []) C (ct_X2_wipe G (kl k) g b d p 16 (by omega) (by omega)) gX1_61 dX1_writeEntry_7 2 rfl rfl rfl rfl rfl (Nat.le_of_ble_eq_true rfl) (by decide) [2, 3] rfl (by decide) [g, b] rfl rfl rfl rfl ?_
  refine w_aload_n C 0 dX1_writeEntry_10 rfl ?_
  refine w_get C 0 0 136 dX1_writeEntry_11 rfl rfl inX1 (by decide) (by decide +kernel) rfl ?_
  refine w_iload_n C 1 dX1_writeEntry_14 rfl ?_
  refine w_iload_n C 2 dX1_writeEntry_15 rfl ?_
  refine w_callV (As := [.int (iI p), .int (iI i)]) (rest := []) (w2 := [(h, .inr (1, [.ref g, .ref o, .ref m])), (o, .inr (4, [.ref g, .long tk])), (g, .inr (2, [.ref b])), (b, .inl (gI G, 4096, .inl (arI (im_set (im_wipe d p 16) p i)))), (v, .inr (5, [.ref vb, .int (iI n)])), (vb, .inl (gI G, 14, .inl (arI nb)))]) (st2 := []) C (ct_X2_set G (kl k) g b (im_wipe d p 16) p i (by omega)) gX1_65 dX1_writeEntry_16 2 rfl rfl rfl rfl rfl (Nat.le_of_ble_eq_true rfl) (by decide) [2, 3] rfl (by decide) [g, b] rfl rfl rfl rfl ?_
  refine w_aload_n C 0 dX1_writeEntry_19 rfl ?_
  refine w_get C 0 0 136 dX1_writeEntry_20 rfl rfl inX1 (by decide) (by decide +kernel) rfl ?_
  refine w_iload_n C 1 dX1_writeEntry_23 rfl ?_
  refine w_iconst C dX1_writeEntry_24 ?_
  refine w_iadd C dX1_writeEntry_25 ?_
  refine w_aload_n C 3 dX1_writeEntry_26 rfl ?_
  refine w_callV (As := []) (rest := [.int (iI (p + 1)), .ref g]) (w2 := [(h, .inr (1, [.ref g, .ref o, .ref m])), (o, .inr (4, [.ref g, .long tk])), (g, .inr (2, [.ref b])), (b, .inl (gI G, 4096, .inl (arI (im_set (im_wipe d p 16) p i)))), (v, .inr (5, [.ref vb, .int (iI n)])), (vb, .inl (gI G, 14, .inl (arI nb)))]) (st2 := [.int (iI n), .int (iI (p + 1)), .ref g]) C (ct_X6_length G (kl k) v vb nb n) gX1_41 dX1_writeEntry_27 4 rfl rfl rfl rfl rfl (Nat.le_of_ble_eq_true rfl) (by decide) [4, 5] rfl (by decide) [v, vb] rfl rfl rfl rfl ?_
  refine w_callV (As := [.int (iI (p + 1)), .int (iI n)]) (rest := []) (w2 := [(h, .inr (1, [.ref g, .ref o, .ref m])), (o, .inr (4, [.ref g, .long tk])), (g, .inr (2, [.ref b])), (b, .inl (gI G, 4096, .inl (arI (im_set (im_set (im_wipe d p 16) p i) (p + 1) n)))), (v, .inr (5, [.ref vb, .int (iI n)])), (vb, .inl (gI G, 14, .inl (arI nb)))]) (st2 := []) C (ct_X2_set G (kl k) g b (im_set (im_wipe d p 16) p i) (p + 1) n (by omega)) gX1_65 dX1_writeEntry_30 2 rfl rfl rfl rfl rfl (Nat.le_of_ble_eq_true rfl) (by decide) [2, 3] rfl (by decide) [g, b] rfl rfl rfl rfl ?_
  refine w_iconst C dX1_writeEntry_33 ?_
  refine w_istore (lv2 := [(0, .ref h), (1, .int (iI p)), (2, .int (iI i)), (3, .ref v), (4, .int (iI 0))]) C dX1_writeEntry_34 (by decide) rfl ?_
  refine w_ord (ws2 := [(h, .inr (1, [.ref g, .ref o, .ref m])), (o, .inr (4, [.ref g, .long tk])), (g, .inr (2, [.ref b])), (b, .inl (gI G, 4096, .inl (arI ((im_set (im_set (im_wipe d p 16) p i) (p + 1) n))))), (v, .inr (5, [.ref vb, .int (iI n)])), (vb, .inl (gI G, 14, .inl (arI nb)))]) [0, 1, 2, 3, 4, 5] rfl (by decide) ?_
  have L_36 : ∀ (nn_36 : Nat) (j : Int) (x : Im), (0 ≤ j ∧ j ≤ n) → (x = wek (im_set (im_set (im_wipe d p 16) p i) (p + 1) n) p nb n j.toNat) → (n - j).toNat = nn_36 → Wd G k 5 0 0 [(h, .inr (1, [.ref g, .ref o, .ref m])), (o, .inr (4, [.ref g, .long tk])), (g, .inr (2, [.ref b])), (b, .inl (gI G, 4096, .inl (arI x))), (v, .inr (5, [.ref vb, .int (iI n)])), (vb, .inl (gI G, 14, .inl (arI nb)))] 36 [(0, .ref h), (1, .int (iI p)), (2, .int (iI i)), (3, .ref v), (4, .int (iI j))] [] := by
    intro nn_36
    induction nn_36 using Nat.strongRecOn with
    | ind nn_36 ih_36 =>
      intro j x h1 h2 hm_36
      refine w_iload C 4 dX1_writeEntry_36 rfl ?_
      refine w_aload_n C 3 dX1_writeEntry_38 rfl ?_
      refine w_callV (As := []) (rest := [.int (iI j)]) (w2 := [(h, .inr (1, [.ref g, .ref o, .ref m])), (o, .inr (4, [.ref g, .long tk])), (g, .inr (2, [.ref b])), (b, .inl (gI G, 4096, .inl (arI x))), (v, .inr (5, [.ref vb, .int (iI n)])), (vb, .inl (gI G, 14, .inl (arI nb)))]) (st2 := [.int (iI n), .int (iI j)]) C (ct_X6_length G (kl k) v vb nb n) gX1_41 dX1_writeEntry_39 4 rfl rfl rfl rfl rfl (Nat.le_of_ble_eq_true rfl) (by decide) [4, 5] rfl (by decide) [v, vb] rfl rfl rfl rfl ?_
      refine w_icmp_ge C 70 dX1_writeEntry_42 rfl (by omega) (fun c_1 => ?_) (fun c_1 => ?_)
      · exact w_retv hret dX1_writeEntry_70 rfl rfl rfl ⟨rfl, (by unfold we; rw [h2, show j = n by omega])⟩
      · refine w_aload_n C 0 dX1_writeEntry_45 rfl ?_
        refine w_get C 0 0 136 dX1_writeEntry_46 rfl rfl inX1 (by decide) (by decide +kernel) rfl ?_
        refine w_iload_n C 1 dX1_writeEntry_49 rfl ?_
        refine w_iconst C dX1_writeEntry_50 ?_
        refine w_iadd C dX1_writeEntry_51 ?_
        refine w_iload C 4 dX1_writeEntry_52 rfl ?_
        refine w_iadd C dX1_writeEntry_54 ?_
        refine w_aload_n C 3 dX1_writeEntry_55 rfl ?_
        refine w_iload C 4 dX1_writeEntry_56 rfl ?_
        refine w_callV (As := [.int (iI j)]) (rest := [.int (iI ((p + 2) + j)), .ref g]) (w2 := [(h, .inr (1, [.ref g, .ref o, .ref m])), (o, .inr (4, [.ref g, .long tk])), (g, .inr (2, [.ref b])), (b, .inl (gI G, 4096, .inl (arI x))), (v, .inr (5, [.ref vb, .int (iI n)])), (vb, .inl (gI G, 14, .inl (arI nb)))]) (st2 := [.int (iI (nm_at nb n j)), .int (iI ((p + 2) + j)), .ref g]) C (ct_X6_at G (kl k) v vb nb n j (by omega) (by omega)) gX1_60 dX1_writeEntry_58 4 rfl rfl rfl rfl rfl (Nat.le_of_ble_eq_true rfl) (by decide) [4, 5] rfl (by decide) [v, vb] rfl rfl rfl rfl ?_
        have f_2 := nm_at_rg nb n j
        refine w_callV (As := [.int (iI ((p + 2) + j)), .int (iI (nm_at nb n j))]) (rest := []) (w2 := [(h, .inr (1, [.ref g, .ref o, .ref m])), (o, .inr (4, [.ref g, .long tk])), (g, .inr (2, [.ref b])), (b, .inl (gI G, 4096, .inl (arI (im_set x ((p + 2) + j) (nm_at nb n j))))), (v, .inr (5, [.ref vb, .int (iI n)])), (vb, .inl (gI G, 14, .inl (arI nb)))]) (st2 := []) C (ct_X2_set G (kl k) g b x ((p + 2) + j) (nm_at nb n j) (by omega)) gX1_65 dX1_writeEntry_61 2 rfl rfl rfl rfl rfl (Nat.le_of_ble_eq_true rfl) (by decide) [2, 3] rfl (by decide) [g, b] rfl rfl rfl rfl ?_
        refine w_iinc (lv2 := [(0, .ref h), (1, .int (iI p)), (2, .int (iI i)), (3, .ref v), (4, .int (iI (j + 1)))]) C 4 dX1_writeEntry_64 rfl (by decide) rfl ?_
        refine w_goto C 36 dX1_writeEntry_67 rfl ?_
        refine w_ord (ws2 := [(h, .inr (1, [.ref g, .ref o, .ref m])), (o, .inr (4, [.ref g, .long tk])), (g, .inr (2, [.ref b])), (b, .inl (gI G, 4096, .inl (arI ((im_set x ((p + 2) + j) (nm_at nb n j)))))), (v, .inr (5, [.ref vb, .int (iI n)])), (vb, .inl (gI G, 14, .inl (arI nb)))]) [0, 1, 2, 3, 4, 5] rfl (by decide) ?_
        refine w_lv (lv2 := [(0, .ref h), (1, .int (iI p)), (2, .int (iI i)), (3, .ref v), (4, .int (iI ((j + 1))))]) [0, 1, 2, 3, 4] rfl ?_
        exact ih_36 _ (by omega) (j + 1) (im_set x ((p + 2) + j) (nm_at nb n j)) (by omega) (by rw [h2, show (j + 1).toNat = j.toNat + 1 by omega, wek, show ((j.toNat : Nat) : Int) = j by omega]) rfl
  exact L_36 _ 0 (im_set (im_set (im_wipe d p 16) p i) (p + 1) n) (by omega) rfl rfl

set_option maxHeartbeats 4000000 in
set_option maxRecDepth 100000 in
theorem ct_X1_wipeEntry (G : GX) (l : Launch) (h : Nat) (o : Nat) (g : Nat) (b : Nat) (m : Nat) (tk : Int64) (d : Im) (p : Int) (hp : -1 ≤ p ∧ p < 5000) : Ct G l yX1_wipeEntry cX1_wipeEntry 2 none rmX1_wipeEntry [.ref h, .int (iI p)] [(h, .inr (1, [.ref g, .ref o, .ref m])), (o, .inr (4, [.ref g, .long tk])), (g, .inr (2, [.ref b])), (b, .inl (gI G, 4096, .inl (arI d)))] none [(h, .inr (1, [.ref g, .ref o, .ref m])), (o, .inr (4, [.ref g, .long tk])), (g, .inr (2, [.ref b])), (b, .inl (gI G, 4096, .inl (arI (im_wipe d p 16))))] := by
  refine Ct.of (by decide) (Nat.le_of_ble_eq_true rfl) ?_
  intro k C hl hret
  subst hl
  refine w_lv (lv2 := [(0, .ref h), (1, .int (iI p))]) [0, 1] rfl ?_
  refine w_aload_n C 0 dX1_wipeEntry_0 rfl ?_
  refine w_get C 0 0 136 dX1_wipeEntry_1 rfl rfl inX1 (by decide) (by decide +kernel) rfl ?_
  refine w_iload_n C 1 dX1_wipeEntry_4 rfl ?_
  refine w_bipush C dX1_wipeEntry_5 (by decide) ?_
  refine w_callV (As := [.int (iI p), .int (iI 16)]) (rest := []) (w2 := [(h, .inr (1, [.ref g, .ref o, .ref m])), (o, .inr (4, [.ref g, .long tk])), (g, .inr (2, [.ref b])), (b, .inl (gI G, 4096, .inl (arI (im_wipe d p 16))))]) (st2 := []) C (ct_X2_wipe G (kl k) g b d p 16 (by omega) (by omega)) gX1_61 dX1_wipeEntry_7 2 rfl rfl rfl rfl rfl (Nat.le_of_ble_eq_true rfl) (by decide) [2, 3] rfl (by decide) [g, b] rfl rfl rfl rfl ?_
  exact w_retv hret dX1_wipeEntry_10 rfl rfl rfl ⟨rfl, rfl⟩

theorem gX1_70 : cwv RX1 70 yX6_spell cX6_spell 3 none 1 525 526 527 69 528 := by decide +kernel
theorem gX1_74 : cwv RX1 74 yX1_writeEntry cX1_writeEntry 5 none 3 540 541 542 68 543 := by decide +kernel
set_option maxHeartbeats 4000000 in
set_option maxRecDepth 100000 in
theorem ct_X1_writeDots (G : GX) (l : Launch) (h : Nat) (o : Nat) (g : Nat) (b : Nat) (m : Nat) (tk : Int64) (d : Im) (mb : Nat) (nb : Im) (n : Int) (i : Int) (p : Int) (hi : -2147483648 ≤ i ∧ i < 2147483648) : Ct G l yX1_writeDots cX1_writeDots 3 none rmX1_writeDots [.ref h, .int (iI i), .int (iI p)] [(h, .inr (1, [.ref g, .ref o, .ref m])), (o, .inr (4, [.ref g, .long tk])), (g, .inr (2, [.ref b])), (b, .inl (gI G, 4096, .inl (arI d))), (m, .inr (5, [.ref mb, .int (iI n)])), (mb, .inl (gI G, 14, .inl (arI nb)))] none [(h, .inr (1, [.ref g, .ref o, .ref m])), (o, .inr (4, [.ref g, .long tk])), (g, .inr (2, [.ref b])), (b, .inl (gI G, 4096, .inl (arI (dtD d nb i p)))), (m, .inr (5, [.ref mb, .int (iI (tn 3))])), (mb, .inl (gI G, 14, .inl (arI (dtN nb))))] := by
  refine Ct.of (by decide) (Nat.le_of_ble_eq_true rfl) ?_
  intro k C hl hret
  subst hl
  refine w_lv (lv2 := [(0, .ref h), (1, .int (iI i)), (2, .int (iI p))]) [0, 1, 2] rfl ?_
  refine w_aload_n C 0 dX1_writeDots_0 rfl ?_
  refine w_get C 0 2 138 dX1_writeDots_1 rfl rfl inX1 (by decide) (by decide +kernel) rfl ?_
  refine w_ldcS C dX1_writeDots_4 C.2.2.2.2.2.2.2.1.2.2.2.2.2.1 ?_
  refine w_callV (As := [.ref (gK G 2)]) (rest := []) (w2 := [(h, .inr (1, [.ref g, .ref o, .ref m])), (o, .inr (4, [.ref g, .long tk])), (g, .inr (2, [.ref b])), (b, .inl (gI G, 4096, .inl (arI d))), (m, .inr (5, [.ref mb, .int (iI (tn 2))])), (mb, .inl (gI G, 14, .inl (arI (nm_sp nb 2 (tn 2).toNat))))]) (st2 := []) C (ct_X6_spell G (kl k) m mb nb n 2 (by decide)) gX1_70 dX1_writeDots_6 4 rfl rfl rfl rfl rfl (Nat.le_of_ble_eq_true rfl) (by decide) [4, 5] rfl (by decide) [m, mb] rfl rfl rfl rfl ?_
  refine w_aload_n C 0 dX1_writeDots_9 rfl ?_
  refine w_aload_n C 0 dX1_writeDots_10 rfl ?_
  refine w_iload_n C 1 dX1_writeDots_11 rfl ?_
  refine w_iconst C dX1_writeDots_12 ?_
  refine w_callV (As := [.int (iI i), .int (iI 0)]) (rest := [.ref h]) (w2 := [(h, .inr (1, [.ref g, .ref o, .ref m])), (o, .inr (4, [.ref g, .long tk])), (g, .inr (2, [.ref b])), (b, .inl (gI G, 4096, .inl (arI d))), (m, .inr (5, [.ref mb, .int (iI (tn 2))])), (mb, .inl (gI G, 14, .inl (arI (nm_sp nb 2 (tn 2).toNat))))]) (st2 := [.int (iI (ep d i 0)), .ref h]) C (ct_X1_entryPlace G (kl k) h o g b m tk d i 0 (by omega) (by omega)) gX1_48 dX1_writeDots_13 0 rfl rfl rfl rfl rfl (Nat.le_of_ble_eq_true rfl) (by decide) [0, 1, 2, 3] rfl (by decide) [h, o, g, b] rfl rfl rfl rfl ?_
  have f_1 := ep_rg d i 0
  refine w_iload_n C 1 dX1_writeDots_16 rfl ?_
  refine w_aload_n C 0 dX1_writeDots_17 rfl ?_
  refine w_get C 0 2 138 dX1_writeDots_18 rfl rfl inX1 (by decide) (by decide +kernel) rfl ?_
  refine w_callV (As := [.int (iI (ep d i 0)), .int (iI i), .ref m]) (rest := []) (w2 := [(h, .inr (1, [.ref g, .ref o, .ref m])), (o, .inr (4, [.ref g, .long tk])), (g, .inr (2, [.ref b])), (b, .inl (gI G, 4096, .inl (arI (we d (ep d i 0) i (nm_sp nb 2 (tn 2).toNat) (tn 2))))), (m, .inr (5, [.ref mb, .int (iI ((tn 2)))])), (mb, .inl (gI G, 14, .inl (arI ((nm_sp nb 2 (tn 2).toNat)))))]) (st2 := []) C (ct_X1_writeEntry G (kl k) h o g b m tk d m mb (nm_sp nb 2 (tn 2).toNat) (tn 2) (ep d i 0) i (by have := tn_rg 2 (by decide); have := tn_rg 3 (by decide); have := tn_rg 4 (by decide); omega) (by omega)) gX1_74 dX1_writeDots_21 0 rfl rfl rfl rfl rfl (Nat.le_of_ble_eq_true rfl) (by decide) [0, 1, 2, 3, 4, 5] rfl (by decide) [h, o, g, b, m, mb] rfl rfl rfl rfl ?_
  refine w_aload_n C 0 dX1_writeDots_24 rfl ?_
  refine w_get C 0 2 138 dX1_writeDots_25 rfl rfl inX1 (by decide) (by decide +kernel) rfl ?_
  refine w_ldcS C dX1_writeDots_28 C.2.2.2.2.2.2.2.1.2.2.2.2.2.2.1 ?_
  refine w_callV (As := [.ref (gK G 3)]) (rest := []) (w2 := [(h, .inr (1, [.ref g, .ref o, .ref m])), (o, .inr (4, [.ref g, .long tk])), (g, .inr (2, [.ref b])), (b, .inl (gI G, 4096, .inl (arI (we d (ep d i 0) i (nm_sp nb 2 (tn 2).toNat) (tn 2))))), (m, .inr (5, [.ref mb, .int (iI (tn 3))])), (mb, .inl (gI G, 14, .inl (arI (nm_sp ((nm_sp nb 2 (tn 2).toNat)) 3 (tn 3).toNat))))]) (st2 := []) C (ct_X6_spell G (kl k) m mb ((nm_sp nb 2 (tn 2).toNat)) ((tn 2)) 3 (by decide)) gX1_70 dX1_writeDots_30 4 rfl rfl rfl rfl rfl (Nat.le_of_ble_eq_true rfl) (by decide) [4, 5] rfl (by decide) [m, mb] rfl rfl rfl rfl ?_
  refine w_aload_n C 0 dX1_writeDots_33 rfl ?_
  refine w_aload_n C 0 dX1_writeDots_34 rfl ?_
  refine w_iload_n C 1 dX1_writeDots_35 rfl ?_
  refine w_iconst C dX1_writeDots_36 ?_
  refine w_callV (As := [.int (iI i), .int (iI 1)]) (rest := [.ref h]) (w2 := [(h, .inr (1, [.ref g, .ref o, .ref m])), (o, .inr (4, [.ref g, .long tk])), (g, .inr (2, [.ref b])), (b, .inl (gI G, 4096, .inl (arI ((we d (ep d i 0) i (nm_sp nb 2 (tn 2).toNat) (tn 2)))))), (m, .inr (5, [.ref mb, .int (iI (tn 3))])), (mb, .inl (gI G, 14, .inl (arI (nm_sp ((nm_sp nb 2 (tn 2).toNat)) 3 (tn 3).toNat))))]) (st2 := [.int (iI (ep (we d (ep d i 0) i (nm_sp nb 2 (tn 2).toNat) (tn 2)) i 1)), .ref h]) C (ct_X1_entryPlace G (kl k) h o g b m tk (we d (ep d i 0) i (nm_sp nb 2 (tn 2).toNat) (tn 2)) i 1 (by omega) (by omega)) gX1_48 dX1_writeDots_37 0 rfl rfl rfl rfl rfl (Nat.le_of_ble_eq_true rfl) (by decide) [0, 1, 2, 3] rfl (by decide) [h, o, g, b] rfl rfl rfl rfl ?_
  have f_2 := ep_rg (we d (ep d i 0) i (nm_sp nb 2 (tn 2).toNat) (tn 2)) i 1
  refine w_iload_n C 2 dX1_writeDots_40 rfl ?_
  refine w_aload_n C 0 dX1_writeDots_41 rfl ?_
  refine w_get C 0 2 138 dX1_writeDots_42 rfl rfl inX1 (by decide) (by decide +kernel) rfl ?_
  refine w_callV (As := [.int (iI (ep (we d (ep d i 0) i (nm_sp nb 2 (tn 2).toNat) (tn 2)) i 1)), .int (iI p), .ref m]) (rest := []) (w2 := [(h, .inr (1, [.ref g, .ref o, .ref m])), (o, .inr (4, [.ref g, .long tk])), (g, .inr (2, [.ref b])), (b, .inl (gI G, 4096, .inl (arI (we ((we d (ep d i 0) i (nm_sp nb 2 (tn 2).toNat) (tn 2))) (ep (we d (ep d i 0) i (nm_sp nb 2 (tn 2).toNat) (tn 2)) i 1) p (nm_sp ((nm_sp nb 2 (tn 2).toNat)) 3 (tn 3).toNat) (tn 3))))), (m, .inr (5, [.ref mb, .int (iI ((tn 3)))])), (mb, .inl (gI G, 14, .inl (arI ((nm_sp ((nm_sp nb 2 (tn 2).toNat)) 3 (tn 3).toNat)))))]) (st2 := []) C (ct_X1_writeEntry G (kl k) h o g b m tk ((we d (ep d i 0) i (nm_sp nb 2 (tn 2).toNat) (tn 2))) m mb (nm_sp ((nm_sp nb 2 (tn 2).toNat)) 3 (tn 3).toNat) (tn 3) (ep (we d (ep d i 0) i (nm_sp nb 2 (tn 2).toNat) (tn 2)) i 1) p (by have := tn_rg 2 (by decide); have := tn_rg 3 (by decide); have := tn_rg 4 (by decide); omega) (by omega)) gX1_74 dX1_writeDots_45 0 rfl rfl rfl rfl rfl (Nat.le_of_ble_eq_true rfl) (by decide) [0, 1, 2, 3, 4, 5] rfl (by decide) [h, o, g, b, m, mb] rfl rfl rfl rfl ?_
  exact w_retv hret dX1_writeDots_48 rfl rfl rfl ⟨rfl, rfl⟩

theorem gX1_80 : cwv RX1 80 yX4_kind cX4_kind 2 (some .int) 1 560 424 425 67 426 := by decide +kernel
set_option maxHeartbeats 4000000 in
set_option maxRecDepth 100000 in
theorem ct_X1_setParent (G : GX) (l : Launch) (h : Nat) (o : Nat) (g : Nat) (b : Nat) (m : Nat) (tk : Int64) (d : Im) (i : Int) (p : Int) (hi : -2147483648 ≤ i ∧ i < 2147483648) : Ct G l yX1_setParent cX1_setParent 3 none rmX1_setParent [.ref h, .int (iI i), .int (iI p)] [(h, .inr (1, [.ref g, .ref o, .ref m])), (o, .inr (4, [.ref g, .long tk])), (g, .inr (2, [.ref b])), (b, .inl (gI G, 4096, .inl (arI d)))] none [(h, .inr (1, [.ref g, .ref o, .ref m])), (o, .inr (4, [.ref g, .long tk])), (g, .inr (2, [.ref b])), (b, .inl (gI G, 4096, .inl (arI (spd d i p))))] := by
  refine Ct.of (by decide) (Nat.le_of_ble_eq_true rfl) ?_
  intro k C hl hret
  subst hl
  refine w_lv (lv2 := [(0, .ref h), (1, .int (iI i)), (2, .int (iI p))]) [0, 1, 2] rfl ?_
  refine w_aload_n C 0 dX1_setParent_0 rfl ?_
  refine w_get C 0 1 137 dX1_setParent_1 rfl rfl inX1 (by decide) (by decide +kernel) rfl ?_
  refine w_iload_n C 1 dX1_setParent_4 rfl ?_
  refine w_callV (As := [.int (iI i)]) (rest := []) (w2 := [(h, .inr (1, [.ref g, .ref o, .ref m])), (o, .inr (4, [.ref g, .long tk])), (g, .inr (2, [.ref b])), (b, .inl (gI G, 4096, .inl (arI d)))]) (st2 := [.int (iI (kd d i))]) C (ct_X4_kind G (kl k) o g b tk d i (by omega)) gX1_80 dX1_setParent_5 1 rfl rfl rfl rfl rfl (Nat.le_of_ble_eq_true rfl) (by decide) [1, 2, 3] rfl (by decide) [o, g, b] rfl rfl rfl rfl ?_
  have f_1 := kd_rg d i
  refine w_iconst C dX1_setParent_8 ?_
  refine w_icmp_ne C 30 dX1_setParent_9 rfl (by omega) (fun c_2 => ?_) (fun c_2 => ?_)
  · exact w_retv hret dX1_setParent_30 rfl rfl rfl ⟨rfl, (by unfold spd; first | rw [if_pos (by omega)] | rw [if_neg (by omega)])⟩
  · refine w_aload_n C 0 dX1_setParent_12 rfl ?_
    refine w_get C 0 0 136 dX1_setParent_13 rfl rfl inX1 (by decide) (by decide +kernel) rfl ?_
    refine w_aload_n C 0 dX1_setParent_16 rfl ?_
    refine w_get C 0 1 137 dX1_setParent_17 rfl rfl inX1 (by decide) (by decide +kernel) rfl ?_
    refine w_iload_n C 1 dX1_setParent_20 rfl ?_
    refine w_bipush C dX1_setParent_21 (by decide) ?_
    refine w_callV (As := [.int (iI i), .int (iI 16)]) (rest := [.ref g]) (w2 := [(h, .inr (1, [.ref g, .ref o, .ref m])), (o, .inr (4, [.ref g, .long tk])), (g, .inr (2, [.ref b])), (b, .inl (gI G, 4096, .inl (arI d)))]) (st2 := [.int (iI (cp d i 16)), .ref g]) C (ct_X4_contentPlace G (kl k) o g b tk d i 16 (by omega) (by omega)) gX1_38 dX1_setParent_23 1 rfl rfl rfl rfl rfl (Nat.le_of_ble_eq_true rfl) (by decide) [1, 2, 3] rfl (by decide) [o, g, b] rfl rfl rfl rfl ?_
    have f_3 := cp_rg d i 16
    refine w_iload_n C 2 dX1_setParent_26 rfl ?_
    refine w_callV (As := [.int (iI (cp d i 16)), .int (iI p)]) (rest := []) (w2 := [(h, .inr (1, [.ref g, .ref o, .ref m])), (o, .inr (4, [.ref g, .long tk])), (g, .inr (2, [.ref b])), (b, .inl (gI G, 4096, .inl (arI (im_set d (cp d i 16) p))))]) (st2 := []) C (ct_X2_set G (kl k) g b d (cp d i 16) p (by omega)) gX1_65 dX1_setParent_27 2 rfl rfl rfl rfl rfl (Nat.le_of_ble_eq_true rfl) (by decide) [2, 3] rfl (by decide) [g, b] rfl rfl rfl rfl ?_
    exact w_retv hret dX1_setParent_30 rfl rfl rfl ⟨rfl, (by unfold spd; first | rw [if_pos (by omega)] | rw [if_neg (by omega)])⟩

set_option maxHeartbeats 4000000 in
set_option maxRecDepth 100000 in
theorem ct_X1_isEmpty (G : GX) (l : Launch) (h : Nat) (o : Nat) (g : Nat) (b : Nat) (m : Nat) (tk : Int64) (d : Im) (i : Int) (hi : -2147483648 ≤ i ∧ i < 2147483648) : Ct G l yX1_isEmpty cX1_isEmpty 4 (some .boolean) rmX1_isEmpty [.ref h, .int (iI i)] [(h, .inr (1, [.ref g, .ref o, .ref m])), (o, .inr (4, [.ref g, .long tk])), (g, .inr (2, [.ref b])), (b, .inl (gI G, 4096, .inl (arI d)))] (some (.int (iI (bI (emB d i))))) [(h, .inr (1, [.ref g, .ref o, .ref m])), (o, .inr (4, [.ref g, .long tk])), (g, .inr (2, [.ref b])), (b, .inl (gI G, 4096, .inl (arI d)))] := by
  refine Ct.of (by decide) (Nat.le_of_ble_eq_true rfl) ?_
  intro k C hl hret
  subst hl
  refine w_lv (lv2 := [(0, .ref h), (1, .int (iI i))]) [0, 1] rfl ?_
  refine w_aload_n C 0 dX1_isEmpty_0 rfl ?_
  refine w_iload_n C 1 dX1_isEmpty_1 rfl ?_
  refine w_callV (As := [.int (iI i)]) (rest := []) (w2 := [(h, .inr (1, [.ref g, .ref o, .ref m])), (o, .inr (4, [.ref g, .long tk])), (g, .inr (2, [.ref b])), (b, .inl (gI G, 4096, .inl (arI d)))]) (st2 := [.int (iI (ec d i))]) C (ct_X1_entryCount G (kl k) h o g b m tk d i (by omega)) gX1_45 dX1_isEmpty_2 0 rfl rfl rfl rfl rfl (Nat.le_of_ble_eq_true rfl) (by decide) [0, 1, 2, 3] rfl (by decide) [h, o, g, b] rfl rfl rfl rfl ?_
  have f_1 := ec_rg d i
  refine w_istore_n (lv2 := [(0, .ref h), (1, .int (iI i)), (2, .int (iI (ec d i)))]) C dX1_isEmpty_5 (by decide) rfl ?_
  refine w_iconst C dX1_isEmpty_6 ?_
  refine w_istore_n (lv2 := [(0, .ref h), (1, .int (iI i)), (2, .int (iI (ec d i))), (3, .int (iI 2))]) C dX1_isEmpty_7 (by decide) rfl ?_
  have L_8 : ∀ (nn_8 : Nat) (e : Int), (2 ≤ e ∧ e ≤ 184) → (emB d i = ems d i (ec d i - e).toNat e) → (ec d i - e).toNat = nn_8 → Wd G k 4 0 0 [(h, .inr (1, [.ref g, .ref o, .ref m])), (o, .inr (4, [.ref g, .long tk])), (g, .inr (2, [.ref b])), (b, .inl (gI G, 4096, .inl (arI d)))] 8 [(0, .ref h), (1, .int (iI i)), (2, .int (iI (ec d i))), (3, .int (iI e))] [] := by
    intro nn_8
    induction nn_8 using Nat.strongRecOn with
    | ind nn_8 ih_8 =>
      intro e h1 h2 hm_8
      have q9 := ec_rg d i
      refine w_iload_n C 3 dX1_isEmpty_8 rfl ?_
      refine w_iload_n C 2 dX1_isEmpty_9 rfl ?_
      refine w_icmp_ge C 37 dX1_isEmpty_10 rfl (by omega) (fun c_2 => ?_) (fun c_2 => ?_)
      · refine w_iconst C dX1_isEmpty_37 ?_
        exact w_reti hret dX1_isEmpty_38 rfl rfl rfl rfl ⟨congrArg (fun z => some (Value.int (iI z))) (by rw [h2, show (ec d i - e).toNat = 0 by omega, ems]; rfl), rfl⟩
      · refine w_aload_n C 0 dX1_isEmpty_13 rfl ?_
        refine w_get C 0 0 136 dX1_isEmpty_14 rfl rfl inX1 (by decide) (by decide +kernel) rfl ?_
        refine w_aload_n C 0 dX1_isEmpty_17 rfl ?_
        refine w_iload_n C 1 dX1_isEmpty_18 rfl ?_
        refine w_iload_n C 3 dX1_isEmpty_19 rfl ?_
        refine w_callV (As := [.int (iI i), .int (iI e)]) (rest := [.ref g]) (w2 := [(h, .inr (1, [.ref g, .ref o, .ref m])), (o, .inr (4, [.ref g, .long tk])), (g, .inr (2, [.ref b])), (b, .inl (gI G, 4096, .inl (arI d)))]) (st2 := [.int (iI (ep d i e)), .ref g]) C (ct_X1_entryPlace G (kl k) h o g b m tk d i e (by omega) (by omega)) gX1_48 dX1_isEmpty_20 0 rfl rfl rfl rfl rfl (Nat.le_of_ble_eq_true rfl) (by decide) [0, 1, 2, 3] rfl (by decide) [h, o, g, b] rfl rfl rfl rfl ?_
        have f_3 := ep_rg d i e
        refine w_callV (As := [.int (iI (ep d i e))]) (rest := []) (w2 := [(h, .inr (1, [.ref g, .ref o, .ref m])), (o, .inr (4, [.ref g, .long tk])), (g, .inr (2, [.ref b])), (b, .inl (gI G, 4096, .inl (arI d)))]) (st2 := [.int (iI (im_at d (ep d i e)))]) C (ct_X2_at G (kl k) g b d (ep d i e) (by omega)) gX1_55 dX1_isEmpty_23 2 rfl rfl rfl rfl rfl (Nat.le_of_ble_eq_true rfl) (by decide) [2, 3] rfl (by decide) [g, b] rfl rfl rfl rfl ?_
        have f_4 := im_at_rg d (ep d i e)
        refine w_if_eq C 31 dX1_isEmpty_26 rfl (by omega) (fun c_5 => ?_) (fun c_5 => ?_)
        · refine w_iinc (lv2 := [(0, .ref h), (1, .int (iI i)), (2, .int (iI (ec d i))), (3, .int (iI (e + 1)))]) C 3 dX1_isEmpty_31 rfl (by decide) rfl ?_
          refine w_goto C 8 dX1_isEmpty_34 rfl ?_
          refine w_lv (lv2 := [(0, .ref h), (1, .int (iI i)), (2, .int (iI (ec d i))), (3, .int (iI ((e + 1))))]) [0, 1, 2, 3] rfl ?_
          exact ih_8 _ (by omega) (e + 1) (by omega) (by rw [h2, show (ec d i - e).toNat = (ec d i - (e + 1)).toNat + 1 by omega, ems, if_pos (by assumption)]) rfl
        · refine w_iconst C dX1_isEmpty_29 ?_
          exact w_reti hret dX1_isEmpty_30 rfl rfl rfl rfl ⟨congrArg (fun z => some (Value.int (iI z))) (by rw [h2, show (ec d i - e).toNat = (ec d i - (e + 1)).toNat + 1 by omega, ems, if_neg (by assumption)]; rfl), rfl⟩
  exact L_8 _ 2 (by omega) rfl rfl

theorem gX1_86 : cwv RX1 86 yX4_addBlock cX4_addBlock 6 (some .int) 1 506 507 508 67 509 := by decide +kernel
theorem gX1_92 : cwv RX1 92 yX4_setSize cX4_setSize 3 none 2 515 516 517 67 518 := by decide +kernel
set_option maxHeartbeats 4000000 in
set_option maxRecDepth 100000 in
theorem ct_X1_roomIn (G : GX) (l : Launch) (h : Nat) (o : Nat) (g : Nat) (b : Nat) (m : Nat) (tk : Int64) (d : Im) (i : Int) (hi : 0 ≤ i ∧ i < 32) : Ct G l yX1_roomIn cX1_roomIn 5 (some .int) rmX1_roomIn [.ref h, .int (iI i)] [(h, .inr (1, [.ref g, .ref o, .ref m])), (o, .inr (4, [.ref g, .long tk])), (g, .inr (2, [.ref b])), (b, .inl (gI G, 4096, .inl (arI d)))] (some (.int (iI (rmR tk d i)))) [(h, .inr (1, [.ref g, .ref o, .ref m])), (o, .inr (4, [.ref g, .long (rmT tk d i)])), (g, .inr (2, [.ref b])), (b, .inl (gI G, 4096, .inl (arI (rmD tk d i))))] := by
  refine Ct.of (by decide) (Nat.le_of_ble_eq_true rfl) ?_
  intro k C hl hret
  subst hl
  refine w_lv (lv2 := [(0, .ref h), (1, .int (iI i))]) [0, 1] rfl ?_
  refine w_aload_n C 0 dX1_roomIn_0 rfl ?_
  refine w_iload_n C 1 dX1_roomIn_1 rfl ?_
  refine w_callV (As := [.int (iI i)]) (rest := []) (w2 := [(h, .inr (1, [.ref g, .ref o, .ref m])), (o, .inr (4, [.ref g, .long tk])), (g, .inr (2, [.ref b])), (b, .inl (gI G, 4096, .inl (arI d)))]) (st2 := [.int (iI (ec d i))]) C (ct_X1_entryCount G (kl k) h o g b m tk d i (by omega)) gX1_45 dX1_roomIn_2 0 rfl rfl rfl rfl rfl (Nat.le_of_ble_eq_true rfl) (by decide) [0, 1, 2, 3] rfl (by decide) [h, o, g, b] rfl rfl rfl rfl ?_
  have f_1 := ec_rg d i
  refine w_istore_n (lv2 := [(0, .ref h), (1, .int (iI i)), (2, .int (iI (ec d i)))]) C dX1_roomIn_5 (by decide) rfl ?_
  refine w_iconst C dX1_roomIn_6 ?_
  refine w_istore_n (lv2 := [(0, .ref h), (1, .int (iI i)), (2, .int (iI (ec d i))), (3, .int (iI 2))]) C dX1_roomIn_7 (by decide) rfl ?_
  have L_8 : ∀ (nn_8 : Nat) (e : Int), (2 ≤ e ∧ e ≤ 184) → (rmF d i = rms d i (ec d i - e).toNat e) → (ec d i - e).toNat = nn_8 → Wd G k 5 0 0 [(h, .inr (1, [.ref g, .ref o, .ref m])), (o, .inr (4, [.ref g, .long tk])), (g, .inr (2, [.ref b])), (b, .inl (gI G, 4096, .inl (arI d)))] 8 [(0, .ref h), (1, .int (iI i)), (2, .int (iI (ec d i))), (3, .int (iI e))] [] := by
    intro nn_8
    induction nn_8 using Nat.strongRecOn with
    | ind nn_8 ih_8 =>
      intro e h1 h2 hm_8
      have q9 := ec_rg d i
      refine w_iload_n C 3 dX1_roomIn_8 rfl ?_
      refine w_iload_n C 2 dX1_roomIn_9 rfl ?_
      refine w_icmp_ge C 42 dX1_roomIn_10 rfl (by omega) (fun c_2 => ?_) (fun c_2 => ?_)
      · have h4 : rmF d i = -2 := by rw [h2, show (ec d i - e).toNat = 0 by omega, rms]
        refine w_aload_n C 0 dX1_roomIn_42 rfl ?_
        refine w_get C 0 1 137 dX1_roomIn_43 rfl rfl inX1 (by decide) (by decide +kernel) rfl ?_
        refine w_iload_n C 1 dX1_roomIn_46 rfl ?_
        refine w_callV (As := [.int (iI i)]) (rest := []) (w2 := [(h, .inr (1, [.ref g, .ref o, .ref m])), (o, .inr (4, [.ref g, .long (abT tk d i)])), (g, .inr (2, [.ref b])), (b, .inl (gI G, 4096, .inl (arI (abD tk d i))))]) (st2 := [.int (iI (abR tk d i))]) C (ct_X4_addBlock G (kl k) o g b tk d i (by omega)) gX1_86 dX1_roomIn_47 1 rfl rfl rfl rfl rfl (Nat.le_of_ble_eq_true rfl) (by decide) [1, 2, 3] rfl (by decide) [o, g, b] rfl rfl rfl rfl ?_
        have f_3 := abR_rg tk d i
        refine w_istore_n (lv2 := [(0, .ref h), (1, .int (iI i)), (2, .int (iI (ec d i))), (3, .int (iI (abR tk d i)))]) C dX1_roomIn_50 (by decide) rfl ?_
        refine w_iload_n C 3 dX1_roomIn_51 rfl ?_
        refine w_iconst C dX1_roomIn_52 ?_
        refine w_icmp_ne C 58 dX1_roomIn_53 rfl (by omega) (fun c_4 => ?_) (fun c_4 => ?_)
        · refine w_aload_n C 0 dX1_roomIn_58 rfl ?_
          refine w_get C 0 1 137 dX1_roomIn_59 rfl rfl inX1 (by decide) (by decide +kernel) rfl ?_
          refine w_iload_n C 1 dX1_roomIn_62 rfl ?_
          refine w_aload_n C 0 dX1_roomIn_63 rfl ?_
          refine w_get C 0 1 137 dX1_roomIn_64 rfl rfl inX1 (by decide) (by decide +kernel) rfl ?_
          refine w_iload_n C 1 dX1_roomIn_67 rfl ?_
          refine w_callV (As := [.int (iI i)]) (rest := [.int (iI i), .ref o]) (w2 := [(h, .inr (1, [.ref g, .ref o, .ref m])), (o, .inr (4, [.ref g, .long ((abT tk d i))])), (g, .inr (2, [.ref b])), (b, .inl (gI G, 4096, .inl (arI ((abD tk d i)))))]) (st2 := [.int (iI (sz (abD tk d i) i)), .int (iI i), .ref o]) C (ct_X4_size G (kl k) o g b (abT tk d i) (abD tk d i) i (by omega)) gX1_26 dX1_roomIn_68 1 rfl rfl rfl rfl rfl (Nat.le_of_ble_eq_true rfl) (by decide) [1, 2, 3] rfl (by decide) [o, g, b] rfl rfl rfl rfl ?_
          have f_5 := sz_rg (abD tk d i) i
          refine w_bipush C dX1_roomIn_71 (by decide) ?_
          refine w_iadd C dX1_roomIn_73 ?_
          refine w_callV (As := [.int (iI i), .int (iI ((sz (abD tk d i) i) + 64))]) (rest := []) (w2 := [(h, .inr (1, [.ref g, .ref o, .ref m])), (o, .inr (4, [.ref g, .long (((abT tk d i)))])), (g, .inr (2, [.ref b])), (b, .inl (gI G, 4096, .inl (arI (im_put ((abD tk d i)) (512 + i * 16 + 2) ((sz (abD tk d i) i) + 64)))))]) (st2 := []) C (ct_X4_setSize G (kl k) o g b ((abT tk d i)) ((abD tk d i)) i ((sz (abD tk d i) i) + 64) (by omega) (by omega)) gX1_92 dX1_roomIn_74 1 rfl rfl rfl rfl rfl (Nat.le_of_ble_eq_true rfl) (by decide) [1, 2, 3] rfl (by decide) [o, g, b] rfl rfl rfl rfl ?_
          refine w_iload_n C 3 dX1_roomIn_77 rfl ?_
          refine w_bipush C dX1_roomIn_78 (by decide) ?_
          refine w_imul C dX1_roomIn_80 ?_
          exact w_reti hret dX1_roomIn_81 rfl rfl rfl rfl ⟨congrArg (fun z => some (Value.int (iI z))) (by unfold rmR; rw [if_pos h4, if_neg (by assumption)]), (by unfold rmT rmD; rw [if_pos h4, if_pos h4, if_neg (by assumption)])⟩
        · refine w_iconst C dX1_roomIn_56 ?_
          exact w_reti hret dX1_roomIn_57 rfl rfl rfl rfl ⟨congrArg (fun z => some (Value.int (iI z))) (by unfold rmR; rw [if_pos h4, if_pos (by assumption)]), (by unfold rmT rmD; rw [if_pos h4, if_pos h4, if_pos (by assumption)])⟩
      · refine w_aload_n C 0 dX1_roomIn_13 rfl ?_
        refine w_iload_n C 1 dX1_roomIn_14 rfl ?_
        refine w_iload_n C 3 dX1_roomIn_15 rfl ?_
        refine w_callV (As := [.int (iI i), .int (iI e)]) (rest := []) (w2 := [(h, .inr (1, [.ref g, .ref o, .ref m])), (o, .inr (4, [.ref g, .long tk])), (g, .inr (2, [.ref b])), (b, .inl (gI G, 4096, .inl (arI d)))]) (st2 := [.int (iI (ep d i e))]) C (ct_X1_entryPlace G (kl k) h o g b m tk d i e (by omega) (by omega)) gX1_48 dX1_roomIn_16 0 rfl rfl rfl rfl rfl (Nat.le_of_ble_eq_true rfl) (by decide) [0, 1, 2, 3] rfl (by decide) [h, o, g, b] rfl rfl rfl rfl ?_
        have f_6 := ep_rg d i e
        refine w_istore (lv2 := [(0, .ref h), (1, .int (iI i)), (2, .int (iI (ec d i))), (3, .int (iI e)), (4, .int (iI (ep d i e)))]) C dX1_roomIn_19 (by decide) rfl ?_
        refine w_aload_n C 0 dX1_roomIn_21 rfl ?_
        refine w_get C 0 0 136 dX1_roomIn_22 rfl rfl inX1 (by decide) (by decide +kernel) rfl ?_
        refine w_iload C 4 dX1_roomIn_25 rfl ?_
        refine w_callV (As := [.int (iI (ep d i e))]) (rest := []) (w2 := [(h, .inr (1, [.ref g, .ref o, .ref m])), (o, .inr (4, [.ref g, .long tk])), (g, .inr (2, [.ref b])), (b, .inl (gI G, 4096, .inl (arI d)))]) (st2 := [.int (iI (im_at d (ep d i e)))]) C (ct_X2_at G (kl k) g b d (ep d i e) (by omega)) gX1_55 dX1_roomIn_27 2 rfl rfl rfl rfl rfl (Nat.le_of_ble_eq_true rfl) (by decide) [2, 3] rfl (by decide) [g, b] rfl rfl rfl rfl ?_
        have f_7 := im_at_rg d (ep d i e)
        refine w_if_ne C 36 dX1_roomIn_30 rfl (by omega) (fun c_8 => ?_) (fun c_8 => ?_)
        · refine w_iinc (lv2 := [(0, .ref h), (1, .int (iI i)), (2, .int (iI (ec d i))), (3, .int (iI (e + 1))), (4, .int (iI (ep d i e)))]) C 3 dX1_roomIn_36 rfl (by decide) rfl ?_
          refine w_goto C 8 dX1_roomIn_39 rfl ?_
          refine w_lv (lv2 := [(0, .ref h), (1, .int (iI i)), (2, .int (iI (ec d i))), (3, .int (iI ((e + 1))))]) [0, 1, 2, 3] rfl ?_
          exact ih_8 _ (by omega) (e + 1) (by omega) (by rw [h2, show (ec d i - e).toNat = (ec d i - (e + 1)).toNat + 1 by omega, rms, if_neg (by assumption)]) rfl
        · have h4 : rmF d i = ep d i e := by rw [h2, show (ec d i - e).toNat = (ec d i - (e + 1)).toNat + 1 by omega, rms, if_pos (by assumption)]
          refine w_iload C 4 dX1_roomIn_33 rfl ?_
          exact w_reti hret dX1_roomIn_35 rfl rfl rfl rfl ⟨congrArg (fun z => some (Value.int (iI z))) (by unfold rmR; rw [if_neg (by omega), h4]), (by unfold rmT rmD; rw [if_neg (by omega), if_neg (by omega)])⟩
  exact L_8 _ 2 (by omega) rfl rfl
