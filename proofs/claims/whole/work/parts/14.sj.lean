theorem gX6_38 : cwv RX6 38 yX6_at cX6_at 2 (some .int) 1 583 551 552 69 553 := by decide +kernel
set_option maxHeartbeats 4000000 in
set_option maxRecDepth 100000 in
theorem ct_X6_isAllowed (G : GX) (l : Launch) (h : Nat) (b : Nat) (nb : Im) (n : Int) (hn : 0 ≤ n ∧ n ≤ 14) : Ct G l yX6_isAllowed cX6_isAllowed 4 (some .boolean) rmX6_isAllowed [.ref h] [(h, .inr (5, [.ref b, .int (iI n)])), (b, .inl (gI G, 14, .inl (arI nb)))] (some (.int (iI (bI (nm_ok nb n))))) [(h, .inr (5, [.ref b, .int (iI n)])), (b, .inl (gI G, 14, .inl (arI nb)))] := by
  refine Ct.of (by decide) (Nat.le_of_ble_eq_true rfl) ?_
  intro k C hl hret
  subst hl
  refine w_lv (lv2 := [(0, .ref h)]) [0] rfl ?_
  refine w_iconst C dX6_isAllowed_0 ?_
  refine w_istore_n (lv2 := [(0, .ref h), (1, .int (iI 0))]) C dX6_isAllowed_1 (by decide) rfl ?_
  refine w_iconst C dX6_isAllowed_2 ?_
  refine w_istore_n (lv2 := [(0, .ref h), (1, .int (iI 0)), (2, .int (iI 0))]) C dX6_isAllowed_3 (by decide) rfl ?_
  have L_4 : ∀ (nn_4 : Nat) (i : Int) (s : Int), (0 ≤ i ∧ i ≤ n) → (s = nm_dots nb i.toNat ∧ 0 ≤ s ∧ s ≤ i) → (∀ j : Int, 0 ≤ j → j < i → nb.1 j ≠ 0 ∧ nb.1 j ≠ 47) → (n - i).toNat = nn_4 → Wd G k 4 0 0 [(h, .inr (5, [.ref b, .int (iI n)])), (b, .inl (gI G, 14, .inl (arI nb)))] 4 [(0, .ref h), (1, .int (iI s)), (2, .int (iI i))] [] := by
    intro nn_4
    induction nn_4 using Nat.strongRecOn with
    | ind nn_4 ih_4 =>
      intro i s h1 h2 h3 hm_4
      refine w_iload_n C 2 dX6_isAllowed_4 rfl ?_
      refine w_aload_n C 0 dX6_isAllowed_5 rfl ?_
      refine w_get C 0 1 130 dX6_isAllowed_6 rfl rfl inX6 (by decide) (by decide +kernel) rfl ?_
      refine w_icmp_ge C 45 dX6_isAllowed_9 rfl (by omega) (fun c_1 => ?_) (fun c_1 => ?_)
      · refine w_aload_n C 0 dX6_isAllowed_45 rfl ?_
        refine w_get C 0 1 130 dX6_isAllowed_46 rfl rfl inX6 (by decide) (by decide +kernel) rfl ?_
        refine w_iconst C dX6_isAllowed_49 ?_
        refine w_icmp_gt C 61 dX6_isAllowed_50 rfl (by omega) (fun c_2 => ?_) (fun c_2 => ?_)
        · refine w_iconst C dX6_isAllowed_61 ?_
          refine w_goto C 66 dX6_isAllowed_62 rfl ?_
          exact w_reti hret dX6_isAllowed_66 rfl rfl rfl rfl ⟨congrArg (fun z => some (Value.int (iI z))) (by unfold nm_ok; rw [(nm_good_iff nb n.toNat).mpr (fun j a b => h3 j a (by omega)), ← show i = n by omega, ← h2.1]; first | rw [decide_eq_true (by omega)]; rfl | rw [decide_eq_false (by omega)]; rfl), rfl⟩
        · refine w_iload_n C 1 dX6_isAllowed_53 rfl ?_
          refine w_aload_n C 0 dX6_isAllowed_54 rfl ?_
          refine w_get C 0 1 130 dX6_isAllowed_55 rfl rfl inX6 (by decide) (by decide +kernel) rfl ?_
          refine w_icmp_ge C 65 dX6_isAllowed_58 rfl (by omega) (fun c_3 => ?_) (fun c_3 => ?_)
          · refine w_iconst C dX6_isAllowed_65 ?_
            exact w_reti hret dX6_isAllowed_66 rfl rfl rfl rfl ⟨congrArg (fun z => some (Value.int (iI z))) (by unfold nm_ok; rw [(nm_good_iff nb n.toNat).mpr (fun j a b => h3 j a (by omega)), ← show i = n by omega, ← h2.1]; first | rw [decide_eq_true (by omega)]; rfl | rw [decide_eq_false (by omega)]; rfl), rfl⟩
          · refine w_iconst C dX6_isAllowed_61 ?_
            refine w_goto C 66 dX6_isAllowed_62 rfl ?_
            exact w_reti hret dX6_isAllowed_66 rfl rfl rfl rfl ⟨congrArg (fun z => some (Value.int (iI z))) (by unfold nm_ok; rw [(nm_good_iff nb n.toNat).mpr (fun j a b => h3 j a (by omega)), ← show i = n by omega, ← h2.1]; first | rw [decide_eq_true (by omega)]; rfl | rw [decide_eq_false (by omega)]; rfl), rfl⟩
      · refine w_aload_n C 0 dX6_isAllowed_12 rfl ?_
        refine w_iload_n C 2 dX6_isAllowed_13 rfl ?_
        refine w_callV (As := [.int (iI i)]) (rest := []) (w2 := [(h, .inr (5, [.ref b, .int (iI n)])), (b, .inl (gI G, 14, .inl (arI nb)))]) (st2 := [.int (iI (nm_at nb n i))]) C (ct_X6_at G (kl k) h b nb n i (by omega) (by omega)) gX6_38 dX6_isAllowed_14 0 rfl rfl rfl rfl rfl (Nat.le_of_ble_eq_true rfl) (by decide) [0, 1] rfl (by decide) [h, b] rfl rfl rfl rfl ?_
        have f_4 := nm_at_rg nb n i
        have hat : nm_at nb n i = nb.1 i := by unfold nm_at; rw [if_pos (by omega)]
        refine w_istore_n (lv2 := [(0, .ref h), (1, .int (iI s)), (2, .int (iI i)), (3, .int (iI (nm_at nb n i)))]) C dX6_isAllowed_17 (by decide) rfl ?_
        refine w_iload_n C 3 dX6_isAllowed_18 rfl ?_
        refine w_if_eq C 28 dX6_isAllowed_19 rfl (by omega) (fun c_5 => ?_) (fun c_5 => ?_)
        · refine w_iconst C dX6_isAllowed_28 ?_
          exact w_reti hret dX6_isAllowed_29 rfl rfl rfl rfl ⟨congrArg (fun z => some (Value.int (iI z))) (by rw [show nm_ok nb n = false from by unfold nm_ok; rw [show nm_good nb n.toNat = false from by cases z : nm_good nb n.toNat with | false => rfl | true => exact absurd ((nm_good_iff nb n.toNat).mp z i (by omega) (by omega)) (by omega)]; rfl]; rfl), rfl⟩
        · refine w_iload_n C 3 dX6_isAllowed_22 rfl ?_
          refine w_bipush C dX6_isAllowed_23 (by decide) ?_
          refine w_icmp_ne C 30 dX6_isAllowed_25 rfl (by omega) (fun c_6 => ?_) (fun c_6 => ?_)
          · refine w_iload_n C 3 dX6_isAllowed_30 rfl ?_
            refine w_bipush C dX6_isAllowed_31 (by decide) ?_
            refine w_icmp_ne C 39 dX6_isAllowed_33 rfl (by omega) (fun c_7 => ?_) (fun c_7 => ?_)
            · refine w_iinc (lv2 := [(0, .ref h), (1, .int (iI s)), (2, .int (iI (i + 1))), (3, .int (iI (nm_at nb n i)))]) C 2 dX6_isAllowed_39 rfl (by decide) rfl ?_
              refine w_goto C 4 dX6_isAllowed_42 rfl ?_
              refine w_lv (lv2 := [(0, .ref h), (1, .int (iI s)), (2, .int (iI ((i + 1))))]) [0, 1, 2] rfl ?_
              exact ih_4 _ (by omega) (i + 1) s (by omega) (by rw [show (i + 1).toNat = i.toNat + 1 by omega, nm_dots, show ((i.toNat : Nat) : Int) = i by omega]; rw [hat] at *; first | (rw [if_pos (by omega)]; omega) | (rw [if_neg (by omega)]; omega)) (fun j a b => if z : j = i then (by rw [z]; omega) else h3 j a (by omega)) rfl
            · refine w_iinc (lv2 := [(0, .ref h), (1, .int (iI (s + 1))), (2, .int (iI i)), (3, .int (iI (nm_at nb n i)))]) C 1 dX6_isAllowed_36 rfl (by decide) rfl ?_
              refine w_iinc (lv2 := [(0, .ref h), (1, .int (iI (s + 1))), (2, .int (iI (i + 1))), (3, .int (iI (nm_at nb n i)))]) C 2 dX6_isAllowed_39 rfl (by decide) rfl ?_
              refine w_goto C 4 dX6_isAllowed_42 rfl ?_
              refine w_lv (lv2 := [(0, .ref h), (1, .int (iI ((s + 1)))), (2, .int (iI ((i + 1))))]) [0, 1, 2] rfl ?_
              exact ih_4 _ (by omega) (i + 1) (s + 1) (by omega) (by rw [show (i + 1).toNat = i.toNat + 1 by omega, nm_dots, show ((i.toNat : Nat) : Int) = i by omega]; rw [hat] at *; first | (rw [if_pos (by omega)]; omega) | (rw [if_neg (by omega)]; omega)) (fun j a b => if z : j = i then (by rw [z]; omega) else h3 j a (by omega)) rfl
          · refine w_iconst C dX6_isAllowed_28 ?_
            exact w_reti hret dX6_isAllowed_29 rfl rfl rfl rfl ⟨congrArg (fun z => some (Value.int (iI z))) (by rw [show nm_ok nb n = false from by unfold nm_ok; rw [show nm_good nb n.toNat = false from by cases z : nm_good nb n.toNat with | false => rfl | true => exact absurd ((nm_good_iff nb n.toNat).mp z i (by omega) (by omega)) (by omega)]; rfl]; rfl), rfl⟩
  exact L_4 _ 0 0 (by omega) ⟨rfl, by omega, by omega⟩ (fun j a b => by omega) rfl

theorem gX8_13 : cwv RX8 13 yX2_hasText cX2_hasText 4 (some .boolean) 2 354 355 356 66 357 := by decide +kernel
theorem gX8_19 : cwv RX8 19 yX2_pairAt cX2_pairAt 2 (some .int) 1 362 363 364 66 365 := by decide +kernel
theorem gX8_23 : cwv RX8 23 yX2_sum cX2_sum 5 (some .int) 2 342 343 344 66 345 := by decide +kernel
set_option maxHeartbeats 4000000 in
set_option maxRecDepth 100000 in
theorem ct_X8_isGood (G : GX) (l : Launch) (h : Nat) (b : Nat) (d : Im) (q : Int) (hq : -10000 ≤ q ∧ q < 10000) : Ct G l yX8_isGood cX8_isGood 3 (some .boolean) rmX8_isGood [.ref h, .int (iI q)] [(h, .inr (2, [.ref b])), (b, .inl (gI G, 4096, .inl (arI d)))] (some (.int (iI (bI (su_ok d q))))) [(h, .inr (2, [.ref b])), (b, .inl (gI G, 4096, .inl (arI d)))] := by
  refine Ct.of (by decide) (Nat.le_of_ble_eq_true rfl) ?_
  intro k C hl hret
  subst hl
  refine w_lv (lv2 := [(0, .ref h), (1, .int (iI q))]) [0, 1] rfl ?_
  refine w_iload_n C 1 dX8_isGood_0 rfl ?_
  refine w_bipush C dX8_isGood_1 (by decide) ?_
  refine w_imul C dX8_isGood_3 ?_
  refine w_istore_n (lv2 := [(0, .ref h), (1, .int (iI q)), (2, .int (iI (q * 64)))]) C dX8_isGood_4 (by decide) rfl ?_
  refine w_aload_n C 0 dX8_isGood_5 rfl ?_
  refine w_iload_n C 2 dX8_isGood_6 rfl ?_
  refine w_ldcS C dX8_isGood_7 C.2.2.2.2.2.2.2.1.2.2.2.1 ?_
  refine w_callV (As := [.int (iI (q * 64)), .ref (gK G 0)]) (rest := []) (w2 := [(h, .inr (2, [.ref b])), (b, .inl (gI G, 4096, .inl (arI d)))]) (st2 := [.int (iI (bI (im_has d (q * 64) 0)))]) C (ct_X2_hasText G (kl k) h b d 0 (q * 64) (by omega) (by omega)) gX8_13 dX8_isGood_9 0 rfl rfl rfl rfl rfl (Nat.le_of_ble_eq_true rfl) (by decide) [0, 1] rfl (by decide) [h, b] rfl rfl rfl rfl ?_
  refine w_bz C 37 dX8_isGood_12 rfl (fun c_1 => ?_) (fun c_1 => ?_)
  · refine w_iconst C dX8_isGood_37 ?_
    exact w_reti hret dX8_isGood_38 rfl rfl rfl rfl ⟨congrArg (fun z => some (Value.int (iI z))) (by unfold su_ok; simp [bI, c_1]), rfl⟩
  · refine w_aload_n C 0 dX8_isGood_15 rfl ?_
    refine w_iload_n C 2 dX8_isGood_16 rfl ?_
    refine w_bipush C dX8_isGood_17 (by decide) ?_
    refine w_iadd C dX8_isGood_19 ?_
    refine w_callV (As := [.int (iI ((q * 64) + 62))]) (rest := []) (w2 := [(h, .inr (2, [.ref b])), (b, .inl (gI G, 4096, .inl (arI d)))]) (st2 := [.int (iI (im_two d ((q * 64) + 62)))]) C (ct_X2_pairAt G (kl k) h b d ((q * 64) + 62) (by omega)) gX8_19 dX8_isGood_20 0 rfl rfl rfl rfl rfl (Nat.le_of_ble_eq_true rfl) (by decide) [0, 1] rfl (by decide) [h, b] rfl rfl rfl rfl ?_
    have f_2 := im_two_rg d ((q * 64) + 62)
    refine w_aload_n C 0 dX8_isGood_23 rfl ?_
    refine w_iload_n C 2 dX8_isGood_24 rfl ?_
    refine w_bipush C dX8_isGood_25 (by decide) ?_
    refine w_callV (As := [.int (iI (q * 64)), .int (iI 62)]) (rest := [.int (iI (im_two d ((q * 64) + 62)))]) (w2 := [(h, .inr (2, [.ref b])), (b, .inl (gI G, 4096, .inl (arI d)))]) (st2 := [.int (iI (im_sum d (q * 64) 62)), .int (iI (im_two d ((q * 64) + 62)))]) C (ct_X2_sum G (kl k) h b d (q * 64) 62 (by omega) (by omega)) gX8_23 dX8_isGood_27 0 rfl rfl rfl rfl rfl (Nat.le_of_ble_eq_true rfl) (by decide) [0, 1] rfl (by decide) [h, b] rfl rfl rfl rfl ?_
    have f_3 := im_sum_rg d (q * 64) 62
    refine w_icmp_ne C 37 dX8_isGood_30 rfl (by omega) (fun c_4 => ?_) (fun c_4 => ?_)
    · refine w_iconst C dX8_isGood_37 ?_
      exact w_reti hret dX8_isGood_38 rfl rfl rfl rfl ⟨congrArg (fun z => some (Value.int (iI z))) (by unfold su_ok; simp [bI, c_1, c_4]), rfl⟩
    · refine w_iconst C dX8_isGood_33 ?_
      refine w_goto C 38 dX8_isGood_34 rfl ?_
      exact w_reti hret dX8_isGood_38 rfl rfl rfl rfl ⟨congrArg (fun z => some (Value.int (iI z))) (by unfold su_ok; simp [bI, c_1, c_4]), rfl⟩

theorem gX8_35 : cwv RX8 35 yX2_setPair cX2_setPair 3 none 2 335 336 337 66 338 := by decide +kernel
set_option maxHeartbeats 4000000 in
set_option maxRecDepth 100000 in
theorem ct_X8_writeSum (G : GX) (l : Launch) (h : Nat) (b : Nat) (d : Im) (q : Int) (hq : -10000 ≤ q ∧ q < 10000) : Ct G l yX8_writeSum cX8_writeSum 3 none rmX8_writeSum [.ref h, .int (iI q)] [(h, .inr (2, [.ref b])), (b, .inl (gI G, 4096, .inl (arI d)))] none [(h, .inr (2, [.ref b])), (b, .inl (gI G, 4096, .inl (arI (su_sum d q))))] := by
  refine Ct.of (by decide) (Nat.le_of_ble_eq_true rfl) ?_
  intro k C hl hret
  subst hl
  refine w_lv (lv2 := [(0, .ref h), (1, .int (iI q))]) [0, 1] rfl ?_
  refine w_iload_n C 1 dX8_writeSum_0 rfl ?_
  refine w_bipush C dX8_writeSum_1 (by decide) ?_
  refine w_imul C dX8_writeSum_3 ?_
  refine w_istore_n (lv2 := [(0, .ref h), (1, .int (iI q)), (2, .int (iI (q * 64)))]) C dX8_writeSum_4 (by decide) rfl ?_
  refine w_aload_n C 0 dX8_writeSum_5 rfl ?_
  refine w_iload_n C 2 dX8_writeSum_6 rfl ?_
  refine w_bipush C dX8_writeSum_7 (by decide) ?_
  refine w_iadd C dX8_writeSum_9 ?_
  refine w_aload_n C 0 dX8_writeSum_10 rfl ?_
  refine w_iload_n C 2 dX8_writeSum_11 rfl ?_
  refine w_bipush C dX8_writeSum_12 (by decide) ?_
  refine w_callV (As := [.int (iI (q * 64)), .int (iI 62)]) (rest := [.int (iI ((q * 64) + 62)), .ref h]) (w2 := [(h, .inr (2, [.ref b])), (b, .inl (gI G, 4096, .inl (arI d)))]) (st2 := [.int (iI (im_sum d (q * 64) 62)), .int (iI ((q * 64) + 62)), .ref h]) C (ct_X2_sum G (kl k) h b d (q * 64) 62 (by omega) (by omega)) gX8_23 dX8_writeSum_14 0 rfl rfl rfl rfl rfl (Nat.le_of_ble_eq_true rfl) (by decide) [0, 1] rfl (by decide) [h, b] rfl rfl rfl rfl ?_
  have f_1 := im_sum_rg d (q * 64) 62
  refine w_callV (As := [.int (iI ((q * 64) + 62)), .int (iI (im_sum d (q * 64) 62))]) (rest := []) (w2 := [(h, .inr (2, [.ref b])), (b, .inl (gI G, 4096, .inl (arI (im_put d ((q * 64) + 62) (im_sum d (q * 64) 62)))))]) (st2 := []) C (ct_X2_setPair G (kl k) h b d ((q * 64) + 62) (im_sum d (q * 64) 62) (by omega) (by omega)) gX8_35 dX8_writeSum_17 0 rfl rfl rfl rfl rfl (Nat.le_of_ble_eq_true rfl) (by decide) [0, 1] rfl (by decide) [h, b] rfl rfl rfl rfl ?_
  exact w_retv hret dX8_writeSum_20 rfl rfl rfl ⟨rfl, rfl⟩

theorem gX8_27 : cwv RX8 27 yX2_wipe cX2_wipe 3 none 2 277 262 263 66 264 := by decide +kernel
theorem gX8_31 : cwv RX8 31 yX2_setText cX2_setText 4 none 2 279 280 281 66 282 := by decide +kernel
theorem gX8_38 : cws RX8 38 yX8_writeSum cX8_writeSum 3 none 2 339 340 76 341 := by decide +kernel
set_option maxHeartbeats 4000000 in
set_option maxRecDepth 100000 in
theorem ct_X8_write (G : GX) (l : Launch) (h : Nat) (b : Nat) (d : Im) (q : Int) (x : Int) (y : Int) (hq : -10000 ≤ q ∧ q < 10000) (hx : -2147483648 ≤ x ∧ x < 2147483648) (hy : -2147483648 ≤ y ∧ y < 2147483648) : Ct G l yX8_write cX8_write 5 none rmX8_write [.ref h, .int (iI q), .int (iI x), .int (iI y)] [(h, .inr (2, [.ref b])), (b, .inl (gI G, 4096, .inl (arI d)))] none [(h, .inr (2, [.ref b])), (b, .inl (gI G, 4096, .inl (arI (su_wr d q x y))))] := by
  refine Ct.of (by decide) (Nat.le_of_ble_eq_true rfl) ?_
  intro k C hl hret
  subst hl
  refine w_lv (lv2 := [(0, .ref h), (1, .int (iI q)), (2, .int (iI x)), (3, .int (iI y))]) [0, 1, 2, 3] rfl ?_
  refine w_iload_n C 1 dX8_write_0 rfl ?_
  refine w_bipush C dX8_write_1 (by decide) ?_
  refine w_imul C dX8_write_3 ?_
  refine w_istore (lv2 := [(0, .ref h), (1, .int (iI q)), (2, .int (iI x)), (3, .int (iI y)), (4, .int (iI (q * 64)))]) C dX8_write_4 (by decide) rfl ?_
  refine w_aload_n C 0 dX8_write_6 rfl ?_
  refine w_iload C 4 dX8_write_7 rfl ?_
  refine w_bipush C dX8_write_9 (by decide) ?_
  refine w_callV (As := [.int (iI (q * 64)), .int (iI 64)]) (rest := []) (w2 := [(h, .inr (2, [.ref b])), (b, .inl (gI G, 4096, .inl (arI (im_wipe d (q * 64) 64))))]) (st2 := []) C (ct_X2_wipe G (kl k) h b d (q * 64) 64 (by omega) (by omega)) gX8_27 dX8_write_11 0 rfl rfl rfl rfl rfl (Nat.le_of_ble_eq_true rfl) (by decide) [0, 1] rfl (by decide) [h, b] rfl rfl rfl rfl ?_
  refine w_aload_n C 0 dX8_write_14 rfl ?_
  refine w_iload C 4 dX8_write_15 rfl ?_
  refine w_ldcS C dX8_write_17 C.2.2.2.2.2.2.2.1.2.2.2.1 ?_
  refine w_callV (As := [.int (iI (q * 64)), .ref (gK G 0)]) (rest := []) (w2 := [(h, .inr (2, [.ref b])), (b, .inl (gI G, 4096, .inl (arI (im_txt (im_wipe d (q * 64) 64) (q * 64) 0 (tn 0).toNat))))]) (st2 := []) C (ct_X2_setText G (kl k) h b (im_wipe d (q * 64) 64) 0 (q * 64) (by omega) (by omega)) gX8_31 dX8_write_19 0 rfl rfl rfl rfl rfl (Nat.le_of_ble_eq_true rfl) (by decide) [0, 1] rfl (by decide) [h, b] rfl rfl rfl rfl ?_
  refine w_aload_n C 0 dX8_write_22 rfl ?_
  refine w_iload C 4 dX8_write_23 rfl ?_
  refine w_iconst C dX8_write_25 ?_
  refine w_iadd C dX8_write_26 ?_
  refine w_iload_n C 2 dX8_write_27 rfl ?_
  refine w_callV (As := [.int (iI ((q * 64) + 4)), .int (iI x)]) (rest := []) (w2 := [(h, .inr (2, [.ref b])), (b, .inl (gI G, 4096, .inl (arI (im_put (im_txt (im_wipe d (q * 64) 64) (q * 64) 0 (tn 0).toNat) ((q * 64) + 4) x))))]) (st2 := []) C (ct_X2_setPair G (kl k) h b (im_txt (im_wipe d (q * 64) 64) (q * 64) 0 (tn 0).toNat) ((q * 64) + 4) x (by omega) (by omega)) gX8_35 dX8_write_28 0 rfl rfl rfl rfl rfl (Nat.le_of_ble_eq_true rfl) (by decide) [0, 1] rfl (by decide) [h, b] rfl rfl rfl rfl ?_
  refine w_aload_n C 0 dX8_write_31 rfl ?_
  refine w_iload C 4 dX8_write_32 rfl ?_
  refine w_bipush C dX8_write_34 (by decide) ?_
  refine w_iadd C dX8_write_36 ?_
  refine w_iload_n C 3 dX8_write_37 rfl ?_
  refine w_callV (As := [.int (iI ((q * 64) + 6)), .int (iI y)]) (rest := []) (w2 := [(h, .inr (2, [.ref b])), (b, .inl (gI G, 4096, .inl (arI (im_put (im_put (im_txt (im_wipe d (q * 64) 64) (q * 64) 0 (tn 0).toNat) ((q * 64) + 4) x) ((q * 64) + 6) y))))]) (st2 := []) C (ct_X2_setPair G (kl k) h b (im_put (im_txt (im_wipe d (q * 64) 64) (q * 64) 0 (tn 0).toNat) ((q * 64) + 4) x) ((q * 64) + 6) y (by omega) (by omega)) gX8_35 dX8_write_38 0 rfl rfl rfl rfl rfl (Nat.le_of_ble_eq_true rfl) (by decide) [0, 1] rfl (by decide) [h, b] rfl rfl rfl rfl ?_
  refine w_aload_n C 0 dX8_write_41 rfl ?_
  refine w_iload_n C 1 dX8_write_42 rfl ?_
  refine w_callS (As := [.ref h, .int (iI q)]) (rest := []) (w2 := [(h, .inr (2, [.ref b])), (b, .inl (gI G, 4096, .inl (arI (su_sum (im_put (im_put (im_txt (im_wipe d (q * 64) 64) (q * 64) 0 (tn 0).toNat) ((q * 64) + 4) x) ((q * 64) + 6) y) q))))]) (st2 := []) C (ct_X8_writeSum G (kl k) h b (im_put (im_put (im_txt (im_wipe d (q * 64) 64) (q * 64) 0 (tn 0).toNat) ((q * 64) + 4) x) ((q * 64) + 6) y) q (by omega)) gX8_38 dX8_write_43 rfl rfl (Nat.le_of_ble_eq_true rfl) (by decide) [0, 1] rfl (by decide) [h, b] rfl rfl rfl rfl ?_
  exact w_retv hret dX8_write_46 rfl rfl rfl ⟨rfl, rfl⟩

theorem gX5_41 : cwv RX5 41 yX2_at cX2_at 2 (some .int) 1 379 359 360 66 361 := by decide +kernel
theorem gX5_70 : cwv RX5 70 yX2_sum cX2_sum 5 (some .int) 2 393 343 344 66 345 := by decide +kernel
set_option maxHeartbeats 4000000 in
set_option maxRecDepth 100000 in
theorem ct_X5_rightSum (G : GX) (l : Launch) (h : Nat) (b : Nat) (d : Im) : Ct G l yX5_rightSum cX5_rightSum 3 (some .int) rmX5_rightSum [.ref h] [(h, .inr (2, [.ref b])), (b, .inl (gI G, 4096, .inl (arI d)))] (some (.int (iI (jn_right d)))) [(h, .inr (2, [.ref b])), (b, .inl (gI G, 4096, .inl (arI d)))] := by
  refine Ct.of (by decide) (Nat.le_of_ble_eq_true rfl) ?_
  intro k C hl hret
  subst hl
  refine w_lv (lv2 := [(0, .ref h)]) [0] rfl ?_
  refine w_aload_n C 0 dX5_rightSum_0 rfl ?_
  refine w_bipush C dX5_rightSum_1 (by decide) ?_
  refine w_callV (As := [.int (iI 68)]) (rest := []) (w2 := [(h, .inr (2, [.ref b])), (b, .inl (gI G, 4096, .inl (arI d)))]) (st2 := [.int (iI (im_at d 68))]) C (ct_X2_at G (kl k) h b d 68 (by omega)) gX5_41 dX5_rightSum_3 0 rfl rfl rfl rfl rfl (Nat.le_of_ble_eq_true rfl) (by decide) [0, 1] rfl (by decide) [h, b] rfl rfl rfl rfl ?_
  have f_1 := im_at_rg d 68
  refine w_iconst C dX5_rightSum_6 ?_
  refine w_min C 390 dX5_rightSum_7 (by decide +kernel) (by omega) (by decide) ?_
  refine w_istore_n (lv2 := [(0, .ref h), (1, .int (iI (min (im_at d 68) 5)))]) C dX5_rightSum_10 (by decide) rfl ?_
  refine w_aload_n C 0 dX5_rightSum_11 rfl ?_
  refine w_sipush C dX5_rightSum_12 (by decide) ?_
  refine w_iload_n C 1 dX5_rightSum_15 rfl ?_
  refine w_bipush C dX5_rightSum_16 (by decide) ?_
  refine w_imul C dX5_rightSum_18 ?_
  refine w_callV (As := [.int (iI 128), .int (iI ((min (im_at d 68) 5) * 64))]) (rest := []) (w2 := [(h, .inr (2, [.ref b])), (b, .inl (gI G, 4096, .inl (arI d)))]) (st2 := [.int (iI (im_sum d 128 ((min (im_at d 68) 5) * 64)))]) C (ct_X2_sum G (kl k) h b d 128 ((min (im_at d 68) 5) * 64) (by omega) (by omega)) gX5_70 dX5_rightSum_19 0 rfl rfl rfl rfl rfl (Nat.le_of_ble_eq_true rfl) (by decide) [0, 1] rfl (by decide) [h, b] rfl rfl rfl rfl ?_
  have f_2 := im_sum_rg d 128 ((min (im_at d 68) 5) * 64)
  refine w_istore_n (lv2 := [(0, .ref h), (1, .int (iI (min (im_at d 68) 5))), (2, .int (iI (im_sum d 128 ((min (im_at d 68) 5) * 64))))]) C dX5_rightSum_22 (by decide) rfl ?_
  refine w_aload_n C 0 dX5_rightSum_23 rfl ?_
  refine w_bipush C dX5_rightSum_24 (by decide) ?_
  refine w_bipush C dX5_rightSum_26 (by decide) ?_
  refine w_callV (As := [.int (iI 64), .int (iI 62)]) (rest := []) (w2 := [(h, .inr (2, [.ref b])), (b, .inl (gI G, 4096, .inl (arI d)))]) (st2 := [.int (iI (im_sum d 64 62))]) C (ct_X2_sum G (kl k) h b d 64 62 (by omega) (by omega)) gX5_70 dX5_rightSum_28 0 rfl rfl rfl rfl rfl (Nat.le_of_ble_eq_true rfl) (by decide) [0, 1] rfl (by decide) [h, b] rfl rfl rfl rfl ?_
  have f_3 := im_sum_rg d 64 62
  refine w_iload_n C 2 dX5_rightSum_31 rfl ?_
  refine w_iadd C dX5_rightSum_32 ?_
  refine w_ldc (z := 65535) C 394 dX5_rightSum_33 (by decide +kernel) rfl ?_
  refine w_iandm (q := 65536) C 16 dX5_rightSum_35 (by decide) (by decide) (by decide) ?_
  exact w_reti hret dX5_rightSum_36 rfl rfl rfl rfl ⟨congrArg (fun z => some (Value.int (iI z))) (by unfold jn_right; omega), rfl⟩

theorem gX5_30 : cws RX5 30 yX5_rightSum cX5_rightSum 3 (some .int) 1 387 388 82 389 := by decide +kernel
theorem gX5_34 : cwv RX5 34 yX2_setPair cX2_setPair 3 none 2 729 336 337 66 338 := by decide +kernel
set_option maxHeartbeats 4000000 in
set_option maxRecDepth 100000 in
theorem ct_X5_writeSum (G : GX) (l : Launch) (h : Nat) (b : Nat) (d : Im) : Ct G l yX5_writeSum cX5_writeSum 1 none rmX5_writeSum [.ref h] [(h, .inr (2, [.ref b])), (b, .inl (gI G, 4096, .inl (arI d)))] none [(h, .inr (2, [.ref b])), (b, .inl (gI G, 4096, .inl (arI (jn_sum d))))] := by
  refine Ct.of (by decide) (Nat.le_of_ble_eq_true rfl) ?_
  intro k C hl hret
  subst hl
  refine w_lv (lv2 := [(0, .ref h)]) [0] rfl ?_
  refine w_aload_n C 0 dX5_writeSum_0 rfl ?_
  refine w_bipush C dX5_writeSum_1 (by decide) ?_
  refine w_aload_n C 0 dX5_writeSum_3 rfl ?_
  refine w_callS (As := [.ref h]) (rest := [.int (iI 126), .ref h]) (w2 := [(h, .inr (2, [.ref b])), (b, .inl (gI G, 4096, .inl (arI d)))]) (st2 := [.int (iI (jn_right d)), .int (iI 126), .ref h]) C (ct_X5_rightSum G (kl k) h b d) gX5_30 dX5_writeSum_4 rfl rfl (Nat.le_of_ble_eq_true rfl) (by decide) [0, 1] rfl (by decide) [h, b] rfl rfl rfl rfl ?_
  have f_1 := jn_right_rg d
  refine w_callV (As := [.int (iI 126), .int (iI (jn_right d))]) (rest := []) (w2 := [(h, .inr (2, [.ref b])), (b, .inl (gI G, 4096, .inl (arI (im_put d 126 (jn_right d)))))]) (st2 := []) C (ct_X2_setPair G (kl k) h b d 126 (jn_right d) (by omega) (by omega)) gX5_34 dX5_writeSum_7 0 rfl rfl rfl rfl rfl (Nat.le_of_ble_eq_true rfl) (by decide) [0, 1] rfl (by decide) [h, b] rfl rfl rfl rfl ?_
  exact w_retv hret dX5_writeSum_10 rfl rfl rfl ⟨rfl, rfl⟩

theorem gX5_11 : cwv RX5 11 yX2_wipe cX2_wipe 3 none 2 402 262 263 66 264 := by decide +kernel
theorem gX5_19 : cwv RX5 19 yX2_setText cX2_setText 4 none 2 738 280 281 66 282 := by decide +kernel
theorem gX5_23 : cwv RX5 23 yX2_set cX2_set 3 none 2 739 332 333 66 334 := by decide +kernel
theorem gX5_26 : cws RX5 26 yX5_writeSum cX5_writeSum 1 none 1 740 727 82 728 := by decide +kernel
set_option maxHeartbeats 4000000 in
set_option maxRecDepth 100000 in
theorem ct_X5_write (G : GX) (l : Launch) (h : Nat) (b : Nat) (d : Im) (x : Int64) (n : Int) (hn : 1 ≤ n ∧ n ≤ 5) : Ct G l yX5_write cX5_write 5 none rmX5_write [.ref h, .long x, .int (iI n)] [(h, .inr (2, [.ref b])), (b, .inl (gI G, 4096, .inl (arI d)))] none [(h, .inr (2, [.ref b])), (b, .inl (gI G, 4096, .inl (arI (jn_wr d x n))))] := by
  refine Ct.of (by decide) (Nat.le_of_ble_eq_true rfl) ?_
  intro k C hl hret
  subst hl
  refine w_lv (lv2 := [(0, .ref h), (1, .long x), (3, .int (iI n))]) [0, 1, 2] rfl ?_
  refine w_aload_n C 0 dX5_write_0 rfl ?_
  refine w_bipush C dX5_write_1 (by decide) ?_
  refine w_bipush C dX5_write_3 (by decide) ?_
  refine w_callV (As := [.int (iI 64), .int (iI 64)]) (rest := []) (w2 := [(h, .inr (2, [.ref b])), (b, .inl (gI G, 4096, .inl (arI (im_wipe d 64 64))))]) (st2 := []) C (ct_X2_wipe G (kl k) h b d 64 64 (by omega) (by omega)) gX5_11 dX5_write_5 0 rfl rfl rfl rfl rfl (Nat.le_of_ble_eq_true rfl) (by decide) [0, 1] rfl (by decide) [h, b] rfl rfl rfl rfl ?_
  refine w_aload_n C 0 dX5_write_8 rfl ?_
  refine w_bipush C dX5_write_9 (by decide) ?_
  refine w_ldcS C dX5_write_11 C.2.2.2.2.2.2.2.1.2.2.2.2.1 ?_
  refine w_callV (As := [.int (iI 64), .ref (gK G 1)]) (rest := []) (w2 := [(h, .inr (2, [.ref b])), (b, .inl (gI G, 4096, .inl (arI (im_txt (im_wipe d 64 64) 64 1 (tn 1).toNat))))]) (st2 := []) C (ct_X2_setText G (kl k) h b (im_wipe d 64 64) 1 64 (by omega) (by omega)) gX5_19 dX5_write_13 0 rfl rfl rfl rfl rfl (Nat.le_of_ble_eq_true rfl) (by decide) [0, 1] rfl (by decide) [h, b] rfl rfl rfl rfl ?_
  refine w_aload_n C 0 dX5_write_16 rfl ?_
  refine w_bipush C dX5_write_17 (by decide) ?_
  refine w_iload_n C 2 dX5_write_19 rfl ?_
  refine w_callV (As := [.int (iI 68), .int (iI n)]) (rest := []) (w2 := [(h, .inr (2, [.ref b])), (b, .inl (gI G, 4096, .inl (arI (im_set (im_txt (im_wipe d 64 64) 64 1 (tn 1).toNat) 68 n))))]) (st2 := []) C (ct_X2_set G (kl k) h b (im_txt (im_wipe d 64 64) 64 1 (tn 1).toNat) 68 n (by omega)) gX5_23 dX5_write_20 0 rfl rfl rfl rfl rfl (Nat.le_of_ble_eq_true rfl) (by decide) [0, 1] rfl (by decide) [h, b] rfl rfl rfl rfl ?_
  refine w_iconst C dX5_write_23 ?_
  refine w_istore (lv2 := [(0, .ref h), (1, .long x), (3, .int (iI n)), (4, .int (iI 0))]) C dX5_write_24 (by decide) rfl ?_
  refine w_ord (ws2 := [(h, .inr (2, [.ref b])), (b, .inl (gI G, 4096, .inl (arI ((im_set (im_txt (im_wipe d 64 64) 64 1 (tn 1).toNat) 68 n)))))]) [0, 1] rfl (by decide) ?_
  have L_26 : ∀ (nn_26 : Nat) (i : Int) (e : Im) (j : Nat), (i = (j : Int) ∧ i ≤ n) → (e = jn_tg (im_set (im_txt (im_wipe d 64 64) 64 1 (tn 1).toNat) 68 n) x j) → n.toNat - j = nn_26 → Wd G k 5 0 0 [(h, .inr (2, [.ref b])), (b, .inl (gI G, 4096, .inl (arI e)))] 26 [(0, .ref h), (1, .long x), (3, .int (iI n)), (4, .int (iI i))] [] := by
    intro nn_26
    induction nn_26 using Nat.strongRecOn with
    | ind nn_26 ih_26 =>
      intro i e j h1 h2 hm_26
      refine w_iload C 3 dX5_write_26 rfl ?_
      refine w_iload_n C 2 dX5_write_28 rfl ?_
      refine w_icmp_ge C 68 dX5_write_29 rfl (by omega) (fun c_1 => ?_) (fun c_1 => ?_)
      · refine w_aload_n C 0 dX5_write_68 rfl ?_
        refine w_callS (As := [.ref h]) (rest := []) (w2 := [(h, .inr (2, [.ref b])), (b, .inl (gI G, 4096, .inl (arI (jn_sum e))))]) (st2 := []) C (ct_X5_writeSum G (kl k) h b e) gX5_26 dX5_write_69 rfl rfl (Nat.le_of_ble_eq_true rfl) (by decide) [0, 1] rfl (by decide) [h, b] rfl rfl rfl rfl ?_
        exact w_retv hret dX5_write_72 rfl rfl rfl ⟨rfl, (by unfold jn_wr; rw [h2, show j = n.toNat by omega])⟩
      · refine w_iload C 3 dX5_write_32 rfl ?_
        refine w_iconst C dX5_write_34 ?_
        refine w_icmp_ge C 68 dX5_write_35 rfl (by omega) (fun c_2 => ?_) (fun c_2 => ?_)
        · refine w_aload_n C 0 dX5_write_68 rfl ?_
          refine w_callS (As := [.ref h]) (rest := []) (w2 := [(h, .inr (2, [.ref b])), (b, .inl (gI G, 4096, .inl (arI (jn_sum e))))]) (st2 := []) C (ct_X5_writeSum G (kl k) h b e) gX5_26 dX5_write_69 rfl rfl (Nat.le_of_ble_eq_true rfl) (by decide) [0, 1] rfl (by decide) [h, b] rfl rfl rfl rfl ?_
          exact w_retv hret dX5_write_72 rfl rfl rfl ⟨rfl, (by unfold jn_wr; rw [h2, show j = n.toNat by omega])⟩
        · refine w_aload_n C 0 dX5_write_38 rfl ?_
          refine w_bipush C dX5_write_39 (by decide) ?_
          refine w_iload C 3 dX5_write_41 rfl ?_
          refine w_iadd C dX5_write_43 ?_
          refine w_lload_n C 1 dX5_write_44 rfl ?_
          refine w_bipush C dX5_write_45 (by decide) ?_
          refine w_bipush C dX5_write_47 (by decide) ?_
          refine w_iload C 3 dX5_write_49 rfl ?_
          refine w_imul C dX5_write_51 ?_
          refine w_isub C dX5_write_52 ?_
          refine w_lushr (v := ((x.toUInt64 >>> ((iI (56 - 8 * i)).toInt64.toUInt64 &&& Int64.toUInt64 63)).toInt64)) C dX5_write_53 rfl ?_
          refine w_l2i (v := ((x.toUInt64 >>> ((iI (56 - 8 * i)).toInt64.toUInt64 &&& Int64.toUInt64 63)).toInt64.toInt32)) C dX5_write_54 rfl ?_
          refine w_sipush C dX5_write_55 (by decide) ?_
          refine w_iand (v := (iI (lby x (56 - 8 * j)))) C dX5_write_58 (by have q := lby_of x (56 - 8 * j) (by omega); rwa [show ((56 - 8 * j : Nat) : Int) = 56 - 8 * i by omega] at q) ?_
          refine w_callV (As := [.int (iI (69 + i)), .int (iI (lby x (56 - 8 * j)))]) (rest := []) (w2 := [(h, .inr (2, [.ref b])), (b, .inl (gI G, 4096, .inl (arI (im_set e (69 + i) (lby x (56 - 8 * j))))))]) (st2 := []) C (ct_X2_set G (kl k) h b e (69 + i) (lby x (56 - 8 * j)) (by omega)) gX5_23 dX5_write_59 0 rfl rfl rfl rfl rfl (Nat.le_of_ble_eq_true rfl) (by decide) [0, 1] rfl (by decide) [h, b] rfl rfl rfl rfl ?_
          refine w_iinc (lv2 := [(0, .ref h), (1, .long x), (3, .int (iI n)), (4, .int (iI (i + 1)))]) C 3 dX5_write_62 rfl (by decide) rfl ?_
          refine w_goto C 26 dX5_write_65 rfl ?_
          refine w_ord (ws2 := [(h, .inr (2, [.ref b])), (b, .inl (gI G, 4096, .inl (arI ((im_set e (69 + i) (lby x (56 - 8 * j)))))))]) [0, 1] rfl (by decide) ?_
          refine w_lv (lv2 := [(0, .ref h), (1, .long x), (3, .int (iI n)), (4, .int (iI ((i + 1))))]) [0, 1, 2, 3] rfl ?_
          exact ih_26 _ (by omega) (i + 1) (im_set e (69 + i) (lby x (56 - 8 * j))) (j + 1) (by omega) (by rw [jn_tg, ← h2, h1.1]) rfl
  exact L_26 _ 0 (im_set (im_txt (im_wipe d 64 64) 64 1 (tn 1).toNat) 68 n) 0 (by omega) rfl rfl
