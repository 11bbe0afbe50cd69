set_option maxHeartbeats 4000000 in
set_option maxRecDepth 100000 in
theorem ct_X5_hasGoodTargets (G : GX) (l : Launch) (h : Nat) (b : Nat) (d : Im) (n : Int) (hn : 1 ≤ n ∧ n ≤ 5) : Ct G l yX5_hasGoodTargets cX5_hasGoodTargets 6 (some .boolean) rmX5_hasGoodTargets [.ref h, .int (iI n)] [(h, .inr (2, [.ref b])), (b, .inl (gI G, 4096, .inl (arI d)))] (some (.int (iI (bI (jgB d n))))) [(h, .inr (2, [.ref b])), (b, .inl (gI G, 4096, .inl (arI d)))] := by
  refine Ct.of (by decide) (Nat.le_of_ble_eq_true rfl) ?_
  intro k C hl hret
  subst hl
  refine w_lv (lv2 := [(0, .ref h), (1, .int (iI n))]) [0, 1] rfl ?_
  refine w_lconst (v := 0) C dX5_hasGoodTargets_0 (by decide) ?_
  refine w_lstore_n (lv2 := [(0, .ref h), (1, .int (iI n)), (2, .long 0)]) C dX5_hasGoodTargets_1 (by decide) rfl ?_
  refine w_iconst C dX5_hasGoodTargets_2 ?_
  refine w_istore (lv2 := [(0, .ref h), (1, .int (iI n)), (2, .long 0), (4, .int (iI 0))]) C dX5_hasGoodTargets_3 (by decide) rfl ?_
  have L_5 : ∀ (nn_5 : Nat) (i : Int) (s : Int64), (0 ≤ i ∧ i ≤ n) → (jgB d n = jgs d (n - i).toNat i s) → (n - i).toNat = nn_5 → Wd G k 6 0 0 [(h, .inr (2, [.ref b])), (b, .inl (gI G, 4096, .inl (arI d)))] 5 [(0, .ref h), (1, .int (iI n)), (2, .long s), (4, .int (iI i))] [] := by
    intro nn_5
    induction nn_5 using Nat.strongRecOn with
    | ind nn_5 ih_5 =>
      intro i s h1 h2 hm_5
      refine w_iload C 3 dX5_hasGoodTargets_5 rfl ?_
      refine w_iload_n C 1 dX5_hasGoodTargets_7 rfl ?_
      refine w_icmp_ge C 68 dX5_hasGoodTargets_8 rfl (by omega) (fun c_1 => ?_) (fun c_1 => ?_)
      · refine w_iconst C dX5_hasGoodTargets_68 ?_
        exact w_reti hret dX5_hasGoodTargets_69 rfl rfl rfl rfl ⟨congrArg (fun z => some (Value.int (iI z))) (by rw [h2, show (n - i).toNat = 0 by omega, jgs]; rfl), rfl⟩
      · refine w_iload C 3 dX5_hasGoodTargets_11 rfl ?_
        refine w_iconst C dX5_hasGoodTargets_13 ?_
        refine w_icmp_ge C 68 dX5_hasGoodTargets_14 rfl (by omega) (fun c_2 => ?_) (fun c_2 => ?_)
        · refine w_iconst C dX5_hasGoodTargets_68 ?_
          exact w_reti hret dX5_hasGoodTargets_69 rfl rfl rfl rfl ⟨congrArg (fun z => some (Value.int (iI z))) (by rw [h2, show (n - i).toNat = 0 by omega, jgs]; rfl), rfl⟩
        · refine w_aload_n C 0 dX5_hasGoodTargets_17 rfl ?_
          refine w_bipush C dX5_hasGoodTargets_18 (by decide) ?_
          refine w_iload C 3 dX5_hasGoodTargets_20 rfl ?_
          refine w_iadd C dX5_hasGoodTargets_22 ?_
          refine w_callV (As := [.int (iI (69 + i))]) (rest := []) (w2 := [(h, .inr (2, [.ref b])), (b, .inl (gI G, 4096, .inl (arI d)))]) (st2 := [.int (iI (im_at d (69 + i)))]) C (ct_X2_at G (kl k) h b d (69 + i) (by omega)) gX5_41 dX5_hasGoodTargets_23 0 rfl rfl rfl rfl rfl (Nat.le_of_ble_eq_true rfl) (by decide) [0, 1] rfl (by decide) [h, b] rfl rfl rfl rfl ?_
          have f_3 := im_at_rg d (69 + i)
          refine w_istore (lv2 := [(0, .ref h), (1, .int (iI n)), (2, .long s), (4, .int (iI i)), (5, .int (iI (im_at d (69 + i))))]) C dX5_hasGoodTargets_26 (by decide) rfl ?_
          refine w_iload C 4 dX5_hasGoodTargets_28 rfl ?_
          refine w_bipush C dX5_hasGoodTargets_30 (by decide) ?_
          refine w_icmp_lt C 53 dX5_hasGoodTargets_32 rfl (by omega) (fun c_4 => ?_) (fun c_4 => ?_)
          · refine w_iconst C dX5_hasGoodTargets_53 ?_
            exact w_reti hret dX5_hasGoodTargets_54 rfl rfl rfl rfl ⟨congrArg (fun z => some (Value.int (iI z))) (by rw [h2, show (n - i).toNat = (n - (i + 1)).toNat + 1 by omega, jgs, if_pos (by first | (left; omega) | (right; left; omega) | (right; right; exact c_4))]; rfl), rfl⟩
          · refine w_iload C 4 dX5_hasGoodTargets_35 rfl ?_
            refine w_bipush C dX5_hasGoodTargets_37 (by decide) ?_
            refine w_icmp_gt C 53 dX5_hasGoodTargets_39 rfl (by omega) (fun c_5 => ?_) (fun c_5 => ?_)
            · refine w_iconst C dX5_hasGoodTargets_53 ?_
              exact w_reti hret dX5_hasGoodTargets_54 rfl rfl rfl rfl ⟨congrArg (fun z => some (Value.int (iI z))) (by rw [h2, show (n - i).toNat = (n - (i + 1)).toNat + 1 by omega, jgs, if_pos (by first | (left; omega) | (right; left; omega) | (right; right; exact c_5))]; rfl), rfl⟩
            · refine w_lload_n C 2 dX5_hasGoodTargets_42 rfl ?_
              refine w_iload C 4 dX5_hasGoodTargets_43 rfl ?_
              refine w_lshr (v := s >>> ((iI (im_at d (69 + i))).toInt64 &&& 63)) C dX5_hasGoodTargets_45 rfl ?_
              refine w_lconst (v := 1) C dX5_hasGoodTargets_46 (by decide) ?_
              refine w_land (v := (s >>> ((iI (im_at d (69 + i))).toInt64 &&& 63)) &&& 1) C dX5_hasGoodTargets_47 rfl ?_
              refine w_lconst (v := 0) C dX5_hasGoodTargets_48 (by decide) ?_
              refine w_lcmp C dX5_hasGoodTargets_49 ?_
              refine w_tbz C 55 dX5_hasGoodTargets_50 rfl (by omega) (fun c_6 => ?_) (fun c_6 => ?_)
              · refine w_lload_n C 2 dX5_hasGoodTargets_55 rfl ?_
                refine w_lconst (v := 1) C dX5_hasGoodTargets_56 (by decide) ?_
                refine w_iload C 4 dX5_hasGoodTargets_57 rfl ?_
                refine w_lshl (v := (1 : Int64) <<< ((iI (im_at d (69 + i))).toInt64 &&& 63)) C dX5_hasGoodTargets_59 rfl ?_
                refine w_lor (v := tset s (im_at d (69 + i))) C dX5_hasGoodTargets_60 rfl ?_
                refine w_lstore_n (lv2 := [(0, .ref h), (1, .int (iI n)), (2, .long (tset s (im_at d (69 + i)))), (4, .int (iI i)), (5, .int (iI (im_at d (69 + i))))]) C dX5_hasGoodTargets_61 (by decide) rfl ?_
                refine w_iinc (lv2 := [(0, .ref h), (1, .int (iI n)), (2, .long (tset s (im_at d (69 + i)))), (4, .int (iI (i + 1))), (5, .int (iI (im_at d (69 + i))))]) C 3 dX5_hasGoodTargets_62 rfl (by decide) rfl ?_
                refine w_goto C 5 dX5_hasGoodTargets_65 rfl ?_
                refine w_lv (lv2 := [(0, .ref h), (1, .int (iI n)), (2, .long ((tset s (im_at d (69 + i))))), (4, .int (iI ((i + 1))))]) [0, 1, 2, 3] rfl ?_
                exact ih_5 _ (by omega) (i + 1) (tset s (im_at d (69 + i))) (by omega) (by rw [h2, show (n - i).toNat = (n - (i + 1)).toNat + 1 by omega, jgs, if_neg (by rintro (z | z | z); omega; omega; (rw [c_6] at z; cases z))]) rfl
              · refine w_iconst C dX5_hasGoodTargets_53 ?_
                exact w_reti hret dX5_hasGoodTargets_54 rfl rfl rfl rfl ⟨congrArg (fun z => some (Value.int (iI z))) (by rw [h2, show (n - i).toNat = (n - (i + 1)).toNat + 1 by omega, jgs, if_pos (by first | (left; omega) | (right; left; omega) | (right; right; exact c_6))]; rfl), rfl⟩
  exact L_5 _ 0 0 (by omega) (by unfold jgB; rw [show n - 0 = n by omega]) rfl

theorem gX5_49 : cwv RX5 49 yX2_hasText cX2_hasText 4 (some .boolean) 2 381 355 356 66 357 := by decide +kernel
theorem gX5_53 : cwv RX5 53 yX2_isBlank cX2_isBlank 4 (some .boolean) 2 382 383 384 66 385 := by decide +kernel
theorem gX5_57 : cwv RX5 57 yX2_pairAt cX2_pairAt 2 (some .int) 1 386 363 364 66 365 := by decide +kernel
theorem gX5_60 : cws RX5 60 yX5_hasGoodTargets cX5_hasGoodTargets 6 (some .boolean) 2 395 396 82 397 := by decide +kernel
set_option maxHeartbeats 4000000 in
set_option maxRecDepth 100000 in
theorem ct_X5_isGood (G : GX) (l : Launch) (h : Nat) (b : Nat) (d : Im) : Ct G l yX5_isGood cX5_isGood 2 (some .boolean) rmX5_isGood [.ref h] [(h, .inr (2, [.ref b])), (b, .inl (gI G, 4096, .inl (arI d)))] (some (.int (iI (bI (jnB d))))) [(h, .inr (2, [.ref b])), (b, .inl (gI G, 4096, .inl (arI d)))] := by
  refine Ct.of (by decide) (Nat.le_of_ble_eq_true rfl) ?_
  intro k C hl hret
  subst hl
  refine w_lv (lv2 := [(0, .ref h)]) [0] rfl ?_
  refine w_aload_n C 0 dX5_isGood_0 rfl ?_
  refine w_bipush C dX5_isGood_1 (by decide) ?_
  refine w_callV (As := [.int (iI 68)]) (rest := []) (w2 := [(h, .inr (2, [.ref b])), (b, .inl (gI G, 4096, .inl (arI d)))]) (st2 := [.int (iI (im_at d 68))]) C (ct_X2_at G (kl k) h b d 68 (by omega)) gX5_41 dX5_isGood_3 0 rfl rfl rfl rfl rfl (Nat.le_of_ble_eq_true rfl) (by decide) [0, 1] rfl (by decide) [h, b] rfl rfl rfl rfl ?_
  have f_1 := im_at_rg d 68
  refine w_istore_n (lv2 := [(0, .ref h), (1, .int (iI (im_at d 68)))]) C dX5_isGood_6 (by decide) rfl ?_
  refine w_aload_n C 0 dX5_isGood_7 rfl ?_
  refine w_bipush C dX5_isGood_8 (by decide) ?_
  refine w_ldcS C dX5_isGood_10 C.2.2.2.2.2.2.2.1.2.2.2.2.1 ?_
  refine w_callV (As := [.int (iI 64), .ref (gK G 1)]) (rest := []) (w2 := [(h, .inr (2, [.ref b])), (b, .inl (gI G, 4096, .inl (arI d)))]) (st2 := [.int (iI (bI (im_has d 64 1)))]) C (ct_X2_hasText G (kl k) h b d 1 64 (by omega) (by omega)) gX5_49 dX5_isGood_12 0 rfl rfl rfl rfl rfl (Nat.le_of_ble_eq_true rfl) (by decide) [0, 1] rfl (by decide) [h, b] rfl rfl rfl rfl ?_
  refine w_bz C 68 dX5_isGood_15 rfl (fun c_2 => ?_) (fun c_2 => ?_)
  · refine w_iconst C dX5_isGood_68 ?_
    exact w_reti hret dX5_isGood_69 rfl rfl rfl rfl ⟨congrArg (fun z => some (Value.int (iI z))) (by unfold jnB; first | (rw [decide_eq_false (show ¬ (1 ≤ im_at d 68 ∧ im_at d 68 ≤ 5) by omega)]; simp [bI]; done) | simp [bI, c_2] <;> omega), rfl⟩
  · refine w_iload_n C 1 dX5_isGood_18 rfl ?_
    refine w_iconst C dX5_isGood_19 ?_
    refine w_icmp_lt C 68 dX5_isGood_20 rfl (by omega) (fun c_3 => ?_) (fun c_3 => ?_)
    · refine w_iconst C dX5_isGood_68 ?_
      exact w_reti hret dX5_isGood_69 rfl rfl rfl rfl ⟨congrArg (fun z => some (Value.int (iI z))) (by unfold jnB; first | (rw [decide_eq_false (show ¬ (1 ≤ im_at d 68 ∧ im_at d 68 ≤ 5) by omega)]; simp [bI]; done) | simp [bI, c_2, c_3] <;> omega), rfl⟩
    · refine w_iload_n C 1 dX5_isGood_23 rfl ?_
      refine w_iconst C dX5_isGood_24 ?_
      refine w_icmp_gt C 68 dX5_isGood_25 rfl (by omega) (fun c_4 => ?_) (fun c_4 => ?_)
      · refine w_iconst C dX5_isGood_68 ?_
        exact w_reti hret dX5_isGood_69 rfl rfl rfl rfl ⟨congrArg (fun z => some (Value.int (iI z))) (by unfold jnB; first | (rw [decide_eq_false (show ¬ (1 ≤ im_at d 68 ∧ im_at d 68 ≤ 5) by omega)]; simp [bI]; done) | simp [bI, c_2, c_3, c_4] <;> omega), rfl⟩
      · refine w_aload_n C 0 dX5_isGood_28 rfl ?_
        refine w_bipush C dX5_isGood_29 (by decide) ?_
        refine w_iload_n C 1 dX5_isGood_31 rfl ?_
        refine w_iadd C dX5_isGood_32 ?_
        refine w_bipush C dX5_isGood_33 (by decide) ?_
        refine w_iload_n C 1 dX5_isGood_35 rfl ?_
        refine w_isub C dX5_isGood_36 ?_
        refine w_callV (As := [.int (iI (69 + (im_at d 68))), .int (iI (57 - (im_at d 68)))]) (rest := []) (w2 := [(h, .inr (2, [.ref b])), (b, .inl (gI G, 4096, .inl (arI d)))]) (st2 := [.int (iI (bI (im_blank d (69 + (im_at d 68)) (57 - (im_at d 68)))))]) C (ct_X2_isBlank G (kl k) h b d (69 + (im_at d 68)) (57 - (im_at d 68)) (by omega) (by omega)) gX5_53 dX5_isGood_37 0 rfl rfl rfl rfl rfl (Nat.le_of_ble_eq_true rfl) (by decide) [0, 1] rfl (by decide) [h, b] rfl rfl rfl rfl ?_
        refine w_bz C 68 dX5_isGood_40 rfl (fun c_5 => ?_) (fun c_5 => ?_)
        · refine w_iconst C dX5_isGood_68 ?_
          exact w_reti hret dX5_isGood_69 rfl rfl rfl rfl ⟨congrArg (fun z => some (Value.int (iI z))) (by unfold jnB; first | (rw [decide_eq_false (show ¬ (1 ≤ im_at d 68 ∧ im_at d 68 ≤ 5) by omega)]; simp [bI]; done) | simp [bI, c_2, c_3, c_4, c_5] <;> omega), rfl⟩
        · refine w_aload_n C 0 dX5_isGood_43 rfl ?_
          refine w_bipush C dX5_isGood_44 (by decide) ?_
          refine w_callV (As := [.int (iI 126)]) (rest := []) (w2 := [(h, .inr (2, [.ref b])), (b, .inl (gI G, 4096, .inl (arI d)))]) (st2 := [.int (iI (im_two d 126))]) C (ct_X2_pairAt G (kl k) h b d 126 (by omega)) gX5_57 dX5_isGood_46 0 rfl rfl rfl rfl rfl (Nat.le_of_ble_eq_true rfl) (by decide) [0, 1] rfl (by decide) [h, b] rfl rfl rfl rfl ?_
          have f_6 := im_two_rg d 126
          refine w_aload_n C 0 dX5_isGood_49 rfl ?_
          refine w_callS (As := [.ref h]) (rest := [.int (iI (im_two d 126))]) (w2 := [(h, .inr (2, [.ref b])), (b, .inl (gI G, 4096, .inl (arI d)))]) (st2 := [.int (iI (jn_right d)), .int (iI (im_two d 126))]) C (ct_X5_rightSum G (kl k) h b d) gX5_30 dX5_isGood_50 rfl rfl (Nat.le_of_ble_eq_true rfl) (by decide) [0, 1] rfl (by decide) [h, b] rfl rfl rfl rfl ?_
          have f_7 := jn_right_rg d
          refine w_icmp_ne C 68 dX5_isGood_53 rfl (by omega) (fun c_8 => ?_) (fun c_8 => ?_)
          · refine w_iconst C dX5_isGood_68 ?_
            exact w_reti hret dX5_isGood_69 rfl rfl rfl rfl ⟨congrArg (fun z => some (Value.int (iI z))) (by unfold jnB; first | (rw [decide_eq_false (show ¬ (1 ≤ im_at d 68 ∧ im_at d 68 ≤ 5) by omega)]; simp [bI]; done) | simp [bI, c_2, c_3, c_4, c_5, c_8] <;> omega), rfl⟩
          · refine w_aload_n C 0 dX5_isGood_56 rfl ?_
            refine w_iload_n C 1 dX5_isGood_57 rfl ?_
            refine w_callS (As := [.ref h, .int (iI (im_at d 68))]) (rest := []) (w2 := [(h, .inr (2, [.ref b])), (b, .inl (gI G, 4096, .inl (arI d)))]) (st2 := [.int (iI (bI (jgB d (im_at d 68))))]) C (ct_X5_hasGoodTargets G (kl k) h b d (im_at d 68) (by omega)) gX5_60 dX5_isGood_58 rfl rfl (Nat.le_of_ble_eq_true rfl) (by decide) [0, 1] rfl (by decide) [h, b] rfl rfl rfl rfl ?_
            refine w_bz C 68 dX5_isGood_61 rfl (fun c_9 => ?_) (fun c_9 => ?_)
            · refine w_iconst C dX5_isGood_68 ?_
              exact w_reti hret dX5_isGood_69 rfl rfl rfl rfl ⟨congrArg (fun z => some (Value.int (iI z))) (by unfold jnB; first | (rw [decide_eq_false (show ¬ (1 ≤ im_at d 68 ∧ im_at d 68 ≤ 5) by omega)]; simp [bI]; done) | simp [bI, c_2, c_3, c_4, c_5, c_8, c_9] <;> omega), rfl⟩
            · refine w_iconst C dX5_isGood_64 ?_
              refine w_goto C 69 dX5_isGood_65 rfl ?_
              exact w_reti hret dX5_isGood_69 rfl rfl rfl rfl ⟨congrArg (fun z => some (Value.int (iI z))) (by unfold jnB; first | (rw [decide_eq_false (show ¬ (1 ≤ im_at d 68 ∧ im_at d 68 ≤ 5) by omega)]; simp [bI]; done) | simp [bI, c_2, c_3, c_4, c_5, c_8, c_9] <;> omega), rfl⟩

theorem gX5_37 : cws RX5 37 yX5_isGood cX5_isGood 2 (some .boolean) 1 376 377 82 378 := by decide +kernel
theorem gX5_45 : cwv RX5 45 yX2_copyBlock cX2_copyBlock 4 none 3 398 399 400 66 401 := by decide +kernel
set_option maxHeartbeats 4000000 in
set_option maxRecDepth 100000 in
theorem ct_X5_replay (G : GX) (l : Launch) (h : Nat) (b : Nat) (d : Im) : Ct G l yX5_replay cX5_replay 3 none rmX5_replay [.ref h] [(h, .inr (2, [.ref b])), (b, .inl (gI G, 4096, .inl (arI d)))] none [(h, .inr (2, [.ref b])), (b, .inl (gI G, 4096, .inl (arI (jnR d))))] := by
  refine Ct.of (by decide) (Nat.le_of_ble_eq_true rfl) ?_
  intro k C hl hret
  subst hl
  refine w_lv (lv2 := [(0, .ref h)]) [0] rfl ?_
  refine w_aload_n C 0 dX5_replay_0 rfl ?_
  refine w_callS (As := [.ref h]) (rest := []) (w2 := [(h, .inr (2, [.ref b])), (b, .inl (gI G, 4096, .inl (arI d)))]) (st2 := [.int (iI (bI (jnB d)))]) C (ct_X5_isGood G (kl k) h b d) gX5_37 dX5_replay_1 rfl rfl (Nat.le_of_ble_eq_true rfl) (by decide) [0, 1] rfl (by decide) [h, b] rfl rfl rfl rfl ?_
  refine w_bz C 48 dX5_replay_4 rfl (fun c_1 => ?_) (fun c_1 => ?_)
  · have hg : jnB d = false := c_1
    refine w_aload_n C 0 dX5_replay_48 rfl ?_
    refine w_bipush C dX5_replay_49 (by decide) ?_
    refine w_bipush C dX5_replay_51 (by decide) ?_
    refine w_callV (As := [.int (iI 64), .int (iI 64)]) (rest := []) (w2 := [(h, .inr (2, [.ref b])), (b, .inl (gI G, 4096, .inl (arI (im_wipe d 64 64))))]) (st2 := []) C (ct_X2_wipe G (kl k) h b d 64 64 (by omega) (by omega)) gX5_11 dX5_replay_53 0 rfl rfl rfl rfl rfl (Nat.le_of_ble_eq_true rfl) (by decide) [0, 1] rfl (by decide) [h, b] rfl rfl rfl rfl ?_
    exact w_retv hret dX5_replay_56 rfl rfl rfl ⟨rfl, (by unfold jnR; first | rw [if_neg (by rw [hg]; decide)] | rw [if_pos hg, h2, show (im_at d 68 - i).toNat = 0 by omega, rps])⟩
  · have hg : jnB d = true := c_1
    have hn5 : 1 ≤ im_at d 68 ∧ im_at d 68 ≤ 5 := by unfold jnB at hg; simp only [Bool.and_eq_true, decide_eq_true_iff] at hg; exact hg.2.1
    refine w_aload_n C 0 dX5_replay_7 rfl ?_
    refine w_bipush C dX5_replay_8 (by decide) ?_
    refine w_callV (As := [.int (iI 68)]) (rest := []) (w2 := [(h, .inr (2, [.ref b])), (b, .inl (gI G, 4096, .inl (arI d)))]) (st2 := [.int (iI (im_at d 68))]) C (ct_X2_at G (kl k) h b d 68 (by omega)) gX5_41 dX5_replay_10 0 rfl rfl rfl rfl rfl (Nat.le_of_ble_eq_true rfl) (by decide) [0, 1] rfl (by decide) [h, b] rfl rfl rfl rfl ?_
    have f_2 := im_at_rg d 68
    refine w_istore_n (lv2 := [(0, .ref h), (1, .int (iI (im_at d 68)))]) C dX5_replay_13 (by decide) rfl ?_
    refine w_iconst C dX5_replay_14 ?_
    refine w_istore_n (lv2 := [(0, .ref h), (1, .int (iI (im_at d 68))), (2, .int (iI 0))]) C dX5_replay_15 (by decide) rfl ?_
    have L_16 : ∀ (nn_16 : Nat) (i : Int) (x : Im), (0 ≤ i ∧ i ≤ im_at d 68) → (rps (im_at d 68).toNat 0 d = rps (im_at d 68 - i).toNat i x) → (im_at d 68 - i).toNat = nn_16 → Wd G k 3 0 0 [(h, .inr (2, [.ref b])), (b, .inl (gI G, 4096, .inl (arI x)))] 16 [(0, .ref h), (1, .int (iI (im_at d 68))), (2, .int (iI i))] [] := by
      intro nn_16
      induction nn_16 using Nat.strongRecOn with
      | ind nn_16 ih_16 =>
        intro i x h1 h2 hm_16
        refine w_iload_n C 2 dX5_replay_16 rfl ?_
        refine w_iload_n C 1 dX5_replay_17 rfl ?_
        refine w_icmp_ge C 48 dX5_replay_18 rfl (by omega) (fun c_3 => ?_) (fun c_3 => ?_)
        · refine w_aload_n C 0 dX5_replay_48 rfl ?_
          refine w_bipush C dX5_replay_49 (by decide) ?_
          refine w_bipush C dX5_replay_51 (by decide) ?_
          refine w_callV (As := [.int (iI 64), .int (iI 64)]) (rest := []) (w2 := [(h, .inr (2, [.ref b])), (b, .inl (gI G, 4096, .inl (arI (im_wipe x 64 64))))]) (st2 := []) C (ct_X2_wipe G (kl k) h b x 64 64 (by omega) (by omega)) gX5_11 dX5_replay_53 0 rfl rfl rfl rfl rfl (Nat.le_of_ble_eq_true rfl) (by decide) [0, 1] rfl (by decide) [h, b] rfl rfl rfl rfl ?_
          exact w_retv hret dX5_replay_56 rfl rfl rfl ⟨rfl, (by unfold jnR; first | rw [if_neg (by rw [hg]; decide)] | rw [if_pos hg, h2, show (im_at d 68 - i).toNat = 0 by omega, rps])⟩
        · refine w_iload_n C 2 dX5_replay_21 rfl ?_
          refine w_iconst C dX5_replay_22 ?_
          refine w_icmp_ge C 48 dX5_replay_23 rfl (by omega) (fun c_4 => ?_) (fun c_4 => ?_)
          · omega
          · refine w_aload_n C 0 dX5_replay_26 rfl ?_
            refine w_iconst C dX5_replay_27 ?_
            refine w_iload_n C 2 dX5_replay_28 rfl ?_
            refine w_iadd C dX5_replay_29 ?_
            refine w_aload_n C 0 dX5_replay_30 rfl ?_
            refine w_aload_n C 0 dX5_replay_31 rfl ?_
            refine w_bipush C dX5_replay_32 (by decide) ?_
            refine w_iload_n C 2 dX5_replay_34 rfl ?_
            refine w_iadd C dX5_replay_35 ?_
            refine w_callV (As := [.int (iI (69 + i))]) (rest := [.ref h, .int (iI (2 + i)), .ref h]) (w2 := [(h, .inr (2, [.ref b])), (b, .inl (gI G, 4096, .inl (arI x)))]) (st2 := [.int (iI (im_at x (69 + i))), .ref h, .int (iI (2 + i)), .ref h]) C (ct_X2_at G (kl k) h b x (69 + i) (by omega)) gX5_41 dX5_replay_36 0 rfl rfl rfl rfl rfl (Nat.le_of_ble_eq_true rfl) (by decide) [0, 1] rfl (by decide) [h, b] rfl rfl rfl rfl ?_
            have f_5 := im_at_rg x (69 + i)
            refine w_callV (As := [.int (iI (2 + i)), .ref h, .int (iI (im_at x (69 + i)))]) (rest := []) (w2 := [(h, .inr (2, [.ref b])), (b, .inl (gI G, 4096, .inl (arI (im_cpb x x (2 + i) (im_at x (69 + i))))))]) (st2 := []) C (ct_X2_copyBlock_s G (kl k) h b x (2 + i) (im_at x (69 + i)) (by omega) (by omega)) gX5_45 dX5_replay_39 0 rfl rfl rfl rfl rfl (Nat.le_of_ble_eq_true rfl) (by decide) [0, 1] rfl (by decide) [h, b] rfl rfl rfl rfl ?_
            refine w_iinc (lv2 := [(0, .ref h), (1, .int (iI (im_at d 68))), (2, .int (iI (i + 1)))]) C 2 dX5_replay_42 rfl (by decide) rfl ?_
            refine w_goto C 16 dX5_replay_45 rfl ?_
            refine w_ord (ws2 := [(h, .inr (2, [.ref b])), (b, .inl (gI G, 4096, .inl (arI ((im_cpb x x (2 + i) (im_at x (69 + i)))))))]) [0, 1] rfl (by decide) ?_
            refine w_lv (lv2 := [(0, .ref h), (1, .int (iI (im_at d 68))), (2, .int (iI ((i + 1))))]) [0, 1, 2] rfl ?_
            exact ih_16 _ (by omega) (i + 1) (im_cpb x x (2 + i) (im_at x (69 + i))) (by omega) (by rw [h2, show (im_at d 68 - i).toNat = (im_at d 68 - (i + 1)).toNat + 1 by omega, rps]) rfl
    exact L_16 _ 0 d (by omega) (by rw [show im_at d 68 - 0 = im_at d 68 by omega]) rfl

theorem gX7_121 : cwv RX7 121 yX2_at cX2_at 2 (some .int) 1 687 359 360 66 361 := by decide +kernel
theorem gX7_124 : cwv RX7 124 yX2_set cX2_set 3 none 2 688 332 333 66 334 := by decide +kernel
set_option maxHeartbeats 4000000 in
set_option maxRecDepth 100000 in
theorem ct_X7_markUsed (G : GX) (l : Launch) (h : Nat) (kg : Nat) (g : Nat) (o : Nat) (dd : Nat) (ip : Nat) (co : Nat) (b : Nat) (d : Im) (p : Int) (n : Int) (hp : 0 ≤ p ∧ p < 5000) (hn : 0 ≤ n ∧ n < 64) : Ct G l yX7_markUsed cX7_markUsed 4 none rmX7_markUsed [.ref h, .int (iI p), .int (iI n)] [(h, .inr (6, [.ref kg, .ref g, .ref o, .ref dd, .ref ip, .ref co])), (g, .inr (2, [.ref b])), (b, .inl (gI G, 4096, .inl (arI d)))] none [(h, .inr (6, [.ref kg, .ref g, .ref o, .ref dd, .ref ip, .ref co])), (g, .inr (2, [.ref b])), (b, .inl (gI G, 4096, .inl (arI (muD d p n))))] := by
  refine Ct.of (by decide) (Nat.le_of_ble_eq_true rfl) ?_
  intro k C hl hret
  subst hl
  refine w_lv (lv2 := [(0, .ref h), (1, .int (iI p)), (2, .int (iI n))]) [0, 1, 2] rfl ?_
  refine w_iload_n C 1 dX7_markUsed_0 rfl ?_
  refine w_iload_n C 2 dX7_markUsed_1 rfl ?_
  refine w_bipush C dX7_markUsed_2 (by decide) ?_
  refine w_idiv C dX7_markUsed_4 (by omega) ?_
  refine w_iadd C dX7_markUsed_5 ?_
  refine w_istore_n (lv2 := [(0, .ref h), (1, .int (iI p)), (2, .int (iI n)), (3, .int (iI (p + (n / 8))))]) C dX7_markUsed_6 (by decide) rfl ?_
  refine w_aload_n C 0 dX7_markUsed_7 rfl ?_
  refine w_get C 0 1 202 dX7_markUsed_8 rfl rfl inX7 (by decide) (by decide +kernel) rfl ?_
  refine w_iload_n C 3 dX7_markUsed_11 rfl ?_
  refine w_aload_n C 0 dX7_markUsed_12 rfl ?_
  refine w_get C 0 1 202 dX7_markUsed_13 rfl rfl inX7 (by decide) (by decide +kernel) rfl ?_
  refine w_iload_n C 3 dX7_markUsed_16 rfl ?_
  refine w_callV (As := [.int (iI (p + (n / 8)))]) (rest := [.int (iI (p + (n / 8))), .ref g]) (w2 := [(h, .inr (6, [.ref kg, .ref g, .ref o, .ref dd, .ref ip, .ref co])), (g, .inr (2, [.ref b])), (b, .inl (gI G, 4096, .inl (arI d)))]) (st2 := [.int (iI (im_at d (p + (n / 8)))), .int (iI (p + (n / 8))), .ref g]) C (ct_X2_at G (kl k) g b d (p + (n / 8)) (by omega)) gX7_121 dX7_markUsed_17 1 rfl rfl rfl rfl rfl (Nat.le_of_ble_eq_true rfl) (by decide) [1, 2] rfl (by decide) [g, b] rfl rfl rfl rfl ?_
  have f_1 := im_at_rg d (p + (n / 8))
  refine w_sipush C dX7_markUsed_20 (by decide) ?_
  refine w_iload_n C 2 dX7_markUsed_23 rfl ?_
  refine w_bipush C dX7_markUsed_24 (by decide) ?_
  refine w_irem C dX7_markUsed_26 (by omega) ?_
  refine w_ishr (v := (iI 128 >>> (iI (n % 8) &&& 31))) C dX7_markUsed_27 rfl ?_
  refine w_ior (v := (iI (muv (im_at d (p + (n / 8))) n))) C dX7_markUsed_28 (by unfold muv; rw [iI_of]) ?_
  refine w_callV (As := [.int (iI (p + (n / 8))), .int (iI (muv (im_at d (p + (n / 8))) n))]) (rest := []) (w2 := [(h, .inr (6, [.ref kg, .ref g, .ref o, .ref dd, .ref ip, .ref co])), (g, .inr (2, [.ref b])), (b, .inl (gI G, 4096, .inl (arI (im_set d (p + (n / 8)) (muv (im_at d (p + (n / 8))) n)))))]) (st2 := []) C (ct_X2_set G (kl k) g b d (p + (n / 8)) (muv (im_at d (p + (n / 8))) n) (by omega)) gX7_124 dX7_markUsed_29 1 rfl rfl rfl rfl rfl (Nat.le_of_ble_eq_true rfl) (by decide) [1, 2] rfl (by decide) [g, b] rfl rfl rfl rfl ?_
  exact w_retv hret dX7_markUsed_32 rfl rfl rfl ⟨rfl, rfl⟩

theorem gX7_110 : cwv RX7 110 yX2_wipe cX2_wipe 3 none 2 677 262 263 66 264 := by decide +kernel
theorem gX7_118 : cwv RX7 118 yX7_markUsed cX7_markUsed 4 none 2 683 685 16 70 686 := by decide +kernel
theorem gX7_66 : cwv RX7 66 yX4_kind cX4_kind 2 (some .int) 1 555 424 425 67 426 := by decide +kernel
theorem gX7_114 : cwn RX7 114 yX10_isDataBlock cX10_isDataBlock 1 (some .boolean) 1 5 472 65 473 := by decide +kernel
theorem gX7_96 : cwv RX7 96 yX4_taken cX4_taken 1 (some .long) 0 679 680 681 67 682 := by decide +kernel
set_option maxHeartbeats 4000000 in
set_option maxRecDepth 100000 in
theorem ct_X7_writeMaps (G : GX) (l : Launch) (h : Nat) (kg : Nat) (g : Nat) (o : Nat) (dd : Nat) (ip : Nat) (co : Nat) (b : Nat) (tk : Int64) (d : Im) : Ct G l yX7_writeMaps cX7_writeMaps 3 none rmX7_writeMaps [.ref h] [(h, .inr (6, [.ref kg, .ref g, .ref o, .ref dd, .ref ip, .ref co])), (g, .inr (2, [.ref b])), (b, .inl (gI G, 4096, .inl (arI d))), (o, .inr (4, [.ref g, .long tk]))] none [(h, .inr (6, [.ref kg, .ref g, .ref o, .ref dd, .ref ip, .ref co])), (g, .inr (2, [.ref b])), (b, .inl (gI G, 4096, .inl (arI (mpF tk d)))), (o, .inr (4, [.ref g, .long tk]))] := by
  refine Ct.of (by decide) (Nat.le_of_ble_eq_true rfl) ?_
  intro k C hl hret
  subst hl
  refine w_lv (lv2 := [(0, .ref h)]) [0] rfl ?_
  refine w_sipush C dX7_writeMaps_0 (by decide) ?_
  refine w_istore_n (lv2 := [(0, .ref h), (1, .int (iI 448))]) C dX7_writeMaps_3 (by decide) rfl ?_
  refine w_aload_n C 0 dX7_writeMaps_4 rfl ?_
  refine w_get C 0 1 202 dX7_writeMaps_5 rfl rfl inX7 (by decide) (by decide +kernel) rfl ?_
  refine w_iload_n C 1 dX7_writeMaps_8 rfl ?_
  refine w_bipush C dX7_writeMaps_9 (by decide) ?_
  refine w_callV (As := [.int (iI 448), .int (iI 64)]) (rest := []) (w2 := [(h, .inr (6, [.ref kg, .ref g, .ref o, .ref dd, .ref ip, .ref co])), (g, .inr (2, [.ref b])), (b, .inl (gI G, 4096, .inl (arI (im_wipe d 448 64)))), (o, .inr (4, [.ref g, .long tk]))]) (st2 := []) C (ct_X2_wipe G (kl k) g b d 448 64 (by omega) (by omega)) gX7_110 dX7_writeMaps_11 1 rfl rfl rfl rfl rfl (Nat.le_of_ble_eq_true rfl) (by decide) [1, 2] rfl (by decide) [g, b] rfl rfl rfl rfl ?_
  refine w_iconst C dX7_writeMaps_14 ?_
  refine w_istore_n (lv2 := [(0, .ref h), (1, .int (iI 448)), (2, .int (iI 0))]) C dX7_writeMaps_15 (by decide) rfl ?_
  refine w_ord (ws2 := [(h, .inr (6, [.ref kg, .ref g, .ref o, .ref dd, .ref ip, .ref co])), (g, .inr (2, [.ref b])), (b, .inl (gI G, 4096, .inl (arI ((im_wipe d 448 64))))), (o, .inr (4, [.ref g, .long tk]))]) [0, 1, 2, 3] rfl (by decide) ?_
  have L_16 : ∀ (nn_16 : Nat) (i : Int) (x : Im), (0 ≤ i ∧ i ≤ 64) → (mp1 tk 64 0 (im_wipe d 448 64) = mp1 tk (64 - i).toNat i x) → (64 - i).toNat = nn_16 → Wd G k 3 0 0 [(h, .inr (6, [.ref kg, .ref g, .ref o, .ref dd, .ref ip, .ref co])), (g, .inr (2, [.ref b])), (b, .inl (gI G, 4096, .inl (arI x))), (o, .inr (4, [.ref g, .long tk]))] 16 [(0, .ref h), (1, .int (iI 448)), (2, .int (iI i))] [] := by
    intro nn_16
    induction nn_16 using Nat.strongRecOn with
    | ind nn_16 ih_16 =>
      intro i x h1 h2 hm_16
      refine w_iload_n C 2 dX7_writeMaps_16 rfl ?_
      refine w_bipush C dX7_writeMaps_17 (by decide) ?_
      refine w_icmp_ge C 57 dX7_writeMaps_19 rfl (by omega) (fun c_1 => ?_) (fun c_1 => ?_)
      · refine w_iconst C dX7_writeMaps_57 ?_
        refine w_istore_n (lv2 := [(0, .ref h), (1, .int (iI 448)), (2, .int (iI 0))]) C dX7_writeMaps_58 (by decide) rfl ?_
        have L_59 : ∀ (nn_59 : Nat) (j : Int) (y : Im), (0 ≤ j ∧ j ≤ 32) → (mpF tk d = mp2 (32 - j).toNat j y) → (32 - j).toNat = nn_59 → Wd G k 3 0 0 [(h, .inr (6, [.ref kg, .ref g, .ref o, .ref dd, .ref ip, .ref co])), (g, .inr (2, [.ref b])), (b, .inl (gI G, 4096, .inl (arI y))), (o, .inr (4, [.ref g, .long tk]))] 59 [(0, .ref h), (1, .int (iI 448)), (2, .int (iI j))] [] := by
          intro nn_59
          induction nn_59 using Nat.strongRecOn with
          | ind nn_59 ih_59 =>
            intro j y h3 h4 hm_59
            refine w_iload_n C 2 dX7_writeMaps_59 rfl ?_
            refine w_bipush C dX7_writeMaps_60 (by decide) ?_
            refine w_icmp_ge C 95 dX7_writeMaps_62 rfl (by omega) (fun c_2 => ?_) (fun c_2 => ?_)
            · exact w_retv hret dX7_writeMaps_95 rfl rfl rfl ⟨rfl, (by rw [h4, show (32 - j).toNat = 0 by omega, mp2])⟩
            · refine w_iload_n C 2 dX7_writeMaps_65 rfl ?_
              refine w_if_eq C 80 dX7_writeMaps_66 rfl (by omega) (fun c_3 => ?_) (fun c_3 => ?_)
              · refine w_aload_n C 0 dX7_writeMaps_80 rfl ?_
                refine w_iload_n C 1 dX7_writeMaps_81 rfl ?_
                refine w_bipush C dX7_writeMaps_82 (by decide) ?_
                refine w_iadd C dX7_writeMaps_84 ?_
                refine w_iload_n C 2 dX7_writeMaps_85 rfl ?_
                refine w_callV (As := [.int (iI (448 + 8)), .int (iI j)]) (rest := []) (w2 := [(h, .inr (6, [.ref kg, .ref g, .ref o, .ref dd, .ref ip, .ref co])), (g, .inr (2, [.ref b])), (b, .inl (gI G, 4096, .inl (arI (muD y (448 + 8) j)))), (o, .inr (4, [.ref g, .long tk]))]) (st2 := []) C (ct_X7_markUsed G (kl k) h kg g o dd ip co b y (448 + 8) j (by omega) (by omega)) gX7_118 dX7_writeMaps_86 0 rfl rfl rfl rfl rfl (Nat.le_of_ble_eq_true rfl) (by decide) [0, 1, 2] rfl (by decide) [h, g, b] rfl rfl rfl rfl ?_
                refine w_iinc (lv2 := [(0, .ref h), (1, .int (iI 448)), (2, .int (iI (j + 1)))]) C 2 dX7_writeMaps_89 rfl (by decide) rfl ?_
                refine w_goto C 59 dX7_writeMaps_92 rfl ?_
                refine w_ord (ws2 := [(h, .inr (6, [.ref kg, .ref g, .ref o, .ref dd, .ref ip, .ref co])), (g, .inr (2, [.ref b])), (b, .inl (gI G, 4096, .inl (arI ((muD y (448 + 8) j))))), (o, .inr (4, [.ref g, .long tk]))]) [0, 1, 2, 3] rfl (by decide) ?_
                refine w_lv (lv2 := [(0, .ref h), (1, .int (iI 448)), (2, .int (iI ((j + 1))))]) [0, 1, 2] rfl ?_
                exact ih_59 _ (by omega) (j + 1) (muD y (448 + 8) j) (by omega) (by rw [h4, show (32 - j).toNat = (32 - (j + 1)).toNat + 1 by omega, mp2]; first | (rw [if_neg (show ¬ (¬ j = 0 ∧ kd y j = 0) by omega)]; done) | rw [if_pos (show ¬ j = 0 ∧ kd y j = 0 by omega)]) rfl
              · have hj0 : ¬ j = 0 := c_3
                refine w_aload_n C 0 dX7_writeMaps_69 rfl ?_
                refine w_get C 0 2 203 dX7_writeMaps_70 rfl rfl inX7 (by decide) (by decide +kernel) rfl ?_
                refine w_iload_n C 2 dX7_writeMaps_73 rfl ?_
                refine w_callV (As := [.int (iI j)]) (rest := []) (w2 := [(h, .inr (6, [.ref kg, .ref g, .ref o, .ref dd, .ref ip, .ref co])), (g, .inr (2, [.ref b])), (b, .inl (gI G, 4096, .inl (arI y))), (o, .inr (4, [.ref g, .long tk]))]) (st2 := [.int (iI (kd y j))]) C (ct_X4_kind G (kl k) o g b tk y j (by omega)) gX7_66 dX7_writeMaps_74 3 rfl rfl rfl rfl rfl (Nat.le_of_ble_eq_true rfl) (by decide) [3, 1, 2] rfl (by decide) [o, g, b] rfl rfl rfl rfl ?_
                have f_4 := kd_rg y j
                refine w_if_eq C 89 dX7_writeMaps_77 rfl (by omega) (fun c_5 => ?_) (fun c_5 => ?_)
                · refine w_iinc (lv2 := [(0, .ref h), (1, .int (iI 448)), (2, .int (iI (j + 1)))]) C 2 dX7_writeMaps_89 rfl (by decide) rfl ?_
                  refine w_goto C 59 dX7_writeMaps_92 rfl ?_
                  refine w_lv (lv2 := [(0, .ref h), (1, .int (iI 448)), (2, .int (iI ((j + 1))))]) [0, 1, 2] rfl ?_
                  exact ih_59 _ (by omega) (j + 1) y (by omega) (by rw [h4, show (32 - j).toNat = (32 - (j + 1)).toNat + 1 by omega, mp2]; first | (rw [if_neg (show ¬ (¬ j = 0 ∧ kd y j = 0) by omega)]; done) | rw [if_pos (show ¬ j = 0 ∧ kd y j = 0 by omega)]) rfl
                · refine w_aload_n C 0 dX7_writeMaps_80 rfl ?_
                  refine w_iload_n C 1 dX7_writeMaps_81 rfl ?_
                  refine w_bipush C dX7_writeMaps_82 (by decide) ?_
                  refine w_iadd C dX7_writeMaps_84 ?_
                  refine w_iload_n C 2 dX7_writeMaps_85 rfl ?_
                  refine w_callV (As := [.int (iI (448 + 8)), .int (iI j)]) (rest := []) (w2 := [(h, .inr (6, [.ref kg, .ref g, .ref o, .ref dd, .ref ip, .ref co])), (g, .inr (2, [.ref b])), (b, .inl (gI G, 4096, .inl (arI (muD y (448 + 8) j)))), (o, .inr (4, [.ref g, .long tk]))]) (st2 := []) C (ct_X7_markUsed G (kl k) h kg g o dd ip co b y (448 + 8) j (by omega) (by omega)) gX7_118 dX7_writeMaps_86 0 rfl rfl rfl rfl rfl (Nat.le_of_ble_eq_true rfl) (by decide) [0, 1, 2] rfl (by decide) [h, g, b] rfl rfl rfl rfl ?_
                  refine w_iinc (lv2 := [(0, .ref h), (1, .int (iI 448)), (2, .int (iI (j + 1)))]) C 2 dX7_writeMaps_89 rfl (by decide) rfl ?_
                  refine w_goto C 59 dX7_writeMaps_92 rfl ?_
                  refine w_ord (ws2 := [(h, .inr (6, [.ref kg, .ref g, .ref o, .ref dd, .ref ip, .ref co])), (g, .inr (2, [.ref b])), (b, .inl (gI G, 4096, .inl (arI ((muD y (448 + 8) j))))), (o, .inr (4, [.ref g, .long tk]))]) [0, 1, 2, 3] rfl (by decide) ?_
                  refine w_lv (lv2 := [(0, .ref h), (1, .int (iI 448)), (2, .int (iI ((j + 1))))]) [0, 1, 2] rfl ?_
                  exact ih_59 _ (by omega) (j + 1) (muD y (448 + 8) j) (by omega) (by rw [h4, show (32 - j).toNat = (32 - (j + 1)).toNat + 1 by omega, mp2]; first | (rw [if_neg (show ¬ (¬ j = 0 ∧ kd y j = 0) by omega)]; done) | rw [if_pos (show ¬ j = 0 ∧ kd y j = 0 by omega)]) rfl
        exact L_59 _ 0 x (by omega) (by unfold mpF; rw [h2, show (64 - i).toNat = 0 by omega, mp1, show ((32 : Int) - 0).toNat = 32 from rfl]) rfl
      · refine w_iload_n C 2 dX7_writeMaps_22 rfl ?_
        refine w_callN (As := [.int (iI i)]) (rest := []) (w2 := [(h, .inr (6, [.ref kg, .ref g, .ref o, .ref dd, .ref ip, .ref co])), (g, .inr (2, [.ref b])), (b, .inl (gI G, 4096, .inl (arI x))), (o, .inr (4, [.ref g, .long tk]))]) (st2 := [.int (iI (bI (decide (dat i))))]) C (ct_X10_isDataBlock G (kl k) i (by omega)) gX7_114 dX7_writeMaps_23 rfl rfl (Nat.le_of_ble_eq_true rfl) (by decide) [] rfl (by decide) [] rfl rfl rfl rfl ?_
        refine w_bz C 45 dX7_writeMaps_26 rfl (fun c_6 => ?_) (fun c_6 => ?_)
        · have hdt : ¬ dat i := of_decide_eq_false c_6
          refine w_aload_n C 0 dX7_writeMaps_45 rfl ?_
          refine w_iload_n C 1 dX7_writeMaps_46 rfl ?_
          refine w_iload_n C 2 dX7_writeMaps_47 rfl ?_
          refine w_callV (As := [.int (iI 448), .int (iI i)]) (rest := []) (w2 := [(h, .inr (6, [.ref kg, .ref g, .ref o, .ref dd, .ref ip, .ref co])), (g, .inr (2, [.ref b])), (b, .inl (gI G, 4096, .inl (arI (muD x 448 i)))), (o, .inr (4, [.ref g, .long tk]))]) (st2 := []) C (ct_X7_markUsed G (kl k) h kg g o dd ip co b x 448 i (by omega) (by omega)) gX7_118 dX7_writeMaps_48 0 rfl rfl rfl rfl rfl (Nat.le_of_ble_eq_true rfl) (by decide) [0, 1, 2] rfl (by decide) [h, g, b] rfl rfl rfl rfl ?_
          refine w_iinc (lv2 := [(0, .ref h), (1, .int (iI 448)), (2, .int (iI (i + 1)))]) C 2 dX7_writeMaps_51 rfl (by decide) rfl ?_
          refine w_goto C 16 dX7_writeMaps_54 rfl ?_
          refine w_ord (ws2 := [(h, .inr (6, [.ref kg, .ref g, .ref o, .ref dd, .ref ip, .ref co])), (g, .inr (2, [.ref b])), (b, .inl (gI G, 4096, .inl (arI ((muD x 448 i))))), (o, .inr (4, [.ref g, .long tk]))]) [0, 1, 2, 3] rfl (by decide) ?_
          refine w_lv (lv2 := [(0, .ref h), (1, .int (iI 448)), (2, .int (iI ((i + 1))))]) [0, 1, 2] rfl ?_
          exact ih_16 _ (by omega) (i + 1) (muD x 448 i) (by omega) (by rw [h2, show (64 - i).toNat = (64 - (i + 1)).toNat + 1 by omega, mp1]; first | (rw [if_neg (show ¬ (dat i ∧ tbt tk i = false) from fun z => by first | exact hdt z.1 | (have q := c_6; rw [z.2] at q; cases q))]; done) | rw [if_pos (show dat i ∧ tbt tk i = false from And.intro hdt c_6)]) rfl
        · have hdt : dat i := of_decide_eq_true c_6
          refine w_aload_n C 0 dX7_writeMaps_29 rfl ?_
          refine w_get C 0 2 203 dX7_writeMaps_30 rfl rfl inX7 (by decide) (by decide +kernel) rfl ?_
          refine w_callV (As := []) (rest := []) (w2 := [(h, .inr (6, [.ref kg, .ref g, .ref o, .ref dd, .ref ip, .ref co])), (g, .inr (2, [.ref b])), (b, .inl (gI G, 4096, .inl (arI x))), (o, .inr (4, [.ref g, .long tk]))]) (st2 := [.long tk]) C (ct_X4_taken G (kl k) o g b tk x) gX7_96 dX7_writeMaps_33 3 rfl rfl rfl rfl rfl (Nat.le_of_ble_eq_true rfl) (by decide) [3, 1, 2] rfl (by decide) [o, g, b] rfl rfl rfl rfl ?_
          refine w_iload_n C 2 dX7_writeMaps_36 rfl ?_
          refine w_lshr (v := tk >>> ((iI i).toInt64 &&& 63)) C dX7_writeMaps_37 rfl ?_
          refine w_lconst (v := 1) C dX7_writeMaps_38 (by decide) ?_
          refine w_land (v := (tk >>> ((iI i).toInt64 &&& 63)) &&& 1) C dX7_writeMaps_39 rfl ?_
          refine w_lconst (v := 0) C dX7_writeMaps_40 (by decide) ?_
          refine w_lcmp C dX7_writeMaps_41 ?_
          refine w_tbz C 51 dX7_writeMaps_42 rfl (by omega) (fun c_7 => ?_) (fun c_7 => ?_)
          · refine w_iinc (lv2 := [(0, .ref h), (1, .int (iI 448)), (2, .int (iI (i + 1)))]) C 2 dX7_writeMaps_51 rfl (by decide) rfl ?_
            refine w_goto C 16 dX7_writeMaps_54 rfl ?_
            refine w_lv (lv2 := [(0, .ref h), (1, .int (iI 448)), (2, .int (iI ((i + 1))))]) [0, 1, 2] rfl ?_
            exact ih_16 _ (by omega) (i + 1) x (by omega) (by rw [h2, show (64 - i).toNat = (64 - (i + 1)).toNat + 1 by omega, mp1]; first | (rw [if_neg (show ¬ (dat i ∧ tbt tk i = false) from fun z => by first | exact hdt z.1 | (have q := c_7; rw [z.2] at q; cases q))]; done) | rw [if_pos (show dat i ∧ tbt tk i = false from And.intro hdt c_7)]) rfl
          · refine w_aload_n C 0 dX7_writeMaps_45 rfl ?_
            refine w_iload_n C 1 dX7_writeMaps_46 rfl ?_
            refine w_iload_n C 2 dX7_writeMaps_47 rfl ?_
            refine w_callV (As := [.int (iI 448), .int (iI i)]) (rest := []) (w2 := [(h, .inr (6, [.ref kg, .ref g, .ref o, .ref dd, .ref ip, .ref co])), (g, .inr (2, [.ref b])), (b, .inl (gI G, 4096, .inl (arI (muD x 448 i)))), (o, .inr (4, [.ref g, .long tk]))]) (st2 := []) C (ct_X7_markUsed G (kl k) h kg g o dd ip co b x 448 i (by omega) (by omega)) gX7_118 dX7_writeMaps_48 0 rfl rfl rfl rfl rfl (Nat.le_of_ble_eq_true rfl) (by decide) [0, 1, 2] rfl (by decide) [h, g, b] rfl rfl rfl rfl ?_
            refine w_iinc (lv2 := [(0, .ref h), (1, .int (iI 448)), (2, .int (iI (i + 1)))]) C 2 dX7_writeMaps_51 rfl (by decide) rfl ?_
            refine w_goto C 16 dX7_writeMaps_54 rfl ?_
            refine w_ord (ws2 := [(h, .inr (6, [.ref kg, .ref g, .ref o, .ref dd, .ref ip, .ref co])), (g, .inr (2, [.ref b])), (b, .inl (gI G, 4096, .inl (arI ((muD x 448 i))))), (o, .inr (4, [.ref g, .long tk]))]) [0, 1, 2, 3] rfl (by decide) ?_
            refine w_lv (lv2 := [(0, .ref h), (1, .int (iI 448)), (2, .int (iI ((i + 1))))]) [0, 1, 2] rfl ?_
            exact ih_16 _ (by omega) (i + 1) (muD x 448 i) (by omega) (by rw [h2, show (64 - i).toNat = (64 - (i + 1)).toNat + 1 by omega, mp1]; first | (rw [if_neg (show ¬ (dat i ∧ tbt tk i = false) from fun z => by first | exact hdt z.1 | (have q := c_7; rw [z.2] at q; cases q))]; done) | rw [if_pos (show dat i ∧ tbt tk i = false from And.intro hdt c_7)]) rfl
  exact L_16 _ 0 (im_wipe d 448 64) (by omega) (by rw [show ((64 : Int) - 0).toNat = 64 from rfl]) rfl

theorem gX7_87 : cwv RX7 87 yX1_countLinks cX1_countLinks 4 none 0 652 653 654 68 655 := by decide +kernel
theorem gX7_93 : cwv RX7 93 yX7_writeMaps cX7_writeMaps 3 none 0 673 675 15 70 676 := by decide +kernel
theorem gX7_100 : cws RX7 100 yJ13_bitCount_95d88 cJ13_bitCount_95d88 2 (some .int) 1 689 486 84 487 := by decide +kernel
theorem gX7_106 : cws RX7 106 yX8_write cX8_write 5 none 4 690 275 76 276 := by decide +kernel
theorem gX7_90 : cwv RX7 90 yX4_writeSum cX4_writeSum 2 none 1 668 669 670 67 671 := by decide +kernel
set_option maxHeartbeats 4000000 in
set_option maxRecDepth 100000 in
theorem ct_X7_settle (G : GX) (l : Launch) (h : Nat) (kg : Nat) (g : Nat) (o : Nat) (dd : Nat) (ip : Nat) (co : Nat) (b : Nat) (m : Nat) (tk : Int64) (d : Im) : Ct G l yX7_settle cX7_settle 3 none rmX7_settle [.ref h] [(h, .inr (6, [.ref kg, .ref g, .ref o, .ref dd, .ref ip, .ref co])), (g, .inr (2, [.ref b])), (b, .inl (gI G, 4096, .inl (arI d))), (o, .inr (4, [.ref g, .long tk])), (dd, .inr (1, [.ref g, .ref o, .ref m]))] none [(h, .inr (6, [.ref kg, .ref g, .ref o, .ref dd, .ref ip, .ref co])), (g, .inr (2, [.ref b])), (b, .inl (gI G, 4096, .inl (arI (stD tk d)))), (o, .inr (4, [.ref g, .long tk])), (dd, .inr (1, [.ref g, .ref o, .ref m]))] := by
  refine Ct.of (by decide) (Nat.le_of_ble_eq_true rfl) ?_
  intro k C hl hret
  subst hl
  refine w_lv (lv2 := [(0, .ref h)]) [0] rfl ?_
  refine w_aload_n C 0 dX7_settle_0 rfl ?_
  refine w_get C 0 3 204 dX7_settle_1 rfl rfl inX7 (by decide) (by decide +kernel) rfl ?_
  refine w_callV (As := []) (rest := []) (w2 := [(h, .inr (6, [.ref kg, .ref g, .ref o, .ref dd, .ref ip, .ref co])), (g, .inr (2, [.ref b])), (b, .inl (gI G, 4096, .inl (arI (clL d)))), (o, .inr (4, [.ref g, .long tk])), (dd, .inr (1, [.ref g, .ref o, .ref m]))]) (st2 := []) C (ct_X1_countLinks G (kl k) dd o g b m tk d) gX7_87 dX7_settle_4 4 rfl rfl rfl rfl rfl (Nat.le_of_ble_eq_true rfl) (by decide) [4, 3, 1, 2] rfl (by decide) [dd, o, g, b] rfl rfl rfl rfl ?_
  refine w_iconst C dX7_settle_7 ?_
  refine w_istore_n (lv2 := [(0, .ref h), (1, .int (iI 0))]) C dX7_settle_8 (by decide) rfl ?_
  refine w_iconst C dX7_settle_9 ?_
  refine w_istore_n (lv2 := [(0, .ref h), (1, .int (iI 0)), (2, .int (iI 1))]) C dX7_settle_10 (by decide) rfl ?_
  refine w_ord (ws2 := [(h, .inr (6, [.ref kg, .ref g, .ref o, .ref dd, .ref ip, .ref co])), (g, .inr (2, [.ref b])), (b, .inl (gI G, 4096, .inl (arI ((clL d))))), (o, .inr (4, [.ref g, .long tk])), (dd, .inr (1, [.ref g, .ref o, .ref m]))]) [0, 1, 2, 3, 4] rfl (by decide) ?_
  have L_11 : ∀ (nn_11 : Nat) (i : Int) (c : Int) (x : Im), (1 ≤ i ∧ i ≤ 32 ∧ 0 ≤ c ∧ c ≤ i) → (st1 d = sts (32 - i).toNat i x c) → (32 - i).toNat = nn_11 → Wd G k 3 0 0 [(h, .inr (6, [.ref kg, .ref g, .ref o, .ref dd, .ref ip, .ref co])), (g, .inr (2, [.ref b])), (b, .inl (gI G, 4096, .inl (arI x))), (o, .inr (4, [.ref g, .long tk])), (dd, .inr (1, [.ref g, .ref o, .ref m]))] 11 [(0, .ref h), (1, .int (iI c)), (2, .int (iI i))] [] := by
    intro nn_11
    induction nn_11 using Nat.strongRecOn with
    | ind nn_11 ih_11 =>
      intro i c x h1 h2 hm_11
      refine w_iload_n C 2 dX7_settle_11 rfl ?_
      refine w_bipush C dX7_settle_12 (by decide) ?_
      refine w_icmp_ge C 50 dX7_settle_14 rfl (by omega) (fun c_1 => ?_) (fun c_1 => ?_)
      · have h4 : st1 d = (x, c) := by rw [h2, show (32 - i).toNat = 0 by omega, sts]
        refine w_aload_n C 0 dX7_settle_50 rfl ?_
        refine w_callV (As := []) (rest := []) (w2 := [(h, .inr (6, [.ref kg, .ref g, .ref o, .ref dd, .ref ip, .ref co])), (g, .inr (2, [.ref b])), (b, .inl (gI G, 4096, .inl (arI (mpF tk x)))), (o, .inr (4, [.ref g, .long tk])), (dd, .inr (1, [.ref g, .ref o, .ref m]))]) (st2 := []) C (ct_X7_writeMaps G (kl k) h kg g o dd ip co b tk x) gX7_93 dX7_settle_51 0 rfl rfl rfl rfl rfl (Nat.le_of_ble_eq_true rfl) (by decide) [0, 1, 2, 3] rfl (by decide) [h, g, b, o] rfl rfl rfl rfl ?_
        refine w_bipush C dX7_settle_54 (by decide) ?_
        refine w_aload_n C 0 dX7_settle_56 rfl ?_
        refine w_get C 0 2 203 dX7_settle_57 rfl rfl inX7 (by decide) (by decide +kernel) rfl ?_
        refine w_callV (As := []) (rest := [.int (iI 47)]) (w2 := [(h, .inr (6, [.ref kg, .ref g, .ref o, .ref dd, .ref ip, .ref co])), (g, .inr (2, [.ref b])), (b, .inl (gI G, 4096, .inl (arI ((mpF tk x))))), (o, .inr (4, [.ref g, .long tk])), (dd, .inr (1, [.ref g, .ref o, .ref m]))]) (st2 := [.long tk, .int (iI 47)]) C (ct_X4_taken G (kl k) o g b tk (mpF tk x)) gX7_96 dX7_settle_60 3 rfl rfl rfl rfl rfl (Nat.le_of_ble_eq_true rfl) (by decide) [3, 1, 2] rfl (by decide) [o, g, b] rfl rfl rfl rfl ?_
        refine w_callS (As := [.long tk]) (rest := [.int (iI 47)]) (w2 := [(h, .inr (6, [.ref kg, .ref g, .ref o, .ref dd, .ref ip, .ref co])), (g, .inr (2, [.ref b])), (b, .inl (gI G, 4096, .inl (arI ((mpF tk x))))), (o, .inr (4, [.ref g, .long tk])), (dd, .inr (1, [.ref g, .ref o, .ref m]))]) (st2 := [.int (iI (pcn tk)), .int (iI 47)]) C (ct_J13_bitCount_95d88 G (kl k) tk) gX7_100 dX7_settle_63 rfl rfl (Nat.le_of_ble_eq_true rfl) (by decide) [] rfl (by decide) [] rfl rfl rfl rfl ?_
        have f_2 := pcn_rg tk
        refine w_isub C dX7_settle_66 ?_
        refine w_istore_n (lv2 := [(0, .ref h), (1, .int (iI c)), (2, .int (iI (47 - (pcn tk))))]) C dX7_settle_67 (by decide) rfl ?_
        refine w_aload_n C 0 dX7_settle_68 rfl ?_
        refine w_get C 0 1 202 dX7_settle_69 rfl rfl inX7 (by decide) (by decide +kernel) rfl ?_
        refine w_iconst C dX7_settle_72 ?_
        refine w_iload_n C 2 dX7_settle_73 rfl ?_
        refine w_iload_n C 1 dX7_settle_74 rfl ?_
        refine w_callS (As := [.ref g, .int (iI 0), .int (iI (47 - (pcn tk))), .int (iI c)]) (rest := []) (w2 := [(h, .inr (6, [.ref kg, .ref g, .ref o, .ref dd, .ref ip, .ref co])), (g, .inr (2, [.ref b])), (b, .inl (gI G, 4096, .inl (arI (su_wr ((mpF tk x)) 0 (47 - (pcn tk)) c)))), (o, .inr (4, [.ref g, .long tk])), (dd, .inr (1, [.ref g, .ref o, .ref m]))]) (st2 := []) C (ct_X8_write G (kl k) g b ((mpF tk x)) 0 (47 - (pcn tk)) c (by omega) (by omega) (by omega)) gX7_106 dX7_settle_75 rfl rfl (Nat.le_of_ble_eq_true rfl) (by decide) [1, 2] rfl (by decide) [g, b] rfl rfl rfl rfl ?_
        refine w_aload_n C 0 dX7_settle_78 rfl ?_
        refine w_get C 0 1 202 dX7_settle_79 rfl rfl inX7 (by decide) (by decide +kernel) rfl ?_
        refine w_bipush C dX7_settle_82 (by decide) ?_
        refine w_iload_n C 2 dX7_settle_84 rfl ?_
        refine w_iload_n C 1 dX7_settle_85 rfl ?_
        refine w_callS (As := [.ref g, .int (iI 63), .int (iI (47 - (pcn tk))), .int (iI c)]) (rest := []) (w2 := [(h, .inr (6, [.ref kg, .ref g, .ref o, .ref dd, .ref ip, .ref co])), (g, .inr (2, [.ref b])), (b, .inl (gI G, 4096, .inl (arI (su_wr (su_wr ((mpF tk x)) 0 (47 - (pcn tk)) c) 63 (47 - (pcn tk)) c)))), (o, .inr (4, [.ref g, .long tk])), (dd, .inr (1, [.ref g, .ref o, .ref m]))]) (st2 := []) C (ct_X8_write G (kl k) g b (su_wr ((mpF tk x)) 0 (47 - (pcn tk)) c) 63 (47 - (pcn tk)) c (by omega) (by omega) (by omega)) gX7_106 dX7_settle_86 rfl rfl (Nat.le_of_ble_eq_true rfl) (by decide) [1, 2] rfl (by decide) [g, b] rfl rfl rfl rfl ?_
        exact w_retv hret dX7_settle_89 rfl rfl rfl ⟨rfl, (by unfold stD; rw [h4])⟩
      · refine w_aload_n C 0 dX7_settle_17 rfl ?_
        refine w_get C 0 2 203 dX7_settle_18 rfl rfl inX7 (by decide) (by decide +kernel) rfl ?_
        refine w_iload_n C 2 dX7_settle_21 rfl ?_
        refine w_callV (As := [.int (iI i)]) (rest := []) (w2 := [(h, .inr (6, [.ref kg, .ref g, .ref o, .ref dd, .ref ip, .ref co])), (g, .inr (2, [.ref b])), (b, .inl (gI G, 4096, .inl (arI (ino_sum x i)))), (o, .inr (4, [.ref g, .long tk])), (dd, .inr (1, [.ref g, .ref o, .ref m]))]) (st2 := []) C (ct_X4_writeSum G (kl k) o g b tk x i (by omega)) gX7_90 dX7_settle_22 3 rfl rfl rfl rfl rfl (Nat.le_of_ble_eq_true rfl) (by decide) [3, 1, 2] rfl (by decide) [o, g, b] rfl rfl rfl rfl ?_
        refine w_iload_n C 1 dX7_settle_25 rfl ?_
        refine w_aload_n C 0 dX7_settle_26 rfl ?_
        refine w_get C 0 2 203 dX7_settle_27 rfl rfl inX7 (by decide) (by decide +kernel) rfl ?_
        refine w_iload_n C 2 dX7_settle_30 rfl ?_
        refine w_callV (As := [.int (iI i)]) (rest := [.int (iI c)]) (w2 := [(h, .inr (6, [.ref kg, .ref g, .ref o, .ref dd, .ref ip, .ref co])), (g, .inr (2, [.ref b])), (b, .inl (gI G, 4096, .inl (arI ((ino_sum x i))))), (o, .inr (4, [.ref g, .long tk])), (dd, .inr (1, [.ref g, .ref o, .ref m]))]) (st2 := [.int (iI (kd (ino_sum x i) i)), .int (iI c)]) C (ct_X4_kind G (kl k) o g b tk (ino_sum x i) i (by omega)) gX7_66 dX7_settle_31 3 rfl rfl rfl rfl rfl (Nat.le_of_ble_eq_true rfl) (by decide) [3, 1, 2] rfl (by decide) [o, g, b] rfl rfl rfl rfl ?_
        have f_3 := kd_rg (ino_sum x i) i
        refine w_if_ne C 41 dX7_settle_34 rfl (by omega) (fun c_4 => ?_) (fun c_4 => ?_)
        · refine w_iconst C dX7_settle_41 ?_
          refine w_iadd C dX7_settle_42 ?_
          refine w_istore_n (lv2 := [(0, .ref h), (1, .int (iI (c + 0))), (2, .int (iI i))]) C dX7_settle_43 (by decide) rfl ?_
          refine w_iinc (lv2 := [(0, .ref h), (1, .int (iI (c + 0))), (2, .int (iI (i + 1)))]) C 2 dX7_settle_44 rfl (by decide) rfl ?_
          refine w_goto C 11 dX7_settle_47 rfl ?_
          refine w_ord (ws2 := [(h, .inr (6, [.ref kg, .ref g, .ref o, .ref dd, .ref ip, .ref co])), (g, .inr (2, [.ref b])), (b, .inl (gI G, 4096, .inl (arI (((ino_sum x i)))))), (o, .inr (4, [.ref g, .long tk])), (dd, .inr (1, [.ref g, .ref o, .ref m]))]) [0, 1, 2, 3, 4] rfl (by decide) ?_
          refine w_lv (lv2 := [(0, .ref h), (1, .int (iI ((c + 0)))), (2, .int (iI ((i + 1))))]) [0, 1, 2] rfl ?_
          exact ih_11 _ (by omega) (i + 1) (c + 0) ((ino_sum x i)) (by omega) (by rw [h2, show (32 - i).toNat = (32 - (i + 1)).toNat + 1 by omega, sts]; first | rw [if_pos c_4] | rw [if_neg c_4]) rfl
        · refine w_iconst C dX7_settle_37 ?_
          refine w_goto C 42 dX7_settle_38 rfl ?_
          refine w_iadd C dX7_settle_42 ?_
          refine w_istore_n (lv2 := [(0, .ref h), (1, .int (iI (c + 1))), (2, .int (iI i))]) C dX7_settle_43 (by decide) rfl ?_
          refine w_iinc (lv2 := [(0, .ref h), (1, .int (iI (c + 1))), (2, .int (iI (i + 1)))]) C 2 dX7_settle_44 rfl (by decide) rfl ?_
          refine w_goto C 11 dX7_settle_47 rfl ?_
          refine w_ord (ws2 := [(h, .inr (6, [.ref kg, .ref g, .ref o, .ref dd, .ref ip, .ref co])), (g, .inr (2, [.ref b])), (b, .inl (gI G, 4096, .inl (arI (((ino_sum x i)))))), (o, .inr (4, [.ref g, .long tk])), (dd, .inr (1, [.ref g, .ref o, .ref m]))]) [0, 1, 2, 3, 4] rfl (by decide) ?_
          refine w_lv (lv2 := [(0, .ref h), (1, .int (iI ((c + 1)))), (2, .int (iI ((i + 1))))]) [0, 1, 2] rfl ?_
          exact ih_11 _ (by omega) (i + 1) (c + 1) ((ino_sum x i)) (by omega) (by rw [h2, show (32 - i).toNat = (32 - (i + 1)).toNat + 1 by omega, sts]; first | rw [if_pos c_4] | rw [if_neg c_4]) rfl
  exact L_11 _ 1 0 (clL d) (by omega) (by unfold st1; rw [show ((32 : Int) - 1).toNat = 31 from rfl]) rfl

theorem gX7_127 : cwv RX7 127 yX2_sameBlock cX2_sameBlock 5 (some .boolean) 2 695 696 697 66 698 := by decide +kernel
set_option maxHeartbeats 4000000 in
set_option maxRecDepth 100000 in
theorem ct_X7_countDiffering (G : GX) (l : Launch) (h : Nat) (kg : Nat) (g : Nat) (o : Nat) (dd : Nat) (ip : Nat) (co : Nat) (b : Nat) (kb : Nat) (dk : Im) (d : Im) : Ct G l yX7_countDiffering cX7_countDiffering 3 (some .int) rmX7_countDiffering [.ref h] [(h, .inr (6, [.ref kg, .ref g, .ref o, .ref dd, .ref ip, .ref co])), (kg, .inr (2, [.ref kb])), (kb, .inl (gI G, 4096, .inl (arI dk))), (g, .inr (2, [.ref b])), (b, .inl (gI G, 4096, .inl (arI d)))] (some (.int (iI (cds d dk 64 0 0)))) [(h, .inr (6, [.ref kg, .ref g, .ref o, .ref dd, .ref ip, .ref co])), (kg, .inr (2, [.ref kb])), (kb, .inl (gI G, 4096, .inl (arI dk))), (g, .inr (2, [.ref b])), (b, .inl (gI G, 4096, .inl (arI d)))] := by
  refine Ct.of (by decide) (Nat.le_of_ble_eq_true rfl) ?_
  intro k C hl hret
  subst hl
  refine w_lv (lv2 := [(0, .ref h)]) [0] rfl ?_
  refine w_iconst C dX7_countDiffering_0 ?_
  refine w_istore_n (lv2 := [(0, .ref h), (1, .int (iI 0))]) C dX7_countDiffering_1 (by decide) rfl ?_
  refine w_iconst C dX7_countDiffering_2 ?_
  refine w_istore_n (lv2 := [(0, .ref h), (1, .int (iI 0)), (2, .int (iI 0))]) C dX7_countDiffering_3 (by decide) rfl ?_
  have L_4 : ∀ (nn_4 : Nat) (i : Int) (c : Int), (0 ≤ i ∧ i ≤ 64 ∧ 0 ≤ c ∧ c ≤ i) → (cds d dk 64 0 0 = cds d dk (64 - i).toNat i c) → (64 - i).toNat = nn_4 → Wd G k 3 0 0 [(h, .inr (6, [.ref kg, .ref g, .ref o, .ref dd, .ref ip, .ref co])), (kg, .inr (2, [.ref kb])), (kb, .inl (gI G, 4096, .inl (arI dk))), (g, .inr (2, [.ref b])), (b, .inl (gI G, 4096, .inl (arI d)))] 4 [(0, .ref h), (1, .int (iI c)), (2, .int (iI i))] [] := by
    intro nn_4
    induction nn_4 using Nat.strongRecOn with
    | ind nn_4 ih_4 =>
      intro i c h1 h2 hm_4
      refine w_iload_n C 2 dX7_countDiffering_4 rfl ?_
      refine w_bipush C dX7_countDiffering_5 (by decide) ?_
      refine w_icmp_ge C 34 dX7_countDiffering_7 rfl (by omega) (fun c_1 => ?_) (fun c_1 => ?_)
      · refine w_iload_n C 1 dX7_countDiffering_34 rfl ?_
        exact w_reti hret dX7_countDiffering_35 rfl rfl rfl rfl ⟨congrArg (fun z => some (Value.int (iI z))) (by rw [h2, show (64 - i).toNat = 0 by omega, cds]), rfl⟩
      · refine w_aload_n C 0 dX7_countDiffering_10 rfl ?_
        refine w_get C 0 1 202 dX7_countDiffering_11 rfl rfl inX7 (by decide) (by decide +kernel) rfl ?_
        refine w_iload_n C 2 dX7_countDiffering_14 rfl ?_
        refine w_aload_n C 0 dX7_countDiffering_15 rfl ?_
        refine w_get C 0 0 201 dX7_countDiffering_16 rfl rfl inX7 (by decide) (by decide +kernel) rfl ?_
        refine w_callV (As := [.int (iI i), .ref kg]) (rest := []) (w2 := [(h, .inr (6, [.ref kg, .ref g, .ref o, .ref dd, .ref ip, .ref co])), (kg, .inr (2, [.ref kb])), (kb, .inl (gI G, 4096, .inl (arI dk))), (g, .inr (2, [.ref b])), (b, .inl (gI G, 4096, .inl (arI d)))]) (st2 := [.int (iI (bI (im_same d dk i)))]) C (ct_X2_sameBlock G (kl k) g b d kg kb dk i (by omega)) gX7_127 dX7_countDiffering_19 3 rfl rfl rfl rfl rfl (Nat.le_of_ble_eq_true rfl) (by decide) [3, 4, 1, 2] rfl (by decide) [g, b, kg, kb] rfl rfl rfl rfl ?_
        refine w_bnz C 28 dX7_countDiffering_22 rfl (fun c_2 => ?_) (fun c_2 => ?_)
        · refine w_iinc (lv2 := [(0, .ref h), (1, .int (iI c)), (2, .int (iI (i + 1)))]) C 2 dX7_countDiffering_28 rfl (by decide) rfl ?_
          refine w_goto C 4 dX7_countDiffering_31 rfl ?_
          refine w_lv (lv2 := [(0, .ref h), (1, .int (iI c)), (2, .int (iI ((i + 1))))]) [0, 1, 2] rfl ?_
          exact ih_4 _ (by omega) (i + 1) c (by omega) (by rw [h2, show (64 - i).toNat = (64 - (i + 1)).toNat + 1 by omega, cds]; first | rw [if_pos c_2] | rw [if_neg (by rw [c_2]; decide)]) rfl
        · refine w_iinc (lv2 := [(0, .ref h), (1, .int (iI (c + 1))), (2, .int (iI i))]) C 1 dX7_countDiffering_25 rfl (by decide) rfl ?_
          refine w_iinc (lv2 := [(0, .ref h), (1, .int (iI (c + 1))), (2, .int (iI (i + 1)))]) C 2 dX7_countDiffering_28 rfl (by decide) rfl ?_
          refine w_goto C 4 dX7_countDiffering_31 rfl ?_
          refine w_lv (lv2 := [(0, .ref h), (1, .int (iI ((c + 1)))), (2, .int (iI ((i + 1))))]) [0, 1, 2] rfl ?_
          exact ih_4 _ (by omega) (i + 1) (c + 1) (by omega) (by rw [h2, show (64 - i).toNat = (64 - (i + 1)).toNat + 1 by omega, cds]; first | rw [if_pos c_2] | rw [if_neg (by rw [c_2]; decide)]) rfl
  exact L_4 _ 0 0 (by omega) (by rw [show ((64 : Int) - 0).toNat = 64 from rfl]) rfl

theorem gX7_131 : cwv RX7 131 yX2_copyBlock cX2_copyBlock 4 none 3 703 399 400 66 401 := by decide +kernel
set_option maxHeartbeats 4000000 in
set_option maxRecDepth 100000 in
theorem ct_X7_writeBlocks (G : GX) (l : Launch) (h : Nat) (kg : Nat) (g : Nat) (o : Nat) (dd : Nat) (ip : Nat) (co : Nat) (b : Nat) (kb : Nat) (dk : Im) (d : Im) (q : Int) (hq : 0 ≤ q ∧ q ≤ 64) : Ct G l yX7_writeBlocks cX7_writeBlocks 4 (some .int) rmX7_writeBlocks [.ref h, .int (iI q)] [(h, .inr (6, [.ref kg, .ref g, .ref o, .ref dd, .ref ip, .ref co])), (kg, .inr (2, [.ref kb])), (kb, .inl (gI G, 4096, .inl (arI dk))), (g, .inr (2, [.ref b])), (b, .inl (gI G, 4096, .inl (arI d)))] (some (.int (iI ((wbs d q 64 0 0 dk).1)))) [(h, .inr (6, [.ref kg, .ref g, .ref o, .ref dd, .ref ip, .ref co])), (kg, .inr (2, [.ref kb])), (kb, .inl (gI G, 4096, .inl (arI ((wbs d q 64 0 0 dk).2)))), (g, .inr (2, [.ref b])), (b, .inl (gI G, 4096, .inl (arI d)))] := by
  refine Ct.of (by decide) (Nat.le_of_ble_eq_true rfl) ?_
  intro k C hl hret
  subst hl
  refine w_lv (lv2 := [(0, .ref h), (1, .int (iI q))]) [0, 1] rfl ?_
  refine w_iconst C dX7_writeBlocks_0 ?_
  refine w_istore_n (lv2 := [(0, .ref h), (1, .int (iI q)), (2, .int (iI 0))]) C dX7_writeBlocks_1 (by decide) rfl ?_
  refine w_iconst C dX7_writeBlocks_2 ?_
  refine w_istore_n (lv2 := [(0, .ref h), (1, .int (iI q)), (2, .int (iI 0)), (3, .int (iI 0))]) C dX7_writeBlocks_3 (by decide) rfl ?_
  have L_4 : ∀ (nn_4 : Nat) (i : Int) (c : Int) (x : Im), (0 ≤ i ∧ i ≤ 64 ∧ 0 ≤ c ∧ c ≤ i) → (wbs d q 64 0 0 dk = wbs d q (64 - i).toNat i c x) → (64 - i).toNat = nn_4 → Wd G k 4 0 0 [(h, .inr (6, [.ref kg, .ref g, .ref o, .ref dd, .ref ip, .ref co])), (kg, .inr (2, [.ref kb])), (kb, .inl (gI G, 4096, .inl (arI x))), (g, .inr (2, [.ref b])), (b, .inl (gI G, 4096, .inl (arI d)))] 4 [(0, .ref h), (1, .int (iI q)), (2, .int (iI c)), (3, .int (iI i))] [] := by
    intro nn_4
    induction nn_4 using Nat.strongRecOn with
    | ind nn_4 ih_4 =>
      intro i c x h1 h2 hm_4
      refine w_iload_n C 3 dX7_writeBlocks_4 rfl ?_
      refine w_bipush C dX7_writeBlocks_5 (by decide) ?_
      refine w_icmp_ge C 52 dX7_writeBlocks_7 rfl (by omega) (fun c_1 => ?_) (fun c_1 => ?_)
      · have h4 : wbs d q 64 0 0 dk = (c, x) := by rw [h2, show (64 - i).toNat = 0 by omega, wbs]
        refine w_iload_n C 2 dX7_writeBlocks_52 rfl ?_
        exact w_reti hret dX7_writeBlocks_53 rfl rfl rfl rfl ⟨congrArg (fun z => some (Value.int (iI z))) (by rw [h4]), (by rw [h4])⟩
      · refine w_iload_n C 2 dX7_writeBlocks_10 rfl ?_
        refine w_iload_n C 1 dX7_writeBlocks_11 rfl ?_
        refine w_icmp_ge C 52 dX7_writeBlocks_12 rfl (by omega) (fun c_2 => ?_) (fun c_2 => ?_)
        · have h4 : wbs d q 64 0 0 dk = (c, x) := by rw [h2]; exact wbs_stop _ _ _ _ _ _ (by omega)
          refine w_iload_n C 2 dX7_writeBlocks_52 rfl ?_
          exact w_reti hret dX7_writeBlocks_53 rfl rfl rfl rfl ⟨congrArg (fun z => some (Value.int (iI z))) (by rw [h4]), (by rw [h4])⟩
        · refine w_aload_n C 0 dX7_writeBlocks_15 rfl ?_
          refine w_get C 0 1 202 dX7_writeBlocks_16 rfl rfl inX7 (by decide) (by decide +kernel) rfl ?_
          refine w_iload_n C 3 dX7_writeBlocks_19 rfl ?_
          refine w_aload_n C 0 dX7_writeBlocks_20 rfl ?_
          refine w_get C 0 0 201 dX7_writeBlocks_21 rfl rfl inX7 (by decide) (by decide +kernel) rfl ?_
          refine w_callV (As := [.int (iI i), .ref kg]) (rest := []) (w2 := [(h, .inr (6, [.ref kg, .ref g, .ref o, .ref dd, .ref ip, .ref co])), (kg, .inr (2, [.ref kb])), (kb, .inl (gI G, 4096, .inl (arI x))), (g, .inr (2, [.ref b])), (b, .inl (gI G, 4096, .inl (arI d)))]) (st2 := [.int (iI (bI (im_same d x i)))]) C (ct_X2_sameBlock G (kl k) g b d kg kb x i (by omega)) gX7_127 dX7_writeBlocks_24 3 rfl rfl rfl rfl rfl (Nat.le_of_ble_eq_true rfl) (by decide) [3, 4, 1, 2] rfl (by decide) [g, b, kg, kb] rfl rfl rfl rfl ?_
          refine w_bnz C 46 dX7_writeBlocks_27 rfl (fun c_3 => ?_) (fun c_3 => ?_)
          · refine w_iinc (lv2 := [(0, .ref h), (1, .int (iI q)), (2, .int (iI c)), (3, .int (iI (i + 1)))]) C 3 dX7_writeBlocks_46 rfl (by decide) rfl ?_
            refine w_goto C 4 dX7_writeBlocks_49 rfl ?_
            refine w_lv (lv2 := [(0, .ref h), (1, .int (iI q)), (2, .int (iI c)), (3, .int (iI ((i + 1))))]) [0, 1, 2, 3] rfl ?_
            exact ih_4 _ (by omega) (i + 1) c x (by omega) (by rw [h2, show (64 - i).toNat = (64 - (i + 1)).toNat + 1 by omega, wbs, if_pos (show c < q by omega)]; first | rw [if_pos c_3, if_pos c_3] | rw [if_neg (by rw [c_3]; decide), if_neg (by rw [c_3]; decide)]) rfl
          · refine w_aload_n C 0 dX7_writeBlocks_30 rfl ?_
            refine w_get C 0 0 201 dX7_writeBlocks_31 rfl rfl inX7 (by decide) (by decide +kernel) rfl ?_
            refine w_iload_n C 3 dX7_writeBlocks_34 rfl ?_
            refine w_aload_n C 0 dX7_writeBlocks_35 rfl ?_
            refine w_get C 0 1 202 dX7_writeBlocks_36 rfl rfl inX7 (by decide) (by decide +kernel) rfl ?_
            refine w_iload_n C 3 dX7_writeBlocks_39 rfl ?_
            refine w_callV (As := [.int (iI i), .ref g, .int (iI i)]) (rest := []) (w2 := [(h, .inr (6, [.ref kg, .ref g, .ref o, .ref dd, .ref ip, .ref co])), (kg, .inr (2, [.ref kb])), (kb, .inl (gI G, 4096, .inl (arI (im_cpb d x i i)))), (g, .inr (2, [.ref b])), (b, .inl (gI G, 4096, .inl (arI d)))]) (st2 := []) C (ct_X2_copyBlock G (kl k) kg kb x g b d i i (by omega) (by omega)) gX7_131 dX7_writeBlocks_40 1 rfl rfl rfl rfl rfl (Nat.le_of_ble_eq_true rfl) (by decide) [1, 2, 3, 4] rfl (by decide) [kg, kb, g, b] rfl rfl rfl rfl ?_
            refine w_iinc (lv2 := [(0, .ref h), (1, .int (iI q)), (2, .int (iI (c + 1))), (3, .int (iI i))]) C 2 dX7_writeBlocks_43 rfl (by decide) rfl ?_
            refine w_iinc (lv2 := [(0, .ref h), (1, .int (iI q)), (2, .int (iI (c + 1))), (3, .int (iI (i + 1)))]) C 3 dX7_writeBlocks_46 rfl (by decide) rfl ?_
            refine w_goto C 4 dX7_writeBlocks_49 rfl ?_
            refine w_ord (ws2 := [(h, .inr (6, [.ref kg, .ref g, .ref o, .ref dd, .ref ip, .ref co])), (kg, .inr (2, [.ref kb])), (kb, .inl (gI G, 4096, .inl (arI ((im_cpb d x i i))))), (g, .inr (2, [.ref b])), (b, .inl (gI G, 4096, .inl (arI d)))]) [0, 1, 2, 3, 4] rfl (by decide) ?_
            refine w_lv (lv2 := [(0, .ref h), (1, .int (iI q)), (2, .int (iI ((c + 1)))), (3, .int (iI ((i + 1))))]) [0, 1, 2, 3] rfl ?_
            exact ih_4 _ (by omega) (i + 1) (c + 1) (im_cpb d x i i) (by omega) (by rw [h2, show (64 - i).toNat = (64 - (i + 1)).toNat + 1 by omega, wbs, if_pos (show c < q by omega)]; first | rw [if_pos c_3, if_pos c_3] | rw [if_neg (by rw [c_3]; decide), if_neg (by rw [c_3]; decide)]) rfl
  exact L_4 _ 0 0 dk (by omega) (by rw [show ((64 : Int) - 0).toNat = 64 from rfl]) rfl
