set_option maxHeartbeats 4000000 in
set_option maxRecDepth 100000 in
theorem ct_X10_isDataBlock (G : GX) (l : Launch) (q : Int) (hq : -2147483648 ≤ q ∧ q < 2147483648) : Ct G l yX10_isDataBlock cX10_isDataBlock 1 (some .boolean) rmX10_isDataBlock [.int (iI q)] [] (some (.int (iI (bI (decide (dat q)))))) [] := by
  refine Ct.of (by decide) (Nat.le_of_ble_eq_true rfl) ?_
  intro k C hl hret
  subst hl
  refine w_lv (lv2 := [(0, .int (iI q))]) [0] rfl ?_
  refine w_iload_n C 0 dX10_isDataBlock_0 rfl ?_
  refine w_bipush C dX10_isDataBlock_1 (by decide) ?_
  refine w_icmp_lt C 16 dX10_isDataBlock_3 rfl (by omega) (fun c_1 => ?_) (fun c_1 => ?_)
  · refine w_iconst C dX10_isDataBlock_16 ?_
    exact w_reti hret dX10_isDataBlock_17 rfl rfl rfl rfl ⟨congrArg (fun z => some (Value.int (iI z))) (by first | exact (bI_t (by omega)).symm | exact (bI_f (by omega)).symm), rfl⟩
  · refine w_iload_n C 0 dX10_isDataBlock_6 rfl ?_
    refine w_bipush C dX10_isDataBlock_7 (by decide) ?_
    refine w_icmp_gt C 16 dX10_isDataBlock_9 rfl (by omega) (fun c_2 => ?_) (fun c_2 => ?_)
    · refine w_iconst C dX10_isDataBlock_16 ?_
      exact w_reti hret dX10_isDataBlock_17 rfl rfl rfl rfl ⟨congrArg (fun z => some (Value.int (iI z))) (by first | exact (bI_t (by omega)).symm | exact (bI_f (by omega)).symm), rfl⟩
    · refine w_iconst C dX10_isDataBlock_12 ?_
      refine w_goto C 17 dX10_isDataBlock_13 rfl ?_
      exact w_reti hret dX10_isDataBlock_17 rfl rfl rfl rfl ⟨congrArg (fun z => some (Value.int (iI z))) (by first | exact (bI_t (by omega)).symm | exact (bI_f (by omega)).symm), rfl⟩

set_option maxHeartbeats 4000000 in
set_option maxRecDepth 100000 in
theorem ct_X4_isNumber (G : GX) (l : Launch) (i : Int) (hi : -2147483648 ≤ i ∧ i < 2147483648) : Ct G l yX4_isNumber cX4_isNumber 1 (some .boolean) rmX4_isNumber [.int (iI i)] [] (some (.int (iI (bI (decide (inR i)))))) [] := by
  refine Ct.of (by decide) (Nat.le_of_ble_eq_true rfl) ?_
  intro k C hl hret
  subst hl
  refine w_lv (lv2 := [(0, .int (iI i))]) [0] rfl ?_
  refine w_iload_n C 0 dX4_isNumber_0 rfl ?_
  refine w_if_lt C 14 dX4_isNumber_1 rfl (by omega) (fun c_1 => ?_) (fun c_1 => ?_)
  · refine w_iconst C dX4_isNumber_14 ?_
    exact w_reti hret dX4_isNumber_15 rfl rfl rfl rfl ⟨congrArg (fun z => some (Value.int (iI z))) (by first | exact (bI_t (by omega)).symm | exact (bI_f (by omega)).symm), rfl⟩
  · refine w_iload_n C 0 dX4_isNumber_4 rfl ?_
    refine w_bipush C dX4_isNumber_5 (by decide) ?_
    refine w_icmp_ge C 14 dX4_isNumber_7 rfl (by omega) (fun c_2 => ?_) (fun c_2 => ?_)
    · refine w_iconst C dX4_isNumber_14 ?_
      exact w_reti hret dX4_isNumber_15 rfl rfl rfl rfl ⟨congrArg (fun z => some (Value.int (iI z))) (by first | exact (bI_t (by omega)).symm | exact (bI_f (by omega)).symm), rfl⟩
    · refine w_iconst C dX4_isNumber_10 ?_
      refine w_goto C 15 dX4_isNumber_11 rfl ?_
      exact w_reti hret dX4_isNumber_15 rfl rfl rfl rfl ⟨congrArg (fun z => some (Value.int (iI z))) (by first | exact (bI_t (by omega)).symm | exact (bI_f (by omega)).symm), rfl⟩

set_option maxHeartbeats 4000000 in
set_option maxRecDepth 100000 in
theorem ct_X4_placeOf (G : GX) (l : Launch) (i : Int) : Ct G l yX4_placeOf cX4_placeOf 1 (some .int) rmX4_placeOf [.int (iI i)] [] (some (.int (iI (512 + i * 16)))) [] := by
  refine Ct.of (by decide) (Nat.le_of_ble_eq_true rfl) ?_
  intro k C hl hret
  subst hl
  refine w_lv (lv2 := [(0, .int (iI i))]) [0] rfl ?_
  refine w_sipush C dX4_placeOf_0 (by decide) ?_
  refine w_iload_n C 0 dX4_placeOf_3 rfl ?_
  refine w_bipush C dX4_placeOf_4 (by decide) ?_
  refine w_imul C dX4_placeOf_6 ?_
  refine w_iadd C dX4_placeOf_7 ?_
  exact w_reti hret dX4_placeOf_8 rfl rfl rfl rfl ⟨congrArg (fun z => some (Value.int (iI z))) (by omega), rfl⟩

theorem gX4_15 : cws RX4 15 yX4_isNumber cX4_isNumber 1 (some .boolean) 1 427 428 67 429 := by decide +kernel
theorem gX4_19 : cws RX4 19 yX4_placeOf cX4_placeOf 1 (some .int) 1 415 416 67 417 := by decide +kernel
theorem gX4_23 : cwv RX4 23 yX2_at cX2_at 2 (some .int) 1 430 359 360 66 361 := by decide +kernel
set_option maxHeartbeats 4000000 in
set_option maxRecDepth 100000 in
theorem ct_X4_kind (G : GX) (l : Launch) (h : Nat) (g : Nat) (b : Nat) (tk : Int64) (d : Im) (i : Int) (hi : -2147483648 ≤ i ∧ i < 2147483648) : Ct G l yX4_kind cX4_kind 2 (some .int) rmX4_kind [.ref h, .int (iI i)] [(h, .inr (4, [.ref g, .long tk])), (g, .inr (2, [.ref b])), (b, .inl (gI G, 4096, .inl (arI d)))] (some (.int (iI (kd d i)))) [(h, .inr (4, [.ref g, .long tk])), (g, .inr (2, [.ref b])), (b, .inl (gI G, 4096, .inl (arI d)))] := by
  refine Ct.of (by decide) (Nat.le_of_ble_eq_true rfl) ?_
  intro k C hl hret
  subst hl
  refine w_lv (lv2 := [(0, .ref h), (1, .int (iI i))]) [0, 1] rfl ?_
  refine w_iload_n C 1 dX4_kind_0 rfl ?_
  refine w_callS (As := [.int (iI i)]) (rest := []) (w2 := [(h, .inr (4, [.ref g, .long tk])), (g, .inr (2, [.ref b])), (b, .inl (gI G, 4096, .inl (arI d)))]) (st2 := [.int (iI (bI (decide (inR i))))]) C (ct_X4_isNumber G (kl k) i (by omega)) gX4_15 dX4_kind_1 rfl rfl (Nat.le_of_ble_eq_true rfl) (by decide) [] rfl (by decide) [] rfl rfl rfl rfl ?_
  refine w_bz C 21 dX4_kind_4 rfl (fun c_1 => ?_) (fun c_1 => ?_)
  · have hg : ¬ inR i := of_decide_eq_false (by assumption)
    refine w_iconst C dX4_kind_21 ?_
    exact w_reti hret dX4_kind_22 rfl rfl rfl rfl ⟨congrArg (fun z => some (Value.int (iI z))) (by unfold kd; first | (rw [if_neg hg]; done) | (unfold im_at; rw [if_pos hg, if_pos (by omega)]) | (unfold im_two; rw [if_pos hg, if_pos (by omega)])), rfl⟩
  · have hg : inR i := of_decide_eq_true (by assumption)
    have hg : inR i := of_decide_eq_true (by assumption)
    refine w_aload_n C 0 dX4_kind_7 rfl ?_
    refine w_get C 0 0 110 dX4_kind_8 rfl rfl inX4 (by decide) (by decide +kernel) rfl ?_
    refine w_iload_n C 1 dX4_kind_11 rfl ?_
    refine w_callS (As := [.int (iI i)]) (rest := [.ref g]) (w2 := [(h, .inr (4, [.ref g, .long tk])), (g, .inr (2, [.ref b])), (b, .inl (gI G, 4096, .inl (arI d)))]) (st2 := [.int (iI (512 + i * 16)), .ref g]) C (ct_X4_placeOf G (kl k) i) gX4_19 dX4_kind_12 rfl rfl (Nat.le_of_ble_eq_true rfl) (by decide) [] rfl (by decide) [] rfl rfl rfl rfl ?_
    refine w_callV (As := [.int (iI (512 + i * 16))]) (rest := []) (w2 := [(h, .inr (4, [.ref g, .long tk])), (g, .inr (2, [.ref b])), (b, .inl (gI G, 4096, .inl (arI d)))]) (st2 := [.int (iI (im_at d (512 + i * 16)))]) C (ct_X2_at G (kl k) g b d (512 + i * 16) (by omega)) gX4_23 dX4_kind_15 1 rfl rfl rfl rfl rfl (Nat.le_of_ble_eq_true rfl) (by decide) [1, 2] rfl (by decide) [g, b] rfl rfl rfl rfl ?_
    have f_2 := im_at_rg d (512 + i * 16)
    refine w_goto C 22 dX4_kind_18 rfl ?_
    exact w_reti hret dX4_kind_22 rfl rfl rfl rfl ⟨congrArg (fun z => some (Value.int (iI z))) (by unfold kd; first | (rw [if_neg hg]; done) | (unfold im_at; rw [if_pos hg, if_pos (by omega)]) | (unfold im_two; rw [if_pos hg, if_pos (by omega)])), rfl⟩

set_option maxHeartbeats 4000000 in
set_option maxRecDepth 100000 in
theorem ct_X4_links (G : GX) (l : Launch) (h : Nat) (g : Nat) (b : Nat) (tk : Int64) (d : Im) (i : Int) (hi : -2147483648 ≤ i ∧ i < 2147483648) : Ct G l yX4_links cX4_links 2 (some .int) rmX4_links [.ref h, .int (iI i)] [(h, .inr (4, [.ref g, .long tk])), (g, .inr (2, [.ref b])), (b, .inl (gI G, 4096, .inl (arI d)))] (some (.int (iI (lk d i)))) [(h, .inr (4, [.ref g, .long tk])), (g, .inr (2, [.ref b])), (b, .inl (gI G, 4096, .inl (arI d)))] := by
  refine Ct.of (by decide) (Nat.le_of_ble_eq_true rfl) ?_
  intro k C hl hret
  subst hl
  refine w_lv (lv2 := [(0, .ref h), (1, .int (iI i))]) [0, 1] rfl ?_
  refine w_iload_n C 1 dX4_links_0 rfl ?_
  refine w_callS (As := [.int (iI i)]) (rest := []) (w2 := [(h, .inr (4, [.ref g, .long tk])), (g, .inr (2, [.ref b])), (b, .inl (gI G, 4096, .inl (arI d)))]) (st2 := [.int (iI (bI (decide (inR i))))]) C (ct_X4_isNumber G (kl k) i (by omega)) gX4_15 dX4_links_1 rfl rfl (Nat.le_of_ble_eq_true rfl) (by decide) [] rfl (by decide) [] rfl rfl rfl rfl ?_
  refine w_bz C 23 dX4_links_4 rfl (fun c_1 => ?_) (fun c_1 => ?_)
  · have hg : ¬ inR i := of_decide_eq_false (by assumption)
    refine w_iconst C dX4_links_23 ?_
    exact w_reti hret dX4_links_24 rfl rfl rfl rfl ⟨congrArg (fun z => some (Value.int (iI z))) (by unfold lk; first | (rw [if_neg hg]; done) | (unfold im_at; rw [if_pos hg, if_pos (by omega)]) | (unfold im_two; rw [if_pos hg, if_pos (by omega)])), rfl⟩
  · have hg : inR i := of_decide_eq_true (by assumption)
    have hg : inR i := of_decide_eq_true (by assumption)
    refine w_aload_n C 0 dX4_links_7 rfl ?_
    refine w_get C 0 0 110 dX4_links_8 rfl rfl inX4 (by decide) (by decide +kernel) rfl ?_
    refine w_iload_n C 1 dX4_links_11 rfl ?_
    refine w_callS (As := [.int (iI i)]) (rest := [.ref g]) (w2 := [(h, .inr (4, [.ref g, .long tk])), (g, .inr (2, [.ref b])), (b, .inl (gI G, 4096, .inl (arI d)))]) (st2 := [.int (iI (512 + i * 16)), .ref g]) C (ct_X4_placeOf G (kl k) i) gX4_19 dX4_links_12 rfl rfl (Nat.le_of_ble_eq_true rfl) (by decide) [] rfl (by decide) [] rfl rfl rfl rfl ?_
    refine w_iconst C dX4_links_15 ?_
    refine w_iadd C dX4_links_16 ?_
    refine w_callV (As := [.int (iI ((512 + i * 16) + 1))]) (rest := []) (w2 := [(h, .inr (4, [.ref g, .long tk])), (g, .inr (2, [.ref b])), (b, .inl (gI G, 4096, .inl (arI d)))]) (st2 := [.int (iI (im_at d ((512 + i * 16) + 1)))]) C (ct_X2_at G (kl k) g b d ((512 + i * 16) + 1) (by omega)) gX4_23 dX4_links_17 1 rfl rfl rfl rfl rfl (Nat.le_of_ble_eq_true rfl) (by decide) [1, 2] rfl (by decide) [g, b] rfl rfl rfl rfl ?_
    have f_2 := im_at_rg d ((512 + i * 16) + 1)
    refine w_goto C 24 dX4_links_20 rfl ?_
    exact w_reti hret dX4_links_24 rfl rfl rfl rfl ⟨congrArg (fun z => some (Value.int (iI z))) (by unfold lk; first | (rw [if_neg hg]; done) | (unfold im_at; rw [if_pos hg, if_pos (by omega)]) | (unfold im_two; rw [if_pos hg, if_pos (by omega)])), rfl⟩

theorem gX4_28 : cwv RX4 28 yX2_pairAt cX2_pairAt 2 (some .int) 1 447 363 364 66 365 := by decide +kernel
set_option maxHeartbeats 4000000 in
set_option maxRecDepth 100000 in
theorem ct_X4_size (G : GX) (l : Launch) (h : Nat) (g : Nat) (b : Nat) (tk : Int64) (d : Im) (i : Int) (hi : -2147483648 ≤ i ∧ i < 2147483648) : Ct G l yX4_size cX4_size 2 (some .int) rmX4_size [.ref h, .int (iI i)] [(h, .inr (4, [.ref g, .long tk])), (g, .inr (2, [.ref b])), (b, .inl (gI G, 4096, .inl (arI d)))] (some (.int (iI (sz d i)))) [(h, .inr (4, [.ref g, .long tk])), (g, .inr (2, [.ref b])), (b, .inl (gI G, 4096, .inl (arI d)))] := by
  refine Ct.of (by decide) (Nat.le_of_ble_eq_true rfl) ?_
  intro k C hl hret
  subst hl
  refine w_lv (lv2 := [(0, .ref h), (1, .int (iI i))]) [0, 1] rfl ?_
  refine w_iload_n C 1 dX4_size_0 rfl ?_
  refine w_callS (As := [.int (iI i)]) (rest := []) (w2 := [(h, .inr (4, [.ref g, .long tk])), (g, .inr (2, [.ref b])), (b, .inl (gI G, 4096, .inl (arI d)))]) (st2 := [.int (iI (bI (decide (inR i))))]) C (ct_X4_isNumber G (kl k) i (by omega)) gX4_15 dX4_size_1 rfl rfl (Nat.le_of_ble_eq_true rfl) (by decide) [] rfl (by decide) [] rfl rfl rfl rfl ?_
  refine w_bz C 23 dX4_size_4 rfl (fun c_1 => ?_) (fun c_1 => ?_)
  · have hg : ¬ inR i := of_decide_eq_false (by assumption)
    refine w_iconst C dX4_size_23 ?_
    exact w_reti hret dX4_size_24 rfl rfl rfl rfl ⟨congrArg (fun z => some (Value.int (iI z))) (by unfold sz; first | (rw [if_neg hg]; done) | (unfold im_at; rw [if_pos hg, if_pos (by omega)]) | (unfold im_two; rw [if_pos hg, if_pos (by omega)])), rfl⟩
  · have hg : inR i := of_decide_eq_true (by assumption)
    have hg : inR i := of_decide_eq_true (by assumption)
    refine w_aload_n C 0 dX4_size_7 rfl ?_
    refine w_get C 0 0 110 dX4_size_8 rfl rfl inX4 (by decide) (by decide +kernel) rfl ?_
    refine w_iload_n C 1 dX4_size_11 rfl ?_
    refine w_callS (As := [.int (iI i)]) (rest := [.ref g]) (w2 := [(h, .inr (4, [.ref g, .long tk])), (g, .inr (2, [.ref b])), (b, .inl (gI G, 4096, .inl (arI d)))]) (st2 := [.int (iI (512 + i * 16)), .ref g]) C (ct_X4_placeOf G (kl k) i) gX4_19 dX4_size_12 rfl rfl (Nat.le_of_ble_eq_true rfl) (by decide) [] rfl (by decide) [] rfl rfl rfl rfl ?_
    refine w_iconst C dX4_size_15 ?_
    refine w_iadd C dX4_size_16 ?_
    refine w_callV (As := [.int (iI ((512 + i * 16) + 2))]) (rest := []) (w2 := [(h, .inr (4, [.ref g, .long tk])), (g, .inr (2, [.ref b])), (b, .inl (gI G, 4096, .inl (arI d)))]) (st2 := [.int (iI (im_two d ((512 + i * 16) + 2)))]) C (ct_X2_pairAt G (kl k) g b d ((512 + i * 16) + 2) (by omega)) gX4_28 dX4_size_17 1 rfl rfl rfl rfl rfl (Nat.le_of_ble_eq_true rfl) (by decide) [1, 2] rfl (by decide) [g, b] rfl rfl rfl rfl ?_
    have f_2 := im_two_rg d ((512 + i * 16) + 2)
    refine w_goto C 24 dX4_size_20 rfl ?_
    exact w_reti hret dX4_size_24 rfl rfl rfl rfl ⟨congrArg (fun z => some (Value.int (iI z))) (by unfold sz; first | (rw [if_neg hg]; done) | (unfold im_at; rw [if_pos hg, if_pos (by omega)]) | (unfold im_two; rw [if_pos hg, if_pos (by omega)])), rfl⟩

theorem gX4_31 : cwv RX4 31 yX2_set cX2_set 3 none 2 505 332 333 66 334 := by decide +kernel
set_option maxHeartbeats 4000000 in
set_option maxRecDepth 100000 in
theorem ct_X4_setLinks (G : GX) (l : Launch) (h : Nat) (g : Nat) (b : Nat) (tk : Int64) (d : Im) (i : Int) (v : Int) (hi : 0 ≤ i ∧ i < 32) : Ct G l yX4_setLinks cX4_setLinks 3 none rmX4_setLinks [.ref h, .int (iI i), .int (iI v)] [(h, .inr (4, [.ref g, .long tk])), (g, .inr (2, [.ref b])), (b, .inl (gI G, 4096, .inl (arI d)))] none [(h, .inr (4, [.ref g, .long tk])), (g, .inr (2, [.ref b])), (b, .inl (gI G, 4096, .inl (arI (im_set d (512 + i * 16 + 1) v))))] := by
  refine Ct.of (by decide) (Nat.le_of_ble_eq_true rfl) ?_
  intro k C hl hret
  subst hl
  refine w_lv (lv2 := [(0, .ref h), (1, .int (iI i)), (2, .int (iI v))]) [0, 1, 2] rfl ?_
  refine w_aload_n C 0 dX4_setLinks_0 rfl ?_
  refine w_get C 0 0 110 dX4_setLinks_1 rfl rfl inX4 (by decide) (by decide +kernel) rfl ?_
  refine w_iload_n C 1 dX4_setLinks_4 rfl ?_
  refine w_callS (As := [.int (iI i)]) (rest := [.ref g]) (w2 := [(h, .inr (4, [.ref g, .long tk])), (g, .inr (2, [.ref b])), (b, .inl (gI G, 4096, .inl (arI d)))]) (st2 := [.int (iI (512 + i * 16)), .ref g]) C (ct_X4_placeOf G (kl k) i) gX4_19 dX4_setLinks_5 rfl rfl (Nat.le_of_ble_eq_true rfl) (by decide) [] rfl (by decide) [] rfl rfl rfl rfl ?_
  refine w_iconst C dX4_setLinks_8 ?_
  refine w_iadd C dX4_setLinks_9 ?_
  refine w_iload_n C 2 dX4_setLinks_10 rfl ?_
  refine w_callV (As := [.int (iI ((512 + i * 16) + 1)), .int (iI v)]) (rest := []) (w2 := [(h, .inr (4, [.ref g, .long tk])), (g, .inr (2, [.ref b])), (b, .inl (gI G, 4096, .inl (arI (im_set d ((512 + i * 16) + 1) v))))]) (st2 := []) C (ct_X2_set G (kl k) g b d ((512 + i * 16) + 1) v (by omega)) gX4_31 dX4_setLinks_11 1 rfl rfl rfl rfl rfl (Nat.le_of_ble_eq_true rfl) (by decide) [1, 2] rfl (by decide) [g, b] rfl rfl rfl rfl ?_
  exact w_retv hret dX4_setLinks_14 rfl rfl rfl ⟨rfl, rfl⟩

theorem gX4_35 : cwv RX4 35 yX2_setPair cX2_setPair 3 none 2 519 336 337 66 338 := by decide +kernel
set_option maxHeartbeats 4000000 in
set_option maxRecDepth 100000 in
theorem ct_X4_setSize (G : GX) (l : Launch) (h : Nat) (g : Nat) (b : Nat) (tk : Int64) (d : Im) (i : Int) (v : Int) (hi : 0 ≤ i ∧ i < 32) (hv : -2147483648 ≤ v ∧ v < 2147483648) : Ct G l yX4_setSize cX4_setSize 3 none rmX4_setSize [.ref h, .int (iI i), .int (iI v)] [(h, .inr (4, [.ref g, .long tk])), (g, .inr (2, [.ref b])), (b, .inl (gI G, 4096, .inl (arI d)))] none [(h, .inr (4, [.ref g, .long tk])), (g, .inr (2, [.ref b])), (b, .inl (gI G, 4096, .inl (arI (im_put d (512 + i * 16 + 2) v))))] := by
  refine Ct.of (by decide) (Nat.le_of_ble_eq_true rfl) ?_
  intro k C hl hret
  subst hl
  refine w_lv (lv2 := [(0, .ref h), (1, .int (iI i)), (2, .int (iI v))]) [0, 1, 2] rfl ?_
  refine w_aload_n C 0 dX4_setSize_0 rfl ?_
  refine w_get C 0 0 110 dX4_setSize_1 rfl rfl inX4 (by decide) (by decide +kernel) rfl ?_
  refine w_iload_n C 1 dX4_setSize_4 rfl ?_
  refine w_callS (As := [.int (iI i)]) (rest := [.ref g]) (w2 := [(h, .inr (4, [.ref g, .long tk])), (g, .inr (2, [.ref b])), (b, .inl (gI G, 4096, .inl (arI d)))]) (st2 := [.int (iI (512 + i * 16)), .ref g]) C (ct_X4_placeOf G (kl k) i) gX4_19 dX4_setSize_5 rfl rfl (Nat.le_of_ble_eq_true rfl) (by decide) [] rfl (by decide) [] rfl rfl rfl rfl ?_
  refine w_iconst C dX4_setSize_8 ?_
  refine w_iadd C dX4_setSize_9 ?_
  refine w_iload_n C 2 dX4_setSize_10 rfl ?_
  refine w_callV (As := [.int (iI ((512 + i * 16) + 2)), .int (iI v)]) (rest := []) (w2 := [(h, .inr (4, [.ref g, .long tk])), (g, .inr (2, [.ref b])), (b, .inl (gI G, 4096, .inl (arI (im_put d ((512 + i * 16) + 2) v))))]) (st2 := []) C (ct_X2_setPair G (kl k) g b d ((512 + i * 16) + 2) v (by omega) (by omega)) gX4_35 dX4_setSize_11 1 rfl rfl rfl rfl rfl (Nat.le_of_ble_eq_true rfl) (by decide) [1, 2] rfl (by decide) [g, b] rfl rfl rfl rfl ?_
  exact w_retv hret dX4_setSize_14 rfl rfl rfl ⟨rfl, rfl⟩

theorem gX4_38 : cwv RX4 38 yX2_sum cX2_sum 5 (some .int) 2 438 343 344 66 345 := by decide +kernel
set_option maxHeartbeats 4000000 in
set_option maxRecDepth 100000 in
theorem ct_X4_rightSum (G : GX) (l : Launch) (h : Nat) (g : Nat) (b : Nat) (tk : Int64) (d : Im) (i : Int) (hi : 0 ≤ i ∧ i < 32) : Ct G l yX4_rightSum cX4_rightSum 2 (some .int) rmX4_rightSum [.ref h, .int (iI i)] [(h, .inr (4, [.ref g, .long tk])), (g, .inr (2, [.ref b])), (b, .inl (gI G, 4096, .inl (arI d)))] (some (.int (iI (im_sum d (512 + i * 16) 14)))) [(h, .inr (4, [.ref g, .long tk])), (g, .inr (2, [.ref b])), (b, .inl (gI G, 4096, .inl (arI d)))] := by
  refine Ct.of (by decide) (Nat.le_of_ble_eq_true rfl) ?_
  intro k C hl hret
  subst hl
  refine w_lv (lv2 := [(0, .ref h), (1, .int (iI i))]) [0, 1] rfl ?_
  refine w_aload_n C 0 dX4_rightSum_0 rfl ?_
  refine w_get C 0 0 110 dX4_rightSum_1 rfl rfl inX4 (by decide) (by decide +kernel) rfl ?_
  refine w_iload_n C 1 dX4_rightSum_4 rfl ?_
  refine w_callS (As := [.int (iI i)]) (rest := [.ref g]) (w2 := [(h, .inr (4, [.ref g, .long tk])), (g, .inr (2, [.ref b])), (b, .inl (gI G, 4096, .inl (arI d)))]) (st2 := [.int (iI (512 + i * 16)), .ref g]) C (ct_X4_placeOf G (kl k) i) gX4_19 dX4_rightSum_5 rfl rfl (Nat.le_of_ble_eq_true rfl) (by decide) [] rfl (by decide) [] rfl rfl rfl rfl ?_
  refine w_bipush C dX4_rightSum_8 (by decide) ?_
  refine w_callV (As := [.int (iI (512 + i * 16)), .int (iI 14)]) (rest := []) (w2 := [(h, .inr (4, [.ref g, .long tk])), (g, .inr (2, [.ref b])), (b, .inl (gI G, 4096, .inl (arI d)))]) (st2 := [.int (iI (im_sum d (512 + i * 16) 14))]) C (ct_X2_sum G (kl k) g b d (512 + i * 16) 14 (by omega) (by omega)) gX4_38 dX4_rightSum_10 1 rfl rfl rfl rfl rfl (Nat.le_of_ble_eq_true rfl) (by decide) [1, 2] rfl (by decide) [g, b] rfl rfl rfl rfl ?_
  have f_1 := im_sum_rg d (512 + i * 16) 14
  exact w_reti hret dX4_rightSum_13 rfl rfl rfl rfl ⟨rfl, rfl⟩

theorem gX4_42 : cwv RX4 42 yX4_rightSum cX4_rightSum 2 (some .int) 1 672 435 436 67 437 := by decide +kernel
set_option maxHeartbeats 4000000 in
set_option maxRecDepth 100000 in
theorem ct_X4_writeSum (G : GX) (l : Launch) (h : Nat) (g : Nat) (b : Nat) (tk : Int64) (d : Im) (i : Int) (hi : 0 ≤ i ∧ i < 32) : Ct G l yX4_writeSum cX4_writeSum 2 none rmX4_writeSum [.ref h, .int (iI i)] [(h, .inr (4, [.ref g, .long tk])), (g, .inr (2, [.ref b])), (b, .inl (gI G, 4096, .inl (arI d)))] none [(h, .inr (4, [.ref g, .long tk])), (g, .inr (2, [.ref b])), (b, .inl (gI G, 4096, .inl (arI (ino_sum d i))))] := by
  refine Ct.of (by decide) (Nat.le_of_ble_eq_true rfl) ?_
  intro k C hl hret
  subst hl
  refine w_lv (lv2 := [(0, .ref h), (1, .int (iI i))]) [0, 1] rfl ?_
  refine w_aload_n C 0 dX4_writeSum_0 rfl ?_
  refine w_get C 0 0 110 dX4_writeSum_1 rfl rfl inX4 (by decide) (by decide +kernel) rfl ?_
  refine w_iload_n C 1 dX4_writeSum_4 rfl ?_
  refine w_callS (As := [.int (iI i)]) (rest := [.ref g]) (w2 := [(h, .inr (4, [.ref g, .long tk])), (g, .inr (2, [.ref b])), (b, .inl (gI G, 4096, .inl (arI d)))]) (st2 := [.int (iI (512 + i * 16)), .ref g]) C (ct_X4_placeOf G (kl k) i) gX4_19 dX4_writeSum_5 rfl rfl (Nat.le_of_ble_eq_true rfl) (by decide) [] rfl (by decide) [] rfl rfl rfl rfl ?_
  refine w_bipush C dX4_writeSum_8 (by decide) ?_
  refine w_iadd C dX4_writeSum_10 ?_
  refine w_aload_n C 0 dX4_writeSum_11 rfl ?_
  refine w_iload_n C 1 dX4_writeSum_12 rfl ?_
  refine w_callV (As := [.int (iI i)]) (rest := [.int (iI ((512 + i * 16) + 14)), .ref g]) (w2 := [(h, .inr (4, [.ref g, .long tk])), (g, .inr (2, [.ref b])), (b, .inl (gI G, 4096, .inl (arI d)))]) (st2 := [.int (iI (im_sum d (512 + i * 16) 14)), .int (iI ((512 + i * 16) + 14)), .ref g]) C (ct_X4_rightSum G (kl k) h g b tk d i (by omega)) gX4_42 dX4_writeSum_13 0 rfl rfl rfl rfl rfl (Nat.le_of_ble_eq_true rfl) (by decide) [0, 1, 2] rfl (by decide) [h, g, b] rfl rfl rfl rfl ?_
  have f_1 := im_sum_rg d (512 + i * 16) 14
  refine w_callV (As := [.int (iI ((512 + i * 16) + 14)), .int (iI (im_sum d (512 + i * 16) 14))]) (rest := []) (w2 := [(h, .inr (4, [.ref g, .long tk])), (g, .inr (2, [.ref b])), (b, .inl (gI G, 4096, .inl (arI (im_put d ((512 + i * 16) + 14) (im_sum d (512 + i * 16) 14)))))]) (st2 := []) C (ct_X2_setPair G (kl k) g b d ((512 + i * 16) + 14) (im_sum d (512 + i * 16) 14) (by omega) (by omega)) gX4_35 dX4_writeSum_16 1 rfl rfl rfl rfl rfl (Nat.le_of_ble_eq_true rfl) (by decide) [1, 2] rfl (by decide) [g, b] rfl rfl rfl rfl ?_
  exact w_retv hret dX4_writeSum_19 rfl rfl rfl ⟨rfl, rfl⟩

theorem gX4_45 : cwv RX4 45 yX4_size cX4_size 2 (some .int) 1 456 444 445 67 446 := by decide +kernel
set_option maxHeartbeats 4000000 in
set_option maxRecDepth 100000 in
theorem ct_X4_blockCount (G : GX) (l : Launch) (h : Nat) (g : Nat) (b : Nat) (tk : Int64) (d : Im) (i : Int) (hi : -2147483648 ≤ i ∧ i < 2147483648) : Ct G l yX4_blockCount cX4_blockCount 2 (some .int) rmX4_blockCount [.ref h, .int (iI i)] [(h, .inr (4, [.ref g, .long tk])), (g, .inr (2, [.ref b])), (b, .inl (gI G, 4096, .inl (arI d)))] (some (.int (iI (bc d i)))) [(h, .inr (4, [.ref g, .long tk])), (g, .inr (2, [.ref b])), (b, .inl (gI G, 4096, .inl (arI d)))] := by
  refine Ct.of (by decide) (Nat.le_of_ble_eq_true rfl) ?_
  intro k C hl hret
  subst hl
  refine w_lv (lv2 := [(0, .ref h), (1, .int (iI i))]) [0, 1] rfl ?_
  refine w_aload_n C 0 dX4_blockCount_0 rfl ?_
  refine w_iload_n C 1 dX4_blockCount_1 rfl ?_
  refine w_callV (As := [.int (iI i)]) (rest := []) (w2 := [(h, .inr (4, [.ref g, .long tk])), (g, .inr (2, [.ref b])), (b, .inl (gI G, 4096, .inl (arI d)))]) (st2 := [.int (iI (sz d i))]) C (ct_X4_size G (kl k) h g b tk d i (by omega)) gX4_45 dX4_blockCount_2 0 rfl rfl rfl rfl rfl (Nat.le_of_ble_eq_true rfl) (by decide) [0, 1, 2] rfl (by decide) [h, g, b] rfl rfl rfl rfl ?_
  have f_1 := sz_rg d i
  refine w_bipush C dX4_blockCount_5 (by decide) ?_
  refine w_iadd C dX4_blockCount_7 ?_
  refine w_iconst C dX4_blockCount_8 ?_
  refine w_isub C dX4_blockCount_9 ?_
  refine w_bipush C dX4_blockCount_10 (by decide) ?_
  refine w_idiv C dX4_blockCount_12 (by omega) ?_
  exact w_reti hret dX4_blockCount_13 rfl rfl rfl rfl ⟨congrArg (fun z => some (Value.int (iI z))) (by unfold bc; rw [show sz d i + 64 - 1 = sz d i + 63 by omega]), rfl⟩

set_option maxHeartbeats 4000000 in
set_option maxRecDepth 100000 in
theorem ct_X4_begin (G : GX) (l : Launch) (h : Nat) (g : Nat) (b : Nat) (tk : Int64) (d : Im) (i : Int) (v : Int) (hi : 0 ≤ i ∧ i < 32) : Ct G l yX4_begin cX4_begin 3 none rmX4_begin [.ref h, .int (iI i), .int (iI v)] [(h, .inr (4, [.ref g, .long tk])), (g, .inr (2, [.ref b])), (b, .inl (gI G, 4096, .inl (arI d)))] none [(h, .inr (4, [.ref g, .long tk])), (g, .inr (2, [.ref b])), (b, .inl (gI G, 4096, .inl (arI (im_set d (512 + i * 16) v))))] := by
  refine Ct.of (by decide) (Nat.le_of_ble_eq_true rfl) ?_
  intro k C hl hret
  subst hl
  refine w_lv (lv2 := [(0, .ref h), (1, .int (iI i)), (2, .int (iI v))]) [0, 1, 2] rfl ?_
  refine w_aload_n C 0 dX4_begin_0 rfl ?_
  refine w_get C 0 0 110 dX4_begin_1 rfl rfl inX4 (by decide) (by decide +kernel) rfl ?_
  refine w_iload_n C 1 dX4_begin_4 rfl ?_
  refine w_callS (As := [.int (iI i)]) (rest := [.ref g]) (w2 := [(h, .inr (4, [.ref g, .long tk])), (g, .inr (2, [.ref b])), (b, .inl (gI G, 4096, .inl (arI d)))]) (st2 := [.int (iI (512 + i * 16)), .ref g]) C (ct_X4_placeOf G (kl k) i) gX4_19 dX4_begin_5 rfl rfl (Nat.le_of_ble_eq_true rfl) (by decide) [] rfl (by decide) [] rfl rfl rfl rfl ?_
  refine w_iload_n C 2 dX4_begin_8 rfl ?_
  refine w_callV (As := [.int (iI (512 + i * 16)), .int (iI v)]) (rest := []) (w2 := [(h, .inr (4, [.ref g, .long tk])), (g, .inr (2, [.ref b])), (b, .inl (gI G, 4096, .inl (arI (im_set d (512 + i * 16) v))))]) (st2 := []) C (ct_X2_set G (kl k) g b d (512 + i * 16) v (by omega)) gX4_31 dX4_begin_9 1 rfl rfl rfl rfl rfl (Nat.le_of_ble_eq_true rfl) (by decide) [1, 2] rfl (by decide) [g, b] rfl rfl rfl rfl ?_
  exact w_retv hret dX4_begin_12 rfl rfl rfl ⟨rfl, rfl⟩

theorem gX4_78 : cwv RX4 78 yX2_wipe cX2_wipe 3 none 2 418 262 263 66 264 := by decide +kernel
set_option maxHeartbeats 4000000 in
set_option maxRecDepth 100000 in
theorem ct_X4_wipe (G : GX) (l : Launch) (h : Nat) (g : Nat) (b : Nat) (tk : Int64) (d : Im) (i : Int) (hi : 0 ≤ i ∧ i < 256) : Ct G l yX4_wipe cX4_wipe 2 none rmX4_wipe [.ref h, .int (iI i)] [(h, .inr (4, [.ref g, .long tk])), (g, .inr (2, [.ref b])), (b, .inl (gI G, 4096, .inl (arI d)))] none [(h, .inr (4, [.ref g, .long tk])), (g, .inr (2, [.ref b])), (b, .inl (gI G, 4096, .inl (arI (im_wipe d (512 + i * 16) 16))))] := by
  refine Ct.of (by decide) (Nat.le_of_ble_eq_true rfl) ?_
  intro k C hl hret
  subst hl
  refine w_lv (lv2 := [(0, .ref h), (1, .int (iI i))]) [0, 1] rfl ?_
  refine w_aload_n C 0 dX4_wipe_0 rfl ?_
  refine w_get C 0 0 110 dX4_wipe_1 rfl rfl inX4 (by decide) (by decide +kernel) rfl ?_
  refine w_iload_n C 1 dX4_wipe_4 rfl ?_
  refine w_callS (As := [.int (iI i)]) (rest := [.ref g]) (w2 := [(h, .inr (4, [.ref g, .long tk])), (g, .inr (2, [.ref b])), (b, .inl (gI G, 4096, .inl (arI d)))]) (st2 := [.int (iI (512 + i * 16)), .ref g]) C (ct_X4_placeOf G (kl k) i) gX4_19 dX4_wipe_5 rfl rfl (Nat.le_of_ble_eq_true rfl) (by decide) [] rfl (by decide) [] rfl rfl rfl rfl ?_
  refine w_bipush C dX4_wipe_8 (by decide) ?_
  refine w_callV (As := [.int (iI (512 + i * 16)), .int (iI 16)]) (rest := []) (w2 := [(h, .inr (4, [.ref g, .long tk])), (g, .inr (2, [.ref b])), (b, .inl (gI G, 4096, .inl (arI (im_wipe d (512 + i * 16) 16))))]) (st2 := []) C (ct_X2_wipe G (kl k) g b d (512 + i * 16) 16 (by omega) (by omega)) gX4_78 dX4_wipe_10 1 rfl rfl rfl rfl rfl (Nat.le_of_ble_eq_true rfl) (by decide) [1, 2] rfl (by decide) [g, b] rfl rfl rfl rfl ?_
  exact w_retv hret dX4_wipe_13 rfl rfl rfl ⟨rfl, rfl⟩

set_option maxHeartbeats 4000000 in
set_option maxRecDepth 100000 in
theorem ct_X4_taken (G : GX) (l : Launch) (h : Nat) (g : Nat) (b : Nat) (tk : Int64) (d : Im) : Ct G l yX4_taken cX4_taken 1 (some .long) rmX4_taken [.ref h] [(h, .inr (4, [.ref g, .long tk])), (g, .inr (2, [.ref b])), (b, .inl (gI G, 4096, .inl (arI d)))] (some (.long tk)) [(h, .inr (4, [.ref g, .long tk])), (g, .inr (2, [.ref b])), (b, .inl (gI G, 4096, .inl (arI d)))] := by
  refine Ct.of (by decide) (Nat.le_of_ble_eq_true rfl) ?_
  intro k C hl hret
  subst hl
  refine w_lv (lv2 := [(0, .ref h)]) [0] rfl ?_
  refine w_aload_n C 0 dX4_taken_0 rfl ?_
  refine w_get C 0 1 111 dX4_taken_1 rfl rfl inX4 (by decide) (by decide +kernel) rfl ?_
  exact w_retl hret dX4_taken_4 rfl rfl rfl ⟨rfl, rfl⟩

set_option maxHeartbeats 4000000 in
set_option maxRecDepth 100000 in
theorem ct_X4_forgetTaken (G : GX) (l : Launch) (h : Nat) (g : Nat) (b : Nat) (tk : Int64) (d : Im) : Ct G l yX4_forgetTaken cX4_forgetTaken 1 none rmX4_forgetTaken [.ref h] [(h, .inr (4, [.ref g, .long tk])), (g, .inr (2, [.ref b])), (b, .inl (gI G, 4096, .inl (arI d)))] none [(h, .inr (4, [.ref g, .long 0])), (g, .inr (2, [.ref b])), (b, .inl (gI G, 4096, .inl (arI d)))] := by
  refine Ct.of (by decide) (Nat.le_of_ble_eq_true rfl) ?_
  intro k C hl hret
  subst hl
  refine w_lv (lv2 := [(0, .ref h)]) [0] rfl ?_
  refine w_aload_n C 0 dX4_forgetTaken_0 rfl ?_
  refine w_lconst (v := 0) C dX4_forgetTaken_1 (by decide) ?_
  refine w_put (ty := .long) (ws2 := [(h, .inr (4, [.ref g, .long 0])), (g, .inr (2, [.ref b])), (b, .inl (gI G, 4096, .inl (arI d)))]) C 0 1 111 dX4_forgetTaken_2 rfl rfl inX4 tyX4_ok nmX4 (by decide) (by decide +kernel) rfl (by decide +kernel) rfl rfl (Nat.le_of_ble_eq_true rfl) rfl ?_
  exact w_retv hret dX4_forgetTaken_5 rfl rfl rfl ⟨rfl, rfl⟩

theorem gX4_48 : cwn RX4 48 yX10_isDataBlock cX10_isDataBlock 1 (some .boolean) 1 4 472 65 473 := by decide +kernel
set_option maxHeartbeats 4000000 in
set_option maxRecDepth 100000 in
theorem ct_X4_contentPlace (G : GX) (l : Launch) (h : Nat) (g : Nat) (b : Nat) (tk : Int64) (d : Im) (i : Int) (j : Int) (hi : -2147483648 ≤ i ∧ i < 2147483648) (hj : 0 ≤ j ∧ j < 2147483648) : Ct G l yX4_contentPlace cX4_contentPlace 6 (some .int) rmX4_contentPlace [.ref h, .int (iI i), .int (iI j)] [(h, .inr (4, [.ref g, .long tk])), (g, .inr (2, [.ref b])), (b, .inl (gI G, 4096, .inl (arI d)))] (some (.int (iI (cp d i j)))) [(h, .inr (4, [.ref g, .long tk])), (g, .inr (2, [.ref b])), (b, .inl (gI G, 4096, .inl (arI d)))] := by
  refine Ct.of (by decide) (Nat.le_of_ble_eq_true rfl) ?_
  intro k C hl hret
  subst hl
  refine w_lv (lv2 := [(0, .ref h), (1, .int (iI i)), (2, .int (iI j))]) [0, 1, 2] rfl ?_
  refine w_iload_n C 2 dX4_contentPlace_0 rfl ?_
  refine w_bipush C dX4_contentPlace_1 (by decide) ?_
  refine w_idiv C dX4_contentPlace_3 (by omega) ?_
  refine w_istore_n (lv2 := [(0, .ref h), (1, .int (iI i)), (2, .int (iI j)), (3, .int (iI (j / 64)))]) C dX4_contentPlace_4 (by decide) rfl ?_
  refine w_iload_n C 1 dX4_contentPlace_5 rfl ?_
  refine w_callS (As := [.int (iI i)]) (rest := []) (w2 := [(h, .inr (4, [.ref g, .long tk])), (g, .inr (2, [.ref b])), (b, .inl (gI G, 4096, .inl (arI d)))]) (st2 := [.int (iI (bI (decide (inR i))))]) C (ct_X4_isNumber G (kl k) i (by omega)) gX4_15 dX4_contentPlace_6 rfl rfl (Nat.le_of_ble_eq_true rfl) (by decide) [] rfl (by decide) [] rfl rfl rfl rfl ?_
  refine w_bz C 22 dX4_contentPlace_9 rfl (fun c_1 => ?_) (fun c_1 => ?_)
  · have hg : ¬ inR i := of_decide_eq_false (by assumption)
    refine w_iconst C dX4_contentPlace_22 ?_
    exact w_reti hret dX4_contentPlace_23 rfl rfl rfl rfl ⟨congrArg (fun z => some (Value.int (iI z))) (by unfold cp; rw [if_neg (fun z => by first | exact hg z.1 | omega)]), rfl⟩
  · have hg : inR i := of_decide_eq_true (by assumption)
    refine w_iload_n C 2 dX4_contentPlace_12 rfl ?_
    refine w_if_lt C 22 dX4_contentPlace_13 rfl (by omega) (fun c_2 => ?_) (fun c_2 => ?_)
    · omega
    · refine w_iload_n C 3 dX4_contentPlace_16 rfl ?_
      refine w_bipush C dX4_contentPlace_17 (by decide) ?_
      refine w_icmp_lt C 24 dX4_contentPlace_19 rfl (by omega) (fun c_3 => ?_) (fun c_3 => ?_)
      · refine w_iload_n C 1 dX4_contentPlace_24 rfl ?_
        refine w_callS (As := [.int (iI i)]) (rest := []) (w2 := [(h, .inr (4, [.ref g, .long tk])), (g, .inr (2, [.ref b])), (b, .inl (gI G, 4096, .inl (arI d)))]) (st2 := [.int (iI (512 + i * 16))]) C (ct_X4_placeOf G (kl k) i) gX4_19 dX4_contentPlace_25 rfl rfl (Nat.le_of_ble_eq_true rfl) (by decide) [] rfl (by decide) [] rfl rfl rfl rfl ?_
        refine w_iconst C dX4_contentPlace_28 ?_
        refine w_iadd C dX4_contentPlace_29 ?_
        refine w_iload_n C 3 dX4_contentPlace_30 rfl ?_
        refine w_iadd C dX4_contentPlace_31 ?_
        refine w_istore (lv2 := [(0, .ref h), (1, .int (iI i)), (2, .int (iI j)), (3, .int (iI (j / 64))), (4, .int (iI (((512 + i * 16) + 4) + (j / 64))))]) C dX4_contentPlace_32 (by decide) rfl ?_
        refine w_iload_n C 3 dX4_contentPlace_34 rfl ?_
        refine w_iconst C dX4_contentPlace_35 ?_
        refine w_icmp_lt C 76 dX4_contentPlace_36 rfl (by omega) (fun c_4 => ?_) (fun c_4 => ?_)
        · refine w_aload_n C 0 dX4_contentPlace_76 rfl ?_
          refine w_get C 0 0 110 dX4_contentPlace_77 rfl rfl inX4 (by decide) (by decide +kernel) rfl ?_
          refine w_iload C 4 dX4_contentPlace_80 rfl ?_
          refine w_callV (As := [.int (iI (((512 + i * 16) + 4) + (j / 64)))]) (rest := []) (w2 := [(h, .inr (4, [.ref g, .long tk])), (g, .inr (2, [.ref b])), (b, .inl (gI G, 4096, .inl (arI d)))]) (st2 := [.int (iI (im_at d (((512 + i * 16) + 4) + (j / 64))))]) C (ct_X2_at G (kl k) g b d (((512 + i * 16) + 4) + (j / 64)) (by omega)) gX4_23 dX4_contentPlace_82 1 rfl rfl rfl rfl rfl (Nat.le_of_ble_eq_true rfl) (by decide) [1, 2] rfl (by decide) [g, b] rfl rfl rfl rfl ?_
          have f_5 := im_at_rg d (((512 + i * 16) + 4) + (j / 64))
          have b9 := bk_rg d i (j / 64)
          refine w_st (st2 := [.int (iI (bk d i (j / 64)))]) (by rw [show im_at d (((512 + i * 16) + 4) + (j / 64)) = bk d i (j / 64) from by unfold bk im_at; first | (rw [if_pos (by omega), if_pos (by omega)]; done) | rw [if_pos (by omega), if_neg (by omega), if_pos hq]]) ?_
          refine w_istore (lv2 := [(0, .ref h), (1, .int (iI i)), (2, .int (iI j)), (3, .int (iI (j / 64))), (4, .int (iI (((512 + i * 16) + 4) + (j / 64)))), (5, .int (iI (bk d i (j / 64))))]) C dX4_contentPlace_85 (by decide) rfl ?_
          refine w_iload C 5 dX4_contentPlace_87 rfl ?_
          refine w_callN (As := [.int (iI (bk d i (j / 64)))]) (rest := []) (w2 := [(h, .inr (4, [.ref g, .long tk])), (g, .inr (2, [.ref b])), (b, .inl (gI G, 4096, .inl (arI d)))]) (st2 := [.int (iI (bI (decide (dat (bk d i (j / 64))))))]) C (ct_X10_isDataBlock G (kl k) (bk d i (j / 64)) (by omega)) gX4_48 dX4_contentPlace_89 rfl rfl (Nat.le_of_ble_eq_true rfl) (by decide) [] rfl (by decide) [] rfl rfl rfl rfl ?_
          refine w_bz C 108 dX4_contentPlace_92 rfl (fun c_6 => ?_) (fun c_6 => ?_)
          · refine w_iconst C dX4_contentPlace_108 ?_
            exact w_reti hret dX4_contentPlace_109 rfl rfl rfl rfl ⟨congrArg (fun z => some (Value.int (iI z))) (by unfold cp; first | rw [if_pos ⟨hg, by omega, of_decide_eq_true (by assumption)⟩] | rw [if_neg (fun z => by have := of_decide_eq_false (by assumption : decide (dat (bk d i (j / 64))) = false); exact this z.2.2)]), rfl⟩
          · refine w_iload C 5 dX4_contentPlace_95 rfl ?_
            refine w_bipush C dX4_contentPlace_97 (by decide) ?_
            refine w_imul C dX4_contentPlace_99 ?_
            refine w_iload_n C 2 dX4_contentPlace_100 rfl ?_
            refine w_bipush C dX4_contentPlace_101 (by decide) ?_
            refine w_irem C dX4_contentPlace_103 (by omega) ?_
            refine w_iadd C dX4_contentPlace_104 ?_
            refine w_goto C 109 dX4_contentPlace_105 rfl ?_
            exact w_reti hret dX4_contentPlace_109 rfl rfl rfl rfl ⟨congrArg (fun z => some (Value.int (iI z))) (by unfold cp; first | rw [if_pos ⟨hg, by omega, of_decide_eq_true (by assumption)⟩] | rw [if_neg (fun z => by have := of_decide_eq_false (by assumption : decide (dat (bk d i (j / 64))) = false); exact this z.2.2)]), rfl⟩
        · refine w_aload_n C 0 dX4_contentPlace_39 rfl ?_
          refine w_get C 0 0 110 dX4_contentPlace_40 rfl rfl inX4 (by decide) (by decide +kernel) rfl ?_
          refine w_iload_n C 1 dX4_contentPlace_43 rfl ?_
          refine w_callS (As := [.int (iI i)]) (rest := [.ref g]) (w2 := [(h, .inr (4, [.ref g, .long tk])), (g, .inr (2, [.ref b])), (b, .inl (gI G, 4096, .inl (arI d)))]) (st2 := [.int (iI (512 + i * 16)), .ref g]) C (ct_X4_placeOf G (kl k) i) gX4_19 dX4_contentPlace_44 rfl rfl (Nat.le_of_ble_eq_true rfl) (by decide) [] rfl (by decide) [] rfl rfl rfl rfl ?_
          refine w_bipush C dX4_contentPlace_47 (by decide) ?_
          refine w_iadd C dX4_contentPlace_49 ?_
          refine w_callV (As := [.int (iI ((512 + i * 16) + 9))]) (rest := []) (w2 := [(h, .inr (4, [.ref g, .long tk])), (g, .inr (2, [.ref b])), (b, .inl (gI G, 4096, .inl (arI d)))]) (st2 := [.int (iI (im_at d ((512 + i * 16) + 9)))]) C (ct_X2_at G (kl k) g b d ((512 + i * 16) + 9) (by omega)) gX4_23 dX4_contentPlace_50 1 rfl rfl rfl rfl rfl (Nat.le_of_ble_eq_true rfl) (by decide) [1, 2] rfl (by decide) [g, b] rfl rfl rfl rfl ?_
          have f_7 := im_at_rg d ((512 + i * 16) + 9)
          have e1 : im_at d (512 + i * 16 + 9) = d.1 (512 + i * 16 + 9) := by unfold im_at; rw [if_pos (by omega)]
          refine w_st (st2 := [.int (iI (d.1 (512 + i * 16 + 9)))]) (by rw [e1]) ?_
          refine w_istore (lv2 := [(0, .ref h), (1, .int (iI i)), (2, .int (iI j)), (3, .int (iI (j / 64))), (4, .int (iI (((512 + i * 16) + 4) + (j / 64)))), (5, .int (iI (d.1 (512 + i * 16 + 9))))]) C dX4_contentPlace_53 (by decide) rfl ?_
          refine w_iload C 5 dX4_contentPlace_55 rfl ?_
          refine w_callN (As := [.int (iI (d.1 (512 + i * 16 + 9)))]) (rest := []) (w2 := [(h, .inr (4, [.ref g, .long tk])), (g, .inr (2, [.ref b])), (b, .inl (gI G, 4096, .inl (arI d)))]) (st2 := [.int (iI (bI (decide (dat (d.1 (512 + i * 16 + 9))))))]) C (ct_X10_isDataBlock G (kl k) (d.1 (512 + i * 16 + 9)) (by omega)) gX4_48 dX4_contentPlace_57 rfl rfl (Nat.le_of_ble_eq_true rfl) (by decide) [] rfl (by decide) [] rfl rfl rfl rfl ?_
          refine w_bnz C 65 dX4_contentPlace_60 rfl (fun c_8 => ?_) (fun c_8 => ?_)
          · have hq : dat (d.1 (512 + i * 16 + 9)) := of_decide_eq_true (by assumption)
            refine w_iload C 5 dX4_contentPlace_65 rfl ?_
            refine w_bipush C dX4_contentPlace_67 (by decide) ?_
            refine w_imul C dX4_contentPlace_69 ?_
            refine w_iload_n C 3 dX4_contentPlace_70 rfl ?_
            refine w_iadd C dX4_contentPlace_71 ?_
            refine w_iconst C dX4_contentPlace_72 ?_
            refine w_isub C dX4_contentPlace_73 ?_
            refine w_istore (lv2 := [(0, .ref h), (1, .int (iI i)), (2, .int (iI j)), (3, .int (iI (j / 64))), (4, .int (iI ((((d.1 (512 + i * 16 + 9)) * 64) + (j / 64)) - 5))), (5, .int (iI (d.1 (512 + i * 16 + 9))))]) C dX4_contentPlace_74 (by decide) rfl ?_
            refine w_aload_n C 0 dX4_contentPlace_76 rfl ?_
            refine w_get C 0 0 110 dX4_contentPlace_77 rfl rfl inX4 (by decide) (by decide +kernel) rfl ?_
            refine w_iload C 4 dX4_contentPlace_80 rfl ?_
            refine w_callV (As := [.int (iI ((((d.1 (512 + i * 16 + 9)) * 64) + (j / 64)) - 5))]) (rest := []) (w2 := [(h, .inr (4, [.ref g, .long tk])), (g, .inr (2, [.ref b])), (b, .inl (gI G, 4096, .inl (arI d)))]) (st2 := [.int (iI (im_at d ((((d.1 (512 + i * 16 + 9)) * 64) + (j / 64)) - 5)))]) C (ct_X2_at G (kl k) g b d ((((d.1 (512 + i * 16 + 9)) * 64) + (j / 64)) - 5) (by omega)) gX4_23 dX4_contentPlace_82 1 rfl rfl rfl rfl rfl (Nat.le_of_ble_eq_true rfl) (by decide) [1, 2] rfl (by decide) [g, b] rfl rfl rfl rfl ?_
            have f_9 := im_at_rg d ((((d.1 (512 + i * 16 + 9)) * 64) + (j / 64)) - 5)
            have b9 := bk_rg d i (j / 64)
            refine w_st (st2 := [.int (iI (bk d i (j / 64)))]) (by rw [show im_at d ((((d.1 (512 + i * 16 + 9)) * 64) + (j / 64)) - 5) = bk d i (j / 64) from by unfold bk im_at; first | (rw [if_pos (by omega), if_pos (by omega)]; done) | rw [if_pos (by omega), if_neg (by omega), if_pos hq]]) ?_
            refine w_istore (lv2 := [(0, .ref h), (1, .int (iI i)), (2, .int (iI j)), (3, .int (iI (j / 64))), (4, .int (iI ((((d.1 (512 + i * 16 + 9)) * 64) + (j / 64)) - 5))), (5, .int (iI (bk d i (j / 64))))]) C dX4_contentPlace_85 (by decide) rfl ?_
            refine w_iload C 5 dX4_contentPlace_87 rfl ?_
            refine w_callN (As := [.int (iI (bk d i (j / 64)))]) (rest := []) (w2 := [(h, .inr (4, [.ref g, .long tk])), (g, .inr (2, [.ref b])), (b, .inl (gI G, 4096, .inl (arI d)))]) (st2 := [.int (iI (bI (decide (dat (bk d i (j / 64))))))]) C (ct_X10_isDataBlock G (kl k) (bk d i (j / 64)) (by omega)) gX4_48 dX4_contentPlace_89 rfl rfl (Nat.le_of_ble_eq_true rfl) (by decide) [] rfl (by decide) [] rfl rfl rfl rfl ?_
            refine w_bz C 108 dX4_contentPlace_92 rfl (fun c_10 => ?_) (fun c_10 => ?_)
            · refine w_iconst C dX4_contentPlace_108 ?_
              exact w_reti hret dX4_contentPlace_109 rfl rfl rfl rfl ⟨congrArg (fun z => some (Value.int (iI z))) (by unfold cp; first | rw [if_pos ⟨hg, by omega, of_decide_eq_true (by assumption)⟩] | rw [if_neg (fun z => by have := of_decide_eq_false (by assumption : decide (dat (bk d i (j / 64))) = false); exact this z.2.2)]), rfl⟩
            · refine w_iload C 5 dX4_contentPlace_95 rfl ?_
              refine w_bipush C dX4_contentPlace_97 (by decide) ?_
              refine w_imul C dX4_contentPlace_99 ?_
              refine w_iload_n C 2 dX4_contentPlace_100 rfl ?_
              refine w_bipush C dX4_contentPlace_101 (by decide) ?_
              refine w_irem C dX4_contentPlace_103 (by omega) ?_
              refine w_iadd C dX4_contentPlace_104 ?_
              refine w_goto C 109 dX4_contentPlace_105 rfl ?_
              exact w_reti hret dX4_contentPlace_109 rfl rfl rfl rfl ⟨congrArg (fun z => some (Value.int (iI z))) (by unfold cp; first | rw [if_pos ⟨hg, by omega, of_decide_eq_true (by assumption)⟩] | rw [if_neg (fun z => by have := of_decide_eq_false (by assumption : decide (dat (bk d i (j / 64))) = false); exact this z.2.2)]), rfl⟩
          · have hq : ¬ dat (d.1 (512 + i * 16 + 9)) := of_decide_eq_false (by assumption)
            refine w_iconst C dX4_contentPlace_63 ?_
            exact w_reti hret dX4_contentPlace_64 rfl rfl rfl rfl ⟨congrArg (fun z => some (Value.int (iI z))) (by unfold cp bk; rw [if_neg (fun z => by have z2 := z.2.2; rw [if_neg (by assumption), if_neg hq] at z2; omega)]), rfl⟩
      · refine w_iconst C dX4_contentPlace_22 ?_
        exact w_reti hret dX4_contentPlace_23 rfl rfl rfl rfl ⟨congrArg (fun z => some (Value.int (iI z))) (by unfold cp; rw [if_neg (fun z => by first | exact hg z.1 | omega)]), rfl⟩

set_option maxHeartbeats 4000000 in
set_option maxRecDepth 100000 in
theorem ct_X4_withBlock (G : GX) (l : Launch) (x : Int64) (q : Int) (hq : -2147483648 ≤ q ∧ q < 2147483648) : Ct G l yX4_withBlock cX4_withBlock 4 (some .long) rmX4_withBlock [.long x, .int (iI q)] [] (some (.long (wbk x q))) [] := by
  refine Ct.of (by decide) (Nat.le_of_ble_eq_true rfl) ?_
  intro k C hl hret
  subst hl
  refine w_lv (lv2 := [(0, .long x), (2, .int (iI q))]) [0, 1] rfl ?_
  refine w_iload_n C 1 dX4_withBlock_0 rfl ?_
  refine w_callN (As := [.int (iI q)]) (rest := []) (w2 := []) (st2 := [.int (iI (bI (decide (dat q))))]) C (ct_X10_isDataBlock G (kl k) q (by omega)) gX4_48 dX4_withBlock_1 rfl rfl (Nat.le_of_ble_eq_true rfl) (by decide) [] rfl (by decide) [] rfl rfl rfl rfl ?_
  refine w_bz C 21 dX4_withBlock_4 rfl (fun c_1 => ?_) (fun c_1 => ?_)
  · have hg : ¬ dat q := of_decide_eq_false (by assumption)
    refine w_iconst C dX4_withBlock_21 ?_
    refine w_st (st2 := [.int (iI (bI false))]) rfl ?_
    refine w_istore_n (lv2 := [(0, .long x), (2, .int (iI q)), (3, .int (iI (bI false)))]) C dX4_withBlock_22 (by decide) rfl ?_
    refine w_iload_n C 2 dX4_withBlock_23 rfl ?_
    refine w_bz C 35 dX4_withBlock_24 rfl (fun c_2 => ?_) (fun c_2 => ?_)
    · refine w_lload_n C 0 dX4_withBlock_35 rfl ?_
      refine w_lconst (v := 1) C dX4_withBlock_36 (by decide) ?_
      refine w_lor (v := x ||| 1) C dX4_withBlock_37 rfl ?_
      exact w_retl hret dX4_withBlock_38 rfl rfl rfl ⟨(by unfold wbk; first | exact absurd ‹false = true› (by decide) | (rw [if_pos ⟨hg, by assumption⟩]; done) | (rw [if_neg (fun z => hg z.1)]; done) | rw [if_neg (fun z => by simp_all)]), rfl⟩
    · refine w_lload_n C 0 dX4_withBlock_27 rfl ?_
      refine w_lconst (v := 1) C dX4_withBlock_28 (by decide) ?_
      refine w_iload_n C 1 dX4_withBlock_29 rfl ?_
      refine w_lshl (v := (1 : Int64) <<< ((iI q).toInt64 &&& 63)) C dX4_withBlock_30 rfl ?_
      refine w_lor (v := tset x q) C dX4_withBlock_31 rfl ?_
      refine w_goto C 38 dX4_withBlock_32 rfl ?_
      exact w_retl hret dX4_withBlock_38 rfl rfl rfl ⟨(by unfold wbk; first | exact absurd ‹false = true› (by decide) | (rw [if_pos ⟨hg, by assumption⟩]; done) | (rw [if_neg (fun z => hg z.1)]; done) | rw [if_neg (fun z => by simp_all)]), rfl⟩
  · have hg : dat q := of_decide_eq_true (by assumption)
    refine w_lload_n C 0 dX4_withBlock_7 rfl ?_
    refine w_iload_n C 1 dX4_withBlock_8 rfl ?_
    refine w_lshr (v := x >>> ((iI q).toInt64 &&& 63)) C dX4_withBlock_9 rfl ?_
    refine w_lconst (v := 1) C dX4_withBlock_10 (by decide) ?_
    refine w_land (v := (x >>> ((iI q).toInt64 &&& 63)) &&& 1) C dX4_withBlock_11 rfl ?_
    refine w_lconst (v := 0) C dX4_withBlock_12 (by decide) ?_
    refine w_lcmp C dX4_withBlock_13 ?_
    refine w_tbnz C 21 dX4_withBlock_14 rfl (by omega) (fun c_3 => ?_) (fun c_3 => ?_)
    · refine w_iconst C dX4_withBlock_21 ?_
      refine w_st (st2 := [.int (iI (bI false))]) rfl ?_
      refine w_istore_n (lv2 := [(0, .long x), (2, .int (iI q)), (3, .int (iI (bI false)))]) C dX4_withBlock_22 (by decide) rfl ?_
      refine w_iload_n C 2 dX4_withBlock_23 rfl ?_
      refine w_bz C 35 dX4_withBlock_24 rfl (fun c_4 => ?_) (fun c_4 => ?_)
      · refine w_lload_n C 0 dX4_withBlock_35 rfl ?_
        refine w_lconst (v := 1) C dX4_withBlock_36 (by decide) ?_
        refine w_lor (v := x ||| 1) C dX4_withBlock_37 rfl ?_
        exact w_retl hret dX4_withBlock_38 rfl rfl rfl ⟨(by unfold wbk; first | exact absurd ‹false = true› (by decide) | (rw [if_pos ⟨hg, by assumption⟩]; done) | (rw [if_neg (fun z => hg z.1)]; done) | rw [if_neg (fun z => by simp_all)]), rfl⟩
      · refine w_lload_n C 0 dX4_withBlock_27 rfl ?_
        refine w_lconst (v := 1) C dX4_withBlock_28 (by decide) ?_
        refine w_iload_n C 1 dX4_withBlock_29 rfl ?_
        refine w_lshl (v := (1 : Int64) <<< ((iI q).toInt64 &&& 63)) C dX4_withBlock_30 rfl ?_
        refine w_lor (v := tset x q) C dX4_withBlock_31 rfl ?_
        refine w_goto C 38 dX4_withBlock_32 rfl ?_
        exact w_retl hret dX4_withBlock_38 rfl rfl rfl ⟨(by unfold wbk; first | exact absurd ‹false = true› (by decide) | (rw [if_pos ⟨hg, by assumption⟩]; done) | (rw [if_neg (fun z => hg z.1)]; done) | rw [if_neg (fun z => by simp_all)]), rfl⟩
    · refine w_iconst C dX4_withBlock_17 ?_
      refine w_goto C 22 dX4_withBlock_18 rfl ?_
      refine w_st (st2 := [.int (iI (bI true))]) rfl ?_
      refine w_istore_n (lv2 := [(0, .long x), (2, .int (iI q)), (3, .int (iI (bI true)))]) C dX4_withBlock_22 (by decide) rfl ?_
      refine w_iload_n C 2 dX4_withBlock_23 rfl ?_
      refine w_bz C 35 dX4_withBlock_24 rfl (fun c_5 => ?_) (fun c_5 => ?_)
      · refine w_lload_n C 0 dX4_withBlock_35 rfl ?_
        refine w_lconst (v := 1) C dX4_withBlock_36 (by decide) ?_
        refine w_lor (v := x ||| 1) C dX4_withBlock_37 rfl ?_
        exact w_retl hret dX4_withBlock_38 rfl rfl rfl ⟨(by unfold wbk; first | exact absurd ‹false = true› (by decide) | (rw [if_pos ⟨hg, by assumption⟩]; done) | (rw [if_neg (fun z => hg z.1)]; done) | rw [if_neg (fun z => by simp_all)]), rfl⟩
      · refine w_lload_n C 0 dX4_withBlock_27 rfl ?_
        refine w_lconst (v := 1) C dX4_withBlock_28 (by decide) ?_
        refine w_iload_n C 1 dX4_withBlock_29 rfl ?_
        refine w_lshl (v := (1 : Int64) <<< ((iI q).toInt64 &&& 63)) C dX4_withBlock_30 rfl ?_
        refine w_lor (v := tset x q) C dX4_withBlock_31 rfl ?_
        refine w_goto C 38 dX4_withBlock_32 rfl ?_
        exact w_retl hret dX4_withBlock_38 rfl rfl rfl ⟨(by unfold wbk; first | exact absurd ‹false = true› (by decide) | (rw [if_pos ⟨hg, by assumption⟩]; done) | (rw [if_neg (fun z => hg z.1)]; done) | rw [if_neg (fun z => by simp_all)]), rfl⟩

theorem gX4_51 : cwv RX4 51 yX4_blockCount cX4_blockCount 2 (some .int) 1 466 453 454 67 455 := by decide +kernel
theorem gX4_57 : cws RX4 57 yX4_withBlock cX4_withBlock 4 (some .long) 2 474 475 67 476 := by decide +kernel
theorem gX4_54 : cwv RX4 54 yX4_contentPlace cX4_contentPlace 6 (some .int) 2 467 468 469 67 470 := by decide +kernel
set_option maxHeartbeats 4000000 in
set_option maxRecDepth 100000 in
theorem ct_X4_blocksOf (G : GX) (l : Launch) (h : Nat) (g : Nat) (b : Nat) (tk : Int64) (d : Im) (i : Int) (hi : 0 ≤ i ∧ i < 256) : Ct G l yX4_blocksOf cX4_blocksOf 7 (some .long) rmX4_blocksOf [.ref h, .int (iI i)] [(h, .inr (4, [.ref g, .long tk])), (g, .inr (2, [.ref b])), (b, .inl (gI G, 4096, .inl (arI d)))] (some (.long (bks d i))) [(h, .inr (4, [.ref g, .long tk])), (g, .inr (2, [.ref b])), (b, .inl (gI G, 4096, .inl (arI d)))] := by
  refine Ct.of (by decide) (Nat.le_of_ble_eq_true rfl) ?_
  intro k C hl hret
  subst hl
  refine w_lv (lv2 := [(0, .ref h), (1, .int (iI i))]) [0, 1] rfl ?_
  refine w_aload_n C 0 dX4_blocksOf_0 rfl ?_
  refine w_iload_n C 1 dX4_blocksOf_1 rfl ?_
  refine w_callV (As := [.int (iI i)]) (rest := []) (w2 := [(h, .inr (4, [.ref g, .long tk])), (g, .inr (2, [.ref b])), (b, .inl (gI G, 4096, .inl (arI d)))]) (st2 := [.int (iI (bc d i))]) C (ct_X4_blockCount G (kl k) h g b tk d i (by omega)) gX4_51 dX4_blocksOf_2 0 rfl rfl rfl rfl rfl (Nat.le_of_ble_eq_true rfl) (by decide) [0, 1, 2] rfl (by decide) [h, g, b] rfl rfl rfl rfl ?_
  have f_1 := bc_rg d i
  refine w_istore_n (lv2 := [(0, .ref h), (1, .int (iI i)), (2, .int (iI (bc d i)))]) C dX4_blocksOf_5 (by decide) rfl ?_
  refine w_lconst (v := 0) C dX4_blocksOf_6 (by decide) ?_
  refine w_lstore_n (lv2 := [(0, .ref h), (1, .int (iI i)), (2, .int (iI (bc d i))), (3, .long 0)]) C dX4_blocksOf_7 (by decide) rfl ?_
  refine w_iconst C dX4_blocksOf_8 ?_
  refine w_istore (lv2 := [(0, .ref h), (1, .int (iI i)), (2, .int (iI (bc d i))), (3, .long 0), (5, .int (iI 0))]) C dX4_blocksOf_9 (by decide) rfl ?_
  have L_11 : ∀ (nn_11 : Nat) (j : Int) (x : Int64), (0 ≤ j ∧ j ≤ bc d i ∧ j ≤ 46) → (x = bko d i j.toNat) → (bc d i - j).toNat = nn_11 → Wd G k 7 0 0 [(h, .inr (4, [.ref g, .long tk])), (g, .inr (2, [.ref b])), (b, .inl (gI G, 4096, .inl (arI d)))] 11 [(0, .ref h), (1, .int (iI i)), (2, .int (iI (bc d i))), (3, .long x), (5, .int (iI j))] [] := by
    intro nn_11
    induction nn_11 using Nat.strongRecOn with
    | ind nn_11 ih_11 =>
      intro j x h1 h2 hm_11
      have b9 := bc_rg d i
      refine w_iload C 4 dX4_blocksOf_11 rfl ?_
      refine w_iload_n C 2 dX4_blocksOf_13 rfl ?_
      refine w_icmp_ge C 62 dX4_blocksOf_14 rfl (by omega) (fun c_2 => ?_) (fun c_2 => ?_)
      · refine w_iload_n C 2 dX4_blocksOf_62 rfl ?_
        refine w_iconst C dX4_blocksOf_63 ?_
        refine w_icmp_le C 86 dX4_blocksOf_64 rfl (by omega) (fun c_3 => ?_) (fun c_3 => ?_)
        · refine w_lload_n C 3 dX4_blocksOf_86 rfl ?_
          exact w_retl hret dX4_blocksOf_87 rfl rfl rfl ⟨(by unfold bks; first | (exfalso; omega) | rw [if_pos (by omega), h2, show j = min (bc d i) 46 by omega] | rw [if_neg (by omega), h2, show j = min (bc d i) 46 by omega]), rfl⟩
        · have hi2 : inR i := by rcases Classical.em (inR i) with z | z; exact z; exact absurd (show bc d i = 0 by unfold bc sz; rw [if_neg z]; rfl) (by omega)
          refine w_lload_n C 3 dX4_blocksOf_67 rfl ?_
          refine w_aload_n C 0 dX4_blocksOf_68 rfl ?_
          refine w_get C 0 0 110 dX4_blocksOf_69 rfl rfl inX4 (by decide) (by decide +kernel) rfl ?_
          refine w_iload_n C 1 dX4_blocksOf_72 rfl ?_
          refine w_callS (As := [.int (iI i)]) (rest := [.ref g, .long x]) (w2 := [(h, .inr (4, [.ref g, .long tk])), (g, .inr (2, [.ref b])), (b, .inl (gI G, 4096, .inl (arI d)))]) (st2 := [.int (iI (512 + i * 16)), .ref g, .long x]) C (ct_X4_placeOf G (kl k) i) gX4_19 dX4_blocksOf_73 rfl rfl (Nat.le_of_ble_eq_true rfl) (by decide) [] rfl (by decide) [] rfl rfl rfl rfl ?_
          refine w_bipush C dX4_blocksOf_76 (by decide) ?_
          refine w_iadd C dX4_blocksOf_78 ?_
          refine w_callV (As := [.int (iI ((512 + i * 16) + 9))]) (rest := [.long x]) (w2 := [(h, .inr (4, [.ref g, .long tk])), (g, .inr (2, [.ref b])), (b, .inl (gI G, 4096, .inl (arI d)))]) (st2 := [.int (iI (im_at d ((512 + i * 16) + 9))), .long x]) C (ct_X2_at G (kl k) g b d ((512 + i * 16) + 9) (by omega)) gX4_23 dX4_blocksOf_79 1 rfl rfl rfl rfl rfl (Nat.le_of_ble_eq_true rfl) (by decide) [1, 2] rfl (by decide) [g, b] rfl rfl rfl rfl ?_
          have f_4 := im_at_rg d ((512 + i * 16) + 9)
          have e1 : im_at d (512 + i * 16 + 9) = d.1 (512 + i * 16 + 9) := by unfold im_at; rw [if_pos (by omega)]
          refine w_st (st2 := [.int (iI (d.1 (512 + i * 16 + 9))), .long x]) (by rw [e1]) ?_
          refine w_callS (As := [.long x, .int (iI (d.1 (512 + i * 16 + 9)))]) (rest := []) (w2 := [(h, .inr (4, [.ref g, .long tk])), (g, .inr (2, [.ref b])), (b, .inl (gI G, 4096, .inl (arI d)))]) (st2 := [.long (wbk x (d.1 (512 + i * 16 + 9)))]) C (ct_X4_withBlock G (kl k) x (d.1 (512 + i * 16 + 9)) (by omega)) gX4_57 dX4_blocksOf_82 rfl rfl (Nat.le_of_ble_eq_true rfl) (by decide) [] rfl (by decide) [] rfl rfl rfl rfl ?_
          refine w_lstore_n (lv2 := [(0, .ref h), (1, .int (iI i)), (2, .int (iI (bc d i))), (3, .long (wbk x (d.1 (512 + i * 16 + 9)))), (5, .int (iI j))]) C dX4_blocksOf_85 (by decide) rfl ?_
          refine w_lload_n C 3 dX4_blocksOf_86 rfl ?_
          exact w_retl hret dX4_blocksOf_87 rfl rfl rfl ⟨(by unfold bks; first | (exfalso; omega) | rw [if_pos (by omega), h2, show j = min (bc d i) 46 by omega] | rw [if_neg (by omega), h2, show j = min (bc d i) 46 by omega]), rfl⟩
      · refine w_iload C 4 dX4_blocksOf_17 rfl ?_
        refine w_bipush C dX4_blocksOf_19 (by decide) ?_
        refine w_icmp_ge C 62 dX4_blocksOf_21 rfl (by omega) (fun c_5 => ?_) (fun c_5 => ?_)
        · refine w_iload_n C 2 dX4_blocksOf_62 rfl ?_
          refine w_iconst C dX4_blocksOf_63 ?_
          refine w_icmp_le C 86 dX4_blocksOf_64 rfl (by omega) (fun c_6 => ?_) (fun c_6 => ?_)
          · refine w_lload_n C 3 dX4_blocksOf_86 rfl ?_
            exact w_retl hret dX4_blocksOf_87 rfl rfl rfl ⟨(by unfold bks; first | (exfalso; omega) | rw [if_pos (by omega), h2, show j = min (bc d i) 46 by omega] | rw [if_neg (by omega), h2, show j = min (bc d i) 46 by omega]), rfl⟩
          · have hi2 : inR i := by rcases Classical.em (inR i) with z | z; exact z; exact absurd (show bc d i = 0 by unfold bc sz; rw [if_neg z]; rfl) (by omega)
            refine w_lload_n C 3 dX4_blocksOf_67 rfl ?_
            refine w_aload_n C 0 dX4_blocksOf_68 rfl ?_
            refine w_get C 0 0 110 dX4_blocksOf_69 rfl rfl inX4 (by decide) (by decide +kernel) rfl ?_
            refine w_iload_n C 1 dX4_blocksOf_72 rfl ?_
            refine w_callS (As := [.int (iI i)]) (rest := [.ref g, .long x]) (w2 := [(h, .inr (4, [.ref g, .long tk])), (g, .inr (2, [.ref b])), (b, .inl (gI G, 4096, .inl (arI d)))]) (st2 := [.int (iI (512 + i * 16)), .ref g, .long x]) C (ct_X4_placeOf G (kl k) i) gX4_19 dX4_blocksOf_73 rfl rfl (Nat.le_of_ble_eq_true rfl) (by decide) [] rfl (by decide) [] rfl rfl rfl rfl ?_
            refine w_bipush C dX4_blocksOf_76 (by decide) ?_
            refine w_iadd C dX4_blocksOf_78 ?_
            refine w_callV (As := [.int (iI ((512 + i * 16) + 9))]) (rest := [.long x]) (w2 := [(h, .inr (4, [.ref g, .long tk])), (g, .inr (2, [.ref b])), (b, .inl (gI G, 4096, .inl (arI d)))]) (st2 := [.int (iI (im_at d ((512 + i * 16) + 9))), .long x]) C (ct_X2_at G (kl k) g b d ((512 + i * 16) + 9) (by omega)) gX4_23 dX4_blocksOf_79 1 rfl rfl rfl rfl rfl (Nat.le_of_ble_eq_true rfl) (by decide) [1, 2] rfl (by decide) [g, b] rfl rfl rfl rfl ?_
            have f_7 := im_at_rg d ((512 + i * 16) + 9)
            have e1 : im_at d (512 + i * 16 + 9) = d.1 (512 + i * 16 + 9) := by unfold im_at; rw [if_pos (by omega)]
            refine w_st (st2 := [.int (iI (d.1 (512 + i * 16 + 9))), .long x]) (by rw [e1]) ?_
            refine w_callS (As := [.long x, .int (iI (d.1 (512 + i * 16 + 9)))]) (rest := []) (w2 := [(h, .inr (4, [.ref g, .long tk])), (g, .inr (2, [.ref b])), (b, .inl (gI G, 4096, .inl (arI d)))]) (st2 := [.long (wbk x (d.1 (512 + i * 16 + 9)))]) C (ct_X4_withBlock G (kl k) x (d.1 (512 + i * 16 + 9)) (by omega)) gX4_57 dX4_blocksOf_82 rfl rfl (Nat.le_of_ble_eq_true rfl) (by decide) [] rfl (by decide) [] rfl rfl rfl rfl ?_
            refine w_lstore_n (lv2 := [(0, .ref h), (1, .int (iI i)), (2, .int (iI (bc d i))), (3, .long (wbk x (d.1 (512 + i * 16 + 9)))), (5, .int (iI j))]) C dX4_blocksOf_85 (by decide) rfl ?_
            refine w_lload_n C 3 dX4_blocksOf_86 rfl ?_
            exact w_retl hret dX4_blocksOf_87 rfl rfl rfl ⟨(by unfold bks; first | (exfalso; omega) | rw [if_pos (by omega), h2, show j = min (bc d i) 46 by omega] | rw [if_neg (by omega), h2, show j = min (bc d i) 46 by omega]), rfl⟩
        · refine w_aload_n C 0 dX4_blocksOf_24 rfl ?_
          refine w_iload_n C 1 dX4_blocksOf_25 rfl ?_
          refine w_iload C 4 dX4_blocksOf_26 rfl ?_
          refine w_bipush C dX4_blocksOf_28 (by decide) ?_
          refine w_imul C dX4_blocksOf_30 ?_
          refine w_callV (As := [.int (iI i), .int (iI (j * 64))]) (rest := []) (w2 := [(h, .inr (4, [.ref g, .long tk])), (g, .inr (2, [.ref b])), (b, .inl (gI G, 4096, .inl (arI d)))]) (st2 := [.int (iI (cp d i (j * 64)))]) C (ct_X4_contentPlace G (kl k) h g b tk d i (j * 64) (by omega) (by omega)) gX4_54 dX4_blocksOf_31 0 rfl rfl rfl rfl rfl (Nat.le_of_ble_eq_true rfl) (by decide) [0, 1, 2] rfl (by decide) [h, g, b] rfl rfl rfl rfl ?_
          have f_8 := cp_rg d i (j * 64)
          refine w_istore (lv2 := [(0, .ref h), (1, .int (iI i)), (2, .int (iI (bc d i))), (3, .long x), (5, .int (iI j)), (6, .int (iI (cp d i (j * 64))))]) C dX4_blocksOf_34 (by decide) rfl ?_
          refine w_lload_n C 3 dX4_blocksOf_36 rfl ?_
          refine w_iload C 5 dX4_blocksOf_37 rfl ?_
          refine w_iconst C dX4_blocksOf_39 ?_
          refine w_icmp_ne C 47 dX4_blocksOf_40 rfl (by omega) (fun c_9 => ?_) (fun c_9 => ?_)
          · refine w_iload C 5 dX4_blocksOf_47 rfl ?_
            refine w_bipush C dX4_blocksOf_49 (by decide) ?_
            refine w_idiv C dX4_blocksOf_51 (by omega) ?_
            refine w_callS (As := [.long x, .int (iI ((cp d i (j * 64)) / 64))]) (rest := []) (w2 := [(h, .inr (4, [.ref g, .long tk])), (g, .inr (2, [.ref b])), (b, .inl (gI G, 4096, .inl (arI d)))]) (st2 := [.long (wbk x ((cp d i (j * 64)) / 64))]) C (ct_X4_withBlock G (kl k) x ((cp d i (j * 64)) / 64) (by omega)) gX4_57 dX4_blocksOf_52 rfl rfl (Nat.le_of_ble_eq_true rfl) (by decide) [] rfl (by decide) [] rfl rfl rfl rfl ?_
            refine w_lstore_n (lv2 := [(0, .ref h), (1, .int (iI i)), (2, .int (iI (bc d i))), (3, .long (wbk x ((cp d i (j * 64)) / 64))), (5, .int (iI j)), (6, .int (iI (cp d i (j * 64))))]) C dX4_blocksOf_55 (by decide) rfl ?_
            refine w_iinc (lv2 := [(0, .ref h), (1, .int (iI i)), (2, .int (iI (bc d i))), (3, .long (wbk x ((cp d i (j * 64)) / 64))), (5, .int (iI (j + 1))), (6, .int (iI (cp d i (j * 64))))]) C 4 dX4_blocksOf_56 rfl (by decide) rfl ?_
            refine w_goto C 11 dX4_blocksOf_59 rfl ?_
            refine w_lv (lv2 := [(0, .ref h), (1, .int (iI i)), (2, .int (iI (bc d i))), (3, .long (wbk x ((cp d i (j * 64)) / 64))), (5, .int (iI (j + 1)))]) [0, 1, 2, 3, 4] rfl ?_
            exact ih_11 _ (by omega) (j + 1) (wbk x ((cp d i (j * 64)) / 64)) (by omega) (by rw [h2, show (j + 1).toNat = j.toNat + 1 by omega, bko, show ((j.toNat : Nat) : Int) = j by omega]; first | rw [if_pos (by assumption)] | rw [if_neg (by assumption)]) rfl
          · refine w_iconst C dX4_blocksOf_43 ?_
            refine w_goto C 52 dX4_blocksOf_44 rfl ?_
            refine w_callS (As := [.long x, .int (iI 0)]) (rest := []) (w2 := [(h, .inr (4, [.ref g, .long tk])), (g, .inr (2, [.ref b])), (b, .inl (gI G, 4096, .inl (arI d)))]) (st2 := [.long (wbk x 0)]) C (ct_X4_withBlock G (kl k) x 0 (by omega)) gX4_57 dX4_blocksOf_52 rfl rfl (Nat.le_of_ble_eq_true rfl) (by decide) [] rfl (by decide) [] rfl rfl rfl rfl ?_
            refine w_lstore_n (lv2 := [(0, .ref h), (1, .int (iI i)), (2, .int (iI (bc d i))), (3, .long (wbk x 0)), (5, .int (iI j)), (6, .int (iI (cp d i (j * 64))))]) C dX4_blocksOf_55 (by decide) rfl ?_
            refine w_iinc (lv2 := [(0, .ref h), (1, .int (iI i)), (2, .int (iI (bc d i))), (3, .long (wbk x 0)), (5, .int (iI (j + 1))), (6, .int (iI (cp d i (j * 64))))]) C 4 dX4_blocksOf_56 rfl (by decide) rfl ?_
            refine w_goto C 11 dX4_blocksOf_59 rfl ?_
            refine w_lv (lv2 := [(0, .ref h), (1, .int (iI i)), (2, .int (iI (bc d i))), (3, .long (wbk x 0)), (5, .int (iI (j + 1)))]) [0, 1, 2, 3, 4] rfl ?_
            exact ih_11 _ (by omega) (j + 1) (wbk x 0) (by omega) (by rw [h2, show (j + 1).toNat = j.toNat + 1 by omega, bko, show ((j.toNat : Nat) : Int) = j by omega]; first | rw [if_pos (by assumption)] | rw [if_neg (by assumption)]) rfl
  exact L_11 _ 0 0 (by omega) rfl rfl
