set_option maxHeartbeats 4000000 in
set_option maxRecDepth 100000 in
theorem ct_X2_at (G : GX) (l : Launch) (h : Nat) (b : Nat) (d : Im) (p : Int) (hp : -2147483648 ≤ p ∧ p < 2147483648) : Ct G l yX2_at cX2_at 2 (some .int) rmX2_at [.ref h, .int (iI p)] [(h, .inr (2, [.ref b])), (b, .inl (gI G, 4096, .inl (arI d)))] (some (.int (iI (im_at d p)))) [(h, .inr (2, [.ref b])), (b, .inl (gI G, 4096, .inl (arI d)))] := by
  refine Ct.of (by decide) (Nat.le_of_ble_eq_true rfl) ?_
  intro k C hl hret
  subst hl
  refine w_lv (lv2 := [(0, .ref h), (1, .int (iI p))]) [0, 1] rfl ?_
  refine w_iload_n C 1 dX2_at_0 rfl ?_
  refine w_if_lt C 20 dX2_at_1 rfl (by omega) (fun c_1 => ?_) (fun c_1 => ?_)
  · refine w_iconst C dX2_at_20 ?_
    exact w_reti hret dX2_at_21 rfl rfl rfl rfl ⟨congrArg (fun z => some (Value.int (iI z))) (by unfold im_at; split <;> first | rfl | omega), rfl⟩
  · refine w_iload_n C 1 dX2_at_4 rfl ?_
    refine w_sipush C dX2_at_5 (by decide) ?_
    refine w_icmp_ge C 20 dX2_at_8 rfl (by omega) (fun c_2 => ?_) (fun c_2 => ?_)
    · refine w_iconst C dX2_at_20 ?_
      exact w_reti hret dX2_at_21 rfl rfl rfl rfl ⟨congrArg (fun z => some (Value.int (iI z))) (by unfold im_at; split <;> first | rfl | omega), rfl⟩
    · refine w_aload_n C 0 dX2_at_11 rfl ?_
      refine w_get C 0 0 99 dX2_at_12 rfl rfl inX2 (by decide) (by decide +kernel) rfl ?_
      refine w_iload_n C 1 dX2_at_15 rfl ?_
      refine w_iald C 1 dX2_at_16 rfl (by omega) ?_
      have b_3 := d.2 p
      refine w_goto C 21 dX2_at_17 rfl ?_
      exact w_reti hret dX2_at_21 rfl rfl rfl rfl ⟨congrArg (fun z => some (Value.int (iI z))) (by unfold im_at; split <;> first | rfl | omega), rfl⟩

set_option maxHeartbeats 4000000 in
set_option maxRecDepth 100000 in
theorem ct_X2_set (G : GX) (l : Launch) (h : Nat) (b : Nat) (d : Im) (p : Int) (v : Int) (hp : -2147483648 ≤ p ∧ p < 2147483648) : Ct G l yX2_set cX2_set 3 none rmX2_set [.ref h, .int (iI p), .int (iI v)] [(h, .inr (2, [.ref b])), (b, .inl (gI G, 4096, .inl (arI d)))] none [(h, .inr (2, [.ref b])), (b, .inl (gI G, 4096, .inl (arI (im_set d p v))))] := by
  refine Ct.of (by decide) (Nat.le_of_ble_eq_true rfl) ?_
  intro k C hl hret
  subst hl
  refine w_lv (lv2 := [(0, .ref h), (1, .int (iI p)), (2, .int (iI v))]) [0, 1, 2] rfl ?_
  refine w_iload_n C 1 dX2_set_0 rfl ?_
  refine w_if_lt C 22 dX2_set_1 rfl (by omega) (fun c_1 => ?_) (fun c_1 => ?_)
  · exact w_retv hret dX2_set_22 rfl rfl rfl ⟨rfl, (by unfold im_set; first | rw [if_pos (by omega), up_mod] | rw [if_neg (by omega)])⟩
  · refine w_iload_n C 1 dX2_set_4 rfl ?_
    refine w_sipush C dX2_set_5 (by decide) ?_
    refine w_icmp_ge C 22 dX2_set_8 rfl (by omega) (fun c_2 => ?_) (fun c_2 => ?_)
    · exact w_retv hret dX2_set_22 rfl rfl rfl ⟨rfl, (by unfold im_set; first | rw [if_pos (by omega), up_mod] | rw [if_neg (by omega)])⟩
    · refine w_aload_n C 0 dX2_set_11 rfl ?_
      refine w_get C 0 0 99 dX2_set_12 rfl rfl inX2 (by decide) (by decide +kernel) rfl ?_
      refine w_iload_n C 1 dX2_set_15 rfl ?_
      refine w_iload_n C 2 dX2_set_16 rfl ?_
      refine w_sipush C dX2_set_17 (by decide) ?_
      refine w_iandm (q := 256) C 8 dX2_set_20 (by decide) (by decide) (by decide) ?_
      refine w_iast (ws2 := [(h, .inr (2, [.ref b])), (b, .inl (gI G, 4096, .inl (arI (up d p (v % 256)))))]) C 1 dX2_set_21 rfl (by omega) (by omega) rfl ?_
      exact w_retv hret dX2_set_22 rfl rfl rfl ⟨rfl, (by unfold im_set; first | rw [if_pos (by omega), up_mod] | rw [if_neg (by omega)])⟩

set_option maxHeartbeats 4000000 in
set_option maxRecDepth 100000 in
theorem ct_X2_pairAt (G : GX) (l : Launch) (h : Nat) (b : Nat) (d : Im) (p : Int) (hp : -2147483648 ≤ p ∧ p < 2147483648) : Ct G l yX2_pairAt cX2_pairAt 2 (some .int) rmX2_pairAt [.ref h, .int (iI p)] [(h, .inr (2, [.ref b])), (b, .inl (gI G, 4096, .inl (arI d)))] (some (.int (iI (im_two d p)))) [(h, .inr (2, [.ref b])), (b, .inl (gI G, 4096, .inl (arI d)))] := by
  refine Ct.of (by decide) (Nat.le_of_ble_eq_true rfl) ?_
  intro k C hl hret
  subst hl
  refine w_lv (lv2 := [(0, .ref h), (1, .int (iI p))]) [0, 1] rfl ?_
  refine w_iload_n C 1 dX2_pairAt_0 rfl ?_
  refine w_if_lt C 33 dX2_pairAt_1 rfl (by omega) (fun c_1 => ?_) (fun c_1 => ?_)
  · refine w_iconst C dX2_pairAt_33 ?_
    exact w_reti hret dX2_pairAt_34 rfl rfl rfl rfl ⟨congrArg (fun z => some (Value.int (iI z))) (by unfold im_two; split <;> first | rfl | omega), rfl⟩
  · refine w_iload_n C 1 dX2_pairAt_4 rfl ?_
    refine w_sipush C dX2_pairAt_5 (by decide) ?_
    refine w_icmp_ge C 33 dX2_pairAt_8 rfl (by omega) (fun c_2 => ?_) (fun c_2 => ?_)
    · refine w_iconst C dX2_pairAt_33 ?_
      exact w_reti hret dX2_pairAt_34 rfl rfl rfl rfl ⟨congrArg (fun z => some (Value.int (iI z))) (by unfold im_two; split <;> first | rfl | omega), rfl⟩
    · refine w_aload_n C 0 dX2_pairAt_11 rfl ?_
      refine w_get C 0 0 99 dX2_pairAt_12 rfl rfl inX2 (by decide) (by decide +kernel) rfl ?_
      refine w_iload_n C 1 dX2_pairAt_15 rfl ?_
      refine w_iald C 1 dX2_pairAt_16 rfl (by omega) ?_
      have b_3 := d.2 p
      refine w_sipush C dX2_pairAt_17 (by decide) ?_
      refine w_imul C dX2_pairAt_20 ?_
      refine w_aload_n C 0 dX2_pairAt_21 rfl ?_
      refine w_get C 0 0 99 dX2_pairAt_22 rfl rfl inX2 (by decide) (by decide +kernel) rfl ?_
      refine w_iload_n C 1 dX2_pairAt_25 rfl ?_
      refine w_iconst C dX2_pairAt_26 ?_
      refine w_iadd C dX2_pairAt_27 ?_
      refine w_iald C 1 dX2_pairAt_28 rfl (by omega) ?_
      have b_4 := d.2 (p + 1)
      refine w_iadd C dX2_pairAt_29 ?_
      refine w_goto C 34 dX2_pairAt_30 rfl ?_
      exact w_reti hret dX2_pairAt_34 rfl rfl rfl rfl ⟨congrArg (fun z => some (Value.int (iI z))) (by unfold im_two; split <;> first | rfl | omega), rfl⟩

set_option maxHeartbeats 4000000 in
set_option maxRecDepth 100000 in
theorem ct_X2_setPair (G : GX) (l : Launch) (h : Nat) (b : Nat) (d : Im) (p : Int) (v : Int) (hp : -2147483648 ≤ p ∧ p < 2147483648) (hv : -2147483648 ≤ v ∧ v < 2147483648) : Ct G l yX2_setPair cX2_setPair 3 none rmX2_setPair [.ref h, .int (iI p), .int (iI v)] [(h, .inr (2, [.ref b])), (b, .inl (gI G, 4096, .inl (arI d)))] none [(h, .inr (2, [.ref b])), (b, .inl (gI G, 4096, .inl (arI (im_put d p v))))] := by
  refine Ct.of (by decide) (Nat.le_of_ble_eq_true rfl) ?_
  intro k C hl hret
  subst hl
  refine w_lv (lv2 := [(0, .ref h), (1, .int (iI p)), (2, .int (iI v))]) [0, 1, 2] rfl ?_
  refine w_iload_n C 1 dX2_setPair_0 rfl ?_
  refine w_if_lt C 38 dX2_setPair_1 rfl (by omega) (fun c_1 => ?_) (fun c_1 => ?_)
  · exact w_retv hret dX2_setPair_38 rfl rfl rfl ⟨rfl, (by unfold im_put; first | rw [if_pos (by omega), up_mod, up_mod] | rw [if_neg (by omega)])⟩
  · refine w_iload_n C 1 dX2_setPair_4 rfl ?_
    refine w_sipush C dX2_setPair_5 (by decide) ?_
    refine w_icmp_ge C 38 dX2_setPair_8 rfl (by omega) (fun c_2 => ?_) (fun c_2 => ?_)
    · exact w_retv hret dX2_setPair_38 rfl rfl rfl ⟨rfl, (by unfold im_put; first | rw [if_pos (by omega), up_mod, up_mod] | rw [if_neg (by omega)])⟩
    · refine w_aload_n C 0 dX2_setPair_11 rfl ?_
      refine w_get C 0 0 99 dX2_setPair_12 rfl rfl inX2 (by decide) (by decide +kernel) rfl ?_
      refine w_iload_n C 1 dX2_setPair_15 rfl ?_
      refine w_iload_n C 2 dX2_setPair_16 rfl ?_
      refine w_bipush C dX2_setPair_17 (by decide) ?_
      refine w_ishr (v := (iI (v / 256))) C dX2_setPair_19 (iI_shr hv _ 8 (by decide)) ?_
      refine w_sipush C dX2_setPair_20 (by decide) ?_
      refine w_iandm (q := 256) C 8 dX2_setPair_23 (by decide) (by decide) (by decide) ?_
      refine w_iast (ws2 := [(h, .inr (2, [.ref b])), (b, .inl (gI G, 4096, .inl (arI (up d p ((v / 256) % 256)))))]) C 1 dX2_setPair_24 rfl (by omega) (by omega) rfl ?_
      refine w_aload_n C 0 dX2_setPair_25 rfl ?_
      refine w_get C 0 0 99 dX2_setPair_26 rfl rfl inX2 (by decide) (by decide +kernel) rfl ?_
      refine w_iload_n C 1 dX2_setPair_29 rfl ?_
      refine w_iconst C dX2_setPair_30 ?_
      refine w_iadd C dX2_setPair_31 ?_
      refine w_iload_n C 2 dX2_setPair_32 rfl ?_
      refine w_sipush C dX2_setPair_33 (by decide) ?_
      refine w_iandm (q := 256) C 8 dX2_setPair_36 (by decide) (by decide) (by decide) ?_
      refine w_iast (ws2 := [(h, .inr (2, [.ref b])), (b, .inl (gI G, 4096, .inl (arI (up (up d p ((v / 256) % 256)) (p + 1) (v % 256)))))]) C 1 dX2_setPair_37 rfl (by omega) (by omega) rfl ?_
      exact w_retv hret dX2_setPair_38 rfl rfl rfl ⟨rfl, (by unfold im_put; first | rw [if_pos (by omega), up_mod, up_mod] | rw [if_neg (by omega)])⟩

set_option maxHeartbeats 4000000 in
set_option maxRecDepth 100000 in
theorem ct_X2_isRange (G : GX) (l : Launch) (p : Int) (n : Int) (hp : -2147483648 ≤ p ∧ p < 2147483648) (hn : -2147483648 ≤ n ∧ n < 2147483648) : Ct G l yX2_isRange cX2_isRange 2 (some .boolean) rmX2_isRange [.int (iI p), .int (iI n)] [] (some (.int (iI (bI (decide (rgP p n)))))) [] := by
  refine Ct.of (by decide) (Nat.le_of_ble_eq_true rfl) ?_
  intro k C hl hret
  subst hl
  refine w_lv (lv2 := [(0, .int (iI p)), (1, .int (iI n))]) [0, 1] rfl ?_
  refine w_iload_n C 0 dX2_isRange_0 rfl ?_
  refine w_if_lt C 28 dX2_isRange_1 rfl (by omega) (fun c_1 => ?_) (fun c_1 => ?_)
  · refine w_iconst C dX2_isRange_28 ?_
    exact w_reti hret dX2_isRange_29 rfl rfl rfl rfl ⟨congrArg (fun z => some (Value.int (iI z))) (by first | exact (bI_t (by omega)).symm | exact (bI_f (by omega)).symm), rfl⟩
  · refine w_iload_n C 0 dX2_isRange_4 rfl ?_
    refine w_sipush C dX2_isRange_5 (by decide) ?_
    refine w_icmp_gt C 28 dX2_isRange_8 rfl (by omega) (fun c_2 => ?_) (fun c_2 => ?_)
    · refine w_iconst C dX2_isRange_28 ?_
      exact w_reti hret dX2_isRange_29 rfl rfl rfl rfl ⟨congrArg (fun z => some (Value.int (iI z))) (by first | exact (bI_t (by omega)).symm | exact (bI_f (by omega)).symm), rfl⟩
    · refine w_iload_n C 1 dX2_isRange_11 rfl ?_
      refine w_if_lt C 28 dX2_isRange_12 rfl (by omega) (fun c_3 => ?_) (fun c_3 => ?_)
      · refine w_iconst C dX2_isRange_28 ?_
        exact w_reti hret dX2_isRange_29 rfl rfl rfl rfl ⟨congrArg (fun z => some (Value.int (iI z))) (by first | exact (bI_t (by omega)).symm | exact (bI_f (by omega)).symm), rfl⟩
      · refine w_iload_n C 1 dX2_isRange_15 rfl ?_
        refine w_sipush C dX2_isRange_16 (by decide) ?_
        refine w_iload_n C 0 dX2_isRange_19 rfl ?_
        refine w_isub C dX2_isRange_20 ?_
        refine w_icmp_gt C 28 dX2_isRange_21 rfl (by omega) (fun c_4 => ?_) (fun c_4 => ?_)
        · refine w_iconst C dX2_isRange_28 ?_
          exact w_reti hret dX2_isRange_29 rfl rfl rfl rfl ⟨congrArg (fun z => some (Value.int (iI z))) (by first | exact (bI_t (by omega)).symm | exact (bI_f (by omega)).symm), rfl⟩
        · refine w_iconst C dX2_isRange_24 ?_
          refine w_goto C 29 dX2_isRange_25 rfl ?_
          exact w_reti hret dX2_isRange_29 rfl rfl rfl rfl ⟨congrArg (fun z => some (Value.int (iI z))) (by first | exact (bI_t (by omega)).symm | exact (bI_f (by omega)).symm), rfl⟩

theorem gX2_33 : cws RX2 33 yX2_isRange cX2_isRange 2 (some .boolean) 2 265 266 66 267 := by decide +kernel
set_option maxHeartbeats 4000000 in
set_option maxRecDepth 100000 in
theorem ct_X2_isBlank (G : GX) (l : Launch) (h : Nat) (b : Nat) (d : Im) (p : Int) (n : Int) (hp : -2147483648 ≤ p ∧ p < 2147483648) (hn : -2147483648 ≤ n ∧ n < 2147483648) : Ct G l yX2_isBlank cX2_isBlank 4 (some .boolean) rmX2_isBlank [.ref h, .int (iI p), .int (iI n)] [(h, .inr (2, [.ref b])), (b, .inl (gI G, 4096, .inl (arI d)))] (some (.int (iI (bI (im_blank d p n))))) [(h, .inr (2, [.ref b])), (b, .inl (gI G, 4096, .inl (arI d)))] := by
  refine Ct.of (by decide) (Nat.le_of_ble_eq_true rfl) ?_
  intro k C hl hret
  subst hl
  refine w_lv (lv2 := [(0, .ref h), (1, .int (iI p)), (2, .int (iI n))]) [0, 1, 2] rfl ?_
  refine w_iload_n C 1 dX2_isBlank_0 rfl ?_
  refine w_iload_n C 2 dX2_isBlank_1 rfl ?_
  refine w_callS (As := [.int (iI p), .int (iI n)]) (rest := []) (w2 := [(h, .inr (2, [.ref b])), (b, .inl (gI G, 4096, .inl (arI d)))]) (st2 := [.int (iI (bI (decide (rgP p n))))]) C (ct_X2_isRange G (kl k) p n (by omega) (by omega)) gX2_33 dX2_isBlank_2 rfl rfl (Nat.le_of_ble_eq_true rfl) (by decide) [] rfl (by decide) [] rfl rfl rfl rfl ?_
  refine w_bnz C 10 dX2_isBlank_5 rfl (fun c_1 => ?_) (fun c_1 => ?_)
  · have hg : rgP p n := of_decide_eq_true (by assumption)
    unfold rgP at hg
    refine w_iload_n C 1 dX2_isBlank_10 rfl ?_
    refine w_istore_n (lv2 := [(0, .ref h), (1, .int (iI p)), (2, .int (iI n)), (3, .int (iI p))]) C dX2_isBlank_11 (by decide) rfl ?_
    have L_12 : ∀ (nn_12 : Nat) (i : Int), (p ≤ i) → (i ≤ p + n) → (∀ j, p ≤ j → j < i → d.1 j = 0) → (p + n - i).toNat = nn_12 → Wd G k 4 0 0 [(h, .inr (2, [.ref b])), (b, .inl (gI G, 4096, .inl (arI d)))] 12 [(0, .ref h), (1, .int (iI p)), (2, .int (iI n)), (3, .int (iI i))] [] := by
      intro nn_12
      induction nn_12 using Nat.strongRecOn with
      | ind nn_12 ih_12 =>
        intro i h1 h2 h3 hm_12
        refine w_iload_n C 3 dX2_isBlank_12 rfl ?_
        refine w_iload_n C 1 dX2_isBlank_13 rfl ?_
        refine w_iload_n C 2 dX2_isBlank_14 rfl ?_
        refine w_iadd C dX2_isBlank_15 ?_
        refine w_icmp_ge C 36 dX2_isBlank_16 rfl (by omega) (fun c_2 => ?_) (fun c_2 => ?_)
        · refine w_iconst C dX2_isBlank_36 ?_
          exact w_reti hret dX2_isBlank_37 rfl rfl rfl rfl ⟨congrArg (fun z => some (Value.int (iI z))) (by unfold im_blank; rw [if_pos hg, (blk_iff d p n.toNat).mpr (fun j a b => h3 j a (by omega))]; rfl), rfl⟩
        · refine w_aload_n C 0 dX2_isBlank_19 rfl ?_
          refine w_get C 0 0 99 dX2_isBlank_20 rfl rfl inX2 (by decide) (by decide +kernel) rfl ?_
          refine w_iload_n C 3 dX2_isBlank_23 rfl ?_
          refine w_iald C 1 dX2_isBlank_24 rfl (by omega) ?_
          have b_3 := d.2 i
          refine w_if_eq C 30 dX2_isBlank_25 rfl (by omega) (fun c_4 => ?_) (fun c_4 => ?_)
          · refine w_iinc (lv2 := [(0, .ref h), (1, .int (iI p)), (2, .int (iI n)), (3, .int (iI (i + 1)))]) C 3 dX2_isBlank_30 rfl (by decide) rfl ?_
            refine w_goto C 12 dX2_isBlank_33 rfl ?_
            exact ih_12 _ (by omega) (i + 1) (by omega) (by omega) (fun j a b => if q : j = i then (by rw [q]; assumption) else h3 j a (by omega)) rfl
          · refine w_iconst C dX2_isBlank_28 ?_
            exact w_reti hret dX2_isBlank_29 rfl rfl rfl rfl ⟨congrArg (fun z => some (Value.int (iI z))) (by unfold im_blank; rw [if_pos hg, show blk d p n.toNat = false from by cases q : blk d p n.toNat with | false => rfl | true => exact absurd ((blk_iff d p n.toNat).mp q i (by omega) (by omega)) (by assumption)]; rfl), rfl⟩
    exact L_12 _ p (by omega) (by omega) (fun j a b => by omega) rfl
  · refine w_iconst C dX2_isBlank_8 ?_
    exact w_reti hret dX2_isBlank_9 rfl rfl rfl rfl ⟨congrArg (fun z => some (Value.int (iI z))) (by unfold im_blank; rw [if_neg (of_decide_eq_false (by assumption))]; rfl), rfl⟩

set_option maxHeartbeats 4000000 in
set_option maxRecDepth 100000 in
theorem ct_X2_sum (G : GX) (l : Launch) (h : Nat) (b : Nat) (d : Im) (p : Int) (n : Int) (hp : -2147483648 ≤ p ∧ p < 2147483648) (hn : -2147483648 ≤ n ∧ n < 2147483648) : Ct G l yX2_sum cX2_sum 5 (some .int) rmX2_sum [.ref h, .int (iI p), .int (iI n)] [(h, .inr (2, [.ref b])), (b, .inl (gI G, 4096, .inl (arI d)))] (some (.int (iI (im_sum d p n)))) [(h, .inr (2, [.ref b])), (b, .inl (gI G, 4096, .inl (arI d)))] := by
  refine Ct.of (by decide) (Nat.le_of_ble_eq_true rfl) ?_
  intro k C hl hret
  subst hl
  refine w_lv (lv2 := [(0, .ref h), (1, .int (iI p)), (2, .int (iI n))]) [0, 1, 2] rfl ?_
  refine w_iconst C dX2_sum_0 ?_
  refine w_istore_n (lv2 := [(0, .ref h), (1, .int (iI p)), (2, .int (iI n)), (3, .int (iI 0))]) C dX2_sum_1 (by decide) rfl ?_
  refine w_iload_n C 1 dX2_sum_2 rfl ?_
  refine w_iload_n C 2 dX2_sum_3 rfl ?_
  refine w_callS (As := [.int (iI p), .int (iI n)]) (rest := []) (w2 := [(h, .inr (2, [.ref b])), (b, .inl (gI G, 4096, .inl (arI d)))]) (st2 := [.int (iI (bI (decide (rgP p n))))]) C (ct_X2_isRange G (kl k) p n (by omega) (by omega)) gX2_33 dX2_sum_4 rfl rfl (Nat.le_of_ble_eq_true rfl) (by decide) [] rfl (by decide) [] rfl rfl rfl rfl ?_
  refine w_bz C 37 dX2_sum_7 rfl (fun c_1 => ?_) (fun c_1 => ?_)
  · have hg : ¬ rgP p n := of_decide_eq_false (by assumption)
    refine w_iload_n C 3 dX2_sum_37 rfl ?_
    refine w_ldc (z := 65535) C 346 dX2_sum_38 (by decide +kernel) rfl ?_
    refine w_iandm (q := 65536) C 16 dX2_sum_40 (by decide) (by decide) (by decide) ?_
    exact w_reti hret dX2_sum_41 rfl rfl rfl rfl ⟨congrArg (fun z => some (Value.int (iI z))) (by unfold im_sum; first | (rw [if_neg hg]; rfl) | (rw [if_pos hg, h3, show (i - p).toNat = n.toNat by omega])), rfl⟩
  · have hg : rgP p n := of_decide_eq_true (by assumption)
    unfold rgP at hg
    refine w_iload_n C 1 dX2_sum_10 rfl ?_
    refine w_istore (lv2 := [(0, .ref h), (1, .int (iI p)), (2, .int (iI n)), (3, .int (iI 0)), (4, .int (iI p))]) C dX2_sum_11 (by decide) rfl ?_
    have L_13 : ∀ (nn_13 : Nat) (i : Int) (s : Int), (p ≤ i) → (i ≤ p + n) → (s = sm d p (i - p).toNat) → (0 ≤ s ∧ s ≤ 255 * (i - p)) → (p + n - i).toNat = nn_13 → Wd G k 5 0 0 [(h, .inr (2, [.ref b])), (b, .inl (gI G, 4096, .inl (arI d)))] 13 [(0, .ref h), (1, .int (iI p)), (2, .int (iI n)), (3, .int (iI s)), (4, .int (iI i))] [] := by
      intro nn_13
      induction nn_13 using Nat.strongRecOn with
      | ind nn_13 ih_13 =>
        intro i s h1 h2 h3 h4 hm_13
        refine w_iload C 4 dX2_sum_13 rfl ?_
        refine w_iload_n C 1 dX2_sum_15 rfl ?_
        refine w_iload_n C 2 dX2_sum_16 rfl ?_
        refine w_iadd C dX2_sum_17 ?_
        refine w_icmp_ge C 37 dX2_sum_18 rfl (by omega) (fun c_2 => ?_) (fun c_2 => ?_)
        · refine w_iload_n C 3 dX2_sum_37 rfl ?_
          refine w_ldc (z := 65535) C 346 dX2_sum_38 (by decide +kernel) rfl ?_
          refine w_iandm (q := 65536) C 16 dX2_sum_40 (by decide) (by decide) (by decide) ?_
          exact w_reti hret dX2_sum_41 rfl rfl rfl rfl ⟨congrArg (fun z => some (Value.int (iI z))) (by unfold im_sum; first | (rw [if_neg hg]; rfl) | (rw [if_pos hg, h3, show (i - p).toNat = n.toNat by omega])), rfl⟩
        · refine w_iload_n C 3 dX2_sum_21 rfl ?_
          refine w_aload_n C 0 dX2_sum_22 rfl ?_
          refine w_get C 0 0 99 dX2_sum_23 rfl rfl inX2 (by decide) (by decide +kernel) rfl ?_
          refine w_iload C 4 dX2_sum_26 rfl ?_
          refine w_iald C 1 dX2_sum_28 rfl (by omega) ?_
          have b_3 := d.2 i
          refine w_iadd C dX2_sum_29 ?_
          refine w_istore_n (lv2 := [(0, .ref h), (1, .int (iI p)), (2, .int (iI n)), (3, .int (iI (s + (d.1 i)))), (4, .int (iI i))]) C dX2_sum_30 (by decide) rfl ?_
          refine w_iinc (lv2 := [(0, .ref h), (1, .int (iI p)), (2, .int (iI n)), (3, .int (iI (s + (d.1 i)))), (4, .int (iI (i + 1)))]) C 4 dX2_sum_31 rfl (by decide) rfl ?_
          refine w_goto C 13 dX2_sum_34 rfl ?_
          exact ih_13 _ (by omega) (i + 1) (s + (d.1 i)) (by omega) (by omega) (by rw [h3]; exact sm_next d p i h1) (by omega) rfl
    exact L_13 _ p 0 (by omega) (by omega) (by rw [show (p - p).toNat = 0 by omega]; rfl) (by omega) rfl

set_option maxHeartbeats 4000000 in
set_option maxRecDepth 100000 in
theorem ct_X2_sameBlock (G : GX) (l : Launch) (h : Nat) (b : Nat) (d : Im) (h2 : Nat) (b2 : Nat) (e : Im) (q : Int) (hq : -2147483648 ≤ q ∧ q < 2147483648) : Ct G l yX2_sameBlock cX2_sameBlock 5 (some .boolean) rmX2_sameBlock [.ref h, .int (iI q), .ref h2] [(h, .inr (2, [.ref b])), (b, .inl (gI G, 4096, .inl (arI d))), (h2, .inr (2, [.ref b2])), (b2, .inl (gI G, 4096, .inl (arI e)))] (some (.int (iI (bI (im_same d e q))))) [(h, .inr (2, [.ref b])), (b, .inl (gI G, 4096, .inl (arI d))), (h2, .inr (2, [.ref b2])), (b2, .inl (gI G, 4096, .inl (arI e)))] := by
  refine Ct.of (by decide) (Nat.le_of_ble_eq_true rfl) ?_
  intro k C hl hret
  subst hl
  refine w_lv (lv2 := [(0, .ref h), (1, .int (iI q)), (2, .ref h2)]) [0, 1, 2] rfl ?_
  refine w_iload_n C 1 dX2_sameBlock_0 rfl ?_
  refine w_if_lt C 10 dX2_sameBlock_1 rfl (by omega) (fun c_1 => ?_) (fun c_1 => ?_)
  · refine w_iconst C dX2_sameBlock_10 ?_
    exact w_reti hret dX2_sameBlock_11 rfl rfl rfl rfl ⟨congrArg (fun z => some (Value.int (iI z))) (by unfold im_same; rw [if_neg (by omega)]; rfl), rfl⟩
  · refine w_iload_n C 1 dX2_sameBlock_4 rfl ?_
    refine w_bipush C dX2_sameBlock_5 (by decide) ?_
    refine w_icmp_lt C 12 dX2_sameBlock_7 rfl (by omega) (fun c_2 => ?_) (fun c_2 => ?_)
    · refine w_iload_n C 1 dX2_sameBlock_12 rfl ?_
      refine w_bipush C dX2_sameBlock_13 (by decide) ?_
      refine w_imul C dX2_sameBlock_15 ?_
      refine w_istore_n (lv2 := [(0, .ref h), (1, .int (iI q)), (2, .ref h2), (3, .int (iI (q * 64)))]) C dX2_sameBlock_16 (by decide) rfl ?_
      refine w_iload_n C 3 dX2_sameBlock_17 rfl ?_
      refine w_istore (lv2 := [(0, .ref h), (1, .int (iI q)), (2, .ref h2), (3, .int (iI (q * 64))), (4, .int (iI (q * 64)))]) C dX2_sameBlock_18 (by decide) rfl ?_
      have L_20 : ∀ (nn_20 : Nat) (i : Int), (q * 64 ≤ i) → (i ≤ q * 64 + 64) → (∀ j, q * 64 ≤ j → j < i → d.1 j = e.1 j) → (q * 64 + 64 - i).toNat = nn_20 → Wd G k 5 0 0 [(h, .inr (2, [.ref b])), (b, .inl (gI G, 4096, .inl (arI d))), (h2, .inr (2, [.ref b2])), (b2, .inl (gI G, 4096, .inl (arI e)))] 20 [(0, .ref h), (1, .int (iI q)), (2, .ref h2), (3, .int (iI (q * 64))), (4, .int (iI i))] [] := by
        intro nn_20
        induction nn_20 using Nat.strongRecOn with
        | ind nn_20 ih_20 =>
          intro i h3 h4 h5 hm_20
          refine w_iload C 4 dX2_sameBlock_20 rfl ?_
          refine w_iload_n C 3 dX2_sameBlock_22 rfl ?_
          refine w_bipush C dX2_sameBlock_23 (by decide) ?_
          refine w_iadd C dX2_sameBlock_25 ?_
          refine w_icmp_ge C 54 dX2_sameBlock_26 rfl (by omega) (fun c_3 => ?_) (fun c_3 => ?_)
          · refine w_iconst C dX2_sameBlock_54 ?_
            exact w_reti hret dX2_sameBlock_55 rfl rfl rfl rfl ⟨congrArg (fun z => some (Value.int (iI z))) (by unfold im_same; rw [if_pos (by omega), (sam_iff d e (q * 64) 64).mpr (fun j a b => h5 j a (by omega))]; rfl), rfl⟩
          · refine w_aload_n C 0 dX2_sameBlock_29 rfl ?_
            refine w_get C 0 0 99 dX2_sameBlock_30 rfl rfl inX2 (by decide) (by decide +kernel) rfl ?_
            refine w_iload C 4 dX2_sameBlock_33 rfl ?_
            refine w_iald C 1 dX2_sameBlock_35 rfl (by omega) ?_
            have b_4 := d.2 i
            refine w_aload_n C 2 dX2_sameBlock_36 rfl ?_
            refine w_get C 2 0 99 dX2_sameBlock_37 rfl rfl inX2 (by decide) (by decide +kernel) rfl ?_
            refine w_iload C 4 dX2_sameBlock_40 rfl ?_
            refine w_iald C 3 dX2_sameBlock_42 rfl (by omega) ?_
            have b_5 := e.2 i
            refine w_icmp_eq C 48 dX2_sameBlock_43 rfl (by omega) (fun c_6 => ?_) (fun c_6 => ?_)
            · refine w_iinc (lv2 := [(0, .ref h), (1, .int (iI q)), (2, .ref h2), (3, .int (iI (q * 64))), (4, .int (iI (i + 1)))]) C 4 dX2_sameBlock_48 rfl (by decide) rfl ?_
              refine w_goto C 20 dX2_sameBlock_51 rfl ?_
              exact ih_20 _ (by omega) (i + 1) (by omega) (by omega) (fun j a b => if z : j = i then (by rw [z]; assumption) else h5 j a (by omega)) rfl
            · refine w_iconst C dX2_sameBlock_46 ?_
              exact w_reti hret dX2_sameBlock_47 rfl rfl rfl rfl ⟨congrArg (fun z => some (Value.int (iI z))) (by unfold im_same; rw [if_pos (by omega), show sam d e (q * 64) 64 = false from by cases z : sam d e (q * 64) 64 with | false => rfl | true => exact absurd ((sam_iff d e (q * 64) 64).mp z i (by omega) (by omega)) (by assumption)]; rfl), rfl⟩
      exact L_20 _ (q * 64) (by omega) (by omega) (fun j a b => by omega) rfl
    · refine w_iconst C dX2_sameBlock_10 ?_
      exact w_reti hret dX2_sameBlock_11 rfl rfl rfl rfl ⟨congrArg (fun z => some (Value.int (iI z))) (by unfold im_same; rw [if_neg (by omega)]; rfl), rfl⟩

theorem gX2_37 : cws RX2 37 yJ7_fill_fda19 cJ7_fill_fda19 5 none 4 268 269 75 270 := by decide +kernel
set_option maxHeartbeats 4000000 in
set_option maxRecDepth 100000 in
theorem ct_X2_wipe (G : GX) (l : Launch) (h : Nat) (b : Nat) (d : Im) (p : Int) (n : Int) (hp : -2147483648 ≤ p ∧ p < 2147483648) (hn : -2147483648 ≤ n ∧ n < 2147483648) : Ct G l yX2_wipe cX2_wipe 3 none rmX2_wipe [.ref h, .int (iI p), .int (iI n)] [(h, .inr (2, [.ref b])), (b, .inl (gI G, 4096, .inl (arI d)))] none [(h, .inr (2, [.ref b])), (b, .inl (gI G, 4096, .inl (arI (im_wipe d p n))))] := by
  refine Ct.of (by decide) (Nat.le_of_ble_eq_true rfl) ?_
  intro k C hl hret
  subst hl
  refine w_lv (lv2 := [(0, .ref h), (1, .int (iI p)), (2, .int (iI n))]) [0, 1, 2] rfl ?_
  refine w_iload_n C 1 dX2_wipe_0 rfl ?_
  refine w_iload_n C 2 dX2_wipe_1 rfl ?_
  refine w_callS (As := [.int (iI p), .int (iI n)]) (rest := []) (w2 := [(h, .inr (2, [.ref b])), (b, .inl (gI G, 4096, .inl (arI d)))]) (st2 := [.int (iI (bI (decide (rgP p n))))]) C (ct_X2_isRange G (kl k) p n (by omega) (by omega)) gX2_33 dX2_wipe_2 rfl rfl (Nat.le_of_ble_eq_true rfl) (by decide) [] rfl (by decide) [] rfl rfl rfl rfl ?_
  refine w_bz C 20 dX2_wipe_5 rfl (fun c_1 => ?_) (fun c_1 => ?_)
  · have hg : ¬ rgP p n := of_decide_eq_false (by assumption)
    exact w_retv hret dX2_wipe_20 rfl rfl rfl ⟨rfl, (by unfold im_wipe; first | rw [if_neg hg] | rw [if_pos hg, show p + n - p = n by omega])⟩
  · have hg : rgP p n := of_decide_eq_true (by assumption)
    unfold rgP at hg
    refine w_aload_n C 0 dX2_wipe_8 rfl ?_
    refine w_get C 0 0 99 dX2_wipe_9 rfl rfl inX2 (by decide) (by decide +kernel) rfl ?_
    refine w_iload_n C 1 dX2_wipe_12 rfl ?_
    refine w_iload_n C 1 dX2_wipe_13 rfl ?_
    refine w_iload_n C 2 dX2_wipe_14 rfl ?_
    refine w_iadd C dX2_wipe_15 ?_
    refine w_iconst C dX2_wipe_16 ?_
    refine w_callS (As := [.ref b, .int (iI p), .int (iI (p + n)), .int (iI 0)]) (rest := []) (w2 := [(h, .inr (2, [.ref b])), (b, .inl (gI G, 4096, .inl (arI (clr d p ((p + n) - p)))))]) (st2 := []) C (ct_J7_fill_fda19 G (kl k) b 4096 d p (p + n) (by omega)) gX2_37 dX2_wipe_17 rfl rfl (Nat.le_of_ble_eq_true rfl) (by decide) [1] rfl (by decide) [b] rfl rfl rfl rfl ?_
    exact w_retv hret dX2_wipe_20 rfl rfl rfl ⟨rfl, (by unfold im_wipe; first | rw [if_neg hg] | rw [if_pos hg, show p + n - p = n by omega])⟩

set_option maxHeartbeats 4000000 in
set_option maxRecDepth 100000 in
theorem ct_X2_copyAll (G : GX) (l : Launch) (h : Nat) (b : Nat) (d : Im) (h2 : Nat) (b2 : Nat) (e : Im) : Ct G l yX2_copyAll cX2_copyAll 2 none rmX2_copyAll [.ref h, .ref h2] [(h, .inr (2, [.ref b])), (b, .inl (gI G, 4096, .inl (arI d))), (h2, .inr (2, [.ref b2])), (b2, .inl (gI G, 4096, .inl (arI e)))] none [(h, .inr (2, [.ref b])), (b, .inl (gI G, 4096, .inl (arI e))), (h2, .inr (2, [.ref b2])), (b2, .inl (gI G, 4096, .inl (arI e)))] := by
  refine Ct.of (by decide) (Nat.le_of_ble_eq_true rfl) ?_
  intro k C hl hret
  subst hl
  refine w_lv (lv2 := [(0, .ref h), (1, .ref h2)]) [0, 1] rfl ?_
  refine w_aload_n C 1 dX2_copyAll_0 rfl ?_
  refine w_get C 2 0 99 dX2_copyAll_1 rfl rfl inX2 (by decide) (by decide +kernel) rfl ?_
  refine w_iconst C dX2_copyAll_4 ?_
  refine w_aload_n C 0 dX2_copyAll_5 rfl ?_
  refine w_get C 0 0 99 dX2_copyAll_6 rfl rfl inX2 (by decide) (by decide +kernel) rfl ?_
  refine w_iconst C dX2_copyAll_9 ?_
  refine w_sipush C dX2_copyAll_10 (by decide) ?_
  refine w_copy (ws2 := [(h, .inr (2, [.ref b])), (b, .inl (gI G, 4096, .inl (arI (cpy e d 0 0 4096)))), (h2, .inr (2, [.ref b2])), (b2, .inl (gI G, 4096, .inl (arI e)))]) C 370 3 1 dX2_copyAll_13 (by decide +kernel) rfl rfl (by omega) (by decide) rfl ?_
  refine w_arr (e := e) (ws2 := [(h, .inr (2, [.ref b])), (b, .inl (gI G, 4096, .inl (arI e))), (h2, .inr (2, [.ref b2])), (b2, .inl (gI G, 4096, .inl (arI e)))]) 1 rfl (fun j h0 h1 => by show (if (0 : Int) ≤ j ∧ j < 0 + 4096 then e.1 (0 + (j - 0)) else d.1 j) = e.1 j; rw [if_pos (by omega), show (0 : Int) + (j - 0) = j by omega]) rfl ?_
  exact w_retv hret dX2_copyAll_16 rfl rfl rfl ⟨rfl, rfl⟩

set_option maxHeartbeats 4000000 in
set_option maxRecDepth 100000 in
theorem ct_X2_copyBlock (G : GX) (l : Launch) (h : Nat) (b : Nat) (d : Im) (h2 : Nat) (b2 : Nat) (e : Im) (q : Int) (r : Int) (hq : -2147483648 ≤ q ∧ q < 2147483648) (hr : -2147483648 ≤ r ∧ r < 2147483648) : Ct G l yX2_copyBlock cX2_copyBlock 4 none rmX2_copyBlock [.ref h, .int (iI q), .ref h2, .int (iI r)] [(h, .inr (2, [.ref b])), (b, .inl (gI G, 4096, .inl (arI d))), (h2, .inr (2, [.ref b2])), (b2, .inl (gI G, 4096, .inl (arI e)))] none [(h, .inr (2, [.ref b])), (b, .inl (gI G, 4096, .inl (arI (im_cpb e d q r)))), (h2, .inr (2, [.ref b2])), (b2, .inl (gI G, 4096, .inl (arI e)))] := by
  refine Ct.of (by decide) (Nat.le_of_ble_eq_true rfl) ?_
  intro k C hl hret
  subst hl
  refine w_lv (lv2 := [(0, .ref h), (1, .int (iI q)), (2, .ref h2), (3, .int (iI r))]) [0, 1, 2, 3] rfl ?_
  refine w_iload_n C 1 dX2_copyBlock_0 rfl ?_
  refine w_if_lt C 41 dX2_copyBlock_1 rfl (by omega) (fun c_1 => ?_) (fun c_1 => ?_)
  · exact w_retv hret dX2_copyBlock_41 rfl rfl rfl ⟨rfl, (by unfold im_cpb; first | rw [if_pos (by omega)] | rw [if_neg (by omega)])⟩
  · refine w_iload_n C 1 dX2_copyBlock_4 rfl ?_
    refine w_bipush C dX2_copyBlock_5 (by decide) ?_
    refine w_icmp_ge C 41 dX2_copyBlock_7 rfl (by omega) (fun c_2 => ?_) (fun c_2 => ?_)
    · exact w_retv hret dX2_copyBlock_41 rfl rfl rfl ⟨rfl, (by unfold im_cpb; first | rw [if_pos (by omega)] | rw [if_neg (by omega)])⟩
    · refine w_iload_n C 3 dX2_copyBlock_10 rfl ?_
      refine w_if_lt C 41 dX2_copyBlock_11 rfl (by omega) (fun c_3 => ?_) (fun c_3 => ?_)
      · exact w_retv hret dX2_copyBlock_41 rfl rfl rfl ⟨rfl, (by unfold im_cpb; first | rw [if_pos (by omega)] | rw [if_neg (by omega)])⟩
      · refine w_iload_n C 3 dX2_copyBlock_14 rfl ?_
        refine w_bipush C dX2_copyBlock_15 (by decide) ?_
        refine w_icmp_ge C 41 dX2_copyBlock_17 rfl (by omega) (fun c_4 => ?_) (fun c_4 => ?_)
        · exact w_retv hret dX2_copyBlock_41 rfl rfl rfl ⟨rfl, (by unfold im_cpb; first | rw [if_pos (by omega)] | rw [if_neg (by omega)])⟩
        · refine w_aload_n C 2 dX2_copyBlock_20 rfl ?_
          refine w_get C 2 0 99 dX2_copyBlock_21 rfl rfl inX2 (by decide) (by decide +kernel) rfl ?_
          refine w_iload_n C 1 dX2_copyBlock_24 rfl ?_
          refine w_bipush C dX2_copyBlock_25 (by decide) ?_
          refine w_imul C dX2_copyBlock_27 ?_
          refine w_aload_n C 0 dX2_copyBlock_28 rfl ?_
          refine w_get C 0 0 99 dX2_copyBlock_29 rfl rfl inX2 (by decide) (by decide +kernel) rfl ?_
          refine w_iload_n C 3 dX2_copyBlock_32 rfl ?_
          refine w_bipush C dX2_copyBlock_33 (by decide) ?_
          refine w_imul C dX2_copyBlock_35 ?_
          refine w_bipush C dX2_copyBlock_36 (by decide) ?_
          refine w_copy (ws2 := [(h, .inr (2, [.ref b])), (b, .inl (gI G, 4096, .inl (arI (cpy e d (q * 64) (r * 64) 64)))), (h2, .inr (2, [.ref b2])), (b2, .inl (gI G, 4096, .inl (arI e)))]) C 370 3 1 dX2_copyBlock_38 (by decide +kernel) rfl rfl (by omega) (by decide) rfl ?_
          exact w_retv hret dX2_copyBlock_41 rfl rfl rfl ⟨rfl, (by unfold im_cpb; first | rw [if_pos (by omega)] | rw [if_neg (by omega)])⟩

set_option maxHeartbeats 4000000 in
set_option maxRecDepth 100000 in
theorem ct_X2_copyBlock_s (G : GX) (l : Launch) (h : Nat) (b : Nat) (d : Im) (q : Int) (r : Int) (hq : -2147483648 ≤ q ∧ q < 2147483648) (hr : -2147483648 ≤ r ∧ r < 2147483648) : Ct G l yX2_copyBlock cX2_copyBlock 4 none rmX2_copyBlock [.ref h, .int (iI q), .ref h, .int (iI r)] [(h, .inr (2, [.ref b])), (b, .inl (gI G, 4096, .inl (arI d)))] none [(h, .inr (2, [.ref b])), (b, .inl (gI G, 4096, .inl (arI (im_cpb d d q r))))] := by
  refine Ct.of (by decide) (Nat.le_of_ble_eq_true rfl) ?_
  intro k C hl hret
  subst hl
  refine w_lv (lv2 := [(0, .ref h), (1, .int (iI q)), (2, .ref h), (3, .int (iI r))]) [0, 1, 2, 3] rfl ?_
  refine w_iload_n C 1 dX2_copyBlock_0 rfl ?_
  refine w_if_lt C 41 dX2_copyBlock_1 rfl (by omega) (fun c_1 => ?_) (fun c_1 => ?_)
  · exact w_retv hret dX2_copyBlock_41 rfl rfl rfl ⟨rfl, (by unfold im_cpb; first | rw [if_pos (by omega)] | rw [if_neg (by omega)])⟩
  · refine w_iload_n C 1 dX2_copyBlock_4 rfl ?_
    refine w_bipush C dX2_copyBlock_5 (by decide) ?_
    refine w_icmp_ge C 41 dX2_copyBlock_7 rfl (by omega) (fun c_2 => ?_) (fun c_2 => ?_)
    · exact w_retv hret dX2_copyBlock_41 rfl rfl rfl ⟨rfl, (by unfold im_cpb; first | rw [if_pos (by omega)] | rw [if_neg (by omega)])⟩
    · refine w_iload_n C 3 dX2_copyBlock_10 rfl ?_
      refine w_if_lt C 41 dX2_copyBlock_11 rfl (by omega) (fun c_3 => ?_) (fun c_3 => ?_)
      · exact w_retv hret dX2_copyBlock_41 rfl rfl rfl ⟨rfl, (by unfold im_cpb; first | rw [if_pos (by omega)] | rw [if_neg (by omega)])⟩
      · refine w_iload_n C 3 dX2_copyBlock_14 rfl ?_
        refine w_bipush C dX2_copyBlock_15 (by decide) ?_
        refine w_icmp_ge C 41 dX2_copyBlock_17 rfl (by omega) (fun c_4 => ?_) (fun c_4 => ?_)
        · exact w_retv hret dX2_copyBlock_41 rfl rfl rfl ⟨rfl, (by unfold im_cpb; first | rw [if_pos (by omega)] | rw [if_neg (by omega)])⟩
        · refine w_aload_n C 2 dX2_copyBlock_20 rfl ?_
          refine w_get C 0 0 99 dX2_copyBlock_21 rfl rfl inX2 (by decide) (by decide +kernel) rfl ?_
          refine w_iload_n C 1 dX2_copyBlock_24 rfl ?_
          refine w_bipush C dX2_copyBlock_25 (by decide) ?_
          refine w_imul C dX2_copyBlock_27 ?_
          refine w_aload_n C 0 dX2_copyBlock_28 rfl ?_
          refine w_get C 0 0 99 dX2_copyBlock_29 rfl rfl inX2 (by decide) (by decide +kernel) rfl ?_
          refine w_iload_n C 3 dX2_copyBlock_32 rfl ?_
          refine w_bipush C dX2_copyBlock_33 (by decide) ?_
          refine w_imul C dX2_copyBlock_35 ?_
          refine w_bipush C dX2_copyBlock_36 (by decide) ?_
          refine w_copy (ws2 := [(h, .inr (2, [.ref b])), (b, .inl (gI G, 4096, .inl (arI (cpy d d (q * 64) (r * 64) 64))))]) C 370 1 1 dX2_copyBlock_38 (by decide +kernel) rfl rfl (by omega) (by decide) rfl ?_
          exact w_retv hret dX2_copyBlock_41 rfl rfl rfl ⟨rfl, (by unfold im_cpb; first | rw [if_pos (by omega)] | rw [if_neg (by omega)])⟩

theorem gX2_15 : cwv RX2 15 yJ0_length_8abf5 cJ0_length_8abf5 1 (some .int) 0 283 284 285 77 286 := by decide +kernel
theorem gX2_21 : cwv RX2 21 yX2_at cX2_at 2 (some .int) 1 358 359 360 66 361 := by decide +kernel
theorem gX2_25 : cwv RX2 25 yJ0_charAt_5068e cJ0_charAt_5068e 2 (some .char) 1 293 294 295 77 296 := by decide +kernel
set_option maxHeartbeats 4000000 in
set_option maxRecDepth 100000 in
theorem ct_X2_hasText (G : GX) (l : Launch) (h : Nat) (b : Nat) (d : Im) (t : Nat) (p : Int) (hp : -1000000 ≤ p ∧ p < 1000000) (ht : t < 5) : Ct G l yX2_hasText cX2_hasText 4 (some .boolean) rmX2_hasText [.ref h, .int (iI p), .ref (gK G t)] [(h, .inr (2, [.ref b])), (b, .inl (gI G, 4096, .inl (arI d)))] (some (.int (iI (bI (im_has d p t))))) [(h, .inr (2, [.ref b])), (b, .inl (gI G, 4096, .inl (arI d)))] := by
  refine Ct.of (by decide) (Nat.le_of_ble_eq_true rfl) ?_
  intro k C hl hret
  subst hl
  refine w_lv (lv2 := [(0, .ref h), (1, .int (iI p)), (2, .ref (gK G t))]) [0, 1, 2] rfl ?_
  refine w_iconst C dX2_hasText_0 ?_
  refine w_istore_n (lv2 := [(0, .ref h), (1, .int (iI p)), (2, .ref (gK G t)), (3, .int (iI 0))]) C dX2_hasText_1 (by decide) rfl ?_
  have L_2 : ∀ (nn_2 : Nat) (i : Int), (0 ≤ i ∧ i ≤ tn t) → (∀ j, 0 ≤ j → j < i → im_at d (p + j) = tx t j) → (tn t - i).toNat = nn_2 → Wd G k 4 0 0 [(h, .inr (2, [.ref b])), (b, .inl (gI G, 4096, .inl (arI d)))] 2 [(0, .ref h), (1, .int (iI p)), (2, .ref (gK G t)), (3, .int (iI i))] [] := by
    intro nn_2
    induction nn_2 using Nat.strongRecOn with
    | ind nn_2 ih_2 =>
      intro i h1 h2 hm_2
      have q1 := tn_rg t ht
      refine w_iload_n C 3 dX2_hasText_2 rfl ?_
      refine w_aload_n C 2 dX2_hasText_3 rfl ?_
      refine w_callT (t := t) (As := []) (rest := [.int (iI i)]) (st2 := [.int (iI (tn t)), .int (iI i)]) C (by omega) (ct_J0_length_8abf5 G (kl k) t (by omega)) gX2_15 dX2_hasText_4 rfl rfl rfl (Nat.le_of_ble_eq_true rfl) (by decide) rfl ?_
      have f_1 := tn_rg t (by omega)
      refine w_icmp_ge C 33 dX2_hasText_7 rfl (by omega) (fun c_2 => ?_) (fun c_2 => ?_)
      · refine w_iconst C dX2_hasText_33 ?_
        exact w_reti hret dX2_hasText_34 rfl rfl rfl rfl ⟨congrArg (fun z => some (Value.int (iI z))) (by rw [(im_has_iff d p t).mpr (fun j a b => h2 j a (by omega))]; rfl), rfl⟩
      · refine w_aload_n C 0 dX2_hasText_10 rfl ?_
        refine w_iload_n C 1 dX2_hasText_11 rfl ?_
        refine w_iload_n C 3 dX2_hasText_12 rfl ?_
        refine w_iadd C dX2_hasText_13 ?_
        refine w_callV (As := [.int (iI (p + i))]) (rest := []) (w2 := [(h, .inr (2, [.ref b])), (b, .inl (gI G, 4096, .inl (arI d)))]) (st2 := [.int (iI (im_at d (p + i)))]) C (ct_X2_at G (kl k) h b d (p + i) (by omega)) gX2_21 dX2_hasText_14 0 rfl rfl rfl rfl rfl (Nat.le_of_ble_eq_true rfl) (by decide) [0, 1] rfl (by decide) [h, b] rfl rfl rfl rfl ?_
        have f_3 := im_at_rg d (p + i)
        refine w_aload_n C 2 dX2_hasText_17 rfl ?_
        refine w_iload_n C 3 dX2_hasText_18 rfl ?_
        refine w_callT (t := t) (As := [.int (iI i)]) (rest := [.int (iI (im_at d (p + i)))]) (st2 := [.int (iI (tx t i)), .int (iI (im_at d (p + i)))]) C (by omega) (ct_J0_charAt_5068e G (kl k) t i (by omega) (by omega)) gX2_25 dX2_hasText_19 rfl rfl rfl (Nat.le_of_ble_eq_true rfl) (by decide) rfl ?_
        have f_4 := tx_rg (t := t) (i := i) (by omega) (by omega)
        refine w_icmp_eq C 27 dX2_hasText_22 rfl (by omega) (fun c_5 => ?_) (fun c_5 => ?_)
        · refine w_iinc (lv2 := [(0, .ref h), (1, .int (iI p)), (2, .ref (gK G t)), (3, .int (iI (i + 1)))]) C 3 dX2_hasText_27 rfl (by decide) rfl ?_
          refine w_goto C 2 dX2_hasText_30 rfl ?_
          exact ih_2 _ (by omega) (i + 1) (by omega) (fun j a b => if z : j = i then (by rw [z]; assumption) else h2 j a (by omega)) rfl
        · refine w_iconst C dX2_hasText_25 ?_
          exact w_reti hret dX2_hasText_26 rfl rfl rfl rfl ⟨congrArg (fun z => some (Value.int (iI z))) (by rw [show im_has d p t = false from by cases z : im_has d p t with | false => rfl | true => exact absurd ((im_has_iff d p t).mp z i (by omega) (by omega)) (by assumption)]; rfl), rfl⟩
  exact L_2 _ 0 (by have := tn_rg t ht; omega) (fun j a b => by omega) rfl

theorem gX2_29 : cwv RX2 29 yX2_set cX2_set 3 none 2 331 332 333 66 334 := by decide +kernel
set_option maxHeartbeats 4000000 in
set_option maxRecDepth 100000 in
theorem ct_X2_setText (G : GX) (l : Launch) (h : Nat) (b : Nat) (d : Im) (t : Nat) (p : Int) (hp : -1000000 ≤ p ∧ p < 1000000) (ht : t < 5) : Ct G l yX2_setText cX2_setText 4 none rmX2_setText [.ref h, .int (iI p), .ref (gK G t)] [(h, .inr (2, [.ref b])), (b, .inl (gI G, 4096, .inl (arI d)))] none [(h, .inr (2, [.ref b])), (b, .inl (gI G, 4096, .inl (arI (im_txt d p t (tn t).toNat))))] := by
  refine Ct.of (by decide) (Nat.le_of_ble_eq_true rfl) ?_
  intro k C hl hret
  subst hl
  refine w_lv (lv2 := [(0, .ref h), (1, .int (iI p)), (2, .ref (gK G t))]) [0, 1, 2] rfl ?_
  refine w_iconst C dX2_setText_0 ?_
  refine w_istore_n (lv2 := [(0, .ref h), (1, .int (iI p)), (2, .ref (gK G t)), (3, .int (iI 0))]) C dX2_setText_1 (by decide) rfl ?_
  have L_2 : ∀ (nn_2 : Nat) (i : Int) (e : Im), (0 ≤ i ∧ i ≤ tn t) → (e = im_txt d p t i.toNat) → (tn t - i).toNat = nn_2 → Wd G k 4 0 0 [(h, .inr (2, [.ref b])), (b, .inl (gI G, 4096, .inl (arI e)))] 2 [(0, .ref h), (1, .int (iI p)), (2, .ref (gK G t)), (3, .int (iI i))] [] := by
    intro nn_2
    induction nn_2 using Nat.strongRecOn with
    | ind nn_2 ih_2 =>
      intro i e h1 h2 hm_2
      have q1 := tn_rg t ht
      refine w_iload_n C 3 dX2_setText_2 rfl ?_
      refine w_aload_n C 2 dX2_setText_3 rfl ?_
      refine w_callT (t := t) (As := []) (rest := [.int (iI i)]) (st2 := [.int (iI (tn t)), .int (iI i)]) C (by omega) (ct_J0_length_8abf5 G (kl k) t (by omega)) gX2_15 dX2_setText_4 rfl rfl rfl (Nat.le_of_ble_eq_true rfl) (by decide) rfl ?_
      have f_1 := tn_rg t (by omega)
      refine w_icmp_ge C 28 dX2_setText_7 rfl (by omega) (fun c_2 => ?_) (fun c_2 => ?_)
      · exact w_retv hret dX2_setText_28 rfl rfl rfl ⟨rfl, (by rw [h2, show i = tn t by omega])⟩
      · refine w_aload_n C 0 dX2_setText_10 rfl ?_
        refine w_iload_n C 1 dX2_setText_11 rfl ?_
        refine w_iload_n C 3 dX2_setText_12 rfl ?_
        refine w_iadd C dX2_setText_13 ?_
        refine w_aload_n C 2 dX2_setText_14 rfl ?_
        refine w_iload_n C 3 dX2_setText_15 rfl ?_
        refine w_callT (t := t) (As := [.int (iI i)]) (rest := [.int (iI (p + i)), .ref h]) (st2 := [.int (iI (tx t i)), .int (iI (p + i)), .ref h]) C (by omega) (ct_J0_charAt_5068e G (kl k) t i (by omega) (by omega)) gX2_25 dX2_setText_16 rfl rfl rfl (Nat.le_of_ble_eq_true rfl) (by decide) rfl ?_
        have f_3 := tx_rg (t := t) (i := i) (by omega) (by omega)
        refine w_callV (As := [.int (iI (p + i)), .int (iI (tx t i))]) (rest := []) (w2 := [(h, .inr (2, [.ref b])), (b, .inl (gI G, 4096, .inl (arI (im_set e (p + i) (tx t i)))))]) (st2 := []) C (ct_X2_set G (kl k) h b e (p + i) (tx t i) (by omega)) gX2_29 dX2_setText_19 0 rfl rfl rfl rfl rfl (Nat.le_of_ble_eq_true rfl) (by decide) [0, 1] rfl (by decide) [h, b] rfl rfl rfl rfl ?_
        refine w_iinc (lv2 := [(0, .ref h), (1, .int (iI p)), (2, .ref (gK G t)), (3, .int (iI (i + 1)))]) C 3 dX2_setText_22 rfl (by decide) rfl ?_
        refine w_goto C 2 dX2_setText_25 rfl ?_
        exact ih_2 _ (by omega) (i + 1) (im_set e (p + i) (tx t i)) (by omega) (by rw [h2, show (i + 1).toNat = i.toNat + 1 by omega, im_txt, show ((i.toNat : Nat) : Int) = i by omega]) rfl
  exact L_2 _ 0 d (by have := tn_rg t ht; omega) rfl rfl
