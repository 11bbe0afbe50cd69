theorem gX9_46 : cwv RX9 46 yX4_kind cX4_kind 2 (some .int) 1 788 424 425 67 426 := by decide +kernel
theorem gX9_50 : cwv RX9 50 yX6_isAllowed cX6_isAllowed 4 (some .boolean) 0 789 580 581 69 582 := by decide +kernel
theorem gX9_56 : cwv RX9 56 yX1_seek cX1_seek 6 (some .int) 2 790 585 586 68 587 := by decide +kernel
set_option maxHeartbeats 4000000 in
set_option maxRecDepth 100000 in
theorem ct_X9_mayEnter (G : GX) (l : Launch) (h : Nat) (g : Nat) (o : Nat) (dd : Nat) (b : Nat) (m : Nat) (tk : Int64) (d : Im) (v : Nat) (vb : Nat) (nb : Im) (n : Int) (q : Int) (hn : 0 ≤ n ∧ n ≤ 14) (hq : -2147483648 ≤ q ∧ q < 2147483648) : Ct G l yX9_mayEnter cX9_mayEnter 3 (some .boolean) rmX9_mayEnter [.ref h, .int (iI q), .ref v] [(h, .inr (7, [.ref g, .ref o, .ref dd])), (o, .inr (4, [.ref g, .long tk])), (g, .inr (2, [.ref b])), (b, .inl (gI G, 4096, .inl (arI d))), (dd, .inr (1, [.ref g, .ref o, .ref m])), (v, .inr (5, [.ref vb, .int (iI n)])), (vb, .inl (gI G, 14, .inl (arI nb)))] (some (.int (iI (bI (wmB d q nb n))))) [(h, .inr (7, [.ref g, .ref o, .ref dd])), (o, .inr (4, [.ref g, .long tk])), (g, .inr (2, [.ref b])), (b, .inl (gI G, 4096, .inl (arI d))), (dd, .inr (1, [.ref g, .ref o, .ref m])), (v, .inr (5, [.ref vb, .int (iI n)])), (vb, .inl (gI G, 14, .inl (arI nb)))] := by
  refine Ct.of (by decide) (Nat.le_of_ble_eq_true rfl) ?_
  intro k C hl hret
  subst hl
  refine w_lv (lv2 := [(0, .ref h), (1, .int (iI q)), (2, .ref v)]) [0, 1, 2] rfl ?_
  refine w_aload_n C 0 dX9_mayEnter_0 rfl ?_
  refine w_get C 0 1 227 dX9_mayEnter_1 rfl rfl inX9 (by decide) (by decide +kernel) rfl ?_
  refine w_iload_n C 1 dX9_mayEnter_4 rfl ?_
  refine w_callV (As := [.int (iI q)]) (rest := []) (w2 := [(h, .inr (7, [.ref g, .ref o, .ref dd])), (o, .inr (4, [.ref g, .long tk])), (g, .inr (2, [.ref b])), (b, .inl (gI G, 4096, .inl (arI d))), (dd, .inr (1, [.ref g, .ref o, .ref m])), (v, .inr (5, [.ref vb, .int (iI n)])), (vb, .inl (gI G, 14, .inl (arI nb)))]) (st2 := [.int (iI (kd d q))]) C (ct_X4_kind G (kl k) o g b tk d q (by omega)) gX9_46 dX9_mayEnter_5 1 rfl rfl rfl rfl rfl (Nat.le_of_ble_eq_true rfl) (by decide) [1, 2, 3] rfl (by decide) [o, g, b] rfl rfl rfl rfl ?_
  have f_1 := kd_rg d q
  refine w_iconst C dX9_mayEnter_8 ?_
  refine w_icmp_ne C 36 dX9_mayEnter_9 rfl (by omega) (fun c_2 => ?_) (fun c_2 => ?_)
  · refine w_iconst C dX9_mayEnter_36 ?_
    exact w_reti hret dX9_mayEnter_37 rfl rfl rfl rfl ⟨congrArg (fun z => some (Value.int (iI z))) (by unfold wmB; simp [bI, c_2]), rfl⟩
  · refine w_aload_n C 2 dX9_mayEnter_12 rfl ?_
    refine w_callV (As := []) (rest := []) (w2 := [(h, .inr (7, [.ref g, .ref o, .ref dd])), (o, .inr (4, [.ref g, .long tk])), (g, .inr (2, [.ref b])), (b, .inl (gI G, 4096, .inl (arI d))), (dd, .inr (1, [.ref g, .ref o, .ref m])), (v, .inr (5, [.ref vb, .int (iI n)])), (vb, .inl (gI G, 14, .inl (arI nb)))]) (st2 := [.int (iI (bI (nm_ok nb n)))]) C (ct_X6_isAllowed G (kl k) v vb nb n (by omega)) gX9_50 dX9_mayEnter_13 5 rfl rfl rfl rfl rfl (Nat.le_of_ble_eq_true rfl) (by decide) [5, 6] rfl (by decide) [v, vb] rfl rfl rfl rfl ?_
    refine w_bz C 36 dX9_mayEnter_16 rfl (fun c_3 => ?_) (fun c_3 => ?_)
    · refine w_iconst C dX9_mayEnter_36 ?_
      exact w_reti hret dX9_mayEnter_37 rfl rfl rfl rfl ⟨congrArg (fun z => some (Value.int (iI z))) (by unfold wmB; simp [bI, c_2, c_3]), rfl⟩
    · refine w_aload_n C 0 dX9_mayEnter_19 rfl ?_
      refine w_get C 0 2 228 dX9_mayEnter_20 rfl rfl inX9 (by decide) (by decide +kernel) rfl ?_
      refine w_iload_n C 1 dX9_mayEnter_23 rfl ?_
      refine w_aload_n C 2 dX9_mayEnter_24 rfl ?_
      refine w_callV (As := [.int (iI q), .ref v]) (rest := []) (w2 := [(h, .inr (7, [.ref g, .ref o, .ref dd])), (o, .inr (4, [.ref g, .long tk])), (g, .inr (2, [.ref b])), (b, .inl (gI G, 4096, .inl (arI d))), (dd, .inr (1, [.ref g, .ref o, .ref m])), (v, .inr (5, [.ref vb, .int (iI n)])), (vb, .inl (gI G, 14, .inl (arI nb)))]) (st2 := [.int (iI (sk d q nb n))]) C (ct_X1_seek G (kl k) dd o g b m tk d v vb nb n q (by omega) (by omega)) gX9_56 dX9_mayEnter_25 4 rfl rfl rfl rfl rfl (Nat.le_of_ble_eq_true rfl) (by decide) [4, 1, 2, 3, 5, 6] rfl (by decide) [dd, o, g, b, v, vb] rfl rfl rfl rfl ?_
      have f_4 := sk_rg d q nb n
      refine w_iconst C dX9_mayEnter_28 ?_
      refine w_icmp_ne C 36 dX9_mayEnter_29 rfl (by omega) (fun c_5 => ?_) (fun c_5 => ?_)
      · refine w_iconst C dX9_mayEnter_36 ?_
        exact w_reti hret dX9_mayEnter_37 rfl rfl rfl rfl ⟨congrArg (fun z => some (Value.int (iI z))) (by unfold wmB; simp [bI, c_2, c_3, c_5]), rfl⟩
      · refine w_iconst C dX9_mayEnter_32 ?_
        refine w_goto C 37 dX9_mayEnter_33 rfl ?_
        exact w_reti hret dX9_mayEnter_37 rfl rfl rfl rfl ⟨congrArg (fun z => some (Value.int (iI z))) (by unfold wmB; simp [bI, c_2, c_3, c_5]), rfl⟩

theorem gX9_60 : cwv RX9 60 yX1_roomIn cX1_roomIn 5 (some .int) 1 797 635 636 68 637 := by decide +kernel
theorem gX9_63 : cwv RX9 63 yX1_writeEntry cX1_writeEntry 5 none 3 798 541 542 68 543 := by decide +kernel
set_option maxHeartbeats 4000000 in
set_option maxRecDepth 100000 in
theorem ct_X9_enter (G : GX) (l : Launch) (h : Nat) (g : Nat) (o : Nat) (dd : Nat) (b : Nat) (m : Nat) (tk : Int64) (d : Im) (v : Nat) (vb : Nat) (nb : Im) (n : Int) (q : Int) (i : Int) (hn : 0 ≤ n ∧ n ≤ 14) (hq : 0 ≤ q ∧ q < 32) : Ct G l yX9_enter cX9_enter 5 (some .boolean) rmX9_enter [.ref h, .int (iI q), .ref v, .int (iI i)] [(h, .inr (7, [.ref g, .ref o, .ref dd])), (o, .inr (4, [.ref g, .long tk])), (g, .inr (2, [.ref b])), (b, .inl (gI G, 4096, .inl (arI d))), (dd, .inr (1, [.ref g, .ref o, .ref m])), (v, .inr (5, [.ref vb, .int (iI n)])), (vb, .inl (gI G, 14, .inl (arI nb)))] (some (.int (iI (bI (decide (rmR tk d q ≠ -1)))))) [(h, .inr (7, [.ref g, .ref o, .ref dd])), (o, .inr (4, [.ref g, .long (rmT tk d q)])), (g, .inr (2, [.ref b])), (b, .inl (gI G, 4096, .inl (arI (enD tk d q i nb n)))), (dd, .inr (1, [.ref g, .ref o, .ref m])), (v, .inr (5, [.ref vb, .int (iI n)])), (vb, .inl (gI G, 14, .inl (arI nb)))] := by
  refine Ct.of (by decide) (Nat.le_of_ble_eq_true rfl) ?_
  intro k C hl hret
  subst hl
  refine w_lv (lv2 := [(0, .ref h), (1, .int (iI q)), (2, .ref v), (3, .int (iI i))]) [0, 1, 2, 3] rfl ?_
  refine w_aload_n C 0 dX9_enter_0 rfl ?_
  refine w_get C 0 2 228 dX9_enter_1 rfl rfl inX9 (by decide) (by decide +kernel) rfl ?_
  refine w_iload_n C 1 dX9_enter_4 rfl ?_
  refine w_callV (As := [.int (iI q)]) (rest := []) (w2 := [(h, .inr (7, [.ref g, .ref o, .ref dd])), (o, .inr (4, [.ref g, .long (rmT tk d q)])), (g, .inr (2, [.ref b])), (b, .inl (gI G, 4096, .inl (arI (rmD tk d q)))), (dd, .inr (1, [.ref g, .ref o, .ref m])), (v, .inr (5, [.ref vb, .int (iI n)])), (vb, .inl (gI G, 14, .inl (arI nb)))]) (st2 := [.int (iI (rmR tk d q))]) C (ct_X1_roomIn G (kl k) dd o g b m tk d q (by omega)) gX9_60 dX9_enter_5 4 rfl rfl rfl rfl rfl (Nat.le_of_ble_eq_true rfl) (by decide) [4, 1, 2, 3] rfl (by decide) [dd, o, g, b] rfl rfl rfl rfl ?_
  have f_1 := rmR_rg tk d q
  refine w_istore (lv2 := [(0, .ref h), (1, .int (iI q)), (2, .ref v), (3, .int (iI i)), (4, .int (iI (rmR tk d q)))]) C dX9_enter_8 (by decide) rfl ?_
  refine w_iload C 4 dX9_enter_10 rfl ?_
  refine w_iconst C dX9_enter_12 ?_
  refine w_icmp_ne C 18 dX9_enter_13 rfl (by omega) (fun c_2 => ?_) (fun c_2 => ?_)
  · refine w_aload_n C 0 dX9_enter_18 rfl ?_
    refine w_get C 0 2 228 dX9_enter_19 rfl rfl inX9 (by decide) (by decide +kernel) rfl ?_
    refine w_iload C 4 dX9_enter_22 rfl ?_
    refine w_iload_n C 3 dX9_enter_24 rfl ?_
    refine w_aload_n C 2 dX9_enter_25 rfl ?_
    refine w_callV (As := [.int (iI (rmR tk d q)), .int (iI i), .ref v]) (rest := []) (w2 := [(h, .inr (7, [.ref g, .ref o, .ref dd])), (o, .inr (4, [.ref g, .long (rmT tk d q)])), (g, .inr (2, [.ref b])), (b, .inl (gI G, 4096, .inl (arI (we (rmD tk d q) (rmR tk d q) i nb n)))), (dd, .inr (1, [.ref g, .ref o, .ref m])), (v, .inr (5, [.ref vb, .int (iI n)])), (vb, .inl (gI G, 14, .inl (arI nb)))]) (st2 := []) C (ct_X1_writeEntry G (kl k) dd o g b m (rmT tk d q) (rmD tk d q) v vb nb n (rmR tk d q) i (by omega) (by omega)) gX9_63 dX9_enter_26 4 rfl rfl rfl rfl rfl (Nat.le_of_ble_eq_true rfl) (by decide) [4, 1, 2, 3, 5, 6] rfl (by decide) [dd, o, g, b, v, vb] rfl rfl rfl rfl ?_
    refine w_iconst C dX9_enter_29 ?_
    exact w_reti hret dX9_enter_30 rfl rfl rfl rfl ⟨congrArg (fun z => some (Value.int (iI z))) (by rw [bI_t c_2]), (by unfold enD; rw [if_neg c_2])⟩
  · refine w_iconst C dX9_enter_16 ?_
    exact w_reti hret dX9_enter_17 rfl rfl rfl rfl ⟨congrArg (fun z => some (Value.int (iI z))) (by rw [bI_f (fun z => z c_2)]), (by unfold enD; rw [if_pos c_2])⟩

theorem gX9_23 : cwv RX9 23 yX4_firstFree cX4_firstFree 2 (some .int) 0 779 780 781 67 782 := by decide +kernel
theorem gX9_29 : cwv RX9 29 yX9_mayEnter cX9_mayEnter 3 (some .boolean) 2 784 786 18 73 787 := by decide +kernel
theorem gX9_37 : cwv RX9 37 yX1_begin cX1_begin 3 (some .boolean) 2 792 498 499 68 500 := by decide +kernel
theorem gX9_42 : cwv RX9 42 yX9_enter cX9_enter 5 (some .boolean) 3 793 795 19 73 796 := by decide +kernel
theorem gX9_33 : cwv RX9 33 yX4_begin cX4_begin 3 none 2 791 502 503 67 504 := by decide +kernel
set_option maxHeartbeats 4000000 in
set_option maxRecDepth 100000 in
theorem ct_X9_create (G : GX) (l : Launch) (h : Nat) (g : Nat) (o : Nat) (dd : Nat) (b : Nat) (m : Nat) (tk : Int64) (d : Im) (v : Nat) (vb : Nat) (nb : Im) (n : Int) (mb : Nat) (mnb : Im) (mn : Int) (q : Int) (c : Int) (hn : 0 ≤ n ∧ n ≤ 14) (hq : -2147483648 ≤ q ∧ q < 2147483648) (hc : c = 1 ∨ c = 2) : Ct G l yX9_create cX9_create 5 (some .int) rmX9_create [.ref h, .int (iI q), .ref v, .int (iI c)] [(h, .inr (7, [.ref g, .ref o, .ref dd])), (o, .inr (4, [.ref g, .long tk])), (g, .inr (2, [.ref b])), (b, .inl (gI G, 4096, .inl (arI d))), (dd, .inr (1, [.ref g, .ref o, .ref m])), (v, .inr (5, [.ref vb, .int (iI n)])), (vb, .inl (gI G, 14, .inl (arI nb))), (m, .inr (5, [.ref mb, .int (iI mn)])), (mb, .inl (gI G, 14, .inl (arI mnb)))] (some (.int (iI (crR tk d mnb q nb n c)))) [(h, .inr (7, [.ref g, .ref o, .ref dd])), (o, .inr (4, [.ref g, .long (crT tk d mnb q nb n c)])), (g, .inr (2, [.ref b])), (b, .inl (gI G, 4096, .inl (arI (crD tk d mnb q nb n c)))), (dd, .inr (1, [.ref g, .ref o, .ref m])), (v, .inr (5, [.ref vb, .int (iI n)])), (vb, .inl (gI G, 14, .inl (arI nb))), (m, .inr (5, [.ref mb, .int (iI (crL tk d mn q nb n c))])), (mb, .inl (gI G, 14, .inl (arI (crN tk d mnb q nb n c))))] := by
  refine Ct.of (by decide) (Nat.le_of_ble_eq_true rfl) ?_
  intro k C hl hret
  subst hl
  refine w_lv (lv2 := [(0, .ref h), (1, .int (iI q)), (2, .ref v), (3, .int (iI c))]) [0, 1, 2, 3] rfl ?_
  refine w_aload_n C 0 dX9_create_0 rfl ?_
  refine w_get C 0 1 227 dX9_create_1 rfl rfl inX9 (by decide) (by decide +kernel) rfl ?_
  refine w_callV (As := []) (rest := []) (w2 := [(h, .inr (7, [.ref g, .ref o, .ref dd])), (o, .inr (4, [.ref g, .long tk])), (g, .inr (2, [.ref b])), (b, .inl (gI G, 4096, .inl (arI d))), (dd, .inr (1, [.ref g, .ref o, .ref m])), (v, .inr (5, [.ref vb, .int (iI n)])), (vb, .inl (gI G, 14, .inl (arI nb))), (m, .inr (5, [.ref mb, .int (iI mn)])), (mb, .inl (gI G, 14, .inl (arI mnb)))]) (st2 := [.int (iI (ffs d 29 3))]) C (ct_X4_firstFree G (kl k) o g b tk d) gX9_23 dX9_create_4 1 rfl rfl rfl rfl rfl (Nat.le_of_ble_eq_true rfl) (by decide) [1, 2, 3] rfl (by decide) [o, g, b] rfl rfl rfl rfl ?_
  have fr := ffs_rg d 29 3
  refine w_istore (lv2 := [(0, .ref h), (1, .int (iI q)), (2, .ref v), (3, .int (iI c)), (4, .int (iI (ffs d 29 3)))]) C dX9_create_7 (by decide) rfl ?_
  refine w_iload C 4 dX9_create_9 rfl ?_
  refine w_iconst C dX9_create_11 ?_
  refine w_icmp_eq C 24 dX9_create_12 rfl (by omega) (fun c_1 => ?_) (fun c_1 => ?_)
  · have hx : crX d q nb n := Or.inl c_1
    refine w_iconst C dX9_create_24 ?_
    exact w_reti hret dX9_create_25 rfl rfl rfl rfl ⟨congrArg (fun z => some (Value.int (iI z))) (by unfold crR; rw [if_pos hx]), (by unfold crT crD crN crL; rw [if_pos hx, if_pos hx, if_pos hx, if_pos hx])⟩
  · have hf := c_1
    refine w_aload_n C 0 dX9_create_15 rfl ?_
    refine w_iload_n C 1 dX9_create_16 rfl ?_
    refine w_aload_n C 2 dX9_create_17 rfl ?_
    refine w_callV (As := [.int (iI q), .ref v]) (rest := []) (w2 := [(h, .inr (7, [.ref g, .ref o, .ref dd])), (o, .inr (4, [.ref g, .long tk])), (g, .inr (2, [.ref b])), (b, .inl (gI G, 4096, .inl (arI d))), (dd, .inr (1, [.ref g, .ref o, .ref m])), (v, .inr (5, [.ref vb, .int (iI n)])), (vb, .inl (gI G, 14, .inl (arI nb))), (m, .inr (5, [.ref mb, .int (iI mn)])), (mb, .inl (gI G, 14, .inl (arI mnb)))]) (st2 := [.int (iI (bI (wmB d q nb n)))]) C (ct_X9_mayEnter G (kl k) h g o dd b m tk d v vb nb n q (by omega) (by omega)) gX9_29 dX9_create_18 0 rfl rfl rfl rfl rfl (Nat.le_of_ble_eq_true rfl) (by decide) [0, 1, 2, 3, 4, 5, 6] rfl (by decide) [h, o, g, b, dd, v, vb] rfl rfl rfl rfl ?_
    refine w_bnz C 26 dX9_create_21 rfl (fun c_2 => ?_) (fun c_2 => ?_)
    · have hx : ¬ crX d q nb n := by rintro (z | z); exact hf z; (rw [c_2] at z; cases z)
      have hqr : 0 ≤ q ∧ q < 32 := kd_in (d := d) (fun z => by have w := c_2; unfold wmB at w; rw [z] at w; simp at w)
      refine w_iload_n C 3 dX9_create_26 rfl ?_
      refine w_iconst C dX9_create_27 ?_
      refine w_icmp_ne C 44 dX9_create_28 rfl (by omega) (fun c_3 => ?_) (fun c_3 => ?_)
      · have hk := c_3
        refine w_aload_n C 0 dX9_create_44 rfl ?_
        refine w_get C 0 2 228 dX9_create_45 rfl rfl inX9 (by decide) (by decide +kernel) rfl ?_
        refine w_iload C 4 dX9_create_48 rfl ?_
        refine w_iload_n C 1 dX9_create_50 rfl ?_
        refine w_callV (As := [.int (iI (ffs d 29 3)), .int (iI q)]) (rest := []) (w2 := [(h, .inr (7, [.ref g, .ref o, .ref dd])), (o, .inr (4, [.ref g, .long (bgT tk d (ffs d 29 3))])), (g, .inr (2, [.ref b])), (b, .inl (gI G, 4096, .inl (arI (bgD tk d mnb (ffs d 29 3) q)))), (dd, .inr (1, [.ref g, .ref o, .ref m])), (v, .inr (5, [.ref vb, .int (iI n)])), (vb, .inl (gI G, 14, .inl (arI nb))), (m, .inr (5, [.ref mb, .int (iI (bgL tk d mn (ffs d 29 3)))])), (mb, .inl (gI G, 14, .inl (arI (bgN tk d mnb (ffs d 29 3)))))]) (st2 := [.int (iI (bI (decide (bgR tk d (ffs d 29 3) ≠ -1))))]) C (ct_X1_begin G (kl k) dd o g b m tk d mb mnb mn (ffs d 29 3) q (by omega)) gX9_37 dX9_create_51 4 rfl rfl rfl rfl rfl (Nat.le_of_ble_eq_true rfl) (by decide) [4, 1, 2, 3, 7, 8] rfl (by decide) [dd, o, g, b, m, mb] rfl rfl rfl rfl ?_
        refine w_bnz C 59 dX9_create_54 rfl (fun c_4 => ?_) (fun c_4 => ?_)
        · have h2 : ¬ c2X tk d c := fun z => of_decide_eq_true c_4 z.2
          refine w_ws (ws2 := [(h, .inr (7, [.ref g, .ref o, .ref dd])), (o, .inr (4, [.ref g, .long (c2T tk d c)])), (g, .inr (2, [.ref b])), (b, .inl (gI G, 4096, .inl (arI (c2D tk d mnb q c)))), (dd, .inr (1, [.ref g, .ref o, .ref m])), (v, .inr (5, [.ref vb, .int (iI n)])), (vb, .inl (gI G, 14, .inl (arI nb))), (m, .inr (5, [.ref mb, .int (iI (c2L tk d mn c))])), (mb, .inl (gI G, 14, .inl (arI (c2N tk d mnb c))))]) (by unfold c2T c2D c2N c2L; first | (rw [if_pos hk, if_pos hk, if_pos hk, if_pos hk]; done) | rw [if_neg hk, if_neg hk, if_neg hk, if_neg hk]) ?_
          refine w_aload_n C 0 dX9_create_59 rfl ?_
          refine w_iload_n C 1 dX9_create_60 rfl ?_
          refine w_aload_n C 2 dX9_create_61 rfl ?_
          refine w_iload C 4 dX9_create_62 rfl ?_
          refine w_callV (As := [.int (iI q), .ref v, .int (iI (ffs d 29 3))]) (rest := []) (w2 := [(h, .inr (7, [.ref g, .ref o, .ref dd])), (o, .inr (4, [.ref g, .long (rmT (c2T tk d c) (c2D tk d mnb q c) q)])), (g, .inr (2, [.ref b])), (b, .inl (gI G, 4096, .inl (arI (enD (c2T tk d c) (c2D tk d mnb q c) q (ffs d 29 3) nb n)))), (dd, .inr (1, [.ref g, .ref o, .ref m])), (v, .inr (5, [.ref vb, .int (iI n)])), (vb, .inl (gI G, 14, .inl (arI nb))), (m, .inr (5, [.ref mb, .int (iI (c2L tk d mn c))])), (mb, .inl (gI G, 14, .inl (arI (c2N tk d mnb c))))]) (st2 := [.int (iI (bI (decide (rmR (c2T tk d c) (c2D tk d mnb q c) q ≠ -1))))]) C (ct_X9_enter G (kl k) h g o dd b m (c2T tk d c) (c2D tk d mnb q c) v vb nb n q (ffs d 29 3) (by omega) hqr) gX9_42 dX9_create_64 0 rfl rfl rfl rfl rfl (Nat.le_of_ble_eq_true rfl) (by decide) [0, 1, 2, 3, 4, 5, 6] rfl (by decide) [h, o, g, b, dd, v, vb] rfl rfl rfl rfl ?_
          refine w_bz C 75 dX9_create_67 rfl (fun c_5 => ?_) (fun c_5 => ?_)
          · have h3 : rmR (c2T tk d c) (c2D tk d mnb q c) q = -1 := Classical.not_not.mp (of_decide_eq_false c_5)
            refine w_iconst C dX9_create_75 ?_
            exact w_reti hret dX9_create_76 rfl rfl rfl rfl ⟨congrArg (fun z => some (Value.int (iI z))) (by unfold crR; first | (rw [if_neg hx, if_neg h2, if_pos h3]; done) | rw [if_neg hx, if_neg h2, if_neg h3]), (by unfold crT crD crN crL; rw [if_neg hx, if_neg hx, if_neg hx, if_neg hx, if_neg h2, if_neg h2])⟩
          · have h3 : ¬ rmR (c2T tk d c) (c2D tk d mnb q c) q = -1 := of_decide_eq_true c_5
            refine w_iload C 4 dX9_create_70 rfl ?_
            refine w_goto C 76 dX9_create_72 rfl ?_
            exact w_reti hret dX9_create_76 rfl rfl rfl rfl ⟨congrArg (fun z => some (Value.int (iI z))) (by unfold crR; first | (rw [if_neg hx, if_neg h2, if_pos h3]; done) | rw [if_neg hx, if_neg h2, if_neg h3]), (by unfold crT crD crN crL; rw [if_neg hx, if_neg hx, if_neg hx, if_neg hx, if_neg h2, if_neg h2])⟩
        · have h2 : c2X tk d c := And.intro hk (Classical.not_not.mp (of_decide_eq_false c_4))
          refine w_iconst C dX9_create_57 ?_
          exact w_reti hret dX9_create_58 rfl rfl rfl rfl ⟨congrArg (fun z => some (Value.int (iI z))) (by unfold crR; rw [if_neg hx, if_pos h2]), (by unfold crT crD crN crL; rw [if_neg hx, if_neg hx, if_neg hx, if_neg hx, if_pos h2, if_pos h2]; unfold c2T c2D c2N c2L; rw [if_neg hk, if_neg hk, if_neg hk, if_neg hk])⟩
      · have hk := c_3
        have h2 : ¬ c2X tk d c := fun z => z.1 hk
        refine w_aload_n C 0 dX9_create_31 rfl ?_
        refine w_get C 0 1 227 dX9_create_32 rfl rfl inX9 (by decide) (by decide +kernel) rfl ?_
        refine w_iload C 4 dX9_create_35 rfl ?_
        refine w_iconst C dX9_create_37 ?_
        refine w_callV (As := [.int (iI (ffs d 29 3)), .int (iI 1)]) (rest := []) (w2 := [(h, .inr (7, [.ref g, .ref o, .ref dd])), (o, .inr (4, [.ref g, .long tk])), (g, .inr (2, [.ref b])), (b, .inl (gI G, 4096, .inl (arI (im_set d (512 + (ffs d 29 3) * 16) 1)))), (dd, .inr (1, [.ref g, .ref o, .ref m])), (v, .inr (5, [.ref vb, .int (iI n)])), (vb, .inl (gI G, 14, .inl (arI nb))), (m, .inr (5, [.ref mb, .int (iI mn)])), (mb, .inl (gI G, 14, .inl (arI mnb)))]) (st2 := []) C (ct_X4_begin G (kl k) o g b tk d (ffs d 29 3) 1 (by omega)) gX9_33 dX9_create_38 1 rfl rfl rfl rfl rfl (Nat.le_of_ble_eq_true rfl) (by decide) [1, 2, 3] rfl (by decide) [o, g, b] rfl rfl rfl rfl ?_
        refine w_goto C 59 dX9_create_41 rfl ?_
        refine w_ws (ws2 := [(h, .inr (7, [.ref g, .ref o, .ref dd])), (o, .inr (4, [.ref g, .long (c2T tk d c)])), (g, .inr (2, [.ref b])), (b, .inl (gI G, 4096, .inl (arI (c2D tk d mnb q c)))), (dd, .inr (1, [.ref g, .ref o, .ref m])), (v, .inr (5, [.ref vb, .int (iI n)])), (vb, .inl (gI G, 14, .inl (arI nb))), (m, .inr (5, [.ref mb, .int (iI (c2L tk d mn c))])), (mb, .inl (gI G, 14, .inl (arI (c2N tk d mnb c))))]) (by unfold c2T c2D c2N c2L; first | (rw [if_pos hk, if_pos hk, if_pos hk, if_pos hk]; done) | rw [if_neg hk, if_neg hk, if_neg hk, if_neg hk]) ?_
        refine w_aload_n C 0 dX9_create_59 rfl ?_
        refine w_iload_n C 1 dX9_create_60 rfl ?_
        refine w_aload_n C 2 dX9_create_61 rfl ?_
        refine w_iload C 4 dX9_create_62 rfl ?_
        refine w_callV (As := [.int (iI q), .ref v, .int (iI (ffs d 29 3))]) (rest := []) (w2 := [(h, .inr (7, [.ref g, .ref o, .ref dd])), (o, .inr (4, [.ref g, .long (rmT (c2T tk d c) (c2D tk d mnb q c) q)])), (g, .inr (2, [.ref b])), (b, .inl (gI G, 4096, .inl (arI (enD (c2T tk d c) (c2D tk d mnb q c) q (ffs d 29 3) nb n)))), (dd, .inr (1, [.ref g, .ref o, .ref m])), (v, .inr (5, [.ref vb, .int (iI n)])), (vb, .inl (gI G, 14, .inl (arI nb))), (m, .inr (5, [.ref mb, .int (iI (c2L tk d mn c))])), (mb, .inl (gI G, 14, .inl (arI (c2N tk d mnb c))))]) (st2 := [.int (iI (bI (decide (rmR (c2T tk d c) (c2D tk d mnb q c) q ≠ -1))))]) C (ct_X9_enter G (kl k) h g o dd b m (c2T tk d c) (c2D tk d mnb q c) v vb nb n q (ffs d 29 3) (by omega) hqr) gX9_42 dX9_create_64 0 rfl rfl rfl rfl rfl (Nat.le_of_ble_eq_true rfl) (by decide) [0, 1, 2, 3, 4, 5, 6] rfl (by decide) [h, o, g, b, dd, v, vb] rfl rfl rfl rfl ?_
        refine w_bz C 75 dX9_create_67 rfl (fun c_6 => ?_) (fun c_6 => ?_)
        · have h3 : rmR (c2T tk d c) (c2D tk d mnb q c) q = -1 := Classical.not_not.mp (of_decide_eq_false c_6)
          refine w_iconst C dX9_create_75 ?_
          exact w_reti hret dX9_create_76 rfl rfl rfl rfl ⟨congrArg (fun z => some (Value.int (iI z))) (by unfold crR; first | (rw [if_neg hx, if_neg h2, if_pos h3]; done) | rw [if_neg hx, if_neg h2, if_neg h3]), (by unfold crT crD crN crL; rw [if_neg hx, if_neg hx, if_neg hx, if_neg hx, if_neg h2, if_neg h2])⟩
        · have h3 : ¬ rmR (c2T tk d c) (c2D tk d mnb q c) q = -1 := of_decide_eq_true c_6
          refine w_iload C 4 dX9_create_70 rfl ?_
          refine w_goto C 76 dX9_create_72 rfl ?_
          exact w_reti hret dX9_create_76 rfl rfl rfl rfl ⟨congrArg (fun z => some (Value.int (iI z))) (by unfold crR; first | (rw [if_neg hx, if_neg h2, if_pos h3]; done) | rw [if_neg hx, if_neg h2, if_neg h3]), (by unfold crT crD crN crL; rw [if_neg hx, if_neg hx, if_neg hx, if_neg hx, if_neg h2, if_neg h2])⟩
    · have hx : crX d q nb n := Or.inr c_2
      refine w_iconst C dX9_create_24 ?_
      exact w_reti hret dX9_create_25 rfl rfl rfl rfl ⟨congrArg (fun z => some (Value.int (iI z))) (by unfold crR; rw [if_pos hx]), (by unfold crT crD crN crL; rw [if_pos hx, if_pos hx, if_pos hx, if_pos hx])⟩
