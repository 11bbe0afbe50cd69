set_option maxHeartbeats 4000000 in
set_option maxRecDepth 100000 in
theorem ct_X9_addEntry (G : GX) (l : Launch) (h : Nat) (g : Nat) (o : Nat) (dd : Nat) (b : Nat) (m : Nat) (tk : Int64) (d : Im) (v : Nat) (vb : Nat) (nb : Im) (n : Int) (q : Int) (i : Int) (hn : 0 ≤ n ∧ n ≤ 14) (hq : -2147483648 ≤ q ∧ q < 2147483648) (hi : -2147483648 ≤ i ∧ i < 2147483648) : Ct G l yX9_addEntry cX9_addEntry 4 (some .boolean) rmX9_addEntry [.ref h, .int (iI q), .ref v, .int (iI i)] [(h, .inr (7, [.ref g, .ref o, .ref dd])), (o, .inr (4, [.ref g, .long tk])), (g, .inr (2, [.ref b])), (b, .inl (gI G, 4096, .inl (arI d))), (dd, .inr (1, [.ref g, .ref o, .ref m])), (v, .inr (5, [.ref vb, .int (iI n)])), (vb, .inl (gI G, 14, .inl (arI nb)))] (some (.int (iI (bI (aeB tk d q i nb n))))) [(h, .inr (7, [.ref g, .ref o, .ref dd])), (o, .inr (4, [.ref g, .long (aeT tk d q i nb n)])), (g, .inr (2, [.ref b])), (b, .inl (gI G, 4096, .inl (arI (aeD tk d q i nb n)))), (dd, .inr (1, [.ref g, .ref o, .ref m])), (v, .inr (5, [.ref vb, .int (iI n)])), (vb, .inl (gI G, 14, .inl (arI nb)))] := by
  refine Ct.of (by decide) (Nat.le_of_ble_eq_true rfl) ?_
  intro k C hl hret
  subst hl
  refine w_lv (lv2 := [(0, .ref h), (1, .int (iI q)), (2, .ref v), (3, .int (iI i))]) [0, 1, 2, 3] rfl ?_
  refine w_aload_n C 0 dX9_addEntry_0 rfl ?_
  refine w_get C 0 1 227 dX9_addEntry_1 rfl rfl inX9 (by decide) (by decide +kernel) rfl ?_
  refine w_iload_n C 3 dX9_addEntry_4 rfl ?_
  refine w_callV (As := [.int (iI i)]) (rest := []) (w2 := [(h, .inr (7, [.ref g, .ref o, .ref dd])), (o, .inr (4, [.ref g, .long tk])), (g, .inr (2, [.ref b])), (b, .inl (gI G, 4096, .inl (arI d))), (dd, .inr (1, [.ref g, .ref o, .ref m])), (v, .inr (5, [.ref vb, .int (iI n)])), (vb, .inl (gI G, 14, .inl (arI nb)))]) (st2 := [.int (iI (kd d i))]) C (ct_X4_kind G (kl k) o g b tk d i (by omega)) gX9_46 dX9_addEntry_5 1 rfl rfl rfl rfl rfl (Nat.le_of_ble_eq_true rfl) (by decide) [1, 2, 3] rfl (by decide) [o, g, b] rfl rfl rfl rfl ?_
  have f_1 := kd_rg d i
  refine w_iconst C dX9_addEntry_8 ?_
  refine w_icmp_ne C 35 dX9_addEntry_9 rfl (by omega) (fun c_2 => ?_) (fun c_2 => ?_)
  · have hx : aeX d q i nb n := Or.inl c_2
    refine w_iconst C dX9_addEntry_35 ?_
    exact w_reti hret dX9_addEntry_36 rfl rfl rfl rfl ⟨congrArg (fun z => some (Value.int (iI z))) (by unfold aeB; first | (rw [if_pos hx]; rfl) | (rw [if_neg hx, c_2]; rfl)), (by unfold aeT aeD; first | (rw [if_pos hx, if_pos hx]; done) | rw [if_neg hx, if_neg hx])⟩
  · have hk := c_2
    refine w_aload_n C 0 dX9_addEntry_12 rfl ?_
    refine w_iload_n C 1 dX9_addEntry_13 rfl ?_
    refine w_aload_n C 2 dX9_addEntry_14 rfl ?_
    refine w_callV (As := [.int (iI q), .ref v]) (rest := []) (w2 := [(h, .inr (7, [.ref g, .ref o, .ref dd])), (o, .inr (4, [.ref g, .long tk])), (g, .inr (2, [.ref b])), (b, .inl (gI G, 4096, .inl (arI d))), (dd, .inr (1, [.ref g, .ref o, .ref m])), (v, .inr (5, [.ref vb, .int (iI n)])), (vb, .inl (gI G, 14, .inl (arI nb)))]) (st2 := [.int (iI (bI (wmB d q nb n)))]) C (ct_X9_mayEnter G (kl k) h g o dd b m tk d v vb nb n q (by omega) (by omega)) gX9_29 dX9_addEntry_15 0 rfl rfl rfl rfl rfl (Nat.le_of_ble_eq_true rfl) (by decide) [0, 1, 2, 3, 4, 5, 6] rfl (by decide) [h, o, g, b, dd, v, vb] rfl rfl rfl rfl ?_
    refine w_bz C 35 dX9_addEntry_18 rfl (fun c_3 => ?_) (fun c_3 => ?_)
    · have hx : aeX d q i nb n := Or.inr c_3
      refine w_iconst C dX9_addEntry_35 ?_
      exact w_reti hret dX9_addEntry_36 rfl rfl rfl rfl ⟨congrArg (fun z => some (Value.int (iI z))) (by unfold aeB; first | (rw [if_pos hx]; rfl) | (rw [if_neg hx, c_3]; rfl)), (by unfold aeT aeD; first | (rw [if_pos hx, if_pos hx]; done) | rw [if_neg hx, if_neg hx])⟩
    · have hx : ¬ aeX d q i nb n := by rintro (z | z); exact z hk; (rw [c_3] at z; cases z)
      have hqr : 0 ≤ q ∧ q < 32 := kd_in (d := d) (fun z => by have w := c_3; unfold wmB at w; rw [z] at w; simp at w)
      refine w_aload_n C 0 dX9_addEntry_21 rfl ?_
      refine w_iload_n C 1 dX9_addEntry_22 rfl ?_
      refine w_aload_n C 2 dX9_addEntry_23 rfl ?_
      refine w_iload_n C 3 dX9_addEntry_24 rfl ?_
      refine w_callV (As := [.int (iI q), .ref v, .int (iI i)]) (rest := []) (w2 := [(h, .inr (7, [.ref g, .ref o, .ref dd])), (o, .inr (4, [.ref g, .long (rmT tk d q)])), (g, .inr (2, [.ref b])), (b, .inl (gI G, 4096, .inl (arI (enD tk d q i nb n)))), (dd, .inr (1, [.ref g, .ref o, .ref m])), (v, .inr (5, [.ref vb, .int (iI n)])), (vb, .inl (gI G, 14, .inl (arI nb)))]) (st2 := [.int (iI (bI (decide (rmR tk d q ≠ -1))))]) C (ct_X9_enter G (kl k) h g o dd b m tk d v vb nb n q i (by omega) hqr) gX9_42 dX9_addEntry_25 0 rfl rfl rfl rfl rfl (Nat.le_of_ble_eq_true rfl) (by decide) [0, 1, 2, 3, 4, 5, 6] rfl (by decide) [h, o, g, b, dd, v, vb] rfl rfl rfl rfl ?_
      refine w_bz C 35 dX9_addEntry_28 rfl (fun c_4 => ?_) (fun c_4 => ?_)
      · refine w_iconst C dX9_addEntry_35 ?_
        exact w_reti hret dX9_addEntry_36 rfl rfl rfl rfl ⟨congrArg (fun z => some (Value.int (iI z))) (by unfold aeB; first | (rw [if_pos hx]; rfl) | (rw [if_neg hx, c_4]; rfl)), (by unfold aeT aeD; first | (rw [if_pos hx, if_pos hx]; done) | rw [if_neg hx, if_neg hx])⟩
      · refine w_iconst C dX9_addEntry_31 ?_
        refine w_goto C 36 dX9_addEntry_32 rfl ?_
        exact w_reti hret dX9_addEntry_36 rfl rfl rfl rfl ⟨congrArg (fun z => some (Value.int (iI z))) (by unfold aeB; first | (rw [if_pos hx]; rfl) | (rw [if_neg hx, c_4]; rfl)), (by unfold aeT aeD; first | (rw [if_pos hx, if_pos hx]; done) | rw [if_neg hx, if_neg hx])⟩

theorem gX9_67 : cwv RX9 67 yX4_size cX4_size 2 (some .int) 1 811 444 445 67 446 := by decide +kernel
theorem gX9_73 : cwv RX9 73 yX4_contentPlace cX4_contentPlace 6 (some .int) 2 813 468 469 67 470 := by decide +kernel
theorem gX9_77 : cwv RX9 77 yX2_set cX2_set 3 none 2 814 332 333 66 334 := by decide +kernel
theorem gX9_82 : cwv RX9 82 yX4_setSize cX4_setSize 3 none 2 815 516 517 67 518 := by decide +kernel
theorem gX9_70 : cwv RX9 70 yX4_addBlock cX4_addBlock 6 (some .int) 1 812 507 508 67 509 := by decide +kernel
set_option maxHeartbeats 4000000 in
set_option maxRecDepth 100000 in
theorem ct_X9_lengthen (G : GX) (l : Launch) (h : Nat) (g : Nat) (o : Nat) (dd : Nat) (b : Nat) (m : Nat) (tk : Int64) (d : Im) (i : Int) (c : Int) (hi : -2147483648 ≤ i ∧ i < 2147483648) : Ct G l yX9_lengthen cX9_lengthen 4 (some .boolean) rmX9_lengthen [.ref h, .int (iI i), .int (iI c)] [(h, .inr (7, [.ref g, .ref o, .ref dd])), (o, .inr (4, [.ref g, .long tk])), (g, .inr (2, [.ref b])), (b, .inl (gI G, 4096, .inl (arI d))), (dd, .inr (1, [.ref g, .ref o, .ref m]))] (some (.int (iI (bI (decide (¬ leX tk d i)))))) [(h, .inr (7, [.ref g, .ref o, .ref dd])), (o, .inr (4, [.ref g, .long (leT tk d i)])), (g, .inr (2, [.ref b])), (b, .inl (gI G, 4096, .inl (arI (leD tk d i c)))), (dd, .inr (1, [.ref g, .ref o, .ref m]))] := by
  refine Ct.of (by decide) (Nat.le_of_ble_eq_true rfl) ?_
  intro k C hl hret
  subst hl
  refine w_lv (lv2 := [(0, .ref h), (1, .int (iI i)), (2, .int (iI c))]) [0, 1, 2] rfl ?_
  refine w_aload_n C 0 dX9_lengthen_0 rfl ?_
  refine w_get C 0 1 227 dX9_lengthen_1 rfl rfl inX9 (by decide) (by decide +kernel) rfl ?_
  refine w_iload_n C 1 dX9_lengthen_4 rfl ?_
  refine w_callV (As := [.int (iI i)]) (rest := []) (w2 := [(h, .inr (7, [.ref g, .ref o, .ref dd])), (o, .inr (4, [.ref g, .long tk])), (g, .inr (2, [.ref b])), (b, .inl (gI G, 4096, .inl (arI d))), (dd, .inr (1, [.ref g, .ref o, .ref m]))]) (st2 := [.int (iI (sz d i))]) C (ct_X4_size G (kl k) o g b tk d i (by omega)) gX9_67 dX9_lengthen_5 1 rfl rfl rfl rfl rfl (Nat.le_of_ble_eq_true rfl) (by decide) [1, 2, 3] rfl (by decide) [o, g, b] rfl rfl rfl rfl ?_
  have f_1 := sz_rg d i
  refine w_istore_n (lv2 := [(0, .ref h), (1, .int (iI i)), (2, .int (iI c)), (3, .int (iI (sz d i)))]) C dX9_lengthen_8 (by decide) rfl ?_
  refine w_aload_n C 0 dX9_lengthen_9 rfl ?_
  refine w_get C 0 1 227 dX9_lengthen_10 rfl rfl inX9 (by decide) (by decide +kernel) rfl ?_
  refine w_iload_n C 1 dX9_lengthen_13 rfl ?_
  refine w_callV (As := [.int (iI i)]) (rest := []) (w2 := [(h, .inr (7, [.ref g, .ref o, .ref dd])), (o, .inr (4, [.ref g, .long tk])), (g, .inr (2, [.ref b])), (b, .inl (gI G, 4096, .inl (arI d))), (dd, .inr (1, [.ref g, .ref o, .ref m]))]) (st2 := [.int (iI (kd d i))]) C (ct_X4_kind G (kl k) o g b tk d i (by omega)) gX9_46 dX9_lengthen_14 1 rfl rfl rfl rfl rfl (Nat.le_of_ble_eq_true rfl) (by decide) [1, 2, 3] rfl (by decide) [o, g, b] rfl rfl rfl rfl ?_
  have f_2 := kd_rg d i
  refine w_iconst C dX9_lengthen_17 ?_
  refine w_icmp_ne C 40 dX9_lengthen_18 rfl (by omega) (fun c_3 => ?_) (fun c_3 => ?_)
  · have hx : leX tk d i := Or.inl c_3
    have h1 : ¬ (kd d i = 1 ∧ leY d i) := fun z => c_3 z.1
    refine w_iconst C dX9_lengthen_40 ?_
    exact w_reti hret dX9_lengthen_41 rfl rfl rfl rfl ⟨congrArg (fun z => some (Value.int (iI z))) (by rw [bI_f (fun z => z hx)]), (by unfold leT leD le1; rw [if_pos hx]; first | (rw [if_neg h1, if_neg h1]; done) | rw [if_pos h1, if_pos h1])⟩
  · have hk := c_3
    have hi2 := kd_in (d := d) (i := i) (by omega)
    refine w_iload_n C 3 dX9_lengthen_21 rfl ?_
    refine w_bipush C dX9_lengthen_22 (by decide) ?_
    refine w_irem C dX9_lengthen_24 (by omega) ?_
    refine w_if_ne C 42 dX9_lengthen_25 rfl (by omega) (fun c_4 => ?_) (fun c_4 => ?_)
    · have h1 : ¬ (kd d i = 1 ∧ leY d i) := fun z => c_4 z.2
      have hx : ¬ leX tk d i := by rintro (z | z); exact z hk; exact c_4 z.1
      refine w_ws (ws2 := [(h, .inr (7, [.ref g, .ref o, .ref dd])), (o, .inr (4, [.ref g, .long (leT tk d i)])), (g, .inr (2, [.ref b])), (b, .inl (gI G, 4096, .inl (arI (le1 tk d i)))), (dd, .inr (1, [.ref g, .ref o, .ref m]))]) (by unfold le1 leT; first | (rw [if_neg h1, if_neg h1]; done) | rw [if_pos h1, if_pos h1]) ?_
      refine w_aload_n C 0 dX9_lengthen_42 rfl ?_
      refine w_get C 0 0 226 dX9_lengthen_43 rfl rfl inX9 (by decide) (by decide +kernel) rfl ?_
      refine w_aload_n C 0 dX9_lengthen_46 rfl ?_
      refine w_get C 0 1 227 dX9_lengthen_47 rfl rfl inX9 (by decide) (by decide +kernel) rfl ?_
      refine w_iload_n C 1 dX9_lengthen_50 rfl ?_
      refine w_iload_n C 3 dX9_lengthen_51 rfl ?_
      refine w_callV (As := [.int (iI i), .int (iI (sz d i))]) (rest := [.ref g]) (w2 := [(h, .inr (7, [.ref g, .ref o, .ref dd])), (o, .inr (4, [.ref g, .long (leT tk d i)])), (g, .inr (2, [.ref b])), (b, .inl (gI G, 4096, .inl (arI (le1 tk d i)))), (dd, .inr (1, [.ref g, .ref o, .ref m]))]) (st2 := [.int (iI (cp (le1 tk d i) i (sz d i))), .ref g]) C (ct_X4_contentPlace G (kl k) o g b (leT tk d i) (le1 tk d i) i (sz d i) (by omega) (by omega)) gX9_73 dX9_lengthen_52 1 rfl rfl rfl rfl rfl (Nat.le_of_ble_eq_true rfl) (by decide) [1, 2, 3] rfl (by decide) [o, g, b] rfl rfl rfl rfl ?_
      have f_5 := cp_rg (le1 tk d i) i (sz d i)
      refine w_iload_n C 2 dX9_lengthen_55 rfl ?_
      refine w_callV (As := [.int (iI (cp (le1 tk d i) i (sz d i))), .int (iI c)]) (rest := []) (w2 := [(h, .inr (7, [.ref g, .ref o, .ref dd])), (o, .inr (4, [.ref g, .long (leT tk d i)])), (g, .inr (2, [.ref b])), (b, .inl (gI G, 4096, .inl (arI (im_set (le1 tk d i) (cp (le1 tk d i) i (sz d i)) c)))), (dd, .inr (1, [.ref g, .ref o, .ref m]))]) (st2 := []) C (ct_X2_set G (kl k) g b (le1 tk d i) (cp (le1 tk d i) i (sz d i)) c (by omega)) gX9_77 dX9_lengthen_56 2 rfl rfl rfl rfl rfl (Nat.le_of_ble_eq_true rfl) (by decide) [2, 3] rfl (by decide) [g, b] rfl rfl rfl rfl ?_
      refine w_aload_n C 0 dX9_lengthen_59 rfl ?_
      refine w_get C 0 1 227 dX9_lengthen_60 rfl rfl inX9 (by decide) (by decide +kernel) rfl ?_
      refine w_iload_n C 1 dX9_lengthen_63 rfl ?_
      refine w_iload_n C 3 dX9_lengthen_64 rfl ?_
      refine w_iconst C dX9_lengthen_65 ?_
      refine w_iadd C dX9_lengthen_66 ?_
      refine w_callV (As := [.int (iI i), .int (iI ((sz d i) + 1))]) (rest := []) (w2 := [(h, .inr (7, [.ref g, .ref o, .ref dd])), (o, .inr (4, [.ref g, .long (leT tk d i)])), (g, .inr (2, [.ref b])), (b, .inl (gI G, 4096, .inl (arI (im_put (im_set (le1 tk d i) (cp (le1 tk d i) i (sz d i)) c) (512 + i * 16 + 2) ((sz d i) + 1))))), (dd, .inr (1, [.ref g, .ref o, .ref m]))]) (st2 := []) C (ct_X4_setSize G (kl k) o g b (leT tk d i) (im_set (le1 tk d i) (cp (le1 tk d i) i (sz d i)) c) i ((sz d i) + 1) (by omega) (by omega)) gX9_82 dX9_lengthen_67 1 rfl rfl rfl rfl rfl (Nat.le_of_ble_eq_true rfl) (by decide) [1, 2, 3] rfl (by decide) [o, g, b] rfl rfl rfl rfl ?_
      refine w_iconst C dX9_lengthen_70 ?_
      exact w_reti hret dX9_lengthen_71 rfl rfl rfl rfl ⟨congrArg (fun z => some (Value.int (iI z))) (by rw [bI_t hx]), (by unfold leD; rw [if_neg hx])⟩
    · have hy := c_4
      have h1 : kd d i = 1 ∧ leY d i := And.intro hk hy
      refine w_aload_n C 0 dX9_lengthen_28 rfl ?_
      refine w_get C 0 1 227 dX9_lengthen_29 rfl rfl inX9 (by decide) (by decide +kernel) rfl ?_
      refine w_iload_n C 1 dX9_lengthen_32 rfl ?_
      refine w_callV (As := [.int (iI i)]) (rest := []) (w2 := [(h, .inr (7, [.ref g, .ref o, .ref dd])), (o, .inr (4, [.ref g, .long (abT tk d i)])), (g, .inr (2, [.ref b])), (b, .inl (gI G, 4096, .inl (arI (abD tk d i)))), (dd, .inr (1, [.ref g, .ref o, .ref m]))]) (st2 := [.int (iI (abR tk d i))]) C (ct_X4_addBlock G (kl k) o g b tk d i (by omega)) gX9_70 dX9_lengthen_33 1 rfl rfl rfl rfl rfl (Nat.le_of_ble_eq_true rfl) (by decide) [1, 2, 3] rfl (by decide) [o, g, b] rfl rfl rfl rfl ?_
      have f_6 := abR_rg tk d i
      refine w_iconst C dX9_lengthen_36 ?_
      refine w_icmp_ne C 42 dX9_lengthen_37 rfl (by omega) (fun c_7 => ?_) (fun c_7 => ?_)
      · have hx : ¬ leX tk d i := by rintro (z | z); exact z hk; exact c_7 z.2
        refine w_ws (ws2 := [(h, .inr (7, [.ref g, .ref o, .ref dd])), (o, .inr (4, [.ref g, .long (leT tk d i)])), (g, .inr (2, [.ref b])), (b, .inl (gI G, 4096, .inl (arI (le1 tk d i)))), (dd, .inr (1, [.ref g, .ref o, .ref m]))]) (by unfold le1 leT; first | (rw [if_neg h1, if_neg h1]; done) | rw [if_pos h1, if_pos h1]) ?_
        refine w_aload_n C 0 dX9_lengthen_42 rfl ?_
        refine w_get C 0 0 226 dX9_lengthen_43 rfl rfl inX9 (by decide) (by decide +kernel) rfl ?_
        refine w_aload_n C 0 dX9_lengthen_46 rfl ?_
        refine w_get C 0 1 227 dX9_lengthen_47 rfl rfl inX9 (by decide) (by decide +kernel) rfl ?_
        refine w_iload_n C 1 dX9_lengthen_50 rfl ?_
        refine w_iload_n C 3 dX9_lengthen_51 rfl ?_
        refine w_callV (As := [.int (iI i), .int (iI (sz d i))]) (rest := [.ref g]) (w2 := [(h, .inr (7, [.ref g, .ref o, .ref dd])), (o, .inr (4, [.ref g, .long (leT tk d i)])), (g, .inr (2, [.ref b])), (b, .inl (gI G, 4096, .inl (arI (le1 tk d i)))), (dd, .inr (1, [.ref g, .ref o, .ref m]))]) (st2 := [.int (iI (cp (le1 tk d i) i (sz d i))), .ref g]) C (ct_X4_contentPlace G (kl k) o g b (leT tk d i) (le1 tk d i) i (sz d i) (by omega) (by omega)) gX9_73 dX9_lengthen_52 1 rfl rfl rfl rfl rfl (Nat.le_of_ble_eq_true rfl) (by decide) [1, 2, 3] rfl (by decide) [o, g, b] rfl rfl rfl rfl ?_
        have f_8 := cp_rg (le1 tk d i) i (sz d i)
        refine w_iload_n C 2 dX9_lengthen_55 rfl ?_
        refine w_callV (As := [.int (iI (cp (le1 tk d i) i (sz d i))), .int (iI c)]) (rest := []) (w2 := [(h, .inr (7, [.ref g, .ref o, .ref dd])), (o, .inr (4, [.ref g, .long (leT tk d i)])), (g, .inr (2, [.ref b])), (b, .inl (gI G, 4096, .inl (arI (im_set (le1 tk d i) (cp (le1 tk d i) i (sz d i)) c)))), (dd, .inr (1, [.ref g, .ref o, .ref m]))]) (st2 := []) C (ct_X2_set G (kl k) g b (le1 tk d i) (cp (le1 tk d i) i (sz d i)) c (by omega)) gX9_77 dX9_lengthen_56 2 rfl rfl rfl rfl rfl (Nat.le_of_ble_eq_true rfl) (by decide) [2, 3] rfl (by decide) [g, b] rfl rfl rfl rfl ?_
        refine w_aload_n C 0 dX9_lengthen_59 rfl ?_
        refine w_get C 0 1 227 dX9_lengthen_60 rfl rfl inX9 (by decide) (by decide +kernel) rfl ?_
        refine w_iload_n C 1 dX9_lengthen_63 rfl ?_
        refine w_iload_n C 3 dX9_lengthen_64 rfl ?_
        refine w_iconst C dX9_lengthen_65 ?_
        refine w_iadd C dX9_lengthen_66 ?_
        refine w_callV (As := [.int (iI i), .int (iI ((sz d i) + 1))]) (rest := []) (w2 := [(h, .inr (7, [.ref g, .ref o, .ref dd])), (o, .inr (4, [.ref g, .long (leT tk d i)])), (g, .inr (2, [.ref b])), (b, .inl (gI G, 4096, .inl (arI (im_put (im_set (le1 tk d i) (cp (le1 tk d i) i (sz d i)) c) (512 + i * 16 + 2) ((sz d i) + 1))))), (dd, .inr (1, [.ref g, .ref o, .ref m]))]) (st2 := []) C (ct_X4_setSize G (kl k) o g b (leT tk d i) (im_set (le1 tk d i) (cp (le1 tk d i) i (sz d i)) c) i ((sz d i) + 1) (by omega) (by omega)) gX9_82 dX9_lengthen_67 1 rfl rfl rfl rfl rfl (Nat.le_of_ble_eq_true rfl) (by decide) [1, 2, 3] rfl (by decide) [o, g, b] rfl rfl rfl rfl ?_
        refine w_iconst C dX9_lengthen_70 ?_
        exact w_reti hret dX9_lengthen_71 rfl rfl rfl rfl ⟨congrArg (fun z => some (Value.int (iI z))) (by rw [bI_t hx]), (by unfold leD; rw [if_neg hx])⟩
      · have hx : leX tk d i := Or.inr (And.intro hy c_7)
        refine w_iconst C dX9_lengthen_40 ?_
        exact w_reti hret dX9_lengthen_41 rfl rfl rfl rfl ⟨congrArg (fun z => some (Value.int (iI z))) (by rw [bI_f (fun z => z hx)]), (by unfold leT leD le1; rw [if_pos hx]; first | (rw [if_neg h1, if_neg h1]; done) | rw [if_pos h1, if_pos h1])⟩

theorem gX9_85 : cwv RX9 85 yX2_at cX2_at 2 (some .int) 1 832 359 360 66 361 := by decide +kernel
theorem gX9_88 : cwv RX9 88 yX1_isEmpty cX1_isEmpty 4 (some .boolean) 1 833 834 835 68 836 := by decide +kernel
theorem gX9_92 : cwv RX9 92 yX1_wipeEntry cX1_wipeEntry 2 none 1 837 593 594 68 595 := by decide +kernel
theorem gX9_99 : cwv RX9 99 yX4_erase cX4_erase 2 none 1 839 492 493 67 494 := by decide +kernel
theorem gX9_96 : cwv RX9 96 yX4_links cX4_links 2 (some .int) 1 838 665 666 67 667 := by decide +kernel
set_option maxHeartbeats 4000000 in
set_option maxRecDepth 100000 in
theorem ct_X9_removeEntry (G : GX) (l : Launch) (h : Nat) (g : Nat) (o : Nat) (dd : Nat) (b : Nat) (m : Nat) (tk : Int64) (d : Im) (v : Nat) (vb : Nat) (nb : Im) (n : Int) (q : Int) (hn : 0 ≤ n ∧ n ≤ 14) (hq : -2147483648 ≤ q ∧ q < 2147483648) : Ct G l yX9_removeEntry cX9_removeEntry 6 (some .boolean) rmX9_removeEntry [.ref h, .int (iI q), .ref v] [(h, .inr (7, [.ref g, .ref o, .ref dd])), (o, .inr (4, [.ref g, .long tk])), (g, .inr (2, [.ref b])), (b, .inl (gI G, 4096, .inl (arI d))), (dd, .inr (1, [.ref g, .ref o, .ref m])), (v, .inr (5, [.ref vb, .int (iI n)])), (vb, .inl (gI G, 14, .inl (arI nb)))] (some (.int (iI (bI (reB d q nb n))))) [(h, .inr (7, [.ref g, .ref o, .ref dd])), (o, .inr (4, [.ref g, .long (reT tk d q nb n)])), (g, .inr (2, [.ref b])), (b, .inl (gI G, 4096, .inl (arI (reD d q nb n)))), (dd, .inr (1, [.ref g, .ref o, .ref m])), (v, .inr (5, [.ref vb, .int (iI n)])), (vb, .inl (gI G, 14, .inl (arI nb)))] := by
  refine Ct.of (by decide) (Nat.le_of_ble_eq_true rfl) ?_
  intro k C hl hret
  subst hl
  refine w_lv (lv2 := [(0, .ref h), (1, .int (iI q)), (2, .ref v)]) [0, 1, 2] rfl ?_
  refine w_aload_n C 0 dX9_removeEntry_0 rfl ?_
  refine w_get C 0 1 227 dX9_removeEntry_1 rfl rfl inX9 (by decide) (by decide +kernel) rfl ?_
  refine w_iload_n C 1 dX9_removeEntry_4 rfl ?_
  refine w_callV (As := [.int (iI q)]) (rest := []) (w2 := [(h, .inr (7, [.ref g, .ref o, .ref dd])), (o, .inr (4, [.ref g, .long tk])), (g, .inr (2, [.ref b])), (b, .inl (gI G, 4096, .inl (arI d))), (dd, .inr (1, [.ref g, .ref o, .ref m])), (v, .inr (5, [.ref vb, .int (iI n)])), (vb, .inl (gI G, 14, .inl (arI nb)))]) (st2 := [.int (iI (kd d q))]) C (ct_X4_kind G (kl k) o g b tk d q (by omega)) gX9_46 dX9_removeEntry_5 1 rfl rfl rfl rfl rfl (Nat.le_of_ble_eq_true rfl) (by decide) [1, 2, 3] rfl (by decide) [o, g, b] rfl rfl rfl rfl ?_
  have f_1 := kd_rg d q
  refine w_iconst C dX9_removeEntry_8 ?_
  refine w_icmp_ne C 24 dX9_removeEntry_9 rfl (by omega) (fun c_2 => ?_) (fun c_2 => ?_)
  · refine w_iconst C dX9_removeEntry_24 ?_
    refine w_st (st2 := [.int (iI (reP d q nb n))]) (by unfold reP; first | rw [if_pos c_2] | rw [if_neg c_2]) ?_
    refine w_istore_n (lv2 := [(0, .ref h), (1, .int (iI q)), (2, .ref v), (3, .int (iI (reP d q nb n)))]) C dX9_removeEntry_25 (by decide) rfl ?_
    have pr := reP_rg d q nb n
    refine w_iload_n C 3 dX9_removeEntry_26 rfl ?_
    refine w_iconst C dX9_removeEntry_27 ?_
    refine w_icmp_ne C 33 dX9_removeEntry_28 rfl (by omega) (fun c_3 => ?_) (fun c_3 => ?_)
    · have hp := c_3
      refine w_aload_n C 0 dX9_removeEntry_33 rfl ?_
      refine w_get C 0 0 226 dX9_removeEntry_34 rfl rfl inX9 (by decide) (by decide +kernel) rfl ?_
      refine w_iload_n C 3 dX9_removeEntry_37 rfl ?_
      refine w_callV (As := [.int (iI (reP d q nb n))]) (rest := []) (w2 := [(h, .inr (7, [.ref g, .ref o, .ref dd])), (o, .inr (4, [.ref g, .long tk])), (g, .inr (2, [.ref b])), (b, .inl (gI G, 4096, .inl (arI d))), (dd, .inr (1, [.ref g, .ref o, .ref m])), (v, .inr (5, [.ref vb, .int (iI n)])), (vb, .inl (gI G, 14, .inl (arI nb)))]) (st2 := [.int (iI (im_at d (reP d q nb n)))]) C (ct_X2_at G (kl k) g b d (reP d q nb n) (by omega)) gX9_85 dX9_removeEntry_38 2 rfl rfl rfl rfl rfl (Nat.le_of_ble_eq_true rfl) (by decide) [2, 3] rfl (by decide) [g, b] rfl rfl rfl rfl ?_
      have f_4 := im_at_rg d (reP d q nb n)
      have ir : 0 ≤ reI d q nb n ∧ reI d q nb n < 256 := im_at_rg d _
      refine w_st (st2 := [.int (iI (reI d q nb n))]) rfl ?_
      refine w_istore (lv2 := [(0, .ref h), (1, .int (iI q)), (2, .ref v), (3, .int (iI (reP d q nb n))), (4, .int (iI (reI d q nb n)))]) C dX9_removeEntry_41 (by decide) rfl ?_
      refine w_aload_n C 0 dX9_removeEntry_43 rfl ?_
      refine w_get C 0 1 227 dX9_removeEntry_44 rfl rfl inX9 (by decide) (by decide +kernel) rfl ?_
      refine w_iload C 4 dX9_removeEntry_47 rfl ?_
      refine w_callV (As := [.int (iI (reI d q nb n))]) (rest := []) (w2 := [(h, .inr (7, [.ref g, .ref o, .ref dd])), (o, .inr (4, [.ref g, .long tk])), (g, .inr (2, [.ref b])), (b, .inl (gI G, 4096, .inl (arI d))), (dd, .inr (1, [.ref g, .ref o, .ref m])), (v, .inr (5, [.ref vb, .int (iI n)])), (vb, .inl (gI G, 14, .inl (arI nb)))]) (st2 := [.int (iI (kd d (reI d q nb n)))]) C (ct_X4_kind G (kl k) o g b tk d (reI d q nb n) (by omega)) gX9_46 dX9_removeEntry_49 1 rfl rfl rfl rfl rfl (Nat.le_of_ble_eq_true rfl) (by decide) [1, 2, 3] rfl (by decide) [o, g, b] rfl rfl rfl rfl ?_
      have f_5 := kd_rg d (reI d q nb n)
      refine w_iconst C dX9_removeEntry_52 ?_
      refine w_icmp_ne C 60 dX9_removeEntry_53 rfl (by omega) (fun c_6 => ?_) (fun c_6 => ?_)
      · have hk := c_6
        refine w_iconst C dX9_removeEntry_60 ?_
        refine w_istore (lv2 := [(0, .ref h), (1, .int (iI q)), (2, .ref v), (3, .int (iI (reP d q nb n))), (4, .int (iI (reI d q nb n))), (5, .int (iI 0))]) C dX9_removeEntry_61 (by decide) rfl ?_
        refine w_iload C 5 dX9_removeEntry_63 rfl ?_
        refine w_if_ne C 82 dX9_removeEntry_65 rfl (by omega) (fun c_7 => ?_) (fun c_7 => ?_)
        · omega
        · refine w_aload_n C 0 dX9_removeEntry_68 rfl ?_
          refine w_get C 0 2 228 dX9_removeEntry_69 rfl rfl inX9 (by decide) (by decide +kernel) rfl ?_
          refine w_iload C 4 dX9_removeEntry_72 rfl ?_
          refine w_callV (As := [.int (iI (reI d q nb n))]) (rest := []) (w2 := [(h, .inr (7, [.ref g, .ref o, .ref dd])), (o, .inr (4, [.ref g, .long tk])), (g, .inr (2, [.ref b])), (b, .inl (gI G, 4096, .inl (arI d))), (dd, .inr (1, [.ref g, .ref o, .ref m])), (v, .inr (5, [.ref vb, .int (iI n)])), (vb, .inl (gI G, 14, .inl (arI nb)))]) (st2 := [.int (iI (bI (emB d (reI d q nb n))))]) C (ct_X1_isEmpty G (kl k) dd o g b m tk d (reI d q nb n) (by omega)) gX9_88 dX9_removeEntry_74 4 rfl rfl rfl rfl rfl (Nat.le_of_ble_eq_true rfl) (by decide) [4, 1, 2, 3] rfl (by decide) [dd, o, g, b] rfl rfl rfl rfl ?_
          refine w_bnz C 82 dX9_removeEntry_77 rfl (fun c_8 => ?_) (fun c_8 => ?_)
          · have hx : ¬ reX d q nb n := by rintro (z | z); exact hp z; (have w := z.2; rw [c_8] at w; cases w)
            have he : reE d q nb n := Or.inl hk
            refine w_aload_n C 0 dX9_removeEntry_82 rfl ?_
            refine w_get C 0 2 228 dX9_removeEntry_83 rfl rfl inX9 (by decide) (by decide +kernel) rfl ?_
            refine w_iload_n C 3 dX9_removeEntry_86 rfl ?_
            refine w_callV (As := [.int (iI (reP d q nb n))]) (rest := []) (w2 := [(h, .inr (7, [.ref g, .ref o, .ref dd])), (o, .inr (4, [.ref g, .long tk])), (g, .inr (2, [.ref b])), (b, .inl (gI G, 4096, .inl (arI (im_wipe d (reP d q nb n) 16)))), (dd, .inr (1, [.ref g, .ref o, .ref m])), (v, .inr (5, [.ref vb, .int (iI n)])), (vb, .inl (gI G, 14, .inl (arI nb)))]) (st2 := []) C (ct_X1_wipeEntry G (kl k) dd o g b m tk d (reP d q nb n) (by omega)) gX9_92 dX9_removeEntry_87 4 rfl rfl rfl rfl rfl (Nat.le_of_ble_eq_true rfl) (by decide) [4, 1, 2, 3] rfl (by decide) [dd, o, g, b] rfl rfl rfl rfl ?_
            refine w_iload C 5 dX9_removeEntry_90 rfl ?_
            refine w_if_eq C 108 dX9_removeEntry_92 rfl (by omega) (fun c_9 => ?_) (fun c_9 => ?_)
            · refine w_aload_n C 0 dX9_removeEntry_108 rfl ?_
              refine w_get C 0 1 227 dX9_removeEntry_109 rfl rfl inX9 (by decide) (by decide +kernel) rfl ?_
              refine w_iload C 4 dX9_removeEntry_112 rfl ?_
              refine w_callV (As := [.int (iI (reI d q nb n))]) (rest := []) (w2 := [(h, .inr (7, [.ref g, .ref o, .ref dd])), (o, .inr (4, [.ref g, .long (erT tk (im_wipe d (reP d q nb n) 16) (reI d q nb n))])), (g, .inr (2, [.ref b])), (b, .inl (gI G, 4096, .inl (arI (im_wipe (im_wipe d (reP d q nb n) 16) (512 + (reI d q nb n) * 16) 16)))), (dd, .inr (1, [.ref g, .ref o, .ref m])), (v, .inr (5, [.ref vb, .int (iI n)])), (vb, .inl (gI G, 14, .inl (arI nb)))]) (st2 := []) C (ct_X4_erase G (kl k) o g b tk (im_wipe d (reP d q nb n) 16) (reI d q nb n) (by omega)) gX9_99 dX9_removeEntry_114 1 rfl rfl rfl rfl rfl (Nat.le_of_ble_eq_true rfl) (by decide) [1, 2, 3] rfl (by decide) [o, g, b] rfl rfl rfl rfl ?_
              refine w_iconst C dX9_removeEntry_117 ?_
              exact w_reti hret dX9_removeEntry_118 rfl rfl rfl rfl ⟨congrArg (fun z => some (Value.int (iI z))) (by unfold reB; rw [bI_t hx]), (by unfold reT reD; rw [if_neg hx, if_neg hx]; first | (rw [if_pos he, if_pos he]; rfl) | (rw [if_neg he, if_neg he]; rfl))⟩
            · omega
          · have hx : reX d q nb n := Or.inr (And.intro hk c_8)
            refine w_iconst C dX9_removeEntry_80 ?_
            exact w_reti hret dX9_removeEntry_81 rfl rfl rfl rfl ⟨congrArg (fun z => some (Value.int (iI z))) (by unfold reB; rw [bI_f (fun z => z hx)]), (by unfold reT reD; rw [if_pos hx, if_pos hx])⟩
      · have hk := c_6
        have hx : ¬ reX d q nb n := by rintro (z | z); exact hp z; exact z.1 hk
        refine w_iconst C dX9_removeEntry_56 ?_
        refine w_goto C 61 dX9_removeEntry_57 rfl ?_
        refine w_istore (lv2 := [(0, .ref h), (1, .int (iI q)), (2, .ref v), (3, .int (iI (reP d q nb n))), (4, .int (iI (reI d q nb n))), (5, .int (iI 1))]) C dX9_removeEntry_61 (by decide) rfl ?_
        refine w_iload C 5 dX9_removeEntry_63 rfl ?_
        refine w_if_ne C 82 dX9_removeEntry_65 rfl (by omega) (fun c_10 => ?_) (fun c_10 => ?_)
        · refine w_aload_n C 0 dX9_removeEntry_82 rfl ?_
          refine w_get C 0 2 228 dX9_removeEntry_83 rfl rfl inX9 (by decide) (by decide +kernel) rfl ?_
          refine w_iload_n C 3 dX9_removeEntry_86 rfl ?_
          refine w_callV (As := [.int (iI (reP d q nb n))]) (rest := []) (w2 := [(h, .inr (7, [.ref g, .ref o, .ref dd])), (o, .inr (4, [.ref g, .long tk])), (g, .inr (2, [.ref b])), (b, .inl (gI G, 4096, .inl (arI (im_wipe d (reP d q nb n) 16)))), (dd, .inr (1, [.ref g, .ref o, .ref m])), (v, .inr (5, [.ref vb, .int (iI n)])), (vb, .inl (gI G, 14, .inl (arI nb)))]) (st2 := []) C (ct_X1_wipeEntry G (kl k) dd o g b m tk d (reP d q nb n) (by omega)) gX9_92 dX9_removeEntry_87 4 rfl rfl rfl rfl rfl (Nat.le_of_ble_eq_true rfl) (by decide) [4, 1, 2, 3] rfl (by decide) [dd, o, g, b] rfl rfl rfl rfl ?_
          refine w_iload C 5 dX9_removeEntry_90 rfl ?_
          refine w_if_eq C 108 dX9_removeEntry_92 rfl (by omega) (fun c_11 => ?_) (fun c_11 => ?_)
          · omega
          · refine w_aload_n C 0 dX9_removeEntry_95 rfl ?_
            refine w_get C 0 1 227 dX9_removeEntry_96 rfl rfl inX9 (by decide) (by decide +kernel) rfl ?_
            refine w_iload C 4 dX9_removeEntry_99 rfl ?_
            refine w_callV (As := [.int (iI (reI d q nb n))]) (rest := []) (w2 := [(h, .inr (7, [.ref g, .ref o, .ref dd])), (o, .inr (4, [.ref g, .long tk])), (g, .inr (2, [.ref b])), (b, .inl (gI G, 4096, .inl (arI (im_wipe d (reP d q nb n) 16)))), (dd, .inr (1, [.ref g, .ref o, .ref m])), (v, .inr (5, [.ref vb, .int (iI n)])), (vb, .inl (gI G, 14, .inl (arI nb)))]) (st2 := [.int (iI (lk (im_wipe d (reP d q nb n) 16) (reI d q nb n)))]) C (ct_X4_links G (kl k) o g b tk (im_wipe d (reP d q nb n) 16) (reI d q nb n) (by omega)) gX9_96 dX9_removeEntry_101 1 rfl rfl rfl rfl rfl (Nat.le_of_ble_eq_true rfl) (by decide) [1, 2, 3] rfl (by decide) [o, g, b] rfl rfl rfl rfl ?_
            have f_12 := lk_rg (im_wipe d (reP d q nb n) 16) (reI d q nb n)
            refine w_iconst C dX9_removeEntry_104 ?_
            refine w_icmp_ne C 117 dX9_removeEntry_105 rfl (by omega) (fun c_13 => ?_) (fun c_13 => ?_)
            · have he : ¬ reE d q nb n := by rintro (z | z); exact z hk; exact c_13 z
              refine w_iconst C dX9_removeEntry_117 ?_
              exact w_reti hret dX9_removeEntry_118 rfl rfl rfl rfl ⟨congrArg (fun z => some (Value.int (iI z))) (by unfold reB; rw [bI_t hx]), (by unfold reT reD; rw [if_neg hx, if_neg hx]; first | (rw [if_pos he, if_pos he]; rfl) | (rw [if_neg he, if_neg he]; rfl))⟩
            · have he : reE d q nb n := Or.inr c_13
              refine w_aload_n C 0 dX9_removeEntry_108 rfl ?_
              refine w_get C 0 1 227 dX9_removeEntry_109 rfl rfl inX9 (by decide) (by decide +kernel) rfl ?_
              refine w_iload C 4 dX9_removeEntry_112 rfl ?_
              refine w_callV (As := [.int (iI (reI d q nb n))]) (rest := []) (w2 := [(h, .inr (7, [.ref g, .ref o, .ref dd])), (o, .inr (4, [.ref g, .long (erT tk (im_wipe d (reP d q nb n) 16) (reI d q nb n))])), (g, .inr (2, [.ref b])), (b, .inl (gI G, 4096, .inl (arI (im_wipe (im_wipe d (reP d q nb n) 16) (512 + (reI d q nb n) * 16) 16)))), (dd, .inr (1, [.ref g, .ref o, .ref m])), (v, .inr (5, [.ref vb, .int (iI n)])), (vb, .inl (gI G, 14, .inl (arI nb)))]) (st2 := []) C (ct_X4_erase G (kl k) o g b tk (im_wipe d (reP d q nb n) 16) (reI d q nb n) (by omega)) gX9_99 dX9_removeEntry_114 1 rfl rfl rfl rfl rfl (Nat.le_of_ble_eq_true rfl) (by decide) [1, 2, 3] rfl (by decide) [o, g, b] rfl rfl rfl rfl ?_
              refine w_iconst C dX9_removeEntry_117 ?_
              exact w_reti hret dX9_removeEntry_118 rfl rfl rfl rfl ⟨congrArg (fun z => some (Value.int (iI z))) (by unfold reB; rw [bI_t hx]), (by unfold reT reD; rw [if_neg hx, if_neg hx]; first | (rw [if_pos he, if_pos he]; rfl) | (rw [if_neg he, if_neg he]; rfl))⟩
        · omega
    · have hx : reX d q nb n := Or.inl c_3
      refine w_iconst C dX9_removeEntry_31 ?_
      exact w_reti hret dX9_removeEntry_32 rfl rfl rfl rfl ⟨congrArg (fun z => some (Value.int (iI z))) (by unfold reB; rw [bI_f (fun z => z hx)]), (by unfold reT reD; rw [if_pos hx, if_pos hx])⟩
  · refine w_aload_n C 0 dX9_removeEntry_12 rfl ?_
    refine w_get C 0 2 228 dX9_removeEntry_13 rfl rfl inX9 (by decide) (by decide +kernel) rfl ?_
    refine w_iload_n C 1 dX9_removeEntry_16 rfl ?_
    refine w_aload_n C 2 dX9_removeEntry_17 rfl ?_
    refine w_callV (As := [.int (iI q), .ref v]) (rest := []) (w2 := [(h, .inr (7, [.ref g, .ref o, .ref dd])), (o, .inr (4, [.ref g, .long tk])), (g, .inr (2, [.ref b])), (b, .inl (gI G, 4096, .inl (arI d))), (dd, .inr (1, [.ref g, .ref o, .ref m])), (v, .inr (5, [.ref vb, .int (iI n)])), (vb, .inl (gI G, 14, .inl (arI nb)))]) (st2 := [.int (iI (sk d q nb n))]) C (ct_X1_seek G (kl k) dd o g b m tk d v vb nb n q (by omega) (by omega)) gX9_56 dX9_removeEntry_18 4 rfl rfl rfl rfl rfl (Nat.le_of_ble_eq_true rfl) (by decide) [4, 1, 2, 3, 5, 6] rfl (by decide) [dd, o, g, b, v, vb] rfl rfl rfl rfl ?_
    have f_14 := sk_rg d q nb n
    refine w_goto C 25 dX9_removeEntry_21 rfl ?_
    refine w_st (st2 := [.int (iI (reP d q nb n))]) (by unfold reP; first | rw [if_pos c_2] | rw [if_neg c_2]) ?_
    refine w_istore_n (lv2 := [(0, .ref h), (1, .int (iI q)), (2, .ref v), (3, .int (iI (reP d q nb n)))]) C dX9_removeEntry_25 (by decide) rfl ?_
    have pr := reP_rg d q nb n
    refine w_iload_n C 3 dX9_removeEntry_26 rfl ?_
    refine w_iconst C dX9_removeEntry_27 ?_
    refine w_icmp_ne C 33 dX9_removeEntry_28 rfl (by omega) (fun c_15 => ?_) (fun c_15 => ?_)
    · have hp := c_15
      refine w_aload_n C 0 dX9_removeEntry_33 rfl ?_
      refine w_get C 0 0 226 dX9_removeEntry_34 rfl rfl inX9 (by decide) (by decide +kernel) rfl ?_
      refine w_iload_n C 3 dX9_removeEntry_37 rfl ?_
      refine w_callV (As := [.int (iI (reP d q nb n))]) (rest := []) (w2 := [(h, .inr (7, [.ref g, .ref o, .ref dd])), (o, .inr (4, [.ref g, .long tk])), (g, .inr (2, [.ref b])), (b, .inl (gI G, 4096, .inl (arI d))), (dd, .inr (1, [.ref g, .ref o, .ref m])), (v, .inr (5, [.ref vb, .int (iI n)])), (vb, .inl (gI G, 14, .inl (arI nb)))]) (st2 := [.int (iI (im_at d (reP d q nb n)))]) C (ct_X2_at G (kl k) g b d (reP d q nb n) (by omega)) gX9_85 dX9_removeEntry_38 2 rfl rfl rfl rfl rfl (Nat.le_of_ble_eq_true rfl) (by decide) [2, 3] rfl (by decide) [g, b] rfl rfl rfl rfl ?_
      have f_16 := im_at_rg d (reP d q nb n)
      have ir : 0 ≤ reI d q nb n ∧ reI d q nb n < 256 := im_at_rg d _
      refine w_st (st2 := [.int (iI (reI d q nb n))]) rfl ?_
      refine w_istore (lv2 := [(0, .ref h), (1, .int (iI q)), (2, .ref v), (3, .int (iI (reP d q nb n))), (4, .int (iI (reI d q nb n)))]) C dX9_removeEntry_41 (by decide) rfl ?_
      refine w_aload_n C 0 dX9_removeEntry_43 rfl ?_
      refine w_get C 0 1 227 dX9_removeEntry_44 rfl rfl inX9 (by decide) (by decide +kernel) rfl ?_
      refine w_iload C 4 dX9_removeEntry_47 rfl ?_
      refine w_callV (As := [.int (iI (reI d q nb n))]) (rest := []) (w2 := [(h, .inr (7, [.ref g, .ref o, .ref dd])), (o, .inr (4, [.ref g, .long tk])), (g, .inr (2, [.ref b])), (b, .inl (gI G, 4096, .inl (arI d))), (dd, .inr (1, [.ref g, .ref o, .ref m])), (v, .inr (5, [.ref vb, .int (iI n)])), (vb, .inl (gI G, 14, .inl (arI nb)))]) (st2 := [.int (iI (kd d (reI d q nb n)))]) C (ct_X4_kind G (kl k) o g b tk d (reI d q nb n) (by omega)) gX9_46 dX9_removeEntry_49 1 rfl rfl rfl rfl rfl (Nat.le_of_ble_eq_true rfl) (by decide) [1, 2, 3] rfl (by decide) [o, g, b] rfl rfl rfl rfl ?_
      have f_17 := kd_rg d (reI d q nb n)
      refine w_iconst C dX9_removeEntry_52 ?_
      refine w_icmp_ne C 60 dX9_removeEntry_53 rfl (by omega) (fun c_18 => ?_) (fun c_18 => ?_)
      · have hk := c_18
        refine w_iconst C dX9_removeEntry_60 ?_
        refine w_istore (lv2 := [(0, .ref h), (1, .int (iI q)), (2, .ref v), (3, .int (iI (reP d q nb n))), (4, .int (iI (reI d q nb n))), (5, .int (iI 0))]) C dX9_removeEntry_61 (by decide) rfl ?_
        refine w_iload C 5 dX9_removeEntry_63 rfl ?_
        refine w_if_ne C 82 dX9_removeEntry_65 rfl (by omega) (fun c_19 => ?_) (fun c_19 => ?_)
        · omega
        · refine w_aload_n C 0 dX9_removeEntry_68 rfl ?_
          refine w_get C 0 2 228 dX9_removeEntry_69 rfl rfl inX9 (by decide) (by decide +kernel) rfl ?_
          refine w_iload C 4 dX9_removeEntry_72 rfl ?_
          refine w_callV (As := [.int (iI (reI d q nb n))]) (rest := []) (w2 := [(h, .inr (7, [.ref g, .ref o, .ref dd])), (o, .inr (4, [.ref g, .long tk])), (g, .inr (2, [.ref b])), (b, .inl (gI G, 4096, .inl (arI d))), (dd, .inr (1, [.ref g, .ref o, .ref m])), (v, .inr (5, [.ref vb, .int (iI n)])), (vb, .inl (gI G, 14, .inl (arI nb)))]) (st2 := [.int (iI (bI (emB d (reI d q nb n))))]) C (ct_X1_isEmpty G (kl k) dd o g b m tk d (reI d q nb n) (by omega)) gX9_88 dX9_removeEntry_74 4 rfl rfl rfl rfl rfl (Nat.le_of_ble_eq_true rfl) (by decide) [4, 1, 2, 3] rfl (by decide) [dd, o, g, b] rfl rfl rfl rfl ?_
          refine w_bnz C 82 dX9_removeEntry_77 rfl (fun c_20 => ?_) (fun c_20 => ?_)
          · have hx : ¬ reX d q nb n := by rintro (z | z); exact hp z; (have w := z.2; rw [c_20] at w; cases w)
            have he : reE d q nb n := Or.inl hk
            refine w_aload_n C 0 dX9_removeEntry_82 rfl ?_
            refine w_get C 0 2 228 dX9_removeEntry_83 rfl rfl inX9 (by decide) (by decide +kernel) rfl ?_
            refine w_iload_n C 3 dX9_removeEntry_86 rfl ?_
            refine w_callV (As := [.int (iI (reP d q nb n))]) (rest := []) (w2 := [(h, .inr (7, [.ref g, .ref o, .ref dd])), (o, .inr (4, [.ref g, .long tk])), (g, .inr (2, [.ref b])), (b, .inl (gI G, 4096, .inl (arI (im_wipe d (reP d q nb n) 16)))), (dd, .inr (1, [.ref g, .ref o, .ref m])), (v, .inr (5, [.ref vb, .int (iI n)])), (vb, .inl (gI G, 14, .inl (arI nb)))]) (st2 := []) C (ct_X1_wipeEntry G (kl k) dd o g b m tk d (reP d q nb n) (by omega)) gX9_92 dX9_removeEntry_87 4 rfl rfl rfl rfl rfl (Nat.le_of_ble_eq_true rfl) (by decide) [4, 1, 2, 3] rfl (by decide) [dd, o, g, b] rfl rfl rfl rfl ?_
            refine w_iload C 5 dX9_removeEntry_90 rfl ?_
            refine w_if_eq C 108 dX9_removeEntry_92 rfl (by omega) (fun c_21 => ?_) (fun c_21 => ?_)
            · refine w_aload_n C 0 dX9_removeEntry_108 rfl ?_
              refine w_get C 0 1 227 dX9_removeEntry_109 rfl rfl inX9 (by decide) (by decide +kernel) rfl ?_
              refine w_iload C 4 dX9_removeEntry_112 rfl ?_
              refine w_callV (As := [.int (iI (reI d q nb n))]) (rest := []) (w2 := [(h, .inr (7, [.ref g, .ref o, .ref dd])), (o, .inr (4, [.ref g, .long (erT tk (im_wipe d (reP d q nb n) 16) (reI d q nb n))])), (g, .inr (2, [.ref b])), (b, .inl (gI G, 4096, .inl (arI (im_wipe (im_wipe d (reP d q nb n) 16) (512 + (reI d q nb n) * 16) 16)))), (dd, .inr (1, [.ref g, .ref o, .ref m])), (v, .inr (5, [.ref vb, .int (iI n)])), (vb, .inl (gI G, 14, .inl (arI nb)))]) (st2 := []) C (ct_X4_erase G (kl k) o g b tk (im_wipe d (reP d q nb n) 16) (reI d q nb n) (by omega)) gX9_99 dX9_removeEntry_114 1 rfl rfl rfl rfl rfl (Nat.le_of_ble_eq_true rfl) (by decide) [1, 2, 3] rfl (by decide) [o, g, b] rfl rfl rfl rfl ?_
              refine w_iconst C dX9_removeEntry_117 ?_
              exact w_reti hret dX9_removeEntry_118 rfl rfl rfl rfl ⟨congrArg (fun z => some (Value.int (iI z))) (by unfold reB; rw [bI_t hx]), (by unfold reT reD; rw [if_neg hx, if_neg hx]; first | (rw [if_pos he, if_pos he]; rfl) | (rw [if_neg he, if_neg he]; rfl))⟩
            · omega
          · have hx : reX d q nb n := Or.inr (And.intro hk c_20)
            refine w_iconst C dX9_removeEntry_80 ?_
            exact w_reti hret dX9_removeEntry_81 rfl rfl rfl rfl ⟨congrArg (fun z => some (Value.int (iI z))) (by unfold reB; rw [bI_f (fun z => z hx)]), (by unfold reT reD; rw [if_pos hx, if_pos hx])⟩
      · have hk := c_18
        have hx : ¬ reX d q nb n := by rintro (z | z); exact hp z; exact z.1 hk
        refine w_iconst C dX9_removeEntry_56 ?_
        refine w_goto C 61 dX9_removeEntry_57 rfl ?_
        refine w_istore (lv2 := [(0, .ref h), (1, .int (iI q)), (2, .ref v), (3, .int (iI (reP d q nb n))), (4, .int (iI (reI d q nb n))), (5, .int (iI 1))]) C dX9_removeEntry_61 (by decide) rfl ?_
        refine w_iload C 5 dX9_removeEntry_63 rfl ?_
        refine w_if_ne C 82 dX9_removeEntry_65 rfl (by omega) (fun c_22 => ?_) (fun c_22 => ?_)
        · refine w_aload_n C 0 dX9_removeEntry_82 rfl ?_
          refine w_get C 0 2 228 dX9_removeEntry_83 rfl rfl inX9 (by decide) (by decide +kernel) rfl ?_
          refine w_iload_n C 3 dX9_removeEntry_86 rfl ?_
          refine w_callV (As := [.int (iI (reP d q nb n))]) (rest := []) (w2 := [(h, .inr (7, [.ref g, .ref o, .ref dd])), (o, .inr (4, [.ref g, .long tk])), (g, .inr (2, [.ref b])), (b, .inl (gI G, 4096, .inl (arI (im_wipe d (reP d q nb n) 16)))), (dd, .inr (1, [.ref g, .ref o, .ref m])), (v, .inr (5, [.ref vb, .int (iI n)])), (vb, .inl (gI G, 14, .inl (arI nb)))]) (st2 := []) C (ct_X1_wipeEntry G (kl k) dd o g b m tk d (reP d q nb n) (by omega)) gX9_92 dX9_removeEntry_87 4 rfl rfl rfl rfl rfl (Nat.le_of_ble_eq_true rfl) (by decide) [4, 1, 2, 3] rfl (by decide) [dd, o, g, b] rfl rfl rfl rfl ?_
          refine w_iload C 5 dX9_removeEntry_90 rfl ?_
          refine w_if_eq C 108 dX9_removeEntry_92 rfl (by omega) (fun c_23 => ?_) (fun c_23 => ?_)
          · omega
          · refine w_aload_n C 0 dX9_removeEntry_95 rfl ?_
            refine w_get C 0 1 227 dX9_removeEntry_96 rfl rfl inX9 (by decide) (by decide +kernel) rfl ?_
            refine w_iload C 4 dX9_removeEntry_99 rfl ?_
            refine w_callV (As := [.int (iI (reI d q nb n))]) (rest := []) (w2 := [(h, .inr (7, [.ref g, .ref o, .ref dd])), (o, .inr (4, [.ref g, .long tk])), (g, .inr (2, [.ref b])), (b, .inl (gI G, 4096, .inl (arI (im_wipe d (reP d q nb n) 16)))), (dd, .inr (1, [.ref g, .ref o, .ref m])), (v, .inr (5, [.ref vb, .int (iI n)])), (vb, .inl (gI G, 14, .inl (arI nb)))]) (st2 := [.int (iI (lk (im_wipe d (reP d q nb n) 16) (reI d q nb n)))]) C (ct_X4_links G (kl k) o g b tk (im_wipe d (reP d q nb n) 16) (reI d q nb n) (by omega)) gX9_96 dX9_removeEntry_101 1 rfl rfl rfl rfl rfl (Nat.le_of_ble_eq_true rfl) (by decide) [1, 2, 3] rfl (by decide) [o, g, b] rfl rfl rfl rfl ?_
            have f_24 := lk_rg (im_wipe d (reP d q nb n) 16) (reI d q nb n)
            refine w_iconst C dX9_removeEntry_104 ?_
            refine w_icmp_ne C 117 dX9_removeEntry_105 rfl (by omega) (fun c_25 => ?_) (fun c_25 => ?_)
            · have he : ¬ reE d q nb n := by rintro (z | z); exact z hk; exact c_25 z
              refine w_iconst C dX9_removeEntry_117 ?_
              exact w_reti hret dX9_removeEntry_118 rfl rfl rfl rfl ⟨congrArg (fun z => some (Value.int (iI z))) (by unfold reB; rw [bI_t hx]), (by unfold reT reD; rw [if_neg hx, if_neg hx]; first | (rw [if_pos he, if_pos he]; rfl) | (rw [if_neg he, if_neg he]; rfl))⟩
            · have he : reE d q nb n := Or.inr c_25
              refine w_aload_n C 0 dX9_removeEntry_108 rfl ?_
              refine w_get C 0 1 227 dX9_removeEntry_109 rfl rfl inX9 (by decide) (by decide +kernel) rfl ?_
              refine w_iload C 4 dX9_removeEntry_112 rfl ?_
              refine w_callV (As := [.int (iI (reI d q nb n))]) (rest := []) (w2 := [(h, .inr (7, [.ref g, .ref o, .ref dd])), (o, .inr (4, [.ref g, .long (erT tk (im_wipe d (reP d q nb n) 16) (reI d q nb n))])), (g, .inr (2, [.ref b])), (b, .inl (gI G, 4096, .inl (arI (im_wipe (im_wipe d (reP d q nb n) 16) (512 + (reI d q nb n) * 16) 16)))), (dd, .inr (1, [.ref g, .ref o, .ref m])), (v, .inr (5, [.ref vb, .int (iI n)])), (vb, .inl (gI G, 14, .inl (arI nb)))]) (st2 := []) C (ct_X4_erase G (kl k) o g b tk (im_wipe d (reP d q nb n) 16) (reI d q nb n) (by omega)) gX9_99 dX9_removeEntry_114 1 rfl rfl rfl rfl rfl (Nat.le_of_ble_eq_true rfl) (by decide) [1, 2, 3] rfl (by decide) [o, g, b] rfl rfl rfl rfl ?_
              refine w_iconst C dX9_removeEntry_117 ?_
              exact w_reti hret dX9_removeEntry_118 rfl rfl rfl rfl ⟨congrArg (fun z => some (Value.int (iI z))) (by unfold reB; rw [bI_t hx]), (by unfold reT reD; rw [if_neg hx, if_neg hx]; first | (rw [if_pos he, if_pos he]; rfl) | (rw [if_neg he, if_neg he]; rfl))⟩
        · omega
    · have hx : reX d q nb n := Or.inl c_15
      refine w_iconst C dX9_removeEntry_31 ?_
      exact w_reti hret dX9_removeEntry_32 rfl rfl rfl rfl ⟨congrArg (fun z => some (Value.int (iI z))) (by unfold reB; rw [bI_f (fun z => z hx)]), (by unfold reT reD; rw [if_pos hx, if_pos hx])⟩
