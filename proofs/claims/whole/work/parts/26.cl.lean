theorem gX1_128 : cwv RX1 128 yX4_links cX4_links 2 (some .int) 1 664 665 666 67 667 := by decide +kernel
theorem gX1_122 : cwv RX1 122 yX4_setLinks cX4_setLinks 3 none 2 656 657 658 67 659 := by decide +kernel
set_option maxHeartbeats 4000000 in
set_option maxRecDepth 100000 in
theorem ct_X1_countLink (G : GX) (l : Launch) (h : Nat) (o : Nat) (g : Nat) (b : Nat) (m : Nat) (tk : Int64) (d : Im) (q : Int) (i : Int) (hq : 0 ≤ q ∧ q < 32) (hi : -2147483648 ≤ i ∧ i < 2147483648) : Ct G l yX1_countLink cX1_countLink 5 none rmX1_countLink [.ref h, .int (iI q), .int (iI i)] [(h, .inr (1, [.ref g, .ref o, .ref m])), (o, .inr (4, [.ref g, .long tk])), (g, .inr (2, [.ref b])), (b, .inl (gI G, 4096, .inl (arI d)))] none [(h, .inr (1, [.ref g, .ref o, .ref m])), (o, .inr (4, [.ref g, .long tk])), (g, .inr (2, [.ref b])), (b, .inl (gI G, 4096, .inl (arI (clk d q i))))] := by
  refine Ct.of (by decide) (Nat.le_of_ble_eq_true rfl) ?_
  intro k C hl hret
  subst hl
  refine w_lv (lv2 := [(0, .ref h), (1, .int (iI q)), (2, .int (iI i))]) [0, 1, 2] rfl ?_
  refine w_aload_n C 0 dX1_countLink_0 rfl ?_
  refine w_get C 0 1 137 dX1_countLink_1 rfl rfl inX1 (by decide) (by decide +kernel) rfl ?_
  refine w_iload_n C 2 dX1_countLink_4 rfl ?_
  refine w_callV (As := [.int (iI i)]) (rest := []) (w2 := [(h, .inr (1, [.ref g, .ref o, .ref m])), (o, .inr (4, [.ref g, .long tk])), (g, .inr (2, [.ref b])), (b, .inl (gI G, 4096, .inl (arI d)))]) (st2 := [.int (iI (kd d i))]) C (ct_X4_kind G (kl k) o g b tk d i (by omega)) gX1_80 dX1_countLink_5 1 rfl rfl rfl rfl rfl (Nat.le_of_ble_eq_true rfl) (by decide) [1, 2, 3] rfl (by decide) [o, g, b] rfl rfl rfl rfl ?_
  have f_1 := kd_rg d i
  refine w_istore_n (lv2 := [(0, .ref h), (1, .int (iI q)), (2, .int (iI i)), (3, .int (iI (kd d i)))]) C dX1_countLink_8 (by decide) rfl ?_
  refine w_iload_n C 3 dX1_countLink_9 rfl ?_
  refine w_if_eq C 45 dX1_countLink_10 rfl (by omega) (fun c_2 => ?_) (fun c_2 => ?_)
  · exact w_retv hret dX1_countLink_45 rfl rfl rfl ⟨rfl, (by unfold clk; first | rw [if_pos (by assumption)] | rw [if_neg (by assumption), if_pos (by assumption)] | rw [if_neg (by assumption), if_neg (by assumption)])⟩
  · have hi2 : 0 ≤ i ∧ i < 32 := by rcases Classical.em (inR i) with z | z; exact z; exact absurd (show kd d i = 0 by unfold kd; rw [if_neg z]) (by assumption)
    refine w_iload_n C 3 dX1_countLink_13 rfl ?_
    refine w_iconst C dX1_countLink_14 ?_
    refine w_icmp_ne C 22 dX1_countLink_15 rfl (by omega) (fun c_3 => ?_) (fun c_3 => ?_)
    · refine w_iload_n C 2 dX1_countLink_22 rfl ?_
      refine w_istore (lv2 := [(0, .ref h), (1, .int (iI q)), (2, .int (iI i)), (3, .int (iI (kd d i))), (4, .int (iI i))]) C dX1_countLink_23 (by decide) rfl ?_
      refine w_aload_n C 0 dX1_countLink_25 rfl ?_
      refine w_get C 0 1 137 dX1_countLink_26 rfl rfl inX1 (by decide) (by decide +kernel) rfl ?_
      refine w_iload C 4 dX1_countLink_29 rfl ?_
      refine w_aload_n C 0 dX1_countLink_31 rfl ?_
      refine w_get C 0 1 137 dX1_countLink_32 rfl rfl inX1 (by decide) (by decide +kernel) rfl ?_
      refine w_iload C 4 dX1_countLink_35 rfl ?_
      refine w_callV (As := [.int (iI i)]) (rest := [.int (iI i), .ref o]) (w2 := [(h, .inr (1, [.ref g, .ref o, .ref m])), (o, .inr (4, [.ref g, .long tk])), (g, .inr (2, [.ref b])), (b, .inl (gI G, 4096, .inl (arI d)))]) (st2 := [.int (iI (lk d i)), .int (iI i), .ref o]) C (ct_X4_links G (kl k) o g b tk d i (by omega)) gX1_128 dX1_countLink_37 1 rfl rfl rfl rfl rfl (Nat.le_of_ble_eq_true rfl) (by decide) [1, 2, 3] rfl (by decide) [o, g, b] rfl rfl rfl rfl ?_
      have f_4 := lk_rg d i
      refine w_iconst C dX1_countLink_40 ?_
      refine w_iadd C dX1_countLink_41 ?_
      refine w_callV (As := [.int (iI i), .int (iI ((lk d i) + 1))]) (rest := []) (w2 := [(h, .inr (1, [.ref g, .ref o, .ref m])), (o, .inr (4, [.ref g, .long tk])), (g, .inr (2, [.ref b])), (b, .inl (gI G, 4096, .inl (arI (im_set d (512 + i * 16 + 1) ((lk d i) + 1)))))]) (st2 := []) C (ct_X4_setLinks G (kl k) o g b tk d i ((lk d i) + 1) (by omega)) gX1_122 dX1_countLink_42 1 rfl rfl rfl rfl rfl (Nat.le_of_ble_eq_true rfl) (by decide) [1, 2, 3] rfl (by decide) [o, g, b] rfl rfl rfl rfl ?_
      exact w_retv hret dX1_countLink_45 rfl rfl rfl ⟨rfl, (by unfold clk; first | rw [if_pos (by assumption)] | rw [if_neg (by assumption), if_pos (by assumption)] | rw [if_neg (by assumption), if_neg (by assumption)])⟩
    · refine w_iload_n C 1 dX1_countLink_18 rfl ?_
      refine w_goto C 23 dX1_countLink_19 rfl ?_
      refine w_istore (lv2 := [(0, .ref h), (1, .int (iI q)), (2, .int (iI i)), (3, .int (iI (kd d i))), (4, .int (iI q))]) C dX1_countLink_23 (by decide) rfl ?_
      refine w_aload_n C 0 dX1_countLink_25 rfl ?_
      refine w_get C 0 1 137 dX1_countLink_26 rfl rfl inX1 (by decide) (by decide +kernel) rfl ?_
      refine w_iload C 4 dX1_countLink_29 rfl ?_
      refine w_aload_n C 0 dX1_countLink_31 rfl ?_
      refine w_get C 0 1 137 dX1_countLink_32 rfl rfl inX1 (by decide) (by decide +kernel) rfl ?_
      refine w_iload C 4 dX1_countLink_35 rfl ?_
      refine w_callV (As := [.int (iI q)]) (rest := [.int (iI q), .ref o]) (w2 := [(h, .inr (1, [.ref g, .ref o, .ref m])), (o, .inr (4, [.ref g, .long tk])), (g, .inr (2, [.ref b])), (b, .inl (gI G, 4096, .inl (arI d)))]) (st2 := [.int (iI (lk d q)), .int (iI q), .ref o]) C (ct_X4_links G (kl k) o g b tk d q (by omega)) gX1_128 dX1_countLink_37 1 rfl rfl rfl rfl rfl (Nat.le_of_ble_eq_true rfl) (by decide) [1, 2, 3] rfl (by decide) [o, g, b] rfl rfl rfl rfl ?_
      have f_5 := lk_rg d q
      refine w_iconst C dX1_countLink_40 ?_
      refine w_iadd C dX1_countLink_41 ?_
      refine w_callV (As := [.int (iI q), .int (iI ((lk d q) + 1))]) (rest := []) (w2 := [(h, .inr (1, [.ref g, .ref o, .ref m])), (o, .inr (4, [.ref g, .long tk])), (g, .inr (2, [.ref b])), (b, .inl (gI G, 4096, .inl (arI (im_set d (512 + q * 16 + 1) ((lk d q) + 1)))))]) (st2 := []) C (ct_X4_setLinks G (kl k) o g b tk d q ((lk d q) + 1) (by omega)) gX1_122 dX1_countLink_42 1 rfl rfl rfl rfl rfl (Nat.le_of_ble_eq_true rfl) (by decide) [1, 2, 3] rfl (by decide) [o, g, b] rfl rfl rfl rfl ?_
      exact w_retv hret dX1_countLink_45 rfl rfl rfl ⟨rfl, (by unfold clk; first | rw [if_pos (by assumption)] | rw [if_neg (by assumption), if_pos (by assumption)] | rw [if_neg (by assumption), if_neg (by assumption)])⟩
