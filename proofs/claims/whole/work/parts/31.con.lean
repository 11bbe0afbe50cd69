set_option maxHeartbeats 4000000 in
set_option maxRecDepth 100000 in
theorem ct_X0_isReached (G : GX) (l : Launch) (h : Nat) (o : Nat) (g : Nat) (dd : Nat) (cm : Nat) (cq : Nat) (hd : Int) (tl : Int) (rc : Int32) (i : Int) (hi : 0 ≤ i ∧ i < 32) : Ct G l yX0_isReached cX0_isReached 2 (some .boolean) rmX0_isReached [.ref h, .int (iI i)] [(h, .inr (0, [.ref g, .ref o, .ref dd, .ref cm, .ref cq, .int (iI hd), .int (iI tl), .int rc]))] (some (.int (iI (bI (rbt rc i))))) [(h, .inr (0, [.ref g, .ref o, .ref dd, .ref cm, .ref cq, .int (iI hd), .int (iI tl), .int rc]))] := by
  refine Ct.of (by decide) (Nat.le_of_ble_eq_true rfl) ?_
  intro k C hl hret
  subst hl
  refine w_lv (lv2 := [(0, .ref h), (1, .int (iI i))]) [0, 1] rfl ?_
  refine w_aload_n C 0 dX0_isReached_0 rfl ?_
  refine w_get C 0 7 183 dX0_isReached_1 rfl rfl inX0 (by decide) (by decide +kernel) rfl ?_
  refine w_iload_n C 1 dX0_isReached_4 rfl ?_
  refine w_ishr (v := (rc >>> (iI i &&& 31))) C dX0_isReached_5 rfl ?_
  refine w_iconst C dX0_isReached_6 ?_
  refine w_iand (v := (iI (bI (rbt rc i)))) C dX0_isReached_7 (rbt_bit rc hi) ?_
  refine w_bz C 15 dX0_isReached_8 rfl (fun c_1 => ?_) (fun c_1 => ?_)
  · refine w_iconst C dX0_isReached_15 ?_
    exact w_reti hret dX0_isReached_16 rfl rfl rfl rfl ⟨congrArg (fun z => some (Value.int (iI z))) (by rw [c_1]; rfl), rfl⟩
  · refine w_iconst C dX0_isReached_11 ?_
    refine w_goto C 16 dX0_isReached_12 rfl ?_
    exact w_reti hret dX0_isReached_16 rfl rfl rfl rfl ⟨congrArg (fun z => some (Value.int (iI z))) (by rw [c_1]; rfl), rfl⟩

theorem gX0_44 : cwv RX0 44 yX4_kind cX4_kind 2 (some .int) 1 600 424 425 67 426 := by decide +kernel
set_option maxHeartbeats 4000000 in
set_option maxRecDepth 100000 in
theorem ct_X0_reach (G : GX) (l : Launch) (h : Nat) (o : Nat) (g : Nat) (b : Nat) (dd : Nat) (cm : Nat) (cq : Nat) (m : Nat) (hd : Int) (tl : Int) (rc : Int32) (tk : Int64) (d : Im) (q : Im) (i : Int) (hi : 0 ≤ i ∧ i < 32) (ht : 0 ≤ tl ∧ tl ≤ 32) : Ct G l yX0_reach cX0_reach 2 none rmX0_reach [.ref h, .int (iI i)] [(h, .inr (0, [.ref g, .ref o, .ref dd, .ref cm, .ref cq, .int (iI hd), .int (iI tl), .int rc])), (o, .inr (4, [.ref g, .long tk])), (g, .inr (2, [.ref b])), (b, .inl (gI G, 4096, .inl (arI d))), (dd, .inr (1, [.ref g, .ref o, .ref m])), (cq, .inl (gI G, 32, .inl (arI q)))] none [(h, .inr (0, [.ref g, .ref o, .ref dd, .ref cm, .ref cq, .int (iI hd), .int (iI (rhT d tl i)), .int (rset rc i)])), (o, .inr (4, [.ref g, .long tk])), (g, .inr (2, [.ref b])), (b, .inl (gI G, 4096, .inl (arI d))), (dd, .inr (1, [.ref g, .ref o, .ref m])), (cq, .inl (gI G, 32, .inl (arI (rhQ d q tl i))))] := by
  refine Ct.of (by decide) (Nat.le_of_ble_eq_true rfl) ?_
  intro k C hl hret
  subst hl
  refine w_lv (lv2 := [(0, .ref h), (1, .int (iI i))]) [0, 1] rfl ?_
  refine w_aload_n C 0 dX0_reach_0 rfl ?_
  refine w_dup C dX0_reach_1 rfl ?_
  refine w_get C 0 7 183 dX0_reach_2 rfl rfl inX0 (by decide) (by decide +kernel) rfl ?_
  refine w_iconst C dX0_reach_5 ?_
  refine w_iload_n C 1 dX0_reach_6 rfl ?_
  refine w_ishl (v := (iI 1 <<< (iI i &&& 31))) C dX0_reach_7 rfl ?_
  refine w_ior (v := (rset rc i)) C dX0_reach_8 rfl ?_
  refine w_put (ty := .int) (ws2 := [(h, .inr (0, [.ref g, .ref o, .ref dd, .ref cm, .ref cq, .int (iI hd), .int (iI tl), .int (rset rc i)])), (o, .inr (4, [.ref g, .long tk])), (g, .inr (2, [.ref b])), (b, .inl (gI G, 4096, .inl (arI d))), (dd, .inr (1, [.ref g, .ref o, .ref m])), (cq, .inl (gI G, 32, .inl (arI q)))]) C 0 7 183 dX0_reach_9 rfl rfl inX0 tyX0_ok nmX0 (by decide) (by decide +kernel) rfl (by decide +kernel) rfl rfl (Nat.le_of_ble_eq_true rfl) rfl ?_
  refine w_aload_n C 0 dX0_reach_12 rfl ?_
  refine w_get C 0 1 177 dX0_reach_13 rfl rfl inX0 (by decide) (by decide +kernel) rfl ?_
  refine w_iload_n C 1 dX0_reach_16 rfl ?_
  refine w_callV (As := [.int (iI i)]) (rest := []) (w2 := [(h, .inr (0, [.ref g, .ref o, .ref dd, .ref cm, .ref cq, .int (iI hd), .int (iI tl), .int (rset rc i)])), (o, .inr (4, [.ref g, .long tk])), (g, .inr (2, [.ref b])), (b, .inl (gI G, 4096, .inl (arI d))), (dd, .inr (1, [.ref g, .ref o, .ref m])), (cq, .inl (gI G, 32, .inl (arI q)))]) (st2 := [.int (iI (kd d i))]) C (ct_X4_kind G (kl k) o g b tk d i (by omega)) gX0_44 dX0_reach_17 1 rfl rfl rfl rfl rfl (Nat.le_of_ble_eq_true rfl) (by decide) [1, 2, 3] rfl (by decide) [o, g, b] rfl rfl rfl rfl ?_
  have f_1 := kd_rg d i
  refine w_iconst C dX0_reach_20 ?_
  refine w_icmp_ne C 60 dX0_reach_21 rfl (by omega) (fun c_2 => ?_) (fun c_2 => ?_)
  · exact w_retv hret dX0_reach_60 rfl rfl rfl ⟨rfl, (by unfold rhT rhQ; first | rw [if_neg (by omega), if_neg (by omega)] | rw [if_pos (by omega), if_pos (by omega)])⟩
  · refine w_aload_n C 0 dX0_reach_24 rfl ?_
    refine w_get C 0 6 182 dX0_reach_25 rfl rfl inX0 (by decide) (by decide +kernel) rfl ?_
    refine w_if_lt C 60 dX0_reach_28 rfl (by omega) (fun c_3 => ?_) (fun c_3 => ?_)
    · exact w_retv hret dX0_reach_60 rfl rfl rfl ⟨rfl, (by unfold rhT rhQ; first | rw [if_neg (by omega), if_neg (by omega)] | rw [if_pos (by omega), if_pos (by omega)])⟩
    · refine w_aload_n C 0 dX0_reach_31 rfl ?_
      refine w_get C 0 6 182 dX0_reach_32 rfl rfl inX0 (by decide) (by decide +kernel) rfl ?_
      refine w_bipush C dX0_reach_35 (by decide) ?_
      refine w_icmp_ge C 60 dX0_reach_37 rfl (by omega) (fun c_4 => ?_) (fun c_4 => ?_)
      · exact w_retv hret dX0_reach_60 rfl rfl rfl ⟨rfl, (by unfold rhT rhQ; first | rw [if_neg (by omega), if_neg (by omega)] | rw [if_pos (by omega), if_pos (by omega)])⟩
      · refine w_aload_n C 0 dX0_reach_40 rfl ?_
        refine w_get C 0 4 180 dX0_reach_41 rfl rfl inX0 (by decide) (by decide +kernel) rfl ?_
        refine w_aload_n C 0 dX0_reach_44 rfl ?_
        refine w_get C 0 6 182 dX0_reach_45 rfl rfl inX0 (by decide) (by decide +kernel) rfl ?_
        refine w_iload_n C 1 dX0_reach_48 rfl ?_
        refine w_iast (ws2 := [(h, .inr (0, [.ref g, .ref o, .ref dd, .ref cm, .ref cq, .int (iI hd), .int (iI tl), .int (rset rc i)])), (o, .inr (4, [.ref g, .long tk])), (g, .inr (2, [.ref b])), (b, .inl (gI G, 4096, .inl (arI d))), (dd, .inr (1, [.ref g, .ref o, .ref m])), (cq, .inl (gI G, 32, .inl (arI (up q tl i))))]) C 5 dX0_reach_49 rfl (by omega) (by omega) rfl ?_
        refine w_aload_n C 0 dX0_reach_50 rfl ?_
        refine w_dup C dX0_reach_51 rfl ?_
        refine w_get C 0 6 182 dX0_reach_52 rfl rfl inX0 (by decide) (by decide +kernel) rfl ?_
        refine w_iconst C dX0_reach_55 ?_
        refine w_iadd C dX0_reach_56 ?_
        refine w_put (ty := .int) (ws2 := [(h, .inr (0, [.ref g, .ref o, .ref dd, .ref cm, .ref cq, .int (iI hd), .int (iI (tl + 1)), .int (rset rc i)])), (o, .inr (4, [.ref g, .long tk])), (g, .inr (2, [.ref b])), (b, .inl (gI G, 4096, .inl (arI d))), (dd, .inr (1, [.ref g, .ref o, .ref m])), (cq, .inl (gI G, 32, .inl (arI (up q tl i))))]) C 0 6 182 dX0_reach_57 rfl rfl inX0 tyX0_ok nmX0 (by decide) (by decide +kernel) rfl (by decide +kernel) rfl rfl (Nat.le_of_ble_eq_true rfl) rfl ?_
        exact w_retv hret dX0_reach_60 rfl rfl rfl ⟨rfl, (by unfold rhT rhQ; first | rw [if_neg (by omega), if_neg (by omega)] | rw [if_pos (by omega), if_pos (by omega)])⟩

theorem gX0_89 : cwv RX0 89 yX2_at cX2_at 2 (some .int) 1 615 359 360 66 361 := by decide +kernel
theorem gX0_50 : cwv RX0 50 yX0_reach cX0_reach 2 none 1 601 603 7 72 604 := by decide +kernel
theorem gX0_97 : cwv RX0 97 yX1_setParent cX1_setParent 3 none 2 621 622 623 68 624 := by decide +kernel
theorem gX0_57 : cwv RX0 57 yX0_isReached cX0_isReached 2 (some .boolean) 1 616 618 10 72 619 := by decide +kernel
theorem gX0_94 : cwv RX0 94 yX1_wipeEntry cX1_wipeEntry 2 none 1 620 593 594 68 595 := by decide +kernel
set_option maxHeartbeats 4000000 in
set_option maxRecDepth 100000 in
theorem ct_X0_follow (G : GX) (l : Launch) (h : Nat) (o : Nat) (g : Nat) (b : Nat) (dd : Nat) (cm : Nat) (cq : Nat) (m : Nat) (hd : Int) (tl : Int) (rc : Int32) (tk : Int64) (d : Im) (q : Im) (r : Int) (p : Int) (hr : -2147483648 ≤ r ∧ r < 2147483648) (hp : -1 ≤ p ∧ p < 5000) (ht : 0 ≤ tl ∧ tl ≤ 32) : Ct G l yX0_follow cX0_follow 5 none rmX0_follow [.ref h, .int (iI r), .int (iI p)] [(h, .inr (0, [.ref g, .ref o, .ref dd, .ref cm, .ref cq, .int (iI hd), .int (iI tl), .int rc])), (o, .inr (4, [.ref g, .long tk])), (g, .inr (2, [.ref b])), (b, .inl (gI G, 4096, .inl (arI d))), (dd, .inr (1, [.ref g, .ref o, .ref m])), (cq, .inl (gI G, 32, .inl (arI q)))] none [(h, .inr (0, [.ref g, .ref o, .ref dd, .ref cm, .ref cq, .int (iI hd), .int (iI ((fol (d, rc, q, tl) r p).2.2.2)), .int ((fol (d, rc, q, tl) r p).2.1)])), (o, .inr (4, [.ref g, .long tk])), (g, .inr (2, [.ref b])), (b, .inl (gI G, 4096, .inl (arI ((fol (d, rc, q, tl) r p).1)))), (dd, .inr (1, [.ref g, .ref o, .ref m])), (cq, .inl (gI G, 32, .inl (arI ((fol (d, rc, q, tl) r p).2.2.1))))] := by
  refine Ct.of (by decide) (Nat.le_of_ble_eq_true rfl) ?_
  intro k C hl hret
  subst hl
  refine w_lv (lv2 := [(0, .ref h), (1, .int (iI r)), (2, .int (iI p))]) [0, 1, 2] rfl ?_
  refine w_aload_n C 0 dX0_follow_0 rfl ?_
  refine w_get C 0 0 176 dX0_follow_1 rfl rfl inX0 (by decide) (by decide +kernel) rfl ?_
  refine w_iload_n C 2 dX0_follow_4 rfl ?_
  refine w_callV (As := [.int (iI p)]) (rest := []) (w2 := [(h, .inr (0, [.ref g, .ref o, .ref dd, .ref cm, .ref cq, .int (iI hd), .int (iI tl), .int rc])), (o, .inr (4, [.ref g, .long tk])), (g, .inr (2, [.ref b])), (b, .inl (gI G, 4096, .inl (arI d))), (dd, .inr (1, [.ref g, .ref o, .ref m])), (cq, .inl (gI G, 32, .inl (arI q)))]) (st2 := [.int (iI (im_at d p))]) C (ct_X2_at G (kl k) g b d p (by omega)) gX0_89 dX0_follow_5 2 rfl rfl rfl rfl rfl (Nat.le_of_ble_eq_true rfl) (by decide) [2, 3] rfl (by decide) [g, b] rfl rfl rfl rfl ?_
  have f_1 := im_at_rg d p
  refine w_istore_n (lv2 := [(0, .ref h), (1, .int (iI r)), (2, .int (iI p)), (3, .int (iI (im_at d p)))]) C dX0_follow_8 (by decide) rfl ?_
  refine w_aload_n C 0 dX0_follow_9 rfl ?_
  refine w_get C 0 1 177 dX0_follow_10 rfl rfl inX0 (by decide) (by decide +kernel) rfl ?_
  refine w_iload_n C 3 dX0_follow_13 rfl ?_
  refine w_callV (As := [.int (iI (im_at d p))]) (rest := []) (w2 := [(h, .inr (0, [.ref g, .ref o, .ref dd, .ref cm, .ref cq, .int (iI hd), .int (iI tl), .int rc])), (o, .inr (4, [.ref g, .long tk])), (g, .inr (2, [.ref b])), (b, .inl (gI G, 4096, .inl (arI d))), (dd, .inr (1, [.ref g, .ref o, .ref m])), (cq, .inl (gI G, 32, .inl (arI q)))]) (st2 := [.int (iI (kd d (im_at d p)))]) C (ct_X4_kind G (kl k) o g b tk d (im_at d p) (by omega)) gX0_44 dX0_follow_14 1 rfl rfl rfl rfl rfl (Nat.le_of_ble_eq_true rfl) (by decide) [1, 2, 3] rfl (by decide) [o, g, b] rfl rfl rfl rfl ?_
  have f_2 := kd_rg d (im_at d p)
  refine w_istore (lv2 := [(0, .ref h), (1, .int (iI r)), (2, .int (iI p)), (3, .int (iI (im_at d p))), (4, .int (iI (kd d (im_at d p))))]) C dX0_follow_17 (by decide) rfl ?_
  refine w_iload C 4 dX0_follow_19 rfl ?_
  refine w_iconst C dX0_follow_21 ?_
  refine w_icmp_ne C 44 dX0_follow_22 rfl (by omega) (fun c_3 => ?_) (fun c_3 => ?_)
  · refine w_iload C 4 dX0_follow_44 rfl ?_
    refine w_if_eq C 63 dX0_follow_46 rfl (by omega) (fun c_4 => ?_) (fun c_4 => ?_)
    · exact w_retv hret dX0_follow_63 rfl rfl rfl ⟨rfl, (by unfold fol; dsimp only; first | (rw [if_pos ⟨by omega, by assumption⟩]; done) | (rw [if_neg (by intro z; have := z.2; simp_all), if_pos (by omega)]; done) | (rw [if_neg (by intro z; have := z.1; have := z.2; first | omega | simp_all), if_neg (by omega)]))⟩
    · have hi2 : 0 ≤ im_at d p ∧ im_at d p < 32 := by rcases Classical.em (inR (im_at d p)) with z | z; exact z; exact absurd (show kd d (im_at d p) = 0 by unfold kd; rw [if_neg z]) (by omega)
      refine w_aload_n C 0 dX0_follow_49 rfl ?_
      refine w_iload_n C 3 dX0_follow_50 rfl ?_
      refine w_callV (As := [.int (iI (im_at d p))]) (rest := []) (w2 := [(h, .inr (0, [.ref g, .ref o, .ref dd, .ref cm, .ref cq, .int (iI hd), .int (iI (rhT d tl (im_at d p))), .int (rset rc (im_at d p))])), (o, .inr (4, [.ref g, .long tk])), (g, .inr (2, [.ref b])), (b, .inl (gI G, 4096, .inl (arI d))), (dd, .inr (1, [.ref g, .ref o, .ref m])), (cq, .inl (gI G, 32, .inl (arI (rhQ d q tl (im_at d p)))))]) (st2 := []) C (ct_X0_reach G (kl k) h o g b dd cm cq m hd tl rc tk d q (im_at d p) (by omega) (by omega)) gX0_50 dX0_follow_51 0 rfl rfl rfl rfl rfl (Nat.le_of_ble_eq_true rfl) (by decide) [0, 1, 2, 3, 4, 5] rfl (by decide) [h, o, g, b, dd, cq] rfl rfl rfl rfl ?_
      refine w_aload_n C 0 dX0_follow_54 rfl ?_
      refine w_get C 0 2 178 dX0_follow_55 rfl rfl inX0 (by decide) (by decide +kernel) rfl ?_
      refine w_iload_n C 3 dX0_follow_58 rfl ?_
      refine w_iload_n C 1 dX0_follow_59 rfl ?_
      refine w_callV (As := [.int (iI (im_at d p)), .int (iI r)]) (rest := []) (w2 := [(h, .inr (0, [.ref g, .ref o, .ref dd, .ref cm, .ref cq, .int (iI hd), .int (iI (rhT d tl (im_at d p))), .int (rset rc (im_at d p))])), (o, .inr (4, [.ref g, .long tk])), (g, .inr (2, [.ref b])), (b, .inl (gI G, 4096, .inl (arI (spd d (im_at d p) r)))), (dd, .inr (1, [.ref g, .ref o, .ref m])), (cq, .inl (gI G, 32, .inl (arI (rhQ d q tl (im_at d p)))))]) (st2 := []) C (ct_X1_setParent G (kl k) dd o g b m tk d (im_at d p) r (by omega)) gX0_97 dX0_follow_60 4 rfl rfl rfl rfl rfl (Nat.le_of_ble_eq_true rfl) (by decide) [4, 1, 2, 3] rfl (by decide) [dd, o, g, b] rfl rfl rfl rfl ?_
      exact w_retv hret dX0_follow_63 rfl rfl rfl ⟨rfl, (by unfold fol; dsimp only; first | (rw [if_pos ⟨by omega, by assumption⟩]; done) | (rw [if_neg (by intro z; have := z.2; simp_all), if_pos (by omega)]; done) | (rw [if_neg (by intro z; have := z.1; have := z.2; first | omega | simp_all), if_neg (by omega)]))⟩
  · have hi2 : 0 ≤ im_at d p ∧ im_at d p < 32 := by rcases Classical.em (inR (im_at d p)) with z | z; exact z; exact absurd (show kd d (im_at d p) = 0 by unfold kd; rw [if_neg z]) (by omega)
    refine w_aload_n C 0 dX0_follow_25 rfl ?_
    refine w_iload_n C 3 dX0_follow_26 rfl ?_
    refine w_callV (As := [.int (iI (im_at d p))]) (rest := []) (w2 := [(h, .inr (0, [.ref g, .ref o, .ref dd, .ref cm, .ref cq, .int (iI hd), .int (iI tl), .int rc])), (o, .inr (4, [.ref g, .long tk])), (g, .inr (2, [.ref b])), (b, .inl (gI G, 4096, .inl (arI d))), (dd, .inr (1, [.ref g, .ref o, .ref m])), (cq, .inl (gI G, 32, .inl (arI q)))]) (st2 := [.int (iI (bI (rbt rc (im_at d p))))]) C (ct_X0_isReached G (kl k) h o g dd cm cq hd tl rc (im_at d p) (by omega)) gX0_57 dX0_follow_27 0 rfl rfl rfl rfl rfl (Nat.le_of_ble_eq_true rfl) (by decide) [0] rfl (by decide) [h] rfl rfl rfl rfl ?_
    refine w_bz C 44 dX0_follow_30 rfl (fun c_5 => ?_) (fun c_5 => ?_)
    · refine w_iload C 4 dX0_follow_44 rfl ?_
      refine w_if_eq C 63 dX0_follow_46 rfl (by omega) (fun c_6 => ?_) (fun c_6 => ?_)
      · exact w_retv hret dX0_follow_63 rfl rfl rfl ⟨rfl, (by unfold fol; dsimp only; first | (rw [if_pos ⟨by omega, by assumption⟩]; done) | (rw [if_neg (by intro z; have := z.2; simp_all), if_pos (by omega)]; done) | (rw [if_neg (by intro z; have := z.1; have := z.2; first | omega | simp_all), if_neg (by omega)]))⟩
      · have hi2 : 0 ≤ im_at d p ∧ im_at d p < 32 := by rcases Classical.em (inR (im_at d p)) with z | z; exact z; exact absurd (show kd d (im_at d p) = 0 by unfold kd; rw [if_neg z]) (by omega)
        refine w_aload_n C 0 dX0_follow_49 rfl ?_
        refine w_iload_n C 3 dX0_follow_50 rfl ?_
        refine w_callV (As := [.int (iI (im_at d p))]) (rest := []) (w2 := [(h, .inr (0, [.ref g, .ref o, .ref dd, .ref cm, .ref cq, .int (iI hd), .int (iI (rhT d tl (im_at d p))), .int (rset rc (im_at d p))])), (o, .inr (4, [.ref g, .long tk])), (g, .inr (2, [.ref b])), (b, .inl (gI G, 4096, .inl (arI d))), (dd, .inr (1, [.ref g, .ref o, .ref m])), (cq, .inl (gI G, 32, .inl (arI (rhQ d q tl (im_at d p)))))]) (st2 := []) C (ct_X0_reach G (kl k) h o g b dd cm cq m hd tl rc tk d q (im_at d p) (by omega) (by omega)) gX0_50 dX0_follow_51 0 rfl rfl rfl rfl rfl (Nat.le_of_ble_eq_true rfl) (by decide) [0, 1, 2, 3, 4, 5] rfl (by decide) [h, o, g, b, dd, cq] rfl rfl rfl rfl ?_
        refine w_aload_n C 0 dX0_follow_54 rfl ?_
        refine w_get C 0 2 178 dX0_follow_55 rfl rfl inX0 (by decide) (by decide +kernel) rfl ?_
        refine w_iload_n C 3 dX0_follow_58 rfl ?_
        refine w_iload_n C 1 dX0_follow_59 rfl ?_
        refine w_callV (As := [.int (iI (im_at d p)), .int (iI r)]) (rest := []) (w2 := [(h, .inr (0, [.ref g, .ref o, .ref dd, .ref cm, .ref cq, .int (iI hd), .int (iI (rhT d tl (im_at d p))), .int (rset rc (im_at d p))])), (o, .inr (4, [.ref g, .long tk])), (g, .inr (2, [.ref b])), (b, .inl (gI G, 4096, .inl (arI (spd d (im_at d p) r)))), (dd, .inr (1, [.ref g, .ref o, .ref m])), (cq, .inl (gI G, 32, .inl (arI (rhQ d q tl (im_at d p)))))]) (st2 := []) C (ct_X1_setParent G (kl k) dd o g b m tk d (im_at d p) r (by omega)) gX0_97 dX0_follow_60 4 rfl rfl rfl rfl rfl (Nat.le_of_ble_eq_true rfl) (by decide) [4, 1, 2, 3] rfl (by decide) [dd, o, g, b] rfl rfl rfl rfl ?_
        exact w_retv hret dX0_follow_63 rfl rfl rfl ⟨rfl, (by unfold fol; dsimp only; first | (rw [if_pos ⟨by omega, by assumption⟩]; done) | (rw [if_neg (by intro z; have := z.2; simp_all), if_pos (by omega)]; done) | (rw [if_neg (by intro z; have := z.1; have := z.2; first | omega | simp_all), if_neg (by omega)]))⟩
    · refine w_aload_n C 0 dX0_follow_33 rfl ?_
      refine w_get C 0 2 178 dX0_follow_34 rfl rfl inX0 (by decide) (by decide +kernel) rfl ?_
      refine w_iload_n C 2 dX0_follow_37 rfl ?_
      refine w_callV (As := [.int (iI p)]) (rest := []) (w2 := [(h, .inr (0, [.ref g, .ref o, .ref dd, .ref cm, .ref cq, .int (iI hd), .int (iI tl), .int rc])), (o, .inr (4, [.ref g, .long tk])), (g, .inr (2, [.ref b])), (b, .inl (gI G, 4096, .inl (arI (im_wipe d p 16)))), (dd, .inr (1, [.ref g, .ref o, .ref m])), (cq, .inl (gI G, 32, .inl (arI q)))]) (st2 := []) C (ct_X1_wipeEntry G (kl k) dd o g b m tk d p (by omega)) gX0_94 dX0_follow_38 4 rfl rfl rfl rfl rfl (Nat.le_of_ble_eq_true rfl) (by decide) [4, 1, 2, 3] rfl (by decide) [dd, o, g, b] rfl rfl rfl rfl ?_
      refine w_goto C 63 dX0_follow_41 rfl ?_
      exact w_retv hret dX0_follow_63 rfl rfl rfl ⟨rfl, (by unfold fol; dsimp only; first | (rw [if_pos ⟨by omega, by assumption⟩]; done) | (rw [if_neg (by intro z; have := z.2; simp_all), if_pos (by omega)]; done) | (rw [if_neg (by intro z; have := z.1; have := z.2; first | omega | simp_all), if_neg (by omega)]))⟩
