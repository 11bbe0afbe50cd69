theorem gX0_107 : cwv RX0 107 yX1_writeEntry cX1_writeEntry 5 none 3 642 541 542 68 543 := by decide +kernel
set_option maxHeartbeats 4000000 in
set_option maxRecDepth 100000 in
theorem ct_X0_putAway (G : GX) (l : Launch) (h : Nat) (o : Nat) (g : Nat) (b : Nat) (dd : Nat) (cm : Nat) (cq : Nat) (m : Nat) (hd : Int) (tl : Int) (rc : Int32) (tk : Int64) (d : Im) (q : Im) (cmb : Nat) (nb : Im) (n : Int) (i : Int) (p : Int) (hi : 0 ≤ i ∧ i < 32) (hn : 0 ≤ n ∧ n ≤ 14) (hp : -1 ≤ p ∧ p < 5000) (ht : 0 ≤ tl ∧ tl ≤ 32) : Ct G l yX0_putAway cX0_putAway 3 none rmX0_putAway [.ref h, .int (iI i), .int (iI p)] [(h, .inr (0, [.ref g, .ref o, .ref dd, .ref cm, .ref cq, .int (iI hd), .int (iI tl), .int rc])), (o, .inr (4, [.ref g, .long tk])), (g, .inr (2, [.ref b])), (b, .inl (gI G, 4096, .inl (arI d))), (dd, .inr (1, [.ref g, .ref o, .ref m])), (cq, .inl (gI G, 32, .inl (arI q))), (cm, .inr (5, [.ref cmb, .int (iI n)])), (cmb, .inl (gI G, 14, .inl (arI nb)))] none [(h, .inr (0, [.ref g, .ref o, .ref dd, .ref cm, .ref cq, .int (iI hd), .int (iI ((paF (d, rc, q, tl) i p nb n).2.2.2)), .int ((paF (d, rc, q, tl) i p nb n).2.1)])), (o, .inr (4, [.ref g, .long tk])), (g, .inr (2, [.ref b])), (b, .inl (gI G, 4096, .inl (arI ((paF (d, rc, q, tl) i p nb n).1)))), (dd, .inr (1, [.ref g, .ref o, .ref m])), (cq, .inl (gI G, 32, .inl (arI ((paF (d, rc, q, tl) i p nb n).2.2.1)))), (cm, .inr (5, [.ref cmb, .int (iI n)])), (cmb, .inl (gI G, 14, .inl (arI nb)))] := by
  refine Ct.of (by decide) (Nat.le_of_ble_eq_true rfl) ?_
  intro k C hl hret
  subst hl
  refine w_lv (lv2 := [(0, .ref h), (1, .int (iI i)), (2, .int (iI p))]) [0, 1, 2] rfl ?_
  refine w_aload_n C 0 dX0_putAway_0 rfl ?_
  refine w_get C 0 2 178 dX0_putAway_1 rfl rfl inX0 (by decide) (by decide +kernel) rfl ?_
  refine w_iload_n C 2 dX0_putAway_4 rfl ?_
  refine w_iload_n C 1 dX0_putAway_5 rfl ?_
  refine w_aload_n C 0 dX0_putAway_6 rfl ?_
  refine w_get C 0 3 179 dX0_putAway_7 rfl rfl inX0 (by decide) (by decide +kernel) rfl ?_
  refine w_callV (As := [.int (iI p), .int (iI i), .ref cm]) (rest := []) (w2 := [(h, .inr (0, [.ref g, .ref o, .ref dd, .ref cm, .ref cq, .int (iI hd), .int (iI tl), .int rc])), (o, .inr (4, [.ref g, .long tk])), (g, .inr (2, [.ref b])), (b, .inl (gI G, 4096, .inl (arI (we d p i nb n)))), (dd, .inr (1, [.ref g, .ref o, .ref m])), (cq, .inl (gI G, 32, .inl (arI q))), (cm, .inr (5, [.ref cmb, .int (iI n)])), (cmb, .inl (gI G, 14, .inl (arI nb)))]) (st2 := []) C (ct_X1_writeEntry G (kl k) dd o g b m tk d cm cmb nb n p i (by omega) (by omega)) gX0_107 dX0_putAway_10 4 rfl rfl rfl rfl rfl (Nat.le_of_ble_eq_true rfl) (by decide) [4, 1, 2, 3, 6, 7] rfl (by decide) [dd, o, g, b, cm, cmb] rfl rfl rfl rfl ?_
  refine w_aload_n C 0 dX0_putAway_13 rfl ?_
  refine w_iload_n C 1 dX0_putAway_14 rfl ?_
  refine w_callV (As := [.int (iI i)]) (rest := []) (w2 := [(h, .inr (0, [.ref g, .ref o, .ref dd, .ref cm, .ref cq, .int (iI hd), .int (iI (rhT (we d p i nb n) tl i)), .int (rset rc i)])), (o, .inr (4, [.ref g, .long tk])), (g, .inr (2, [.ref b])), (b, .inl (gI G, 4096, .inl (arI ((we d p i nb n))))), (dd, .inr (1, [.ref g, .ref o, .ref m])), (cq, .inl (gI G, 32, .inl (arI (rhQ (we d p i nb n) q tl i)))), (cm, .inr (5, [.ref cmb, .int (iI n)])), (cmb, .inl (gI G, 14, .inl (arI nb)))]) (st2 := []) C (ct_X0_reach G (kl k) h o g b dd cm cq m hd tl rc tk (we d p i nb n) q i (by omega) (by omega)) gX0_50 dX0_putAway_15 0 rfl rfl rfl rfl rfl (Nat.le_of_ble_eq_true rfl) (by decide) [0, 1, 2, 3, 4, 5] rfl (by decide) [h, o, g, b, dd, cq] rfl rfl rfl rfl ?_
  refine w_aload_n C 0 dX0_putAway_18 rfl ?_
  refine w_get C 0 2 178 dX0_putAway_19 rfl rfl inX0 (by decide) (by decide +kernel) rfl ?_
  refine w_iload_n C 1 dX0_putAway_22 rfl ?_
  refine w_iconst C dX0_putAway_23 ?_
  refine w_callV (As := [.int (iI i), .int (iI 2)]) (rest := []) (w2 := [(h, .inr (0, [.ref g, .ref o, .ref dd, .ref cm, .ref cq, .int (iI hd), .int (iI (rhT (we d p i nb n) tl i)), .int (rset rc i)])), (o, .inr (4, [.ref g, .long tk])), (g, .inr (2, [.ref b])), (b, .inl (gI G, 4096, .inl (arI (spd ((we d p i nb n)) i 2)))), (dd, .inr (1, [.ref g, .ref o, .ref m])), (cq, .inl (gI G, 32, .inl (arI (rhQ (we d p i nb n) q tl i)))), (cm, .inr (5, [.ref cmb, .int (iI n)])), (cmb, .inl (gI G, 14, .inl (arI nb)))]) (st2 := []) C (ct_X1_setParent G (kl k) dd o g b m tk ((we d p i nb n)) i 2 (by omega)) gX0_97 dX0_putAway_24 4 rfl rfl rfl rfl rfl (Nat.le_of_ble_eq_true rfl) (by decide) [4, 1, 2, 3] rfl (by decide) [dd, o, g, b] rfl rfl rfl rfl ?_
  exact w_retv hret dX0_putAway_27 rfl rfl rfl ⟨rfl, rfl⟩
