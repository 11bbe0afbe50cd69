theorem gX0_79 : cwv RX0 79 yX1_entryCount cX1_entryCount 2 (some .int) 1 609 563 564 68 565 := by decide +kernel
theorem gX0_82 : cwv RX0 82 yX1_entryPlace cX1_entryPlace 3 (some .int) 2 610 536 537 68 538 := by decide +kernel
theorem gX0_86 : cwv RX0 86 yX0_follow cX0_follow 5 none 2 611 613 9 72 614 := by decide +kernel
set_option maxHeartbeats 4000000 in
set_option maxRecDepth 100000 in
theorem ct_X0_goThrough (G : GX) (l : Launch) (h : Nat) (o : Nat) (g : Nat) (b : Nat) (dd : Nat) (cm : Nat) (cq : Nat) (m : Nat) (hd : Int) (tl : Int) (rc : Int32) (tk : Int64) (d : Im) (q : Im) (ht : 0 ≤ tl ∧ tl ≤ 32) (hh0 : 0 ≤ hd ∧ hd ≤ 32) : Ct G l yX0_goThrough cX0_goThrough 4 none rmX0_goThrough [.ref h] [(h, .inr (0, [.ref g, .ref o, .ref dd, .ref cm, .ref cq, .int (iI hd), .int (iI tl), .int rc])), (o, .inr (4, [.ref g, .long tk])), (g, .inr (2, [.ref b])), (b, .inl (gI G, 4096, .inl (arI d))), (dd, .inr (1, [.ref g, .ref o, .ref m])), (cq, .inl (gI G, 32, .inl (arI q)))] none [(h, .inr (0, [.ref g, .ref o, .ref dd, .ref cm, .ref cq, .int (iI ((goF hd (d, rc, q, tl)).1)), .int (iI ((goF hd (d, rc, q, tl)).2.2.2.2)), .int ((goF hd (d, rc, q, tl)).2.2.1)])), (o, .inr (4, [.ref g, .long tk])), (g, .inr (2, [.ref b])), (b, .inl (gI G, 4096, .inl (arI ((goF hd (d, rc, q, tl)).2.1)))), (dd, .inr (1, [.ref g, .ref o, .ref m])), (cq, .inl (gI G, 32, .inl (arI ((goF hd (d, rc, q, tl)).2.2.2.1))))] := by
  refine Ct.of (by decide) (Nat.le_of_ble_eq_true rfl) ?_
  intro k C hl hret
  subst hl
  refine w_lv (lv2 := [(0, .ref h)]) [0] rfl ?_
  have L_0 : ∀ (nn_0 : Nat) (hh : Int) (t : Int) (r : Int32) (y : Im) (z : Im), (0 ≤ hh ∧ hh ≤ 32 ∧ 0 ≤ t ∧ t ≤ 32) → (goF hd (d, rc, q, tl) = gto (32 - hh).toNat hh (y, r, z, t)) → (32 - hh).toNat = nn_0 → Wd G k 4 0 0 [(h, .inr (0, [.ref g, .ref o, .ref dd, .ref cm, .ref cq, .int (iI hh), .int (iI t), .int r])), (o, .inr (4, [.ref g, .long tk])), (g, .inr (2, [.ref b])), (b, .inl (gI G, 4096, .inl (arI y))), (dd, .inr (1, [.ref g, .ref o, .ref m])), (cq, .inl (gI G, 32, .inl (arI z)))] 0 [(0, .ref h)] [] := by
    intro nn_0
    induction nn_0 using Nat.strongRecOn with
    | ind nn_0 ih_0 =>
      intro hh t r y z h1 h2 hm_0
      refine w_aload_n C 0 dX0_goThrough_0 rfl ?_
      refine w_get C 0 5 181 dX0_goThrough_1 rfl rfl inX0 (by decide) (by decide +kernel) rfl ?_
      refine w_if_lt C 86 dX0_goThrough_4 rfl (by omega) (fun c_1 => ?_) (fun c_1 => ?_)
      · omega
      · refine w_aload_n C 0 dX0_goThrough_7 rfl ?_
        refine w_get C 0 5 181 dX0_goThrough_8 rfl rfl inX0 (by decide) (by decide +kernel) rfl ?_
        refine w_aload_n C 0 dX0_goThrough_11 rfl ?_
        refine w_get C 0 6 182 dX0_goThrough_12 rfl rfl inX0 (by decide) (by decide +kernel) rfl ?_
        refine w_icmp_ge C 86 dX0_goThrough_15 rfl (by omega) (fun c_2 => ?_) (fun c_2 => ?_)
        · have h5 : goF hd (d, rc, q, tl) = (hh, (y, r, z, t)) := by rw [h2]; exact gto_stop _ _ _ (by show ¬ hh < t; omega)
          exact w_retv hret dX0_goThrough_86 rfl rfl rfl ⟨rfl, (by rw [h5])⟩
        · refine w_aload_n C 0 dX0_goThrough_18 rfl ?_
          refine w_get C 0 5 181 dX0_goThrough_19 rfl rfl inX0 (by decide) (by decide +kernel) rfl ?_
          refine w_bipush C dX0_goThrough_22 (by decide) ?_
          refine w_icmp_ge C 86 dX0_goThrough_24 rfl (by omega) (fun c_3 => ?_) (fun c_3 => ?_)
          · have h5 : goF hd (d, rc, q, tl) = (hh, (y, r, z, t)) := by rw [h2, show (32 - hh).toNat = 0 by omega, gto]
            exact w_retv hret dX0_goThrough_86 rfl rfl rfl ⟨rfl, (by rw [h5])⟩
          · refine w_aload_n C 0 dX0_goThrough_27 rfl ?_
            refine w_get C 0 4 180 dX0_goThrough_28 rfl rfl inX0 (by decide) (by decide +kernel) rfl ?_
            refine w_aload_n C 0 dX0_goThrough_31 rfl ?_
            refine w_get C 0 5 181 dX0_goThrough_32 rfl rfl inX0 (by decide) (by decide +kernel) rfl ?_
            refine w_iald C 5 dX0_goThrough_35 rfl (by omega) ?_
            have b_4 := z.2 hh
            refine w_istore_n (lv2 := [(0, .ref h), (1, .int (iI (z.1 hh)))]) C dX0_goThrough_36 (by decide) rfl ?_
            refine w_aload_n C 0 dX0_goThrough_37 rfl ?_
            refine w_get C 0 2 178 dX0_goThrough_38 rfl rfl inX0 (by decide) (by decide +kernel) rfl ?_
            refine w_iload_n C 1 dX0_goThrough_41 rfl ?_
            refine w_callV (As := [.int (iI (z.1 hh))]) (rest := []) (w2 := [(h, .inr (0, [.ref g, .ref o, .ref dd, .ref cm, .ref cq, .int (iI hh), .int (iI t), .int r])), (o, .inr (4, [.ref g, .long tk])), (g, .inr (2, [.ref b])), (b, .inl (gI G, 4096, .inl (arI y))), (dd, .inr (1, [.ref g, .ref o, .ref m])), (cq, .inl (gI G, 32, .inl (arI z)))]) (st2 := [.int (iI (ec y (z.1 hh)))]) C (ct_X1_entryCount G (kl k) dd o g b m tk y (z.1 hh) (by omega)) gX0_79 dX0_goThrough_42 4 rfl rfl rfl rfl rfl (Nat.le_of_ble_eq_true rfl) (by decide) [4, 1, 2, 3] rfl (by decide) [dd, o, g, b] rfl rfl rfl rfl ?_
            have f_5 := ec_rg y (z.1 hh)
            refine w_istore_n (lv2 := [(0, .ref h), (1, .int (iI (z.1 hh))), (2, .int (iI (ec y (z.1 hh))))]) C dX0_goThrough_45 (by decide) rfl ?_
            refine w_iconst C dX0_goThrough_46 ?_
            refine w_istore_n (lv2 := [(0, .ref h), (1, .int (iI (z.1 hh))), (2, .int (iI (ec y (z.1 hh)))), (3, .int (iI 2))]) C dX0_goThrough_47 (by decide) rfl ?_
            have L_48 : ∀ (nn_48 : Nat) (e : Int) (t2 : Int) (r2 : Int32) (y2 : Im) (z2 : Im), (2 ≤ e ∧ e ≤ 184 ∧ 0 ≤ t2 ∧ t2 ≤ 32) → (gts (z.1 hh) (ec y (z.1 hh) - 2).toNat 2 (y, r, z, t) = gts (z.1 hh) (ec y (z.1 hh) - e).toNat e (y2, r2, z2, t2)) → (ec y (z.1 hh) - e).toNat = nn_48 → Wd G k 4 0 0 [(h, .inr (0, [.ref g, .ref o, .ref dd, .ref cm, .ref cq, .int (iI hh), .int (iI t2), .int r2])), (o, .inr (4, [.ref g, .long tk])), (g, .inr (2, [.ref b])), (b, .inl (gI G, 4096, .inl (arI y2))), (dd, .inr (1, [.ref g, .ref o, .ref m])), (cq, .inl (gI G, 32, .inl (arI z2)))] 48 [(0, .ref h), (1, .int (iI (z.1 hh))), (2, .int (iI (ec y (z.1 hh)))), (3, .int (iI e))] [] := by
              intro nn_48
              induction nn_48 using Nat.strongRecOn with
              | ind nn_48 ih_48 =>
                intro e t2 r2 y2 z2 h3 h4 hm_48
                have q9 := ec_rg y (z.1 hh)
                refine w_iload_n C 3 dX0_goThrough_48 rfl ?_
                refine w_iload_n C 2 dX0_goThrough_49 rfl ?_
                refine w_icmp_ge C 73 dX0_goThrough_50 rfl (by omega) (fun c_6 => ?_) (fun c_6 => ?_)
                · refine w_aload_n C 0 dX0_goThrough_73 rfl ?_
                  refine w_dup C dX0_goThrough_74 rfl ?_
                  refine w_get C 0 5 181 dX0_goThrough_75 rfl rfl inX0 (by decide) (by decide +kernel) rfl ?_
                  refine w_iconst C dX0_goThrough_78 ?_
                  refine w_iadd C dX0_goThrough_79 ?_
                  refine w_put (ty := .int) (ws2 := [(h, .inr (0, [.ref g, .ref o, .ref dd, .ref cm, .ref cq, .int (iI (hh + 1)), .int (iI t2), .int r2])), (o, .inr (4, [.ref g, .long tk])), (g, .inr (2, [.ref b])), (b, .inl (gI G, 4096, .inl (arI y2))), (dd, .inr (1, [.ref g, .ref o, .ref m])), (cq, .inl (gI G, 32, .inl (arI z2)))]) C 0 5 181 dX0_goThrough_80 rfl rfl inX0 tyX0_ok nmX0 (by decide) (by decide +kernel) rfl (by decide +kernel) rfl rfl (Nat.le_of_ble_eq_true rfl) rfl ?_
                  refine w_goto C 0 dX0_goThrough_83 rfl ?_
                  refine w_ord (ws2 := [(h, .inr (0, [.ref g, .ref o, .ref dd, .ref cm, .ref cq, .int (iI ((hh + 1))), .int (iI t2), .int r2])), (o, .inr (4, [.ref g, .long tk])), (g, .inr (2, [.ref b])), (b, .inl (gI G, 4096, .inl (arI y2))), (dd, .inr (1, [.ref g, .ref o, .ref m])), (cq, .inl (gI G, 32, .inl (arI z2)))]) [0, 1, 2, 3, 4, 5] rfl (by decide) ?_
                  refine w_lv (lv2 := [(0, .ref h)]) [0] rfl ?_
                  exact ih_0 _ (by omega) (hh + 1) t2 r2 y2 z2 (by omega) (by rw [h2, show (32 - hh).toNat = (32 - (hh + 1)).toNat + 1 by omega, gto, if_pos (by show hh < t; omega)]; show gto _ _ (gts (z.1 hh) (ec y (z.1 hh) - 2).toNat 2 (y, r, z, t)) = _; rw [h4, show (ec y (z.1 hh) - e).toNat = 0 by omega, gts]) rfl
                · refine w_aload_n C 0 dX0_goThrough_53 rfl ?_
                  refine w_iload_n C 1 dX0_goThrough_54 rfl ?_
                  refine w_aload_n C 0 dX0_goThrough_55 rfl ?_
                  refine w_get C 0 2 178 dX0_goThrough_56 rfl rfl inX0 (by decide) (by decide +kernel) rfl ?_
                  refine w_iload_n C 1 dX0_goThrough_59 rfl ?_
                  refine w_iload_n C 3 dX0_goThrough_60 rfl ?_
                  refine w_callV (As := [.int (iI (z.1 hh)), .int (iI e)]) (rest := [.int (iI (z.1 hh)), .ref h]) (w2 := [(h, .inr (0, [.ref g, .ref o, .ref dd, .ref cm, .ref cq, .int (iI hh), .int (iI t2), .int r2])), (o, .inr (4, [.ref g, .long tk])), (g, .inr (2, [.ref b])), (b, .inl (gI G, 4096, .inl (arI y2))), (dd, .inr (1, [.ref g, .ref o, .ref m])), (cq, .inl (gI G, 32, .inl (arI z2)))]) (st2 := [.int (iI (ep y2 (z.1 hh) e)), .int (iI (z.1 hh)), .ref h]) C (ct_X1_entryPlace G (kl k) dd o g b m tk y2 (z.1 hh) e (by omega) (by omega)) gX0_82 dX0_goThrough_61 4 rfl rfl rfl rfl rfl (Nat.le_of_ble_eq_true rfl) (by decide) [4, 1, 2, 3] rfl (by decide) [dd, o, g, b] rfl rfl rfl rfl ?_
                  have f_7 := ep_rg y2 (z.1 hh) e
                  refine w_callV (As := [.int (iI (z.1 hh)), .int (iI (ep y2 (z.1 hh) e))]) (rest := []) (w2 := [(h, .inr (0, [.ref g, .ref o, .ref dd, .ref cm, .ref cq, .int (iI hh), .int (iI ((fol (y2, r2, z2, t2) (z.1 hh) (ep y2 (z.1 hh) e)).2.2.2)), .int ((fol (y2, r2, z2, t2) (z.1 hh) (ep y2 (z.1 hh) e)).2.1)])), (o, .inr (4, [.ref g, .long tk])), (g, .inr (2, [.ref b])), (b, .inl (gI G, 4096, .inl (arI ((fol (y2, r2, z2, t2) (z.1 hh) (ep y2 (z.1 hh) e)).1)))), (dd, .inr (1, [.ref g, .ref o, .ref m])), (cq, .inl (gI G, 32, .inl (arI ((fol (y2, r2, z2, t2) (z.1 hh) (ep y2 (z.1 hh) e)).2.2.1))))]) (st2 := []) C (ct_X0_follow G (kl k) h o g b dd cm cq m hh t2 r2 tk y2 z2 (z.1 hh) (ep y2 (z.1 hh) e) (by omega) (by omega) (by omega)) gX0_86 dX0_goThrough_64 0 rfl rfl rfl rfl rfl (Nat.le_of_ble_eq_true rfl) (by decide) [0, 1, 2, 3, 4, 5] rfl (by decide) [h, o, g, b, dd, cq] rfl rfl rfl rfl ?_
                  refine w_iinc (lv2 := [(0, .ref h), (1, .int (iI (z.1 hh))), (2, .int (iI (ec y (z.1 hh)))), (3, .int (iI (e + 1)))]) C 3 dX0_goThrough_67 rfl (by decide) rfl ?_
                  refine w_goto C 48 dX0_goThrough_70 rfl ?_
                  refine w_ord (ws2 := [(h, .inr (0, [.ref g, .ref o, .ref dd, .ref cm, .ref cq, .int (iI hh), .int (iI (((fol (y2, r2, z2, t2) (z.1 hh) (ep y2 (z.1 hh) e)).2.2.2))), .int (((fol (y2, r2, z2, t2) (z.1 hh) (ep y2 (z.1 hh) e)).2.1))])), (o, .inr (4, [.ref g, .long tk])), (g, .inr (2, [.ref b])), (b, .inl (gI G, 4096, .inl (arI (((fol (y2, r2, z2, t2) (z.1 hh) (ep y2 (z.1 hh) e)).1))))), (dd, .inr (1, [.ref g, .ref o, .ref m])), (cq, .inl (gI G, 32, .inl (arI (((fol (y2, r2, z2, t2) (z.1 hh) (ep y2 (z.1 hh) e)).2.2.1)))))]) [0, 1, 2, 3, 4, 5] rfl (by decide) ?_
                  refine w_lv (lv2 := [(0, .ref h), (1, .int (iI (z.1 hh))), (2, .int (iI (ec y (z.1 hh)))), (3, .int (iI ((e + 1))))]) [0, 1, 2, 3] rfl ?_
                  exact ih_48 _ (by omega) (e + 1) ((fol (y2, r2, z2, t2) (z.1 hh) (ep y2 (z.1 hh) e)).2.2.2) ((fol (y2, r2, z2, t2) (z.1 hh) (ep y2 (z.1 hh) e)).2.1) ((fol (y2, r2, z2, t2) (z.1 hh) (ep y2 (z.1 hh) e)).1) ((fol (y2, r2, z2, t2) (z.1 hh) (ep y2 (z.1 hh) e)).2.2.1) (by have := fol_rg (y2, r2, z2, t2) (z.1 hh) (ep y2 (z.1 hh) e) (by show 0 ≤ t2 ∧ t2 ≤ 32; omega); omega) (by rw [h4, show (ec y (z.1 hh) - e).toNat = (ec y (z.1 hh) - (e + 1)).toNat + 1 by omega, gts]) rfl
            exact L_48 _ 2 t r y z (by omega) rfl rfl
  exact L_0 _ hd tl rc d q (by omega) rfl rfl
