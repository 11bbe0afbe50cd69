theorem gX11_127 : cwv RX11 127 yX11_reach cX11_reach 2 none 1 1017 1019 52 74 1020 := by decide +kernel
set_option maxHeartbeats 4000000 in
set_option maxRecDepth 100000 in
theorem ct_X11_go (G : GX) (l : Launch) (h : Nat) (a : Nat) (b : Nat) (tk : Nat) (re : Nat) (qu : Nat) (nm : Nat) (hd : Int) (nl : Int) (s0 : CS) (tm : Int64) (hg : GI tm hd s0) : CtE G l yX11_go cX11_go 5 none rmX11_go [.ref h] [(h, .inr (9, [.ref a, .ref b, .ref tk, .ref re, .ref qu, .int (iI hd), .int (iI s0.2.2.2), .ref nm, .int (iI nl)])), (b, .inl (gI G, 4096, .inl (arI s0.1))), (re, .inl (gZ G, 32, .inl (arB (rbt s0.2.1)))), (qu, .inl (gI G, 32, .inl (arI s0.2.2.1)))] (fun e_ : Unit => (GI tm (goF hd s0).1 (goF hd s0).2) ∧ ((goF hd s0).1 = (goF hd s0).2.2.2.2)) (fun e_ : Unit => none) (fun e_ : Unit => [(h, .inr (9, [.ref a, .ref b, .ref tk, .ref re, .ref qu, .int (iI ((goF hd s0).1)), .int (iI ((goF hd s0).2.2.2.2)), .ref nm, .int (iI nl)])), (b, .inl (gI G, 4096, .inl (arI ((goF hd s0).2.1)))), (re, .inl (gZ G, 32, .inl (arB (rbt (goF hd s0).2.2.1)))), (qu, .inl (gI G, 32, .inl (arI ((goF hd s0).2.2.2.1))))]) := by
  refine Ct.of (by decide) (Nat.le_of_ble_eq_true rfl) ?_
  intro k C hl hret
  subst hl
  refine w_lv (lv2 := [(0, .ref h)]) [0] rfl ?_
  have L_0 : ∀ (nn_0 : Nat) (hh : Int) (s : CS), (GI tm hh s) → (goF hd s0 = gto (32 - hh).toNat hh s) → (32 - hh).toNat = nn_0 → Wd G k 5 0 0 [(h, .inr (9, [.ref a, .ref b, .ref tk, .ref re, .ref qu, .int (iI hh), .int (iI s.2.2.2), .ref nm, .int (iI nl)])), (b, .inl (gI G, 4096, .inl (arI s.1))), (re, .inl (gZ G, 32, .inl (arB (rbt s.2.1)))), (qu, .inl (gI G, 32, .inl (arI s.2.2.1)))] 0 [(0, .ref h)] [] := by
    intro nn_0
    induction nn_0 using Nat.strongRecOn with
    | ind nn_0 ih_0 =>
      intro hh s hG hp hm_0
      have hT := hG.T
      refine w_aload_n C 0 dX11_go_0 rfl ?_
      refine w_get C 0 5 851 dX11_go_1 rfl rfl inX11 (by decide) (by decide +kernel) rfl ?_
      refine w_aload_n C 0 dX11_go_4 rfl ?_
      refine w_get C 0 6 852 dX11_go_5 rfl rfl inX11 (by decide) (by decide +kernel) rfl ?_
      refine w_icmp_ge C 145 dX11_go_8 rfl (by omega) (fun c_1 => ?_) (fun c_1 => ?_)
      · have hE9 : goF hd s0 = (hh, s) := by rw [hp]; exact gto_stop _ _ _ (by omega)
        refine w_ws (ws2 := [(h, .inr (9, [.ref a, .ref b, .ref tk, .ref re, .ref qu, .int (iI ((goF hd s0).1)), .int (iI ((goF hd s0).2.2.2.2)), .ref nm, .int (iI nl)])), (b, .inl (gI G, 4096, .inl (arI ((goF hd s0).2.1)))), (re, .inl (gZ G, 32, .inl (arB (rbt (goF hd s0).2.2.1)))), (qu, .inl (gI G, 32, .inl (arI ((goF hd s0).2.2.2.1))))]) (by rw [hE9]) ?_
        exact w_retv hret dX11_go_145 rfl rfl rfl ⟨(()), ⟨(by rw [hE9]; exact hG), (by rw [hE9]; show hh = s.2.2.2; omega)⟩, rfl, rfl⟩
      · refine w_aload_n C 0 dX11_go_11 rfl ?_
        refine w_get C 0 4 850 dX11_go_12 rfl rfl inX11 (by decide) (by decide +kernel) rfl ?_
        refine w_aload_n C 0 dX11_go_15 rfl ?_
        refine w_get C 0 5 851 dX11_go_16 rfl rfl inX11 (by decide) (by decide +kernel) rfl ?_
        refine w_iald C 3 dX11_go_19 rfl (by omega) ?_
        have b_2 := s.2.2.1.2 hh
        refine w_istore_n (lv2 := [(0, .ref h), (1, .int (iI (s.2.2.1.1 hh)))]) C dX11_go_20 (by decide) rfl ?_
        refine w_aload_n C 0 dX11_go_21 rfl ?_
        refine w_dup C dX11_go_22 rfl ?_
        refine w_get C 0 5 851 dX11_go_23 rfl rfl inX11 (by decide) (by decide +kernel) rfl ?_
        refine w_iconst C dX11_go_26 ?_
        refine w_iadd C dX11_go_27 ?_
        refine w_put (ty := .int) (ws2 := [(h, .inr (9, [.ref a, .ref b, .ref tk, .ref re, .ref qu, .int (iI (hh + 1)), .int (iI s.2.2.2), .ref nm, .int (iI nl)])), (b, .inl (gI G, 4096, .inl (arI s.1))), (re, .inl (gZ G, 32, .inl (arB (rbt s.2.1)))), (qu, .inl (gI G, 32, .inl (arI s.2.2.1)))]) C 0 5 851 dX11_go_28 rfl rfl inX11 tyX11_ok nmX11 (by decide) (by decide +kernel) rfl (by decide +kernel) rfl rfl (Nat.le_of_ble_eq_true rfl) rfl ?_
        refine w_iconst C dX11_go_31 ?_
        refine w_istore_n (lv2 := [(0, .ref h), (1, .int (iI (s.2.2.1.1 hh))), (2, .int (iI 2))]) C dX11_go_32 (by decide) rfl ?_
        have L_33 : ∀ (nn_33 : Nat) (e : Int) (s : CS) (dr : Int), (2 ≤ e ∧ e ≤ sz s.1 dr / 16) → (drI s.1 dr) → (GI tm (hh + 1) s) → (goF hd s0 = gto (32 - (hh + 1)).toNat (hh + 1) (gts dr (ec s.1 dr - e).toNat e s)) → (sz s.1 dr / 16 - e).toNat = nn_33 → Wd G k 5 0 0 [(h, .inr (9, [.ref a, .ref b, .ref tk, .ref re, .ref qu, .int (iI (hh + 1)), .int (iI s.2.2.2), .ref nm, .int (iI nl)])), (b, .inl (gI G, 4096, .inl (arI s.1))), (re, .inl (gZ G, 32, .inl (arB (rbt s.2.1)))), (qu, .inl (gI G, 32, .inl (arI s.2.2.1)))] 33 [(0, .ref h), (1, .int (iI dr)), (2, .int (iI e))] [] := by
          intro nn_33
          induction nn_33 using Nat.strongRecOn with
          | ind nn_33 ih_33 =>
            intro e s dr h1 hdr hG2 hp2 hm_33
            have hs9 := hG2.W.szE hdr
            have hT2 := hG2.T
            have hc9 := hG2.W.ecE hdr
            refine w_iload_n C 2 dX11_go_33 rfl ?_
            refine w_aload_n C 0 dX11_go_34 rfl ?_
            refine w_iload_n C 1 dX11_go_35 rfl ?_
            refine w_callV (As := [.int (iI dr)]) (rest := [.int (iI e)]) (w2 := [(h, .inr (9, [.ref a, .ref b, .ref tk, .ref re, .ref qu, .int (iI (hh + 1)), .int (iI s.2.2.2), .ref nm, .int (iI nl)])), (b, .inl (gI G, 4096, .inl (arI s.1))), (re, .inl (gZ G, 32, .inl (arB (rbt s.2.1)))), (qu, .inl (gI G, 32, .inl (arI s.2.2.1)))]) (st2 := [.int (iI (sz s.1 dr / 16)), .int (iI e)]) C (ct_X11_places G (kl k) h a b tk re qu nm (hh + 1) s.2.2.2 nl s.1 dr (by omega)) gX11_106 dX11_go_36 0 rfl rfl rfl rfl rfl (Nat.le_of_ble_eq_true rfl) (by decide) [0, 1] rfl (by decide) [h, b] rfl rfl rfl rfl ?_
            have f_3 := sz_rg s.1 dr
            refine w_icmp_ge C 142 dX11_go_39 rfl (by omega) (fun c_4 => ?_) (fun c_4 => ?_)
            · refine w_goto C 0 dX11_go_142 rfl ?_
              refine w_lv (lv2 := [(0, .ref h)]) [0] rfl ?_
              exact ih_0 _ (by omega) (hh + 1) s hG2 (by rw [hp2, show (ec s.1 dr - e).toNat = 0 by omega, gts]) rfl
            · have er9 := hG2.W.ep_rgE hdr (p := e) (by omega) (by omega)
              have en9 := hG2.D dr hdr hdr.2.1 e (by omega) (by omega)
              have v9 := s.1.2 (ep s.1 dr e)
              have k9 : s.1.1 (ep s.1 dr e) ≠ 0 → kd s.1 (s.1.1 (ep s.1 dr e)) ≠ 0 ∧ inR (s.1.1 (ep s.1 dr e)) := fun z => by rcases en9 with w | w; (exfalso; have w0 := w 0 (by omega) (by omega); rw [show ep s.1 dr e + 0 = ep s.1 dr e by omega] at w0; exact z w0); (exact ⟨w, kd_R w⟩)
              refine w_aload_n C 0 dX11_go_42 rfl ?_
              refine w_iload_n C 1 dX11_go_43 rfl ?_
              refine w_iload_n C 2 dX11_go_44 rfl ?_
              refine w_callV (As := [.int (iI dr), .int (iI e)]) (rest := []) (w2 := [(h, .inr (9, [.ref a, .ref b, .ref tk, .ref re, .ref qu, .int (iI (hh + 1)), .int (iI s.2.2.2), .ref nm, .int (iI nl)])), (b, .inl (gI G, 4096, .inl (arI s.1))), (re, .inl (gZ G, 32, .inl (arB (rbt s.2.1)))), (qu, .inl (gI G, 32, .inl (arI s.2.2.1)))]) (st2 := [.int (iI (ep s.1 dr e))]) C (ct_X11_entry G (kl k) h a b tk re qu nm (hh + 1) s.2.2.2 nl s.1 dr e (by omega) (by omega) (by omega)) gX11_73 dX11_go_45 0 rfl rfl rfl rfl rfl (Nat.le_of_ble_eq_true rfl) (by decide) [0, 1] rfl (by decide) [h, b] rfl rfl rfl rfl ?_
              have f_5 := ep_rg s.1 dr e
              refine w_istore_n (lv2 := [(0, .ref h), (1, .int (iI dr)), (2, .int (iI e)), (3, .int (iI (ep s.1 dr e)))]) C dX11_go_48 (by decide) rfl ?_
              refine w_aload_n C 0 dX11_go_49 rfl ?_
              refine w_get C 0 1 847 dX11_go_50 rfl rfl inX11 (by decide) (by decide +kernel) rfl ?_
              refine w_iload_n C 3 dX11_go_53 rfl ?_
              refine w_iald C 1 dX11_go_54 rfl (by omega) ?_
              have b_6 := s.1.2 (ep s.1 dr e)
              refine w_istore (lv2 := [(0, .ref h), (1, .int (iI dr)), (2, .int (iI e)), (3, .int (iI (ep s.1 dr e))), (4, .int (iI (s.1.1 (ep s.1 dr e))))]) C dX11_go_55 (by decide) rfl ?_
              have J_92 : (s.1.1 (ep s.1 dr e) = 0 ∨ ¬ kd s.1 (s.1.1 (ep s.1 dr e)) = 2 ∨ rbt s.2.1 (s.1.1 (ep s.1 dr e)) = false) → Wd G k 5 0 0 [(h, .inr (9, [.ref a, .ref b, .ref tk, .ref re, .ref qu, .int (iI (hh + 1)), .int (iI s.2.2.2), .ref nm, .int (iI nl)])), (b, .inl (gI G, 4096, .inl (arI s.1))), (re, .inl (gZ G, 32, .inl (arB (rbt s.2.1)))), (qu, .inl (gI G, 32, .inl (arI s.2.2.1)))] 92 [(0, .ref h), (1, .int (iI dr)), (2, .int (iI e)), (3, .int (iI (ep s.1 dr e))), (4, .int (iI (s.1.1 (ep s.1 dr e))))] [] := by
                intro hJ
                refine w_iload C 4 dX11_go_92 rfl ?_
                refine w_if_eq C 136 dX11_go_94 rfl (by omega) (fun c_7 => ?_) (fun c_7 => ?_)
                · have hF := fo_0 (s := s) (dr := dr) (p := ep s.1 dr e) (by omega) hG2.W.k0 c_7
                  refine w_ws (ws2 := [(h, .inr (9, [.ref a, .ref b, .ref tk, .ref re, .ref qu, .int (iI (hh + 1)), .int (iI ((fol s dr (ep s.1 dr e)).2.2.2)), .ref nm, .int (iI nl)])), (b, .inl (gI G, 4096, .inl (arI ((fol s dr (ep s.1 dr e)).1)))), (re, .inl (gZ G, 32, .inl (arB (rbt s.2.1)))), (qu, .inl (gI G, 32, .inl (arI ((fol s dr (ep s.1 dr e)).2.2.1))))]) (by first | (rw [hF]; done) | exact absurd hq (by rw [hr9]; decide) | (rw [hF, rhQ_n hk, rhT_n hk]; done)) ?_
                  refine w_arrB (e := rbt (fol s dr (ep s.1 dr e)).2.1) (ws2 := [(h, .inr (9, [.ref a, .ref b, .ref tk, .ref re, .ref qu, .int (iI (hh + 1)), .int (iI ((fol s dr (ep s.1 dr e)).2.2.2)), .ref nm, .int (iI nl)])), (b, .inl (gI G, 4096, .inl (arI ((fol s dr (ep s.1 dr e)).1)))), (re, .inl (gZ G, 32, .inl (arB (rbt (fol s dr (ep s.1 dr e)).2.1)))), (qu, .inl (gI G, 32, .inl (arI ((fol s dr (ep s.1 dr e)).2.2.1))))]) 2 rfl (fun j a b => by first | (rw [hF]; done) | exact absurd hq (by rw [hr9]; decide) | (rw [hF]; exact rs_up (by omega) (by omega)) | (rw [hF]; exact (rs_id (by omega) hq (by omega)).symm)) rfl ?_
                  refine w_iinc (lv2 := [(0, .ref h), (1, .int (iI dr)), (2, .int (iI (e + 1))), (3, .int (iI (ep s.1 dr e))), (4, .int (iI (s.1.1 (ep s.1 dr e))))]) C 2 dX11_go_136 rfl (by decide) rfl ?_
                  refine w_goto C 33 dX11_go_139 rfl ?_
                  refine w_lv (lv2 := [(0, .ref h), (1, .int (iI dr)), (2, .int (iI (e + 1)))]) [0, 1, 2] rfl ?_
                  exact ih_33 _ (by rw [fo_sz hG2 hdr (by omega) (by omega)]; omega) (e + 1) (fol s dr (ep s.1 dr e)) dr (by rw [fo_sz hG2 hdr (by omega) (by omega)]; omega) (fo_dr hG2 hdr (by omega) (by omega)) (fo_GI hG2 hdr (by omega) (by omega)) (by rw [hp2, show (ec s.1 dr - e).toNat = (ec s.1 dr - (e + 1)).toNat + 1 by omega, gts, show ec (fol s dr (ep s.1 dr e)).1 dr = ec s.1 dr by unfold ec; rw [fo_sz hG2 hdr (by omega) (by omega)]]) rfl
                · have n9 := k9 (by assumption)
                  refine w_aload_n C 0 dX11_go_97 rfl ?_
                  refine w_iload C 4 dX11_go_98 rfl ?_
                  refine w_callV (As := [.int (iI (s.1.1 (ep s.1 dr e)))]) (rest := []) (w2 := [(h, .inr (9, [.ref a, .ref b, .ref tk, .ref re, .ref qu, .int (iI (hh + 1)), .int (iI s.2.2.2), .ref nm, .int (iI nl)])), (b, .inl (gI G, 4096, .inl (arI s.1))), (re, .inl (gZ G, 32, .inl (arB (rbt s.2.1)))), (qu, .inl (gI G, 32, .inl (arI s.2.2.1)))]) (st2 := [.int (iI (kd s.1 (s.1.1 (ep s.1 dr e))))]) C (ct_X11_kind G (kl k) h a b tk re qu nm (hh + 1) s.2.2.2 nl s.1 (s.1.1 (ep s.1 dr e)) (by omega)) gX11_62 dX11_go_100 0 rfl rfl rfl rfl rfl (Nat.le_of_ble_eq_true rfl) (by decide) [0, 1] rfl (by decide) [h, b] rfl rfl rfl rfl ?_
                  have f_8 := kd_rg s.1 (s.1.1 (ep s.1 dr e))
                  refine w_iconst C dX11_go_103 ?_
                  refine w_icmp_ne C 120 dX11_go_104 rfl (by omega) (fun c_9 => ?_) (fun c_9 => ?_)
                  · have hk := c_9
                    have hF := fo_3 (s := s) (dr := dr) (p := ep s.1 dr e) (by omega) hk n9.1
                    refine w_aload_n C 0 dX11_go_120 rfl ?_
                    refine w_get C 0 3 849 dX11_go_121 rfl rfl inX11 (by decide) (by decide +kernel) rfl ?_
                    refine w_iload C 4 dX11_go_124 rfl ?_
                    refine w_zald C 2 dX11_go_126 rfl (by omega) ?_
                    refine w_bnz C 136 dX11_go_127 rfl (fun c_10 => ?_) (fun c_10 => ?_)
                    · have hq : rbt s.2.1 (s.1.1 (ep s.1 dr e)) = true := c_10
                      refine w_ws (ws2 := [(h, .inr (9, [.ref a, .ref b, .ref tk, .ref re, .ref qu, .int (iI (hh + 1)), .int (iI ((fol s dr (ep s.1 dr e)).2.2.2)), .ref nm, .int (iI nl)])), (b, .inl (gI G, 4096, .inl (arI ((fol s dr (ep s.1 dr e)).1)))), (re, .inl (gZ G, 32, .inl (arB (rbt s.2.1)))), (qu, .inl (gI G, 32, .inl (arI ((fol s dr (ep s.1 dr e)).2.2.1))))]) (by first | (rw [hF]; done) | exact absurd hq (by rw [hr9]; decide) | (rw [hF, rhQ_n hk, rhT_n hk]; done)) ?_
                      refine w_arrB (e := rbt (fol s dr (ep s.1 dr e)).2.1) (ws2 := [(h, .inr (9, [.ref a, .ref b, .ref tk, .ref re, .ref qu, .int (iI (hh + 1)), .int (iI ((fol s dr (ep s.1 dr e)).2.2.2)), .ref nm, .int (iI nl)])), (b, .inl (gI G, 4096, .inl (arI ((fol s dr (ep s.1 dr e)).1)))), (re, .inl (gZ G, 32, .inl (arB (rbt (fol s dr (ep s.1 dr e)).2.1)))), (qu, .inl (gI G, 32, .inl (arI ((fol s dr (ep s.1 dr e)).2.2.1))))]) 2 rfl (fun j a b => by first | (rw [hF]; done) | exact absurd hq (by rw [hr9]; decide) | (rw [hF]; exact rs_up (by omega) (by omega)) | (rw [hF]; exact (rs_id (by omega) hq (by omega)).symm)) rfl ?_
                      refine w_iinc (lv2 := [(0, .ref h), (1, .int (iI dr)), (2, .int (iI (e + 1))), (3, .int (iI (ep s.1 dr e))), (4, .int (iI (s.1.1 (ep s.1 dr e))))]) C 2 dX11_go_136 rfl (by decide) rfl ?_
                      refine w_goto C 33 dX11_go_139 rfl ?_
                      refine w_lv (lv2 := [(0, .ref h), (1, .int (iI dr)), (2, .int (iI (e + 1)))]) [0, 1, 2] rfl ?_
                      exact ih_33 _ (by rw [fo_sz hG2 hdr (by omega) (by omega)]; omega) (e + 1) (fol s dr (ep s.1 dr e)) dr (by rw [fo_sz hG2 hdr (by omega) (by omega)]; omega) (fo_dr hG2 hdr (by omega) (by omega)) (fo_GI hG2 hdr (by omega) (by omega)) (by rw [hp2, show (ec s.1 dr - e).toNat = (ec s.1 dr - (e + 1)).toNat + 1 by omega, gts, show ec (fol s dr (ep s.1 dr e)).1 dr = ec s.1 dr by unfold ec; rw [fo_sz hG2 hdr (by omega) (by omega)]]) rfl
                    · have hq : rbt s.2.1 (s.1.1 (ep s.1 dr e)) = false := c_10
                      have f9 := hG2.F (j := s.1.1 (ep s.1 dr e)) (by omega) (by omega) hq
                      refine w_aload_n C 0 dX11_go_130 rfl ?_
                      refine w_iload C 4 dX11_go_131 rfl ?_
                      refine w_callV (As := [.int (iI (s.1.1 (ep s.1 dr e)))]) (rest := []) (w2 := [(h, .inr (9, [.ref a, .ref b, .ref tk, .ref re, .ref qu, .int (iI (hh + 1)), .int (iI (rhT s.1 s.2.2.2 (s.1.1 (ep s.1 dr e)))), .ref nm, .int (iI nl)])), (b, .inl (gI G, 4096, .inl (arI s.1))), (re, .inl (gZ G, 32, .inl (arB (upB (rbt s.2.1) (s.1.1 (ep s.1 dr e)) true)))), (qu, .inl (gI G, 32, .inl (arI (rhQ s.1 s.2.2.1 s.2.2.2 (s.1.1 (ep s.1 dr e))))))]) (st2 := []) C (ct_X11_reach G (kl k) h a b tk re qu nm (hh + 1) s.2.2.2 nl s.1 (rbt s.2.1) s.2.2.1 (s.1.1 (ep s.1 dr e)) (by omega) (by omega)) gX11_127 dX11_go_133 0 rfl rfl rfl rfl rfl (Nat.le_of_ble_eq_true rfl) (by decide) [0, 1, 2, 3] rfl (by decide) [h, b, re, qu] rfl rfl rfl rfl ?_
                      refine w_ws (ws2 := [(h, .inr (9, [.ref a, .ref b, .ref tk, .ref re, .ref qu, .int (iI (hh + 1)), .int (iI ((fol s dr (ep s.1 dr e)).2.2.2)), .ref nm, .int (iI nl)])), (b, .inl (gI G, 4096, .inl (arI ((fol s dr (ep s.1 dr e)).1)))), (re, .inl (gZ G, 32, .inl (arB (upB (rbt s.2.1) (s.1.1 (ep s.1 dr e)) true)))), (qu, .inl (gI G, 32, .inl (arI ((fol s dr (ep s.1 dr e)).2.2.1))))]) (by first | (rw [hF]; done) | exact absurd hq (by rw [hr9]; decide) | (rw [hF, rhQ_n hk, rhT_n hk]; done)) ?_
                      refine w_arrB (e := rbt (fol s dr (ep s.1 dr e)).2.1) (ws2 := [(h, .inr (9, [.ref a, .ref b, .ref tk, .ref re, .ref qu, .int (iI (hh + 1)), .int (iI ((fol s dr (ep s.1 dr e)).2.2.2)), .ref nm, .int (iI nl)])), (b, .inl (gI G, 4096, .inl (arI ((fol s dr (ep s.1 dr e)).1)))), (re, .inl (gZ G, 32, .inl (arB (rbt (fol s dr (ep s.1 dr e)).2.1)))), (qu, .inl (gI G, 32, .inl (arI ((fol s dr (ep s.1 dr e)).2.2.1))))]) 2 rfl (fun j a b => by first | (rw [hF]; done) | exact absurd hq (by rw [hr9]; decide) | (rw [hF]; exact rs_up (by omega) (by omega)) | (rw [hF]; exact (rs_id (by omega) hq (by omega)).symm)) rfl ?_
                      refine w_iinc (lv2 := [(0, .ref h), (1, .int (iI dr)), (2, .int (iI (e + 1))), (3, .int (iI (ep s.1 dr e))), (4, .int (iI (s.1.1 (ep s.1 dr e))))]) C 2 dX11_go_136 rfl (by decide) rfl ?_
                      refine w_goto C 33 dX11_go_139 rfl ?_
                      refine w_lv (lv2 := [(0, .ref h), (1, .int (iI dr)), (2, .int (iI (e + 1)))]) [0, 1, 2] rfl ?_
                      exact ih_33 _ (by rw [fo_sz hG2 hdr (by omega) (by omega)]; omega) (e + 1) (fol s dr (ep s.1 dr e)) dr (by rw [fo_sz hG2 hdr (by omega) (by omega)]; omega) (fo_dr hG2 hdr (by omega) (by omega)) (fo_GI hG2 hdr (by omega) (by omega)) (by rw [hp2, show (ec s.1 dr - e).toNat = (ec s.1 dr - (e + 1)).toNat + 1 by omega, gts, show ec (fol s dr (ep s.1 dr e)).1 dr = ec s.1 dr by unfold ec; rw [fo_sz hG2 hdr (by omega) (by omega)]]) rfl
                  · have hk2 := c_9
                    have hr9 : rbt s.2.1 (s.1.1 (ep s.1 dr e)) = false := by rcases hJ with w | w | w; (exact absurd w (by assumption)); (exact absurd hk2 w); (exact w)
                    have dv : drI s.1 (s.1.1 (ep s.1 dr e)) := ⟨by omega, by omega, hk2⟩
                    have sv := hG2.W.szE dv
                    have e1 := hG2.W.ep_rgE dv (p := 1) (by omega) (by omega)
                    have c9 := cg_kd hG2.W dv (by omega) (by omega) (up_cg s.1 (ep s.1 (s.1.1 (ep s.1 dr e)) 1) dr)
                    have hF := fo_4 (s := s) (dr := dr) (p := ep s.1 dr e) (by omega) hk2 hr9 (by omega) (c9 _)
                    refine w_aload_n C 0 dX11_go_107 rfl ?_
                    refine w_get C 0 1 847 dX11_go_108 rfl rfl inX11 (by decide) (by decide +kernel) rfl ?_
                    refine w_aload_n C 0 dX11_go_111 rfl ?_
                    refine w_iload C 4 dX11_go_112 rfl ?_
                    refine w_iconst C dX11_go_114 ?_
                    refine w_callV (As := [.int (iI (s.1.1 (ep s.1 dr e))), .int (iI 1)]) (rest := [.ref b]) (w2 := [(h, .inr (9, [.ref a, .ref b, .ref tk, .ref re, .ref qu, .int (iI (hh + 1)), .int (iI s.2.2.2), .ref nm, .int (iI nl)])), (b, .inl (gI G, 4096, .inl (arI s.1))), (re, .inl (gZ G, 32, .inl (arB (rbt s.2.1)))), (qu, .inl (gI G, 32, .inl (arI s.2.2.1)))]) (st2 := [.int (iI (ep s.1 (s.1.1 (ep s.1 dr e)) 1)), .ref b]) C (ct_X11_entry G (kl k) h a b tk re qu nm (hh + 1) s.2.2.2 nl s.1 (s.1.1 (ep s.1 dr e)) 1 (by omega) (by omega) (by omega)) gX11_73 dX11_go_115 0 rfl rfl rfl rfl rfl (Nat.le_of_ble_eq_true rfl) (by decide) [0, 1] rfl (by decide) [h, b] rfl rfl rfl rfl ?_
                    have f_11 := ep_rg s.1 (s.1.1 (ep s.1 dr e)) 1
                    refine w_iload_n C 1 dX11_go_118 rfl ?_
                    refine w_iast (ws2 := [(h, .inr (9, [.ref a, .ref b, .ref tk, .ref re, .ref qu, .int (iI (hh + 1)), .int (iI s.2.2.2), .ref nm, .int (iI nl)])), (b, .inl (gI G, 4096, .inl (arI (up s.1 (ep s.1 (s.1.1 (ep s.1 dr e)) 1) dr)))), (re, .inl (gZ G, 32, .inl (arB (rbt s.2.1)))), (qu, .inl (gI G, 32, .inl (arI s.2.2.1)))]) C 1 dX11_go_119 rfl (by omega) (by omega) rfl ?_
                    refine w_aload_n C 0 dX11_go_120 rfl ?_
                    refine w_get C 0 3 849 dX11_go_121 rfl rfl inX11 (by decide) (by decide +kernel) rfl ?_
                    refine w_iload C 4 dX11_go_124 rfl ?_
                    refine w_zald C 2 dX11_go_126 rfl (by omega) ?_
                    refine w_bnz C 136 dX11_go_127 rfl (fun c_12 => ?_) (fun c_12 => ?_)
                    · have hq : rbt s.2.1 (s.1.1 (ep s.1 dr e)) = true := c_12
                      refine w_ws (ws2 := [(h, .inr (9, [.ref a, .ref b, .ref tk, .ref re, .ref qu, .int (iI (hh + 1)), .int (iI ((fol s dr (ep s.1 dr e)).2.2.2)), .ref nm, .int (iI nl)])), (b, .inl (gI G, 4096, .inl (arI ((fol s dr (ep s.1 dr e)).1)))), (re, .inl (gZ G, 32, .inl (arB (rbt s.2.1)))), (qu, .inl (gI G, 32, .inl (arI ((fol s dr (ep s.1 dr e)).2.2.1))))]) (by first | (rw [hF]; done) | exact absurd hq (by rw [hr9]; decide) | (rw [hF, rhQ_n hk, rhT_n hk]; done)) ?_
                      refine w_arrB (e := rbt (fol s dr (ep s.1 dr e)).2.1) (ws2 := [(h, .inr (9, [.ref a, .ref b, .ref tk, .ref re, .ref qu, .int (iI (hh + 1)), .int (iI ((fol s dr (ep s.1 dr e)).2.2.2)), .ref nm, .int (iI nl)])), (b, .inl (gI G, 4096, .inl (arI ((fol s dr (ep s.1 dr e)).1)))), (re, .inl (gZ G, 32, .inl (arB (rbt (fol s dr (ep s.1 dr e)).2.1)))), (qu, .inl (gI G, 32, .inl (arI ((fol s dr (ep s.1 dr e)).2.2.1))))]) 2 rfl (fun j a b => by first | (rw [hF]; done) | exact absurd hq (by rw [hr9]; decide) | (rw [hF]; exact rs_up (by omega) (by omega)) | (rw [hF]; exact (rs_id (by omega) hq (by omega)).symm)) rfl ?_
                      refine w_iinc (lv2 := [(0, .ref h), (1, .int (iI dr)), (2, .int (iI (e + 1))), (3, .int (iI (ep s.1 dr e))), (4, .int (iI (s.1.1 (ep s.1 dr e))))]) C 2 dX11_go_136 rfl (by decide) rfl ?_
                      refine w_goto C 33 dX11_go_139 rfl ?_
                      refine w_lv (lv2 := [(0, .ref h), (1, .int (iI dr)), (2, .int (iI (e + 1)))]) [0, 1, 2] rfl ?_
                      exact ih_33 _ (by rw [fo_sz hG2 hdr (by omega) (by omega)]; omega) (e + 1) (fol s dr (ep s.1 dr e)) dr (by rw [fo_sz hG2 hdr (by omega) (by omega)]; omega) (fo_dr hG2 hdr (by omega) (by omega)) (fo_GI hG2 hdr (by omega) (by omega)) (by rw [hp2, show (ec s.1 dr - e).toNat = (ec s.1 dr - (e + 1)).toNat + 1 by omega, gts, show ec (fol s dr (ep s.1 dr e)).1 dr = ec s.1 dr by unfold ec; rw [fo_sz hG2 hdr (by omega) (by omega)]]) rfl
                    · have hq : rbt s.2.1 (s.1.1 (ep s.1 dr e)) = false := c_12
                      have f9 := hG2.F (j := s.1.1 (ep s.1 dr e)) (by omega) (by omega) hq
                      refine w_aload_n C 0 dX11_go_130 rfl ?_
                      refine w_iload C 4 dX11_go_131 rfl ?_
                      refine w_callV (As := [.int (iI (s.1.1 (ep s.1 dr e)))]) (rest := []) (w2 := [(h, .inr (9, [.ref a, .ref b, .ref tk, .ref re, .ref qu, .int (iI (hh + 1)), .int (iI (rhT (up s.1 (ep s.1 (s.1.1 (ep s.1 dr e)) 1) dr) s.2.2.2 (s.1.1 (ep s.1 dr e)))), .ref nm, .int (iI nl)])), (b, .inl (gI G, 4096, .inl (arI (up s.1 (ep s.1 (s.1.1 (ep s.1 dr e)) 1) dr)))), (re, .inl (gZ G, 32, .inl (arB (upB (rbt s.2.1) (s.1.1 (ep s.1 dr e)) true)))), (qu, .inl (gI G, 32, .inl (arI (rhQ (up s.1 (ep s.1 (s.1.1 (ep s.1 dr e)) 1) dr) s.2.2.1 s.2.2.2 (s.1.1 (ep s.1 dr e))))))]) (st2 := []) C (ct_X11_reach G (kl k) h a b tk re qu nm (hh + 1) s.2.2.2 nl (up s.1 (ep s.1 (s.1.1 (ep s.1 dr e)) 1) dr) (rbt s.2.1) s.2.2.1 (s.1.1 (ep s.1 dr e)) (by omega) (by omega)) gX11_127 dX11_go_133 0 rfl rfl rfl rfl rfl (Nat.le_of_ble_eq_true rfl) (by decide) [0, 1, 2, 3] rfl (by decide) [h, b, re, qu] rfl rfl rfl rfl ?_
                      refine w_ws (ws2 := [(h, .inr (9, [.ref a, .ref b, .ref tk, .ref re, .ref qu, .int (iI (hh + 1)), .int (iI ((fol s dr (ep s.1 dr e)).2.2.2)), .ref nm, .int (iI nl)])), (b, .inl (gI G, 4096, .inl (arI ((fol s dr (ep s.1 dr e)).1)))), (re, .inl (gZ G, 32, .inl (arB (upB (rbt s.2.1) (s.1.1 (ep s.1 dr e)) true)))), (qu, .inl (gI G, 32, .inl (arI ((fol s dr (ep s.1 dr e)).2.2.1))))]) (by first | (rw [hF]; done) | exact absurd hq (by rw [hr9]; decide) | (rw [hF, rhQ_n hk, rhT_n hk]; done)) ?_
                      refine w_arrB (e := rbt (fol s dr (ep s.1 dr e)).2.1) (ws2 := [(h, .inr (9, [.ref a, .ref b, .ref tk, .ref re, .ref qu, .int (iI (hh + 1)), .int (iI ((fol s dr (ep s.1 dr e)).2.2.2)), .ref nm, .int (iI nl)])), (b, .inl (gI G, 4096, .inl (arI ((fol s dr (ep s.1 dr e)).1)))), (re, .inl (gZ G, 32, .inl (arB (rbt (fol s dr (ep s.1 dr e)).2.1)))), (qu, .inl (gI G, 32, .inl (arI ((fol s dr (ep s.1 dr e)).2.2.1))))]) 2 rfl (fun j a b => by first | (rw [hF]; done) | exact absurd hq (by rw [hr9]; decide) | (rw [hF]; exact rs_up (by omega) (by omega)) | (rw [hF]; exact (rs_id (by omega) hq (by omega)).symm)) rfl ?_
                      refine w_iinc (lv2 := [(0, .ref h), (1, .int (iI dr)), (2, .int (iI (e + 1))), (3, .int (iI (ep s.1 dr e))), (4, .int (iI (s.1.1 (ep s.1 dr e))))]) C 2 dX11_go_136 rfl (by decide) rfl ?_
                      refine w_goto C 33 dX11_go_139 rfl ?_
                      refine w_lv (lv2 := [(0, .ref h), (1, .int (iI dr)), (2, .int (iI (e + 1)))]) [0, 1, 2] rfl ?_
                      exact ih_33 _ (by rw [fo_sz hG2 hdr (by omega) (by omega)]; omega) (e + 1) (fol s dr (ep s.1 dr e)) dr (by rw [fo_sz hG2 hdr (by omega) (by omega)]; omega) (fo_dr hG2 hdr (by omega) (by omega)) (fo_GI hG2 hdr (by omega) (by omega)) (by rw [hp2, show (ec s.1 dr - e).toNat = (ec s.1 dr - (e + 1)).toNat + 1 by omega, gts, show ec (fol s dr (ep s.1 dr e)).1 dr = ec s.1 dr by unfold ec; rw [fo_sz hG2 hdr (by omega) (by omega)]]) rfl
              refine w_iload C 4 dX11_go_57 rfl ?_
              refine w_if_eq C 92 dX11_go_59 rfl (by omega) (fun c_13 => ?_) (fun c_13 => ?_)
              · exact J_92  (by first | exact Or.inl c_13 | exact Or.inr (Or.inl c_13) | exact Or.inr (Or.inr c_13))
              · have n9 := k9 (by assumption)
                refine w_aload_n C 0 dX11_go_62 rfl ?_
                refine w_iload C 4 dX11_go_63 rfl ?_
                refine w_callV (As := [.int (iI (s.1.1 (ep s.1 dr e)))]) (rest := []) (w2 := [(h, .inr (9, [.ref a, .ref b, .ref tk, .ref re, .ref qu, .int (iI (hh + 1)), .int (iI s.2.2.2), .ref nm, .int (iI nl)])), (b, .inl (gI G, 4096, .inl (arI s.1))), (re, .inl (gZ G, 32, .inl (arB (rbt s.2.1)))), (qu, .inl (gI G, 32, .inl (arI s.2.2.1)))]) (st2 := [.int (iI (kd s.1 (s.1.1 (ep s.1 dr e))))]) C (ct_X11_kind G (kl k) h a b tk re qu nm (hh + 1) s.2.2.2 nl s.1 (s.1.1 (ep s.1 dr e)) (by omega)) gX11_62 dX11_go_65 0 rfl rfl rfl rfl rfl (Nat.le_of_ble_eq_true rfl) (by decide) [0, 1] rfl (by decide) [h, b] rfl rfl rfl rfl ?_
                have f_14 := kd_rg s.1 (s.1.1 (ep s.1 dr e))
                refine w_iconst C dX11_go_68 ?_
                refine w_icmp_ne C 92 dX11_go_69 rfl (by omega) (fun c_15 => ?_) (fun c_15 => ?_)
                · exact J_92  (by first | exact Or.inl c_15 | exact Or.inr (Or.inl c_15) | exact Or.inr (Or.inr c_15))
                · refine w_aload_n C 0 dX11_go_72 rfl ?_
                  refine w_get C 0 3 849 dX11_go_73 rfl rfl inX11 (by decide) (by decide +kernel) rfl ?_
                  refine w_iload C 4 dX11_go_76 rfl ?_
                  refine w_zald C 2 dX11_go_78 rfl (by omega) ?_
                  refine w_bz C 92 dX11_go_79 rfl (fun c_16 => ?_) (fun c_16 => ?_)
                  · exact J_92  (by first | exact Or.inl c_16 | exact Or.inr (Or.inl c_16) | exact Or.inr (Or.inr c_16))
                  · have hF := fo_a (s := s) (dr := dr) (p := ep s.1 dr e) (by omega) (by assumption) c_16
                    refine w_aload_n C 0 dX11_go_82 rfl ?_
                    refine w_iload_n C 3 dX11_go_83 rfl ?_
                    refine w_bipush C dX11_go_84 (by decide) ?_
                    refine w_callV (As := [.int (iI (ep s.1 dr e)), .int (iI 16)]) (rest := []) (w2 := [(h, .inr (9, [.ref a, .ref b, .ref tk, .ref re, .ref qu, .int (iI (hh + 1)), .int (iI s.2.2.2), .ref nm, .int (iI nl)])), (b, .inl (gI G, 4096, .inl (arI (im_wipe s.1 (ep s.1 dr e) 16)))), (re, .inl (gZ G, 32, .inl (arB (rbt s.2.1)))), (qu, .inl (gI G, 32, .inl (arI s.2.2.1)))]) (st2 := []) C (ct_X11_clear G (kl k) h a b tk re qu nm (hh + 1) s.2.2.2 nl s.1 (ep s.1 dr e) 16 (by unfold rgP; omega)) gX11_65 dX11_go_86 0 rfl rfl rfl rfl rfl (Nat.le_of_ble_eq_true rfl) (by decide) [0, 1] rfl (by decide) [h, b] rfl rfl rfl rfl ?_
                    refine w_goto C 136 dX11_go_89 rfl ?_
                    refine w_ws (ws2 := [(h, .inr (9, [.ref a, .ref b, .ref tk, .ref re, .ref qu, .int (iI (hh + 1)), .int (iI ((fol s dr (ep s.1 dr e)).2.2.2)), .ref nm, .int (iI nl)])), (b, .inl (gI G, 4096, .inl (arI ((fol s dr (ep s.1 dr e)).1)))), (re, .inl (gZ G, 32, .inl (arB (rbt s.2.1)))), (qu, .inl (gI G, 32, .inl (arI ((fol s dr (ep s.1 dr e)).2.2.1))))]) (by first | (rw [hF]; done) | exact absurd hq (by rw [hr9]; decide) | (rw [hF, rhQ_n hk, rhT_n hk]; done)) ?_
                    refine w_arrB (e := rbt (fol s dr (ep s.1 dr e)).2.1) (ws2 := [(h, .inr (9, [.ref a, .ref b, .ref tk, .ref re, .ref qu, .int (iI (hh + 1)), .int (iI ((fol s dr (ep s.1 dr e)).2.2.2)), .ref nm, .int (iI nl)])), (b, .inl (gI G, 4096, .inl (arI ((fol s dr (ep s.1 dr e)).1)))), (re, .inl (gZ G, 32, .inl (arB (rbt (fol s dr (ep s.1 dr e)).2.1)))), (qu, .inl (gI G, 32, .inl (arI ((fol s dr (ep s.1 dr e)).2.2.1))))]) 2 rfl (fun j a b => by first | (rw [hF]; done) | exact absurd hq (by rw [hr9]; decide) | (rw [hF]; exact rs_up (by omega) (by omega)) | (rw [hF]; exact (rs_id (by omega) hq (by omega)).symm)) rfl ?_
                    refine w_iinc (lv2 := [(0, .ref h), (1, .int (iI dr)), (2, .int (iI (e + 1))), (3, .int (iI (ep s.1 dr e))), (4, .int (iI (s.1.1 (ep s.1 dr e))))]) C 2 dX11_go_136 rfl (by decide) rfl ?_
                    refine w_goto C 33 dX11_go_139 rfl ?_
                    refine w_lv (lv2 := [(0, .ref h), (1, .int (iI dr)), (2, .int (iI (e + 1)))]) [0, 1, 2] rfl ?_
                    exact ih_33 _ (by rw [fo_sz hG2 hdr (by omega) (by omega)]; omega) (e + 1) (fol s dr (ep s.1 dr e)) dr (by rw [fo_sz hG2 hdr (by omega) (by omega)]; omega) (fo_dr hG2 hdr (by omega) (by omega)) (fo_GI hG2 hdr (by omega) (by omega)) (by rw [hp2, show (ec s.1 dr - e).toNat = (ec s.1 dr - (e + 1)).toNat + 1 by omega, gts, show ec (fol s dr (ep s.1 dr e)).1 dr = ec s.1 dr by unfold ec; rw [fo_sz hG2 hdr (by omega) (by omega)]]) rfl
        exact L_33 _ 2 s (s.2.2.1.1 hh) (by have w := hG.W.szE (hG.Q hh (by omega) (by omega)); omega) (hG.Q hh (by omega) (by omega)) (hG.hh (by omega) (by omega)) (by rw [hp, show (32 - hh).toNat = (32 - (hh + 1)).toNat + 1 by omega, gto, if_pos (by omega)]) rfl
  exact L_0 _ hd s0 hg rfl rfl
