set_option maxHeartbeats 4000000 in
set_option maxRecDepth 100000 in
theorem ct_X11_make_ (G : GX) (l : Launch) (h : Nat) (a : Nat) (b : Nat) (tk : Nat) (re : Nat) (qu : Nat) (nm : Nat) (hd : Int) (tl : Int) (nl : Int) (dk : Im) (d : Im) (r : Int → Bool) (q : Im) (t0 : Int → Bool) (nb : Im) (i : Int) (x : Int64) (c : Int) (hnl : 0 ≤ nl ∧ nl ≤ 14) (hi : -2147483648 ≤ i ∧ i < 2147483648) (hc : -2147483648 ≤ c ∧ c < 2147483648) : CtE G l yX11_make_ cX11_make_ 7 (some .int) rmX11_make_ [.ref h, .int (iI i), .long x, .int (iI c)] [(h, .inr (9, [.ref a, .ref b, .ref tk, .ref re, .ref qu, .int (iI hd), .int (iI tl), .ref nm, .int (iI nl)])), (a, .inl (gI G, 4096, .inl (arI dk))), (b, .inl (gI G, 4096, .inl (arI d))), (re, .inl (gZ G, 32, .inl (arB r))), (qu, .inl (gI G, 32, .inl (arI q))), (tk, .inl (gZ G, 64, .inl (arB t0))), (nm, .inl (gI G, 14, .inl (arI nb)))] (fun e_ : Int × Int × Int × (Int → Bool) × Im × (Int → Bool) × Im × Im => (0 ≤ e_.2.2.1 ∧ e_.2.2.1 ≤ 14)) (fun e_ : Int × Int × Int × (Int → Bool) × Im × (Int → Bool) × Im × Im => (some (.int (iI (mkZ dk i c x))))) (fun e_ : Int × Int × Int × (Int → Bool) × Im × (Int → Bool) × Im × Im => [(h, .inr (9, [.ref a, .ref b, .ref tk, .ref re, .ref qu, .int (iI e_.1), .int (iI e_.2.1), .ref nm, .int (iI e_.2.2.1)])), (a, .inl (gI G, 4096, .inl (arI (mkG dk i c x)))), (b, .inl (gI G, 4096, .inl (arI e_.2.2.2.2.2.2.2))), (re, .inl (gZ G, 32, .inl (arB e_.2.2.2.1))), (qu, .inl (gI G, 32, .inl (arI e_.2.2.2.2.1))), (tk, .inl (gZ G, 64, .inl (arB e_.2.2.2.2.2.1))), (nm, .inl (gI G, 14, .inl (arI e_.2.2.2.2.2.2.1)))]) := by
  refine Ct.of (by decide) (Nat.le_of_ble_eq_true rfl) ?_
  intro k C hl hret
  subst hl
  refine w_lv (lv2 := [(0, .ref h), (1, .int (iI i)), (2, .long x), (4, .int (iI c))]) [0, 1, 2, 3] rfl ?_
  refine w_iload C 3 dX11_make__0 rfl ?_
  refine w_iconst C dX11_make__2 ?_
  refine w_icmp_lt C 21 dX11_make__3 rfl (by omega) (fun c_1 => ?_) (fun c_1 => ?_)
  · have hV : mkZ dk i c x = -1 := mz_c (by omega)
    refine w_ws (ws2 := [(h, .inr (9, [.ref a, .ref b, .ref tk, .ref re, .ref qu, .int (iI hd), .int (iI tl), .ref nm, .int (iI nl)])), (a, .inl (gI G, 4096, .inl (arI (mkG dk i c x)))), (b, .inl (gI G, 4096, .inl (arI d))), (re, .inl (gZ G, 32, .inl (arB r))), (qu, .inl (gI G, 32, .inl (arI q))), (tk, .inl (gZ G, 64, .inl (arB t0))), (nm, .inl (gI G, 14, .inl (arI nb)))]) (by unfold mkG; rw [if_pos hV]) ?_
    refine w_iconst C dX11_make__21 ?_
    exact w_reti hret dX11_make__22 rfl rfl rfl rfl ⟨(hd, tl, nl, r, q, t0, nb, d), (by first | exact hnl | exact hn3), congrArg (fun z => some (Value.int (iI z))) hV.symm, rfl⟩
  · refine w_iload C 3 dX11_make__6 rfl ?_
    refine w_iconst C dX11_make__8 ?_
    refine w_icmp_gt C 21 dX11_make__9 rfl (by omega) (fun c_2 => ?_) (fun c_2 => ?_)
    · have hV : mkZ dk i c x = -1 := mz_c (by omega)
      refine w_ws (ws2 := [(h, .inr (9, [.ref a, .ref b, .ref tk, .ref re, .ref qu, .int (iI hd), .int (iI tl), .ref nm, .int (iI nl)])), (a, .inl (gI G, 4096, .inl (arI (mkG dk i c x)))), (b, .inl (gI G, 4096, .inl (arI d))), (re, .inl (gZ G, 32, .inl (arB r))), (qu, .inl (gI G, 32, .inl (arI q))), (tk, .inl (gZ G, 64, .inl (arB t0))), (nm, .inl (gI G, 14, .inl (arI nb)))]) (by unfold mkG; rw [if_pos hV]) ?_
      refine w_iconst C dX11_make__21 ?_
      exact w_reti hret dX11_make__22 rfl rfl rfl rfl ⟨(hd, tl, nl, r, q, t0, nb, d), (by first | exact hnl | exact hn3), congrArg (fun z => some (Value.int (iI z))) hV.symm, rfl⟩
    · refine w_aload_n C 0 dX11_make__12 rfl ?_
      refine w_iload_n C 1 dX11_make__13 rfl ?_
      refine w_lload_n C 2 dX11_make__14 rfl ?_
      refine w_callVE (E := Int × Int × Int × (Int → Bool) × Im × (Int → Bool) × Im) (As := [.int (iI i), .long x]) (rest := []) (w2 := (fun e_ : Int × Int × Int × (Int → Bool) × Im × (Int → Bool) × Im => [(h, .inr (9, [.ref a, .ref b, .ref tk, .ref re, .ref qu, .int (iI e_.1), .int (iI e_.2.1), .ref nm, .int (iI e_.2.2.1)])), (a, .inl (gI G, 4096, .inl (arI dk))), (b, .inl (gI G, 4096, .inl (arI (paD dk)))), (re, .inl (gZ G, 32, .inl (arB e_.2.2.2.1))), (qu, .inl (gI G, 32, .inl (arI e_.2.2.2.2.1))), (tk, .inl (gZ G, 64, .inl (arB e_.2.2.2.2.2.1))), (nm, .inl (gI G, 14, .inl (arI e_.2.2.2.2.2.2)))])) (st2 := (fun e_ : Int × Int × Int × (Int → Bool) × Im × (Int → Bool) × Im => [.int (iI (bI (mpB dk i x)))])) C (ct_X11_mayPut G (kl k) h a b tk re qu nm hd tl nl dk d r q t0 nb i x (by omega) (by omega)) gX11_209 dX11_make__15 0 rfl rfl rfl rfl rfl (Nat.le_of_ble_eq_true rfl) (by decide) [0, 1, 2, 3, 4, 5, 6] rfl (by decide) [h, a, b, re, qu, tk, nm] (fun _ => rfl) rfl (fun _ => rfl) (fun _ => rfl) ?_
      rintro ⟨hd3, tl3, n3, r3, q3, t3, nb3⟩ ⟨hn3, hP3, hM3⟩
      try dsimp only at hn3 hP3 hM3
      show Wd G k 7 _ _ [(h, .inr (9, [.ref a, .ref b, .ref tk, .ref re, .ref qu, .int (iI hd3), .int (iI tl3), .ref nm, .int (iI n3)])), (a, .inl (gI G, 4096, .inl (arI dk))), (b, .inl (gI G, 4096, .inl (arI (paD dk)))), (re, .inl (gZ G, 32, .inl (arB r3))), (qu, .inl (gI G, 32, .inl (arI q3))), (tk, .inl (gZ G, 64, .inl (arB t3))), (nm, .inl (gI G, 14, .inl (arI nb3)))] 18 [(0, .ref h), (1, .int (iI i)), (2, .long x), (4, .int (iI c))] [.int (iI (bI (mpB dk i x)))]
      refine w_bnz C 23 dX11_make__18 rfl (fun c_3 => ?_) (fun c_3 => ?_)
      · have hm9 := c_3
        have hcc : c = 1 ∨ c = 2 := by omega
        have hz9 := mp_z hm9
        have hN := ck_X hz9.1
        have P9 := hP3 hN
        have m9 : n3 = nlZ x ∧ nmE nb3 (nmZ x) n3 := hM3 hm9
        have hdk := (wm_t hz9.2).1
        have hdr : drI (plZ dk) i := ⟨by have z2 := kd_R (d := plZ dk) (i := i) (by omega); rcases (show i = 0 ∨ 1 ≤ i by omega) with z | z; (rw [z, P9.1.k0] at hdk; omega); exact z, by have z2 := kd_R (d := plZ dk) (i := i) (by omega); omega, hdk⟩
        have J_48 : ∀ (j : Int), ((j = 32 ∧ ffs (plZ dk) 29 3 = -1) ∨ (3 ≤ j ∧ j < 32 ∧ ffs (plZ dk) 29 3 = j ∧ kd (plZ dk) j = 0)) → Wd G k 7 0 0 [(h, .inr (9, [.ref a, .ref b, .ref tk, .ref re, .ref qu, .int (iI hd3), .int (iI tl3), .ref nm, .int (iI n3)])), (a, .inl (gI G, 4096, .inl (arI dk))), (b, .inl (gI G, 4096, .inl (arI (plZ dk)))), (re, .inl (gZ G, 32, .inl (arB r3))), (qu, .inl (gI G, 32, .inl (arI q3))), (tk, .inl (gZ G, 64, .inl (arB t3))), (nm, .inl (gI G, 14, .inl (arI nb3)))] 48 [(0, .ref h), (1, .int (iI i)), (2, .long x), (4, .int (iI c)), (5, .int (iI j))] [] := by
          intro j hJ
          refine w_iload C 4 dX11_make__48 rfl ?_
          refine w_bipush C dX11_make__50 (by decide) ?_
          refine w_icmp_ne C 57 dX11_make__52 rfl (by omega) (fun c_4 => ?_) (fun c_4 => ?_)
          · have j9 : 3 ≤ j ∧ j < 32 := by omega
            have hf9 : ffs (plZ dk) 29 3 = j := by omega
            have hk9 : kd (plZ dk) j = 0 := by omega
            have b9 : (plZ dk).1 (512 + 16 * j) = 0 := by have w := hk9; rw [kd_at (by omega), show 512 + j * 16 = 512 + 16 * j by omega] at w; exact w
            have J_148 : ∀ (y : Im) (nb5 : Im) (n5 : Int) (t5 : Int → Bool), (MJ (pzC dk).1 (plZ dk) y i j c) → ((n5 = nlZ x ∧ nmE nb5 (nmZ x) n5) ∧ 0 ≤ n5 ∧ n5 ≤ 14) → Wd G k 7 0 0 [(h, .inr (9, [.ref a, .ref b, .ref tk, .ref re, .ref qu, .int (iI hd3), .int (iI tl3), .ref nm, .int (iI n5)])), (a, .inl (gI G, 4096, .inl (arI dk))), (b, .inl (gI G, 4096, .inl (arI y))), (re, .inl (gZ G, 32, .inl (arB r3))), (qu, .inl (gI G, 32, .inl (arI q3))), (tk, .inl (gZ G, 64, .inl (arB t5))), (nm, .inl (gI G, 14, .inl (arI nb5)))] 148 [(0, .ref h), (1, .int (iI i)), (2, .long x), (4, .int (iI c)), (5, .int (iI j))] [] := by
              intro y nb5 n5 t5 jM jn
              have jW := jM.2.2.1
              have E9 := en_WF (nb := nb5) (n := n5) jW jM.2.2.2.2.1 jM.2.2.2.1 jM.2.2.2.2.2 jn.2
              have ez := mz_e hm9 hcc (by omega)
              have e2 := ez.2 jM.2.1
              rw [if_neg jM.2.1, ← jM.1] at ez
              rw [← jM.1] at e2
              have en9 := en_E (tm := c2T (pzC dk).1 (plZ dk) c) (d := y) (D := i) (i := j) jn.1.2
              have jd1 := jM.2.2.2.2.1
              refine w_aload_n C 0 dX11_make__148 rfl ?_
              refine w_iload_n C 1 dX11_make__149 rfl ?_
              refine w_iload C 4 dX11_make__150 rfl ?_
              refine w_callVE (E := (Int → Bool)) (As := [.int (iI i), .int (iI j)]) (rest := []) (w2 := (fun e_ : (Int → Bool) => [(h, .inr (9, [.ref a, .ref b, .ref tk, .ref re, .ref qu, .int (iI hd3), .int (iI tl3), .ref nm, .int (iI n5)])), (a, .inl (gI G, 4096, .inl (arI dk))), (b, .inl (gI G, 4096, .inl (arI (enD (c2T (pzC dk).1 (plZ dk) c) y i j nb5 n5)))), (re, .inl (gZ G, 32, .inl (arB r3))), (qu, .inl (gI G, 32, .inl (arI q3))), (tk, .inl (gZ G, 64, .inl (arB e_))), (nm, .inl (gI G, 14, .inl (arI nb5)))])) (st2 := (fun e_ : (Int → Bool) => [.int (iI (bI (decide (¬ rmR (c2T (pzC dk).1 (plZ dk) c) y i = -1))))])) C (ct_X11_putEntry G (kl k) h a b tk re qu nm hd3 tl3 n5 y t5 (c2T (pzC dk).1 (plZ dk) c) nb5 i j jW jd1 (by omega) jn.2) gX11_136 dX11_make__152 0 rfl rfl rfl rfl rfl (Nat.le_of_ble_eq_true rfl) (by decide) [0, 2, 5, 6] rfl (by decide) [h, b, tk, nm] (fun _ => rfl) rfl (fun _ => rfl) (fun _ => rfl) ?_
              intro t6 hu
              show Wd G k 7 _ _ [(h, .inr (9, [.ref a, .ref b, .ref tk, .ref re, .ref qu, .int (iI hd3), .int (iI tl3), .ref nm, .int (iI n5)])), (a, .inl (gI G, 4096, .inl (arI dk))), (b, .inl (gI G, 4096, .inl (arI (enD (c2T (pzC dk).1 (plZ dk) c) y i j nb5 n5)))), (re, .inl (gZ G, 32, .inl (arB r3))), (qu, .inl (gI G, 32, .inl (arI q3))), (tk, .inl (gZ G, 64, .inl (arB t6))), (nm, .inl (gI G, 14, .inl (arI nb5)))] 155 [(0, .ref h), (1, .int (iI i)), (2, .long x), (4, .int (iI c)), (5, .int (iI j))] [.int (iI (bI (decide (¬ rmR (c2T (pzC dk).1 (plZ dk) c) y i = -1))))]
              refine w_bnz C 160 dX11_make__155 rfl (fun c_5 => ?_) (fun c_5 => ?_)
              · have hr9 : ¬ rmR (c2T (pzC dk).1 (plZ dk) c) y i = -1 := of_decide_eq_true c_5
                have hV : mkZ dk i c x = j := by rw [ez.1, if_neg hr9]; omega
                refine w_aload_n C 0 dX11_make__160 rfl ?_
                refine w_callVE (E := (Int → Bool)) (As := []) (rest := []) (w2 := (fun e_ : (Int → Bool) => [(h, .inr (9, [.ref a, .ref b, .ref tk, .ref re, .ref qu, .int (iI hd3), .int (iI tl3), .ref nm, .int (iI n5)])), (a, .inl (gI G, 4096, .inl (arI dk))), (b, .inl (gI G, 4096, .inl (arI (stD (rmT (c2T (pzC dk).1 (plZ dk) c) y i) (enD (c2T (pzC dk).1 (plZ dk) c) y i j nb5 n5))))), (re, .inl (gZ G, 32, .inl (arB r3))), (qu, .inl (gI G, 32, .inl (arI q3))), (tk, .inl (gZ G, 64, .inl (arB e_))), (nm, .inl (gI G, 14, .inl (arI nb5)))])) (st2 := (fun e_ : (Int → Bool) => [])) C (ct_X11_finish G (kl k) h a b tk re qu nm hd3 tl3 n5 (enD (c2T (pzC dk).1 (plZ dk) c) y i j nb5 n5) t6 (rmT (c2T (pzC dk).1 (plZ dk) c) y i) E9.1 (DE.R E9.2.1)) gX11_170 dX11_make__161 0 rfl rfl rfl rfl rfl (Nat.le_of_ble_eq_true rfl) (by decide) [0, 2, 5] rfl (by decide) [h, b, tk] (fun _ => rfl) rfl (fun _ => rfl) (fun _ => rfl) ?_
                intro t7 hu7
                show Wd G k 7 _ _ [(h, .inr (9, [.ref a, .ref b, .ref tk, .ref re, .ref qu, .int (iI hd3), .int (iI tl3), .ref nm, .int (iI n5)])), (a, .inl (gI G, 4096, .inl (arI dk))), (b, .inl (gI G, 4096, .inl (arI (stD (rmT (c2T (pzC dk).1 (plZ dk) c) y i) (enD (c2T (pzC dk).1 (plZ dk) c) y i j nb5 n5))))), (re, .inl (gZ G, 32, .inl (arB r3))), (qu, .inl (gI G, 32, .inl (arI q3))), (tk, .inl (gZ G, 64, .inl (arB t7))), (nm, .inl (gI G, 14, .inl (arI nb5)))] 164 [(0, .ref h), (1, .int (iI i)), (2, .long x), (4, .int (iI c)), (5, .int (iI j))] []
                refine w_aload_n C 0 dX11_make__164 rfl ?_
                refine w_callV (As := []) (rest := []) (w2 := [(h, .inr (9, [.ref a, .ref b, .ref tk, .ref re, .ref qu, .int (iI hd3), .int (iI tl3), .ref nm, .int (iI n5)])), (a, .inl (gI G, 4096, .inl (arI (stD (rmT (c2T (pzC dk).1 (plZ dk) c) y i) (enD (c2T (pzC dk).1 (plZ dk) c) y i j nb5 n5))))), (b, .inl (gI G, 4096, .inl (arI (stD (rmT (c2T (pzC dk).1 (plZ dk) c) y i) (enD (c2T (pzC dk).1 (plZ dk) c) y i j nb5 n5))))), (re, .inl (gZ G, 32, .inl (arB r3))), (qu, .inl (gI G, 32, .inl (arI q3))), (tk, .inl (gZ G, 64, .inl (arB t7))), (nm, .inl (gI G, 14, .inl (arI nb5)))]) (st2 := []) C (ct_X11_store G (kl k) h a b tk re qu nm hd3 tl3 n5 dk (stD (rmT (c2T (pzC dk).1 (plZ dk) c) y i) (enD (c2T (pzC dk).1 (plZ dk) c) y i j nb5 n5))) gX11_176 dX11_make__165 0 rfl rfl rfl rfl rfl (Nat.le_of_ble_eq_true rfl) (by decide) [0, 1, 2] rfl (by decide) [h, a, b] rfl rfl rfl rfl ?_
                refine w_ws (ws2 := [(h, .inr (9, [.ref a, .ref b, .ref tk, .ref re, .ref qu, .int (iI hd3), .int (iI tl3), .ref nm, .int (iI n5)])), (a, .inl (gI G, 4096, .inl (arI (mkG dk i c x)))), (b, .inl (gI G, 4096, .inl (arI (stD (rmT (c2T (pzC dk).1 (plZ dk) c) y i) (enD (c2T (pzC dk).1 (plZ dk) c) y i j nb5 n5))))), (re, .inl (gZ G, 32, .inl (arB r3))), (qu, .inl (gI G, 32, .inl (arI q3))), (tk, .inl (gZ G, 64, .inl (arB t7))), (nm, .inl (gI G, 14, .inl (arI nb5)))]) (by unfold mkG; rw [if_neg (by omega), e2.1, e2.2, hf9, en9, jn.1.1]) ?_
                refine w_iload C 4 dX11_make__168 rfl ?_
                exact w_reti hret dX11_make__170 rfl rfl rfl rfl ⟨(hd3, tl3, n5, r3, q3, t7, nb5, stD (rmT (c2T (pzC dk).1 (plZ dk) c) y i) (enD (c2T (pzC dk).1 (plZ dk) c) y i j nb5 n5)), jn.2, congrArg (fun z => some (Value.int (iI z))) hV.symm, rfl⟩
              · have hr9 : rmR (c2T (pzC dk).1 (plZ dk) c) y i = -1 := by have w := c_5; rw [decide_eq_false_iff_not] at w; exact Classical.not_not.mp w
                have hV : mkZ dk i c x = -1 := by rw [ez.1, if_pos hr9]
                refine w_ws (ws2 := [(h, .inr (9, [.ref a, .ref b, .ref tk, .ref re, .ref qu, .int (iI hd3), .int (iI tl3), .ref nm, .int (iI n5)])), (a, .inl (gI G, 4096, .inl (arI (mkG dk i c x)))), (b, .inl (gI G, 4096, .inl (arI (enD (c2T (pzC dk).1 (plZ dk) c) y i j nb5 n5)))), (re, .inl (gZ G, 32, .inl (arB r3))), (qu, .inl (gI G, 32, .inl (arI q3))), (tk, .inl (gZ G, 64, .inl (arB t6))), (nm, .inl (gI G, 14, .inl (arI nb5)))]) (by unfold mkG; rw [if_pos hV]) ?_
                refine w_iconst C dX11_make__158 ?_
                exact w_reti hret dX11_make__159 rfl rfl rfl rfl ⟨(hd3, tl3, n5, r3, q3, t6, nb5, enD (c2T (pzC dk).1 (plZ dk) c) y i j nb5 n5), jn.2, congrArg (fun z => some (Value.int (iI z))) hV.symm, rfl⟩
            refine w_aload_n C 0 dX11_make__57 rfl ?_
            refine w_get C 0 1 847 dX11_make__58 rfl rfl inX11 (by decide) (by decide +kernel) rfl ?_
            refine w_iload C 4 dX11_make__61 rfl ?_
            refine w_callS (As := [.int (iI j)]) (rest := [.ref b]) (w2 := [(h, .inr (9, [.ref a, .ref b, .ref tk, .ref re, .ref qu, .int (iI hd3), .int (iI tl3), .ref nm, .int (iI n3)])), (a, .inl (gI G, 4096, .inl (arI dk))), (b, .inl (gI G, 4096, .inl (arI (plZ dk)))), (re, .inl (gZ G, 32, .inl (arB r3))), (qu, .inl (gI G, 32, .inl (arI q3))), (tk, .inl (gZ G, 64, .inl (arB t3))), (nm, .inl (gI G, 14, .inl (arI nb3)))]) (st2 := [.int (iI (512 + 16 * j)), .ref b]) C (ct_X11_base G (kl k) j) gX11_42 dX11_make__63 rfl rfl (Nat.le_of_ble_eq_true rfl) (by decide) [] rfl (by decide) [] rfl rfl rfl rfl ?_
            refine w_iload C 3 dX11_make__66 rfl ?_
            refine w_iast (ws2 := [(h, .inr (9, [.ref a, .ref b, .ref tk, .ref re, .ref qu, .int (iI hd3), .int (iI tl3), .ref nm, .int (iI n3)])), (a, .inl (gI G, 4096, .inl (arI dk))), (b, .inl (gI G, 4096, .inl (arI (up (plZ dk) (512 + 16 * j) c)))), (re, .inl (gZ G, 32, .inl (arB r3))), (qu, .inl (gI G, 32, .inl (arI q3))), (tk, .inl (gZ G, 64, .inl (arB t3))), (nm, .inl (gI G, 14, .inl (arI nb3)))]) C 2 dX11_make__68 rfl (by omega) (by omega) rfl ?_
            refine w_iload C 3 dX11_make__69 rfl ?_
            refine w_iconst C dX11_make__71 ?_
            refine w_icmp_ne C 148 dX11_make__72 rfl (by omega) (fun c_6 => ?_) (fun c_6 => ?_)
            · exact J_148 (up (plZ dk) (512 + 16 * j) c) nb3 n3 t3 (by first | exact mj_1 P9.1 P9.2.1 hf9 (by omega) hk9 hdr (by omega) | exact mj_2 _ _ P9.1 P9.2.1 hf9 (by omega) hk9 hdr (by omega) ht9) (by first | exact ⟨m9, hn3⟩ | exact ⟨⟨(un_E _ zIm x 8).1, by have w := (un_E (dotN (dotN nb3 1) 2) zIm x 8).2; rwa [← (un_E (dotN (dotN nb3 1) 2) zIm x 8).1] at w⟩, by have w := nm_un_rg (dotN (dotN nb3 1) 2) x 8; exact ⟨w.1, Int.le_trans w.2 (by decide)⟩⟩)
            · refine w_aload_n C 0 dX11_make__75 rfl ?_
              refine w_get C 0 1 847 dX11_make__76 rfl rfl inX11 (by decide) (by decide +kernel) rfl ?_
              refine w_iload C 4 dX11_make__79 rfl ?_
              refine w_callS (As := [.int (iI j)]) (rest := [.ref b]) (w2 := [(h, .inr (9, [.ref a, .ref b, .ref tk, .ref re, .ref qu, .int (iI hd3), .int (iI tl3), .ref nm, .int (iI n3)])), (a, .inl (gI G, 4096, .inl (arI dk))), (b, .inl (gI G, 4096, .inl (arI (up (plZ dk) (512 + 16 * j) c)))), (re, .inl (gZ G, 32, .inl (arB r3))), (qu, .inl (gI G, 32, .inl (arI q3))), (tk, .inl (gZ G, 64, .inl (arB t3))), (nm, .inl (gI G, 14, .inl (arI nb3)))]) (st2 := [.int (iI (512 + 16 * j)), .ref b]) C (ct_X11_base G (kl k) j) gX11_42 dX11_make__81 rfl rfl (Nat.le_of_ble_eq_true rfl) (by decide) [] rfl (by decide) [] rfl rfl rfl rfl ?_
              refine w_iconst C dX11_make__84 ?_
              refine w_iast (ws2 := [(h, .inr (9, [.ref a, .ref b, .ref tk, .ref re, .ref qu, .int (iI hd3), .int (iI tl3), .ref nm, .int (iI n3)])), (a, .inl (gI G, 4096, .inl (arI dk))), (b, .inl (gI G, 4096, .inl (arI (up (up (plZ dk) (512 + 16 * j) c) (512 + 16 * j) 0)))), (re, .inl (gZ G, 32, .inl (arB r3))), (qu, .inl (gI G, 32, .inl (arI q3))), (tk, .inl (gZ G, 64, .inl (arB t3))), (nm, .inl (gI G, 14, .inl (arI nb3)))]) C 2 dX11_make__85 rfl (by omega) (by omega) rfl ?_
              refine w_ws (ws2 := [(h, .inr (9, [.ref a, .ref b, .ref tk, .ref re, .ref qu, .int (iI hd3), .int (iI tl3), .ref nm, .int (iI n3)])), (a, .inl (gI G, 4096, .inl (arI dk))), (b, .inl (gI G, 4096, .inl (arI (plZ dk)))), (re, .inl (gZ G, 32, .inl (arB r3))), (qu, .inl (gI G, 32, .inl (arI q3))), (tk, .inl (gZ G, 64, .inl (arB t3))), (nm, .inl (gI G, 14, .inl (arI nb3)))]) (by rw [up_z b9]) ?_
              refine w_aload_n C 0 dX11_make__86 rfl ?_
              refine w_iconst C dX11_make__87 ?_
              refine w_callV (As := [.int (iI 0)]) (rest := []) (w2 := [(h, .inr (9, [.ref a, .ref b, .ref tk, .ref re, .ref qu, .int (iI hd3), .int (iI tl3), .ref nm, .int (iI n3)])), (a, .inl (gI G, 4096, .inl (arI dk))), (b, .inl (gI G, 4096, .inl (arI (plZ dk)))), (re, .inl (gZ G, 32, .inl (arB r3))), (qu, .inl (gI G, 32, .inl (arI q3))), (tk, .inl (gZ G, 64, .inl (arB (tbt ((pzC dk).1))))), (nm, .inl (gI G, 14, .inl (arI nb3)))]) (st2 := [.int (iI (frz ((pzC dk).1) 0))]) C (ct_X11_free G (kl k) h a b tk re qu nm hd3 tl3 n3 (plZ dk) t3 ((pzC dk).1) 0 P9.1 (by omega)) gX11_97 dX11_make__88 0 rfl rfl rfl rfl rfl (Nat.le_of_ble_eq_true rfl) (by decide) [0, 2, 5] rfl (by decide) [h, b, tk] rfl rfl rfl rfl ?_
              have f_7 := @frz_rg ((pzC dk).1) 0 (by omega)
              refine w_st (st2 := [.int (iI (tfB (pzC dk).1))]) (by rw [frz_0]) ?_
              refine w_istore (lv2 := [(0, .ref h), (1, .int (iI i)), (2, .long x), (4, .int (iI c)), (5, .int (iI j)), (6, .int (iI (tfB (pzC dk).1)))]) C dX11_make__91 (by decide) rfl ?_
              have r9 := tfB_rg (pzC dk).1
              refine w_iload C 5 dX11_make__93 rfl ?_
              refine w_iconst C dX11_make__95 ?_
              refine w_icmp_ne C 101 dX11_make__96 rfl (by omega) (fun c_8 => ?_) (fun c_8 => ?_)
              · have ht9 := c_8
                have hq9 : dat (tfB (pzC dk).1) := (tf_clr ht9).1
                have hi9 := hdr.1
                have hi8 := hdr.2.1
                refine w_aload_n C 0 dX11_make__101 rfl ?_
                refine w_iload C 4 dX11_make__102 rfl ?_
                refine w_iload C 5 dX11_make__104 rfl ?_
                refine w_callV (As := [.int (iI j), .int (iI (tfB (pzC dk).1))]) (rest := []) (w2 := [(h, .inr (9, [.ref a, .ref b, .ref tk, .ref re, .ref qu, .int (iI hd3), .int (iI tl3), .ref nm, .int (iI n3)])), (a, .inl (gI G, 4096, .inl (arI dk))), (b, .inl (gI G, 4096, .inl (arI (dirD (plZ dk) j (tfB (pzC dk).1))))), (re, .inl (gZ G, 32, .inl (arB r3))), (qu, .inl (gI G, 32, .inl (arI q3))), (tk, .inl (gZ G, 64, .inl (arB (tbt ((pzC dk).1))))), (nm, .inl (gI G, 14, .inl (arI nb3)))]) (st2 := []) C (ct_X11_directory G (kl k) h a b tk re qu nm hd3 tl3 n3 (plZ dk) j (tfB (pzC dk).1) (by omega) hq9) gX11_100 dX11_make__106 0 rfl rfl rfl rfl rfl (Nat.le_of_ble_eq_true rfl) (by decide) [0, 2] rfl (by decide) [h, b] rfl rfl rfl rfl ?_
                refine w_aload_n C 0 dX11_make__109 rfl ?_
                refine w_iconst C dX11_make__110 ?_
                refine w_st (st2 := [.int (iI ((1 : Int))), .ref h]) rfl ?_
                refine w_callV (As := [.int (iI ((1 : Int)))]) (rest := []) (w2 := [(h, .inr (9, [.ref a, .ref b, .ref tk, .ref re, .ref qu, .int (iI hd3), .int (iI tl3), .ref nm, .int (iI (1 : Int))])), (a, .inl (gI G, 4096, .inl (arI dk))), (b, .inl (gI G, 4096, .inl (arI (dirD (plZ dk) j (tfB (pzC dk).1))))), (re, .inl (gZ G, 32, .inl (arB r3))), (qu, .inl (gI G, 32, .inl (arI q3))), (tk, .inl (gZ G, 64, .inl (arB (tbt ((pzC dk).1))))), (nm, .inl (gI G, 14, .inl (arI (dotN nb3 ((1 : Int)).toNat))))]) (st2 := []) C (ct_X11_dots G (kl k) h a b tk re qu nm hd3 tl3 n3 nb3 ((1 : Int)) (by omega)) gX11_109 dX11_make__111 0 rfl rfl rfl rfl rfl (Nat.le_of_ble_eq_true rfl) (by decide) [0, 6] rfl (by decide) [h, nm] rfl rfl rfl rfl ?_
                refine w_aload_n C 0 dX11_make__114 rfl ?_
                refine w_bipush C dX11_make__115 (by decide) ?_
                refine w_iload C 5 dX11_make__117 rfl ?_
                refine w_imul C dX11_make__119 ?_
                refine w_iload C 4 dX11_make__120 rfl ?_
                refine w_callV (As := [.int (iI (64 * (tfB (pzC dk).1))), .int (iI j)]) (rest := []) (w2 := [(h, .inr (9, [.ref a, .ref b, .ref tk, .ref re, .ref qu, .int (iI hd3), .int (iI tl3), .ref nm, .int (iI (1 : Int))])), (a, .inl (gI G, 4096, .inl (arI dk))), (b, .inl (gI G, 4096, .inl (arI (we (dirD (plZ dk) j (tfB (pzC dk).1)) (64 * (tfB (pzC dk).1)) j (dotN nb3 ((1 : Int)).toNat) (1 : Int))))), (re, .inl (gZ G, 32, .inl (arB r3))), (qu, .inl (gI G, 32, .inl (arI q3))), (tk, .inl (gZ G, 64, .inl (arB (tbt ((pzC dk).1))))), (nm, .inl (gI G, 14, .inl (arI (dotN nb3 ((1 : Int)).toNat))))]) (st2 := []) C (ct_X11_write G (kl k) h a b tk re qu nm hd3 tl3 (1 : Int) (dirD (plZ dk) j (tfB (pzC dk).1)) (dotN nb3 ((1 : Int)).toNat) (64 * (tfB (pzC dk).1)) j (by omega) (by omega) (by omega)) gX11_112 dX11_make__122 0 rfl rfl rfl rfl rfl (Nat.le_of_ble_eq_true rfl) (by decide) [0, 2, 6] rfl (by decide) [h, b, nm] rfl rfl rfl rfl ?_
                refine w_aload_n C 0 dX11_make__125 rfl ?_
                refine w_iconst C dX11_make__126 ?_
                refine w_st (st2 := [.int (iI ((2 : Int))), .ref h]) rfl ?_
                refine w_callV (As := [.int (iI ((2 : Int)))]) (rest := []) (w2 := [(h, .inr (9, [.ref a, .ref b, .ref tk, .ref re, .ref qu, .int (iI hd3), .int (iI tl3), .ref nm, .int (iI (2 : Int))])), (a, .inl (gI G, 4096, .inl (arI dk))), (b, .inl (gI G, 4096, .inl (arI (we (dirD (plZ dk) j (tfB (pzC dk).1)) (64 * (tfB (pzC dk).1)) j (dotN nb3 ((1 : Int)).toNat) (1 : Int))))), (re, .inl (gZ G, 32, .inl (arB r3))), (qu, .inl (gI G, 32, .inl (arI q3))), (tk, .inl (gZ G, 64, .inl (arB (tbt ((pzC dk).1))))), (nm, .inl (gI G, 14, .inl (arI (dotN (dotN nb3 ((1 : Int)).toNat) ((2 : Int)).toNat))))]) (st2 := []) C (ct_X11_dots G (kl k) h a b tk re qu nm hd3 tl3 (1 : Int) (dotN nb3 ((1 : Int)).toNat) ((2 : Int)) (by omega)) gX11_109 dX11_make__127 0 rfl rfl rfl rfl rfl (Nat.le_of_ble_eq_true rfl) (by decide) [0, 6] rfl (by decide) [h, nm] rfl rfl rfl rfl ?_
                refine w_aload_n C 0 dX11_make__130 rfl ?_
                refine w_bipush C dX11_make__131 (by decide) ?_
                refine w_iload C 5 dX11_make__133 rfl ?_
                refine w_imul C dX11_make__135 ?_
                refine w_bipush C dX11_make__136 (by decide) ?_
                refine w_iadd C dX11_make__138 ?_
                refine w_iload_n C 1 dX11_make__139 rfl ?_
                refine w_callV (As := [.int (iI ((64 * (tfB (pzC dk).1)) + 16)), .int (iI i)]) (rest := []) (w2 := [(h, .inr (9, [.ref a, .ref b, .ref tk, .ref re, .ref qu, .int (iI hd3), .int (iI tl3), .ref nm, .int (iI (2 : Int))])), (a, .inl (gI G, 4096, .inl (arI dk))), (b, .inl (gI G, 4096, .inl (arI (we (we (dirD (plZ dk) j (tfB (pzC dk).1)) (64 * (tfB (pzC dk).1)) j (dotN nb3 ((1 : Int)).toNat) (1 : Int)) ((64 * (tfB (pzC dk).1)) + 16) i (dotN (dotN nb3 ((1 : Int)).toNat) ((2 : Int)).toNat) (2 : Int))))), (re, .inl (gZ G, 32, .inl (arB r3))), (qu, .inl (gI G, 32, .inl (arI q3))), (tk, .inl (gZ G, 64, .inl (arB (tbt ((pzC dk).1))))), (nm, .inl (gI G, 14, .inl (arI (dotN (dotN nb3 ((1 : Int)).toNat) ((2 : Int)).toNat))))]) (st2 := []) C (ct_X11_write G (kl k) h a b tk re qu nm hd3 tl3 (2 : Int) (we (dirD (plZ dk) j (tfB (pzC dk).1)) (64 * (tfB (pzC dk).1)) j (dotN nb3 ((1 : Int)).toNat) (1 : Int)) (dotN (dotN nb3 ((1 : Int)).toNat) ((2 : Int)).toNat) ((64 * (tfB (pzC dk).1)) + 16) i (by omega) (by omega) (by omega)) gX11_112 dX11_make__140 0 rfl rfl rfl rfl rfl (Nat.le_of_ble_eq_true rfl) (by decide) [0, 2, 6] rfl (by decide) [h, b, nm] rfl rfl rfl rfl ?_
                refine w_aload_n C 0 dX11_make__143 rfl ?_
                refine w_lload_n C 2 dX11_make__144 rfl ?_
                refine w_callV (As := [.long x]) (rest := []) (w2 := [(h, .inr (9, [.ref a, .ref b, .ref tk, .ref re, .ref qu, .int (iI hd3), .int (iI tl3), .ref nm, .int (iI ((nm_un (dotN (dotN nb3 ((1 : Int)).toNat) ((2 : Int)).toNat) x 8).2))])), (a, .inl (gI G, 4096, .inl (arI dk))), (b, .inl (gI G, 4096, .inl (arI (we (we (dirD (plZ dk) j (tfB (pzC dk).1)) (64 * (tfB (pzC dk).1)) j (dotN nb3 ((1 : Int)).toNat) (1 : Int)) ((64 * (tfB (pzC dk).1)) + 16) i (dotN (dotN nb3 ((1 : Int)).toNat) ((2 : Int)).toNat) (2 : Int))))), (re, .inl (gZ G, 32, .inl (arB r3))), (qu, .inl (gI G, 32, .inl (arI q3))), (tk, .inl (gZ G, 64, .inl (arB (tbt ((pzC dk).1))))), (nm, .inl (gI G, 14, .inl (arI ((nm_un (dotN (dotN nb3 ((1 : Int)).toNat) ((2 : Int)).toNat) x 8).1))))]) (st2 := []) C (ct_X11_nameOf G (kl k) h a b tk re qu nm hd3 tl3 (2 : Int) (dotN (dotN nb3 ((1 : Int)).toNat) ((2 : Int)).toNat) x) gX11_198 dX11_make__145 0 rfl rfl rfl rfl rfl (Nat.le_of_ble_eq_true rfl) (by decide) [0, 6] rfl (by decide) [h, nm] rfl rfl rfl rfl ?_
                refine w_lv (lv2 := [(0, .ref h), (1, .int (iI i)), (2, .long x), (4, .int (iI c)), (5, .int (iI j))]) [0, 1, 2, 3, 4] rfl ?_
                exact J_148 (we (we (dirD (plZ dk) j (tfB (pzC dk).1)) (64 * (tfB (pzC dk).1)) j (dotN nb3 ((1 : Int)).toNat) (1 : Int)) ((64 * (tfB (pzC dk).1)) + 16) i (dotN (dotN nb3 ((1 : Int)).toNat) ((2 : Int)).toNat) (2 : Int)) ((nm_un (dotN (dotN nb3 ((1 : Int)).toNat) ((2 : Int)).toNat) x 8).1) ((nm_un (dotN (dotN nb3 ((1 : Int)).toNat) ((2 : Int)).toNat) x 8).2) (tbt ((pzC dk).1)) (by first | exact mj_1 P9.1 P9.2.1 hf9 (by omega) hk9 hdr (by omega) | exact mj_2 _ _ P9.1 P9.2.1 hf9 (by omega) hk9 hdr (by omega) ht9) (by first | exact ⟨m9, hn3⟩ | exact ⟨⟨(un_E _ zIm x 8).1, by have w := (un_E (dotN (dotN nb3 1) 2) zIm x 8).2; rwa [← (un_E (dotN (dotN nb3 1) 2) zIm x 8).1] at w⟩, by have w := nm_un_rg (dotN (dotN nb3 1) 2) x 8; exact ⟨w.1, Int.le_trans w.2 (by decide)⟩⟩)
              · have x9 := mj_x P9.1 hf9 j9 hk9 (by omega) c_8
                have hV : mkZ dk i c x = -1 := by have w := (mz_e hm9 hcc (by omega)).1; rw [if_pos x9] at w; exact w
                refine w_ws (ws2 := [(h, .inr (9, [.ref a, .ref b, .ref tk, .ref re, .ref qu, .int (iI hd3), .int (iI tl3), .ref nm, .int (iI n3)])), (a, .inl (gI G, 4096, .inl (arI (mkG dk i c x)))), (b, .inl (gI G, 4096, .inl (arI (plZ dk)))), (re, .inl (gZ G, 32, .inl (arB r3))), (qu, .inl (gI G, 32, .inl (arI q3))), (tk, .inl (gZ G, 64, .inl (arB (tbt ((pzC dk).1))))), (nm, .inl (gI G, 14, .inl (arI nb3)))]) (by unfold mkG; rw [if_pos hV]) ?_
                refine w_iconst C dX11_make__99 ?_
                exact w_reti hret dX11_make__100 rfl rfl rfl rfl ⟨(hd3, tl3, n3, r3, q3, tbt ((pzC dk).1), nb3, plZ dk), hn3, congrArg (fun z => some (Value.int (iI z))) hV.symm, rfl⟩
          · have hV : mkZ dk i c x = -1 := mz_f (by omega)
            refine w_ws (ws2 := [(h, .inr (9, [.ref a, .ref b, .ref tk, .ref re, .ref qu, .int (iI hd3), .int (iI tl3), .ref nm, .int (iI n3)])), (a, .inl (gI G, 4096, .inl (arI (mkG dk i c x)))), (b, .inl (gI G, 4096, .inl (arI (plZ dk)))), (re, .inl (gZ G, 32, .inl (arB r3))), (qu, .inl (gI G, 32, .inl (arI q3))), (tk, .inl (gZ G, 64, .inl (arB t3))), (nm, .inl (gI G, 14, .inl (arI nb3)))]) (by unfold mkG; rw [if_pos hV]) ?_
            refine w_iconst C dX11_make__55 ?_
            exact w_reti hret dX11_make__56 rfl rfl rfl rfl ⟨(hd3, tl3, n3, r3, q3, t3, nb3, plZ dk), hn3, congrArg (fun z => some (Value.int (iI z))) hV.symm, rfl⟩
        refine w_ws (ws2 := [(h, .inr (9, [.ref a, .ref b, .ref tk, .ref re, .ref qu, .int (iI hd3), .int (iI tl3), .ref nm, .int (iI n3)])), (a, .inl (gI G, 4096, .inl (arI dk))), (b, .inl (gI G, 4096, .inl (arI (plZ dk)))), (re, .inl (gZ G, 32, .inl (arB r3))), (qu, .inl (gI G, 32, .inl (arI q3))), (tk, .inl (gZ G, 64, .inl (arB t3))), (nm, .inl (gI G, 14, .inl (arI nb3)))]) (by rw [pa_X hN]) ?_
        refine w_iconst C dX11_make__23 ?_
        refine w_istore (lv2 := [(0, .ref h), (1, .int (iI i)), (2, .long x), (4, .int (iI c)), (5, .int (iI 3))]) C dX11_make__24 (by decide) rfl ?_
        have L_26 : ∀ (nn_26 : Nat) (j : Int), (3 ≤ j ∧ j ≤ 32) → (ffs (plZ dk) 29 3 = ffs (plZ dk) (32 - j).toNat j) → (32 - j).toNat = nn_26 → Wd G k 7 0 0 [(h, .inr (9, [.ref a, .ref b, .ref tk, .ref re, .ref qu, .int (iI hd3), .int (iI tl3), .ref nm, .int (iI n3)])), (a, .inl (gI G, 4096, .inl (arI dk))), (b, .inl (gI G, 4096, .inl (arI (plZ dk)))), (re, .inl (gZ G, 32, .inl (arB r3))), (qu, .inl (gI G, 32, .inl (arI q3))), (tk, .inl (gZ G, 64, .inl (arB t3))), (nm, .inl (gI G, 14, .inl (arI nb3)))] 26 [(0, .ref h), (1, .int (iI i)), (2, .long x), (4, .int (iI c)), (5, .int (iI j))] [] := by
          intro nn_26
          induction nn_26 using Nat.strongRecOn with
          | ind nn_26 ih_26 =>
            intro j h1 hp hm_26
            refine w_iload C 4 dX11_make__26 rfl ?_
            refine w_bipush C dX11_make__28 (by decide) ?_
            refine w_icmp_ge C 48 dX11_make__30 rfl (by omega) (fun c_9 => ?_) (fun c_9 => ?_)
            · exact J_48 j (by have w9 := kd_rg (plZ dk) j; first | exact Or.inl ⟨by omega, by rw [hp, show (32 - j).toNat = 0 by omega, ffs]⟩ | exact Or.inr ⟨by omega, by omega, by rw [hp, show (32 - j).toNat = (32 - (j + 1)).toNat + 1 by omega, ffs, if_pos (by omega)], by omega⟩)
            · refine w_aload_n C 0 dX11_make__33 rfl ?_
              refine w_iload C 4 dX11_make__34 rfl ?_
              refine w_callV (As := [.int (iI j)]) (rest := []) (w2 := [(h, .inr (9, [.ref a, .ref b, .ref tk, .ref re, .ref qu, .int (iI hd3), .int (iI tl3), .ref nm, .int (iI n3)])), (a, .inl (gI G, 4096, .inl (arI dk))), (b, .inl (gI G, 4096, .inl (arI (plZ dk)))), (re, .inl (gZ G, 32, .inl (arB r3))), (qu, .inl (gI G, 32, .inl (arI q3))), (tk, .inl (gZ G, 64, .inl (arB t3))), (nm, .inl (gI G, 14, .inl (arI nb3)))]) (st2 := [.int (iI (kd (plZ dk) j))]) C (ct_X11_kind G (kl k) h a b tk re qu nm hd3 tl3 n3 (plZ dk) j (by omega)) gX11_62 dX11_make__36 0 rfl rfl rfl rfl rfl (Nat.le_of_ble_eq_true rfl) (by decide) [0, 2] rfl (by decide) [h, b] rfl rfl rfl rfl ?_
              have f_10 := kd_rg (plZ dk) j
              refine w_if_le C 48 dX11_make__39 rfl (by omega) (fun c_11 => ?_) (fun c_11 => ?_)
              · exact J_48 j (by have w9 := kd_rg (plZ dk) j; first | exact Or.inl ⟨by omega, by rw [hp, show (32 - j).toNat = 0 by omega, ffs]⟩ | exact Or.inr ⟨by omega, by omega, by rw [hp, show (32 - j).toNat = (32 - (j + 1)).toNat + 1 by omega, ffs, if_pos (by omega)], by omega⟩)
              · refine w_iinc (lv2 := [(0, .ref h), (1, .int (iI i)), (2, .long x), (4, .int (iI c)), (5, .int (iI (j + 1)))]) C 4 dX11_make__42 rfl (by decide) rfl ?_
                refine w_goto C 26 dX11_make__45 rfl ?_
                exact ih_26 _ (by omega) (j + 1) (by omega) (by have w9 := kd_rg (plZ dk) j; rw [hp, show (32 - j).toNat = (32 - (j + 1)).toNat + 1 by omega, ffs, if_neg (by omega)]) rfl
        exact L_26 _ 3 (by omega) (by rw [show ((32 : Int) - 3).toNat = 29 from rfl]) rfl
      · have hV : mkZ dk i c x = -1 := mz_m c_3
        refine w_ws (ws2 := [(h, .inr (9, [.ref a, .ref b, .ref tk, .ref re, .ref qu, .int (iI hd3), .int (iI tl3), .ref nm, .int (iI n3)])), (a, .inl (gI G, 4096, .inl (arI (mkG dk i c x)))), (b, .inl (gI G, 4096, .inl (arI (paD dk)))), (re, .inl (gZ G, 32, .inl (arB r3))), (qu, .inl (gI G, 32, .inl (arI q3))), (tk, .inl (gZ G, 64, .inl (arB t3))), (nm, .inl (gI G, 14, .inl (arI nb3)))]) (by unfold mkG; rw [if_pos hV]) ?_
        refine w_iconst C dX11_make__21 ?_
        exact w_reti hret dX11_make__22 rfl rfl rfl rfl ⟨(hd3, tl3, n3, r3, q3, t3, nb3, paD dk), (by first | exact hnl | exact hn3), congrArg (fun z => some (Value.int (iI z))) hV.symm, rfl⟩
