theorem gX11_205 : cwv RX11 205 yX11_check cX11_check 1 (some .int) 0 1106 1076 1077 74 1078 := by decide +kernel
theorem gX11_198 : cwv RX11 198 yX11_nameOf cX11_nameOf 5 none 1 1093 1095 62 74 1096 := by decide +kernel
set_option maxHeartbeats 4000000 in
set_option maxRecDepth 100000 in
theorem ct_X11_mayPut (G : GX) (l : Launch) (h : Nat) (a : Nat) (b : Nat) (tk : Nat) (re : Nat) (qu : Nat) (nm : Nat) (hd : Int) (tl : Int) (nl : Int) (dk : Im) (d : Im) (r : Int → Bool) (q : Im) (t0 : Int → Bool) (nb : Im) (i : Int) (x : Int64) (hnl : 0 ≤ nl ∧ nl ≤ 14) (hi : -2147483648 ≤ i ∧ i < 2147483648) : CtE G l yX11_mayPut cX11_mayPut 7 (some .boolean) rmX11_mayPut [.ref h, .int (iI i), .long x] [(h, .inr (9, [.ref a, .ref b, .ref tk, .ref re, .ref qu, .int (iI hd), .int (iI tl), .ref nm, .int (iI nl)])), (a, .inl (gI G, 4096, .inl (arI dk))), (b, .inl (gI G, 4096, .inl (arI d))), (re, .inl (gZ G, 32, .inl (arB r))), (qu, .inl (gI G, 32, .inl (arI q))), (tk, .inl (gZ G, 64, .inl (arB t0))), (nm, .inl (gI G, 14, .inl (arI nb)))] (fun e_ : Int × Int × Int × (Int → Bool) × Im × (Int → Bool) × Im => (0 ≤ e_.2.2.1 ∧ e_.2.2.1 ≤ 14) ∧ (¬ plX dk → PK dk) ∧ (mpB dk i x = true → e_.2.2.1 = nlZ x ∧ nmE e_.2.2.2.2.2.2 (nmZ x) e_.2.2.1)) (fun e_ : Int × Int × Int × (Int → Bool) × Im × (Int → Bool) × Im => (some (.int (iI (bI (mpB dk i x)))))) (fun e_ : Int × Int × Int × (Int → Bool) × Im × (Int → Bool) × Im => [(h, .inr (9, [.ref a, .ref b, .ref tk, .ref re, .ref qu, .int (iI e_.1), .int (iI e_.2.1), .ref nm, .int (iI e_.2.2.1)])), (a, .inl (gI G, 4096, .inl (arI dk))), (b, .inl (gI G, 4096, .inl (arI (paD dk)))), (re, .inl (gZ G, 32, .inl (arB e_.2.2.2.1))), (qu, .inl (gI G, 32, .inl (arI e_.2.2.2.2.1))), (tk, .inl (gZ G, 64, .inl (arB e_.2.2.2.2.2.1))), (nm, .inl (gI G, 14, .inl (arI e_.2.2.2.2.2.2)))]) := by
  refine Ct.of (by decide) (Nat.le_of_ble_eq_true rfl) ?_
  intro k C hl hret
  subst hl
  refine w_lv (lv2 := [(0, .ref h), (1, .int (iI i)), (2, .long x)]) [0, 1, 2] rfl ?_
  refine w_aload_n C 0 dX11_mayPut_0 rfl ?_
  refine w_callVE (E := Int × Int × Int × (Int → Bool) × Im × (Int → Bool) × Im) (As := []) (rest := []) (w2 := (fun e_ : Int × Int × Int × (Int → Bool) × Im × (Int → Bool) × Im => [(h, .inr (9, [.ref a, .ref b, .ref tk, .ref re, .ref qu, .int (iI e_.1), .int (iI e_.2.1), .ref nm, .int (iI e_.2.2.1)])), (a, .inl (gI G, 4096, .inl (arI dk))), (b, .inl (gI G, 4096, .inl (arI (paD dk)))), (re, .inl (gZ G, 32, .inl (arB e_.2.2.2.1))), (qu, .inl (gI G, 32, .inl (arI e_.2.2.2.2.1))), (tk, .inl (gZ G, 64, .inl (arB e_.2.2.2.2.2.1))), (nm, .inl (gI G, 14, .inl (arI e_.2.2.2.2.2.2)))])) (st2 := (fun e_ : Int × Int × Int × (Int → Bool) × Im × (Int → Bool) × Im => [.int (iI (ckZ dk))])) C (ct_X11_check G (kl k) h a b tk re qu nm hd tl nl dk d r q t0 nb (by omega)) gX11_205 dX11_mayPut_1 0 rfl rfl rfl rfl rfl (Nat.le_of_ble_eq_true rfl) (by decide) [0, 1, 2, 3, 4, 5, 6] rfl (by decide) [h, a, b, re, qu, tk, nm] (fun _ => rfl) rfl (fun _ => rfl) (fun _ => rfl) ?_
  rintro ⟨hd3, tl3, n3, r3, q3, t3, nb3⟩ ⟨hn3, hP3⟩
  try dsimp only at hn3 hP3
  show Wd G k 7 _ _ [(h, .inr (9, [.ref a, .ref b, .ref tk, .ref re, .ref qu, .int (iI hd3), .int (iI tl3), .ref nm, .int (iI n3)])), (a, .inl (gI G, 4096, .inl (arI dk))), (b, .inl (gI G, 4096, .inl (arI (paD dk)))), (re, .inl (gZ G, 32, .inl (arB r3))), (qu, .inl (gI G, 32, .inl (arI q3))), (tk, .inl (gZ G, 64, .inl (arB t3))), (nm, .inl (gI G, 14, .inl (arI nb3)))] 4 [(0, .ref h), (1, .int (iI i)), (2, .long x)] [.int (iI (ckZ dk))]
  have ck9 := ckZ_rg dk
  refine w_if_ne C 33 dX11_mayPut_4 rfl (by omega) (fun c_1 => ?_) (fun c_1 => ?_)
  · have hV : mpB dk i x = false := mp_c c_1
    refine w_ws (ws2 := [(h, .inr (9, [.ref a, .ref b, .ref tk, .ref re, .ref qu, .int (iI hd3), .int (iI tl3), .ref nm, .int (iI n3)])), (a, .inl (gI G, 4096, .inl (arI dk))), (b, .inl (gI G, 4096, .inl (arI (paD dk)))), (re, .inl (gZ G, 32, .inl (arB r3))), (qu, .inl (gI G, 32, .inl (arI q3))), (tk, .inl (gZ G, 64, .inl (arB t3))), (nm, .inl (gI G, 14, .inl (arI nb3)))]) (by first | rfl | rw [pa_X hN]) ?_
    refine w_iconst C dX11_mayPut_33 ?_
    exact w_reti hret dX11_mayPut_34 rfl rfl rfl rfl ⟨(hd3, tl3, n3, r3, q3, t3, nb3), ⟨hn3, hP3, (fun w => by rw [hV] at w; cases w)⟩, congrArg (fun z => some (Value.int (iI z))) (by rw [hV]; rfl), rfl⟩
  · have hc9 : ckZ dk = 0 := c_1
    have hN := ck_X hc9
    have P9 := hP3 hN
    have r9 := nm_un_rg nb3 x 8
    refine w_ws (ws2 := [(h, .inr (9, [.ref a, .ref b, .ref tk, .ref re, .ref qu, .int (iI hd3), .int (iI tl3), .ref nm, .int (iI n3)])), (a, .inl (gI G, 4096, .inl (arI dk))), (b, .inl (gI G, 4096, .inl (arI (plZ dk)))), (re, .inl (gZ G, 32, .inl (arB r3))), (qu, .inl (gI G, 32, .inl (arI q3))), (tk, .inl (gZ G, 64, .inl (arB t3))), (nm, .inl (gI G, 14, .inl (arI nb3)))]) (by rw [pa_X hN]) ?_
    refine w_iload_n C 1 dX11_mayPut_7 rfl ?_
    refine w_iconst C dX11_mayPut_8 ?_
    refine w_icmp_lt C 33 dX11_mayPut_9 rfl (by omega) (fun c_2 => ?_) (fun c_2 => ?_)
    · have hV : mpB dk i x = false := mp_k (fun z => by have z2 := kd_R (d := plZ dk) (i := i) (by omega); have z3 := P9.1.k0; (rcases (show i = 0 by omega) with rfl; rw [z3] at z; omega))
      refine w_ws (ws2 := [(h, .inr (9, [.ref a, .ref b, .ref tk, .ref re, .ref qu, .int (iI hd3), .int (iI tl3), .ref nm, .int (iI n3)])), (a, .inl (gI G, 4096, .inl (arI dk))), (b, .inl (gI G, 4096, .inl (arI (paD dk)))), (re, .inl (gZ G, 32, .inl (arB r3))), (qu, .inl (gI G, 32, .inl (arI q3))), (tk, .inl (gZ G, 64, .inl (arB t3))), (nm, .inl (gI G, 14, .inl (arI nb3)))]) (by first | rfl | rw [pa_X hN]) ?_
      refine w_iconst C dX11_mayPut_33 ?_
      exact w_reti hret dX11_mayPut_34 rfl rfl rfl rfl ⟨(hd3, tl3, n3, r3, q3, t3, nb3), ⟨hn3, hP3, (fun w => by rw [hV] at w; cases w)⟩, congrArg (fun z => some (Value.int (iI z))) (by rw [hV]; rfl), rfl⟩
    · refine w_iload_n C 1 dX11_mayPut_12 rfl ?_
      refine w_bipush C dX11_mayPut_13 (by decide) ?_
      refine w_icmp_ge C 33 dX11_mayPut_15 rfl (by omega) (fun c_3 => ?_) (fun c_3 => ?_)
      · have hV : mpB dk i x = false := mp_k (fun z => by have z2 := kd_R (d := plZ dk) (i := i) (by omega); omega)
        refine w_ws (ws2 := [(h, .inr (9, [.ref a, .ref b, .ref tk, .ref re, .ref qu, .int (iI hd3), .int (iI tl3), .ref nm, .int (iI n3)])), (a, .inl (gI G, 4096, .inl (arI dk))), (b, .inl (gI G, 4096, .inl (arI (paD dk)))), (re, .inl (gZ G, 32, .inl (arB r3))), (qu, .inl (gI G, 32, .inl (arI q3))), (tk, .inl (gZ G, 64, .inl (arB t3))), (nm, .inl (gI G, 14, .inl (arI nb3)))]) (by first | rfl | rw [pa_X hN]) ?_
        refine w_iconst C dX11_mayPut_33 ?_
        exact w_reti hret dX11_mayPut_34 rfl rfl rfl rfl ⟨(hd3, tl3, n3, r3, q3, t3, nb3), ⟨hn3, hP3, (fun w => by rw [hV] at w; cases w)⟩, congrArg (fun z => some (Value.int (iI z))) (by rw [hV]; rfl), rfl⟩
      · refine w_aload_n C 0 dX11_mayPut_18 rfl ?_
        refine w_iload_n C 1 dX11_mayPut_19 rfl ?_
        refine w_callV (As := [.int (iI i)]) (rest := []) (w2 := [(h, .inr (9, [.ref a, .ref b, .ref tk, .ref re, .ref qu, .int (iI hd3), .int (iI tl3), .ref nm, .int (iI n3)])), (a, .inl (gI G, 4096, .inl (arI dk))), (b, .inl (gI G, 4096, .inl (arI (plZ dk)))), (re, .inl (gZ G, 32, .inl (arB r3))), (qu, .inl (gI G, 32, .inl (arI q3))), (tk, .inl (gZ G, 64, .inl (arB t3))), (nm, .inl (gI G, 14, .inl (arI nb3)))]) (st2 := [.int (iI (kd (plZ dk) i))]) C (ct_X11_kind G (kl k) h a b tk re qu nm hd3 tl3 n3 (plZ dk) i (by omega)) gX11_62 dX11_mayPut_20 0 rfl rfl rfl rfl rfl (Nat.le_of_ble_eq_true rfl) (by decide) [0, 2] rfl (by decide) [h, b] rfl rfl rfl rfl ?_
        have f_4 := kd_rg (plZ dk) i
        refine w_iconst C dX11_mayPut_23 ?_
        refine w_icmp_ne C 33 dX11_mayPut_24 rfl (by omega) (fun c_5 => ?_) (fun c_5 => ?_)
        · have hV : mpB dk i x = false := mp_k c_5
          refine w_ws (ws2 := [(h, .inr (9, [.ref a, .ref b, .ref tk, .ref re, .ref qu, .int (iI hd3), .int (iI tl3), .ref nm, .int (iI n3)])), (a, .inl (gI G, 4096, .inl (arI dk))), (b, .inl (gI G, 4096, .inl (arI (paD dk)))), (re, .inl (gZ G, 32, .inl (arB r3))), (qu, .inl (gI G, 32, .inl (arI q3))), (tk, .inl (gZ G, 64, .inl (arB t3))), (nm, .inl (gI G, 14, .inl (arI nb3)))]) (by first | rfl | rw [pa_X hN]) ?_
          refine w_iconst C dX11_mayPut_33 ?_
          exact w_reti hret dX11_mayPut_34 rfl rfl rfl rfl ⟨(hd3, tl3, n3, r3, q3, t3, nb3), ⟨hn3, hP3, (fun w => by rw [hV] at w; cases w)⟩, congrArg (fun z => some (Value.int (iI z))) (by rw [hV]; rfl), rfl⟩
        · have hdr : drI (plZ dk) i := ⟨by omega, by omega, c_5⟩
          refine w_lload_n C 2 dX11_mayPut_27 rfl ?_
          refine w_lconst (v := 0) C dX11_mayPut_28 (by decide) ?_
          refine w_lcmp C dX11_mayPut_29 ?_
          refine w_lnz C 35 dX11_mayPut_30 rfl (fun c_6 => ?_) (fun c_6 => ?_)
          · have hx9 : x ≠ 0 := c_6
            refine w_aload_n C 0 dX11_mayPut_35 rfl ?_
            refine w_lload_n C 2 dX11_mayPut_36 rfl ?_
            refine w_callV (As := [.long x]) (rest := []) (w2 := [(h, .inr (9, [.ref a, .ref b, .ref tk, .ref re, .ref qu, .int (iI hd3), .int (iI tl3), .ref nm, .int (iI ((nm_un nb3 x 8).2))])), (a, .inl (gI G, 4096, .inl (arI dk))), (b, .inl (gI G, 4096, .inl (arI (plZ dk)))), (re, .inl (gZ G, 32, .inl (arB r3))), (qu, .inl (gI G, 32, .inl (arI q3))), (tk, .inl (gZ G, 64, .inl (arB t3))), (nm, .inl (gI G, 14, .inl (arI ((nm_un nb3 x 8).1))))]) (st2 := []) C (ct_X11_nameOf G (kl k) h a b tk re qu nm hd3 tl3 n3 nb3 x) gX11_198 dX11_mayPut_37 0 rfl rfl rfl rfl rfl (Nat.le_of_ble_eq_true rfl) (by decide) [0, 6] rfl (by decide) [h, nm] rfl rfl rfl rfl ?_
            refine w_iconst C dX11_mayPut_40 ?_
            refine w_istore (lv2 := [(0, .ref h), (1, .int (iI i)), (2, .long x), (4, .int (iI 1))]) C dX11_mayPut_41 (by decide) rfl ?_
            refine w_aload_n C 0 dX11_mayPut_43 rfl ?_
            refine w_get C 0 8 854 dX11_mayPut_44 rfl rfl inX11 (by decide) (by decide +kernel) rfl ?_
            refine w_iconst C dX11_mayPut_47 ?_
            refine w_icmp_ge C 55 dX11_mayPut_48 rfl (by omega) (fun c_7 => ?_) (fun c_7 => ?_)
            · refine w_iconst C dX11_mayPut_55 ?_
              refine w_istore (lv2 := [(0, .ref h), (1, .int (iI i)), (2, .long x), (4, .int (iI 1)), (5, .int (iI 0))]) C dX11_mayPut_56 (by decide) rfl ?_
              refine w_iconst C dX11_mayPut_58 ?_
              refine w_istore (lv2 := [(0, .ref h), (1, .int (iI i)), (2, .long x), (4, .int (iI 1)), (5, .int (iI 0)), (6, .int (iI 0))]) C dX11_mayPut_59 (by decide) rfl ?_
              have L_61 : ∀ (nn_61 : Nat) (u : Int) (g : Int) (t : Int), (0 ≤ u ∧ u ≤ (nm_un nb3 x 8).2 ∧ (g = 0 ∨ g = 1) ∧ (t = 0 ∨ t = 1)) → (g = 1 ↔ ∀ j : Int, 0 ≤ j → j < u → ((nm_un nb3 x 8).1.1 j ≠ 0 ∧ (nm_un nb3 x 8).1.1 j ≠ 47)) → (t = 1 ↔ (nm_un nb3 x 8).2 < 3 ∧ ∀ j : Int, 0 ≤ j → j < u → (nm_un nb3 x 8).1.1 j = 46) → ((nm_un nb3 x 8).2 - u).toNat = nn_61 → Wd G k 7 0 0 [(h, .inr (9, [.ref a, .ref b, .ref tk, .ref re, .ref qu, .int (iI hd3), .int (iI tl3), .ref nm, .int (iI ((nm_un nb3 x 8).2))])), (a, .inl (gI G, 4096, .inl (arI dk))), (b, .inl (gI G, 4096, .inl (arI (plZ dk)))), (re, .inl (gZ G, 32, .inl (arB r3))), (qu, .inl (gI G, 32, .inl (arI q3))), (tk, .inl (gZ G, 64, .inl (arB t3))), (nm, .inl (gI G, 14, .inl (arI ((nm_un nb3 x 8).1))))] 61 [(0, .ref h), (1, .int (iI i)), (2, .long x), (4, .int (iI g)), (5, .int (iI t)), (6, .int (iI u))] [] := by
                intro nn_61
                induction nn_61 using Nat.strongRecOn with
                | ind nn_61 ih_61 =>
                  intro u g t h1 h3 h4 hm_61
                  refine w_iload C 5 dX11_mayPut_61 rfl ?_
                  refine w_aload_n C 0 dX11_mayPut_63 rfl ?_
                  refine w_get C 0 8 854 dX11_mayPut_64 rfl rfl inX11 (by decide) (by decide +kernel) rfl ?_
                  refine w_icmp_ge C 134 dX11_mayPut_67 rfl (by omega) (fun c_8 => ?_) (fun c_8 => ?_)
                  · refine w_iload C 3 dX11_mayPut_134 rfl ?_
                    refine w_if_eq C 162 dX11_mayPut_136 rfl (by omega) (fun c_9 => ?_) (fun c_9 => ?_)
                    · refine w_iconst C dX11_mayPut_162 ?_
                      refine w_ws (ws2 := [(h, .inr (9, [.ref a, .ref b, .ref tk, .ref re, .ref qu, .int (iI hd3), .int (iI tl3), .ref nm, .int (iI ((nm_un nb3 x 8).2))])), (a, .inl (gI G, 4096, .inl (arI dk))), (b, .inl (gI G, 4096, .inl (arI (paD dk)))), (re, .inl (gZ G, 32, .inl (arB r3))), (qu, .inl (gI G, 32, .inl (arI q3))), (tk, .inl (gZ G, 64, .inl (arB t3))), (nm, .inl (gI G, 14, .inl (arI ((nm_un nb3 x 8).1))))]) (by first | rfl | rw [pa_X hN]) ?_
                      exact w_reti hret dX11_mayPut_163 rfl rfl rfl rfl ⟨(hd3, tl3, (nm_un nb3 x 8).2, r3, q3, t3, (nm_un nb3 x 8).1), ⟨(show 0 ≤ (nm_un nb3 x 8).2 ∧ (nm_un nb3 x 8).2 ≤ 14 by omega), hP3, (fun _ => ⟨(un_E nb3 zIm x 8).1, by have w := (un_E nb3 zIm x 8).2; rwa [← (un_E nb3 zIm x 8).1] at w⟩)⟩, congrArg (fun z => some (Value.int (iI z))) (by rw [mp_e (nb := nb3) (g := g) (t := t) P9 hc9 hdr hx9 (by rw [h3, show u = (nm_un nb3 x 8).2 by omega]) (by rw [h4, show u = (nm_un nb3 x 8).2 by omega])]; first | (rw [decide_eq_true (by omega)]; rfl) | (rw [decide_eq_false (by omega)]; rfl)), rfl⟩
                    · refine w_iload C 4 dX11_mayPut_139 rfl ?_
                      refine w_if_ne C 162 dX11_mayPut_141 rfl (by omega) (fun c_10 => ?_) (fun c_10 => ?_)
                      · refine w_iconst C dX11_mayPut_162 ?_
                        refine w_ws (ws2 := [(h, .inr (9, [.ref a, .ref b, .ref tk, .ref re, .ref qu, .int (iI hd3), .int (iI tl3), .ref nm, .int (iI ((nm_un nb3 x 8).2))])), (a, .inl (gI G, 4096, .inl (arI dk))), (b, .inl (gI G, 4096, .inl (arI (paD dk)))), (re, .inl (gZ G, 32, .inl (arB r3))), (qu, .inl (gI G, 32, .inl (arI q3))), (tk, .inl (gZ G, 64, .inl (arB t3))), (nm, .inl (gI G, 14, .inl (arI ((nm_un nb3 x 8).1))))]) (by first | rfl | rw [pa_X hN]) ?_
                        exact w_reti hret dX11_mayPut_163 rfl rfl rfl rfl ⟨(hd3, tl3, (nm_un nb3 x 8).2, r3, q3, t3, (nm_un nb3 x 8).1), ⟨(show 0 ≤ (nm_un nb3 x 8).2 ∧ (nm_un nb3 x 8).2 ≤ 14 by omega), hP3, (fun _ => ⟨(un_E nb3 zIm x 8).1, by have w := (un_E nb3 zIm x 8).2; rwa [← (un_E nb3 zIm x 8).1] at w⟩)⟩, congrArg (fun z => some (Value.int (iI z))) (by rw [mp_e (nb := nb3) (g := g) (t := t) P9 hc9 hdr hx9 (by rw [h3, show u = (nm_un nb3 x 8).2 by omega]) (by rw [h4, show u = (nm_un nb3 x 8).2 by omega])]; first | (rw [decide_eq_true (by omega)]; rfl) | (rw [decide_eq_false (by omega)]; rfl)), rfl⟩
                      · refine w_aload_n C 0 dX11_mayPut_144 rfl ?_
                        refine w_iload_n C 1 dX11_mayPut_145 rfl ?_
                        refine w_aload_n C 0 dX11_mayPut_146 rfl ?_
                        refine w_iload_n C 1 dX11_mayPut_147 rfl ?_
                        refine w_callV (As := [.int (iI i)]) (rest := [.int (iI i), .ref h]) (w2 := [(h, .inr (9, [.ref a, .ref b, .ref tk, .ref re, .ref qu, .int (iI hd3), .int (iI tl3), .ref nm, .int (iI ((nm_un nb3 x 8).2))])), (a, .inl (gI G, 4096, .inl (arI dk))), (b, .inl (gI G, 4096, .inl (arI (plZ dk)))), (re, .inl (gZ G, 32, .inl (arB r3))), (qu, .inl (gI G, 32, .inl (arI q3))), (tk, .inl (gZ G, 64, .inl (arB t3))), (nm, .inl (gI G, 14, .inl (arI ((nm_un nb3 x 8).1))))]) (st2 := [.int (iI (sz (plZ dk) i / 16)), .int (iI i), .ref h]) C (ct_X11_places G (kl k) h a b tk re qu nm hd3 tl3 ((nm_un nb3 x 8).2) (plZ dk) i (by omega)) gX11_106 dX11_mayPut_148 0 rfl rfl rfl rfl rfl (Nat.le_of_ble_eq_true rfl) (by decide) [0, 2] rfl (by decide) [h, b] rfl rfl rfl rfl ?_
                        have f_11 := sz_rg (plZ dk) i
                        refine w_callV (As := [.int (iI i), .int (iI (sz (plZ dk) i / 16))]) (rest := []) (w2 := [(h, .inr (9, [.ref a, .ref b, .ref tk, .ref re, .ref qu, .int (iI hd3), .int (iI tl3), .ref nm, .int (iI ((nm_un nb3 x 8).2))])), (a, .inl (gI G, 4096, .inl (arI dk))), (b, .inl (gI G, 4096, .inl (arI (plZ dk)))), (re, .inl (gZ G, 32, .inl (arB r3))), (qu, .inl (gI G, 32, .inl (arI q3))), (tk, .inl (gZ G, 64, .inl (arB t3))), (nm, .inl (gI G, 14, .inl (arI ((nm_un nb3 x 8).1))))]) (st2 := [.int (iI (rfs (plZ dk) i ((nm_un nb3 x 8).1) ((nm_un nb3 x 8).2) ((sz (plZ dk) i / 16) - 2).toNat 2))]) C (ct_X11_find G (kl k) h a b tk re qu nm hd3 tl3 ((nm_un nb3 x 8).2) (plZ dk) ((nm_un nb3 x 8).1) i (sz (plZ dk) i / 16) (by omega) (by omega) (by have w := P9.1.szE hdr; omega) (P9.1.epAE hdr)) gX11_79 dX11_mayPut_151 0 rfl rfl rfl rfl rfl (Nat.le_of_ble_eq_true rfl) (by decide) [0, 2, 6] rfl (by decide) [h, b, nm] rfl rfl rfl rfl ?_
                        have f_12 := rfs_rg (plZ dk) i ((nm_un nb3 x 8).1) ((nm_un nb3 x 8).2) ((sz (plZ dk) i / 16) - 2).toNat 2
                        refine w_iconst C dX11_mayPut_154 ?_
                        refine w_icmp_ne C 162 dX11_mayPut_155 rfl (by omega) (fun c_13 => ?_) (fun c_13 => ?_)
                        · refine w_iconst C dX11_mayPut_162 ?_
                          refine w_ws (ws2 := [(h, .inr (9, [.ref a, .ref b, .ref tk, .ref re, .ref qu, .int (iI hd3), .int (iI tl3), .ref nm, .int (iI ((nm_un nb3 x 8).2))])), (a, .inl (gI G, 4096, .inl (arI dk))), (b, .inl (gI G, 4096, .inl (arI (paD dk)))), (re, .inl (gZ G, 32, .inl (arB r3))), (qu, .inl (gI G, 32, .inl (arI q3))), (tk, .inl (gZ G, 64, .inl (arB t3))), (nm, .inl (gI G, 14, .inl (arI ((nm_un nb3 x 8).1))))]) (by first | rfl | rw [pa_X hN]) ?_
                          exact w_reti hret dX11_mayPut_163 rfl rfl rfl rfl ⟨(hd3, tl3, (nm_un nb3 x 8).2, r3, q3, t3, (nm_un nb3 x 8).1), ⟨(show 0 ≤ (nm_un nb3 x 8).2 ∧ (nm_un nb3 x 8).2 ≤ 14 by omega), hP3, (fun _ => ⟨(un_E nb3 zIm x 8).1, by have w := (un_E nb3 zIm x 8).2; rwa [← (un_E nb3 zIm x 8).1] at w⟩)⟩, congrArg (fun z => some (Value.int (iI z))) (by rw [mp_e (nb := nb3) (g := g) (t := t) P9 hc9 hdr hx9 (by rw [h3, show u = (nm_un nb3 x 8).2 by omega]) (by rw [h4, show u = (nm_un nb3 x 8).2 by omega])]; first | (rw [decide_eq_true (by omega)]; rfl) | (rw [decide_eq_false (by omega)]; rfl)), rfl⟩
                        · refine w_iconst C dX11_mayPut_158 ?_
                          refine w_goto C 163 dX11_mayPut_159 rfl ?_
                          refine w_ws (ws2 := [(h, .inr (9, [.ref a, .ref b, .ref tk, .ref re, .ref qu, .int (iI hd3), .int (iI tl3), .ref nm, .int (iI ((nm_un nb3 x 8).2))])), (a, .inl (gI G, 4096, .inl (arI dk))), (b, .inl (gI G, 4096, .inl (arI (paD dk)))), (re, .inl (gZ G, 32, .inl (arB r3))), (qu, .inl (gI G, 32, .inl (arI q3))), (tk, .inl (gZ G, 64, .inl (arB t3))), (nm, .inl (gI G, 14, .inl (arI ((nm_un nb3 x 8).1))))]) (by first | rfl | rw [pa_X hN]) ?_
                          exact w_reti hret dX11_mayPut_163 rfl rfl rfl rfl ⟨(hd3, tl3, (nm_un nb3 x 8).2, r3, q3, t3, (nm_un nb3 x 8).1), ⟨(show 0 ≤ (nm_un nb3 x 8).2 ∧ (nm_un nb3 x 8).2 ≤ 14 by omega), hP3, (fun _ => ⟨(un_E nb3 zIm x 8).1, by have w := (un_E nb3 zIm x 8).2; rwa [← (un_E nb3 zIm x 8).1] at w⟩)⟩, congrArg (fun z => some (Value.int (iI z))) (by rw [mp_e (nb := nb3) (g := g) (t := t) P9 hc9 hdr hx9 (by rw [h3, show u = (nm_un nb3 x 8).2 by omega]) (by rw [h4, show u = (nm_un nb3 x 8).2 by omega])]; first | (rw [decide_eq_true (by omega)]; rfl) | (rw [decide_eq_false (by omega)]; rfl)), rfl⟩
                  · refine w_iload C 3 dX11_mayPut_70 rfl ?_
                    refine w_if_eq C 101 dX11_mayPut_72 rfl (by omega) (fun c_14 => ?_) (fun c_14 => ?_)
                    · refine w_iconst C dX11_mayPut_101 ?_
                      refine w_istore (lv2 := [(0, .ref h), (1, .int (iI i)), (2, .long x), (4, .int (iI 0)), (5, .int (iI t)), (6, .int (iI u))]) C dX11_mayPut_102 (by decide) rfl ?_
                      refine w_iload C 4 dX11_mayPut_104 rfl ?_
                      refine w_if_eq C 125 dX11_mayPut_106 rfl (by omega) (fun c_15 => ?_) (fun c_15 => ?_)
                      · refine w_iconst C dX11_mayPut_125 ?_
                        refine w_istore (lv2 := [(0, .ref h), (1, .int (iI i)), (2, .long x), (4, .int (iI 0)), (5, .int (iI 0)), (6, .int (iI u))]) C dX11_mayPut_126 (by decide) rfl ?_
                        refine w_iinc (lv2 := [(0, .ref h), (1, .int (iI i)), (2, .long x), (4, .int (iI 0)), (5, .int (iI 0)), (6, .int (iI (u + 1)))]) C 5 dX11_mayPut_128 rfl (by decide) rfl ?_
                        refine w_goto C 61 dX11_mayPut_131 rfl ?_
                        exact ih_61 _ (by omega) (u + 1) 0 0 (by omega) (al_s h3 h1.1 (by omega)) (al_s2 h4 h1.1 (by omega)) rfl
                      · refine w_aload_n C 0 dX11_mayPut_109 rfl ?_
                        refine w_get C 0 7 853 dX11_mayPut_110 rfl rfl inX11 (by decide) (by decide +kernel) rfl ?_
                        refine w_iload C 5 dX11_mayPut_113 rfl ?_
                        refine w_iald C 6 dX11_mayPut_115 rfl (by omega) ?_
                        have b_16 := ((nm_un nb3 x 8).1).2 u
                        refine w_bipush C dX11_mayPut_116 (by decide) ?_
                        refine w_icmp_ne C 125 dX11_mayPut_118 rfl (by omega) (fun c_17 => ?_) (fun c_17 => ?_)
                        · refine w_iconst C dX11_mayPut_125 ?_
                          refine w_istore (lv2 := [(0, .ref h), (1, .int (iI i)), (2, .long x), (4, .int (iI 0)), (5, .int (iI 0)), (6, .int (iI u))]) C dX11_mayPut_126 (by decide) rfl ?_
                          refine w_iinc (lv2 := [(0, .ref h), (1, .int (iI i)), (2, .long x), (4, .int (iI 0)), (5, .int (iI 0)), (6, .int (iI (u + 1)))]) C 5 dX11_mayPut_128 rfl (by decide) rfl ?_
                          refine w_goto C 61 dX11_mayPut_131 rfl ?_
                          exact ih_61 _ (by omega) (u + 1) 0 0 (by omega) (al_s h3 h1.1 (by omega)) (al_s2 h4 h1.1 (by omega)) rfl
                        · refine w_iconst C dX11_mayPut_121 ?_
                          refine w_goto C 126 dX11_mayPut_122 rfl ?_
                          refine w_istore (lv2 := [(0, .ref h), (1, .int (iI i)), (2, .long x), (4, .int (iI 0)), (5, .int (iI 1)), (6, .int (iI u))]) C dX11_mayPut_126 (by decide) rfl ?_
                          refine w_iinc (lv2 := [(0, .ref h), (1, .int (iI i)), (2, .long x), (4, .int (iI 0)), (5, .int (iI 1)), (6, .int (iI (u + 1)))]) C 5 dX11_mayPut_128 rfl (by decide) rfl ?_
                          refine w_goto C 61 dX11_mayPut_131 rfl ?_
                          exact ih_61 _ (by omega) (u + 1) 0 1 (by omega) (al_s h3 h1.1 (by omega)) (al_s2 h4 h1.1 (by omega)) rfl
                    · refine w_aload_n C 0 dX11_mayPut_75 rfl ?_
                      refine w_get C 0 7 853 dX11_mayPut_76 rfl rfl inX11 (by decide) (by decide +kernel) rfl ?_
                      refine w_iload C 5 dX11_mayPut_79 rfl ?_
                      refine w_iald C 6 dX11_mayPut_81 rfl (by omega) ?_
                      have b_18 := ((nm_un nb3 x 8).1).2 u
                      refine w_if_eq C 101 dX11_mayPut_82 rfl (by omega) (fun c_19 => ?_) (fun c_19 => ?_)
                      · refine w_iconst C dX11_mayPut_101 ?_
                        refine w_istore (lv2 := [(0, .ref h), (1, .int (iI i)), (2, .long x), (4, .int (iI 0)), (5, .int (iI t)), (6, .int (iI u))]) C dX11_mayPut_102 (by decide) rfl ?_
                        refine w_iload C 4 dX11_mayPut_104 rfl ?_
                        refine w_if_eq C 125 dX11_mayPut_106 rfl (by omega) (fun c_20 => ?_) (fun c_20 => ?_)
                        · refine w_iconst C dX11_mayPut_125 ?_
                          refine w_istore (lv2 := [(0, .ref h), (1, .int (iI i)), (2, .long x), (4, .int (iI 0)), (5, .int (iI 0)), (6, .int (iI u))]) C dX11_mayPut_126 (by decide) rfl ?_
                          refine w_iinc (lv2 := [(0, .ref h), (1, .int (iI i)), (2, .long x), (4, .int (iI 0)), (5, .int (iI 0)), (6, .int (iI (u + 1)))]) C 5 dX11_mayPut_128 rfl (by decide) rfl ?_
                          refine w_goto C 61 dX11_mayPut_131 rfl ?_
                          exact ih_61 _ (by omega) (u + 1) 0 0 (by omega) (al_s h3 h1.1 (by omega)) (al_s2 h4 h1.1 (by omega)) rfl
                        · refine w_aload_n C 0 dX11_mayPut_109 rfl ?_
                          refine w_get C 0 7 853 dX11_mayPut_110 rfl rfl inX11 (by decide) (by decide +kernel) rfl ?_
                          refine w_iload C 5 dX11_mayPut_113 rfl ?_
                          refine w_iald C 6 dX11_mayPut_115 rfl (by omega) ?_
                          have b_21 := ((nm_un nb3 x 8).1).2 u
                          refine w_bipush C dX11_mayPut_116 (by decide) ?_
                          refine w_icmp_ne C 125 dX11_mayPut_118 rfl (by omega) (fun c_22 => ?_) (fun c_22 => ?_)
                          · refine w_iconst C dX11_mayPut_125 ?_
                            refine w_istore (lv2 := [(0, .ref h), (1, .int (iI i)), (2, .long x), (4, .int (iI 0)), (5, .int (iI 0)), (6, .int (iI u))]) C dX11_mayPut_126 (by decide) rfl ?_
                            refine w_iinc (lv2 := [(0, .ref h), (1, .int (iI i)), (2, .long x), (4, .int (iI 0)), (5, .int (iI 0)), (6, .int (iI (u + 1)))]) C 5 dX11_mayPut_128 rfl (by decide) rfl ?_
                            refine w_goto C 61 dX11_mayPut_131 rfl ?_
                            exact ih_61 _ (by omega) (u + 1) 0 0 (by omega) (al_s h3 h1.1 (by omega)) (al_s2 h4 h1.1 (by omega)) rfl
                          · refine w_iconst C dX11_mayPut_121 ?_
                            refine w_goto C 126 dX11_mayPut_122 rfl ?_
                            refine w_istore (lv2 := [(0, .ref h), (1, .int (iI i)), (2, .long x), (4, .int (iI 0)), (5, .int (iI 1)), (6, .int (iI u))]) C dX11_mayPut_126 (by decide) rfl ?_
                            refine w_iinc (lv2 := [(0, .ref h), (1, .int (iI i)), (2, .long x), (4, .int (iI 0)), (5, .int (iI 1)), (6, .int (iI (u + 1)))]) C 5 dX11_mayPut_128 rfl (by decide) rfl ?_
                            refine w_goto C 61 dX11_mayPut_131 rfl ?_
                            exact ih_61 _ (by omega) (u + 1) 0 1 (by omega) (al_s h3 h1.1 (by omega)) (al_s2 h4 h1.1 (by omega)) rfl
                      · refine w_aload_n C 0 dX11_mayPut_85 rfl ?_
                        refine w_get C 0 7 853 dX11_mayPut_86 rfl rfl inX11 (by decide) (by decide +kernel) rfl ?_
                        refine w_iload C 5 dX11_mayPut_89 rfl ?_
                        refine w_iald C 6 dX11_mayPut_91 rfl (by omega) ?_
                        have b_23 := ((nm_un nb3 x 8).1).2 u
                        refine w_bipush C dX11_mayPut_92 (by decide) ?_
                        refine w_icmp_eq C 101 dX11_mayPut_94 rfl (by omega) (fun c_24 => ?_) (fun c_24 => ?_)
                        · refine w_iconst C dX11_mayPut_101 ?_
                          refine w_istore (lv2 := [(0, .ref h), (1, .int (iI i)), (2, .long x), (4, .int (iI 0)), (5, .int (iI t)), (6, .int (iI u))]) C dX11_mayPut_102 (by decide) rfl ?_
                          refine w_iload C 4 dX11_mayPut_104 rfl ?_
                          refine w_if_eq C 125 dX11_mayPut_106 rfl (by omega) (fun c_25 => ?_) (fun c_25 => ?_)
                          · refine w_iconst C dX11_mayPut_125 ?_
                            refine w_istore (lv2 := [(0, .ref h), (1, .int (iI i)), (2, .long x), (4, .int (iI 0)), (5, .int (iI 0)), (6, .int (iI u))]) C dX11_mayPut_126 (by decide) rfl ?_
                            refine w_iinc (lv2 := [(0, .ref h), (1, .int (iI i)), (2, .long x), (4, .int (iI 0)), (5, .int (iI 0)), (6, .int (iI (u + 1)))]) C 5 dX11_mayPut_128 rfl (by decide) rfl ?_
                            refine w_goto C 61 dX11_mayPut_131 rfl ?_
                            exact ih_61 _ (by omega) (u + 1) 0 0 (by omega) (al_s h3 h1.1 (by omega)) (al_s2 h4 h1.1 (by omega)) rfl
                          · refine w_aload_n C 0 dX11_mayPut_109 rfl ?_
                            refine w_get C 0 7 853 dX11_mayPut_110 rfl rfl inX11 (by decide) (by decide +kernel) rfl ?_
                            refine w_iload C 5 dX11_mayPut_113 rfl ?_
                            refine w_iald C 6 dX11_mayPut_115 rfl (by omega) ?_
                            have b_26 := ((nm_un nb3 x 8).1).2 u
                            refine w_bipush C dX11_mayPut_116 (by decide) ?_
                            refine w_icmp_ne C 125 dX11_mayPut_118 rfl (by omega) (fun c_27 => ?_) (fun c_27 => ?_)
                            · refine w_iconst C dX11_mayPut_125 ?_
                              refine w_istore (lv2 := [(0, .ref h), (1, .int (iI i)), (2, .long x), (4, .int (iI 0)), (5, .int (iI 0)), (6, .int (iI u))]) C dX11_mayPut_126 (by decide) rfl ?_
                              refine w_iinc (lv2 := [(0, .ref h), (1, .int (iI i)), (2, .long x), (4, .int (iI 0)), (5, .int (iI 0)), (6, .int (iI (u + 1)))]) C 5 dX11_mayPut_128 rfl (by decide) rfl ?_
                              refine w_goto C 61 dX11_mayPut_131 rfl ?_
                              exact ih_61 _ (by omega) (u + 1) 0 0 (by omega) (al_s h3 h1.1 (by omega)) (al_s2 h4 h1.1 (by omega)) rfl
                            · refine w_iconst C dX11_mayPut_121 ?_
                              refine w_goto C 126 dX11_mayPut_122 rfl ?_
                              refine w_istore (lv2 := [(0, .ref h), (1, .int (iI i)), (2, .long x), (4, .int (iI 0)), (5, .int (iI 1)), (6, .int (iI u))]) C dX11_mayPut_126 (by decide) rfl ?_
                              refine w_iinc (lv2 := [(0, .ref h), (1, .int (iI i)), (2, .long x), (4, .int (iI 0)), (5, .int (iI 1)), (6, .int (iI (u + 1)))]) C 5 dX11_mayPut_128 rfl (by decide) rfl ?_
                              refine w_goto C 61 dX11_mayPut_131 rfl ?_
                              exact ih_61 _ (by omega) (u + 1) 0 1 (by omega) (al_s h3 h1.1 (by omega)) (al_s2 h4 h1.1 (by omega)) rfl
                        · refine w_iconst C dX11_mayPut_97 ?_
                          refine w_goto C 102 dX11_mayPut_98 rfl ?_
                          refine w_istore (lv2 := [(0, .ref h), (1, .int (iI i)), (2, .long x), (4, .int (iI 1)), (5, .int (iI t)), (6, .int (iI u))]) C dX11_mayPut_102 (by decide) rfl ?_
                          refine w_iload C 4 dX11_mayPut_104 rfl ?_
                          refine w_if_eq C 125 dX11_mayPut_106 rfl (by omega) (fun c_28 => ?_) (fun c_28 => ?_)
                          · refine w_iconst C dX11_mayPut_125 ?_
                            refine w_istore (lv2 := [(0, .ref h), (1, .int (iI i)), (2, .long x), (4, .int (iI 1)), (5, .int (iI 0)), (6, .int (iI u))]) C dX11_mayPut_126 (by decide) rfl ?_
                            refine w_iinc (lv2 := [(0, .ref h), (1, .int (iI i)), (2, .long x), (4, .int (iI 1)), (5, .int (iI 0)), (6, .int (iI (u + 1)))]) C 5 dX11_mayPut_128 rfl (by decide) rfl ?_
                            refine w_goto C 61 dX11_mayPut_131 rfl ?_
                            exact ih_61 _ (by omega) (u + 1) 1 0 (by omega) (al_s h3 h1.1 (by omega)) (al_s2 h4 h1.1 (by omega)) rfl
                          · refine w_aload_n C 0 dX11_mayPut_109 rfl ?_
                            refine w_get C 0 7 853 dX11_mayPut_110 rfl rfl inX11 (by decide) (by decide +kernel) rfl ?_
                            refine w_iload C 5 dX11_mayPut_113 rfl ?_
                            refine w_iald C 6 dX11_mayPut_115 rfl (by omega) ?_
                            have b_29 := ((nm_un nb3 x 8).1).2 u
                            refine w_bipush C dX11_mayPut_116 (by decide) ?_
                            refine w_icmp_ne C 125 dX11_mayPut_118 rfl (by omega) (fun c_30 => ?_) (fun c_30 => ?_)
                            · refine w_iconst C dX11_mayPut_125 ?_
                              refine w_istore (lv2 := [(0, .ref h), (1, .int (iI i)), (2, .long x), (4, .int (iI 1)), (5, .int (iI 0)), (6, .int (iI u))]) C dX11_mayPut_126 (by decide) rfl ?_
                              refine w_iinc (lv2 := [(0, .ref h), (1, .int (iI i)), (2, .long x), (4, .int (iI 1)), (5, .int (iI 0)), (6, .int (iI (u + 1)))]) C 5 dX11_mayPut_128 rfl (by decide) rfl ?_
                              refine w_goto C 61 dX11_mayPut_131 rfl ?_
                              exact ih_61 _ (by omega) (u + 1) 1 0 (by omega) (al_s h3 h1.1 (by omega)) (al_s2 h4 h1.1 (by omega)) rfl
                            · refine w_iconst C dX11_mayPut_121 ?_
                              refine w_goto C 126 dX11_mayPut_122 rfl ?_
                              refine w_istore (lv2 := [(0, .ref h), (1, .int (iI i)), (2, .long x), (4, .int (iI 1)), (5, .int (iI 1)), (6, .int (iI u))]) C dX11_mayPut_126 (by decide) rfl ?_
                              refine w_iinc (lv2 := [(0, .ref h), (1, .int (iI i)), (2, .long x), (4, .int (iI 1)), (5, .int (iI 1)), (6, .int (iI (u + 1)))]) C 5 dX11_mayPut_128 rfl (by decide) rfl ?_
                              refine w_goto C 61 dX11_mayPut_131 rfl ?_
                              exact ih_61 _ (by omega) (u + 1) 1 1 (by omega) (al_s h3 h1.1 (by omega)) (al_s2 h4 h1.1 (by omega)) rfl
              exact L_61 _ 0 1 0 (by omega) ⟨fun _ j a b => by omega, fun _ => rfl⟩ ⟨fun _ => ⟨by omega, fun j a b => by omega⟩, fun w => by have w2 := w.1; omega⟩ rfl
            · refine w_iconst C dX11_mayPut_51 ?_
              refine w_goto C 56 dX11_mayPut_52 rfl ?_
              refine w_istore (lv2 := [(0, .ref h), (1, .int (iI i)), (2, .long x), (4, .int (iI 1)), (5, .int (iI 1))]) C dX11_mayPut_56 (by decide) rfl ?_
              refine w_iconst C dX11_mayPut_58 ?_
              refine w_istore (lv2 := [(0, .ref h), (1, .int (iI i)), (2, .long x), (4, .int (iI 1)), (5, .int (iI 1)), (6, .int (iI 0))]) C dX11_mayPut_59 (by decide) rfl ?_
              have L_61 : ∀ (nn_61 : Nat) (u : Int) (g : Int) (t : Int), (0 ≤ u ∧ u ≤ (nm_un nb3 x 8).2 ∧ (g = 0 ∨ g = 1) ∧ (t = 0 ∨ t = 1)) → (g = 1 ↔ ∀ j : Int, 0 ≤ j → j < u → ((nm_un nb3 x 8).1.1 j ≠ 0 ∧ (nm_un nb3 x 8).1.1 j ≠ 47)) → (t = 1 ↔ (nm_un nb3 x 8).2 < 3 ∧ ∀ j : Int, 0 ≤ j → j < u → (nm_un nb3 x 8).1.1 j = 46) → ((nm_un nb3 x 8).2 - u).toNat = nn_61 → Wd G k 7 0 0 [(h, .inr (9, [.ref a, .ref b, .ref tk, .ref re, .ref qu, .int (iI hd3), .int (iI tl3), .ref nm, .int (iI ((nm_un nb3 x 8).2))])), (a, .inl (gI G, 4096, .inl (arI dk))), (b, .inl (gI G, 4096, .inl (arI (plZ dk)))), (re, .inl (gZ G, 32, .inl (arB r3))), (qu, .inl (gI G, 32, .inl (arI q3))), (tk, .inl (gZ G, 64, .inl (arB t3))), (nm, .inl (gI G, 14, .inl (arI ((nm_un nb3 x 8).1))))] 61 [(0, .ref h), (1, .int (iI i)), (2, .long x), (4, .int (iI g)), (5, .int (iI t)), (6, .int (iI u))] [] := by
                intro nn_61
                induction nn_61 using Nat.strongRecOn with
                | ind nn_61 ih_61 =>
                  intro u g t h1 h3 h4 hm_61
                  refine w_iload C 5 dX11_mayPut_61 rfl ?_
                  refine w_aload_n C 0 dX11_mayPut_63 rfl ?_
                  refine w_get C 0 8 854 dX11_mayPut_64 rfl rfl inX11 (by decide) (by decide +kernel) rfl ?_
                  refine w_icmp_ge C 134 dX11_mayPut_67 rfl (by omega) (fun c_31 => ?_) (fun c_31 => ?_)
                  · refine w_iload C 3 dX11_mayPut_134 rfl ?_
                    refine w_if_eq C 162 dX11_mayPut_136 rfl (by omega) (fun c_32 => ?_) (fun c_32 => ?_)
                    · refine w_iconst C dX11_mayPut_162 ?_
                      refine w_ws (ws2 := [(h, .inr (9, [.ref a, .ref b, .ref tk, .ref re, .ref qu, .int (iI hd3), .int (iI tl3), .ref nm, .int (iI ((nm_un nb3 x 8).2))])), (a, .inl (gI G, 4096, .inl (arI dk))), (b, .inl (gI G, 4096, .inl (arI (paD dk)))), (re, .inl (gZ G, 32, .inl (arB r3))), (qu, .inl (gI G, 32, .inl (arI q3))), (tk, .inl (gZ G, 64, .inl (arB t3))), (nm, .inl (gI G, 14, .inl (arI ((nm_un nb3 x 8).1))))]) (by first | rfl | rw [pa_X hN]) ?_
                      exact w_reti hret dX11_mayPut_163 rfl rfl rfl rfl ⟨(hd3, tl3, (nm_un nb3 x 8).2, r3, q3, t3, (nm_un nb3 x 8).1), ⟨(show 0 ≤ (nm_un nb3 x 8).2 ∧ (nm_un nb3 x 8).2 ≤ 14 by omega), hP3, (fun _ => ⟨(un_E nb3 zIm x 8).1, by have w := (un_E nb3 zIm x 8).2; rwa [← (un_E nb3 zIm x 8).1] at w⟩)⟩, congrArg (fun z => some (Value.int (iI z))) (by rw [mp_e (nb := nb3) (g := g) (t := t) P9 hc9 hdr hx9 (by rw [h3, show u = (nm_un nb3 x 8).2 by omega]) (by rw [h4, show u = (nm_un nb3 x 8).2 by omega])]; first | (rw [decide_eq_true (by omega)]; rfl) | (rw [decide_eq_false (by omega)]; rfl)), rfl⟩
                    · refine w_iload C 4 dX11_mayPut_139 rfl ?_
                      refine w_if_ne C 162 dX11_mayPut_141 rfl (by omega) (fun c_33 => ?_) (fun c_33 => ?_)
                      · refine w_iconst C dX11_mayPut_162 ?_
                        refine w_ws (ws2 := [(h, .inr (9, [.ref a, .ref b, .ref tk, .ref re, .ref qu, .int (iI hd3), .int (iI tl3), .ref nm, .int (iI ((nm_un nb3 x 8).2))])), (a, .inl (gI G, 4096, .inl (arI dk))), (b, .inl (gI G, 4096, .inl (arI (paD dk)))), (re, .inl (gZ G, 32, .inl (arB r3))), (qu, .inl (gI G, 32, .inl (arI q3))), (tk, .inl (gZ G, 64, .inl (arB t3))), (nm, .inl (gI G, 14, .inl (arI ((nm_un nb3 x 8).1))))]) (by first | rfl | rw [pa_X hN]) ?_
                        exact w_reti hret dX11_mayPut_163 rfl rfl rfl rfl ⟨(hd3, tl3, (nm_un nb3 x 8).2, r3, q3, t3, (nm_un nb3 x 8).1), ⟨(show 0 ≤ (nm_un nb3 x 8).2 ∧ (nm_un nb3 x 8).2 ≤ 14 by omega), hP3, (fun _ => ⟨(un_E nb3 zIm x 8).1, by have w := (un_E nb3 zIm x 8).2; rwa [← (un_E nb3 zIm x 8).1] at w⟩)⟩, congrArg (fun z => some (Value.int (iI z))) (by rw [mp_e (nb := nb3) (g := g) (t := t) P9 hc9 hdr hx9 (by rw [h3, show u = (nm_un nb3 x 8).2 by omega]) (by rw [h4, show u = (nm_un nb3 x 8).2 by omega])]; first | (rw [decide_eq_true (by omega)]; rfl) | (rw [decide_eq_false (by omega)]; rfl)), rfl⟩
                      · refine w_aload_n C 0 dX11_mayPut_144 rfl ?_
                        refine w_iload_n C 1 dX11_mayPut_145 rfl ?_
                        refine w_aload_n C 0 dX11_mayPut_146 rfl ?_
                        refine w_iload_n C 1 dX11_mayPut_147 rfl ?_
                        refine w_callV (As := [.int (iI i)]) (rest := [.int (iI i), .ref h]) (w2 := [(h, .inr (9, [.ref a, .ref b, .ref tk, .ref re, .ref qu, .int (iI hd3), .int (iI tl3), .ref nm, .int (iI ((nm_un nb3 x 8).2))])), (a, .inl (gI G, 4096, .inl (arI dk))), (b, .inl (gI G, 4096, .inl (arI (plZ dk)))), (re, .inl (gZ G, 32, .inl (arB r3))), (qu, .inl (gI G, 32, .inl (arI q3))), (tk, .inl (gZ G, 64, .inl (arB t3))), (nm, .inl (gI G, 14, .inl (arI ((nm_un nb3 x 8).1))))]) (st2 := [.int (iI (sz (plZ dk) i / 16)), .int (iI i), .ref h]) C (ct_X11_places G (kl k) h a b tk re qu nm hd3 tl3 ((nm_un nb3 x 8).2) (plZ dk) i (by omega)) gX11_106 dX11_mayPut_148 0 rfl rfl rfl rfl rfl (Nat.le_of_ble_eq_true rfl) (by decide) [0, 2] rfl (by decide) [h, b] rfl rfl rfl rfl ?_
                        have f_34 := sz_rg (plZ dk) i
                        refine w_callV (As := [.int (iI i), .int (iI (sz (plZ dk) i / 16))]) (rest := []) (w2 := [(h, .inr (9, [.ref a, .ref b, .ref tk, .ref re, .ref qu, .int (iI hd3), .int (iI tl3), .ref nm, .int (iI ((nm_un nb3 x 8).2))])), (a, .inl (gI G, 4096, .inl (arI dk))), (b, .inl (gI G, 4096, .inl (arI (plZ dk)))), (re, .inl (gZ G, 32, .inl (arB r3))), (qu, .inl (gI G, 32, .inl (arI q3))), (tk, .inl (gZ G, 64, .inl (arB t3))), (nm, .inl (gI G, 14, .inl (arI ((nm_un nb3 x 8).1))))]) (st2 := [.int (iI (rfs (plZ dk) i ((nm_un nb3 x 8).1) ((nm_un nb3 x 8).2) ((sz (plZ dk) i / 16) - 2).toNat 2))]) C (ct_X11_find G (kl k) h a b tk re qu nm hd3 tl3 ((nm_un nb3 x 8).2) (plZ dk) ((nm_un nb3 x 8).1) i (sz (plZ dk) i / 16) (by omega) (by omega) (by have w := P9.1.szE hdr; omega) (P9.1.epAE hdr)) gX11_79 dX11_mayPut_151 0 rfl rfl rfl rfl rfl (Nat.le_of_ble_eq_true rfl) (by decide) [0, 2, 6] rfl (by decide) [h, b, nm] rfl rfl rfl rfl ?_
                        have f_35 := rfs_rg (plZ dk) i ((nm_un nb3 x 8).1) ((nm_un nb3 x 8).2) ((sz (plZ dk) i / 16) - 2).toNat 2
                        refine w_iconst C dX11_mayPut_154 ?_
                        refine w_icmp_ne C 162 dX11_mayPut_155 rfl (by omega) (fun c_36 => ?_) (fun c_36 => ?_)
                        · refine w_iconst C dX11_mayPut_162 ?_
                          refine w_ws (ws2 := [(h, .inr (9, [.ref a, .ref b, .ref tk, .ref re, .ref qu, .int (iI hd3), .int (iI tl3), .ref nm, .int (iI ((nm_un nb3 x 8).2))])), (a, .inl (gI G, 4096, .inl (arI dk))), (b, .inl (gI G, 4096, .inl (arI (paD dk)))), (re, .inl (gZ G, 32, .inl (arB r3))), (qu, .inl (gI G, 32, .inl (arI q3))), (tk, .inl (gZ G, 64, .inl (arB t3))), (nm, .inl (gI G, 14, .inl (arI ((nm_un nb3 x 8).1))))]) (by first | rfl | rw [pa_X hN]) ?_
                          exact w_reti hret dX11_mayPut_163 rfl rfl rfl rfl ⟨(hd3, tl3, (nm_un nb3 x 8).2, r3, q3, t3, (nm_un nb3 x 8).1), ⟨(show 0 ≤ (nm_un nb3 x 8).2 ∧ (nm_un nb3 x 8).2 ≤ 14 by omega), hP3, (fun _ => ⟨(un_E nb3 zIm x 8).1, by have w := (un_E nb3 zIm x 8).2; rwa [← (un_E nb3 zIm x 8).1] at w⟩)⟩, congrArg (fun z => some (Value.int (iI z))) (by rw [mp_e (nb := nb3) (g := g) (t := t) P9 hc9 hdr hx9 (by rw [h3, show u = (nm_un nb3 x 8).2 by omega]) (by rw [h4, show u = (nm_un nb3 x 8).2 by omega])]; first | (rw [decide_eq_true (by omega)]; rfl) | (rw [decide_eq_false (by omega)]; rfl)), rfl⟩
                        · refine w_iconst C dX11_mayPut_158 ?_
                          refine w_goto C 163 dX11_mayPut_159 rfl ?_
                          refine w_ws (ws2 := [(h, .inr (9, [.ref a, .ref b, .ref tk, .ref re, .ref qu, .int (iI hd3), .int (iI tl3), .ref nm, .int (iI ((nm_un nb3 x 8).2))])), (a, .inl (gI G, 4096, .inl (arI dk))), (b, .inl (gI G, 4096, .inl (arI (paD dk)))), (re, .inl (gZ G, 32, .inl (arB r3))), (qu, .inl (gI G, 32, .inl (arI q3))), (tk, .inl (gZ G, 64, .inl (arB t3))), (nm, .inl (gI G, 14, .inl (arI ((nm_un nb3 x 8).1))))]) (by first | rfl | rw [pa_X hN]) ?_
                          exact w_reti hret dX11_mayPut_163 rfl rfl rfl rfl ⟨(hd3, tl3, (nm_un nb3 x 8).2, r3, q3, t3, (nm_un nb3 x 8).1), ⟨(show 0 ≤ (nm_un nb3 x 8).2 ∧ (nm_un nb3 x 8).2 ≤ 14 by omega), hP3, (fun _ => ⟨(un_E nb3 zIm x 8).1, by have w := (un_E nb3 zIm x 8).2; rwa [← (un_E nb3 zIm x 8).1] at w⟩)⟩, congrArg (fun z => some (Value.int (iI z))) (by rw [mp_e (nb := nb3) (g := g) (t := t) P9 hc9 hdr hx9 (by rw [h3, show u = (nm_un nb3 x 8).2 by omega]) (by rw [h4, show u = (nm_un nb3 x 8).2 by omega])]; first | (rw [decide_eq_true (by omega)]; rfl) | (rw [decide_eq_false (by omega)]; rfl)), rfl⟩
                  · refine w_iload C 3 dX11_mayPut_70 rfl ?_
                    refine w_if_eq C 101 dX11_mayPut_72 rfl (by omega) (fun c_37 => ?_) (fun c_37 => ?_)
                    · refine w_iconst C dX11_mayPut_101 ?_
                      refine w_istore (lv2 := [(0, .ref h), (1, .int (iI i)), (2, .long x), (4, .int (iI 0)), (5, .int (iI t)), (6, .int (iI u))]) C dX11_mayPut_102 (by decide) rfl ?_
                      refine w_iload C 4 dX11_mayPut_104 rfl ?_
                      refine w_if_eq C 125 dX11_mayPut_106 rfl (by omega) (fun c_38 => ?_) (fun c_38 => ?_)
                      · refine w_iconst C dX11_mayPut_125 ?_
                        refine w_istore (lv2 := [(0, .ref h), (1, .int (iI i)), (2, .long x), (4, .int (iI 0)), (5, .int (iI 0)), (6, .int (iI u))]) C dX11_mayPut_126 (by decide) rfl ?_
                        refine w_iinc (lv2 := [(0, .ref h), (1, .int (iI i)), (2, .long x), (4, .int (iI 0)), (5, .int (iI 0)), (6, .int (iI (u + 1)))]) C 5 dX11_mayPut_128 rfl (by decide) rfl ?_
                        refine w_goto C 61 dX11_mayPut_131 rfl ?_
                        exact ih_61 _ (by omega) (u + 1) 0 0 (by omega) (al_s h3 h1.1 (by omega)) (al_s2 h4 h1.1 (by omega)) rfl
                      · refine w_aload_n C 0 dX11_mayPut_109 rfl ?_
                        refine w_get C 0 7 853 dX11_mayPut_110 rfl rfl inX11 (by decide) (by decide +kernel) rfl ?_
                        refine w_iload C 5 dX11_mayPut_113 rfl ?_
                        refine w_iald C 6 dX11_mayPut_115 rfl (by omega) ?_
                        have b_39 := ((nm_un nb3 x 8).1).2 u
                        refine w_bipush C dX11_mayPut_116 (by decide) ?_
                        refine w_icmp_ne C 125 dX11_mayPut_118 rfl (by omega) (fun c_40 => ?_) (fun c_40 => ?_)
                        · refine w_iconst C dX11_mayPut_125 ?_
                          refine w_istore (lv2 := [(0, .ref h), (1, .int (iI i)), (2, .long x), (4, .int (iI 0)), (5, .int (iI 0)), (6, .int (iI u))]) C dX11_mayPut_126 (by decide) rfl ?_
                          refine w_iinc (lv2 := [(0, .ref h), (1, .int (iI i)), (2, .long x), (4, .int (iI 0)), (5, .int (iI 0)), (6, .int (iI (u + 1)))]) C 5 dX11_mayPut_128 rfl (by decide) rfl ?_
                          refine w_goto C 61 dX11_mayPut_131 rfl ?_
                          exact ih_61 _ (by omega) (u + 1) 0 0 (by omega) (al_s h3 h1.1 (by omega)) (al_s2 h4 h1.1 (by omega)) rfl
                        · refine w_iconst C dX11_mayPut_121 ?_
                          refine w_goto C 126 dX11_mayPut_122 rfl ?_
                          refine w_istore (lv2 := [(0, .ref h), (1, .int (iI i)), (2, .long x), (4, .int (iI 0)), (5, .int (iI 1)), (6, .int (iI u))]) C dX11_mayPut_126 (by decide) rfl ?_
                          refine w_iinc (lv2 := [(0, .ref h), (1, .int (iI i)), (2, .long x), (4, .int (iI 0)), (5, .int (iI 1)), (6, .int (iI (u + 1)))]) C 5 dX11_mayPut_128 rfl (by decide) rfl ?_
                          refine w_goto C 61 dX11_mayPut_131 rfl ?_
                          exact ih_61 _ (by omega) (u + 1) 0 1 (by omega) (al_s h3 h1.1 (by omega)) (al_s2 h4 h1.1 (by omega)) rfl
                    · refine w_aload_n C 0 dX11_mayPut_75 rfl ?_
                      refine w_get C 0 7 853 dX11_mayPut_76 rfl rfl inX11 (by decide) (by decide +kernel) rfl ?_
                      refine w_iload C 5 dX11_mayPut_79 rfl ?_
                      refine w_iald C 6 dX11_mayPut_81 rfl (by omega) ?_
                      have b_41 := ((nm_un nb3 x 8).1).2 u
                      refine w_if_eq C 101 dX11_mayPut_82 rfl (by omega) (fun c_42 => ?_) (fun c_42 => ?_)
                      · refine w_iconst C dX11_mayPut_101 ?_
                        refine w_istore (lv2 := [(0, .ref h), (1, .int (iI i)), (2, .long x), (4, .int (iI 0)), (5, .int (iI t)), (6, .int (iI u))]) C dX11_mayPut_102 (by decide) rfl ?_
                        refine w_iload C 4 dX11_mayPut_104 rfl ?_
                        refine w_if_eq C 125 dX11_mayPut_106 rfl (by omega) (fun c_43 => ?_) (fun c_43 => ?_)
                        · refine w_iconst C dX11_mayPut_125 ?_
                          refine w_istore (lv2 := [(0, .ref h), (1, .int (iI i)), (2, .long x), (4, .int (iI 0)), (5, .int (iI 0)), (6, .int (iI u))]) C dX11_mayPut_126 (by decide) rfl ?_
                          refine w_iinc (lv2 := [(0, .ref h), (1, .int (iI i)), (2, .long x), (4, .int (iI 0)), (5, .int (iI 0)), (6, .int (iI (u + 1)))]) C 5 dX11_mayPut_128 rfl (by decide) rfl ?_
                          refine w_goto C 61 dX11_mayPut_131 rfl ?_
                          exact ih_61 _ (by omega) (u + 1) 0 0 (by omega) (al_s h3 h1.1 (by omega)) (al_s2 h4 h1.1 (by omega)) rfl
                        · refine w_aload_n C 0 dX11_mayPut_109 rfl ?_
                          refine w_get C 0 7 853 dX11_mayPut_110 rfl rfl inX11 (by decide) (by decide +kernel) rfl ?_
                          refine w_iload C 5 dX11_mayPut_113 rfl ?_
                          refine w_iald C 6 dX11_mayPut_115 rfl (by omega) ?_
                          have b_44 := ((nm_un nb3 x 8).1).2 u
                          refine w_bipush C dX11_mayPut_116 (by decide) ?_
                          refine w_icmp_ne C 125 dX11_mayPut_118 rfl (by omega) (fun c_45 => ?_) (fun c_45 => ?_)
                          · refine w_iconst C dX11_mayPut_125 ?_
                            refine w_istore (lv2 := [(0, .ref h), (1, .int (iI i)), (2, .long x), (4, .int (iI 0)), (5, .int (iI 0)), (6, .int (iI u))]) C dX11_mayPut_126 (by decide) rfl ?_
                            refine w_iinc (lv2 := [(0, .ref h), (1, .int (iI i)), (2, .long x), (4, .int (iI 0)), (5, .int (iI 0)), (6, .int (iI (u + 1)))]) C 5 dX11_mayPut_128 rfl (by decide) rfl ?_
                            refine w_goto C 61 dX11_mayPut_131 rfl ?_
                            exact ih_61 _ (by omega) (u + 1) 0 0 (by omega) (al_s h3 h1.1 (by omega)) (al_s2 h4 h1.1 (by omega)) rfl
                          · refine w_iconst C dX11_mayPut_121 ?_
                            refine w_goto C 126 dX11_mayPut_122 rfl ?_
                            refine w_istore (lv2 := [(0, .ref h), (1, .int (iI i)), (2, .long x), (4, .int (iI 0)), (5, .int (iI 1)), (6, .int (iI u))]) C dX11_mayPut_126 (by decide) rfl ?_
                            refine w_iinc (lv2 := [(0, .ref h), (1, .int (iI i)), (2, .long x), (4, .int (iI 0)), (5, .int (iI 1)), (6, .int (iI (u + 1)))]) C 5 dX11_mayPut_128 rfl (by decide) rfl ?_
                            refine w_goto C 61 dX11_mayPut_131 rfl ?_
                            exact ih_61 _ (by omega) (u + 1) 0 1 (by omega) (al_s h3 h1.1 (by omega)) (al_s2 h4 h1.1 (by omega)) rfl
                      · refine w_aload_n C 0 dX11_mayPut_85 rfl ?_
                        refine w_get C 0 7 853 dX11_mayPut_86 rfl rfl inX11 (by decide) (by decide +kernel) rfl ?_
                        refine w_iload C 5 dX11_mayPut_89 rfl ?_
                        refine w_iald C 6 dX11_mayPut_91 rfl (by omega) ?_
                        have b_46 := ((nm_un nb3 x 8).1).2 u
                        refine w_bipush C dX11_mayPut_92 (by decide) ?_
                        refine w_icmp_eq C 101 dX11_mayPut_94 rfl (by omega) (fun c_47 => ?_) (fun c_47 => ?_)
                        · refine w_iconst C dX11_mayPut_101 ?_
                          refine w_istore (lv2 := [(0, .ref h), (1, .int (iI i)), (2, .long x), (4, .int (iI 0)), (5, .int (iI t)), (6, .int (iI u))]) C dX11_mayPut_102 (by decide) rfl ?_
                          refine w_iload C 4 dX11_mayPut_104 rfl ?_
                          refine w_if_eq C 125 dX11_mayPut_106 rfl (by omega) (fun c_48 => ?_) (fun c_48 => ?_)
                          · refine w_iconst C dX11_mayPut_125 ?_
                            refine w_istore (lv2 := [(0, .ref h), (1, .int (iI i)), (2, .long x), (4, .int (iI 0)), (5, .int (iI 0)), (6, .int (iI u))]) C dX11_mayPut_126 (by decide) rfl ?_
                            refine w_iinc (lv2 := [(0, .ref h), (1, .int (iI i)), (2, .long x), (4, .int (iI 0)), (5, .int (iI 0)), (6, .int (iI (u + 1)))]) C 5 dX11_mayPut_128 rfl (by decide) rfl ?_
                            refine w_goto C 61 dX11_mayPut_131 rfl ?_
                            exact ih_61 _ (by omega) (u + 1) 0 0 (by omega) (al_s h3 h1.1 (by omega)) (al_s2 h4 h1.1 (by omega)) rfl
                          · refine w_aload_n C 0 dX11_mayPut_109 rfl ?_
                            refine w_get C 0 7 853 dX11_mayPut_110 rfl rfl inX11 (by decide) (by decide +kernel) rfl ?_
                            refine w_iload C 5 dX11_mayPut_113 rfl ?_
                            refine w_iald C 6 dX11_mayPut_115 rfl (by omega) ?_
                            have b_49 := ((nm_un nb3 x 8).1).2 u
                            refine w_bipush C dX11_mayPut_116 (by decide) ?_
                            refine w_icmp_ne C 125 dX11_mayPut_118 rfl (by omega) (fun c_50 => ?_) (fun c_50 => ?_)
                            · refine w_iconst C dX11_mayPut_125 ?_
                              refine w_istore (lv2 := [(0, .ref h), (1, .int (iI i)), (2, .long x), (4, .int (iI 0)), (5, .int (iI 0)), (6, .int (iI u))]) C dX11_mayPut_126 (by decide) rfl ?_
                              refine w_iinc (lv2 := [(0, .ref h), (1, .int (iI i)), (2, .long x), (4, .int (iI 0)), (5, .int (iI 0)), (6, .int (iI (u + 1)))]) C 5 dX11_mayPut_128 rfl (by decide) rfl ?_
                              refine w_goto C 61 dX11_mayPut_131 rfl ?_
                              exact ih_61 _ (by omega) (u + 1) 0 0 (by omega) (al_s h3 h1.1 (by omega)) (al_s2 h4 h1.1 (by omega)) rfl
                            · refine w_iconst C dX11_mayPut_121 ?_
                              refine w_goto C 126 dX11_mayPut_122 rfl ?_
                              refine w_istore (lv2 := [(0, .ref h), (1, .int (iI i)), (2, .long x), (4, .int (iI 0)), (5, .int (iI 1)), (6, .int (iI u))]) C dX11_mayPut_126 (by decide) rfl ?_
                              refine w_iinc (lv2 := [(0, .ref h), (1, .int (iI i)), (2, .long x), (4, .int (iI 0)), (5, .int (iI 1)), (6, .int (iI (u + 1)))]) C 5 dX11_mayPut_128 rfl (by decide) rfl ?_
                              refine w_goto C 61 dX11_mayPut_131 rfl ?_
                              exact ih_61 _ (by omega) (u + 1) 0 1 (by omega) (al_s h3 h1.1 (by omega)) (al_s2 h4 h1.1 (by omega)) rfl
                        · refine w_iconst C dX11_mayPut_97 ?_
                          refine w_goto C 102 dX11_mayPut_98 rfl ?_
                          refine w_istore (lv2 := [(0, .ref h), (1, .int (iI i)), (2, .long x), (4, .int (iI 1)), (5, .int (iI t)), (6, .int (iI u))]) C dX11_mayPut_102 (by decide) rfl ?_
                          refine w_iload C 4 dX11_mayPut_104 rfl ?_
                          refine w_if_eq C 125 dX11_mayPut_106 rfl (by omega) (fun c_51 => ?_) (fun c_51 => ?_)
                          · refine w_iconst C dX11_mayPut_125 ?_
                            refine w_istore (lv2 := [(0, .ref h), (1, .int (iI i)), (2, .long x), (4, .int (iI 1)), (5, .int (iI 0)), (6, .int (iI u))]) C dX11_mayPut_126 (by decide) rfl ?_
                            refine w_iinc (lv2 := [(0, .ref h), (1, .int (iI i)), (2, .long x), (4, .int (iI 1)), (5, .int (iI 0)), (6, .int (iI (u + 1)))]) C 5 dX11_mayPut_128 rfl (by decide) rfl ?_
                            refine w_goto C 61 dX11_mayPut_131 rfl ?_
                            exact ih_61 _ (by omega) (u + 1) 1 0 (by omega) (al_s h3 h1.1 (by omega)) (al_s2 h4 h1.1 (by omega)) rfl
                          · refine w_aload_n C 0 dX11_mayPut_109 rfl ?_
                            refine w_get C 0 7 853 dX11_mayPut_110 rfl rfl inX11 (by decide) (by decide +kernel) rfl ?_
                            refine w_iload C 5 dX11_mayPut_113 rfl ?_
                            refine w_iald C 6 dX11_mayPut_115 rfl (by omega) ?_
                            have b_52 := ((nm_un nb3 x 8).1).2 u
                            refine w_bipush C dX11_mayPut_116 (by decide) ?_
                            refine w_icmp_ne C 125 dX11_mayPut_118 rfl (by omega) (fun c_53 => ?_) (fun c_53 => ?_)
                            · refine w_iconst C dX11_mayPut_125 ?_
                              refine w_istore (lv2 := [(0, .ref h), (1, .int (iI i)), (2, .long x), (4, .int (iI 1)), (5, .int (iI 0)), (6, .int (iI u))]) C dX11_mayPut_126 (by decide) rfl ?_
                              refine w_iinc (lv2 := [(0, .ref h), (1, .int (iI i)), (2, .long x), (4, .int (iI 1)), (5, .int (iI 0)), (6, .int (iI (u + 1)))]) C 5 dX11_mayPut_128 rfl (by decide) rfl ?_
                              refine w_goto C 61 dX11_mayPut_131 rfl ?_
                              exact ih_61 _ (by omega) (u + 1) 1 0 (by omega) (al_s h3 h1.1 (by omega)) (al_s2 h4 h1.1 (by omega)) rfl
                            · refine w_iconst C dX11_mayPut_121 ?_
                              refine w_goto C 126 dX11_mayPut_122 rfl ?_
                              refine w_istore (lv2 := [(0, .ref h), (1, .int (iI i)), (2, .long x), (4, .int (iI 1)), (5, .int (iI 1)), (6, .int (iI u))]) C dX11_mayPut_126 (by decide) rfl ?_
                              refine w_iinc (lv2 := [(0, .ref h), (1, .int (iI i)), (2, .long x), (4, .int (iI 1)), (5, .int (iI 1)), (6, .int (iI (u + 1)))]) C 5 dX11_mayPut_128 rfl (by decide) rfl ?_
                              refine w_goto C 61 dX11_mayPut_131 rfl ?_
                              exact ih_61 _ (by omega) (u + 1) 1 1 (by omega) (al_s h3 h1.1 (by omega)) (al_s2 h4 h1.1 (by omega)) rfl
              exact L_61 _ 0 1 1 (by omega) ⟨fun _ j a b => by omega, fun _ => rfl⟩ ⟨fun _ => ⟨by omega, fun j a b => by omega⟩, fun w => by have w2 := w.1; omega⟩ rfl
          · have hV : mpB dk i x = false := by rw [c_6]; exact mp_0
            refine w_ws (ws2 := [(h, .inr (9, [.ref a, .ref b, .ref tk, .ref re, .ref qu, .int (iI hd3), .int (iI tl3), .ref nm, .int (iI n3)])), (a, .inl (gI G, 4096, .inl (arI dk))), (b, .inl (gI G, 4096, .inl (arI (paD dk)))), (re, .inl (gZ G, 32, .inl (arB r3))), (qu, .inl (gI G, 32, .inl (arI q3))), (tk, .inl (gZ G, 64, .inl (arB t3))), (nm, .inl (gI G, 14, .inl (arI nb3)))]) (by first | rfl | rw [pa_X hN]) ?_
            refine w_iconst C dX11_mayPut_33 ?_
            exact w_reti hret dX11_mayPut_34 rfl rfl rfl rfl ⟨(hd3, tl3, n3, r3, q3, t3, nb3), ⟨hn3, hP3, (fun w => by rw [hV] at w; cases w)⟩, congrArg (fun z => some (Value.int (iI z))) (by rw [hV]; rfl), rfl⟩

theorem gX11_209 : cwv RX11 209 yX11_mayPut cX11_mayPut 7 (some .boolean) 2 1102 1104 63 74 1105 := by decide +kernel
set_option maxHeartbeats 4000000 in
set_option maxRecDepth 100000 in
theorem ct_X11_link (G : GX) (l : Launch) (h : Nat) (a : Nat) (b : Nat) (tk : Nat) (re : Nat) (qu : Nat) (nm : Nat) (hd : Int) (tl : Int) (nl : Int) (dk : Im) (d : Im) (r : Int → Bool) (q : Im) (t0 : Int → Bool) (nb : Im) (i : Int) (x : Int64) (c : Int) (hnl : 0 ≤ nl ∧ nl ≤ 14) (hi : -2147483648 ≤ i ∧ i < 2147483648) (hc : -2147483648 ≤ c ∧ c < 2147483648) : CtE G l yX11_link cX11_link 5 (some .boolean) rmX11_link [.ref h, .int (iI i), .long x, .int (iI c)] [(h, .inr (9, [.ref a, .ref b, .ref tk, .ref re, .ref qu, .int (iI hd), .int (iI tl), .ref nm, .int (iI nl)])), (a, .inl (gI G, 4096, .inl (arI dk))), (b, .inl (gI G, 4096, .inl (arI d))), (re, .inl (gZ G, 32, .inl (arB r))), (qu, .inl (gI G, 32, .inl (arI q))), (tk, .inl (gZ G, 64, .inl (arB t0))), (nm, .inl (gI G, 14, .inl (arI nb)))] (fun e_ : Int × Int × Int × (Int → Bool) × Im × (Int → Bool) × Im × Im => (0 ≤ e_.2.2.1 ∧ e_.2.2.1 ≤ 14)) (fun e_ : Int × Int × Int × (Int → Bool) × Im × (Int → Bool) × Im × Im => (some (.int (iI (bI (lnB dk i c x)))))) (fun e_ : Int × Int × Int × (Int → Bool) × Im × (Int → Bool) × Im × Im => [(h, .inr (9, [.ref a, .ref b, .ref tk, .ref re, .ref qu, .int (iI e_.1), .int (iI e_.2.1), .ref nm, .int (iI e_.2.2.1)])), (a, .inl (gI G, 4096, .inl (arI (lnD dk i c x)))), (b, .inl (gI G, 4096, .inl (arI e_.2.2.2.2.2.2.2))), (re, .inl (gZ G, 32, .inl (arB e_.2.2.2.1))), (qu, .inl (gI G, 32, .inl (arI e_.2.2.2.2.1))), (tk, .inl (gZ G, 64, .inl (arB e_.2.2.2.2.2.1))), (nm, .inl (gI G, 14, .inl (arI e_.2.2.2.2.2.2.1)))]) := by
  refine Ct.of (by decide) (Nat.le_of_ble_eq_true rfl) ?_
  intro k C hl hret
  subst hl
  refine w_lv (lv2 := [(0, .ref h), (1, .int (iI i)), (2, .long x), (4, .int (iI c))]) [0, 1, 2, 3] rfl ?_
  refine w_aload_n C 0 dX11_link_0 rfl ?_
  refine w_iload_n C 1 dX11_link_1 rfl ?_
  refine w_lload_n C 2 dX11_link_2 rfl ?_
  refine w_callVE (E := Int × Int × Int × (Int → Bool) × Im × (Int → Bool) × Im) (As := [.int (iI i), .long x]) (rest := []) (w2 := (fun e_ : Int × Int × Int × (Int → Bool) × Im × (Int → Bool) × Im => [(h, .inr (9, [.ref a, .ref b, .ref tk, .ref re, .ref qu, .int (iI e_.1), .int (iI e_.2.1), .ref nm, .int (iI e_.2.2.1)])), (a, .inl (gI G, 4096, .inl (arI dk))), (b, .inl (gI G, 4096, .inl (arI (paD dk)))), (re, .inl (gZ G, 32, .inl (arB e_.2.2.2.1))), (qu, .inl (gI G, 32, .inl (arI e_.2.2.2.2.1))), (tk, .inl (gZ G, 64, .inl (arB e_.2.2.2.2.2.1))), (nm, .inl (gI G, 14, .inl (arI e_.2.2.2.2.2.2)))])) (st2 := (fun e_ : Int × Int × Int × (Int → Bool) × Im × (Int → Bool) × Im => [.int (iI (bI (mpB dk i x)))])) C (ct_X11_mayPut G (kl k) h a b tk re qu nm hd tl nl dk d r q t0 nb i x (by omega) (by omega)) gX11_209 dX11_link_3 0 rfl rfl rfl rfl rfl (Nat.le_of_ble_eq_true rfl) (by decide) [0, 1, 2, 3, 4, 5, 6] rfl (by decide) [h, a, b, re, qu, tk, nm] (fun _ => rfl) rfl (fun _ => rfl) (fun _ => rfl) ?_
  rintro ⟨hd3, tl3, n3, r3, q3, t3, nb3⟩ ⟨hn3, hP3, hM3⟩
  try dsimp only at hn3 hP3 hM3
  show Wd G k 5 _ _ [(h, .inr (9, [.ref a, .ref b, .ref tk, .ref re, .ref qu, .int (iI hd3), .int (iI tl3), .ref nm, .int (iI n3)])), (a, .inl (gI G, 4096, .inl (arI dk))), (b, .inl (gI G, 4096, .inl (arI (paD dk)))), (re, .inl (gZ G, 32, .inl (arB r3))), (qu, .inl (gI G, 32, .inl (arI q3))), (tk, .inl (gZ G, 64, .inl (arB t3))), (nm, .inl (gI G, 14, .inl (arI nb3)))] 6 [(0, .ref h), (1, .int (iI i)), (2, .long x), (4, .int (iI c))] [.int (iI (bI (mpB dk i x)))]
  refine w_bz C 42 dX11_link_6 rfl (fun c_1 => ?_) (fun c_1 => ?_)
  · have hV : lnB dk i c x = false := ln_m c_1
    refine w_ws (ws2 := [(h, .inr (9, [.ref a, .ref b, .ref tk, .ref re, .ref qu, .int (iI hd3), .int (iI tl3), .ref nm, .int (iI n3)])), (a, .inl (gI G, 4096, .inl (arI (lnD dk i c x)))), (b, .inl (gI G, 4096, .inl (arI (paD dk)))), (re, .inl (gZ G, 32, .inl (arB r3))), (qu, .inl (gI G, 32, .inl (arI q3))), (tk, .inl (gZ G, 64, .inl (arB t3))), (nm, .inl (gI G, 14, .inl (arI nb3)))]) (by unfold lnD; rw [if_neg (by rw [hV]; decide)]) ?_
    refine w_iconst C dX11_link_42 ?_
    exact w_reti hret dX11_link_43 rfl rfl rfl rfl ⟨(hd3, tl3, n3, r3, q3, t3, nb3, paD dk), hn3, congrArg (fun z => some (Value.int (iI z))) (by rw [hV]; rfl), rfl⟩
  · have hm9 := c_1
    have hz9 := mp_z hm9
    have hN := ck_X hz9.1
    have P9 := hP3 hN
    have m9 : n3 = nlZ x ∧ nmE nb3 (nmZ x) n3 := hM3 hm9
    have hdk := (wm_t hz9.2).1
    have hdr : drI (plZ dk) i := ⟨by have z2 := kd_R (d := plZ dk) (i := i) (by omega); rcases (show i = 0 ∨ 1 ≤ i by omega) with z | z; (rw [z, P9.1.k0] at hdk; omega); exact z, by have z2 := kd_R (d := plZ dk) (i := i) (by omega); omega, hdk⟩
    refine w_ws (ws2 := [(h, .inr (9, [.ref a, .ref b, .ref tk, .ref re, .ref qu, .int (iI hd3), .int (iI tl3), .ref nm, .int (iI n3)])), (a, .inl (gI G, 4096, .inl (arI dk))), (b, .inl (gI G, 4096, .inl (arI (plZ dk)))), (re, .inl (gZ G, 32, .inl (arB r3))), (qu, .inl (gI G, 32, .inl (arI q3))), (tk, .inl (gZ G, 64, .inl (arB t3))), (nm, .inl (gI G, 14, .inl (arI nb3)))]) (by rw [pa_X hN]) ?_
    refine w_iload C 3 dX11_link_9 rfl ?_
    refine w_iconst C dX11_link_11 ?_
    refine w_icmp_lt C 42 dX11_link_12 rfl (by omega) (fun c_2 => ?_) (fun c_2 => ?_)
    · have hV : lnB dk i c x = false := ln_k (fun z => by have z2 := kd_R (d := plZ dk) (i := c) (by omega); (rcases (show c = 0 by omega) with rfl; rw [P9.1.k0] at z; omega))
      refine w_ws (ws2 := [(h, .inr (9, [.ref a, .ref b, .ref tk, .ref re, .ref qu, .int (iI hd3), .int (iI tl3), .ref nm, .int (iI n3)])), (a, .inl (gI G, 4096, .inl (arI (lnD dk i c x)))), (b, .inl (gI G, 4096, .inl (arI (plZ dk)))), (re, .inl (gZ G, 32, .inl (arB r3))), (qu, .inl (gI G, 32, .inl (arI q3))), (tk, .inl (gZ G, 64, .inl (arB t3))), (nm, .inl (gI G, 14, .inl (arI nb3)))]) (by unfold lnD; rw [if_neg (by rw [hV]; decide)]) ?_
      refine w_iconst C dX11_link_42 ?_
      exact w_reti hret dX11_link_43 rfl rfl rfl rfl ⟨(hd3, tl3, n3, r3, q3, t3, nb3, plZ dk), hn3, congrArg (fun z => some (Value.int (iI z))) (by rw [hV]; rfl), rfl⟩
    · refine w_iload C 3 dX11_link_15 rfl ?_
      refine w_bipush C dX11_link_17 (by decide) ?_
      refine w_icmp_ge C 42 dX11_link_19 rfl (by omega) (fun c_3 => ?_) (fun c_3 => ?_)
      · have hV : lnB dk i c x = false := ln_k (fun z => by have z2 := kd_R (d := plZ dk) (i := c) (by omega); omega)
        refine w_ws (ws2 := [(h, .inr (9, [.ref a, .ref b, .ref tk, .ref re, .ref qu, .int (iI hd3), .int (iI tl3), .ref nm, .int (iI n3)])), (a, .inl (gI G, 4096, .inl (arI (lnD dk i c x)))), (b, .inl (gI G, 4096, .inl (arI (plZ dk)))), (re, .inl (gZ G, 32, .inl (arB r3))), (qu, .inl (gI G, 32, .inl (arI q3))), (tk, .inl (gZ G, 64, .inl (arB t3))), (nm, .inl (gI G, 14, .inl (arI nb3)))]) (by unfold lnD; rw [if_neg (by rw [hV]; decide)]) ?_
        refine w_iconst C dX11_link_42 ?_
        exact w_reti hret dX11_link_43 rfl rfl rfl rfl ⟨(hd3, tl3, n3, r3, q3, t3, nb3, plZ dk), hn3, congrArg (fun z => some (Value.int (iI z))) (by rw [hV]; rfl), rfl⟩
      · refine w_aload_n C 0 dX11_link_22 rfl ?_
        refine w_iload C 3 dX11_link_23 rfl ?_
        refine w_callV (As := [.int (iI c)]) (rest := []) (w2 := [(h, .inr (9, [.ref a, .ref b, .ref tk, .ref re, .ref qu, .int (iI hd3), .int (iI tl3), .ref nm, .int (iI n3)])), (a, .inl (gI G, 4096, .inl (arI dk))), (b, .inl (gI G, 4096, .inl (arI (plZ dk)))), (re, .inl (gZ G, 32, .inl (arB r3))), (qu, .inl (gI G, 32, .inl (arI q3))), (tk, .inl (gZ G, 64, .inl (arB t3))), (nm, .inl (gI G, 14, .inl (arI nb3)))]) (st2 := [.int (iI (kd (plZ dk) c))]) C (ct_X11_kind G (kl k) h a b tk re qu nm hd3 tl3 n3 (plZ dk) c (by omega)) gX11_62 dX11_link_25 0 rfl rfl rfl rfl rfl (Nat.le_of_ble_eq_true rfl) (by decide) [0, 2] rfl (by decide) [h, b] rfl rfl rfl rfl ?_
        have f_4 := kd_rg (plZ dk) c
        refine w_iconst C dX11_link_28 ?_
        refine w_icmp_ne C 42 dX11_link_29 rfl (by omega) (fun c_5 => ?_) (fun c_5 => ?_)
        · have hV : lnB dk i c x = false := ln_k c_5
          refine w_ws (ws2 := [(h, .inr (9, [.ref a, .ref b, .ref tk, .ref re, .ref qu, .int (iI hd3), .int (iI tl3), .ref nm, .int (iI n3)])), (a, .inl (gI G, 4096, .inl (arI (lnD dk i c x)))), (b, .inl (gI G, 4096, .inl (arI (plZ dk)))), (re, .inl (gZ G, 32, .inl (arB r3))), (qu, .inl (gI G, 32, .inl (arI q3))), (tk, .inl (gZ G, 64, .inl (arB t3))), (nm, .inl (gI G, 14, .inl (arI nb3)))]) (by unfold lnD; rw [if_neg (by rw [hV]; decide)]) ?_
          refine w_iconst C dX11_link_42 ?_
          exact w_reti hret dX11_link_43 rfl rfl rfl rfl ⟨(hd3, tl3, n3, r3, q3, t3, nb3, plZ dk), hn3, congrArg (fun z => some (Value.int (iI z))) (by rw [hV]; rfl), rfl⟩
        · have hk9 := c_5
          have e9 := ln_e hm9 hk9
          have en9 := en_E (tm := (pzC dk).1) (d := plZ dk) (D := i) (i := c) m9.2
          have E9 := en_WF (nb := nb3) (n := n3) P9.1 hdr P9.2.1 (i := c) (by omega) hn3
          refine w_aload_n C 0 dX11_link_32 rfl ?_
          refine w_iload_n C 1 dX11_link_33 rfl ?_
          refine w_iload C 3 dX11_link_34 rfl ?_
          refine w_callVE (E := (Int → Bool)) (As := [.int (iI i), .int (iI c)]) (rest := []) (w2 := (fun e_ : (Int → Bool) => [(h, .inr (9, [.ref a, .ref b, .ref tk, .ref re, .ref qu, .int (iI hd3), .int (iI tl3), .ref nm, .int (iI n3)])), (a, .inl (gI G, 4096, .inl (arI dk))), (b, .inl (gI G, 4096, .inl (arI (enD ((pzC dk).1) (plZ dk) i c nb3 n3)))), (re, .inl (gZ G, 32, .inl (arB r3))), (qu, .inl (gI G, 32, .inl (arI q3))), (tk, .inl (gZ G, 64, .inl (arB e_))), (nm, .inl (gI G, 14, .inl (arI nb3)))])) (st2 := (fun e_ : (Int → Bool) => [.int (iI (bI (decide (¬ rmR ((pzC dk).1) (plZ dk) i = -1))))])) C (ct_X11_putEntry G (kl k) h a b tk re qu nm hd3 tl3 n3 (plZ dk) t3 ((pzC dk).1) nb3 i c P9.1 hdr (by omega) hn3) gX11_136 dX11_link_36 0 rfl rfl rfl rfl rfl (Nat.le_of_ble_eq_true rfl) (by decide) [0, 2, 5, 6] rfl (by decide) [h, b, tk, nm] (fun _ => rfl) rfl (fun _ => rfl) (fun _ => rfl) ?_
          intro t4 hu
          show Wd G k 5 _ _ [(h, .inr (9, [.ref a, .ref b, .ref tk, .ref re, .ref qu, .int (iI hd3), .int (iI tl3), .ref nm, .int (iI n3)])), (a, .inl (gI G, 4096, .inl (arI dk))), (b, .inl (gI G, 4096, .inl (arI (enD ((pzC dk).1) (plZ dk) i c nb3 n3)))), (re, .inl (gZ G, 32, .inl (arB r3))), (qu, .inl (gI G, 32, .inl (arI q3))), (tk, .inl (gZ G, 64, .inl (arB t4))), (nm, .inl (gI G, 14, .inl (arI nb3)))] 39 [(0, .ref h), (1, .int (iI i)), (2, .long x), (4, .int (iI c))] [.int (iI (bI (decide (¬ rmR ((pzC dk).1) (plZ dk) i = -1))))]
          refine w_bnz C 44 dX11_link_39 rfl (fun c_6 => ?_) (fun c_6 => ?_)
          · have hV : lnB dk i c x = true := by rw [e9.1]; exact c_6
            refine w_aload_n C 0 dX11_link_44 rfl ?_
            refine w_callVE (E := (Int → Bool)) (As := []) (rest := []) (w2 := (fun e_ : (Int → Bool) => [(h, .inr (9, [.ref a, .ref b, .ref tk, .ref re, .ref qu, .int (iI hd3), .int (iI tl3), .ref nm, .int (iI n3)])), (a, .inl (gI G, 4096, .inl (arI dk))), (b, .inl (gI G, 4096, .inl (arI (stD (rmT (pzC dk).1 (plZ dk) i) (enD ((pzC dk).1) (plZ dk) i c nb3 n3))))), (re, .inl (gZ G, 32, .inl (arB r3))), (qu, .inl (gI G, 32, .inl (arI q3))), (tk, .inl (gZ G, 64, .inl (arB e_))), (nm, .inl (gI G, 14, .inl (arI nb3)))])) (st2 := (fun e_ : (Int → Bool) => [])) C (ct_X11_finish G (kl k) h a b tk re qu nm hd3 tl3 n3 (enD ((pzC dk).1) (plZ dk) i c nb3 n3) t4 (rmT (pzC dk).1 (plZ dk) i) E9.1 (DE.R E9.2.1)) gX11_170 dX11_link_45 0 rfl rfl rfl rfl rfl (Nat.le_of_ble_eq_true rfl) (by decide) [0, 2, 5] rfl (by decide) [h, b, tk] (fun _ => rfl) rfl (fun _ => rfl) (fun _ => rfl) ?_
            intro t5 hu5
            show Wd G k 5 _ _ [(h, .inr (9, [.ref a, .ref b, .ref tk, .ref re, .ref qu, .int (iI hd3), .int (iI tl3), .ref nm, .int (iI n3)])), (a, .inl (gI G, 4096, .inl (arI dk))), (b, .inl (gI G, 4096, .inl (arI (stD (rmT (pzC dk).1 (plZ dk) i) (enD ((pzC dk).1) (plZ dk) i c nb3 n3))))), (re, .inl (gZ G, 32, .inl (arB r3))), (qu, .inl (gI G, 32, .inl (arI q3))), (tk, .inl (gZ G, 64, .inl (arB t5))), (nm, .inl (gI G, 14, .inl (arI nb3)))] 48 [(0, .ref h), (1, .int (iI i)), (2, .long x), (4, .int (iI c))] []
            refine w_aload_n C 0 dX11_link_48 rfl ?_
            refine w_callV (As := []) (rest := []) (w2 := [(h, .inr (9, [.ref a, .ref b, .ref tk, .ref re, .ref qu, .int (iI hd3), .int (iI tl3), .ref nm, .int (iI n3)])), (a, .inl (gI G, 4096, .inl (arI (stD (rmT (pzC dk).1 (plZ dk) i) (enD ((pzC dk).1) (plZ dk) i c nb3 n3))))), (b, .inl (gI G, 4096, .inl (arI (stD (rmT (pzC dk).1 (plZ dk) i) (enD ((pzC dk).1) (plZ dk) i c nb3 n3))))), (re, .inl (gZ G, 32, .inl (arB r3))), (qu, .inl (gI G, 32, .inl (arI q3))), (tk, .inl (gZ G, 64, .inl (arB t5))), (nm, .inl (gI G, 14, .inl (arI nb3)))]) (st2 := []) C (ct_X11_store G (kl k) h a b tk re qu nm hd3 tl3 n3 dk (stD (rmT (pzC dk).1 (plZ dk) i) (enD ((pzC dk).1) (plZ dk) i c nb3 n3))) gX11_176 dX11_link_49 0 rfl rfl rfl rfl rfl (Nat.le_of_ble_eq_true rfl) (by decide) [0, 1, 2] rfl (by decide) [h, a, b] rfl rfl rfl rfl ?_
            refine w_ws (ws2 := [(h, .inr (9, [.ref a, .ref b, .ref tk, .ref re, .ref qu, .int (iI hd3), .int (iI tl3), .ref nm, .int (iI n3)])), (a, .inl (gI G, 4096, .inl (arI (lnD dk i c x)))), (b, .inl (gI G, 4096, .inl (arI (stD (rmT (pzC dk).1 (plZ dk) i) (enD ((pzC dk).1) (plZ dk) i c nb3 n3))))), (re, .inl (gZ G, 32, .inl (arB r3))), (qu, .inl (gI G, 32, .inl (arI q3))), (tk, .inl (gZ G, 64, .inl (arB t5))), (nm, .inl (gI G, 14, .inl (arI nb3)))]) (by unfold lnD; rw [if_pos hV, e9.2.1, e9.2.2, en9, m9.1]) ?_
            refine w_iconst C dX11_link_52 ?_
            exact w_reti hret dX11_link_53 rfl rfl rfl rfl ⟨(hd3, tl3, n3, r3, q3, t5, nb3, stD (rmT (pzC dk).1 (plZ dk) i) (enD ((pzC dk).1) (plZ dk) i c nb3 n3)), hn3, congrArg (fun z => some (Value.int (iI z))) (by rw [hV]; rfl), rfl⟩
          · have hV : lnB dk i c x = false := by rw [e9.1]; exact c_6
            refine w_ws (ws2 := [(h, .inr (9, [.ref a, .ref b, .ref tk, .ref re, .ref qu, .int (iI hd3), .int (iI tl3), .ref nm, .int (iI n3)])), (a, .inl (gI G, 4096, .inl (arI (lnD dk i c x)))), (b, .inl (gI G, 4096, .inl (arI (enD ((pzC dk).1) (plZ dk) i c nb3 n3)))), (re, .inl (gZ G, 32, .inl (arB r3))), (qu, .inl (gI G, 32, .inl (arI q3))), (tk, .inl (gZ G, 64, .inl (arB t4))), (nm, .inl (gI G, 14, .inl (arI nb3)))]) (by unfold lnD; rw [if_neg (by rw [hV]; decide)]) ?_
            refine w_iconst C dX11_link_42 ?_
            exact w_reti hret dX11_link_43 rfl rfl rfl rfl ⟨(hd3, tl3, n3, r3, q3, t4, nb3, enD ((pzC dk).1) (plZ dk) i c nb3 n3), hn3, congrArg (fun z => some (Value.int (iI z))) (by rw [hV]; rfl), rfl⟩
