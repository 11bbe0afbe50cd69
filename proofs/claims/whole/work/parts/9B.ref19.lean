set_option maxHeartbeats 4000000 in
set_option maxRecDepth 100000 in
theorem ct_X11_append (G : GX) (l : Launch) (h : Nat) (a : Nat) (b : Nat) (tk : Nat) (re : Nat) (qu : Nat) (nm : Nat) (hd : Int) (tl : Int) (nl : Int) (dk : Im) (d : Im) (r : Int → Bool) (q : Im) (t0 : Int → Bool) (nb : Im) (i : Int) (c : Int) (hnl : 0 ≤ nl ∧ nl ≤ 14) (hi : -2147483648 ≤ i ∧ i < 2147483648) (hc : -2147483648 ≤ c ∧ c < 2147483648) : CtE G l yX11_append cX11_append 4 (some .boolean) rmX11_append [.ref h, .int (iI i), .int (iI c)] [(h, .inr (9, [.ref a, .ref b, .ref tk, .ref re, .ref qu, .int (iI hd), .int (iI tl), .ref nm, .int (iI nl)])), (a, .inl (gI G, 4096, .inl (arI dk))), (b, .inl (gI G, 4096, .inl (arI d))), (re, .inl (gZ G, 32, .inl (arB r))), (qu, .inl (gI G, 32, .inl (arI q))), (tk, .inl (gZ G, 64, .inl (arB t0))), (nm, .inl (gI G, 14, .inl (arI nb)))] (fun e_ : Int × Int × Int × (Int → Bool) × Im × (Int → Bool) × Im × Im => (0 ≤ e_.2.2.1 ∧ e_.2.2.1 ≤ 14)) (fun e_ : Int × Int × Int × (Int → Bool) × Im × (Int → Bool) × Im × Im => (some (.int (iI (bI (apB dk i c)))))) (fun e_ : Int × Int × Int × (Int → Bool) × Im × (Int → Bool) × Im × Im => [(h, .inr (9, [.ref a, .ref b, .ref tk, .ref re, .ref qu, .int (iI e_.1), .int (iI e_.2.1), .ref nm, .int (iI e_.2.2.1)])), (a, .inl (gI G, 4096, .inl (arI (apG dk i c)))), (b, .inl (gI G, 4096, .inl (arI e_.2.2.2.2.2.2.2))), (re, .inl (gZ G, 32, .inl (arB e_.2.2.2.1))), (qu, .inl (gI G, 32, .inl (arI e_.2.2.2.2.1))), (tk, .inl (gZ G, 64, .inl (arB e_.2.2.2.2.2.1))), (nm, .inl (gI G, 14, .inl (arI e_.2.2.2.2.2.2.1)))]) := by
  refine Ct.of (by decide) (Nat.le_of_ble_eq_true rfl) ?_
  intro k C hl hret
  subst hl
  refine w_lv (lv2 := [(0, .ref h), (1, .int (iI i)), (2, .int (iI c))]) [0, 1, 2] rfl ?_
  refine w_iload_n C 2 dX11_append_0 rfl ?_
  refine w_if_lt C 51 dX11_append_1 rfl (by omega) (fun c_1 => ?_) (fun c_1 => ?_)
  · have hV : apB dk i c = false := ap_f (Or.inl (by omega))
    refine w_ws (ws2 := [(h, .inr (9, [.ref a, .ref b, .ref tk, .ref re, .ref qu, .int (iI hd), .int (iI tl), .ref nm, .int (iI nl)])), (a, .inl (gI G, 4096, .inl (arI (apG dk i c)))), (b, .inl (gI G, 4096, .inl (arI d))), (re, .inl (gZ G, 32, .inl (arB r))), (qu, .inl (gI G, 32, .inl (arI q))), (tk, .inl (gZ G, 64, .inl (arB t0))), (nm, .inl (gI G, 14, .inl (arI nb)))]) (by unfold apG; rw [if_neg (by rw [hV]; decide)]) ?_
    refine w_iconst C dX11_append_51 ?_
    exact w_reti hret dX11_append_52 rfl rfl rfl rfl ⟨(hd, tl, nl, r, q, t0, nb, d), (by first | exact hnl | exact hn3), congrArg (fun z => some (Value.int (iI z))) (by rw [hV]; rfl), rfl⟩
  · refine w_iload_n C 2 dX11_append_4 rfl ?_
    refine w_sipush C dX11_append_5 (by decide) ?_
    refine w_icmp_gt C 51 dX11_append_8 rfl (by omega) (fun c_2 => ?_) (fun c_2 => ?_)
    · have hV : apB dk i c = false := ap_f (Or.inl (by omega))
      refine w_ws (ws2 := [(h, .inr (9, [.ref a, .ref b, .ref tk, .ref re, .ref qu, .int (iI hd), .int (iI tl), .ref nm, .int (iI nl)])), (a, .inl (gI G, 4096, .inl (arI (apG dk i c)))), (b, .inl (gI G, 4096, .inl (arI d))), (re, .inl (gZ G, 32, .inl (arB r))), (qu, .inl (gI G, 32, .inl (arI q))), (tk, .inl (gZ G, 64, .inl (arB t0))), (nm, .inl (gI G, 14, .inl (arI nb)))]) (by unfold apG; rw [if_neg (by rw [hV]; decide)]) ?_
      refine w_iconst C dX11_append_51 ?_
      exact w_reti hret dX11_append_52 rfl rfl rfl rfl ⟨(hd, tl, nl, r, q, t0, nb, d), (by first | exact hnl | exact hn3), congrArg (fun z => some (Value.int (iI z))) (by rw [hV]; rfl), rfl⟩
    · refine w_aload_n C 0 dX11_append_11 rfl ?_
      refine w_callVE (E := Int × Int × Int × (Int → Bool) × Im × (Int → Bool) × Im) (As := []) (rest := []) (w2 := (fun e_ : Int × Int × Int × (Int → Bool) × Im × (Int → Bool) × Im => [(h, .inr (9, [.ref a, .ref b, .ref tk, .ref re, .ref qu, .int (iI e_.1), .int (iI e_.2.1), .ref nm, .int (iI e_.2.2.1)])), (a, .inl (gI G, 4096, .inl (arI dk))), (b, .inl (gI G, 4096, .inl (arI (paD dk)))), (re, .inl (gZ G, 32, .inl (arB e_.2.2.2.1))), (qu, .inl (gI G, 32, .inl (arI e_.2.2.2.2.1))), (tk, .inl (gZ G, 64, .inl (arB e_.2.2.2.2.2.1))), (nm, .inl (gI G, 14, .inl (arI e_.2.2.2.2.2.2)))])) (st2 := (fun e_ : Int × Int × Int × (Int → Bool) × Im × (Int → Bool) × Im => [.int (iI (ckZ dk))])) C (ct_X11_check G (kl k) h a b tk re qu nm hd tl nl dk d r q t0 nb (by omega)) gX11_205 dX11_append_12 0 rfl rfl rfl rfl rfl (Nat.le_of_ble_eq_true rfl) (by decide) [0, 1, 2, 3, 4, 5, 6] rfl (by decide) [h, a, b, re, qu, tk, nm] (fun _ => rfl) rfl (fun _ => rfl) (fun _ => rfl) ?_
      rintro ⟨hd3, tl3, n3, r3, q3, t3, nb3⟩ ⟨hn3, hP3⟩
      try dsimp only at hn3 hP3
      show Wd G k 4 _ _ [(h, .inr (9, [.ref a, .ref b, .ref tk, .ref re, .ref qu, .int (iI hd3), .int (iI tl3), .ref nm, .int (iI n3)])), (a, .inl (gI G, 4096, .inl (arI dk))), (b, .inl (gI G, 4096, .inl (arI (paD dk)))), (re, .inl (gZ G, 32, .inl (arB r3))), (qu, .inl (gI G, 32, .inl (arI q3))), (tk, .inl (gZ G, 64, .inl (arB t3))), (nm, .inl (gI G, 14, .inl (arI nb3)))] 15 [(0, .ref h), (1, .int (iI i)), (2, .int (iI c))] [.int (iI (ckZ dk))]
      have ck9 := ckZ_rg dk
      refine w_if_ne C 51 dX11_append_15 rfl (by omega) (fun c_3 => ?_) (fun c_3 => ?_)
      · have hV : apB dk i c = false := ap_f (Or.inr (Or.inl c_3))
        refine w_ws (ws2 := [(h, .inr (9, [.ref a, .ref b, .ref tk, .ref re, .ref qu, .int (iI hd3), .int (iI tl3), .ref nm, .int (iI n3)])), (a, .inl (gI G, 4096, .inl (arI (apG dk i c)))), (b, .inl (gI G, 4096, .inl (arI (paD dk)))), (re, .inl (gZ G, 32, .inl (arB r3))), (qu, .inl (gI G, 32, .inl (arI q3))), (tk, .inl (gZ G, 64, .inl (arB t3))), (nm, .inl (gI G, 14, .inl (arI nb3)))]) (by unfold apG; rw [if_neg (by rw [hV]; decide)]) ?_
        refine w_iconst C dX11_append_51 ?_
        exact w_reti hret dX11_append_52 rfl rfl rfl rfl ⟨(hd3, tl3, n3, r3, q3, t3, nb3, paD dk), (by first | exact hnl | exact hn3), congrArg (fun z => some (Value.int (iI z))) (by rw [hV]; rfl), rfl⟩
      · have hc9 : ckZ dk = 0 := c_3
        have hN := ck_X hc9
        have P9 := hP3 hN
        have D9 := DE.R P9.2.1
        refine w_ws (ws2 := [(h, .inr (9, [.ref a, .ref b, .ref tk, .ref re, .ref qu, .int (iI hd3), .int (iI tl3), .ref nm, .int (iI n3)])), (a, .inl (gI G, 4096, .inl (arI dk))), (b, .inl (gI G, 4096, .inl (arI (plZ dk)))), (re, .inl (gZ G, 32, .inl (arB r3))), (qu, .inl (gI G, 32, .inl (arI q3))), (tk, .inl (gZ G, 64, .inl (arB t3))), (nm, .inl (gI G, 14, .inl (arI nb3)))]) (by rw [pa_X hN]) ?_
        refine w_iload_n C 1 dX11_append_18 rfl ?_
        refine w_iconst C dX11_append_19 ?_
        refine w_icmp_lt C 51 dX11_append_20 rfl (by omega) (fun c_4 => ?_) (fun c_4 => ?_)
        · have hV : apB dk i c = false := ap_f (Or.inr (Or.inr (Or.inl (fun z => by have z2 := kd_R (d := plZ dk) (i := i) (by omega); (rcases (show i = 0 by omega) with rfl; rw [P9.1.k0] at z; omega)))))
          refine w_ws (ws2 := [(h, .inr (9, [.ref a, .ref b, .ref tk, .ref re, .ref qu, .int (iI hd3), .int (iI tl3), .ref nm, .int (iI n3)])), (a, .inl (gI G, 4096, .inl (arI (apG dk i c)))), (b, .inl (gI G, 4096, .inl (arI (plZ dk)))), (re, .inl (gZ G, 32, .inl (arB r3))), (qu, .inl (gI G, 32, .inl (arI q3))), (tk, .inl (gZ G, 64, .inl (arB t3))), (nm, .inl (gI G, 14, .inl (arI nb3)))]) (by unfold apG; rw [if_neg (by rw [hV]; decide)]) ?_
          refine w_iconst C dX11_append_51 ?_
          exact w_reti hret dX11_append_52 rfl rfl rfl rfl ⟨(hd3, tl3, n3, r3, q3, t3, nb3, plZ dk), (by first | exact hnl | exact hn3), congrArg (fun z => some (Value.int (iI z))) (by rw [hV]; rfl), rfl⟩
        · refine w_iload_n C 1 dX11_append_23 rfl ?_
          refine w_bipush C dX11_append_24 (by decide) ?_
          refine w_icmp_ge C 51 dX11_append_26 rfl (by omega) (fun c_5 => ?_) (fun c_5 => ?_)
          · have hV : apB dk i c = false := ap_f (Or.inr (Or.inr (Or.inl (fun z => by have z2 := kd_R (d := plZ dk) (i := i) (by omega); omega))))
            refine w_ws (ws2 := [(h, .inr (9, [.ref a, .ref b, .ref tk, .ref re, .ref qu, .int (iI hd3), .int (iI tl3), .ref nm, .int (iI n3)])), (a, .inl (gI G, 4096, .inl (arI (apG dk i c)))), (b, .inl (gI G, 4096, .inl (arI (plZ dk)))), (re, .inl (gZ G, 32, .inl (arB r3))), (qu, .inl (gI G, 32, .inl (arI q3))), (tk, .inl (gZ G, 64, .inl (arB t3))), (nm, .inl (gI G, 14, .inl (arI nb3)))]) (by unfold apG; rw [if_neg (by rw [hV]; decide)]) ?_
            refine w_iconst C dX11_append_51 ?_
            exact w_reti hret dX11_append_52 rfl rfl rfl rfl ⟨(hd3, tl3, n3, r3, q3, t3, nb3, plZ dk), (by first | exact hnl | exact hn3), congrArg (fun z => some (Value.int (iI z))) (by rw [hV]; rfl), rfl⟩
          · refine w_aload_n C 0 dX11_append_29 rfl ?_
            refine w_iload_n C 1 dX11_append_30 rfl ?_
            refine w_callV (As := [.int (iI i)]) (rest := []) (w2 := [(h, .inr (9, [.ref a, .ref b, .ref tk, .ref re, .ref qu, .int (iI hd3), .int (iI tl3), .ref nm, .int (iI n3)])), (a, .inl (gI G, 4096, .inl (arI dk))), (b, .inl (gI G, 4096, .inl (arI (plZ dk)))), (re, .inl (gZ G, 32, .inl (arB r3))), (qu, .inl (gI G, 32, .inl (arI q3))), (tk, .inl (gZ G, 64, .inl (arB t3))), (nm, .inl (gI G, 14, .inl (arI nb3)))]) (st2 := [.int (iI (kd (plZ dk) i))]) C (ct_X11_kind G (kl k) h a b tk re qu nm hd3 tl3 n3 (plZ dk) i (by omega)) gX11_62 dX11_append_31 0 rfl rfl rfl rfl rfl (Nat.le_of_ble_eq_true rfl) (by decide) [0, 2] rfl (by decide) [h, b] rfl rfl rfl rfl ?_
            have f_6 := kd_rg (plZ dk) i
            refine w_iconst C dX11_append_34 ?_
            refine w_icmp_ne C 51 dX11_append_35 rfl (by omega) (fun c_7 => ?_) (fun c_7 => ?_)
            · have hV : apB dk i c = false := ap_f (Or.inr (Or.inr (Or.inl c_7)))
              refine w_ws (ws2 := [(h, .inr (9, [.ref a, .ref b, .ref tk, .ref re, .ref qu, .int (iI hd3), .int (iI tl3), .ref nm, .int (iI n3)])), (a, .inl (gI G, 4096, .inl (arI (apG dk i c)))), (b, .inl (gI G, 4096, .inl (arI (plZ dk)))), (re, .inl (gZ G, 32, .inl (arB r3))), (qu, .inl (gI G, 32, .inl (arI q3))), (tk, .inl (gZ G, 64, .inl (arB t3))), (nm, .inl (gI G, 14, .inl (arI nb3)))]) (by unfold apG; rw [if_neg (by rw [hV]; decide)]) ?_
              refine w_iconst C dX11_append_51 ?_
              exact w_reti hret dX11_append_52 rfl rfl rfl rfl ⟨(hd3, tl3, n3, r3, q3, t3, nb3, plZ dk), (by first | exact hnl | exact hn3), congrArg (fun z => some (Value.int (iI z))) (by rw [hV]; rfl), rfl⟩
            · have hk9 : kd (plZ dk) i = 1 := c_7
              have o9 := (P9.1.ok i (by omega) (by omega) (by omega)).1.2.1
              have hb9 : bc (plZ dk) i = (sz (plZ dk) i + 63) / 64 := rfl
              refine w_aload_n C 0 dX11_append_38 rfl ?_
              refine w_iload_n C 1 dX11_append_39 rfl ?_
              refine w_callV (As := [.int (iI i)]) (rest := []) (w2 := [(h, .inr (9, [.ref a, .ref b, .ref tk, .ref re, .ref qu, .int (iI hd3), .int (iI tl3), .ref nm, .int (iI n3)])), (a, .inl (gI G, 4096, .inl (arI dk))), (b, .inl (gI G, 4096, .inl (arI (plZ dk)))), (re, .inl (gZ G, 32, .inl (arB r3))), (qu, .inl (gI G, 32, .inl (arI q3))), (tk, .inl (gZ G, 64, .inl (arB t3))), (nm, .inl (gI G, 14, .inl (arI nb3)))]) (st2 := [.int (iI (sz (plZ dk) i))]) C (ct_X11_size G (kl k) h a b tk re qu nm hd3 tl3 n3 (plZ dk) i (by omega)) gX11_45 dX11_append_40 0 rfl rfl rfl rfl rfl (Nat.le_of_ble_eq_true rfl) (by decide) [0, 2] rfl (by decide) [h, b] rfl rfl rfl rfl ?_
              have f_8 := sz_rg (plZ dk) i
              refine w_iconst C dX11_append_43 ?_
              refine w_iadd C dX11_append_44 ?_
              refine w_sipush C dX11_append_45 (by decide) ?_
              refine w_icmp_le C 53 dX11_append_48 rfl (by omega) (fun c_9 => ?_) (fun c_9 => ?_)
              · refine w_aload_n C 0 dX11_append_53 rfl ?_
                refine w_iload_n C 1 dX11_append_54 rfl ?_
                refine w_callV (As := [.int (iI i)]) (rest := []) (w2 := [(h, .inr (9, [.ref a, .ref b, .ref tk, .ref re, .ref qu, .int (iI hd3), .int (iI tl3), .ref nm, .int (iI n3)])), (a, .inl (gI G, 4096, .inl (arI dk))), (b, .inl (gI G, 4096, .inl (arI (plZ dk)))), (re, .inl (gZ G, 32, .inl (arB r3))), (qu, .inl (gI G, 32, .inl (arI q3))), (tk, .inl (gZ G, 64, .inl (arB t3))), (nm, .inl (gI G, 14, .inl (arI nb3)))]) (st2 := [.int (iI (sz (plZ dk) i))]) C (ct_X11_size G (kl k) h a b tk re qu nm hd3 tl3 n3 (plZ dk) i (by omega)) gX11_45 dX11_append_55 0 rfl rfl rfl rfl rfl (Nat.le_of_ble_eq_true rfl) (by decide) [0, 2] rfl (by decide) [h, b] rfl rfl rfl rfl ?_
                have f_10 := sz_rg (plZ dk) i
                refine w_istore_n (lv2 := [(0, .ref h), (1, .int (iI i)), (2, .int (iI c)), (3, .int (iI (sz (plZ dk) i)))]) C dX11_append_58 (by decide) rfl ?_
                refine w_iload_n C 3 dX11_append_59 rfl ?_
                refine w_bipush C dX11_append_60 (by decide) ?_
                refine w_irem C dX11_append_62 (by omega) ?_
                refine w_if_ne C 77 dX11_append_63 rfl (by omega) (fun c_11 => ?_) (fun c_11 => ?_)
                · have a9 := ap_n (tm := (pzC dk).1) (c := c) P9.1 D9 (by omega) (by omega) hk9 c_11
                  have q9 := a9.1
                  have hV : apB dk i c = true := ap_t (by omega) hc9 a9.2.2.2.2.2
                  have eL := a9.2.2.1
                  have wL := a9.2.2.2.1
                  have dL := a9.2.2.2.2.1
                  have hx9 : 0 ≤ sz (plZ dk) i / 64 ∧ sz (plZ dk) i / 64 < 64 ∧ (sz (plZ dk) i / 64 < 5 ∨ dat ((im_put (plZ dk) (512 + 16 * i + 2) (sz (plZ dk) i + 1)).1 (512 + i * 16 + 9))) := by refine ⟨by omega, by omega, ?_⟩; rcases a9.2.1 with w | w; (exact Or.inl w); (right; rw [put_at _ (by omega), if_neg (by omega), if_neg (by omega)]; exact w)
                  refine w_aload_n C 0 dX11_append_77 rfl ?_
                  refine w_iload_n C 1 dX11_append_78 rfl ?_
                  refine w_callS (As := [.int (iI i)]) (rest := [.ref h]) (w2 := [(h, .inr (9, [.ref a, .ref b, .ref tk, .ref re, .ref qu, .int (iI hd3), .int (iI tl3), .ref nm, .int (iI n3)])), (a, .inl (gI G, 4096, .inl (arI dk))), (b, .inl (gI G, 4096, .inl (arI (plZ dk)))), (re, .inl (gZ G, 32, .inl (arB r3))), (qu, .inl (gI G, 32, .inl (arI q3))), (tk, .inl (gZ G, 64, .inl (arB t3))), (nm, .inl (gI G, 14, .inl (arI nb3)))]) (st2 := [.int (iI (512 + 16 * i)), .ref h]) C (ct_X11_base G (kl k) i) gX11_42 dX11_append_79 rfl rfl (Nat.le_of_ble_eq_true rfl) (by decide) [] rfl (by decide) [] rfl rfl rfl rfl ?_
                  refine w_iconst C dX11_append_82 ?_
                  refine w_iadd C dX11_append_83 ?_
                  refine w_iload_n C 3 dX11_append_84 rfl ?_
                  refine w_iconst C dX11_append_85 ?_
                  refine w_iadd C dX11_append_86 ?_
                  refine w_callV (As := [.int (iI ((512 + 16 * i) + 2)), .int (iI ((sz (plZ dk) i) + 1))]) (rest := []) (w2 := [(h, .inr (9, [.ref a, .ref b, .ref tk, .ref re, .ref qu, .int (iI hd3), .int (iI tl3), .ref nm, .int (iI n3)])), (a, .inl (gI G, 4096, .inl (arI dk))), (b, .inl (gI G, 4096, .inl (arI (im_put (plZ dk) ((512 + 16 * i) + 2) ((sz (plZ dk) i) + 1))))), (re, .inl (gZ G, 32, .inl (arB r3))), (qu, .inl (gI G, 32, .inl (arI q3))), (tk, .inl (gZ G, 64, .inl (arB t3))), (nm, .inl (gI G, 14, .inl (arI nb3)))]) (st2 := []) C (ct_X11_put G (kl k) h a b tk re qu nm hd3 tl3 n3 (plZ dk) ((512 + 16 * i) + 2) ((sz (plZ dk) i) + 1) (by omega) (by omega)) gX11_103 dX11_append_87 0 rfl rfl rfl rfl rfl (Nat.le_of_ble_eq_true rfl) (by decide) [0, 2] rfl (by decide) [h, b] rfl rfl rfl rfl ?_
                  refine w_aload_n C 0 dX11_append_90 rfl ?_
                  refine w_get C 0 1 847 dX11_append_91 rfl rfl inX11 (by decide) (by decide +kernel) rfl ?_
                  refine w_bipush C dX11_append_94 (by decide) ?_
                  refine w_aload_n C 0 dX11_append_96 rfl ?_
                  refine w_iload_n C 1 dX11_append_97 rfl ?_
                  refine w_iload_n C 3 dX11_append_98 rfl ?_
                  refine w_bipush C dX11_append_99 (by decide) ?_
                  refine w_idiv C dX11_append_101 (by omega) ?_
                  refine w_callV (As := [.int (iI i), .int (iI ((sz (plZ dk) i) / 64))]) (rest := [.int (iI 64), .ref b]) (w2 := [(h, .inr (9, [.ref a, .ref b, .ref tk, .ref re, .ref qu, .int (iI hd3), .int (iI tl3), .ref nm, .int (iI n3)])), (a, .inl (gI G, 4096, .inl (arI dk))), (b, .inl (gI G, 4096, .inl (arI (im_put (plZ dk) ((512 + 16 * i) + 2) ((sz (plZ dk) i) + 1))))), (re, .inl (gZ G, 32, .inl (arB r3))), (qu, .inl (gI G, 32, .inl (arI q3))), (tk, .inl (gZ G, 64, .inl (arB t3))), (nm, .inl (gI G, 14, .inl (arI nb3)))]) (st2 := [.int (iI (bk (im_put (plZ dk) ((512 + 16 * i) + 2) ((sz (plZ dk) i) + 1)) i ((sz (plZ dk) i) / 64))), .int (iI 64), .ref b]) C (ct_X11_block G (kl k) h a b tk re qu nm hd3 tl3 n3 (im_put (plZ dk) ((512 + 16 * i) + 2) ((sz (plZ dk) i) + 1)) i ((sz (plZ dk) i) / 64) (by omega) hx9) gX11_59 dX11_append_102 0 rfl rfl rfl rfl rfl (Nat.le_of_ble_eq_true rfl) (by decide) [0, 2] rfl (by decide) [h, b] rfl rfl rfl rfl ?_
                  have f_12 := bk_rg (im_put (plZ dk) ((512 + 16 * i) + 2) ((sz (plZ dk) i) + 1)) i ((sz (plZ dk) i) / 64)
                  refine w_st (st2 := [.int (iI (bk (plZ dk) i (sz (plZ dk) i / 64))), .int (iI 64), .ref b]) (by rw [show 512 + 16 * i + 2 = 512 + i * 16 + 2 by omega, bk_put (by omega) (by omega)]) ?_
                  refine w_imul C dX11_append_105 ?_
                  refine w_iload_n C 3 dX11_append_106 rfl ?_
                  refine w_bipush C dX11_append_107 (by decide) ?_
                  refine w_irem C dX11_append_109 (by omega) ?_
                  refine w_iadd C dX11_append_110 ?_
                  refine w_iload_n C 2 dX11_append_111 rfl ?_
                  refine w_iast (ws2 := [(h, .inr (9, [.ref a, .ref b, .ref tk, .ref re, .ref qu, .int (iI hd3), .int (iI tl3), .ref nm, .int (iI n3)])), (a, .inl (gI G, 4096, .inl (arI dk))), (b, .inl (gI G, 4096, .inl (arI (up (im_put (plZ dk) ((512 + 16 * i) + 2) ((sz (plZ dk) i) + 1)) ((64 * (bk (plZ dk) i (sz (plZ dk) i / 64))) + ((sz (plZ dk) i) % 64)) c)))), (re, .inl (gZ G, 32, .inl (arB r3))), (qu, .inl (gI G, 32, .inl (arI q3))), (tk, .inl (gZ G, 64, .inl (arB t3))), (nm, .inl (gI G, 14, .inl (arI nb3)))]) C 2 dX11_append_112 rfl (by omega) (by omega) rfl ?_
                  refine w_arr (e := leD (pzC dk).1 (plZ dk) i c) (ws2 := [(h, .inr (9, [.ref a, .ref b, .ref tk, .ref re, .ref qu, .int (iI hd3), .int (iI tl3), .ref nm, .int (iI n3)])), (a, .inl (gI G, 4096, .inl (arI dk))), (b, .inl (gI G, 4096, .inl (arI (leD (pzC dk).1 (plZ dk) i c)))), (re, .inl (gZ G, 32, .inl (arB r3))), (qu, .inl (gI G, 32, .inl (arI q3))), (tk, .inl (gZ G, 64, .inl (arB t3))), (nm, .inl (gI G, 14, .inl (arI nb3)))]) 2 rfl (fun j _ _ => congrArg (fun z : Im => z.1 j) (by first | exact eL.symm | rw [eL, show 512 + 16 * i + 2 = 512 + i * 16 + 2 by omega])) rfl ?_
                  refine w_aload_n C 0 dX11_append_113 rfl ?_
                  refine w_callVE (E := (Int → Bool)) (As := []) (rest := []) (w2 := (fun e_ : (Int → Bool) => [(h, .inr (9, [.ref a, .ref b, .ref tk, .ref re, .ref qu, .int (iI hd3), .int (iI tl3), .ref nm, .int (iI n3)])), (a, .inl (gI G, 4096, .inl (arI dk))), (b, .inl (gI G, 4096, .inl (arI (stD (leT (pzC dk).1 (plZ dk) i) (leD (pzC dk).1 (plZ dk) i c))))), (re, .inl (gZ G, 32, .inl (arB r3))), (qu, .inl (gI G, 32, .inl (arI q3))), (tk, .inl (gZ G, 64, .inl (arB e_))), (nm, .inl (gI G, 14, .inl (arI nb3)))])) (st2 := (fun e_ : (Int → Bool) => [])) C (ct_X11_finish G (kl k) h a b tk re qu nm hd3 tl3 n3 (leD (pzC dk).1 (plZ dk) i c) t3 (leT (pzC dk).1 (plZ dk) i) (by rw [eL]; exact wL) (by rw [eL]; exact dL)) gX11_170 dX11_append_114 0 rfl rfl rfl rfl rfl (Nat.le_of_ble_eq_true rfl) (by decide) [0, 2, 5] rfl (by decide) [h, b, tk] (fun _ => rfl) rfl (fun _ => rfl) (fun _ => rfl) ?_
                  intro t7 hu7
                  show Wd G k 4 _ _ [(h, .inr (9, [.ref a, .ref b, .ref tk, .ref re, .ref qu, .int (iI hd3), .int (iI tl3), .ref nm, .int (iI n3)])), (a, .inl (gI G, 4096, .inl (arI dk))), (b, .inl (gI G, 4096, .inl (arI (stD (leT (pzC dk).1 (plZ dk) i) (leD (pzC dk).1 (plZ dk) i c))))), (re, .inl (gZ G, 32, .inl (arB r3))), (qu, .inl (gI G, 32, .inl (arI q3))), (tk, .inl (gZ G, 64, .inl (arB t7))), (nm, .inl (gI G, 14, .inl (arI nb3)))] 117 [(0, .ref h), (1, .int (iI i)), (2, .int (iI c)), (3, .int (iI (sz (plZ dk) i)))] []
                  refine w_aload_n C 0 dX11_append_117 rfl ?_
                  refine w_callV (As := []) (rest := []) (w2 := [(h, .inr (9, [.ref a, .ref b, .ref tk, .ref re, .ref qu, .int (iI hd3), .int (iI tl3), .ref nm, .int (iI n3)])), (a, .inl (gI G, 4096, .inl (arI (stD (leT (pzC dk).1 (plZ dk) i) (leD (pzC dk).1 (plZ dk) i c))))), (b, .inl (gI G, 4096, .inl (arI (stD (leT (pzC dk).1 (plZ dk) i) (leD (pzC dk).1 (plZ dk) i c))))), (re, .inl (gZ G, 32, .inl (arB r3))), (qu, .inl (gI G, 32, .inl (arI q3))), (tk, .inl (gZ G, 64, .inl (arB t7))), (nm, .inl (gI G, 14, .inl (arI nb3)))]) (st2 := []) C (ct_X11_store G (kl k) h a b tk re qu nm hd3 tl3 n3 dk (stD (leT (pzC dk).1 (plZ dk) i) (leD (pzC dk).1 (plZ dk) i c))) gX11_176 dX11_append_118 0 rfl rfl rfl rfl rfl (Nat.le_of_ble_eq_true rfl) (by decide) [0, 1, 2] rfl (by decide) [h, a, b] rfl rfl rfl rfl ?_
                  refine w_ws (ws2 := [(h, .inr (9, [.ref a, .ref b, .ref tk, .ref re, .ref qu, .int (iI hd3), .int (iI tl3), .ref nm, .int (iI n3)])), (a, .inl (gI G, 4096, .inl (arI (apG dk i c)))), (b, .inl (gI G, 4096, .inl (arI (stD (leT (pzC dk).1 (plZ dk) i) (leD (pzC dk).1 (plZ dk) i c))))), (re, .inl (gZ G, 32, .inl (arB r3))), (qu, .inl (gI G, 32, .inl (arI q3))), (tk, .inl (gZ G, 64, .inl (arB t7))), (nm, .inl (gI G, 14, .inl (arI nb3)))]) (by unfold apG; rw [if_pos hV]) ?_
                  refine w_iconst C dX11_append_121 ?_
                  exact w_reti hret dX11_append_122 rfl rfl rfl rfl ⟨(hd3, tl3, n3, r3, q3, t7, nb3, stD (leT (pzC dk).1 (plZ dk) i) (leD (pzC dk).1 (plZ dk) i c)), hn3, congrArg (fun z => some (Value.int (iI z))) (by rw [hV]; rfl), rfl⟩
                · refine w_aload_n C 0 dX11_append_66 rfl ?_
                  refine w_iload_n C 1 dX11_append_67 rfl ?_
                  refine w_iconst C dX11_append_68 ?_
                  refine w_callVE (E := (Int → Bool)) (As := [.int (iI i), .int (iI 1)]) (rest := []) (w2 := (fun e_ : (Int → Bool) => [(h, .inr (9, [.ref a, .ref b, .ref tk, .ref re, .ref qu, .int (iI hd3), .int (iI tl3), .ref nm, .int (iI n3)])), (a, .inl (gI G, 4096, .inl (arI dk))), (b, .inl (gI G, 4096, .inl (arI (gwD ((pzC dk).1) (plZ dk) i 1)))), (re, .inl (gZ G, 32, .inl (arB r3))), (qu, .inl (gI G, 32, .inl (arI q3))), (tk, .inl (gZ G, 64, .inl (arB e_))), (nm, .inl (gI G, 14, .inl (arI nb3)))])) (st2 := (fun e_ : (Int → Bool) => [.int (iI (bI (decide (¬ abX ((pzC dk).1) (plZ dk) i))))])) C (ct_X11_grow G (kl k) h a b tk re qu nm hd3 tl3 n3 (plZ dk) t3 ((pzC dk).1) i 1 P9.1 (by omega) (by omega) (by omega) (Or.inr rfl)) gX11_142 dX11_append_69 0 rfl rfl rfl rfl rfl (Nat.le_of_ble_eq_true rfl) (by decide) [0, 2, 5] rfl (by decide) [h, b, tk] (fun _ => rfl) rfl (fun _ => rfl) (fun _ => rfl) ?_
                  intro t4 hu
                  show Wd G k 4 _ _ [(h, .inr (9, [.ref a, .ref b, .ref tk, .ref re, .ref qu, .int (iI hd3), .int (iI tl3), .ref nm, .int (iI n3)])), (a, .inl (gI G, 4096, .inl (arI dk))), (b, .inl (gI G, 4096, .inl (arI (gwD ((pzC dk).1) (plZ dk) i 1)))), (re, .inl (gZ G, 32, .inl (arB r3))), (qu, .inl (gI G, 32, .inl (arI q3))), (tk, .inl (gZ G, 64, .inl (arB t4))), (nm, .inl (gI G, 14, .inl (arI nb3)))] 72 [(0, .ref h), (1, .int (iI i)), (2, .int (iI c)), (3, .int (iI (sz (plZ dk) i)))] [.int (iI (bI (decide (¬ abX ((pzC dk).1) (plZ dk) i))))]
                  refine w_bnz C 90 dX11_append_72 rfl (fun c_13 => ?_) (fun c_13 => ?_)
                  · have x9 : ¬ abX (pzC dk).1 (plZ dk) i := of_decide_eq_true c_13
                    have a9 := ap_g (c := c) P9.1 D9 (by omega) (by omega) hk9 (by omega) x9
                    have q9 := (ab_fr P9.1 x9).2.1.1
                    have hV : apB dk i c = true := ap_t (by omega) hc9 a9.2.2.2.2
                    have eL := a9.2.1
                    have wL := a9.2.2.1
                    have dL := a9.2.2.2.1
                    have gx := gw_ind P9.1 (i := i) (by omega) (by omega) (by omega) x9 (w := 1)
                    have gi := fun z => P9.1.indE (i := i) (by omega) (by omega) (by omega) z
                    have f9 := ab_fr P9.1 x9
                    have hx9 : 0 ≤ sz (plZ dk) i / 64 ∧ sz (plZ dk) i / 64 < 64 ∧ (sz (plZ dk) i / 64 < 5 ∨ dat ((gwD (pzC dk).1 (plZ dk) i 1).1 (512 + i * 16 + 9))) := by refine ⟨by omega, by omega, ?_⟩; by_cases c5 : sz (plZ dk) i / 64 < 5; (exact Or.inl c5); (right; have w := gx (by omega); change (gwD (pzC dk).1 (plZ dk) i 1).1 (512 + i * 16 + 9) = _ at w; rw [w]; by_cases c6 : bc (plZ dk) i = 5; (rw [if_pos c6]; exact (f9.2.2 c6).1); (rw [if_neg c6]; exact (gi (by omega)).1))
                    refine w_aload_n C 0 dX11_append_90 rfl ?_
                    refine w_get C 0 1 847 dX11_append_91 rfl rfl inX11 (by decide) (by decide +kernel) rfl ?_
                    refine w_bipush C dX11_append_94 (by decide) ?_
                    refine w_aload_n C 0 dX11_append_96 rfl ?_
                    refine w_iload_n C 1 dX11_append_97 rfl ?_
                    refine w_iload_n C 3 dX11_append_98 rfl ?_
                    refine w_bipush C dX11_append_99 (by decide) ?_
                    refine w_idiv C dX11_append_101 (by omega) ?_
                    refine w_callV (As := [.int (iI i), .int (iI ((sz (plZ dk) i) / 64))]) (rest := [.int (iI 64), .ref b]) (w2 := [(h, .inr (9, [.ref a, .ref b, .ref tk, .ref re, .ref qu, .int (iI hd3), .int (iI tl3), .ref nm, .int (iI n3)])), (a, .inl (gI G, 4096, .inl (arI dk))), (b, .inl (gI G, 4096, .inl (arI (gwD ((pzC dk).1) (plZ dk) i 1)))), (re, .inl (gZ G, 32, .inl (arB r3))), (qu, .inl (gI G, 32, .inl (arI q3))), (tk, .inl (gZ G, 64, .inl (arB t4))), (nm, .inl (gI G, 14, .inl (arI nb3)))]) (st2 := [.int (iI (bk (gwD ((pzC dk).1) (plZ dk) i 1) i ((sz (plZ dk) i) / 64))), .int (iI 64), .ref b]) C (ct_X11_block G (kl k) h a b tk re qu nm hd3 tl3 n3 (gwD ((pzC dk).1) (plZ dk) i 1) i ((sz (plZ dk) i) / 64) (by omega) hx9) gX11_59 dX11_append_102 0 rfl rfl rfl rfl rfl (Nat.le_of_ble_eq_true rfl) (by decide) [0, 2] rfl (by decide) [h, b] rfl rfl rfl rfl ?_
                    have f_14 := bk_rg (gwD ((pzC dk).1) (plZ dk) i 1) i ((sz (plZ dk) i) / 64)
                    refine w_st (st2 := [.int (iI (tfB (pzC dk).1)), .int (iI 64), .ref b]) (by rw [a9.1]) ?_
                    refine w_imul C dX11_append_105 ?_
                    refine w_iload_n C 3 dX11_append_106 rfl ?_
                    refine w_bipush C dX11_append_107 (by decide) ?_
                    refine w_irem C dX11_append_109 (by omega) ?_
                    refine w_iadd C dX11_append_110 ?_
                    refine w_iload_n C 2 dX11_append_111 rfl ?_
                    refine w_iast (ws2 := [(h, .inr (9, [.ref a, .ref b, .ref tk, .ref re, .ref qu, .int (iI hd3), .int (iI tl3), .ref nm, .int (iI n3)])), (a, .inl (gI G, 4096, .inl (arI dk))), (b, .inl (gI G, 4096, .inl (arI (up (gwD ((pzC dk).1) (plZ dk) i 1) ((64 * (tfB (pzC dk).1)) + ((sz (plZ dk) i) % 64)) c)))), (re, .inl (gZ G, 32, .inl (arB r3))), (qu, .inl (gI G, 32, .inl (arI q3))), (tk, .inl (gZ G, 64, .inl (arB t4))), (nm, .inl (gI G, 14, .inl (arI nb3)))]) C 2 dX11_append_112 rfl (by omega) (by omega) rfl ?_
                    refine w_arr (e := leD (pzC dk).1 (plZ dk) i c) (ws2 := [(h, .inr (9, [.ref a, .ref b, .ref tk, .ref re, .ref qu, .int (iI hd3), .int (iI tl3), .ref nm, .int (iI n3)])), (a, .inl (gI G, 4096, .inl (arI dk))), (b, .inl (gI G, 4096, .inl (arI (leD (pzC dk).1 (plZ dk) i c)))), (re, .inl (gZ G, 32, .inl (arB r3))), (qu, .inl (gI G, 32, .inl (arI q3))), (tk, .inl (gZ G, 64, .inl (arB t4))), (nm, .inl (gI G, 14, .inl (arI nb3)))]) 2 rfl (fun j _ _ => congrArg (fun z : Im => z.1 j) (by first | exact eL.symm | rw [eL, show 512 + 16 * i + 2 = 512 + i * 16 + 2 by omega])) rfl ?_
                    refine w_aload_n C 0 dX11_append_113 rfl ?_
                    refine w_callVE (E := (Int → Bool)) (As := []) (rest := []) (w2 := (fun e_ : (Int → Bool) => [(h, .inr (9, [.ref a, .ref b, .ref tk, .ref re, .ref qu, .int (iI hd3), .int (iI tl3), .ref nm, .int (iI n3)])), (a, .inl (gI G, 4096, .inl (arI dk))), (b, .inl (gI G, 4096, .inl (arI (stD (leT (pzC dk).1 (plZ dk) i) (leD (pzC dk).1 (plZ dk) i c))))), (re, .inl (gZ G, 32, .inl (arB r3))), (qu, .inl (gI G, 32, .inl (arI q3))), (tk, .inl (gZ G, 64, .inl (arB e_))), (nm, .inl (gI G, 14, .inl (arI nb3)))])) (st2 := (fun e_ : (Int → Bool) => [])) C (ct_X11_finish G (kl k) h a b tk re qu nm hd3 tl3 n3 (leD (pzC dk).1 (plZ dk) i c) t4 (leT (pzC dk).1 (plZ dk) i) (by rw [eL]; exact wL) (by rw [eL]; exact dL)) gX11_170 dX11_append_114 0 rfl rfl rfl rfl rfl (Nat.le_of_ble_eq_true rfl) (by decide) [0, 2, 5] rfl (by decide) [h, b, tk] (fun _ => rfl) rfl (fun _ => rfl) (fun _ => rfl) ?_
                    intro t7 hu7
                    show Wd G k 4 _ _ [(h, .inr (9, [.ref a, .ref b, .ref tk, .ref re, .ref qu, .int (iI hd3), .int (iI tl3), .ref nm, .int (iI n3)])), (a, .inl (gI G, 4096, .inl (arI dk))), (b, .inl (gI G, 4096, .inl (arI (stD (leT (pzC dk).1 (plZ dk) i) (leD (pzC dk).1 (plZ dk) i c))))), (re, .inl (gZ G, 32, .inl (arB r3))), (qu, .inl (gI G, 32, .inl (arI q3))), (tk, .inl (gZ G, 64, .inl (arB t7))), (nm, .inl (gI G, 14, .inl (arI nb3)))] 117 [(0, .ref h), (1, .int (iI i)), (2, .int (iI c)), (3, .int (iI (sz (plZ dk) i)))] []
                    refine w_aload_n C 0 dX11_append_117 rfl ?_
                    refine w_callV (As := []) (rest := []) (w2 := [(h, .inr (9, [.ref a, .ref b, .ref tk, .ref re, .ref qu, .int (iI hd3), .int (iI tl3), .ref nm, .int (iI n3)])), (a, .inl (gI G, 4096, .inl (arI (stD (leT (pzC dk).1 (plZ dk) i) (leD (pzC dk).1 (plZ dk) i c))))), (b, .inl (gI G, 4096, .inl (arI (stD (leT (pzC dk).1 (plZ dk) i) (leD (pzC dk).1 (plZ dk) i c))))), (re, .inl (gZ G, 32, .inl (arB r3))), (qu, .inl (gI G, 32, .inl (arI q3))), (tk, .inl (gZ G, 64, .inl (arB t7))), (nm, .inl (gI G, 14, .inl (arI nb3)))]) (st2 := []) C (ct_X11_store G (kl k) h a b tk re qu nm hd3 tl3 n3 dk (stD (leT (pzC dk).1 (plZ dk) i) (leD (pzC dk).1 (plZ dk) i c))) gX11_176 dX11_append_118 0 rfl rfl rfl rfl rfl (Nat.le_of_ble_eq_true rfl) (by decide) [0, 1, 2] rfl (by decide) [h, a, b] rfl rfl rfl rfl ?_
                    refine w_ws (ws2 := [(h, .inr (9, [.ref a, .ref b, .ref tk, .ref re, .ref qu, .int (iI hd3), .int (iI tl3), .ref nm, .int (iI n3)])), (a, .inl (gI G, 4096, .inl (arI (apG dk i c)))), (b, .inl (gI G, 4096, .inl (arI (stD (leT (pzC dk).1 (plZ dk) i) (leD (pzC dk).1 (plZ dk) i c))))), (re, .inl (gZ G, 32, .inl (arB r3))), (qu, .inl (gI G, 32, .inl (arI q3))), (tk, .inl (gZ G, 64, .inl (arB t7))), (nm, .inl (gI G, 14, .inl (arI nb3)))]) (by unfold apG; rw [if_pos hV]) ?_
                    refine w_iconst C dX11_append_121 ?_
                    exact w_reti hret dX11_append_122 rfl rfl rfl rfl ⟨(hd3, tl3, n3, r3, q3, t7, nb3, stD (leT (pzC dk).1 (plZ dk) i) (leD (pzC dk).1 (plZ dk) i c)), hn3, congrArg (fun z => some (Value.int (iI z))) (by rw [hV]; rfl), rfl⟩
                  · have x9 : abX (pzC dk).1 (plZ dk) i := by have w := c_13; rw [decide_eq_false_iff_not] at w; exact Classical.not_not.mp w
                    have hV : apB dk i c = false := ap_f (Or.inr (Or.inr (Or.inr ⟨by omega, (ab_R P9.1).mpr x9⟩)))
                    refine w_ws (ws2 := [(h, .inr (9, [.ref a, .ref b, .ref tk, .ref re, .ref qu, .int (iI hd3), .int (iI tl3), .ref nm, .int (iI n3)])), (a, .inl (gI G, 4096, .inl (arI (apG dk i c)))), (b, .inl (gI G, 4096, .inl (arI (gwD ((pzC dk).1) (plZ dk) i 1)))), (re, .inl (gZ G, 32, .inl (arB r3))), (qu, .inl (gI G, 32, .inl (arI q3))), (tk, .inl (gZ G, 64, .inl (arB t4))), (nm, .inl (gI G, 14, .inl (arI nb3)))]) (by unfold apG; rw [if_neg (by rw [hV]; decide)]) ?_
                    refine w_iconst C dX11_append_75 ?_
                    exact w_reti hret dX11_append_76 rfl rfl rfl rfl ⟨(hd3, tl3, n3, r3, q3, t4, nb3, gwD ((pzC dk).1) (plZ dk) i 1), hn3, congrArg (fun z => some (Value.int (iI z))) (by rw [hV]; rfl), rfl⟩
              · have hV : apB dk i c = false := ap_f (Or.inr (Or.inr (Or.inr ⟨by omega, (ab_R P9.1).mpr (Or.inl (by omega))⟩)))
                refine w_ws (ws2 := [(h, .inr (9, [.ref a, .ref b, .ref tk, .ref re, .ref qu, .int (iI hd3), .int (iI tl3), .ref nm, .int (iI n3)])), (a, .inl (gI G, 4096, .inl (arI (apG dk i c)))), (b, .inl (gI G, 4096, .inl (arI (plZ dk)))), (re, .inl (gZ G, 32, .inl (arB r3))), (qu, .inl (gI G, 32, .inl (arI q3))), (tk, .inl (gZ G, 64, .inl (arB t3))), (nm, .inl (gI G, 14, .inl (arI nb3)))]) (by unfold apG; rw [if_neg (by rw [hV]; decide)]) ?_
                refine w_iconst C dX11_append_51 ?_
                exact w_reti hret dX11_append_52 rfl rfl rfl rfl ⟨(hd3, tl3, n3, r3, q3, t3, nb3, plZ dk), (by first | exact hnl | exact hn3), congrArg (fun z => some (Value.int (iI z))) (by rw [hV]; rfl), rfl⟩
