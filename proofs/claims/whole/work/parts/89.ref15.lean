set_option maxHeartbeats 4000000 in
set_option maxRecDepth 100000 in
theorem ct_X11_count (G : GX) (l : Launch) (h : Nat) (a : Nat) (b : Nat) (tk : Nat) (re : Nat) (qu : Nat) (nm : Nat) (hd : Int) (tl : Int) (nl : Int) (d : Im) (i : Int) (tm : Int64) (hw : WF tm d) (hi : 0 ≤ i ∧ i < 32) : Ct G l yX11_count cX11_count 5 (some .int) rmX11_count [.ref h, .int (iI i)] [(h, .inr (9, [.ref a, .ref b, .ref tk, .ref re, .ref qu, .int (iI hd), .int (iI tl), .ref nm, .int (iI nl)])), (b, .inl (gI G, 4096, .inl (arI d)))] (some (.int (iI (ctA d i 31 1)))) [(h, .inr (9, [.ref a, .ref b, .ref tk, .ref re, .ref qu, .int (iI hd), .int (iI tl), .ref nm, .int (iI nl)])), (b, .inl (gI G, 4096, .inl (arI d)))] := by
  refine Ct.of (by decide) (Nat.le_of_ble_eq_true rfl) ?_
  intro k C hl hret
  subst hl
  refine w_lv (lv2 := [(0, .ref h), (1, .int (iI i))]) [0, 1] rfl ?_
  refine w_iconst C dX11_count_0 ?_
  refine w_istore_n (lv2 := [(0, .ref h), (1, .int (iI i)), (2, .int (iI 0))]) C dX11_count_1 (by decide) rfl ?_
  refine w_iconst C dX11_count_2 ?_
  refine w_istore_n (lv2 := [(0, .ref h), (1, .int (iI i)), (2, .int (iI 0)), (3, .int (iI 1))]) C dX11_count_3 (by decide) rfl ?_
  have L_4 : ∀ (nn_4 : Nat) (D : Int) (n : Int), (1 ≤ D ∧ D ≤ 32 ∧ 0 ≤ n ∧ n ≤ 184 * (D - 1)) → (ctA d i 31 1 = n + ctA d i (32 - D).toNat D) → (32 - D).toNat = nn_4 → Wd G k 5 0 0 [(h, .inr (9, [.ref a, .ref b, .ref tk, .ref re, .ref qu, .int (iI hd), .int (iI tl), .ref nm, .int (iI nl)])), (b, .inl (gI G, 4096, .inl (arI d)))] 4 [(0, .ref h), (1, .int (iI i)), (2, .int (iI n)), (3, .int (iI D))] [] := by
    intro nn_4
    induction nn_4 using Nat.strongRecOn with
    | ind nn_4 ih_4 =>
      intro D n h1 hp hm_4
      refine w_iload_n C 3 dX11_count_4 rfl ?_
      refine w_bipush C dX11_count_5 (by decide) ?_
      refine w_icmp_ge C 68 dX11_count_7 rfl (by omega) (fun c_1 => ?_) (fun c_1 => ?_)
      · refine w_iload_n C 2 dX11_count_68 rfl ?_
        exact w_reti hret dX11_count_69 rfl rfl rfl rfl ⟨congrArg (fun z => some (Value.int (iI z))) (by rw [hp, show (32 - D).toNat = 0 by omega, ctA]; omega), rfl⟩
      · refine w_iconst C dX11_count_10 ?_
        refine w_istore (lv2 := [(0, .ref h), (1, .int (iI i)), (2, .int (iI n)), (3, .int (iI D)), (4, .int (iI 2))]) C dX11_count_11 (by decide) rfl ?_
        have L_13 : ∀ (nn_13 : Nat) (p : Int) (n : Int), (2 ≤ p ∧ (kd d D = 2 → p ≤ sz d D / 16) ∧ 0 ≤ n ∧ n ≤ 184 * (D - 1) + (p - 2) ∧ p ≤ 186) → (ctA d i 31 1 = n + (ct1 d i D (cnt d D - p).toNat p + ctA d i (32 - (D + 1)).toNat (D + 1))) → (sz d D / 16 - p).toNat = nn_13 → Wd G k 5 0 0 [(h, .inr (9, [.ref a, .ref b, .ref tk, .ref re, .ref qu, .int (iI hd), .int (iI tl), .ref nm, .int (iI nl)])), (b, .inl (gI G, 4096, .inl (arI d)))] 13 [(0, .ref h), (1, .int (iI i)), (2, .int (iI n)), (3, .int (iI D)), (4, .int (iI p))] [] := by
          intro nn_13
          induction nn_13 using Nat.strongRecOn with
          | ind nn_13 ih_13 =>
            intro p n h3 hp2 hm_13
            refine w_aload_n C 0 dX11_count_13 rfl ?_
            refine w_iload_n C 3 dX11_count_14 rfl ?_
            refine w_callV (As := [.int (iI D)]) (rest := []) (w2 := [(h, .inr (9, [.ref a, .ref b, .ref tk, .ref re, .ref qu, .int (iI hd), .int (iI tl), .ref nm, .int (iI nl)])), (b, .inl (gI G, 4096, .inl (arI d)))]) (st2 := [.int (iI (kd d D))]) C (ct_X11_kind G (kl k) h a b tk re qu nm hd tl nl d D (by omega)) gX11_62 dX11_count_15 0 rfl rfl rfl rfl rfl (Nat.le_of_ble_eq_true rfl) (by decide) [0, 1] rfl (by decide) [h, b] rfl rfl rfl rfl ?_
            have f_2 := kd_rg d D
            refine w_iconst C dX11_count_18 ?_
            refine w_icmp_ne C 62 dX11_count_19 rfl (by omega) (fun c_3 => ?_) (fun c_3 => ?_)
            · have hkn : ¬ kd d D = 2 := c_3
              refine w_iinc (lv2 := [(0, .ref h), (1, .int (iI i)), (2, .int (iI n)), (3, .int (iI (D + 1))), (4, .int (iI p))]) C 3 dX11_count_62 rfl (by decide) rfl ?_
              refine w_goto C 4 dX11_count_65 rfl ?_
              refine w_lv (lv2 := [(0, .ref h), (1, .int (iI i)), (2, .int (iI n)), (3, .int (iI (D + 1)))]) [0, 1, 2, 3] rfl ?_
              exact ih_4 _ (by omega) (D + 1) n (by omega) (by rw [hp2]; first | (rw [show (cnt d D - p).toNat = 0 by (unfold cnt; rw [if_neg hkn]; omega), ct1]; omega) | (rw [show (cnt d D - p).toNat = 0 by omega, ct1]; omega)) rfl
            · have hdr : drI d D := ⟨h1.1, by omega, c_3⟩
              have hs9 := hw.szE hdr
              have h39 := h3.2.1 hdr.2.2
              have c9 : cnt d D = sz d D / 16 := by unfold cnt; rw [if_pos hdr.2.2, hw.ecE hdr]
              refine w_iload C 4 dX11_count_22 rfl ?_
              refine w_aload_n C 0 dX11_count_24 rfl ?_
              refine w_iload_n C 3 dX11_count_25 rfl ?_
              refine w_callV (As := [.int (iI D)]) (rest := [.int (iI p)]) (w2 := [(h, .inr (9, [.ref a, .ref b, .ref tk, .ref re, .ref qu, .int (iI hd), .int (iI tl), .ref nm, .int (iI nl)])), (b, .inl (gI G, 4096, .inl (arI d)))]) (st2 := [.int (iI (sz d D / 16)), .int (iI p)]) C (ct_X11_places G (kl k) h a b tk re qu nm hd tl nl d D (by omega)) gX11_106 dX11_count_26 0 rfl rfl rfl rfl rfl (Nat.le_of_ble_eq_true rfl) (by decide) [0, 1] rfl (by decide) [h, b] rfl rfl rfl rfl ?_
              have f_4 := sz_rg d D
              refine w_icmp_ge C 62 dX11_count_29 rfl (by omega) (fun c_5 => ?_) (fun c_5 => ?_)
              · refine w_iinc (lv2 := [(0, .ref h), (1, .int (iI i)), (2, .int (iI n)), (3, .int (iI (D + 1))), (4, .int (iI p))]) C 3 dX11_count_62 rfl (by decide) rfl ?_
                refine w_goto C 4 dX11_count_65 rfl ?_
                refine w_lv (lv2 := [(0, .ref h), (1, .int (iI i)), (2, .int (iI n)), (3, .int (iI (D + 1)))]) [0, 1, 2, 3] rfl ?_
                exact ih_4 _ (by omega) (D + 1) n (by omega) (by rw [hp2]; first | (rw [show (cnt d D - p).toNat = 0 by (unfold cnt; rw [if_neg hkn]; omega), ct1]; omega) | (rw [show (cnt d D - p).toNat = 0 by omega, ct1]; omega)) rfl
              · have er9 := hw.ep_rgE hdr (p := p) (by omega) (by omega)
                refine w_iload_n C 2 dX11_count_32 rfl ?_
                refine w_aload_n C 0 dX11_count_33 rfl ?_
                refine w_get C 0 1 847 dX11_count_34 rfl rfl inX11 (by decide) (by decide +kernel) rfl ?_
                refine w_aload_n C 0 dX11_count_37 rfl ?_
                refine w_iload_n C 3 dX11_count_38 rfl ?_
                refine w_iload C 4 dX11_count_39 rfl ?_
                refine w_callV (As := [.int (iI D), .int (iI p)]) (rest := [.ref b, .int (iI n)]) (w2 := [(h, .inr (9, [.ref a, .ref b, .ref tk, .ref re, .ref qu, .int (iI hd), .int (iI tl), .ref nm, .int (iI nl)])), (b, .inl (gI G, 4096, .inl (arI d)))]) (st2 := [.int (iI (ep d D p)), .ref b, .int (iI n)]) C (ct_X11_entry G (kl k) h a b tk re qu nm hd tl nl d D p (by omega) (by omega) (by omega)) gX11_73 dX11_count_41 0 rfl rfl rfl rfl rfl (Nat.le_of_ble_eq_true rfl) (by decide) [0, 1] rfl (by decide) [h, b] rfl rfl rfl rfl ?_
                have f_6 := ep_rg d D p
                refine w_iald C 1 dX11_count_44 rfl (by omega) ?_
                have b_7 := d.2 (ep d D p)
                refine w_iload_n C 1 dX11_count_45 rfl ?_
                refine w_icmp_ne C 53 dX11_count_46 rfl (by omega) (fun c_8 => ?_) (fun c_8 => ?_)
                · refine w_iconst C dX11_count_53 ?_
                  refine w_iadd C dX11_count_54 ?_
                  refine w_istore_n (lv2 := [(0, .ref h), (1, .int (iI i)), (2, .int (iI (n + 0))), (3, .int (iI D)), (4, .int (iI p))]) C dX11_count_55 (by decide) rfl ?_
                  refine w_iinc (lv2 := [(0, .ref h), (1, .int (iI i)), (2, .int (iI (n + 0))), (3, .int (iI D)), (4, .int (iI (p + 1)))]) C 4 dX11_count_56 rfl (by decide) rfl ?_
                  refine w_goto C 13 dX11_count_59 rfl ?_
                  exact ih_13 _ (by omega) (p + 1) (n + 0) (by omega) (by rw [hp2, show (cnt d D - p).toNat = (cnt d D - (p + 1)).toNat + 1 by omega, ct1, im_at_in d (by omega)]; first | (rw [if_pos c_8]; omega) | (rw [if_neg c_8]; omega)) rfl
                · refine w_iconst C dX11_count_49 ?_
                  refine w_goto C 54 dX11_count_50 rfl ?_
                  refine w_iadd C dX11_count_54 ?_
                  refine w_istore_n (lv2 := [(0, .ref h), (1, .int (iI i)), (2, .int (iI (n + 1))), (3, .int (iI D)), (4, .int (iI p))]) C dX11_count_55 (by decide) rfl ?_
                  refine w_iinc (lv2 := [(0, .ref h), (1, .int (iI i)), (2, .int (iI (n + 1))), (3, .int (iI D)), (4, .int (iI (p + 1)))]) C 4 dX11_count_56 rfl (by decide) rfl ?_
                  refine w_goto C 13 dX11_count_59 rfl ?_
                  exact ih_13 _ (by omega) (p + 1) (n + 1) (by omega) (by rw [hp2, show (cnt d D - p).toNat = (cnt d D - (p + 1)).toNat + 1 by omega, ct1, im_at_in d (by omega)]; first | (rw [if_pos c_8]; omega) | (rw [if_neg c_8]; omega)) rfl
        exact L_13 _ 2 n (by refine ⟨by omega, fun z => ?_, by omega⟩; have w := hw.szE ⟨h1.1, by omega, z⟩; omega) (by rw [hp, show (32 - D).toNat = (32 - (D + 1)).toNat + 1 by omega, ctA]) rfl
  exact L_4 _ 1 0 (by omega) (by rw [show ((32 : Int) - 1).toNat = 31 from rfl]; omega) rfl

theorem gX11_148 : cwv RX11 148 yX11_superAt cX11_superAt 4 none 3 879 881 20 74 882 := by decide +kernel
theorem gX11_145 : cwv RX11 145 yX11_count cX11_count 5 (some .int) 1 1045 1047 59 74 1048 := by decide +kernel
set_option maxHeartbeats 4000000 in
set_option maxRecDepth 100000 in
theorem ct_X11_finish (G : GX) (l : Launch) (h : Nat) (a : Nat) (b : Nat) (tk : Nat) (re : Nat) (qu : Nat) (nm : Nat) (hd : Int) (tl : Int) (nl : Int) (d : Im) (t : Int → Bool) (tm : Int64) (hw : WF tm d) (hD : DR d) : CtE G l yX11_finish cX11_finish 6 none rmX11_finish [.ref h] [(h, .inr (9, [.ref a, .ref b, .ref tk, .ref re, .ref qu, .int (iI hd), .int (iI tl), .ref nm, .int (iI nl)])), (b, .inl (gI G, 4096, .inl (arI d))), (tk, .inl (gZ G, 64, .inl (arB t)))] (fun e_ : (Int → Bool) => True) (fun e_ : (Int → Bool) => none) (fun e_ : (Int → Bool) => [(h, .inr (9, [.ref a, .ref b, .ref tk, .ref re, .ref qu, .int (iI hd), .int (iI tl), .ref nm, .int (iI nl)])), (b, .inl (gI G, 4096, .inl (arI (stD tm d)))), (tk, .inl (gZ G, 64, .inl (arB e_)))]) := by
  refine Ct.of (by decide) (Nat.le_of_ble_eq_true rfl) ?_
  intro k C hl hret
  subst hl
  refine w_lv (lv2 := [(0, .ref h)]) [0] rfl ?_
  refine w_iconst C dX11_finish_0 ?_
  refine w_istore_n (lv2 := [(0, .ref h), (1, .int (iI 1))]) C dX11_finish_1 (by decide) rfl ?_
  have L_2 : ∀ (nn_2 : Nat) (i : Int) (x : Im), (1 ≤ i ∧ i ≤ 32) → (FI d x i) → (fnI d 31 1 d = fnI d (32 - i).toNat i x) → (32 - i).toNat = nn_2 → Wd G k 6 0 0 [(h, .inr (9, [.ref a, .ref b, .ref tk, .ref re, .ref qu, .int (iI hd), .int (iI tl), .ref nm, .int (iI nl)])), (b, .inl (gI G, 4096, .inl (arI x))), (tk, .inl (gZ G, 64, .inl (arB t)))] 2 [(0, .ref h), (1, .int (iI i))] [] := by
    intro nn_2
    induction nn_2 using Nat.strongRecOn with
    | ind nn_2 ih_2 =>
      intro i x h1 hF hp hm_2
      have hWx := FI.W hw hF
      have k9 : i < 32 → kd x i = 0 ∨ kd x i = 1 ∨ kd x i = 2 := fun z => by by_cases w : kd x i = 0; (exact Or.inl w); (have w2 := (hWx.ok i h1.1 z w).1.1; omega)
      have kE := hF.1.kdE i
      have lE := lk_Lk hF.1 i
      refine w_iload_n C 1 dX11_finish_2 rfl ?_
      refine w_bipush C dX11_finish_3 (by decide) ?_
      refine w_icmp_ge C 147 dX11_finish_5 rfl (by omega) (fun c_1 => ?_) (fun c_1 => ?_)
      · refine w_ws (ws2 := [(h, .inr (9, [.ref a, .ref b, .ref tk, .ref re, .ref qu, .int (iI hd), .int (iI tl), .ref nm, .int (iI nl)])), (b, .inl (gI G, 4096, .inl (arI (fnI d 31 1 d)))), (tk, .inl (gZ G, 64, .inl (arB t)))]) (by rw [hp, show (32 - i).toNat = 0 by omega, fnI]) ?_
        refine w_aload_n C 0 dX11_finish_147 rfl ?_
        have hWz : WF tm (fnI d 31 1 d) := FI.W hw (fnI_FI hw 31 1 d (by omega) (by omega) (FI_0 hw))
        refine w_iconst C dX11_finish_148 ?_
        refine w_callV (As := [.int (iI 0)]) (rest := []) (w2 := [(h, .inr (9, [.ref a, .ref b, .ref tk, .ref re, .ref qu, .int (iI hd), .int (iI tl), .ref nm, .int (iI nl)])), (b, .inl (gI G, 4096, .inl (arI (fnI d 31 1 d)))), (tk, .inl (gZ G, 64, .inl (arB (tbt tm))))]) (st2 := [.int (iI (frz tm 0))]) C (ct_X11_free G (kl k) h a b tk re qu nm hd tl nl (fnI d 31 1 d) t tm 0 hWz (by omega)) gX11_97 dX11_finish_149 0 rfl rfl rfl rfl rfl (Nat.le_of_ble_eq_true rfl) (by decide) [0, 1, 2] rfl (by decide) [h, b, tk] rfl rfl rfl rfl ?_
        have f_2 := @frz_rg tm 0 (by omega)
        refine w_istore_n (lv2 := [(0, .ref h), (1, .int (iI (frz tm 0)))]) C dX11_finish_152 (by decide) rfl ?_
        refine w_iconst C dX11_finish_153 ?_
        refine w_istore_n (lv2 := [(0, .ref h), (1, .int (iI (frz tm 0))), (2, .int (iI 0))]) C dX11_finish_154 (by decide) rfl ?_
        refine w_iconst C dX11_finish_155 ?_
        refine w_istore_n (lv2 := [(0, .ref h), (1, .int (iI (frz tm 0))), (2, .int (iI 0)), (3, .int (iI 0))]) C dX11_finish_156 (by decide) rfl ?_
        refine w_aload_n C 0 dX11_finish_157 rfl ?_
        refine w_sipush C dX11_finish_158 (by decide) ?_
        refine w_bipush C dX11_finish_161 (by decide) ?_
        refine w_callV (As := [.int (iI 448), .int (iI 64)]) (rest := []) (w2 := [(h, .inr (9, [.ref a, .ref b, .ref tk, .ref re, .ref qu, .int (iI hd), .int (iI tl), .ref nm, .int (iI nl)])), (b, .inl (gI G, 4096, .inl (arI (im_wipe (fnI d 31 1 d) 448 64)))), (tk, .inl (gZ G, 64, .inl (arB (tbt tm))))]) (st2 := []) C (ct_X11_clear G (kl k) h a b tk re qu nm hd tl nl (fnI d 31 1 d) 448 64 (by unfold rgP; omega)) gX11_65 dX11_finish_163 0 rfl rfl rfl rfl rfl (Nat.le_of_ble_eq_true rfl) (by decide) [0, 1] rfl (by decide) [h, b] rfl rfl rfl rfl ?_
        refine w_iconst C dX11_finish_166 ?_
        refine w_istore (lv2 := [(0, .ref h), (1, .int (iI (frz tm 0))), (2, .int (iI 0)), (3, .int (iI 0)), (4, .int (iI 0))]) C dX11_finish_167 (by decide) rfl ?_
        refine w_lv (lv2 := [(0, .ref h), (2, .int (iI 0)), (3, .int (iI 0)), (4, .int (iI 0))]) [0, 2, 3, 4] rfl ?_
        have L_169 : ∀ (nn_169 : Nat) (u : Int) (fb : Int) (y : Im), (0 ≤ u ∧ u ≤ 64 ∧ 0 ≤ fb ∧ fb ≤ u) → (MBi 448 y u 8) → (∀ c : Int, 8 ≤ c → c < 64 → y.1 (448 + c) = 0) → (∀ j : Int, kd y j = kd (fnI d 31 1 d) j) → (mp1 tm 64 0 (im_wipe (fnI d 31 1 d) 448 64) = mp1 tm (64 - u).toNat u y) → (fbs tm 64 0 = fb + fbs tm (64 - u).toNat u) → (64 - u).toNat = nn_169 → Wd G k 6 0 0 [(h, .inr (9, [.ref a, .ref b, .ref tk, .ref re, .ref qu, .int (iI hd), .int (iI tl), .ref nm, .int (iI nl)])), (b, .inl (gI G, 4096, .inl (arI y))), (tk, .inl (gZ G, 64, .inl (arB (tbt tm))))] 169 [(0, .ref h), (2, .int (iI fb)), (3, .int (iI 0)), (4, .int (iI u))] [] := by
          intro nn_169
          induction nn_169 using Nat.strongRecOn with
          | ind nn_169 ih_169 =>
            intro u fb y h4 hM hM2 hK hp3 hf hm_169
            refine w_iload C 3 dX11_finish_169 rfl ?_
            refine w_bipush C dX11_finish_171 (by decide) ?_
            refine w_icmp_ge C 261 dX11_finish_173 rfl (by omega) (fun c_3 => ?_) (fun c_3 => ?_)
            · refine w_iconst C dX11_finish_261 ?_
              refine w_istore (lv2 := [(0, .ref h), (2, .int (iI fb)), (3, .int (iI 0)), (4, .int (iI 0))]) C dX11_finish_262 (by decide) rfl ?_
              have L_264 : ∀ (nn_264 : Nat) (v : Int) (fn : Int) (y : Im) (fb : Int), (0 ≤ v ∧ v ≤ 32 ∧ 0 ≤ fn ∧ fn ≤ v ∧ 0 ≤ fb ∧ fb ≤ 64) → (MBi 456 y v 4) → (∀ j : Int, kd y j = kd (fnI d 31 1 d) j) → (mpF tm (fnI d 31 1 d) = mp2 (32 - v).toNat v y) → (fbs tm 64 0 = fb) → (fz (fnI d 31 1 d) 32 0 = fn + fz (fnI d 31 1 d) (32 - v).toNat v) → (32 - v).toNat = nn_264 → Wd G k 6 0 0 [(h, .inr (9, [.ref a, .ref b, .ref tk, .ref re, .ref qu, .int (iI hd), .int (iI tl), .ref nm, .int (iI nl)])), (b, .inl (gI G, 4096, .inl (arI y))), (tk, .inl (gZ G, 64, .inl (arB (tbt tm))))] 264 [(0, .ref h), (2, .int (iI fb)), (3, .int (iI fn)), (4, .int (iI v))] [] := by
                intro nn_264
                induction nn_264 using Nat.strongRecOn with
                | ind nn_264 ih_264 =>
                  intro v fn y fb h4 hM hK hp4 hf hf2 hm_264
                  refine w_iload C 3 dX11_finish_264 rfl ?_
                  refine w_bipush C dX11_finish_266 (by decide) ?_
                  refine w_icmp_ge C 346 dX11_finish_268 rfl (by omega) (fun c_4 => ?_) (fun c_4 => ?_)
                  · refine w_aload_n C 0 dX11_finish_346 rfl ?_
                    refine w_iconst C dX11_finish_347 ?_
                    refine w_iload_n C 1 dX11_finish_348 rfl ?_
                    refine w_iload_n C 2 dX11_finish_349 rfl ?_
                    refine w_callV (As := [.int (iI 0), .int (iI fb), .int (iI fn)]) (rest := []) (w2 := [(h, .inr (9, [.ref a, .ref b, .ref tk, .ref re, .ref qu, .int (iI hd), .int (iI tl), .ref nm, .int (iI nl)])), (b, .inl (gI G, 4096, .inl (arI (su_wr y (0 / 64) fb fn)))), (tk, .inl (gZ G, 64, .inl (arB (tbt tm))))]) (st2 := []) C (ct_X11_superAt G (kl k) h a b tk re qu nm hd tl nl y 0 fb fn (by omega) (by omega) (by omega)) gX11_148 dX11_finish_350 0 rfl rfl rfl rfl rfl (Nat.le_of_ble_eq_true rfl) (by decide) [0, 1] rfl (by decide) [h, b] rfl rfl rfl rfl ?_
                    refine w_aload_n C 0 dX11_finish_353 rfl ?_
                    refine w_sipush C dX11_finish_354 (by decide) ?_
                    refine w_iload_n C 1 dX11_finish_357 rfl ?_
                    refine w_iload_n C 2 dX11_finish_358 rfl ?_
                    refine w_callV (As := [.int (iI 4032), .int (iI fb), .int (iI fn)]) (rest := []) (w2 := [(h, .inr (9, [.ref a, .ref b, .ref tk, .ref re, .ref qu, .int (iI hd), .int (iI tl), .ref nm, .int (iI nl)])), (b, .inl (gI G, 4096, .inl (arI (su_wr (su_wr y (0 / 64) fb fn) (4032 / 64) fb fn)))), (tk, .inl (gZ G, 64, .inl (arB (tbt tm))))]) (st2 := []) C (ct_X11_superAt G (kl k) h a b tk re qu nm hd tl nl (su_wr y (0 / 64) fb fn) 4032 fb fn (by omega) (by omega) (by omega)) gX11_148 dX11_finish_359 0 rfl rfl rfl rfl rfl (Nat.le_of_ble_eq_true rfl) (by decide) [0, 1] rfl (by decide) [h, b] rfl rfl rfl rfl ?_
                    refine w_ws (ws2 := [(h, .inr (9, [.ref a, .ref b, .ref tk, .ref re, .ref qu, .int (iI hd), .int (iI tl), .ref nm, .int (iI nl)])), (b, .inl (gI G, 4096, .inl (arI (stD tm d)))), (tk, .inl (gZ G, 64, .inl (arB (tbt tm))))]) (by rw [st_E hw, hp4, hf, hf2, show (32 - v).toNat = 0 by omega, mp2, fz, Int.add_zero]; rfl) ?_
                    exact w_retv hret dX11_finish_362 rfl rfl rfl ⟨(tbt tm), trivial, rfl, rfl⟩
                  · have m9 := MB_v hM (by omega) (by omega)
                    refine w_iload C 3 dX11_finish_271 rfl ?_
                    refine w_if_eq C 285 dX11_finish_273 rfl (by omega) (fun c_5 => ?_) (fun c_5 => ?_)
                    · refine w_iconst C dX11_finish_285 ?_
                      refine w_goto C 290 dX11_finish_286 rfl ?_
                      refine w_istore (lv2 := [(0, .ref h), (2, .int (iI fb)), (3, .int (iI fn)), (4, .int (iI v)), (5, .int (iI 1))]) C dX11_finish_290 (by decide) rfl ?_
                      refine w_iload_n C 2 dX11_finish_292 rfl ?_
                      refine w_iload C 4 dX11_finish_293 rfl ?_
                      refine w_if_eq C 302 dX11_finish_295 rfl (by omega) (fun c_6 => ?_) (fun c_6 => ?_)
                      · omega
                      · refine w_iconst C dX11_finish_298 ?_
                        refine w_goto C 303 dX11_finish_299 rfl ?_
                        refine w_iadd C dX11_finish_303 ?_
                        refine w_istore_n (lv2 := [(0, .ref h), (2, .int (iI fb)), (3, .int (iI (fn + 0))), (4, .int (iI v)), (5, .int (iI 1))]) C dX11_finish_304 (by decide) rfl ?_
                        refine w_aload_n C 0 dX11_finish_305 rfl ?_
                        refine w_get C 0 1 847 dX11_finish_306 rfl rfl inX11 (by decide) (by decide +kernel) rfl ?_
                        refine w_sipush C dX11_finish_309 (by decide) ?_
                        refine w_iload C 3 dX11_finish_312 rfl ?_
                        refine w_bipush C dX11_finish_314 (by decide) ?_
                        refine w_idiv C dX11_finish_316 (by omega) ?_
                        refine w_iadd C dX11_finish_317 ?_
                        refine w_dup2 C dX11_finish_318 rfl rfl ?_
                        refine w_iald C 1 dX11_finish_319 rfl (by omega) ?_
                        have b_7 := y.2 (456 + (v / 8))
                        refine w_iload C 4 dX11_finish_320 rfl ?_
                        refine w_if_eq C 337 dX11_finish_322 rfl (by omega) (fun c_8 => ?_) (fun c_8 => ?_)
                        · omega
                        · refine w_sipush C dX11_finish_325 (by decide) ?_
                          refine w_iload C 3 dX11_finish_328 rfl ?_
                          refine w_bipush C dX11_finish_330 (by decide) ?_
                          refine w_irem C dX11_finish_332 (by omega) ?_
                          refine w_ishr (v := (iI (mbv v))) C dX11_finish_333 (by unfold mbv; rw [iI_of]) ?_
                          refine w_goto C 338 dX11_finish_334 rfl ?_
                          refine w_iadd C dX11_finish_338 ?_
                          refine w_iast (ws2 := [(h, .inr (9, [.ref a, .ref b, .ref tk, .ref re, .ref qu, .int (iI hd), .int (iI tl), .ref nm, .int (iI nl)])), (b, .inl (gI G, 4096, .inl (arI (up y (456 + (v / 8)) ((y.1 (456 + (v / 8))) + (mbv v)))))), (tk, .inl (gZ G, 64, .inl (arB (tbt tm))))]) C 1 dX11_finish_339 rfl (by omega) (by omega) rfl ?_
                          refine w_ws (ws2 := [(h, .inr (9, [.ref a, .ref b, .ref tk, .ref re, .ref qu, .int (iI hd), .int (iI tl), .ref nm, .int (iI nl)])), (b, .inl (gI G, 4096, .inl (arI (up y (456 + (v / 8)) ((y.1 (456 + (v / 8))) + (mbv v)))))), (tk, .inl (gZ G, 64, .inl (arB (tbt tm))))]) (by first | rfl | rw [up_id]) ?_
                          refine w_iinc (lv2 := [(0, .ref h), (2, .int (iI fb)), (3, .int (iI (fn + 0))), (4, .int (iI (v + 1))), (5, .int (iI 1))]) C 3 dX11_finish_340 rfl (by decide) rfl ?_
                          refine w_goto C 264 dX11_finish_343 rfl ?_
                          refine w_lv (lv2 := [(0, .ref h), (2, .int (iI fb)), (3, .int (iI (fn + 0))), (4, .int (iI (v + 1)))]) [0, 1, 2, 3] rfl ?_
                          exact ih_264 _ (by omega) (v + 1) (fn + 0) (up y (456 + (v / 8)) ((y.1 (456 + (v / 8))) + (mbv v))) fb (by omega) (by first | exact MB_u hM (by omega) (by omega) | exact MB_k hM (by omega)) (fun j => by first | (rw [kd_lo (by omega)]; exact hK j) | exact hK j) (by rw [hp4, show (32 - v).toNat = (32 - (v + 1)).toNat + 1 by omega, mp2]; first | (rw [if_pos (show ¬ v = 0 ∧ kd y v = 0 by omega)]; done) | rw [if_neg (show ¬ (¬ v = 0 ∧ kd y v = 0) by omega), mu_D hM (by omega) (by omega) (by omega)]; rfl) hf (by rw [hf2, show (32 - v).toNat = (32 - (v + 1)).toNat + 1 by omega, fz, ← hK]; first | (rw [if_pos (show ¬ v = 0 ∧ kd y v = 0 by omega)]; omega) | (rw [if_neg (show ¬ (¬ v = 0 ∧ kd y v = 0) by omega)]; omega)) rfl
                    · refine w_aload_n C 0 dX11_finish_276 rfl ?_
                      refine w_iload C 3 dX11_finish_277 rfl ?_
                      refine w_callV (As := [.int (iI v)]) (rest := []) (w2 := [(h, .inr (9, [.ref a, .ref b, .ref tk, .ref re, .ref qu, .int (iI hd), .int (iI tl), .ref nm, .int (iI nl)])), (b, .inl (gI G, 4096, .inl (arI y))), (tk, .inl (gZ G, 64, .inl (arB (tbt tm))))]) (st2 := [.int (iI (kd y v))]) C (ct_X11_kind G (kl k) h a b tk re qu nm hd tl nl y v (by omega)) gX11_62 dX11_finish_279 0 rfl rfl rfl rfl rfl (Nat.le_of_ble_eq_true rfl) (by decide) [0, 1] rfl (by decide) [h, b] rfl rfl rfl rfl ?_
                      have f_9 := kd_rg y v
                      refine w_if_le C 289 dX11_finish_282 rfl (by omega) (fun c_10 => ?_) (fun c_10 => ?_)
                      · refine w_iconst C dX11_finish_289 ?_
                        refine w_istore (lv2 := [(0, .ref h), (2, .int (iI fb)), (3, .int (iI fn)), (4, .int (iI v)), (5, .int (iI 0))]) C dX11_finish_290 (by decide) rfl ?_
                        refine w_iload_n C 2 dX11_finish_292 rfl ?_
                        refine w_iload C 4 dX11_finish_293 rfl ?_
                        refine w_if_eq C 302 dX11_finish_295 rfl (by omega) (fun c_11 => ?_) (fun c_11 => ?_)
                        · refine w_iconst C dX11_finish_302 ?_
                          refine w_iadd C dX11_finish_303 ?_
                          refine w_istore_n (lv2 := [(0, .ref h), (2, .int (iI fb)), (3, .int (iI (fn + 1))), (4, .int (iI v)), (5, .int (iI 0))]) C dX11_finish_304 (by decide) rfl ?_
                          refine w_aload_n C 0 dX11_finish_305 rfl ?_
                          refine w_get C 0 1 847 dX11_finish_306 rfl rfl inX11 (by decide) (by decide +kernel) rfl ?_
                          refine w_sipush C dX11_finish_309 (by decide) ?_
                          refine w_iload C 3 dX11_finish_312 rfl ?_
                          refine w_bipush C dX11_finish_314 (by decide) ?_
                          refine w_idiv C dX11_finish_316 (by omega) ?_
                          refine w_iadd C dX11_finish_317 ?_
                          refine w_dup2 C dX11_finish_318 rfl rfl ?_
                          refine w_iald C 1 dX11_finish_319 rfl (by omega) ?_
                          have b_12 := y.2 (456 + (v / 8))
                          refine w_iload C 4 dX11_finish_320 rfl ?_
                          refine w_if_eq C 337 dX11_finish_322 rfl (by omega) (fun c_13 => ?_) (fun c_13 => ?_)
                          · refine w_iconst C dX11_finish_337 ?_
                            refine w_iadd C dX11_finish_338 ?_
                            refine w_iast (ws2 := [(h, .inr (9, [.ref a, .ref b, .ref tk, .ref re, .ref qu, .int (iI hd), .int (iI tl), .ref nm, .int (iI nl)])), (b, .inl (gI G, 4096, .inl (arI (up y (456 + (v / 8)) ((y.1 (456 + (v / 8))) + 0))))), (tk, .inl (gZ G, 64, .inl (arB (tbt tm))))]) C 1 dX11_finish_339 rfl (by omega) (by omega) rfl ?_
                            refine w_ws (ws2 := [(h, .inr (9, [.ref a, .ref b, .ref tk, .ref re, .ref qu, .int (iI hd), .int (iI tl), .ref nm, .int (iI nl)])), (b, .inl (gI G, 4096, .inl (arI y))), (tk, .inl (gZ G, 64, .inl (arB (tbt tm))))]) (by first | rfl | rw [up_id]) ?_
                            refine w_iinc (lv2 := [(0, .ref h), (2, .int (iI fb)), (3, .int (iI (fn + 1))), (4, .int (iI (v + 1))), (5, .int (iI 0))]) C 3 dX11_finish_340 rfl (by decide) rfl ?_
                            refine w_goto C 264 dX11_finish_343 rfl ?_
                            refine w_lv (lv2 := [(0, .ref h), (2, .int (iI fb)), (3, .int (iI (fn + 1))), (4, .int (iI (v + 1)))]) [0, 1, 2, 3] rfl ?_
                            exact ih_264 _ (by omega) (v + 1) (fn + 1) y fb (by omega) (by first | exact MB_u hM (by omega) (by omega) | exact MB_k hM (by omega)) (fun j => by first | (rw [kd_lo (by omega)]; exact hK j) | exact hK j) (by rw [hp4, show (32 - v).toNat = (32 - (v + 1)).toNat + 1 by omega, mp2]; first | (rw [if_pos (show ¬ v = 0 ∧ kd y v = 0 by omega)]; done) | rw [if_neg (show ¬ (¬ v = 0 ∧ kd y v = 0) by omega), mu_D hM (by omega) (by omega) (by omega)]; rfl) hf (by rw [hf2, show (32 - v).toNat = (32 - (v + 1)).toNat + 1 by omega, fz, ← hK]; first | (rw [if_pos (show ¬ v = 0 ∧ kd y v = 0 by omega)]; omega) | (rw [if_neg (show ¬ (¬ v = 0 ∧ kd y v = 0) by omega)]; omega)) rfl
                          · omega
                        · omega
                      · refine w_iconst C dX11_finish_285 ?_
                        refine w_goto C 290 dX11_finish_286 rfl ?_
                        refine w_istore (lv2 := [(0, .ref h), (2, .int (iI fb)), (3, .int (iI fn)), (4, .int (iI v)), (5, .int (iI 1))]) C dX11_finish_290 (by decide) rfl ?_
                        refine w_iload_n C 2 dX11_finish_292 rfl ?_
                        refine w_iload C 4 dX11_finish_293 rfl ?_
                        refine w_if_eq C 302 dX11_finish_295 rfl (by omega) (fun c_14 => ?_) (fun c_14 => ?_)
                        · omega
                        · refine w_iconst C dX11_finish_298 ?_
                          refine w_goto C 303 dX11_finish_299 rfl ?_
                          refine w_iadd C dX11_finish_303 ?_
                          refine w_istore_n (lv2 := [(0, .ref h), (2, .int (iI fb)), (3, .int (iI (fn + 0))), (4, .int (iI v)), (5, .int (iI 1))]) C dX11_finish_304 (by decide) rfl ?_
                          refine w_aload_n C 0 dX11_finish_305 rfl ?_
                          refine w_get C 0 1 847 dX11_finish_306 rfl rfl inX11 (by decide) (by decide +kernel) rfl ?_
                          refine w_sipush C dX11_finish_309 (by decide) ?_
                          refine w_iload C 3 dX11_finish_312 rfl ?_
                          refine w_bipush C dX11_finish_314 (by decide) ?_
                          refine w_idiv C dX11_finish_316 (by omega) ?_
                          refine w_iadd C dX11_finish_317 ?_
                          refine w_dup2 C dX11_finish_318 rfl rfl ?_
                          refine w_iald C 1 dX11_finish_319 rfl (by omega) ?_
                          have b_15 := y.2 (456 + (v / 8))
                          refine w_iload C 4 dX11_finish_320 rfl ?_
                          refine w_if_eq C 337 dX11_finish_322 rfl (by omega) (fun c_16 => ?_) (fun c_16 => ?_)
                          · omega
                          · refine w_sipush C dX11_finish_325 (by decide) ?_
                            refine w_iload C 3 dX11_finish_328 rfl ?_
                            refine w_bipush C dX11_finish_330 (by decide) ?_
                            refine w_irem C dX11_finish_332 (by omega) ?_
                            refine w_ishr (v := (iI (mbv v))) C dX11_finish_333 (by unfold mbv; rw [iI_of]) ?_
                            refine w_goto C 338 dX11_finish_334 rfl ?_
                            refine w_iadd C dX11_finish_338 ?_
                            refine w_iast (ws2 := [(h, .inr (9, [.ref a, .ref b, .ref tk, .ref re, .ref qu, .int (iI hd), .int (iI tl), .ref nm, .int (iI nl)])), (b, .inl (gI G, 4096, .inl (arI (up y (456 + (v / 8)) ((y.1 (456 + (v / 8))) + (mbv v)))))), (tk, .inl (gZ G, 64, .inl (arB (tbt tm))))]) C 1 dX11_finish_339 rfl (by omega) (by omega) rfl ?_
                            refine w_ws (ws2 := [(h, .inr (9, [.ref a, .ref b, .ref tk, .ref re, .ref qu, .int (iI hd), .int (iI tl), .ref nm, .int (iI nl)])), (b, .inl (gI G, 4096, .inl (arI (up y (456 + (v / 8)) ((y.1 (456 + (v / 8))) + (mbv v)))))), (tk, .inl (gZ G, 64, .inl (arB (tbt tm))))]) (by first | rfl | rw [up_id]) ?_
                            refine w_iinc (lv2 := [(0, .ref h), (2, .int (iI fb)), (3, .int (iI (fn + 0))), (4, .int (iI (v + 1))), (5, .int (iI 1))]) C 3 dX11_finish_340 rfl (by decide) rfl ?_
                            refine w_goto C 264 dX11_finish_343 rfl ?_
                            refine w_lv (lv2 := [(0, .ref h), (2, .int (iI fb)), (3, .int (iI (fn + 0))), (4, .int (iI (v + 1)))]) [0, 1, 2, 3] rfl ?_
                            exact ih_264 _ (by omega) (v + 1) (fn + 0) (up y (456 + (v / 8)) ((y.1 (456 + (v / 8))) + (mbv v))) fb (by omega) (by first | exact MB_u hM (by omega) (by omega) | exact MB_k hM (by omega)) (fun j => by first | (rw [kd_lo (by omega)]; exact hK j) | exact hK j) (by rw [hp4, show (32 - v).toNat = (32 - (v + 1)).toNat + 1 by omega, mp2]; first | (rw [if_pos (show ¬ v = 0 ∧ kd y v = 0 by omega)]; done) | rw [if_neg (show ¬ (¬ v = 0 ∧ kd y v = 0) by omega), mu_D hM (by omega) (by omega) (by omega)]; rfl) hf (by rw [hf2, show (32 - v).toNat = (32 - (v + 1)).toNat + 1 by omega, fz, ← hK]; first | (rw [if_pos (show ¬ v = 0 ∧ kd y v = 0 by omega)]; omega) | (rw [if_neg (show ¬ (¬ v = 0 ∧ kd y v = 0) by omega)]; omega)) rfl
              exact L_264 _ 0 0 y fb (by omega) (MBi_0 (fun c a b => by have w := hM2 (8 + c) (by omega) (by omega); rwa [show 448 + (8 + c) = 456 + c by omega] at w)) hK (by unfold mpF; rw [hp3, show (64 - u).toNat = 0 by omega, mp1, show ((32 : Int) - 0).toNat = 32 from rfl]) (by rw [hf, show (64 - u).toNat = 0 by omega, fbs]; omega) (by rw [show ((32 : Int) - 0).toNat = 32 from rfl]; omega) rfl
            · have m9 := MB_v hM (by omega) (by omega)
              refine w_iload C 3 dX11_finish_176 rfl ?_
              refine w_bipush C dX11_finish_178 (by decide) ?_
              refine w_icmp_lt C 200 dX11_finish_180 rfl (by omega) (fun c_17 => ?_) (fun c_17 => ?_)
              · refine w_iconst C dX11_finish_200 ?_
                refine w_goto C 205 dX11_finish_201 rfl ?_
                refine w_istore (lv2 := [(0, .ref h), (2, .int (iI fb)), (3, .int (iI 0)), (4, .int (iI u)), (5, .int (iI 1))]) C dX11_finish_205 (by decide) rfl ?_
                refine w_iload_n C 1 dX11_finish_207 rfl ?_
                refine w_iload C 4 dX11_finish_208 rfl ?_
                refine w_if_eq C 217 dX11_finish_210 rfl (by omega) (fun c_18 => ?_) (fun c_18 => ?_)
                · omega
                · refine w_iconst C dX11_finish_213 ?_
                  refine w_goto C 218 dX11_finish_214 rfl ?_
                  refine w_iadd C dX11_finish_218 ?_
                  refine w_istore_n (lv2 := [(0, .ref h), (2, .int (iI (fb + 0))), (3, .int (iI 0)), (4, .int (iI u)), (5, .int (iI 1))]) C dX11_finish_219 (by decide) rfl ?_
                  refine w_aload_n C 0 dX11_finish_220 rfl ?_
                  refine w_get C 0 1 847 dX11_finish_221 rfl rfl inX11 (by decide) (by decide +kernel) rfl ?_
                  refine w_sipush C dX11_finish_224 (by decide) ?_
                  refine w_iload C 3 dX11_finish_227 rfl ?_
                  refine w_bipush C dX11_finish_229 (by decide) ?_
                  refine w_idiv C dX11_finish_231 (by omega) ?_
                  refine w_iadd C dX11_finish_232 ?_
                  refine w_dup2 C dX11_finish_233 rfl rfl ?_
                  refine w_iald C 1 dX11_finish_234 rfl (by omega) ?_
                  have b_19 := y.2 (448 + (u / 8))
                  refine w_iload C 4 dX11_finish_235 rfl ?_
                  refine w_if_eq C 252 dX11_finish_237 rfl (by omega) (fun c_20 => ?_) (fun c_20 => ?_)
                  · omega
                  · refine w_sipush C dX11_finish_240 (by decide) ?_
                    refine w_iload C 3 dX11_finish_243 rfl ?_
                    refine w_bipush C dX11_finish_245 (by decide) ?_
                    refine w_irem C dX11_finish_247 (by omega) ?_
                    refine w_ishr (v := (iI (mbv u))) C dX11_finish_248 (by unfold mbv; rw [iI_of]) ?_
                    refine w_goto C 253 dX11_finish_249 rfl ?_
                    refine w_iadd C dX11_finish_253 ?_
                    refine w_iast (ws2 := [(h, .inr (9, [.ref a, .ref b, .ref tk, .ref re, .ref qu, .int (iI hd), .int (iI tl), .ref nm, .int (iI nl)])), (b, .inl (gI G, 4096, .inl (arI (up y (448 + (u / 8)) ((y.1 (448 + (u / 8))) + (mbv u)))))), (tk, .inl (gZ G, 64, .inl (arB (tbt tm))))]) C 1 dX11_finish_254 rfl (by omega) (by omega) rfl ?_
                    refine w_ws (ws2 := [(h, .inr (9, [.ref a, .ref b, .ref tk, .ref re, .ref qu, .int (iI hd), .int (iI tl), .ref nm, .int (iI nl)])), (b, .inl (gI G, 4096, .inl (arI (up y (448 + (u / 8)) ((y.1 (448 + (u / 8))) + (mbv u)))))), (tk, .inl (gZ G, 64, .inl (arB (tbt tm))))]) (by first | rfl | rw [up_id]) ?_
                    refine w_iinc (lv2 := [(0, .ref h), (2, .int (iI (fb + 0))), (3, .int (iI 0)), (4, .int (iI (u + 1))), (5, .int (iI 1))]) C 3 dX11_finish_255 rfl (by decide) rfl ?_
                    refine w_goto C 169 dX11_finish_258 rfl ?_
                    refine w_lv (lv2 := [(0, .ref h), (2, .int (iI (fb + 0))), (3, .int (iI 0)), (4, .int (iI (u + 1)))]) [0, 1, 2, 3] rfl ?_
                    exact ih_169 _ (by omega) (u + 1) (fb + 0) (up y (448 + (u / 8)) ((y.1 (448 + (u / 8))) + (mbv u))) (by omega) (by first | exact MB_u hM (by omega) (by omega) | exact MB_k hM (by omega)) (fun c a b => by first | (rw [up_at, if_neg (by omega)]; exact hM2 c a b) | exact hM2 c a b) (fun j => by first | (rw [kd_lo (by omega)]; exact hK j) | exact hK j) (by rw [hp3, show (64 - u).toNat = (64 - (u + 1)).toNat + 1 by omega, mp1]; first | (rw [if_pos (show dat u ∧ tbt tm u = false from ⟨by omega, hb9⟩)]; done) | rw [if_neg (show ¬ (dat u ∧ tbt tm u = false) from fun z => by first | omega | (have z2 := z.2; rw [hb9] at z2; cases z2)), mu_D hM (by omega) (by omega) (by omega)]) (by rw [hf, show (64 - u).toNat = (64 - (u + 1)).toNat + 1 by omega, fbs]; first | (rw [if_pos (show dat u ∧ tbt tm u = false from ⟨by omega, hb9⟩)]; omega) | (rw [if_neg (show ¬ (dat u ∧ tbt tm u = false) from fun z => by first | omega | (have z2 := z.2; rw [hb9] at z2; cases z2))]; omega)) rfl
              · refine w_iload C 3 dX11_finish_183 rfl ?_
                refine w_bipush C dX11_finish_185 (by decide) ?_
                refine w_icmp_eq C 200 dX11_finish_187 rfl (by omega) (fun c_21 => ?_) (fun c_21 => ?_)
                · refine w_iconst C dX11_finish_200 ?_
                  refine w_goto C 205 dX11_finish_201 rfl ?_
                  refine w_istore (lv2 := [(0, .ref h), (2, .int (iI fb)), (3, .int (iI 0)), (4, .int (iI u)), (5, .int (iI 1))]) C dX11_finish_205 (by decide) rfl ?_
                  refine w_iload_n C 1 dX11_finish_207 rfl ?_
                  refine w_iload C 4 dX11_finish_208 rfl ?_
                  refine w_if_eq C 217 dX11_finish_210 rfl (by omega) (fun c_22 => ?_) (fun c_22 => ?_)
                  · omega
                  · refine w_iconst C dX11_finish_213 ?_
                    refine w_goto C 218 dX11_finish_214 rfl ?_
                    refine w_iadd C dX11_finish_218 ?_
                    refine w_istore_n (lv2 := [(0, .ref h), (2, .int (iI (fb + 0))), (3, .int (iI 0)), (4, .int (iI u)), (5, .int (iI 1))]) C dX11_finish_219 (by decide) rfl ?_
                    refine w_aload_n C 0 dX11_finish_220 rfl ?_
                    refine w_get C 0 1 847 dX11_finish_221 rfl rfl inX11 (by decide) (by decide +kernel) rfl ?_
                    refine w_sipush C dX11_finish_224 (by decide) ?_
                    refine w_iload C 3 dX11_finish_227 rfl ?_
                    refine w_bipush C dX11_finish_229 (by decide) ?_
                    refine w_idiv C dX11_finish_231 (by omega) ?_
                    refine w_iadd C dX11_finish_232 ?_
                    refine w_dup2 C dX11_finish_233 rfl rfl ?_
                    refine w_iald C 1 dX11_finish_234 rfl (by omega) ?_
                    have b_23 := y.2 (448 + (u / 8))
                    refine w_iload C 4 dX11_finish_235 rfl ?_
                    refine w_if_eq C 252 dX11_finish_237 rfl (by omega) (fun c_24 => ?_) (fun c_24 => ?_)
                    · omega
                    · refine w_sipush C dX11_finish_240 (by decide) ?_
                      refine w_iload C 3 dX11_finish_243 rfl ?_
                      refine w_bipush C dX11_finish_245 (by decide) ?_
                      refine w_irem C dX11_finish_247 (by omega) ?_
                      refine w_ishr (v := (iI (mbv u))) C dX11_finish_248 (by unfold mbv; rw [iI_of]) ?_
                      refine w_goto C 253 dX11_finish_249 rfl ?_
                      refine w_iadd C dX11_finish_253 ?_
                      refine w_iast (ws2 := [(h, .inr (9, [.ref a, .ref b, .ref tk, .ref re, .ref qu, .int (iI hd), .int (iI tl), .ref nm, .int (iI nl)])), (b, .inl (gI G, 4096, .inl (arI (up y (448 + (u / 8)) ((y.1 (448 + (u / 8))) + (mbv u)))))), (tk, .inl (gZ G, 64, .inl (arB (tbt tm))))]) C 1 dX11_finish_254 rfl (by omega) (by omega) rfl ?_
                      refine w_ws (ws2 := [(h, .inr (9, [.ref a, .ref b, .ref tk, .ref re, .ref qu, .int (iI hd), .int (iI tl), .ref nm, .int (iI nl)])), (b, .inl (gI G, 4096, .inl (arI (up y (448 + (u / 8)) ((y.1 (448 + (u / 8))) + (mbv u)))))), (tk, .inl (gZ G, 64, .inl (arB (tbt tm))))]) (by first | rfl | rw [up_id]) ?_
                      refine w_iinc (lv2 := [(0, .ref h), (2, .int (iI (fb + 0))), (3, .int (iI 0)), (4, .int (iI (u + 1))), (5, .int (iI 1))]) C 3 dX11_finish_255 rfl (by decide) rfl ?_
                      refine w_goto C 169 dX11_finish_258 rfl ?_
                      refine w_lv (lv2 := [(0, .ref h), (2, .int (iI (fb + 0))), (3, .int (iI 0)), (4, .int (iI (u + 1)))]) [0, 1, 2, 3] rfl ?_
                      exact ih_169 _ (by omega) (u + 1) (fb + 0) (up y (448 + (u / 8)) ((y.1 (448 + (u / 8))) + (mbv u))) (by omega) (by first | exact MB_u hM (by omega) (by omega) | exact MB_k hM (by omega)) (fun c a b => by first | (rw [up_at, if_neg (by omega)]; exact hM2 c a b) | exact hM2 c a b) (fun j => by first | (rw [kd_lo (by omega)]; exact hK j) | exact hK j) (by rw [hp3, show (64 - u).toNat = (64 - (u + 1)).toNat + 1 by omega, mp1]; first | (rw [if_pos (show dat u ∧ tbt tm u = false from ⟨by omega, hb9⟩)]; done) | rw [if_neg (show ¬ (dat u ∧ tbt tm u = false) from fun z => by first | omega | (have z2 := z.2; rw [hb9] at z2; cases z2)), mu_D hM (by omega) (by omega) (by omega)]) (by rw [hf, show (64 - u).toNat = (64 - (u + 1)).toNat + 1 by omega, fbs]; first | (rw [if_pos (show dat u ∧ tbt tm u = false from ⟨by omega, hb9⟩)]; omega) | (rw [if_neg (show ¬ (dat u ∧ tbt tm u = false) from fun z => by first | omega | (have z2 := z.2; rw [hb9] at z2; cases z2))]; omega)) rfl
                · refine w_aload_n C 0 dX11_finish_190 rfl ?_
                  refine w_get C 0 2 848 dX11_finish_191 rfl rfl inX11 (by decide) (by decide +kernel) rfl ?_
                  refine w_iload C 3 dX11_finish_194 rfl ?_
                  refine w_zald C 2 dX11_finish_196 rfl (by omega) ?_
                  refine w_bz C 204 dX11_finish_197 rfl (fun c_25 => ?_) (fun c_25 => ?_)
                  · have hb9 : tbt tm u = false := c_25
                    refine w_iconst C dX11_finish_204 ?_
                    refine w_istore (lv2 := [(0, .ref h), (2, .int (iI fb)), (3, .int (iI 0)), (4, .int (iI u)), (5, .int (iI 0))]) C dX11_finish_205 (by decide) rfl ?_
                    refine w_iload_n C 1 dX11_finish_207 rfl ?_
                    refine w_iload C 4 dX11_finish_208 rfl ?_
                    refine w_if_eq C 217 dX11_finish_210 rfl (by omega) (fun c_26 => ?_) (fun c_26 => ?_)
                    · refine w_iconst C dX11_finish_217 ?_
                      refine w_iadd C dX11_finish_218 ?_
                      refine w_istore_n (lv2 := [(0, .ref h), (2, .int (iI (fb + 1))), (3, .int (iI 0)), (4, .int (iI u)), (5, .int (iI 0))]) C dX11_finish_219 (by decide) rfl ?_
                      refine w_aload_n C 0 dX11_finish_220 rfl ?_
                      refine w_get C 0 1 847 dX11_finish_221 rfl rfl inX11 (by decide) (by decide +kernel) rfl ?_
                      refine w_sipush C dX11_finish_224 (by decide) ?_
                      refine w_iload C 3 dX11_finish_227 rfl ?_
                      refine w_bipush C dX11_finish_229 (by decide) ?_
                      refine w_idiv C dX11_finish_231 (by omega) ?_
                      refine w_iadd C dX11_finish_232 ?_
                      refine w_dup2 C dX11_finish_233 rfl rfl ?_
                      refine w_iald C 1 dX11_finish_234 rfl (by omega) ?_
                      have b_27 := y.2 (448 + (u / 8))
                      refine w_iload C 4 dX11_finish_235 rfl ?_
                      refine w_if_eq C 252 dX11_finish_237 rfl (by omega) (fun c_28 => ?_) (fun c_28 => ?_)
                      · refine w_iconst C dX11_finish_252 ?_
                        refine w_iadd C dX11_finish_253 ?_
                        refine w_iast (ws2 := [(h, .inr (9, [.ref a, .ref b, .ref tk, .ref re, .ref qu, .int (iI hd), .int (iI tl), .ref nm, .int (iI nl)])), (b, .inl (gI G, 4096, .inl (arI (up y (448 + (u / 8)) ((y.1 (448 + (u / 8))) + 0))))), (tk, .inl (gZ G, 64, .inl (arB (tbt tm))))]) C 1 dX11_finish_254 rfl (by omega) (by omega) rfl ?_
                        refine w_ws (ws2 := [(h, .inr (9, [.ref a, .ref b, .ref tk, .ref re, .ref qu, .int (iI hd), .int (iI tl), .ref nm, .int (iI nl)])), (b, .inl (gI G, 4096, .inl (arI y))), (tk, .inl (gZ G, 64, .inl (arB (tbt tm))))]) (by first | rfl | rw [up_id]) ?_
                        refine w_iinc (lv2 := [(0, .ref h), (2, .int (iI (fb + 1))), (3, .int (iI 0)), (4, .int (iI (u + 1))), (5, .int (iI 0))]) C 3 dX11_finish_255 rfl (by decide) rfl ?_
                        refine w_goto C 169 dX11_finish_258 rfl ?_
                        refine w_lv (lv2 := [(0, .ref h), (2, .int (iI (fb + 1))), (3, .int (iI 0)), (4, .int (iI (u + 1)))]) [0, 1, 2, 3] rfl ?_
                        exact ih_169 _ (by omega) (u + 1) (fb + 1) y (by omega) (by first | exact MB_u hM (by omega) (by omega) | exact MB_k hM (by omega)) (fun c a b => by first | (rw [up_at, if_neg (by omega)]; exact hM2 c a b) | exact hM2 c a b) (fun j => by first | (rw [kd_lo (by omega)]; exact hK j) | exact hK j) (by rw [hp3, show (64 - u).toNat = (64 - (u + 1)).toNat + 1 by omega, mp1]; first | (rw [if_pos (show dat u ∧ tbt tm u = false from ⟨by omega, hb9⟩)]; done) | rw [if_neg (show ¬ (dat u ∧ tbt tm u = false) from fun z => by first | omega | (have z2 := z.2; rw [hb9] at z2; cases z2)), mu_D hM (by omega) (by omega) (by omega)]) (by rw [hf, show (64 - u).toNat = (64 - (u + 1)).toNat + 1 by omega, fbs]; first | (rw [if_pos (show dat u ∧ tbt tm u = false from ⟨by omega, hb9⟩)]; omega) | (rw [if_neg (show ¬ (dat u ∧ tbt tm u = false) from fun z => by first | omega | (have z2 := z.2; rw [hb9] at z2; cases z2))]; omega)) rfl
                      · omega
                    · omega
                  · have hb9 : tbt tm u = true := c_25
                    refine w_iconst C dX11_finish_200 ?_
                    refine w_goto C 205 dX11_finish_201 rfl ?_
                    refine w_istore (lv2 := [(0, .ref h), (2, .int (iI fb)), (3, .int (iI 0)), (4, .int (iI u)), (5, .int (iI 1))]) C dX11_finish_205 (by decide) rfl ?_
                    refine w_iload_n C 1 dX11_finish_207 rfl ?_
                    refine w_iload C 4 dX11_finish_208 rfl ?_
                    refine w_if_eq C 217 dX11_finish_210 rfl (by omega) (fun c_29 => ?_) (fun c_29 => ?_)
                    · omega
                    · refine w_iconst C dX11_finish_213 ?_
                      refine w_goto C 218 dX11_finish_214 rfl ?_
                      refine w_iadd C dX11_finish_218 ?_
                      refine w_istore_n (lv2 := [(0, .ref h), (2, .int (iI (fb + 0))), (3, .int (iI 0)), (4, .int (iI u)), (5, .int (iI 1))]) C dX11_finish_219 (by decide) rfl ?_
                      refine w_aload_n C 0 dX11_finish_220 rfl ?_
                      refine w_get C 0 1 847 dX11_finish_221 rfl rfl inX11 (by decide) (by decide +kernel) rfl ?_
                      refine w_sipush C dX11_finish_224 (by decide) ?_
                      refine w_iload C 3 dX11_finish_227 rfl ?_
                      refine w_bipush C dX11_finish_229 (by decide) ?_
                      refine w_idiv C dX11_finish_231 (by omega) ?_
                      refine w_iadd C dX11_finish_232 ?_
                      refine w_dup2 C dX11_finish_233 rfl rfl ?_
                      refine w_iald C 1 dX11_finish_234 rfl (by omega) ?_
                      have b_30 := y.2 (448 + (u / 8))
                      refine w_iload C 4 dX11_finish_235 rfl ?_
                      refine w_if_eq C 252 dX11_finish_237 rfl (by omega) (fun c_31 => ?_) (fun c_31 => ?_)
                      · omega
                      · refine w_sipush C dX11_finish_240 (by decide) ?_
                        refine w_iload C 3 dX11_finish_243 rfl ?_
                        refine w_bipush C dX11_finish_245 (by decide) ?_
                        refine w_irem C dX11_finish_247 (by omega) ?_
                        refine w_ishr (v := (iI (mbv u))) C dX11_finish_248 (by unfold mbv; rw [iI_of]) ?_
                        refine w_goto C 253 dX11_finish_249 rfl ?_
                        refine w_iadd C dX11_finish_253 ?_
                        refine w_iast (ws2 := [(h, .inr (9, [.ref a, .ref b, .ref tk, .ref re, .ref qu, .int (iI hd), .int (iI tl), .ref nm, .int (iI nl)])), (b, .inl (gI G, 4096, .inl (arI (up y (448 + (u / 8)) ((y.1 (448 + (u / 8))) + (mbv u)))))), (tk, .inl (gZ G, 64, .inl (arB (tbt tm))))]) C 1 dX11_finish_254 rfl (by omega) (by omega) rfl ?_
                        refine w_ws (ws2 := [(h, .inr (9, [.ref a, .ref b, .ref tk, .ref re, .ref qu, .int (iI hd), .int (iI tl), .ref nm, .int (iI nl)])), (b, .inl (gI G, 4096, .inl (arI (up y (448 + (u / 8)) ((y.1 (448 + (u / 8))) + (mbv u)))))), (tk, .inl (gZ G, 64, .inl (arB (tbt tm))))]) (by first | rfl | rw [up_id]) ?_
                        refine w_iinc (lv2 := [(0, .ref h), (2, .int (iI (fb + 0))), (3, .int (iI 0)), (4, .int (iI (u + 1))), (5, .int (iI 1))]) C 3 dX11_finish_255 rfl (by decide) rfl ?_
                        refine w_goto C 169 dX11_finish_258 rfl ?_
                        refine w_lv (lv2 := [(0, .ref h), (2, .int (iI (fb + 0))), (3, .int (iI 0)), (4, .int (iI (u + 1)))]) [0, 1, 2, 3] rfl ?_
                        exact ih_169 _ (by omega) (u + 1) (fb + 0) (up y (448 + (u / 8)) ((y.1 (448 + (u / 8))) + (mbv u))) (by omega) (by first | exact MB_u hM (by omega) (by omega) | exact MB_k hM (by omega)) (fun c a b => by first | (rw [up_at, if_neg (by omega)]; exact hM2 c a b) | exact hM2 c a b) (fun j => by first | (rw [kd_lo (by omega)]; exact hK j) | exact hK j) (by rw [hp3, show (64 - u).toNat = (64 - (u + 1)).toNat + 1 by omega, mp1]; first | (rw [if_pos (show dat u ∧ tbt tm u = false from ⟨by omega, hb9⟩)]; done) | rw [if_neg (show ¬ (dat u ∧ tbt tm u = false) from fun z => by first | omega | (have z2 := z.2; rw [hb9] at z2; cases z2)), mu_D hM (by omega) (by omega) (by omega)]) (by rw [hf, show (64 - u).toNat = (64 - (u + 1)).toNat + 1 by omega, fbs]; first | (rw [if_pos (show dat u ∧ tbt tm u = false from ⟨by omega, hb9⟩)]; omega) | (rw [if_neg (show ¬ (dat u ∧ tbt tm u = false) from fun z => by first | omega | (have z2 := z.2; rw [hb9] at z2; cases z2))]; omega)) rfl
        exact L_169 _ 0 0 (im_wipe (fnI d 31 1 d) 448 64) (by omega) (MBi_0 (fun c a b => wipe_in _ (by unfold rgP; omega) (by omega))) (fun c a b => wipe_in _ (by unfold rgP; omega) (by omega)) (fun j => kd_wm j) (by rw [show ((64 : Int) - 0).toNat = 64 from rfl]) (by rw [show ((64 : Int) - 0).toNat = 64 from rfl]; omega) rfl
      · have k8 := k9 (by omega)
        have r9 := Lk_rg hw h1.1 (by omega)
        refine w_aload_n C 0 dX11_finish_8 rfl ?_
        refine w_iload_n C 1 dX11_finish_9 rfl ?_
        refine w_callV (As := [.int (iI i)]) (rest := []) (w2 := [(h, .inr (9, [.ref a, .ref b, .ref tk, .ref re, .ref qu, .int (iI hd), .int (iI tl), .ref nm, .int (iI nl)])), (b, .inl (gI G, 4096, .inl (arI x))), (tk, .inl (gZ G, 64, .inl (arB t)))]) (st2 := [.int (iI (kd x i))]) C (ct_X11_kind G (kl k) h a b tk re qu nm hd tl nl x i (by omega)) gX11_62 dX11_finish_10 0 rfl rfl rfl rfl rfl (Nat.le_of_ble_eq_true rfl) (by decide) [0, 1] rfl (by decide) [h, b] rfl rfl rfl rfl ?_
        have f_32 := kd_rg x i
        refine w_iconst C dX11_finish_13 ?_
        refine w_icmp_ne C 36 dX11_finish_14 rfl (by omega) (fun c_33 => ?_) (fun c_33 => ?_)
        · refine w_aload_n C 0 dX11_finish_36 rfl ?_
          refine w_iload_n C 1 dX11_finish_37 rfl ?_
          refine w_callV (As := [.int (iI i)]) (rest := []) (w2 := [(h, .inr (9, [.ref a, .ref b, .ref tk, .ref re, .ref qu, .int (iI hd), .int (iI tl), .ref nm, .int (iI nl)])), (b, .inl (gI G, 4096, .inl (arI x))), (tk, .inl (gZ G, 64, .inl (arB t)))]) (st2 := [.int (iI (kd x i))]) C (ct_X11_kind G (kl k) h a b tk re qu nm hd tl nl x i (by omega)) gX11_62 dX11_finish_38 0 rfl rfl rfl rfl rfl (Nat.le_of_ble_eq_true rfl) (by decide) [0, 1] rfl (by decide) [h, b] rfl rfl rfl rfl ?_
          have f_34 := kd_rg x i
          refine w_iconst C dX11_finish_41 ?_
          refine w_icmp_ne C 112 dX11_finish_42 rfl (by omega) (fun c_35 => ?_) (fun c_35 => ?_)
          · refine w_aload_n C 0 dX11_finish_112 rfl ?_
            refine w_iload_n C 1 dX11_finish_113 rfl ?_
            refine w_callV (As := [.int (iI i)]) (rest := []) (w2 := [(h, .inr (9, [.ref a, .ref b, .ref tk, .ref re, .ref qu, .int (iI hd), .int (iI tl), .ref nm, .int (iI nl)])), (b, .inl (gI G, 4096, .inl (arI x))), (tk, .inl (gZ G, 64, .inl (arB t)))]) (st2 := [.int (iI (kd x i))]) C (ct_X11_kind G (kl k) h a b tk re qu nm hd tl nl x i (by omega)) gX11_62 dX11_finish_114 0 rfl rfl rfl rfl rfl (Nat.le_of_ble_eq_true rfl) (by decide) [0, 1] rfl (by decide) [h, b] rfl rfl rfl rfl ?_
            have f_36 := kd_rg x i
            refine w_st (st2 := [.int (iI (kd x i))]) (by first | rfl | rw [kd_up (by omega)]) ?_
            refine w_if_le C 141 dX11_finish_117 rfl (by omega) (fun c_37 => ?_) (fun c_37 => ?_)
            · refine w_arr (e := fnS d x i) (ws2 := [(h, .inr (9, [.ref a, .ref b, .ref tk, .ref re, .ref qu, .int (iI hd), .int (iI tl), .ref nm, .int (iI nl)])), (b, .inl (gI G, 4096, .inl (arI (fnS d x i)))), (tk, .inl (gZ G, 64, .inl (arB t)))]) 1 rfl (fun j _ _ => congrArg (fun z : Im => z.1 j) (by unfold fnS; rw [← kE]; first | (exfalso; omega) | (rw [if_pos (by omega)]; done) | (rw [if_neg (by omega), L9]; unfold ino_sum; rw [show 512 + i * 16 = 512 + 16 * i by omega]))) rfl ?_
              refine w_iinc (lv2 := [(0, .ref h), (1, .int (iI (i + 1)))]) C 1 dX11_finish_141 rfl (by decide) rfl ?_
              refine w_goto C 2 dX11_finish_144 rfl ?_
              exact ih_2 _ (by omega) (i + 1) (fnS d x i) (by omega) (FI_s hw h1.1 (by omega) hF) (by rw [hp, show (32 - i).toNat = (32 - (i + 1)).toNat + 1 by omega, fnI]) rfl
            · refine w_aload_n C 0 dX11_finish_120 rfl ?_
              refine w_iload_n C 1 dX11_finish_121 rfl ?_
              refine w_callS (As := [.int (iI i)]) (rest := [.ref h]) (w2 := [(h, .inr (9, [.ref a, .ref b, .ref tk, .ref re, .ref qu, .int (iI hd), .int (iI tl), .ref nm, .int (iI nl)])), (b, .inl (gI G, 4096, .inl (arI x))), (tk, .inl (gZ G, 64, .inl (arB t)))]) (st2 := [.int (iI (512 + 16 * i)), .ref h]) C (ct_X11_base G (kl k) i) gX11_42 dX11_finish_122 rfl rfl (Nat.le_of_ble_eq_true rfl) (by decide) [] rfl (by decide) [] rfl rfl rfl rfl ?_
              refine w_bipush C dX11_finish_125 (by decide) ?_
              refine w_iadd C dX11_finish_127 ?_
              refine w_aload_n C 0 dX11_finish_128 rfl ?_
              refine w_iload_n C 1 dX11_finish_129 rfl ?_
              refine w_callS (As := [.int (iI i)]) (rest := [.ref h, .int (iI ((512 + 16 * i) + 14)), .ref h]) (w2 := [(h, .inr (9, [.ref a, .ref b, .ref tk, .ref re, .ref qu, .int (iI hd), .int (iI tl), .ref nm, .int (iI nl)])), (b, .inl (gI G, 4096, .inl (arI x))), (tk, .inl (gZ G, 64, .inl (arB t)))]) (st2 := [.int (iI (512 + 16 * i)), .ref h, .int (iI ((512 + 16 * i) + 14)), .ref h]) C (ct_X11_base G (kl k) i) gX11_42 dX11_finish_130 rfl rfl (Nat.le_of_ble_eq_true rfl) (by decide) [] rfl (by decide) [] rfl rfl rfl rfl ?_
              refine w_bipush C dX11_finish_133 (by decide) ?_
              refine w_callV (As := [.int (iI (512 + 16 * i)), .int (iI 14)]) (rest := [.int (iI ((512 + 16 * i) + 14)), .ref h]) (w2 := [(h, .inr (9, [.ref a, .ref b, .ref tk, .ref re, .ref qu, .int (iI hd), .int (iI tl), .ref nm, .int (iI nl)])), (b, .inl (gI G, 4096, .inl (arI x))), (tk, .inl (gZ G, 64, .inl (arB t)))]) (st2 := [.int (iI (im_sum x (512 + 16 * i) 14)), .int (iI ((512 + 16 * i) + 14)), .ref h]) C (ct_X11_sum G (kl k) h a b tk re qu nm hd tl nl x (512 + 16 * i) 14 (by unfold rgP; omega)) gX11_38 dX11_finish_135 0 rfl rfl rfl rfl rfl (Nat.le_of_ble_eq_true rfl) (by decide) [0, 1] rfl (by decide) [h, b] rfl rfl rfl rfl ?_
              have f_38 := im_sum_rg x (512 + 16 * i) 14
              refine w_callV (As := [.int (iI ((512 + 16 * i) + 14)), .int (iI (im_sum x (512 + 16 * i) 14))]) (rest := []) (w2 := [(h, .inr (9, [.ref a, .ref b, .ref tk, .ref re, .ref qu, .int (iI hd), .int (iI tl), .ref nm, .int (iI nl)])), (b, .inl (gI G, 4096, .inl (arI (im_put x ((512 + 16 * i) + 14) (im_sum x (512 + 16 * i) 14))))), (tk, .inl (gZ G, 64, .inl (arB t)))]) (st2 := []) C (ct_X11_put G (kl k) h a b tk re qu nm hd tl nl x ((512 + 16 * i) + 14) (im_sum x (512 + 16 * i) 14) (by omega) (by omega)) gX11_103 dX11_finish_138 0 rfl rfl rfl rfl rfl (Nat.le_of_ble_eq_true rfl) (by decide) [0, 1] rfl (by decide) [h, b] rfl rfl rfl rfl ?_
              refine w_arr (e := fnS d x i) (ws2 := [(h, .inr (9, [.ref a, .ref b, .ref tk, .ref re, .ref qu, .int (iI hd), .int (iI tl), .ref nm, .int (iI nl)])), (b, .inl (gI G, 4096, .inl (arI (fnS d x i)))), (tk, .inl (gZ G, 64, .inl (arB t)))]) 1 rfl (fun j _ _ => congrArg (fun z : Im => z.1 j) (by unfold fnS; rw [← kE]; first | (exfalso; omega) | (rw [if_pos (by omega)]; done) | (rw [if_neg (by omega), L9]; unfold ino_sum; rw [show 512 + i * 16 = 512 + 16 * i by omega]))) rfl ?_
              refine w_iinc (lv2 := [(0, .ref h), (1, .int (iI (i + 1)))]) C 1 dX11_finish_141 rfl (by decide) rfl ?_
              refine w_goto C 2 dX11_finish_144 rfl ?_
              exact ih_2 _ (by omega) (i + 1) (fnS d x i) (by omega) (FI_s hw h1.1 (by omega) hF) (by rw [hp, show (32 - i).toNat = (32 - (i + 1)).toNat + 1 by omega, fnI]) rfl
          · have hdr : drI x i := ⟨h1.1, by omega, c_35⟩
            have hs9 := hWx.szE hdr
            have c9 : cnt x i = sz x i / 16 := by unfold cnt; rw [if_pos hdr.2.2, hWx.ecE hdr]
            refine w_iconst C dX11_finish_45 ?_
            refine w_istore_n (lv2 := [(0, .ref h), (1, .int (iI i)), (2, .int (iI 2))]) C dX11_finish_46 (by decide) rfl ?_
            refine w_iconst C dX11_finish_47 ?_
            refine w_istore_n (lv2 := [(0, .ref h), (1, .int (iI i)), (2, .int (iI 2)), (3, .int (iI 2))]) C dX11_finish_48 (by decide) rfl ?_
            have L_49 : ∀ (nn_49 : Nat) (p : Int) (n : Int), (2 ≤ p ∧ p ≤ sz x i / 16 ∧ 2 ≤ n ∧ n ≤ p) → (Lk d i = n + dc1 x i (sz x i / 16 - p).toNat p) → (sz x i / 16 - p).toNat = nn_49 → Wd G k 6 0 0 [(h, .inr (9, [.ref a, .ref b, .ref tk, .ref re, .ref qu, .int (iI hd), .int (iI tl), .ref nm, .int (iI nl)])), (b, .inl (gI G, 4096, .inl (arI x))), (tk, .inl (gZ G, 64, .inl (arB t)))] 49 [(0, .ref h), (1, .int (iI i)), (2, .int (iI n)), (3, .int (iI p))] [] := by
              intro nn_49
              induction nn_49 using Nat.strongRecOn with
              | ind nn_49 ih_49 =>
                intro p n h3 hp2 hm_49
                refine w_iload_n C 3 dX11_finish_49 rfl ?_
                refine w_aload_n C 0 dX11_finish_50 rfl ?_
                refine w_iload_n C 1 dX11_finish_51 rfl ?_
                refine w_callV (As := [.int (iI i)]) (rest := [.int (iI p)]) (w2 := [(h, .inr (9, [.ref a, .ref b, .ref tk, .ref re, .ref qu, .int (iI hd), .int (iI tl), .ref nm, .int (iI nl)])), (b, .inl (gI G, 4096, .inl (arI x))), (tk, .inl (gZ G, 64, .inl (arB t)))]) (st2 := [.int (iI (sz x i / 16)), .int (iI p)]) C (ct_X11_places G (kl k) h a b tk re qu nm hd tl nl x i (by omega)) gX11_106 dX11_finish_52 0 rfl rfl rfl rfl rfl (Nat.le_of_ble_eq_true rfl) (by decide) [0, 1] rfl (by decide) [h, b] rfl rfl rfl rfl ?_
                have f_39 := sz_rg x i
                refine w_icmp_ge C 100 dX11_finish_55 rfl (by omega) (fun c_40 => ?_) (fun c_40 => ?_)
                · have L9 : Lk d i = n := by rw [hp2, show (sz x i / 16 - p).toNat = 0 by omega, dc1]; omega
                  refine w_aload_n C 0 dX11_finish_100 rfl ?_
                  refine w_get C 0 1 847 dX11_finish_101 rfl rfl inX11 (by decide) (by decide +kernel) rfl ?_
                  refine w_iload_n C 1 dX11_finish_104 rfl ?_
                  refine w_callS (As := [.int (iI i)]) (rest := [.ref b]) (w2 := [(h, .inr (9, [.ref a, .ref b, .ref tk, .ref re, .ref qu, .int (iI hd), .int (iI tl), .ref nm, .int (iI nl)])), (b, .inl (gI G, 4096, .inl (arI x))), (tk, .inl (gZ G, 64, .inl (arB t)))]) (st2 := [.int (iI (512 + 16 * i)), .ref b]) C (ct_X11_base G (kl k) i) gX11_42 dX11_finish_105 rfl rfl (Nat.le_of_ble_eq_true rfl) (by decide) [] rfl (by decide) [] rfl rfl rfl rfl ?_
                  refine w_iconst C dX11_finish_108 ?_
                  refine w_iadd C dX11_finish_109 ?_
                  refine w_iload_n C 2 dX11_finish_110 rfl ?_
                  refine w_iast (ws2 := [(h, .inr (9, [.ref a, .ref b, .ref tk, .ref re, .ref qu, .int (iI hd), .int (iI tl), .ref nm, .int (iI nl)])), (b, .inl (gI G, 4096, .inl (arI (up x ((512 + 16 * i) + 1) n)))), (tk, .inl (gZ G, 64, .inl (arB t)))]) C 1 dX11_finish_111 rfl (by omega) (by omega) rfl ?_
                  refine w_aload_n C 0 dX11_finish_112 rfl ?_
                  refine w_iload_n C 1 dX11_finish_113 rfl ?_
                  refine w_callV (As := [.int (iI i)]) (rest := []) (w2 := [(h, .inr (9, [.ref a, .ref b, .ref tk, .ref re, .ref qu, .int (iI hd), .int (iI tl), .ref nm, .int (iI nl)])), (b, .inl (gI G, 4096, .inl (arI (up x ((512 + 16 * i) + 1) n)))), (tk, .inl (gZ G, 64, .inl (arB t)))]) (st2 := [.int (iI (kd (up x ((512 + 16 * i) + 1) n) i))]) C (ct_X11_kind G (kl k) h a b tk re qu nm hd tl nl (up x ((512 + 16 * i) + 1) n) i (by omega)) gX11_62 dX11_finish_114 0 rfl rfl rfl rfl rfl (Nat.le_of_ble_eq_true rfl) (by decide) [0, 1] rfl (by decide) [h, b] rfl rfl rfl rfl ?_
                  have f_41 := kd_rg (up x ((512 + 16 * i) + 1) n) i
                  refine w_st (st2 := [.int (iI (kd x i))]) (by first | rfl | rw [kd_up (by omega)]) ?_
                  refine w_if_le C 141 dX11_finish_117 rfl (by omega) (fun c_42 => ?_) (fun c_42 => ?_)
                  · refine w_arr (e := fnS d x i) (ws2 := [(h, .inr (9, [.ref a, .ref b, .ref tk, .ref re, .ref qu, .int (iI hd), .int (iI tl), .ref nm, .int (iI nl)])), (b, .inl (gI G, 4096, .inl (arI (fnS d x i)))), (tk, .inl (gZ G, 64, .inl (arB t)))]) 1 rfl (fun j _ _ => congrArg (fun z : Im => z.1 j) (by unfold fnS; rw [← kE]; first | (exfalso; omega) | (rw [if_pos (by omega)]; done) | (rw [if_neg (by omega), L9]; unfold ino_sum; rw [show 512 + i * 16 = 512 + 16 * i by omega]))) rfl ?_
                    refine w_iinc (lv2 := [(0, .ref h), (1, .int (iI (i + 1))), (2, .int (iI n)), (3, .int (iI p))]) C 1 dX11_finish_141 rfl (by decide) rfl ?_
                    refine w_goto C 2 dX11_finish_144 rfl ?_
                    refine w_lv (lv2 := [(0, .ref h), (1, .int (iI (i + 1)))]) [0, 1] rfl ?_
                    exact ih_2 _ (by omega) (i + 1) (fnS d x i) (by omega) (FI_s hw h1.1 (by omega) hF) (by rw [hp, show (32 - i).toNat = (32 - (i + 1)).toNat + 1 by omega, fnI]) rfl
                  · refine w_aload_n C 0 dX11_finish_120 rfl ?_
                    refine w_iload_n C 1 dX11_finish_121 rfl ?_
                    refine w_callS (As := [.int (iI i)]) (rest := [.ref h]) (w2 := [(h, .inr (9, [.ref a, .ref b, .ref tk, .ref re, .ref qu, .int (iI hd), .int (iI tl), .ref nm, .int (iI nl)])), (b, .inl (gI G, 4096, .inl (arI (up x ((512 + 16 * i) + 1) n)))), (tk, .inl (gZ G, 64, .inl (arB t)))]) (st2 := [.int (iI (512 + 16 * i)), .ref h]) C (ct_X11_base G (kl k) i) gX11_42 dX11_finish_122 rfl rfl (Nat.le_of_ble_eq_true rfl) (by decide) [] rfl (by decide) [] rfl rfl rfl rfl ?_
                    refine w_bipush C dX11_finish_125 (by decide) ?_
                    refine w_iadd C dX11_finish_127 ?_
                    refine w_aload_n C 0 dX11_finish_128 rfl ?_
                    refine w_iload_n C 1 dX11_finish_129 rfl ?_
                    refine w_callS (As := [.int (iI i)]) (rest := [.ref h, .int (iI ((512 + 16 * i) + 14)), .ref h]) (w2 := [(h, .inr (9, [.ref a, .ref b, .ref tk, .ref re, .ref qu, .int (iI hd), .int (iI tl), .ref nm, .int (iI nl)])), (b, .inl (gI G, 4096, .inl (arI (up x ((512 + 16 * i) + 1) n)))), (tk, .inl (gZ G, 64, .inl (arB t)))]) (st2 := [.int (iI (512 + 16 * i)), .ref h, .int (iI ((512 + 16 * i) + 14)), .ref h]) C (ct_X11_base G (kl k) i) gX11_42 dX11_finish_130 rfl rfl (Nat.le_of_ble_eq_true rfl) (by decide) [] rfl (by decide) [] rfl rfl rfl rfl ?_
                    refine w_bipush C dX11_finish_133 (by decide) ?_
                    refine w_callV (As := [.int (iI (512 + 16 * i)), .int (iI 14)]) (rest := [.int (iI ((512 + 16 * i) + 14)), .ref h]) (w2 := [(h, .inr (9, [.ref a, .ref b, .ref tk, .ref re, .ref qu, .int (iI hd), .int (iI tl), .ref nm, .int (iI nl)])), (b, .inl (gI G, 4096, .inl (arI (up x ((512 + 16 * i) + 1) n)))), (tk, .inl (gZ G, 64, .inl (arB t)))]) (st2 := [.int (iI (im_sum (up x ((512 + 16 * i) + 1) n) (512 + 16 * i) 14)), .int (iI ((512 + 16 * i) + 14)), .ref h]) C (ct_X11_sum G (kl k) h a b tk re qu nm hd tl nl (up x ((512 + 16 * i) + 1) n) (512 + 16 * i) 14 (by unfold rgP; omega)) gX11_38 dX11_finish_135 0 rfl rfl rfl rfl rfl (Nat.le_of_ble_eq_true rfl) (by decide) [0, 1] rfl (by decide) [h, b] rfl rfl rfl rfl ?_
                    have f_43 := im_sum_rg (up x ((512 + 16 * i) + 1) n) (512 + 16 * i) 14
                    refine w_callV (As := [.int (iI ((512 + 16 * i) + 14)), .int (iI (im_sum (up x ((512 + 16 * i) + 1) n) (512 + 16 * i) 14))]) (rest := []) (w2 := [(h, .inr (9, [.ref a, .ref b, .ref tk, .ref re, .ref qu, .int (iI hd), .int (iI tl), .ref nm, .int (iI nl)])), (b, .inl (gI G, 4096, .inl (arI (im_put (up x ((512 + 16 * i) + 1) n) ((512 + 16 * i) + 14) (im_sum (up x ((512 + 16 * i) + 1) n) (512 + 16 * i) 14))))), (tk, .inl (gZ G, 64, .inl (arB t)))]) (st2 := []) C (ct_X11_put G (kl k) h a b tk re qu nm hd tl nl (up x ((512 + 16 * i) + 1) n) ((512 + 16 * i) + 14) (im_sum (up x ((512 + 16 * i) + 1) n) (512 + 16 * i) 14) (by omega) (by omega)) gX11_103 dX11_finish_138 0 rfl rfl rfl rfl rfl (Nat.le_of_ble_eq_true rfl) (by decide) [0, 1] rfl (by decide) [h, b] rfl rfl rfl rfl ?_
                    refine w_arr (e := fnS d x i) (ws2 := [(h, .inr (9, [.ref a, .ref b, .ref tk, .ref re, .ref qu, .int (iI hd), .int (iI tl), .ref nm, .int (iI nl)])), (b, .inl (gI G, 4096, .inl (arI (fnS d x i)))), (tk, .inl (gZ G, 64, .inl (arB t)))]) 1 rfl (fun j _ _ => congrArg (fun z : Im => z.1 j) (by unfold fnS; rw [← kE]; first | (exfalso; omega) | (rw [if_pos (by omega)]; done) | (rw [if_neg (by omega), L9]; unfold ino_sum; rw [show 512 + i * 16 = 512 + 16 * i by omega]))) rfl ?_
                    refine w_iinc (lv2 := [(0, .ref h), (1, .int (iI (i + 1))), (2, .int (iI n)), (3, .int (iI p))]) C 1 dX11_finish_141 rfl (by decide) rfl ?_
                    refine w_goto C 2 dX11_finish_144 rfl ?_
                    refine w_lv (lv2 := [(0, .ref h), (1, .int (iI (i + 1)))]) [0, 1] rfl ?_
                    exact ih_2 _ (by omega) (i + 1) (fnS d x i) (by omega) (FI_s hw h1.1 (by omega) hF) (by rw [hp, show (32 - i).toNat = (32 - (i + 1)).toNat + 1 by omega, fnI]) rfl
                · have er9 := hWx.ep_rgE hdr (p := p) (by omega) (by omega)
                  have q9 : d.1 (ep d i p) = x.1 (ep x i p) := by rw [hF.1.epE (by omega)]; exact (hF.1.hiE (by rw [← hF.1.epE (by omega)]; omega)).symm
                  have en9 : x.1 (ep x i p) ≠ 0 → inR (x.1 (ep x i p)) := fun z => by have w := hD i ⟨hdr.1, hdr.2.1, by rw [← kE]; exact hdr.2.2⟩ p (by omega) (by rw [← hF.1.szE]; omega); rw [q9] at w; have w2 := x.2 (ep x i p); omega
                  have v9 := x.2 (ep x i p)
                  refine w_aload_n C 0 dX11_finish_58 rfl ?_
                  refine w_get C 0 1 847 dX11_finish_59 rfl rfl inX11 (by decide) (by decide +kernel) rfl ?_
                  refine w_aload_n C 0 dX11_finish_62 rfl ?_
                  refine w_iload_n C 1 dX11_finish_63 rfl ?_
                  refine w_iload_n C 3 dX11_finish_64 rfl ?_
                  refine w_callV (As := [.int (iI i), .int (iI p)]) (rest := [.ref b]) (w2 := [(h, .inr (9, [.ref a, .ref b, .ref tk, .ref re, .ref qu, .int (iI hd), .int (iI tl), .ref nm, .int (iI nl)])), (b, .inl (gI G, 4096, .inl (arI x))), (tk, .inl (gZ G, 64, .inl (arB t)))]) (st2 := [.int (iI (ep x i p)), .ref b]) C (ct_X11_entry G (kl k) h a b tk re qu nm hd tl nl x i p (by omega) (by omega) (by omega)) gX11_73 dX11_finish_65 0 rfl rfl rfl rfl rfl (Nat.le_of_ble_eq_true rfl) (by decide) [0, 1] rfl (by decide) [h, b] rfl rfl rfl rfl ?_
                  have f_44 := ep_rg x i p
                  refine w_iald C 1 dX11_finish_68 rfl (by omega) ?_
                  have b_45 := x.2 (ep x i p)
                  refine w_istore (lv2 := [(0, .ref h), (1, .int (iI i)), (2, .int (iI n)), (3, .int (iI p)), (4, .int (iI (x.1 (ep x i p))))]) C dX11_finish_69 (by decide) rfl ?_
                  refine w_iload_n C 2 dX11_finish_71 rfl ?_
                  refine w_iload C 4 dX11_finish_72 rfl ?_
                  refine w_if_eq C 91 dX11_finish_74 rfl (by omega) (fun c_46 => ?_) (fun c_46 => ?_)
                  · refine w_iconst C dX11_finish_91 ?_
                    refine w_iadd C dX11_finish_92 ?_
                    refine w_istore_n (lv2 := [(0, .ref h), (1, .int (iI i)), (2, .int (iI (n + 0))), (3, .int (iI p)), (4, .int (iI (x.1 (ep x i p))))]) C dX11_finish_93 (by decide) rfl ?_
                    refine w_iinc (lv2 := [(0, .ref h), (1, .int (iI i)), (2, .int (iI (n + 0))), (3, .int (iI (p + 1))), (4, .int (iI (x.1 (ep x i p))))]) C 3 dX11_finish_94 rfl (by decide) rfl ?_
                    refine w_goto C 49 dX11_finish_97 rfl ?_
                    refine w_lv (lv2 := [(0, .ref h), (1, .int (iI i)), (2, .int (iI (n + 0))), (3, .int (iI (p + 1)))]) [0, 1, 2, 3] rfl ?_
                    exact ih_49 _ (by omega) (p + 1) (n + 0) (by omega) (by rw [hp2, show (sz x i / 16 - p).toNat = (sz x i / 16 - (p + 1)).toNat + 1 by omega, dc1, im_at_in x (by omega)]; first | (rw [if_pos c_46]; omega) | (rw [if_neg (by first | exact c_46 | (rw [c_46, hWx.k0]; decide))]; omega)) rfl
                  · refine w_aload_n C 0 dX11_finish_77 rfl ?_
                    refine w_iload C 4 dX11_finish_78 rfl ?_
                    refine w_callV (As := [.int (iI (x.1 (ep x i p)))]) (rest := [.int (iI n)]) (w2 := [(h, .inr (9, [.ref a, .ref b, .ref tk, .ref re, .ref qu, .int (iI hd), .int (iI tl), .ref nm, .int (iI nl)])), (b, .inl (gI G, 4096, .inl (arI x))), (tk, .inl (gZ G, 64, .inl (arB t)))]) (st2 := [.int (iI (kd x (x.1 (ep x i p)))), .int (iI n)]) C (ct_X11_kind G (kl k) h a b tk re qu nm hd tl nl x (x.1 (ep x i p)) (en9 (by assumption))) gX11_62 dX11_finish_80 0 rfl rfl rfl rfl rfl (Nat.le_of_ble_eq_true rfl) (by decide) [0, 1] rfl (by decide) [h, b] rfl rfl rfl rfl ?_
                    have f_47 := kd_rg x (x.1 (ep x i p))
                    refine w_iconst C dX11_finish_83 ?_
                    refine w_icmp_ne C 91 dX11_finish_84 rfl (by omega) (fun c_48 => ?_) (fun c_48 => ?_)
                    · refine w_iconst C dX11_finish_91 ?_
                      refine w_iadd C dX11_finish_92 ?_
                      refine w_istore_n (lv2 := [(0, .ref h), (1, .int (iI i)), (2, .int (iI (n + 0))), (3, .int (iI p)), (4, .int (iI (x.1 (ep x i p))))]) C dX11_finish_93 (by decide) rfl ?_
                      refine w_iinc (lv2 := [(0, .ref h), (1, .int (iI i)), (2, .int (iI (n + 0))), (3, .int (iI (p + 1))), (4, .int (iI (x.1 (ep x i p))))]) C 3 dX11_finish_94 rfl (by decide) rfl ?_
                      refine w_goto C 49 dX11_finish_97 rfl ?_
                      refine w_lv (lv2 := [(0, .ref h), (1, .int (iI i)), (2, .int (iI (n + 0))), (3, .int (iI (p + 1)))]) [0, 1, 2, 3] rfl ?_
                      exact ih_49 _ (by omega) (p + 1) (n + 0) (by omega) (by rw [hp2, show (sz x i / 16 - p).toNat = (sz x i / 16 - (p + 1)).toNat + 1 by omega, dc1, im_at_in x (by omega)]; first | (rw [if_pos c_48]; omega) | (rw [if_neg (by first | exact c_48 | (rw [c_48, hWx.k0]; decide))]; omega)) rfl
                    · refine w_iconst C dX11_finish_87 ?_
                      refine w_goto C 92 dX11_finish_88 rfl ?_
                      refine w_iadd C dX11_finish_92 ?_
                      refine w_istore_n (lv2 := [(0, .ref h), (1, .int (iI i)), (2, .int (iI (n + 1))), (3, .int (iI p)), (4, .int (iI (x.1 (ep x i p))))]) C dX11_finish_93 (by decide) rfl ?_
                      refine w_iinc (lv2 := [(0, .ref h), (1, .int (iI i)), (2, .int (iI (n + 1))), (3, .int (iI (p + 1))), (4, .int (iI (x.1 (ep x i p))))]) C 3 dX11_finish_94 rfl (by decide) rfl ?_
                      refine w_goto C 49 dX11_finish_97 rfl ?_
                      refine w_lv (lv2 := [(0, .ref h), (1, .int (iI i)), (2, .int (iI (n + 1))), (3, .int (iI (p + 1)))]) [0, 1, 2, 3] rfl ?_
                      exact ih_49 _ (by omega) (p + 1) (n + 1) (by omega) (by rw [hp2, show (sz x i / 16 - p).toNat = (sz x i / 16 - (p + 1)).toNat + 1 by omega, dc1, im_at_in x (by omega)]; first | (rw [if_pos c_48]; omega) | (rw [if_neg (by first | exact c_48 | (rw [c_48, hWx.k0]; decide))]; omega)) rfl
            exact L_49 _ 2 2 (by omega) (by rw [← lE]; unfold Lk; rw [if_pos hdr.2.2, c9]) rfl
        · have L9 : Lk d i = ctA x i 31 1 := by rw [← lE]; unfold Lk; rw [if_neg (by omega), if_neg (by omega)]
          refine w_aload_n C 0 dX11_finish_17 rfl ?_
          refine w_get C 0 1 847 dX11_finish_18 rfl rfl inX11 (by decide) (by decide +kernel) rfl ?_
          refine w_iload_n C 1 dX11_finish_21 rfl ?_
          refine w_callS (As := [.int (iI i)]) (rest := [.ref b]) (w2 := [(h, .inr (9, [.ref a, .ref b, .ref tk, .ref re, .ref qu, .int (iI hd), .int (iI tl), .ref nm, .int (iI nl)])), (b, .inl (gI G, 4096, .inl (arI x))), (tk, .inl (gZ G, 64, .inl (arB t)))]) (st2 := [.int (iI (512 + 16 * i)), .ref b]) C (ct_X11_base G (kl k) i) gX11_42 dX11_finish_22 rfl rfl (Nat.le_of_ble_eq_true rfl) (by decide) [] rfl (by decide) [] rfl rfl rfl rfl ?_
          refine w_iconst C dX11_finish_25 ?_
          refine w_iadd C dX11_finish_26 ?_
          refine w_aload_n C 0 dX11_finish_27 rfl ?_
          refine w_iload_n C 1 dX11_finish_28 rfl ?_
          refine w_callV (As := [.int (iI i)]) (rest := [.int (iI ((512 + 16 * i) + 1)), .ref b]) (w2 := [(h, .inr (9, [.ref a, .ref b, .ref tk, .ref re, .ref qu, .int (iI hd), .int (iI tl), .ref nm, .int (iI nl)])), (b, .inl (gI G, 4096, .inl (arI x))), (tk, .inl (gZ G, 64, .inl (arB t)))]) (st2 := [.int (iI (ctA x i 31 1)), .int (iI ((512 + 16 * i) + 1)), .ref b]) C (ct_X11_count G (kl k) h a b tk re qu nm hd tl nl x i tm hWx (by omega)) gX11_145 dX11_finish_29 0 rfl rfl rfl rfl rfl (Nat.le_of_ble_eq_true rfl) (by decide) [0, 1] rfl (by decide) [h, b] rfl rfl rfl rfl ?_
          refine w_iast (ws2 := [(h, .inr (9, [.ref a, .ref b, .ref tk, .ref re, .ref qu, .int (iI hd), .int (iI tl), .ref nm, .int (iI nl)])), (b, .inl (gI G, 4096, .inl (arI (up x ((512 + 16 * i) + 1) (ctA x i 31 1))))), (tk, .inl (gZ G, 64, .inl (arB t)))]) C 1 dX11_finish_32 rfl (by omega) (by omega) rfl ?_
          refine w_goto C 112 dX11_finish_33 rfl ?_
          refine w_aload_n C 0 dX11_finish_112 rfl ?_
          refine w_iload_n C 1 dX11_finish_113 rfl ?_
          refine w_callV (As := [.int (iI i)]) (rest := []) (w2 := [(h, .inr (9, [.ref a, .ref b, .ref tk, .ref re, .ref qu, .int (iI hd), .int (iI tl), .ref nm, .int (iI nl)])), (b, .inl (gI G, 4096, .inl (arI (up x ((512 + 16 * i) + 1) (ctA x i 31 1))))), (tk, .inl (gZ G, 64, .inl (arB t)))]) (st2 := [.int (iI (kd (up x ((512 + 16 * i) + 1) (ctA x i 31 1)) i))]) C (ct_X11_kind G (kl k) h a b tk re qu nm hd tl nl (up x ((512 + 16 * i) + 1) (ctA x i 31 1)) i (by omega)) gX11_62 dX11_finish_114 0 rfl rfl rfl rfl rfl (Nat.le_of_ble_eq_true rfl) (by decide) [0, 1] rfl (by decide) [h, b] rfl rfl rfl rfl ?_
          have f_49 := kd_rg (up x ((512 + 16 * i) + 1) (ctA x i 31 1)) i
          refine w_st (st2 := [.int (iI (kd x i))]) (by first | rfl | rw [kd_up (by omega)]) ?_
          refine w_if_le C 141 dX11_finish_117 rfl (by omega) (fun c_50 => ?_) (fun c_50 => ?_)
          · refine w_arr (e := fnS d x i) (ws2 := [(h, .inr (9, [.ref a, .ref b, .ref tk, .ref re, .ref qu, .int (iI hd), .int (iI tl), .ref nm, .int (iI nl)])), (b, .inl (gI G, 4096, .inl (arI (fnS d x i)))), (tk, .inl (gZ G, 64, .inl (arB t)))]) 1 rfl (fun j _ _ => congrArg (fun z : Im => z.1 j) (by unfold fnS; rw [← kE]; first | (exfalso; omega) | (rw [if_pos (by omega)]; done) | (rw [if_neg (by omega), L9]; unfold ino_sum; rw [show 512 + i * 16 = 512 + 16 * i by omega]))) rfl ?_
            refine w_iinc (lv2 := [(0, .ref h), (1, .int (iI (i + 1)))]) C 1 dX11_finish_141 rfl (by decide) rfl ?_
            refine w_goto C 2 dX11_finish_144 rfl ?_
            exact ih_2 _ (by omega) (i + 1) (fnS d x i) (by omega) (FI_s hw h1.1 (by omega) hF) (by rw [hp, show (32 - i).toNat = (32 - (i + 1)).toNat + 1 by omega, fnI]) rfl
          · refine w_aload_n C 0 dX11_finish_120 rfl ?_
            refine w_iload_n C 1 dX11_finish_121 rfl ?_
            refine w_callS (As := [.int (iI i)]) (rest := [.ref h]) (w2 := [(h, .inr (9, [.ref a, .ref b, .ref tk, .ref re, .ref qu, .int (iI hd), .int (iI tl), .ref nm, .int (iI nl)])), (b, .inl (gI G, 4096, .inl (arI (up x ((512 + 16 * i) + 1) (ctA x i 31 1))))), (tk, .inl (gZ G, 64, .inl (arB t)))]) (st2 := [.int (iI (512 + 16 * i)), .ref h]) C (ct_X11_base G (kl k) i) gX11_42 dX11_finish_122 rfl rfl (Nat.le_of_ble_eq_true rfl) (by decide) [] rfl (by decide) [] rfl rfl rfl rfl ?_
            refine w_bipush C dX11_finish_125 (by decide) ?_
            refine w_iadd C dX11_finish_127 ?_
            refine w_aload_n C 0 dX11_finish_128 rfl ?_
            refine w_iload_n C 1 dX11_finish_129 rfl ?_
            refine w_callS (As := [.int (iI i)]) (rest := [.ref h, .int (iI ((512 + 16 * i) + 14)), .ref h]) (w2 := [(h, .inr (9, [.ref a, .ref b, .ref tk, .ref re, .ref qu, .int (iI hd), .int (iI tl), .ref nm, .int (iI nl)])), (b, .inl (gI G, 4096, .inl (arI (up x ((512 + 16 * i) + 1) (ctA x i 31 1))))), (tk, .inl (gZ G, 64, .inl (arB t)))]) (st2 := [.int (iI (512 + 16 * i)), .ref h, .int (iI ((512 + 16 * i) + 14)), .ref h]) C (ct_X11_base G (kl k) i) gX11_42 dX11_finish_130 rfl rfl (Nat.le_of_ble_eq_true rfl) (by decide) [] rfl (by decide) [] rfl rfl rfl rfl ?_
            refine w_bipush C dX11_finish_133 (by decide) ?_
            refine w_callV (As := [.int (iI (512 + 16 * i)), .int (iI 14)]) (rest := [.int (iI ((512 + 16 * i) + 14)), .ref h]) (w2 := [(h, .inr (9, [.ref a, .ref b, .ref tk, .ref re, .ref qu, .int (iI hd), .int (iI tl), .ref nm, .int (iI nl)])), (b, .inl (gI G, 4096, .inl (arI (up x ((512 + 16 * i) + 1) (ctA x i 31 1))))), (tk, .inl (gZ G, 64, .inl (arB t)))]) (st2 := [.int (iI (im_sum (up x ((512 + 16 * i) + 1) (ctA x i 31 1)) (512 + 16 * i) 14)), .int (iI ((512 + 16 * i) + 14)), .ref h]) C (ct_X11_sum G (kl k) h a b tk re qu nm hd tl nl (up x ((512 + 16 * i) + 1) (ctA x i 31 1)) (512 + 16 * i) 14 (by unfold rgP; omega)) gX11_38 dX11_finish_135 0 rfl rfl rfl rfl rfl (Nat.le_of_ble_eq_true rfl) (by decide) [0, 1] rfl (by decide) [h, b] rfl rfl rfl rfl ?_
            have f_51 := im_sum_rg (up x ((512 + 16 * i) + 1) (ctA x i 31 1)) (512 + 16 * i) 14
            refine w_callV (As := [.int (iI ((512 + 16 * i) + 14)), .int (iI (im_sum (up x ((512 + 16 * i) + 1) (ctA x i 31 1)) (512 + 16 * i) 14))]) (rest := []) (w2 := [(h, .inr (9, [.ref a, .ref b, .ref tk, .ref re, .ref qu, .int (iI hd), .int (iI tl), .ref nm, .int (iI nl)])), (b, .inl (gI G, 4096, .inl (arI (im_put (up x ((512 + 16 * i) + 1) (ctA x i 31 1)) ((512 + 16 * i) + 14) (im_sum (up x ((512 + 16 * i) + 1) (ctA x i 31 1)) (512 + 16 * i) 14))))), (tk, .inl (gZ G, 64, .inl (arB t)))]) (st2 := []) C (ct_X11_put G (kl k) h a b tk re qu nm hd tl nl (up x ((512 + 16 * i) + 1) (ctA x i 31 1)) ((512 + 16 * i) + 14) (im_sum (up x ((512 + 16 * i) + 1) (ctA x i 31 1)) (512 + 16 * i) 14) (by omega) (by omega)) gX11_103 dX11_finish_138 0 rfl rfl rfl rfl rfl (Nat.le_of_ble_eq_true rfl) (by decide) [0, 1] rfl (by decide) [h, b] rfl rfl rfl rfl ?_
            refine w_arr (e := fnS d x i) (ws2 := [(h, .inr (9, [.ref a, .ref b, .ref tk, .ref re, .ref qu, .int (iI hd), .int (iI tl), .ref nm, .int (iI nl)])), (b, .inl (gI G, 4096, .inl (arI (fnS d x i)))), (tk, .inl (gZ G, 64, .inl (arB t)))]) 1 rfl (fun j _ _ => congrArg (fun z : Im => z.1 j) (by unfold fnS; rw [← kE]; first | (exfalso; omega) | (rw [if_pos (by omega)]; done) | (rw [if_neg (by omega), L9]; unfold ino_sum; rw [show 512 + i * 16 = 512 + 16 * i by omega]))) rfl ?_
            refine w_iinc (lv2 := [(0, .ref h), (1, .int (iI (i + 1)))]) C 1 dX11_finish_141 rfl (by decide) rfl ?_
            refine w_goto C 2 dX11_finish_144 rfl ?_
            exact ih_2 _ (by omega) (i + 1) (fnS d x i) (by omega) (FI_s hw h1.1 (by omega) hF) (by rw [hp, show (32 - i).toNat = (32 - (i + 1)).toNat + 1 by omega, fnI]) rfl
  exact L_2 _ 1 d (by omega) (FI_0 hw) (by rw [show ((32 : Int) - 1).toNat = 31 from rfl]) rfl
