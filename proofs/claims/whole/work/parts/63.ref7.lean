theorem gX11_55 : cwv RX11 55 yX11_mark cX11_mark 2 (some .boolean) 1 951 953 36 74 954 := by decide +kernel
set_option maxHeartbeats 4000000 in
set_option maxRecDepth 100000 in
theorem ct_X11_isSound (G : GX) (l : Launch) (h : Nat) (a : Nat) (b : Nat) (tk : Nat) (re : Nat) (qu : Nat) (nm : Nat) (hd : Int) (tl : Int) (nl : Int) (d : Im) (tm : Int64) (i : Int) (hi : 1 ≤ i ∧ i < 32) : Ct G l yX11_isSound cX11_isSound 11 (some .boolean) rmX11_isSound [.ref h, .int (iI i)] [(h, .inr (9, [.ref a, .ref b, .ref tk, .ref re, .ref qu, .int (iI hd), .int (iI tl), .ref nm, .int (iI nl)])), (b, .inl (gI G, 4096, .inl (arI d))), (tk, .inl (gZ G, 64, .inl (arB (tbt tm))))] (some (.int (iI (bI (sndB tm d i))))) [(h, .inr (9, [.ref a, .ref b, .ref tk, .ref re, .ref qu, .int (iI hd), .int (iI tl), .ref nm, .int (iI nl)])), (b, .inl (gI G, 4096, .inl (arI d))), (tk, .inl (gZ G, 64, .inl (arB (tbt (snT tm d i)))))] := by
  refine Ct.of (by decide) (Nat.le_of_ble_eq_true rfl) ?_
  intro k C hl hret
  subst hl
  refine w_lv (lv2 := [(0, .ref h), (1, .int (iI i))]) [0, 1] rfl ?_
  refine w_iload_n C 1 dX11_isSound_0 rfl ?_
  refine w_callS (As := [.int (iI i)]) (rest := []) (w2 := [(h, .inr (9, [.ref a, .ref b, .ref tk, .ref re, .ref qu, .int (iI hd), .int (iI tl), .ref nm, .int (iI nl)])), (b, .inl (gI G, 4096, .inl (arI d))), (tk, .inl (gZ G, 64, .inl (arB (tbt tm))))]) (st2 := [.int (iI (512 + 16 * i))]) C (ct_X11_base G (kl k) i) gX11_42 dX11_isSound_1 rfl rfl (Nat.le_of_ble_eq_true rfl) (by decide) [] rfl (by decide) [] rfl rfl rfl rfl ?_
  refine w_istore_n (lv2 := [(0, .ref h), (1, .int (iI i)), (2, .int (iI (512 + 16 * i)))]) C dX11_isSound_4 (by decide) rfl ?_
  refine w_aload_n C 0 dX11_isSound_5 rfl ?_
  refine w_get C 0 1 847 dX11_isSound_6 rfl rfl inX11 (by decide) (by decide +kernel) rfl ?_
  refine w_iload_n C 2 dX11_isSound_9 rfl ?_
  refine w_iald C 1 dX11_isSound_10 rfl (by omega) ?_
  have b_1 := d.2 (512 + 16 * i)
  have k9 := kd_rg d i
  refine w_st (st2 := [.int (iI (kd d i))]) (by unfold kd; rw [if_pos (show inR i by omega), show 512 + i * 16 = 512 + 16 * i by omega]) ?_
  refine w_istore_n (lv2 := [(0, .ref h), (1, .int (iI i)), (2, .int (iI (512 + 16 * i))), (3, .int (iI (kd d i)))]) C dX11_isSound_11 (by decide) rfl ?_
  refine w_aload_n C 0 dX11_isSound_12 rfl ?_
  refine w_iload_n C 1 dX11_isSound_13 rfl ?_
  refine w_callV (As := [.int (iI i)]) (rest := []) (w2 := [(h, .inr (9, [.ref a, .ref b, .ref tk, .ref re, .ref qu, .int (iI hd), .int (iI tl), .ref nm, .int (iI nl)])), (b, .inl (gI G, 4096, .inl (arI d))), (tk, .inl (gZ G, 64, .inl (arB (tbt tm))))]) (st2 := [.int (iI (sz d i))]) C (ct_X11_size G (kl k) h a b tk re qu nm hd tl nl d i (by omega)) gX11_45 dX11_isSound_14 0 rfl rfl rfl rfl rfl (Nat.le_of_ble_eq_true rfl) (by decide) [0, 1] rfl (by decide) [h, b] rfl rfl rfl rfl ?_
  have f_2 := sz_rg d i
  refine w_istore (lv2 := [(0, .ref h), (1, .int (iI i)), (2, .int (iI (512 + 16 * i))), (3, .int (iI (kd d i))), (4, .int (iI (sz d i)))]) C dX11_isSound_17 (by decide) rfl ?_
  have J_95 : (sndB tm d i = false) → Wd G k 11 0 0 [(h, .inr (9, [.ref a, .ref b, .ref tk, .ref re, .ref qu, .int (iI hd), .int (iI tl), .ref nm, .int (iI nl)])), (b, .inl (gI G, 4096, .inl (arI d))), (tk, .inl (gZ G, 64, .inl (arB (tbt tm))))] 95 [(0, .ref h)] [] := by
    intro hF
    refine w_iconst C dX11_isSound_95 ?_
    exact w_reti hret dX11_isSound_96 rfl rfl rfl rfl ⟨congrArg (fun z => some (Value.int (iI z))) (by rw [hF]; rfl), (by unfold snT; rw [if_neg (show ¬ sndB tm d i = true by rw [hF]; decide)])⟩
  have J_97 : (hsB d i) → Wd G k 11 0 0 [(h, .inr (9, [.ref a, .ref b, .ref tk, .ref re, .ref qu, .int (iI hd), .int (iI tl), .ref nm, .int (iI nl)])), (b, .inl (gI G, 4096, .inl (arI d))), (tk, .inl (gZ G, 64, .inl (arB (tbt tm))))] 97 [(0, .ref h), (1, .int (iI i)), (2, .int (iI (512 + 16 * i)))] [] := by
    intro hS
    have o46 := hS.bc
    have o0 := bc_rg d i
    refine w_aload_n C 0 dX11_isSound_97 rfl ?_
    refine w_iload_n C 1 dX11_isSound_98 rfl ?_
    refine w_callV (As := [.int (iI i)]) (rest := []) (w2 := [(h, .inr (9, [.ref a, .ref b, .ref tk, .ref re, .ref qu, .int (iI hd), .int (iI tl), .ref nm, .int (iI nl)])), (b, .inl (gI G, 4096, .inl (arI d))), (tk, .inl (gZ G, 64, .inl (arB (tbt tm))))]) (st2 := [.int (iI (bc d i))]) C (ct_X11_blocks G (kl k) h a b tk re qu nm hd tl nl d i (by omega)) gX11_52 dX11_isSound_99 0 rfl rfl rfl rfl rfl (Nat.le_of_ble_eq_true rfl) (by decide) [0, 1] rfl (by decide) [h, b] rfl rfl rfl rfl ?_
    have f_3 := bc_rg d i
    refine w_istore (lv2 := [(0, .ref h), (1, .int (iI i)), (2, .int (iI (512 + 16 * i))), (5, .int (iI (bc d i)))]) C dX11_isSound_102 (by decide) rfl ?_
    refine w_iconst C dX11_isSound_104 ?_
    refine w_istore (lv2 := [(0, .ref h), (1, .int (iI i)), (2, .int (iI (512 + 16 * i))), (5, .int (iI (bc d i))), (6, .int (iI 1))]) C dX11_isSound_105 (by decide) rfl ?_
    refine w_iconst C dX11_isSound_107 ?_
    refine w_istore (lv2 := [(0, .ref h), (1, .int (iI i)), (2, .int (iI (512 + 16 * i))), (5, .int (iI (bc d i))), (6, .int (iI 1)), (7, .int (iI 0))]) C dX11_isSound_108 (by decide) rfl ?_
    have L_110 : ∀ (nn_110 : Nat) (x : Int) (s : Int), (0 ≤ x ∧ x ≤ 5 ∧ (s = 0 ∨ s = 1)) → (s = 1 ↔ ptB d i x) → (5 - x).toNat = nn_110 → Wd G k 11 0 0 [(h, .inr (9, [.ref a, .ref b, .ref tk, .ref re, .ref qu, .int (iI hd), .int (iI tl), .ref nm, .int (iI nl)])), (b, .inl (gI G, 4096, .inl (arI d))), (tk, .inl (gZ G, 64, .inl (arB (tbt tm))))] 110 [(0, .ref h), (1, .int (iI i)), (2, .int (iI (512 + 16 * i))), (5, .int (iI (bc d i))), (6, .int (iI s)), (7, .int (iI x))] [] := by
      intro nn_110
      induction nn_110 using Nat.strongRecOn with
      | ind nn_110 ih_110 =>
        intro x s h1 h2 hm_110
        refine w_iload C 5 dX11_isSound_110 rfl ?_
        refine w_iconst C dX11_isSound_112 ?_
        refine w_icmp_ge C 155 dX11_isSound_113 rfl (by omega) (fun c_4 => ?_) (fun c_4 => ?_)
        · have J_196 : ∀ (s : Int), (s = 0 ∨ s = 1) → (s = 1 ↔ (ptB d i 5 ∧ (5 < bc d i ↔ ind d i ≠ 0))) → Wd G k 11 0 0 [(h, .inr (9, [.ref a, .ref b, .ref tk, .ref re, .ref qu, .int (iI hd), .int (iI tl), .ref nm, .int (iI nl)])), (b, .inl (gI G, 4096, .inl (arI d))), (tk, .inl (gZ G, 64, .inl (arB (tbt tm))))] 196 [(0, .ref h), (1, .int (iI i)), (2, .int (iI (512 + 16 * i))), (5, .int (iI (bc d i)))] [.int (iI s)] := by
            intro s h1 h2
            refine w_istore (lv2 := [(0, .ref h), (1, .int (iI i)), (2, .int (iI (512 + 16 * i))), (5, .int (iI (bc d i))), (6, .int (iI s))]) C dX11_isSound_196 (by decide) rfl ?_
            refine w_iconst C dX11_isSound_198 ?_
            refine w_istore (lv2 := [(0, .ref h), (1, .int (iI i)), (2, .int (iI (512 + 16 * i))), (5, .int (iI (bc d i))), (6, .int (iI s)), (7, .int (iI 0))]) C dX11_isSound_199 (by decide) rfl ?_
            refine w_aload_n C 0 dX11_isSound_201 rfl ?_
            refine w_get C 0 1 847 dX11_isSound_202 rfl rfl inX11 (by decide) (by decide +kernel) rfl ?_
            refine w_iload_n C 2 dX11_isSound_205 rfl ?_
            refine w_bipush C dX11_isSound_206 (by decide) ?_
            refine w_iadd C dX11_isSound_208 ?_
            refine w_iald C 1 dX11_isSound_209 rfl (by omega) ?_
            have b_5 := d.2 ((512 + 16 * i) + 9)
            have n9 := d.2 (512 + i * 16 + 9)
            change 0 ≤ ind d i ∧ ind d i < 256 at n9
            refine w_st (st2 := [.int (iI (ind d i))]) (by rw [show 512 + 16 * i + 9 = 512 + i * 16 + 9 by omega]) ?_
            refine w_istore (lv2 := [(0, .ref h), (1, .int (iI i)), (2, .int (iI (512 + 16 * i))), (5, .int (iI (bc d i))), (6, .int (iI s)), (7, .int (iI 0)), (8, .int (iI (ind d i)))]) C dX11_isSound_210 (by decide) rfl ?_
            have J_290 : ∀ (s : Int) (z : Int) (m : Int64), (s = 0 ∨ s = 1) → (mkI tm d i z m) → (s = 1 → sbB d i = true ∧ (5 < bc d i → z = 1)) → (s = 0 → sndB tm d i = false) → Wd G k 11 0 0 [(h, .inr (9, [.ref a, .ref b, .ref tk, .ref re, .ref qu, .int (iI hd), .int (iI tl), .ref nm, .int (iI nl)])), (b, .inl (gI G, 4096, .inl (arI d))), (tk, .inl (gZ G, 64, .inl (arB (tbt m))))] 290 [(0, .ref h), (1, .int (iI i)), (5, .int (iI (bc d i))), (6, .int (iI s)), (7, .int (iI z)), (8, .int (iI (ind d i)))] [] := by
              intro s z m hs hz g1 g0
              have z9 : z = 0 ∨ z = 1 := by rcases hz with w | w; (exact Or.inl w.1); (exact Or.inr w.1)
              refine w_iconst C dX11_isSound_290 ?_
              refine w_istore (lv2 := [(0, .ref h), (1, .int (iI i)), (5, .int (iI (bc d i))), (6, .int (iI s)), (7, .int (iI z)), (8, .int (iI (ind d i))), (9, .int (iI 0))]) C dX11_isSound_291 (by decide) rfl ?_
              have L_293 : ∀ (nn_293 : Nat) (x : Int) (s4 : Int) (m2 : Int64), (0 ≤ x ∧ x ≤ bc d i ∧ (s4 = 0 ∨ s4 = 1)) → (mkX2 m d i x m2) → (s4 = 1 → s = 1) → (s4 = 0 → sndB tm d i = false) → (0 < x → s = 1) → (2 * (bc d i - x) + s4).toNat = nn_293 → Wd G k 11 0 0 [(h, .inr (9, [.ref a, .ref b, .ref tk, .ref re, .ref qu, .int (iI hd), .int (iI tl), .ref nm, .int (iI nl)])), (b, .inl (gI G, 4096, .inl (arI d))), (tk, .inl (gZ G, 64, .inl (arB (tbt m2))))] 293 [(0, .ref h), (1, .int (iI i)), (5, .int (iI (bc d i))), (6, .int (iI s4)), (7, .int (iI z)), (8, .int (iI (ind d i))), (9, .int (iI x))] [] := by
                intro nn_293
                induction nn_293 using Nat.strongRecOn with
                | ind nn_293 ih_293 =>
                  intro x s4 m2 k1 k2 k3 k4 k5 hm_293
                  refine w_iload C 3 dX11_isSound_293 rfl ?_
                  refine w_if_eq C 336 dX11_isSound_295 rfl (by omega) (fun c_6 => ?_) (fun c_6 => ?_)
                  · refine w_iload C 3 dX11_isSound_336 rfl ?_
                    refine w_if_ne C 384 dX11_isSound_338 rfl (by omega) (fun c_7 => ?_) (fun c_7 => ?_)
                    · omega
                    · have hF := k4 (by omega)
                      refine w_iconst C dX11_isSound_341 ?_
                      refine w_istore (lv2 := [(0, .ref h), (1, .int (iI i)), (5, .int (iI (bc d i))), (6, .int (iI s4)), (7, .int (iI z)), (8, .int (iI (ind d i))), (9, .int (iI x)), (10, .int (iI 0))]) C dX11_isSound_342 (by decide) rfl ?_
                      have L_344 : ∀ (nn_344 : Nat) (y : Int) (t : Int → Bool), (0 ≤ y ∧ y ≤ x) → (ubX m2 d i y t) → (x - y).toNat = nn_344 → Wd G k 11 0 0 [(h, .inr (9, [.ref a, .ref b, .ref tk, .ref re, .ref qu, .int (iI hd), .int (iI tl), .ref nm, .int (iI nl)])), (b, .inl (gI G, 4096, .inl (arI d))), (tk, .inl (gZ G, 64, .inl (arB t)))] 344 [(0, .ref h), (1, .int (iI i)), (5, .int (iI (bc d i))), (6, .int (iI s4)), (7, .int (iI z)), (8, .int (iI (ind d i))), (9, .int (iI x)), (10, .int (iI y))] [] := by
                        intro nn_344
                        induction nn_344 using Nat.strongRecOn with
                        | ind nn_344 ih_344 =>
                          intro y t u1 u2 hm_344
                          refine w_iload C 7 dX11_isSound_344 rfl ?_
                          refine w_iload C 6 dX11_isSound_346 rfl ?_
                          refine w_icmp_ge C 370 dX11_isSound_348 rfl (by omega) (fun c_8 => ?_) (fun c_8 => ?_)
                          · refine w_iload C 4 dX11_isSound_370 rfl ?_
                            refine w_iconst C dX11_isSound_372 ?_
                            refine w_icmp_ne C 384 dX11_isSound_373 rfl (by omega) (fun c_9 => ?_) (fun c_9 => ?_)
                            · refine w_arrB (e := tbt (snT tm d i)) (ws2 := [(h, .inr (9, [.ref a, .ref b, .ref tk, .ref re, .ref qu, .int (iI hd), .int (iI tl), .ref nm, .int (iI nl)])), (b, .inl (gI G, 4096, .inl (arI d))), (tk, .inl (gZ G, 64, .inl (arB (tbt (snT tm d i)))))]) 2 rfl (by first | exact hD.2 | exact ub_a hF hz (by omega) (show mkX2 m d i y m2 by rw [show y = x by omega]; exact k2) u2 | exact ub_b hF hz (by omega) (show mkX2 m d i y m2 by rw [show y = x by omega]; exact k2) u2) rfl ?_
                              refine w_iload C 3 dX11_isSound_384 rfl ?_
                              refine w_st (st2 := [.int (iI (bI (sndB tm d i)))]) (by first | (rw [hD.1, e1]; rfl) | (rw [hF, show s4 = 0 by omega]; rfl)) ?_
                              exact w_reti hret dX11_isSound_386 rfl (nar_b _) rfl rfl ⟨rfl, rfl⟩
                            · have hdi : dat (ind d i) := by rcases hz with w | w; (have := w.1; omega); exact w.2.2.1
                              refine w_aload_n C 0 dX11_isSound_376 rfl ?_
                              refine w_get C 0 2 848 dX11_isSound_377 rfl rfl inX11 (by decide) (by decide +kernel) rfl ?_
                              refine w_iload C 5 dX11_isSound_380 rfl ?_
                              refine w_iconst C dX11_isSound_382 ?_
                              refine w_st (st2 := [.int (iI (bI false)), .int (iI (ind d i)), .ref tk]) rfl ?_
                              refine w_zast (ws2 := [(h, .inr (9, [.ref a, .ref b, .ref tk, .ref re, .ref qu, .int (iI hd), .int (iI tl), .ref nm, .int (iI nl)])), (b, .inl (gI G, 4096, .inl (arI d))), (tk, .inl (gZ G, 64, .inl (arB (upB t (ind d i) false))))]) C 2 dX11_isSound_383 rfl (by omega) rfl ?_
                              refine w_arrB (e := tbt (snT tm d i)) (ws2 := [(h, .inr (9, [.ref a, .ref b, .ref tk, .ref re, .ref qu, .int (iI hd), .int (iI tl), .ref nm, .int (iI nl)])), (b, .inl (gI G, 4096, .inl (arI d))), (tk, .inl (gZ G, 64, .inl (arB (tbt (snT tm d i)))))]) 2 rfl (by first | exact hD.2 | exact ub_a hF hz (by omega) (show mkX2 m d i y m2 by rw [show y = x by omega]; exact k2) u2 | exact ub_b hF hz (by omega) (show mkX2 m d i y m2 by rw [show y = x by omega]; exact k2) u2) rfl ?_
                              refine w_iload C 3 dX11_isSound_384 rfl ?_
                              refine w_st (st2 := [.int (iI (bI (sndB tm d i)))]) (by first | (rw [hD.1, e1]; rfl) | (rw [hF, show s4 = 0 by omega]; rfl)) ?_
                              exact w_reti hret dX11_isSound_386 rfl (nar_b _) rfl rfl ⟨rfl, rfl⟩
                          · have gy := k2.2 y u1.1 (by omega)
                            have hdd : 5 < bc d i → ¬ y < 5 → dat (ind d i) := fun q q2 => by rcases hz with w | w; (have := (g1 (k5 (by omega))).2 q; omega); exact w.2.2.1
                            refine w_aload_n C 0 dX11_isSound_351 rfl ?_
                            refine w_get C 0 2 848 dX11_isSound_352 rfl rfl inX11 (by decide) (by decide +kernel) rfl ?_
                            refine w_aload_n C 0 dX11_isSound_355 rfl ?_
                            refine w_iload_n C 1 dX11_isSound_356 rfl ?_
                            refine w_iload C 7 dX11_isSound_357 rfl ?_
                            refine w_callV (As := [.int (iI i), .int (iI y)]) (rest := [.ref tk]) (w2 := [(h, .inr (9, [.ref a, .ref b, .ref tk, .ref re, .ref qu, .int (iI hd), .int (iI tl), .ref nm, .int (iI nl)])), (b, .inl (gI G, 4096, .inl (arI d))), (tk, .inl (gZ G, 64, .inl (arB t)))]) (st2 := [.int (iI (bk d i y)), .ref tk]) C (ct_X11_block G (kl k) h a b tk re qu nm hd tl nl d i y (by omega) (by refine ⟨u1.1, by omega, ?_⟩; by_cases w : y < 5; exact Or.inl w; exact Or.inr (hdd (by omega) w))) gX11_59 dX11_isSound_359 0 rfl rfl rfl rfl rfl (Nat.le_of_ble_eq_true rfl) (by decide) [0, 1] rfl (by decide) [h, b] rfl rfl rfl rfl ?_
                            have f_10 := bk_rg d i y
                            refine w_iconst C dX11_isSound_362 ?_
                            refine w_st (st2 := [.int (iI (bI false)), .int (iI (bk d i y)), .ref tk]) rfl ?_
                            refine w_zast (ws2 := [(h, .inr (9, [.ref a, .ref b, .ref tk, .ref re, .ref qu, .int (iI hd), .int (iI tl), .ref nm, .int (iI nl)])), (b, .inl (gI G, 4096, .inl (arI d))), (tk, .inl (gZ G, 64, .inl (arB (upB t (bk d i y) false))))]) C 2 dX11_isSound_363 rfl (by omega) rfl ?_
                            refine w_iinc (lv2 := [(0, .ref h), (1, .int (iI i)), (5, .int (iI (bc d i))), (6, .int (iI s4)), (7, .int (iI z)), (8, .int (iI (ind d i))), (9, .int (iI x)), (10, .int (iI (y + 1)))]) C 7 dX11_isSound_364 rfl (by decide) rfl ?_
                            refine w_goto C 344 dX11_isSound_367 rfl ?_
                            exact ih_344 _ (by omega) (y + 1) (upB t (bk d i y) false) (by omega) (ubX_s u1.1 u2) rfl
                      exact L_344 _ 0 (tbt m2) (by omega) (ubX_0 m2 d i) rfl
                  · refine w_iload C 6 dX11_isSound_298 rfl ?_
                    refine w_iload C 2 dX11_isSound_300 rfl ?_
                    refine w_icmp_ge C 336 dX11_isSound_302 rfl (by omega) (fun c_11 => ?_) (fun c_11 => ?_)
                    · refine w_iload C 3 dX11_isSound_336 rfl ?_
                      refine w_if_ne C 384 dX11_isSound_338 rfl (by omega) (fun c_12 => ?_) (fun c_12 => ?_)
                      · have e1 : s4 = 1 := by omega
                        have gg := g1 (k3 e1)
                        have hD := mk_done hS (by omega) gg.1 hz gg.2 (by rw [show bc d i = x by omega]; exact k2)
                        refine w_arrB (e := tbt (snT tm d i)) (ws2 := [(h, .inr (9, [.ref a, .ref b, .ref tk, .ref re, .ref qu, .int (iI hd), .int (iI tl), .ref nm, .int (iI nl)])), (b, .inl (gI G, 4096, .inl (arI d))), (tk, .inl (gZ G, 64, .inl (arB (tbt (snT tm d i)))))]) 2 rfl (by first | exact hD.2 | exact ub_a hF hz (by omega) (show mkX2 m d i y m2 by rw [show y = x by omega]; exact k2) u2 | exact ub_b hF hz (by omega) (show mkX2 m d i y m2 by rw [show y = x by omega]; exact k2) u2) rfl ?_
                        refine w_iload C 3 dX11_isSound_384 rfl ?_
                        refine w_st (st2 := [.int (iI (bI (sndB tm d i)))]) (by first | (rw [hD.1, e1]; rfl) | (rw [hF, show s4 = 0 by omega]; rfl)) ?_
                        exact w_reti hret dX11_isSound_386 rfl (nar_b _) rfl rfl ⟨rfl, rfl⟩
                      · omega
                    · have gg := g1 (k3 (by omega))
                      have hdd : 5 < bc d i → dat (ind d i) := fun q => by rcases hz with w | w; (have := gg.2 q; omega); exact w.2.2.1
                      refine w_aload_n C 0 dX11_isSound_305 rfl ?_
                      refine w_aload_n C 0 dX11_isSound_306 rfl ?_
                      refine w_iload_n C 1 dX11_isSound_307 rfl ?_
                      refine w_iload C 6 dX11_isSound_308 rfl ?_
                      refine w_callV (As := [.int (iI i), .int (iI x)]) (rest := [.ref h]) (w2 := [(h, .inr (9, [.ref a, .ref b, .ref tk, .ref re, .ref qu, .int (iI hd), .int (iI tl), .ref nm, .int (iI nl)])), (b, .inl (gI G, 4096, .inl (arI d))), (tk, .inl (gZ G, 64, .inl (arB (tbt m2))))]) (st2 := [.int (iI (bk d i x)), .ref h]) C (ct_X11_block G (kl k) h a b tk re qu nm hd tl nl d i x (by omega) (by refine ⟨k1.1, by omega, ?_⟩; by_cases w : x < 5; exact Or.inl w; exact Or.inr (hdd (by omega)))) gX11_59 dX11_isSound_310 0 rfl rfl rfl rfl rfl (Nat.le_of_ble_eq_true rfl) (by decide) [0, 1] rfl (by decide) [h, b] rfl rfl rfl rfl ?_
                      have f_13 := bk_rg d i x
                      refine w_callV (As := [.int (iI (bk d i x))]) (rest := []) (w2 := [(h, .inr (9, [.ref a, .ref b, .ref tk, .ref re, .ref qu, .int (iI hd), .int (iI tl), .ref nm, .int (iI nl)])), (b, .inl (gI G, 4096, .inl (arI d))), (tk, .inl (gZ G, 64, .inl (arB (mkT (tbt m2) (bk d i x)))))]) (st2 := [.int (iI (bI (mkB (tbt m2) (bk d i x))))]) C (ct_X11_mark G (kl k) h a b tk re qu nm hd tl nl (tbt m2) (bk d i x) (by omega)) gX11_55 dX11_isSound_313 0 rfl rfl rfl rfl rfl (Nat.le_of_ble_eq_true rfl) (by decide) [0, 2] rfl (by decide) [h, tk] rfl rfl rfl rfl ?_
                      refine w_arrB (e := tbt (mkM m2 (bk d i x))) (ws2 := [(h, .inr (9, [.ref a, .ref b, .ref tk, .ref re, .ref qu, .int (iI hd), .int (iI tl), .ref nm, .int (iI nl)])), (b, .inl (gI G, 4096, .inl (arI d))), (tk, .inl (gZ G, 64, .inl (arB (tbt (mkM m2 (bk d i x))))))]) 2 rfl (mkT_M m2 _) rfl ?_
                      refine w_istore (lv2 := [(0, .ref h), (1, .int (iI i)), (5, .int (iI (bc d i))), (6, .int (iI (bI (mkB (tbt m2) (bk d i x))))), (7, .int (iI z)), (8, .int (iI (ind d i))), (9, .int (iI x))]) C dX11_isSound_316 (by decide) rfl ?_
                      refine w_iload C 6 dX11_isSound_318 rfl ?_
                      refine w_iload C 3 dX11_isSound_320 rfl ?_
                      refine w_bz C 329 dX11_isSound_322 rfl (fun c_14 => ?_) (fun c_14 => ?_)
                      · refine w_iconst C dX11_isSound_329 ?_
                        refine w_iadd C dX11_isSound_330 ?_
                        refine w_istore (lv2 := [(0, .ref h), (1, .int (iI i)), (5, .int (iI (bc d i))), (6, .int (iI (bI (mkB (tbt m2) (bk d i x))))), (7, .int (iI z)), (8, .int (iI (ind d i))), (9, .int (iI (x + 0)))]) C dX11_isSound_331 (by decide) rfl ?_
                        refine w_goto C 293 dX11_isSound_333 rfl ?_
                        refine w_lv (lv2 := [(0, .ref h), (1, .int (iI i)), (5, .int (iI (bc d i))), (6, .int (iI (bI (mkB (tbt m2) (bk d i x))))), (7, .int (iI z)), (8, .int (iI (ind d i))), (9, .int (iI (x + 0)))]) [0, 1, 2, 3, 4, 5, 6] rfl ?_
                        exact ih_293 _ (by have bb := bI_rg (mkB (tbt m2) (bk d i x)); first | (have b1 : bI (mkB (tbt m2) (bk d i x)) = 1 := by rw [c_14]; rfl); omega | (have b1 : bI (mkB (tbt m2) (bk d i x)) = 0 := by rw [c_14]; rfl); omega) (x + 0) (bI (mkB (tbt m2) (bk d i x))) (mkM m2 (bk d i x)) (by have bb := bI_rg (mkB (tbt m2) (bk d i x)); omega) (by first | exact mkX2_s k1.1 k2 c_14 | (unfold mkM; rw [if_neg (by rw [c_14]; decide), Int.add_zero]; exact k2)) (fun _ => k3 (by omega)) (fun e => by first | exact mk_fail hS (by omega) hz (by omega) k2 c_14 | (rw [c_14] at e; cases e)) (fun _ => k3 (by omega)) rfl
                      · refine w_iconst C dX11_isSound_325 ?_
                        refine w_goto C 330 dX11_isSound_326 rfl ?_
                        refine w_iadd C dX11_isSound_330 ?_
                        refine w_istore (lv2 := [(0, .ref h), (1, .int (iI i)), (5, .int (iI (bc d i))), (6, .int (iI (bI (mkB (tbt m2) (bk d i x))))), (7, .int (iI z)), (8, .int (iI (ind d i))), (9, .int (iI (x + 1)))]) C dX11_isSound_331 (by decide) rfl ?_
                        refine w_goto C 293 dX11_isSound_333 rfl ?_
                        refine w_lv (lv2 := [(0, .ref h), (1, .int (iI i)), (5, .int (iI (bc d i))), (6, .int (iI (bI (mkB (tbt m2) (bk d i x))))), (7, .int (iI z)), (8, .int (iI (ind d i))), (9, .int (iI (x + 1)))]) [0, 1, 2, 3, 4, 5, 6] rfl ?_
                        exact ih_293 _ (by have bb := bI_rg (mkB (tbt m2) (bk d i x)); first | (have b1 : bI (mkB (tbt m2) (bk d i x)) = 1 := by rw [c_14]; rfl); omega | (have b1 : bI (mkB (tbt m2) (bk d i x)) = 0 := by rw [c_14]; rfl); omega) (x + 1) (bI (mkB (tbt m2) (bk d i x))) (mkM m2 (bk d i x)) (by have bb := bI_rg (mkB (tbt m2) (bk d i x)); omega) (by first | exact mkX2_s k1.1 k2 c_14 | (unfold mkM; rw [if_neg (by rw [c_14]; decide), Int.add_zero]; exact k2)) (fun _ => k3 (by omega)) (fun e => by first | exact mk_fail hS (by omega) hz (by omega) k2 c_14 | (rw [c_14] at e; cases e)) (fun _ => k3 (by omega)) rfl
              exact L_293 _ 0 s m (by omega) (mkX2_0 m d i) id g0 (fun q => by omega) rfl
            refine w_iload C 4 dX11_isSound_212 rfl ?_
            refine w_if_eq C 290 dX11_isSound_214 rfl (by omega) (fun c_15 => ?_) (fun c_15 => ?_)
            · refine w_lv (lv2 := [(0, .ref h), (1, .int (iI i)), (5, .int (iI (bc d i))), (6, .int (iI s)), (7, .int (iI 0)), (8, .int (iI (ind d i)))]) [0, 1, 3, 4, 5, 6] rfl ?_
              exact J_290 s 0 tm (by omega) (by first | exact Or.inl ⟨rfl, rfl⟩ | exact hM) (fun e => by first | omega | exact ⟨(sb_le (by omega) (by omega)).mpr (h2.mp e), fun q => by omega⟩ | exact ⟨(sb_gt (by omega) (by omega) o46 (hd9 (h4.mp e).1)).mpr (fun q a1 a2 => (h4.mp e).2 q a1 (by omega)), fun _ => by have w := (h4.mp e).1; omega⟩) (fun e => by first | exact pt_f hS (by omega) (fun q => by have w := h2.mpr q; omega) | exact (absurd (show (1 : Int) = 0 by omega) (by decide)) | (rcases hX with w | w; (exact w.2); (exact sb_f hS (fun q => by have u := (sb_gt (by omega) (by omega) o46 (hd9 w)).mp q; have v2 := h4.mpr ⟨w, fun a b1 b2 => u a b1 (by omega)⟩; omega))))
            · refine w_iload C 3 dX11_isSound_217 rfl ?_
              refine w_iconst C dX11_isSound_219 ?_
              refine w_icmp_le C 290 dX11_isSound_220 rfl (by omega) (fun c_16 => ?_) (fun c_16 => ?_)
              · refine w_lv (lv2 := [(0, .ref h), (1, .int (iI i)), (5, .int (iI (bc d i))), (6, .int (iI s)), (7, .int (iI 0)), (8, .int (iI (ind d i)))]) [0, 1, 3, 4, 5, 6] rfl ?_
                exact J_290 s 0 tm (by omega) (by first | exact Or.inl ⟨rfl, rfl⟩ | exact hM) (fun e => by first | omega | exact ⟨(sb_le (by omega) (by omega)).mpr (h2.mp e), fun q => by omega⟩ | exact ⟨(sb_gt (by omega) (by omega) o46 (hd9 (h4.mp e).1)).mpr (fun q a1 a2 => (h4.mp e).2 q a1 (by omega)), fun _ => by have w := (h4.mp e).1; omega⟩) (fun e => by first | exact pt_f hS (by omega) (fun q => by have w := h2.mpr q; omega) | exact (absurd (show (1 : Int) = 0 by omega) (by decide)) | (rcases hX with w | w; (exact w.2); (exact sb_f hS (fun q => by have u := (sb_gt (by omega) (by omega) o46 (hd9 w)).mp q; have v2 := h4.mpr ⟨w, fun a b1 b2 => u a b1 (by omega)⟩; omega))))
              · refine w_aload_n C 0 dX11_isSound_223 rfl ?_
                refine w_iload C 6 dX11_isSound_224 rfl ?_
                refine w_callV (As := [.int (iI (ind d i))]) (rest := []) (w2 := [(h, .inr (9, [.ref a, .ref b, .ref tk, .ref re, .ref qu, .int (iI hd), .int (iI tl), .ref nm, .int (iI nl)])), (b, .inl (gI G, 4096, .inl (arI d))), (tk, .inl (gZ G, 64, .inl (arB (mkT (tbt tm) (ind d i)))))]) (st2 := [.int (iI (bI (mkB (tbt tm) (ind d i))))]) C (ct_X11_mark G (kl k) h a b tk re qu nm hd tl nl (tbt tm) (ind d i) (by omega)) gX11_55 dX11_isSound_226 0 rfl rfl rfl rfl rfl (Nat.le_of_ble_eq_true rfl) (by decide) [0, 2] rfl (by decide) [h, tk] rfl rfl rfl rfl ?_
                have J_243 : ∀ (s2 : Int) (z : Int) (m : Int64), (mkI tm d i z m) → ((s2 = 0 ∧ sndB tm d i = false) ∨ s2 = 1) → (z = s2) → Wd G k 11 0 0 [(h, .inr (9, [.ref a, .ref b, .ref tk, .ref re, .ref qu, .int (iI hd), .int (iI tl), .ref nm, .int (iI nl)])), (b, .inl (gI G, 4096, .inl (arI d))), (tk, .inl (gZ G, 64, .inl (arB (tbt m))))] 243 [(0, .ref h), (1, .int (iI i)), (2, .int (iI (512 + 16 * i))), (5, .int (iI (bc d i))), (6, .int (iI s2)), (7, .int (iI z)), (8, .int (iI (ind d i)))] [] := by
                  intro s2 z m hM hX hzz
                  have hd9 : s2 = 1 → dat (ind d i) := fun e => by rcases hM with w | w; omega; exact w.2.2.1
                  refine w_iload C 3 dX11_isSound_243 rfl ?_
                  refine w_iconst C dX11_isSound_245 ?_
                  refine w_isub C dX11_isSound_246 ?_
                  refine w_istore (lv2 := [(0, .ref h), (1, .int (iI i)), (2, .int (iI (512 + 16 * i))), (5, .int (iI (bc d i))), (6, .int (iI s2)), (7, .int (iI z)), (8, .int (iI (ind d i))), (9, .int (iI ((bc d i) - 5)))]) C dX11_isSound_247 (by decide) rfl ?_
                  have L_249 : ∀ (nn_249 : Nat) (y : Int) (s3 : Int), (bc d i - 5 ≤ y ∧ y ≤ 64 ∧ (s3 = 0 ∨ s3 = 1)) → (s3 = 1 ↔ s2 = 1 ∧ ∀ q : Int, bc d i - 5 ≤ q → q < y → d.1 (64 * ind d i + q) = 0) → (64 - y).toNat = nn_249 → Wd G k 11 0 0 [(h, .inr (9, [.ref a, .ref b, .ref tk, .ref re, .ref qu, .int (iI hd), .int (iI tl), .ref nm, .int (iI nl)])), (b, .inl (gI G, 4096, .inl (arI d))), (tk, .inl (gZ G, 64, .inl (arB (tbt m))))] 249 [(0, .ref h), (1, .int (iI i)), (2, .int (iI (512 + 16 * i))), (5, .int (iI (bc d i))), (6, .int (iI s3)), (7, .int (iI z)), (8, .int (iI (ind d i))), (9, .int (iI y))] [] := by
                    intro nn_249
                    induction nn_249 using Nat.strongRecOn with
                    | ind nn_249 ih_249 =>
                      intro y s3 h3 h4 hm_249
                      refine w_iload C 7 dX11_isSound_249 rfl ?_
                      refine w_bipush C dX11_isSound_251 (by decide) ?_
                      refine w_icmp_ge C 290 dX11_isSound_253 rfl (by omega) (fun c_17 => ?_) (fun c_17 => ?_)
                      · refine w_lv (lv2 := [(0, .ref h), (1, .int (iI i)), (5, .int (iI (bc d i))), (6, .int (iI s3)), (7, .int (iI z)), (8, .int (iI (ind d i)))]) [0, 1, 3, 4, 5, 6] rfl ?_
                        exact J_290 s3 z m (by omega) (by first | exact Or.inl ⟨rfl, rfl⟩ | exact hM) (fun e => by first | omega | exact ⟨(sb_le (by omega) (by omega)).mpr (h2.mp e), fun q => by omega⟩ | exact ⟨(sb_gt (by omega) (by omega) o46 (hd9 (h4.mp e).1)).mpr (fun q a1 a2 => (h4.mp e).2 q a1 (by omega)), fun _ => by have w := (h4.mp e).1; omega⟩) (fun e => by first | exact pt_f hS (by omega) (fun q => by have w := h2.mpr q; omega) | exact (absurd (show (1 : Int) = 0 by omega) (by decide)) | (rcases hX with w | w; (exact w.2); (exact sb_f hS (fun q => by have u := (sb_gt (by omega) (by omega) o46 (hd9 w)).mp q; have v2 := h4.mpr ⟨w, fun a b1 b2 => u a b1 (by omega)⟩; omega))))
                      · refine w_iload C 4 dX11_isSound_256 rfl ?_
                        refine w_if_eq C 290 dX11_isSound_258 rfl (by omega) (fun c_18 => ?_) (fun c_18 => ?_)
                        · refine w_lv (lv2 := [(0, .ref h), (1, .int (iI i)), (5, .int (iI (bc d i))), (6, .int (iI s3)), (7, .int (iI z)), (8, .int (iI (ind d i)))]) [0, 1, 3, 4, 5, 6] rfl ?_
                          exact J_290 s3 z m (by omega) (by first | exact Or.inl ⟨rfl, rfl⟩ | exact hM) (fun e => by first | omega | exact ⟨(sb_le (by omega) (by omega)).mpr (h2.mp e), fun q => by omega⟩ | exact ⟨(sb_gt (by omega) (by omega) o46 (hd9 (h4.mp e).1)).mpr (fun q a1 a2 => (h4.mp e).2 q a1 (by omega)), fun _ => by have w := (h4.mp e).1; omega⟩) (fun e => by first | exact pt_f hS (by omega) (fun q => by have w := h2.mpr q; omega) | exact (absurd (show (1 : Int) = 0 by omega) (by decide)) | (rcases hX with w | w; (exact w.2); (exact sb_f hS (fun q => by have u := (sb_gt (by omega) (by omega) o46 (hd9 w)).mp q; have v2 := h4.mpr ⟨w, fun a b1 b2 => u a b1 (by omega)⟩; omega))))
                        · have hd8 := hd9 (h4.mp (by omega)).1
                          refine w_aload_n C 0 dX11_isSound_261 rfl ?_
                          refine w_get C 0 1 847 dX11_isSound_262 rfl rfl inX11 (by decide) (by decide +kernel) rfl ?_
                          refine w_bipush C dX11_isSound_265 (by decide) ?_
                          refine w_iload C 6 dX11_isSound_267 rfl ?_
                          refine w_imul C dX11_isSound_269 ?_
                          refine w_iload C 7 dX11_isSound_270 rfl ?_
                          refine w_iadd C dX11_isSound_272 ?_
                          refine w_iald C 1 dX11_isSound_273 rfl (by omega) ?_
                          have b_19 := d.2 ((64 * (ind d i)) + y)
                          refine w_if_ne C 281 dX11_isSound_274 rfl (by omega) (fun c_20 => ?_) (fun c_20 => ?_)
                          · refine w_iconst C dX11_isSound_281 ?_
                            refine w_istore (lv2 := [(0, .ref h), (1, .int (iI i)), (2, .int (iI (512 + 16 * i))), (5, .int (iI (bc d i))), (6, .int (iI 0)), (7, .int (iI z)), (8, .int (iI (ind d i))), (9, .int (iI y))]) C dX11_isSound_282 (by decide) rfl ?_
                            refine w_iinc (lv2 := [(0, .ref h), (1, .int (iI i)), (2, .int (iI (512 + 16 * i))), (5, .int (iI (bc d i))), (6, .int (iI 0)), (7, .int (iI z)), (8, .int (iI (ind d i))), (9, .int (iI (y + 1)))]) C 7 dX11_isSound_284 rfl (by decide) rfl ?_
                            refine w_goto C 249 dX11_isSound_287 rfl ?_
                            exact ih_249 _ (by omega) (y + 1) 0 (by omega) (@sbl_s _ (fun q => d.1 (64 * ind d i + q)) _ _ _ _ h4 (by omega) (by omega) (by show _ ↔ d.1 (64 * ind d i + y) = 0; omega)) rfl
                          · refine w_iconst C dX11_isSound_277 ?_
                            refine w_goto C 282 dX11_isSound_278 rfl ?_
                            refine w_istore (lv2 := [(0, .ref h), (1, .int (iI i)), (2, .int (iI (512 + 16 * i))), (5, .int (iI (bc d i))), (6, .int (iI 1)), (7, .int (iI z)), (8, .int (iI (ind d i))), (9, .int (iI y))]) C dX11_isSound_282 (by decide) rfl ?_
                            refine w_iinc (lv2 := [(0, .ref h), (1, .int (iI i)), (2, .int (iI (512 + 16 * i))), (5, .int (iI (bc d i))), (6, .int (iI 1)), (7, .int (iI z)), (8, .int (iI (ind d i))), (9, .int (iI (y + 1)))]) C 7 dX11_isSound_284 rfl (by decide) rfl ?_
                            refine w_goto C 249 dX11_isSound_287 rfl ?_
                            exact ih_249 _ (by omega) (y + 1) 1 (by omega) (@sbl_s _ (fun q => d.1 (64 * ind d i + q)) _ _ _ _ h4 (by omega) (by omega) (by show _ ↔ d.1 (64 * ind d i + y) = 0; omega)) rfl
                  exact L_249 _ ((bc d i) - 5) s2 (by omega) ⟨fun e => ⟨e, fun q a1 a2 => by omega⟩, fun e => e.1⟩ rfl
                refine w_arrB (e := tbt (mkM tm (ind d i))) (ws2 := [(h, .inr (9, [.ref a, .ref b, .ref tk, .ref re, .ref qu, .int (iI hd), .int (iI tl), .ref nm, .int (iI nl)])), (b, .inl (gI G, 4096, .inl (arI d))), (tk, .inl (gZ G, 64, .inl (arB (tbt (mkM tm (ind d i))))))]) 2 rfl (mkT_M tm _) rfl ?_
                refine w_istore (lv2 := [(0, .ref h), (1, .int (iI i)), (2, .int (iI (512 + 16 * i))), (5, .int (iI (bc d i))), (6, .int (iI (bI (mkB (tbt tm) (ind d i))))), (7, .int (iI 0)), (8, .int (iI (ind d i)))]) C dX11_isSound_229 (by decide) rfl ?_
                refine w_iload C 4 dX11_isSound_231 rfl ?_
                refine w_bz C 240 dX11_isSound_233 rfl (fun c_21 => ?_) (fun c_21 => ?_)
                · refine w_iconst C dX11_isSound_240 ?_
                  refine w_istore (lv2 := [(0, .ref h), (1, .int (iI i)), (2, .int (iI (512 + 16 * i))), (5, .int (iI (bc d i))), (6, .int (iI (bI (mkB (tbt tm) (ind d i))))), (7, .int (iI 0)), (8, .int (iI (ind d i)))]) C dX11_isSound_241 (by decide) rfl ?_
                  refine w_lv (lv2 := [(0, .ref h), (1, .int (iI i)), (2, .int (iI (512 + 16 * i))), (5, .int (iI (bc d i))), (6, .int (iI (bI (mkB (tbt tm) (ind d i))))), (7, .int (iI 0)), (8, .int (iI (ind d i)))]) [0, 1, 2, 3, 4, 5, 6] rfl ?_
                  exact J_243 (bI (mkB (tbt tm) (ind d i))) 0 (mkM tm (ind d i)) (by unfold mkM; first | (rw [if_pos c_21]; exact Or.inr ⟨rfl, rfl, ((mkB_iff tm _).mp c_21).1, ((mkB_iff tm _).mp c_21).2, by omega⟩) | (rw [if_neg (by rw [c_21]; decide)]; exact Or.inl ⟨rfl, rfl⟩)) (by rw [c_21]; first | (right; rfl) | exact Or.inl ⟨rfl, ind_f hS (by omega) (by omega) c_21⟩) (by rw [c_21]; rfl)
                · refine w_iconst C dX11_isSound_236 ?_
                  refine w_goto C 241 dX11_isSound_237 rfl ?_
                  refine w_istore (lv2 := [(0, .ref h), (1, .int (iI i)), (2, .int (iI (512 + 16 * i))), (5, .int (iI (bc d i))), (6, .int (iI (bI (mkB (tbt tm) (ind d i))))), (7, .int (iI 1)), (8, .int (iI (ind d i)))]) C dX11_isSound_241 (by decide) rfl ?_
                  refine w_lv (lv2 := [(0, .ref h), (1, .int (iI i)), (2, .int (iI (512 + 16 * i))), (5, .int (iI (bc d i))), (6, .int (iI (bI (mkB (tbt tm) (ind d i))))), (7, .int (iI 1)), (8, .int (iI (ind d i)))]) [0, 1, 2, 3, 4, 5, 6] rfl ?_
                  exact J_243 (bI (mkB (tbt tm) (ind d i))) 1 (mkM tm (ind d i)) (by unfold mkM; first | (rw [if_pos c_21]; exact Or.inr ⟨rfl, rfl, ((mkB_iff tm _).mp c_21).1, ((mkB_iff tm _).mp c_21).2, by omega⟩) | (rw [if_neg (by rw [c_21]; decide)]; exact Or.inl ⟨rfl, rfl⟩)) (by rw [c_21]; first | (right; rfl) | exact Or.inl ⟨rfl, ind_f hS (by omega) (by omega) c_21⟩) (by rw [c_21]; rfl)
          refine w_iload C 4 dX11_isSound_155 rfl ?_
          refine w_if_eq C 195 dX11_isSound_157 rfl (by omega) (fun c_22 => ?_) (fun c_22 => ?_)
          · refine w_iconst C dX11_isSound_195 ?_
            refine w_lv (lv2 := [(0, .ref h), (1, .int (iI i)), (2, .int (iI (512 + 16 * i))), (5, .int (iI (bc d i)))]) [0, 1, 2, 3] rfl ?_
            exact J_196 0 (by omega) (by rw [show (5 : Int) = x by omega, ← h2]; omega)
          · refine w_iload C 3 dX11_isSound_160 rfl ?_
            refine w_iconst C dX11_isSound_162 ?_
            refine w_icmp_le C 170 dX11_isSound_163 rfl (by omega) (fun c_23 => ?_) (fun c_23 => ?_)
            · refine w_iconst C dX11_isSound_170 ?_
              refine w_aload_n C 0 dX11_isSound_171 rfl ?_
              refine w_get C 0 1 847 dX11_isSound_172 rfl rfl inX11 (by decide) (by decide +kernel) rfl ?_
              refine w_iload_n C 2 dX11_isSound_175 rfl ?_
              refine w_bipush C dX11_isSound_176 (by decide) ?_
              refine w_iadd C dX11_isSound_178 ?_
              refine w_iald C 1 dX11_isSound_179 rfl (by omega) ?_
              have b_24 := d.2 ((512 + 16 * i) + 9)
              have n9 := d.2 (512 + i * 16 + 9)
              change 0 ≤ ind d i ∧ ind d i < 256 at n9
              refine w_st (st2 := [.int (iI (ind d i)), .int (iI 0)]) (by rw [show 512 + 16 * i + 9 = 512 + i * 16 + 9 by omega]) ?_
              refine w_if_eq C 187 dX11_isSound_180 rfl (by omega) (fun c_25 => ?_) (fun c_25 => ?_)
              · refine w_iconst C dX11_isSound_187 ?_
                refine w_icmp_ne C 195 dX11_isSound_188 rfl (by omega) (fun c_26 => ?_) (fun c_26 => ?_)
                · omega
                · refine w_iconst C dX11_isSound_191 ?_
                  refine w_goto C 196 dX11_isSound_192 rfl ?_
                  refine w_lv (lv2 := [(0, .ref h), (1, .int (iI i)), (2, .int (iI (512 + 16 * i))), (5, .int (iI (bc d i)))]) [0, 1, 2, 3] rfl ?_
                  exact J_196 1 (by omega) (by rw [show (5 : Int) = x by omega, ← h2]; omega)
              · refine w_iconst C dX11_isSound_183 ?_
                refine w_goto C 188 dX11_isSound_184 rfl ?_
                refine w_icmp_ne C 195 dX11_isSound_188 rfl (by omega) (fun c_27 => ?_) (fun c_27 => ?_)
                · refine w_iconst C dX11_isSound_195 ?_
                  refine w_lv (lv2 := [(0, .ref h), (1, .int (iI i)), (2, .int (iI (512 + 16 * i))), (5, .int (iI (bc d i)))]) [0, 1, 2, 3] rfl ?_
                  exact J_196 0 (by omega) (by rw [show (5 : Int) = x by omega, ← h2]; omega)
                · omega
            · refine w_iconst C dX11_isSound_166 ?_
              refine w_goto C 171 dX11_isSound_167 rfl ?_
              refine w_aload_n C 0 dX11_isSound_171 rfl ?_
              refine w_get C 0 1 847 dX11_isSound_172 rfl rfl inX11 (by decide) (by decide +kernel) rfl ?_
              refine w_iload_n C 2 dX11_isSound_175 rfl ?_
              refine w_bipush C dX11_isSound_176 (by decide) ?_
              refine w_iadd C dX11_isSound_178 ?_
              refine w_iald C 1 dX11_isSound_179 rfl (by omega) ?_
              have b_28 := d.2 ((512 + 16 * i) + 9)
              have n9 := d.2 (512 + i * 16 + 9)
              change 0 ≤ ind d i ∧ ind d i < 256 at n9
              refine w_st (st2 := [.int (iI (ind d i)), .int (iI 1)]) (by rw [show 512 + 16 * i + 9 = 512 + i * 16 + 9 by omega]) ?_
              refine w_if_eq C 187 dX11_isSound_180 rfl (by omega) (fun c_29 => ?_) (fun c_29 => ?_)
              · refine w_iconst C dX11_isSound_187 ?_
                refine w_icmp_ne C 195 dX11_isSound_188 rfl (by omega) (fun c_30 => ?_) (fun c_30 => ?_)
                · refine w_iconst C dX11_isSound_195 ?_
                  refine w_lv (lv2 := [(0, .ref h), (1, .int (iI i)), (2, .int (iI (512 + 16 * i))), (5, .int (iI (bc d i)))]) [0, 1, 2, 3] rfl ?_
                  exact J_196 0 (by omega) (by rw [show (5 : Int) = x by omega, ← h2]; omega)
                · omega
              · refine w_iconst C dX11_isSound_183 ?_
                refine w_goto C 188 dX11_isSound_184 rfl ?_
                refine w_icmp_ne C 195 dX11_isSound_188 rfl (by omega) (fun c_31 => ?_) (fun c_31 => ?_)
                · omega
                · refine w_iconst C dX11_isSound_191 ?_
                  refine w_goto C 196 dX11_isSound_192 rfl ?_
                  refine w_lv (lv2 := [(0, .ref h), (1, .int (iI i)), (2, .int (iI (512 + 16 * i))), (5, .int (iI (bc d i)))]) [0, 1, 2, 3] rfl ?_
                  exact J_196 1 (by omega) (by rw [show (5 : Int) = x by omega, ← h2]; omega)
        · refine w_iload C 4 dX11_isSound_116 rfl ?_
          refine w_if_eq C 146 dX11_isSound_118 rfl (by omega) (fun c_32 => ?_) (fun c_32 => ?_)
          · refine w_iconst C dX11_isSound_146 ?_
            refine w_istore (lv2 := [(0, .ref h), (1, .int (iI i)), (2, .int (iI (512 + 16 * i))), (5, .int (iI (bc d i))), (6, .int (iI 0)), (7, .int (iI x))]) C dX11_isSound_147 (by decide) rfl ?_
            refine w_iinc (lv2 := [(0, .ref h), (1, .int (iI i)), (2, .int (iI (512 + 16 * i))), (5, .int (iI (bc d i))), (6, .int (iI 0)), (7, .int (iI (x + 1)))]) C 5 dX11_isSound_149 rfl (by decide) rfl ?_
            refine w_goto C 110 dX11_isSound_152 rfl ?_
            exact ih_110 _ (by omega) (x + 1) 0 (by omega) (by rw [ptB_s h1.1, ← h2]; omega) rfl
          · refine w_iload C 5 dX11_isSound_121 rfl ?_
            refine w_iload C 3 dX11_isSound_123 rfl ?_
            refine w_icmp_lt C 142 dX11_isSound_125 rfl (by omega) (fun c_33 => ?_) (fun c_33 => ?_)
            · refine w_iconst C dX11_isSound_142 ?_
              refine w_goto C 147 dX11_isSound_143 rfl ?_
              refine w_istore (lv2 := [(0, .ref h), (1, .int (iI i)), (2, .int (iI (512 + 16 * i))), (5, .int (iI (bc d i))), (6, .int (iI 1)), (7, .int (iI x))]) C dX11_isSound_147 (by decide) rfl ?_
              refine w_iinc (lv2 := [(0, .ref h), (1, .int (iI i)), (2, .int (iI (512 + 16 * i))), (5, .int (iI (bc d i))), (6, .int (iI 1)), (7, .int (iI (x + 1)))]) C 5 dX11_isSound_149 rfl (by decide) rfl ?_
              refine w_goto C 110 dX11_isSound_152 rfl ?_
              exact ih_110 _ (by omega) (x + 1) 1 (by omega) (by rw [ptB_s h1.1, ← h2]; omega) rfl
            · refine w_aload_n C 0 dX11_isSound_128 rfl ?_
              refine w_get C 0 1 847 dX11_isSound_129 rfl rfl inX11 (by decide) (by decide +kernel) rfl ?_
              refine w_iload_n C 2 dX11_isSound_132 rfl ?_
              refine w_iconst C dX11_isSound_133 ?_
              refine w_iadd C dX11_isSound_134 ?_
              refine w_iload C 5 dX11_isSound_135 rfl ?_
              refine w_iadd C dX11_isSound_137 ?_
              refine w_iald C 1 dX11_isSound_138 rfl (by omega) ?_
              have b_34 := d.2 (((512 + 16 * i) + 4) + x)
              refine w_if_ne C 146 dX11_isSound_139 rfl (by omega) (fun c_35 => ?_) (fun c_35 => ?_)
              · refine w_iconst C dX11_isSound_146 ?_
                refine w_istore (lv2 := [(0, .ref h), (1, .int (iI i)), (2, .int (iI (512 + 16 * i))), (5, .int (iI (bc d i))), (6, .int (iI 0)), (7, .int (iI x))]) C dX11_isSound_147 (by decide) rfl ?_
                refine w_iinc (lv2 := [(0, .ref h), (1, .int (iI i)), (2, .int (iI (512 + 16 * i))), (5, .int (iI (bc d i))), (6, .int (iI 0)), (7, .int (iI (x + 1)))]) C 5 dX11_isSound_149 rfl (by decide) rfl ?_
                refine w_goto C 110 dX11_isSound_152 rfl ?_
                exact ih_110 _ (by omega) (x + 1) 0 (by omega) (by rw [ptB_s h1.1, ← h2]; omega) rfl
              · refine w_iconst C dX11_isSound_142 ?_
                refine w_goto C 147 dX11_isSound_143 rfl ?_
                refine w_istore (lv2 := [(0, .ref h), (1, .int (iI i)), (2, .int (iI (512 + 16 * i))), (5, .int (iI (bc d i))), (6, .int (iI 1)), (7, .int (iI x))]) C dX11_isSound_147 (by decide) rfl ?_
                refine w_iinc (lv2 := [(0, .ref h), (1, .int (iI i)), (2, .int (iI (512 + 16 * i))), (5, .int (iI (bc d i))), (6, .int (iI 1)), (7, .int (iI (x + 1)))]) C 5 dX11_isSound_149 rfl (by decide) rfl ?_
                refine w_goto C 110 dX11_isSound_152 rfl ?_
                exact ih_110 _ (by omega) (x + 1) 1 (by omega) (by rw [ptB_s h1.1, ← h2]; omega) rfl
    exact L_110 _ 0 1 (by omega) ⟨fun _ => ptB_0 d i, fun _ => rfl⟩ rfl
  refine w_iload_n C 3 dX11_isSound_19 rfl ?_
  refine w_iconst C dX11_isSound_20 ?_
  refine w_icmp_lt C 95 dX11_isSound_21 rfl (by omega) (fun c_36 => ?_) (fun c_36 => ?_)
  · refine w_lv (lv2 := [(0, .ref h)]) [0] rfl ?_
    exact J_95  (by cases q : sndB tm d i with | false => rfl | true => (have w := snd_f q; exfalso; first | omega | (have w2 := w.2.1; rw [c_36] at w2; cases w2)))
  · refine w_iload_n C 3 dX11_isSound_24 rfl ?_
    refine w_iconst C dX11_isSound_25 ?_
    refine w_icmp_gt C 95 dX11_isSound_26 rfl (by omega) (fun c_37 => ?_) (fun c_37 => ?_)
    · refine w_lv (lv2 := [(0, .ref h)]) [0] rfl ?_
      exact J_95  (by cases q : sndB tm d i with | false => rfl | true => (have w := snd_f q; exfalso; first | omega | (have w2 := w.2.1; rw [c_37] at w2; cases w2)))
    · refine w_iload_n C 1 dX11_isSound_29 rfl ?_
      refine w_iconst C dX11_isSound_30 ?_
      refine w_icmp_ge C 39 dX11_isSound_31 rfl (by omega) (fun c_38 => ?_) (fun c_38 => ?_)
      · refine w_aload_n C 0 dX11_isSound_39 rfl ?_
        refine w_iload_n C 2 dX11_isSound_40 rfl ?_
        refine w_bipush C dX11_isSound_41 (by decide) ?_
        refine w_iadd C dX11_isSound_43 ?_
        refine w_callV (As := [.int (iI ((512 + 16 * i) + 14))]) (rest := []) (w2 := [(h, .inr (9, [.ref a, .ref b, .ref tk, .ref re, .ref qu, .int (iI hd), .int (iI tl), .ref nm, .int (iI nl)])), (b, .inl (gI G, 4096, .inl (arI d))), (tk, .inl (gZ G, 64, .inl (arB (tbt tm))))]) (st2 := [.int (iI (im_two d ((512 + 16 * i) + 14)))]) C (ct_X11_two G (kl k) h a b tk re qu nm hd tl nl d ((512 + 16 * i) + 14) (by omega)) gX11_34 dX11_isSound_44 0 rfl rfl rfl rfl rfl (Nat.le_of_ble_eq_true rfl) (by decide) [0, 1] rfl (by decide) [h, b] rfl rfl rfl rfl ?_
        have f_39 := im_two_rg d ((512 + 16 * i) + 14)
        refine w_aload_n C 0 dX11_isSound_47 rfl ?_
        refine w_iload_n C 2 dX11_isSound_48 rfl ?_
        refine w_bipush C dX11_isSound_49 (by decide) ?_
        refine w_callV (As := [.int (iI (512 + 16 * i)), .int (iI 14)]) (rest := [.int (iI (im_two d ((512 + 16 * i) + 14)))]) (w2 := [(h, .inr (9, [.ref a, .ref b, .ref tk, .ref re, .ref qu, .int (iI hd), .int (iI tl), .ref nm, .int (iI nl)])), (b, .inl (gI G, 4096, .inl (arI d))), (tk, .inl (gZ G, 64, .inl (arB (tbt tm))))]) (st2 := [.int (iI (im_sum d (512 + 16 * i) 14)), .int (iI (im_two d ((512 + 16 * i) + 14)))]) C (ct_X11_sum G (kl k) h a b tk re qu nm hd tl nl d (512 + 16 * i) 14 (by unfold rgP; omega)) gX11_38 dX11_isSound_51 0 rfl rfl rfl rfl rfl (Nat.le_of_ble_eq_true rfl) (by decide) [0, 1] rfl (by decide) [h, b] rfl rfl rfl rfl ?_
        have f_40 := im_sum_rg d (512 + 16 * i) 14
        refine w_icmp_ne C 95 dX11_isSound_54 rfl (by omega) (fun c_41 => ?_) (fun c_41 => ?_)
        · refine w_lv (lv2 := [(0, .ref h)]) [0] rfl ?_
          exact J_95  (by cases q : sndB tm d i with | false => rfl | true => (have w := snd_f q; exfalso; first | omega | (have w2 := w.2.1; rw [c_41] at w2; cases w2)))
        · refine w_aload_n C 0 dX11_isSound_57 rfl ?_
          refine w_iload_n C 2 dX11_isSound_58 rfl ?_
          refine w_bipush C dX11_isSound_59 (by decide) ?_
          refine w_iadd C dX11_isSound_61 ?_
          refine w_iconst C dX11_isSound_62 ?_
          refine w_callV (As := [.int (iI ((512 + 16 * i) + 10)), .int (iI 4)]) (rest := []) (w2 := [(h, .inr (9, [.ref a, .ref b, .ref tk, .ref re, .ref qu, .int (iI hd), .int (iI tl), .ref nm, .int (iI nl)])), (b, .inl (gI G, 4096, .inl (arI d))), (tk, .inl (gZ G, 64, .inl (arB (tbt tm))))]) (st2 := [.int (iI (bI (im_blank d ((512 + 16 * i) + 10) 4)))]) C (ct_X11_isClear G (kl k) h a b tk re qu nm hd tl nl d ((512 + 16 * i) + 10) 4 (by unfold rgP; omega)) gX11_48 dX11_isSound_63 0 rfl rfl rfl rfl rfl (Nat.le_of_ble_eq_true rfl) (by decide) [0, 1] rfl (by decide) [h, b] rfl rfl rfl rfl ?_
          refine w_bz C 95 dX11_isSound_66 rfl (fun c_42 => ?_) (fun c_42 => ?_)
          · refine w_lv (lv2 := [(0, .ref h)]) [0] rfl ?_
            exact J_95  (by cases q : sndB tm d i with | false => rfl | true => (have w := snd_f q; exfalso; first | omega | (have w2 := w.2.1; rw [c_42] at w2; cases w2)))
          · refine w_iload C 4 dX11_isSound_69 rfl ?_
            refine w_sipush C dX11_isSound_71 (by decide) ?_
            refine w_icmp_gt C 95 dX11_isSound_74 rfl (by omega) (fun c_43 => ?_) (fun c_43 => ?_)
            · refine w_lv (lv2 := [(0, .ref h)]) [0] rfl ?_
              exact J_95  (by cases q : sndB tm d i with | false => rfl | true => (have w := snd_f q; exfalso; first | omega | (have w2 := w.2.1; rw [c_43] at w2; cases w2)))
            · refine w_iload_n C 3 dX11_isSound_77 rfl ?_
              refine w_iconst C dX11_isSound_78 ?_
              refine w_icmp_ne C 97 dX11_isSound_79 rfl (by omega) (fun c_44 => ?_) (fun c_44 => ?_)
              · refine w_lv (lv2 := [(0, .ref h), (1, .int (iI i)), (2, .int (iI (512 + 16 * i)))]) [0, 1, 2] rfl ?_
                exact J_97  (hs_t (by omega) (by omega) (by omega) (by assumption) (by assumption) (by omega) (by omega))
              · refine w_iload C 4 dX11_isSound_82 rfl ?_
                refine w_if_eq C 95 dX11_isSound_84 rfl (by omega) (fun c_45 => ?_) (fun c_45 => ?_)
                · refine w_lv (lv2 := [(0, .ref h)]) [0] rfl ?_
                  exact J_95  (by cases q : sndB tm d i with | false => rfl | true => (have w := snd_f q; exfalso; first | omega | (have w2 := w.2.1; rw [c_45] at w2; cases w2)))
                · refine w_iload C 4 dX11_isSound_87 rfl ?_
                  refine w_bipush C dX11_isSound_89 (by decide) ?_
                  refine w_irem C dX11_isSound_91 (by omega) ?_
                  refine w_if_eq C 97 dX11_isSound_92 rfl (by omega) (fun c_46 => ?_) (fun c_46 => ?_)
                  · refine w_lv (lv2 := [(0, .ref h), (1, .int (iI i)), (2, .int (iI (512 + 16 * i)))]) [0, 1, 2] rfl ?_
                    exact J_97  (hs_t (by omega) (by omega) (by omega) (by assumption) (by assumption) (by omega) (by omega))
                  · refine w_lv (lv2 := [(0, .ref h)]) [0] rfl ?_
                    exact J_95  (by cases q : sndB tm d i with | false => rfl | true => (have w := snd_f q; exfalso; first | omega | (have w2 := w.2.1; rw [c_46] at w2; cases w2)))
      · refine w_iload_n C 3 dX11_isSound_34 rfl ?_
        refine w_iconst C dX11_isSound_35 ?_
        refine w_icmp_ne C 95 dX11_isSound_36 rfl (by omega) (fun c_47 => ?_) (fun c_47 => ?_)
        · refine w_lv (lv2 := [(0, .ref h)]) [0] rfl ?_
          exact J_95  (by cases q : sndB tm d i with | false => rfl | true => (have w := snd_f q; exfalso; first | omega | (have w2 := w.2.1; rw [c_47] at w2; cases w2)))
        · refine w_aload_n C 0 dX11_isSound_39 rfl ?_
          refine w_iload_n C 2 dX11_isSound_40 rfl ?_
          refine w_bipush C dX11_isSound_41 (by decide) ?_
          refine w_iadd C dX11_isSound_43 ?_
          refine w_callV (As := [.int (iI ((512 + 16 * i) + 14))]) (rest := []) (w2 := [(h, .inr (9, [.ref a, .ref b, .ref tk, .ref re, .ref qu, .int (iI hd), .int (iI tl), .ref nm, .int (iI nl)])), (b, .inl (gI G, 4096, .inl (arI d))), (tk, .inl (gZ G, 64, .inl (arB (tbt tm))))]) (st2 := [.int (iI (im_two d ((512 + 16 * i) + 14)))]) C (ct_X11_two G (kl k) h a b tk re qu nm hd tl nl d ((512 + 16 * i) + 14) (by omega)) gX11_34 dX11_isSound_44 0 rfl rfl rfl rfl rfl (Nat.le_of_ble_eq_true rfl) (by decide) [0, 1] rfl (by decide) [h, b] rfl rfl rfl rfl ?_
          have f_48 := im_two_rg d ((512 + 16 * i) + 14)
          refine w_aload_n C 0 dX11_isSound_47 rfl ?_
          refine w_iload_n C 2 dX11_isSound_48 rfl ?_
          refine w_bipush C dX11_isSound_49 (by decide) ?_
          refine w_callV (As := [.int (iI (512 + 16 * i)), .int (iI 14)]) (rest := [.int (iI (im_two d ((512 + 16 * i) + 14)))]) (w2 := [(h, .inr (9, [.ref a, .ref b, .ref tk, .ref re, .ref qu, .int (iI hd), .int (iI tl), .ref nm, .int (iI nl)])), (b, .inl (gI G, 4096, .inl (arI d))), (tk, .inl (gZ G, 64, .inl (arB (tbt tm))))]) (st2 := [.int (iI (im_sum d (512 + 16 * i) 14)), .int (iI (im_two d ((512 + 16 * i) + 14)))]) C (ct_X11_sum G (kl k) h a b tk re qu nm hd tl nl d (512 + 16 * i) 14 (by unfold rgP; omega)) gX11_38 dX11_isSound_51 0 rfl rfl rfl rfl rfl (Nat.le_of_ble_eq_true rfl) (by decide) [0, 1] rfl (by decide) [h, b] rfl rfl rfl rfl ?_
          have f_49 := im_sum_rg d (512 + 16 * i) 14
          refine w_icmp_ne C 95 dX11_isSound_54 rfl (by omega) (fun c_50 => ?_) (fun c_50 => ?_)
          · refine w_lv (lv2 := [(0, .ref h)]) [0] rfl ?_
            exact J_95  (by cases q : sndB tm d i with | false => rfl | true => (have w := snd_f q; exfalso; first | omega | (have w2 := w.2.1; rw [c_50] at w2; cases w2)))
          · refine w_aload_n C 0 dX11_isSound_57 rfl ?_
            refine w_iload_n C 2 dX11_isSound_58 rfl ?_
            refine w_bipush C dX11_isSound_59 (by decide) ?_
            refine w_iadd C dX11_isSound_61 ?_
            refine w_iconst C dX11_isSound_62 ?_
            refine w_callV (As := [.int (iI ((512 + 16 * i) + 10)), .int (iI 4)]) (rest := []) (w2 := [(h, .inr (9, [.ref a, .ref b, .ref tk, .ref re, .ref qu, .int (iI hd), .int (iI tl), .ref nm, .int (iI nl)])), (b, .inl (gI G, 4096, .inl (arI d))), (tk, .inl (gZ G, 64, .inl (arB (tbt tm))))]) (st2 := [.int (iI (bI (im_blank d ((512 + 16 * i) + 10) 4)))]) C (ct_X11_isClear G (kl k) h a b tk re qu nm hd tl nl d ((512 + 16 * i) + 10) 4 (by unfold rgP; omega)) gX11_48 dX11_isSound_63 0 rfl rfl rfl rfl rfl (Nat.le_of_ble_eq_true rfl) (by decide) [0, 1] rfl (by decide) [h, b] rfl rfl rfl rfl ?_
            refine w_bz C 95 dX11_isSound_66 rfl (fun c_51 => ?_) (fun c_51 => ?_)
            · refine w_lv (lv2 := [(0, .ref h)]) [0] rfl ?_
              exact J_95  (by cases q : sndB tm d i with | false => rfl | true => (have w := snd_f q; exfalso; first | omega | (have w2 := w.2.1; rw [c_51] at w2; cases w2)))
            · refine w_iload C 4 dX11_isSound_69 rfl ?_
              refine w_sipush C dX11_isSound_71 (by decide) ?_
              refine w_icmp_gt C 95 dX11_isSound_74 rfl (by omega) (fun c_52 => ?_) (fun c_52 => ?_)
              · refine w_lv (lv2 := [(0, .ref h)]) [0] rfl ?_
                exact J_95  (by cases q : sndB tm d i with | false => rfl | true => (have w := snd_f q; exfalso; first | omega | (have w2 := w.2.1; rw [c_52] at w2; cases w2)))
              · refine w_iload_n C 3 dX11_isSound_77 rfl ?_
                refine w_iconst C dX11_isSound_78 ?_
                refine w_icmp_ne C 97 dX11_isSound_79 rfl (by omega) (fun c_53 => ?_) (fun c_53 => ?_)
                · omega
                · refine w_iload C 4 dX11_isSound_82 rfl ?_
                  refine w_if_eq C 95 dX11_isSound_84 rfl (by omega) (fun c_54 => ?_) (fun c_54 => ?_)
                  · refine w_lv (lv2 := [(0, .ref h)]) [0] rfl ?_
                    exact J_95  (by cases q : sndB tm d i with | false => rfl | true => (have w := snd_f q; exfalso; first | omega | (have w2 := w.2.1; rw [c_54] at w2; cases w2)))
                  · refine w_iload C 4 dX11_isSound_87 rfl ?_
                    refine w_bipush C dX11_isSound_89 (by decide) ?_
                    refine w_irem C dX11_isSound_91 (by omega) ?_
                    refine w_if_eq C 97 dX11_isSound_92 rfl (by omega) (fun c_55 => ?_) (fun c_55 => ?_)
                    · refine w_lv (lv2 := [(0, .ref h), (1, .int (iI i)), (2, .int (iI (512 + 16 * i)))]) [0, 1, 2] rfl ?_
                      exact J_97  (hs_t (by omega) (by omega) (by omega) (by assumption) (by assumption) (by omega) (by omega))
                    · refine w_lv (lv2 := [(0, .ref h)]) [0] rfl ?_
                      exact J_95  (by cases q : sndB tm d i with | false => rfl | true => (have w := snd_f q; exfalso; first | omega | (have w2 := w.2.1; rw [c_55] at w2; cases w2)))
