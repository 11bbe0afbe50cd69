theorem gX11_97 : cwv RX11 97 yX11_free cX11_free 4 (some .int) 1 967 969 40 74 970 := by decide +kernel
theorem gX11_100 : cwv RX11 100 yX11_directory cX11_directory 3 none 2 971 973 41 74 974 := by decide +kernel
set_option maxHeartbeats 4000000 in
set_option maxRecDepth 100000 in
theorem ct_X11_make (G : GX) (l : Launch) (h : Nat) (a : Nat) (b : Nat) (tk : Nat) (re : Nat) (qu : Nat) (nm : Nat) (hd : Int) (tl : Int) (nl : Int) (d : Im) (t : Int → Bool) (tm : Int64) (i : Int) (hw : WF tm d) (hi : 1 ≤ i ∧ i < 32) (hk : kd d i = 0) : CtE G l yX11_make cX11_make 4 none rmX11_make [.ref h, .int (iI i)] [(h, .inr (9, [.ref a, .ref b, .ref tk, .ref re, .ref qu, .int (iI hd), .int (iI tl), .ref nm, .int (iI nl)])), (b, .inl (gI G, 4096, .inl (arI d))), (tk, .inl (gZ G, 64, .inl (arB t)))] (fun e_ : (Int → Bool) => True) (fun e_ : (Int → Bool) => none) (fun e_ : (Int → Bool) => [(h, .inr (9, [.ref a, .ref b, .ref tk, .ref re, .ref qu, .int (iI hd), .int (iI tl), .ref nm, .int (iI nl)])), (b, .inl (gI G, 4096, .inl (arI (mdD tm d i)))), (tk, .inl (gZ G, 64, .inl (arB e_)))]) := by
  refine Ct.of (by decide) (Nat.le_of_ble_eq_true rfl) ?_
  intro k C hl hret
  subst hl
  refine w_lv (lv2 := [(0, .ref h), (1, .int (iI i))]) [0, 1] rfl ?_
  refine w_aload_n C 0 dX11_make_0 rfl ?_
  refine w_iconst C dX11_make_1 ?_
  refine w_callV (As := [.int (iI 0)]) (rest := []) (w2 := [(h, .inr (9, [.ref a, .ref b, .ref tk, .ref re, .ref qu, .int (iI hd), .int (iI tl), .ref nm, .int (iI nl)])), (b, .inl (gI G, 4096, .inl (arI d))), (tk, .inl (gZ G, 64, .inl (arB (tbt tm))))]) (st2 := [.int (iI (frz tm 0))]) C (ct_X11_free G (kl k) h a b tk re qu nm hd tl nl d t tm 0 hw (by omega)) gX11_97 dX11_make_2 0 rfl rfl rfl rfl rfl (Nat.le_of_ble_eq_true rfl) (by decide) [0, 1, 2] rfl (by decide) [h, b, tk] rfl rfl rfl rfl ?_
  have f_1 := @frz_rg tm 0 (by omega)
  refine w_istore_n (lv2 := [(0, .ref h), (1, .int (iI i)), (2, .int (iI (frz tm 0)))]) C dX11_make_5 (by decide) rfl ?_
  refine w_bipush C dX11_make_6 (by decide) ?_
  refine w_istore_n (lv2 := [(0, .ref h), (1, .int (iI i)), (2, .int (iI (frz tm 0))), (3, .int (iI 31))]) C dX11_make_8 (by decide) rfl ?_
  have L_9 : ∀ (nn_9 : Nat) (y : Int) (q : Int) (x : Im) (m : Int64), (1 ≤ y ∧ y ≤ 31) → (WF m x) → (q = frz m 0) → (prF tm d = prs (y - 1).toNat y m x) → y.toNat = nn_9 → Wd G k 4 0 0 [(h, .inr (9, [.ref a, .ref b, .ref tk, .ref re, .ref qu, .int (iI hd), .int (iI tl), .ref nm, .int (iI nl)])), (b, .inl (gI G, 4096, .inl (arI x))), (tk, .inl (gZ G, 64, .inl (arB (tbt m))))] 9 [(0, .ref h), (1, .int (iI i)), (2, .int (iI q)), (3, .int (iI y))] [] := by
    intro nn_9
    induction nn_9 using Nat.strongRecOn with
    | ind nn_9 ih_9 =>
      intro y q x m h1 hW hq hp hm_9
      have f9 := @frz_rg m 0 (by omega)
      have e9 := hW.free
      rw [← frz_0] at e9
      have r9 := hW.pcE
      refine w_iload_n C 3 dX11_make_9 rfl ?_
      refine w_iconst C dX11_make_10 ?_
      refine w_icmp_le C 49 dX11_make_11 rfl (by omega) (fun c_2 => ?_) (fun c_2 => ?_)
      · have hP : prF tm d = (m, x) := by rw [hp, show (y - 1).toNat = 0 by omega, prs]
        refine w_iload_n C 2 dX11_make_49 rfl ?_
        refine w_iconst C dX11_make_50 ?_
        refine w_icmp_eq C 60 dX11_make_51 rfl (by omega) (fun c_3 => ?_) (fun c_3 => ?_)
        · refine w_ws (ws2 := [(h, .inr (9, [.ref a, .ref b, .ref tk, .ref re, .ref qu, .int (iI hd), .int (iI tl), .ref nm, .int (iI nl)])), (b, .inl (gI G, 4096, .inl (arI (mdD tm d i)))), (tk, .inl (gZ G, 64, .inl (arB (tbt m))))]) (by unfold mdD; rw [hP]; dsimp only; rw [← frz_0]; first | (rw [if_pos (show frz m 0 = -1 by omega)]; done) | rw [if_neg (show ¬ frz m 0 = -1 by omega), hq]) ?_
          exact w_retv hret dX11_make_60 rfl rfl rfl ⟨(tbt m), trivial, rfl, rfl⟩
        · refine w_aload_n C 0 dX11_make_54 rfl ?_
          refine w_iload_n C 1 dX11_make_55 rfl ?_
          refine w_iload_n C 2 dX11_make_56 rfl ?_
          refine w_callV (As := [.int (iI i), .int (iI q)]) (rest := []) (w2 := [(h, .inr (9, [.ref a, .ref b, .ref tk, .ref re, .ref qu, .int (iI hd), .int (iI tl), .ref nm, .int (iI nl)])), (b, .inl (gI G, 4096, .inl (arI (dirD x i q)))), (tk, .inl (gZ G, 64, .inl (arB (tbt m))))]) (st2 := []) C (ct_X11_directory G (kl k) h a b tk re qu nm hd tl nl x i q (by omega) (by omega)) gX11_100 dX11_make_57 0 rfl rfl rfl rfl rfl (Nat.le_of_ble_eq_true rfl) (by decide) [0, 1] rfl (by decide) [h, b] rfl rfl rfl rfl ?_
          refine w_ws (ws2 := [(h, .inr (9, [.ref a, .ref b, .ref tk, .ref re, .ref qu, .int (iI hd), .int (iI tl), .ref nm, .int (iI nl)])), (b, .inl (gI G, 4096, .inl (arI (mdD tm d i)))), (tk, .inl (gZ G, 64, .inl (arB (tbt m))))]) (by unfold mdD; rw [hP]; dsimp only; rw [← frz_0]; first | (rw [if_pos (show frz m 0 = -1 by omega)]; done) | rw [if_neg (show ¬ frz m 0 = -1 by omega), hq]) ?_
          exact w_retv hret dX11_make_60 rfl rfl rfl ⟨(tbt m), trivial, rfl, rfl⟩
      · refine w_iload_n C 2 dX11_make_14 rfl ?_
        refine w_iconst C dX11_make_15 ?_
        refine w_icmp_ne C 49 dX11_make_16 rfl (by omega) (fun c_4 => ?_) (fun c_4 => ?_)
        · have hP : prF tm d = (m, x) := by rw [hp]; exact prs_stop _ _ _ _ (by omega)
          refine w_iload_n C 2 dX11_make_49 rfl ?_
          refine w_iconst C dX11_make_50 ?_
          refine w_icmp_eq C 60 dX11_make_51 rfl (by omega) (fun c_5 => ?_) (fun c_5 => ?_)
          · omega
          · refine w_aload_n C 0 dX11_make_54 rfl ?_
            refine w_iload_n C 1 dX11_make_55 rfl ?_
            refine w_iload_n C 2 dX11_make_56 rfl ?_
            refine w_callV (As := [.int (iI i), .int (iI q)]) (rest := []) (w2 := [(h, .inr (9, [.ref a, .ref b, .ref tk, .ref re, .ref qu, .int (iI hd), .int (iI tl), .ref nm, .int (iI nl)])), (b, .inl (gI G, 4096, .inl (arI (dirD x i q)))), (tk, .inl (gZ G, 64, .inl (arB (tbt m))))]) (st2 := []) C (ct_X11_directory G (kl k) h a b tk re qu nm hd tl nl x i q (by omega) (by omega)) gX11_100 dX11_make_57 0 rfl rfl rfl rfl rfl (Nat.le_of_ble_eq_true rfl) (by decide) [0, 1] rfl (by decide) [h, b] rfl rfl rfl rfl ?_
            refine w_ws (ws2 := [(h, .inr (9, [.ref a, .ref b, .ref tk, .ref re, .ref qu, .int (iI hd), .int (iI tl), .ref nm, .int (iI nl)])), (b, .inl (gI G, 4096, .inl (arI (mdD tm d i)))), (tk, .inl (gZ G, 64, .inl (arB (tbt m))))]) (by unfold mdD; rw [hP]; dsimp only; rw [← frz_0]; first | (rw [if_pos (show frz m 0 = -1 by omega)]; done) | rw [if_neg (show ¬ frz m 0 = -1 by omega), hq]) ?_
            exact w_retv hret dX11_make_60 rfl rfl rfl ⟨(tbt m), trivial, rfl, rfl⟩
        · refine w_aload_n C 0 dX11_make_19 rfl ?_
          refine w_iload_n C 3 dX11_make_20 rfl ?_
          refine w_callV (As := [.int (iI y)]) (rest := []) (w2 := [(h, .inr (9, [.ref a, .ref b, .ref tk, .ref re, .ref qu, .int (iI hd), .int (iI tl), .ref nm, .int (iI nl)])), (b, .inl (gI G, 4096, .inl (arI x))), (tk, .inl (gZ G, 64, .inl (arB (tbt m))))]) (st2 := [.int (iI (kd x y))]) C (ct_X11_kind G (kl k) h a b tk re qu nm hd tl nl x y (by omega)) gX11_62 dX11_make_21 0 rfl rfl rfl rfl rfl (Nat.le_of_ble_eq_true rfl) (by decide) [0, 1] rfl (by decide) [h, b] rfl rfl rfl rfl ?_
          have f_6 := kd_rg x y
          refine w_if_le C 43 dX11_make_24 rfl (by omega) (fun c_7 => ?_) (fun c_7 => ?_)
          · have hk0 : kd x y = 0 := by omega
            refine w_iinc (lv2 := [(0, .ref h), (1, .int (iI i)), (2, .int (iI q)), (3, .int (iI (y + (-1))))]) C 3 dX11_make_43 rfl (by decide) rfl ?_
            refine w_goto C 9 dX11_make_46 rfl ?_
            exact ih_9 _ (by omega) (y + (-1)) q x m (by omega) (by first | exact hW | exact hE) (by first | exact hq | rfl) (by rw [hp, show (y - 1).toNat = (y + (-1) - 1).toNat + 1 by omega, prs, if_neg (by omega)]; first | (rw [if_pos hk0, if_pos hk0, show y - 1 = y + (-1) by omega]; done) | (rw [if_neg hk0, if_neg hk0, show y - 1 = y + (-1) by omega])) rfl
          · have hk0 : ¬ kd x y = 0 := by omega
            have hE := hW.erase (i := y) (by omega) (by omega) hk0
            refine w_aload_n C 0 dX11_make_27 rfl ?_
            refine w_iload_n C 3 dX11_make_28 rfl ?_
            refine w_callS (As := [.int (iI y)]) (rest := [.ref h]) (w2 := [(h, .inr (9, [.ref a, .ref b, .ref tk, .ref re, .ref qu, .int (iI hd), .int (iI tl), .ref nm, .int (iI nl)])), (b, .inl (gI G, 4096, .inl (arI x))), (tk, .inl (gZ G, 64, .inl (arB (tbt m))))]) (st2 := [.int (iI (512 + 16 * y)), .ref h]) C (ct_X11_base G (kl k) y) gX11_42 dX11_make_29 rfl rfl (Nat.le_of_ble_eq_true rfl) (by decide) [] rfl (by decide) [] rfl rfl rfl rfl ?_
            refine w_bipush C dX11_make_32 (by decide) ?_
            refine w_callV (As := [.int (iI (512 + 16 * y)), .int (iI 16)]) (rest := []) (w2 := [(h, .inr (9, [.ref a, .ref b, .ref tk, .ref re, .ref qu, .int (iI hd), .int (iI tl), .ref nm, .int (iI nl)])), (b, .inl (gI G, 4096, .inl (arI (im_wipe x (512 + 16 * y) 16)))), (tk, .inl (gZ G, 64, .inl (arB (tbt m))))]) (st2 := []) C (ct_X11_clear G (kl k) h a b tk re qu nm hd tl nl x (512 + 16 * y) 16 (by unfold rgP; omega)) gX11_65 dX11_make_34 0 rfl rfl rfl rfl rfl (Nat.le_of_ble_eq_true rfl) (by decide) [0, 1] rfl (by decide) [h, b] rfl rfl rfl rfl ?_
            refine w_ws (ws2 := [(h, .inr (9, [.ref a, .ref b, .ref tk, .ref re, .ref qu, .int (iI hd), .int (iI tl), .ref nm, .int (iI nl)])), (b, .inl (gI G, 4096, .inl (arI (im_wipe x (512 + y * 16) 16)))), (tk, .inl (gZ G, 64, .inl (arB (tbt m))))]) (by rw [show 512 + 16 * y = 512 + y * 16 by omega]) ?_
            refine w_aload_n C 0 dX11_make_37 rfl ?_
            refine w_iconst C dX11_make_38 ?_
            refine w_callV (As := [.int (iI 0)]) (rest := []) (w2 := [(h, .inr (9, [.ref a, .ref b, .ref tk, .ref re, .ref qu, .int (iI hd), .int (iI tl), .ref nm, .int (iI nl)])), (b, .inl (gI G, 4096, .inl (arI (im_wipe x (512 + y * 16) 16)))), (tk, .inl (gZ G, 64, .inl (arB (tbt (erT m x y)))))]) (st2 := [.int (iI (frz (erT m x y) 0))]) C (ct_X11_free G (kl k) h a b tk re qu nm hd tl nl (im_wipe x (512 + y * 16) 16) (tbt m) (erT m x y) 0 hE (by omega)) gX11_97 dX11_make_39 0 rfl rfl rfl rfl rfl (Nat.le_of_ble_eq_true rfl) (by decide) [0, 1, 2] rfl (by decide) [h, b, tk] rfl rfl rfl rfl ?_
            have f_8 := @frz_rg (erT m x y) 0 (by omega)
            refine w_istore_n (lv2 := [(0, .ref h), (1, .int (iI i)), (2, .int (iI (frz (erT m x y) 0))), (3, .int (iI y))]) C dX11_make_42 (by decide) rfl ?_
            refine w_iinc (lv2 := [(0, .ref h), (1, .int (iI i)), (2, .int (iI (frz (erT m x y) 0))), (3, .int (iI (y + (-1))))]) C 3 dX11_make_43 rfl (by decide) rfl ?_
            refine w_goto C 9 dX11_make_46 rfl ?_
            exact ih_9 _ (by omega) (y + (-1)) (frz (erT m x y) 0) (im_wipe x (512 + y * 16) 16) (erT m x y) (by omega) (by first | exact hW | exact hE) (by first | exact hq | rfl) (by rw [hp, show (y - 1).toNat = (y + (-1) - 1).toNat + 1 by omega, prs, if_neg (by omega)]; first | (rw [if_pos hk0, if_pos hk0, show y - 1 = y + (-1) by omega]; done) | (rw [if_neg hk0, if_neg hk0, show y - 1 = y + (-1) by omega])) rfl
  exact L_9 _ 31 (frz tm 0) d tm (by omega) hw rfl (by unfold prF; rw [show ((31 : Int) - 1).toNat = 30 from rfl]) rfl

theorem gX11_93 : cwv RX11 93 yX11_make cX11_make 4 none 1 963 965 39 74 966 := by decide +kernel
theorem gX11_90 : cwv RX11 90 yX11_isSound cX11_isSound 11 (some .boolean) 1 939 941 33 74 942 := by decide +kernel
set_option maxHeartbeats 4000000 in
set_option maxRecDepth 100000 in
theorem ct_X11_inodes (G : GX) (l : Launch) (h : Nat) (a : Nat) (b : Nat) (tk : Nat) (re : Nat) (qu : Nat) (nm : Nat) (hd : Int) (tl : Int) (nl : Int) (d : Im) (t : Int → Bool) : CtE G l yX11_inodes cX11_inodes 2 none rmX11_inodes [.ref h] [(h, .inr (9, [.ref a, .ref b, .ref tk, .ref re, .ref qu, .int (iI hd), .int (iI tl), .ref nm, .int (iI nl)])), (b, .inl (gI G, 4096, .inl (arI d))), (tk, .inl (gZ G, 64, .inl (arB t)))] (fun e_ : (Int → Bool) => True) (fun e_ : (Int → Bool) => none) (fun e_ : (Int → Bool) => [(h, .inr (9, [.ref a, .ref b, .ref tk, .ref re, .ref qu, .int (iI hd), .int (iI tl), .ref nm, .int (iI nl)])), (b, .inl (gI G, 4096, .inl (arI ((riF d).2)))), (tk, .inl (gZ G, 64, .inl (arB e_)))]) := by
  refine Ct.of (by decide) (Nat.le_of_ble_eq_true rfl) ?_
  intro k C hl hret
  subst hl
  refine w_lv (lv2 := [(0, .ref h)]) [0] rfl ?_
  refine w_iconst C dX11_inodes_0 ?_
  refine w_istore_n (lv2 := [(0, .ref h), (1, .int (iI 0))]) C dX11_inodes_1 (by decide) rfl ?_
  have L_2 : ∀ (nn_2 : Nat) (i : Int) (t2 : Int → Bool), (0 ≤ i ∧ i ≤ 64) → (∀ q : Int, 0 ≤ q → q < i → t2 q = false) → (64 - i).toNat = nn_2 → Wd G k 2 0 0 [(h, .inr (9, [.ref a, .ref b, .ref tk, .ref re, .ref qu, .int (iI hd), .int (iI tl), .ref nm, .int (iI nl)])), (b, .inl (gI G, 4096, .inl (arI d))), (tk, .inl (gZ G, 64, .inl (arB t2)))] 2 [(0, .ref h), (1, .int (iI i))] [] := by
    intro nn_2
    induction nn_2 using Nat.strongRecOn with
    | ind nn_2 ih_2 =>
      intro i t2 h1 h2 hm_2
      refine w_iload_n C 1 dX11_inodes_2 rfl ?_
      refine w_bipush C dX11_inodes_3 (by decide) ?_
      refine w_icmp_ge C 21 dX11_inodes_5 rfl (by omega) (fun c_1 => ?_) (fun c_1 => ?_)
      · refine w_arrB (e := tbt 0) (ws2 := [(h, .inr (9, [.ref a, .ref b, .ref tk, .ref re, .ref qu, .int (iI hd), .int (iI tl), .ref nm, .int (iI nl)])), (b, .inl (gI G, 4096, .inl (arI d))), (tk, .inl (gZ G, 64, .inl (arB (tbt 0))))]) 2 rfl (fun j a b => by rw [h2 j a (by omega), tbt_0]) rfl ?_
        refine w_aload_n C 0 dX11_inodes_21 rfl ?_
        refine w_iconst C dX11_inodes_22 ?_
        refine w_callS (As := [.int (iI 0)]) (rest := [.ref h]) (w2 := [(h, .inr (9, [.ref a, .ref b, .ref tk, .ref re, .ref qu, .int (iI hd), .int (iI tl), .ref nm, .int (iI nl)])), (b, .inl (gI G, 4096, .inl (arI d))), (tk, .inl (gZ G, 64, .inl (arB (tbt 0))))]) (st2 := [.int (iI (512 + 16 * 0)), .ref h]) C (ct_X11_base G (kl k) 0) gX11_42 dX11_inodes_23 rfl rfl (Nat.le_of_ble_eq_true rfl) (by decide) [] rfl (by decide) [] rfl rfl rfl rfl ?_
        refine w_bipush C dX11_inodes_26 (by decide) ?_
        refine w_callV (As := [.int (iI (512 + 16 * 0)), .int (iI 16)]) (rest := []) (w2 := [(h, .inr (9, [.ref a, .ref b, .ref tk, .ref re, .ref qu, .int (iI hd), .int (iI tl), .ref nm, .int (iI nl)])), (b, .inl (gI G, 4096, .inl (arI (im_wipe d (512 + 16 * 0) 16)))), (tk, .inl (gZ G, 64, .inl (arB (tbt 0))))]) (st2 := []) C (ct_X11_clear G (kl k) h a b tk re qu nm hd tl nl d (512 + 16 * 0) 16 (by unfold rgP; omega)) gX11_65 dX11_inodes_28 0 rfl rfl rfl rfl rfl (Nat.le_of_ble_eq_true rfl) (by decide) [0, 1] rfl (by decide) [h, b] rfl rfl rfl rfl ?_
        refine w_ws (ws2 := [(h, .inr (9, [.ref a, .ref b, .ref tk, .ref re, .ref qu, .int (iI hd), .int (iI tl), .ref nm, .int (iI nl)])), (b, .inl (gI G, 4096, .inl (arI (im_wipe d (512 + 0 * 16) 16)))), (tk, .inl (gZ G, 64, .inl (arB (tbt 0))))]) rfl ?_
        refine w_iconst C dX11_inodes_31 ?_
        refine w_istore_n (lv2 := [(0, .ref h), (1, .int (iI 1))]) C dX11_inodes_32 (by decide) rfl ?_
        have L_33 : ∀ (nn_33 : Nat) (i : Int) (x : Im) (m : Int64), (1 ≤ i ∧ i ≤ 32) → (WFn i m x) → (kpF d = kps (32 - i).toNat i m x) → (32 - i).toNat = nn_33 → Wd G k 2 0 0 [(h, .inr (9, [.ref a, .ref b, .ref tk, .ref re, .ref qu, .int (iI hd), .int (iI tl), .ref nm, .int (iI nl)])), (b, .inl (gI G, 4096, .inl (arI x))), (tk, .inl (gZ G, 64, .inl (arB (tbt m))))] 33 [(0, .ref h), (1, .int (iI i))] [] := by
          intro nn_33
          induction nn_33 using Nat.strongRecOn with
          | ind nn_33 ih_33 =>
            intro i x m h1 hW hp hm_33
            refine w_iload_n C 1 dX11_inodes_33 rfl ?_
            refine w_bipush C dX11_inodes_34 (by decide) ?_
            refine w_icmp_ge C 63 dX11_inodes_36 rfl (by omega) (fun c_2 => ?_) (fun c_2 => ?_)
            · refine w_iconst C dX11_inodes_63 ?_
              refine w_istore_n (lv2 := [(0, .ref h), (1, .int (iI 1))]) C dX11_inodes_64 (by decide) rfl ?_
              have L_65 : ∀ (nn_65 : Nat) (i : Int) (x : Im) (m : Int64) (t2 : Int → Bool), (1 ≤ i ∧ i ≤ 3) → (WF m x) → (riF d = (if i = 1 then ri1 (ri1 (m, x) 1) 2 else if i = 2 then ri1 (m, x) 2 else (m, x))) → (3 - i).toNat = nn_65 → Wd G k 2 0 0 [(h, .inr (9, [.ref a, .ref b, .ref tk, .ref re, .ref qu, .int (iI hd), .int (iI tl), .ref nm, .int (iI nl)])), (b, .inl (gI G, 4096, .inl (arI x))), (tk, .inl (gZ G, 64, .inl (arB t2)))] 65 [(0, .ref h), (1, .int (iI i))] [] := by
                intro nn_65
                induction nn_65 using Nat.strongRecOn with
                | ind nn_65 ih_65 =>
                  intro i x m t2 h1 hW hp hm_65
                  refine w_iload_n C 1 dX11_inodes_65 rfl ?_
                  refine w_iconst C dX11_inodes_66 ?_
                  refine w_icmp_gt C 89 dX11_inodes_67 rfl (by omega) (fun c_3 => ?_) (fun c_3 => ?_)
                  · refine w_ws (ws2 := [(h, .inr (9, [.ref a, .ref b, .ref tk, .ref re, .ref qu, .int (iI hd), .int (iI tl), .ref nm, .int (iI nl)])), (b, .inl (gI G, 4096, .inl (arI ((riF d).2)))), (tk, .inl (gZ G, 64, .inl (arB t2)))]) (by rw [hp, if_neg (by omega), if_neg (by omega)]) ?_
                    exact w_retv hret dX11_inodes_89 rfl rfl rfl ⟨(t2), trivial, rfl, rfl⟩
                  · refine w_aload_n C 0 dX11_inodes_70 rfl ?_
                    refine w_iload_n C 1 dX11_inodes_71 rfl ?_
                    refine w_callV (As := [.int (iI i)]) (rest := []) (w2 := [(h, .inr (9, [.ref a, .ref b, .ref tk, .ref re, .ref qu, .int (iI hd), .int (iI tl), .ref nm, .int (iI nl)])), (b, .inl (gI G, 4096, .inl (arI x))), (tk, .inl (gZ G, 64, .inl (arB t2)))]) (st2 := [.int (iI (kd x i))]) C (ct_X11_kind G (kl k) h a b tk re qu nm hd tl nl x i (by omega)) gX11_62 dX11_inodes_72 0 rfl rfl rfl rfl rfl (Nat.le_of_ble_eq_true rfl) (by decide) [0, 1] rfl (by decide) [h, b] rfl rfl rfl rfl ?_
                    have f_4 := kd_rg x i
                    refine w_if_ne C 83 dX11_inodes_75 rfl (by omega) (fun c_5 => ?_) (fun c_5 => ?_)
                    · have hR : ri1 (m, x) i = (m, x) := by unfold ri1; rw [if_neg c_5]
                      have hR2 : ri1 (m, x) i = ((ri1 (m, x) i).1, x) := by rw [hR]
                      refine w_iinc (lv2 := [(0, .ref h), (1, .int (iI (i + 1)))]) C 1 dX11_inodes_83 rfl (by decide) rfl ?_
                      refine w_goto C 65 dX11_inodes_86 rfl ?_
                      exact ih_65 _ (by omega) (i + 1) x ((ri1 (m, x) i).1) t2 (by omega) (by have w := ri1_WF (s := (m, x)) hW h1.1 (by omega); rwa [hR] at w ⊢) (by rw [hp]; rcases (show i = 1 ∨ i = 2 by omega) with e | e; (rw [if_pos e, if_neg (by omega), if_pos (by omega), ← hR2, e]); (rw [if_neg (by omega), if_pos e, if_neg (by omega), if_neg (by omega), ← hR2, e])) rfl
                    · have hk : kd x i = 0 := c_5
                      have hR : ri1 (m, x) i = (mdT m x, mdD m x i) := by unfold ri1; rw [if_pos (show kd (m, x).2 i = 0 from hk)]
                      have hR2 : ri1 (m, x) i = ((ri1 (m, x) i).1, mdD m x i) := by rw [hR]
                      refine w_aload_n C 0 dX11_inodes_78 rfl ?_
                      refine w_iload_n C 1 dX11_inodes_79 rfl ?_
                      refine w_callVE (E := (Int → Bool)) (As := [.int (iI i)]) (rest := []) (w2 := (fun e_ : (Int → Bool) => [(h, .inr (9, [.ref a, .ref b, .ref tk, .ref re, .ref qu, .int (iI hd), .int (iI tl), .ref nm, .int (iI nl)])), (b, .inl (gI G, 4096, .inl (arI (mdD m x i)))), (tk, .inl (gZ G, 64, .inl (arB e_)))])) (st2 := (fun e_ : (Int → Bool) => [])) C (ct_X11_make G (kl k) h a b tk re qu nm hd tl nl x t2 m i hW (by omega) hk) gX11_93 dX11_inodes_80 0 rfl rfl rfl rfl rfl (Nat.le_of_ble_eq_true rfl) (by decide) [0, 1, 2] rfl (by decide) [h, b, tk] (fun _ => rfl) rfl (fun _ => rfl) (fun _ => rfl) ?_
                      intro t2_6 hex
                      show Wd G k 2 _ _ [(h, .inr (9, [.ref a, .ref b, .ref tk, .ref re, .ref qu, .int (iI hd), .int (iI tl), .ref nm, .int (iI nl)])), (b, .inl (gI G, 4096, .inl (arI (mdD m x i)))), (tk, .inl (gZ G, 64, .inl (arB t2_6)))] 83 [(0, .ref h), (1, .int (iI i))] []
                      refine w_iinc (lv2 := [(0, .ref h), (1, .int (iI (i + 1)))]) C 1 dX11_inodes_83 rfl (by decide) rfl ?_
                      refine w_goto C 65 dX11_inodes_86 rfl ?_
                      exact ih_65 _ (by omega) (i + 1) (mdD m x i) ((ri1 (m, x) i).1) t2_6 (by omega) (by have w := ri1_WF (s := (m, x)) hW h1.1 (by omega); rwa [hR] at w ⊢) (by rw [hp]; rcases (show i = 1 ∨ i = 2 by omega) with e | e; (rw [if_pos e, if_neg (by omega), if_pos (by omega), ← hR2, e]); (rw [if_neg (by omega), if_pos e, if_neg (by omega), if_neg (by omega), ← hR2, e])) rfl
              exact L_65 _ 1 x m (tbt m) (by omega) (by have w := hW; rwa [show i = 32 by omega] at w) (by unfold riF; rw [if_pos rfl, hp, show (32 - i).toNat = 0 by omega, kps]) rfl
            · refine w_aload_n C 0 dX11_inodes_39 rfl ?_
              refine w_iload_n C 1 dX11_inodes_40 rfl ?_
              refine w_callV (As := [.int (iI i)]) (rest := []) (w2 := [(h, .inr (9, [.ref a, .ref b, .ref tk, .ref re, .ref qu, .int (iI hd), .int (iI tl), .ref nm, .int (iI nl)])), (b, .inl (gI G, 4096, .inl (arI x))), (tk, .inl (gZ G, 64, .inl (arB (tbt (snT m x i)))))]) (st2 := [.int (iI (bI (sndB m x i)))]) C (ct_X11_isSound G (kl k) h a b tk re qu nm hd tl nl x m i (by omega)) gX11_90 dX11_inodes_41 0 rfl rfl rfl rfl rfl (Nat.le_of_ble_eq_true rfl) (by decide) [0, 1, 2] rfl (by decide) [h, b, tk] rfl rfl rfl rfl ?_
              refine w_bnz C 57 dX11_inodes_44 rfl (fun c_7 => ?_) (fun c_7 => ?_)
              · have hs := c_7
                refine w_ws (ws2 := [(h, .inr (9, [.ref a, .ref b, .ref tk, .ref re, .ref qu, .int (iI hd), .int (iI tl), .ref nm, .int (iI nl)])), (b, .inl (gI G, 4096, .inl (arI x))), (tk, .inl (gZ G, 64, .inl (arB (tbt (snT m x i)))))]) (by first | rfl | rw [show 512 + 16 * i = 512 + i * 16 by omega]) ?_
                refine w_iinc (lv2 := [(0, .ref h), (1, .int (iI (i + 1)))]) C 1 dX11_inodes_57 rfl (by decide) rfl ?_
                refine w_goto C 33 dX11_inodes_60 rfl ?_
                exact ih_33 _ (by omega) (i + 1) x (snT m x i) (by omega) (by unfold snT; first | (rw [if_pos hs]; exact hW.step_t h1.1 (by omega) hs) | (rw [if_neg hs]; exact hW.step_f h1.1 (by omega))) (by rw [hp, show (32 - i).toNat = (32 - (i + 1)).toNat + 1 by omega, kps]; unfold snT; first | (rw [if_pos hs, if_pos hs]; done) | (rw [if_neg hs, if_neg hs, if_neg hs]; done) | (rw [if_neg hs, if_neg hs])) rfl
              · have hs : ¬ sndB m x i = true := by rw [c_7]; decide
                refine w_aload_n C 0 dX11_inodes_47 rfl ?_
                refine w_iload_n C 1 dX11_inodes_48 rfl ?_
                refine w_callS (As := [.int (iI i)]) (rest := [.ref h]) (w2 := [(h, .inr (9, [.ref a, .ref b, .ref tk, .ref re, .ref qu, .int (iI hd), .int (iI tl), .ref nm, .int (iI nl)])), (b, .inl (gI G, 4096, .inl (arI x))), (tk, .inl (gZ G, 64, .inl (arB (tbt (snT m x i)))))]) (st2 := [.int (iI (512 + 16 * i)), .ref h]) C (ct_X11_base G (kl k) i) gX11_42 dX11_inodes_49 rfl rfl (Nat.le_of_ble_eq_true rfl) (by decide) [] rfl (by decide) [] rfl rfl rfl rfl ?_
                refine w_bipush C dX11_inodes_52 (by decide) ?_
                refine w_callV (As := [.int (iI (512 + 16 * i)), .int (iI 16)]) (rest := []) (w2 := [(h, .inr (9, [.ref a, .ref b, .ref tk, .ref re, .ref qu, .int (iI hd), .int (iI tl), .ref nm, .int (iI nl)])), (b, .inl (gI G, 4096, .inl (arI (im_wipe x (512 + 16 * i) 16)))), (tk, .inl (gZ G, 64, .inl (arB (tbt (snT m x i)))))]) (st2 := []) C (ct_X11_clear G (kl k) h a b tk re qu nm hd tl nl x (512 + 16 * i) 16 (by unfold rgP; omega)) gX11_65 dX11_inodes_54 0 rfl rfl rfl rfl rfl (Nat.le_of_ble_eq_true rfl) (by decide) [0, 1] rfl (by decide) [h, b] rfl rfl rfl rfl ?_
                refine w_ws (ws2 := [(h, .inr (9, [.ref a, .ref b, .ref tk, .ref re, .ref qu, .int (iI hd), .int (iI tl), .ref nm, .int (iI nl)])), (b, .inl (gI G, 4096, .inl (arI (im_wipe x (512 + i * 16) 16)))), (tk, .inl (gZ G, 64, .inl (arB (tbt (snT m x i)))))]) (by first | rfl | rw [show 512 + 16 * i = 512 + i * 16 by omega]) ?_
                refine w_iinc (lv2 := [(0, .ref h), (1, .int (iI (i + 1)))]) C 1 dX11_inodes_57 rfl (by decide) rfl ?_
                refine w_goto C 33 dX11_inodes_60 rfl ?_
                exact ih_33 _ (by omega) (i + 1) (im_wipe x (512 + i * 16) 16) (snT m x i) (by omega) (by unfold snT; first | (rw [if_pos hs]; exact hW.step_t h1.1 (by omega) hs) | (rw [if_neg hs]; exact hW.step_f h1.1 (by omega))) (by rw [hp, show (32 - i).toNat = (32 - (i + 1)).toNat + 1 by omega, kps]; unfold snT; first | (rw [if_pos hs, if_pos hs]; done) | (rw [if_neg hs, if_neg hs, if_neg hs]; done) | (rw [if_neg hs, if_neg hs])) rfl
        exact L_33 _ 1 (im_wipe d (512 + 0 * 16) 16) 0 (by omega) (WF_1 d) (by unfold kpF; rw [show ((32 : Int) - 1).toNat = 31 from rfl]) rfl
      · refine w_aload_n C 0 dX11_inodes_8 rfl ?_
        refine w_get C 0 2 848 dX11_inodes_9 rfl rfl inX11 (by decide) (by decide +kernel) rfl ?_
        refine w_iload_n C 1 dX11_inodes_12 rfl ?_
        refine w_iconst C dX11_inodes_13 ?_
        refine w_st (st2 := [.int (iI (bI false)), .int (iI i), .ref tk]) rfl ?_
        refine w_zast (ws2 := [(h, .inr (9, [.ref a, .ref b, .ref tk, .ref re, .ref qu, .int (iI hd), .int (iI tl), .ref nm, .int (iI nl)])), (b, .inl (gI G, 4096, .inl (arI d))), (tk, .inl (gZ G, 64, .inl (arB (upB t2 i false))))]) C 2 dX11_inodes_14 rfl (by omega) rfl ?_
        refine w_iinc (lv2 := [(0, .ref h), (1, .int (iI (i + 1)))]) C 1 dX11_inodes_15 rfl (by decide) rfl ?_
        refine w_goto C 2 dX11_inodes_18 rfl ?_
        exact ih_2 _ (by omega) (i + 1) (upB t2 i false) (by omega) (fun q a b => by unfold upB; by_cases e : q = i; (rw [if_pos e]); (rw [if_neg e]; exact h2 q a (by omega))) rfl
  exact L_2 _ 0 t (by omega) (fun q h1 h2 => by omega) rfl
