set_option maxHeartbeats 4000000 in
set_option maxRecDepth 100000 in
theorem ct_X11_nameOf (G : GX) (l : Launch) (h : Nat) (a : Nat) (b : Nat) (tk : Nat) (re : Nat) (qu : Nat) (nm : Nat) (hd : Int) (tl : Int) (nl : Int) (nb : Im) (x : Int64) : Ct G l yX11_nameOf cX11_nameOf 5 none rmX11_nameOf [.ref h, .long x] [(h, .inr (9, [.ref a, .ref b, .ref tk, .ref re, .ref qu, .int (iI hd), .int (iI tl), .ref nm, .int (iI nl)])), (nm, .inl (gI G, 14, .inl (arI nb)))] none [(h, .inr (9, [.ref a, .ref b, .ref tk, .ref re, .ref qu, .int (iI hd), .int (iI tl), .ref nm, .int (iI ((nm_un nb x 8).2))])), (nm, .inl (gI G, 14, .inl (arI ((nm_un nb x 8).1))))] := by
  refine Ct.of (by decide) (Nat.le_of_ble_eq_true rfl) ?_
  intro k C hl hret
  subst hl
  refine w_lv (lv2 := [(0, .ref h), (1, .long x)]) [0, 1] rfl ?_
  refine w_aload_n C 0 dX11_nameOf_0 rfl ?_
  refine w_iconst C dX11_nameOf_1 ?_
  refine w_put (ty := .int) (ws2 := [(h, .inr (9, [.ref a, .ref b, .ref tk, .ref re, .ref qu, .int (iI hd), .int (iI tl), .ref nm, .int (iI 0)])), (nm, .inl (gI G, 14, .inl (arI nb)))]) C 0 8 854 dX11_nameOf_2 rfl rfl inX11 tyX11_ok nmX11 (by decide) (by decide +kernel) rfl (by decide +kernel) rfl rfl (Nat.le_of_ble_eq_true rfl) rfl ?_
  refine w_bipush C dX11_nameOf_5 (by decide) ?_
  refine w_istore_n (lv2 := [(0, .ref h), (1, .long x), (3, .int (iI 56))]) C dX11_nameOf_7 (by decide) rfl ?_
  have L_8 : ∀ (nn_8 : Nat) (i : Int) (e : Im) (n : Int) (j : Nat), (i = 56 - 8 * (j : Int) ∧ j ≤ 8) → (e = (nm_un nb x j).1) → (n = (nm_un nb x j).2) → (0 ≤ n ∧ n ≤ j) → 8 - j = nn_8 → Wd G k 5 0 0 [(h, .inr (9, [.ref a, .ref b, .ref tk, .ref re, .ref qu, .int (iI hd), .int (iI tl), .ref nm, .int (iI n)])), (nm, .inl (gI G, 14, .inl (arI e)))] 8 [(0, .ref h), (1, .long x), (3, .int (iI i))] [] := by
    intro nn_8
    induction nn_8 using Nat.strongRecOn with
    | ind nn_8 ih_8 =>
      intro i e n j h1 h2 h3 h4 hm_8
      refine w_iload_n C 2 dX11_nameOf_8 rfl ?_
      refine w_if_lt C 61 dX11_nameOf_9 rfl (by omega) (fun c_1 => ?_) (fun c_1 => ?_)
      · exact w_retv hret dX11_nameOf_61 rfl rfl rfl ⟨rfl, (by rw [h2, h3, show j = 8 by omega])⟩
      · refine w_lload_n C 1 dX11_nameOf_12 rfl ?_
        refine w_iload_n C 2 dX11_nameOf_13 rfl ?_
        refine w_lushr (v := (x.toUInt64 >>> ((iI i).toInt64.toUInt64 &&& Int64.toUInt64 63)).toInt64) C dX11_nameOf_14 rfl ?_
        refine w_ldc2 (v := 255) C 1073 dX11_nameOf_15 (by decide +kernel) ?_
        refine w_land (v := ((x.toUInt64 >>> ((iI i).toInt64.toUInt64 &&& Int64.toUInt64 63)).toInt64) &&& 255) C dX11_nameOf_18 rfl ?_
        refine w_l2i (v := (iI (lby x (56 - 8 * j)))) C dX11_nameOf_19 (by have q := lby_of2 x (56 - 8 * j) (by omega); rwa [show ((56 - 8 * j : Nat) : Int) = i by omega] at q) ?_
        have q2 := lby_rg x (56 - 8 * j)
        refine w_istore (lv2 := [(0, .ref h), (1, .long x), (3, .int (iI i)), (4, .int (iI (lby x (56 - 8 * j))))]) C dX11_nameOf_20 (by decide) rfl ?_
        refine w_iload C 3 dX11_nameOf_22 rfl ?_
        refine w_if_ne C 34 dX11_nameOf_24 rfl (by omega) (fun c_2 => ?_) (fun c_2 => ?_)
        · refine w_aload_n C 0 dX11_nameOf_34 rfl ?_
          refine w_get C 0 7 853 dX11_nameOf_35 rfl rfl inX11 (by decide) (by decide +kernel) rfl ?_
          refine w_aload_n C 0 dX11_nameOf_38 rfl ?_
          refine w_get C 0 8 854 dX11_nameOf_39 rfl rfl inX11 (by decide) (by decide +kernel) rfl ?_
          refine w_iload C 3 dX11_nameOf_42 rfl ?_
          refine w_iast (ws2 := [(h, .inr (9, [.ref a, .ref b, .ref tk, .ref re, .ref qu, .int (iI hd), .int (iI tl), .ref nm, .int (iI n)])), (nm, .inl (gI G, 14, .inl (arI (up e n (lby x (56 - 8 * j))))))]) C 1 dX11_nameOf_44 rfl (by omega) (by omega) rfl ?_
          refine w_aload_n C 0 dX11_nameOf_45 rfl ?_
          refine w_dup C dX11_nameOf_46 rfl ?_
          refine w_get C 0 8 854 dX11_nameOf_47 rfl rfl inX11 (by decide) (by decide +kernel) rfl ?_
          refine w_iconst C dX11_nameOf_50 ?_
          refine w_iadd C dX11_nameOf_51 ?_
          refine w_put (ty := .int) (ws2 := [(h, .inr (9, [.ref a, .ref b, .ref tk, .ref re, .ref qu, .int (iI hd), .int (iI tl), .ref nm, .int (iI (n + 1))])), (nm, .inl (gI G, 14, .inl (arI (up e n (lby x (56 - 8 * j))))))]) C 0 8 854 dX11_nameOf_52 rfl rfl inX11 tyX11_ok nmX11 (by decide) (by decide +kernel) rfl (by decide +kernel) rfl rfl (Nat.le_of_ble_eq_true rfl) rfl ?_
          refine w_iinc (lv2 := [(0, .ref h), (1, .long x), (3, .int (iI (i + (-8)))), (4, .int (iI (lby x (56 - 8 * j))))]) C 2 dX11_nameOf_55 rfl (by decide) rfl ?_
          refine w_goto C 8 dX11_nameOf_58 rfl ?_
          refine w_lv (lv2 := [(0, .ref h), (1, .long x), (3, .int (iI (i + (-8))))]) [0, 1, 2] rfl ?_
          exact ih_8 _ (by omega) (i + (-8)) (up e n (lby x (56 - 8 * j))) (n + 1) (j + 1) (by omega) (by rw [nm_un]; first | rw [if_pos (by rw [← h3]; omega), ← h2, ← h3] | rw [if_neg (by rw [← h3]; omega), ← h2]) (by rw [nm_un]; first | rw [if_pos (by rw [← h3]; omega), ← h3] | rw [if_neg (by rw [← h3]; omega), ← h3]) (by omega) rfl
        · refine w_aload_n C 0 dX11_nameOf_27 rfl ?_
          refine w_get C 0 8 854 dX11_nameOf_28 rfl rfl inX11 (by decide) (by decide +kernel) rfl ?_
          refine w_if_le C 55 dX11_nameOf_31 rfl (by omega) (fun c_3 => ?_) (fun c_3 => ?_)
          · refine w_iinc (lv2 := [(0, .ref h), (1, .long x), (3, .int (iI (i + (-8)))), (4, .int (iI (lby x (56 - 8 * j))))]) C 2 dX11_nameOf_55 rfl (by decide) rfl ?_
            refine w_goto C 8 dX11_nameOf_58 rfl ?_
            refine w_lv (lv2 := [(0, .ref h), (1, .long x), (3, .int (iI (i + (-8))))]) [0, 1, 2] rfl ?_
            exact ih_8 _ (by omega) (i + (-8)) e n (j + 1) (by omega) (by rw [nm_un]; first | rw [if_pos (by rw [← h3]; omega), ← h2, ← h3] | rw [if_neg (by rw [← h3]; omega), ← h2]) (by rw [nm_un]; first | rw [if_pos (by rw [← h3]; omega), ← h3] | rw [if_neg (by rw [← h3]; omega), ← h3]) (by omega) rfl
          · refine w_aload_n C 0 dX11_nameOf_34 rfl ?_
            refine w_get C 0 7 853 dX11_nameOf_35 rfl rfl inX11 (by decide) (by decide +kernel) rfl ?_
            refine w_aload_n C 0 dX11_nameOf_38 rfl ?_
            refine w_get C 0 8 854 dX11_nameOf_39 rfl rfl inX11 (by decide) (by decide +kernel) rfl ?_
            refine w_iload C 3 dX11_nameOf_42 rfl ?_
            refine w_iast (ws2 := [(h, .inr (9, [.ref a, .ref b, .ref tk, .ref re, .ref qu, .int (iI hd), .int (iI tl), .ref nm, .int (iI n)])), (nm, .inl (gI G, 14, .inl (arI (up e n (lby x (56 - 8 * j))))))]) C 1 dX11_nameOf_44 rfl (by omega) (by omega) rfl ?_
            refine w_aload_n C 0 dX11_nameOf_45 rfl ?_
            refine w_dup C dX11_nameOf_46 rfl ?_
            refine w_get C 0 8 854 dX11_nameOf_47 rfl rfl inX11 (by decide) (by decide +kernel) rfl ?_
            refine w_iconst C dX11_nameOf_50 ?_
            refine w_iadd C dX11_nameOf_51 ?_
            refine w_put (ty := .int) (ws2 := [(h, .inr (9, [.ref a, .ref b, .ref tk, .ref re, .ref qu, .int (iI hd), .int (iI tl), .ref nm, .int (iI (n + 1))])), (nm, .inl (gI G, 14, .inl (arI (up e n (lby x (56 - 8 * j))))))]) C 0 8 854 dX11_nameOf_52 rfl rfl inX11 tyX11_ok nmX11 (by decide) (by decide +kernel) rfl (by decide +kernel) rfl rfl (Nat.le_of_ble_eq_true rfl) rfl ?_
            refine w_iinc (lv2 := [(0, .ref h), (1, .long x), (3, .int (iI (i + (-8)))), (4, .int (iI (lby x (56 - 8 * j))))]) C 2 dX11_nameOf_55 rfl (by decide) rfl ?_
            refine w_goto C 8 dX11_nameOf_58 rfl ?_
            refine w_lv (lv2 := [(0, .ref h), (1, .long x), (3, .int (iI (i + (-8))))]) [0, 1, 2] rfl ?_
            exact ih_8 _ (by omega) (i + (-8)) (up e n (lby x (56 - 8 * j))) (n + 1) (j + 1) (by omega) (by rw [nm_un]; first | rw [if_pos (by rw [← h3]; omega), ← h2, ← h3] | rw [if_neg (by rw [← h3]; omega), ← h2]) (by rw [nm_un]; first | rw [if_pos (by rw [← h3]; omega), ← h3] | rw [if_neg (by rw [← h3]; omega), ← h3]) (by omega) rfl
  exact L_8 _ 56 nb 0 0 (by omega) rfl rfl (by omega) rfl

set_option maxHeartbeats 4000000 in
set_option maxRecDepth 100000 in
theorem ct_X11_differs (G : GX) (l : Launch) (h : Nat) (a : Nat) (b : Nat) (tk : Nat) (re : Nat) (qu : Nat) (nm : Nat) (hd : Int) (tl : Int) (nl : Int) (dk : Im) (d : Im) (q : Int) (hq : 0 ≤ q ∧ q < 64) : Ct G l yX11_differs cX11_differs 4 (some .boolean) rmX11_differs [.ref h, .int (iI q)] [(h, .inr (9, [.ref a, .ref b, .ref tk, .ref re, .ref qu, .int (iI hd), .int (iI tl), .ref nm, .int (iI nl)])), (a, .inl (gI G, 4096, .inl (arI dk))), (b, .inl (gI G, 4096, .inl (arI d)))] (some (.int (iI (bI (!(im_same d dk q)))))) [(h, .inr (9, [.ref a, .ref b, .ref tk, .ref re, .ref qu, .int (iI hd), .int (iI tl), .ref nm, .int (iI nl)])), (a, .inl (gI G, 4096, .inl (arI dk))), (b, .inl (gI G, 4096, .inl (arI d)))] := by
  refine Ct.of (by decide) (Nat.le_of_ble_eq_true rfl) ?_
  intro k C hl hret
  subst hl
  refine w_lv (lv2 := [(0, .ref h), (1, .int (iI q))]) [0, 1] rfl ?_
  refine w_iconst C dX11_differs_0 ?_
  refine w_istore_n (lv2 := [(0, .ref h), (1, .int (iI q)), (2, .int (iI 0))]) C dX11_differs_1 (by decide) rfl ?_
  refine w_bipush C dX11_differs_2 (by decide) ?_
  refine w_iload_n C 1 dX11_differs_4 rfl ?_
  refine w_imul C dX11_differs_5 ?_
  refine w_istore_n (lv2 := [(0, .ref h), (1, .int (iI q)), (2, .int (iI 0)), (3, .int (iI (64 * q)))]) C dX11_differs_6 (by decide) rfl ?_
  have L_7 : ∀ (nn_7 : Nat) (i : Int) (s : Int), (64 * q ≤ i ∧ i ≤ 64 * q + 64) → (s = bI (!(sam d dk (64 * q) (i - 64 * q).toNat))) → (64 * q + 64 - i).toNat = nn_7 → Wd G k 4 0 0 [(h, .inr (9, [.ref a, .ref b, .ref tk, .ref re, .ref qu, .int (iI hd), .int (iI tl), .ref nm, .int (iI nl)])), (a, .inl (gI G, 4096, .inl (arI dk))), (b, .inl (gI G, 4096, .inl (arI d)))] 7 [(0, .ref h), (1, .int (iI q)), (2, .int (iI s)), (3, .int (iI i))] [] := by
    intro nn_7
    induction nn_7 using Nat.strongRecOn with
    | ind nn_7 ih_7 =>
      intro i s h1 h3 hm_7
      have q1 := bI_rg (!(sam d dk (64 * q) (i - 64 * q).toNat))
      refine w_iload_n C 3 dX11_differs_7 rfl ?_
      refine w_bipush C dX11_differs_8 (by decide) ?_
      refine w_iload_n C 1 dX11_differs_10 rfl ?_
      refine w_imul C dX11_differs_11 ?_
      refine w_bipush C dX11_differs_12 (by decide) ?_
      refine w_iadd C dX11_differs_14 ?_
      refine w_icmp_ge C 49 dX11_differs_15 rfl (by omega) (fun c_1 => ?_) (fun c_1 => ?_)
      · refine w_iload_n C 2 dX11_differs_49 rfl ?_
        refine w_st (st2 := [.int (iI (bI (!(sam d dk (64 * q) (i - 64 * q).toNat))))]) (by rw [h3]) ?_
        exact w_reti hret dX11_differs_50 rfl (nar_b _) rfl rfl ⟨congrArg (fun z => some (Value.int (iI (bI z)))) (by unfold im_same; rw [if_pos hq, show q * 64 = 64 * q by omega, show (i - 64 * q).toNat = 64 by omega]), rfl⟩
      · refine w_iload_n C 2 dX11_differs_18 rfl ?_
        refine w_if_ne C 37 dX11_differs_19 rfl (by omega) (fun c_2 => ?_) (fun c_2 => ?_)
        · refine w_iconst C dX11_differs_37 ?_
          refine w_goto C 42 dX11_differs_38 rfl ?_
          refine w_istore_n (lv2 := [(0, .ref h), (1, .int (iI q)), (2, .int (iI 1)), (3, .int (iI i))]) C dX11_differs_42 (by decide) rfl ?_
          refine w_iinc (lv2 := [(0, .ref h), (1, .int (iI q)), (2, .int (iI 1)), (3, .int (iI (i + 1)))]) C 3 dX11_differs_43 rfl (by decide) rfl ?_
          refine w_goto C 7 dX11_differs_46 rfl ?_
          exact ih_7 _ (by omega) (i + 1) 1 (by omega) (by rw [← sam_next d dk (64 * q) i (by omega)]; cases z : sam d dk (64 * q) (i - 64 * q).toNat with | false => (rw [z] at h3; change s = 1 at h3; first | rfl | (exfalso; omega)) | true => (rw [z] at h3; change s = 0 at h3; first | (rw [decide_eq_true (by omega)]; rfl) | (rw [decide_eq_false (by omega)]; rfl) | (exfalso; omega))) rfl
        · refine w_aload_n C 0 dX11_differs_22 rfl ?_
          refine w_get C 0 1 847 dX11_differs_23 rfl rfl inX11 (by decide) (by decide +kernel) rfl ?_
          refine w_iload_n C 3 dX11_differs_26 rfl ?_
          refine w_iald C 2 dX11_differs_27 rfl (by omega) ?_
          have b_3 := d.2 i
          refine w_aload_n C 0 dX11_differs_28 rfl ?_
          refine w_get C 0 0 846 dX11_differs_29 rfl rfl inX11 (by decide) (by decide +kernel) rfl ?_
          refine w_iload_n C 3 dX11_differs_32 rfl ?_
          refine w_iald C 1 dX11_differs_33 rfl (by omega) ?_
          have b_4 := dk.2 i
          refine w_icmp_eq C 41 dX11_differs_34 rfl (by omega) (fun c_5 => ?_) (fun c_5 => ?_)
          · refine w_iconst C dX11_differs_41 ?_
            refine w_istore_n (lv2 := [(0, .ref h), (1, .int (iI q)), (2, .int (iI 0)), (3, .int (iI i))]) C dX11_differs_42 (by decide) rfl ?_
            refine w_iinc (lv2 := [(0, .ref h), (1, .int (iI q)), (2, .int (iI 0)), (3, .int (iI (i + 1)))]) C 3 dX11_differs_43 rfl (by decide) rfl ?_
            refine w_goto C 7 dX11_differs_46 rfl ?_
            exact ih_7 _ (by omega) (i + 1) 0 (by omega) (by rw [← sam_next d dk (64 * q) i (by omega)]; cases z : sam d dk (64 * q) (i - 64 * q).toNat with | false => (rw [z] at h3; change s = 1 at h3; first | rfl | (exfalso; omega)) | true => (rw [z] at h3; change s = 0 at h3; first | (rw [decide_eq_true (by omega)]; rfl) | (rw [decide_eq_false (by omega)]; rfl) | (exfalso; omega))) rfl
          · refine w_iconst C dX11_differs_37 ?_
            refine w_goto C 42 dX11_differs_38 rfl ?_
            refine w_istore_n (lv2 := [(0, .ref h), (1, .int (iI q)), (2, .int (iI 1)), (3, .int (iI i))]) C dX11_differs_42 (by decide) rfl ?_
            refine w_iinc (lv2 := [(0, .ref h), (1, .int (iI q)), (2, .int (iI 1)), (3, .int (iI (i + 1)))]) C 3 dX11_differs_43 rfl (by decide) rfl ?_
            refine w_goto C 7 dX11_differs_46 rfl ?_
            exact ih_7 _ (by omega) (i + 1) 1 (by omega) (by rw [← sam_next d dk (64 * q) i (by omega)]; cases z : sam d dk (64 * q) (i - 64 * q).toNat with | false => (rw [z] at h3; change s = 1 at h3; first | rfl | (exfalso; omega)) | true => (rw [z] at h3; change s = 0 at h3; first | (rw [decide_eq_true (by omega)]; rfl) | (rw [decide_eq_false (by omega)]; rfl) | (exfalso; omega))) rfl
  exact L_7 _ (64 * q) 0 (by omega) (by rw [show (64 * q - 64 * q).toNat = 0 by omega]; rfl) rfl

theorem gX11_173 : cwv RX11 173 yX11_differs cX11_differs 4 (some .boolean) 1 1053 1055 61 74 1056 := by decide +kernel
set_option maxHeartbeats 4000000 in
set_option maxRecDepth 100000 in
theorem ct_X11_written_t (G : GX) (l : Launch) (h : Nat) (a : Nat) (b : Nat) (tk : Nat) (re : Nat) (qu : Nat) (nm : Nat) (hd : Int) (tl : Int) (nl : Int) (dk : Im) (d : Im) (m : Int) (hm : 0 ≤ m ∧ m ≤ 64) : Ct G l yX11_written cX11_written 6 (some .int) rmX11_written [.ref h, .int (iI m), .int (iI 1)] [(h, .inr (9, [.ref a, .ref b, .ref tk, .ref re, .ref qu, .int (iI hd), .int (iI tl), .ref nm, .int (iI nl)])), (a, .inl (gI G, 4096, .inl (arI dk))), (b, .inl (gI G, 4096, .inl (arI d)))] (some (.int (iI ((wbs d m 64 0 0 dk).1)))) [(h, .inr (9, [.ref a, .ref b, .ref tk, .ref re, .ref qu, .int (iI hd), .int (iI tl), .ref nm, .int (iI nl)])), (a, .inl (gI G, 4096, .inl (arI ((wbs d m 64 0 0 dk).2)))), (b, .inl (gI G, 4096, .inl (arI d)))] := by
  refine Ct.of (by decide) (Nat.le_of_ble_eq_true rfl) ?_
  intro k C hl hret
  subst hl
  refine w_lv (lv2 := [(0, .ref h), (1, .int (iI m)), (2, .int (iI 1))]) [0, 1, 2] rfl ?_
  refine w_iconst C dX11_written_0 ?_
  refine w_istore_n (lv2 := [(0, .ref h), (1, .int (iI m)), (2, .int (iI 1)), (3, .int (iI 0))]) C dX11_written_1 (by decide) rfl ?_
  refine w_iconst C dX11_written_2 ?_
  refine w_istore (lv2 := [(0, .ref h), (1, .int (iI m)), (2, .int (iI 1)), (3, .int (iI 0)), (4, .int (iI 0))]) C dX11_written_3 (by decide) rfl ?_
  have L_5 : ∀ (nn_5 : Nat) (i : Int) (c : Int) (x : Im), (0 ≤ i ∧ i ≤ 64 ∧ 0 ≤ c ∧ c ≤ i) → (wbs d m 64 0 0 dk = wbs d m (64 - i).toNat i c x) → (64 - i).toNat = nn_5 → Wd G k 6 0 0 [(h, .inr (9, [.ref a, .ref b, .ref tk, .ref re, .ref qu, .int (iI hd), .int (iI tl), .ref nm, .int (iI nl)])), (a, .inl (gI G, 4096, .inl (arI x))), (b, .inl (gI G, 4096, .inl (arI d)))] 5 [(0, .ref h), (1, .int (iI m)), (2, .int (iI 1)), (3, .int (iI c)), (4, .int (iI i))] [] := by
    intro nn_5
    induction nn_5 using Nat.strongRecOn with
    | ind nn_5 ih_5 =>
      intro i c x h1 h2 hm_5
      refine w_iload C 4 dX11_written_5 rfl ?_
      refine w_bipush C dX11_written_7 (by decide) ?_
      refine w_icmp_ge C 79 dX11_written_9 rfl (by omega) (fun c_1 => ?_) (fun c_1 => ?_)
      · have h4 : wbs d m 64 0 0 dk = (c, x) := by rw [h2, show (64 - i).toNat = 0 by omega, wbs]
        refine w_iload_n C 3 dX11_written_79 rfl ?_
        exact w_reti hret dX11_written_80 rfl rfl rfl rfl ⟨congrArg (fun z => some (Value.int (iI z))) (by rw [h4]), (by rw [h4])⟩
      · refine w_iload_n C 3 dX11_written_12 rfl ?_
        refine w_iload_n C 1 dX11_written_13 rfl ?_
        refine w_icmp_ge C 79 dX11_written_14 rfl (by omega) (fun c_2 => ?_) (fun c_2 => ?_)
        · have h4 : wbs d m 64 0 0 dk = (c, x) := by rw [h2]; exact wbs_stop _ _ _ _ _ _ (by omega)
          refine w_iload_n C 3 dX11_written_79 rfl ?_
          exact w_reti hret dX11_written_80 rfl rfl rfl rfl ⟨congrArg (fun z => some (Value.int (iI z))) (by rw [h4]), (by rw [h4])⟩
        · refine w_aload_n C 0 dX11_written_17 rfl ?_
          refine w_iload C 4 dX11_written_18 rfl ?_
          refine w_callV (As := [.int (iI i)]) (rest := []) (w2 := [(h, .inr (9, [.ref a, .ref b, .ref tk, .ref re, .ref qu, .int (iI hd), .int (iI tl), .ref nm, .int (iI nl)])), (a, .inl (gI G, 4096, .inl (arI x))), (b, .inl (gI G, 4096, .inl (arI d)))]) (st2 := [.int (iI (bI (!(im_same d x i))))]) C (ct_X11_differs G (kl k) h a b tk re qu nm hd tl nl x d i (by omega)) gX11_173 dX11_written_20 0 rfl rfl rfl rfl rfl (Nat.le_of_ble_eq_true rfl) (by decide) [0, 1, 2] rfl (by decide) [h, a, b] rfl rfl rfl rfl ?_
          refine w_bz C 73 dX11_written_23 rfl (fun c_3 => ?_) (fun c_3 => ?_)
          · have hs : im_same d x i = true := by have w := c_3; cases z : im_same d x i with | true => rfl | false => (rw [z] at w; cases w)
            refine w_iinc (lv2 := [(0, .ref h), (1, .int (iI m)), (2, .int (iI 1)), (3, .int (iI c)), (4, .int (iI (i + 1)))]) C 4 dX11_written_73 rfl (by decide) rfl ?_
            refine w_goto C 5 dX11_written_76 rfl ?_
            exact ih_5 _ (by omega) (i + 1) c x (by omega) (by rw [h2, show (64 - i).toNat = (64 - (i + 1)).toNat + 1 by omega, wbs, if_pos (show c < m by omega)]; first | (rw [if_pos hs, if_pos hs]; done) | (rw [if_neg hs, if_neg hs, he]; unfold im_cpb; rw [if_pos (by omega), show i * 64 = 64 * i by omega, show y - 64 * i = 64 by omega])) rfl
          · have hs : ¬ im_same d x i = true := by have w := c_3; intro z; rw [z] at w; cases w
            refine w_iinc (lv2 := [(0, .ref h), (1, .int (iI m)), (2, .int (iI 1)), (3, .int (iI (c + 1))), (4, .int (iI i))]) C 3 dX11_written_26 rfl (by decide) rfl ?_
            refine w_bipush C dX11_written_29 (by decide) ?_
            refine w_iload C 4 dX11_written_31 rfl ?_
            refine w_imul C dX11_written_33 ?_
            refine w_istore (lv2 := [(0, .ref h), (1, .int (iI m)), (2, .int (iI 1)), (3, .int (iI (c + 1))), (4, .int (iI i)), (5, .int (iI (64 * i)))]) C dX11_written_34 (by decide) rfl ?_
            have L_36 : ∀ (nn_36 : Nat) (y : Int) (e : Im), (64 * i ≤ y ∧ y ≤ 64 * i + 64) → (e = cpy d x (64 * i) (64 * i) (y - 64 * i)) → (64 * i + 64 - y).toNat = nn_36 → Wd G k 6 0 0 [(h, .inr (9, [.ref a, .ref b, .ref tk, .ref re, .ref qu, .int (iI hd), .int (iI tl), .ref nm, .int (iI nl)])), (a, .inl (gI G, 4096, .inl (arI e))), (b, .inl (gI G, 4096, .inl (arI d)))] 36 [(0, .ref h), (1, .int (iI m)), (2, .int (iI 1)), (3, .int (iI (c + 1))), (4, .int (iI i)), (5, .int (iI y))] [] := by
              intro nn_36
              induction nn_36 using Nat.strongRecOn with
              | ind nn_36 ih_36 =>
                intro y e h5 he hm_36
                refine w_iload C 5 dX11_written_36 rfl ?_
                refine w_bipush C dX11_written_38 (by decide) ?_
                refine w_iload C 4 dX11_written_40 rfl ?_
                refine w_imul C dX11_written_42 ?_
                refine w_bipush C dX11_written_43 (by decide) ?_
                refine w_iadd C dX11_written_45 ?_
                refine w_icmp_ge C 73 dX11_written_46 rfl (by omega) (fun c_4 => ?_) (fun c_4 => ?_)
                · refine w_iinc (lv2 := [(0, .ref h), (1, .int (iI m)), (2, .int (iI 1)), (3, .int (iI (c + 1))), (4, .int (iI (i + 1))), (5, .int (iI y))]) C 4 dX11_written_73 rfl (by decide) rfl ?_
                  refine w_goto C 5 dX11_written_76 rfl ?_
                  refine w_lv (lv2 := [(0, .ref h), (1, .int (iI m)), (2, .int (iI 1)), (3, .int (iI (c + 1))), (4, .int (iI (i + 1)))]) [0, 1, 2, 3, 4] rfl ?_
                  exact ih_5 _ (by omega) (i + 1) (c + 1) e (by omega) (by rw [h2, show (64 - i).toNat = (64 - (i + 1)).toNat + 1 by omega, wbs, if_pos (show c < m by omega)]; first | (rw [if_pos hs, if_pos hs]; done) | (rw [if_neg hs, if_neg hs, he]; unfold im_cpb; rw [if_pos (by omega), show i * 64 = 64 * i by omega, show y - 64 * i = 64 by omega])) rfl
                · refine w_iload_n C 2 dX11_written_49 rfl ?_
                  refine w_if_eq C 73 dX11_written_50 rfl (by omega) (fun c_5 => ?_) (fun c_5 => ?_)
                  · omega
                  · refine w_aload_n C 0 dX11_written_53 rfl ?_
                    refine w_get C 0 0 846 dX11_written_54 rfl rfl inX11 (by decide) (by decide +kernel) rfl ?_
                    refine w_iload C 5 dX11_written_57 rfl ?_
                    refine w_aload_n C 0 dX11_written_59 rfl ?_
                    refine w_get C 0 1 847 dX11_written_60 rfl rfl inX11 (by decide) (by decide +kernel) rfl ?_
                    refine w_iload C 5 dX11_written_63 rfl ?_
                    refine w_iald C 2 dX11_written_65 rfl (by omega) ?_
                    have b_6 := d.2 y
                    refine w_iast (ws2 := [(h, .inr (9, [.ref a, .ref b, .ref tk, .ref re, .ref qu, .int (iI hd), .int (iI tl), .ref nm, .int (iI nl)])), (a, .inl (gI G, 4096, .inl (arI (up e y (d.1 y))))), (b, .inl (gI G, 4096, .inl (arI d)))]) C 1 dX11_written_66 rfl (by omega) (by omega) rfl ?_
                    refine w_iinc (lv2 := [(0, .ref h), (1, .int (iI m)), (2, .int (iI 1)), (3, .int (iI (c + 1))), (4, .int (iI i)), (5, .int (iI (y + 1)))]) C 5 dX11_written_67 rfl (by decide) rfl ?_
                    refine w_goto C 36 dX11_written_70 rfl ?_
                    exact ih_36 _ (by omega) (y + 1) (up e y (d.1 y)) (by omega) (by rw [he]; exact cpb_next d x i y h5.1) rfl
            exact L_36 _ (64 * i) x (by omega) (cpb_0 d x i) rfl
  exact L_5 _ 0 0 dk (by omega) (by rw [show ((64 : Int) - 0).toNat = 64 from rfl]) rfl

set_option maxHeartbeats 4000000 in
set_option maxRecDepth 100000 in
theorem ct_X11_written_f (G : GX) (l : Launch) (h : Nat) (a : Nat) (b : Nat) (tk : Nat) (re : Nat) (qu : Nat) (nm : Nat) (hd : Int) (tl : Int) (nl : Int) (dk : Im) (d : Im) : Ct G l yX11_written cX11_written 6 (some .int) rmX11_written [.ref h, .int (iI 64), .int (iI 0)] [(h, .inr (9, [.ref a, .ref b, .ref tk, .ref re, .ref qu, .int (iI hd), .int (iI tl), .ref nm, .int (iI nl)])), (a, .inl (gI G, 4096, .inl (arI dk))), (b, .inl (gI G, 4096, .inl (arI d)))] (some (.int (iI (cds d dk 64 0 0)))) [(h, .inr (9, [.ref a, .ref b, .ref tk, .ref re, .ref qu, .int (iI hd), .int (iI tl), .ref nm, .int (iI nl)])), (a, .inl (gI G, 4096, .inl (arI dk))), (b, .inl (gI G, 4096, .inl (arI d)))] := by
  refine Ct.of (by decide) (Nat.le_of_ble_eq_true rfl) ?_
  intro k C hl hret
  subst hl
  refine w_lv (lv2 := [(0, .ref h), (1, .int (iI 64)), (2, .int (iI 0))]) [0, 1, 2] rfl ?_
  refine w_iconst C dX11_written_0 ?_
  refine w_istore_n (lv2 := [(0, .ref h), (1, .int (iI 64)), (2, .int (iI 0)), (3, .int (iI 0))]) C dX11_written_1 (by decide) rfl ?_
  refine w_iconst C dX11_written_2 ?_
  refine w_istore (lv2 := [(0, .ref h), (1, .int (iI 64)), (2, .int (iI 0)), (3, .int (iI 0)), (4, .int (iI 0))]) C dX11_written_3 (by decide) rfl ?_
  have L_5 : ∀ (nn_5 : Nat) (i : Int) (c : Int), (0 ≤ i ∧ i ≤ 64 ∧ 0 ≤ c ∧ c ≤ i) → (cds d dk 64 0 0 = cds d dk (64 - i).toNat i c) → (64 - i).toNat = nn_5 → Wd G k 6 0 0 [(h, .inr (9, [.ref a, .ref b, .ref tk, .ref re, .ref qu, .int (iI hd), .int (iI tl), .ref nm, .int (iI nl)])), (a, .inl (gI G, 4096, .inl (arI dk))), (b, .inl (gI G, 4096, .inl (arI d)))] 5 [(0, .ref h), (1, .int (iI 64)), (2, .int (iI 0)), (3, .int (iI c)), (4, .int (iI i))] [] := by
    intro nn_5
    induction nn_5 using Nat.strongRecOn with
    | ind nn_5 ih_5 =>
      intro i c h1 h2 hm_5
      refine w_iload C 4 dX11_written_5 rfl ?_
      refine w_bipush C dX11_written_7 (by decide) ?_
      refine w_icmp_ge C 79 dX11_written_9 rfl (by omega) (fun c_1 => ?_) (fun c_1 => ?_)
      · refine w_iload_n C 3 dX11_written_79 rfl ?_
        exact w_reti hret dX11_written_80 rfl rfl rfl rfl ⟨congrArg (fun z => some (Value.int (iI z))) (by rw [h2, show (64 - i).toNat = 0 by omega, cds]), rfl⟩
      · refine w_iload_n C 3 dX11_written_12 rfl ?_
        refine w_iload_n C 1 dX11_written_13 rfl ?_
        refine w_icmp_ge C 79 dX11_written_14 rfl (by omega) (fun c_2 => ?_) (fun c_2 => ?_)
        · omega
        · refine w_aload_n C 0 dX11_written_17 rfl ?_
          refine w_iload C 4 dX11_written_18 rfl ?_
          refine w_callV (As := [.int (iI i)]) (rest := []) (w2 := [(h, .inr (9, [.ref a, .ref b, .ref tk, .ref re, .ref qu, .int (iI hd), .int (iI tl), .ref nm, .int (iI nl)])), (a, .inl (gI G, 4096, .inl (arI dk))), (b, .inl (gI G, 4096, .inl (arI d)))]) (st2 := [.int (iI (bI (!(im_same d dk i))))]) C (ct_X11_differs G (kl k) h a b tk re qu nm hd tl nl dk d i (by omega)) gX11_173 dX11_written_20 0 rfl rfl rfl rfl rfl (Nat.le_of_ble_eq_true rfl) (by decide) [0, 1, 2] rfl (by decide) [h, a, b] rfl rfl rfl rfl ?_
          refine w_bz C 73 dX11_written_23 rfl (fun c_3 => ?_) (fun c_3 => ?_)
          · have hs : im_same d dk i = true := by have w := c_3; cases z : im_same d dk i with | true => rfl | false => (rw [z] at w; cases w)
            refine w_iinc (lv2 := [(0, .ref h), (1, .int (iI 64)), (2, .int (iI 0)), (3, .int (iI c)), (4, .int (iI (i + 1)))]) C 4 dX11_written_73 rfl (by decide) rfl ?_
            refine w_goto C 5 dX11_written_76 rfl ?_
            exact ih_5 _ (by omega) (i + 1) c (by omega) (by rw [h2, show (64 - i).toNat = (64 - (i + 1)).toNat + 1 by omega, cds]; first | (rw [if_pos hs]; done) | rw [if_neg hs]) rfl
          · have hs : ¬ im_same d dk i = true := by have w := c_3; intro z; rw [z] at w; cases w
            refine w_iinc (lv2 := [(0, .ref h), (1, .int (iI 64)), (2, .int (iI 0)), (3, .int (iI (c + 1))), (4, .int (iI i))]) C 3 dX11_written_26 rfl (by decide) rfl ?_
            refine w_bipush C dX11_written_29 (by decide) ?_
            refine w_iload C 4 dX11_written_31 rfl ?_
            refine w_imul C dX11_written_33 ?_
            refine w_istore (lv2 := [(0, .ref h), (1, .int (iI 64)), (2, .int (iI 0)), (3, .int (iI (c + 1))), (4, .int (iI i)), (5, .int (iI (64 * i)))]) C dX11_written_34 (by decide) rfl ?_
            refine w_iload C 5 dX11_written_36 rfl ?_
            refine w_bipush C dX11_written_38 (by decide) ?_
            refine w_iload C 4 dX11_written_40 rfl ?_
            refine w_imul C dX11_written_42 ?_
            refine w_bipush C dX11_written_43 (by decide) ?_
            refine w_iadd C dX11_written_45 ?_
            refine w_icmp_ge C 73 dX11_written_46 rfl (by omega) (fun c_4 => ?_) (fun c_4 => ?_)
            · omega
            · refine w_iload_n C 2 dX11_written_49 rfl ?_
              refine w_if_eq C 73 dX11_written_50 rfl (by omega) (fun c_5 => ?_) (fun c_5 => ?_)
              · refine w_iinc (lv2 := [(0, .ref h), (1, .int (iI 64)), (2, .int (iI 0)), (3, .int (iI (c + 1))), (4, .int (iI (i + 1))), (5, .int (iI (64 * i)))]) C 4 dX11_written_73 rfl (by decide) rfl ?_
                refine w_goto C 5 dX11_written_76 rfl ?_
                refine w_lv (lv2 := [(0, .ref h), (1, .int (iI 64)), (2, .int (iI 0)), (3, .int (iI (c + 1))), (4, .int (iI (i + 1)))]) [0, 1, 2, 3, 4] rfl ?_
                exact ih_5 _ (by omega) (i + 1) (c + 1) (by omega) (by rw [h2, show (64 - i).toNat = (64 - (i + 1)).toNat + 1 by omega, cds]; first | (rw [if_pos hs]; done) | rw [if_neg hs]) rfl
              · omega
  exact L_5 _ 0 0 (by omega) (by rw [show ((64 : Int) - 0).toNat = 64 from rfl]) rfl

set_option maxHeartbeats 4000000 in
set_option maxRecDepth 100000 in
theorem ct_X11_directory (G : GX) (l : Launch) (h : Nat) (a : Nat) (b : Nat) (tk : Nat) (re : Nat) (qu : Nat) (nm : Nat) (hd : Int) (tl : Int) (nl : Int) (d : Im) (i : Int) (q : Int) (hi : 0 ≤ i ∧ i < 32) (hq : dat q) : Ct G l yX11_directory cX11_directory 3 none rmX11_directory [.ref h, .int (iI i), .int (iI q)] [(h, .inr (9, [.ref a, .ref b, .ref tk, .ref re, .ref qu, .int (iI hd), .int (iI tl), .ref nm, .int (iI nl)])), (b, .inl (gI G, 4096, .inl (arI d)))] none [(h, .inr (9, [.ref a, .ref b, .ref tk, .ref re, .ref qu, .int (iI hd), .int (iI tl), .ref nm, .int (iI nl)])), (b, .inl (gI G, 4096, .inl (arI (dirD d i q))))] := by
  refine Ct.of (by decide) (Nat.le_of_ble_eq_true rfl) ?_
  intro k C hl hret
  subst hl
  refine w_lv (lv2 := [(0, .ref h), (1, .int (iI i)), (2, .int (iI q))]) [0, 1, 2] rfl ?_
  refine w_aload_n C 0 dX11_directory_0 rfl ?_
  refine w_get C 0 1 847 dX11_directory_1 rfl rfl inX11 (by decide) (by decide +kernel) rfl ?_
  refine w_iload_n C 1 dX11_directory_4 rfl ?_
  refine w_callS (As := [.int (iI i)]) (rest := [.ref b]) (w2 := [(h, .inr (9, [.ref a, .ref b, .ref tk, .ref re, .ref qu, .int (iI hd), .int (iI tl), .ref nm, .int (iI nl)])), (b, .inl (gI G, 4096, .inl (arI d)))]) (st2 := [.int (iI (512 + 16 * i)), .ref b]) C (ct_X11_base G (kl k) i) gX11_42 dX11_directory_5 rfl rfl (Nat.le_of_ble_eq_true rfl) (by decide) [] rfl (by decide) [] rfl rfl rfl rfl ?_
  refine w_iconst C dX11_directory_8 ?_
  refine w_iast (ws2 := [(h, .inr (9, [.ref a, .ref b, .ref tk, .ref re, .ref qu, .int (iI hd), .int (iI tl), .ref nm, .int (iI nl)])), (b, .inl (gI G, 4096, .inl (arI (up d (512 + 16 * i) 2))))]) C 1 dX11_directory_9 rfl (by omega) (by omega) rfl ?_
  refine w_aload_n C 0 dX11_directory_10 rfl ?_
  refine w_iload_n C 1 dX11_directory_11 rfl ?_
  refine w_callS (As := [.int (iI i)]) (rest := [.ref h]) (w2 := [(h, .inr (9, [.ref a, .ref b, .ref tk, .ref re, .ref qu, .int (iI hd), .int (iI tl), .ref nm, .int (iI nl)])), (b, .inl (gI G, 4096, .inl (arI (up d (512 + 16 * i) 2))))]) (st2 := [.int (iI (512 + 16 * i)), .ref h]) C (ct_X11_base G (kl k) i) gX11_42 dX11_directory_12 rfl rfl (Nat.le_of_ble_eq_true rfl) (by decide) [] rfl (by decide) [] rfl rfl rfl rfl ?_
  refine w_iconst C dX11_directory_15 ?_
  refine w_iadd C dX11_directory_16 ?_
  refine w_bipush C dX11_directory_17 (by decide) ?_
  refine w_callV (As := [.int (iI ((512 + 16 * i) + 2)), .int (iI 64)]) (rest := []) (w2 := [(h, .inr (9, [.ref a, .ref b, .ref tk, .ref re, .ref qu, .int (iI hd), .int (iI tl), .ref nm, .int (iI nl)])), (b, .inl (gI G, 4096, .inl (arI (im_put (up d (512 + 16 * i) 2) ((512 + 16 * i) + 2) 64))))]) (st2 := []) C (ct_X11_put G (kl k) h a b tk re qu nm hd tl nl (up d (512 + 16 * i) 2) ((512 + 16 * i) + 2) 64 (by omega) (by omega)) gX11_103 dX11_directory_19 0 rfl rfl rfl rfl rfl (Nat.le_of_ble_eq_true rfl) (by decide) [0, 1] rfl (by decide) [h, b] rfl rfl rfl rfl ?_
  refine w_aload_n C 0 dX11_directory_22 rfl ?_
  refine w_get C 0 1 847 dX11_directory_23 rfl rfl inX11 (by decide) (by decide +kernel) rfl ?_
  refine w_iload_n C 1 dX11_directory_26 rfl ?_
  refine w_callS (As := [.int (iI i)]) (rest := [.ref b]) (w2 := [(h, .inr (9, [.ref a, .ref b, .ref tk, .ref re, .ref qu, .int (iI hd), .int (iI tl), .ref nm, .int (iI nl)])), (b, .inl (gI G, 4096, .inl (arI (im_put (up d (512 + 16 * i) 2) ((512 + 16 * i) + 2) 64))))]) (st2 := [.int (iI (512 + 16 * i)), .ref b]) C (ct_X11_base G (kl k) i) gX11_42 dX11_directory_27 rfl rfl (Nat.le_of_ble_eq_true rfl) (by decide) [] rfl (by decide) [] rfl rfl rfl rfl ?_
  refine w_iconst C dX11_directory_30 ?_
  refine w_iadd C dX11_directory_31 ?_
  refine w_iload_n C 2 dX11_directory_32 rfl ?_
  refine w_iast (ws2 := [(h, .inr (9, [.ref a, .ref b, .ref tk, .ref re, .ref qu, .int (iI hd), .int (iI tl), .ref nm, .int (iI nl)])), (b, .inl (gI G, 4096, .inl (arI (up (im_put (up d (512 + 16 * i) 2) ((512 + 16 * i) + 2) 64) ((512 + 16 * i) + 4) q))))]) C 1 dX11_directory_33 rfl (by omega) (by omega) rfl ?_
  refine w_aload_n C 0 dX11_directory_34 rfl ?_
  refine w_bipush C dX11_directory_35 (by decide) ?_
  refine w_iload_n C 2 dX11_directory_37 rfl ?_
  refine w_imul C dX11_directory_38 ?_
  refine w_bipush C dX11_directory_39 (by decide) ?_
  refine w_callV (As := [.int (iI (64 * q)), .int (iI 64)]) (rest := []) (w2 := [(h, .inr (9, [.ref a, .ref b, .ref tk, .ref re, .ref qu, .int (iI hd), .int (iI tl), .ref nm, .int (iI nl)])), (b, .inl (gI G, 4096, .inl (arI (im_wipe (up (im_put (up d (512 + 16 * i) 2) ((512 + 16 * i) + 2) 64) ((512 + 16 * i) + 4) q) (64 * q) 64))))]) (st2 := []) C (ct_X11_clear G (kl k) h a b tk re qu nm hd tl nl (up (im_put (up d (512 + 16 * i) 2) ((512 + 16 * i) + 2) 64) ((512 + 16 * i) + 4) q) (64 * q) 64 (by unfold rgP; omega)) gX11_65 dX11_directory_41 0 rfl rfl rfl rfl rfl (Nat.le_of_ble_eq_true rfl) (by decide) [0, 1] rfl (by decide) [h, b] rfl rfl rfl rfl ?_
  exact w_retv hret dX11_directory_44 rfl rfl rfl ⟨rfl, (by unfold dirD; rw [show 512 + i * 16 = 512 + 16 * i by omega, show q * 64 = 64 * q by omega])⟩
