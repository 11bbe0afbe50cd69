set_option maxHeartbeats 4000000 in
set_option maxRecDepth 100000 in
theorem ct_X11_two (G : GX) (l : Launch) (h : Nat) (a : Nat) (b : Nat) (tk : Nat) (re : Nat) (qu : Nat) (nm : Nat) (hd : Int) (tl : Int) (nl : Int) (d : Im) (p : Int) (hp : 0 ≤ p ∧ p < 4095) : Ct G l yX11_two cX11_two 2 (some .int) rmX11_two [.ref h, .int (iI p)] [(h, .inr (9, [.ref a, .ref b, .ref tk, .ref re, .ref qu, .int (iI hd), .int (iI tl), .ref nm, .int (iI nl)])), (b, .inl (gI G, 4096, .inl (arI d)))] (some (.int (iI (im_two d p)))) [(h, .inr (9, [.ref a, .ref b, .ref tk, .ref re, .ref qu, .int (iI hd), .int (iI tl), .ref nm, .int (iI nl)])), (b, .inl (gI G, 4096, .inl (arI d)))] := by
  refine Ct.of (by decide) (Nat.le_of_ble_eq_true rfl) ?_
  intro k C hl hret
  subst hl
  refine w_lv (lv2 := [(0, .ref h), (1, .int (iI p))]) [0, 1] rfl ?_
  refine w_aload_n C 0 dX11_two_0 rfl ?_
  refine w_get C 0 1 847 dX11_two_1 rfl rfl inX11 (by decide) (by decide +kernel) rfl ?_
  refine w_iload_n C 1 dX11_two_4 rfl ?_
  refine w_iald C 1 dX11_two_5 rfl (by omega) ?_
  have b_1 := d.2 p
  refine w_sipush C dX11_two_6 (by decide) ?_
  refine w_imul C dX11_two_9 ?_
  refine w_aload_n C 0 dX11_two_10 rfl ?_
  refine w_get C 0 1 847 dX11_two_11 rfl rfl inX11 (by decide) (by decide +kernel) rfl ?_
  refine w_iload_n C 1 dX11_two_14 rfl ?_
  refine w_iconst C dX11_two_15 ?_
  refine w_iadd C dX11_two_16 ?_
  refine w_iald C 1 dX11_two_17 rfl (by omega) ?_
  have b_2 := d.2 (p + 1)
  refine w_iadd C dX11_two_18 ?_
  exact w_reti hret dX11_two_19 rfl rfl rfl rfl ⟨congrArg (fun z => some (Value.int (iI z))) (im_two_in d hp).symm, rfl⟩

set_option maxHeartbeats 4000000 in
set_option maxRecDepth 100000 in
theorem ct_X11_put (G : GX) (l : Launch) (h : Nat) (a : Nat) (b : Nat) (tk : Nat) (re : Nat) (qu : Nat) (nm : Nat) (hd : Int) (tl : Int) (nl : Int) (d : Im) (p : Int) (v : Int) (hp : 0 ≤ p ∧ p < 4095) (hv : 0 ≤ v ∧ v < 2147483648) : Ct G l yX11_put cX11_put 3 none rmX11_put [.ref h, .int (iI p), .int (iI v)] [(h, .inr (9, [.ref a, .ref b, .ref tk, .ref re, .ref qu, .int (iI hd), .int (iI tl), .ref nm, .int (iI nl)])), (b, .inl (gI G, 4096, .inl (arI d)))] none [(h, .inr (9, [.ref a, .ref b, .ref tk, .ref re, .ref qu, .int (iI hd), .int (iI tl), .ref nm, .int (iI nl)])), (b, .inl (gI G, 4096, .inl (arI (im_put d p v))))] := by
  refine Ct.of (by decide) (Nat.le_of_ble_eq_true rfl) ?_
  intro k C hl hret
  subst hl
  refine w_lv (lv2 := [(0, .ref h), (1, .int (iI p)), (2, .int (iI v))]) [0, 1, 2] rfl ?_
  refine w_aload_n C 0 dX11_put_0 rfl ?_
  refine w_get C 0 1 847 dX11_put_1 rfl rfl inX11 (by decide) (by decide +kernel) rfl ?_
  refine w_iload_n C 1 dX11_put_4 rfl ?_
  refine w_iload_n C 2 dX11_put_5 rfl ?_
  refine w_sipush C dX11_put_6 (by decide) ?_
  refine w_idiv C dX11_put_9 (by omega) ?_
  refine w_sipush C dX11_put_10 (by decide) ?_
  refine w_irem C dX11_put_13 (by omega) ?_
  refine w_iast (ws2 := [(h, .inr (9, [.ref a, .ref b, .ref tk, .ref re, .ref qu, .int (iI hd), .int (iI tl), .ref nm, .int (iI nl)])), (b, .inl (gI G, 4096, .inl (arI (up d p ((v / 256) % 256)))))]) C 1 dX11_put_14 rfl (by omega) (by omega) rfl ?_
  refine w_aload_n C 0 dX11_put_15 rfl ?_
  refine w_get C 0 1 847 dX11_put_16 rfl rfl inX11 (by decide) (by decide +kernel) rfl ?_
  refine w_iload_n C 1 dX11_put_19 rfl ?_
  refine w_iconst C dX11_put_20 ?_
  refine w_iadd C dX11_put_21 ?_
  refine w_iload_n C 2 dX11_put_22 rfl ?_
  refine w_sipush C dX11_put_23 (by decide) ?_
  refine w_irem C dX11_put_26 (by omega) ?_
  refine w_iast (ws2 := [(h, .inr (9, [.ref a, .ref b, .ref tk, .ref re, .ref qu, .int (iI hd), .int (iI tl), .ref nm, .int (iI nl)])), (b, .inl (gI G, 4096, .inl (arI (up (up d p ((v / 256) % 256)) (p + 1) (v % 256)))))]) C 1 dX11_put_27 rfl (by omega) (by omega) rfl ?_
  exact w_retv hret dX11_put_28 rfl rfl rfl ⟨rfl, (by rw [im_put_in d hp])⟩

set_option maxHeartbeats 4000000 in
set_option maxRecDepth 100000 in
theorem ct_X11_sum (G : GX) (l : Launch) (h : Nat) (a : Nat) (b : Nat) (tk : Nat) (re : Nat) (qu : Nat) (nm : Nat) (hd : Int) (tl : Int) (nl : Int) (d : Im) (p : Int) (n : Int) (hr : rgP p n) : Ct G l yX11_sum cX11_sum 5 (some .int) rmX11_sum [.ref h, .int (iI p), .int (iI n)] [(h, .inr (9, [.ref a, .ref b, .ref tk, .ref re, .ref qu, .int (iI hd), .int (iI tl), .ref nm, .int (iI nl)])), (b, .inl (gI G, 4096, .inl (arI d)))] (some (.int (iI (im_sum d p n)))) [(h, .inr (9, [.ref a, .ref b, .ref tk, .ref re, .ref qu, .int (iI hd), .int (iI tl), .ref nm, .int (iI nl)])), (b, .inl (gI G, 4096, .inl (arI d)))] := by
  refine Ct.of (by decide) (Nat.le_of_ble_eq_true rfl) ?_
  intro k C hl hret
  subst hl
  refine w_lv (lv2 := [(0, .ref h), (1, .int (iI p)), (2, .int (iI n))]) [0, 1, 2] rfl ?_
  have hg : rgP p n := hr
  unfold rgP at hg
  refine w_iconst C dX11_sum_0 ?_
  refine w_istore_n (lv2 := [(0, .ref h), (1, .int (iI p)), (2, .int (iI n)), (3, .int (iI 0))]) C dX11_sum_1 (by decide) rfl ?_
  refine w_iload_n C 1 dX11_sum_2 rfl ?_
  refine w_istore (lv2 := [(0, .ref h), (1, .int (iI p)), (2, .int (iI n)), (3, .int (iI 0)), (4, .int (iI p))]) C dX11_sum_3 (by decide) rfl ?_
  have L_5 : ∀ (nn_5 : Nat) (i : Int) (s : Int), (p ≤ i) → (i ≤ p + n) → (s = sm d p (i - p).toNat) → (0 ≤ s ∧ s ≤ 255 * (i - p)) → (p + n - i).toNat = nn_5 → Wd G k 5 0 0 [(h, .inr (9, [.ref a, .ref b, .ref tk, .ref re, .ref qu, .int (iI hd), .int (iI tl), .ref nm, .int (iI nl)])), (b, .inl (gI G, 4096, .inl (arI d)))] 5 [(0, .ref h), (1, .int (iI p)), (2, .int (iI n)), (3, .int (iI s)), (4, .int (iI i))] [] := by
    intro nn_5
    induction nn_5 using Nat.strongRecOn with
    | ind nn_5 ih_5 =>
      intro i s h1 h2 h3 h4 hm_5
      refine w_iload C 4 dX11_sum_5 rfl ?_
      refine w_iload_n C 1 dX11_sum_7 rfl ?_
      refine w_iload_n C 2 dX11_sum_8 rfl ?_
      refine w_iadd C dX11_sum_9 ?_
      refine w_icmp_ge C 29 dX11_sum_10 rfl (by omega) (fun c_1 => ?_) (fun c_1 => ?_)
      · refine w_iload_n C 3 dX11_sum_29 rfl ?_
        refine w_ldc (z := 65536) C 895 dX11_sum_30 (by decide +kernel) rfl ?_
        refine w_irem C dX11_sum_32 (by omega) ?_
        exact w_reti hret dX11_sum_33 rfl rfl rfl rfl ⟨congrArg (fun z => some (Value.int (iI z))) (by unfold im_sum; rw [if_pos hr, h3, show (i - p).toNat = n.toNat by omega]), rfl⟩
      · refine w_iload_n C 3 dX11_sum_13 rfl ?_
        refine w_aload_n C 0 dX11_sum_14 rfl ?_
        refine w_get C 0 1 847 dX11_sum_15 rfl rfl inX11 (by decide) (by decide +kernel) rfl ?_
        refine w_iload C 4 dX11_sum_18 rfl ?_
        refine w_iald C 1 dX11_sum_20 rfl (by omega) ?_
        have b_2 := d.2 i
        refine w_iadd C dX11_sum_21 ?_
        refine w_istore_n (lv2 := [(0, .ref h), (1, .int (iI p)), (2, .int (iI n)), (3, .int (iI (s + (d.1 i)))), (4, .int (iI i))]) C dX11_sum_22 (by decide) rfl ?_
        refine w_iinc (lv2 := [(0, .ref h), (1, .int (iI p)), (2, .int (iI n)), (3, .int (iI (s + (d.1 i)))), (4, .int (iI (i + 1)))]) C 4 dX11_sum_23 rfl (by decide) rfl ?_
        refine w_goto C 5 dX11_sum_26 rfl ?_
        exact ih_5 _ (by omega) (i + 1) (s + (d.1 i)) (by omega) (by omega) (by rw [h3]; exact sm_next d p i h1) (by omega) rfl
  exact L_5 _ p 0 (by omega) (by omega) (by rw [show (p - p).toNat = 0 by omega]; rfl) (by omega) rfl

set_option maxHeartbeats 4000000 in
set_option maxRecDepth 100000 in
theorem ct_X11_clear (G : GX) (l : Launch) (h : Nat) (a : Nat) (b : Nat) (tk : Nat) (re : Nat) (qu : Nat) (nm : Nat) (hd : Int) (tl : Int) (nl : Int) (d : Im) (p : Int) (n : Int) (hr : rgP p n) : Ct G l yX11_clear cX11_clear 4 none rmX11_clear [.ref h, .int (iI p), .int (iI n)] [(h, .inr (9, [.ref a, .ref b, .ref tk, .ref re, .ref qu, .int (iI hd), .int (iI tl), .ref nm, .int (iI nl)])), (b, .inl (gI G, 4096, .inl (arI d)))] none [(h, .inr (9, [.ref a, .ref b, .ref tk, .ref re, .ref qu, .int (iI hd), .int (iI tl), .ref nm, .int (iI nl)])), (b, .inl (gI G, 4096, .inl (arI (im_wipe d p n))))] := by
  refine Ct.of (by decide) (Nat.le_of_ble_eq_true rfl) ?_
  intro k C hl hret
  subst hl
  refine w_lv (lv2 := [(0, .ref h), (1, .int (iI p)), (2, .int (iI n))]) [0, 1, 2] rfl ?_
  have hg : rgP p n := hr
  unfold rgP at hg
  refine w_iload_n C 1 dX11_clear_0 rfl ?_
  refine w_istore_n (lv2 := [(0, .ref h), (1, .int (iI p)), (2, .int (iI n)), (3, .int (iI p))]) C dX11_clear_1 (by decide) rfl ?_
  have L_2 : ∀ (nn_2 : Nat) (i : Int) (e : Im), (p ≤ i ∧ i ≤ p + n) → (e = clr d p (i - p)) → (p + n - i).toNat = nn_2 → Wd G k 4 0 0 [(h, .inr (9, [.ref a, .ref b, .ref tk, .ref re, .ref qu, .int (iI hd), .int (iI tl), .ref nm, .int (iI nl)])), (b, .inl (gI G, 4096, .inl (arI e)))] 2 [(0, .ref h), (1, .int (iI p)), (2, .int (iI n)), (3, .int (iI i))] [] := by
    intro nn_2
    induction nn_2 using Nat.strongRecOn with
    | ind nn_2 ih_2 =>
      intro i e h1 h2 hm_2
      refine w_iload_n C 3 dX11_clear_2 rfl ?_
      refine w_iload_n C 1 dX11_clear_3 rfl ?_
      refine w_iload_n C 2 dX11_clear_4 rfl ?_
      refine w_iadd C dX11_clear_5 ?_
      refine w_icmp_ge C 22 dX11_clear_6 rfl (by omega) (fun c_1 => ?_) (fun c_1 => ?_)
      · exact w_retv hret dX11_clear_22 rfl rfl rfl ⟨rfl, (by unfold im_wipe; rw [if_pos hr, h2, show i - p = n by omega])⟩
      · refine w_aload_n C 0 dX11_clear_9 rfl ?_
        refine w_get C 0 1 847 dX11_clear_10 rfl rfl inX11 (by decide) (by decide +kernel) rfl ?_
        refine w_iload_n C 3 dX11_clear_13 rfl ?_
        refine w_iconst C dX11_clear_14 ?_
        refine w_iast (ws2 := [(h, .inr (9, [.ref a, .ref b, .ref tk, .ref re, .ref qu, .int (iI hd), .int (iI tl), .ref nm, .int (iI nl)])), (b, .inl (gI G, 4096, .inl (arI (up e i 0))))]) C 1 dX11_clear_15 rfl (by omega) (by omega) rfl ?_
        refine w_iinc (lv2 := [(0, .ref h), (1, .int (iI p)), (2, .int (iI n)), (3, .int (iI (i + 1)))]) C 3 dX11_clear_16 rfl (by decide) rfl ?_
        refine w_goto C 2 dX11_clear_19 rfl ?_
        exact ih_2 _ (by omega) (i + 1) (up e i 0) (by omega) (by rw [h2]; exact clr_next d p i h1.1) rfl
  exact L_2 _ p d (by omega) (by apply Subtype.ext; funext j; show d.1 j = if p ≤ j ∧ j < p + (p - p) then 0 else d.1 j; rw [if_neg (by omega)]) rfl

set_option maxHeartbeats 4000000 in
set_option maxRecDepth 100000 in
theorem ct_X11_isClear (G : GX) (l : Launch) (h : Nat) (a : Nat) (b : Nat) (tk : Nat) (re : Nat) (qu : Nat) (nm : Nat) (hd : Int) (tl : Int) (nl : Int) (d : Im) (p : Int) (n : Int) (hr : rgP p n) : Ct G l yX11_isClear cX11_isClear 5 (some .boolean) rmX11_isClear [.ref h, .int (iI p), .int (iI n)] [(h, .inr (9, [.ref a, .ref b, .ref tk, .ref re, .ref qu, .int (iI hd), .int (iI tl), .ref nm, .int (iI nl)])), (b, .inl (gI G, 4096, .inl (arI d)))] (some (.int (iI (bI (im_blank d p n))))) [(h, .inr (9, [.ref a, .ref b, .ref tk, .ref re, .ref qu, .int (iI hd), .int (iI tl), .ref nm, .int (iI nl)])), (b, .inl (gI G, 4096, .inl (arI d)))] := by
  refine Ct.of (by decide) (Nat.le_of_ble_eq_true rfl) ?_
  intro k C hl hret
  subst hl
  refine w_lv (lv2 := [(0, .ref h), (1, .int (iI p)), (2, .int (iI n))]) [0, 1, 2] rfl ?_
  have hg : rgP p n := hr
  unfold rgP at hg
  refine w_iconst C dX11_isClear_0 ?_
  refine w_istore_n (lv2 := [(0, .ref h), (1, .int (iI p)), (2, .int (iI n)), (3, .int (iI 1))]) C dX11_isClear_1 (by decide) rfl ?_
  refine w_iload_n C 1 dX11_isClear_2 rfl ?_
  refine w_istore (lv2 := [(0, .ref h), (1, .int (iI p)), (2, .int (iI n)), (3, .int (iI 1)), (4, .int (iI p))]) C dX11_isClear_3 (by decide) rfl ?_
  have L_5 : ∀ (nn_5 : Nat) (i : Int) (s : Int), (p ≤ i ∧ i ≤ p + n) → (s = bI (blk d p (i - p).toNat)) → (p + n - i).toNat = nn_5 → Wd G k 5 0 0 [(h, .inr (9, [.ref a, .ref b, .ref tk, .ref re, .ref qu, .int (iI hd), .int (iI tl), .ref nm, .int (iI nl)])), (b, .inl (gI G, 4096, .inl (arI d)))] 5 [(0, .ref h), (1, .int (iI p)), (2, .int (iI n)), (3, .int (iI s)), (4, .int (iI i))] [] := by
    intro nn_5
    induction nn_5 using Nat.strongRecOn with
    | ind nn_5 ih_5 =>
      intro i s h1 h3 hm_5
      have q1 := bI_rg (blk d p (i - p).toNat)
      refine w_iload C 4 dX11_isClear_5 rfl ?_
      refine w_iload_n C 1 dX11_isClear_7 rfl ?_
      refine w_iload_n C 2 dX11_isClear_8 rfl ?_
      refine w_iadd C dX11_isClear_9 ?_
      refine w_icmp_ge C 39 dX11_isClear_10 rfl (by omega) (fun c_1 => ?_) (fun c_1 => ?_)
      · refine w_iload_n C 3 dX11_isClear_39 rfl ?_
        refine w_st (st2 := [.int (iI (bI (blk d p (i - p).toNat)))]) (by rw [h3]) ?_
        exact w_reti hret dX11_isClear_40 rfl (nar_b _) rfl rfl ⟨congrArg (fun z => some (Value.int (iI (bI z)))) (by unfold im_blank; rw [if_pos hr, show (i - p).toNat = n.toNat by omega]), rfl⟩
      · refine w_iload_n C 3 dX11_isClear_13 rfl ?_
        refine w_if_eq C 31 dX11_isClear_14 rfl (by omega) (fun c_2 => ?_) (fun c_2 => ?_)
        · refine w_iconst C dX11_isClear_31 ?_
          refine w_istore_n (lv2 := [(0, .ref h), (1, .int (iI p)), (2, .int (iI n)), (3, .int (iI 0)), (4, .int (iI i))]) C dX11_isClear_32 (by decide) rfl ?_
          refine w_iinc (lv2 := [(0, .ref h), (1, .int (iI p)), (2, .int (iI n)), (3, .int (iI 0)), (4, .int (iI (i + 1)))]) C 4 dX11_isClear_33 rfl (by decide) rfl ?_
          refine w_goto C 5 dX11_isClear_36 rfl ?_
          exact ih_5 _ (by omega) (i + 1) 0 (by omega) (by rw [show (i + 1 - p).toNat = (i - p).toNat + 1 by omega, blk, show p + ((i - p).toNat : Int) = i by omega]; cases z : blk d p (i - p).toNat with | false => (rw [z] at h3; first | rfl | (exfalso; change s = 0 at h3; omega)) | true => (rw [z] at h3; change s = 1 at h3; first | (rw [decide_eq_true (by omega)]; rfl) | (rw [decide_eq_false (by omega)]; rfl) | (exfalso; omega))) rfl
        · refine w_aload_n C 0 dX11_isClear_17 rfl ?_
          refine w_get C 0 1 847 dX11_isClear_18 rfl rfl inX11 (by decide) (by decide +kernel) rfl ?_
          refine w_iload C 4 dX11_isClear_21 rfl ?_
          refine w_iald C 1 dX11_isClear_23 rfl (by omega) ?_
          have b_3 := d.2 i
          refine w_if_ne C 31 dX11_isClear_24 rfl (by omega) (fun c_4 => ?_) (fun c_4 => ?_)
          · refine w_iconst C dX11_isClear_31 ?_
            refine w_istore_n (lv2 := [(0, .ref h), (1, .int (iI p)), (2, .int (iI n)), (3, .int (iI 0)), (4, .int (iI i))]) C dX11_isClear_32 (by decide) rfl ?_
            refine w_iinc (lv2 := [(0, .ref h), (1, .int (iI p)), (2, .int (iI n)), (3, .int (iI 0)), (4, .int (iI (i + 1)))]) C 4 dX11_isClear_33 rfl (by decide) rfl ?_
            refine w_goto C 5 dX11_isClear_36 rfl ?_
            exact ih_5 _ (by omega) (i + 1) 0 (by omega) (by rw [show (i + 1 - p).toNat = (i - p).toNat + 1 by omega, blk, show p + ((i - p).toNat : Int) = i by omega]; cases z : blk d p (i - p).toNat with | false => (rw [z] at h3; first | rfl | (exfalso; change s = 0 at h3; omega)) | true => (rw [z] at h3; change s = 1 at h3; first | (rw [decide_eq_true (by omega)]; rfl) | (rw [decide_eq_false (by omega)]; rfl) | (exfalso; omega))) rfl
          · refine w_iconst C dX11_isClear_27 ?_
            refine w_goto C 32 dX11_isClear_28 rfl ?_
            refine w_istore_n (lv2 := [(0, .ref h), (1, .int (iI p)), (2, .int (iI n)), (3, .int (iI 1)), (4, .int (iI i))]) C dX11_isClear_32 (by decide) rfl ?_
            refine w_iinc (lv2 := [(0, .ref h), (1, .int (iI p)), (2, .int (iI n)), (3, .int (iI 1)), (4, .int (iI (i + 1)))]) C 4 dX11_isClear_33 rfl (by decide) rfl ?_
            refine w_goto C 5 dX11_isClear_36 rfl ?_
            exact ih_5 _ (by omega) (i + 1) 1 (by omega) (by rw [show (i + 1 - p).toNat = (i - p).toNat + 1 by omega, blk, show p + ((i - p).toNat : Int) = i by omega]; cases z : blk d p (i - p).toNat with | false => (rw [z] at h3; first | rfl | (exfalso; change s = 0 at h3; omega)) | true => (rw [z] at h3; change s = 1 at h3; first | (rw [decide_eq_true (by omega)]; rfl) | (rw [decide_eq_false (by omega)]; rfl) | (exfalso; omega))) rfl
  exact L_5 _ p 1 (by omega) (by rw [show (p - p).toNat = 0 by omega]; rfl) rfl

set_option maxHeartbeats 4000000 in
set_option maxRecDepth 100000 in
theorem ct_X11_has (G : GX) (l : Launch) (h : Nat) (a : Nat) (b : Nat) (tk : Nat) (re : Nat) (qu : Nat) (nm : Nat) (hd : Int) (tl : Int) (nl : Int) (d : Im) (p : Int) (x : Int) (y : Int) (z : Int) (u : Int) (hp : 0 ≤ p ∧ p < 4093) (hx : 0 ≤ x ∧ x < 256 ∧ 0 ≤ y ∧ y < 256 ∧ 0 ≤ z ∧ z < 256 ∧ 0 ≤ u ∧ u < 256) : Ct G l yX11_has cX11_has 6 (some .boolean) rmX11_has [.ref h, .int (iI p), .int (iI x), .int (iI y), .int (iI z), .int (iI u)] [(h, .inr (9, [.ref a, .ref b, .ref tk, .ref re, .ref qu, .int (iI hd), .int (iI tl), .ref nm, .int (iI nl)])), (b, .inl (gI G, 4096, .inl (arI d)))] (some (.int (iI (bI (hasB d p x y z u))))) [(h, .inr (9, [.ref a, .ref b, .ref tk, .ref re, .ref qu, .int (iI hd), .int (iI tl), .ref nm, .int (iI nl)])), (b, .inl (gI G, 4096, .inl (arI d)))] := by
  refine Ct.of (by decide) (Nat.le_of_ble_eq_true rfl) ?_
  intro k C hl hret
  subst hl
  refine w_lv (lv2 := [(0, .ref h), (1, .int (iI p)), (2, .int (iI x)), (3, .int (iI y)), (4, .int (iI z)), (5, .int (iI u))]) [0, 1, 2, 3, 4, 5] rfl ?_
  refine w_aload_n C 0 dX11_has_0 rfl ?_
  refine w_get C 0 1 847 dX11_has_1 rfl rfl inX11 (by decide) (by decide +kernel) rfl ?_
  refine w_iload_n C 1 dX11_has_4 rfl ?_
  refine w_iald C 1 dX11_has_5 rfl (by omega) ?_
  have b_1 := d.2 p
  refine w_iload_n C 2 dX11_has_6 rfl ?_
  refine w_icmp_ne C 52 dX11_has_7 rfl (by omega) (fun c_2 => ?_) (fun c_2 => ?_)
  · refine w_iconst C dX11_has_52 ?_
    exact w_reti hret dX11_has_53 rfl rfl rfl rfl ⟨congrArg (fun z => some (Value.int (iI z))) (by unfold hasB; first | exact (bI_t (by omega)).symm | exact (bI_f (by omega)).symm), rfl⟩
  · refine w_aload_n C 0 dX11_has_10 rfl ?_
    refine w_get C 0 1 847 dX11_has_11 rfl rfl inX11 (by decide) (by decide +kernel) rfl ?_
    refine w_iload_n C 1 dX11_has_14 rfl ?_
    refine w_iconst C dX11_has_15 ?_
    refine w_iadd C dX11_has_16 ?_
    refine w_iald C 1 dX11_has_17 rfl (by omega) ?_
    have b_3 := d.2 (p + 1)
    refine w_iload_n C 3 dX11_has_18 rfl ?_
    refine w_icmp_ne C 52 dX11_has_19 rfl (by omega) (fun c_4 => ?_) (fun c_4 => ?_)
    · refine w_iconst C dX11_has_52 ?_
      exact w_reti hret dX11_has_53 rfl rfl rfl rfl ⟨congrArg (fun z => some (Value.int (iI z))) (by unfold hasB; first | exact (bI_t (by omega)).symm | exact (bI_f (by omega)).symm), rfl⟩
    · refine w_aload_n C 0 dX11_has_22 rfl ?_
      refine w_get C 0 1 847 dX11_has_23 rfl rfl inX11 (by decide) (by decide +kernel) rfl ?_
      refine w_iload_n C 1 dX11_has_26 rfl ?_
      refine w_iconst C dX11_has_27 ?_
      refine w_iadd C dX11_has_28 ?_
      refine w_iald C 1 dX11_has_29 rfl (by omega) ?_
      have b_5 := d.2 (p + 2)
      refine w_iload C 4 dX11_has_30 rfl ?_
      refine w_icmp_ne C 52 dX11_has_32 rfl (by omega) (fun c_6 => ?_) (fun c_6 => ?_)
      · refine w_iconst C dX11_has_52 ?_
        exact w_reti hret dX11_has_53 rfl rfl rfl rfl ⟨congrArg (fun z => some (Value.int (iI z))) (by unfold hasB; first | exact (bI_t (by omega)).symm | exact (bI_f (by omega)).symm), rfl⟩
      · refine w_aload_n C 0 dX11_has_35 rfl ?_
        refine w_get C 0 1 847 dX11_has_36 rfl rfl inX11 (by decide) (by decide +kernel) rfl ?_
        refine w_iload_n C 1 dX11_has_39 rfl ?_
        refine w_iconst C dX11_has_40 ?_
        refine w_iadd C dX11_has_41 ?_
        refine w_iald C 1 dX11_has_42 rfl (by omega) ?_
        have b_7 := d.2 (p + 3)
        refine w_iload C 5 dX11_has_43 rfl ?_
        refine w_icmp_ne C 52 dX11_has_45 rfl (by omega) (fun c_8 => ?_) (fun c_8 => ?_)
        · refine w_iconst C dX11_has_52 ?_
          exact w_reti hret dX11_has_53 rfl rfl rfl rfl ⟨congrArg (fun z => some (Value.int (iI z))) (by unfold hasB; first | exact (bI_t (by omega)).symm | exact (bI_f (by omega)).symm), rfl⟩
        · refine w_iconst C dX11_has_48 ?_
          refine w_goto C 53 dX11_has_49 rfl ?_
          exact w_reti hret dX11_has_53 rfl rfl rfl rfl ⟨congrArg (fun z => some (Value.int (iI z))) (by unfold hasB; first | exact (bI_t (by omega)).symm | exact (bI_f (by omega)).symm), rfl⟩

set_option maxHeartbeats 4000000 in
set_option maxRecDepth 100000 in
theorem ct_X11_load (G : GX) (l : Launch) (h : Nat) (a : Nat) (b : Nat) (tk : Nat) (re : Nat) (qu : Nat) (nm : Nat) (hd : Int) (tl : Int) (nl : Int) (dk : Im) (d : Im) : Ct G l yX11_load cX11_load 2 none rmX11_load [.ref h] [(h, .inr (9, [.ref a, .ref b, .ref tk, .ref re, .ref qu, .int (iI hd), .int (iI tl), .ref nm, .int (iI nl)])), (a, .inl (gI G, 4096, .inl (arI dk))), (b, .inl (gI G, 4096, .inl (arI d)))] none [(h, .inr (9, [.ref a, .ref b, .ref tk, .ref re, .ref qu, .int (iI hd), .int (iI tl), .ref nm, .int (iI nl)])), (a, .inl (gI G, 4096, .inl (arI dk))), (b, .inl (gI G, 4096, .inl (arI dk)))] := by
  refine Ct.of (by decide) (Nat.le_of_ble_eq_true rfl) ?_
  intro k C hl hret
  subst hl
  refine w_lv (lv2 := [(0, .ref h)]) [0] rfl ?_
  refine w_iconst C dX11_load_0 ?_
  refine w_istore_n (lv2 := [(0, .ref h), (1, .int (iI 0))]) C dX11_load_1 (by decide) rfl ?_
  have L_2 : ∀ (nn_2 : Nat) (i : Int) (e : Im), (0 ≤ i ∧ i ≤ 4096) → (∀ j : Int, 0 ≤ j → j < i → e.1 j = dk.1 j) → (4096 - i).toNat = nn_2 → Wd G k 2 0 0 [(h, .inr (9, [.ref a, .ref b, .ref tk, .ref re, .ref qu, .int (iI hd), .int (iI tl), .ref nm, .int (iI nl)])), (a, .inl (gI G, 4096, .inl (arI dk))), (b, .inl (gI G, 4096, .inl (arI e)))] 2 [(0, .ref h), (1, .int (iI i))] [] := by
    intro nn_2
    induction nn_2 using Nat.strongRecOn with
    | ind nn_2 ih_2 =>
      intro i e h1 h2 hm_2
      refine w_iload_n C 1 dX11_load_2 rfl ?_
      refine w_sipush C dX11_load_3 (by decide) ?_
      refine w_icmp_ge C 27 dX11_load_6 rfl (by omega) (fun c_1 => ?_) (fun c_1 => ?_)
      · refine w_arr (e := dk) (ws2 := [(h, .inr (9, [.ref a, .ref b, .ref tk, .ref re, .ref qu, .int (iI hd), .int (iI tl), .ref nm, .int (iI nl)])), (a, .inl (gI G, 4096, .inl (arI dk))), (b, .inl (gI G, 4096, .inl (arI dk)))]) 2 rfl (fun j a b => h2 j a (by omega)) rfl ?_
        exact w_retv hret dX11_load_27 rfl rfl rfl ⟨rfl, rfl⟩
      · refine w_aload_n C 0 dX11_load_9 rfl ?_
        refine w_get C 0 1 847 dX11_load_10 rfl rfl inX11 (by decide) (by decide +kernel) rfl ?_
        refine w_iload_n C 1 dX11_load_13 rfl ?_
        refine w_aload_n C 0 dX11_load_14 rfl ?_
        refine w_get C 0 0 846 dX11_load_15 rfl rfl inX11 (by decide) (by decide +kernel) rfl ?_
        refine w_iload_n C 1 dX11_load_18 rfl ?_
        refine w_iald C 1 dX11_load_19 rfl (by omega) ?_
        have b_2 := dk.2 i
        refine w_iast (ws2 := [(h, .inr (9, [.ref a, .ref b, .ref tk, .ref re, .ref qu, .int (iI hd), .int (iI tl), .ref nm, .int (iI nl)])), (a, .inl (gI G, 4096, .inl (arI dk))), (b, .inl (gI G, 4096, .inl (arI (up e i (dk.1 i)))))]) C 2 dX11_load_20 rfl (by omega) (by omega) rfl ?_
        refine w_iinc (lv2 := [(0, .ref h), (1, .int (iI (i + 1)))]) C 1 dX11_load_21 rfl (by decide) rfl ?_
        refine w_goto C 2 dX11_load_24 rfl ?_
        exact ih_2 _ (by omega) (i + 1) (up e i (dk.1 i)) (by omega) (fun j a b => if z : j = i then (by rw [up_at, if_pos z, z, Int.emod_eq_of_lt (dk.2 i).1 (dk.2 i).2]) else (by rw [up_at, if_neg z]; exact h2 j a (by omega))) rfl
  exact L_2 _ 0 d (by omega) (fun j a b => by omega) rfl

set_option maxHeartbeats 4000000 in
set_option maxRecDepth 100000 in
theorem ct_X11_store (G : GX) (l : Launch) (h : Nat) (a : Nat) (b : Nat) (tk : Nat) (re : Nat) (qu : Nat) (nm : Nat) (hd : Int) (tl : Int) (nl : Int) (dk : Im) (d : Im) : Ct G l yX11_store cX11_store 2 none rmX11_store [.ref h] [(h, .inr (9, [.ref a, .ref b, .ref tk, .ref re, .ref qu, .int (iI hd), .int (iI tl), .ref nm, .int (iI nl)])), (a, .inl (gI G, 4096, .inl (arI dk))), (b, .inl (gI G, 4096, .inl (arI d)))] none [(h, .inr (9, [.ref a, .ref b, .ref tk, .ref re, .ref qu, .int (iI hd), .int (iI tl), .ref nm, .int (iI nl)])), (a, .inl (gI G, 4096, .inl (arI d))), (b, .inl (gI G, 4096, .inl (arI d)))] := by
  refine Ct.of (by decide) (Nat.le_of_ble_eq_true rfl) ?_
  intro k C hl hret
  subst hl
  refine w_lv (lv2 := [(0, .ref h)]) [0] rfl ?_
  refine w_iconst C dX11_store_0 ?_
  refine w_istore_n (lv2 := [(0, .ref h), (1, .int (iI 0))]) C dX11_store_1 (by decide) rfl ?_
  have L_2 : ∀ (nn_2 : Nat) (i : Int) (e : Im), (0 ≤ i ∧ i ≤ 4096) → (∀ j : Int, 0 ≤ j → j < i → e.1 j = d.1 j) → (4096 - i).toNat = nn_2 → Wd G k 2 0 0 [(h, .inr (9, [.ref a, .ref b, .ref tk, .ref re, .ref qu, .int (iI hd), .int (iI tl), .ref nm, .int (iI nl)])), (a, .inl (gI G, 4096, .inl (arI e))), (b, .inl (gI G, 4096, .inl (arI d)))] 2 [(0, .ref h), (1, .int (iI i))] [] := by
    intro nn_2
    induction nn_2 using Nat.strongRecOn with
    | ind nn_2 ih_2 =>
      intro i e h1 h2 hm_2
      refine w_iload_n C 1 dX11_store_2 rfl ?_
      refine w_sipush C dX11_store_3 (by decide) ?_
      refine w_icmp_ge C 27 dX11_store_6 rfl (by omega) (fun c_1 => ?_) (fun c_1 => ?_)
      · refine w_arr (e := d) (ws2 := [(h, .inr (9, [.ref a, .ref b, .ref tk, .ref re, .ref qu, .int (iI hd), .int (iI tl), .ref nm, .int (iI nl)])), (a, .inl (gI G, 4096, .inl (arI d))), (b, .inl (gI G, 4096, .inl (arI d)))]) 1 rfl (fun j a b => h2 j a (by omega)) rfl ?_
        exact w_retv hret dX11_store_27 rfl rfl rfl ⟨rfl, rfl⟩
      · refine w_aload_n C 0 dX11_store_9 rfl ?_
        refine w_get C 0 0 846 dX11_store_10 rfl rfl inX11 (by decide) (by decide +kernel) rfl ?_
        refine w_iload_n C 1 dX11_store_13 rfl ?_
        refine w_aload_n C 0 dX11_store_14 rfl ?_
        refine w_get C 0 1 847 dX11_store_15 rfl rfl inX11 (by decide) (by decide +kernel) rfl ?_
        refine w_iload_n C 1 dX11_store_18 rfl ?_
        refine w_iald C 2 dX11_store_19 rfl (by omega) ?_
        have b_2 := d.2 i
        refine w_iast (ws2 := [(h, .inr (9, [.ref a, .ref b, .ref tk, .ref re, .ref qu, .int (iI hd), .int (iI tl), .ref nm, .int (iI nl)])), (a, .inl (gI G, 4096, .inl (arI (up e i (d.1 i))))), (b, .inl (gI G, 4096, .inl (arI d)))]) C 1 dX11_store_20 rfl (by omega) (by omega) rfl ?_
        refine w_iinc (lv2 := [(0, .ref h), (1, .int (iI (i + 1)))]) C 1 dX11_store_21 rfl (by decide) rfl ?_
        refine w_goto C 2 dX11_store_24 rfl ?_
        exact ih_2 _ (by omega) (i + 1) (up e i (d.1 i)) (by omega) (fun j a b => if z : j = i then (by rw [up_at, if_pos z, z, Int.emod_eq_of_lt (d.2 i).1 (d.2 i).2]) else (by rw [up_at, if_neg z]; exact h2 j a (by omega))) rfl
  exact L_2 _ 0 dk (by omega) (fun j a b => by omega) rfl

theorem gX11_30 : cwv RX11 30 yX11_has cX11_has 6 (some .boolean) 5 916 918 28 74 919 := by decide +kernel
theorem gX11_34 : cwv RX11 34 yX11_two cX11_two 2 (some .int) 1 920 922 29 74 923 := by decide +kernel
theorem gX11_38 : cwv RX11 38 yX11_sum cX11_sum 5 (some .int) 2 891 893 23 74 894 := by decide +kernel
set_option maxHeartbeats 4000000 in
set_option maxRecDepth 100000 in
theorem ct_X11_isSuper (G : GX) (l : Launch) (h : Nat) (a : Nat) (b : Nat) (tk : Nat) (re : Nat) (qu : Nat) (nm : Nat) (hd : Int) (tl : Int) (nl : Int) (d : Im) (p : Int) (hp : p = 0 ∨ p = 4032) : Ct G l yX11_isSuper cX11_isSuper 2 (some .boolean) rmX11_isSuper [.ref h, .int (iI p)] [(h, .inr (9, [.ref a, .ref b, .ref tk, .ref re, .ref qu, .int (iI hd), .int (iI tl), .ref nm, .int (iI nl)])), (b, .inl (gI G, 4096, .inl (arI d)))] (some (.int (iI (bI (su_ok d (p / 64)))))) [(h, .inr (9, [.ref a, .ref b, .ref tk, .ref re, .ref qu, .int (iI hd), .int (iI tl), .ref nm, .int (iI nl)])), (b, .inl (gI G, 4096, .inl (arI d)))] := by
  refine Ct.of (by decide) (Nat.le_of_ble_eq_true rfl) ?_
  intro k C hl hret
  subst hl
  refine w_lv (lv2 := [(0, .ref h), (1, .int (iI p))]) [0, 1] rfl ?_
  refine w_aload_n C 0 dX11_isSuper_0 rfl ?_
  refine w_iload_n C 1 dX11_isSuper_1 rfl ?_
  refine w_bipush C dX11_isSuper_2 (by decide) ?_
  refine w_bipush C dX11_isSuper_4 (by decide) ?_
  refine w_bipush C dX11_isSuper_6 (by decide) ?_
  refine w_bipush C dX11_isSuper_8 (by decide) ?_
  refine w_callV (As := [.int (iI p), .int (iI 83), .int (iI 70), .int (iI 83), .int (iI 75)]) (rest := []) (w2 := [(h, .inr (9, [.ref a, .ref b, .ref tk, .ref re, .ref qu, .int (iI hd), .int (iI tl), .ref nm, .int (iI nl)])), (b, .inl (gI G, 4096, .inl (arI d)))]) (st2 := [.int (iI (bI (hasB d p 83 70 83 75)))]) C (ct_X11_has G (kl k) h a b tk re qu nm hd tl nl d p 83 70 83 75 (by omega) (by decide)) gX11_30 dX11_isSuper_10 0 rfl rfl rfl rfl rfl (Nat.le_of_ble_eq_true rfl) (by decide) [0, 1] rfl (by decide) [h, b] rfl rfl rfl rfl ?_
  refine w_bz C 38 dX11_isSuper_13 rfl (fun c_1 => ?_) (fun c_1 => ?_)
  · refine w_iconst C dX11_isSuper_38 ?_
    exact w_reti hret dX11_isSuper_39 rfl rfl rfl rfl ⟨congrArg (fun z => some (Value.int (iI z))) (by unfold su_ok; rw [show p / 64 * 64 = p by omega, im_has0 d (by omega)]; simp [bI, c_1]), rfl⟩
  · refine w_aload_n C 0 dX11_isSuper_16 rfl ?_
    refine w_iload_n C 1 dX11_isSuper_17 rfl ?_
    refine w_bipush C dX11_isSuper_18 (by decide) ?_
    refine w_iadd C dX11_isSuper_20 ?_
    refine w_callV (As := [.int (iI (p + 62))]) (rest := []) (w2 := [(h, .inr (9, [.ref a, .ref b, .ref tk, .ref re, .ref qu, .int (iI hd), .int (iI tl), .ref nm, .int (iI nl)])), (b, .inl (gI G, 4096, .inl (arI d)))]) (st2 := [.int (iI (im_two d (p + 62)))]) C (ct_X11_two G (kl k) h a b tk re qu nm hd tl nl d (p + 62) (by omega)) gX11_34 dX11_isSuper_21 0 rfl rfl rfl rfl rfl (Nat.le_of_ble_eq_true rfl) (by decide) [0, 1] rfl (by decide) [h, b] rfl rfl rfl rfl ?_
    have f_2 := im_two_rg d (p + 62)
    refine w_aload_n C 0 dX11_isSuper_24 rfl ?_
    refine w_iload_n C 1 dX11_isSuper_25 rfl ?_
    refine w_bipush C dX11_isSuper_26 (by decide) ?_
    refine w_callV (As := [.int (iI p), .int (iI 62)]) (rest := [.int (iI (im_two d (p + 62)))]) (w2 := [(h, .inr (9, [.ref a, .ref b, .ref tk, .ref re, .ref qu, .int (iI hd), .int (iI tl), .ref nm, .int (iI nl)])), (b, .inl (gI G, 4096, .inl (arI d)))]) (st2 := [.int (iI (im_sum d p 62)), .int (iI (im_two d (p + 62)))]) C (ct_X11_sum G (kl k) h a b tk re qu nm hd tl nl d p 62 (by unfold rgP; omega)) gX11_38 dX11_isSuper_28 0 rfl rfl rfl rfl rfl (Nat.le_of_ble_eq_true rfl) (by decide) [0, 1] rfl (by decide) [h, b] rfl rfl rfl rfl ?_
    have f_3 := im_sum_rg d p 62
    refine w_icmp_ne C 38 dX11_isSuper_31 rfl (by omega) (fun c_4 => ?_) (fun c_4 => ?_)
    · refine w_iconst C dX11_isSuper_38 ?_
      exact w_reti hret dX11_isSuper_39 rfl rfl rfl rfl ⟨congrArg (fun z => some (Value.int (iI z))) (by unfold su_ok; rw [show p / 64 * 64 = p by omega, im_has0 d (by omega)]; simp [bI, c_1, c_4]), rfl⟩
    · refine w_iconst C dX11_isSuper_34 ?_
      refine w_goto C 39 dX11_isSuper_35 rfl ?_
      exact w_reti hret dX11_isSuper_39 rfl rfl rfl rfl ⟨congrArg (fun z => some (Value.int (iI z))) (by unfold su_ok; rw [show p / 64 * 64 = p by omega, im_has0 d (by omega)]; simp [bI, c_1, c_4]), rfl⟩

set_option maxHeartbeats 4000000 in
set_option maxRecDepth 100000 in
theorem ct_X11_base (G : GX) (l : Launch) (i : Int) : Ct G l yX11_base cX11_base 1 (some .int) rmX11_base [.int (iI i)] [] (some (.int (iI (512 + 16 * i)))) [] := by
  refine Ct.of (by decide) (Nat.le_of_ble_eq_true rfl) ?_
  intro k C hl hret
  subst hl
  refine w_lv (lv2 := [(0, .int (iI i))]) [0] rfl ?_
  refine w_sipush C dX11_base_0 (by decide) ?_
  refine w_bipush C dX11_base_3 (by decide) ?_
  refine w_iload_n C 0 dX11_base_5 rfl ?_
  refine w_imul C dX11_base_6 ?_
  refine w_iadd C dX11_base_7 ?_
  exact w_reti hret dX11_base_8 rfl rfl rfl rfl ⟨congrArg (fun z => some (Value.int (iI z))) (by omega), rfl⟩

theorem gX11_42 : cws RX11 42 yX11_base cX11_base 1 (some .int) 1 936 937 74 938 := by decide +kernel
set_option maxHeartbeats 4000000 in
set_option maxRecDepth 100000 in
theorem ct_X11_kind (G : GX) (l : Launch) (h : Nat) (a : Nat) (b : Nat) (tk : Nat) (re : Nat) (qu : Nat) (nm : Nat) (hd : Int) (tl : Int) (nl : Int) (d : Im) (i : Int) (hi : 0 ≤ i ∧ i < 32) : Ct G l yX11_kind cX11_kind 2 (some .int) rmX11_kind [.ref h, .int (iI i)] [(h, .inr (9, [.ref a, .ref b, .ref tk, .ref re, .ref qu, .int (iI hd), .int (iI tl), .ref nm, .int (iI nl)])), (b, .inl (gI G, 4096, .inl (arI d)))] (some (.int (iI (kd d i)))) [(h, .inr (9, [.ref a, .ref b, .ref tk, .ref re, .ref qu, .int (iI hd), .int (iI tl), .ref nm, .int (iI nl)])), (b, .inl (gI G, 4096, .inl (arI d)))] := by
  refine Ct.of (by decide) (Nat.le_of_ble_eq_true rfl) ?_
  intro k C hl hret
  subst hl
  refine w_lv (lv2 := [(0, .ref h), (1, .int (iI i))]) [0, 1] rfl ?_
  refine w_aload_n C 0 dX11_kind_0 rfl ?_
  refine w_get C 0 1 847 dX11_kind_1 rfl rfl inX11 (by decide) (by decide +kernel) rfl ?_
  refine w_iload_n C 1 dX11_kind_4 rfl ?_
  refine w_callS (As := [.int (iI i)]) (rest := [.ref b]) (w2 := [(h, .inr (9, [.ref a, .ref b, .ref tk, .ref re, .ref qu, .int (iI hd), .int (iI tl), .ref nm, .int (iI nl)])), (b, .inl (gI G, 4096, .inl (arI d)))]) (st2 := [.int (iI (512 + 16 * i)), .ref b]) C (ct_X11_base G (kl k) i) gX11_42 dX11_kind_5 rfl rfl (Nat.le_of_ble_eq_true rfl) (by decide) [] rfl (by decide) [] rfl rfl rfl rfl ?_
  refine w_iald C 1 dX11_kind_8 rfl (by omega) ?_
  have b_1 := d.2 (512 + 16 * i)
  exact w_reti hret dX11_kind_9 rfl rfl rfl rfl ⟨congrArg (fun z => some (Value.int (iI z))) (by unfold kd; rw [if_pos (show inR i from hi), show 512 + i * 16 = 512 + 16 * i by omega]), rfl⟩

set_option maxHeartbeats 4000000 in
set_option maxRecDepth 100000 in
theorem ct_X11_size (G : GX) (l : Launch) (h : Nat) (a : Nat) (b : Nat) (tk : Nat) (re : Nat) (qu : Nat) (nm : Nat) (hd : Int) (tl : Int) (nl : Int) (d : Im) (i : Int) (hi : 0 ≤ i ∧ i < 32) : Ct G l yX11_size cX11_size 2 (some .int) rmX11_size [.ref h, .int (iI i)] [(h, .inr (9, [.ref a, .ref b, .ref tk, .ref re, .ref qu, .int (iI hd), .int (iI tl), .ref nm, .int (iI nl)])), (b, .inl (gI G, 4096, .inl (arI d)))] (some (.int (iI (sz d i)))) [(h, .inr (9, [.ref a, .ref b, .ref tk, .ref re, .ref qu, .int (iI hd), .int (iI tl), .ref nm, .int (iI nl)])), (b, .inl (gI G, 4096, .inl (arI d)))] := by
  refine Ct.of (by decide) (Nat.le_of_ble_eq_true rfl) ?_
  intro k C hl hret
  subst hl
  refine w_lv (lv2 := [(0, .ref h), (1, .int (iI i))]) [0, 1] rfl ?_
  refine w_aload_n C 0 dX11_size_0 rfl ?_
  refine w_iload_n C 1 dX11_size_1 rfl ?_
  refine w_callS (As := [.int (iI i)]) (rest := [.ref h]) (w2 := [(h, .inr (9, [.ref a, .ref b, .ref tk, .ref re, .ref qu, .int (iI hd), .int (iI tl), .ref nm, .int (iI nl)])), (b, .inl (gI G, 4096, .inl (arI d)))]) (st2 := [.int (iI (512 + 16 * i)), .ref h]) C (ct_X11_base G (kl k) i) gX11_42 dX11_size_2 rfl rfl (Nat.le_of_ble_eq_true rfl) (by decide) [] rfl (by decide) [] rfl rfl rfl rfl ?_
  refine w_iconst C dX11_size_5 ?_
  refine w_iadd C dX11_size_6 ?_
  refine w_callV (As := [.int (iI ((512 + 16 * i) + 2))]) (rest := []) (w2 := [(h, .inr (9, [.ref a, .ref b, .ref tk, .ref re, .ref qu, .int (iI hd), .int (iI tl), .ref nm, .int (iI nl)])), (b, .inl (gI G, 4096, .inl (arI d)))]) (st2 := [.int (iI (im_two d ((512 + 16 * i) + 2)))]) C (ct_X11_two G (kl k) h a b tk re qu nm hd tl nl d ((512 + 16 * i) + 2) (by omega)) gX11_34 dX11_size_7 0 rfl rfl rfl rfl rfl (Nat.le_of_ble_eq_true rfl) (by decide) [0, 1] rfl (by decide) [h, b] rfl rfl rfl rfl ?_
  have f_1 := im_two_rg d ((512 + 16 * i) + 2)
  exact w_reti hret dX11_size_10 rfl rfl rfl rfl ⟨congrArg (fun z => some (Value.int (iI z))) (by unfold sz; rw [if_pos (show inR i from hi), show 512 + i * 16 + 2 = 512 + 16 * i + 2 by omega]; exact im_two_in d (by omega)), rfl⟩

theorem gX11_45 : cwv RX11 45 yX11_size cX11_size 2 (some .int) 1 943 945 34 74 946 := by decide +kernel
set_option maxHeartbeats 4000000 in
set_option maxRecDepth 100000 in
theorem ct_X11_blocks (G : GX) (l : Launch) (h : Nat) (a : Nat) (b : Nat) (tk : Nat) (re : Nat) (qu : Nat) (nm : Nat) (hd : Int) (tl : Int) (nl : Int) (d : Im) (i : Int) (hi : 0 ≤ i ∧ i < 32) : Ct G l yX11_blocks cX11_blocks 2 (some .int) rmX11_blocks [.ref h, .int (iI i)] [(h, .inr (9, [.ref a, .ref b, .ref tk, .ref re, .ref qu, .int (iI hd), .int (iI tl), .ref nm, .int (iI nl)])), (b, .inl (gI G, 4096, .inl (arI d)))] (some (.int (iI (bc d i)))) [(h, .inr (9, [.ref a, .ref b, .ref tk, .ref re, .ref qu, .int (iI hd), .int (iI tl), .ref nm, .int (iI nl)])), (b, .inl (gI G, 4096, .inl (arI d)))] := by
  refine Ct.of (by decide) (Nat.le_of_ble_eq_true rfl) ?_
  intro k C hl hret
  subst hl
  refine w_lv (lv2 := [(0, .ref h), (1, .int (iI i))]) [0, 1] rfl ?_
  refine w_aload_n C 0 dX11_blocks_0 rfl ?_
  refine w_iload_n C 1 dX11_blocks_1 rfl ?_
  refine w_callV (As := [.int (iI i)]) (rest := []) (w2 := [(h, .inr (9, [.ref a, .ref b, .ref tk, .ref re, .ref qu, .int (iI hd), .int (iI tl), .ref nm, .int (iI nl)])), (b, .inl (gI G, 4096, .inl (arI d)))]) (st2 := [.int (iI (sz d i))]) C (ct_X11_size G (kl k) h a b tk re qu nm hd tl nl d i (by omega)) gX11_45 dX11_blocks_2 0 rfl rfl rfl rfl rfl (Nat.le_of_ble_eq_true rfl) (by decide) [0, 1] rfl (by decide) [h, b] rfl rfl rfl rfl ?_
  have f_1 := sz_rg d i
  refine w_bipush C dX11_blocks_5 (by decide) ?_
  refine w_iadd C dX11_blocks_7 ?_
  refine w_bipush C dX11_blocks_8 (by decide) ?_
  refine w_idiv C dX11_blocks_10 (by omega) ?_
  exact w_reti hret dX11_blocks_11 rfl rfl rfl rfl ⟨congrArg (fun z => some (Value.int (iI z))) rfl, rfl⟩

set_option maxHeartbeats 4000000 in
set_option maxRecDepth 100000 in
theorem ct_X11_places (G : GX) (l : Launch) (h : Nat) (a : Nat) (b : Nat) (tk : Nat) (re : Nat) (qu : Nat) (nm : Nat) (hd : Int) (tl : Int) (nl : Int) (d : Im) (i : Int) (hi : 0 ≤ i ∧ i < 32) : Ct G l yX11_places cX11_places 2 (some .int) rmX11_places [.ref h, .int (iI i)] [(h, .inr (9, [.ref a, .ref b, .ref tk, .ref re, .ref qu, .int (iI hd), .int (iI tl), .ref nm, .int (iI nl)])), (b, .inl (gI G, 4096, .inl (arI d)))] (some (.int (iI (sz d i / 16)))) [(h, .inr (9, [.ref a, .ref b, .ref tk, .ref re, .ref qu, .int (iI hd), .int (iI tl), .ref nm, .int (iI nl)])), (b, .inl (gI G, 4096, .inl (arI d)))] := by
  refine Ct.of (by decide) (Nat.le_of_ble_eq_true rfl) ?_
  intro k C hl hret
  subst hl
  refine w_lv (lv2 := [(0, .ref h), (1, .int (iI i))]) [0, 1] rfl ?_
  refine w_aload_n C 0 dX11_places_0 rfl ?_
  refine w_iload_n C 1 dX11_places_1 rfl ?_
  refine w_callV (As := [.int (iI i)]) (rest := []) (w2 := [(h, .inr (9, [.ref a, .ref b, .ref tk, .ref re, .ref qu, .int (iI hd), .int (iI tl), .ref nm, .int (iI nl)])), (b, .inl (gI G, 4096, .inl (arI d)))]) (st2 := [.int (iI (sz d i))]) C (ct_X11_size G (kl k) h a b tk re qu nm hd tl nl d i (by omega)) gX11_45 dX11_places_2 0 rfl rfl rfl rfl rfl (Nat.le_of_ble_eq_true rfl) (by decide) [0, 1] rfl (by decide) [h, b] rfl rfl rfl rfl ?_
  have f_1 := sz_rg d i
  refine w_bipush C dX11_places_5 (by decide) ?_
  refine w_idiv C dX11_places_7 (by omega) ?_
  exact w_reti hret dX11_places_8 rfl rfl rfl rfl ⟨congrArg (fun z => some (Value.int (iI z))) (by omega), rfl⟩

set_option maxHeartbeats 4000000 in
set_option maxRecDepth 100000 in
theorem ct_X11_block (G : GX) (l : Launch) (h : Nat) (a : Nat) (b : Nat) (tk : Nat) (re : Nat) (qu : Nat) (nm : Nat) (hd : Int) (tl : Int) (nl : Int) (d : Im) (i : Int) (x : Int) (hi : 0 ≤ i ∧ i < 32) (hx : 0 ≤ x ∧ x < 64 ∧ (x < 5 ∨ dat (d.1 (512 + i * 16 + 9)))) : Ct G l yX11_block cX11_block 3 (some .int) rmX11_block [.ref h, .int (iI i), .int (iI x)] [(h, .inr (9, [.ref a, .ref b, .ref tk, .ref re, .ref qu, .int (iI hd), .int (iI tl), .ref nm, .int (iI nl)])), (b, .inl (gI G, 4096, .inl (arI d)))] (some (.int (iI (bk d i x)))) [(h, .inr (9, [.ref a, .ref b, .ref tk, .ref re, .ref qu, .int (iI hd), .int (iI tl), .ref nm, .int (iI nl)])), (b, .inl (gI G, 4096, .inl (arI d)))] := by
  refine Ct.of (by decide) (Nat.le_of_ble_eq_true rfl) ?_
  intro k C hl hret
  subst hl
  refine w_lv (lv2 := [(0, .ref h), (1, .int (iI i)), (2, .int (iI x))]) [0, 1, 2] rfl ?_
  have e9 : 512 + 16 * i + 9 = 512 + i * 16 + 9 := by omega
  refine w_iload_n C 2 dX11_block_0 rfl ?_
  refine w_iconst C dX11_block_1 ?_
  refine w_icmp_ge C 21 dX11_block_2 rfl (by omega) (fun c_1 => ?_) (fun c_1 => ?_)
  · refine w_aload_n C 0 dX11_block_21 rfl ?_
    refine w_get C 0 1 847 dX11_block_22 rfl rfl inX11 (by decide) (by decide +kernel) rfl ?_
    refine w_bipush C dX11_block_25 (by decide) ?_
    refine w_aload_n C 0 dX11_block_27 rfl ?_
    refine w_get C 0 1 847 dX11_block_28 rfl rfl inX11 (by decide) (by decide +kernel) rfl ?_
    refine w_iload_n C 1 dX11_block_31 rfl ?_
    refine w_callS (As := [.int (iI i)]) (rest := [.ref b, .int (iI 64), .ref b]) (w2 := [(h, .inr (9, [.ref a, .ref b, .ref tk, .ref re, .ref qu, .int (iI hd), .int (iI tl), .ref nm, .int (iI nl)])), (b, .inl (gI G, 4096, .inl (arI d)))]) (st2 := [.int (iI (512 + 16 * i)), .ref b, .int (iI 64), .ref b]) C (ct_X11_base G (kl k) i) gX11_42 dX11_block_32 rfl rfl (Nat.le_of_ble_eq_true rfl) (by decide) [] rfl (by decide) [] rfl rfl rfl rfl ?_
    refine w_bipush C dX11_block_35 (by decide) ?_
    refine w_iadd C dX11_block_37 ?_
    refine w_iald C 1 dX11_block_38 rfl (by omega) ?_
    have b_2 := d.2 ((512 + 16 * i) + 9)
    have b9 := d.2 (512 + i * 16 + 9)
    refine w_st (st2 := [.int (iI (d.1 (512 + i * 16 + 9))), .int (iI 64), .ref b]) (by rw [e9]) ?_
    refine w_imul C dX11_block_39 ?_
    refine w_iload_n C 2 dX11_block_40 rfl ?_
    refine w_iadd C dX11_block_41 ?_
    refine w_iconst C dX11_block_42 ?_
    refine w_isub C dX11_block_43 ?_
    refine w_iald C 1 dX11_block_44 rfl (by omega) ?_
    have b_3 := d.2 (((64 * (d.1 (512 + i * 16 + 9))) + x) - 5)
    exact w_reti hret dX11_block_45 rfl rfl rfl rfl ⟨congrArg (fun z => some (Value.int (iI z))) (by unfold bk; first | (rw [if_pos (by omega), show 512 + i * 16 + 4 + x = 512 + 16 * i + 4 + x by omega]; done) | rw [if_neg (by omega), if_pos (by omega), show d.1 (512 + i * 16 + 9) * 64 + x - 5 = 64 * d.1 (512 + i * 16 + 9) + x - 5 by omega]), rfl⟩
  · refine w_aload_n C 0 dX11_block_5 rfl ?_
    refine w_get C 0 1 847 dX11_block_6 rfl rfl inX11 (by decide) (by decide +kernel) rfl ?_
    refine w_iload_n C 1 dX11_block_9 rfl ?_
    refine w_callS (As := [.int (iI i)]) (rest := [.ref b]) (w2 := [(h, .inr (9, [.ref a, .ref b, .ref tk, .ref re, .ref qu, .int (iI hd), .int (iI tl), .ref nm, .int (iI nl)])), (b, .inl (gI G, 4096, .inl (arI d)))]) (st2 := [.int (iI (512 + 16 * i)), .ref b]) C (ct_X11_base G (kl k) i) gX11_42 dX11_block_10 rfl rfl (Nat.le_of_ble_eq_true rfl) (by decide) [] rfl (by decide) [] rfl rfl rfl rfl ?_
    refine w_iconst C dX11_block_13 ?_
    refine w_iadd C dX11_block_14 ?_
    refine w_iload_n C 2 dX11_block_15 rfl ?_
    refine w_iadd C dX11_block_16 ?_
    refine w_iald C 1 dX11_block_17 rfl (by omega) ?_
    have b_4 := d.2 (((512 + 16 * i) + 4) + x)
    refine w_goto C 45 dX11_block_18 rfl ?_
    exact w_reti hret dX11_block_45 rfl rfl rfl rfl ⟨congrArg (fun z => some (Value.int (iI z))) (by unfold bk; first | (rw [if_pos (by omega), show 512 + i * 16 + 4 + x = 512 + 16 * i + 4 + x by omega]; done) | rw [if_neg (by omega), if_pos (by omega), show d.1 (512 + i * 16 + 9) * 64 + x - 5 = 64 * d.1 (512 + i * 16 + 9) + x - 5 by omega]), rfl⟩

theorem gX11_59 : cwv RX11 59 yX11_block cX11_block 3 (some .int) 2 955 957 37 74 958 := by decide +kernel
set_option maxHeartbeats 4000000 in
set_option maxRecDepth 100000 in
theorem ct_X11_entry (G : GX) (l : Launch) (h : Nat) (a : Nat) (b : Nat) (tk : Nat) (re : Nat) (qu : Nat) (nm : Nat) (hd : Int) (tl : Int) (nl : Int) (d : Im) (i : Int) (p : Int) (hi : 0 ≤ i ∧ i < 32) (hp : 0 ≤ p ∧ p < 1000) (he : ep d i p ≠ -1) : Ct G l yX11_entry cX11_entry 3 (some .int) rmX11_entry [.ref h, .int (iI i), .int (iI p)] [(h, .inr (9, [.ref a, .ref b, .ref tk, .ref re, .ref qu, .int (iI hd), .int (iI tl), .ref nm, .int (iI nl)])), (b, .inl (gI G, 4096, .inl (arI d)))] (some (.int (iI (ep d i p)))) [(h, .inr (9, [.ref a, .ref b, .ref tk, .ref re, .ref qu, .int (iI hd), .int (iI tl), .ref nm, .int (iI nl)])), (b, .inl (gI G, 4096, .inl (arI d)))] := by
  refine Ct.of (by decide) (Nat.le_of_ble_eq_true rfl) ?_
  intro k C hl hret
  subst hl
  refine w_lv (lv2 := [(0, .ref h), (1, .int (iI i)), (2, .int (iI p))]) [0, 1, 2] rfl ?_
  have hz := ep_in d hi hp.1 he
  refine w_bipush C dX11_entry_0 (by decide) ?_
  refine w_aload_n C 0 dX11_entry_2 rfl ?_
  refine w_iload_n C 1 dX11_entry_3 rfl ?_
  refine w_iload_n C 2 dX11_entry_4 rfl ?_
  refine w_iconst C dX11_entry_5 ?_
  refine w_idiv C dX11_entry_6 (by omega) ?_
  refine w_callV (As := [.int (iI i), .int (iI (p / 4))]) (rest := [.int (iI 64)]) (w2 := [(h, .inr (9, [.ref a, .ref b, .ref tk, .ref re, .ref qu, .int (iI hd), .int (iI tl), .ref nm, .int (iI nl)])), (b, .inl (gI G, 4096, .inl (arI d)))]) (st2 := [.int (iI (bk d i (p / 4))), .int (iI 64)]) C (ct_X11_block G (kl k) h a b tk re qu nm hd tl nl d i (p / 4) (by omega) (by omega)) gX11_59 dX11_entry_7 0 rfl rfl rfl rfl rfl (Nat.le_of_ble_eq_true rfl) (by decide) [0, 1] rfl (by decide) [h, b] rfl rfl rfl rfl ?_
  have f_1 := bk_rg d i (p / 4)
  refine w_imul C dX11_entry_10 ?_
  refine w_bipush C dX11_entry_11 (by decide) ?_
  refine w_iload_n C 2 dX11_entry_13 rfl ?_
  refine w_iconst C dX11_entry_14 ?_
  refine w_irem C dX11_entry_15 (by omega) ?_
  refine w_imul C dX11_entry_16 ?_
  refine w_iadd C dX11_entry_17 ?_
  exact w_reti hret dX11_entry_18 rfl rfl rfl rfl ⟨congrArg (fun z => some (Value.int (iI z))) (by omega), rfl⟩

set_option maxHeartbeats 4000000 in
set_option maxRecDepth 100000 in
theorem ct_X11_mark (G : GX) (l : Launch) (h : Nat) (a : Nat) (b : Nat) (tk : Nat) (re : Nat) (qu : Nat) (nm : Nat) (hd : Int) (tl : Int) (nl : Int) (t : Int → Bool) (q : Int) (hq : -2147483648 ≤ q ∧ q < 2147483648) : Ct G l yX11_mark cX11_mark 2 (some .boolean) rmX11_mark [.ref h, .int (iI q)] [(h, .inr (9, [.ref a, .ref b, .ref tk, .ref re, .ref qu, .int (iI hd), .int (iI tl), .ref nm, .int (iI nl)])), (tk, .inl (gZ G, 64, .inl (arB t)))] (some (.int (iI (bI (mkB t q))))) [(h, .inr (9, [.ref a, .ref b, .ref tk, .ref re, .ref qu, .int (iI hd), .int (iI tl), .ref nm, .int (iI nl)])), (tk, .inl (gZ G, 64, .inl (arB (mkT t q))))] := by
  refine Ct.of (by decide) (Nat.le_of_ble_eq_true rfl) ?_
  intro k C hl hret
  subst hl
  refine w_lv (lv2 := [(0, .ref h), (1, .int (iI q))]) [0, 1] rfl ?_
  refine w_iload_n C 1 dX11_mark_0 rfl ?_
  refine w_bipush C dX11_mark_1 (by decide) ?_
  refine w_icmp_lt C 21 dX11_mark_3 rfl (by omega) (fun c_1 => ?_) (fun c_1 => ?_)
  · refine w_iconst C dX11_mark_21 ?_
    exact w_reti hret dX11_mark_22 rfl rfl rfl rfl ⟨congrArg (fun z => some (Value.int (iI z))) (by unfold mkB; first | (rw [decide_eq_false (by omega)]; rfl) | (rw [c_1]; simp [bI])), (by unfold mkT mkB; rw [if_neg (by first | (rw [decide_eq_false (by omega)]; simp) | (rw [c_1]; simp))])⟩
  · refine w_iload_n C 1 dX11_mark_6 rfl ?_
    refine w_bipush C dX11_mark_7 (by decide) ?_
    refine w_icmp_ge C 21 dX11_mark_9 rfl (by omega) (fun c_2 => ?_) (fun c_2 => ?_)
    · refine w_iconst C dX11_mark_21 ?_
      exact w_reti hret dX11_mark_22 rfl rfl rfl rfl ⟨congrArg (fun z => some (Value.int (iI z))) (by unfold mkB; first | (rw [decide_eq_false (by omega)]; rfl) | (rw [c_2]; simp [bI])), (by unfold mkT mkB; rw [if_neg (by first | (rw [decide_eq_false (by omega)]; simp) | (rw [c_2]; simp))])⟩
    · refine w_aload_n C 0 dX11_mark_12 rfl ?_
      refine w_get C 0 2 848 dX11_mark_13 rfl rfl inX11 (by decide) (by decide +kernel) rfl ?_
      refine w_iload_n C 1 dX11_mark_16 rfl ?_
      refine w_zald C 1 dX11_mark_17 rfl (by omega) ?_
      refine w_bz C 23 dX11_mark_18 rfl (fun c_3 => ?_) (fun c_3 => ?_)
      · refine w_aload_n C 0 dX11_mark_23 rfl ?_
        refine w_get C 0 2 848 dX11_mark_24 rfl rfl inX11 (by decide) (by decide +kernel) rfl ?_
        refine w_iload_n C 1 dX11_mark_27 rfl ?_
        refine w_iconst C dX11_mark_28 ?_
        refine w_st (st2 := [.int (iI (bI true)), .int (iI q), .ref tk]) rfl ?_
        refine w_zast (ws2 := [(h, .inr (9, [.ref a, .ref b, .ref tk, .ref re, .ref qu, .int (iI hd), .int (iI tl), .ref nm, .int (iI nl)])), (tk, .inl (gZ G, 64, .inl (arB (upB t q true))))]) C 1 dX11_mark_29 rfl (by omega) rfl ?_
        refine w_iconst C dX11_mark_30 ?_
        exact w_reti hret dX11_mark_31 rfl rfl rfl rfl ⟨congrArg (fun z => some (Value.int (iI z))) (by unfold mkB; rw [c_3, decide_eq_true (by omega)]; rfl), (by unfold mkT mkB; rw [if_pos (by rw [c_3, decide_eq_true (by omega)]; rfl)])⟩
      · refine w_iconst C dX11_mark_21 ?_
        exact w_reti hret dX11_mark_22 rfl rfl rfl rfl ⟨congrArg (fun z => some (Value.int (iI z))) (by unfold mkB; first | (rw [decide_eq_false (by omega)]; rfl) | (rw [c_3]; simp [bI])), (by unfold mkT mkB; rw [if_neg (by first | (rw [decide_eq_false (by omega)]; simp) | (rw [c_3]; simp))])⟩
