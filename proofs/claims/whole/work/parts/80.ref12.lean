set_option maxHeartbeats 4000000 in
set_option maxRecDepth 100000 in
theorem ct_X11_grow (G : GX) (l : Launch) (h : Nat) (a : Nat) (b : Nat) (tk : Nat) (re : Nat) (qu : Nat) (nm : Nat) (hd : Int) (tl : Int) (nl : Int) (d : Im) (t : Int → Bool) (tm : Int64) (i : Int) (w : Int) (hw : WF tm d) (hi : 1 ≤ i ∧ i < 32) (hk : kd d i ≠ 0) (hm : sz d i % 64 = 0) (hv : w = 64 ∨ w = 1) : CtE G l yX11_grow cX11_grow 6 (some .boolean) rmX11_grow [.ref h, .int (iI i), .int (iI w)] [(h, .inr (9, [.ref a, .ref b, .ref tk, .ref re, .ref qu, .int (iI hd), .int (iI tl), .ref nm, .int (iI nl)])), (b, .inl (gI G, 4096, .inl (arI d))), (tk, .inl (gZ G, 64, .inl (arB t)))] (fun e_ : (Int → Bool) => True) (fun e_ : (Int → Bool) => (some (.int (iI (bI (decide (¬ abX tm d i))))))) (fun e_ : (Int → Bool) => [(h, .inr (9, [.ref a, .ref b, .ref tk, .ref re, .ref qu, .int (iI hd), .int (iI tl), .ref nm, .int (iI nl)])), (b, .inl (gI G, 4096, .inl (arI (gwD tm d i w)))), (tk, .inl (gZ G, 64, .inl (arB e_)))]) := by
  refine Ct.of (by decide) (Nat.le_of_ble_eq_true rfl) ?_
  intro k C hl hret
  subst hl
  refine w_lv (lv2 := [(0, .ref h), (1, .int (iI i)), (2, .int (iI w))]) [0, 1, 2] rfl ?_
  have hbc : bc d i = (sz d i + 63) / 64 := rfl
  have o9 := (hw.ok i hi.1 hi.2 hk).1.2.1
  have r9 := tfB_rg tm
  have r8 := tfB_rg (tset tm (tfB tm))
  refine w_aload_n C 0 dX11_grow_0 rfl ?_
  refine w_iload_n C 1 dX11_grow_1 rfl ?_
  refine w_callV (As := [.int (iI i)]) (rest := []) (w2 := [(h, .inr (9, [.ref a, .ref b, .ref tk, .ref re, .ref qu, .int (iI hd), .int (iI tl), .ref nm, .int (iI nl)])), (b, .inl (gI G, 4096, .inl (arI d))), (tk, .inl (gZ G, 64, .inl (arB t)))]) (st2 := [.int (iI (bc d i))]) C (ct_X11_blocks G (kl k) h a b tk re qu nm hd tl nl d i (by omega)) gX11_52 dX11_grow_2 0 rfl rfl rfl rfl rfl (Nat.le_of_ble_eq_true rfl) (by decide) [0, 1] rfl (by decide) [h, b] rfl rfl rfl rfl ?_
  have f_1 := bc_rg d i
  refine w_istore_n (lv2 := [(0, .ref h), (1, .int (iI i)), (2, .int (iI w)), (3, .int (iI (bc d i)))]) C dX11_grow_5 (by decide) rfl ?_
  refine w_aload_n C 0 dX11_grow_6 rfl ?_
  refine w_iconst C dX11_grow_7 ?_
  refine w_callV (As := [.int (iI 0)]) (rest := []) (w2 := [(h, .inr (9, [.ref a, .ref b, .ref tk, .ref re, .ref qu, .int (iI hd), .int (iI tl), .ref nm, .int (iI nl)])), (b, .inl (gI G, 4096, .inl (arI d))), (tk, .inl (gZ G, 64, .inl (arB (tbt tm))))]) (st2 := [.int (iI (frz tm 0))]) C (ct_X11_free G (kl k) h a b tk re qu nm hd tl nl d t tm 0 hw (by omega)) gX11_97 dX11_grow_8 0 rfl rfl rfl rfl rfl (Nat.le_of_ble_eq_true rfl) (by decide) [0, 1, 2] rfl (by decide) [h, b, tk] rfl rfl rfl rfl ?_
  have f_2 := @frz_rg tm 0 (by omega)
  refine w_st (st2 := [.int (iI (tfB tm))]) (by rw [frz_0]) ?_
  refine w_istore (lv2 := [(0, .ref h), (1, .int (iI i)), (2, .int (iI w)), (3, .int (iI (bc d i))), (4, .int (iI (tfB tm)))]) C dX11_grow_11 (by decide) rfl ?_
  refine w_iload_n C 3 dX11_grow_13 rfl ?_
  refine w_iconst C dX11_grow_14 ?_
  refine w_icmp_ne C 33 dX11_grow_15 rfl (by omega) (fun c_3 => ?_) (fun c_3 => ?_)
  · refine w_iconst C dX11_grow_33 ?_
    refine w_istore (lv2 := [(0, .ref h), (1, .int (iI i)), (2, .int (iI w)), (3, .int (iI (bc d i))), (4, .int (iI (tfB tm))), (5, .int (iI (-1)))]) C dX11_grow_34 (by decide) rfl ?_
    refine w_iload C 4 dX11_grow_36 rfl ?_
    refine w_iconst C dX11_grow_38 ?_
    refine w_icmp_eq C 66 dX11_grow_39 rfl (by omega) (fun c_4 => ?_) (fun c_4 => ?_)
    · have hX : abX tm d i := (ab_no hw).mpr (by omega)
      refine w_ws (ws2 := [(h, .inr (9, [.ref a, .ref b, .ref tk, .ref re, .ref qu, .int (iI hd), .int (iI tl), .ref nm, .int (iI nl)])), (b, .inl (gI G, 4096, .inl (arI (gwD tm d i w)))), (tk, .inl (gZ G, 64, .inl (arB (tbt tm))))]) (by unfold gwD; rw [if_pos hX]) ?_
      refine w_iconst C dX11_grow_66 ?_
      exact w_reti hret dX11_grow_67 rfl rfl rfl rfl ⟨(tbt tm), trivial, congrArg (fun z => some (Value.int (iI z))) (by rw [decide_eq_false (fun z => z hX)]; rfl), rfl⟩
    · refine w_iload_n C 3 dX11_grow_42 rfl ?_
      refine w_iconst C dX11_grow_43 ?_
      refine w_icmp_ne C 53 dX11_grow_44 rfl (by omega) (fun c_5 => ?_) (fun c_5 => ?_)
      · refine w_aload_n C 0 dX11_grow_53 rfl ?_
        refine w_iload_n C 1 dX11_grow_54 rfl ?_
        refine w_callV (As := [.int (iI i)]) (rest := []) (w2 := [(h, .inr (9, [.ref a, .ref b, .ref tk, .ref re, .ref qu, .int (iI hd), .int (iI tl), .ref nm, .int (iI nl)])), (b, .inl (gI G, 4096, .inl (arI d))), (tk, .inl (gZ G, 64, .inl (arB (tbt tm))))]) (st2 := [.int (iI (sz d i))]) C (ct_X11_size G (kl k) h a b tk re qu nm hd tl nl d i (by omega)) gX11_45 dX11_grow_55 0 rfl rfl rfl rfl rfl (Nat.le_of_ble_eq_true rfl) (by decide) [0, 1] rfl (by decide) [h, b] rfl rfl rfl rfl ?_
        have f_6 := sz_rg d i
        refine w_iload_n C 2 dX11_grow_58 rfl ?_
        refine w_iadd C dX11_grow_59 ?_
        refine w_sipush C dX11_grow_60 (by decide) ?_
        refine w_icmp_le C 68 dX11_grow_63 rfl (by omega) (fun c_7 => ?_) (fun c_7 => ?_)
        · have hX : ¬ abX tm d i := fun z => by have z2 := (ab_no hw).mp z; omega
          have hF := ab_fr hw hX
          have hT : bc d i = 5 → tfB (tset tm (tfB tm)) = tfB (tfT tm) := fun _ => by rw [tfT_n (by omega)]
          have hI := fun z => hw.indE hi.1 hi.2 hk z
          refine w_aload_n C 0 dX11_grow_68 rfl ?_
          refine w_bipush C dX11_grow_69 (by decide) ?_
          refine w_iload C 4 dX11_grow_71 rfl ?_
          refine w_imul C dX11_grow_73 ?_
          refine w_bipush C dX11_grow_74 (by decide) ?_
          refine w_callV (As := [.int (iI (64 * (tfB tm))), .int (iI 64)]) (rest := []) (w2 := [(h, .inr (9, [.ref a, .ref b, .ref tk, .ref re, .ref qu, .int (iI hd), .int (iI tl), .ref nm, .int (iI nl)])), (b, .inl (gI G, 4096, .inl (arI (im_wipe d (64 * (tfB tm)) 64)))), (tk, .inl (gZ G, 64, .inl (arB (tbt tm))))]) (st2 := []) C (ct_X11_clear G (kl k) h a b tk re qu nm hd tl nl d (64 * (tfB tm)) 64 (by unfold rgP; omega)) gX11_65 dX11_grow_76 0 rfl rfl rfl rfl rfl (Nat.le_of_ble_eq_true rfl) (by decide) [0, 1] rfl (by decide) [h, b] rfl rfl rfl rfl ?_
          refine w_iload_n C 3 dX11_grow_79 rfl ?_
          refine w_iconst C dX11_grow_80 ?_
          refine w_icmp_ge C 102 dX11_grow_81 rfl (by omega) (fun c_8 => ?_) (fun c_8 => ?_)
          · refine w_iload_n C 3 dX11_grow_102 rfl ?_
            refine w_iconst C dX11_grow_103 ?_
            refine w_icmp_ne C 132 dX11_grow_104 rfl (by omega) (fun c_9 => ?_) (fun c_9 => ?_)
            · have hI2 := hI (by omega)
              refine w_st (st2 := []) rfl ?_
              refine w_aload_n C 0 dX11_grow_132 rfl ?_
              refine w_get C 0 1 847 dX11_grow_133 rfl rfl inX11 (by decide) (by decide +kernel) rfl ?_
              refine w_bipush C dX11_grow_136 (by decide) ?_
              refine w_aload_n C 0 dX11_grow_138 rfl ?_
              refine w_get C 0 1 847 dX11_grow_139 rfl rfl inX11 (by decide) (by decide +kernel) rfl ?_
              refine w_iload_n C 1 dX11_grow_142 rfl ?_
              refine w_callS (As := [.int (iI i)]) (rest := [.ref b, .int (iI 64), .ref b]) (w2 := [(h, .inr (9, [.ref a, .ref b, .ref tk, .ref re, .ref qu, .int (iI hd), .int (iI tl), .ref nm, .int (iI nl)])), (b, .inl (gI G, 4096, .inl (arI (im_wipe d (64 * (tfB tm)) 64)))), (tk, .inl (gZ G, 64, .inl (arB (tbt tm))))]) (st2 := [.int (iI (512 + 16 * i)), .ref b, .int (iI 64), .ref b]) C (ct_X11_base G (kl k) i) gX11_42 dX11_grow_143 rfl rfl (Nat.le_of_ble_eq_true rfl) (by decide) [] rfl (by decide) [] rfl rfl rfl rfl ?_
              refine w_bipush C dX11_grow_146 (by decide) ?_
              refine w_iadd C dX11_grow_148 ?_
              refine w_iald C 1 dX11_grow_149 rfl (by omega) ?_
              have b_10 := (im_wipe d (64 * (tfB tm)) 64).2 ((512 + 16 * i) + 9)
              refine w_st (st2 := [.int (iI (ind d i)), .int (iI 64), .ref b]) (by rw [wipe_out d (by unfold rgP; omega) (by omega), show 512 + 16 * i + 9 = 512 + i * 16 + 9 by omega]) ?_
              refine w_imul C dX11_grow_150 ?_
              refine w_iload_n C 3 dX11_grow_151 rfl ?_
              refine w_iadd C dX11_grow_152 ?_
              refine w_iconst C dX11_grow_153 ?_
              refine w_isub C dX11_grow_154 ?_
              refine w_iload C 4 dX11_grow_155 rfl ?_
              refine w_iast (ws2 := [(h, .inr (9, [.ref a, .ref b, .ref tk, .ref re, .ref qu, .int (iI hd), .int (iI tl), .ref nm, .int (iI nl)])), (b, .inl (gI G, 4096, .inl (arI (up (im_wipe d (64 * (tfB tm)) 64) (((64 * (ind d i)) + (bc d i)) - 5) (tfB tm))))), (tk, .inl (gZ G, 64, .inl (arB (tbt tm))))]) C 1 dX11_grow_157 rfl (by omega) (by omega) rfl ?_
              refine w_aload_n C 0 dX11_grow_158 rfl ?_
              refine w_iload_n C 1 dX11_grow_159 rfl ?_
              refine w_callS (As := [.int (iI i)]) (rest := [.ref h]) (w2 := [(h, .inr (9, [.ref a, .ref b, .ref tk, .ref re, .ref qu, .int (iI hd), .int (iI tl), .ref nm, .int (iI nl)])), (b, .inl (gI G, 4096, .inl (arI (up (im_wipe d (64 * (tfB tm)) 64) (((64 * (ind d i)) + (bc d i)) - 5) (tfB tm))))), (tk, .inl (gZ G, 64, .inl (arB (tbt tm))))]) (st2 := [.int (iI (512 + 16 * i)), .ref h]) C (ct_X11_base G (kl k) i) gX11_42 dX11_grow_160 rfl rfl (Nat.le_of_ble_eq_true rfl) (by decide) [] rfl (by decide) [] rfl rfl rfl rfl ?_
              refine w_iconst C dX11_grow_163 ?_
              refine w_iadd C dX11_grow_164 ?_
              refine w_aload_n C 0 dX11_grow_165 rfl ?_
              refine w_iload_n C 1 dX11_grow_166 rfl ?_
              refine w_callV (As := [.int (iI i)]) (rest := [.int (iI ((512 + 16 * i) + 2)), .ref h]) (w2 := [(h, .inr (9, [.ref a, .ref b, .ref tk, .ref re, .ref qu, .int (iI hd), .int (iI tl), .ref nm, .int (iI nl)])), (b, .inl (gI G, 4096, .inl (arI (up (im_wipe d (64 * (tfB tm)) 64) (((64 * (ind d i)) + (bc d i)) - 5) (tfB tm))))), (tk, .inl (gZ G, 64, .inl (arB (tbt tm))))]) (st2 := [.int (iI (sz (up (im_wipe d (64 * (tfB tm)) 64) (((64 * (ind d i)) + (bc d i)) - 5) (tfB tm)) i)), .int (iI ((512 + 16 * i) + 2)), .ref h]) C (ct_X11_size G (kl k) h a b tk re qu nm hd tl nl (up (im_wipe d (64 * (tfB tm)) 64) (((64 * (ind d i)) + (bc d i)) - 5) (tfB tm)) i (by omega)) gX11_45 dX11_grow_167 0 rfl rfl rfl rfl rfl (Nat.le_of_ble_eq_true rfl) (by decide) [0, 1] rfl (by decide) [h, b] rfl rfl rfl rfl ?_
              have f_11 := sz_rg (up (im_wipe d (64 * (tfB tm)) 64) (((64 * (ind d i)) + (bc d i)) - 5) (tfB tm)) i
              refine w_st (st2 := [.int (iI (sz d i)), .int (iI ((512 + 16 * i) + 2)), .ref h]) (by first | (rw [sz_up (by omega) (by omega), sz_wp (by omega)]; done) | rw [sz_up (by omega) (by omega), sz_up (by omega) (by omega), sz_wp (by omega), sz_wp (by omega)]) ?_
              refine w_iload_n C 2 dX11_grow_170 rfl ?_
              refine w_iadd C dX11_grow_171 ?_
              refine w_callV (As := [.int (iI ((512 + 16 * i) + 2)), .int (iI ((sz d i) + w))]) (rest := []) (w2 := [(h, .inr (9, [.ref a, .ref b, .ref tk, .ref re, .ref qu, .int (iI hd), .int (iI tl), .ref nm, .int (iI nl)])), (b, .inl (gI G, 4096, .inl (arI (im_put (up (im_wipe d (64 * (tfB tm)) 64) (((64 * (ind d i)) + (bc d i)) - 5) (tfB tm)) ((512 + 16 * i) + 2) ((sz d i) + w))))), (tk, .inl (gZ G, 64, .inl (arB (tbt tm))))]) (st2 := []) C (ct_X11_put G (kl k) h a b tk re qu nm hd tl nl (up (im_wipe d (64 * (tfB tm)) 64) (((64 * (ind d i)) + (bc d i)) - 5) (tfB tm)) ((512 + 16 * i) + 2) ((sz d i) + w) (by omega) (by omega)) gX11_103 dX11_grow_172 0 rfl rfl rfl rfl rfl (Nat.le_of_ble_eq_true rfl) (by decide) [0, 1] rfl (by decide) [h, b] rfl rfl rfl rfl ?_
              refine w_ws (ws2 := [(h, .inr (9, [.ref a, .ref b, .ref tk, .ref re, .ref qu, .int (iI hd), .int (iI tl), .ref nm, .int (iI nl)])), (b, .inl (gI G, 4096, .inl (arI (gwD tm d i w)))), (tk, .inl (gZ G, 64, .inl (arB (tbt tm))))]) (by first | (rw [gw_A hw hi.1 hi.2 hX (by omega)]; done) | (rw [gw_B hw hi.1 hi.2 hX (by omega), hT2]; done) | rw [gw_C hw hi.1 hi.2 hk hX (by omega)]) ?_
              refine w_iconst C dX11_grow_175 ?_
              exact w_reti hret dX11_grow_176 rfl rfl rfl rfl ⟨(tbt tm), trivial, congrArg (fun z => some (Value.int (iI z))) (by rw [decide_eq_true hX]; rfl), rfl⟩
            · omega
          · refine w_aload_n C 0 dX11_grow_84 rfl ?_
            refine w_get C 0 1 847 dX11_grow_85 rfl rfl inX11 (by decide) (by decide +kernel) rfl ?_
            refine w_iload_n C 1 dX11_grow_88 rfl ?_
            refine w_callS (As := [.int (iI i)]) (rest := [.ref b]) (w2 := [(h, .inr (9, [.ref a, .ref b, .ref tk, .ref re, .ref qu, .int (iI hd), .int (iI tl), .ref nm, .int (iI nl)])), (b, .inl (gI G, 4096, .inl (arI (im_wipe d (64 * (tfB tm)) 64)))), (tk, .inl (gZ G, 64, .inl (arB (tbt tm))))]) (st2 := [.int (iI (512 + 16 * i)), .ref b]) C (ct_X11_base G (kl k) i) gX11_42 dX11_grow_89 rfl rfl (Nat.le_of_ble_eq_true rfl) (by decide) [] rfl (by decide) [] rfl rfl rfl rfl ?_
            refine w_iconst C dX11_grow_92 ?_
            refine w_iadd C dX11_grow_93 ?_
            refine w_iload_n C 3 dX11_grow_94 rfl ?_
            refine w_iadd C dX11_grow_95 ?_
            refine w_iload C 4 dX11_grow_96 rfl ?_
            refine w_iast (ws2 := [(h, .inr (9, [.ref a, .ref b, .ref tk, .ref re, .ref qu, .int (iI hd), .int (iI tl), .ref nm, .int (iI nl)])), (b, .inl (gI G, 4096, .inl (arI (up (im_wipe d (64 * (tfB tm)) 64) (((512 + 16 * i) + 4) + (bc d i)) (tfB tm))))), (tk, .inl (gZ G, 64, .inl (arB (tbt tm))))]) C 1 dX11_grow_98 rfl (by omega) (by omega) rfl ?_
            refine w_goto C 158 dX11_grow_99 rfl ?_
            refine w_aload_n C 0 dX11_grow_158 rfl ?_
            refine w_iload_n C 1 dX11_grow_159 rfl ?_
            refine w_callS (As := [.int (iI i)]) (rest := [.ref h]) (w2 := [(h, .inr (9, [.ref a, .ref b, .ref tk, .ref re, .ref qu, .int (iI hd), .int (iI tl), .ref nm, .int (iI nl)])), (b, .inl (gI G, 4096, .inl (arI (up (im_wipe d (64 * (tfB tm)) 64) (((512 + 16 * i) + 4) + (bc d i)) (tfB tm))))), (tk, .inl (gZ G, 64, .inl (arB (tbt tm))))]) (st2 := [.int (iI (512 + 16 * i)), .ref h]) C (ct_X11_base G (kl k) i) gX11_42 dX11_grow_160 rfl rfl (Nat.le_of_ble_eq_true rfl) (by decide) [] rfl (by decide) [] rfl rfl rfl rfl ?_
            refine w_iconst C dX11_grow_163 ?_
            refine w_iadd C dX11_grow_164 ?_
            refine w_aload_n C 0 dX11_grow_165 rfl ?_
            refine w_iload_n C 1 dX11_grow_166 rfl ?_
            refine w_callV (As := [.int (iI i)]) (rest := [.int (iI ((512 + 16 * i) + 2)), .ref h]) (w2 := [(h, .inr (9, [.ref a, .ref b, .ref tk, .ref re, .ref qu, .int (iI hd), .int (iI tl), .ref nm, .int (iI nl)])), (b, .inl (gI G, 4096, .inl (arI (up (im_wipe d (64 * (tfB tm)) 64) (((512 + 16 * i) + 4) + (bc d i)) (tfB tm))))), (tk, .inl (gZ G, 64, .inl (arB (tbt tm))))]) (st2 := [.int (iI (sz (up (im_wipe d (64 * (tfB tm)) 64) (((512 + 16 * i) + 4) + (bc d i)) (tfB tm)) i)), .int (iI ((512 + 16 * i) + 2)), .ref h]) C (ct_X11_size G (kl k) h a b tk re qu nm hd tl nl (up (im_wipe d (64 * (tfB tm)) 64) (((512 + 16 * i) + 4) + (bc d i)) (tfB tm)) i (by omega)) gX11_45 dX11_grow_167 0 rfl rfl rfl rfl rfl (Nat.le_of_ble_eq_true rfl) (by decide) [0, 1] rfl (by decide) [h, b] rfl rfl rfl rfl ?_
            have f_12 := sz_rg (up (im_wipe d (64 * (tfB tm)) 64) (((512 + 16 * i) + 4) + (bc d i)) (tfB tm)) i
            refine w_st (st2 := [.int (iI (sz d i)), .int (iI ((512 + 16 * i) + 2)), .ref h]) (by first | (rw [sz_up (by omega) (by omega), sz_wp (by omega)]; done) | rw [sz_up (by omega) (by omega), sz_up (by omega) (by omega), sz_wp (by omega), sz_wp (by omega)]) ?_
            refine w_iload_n C 2 dX11_grow_170 rfl ?_
            refine w_iadd C dX11_grow_171 ?_
            refine w_callV (As := [.int (iI ((512 + 16 * i) + 2)), .int (iI ((sz d i) + w))]) (rest := []) (w2 := [(h, .inr (9, [.ref a, .ref b, .ref tk, .ref re, .ref qu, .int (iI hd), .int (iI tl), .ref nm, .int (iI nl)])), (b, .inl (gI G, 4096, .inl (arI (im_put (up (im_wipe d (64 * (tfB tm)) 64) (((512 + 16 * i) + 4) + (bc d i)) (tfB tm)) ((512 + 16 * i) + 2) ((sz d i) + w))))), (tk, .inl (gZ G, 64, .inl (arB (tbt tm))))]) (st2 := []) C (ct_X11_put G (kl k) h a b tk re qu nm hd tl nl (up (im_wipe d (64 * (tfB tm)) 64) (((512 + 16 * i) + 4) + (bc d i)) (tfB tm)) ((512 + 16 * i) + 2) ((sz d i) + w) (by omega) (by omega)) gX11_103 dX11_grow_172 0 rfl rfl rfl rfl rfl (Nat.le_of_ble_eq_true rfl) (by decide) [0, 1] rfl (by decide) [h, b] rfl rfl rfl rfl ?_
            refine w_ws (ws2 := [(h, .inr (9, [.ref a, .ref b, .ref tk, .ref re, .ref qu, .int (iI hd), .int (iI tl), .ref nm, .int (iI nl)])), (b, .inl (gI G, 4096, .inl (arI (gwD tm d i w)))), (tk, .inl (gZ G, 64, .inl (arB (tbt tm))))]) (by first | (rw [gw_A hw hi.1 hi.2 hX (by omega)]; done) | (rw [gw_B hw hi.1 hi.2 hX (by omega), hT2]; done) | rw [gw_C hw hi.1 hi.2 hk hX (by omega)]) ?_
            refine w_iconst C dX11_grow_175 ?_
            exact w_reti hret dX11_grow_176 rfl rfl rfl rfl ⟨(tbt tm), trivial, congrArg (fun z => some (Value.int (iI z))) (by rw [decide_eq_true hX]; rfl), rfl⟩
        · have hX : abX tm d i := (ab_no hw).mpr (by omega)
          refine w_ws (ws2 := [(h, .inr (9, [.ref a, .ref b, .ref tk, .ref re, .ref qu, .int (iI hd), .int (iI tl), .ref nm, .int (iI nl)])), (b, .inl (gI G, 4096, .inl (arI (gwD tm d i w)))), (tk, .inl (gZ G, 64, .inl (arB (tbt tm))))]) (by unfold gwD; rw [if_pos hX]) ?_
          refine w_iconst C dX11_grow_66 ?_
          exact w_reti hret dX11_grow_67 rfl rfl rfl rfl ⟨(tbt tm), trivial, congrArg (fun z => some (Value.int (iI z))) (by rw [decide_eq_false (fun z => z hX)]; rfl), rfl⟩
      · omega
  · refine w_iload C 4 dX11_grow_18 rfl ?_
    refine w_iconst C dX11_grow_20 ?_
    refine w_icmp_eq C 33 dX11_grow_21 rfl (by omega) (fun c_13 => ?_) (fun c_13 => ?_)
    · refine w_iconst C dX11_grow_33 ?_
      refine w_istore (lv2 := [(0, .ref h), (1, .int (iI i)), (2, .int (iI w)), (3, .int (iI (bc d i))), (4, .int (iI (tfB tm))), (5, .int (iI (-1)))]) C dX11_grow_34 (by decide) rfl ?_
      refine w_iload C 4 dX11_grow_36 rfl ?_
      refine w_iconst C dX11_grow_38 ?_
      refine w_icmp_eq C 66 dX11_grow_39 rfl (by omega) (fun c_14 => ?_) (fun c_14 => ?_)
      · have hX : abX tm d i := (ab_no hw).mpr (by omega)
        refine w_ws (ws2 := [(h, .inr (9, [.ref a, .ref b, .ref tk, .ref re, .ref qu, .int (iI hd), .int (iI tl), .ref nm, .int (iI nl)])), (b, .inl (gI G, 4096, .inl (arI (gwD tm d i w)))), (tk, .inl (gZ G, 64, .inl (arB (tbt tm))))]) (by unfold gwD; rw [if_pos hX]) ?_
        refine w_iconst C dX11_grow_66 ?_
        exact w_reti hret dX11_grow_67 rfl rfl rfl rfl ⟨(tbt tm), trivial, congrArg (fun z => some (Value.int (iI z))) (by rw [decide_eq_false (fun z => z hX)]; rfl), rfl⟩
      · omega
    · refine w_aload_n C 0 dX11_grow_24 rfl ?_
      refine w_iload C 4 dX11_grow_25 rfl ?_
      refine w_callV (As := [.int (iI (tfB tm))]) (rest := []) (w2 := [(h, .inr (9, [.ref a, .ref b, .ref tk, .ref re, .ref qu, .int (iI hd), .int (iI tl), .ref nm, .int (iI nl)])), (b, .inl (gI G, 4096, .inl (arI d))), (tk, .inl (gZ G, 64, .inl (arB (tbt tm))))]) (st2 := [.int (iI (frz tm (tfB tm)))]) C (ct_X11_free G (kl k) h a b tk re qu nm hd tl nl d (tbt tm) tm (tfB tm) hw (by omega)) gX11_97 dX11_grow_27 0 rfl rfl rfl rfl rfl (Nat.le_of_ble_eq_true rfl) (by decide) [0, 1, 2] rfl (by decide) [h, b, tk] rfl rfl rfl rfl ?_
      have f_15 := @frz_rg tm (tfB tm) (by omega)
      refine w_st (st2 := [.int (iI (tfB (tset tm (tfB tm))))]) (by rw [frz_2 tm c_13]) ?_
      refine w_goto C 34 dX11_grow_30 rfl ?_
      refine w_istore (lv2 := [(0, .ref h), (1, .int (iI i)), (2, .int (iI w)), (3, .int (iI (bc d i))), (4, .int (iI (tfB tm))), (5, .int (iI (tfB (tset tm (tfB tm)))))]) C dX11_grow_34 (by decide) rfl ?_
      refine w_iload C 4 dX11_grow_36 rfl ?_
      refine w_iconst C dX11_grow_38 ?_
      refine w_icmp_eq C 66 dX11_grow_39 rfl (by omega) (fun c_16 => ?_) (fun c_16 => ?_)
      · omega
      · refine w_iload_n C 3 dX11_grow_42 rfl ?_
        refine w_iconst C dX11_grow_43 ?_
        refine w_icmp_ne C 53 dX11_grow_44 rfl (by omega) (fun c_17 => ?_) (fun c_17 => ?_)
        · omega
        · refine w_iload C 5 dX11_grow_47 rfl ?_
          refine w_iconst C dX11_grow_49 ?_
          refine w_icmp_eq C 66 dX11_grow_50 rfl (by omega) (fun c_18 => ?_) (fun c_18 => ?_)
          · have hX : abX tm d i := (ab_no hw).mpr (by omega)
            refine w_ws (ws2 := [(h, .inr (9, [.ref a, .ref b, .ref tk, .ref re, .ref qu, .int (iI hd), .int (iI tl), .ref nm, .int (iI nl)])), (b, .inl (gI G, 4096, .inl (arI (gwD tm d i w)))), (tk, .inl (gZ G, 64, .inl (arB (tbt tm))))]) (by unfold gwD; rw [if_pos hX]) ?_
            refine w_iconst C dX11_grow_66 ?_
            exact w_reti hret dX11_grow_67 rfl rfl rfl rfl ⟨(tbt tm), trivial, congrArg (fun z => some (Value.int (iI z))) (by rw [decide_eq_false (fun z => z hX)]; rfl), rfl⟩
          · refine w_aload_n C 0 dX11_grow_53 rfl ?_
            refine w_iload_n C 1 dX11_grow_54 rfl ?_
            refine w_callV (As := [.int (iI i)]) (rest := []) (w2 := [(h, .inr (9, [.ref a, .ref b, .ref tk, .ref re, .ref qu, .int (iI hd), .int (iI tl), .ref nm, .int (iI nl)])), (b, .inl (gI G, 4096, .inl (arI d))), (tk, .inl (gZ G, 64, .inl (arB (tbt tm))))]) (st2 := [.int (iI (sz d i))]) C (ct_X11_size G (kl k) h a b tk re qu nm hd tl nl d i (by omega)) gX11_45 dX11_grow_55 0 rfl rfl rfl rfl rfl (Nat.le_of_ble_eq_true rfl) (by decide) [0, 1] rfl (by decide) [h, b] rfl rfl rfl rfl ?_
            have f_19 := sz_rg d i
            refine w_iload_n C 2 dX11_grow_58 rfl ?_
            refine w_iadd C dX11_grow_59 ?_
            refine w_sipush C dX11_grow_60 (by decide) ?_
            refine w_icmp_le C 68 dX11_grow_63 rfl (by omega) (fun c_20 => ?_) (fun c_20 => ?_)
            · have hX : ¬ abX tm d i := fun z => by have z2 := (ab_no hw).mp z; omega
              have hF := ab_fr hw hX
              have hT : bc d i = 5 → tfB (tset tm (tfB tm)) = tfB (tfT tm) := fun _ => by rw [tfT_n (by omega)]
              have hI := fun z => hw.indE hi.1 hi.2 hk z
              refine w_aload_n C 0 dX11_grow_68 rfl ?_
              refine w_bipush C dX11_grow_69 (by decide) ?_
              refine w_iload C 4 dX11_grow_71 rfl ?_
              refine w_imul C dX11_grow_73 ?_
              refine w_bipush C dX11_grow_74 (by decide) ?_
              refine w_callV (As := [.int (iI (64 * (tfB tm))), .int (iI 64)]) (rest := []) (w2 := [(h, .inr (9, [.ref a, .ref b, .ref tk, .ref re, .ref qu, .int (iI hd), .int (iI tl), .ref nm, .int (iI nl)])), (b, .inl (gI G, 4096, .inl (arI (im_wipe d (64 * (tfB tm)) 64)))), (tk, .inl (gZ G, 64, .inl (arB (tbt tm))))]) (st2 := []) C (ct_X11_clear G (kl k) h a b tk re qu nm hd tl nl d (64 * (tfB tm)) 64 (by unfold rgP; omega)) gX11_65 dX11_grow_76 0 rfl rfl rfl rfl rfl (Nat.le_of_ble_eq_true rfl) (by decide) [0, 1] rfl (by decide) [h, b] rfl rfl rfl rfl ?_
              refine w_iload_n C 3 dX11_grow_79 rfl ?_
              refine w_iconst C dX11_grow_80 ?_
              refine w_icmp_ge C 102 dX11_grow_81 rfl (by omega) (fun c_21 => ?_) (fun c_21 => ?_)
              · refine w_iload_n C 3 dX11_grow_102 rfl ?_
                refine w_iconst C dX11_grow_103 ?_
                refine w_icmp_ne C 132 dX11_grow_104 rfl (by omega) (fun c_22 => ?_) (fun c_22 => ?_)
                · omega
                · have hG := hF.2.2 (by omega)
                  have hT2 := hT (by omega)
                  refine w_aload_n C 0 dX11_grow_107 rfl ?_
                  refine w_bipush C dX11_grow_108 (by decide) ?_
                  refine w_iload C 5 dX11_grow_110 rfl ?_
                  refine w_imul C dX11_grow_112 ?_
                  refine w_bipush C dX11_grow_113 (by decide) ?_
                  refine w_callV (As := [.int (iI (64 * (tfB (tset tm (tfB tm))))), .int (iI 64)]) (rest := []) (w2 := [(h, .inr (9, [.ref a, .ref b, .ref tk, .ref re, .ref qu, .int (iI hd), .int (iI tl), .ref nm, .int (iI nl)])), (b, .inl (gI G, 4096, .inl (arI (im_wipe (im_wipe d (64 * (tfB tm)) 64) (64 * (tfB (tset tm (tfB tm)))) 64)))), (tk, .inl (gZ G, 64, .inl (arB (tbt tm))))]) (st2 := []) C (ct_X11_clear G (kl k) h a b tk re qu nm hd tl nl (im_wipe d (64 * (tfB tm)) 64) (64 * (tfB (tset tm (tfB tm)))) 64 (by unfold rgP; omega)) gX11_65 dX11_grow_115 0 rfl rfl rfl rfl rfl (Nat.le_of_ble_eq_true rfl) (by decide) [0, 1] rfl (by decide) [h, b] rfl rfl rfl rfl ?_
                  refine w_aload_n C 0 dX11_grow_118 rfl ?_
                  refine w_get C 0 1 847 dX11_grow_119 rfl rfl inX11 (by decide) (by decide +kernel) rfl ?_
                  refine w_iload_n C 1 dX11_grow_122 rfl ?_
                  refine w_callS (As := [.int (iI i)]) (rest := [.ref b]) (w2 := [(h, .inr (9, [.ref a, .ref b, .ref tk, .ref re, .ref qu, .int (iI hd), .int (iI tl), .ref nm, .int (iI nl)])), (b, .inl (gI G, 4096, .inl (arI (im_wipe (im_wipe d (64 * (tfB tm)) 64) (64 * (tfB (tset tm (tfB tm)))) 64)))), (tk, .inl (gZ G, 64, .inl (arB (tbt tm))))]) (st2 := [.int (iI (512 + 16 * i)), .ref b]) C (ct_X11_base G (kl k) i) gX11_42 dX11_grow_123 rfl rfl (Nat.le_of_ble_eq_true rfl) (by decide) [] rfl (by decide) [] rfl rfl rfl rfl ?_
                  refine w_bipush C dX11_grow_126 (by decide) ?_
                  refine w_iadd C dX11_grow_128 ?_
                  refine w_iload C 5 dX11_grow_129 rfl ?_
                  refine w_iast (ws2 := [(h, .inr (9, [.ref a, .ref b, .ref tk, .ref re, .ref qu, .int (iI hd), .int (iI tl), .ref nm, .int (iI nl)])), (b, .inl (gI G, 4096, .inl (arI (up (im_wipe (im_wipe d (64 * (tfB tm)) 64) (64 * (tfB (tset tm (tfB tm)))) 64) ((512 + 16 * i) + 9) (tfB (tset tm (tfB tm))))))), (tk, .inl (gZ G, 64, .inl (arB (tbt tm))))]) C 1 dX11_grow_131 rfl (by omega) (by omega) rfl ?_
                  refine w_st (st2 := []) rfl ?_
                  refine w_aload_n C 0 dX11_grow_132 rfl ?_
                  refine w_get C 0 1 847 dX11_grow_133 rfl rfl inX11 (by decide) (by decide +kernel) rfl ?_
                  refine w_bipush C dX11_grow_136 (by decide) ?_
                  refine w_aload_n C 0 dX11_grow_138 rfl ?_
                  refine w_get C 0 1 847 dX11_grow_139 rfl rfl inX11 (by decide) (by decide +kernel) rfl ?_
                  refine w_iload_n C 1 dX11_grow_142 rfl ?_
                  refine w_callS (As := [.int (iI i)]) (rest := [.ref b, .int (iI 64), .ref b]) (w2 := [(h, .inr (9, [.ref a, .ref b, .ref tk, .ref re, .ref qu, .int (iI hd), .int (iI tl), .ref nm, .int (iI nl)])), (b, .inl (gI G, 4096, .inl (arI (up (im_wipe (im_wipe d (64 * (tfB tm)) 64) (64 * (tfB (tset tm (tfB tm)))) 64) ((512 + 16 * i) + 9) (tfB (tset tm (tfB tm))))))), (tk, .inl (gZ G, 64, .inl (arB (tbt tm))))]) (st2 := [.int (iI (512 + 16 * i)), .ref b, .int (iI 64), .ref b]) C (ct_X11_base G (kl k) i) gX11_42 dX11_grow_143 rfl rfl (Nat.le_of_ble_eq_true rfl) (by decide) [] rfl (by decide) [] rfl rfl rfl rfl ?_
                  refine w_bipush C dX11_grow_146 (by decide) ?_
                  refine w_iadd C dX11_grow_148 ?_
                  refine w_iald C 1 dX11_grow_149 rfl (by omega) ?_
                  have b_23 := (up (im_wipe (im_wipe d (64 * (tfB tm)) 64) (64 * (tfB (tset tm (tfB tm)))) 64) ((512 + 16 * i) + 9) (tfB (tset tm (tfB tm)))).2 ((512 + 16 * i) + 9)
                  refine w_st (st2 := [.int (iI (tfB (tfT tm))), .int (iI 64), .ref b]) (by rw [up_at, if_pos rfl, Int.emod_eq_of_lt (by omega) (by omega), hT2]) ?_
                  refine w_imul C dX11_grow_150 ?_
                  refine w_iload_n C 3 dX11_grow_151 rfl ?_
                  refine w_iadd C dX11_grow_152 ?_
                  refine w_iconst C dX11_grow_153 ?_
                  refine w_isub C dX11_grow_154 ?_
                  refine w_iload C 4 dX11_grow_155 rfl ?_
                  refine w_iast (ws2 := [(h, .inr (9, [.ref a, .ref b, .ref tk, .ref re, .ref qu, .int (iI hd), .int (iI tl), .ref nm, .int (iI nl)])), (b, .inl (gI G, 4096, .inl (arI (up (up (im_wipe (im_wipe d (64 * (tfB tm)) 64) (64 * (tfB (tset tm (tfB tm)))) 64) ((512 + 16 * i) + 9) (tfB (tset tm (tfB tm)))) (((64 * (tfB (tfT tm))) + (bc d i)) - 5) (tfB tm))))), (tk, .inl (gZ G, 64, .inl (arB (tbt tm))))]) C 1 dX11_grow_157 rfl (by omega) (by omega) rfl ?_
                  refine w_aload_n C 0 dX11_grow_158 rfl ?_
                  refine w_iload_n C 1 dX11_grow_159 rfl ?_
                  refine w_callS (As := [.int (iI i)]) (rest := [.ref h]) (w2 := [(h, .inr (9, [.ref a, .ref b, .ref tk, .ref re, .ref qu, .int (iI hd), .int (iI tl), .ref nm, .int (iI nl)])), (b, .inl (gI G, 4096, .inl (arI (up (up (im_wipe (im_wipe d (64 * (tfB tm)) 64) (64 * (tfB (tset tm (tfB tm)))) 64) ((512 + 16 * i) + 9) (tfB (tset tm (tfB tm)))) (((64 * (tfB (tfT tm))) + (bc d i)) - 5) (tfB tm))))), (tk, .inl (gZ G, 64, .inl (arB (tbt tm))))]) (st2 := [.int (iI (512 + 16 * i)), .ref h]) C (ct_X11_base G (kl k) i) gX11_42 dX11_grow_160 rfl rfl (Nat.le_of_ble_eq_true rfl) (by decide) [] rfl (by decide) [] rfl rfl rfl rfl ?_
                  refine w_iconst C dX11_grow_163 ?_
                  refine w_iadd C dX11_grow_164 ?_
                  refine w_aload_n C 0 dX11_grow_165 rfl ?_
                  refine w_iload_n C 1 dX11_grow_166 rfl ?_
                  refine w_callV (As := [.int (iI i)]) (rest := [.int (iI ((512 + 16 * i) + 2)), .ref h]) (w2 := [(h, .inr (9, [.ref a, .ref b, .ref tk, .ref re, .ref qu, .int (iI hd), .int (iI tl), .ref nm, .int (iI nl)])), (b, .inl (gI G, 4096, .inl (arI (up (up (im_wipe (im_wipe d (64 * (tfB tm)) 64) (64 * (tfB (tset tm (tfB tm)))) 64) ((512 + 16 * i) + 9) (tfB (tset tm (tfB tm)))) (((64 * (tfB (tfT tm))) + (bc d i)) - 5) (tfB tm))))), (tk, .inl (gZ G, 64, .inl (arB (tbt tm))))]) (st2 := [.int (iI (sz (up (up (im_wipe (im_wipe d (64 * (tfB tm)) 64) (64 * (tfB (tset tm (tfB tm)))) 64) ((512 + 16 * i) + 9) (tfB (tset tm (tfB tm)))) (((64 * (tfB (tfT tm))) + (bc d i)) - 5) (tfB tm)) i)), .int (iI ((512 + 16 * i) + 2)), .ref h]) C (ct_X11_size G (kl k) h a b tk re qu nm hd tl nl (up (up (im_wipe (im_wipe d (64 * (tfB tm)) 64) (64 * (tfB (tset tm (tfB tm)))) 64) ((512 + 16 * i) + 9) (tfB (tset tm (tfB tm)))) (((64 * (tfB (tfT tm))) + (bc d i)) - 5) (tfB tm)) i (by omega)) gX11_45 dX11_grow_167 0 rfl rfl rfl rfl rfl (Nat.le_of_ble_eq_true rfl) (by decide) [0, 1] rfl (by decide) [h, b] rfl rfl rfl rfl ?_
                  have f_24 := sz_rg (up (up (im_wipe (im_wipe d (64 * (tfB tm)) 64) (64 * (tfB (tset tm (tfB tm)))) 64) ((512 + 16 * i) + 9) (tfB (tset tm (tfB tm)))) (((64 * (tfB (tfT tm))) + (bc d i)) - 5) (tfB tm)) i
                  refine w_st (st2 := [.int (iI (sz d i)), .int (iI ((512 + 16 * i) + 2)), .ref h]) (by first | (rw [sz_up (by omega) (by omega), sz_wp (by omega)]; done) | rw [sz_up (by omega) (by omega), sz_up (by omega) (by omega), sz_wp (by omega), sz_wp (by omega)]) ?_
                  refine w_iload_n C 2 dX11_grow_170 rfl ?_
                  refine w_iadd C dX11_grow_171 ?_
                  refine w_callV (As := [.int (iI ((512 + 16 * i) + 2)), .int (iI ((sz d i) + w))]) (rest := []) (w2 := [(h, .inr (9, [.ref a, .ref b, .ref tk, .ref re, .ref qu, .int (iI hd), .int (iI tl), .ref nm, .int (iI nl)])), (b, .inl (gI G, 4096, .inl (arI (im_put (up (up (im_wipe (im_wipe d (64 * (tfB tm)) 64) (64 * (tfB (tset tm (tfB tm)))) 64) ((512 + 16 * i) + 9) (tfB (tset tm (tfB tm)))) (((64 * (tfB (tfT tm))) + (bc d i)) - 5) (tfB tm)) ((512 + 16 * i) + 2) ((sz d i) + w))))), (tk, .inl (gZ G, 64, .inl (arB (tbt tm))))]) (st2 := []) C (ct_X11_put G (kl k) h a b tk re qu nm hd tl nl (up (up (im_wipe (im_wipe d (64 * (tfB tm)) 64) (64 * (tfB (tset tm (tfB tm)))) 64) ((512 + 16 * i) + 9) (tfB (tset tm (tfB tm)))) (((64 * (tfB (tfT tm))) + (bc d i)) - 5) (tfB tm)) ((512 + 16 * i) + 2) ((sz d i) + w) (by omega) (by omega)) gX11_103 dX11_grow_172 0 rfl rfl rfl rfl rfl (Nat.le_of_ble_eq_true rfl) (by decide) [0, 1] rfl (by decide) [h, b] rfl rfl rfl rfl ?_
                  refine w_ws (ws2 := [(h, .inr (9, [.ref a, .ref b, .ref tk, .ref re, .ref qu, .int (iI hd), .int (iI tl), .ref nm, .int (iI nl)])), (b, .inl (gI G, 4096, .inl (arI (gwD tm d i w)))), (tk, .inl (gZ G, 64, .inl (arB (tbt tm))))]) (by first | (rw [gw_A hw hi.1 hi.2 hX (by omega)]; done) | (rw [gw_B hw hi.1 hi.2 hX (by omega), hT2]; done) | rw [gw_C hw hi.1 hi.2 hk hX (by omega)]) ?_
                  refine w_iconst C dX11_grow_175 ?_
                  exact w_reti hret dX11_grow_176 rfl rfl rfl rfl ⟨(tbt tm), trivial, congrArg (fun z => some (Value.int (iI z))) (by rw [decide_eq_true hX]; rfl), rfl⟩
              · refine w_aload_n C 0 dX11_grow_84 rfl ?_
                refine w_get C 0 1 847 dX11_grow_85 rfl rfl inX11 (by decide) (by decide +kernel) rfl ?_
                refine w_iload_n C 1 dX11_grow_88 rfl ?_
                refine w_callS (As := [.int (iI i)]) (rest := [.ref b]) (w2 := [(h, .inr (9, [.ref a, .ref b, .ref tk, .ref re, .ref qu, .int (iI hd), .int (iI tl), .ref nm, .int (iI nl)])), (b, .inl (gI G, 4096, .inl (arI (im_wipe d (64 * (tfB tm)) 64)))), (tk, .inl (gZ G, 64, .inl (arB (tbt tm))))]) (st2 := [.int (iI (512 + 16 * i)), .ref b]) C (ct_X11_base G (kl k) i) gX11_42 dX11_grow_89 rfl rfl (Nat.le_of_ble_eq_true rfl) (by decide) [] rfl (by decide) [] rfl rfl rfl rfl ?_
                refine w_iconst C dX11_grow_92 ?_
                refine w_iadd C dX11_grow_93 ?_
                refine w_iload_n C 3 dX11_grow_94 rfl ?_
                refine w_iadd C dX11_grow_95 ?_
                refine w_iload C 4 dX11_grow_96 rfl ?_
                refine w_iast (ws2 := [(h, .inr (9, [.ref a, .ref b, .ref tk, .ref re, .ref qu, .int (iI hd), .int (iI tl), .ref nm, .int (iI nl)])), (b, .inl (gI G, 4096, .inl (arI (up (im_wipe d (64 * (tfB tm)) 64) (((512 + 16 * i) + 4) + (bc d i)) (tfB tm))))), (tk, .inl (gZ G, 64, .inl (arB (tbt tm))))]) C 1 dX11_grow_98 rfl (by omega) (by omega) rfl ?_
                refine w_goto C 158 dX11_grow_99 rfl ?_
                refine w_aload_n C 0 dX11_grow_158 rfl ?_
                refine w_iload_n C 1 dX11_grow_159 rfl ?_
                refine w_callS (As := [.int (iI i)]) (rest := [.ref h]) (w2 := [(h, .inr (9, [.ref a, .ref b, .ref tk, .ref re, .ref qu, .int (iI hd), .int (iI tl), .ref nm, .int (iI nl)])), (b, .inl (gI G, 4096, .inl (arI (up (im_wipe d (64 * (tfB tm)) 64) (((512 + 16 * i) + 4) + (bc d i)) (tfB tm))))), (tk, .inl (gZ G, 64, .inl (arB (tbt tm))))]) (st2 := [.int (iI (512 + 16 * i)), .ref h]) C (ct_X11_base G (kl k) i) gX11_42 dX11_grow_160 rfl rfl (Nat.le_of_ble_eq_true rfl) (by decide) [] rfl (by decide) [] rfl rfl rfl rfl ?_
                refine w_iconst C dX11_grow_163 ?_
                refine w_iadd C dX11_grow_164 ?_
                refine w_aload_n C 0 dX11_grow_165 rfl ?_
                refine w_iload_n C 1 dX11_grow_166 rfl ?_
                refine w_callV (As := [.int (iI i)]) (rest := [.int (iI ((512 + 16 * i) + 2)), .ref h]) (w2 := [(h, .inr (9, [.ref a, .ref b, .ref tk, .ref re, .ref qu, .int (iI hd), .int (iI tl), .ref nm, .int (iI nl)])), (b, .inl (gI G, 4096, .inl (arI (up (im_wipe d (64 * (tfB tm)) 64) (((512 + 16 * i) + 4) + (bc d i)) (tfB tm))))), (tk, .inl (gZ G, 64, .inl (arB (tbt tm))))]) (st2 := [.int (iI (sz (up (im_wipe d (64 * (tfB tm)) 64) (((512 + 16 * i) + 4) + (bc d i)) (tfB tm)) i)), .int (iI ((512 + 16 * i) + 2)), .ref h]) C (ct_X11_size G (kl k) h a b tk re qu nm hd tl nl (up (im_wipe d (64 * (tfB tm)) 64) (((512 + 16 * i) + 4) + (bc d i)) (tfB tm)) i (by omega)) gX11_45 dX11_grow_167 0 rfl rfl rfl rfl rfl (Nat.le_of_ble_eq_true rfl) (by decide) [0, 1] rfl (by decide) [h, b] rfl rfl rfl rfl ?_
                have f_25 := sz_rg (up (im_wipe d (64 * (tfB tm)) 64) (((512 + 16 * i) + 4) + (bc d i)) (tfB tm)) i
                refine w_st (st2 := [.int (iI (sz d i)), .int (iI ((512 + 16 * i) + 2)), .ref h]) (by first | (rw [sz_up (by omega) (by omega), sz_wp (by omega)]; done) | rw [sz_up (by omega) (by omega), sz_up (by omega) (by omega), sz_wp (by omega), sz_wp (by omega)]) ?_
                refine w_iload_n C 2 dX11_grow_170 rfl ?_
                refine w_iadd C dX11_grow_171 ?_
                refine w_callV (As := [.int (iI ((512 + 16 * i) + 2)), .int (iI ((sz d i) + w))]) (rest := []) (w2 := [(h, .inr (9, [.ref a, .ref b, .ref tk, .ref re, .ref qu, .int (iI hd), .int (iI tl), .ref nm, .int (iI nl)])), (b, .inl (gI G, 4096, .inl (arI (im_put (up (im_wipe d (64 * (tfB tm)) 64) (((512 + 16 * i) + 4) + (bc d i)) (tfB tm)) ((512 + 16 * i) + 2) ((sz d i) + w))))), (tk, .inl (gZ G, 64, .inl (arB (tbt tm))))]) (st2 := []) C (ct_X11_put G (kl k) h a b tk re qu nm hd tl nl (up (im_wipe d (64 * (tfB tm)) 64) (((512 + 16 * i) + 4) + (bc d i)) (tfB tm)) ((512 + 16 * i) + 2) ((sz d i) + w) (by omega) (by omega)) gX11_103 dX11_grow_172 0 rfl rfl rfl rfl rfl (Nat.le_of_ble_eq_true rfl) (by decide) [0, 1] rfl (by decide) [h, b] rfl rfl rfl rfl ?_
                refine w_ws (ws2 := [(h, .inr (9, [.ref a, .ref b, .ref tk, .ref re, .ref qu, .int (iI hd), .int (iI tl), .ref nm, .int (iI nl)])), (b, .inl (gI G, 4096, .inl (arI (gwD tm d i w)))), (tk, .inl (gZ G, 64, .inl (arB (tbt tm))))]) (by first | (rw [gw_A hw hi.1 hi.2 hX (by omega)]; done) | (rw [gw_B hw hi.1 hi.2 hX (by omega), hT2]; done) | rw [gw_C hw hi.1 hi.2 hk hX (by omega)]) ?_
                refine w_iconst C dX11_grow_175 ?_
                exact w_reti hret dX11_grow_176 rfl rfl rfl rfl ⟨(tbt tm), trivial, congrArg (fun z => some (Value.int (iI z))) (by rw [decide_eq_true hX]; rfl), rfl⟩
            · have hX : abX tm d i := (ab_no hw).mpr (by omega)
              refine w_ws (ws2 := [(h, .inr (9, [.ref a, .ref b, .ref tk, .ref re, .ref qu, .int (iI hd), .int (iI tl), .ref nm, .int (iI nl)])), (b, .inl (gI G, 4096, .inl (arI (gwD tm d i w)))), (tk, .inl (gZ G, 64, .inl (arB (tbt tm))))]) (by unfold gwD; rw [if_pos hX]) ?_
              refine w_iconst C dX11_grow_66 ?_
              exact w_reti hret dX11_grow_67 rfl rfl rfl rfl ⟨(tbt tm), trivial, congrArg (fun z => some (Value.int (iI z))) (by rw [decide_eq_false (fun z => z hX)]; rfl), rfl⟩
