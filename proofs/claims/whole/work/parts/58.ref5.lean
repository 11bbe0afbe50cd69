theorem gX11_48 : cwv RX11 48 yX11_isClear cX11_isClear 5 (some .boolean) 2 928 930 31 74 931 := by decide +kernel
set_option maxHeartbeats 4000000 in
set_option maxRecDepth 100000 in
theorem ct_X11_replay (G : GX) (l : Launch) (h : Nat) (a : Nat) (b : Nat) (tk : Nat) (re : Nat) (qu : Nat) (nm : Nat) (hd : Int) (tl : Int) (nl : Int) (d : Im) : Ct G l yX11_replay cX11_replay 6 none rmX11_replay [.ref h] [(h, .inr (9, [.ref a, .ref b, .ref tk, .ref re, .ref qu, .int (iI hd), .int (iI tl), .ref nm, .int (iI nl)])), (b, .inl (gI G, 4096, .inl (arI d)))] none [(h, .inr (9, [.ref a, .ref b, .ref tk, .ref re, .ref qu, .int (iI hd), .int (iI tl), .ref nm, .int (iI nl)])), (b, .inl (gI G, 4096, .inl (arI (jnR d))))] := by
  refine Ct.of (by decide) (Nat.le_of_ble_eq_true rfl) ?_
  intro k C hl hret
  subst hl
  refine w_lv (lv2 := [(0, .ref h)]) [0] rfl ?_
  have n0 := im_at_rg d 68
  refine w_aload_n C 0 dX11_replay_0 rfl ?_
  refine w_get C 0 1 847 dX11_replay_1 rfl rfl inX11 (by decide) (by decide +kernel) rfl ?_
  refine w_bipush C dX11_replay_4 (by decide) ?_
  refine w_iald C 1 dX11_replay_6 rfl (by omega) ?_
  have b_1 := d.2 68
  refine w_st (st2 := [.int (iI (im_at d 68))]) (by rw [im_at_in d (by omega)]) ?_
  refine w_istore_n (lv2 := [(0, .ref h), (1, .int (iI (im_at d 68)))]) C dX11_replay_7 (by decide) rfl ?_
  refine w_aload_n C 0 dX11_replay_8 rfl ?_
  refine w_bipush C dX11_replay_9 (by decide) ?_
  refine w_bipush C dX11_replay_11 (by decide) ?_
  refine w_bipush C dX11_replay_13 (by decide) ?_
  refine w_bipush C dX11_replay_15 (by decide) ?_
  refine w_bipush C dX11_replay_17 (by decide) ?_
  refine w_callV (As := [.int (iI 64), .int (iI 74), .int (iI 82), .int (iI 78), .int (iI 76)]) (rest := []) (w2 := [(h, .inr (9, [.ref a, .ref b, .ref tk, .ref re, .ref qu, .int (iI hd), .int (iI tl), .ref nm, .int (iI nl)])), (b, .inl (gI G, 4096, .inl (arI d)))]) (st2 := [.int (iI (bI (hasB d 64 74 82 78 76)))]) C (ct_X11_has G (kl k) h a b tk re qu nm hd tl nl d 64 74 82 78 76 (by omega) (by decide)) gX11_30 dX11_replay_19 0 rfl rfl rfl rfl rfl (Nat.le_of_ble_eq_true rfl) (by decide) [0, 1] rfl (by decide) [h, b] rfl rfl rfl rfl ?_
  refine w_bz C 39 dX11_replay_22 rfl (fun c_2 => ?_) (fun c_2 => ?_)
  · have hG : rpG d = false := by unfold rpG; rw [c_2]; rfl
    refine w_iconst C dX11_replay_39 ?_
    refine w_istore_n (lv2 := [(0, .ref h), (1, .int (iI (im_at d 68))), (2, .int (iI 0))]) C dX11_replay_40 (by decide) rfl ?_
    refine w_iload_n C 2 dX11_replay_41 rfl ?_
    refine w_if_eq C 186 dX11_replay_42 rfl (by omega) (fun c_3 => ?_) (fun c_3 => ?_)
    · refine w_iconst C dX11_replay_186 ?_
      refine w_istore_n (lv2 := [(0, .ref h), (1, .int (iI (im_at d 68))), (2, .int (iI 0)), (3, .int (iI 0))]) C dX11_replay_187 (by decide) rfl ?_
      have L_188 : ∀ (nn_188 : Nat) (y : Int) (s3 : Int) (x : Im), (s3 = bI (jnB d)) → (0 ≤ y ∧ (y ≤ im_at d 68 ∨ y = 0)) → ((if jnB d = true then rps (im_at d 68).toNat 0 d else d) = (if jnB d = true then rps (im_at d 68 - y).toNat y x else x)) → (∀ j : Int, j < 448 → x.1 j = d.1 j) → (im_at d 68 - y).toNat = nn_188 → Wd G k 6 0 0 [(h, .inr (9, [.ref a, .ref b, .ref tk, .ref re, .ref qu, .int (iI hd), .int (iI tl), .ref nm, .int (iI nl)])), (b, .inl (gI G, 4096, .inl (arI x)))] 188 [(0, .ref h), (1, .int (iI (im_at d 68))), (2, .int (iI s3)), (3, .int (iI y))] [] := by
        intro nn_188
        induction nn_188 using Nat.strongRecOn with
        | ind nn_188 ih_188 =>
          intro y s3 x hs hy hx hb hm_188
          have q3 := bI_rg (jnB d)
          have n0 := im_at_rg d 68
          refine w_iload_n C 3 dX11_replay_188 rfl ?_
          refine w_iload_n C 1 dX11_replay_189 rfl ?_
          refine w_icmp_ge C 257 dX11_replay_190 rfl (by omega) (fun c_4 => ?_) (fun c_4 => ?_)
          · refine w_aload_n C 0 dX11_replay_257 rfl ?_
            refine w_bipush C dX11_replay_258 (by decide) ?_
            refine w_bipush C dX11_replay_260 (by decide) ?_
            refine w_callV (As := [.int (iI 64), .int (iI 64)]) (rest := []) (w2 := [(h, .inr (9, [.ref a, .ref b, .ref tk, .ref re, .ref qu, .int (iI hd), .int (iI tl), .ref nm, .int (iI nl)])), (b, .inl (gI G, 4096, .inl (arI (im_wipe x 64 64))))]) (st2 := []) C (ct_X11_clear G (kl k) h a b tk re qu nm hd tl nl x 64 64 (by unfold rgP; omega)) gX11_65 dX11_replay_262 0 rfl rfl rfl rfl rfl (Nat.le_of_ble_eq_true rfl) (by decide) [0, 1] rfl (by decide) [h, b] rfl rfl rfl rfl ?_
            exact w_retv hret dX11_replay_265 rfl rfl rfl ⟨rfl, (by unfold jnR; rw [hx]; first | (rw [if_neg (show ¬ jnB d = true by rw [hJ0]; decide)]; done) | (by_cases hJ : jnB d = true; (rw [if_pos hJ, show (im_at d 68 - y).toNat = 0 by omega, rps]); (rw [if_neg hJ])))⟩
          · refine w_iload_n C 2 dX11_replay_193 rfl ?_
            refine w_if_eq C 257 dX11_replay_194 rfl (by omega) (fun c_5 => ?_) (fun c_5 => ?_)
            · have hJ0 : jnB d = false := by cases z : jnB d with | false => rfl | true => (rw [z] at hs; change s3 = 1 at hs; omega)
              refine w_aload_n C 0 dX11_replay_257 rfl ?_
              refine w_bipush C dX11_replay_258 (by decide) ?_
              refine w_bipush C dX11_replay_260 (by decide) ?_
              refine w_callV (As := [.int (iI 64), .int (iI 64)]) (rest := []) (w2 := [(h, .inr (9, [.ref a, .ref b, .ref tk, .ref re, .ref qu, .int (iI hd), .int (iI tl), .ref nm, .int (iI nl)])), (b, .inl (gI G, 4096, .inl (arI (im_wipe x 64 64))))]) (st2 := []) C (ct_X11_clear G (kl k) h a b tk re qu nm hd tl nl x 64 64 (by unfold rgP; omega)) gX11_65 dX11_replay_262 0 rfl rfl rfl rfl rfl (Nat.le_of_ble_eq_true rfl) (by decide) [0, 1] rfl (by decide) [h, b] rfl rfl rfl rfl ?_
              exact w_retv hret dX11_replay_265 rfl rfl rfl ⟨rfl, (by unfold jnR; rw [hx]; first | (rw [if_neg (show ¬ jnB d = true by rw [hJ0]; decide)]; done) | (by_cases hJ : jnB d = true; (rw [if_pos hJ, show (im_at d 68 - y).toNat = 0 by omega, rps]); (rw [if_neg hJ])))⟩
            · have hJ : jnB d = true := by cases z : jnB d with | true => rfl | false => (rw [z] at hs; change s3 = 0 at hs; omega)
              have hK := jnB_ref d
              rw [hJ] at hK
              have hK2 : rpG d = true ∧ rpH d = true ∧ tgB d (im_at d 68).toNat = true := by have w := hK.symm; simp only [Bool.and_eq_true] at w; exact w
              have n5 : 1 ≤ im_at d 68 ∧ im_at d 68 ≤ 5 := by have w := hK2.1; unfold rpG at w; rw [Bool.and_eq_true, decide_eq_true_iff] at w; exact w.2
              have ex : im_at x (69 + y) = im_at d (69 + y) := by rw [im_at_in x (by omega), im_at_in d (by omega)]; exact hb _ (by omega)
              have ht := ((tgB_iff d (im_at d 68).toNat).mp hK2.2.2 y (by omega) (by omega)).1
              rw [← ex] at ht
              refine w_aload_n C 0 dX11_replay_197 rfl ?_
              refine w_get C 0 1 847 dX11_replay_198 rfl rfl inX11 (by decide) (by decide +kernel) rfl ?_
              refine w_bipush C dX11_replay_201 (by decide) ?_
              refine w_iload_n C 3 dX11_replay_203 rfl ?_
              refine w_iadd C dX11_replay_204 ?_
              refine w_iald C 1 dX11_replay_205 rfl (by omega) ?_
              have b_6 := x.2 (69 + y)
              refine w_st (st2 := [.int (iI (im_at x (69 + y)))]) (by rw [im_at_in x (by omega)]) ?_
              refine w_istore (lv2 := [(0, .ref h), (1, .int (iI (im_at d 68))), (2, .int (iI s3)), (3, .int (iI y)), (4, .int (iI (im_at x (69 + y))))]) C dX11_replay_206 (by decide) rfl ?_
              refine w_iconst C dX11_replay_208 ?_
              refine w_istore (lv2 := [(0, .ref h), (1, .int (iI (im_at d 68))), (2, .int (iI s3)), (3, .int (iI y)), (4, .int (iI (im_at x (69 + y)))), (5, .int (iI 0))]) C dX11_replay_209 (by decide) rfl ?_
              have L_211 : ∀ (nn_211 : Nat) (z2 : Int) (e : Im), (0 ≤ z2 ∧ z2 ≤ 64) → (e = cpy x x (64 * (2 + y)) (64 * im_at x (69 + y)) z2) → (64 - z2).toNat = nn_211 → Wd G k 6 0 0 [(h, .inr (9, [.ref a, .ref b, .ref tk, .ref re, .ref qu, .int (iI hd), .int (iI tl), .ref nm, .int (iI nl)])), (b, .inl (gI G, 4096, .inl (arI e)))] 211 [(0, .ref h), (1, .int (iI (im_at d 68))), (2, .int (iI s3)), (3, .int (iI y)), (4, .int (iI (im_at x (69 + y)))), (5, .int (iI z2))] [] := by
                intro nn_211
                induction nn_211 using Nat.strongRecOn with
                | ind nn_211 ih_211 =>
                  intro z2 e h7 he hm_211
                  refine w_iload C 5 dX11_replay_211 rfl ?_
                  refine w_bipush C dX11_replay_213 (by decide) ?_
                  refine w_icmp_ge C 251 dX11_replay_215 rfl (by omega) (fun c_7 => ?_) (fun c_7 => ?_)
                  · refine w_iinc (lv2 := [(0, .ref h), (1, .int (iI (im_at d 68))), (2, .int (iI s3)), (3, .int (iI (y + 1))), (4, .int (iI (im_at x (69 + y)))), (5, .int (iI z2))]) C 3 dX11_replay_251 rfl (by decide) rfl ?_
                    refine w_goto C 188 dX11_replay_254 rfl ?_
                    refine w_lv (lv2 := [(0, .ref h), (1, .int (iI (im_at d 68))), (2, .int (iI s3)), (3, .int (iI (y + 1)))]) [0, 1, 2, 3] rfl ?_
                    exact ih_188 _ (by omega) (y + 1) s3 e hs (by omega) (by rw [hx, if_pos hJ, if_pos hJ, show (im_at d 68 - y).toNat = (im_at d 68 - (y + 1)).toNat + 1 by omega, rps, show im_cpb x x (2 + y) (im_at x (69 + y)) = e from by unfold im_cpb; rw [if_pos (by omega), he, show (2 + y) * 64 = 64 * (2 + y) by omega, show im_at x (69 + y) * 64 = 64 * im_at x (69 + y) by omega, show z2 = 64 by omega]]) (fun j h => by rw [he]; show (if 64 * im_at x (69 + y) ≤ j ∧ j < 64 * im_at x (69 + y) + z2 then x.1 (64 * (2 + y) + (j - 64 * im_at x (69 + y))) else x.1 j) = d.1 j; rw [if_neg (by omega)]; exact hb j h) rfl
                  · refine w_aload_n C 0 dX11_replay_218 rfl ?_
                    refine w_get C 0 1 847 dX11_replay_219 rfl rfl inX11 (by decide) (by decide +kernel) rfl ?_
                    refine w_bipush C dX11_replay_222 (by decide) ?_
                    refine w_iload C 4 dX11_replay_224 rfl ?_
                    refine w_imul C dX11_replay_226 ?_
                    refine w_iload C 5 dX11_replay_227 rfl ?_
                    refine w_iadd C dX11_replay_229 ?_
                    refine w_aload_n C 0 dX11_replay_230 rfl ?_
                    refine w_get C 0 1 847 dX11_replay_231 rfl rfl inX11 (by decide) (by decide +kernel) rfl ?_
                    refine w_bipush C dX11_replay_234 (by decide) ?_
                    refine w_iconst C dX11_replay_236 ?_
                    refine w_iload_n C 3 dX11_replay_237 rfl ?_
                    refine w_iadd C dX11_replay_238 ?_
                    refine w_imul C dX11_replay_239 ?_
                    refine w_iload C 5 dX11_replay_240 rfl ?_
                    refine w_iadd C dX11_replay_242 ?_
                    refine w_iald C 1 dX11_replay_243 rfl (by omega) ?_
                    have b_8 := e.2 ((64 * (2 + y)) + z2)
                    refine w_iast (ws2 := [(h, .inr (9, [.ref a, .ref b, .ref tk, .ref re, .ref qu, .int (iI hd), .int (iI tl), .ref nm, .int (iI nl)])), (b, .inl (gI G, 4096, .inl (arI (up e ((64 * (im_at x (69 + y))) + z2) (e.1 ((64 * (2 + y)) + z2))))))]) C 1 dX11_replay_244 rfl (by omega) (by omega) rfl ?_
                    refine w_iinc (lv2 := [(0, .ref h), (1, .int (iI (im_at d 68))), (2, .int (iI s3)), (3, .int (iI y)), (4, .int (iI (im_at x (69 + y)))), (5, .int (iI (z2 + 1)))]) C 5 dX11_replay_245 rfl (by decide) rfl ?_
                    refine w_goto C 211 dX11_replay_248 rfl ?_
                    exact ih_211 _ (by omega) (z2 + 1) (up e ((64 * (im_at x (69 + y))) + z2) (e.1 ((64 * (2 + y)) + z2))) (by omega) (by rw [he]; exact cp2_next x (64 * (2 + y)) (64 * im_at x (69 + y)) z2 (by omega) (by omega)) rfl
              exact L_211 _ 0 x (by omega) (cp2_0 x _ _) rfl
      exact L_188 _ 0 0 d (by rw [jnB_ref, hG]; first | rfl | (rw [h3, show i = im_at d 68 by omega]; rfl)) (by omega) (by rw [show im_at d 68 - 0 = im_at d 68 by omega]) (fun j h => rfl) rfl
    · omega
  · have c1 := c_2
    refine w_iload_n C 1 dX11_replay_25 rfl ?_
    refine w_iconst C dX11_replay_26 ?_
    refine w_icmp_lt C 39 dX11_replay_27 rfl (by omega) (fun c_9 => ?_) (fun c_9 => ?_)
    · have hG : rpG d = false := by unfold rpG; rw [decide_eq_false (by omega), Bool.and_false]
      refine w_iconst C dX11_replay_39 ?_
      refine w_istore_n (lv2 := [(0, .ref h), (1, .int (iI (im_at d 68))), (2, .int (iI 0))]) C dX11_replay_40 (by decide) rfl ?_
      refine w_iload_n C 2 dX11_replay_41 rfl ?_
      refine w_if_eq C 186 dX11_replay_42 rfl (by omega) (fun c_10 => ?_) (fun c_10 => ?_)
      · refine w_iconst C dX11_replay_186 ?_
        refine w_istore_n (lv2 := [(0, .ref h), (1, .int (iI (im_at d 68))), (2, .int (iI 0)), (3, .int (iI 0))]) C dX11_replay_187 (by decide) rfl ?_
        have L_188 : ∀ (nn_188 : Nat) (y : Int) (s3 : Int) (x : Im), (s3 = bI (jnB d)) → (0 ≤ y ∧ (y ≤ im_at d 68 ∨ y = 0)) → ((if jnB d = true then rps (im_at d 68).toNat 0 d else d) = (if jnB d = true then rps (im_at d 68 - y).toNat y x else x)) → (∀ j : Int, j < 448 → x.1 j = d.1 j) → (im_at d 68 - y).toNat = nn_188 → Wd G k 6 0 0 [(h, .inr (9, [.ref a, .ref b, .ref tk, .ref re, .ref qu, .int (iI hd), .int (iI tl), .ref nm, .int (iI nl)])), (b, .inl (gI G, 4096, .inl (arI x)))] 188 [(0, .ref h), (1, .int (iI (im_at d 68))), (2, .int (iI s3)), (3, .int (iI y))] [] := by
          intro nn_188
          induction nn_188 using Nat.strongRecOn with
          | ind nn_188 ih_188 =>
            intro y s3 x hs hy hx hb hm_188
            have q3 := bI_rg (jnB d)
            have n0 := im_at_rg d 68
            refine w_iload_n C 3 dX11_replay_188 rfl ?_
            refine w_iload_n C 1 dX11_replay_189 rfl ?_
            refine w_icmp_ge C 257 dX11_replay_190 rfl (by omega) (fun c_11 => ?_) (fun c_11 => ?_)
            · refine w_aload_n C 0 dX11_replay_257 rfl ?_
              refine w_bipush C dX11_replay_258 (by decide) ?_
              refine w_bipush C dX11_replay_260 (by decide) ?_
              refine w_callV (As := [.int (iI 64), .int (iI 64)]) (rest := []) (w2 := [(h, .inr (9, [.ref a, .ref b, .ref tk, .ref re, .ref qu, .int (iI hd), .int (iI tl), .ref nm, .int (iI nl)])), (b, .inl (gI G, 4096, .inl (arI (im_wipe x 64 64))))]) (st2 := []) C (ct_X11_clear G (kl k) h a b tk re qu nm hd tl nl x 64 64 (by unfold rgP; omega)) gX11_65 dX11_replay_262 0 rfl rfl rfl rfl rfl (Nat.le_of_ble_eq_true rfl) (by decide) [0, 1] rfl (by decide) [h, b] rfl rfl rfl rfl ?_
              exact w_retv hret dX11_replay_265 rfl rfl rfl ⟨rfl, (by unfold jnR; rw [hx]; first | (rw [if_neg (show ¬ jnB d = true by rw [hJ0]; decide)]; done) | (by_cases hJ : jnB d = true; (rw [if_pos hJ, show (im_at d 68 - y).toNat = 0 by omega, rps]); (rw [if_neg hJ])))⟩
            · refine w_iload_n C 2 dX11_replay_193 rfl ?_
              refine w_if_eq C 257 dX11_replay_194 rfl (by omega) (fun c_12 => ?_) (fun c_12 => ?_)
              · have hJ0 : jnB d = false := by cases z : jnB d with | false => rfl | true => (rw [z] at hs; change s3 = 1 at hs; omega)
                refine w_aload_n C 0 dX11_replay_257 rfl ?_
                refine w_bipush C dX11_replay_258 (by decide) ?_
                refine w_bipush C dX11_replay_260 (by decide) ?_
                refine w_callV (As := [.int (iI 64), .int (iI 64)]) (rest := []) (w2 := [(h, .inr (9, [.ref a, .ref b, .ref tk, .ref re, .ref qu, .int (iI hd), .int (iI tl), .ref nm, .int (iI nl)])), (b, .inl (gI G, 4096, .inl (arI (im_wipe x 64 64))))]) (st2 := []) C (ct_X11_clear G (kl k) h a b tk re qu nm hd tl nl x 64 64 (by unfold rgP; omega)) gX11_65 dX11_replay_262 0 rfl rfl rfl rfl rfl (Nat.le_of_ble_eq_true rfl) (by decide) [0, 1] rfl (by decide) [h, b] rfl rfl rfl rfl ?_
                exact w_retv hret dX11_replay_265 rfl rfl rfl ⟨rfl, (by unfold jnR; rw [hx]; first | (rw [if_neg (show ¬ jnB d = true by rw [hJ0]; decide)]; done) | (by_cases hJ : jnB d = true; (rw [if_pos hJ, show (im_at d 68 - y).toNat = 0 by omega, rps]); (rw [if_neg hJ])))⟩
              · have hJ : jnB d = true := by cases z : jnB d with | true => rfl | false => (rw [z] at hs; change s3 = 0 at hs; omega)
                have hK := jnB_ref d
                rw [hJ] at hK
                have hK2 : rpG d = true ∧ rpH d = true ∧ tgB d (im_at d 68).toNat = true := by have w := hK.symm; simp only [Bool.and_eq_true] at w; exact w
                have n5 : 1 ≤ im_at d 68 ∧ im_at d 68 ≤ 5 := by have w := hK2.1; unfold rpG at w; rw [Bool.and_eq_true, decide_eq_true_iff] at w; exact w.2
                have ex : im_at x (69 + y) = im_at d (69 + y) := by rw [im_at_in x (by omega), im_at_in d (by omega)]; exact hb _ (by omega)
                have ht := ((tgB_iff d (im_at d 68).toNat).mp hK2.2.2 y (by omega) (by omega)).1
                rw [← ex] at ht
                refine w_aload_n C 0 dX11_replay_197 rfl ?_
                refine w_get C 0 1 847 dX11_replay_198 rfl rfl inX11 (by decide) (by decide +kernel) rfl ?_
                refine w_bipush C dX11_replay_201 (by decide) ?_
                refine w_iload_n C 3 dX11_replay_203 rfl ?_
                refine w_iadd C dX11_replay_204 ?_
                refine w_iald C 1 dX11_replay_205 rfl (by omega) ?_
                have b_13 := x.2 (69 + y)
                refine w_st (st2 := [.int (iI (im_at x (69 + y)))]) (by rw [im_at_in x (by omega)]) ?_
                refine w_istore (lv2 := [(0, .ref h), (1, .int (iI (im_at d 68))), (2, .int (iI s3)), (3, .int (iI y)), (4, .int (iI (im_at x (69 + y))))]) C dX11_replay_206 (by decide) rfl ?_
                refine w_iconst C dX11_replay_208 ?_
                refine w_istore (lv2 := [(0, .ref h), (1, .int (iI (im_at d 68))), (2, .int (iI s3)), (3, .int (iI y)), (4, .int (iI (im_at x (69 + y)))), (5, .int (iI 0))]) C dX11_replay_209 (by decide) rfl ?_
                have L_211 : ∀ (nn_211 : Nat) (z2 : Int) (e : Im), (0 ≤ z2 ∧ z2 ≤ 64) → (e = cpy x x (64 * (2 + y)) (64 * im_at x (69 + y)) z2) → (64 - z2).toNat = nn_211 → Wd G k 6 0 0 [(h, .inr (9, [.ref a, .ref b, .ref tk, .ref re, .ref qu, .int (iI hd), .int (iI tl), .ref nm, .int (iI nl)])), (b, .inl (gI G, 4096, .inl (arI e)))] 211 [(0, .ref h), (1, .int (iI (im_at d 68))), (2, .int (iI s3)), (3, .int (iI y)), (4, .int (iI (im_at x (69 + y)))), (5, .int (iI z2))] [] := by
                  intro nn_211
                  induction nn_211 using Nat.strongRecOn with
                  | ind nn_211 ih_211 =>
                    intro z2 e h7 he hm_211
                    refine w_iload C 5 dX11_replay_211 rfl ?_
                    refine w_bipush C dX11_replay_213 (by decide) ?_
                    refine w_icmp_ge C 251 dX11_replay_215 rfl (by omega) (fun c_14 => ?_) (fun c_14 => ?_)
                    · refine w_iinc (lv2 := [(0, .ref h), (1, .int (iI (im_at d 68))), (2, .int (iI s3)), (3, .int (iI (y + 1))), (4, .int (iI (im_at x (69 + y)))), (5, .int (iI z2))]) C 3 dX11_replay_251 rfl (by decide) rfl ?_
                      refine w_goto C 188 dX11_replay_254 rfl ?_
                      refine w_lv (lv2 := [(0, .ref h), (1, .int (iI (im_at d 68))), (2, .int (iI s3)), (3, .int (iI (y + 1)))]) [0, 1, 2, 3] rfl ?_
                      exact ih_188 _ (by omega) (y + 1) s3 e hs (by omega) (by rw [hx, if_pos hJ, if_pos hJ, show (im_at d 68 - y).toNat = (im_at d 68 - (y + 1)).toNat + 1 by omega, rps, show im_cpb x x (2 + y) (im_at x (69 + y)) = e from by unfold im_cpb; rw [if_pos (by omega), he, show (2 + y) * 64 = 64 * (2 + y) by omega, show im_at x (69 + y) * 64 = 64 * im_at x (69 + y) by omega, show z2 = 64 by omega]]) (fun j h => by rw [he]; show (if 64 * im_at x (69 + y) ≤ j ∧ j < 64 * im_at x (69 + y) + z2 then x.1 (64 * (2 + y) + (j - 64 * im_at x (69 + y))) else x.1 j) = d.1 j; rw [if_neg (by omega)]; exact hb j h) rfl
                    · refine w_aload_n C 0 dX11_replay_218 rfl ?_
                      refine w_get C 0 1 847 dX11_replay_219 rfl rfl inX11 (by decide) (by decide +kernel) rfl ?_
                      refine w_bipush C dX11_replay_222 (by decide) ?_
                      refine w_iload C 4 dX11_replay_224 rfl ?_
                      refine w_imul C dX11_replay_226 ?_
                      refine w_iload C 5 dX11_replay_227 rfl ?_
                      refine w_iadd C dX11_replay_229 ?_
                      refine w_aload_n C 0 dX11_replay_230 rfl ?_
                      refine w_get C 0 1 847 dX11_replay_231 rfl rfl inX11 (by decide) (by decide +kernel) rfl ?_
                      refine w_bipush C dX11_replay_234 (by decide) ?_
                      refine w_iconst C dX11_replay_236 ?_
                      refine w_iload_n C 3 dX11_replay_237 rfl ?_
                      refine w_iadd C dX11_replay_238 ?_
                      refine w_imul C dX11_replay_239 ?_
                      refine w_iload C 5 dX11_replay_240 rfl ?_
                      refine w_iadd C dX11_replay_242 ?_
                      refine w_iald C 1 dX11_replay_243 rfl (by omega) ?_
                      have b_15 := e.2 ((64 * (2 + y)) + z2)
                      refine w_iast (ws2 := [(h, .inr (9, [.ref a, .ref b, .ref tk, .ref re, .ref qu, .int (iI hd), .int (iI tl), .ref nm, .int (iI nl)])), (b, .inl (gI G, 4096, .inl (arI (up e ((64 * (im_at x (69 + y))) + z2) (e.1 ((64 * (2 + y)) + z2))))))]) C 1 dX11_replay_244 rfl (by omega) (by omega) rfl ?_
                      refine w_iinc (lv2 := [(0, .ref h), (1, .int (iI (im_at d 68))), (2, .int (iI s3)), (3, .int (iI y)), (4, .int (iI (im_at x (69 + y)))), (5, .int (iI (z2 + 1)))]) C 5 dX11_replay_245 rfl (by decide) rfl ?_
                      refine w_goto C 211 dX11_replay_248 rfl ?_
                      exact ih_211 _ (by omega) (z2 + 1) (up e ((64 * (im_at x (69 + y))) + z2) (e.1 ((64 * (2 + y)) + z2))) (by omega) (by rw [he]; exact cp2_next x (64 * (2 + y)) (64 * im_at x (69 + y)) z2 (by omega) (by omega)) rfl
                exact L_211 _ 0 x (by omega) (cp2_0 x _ _) rfl
        exact L_188 _ 0 0 d (by rw [jnB_ref, hG]; first | rfl | (rw [h3, show i = im_at d 68 by omega]; rfl)) (by omega) (by rw [show im_at d 68 - 0 = im_at d 68 by omega]) (fun j h => rfl) rfl
      · omega
    · refine w_iload_n C 1 dX11_replay_30 rfl ?_
      refine w_iconst C dX11_replay_31 ?_
      refine w_icmp_gt C 39 dX11_replay_32 rfl (by omega) (fun c_16 => ?_) (fun c_16 => ?_)
      · have hG : rpG d = false := by unfold rpG; rw [decide_eq_false (by omega), Bool.and_false]
        refine w_iconst C dX11_replay_39 ?_
        refine w_istore_n (lv2 := [(0, .ref h), (1, .int (iI (im_at d 68))), (2, .int (iI 0))]) C dX11_replay_40 (by decide) rfl ?_
        refine w_iload_n C 2 dX11_replay_41 rfl ?_
        refine w_if_eq C 186 dX11_replay_42 rfl (by omega) (fun c_17 => ?_) (fun c_17 => ?_)
        · refine w_iconst C dX11_replay_186 ?_
          refine w_istore_n (lv2 := [(0, .ref h), (1, .int (iI (im_at d 68))), (2, .int (iI 0)), (3, .int (iI 0))]) C dX11_replay_187 (by decide) rfl ?_
          have L_188 : ∀ (nn_188 : Nat) (y : Int) (s3 : Int) (x : Im), (s3 = bI (jnB d)) → (0 ≤ y ∧ (y ≤ im_at d 68 ∨ y = 0)) → ((if jnB d = true then rps (im_at d 68).toNat 0 d else d) = (if jnB d = true then rps (im_at d 68 - y).toNat y x else x)) → (∀ j : Int, j < 448 → x.1 j = d.1 j) → (im_at d 68 - y).toNat = nn_188 → Wd G k 6 0 0 [(h, .inr (9, [.ref a, .ref b, .ref tk, .ref re, .ref qu, .int (iI hd), .int (iI tl), .ref nm, .int (iI nl)])), (b, .inl (gI G, 4096, .inl (arI x)))] 188 [(0, .ref h), (1, .int (iI (im_at d 68))), (2, .int (iI s3)), (3, .int (iI y))] [] := by
            intro nn_188
            induction nn_188 using Nat.strongRecOn with
            | ind nn_188 ih_188 =>
              intro y s3 x hs hy hx hb hm_188
              have q3 := bI_rg (jnB d)
              have n0 := im_at_rg d 68
              refine w_iload_n C 3 dX11_replay_188 rfl ?_
              refine w_iload_n C 1 dX11_replay_189 rfl ?_
              refine w_icmp_ge C 257 dX11_replay_190 rfl (by omega) (fun c_18 => ?_) (fun c_18 => ?_)
              · refine w_aload_n C 0 dX11_replay_257 rfl ?_
                refine w_bipush C dX11_replay_258 (by decide) ?_
                refine w_bipush C dX11_replay_260 (by decide) ?_
                refine w_callV (As := [.int (iI 64), .int (iI 64)]) (rest := []) (w2 := [(h, .inr (9, [.ref a, .ref b, .ref tk, .ref re, .ref qu, .int (iI hd), .int (iI tl), .ref nm, .int (iI nl)])), (b, .inl (gI G, 4096, .inl (arI (im_wipe x 64 64))))]) (st2 := []) C (ct_X11_clear G (kl k) h a b tk re qu nm hd tl nl x 64 64 (by unfold rgP; omega)) gX11_65 dX11_replay_262 0 rfl rfl rfl rfl rfl (Nat.le_of_ble_eq_true rfl) (by decide) [0, 1] rfl (by decide) [h, b] rfl rfl rfl rfl ?_
                exact w_retv hret dX11_replay_265 rfl rfl rfl ⟨rfl, (by unfold jnR; rw [hx]; first | (rw [if_neg (show ¬ jnB d = true by rw [hJ0]; decide)]; done) | (by_cases hJ : jnB d = true; (rw [if_pos hJ, show (im_at d 68 - y).toNat = 0 by omega, rps]); (rw [if_neg hJ])))⟩
              · refine w_iload_n C 2 dX11_replay_193 rfl ?_
                refine w_if_eq C 257 dX11_replay_194 rfl (by omega) (fun c_19 => ?_) (fun c_19 => ?_)
                · have hJ0 : jnB d = false := by cases z : jnB d with | false => rfl | true => (rw [z] at hs; change s3 = 1 at hs; omega)
                  refine w_aload_n C 0 dX11_replay_257 rfl ?_
                  refine w_bipush C dX11_replay_258 (by decide) ?_
                  refine w_bipush C dX11_replay_260 (by decide) ?_
                  refine w_callV (As := [.int (iI 64), .int (iI 64)]) (rest := []) (w2 := [(h, .inr (9, [.ref a, .ref b, .ref tk, .ref re, .ref qu, .int (iI hd), .int (iI tl), .ref nm, .int (iI nl)])), (b, .inl (gI G, 4096, .inl (arI (im_wipe x 64 64))))]) (st2 := []) C (ct_X11_clear G (kl k) h a b tk re qu nm hd tl nl x 64 64 (by unfold rgP; omega)) gX11_65 dX11_replay_262 0 rfl rfl rfl rfl rfl (Nat.le_of_ble_eq_true rfl) (by decide) [0, 1] rfl (by decide) [h, b] rfl rfl rfl rfl ?_
                  exact w_retv hret dX11_replay_265 rfl rfl rfl ⟨rfl, (by unfold jnR; rw [hx]; first | (rw [if_neg (show ¬ jnB d = true by rw [hJ0]; decide)]; done) | (by_cases hJ : jnB d = true; (rw [if_pos hJ, show (im_at d 68 - y).toNat = 0 by omega, rps]); (rw [if_neg hJ])))⟩
                · have hJ : jnB d = true := by cases z : jnB d with | true => rfl | false => (rw [z] at hs; change s3 = 0 at hs; omega)
                  have hK := jnB_ref d
                  rw [hJ] at hK
                  have hK2 : rpG d = true ∧ rpH d = true ∧ tgB d (im_at d 68).toNat = true := by have w := hK.symm; simp only [Bool.and_eq_true] at w; exact w
                  have n5 : 1 ≤ im_at d 68 ∧ im_at d 68 ≤ 5 := by have w := hK2.1; unfold rpG at w; rw [Bool.and_eq_true, decide_eq_true_iff] at w; exact w.2
                  have ex : im_at x (69 + y) = im_at d (69 + y) := by rw [im_at_in x (by omega), im_at_in d (by omega)]; exact hb _ (by omega)
                  have ht := ((tgB_iff d (im_at d 68).toNat).mp hK2.2.2 y (by omega) (by omega)).1
                  rw [← ex] at ht
                  refine w_aload_n C 0 dX11_replay_197 rfl ?_
                  refine w_get C 0 1 847 dX11_replay_198 rfl rfl inX11 (by decide) (by decide +kernel) rfl ?_
                  refine w_bipush C dX11_replay_201 (by decide) ?_
                  refine w_iload_n C 3 dX11_replay_203 rfl ?_
                  refine w_iadd C dX11_replay_204 ?_
                  refine w_iald C 1 dX11_replay_205 rfl (by omega) ?_
                  have b_20 := x.2 (69 + y)
                  refine w_st (st2 := [.int (iI (im_at x (69 + y)))]) (by rw [im_at_in x (by omega)]) ?_
                  refine w_istore (lv2 := [(0, .ref h), (1, .int (iI (im_at d 68))), (2, .int (iI s3)), (3, .int (iI y)), (4, .int (iI (im_at x (69 + y))))]) C dX11_replay_206 (by decide) rfl ?_
                  refine w_iconst C dX11_replay_208 ?_
                  refine w_istore (lv2 := [(0, .ref h), (1, .int (iI (im_at d 68))), (2, .int (iI s3)), (3, .int (iI y)), (4, .int (iI (im_at x (69 + y)))), (5, .int (iI 0))]) C dX11_replay_209 (by decide) rfl ?_
                  have L_211 : ∀ (nn_211 : Nat) (z2 : Int) (e : Im), (0 ≤ z2 ∧ z2 ≤ 64) → (e = cpy x x (64 * (2 + y)) (64 * im_at x (69 + y)) z2) → (64 - z2).toNat = nn_211 → Wd G k 6 0 0 [(h, .inr (9, [.ref a, .ref b, .ref tk, .ref re, .ref qu, .int (iI hd), .int (iI tl), .ref nm, .int (iI nl)])), (b, .inl (gI G, 4096, .inl (arI e)))] 211 [(0, .ref h), (1, .int (iI (im_at d 68))), (2, .int (iI s3)), (3, .int (iI y)), (4, .int (iI (im_at x (69 + y)))), (5, .int (iI z2))] [] := by
                    intro nn_211
                    induction nn_211 using Nat.strongRecOn with
                    | ind nn_211 ih_211 =>
                      intro z2 e h7 he hm_211
                      refine w_iload C 5 dX11_replay_211 rfl ?_
                      refine w_bipush C dX11_replay_213 (by decide) ?_
                      refine w_icmp_ge C 251 dX11_replay_215 rfl (by omega) (fun c_21 => ?_) (fun c_21 => ?_)
                      · refine w_iinc (lv2 := [(0, .ref h), (1, .int (iI (im_at d 68))), (2, .int (iI s3)), (3, .int (iI (y + 1))), (4, .int (iI (im_at x (69 + y)))), (5, .int (iI z2))]) C 3 dX11_replay_251 rfl (by decide) rfl ?_
                        refine w_goto C 188 dX11_replay_254 rfl ?_
                        refine w_lv (lv2 := [(0, .ref h), (1, .int (iI (im_at d 68))), (2, .int (iI s3)), (3, .int (iI (y + 1)))]) [0, 1, 2, 3] rfl ?_
                        exact ih_188 _ (by omega) (y + 1) s3 e hs (by omega) (by rw [hx, if_pos hJ, if_pos hJ, show (im_at d 68 - y).toNat = (im_at d 68 - (y + 1)).toNat + 1 by omega, rps, show im_cpb x x (2 + y) (im_at x (69 + y)) = e from by unfold im_cpb; rw [if_pos (by omega), he, show (2 + y) * 64 = 64 * (2 + y) by omega, show im_at x (69 + y) * 64 = 64 * im_at x (69 + y) by omega, show z2 = 64 by omega]]) (fun j h => by rw [he]; show (if 64 * im_at x (69 + y) ≤ j ∧ j < 64 * im_at x (69 + y) + z2 then x.1 (64 * (2 + y) + (j - 64 * im_at x (69 + y))) else x.1 j) = d.1 j; rw [if_neg (by omega)]; exact hb j h) rfl
                      · refine w_aload_n C 0 dX11_replay_218 rfl ?_
                        refine w_get C 0 1 847 dX11_replay_219 rfl rfl inX11 (by decide) (by decide +kernel) rfl ?_
                        refine w_bipush C dX11_replay_222 (by decide) ?_
                        refine w_iload C 4 dX11_replay_224 rfl ?_
                        refine w_imul C dX11_replay_226 ?_
                        refine w_iload C 5 dX11_replay_227 rfl ?_
                        refine w_iadd C dX11_replay_229 ?_
                        refine w_aload_n C 0 dX11_replay_230 rfl ?_
                        refine w_get C 0 1 847 dX11_replay_231 rfl rfl inX11 (by decide) (by decide +kernel) rfl ?_
                        refine w_bipush C dX11_replay_234 (by decide) ?_
                        refine w_iconst C dX11_replay_236 ?_
                        refine w_iload_n C 3 dX11_replay_237 rfl ?_
                        refine w_iadd C dX11_replay_238 ?_
                        refine w_imul C dX11_replay_239 ?_
                        refine w_iload C 5 dX11_replay_240 rfl ?_
                        refine w_iadd C dX11_replay_242 ?_
                        refine w_iald C 1 dX11_replay_243 rfl (by omega) ?_
                        have b_22 := e.2 ((64 * (2 + y)) + z2)
                        refine w_iast (ws2 := [(h, .inr (9, [.ref a, .ref b, .ref tk, .ref re, .ref qu, .int (iI hd), .int (iI tl), .ref nm, .int (iI nl)])), (b, .inl (gI G, 4096, .inl (arI (up e ((64 * (im_at x (69 + y))) + z2) (e.1 ((64 * (2 + y)) + z2))))))]) C 1 dX11_replay_244 rfl (by omega) (by omega) rfl ?_
                        refine w_iinc (lv2 := [(0, .ref h), (1, .int (iI (im_at d 68))), (2, .int (iI s3)), (3, .int (iI y)), (4, .int (iI (im_at x (69 + y)))), (5, .int (iI (z2 + 1)))]) C 5 dX11_replay_245 rfl (by decide) rfl ?_
                        refine w_goto C 211 dX11_replay_248 rfl ?_
                        exact ih_211 _ (by omega) (z2 + 1) (up e ((64 * (im_at x (69 + y))) + z2) (e.1 ((64 * (2 + y)) + z2))) (by omega) (by rw [he]; exact cp2_next x (64 * (2 + y)) (64 * im_at x (69 + y)) z2 (by omega) (by omega)) rfl
                  exact L_211 _ 0 x (by omega) (cp2_0 x _ _) rfl
          exact L_188 _ 0 0 d (by rw [jnB_ref, hG]; first | rfl | (rw [h3, show i = im_at d 68 by omega]; rfl)) (by omega) (by rw [show im_at d 68 - 0 = im_at d 68 by omega]) (fun j h => rfl) rfl
        · omega
      · have hG : rpG d = true := by unfold rpG; rw [show hasB d 64 74 82 78 76 = true from c1, decide_eq_true (by omega)]; rfl
        refine w_iconst C dX11_replay_35 ?_
        refine w_goto C 40 dX11_replay_36 rfl ?_
        refine w_istore_n (lv2 := [(0, .ref h), (1, .int (iI (im_at d 68))), (2, .int (iI 1))]) C dX11_replay_40 (by decide) rfl ?_
        refine w_iload_n C 2 dX11_replay_41 rfl ?_
        refine w_if_eq C 186 dX11_replay_42 rfl (by omega) (fun c_23 => ?_) (fun c_23 => ?_)
        · omega
        · refine w_aload_n C 0 dX11_replay_45 rfl ?_
          refine w_bipush C dX11_replay_46 (by decide) ?_
          refine w_iload_n C 1 dX11_replay_48 rfl ?_
          refine w_iadd C dX11_replay_49 ?_
          refine w_bipush C dX11_replay_50 (by decide) ?_
          refine w_iload_n C 1 dX11_replay_52 rfl ?_
          refine w_isub C dX11_replay_53 ?_
          refine w_callV (As := [.int (iI (69 + (im_at d 68))), .int (iI (57 - (im_at d 68)))]) (rest := []) (w2 := [(h, .inr (9, [.ref a, .ref b, .ref tk, .ref re, .ref qu, .int (iI hd), .int (iI tl), .ref nm, .int (iI nl)])), (b, .inl (gI G, 4096, .inl (arI d)))]) (st2 := [.int (iI (bI (im_blank d (69 + (im_at d 68)) (57 - (im_at d 68)))))]) C (ct_X11_isClear G (kl k) h a b tk re qu nm hd tl nl d (69 + (im_at d 68)) (57 - (im_at d 68)) (by unfold rgP; omega)) gX11_48 dX11_replay_54 0 rfl rfl rfl rfl rfl (Nat.le_of_ble_eq_true rfl) (by decide) [0, 1] rfl (by decide) [h, b] rfl rfl rfl rfl ?_
          refine w_bz C 96 dX11_replay_57 rfl (fun c_24 => ?_) (fun c_24 => ?_)
          · have hH : rpH d = false := by unfold rpH; rw [c_24]; rfl
            refine w_iconst C dX11_replay_96 ?_
            refine w_istore_n (lv2 := [(0, .ref h), (1, .int (iI (im_at d 68))), (2, .int (iI 0))]) C dX11_replay_97 (by decide) rfl ?_
            refine w_iconst C dX11_replay_98 ?_
            refine w_istore_n (lv2 := [(0, .ref h), (1, .int (iI (im_at d 68))), (2, .int (iI 0)), (3, .int (iI 0))]) C dX11_replay_99 (by decide) rfl ?_
            have L_100 : ∀ (nn_100 : Nat) (i : Int) (s : Int), (0 ≤ i ∧ i ≤ im_at d 68) → (s = bI (rpH d && tgB d i.toNat)) → (im_at d 68 - i).toNat = nn_100 → Wd G k 6 0 0 [(h, .inr (9, [.ref a, .ref b, .ref tk, .ref re, .ref qu, .int (iI hd), .int (iI tl), .ref nm, .int (iI nl)])), (b, .inl (gI G, 4096, .inl (arI d)))] 100 [(0, .ref h), (1, .int (iI (im_at d 68))), (2, .int (iI s)), (3, .int (iI i))] [] := by
              intro nn_100
              induction nn_100 using Nat.strongRecOn with
              | ind nn_100 ih_100 =>
                intro i s h1 h3 hm_100
                have q1 := bI_rg (rpH d && tgB d i.toNat)
                refine w_iload_n C 3 dX11_replay_100 rfl ?_
                refine w_iload_n C 1 dX11_replay_101 rfl ?_
                refine w_icmp_ge C 186 dX11_replay_102 rfl (by omega) (fun c_25 => ?_) (fun c_25 => ?_)
                · refine w_iconst C dX11_replay_186 ?_
                  refine w_istore_n (lv2 := [(0, .ref h), (1, .int (iI (im_at d 68))), (2, .int (iI s)), (3, .int (iI 0))]) C dX11_replay_187 (by decide) rfl ?_
                  have L_188 : ∀ (nn_188 : Nat) (y : Int) (s3 : Int) (x : Im), (s3 = bI (jnB d)) → (0 ≤ y ∧ (y ≤ im_at d 68 ∨ y = 0)) → ((if jnB d = true then rps (im_at d 68).toNat 0 d else d) = (if jnB d = true then rps (im_at d 68 - y).toNat y x else x)) → (∀ j : Int, j < 448 → x.1 j = d.1 j) → (im_at d 68 - y).toNat = nn_188 → Wd G k 6 0 0 [(h, .inr (9, [.ref a, .ref b, .ref tk, .ref re, .ref qu, .int (iI hd), .int (iI tl), .ref nm, .int (iI nl)])), (b, .inl (gI G, 4096, .inl (arI x)))] 188 [(0, .ref h), (1, .int (iI (im_at d 68))), (2, .int (iI s3)), (3, .int (iI y))] [] := by
                    intro nn_188
                    induction nn_188 using Nat.strongRecOn with
                    | ind nn_188 ih_188 =>
                      intro y s3 x hs hy hx hb hm_188
                      have q3 := bI_rg (jnB d)
                      have n0 := im_at_rg d 68
                      refine w_iload_n C 3 dX11_replay_188 rfl ?_
                      refine w_iload_n C 1 dX11_replay_189 rfl ?_
                      refine w_icmp_ge C 257 dX11_replay_190 rfl (by omega) (fun c_26 => ?_) (fun c_26 => ?_)
                      · refine w_aload_n C 0 dX11_replay_257 rfl ?_
                        refine w_bipush C dX11_replay_258 (by decide) ?_
                        refine w_bipush C dX11_replay_260 (by decide) ?_
                        refine w_callV (As := [.int (iI 64), .int (iI 64)]) (rest := []) (w2 := [(h, .inr (9, [.ref a, .ref b, .ref tk, .ref re, .ref qu, .int (iI hd), .int (iI tl), .ref nm, .int (iI nl)])), (b, .inl (gI G, 4096, .inl (arI (im_wipe x 64 64))))]) (st2 := []) C (ct_X11_clear G (kl k) h a b tk re qu nm hd tl nl x 64 64 (by unfold rgP; omega)) gX11_65 dX11_replay_262 0 rfl rfl rfl rfl rfl (Nat.le_of_ble_eq_true rfl) (by decide) [0, 1] rfl (by decide) [h, b] rfl rfl rfl rfl ?_
                        exact w_retv hret dX11_replay_265 rfl rfl rfl ⟨rfl, (by unfold jnR; rw [hx]; first | (rw [if_neg (show ¬ jnB d = true by rw [hJ0]; decide)]; done) | (by_cases hJ : jnB d = true; (rw [if_pos hJ, show (im_at d 68 - y).toNat = 0 by omega, rps]); (rw [if_neg hJ])))⟩
                      · refine w_iload_n C 2 dX11_replay_193 rfl ?_
                        refine w_if_eq C 257 dX11_replay_194 rfl (by omega) (fun c_27 => ?_) (fun c_27 => ?_)
                        · have hJ0 : jnB d = false := by cases z : jnB d with | false => rfl | true => (rw [z] at hs; change s3 = 1 at hs; omega)
                          refine w_aload_n C 0 dX11_replay_257 rfl ?_
                          refine w_bipush C dX11_replay_258 (by decide) ?_
                          refine w_bipush C dX11_replay_260 (by decide) ?_
                          refine w_callV (As := [.int (iI 64), .int (iI 64)]) (rest := []) (w2 := [(h, .inr (9, [.ref a, .ref b, .ref tk, .ref re, .ref qu, .int (iI hd), .int (iI tl), .ref nm, .int (iI nl)])), (b, .inl (gI G, 4096, .inl (arI (im_wipe x 64 64))))]) (st2 := []) C (ct_X11_clear G (kl k) h a b tk re qu nm hd tl nl x 64 64 (by unfold rgP; omega)) gX11_65 dX11_replay_262 0 rfl rfl rfl rfl rfl (Nat.le_of_ble_eq_true rfl) (by decide) [0, 1] rfl (by decide) [h, b] rfl rfl rfl rfl ?_
                          exact w_retv hret dX11_replay_265 rfl rfl rfl ⟨rfl, (by unfold jnR; rw [hx]; first | (rw [if_neg (show ¬ jnB d = true by rw [hJ0]; decide)]; done) | (by_cases hJ : jnB d = true; (rw [if_pos hJ, show (im_at d 68 - y).toNat = 0 by omega, rps]); (rw [if_neg hJ])))⟩
                        · have hJ : jnB d = true := by cases z : jnB d with | true => rfl | false => (rw [z] at hs; change s3 = 0 at hs; omega)
                          have hK := jnB_ref d
                          rw [hJ] at hK
                          have hK2 : rpG d = true ∧ rpH d = true ∧ tgB d (im_at d 68).toNat = true := by have w := hK.symm; simp only [Bool.and_eq_true] at w; exact w
                          have n5 : 1 ≤ im_at d 68 ∧ im_at d 68 ≤ 5 := by have w := hK2.1; unfold rpG at w; rw [Bool.and_eq_true, decide_eq_true_iff] at w; exact w.2
                          have ex : im_at x (69 + y) = im_at d (69 + y) := by rw [im_at_in x (by omega), im_at_in d (by omega)]; exact hb _ (by omega)
                          have ht := ((tgB_iff d (im_at d 68).toNat).mp hK2.2.2 y (by omega) (by omega)).1
                          rw [← ex] at ht
                          refine w_aload_n C 0 dX11_replay_197 rfl ?_
                          refine w_get C 0 1 847 dX11_replay_198 rfl rfl inX11 (by decide) (by decide +kernel) rfl ?_
                          refine w_bipush C dX11_replay_201 (by decide) ?_
                          refine w_iload_n C 3 dX11_replay_203 rfl ?_
                          refine w_iadd C dX11_replay_204 ?_
                          refine w_iald C 1 dX11_replay_205 rfl (by omega) ?_
                          have b_28 := x.2 (69 + y)
                          refine w_st (st2 := [.int (iI (im_at x (69 + y)))]) (by rw [im_at_in x (by omega)]) ?_
                          refine w_istore (lv2 := [(0, .ref h), (1, .int (iI (im_at d 68))), (2, .int (iI s3)), (3, .int (iI y)), (4, .int (iI (im_at x (69 + y))))]) C dX11_replay_206 (by decide) rfl ?_
                          refine w_iconst C dX11_replay_208 ?_
                          refine w_istore (lv2 := [(0, .ref h), (1, .int (iI (im_at d 68))), (2, .int (iI s3)), (3, .int (iI y)), (4, .int (iI (im_at x (69 + y)))), (5, .int (iI 0))]) C dX11_replay_209 (by decide) rfl ?_
                          have L_211 : ∀ (nn_211 : Nat) (z2 : Int) (e : Im), (0 ≤ z2 ∧ z2 ≤ 64) → (e = cpy x x (64 * (2 + y)) (64 * im_at x (69 + y)) z2) → (64 - z2).toNat = nn_211 → Wd G k 6 0 0 [(h, .inr (9, [.ref a, .ref b, .ref tk, .ref re, .ref qu, .int (iI hd), .int (iI tl), .ref nm, .int (iI nl)])), (b, .inl (gI G, 4096, .inl (arI e)))] 211 [(0, .ref h), (1, .int (iI (im_at d 68))), (2, .int (iI s3)), (3, .int (iI y)), (4, .int (iI (im_at x (69 + y)))), (5, .int (iI z2))] [] := by
                            intro nn_211
                            induction nn_211 using Nat.strongRecOn with
                            | ind nn_211 ih_211 =>
                              intro z2 e h7 he hm_211
                              refine w_iload C 5 dX11_replay_211 rfl ?_
                              refine w_bipush C dX11_replay_213 (by decide) ?_
                              refine w_icmp_ge C 251 dX11_replay_215 rfl (by omega) (fun c_29 => ?_) (fun c_29 => ?_)
                              · refine w_iinc (lv2 := [(0, .ref h), (1, .int (iI (im_at d 68))), (2, .int (iI s3)), (3, .int (iI (y + 1))), (4, .int (iI (im_at x (69 + y)))), (5, .int (iI z2))]) C 3 dX11_replay_251 rfl (by decide) rfl ?_
                                refine w_goto C 188 dX11_replay_254 rfl ?_
                                refine w_lv (lv2 := [(0, .ref h), (1, .int (iI (im_at d 68))), (2, .int (iI s3)), (3, .int (iI (y + 1)))]) [0, 1, 2, 3] rfl ?_
                                exact ih_188 _ (by omega) (y + 1) s3 e hs (by omega) (by rw [hx, if_pos hJ, if_pos hJ, show (im_at d 68 - y).toNat = (im_at d 68 - (y + 1)).toNat + 1 by omega, rps, show im_cpb x x (2 + y) (im_at x (69 + y)) = e from by unfold im_cpb; rw [if_pos (by omega), he, show (2 + y) * 64 = 64 * (2 + y) by omega, show im_at x (69 + y) * 64 = 64 * im_at x (69 + y) by omega, show z2 = 64 by omega]]) (fun j h => by rw [he]; show (if 64 * im_at x (69 + y) ≤ j ∧ j < 64 * im_at x (69 + y) + z2 then x.1 (64 * (2 + y) + (j - 64 * im_at x (69 + y))) else x.1 j) = d.1 j; rw [if_neg (by omega)]; exact hb j h) rfl
                              · refine w_aload_n C 0 dX11_replay_218 rfl ?_
                                refine w_get C 0 1 847 dX11_replay_219 rfl rfl inX11 (by decide) (by decide +kernel) rfl ?_
                                refine w_bipush C dX11_replay_222 (by decide) ?_
                                refine w_iload C 4 dX11_replay_224 rfl ?_
                                refine w_imul C dX11_replay_226 ?_
                                refine w_iload C 5 dX11_replay_227 rfl ?_
                                refine w_iadd C dX11_replay_229 ?_
                                refine w_aload_n C 0 dX11_replay_230 rfl ?_
                                refine w_get C 0 1 847 dX11_replay_231 rfl rfl inX11 (by decide) (by decide +kernel) rfl ?_
                                refine w_bipush C dX11_replay_234 (by decide) ?_
                                refine w_iconst C dX11_replay_236 ?_
                                refine w_iload_n C 3 dX11_replay_237 rfl ?_
                                refine w_iadd C dX11_replay_238 ?_
                                refine w_imul C dX11_replay_239 ?_
                                refine w_iload C 5 dX11_replay_240 rfl ?_
                                refine w_iadd C dX11_replay_242 ?_
                                refine w_iald C 1 dX11_replay_243 rfl (by omega) ?_
                                have b_30 := e.2 ((64 * (2 + y)) + z2)
                                refine w_iast (ws2 := [(h, .inr (9, [.ref a, .ref b, .ref tk, .ref re, .ref qu, .int (iI hd), .int (iI tl), .ref nm, .int (iI nl)])), (b, .inl (gI G, 4096, .inl (arI (up e ((64 * (im_at x (69 + y))) + z2) (e.1 ((64 * (2 + y)) + z2))))))]) C 1 dX11_replay_244 rfl (by omega) (by omega) rfl ?_
                                refine w_iinc (lv2 := [(0, .ref h), (1, .int (iI (im_at d 68))), (2, .int (iI s3)), (3, .int (iI y)), (4, .int (iI (im_at x (69 + y)))), (5, .int (iI (z2 + 1)))]) C 5 dX11_replay_245 rfl (by decide) rfl ?_
                                refine w_goto C 211 dX11_replay_248 rfl ?_
                                exact ih_211 _ (by omega) (z2 + 1) (up e ((64 * (im_at x (69 + y))) + z2) (e.1 ((64 * (2 + y)) + z2))) (by omega) (by rw [he]; exact cp2_next x (64 * (2 + y)) (64 * im_at x (69 + y)) z2 (by omega) (by omega)) rfl
                          exact L_211 _ 0 x (by omega) (cp2_0 x _ _) rfl
                  exact L_188 _ 0 s d (by rw [jnB_ref, hG]; first | rfl | (rw [h3, show i = im_at d 68 by omega]; rfl)) (by omega) (by rw [show im_at d 68 - 0 = im_at d 68 by omega]) (fun j h => rfl) rfl
                · refine w_aload_n C 0 dX11_replay_105 rfl ?_
                  refine w_get C 0 1 847 dX11_replay_106 rfl rfl inX11 (by decide) (by decide +kernel) rfl ?_
                  refine w_bipush C dX11_replay_109 (by decide) ?_
                  refine w_iload_n C 3 dX11_replay_111 rfl ?_
                  refine w_iadd C dX11_replay_112 ?_
                  refine w_iald C 1 dX11_replay_113 rfl (by omega) ?_
                  have b_31 := d.2 (69 + i)
                  refine w_st (st2 := [.int (iI (im_at d (69 + i)))]) (by rw [im_at_in d (by omega)]) ?_
                  refine w_istore (lv2 := [(0, .ref h), (1, .int (iI (im_at d 68))), (2, .int (iI s)), (3, .int (iI i)), (4, .int (iI (im_at d (69 + i))))]) C dX11_replay_114 (by decide) rfl ?_
                  have t0 := im_at_rg d (69 + i)
                  refine w_iload_n C 2 dX11_replay_116 rfl ?_
                  refine w_if_eq C 138 dX11_replay_117 rfl (by omega) (fun c_32 => ?_) (fun c_32 => ?_)
                  · refine w_iconst C dX11_replay_138 ?_
                    refine w_istore_n (lv2 := [(0, .ref h), (1, .int (iI (im_at d 68))), (2, .int (iI 0)), (3, .int (iI i)), (4, .int (iI (im_at d (69 + i))))]) C dX11_replay_139 (by decide) rfl ?_
                    refine w_iconst C dX11_replay_140 ?_
                    refine w_istore (lv2 := [(0, .ref h), (1, .int (iI (im_at d 68))), (2, .int (iI 0)), (3, .int (iI i)), (4, .int (iI (im_at d (69 + i)))), (5, .int (iI 0))]) C dX11_replay_141 (by decide) rfl ?_
                    have L_143 : ∀ (nn_143 : Nat) (jj : Int) (s2 : Int), (0 ≤ jj ∧ jj ≤ i) → (s2 = bI ((rpH d && tgB d i.toNat) && (decide (7 ≤ im_at d (69 + i) ∧ im_at d (69 + i) < 63) && dsB d i jj.toNat))) → (i - jj).toNat = nn_143 → Wd G k 6 0 0 [(h, .inr (9, [.ref a, .ref b, .ref tk, .ref re, .ref qu, .int (iI hd), .int (iI tl), .ref nm, .int (iI nl)])), (b, .inl (gI G, 4096, .inl (arI d)))] 143 [(0, .ref h), (1, .int (iI (im_at d 68))), (2, .int (iI s2)), (3, .int (iI i)), (4, .int (iI (im_at d (69 + i)))), (5, .int (iI jj))] [] := by
                      intro nn_143
                      induction nn_143 using Nat.strongRecOn with
                      | ind nn_143 ih_143 =>
                        intro jj s2 h5 h6 hm_143
                        have q2 := bI_rg ((rpH d && tgB d i.toNat) && (decide (7 ≤ im_at d (69 + i) ∧ im_at d (69 + i) < 63) && dsB d i jj.toNat))
                        have t1 := im_at_rg d (69 + jj)
                        refine w_iload C 5 dX11_replay_143 rfl ?_
                        refine w_iload_n C 3 dX11_replay_145 rfl ?_
                        refine w_icmp_ge C 180 dX11_replay_146 rfl (by omega) (fun c_33 => ?_) (fun c_33 => ?_)
                        · refine w_iinc (lv2 := [(0, .ref h), (1, .int (iI (im_at d 68))), (2, .int (iI s2)), (3, .int (iI (i + 1))), (4, .int (iI (im_at d (69 + i)))), (5, .int (iI jj))]) C 3 dX11_replay_180 rfl (by decide) rfl ?_
                          refine w_goto C 100 dX11_replay_183 rfl ?_
                          refine w_lv (lv2 := [(0, .ref h), (1, .int (iI (im_at d 68))), (2, .int (iI s2)), (3, .int (iI (i + 1)))]) [0, 1, 2, 3] rfl ?_
                          exact ih_100 _ (by omega) (i + 1) s2 (by omega) (by rw [h6, show (i + 1).toNat = i.toNat + 1 by omega, tgB, show ((i.toNat : Nat) : Int) = i by omega, show jj = i by omega, Bool.and_assoc]) rfl
                        · refine w_iload_n C 2 dX11_replay_149 rfl ?_
                          refine w_if_eq C 172 dX11_replay_150 rfl (by omega) (fun c_34 => ?_) (fun c_34 => ?_)
                          · refine w_iconst C dX11_replay_172 ?_
                            refine w_istore_n (lv2 := [(0, .ref h), (1, .int (iI (im_at d 68))), (2, .int (iI 0)), (3, .int (iI i)), (4, .int (iI (im_at d (69 + i)))), (5, .int (iI jj))]) C dX11_replay_173 (by decide) rfl ?_
                            refine w_iinc (lv2 := [(0, .ref h), (1, .int (iI (im_at d 68))), (2, .int (iI 0)), (3, .int (iI i)), (4, .int (iI (im_at d (69 + i)))), (5, .int (iI (jj + 1)))]) C 5 dX11_replay_174 rfl (by decide) rfl ?_
                            refine w_goto C 143 dX11_replay_177 rfl ?_
                            exact ih_143 _ (by omega) (jj + 1) 0 (by omega) (by rw [show (jj + 1).toNat = jj.toNat + 1 by omega, dsB, show ((jj.toNat : Nat) : Int) = jj by omega, ← Bool.and_assoc, ← Bool.and_assoc, Bool.and_assoc (rpH d && tgB d i.toNat)]; cases z : ((rpH d && tgB d i.toNat) && (decide (7 ≤ im_at d (69 + i) ∧ im_at d (69 + i) < 63) && dsB d i jj.toNat)) with | false => (rw [z] at h6; change s2 = 0 at h6; first | rfl | (exfalso; omega)) | true => (rw [z] at h6; change s2 = 1 at h6; first | rfl | (rw [decide_eq_true (by omega)]; rfl) | (rw [decide_eq_false (by omega)]; rfl) | (exfalso; omega))) rfl
                          · refine w_aload_n C 0 dX11_replay_153 rfl ?_
                            refine w_get C 0 1 847 dX11_replay_154 rfl rfl inX11 (by decide) (by decide +kernel) rfl ?_
                            refine w_bipush C dX11_replay_157 (by decide) ?_
                            refine w_iload C 5 dX11_replay_159 rfl ?_
                            refine w_iadd C dX11_replay_161 ?_
                            refine w_iald C 1 dX11_replay_162 rfl (by omega) ?_
                            have b_35 := d.2 (69 + jj)
                            refine w_st (st2 := [.int (iI (im_at d (69 + jj)))]) (by rw [im_at_in d (by omega)]) ?_
                            refine w_iload C 4 dX11_replay_163 rfl ?_
                            refine w_icmp_eq C 172 dX11_replay_165 rfl (by omega) (fun c_36 => ?_) (fun c_36 => ?_)
                            · refine w_iconst C dX11_replay_172 ?_
                              refine w_istore_n (lv2 := [(0, .ref h), (1, .int (iI (im_at d 68))), (2, .int (iI 0)), (3, .int (iI i)), (4, .int (iI (im_at d (69 + i)))), (5, .int (iI jj))]) C dX11_replay_173 (by decide) rfl ?_
                              refine w_iinc (lv2 := [(0, .ref h), (1, .int (iI (im_at d 68))), (2, .int (iI 0)), (3, .int (iI i)), (4, .int (iI (im_at d (69 + i)))), (5, .int (iI (jj + 1)))]) C 5 dX11_replay_174 rfl (by decide) rfl ?_
                              refine w_goto C 143 dX11_replay_177 rfl ?_
                              exact ih_143 _ (by omega) (jj + 1) 0 (by omega) (by rw [show (jj + 1).toNat = jj.toNat + 1 by omega, dsB, show ((jj.toNat : Nat) : Int) = jj by omega, ← Bool.and_assoc, ← Bool.and_assoc, Bool.and_assoc (rpH d && tgB d i.toNat)]; cases z : ((rpH d && tgB d i.toNat) && (decide (7 ≤ im_at d (69 + i) ∧ im_at d (69 + i) < 63) && dsB d i jj.toNat)) with | false => (rw [z] at h6; change s2 = 0 at h6; first | rfl | (exfalso; omega)) | true => (rw [z] at h6; change s2 = 1 at h6; first | rfl | (rw [decide_eq_true (by omega)]; rfl) | (rw [decide_eq_false (by omega)]; rfl) | (exfalso; omega))) rfl
                            · refine w_iconst C dX11_replay_168 ?_
                              refine w_goto C 173 dX11_replay_169 rfl ?_
                              refine w_istore_n (lv2 := [(0, .ref h), (1, .int (iI (im_at d 68))), (2, .int (iI 1)), (3, .int (iI i)), (4, .int (iI (im_at d (69 + i)))), (5, .int (iI jj))]) C dX11_replay_173 (by decide) rfl ?_
                              refine w_iinc (lv2 := [(0, .ref h), (1, .int (iI (im_at d 68))), (2, .int (iI 1)), (3, .int (iI i)), (4, .int (iI (im_at d (69 + i)))), (5, .int (iI (jj + 1)))]) C 5 dX11_replay_174 rfl (by decide) rfl ?_
                              refine w_goto C 143 dX11_replay_177 rfl ?_
                              exact ih_143 _ (by omega) (jj + 1) 1 (by omega) (by rw [show (jj + 1).toNat = jj.toNat + 1 by omega, dsB, show ((jj.toNat : Nat) : Int) = jj by omega, ← Bool.and_assoc, ← Bool.and_assoc, Bool.and_assoc (rpH d && tgB d i.toNat)]; cases z : ((rpH d && tgB d i.toNat) && (decide (7 ≤ im_at d (69 + i) ∧ im_at d (69 + i) < 63) && dsB d i jj.toNat)) with | false => (rw [z] at h6; change s2 = 0 at h6; first | rfl | (exfalso; omega)) | true => (rw [z] at h6; change s2 = 1 at h6; first | rfl | (rw [decide_eq_true (by omega)]; rfl) | (rw [decide_eq_false (by omega)]; rfl) | (exfalso; omega))) rfl
                    exact L_143 _ 0 0 (by omega) (by show _ = bI ((rpH d && tgB d i.toNat) && (decide (7 ≤ im_at d (69 + i) ∧ im_at d (69 + i) < 63) && true)); rw [Bool.and_true]; cases z : (rpH d && tgB d i.toNat) with | false => (rw [z] at h3; change s = 0 at h3; first | rfl | (exfalso; omega)) | true => (rw [z] at h3; change s = 1 at h3; first | rfl | (rw [decide_eq_true (by omega)]; rfl) | (rw [decide_eq_false (by omega)]; rfl) | (exfalso; omega))) rfl
                  · refine w_iload C 4 dX11_replay_120 rfl ?_
                    refine w_bipush C dX11_replay_122 (by decide) ?_
                    refine w_icmp_lt C 138 dX11_replay_124 rfl (by omega) (fun c_37 => ?_) (fun c_37 => ?_)
                    · refine w_iconst C dX11_replay_138 ?_
                      refine w_istore_n (lv2 := [(0, .ref h), (1, .int (iI (im_at d 68))), (2, .int (iI 0)), (3, .int (iI i)), (4, .int (iI (im_at d (69 + i))))]) C dX11_replay_139 (by decide) rfl ?_
                      refine w_iconst C dX11_replay_140 ?_
                      refine w_istore (lv2 := [(0, .ref h), (1, .int (iI (im_at d 68))), (2, .int (iI 0)), (3, .int (iI i)), (4, .int (iI (im_at d (69 + i)))), (5, .int (iI 0))]) C dX11_replay_141 (by decide) rfl ?_
                      have L_143 : ∀ (nn_143 : Nat) (jj : Int) (s2 : Int), (0 ≤ jj ∧ jj ≤ i) → (s2 = bI ((rpH d && tgB d i.toNat) && (decide (7 ≤ im_at d (69 + i) ∧ im_at d (69 + i) < 63) && dsB d i jj.toNat))) → (i - jj).toNat = nn_143 → Wd G k 6 0 0 [(h, .inr (9, [.ref a, .ref b, .ref tk, .ref re, .ref qu, .int (iI hd), .int (iI tl), .ref nm, .int (iI nl)])), (b, .inl (gI G, 4096, .inl (arI d)))] 143 [(0, .ref h), (1, .int (iI (im_at d 68))), (2, .int (iI s2)), (3, .int (iI i)), (4, .int (iI (im_at d (69 + i)))), (5, .int (iI jj))] [] := by
                        intro nn_143
                        induction nn_143 using Nat.strongRecOn with
                        | ind nn_143 ih_143 =>
                          intro jj s2 h5 h6 hm_143
                          have q2 := bI_rg ((rpH d && tgB d i.toNat) && (decide (7 ≤ im_at d (69 + i) ∧ im_at d (69 + i) < 63) && dsB d i jj.toNat))
                          have t1 := im_at_rg d (69 + jj)
                          refine w_iload C 5 dX11_replay_143 rfl ?_
                          refine w_iload_n C 3 dX11_replay_145 rfl ?_
                          refine w_icmp_ge C 180 dX11_replay_146 rfl (by omega) (fun c_38 => ?_) (fun c_38 => ?_)
                          · refine w_iinc (lv2 := [(0, .ref h), (1, .int (iI (im_at d 68))), (2, .int (iI s2)), (3, .int (iI (i + 1))), (4, .int (iI (im_at d (69 + i)))), (5, .int (iI jj))]) C 3 dX11_replay_180 rfl (by decide) rfl ?_
                            refine w_goto C 100 dX11_replay_183 rfl ?_
                            refine w_lv (lv2 := [(0, .ref h), (1, .int (iI (im_at d 68))), (2, .int (iI s2)), (3, .int (iI (i + 1)))]) [0, 1, 2, 3] rfl ?_
                            exact ih_100 _ (by omega) (i + 1) s2 (by omega) (by rw [h6, show (i + 1).toNat = i.toNat + 1 by omega, tgB, show ((i.toNat : Nat) : Int) = i by omega, show jj = i by omega, Bool.and_assoc]) rfl
                          · refine w_iload_n C 2 dX11_replay_149 rfl ?_
                            refine w_if_eq C 172 dX11_replay_150 rfl (by omega) (fun c_39 => ?_) (fun c_39 => ?_)
                            · refine w_iconst C dX11_replay_172 ?_
                              refine w_istore_n (lv2 := [(0, .ref h), (1, .int (iI (im_at d 68))), (2, .int (iI 0)), (3, .int (iI i)), (4, .int (iI (im_at d (69 + i)))), (5, .int (iI jj))]) C dX11_replay_173 (by decide) rfl ?_
                              refine w_iinc (lv2 := [(0, .ref h), (1, .int (iI (im_at d 68))), (2, .int (iI 0)), (3, .int (iI i)), (4, .int (iI (im_at d (69 + i)))), (5, .int (iI (jj + 1)))]) C 5 dX11_replay_174 rfl (by decide) rfl ?_
                              refine w_goto C 143 dX11_replay_177 rfl ?_
                              exact ih_143 _ (by omega) (jj + 1) 0 (by omega) (by rw [show (jj + 1).toNat = jj.toNat + 1 by omega, dsB, show ((jj.toNat : Nat) : Int) = jj by omega, ← Bool.and_assoc, ← Bool.and_assoc, Bool.and_assoc (rpH d && tgB d i.toNat)]; cases z : ((rpH d && tgB d i.toNat) && (decide (7 ≤ im_at d (69 + i) ∧ im_at d (69 + i) < 63) && dsB d i jj.toNat)) with | false => (rw [z] at h6; change s2 = 0 at h6; first | rfl | (exfalso; omega)) | true => (rw [z] at h6; change s2 = 1 at h6; first | rfl | (rw [decide_eq_true (by omega)]; rfl) | (rw [decide_eq_false (by omega)]; rfl) | (exfalso; omega))) rfl
                            · refine w_aload_n C 0 dX11_replay_153 rfl ?_
                              refine w_get C 0 1 847 dX11_replay_154 rfl rfl inX11 (by decide) (by decide +kernel) rfl ?_
                              refine w_bipush C dX11_replay_157 (by decide) ?_
                              refine w_iload C 5 dX11_replay_159 rfl ?_
                              refine w_iadd C dX11_replay_161 ?_
                              refine w_iald C 1 dX11_replay_162 rfl (by omega) ?_
                              have b_40 := d.2 (69 + jj)
                              refine w_st (st2 := [.int (iI (im_at d (69 + jj)))]) (by rw [im_at_in d (by omega)]) ?_
                              refine w_iload C 4 dX11_replay_163 rfl ?_
                              refine w_icmp_eq C 172 dX11_replay_165 rfl (by omega) (fun c_41 => ?_) (fun c_41 => ?_)
                              · refine w_iconst C dX11_replay_172 ?_
                                refine w_istore_n (lv2 := [(0, .ref h), (1, .int (iI (im_at d 68))), (2, .int (iI 0)), (3, .int (iI i)), (4, .int (iI (im_at d (69 + i)))), (5, .int (iI jj))]) C dX11_replay_173 (by decide) rfl ?_
                                refine w_iinc (lv2 := [(0, .ref h), (1, .int (iI (im_at d 68))), (2, .int (iI 0)), (3, .int (iI i)), (4, .int (iI (im_at d (69 + i)))), (5, .int (iI (jj + 1)))]) C 5 dX11_replay_174 rfl (by decide) rfl ?_
                                refine w_goto C 143 dX11_replay_177 rfl ?_
                                exact ih_143 _ (by omega) (jj + 1) 0 (by omega) (by rw [show (jj + 1).toNat = jj.toNat + 1 by omega, dsB, show ((jj.toNat : Nat) : Int) = jj by omega, ← Bool.and_assoc, ← Bool.and_assoc, Bool.and_assoc (rpH d && tgB d i.toNat)]; cases z : ((rpH d && tgB d i.toNat) && (decide (7 ≤ im_at d (69 + i) ∧ im_at d (69 + i) < 63) && dsB d i jj.toNat)) with | false => (rw [z] at h6; change s2 = 0 at h6; first | rfl | (exfalso; omega)) | true => (rw [z] at h6; change s2 = 1 at h6; first | rfl | (rw [decide_eq_true (by omega)]; rfl) | (rw [decide_eq_false (by omega)]; rfl) | (exfalso; omega))) rfl
                              · refine w_iconst C dX11_replay_168 ?_
                                refine w_goto C 173 dX11_replay_169 rfl ?_
                                refine w_istore_n (lv2 := [(0, .ref h), (1, .int (iI (im_at d 68))), (2, .int (iI 1)), (3, .int (iI i)), (4, .int (iI (im_at d (69 + i)))), (5, .int (iI jj))]) C dX11_replay_173 (by decide) rfl ?_
                                refine w_iinc (lv2 := [(0, .ref h), (1, .int (iI (im_at d 68))), (2, .int (iI 1)), (3, .int (iI i)), (4, .int (iI (im_at d (69 + i)))), (5, .int (iI (jj + 1)))]) C 5 dX11_replay_174 rfl (by decide) rfl ?_
                                refine w_goto C 143 dX11_replay_177 rfl ?_
                                exact ih_143 _ (by omega) (jj + 1) 1 (by omega) (by rw [show (jj + 1).toNat = jj.toNat + 1 by omega, dsB, show ((jj.toNat : Nat) : Int) = jj by omega, ← Bool.and_assoc, ← Bool.and_assoc, Bool.and_assoc (rpH d && tgB d i.toNat)]; cases z : ((rpH d && tgB d i.toNat) && (decide (7 ≤ im_at d (69 + i) ∧ im_at d (69 + i) < 63) && dsB d i jj.toNat)) with | false => (rw [z] at h6; change s2 = 0 at h6; first | rfl | (exfalso; omega)) | true => (rw [z] at h6; change s2 = 1 at h6; first | rfl | (rw [decide_eq_true (by omega)]; rfl) | (rw [decide_eq_false (by omega)]; rfl) | (exfalso; omega))) rfl
                      exact L_143 _ 0 0 (by omega) (by show _ = bI ((rpH d && tgB d i.toNat) && (decide (7 ≤ im_at d (69 + i) ∧ im_at d (69 + i) < 63) && true)); rw [Bool.and_true]; cases z : (rpH d && tgB d i.toNat) with | false => (rw [z] at h3; change s = 0 at h3; first | rfl | (exfalso; omega)) | true => (rw [z] at h3; change s = 1 at h3; first | rfl | (rw [decide_eq_true (by omega)]; rfl) | (rw [decide_eq_false (by omega)]; rfl) | (exfalso; omega))) rfl
                    · refine w_iload C 4 dX11_replay_127 rfl ?_
                      refine w_bipush C dX11_replay_129 (by decide) ?_
                      refine w_icmp_ge C 138 dX11_replay_131 rfl (by omega) (fun c_42 => ?_) (fun c_42 => ?_)
                      · refine w_iconst C dX11_replay_138 ?_
                        refine w_istore_n (lv2 := [(0, .ref h), (1, .int (iI (im_at d 68))), (2, .int (iI 0)), (3, .int (iI i)), (4, .int (iI (im_at d (69 + i))))]) C dX11_replay_139 (by decide) rfl ?_
                        refine w_iconst C dX11_replay_140 ?_
                        refine w_istore (lv2 := [(0, .ref h), (1, .int (iI (im_at d 68))), (2, .int (iI 0)), (3, .int (iI i)), (4, .int (iI (im_at d (69 + i)))), (5, .int (iI 0))]) C dX11_replay_141 (by decide) rfl ?_
                        have L_143 : ∀ (nn_143 : Nat) (jj : Int) (s2 : Int), (0 ≤ jj ∧ jj ≤ i) → (s2 = bI ((rpH d && tgB d i.toNat) && (decide (7 ≤ im_at d (69 + i) ∧ im_at d (69 + i) < 63) && dsB d i jj.toNat))) → (i - jj).toNat = nn_143 → Wd G k 6 0 0 [(h, .inr (9, [.ref a, .ref b, .ref tk, .ref re, .ref qu, .int (iI hd), .int (iI tl), .ref nm, .int (iI nl)])), (b, .inl (gI G, 4096, .inl (arI d)))] 143 [(0, .ref h), (1, .int (iI (im_at d 68))), (2, .int (iI s2)), (3, .int (iI i)), (4, .int (iI (im_at d (69 + i)))), (5, .int (iI jj))] [] := by
                          intro nn_143
                          induction nn_143 using Nat.strongRecOn with
                          | ind nn_143 ih_143 =>
                            intro jj s2 h5 h6 hm_143
                            have q2 := bI_rg ((rpH d && tgB d i.toNat) && (decide (7 ≤ im_at d (69 + i) ∧ im_at d (69 + i) < 63) && dsB d i jj.toNat))
                            have t1 := im_at_rg d (69 + jj)
                            refine w_iload C 5 dX11_replay_143 rfl ?_
                            refine w_iload_n C 3 dX11_replay_145 rfl ?_
                            refine w_icmp_ge C 180 dX11_replay_146 rfl (by omega) (fun c_43 => ?_) (fun c_43 => ?_)
                            · refine w_iinc (lv2 := [(0, .ref h), (1, .int (iI (im_at d 68))), (2, .int (iI s2)), (3, .int (iI (i + 1))), (4, .int (iI (im_at d (69 + i)))), (5, .int (iI jj))]) C 3 dX11_replay_180 rfl (by decide) rfl ?_
                              refine w_goto C 100 dX11_replay_183 rfl ?_
                              refine w_lv (lv2 := [(0, .ref h), (1, .int (iI (im_at d 68))), (2, .int (iI s2)), (3, .int (iI (i + 1)))]) [0, 1, 2, 3] rfl ?_
                              exact ih_100 _ (by omega) (i + 1) s2 (by omega) (by rw [h6, show (i + 1).toNat = i.toNat + 1 by omega, tgB, show ((i.toNat : Nat) : Int) = i by omega, show jj = i by omega, Bool.and_assoc]) rfl
                            · refine w_iload_n C 2 dX11_replay_149 rfl ?_
                              refine w_if_eq C 172 dX11_replay_150 rfl (by omega) (fun c_44 => ?_) (fun c_44 => ?_)
                              · refine w_iconst C dX11_replay_172 ?_
                                refine w_istore_n (lv2 := [(0, .ref h), (1, .int (iI (im_at d 68))), (2, .int (iI 0)), (3, .int (iI i)), (4, .int (iI (im_at d (69 + i)))), (5, .int (iI jj))]) C dX11_replay_173 (by decide) rfl ?_
                                refine w_iinc (lv2 := [(0, .ref h), (1, .int (iI (im_at d 68))), (2, .int (iI 0)), (3, .int (iI i)), (4, .int (iI (im_at d (69 + i)))), (5, .int (iI (jj + 1)))]) C 5 dX11_replay_174 rfl (by decide) rfl ?_
                                refine w_goto C 143 dX11_replay_177 rfl ?_
                                exact ih_143 _ (by omega) (jj + 1) 0 (by omega) (by rw [show (jj + 1).toNat = jj.toNat + 1 by omega, dsB, show ((jj.toNat : Nat) : Int) = jj by omega, ← Bool.and_assoc, ← Bool.and_assoc, Bool.and_assoc (rpH d && tgB d i.toNat)]; cases z : ((rpH d && tgB d i.toNat) && (decide (7 ≤ im_at d (69 + i) ∧ im_at d (69 + i) < 63) && dsB d i jj.toNat)) with | false => (rw [z] at h6; change s2 = 0 at h6; first | rfl | (exfalso; omega)) | true => (rw [z] at h6; change s2 = 1 at h6; first | rfl | (rw [decide_eq_true (by omega)]; rfl) | (rw [decide_eq_false (by omega)]; rfl) | (exfalso; omega))) rfl
                              · refine w_aload_n C 0 dX11_replay_153 rfl ?_
                                refine w_get C 0 1 847 dX11_replay_154 rfl rfl inX11 (by decide) (by decide +kernel) rfl ?_
                                refine w_bipush C dX11_replay_157 (by decide) ?_
                                refine w_iload C 5 dX11_replay_159 rfl ?_
                                refine w_iadd C dX11_replay_161 ?_
                                refine w_iald C 1 dX11_replay_162 rfl (by omega) ?_
                                have b_45 := d.2 (69 + jj)
                                refine w_st (st2 := [.int (iI (im_at d (69 + jj)))]) (by rw [im_at_in d (by omega)]) ?_
                                refine w_iload C 4 dX11_replay_163 rfl ?_
                                refine w_icmp_eq C 172 dX11_replay_165 rfl (by omega) (fun c_46 => ?_) (fun c_46 => ?_)
                                · refine w_iconst C dX11_replay_172 ?_
                                  refine w_istore_n (lv2 := [(0, .ref h), (1, .int (iI (im_at d 68))), (2, .int (iI 0)), (3, .int (iI i)), (4, .int (iI (im_at d (69 + i)))), (5, .int (iI jj))]) C dX11_replay_173 (by decide) rfl ?_
                                  refine w_iinc (lv2 := [(0, .ref h), (1, .int (iI (im_at d 68))), (2, .int (iI 0)), (3, .int (iI i)), (4, .int (iI (im_at d (69 + i)))), (5, .int (iI (jj + 1)))]) C 5 dX11_replay_174 rfl (by decide) rfl ?_
                                  refine w_goto C 143 dX11_replay_177 rfl ?_
                                  exact ih_143 _ (by omega) (jj + 1) 0 (by omega) (by rw [show (jj + 1).toNat = jj.toNat + 1 by omega, dsB, show ((jj.toNat : Nat) : Int) = jj by omega, ← Bool.and_assoc, ← Bool.and_assoc, Bool.and_assoc (rpH d && tgB d i.toNat)]; cases z : ((rpH d && tgB d i.toNat) && (decide (7 ≤ im_at d (69 + i) ∧ im_at d (69 + i) < 63) && dsB d i jj.toNat)) with | false => (rw [z] at h6; change s2 = 0 at h6; first | rfl | (exfalso; omega)) | true => (rw [z] at h6; change s2 = 1 at h6; first | rfl | (rw [decide_eq_true (by omega)]; rfl) | (rw [decide_eq_false (by omega)]; rfl) | (exfalso; omega))) rfl
                                · refine w_iconst C dX11_replay_168 ?_
                                  refine w_goto C 173 dX11_replay_169 rfl ?_
                                  refine w_istore_n (lv2 := [(0, .ref h), (1, .int (iI (im_at d 68))), (2, .int (iI 1)), (3, .int (iI i)), (4, .int (iI (im_at d (69 + i)))), (5, .int (iI jj))]) C dX11_replay_173 (by decide) rfl ?_
                                  refine w_iinc (lv2 := [(0, .ref h), (1, .int (iI (im_at d 68))), (2, .int (iI 1)), (3, .int (iI i)), (4, .int (iI (im_at d (69 + i)))), (5, .int (iI (jj + 1)))]) C 5 dX11_replay_174 rfl (by decide) rfl ?_
                                  refine w_goto C 143 dX11_replay_177 rfl ?_
                                  exact ih_143 _ (by omega) (jj + 1) 1 (by omega) (by rw [show (jj + 1).toNat = jj.toNat + 1 by omega, dsB, show ((jj.toNat : Nat) : Int) = jj by omega, ← Bool.and_assoc, ← Bool.and_assoc, Bool.and_assoc (rpH d && tgB d i.toNat)]; cases z : ((rpH d && tgB d i.toNat) && (decide (7 ≤ im_at d (69 + i) ∧ im_at d (69 + i) < 63) && dsB d i jj.toNat)) with | false => (rw [z] at h6; change s2 = 0 at h6; first | rfl | (exfalso; omega)) | true => (rw [z] at h6; change s2 = 1 at h6; first | rfl | (rw [decide_eq_true (by omega)]; rfl) | (rw [decide_eq_false (by omega)]; rfl) | (exfalso; omega))) rfl
                        exact L_143 _ 0 0 (by omega) (by show _ = bI ((rpH d && tgB d i.toNat) && (decide (7 ≤ im_at d (69 + i) ∧ im_at d (69 + i) < 63) && true)); rw [Bool.and_true]; cases z : (rpH d && tgB d i.toNat) with | false => (rw [z] at h3; change s = 0 at h3; first | rfl | (exfalso; omega)) | true => (rw [z] at h3; change s = 1 at h3; first | rfl | (rw [decide_eq_true (by omega)]; rfl) | (rw [decide_eq_false (by omega)]; rfl) | (exfalso; omega))) rfl
                      · refine w_iconst C dX11_replay_134 ?_
                        refine w_goto C 139 dX11_replay_135 rfl ?_
                        refine w_istore_n (lv2 := [(0, .ref h), (1, .int (iI (im_at d 68))), (2, .int (iI 1)), (3, .int (iI i)), (4, .int (iI (im_at d (69 + i))))]) C dX11_replay_139 (by decide) rfl ?_
                        refine w_iconst C dX11_replay_140 ?_
                        refine w_istore (lv2 := [(0, .ref h), (1, .int (iI (im_at d 68))), (2, .int (iI 1)), (3, .int (iI i)), (4, .int (iI (im_at d (69 + i)))), (5, .int (iI 0))]) C dX11_replay_141 (by decide) rfl ?_
                        have L_143 : ∀ (nn_143 : Nat) (jj : Int) (s2 : Int), (0 ≤ jj ∧ jj ≤ i) → (s2 = bI ((rpH d && tgB d i.toNat) && (decide (7 ≤ im_at d (69 + i) ∧ im_at d (69 + i) < 63) && dsB d i jj.toNat))) → (i - jj).toNat = nn_143 → Wd G k 6 0 0 [(h, .inr (9, [.ref a, .ref b, .ref tk, .ref re, .ref qu, .int (iI hd), .int (iI tl), .ref nm, .int (iI nl)])), (b, .inl (gI G, 4096, .inl (arI d)))] 143 [(0, .ref h), (1, .int (iI (im_at d 68))), (2, .int (iI s2)), (3, .int (iI i)), (4, .int (iI (im_at d (69 + i)))), (5, .int (iI jj))] [] := by
                          intro nn_143
                          induction nn_143 using Nat.strongRecOn with
                          | ind nn_143 ih_143 =>
                            intro jj s2 h5 h6 hm_143
                            have q2 := bI_rg ((rpH d && tgB d i.toNat) && (decide (7 ≤ im_at d (69 + i) ∧ im_at d (69 + i) < 63) && dsB d i jj.toNat))
                            have t1 := im_at_rg d (69 + jj)
                            refine w_iload C 5 dX11_replay_143 rfl ?_
                            refine w_iload_n C 3 dX11_replay_145 rfl ?_
                            refine w_icmp_ge C 180 dX11_replay_146 rfl (by omega) (fun c_47 => ?_) (fun c_47 => ?_)
                            · refine w_iinc (lv2 := [(0, .ref h), (1, .int (iI (im_at d 68))), (2, .int (iI s2)), (3, .int (iI (i + 1))), (4, .int (iI (im_at d (69 + i)))), (5, .int (iI jj))]) C 3 dX11_replay_180 rfl (by decide) rfl ?_
                              refine w_goto C 100 dX11_replay_183 rfl ?_
                              refine w_lv (lv2 := [(0, .ref h), (1, .int (iI (im_at d 68))), (2, .int (iI s2)), (3, .int (iI (i + 1)))]) [0, 1, 2, 3] rfl ?_
                              exact ih_100 _ (by omega) (i + 1) s2 (by omega) (by rw [h6, show (i + 1).toNat = i.toNat + 1 by omega, tgB, show ((i.toNat : Nat) : Int) = i by omega, show jj = i by omega, Bool.and_assoc]) rfl
                            · refine w_iload_n C 2 dX11_replay_149 rfl ?_
                              refine w_if_eq C 172 dX11_replay_150 rfl (by omega) (fun c_48 => ?_) (fun c_48 => ?_)
                              · refine w_iconst C dX11_replay_172 ?_
                                refine w_istore_n (lv2 := [(0, .ref h), (1, .int (iI (im_at d 68))), (2, .int (iI 0)), (3, .int (iI i)), (4, .int (iI (im_at d (69 + i)))), (5, .int (iI jj))]) C dX11_replay_173 (by decide) rfl ?_
                                refine w_iinc (lv2 := [(0, .ref h), (1, .int (iI (im_at d 68))), (2, .int (iI 0)), (3, .int (iI i)), (4, .int (iI (im_at d (69 + i)))), (5, .int (iI (jj + 1)))]) C 5 dX11_replay_174 rfl (by decide) rfl ?_
                                refine w_goto C 143 dX11_replay_177 rfl ?_
                                exact ih_143 _ (by omega) (jj + 1) 0 (by omega) (by rw [show (jj + 1).toNat = jj.toNat + 1 by omega, dsB, show ((jj.toNat : Nat) : Int) = jj by omega, ← Bool.and_assoc, ← Bool.and_assoc, Bool.and_assoc (rpH d && tgB d i.toNat)]; cases z : ((rpH d && tgB d i.toNat) && (decide (7 ≤ im_at d (69 + i) ∧ im_at d (69 + i) < 63) && dsB d i jj.toNat)) with | false => (rw [z] at h6; change s2 = 0 at h6; first | rfl | (exfalso; omega)) | true => (rw [z] at h6; change s2 = 1 at h6; first | rfl | (rw [decide_eq_true (by omega)]; rfl) | (rw [decide_eq_false (by omega)]; rfl) | (exfalso; omega))) rfl
                              · refine w_aload_n C 0 dX11_replay_153 rfl ?_
                                refine w_get C 0 1 847 dX11_replay_154 rfl rfl inX11 (by decide) (by decide +kernel) rfl ?_
                                refine w_bipush C dX11_replay_157 (by decide) ?_
                                refine w_iload C 5 dX11_replay_159 rfl ?_
                                refine w_iadd C dX11_replay_161 ?_
                                refine w_iald C 1 dX11_replay_162 rfl (by omega) ?_
                                have b_49 := d.2 (69 + jj)
                                refine w_st (st2 := [.int (iI (im_at d (69 + jj)))]) (by rw [im_at_in d (by omega)]) ?_
                                refine w_iload C 4 dX11_replay_163 rfl ?_
                                refine w_icmp_eq C 172 dX11_replay_165 rfl (by omega) (fun c_50 => ?_) (fun c_50 => ?_)
                                · refine w_iconst C dX11_replay_172 ?_
                                  refine w_istore_n (lv2 := [(0, .ref h), (1, .int (iI (im_at d 68))), (2, .int (iI 0)), (3, .int (iI i)), (4, .int (iI (im_at d (69 + i)))), (5, .int (iI jj))]) C dX11_replay_173 (by decide) rfl ?_
                                  refine w_iinc (lv2 := [(0, .ref h), (1, .int (iI (im_at d 68))), (2, .int (iI 0)), (3, .int (iI i)), (4, .int (iI (im_at d (69 + i)))), (5, .int (iI (jj + 1)))]) C 5 dX11_replay_174 rfl (by decide) rfl ?_
                                  refine w_goto C 143 dX11_replay_177 rfl ?_
                                  exact ih_143 _ (by omega) (jj + 1) 0 (by omega) (by rw [show (jj + 1).toNat = jj.toNat + 1 by omega, dsB, show ((jj.toNat : Nat) : Int) = jj by omega, ← Bool.and_assoc, ← Bool.and_assoc, Bool.and_assoc (rpH d && tgB d i.toNat)]; cases z : ((rpH d && tgB d i.toNat) && (decide (7 ≤ im_at d (69 + i) ∧ im_at d (69 + i) < 63) && dsB d i jj.toNat)) with | false => (rw [z] at h6; change s2 = 0 at h6; first | rfl | (exfalso; omega)) | true => (rw [z] at h6; change s2 = 1 at h6; first | rfl | (rw [decide_eq_true (by omega)]; rfl) | (rw [decide_eq_false (by omega)]; rfl) | (exfalso; omega))) rfl
                                · refine w_iconst C dX11_replay_168 ?_
                                  refine w_goto C 173 dX11_replay_169 rfl ?_
                                  refine w_istore_n (lv2 := [(0, .ref h), (1, .int (iI (im_at d 68))), (2, .int (iI 1)), (3, .int (iI i)), (4, .int (iI (im_at d (69 + i)))), (5, .int (iI jj))]) C dX11_replay_173 (by decide) rfl ?_
                                  refine w_iinc (lv2 := [(0, .ref h), (1, .int (iI (im_at d 68))), (2, .int (iI 1)), (3, .int (iI i)), (4, .int (iI (im_at d (69 + i)))), (5, .int (iI (jj + 1)))]) C 5 dX11_replay_174 rfl (by decide) rfl ?_
                                  refine w_goto C 143 dX11_replay_177 rfl ?_
                                  exact ih_143 _ (by omega) (jj + 1) 1 (by omega) (by rw [show (jj + 1).toNat = jj.toNat + 1 by omega, dsB, show ((jj.toNat : Nat) : Int) = jj by omega, ← Bool.and_assoc, ← Bool.and_assoc, Bool.and_assoc (rpH d && tgB d i.toNat)]; cases z : ((rpH d && tgB d i.toNat) && (decide (7 ≤ im_at d (69 + i) ∧ im_at d (69 + i) < 63) && dsB d i jj.toNat)) with | false => (rw [z] at h6; change s2 = 0 at h6; first | rfl | (exfalso; omega)) | true => (rw [z] at h6; change s2 = 1 at h6; first | rfl | (rw [decide_eq_true (by omega)]; rfl) | (rw [decide_eq_false (by omega)]; rfl) | (exfalso; omega))) rfl
                        exact L_143 _ 0 1 (by omega) (by show _ = bI ((rpH d && tgB d i.toNat) && (decide (7 ≤ im_at d (69 + i) ∧ im_at d (69 + i) < 63) && true)); rw [Bool.and_true]; cases z : (rpH d && tgB d i.toNat) with | false => (rw [z] at h3; change s = 0 at h3; first | rfl | (exfalso; omega)) | true => (rw [z] at h3; change s = 1 at h3; first | rfl | (rw [decide_eq_true (by omega)]; rfl) | (rw [decide_eq_false (by omega)]; rfl) | (exfalso; omega))) rfl
            exact L_100 _ 0 0 (by omega) (by rw [hH]; rfl) rfl
          · have c2 := c_24
            refine w_aload_n C 0 dX11_replay_60 rfl ?_
            refine w_bipush C dX11_replay_61 (by decide) ?_
            refine w_callV (As := [.int (iI 126)]) (rest := []) (w2 := [(h, .inr (9, [.ref a, .ref b, .ref tk, .ref re, .ref qu, .int (iI hd), .int (iI tl), .ref nm, .int (iI nl)])), (b, .inl (gI G, 4096, .inl (arI d)))]) (st2 := [.int (iI (im_two d 126))]) C (ct_X11_two G (kl k) h a b tk re qu nm hd tl nl d 126 (by omega)) gX11_34 dX11_replay_63 0 rfl rfl rfl rfl rfl (Nat.le_of_ble_eq_true rfl) (by decide) [0, 1] rfl (by decide) [h, b] rfl rfl rfl rfl ?_
            have f_51 := im_two_rg d 126
            refine w_aload_n C 0 dX11_replay_66 rfl ?_
            refine w_bipush C dX11_replay_67 (by decide) ?_
            refine w_bipush C dX11_replay_69 (by decide) ?_
            refine w_callV (As := [.int (iI 64), .int (iI 62)]) (rest := [.int (iI (im_two d 126))]) (w2 := [(h, .inr (9, [.ref a, .ref b, .ref tk, .ref re, .ref qu, .int (iI hd), .int (iI tl), .ref nm, .int (iI nl)])), (b, .inl (gI G, 4096, .inl (arI d)))]) (st2 := [.int (iI (im_sum d 64 62)), .int (iI (im_two d 126))]) C (ct_X11_sum G (kl k) h a b tk re qu nm hd tl nl d 64 62 (by unfold rgP; omega)) gX11_38 dX11_replay_71 0 rfl rfl rfl rfl rfl (Nat.le_of_ble_eq_true rfl) (by decide) [0, 1] rfl (by decide) [h, b] rfl rfl rfl rfl ?_
            have f_52 := im_sum_rg d 64 62
            refine w_aload_n C 0 dX11_replay_74 rfl ?_
            refine w_sipush C dX11_replay_75 (by decide) ?_
            refine w_iload_n C 1 dX11_replay_78 rfl ?_
            refine w_bipush C dX11_replay_79 (by decide) ?_
            refine w_imul C dX11_replay_81 ?_
            refine w_callV (As := [.int (iI 128), .int (iI ((im_at d 68) * 64))]) (rest := [.int (iI (im_sum d 64 62)), .int (iI (im_two d 126))]) (w2 := [(h, .inr (9, [.ref a, .ref b, .ref tk, .ref re, .ref qu, .int (iI hd), .int (iI tl), .ref nm, .int (iI nl)])), (b, .inl (gI G, 4096, .inl (arI d)))]) (st2 := [.int (iI (im_sum d 128 ((im_at d 68) * 64))), .int (iI (im_sum d 64 62)), .int (iI (im_two d 126))]) C (ct_X11_sum G (kl k) h a b tk re qu nm hd tl nl d 128 ((im_at d 68) * 64) (by unfold rgP; omega)) gX11_38 dX11_replay_82 0 rfl rfl rfl rfl rfl (Nat.le_of_ble_eq_true rfl) (by decide) [0, 1] rfl (by decide) [h, b] rfl rfl rfl rfl ?_
            have f_53 := im_sum_rg d 128 ((im_at d 68) * 64)
            refine w_iadd C dX11_replay_85 ?_
            refine w_ldc (z := 65536) C 895 dX11_replay_86 (by decide +kernel) rfl ?_
            refine w_irem C dX11_replay_88 (by omega) ?_
            refine w_icmp_ne C 96 dX11_replay_89 rfl (by omega) (fun c_54 => ?_) (fun c_54 => ?_)
            · have hH : rpH d = false := by unfold rpH; rw [decide_eq_false c_54, Bool.and_false]
              refine w_iconst C dX11_replay_96 ?_
              refine w_istore_n (lv2 := [(0, .ref h), (1, .int (iI (im_at d 68))), (2, .int (iI 0))]) C dX11_replay_97 (by decide) rfl ?_
              refine w_iconst C dX11_replay_98 ?_
              refine w_istore_n (lv2 := [(0, .ref h), (1, .int (iI (im_at d 68))), (2, .int (iI 0)), (3, .int (iI 0))]) C dX11_replay_99 (by decide) rfl ?_
              have L_100 : ∀ (nn_100 : Nat) (i : Int) (s : Int), (0 ≤ i ∧ i ≤ im_at d 68) → (s = bI (rpH d && tgB d i.toNat)) → (im_at d 68 - i).toNat = nn_100 → Wd G k 6 0 0 [(h, .inr (9, [.ref a, .ref b, .ref tk, .ref re, .ref qu, .int (iI hd), .int (iI tl), .ref nm, .int (iI nl)])), (b, .inl (gI G, 4096, .inl (arI d)))] 100 [(0, .ref h), (1, .int (iI (im_at d 68))), (2, .int (iI s)), (3, .int (iI i))] [] := by
                intro nn_100
                induction nn_100 using Nat.strongRecOn with
                | ind nn_100 ih_100 =>
                  intro i s h1 h3 hm_100
                  have q1 := bI_rg (rpH d && tgB d i.toNat)
                  refine w_iload_n C 3 dX11_replay_100 rfl ?_
                  refine w_iload_n C 1 dX11_replay_101 rfl ?_
                  refine w_icmp_ge C 186 dX11_replay_102 rfl (by omega) (fun c_55 => ?_) (fun c_55 => ?_)
                  · refine w_iconst C dX11_replay_186 ?_
                    refine w_istore_n (lv2 := [(0, .ref h), (1, .int (iI (im_at d 68))), (2, .int (iI s)), (3, .int (iI 0))]) C dX11_replay_187 (by decide) rfl ?_
                    have L_188 : ∀ (nn_188 : Nat) (y : Int) (s3 : Int) (x : Im), (s3 = bI (jnB d)) → (0 ≤ y ∧ (y ≤ im_at d 68 ∨ y = 0)) → ((if jnB d = true then rps (im_at d 68).toNat 0 d else d) = (if jnB d = true then rps (im_at d 68 - y).toNat y x else x)) → (∀ j : Int, j < 448 → x.1 j = d.1 j) → (im_at d 68 - y).toNat = nn_188 → Wd G k 6 0 0 [(h, .inr (9, [.ref a, .ref b, .ref tk, .ref re, .ref qu, .int (iI hd), .int (iI tl), .ref nm, .int (iI nl)])), (b, .inl (gI G, 4096, .inl (arI x)))] 188 [(0, .ref h), (1, .int (iI (im_at d 68))), (2, .int (iI s3)), (3, .int (iI y))] [] := by
                      intro nn_188
                      induction nn_188 using Nat.strongRecOn with
                      | ind nn_188 ih_188 =>
                        intro y s3 x hs hy hx hb hm_188
                        have q3 := bI_rg (jnB d)
                        have n0 := im_at_rg d 68
                        refine w_iload_n C 3 dX11_replay_188 rfl ?_
                        refine w_iload_n C 1 dX11_replay_189 rfl ?_
                        refine w_icmp_ge C 257 dX11_replay_190 rfl (by omega) (fun c_56 => ?_) (fun c_56 => ?_)
                        · refine w_aload_n C 0 dX11_replay_257 rfl ?_
                          refine w_bipush C dX11_replay_258 (by decide) ?_
                          refine w_bipush C dX11_replay_260 (by decide) ?_
                          refine w_callV (As := [.int (iI 64), .int (iI 64)]) (rest := []) (w2 := [(h, .inr (9, [.ref a, .ref b, .ref tk, .ref re, .ref qu, .int (iI hd), .int (iI tl), .ref nm, .int (iI nl)])), (b, .inl (gI G, 4096, .inl (arI (im_wipe x 64 64))))]) (st2 := []) C (ct_X11_clear G (kl k) h a b tk re qu nm hd tl nl x 64 64 (by unfold rgP; omega)) gX11_65 dX11_replay_262 0 rfl rfl rfl rfl rfl (Nat.le_of_ble_eq_true rfl) (by decide) [0, 1] rfl (by decide) [h, b] rfl rfl rfl rfl ?_
                          exact w_retv hret dX11_replay_265 rfl rfl rfl ⟨rfl, (by unfold jnR; rw [hx]; first | (rw [if_neg (show ¬ jnB d = true by rw [hJ0]; decide)]; done) | (by_cases hJ : jnB d = true; (rw [if_pos hJ, show (im_at d 68 - y).toNat = 0 by omega, rps]); (rw [if_neg hJ])))⟩
                        · refine w_iload_n C 2 dX11_replay_193 rfl ?_
                          refine w_if_eq C 257 dX11_replay_194 rfl (by omega) (fun c_57 => ?_) (fun c_57 => ?_)
                          · have hJ0 : jnB d = false := by cases z : jnB d with | false => rfl | true => (rw [z] at hs; change s3 = 1 at hs; omega)
                            refine w_aload_n C 0 dX11_replay_257 rfl ?_
                            refine w_bipush C dX11_replay_258 (by decide) ?_
                            refine w_bipush C dX11_replay_260 (by decide) ?_
                            refine w_callV (As := [.int (iI 64), .int (iI 64)]) (rest := []) (w2 := [(h, .inr (9, [.ref a, .ref b, .ref tk, .ref re, .ref qu, .int (iI hd), .int (iI tl), .ref nm, .int (iI nl)])), (b, .inl (gI G, 4096, .inl (arI (im_wipe x 64 64))))]) (st2 := []) C (ct_X11_clear G (kl k) h a b tk re qu nm hd tl nl x 64 64 (by unfold rgP; omega)) gX11_65 dX11_replay_262 0 rfl rfl rfl rfl rfl (Nat.le_of_ble_eq_true rfl) (by decide) [0, 1] rfl (by decide) [h, b] rfl rfl rfl rfl ?_
                            exact w_retv hret dX11_replay_265 rfl rfl rfl ⟨rfl, (by unfold jnR; rw [hx]; first | (rw [if_neg (show ¬ jnB d = true by rw [hJ0]; decide)]; done) | (by_cases hJ : jnB d = true; (rw [if_pos hJ, show (im_at d 68 - y).toNat = 0 by omega, rps]); (rw [if_neg hJ])))⟩
                          · have hJ : jnB d = true := by cases z : jnB d with | true => rfl | false => (rw [z] at hs; change s3 = 0 at hs; omega)
                            have hK := jnB_ref d
                            rw [hJ] at hK
                            have hK2 : rpG d = true ∧ rpH d = true ∧ tgB d (im_at d 68).toNat = true := by have w := hK.symm; simp only [Bool.and_eq_true] at w; exact w
                            have n5 : 1 ≤ im_at d 68 ∧ im_at d 68 ≤ 5 := by have w := hK2.1; unfold rpG at w; rw [Bool.and_eq_true, decide_eq_true_iff] at w; exact w.2
                            have ex : im_at x (69 + y) = im_at d (69 + y) := by rw [im_at_in x (by omega), im_at_in d (by omega)]; exact hb _ (by omega)
                            have ht := ((tgB_iff d (im_at d 68).toNat).mp hK2.2.2 y (by omega) (by omega)).1
                            rw [← ex] at ht
                            refine w_aload_n C 0 dX11_replay_197 rfl ?_
                            refine w_get C 0 1 847 dX11_replay_198 rfl rfl inX11 (by decide) (by decide +kernel) rfl ?_
                            refine w_bipush C dX11_replay_201 (by decide) ?_
                            refine w_iload_n C 3 dX11_replay_203 rfl ?_
                            refine w_iadd C dX11_replay_204 ?_
                            refine w_iald C 1 dX11_replay_205 rfl (by omega) ?_
                            have b_58 := x.2 (69 + y)
                            refine w_st (st2 := [.int (iI (im_at x (69 + y)))]) (by rw [im_at_in x (by omega)]) ?_
                            refine w_istore (lv2 := [(0, .ref h), (1, .int (iI (im_at d 68))), (2, .int (iI s3)), (3, .int (iI y)), (4, .int (iI (im_at x (69 + y))))]) C dX11_replay_206 (by decide) rfl ?_
                            refine w_iconst C dX11_replay_208 ?_
                            refine w_istore (lv2 := [(0, .ref h), (1, .int (iI (im_at d 68))), (2, .int (iI s3)), (3, .int (iI y)), (4, .int (iI (im_at x (69 + y)))), (5, .int (iI 0))]) C dX11_replay_209 (by decide) rfl ?_
                            have L_211 : ∀ (nn_211 : Nat) (z2 : Int) (e : Im), (0 ≤ z2 ∧ z2 ≤ 64) → (e = cpy x x (64 * (2 + y)) (64 * im_at x (69 + y)) z2) → (64 - z2).toNat = nn_211 → Wd G k 6 0 0 [(h, .inr (9, [.ref a, .ref b, .ref tk, .ref re, .ref qu, .int (iI hd), .int (iI tl), .ref nm, .int (iI nl)])), (b, .inl (gI G, 4096, .inl (arI e)))] 211 [(0, .ref h), (1, .int (iI (im_at d 68))), (2, .int (iI s3)), (3, .int (iI y)), (4, .int (iI (im_at x (69 + y)))), (5, .int (iI z2))] [] := by
                              intro nn_211
                              induction nn_211 using Nat.strongRecOn with
                              | ind nn_211 ih_211 =>
                                intro z2 e h7 he hm_211
                                refine w_iload C 5 dX11_replay_211 rfl ?_
                                refine w_bipush C dX11_replay_213 (by decide) ?_
                                refine w_icmp_ge C 251 dX11_replay_215 rfl (by omega) (fun c_59 => ?_) (fun c_59 => ?_)
                                · refine w_iinc (lv2 := [(0, .ref h), (1, .int (iI (im_at d 68))), (2, .int (iI s3)), (3, .int (iI (y + 1))), (4, .int (iI (im_at x (69 + y)))), (5, .int (iI z2))]) C 3 dX11_replay_251 rfl (by decide) rfl ?_
                                  refine w_goto C 188 dX11_replay_254 rfl ?_
                                  refine w_lv (lv2 := [(0, .ref h), (1, .int (iI (im_at d 68))), (2, .int (iI s3)), (3, .int (iI (y + 1)))]) [0, 1, 2, 3] rfl ?_
                                  exact ih_188 _ (by omega) (y + 1) s3 e hs (by omega) (by rw [hx, if_pos hJ, if_pos hJ, show (im_at d 68 - y).toNat = (im_at d 68 - (y + 1)).toNat + 1 by omega, rps, show im_cpb x x (2 + y) (im_at x (69 + y)) = e from by unfold im_cpb; rw [if_pos (by omega), he, show (2 + y) * 64 = 64 * (2 + y) by omega, show im_at x (69 + y) * 64 = 64 * im_at x (69 + y) by omega, show z2 = 64 by omega]]) (fun j h => by rw [he]; show (if 64 * im_at x (69 + y) ≤ j ∧ j < 64 * im_at x (69 + y) + z2 then x.1 (64 * (2 + y) + (j - 64 * im_at x (69 + y))) else x.1 j) = d.1 j; rw [if_neg (by omega)]; exact hb j h) rfl
                                · refine w_aload_n C 0 dX11_replay_218 rfl ?_
                                  refine w_get C 0 1 847 dX11_replay_219 rfl rfl inX11 (by decide) (by decide +kernel) rfl ?_
                                  refine w_bipush C dX11_replay_222 (by decide) ?_
                                  refine w_iload C 4 dX11_replay_224 rfl ?_
                                  refine w_imul C dX11_replay_226 ?_
                                  refine w_iload C 5 dX11_replay_227 rfl ?_
                                  refine w_iadd C dX11_replay_229 ?_
                                  refine w_aload_n C 0 dX11_replay_230 rfl ?_
                                  refine w_get C 0 1 847 dX11_replay_231 rfl rfl inX11 (by decide) (by decide +kernel) rfl ?_
                                  refine w_bipush C dX11_replay_234 (by decide) ?_
                                  refine w_iconst C dX11_replay_236 ?_
                                  refine w_iload_n C 3 dX11_replay_237 rfl ?_
                                  refine w_iadd C dX11_replay_238 ?_
                                  refine w_imul C dX11_replay_239 ?_
                                  refine w_iload C 5 dX11_replay_240 rfl ?_
                                  refine w_iadd C dX11_replay_242 ?_
                                  refine w_iald C 1 dX11_replay_243 rfl (by omega) ?_
                                  have b_60 := e.2 ((64 * (2 + y)) + z2)
                                  refine w_iast (ws2 := [(h, .inr (9, [.ref a, .ref b, .ref tk, .ref re, .ref qu, .int (iI hd), .int (iI tl), .ref nm, .int (iI nl)])), (b, .inl (gI G, 4096, .inl (arI (up e ((64 * (im_at x (69 + y))) + z2) (e.1 ((64 * (2 + y)) + z2))))))]) C 1 dX11_replay_244 rfl (by omega) (by omega) rfl ?_
                                  refine w_iinc (lv2 := [(0, .ref h), (1, .int (iI (im_at d 68))), (2, .int (iI s3)), (3, .int (iI y)), (4, .int (iI (im_at x (69 + y)))), (5, .int (iI (z2 + 1)))]) C 5 dX11_replay_245 rfl (by decide) rfl ?_
                                  refine w_goto C 211 dX11_replay_248 rfl ?_
                                  exact ih_211 _ (by omega) (z2 + 1) (up e ((64 * (im_at x (69 + y))) + z2) (e.1 ((64 * (2 + y)) + z2))) (by omega) (by rw [he]; exact cp2_next x (64 * (2 + y)) (64 * im_at x (69 + y)) z2 (by omega) (by omega)) rfl
                            exact L_211 _ 0 x (by omega) (cp2_0 x _ _) rfl
                    exact L_188 _ 0 s d (by rw [jnB_ref, hG]; first | rfl | (rw [h3, show i = im_at d 68 by omega]; rfl)) (by omega) (by rw [show im_at d 68 - 0 = im_at d 68 by omega]) (fun j h => rfl) rfl
                  · refine w_aload_n C 0 dX11_replay_105 rfl ?_
                    refine w_get C 0 1 847 dX11_replay_106 rfl rfl inX11 (by decide) (by decide +kernel) rfl ?_
                    refine w_bipush C dX11_replay_109 (by decide) ?_
                    refine w_iload_n C 3 dX11_replay_111 rfl ?_
                    refine w_iadd C dX11_replay_112 ?_
                    refine w_iald C 1 dX11_replay_113 rfl (by omega) ?_
                    have b_61 := d.2 (69 + i)
                    refine w_st (st2 := [.int (iI (im_at d (69 + i)))]) (by rw [im_at_in d (by omega)]) ?_
                    refine w_istore (lv2 := [(0, .ref h), (1, .int (iI (im_at d 68))), (2, .int (iI s)), (3, .int (iI i)), (4, .int (iI (im_at d (69 + i))))]) C dX11_replay_114 (by decide) rfl ?_
                    have t0 := im_at_rg d (69 + i)
                    refine w_iload_n C 2 dX11_replay_116 rfl ?_
                    refine w_if_eq C 138 dX11_replay_117 rfl (by omega) (fun c_62 => ?_) (fun c_62 => ?_)
                    · refine w_iconst C dX11_replay_138 ?_
                      refine w_istore_n (lv2 := [(0, .ref h), (1, .int (iI (im_at d 68))), (2, .int (iI 0)), (3, .int (iI i)), (4, .int (iI (im_at d (69 + i))))]) C dX11_replay_139 (by decide) rfl ?_
                      refine w_iconst C dX11_replay_140 ?_
                      refine w_istore (lv2 := [(0, .ref h), (1, .int (iI (im_at d 68))), (2, .int (iI 0)), (3, .int (iI i)), (4, .int (iI (im_at d (69 + i)))), (5, .int (iI 0))]) C dX11_replay_141 (by decide) rfl ?_
                      have L_143 : ∀ (nn_143 : Nat) (jj : Int) (s2 : Int), (0 ≤ jj ∧ jj ≤ i) → (s2 = bI ((rpH d && tgB d i.toNat) && (decide (7 ≤ im_at d (69 + i) ∧ im_at d (69 + i) < 63) && dsB d i jj.toNat))) → (i - jj).toNat = nn_143 → Wd G k 6 0 0 [(h, .inr (9, [.ref a, .ref b, .ref tk, .ref re, .ref qu, .int (iI hd), .int (iI tl), .ref nm, .int (iI nl)])), (b, .inl (gI G, 4096, .inl (arI d)))] 143 [(0, .ref h), (1, .int (iI (im_at d 68))), (2, .int (iI s2)), (3, .int (iI i)), (4, .int (iI (im_at d (69 + i)))), (5, .int (iI jj))] [] := by
                        intro nn_143
                        induction nn_143 using Nat.strongRecOn with
                        | ind nn_143 ih_143 =>
                          intro jj s2 h5 h6 hm_143
                          have q2 := bI_rg ((rpH d && tgB d i.toNat) && (decide (7 ≤ im_at d (69 + i) ∧ im_at d (69 + i) < 63) && dsB d i jj.toNat))
                          have t1 := im_at_rg d (69 + jj)
                          refine w_iload C 5 dX11_replay_143 rfl ?_
                          refine w_iload_n C 3 dX11_replay_145 rfl ?_
                          refine w_icmp_ge C 180 dX11_replay_146 rfl (by omega) (fun c_63 => ?_) (fun c_63 => ?_)
                          · refine w_iinc (lv2 := [(0, .ref h), (1, .int (iI (im_at d 68))), (2, .int (iI s2)), (3, .int (iI (i + 1))), (4, .int (iI (im_at d (69 + i)))), (5, .int (iI jj))]) C 3 dX11_replay_180 rfl (by decide) rfl ?_
                            refine w_goto C 100 dX11_replay_183 rfl ?_
                            refine w_lv (lv2 := [(0, .ref h), (1, .int (iI (im_at d 68))), (2, .int (iI s2)), (3, .int (iI (i + 1)))]) [0, 1, 2, 3] rfl ?_
                            exact ih_100 _ (by omega) (i + 1) s2 (by omega) (by rw [h6, show (i + 1).toNat = i.toNat + 1 by omega, tgB, show ((i.toNat : Nat) : Int) = i by omega, show jj = i by omega, Bool.and_assoc]) rfl
                          · refine w_iload_n C 2 dX11_replay_149 rfl ?_
                            refine w_if_eq C 172 dX11_replay_150 rfl (by omega) (fun c_64 => ?_) (fun c_64 => ?_)
                            · refine w_iconst C dX11_replay_172 ?_
                              refine w_istore_n (lv2 := [(0, .ref h), (1, .int (iI (im_at d 68))), (2, .int (iI 0)), (3, .int (iI i)), (4, .int (iI (im_at d (69 + i)))), (5, .int (iI jj))]) C dX11_replay_173 (by decide) rfl ?_
                              refine w_iinc (lv2 := [(0, .ref h), (1, .int (iI (im_at d 68))), (2, .int (iI 0)), (3, .int (iI i)), (4, .int (iI (im_at d (69 + i)))), (5, .int (iI (jj + 1)))]) C 5 dX11_replay_174 rfl (by decide) rfl ?_
                              refine w_goto C 143 dX11_replay_177 rfl ?_
                              exact ih_143 _ (by omega) (jj + 1) 0 (by omega) (by rw [show (jj + 1).toNat = jj.toNat + 1 by omega, dsB, show ((jj.toNat : Nat) : Int) = jj by omega, ← Bool.and_assoc, ← Bool.and_assoc, Bool.and_assoc (rpH d && tgB d i.toNat)]; cases z : ((rpH d && tgB d i.toNat) && (decide (7 ≤ im_at d (69 + i) ∧ im_at d (69 + i) < 63) && dsB d i jj.toNat)) with | false => (rw [z] at h6; change s2 = 0 at h6; first | rfl | (exfalso; omega)) | true => (rw [z] at h6; change s2 = 1 at h6; first | rfl | (rw [decide_eq_true (by omega)]; rfl) | (rw [decide_eq_false (by omega)]; rfl) | (exfalso; omega))) rfl
                            · refine w_aload_n C 0 dX11_replay_153 rfl ?_
                              refine w_get C 0 1 847 dX11_replay_154 rfl rfl inX11 (by decide) (by decide +kernel) rfl ?_
                              refine w_bipush C dX11_replay_157 (by decide) ?_
                              refine w_iload C 5 dX11_replay_159 rfl ?_
                              refine w_iadd C dX11_replay_161 ?_
                              refine w_iald C 1 dX11_replay_162 rfl (by omega) ?_
                              have b_65 := d.2 (69 + jj)
                              refine w_st (st2 := [.int (iI (im_at d (69 + jj)))]) (by rw [im_at_in d (by omega)]) ?_
                              refine w_iload C 4 dX11_replay_163 rfl ?_
                              refine w_icmp_eq C 172 dX11_replay_165 rfl (by omega) (fun c_66 => ?_) (fun c_66 => ?_)
                              · refine w_iconst C dX11_replay_172 ?_
                                refine w_istore_n (lv2 := [(0, .ref h), (1, .int (iI (im_at d 68))), (2, .int (iI 0)), (3, .int (iI i)), (4, .int (iI (im_at d (69 + i)))), (5, .int (iI jj))]) C dX11_replay_173 (by decide) rfl ?_
                                refine w_iinc (lv2 := [(0, .ref h), (1, .int (iI (im_at d 68))), (2, .int (iI 0)), (3, .int (iI i)), (4, .int (iI (im_at d (69 + i)))), (5, .int (iI (jj + 1)))]) C 5 dX11_replay_174 rfl (by decide) rfl ?_
                                refine w_goto C 143 dX11_replay_177 rfl ?_
                                exact ih_143 _ (by omega) (jj + 1) 0 (by omega) (by rw [show (jj + 1).toNat = jj.toNat + 1 by omega, dsB, show ((jj.toNat : Nat) : Int) = jj by omega, ← Bool.and_assoc, ← Bool.and_assoc, Bool.and_assoc (rpH d && tgB d i.toNat)]; cases z : ((rpH d && tgB d i.toNat) && (decide (7 ≤ im_at d (69 + i) ∧ im_at d (69 + i) < 63) && dsB d i jj.toNat)) with | false => (rw [z] at h6; change s2 = 0 at h6; first | rfl | (exfalso; omega)) | true => (rw [z] at h6; change s2 = 1 at h6; first | rfl | (rw [decide_eq_true (by omega)]; rfl) | (rw [decide_eq_false (by omega)]; rfl) | (exfalso; omega))) rfl
                              · refine w_iconst C dX11_replay_168 ?_
                                refine w_goto C 173 dX11_replay_169 rfl ?_
                                refine w_istore_n (lv2 := [(0, .ref h), (1, .int (iI (im_at d 68))), (2, .int (iI 1)), (3, .int (iI i)), (4, .int (iI (im_at d (69 + i)))), (5, .int (iI jj))]) C dX11_replay_173 (by decide) rfl ?_
                                refine w_iinc (lv2 := [(0, .ref h), (1, .int (iI (im_at d 68))), (2, .int (iI 1)), (3, .int (iI i)), (4, .int (iI (im_at d (69 + i)))), (5, .int (iI (jj + 1)))]) C 5 dX11_replay_174 rfl (by decide) rfl ?_
                                refine w_goto C 143 dX11_replay_177 rfl ?_
                                exact ih_143 _ (by omega) (jj + 1) 1 (by omega) (by rw [show (jj + 1).toNat = jj.toNat + 1 by omega, dsB, show ((jj.toNat : Nat) : Int) = jj by omega, ← Bool.and_assoc, ← Bool.and_assoc, Bool.and_assoc (rpH d && tgB d i.toNat)]; cases z : ((rpH d && tgB d i.toNat) && (decide (7 ≤ im_at d (69 + i) ∧ im_at d (69 + i) < 63) && dsB d i jj.toNat)) with | false => (rw [z] at h6; change s2 = 0 at h6; first | rfl | (exfalso; omega)) | true => (rw [z] at h6; change s2 = 1 at h6; first | rfl | (rw [decide_eq_true (by omega)]; rfl) | (rw [decide_eq_false (by omega)]; rfl) | (exfalso; omega))) rfl
                      exact L_143 _ 0 0 (by omega) (by show _ = bI ((rpH d && tgB d i.toNat) && (decide (7 ≤ im_at d (69 + i) ∧ im_at d (69 + i) < 63) && true)); rw [Bool.and_true]; cases z : (rpH d && tgB d i.toNat) with | false => (rw [z] at h3; change s = 0 at h3; first | rfl | (exfalso; omega)) | true => (rw [z] at h3; change s = 1 at h3; first | rfl | (rw [decide_eq_true (by omega)]; rfl) | (rw [decide_eq_false (by omega)]; rfl) | (exfalso; omega))) rfl
                    · refine w_iload C 4 dX11_replay_120 rfl ?_
                      refine w_bipush C dX11_replay_122 (by decide) ?_
                      refine w_icmp_lt C 138 dX11_replay_124 rfl (by omega) (fun c_67 => ?_) (fun c_67 => ?_)
                      · refine w_iconst C dX11_replay_138 ?_
                        refine w_istore_n (lv2 := [(0, .ref h), (1, .int (iI (im_at d 68))), (2, .int (iI 0)), (3, .int (iI i)), (4, .int (iI (im_at d (69 + i))))]) C dX11_replay_139 (by decide) rfl ?_
                        refine w_iconst C dX11_replay_140 ?_
                        refine w_istore (lv2 := [(0, .ref h), (1, .int (iI (im_at d 68))), (2, .int (iI 0)), (3, .int (iI i)), (4, .int (iI (im_at d (69 + i)))), (5, .int (iI 0))]) C dX11_replay_141 (by decide) rfl ?_
                        have L_143 : ∀ (nn_143 : Nat) (jj : Int) (s2 : Int), (0 ≤ jj ∧ jj ≤ i) → (s2 = bI ((rpH d && tgB d i.toNat) && (decide (7 ≤ im_at d (69 + i) ∧ im_at d (69 + i) < 63) && dsB d i jj.toNat))) → (i - jj).toNat = nn_143 → Wd G k 6 0 0 [(h, .inr (9, [.ref a, .ref b, .ref tk, .ref re, .ref qu, .int (iI hd), .int (iI tl), .ref nm, .int (iI nl)])), (b, .inl (gI G, 4096, .inl (arI d)))] 143 [(0, .ref h), (1, .int (iI (im_at d 68))), (2, .int (iI s2)), (3, .int (iI i)), (4, .int (iI (im_at d (69 + i)))), (5, .int (iI jj))] [] := by
                          intro nn_143
                          induction nn_143 using Nat.strongRecOn with
                          | ind nn_143 ih_143 =>
                            intro jj s2 h5 h6 hm_143
                            have q2 := bI_rg ((rpH d && tgB d i.toNat) && (decide (7 ≤ im_at d (69 + i) ∧ im_at d (69 + i) < 63) && dsB d i jj.toNat))
                            have t1 := im_at_rg d (69 + jj)
                            refine w_iload C 5 dX11_replay_143 rfl ?_
                            refine w_iload_n C 3 dX11_replay_145 rfl ?_
                            refine w_icmp_ge C 180 dX11_replay_146 rfl (by omega) (fun c_68 => ?_) (fun c_68 => ?_)
                            · refine w_iinc (lv2 := [(0, .ref h), (1, .int (iI (im_at d 68))), (2, .int (iI s2)), (3, .int (iI (i + 1))), (4, .int (iI (im_at d (69 + i)))), (5, .int (iI jj))]) C 3 dX11_replay_180 rfl (by decide) rfl ?_
                              refine w_goto C 100 dX11_replay_183 rfl ?_
                              refine w_lv (lv2 := [(0, .ref h), (1, .int (iI (im_at d 68))), (2, .int (iI s2)), (3, .int (iI (i + 1)))]) [0, 1, 2, 3] rfl ?_
                              exact ih_100 _ (by omega) (i + 1) s2 (by omega) (by rw [h6, show (i + 1).toNat = i.toNat + 1 by omega, tgB, show ((i.toNat : Nat) : Int) = i by omega, show jj = i by omega, Bool.and_assoc]) rfl
                            · refine w_iload_n C 2 dX11_replay_149 rfl ?_
                              refine w_if_eq C 172 dX11_replay_150 rfl (by omega) (fun c_69 => ?_) (fun c_69 => ?_)
                              · refine w_iconst C dX11_replay_172 ?_
                                refine w_istore_n (lv2 := [(0, .ref h), (1, .int (iI (im_at d 68))), (2, .int (iI 0)), (3, .int (iI i)), (4, .int (iI (im_at d (69 + i)))), (5, .int (iI jj))]) C dX11_replay_173 (by decide) rfl ?_
                                refine w_iinc (lv2 := [(0, .ref h), (1, .int (iI (im_at d 68))), (2, .int (iI 0)), (3, .int (iI i)), (4, .int (iI (im_at d (69 + i)))), (5, .int (iI (jj + 1)))]) C 5 dX11_replay_174 rfl (by decide) rfl ?_
                                refine w_goto C 143 dX11_replay_177 rfl ?_
                                exact ih_143 _ (by omega) (jj + 1) 0 (by omega) (by rw [show (jj + 1).toNat = jj.toNat + 1 by omega, dsB, show ((jj.toNat : Nat) : Int) = jj by omega, ← Bool.and_assoc, ← Bool.and_assoc, Bool.and_assoc (rpH d && tgB d i.toNat)]; cases z : ((rpH d && tgB d i.toNat) && (decide (7 ≤ im_at d (69 + i) ∧ im_at d (69 + i) < 63) && dsB d i jj.toNat)) with | false => (rw [z] at h6; change s2 = 0 at h6; first | rfl | (exfalso; omega)) | true => (rw [z] at h6; change s2 = 1 at h6; first | rfl | (rw [decide_eq_true (by omega)]; rfl) | (rw [decide_eq_false (by omega)]; rfl) | (exfalso; omega))) rfl
                              · refine w_aload_n C 0 dX11_replay_153 rfl ?_
                                refine w_get C 0 1 847 dX11_replay_154 rfl rfl inX11 (by decide) (by decide +kernel) rfl ?_
                                refine w_bipush C dX11_replay_157 (by decide) ?_
                                refine w_iload C 5 dX11_replay_159 rfl ?_
                                refine w_iadd C dX11_replay_161 ?_
                                refine w_iald C 1 dX11_replay_162 rfl (by omega) ?_
                                have b_70 := d.2 (69 + jj)
                                refine w_st (st2 := [.int (iI (im_at d (69 + jj)))]) (by rw [im_at_in d (by omega)]) ?_
                                refine w_iload C 4 dX11_replay_163 rfl ?_
                                refine w_icmp_eq C 172 dX11_replay_165 rfl (by omega) (fun c_71 => ?_) (fun c_71 => ?_)
                                · refine w_iconst C dX11_replay_172 ?_
                                  refine w_istore_n (lv2 := [(0, .ref h), (1, .int (iI (im_at d 68))), (2, .int (iI 0)), (3, .int (iI i)), (4, .int (iI (im_at d (69 + i)))), (5, .int (iI jj))]) C dX11_replay_173 (by decide) rfl ?_
                                  refine w_iinc (lv2 := [(0, .ref h), (1, .int (iI (im_at d 68))), (2, .int (iI 0)), (3, .int (iI i)), (4, .int (iI (im_at d (69 + i)))), (5, .int (iI (jj + 1)))]) C 5 dX11_replay_174 rfl (by decide) rfl ?_
                                  refine w_goto C 143 dX11_replay_177 rfl ?_
                                  exact ih_143 _ (by omega) (jj + 1) 0 (by omega) (by rw [show (jj + 1).toNat = jj.toNat + 1 by omega, dsB, show ((jj.toNat : Nat) : Int) = jj by omega, ← Bool.and_assoc, ← Bool.and_assoc, Bool.and_assoc (rpH d && tgB d i.toNat)]; cases z : ((rpH d && tgB d i.toNat) && (decide (7 ≤ im_at d (69 + i) ∧ im_at d (69 + i) < 63) && dsB d i jj.toNat)) with | false => (rw [z] at h6; change s2 = 0 at h6; first | rfl | (exfalso; omega)) | true => (rw [z] at h6; change s2 = 1 at h6; first | rfl | (rw [decide_eq_true (by omega)]; rfl) | (rw [decide_eq_false (by omega)]; rfl) | (exfalso; omega))) rfl
                                · refine w_iconst C dX11_replay_168 ?_
                                  refine w_goto C 173 dX11_replay_169 rfl ?_
                                  refine w_istore_n (lv2 := [(0, .ref h), (1, .int (iI (im_at d 68))), (2, .int (iI 1)), (3, .int (iI i)), (4, .int (iI (im_at d (69 + i)))), (5, .int (iI jj))]) C dX11_replay_173 (by decide) rfl ?_
                                  refine w_iinc (lv2 := [(0, .ref h), (1, .int (iI (im_at d 68))), (2, .int (iI 1)), (3, .int (iI i)), (4, .int (iI (im_at d (69 + i)))), (5, .int (iI (jj + 1)))]) C 5 dX11_replay_174 rfl (by decide) rfl ?_
                                  refine w_goto C 143 dX11_replay_177 rfl ?_
                                  exact ih_143 _ (by omega) (jj + 1) 1 (by omega) (by rw [show (jj + 1).toNat = jj.toNat + 1 by omega, dsB, show ((jj.toNat : Nat) : Int) = jj by omega, ← Bool.and_assoc, ← Bool.and_assoc, Bool.and_assoc (rpH d && tgB d i.toNat)]; cases z : ((rpH d && tgB d i.toNat) && (decide (7 ≤ im_at d (69 + i) ∧ im_at d (69 + i) < 63) && dsB d i jj.toNat)) with | false => (rw [z] at h6; change s2 = 0 at h6; first | rfl | (exfalso; omega)) | true => (rw [z] at h6; change s2 = 1 at h6; first | rfl | (rw [decide_eq_true (by omega)]; rfl) | (rw [decide_eq_false (by omega)]; rfl) | (exfalso; omega))) rfl
                        exact L_143 _ 0 0 (by omega) (by show _ = bI ((rpH d && tgB d i.toNat) && (decide (7 ≤ im_at d (69 + i) ∧ im_at d (69 + i) < 63) && true)); rw [Bool.and_true]; cases z : (rpH d && tgB d i.toNat) with | false => (rw [z] at h3; change s = 0 at h3; first | rfl | (exfalso; omega)) | true => (rw [z] at h3; change s = 1 at h3; first | rfl | (rw [decide_eq_true (by omega)]; rfl) | (rw [decide_eq_false (by omega)]; rfl) | (exfalso; omega))) rfl
                      · refine w_iload C 4 dX11_replay_127 rfl ?_
                        refine w_bipush C dX11_replay_129 (by decide) ?_
                        refine w_icmp_ge C 138 dX11_replay_131 rfl (by omega) (fun c_72 => ?_) (fun c_72 => ?_)
                        · refine w_iconst C dX11_replay_138 ?_
                          refine w_istore_n (lv2 := [(0, .ref h), (1, .int (iI (im_at d 68))), (2, .int (iI 0)), (3, .int (iI i)), (4, .int (iI (im_at d (69 + i))))]) C dX11_replay_139 (by decide) rfl ?_
                          refine w_iconst C dX11_replay_140 ?_
                          refine w_istore (lv2 := [(0, .ref h), (1, .int (iI (im_at d 68))), (2, .int (iI 0)), (3, .int (iI i)), (4, .int (iI (im_at d (69 + i)))), (5, .int (iI 0))]) C dX11_replay_141 (by decide) rfl ?_
                          have L_143 : ∀ (nn_143 : Nat) (jj : Int) (s2 : Int), (0 ≤ jj ∧ jj ≤ i) → (s2 = bI ((rpH d && tgB d i.toNat) && (decide (7 ≤ im_at d (69 + i) ∧ im_at d (69 + i) < 63) && dsB d i jj.toNat))) → (i - jj).toNat = nn_143 → Wd G k 6 0 0 [(h, .inr (9, [.ref a, .ref b, .ref tk, .ref re, .ref qu, .int (iI hd), .int (iI tl), .ref nm, .int (iI nl)])), (b, .inl (gI G, 4096, .inl (arI d)))] 143 [(0, .ref h), (1, .int (iI (im_at d 68))), (2, .int (iI s2)), (3, .int (iI i)), (4, .int (iI (im_at d (69 + i)))), (5, .int (iI jj))] [] := by
                            intro nn_143
                            induction nn_143 using Nat.strongRecOn with
                            | ind nn_143 ih_143 =>
                              intro jj s2 h5 h6 hm_143
                              have q2 := bI_rg ((rpH d && tgB d i.toNat) && (decide (7 ≤ im_at d (69 + i) ∧ im_at d (69 + i) < 63) && dsB d i jj.toNat))
                              have t1 := im_at_rg d (69 + jj)
                              refine w_iload C 5 dX11_replay_143 rfl ?_
                              refine w_iload_n C 3 dX11_replay_145 rfl ?_
                              refine w_icmp_ge C 180 dX11_replay_146 rfl (by omega) (fun c_73 => ?_) (fun c_73 => ?_)
                              · refine w_iinc (lv2 := [(0, .ref h), (1, .int (iI (im_at d 68))), (2, .int (iI s2)), (3, .int (iI (i + 1))), (4, .int (iI (im_at d (69 + i)))), (5, .int (iI jj))]) C 3 dX11_replay_180 rfl (by decide) rfl ?_
                                refine w_goto C 100 dX11_replay_183 rfl ?_
                                refine w_lv (lv2 := [(0, .ref h), (1, .int (iI (im_at d 68))), (2, .int (iI s2)), (3, .int (iI (i + 1)))]) [0, 1, 2, 3] rfl ?_
                                exact ih_100 _ (by omega) (i + 1) s2 (by omega) (by rw [h6, show (i + 1).toNat = i.toNat + 1 by omega, tgB, show ((i.toNat : Nat) : Int) = i by omega, show jj = i by omega, Bool.and_assoc]) rfl
                              · refine w_iload_n C 2 dX11_replay_149 rfl ?_
                                refine w_if_eq C 172 dX11_replay_150 rfl (by omega) (fun c_74 => ?_) (fun c_74 => ?_)
                                · refine w_iconst C dX11_replay_172 ?_
                                  refine w_istore_n (lv2 := [(0, .ref h), (1, .int (iI (im_at d 68))), (2, .int (iI 0)), (3, .int (iI i)), (4, .int (iI (im_at d (69 + i)))), (5, .int (iI jj))]) C dX11_replay_173 (by decide) rfl ?_
                                  refine w_iinc (lv2 := [(0, .ref h), (1, .int (iI (im_at d 68))), (2, .int (iI 0)), (3, .int (iI i)), (4, .int (iI (im_at d (69 + i)))), (5, .int (iI (jj + 1)))]) C 5 dX11_replay_174 rfl (by decide) rfl ?_
                                  refine w_goto C 143 dX11_replay_177 rfl ?_
                                  exact ih_143 _ (by omega) (jj + 1) 0 (by omega) (by rw [show (jj + 1).toNat = jj.toNat + 1 by omega, dsB, show ((jj.toNat : Nat) : Int) = jj by omega, ← Bool.and_assoc, ← Bool.and_assoc, Bool.and_assoc (rpH d && tgB d i.toNat)]; cases z : ((rpH d && tgB d i.toNat) && (decide (7 ≤ im_at d (69 + i) ∧ im_at d (69 + i) < 63) && dsB d i jj.toNat)) with | false => (rw [z] at h6; change s2 = 0 at h6; first | rfl | (exfalso; omega)) | true => (rw [z] at h6; change s2 = 1 at h6; first | rfl | (rw [decide_eq_true (by omega)]; rfl) | (rw [decide_eq_false (by omega)]; rfl) | (exfalso; omega))) rfl
                                · refine w_aload_n C 0 dX11_replay_153 rfl ?_
                                  refine w_get C 0 1 847 dX11_replay_154 rfl rfl inX11 (by decide) (by decide +kernel) rfl ?_
                                  refine w_bipush C dX11_replay_157 (by decide) ?_
                                  refine w_iload C 5 dX11_replay_159 rfl ?_
                                  refine w_iadd C dX11_replay_161 ?_
                                  refine w_iald C 1 dX11_replay_162 rfl (by omega) ?_
                                  have b_75 := d.2 (69 + jj)
                                  refine w_st (st2 := [.int (iI (im_at d (69 + jj)))]) (by rw [im_at_in d (by omega)]) ?_
                                  refine w_iload C 4 dX11_replay_163 rfl ?_
                                  refine w_icmp_eq C 172 dX11_replay_165 rfl (by omega) (fun c_76 => ?_) (fun c_76 => ?_)
                                  · refine w_iconst C dX11_replay_172 ?_
                                    refine w_istore_n (lv2 := [(0, .ref h), (1, .int (iI (im_at d 68))), (2, .int (iI 0)), (3, .int (iI i)), (4, .int (iI (im_at d (69 + i)))), (5, .int (iI jj))]) C dX11_replay_173 (by decide) rfl ?_
                                    refine w_iinc (lv2 := [(0, .ref h), (1, .int (iI (im_at d 68))), (2, .int (iI 0)), (3, .int (iI i)), (4, .int (iI (im_at d (69 + i)))), (5, .int (iI (jj + 1)))]) C 5 dX11_replay_174 rfl (by decide) rfl ?_
                                    refine w_goto C 143 dX11_replay_177 rfl ?_
                                    exact ih_143 _ (by omega) (jj + 1) 0 (by omega) (by rw [show (jj + 1).toNat = jj.toNat + 1 by omega, dsB, show ((jj.toNat : Nat) : Int) = jj by omega, ← Bool.and_assoc, ← Bool.and_assoc, Bool.and_assoc (rpH d && tgB d i.toNat)]; cases z : ((rpH d && tgB d i.toNat) && (decide (7 ≤ im_at d (69 + i) ∧ im_at d (69 + i) < 63) && dsB d i jj.toNat)) with | false => (rw [z] at h6; change s2 = 0 at h6; first | rfl | (exfalso; omega)) | true => (rw [z] at h6; change s2 = 1 at h6; first | rfl | (rw [decide_eq_true (by omega)]; rfl) | (rw [decide_eq_false (by omega)]; rfl) | (exfalso; omega))) rfl
                                  · refine w_iconst C dX11_replay_168 ?_
                                    refine w_goto C 173 dX11_replay_169 rfl ?_
                                    refine w_istore_n (lv2 := [(0, .ref h), (1, .int (iI (im_at d 68))), (2, .int (iI 1)), (3, .int (iI i)), (4, .int (iI (im_at d (69 + i)))), (5, .int (iI jj))]) C dX11_replay_173 (by decide) rfl ?_
                                    refine w_iinc (lv2 := [(0, .ref h), (1, .int (iI (im_at d 68))), (2, .int (iI 1)), (3, .int (iI i)), (4, .int (iI (im_at d (69 + i)))), (5, .int (iI (jj + 1)))]) C 5 dX11_replay_174 rfl (by decide) rfl ?_
                                    refine w_goto C 143 dX11_replay_177 rfl ?_
                                    exact ih_143 _ (by omega) (jj + 1) 1 (by omega) (by rw [show (jj + 1).toNat = jj.toNat + 1 by omega, dsB, show ((jj.toNat : Nat) : Int) = jj by omega, ← Bool.and_assoc, ← Bool.and_assoc, Bool.and_assoc (rpH d && tgB d i.toNat)]; cases z : ((rpH d && tgB d i.toNat) && (decide (7 ≤ im_at d (69 + i) ∧ im_at d (69 + i) < 63) && dsB d i jj.toNat)) with | false => (rw [z] at h6; change s2 = 0 at h6; first | rfl | (exfalso; omega)) | true => (rw [z] at h6; change s2 = 1 at h6; first | rfl | (rw [decide_eq_true (by omega)]; rfl) | (rw [decide_eq_false (by omega)]; rfl) | (exfalso; omega))) rfl
                          exact L_143 _ 0 0 (by omega) (by show _ = bI ((rpH d && tgB d i.toNat) && (decide (7 ≤ im_at d (69 + i) ∧ im_at d (69 + i) < 63) && true)); rw [Bool.and_true]; cases z : (rpH d && tgB d i.toNat) with | false => (rw [z] at h3; change s = 0 at h3; first | rfl | (exfalso; omega)) | true => (rw [z] at h3; change s = 1 at h3; first | rfl | (rw [decide_eq_true (by omega)]; rfl) | (rw [decide_eq_false (by omega)]; rfl) | (exfalso; omega))) rfl
                        · refine w_iconst C dX11_replay_134 ?_
                          refine w_goto C 139 dX11_replay_135 rfl ?_
                          refine w_istore_n (lv2 := [(0, .ref h), (1, .int (iI (im_at d 68))), (2, .int (iI 1)), (3, .int (iI i)), (4, .int (iI (im_at d (69 + i))))]) C dX11_replay_139 (by decide) rfl ?_
                          refine w_iconst C dX11_replay_140 ?_
                          refine w_istore (lv2 := [(0, .ref h), (1, .int (iI (im_at d 68))), (2, .int (iI 1)), (3, .int (iI i)), (4, .int (iI (im_at d (69 + i)))), (5, .int (iI 0))]) C dX11_replay_141 (by decide) rfl ?_
                          have L_143 : ∀ (nn_143 : Nat) (jj : Int) (s2 : Int), (0 ≤ jj ∧ jj ≤ i) → (s2 = bI ((rpH d && tgB d i.toNat) && (decide (7 ≤ im_at d (69 + i) ∧ im_at d (69 + i) < 63) && dsB d i jj.toNat))) → (i - jj).toNat = nn_143 → Wd G k 6 0 0 [(h, .inr (9, [.ref a, .ref b, .ref tk, .ref re, .ref qu, .int (iI hd), .int (iI tl), .ref nm, .int (iI nl)])), (b, .inl (gI G, 4096, .inl (arI d)))] 143 [(0, .ref h), (1, .int (iI (im_at d 68))), (2, .int (iI s2)), (3, .int (iI i)), (4, .int (iI (im_at d (69 + i)))), (5, .int (iI jj))] [] := by
                            intro nn_143
                            induction nn_143 using Nat.strongRecOn with
                            | ind nn_143 ih_143 =>
                              intro jj s2 h5 h6 hm_143
                              have q2 := bI_rg ((rpH d && tgB d i.toNat) && (decide (7 ≤ im_at d (69 + i) ∧ im_at d (69 + i) < 63) && dsB d i jj.toNat))
                              have t1 := im_at_rg d (69 + jj)
                              refine w_iload C 5 dX11_replay_143 rfl ?_
                              refine w_iload_n C 3 dX11_replay_145 rfl ?_
                              refine w_icmp_ge C 180 dX11_replay_146 rfl (by omega) (fun c_77 => ?_) (fun c_77 => ?_)
                              · refine w_iinc (lv2 := [(0, .ref h), (1, .int (iI (im_at d 68))), (2, .int (iI s2)), (3, .int (iI (i + 1))), (4, .int (iI (im_at d (69 + i)))), (5, .int (iI jj))]) C 3 dX11_replay_180 rfl (by decide) rfl ?_
                                refine w_goto C 100 dX11_replay_183 rfl ?_
                                refine w_lv (lv2 := [(0, .ref h), (1, .int (iI (im_at d 68))), (2, .int (iI s2)), (3, .int (iI (i + 1)))]) [0, 1, 2, 3] rfl ?_
                                exact ih_100 _ (by omega) (i + 1) s2 (by omega) (by rw [h6, show (i + 1).toNat = i.toNat + 1 by omega, tgB, show ((i.toNat : Nat) : Int) = i by omega, show jj = i by omega, Bool.and_assoc]) rfl
                              · refine w_iload_n C 2 dX11_replay_149 rfl ?_
                                refine w_if_eq C 172 dX11_replay_150 rfl (by omega) (fun c_78 => ?_) (fun c_78 => ?_)
                                · refine w_iconst C dX11_replay_172 ?_
                                  refine w_istore_n (lv2 := [(0, .ref h), (1, .int (iI (im_at d 68))), (2, .int (iI 0)), (3, .int (iI i)), (4, .int (iI (im_at d (69 + i)))), (5, .int (iI jj))]) C dX11_replay_173 (by decide) rfl ?_
                                  refine w_iinc (lv2 := [(0, .ref h), (1, .int (iI (im_at d 68))), (2, .int (iI 0)), (3, .int (iI i)), (4, .int (iI (im_at d (69 + i)))), (5, .int (iI (jj + 1)))]) C 5 dX11_replay_174 rfl (by decide) rfl ?_
                                  refine w_goto C 143 dX11_replay_177 rfl ?_
                                  exact ih_143 _ (by omega) (jj + 1) 0 (by omega) (by rw [show (jj + 1).toNat = jj.toNat + 1 by omega, dsB, show ((jj.toNat : Nat) : Int) = jj by omega, ← Bool.and_assoc, ← Bool.and_assoc, Bool.and_assoc (rpH d && tgB d i.toNat)]; cases z : ((rpH d && tgB d i.toNat) && (decide (7 ≤ im_at d (69 + i) ∧ im_at d (69 + i) < 63) && dsB d i jj.toNat)) with | false => (rw [z] at h6; change s2 = 0 at h6; first | rfl | (exfalso; omega)) | true => (rw [z] at h6; change s2 = 1 at h6; first | rfl | (rw [decide_eq_true (by omega)]; rfl) | (rw [decide_eq_false (by omega)]; rfl) | (exfalso; omega))) rfl
                                · refine w_aload_n C 0 dX11_replay_153 rfl ?_
                                  refine w_get C 0 1 847 dX11_replay_154 rfl rfl inX11 (by decide) (by decide +kernel) rfl ?_
                                  refine w_bipush C dX11_replay_157 (by decide) ?_
                                  refine w_iload C 5 dX11_replay_159 rfl ?_
                                  refine w_iadd C dX11_replay_161 ?_
                                  refine w_iald C 1 dX11_replay_162 rfl (by omega) ?_
                                  have b_79 := d.2 (69 + jj)
                                  refine w_st (st2 := [.int (iI (im_at d (69 + jj)))]) (by rw [im_at_in d (by omega)]) ?_
                                  refine w_iload C 4 dX11_replay_163 rfl ?_
                                  refine w_icmp_eq C 172 dX11_replay_165 rfl (by omega) (fun c_80 => ?_) (fun c_80 => ?_)
                                  · refine w_iconst C dX11_replay_172 ?_
                                    refine w_istore_n (lv2 := [(0, .ref h), (1, .int (iI (im_at d 68))), (2, .int (iI 0)), (3, .int (iI i)), (4, .int (iI (im_at d (69 + i)))), (5, .int (iI jj))]) C dX11_replay_173 (by decide) rfl ?_
                                    refine w_iinc (lv2 := [(0, .ref h), (1, .int (iI (im_at d 68))), (2, .int (iI 0)), (3, .int (iI i)), (4, .int (iI (im_at d (69 + i)))), (5, .int (iI (jj + 1)))]) C 5 dX11_replay_174 rfl (by decide) rfl ?_
                                    refine w_goto C 143 dX11_replay_177 rfl ?_
                                    exact ih_143 _ (by omega) (jj + 1) 0 (by omega) (by rw [show (jj + 1).toNat = jj.toNat + 1 by omega, dsB, show ((jj.toNat : Nat) : Int) = jj by omega, ← Bool.and_assoc, ← Bool.and_assoc, Bool.and_assoc (rpH d && tgB d i.toNat)]; cases z : ((rpH d && tgB d i.toNat) && (decide (7 ≤ im_at d (69 + i) ∧ im_at d (69 + i) < 63) && dsB d i jj.toNat)) with | false => (rw [z] at h6; change s2 = 0 at h6; first | rfl | (exfalso; omega)) | true => (rw [z] at h6; change s2 = 1 at h6; first | rfl | (rw [decide_eq_true (by omega)]; rfl) | (rw [decide_eq_false (by omega)]; rfl) | (exfalso; omega))) rfl
                                  · refine w_iconst C dX11_replay_168 ?_
                                    refine w_goto C 173 dX11_replay_169 rfl ?_
                                    refine w_istore_n (lv2 := [(0, .ref h), (1, .int (iI (im_at d 68))), (2, .int (iI 1)), (3, .int (iI i)), (4, .int (iI (im_at d (69 + i)))), (5, .int (iI jj))]) C dX11_replay_173 (by decide) rfl ?_
                                    refine w_iinc (lv2 := [(0, .ref h), (1, .int (iI (im_at d 68))), (2, .int (iI 1)), (3, .int (iI i)), (4, .int (iI (im_at d (69 + i)))), (5, .int (iI (jj + 1)))]) C 5 dX11_replay_174 rfl (by decide) rfl ?_
                                    refine w_goto C 143 dX11_replay_177 rfl ?_
                                    exact ih_143 _ (by omega) (jj + 1) 1 (by omega) (by rw [show (jj + 1).toNat = jj.toNat + 1 by omega, dsB, show ((jj.toNat : Nat) : Int) = jj by omega, ← Bool.and_assoc, ← Bool.and_assoc, Bool.and_assoc (rpH d && tgB d i.toNat)]; cases z : ((rpH d && tgB d i.toNat) && (decide (7 ≤ im_at d (69 + i) ∧ im_at d (69 + i) < 63) && dsB d i jj.toNat)) with | false => (rw [z] at h6; change s2 = 0 at h6; first | rfl | (exfalso; omega)) | true => (rw [z] at h6; change s2 = 1 at h6; first | rfl | (rw [decide_eq_true (by omega)]; rfl) | (rw [decide_eq_false (by omega)]; rfl) | (exfalso; omega))) rfl
                          exact L_143 _ 0 1 (by omega) (by show _ = bI ((rpH d && tgB d i.toNat) && (decide (7 ≤ im_at d (69 + i) ∧ im_at d (69 + i) < 63) && true)); rw [Bool.and_true]; cases z : (rpH d && tgB d i.toNat) with | false => (rw [z] at h3; change s = 0 at h3; first | rfl | (exfalso; omega)) | true => (rw [z] at h3; change s = 1 at h3; first | rfl | (rw [decide_eq_true (by omega)]; rfl) | (rw [decide_eq_false (by omega)]; rfl) | (exfalso; omega))) rfl
              exact L_100 _ 0 0 (by omega) (by rw [hH]; rfl) rfl
            · have hH : rpH d = true := by unfold rpH; rw [c2, decide_eq_true c_54]; rfl
              refine w_iconst C dX11_replay_92 ?_
              refine w_goto C 97 dX11_replay_93 rfl ?_
              refine w_istore_n (lv2 := [(0, .ref h), (1, .int (iI (im_at d 68))), (2, .int (iI 1))]) C dX11_replay_97 (by decide) rfl ?_
              refine w_iconst C dX11_replay_98 ?_
              refine w_istore_n (lv2 := [(0, .ref h), (1, .int (iI (im_at d 68))), (2, .int (iI 1)), (3, .int (iI 0))]) C dX11_replay_99 (by decide) rfl ?_
              have L_100 : ∀ (nn_100 : Nat) (i : Int) (s : Int), (0 ≤ i ∧ i ≤ im_at d 68) → (s = bI (rpH d && tgB d i.toNat)) → (im_at d 68 - i).toNat = nn_100 → Wd G k 6 0 0 [(h, .inr (9, [.ref a, .ref b, .ref tk, .ref re, .ref qu, .int (iI hd), .int (iI tl), .ref nm, .int (iI nl)])), (b, .inl (gI G, 4096, .inl (arI d)))] 100 [(0, .ref h), (1, .int (iI (im_at d 68))), (2, .int (iI s)), (3, .int (iI i))] [] := by
                intro nn_100
                induction nn_100 using Nat.strongRecOn with
                | ind nn_100 ih_100 =>
                  intro i s h1 h3 hm_100
                  have q1 := bI_rg (rpH d && tgB d i.toNat)
                  refine w_iload_n C 3 dX11_replay_100 rfl ?_
                  refine w_iload_n C 1 dX11_replay_101 rfl ?_
                  refine w_icmp_ge C 186 dX11_replay_102 rfl (by omega) (fun c_81 => ?_) (fun c_81 => ?_)
                  · refine w_iconst C dX11_replay_186 ?_
                    refine w_istore_n (lv2 := [(0, .ref h), (1, .int (iI (im_at d 68))), (2, .int (iI s)), (3, .int (iI 0))]) C dX11_replay_187 (by decide) rfl ?_
                    have L_188 : ∀ (nn_188 : Nat) (y : Int) (s3 : Int) (x : Im), (s3 = bI (jnB d)) → (0 ≤ y ∧ (y ≤ im_at d 68 ∨ y = 0)) → ((if jnB d = true then rps (im_at d 68).toNat 0 d else d) = (if jnB d = true then rps (im_at d 68 - y).toNat y x else x)) → (∀ j : Int, j < 448 → x.1 j = d.1 j) → (im_at d 68 - y).toNat = nn_188 → Wd G k 6 0 0 [(h, .inr (9, [.ref a, .ref b, .ref tk, .ref re, .ref qu, .int (iI hd), .int (iI tl), .ref nm, .int (iI nl)])), (b, .inl (gI G, 4096, .inl (arI x)))] 188 [(0, .ref h), (1, .int (iI (im_at d 68))), (2, .int (iI s3)), (3, .int (iI y))] [] := by
                      intro nn_188
                      induction nn_188 using Nat.strongRecOn with
                      | ind nn_188 ih_188 =>
                        intro y s3 x hs hy hx hb hm_188
                        have q3 := bI_rg (jnB d)
                        have n0 := im_at_rg d 68
                        refine w_iload_n C 3 dX11_replay_188 rfl ?_
                        refine w_iload_n C 1 dX11_replay_189 rfl ?_
                        refine w_icmp_ge C 257 dX11_replay_190 rfl (by omega) (fun c_82 => ?_) (fun c_82 => ?_)
                        · refine w_aload_n C 0 dX11_replay_257 rfl ?_
                          refine w_bipush C dX11_replay_258 (by decide) ?_
                          refine w_bipush C dX11_replay_260 (by decide) ?_
                          refine w_callV (As := [.int (iI 64), .int (iI 64)]) (rest := []) (w2 := [(h, .inr (9, [.ref a, .ref b, .ref tk, .ref re, .ref qu, .int (iI hd), .int (iI tl), .ref nm, .int (iI nl)])), (b, .inl (gI G, 4096, .inl (arI (im_wipe x 64 64))))]) (st2 := []) C (ct_X11_clear G (kl k) h a b tk re qu nm hd tl nl x 64 64 (by unfold rgP; omega)) gX11_65 dX11_replay_262 0 rfl rfl rfl rfl rfl (Nat.le_of_ble_eq_true rfl) (by decide) [0, 1] rfl (by decide) [h, b] rfl rfl rfl rfl ?_
                          exact w_retv hret dX11_replay_265 rfl rfl rfl ⟨rfl, (by unfold jnR; rw [hx]; first | (rw [if_neg (show ¬ jnB d = true by rw [hJ0]; decide)]; done) | (by_cases hJ : jnB d = true; (rw [if_pos hJ, show (im_at d 68 - y).toNat = 0 by omega, rps]); (rw [if_neg hJ])))⟩
                        · refine w_iload_n C 2 dX11_replay_193 rfl ?_
                          refine w_if_eq C 257 dX11_replay_194 rfl (by omega) (fun c_83 => ?_) (fun c_83 => ?_)
                          · have hJ0 : jnB d = false := by cases z : jnB d with | false => rfl | true => (rw [z] at hs; change s3 = 1 at hs; omega)
                            refine w_aload_n C 0 dX11_replay_257 rfl ?_
                            refine w_bipush C dX11_replay_258 (by decide) ?_
                            refine w_bipush C dX11_replay_260 (by decide) ?_
                            refine w_callV (As := [.int (iI 64), .int (iI 64)]) (rest := []) (w2 := [(h, .inr (9, [.ref a, .ref b, .ref tk, .ref re, .ref qu, .int (iI hd), .int (iI tl), .ref nm, .int (iI nl)])), (b, .inl (gI G, 4096, .inl (arI (im_wipe x 64 64))))]) (st2 := []) C (ct_X11_clear G (kl k) h a b tk re qu nm hd tl nl x 64 64 (by unfold rgP; omega)) gX11_65 dX11_replay_262 0 rfl rfl rfl rfl rfl (Nat.le_of_ble_eq_true rfl) (by decide) [0, 1] rfl (by decide) [h, b] rfl rfl rfl rfl ?_
                            exact w_retv hret dX11_replay_265 rfl rfl rfl ⟨rfl, (by unfold jnR; rw [hx]; first | (rw [if_neg (show ¬ jnB d = true by rw [hJ0]; decide)]; done) | (by_cases hJ : jnB d = true; (rw [if_pos hJ, show (im_at d 68 - y).toNat = 0 by omega, rps]); (rw [if_neg hJ])))⟩
                          · have hJ : jnB d = true := by cases z : jnB d with | true => rfl | false => (rw [z] at hs; change s3 = 0 at hs; omega)
                            have hK := jnB_ref d
                            rw [hJ] at hK
                            have hK2 : rpG d = true ∧ rpH d = true ∧ tgB d (im_at d 68).toNat = true := by have w := hK.symm; simp only [Bool.and_eq_true] at w; exact w
                            have n5 : 1 ≤ im_at d 68 ∧ im_at d 68 ≤ 5 := by have w := hK2.1; unfold rpG at w; rw [Bool.and_eq_true, decide_eq_true_iff] at w; exact w.2
                            have ex : im_at x (69 + y) = im_at d (69 + y) := by rw [im_at_in x (by omega), im_at_in d (by omega)]; exact hb _ (by omega)
                            have ht := ((tgB_iff d (im_at d 68).toNat).mp hK2.2.2 y (by omega) (by omega)).1
                            rw [← ex] at ht
                            refine w_aload_n C 0 dX11_replay_197 rfl ?_
                            refine w_get C 0 1 847 dX11_replay_198 rfl rfl inX11 (by decide) (by decide +kernel) rfl ?_
                            refine w_bipush C dX11_replay_201 (by decide) ?_
                            refine w_iload_n C 3 dX11_replay_203 rfl ?_
                            refine w_iadd C dX11_replay_204 ?_
                            refine w_iald C 1 dX11_replay_205 rfl (by omega) ?_
                            have b_84 := x.2 (69 + y)
                            refine w_st (st2 := [.int (iI (im_at x (69 + y)))]) (by rw [im_at_in x (by omega)]) ?_
                            refine w_istore (lv2 := [(0, .ref h), (1, .int (iI (im_at d 68))), (2, .int (iI s3)), (3, .int (iI y)), (4, .int (iI (im_at x (69 + y))))]) C dX11_replay_206 (by decide) rfl ?_
                            refine w_iconst C dX11_replay_208 ?_
                            refine w_istore (lv2 := [(0, .ref h), (1, .int (iI (im_at d 68))), (2, .int (iI s3)), (3, .int (iI y)), (4, .int (iI (im_at x (69 + y)))), (5, .int (iI 0))]) C dX11_replay_209 (by decide) rfl ?_
                            have L_211 : ∀ (nn_211 : Nat) (z2 : Int) (e : Im), (0 ≤ z2 ∧ z2 ≤ 64) → (e = cpy x x (64 * (2 + y)) (64 * im_at x (69 + y)) z2) → (64 - z2).toNat = nn_211 → Wd G k 6 0 0 [(h, .inr (9, [.ref a, .ref b, .ref tk, .ref re, .ref qu, .int (iI hd), .int (iI tl), .ref nm, .int (iI nl)])), (b, .inl (gI G, 4096, .inl (arI e)))] 211 [(0, .ref h), (1, .int (iI (im_at d 68))), (2, .int (iI s3)), (3, .int (iI y)), (4, .int (iI (im_at x (69 + y)))), (5, .int (iI z2))] [] := by
                              intro nn_211
                              induction nn_211 using Nat.strongRecOn with
                              | ind nn_211 ih_211 =>
                                intro z2 e h7 he hm_211
                                refine w_iload C 5 dX11_replay_211 rfl ?_
                                refine w_bipush C dX11_replay_213 (by decide) ?_
                                refine w_icmp_ge C 251 dX11_replay_215 rfl (by omega) (fun c_85 => ?_) (fun c_85 => ?_)
                                · refine w_iinc (lv2 := [(0, .ref h), (1, .int (iI (im_at d 68))), (2, .int (iI s3)), (3, .int (iI (y + 1))), (4, .int (iI (im_at x (69 + y)))), (5, .int (iI z2))]) C 3 dX11_replay_251 rfl (by decide) rfl ?_
                                  refine w_goto C 188 dX11_replay_254 rfl ?_
                                  refine w_lv (lv2 := [(0, .ref h), (1, .int (iI (im_at d 68))), (2, .int (iI s3)), (3, .int (iI (y + 1)))]) [0, 1, 2, 3] rfl ?_
                                  exact ih_188 _ (by omega) (y + 1) s3 e hs (by omega) (by rw [hx, if_pos hJ, if_pos hJ, show (im_at d 68 - y).toNat = (im_at d 68 - (y + 1)).toNat + 1 by omega, rps, show im_cpb x x (2 + y) (im_at x (69 + y)) = e from by unfold im_cpb; rw [if_pos (by omega), he, show (2 + y) * 64 = 64 * (2 + y) by omega, show im_at x (69 + y) * 64 = 64 * im_at x (69 + y) by omega, show z2 = 64 by omega]]) (fun j h => by rw [he]; show (if 64 * im_at x (69 + y) ≤ j ∧ j < 64 * im_at x (69 + y) + z2 then x.1 (64 * (2 + y) + (j - 64 * im_at x (69 + y))) else x.1 j) = d.1 j; rw [if_neg (by omega)]; exact hb j h) rfl
                                · refine w_aload_n C 0 dX11_replay_218 rfl ?_
                                  refine w_get C 0 1 847 dX11_replay_219 rfl rfl inX11 (by decide) (by decide +kernel) rfl ?_
                                  refine w_bipush C dX11_replay_222 (by decide) ?_
                                  refine w_iload C 4 dX11_replay_224 rfl ?_
                                  refine w_imul C dX11_replay_226 ?_
                                  refine w_iload C 5 dX11_replay_227 rfl ?_
                                  refine w_iadd C dX11_replay_229 ?_
                                  refine w_aload_n C 0 dX11_replay_230 rfl ?_
                                  refine w_get C 0 1 847 dX11_replay_231 rfl rfl inX11 (by decide) (by decide +kernel) rfl ?_
                                  refine w_bipush C dX11_replay_234 (by decide) ?_
                                  refine w_iconst C dX11_replay_236 ?_
                                  refine w_iload_n C 3 dX11_replay_237 rfl ?_
                                  refine w_iadd C dX11_replay_238 ?_
                                  refine w_imul C dX11_replay_239 ?_
                                  refine w_iload C 5 dX11_replay_240 rfl ?_
                                  refine w_iadd C dX11_replay_242 ?_
                                  refine w_iald C 1 dX11_replay_243 rfl (by omega) ?_
                                  have b_86 := e.2 ((64 * (2 + y)) + z2)
                                  refine w_iast (ws2 := [(h, .inr (9, [.ref a, .ref b, .ref tk, .ref re, .ref qu, .int (iI hd), .int (iI tl), .ref nm, .int (iI nl)])), (b, .inl (gI G, 4096, .inl (arI (up e ((64 * (im_at x (69 + y))) + z2) (e.1 ((64 * (2 + y)) + z2))))))]) C 1 dX11_replay_244 rfl (by omega) (by omega) rfl ?_
                                  refine w_iinc (lv2 := [(0, .ref h), (1, .int (iI (im_at d 68))), (2, .int (iI s3)), (3, .int (iI y)), (4, .int (iI (im_at x (69 + y)))), (5, .int (iI (z2 + 1)))]) C 5 dX11_replay_245 rfl (by decide) rfl ?_
                                  refine w_goto C 211 dX11_replay_248 rfl ?_
                                  exact ih_211 _ (by omega) (z2 + 1) (up e ((64 * (im_at x (69 + y))) + z2) (e.1 ((64 * (2 + y)) + z2))) (by omega) (by rw [he]; exact cp2_next x (64 * (2 + y)) (64 * im_at x (69 + y)) z2 (by omega) (by omega)) rfl
                            exact L_211 _ 0 x (by omega) (cp2_0 x _ _) rfl
                    exact L_188 _ 0 s d (by rw [jnB_ref, hG]; first | rfl | (rw [h3, show i = im_at d 68 by omega]; rfl)) (by omega) (by rw [show im_at d 68 - 0 = im_at d 68 by omega]) (fun j h => rfl) rfl
                  · refine w_aload_n C 0 dX11_replay_105 rfl ?_
                    refine w_get C 0 1 847 dX11_replay_106 rfl rfl inX11 (by decide) (by decide +kernel) rfl ?_
                    refine w_bipush C dX11_replay_109 (by decide) ?_
                    refine w_iload_n C 3 dX11_replay_111 rfl ?_
                    refine w_iadd C dX11_replay_112 ?_
                    refine w_iald C 1 dX11_replay_113 rfl (by omega) ?_
                    have b_87 := d.2 (69 + i)
                    refine w_st (st2 := [.int (iI (im_at d (69 + i)))]) (by rw [im_at_in d (by omega)]) ?_
                    refine w_istore (lv2 := [(0, .ref h), (1, .int (iI (im_at d 68))), (2, .int (iI s)), (3, .int (iI i)), (4, .int (iI (im_at d (69 + i))))]) C dX11_replay_114 (by decide) rfl ?_
                    have t0 := im_at_rg d (69 + i)
                    refine w_iload_n C 2 dX11_replay_116 rfl ?_
                    refine w_if_eq C 138 dX11_replay_117 rfl (by omega) (fun c_88 => ?_) (fun c_88 => ?_)
                    · refine w_iconst C dX11_replay_138 ?_
                      refine w_istore_n (lv2 := [(0, .ref h), (1, .int (iI (im_at d 68))), (2, .int (iI 0)), (3, .int (iI i)), (4, .int (iI (im_at d (69 + i))))]) C dX11_replay_139 (by decide) rfl ?_
                      refine w_iconst C dX11_replay_140 ?_
                      refine w_istore (lv2 := [(0, .ref h), (1, .int (iI (im_at d 68))), (2, .int (iI 0)), (3, .int (iI i)), (4, .int (iI (im_at d (69 + i)))), (5, .int (iI 0))]) C dX11_replay_141 (by decide) rfl ?_
                      have L_143 : ∀ (nn_143 : Nat) (jj : Int) (s2 : Int), (0 ≤ jj ∧ jj ≤ i) → (s2 = bI ((rpH d && tgB d i.toNat) && (decide (7 ≤ im_at d (69 + i) ∧ im_at d (69 + i) < 63) && dsB d i jj.toNat))) → (i - jj).toNat = nn_143 → Wd G k 6 0 0 [(h, .inr (9, [.ref a, .ref b, .ref tk, .ref re, .ref qu, .int (iI hd), .int (iI tl), .ref nm, .int (iI nl)])), (b, .inl (gI G, 4096, .inl (arI d)))] 143 [(0, .ref h), (1, .int (iI (im_at d 68))), (2, .int (iI s2)), (3, .int (iI i)), (4, .int (iI (im_at d (69 + i)))), (5, .int (iI jj))] [] := by
                        intro nn_143
                        induction nn_143 using Nat.strongRecOn with
                        | ind nn_143 ih_143 =>
                          intro jj s2 h5 h6 hm_143
                          have q2 := bI_rg ((rpH d && tgB d i.toNat) && (decide (7 ≤ im_at d (69 + i) ∧ im_at d (69 + i) < 63) && dsB d i jj.toNat))
                          have t1 := im_at_rg d (69 + jj)
                          refine w_iload C 5 dX11_replay_143 rfl ?_
                          refine w_iload_n C 3 dX11_replay_145 rfl ?_
                          refine w_icmp_ge C 180 dX11_replay_146 rfl (by omega) (fun c_89 => ?_) (fun c_89 => ?_)
                          · refine w_iinc (lv2 := [(0, .ref h), (1, .int (iI (im_at d 68))), (2, .int (iI s2)), (3, .int (iI (i + 1))), (4, .int (iI (im_at d (69 + i)))), (5, .int (iI jj))]) C 3 dX11_replay_180 rfl (by decide) rfl ?_
                            refine w_goto C 100 dX11_replay_183 rfl ?_
                            refine w_lv (lv2 := [(0, .ref h), (1, .int (iI (im_at d 68))), (2, .int (iI s2)), (3, .int (iI (i + 1)))]) [0, 1, 2, 3] rfl ?_
                            exact ih_100 _ (by omega) (i + 1) s2 (by omega) (by rw [h6, show (i + 1).toNat = i.toNat + 1 by omega, tgB, show ((i.toNat : Nat) : Int) = i by omega, show jj = i by omega, Bool.and_assoc]) rfl
                          · refine w_iload_n C 2 dX11_replay_149 rfl ?_
                            refine w_if_eq C 172 dX11_replay_150 rfl (by omega) (fun c_90 => ?_) (fun c_90 => ?_)
                            · refine w_iconst C dX11_replay_172 ?_
                              refine w_istore_n (lv2 := [(0, .ref h), (1, .int (iI (im_at d 68))), (2, .int (iI 0)), (3, .int (iI i)), (4, .int (iI (im_at d (69 + i)))), (5, .int (iI jj))]) C dX11_replay_173 (by decide) rfl ?_
                              refine w_iinc (lv2 := [(0, .ref h), (1, .int (iI (im_at d 68))), (2, .int (iI 0)), (3, .int (iI i)), (4, .int (iI (im_at d (69 + i)))), (5, .int (iI (jj + 1)))]) C 5 dX11_replay_174 rfl (by decide) rfl ?_
                              refine w_goto C 143 dX11_replay_177 rfl ?_
                              exact ih_143 _ (by omega) (jj + 1) 0 (by omega) (by rw [show (jj + 1).toNat = jj.toNat + 1 by omega, dsB, show ((jj.toNat : Nat) : Int) = jj by omega, ← Bool.and_assoc, ← Bool.and_assoc, Bool.and_assoc (rpH d && tgB d i.toNat)]; cases z : ((rpH d && tgB d i.toNat) && (decide (7 ≤ im_at d (69 + i) ∧ im_at d (69 + i) < 63) && dsB d i jj.toNat)) with | false => (rw [z] at h6; change s2 = 0 at h6; first | rfl | (exfalso; omega)) | true => (rw [z] at h6; change s2 = 1 at h6; first | rfl | (rw [decide_eq_true (by omega)]; rfl) | (rw [decide_eq_false (by omega)]; rfl) | (exfalso; omega))) rfl
                            · refine w_aload_n C 0 dX11_replay_153 rfl ?_
                              refine w_get C 0 1 847 dX11_replay_154 rfl rfl inX11 (by decide) (by decide +kernel) rfl ?_
                              refine w_bipush C dX11_replay_157 (by decide) ?_
                              refine w_iload C 5 dX11_replay_159 rfl ?_
                              refine w_iadd C dX11_replay_161 ?_
                              refine w_iald C 1 dX11_replay_162 rfl (by omega) ?_
                              have b_91 := d.2 (69 + jj)
                              refine w_st (st2 := [.int (iI (im_at d (69 + jj)))]) (by rw [im_at_in d (by omega)]) ?_
                              refine w_iload C 4 dX11_replay_163 rfl ?_
                              refine w_icmp_eq C 172 dX11_replay_165 rfl (by omega) (fun c_92 => ?_) (fun c_92 => ?_)
                              · refine w_iconst C dX11_replay_172 ?_
                                refine w_istore_n (lv2 := [(0, .ref h), (1, .int (iI (im_at d 68))), (2, .int (iI 0)), (3, .int (iI i)), (4, .int (iI (im_at d (69 + i)))), (5, .int (iI jj))]) C dX11_replay_173 (by decide) rfl ?_
                                refine w_iinc (lv2 := [(0, .ref h), (1, .int (iI (im_at d 68))), (2, .int (iI 0)), (3, .int (iI i)), (4, .int (iI (im_at d (69 + i)))), (5, .int (iI (jj + 1)))]) C 5 dX11_replay_174 rfl (by decide) rfl ?_
                                refine w_goto C 143 dX11_replay_177 rfl ?_
                                exact ih_143 _ (by omega) (jj + 1) 0 (by omega) (by rw [show (jj + 1).toNat = jj.toNat + 1 by omega, dsB, show ((jj.toNat : Nat) : Int) = jj by omega, ← Bool.and_assoc, ← Bool.and_assoc, Bool.and_assoc (rpH d && tgB d i.toNat)]; cases z : ((rpH d && tgB d i.toNat) && (decide (7 ≤ im_at d (69 + i) ∧ im_at d (69 + i) < 63) && dsB d i jj.toNat)) with | false => (rw [z] at h6; change s2 = 0 at h6; first | rfl | (exfalso; omega)) | true => (rw [z] at h6; change s2 = 1 at h6; first | rfl | (rw [decide_eq_true (by omega)]; rfl) | (rw [decide_eq_false (by omega)]; rfl) | (exfalso; omega))) rfl
                              · refine w_iconst C dX11_replay_168 ?_
                                refine w_goto C 173 dX11_replay_169 rfl ?_
                                refine w_istore_n (lv2 := [(0, .ref h), (1, .int (iI (im_at d 68))), (2, .int (iI 1)), (3, .int (iI i)), (4, .int (iI (im_at d (69 + i)))), (5, .int (iI jj))]) C dX11_replay_173 (by decide) rfl ?_
                                refine w_iinc (lv2 := [(0, .ref h), (1, .int (iI (im_at d 68))), (2, .int (iI 1)), (3, .int (iI i)), (4, .int (iI (im_at d (69 + i)))), (5, .int (iI (jj + 1)))]) C 5 dX11_replay_174 rfl (by decide) rfl ?_
                                refine w_goto C 143 dX11_replay_177 rfl ?_
                                exact ih_143 _ (by omega) (jj + 1) 1 (by omega) (by rw [show (jj + 1).toNat = jj.toNat + 1 by omega, dsB, show ((jj.toNat : Nat) : Int) = jj by omega, ← Bool.and_assoc, ← Bool.and_assoc, Bool.and_assoc (rpH d && tgB d i.toNat)]; cases z : ((rpH d && tgB d i.toNat) && (decide (7 ≤ im_at d (69 + i) ∧ im_at d (69 + i) < 63) && dsB d i jj.toNat)) with | false => (rw [z] at h6; change s2 = 0 at h6; first | rfl | (exfalso; omega)) | true => (rw [z] at h6; change s2 = 1 at h6; first | rfl | (rw [decide_eq_true (by omega)]; rfl) | (rw [decide_eq_false (by omega)]; rfl) | (exfalso; omega))) rfl
                      exact L_143 _ 0 0 (by omega) (by show _ = bI ((rpH d && tgB d i.toNat) && (decide (7 ≤ im_at d (69 + i) ∧ im_at d (69 + i) < 63) && true)); rw [Bool.and_true]; cases z : (rpH d && tgB d i.toNat) with | false => (rw [z] at h3; change s = 0 at h3; first | rfl | (exfalso; omega)) | true => (rw [z] at h3; change s = 1 at h3; first | rfl | (rw [decide_eq_true (by omega)]; rfl) | (rw [decide_eq_false (by omega)]; rfl) | (exfalso; omega))) rfl
                    · refine w_iload C 4 dX11_replay_120 rfl ?_
                      refine w_bipush C dX11_replay_122 (by decide) ?_
                      refine w_icmp_lt C 138 dX11_replay_124 rfl (by omega) (fun c_93 => ?_) (fun c_93 => ?_)
                      · refine w_iconst C dX11_replay_138 ?_
                        refine w_istore_n (lv2 := [(0, .ref h), (1, .int (iI (im_at d 68))), (2, .int (iI 0)), (3, .int (iI i)), (4, .int (iI (im_at d (69 + i))))]) C dX11_replay_139 (by decide) rfl ?_
                        refine w_iconst C dX11_replay_140 ?_
                        refine w_istore (lv2 := [(0, .ref h), (1, .int (iI (im_at d 68))), (2, .int (iI 0)), (3, .int (iI i)), (4, .int (iI (im_at d (69 + i)))), (5, .int (iI 0))]) C dX11_replay_141 (by decide) rfl ?_
                        have L_143 : ∀ (nn_143 : Nat) (jj : Int) (s2 : Int), (0 ≤ jj ∧ jj ≤ i) → (s2 = bI ((rpH d && tgB d i.toNat) && (decide (7 ≤ im_at d (69 + i) ∧ im_at d (69 + i) < 63) && dsB d i jj.toNat))) → (i - jj).toNat = nn_143 → Wd G k 6 0 0 [(h, .inr (9, [.ref a, .ref b, .ref tk, .ref re, .ref qu, .int (iI hd), .int (iI tl), .ref nm, .int (iI nl)])), (b, .inl (gI G, 4096, .inl (arI d)))] 143 [(0, .ref h), (1, .int (iI (im_at d 68))), (2, .int (iI s2)), (3, .int (iI i)), (4, .int (iI (im_at d (69 + i)))), (5, .int (iI jj))] [] := by
                          intro nn_143
                          induction nn_143 using Nat.strongRecOn with
                          | ind nn_143 ih_143 =>
                            intro jj s2 h5 h6 hm_143
                            have q2 := bI_rg ((rpH d && tgB d i.toNat) && (decide (7 ≤ im_at d (69 + i) ∧ im_at d (69 + i) < 63) && dsB d i jj.toNat))
                            have t1 := im_at_rg d (69 + jj)
                            refine w_iload C 5 dX11_replay_143 rfl ?_
                            refine w_iload_n C 3 dX11_replay_145 rfl ?_
                            refine w_icmp_ge C 180 dX11_replay_146 rfl (by omega) (fun c_94 => ?_) (fun c_94 => ?_)
                            · refine w_iinc (lv2 := [(0, .ref h), (1, .int (iI (im_at d 68))), (2, .int (iI s2)), (3, .int (iI (i + 1))), (4, .int (iI (im_at d (69 + i)))), (5, .int (iI jj))]) C 3 dX11_replay_180 rfl (by decide) rfl ?_
                              refine w_goto C 100 dX11_replay_183 rfl ?_
                              refine w_lv (lv2 := [(0, .ref h), (1, .int (iI (im_at d 68))), (2, .int (iI s2)), (3, .int (iI (i + 1)))]) [0, 1, 2, 3] rfl ?_
                              exact ih_100 _ (by omega) (i + 1) s2 (by omega) (by rw [h6, show (i + 1).toNat = i.toNat + 1 by omega, tgB, show ((i.toNat : Nat) : Int) = i by omega, show jj = i by omega, Bool.and_assoc]) rfl
                            · refine w_iload_n C 2 dX11_replay_149 rfl ?_
                              refine w_if_eq C 172 dX11_replay_150 rfl (by omega) (fun c_95 => ?_) (fun c_95 => ?_)
                              · refine w_iconst C dX11_replay_172 ?_
                                refine w_istore_n (lv2 := [(0, .ref h), (1, .int (iI (im_at d 68))), (2, .int (iI 0)), (3, .int (iI i)), (4, .int (iI (im_at d (69 + i)))), (5, .int (iI jj))]) C dX11_replay_173 (by decide) rfl ?_
                                refine w_iinc (lv2 := [(0, .ref h), (1, .int (iI (im_at d 68))), (2, .int (iI 0)), (3, .int (iI i)), (4, .int (iI (im_at d (69 + i)))), (5, .int (iI (jj + 1)))]) C 5 dX11_replay_174 rfl (by decide) rfl ?_
                                refine w_goto C 143 dX11_replay_177 rfl ?_
                                exact ih_143 _ (by omega) (jj + 1) 0 (by omega) (by rw [show (jj + 1).toNat = jj.toNat + 1 by omega, dsB, show ((jj.toNat : Nat) : Int) = jj by omega, ← Bool.and_assoc, ← Bool.and_assoc, Bool.and_assoc (rpH d && tgB d i.toNat)]; cases z : ((rpH d && tgB d i.toNat) && (decide (7 ≤ im_at d (69 + i) ∧ im_at d (69 + i) < 63) && dsB d i jj.toNat)) with | false => (rw [z] at h6; change s2 = 0 at h6; first | rfl | (exfalso; omega)) | true => (rw [z] at h6; change s2 = 1 at h6; first | rfl | (rw [decide_eq_true (by omega)]; rfl) | (rw [decide_eq_false (by omega)]; rfl) | (exfalso; omega))) rfl
                              · refine w_aload_n C 0 dX11_replay_153 rfl ?_
                                refine w_get C 0 1 847 dX11_replay_154 rfl rfl inX11 (by decide) (by decide +kernel) rfl ?_
                                refine w_bipush C dX11_replay_157 (by decide) ?_
                                refine w_iload C 5 dX11_replay_159 rfl ?_
                                refine w_iadd C dX11_replay_161 ?_
                                refine w_iald C 1 dX11_replay_162 rfl (by omega) ?_
                                have b_96 := d.2 (69 + jj)
                                refine w_st (st2 := [.int (iI (im_at d (69 + jj)))]) (by rw [im_at_in d (by omega)]) ?_
                                refine w_iload C 4 dX11_replay_163 rfl ?_
                                refine w_icmp_eq C 172 dX11_replay_165 rfl (by omega) (fun c_97 => ?_) (fun c_97 => ?_)
                                · refine w_iconst C dX11_replay_172 ?_
                                  refine w_istore_n (lv2 := [(0, .ref h), (1, .int (iI (im_at d 68))), (2, .int (iI 0)), (3, .int (iI i)), (4, .int (iI (im_at d (69 + i)))), (5, .int (iI jj))]) C dX11_replay_173 (by decide) rfl ?_
                                  refine w_iinc (lv2 := [(0, .ref h), (1, .int (iI (im_at d 68))), (2, .int (iI 0)), (3, .int (iI i)), (4, .int (iI (im_at d (69 + i)))), (5, .int (iI (jj + 1)))]) C 5 dX11_replay_174 rfl (by decide) rfl ?_
                                  refine w_goto C 143 dX11_replay_177 rfl ?_
                                  exact ih_143 _ (by omega) (jj + 1) 0 (by omega) (by rw [show (jj + 1).toNat = jj.toNat + 1 by omega, dsB, show ((jj.toNat : Nat) : Int) = jj by omega, ← Bool.and_assoc, ← Bool.and_assoc, Bool.and_assoc (rpH d && tgB d i.toNat)]; cases z : ((rpH d && tgB d i.toNat) && (decide (7 ≤ im_at d (69 + i) ∧ im_at d (69 + i) < 63) && dsB d i jj.toNat)) with | false => (rw [z] at h6; change s2 = 0 at h6; first | rfl | (exfalso; omega)) | true => (rw [z] at h6; change s2 = 1 at h6; first | rfl | (rw [decide_eq_true (by omega)]; rfl) | (rw [decide_eq_false (by omega)]; rfl) | (exfalso; omega))) rfl
                                · refine w_iconst C dX11_replay_168 ?_
                                  refine w_goto C 173 dX11_replay_169 rfl ?_
                                  refine w_istore_n (lv2 := [(0, .ref h), (1, .int (iI (im_at d 68))), (2, .int (iI 1)), (3, .int (iI i)), (4, .int (iI (im_at d (69 + i)))), (5, .int (iI jj))]) C dX11_replay_173 (by decide) rfl ?_
                                  refine w_iinc (lv2 := [(0, .ref h), (1, .int (iI (im_at d 68))), (2, .int (iI 1)), (3, .int (iI i)), (4, .int (iI (im_at d (69 + i)))), (5, .int (iI (jj + 1)))]) C 5 dX11_replay_174 rfl (by decide) rfl ?_
                                  refine w_goto C 143 dX11_replay_177 rfl ?_
                                  exact ih_143 _ (by omega) (jj + 1) 1 (by omega) (by rw [show (jj + 1).toNat = jj.toNat + 1 by omega, dsB, show ((jj.toNat : Nat) : Int) = jj by omega, ← Bool.and_assoc, ← Bool.and_assoc, Bool.and_assoc (rpH d && tgB d i.toNat)]; cases z : ((rpH d && tgB d i.toNat) && (decide (7 ≤ im_at d (69 + i) ∧ im_at d (69 + i) < 63) && dsB d i jj.toNat)) with | false => (rw [z] at h6; change s2 = 0 at h6; first | rfl | (exfalso; omega)) | true => (rw [z] at h6; change s2 = 1 at h6; first | rfl | (rw [decide_eq_true (by omega)]; rfl) | (rw [decide_eq_false (by omega)]; rfl) | (exfalso; omega))) rfl
                        exact L_143 _ 0 0 (by omega) (by show _ = bI ((rpH d && tgB d i.toNat) && (decide (7 ≤ im_at d (69 + i) ∧ im_at d (69 + i) < 63) && true)); rw [Bool.and_true]; cases z : (rpH d && tgB d i.toNat) with | false => (rw [z] at h3; change s = 0 at h3; first | rfl | (exfalso; omega)) | true => (rw [z] at h3; change s = 1 at h3; first | rfl | (rw [decide_eq_true (by omega)]; rfl) | (rw [decide_eq_false (by omega)]; rfl) | (exfalso; omega))) rfl
                      · refine w_iload C 4 dX11_replay_127 rfl ?_
                        refine w_bipush C dX11_replay_129 (by decide) ?_
                        refine w_icmp_ge C 138 dX11_replay_131 rfl (by omega) (fun c_98 => ?_) (fun c_98 => ?_)
                        · refine w_iconst C dX11_replay_138 ?_
                          refine w_istore_n (lv2 := [(0, .ref h), (1, .int (iI (im_at d 68))), (2, .int (iI 0)), (3, .int (iI i)), (4, .int (iI (im_at d (69 + i))))]) C dX11_replay_139 (by decide) rfl ?_
                          refine w_iconst C dX11_replay_140 ?_
                          refine w_istore (lv2 := [(0, .ref h), (1, .int (iI (im_at d 68))), (2, .int (iI 0)), (3, .int (iI i)), (4, .int (iI (im_at d (69 + i)))), (5, .int (iI 0))]) C dX11_replay_141 (by decide) rfl ?_
                          have L_143 : ∀ (nn_143 : Nat) (jj : Int) (s2 : Int), (0 ≤ jj ∧ jj ≤ i) → (s2 = bI ((rpH d && tgB d i.toNat) && (decide (7 ≤ im_at d (69 + i) ∧ im_at d (69 + i) < 63) && dsB d i jj.toNat))) → (i - jj).toNat = nn_143 → Wd G k 6 0 0 [(h, .inr (9, [.ref a, .ref b, .ref tk, .ref re, .ref qu, .int (iI hd), .int (iI tl), .ref nm, .int (iI nl)])), (b, .inl (gI G, 4096, .inl (arI d)))] 143 [(0, .ref h), (1, .int (iI (im_at d 68))), (2, .int (iI s2)), (3, .int (iI i)), (4, .int (iI (im_at d (69 + i)))), (5, .int (iI jj))] [] := by
                            intro nn_143
                            induction nn_143 using Nat.strongRecOn with
                            | ind nn_143 ih_143 =>
                              intro jj s2 h5 h6 hm_143
                              have q2 := bI_rg ((rpH d && tgB d i.toNat) && (decide (7 ≤ im_at d (69 + i) ∧ im_at d (69 + i) < 63) && dsB d i jj.toNat))
                              have t1 := im_at_rg d (69 + jj)
                              refine w_iload C 5 dX11_replay_143 rfl ?_
                              refine w_iload_n C 3 dX11_replay_145 rfl ?_
                              refine w_icmp_ge C 180 dX11_replay_146 rfl (by omega) (fun c_99 => ?_) (fun c_99 => ?_)
                              · refine w_iinc (lv2 := [(0, .ref h), (1, .int (iI (im_at d 68))), (2, .int (iI s2)), (3, .int (iI (i + 1))), (4, .int (iI (im_at d (69 + i)))), (5, .int (iI jj))]) C 3 dX11_replay_180 rfl (by decide) rfl ?_
                                refine w_goto C 100 dX11_replay_183 rfl ?_
                                refine w_lv (lv2 := [(0, .ref h), (1, .int (iI (im_at d 68))), (2, .int (iI s2)), (3, .int (iI (i + 1)))]) [0, 1, 2, 3] rfl ?_
                                exact ih_100 _ (by omega) (i + 1) s2 (by omega) (by rw [h6, show (i + 1).toNat = i.toNat + 1 by omega, tgB, show ((i.toNat : Nat) : Int) = i by omega, show jj = i by omega, Bool.and_assoc]) rfl
                              · refine w_iload_n C 2 dX11_replay_149 rfl ?_
                                refine w_if_eq C 172 dX11_replay_150 rfl (by omega) (fun c_100 => ?_) (fun c_100 => ?_)
                                · refine w_iconst C dX11_replay_172 ?_
                                  refine w_istore_n (lv2 := [(0, .ref h), (1, .int (iI (im_at d 68))), (2, .int (iI 0)), (3, .int (iI i)), (4, .int (iI (im_at d (69 + i)))), (5, .int (iI jj))]) C dX11_replay_173 (by decide) rfl ?_
                                  refine w_iinc (lv2 := [(0, .ref h), (1, .int (iI (im_at d 68))), (2, .int (iI 0)), (3, .int (iI i)), (4, .int (iI (im_at d (69 + i)))), (5, .int (iI (jj + 1)))]) C 5 dX11_replay_174 rfl (by decide) rfl ?_
                                  refine w_goto C 143 dX11_replay_177 rfl ?_
                                  exact ih_143 _ (by omega) (jj + 1) 0 (by omega) (by rw [show (jj + 1).toNat = jj.toNat + 1 by omega, dsB, show ((jj.toNat : Nat) : Int) = jj by omega, ← Bool.and_assoc, ← Bool.and_assoc, Bool.and_assoc (rpH d && tgB d i.toNat)]; cases z : ((rpH d && tgB d i.toNat) && (decide (7 ≤ im_at d (69 + i) ∧ im_at d (69 + i) < 63) && dsB d i jj.toNat)) with | false => (rw [z] at h6; change s2 = 0 at h6; first | rfl | (exfalso; omega)) | true => (rw [z] at h6; change s2 = 1 at h6; first | rfl | (rw [decide_eq_true (by omega)]; rfl) | (rw [decide_eq_false (by omega)]; rfl) | (exfalso; omega))) rfl
                                · refine w_aload_n C 0 dX11_replay_153 rfl ?_
                                  refine w_get C 0 1 847 dX11_replay_154 rfl rfl inX11 (by decide) (by decide +kernel) rfl ?_
                                  refine w_bipush C dX11_replay_157 (by decide) ?_
                                  refine w_iload C 5 dX11_replay_159 rfl ?_
                                  refine w_iadd C dX11_replay_161 ?_
                                  refine w_iald C 1 dX11_replay_162 rfl (by omega) ?_
                                  have b_101 := d.2 (69 + jj)
                                  refine w_st (st2 := [.int (iI (im_at d (69 + jj)))]) (by rw [im_at_in d (by omega)]) ?_
                                  refine w_iload C 4 dX11_replay_163 rfl ?_
                                  refine w_icmp_eq C 172 dX11_replay_165 rfl (by omega) (fun c_102 => ?_) (fun c_102 => ?_)
                                  · refine w_iconst C dX11_replay_172 ?_
                                    refine w_istore_n (lv2 := [(0, .ref h), (1, .int (iI (im_at d 68))), (2, .int (iI 0)), (3, .int (iI i)), (4, .int (iI (im_at d (69 + i)))), (5, .int (iI jj))]) C dX11_replay_173 (by decide) rfl ?_
                                    refine w_iinc (lv2 := [(0, .ref h), (1, .int (iI (im_at d 68))), (2, .int (iI 0)), (3, .int (iI i)), (4, .int (iI (im_at d (69 + i)))), (5, .int (iI (jj + 1)))]) C 5 dX11_replay_174 rfl (by decide) rfl ?_
                                    refine w_goto C 143 dX11_replay_177 rfl ?_
                                    exact ih_143 _ (by omega) (jj + 1) 0 (by omega) (by rw [show (jj + 1).toNat = jj.toNat + 1 by omega, dsB, show ((jj.toNat : Nat) : Int) = jj by omega, ← Bool.and_assoc, ← Bool.and_assoc, Bool.and_assoc (rpH d && tgB d i.toNat)]; cases z : ((rpH d && tgB d i.toNat) && (decide (7 ≤ im_at d (69 + i) ∧ im_at d (69 + i) < 63) && dsB d i jj.toNat)) with | false => (rw [z] at h6; change s2 = 0 at h6; first | rfl | (exfalso; omega)) | true => (rw [z] at h6; change s2 = 1 at h6; first | rfl | (rw [decide_eq_true (by omega)]; rfl) | (rw [decide_eq_false (by omega)]; rfl) | (exfalso; omega))) rfl
                                  · refine w_iconst C dX11_replay_168 ?_
                                    refine w_goto C 173 dX11_replay_169 rfl ?_
                                    refine w_istore_n (lv2 := [(0, .ref h), (1, .int (iI (im_at d 68))), (2, .int (iI 1)), (3, .int (iI i)), (4, .int (iI (im_at d (69 + i)))), (5, .int (iI jj))]) C dX11_replay_173 (by decide) rfl ?_
                                    refine w_iinc (lv2 := [(0, .ref h), (1, .int (iI (im_at d 68))), (2, .int (iI 1)), (3, .int (iI i)), (4, .int (iI (im_at d (69 + i)))), (5, .int (iI (jj + 1)))]) C 5 dX11_replay_174 rfl (by decide) rfl ?_
                                    refine w_goto C 143 dX11_replay_177 rfl ?_
                                    exact ih_143 _ (by omega) (jj + 1) 1 (by omega) (by rw [show (jj + 1).toNat = jj.toNat + 1 by omega, dsB, show ((jj.toNat : Nat) : Int) = jj by omega, ← Bool.and_assoc, ← Bool.and_assoc, Bool.and_assoc (rpH d && tgB d i.toNat)]; cases z : ((rpH d && tgB d i.toNat) && (decide (7 ≤ im_at d (69 + i) ∧ im_at d (69 + i) < 63) && dsB d i jj.toNat)) with | false => (rw [z] at h6; change s2 = 0 at h6; first | rfl | (exfalso; omega)) | true => (rw [z] at h6; change s2 = 1 at h6; first | rfl | (rw [decide_eq_true (by omega)]; rfl) | (rw [decide_eq_false (by omega)]; rfl) | (exfalso; omega))) rfl
                          exact L_143 _ 0 0 (by omega) (by show _ = bI ((rpH d && tgB d i.toNat) && (decide (7 ≤ im_at d (69 + i) ∧ im_at d (69 + i) < 63) && true)); rw [Bool.and_true]; cases z : (rpH d && tgB d i.toNat) with | false => (rw [z] at h3; change s = 0 at h3; first | rfl | (exfalso; omega)) | true => (rw [z] at h3; change s = 1 at h3; first | rfl | (rw [decide_eq_true (by omega)]; rfl) | (rw [decide_eq_false (by omega)]; rfl) | (exfalso; omega))) rfl
                        · refine w_iconst C dX11_replay_134 ?_
                          refine w_goto C 139 dX11_replay_135 rfl ?_
                          refine w_istore_n (lv2 := [(0, .ref h), (1, .int (iI (im_at d 68))), (2, .int (iI 1)), (3, .int (iI i)), (4, .int (iI (im_at d (69 + i))))]) C dX11_replay_139 (by decide) rfl ?_
                          refine w_iconst C dX11_replay_140 ?_
                          refine w_istore (lv2 := [(0, .ref h), (1, .int (iI (im_at d 68))), (2, .int (iI 1)), (3, .int (iI i)), (4, .int (iI (im_at d (69 + i)))), (5, .int (iI 0))]) C dX11_replay_141 (by decide) rfl ?_
                          have L_143 : ∀ (nn_143 : Nat) (jj : Int) (s2 : Int), (0 ≤ jj ∧ jj ≤ i) → (s2 = bI ((rpH d && tgB d i.toNat) && (decide (7 ≤ im_at d (69 + i) ∧ im_at d (69 + i) < 63) && dsB d i jj.toNat))) → (i - jj).toNat = nn_143 → Wd G k 6 0 0 [(h, .inr (9, [.ref a, .ref b, .ref tk, .ref re, .ref qu, .int (iI hd), .int (iI tl), .ref nm, .int (iI nl)])), (b, .inl (gI G, 4096, .inl (arI d)))] 143 [(0, .ref h), (1, .int (iI (im_at d 68))), (2, .int (iI s2)), (3, .int (iI i)), (4, .int (iI (im_at d (69 + i)))), (5, .int (iI jj))] [] := by
                            intro nn_143
                            induction nn_143 using Nat.strongRecOn with
                            | ind nn_143 ih_143 =>
                              intro jj s2 h5 h6 hm_143
                              have q2 := bI_rg ((rpH d && tgB d i.toNat) && (decide (7 ≤ im_at d (69 + i) ∧ im_at d (69 + i) < 63) && dsB d i jj.toNat))
                              have t1 := im_at_rg d (69 + jj)
                              refine w_iload C 5 dX11_replay_143 rfl ?_
                              refine w_iload_n C 3 dX11_replay_145 rfl ?_
                              refine w_icmp_ge C 180 dX11_replay_146 rfl (by omega) (fun c_103 => ?_) (fun c_103 => ?_)
                              · refine w_iinc (lv2 := [(0, .ref h), (1, .int (iI (im_at d 68))), (2, .int (iI s2)), (3, .int (iI (i + 1))), (4, .int (iI (im_at d (69 + i)))), (5, .int (iI jj))]) C 3 dX11_replay_180 rfl (by decide) rfl ?_
                                refine w_goto C 100 dX11_replay_183 rfl ?_
                                refine w_lv (lv2 := [(0, .ref h), (1, .int (iI (im_at d 68))), (2, .int (iI s2)), (3, .int (iI (i + 1)))]) [0, 1, 2, 3] rfl ?_
                                exact ih_100 _ (by omega) (i + 1) s2 (by omega) (by rw [h6, show (i + 1).toNat = i.toNat + 1 by omega, tgB, show ((i.toNat : Nat) : Int) = i by omega, show jj = i by omega, Bool.and_assoc]) rfl
                              · refine w_iload_n C 2 dX11_replay_149 rfl ?_
                                refine w_if_eq C 172 dX11_replay_150 rfl (by omega) (fun c_104 => ?_) (fun c_104 => ?_)
                                · refine w_iconst C dX11_replay_172 ?_
                                  refine w_istore_n (lv2 := [(0, .ref h), (1, .int (iI (im_at d 68))), (2, .int (iI 0)), (3, .int (iI i)), (4, .int (iI (im_at d (69 + i)))), (5, .int (iI jj))]) C dX11_replay_173 (by decide) rfl ?_
                                  refine w_iinc (lv2 := [(0, .ref h), (1, .int (iI (im_at d 68))), (2, .int (iI 0)), (3, .int (iI i)), (4, .int (iI (im_at d (69 + i)))), (5, .int (iI (jj + 1)))]) C 5 dX11_replay_174 rfl (by decide) rfl ?_
                                  refine w_goto C 143 dX11_replay_177 rfl ?_
                                  exact ih_143 _ (by omega) (jj + 1) 0 (by omega) (by rw [show (jj + 1).toNat = jj.toNat + 1 by omega, dsB, show ((jj.toNat : Nat) : Int) = jj by omega, ← Bool.and_assoc, ← Bool.and_assoc, Bool.and_assoc (rpH d && tgB d i.toNat)]; cases z : ((rpH d && tgB d i.toNat) && (decide (7 ≤ im_at d (69 + i) ∧ im_at d (69 + i) < 63) && dsB d i jj.toNat)) with | false => (rw [z] at h6; change s2 = 0 at h6; first | rfl | (exfalso; omega)) | true => (rw [z] at h6; change s2 = 1 at h6; first | rfl | (rw [decide_eq_true (by omega)]; rfl) | (rw [decide_eq_false (by omega)]; rfl) | (exfalso; omega))) rfl
                                · refine w_aload_n C 0 dX11_replay_153 rfl ?_
                                  refine w_get C 0 1 847 dX11_replay_154 rfl rfl inX11 (by decide) (by decide +kernel) rfl ?_
                                  refine w_bipush C dX11_replay_157 (by decide) ?_
                                  refine w_iload C 5 dX11_replay_159 rfl ?_
                                  refine w_iadd C dX11_replay_161 ?_
                                  refine w_iald C 1 dX11_replay_162 rfl (by omega) ?_
                                  have b_105 := d.2 (69 + jj)
                                  refine w_st (st2 := [.int (iI (im_at d (69 + jj)))]) (by rw [im_at_in d (by omega)]) ?_
                                  refine w_iload C 4 dX11_replay_163 rfl ?_
                                  refine w_icmp_eq C 172 dX11_replay_165 rfl (by omega) (fun c_106 => ?_) (fun c_106 => ?_)
                                  · refine w_iconst C dX11_replay_172 ?_
                                    refine w_istore_n (lv2 := [(0, .ref h), (1, .int (iI (im_at d 68))), (2, .int (iI 0)), (3, .int (iI i)), (4, .int (iI (im_at d (69 + i)))), (5, .int (iI jj))]) C dX11_replay_173 (by decide) rfl ?_
                                    refine w_iinc (lv2 := [(0, .ref h), (1, .int (iI (im_at d 68))), (2, .int (iI 0)), (3, .int (iI i)), (4, .int (iI (im_at d (69 + i)))), (5, .int (iI (jj + 1)))]) C 5 dX11_replay_174 rfl (by decide) rfl ?_
                                    refine w_goto C 143 dX11_replay_177 rfl ?_
                                    exact ih_143 _ (by omega) (jj + 1) 0 (by omega) (by rw [show (jj + 1).toNat = jj.toNat + 1 by omega, dsB, show ((jj.toNat : Nat) : Int) = jj by omega, ← Bool.and_assoc, ← Bool.and_assoc, Bool.and_assoc (rpH d && tgB d i.toNat)]; cases z : ((rpH d && tgB d i.toNat) && (decide (7 ≤ im_at d (69 + i) ∧ im_at d (69 + i) < 63) && dsB d i jj.toNat)) with | false => (rw [z] at h6; change s2 = 0 at h6; first | rfl | (exfalso; omega)) | true => (rw [z] at h6; change s2 = 1 at h6; first | rfl | (rw [decide_eq_true (by omega)]; rfl) | (rw [decide_eq_false (by omega)]; rfl) | (exfalso; omega))) rfl
                                  · refine w_iconst C dX11_replay_168 ?_
                                    refine w_goto C 173 dX11_replay_169 rfl ?_
                                    refine w_istore_n (lv2 := [(0, .ref h), (1, .int (iI (im_at d 68))), (2, .int (iI 1)), (3, .int (iI i)), (4, .int (iI (im_at d (69 + i)))), (5, .int (iI jj))]) C dX11_replay_173 (by decide) rfl ?_
                                    refine w_iinc (lv2 := [(0, .ref h), (1, .int (iI (im_at d 68))), (2, .int (iI 1)), (3, .int (iI i)), (4, .int (iI (im_at d (69 + i)))), (5, .int (iI (jj + 1)))]) C 5 dX11_replay_174 rfl (by decide) rfl ?_
                                    refine w_goto C 143 dX11_replay_177 rfl ?_
                                    exact ih_143 _ (by omega) (jj + 1) 1 (by omega) (by rw [show (jj + 1).toNat = jj.toNat + 1 by omega, dsB, show ((jj.toNat : Nat) : Int) = jj by omega, ← Bool.and_assoc, ← Bool.and_assoc, Bool.and_assoc (rpH d && tgB d i.toNat)]; cases z : ((rpH d && tgB d i.toNat) && (decide (7 ≤ im_at d (69 + i) ∧ im_at d (69 + i) < 63) && dsB d i jj.toNat)) with | false => (rw [z] at h6; change s2 = 0 at h6; first | rfl | (exfalso; omega)) | true => (rw [z] at h6; change s2 = 1 at h6; first | rfl | (rw [decide_eq_true (by omega)]; rfl) | (rw [decide_eq_false (by omega)]; rfl) | (exfalso; omega))) rfl
                          exact L_143 _ 0 1 (by omega) (by show _ = bI ((rpH d && tgB d i.toNat) && (decide (7 ≤ im_at d (69 + i) ∧ im_at d (69 + i) < 63) && true)); rw [Bool.and_true]; cases z : (rpH d && tgB d i.toNat) with | false => (rw [z] at h3; change s = 0 at h3; first | rfl | (exfalso; omega)) | true => (rw [z] at h3; change s = 1 at h3; first | rfl | (rw [decide_eq_true (by omega)]; rfl) | (rw [decide_eq_false (by omega)]; rfl) | (exfalso; omega))) rfl
              exact L_100 _ 0 1 (by omega) (by rw [hH]; rfl) rfl
