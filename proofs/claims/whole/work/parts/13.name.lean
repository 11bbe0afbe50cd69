set_option maxHeartbeats 4000000 in
set_option maxRecDepth 100000 in
theorem ct_X6_length (G : GX) (l : Launch) (h : Nat) (b : Nat) (nb : Im) (n : Int) : Ct G l yX6_length cX6_length 1 (some .int) rmX6_length [.ref h] [(h, .inr (5, [.ref b, .int (iI n)])), (b, .inl (gI G, 14, .inl (arI nb)))] (some (.int (iI n))) [(h, .inr (5, [.ref b, .int (iI n)])), (b, .inl (gI G, 14, .inl (arI nb)))] := by
  refine Ct.of (by decide) (Nat.le_of_ble_eq_true rfl) ?_
  intro k C hl hret
  subst hl
  refine w_lv (lv2 := [(0, .ref h)]) [0] rfl ?_
  refine w_aload_n C 0 dX6_length_0 rfl ?_
  refine w_get C 0 1 130 dX6_length_1 rfl rfl inX6 (by decide) (by decide +kernel) rfl ?_
  exact w_reti hret dX6_length_4 rfl rfl rfl rfl ⟨rfl, rfl⟩

set_option maxHeartbeats 4000000 in
set_option maxRecDepth 100000 in
theorem ct_X6_at (G : GX) (l : Launch) (h : Nat) (b : Nat) (nb : Im) (n : Int) (j : Int) (hj : -2147483648 ≤ j ∧ j < 2147483648) (hn : 0 ≤ n ∧ n ≤ 14) : Ct G l yX6_at cX6_at 2 (some .int) rmX6_at [.ref h, .int (iI j)] [(h, .inr (5, [.ref b, .int (iI n)])), (b, .inl (gI G, 14, .inl (arI nb)))] (some (.int (iI (nm_at nb n j)))) [(h, .inr (5, [.ref b, .int (iI n)])), (b, .inl (gI G, 14, .inl (arI nb)))] := by
  refine Ct.of (by decide) (Nat.le_of_ble_eq_true rfl) ?_
  intro k C hl hret
  subst hl
  refine w_lv (lv2 := [(0, .ref h), (1, .int (iI j))]) [0, 1] rfl ?_
  refine w_iload_n C 1 dX6_at_0 rfl ?_
  refine w_if_lt C 27 dX6_at_1 rfl (by omega) (fun c_1 => ?_) (fun c_1 => ?_)
  · refine w_iconst C dX6_at_27 ?_
    exact w_reti hret dX6_at_28 rfl rfl rfl rfl ⟨congrArg (fun z => some (Value.int (iI z))) (by unfold nm_at; split <;> first | rfl | omega), rfl⟩
  · refine w_iload_n C 1 dX6_at_4 rfl ?_
    refine w_aload_n C 0 dX6_at_5 rfl ?_
    refine w_get C 0 1 130 dX6_at_6 rfl rfl inX6 (by decide) (by decide +kernel) rfl ?_
    refine w_icmp_ge C 27 dX6_at_9 rfl (by omega) (fun c_2 => ?_) (fun c_2 => ?_)
    · refine w_iconst C dX6_at_27 ?_
      exact w_reti hret dX6_at_28 rfl rfl rfl rfl ⟨congrArg (fun z => some (Value.int (iI z))) (by unfold nm_at; split <;> first | rfl | omega), rfl⟩
    · refine w_iload_n C 1 dX6_at_12 rfl ?_
      refine w_bipush C dX6_at_13 (by decide) ?_
      refine w_icmp_ge C 27 dX6_at_15 rfl (by omega) (fun c_3 => ?_) (fun c_3 => ?_)
      · refine w_iconst C dX6_at_27 ?_
        exact w_reti hret dX6_at_28 rfl rfl rfl rfl ⟨congrArg (fun z => some (Value.int (iI z))) (by unfold nm_at; split <;> first | rfl | omega), rfl⟩
      · refine w_aload_n C 0 dX6_at_18 rfl ?_
        refine w_get C 0 0 129 dX6_at_19 rfl rfl inX6 (by decide) (by decide +kernel) rfl ?_
        refine w_iload_n C 1 dX6_at_22 rfl ?_
        refine w_iald C 1 dX6_at_23 rfl (by omega) ?_
        have b_4 := nb.2 j
        refine w_goto C 28 dX6_at_24 rfl ?_
        exact w_reti hret dX6_at_28 rfl rfl rfl rfl ⟨congrArg (fun z => some (Value.int (iI z))) (by unfold nm_at; split <;> first | rfl | omega), rfl⟩

set_option maxHeartbeats 4000000 in
set_option maxRecDepth 100000 in
theorem ct_X6_add (G : GX) (l : Launch) (h : Nat) (b : Nat) (nb : Im) (n : Int) (v : Int) (hv : 0 ≤ v ∧ v < 256) (hn : 0 ≤ n ∧ n ≤ 14) : Ct G l yX6_add cX6_add 2 none rmX6_add [.ref h, .int (iI v)] [(h, .inr (5, [.ref b, .int (iI n)])), (b, .inl (gI G, 14, .inl (arI nb)))] none [(h, .inr (5, [.ref b, .int (iI (nm_addN n))])), (b, .inl (gI G, 14, .inl (arI (nm_addB nb n v))))] := by
  refine Ct.of (by decide) (Nat.le_of_ble_eq_true rfl) ?_
  intro k C hl hret
  subst hl
  refine w_lv (lv2 := [(0, .ref h), (1, .int (iI v))]) [0, 1] rfl ?_
  refine w_aload_n C 0 dX6_add_0 rfl ?_
  refine w_get C 0 1 130 dX6_add_1 rfl rfl inX6 (by decide) (by decide +kernel) rfl ?_
  refine w_if_lt C 36 dX6_add_4 rfl (by omega) (fun c_1 => ?_) (fun c_1 => ?_)
  · exact w_retv hret dX6_add_36 rfl rfl rfl ⟨rfl, (by unfold nm_addB nm_addN; first | rw [if_neg (by omega), if_neg (by omega)] | rw [if_pos (by omega), if_pos (by omega)])⟩
  · refine w_aload_n C 0 dX6_add_7 rfl ?_
    refine w_get C 0 1 130 dX6_add_8 rfl rfl inX6 (by decide) (by decide +kernel) rfl ?_
    refine w_bipush C dX6_add_11 (by decide) ?_
    refine w_icmp_ge C 36 dX6_add_13 rfl (by omega) (fun c_2 => ?_) (fun c_2 => ?_)
    · exact w_retv hret dX6_add_36 rfl rfl rfl ⟨rfl, (by unfold nm_addB nm_addN; first | rw [if_neg (by omega), if_neg (by omega)] | rw [if_pos (by omega), if_pos (by omega)])⟩
    · refine w_aload_n C 0 dX6_add_16 rfl ?_
      refine w_get C 0 0 129 dX6_add_17 rfl rfl inX6 (by decide) (by decide +kernel) rfl ?_
      refine w_aload_n C 0 dX6_add_20 rfl ?_
      refine w_get C 0 1 130 dX6_add_21 rfl rfl inX6 (by decide) (by decide +kernel) rfl ?_
      refine w_iload_n C 1 dX6_add_24 rfl ?_
      refine w_iast (ws2 := [(h, .inr (5, [.ref b, .int (iI n)])), (b, .inl (gI G, 14, .inl (arI (up nb n v))))]) C 1 dX6_add_25 rfl (by omega) (by omega) rfl ?_
      refine w_aload_n C 0 dX6_add_26 rfl ?_
      refine w_dup C dX6_add_27 rfl ?_
      refine w_get C 0 1 130 dX6_add_28 rfl rfl inX6 (by decide) (by decide +kernel) rfl ?_
      refine w_iconst C dX6_add_31 ?_
      refine w_iadd C dX6_add_32 ?_
      refine w_put (ty := .int) (ws2 := [(h, .inr (5, [.ref b, .int (iI (n + 1))])), (b, .inl (gI G, 14, .inl (arI (up nb n v))))]) C 0 1 130 dX6_add_33 rfl rfl inX6 tyX6_ok nmX6 (by decide) (by decide +kernel) rfl (by decide +kernel) rfl rfl (Nat.le_of_ble_eq_true rfl) rfl ?_
      exact w_retv hret dX6_add_36 rfl rfl rfl ⟨rfl, (by unfold nm_addB nm_addN; first | rw [if_neg (by omega), if_neg (by omega)] | rw [if_pos (by omega), if_pos (by omega)])⟩

theorem gX6_19 : cwv RX6 19 yJ0_length_8abf5 cJ0_length_8abf5 1 (some .int) 0 529 284 285 77 286 := by decide +kernel
theorem gX6_24 : cwv RX6 24 yJ0_charAt_5068e cJ0_charAt_5068e 2 (some .char) 1 530 294 295 77 296 := by decide +kernel
theorem gX6_28 : cwv RX6 28 yX6_add cX6_add 2 none 1 531 533 4 69 534 := by decide +kernel
set_option maxHeartbeats 4000000 in
set_option maxRecDepth 100000 in
theorem ct_X6_spell (G : GX) (l : Launch) (h : Nat) (b : Nat) (nb : Im) (n : Int) (t : Nat) (ht : t < 5) : Ct G l yX6_spell cX6_spell 3 none rmX6_spell [.ref h, .ref (gK G t)] [(h, .inr (5, [.ref b, .int (iI n)])), (b, .inl (gI G, 14, .inl (arI nb)))] none [(h, .inr (5, [.ref b, .int (iI (tn t))])), (b, .inl (gI G, 14, .inl (arI (nm_sp nb t (tn t).toNat))))] := by
  refine Ct.of (by decide) (Nat.le_of_ble_eq_true rfl) ?_
  intro k C hl hret
  subst hl
  refine w_lv (lv2 := [(0, .ref h), (1, .ref (gK G t))]) [0, 1] rfl ?_
  refine w_aload_n C 0 dX6_spell_0 rfl ?_
  refine w_iconst C dX6_spell_1 ?_
  refine w_put (ty := .int) (ws2 := [(h, .inr (5, [.ref b, .int (iI 0)])), (b, .inl (gI G, 14, .inl (arI nb)))]) C 0 1 130 dX6_spell_2 rfl rfl inX6 tyX6_ok nmX6 (by decide) (by decide +kernel) rfl (by decide +kernel) rfl rfl (Nat.le_of_ble_eq_true rfl) rfl ?_
  refine w_iconst C dX6_spell_5 ?_
  refine w_istore_n (lv2 := [(0, .ref h), (1, .ref (gK G t)), (2, .int (iI 0))]) C dX6_spell_6 (by decide) rfl ?_
  have L_7 : ∀ (nn_7 : Nat) (i : Int) (e : Im), (0 ≤ i ∧ i ≤ tn t) → (e = nm_sp nb t i.toNat) → (tn t - i).toNat = nn_7 → Wd G k 3 0 0 [(h, .inr (5, [.ref b, .int (iI i)])), (b, .inl (gI G, 14, .inl (arI e)))] 7 [(0, .ref h), (1, .ref (gK G t)), (2, .int (iI i))] [] := by
    intro nn_7
    induction nn_7 using Nat.strongRecOn with
    | ind nn_7 ih_7 =>
      intro i e h1 h2 hm_7
      have q1 := tn_rg t ht
      refine w_iload_n C 2 dX6_spell_7 rfl ?_
      refine w_aload_n C 1 dX6_spell_8 rfl ?_
      refine w_callT (t := t) (As := []) (rest := [.int (iI i)]) (st2 := [.int (iI (tn t)), .int (iI i)]) C (by omega) (ct_J0_length_8abf5 G (kl k) t (by omega)) gX6_19 dX6_spell_9 rfl rfl rfl (Nat.le_of_ble_eq_true rfl) (by decide) rfl ?_
      have f_1 := tn_rg t (by omega)
      refine w_icmp_ge C 30 dX6_spell_12 rfl (by omega) (fun c_2 => ?_) (fun c_2 => ?_)
      · exact w_retv hret dX6_spell_30 rfl rfl rfl ⟨rfl, (by rw [h2, show i = tn t by omega])⟩
      · refine w_aload_n C 0 dX6_spell_15 rfl ?_
        refine w_aload_n C 1 dX6_spell_16 rfl ?_
        refine w_iload_n C 2 dX6_spell_17 rfl ?_
        refine w_callT (t := t) (As := [.int (iI i)]) (rest := [.ref h]) (st2 := [.int (iI (tx t i)), .ref h]) C (by omega) (ct_J0_charAt_5068e G (kl k) t i (by omega) (by omega)) gX6_24 dX6_spell_18 rfl rfl rfl (Nat.le_of_ble_eq_true rfl) (by decide) rfl ?_
        have f_3 := tx_rg (t := t) (i := i) (by omega) (by omega)
        refine w_callV (As := [.int (iI (tx t i))]) (rest := []) (w2 := [(h, .inr (5, [.ref b, .int (iI (nm_addN i))])), (b, .inl (gI G, 14, .inl (arI (nm_addB e i (tx t i)))))]) (st2 := []) C (ct_X6_add G (kl k) h b e i (tx t i) (by omega) (by omega)) gX6_28 dX6_spell_21 0 rfl rfl rfl rfl rfl (Nat.le_of_ble_eq_true rfl) (by decide) [0, 1] rfl (by decide) [h, b] rfl rfl rfl rfl ?_
        refine w_ws (ws2 := [(h, .inr (5, [.ref b, .int (iI (i + 1))])), (b, .inl (gI G, 14, .inl (arI (up e i (tx t i)))))]) (by unfold nm_addB nm_addN; rw [if_pos (by omega), if_pos (by omega)]) ?_
        refine w_iinc (lv2 := [(0, .ref h), (1, .ref (gK G t)), (2, .int (iI (i + 1)))]) C 2 dX6_spell_24 rfl (by decide) rfl ?_
        refine w_goto C 7 dX6_spell_27 rfl ?_
        refine w_ord (ws2 := [(h, .inr (5, [.ref b, .int (iI ((i + 1)))])), (b, .inl (gI G, 14, .inl (arI ((up e i (tx t i))))))]) [0, 1] rfl (by decide) ?_
        refine w_lv (lv2 := [(0, .ref h), (1, .ref (gK G t)), (2, .int (iI ((i + 1))))]) [0, 1, 2] rfl ?_
        exact ih_7 _ (by omega) (i + 1) (up e i (tx t i)) (by omega) (by rw [h2, show (i + 1).toNat = i.toNat + 1 by omega, nm_sp, show ((i.toNat : Nat) : Int) = i by omega]) rfl
  exact L_7 _ 0 nb (by have := tn_rg t ht; omega) rfl rfl

theorem gX6_32 : cwv RX6 32 yX2_at cX2_at 2 (some .int) 1 577 359 360 66 361 := by decide +kernel
set_option maxHeartbeats 4000000 in
set_option maxRecDepth 100000 in
theorem ct_X6_load (G : GX) (l : Launch) (h : Nat) (b : Nat) (nb : Im) (n : Int) (g : Nat) (gb : Nat) (d : Im) (p : Int) (c : Int) (hp : -1000000 ≤ p ∧ p < 1000000) (hc : 0 ≤ c ∧ c ≤ 14) : Ct G l yX6_load cX6_load 5 none rmX6_load [.ref h, .ref g, .int (iI p), .int (iI c)] [(h, .inr (5, [.ref b, .int (iI n)])), (b, .inl (gI G, 14, .inl (arI nb))), (g, .inr (2, [.ref gb])), (gb, .inl (gI G, 4096, .inl (arI d)))] none [(h, .inr (5, [.ref b, .int (iI c)])), (b, .inl (gI G, 14, .inl (arI (nm_ld nb d p c.toNat)))), (g, .inr (2, [.ref gb])), (gb, .inl (gI G, 4096, .inl (arI d)))] := by
  refine Ct.of (by decide) (Nat.le_of_ble_eq_true rfl) ?_
  intro k C hl hret
  subst hl
  refine w_lv (lv2 := [(0, .ref h), (1, .ref g), (2, .int (iI p)), (3, .int (iI c))]) [0, 1, 2, 3] rfl ?_
  refine w_aload_n C 0 dX6_load_0 rfl ?_
  refine w_iconst C dX6_load_1 ?_
  refine w_put (ty := .int) (ws2 := [(h, .inr (5, [.ref b, .int (iI 0)])), (b, .inl (gI G, 14, .inl (arI nb))), (g, .inr (2, [.ref gb])), (gb, .inl (gI G, 4096, .inl (arI d)))]) C 0 1 130 dX6_load_2 rfl rfl inX6 tyX6_ok nmX6 (by decide) (by decide +kernel) rfl (by decide +kernel) rfl rfl (Nat.le_of_ble_eq_true rfl) rfl ?_
  refine w_iconst C dX6_load_5 ?_
  refine w_istore (lv2 := [(0, .ref h), (1, .ref g), (2, .int (iI p)), (3, .int (iI c)), (4, .int (iI 0))]) C dX6_load_6 (by decide) rfl ?_
  have L_8 : ∀ (nn_8 : Nat) (i : Int) (e : Im), (0 ≤ i ∧ i ≤ c) → (e = nm_ld nb d p i.toNat) → (c - i).toNat = nn_8 → Wd G k 5 0 0 [(h, .inr (5, [.ref b, .int (iI i)])), (b, .inl (gI G, 14, .inl (arI e))), (g, .inr (2, [.ref gb])), (gb, .inl (gI G, 4096, .inl (arI d)))] 8 [(0, .ref h), (1, .ref g), (2, .int (iI p)), (3, .int (iI c)), (4, .int (iI i))] [] := by
    intro nn_8
    induction nn_8 using Nat.strongRecOn with
    | ind nn_8 ih_8 =>
      intro i e h1 h2 hm_8
      refine w_iload C 4 dX6_load_8 rfl ?_
      refine w_iload_n C 3 dX6_load_10 rfl ?_
      refine w_icmp_ge C 39 dX6_load_11 rfl (by omega) (fun c_1 => ?_) (fun c_1 => ?_)
      · exact w_retv hret dX6_load_39 rfl rfl rfl ⟨rfl, (by rw [h2, show i = c by omega])⟩
      · refine w_iload C 4 dX6_load_14 rfl ?_
        refine w_bipush C dX6_load_16 (by decide) ?_
        refine w_icmp_ge C 39 dX6_load_18 rfl (by omega) (fun c_2 => ?_) (fun c_2 => ?_)
        · exact w_retv hret dX6_load_39 rfl rfl rfl ⟨rfl, (by rw [h2, show i = c by omega])⟩
        · refine w_aload_n C 0 dX6_load_21 rfl ?_
          refine w_aload_n C 1 dX6_load_22 rfl ?_
          refine w_iload_n C 2 dX6_load_23 rfl ?_
          refine w_iload C 4 dX6_load_24 rfl ?_
          refine w_iadd C dX6_load_26 ?_
          refine w_callV (As := [.int (iI (p + i))]) (rest := [.ref h]) (w2 := [(h, .inr (5, [.ref b, .int (iI i)])), (b, .inl (gI G, 14, .inl (arI e))), (g, .inr (2, [.ref gb])), (gb, .inl (gI G, 4096, .inl (arI d)))]) (st2 := [.int (iI (im_at d (p + i))), .ref h]) C (ct_X2_at G (kl k) g gb d (p + i) (by omega)) gX6_32 dX6_load_27 2 rfl rfl rfl rfl rfl (Nat.le_of_ble_eq_true rfl) (by decide) [2, 3] rfl (by decide) [g, gb] rfl rfl rfl rfl ?_
          have f_3 := im_at_rg d (p + i)
          refine w_callV (As := [.int (iI (im_at d (p + i)))]) (rest := []) (w2 := [(h, .inr (5, [.ref b, .int (iI (nm_addN i))])), (b, .inl (gI G, 14, .inl (arI (nm_addB e i (im_at d (p + i)))))), (g, .inr (2, [.ref gb])), (gb, .inl (gI G, 4096, .inl (arI d)))]) (st2 := []) C (ct_X6_add G (kl k) h b e i (im_at d (p + i)) (by omega) (by omega)) gX6_28 dX6_load_30 0 rfl rfl rfl rfl rfl (Nat.le_of_ble_eq_true rfl) (by decide) [0, 1] rfl (by decide) [h, b] rfl rfl rfl rfl ?_
          refine w_ws (ws2 := [(h, .inr (5, [.ref b, .int (iI (i + 1))])), (b, .inl (gI G, 14, .inl (arI (up e i (im_at d (p + i)))))), (g, .inr (2, [.ref gb])), (gb, .inl (gI G, 4096, .inl (arI d)))]) (by unfold nm_addB nm_addN; rw [if_pos (by omega), if_pos (by omega)]) ?_
          refine w_iinc (lv2 := [(0, .ref h), (1, .ref g), (2, .int (iI p)), (3, .int (iI c)), (4, .int (iI (i + 1)))]) C 4 dX6_load_33 rfl (by decide) rfl ?_
          refine w_goto C 8 dX6_load_36 rfl ?_
          refine w_ord (ws2 := [(h, .inr (5, [.ref b, .int (iI ((i + 1)))])), (b, .inl (gI G, 14, .inl (arI ((up e i (im_at d (p + i))))))), (g, .inr (2, [.ref gb])), (gb, .inl (gI G, 4096, .inl (arI d)))]) [0, 1, 2, 3] rfl (by decide) ?_
          refine w_lv (lv2 := [(0, .ref h), (1, .ref g), (2, .int (iI p)), (3, .int (iI c)), (4, .int (iI ((i + 1))))]) [0, 1, 2, 3, 4] rfl ?_
          exact ih_8 _ (by omega) (i + 1) (up e i (im_at d (p + i))) (by omega) (by rw [h2, show (i + 1).toNat = i.toNat + 1 by omega, nm_ld, show ((i.toNat : Nat) : Int) = i by omega]) rfl
  exact L_8 _ 0 nb (by omega) rfl rfl

set_option maxHeartbeats 4000000 in
set_option maxRecDepth 100000 in
theorem ct_X6_number (G : GX) (l : Launch) (h : Nat) (b : Nat) (nb : Im) (n : Int) (m : Int) (i : Int) (hm : 0 ≤ m ∧ m ≤ 12) (hi : 0 ≤ i ∧ i < 100) : Ct G l yX6_number cX6_number 4 none rmX6_number [.ref h, .int (iI m), .int (iI i)] [(h, .inr (5, [.ref b, .int (iI n)])), (b, .inl (gI G, 14, .inl (arI nb)))] none [(h, .inr (5, [.ref b, .int (iI (m + 2))])), (b, .inl (gI G, 14, .inl (arI (nm_num nb m i))))] := by
  refine Ct.of (by decide) (Nat.le_of_ble_eq_true rfl) ?_
  intro k C hl hret
  subst hl
  refine w_lv (lv2 := [(0, .ref h), (1, .int (iI m)), (2, .int (iI i))]) [0, 1, 2] rfl ?_
  refine w_aload_n C 0 dX6_number_0 rfl ?_
  refine w_iconst C dX6_number_1 ?_
  refine w_put (ty := .int) (ws2 := [(h, .inr (5, [.ref b, .int (iI 0)])), (b, .inl (gI G, 14, .inl (arI nb)))]) C 0 1 130 dX6_number_2 rfl rfl inX6 tyX6_ok nmX6 (by decide) (by decide +kernel) rfl (by decide +kernel) rfl rfl (Nat.le_of_ble_eq_true rfl) rfl ?_
  refine w_iconst C dX6_number_5 ?_
  refine w_istore_n (lv2 := [(0, .ref h), (1, .int (iI m)), (2, .int (iI i)), (3, .int (iI 0))]) C dX6_number_6 (by decide) rfl ?_
  have L_7 : ∀ (nn_7 : Nat) (j : Int) (e : Im), (0 ≤ j ∧ j ≤ m) → (e = nm_hash nb j.toNat) → (m - j).toNat = nn_7 → Wd G k 4 0 0 [(h, .inr (5, [.ref b, .int (iI j)])), (b, .inl (gI G, 14, .inl (arI e)))] 7 [(0, .ref h), (1, .int (iI m)), (2, .int (iI i)), (3, .int (iI j))] [] := by
    intro nn_7
    induction nn_7 using Nat.strongRecOn with
    | ind nn_7 ih_7 =>
      intro j e h1 h2 hm_7
      refine w_iload_n C 3 dX6_number_7 rfl ?_
      refine w_iload_n C 1 dX6_number_8 rfl ?_
      refine w_icmp_ge C 24 dX6_number_9 rfl (by omega) (fun c_1 => ?_) (fun c_1 => ?_)
      · refine w_aload_n C 0 dX6_number_24 rfl ?_
        refine w_bipush C dX6_number_25 (by decide) ?_
        refine w_iload_n C 2 dX6_number_27 rfl ?_
        refine w_bipush C dX6_number_28 (by decide) ?_
        refine w_idiv C dX6_number_30 (by omega) ?_
        refine w_iadd C dX6_number_31 ?_
        refine w_callV (As := [.int (iI (48 + (i / 10)))]) (rest := []) (w2 := [(h, .inr (5, [.ref b, .int (iI (nm_addN j))])), (b, .inl (gI G, 14, .inl (arI (nm_addB e j (48 + (i / 10))))))]) (st2 := []) C (ct_X6_add G (kl k) h b e j (48 + (i / 10)) (by omega) (by omega)) gX6_28 dX6_number_32 0 rfl rfl rfl rfl rfl (Nat.le_of_ble_eq_true rfl) (by decide) [0, 1] rfl (by decide) [h, b] rfl rfl rfl rfl ?_
        refine w_ws (ws2 := [(h, .inr (5, [.ref b, .int (iI (j + 1))])), (b, .inl (gI G, 14, .inl (arI (up e j (48 + (i / 10))))))]) (by unfold nm_addB nm_addN; rw [if_pos (by omega), if_pos (by omega)]) ?_
        refine w_aload_n C 0 dX6_number_35 rfl ?_
        refine w_bipush C dX6_number_36 (by decide) ?_
        refine w_iload_n C 2 dX6_number_38 rfl ?_
        refine w_bipush C dX6_number_39 (by decide) ?_
        refine w_irem C dX6_number_41 (by omega) ?_
        refine w_iadd C dX6_number_42 ?_
        refine w_callV (As := [.int (iI (48 + (i % 10)))]) (rest := []) (w2 := [(h, .inr (5, [.ref b, .int (iI (nm_addN (j + 1)))])), (b, .inl (gI G, 14, .inl (arI (nm_addB (up e j (48 + (i / 10))) (j + 1) (48 + (i % 10))))))]) (st2 := []) C (ct_X6_add G (kl k) h b (up e j (48 + (i / 10))) (j + 1) (48 + (i % 10)) (by omega) (by omega)) gX6_28 dX6_number_43 0 rfl rfl rfl rfl rfl (Nat.le_of_ble_eq_true rfl) (by decide) [0, 1] rfl (by decide) [h, b] rfl rfl rfl rfl ?_
        refine w_ws (ws2 := [(h, .inr (5, [.ref b, .int (iI (j + 1 + 1))])), (b, .inl (gI G, 14, .inl (arI (up (up e j (48 + (i / 10))) (j + 1) (48 + (i % 10))))))]) (by unfold nm_addB nm_addN; rw [if_pos (by omega), if_pos (by omega)]) ?_
        exact w_retv hret dX6_number_46 rfl rfl rfl ⟨rfl, (by unfold nm_num; rw [h2, show j = m by omega, show m + 1 + 1 = m + 2 by omega])⟩
      · refine w_aload_n C 0 dX6_number_12 rfl ?_
        refine w_bipush C dX6_number_13 (by decide) ?_
        refine w_callV (As := [.int (iI 35)]) (rest := []) (w2 := [(h, .inr (5, [.ref b, .int (iI (nm_addN j))])), (b, .inl (gI G, 14, .inl (arI (nm_addB e j 35))))]) (st2 := []) C (ct_X6_add G (kl k) h b e j 35 (by omega) (by omega)) gX6_28 dX6_number_15 0 rfl rfl rfl rfl rfl (Nat.le_of_ble_eq_true rfl) (by decide) [0, 1] rfl (by decide) [h, b] rfl rfl rfl rfl ?_
        refine w_ws (ws2 := [(h, .inr (5, [.ref b, .int (iI (j + 1))])), (b, .inl (gI G, 14, .inl (arI (up e j 35))))]) (by unfold nm_addB nm_addN; rw [if_pos (by omega), if_pos (by omega)]) ?_
        refine w_iinc (lv2 := [(0, .ref h), (1, .int (iI m)), (2, .int (iI i)), (3, .int (iI (j + 1)))]) C 3 dX6_number_18 rfl (by decide) rfl ?_
        refine w_goto C 7 dX6_number_21 rfl ?_
        refine w_ord (ws2 := [(h, .inr (5, [.ref b, .int (iI ((j + 1)))])), (b, .inl (gI G, 14, .inl (arI ((up e j 35)))))]) [0, 1] rfl (by decide) ?_
        refine w_lv (lv2 := [(0, .ref h), (1, .int (iI m)), (2, .int (iI i)), (3, .int (iI ((j + 1))))]) [0, 1, 2, 3] rfl ?_
        exact ih_7 _ (by omega) (j + 1) (up e j 35) (by omega) (by rw [h2, show (j + 1).toNat = j.toNat + 1 by omega, nm_hash, show ((j.toNat : Nat) : Int) = j by omega]) rfl
  exact L_7 _ 0 nb (by omega) rfl rfl

set_option maxHeartbeats 4000000 in
set_option maxRecDepth 100000 in
theorem ct_X6_unpack (G : GX) (l : Launch) (h : Nat) (b : Nat) (nb : Im) (n : Int) (x : Int64) : Ct G l yX6_unpack cX6_unpack 5 none rmX6_unpack [.ref h, .long x] [(h, .inr (5, [.ref b, .int (iI n)])), (b, .inl (gI G, 14, .inl (arI nb)))] none [(h, .inr (5, [.ref b, .int (iI ((nm_un nb x 8).2))])), (b, .inl (gI G, 14, .inl (arI ((nm_un nb x 8).1))))] := by
  refine Ct.of (by decide) (Nat.le_of_ble_eq_true rfl) ?_
  intro k C hl hret
  subst hl
  refine w_lv (lv2 := [(0, .ref h), (1, .long x)]) [0, 1] rfl ?_
  refine w_aload_n C 0 dX6_unpack_0 rfl ?_
  refine w_iconst C dX6_unpack_1 ?_
  refine w_put (ty := .int) (ws2 := [(h, .inr (5, [.ref b, .int (iI 0)])), (b, .inl (gI G, 14, .inl (arI nb)))]) C 0 1 130 dX6_unpack_2 rfl rfl inX6 tyX6_ok nmX6 (by decide) (by decide +kernel) rfl (by decide +kernel) rfl rfl (Nat.le_of_ble_eq_true rfl) rfl ?_
  refine w_bipush C dX6_unpack_5 (by decide) ?_
  refine w_istore_n (lv2 := [(0, .ref h), (1, .long x), (3, .int (iI 56))]) C dX6_unpack_7 (by decide) rfl ?_
  have L_8 : ∀ (nn_8 : Nat) (i : Int) (e : Im) (n : Int) (j : Nat), (i = 56 - 8 * (j : Int) ∧ j ≤ 8) → (e = (nm_un nb x j).1) → (n = (nm_un nb x j).2) → (0 ≤ n ∧ n ≤ j) → 8 - j = nn_8 → Wd G k 5 0 0 [(h, .inr (5, [.ref b, .int (iI n)])), (b, .inl (gI G, 14, .inl (arI e)))] 8 [(0, .ref h), (1, .long x), (3, .int (iI i))] [] := by
    intro nn_8
    induction nn_8 using Nat.strongRecOn with
    | ind nn_8 ih_8 =>
      intro i e n j h1 h2 h3 h4 hm_8
      refine w_iload_n C 2 dX6_unpack_8 rfl ?_
      refine w_if_lt C 46 dX6_unpack_9 rfl (by omega) (fun c_1 => ?_) (fun c_1 => ?_)
      · exact w_retv hret dX6_unpack_46 rfl rfl rfl ⟨rfl, (by rw [h2, h3, show j = 8 by omega])⟩
      · refine w_lload_n C 1 dX6_unpack_12 rfl ?_
        refine w_iload_n C 2 dX6_unpack_13 rfl ?_
        refine w_lushr (v := ((x.toUInt64 >>> ((iI i).toInt64.toUInt64 &&& Int64.toUInt64 63)).toInt64)) C dX6_unpack_14 rfl ?_
        refine w_l2i (v := ((x.toUInt64 >>> ((iI i).toInt64.toUInt64 &&& Int64.toUInt64 63)).toInt64.toInt32)) C dX6_unpack_15 rfl ?_
        refine w_sipush C dX6_unpack_16 (by decide) ?_
        refine w_iand (v := (iI (lby x (56 - 8 * j)))) C dX6_unpack_19 (by have q := lby_of x (56 - 8 * j) (by omega); rwa [show ((56 - 8 * j : Nat) : Int) = i by omega] at q) ?_
        have q2 := lby_rg x (56 - 8 * j)
        refine w_istore (lv2 := [(0, .ref h), (1, .long x), (3, .int (iI i)), (4, .int (iI (lby x (56 - 8 * j))))]) C dX6_unpack_20 (by decide) rfl ?_
        refine w_iload C 3 dX6_unpack_22 rfl ?_
        refine w_if_ne C 34 dX6_unpack_24 rfl (by omega) (fun c_2 => ?_) (fun c_2 => ?_)
        · refine w_aload_n C 0 dX6_unpack_34 rfl ?_
          refine w_iload C 3 dX6_unpack_35 rfl ?_
          refine w_callV (As := [.int (iI (lby x (56 - 8 * j)))]) (rest := []) (w2 := [(h, .inr (5, [.ref b, .int (iI (nm_addN n))])), (b, .inl (gI G, 14, .inl (arI (nm_addB e n (lby x (56 - 8 * j))))))]) (st2 := []) C (ct_X6_add G (kl k) h b e n (lby x (56 - 8 * j)) (by omega) (by omega)) gX6_28 dX6_unpack_37 0 rfl rfl rfl rfl rfl (Nat.le_of_ble_eq_true rfl) (by decide) [0, 1] rfl (by decide) [h, b] rfl rfl rfl rfl ?_
          refine w_ws (ws2 := [(h, .inr (5, [.ref b, .int (iI (n + 1))])), (b, .inl (gI G, 14, .inl (arI (up e n (lby x (56 - 8 * j))))))]) (by unfold nm_addB nm_addN; rw [if_pos (by omega), if_pos (by omega)]) ?_
          refine w_iinc (lv2 := [(0, .ref h), (1, .long x), (3, .int (iI (i + (-8)))), (4, .int (iI (lby x (56 - 8 * j))))]) C 2 dX6_unpack_40 rfl (by decide) rfl ?_
          refine w_goto C 8 dX6_unpack_43 rfl ?_
          refine w_ord (ws2 := [(h, .inr (5, [.ref b, .int (iI ((n + 1)))])), (b, .inl (gI G, 14, .inl (arI ((up e n (lby x (56 - 8 * j)))))))]) [0, 1] rfl (by decide) ?_
          refine w_lv (lv2 := [(0, .ref h), (1, .long x), (3, .int (iI ((i + (-8)))))]) [0, 1, 2] rfl ?_
          exact ih_8 _ (by omega) (i + (-8)) (up e n (lby x (56 - 8 * j))) (n + 1) (j + 1) (by omega) (by rw [nm_un]; first | rw [if_pos (by rw [← h3]; omega), ← h2, ← h3] | rw [if_neg (by rw [← h3]; omega), ← h2]) (by rw [nm_un]; first | rw [if_pos (by rw [← h3]; omega), ← h3] | rw [if_neg (by rw [← h3]; omega), ← h3]) (by omega) rfl
        · refine w_aload_n C 0 dX6_unpack_27 rfl ?_
          refine w_get C 0 1 130 dX6_unpack_28 rfl rfl inX6 (by decide) (by decide +kernel) rfl ?_
          refine w_if_le C 40 dX6_unpack_31 rfl (by omega) (fun c_3 => ?_) (fun c_3 => ?_)
          · refine w_iinc (lv2 := [(0, .ref h), (1, .long x), (3, .int (iI (i + (-8)))), (4, .int (iI (lby x (56 - 8 * j))))]) C 2 dX6_unpack_40 rfl (by decide) rfl ?_
            refine w_goto C 8 dX6_unpack_43 rfl ?_
            refine w_lv (lv2 := [(0, .ref h), (1, .long x), (3, .int (iI ((i + (-8)))))]) [0, 1, 2] rfl ?_
            exact ih_8 _ (by omega) (i + (-8)) e n (j + 1) (by omega) (by rw [nm_un]; first | rw [if_pos (by rw [← h3]; omega), ← h2, ← h3] | rw [if_neg (by rw [← h3]; omega), ← h2]) (by rw [nm_un]; first | rw [if_pos (by rw [← h3]; omega), ← h3] | rw [if_neg (by rw [← h3]; omega), ← h3]) (by omega) rfl
          · refine w_aload_n C 0 dX6_unpack_34 rfl ?_
            refine w_iload C 3 dX6_unpack_35 rfl ?_
            refine w_callV (As := [.int (iI (lby x (56 - 8 * j)))]) (rest := []) (w2 := [(h, .inr (5, [.ref b, .int (iI (nm_addN n))])), (b, .inl (gI G, 14, .inl (arI (nm_addB e n (lby x (56 - 8 * j))))))]) (st2 := []) C (ct_X6_add G (kl k) h b e n (lby x (56 - 8 * j)) (by omega) (by omega)) gX6_28 dX6_unpack_37 0 rfl rfl rfl rfl rfl (Nat.le_of_ble_eq_true rfl) (by decide) [0, 1] rfl (by decide) [h, b] rfl rfl rfl rfl ?_
            refine w_ws (ws2 := [(h, .inr (5, [.ref b, .int (iI (n + 1))])), (b, .inl (gI G, 14, .inl (arI (up e n (lby x (56 - 8 * j))))))]) (by unfold nm_addB nm_addN; rw [if_pos (by omega), if_pos (by omega)]) ?_
            refine w_iinc (lv2 := [(0, .ref h), (1, .long x), (3, .int (iI (i + (-8)))), (4, .int (iI (lby x (56 - 8 * j))))]) C 2 dX6_unpack_40 rfl (by decide) rfl ?_
            refine w_goto C 8 dX6_unpack_43 rfl ?_
            refine w_ord (ws2 := [(h, .inr (5, [.ref b, .int (iI ((n + 1)))])), (b, .inl (gI G, 14, .inl (arI ((up e n (lby x (56 - 8 * j)))))))]) [0, 1] rfl (by decide) ?_
            refine w_lv (lv2 := [(0, .ref h), (1, .long x), (3, .int (iI ((i + (-8)))))]) [0, 1, 2] rfl ?_
            exact ih_8 _ (by omega) (i + (-8)) (up e n (lby x (56 - 8 * j))) (n + 1) (j + 1) (by omega) (by rw [nm_un]; first | rw [if_pos (by rw [← h3]; omega), ← h2, ← h3] | rw [if_neg (by rw [← h3]; omega), ← h2]) (by rw [nm_un]; first | rw [if_pos (by rw [← h3]; omega), ← h3] | rw [if_neg (by rw [← h3]; omega), ← h3]) (by omega) rfl
  exact L_8 _ 56 nb 0 0 (by omega) rfl rfl (by omega) rfl
