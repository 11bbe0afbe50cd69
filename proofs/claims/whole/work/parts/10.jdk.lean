set_option maxHeartbeats 4000000 in
set_option maxRecDepth 100000 in
theorem ct_J0_coder_7d493 (G : GX) (l : Launch) (t : Nat) (ht : t < 5) : Ct G l yJ0_coder_7d493 cJ0_coder_7d493 1 (some .byte) rmJ0_coder_7d493 [.ref (gK G t)] [] (some (.int (iI 0))) [] := by
  refine Ct.of (by decide) (Nat.le_of_ble_eq_true rfl) ?_
  intro k C hl hret
  subst hl
  refine w_lv (lv2 := [(0, .ref (gK G t))]) [0] rfl ?_
  refine w_getsC C 291 dJ0_coder_7d493_0 (by decide +kernel) ?_
  refine w_if_eq C 13 dJ0_coder_7d493_3 rfl (by omega) (fun c_1 => ?_) (fun c_1 => ?_)
  · exact absurd c_1 (by decide)
  · refine w_aload_n C 0 dJ0_coder_7d493_6 rfl ?_
    refine w_sgetC (t := t) C 1121 (by omega) dJ0_coder_7d493_7 (by decide +kernel) ?_
    refine w_goto C 14 dJ0_coder_7d493_10 rfl ?_
    exact w_reti hret dJ0_coder_7d493_14 rfl rfl rfl rfl ⟨rfl, rfl⟩

set_option maxHeartbeats 4000000 in
set_option maxRecDepth 100000 in
theorem ct_J0_isLatin1_aae02 (G : GX) (l : Launch) (t : Nat) (ht : t < 5) : Ct G l yJ0_isLatin1_aae02 cJ0_isLatin1_aae02 1 (some .boolean) rmJ0_isLatin1_aae02 [.ref (gK G t)] [] (some (.int (iI 1))) [] := by
  refine Ct.of (by decide) (Nat.le_of_ble_eq_true rfl) ?_
  intro k C hl hret
  subst hl
  refine w_lv (lv2 := [(0, .ref (gK G t))]) [0] rfl ?_
  refine w_getsC C 291 dJ0_isLatin1_aae02_0 (by decide +kernel) ?_
  refine w_if_eq C 17 dJ0_isLatin1_aae02_3 rfl (by omega) (fun c_1 => ?_) (fun c_1 => ?_)
  · exact absurd c_1 (by decide)
  · refine w_aload_n C 0 dJ0_isLatin1_aae02_6 rfl ?_
    refine w_sgetC (t := t) C 1121 (by omega) dJ0_isLatin1_aae02_7 (by decide +kernel) ?_
    refine w_if_ne C 17 dJ0_isLatin1_aae02_10 rfl (by omega) (fun c_2 => ?_) (fun c_2 => ?_)
    · exact absurd rfl c_2
    · refine w_iconst C dJ0_isLatin1_aae02_13 ?_
      refine w_goto C 18 dJ0_isLatin1_aae02_14 rfl ?_
      exact w_reti hret dJ0_isLatin1_aae02_18 rfl rfl rfl rfl ⟨rfl, rfl⟩

theorem gJ0_335 : cwv RJ0 335 yJ0_coder_7d493 cJ0_coder_7d493 1 (some .byte) 0 287 288 289 77 290 := by decide +kernel
set_option maxHeartbeats 4000000 in
set_option maxRecDepth 100000 in
theorem ct_J0_length_8abf5 (G : GX) (l : Launch) (t : Nat) (ht : t < 5) : Ct G l yJ0_length_8abf5 cJ0_length_8abf5 1 (some .int) rmJ0_length_8abf5 [.ref (gK G t)] [] (some (.int (iI (tn t)))) [] := by
  refine Ct.of (by decide) (Nat.le_of_ble_eq_true rfl) ?_
  intro k C hl hret
  subst hl
  refine w_lv (lv2 := [(0, .ref (gK G t))]) [0] rfl ?_
  refine w_aload_n C 0 dJ0_length_8abf5_0 rfl ?_
  refine w_sgetV (t := t) C 1120 (by omega) dJ0_length_8abf5_1 (by decide +kernel) ?_
  refine w_slen (t := t) C (by omega) dJ0_length_8abf5_4 ?_
  have f_1 := tn_rg t (by omega)
  refine w_aload_n C 0 dJ0_length_8abf5_5 rfl ?_
  refine w_callT (t := t) (As := []) (rest := [.int (iI (tn t))]) (st2 := [.int (iI 0), .int (iI (tn t))]) C (by omega) (ct_J0_coder_7d493 G (kl k) t (by omega)) gJ0_335 dJ0_length_8abf5_6 rfl rfl rfl (Nat.le_of_ble_eq_true rfl) (by decide) rfl ?_
  refine w_ishr (v := (iI (tn t))) C dJ0_length_8abf5_9 (by show iI (tn t) >>> ((0 : Int32) &&& 31) = iI (tn t); rw [iI_shr (by omega) _ 0 (by decide)]; simp) ?_
  exact w_reti hret dJ0_length_8abf5_10 rfl rfl rfl rfl ⟨rfl, rfl⟩

set_option maxHeartbeats 4000000 in
set_option maxRecDepth 100000 in
theorem ct_J3_checkIndex_n (G : GX) (l : Launch) (i : Int) (n : Int) (h : 0 ≤ i ∧ i < n ∧ n < 2147483648) : Ct G l yJ3_checkIndex_8e157 cJ3_checkIndex_8e157 3 (some .int) rmJ3_checkIndex_8e157 [.int (iI i), .int (iI n), .null] [] (some (.int (iI i))) [] := by
  refine Ct.of (by decide) (Nat.le_of_ble_eq_true rfl) ?_
  intro k C hl hret
  subst hl
  refine w_lv (lv2 := [(0, .int (iI i)), (1, .int (iI n)), (2, .null)]) [0, 1, 2] rfl ?_
  refine w_iload_n C 0 dJ3_checkIndex_8e157_0 rfl ?_
  refine w_if_lt C 9 dJ3_checkIndex_8e157_1 rfl (by omega) (fun c_1 => ?_) (fun c_1 => ?_)
  · omega
  · refine w_iload_n C 0 dJ3_checkIndex_8e157_4 rfl ?_
    refine w_iload_n C 1 dJ3_checkIndex_8e157_5 rfl ?_
    refine w_icmp_lt C 16 dJ3_checkIndex_8e157_6 rfl (by omega) (fun c_2 => ?_) (fun c_2 => ?_)
    · refine w_iload_n C 0 dJ3_checkIndex_8e157_16 rfl ?_
      exact w_reti hret dJ3_checkIndex_8e157_17 rfl rfl rfl rfl ⟨rfl, rfl⟩
    · omega

set_option maxHeartbeats 4000000 in
set_option maxRecDepth 100000 in
theorem ct_J3_checkIndex_r (G : GX) (l : Launch) (i : Int) (n : Int) (f : Nat) (h : 0 ≤ i ∧ i < n ∧ n < 2147483648) : Ct G l yJ3_checkIndex_8e157 cJ3_checkIndex_8e157 3 (some .int) rmJ3_checkIndex_8e157 [.int (iI i), .int (iI n), .ref f] [] (some (.int (iI i))) [] := by
  refine Ct.of (by decide) (Nat.le_of_ble_eq_true rfl) ?_
  intro k C hl hret
  subst hl
  refine w_lv (lv2 := [(0, .int (iI i)), (1, .int (iI n)), (2, .ref f)]) [0, 1, 2] rfl ?_
  refine w_iload_n C 0 dJ3_checkIndex_8e157_0 rfl ?_
  refine w_if_lt C 9 dJ3_checkIndex_8e157_1 rfl (by omega) (fun c_1 => ?_) (fun c_1 => ?_)
  · omega
  · refine w_iload_n C 0 dJ3_checkIndex_8e157_4 rfl ?_
    refine w_iload_n C 1 dJ3_checkIndex_8e157_5 rfl ?_
    refine w_icmp_lt C 16 dJ3_checkIndex_8e157_6 rfl (by omega) (fun c_2 => ?_) (fun c_2 => ?_)
    · refine w_iload_n C 0 dJ3_checkIndex_8e157_16 rfl ?_
      exact w_reti hret dJ3_checkIndex_8e157_17 rfl rfl rfl rfl ⟨rfl, rfl⟩
    · omega

theorem gJ0_1059 : cws RJ0 1059 yJ3_checkIndex_8e157 cJ3_checkIndex_8e157 3 (some .int) 3 309 310 79 311 := by decide +kernel
set_option maxHeartbeats 4000000 in
set_option maxRecDepth 100000 in
theorem ct_J0_checkIndex_df160 (G : GX) (l : Launch) (i : Int) (n : Int) (h : 0 ≤ i ∧ i < n ∧ n < 2147483648) : Ct G l yJ0_checkIndex_df160 cJ0_checkIndex_df160 2 none rmJ0_checkIndex_df160 [.int (iI i), .int (iI n)] [] none [] := by
  refine Ct.of (by decide) (Nat.le_of_ble_eq_true rfl) ?_
  intro k C hl hret
  subst hl
  refine w_lv (lv2 := [(0, .int (iI i)), (1, .int (iI n))]) [0, 1] rfl ?_
  refine w_iload_n C 0 dJ0_checkIndex_df160_0 rfl ?_
  refine w_iload_n C 1 dJ0_checkIndex_df160_1 rfl ?_
  refine w_getsQ C 307 dJ0_checkIndex_df160_2 (by decide +kernel) ?_ (fun fq => ?_)
  · refine w_callS (As := [.int (iI i), .int (iI n), .null]) (rest := []) (w2 := []) (st2 := [.int (iI i)]) C (ct_J3_checkIndex_n G (kl k) i n (by omega)) gJ0_1059 dJ0_checkIndex_df160_5 rfl rfl (Nat.le_of_ble_eq_true rfl) (by decide) [] rfl (by decide) [] rfl rfl rfl rfl ?_
    refine w_pop C dJ0_checkIndex_df160_8 rfl ?_
    exact w_retv hret dJ0_checkIndex_df160_9 rfl rfl rfl ⟨rfl, rfl⟩
  · refine w_callS (As := [.int (iI i), .int (iI n), .ref fq]) (rest := []) (w2 := []) (st2 := [.int (iI i)]) C (ct_J3_checkIndex_r G (kl k) i n fq (by omega)) gJ0_1059 dJ0_checkIndex_df160_5 rfl rfl (Nat.le_of_ble_eq_true rfl) (by decide) [] rfl (by decide) [] rfl rfl rfl rfl ?_
    refine w_pop C dJ0_checkIndex_df160_8 rfl ?_
    exact w_retv hret dJ0_checkIndex_df160_9 rfl rfl rfl ⟨rfl, rfl⟩

theorem gJ1_9 : cws RJ1 9 yJ0_checkIndex_df160 cJ0_checkIndex_df160 2 none 2 304 305 77 306 := by decide +kernel
set_option maxHeartbeats 4000000 in
set_option maxRecDepth 100000 in
theorem ct_J1_charAt_3b067 (G : GX) (l : Launch) (t : Nat) (i : Int) (ht : t < 5) (hi : 0 ≤ i ∧ i < tn t) : Ct G l yJ1_charAt_3b067 cJ1_charAt_3b067 2 (some .char) rmJ1_charAt_3b067 [.ref (gV G t), .int (iI i)] [] (some (.int (iI (tx t i)))) [] := by
  refine Ct.of (by decide) (Nat.le_of_ble_eq_true rfl) ?_
  intro k C hl hret
  subst hl
  refine w_lv (lv2 := [(0, .ref (gV G t)), (1, .int (iI i))]) [0, 1] rfl ?_
  refine w_iload_n C 1 dJ1_charAt_3b067_0 rfl ?_
  refine w_aload_n C 0 dJ1_charAt_3b067_1 rfl ?_
  refine w_slen (t := t) C (by omega) dJ1_charAt_3b067_2 ?_
  have f_1 := tn_rg t (by omega)
  refine w_callS (As := [.int (iI i), .int (iI (tn t))]) (rest := []) (w2 := []) (st2 := []) C (ct_J0_checkIndex_df160 G (kl k) i (tn t) (by omega)) gJ1_9 dJ1_charAt_3b067_3 rfl rfl (Nat.le_of_ble_eq_true rfl) (by decide) [] rfl (by decide) [] rfl rfl rfl rfl ?_
  refine w_aload_n C 0 dJ1_charAt_3b067_6 rfl ?_
  refine w_iload_n C 1 dJ1_charAt_3b067_7 rfl ?_
  refine w_sbald (t := t) C (by omega) (by omega) dJ1_charAt_3b067_8 ?_
  have f_2 := tx_rg (t := t) (i := i) (by omega) (by omega)
  refine w_sipush C dJ1_charAt_3b067_9 (by decide) ?_
  refine w_iandm (q := 256) C 8 dJ1_charAt_3b067_12 (by decide) (by decide) (by decide) ?_
  refine w_i2c (v := (iI ((tx t i) % 256))) C dJ1_charAt_3b067_13 (i2c_ok (by omega)) ?_
  exact w_reti hret dJ1_charAt_3b067_14 rfl (nar_c (by omega)) rfl rfl ⟨congrArg (fun z => some (Value.int (iI z))) (by omega), rfl⟩

theorem gJ0_492 : cwv RJ0 492 yJ0_isLatin1_aae02 cJ0_isLatin1_aae02 1 (some .boolean) 0 297 298 299 77 300 := by decide +kernel
theorem gJ0_495 : cws RJ0 495 yJ1_charAt_3b067 cJ1_charAt_3b067 2 (some .char) 2 301 302 78 303 := by decide +kernel
set_option maxHeartbeats 4000000 in
set_option maxRecDepth 100000 in
theorem ct_J0_charAt_5068e (G : GX) (l : Launch) (t : Nat) (i : Int) (ht : t < 5) (hi : 0 ≤ i ∧ i < tn t) : Ct G l yJ0_charAt_5068e cJ0_charAt_5068e 2 (some .char) rmJ0_charAt_5068e [.ref (gK G t), .int (iI i)] [] (some (.int (iI (tx t i)))) [] := by
  refine Ct.of (by decide) (Nat.le_of_ble_eq_true rfl) ?_
  intro k C hl hret
  subst hl
  refine w_lv (lv2 := [(0, .ref (gK G t)), (1, .int (iI i))]) [0, 1] rfl ?_
  refine w_aload_n C 0 dJ0_charAt_5068e_0 rfl ?_
  refine w_callT (t := t) (As := []) (rest := []) (st2 := [.int (iI 1)]) C (by omega) (ct_J0_isLatin1_aae02 G (kl k) t (by omega)) gJ0_492 dJ0_charAt_5068e_1 rfl rfl rfl (Nat.le_of_ble_eq_true rfl) (by decide) rfl ?_
  refine w_if_eq C 16 dJ0_charAt_5068e_4 rfl (by omega) (fun c_1 => ?_) (fun c_1 => ?_)
  · exact absurd c_1 (by decide)
  · refine w_aload_n C 0 dJ0_charAt_5068e_7 rfl ?_
    refine w_sgetV (t := t) C 1120 (by omega) dJ0_charAt_5068e_8 (by decide +kernel) ?_
    refine w_iload_n C 1 dJ0_charAt_5068e_11 rfl ?_
    refine w_callS (As := [.ref (gV G t), .int (iI i)]) (rest := []) (w2 := []) (st2 := [.int (iI (tx t i))]) C (ct_J1_charAt_3b067 G (kl k) t i (by omega) (by omega)) gJ0_495 dJ0_charAt_5068e_12 rfl rfl (Nat.le_of_ble_eq_true rfl) (by decide) [] rfl (by decide) [] rfl rfl rfl rfl ?_
    have q := tx_rg ht hi
    exact w_reti hret dJ0_charAt_5068e_15 rfl (nar_c (by omega)) rfl rfl ⟨rfl, rfl⟩

set_option maxHeartbeats 4000000 in
set_option maxRecDepth 100000 in
theorem ct_J7_rangeCheck_23922 (G : GX) (l : Launch) (n : Int) (a : Int) (b : Int) (h : 0 ≤ a ∧ a ≤ b ∧ b ≤ n ∧ n < 2147483648) : Ct G l yJ7_rangeCheck_23922 cJ7_rangeCheck_23922 3 none rmJ7_rangeCheck_23922 [.int (iI n), .int (iI a), .int (iI b)] [] none [] := by
  refine Ct.of (by decide) (Nat.le_of_ble_eq_true rfl) ?_
  intro k C hl hret
  subst hl
  refine w_lv (lv2 := [(0, .int (iI n)), (1, .int (iI a)), (2, .int (iI b))]) [0, 1, 2] rfl ?_
  refine w_iload_n C 1 dJ7_rangeCheck_23922_0 rfl ?_
  refine w_iload_n C 2 dJ7_rangeCheck_23922_1 rfl ?_
  refine w_icmp_le C 46 dJ7_rangeCheck_23922_2 rfl (by omega) (fun c_1 => ?_) (fun c_1 => ?_)
  · refine w_iload_n C 1 dJ7_rangeCheck_23922_46 rfl ?_
    refine w_if_ge C 59 dJ7_rangeCheck_23922_47 rfl (by omega) (fun c_2 => ?_) (fun c_2 => ?_)
    · refine w_iload_n C 2 dJ7_rangeCheck_23922_59 rfl ?_
      refine w_iload_n C 0 dJ7_rangeCheck_23922_60 rfl ?_
      refine w_icmp_le C 73 dJ7_rangeCheck_23922_61 rfl (by omega) (fun c_3 => ?_) (fun c_3 => ?_)
      · exact w_retv hret dJ7_rangeCheck_23922_73 rfl rfl rfl ⟨rfl, rfl⟩
      · omega
    · omega
  · omega

theorem gJ7_13 : cws RJ7 13 yJ7_rangeCheck_23922 cJ7_rangeCheck_23922 3 none 3 271 272 75 273 := by decide +kernel
set_option maxHeartbeats 4000000 in
set_option maxRecDepth 100000 in
theorem ct_J7_fill_fda19 (G : GX) (l : Launch) (b : Nat) (n : Nat) (d : Im) (p : Int) (q : Int) (h : 0 ≤ p ∧ p ≤ q ∧ q ≤ n ∧ (n : Int) < 2147483648) : Ct G l yJ7_fill_fda19 cJ7_fill_fda19 5 none rmJ7_fill_fda19 [.ref b, .int (iI p), .int (iI q), .int (iI 0)] [(b, .inl (gI G, n, .inl (arI d)))] none [(b, .inl (gI G, n, .inl (arI (clr d p (q - p)))))] := by
  refine Ct.of (by decide) (Nat.le_of_ble_eq_true rfl) ?_
  intro k C hl hret
  subst hl
  refine w_lv (lv2 := [(0, .ref b), (1, .int (iI p)), (2, .int (iI q)), (3, .int (iI 0))]) [0, 1, 2, 3] rfl ?_
  refine w_aload_n C 0 dJ7_fill_fda19_0 rfl ?_
  refine w_alen C 0 dJ7_fill_fda19_1 rfl ?_
  refine w_iload_n C 1 dJ7_fill_fda19_2 rfl ?_
  refine w_iload_n C 2 dJ7_fill_fda19_3 rfl ?_
  refine w_callS (As := [.int (iI n), .int (iI p), .int (iI q)]) (rest := []) (w2 := [(b, .inl (gI G, n, .inl (arI d)))]) (st2 := []) C (ct_J7_rangeCheck_23922 G (kl k) n p q (by omega)) gJ7_13 dJ7_fill_fda19_4 rfl rfl (Nat.le_of_ble_eq_true rfl) (by decide) [] rfl (by decide) [] rfl rfl rfl rfl ?_
  refine w_iload_n C 1 dJ7_fill_fda19_7 rfl ?_
  refine w_istore (lv2 := [(0, .ref b), (1, .int (iI p)), (2, .int (iI q)), (3, .int (iI 0)), (4, .int (iI p))]) C dJ7_fill_fda19_8 (by decide) rfl ?_
  have L_10 : ∀ (nn_10 : Nat) (i : Int) (e : Im), (p ≤ i ∧ i ≤ q) → (e = clr d p (i - p)) → (q - i).toNat = nn_10 → Wd G k 5 0 0 [(b, .inl (gI G, n, .inl (arI e)))] 10 [(0, .ref b), (1, .int (iI p)), (2, .int (iI q)), (3, .int (iI 0)), (4, .int (iI i))] [] := by
    intro nn_10
    induction nn_10 using Nat.strongRecOn with
    | ind nn_10 ih_10 =>
      intro i e h1 h2 hm_10
      refine w_iload C 4 dJ7_fill_fda19_10 rfl ?_
      refine w_iload_n C 2 dJ7_fill_fda19_12 rfl ?_
      refine w_icmp_ge C 27 dJ7_fill_fda19_13 rfl (by omega) (fun c_1 => ?_) (fun c_1 => ?_)
      · exact w_retv hret dJ7_fill_fda19_27 rfl rfl rfl ⟨rfl, (by rw [h2, show i = q by omega])⟩
      · refine w_aload_n C 0 dJ7_fill_fda19_16 rfl ?_
        refine w_iload C 4 dJ7_fill_fda19_17 rfl ?_
        refine w_iload_n C 3 dJ7_fill_fda19_19 rfl ?_
        refine w_iast (ws2 := [(b, .inl (gI G, n, .inl (arI (up e i 0))))]) C 0 dJ7_fill_fda19_20 rfl (by omega) (by omega) rfl ?_
        refine w_iinc (lv2 := [(0, .ref b), (1, .int (iI p)), (2, .int (iI q)), (3, .int (iI 0)), (4, .int (iI (i + 1)))]) C 4 dJ7_fill_fda19_21 rfl (by decide) rfl ?_
        refine w_goto C 10 dJ7_fill_fda19_24 rfl ?_
        exact ih_10 _ (by omega) (i + 1) (up e i 0) (by omega) (by rw [h2]; exact clr_next d p i h1.1) rfl
  exact L_10 _ p d (by omega) (by apply Subtype.ext; funext j; show d.1 j = if p ≤ j ∧ j < p + (p - p) then 0 else d.1 j; rw [if_neg (by omega)]) rfl
