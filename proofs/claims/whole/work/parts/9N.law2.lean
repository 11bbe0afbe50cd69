/-! THE LAW: A CALL OF EACH KIND -/
section LAWC
variable {G : GX} {p : Program} {l : Launch} {e : Env} {s : State} {mm : MethodId} {below : List Frame} {meth : Method} {c : Code} {b0 L : Nat} {xs : Nat → Int32} {wA wB : va_W} {i : Int} {dk : Im}
variable {h kg kb ko kt km rp g b o dd m mb ip co cm cmb cq wr wn wnb : Nat} {h2 a2 b2 tk2 re2 qu2 nm2 : Nat}
theorem ct_fmB (G : GX) (l : Launch) (h : Nat) (a : Nat) (b : Nat) (tk : Nat) (re : Nat) (qu : Nat) (nm : Nat) (hd : Int) (tl : Int) (nl : Int) (dk : Im) (d : Im) (r : Int → Bool) (q : Im) (t0 : Int → Bool) (nb : Im) (hnl : 0 ≤ nl ∧ nl ≤ 14) (Z : Int × Im) (hZ : wbZ fmt0 (-1) = Z) : CtE G l yX11_format cX11_format 2 (some .int) rmX11_format [.ref h] [(h, .inr (9, [.ref a, .ref b, .ref tk, .ref re, .ref qu, .int (iI hd), .int (iI tl), .ref nm, .int (iI nl)])), (a, .inl (gI G, 4096, .inl (arI dk))), (b, .inl (gI G, 4096, .inl (arI d))), (re, .inl (gZ G, 32, .inl (arB r))), (qu, .inl (gI G, 32, .inl (arI q))), (tk, .inl (gZ G, 64, .inl (arB t0))), (nm, .inl (gI G, 14, .inl (arI nb)))] (fun e_ : Int × Int × Int × (Int → Bool) × Im × (Int → Bool) × Im × Im => (0 ≤ e_.2.2.1 ∧ e_.2.2.1 ≤ 14)) (fun e_ : Int × Int × Int × (Int → Bool) × Im × (Int → Bool) × Im × Im => (some (.int (iI (Z.1))))) (fun e_ : Int × Int × Int × (Int → Bool) × Im × (Int → Bool) × Im × Im => [(h, .inr (9, [.ref a, .ref b, .ref tk, .ref re, .ref qu, .int (iI e_.1), .int (iI e_.2.1), .ref nm, .int (iI e_.2.2.1)])), (a, .inl (gI G, 4096, .inl (arI (Z.2)))), (b, .inl (gI G, 4096, .inl (arI e_.2.2.2.2.2.2.2))), (re, .inl (gZ G, 32, .inl (arB e_.2.2.2.1))), (qu, .inl (gI G, 32, .inl (arI e_.2.2.2.2.1))), (tk, .inl (gZ G, 64, .inl (arB e_.2.2.2.2.2.1))), (nm, .inl (gI G, 14, .inl (arI e_.2.2.2.2.2.2.1)))]) := by
  subst hZ
  exact ct_X11_format G l h a b tk re qu nm hd tl nl dk d r q t0 nb hnl
theorem gL_13 : cwv RL 13 yX10_format cX10_format 1 (some .int) 0 257 258 259 65 260 := by decide +kernel
theorem gL_17 : cwv RL 17 yX11_format cX11_format 2 (some .int) 0 875 876 877 74 878 := by decide +kernel
set_option maxHeartbeats 4000000 in
set_option maxRecDepth 100000 in
theorem law_c0 (C0 : lw_At p s mm meth c b0 L xs) (hL : L ≤ 2560) (C : Cx G (kL p l e s mm below meth c b0) cL_law RL 4 room_1) (hF : FD G h kg kb ko kt km rp g b o dd m mb ip co cm cmb cq wr wn wnb dk wA) (hB : RM G h2 a2 b2 tk2 re2 qu2 nm2 dk wB) (hi : 0 ≤ i ∧ i + 5 ≤ L) (kk : ∀ dk2 wA2 wB2, FD G h kg kb ko kt km rp g b o dd m mb ip co cm cmb cq wr wn wnb dk2 wA2 → RM G h2 a2 b2 tk2 re2 qu2 nm2 dk2 wB2 → Wd G (kL p l e s mm below meth c b0) 4 29 16669 (wA2 ++ wB2) 666 [(0, .ref b0), (1, .ref h), (2, .ref h2), (3, .int (iI i))] []) : Wd G (kL p l e s mm below meth c b0) 4 29 16669 (wA ++ wB) 104 [(0, .ref b0), (1, .ref h), (2, .ref h2), (3, .int (iI i))] [] := by
  obtain ⟨Z, hZ⟩ : ∃ Z : Int × Im, wbZ fmt0 (-1) = Z := ⟨_, rfl⟩
  have rg0 := wbZ_rg fmt0 (-1)
  rw [hZ] at rg0
  refine w_aload_n C 1 dL_law_104 rfl ?_
  refine law_A (As := []) (rest := []) (z := Z.1) (dk2 := Z.2) C hF (fun kk d tk nb n hd tl rc q cb cn wb wl a1 a2_ a3 => ⟨_, _, (by rw [fm_E nb n q cb cn, hZ]), (by rw [fm_E nb n q cb cn, hZ]), ct_X10_format G l h kg kb ko kt km rp g b o dd m mb ip co cm cmb cq wr wn wnb dk kk d tk nb n hd tl rc q cb cn wb wl  a1 a2_ a3 ⟩) gL_13 dL_law_105 rfl rfl rfl (Nat.le_of_ble_eq_true rfl) (by decide) ⟨rfl, rfl⟩ (fun wA hF => ?_)
  refine w_aload_n C 2 dL_law_108 rfl ?_
  refine law_B (As := []) (rest := [.int (iI (Z.1))]) (z := Z.1) (dk2 := Z.2) C hF hB (fun kk d tk nb n hd tl rc q cb cn wb wl hd' tl' nl' d' r' q' t0' nb' hnl => ⟨RW G h2 a2 b2 tk2 re2 qu2 nm2 dk hd' tl' nl' d' r' q' t0' nb', [20, 21, 22, 23, 24, 25, 26], _, rfl, by decide, ct_fmB G l h2 a2 b2 tk2 re2 qu2 nm2 hd' tl' nl' dk d' r' q' t0' nb'  hnl  Z hZ, fun v w hp => by obtain ⟨e_, hP, h1, h2_⟩ := hp; exact ⟨h1, by rw [h2_] <;> rfl, RW G h2 a2 b2 tk2 re2 qu2 nm2 (Z.2) (e_.1) (e_.2.1) (e_.2.2.1) (e_.2.2.2.2.2.2.2) (e_.2.2.2.1) (e_.2.2.2.2.1) (e_.2.2.2.2.2.1) (e_.2.2.2.2.2.2.1), by rw [h2_] <;> rfl, ⟨_, _, _, _, _, _, _, _, hP, rfl⟩⟩⟩) gL_17 dL_law_109 rfl rfl rfl (Nat.le_of_ble_eq_true rfl) (by decide) ⟨rfl, rfl⟩ (fun wB hB => ?_)
  have rg := rg0
  refine w_icmp_eq C 666 dL_law_112 rfl (by omega) (fun _ => ?_) (fun c_ => absurd rfl c_)
  exact kk _ wA wB hF hB

theorem gL_18 : cwv RL 18 yX10_poke cX10_poke 3 (some .boolean) 2 705 706 707 65 708 := by decide +kernel
theorem gL_22 : cwv RL 22 yX11_poke cX11_poke 3 (some .boolean) 2 1057 1058 1059 74 1060 := by decide +kernel
set_option maxHeartbeats 4000000 in
set_option maxRecDepth 100000 in
theorem law_c1 (C0 : lw_At p s mm meth c b0 L xs) (hL : L ≤ 2560) (C : Cx G (kL p l e s mm below meth c b0) cL_law RL 4 room_1) (hF : FD G h kg kb ko kt km rp g b o dd m mb ip co cm cmb cq wr wn wnb dk wA) (hB : RM G h2 a2 b2 tk2 re2 qu2 nm2 dk wB) (hi : 0 ≤ i ∧ i + 5 ≤ L) (kk : ∀ dk2 wA2 wB2, FD G h kg kb ko kt km rp g b o dd m mb ip co cm cmb cq wr wn wnb dk2 wA2 → RM G h2 a2 b2 tk2 re2 qu2 nm2 dk2 wB2 → Wd G (kL p l e s mm below meth c b0) 4 29 16669 (wA2 ++ wB2) 666 [(0, .ref b0), (1, .ref h), (2, .ref h2), (3, .int (iI i))] []) : Wd G (kL p l e s mm below meth c b0) 4 29 16669 (wA ++ wB) 117 [(0, .ref b0), (1, .ref h), (2, .ref h2), (3, .int (iI i))] [] := by
  refine w_aload_n C 1 dL_law_117 rfl ?_
  refine w_aload_n C 0 dL_law_118 rfl ?_
  refine w_iload_n C 3 dL_law_119 rfl ?_
  refine w_iconst C dL_law_120 ?_
  refine w_iadd C dL_law_121 ?_
  refine w_sldX C0 hL (by omega) dL_law_122 ?_
  refine w_aload_n C 0 dL_law_123 rfl ?_
  refine w_iload_n C 3 dL_law_124 rfl ?_
  refine w_iconst C dL_law_125 ?_
  refine w_iadd C dL_law_126 ?_
  refine w_sldX C0 hL (by omega) dL_law_127 ?_
  refine law_A (As := [.int (iI (zs xs (i + 1))), .int (iI (zs xs (i + 2)))]) (rest := []) (z := bI (decide (pkX (zs xs (i + 1)) (zs xs (i + 2))))) (dk2 := pkK dk (zs xs (i + 1)) (zs xs (i + 2))) C hF (fun kk d tk nb n hd tl rc q cb cn wb wl a1 a2_ a3 => ⟨_, _, rfl, rfl, ct_X10_poke G l h kg kb ko kt km rp g b o dd m mb ip co cm cmb cq wr wn wnb dk kk d tk nb n hd tl rc q cb cn wb wl (zs xs (i + 1)) (zs xs (i + 2)) a1 a2_ a3 (zs_rg xs _) (zs_rg xs _)⟩) gL_18 dL_law_128 rfl rfl rfl (Nat.le_of_ble_eq_true rfl) (by decide) ⟨rfl, rfl⟩ (fun wA hF => ?_)
  refine w_aload_n C 2 dL_law_131 rfl ?_
  refine w_aload_n C 0 dL_law_132 rfl ?_
  refine w_iload_n C 3 dL_law_133 rfl ?_
  refine w_iconst C dL_law_134 ?_
  refine w_iadd C dL_law_135 ?_
  refine w_sldX C0 hL (by omega) dL_law_136 ?_
  refine w_aload_n C 0 dL_law_137 rfl ?_
  refine w_iload_n C 3 dL_law_138 rfl ?_
  refine w_iconst C dL_law_139 ?_
  refine w_iadd C dL_law_140 ?_
  refine w_sldX C0 hL (by omega) dL_law_141 ?_
  refine law_B (As := [.int (iI (zs xs (i + 1))), .int (iI (zs xs (i + 2)))]) (rest := [.int (iI (bI (decide (pkX (zs xs (i + 1)) (zs xs (i + 2))))))]) (z := bI (decide (pkX (zs xs (i + 1)) (zs xs (i + 2))))) (dk2 := pkK dk (zs xs (i + 1)) (zs xs (i + 2))) C hF hB (fun kk d tk nb n hd tl rc q cb cn wb wl hd' tl' nl' d' r' q' t0' nb' hnl => ⟨[(h2, .inr (9, [.ref a2, .ref b2, .ref tk2, .ref re2, .ref qu2, .int (iI hd'), .int (iI tl'), .ref nm2, .int (iI nl')])), (a2, .inl (gI G, 4096, .inl (arI dk)))], [20, 21], _, rfl, by decide, ct_X11_poke G l h2 a2 b2 tk2 re2 qu2 nm2 hd' tl' nl' dk (zs xs (i + 1)) (zs xs (i + 2)) (zs_rg xs _) (zs_rg xs _), fun v w hp => ⟨hp.1, by rw [hp.2] <;> rfl, RW G h2 a2 b2 tk2 re2 qu2 nm2 (pkK dk (zs xs (i + 1)) (zs xs (i + 2))) (hd') (tl') (nl') (d') (r') (q') (t0') (nb'), by rw [hp.2] <;> rfl, ⟨_, _, _, _, _, _, _, _, hnl, rfl⟩⟩⟩) gL_22 dL_law_142 rfl rfl rfl (Nat.le_of_ble_eq_true rfl) (by decide) ⟨rfl, rfl⟩ (fun wB hB => ?_)
  have rg := bI_rg ((decide (pkX (zs xs (i + 1)) (zs xs (i + 2)))))
  refine w_icmp_eq C 666 dL_law_145 rfl (by omega) (fun _ => ?_) (fun c_ => absurd rfl c_)
  exact kk _ wA wB hF hB

theorem gL_23 : cwv RL 23 yX10_peek cX10_peek 2 (some .int) 1 716 717 718 65 719 := by decide +kernel
theorem gL_27 : cwv RL 27 yX11_peek cX11_peek 2 (some .int) 1 1061 1062 1063 74 1064 := by decide +kernel
set_option maxHeartbeats 4000000 in
set_option maxRecDepth 100000 in
theorem law_c2 (C0 : lw_At p s mm meth c b0 L xs) (hL : L ≤ 2560) (C : Cx G (kL p l e s mm below meth c b0) cL_law RL 4 room_1) (hF : FD G h kg kb ko kt km rp g b o dd m mb ip co cm cmb cq wr wn wnb dk wA) (hB : RM G h2 a2 b2 tk2 re2 qu2 nm2 dk wB) (hi : 0 ≤ i ∧ i + 5 ≤ L) (kk : ∀ dk2 wA2 wB2, FD G h kg kb ko kt km rp g b o dd m mb ip co cm cmb cq wr wn wnb dk2 wA2 → RM G h2 a2 b2 tk2 re2 qu2 nm2 dk2 wB2 → Wd G (kL p l e s mm below meth c b0) 4 29 16669 (wA2 ++ wB2) 666 [(0, .ref b0), (1, .ref h), (2, .ref h2), (3, .int (iI i))] []) : Wd G (kL p l e s mm below meth c b0) 4 29 16669 (wA ++ wB) 150 [(0, .ref b0), (1, .ref h), (2, .ref h2), (3, .int (iI i))] [] := by
  refine w_aload_n C 1 dL_law_150 rfl ?_
  refine w_aload_n C 0 dL_law_151 rfl ?_
  refine w_iload_n C 3 dL_law_152 rfl ?_
  refine w_iconst C dL_law_153 ?_
  refine w_iadd C dL_law_154 ?_
  refine w_sldX C0 hL (by omega) dL_law_155 ?_
  refine law_A (As := [.int (iI (zs xs (i + 1)))]) (rest := []) (z := peR dk (zs xs (i + 1))) (dk2 := dk) C hF (fun kk d tk nb n hd tl rc q cb cn wb wl a1 a2_ a3 => ⟨_, _, rfl, rfl, ct_X10_peek G l h kg kb ko kt km rp g b o dd m mb ip co cm cmb cq wr wn wnb dk kk d tk nb n hd tl rc q cb cn wb wl (zs xs (i + 1)) a1 a2_ a3 (zs_rg xs _)⟩) gL_23 dL_law_156 rfl rfl rfl (Nat.le_of_ble_eq_true rfl) (by decide) ⟨rfl, rfl⟩ (fun wA hF => ?_)
  refine w_aload_n C 2 dL_law_159 rfl ?_
  refine w_aload_n C 0 dL_law_160 rfl ?_
  refine w_iload_n C 3 dL_law_161 rfl ?_
  refine w_iconst C dL_law_162 ?_
  refine w_iadd C dL_law_163 ?_
  refine w_sldX C0 hL (by omega) dL_law_164 ?_
  refine law_B (As := [.int (iI (zs xs (i + 1)))]) (rest := [.int (iI (peR dk (zs xs (i + 1))))]) (z := peR dk (zs xs (i + 1))) (dk2 := dk) C hF hB (fun kk d tk nb n hd tl rc q cb cn wb wl hd' tl' nl' d' r' q' t0' nb' hnl => ⟨[(h2, .inr (9, [.ref a2, .ref b2, .ref tk2, .ref re2, .ref qu2, .int (iI hd'), .int (iI tl'), .ref nm2, .int (iI nl')])), (a2, .inl (gI G, 4096, .inl (arI dk)))], [20, 21], _, rfl, by decide, ct_X11_peek G l h2 a2 b2 tk2 re2 qu2 nm2 hd' tl' nl' dk (zs xs (i + 1)) (zs_rg xs _), fun v w hp => ⟨hp.1, by rw [hp.2] <;> rfl, RW G h2 a2 b2 tk2 re2 qu2 nm2 (dk) (hd') (tl') (nl') (d') (r') (q') (t0') (nb'), by rw [hp.2] <;> rfl, ⟨_, _, _, _, _, _, _, _, hnl, rfl⟩⟩⟩) gL_27 dL_law_165 rfl rfl rfl (Nat.le_of_ble_eq_true rfl) (by decide) ⟨rfl, rfl⟩ (fun wB hB => ?_)
  have rg := peR_rg dk (zs xs (i + 1))
  refine w_icmp_eq C 666 dL_law_168 rfl (by omega) (fun _ => ?_) (fun c_ => absurd rfl c_)
  exact kk _ wA wB hF hB

theorem gL_28 : cwv RL 28 yX10_seal cX10_seal 2 (some .boolean) 1 721 722 723 65 724 := by decide +kernel
theorem gL_32 : cwv RL 32 yX11_seal cX11_seal 3 (some .boolean) 1 1065 1066 1067 74 1068 := by decide +kernel
set_option maxHeartbeats 4000000 in
set_option maxRecDepth 100000 in
theorem law_c3 (C0 : lw_At p s mm meth c b0 L xs) (hL : L ≤ 2560) (C : Cx G (kL p l e s mm below meth c b0) cL_law RL 4 room_1) (hF : FD G h kg kb ko kt km rp g b o dd m mb ip co cm cmb cq wr wn wnb dk wA) (hB : RM G h2 a2 b2 tk2 re2 qu2 nm2 dk wB) (hi : 0 ≤ i ∧ i + 5 ≤ L) (kk : ∀ dk2 wA2 wB2, FD G h kg kb ko kt km rp g b o dd m mb ip co cm cmb cq wr wn wnb dk2 wA2 → RM G h2 a2 b2 tk2 re2 qu2 nm2 dk2 wB2 → Wd G (kL p l e s mm below meth c b0) 4 29 16669 (wA2 ++ wB2) 666 [(0, .ref b0), (1, .ref h), (2, .ref h2), (3, .int (iI i))] []) : Wd G (kL p l e s mm below meth c b0) 4 29 16669 (wA ++ wB) 173 [(0, .ref b0), (1, .ref h), (2, .ref h2), (3, .int (iI i))] [] := by
  refine w_aload_n C 1 dL_law_173 rfl ?_
  refine w_aload_n C 0 dL_law_174 rfl ?_
  refine w_iload_n C 3 dL_law_175 rfl ?_
  refine w_iconst C dL_law_176 ?_
  refine w_iadd C dL_law_177 ?_
  refine w_sldX C0 hL (by omega) dL_law_178 ?_
  refine law_A (As := [.int (iI (zs xs (i + 1)))]) (rest := []) (z := bI (decide (0 ≤ (zs xs (i + 1)) ∧ (zs xs (i + 1)) < 35))) (dk2 := slK dk (zs xs (i + 1))) C hF (fun kk d tk nb n hd tl rc q cb cn wb wl a1 a2_ a3 => ⟨_, _, rfl, rfl, ct_X10_seal G l h kg kb ko kt km rp g b o dd m mb ip co cm cmb cq wr wn wnb dk kk d tk nb n hd tl rc q cb cn wb wl (zs xs (i + 1)) a1 a2_ a3 (zs_rg xs _)⟩) gL_28 dL_law_179 rfl rfl rfl (Nat.le_of_ble_eq_true rfl) (by decide) ⟨rfl, rfl⟩ (fun wA hF => ?_)
  refine w_aload_n C 2 dL_law_182 rfl ?_
  refine w_aload_n C 0 dL_law_183 rfl ?_
  refine w_iload_n C 3 dL_law_184 rfl ?_
  refine w_iconst C dL_law_185 ?_
  refine w_iadd C dL_law_186 ?_
  refine w_sldX C0 hL (by omega) dL_law_187 ?_
  refine law_B (As := [.int (iI (zs xs (i + 1)))]) (rest := [.int (iI (bI (decide (0 ≤ (zs xs (i + 1)) ∧ (zs xs (i + 1)) < 35))))]) (z := bI (decide (0 ≤ (zs xs (i + 1)) ∧ (zs xs (i + 1)) < 35))) (dk2 := slK dk (zs xs (i + 1))) C hF hB (fun kk d tk nb n hd tl rc q cb cn wb wl hd' tl' nl' d' r' q' t0' nb' hnl => ⟨[(h2, .inr (9, [.ref a2, .ref b2, .ref tk2, .ref re2, .ref qu2, .int (iI hd'), .int (iI tl'), .ref nm2, .int (iI nl')])), (a2, .inl (gI G, 4096, .inl (arI dk))), (b2, .inl (gI G, 4096, .inl (arI d')))], [20, 21, 22], _, rfl, by decide, ct_X11_seal G l h2 a2 b2 tk2 re2 qu2 nm2 hd' tl' nl' dk d' (zs xs (i + 1)) (zs_rg xs _), fun v w hp => ⟨hp.1, by rw [hp.2] <;> rfl, RW G h2 a2 b2 tk2 re2 qu2 nm2 (slK dk (zs xs (i + 1))) (hd') (tl') (nl') (if 0 ≤ (zs xs (i + 1)) ∧ (zs xs (i + 1)) < 35 then slK dk (zs xs (i + 1)) else d') (r') (q') (t0') (nb'), by rw [hp.2] <;> rfl, ⟨_, _, _, _, _, _, _, _, hnl, rfl⟩⟩⟩) gL_32 dL_law_188 rfl rfl rfl (Nat.le_of_ble_eq_true rfl) (by decide) ⟨rfl, rfl⟩ (fun wB hB => ?_)
  have rg := bI_rg ((decide (0 ≤ (zs xs (i + 1)) ∧ (zs xs (i + 1)) < 35)))
  refine w_icmp_eq C 666 dL_law_191 rfl (by omega) (fun _ => ?_) (fun c_ => absurd rfl c_)
  exact kk _ wA wB hF hB

theorem gL_35 : cwv RL 35 yX10_commit cX10_commit 4 (some .boolean) 2 731 732 733 65 734 := by decide +kernel
theorem gL_39 : cwv RL 39 yX11_commit cX11_commit 5 (some .boolean) 2 1069 1070 1071 74 1072 := by decide +kernel
set_option maxHeartbeats 4000000 in
set_option maxRecDepth 100000 in
theorem law_c4 (C0 : lw_At p s mm meth c b0 L xs) (hL : L ≤ 2560) (C : Cx G (kL p l e s mm below meth c b0) cL_law RL 4 room_1) (hF : FD G h kg kb ko kt km rp g b o dd m mb ip co cm cmb cq wr wn wnb dk wA) (hB : RM G h2 a2 b2 tk2 re2 qu2 nm2 dk wB) (hi : 0 ≤ i ∧ i + 5 ≤ L) (kk : ∀ dk2 wA2 wB2, FD G h kg kb ko kt km rp g b o dd m mb ip co cm cmb cq wr wn wnb dk2 wA2 → RM G h2 a2 b2 tk2 re2 qu2 nm2 dk2 wB2 → Wd G (kL p l e s mm below meth c b0) 4 29 16669 (wA2 ++ wB2) 666 [(0, .ref b0), (1, .ref h), (2, .ref h2), (3, .int (iI i))] []) : Wd G (kL p l e s mm below meth c b0) 4 29 16669 (wA ++ wB) 196 [(0, .ref b0), (1, .ref h), (2, .ref h2), (3, .int (iI i))] [] := by
  refine w_aload_n C 1 dL_law_196 rfl ?_
  refine w_aload_n C 0 dL_law_197 rfl ?_
  refine w_iload_n C 3 dL_law_198 rfl ?_
  refine w_iconst C dL_law_199 ?_
  refine w_iadd C dL_law_200 ?_
  refine w_sldX C0 hL (by omega) dL_law_201 ?_
  refine w_i2l C dL_law_202 rfl ?_
  refine w_bipush C dL_law_203 (by decide) ?_
  refine w_lshl C dL_law_205 rfl ?_
  refine w_aload_n C 0 dL_law_206 rfl ?_
  refine w_iload_n C 3 dL_law_207 rfl ?_
  refine w_iconst C dL_law_208 ?_
  refine w_iadd C dL_law_209 ?_
  refine w_sldX C0 hL (by omega) dL_law_210 ?_
  refine w_i2l C dL_law_211 rfl ?_
  refine w_ldc2 (v := 4294967295) C 1119 dL_law_212 (by decide +kernel) ?_
  refine w_land C dL_law_215 rfl ?_
  refine w_lor C dL_law_216 rfl ?_
  refine w_aload_n C 0 dL_law_217 rfl ?_
  refine w_iload_n C 3 dL_law_218 rfl ?_
  refine w_iconst C dL_law_219 ?_
  refine w_iadd C dL_law_220 ?_
  refine w_sldX C0 hL (by omega) dL_law_221 ?_
  refine law_A (As := [.long ((((iI (zs xs (i + 1))).toInt64) <<< ((iI (32)).toInt64 &&& 63)) ||| (((iI (zs xs (i + 2))).toInt64) &&& (4294967295))), .int (iI (zs xs (i + 3)))]) (rest := []) (z := bI (decide (1 ≤ (zs xs (i + 3)) ∧ (zs xs (i + 3)) ≤ 5))) (dk2 := cmK dk ((((iI (zs xs (i + 1))).toInt64) <<< ((iI (32)).toInt64 &&& 63)) ||| (((iI (zs xs (i + 2))).toInt64) &&& (4294967295))) (zs xs (i + 3))) C hF (fun kk d tk nb n hd tl rc q cb cn wb wl a1 a2_ a3 => ⟨_, _, rfl, rfl, ct_X10_commit G l h kg kb ko kt km rp g b o dd m mb ip co cm cmb cq wr wn wnb dk kk d tk nb n hd tl rc q cb cn wb wl ((((iI (zs xs (i + 1))).toInt64) <<< ((iI (32)).toInt64 &&& 63)) ||| (((iI (zs xs (i + 2))).toInt64) &&& (4294967295))) (zs xs (i + 3)) a1 a2_ a3 (zs_rg xs _)⟩) gL_35 dL_law_222 rfl rfl rfl (Nat.le_of_ble_eq_true rfl) (by decide) ⟨rfl, rfl⟩ (fun wA hF => ?_)
  refine w_aload_n C 2 dL_law_225 rfl ?_
  refine w_aload_n C 0 dL_law_226 rfl ?_
  refine w_iload_n C 3 dL_law_227 rfl ?_
  refine w_iconst C dL_law_228 ?_
  refine w_iadd C dL_law_229 ?_
  refine w_sldX C0 hL (by omega) dL_law_230 ?_
  refine w_i2l C dL_law_231 rfl ?_
  refine w_bipush C dL_law_232 (by decide) ?_
  refine w_lshl C dL_law_234 rfl ?_
  refine w_aload_n C 0 dL_law_235 rfl ?_
  refine w_iload_n C 3 dL_law_236 rfl ?_
  refine w_iconst C dL_law_237 ?_
  refine w_iadd C dL_law_238 ?_
  refine w_sldX C0 hL (by omega) dL_law_239 ?_
  refine w_i2l C dL_law_240 rfl ?_
  refine w_ldc2 (v := 4294967295) C 1119 dL_law_241 (by decide +kernel) ?_
  refine w_land C dL_law_244 rfl ?_
  refine w_lor C dL_law_245 rfl ?_
  refine w_aload_n C 0 dL_law_246 rfl ?_
  refine w_iload_n C 3 dL_law_247 rfl ?_
  refine w_iconst C dL_law_248 ?_
  refine w_iadd C dL_law_249 ?_
  refine w_sldX C0 hL (by omega) dL_law_250 ?_
  refine law_B (As := [.long ((((iI (zs xs (i + 1))).toInt64) <<< ((iI (32)).toInt64 &&& 63)) ||| (((iI (zs xs (i + 2))).toInt64) &&& (4294967295))), .int (iI (zs xs (i + 3)))]) (rest := [.int (iI (bI (decide (1 ≤ (zs xs (i + 3)) ∧ (zs xs (i + 3)) ≤ 5))))]) (z := bI (decide (1 ≤ (zs xs (i + 3)) ∧ (zs xs (i + 3)) ≤ 5))) (dk2 := cmK dk ((((iI (zs xs (i + 1))).toInt64) <<< ((iI (32)).toInt64 &&& 63)) ||| (((iI (zs xs (i + 2))).toInt64) &&& (4294967295))) (zs xs (i + 3))) C hF hB (fun kk d tk nb n hd tl rc q cb cn wb wl hd' tl' nl' d' r' q' t0' nb' hnl => ⟨[(h2, .inr (9, [.ref a2, .ref b2, .ref tk2, .ref re2, .ref qu2, .int (iI hd'), .int (iI tl'), .ref nm2, .int (iI nl')])), (a2, .inl (gI G, 4096, .inl (arI dk))), (b2, .inl (gI G, 4096, .inl (arI d')))], [20, 21, 22], _, rfl, by decide, ct_X11_commit G l h2 a2 b2 tk2 re2 qu2 nm2 hd' tl' nl' dk d' ((((iI (zs xs (i + 1))).toInt64) <<< ((iI (32)).toInt64 &&& 63)) ||| (((iI (zs xs (i + 2))).toInt64) &&& (4294967295))) (zs xs (i + 3)) (zs_rg xs _), fun v w hp => ⟨hp.1, by rw [hp.2] <;> rfl, RW G h2 a2 b2 tk2 re2 qu2 nm2 (cmK dk ((((iI (zs xs (i + 1))).toInt64) <<< ((iI (32)).toInt64 &&& 63)) ||| (((iI (zs xs (i + 2))).toInt64) &&& (4294967295))) (zs xs (i + 3))) (hd') (tl') (nl') (if 1 ≤ (zs xs (i + 3)) ∧ (zs xs (i + 3)) ≤ 5 then cmK dk ((((iI (zs xs (i + 1))).toInt64) <<< ((iI (32)).toInt64 &&& 63)) ||| (((iI (zs xs (i + 2))).toInt64) &&& (4294967295))) (zs xs (i + 3)) else d') (r') (q') (t0') (nb'), by rw [hp.2] <;> rfl, ⟨_, _, _, _, _, _, _, _, hnl, rfl⟩⟩⟩) gL_39 dL_law_251 rfl rfl rfl (Nat.le_of_ble_eq_true rfl) (by decide) ⟨rfl, rfl⟩ (fun wB hB => ?_)
  have rg := bI_rg ((decide (1 ≤ (zs xs (i + 3)) ∧ (zs xs (i + 3)) ≤ 5)))
  refine w_icmp_eq C 666 dL_law_254 rfl (by omega) (fun _ => ?_) (fun c_ => absurd rfl c_)
  exact kk _ wA wB hF hB

theorem gL_40 : cwv RL 40 yX10_check cX10_check 1 (some .int) 0 741 742 743 65 744 := by decide +kernel
theorem gL_43 : cwv RL 43 yX11_check cX11_check 1 (some .int) 0 1075 1076 1077 74 1078 := by decide +kernel
set_option maxHeartbeats 4000000 in
set_option maxRecDepth 100000 in
theorem law_c5 (C0 : lw_At p s mm meth c b0 L xs) (hL : L ≤ 2560) (C : Cx G (kL p l e s mm below meth c b0) cL_law RL 4 room_1) (hF : FD G h kg kb ko kt km rp g b o dd m mb ip co cm cmb cq wr wn wnb dk wA) (hB : RM G h2 a2 b2 tk2 re2 qu2 nm2 dk wB) (hi : 0 ≤ i ∧ i + 5 ≤ L) (kk : ∀ dk2 wA2 wB2, FD G h kg kb ko kt km rp g b o dd m mb ip co cm cmb cq wr wn wnb dk2 wA2 → RM G h2 a2 b2 tk2 re2 qu2 nm2 dk2 wB2 → Wd G (kL p l e s mm below meth c b0) 4 29 16669 (wA2 ++ wB2) 666 [(0, .ref b0), (1, .ref h), (2, .ref h2), (3, .int (iI i))] []) : Wd G (kL p l e s mm below meth c b0) 4 29 16669 (wA ++ wB) 259 [(0, .ref b0), (1, .ref h), (2, .ref h2), (3, .int (iI i))] [] := by
  refine w_aload_n C 1 dL_law_259 rfl ?_
  refine law_A (As := []) (rest := []) (z := ckZ dk) (dk2 := dk) C hF (fun kk d tk nb n hd tl rc q cb cn wb wl a1 a2_ a3 => ⟨_, _, (ckR_E dk nb n q cb cn), rfl, ct_X10_check G l h kg kb ko kt km rp g b o dd m mb ip co cm cmb cq wr wn wnb dk kk d tk nb n hd tl rc q cb cn wb wl  a1 a2_ a3 ⟩) gL_40 dL_law_260 rfl rfl rfl (Nat.le_of_ble_eq_true rfl) (by decide) ⟨rfl, rfl⟩ (fun wA hF => ?_)
  refine w_aload_n C 2 dL_law_263 rfl ?_
  refine law_B (As := []) (rest := [.int (iI (ckZ dk))]) (z := ckZ dk) (dk2 := dk) C hF hB (fun kk d tk nb n hd tl rc q cb cn wb wl hd' tl' nl' d' r' q' t0' nb' hnl => ⟨RW G h2 a2 b2 tk2 re2 qu2 nm2 dk hd' tl' nl' d' r' q' t0' nb', [20, 21, 22, 23, 24, 25, 26], _, rfl, by decide, ct_X11_check G l h2 a2 b2 tk2 re2 qu2 nm2 hd' tl' nl' dk d' r' q' t0' nb'  hnl , fun v w hp => by obtain ⟨e_, hP, h1, h2_⟩ := hp; exact ⟨h1, by rw [h2_] <;> rfl, RW G h2 a2 b2 tk2 re2 qu2 nm2 (dk) (e_.1) (e_.2.1) (e_.2.2.1) (paD dk) (e_.2.2.2.1) (e_.2.2.2.2.1) (e_.2.2.2.2.2.1) (e_.2.2.2.2.2.2), by rw [h2_] <;> rfl, ⟨_, _, _, _, _, _, _, _, hP.1, rfl⟩⟩⟩) gL_43 dL_law_264 rfl rfl rfl (Nat.le_of_ble_eq_true rfl) (by decide) ⟨rfl, rfl⟩ (fun wB hB => ?_)
  have rg := ckZ_rg dk
  refine w_icmp_eq C 666 dL_law_267 rfl (by omega) (fun _ => ?_) (fun c_ => absurd rfl c_)
  exact kk _ wA wB hF hB

theorem gL_44 : cwv RL 44 yX10_repair cX10_repair 2 (some .int) 1 745 746 747 65 748 := by decide +kernel
theorem gL_47 : cwv RL 47 yX11_repair cX11_repair 2 (some .int) 1 1079 901 902 74 903 := by decide +kernel
set_option maxHeartbeats 4000000 in
set_option maxRecDepth 100000 in
theorem law_c6 (C0 : lw_At p s mm meth c b0 L xs) (hL : L ≤ 2560) (C : Cx G (kL p l e s mm below meth c b0) cL_law RL 4 room_1) (hF : FD G h kg kb ko kt km rp g b o dd m mb ip co cm cmb cq wr wn wnb dk wA) (hB : RM G h2 a2 b2 tk2 re2 qu2 nm2 dk wB) (hi : 0 ≤ i ∧ i + 5 ≤ L) (kk : ∀ dk2 wA2 wB2, FD G h kg kb ko kt km rp g b o dd m mb ip co cm cmb cq wr wn wnb dk2 wA2 → RM G h2 a2 b2 tk2 re2 qu2 nm2 dk2 wB2 → Wd G (kL p l e s mm below meth c b0) 4 29 16669 (wA2 ++ wB2) 666 [(0, .ref b0), (1, .ref h), (2, .ref h2), (3, .int (iI i))] []) : Wd G (kL p l e s mm below meth c b0) 4 29 16669 (wA ++ wB) 272 [(0, .ref b0), (1, .ref h), (2, .ref h2), (3, .int (iI i))] [] := by
  refine w_aload_n C 1 dL_law_272 rfl ?_
  refine w_aload_n C 0 dL_law_273 rfl ?_
  refine w_iload_n C 3 dL_law_274 rfl ?_
  refine w_iconst C dL_law_275 ?_
  refine w_iadd C dL_law_276 ?_
  refine w_sldX C0 hL (by omega) dL_law_277 ?_
  refine law_A (As := [.int (iI (zs xs (i + 1)))]) (rest := []) (z := rpZ dk (zs xs (i + 1))) (dk2 := rkZ dk (zs xs (i + 1))) C hF (fun kk d tk nb n hd tl rc q cb cn wb wl a1 a2_ a3 => ⟨_, _, (rpR_E dk nb n q cb cn _).1, (rpR_E dk nb n q cb cn _).2, ct_X10_repair G l h kg kb ko kt km rp g b o dd m mb ip co cm cmb cq wr wn wnb dk kk d tk nb n hd tl rc q cb cn wb wl (zs xs (i + 1)) a1 a2_ a3 (zs_rg xs _)⟩) gL_44 dL_law_278 rfl rfl rfl (Nat.le_of_ble_eq_true rfl) (by decide) ⟨rfl, rfl⟩ (fun wA hF => ?_)
  refine w_aload_n C 2 dL_law_281 rfl ?_
  refine w_aload_n C 0 dL_law_282 rfl ?_
  refine w_iload_n C 3 dL_law_283 rfl ?_
  refine w_iconst C dL_law_284 ?_
  refine w_iadd C dL_law_285 ?_
  refine w_sldX C0 hL (by omega) dL_law_286 ?_
  refine law_B (As := [.int (iI (zs xs (i + 1)))]) (rest := [.int (iI (rpZ dk (zs xs (i + 1))))]) (z := rpZ dk (zs xs (i + 1))) (dk2 := rkZ dk (zs xs (i + 1))) C hF hB (fun kk d tk nb n hd tl rc q cb cn wb wl hd' tl' nl' d' r' q' t0' nb' hnl => ⟨RW G h2 a2 b2 tk2 re2 qu2 nm2 dk hd' tl' nl' d' r' q' t0' nb', [20, 21, 22, 23, 24, 25, 26], _, rfl, by decide, ct_X11_repair G l h2 a2 b2 tk2 re2 qu2 nm2 hd' tl' nl' dk d' r' q' t0' nb' (zs xs (i + 1)) hnl (zs_rg xs _), fun v w hp => by obtain ⟨e_, hP, h1, h2_⟩ := hp; exact ⟨h1, by rw [h2_] <;> rfl, RW G h2 a2 b2 tk2 re2 qu2 nm2 (rkZ dk (zs xs (i + 1))) (e_.1) (e_.2.1) (e_.2.2.1) (e_.2.2.2.2.2.2.2) (e_.2.2.2.1) (e_.2.2.2.2.1) (e_.2.2.2.2.2.1) (e_.2.2.2.2.2.2.1), by rw [h2_] <;> rfl, ⟨_, _, _, _, _, _, _, _, hP, rfl⟩⟩⟩) gL_47 dL_law_287 rfl rfl rfl (Nat.le_of_ble_eq_true rfl) (by decide) ⟨rfl, rfl⟩ (fun wB hB => ?_)
  have rg := rpZ_rg dk (zs xs (i + 1))
  refine w_icmp_eq C 666 dL_law_290 rfl (by omega) (fun _ => ?_) (fun c_ => absurd rfl c_)
  exact kk _ wA wB hF hB

theorem gL_48 : cwv RL 48 yX10_inode cX10_inode 3 (some .int) 2 749 750 751 65 752 := by decide +kernel
theorem gL_52 : cwv RL 52 yX11_inode cX11_inode 4 (some .int) 2 1080 1081 1082 74 1083 := by decide +kernel
set_option maxHeartbeats 4000000 in
set_option maxRecDepth 100000 in
theorem law_c7 (C0 : lw_At p s mm meth c b0 L xs) (hL : L ≤ 2560) (C : Cx G (kL p l e s mm below meth c b0) cL_law RL 4 room_1) (hF : FD G h kg kb ko kt km rp g b o dd m mb ip co cm cmb cq wr wn wnb dk wA) (hB : RM G h2 a2 b2 tk2 re2 qu2 nm2 dk wB) (hi : 0 ≤ i ∧ i + 5 ≤ L) (kk : ∀ dk2 wA2 wB2, FD G h kg kb ko kt km rp g b o dd m mb ip co cm cmb cq wr wn wnb dk2 wA2 → RM G h2 a2 b2 tk2 re2 qu2 nm2 dk2 wB2 → Wd G (kL p l e s mm below meth c b0) 4 29 16669 (wA2 ++ wB2) 666 [(0, .ref b0), (1, .ref h), (2, .ref h2), (3, .int (iI i))] []) : Wd G (kL p l e s mm below meth c b0) 4 29 16669 (wA ++ wB) 295 [(0, .ref b0), (1, .ref h), (2, .ref h2), (3, .int (iI i))] [] := by
  refine w_aload_n C 1 dL_law_295 rfl ?_
  refine w_aload_n C 0 dL_law_296 rfl ?_
  refine w_iload_n C 3 dL_law_297 rfl ?_
  refine w_iconst C dL_law_298 ?_
  refine w_iadd C dL_law_299 ?_
  refine w_sldX C0 hL (by omega) dL_law_300 ?_
  refine w_aload_n C 0 dL_law_301 rfl ?_
  refine w_iload_n C 3 dL_law_302 rfl ?_
  refine w_iconst C dL_law_303 ?_
  refine w_iadd C dL_law_304 ?_
  refine w_sldX C0 hL (by omega) dL_law_305 ?_
  refine law_A (As := [.int (iI (zs xs (i + 1))), .int (iI (zs xs (i + 2)))]) (rest := []) (z := inR2 dk (zs xs (i + 1)) (zs xs (i + 2))) (dk2 := dk) C hF (fun kk d tk nb n hd tl rc q cb cn wb wl a1 a2_ a3 => ⟨_, _, rfl, rfl, ct_X10_inode G l h kg kb ko kt km rp g b o dd m mb ip co cm cmb cq wr wn wnb dk kk d tk nb n hd tl rc q cb cn wb wl (zs xs (i + 1)) (zs xs (i + 2)) a1 a2_ a3 (zs_rg xs _) (zs_rg xs _)⟩) gL_48 dL_law_306 rfl rfl rfl (Nat.le_of_ble_eq_true rfl) (by decide) ⟨rfl, rfl⟩ (fun wA hF => ?_)
  refine w_aload_n C 2 dL_law_309 rfl ?_
  refine w_aload_n C 0 dL_law_310 rfl ?_
  refine w_iload_n C 3 dL_law_311 rfl ?_
  refine w_iconst C dL_law_312 ?_
  refine w_iadd C dL_law_313 ?_
  refine w_sldX C0 hL (by omega) dL_law_314 ?_
  refine w_aload_n C 0 dL_law_315 rfl ?_
  refine w_iload_n C 3 dL_law_316 rfl ?_
  refine w_iconst C dL_law_317 ?_
  refine w_iadd C dL_law_318 ?_
  refine w_sldX C0 hL (by omega) dL_law_319 ?_
  refine law_B (As := [.int (iI (zs xs (i + 1))), .int (iI (zs xs (i + 2)))]) (rest := [.int (iI (inR2 dk (zs xs (i + 1)) (zs xs (i + 2))))]) (z := inR2 dk (zs xs (i + 1)) (zs xs (i + 2))) (dk2 := dk) C hF hB (fun kk d tk nb n hd tl rc q cb cn wb wl hd' tl' nl' d' r' q' t0' nb' hnl => ⟨[(h2, .inr (9, [.ref a2, .ref b2, .ref tk2, .ref re2, .ref qu2, .int (iI hd'), .int (iI tl'), .ref nm2, .int (iI nl')])), (a2, .inl (gI G, 4096, .inl (arI dk)))], [20, 21], _, rfl, by decide, ct_X11_inode G l h2 a2 b2 tk2 re2 qu2 nm2 hd' tl' nl' dk (zs xs (i + 1)) (zs xs (i + 2)) (zs_rg xs _) (zs_rg xs _), fun v w hp => ⟨hp.1, by rw [hp.2] <;> rfl, RW G h2 a2 b2 tk2 re2 qu2 nm2 (dk) (hd') (tl') (nl') (d') (r') (q') (t0') (nb'), by rw [hp.2] <;> rfl, ⟨_, _, _, _, _, _, _, _, hnl, rfl⟩⟩⟩) gL_52 dL_law_320 rfl rfl rfl (Nat.le_of_ble_eq_true rfl) (by decide) ⟨rfl, rfl⟩ (fun wB hB => ?_)
  have rg := inR2_rg dk (zs xs (i + 1)) (zs xs (i + 2))
  refine w_icmp_eq C 666 dL_law_323 rfl (by omega) (fun _ => ?_) (fun c_ => absurd rfl c_)
  exact kk _ wA wB hF hB

theorem gL_53 : cwv RL 53 yX10_read cX10_read 4 (some .int) 2 757 758 759 65 760 := by decide +kernel
theorem gL_56 : cwv RL 56 yX11_read cX11_read 5 (some .int) 2 1084 1085 1086 74 1087 := by decide +kernel
set_option maxHeartbeats 4000000 in
set_option maxRecDepth 100000 in
theorem law_c8 (C0 : lw_At p s mm meth c b0 L xs) (hL : L ≤ 2560) (C : Cx G (kL p l e s mm below meth c b0) cL_law RL 4 room_1) (hF : FD G h kg kb ko kt km rp g b o dd m mb ip co cm cmb cq wr wn wnb dk wA) (hB : RM G h2 a2 b2 tk2 re2 qu2 nm2 dk wB) (hi : 0 ≤ i ∧ i + 5 ≤ L) (kk : ∀ dk2 wA2 wB2, FD G h kg kb ko kt km rp g b o dd m mb ip co cm cmb cq wr wn wnb dk2 wA2 → RM G h2 a2 b2 tk2 re2 qu2 nm2 dk2 wB2 → Wd G (kL p l e s mm below meth c b0) 4 29 16669 (wA2 ++ wB2) 666 [(0, .ref b0), (1, .ref h), (2, .ref h2), (3, .int (iI i))] []) : Wd G (kL p l e s mm below meth c b0) 4 29 16669 (wA ++ wB) 328 [(0, .ref b0), (1, .ref h), (2, .ref h2), (3, .int (iI i))] [] := by
  refine w_aload_n C 1 dL_law_328 rfl ?_
  refine w_aload_n C 0 dL_law_329 rfl ?_
  refine w_iload_n C 3 dL_law_330 rfl ?_
  refine w_iconst C dL_law_331 ?_
  refine w_iadd C dL_law_332 ?_
  refine w_sldX C0 hL (by omega) dL_law_333 ?_
  refine w_aload_n C 0 dL_law_334 rfl ?_
  refine w_iload_n C 3 dL_law_335 rfl ?_
  refine w_iconst C dL_law_336 ?_
  refine w_iadd C dL_law_337 ?_
  refine w_sldX C0 hL (by omega) dL_law_338 ?_
  refine law_A (As := [.int (iI (zs xs (i + 1))), .int (iI (zs xs (i + 2)))]) (rest := []) (z := rdR dk (zs xs (i + 1)) (zs xs (i + 2))) (dk2 := dk) C hF (fun kk d tk nb n hd tl rc q cb cn wb wl a1 a2_ a3 => ⟨_, _, rfl, rfl, ct_X10_read G l h kg kb ko kt km rp g b o dd m mb ip co cm cmb cq wr wn wnb dk kk d tk nb n hd tl rc q cb cn wb wl (zs xs (i + 1)) (zs xs (i + 2)) a1 a2_ a3 (zs_rg xs _) (zs_rg xs _)⟩) gL_53 dL_law_339 rfl rfl rfl (Nat.le_of_ble_eq_true rfl) (by decide) ⟨rfl, rfl⟩ (fun wA hF => ?_)
  refine w_aload_n C 2 dL_law_342 rfl ?_
  refine w_aload_n C 0 dL_law_343 rfl ?_
  refine w_iload_n C 3 dL_law_344 rfl ?_
  refine w_iconst C dL_law_345 ?_
  refine w_iadd C dL_law_346 ?_
  refine w_sldX C0 hL (by omega) dL_law_347 ?_
  refine w_aload_n C 0 dL_law_348 rfl ?_
  refine w_iload_n C 3 dL_law_349 rfl ?_
  refine w_iconst C dL_law_350 ?_
  refine w_iadd C dL_law_351 ?_
  refine w_sldX C0 hL (by omega) dL_law_352 ?_
  refine law_B (As := [.int (iI (zs xs (i + 1))), .int (iI (zs xs (i + 2)))]) (rest := [.int (iI (rdR dk (zs xs (i + 1)) (zs xs (i + 2))))]) (z := rdR dk (zs xs (i + 1)) (zs xs (i + 2))) (dk2 := dk) C hF hB (fun kk d tk nb n hd tl rc q cb cn wb wl hd' tl' nl' d' r' q' t0' nb' hnl => ⟨[(h2, .inr (9, [.ref a2, .ref b2, .ref tk2, .ref re2, .ref qu2, .int (iI hd'), .int (iI tl'), .ref nm2, .int (iI nl')])), (a2, .inl (gI G, 4096, .inl (arI dk)))], [20, 21], _, rfl, by decide, ct_X11_read G l h2 a2 b2 tk2 re2 qu2 nm2 hd' tl' nl' dk (zs xs (i + 1)) (zs xs (i + 2)) (zs_rg xs _) (zs_rg xs _), fun v w hp => ⟨hp.1, by rw [hp.2] <;> rfl, RW G h2 a2 b2 tk2 re2 qu2 nm2 (dk) (hd') (tl') (nl') (d') (r') (q') (t0') (nb'), by rw [hp.2] <;> rfl, ⟨_, _, _, _, _, _, _, _, hnl, rfl⟩⟩⟩) gL_56 dL_law_353 rfl rfl rfl (Nat.le_of_ble_eq_true rfl) (by decide) ⟨rfl, rfl⟩ (fun wB hB => ?_)
  have rg := rd_rg dk (zs xs (i + 1)) (zs xs (i + 2))
  refine w_icmp_eq C 666 dL_law_356 rfl (by omega) (fun _ => ?_) (fun c_ => absurd rfl c_)
  exact kk _ wA wB hF hB

theorem gL_57 : cwv RL 57 yX10_find cX10_find 5 (some .int) 2 762 763 764 65 765 := by decide +kernel
theorem gL_61 : cwv RL 61 yX11_find_ cX11_find_ 7 (some .int) 2 1089 1090 1091 74 1092 := by decide +kernel
set_option maxHeartbeats 4000000 in
set_option maxRecDepth 100000 in
theorem law_c9 (C0 : lw_At p s mm meth c b0 L xs) (hL : L ≤ 2560) (C : Cx G (kL p l e s mm below meth c b0) cL_law RL 4 room_1) (hF : FD G h kg kb ko kt km rp g b o dd m mb ip co cm cmb cq wr wn wnb dk wA) (hB : RM G h2 a2 b2 tk2 re2 qu2 nm2 dk wB) (hi : 0 ≤ i ∧ i + 5 ≤ L) (kk : ∀ dk2 wA2 wB2, FD G h kg kb ko kt km rp g b o dd m mb ip co cm cmb cq wr wn wnb dk2 wA2 → RM G h2 a2 b2 tk2 re2 qu2 nm2 dk2 wB2 → Wd G (kL p l e s mm below meth c b0) 4 29 16669 (wA2 ++ wB2) 666 [(0, .ref b0), (1, .ref h), (2, .ref h2), (3, .int (iI i))] []) : Wd G (kL p l e s mm below meth c b0) 4 29 16669 (wA ++ wB) 361 [(0, .ref b0), (1, .ref h), (2, .ref h2), (3, .int (iI i))] [] := by
  refine w_aload_n C 1 dL_law_361 rfl ?_
  refine w_aload_n C 0 dL_law_362 rfl ?_
  refine w_iload_n C 3 dL_law_363 rfl ?_
  refine w_iconst C dL_law_364 ?_
  refine w_iadd C dL_law_365 ?_
  refine w_sldX C0 hL (by omega) dL_law_366 ?_
  refine w_aload_n C 0 dL_law_367 rfl ?_
  refine w_iload_n C 3 dL_law_368 rfl ?_
  refine w_iconst C dL_law_369 ?_
  refine w_iadd C dL_law_370 ?_
  refine w_sldX C0 hL (by omega) dL_law_371 ?_
  refine w_i2l C dL_law_372 rfl ?_
  refine w_bipush C dL_law_373 (by decide) ?_
  refine w_lshl C dL_law_375 rfl ?_
  refine w_aload_n C 0 dL_law_376 rfl ?_
  refine w_iload_n C 3 dL_law_377 rfl ?_
  refine w_iconst C dL_law_378 ?_
  refine w_iadd C dL_law_379 ?_
  refine w_sldX C0 hL (by omega) dL_law_380 ?_
  refine w_i2l C dL_law_381 rfl ?_
  refine w_ldc2 (v := 4294967295) C 1119 dL_law_382 (by decide +kernel) ?_
  refine w_land C dL_law_385 rfl ?_
  refine w_lor C dL_law_386 rfl ?_
  refine law_A (As := [.int (iI (zs xs (i + 1))), .long ((((iI (zs xs (i + 2))).toInt64) <<< ((iI (32)).toInt64 &&& 63)) ||| (((iI (zs xs (i + 3))).toInt64) &&& (4294967295)))]) (rest := []) (z := fdZ dk (zs xs (i + 1)) ((((iI (zs xs (i + 2))).toInt64) <<< ((iI (32)).toInt64 &&& 63)) ||| (((iI (zs xs (i + 3))).toInt64) &&& (4294967295)))) (dk2 := dk) C hF (fun kk d tk nb n hd tl rc q cb cn wb wl a1 a2_ a3 => ⟨_, _, (fd_E dk wb _ _), rfl, ct_X10_find G l h kg kb ko kt km rp g b o dd m mb ip co cm cmb cq wr wn wnb dk kk d tk nb n hd tl rc q cb cn wb wl (zs xs (i + 1)) ((((iI (zs xs (i + 2))).toInt64) <<< ((iI (32)).toInt64 &&& 63)) ||| (((iI (zs xs (i + 3))).toInt64) &&& (4294967295))) a1 a2_ a3 (zs_rg xs _)⟩) gL_57 dL_law_387 rfl rfl rfl (Nat.le_of_ble_eq_true rfl) (by decide) ⟨rfl, rfl⟩ (fun wA hF => ?_)
  refine w_aload_n C 2 dL_law_390 rfl ?_
  refine w_aload_n C 0 dL_law_391 rfl ?_
  refine w_iload_n C 3 dL_law_392 rfl ?_
  refine w_iconst C dL_law_393 ?_
  refine w_iadd C dL_law_394 ?_
  refine w_sldX C0 hL (by omega) dL_law_395 ?_
  refine w_aload_n C 0 dL_law_396 rfl ?_
  refine w_iload_n C 3 dL_law_397 rfl ?_
  refine w_iconst C dL_law_398 ?_
  refine w_iadd C dL_law_399 ?_
  refine w_sldX C0 hL (by omega) dL_law_400 ?_
  refine w_i2l C dL_law_401 rfl ?_
  refine w_bipush C dL_law_402 (by decide) ?_
  refine w_lshl C dL_law_404 rfl ?_
  refine w_aload_n C 0 dL_law_405 rfl ?_
  refine w_iload_n C 3 dL_law_406 rfl ?_
  refine w_iconst C dL_law_407 ?_
  refine w_iadd C dL_law_408 ?_
  refine w_sldX C0 hL (by omega) dL_law_409 ?_
  refine w_i2l C dL_law_410 rfl ?_
  refine w_ldc2 (v := 4294967295) C 1119 dL_law_411 (by decide +kernel) ?_
  refine w_land C dL_law_414 rfl ?_
  refine w_lor C dL_law_415 rfl ?_
  refine law_B (As := [.int (iI (zs xs (i + 1))), .long ((((iI (zs xs (i + 2))).toInt64) <<< ((iI (32)).toInt64 &&& 63)) ||| (((iI (zs xs (i + 3))).toInt64) &&& (4294967295)))]) (rest := [.int (iI (fdZ dk (zs xs (i + 1)) ((((iI (zs xs (i + 2))).toInt64) <<< ((iI (32)).toInt64 &&& 63)) ||| (((iI (zs xs (i + 3))).toInt64) &&& (4294967295)))))]) (z := fdZ dk (zs xs (i + 1)) ((((iI (zs xs (i + 2))).toInt64) <<< ((iI (32)).toInt64 &&& 63)) ||| (((iI (zs xs (i + 3))).toInt64) &&& (4294967295)))) (dk2 := dk) C hF hB (fun kk d tk nb n hd tl rc q cb cn wb wl hd' tl' nl' d' r' q' t0' nb' hnl => ⟨[(h2, .inr (9, [.ref a2, .ref b2, .ref tk2, .ref re2, .ref qu2, .int (iI hd'), .int (iI tl'), .ref nm2, .int (iI nl')])), (a2, .inl (gI G, 4096, .inl (arI dk))), (nm2, .inl (gI G, 14, .inl (arI nb')))], [20, 21, 26], _, rfl, by decide, ct_X11_find_ G l h2 a2 b2 tk2 re2 qu2 nm2 hd' tl' nl' dk nb' (zs xs (i + 1)) ((((iI (zs xs (i + 2))).toInt64) <<< ((iI (32)).toInt64 &&& 63)) ||| (((iI (zs xs (i + 3))).toInt64) &&& (4294967295))) hnl (zs_rg xs _), fun v w hp => by obtain ⟨e_, hP, h1, h2_⟩ := hp; exact ⟨h1, by rw [h2_] <;> rfl, RW G h2 a2 b2 tk2 re2 qu2 nm2 (dk) (hd') (tl') (e_.2) (d') (r') (q') (t0') (e_.1), by rw [h2_] <;> rfl, ⟨_, _, _, _, _, _, _, _, hP, rfl⟩⟩⟩) gL_61 dL_law_416 rfl rfl rfl (Nat.le_of_ble_eq_true rfl) (by decide) ⟨rfl, rfl⟩ (fun wB hB => ?_)
  have rg := fdZ_rg dk (zs xs (i + 1)) ((((iI (zs xs (i + 2))).toInt64) <<< ((iI (32)).toInt64 &&& 63)) ||| (((iI (zs xs (i + 3))).toInt64) &&& (4294967295)))
  refine w_icmp_eq C 666 dL_law_419 rfl (by omega) (fun _ => ?_) (fun c_ => absurd rfl c_)
  exact kk _ wA wB hF hB

theorem gL_62 : cwv RL 62 yX10_make cX10_make 6 (some .int) 3 771 772 773 65 774 := by decide +kernel
theorem gL_66 : cwv RL 66 yX11_make_ cX11_make_ 7 (some .int) 3 1098 1099 1100 74 1101 := by decide +kernel
set_option maxHeartbeats 4000000 in
set_option maxRecDepth 100000 in
theorem law_c10 (C0 : lw_At p s mm meth c b0 L xs) (hL : L ≤ 2560) (C : Cx G (kL p l e s mm below meth c b0) cL_law RL 4 room_1) (hF : FD G h kg kb ko kt km rp g b o dd m mb ip co cm cmb cq wr wn wnb dk wA) (hB : RM G h2 a2 b2 tk2 re2 qu2 nm2 dk wB) (hi : 0 ≤ i ∧ i + 5 ≤ L) (kk : ∀ dk2 wA2 wB2, FD G h kg kb ko kt km rp g b o dd m mb ip co cm cmb cq wr wn wnb dk2 wA2 → RM G h2 a2 b2 tk2 re2 qu2 nm2 dk2 wB2 → Wd G (kL p l e s mm below meth c b0) 4 29 16669 (wA2 ++ wB2) 666 [(0, .ref b0), (1, .ref h), (2, .ref h2), (3, .int (iI i))] []) : Wd G (kL p l e s mm below meth c b0) 4 29 16669 (wA ++ wB) 424 [(0, .ref b0), (1, .ref h), (2, .ref h2), (3, .int (iI i))] [] := by
  refine w_aload_n C 1 dL_law_424 rfl ?_
  refine w_aload_n C 0 dL_law_425 rfl ?_
  refine w_iload_n C 3 dL_law_426 rfl ?_
  refine w_iconst C dL_law_427 ?_
  refine w_iadd C dL_law_428 ?_
  refine w_sldX C0 hL (by omega) dL_law_429 ?_
  refine w_aload_n C 0 dL_law_430 rfl ?_
  refine w_iload_n C 3 dL_law_431 rfl ?_
  refine w_iconst C dL_law_432 ?_
  refine w_iadd C dL_law_433 ?_
  refine w_sldX C0 hL (by omega) dL_law_434 ?_
  refine w_i2l C dL_law_435 rfl ?_
  refine w_bipush C dL_law_436 (by decide) ?_
  refine w_lshl C dL_law_438 rfl ?_
  refine w_aload_n C 0 dL_law_439 rfl ?_
  refine w_iload_n C 3 dL_law_440 rfl ?_
  refine w_iconst C dL_law_441 ?_
  refine w_iadd C dL_law_442 ?_
  refine w_sldX C0 hL (by omega) dL_law_443 ?_
  refine w_i2l C dL_law_444 rfl ?_
  refine w_ldc2 (v := 4294967295) C 1119 dL_law_445 (by decide +kernel) ?_
  refine w_land C dL_law_448 rfl ?_
  refine w_lor C dL_law_449 rfl ?_
  refine w_aload_n C 0 dL_law_450 rfl ?_
  refine w_iload_n C 3 dL_law_451 rfl ?_
  refine w_iconst C dL_law_452 ?_
  refine w_iadd C dL_law_453 ?_
  refine w_sldX C0 hL (by omega) dL_law_454 ?_
  refine law_A (As := [.int (iI (zs xs (i + 1))), .long ((((iI (zs xs (i + 2))).toInt64) <<< ((iI (32)).toInt64 &&& 63)) ||| (((iI (zs xs (i + 3))).toInt64) &&& (4294967295))), .int (iI (zs xs (i + 4)))]) (rest := []) (z := mkZ dk (zs xs (i + 1)) (zs xs (i + 4)) ((((iI (zs xs (i + 2))).toInt64) <<< ((iI (32)).toInt64 &&& 63)) ||| (((iI (zs xs (i + 3))).toInt64) &&& (4294967295)))) (dk2 := mkG dk (zs xs (i + 1)) (zs xs (i + 4)) ((((iI (zs xs (i + 2))).toInt64) <<< ((iI (32)).toInt64 &&& 63)) ||| (((iI (zs xs (i + 3))).toInt64) &&& (4294967295)))) C hF (fun kk d tk nb n hd tl rc q cb cn wb wl a1 a2_ a3 => ⟨_, _, (mk_E dk nb n q cb cn wb _ _ _).1, (mk_E dk nb n q cb cn wb _ _ _).2, ct_X10_make G l h kg kb ko kt km rp g b o dd m mb ip co cm cmb cq wr wn wnb dk kk d tk nb n hd tl rc q cb cn wb wl (zs xs (i + 1)) ((((iI (zs xs (i + 2))).toInt64) <<< ((iI (32)).toInt64 &&& 63)) ||| (((iI (zs xs (i + 3))).toInt64) &&& (4294967295))) (zs xs (i + 4)) a1 a2_ a3 (zs_rg xs _) (zs_rg xs _)⟩) gL_62 dL_law_455 rfl rfl rfl (Nat.le_of_ble_eq_true rfl) (by decide) ⟨rfl, rfl⟩ (fun wA hF => ?_)
  refine w_aload_n C 2 dL_law_458 rfl ?_
  refine w_aload_n C 0 dL_law_459 rfl ?_
  refine w_iload_n C 3 dL_law_460 rfl ?_
  refine w_iconst C dL_law_461 ?_
  refine w_iadd C dL_law_462 ?_
  refine w_sldX C0 hL (by omega) dL_law_463 ?_
  refine w_aload_n C 0 dL_law_464 rfl ?_
  refine w_iload_n C 3 dL_law_465 rfl ?_
  refine w_iconst C dL_law_466 ?_
  refine w_iadd C dL_law_467 ?_
  refine w_sldX C0 hL (by omega) dL_law_468 ?_
  refine w_i2l C dL_law_469 rfl ?_
  refine w_bipush C dL_law_470 (by decide) ?_
  refine w_lshl C dL_law_472 rfl ?_
  refine w_aload_n C 0 dL_law_473 rfl ?_
  refine w_iload_n C 3 dL_law_474 rfl ?_
  refine w_iconst C dL_law_475 ?_
  refine w_iadd C dL_law_476 ?_
  refine w_sldX C0 hL (by omega) dL_law_477 ?_
  refine w_i2l C dL_law_478 rfl ?_
  refine w_ldc2 (v := 4294967295) C 1119 dL_law_479 (by decide +kernel) ?_
  refine w_land C dL_law_482 rfl ?_
  refine w_lor C dL_law_483 rfl ?_
  refine w_aload_n C 0 dL_law_484 rfl ?_
  refine w_iload_n C 3 dL_law_485 rfl ?_
  refine w_iconst C dL_law_486 ?_
  refine w_iadd C dL_law_487 ?_
  refine w_sldX C0 hL (by omega) dL_law_488 ?_
  refine law_B (As := [.int (iI (zs xs (i + 1))), .long ((((iI (zs xs (i + 2))).toInt64) <<< ((iI (32)).toInt64 &&& 63)) ||| (((iI (zs xs (i + 3))).toInt64) &&& (4294967295))), .int (iI (zs xs (i + 4)))]) (rest := [.int (iI (mkZ dk (zs xs (i + 1)) (zs xs (i + 4)) ((((iI (zs xs (i + 2))).toInt64) <<< ((iI (32)).toInt64 &&& 63)) ||| (((iI (zs xs (i + 3))).toInt64) &&& (4294967295)))))]) (z := mkZ dk (zs xs (i + 1)) (zs xs (i + 4)) ((((iI (zs xs (i + 2))).toInt64) <<< ((iI (32)).toInt64 &&& 63)) ||| (((iI (zs xs (i + 3))).toInt64) &&& (4294967295)))) (dk2 := mkG dk (zs xs (i + 1)) (zs xs (i + 4)) ((((iI (zs xs (i + 2))).toInt64) <<< ((iI (32)).toInt64 &&& 63)) ||| (((iI (zs xs (i + 3))).toInt64) &&& (4294967295)))) C hF hB (fun kk d tk nb n hd tl rc q cb cn wb wl hd' tl' nl' d' r' q' t0' nb' hnl => ⟨RW G h2 a2 b2 tk2 re2 qu2 nm2 dk hd' tl' nl' d' r' q' t0' nb', [20, 21, 22, 23, 24, 25, 26], _, rfl, by decide, ct_X11_make_ G l h2 a2 b2 tk2 re2 qu2 nm2 hd' tl' nl' dk d' r' q' t0' nb' (zs xs (i + 1)) ((((iI (zs xs (i + 2))).toInt64) <<< ((iI (32)).toInt64 &&& 63)) ||| (((iI (zs xs (i + 3))).toInt64) &&& (4294967295))) (zs xs (i + 4)) hnl (zs_rg xs _) (zs_rg xs _), fun v w hp => by obtain ⟨e_, hP, h1, h2_⟩ := hp; exact ⟨h1, by rw [h2_] <;> rfl, RW G h2 a2 b2 tk2 re2 qu2 nm2 (mkG dk (zs xs (i + 1)) (zs xs (i + 4)) ((((iI (zs xs (i + 2))).toInt64) <<< ((iI (32)).toInt64 &&& 63)) ||| (((iI (zs xs (i + 3))).toInt64) &&& (4294967295)))) (e_.1) (e_.2.1) (e_.2.2.1) (e_.2.2.2.2.2.2.2) (e_.2.2.2.1) (e_.2.2.2.2.1) (e_.2.2.2.2.2.1) (e_.2.2.2.2.2.2.1), by rw [h2_] <;> rfl, ⟨_, _, _, _, _, _, _, _, hP, rfl⟩⟩⟩) gL_66 dL_law_489 rfl rfl rfl (Nat.le_of_ble_eq_true rfl) (by decide) ⟨rfl, rfl⟩ (fun wB hB => ?_)
  have rg := mkZ_rg dk (zs xs (i + 1)) (zs xs (i + 4)) ((((iI (zs xs (i + 2))).toInt64) <<< ((iI (32)).toInt64 &&& 63)) ||| (((iI (zs xs (i + 3))).toInt64) &&& (4294967295)))
  refine w_icmp_eq C 666 dL_law_492 rfl (by omega) (fun _ => ?_) (fun c_ => absurd rfl c_)
  exact kk _ wA wB hF hB

theorem gL_67 : cwv RL 67 yX10_append cX10_append 4 (some .boolean) 2 803 804 805 65 806 := by decide +kernel
theorem gL_70 : cwv RL 70 yX11_append cX11_append 4 (some .boolean) 2 1107 1108 1109 74 1110 := by decide +kernel
set_option maxHeartbeats 4000000 in
set_option maxRecDepth 100000 in
theorem law_c11 (C0 : lw_At p s mm meth c b0 L xs) (hL : L ≤ 2560) (C : Cx G (kL p l e s mm below meth c b0) cL_law RL 4 room_1) (hF : FD G h kg kb ko kt km rp g b o dd m mb ip co cm cmb cq wr wn wnb dk wA) (hB : RM G h2 a2 b2 tk2 re2 qu2 nm2 dk wB) (hi : 0 ≤ i ∧ i + 5 ≤ L) (kk : ∀ dk2 wA2 wB2, FD G h kg kb ko kt km rp g b o dd m mb ip co cm cmb cq wr wn wnb dk2 wA2 → RM G h2 a2 b2 tk2 re2 qu2 nm2 dk2 wB2 → Wd G (kL p l e s mm below meth c b0) 4 29 16669 (wA2 ++ wB2) 666 [(0, .ref b0), (1, .ref h), (2, .ref h2), (3, .int (iI i))] []) : Wd G (kL p l e s mm below meth c b0) 4 29 16669 (wA ++ wB) 497 [(0, .ref b0), (1, .ref h), (2, .ref h2), (3, .int (iI i))] [] := by
  refine w_aload_n C 1 dL_law_497 rfl ?_
  refine w_aload_n C 0 dL_law_498 rfl ?_
  refine w_iload_n C 3 dL_law_499 rfl ?_
  refine w_iconst C dL_law_500 ?_
  refine w_iadd C dL_law_501 ?_
  refine w_sldX C0 hL (by omega) dL_law_502 ?_
  refine w_aload_n C 0 dL_law_503 rfl ?_
  refine w_iload_n C 3 dL_law_504 rfl ?_
  refine w_iconst C dL_law_505 ?_
  refine w_iadd C dL_law_506 ?_
  refine w_sldX C0 hL (by omega) dL_law_507 ?_
  refine law_A (As := [.int (iI (zs xs (i + 1))), .int (iI (zs xs (i + 2)))]) (rest := []) (z := bI (apB dk (zs xs (i + 1)) (zs xs (i + 2)))) (dk2 := apG dk (zs xs (i + 1)) (zs xs (i + 2))) C hF (fun kk d tk nb n hd tl rc q cb cn wb wl a1 a2_ a3 => ⟨_, _, (congrArg bI (dec_b (ap_E dk nb n q cb cn _ _).1)), (ap_E dk nb n q cb cn _ _).2, ct_X10_append G l h kg kb ko kt km rp g b o dd m mb ip co cm cmb cq wr wn wnb dk kk d tk nb n hd tl rc q cb cn wb wl (zs xs (i + 1)) (zs xs (i + 2)) a1 a2_ a3 (zs_rg xs _) (zs_rg xs _)⟩) gL_67 dL_law_508 rfl rfl rfl (Nat.le_of_ble_eq_true rfl) (by decide) ⟨rfl, rfl⟩ (fun wA hF => ?_)
  refine w_aload_n C 2 dL_law_511 rfl ?_
  refine w_aload_n C 0 dL_law_512 rfl ?_
  refine w_iload_n C 3 dL_law_513 rfl ?_
  refine w_iconst C dL_law_514 ?_
  refine w_iadd C dL_law_515 ?_
  refine w_sldX C0 hL (by omega) dL_law_516 ?_
  refine w_aload_n C 0 dL_law_517 rfl ?_
  refine w_iload_n C 3 dL_law_518 rfl ?_
  refine w_iconst C dL_law_519 ?_
  refine w_iadd C dL_law_520 ?_
  refine w_sldX C0 hL (by omega) dL_law_521 ?_
  refine law_B (As := [.int (iI (zs xs (i + 1))), .int (iI (zs xs (i + 2)))]) (rest := [.int (iI (bI (apB dk (zs xs (i + 1)) (zs xs (i + 2)))))]) (z := bI (apB dk (zs xs (i + 1)) (zs xs (i + 2)))) (dk2 := apG dk (zs xs (i + 1)) (zs xs (i + 2))) C hF hB (fun kk d tk nb n hd tl rc q cb cn wb wl hd' tl' nl' d' r' q' t0' nb' hnl => ⟨RW G h2 a2 b2 tk2 re2 qu2 nm2 dk hd' tl' nl' d' r' q' t0' nb', [20, 21, 22, 23, 24, 25, 26], _, rfl, by decide, ct_X11_append G l h2 a2 b2 tk2 re2 qu2 nm2 hd' tl' nl' dk d' r' q' t0' nb' (zs xs (i + 1)) (zs xs (i + 2)) hnl (zs_rg xs _) (zs_rg xs _), fun v w hp => by obtain ⟨e_, hP, h1, h2_⟩ := hp; exact ⟨h1, by rw [h2_] <;> rfl, RW G h2 a2 b2 tk2 re2 qu2 nm2 (apG dk (zs xs (i + 1)) (zs xs (i + 2))) (e_.1) (e_.2.1) (e_.2.2.1) (e_.2.2.2.2.2.2.2) (e_.2.2.2.1) (e_.2.2.2.2.1) (e_.2.2.2.2.2.1) (e_.2.2.2.2.2.2.1), by rw [h2_] <;> rfl, ⟨_, _, _, _, _, _, _, _, hP, rfl⟩⟩⟩) gL_70 dL_law_522 rfl rfl rfl (Nat.le_of_ble_eq_true rfl) (by decide) ⟨rfl, rfl⟩ (fun wB hB => ?_)
  have rg := bI_rg ((apB dk (zs xs (i + 1)) (zs xs (i + 2))))
  refine w_icmp_eq C 666 dL_law_525 rfl (by omega) (fun _ => ?_) (fun c_ => absurd rfl c_)
  exact kk _ wA wB hF hB

theorem gL_71 : cwv RL 71 yX10_link cX10_link 6 (some .boolean) 3 816 817 818 65 819 := by decide +kernel
theorem gL_75 : cwv RL 75 yX11_link cX11_link 5 (some .boolean) 3 1111 1112 1113 74 1114 := by decide +kernel
set_option maxHeartbeats 4000000 in
set_option maxRecDepth 100000 in
theorem law_c12 (C0 : lw_At p s mm meth c b0 L xs) (hL : L ≤ 2560) (C : Cx G (kL p l e s mm below meth c b0) cL_law RL 4 room_1) (hF : FD G h kg kb ko kt km rp g b o dd m mb ip co cm cmb cq wr wn wnb dk wA) (hB : RM G h2 a2 b2 tk2 re2 qu2 nm2 dk wB) (hi : 0 ≤ i ∧ i + 5 ≤ L) (kk : ∀ dk2 wA2 wB2, FD G h kg kb ko kt km rp g b o dd m mb ip co cm cmb cq wr wn wnb dk2 wA2 → RM G h2 a2 b2 tk2 re2 qu2 nm2 dk2 wB2 → Wd G (kL p l e s mm below meth c b0) 4 29 16669 (wA2 ++ wB2) 666 [(0, .ref b0), (1, .ref h), (2, .ref h2), (3, .int (iI i))] []) : Wd G (kL p l e s mm below meth c b0) 4 29 16669 (wA ++ wB) 530 [(0, .ref b0), (1, .ref h), (2, .ref h2), (3, .int (iI i))] [] := by
  refine w_aload_n C 1 dL_law_530 rfl ?_
  refine w_aload_n C 0 dL_law_531 rfl ?_
  refine w_iload_n C 3 dL_law_532 rfl ?_
  refine w_iconst C dL_law_533 ?_
  refine w_iadd C dL_law_534 ?_
  refine w_sldX C0 hL (by omega) dL_law_535 ?_
  refine w_aload_n C 0 dL_law_536 rfl ?_
  refine w_iload_n C 3 dL_law_537 rfl ?_
  refine w_iconst C dL_law_538 ?_
  refine w_iadd C dL_law_539 ?_
  refine w_sldX C0 hL (by omega) dL_law_540 ?_
  refine w_i2l C dL_law_541 rfl ?_
  refine w_bipush C dL_law_542 (by decide) ?_
  refine w_lshl C dL_law_544 rfl ?_
  refine w_aload_n C 0 dL_law_545 rfl ?_
  refine w_iload_n C 3 dL_law_546 rfl ?_
  refine w_iconst C dL_law_547 ?_
  refine w_iadd C dL_law_548 ?_
  refine w_sldX C0 hL (by omega) dL_law_549 ?_
  refine w_i2l C dL_law_550 rfl ?_
  refine w_ldc2 (v := 4294967295) C 1119 dL_law_551 (by decide +kernel) ?_
  refine w_land C dL_law_554 rfl ?_
  refine w_lor C dL_law_555 rfl ?_
  refine w_aload_n C 0 dL_law_556 rfl ?_
  refine w_iload_n C 3 dL_law_557 rfl ?_
  refine w_iconst C dL_law_558 ?_
  refine w_iadd C dL_law_559 ?_
  refine w_sldX C0 hL (by omega) dL_law_560 ?_
  refine law_A (As := [.int (iI (zs xs (i + 1))), .long ((((iI (zs xs (i + 2))).toInt64) <<< ((iI (32)).toInt64 &&& 63)) ||| (((iI (zs xs (i + 3))).toInt64) &&& (4294967295))), .int (iI (zs xs (i + 4)))]) (rest := []) (z := bI (lnB dk (zs xs (i + 1)) (zs xs (i + 4)) ((((iI (zs xs (i + 2))).toInt64) <<< ((iI (32)).toInt64 &&& 63)) ||| (((iI (zs xs (i + 3))).toInt64) &&& (4294967295))))) (dk2 := lnD dk (zs xs (i + 1)) (zs xs (i + 4)) ((((iI (zs xs (i + 2))).toInt64) <<< ((iI (32)).toInt64 &&& 63)) ||| (((iI (zs xs (i + 3))).toInt64) &&& (4294967295)))) C hF (fun kk d tk nb n hd tl rc q cb cn wb wl a1 a2_ a3 => ⟨_, _, (congrArg bI (dec_b (ln_E dk nb n q cb cn wb _ _ _).1)), (ln_E dk nb n q cb cn wb _ _ _).2, ct_X10_link G l h kg kb ko kt km rp g b o dd m mb ip co cm cmb cq wr wn wnb dk kk d tk nb n hd tl rc q cb cn wb wl (zs xs (i + 1)) ((((iI (zs xs (i + 2))).toInt64) <<< ((iI (32)).toInt64 &&& 63)) ||| (((iI (zs xs (i + 3))).toInt64) &&& (4294967295))) (zs xs (i + 4)) a1 a2_ a3 (zs_rg xs _) (zs_rg xs _)⟩) gL_71 dL_law_561 rfl rfl rfl (Nat.le_of_ble_eq_true rfl) (by decide) ⟨rfl, rfl⟩ (fun wA hF => ?_)
  refine w_aload_n C 2 dL_law_564 rfl ?_
  refine w_aload_n C 0 dL_law_565 rfl ?_
  refine w_iload_n C 3 dL_law_566 rfl ?_
  refine w_iconst C dL_law_567 ?_
  refine w_iadd C dL_law_568 ?_
  refine w_sldX C0 hL (by omega) dL_law_569 ?_
  refine w_aload_n C 0 dL_law_570 rfl ?_
  refine w_iload_n C 3 dL_law_571 rfl ?_
  refine w_iconst C dL_law_572 ?_
  refine w_iadd C dL_law_573 ?_
  refine w_sldX C0 hL (by omega) dL_law_574 ?_
  refine w_i2l C dL_law_575 rfl ?_
  refine w_bipush C dL_law_576 (by decide) ?_
  refine w_lshl C dL_law_578 rfl ?_
  refine w_aload_n C 0 dL_law_579 rfl ?_
  refine w_iload_n C 3 dL_law_580 rfl ?_
  refine w_iconst C dL_law_581 ?_
  refine w_iadd C dL_law_582 ?_
  refine w_sldX C0 hL (by omega) dL_law_583 ?_
  refine w_i2l C dL_law_584 rfl ?_
  refine w_ldc2 (v := 4294967295) C 1119 dL_law_585 (by decide +kernel) ?_
  refine w_land C dL_law_588 rfl ?_
  refine w_lor C dL_law_589 rfl ?_
  refine w_aload_n C 0 dL_law_590 rfl ?_
  refine w_iload_n C 3 dL_law_591 rfl ?_
  refine w_iconst C dL_law_592 ?_
  refine w_iadd C dL_law_593 ?_
  refine w_sldX C0 hL (by omega) dL_law_594 ?_
  refine law_B (As := [.int (iI (zs xs (i + 1))), .long ((((iI (zs xs (i + 2))).toInt64) <<< ((iI (32)).toInt64 &&& 63)) ||| (((iI (zs xs (i + 3))).toInt64) &&& (4294967295))), .int (iI (zs xs (i + 4)))]) (rest := [.int (iI (bI (lnB dk (zs xs (i + 1)) (zs xs (i + 4)) ((((iI (zs xs (i + 2))).toInt64) <<< ((iI (32)).toInt64 &&& 63)) ||| (((iI (zs xs (i + 3))).toInt64) &&& (4294967295))))))]) (z := bI (lnB dk (zs xs (i + 1)) (zs xs (i + 4)) ((((iI (zs xs (i + 2))).toInt64) <<< ((iI (32)).toInt64 &&& 63)) ||| (((iI (zs xs (i + 3))).toInt64) &&& (4294967295))))) (dk2 := lnD dk (zs xs (i + 1)) (zs xs (i + 4)) ((((iI (zs xs (i + 2))).toInt64) <<< ((iI (32)).toInt64 &&& 63)) ||| (((iI (zs xs (i + 3))).toInt64) &&& (4294967295)))) C hF hB (fun kk d tk nb n hd tl rc q cb cn wb wl hd' tl' nl' d' r' q' t0' nb' hnl => ⟨RW G h2 a2 b2 tk2 re2 qu2 nm2 dk hd' tl' nl' d' r' q' t0' nb', [20, 21, 22, 23, 24, 25, 26], _, rfl, by decide, ct_X11_link G l h2 a2 b2 tk2 re2 qu2 nm2 hd' tl' nl' dk d' r' q' t0' nb' (zs xs (i + 1)) ((((iI (zs xs (i + 2))).toInt64) <<< ((iI (32)).toInt64 &&& 63)) ||| (((iI (zs xs (i + 3))).toInt64) &&& (4294967295))) (zs xs (i + 4)) hnl (zs_rg xs _) (zs_rg xs _), fun v w hp => by obtain ⟨e_, hP, h1, h2_⟩ := hp; exact ⟨h1, by rw [h2_] <;> rfl, RW G h2 a2 b2 tk2 re2 qu2 nm2 (lnD dk (zs xs (i + 1)) (zs xs (i + 4)) ((((iI (zs xs (i + 2))).toInt64) <<< ((iI (32)).toInt64 &&& 63)) ||| (((iI (zs xs (i + 3))).toInt64) &&& (4294967295)))) (e_.1) (e_.2.1) (e_.2.2.1) (e_.2.2.2.2.2.2.2) (e_.2.2.2.1) (e_.2.2.2.2.1) (e_.2.2.2.2.2.1) (e_.2.2.2.2.2.2.1), by rw [h2_] <;> rfl, ⟨_, _, _, _, _, _, _, _, hP, rfl⟩⟩⟩) gL_75 dL_law_595 rfl rfl rfl (Nat.le_of_ble_eq_true rfl) (by decide) ⟨rfl, rfl⟩ (fun wB hB => ?_)
  have rg := bI_rg ((lnB dk (zs xs (i + 1)) (zs xs (i + 4)) ((((iI (zs xs (i + 2))).toInt64) <<< ((iI (32)).toInt64 &&& 63)) ||| (((iI (zs xs (i + 3))).toInt64) &&& (4294967295)))))
  refine w_icmp_eq C 666 dL_law_598 rfl (by omega) (fun _ => ?_) (fun c_ => absurd rfl c_)
  exact kk _ wA wB hF hB

theorem gL_76 : cwv RL 76 yX10_unlink cX10_unlink 5 (some .boolean) 2 824 825 826 65 827 := by decide +kernel
theorem gL_80 : cwv RL 80 yX11_unlink cX11_unlink 7 (some .boolean) 2 1115 1116 1117 74 1118 := by decide +kernel
set_option maxHeartbeats 4000000 in
set_option maxRecDepth 100000 in
theorem law_c13 (C0 : lw_At p s mm meth c b0 L xs) (hL : L ≤ 2560) (C : Cx G (kL p l e s mm below meth c b0) cL_law RL 4 room_1) (hF : FD G h kg kb ko kt km rp g b o dd m mb ip co cm cmb cq wr wn wnb dk wA) (hB : RM G h2 a2 b2 tk2 re2 qu2 nm2 dk wB) (hi : 0 ≤ i ∧ i + 5 ≤ L) (kk : ∀ dk2 wA2 wB2, FD G h kg kb ko kt km rp g b o dd m mb ip co cm cmb cq wr wn wnb dk2 wA2 → RM G h2 a2 b2 tk2 re2 qu2 nm2 dk2 wB2 → Wd G (kL p l e s mm below meth c b0) 4 29 16669 (wA2 ++ wB2) 666 [(0, .ref b0), (1, .ref h), (2, .ref h2), (3, .int (iI i))] []) : Wd G (kL p l e s mm below meth c b0) 4 29 16669 (wA ++ wB) 603 [(0, .ref b0), (1, .ref h), (2, .ref h2), (3, .int (iI i))] [] := by
  refine w_aload_n C 1 dL_law_603 rfl ?_
  refine w_aload_n C 0 dL_law_604 rfl ?_
  refine w_iload_n C 3 dL_law_605 rfl ?_
  refine w_iconst C dL_law_606 ?_
  refine w_iadd C dL_law_607 ?_
  refine w_sldX C0 hL (by omega) dL_law_608 ?_
  refine w_aload_n C 0 dL_law_609 rfl ?_
  refine w_iload_n C 3 dL_law_610 rfl ?_
  refine w_iconst C dL_law_611 ?_
  refine w_iadd C dL_law_612 ?_
  refine w_sldX C0 hL (by omega) dL_law_613 ?_
  refine w_i2l C dL_law_614 rfl ?_
  refine w_bipush C dL_law_615 (by decide) ?_
  refine w_lshl C dL_law_617 rfl ?_
  refine w_aload_n C 0 dL_law_618 rfl ?_
  refine w_iload_n C 3 dL_law_619 rfl ?_
  refine w_iconst C dL_law_620 ?_
  refine w_iadd C dL_law_621 ?_
  refine w_sldX C0 hL (by omega) dL_law_622 ?_
  refine w_i2l C dL_law_623 rfl ?_
  refine w_ldc2 (v := 4294967295) C 1119 dL_law_624 (by decide +kernel) ?_
  refine w_land C dL_law_627 rfl ?_
  refine w_lor C dL_law_628 rfl ?_
  refine law_A (As := [.int (iI (zs xs (i + 1))), .long ((((iI (zs xs (i + 2))).toInt64) <<< ((iI (32)).toInt64 &&& 63)) ||| (((iI (zs xs (i + 3))).toInt64) &&& (4294967295)))]) (rest := []) (z := bI (ulB dk (zs xs (i + 1)) ((((iI (zs xs (i + 2))).toInt64) <<< ((iI (32)).toInt64 &&& 63)) ||| (((iI (zs xs (i + 3))).toInt64) &&& (4294967295))))) (dk2 := ulG dk (zs xs (i + 1)) ((((iI (zs xs (i + 2))).toInt64) <<< ((iI (32)).toInt64 &&& 63)) ||| (((iI (zs xs (i + 3))).toInt64) &&& (4294967295)))) C hF (fun kk d tk nb n hd tl rc q cb cn wb wl a1 a2_ a3 => ⟨_, _, (congrArg bI (dec_b (ul_E dk nb n q cb cn wb _ _).1)), (ul_E dk nb n q cb cn wb _ _).2, ct_X10_unlink G l h kg kb ko kt km rp g b o dd m mb ip co cm cmb cq wr wn wnb dk kk d tk nb n hd tl rc q cb cn wb wl (zs xs (i + 1)) ((((iI (zs xs (i + 2))).toInt64) <<< ((iI (32)).toInt64 &&& 63)) ||| (((iI (zs xs (i + 3))).toInt64) &&& (4294967295))) a1 a2_ a3 (zs_rg xs _)⟩) gL_76 dL_law_629 rfl rfl rfl (Nat.le_of_ble_eq_true rfl) (by decide) ⟨rfl, rfl⟩ (fun wA hF => ?_)
  refine w_aload_n C 2 dL_law_632 rfl ?_
  refine w_aload_n C 0 dL_law_633 rfl ?_
  refine w_iload_n C 3 dL_law_634 rfl ?_
  refine w_iconst C dL_law_635 ?_
  refine w_iadd C dL_law_636 ?_
  refine w_sldX C0 hL (by omega) dL_law_637 ?_
  refine w_aload_n C 0 dL_law_638 rfl ?_
  refine w_iload_n C 3 dL_law_639 rfl ?_
  refine w_iconst C dL_law_640 ?_
  refine w_iadd C dL_law_641 ?_
  refine w_sldX C0 hL (by omega) dL_law_642 ?_
  refine w_i2l C dL_law_643 rfl ?_
  refine w_bipush C dL_law_644 (by decide) ?_
  refine w_lshl C dL_law_646 rfl ?_
  refine w_aload_n C 0 dL_law_647 rfl ?_
  refine w_iload_n C 3 dL_law_648 rfl ?_
  refine w_iconst C dL_law_649 ?_
  refine w_iadd C dL_law_650 ?_
  refine w_sldX C0 hL (by omega) dL_law_651 ?_
  refine w_i2l C dL_law_652 rfl ?_
  refine w_ldc2 (v := 4294967295) C 1119 dL_law_653 (by decide +kernel) ?_
  refine w_land C dL_law_656 rfl ?_
  refine w_lor C dL_law_657 rfl ?_
  refine law_B (As := [.int (iI (zs xs (i + 1))), .long ((((iI (zs xs (i + 2))).toInt64) <<< ((iI (32)).toInt64 &&& 63)) ||| (((iI (zs xs (i + 3))).toInt64) &&& (4294967295)))]) (rest := [.int (iI (bI (ulB dk (zs xs (i + 1)) ((((iI (zs xs (i + 2))).toInt64) <<< ((iI (32)).toInt64 &&& 63)) ||| (((iI (zs xs (i + 3))).toInt64) &&& (4294967295))))))]) (z := bI (ulB dk (zs xs (i + 1)) ((((iI (zs xs (i + 2))).toInt64) <<< ((iI (32)).toInt64 &&& 63)) ||| (((iI (zs xs (i + 3))).toInt64) &&& (4294967295))))) (dk2 := ulG dk (zs xs (i + 1)) ((((iI (zs xs (i + 2))).toInt64) <<< ((iI (32)).toInt64 &&& 63)) ||| (((iI (zs xs (i + 3))).toInt64) &&& (4294967295)))) C hF hB (fun kk d tk nb n hd tl rc q cb cn wb wl hd' tl' nl' d' r' q' t0' nb' hnl => ⟨RW G h2 a2 b2 tk2 re2 qu2 nm2 dk hd' tl' nl' d' r' q' t0' nb', [20, 21, 22, 23, 24, 25, 26], _, rfl, by decide, ct_X11_unlink G l h2 a2 b2 tk2 re2 qu2 nm2 hd' tl' nl' dk d' r' q' t0' nb' (zs xs (i + 1)) ((((iI (zs xs (i + 2))).toInt64) <<< ((iI (32)).toInt64 &&& 63)) ||| (((iI (zs xs (i + 3))).toInt64) &&& (4294967295))) hnl (zs_rg xs _), fun v w hp => by obtain ⟨e_, hP, h1, h2_⟩ := hp; exact ⟨h1, by rw [h2_] <;> rfl, RW G h2 a2 b2 tk2 re2 qu2 nm2 (ulG dk (zs xs (i + 1)) ((((iI (zs xs (i + 2))).toInt64) <<< ((iI (32)).toInt64 &&& 63)) ||| (((iI (zs xs (i + 3))).toInt64) &&& (4294967295)))) (e_.1) (e_.2.1) (e_.2.2.1) (e_.2.2.2.2.2.2.2) (e_.2.2.2.1) (e_.2.2.2.2.1) (e_.2.2.2.2.2.1) (e_.2.2.2.2.2.2.1), by rw [h2_] <;> rfl, ⟨_, _, _, _, _, _, _, _, hP, rfl⟩⟩⟩) gL_80 dL_law_658 rfl rfl rfl (Nat.le_of_ble_eq_true rfl) (by decide) ⟨rfl, rfl⟩ (fun wB hB => ?_)
  have rg := bI_rg ((ulB dk (zs xs (i + 1)) ((((iI (zs xs (i + 2))).toInt64) <<< ((iI (32)).toInt64 &&& 63)) ||| (((iI (zs xs (i + 3))).toInt64) &&& (4294967295)))))
  refine w_icmp_eq C 666 dL_law_661 rfl (by omega) (fun _ => ?_) (fun c_ => absurd rfl c_)
  exact kk _ wA wB hF hB
end LAWC
