/-! THE CLASS'S ANSWERS, TOLD WITHOUT WHAT LIES IN ITS HANDS -/
theorem c2_E (tk : Int64) (d mb : Im) (q c : Int) : c2D tk d mb q c = c2D tk d zIm q c := by
  unfold c2D bgD
  rw [dt_N mb, dt_N zIm]
theorem cr_E {tk : Int64} {d mb nb nc : Im} {q n c : Int} (h : nmE nb nc n) (hn : 0 ≤ n) : crR tk d mb q nb n c = crR tk d zIm q nc n c ∧ crT tk d mb q nb n c = crT tk d zIm q nc n c ∧ crD tk d mb q nb n c = crD tk d zIm q nc n c := by
  unfold crR crT crD crX
  rw [c2_E tk d mb, wm_E h hn, en_E h]
  exact ⟨rfl, rfl, rfl⟩
theorem ck_0 (dk : Im) : ¬ ckZ dk = 0 ↔ plX dk ∨ ¬ cds (plZ dk) dk 64 0 0 = 0 := by
  unfold ckZ
  by_cases h : plX dk
  · rw [if_pos h]; exact ⟨fun _ => Or.inl h, fun _ => by omega⟩
  · rw [if_neg h]; exact ⟨Or.inr, fun z => z.elim (fun w => absurd w h) id⟩
section CE
variable (dk nb : Im) (n : Int) (q cb : Im) (cn : Int) (wb : Im) (x : Int64) (i c : Int)
theorem mk_E : mkR dk nb n q cb cn wb x i c = mkZ dk i c x ∧ mkK dk nb n q cb cn wb x i c = mkG dk i c x := by
  have u := un_E wb zIm x 8
  have r := nm_un_rg zIm x 8
  have p := pl4_E dk nb n q cb cn
  have e := plD_E dk nb n q cb cn
  have R := plR_E dk nb n q cb cn
  have cr := cr_E (tk := (pzC dk).1) (d := plZ dk) (mb := (pl3 dk nb n).2.1) (q := i) (c := c) (n := (nm_un zIm x 8).2) u.2 r.1
  have eC : mkC dk nb n q cb cn wb x i c = crR (pzC dk).1 (plZ dk) zIm i (nmZ x) (nlZ x) c := by
    unfold mkC
    rw [p.1, e, u.1]; exact cr.1
  have eX : mkX dk nb n q cb cn c ↔ ¬ (c = 1 ∨ c = 2) ∨ ¬ ckZ dk = 0 := by
    unfold mkX; rw [R, ck_0]
  have e1 : mkR dk nb n q cb cn wb x i c = mkZ dk i c x := by
    unfold mkR mkZ
    by_cases h : mkX dk nb n q cb cn c
    · rw [if_pos h, if_pos (eX.mp h)]
    · rw [if_neg h, if_neg (fun z => h (eX.mpr z)), eC]
  refine ⟨e1, ?_⟩
  unfold mkK mkG
  rw [← e1]
  unfold mkR
  by_cases h : mkX dk nb n q cb cn c
  · rw [if_pos h, if_pos (Or.inl h), if_pos rfl]
  · rw [if_neg h]
    by_cases h2 : mkC dk nb n q cb cn wb x i c = -1
    · rw [if_pos (Or.inr h2), if_pos h2]
    · rw [if_neg (fun z => z.elim h h2), if_neg h2, p.1, e, u.1, cr.2.1, cr.2.2]
theorem ap_E : (apX dk nb n q cb cn i c ↔ apB dk i c = false) ∧ apK dk nb n q cb cn i c = apG dk i c := by
  have p := pl4_E dk nb n q cb cn
  have e := plD_E dk nb n q cb cn
  have R := plR_E dk nb n q cb cn
  have h1 : apX dk nb n q cb cn i c ↔ apB dk i c = false := by
    unfold apX apB
    rw [p.1, e, R, decide_eq_false_iff_not, ← or_assoc (a := plX dk), ← ck_0]
    constructor
    · rintro (z | z | z) ⟨a1, a2, a3⟩
      · exact z a1
      · exact z a2
      · exact a3 z
    · intro z
      by_cases b1 : 0 ≤ c ∧ c ≤ 255
      · by_cases b2 : ckZ dk = 0
        · exact Or.inr (Or.inr (Classical.not_not.mp (fun w => z ⟨b1, b2, w⟩)))
        · exact Or.inr (Or.inl b2)
      · exact Or.inl b1
  refine ⟨h1, ?_⟩
  unfold apK apG
  by_cases h : apB dk i c = true
  · rw [if_neg (fun z => by rw [h1.mp z] at h; cases h), if_pos h, p.1, e]
  · have h0 : apB dk i c = false := by cases z : apB dk i c with | false => rfl | true => exact absurd z h
    rw [if_pos (h1.mpr h0), if_neg h]
theorem ln_E : (lnX dk nb n q cb cn wb x i c ↔ lnB dk i c x = false) ∧ lnK dk nb n q cb cn wb x i c = lnD dk i c x := by
  have u := un_E wb zIm x 8
  have r := nm_un_rg zIm x 8
  have p := pl4_E dk nb n q cb cn
  have e := plD_E dk nb n q cb cn
  have R := plR_E dk nb n q cb cn
  have ae : aeB (pzC dk).1 (plZ dk) i c (nm_un wb x 8).1 (nm_un wb x 8).2 = aeB (pzC dk).1 (plZ dk) i c (nmZ x) (nlZ x) ∧ aeT (pzC dk).1 (plZ dk) i c (nm_un wb x 8).1 (nm_un wb x 8).2 = aeT (pzC dk).1 (plZ dk) i c (nmZ x) (nlZ x) ∧ aeD (pzC dk).1 (plZ dk) i c (nm_un wb x 8).1 (nm_un wb x 8).2 = aeD (pzC dk).1 (plZ dk) i c (nmZ x) (nlZ x) := by
    unfold aeB aeT aeD aeX nlZ
    rw [u.1, wm_E u.2 r.1, en_E u.2]; exact ⟨rfl, rfl, rfl⟩
  have h1 : lnX dk nb n q cb cn wb x i c ↔ lnB dk i c x = false := by
    unfold lnX lnB
    rw [p.1, e, R, ae.1, ← or_assoc, ← ck_0]
    by_cases b : ckZ dk = 0
    · rw [decide_eq_true b, Bool.true_and]
      exact ⟨fun z => z.elim (fun w => absurd b w) id, Or.inr⟩
    · rw [decide_eq_false b]
      exact ⟨fun _ => rfl, fun _ => Or.inl b⟩
  refine ⟨h1, ?_⟩
  unfold lnK lnD
  by_cases h : lnB dk i c x = true
  · rw [if_neg (fun z => by rw [h1.mp z] at h; cases h), if_pos h, p.1, e, ae.2.1, ae.2.2]
  · have h0 : lnB dk i c x = false := by cases z : lnB dk i c x with | false => rfl | true => exact absurd z h
    rw [if_pos (h1.mpr h0), if_neg h]
theorem ul_E : (ulX dk nb n q cb cn wb x i ↔ ulB dk i x = false) ∧ ulK dk nb n q cb cn wb x i = ulG dk i x := by
  have u := un_E wb zIm x 8
  have r := nm_un_rg zIm x 8
  have p := pl4_E dk nb n q cb cn
  have e := plD_E dk nb n q cb cn
  have R := plR_E dk nb n q cb cn
  have rp : reP (plZ dk) i (nm_un wb x 8).1 (nm_un wb x 8).2 = reP (plZ dk) i (nmZ x) (nlZ x) := by
    unfold reP nlZ; rw [u.1, u.2.skE]
  have rr : reB (plZ dk) i (nm_un wb x 8).1 (nm_un wb x 8).2 = reB (plZ dk) i (nmZ x) (nlZ x) ∧ reT (pzC dk).1 (plZ dk) i (nm_un wb x 8).1 (nm_un wb x 8).2 = reT (pzC dk).1 (plZ dk) i (nmZ x) (nlZ x) ∧ reD (plZ dk) i (nm_un wb x 8).1 (nm_un wb x 8).2 = reD (plZ dk) i (nmZ x) (nlZ x) := by
    unfold reB reT reD reX reE reI re1
    rw [rp]; exact ⟨rfl, rfl, rfl⟩
  have h1 : ulX dk nb n q cb cn wb x i ↔ ulB dk i x = false := by
    unfold ulX ulB
    rw [e, R, rr.1, ← or_assoc, ← ck_0]
    by_cases b : ckZ dk = 0
    · rw [decide_eq_true b, Bool.true_and]
      exact ⟨fun z => z.elim (fun w => absurd b w) id, Or.inr⟩
    · rw [decide_eq_false b]
      exact ⟨fun _ => rfl, fun _ => Or.inl b⟩
  refine ⟨h1, ?_⟩
  unfold ulK ulG
  by_cases h : ulB dk i x = true
  · rw [if_neg (fun z => by rw [h1.mp z] at h; cases h), if_pos h, p.1, e, rr.2.1, rr.2.2]
  · have h0 : ulB dk i x = false := by cases z : ulB dk i x with | false => rfl | true => exact absurd z h
    rw [if_pos (h1.mpr h0), if_neg h]
end CE
