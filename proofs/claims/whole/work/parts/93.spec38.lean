/-! CHECK AND REPAIR, TOLD WITHOUT WHAT LIES IN THE HANDS -/
def PK (dk : Im) : Prop := WF (pzC dk).1 (plZ dk) ∧ DE (plZ dk) ∧ ∀ j : Int, 1 ≤ j → j < 32 → kd (plZ dk) j = 1 → lk (plZ dk) j = ctA (plZ dk) j 31 1
theorem PK_of {dk : Im} (w : WF (pzC dk).1 (pzC dk).2.2.1.1) (D : DE (pzC dk).2.2.1.1) : PK dk := by
  have h := st_ok w D
  unfold PK plZ
  exact ⟨h.1, h.2.1, fun j a b c => h.2.2.2 j a b (by rw [← h.2.2.1]; exact c)⟩
def ckZ (dk : Im) : Int := if plX dk then -1 else cds (plZ dk) dk 64 0 0
theorem ckR_E (dk nb : Im) (n : Int) (q cb : Im) (cn : Int) : ckR dk nb n q cb cn = ckZ dk := by
  unfold ckR ckZ; rw [plR_E]
def wbZ (dk : Im) (c : Int) : Int × Im := wbs (plZ dk) (if c = -1 then 64 else c) 64 0 0 dk
def rpZ (dk : Im) (c : Int) : Int := if rpX dk c then -1 else (wbZ dk c).1
def rkZ (dk : Im) (c : Int) : Im := if rpX dk c then dk else (wbZ dk c).2
theorem rpR_E (dk nb : Im) (n : Int) (q cb : Im) (cn c : Int) : rpR dk nb n q cb cn c = rpZ dk c ∧ rpK dk nb n q cb cn c = rkZ dk c := by
  unfold rpR rpK rpZ rkZ rpW wbZ; rw [plD_E]; exact ⟨rfl, rfl⟩
theorem fm_E (nb : Im) (n : Int) (q cb : Im) (cn : Int) : fmW nb n q cb cn = wbZ fmt0 (-1) := by
  unfold fmW wbZ; rw [plD_E, if_pos rfl]
theorem pa_X {dk : Im} (h : ¬ plX dk) : paD dk = plZ dk := by unfold paD; rw [if_neg h]
theorem fmt_rx : ¬ rpX fmt0 (-1) := fun z => by
  rcases z with z | z | z
  · omega
  · omega
  · exact fmt_ok z
