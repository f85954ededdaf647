/-! small facts for the law's own methods -/
section LAW0
variable {a b k x n : Nat} {lo hi : Int} {ρ : Nat → Nat}
theorem oz (h : a < 2 ^ 31) (h2 : (a : Int) < lo ∨ hi < a) : (!inZ (nI a).toInt lo hi) = true := by
  rw [nI_toInt h]
  simp only [inZ, Bool.not_eq_true', decide_eq_false_iff_not]
  omega
theorem iz (h : a < 2 ^ 31) (h1 : lo ≤ (a : Int)) (h2 : (a : Int) ≤ hi) : ¬ (!inZ (nI a).toInt lo hi) = true := by rw [nI_toInt h]; exact zn h1 h2
theorem om1 : (!inZ (-1 : Int32).toInt 0 hi) = true := by
  rw [show (-1 : Int32).toInt = -1 from rfl]
  simp only [inZ, Bool.not_eq_true', decide_eq_false_iff_not]
  omega
theorem om (h : a < 2 ^ 30) : (!inZ ((-1 : Int32) - nI a).toInt 0 hi) = true := by
  have e : (-1 : Int32) - nI a = Int32.ofInt (-1 - (a : Int)) := by
    rw [show nI a = Int32.ofInt (a : Int) from Int32.ofInt_eq_ofNat.symm, Int32.ofInt_sub]
    rfl
  rw [e, Int32.toInt_ofInt_of_le (by omega) (by omega)]
  simp only [inZ, Bool.not_eq_true', decide_eq_false_iff_not]
  omega
theorem start_t (h : 0 < ρ 0) (h2 : ρ 0 < 2 ^ 31) : started ρ = true := startI_gt (by rw [← nI_0]; exact (nI_ltI (by decide) h2).mpr h)
theorem add3_now {j a b d v : Nat} (h : ρ 1 = 0) : addOk ρ j a b d v = 3 := by unfold addOk; rw [if_pos h]
theorem add3_no {j v : Nat} : addOk ρ j 0 0 0 v = 3 := by
  have h : mayHv ρ j 0 0 0 = false := by unfold mayHv; exact decide_eq_false (fun z => absurd z.1 (by decide))
  unfold addOk
  rw [h]
  (repeat' split) <;> first | rfl | contradiction
theorem ask3_over {j k n : Nat} (h : 0 < ρ 1) : askBad ρ j k n = 3 := by unfold askBad; rw [if_neg (by omega)]
theorem i64N (h : x < 2 ^ 31) : (nI x).toInt64 = Int64.ofInt (x : Int) := by
  have e : (nI x).toInt64.toInt = (x : Int) := by rw [Int32.toInt_toInt64, nI_toInt h]
  rw [← e, Int64.ofInt_toInt]
theorem sc1_out (h : x < 2 ^ 31) : ¬ (0 ≤ ((100000 : Int64) + (nI x).toInt64).toInt ∧ ((100000 : Int64) + (nI x).toInt64).toInt < 100000 * (((if 1 = 1 then 1 else if 1 = 2 then 100000 else 10000000000 : Nat)) : Int)) := by
  have e : ((100000 : Int64) + (nI x).toInt64).toInt = 100000 + (x : Int) := by
    rw [i64N h, show (100000 : Int64) = Int64.ofInt 100000 from rfl, ← Int64.ofInt_add, Int64.toInt_ofInt_of_le (by omega) (by omega)]
  rw [e, if_pos rfl]
  omega
theorem sc2_out (h : x < 2 ^ 31) : ¬ (0 ≤ ((-1 : Int64) - (nI x).toInt64).toInt ∧ ((-1 : Int64) - (nI x).toInt64).toInt < 100000 * (((if 2 = 1 then 1 else if 2 = 2 then 100000 else 10000000000 : Nat)) : Int)) := by
  have e : ((-1 : Int64) - (nI x).toInt64).toInt = -1 - (x : Int) := by
    rw [i64N h, show (-1 : Int64) = Int64.ofInt (-1) from rfl, ← Int64.ofInt_sub, Int64.toInt_ofInt_of_le (by omega) (by omega)]
  rw [e]
  omega
theorem errP_m1 (h : n < 2 ^ 31) : mw n = -1 ↔ n = 0 := by
  constructor
  · intro z
    rw [← mwN_0] at z
    exact mw_inj h (by decide) z
  · intro z; rw [z]; exact mwN_0
end LAW0
