theorem inJ {n x lo hi : Nat} (hx : x < 256) (hl : lo < 10) (hh : hi < 10) : inZ (nI x - nI 48).toInt64.toInt (nI lo).toInt64.toInt (nI hi).toInt64.toInt = decide (lo + 48 ≤ x ∧ x ≤ hi + 48) := by
  rw [Int32.toInt_toInt64, Int32.toInt_toInt64, Int32.toInt_toInt64, pk_sub_toInt (by omega) (by decide), nI_toInt (by omega), nI_toInt (by omega)]
  unfold inZ
  congr 1
  apply propext
  omega
theorem inJm {lo hi : Nat} (hl : lo < 10) (hh : hi < 10) : inZ (mw 0).toInt64.toInt (nI lo).toInt64.toInt (nI hi).toInt64.toInt = false := by
  rw [Int32.toInt_toInt64, Int32.toInt_toInt64, Int32.toInt_toInt64, mw_toInt (by decide), nI_toInt (by omega), nI_toInt (by omega)]
  exact decide_eq_false (by omega)
