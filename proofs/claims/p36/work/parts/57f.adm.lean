section ADM
variable {ρ σ : Nat → Nat} {j k i b u v a d n x y z B C : Nat}
/-- a demand that may be asked for -/
theorem ask_fea (hI : Inv ρ) (hj : j < ρ 4) (hk : k < 3) (hn : n ≤ 9) (h : askBad ρ j k n = 0) : n ≤ most ρ j k ∧ act (mAsk ρ j k n) j ≤ ρ (14 + 21 * j) := by
  unfold askBad at h
  by_cases h1 : ρ 1 = 0
  · rw [if_pos h1] at h
    by_cases h2 : n ≤ most ρ j k
    · rw [if_pos h2] at h
      by_cases h3 : nI (act ρ j) + (nI n - nI (ρ (19 + 21 * j + k))) * nI (ρ (8 + k)) ≤ nI (ρ (14 + 21 * j))
      · refine ⟨h2, ?_⟩
        have hd := hI.dem (q := 19 + 21 * j + k) hj hk rfl
        have hp := (hI.pts (q := 8 + k) hk rfl).2
        have hr := hI.rgt (q := 14 + 21 * j) hj rfl
        have ha := act_le hI hj
        have e : ∀ n : Nat, nI n = Int32.ofInt (n : Int) := fun n => Int32.ofInt_eq_ofNat.symm
        have hE : act (mAsk ρ j k n) j + ρ (8 + k) * ρ (19 + 21 * j + k) = act ρ j + ρ (8 + k) * n := by
          refine k3 (P := fun k => act (mAsk ρ j k n) j + ρ (8 + k) * ρ (19 + 21 * j + k) = act ρ j + ρ (8 + k) * n) hk ?_ ?_ ?_
          · unfold act mAsk
            rw [show 19 + 21 * j + 0 = 19 + 21 * j from rfl, setN_s, setN_n (by omega), setN_n (by omega), setN_n (by omega), setN_n (by omega), setN_n (by omega)]
            show ρ 8 * n + _ + _ + ρ 8 * _ = _ + ρ 8 * n
            omega
          · unfold act mAsk
            rw [show 20 + 21 * j = 19 + 21 * j + 1 by omega, setN_s, setN_n (by omega), setN_n (by omega), setN_n (by omega), setN_n (by omega), setN_n (by omega)]
            show _ + ρ 9 * n + _ + ρ 9 * _ = _ + ρ 9 * n
            omega
          · unfold act mAsk
            rw [show 21 + 21 * j = 19 + 21 * j + 2 by omega, setN_s, setN_n (by omega), setN_n (by omega), setN_n (by omega), setN_n (by omega), setN_n (by omega)]
            show _ + _ + ρ 10 * n + ρ 10 * _ = _ + ρ 10 * n
            omega
        have hX : (nI (act ρ j) + (nI n - nI (ρ (19 + 21 * j + k))) * nI (ρ (8 + k))) = Int32.ofInt ((act ρ j : Int) + ((n : Int) - (ρ (19 + 21 * j + k) : Int)) * (ρ (8 + k) : Int)) := by
          simp only [e, Int32.ofInt_add, Int32.ofInt_mul, Int32.ofInt_sub]
        have hY : ((n : Int) - (ρ (19 + 21 * j + k) : Int)) * (ρ (8 + k) : Int) = (ρ (8 + k) * n : Nat) - (ρ (8 + k) * ρ (19 + 21 * j + k) : Nat) := by
          rw [Int.sub_mul, Int.natCast_mul, Int.natCast_mul, Int.mul_comm, Int.mul_comm (ρ (19 + 21 * j + k) : Int)]
        have m1 : ρ (8 + k) * n ≤ 81 := Nat.mul_le_mul hp hn
        have m2 : ρ (8 + k) * ρ (19 + 21 * j + k) ≤ 81 := Nat.mul_le_mul hp hd
        rw [hX, hY, e, Int32.le_iff_toInt_le, Int32.toInt_ofInt_of_le (by omega) (by omega), Int32.toInt_ofInt_of_le (by omega) (by omega)] at h3
        omega
      · rw [if_neg h3] at h; exact absurd h (by decide)
    · rw [if_neg h2] at h; exact absurd h (by decide)
  · rw [if_neg h1] at h; exact absurd h (by decide)
theorem tAsk_bad (h : tAsk ρ j k n = 0) : askBad ρ j k n = 0 := by
  have ho := okN_ask h
  unfold tAsk whyAsk at h
  rw [if_neg (zn (by omega) (by omega)), if_neg (zn (by omega) (by omega)), if_neg (zn (by omega) (by omega))] at h
  exact h
end ADM
