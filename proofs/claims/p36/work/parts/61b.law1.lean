/-! sums over the bidders, as 'holds' makes them -/
def hW (ρ : Nat → Nat) (n : Nat) : Nat := sumB (fun b => wOf ρ b (choA ρ 0 0 b)) n
def hC (ρ : Nat → Nat) (n : Nat) : Nat := sumB (fun b => worOf ρ b 0) n
def hL (ρ : Nat → Nat) (k n : Nat) : Nat := sumB (fun b => lOf ρ b (choA ρ 0 0 b) k) n
def aP (ρ : Nat → Nat) (b n : Nat) : Nat := sumB (fun k => ρ (19 + 21 * b + k) * ρ (8 + k)) n
def nZ (ρ : Nat → Nat) : Nat := if ρ 4 = 0 then 1 else 0
def hCt (ρ : Nat → Nat) (ct : Nat) : Nat := if ρ 1 = 0 ∧ 0 < ρ 4 then min (min (ct + 1) 14 + 1) 14 - 1 - 1 else ct
def hRr (ρ : Nat → Nat) (nx : Nat) (rr : Nat → Nat → Nat) (x : Nat) : Nat → Nat → Nat := if ρ 1 = 0 ∧ 0 < ρ 4 then setR (setR rr nx ρ) (nxt nx) (mBid ρ (x / 8 % ρ 4)) else rr
section LAW1
variable {ρ : Nat → Nat} {b k c p n x : Nat}
theorem hW_1 : hW ρ (1 + b) = hW ρ b + wOf ρ b (choA ρ 0 0 b) := sumB_1 _ _
theorem hC_1 : hC ρ (1 + b) = hC ρ b + worOf ρ b 0 := sumB_1 _ _
theorem hL_1 : hL ρ k (1 + b) = hL ρ k b + lOf ρ b (choA ρ 0 0 b) k := sumB_1 _ _
theorem aP_1 : aP ρ b (1 + k) = aP ρ b k + ρ (19 + 21 * b + k) * ρ (8 + k) := sumB_1 _ _
theorem aP_3 : aP ρ b 3 = act ρ b := by
  show 0 + ρ (19 + 21 * b + 0) * ρ (8 + 0) + ρ (19 + 21 * b + 1) * ρ (8 + 1) + ρ (19 + 21 * b + 2) * ρ (8 + 2) = _
  unfold act
  rw [show 19 + 21 * b + 1 = 20 + 21 * b by omega, show 19 + 21 * b + 2 = 21 + 21 * b by omega, Nat.zero_add, Nat.mul_comm (ρ 8), Nat.mul_comm (ρ 9), Nat.mul_comm (ρ 10)]
  rfl
theorem hW_end (hI : Inv ρ) : hW ρ (ρ 4) = worA ρ 0 0 := sum_w hI
theorem hC_end : hC ρ (ρ 4) = allCost ρ := sum_cost
theorem hL_end (hI : Inv ρ) (hk : k < 3) : hL ρ k (ρ 4) ≤ ρ (5 + k) := sum_l hI hk
theorem allCost_b (hI : Inv ρ) : allCost ρ ≤ 16199838 := by
  have a0 := askedOf_le hI (k := 0) (by decide)
  have a1 := askedOf_le hI (k := 1) (by decide)
  have a2 := askedOf_le hI (k := 2) (by decide)
  have m0 := Nat.mul_le_mul a0 (hI.pri (q := 11) (k := 0) (by decide) rfl).2
  have m1 := Nat.mul_le_mul a1 (hI.pri (q := 12) (k := 1) (by decide) rfl).2
  have m2 := Nat.mul_le_mul a2 (hI.pri (q := 13) (k := 2) (by decide) rfl).2
  unfold allCost
  omega
theorem cho_5 : choA ρ 0 0 b < 5 := dP_5
theorem cho_ok (hI : Inv ρ) (hb : b < ρ 4) : choA ρ 0 0 b ≤ ρ (22 + 21 * b) + 1 := choA_ok hI (by decide) hb
theorem wOf_p (h : 0 < c) : worOf ρ b (c - 1) = wOf ρ b c := by unfold wOf; rw [if_neg (by omega)]
theorem wOf_z (h : c = 0) : (0 : Nat) = wOf ρ b c := by unfold wOf; rw [if_pos h]
theorem lOf_p (h : 0 < c) : lotOf ρ b (c - 1) k = lOf ρ b c k := by unfold lOf; rw [if_neg (by omega)]
theorem lOf_z (h : c = 0) : (0 : Nat) = lOf ρ b c k := by unfold lOf; rw [if_pos h]
theorem gets_ok (hc : c < 5) (hp : p ≤ 3) (h : c ≤ p + 1) : ¬ nI p < mw c := by
  rw [Int32.lt_iff_toInt_lt, nI_toInt (by omega), mw_toInt (by omega)]
  omega
theorem wOf_b (hI : Inv ρ) (hb : b < ρ 4) : wOf ρ b (choA ρ 0 0 b) ≤ 2699973 := wOf_le hI hb (cho_ok hI hb)
theorem nZ_1 (h : mw (lmS ρ (ρ 4)).1 = -1) (hI : Inv ρ) : (1 : Nat) = nZ ρ := by
  have h6 := hI.n6
  have h1 := (lmS_le hI (b := ρ 4)).1
  have h2 := (errP_m1 (n := (lmS ρ (ρ 4)).1) (by omega)).mp h
  unfold nZ
  rcases Nat.eq_zero_or_pos (ρ 4) with q | q
  · rw [if_pos q]
  · have := lmS_pos (ρ := ρ) q
    omega
theorem nZ_0 (h : ¬ mw (lmS ρ (ρ 4)).1 = -1) : (0 : Nat) = nZ ρ := by
  unfold nZ
  rcases Nat.eq_zero_or_pos (ρ 4) with q | q
  · exact absurd (by rw [q]; exact mwN_0) h
  · rw [if_neg (by omega)]
theorem nZ_le : nZ ρ ≤ 1 := by unfold nZ; split <;> omega
theorem rl_over (h : ρ 1 ≠ 0) : rlV ρ = nI 0 := by
  unfold rlV
  rw [end_over h, if_neg h]
theorem rl_not (h : ¬ rlV ρ = -1) : rlV ρ = nI (endR ρ).2 := by
  unfold rlV at h ⊢
  by_cases c : (endR ρ).1 1 = 0
  · rw [if_pos c] at h; exact absurd mwN_0 h
  · rw [if_neg c]
theorem end_le : (endR ρ).2 ≤ 200 := by
  have := runE_le (f := 200) (ρ := ρ) (i := 0)
  unfold endR
  omega
theorem bid_1 : mBid ρ b 1 = ρ 1 := mDem_o (by omega)
theorem end_b (hI : Inv ρ) (hk : k < 3) : (endR ρ).1 (11 + k) ≤ 99999 := ((Inv_runE hI).pri (q := 11 + k) hk rfl).2
end LAW1
