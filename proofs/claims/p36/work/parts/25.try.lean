/-! changes that are left out if something forbids them -/
def tOffer (ρ : Nat → Nat) (k u v : Nat) : Nat := whyOffer ρ (k : Int) (u : Int) (v : Int)
def tJoin (ρ : Nat → Nat) (u v : Nat) : Nat := whyJoin ρ (u : Int) (v : Int)
def tVal (ρ : Nat → Nat) (b k v : Nat) : Nat := whyValue ρ (b : Int) (k : Int) (v : Int)
def tAsk (ρ : Nat → Nat) (b k n : Nat) : Nat := whyAsk ρ (b : Int) (k : Int) (n : Int)
def tBid (ρ : Nat → Nat) (b : Nat) : Nat := whyBid ρ (b : Int)
def tAdd (ρ : Nat → Nat) (b x y z v : Nat) : Nat := whyAdd ρ (b : Int) (x : Int) (y : Int) (z : Int) (v : Int)
def tDrop (ρ : Nat → Nat) (b i : Nat) : Nat := whyDrop ρ (b : Int) (i : Int)
def tSet (w v : Nat) : Nat := whySet (w : Int) (v : Int)
def dOffer (ρ : Nat → Nat) (k u v : Nat) : Nat → Nat := if tOffer ρ k u v = 0 then mOffer ρ k u v else ρ
def dJoin (ρ : Nat → Nat) (u v : Nat) : Nat → Nat := if tJoin ρ u v = 0 then mJoin ρ u v else ρ
def dVal (ρ : Nat → Nat) (b k v : Nat) : Nat → Nat := if tVal ρ b k v = 0 then mVal ρ b k v else ρ
def dAsk (ρ : Nat → Nat) (b k n : Nat) : Nat → Nat := if tAsk ρ b k n = 0 then mAsk ρ b k n else ρ
def dBid (ρ : Nat → Nat) (b : Nat) : Nat → Nat := if tBid ρ b = 0 then mBid ρ b else ρ
def dClose (ρ : Nat → Nat) : Nat → Nat := if whyClose ρ = 0 then mClose ρ else ρ
def dAdd (ρ : Nat → Nat) (b x y z v : Nat) : Nat → Nat := if tAdd ρ b x y z v = 0 then mAdd ρ b x y z v else ρ
def dDrop (ρ : Nat → Nat) (b i : Nat) : Nat → Nat := if tDrop ρ b i = 0 then mDrop ρ b i else ρ
def dSet (ρ : Nat → Nat) (w v : Nat) : Nat → Nat := if tSet w v = 0 then mSet ρ (w : Int) v else ρ
section OKS
variable {ρ : Nat → Nat}
theorem inz {x a b : Int} (h : ¬ (!inZ x a b) = true) : a ≤ x ∧ x ≤ b := by
  simp only [inZ, Bool.not_eq_true', decide_eq_false_iff_not, Classical.not_not] at h
  exact h
theorem ok_offer {k u v : Int} (h : whyOffer ρ k u v = 0) : (0 ≤ k ∧ k ≤ 2) ∧ (1 ≤ u ∧ u ≤ 9) ∧ (1 ≤ v ∧ v ≤ 9) ∧ ρ 4 = 0 ∧ started ρ = false := by
  unfold whyOffer at h
  by_cases h1 : (!inZ k 0 2) = true
  · rw [if_pos h1] at h; exact absurd h (by decide)
  rw [if_neg h1] at h
  by_cases h2 : (!inZ u 1 9) = true
  · rw [if_pos h2] at h; exact absurd h (by decide)
  rw [if_neg h2] at h
  by_cases h3 : (!inZ v 1 9) = true
  · rw [if_pos h3] at h; exact absurd h (by decide)
  rw [if_neg h3] at h
  by_cases h4 : started ρ = true
  · rw [if_pos h4] at h; exact absurd h (by decide)
  rw [if_neg h4] at h
  by_cases h5 : 0 < ρ 4
  · rw [if_pos h5] at h; exact absurd h (by decide)
  exact ⟨inz h1, inz h2, inz h3, by omega, by simpa using h4⟩
theorem ok_price {k v : Int} (h : whyPrice ρ k v = 0) : (0 ≤ k ∧ k ≤ 2) ∧ (1 ≤ v ∧ v ≤ 99999) := by
  unfold whyPrice at h
  by_cases h1 : (!inZ k 0 2) = true
  · rw [if_pos h1] at h; exact absurd h (by decide)
  rw [if_neg h1] at h
  by_cases h2 : (!inZ v 1 99999) = true
  · rw [if_pos h2] at h; exact absurd h (by decide)
  exact ⟨inz h1, inz h2⟩
theorem ok_join {u v : Int} (h : whyJoin ρ u v = 0) : (0 ≤ u ∧ u ≤ 99) ∧ (1 ≤ v ∧ v ≤ 9) ∧ ρ 4 < 6 := by
  unfold whyJoin at h
  by_cases h1 : (!inZ u 0 99) = true
  · rw [if_pos h1] at h; exact absurd h (by decide)
  rw [if_neg h1] at h
  by_cases h2 : (!inZ v 1 9) = true
  · rw [if_pos h2] at h; exact absurd h (by decide)
  rw [if_neg h2] at h
  by_cases h3 : 6 ≤ ρ 4
  · rw [if_pos h3] at h; exact absurd h (by decide)
  exact ⟨inz h1, inz h2, by omega⟩
theorem ok_value {b k v : Int} (h : whyValue ρ b k v = 0) : (0 ≤ b ∧ b < (ρ 4 : Int)) ∧ (0 ≤ k ∧ k ≤ 2) ∧ (0 ≤ v ∧ v ≤ 99999) := by
  unfold whyValue at h
  by_cases h1 : (!inZ b 0 ((ρ 4 : Int) - 1)) = true
  · rw [if_pos h1] at h; exact absurd h (by decide)
  rw [if_neg h1] at h
  by_cases h2 : (!inZ k 0 2) = true
  · rw [if_pos h2] at h; exact absurd h (by decide)
  rw [if_neg h2] at h
  by_cases h3 : (!inZ v 0 99999) = true
  · rw [if_pos h3] at h; exact absurd h (by decide)
  have := inz h1
  exact ⟨by omega, inz h2, inz h3⟩
theorem ok_ask {b k n : Int} (h : whyAsk ρ b k n = 0) : (0 ≤ b ∧ b < (ρ 4 : Int)) ∧ (0 ≤ k ∧ k ≤ 2) ∧ (0 ≤ n ∧ n ≤ 9) := by
  unfold whyAsk at h
  by_cases h1 : (!inZ b 0 ((ρ 4 : Int) - 1)) = true
  · rw [if_pos h1] at h; exact absurd h (by decide)
  rw [if_neg h1] at h
  by_cases h2 : (!inZ k 0 2) = true
  · rw [if_pos h2] at h; exact absurd h (by decide)
  rw [if_neg h2] at h
  by_cases h3 : (!inZ n 0 9) = true
  · rw [if_pos h3] at h; exact absurd h (by decide)
  have := inz h1
  exact ⟨by omega, inz h2, inz h3⟩
theorem ok_bid {b : Int} (h : whyBid ρ b = 0) : (0 ≤ b ∧ b < (ρ 4 : Int)) ∧ ρ 1 = 0 := by
  unfold whyBid at h
  by_cases h1 : (!inZ b 0 ((ρ 4 : Int) - 1)) = true
  · rw [if_pos h1] at h; exact absurd h (by decide)
  rw [if_neg h1] at h
  by_cases h2 : ρ 1 = 0
  · have := inz h1
    exact ⟨by omega, h2⟩
  · rw [if_neg h2] at h; exact absurd h (by decide)
theorem ok_close (h : whyClose ρ = 0) : ρ 1 = 0 := by
  unfold whyClose at h
  by_cases h2 : ρ 1 = 0
  · exact h2
  · rw [if_neg h2] at h; exact absurd h (by decide)
theorem ok_add {b x y z v : Int} (h : whyAdd ρ b x y z v = 0) : (0 ≤ b ∧ b < (ρ 4 : Int)) ∧ (0 ≤ x ∧ x ≤ 9) ∧ (0 ≤ y ∧ y ≤ 9) ∧ (0 ≤ z ∧ z ≤ 9) ∧ (1 ≤ v ∧ v ≤ 999999) ∧ ρ (22 + 21 * b.toNat) < 3 := by
  unfold whyAdd at h
  by_cases h1 : (!inZ b 0 ((ρ 4 : Int) - 1)) = true
  · rw [if_pos h1] at h; exact absurd h (by decide)
  rw [if_neg h1] at h
  by_cases h2 : (!inZ x 0 9) = true
  · rw [if_pos h2] at h; exact absurd h (by decide)
  rw [if_neg h2] at h
  by_cases h3 : (!inZ y 0 9) = true
  · rw [if_pos h3] at h; exact absurd h (by decide)
  rw [if_neg h3] at h
  by_cases h4 : (!inZ z 0 9) = true
  · rw [if_pos h4] at h; exact absurd h (by decide)
  rw [if_neg h4] at h
  by_cases h5 : (!inZ v 1 999999) = true
  · rw [if_pos h5] at h; exact absurd h (by decide)
  rw [if_neg h5] at h
  unfold addOk at h
  by_cases h6 : ρ 1 = 0
  · rw [if_pos h6] at h; exact absurd h (by decide)
  rw [if_neg h6] at h
  by_cases h7 : 3 ≤ ρ (22 + 21 * b.toNat)
  · rw [if_pos h7] at h; exact absurd h (by decide)
  have := inz h1
  exact ⟨by omega, inz h2, inz h3, inz h4, inz h5, by omega⟩
theorem ok_drop {b i : Int} (h : whyDrop ρ b i = 0) : (0 ≤ b ∧ b < (ρ 4 : Int)) ∧ (1 ≤ i ∧ i ≤ (ρ (22 + 21 * b.toNat) : Int)) := by
  unfold whyDrop at h
  by_cases h1 : (!inZ b 0 ((ρ 4 : Int) - 1)) = true
  · rw [if_pos h1] at h; exact absurd h (by decide)
  rw [if_neg h1] at h
  by_cases h2 : (!inZ i 1 (ρ (22 + 21 * b.toNat) : Int)) = true
  · rw [if_pos h2] at h; exact absurd h (by decide)
  have := inz h1
  exact ⟨by omega, inz h2⟩
theorem ok_set {w v : Int} (h : whySet w v = 0) : (w = 0 → 50 ≤ v ∧ v ≤ 100) ∧ (w ≠ 0 → w = 1 ∧ 1 ≤ v ∧ v ≤ 50) := by
  unfold whySet at h
  by_cases h1 : w = 0
  · rw [if_pos h1] at h
    by_cases h2 : (!inZ v 50 100) = true
    · rw [if_pos h2] at h; exact absurd h (by decide)
    · exact ⟨fun _ => inz h2, fun z => absurd h1 z⟩
  · rw [if_neg h1] at h
    by_cases h2 : w = 1
    · rw [if_pos h2] at h
      by_cases h3 : (!inZ v 1 50) = true
      · rw [if_pos h3] at h; exact absurd h (by decide)
      · exact ⟨fun z => absurd z h1, fun _ => ⟨h2, inz h3⟩⟩
    · rw [if_neg h2] at h; exact absurd h (by decide)
theorem okN_offer {k u v : Nat} (h : tOffer ρ k u v = 0) : k < 3 ∧ (1 ≤ u ∧ u ≤ 9) ∧ (1 ≤ v ∧ v ≤ 9) ∧ ρ 4 = 0 ∧ started ρ = false := by
  have := ok_offer (ρ := ρ) h; exact ⟨by omega, by omega, by omega, this.2.2.2⟩
theorem okN_join {u v : Nat} (h : tJoin ρ u v = 0) : u ≤ 99 ∧ (1 ≤ v ∧ v ≤ 9) ∧ ρ 4 < 6 := by have := ok_join (ρ := ρ) h; omega
theorem okN_value {b k v : Nat} (h : tVal ρ b k v = 0) : b < ρ 4 ∧ k < 3 ∧ v ≤ 99999 := by have := ok_value (ρ := ρ) h; omega
theorem okN_ask {b k n : Nat} (h : tAsk ρ b k n = 0) : b < ρ 4 ∧ k < 3 ∧ n ≤ 9 := by have := ok_ask (ρ := ρ) h; omega
theorem okN_bid {b : Nat} (h : tBid ρ b = 0) : b < ρ 4 ∧ ρ 1 = 0 := by have := ok_bid (ρ := ρ) h; omega
theorem okN_add {b x y z v : Nat} (h : tAdd ρ b x y z v = 0) : b < ρ 4 ∧ x ≤ 9 ∧ y ≤ 9 ∧ z ≤ 9 ∧ (1 ≤ v ∧ v ≤ 999999) ∧ ρ (22 + 21 * b) < 3 := by
  have := ok_add (ρ := ρ) h
  rw [Int.toNat_natCast] at this
  omega
theorem okN_drop {b i : Nat} (h : tDrop ρ b i = 0) : b < ρ 4 ∧ 1 ≤ i ∧ i ≤ ρ (22 + 21 * b) := by
  have := ok_drop (ρ := ρ) h
  rw [Int.toNat_natCast] at this
  omega
theorem okN_set {w v : Nat} (h : tSet w v = 0) : ((w : Int) = 0 → 50 ≤ v ∧ v ≤ 100) ∧ ((w : Int) ≠ 0 → w = 1 ∧ 1 ≤ v ∧ v ≤ 50) := by
  have := ok_set h; exact ⟨fun z => by have := this.1 z; omega, fun z => by have := this.2 z; omega⟩
theorem bsC_lt {j : Nat} (h : Inv ρ) : bsC ρ j < 1000 := by
  unfold bsC
  have : ∀ (P : Nat → Bool) (n : Nat), 0 < n → lastB P n < n := by
    intro P n
    induction n with
    | zero => intro h; omega
    | succ n ih =>
      intro _
      unfold lastB
      split
      · omega
      · rcases Nat.eq_zero_or_pos n with q | q
        · subst q; exact Nat.zero_lt_one
        · have := ih q; omega
  exact this _ 1000 (by decide)
theorem Inv_dOffer {k u v : Nat} (h : Inv ρ) : Inv (dOffer ρ k u v) := by
  unfold dOffer; split
  · have := okN_offer ‹_›; exact Inv_offer h this.1 this.2.1 this.2.2.1
  · exact h
theorem Inv_dJoin {u v : Nat} (h : Inv ρ) : Inv (dJoin ρ u v) := by
  unfold dJoin; split
  · have := okN_join ‹_›; exact Inv_join h this.2.2 this.1 this.2.1
  · exact h
theorem Inv_dVal {b k v : Nat} (h : Inv ρ) : Inv (dVal ρ b k v) := by
  unfold dVal; split
  · have := okN_value ‹_›; exact Inv_val h this.1 this.2.1 this.2.2
  · exact h
theorem Inv_dAsk {b k n : Nat} (h : Inv ρ) : Inv (dAsk ρ b k n) := by
  unfold dAsk; split
  · have := okN_ask ‹_›; exact Inv_ask h this.1 this.2.1 this.2.2
  · exact h
theorem Inv_dBid {b : Nat} (h : Inv ρ) : Inv (dBid ρ b) := by
  unfold dBid; split
  · have := okN_bid ‹_›; exact Inv_bid h this.1 (bsC_lt h)
  · exact h
theorem Inv_dClose (h : Inv ρ) : Inv (dClose ρ) := by
  unfold dClose; split
  · exact Inv_close h
  · exact h
theorem Inv_dAdd {b x y z v : Nat} (h : Inv ρ) : Inv (dAdd ρ b x y z v) := by
  unfold dAdd; split
  · have := okN_add ‹_›; exact Inv_add h this.1 this.2.2.2.2.2 this.2.1 this.2.2.1 this.2.2.2.1 this.2.2.2.2.1.2
  · exact h
theorem Inv_dDrop {b i : Nat} (h : Inv ρ) : Inv (dDrop ρ b i) := by
  unfold dDrop; split
  · have := okN_drop ‹_›; exact Inv_drop h this.1 this.2.1 this.2.2
  · exact h
theorem Inv_dSet {w v : Nat} (h : Inv ρ) : Inv (dSet ρ w v) := by
  unfold dSet; split
  · have := okN_set ‹_›; exact Inv_set h this.1 (fun z => (this.2 z).2)
  · exact h
theorem Inv_mBid {j : Nat} (h : Inv ρ) (hj : j < ρ 4) : Inv (mBid ρ j) := Inv_bid h hj (bsC_lt h)
theorem ask_le {j k n : Nat} (h : Inv ρ) (hj : j < ρ 4) (hk : k < 3) (hn : n ≤ 9) : act (mAsk ρ j k n) j ≤ 243 :=
  act_le (Inv_ask h hj hk hn) (by rw [show mAsk ρ j k n 4 = ρ 4 from setN_n (by omega)]; exact hj)
theorem scarce_le : scarce ρ ≤ 3 := by
  simp only [scarce, scar]
  (repeat' split) <;> omega
theorem why_not0 {n : Nat} {b : Bool} (h : n = 0) : nI 1 = b2i (decide (n = 0)) := by rw [h]; rfl
end OKS
/-- a command of a script in its five digits -/
def cOk (ρ : Nat → Nat) (w a b c d : Nat) : Bool :=
  if w = 1 then decide (d = 0 ∧ tAsk ρ a b c = 0) else if w = 2 then decide (b + c + d = 0 ∧ tBid ρ a = 0) else if w = 3 then decide (a + b + c + d = 0 ∧ whyClose ρ = 0)
  else if w = 4 then decide (tVal ρ a b (10 * (10 * c + d)) = 0) else if w = 5 then decide (b = 0 ∧ tSet a (10 * c + d) = 0) else if w = 6 then decide (c + d = 0 ∧ tDrop ρ a b = 0)
  else if w = 7 then decide (a < 3 ∧ 100 * b + 10 * c + d ≤ ρ (11 + a)) else if w = 8 then decide (b = 0 ∧ a < ρ 4 ∧ 10 * c + d ≤ ρ (14 + 21 * a)) else if w = 9 then decide (a + b + c + d = 0 ∧ ρ 1 = 1) else false
def cRow (ρ : Nat → Nat) (w a b c d : Nat) : Nat → Nat :=
  if w = 1 then (if d = 0 then dAsk ρ a b c else ρ) else if w = 2 then (if b + c + d = 0 then dBid ρ a else ρ) else if w = 3 then (if a + b + c + d = 0 then dClose ρ else ρ)
  else if w = 4 then dVal ρ a b (10 * (10 * c + d)) else if w = 5 then (if b = 0 then dSet ρ a (10 * c + d) else ρ) else if w = 6 then (if c + d = 0 then dDrop ρ a b else ρ) else ρ
def grpOk (ρ : Nat → Nat) (g : Nat) : Bool := cOk ρ (g / 10000) (g / 1000 % 10) (g / 100 % 10) (g / 10 % 10) (g % 10)
def grpRow (ρ : Nat → Nat) (g : Nat) : Nat → Nat := cRow ρ (g / 10000) (g / 1000 % 10) (g / 100 % 10) (g / 10 % 10) (g % 10)
/-- a turn of a simulation -/
def turnB (ρ : Nat → Nat) (r : Nat) : Nat := r / 16 % (if ρ 4 = 0 then 1 else ρ 4)
def turnRow (ρ : Nat → Nat) (r : Nat) : Nat → Nat :=
  if r % 16 = 0 then dJoin ρ (r / 16 % 20) (1 + r / 512 % 5) else if r % 16 < 4 then dVal ρ (turnB ρ r) (r / 128 % 3) (r / 512 % 100) else if r % 16 < 7 then dAsk ρ (turnB ρ r) (r / 128 % 3) (r / 512 % 4)
  else if r % 16 < 11 then dBid ρ (turnB ρ r) else if r % 16 < 14 then dClose ρ else dAdd ρ (turnB ρ r) (r / 512 % 3) (r / 2048 % 3) (r / 8192 % 3) (1 + r / 32768 % 200)
theorem Inv_cRow {ρ : Nat → Nat} {w a b c d : Nat} (h : Inv ρ) : Inv (cRow ρ w a b c d) := by
  unfold cRow
  (repeat' split) <;> first | exact h | exact Inv_dAsk h | exact Inv_dBid h | exact Inv_dClose h | exact Inv_dVal h | exact Inv_dSet h | exact Inv_dDrop h
theorem Inv_turn {ρ : Nat → Nat} {r : Nat} (h : Inv ρ) : Inv (turnRow ρ r) := by
  unfold turnRow
  (repeat' split) <;> first | exact Inv_dJoin h | exact Inv_dAsk h | exact Inv_dBid h | exact Inv_dClose h | exact Inv_dVal h | exact Inv_dAdd h
section WHYS
variable {ρ : Nat → Nat}
theorem whyOffer_le {k u v : Int} : whyOffer ρ k u v ≤ 3 := by unfold whyOffer; (repeat' split) <;> decide
theorem whyPrice_le {k v : Int} : whyPrice ρ k v ≤ 3 := by unfold whyPrice; (repeat' split) <;> decide
theorem whyJoin_le {u v : Int} : whyJoin ρ u v ≤ 3 := by unfold whyJoin; (repeat' split) <;> decide
theorem whyValue_le {b k v : Int} : whyValue ρ b k v ≤ 3 := by unfold whyValue; (repeat' split) <;> decide
theorem whyAsk_le {b k n : Int} : whyAsk ρ b k n ≤ 3 := by unfold whyAsk askBad; (repeat' split) <;> decide
theorem whyBid_le {b : Int} : whyBid ρ b ≤ 3 := by unfold whyBid; (repeat' split) <;> decide
theorem whyClose_le : whyClose ρ ≤ 3 := by unfold whyClose; (repeat' split) <;> decide
theorem whyAdd_le {b x y z v : Int} : whyAdd ρ b x y z v ≤ 3 := by unfold whyAdd addOk; (repeat' split) <;> decide
theorem whyDrop_le {b i : Int} : whyDrop ρ b i ≤ 3 := by unfold whyDrop; (repeat' split) <;> decide
theorem whySet_le {w v : Int} : whySet w v ≤ 3 := by unfold whySet; (repeat' split) <;> decide
theorem whyJoin_1 {u v : Int} : whyJoin ρ u v ≠ 1 := by unfold whyJoin; (repeat' split) <;> decide
theorem zn {x a b : Int} (h1 : a ≤ x) (h2 : x ≤ b) : ¬ (!inZ x a b) = true := by simp [inZ, h1, h2]
theorem tOffer_ok {k u v : Nat} (hk : k < 3) (hu : 1 ≤ u ∧ u ≤ 9) (hv : 1 ≤ v ∧ v ≤ 9) (h4 : ρ 4 = 0) (hs : started ρ = false) : tOffer ρ k u v = 0 := by
  unfold tOffer whyOffer
  rw [if_neg (zn (by omega) (by omega)), if_neg (zn (by omega) (by omega)), if_neg (zn (by omega) (by omega)), if_neg (by rw [hs]; decide), if_neg (by omega)]
theorem tBid_ok {b : Nat} (hb : b < ρ 4) (h1 : ρ 1 = 0) : tBid ρ b = 0 := by
  unfold tBid whyBid
  rw [if_neg (zn (by omega) (by omega)), if_pos h1]
theorem tDrop_ok {b i : Nat} (hb : b < ρ 4) (h1 : 1 ≤ i) (h2 : i ≤ ρ (22 + 21 * b)) : tDrop ρ b i = 0 := by
  unfold tDrop whyDrop
  rw [if_neg (zn (by omega) (by omega)), Int.toNat_natCast, if_neg (zn (by omega) (by omega))]
theorem nzF {n : Nat} {a b : Int} (h : (!inZ (nI n).toInt a b) = false) (hn : n < 2 ^ 31) : a ≤ (n : Int) ∧ (n : Int) ≤ b := by
  rw [nI_toInt hn] at h
  exact inz (by rw [h]; decide)
theorem nzT {n : Nat} {a b : Int} (h : (!inZ (nI n).toInt a b) = true) (hn : n < 2 ^ 31) : ¬ (a ≤ (n : Int) ∧ (n : Int) ≤ b) := by
  rw [nI_toInt hn] at h
  intro z; simp [inZ, z.1, z.2] at h
theorem pzT {n : Nat} {a b : Int} (h : inZ (nI n).toInt a b = true) (hn : n < 2 ^ 31) : a ≤ (n : Int) ∧ (n : Int) ≤ b := by
  rw [nI_toInt hn] at h
  simpa [inZ] using h
theorem pzF {n : Nat} {a b : Int} (h : inZ (nI n).toInt a b = false) (hn : n < 2 ^ 31) : ¬ (a ≤ (n : Int) ∧ (n : Int) ≤ b) := by
  rw [nI_toInt hn] at h
  intro z; simp [inZ, z.1, z.2] at h
theorem canDr_eq {b i : Nat} (hb : b < 2 ^ 31) (hi : i < 2 ^ 31) : canDr ρ (nI b).toInt (nI i).toInt = decide (tDrop ρ b i = 0) := by
  rw [nI_toInt hb, nI_toInt hi]
  unfold canDr
  rw [Int.toNat_natCast]
  by_cases h : tDrop ρ b i = 0
  · have := okN_drop h
    rw [decide_eq_true h]
    simp [inZ]
    omega
  · rw [decide_eq_false h]
    by_cases h1 : b < ρ 4
    · have h2 : ¬ (1 ≤ i ∧ i ≤ ρ (22 + 21 * b)) := fun z => h (tDrop_ok h1 z.1 z.2)
      simp [inZ]
      omega
    · simp [inZ]
      omega
theorem isSet_eq {w v : Nat} (hw : w < 2 ^ 31) (hv : v < 2 ^ 31) : isSet (nI w).toInt (nI v).toInt = decide (tSet w v = 0) := by
  rw [nI_toInt hw, nI_toInt hv]
  unfold isSet tSet whySet
  by_cases h0 : (w : Int) = 0
  · rw [if_pos h0, decide_eq_true h0]
    by_cases h1 : (50 : Int) ≤ v ∧ (v : Int) ≤ 100
    · have : inZ (v : Int) 50 100 = true := by simp only [inZ, decide_eq_true h1]
      rw [this]; simp
    · have : inZ (v : Int) 50 100 = false := by simp only [inZ, decide_eq_false h1]
      rw [this]
      simp only [h0]
      simp
  · rw [if_neg h0, decide_eq_false h0]
    by_cases h2 : (w : Int) = 1
    · rw [if_pos h2, decide_eq_true h2]
      by_cases h1 : (1 : Int) ≤ v ∧ (v : Int) ≤ 50
      · have : inZ (v : Int) 1 50 = true := by simp only [inZ, decide_eq_true h1]
        rw [this]; simp
      · have : inZ (v : Int) 1 50 = false := by simp only [inZ, decide_eq_false h1]
        rw [this]; simp
    · rw [if_neg h2, decide_eq_false h2]
      simp
end WHYS
