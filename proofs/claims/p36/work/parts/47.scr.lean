/-! scripts and simulations -/
def rsL : (Nat → Nat) → Nat → List Nat → Nat
  | _, _, [] => 0
  | ρ, i, g :: r => if grpOk ρ g = true then rsL (grpRow ρ g) (1 + i) r else 1 + i
def gsN (n sn : Nat) : List Nat := if n = 1 then [sn / 1 % 100000] else if n = 2 then [sn / 100000 % 100000, sn / 1 % 100000] else [sn / 10000000000 % 100000, sn / 100000 % 100000, sn / 1 % 100000]
def rsV (ρ : Nat → Nat) (n sn : Nat) : Int32 := mw (rsL ρ 0 (gsN n sn))
theorem Inv_grp {ρ : Nat → Nat} {g : Nat} (h : Inv ρ) : Inv (grpRow ρ g) := by unfold grpRow; exact Inv_cRow h
theorem lNt {n : Nat} (h : n < 2 ^ 63) : (lN n).toInt = (n : Int) := by
  show (Int64.ofNat n).toInt = _
  rw [← Int64.ofInt_eq_ofNat, Int64.toInt_ofInt_of_le (by omega) (by omega)]
theorem lN_cmp0 {a : Nat} (h : a < 2 ^ 63) : ¬ lg_cmp (lN a) 0 < 0 := by
  rw [lg_cmp_lt, Int64.lt_iff_toInt_lt, lNt h, show (0 : Int64).toInt = 0 from rfl]; omega
theorem lN_cmp {a b : Nat} (h : a < b) (hb : b < 2 ^ 63) : lg_cmp (lN a) (lN b) < 0 := by
  rw [lg_cmp_lt, Int64.lt_iff_toInt_lt, lNt (by omega), lNt hb]; omega
theorem lN_cmp1 {a : Nat} (h0 : 0 < a) (h : a < 2 ^ 63) : ¬ lg_cmp (lN a) 0 ≤ 0 := by
  rw [lg_cmp_le, Int64.le_iff_toInt_le, lNt h, show (0 : Int64).toInt = 0 from rfl]; omega
theorem lN_div {a b : Nat} (ha : a < 2 ^ 63) (hb : b < 2 ^ 63) : lN a / lN b = lN (a / b) := (Int64.ofNat_div ha hb).symm
theorem lN_mul9 {a b : Nat} : lN a * lN b = lN (a * b) := (Int64.ofNat_mul a b).symm
theorem lN_rem {a b : Nat} (ha : a < 2 ^ 63) (hb : b < 2 ^ 63) : lN a - lN a / lN b * lN b = lN (a % b) := by
  rw [lN_div ha hb, lN_mul9]
  have h1 : a / b * b ≤ a := Nat.div_mul_le_self a b
  show Int64.ofNat a - Int64.ofNat (a / b * b) = Int64.ofNat (a % b)
  rw [← Int64.ofNat_sub _ _ h1]
  congr 1
  have := Nat.div_add_mod a b
  rw [Nat.mul_comm] at this
  omega
theorem lN_i9 {a : Nat} : (lN a).toInt32 = nI a := by
  show (Int64.ofNat a).toInt32 = Int32.ofNat a
  rw [← Int64.ofInt_eq_ofNat, Int64.toInt32_ofInt]
  exact Int32.ofInt_eq_ofNat
def simX (x : Int64) : Int64 := x * 6364136223846793005 + 1442695040888963407
def simN (x : Int64) : Nat := (x.toUInt64 >>> 33).toNat
def simT (q : Int64 × (Nat → Nat)) : Int64 × (Nat → Nat) := (simX q.1, turnRow q.2 (simN (simX q.1)))
def itN {α : Type} (f : α → α) : Nat → α → α
  | 0, a => a
  | k + 1, a => itN f k (f a)
theorem itN_s {α : Type} {f : α → α} {k : Nat} {a : α} : itN f (k + 1) a = itN f k (f a) := rfl
def simR (k : Nat) (x : Int64) (ρ : Nat → Nat) : Nat → Nat := (itN simT k (x, ρ)).2
theorem simN_lt {x : Int64} : simN x < 2 ^ 31 := by
  unfold simN
  rw [UInt64.toNat_shiftRight]
  have := x.toUInt64.toNat_lt
  rw [show (33 : UInt64).toNat % 64 = 33 from rfl, Nat.shiftRight_eq_div_pow]
  omega
theorem simN_i {x : Int64} : ((x.toUInt64 >>> ((nI 33).toInt64.toUInt64 &&& Int64.toUInt64 63)).toInt64).toInt32 = nI (simN x) := by
  rw [show ((nI 33).toInt64.toUInt64 &&& Int64.toUInt64 63) = (33 : UInt64) from rfl]
  unfold simN
  generalize x.toUInt64 >>> 33 = y
  have e : y.toInt64 = lN y.toNat := by
    apply Int64.toBitVec_inj.mp
    show y.toBitVec = (Int64.ofNat y.toNat).toBitVec
    simp
  rw [e, lN_i9]
theorem simT_eq {x : Int64} {ρ : Nat → Nat} : simT (x, ρ) = (simX x, turnRow ρ (simN (simX x))) := rfl
theorem sim_1 {k i : Nat} {x : Int64} {ρ : Nat → Nat} (h : i < k) : simR (k - i) x ρ = simR (k - (1 + i)) (simX x) (turnRow ρ (simN (simX x))) := by
  unfold simR
  rw [show k - i = (k - (1 + i)) + 1 by omega, itN_s, simT_eq]
def simV (ρ σ : Nat → Nat) : Int32 := nI 1000 * (nI (σ 0) - nI (ρ 0)) + nI (allDem σ)
theorem gs1 {sn : Nat} : gsN 1 sn = [sn / 1 % 100000] := rfl
theorem gs2 {sn : Nat} : gsN 2 sn = [sn / 100000 % 100000, sn / 1 % 100000] := rfl
theorem gs3 {sn : Nat} : gsN 3 sn = [sn / 10000000000 % 100000, sn / 100000 % 100000, sn / 1 % 100000] := rfl
theorem rsL_t {ρ : Nat → Nat} {i g : Nat} {r : List Nat} (h : grpOk ρ g = true) : rsL ρ i (g :: r) = rsL (grpRow ρ g) (1 + i) r := if_pos h
theorem rsL_f {ρ : Nat → Nat} {i g : Nat} {r : List Nat} (h : grpOk ρ g = false) : rsL ρ i (g :: r) = 1 + i := if_neg (by rw [h]; decide)
theorem rsL_n {ρ : Nat → Nat} {i : Nat} : rsL ρ i [] = 0 := rfl
theorem rs_in {sc : Int64} {u : Nat} (h1 : ¬ lg_cmp sc 0 < 0) (h2 : lg_cmp (sc / 100000) (lN u) < 0) (hu : u ≤ 10000000000) : 0 ≤ sc.toInt ∧ sc.toInt < 100000 * (u : Int) := by
  rw [lg_cmp_lt, Int64.lt_iff_toInt_lt, show (0 : Int64).toInt = 0 from rfl] at h1
  rw [lg_cmp_lt, Int64.lt_iff_toInt_lt, lNt (by omega)] at h2
  have h3 := sc.toInt_lt
  obtain ⟨k, hk⟩ : ∃ k : Nat, sc.toInt = k := ⟨sc.toInt.toNat, by omega⟩
  have e : sc = lN k := by
    apply Int64.toInt_inj.mp
    rw [lNt (by omega), hk]
  rw [e, show (100000 : Int64) = lN 100000 from rfl, lN_div (by omega) (by decide), lNt (by omega)] at h2
  rw [hk]
  omega
