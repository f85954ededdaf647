/-! the auction as one row of numbers: 0 rounds, 1 over, 2 3 settings, 4 bidders, 5 supply, 8 points, 11 price, 14 + 21 b the bidder b: right, cap, 3 values, 3 demands, packages, 3 packages of 4 -/
theorem b2i_fit (b : Bool) : fits .boolean (.int (b2i b)) = true := by cases b <;> rfl
theorem b2i_vnar (b : Bool) : vp_nar .boolean (b2i b) = b2i b := by cases b <;> rfl
def supF (ρ : Nat → Nat) : Nat → Nat := fun k => ρ (5 + k)
def ptsF (ρ : Nat → Nat) : Nat → Nat := fun k => ρ (8 + k)
def priF (ρ : Nat → Nat) : Nat → Nat := fun k => ρ (11 + k)
def rgtF (ρ : Nat → Nat) (γ : Nat → Nat → Nat) : Nat → Nat := fun b => if b < ρ 4 then ρ (14 + 21 * b) else γ 3 b
def capF (ρ : Nat → Nat) (γ : Nat → Nat → Nat) : Nat → Nat := fun b => if b < ρ 4 then ρ (15 + 21 * b) else γ 4 b
def pckF (ρ : Nat → Nat) (γ : Nat → Nat → Nat) : Nat → Nat := fun b => if b < ρ 4 then ρ (22 + 21 * b) else γ 5 b
def valF (ρ : Nat → Nat) (γ : Nat → Nat → Nat) : Nat → Nat := fun c => if c / 3 < ρ 4 then ρ (16 + 21 * (c / 3) + c % 3) else γ 6 c
def demF (ρ : Nat → Nat) (γ : Nat → Nat → Nat) : Nat → Nat := fun c => if c / 3 < ρ 4 then ρ (19 + 21 * (c / 3) + c % 3) else γ 7 c
def lotF (ρ : Nat → Nat) (γ : Nat → Nat → Nat) : Nat → Nat := fun c => if c / 9 < ρ 4 ∧ c / 3 % 3 < ρ (22 + 21 * (c / 9)) then ρ (23 + 21 * (c / 9) + 4 * (c / 3 % 3) + c % 3) else γ 8 c
def worF (ρ : Nat → Nat) (γ : Nat → Nat → Nat) : Nat → Nat := fun q => if q / 3 < ρ 4 ∧ q % 3 < ρ (22 + 21 * (q / 3)) then ρ (26 + 21 * (q / 3) + 4 * (q % 3)) else γ 9 q
def aucR (Y : Nat → Nat) (h : Nat) (f0 f1 f2 f3 f4 f5 f6 f7 f8 f9 : Nat → Nat) (n r o u v : Nat) : va_W := [(h, .inr (1, [.ref (h + 1), .ref (h + 2), .ref (h + 3), .ref (h + 4), .ref (h + 5), .ref (h + 6), .ref (h + 7), .ref (h + 8), .ref (h + 9), .ref (h + 10), .int (nI n), .int (nI r), .int (nI o), .int (nI u), .int (nI v)])), (h + 1, .inl (Y 0, 3, .inl (rowF f0))), (h + 2, .inl (Y 0, 3, .inl (rowF f1))), (h + 3, .inl (Y 0, 3, .inl (rowF f2))), (h + 4, .inl (Y 0, 6, .inl (rowF f3))), (h + 5, .inl (Y 0, 6, .inl (rowF f4))), (h + 6, .inl (Y 0, 6, .inl (rowF f5))), (h + 7, .inl (Y 0, 18, .inl (rowF f6))), (h + 8, .inl (Y 0, 18, .inl (rowF f7))), (h + 9, .inl (Y 0, 54, .inl (rowF f8))), (h + 10, .inl (Y 0, 18, .inl (rowF f9)))]
def aucW (Y : Nat → Nat) (h : Nat) (ρ : Nat → Nat) (γ : Nat → Nat → Nat) : va_W := aucR Y h (supF ρ) (ptsF ρ) (priF ρ) (rgtF ρ γ) (capF ρ γ) (pckF ρ γ) (valF ρ γ) (demF ρ γ) (lotF ρ γ) (worF ρ γ) (ρ 4) (ρ 0) (ρ 1) (ρ 2) (ρ 3)
/-- what every row keeps: bounds by the place -/
def hiA (q : Nat) : Nat := [0, 1, 100, 50, 6, 9, 9, 9, 9, 9, 9, 99999, 99999, 99999].getD q 0
def hiC (o : Nat) : Nat := [99, 9, 99999, 99999, 99999, 9, 9, 9, 3, 9, 9, 9, 999999, 9, 9, 9, 999999, 9, 9, 9, 999999].getD o 0
def loA (q : Nat) : Nat := [0, 0, 50, 1, 0, 1, 1, 1, 1, 1, 1, 1, 1, 1].getD q 0
def hiB (q : Nat) : Nat := if q < 14 then hiA q else hiC ((q - 14) % 21)
def loB (q : Nat) : Nat := if q < 14 then loA q else if (q - 14) % 21 = 1 then 1 else 0
theorem hiB_b {q o N : Nat} (h : 14 ≤ q) (e : (q - 14) % 21 = o) (hN : hiC o ≤ N) : hiB q ≤ N := by
  unfold hiB; rw [if_neg (by omega), e]; exact hN
theorem k3 {P : Nat → Prop} {k : Nat} (h : k < 3) (h0 : P 0) (h1 : P 1) (h2 : P 2) : P k := by
  rcases (show k = 0 ∨ k = 1 ∨ k = 2 by omega) with rfl | rfl | rfl
  · exact h0
  · exact h1
  · exact h2
def Inv (ρ : Nat → Nat) : Prop := (∀ q, 1 ≤ q → q < 140 → ρ q ≤ hiB q) ∧ (∀ q, q < 14 → loB q ≤ ρ q) ∧ (∀ b, b < ρ 4 → 1 ≤ ρ (15 + 21 * b)) ∧ (∀ b, ρ 4 ≤ b → b < 6 → ∀ q, 16 + 21 * b ≤ q → q < 23 + 21 * b → ρ q = 0)
section INV
variable {ρ : Nat → Nat} {γ : Nat → Nat → Nat} {j k i c q : Nat}
theorem Inv.up (h : Inv ρ) {N : Nat} (h1 : 1 ≤ q) (h2 : q < 140) (e : hiB q ≤ N) : ρ q ≤ N := Nat.le_trans (h.1 q h1 h2) e
theorem Inv.dn (h : Inv ρ) {N : Nat} (h2 : q < 14) (e : N ≤ loB q) : N ≤ ρ q := Nat.le_trans e (h.2.1 q h2)
theorem Inv.over (h : Inv ρ) : ρ 1 ≤ 1 := h.up (by decide) (by decide) (by decide)
theorem Inv.keep (h : Inv ρ) : 50 ≤ ρ 2 ∧ ρ 2 ≤ 100 := ⟨h.dn (by decide) (by decide), h.up (by decide) (by decide) (by decide)⟩
theorem Inv.stepp (h : Inv ρ) : 1 ≤ ρ 3 ∧ ρ 3 ≤ 50 := ⟨h.dn (by decide) (by decide), h.up (by decide) (by decide) (by decide)⟩
theorem Inv.n6 (h : Inv ρ) : ρ 4 ≤ 6 := h.up (by decide) (by decide) (by decide)
theorem Inv.sup (h : Inv ρ) (hk : k < 3) (e : q = 5 + k) : 1 ≤ ρ q ∧ ρ q ≤ 9 := by
  subst e
  exact ⟨h.dn (by omega) (k3 (P := fun k => 1 ≤ loB (5 + k)) hk (by decide) (by decide) (by decide)), h.up (by omega) (by omega) (k3 (P := fun k => hiB (5 + k) ≤ 9) hk (by decide) (by decide) (by decide))⟩
theorem Inv.pts (h : Inv ρ) (hk : k < 3) (e : q = 8 + k) : 1 ≤ ρ q ∧ ρ q ≤ 9 := by
  subst e
  exact ⟨h.dn (by omega) (k3 (P := fun k => 1 ≤ loB (8 + k)) hk (by decide) (by decide) (by decide)), h.up (by omega) (by omega) (k3 (P := fun k => hiB (8 + k) ≤ 9) hk (by decide) (by decide) (by decide))⟩
theorem Inv.pri (h : Inv ρ) (hk : k < 3) (e : q = 11 + k) : 1 ≤ ρ q ∧ ρ q ≤ 99999 := by
  subst e
  exact ⟨h.dn (by omega) (k3 (P := fun k => 1 ≤ loB (11 + k)) hk (by decide) (by decide) (by decide)), h.up (by omega) (by omega) (k3 (P := fun k => hiB (11 + k) ≤ 99999) hk (by decide) (by decide) (by decide))⟩
theorem Inv.rgt (h : Inv ρ) (hj : j < ρ 4) (e : q = 14 + 21 * j) : ρ q ≤ 99 := by have := h.n6; exact h.up (by omega) (by omega) (hiB_b (o := 0) (by omega) (by omega) (by decide))
theorem Inv.cap (h : Inv ρ) (hj : j < ρ 4) (e : q = 15 + 21 * j) : 1 ≤ ρ q ∧ ρ q ≤ 9 := by have := h.n6; exact ⟨by rw [e]; exact h.2.2.1 j hj, h.up (by omega) (by omega) (hiB_b (o := 1) (by omega) (by omega) (by decide))⟩
theorem Inv.val (h : Inv ρ) (hj : j < ρ 4) (hk : k < 3) (e : q = 16 + 21 * j + k) : ρ q ≤ 99999 := by have := h.n6; exact h.up (by omega) (by omega) (hiB_b (o := 2 + k) (by omega) (by omega) (k3 (P := fun k => hiC (2 + k) ≤ 99999) hk (by decide) (by decide) (by decide)))
theorem Inv.dem (h : Inv ρ) (hj : j < ρ 4) (hk : k < 3) (e : q = 19 + 21 * j + k) : ρ q ≤ 9 := by have := h.n6; exact h.up (by omega) (by omega) (hiB_b (o := 5 + k) (by omega) (by omega) (k3 (P := fun k => hiC (5 + k) ≤ 9) hk (by decide) (by decide) (by decide)))
theorem Inv.pck (h : Inv ρ) (hj : j < ρ 4) (e : q = 22 + 21 * j) : ρ q ≤ 3 := by have := h.n6; exact h.up (by omega) (by omega) (hiB_b (o := 8) (by omega) (by omega) (by decide))
theorem Inv.lot (h : Inv ρ) (hj : j < ρ 4) (hi : i < ρ (22 + 21 * j)) (hk : k < 3) (e : q = 23 + 21 * j + 4 * i + k) : ρ q ≤ 9 := by
  have := h.n6
  have := h.pck hj rfl
  refine h.up (by omega) (by omega) (hiB_b (o := 9 + 4 * i + k) (by omega) (by omega) ?_)
  refine k3 (P := fun i => hiC (9 + 4 * i + k) ≤ 9) (k := i) (by omega) ?_ ?_ ?_ <;> exact k3 (P := fun k => hiC (9 + 4 * _ + k) ≤ 9) hk (by decide) (by decide) (by decide)
theorem Inv.wor (h : Inv ρ) (hj : j < ρ 4) (hi : i < ρ (22 + 21 * j)) (e : q = 26 + 21 * j + 4 * i) : ρ q ≤ 999999 := by
  have := h.n6
  have := h.pck hj rfl
  exact h.up (by omega) (by omega) (hiB_b (o := 12 + 4 * i) (by omega) (by omega) (k3 (P := fun i => hiC (12 + 4 * i) ≤ 999999) (k := i) (by omega) (by decide) (by decide) (by decide)))
theorem Inv.zer (h : Inv ρ) (hj : ρ 4 ≤ j) (h6 : j < 6) (h2 : 16 + 21 * j ≤ q) (h9 : q < 23 + 21 * j) : ρ q = 0 := h.2.2.2 j hj h6 q h2 h9
/-- one place changes, not the bidders' number -/
theorem Inv.set {x : Nat} (h : Inv ρ) (hq : q ≠ 4) (hx : 1 ≤ q → q < 140 → x ≤ hiB q) (hl : loB q ≤ x) (hz : ∀ b, ρ 4 ≤ b → b < 6 → ¬ (16 + 21 * b ≤ q ∧ q < 23 + 21 * b)) : Inv (setN ρ q x) := by
  have h4 : setN ρ q x 4 = ρ 4 := setN_n (Ne.symm hq)
  refine ⟨fun c h1 h2 => ?_, fun c h1 => ?_, fun b hb => ?_, fun b h1 h2 c h3 h5 => ?_⟩
  · by_cases hc : c = q
    · subst hc; rw [setN_s]; exact hx h1 h2
    · rw [setN_n hc]; exact h.1 c h1 h2
  · by_cases hc : c = q
    · subst hc; rw [setN_s]; exact hl
    · rw [setN_n hc]; exact h.2.1 c h1
  · rw [h4] at hb
    by_cases hc : 15 + 21 * b = q
    · rw [hc, setN_s]
      refine Nat.le_trans ?_ hl
      unfold loB
      rw [if_neg (by omega), if_pos (by omega)]
      exact Nat.le_refl 1
    · rw [setN_n hc]; exact h.2.2.1 b hb
  · rw [h4] at h1
    have hc : c ≠ q := fun e => hz b h1 h2 ⟨by omega, by omega⟩
    rw [setN_n hc]
    exact h.2.2.2 b h1 h2 c h3 h5
theorem rgt_at (hj : j < ρ 4) (e : c = j) (e2 : q = 14 + 21 * j) : rgtF ρ γ c = ρ q := by subst e e2; simp [rgtF, hj]
theorem cap_at (hj : j < ρ 4) (e : c = j) (e2 : q = 15 + 21 * j) : capF ρ γ c = ρ q := by subst e e2; simp [capF, hj]
theorem pck_at (hj : j < ρ 4) (e : c = j) (e2 : q = 22 + 21 * j) : pckF ρ γ c = ρ q := by subst e e2; simp [pckF, hj]
theorem val_at (hj : j < ρ 4) (hk : k < 3) (e : c = 3 * j + k) (e2 : q = 16 + 21 * j + k) : valF ρ γ c = ρ q := by
  have h1 : c / 3 = j := by omega
  have h2 : c % 3 = k := by omega
  simp only [valF, h1, h2, hj, if_true, e2]
theorem dem_at (hj : j < ρ 4) (hk : k < 3) (e : c = 3 * j + k) (e2 : q = 19 + 21 * j + k) : demF ρ γ c = ρ q := by
  have h1 : c / 3 = j := by omega
  have h2 : c % 3 = k := by omega
  simp only [demF, h1, h2, hj, if_true, e2]
theorem lot_at (hj : j < ρ 4) (hi : i < ρ (22 + 21 * j)) (h3 : i < 3) (hk : k < 3) (e : c = 9 * j + 3 * i + k) (e2 : q = 23 + 21 * j + 4 * i + k) : lotF ρ γ c = ρ q := by
  have h1 : c / 9 = j := by omega
  have h2 : c % 3 = k := by omega
  have h4 : c / 3 % 3 = i := by omega
  simp only [lotF, h1, h2, h4, hj, hi, and_self, if_true, e2]
theorem wor_at (hj : j < ρ 4) (hi : i < ρ (22 + 21 * j)) (h3 : i < 3) (e : c = 3 * j + i) (e2 : q = 26 + 21 * j + 4 * i) : worF ρ γ c = ρ q := by
  have h1 : c / 3 = j := by omega
  have h2 : c % 3 = i := by omega
  simp only [worF, h1, h2, hj, hi, and_self, if_true, e2]
end INV
def inZ (x a b : Int) : Bool := decide (a ≤ x ∧ x ≤ b)
def sumB (f : Nat → Nat) : Nat → Nat
  | 0 => 0
  | n + 1 => sumB f n + f n
def act (ρ : Nat → Nat) (b : Nat) : Nat := ρ 8 * ρ (19 + 21 * b) + ρ 9 * ρ (20 + 21 * b) + ρ 10 * ρ (21 + 21 * b)
theorem act_le {ρ : Nat → Nat} (h : Inv ρ) {b : Nat} (hb : b < ρ 4) : act ρ b ≤ 243 := by
  have h1 := h.dem (q := 19 + 21 * b) hb (k := 0) (by decide) rfl
  have h2 := h.dem (q := 20 + 21 * b) hb (k := 1) (by decide) (by omega)
  have h3 := h.dem (q := 21 + 21 * b) hb (k := 2) (by decide) (by omega)
  have a1 := (h.pts (q := 8) (k := 0) (by decide) rfl).2
  have a2 := (h.pts (q := 9) (k := 1) (by decide) rfl).2
  have a3 := (h.pts (q := 10) (k := 2) (by decide) rfl).2
  have m1 := Nat.mul_le_mul a1 h1
  have m2 := Nat.mul_le_mul a2 h2
  have m3 := Nat.mul_le_mul a3 h3
  unfold act
  omega
def askedOf (ρ : Nat → Nat) (k : Nat) : Nat := sumB (fun b => ρ (19 + 21 * b + k)) (ρ 4)
theorem sumB_le {f : Nat → Nat} {c : Nat} : ∀ {n : Nat}, (∀ b, b < n → f b ≤ c) → sumB f n ≤ n * c
  | 0, _ => Nat.zero_le _
  | n + 1, h => by
    have h1 := sumB_le (n := n) (fun b hb => h b (by omega))
    have h2 := h n (by omega)
    rw [Nat.succ_mul]
    show sumB f n + f n ≤ _
    omega
theorem sumB_mono {f : Nat → Nat} : ∀ {n m : Nat}, n ≤ m → sumB f n ≤ sumB f m := by
  intro n m h
  induction m with
  | zero => rw [Nat.le_zero.mp h]; exact Nat.le_refl _
  | succ m ih =>
    rcases Nat.lt_or_ge m n with q | q
    · rw [show n = m + 1 by omega]; exact Nat.le_refl _
    · exact Nat.le_trans (ih q) (Nat.le_add_right _ _)
theorem askedOf_le {ρ : Nat → Nat} (h : Inv ρ) {k : Nat} (hk : k < 3) : askedOf ρ k ≤ 54 := by
  have h1 := sumB_le (f := fun b => ρ (19 + 21 * b + k)) (c := 9) (n := ρ 4) (fun b hb => h.dem hb hk rfl)
  have := h.n6
  unfold askedOf
  omega
theorem b2i_t {e : Bool} (h : e = true) : nI 1 = b2i e := by rw [h]; rfl
theorem b2i_f {e : Bool} (h : e = false) : nI 0 = b2i e := by rw [h]; rfl
theorem sumB_1 (f : Nat → Nat) (n : Nat) : sumB f (1 + n) = sumB f n + f n := by rw [Nat.add_comm]; rfl
def setOf (ρ : Nat → Nat) (x : Int) : Nat := if x = 0 then ρ 2 else ρ 3
def scar (ρ : Nat → Nat) (k : Nat) : Nat := if ρ (5 + k) < askedOf ρ k then 1 else 0
def scarce (ρ : Nat → Nat) : Nat := scar ρ 0 + scar ρ 1 + scar ρ 2
def allDem (ρ : Nat → Nat) : Nat := askedOf ρ 0 + askedOf ρ 1 + askedOf ρ 2
def allCost (ρ : Nat → Nat) : Nat := askedOf ρ 0 * ρ 11 + askedOf ρ 1 * ρ 12 + askedOf ρ 2 * ρ 13
def allPck (ρ : Nat → Nat) : Nat := sumB (fun b => ρ (22 + 21 * b)) (ρ 4)
def mgn (ρ : Nat → Nat) (j k : Nat) : Int32 := nI (ρ (16 + 21 * j + k)) - nI (ρ (11 + k))
def prof (ρ : Nat → Nat) (j : Nat) : Int32 := nI 0 + nI (ρ (19 + 21 * j)) * mgn ρ j 0 + nI (ρ (20 + 21 * j)) * mgn ρ j 1 + nI (ρ (21 + 21 * j)) * mgn ρ j 2
def most (ρ : Nat → Nat) (j k : Nat) : Nat := min (ρ (15 + 21 * j)) (ρ (5 + k))
def costOf (ρ : Nat → Nat) (a b d : Nat) : Nat := a * ρ 11 + b * ρ 12 + d * ρ 13
def lotOf (ρ : Nat → Nat) (j i k : Nat) : Nat := if i = 0 then ρ (19 + 21 * j + k) else ρ (23 + 21 * j + 4 * (i - 1) + k)
def worOf (ρ : Nat → Nat) (j i : Nat) : Nat := if 0 < i then ρ (26 + 21 * j + 4 * (i - 1)) else costOf ρ (ρ (19 + 21 * j)) (ρ (20 + 21 * j)) (ρ (21 + 21 * j))
section BND
variable {ρ : Nat → Nat} {j k i a b d : Nat}
theorem most_le (h : Inv ρ) (hj : j < ρ 4) : most ρ j k ≤ 9 := Nat.le_trans (Nat.min_le_left _ _) (h.cap hj rfl).2
theorem lotOf_le (h : Inv ρ) (hj : j < ρ 4) (hi : i ≤ ρ (22 + 21 * j)) (hk : k < 3) : lotOf ρ j i k ≤ 9 := by
  unfold lotOf
  split
  · exact h.dem hj hk rfl
  · exact h.lot hj (i := i - 1) (by omega) hk rfl
theorem costOf_le (h : Inv ρ) (ha : a ≤ 9) (hb : b ≤ 9) (hd : d ≤ 9) : costOf ρ a b d ≤ 2699973 := by
  have m1 := Nat.mul_le_mul ha (h.pri (q := 11) (k := 0) (by decide) rfl).2
  have m2 := Nat.mul_le_mul hb (h.pri (q := 12) (k := 1) (by decide) rfl).2
  have m3 := Nat.mul_le_mul hd (h.pri (q := 13) (k := 2) (by decide) rfl).2
  unfold costOf
  omega
theorem worOf_le (h : Inv ρ) (hj : j < ρ 4) (hi : i ≤ ρ (22 + 21 * j)) : worOf ρ j i ≤ 2699973 := by
  unfold worOf
  split
  · exact Nat.le_trans (h.wor hj (i := i - 1) (by omega) rfl) (by decide)
  · exact costOf_le h (h.dem hj (k := 0) (by decide) rfl) (h.dem hj (k := 1) (by decide) (by omega)) (h.dem hj (k := 2) (by decide) (by omega))
end BND
def dig (a k : Nat) : Nat := if k = 0 then a / 100 else if k = 1 then a / 10 % 10 else a % 10
theorem zt {n : Nat} (h : n < 2 ^ 31) : (nI n).toInt.toNat = n := by rw [nI_toInt h]; exact Int.toNat_natCast n
theorem zNt {x : Int32} {lo hi : Int} (hlo : 0 ≤ lo) (h : inZ x.toInt lo hi = true) : ∃ j : Nat, (lo ≤ (j : Int) ∧ (j : Int) ≤ hi ∧ j < 2 ^ 31) ∧ x = nI j := by
  simp only [inZ, decide_eq_true_eq] at h
  refine ⟨x.toInt.toNat, ⟨by omega, by omega, ?_⟩, ?_⟩
  · have := Int32.toInt_lt x
    omega
  · apply Int32.toInt_inj.mp
    rw [nI_toInt (by have := Int32.toInt_lt x; omega)]
    omega
theorem zNf {x : Int32} {lo hi : Int} (hlo : 0 ≤ lo) (h : (!inZ x.toInt lo hi) = false) : ∃ j : Nat, (lo ≤ (j : Int) ∧ (j : Int) ≤ hi ∧ j < 2 ^ 31) ∧ x = nI j := zNt hlo (by simpa using h)
theorem nbt {x : Int32} {n : Nat} (h : inZ x.toInt 0 ((n : Int) - 1) = true) : ∃ j : Nat, (j < n ∧ j < 2 ^ 31) ∧ x = nI j := by
  obtain ⟨j, hj, e⟩ := zNt (by decide) h
  exact ⟨j, ⟨by omega, hj.2.2⟩, e⟩
theorem nbf {x : Int32} {n : Nat} (h : (!inZ x.toInt 0 ((n : Int) - 1)) = false) : ∃ j : Nat, (j < n ∧ j < 2 ^ 31) ∧ x = nI j := nbt (by simpa using h)
/-! what forbids: 0 nothing, 1 no such, 2 out of range, 3 not now -/
def started (ρ : Nat → Nat) : Bool := decide (0 < nI (ρ 0))
def whyOffer (ρ : Nat → Nat) (k u v : Int) : Nat := if (!inZ k 0 2) = true then 1 else if (!inZ u 1 9) = true then 2 else if (!inZ v 1 9) = true then 2 else if started ρ = true then 3 else if 0 < ρ 4 then 3 else 0
def whyPrice (ρ : Nat → Nat) (k v : Int) : Nat := if (!inZ k 0 2) = true then 1 else if (!inZ v 1 99999) = true then 2 else if started ρ = true then 3 else 0
def whyJoin (ρ : Nat → Nat) (u v : Int) : Nat := if (!inZ u 0 99) = true then 2 else if (!inZ v 1 9) = true then 2 else if 6 ≤ ρ 4 then 3 else if started ρ = true then 3 else 0
def whyValue (ρ : Nat → Nat) (b k v : Int) : Nat := if (!inZ b 0 ((ρ 4 : Int) - 1)) = true then 1 else if (!inZ k 0 2) = true then 1 else if (!inZ v 0 99999) = true then 2 else 0
def whyBid (ρ : Nat → Nat) (b : Int) : Nat := if (!inZ b 0 ((ρ 4 : Int) - 1)) = true then 1 else if ρ 1 = 0 then 0 else 3
def whyClose (ρ : Nat → Nat) : Nat := if ρ 1 = 0 then 0 else 3
def askBad (ρ : Nat → Nat) (j k n : Nat) : Nat := if ρ 1 = 0 then (if n ≤ most ρ j k then (if nI (act ρ j) + (nI n - nI (ρ (19 + 21 * j + k))) * nI (ρ (8 + k)) ≤ nI (ρ (14 + 21 * j)) then 0 else 3) else 3) else 3
def whyAsk (ρ : Nat → Nat) (b k n : Int) : Nat := if (!inZ b 0 ((ρ 4 : Int) - 1)) = true then 1 else if (!inZ k 0 2) = true then 1 else if (!inZ n 0 9) = true then 2 else askBad ρ b.toNat k.toNat n.toNat
def mayHv (ρ : Nat → Nat) (j a b d : Nat) : Bool := decide (0 < a + b + d ∧ a ≤ most ρ j 0 ∧ b ≤ most ρ j 1 ∧ d ≤ most ρ j 2 ∧ a * ρ 8 + b * ρ 9 + d * ρ 10 ≤ ρ (14 + 21 * j))
def addOk (ρ : Nat → Nat) (j a b d v : Nat) : Nat := if ρ 1 = 0 then 3 else if 3 ≤ ρ (22 + 21 * j) then 3 else if v < costOf ρ a b d then 3 else if mayHv ρ j a b d = true then 0 else 3
def whyAdd (ρ : Nat → Nat) (b x y z v : Int) : Nat := if (!inZ b 0 ((ρ 4 : Int) - 1)) = true then 1 else if (!inZ x 0 9) = true then 2 else if (!inZ y 0 9) = true then 2 else if (!inZ z 0 9) = true then 2 else if (!inZ v 1 999999) = true then 2 else addOk ρ b.toNat x.toNat y.toNat z.toNat v.toNat
def whyDrop (ρ : Nat → Nat) (b i : Int) : Nat := if (!inZ b 0 ((ρ 4 : Int) - 1)) = true then 1 else if (!inZ i 1 (ρ (22 + 21 * b.toNat) : Int)) = true then 1 else 0
def whySet (w v : Int) : Nat := if w = 0 then (if (!inZ v 50 100) = true then 2 else 0) else if w = 1 then (if (!inZ v 1 50) = true then 2 else 0) else 2
theorem startI_gt {ρ : Nat → Nat} (h : 0 < nI (ρ 0)) : started ρ = true := by simpa [started] using h
theorem startN_gt {ρ : Nat → Nat} (h : ¬ 0 < nI (ρ 0)) : started ρ = false := by simpa [started] using h
theorem startI_le {ρ : Nat → Nat} (h : nI (ρ 0) ≤ 0) : started ρ = false := by simpa [started, Int32.not_lt] using h
theorem startN_le {ρ : Nat → Nat} (h : ¬ nI (ρ 0) ≤ 0) : started ρ = true := by simpa [started, Int32.not_le] using h
theorem nIn {b : Bool} (h : b = true) : ¬ (!b) = true := by simp [h]
theorem nOut {b : Bool} (h : b = false) : (!b) = true := by simp [h]
def canDr (ρ : Nat → Nat) (b i : Int) : Bool := inZ b 0 ((ρ 4 : Int) - 1) && inZ i 1 (ρ (22 + 21 * b.toNat) : Int)
def isSet (w v : Int) : Bool := (decide (w = 0) && inZ v 50 100) || (decide (w = 1) && inZ v 1 50)
/-! what changes -/
def mOffer (ρ : Nat → Nat) (k u v : Nat) : Nat → Nat := setN (setN ρ (5 + k) u) (8 + k) v
def mJoin (ρ : Nat → Nat) (u v : Nat) : Nat → Nat := setN (setN (setN ρ (14 + 21 * ρ 4) u) (15 + 21 * ρ 4) v) 4 (ρ 4 + 1)
def mSet (ρ : Nat → Nat) (w : Int) (v : Nat) : Nat → Nat := if w = 0 then setN ρ 2 v else setN ρ 3 v
def mDem (ρ : Nat → Nat) (j a b d : Nat) : Nat → Nat := setN (setN (setN ρ (19 + 21 * j) a) (20 + 21 * j) b) (21 + 21 * j) d
def mAsk (ρ : Nat → Nat) (j k n : Nat) : Nat → Nat := setN ρ (19 + 21 * j + k) n
def mVal (ρ : Nat → Nat) (j k v : Nat) : Nat → Nat := setN ρ (16 + 21 * j + k) v
def mPri (ρ : Nat → Nat) (k v : Nat) : Nat → Nat := setN ρ (11 + k) v
def mAdd (ρ : Nat → Nat) (j a b d v : Nat) : Nat → Nat := setN (setN (setN (setN (setN ρ (23 + 21 * j + 4 * ρ (22 + 21 * j)) a) (24 + 21 * j + 4 * ρ (22 + 21 * j)) b) (25 + 21 * j + 4 * ρ (22 + 21 * j)) d) (26 + 21 * j + 4 * ρ (22 + 21 * j)) v) (22 + 21 * j) (ρ (22 + 21 * j) + 1)
def mDrop (ρ : Nat → Nat) (j i : Nat) : Nat → Nat := fun q => if q = 22 + 21 * j then ρ q - 1 else if 23 + 21 * j + 4 * (i - 1) ≤ q ∧ q < 31 + 21 * j then ρ (q + 4) else if 31 + 21 * j ≤ q ∧ q < 35 + 21 * j then 0 else ρ q
def mRaise (ρ : Nat → Nat) (k : Nat) : Nat → Nat := setN ρ (11 + k) (min 99999 (ρ (11 + k) + max 1 (ρ (11 + k) * ρ 3 / 100)))
def wantd (ρ : Nat → Nat) (j k : Nat) : Nat := if ρ (11 + k) < ρ (16 + 21 * j + k) then most ρ j k else 0
theorem wantd_le {ρ : Nat → Nat} {j k : Nat} (h : Inv ρ) (hj : j < ρ 4) : wantd ρ j k ≤ 9 := by unfold wantd; split; exact most_le h hj; exact Nat.zero_le _
section OTHER
variable {ρ : Nat → Nat} {j k i a b d v n q : Nat}
theorem mAdd_o (hp : ρ (22 + 21 * j) < 3) (h : q < 14 + 21 * j ∨ 35 + 21 * j ≤ q) : mAdd ρ j a b d v q = ρ q := by
  unfold mAdd
  rw [setN_n (by omega), setN_n (by omega), setN_n (by omega), setN_n (by omega), setN_n (by omega)]
theorem mDem_o (h : q < 14 + 21 * j ∨ 35 + 21 * j ≤ q) : mDem ρ j a b d q = ρ q := by
  unfold mDem
  rw [setN_n (by omega), setN_n (by omega), setN_n (by omega)]
theorem mAsk_o (hk : k < 3) (h : q < 14 + 21 * j ∨ 35 + 21 * j ≤ q) : mAsk ρ j k n q = ρ q := setN_n (by omega)
theorem mVal_o (hk : k < 3) (h : q < 14 + 21 * j ∨ 35 + 21 * j ≤ q) : mVal ρ j k n q = ρ q := setN_n (by omega)
theorem mDrop_o (hi : 1 ≤ i ∧ i ≤ 3) (h : q < 14 + 21 * j ∨ 35 + 21 * j ≤ q) : mDrop ρ j i q = ρ q := by
  unfold mDrop
  rw [if_neg (by omega), if_neg (by omega), if_neg (by omega)]
theorem rgt1_o (h : q < 14 + 21 * j ∨ 35 + 21 * j ≤ q) : setN ρ (14 + 21 * j) v q = ρ q := setN_n (by omega)
end OTHER
