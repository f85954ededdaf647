/-! the demands with the greatest profit -/
def mg (ρ : Nat → Nat) (j k : Nat) : Int := (ρ (16 + 21 * j + k) : Int) - (ρ (11 + k) : Int)
def gn (ρ : Nat → Nat) (j a b d : Nat) : Int := (a : Int) * mg ρ j 0 + (b : Int) * mg ρ j 1 + (d : Int) * mg ρ j 2
abbrev fea (ρ : Nat → Nat) (j a b d : Nat) : Prop := a ≤ most ρ j 0 ∧ b ≤ most ρ j 1 ∧ d ≤ most ρ j 2 ∧ a * ρ 8 + b * ρ 9 + d * ρ 10 ≤ ρ (14 + 21 * j)
def gnC (ρ : Nat → Nat) (j t : Nat) : Int := gn ρ j (dig t 0) (dig t 1) (dig t 2)
abbrev feaC (ρ : Nat → Nat) (j t : Nat) : Prop := fea ρ j (dig t 0) (dig t 1) (dig t 2)
abbrev IsB (ρ : Nat → Nat) (j t : Nat) : Prop := t < 1000 ∧ feaC ρ j t ∧ ∀ u, u < 1000 → feaC ρ j u → gnC ρ j u ≤ gnC ρ j t ∧ (gnC ρ j u = gnC ρ j t → t ≤ u)
theorem IsB.uniq {ρ : Nat → Nat} {j t u : Nat} (h : IsB ρ j t) (h' : IsB ρ j u) : t = u := by
  have h1 := h.2.2 u h'.1 h'.2.1
  have h2 := h'.2.2 t h.1 h.2.1
  have h3 := h1.2 (by omega)
  have h4 := h2.2 (by omega)
  omega
def lastB (P : Nat → Bool) : Nat → Nat
  | 0 => 0
  | n + 1 => if P n then n else lastB P n
theorem lastB_eq {P : Nat → Bool} {t : Nat} (ht : P t = true) (hu : ∀ u, P u = true → u = t) : ∀ {n : Nat}, t < n → lastB P n = t
  | 0, h => absurd h (Nat.not_lt_zero _)
  | n + 1, h => by
    unfold lastB
    split
    · exact hu n ‹_›
    · have hne : t ≠ n := fun e => by subst e; contradiction
      exact lastB_eq ht hu (by omega)
def bsC (ρ : Nat → Nat) (j : Nat) : Nat := lastB (fun t => decide (IsB ρ j t)) 1000
theorem IsB.eq {ρ : Nat → Nat} {j t : Nat} (h : IsB ρ j t) : bsC ρ j = t :=
  lastB_eq (P := fun t => decide (IsB ρ j t)) (decide_eq_true h) (fun u hu => (of_decide_eq_true hu).uniq h) h.1
def mBid (ρ : Nat → Nat) (j : Nat) : Nat → Nat := mDem ρ j (dig (bsC ρ j) 0) (dig (bsC ρ j) 1) (dig (bsC ρ j) 2)
theorem dig_c {a b d : Nat} (ha : a ≤ 9) (hb : b ≤ 9) (hd : d ≤ 9) : dig (100 * a + 10 * b + d) 0 = a ∧ dig (100 * a + 10 * b + d) 1 = b ∧ dig (100 * a + 10 * b + d) 2 = d := by
  refine ⟨?_, ?_, ?_⟩
  · show (100 * a + 10 * b + d) / 100 = a; omega
  · show (100 * a + 10 * b + d) / 10 % 10 = b; omega
  · show (100 * a + 10 * b + d) % 10 = d; omega
theorem c_dig (t : Nat) : t = 100 * dig t 0 + 10 * dig t 1 + dig t 2 := by
  show t = 100 * (t / 100) + 10 * (t / 10 % 10) + t % 10
  omega
theorem dig_9 {t k : Nat} (h : t < 1000) : dig t k ≤ 9 := by
  unfold dig
  split
  · omega
  · split <;> omega
theorem mul_b {a : Nat} {m : Int} (ha : a ≤ 9) (h1 : -99999 ≤ m) (h2 : m ≤ 99999) : -899991 ≤ (a : Int) * m ∧ (a : Int) * m ≤ 899991 := by
  rcases (show a = 0 ∨ a = 1 ∨ a = 2 ∨ a = 3 ∨ a = 4 ∨ a = 5 ∨ a = 6 ∨ a = 7 ∨ a = 8 ∨ a = 9 by omega) with rfl | rfl | rfl | rfl | rfl | rfl | rfl | rfl | rfl | rfl <;> constructor <;> omega
theorem mg_b {ρ : Nat → Nat} {j k : Nat} (h : Inv ρ) (hj : j < ρ 4) (hk : k < 3) : -99999 ≤ mg ρ j k ∧ mg ρ j k ≤ 99999 := by
  have h1 := h.val (q := 16 + 21 * j + k) hj hk rfl
  have h2 := h.pri (q := 11 + k) hk rfl
  unfold mg
  omega
theorem gn_b {ρ : Nat → Nat} {j a b d : Nat} (h : Inv ρ) (hj : j < ρ 4) (ha : a ≤ 9) (hb : b ≤ 9) (hd : d ≤ 9) : -2699973 ≤ gn ρ j a b d ∧ gn ρ j a b d ≤ 2699973 := by
  have m0 := mg_b h hj (k := 0) (by decide)
  have m1 := mg_b h hj (k := 1) (by decide)
  have m2 := mg_b h hj (k := 2) (by decide)
  have p0 := mul_b ha m0.1 m0.2
  have p1 := mul_b hb m1.1 m1.2
  have p2 := mul_b hd m2.1 m2.2
  unfold gn
  omega
theorem gnC_b {ρ : Nat → Nat} {j t : Nat} (h : Inv ρ) (hj : j < ρ 4) (ht : t < 1000) : -2699973 ≤ gnC ρ j t ∧ gnC ρ j t ≤ 2699973 := gn_b h hj (dig_9 ht) (dig_9 ht) (dig_9 ht)
theorem fea_0 {ρ : Nat → Nat} {j : Nat} : feaC ρ j 0 := ⟨Nat.zero_le _, Nat.zero_le _, Nat.zero_le _, by show 0 * ρ 8 + 0 * ρ 9 + 0 * ρ 10 ≤ _; omega⟩
/-! the reference: all codes in their order -/
def BU (ρ : Nat → Nat) (j i : Nat) (x : Int32) (y : Int64) : Prop := (i = 0 ∧ x = -1) ∨ ∃ t, t < i ∧ x = nI t ∧ y = Int64.ofInt (gnC ρ j t) ∧ feaC ρ j t ∧ ∀ u, u < i → feaC ρ j u → gnC ρ j u ≤ gnC ρ j t ∧ (gnC ρ j u = gnC ρ j t → t ≤ u)
theorem bu_skip {ρ : Nat → Nat} {j i : Nat} {x : Int32} {y : Int64} (hn : ¬ feaC ρ j i) (h : BU ρ j i x y) : BU ρ j (1 + i) x y := by
  rcases h with ⟨rfl, -⟩ | ⟨t, h1, h2, h3, h4, h5⟩
  · exact absurd fea_0 hn
  · refine Or.inr ⟨t, by omega, h2, h3, h4, fun u hu hf => ?_⟩
    rcases Nat.lt_or_ge u i with q | q
    · exact h5 u q hf
    · exact absurd (show feaC ρ j i from (show u = i by omega) ▸ hf) hn
theorem ofI64_le {a b : Int} (ha : -2699973 ≤ a ∧ a ≤ 2699973) (hb : -2699973 ≤ b ∧ b ≤ 2699973) : Int64.ofInt a ≤ Int64.ofInt b ↔ a ≤ b := by
  rw [Int64.le_iff_toInt_le, Int64.toInt_ofInt_of_le (by omega) (by omega), Int64.toInt_ofInt_of_le (by omega) (by omega)]
theorem ofI32_le {a b : Int} (ha : -2699973 ≤ a ∧ a ≤ 2699973) (hb : -2699973 ≤ b ∧ b ≤ 2699973) : Int32.ofInt a ≤ Int32.ofInt b ↔ a ≤ b := by
  rw [Int32.le_iff_toInt_le, Int32.toInt_ofInt_of_le (by omega) (by omega), Int32.toInt_ofInt_of_le (by omega) (by omega)]
theorem nI_m1 {t : Nat} (h : t < 2 ^ 31) : ¬ nI t = -1 := by
  intro e
  have := congrArg Int32.toInt e
  rw [nI_toInt h, show (-1 : Int32).toInt = -1 from rfl] at this
  omega
theorem bu_leave {ρ : Nat → Nat} {j i : Nat} {x : Int32} {y : Int64} (hI : Inv ρ) (hj : j < ρ 4) (hi : i < 1000) (hx : ¬ x = -1) (hg : Int64.ofInt (gnC ρ j i) ≤ y) (h : BU ρ j i x y) : BU ρ j (1 + i) x y := by
  rcases h with ⟨-, h⟩ | ⟨t, h1, h2, h3, h4, h5⟩
  · exact absurd h hx
  · refine Or.inr ⟨t, by omega, h2, h3, h4, fun u hu hf => ?_⟩
    rcases Nat.lt_or_ge u i with q | q
    · exact h5 u q hf
    · obtain rfl : u = i := by omega
      rw [h3, ofI64_le (gnC_b hI hj hi) (gnC_b hI hj (by omega))] at hg
      exact ⟨hg, fun _ => by omega⟩
theorem bu_take {ρ : Nat → Nat} {j i : Nat} {x : Int32} {y : Int64} (hI : Inv ρ) (hj : j < ρ 4) (hi : i < 1000) (hf : feaC ρ j i) (hg : x = -1 ∨ ¬ Int64.ofInt (gnC ρ j i) ≤ y) (h : BU ρ j i x y) : BU ρ j (1 + i) (nI i) (Int64.ofInt (gnC ρ j i)) := by
  refine Or.inr ⟨i, by omega, rfl, rfl, hf, fun u hu hf2 => ?_⟩
  rcases h with ⟨rfl, h⟩ | ⟨t, h1, h2, h3, h4, h5⟩
  · obtain rfl : u = 0 := by omega
    exact ⟨Int.le_refl _, fun _ => Nat.le_refl _⟩
  · rcases hg with hg | hg
    · exact absurd (h2.symm.trans hg) (nI_m1 (by omega))
    · rw [h3, ofI64_le (gnC_b hI hj hi) (gnC_b hI hj (by omega))] at hg
      rcases Nat.lt_or_ge u i with q | q
      · have := (h5 u q hf2).1
        exact ⟨by omega, fun e => by omega⟩
      · obtain rfl : u = i := by omega
        exact ⟨Int.le_refl _, fun _ => Nat.le_refl _⟩
theorem bu_end {ρ : Nat → Nat} {j : Nat} {x : Int32} {y : Int64} (h : BU ρ j 1000 x y) : x = nI (bsC ρ j) ∧ bsC ρ j < 1000 := by
  rcases h with ⟨h, -⟩ | ⟨t, h1, h2, -, h4, h5⟩
  · exact absurd h (by decide)
  · have := (show IsB ρ j t from ⟨h1, h4, h5⟩).eq
    rw [this]
    exact ⟨h2, h1⟩
theorem gl_eq {a b d v0 p0 v1 p1 v2 p2 : Nat} (ha : a < 2 ^ 30) (hb : b < 2 ^ 30) (hd : d < 2 ^ 30) (h0 : v0 < 2 ^ 30) (h1 : v1 < 2 ^ 30) (h2 : v2 < 2 ^ 30) (q0 : p0 < 2 ^ 30) (q1 : p1 < 2 ^ 30) (q2 : p2 < 2 ^ 30) :
    (0 + (nI a).toInt64 * (nI v0 - nI p0).toInt64 + (nI b).toInt64 * (nI v1 - nI p1).toInt64 + (nI d).toInt64 * (nI v2 - nI p2).toInt64 : Int64) = Int64.ofInt ((a : Int) * ((v0 : Int) - p0) + (b : Int) * ((v1 : Int) - p1) + (d : Int) * ((v2 : Int) - p2)) := by
  have e : ∀ x : Int32, x.toInt64 = Int64.ofInt x.toInt := fun x => by rw [← Int32.toInt_toInt64, Int64.ofInt_toInt]
  simp only [e, pk_sub_toInt h0 q0, pk_sub_toInt h1 q1, pk_sub_toInt h2 q2, nI_toInt (show a < 2 ^ 31 by omega), nI_toInt (show b < 2 ^ 31 by omega), nI_toInt (show d < 2 ^ 31 by omega), Int64.ofInt_add, Int64.ofInt_mul]
  rw [show (0 : Int64) = Int64.ofInt 0 from rfl, ← Int64.ofInt_mul, ← Int64.ofInt_add, Int.zero_add]
theorem gi_eq {ρ : Nat → Nat} {j a b d : Nat} : nI a * mgn ρ j 0 + nI b * mgn ρ j 1 + nI d * mgn ρ j 2 = Int32.ofInt (gn ρ j a b d) := by
  have e : ∀ n : Nat, nI n = Int32.ofInt (n : Int) := fun n => Int32.ofInt_eq_ofNat.symm
  unfold gn mg mgn
  simp only [e, Int32.ofInt_add, Int32.ofInt_mul, Int32.ofInt_sub]
/-! the class: two loops, the third number as great as there is room for -/
section CBS
variable {ρ σ : Nat → Nat} {j a b d : Nat} {g : Int}
def n2of (ρ : Nat → Nat) (j a b : Nat) : Nat := min (wantd ρ j 2) ((ρ (14 + 21 * j) - (a * ρ 8 + b * ρ 9)) / ρ 10)
def vis (ρ : Nat → Nat) (j a b x y : Nat) : Prop := (x < a ∨ (x = a ∧ y < b)) ∧ x ≤ wantd ρ j 0 ∧ y ≤ wantd ρ j 1 ∧ x * ρ 8 + y * ρ 9 ≤ ρ (14 + 21 * j)
def gv (ρ : Nat → Nat) (j x y : Nat) : Int := gn ρ j x y (n2of ρ j x y)
def CB (ρ : Nat → Nat) (j a b : Nat) (σ : Nat → Nat) (g : Int) : Prop := (σ = ρ ∧ g = -1 ∧ ∀ x y, ¬ vis ρ j a b x y) ∨
  ∃ x y, σ = mDem ρ j x y (n2of ρ j x y) ∧ g = gv ρ j x y ∧ vis ρ j a b x y ∧ ∀ u v, vis ρ j a b u v → gv ρ j u v ≤ gv ρ j x y ∧ (gv ρ j u v = gv ρ j x y → x < u ∨ (x = u ∧ y ≤ v))
theorem CB.row (h : CB ρ j a b σ g) : σ = ρ ∨ ∃ x y, x ≤ wantd ρ j 0 ∧ y ≤ wantd ρ j 1 ∧ σ = mDem ρ j x y (n2of ρ j x y) := by
  rcases h with ⟨h, -⟩ | ⟨x, y, h, -, h2, -⟩
  · exact Or.inl h
  · exact Or.inr ⟨x, y, h2.2.1, h2.2.2.1, h⟩
theorem n2_le (hI : Inv ρ) (hj : j < ρ 4) : n2of ρ j a b ≤ 9 := Nat.le_trans (Nat.min_le_left _ _) (wantd_le hI hj)
theorem CB.inv (h : CB ρ j a b σ g) (hI : Inv ρ) (hj : j < ρ 4) : Inv σ := by
  rcases h.row with h | ⟨x, y, hx, hy, h⟩
  · rw [h]; exact hI
  · rw [h]; exact Inv_dem hI hj (Nat.le_trans hx (wantd_le hI hj)) (Nat.le_trans hy (wantd_le hI hj)) (n2_le hI hj)
theorem CB.o (h : CB ρ j a b σ g) {q : Nat} (hq : q < 19 + 21 * j ∨ 22 + 21 * j ≤ q) : σ q = ρ q := by
  rcases h.row with h | ⟨x, y, -, -, h⟩
  · rw [h]
  · rw [h]; unfold mDem; rw [setN_n (by omega), setN_n (by omega), setN_n (by omega)]
theorem CB.mg (h : CB ρ j a b σ g) {k : Nat} (hk : k < 3) : mgn σ j k = mgn ρ j k := by
  unfold mgn; rw [h.o (by omega), h.o (q := 11 + k) (by omega)]
theorem CB.dem (h : CB ρ j a b σ g) (x y z : Nat) : mDem σ j x y z = mDem ρ j x y z := by
  rcases h.row with h | ⟨u, v, -, -, h⟩
  · rw [h]
  · rw [h]
    funext q
    simp only [mDem, setN]
    (repeat' split) <;> rfl
theorem cb_0 : CB ρ j 0 0 ρ (-1) := Or.inl ⟨rfl, rfl, fun x y h => by unfold vis at h; omega⟩
theorem gv_b (hI : Inv ρ) (hj : j < ρ 4) {x y : Nat} (hx : x ≤ wantd ρ j 0) (hy : y ≤ wantd ρ j 1) : -2699973 ≤ gv ρ j x y ∧ gv ρ j x y ≤ 2699973 := gn_b hI hj (Nat.le_trans hx (wantd_le hI hj)) (Nat.le_trans hy (wantd_le hI hj)) (n2_le hI hj)
theorem CB.gb (h : CB ρ j a b σ g) (hI : Inv ρ) (hj : j < ρ 4) : -2699973 ≤ g ∧ g ≤ 2699973 := by
  rcases h with ⟨-, h, -⟩ | ⟨x, y, -, h, h2, -⟩
  · omega
  · rw [h]; exact gv_b hI hj h2.2.1 h2.2.2.1
/-- no more of the second lots: the next first number -/
theorem cb_row (hb : wantd ρ j 1 < b ∨ ρ (14 + 21 * j) < a * ρ 8 + b * ρ 9) (h : CB ρ j a b σ g) : CB ρ j (1 + a) 0 σ g := by
  have e : ∀ x y, vis ρ j (1 + a) 0 x y ↔ vis ρ j a b x y := by
    intro x y
    unfold vis
    constructor
    · rintro ⟨h1, h2, h3, h4⟩
      refine ⟨?_, h2, h3, h4⟩
      rcases Nat.lt_or_ge x a with q | q
      · exact Or.inl q
      · obtain rfl : x = a := by omega
        rcases Nat.lt_or_ge y b with q2 | q2
        · exact Or.inr ⟨rfl, q2⟩
        · rcases hb with hb | hb
          · omega
          · have := Nat.mul_le_mul_right (ρ 9) q2
            omega
    · rintro ⟨h1, h2⟩
      exact ⟨by omega, h2⟩
  unfold CB
  simp only [e]
  exact h
theorem vis_1 (x y : Nat) (ha : a ≤ wantd ρ j 0) (hb : b ≤ wantd ρ j 1) (hs : a * ρ 8 + b * ρ 9 ≤ ρ (14 + 21 * j)) : vis ρ j a (1 + b) x y ↔ vis ρ j a b x y ∨ (x = a ∧ y = b) := by
  unfold vis
  constructor
  · rintro ⟨h1, h2⟩
    by_cases q : x = a ∧ y = b
    · exact Or.inr q
    · exact Or.inl ⟨by omega, h2⟩
  · rintro (⟨h1, h2⟩ | ⟨rfl, rfl⟩)
    · exact ⟨by omega, h2⟩
    · exact ⟨by omega, ha, hb, hs⟩
theorem cb_leave (ha : a ≤ wantd ρ j 0) (hb : b ≤ wantd ρ j 1) (hs : a * ρ 8 + b * ρ 9 ≤ ρ (14 + 21 * j)) (h0 : 0 ≤ gv ρ j a b) (hg : gv ρ j a b ≤ g) (h : CB ρ j a b σ g) : CB ρ j a (1 + b) σ g := by
  rcases h with ⟨-, h2, -⟩ | ⟨x, y, h1, h2, h3, h4⟩
  · omega
  · refine Or.inr ⟨x, y, h1, h2, (vis_1 _ _ ha hb hs).mpr (Or.inl h3), fun u v hv => ?_⟩
    rcases (vis_1 _ _ ha hb hs).mp hv with hv | ⟨rfl, rfl⟩
    · exact h4 u v hv
    · refine ⟨by omega, fun _ => ?_⟩
      have := h3.1
      omega
theorem cb_take (ha : a ≤ wantd ρ j 0) (hb : b ≤ wantd ρ j 1) (hs : a * ρ 8 + b * ρ 9 ≤ ρ (14 + 21 * j)) (hg : g < gv ρ j a b) (h : CB ρ j a b σ g) : CB ρ j a (1 + b) (mDem σ j a b (n2of ρ j a b)) (gv ρ j a b) := by
  refine Or.inr ⟨a, b, h.dem _ _ _, rfl, (vis_1 _ _ ha hb hs).mpr (Or.inr ⟨rfl, rfl⟩), fun u v hv => ?_⟩
  rcases (vis_1 _ _ ha hb hs).mp hv with hv | ⟨rfl, rfl⟩
  · rcases h with ⟨-, -, h3⟩ | ⟨x, y, -, h2, h3, h4⟩
    · exact absurd hv (h3 u v)
    · have := (h4 u v hv).1
      exact ⟨by omega, fun e => by omega⟩
  · exact ⟨Int.le_refl _, fun _ => Or.inr ⟨rfl, Nat.le_refl _⟩⟩
theorem wantd_p {k : Nat} (h : 0 < wantd ρ j k) : 0 < mg ρ j k ∧ wantd ρ j k = most ρ j k := by
  unfold wantd at h ⊢
  split at h
  · rename_i q
    rw [if_pos q]
    exact ⟨by unfold mg; omega, rfl⟩
  · omega
theorem wantd_m {k : Nat} : wantd ρ j k ≤ most ρ j k := by unfold wantd; split; exact Nat.le_refl _; exact Nat.zero_le _
theorem wantd_n {k : Nat} (h : 0 < mg ρ j k) : wantd ρ j k = most ρ j k := by
  unfold wantd; rw [if_pos (by unfold mg at h; omega)]
theorem wantd_z {k : Nat} (h : ¬ 0 < mg ρ j k) : wantd ρ j k = 0 := by
  unfold wantd; rw [if_neg (by unfold mg at h; omega)]
theorem mul_nn {n k : Nat} (h : n ≤ wantd ρ j k) : 0 ≤ (n : Int) * mg ρ j k := by
  rcases Nat.eq_zero_or_pos n with q | q
  · rw [q]; simp
  · exact Int.mul_nonneg (Int.natCast_nonneg _) (Int.le_of_lt (wantd_p (k := k) (by omega)).1)
theorem gv_0 (ha : a ≤ wantd ρ j 0) (hb : b ≤ wantd ρ j 1) : 0 ≤ gv ρ j a b := by
  have h0 := mul_nn ha
  have h1 := mul_nn hb
  have h2 := mul_nn (ρ := ρ) (j := j) (n := n2of ρ j a b) (k := 2) (Nat.min_le_left _ _)
  unfold gv gn
  omega
/-- a number cut to what is wanted gains no less, and is no greater -/
theorem cut {n k : Nat} (h : n ≤ most ρ j k) : ∃ u, u ≤ wantd ρ j k ∧ u ≤ n ∧ (n : Int) * mg ρ j k ≤ (u : Int) * mg ρ j k ∧ (u = n ∨ u = 0) := by
  by_cases q : 0 < mg ρ j k
  · exact ⟨n, by rw [wantd_n q]; exact h, Nat.le_refl _, Int.le_refl _, Or.inl rfl⟩
  · refine ⟨0, Nat.zero_le _, Nat.zero_le _, ?_, Or.inr rfl⟩
    have := Int.mul_nonneg (Int.natCast_nonneg n) (show 0 ≤ - mg ρ j k by omega)
    rw [Int.mul_neg] at this
    simp
    omega
theorem cb_best (hI : Inv ρ) (hj : j < ρ 4) (h : CB ρ j (1 + wantd ρ j 0) 0 σ g) : σ = mBid ρ j := by
  have hp := (hI.pts (q := 10) (k := 2) (by decide) rfl).1
  rcases h with ⟨-, -, h⟩ | ⟨x, y, h1, -, h3, h4⟩
  · exact absurd (show vis ρ j (1 + wantd ρ j 0) 0 0 0 from ⟨by omega, by omega, by omega, by omega⟩) (h 0 0)
  · have hx := h3.2.1
    have hy := h3.2.2.1
    have hs := h3.2.2.2
    have x9 := Nat.le_trans hx (wantd_le hI hj)
    have y9 := Nat.le_trans hy (wantd_le hI hj)
    have z9 : n2of ρ j x y ≤ 9 := n2_le hI hj
    have hz : n2of ρ j x y ≤ wantd ρ j 2 := Nat.min_le_left _ _
    obtain ⟨e0, e1, e2⟩ := dig_c x9 y9 z9
    have hB : IsB ρ j (100 * x + 10 * y + n2of ρ j x y) := by
      refine ⟨by omega, ?_, fun t ht hf => ?_⟩
      · show fea ρ j _ _ _
        rw [e0, e1, e2]
        refine ⟨Nat.le_trans hx wantd_m, Nat.le_trans hy wantd_m, Nat.le_trans hz wantd_m, ?_⟩
        have : n2of ρ j x y * ρ 10 ≤ ρ (14 + 21 * j) - (x * ρ 8 + y * ρ 9) := (Nat.le_div_iff_mul_le (by omega)).mp (Nat.min_le_right _ _)
        omega
      · have hG : gnC ρ j (100 * x + 10 * y + n2of ρ j x y) = gv ρ j x y := by unfold gnC; rw [e0, e1, e2]; rfl
        rw [hG]
        obtain ⟨f0, f1, f2, f3⟩ := hf
        obtain ⟨u0, a1, a2, a3, a4⟩ := cut (ρ := ρ) (j := j) f0
        obtain ⟨u1, b1, b2, b3, b4⟩ := cut (ρ := ρ) (j := j) f1
        obtain ⟨u2, d1, d2, d3, d4⟩ := cut (ρ := ρ) (j := j) f2
        have c0 := Nat.mul_le_mul_right (ρ 8) a2
        have c1 := Nat.mul_le_mul_right (ρ 9) b2
        have c2 := Nat.mul_le_mul_right (ρ 10) d2
        have hv : vis ρ j (1 + wantd ρ j 0) 0 u0 u1 := ⟨by omega, a1, b1, by omega⟩
        have hn2 : u2 ≤ n2of ρ j u0 u1 := by
          refine Nat.le_min.mpr ⟨d1, (Nat.le_div_iff_mul_le (by omega)).mpr ?_⟩
          omega
        have hge : (u2 : Int) * mg ρ j 2 ≤ (n2of ρ j u0 u1 : Int) * mg ρ j 2 := by
          rcases Nat.eq_zero_or_pos (n2of ρ j u0 u1) with q | q
          · rw [show u2 = n2of ρ j u0 u1 by omega]; exact Int.le_refl _
          · have : n2of ρ j u0 u1 ≤ wantd ρ j 2 := Nat.min_le_left _ _
            exact Int.mul_le_mul_of_nonneg_right (by omega) (Int.le_of_lt (wantd_p (k := 2) (by omega)).1)
        have hle : gnC ρ j t ≤ gv ρ j u0 u1 := by unfold gnC gv gn; omega
        obtain ⟨k1, k2⟩ := h4 u0 u1 hv
        refine ⟨by omega, fun he => ?_⟩
        have k3 := k2 (by omega)
        rw [c_dig t]
        have t0 := dig_9 (k := 0) ht
        have t1 := dig_9 (k := 1) ht
        have t2 := dig_9 (k := 2) ht
        rcases Nat.lt_or_ge x (dig t 0) with q | q
        · omega
        · have q0 : x = dig t 0 := by omega
          have q1 : u0 = x := by omega
          rcases Nat.lt_or_ge y (dig t 1) with w | w
          · omega
          · have w0 : y = dig t 1 := by omega
            have w1 : u1 = y := by omega
            have : n2of ρ j x y ≤ dig t 2 := by
              by_cases m : 0 < mg ρ j 2
              · have hd : dig t 2 ≤ n2of ρ j x y := by
                  rw [q1, w1] at hn2
                  rcases d4 with d4 | d4
                  · omega
                  · refine Nat.le_min.mpr ⟨by rw [wantd_n m]; exact f2, (Nat.le_div_iff_mul_le (by omega)).mpr ?_⟩
                    rw [q0, w0]
                    omega
                have e : (dig t 2 : Int) * mg ρ j 2 = (n2of ρ j x y : Int) * mg ρ j 2 := by
                  unfold gnC gv gn at he
                  rw [q0, w0] at he ⊢
                  omega
                have := Int.eq_of_mul_eq_mul_right (by omega) e
                omega
              · have := wantd_z m
                omega
            omega
    rw [h1]
    unfold mBid
    rw [hB.eq, e0, e1, e2]
end CBS
theorem Inv_bid {ρ : Nat → Nat} {j : Nat} (hI : Inv ρ) (hj : j < ρ 4) (h : bsC ρ j < 1000) : Inv (mBid ρ j) := Inv_dem hI hj (dig_9 h) (dig_9 h) (dig_9 h)
theorem nI_znar {n : Nat} (h : n ≤ 1) : narrow .boolean (.int (nI n)) = .int (nI n) := by
  rcases (show n = 0 ∨ n = 1 by omega) with rfl | rfl <;> rfl
theorem nI_zfit {n : Nat} (h : n ≤ 1) : fits .boolean (.int (nI n)) = true := by
  rcases (show n = 0 ∨ n = 1 by omega) with rfl | rfl <;> rfl
theorem auc_become {G : va_G} {Y : Nat → Nat} {A : Nat → Prop} {H0 H : Heap} {segs : List va_W} {locs : List Loc} {h i : Nat} {σ : Nat → Nat} {δ : Nat → Nat → Nat} {g0 g1 g2 g3 g4 g5 g6 g7 g8 g9 : Nat → Nat} (hw : xW G A H0 segs H locs)
    (hs : segs[i]? = some (aucR Y h (cpyN (supF σ) g0 3) (cpyN (ptsF σ) g1 3) (cpyN (priF σ) g2 3) (cpyN (rgtF σ δ) g3 6) (cpyN (capF σ δ) g4 6) (cpyN (pckF σ δ) g5 6) (cpyN (valF σ δ) g6 18) (cpyN (demF σ δ) g7 18) (cpyN (lotF σ δ) g8 54) (cpyN (worF σ δ) g9 18) (σ 4) (σ 0) (σ 1) (σ 2) (σ 3))) :
    xW G A H0 (segs.set i (aucW Y h σ δ)) H locs := by
  have hP := xP_iff.mp (hw.seg hs)
  unfold aucR at hP
  refine hw.recell hs rfl ?_
  unfold aucW aucR
  have e : ∀ (F g : Nat → Nat) (N j : Nat), j < N → (rowF F) j = (rowF (cpyN F g N)) j := fun F g N j hj => by simp only [rowF, cpyN, if_pos hj]
  intro q hq
  simp only [List.mem_cons, List.not_mem_nil, or_false] at hq
  rcases hq with rfl | rfl | rfl | rfl | rfl | rfl | rfl | rfl | rfl | rfl | rfl
  · exact hP _ (by simp)
  · exact xAt_congr (hP (h + 1, .inl (Y 0, 3, .inl (rowF (cpyN (supF σ) g0 3)))) (by simp)) (e _ _ _)
  · exact xAt_congr (hP (h + 2, .inl (Y 0, 3, .inl (rowF (cpyN (ptsF σ) g1 3)))) (by simp)) (e _ _ _)
  · exact xAt_congr (hP (h + 3, .inl (Y 0, 3, .inl (rowF (cpyN (priF σ) g2 3)))) (by simp)) (e _ _ _)
  · exact xAt_congr (hP (h + 4, .inl (Y 0, 6, .inl (rowF (cpyN (rgtF σ δ) g3 6)))) (by simp)) (e _ _ _)
  · exact xAt_congr (hP (h + 5, .inl (Y 0, 6, .inl (rowF (cpyN (capF σ δ) g4 6)))) (by simp)) (e _ _ _)
  · exact xAt_congr (hP (h + 6, .inl (Y 0, 6, .inl (rowF (cpyN (pckF σ δ) g5 6)))) (by simp)) (e _ _ _)
  · exact xAt_congr (hP (h + 7, .inl (Y 0, 18, .inl (rowF (cpyN (valF σ δ) g6 18)))) (by simp)) (e _ _ _)
  · exact xAt_congr (hP (h + 8, .inl (Y 0, 18, .inl (rowF (cpyN (demF σ δ) g7 18)))) (by simp)) (e _ _ _)
  · exact xAt_congr (hP (h + 9, .inl (Y 0, 54, .inl (rowF (cpyN (lotF σ δ) g8 54)))) (by simp)) (e _ _ _)
  · exact xAt_congr (hP (h + 10, .inl (Y 0, 18, .inl (rowF (cpyN (worF σ δ) g9 18)))) (by simp)) (e _ _ _)
theorem spare_toInt {r x y : Nat} (hr : r < 2 ^ 28) (hx : x < 2 ^ 28) (hy : y < 2 ^ 28) : (nI r - nI x - nI y).toInt = (r : Int) - x - y := by
  have e : ∀ n : Nat, nI n = Int32.ofInt (n : Int) := fun n => Int32.ofInt_eq_ofNat.symm
  rw [e, e, e, ← Int32.ofInt_sub, ← Int32.ofInt_sub, Int32.toInt_ofInt_of_le (by omega) (by omega)]
theorem spare_nI {r x y : Nat} (h : x + y ≤ r) : nI r - nI x - nI y = nI (r - (x + y)) := by
  have e : ∀ n : Nat, nI n = Int32.ofInt (n : Int) := fun n => Int32.ofInt_eq_ofNat.symm
  rw [e, e, e, e, ← Int32.ofInt_sub, ← Int32.ofInt_sub]
  congr 1
  omega
