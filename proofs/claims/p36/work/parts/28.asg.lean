/-! assignments: a code in base 5, the first bidder's digit the greatest; 0 is nothing, i + 1 the package i -/
def mw (n : Nat) : Int32 := Int32.ofInt ((n : Int) - 1)
theorem mw_s {n : Nat} : mw (n + 1) = nI n := by
  unfold mw nI
  rw [show ((n + 1 : Nat) : Int) - 1 = (n : Int) by omega]
  exact Int32.ofInt_eq_ofNat
theorem mwN_1 {n : Nat} : mw (1 + n) = nI n := by rw [Nat.add_comm]; exact mw_s
theorem mwN_0 : mw 0 = -1 := rfl
theorem mw_p {n : Nat} (h : 0 < n) : mw n = nI (n - 1) := by
  obtain ⟨m, rfl⟩ : ∃ m, n = m + 1 := ⟨n - 1, by omega⟩
  exact mw_s
theorem mw_toInt {n : Nat} (h : n < 2 ^ 31) : (mw n).toInt = (n : Int) - 1 := by
  unfold mw
  rw [Int32.toInt_ofInt_of_le (by omega) (by omega)]
theorem mw_le {a b : Nat} (ha : a < 2 ^ 31) (hb : b < 2 ^ 31) : mw a ≤ mw b ↔ a ≤ b := by
  rw [Int32.le_iff_toInt_le, mw_toInt ha, mw_toInt hb]; omega
theorem mw_lt {a b : Nat} (ha : a < 2 ^ 31) (hb : b < 2 ^ 31) : mw a < mw b ↔ a < b := by
  rw [Int32.lt_iff_toInt_lt, mw_toInt ha, mw_toInt hb]; omega
theorem nI_le_mw {a b : Nat} (ha : a < 2 ^ 31) (hb : b < 2 ^ 31) : nI a ≤ mw b ↔ a < b := by
  rw [Int32.le_iff_toInt_le, nI_toInt ha, mw_toInt hb]; omega
theorem mw_inj {a b : Nat} (ha : a < 2 ^ 31) (hb : b < 2 ^ 31) (h : mw a = mw b) : a = b := by
  have := congrArg Int32.toInt h
  rw [mw_toInt ha, mw_toInt hb] at this; omega
theorem nI_mw {a b : Nat} (ha : a < 2 ^ 30) (hb : b < 2 ^ 31) : nI a = mw b ↔ b = a + 1 := by
  rw [← mw_s]
  constructor
  · intro h; exact (mw_inj (by omega) hb h).symm
  · intro h; rw [h]
theorem mw_inc {n : Nat} : mw n + Int32.ofInt 1 = mw (1 + n) := by
  unfold mw
  rw [← Int32.ofInt_add]
  congr 1
  omega
def wOf (ρ : Nat → Nat) (b d : Nat) : Nat := if d = 0 then 0 else worOf ρ b (d - 1)
def lOf (ρ : Nat → Nat) (b d k : Nat) : Nat := if d = 0 then 0 else lotOf ρ b (d - 1) k
def okP (ρ : Nat → Nat) (w : Nat) : Nat → Nat → Prop
  | 0, _ => True
  | b + 1, c => okP ρ w b (c / 5) ∧ c % 5 ≤ ρ (22 + 21 * b) + 1 ∧ (w = b + 1 → c % 5 = 0)
def wP (ρ : Nat → Nat) : Nat → Nat → Nat
  | 0, _ => 0
  | b + 1, c => wP ρ b (c / 5) + wOf ρ b (c % 5)
def lP (ρ : Nat → Nat) (k : Nat) : Nat → Nat → Nat
  | 0, _ => 0
  | b + 1, c => lP ρ k b (c / 5) + lOf ρ b (c % 5) k
def dP : Nat → Nat → Nat → Nat
  | 0, _, _ => 0
  | b + 1, c, i => if i = b then c % 5 else dP b (c / 5) i
def rmA (ρ : Nat → Nat) (m k : Nat) : Nat := ρ (5 + k) + (if m = k + 1 then 1 else 0)
def feaP (ρ : Nat → Nat) (w m b c : Nat) : Prop := okP ρ w b c ∧ ∀ k, k < 3 → lP ρ k b c ≤ rmA ρ m k
def okB (ρ : Nat → Nat) (w : Nat) : Nat → Nat → Bool
  | 0, _ => true
  | b + 1, c => okB ρ w b (c / 5) && (decide (c % 5 ≤ ρ (22 + 21 * b) + 1) && (decide (w ≠ b + 1) || decide (c % 5 = 0)))
def feaB (ρ : Nat → Nat) (w m b c : Nat) : Bool := okB ρ w b c && (decide (lP ρ 0 b c ≤ rmA ρ m 0) && (decide (lP ρ 1 b c ≤ rmA ρ m 1) && decide (lP ρ 2 b c ≤ rmA ρ m 2)))
theorem okB_iff {ρ : Nat → Nat} {w : Nat} : ∀ {b c : Nat}, okB ρ w b c = true ↔ okP ρ w b c
  | 0, _ => ⟨fun _ => trivial, fun _ => rfl⟩
  | b + 1, c => by
    unfold okB okP
    rw [Bool.and_eq_true, Bool.and_eq_true, Bool.or_eq_true, decide_eq_true_eq, decide_eq_true_eq, decide_eq_true_eq, okB_iff]
    constructor
    · rintro ⟨h1, h2, h3⟩; exact ⟨h1, h2, fun z => by omega⟩
    · rintro ⟨h1, h2, h3⟩; exact ⟨h1, h2, by by_cases z : w = b + 1; exact Or.inr (h3 z); exact Or.inl z⟩
theorem feaB_iff {ρ : Nat → Nat} {w m b c : Nat} : feaB ρ w m b c = true ↔ feaP ρ w m b c := by
  unfold feaB feaP
  rw [Bool.and_eq_true, Bool.and_eq_true, Bool.and_eq_true, decide_eq_true_eq, decide_eq_true_eq, decide_eq_true_eq, okB_iff]
  constructor
  · rintro ⟨h1, h2, h3, h4⟩; exact ⟨h1, fun k hk => k3 (P := fun k => lP ρ k b c ≤ rmA ρ m k) hk h2 h3 h4⟩
  · rintro ⟨h1, h2⟩; exact ⟨h1, h2 0 (by decide), h2 1 (by decide), h2 2 (by decide)⟩
def stA (ρ : Nat → Nat) (w m n : Nat) (s : Nat × Nat) (t : Nat) : Nat × Nat := if feaB ρ w m n t = true ∧ s.1 ≤ wP ρ n t then (wP ρ n t + 1, t) else s
/-- the codes one after the other -/
def FA (ρ : Nat → Nat) (w m n : Nat) (s : Nat × Nat) (lo : Nat) : Nat → Nat × Nat
  | 0 => s
  | i + 1 => stA ρ w m n (FA ρ w m n s lo i) (lo + i)
/-- the codes behind a beginning -/
def FB (ρ : Nat → Nat) (w m : Nat) : Nat → Nat → Nat → Nat × Nat → Nat × Nat
  | 0, b, c, s => stA ρ w m b s c
  | r + 1, b, c, s => FB ρ w m r (b + 1) (5 * c + 4) (FB ρ w m r (b + 1) (5 * c + 3) (FB ρ w m r (b + 1) (5 * c + 2) (FB ρ w m r (b + 1) (5 * c + 1) (FB ρ w m r (b + 1) (5 * c) s))))
/-- the first so many choices of a bidder -/
def FC (ρ : Nat → Nat) (w m r b c : Nat) (s : Nat × Nat) : Nat → Nat × Nat
  | 0 => s
  | d + 1 => FB ρ w m r (b + 1) (5 * c + d) (FC ρ w m r b c s d)
section ASG
variable {ρ : Nat → Nat} {w m n r b c d k : Nat} {s : Nat × Nat}
theorem FC_5 : FC ρ w m r b c s 5 = FB ρ w m (r + 1) b c s := rfl
theorem FC_1 : FC ρ w m r b c s (1 + d) = FB ρ w m r (b + 1) (5 * c + d) (FC ρ w m r b c s d) := by rw [Nat.add_comm]; rfl
theorem FA_add {lo i : Nat} : ∀ {j : Nat}, FA ρ w m n s lo (i + j) = FA ρ w m n (FA ρ w m n s lo i) (lo + i) j
  | 0 => rfl
  | j + 1 => by
    show stA ρ w m n (FA ρ w m n s lo (i + j)) (lo + (i + j)) = stA ρ w m n (FA ρ w m n (FA ρ w m n s lo i) (lo + i) j) (lo + i + j)
    rw [FA_add, Nat.add_assoc]
theorem FB_FA : ∀ {r b c : Nat} {s : Nat × Nat}, FB ρ w m r b c s = FA ρ w m (b + r) s (c * 5 ^ r) (5 ^ r)
  | 0, b, c, s => by show stA _ _ _ _ _ _ = stA ρ w m (b + 0) s (c * 5 ^ 0 + 0); simp
  | r + 1, b, c, s => by
    unfold FB
    rw [FB_FA, FB_FA, FB_FA, FB_FA, FB_FA]
    have e : 5 ^ (r + 1) = 5 ^ r + 5 ^ r + 5 ^ r + 5 ^ r + 5 ^ r := by rw [Nat.pow_succ]; omega
    have e0 : c * 5 ^ (r + 1) = 5 * c * 5 ^ r := by rw [Nat.pow_succ, Nat.mul_comm (5 ^ r) 5, ← Nat.mul_assoc, Nat.mul_comm c 5]
    rw [e, FA_add, FA_add, FA_add, FA_add, ← e, e0, show b + 1 + r = b + (r + 1) by omega]
    have h1 : (5 * c + 1) * 5 ^ r = 5 * c * 5 ^ r + 5 ^ r := by rw [Nat.add_mul]; omega
    have h2 : (5 * c + 2) * 5 ^ r = 5 * c * 5 ^ r + (5 ^ r + 5 ^ r) := by rw [Nat.add_mul]; omega
    have h3 : (5 * c + 3) * 5 ^ r = 5 * c * 5 ^ r + (5 ^ r + 5 ^ r + 5 ^ r) := by rw [Nat.add_mul]; omega
    have h4 : (5 * c + 4) * 5 ^ r = 5 * c * 5 ^ r + (5 ^ r + 5 ^ r + 5 ^ r + 5 ^ r) := by rw [Nat.add_mul]; omega
    rw [h1, h2, h3, h4]
theorem ch_d (h : d < 5) : (5 * c + d) / 5 = c ∧ (5 * c + d) % 5 = d := by omega
theorem FB_skip : ∀ {r b c : Nat} {s : Nat × Nat}, ¬ feaP ρ w m b c → FB ρ w m r b c s = s
  | 0, b, c, s, h => by unfold FB stA; rw [if_neg (fun z => h (feaB_iff.mp z.1))]
  | r + 1, b, c, s, h => by
    have h2 : ∀ d, d < 5 → ¬ feaP ρ w m (b + 1) (5 * c + d) := by
      intro d hd z
      obtain ⟨e1, e2⟩ := ch_d (c := c) hd
      refine h ⟨?_, fun k hk => ?_⟩
      · have := z.1.1; rw [e1] at this; exact this
      · have := z.2 k hk
        unfold lP at this
        rw [e1] at this
        omega
    unfold FB
    rw [FB_skip (show ¬ feaP ρ w m (b + 1) (5 * c) from h2 0 (by decide)), FB_skip (h2 1 (by decide)), FB_skip (h2 2 (by decide)), FB_skip (h2 3 (by decide)), FB_skip (h2 4 (by decide))]
/-- what is behind the last allowed choice counts for nothing -/
theorem FC_end (hd : d ≤ 5) (h : ∀ e, d ≤ e → e < 5 → ¬ feaP ρ w m (b + 1) (5 * c + e)) : FC ρ w m r b c s d = FB ρ w m (r + 1) b c s := by
  rw [← FC_5]
  have key : ∀ j, d ≤ j → j ≤ 5 → FC ρ w m r b c s j = FC ρ w m r b c s d := by
    intro j
    induction j with
    | zero => intro h1 _; rw [show d = 0 by omega]
    | succ j ih =>
      intro h1 h2
      rcases Nat.lt_or_ge j d with q | q
      · rw [show d = j + 1 by omega]
      · rw [← ih q (by omega)]
        show FB _ _ _ _ _ _ _ = _
        exact FB_skip (h j q (by omega))
  exact (key 5 hd (Nat.le_refl _)).symm
theorem lP_ch (hd : d < 5) : lP ρ k (b + 1) (5 * c + d) = lP ρ k b c + lOf ρ b d k := by
  obtain ⟨e1, e2⟩ := ch_d (c := c) hd
  show lP ρ k b ((5 * c + d) / 5) + lOf ρ b ((5 * c + d) % 5) k = _
  rw [e1, e2]
theorem wP_ch (hd : d < 5) : wP ρ (b + 1) (5 * c + d) = wP ρ b c + wOf ρ b d := by
  obtain ⟨e1, e2⟩ := ch_d (c := c) hd
  show wP ρ b ((5 * c + d) / 5) + wOf ρ b ((5 * c + d) % 5) = _
  rw [e1, e2]
theorem okP_ch (hd : d < 5) : okP ρ w (b + 1) (5 * c + d) ↔ okP ρ w b c ∧ d ≤ ρ (22 + 21 * b) + 1 ∧ (w = b + 1 → d = 0) := by
  obtain ⟨e1, e2⟩ := ch_d (c := c) hd
  show okP ρ w b ((5 * c + d) / 5) ∧ (5 * c + d) % 5 ≤ _ ∧ (_ → (5 * c + d) % 5 = 0) ↔ _
  rw [e1, e2]
theorem dP_ch (hd : d < 5) {i : Nat} (hi : i < b) : dP (b + 1) (5 * c + d) i = dP b c i := by
  obtain ⟨e1, e2⟩ := ch_d (c := c) hd
  show (if i = b then (5 * c + d) % 5 else dP b ((5 * c + d) / 5) i) = _
  rw [if_neg (by omega), e1]
theorem dP_at (hd : d < 5) : dP (b + 1) (5 * c + d) b = d := by
  obtain ⟨e1, e2⟩ := ch_d (c := c) hd
  show (if b = b then (5 * c + d) % 5 else dP b ((5 * c + d) / 5) b) = _
  rw [if_pos rfl, e2]
theorem fea_ch (hd : d < 5) (h : feaP ρ w m b c) (h1 : d ≤ ρ (22 + 21 * b) + 1) (h2 : w = b + 1 → d = 0) (h3 : ∀ k, k < 3 → lOf ρ b d k ≤ rmA ρ m k - lP ρ k b c) : feaP ρ w m (b + 1) (5 * c + d) :=
  ⟨(okP_ch hd).mpr ⟨h.1, h1, h2⟩, fun k hk => by rw [lP_ch hd]; have := h.2 k hk; have := h3 k hk; omega⟩
theorem fea_chN (hd : d < 5) (h : ¬ ∀ k, k < 3 → lOf ρ b d k ≤ rmA ρ m k - lP ρ k b c) : ¬ feaP ρ w m (b + 1) (5 * c + d) := by
  intro z
  refine h fun k hk => ?_
  have := z.2 k hk
  rw [lP_ch hd] at this
  omega
theorem fea_chO (hd : d < 5) (h : ρ (22 + 21 * b) + 1 < d ∨ (w = b + 1 ∧ d ≠ 0)) : ¬ feaP ρ w m (b + 1) (5 * c + d) := by
  intro z
  have := (okP_ch hd).mp z.1
  rcases h with h | h
  · omega
  · exact h.2 (this.2.2 h.1)
theorem fea_0P : feaP ρ w m 0 0 := ⟨trivial, fun k _ => Nat.zero_le _⟩
theorem wOf_le (h : Inv ρ) (hb : b < ρ 4) (hd : d ≤ ρ (22 + 21 * b) + 1) : wOf ρ b d ≤ 2699973 := by
  unfold wOf; split
  · exact Nat.zero_le _
  · exact worOf_le h hb (by omega)
theorem lOf_le (h : Inv ρ) (hb : b < ρ 4) (hd : d ≤ ρ (22 + 21 * b) + 1) (hk : k < 3) : lOf ρ b d k ≤ 9 := by
  unfold lOf; split
  · exact Nat.zero_le _
  · exact lotOf_le h hb (by omega) hk
theorem wP_le (h : Inv ρ) : ∀ {b c : Nat}, b ≤ ρ 4 → okP ρ w b c → wP ρ b c ≤ b * 2699973
  | 0, _, _, _ => Nat.zero_le _
  | b + 1, c, hb, ho => by
    have h1 := wP_le h (b := b) (c := c / 5) (by omega) ho.1
    have h2 := wOf_le h (b := b) (d := c % 5) (by omega) ho.2.1
    show wP ρ b (c / 5) + wOf ρ b (c % 5) ≤ _
    omega
/-- what the best so far keeps -/
def goodS (ρ : Nat → Nat) (w n : Nat) (s : Nat × Nat) : Prop := s.1 ≤ n * 2699973 + 1 ∧ (0 < s.1 → okP ρ w n s.2 ∧ s.1 = wP ρ n s.2 + 1)
theorem good_0 : goodS ρ w n (0, 0) := ⟨Nat.zero_le _, fun h => absurd h (by decide)⟩
theorem good_st {t : Nat} (h : Inv ρ) (hn : n ≤ ρ 4) (hs : goodS ρ w n s) : goodS ρ w n (stA ρ w m n s t) := by
  unfold stA; split
  · rename_i q
    exact ⟨by have := wP_le h hn (feaB_iff.mp q.1).1; show wP ρ n t + 1 ≤ _; omega, fun _ => ⟨(feaB_iff.mp q.1).1, rfl⟩⟩
  · exact hs
theorem good_FA {lo i : Nat} (h : Inv ρ) (hn : n ≤ ρ 4) (hs : goodS ρ w n s) : goodS ρ w n (FA ρ w m n s lo i) := by
  induction i with
  | zero => exact hs
  | succ i ih => exact good_st h hn ih
theorem good_FB (h : Inv ρ) (hn : b + r ≤ ρ 4) (hs : goodS ρ w (b + r) s) : goodS ρ w (b + r) (FB ρ w m r b c s) := by
  rw [FB_FA]; exact good_FA h hn hs
theorem good_FC (h : Inv ρ) (hn : b + (r + 1) ≤ ρ 4) (hs : goodS ρ w (b + (r + 1)) s) : ∀ {d : Nat}, goodS ρ w (b + (r + 1)) (FC ρ w m r b c s d)
  | 0 => hs
  | d + 1 => by
    have := good_FB (m := m) (c := 5 * c + d) (b := b + 1) (r := r) h (by omega) (by rw [show b + 1 + r = b + (r + 1) by omega]; exact good_FC h hn hs (d := d))
    rw [show b + 1 + r = b + (r + 1) by omega] at this
    exact this
theorem st_1 {t : Nat} : s.1 ≤ (stA ρ w m n s t).1 := by
  unfold stA; split
  · rename_i q; exact Nat.le_succ_of_le q.2
  · exact Nat.le_refl _
theorem FA_1 {lo i : Nat} : s.1 ≤ (FA ρ w m n s lo i).1 := by
  induction i with
  | zero => exact Nat.le_refl _
  | succ i ih => exact Nat.le_trans ih st_1
theorem ok_zero (hw : w ≤ 6) : ∀ {b : Nat}, okP ρ w b 0 ∧ (∀ k, lP ρ k b 0 = 0)
  | 0 => ⟨trivial, fun _ => rfl⟩
  | b + 1 => ⟨⟨(ok_zero hw (b := b)).1, Nat.zero_le _, fun _ => rfl⟩, fun k => by show lP ρ k b (0 / 5) + lOf ρ b (0 % 5) k = 0; rw [show 0 / 5 = 0 from rfl, (ok_zero hw (b := b)).2 k]; rfl⟩
/-- the best of all: nothing for all is allowed -/
def bestA (ρ : Nat → Nat) (w m : Nat) : Nat × Nat := FA ρ w m (ρ 4) (0, 0) 0 (5 ^ ρ 4)
theorem bestA_pos (hw : w ≤ 6) : 0 < (bestA ρ w m).1 := by
  unfold bestA
  obtain ⟨N, hN⟩ : ∃ N, 5 ^ ρ 4 = 1 + N := ⟨5 ^ ρ 4 - 1, by have := Nat.pos_of_ne_zero (show 5 ^ ρ 4 ≠ 0 from by simp); omega⟩
  rw [hN, FA_add]
  refine Nat.lt_of_lt_of_le ?_ FA_1
  show 0 < (stA ρ w m (ρ 4) (0, 0) (0 + 0)).1
  unfold stA
  rw [if_pos ⟨feaB_iff.mpr ⟨(ok_zero hw).1, fun k _ => by rw [(ok_zero hw).2 k]; exact Nat.zero_le _⟩, Nat.zero_le _⟩]
  exact Nat.succ_pos _
theorem bestA_FB : FB ρ w m (ρ 4) 0 0 (0, 0) = bestA ρ w m := by
  rw [FB_FA]; unfold bestA; rw [Nat.zero_add, Nat.zero_mul]
theorem bestA_good (h : Inv ρ) : goodS ρ w (ρ 4) (bestA ρ w m) := good_FA h (Nat.le_refl _) good_0
def worA (ρ : Nat → Nat) (w m : Nat) : Nat := (bestA ρ w m).1 - 1
def choA (ρ : Nat → Nat) (w m b : Nat) : Nat := dP (ρ 4) (bestA ρ w m).2 b
theorem worA_le (h : Inv ρ) : worA ρ w m ≤ 16199838 := by
  have h1 := (bestA_good (w := w) (m := m) h).1
  have h6 := h.n6
  unfold worA
  omega
theorem dP_ok : ∀ {n t b : Nat}, okP ρ w n t → b < n → dP n t b ≤ ρ (22 + 21 * b) + 1
  | 0, _, _, _, h => absurd h (Nat.not_lt_zero _)
  | n + 1, t, b, ho, hb => by
    unfold dP; split
    · subst b; exact ho.2.1
    · exact dP_ok ho.1 (by omega)
theorem dP_5 : ∀ {n t b : Nat}, dP n t b < 5
  | 0, _, _ => by unfold dP; decide
  | n + 1, t, b => by
    unfold dP; split
    · omega
    · exact dP_5
theorem choA_ok (h : Inv ρ) (hw : w ≤ 6) (hb : b < ρ 4) : choA ρ w m b ≤ ρ (22 + 21 * b) + 1 :=
  dP_ok ((bestA_good (w := w) (m := m) h).2 (bestA_pos hw)).1 hb
theorem lP_sum : ∀ {n t : Nat} {tr : Nat → Nat}, (∀ b, b < n → tr b = dP n t b) → sumB (fun b => lOf ρ b (tr b) k) n = lP ρ k n t
  | 0, _, _, _ => rfl
  | n + 1, t, tr, h => by
    show sumB (fun b => lOf ρ b (tr b) k) n + lOf ρ n (tr n) k = lP ρ k n (t / 5) + lOf ρ n (t % 5) k
    have h1 := h n (by omega)
    unfold dP at h1
    rw [if_pos rfl] at h1
    rw [h1, lP_sum (n := n) (t := t / 5) (fun b hb => by have := h b (by omega); unfold dP at this; rw [if_neg (by omega)] at this; exact this)]
end ASG
