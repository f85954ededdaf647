/-! the class's search: rows of what is left, taken, and the best so far -/
def asgW (Y : Nat → Nat) (z : Nat) (lf : Nat → Nat) (tk bt : Nat → Int32) (bw : Int32) : va_W := [(z, .inr (0, [.ref (z + 1), .ref (z + 2), .ref (z + 3), .int bw])), (z + 1, .inl (Y 0, 3, .inl (rowF lf))), (z + 2, .inl (Y 0, 6, .inl tk)), (z + 3, .inl (Y 0, 6, .inl bt))]
def tkM (lf ρ : Nat → Nat) (b i : Nat) : Nat → Nat := setN (setN (setN lf 0 (lf 0 - lotOf ρ b i 0)) 1 (lf 1 - lotOf ρ b i 1)) 2 (lf 2 - lotOf ρ b i 2)
def tkP (lf ρ : Nat → Nat) (b i : Nat) : Nat → Nat := setN (setN (setN lf 0 (lf 0 + lotOf ρ b i 0)) 1 (lf 1 + lotOf ρ b i 1)) 2 (lf 2 + lotOf ρ b i 2)
abbrev fitA (lf ρ : Nat → Nat) (b i : Nat) : Prop := lotOf ρ b i 0 ≤ lf 0 ∧ lotOf ρ b i 1 ≤ lf 1 ∧ lotOf ρ b i 2 ≤ lf 2
def BT (ρ : Nat → Nat) (bt : Nat → Int32) (s : Nat × Nat) : Prop := s.1 = 0 ∨ ∀ b, b < ρ 4 → bt b = mw (dP (ρ 4) s.2 b)
def lfOk (ρ : Nat → Nat) (m b cc : Nat) (lf : Nat → Nat) : Prop := ∀ k, k < 3 → lf k = rmA ρ m k - lP ρ k b cc
section ASG2
variable {ρ : Nat → Nat} {w m b cc i d r : Nat} {lf : Nat → Nat} {tk bt : Nat → Int32} {s : Nat × Nat}
theorem tk_back (h : fitA lf ρ b i) : tkP (tkM lf ρ b i) ρ b i = lf := by
  obtain ⟨h0, h1, h2⟩ := h
  have e0 : tkM lf ρ b i 0 = lf 0 - lotOf ρ b i 0 := rfl
  have e1 : tkM lf ρ b i 1 = lf 1 - lotOf ρ b i 1 := rfl
  have e2 : tkM lf ρ b i 2 = lf 2 - lotOf ρ b i 2 := rfl
  funext k
  unfold tkP
  by_cases c2 : k = 2
  · subst c2; rw [setN_s, e2]; omega
  rw [setN_n c2]
  by_cases c1 : k = 1
  · subst c1; rw [setN_s, e1]; omega
  rw [setN_n c1]
  by_cases c0 : k = 0
  · subst c0; rw [setN_s, e0]; omega
  rw [setN_n c0]
  unfold tkM
  rw [setN_n c2, setN_n c1, setN_n c0]
theorem fit_all (hl : lfOk ρ m b cc lf) (hd : 0 < d) (h : fitA lf ρ b (d - 1)) : ∀ k, k < 3 → lOf ρ b d k ≤ rmA ρ m k - lP ρ k b cc := by
  intro k hk
  rw [← hl k hk]
  unfold lOf
  rw [if_neg (by omega)]
  exact k3 (P := fun k => lotOf ρ b (d - 1) k ≤ lf k) hk h.1 h.2.1 h.2.2
theorem fit_not (hl : lfOk ρ m b cc lf) (hd : 0 < d) (h : ¬ fitA lf ρ b (d - 1)) : ¬ ∀ k, k < 3 → lOf ρ b d k ≤ rmA ρ m k - lP ρ k b cc := by
  intro z
  refine h ⟨?_, ?_, ?_⟩
  · have := z 0 (by decide); rw [← hl 0 (by decide)] at this; unfold lOf at this; rw [if_neg (by omega)] at this; exact this
  · have := z 1 (by decide); rw [← hl 1 (by decide)] at this; unfold lOf at this; rw [if_neg (by omega)] at this; exact this
  · have := z 2 (by decide); rw [← hl 2 (by decide)] at this; unfold lOf at this; rw [if_neg (by omega)] at this; exact this
theorem lf_take (hl : lfOk ρ m b cc lf) (hd : 0 < d) (h5 : d < 5) : lfOk ρ m (b + 1) (5 * cc + d) (tkM lf ρ b (d - 1)) := by
  intro k hk
  rw [lP_ch h5]
  have e : lOf ρ b d k = lotOf ρ b (d - 1) k := by unfold lOf; rw [if_neg (by omega)]
  have e2 : tkM lf ρ b (d - 1) k = lf k - lotOf ρ b (d - 1) k := k3 (P := fun k => tkM lf ρ b (d - 1) k = lf k - lotOf ρ b (d - 1) k) hk rfl rfl rfl
  rw [e, e2, hl k hk]
  omega
theorem lf_none (hl : lfOk ρ m b cc lf) : lfOk ρ m (b + 1) (5 * cc + 0) lf := by
  intro k hk
  rw [lP_ch (by decide), hl k hk]
  show _ = _ - (lP ρ k b cc + 0)
  rfl
theorem lf_le (hI : Inv ρ) (hl : lfOk ρ m b cc lf) {k : Nat} (hk : k < 3) : lf k ≤ 10 := by
  have h1 := (hI.sup (q := 5 + k) hk rfl).2
  rw [hl k hk]
  unfold rmA
  split <;> omega
theorem tk_set (htk : ∀ q, q < b → tk q = mw (dP b cc q)) (h5 : d < 5) : ∀ q, q < b + 1 → upd tk b (mw d) q = mw (dP (b + 1) (5 * cc + d) q) := by
  intro q hq
  unfold upd
  by_cases e : q = b
  · subst e; rw [if_pos rfl, dP_at h5]
  · rw [if_neg e, htk q (by omega), dP_ch h5 (by omega)]
theorem tk_low {t2 : Nat → Int32} {x : Int32} (h : ∀ q, q < b + 1 → t2 q = upd tk b x q) : ∀ q, q < b → t2 q = tk q := by
  intro q hq
  rw [h q (by omega)]
  unfold upd
  rw [if_neg (by omega)]
theorem tk_upd {x : Int32} : ∀ q, q < b → upd tk b x q = tk q := by
  intro q hq; unfold upd; rw [if_neg (by omega)]
theorem va_cpy6 {k : Nat} (h : k < 6) : va_cpy tk bt 0 0 6 k = tk k := by
  unfold va_cpy
  rw [if_pos (by omega)]
  congr 1
  omega
theorem keep_1 (hf : feaP ρ w m b cc) : FB ρ w m 0 b cc s = if s.1 ≤ wP ρ b cc then (wP ρ b cc + 1, cc) else s := by
  unfold FB stA
  by_cases h : s.1 ≤ wP ρ b cc
  · rw [if_pos ⟨feaB_iff.mpr hf, h⟩, if_pos h]
  · rw [if_neg (fun z => h z.2), if_neg h]
theorem keep_bt (hI : Inv ρ) (hn : b = ρ 4) (hf : feaP ρ w m b cc) (htk : ∀ q, q < b → tk q = mw (dP b cc q)) (hbt : BT ρ bt s) : BT ρ (if s.1 ≤ wP ρ b cc then va_cpy tk bt 0 0 6 else bt) (FB ρ w m 0 b cc s) := by
  have := hI.n6
  rw [keep_1 hf]
  split
  · refine Or.inr fun q hq => ?_
    rw [va_cpy6 (by omega), htk q (by omega), hn]
  · exact hbt
theorem keep_bw (hf : feaP ρ w m b cc) : (if s.1 ≤ wP ρ b cc then wP ρ b cc + 1 else s.1) = (FB ρ w m 0 b cc s).1 := by
  rw [keep_1 hf]
  split <;> rfl
/-! the reference's search: the digits of a code from the last bidder to the first -/
def ASt (ρ : Nat → Nat) (w t b lc : Nat) (f : Bool) (acc : Nat) (tr : Nat → Nat) : Prop :=
  (f = true → (okP ρ w (ρ 4) t ↔ okP ρ w b lc) ∧ wP ρ (ρ 4) t = wP ρ b lc + acc) ∧ (f = false → ¬ okP ρ w (ρ 4) t) ∧ (∀ i, b ≤ i → i < ρ 4 → tr i = dP (ρ 4) t i) ∧ (∀ i, i < b → dP (ρ 4) t i = dP b lc i) ∧ acc ≤ (ρ 4 - b) * 2699973
theorem as_0 {tr : Nat → Nat} {t : Nat} : ASt ρ w t (ρ 4) t true 0 tr :=
  ⟨fun _ => ⟨Iff.rfl, rfl⟩, fun h => absurd h (by decide), fun i h1 h2 => absurd h1 (by omega), fun _ _ => rfl, Nat.zero_le _⟩
theorem as_1 {tr : Nat → Nat} {t j lc acc acc2 : Nat} {f f2 : Bool} (hI : Inv ρ) (hj : j < ρ 4) (h : ASt ρ w t (j + 1) lc f acc tr) (hf : f2 = decide (f = true ∧ lc % 5 ≤ ρ (22 + 21 * j) + 1 ∧ (w = j + 1 → lc % 5 = 0))) (ha : acc2 = acc + (if f2 = true then wOf ρ j (lc % 5) else 0)) : ASt ρ w t j (lc / 5) f2 acc2 (setN tr j (lc % 5)) := by
  obtain ⟨h1, h2, h3, h4, h5⟩ := h
  have hd : dP (ρ 4) t j = lc % 5 := by rw [h4 j (by omega)]; unfold dP; rw [if_pos rfl]
  refine ⟨fun e => ?_, fun e => ?_, fun i hi hn => ?_, fun i hi => ?_, ?_⟩
  · rw [e] at hf ha
    obtain ⟨c1, c2, c3⟩ := of_decide_eq_true hf.symm
    obtain ⟨k1, k2⟩ := h1 c1
    rw [if_pos rfl] at ha
    refine ⟨k1.trans ⟨fun z => z.1, fun z => ⟨z, c2, c3⟩⟩, ?_⟩
    rw [k2, ha]
    show wP ρ j (lc / 5) + wOf ρ j (lc % 5) + acc = _
    omega
  · rw [e] at hf
    have hn := of_decide_eq_false hf.symm
    cases hfb : f
    · exact h2 hfb
    · intro z
      have := (h1 hfb).1.mp z
      exact hn ⟨hfb, this.2.1, this.2.2⟩
  · by_cases e : i = j
    · subst e; rw [setN_s, hd]
    · rw [setN_n e]; exact h3 i (by omega) hn
  · rw [h4 i (by omega)]
    show (if i = j then _ else dP j (lc / 5) i) = _
    rw [if_neg (by omega)]
  · rw [ha]
    split
    · rename_i e
      rw [e] at hf
      have hq := wOf_le hI hj (of_decide_eq_true hf.symm).2.1
      rw [show ρ 4 - j = (ρ 4 - (j + 1)) + 1 by omega, Nat.add_mul]
      exact Nat.add_le_add h5 (by rw [Nat.one_mul]; exact hq)
    · rw [show ρ 4 - j = (ρ 4 - (j + 1)) + 1 by omega, Nat.add_mul]
      exact Nat.le_trans h5 (Nat.le_add_right _ _)
theorem as_end {tr : Nat → Nat} {t lc acc : Nat} (h : ASt ρ w t 0 lc true acc tr) : okP ρ w (ρ 4) t ∧ wP ρ (ρ 4) t = acc ∧ ∀ i, i < ρ 4 → tr i = dP (ρ 4) t i :=
  ⟨(h.1 rfl).1.mpr trivial, by have := (h.1 rfl).2; rw [this]; show 0 + acc = acc; omega, fun i hi => h.2.2.1 i (Nat.zero_le _) hi⟩
def fitS (ρ : Nat → Nat) (m : Nat) (tr : Nat → Nat) (k : Nat) : Prop := sumB (fun b => lOf ρ b (tr b) k) (ρ 4) ≤ rmA ρ m k
theorem fitS_eq {tr : Nat → Nat} {t : Nat} (h : ∀ i, i < ρ 4 → tr i = dP (ρ 4) t i) (ho : okP ρ w (ρ 4) t) : (sumB (fun b => lOf ρ b (tr b) 0) (ρ 4) ≤ rmA ρ m 0 ∧ sumB (fun b => lOf ρ b (tr b) 1) (ρ 4) ≤ rmA ρ m 1 ∧ sumB (fun b => lOf ρ b (tr b) 2) (ρ 4) ≤ rmA ρ m 2) ↔ feaP ρ w m (ρ 4) t := by
  rw [lP_sum h, lP_sum h, lP_sum h]
  constructor
  · rintro ⟨h1, h2, h3⟩; exact ⟨ho, fun k hk => k3 (P := fun k => lP ρ k (ρ 4) t ≤ rmA ρ m k) hk h1 h2 h3⟩
  · rintro ⟨h1, h2⟩; exact ⟨h2 0 (by decide), h2 1 (by decide), h2 2 (by decide)⟩
def BTm (ρ : Nat → Nat) (ch : Nat → Nat) (s : Nat × Nat) : Prop := s.1 = 0 ∨ ∀ b, b < ρ 4 → ch b = dP (ρ 4) s.2 b
def FZ (ρ : Nat → Nat) (w m t : Nat) : Nat × Nat := FA ρ w m (ρ 4) (0, 0) 0 t
theorem FZ_1 {t : Nat} : FZ ρ w m (1 + t) = stA ρ w m (ρ 4) (FZ ρ w m t) t := by
  unfold FZ
  rw [Nat.add_comm 1 t]
  show stA ρ w m (ρ 4) _ (0 + t) = _
  rw [Nat.zero_add]
theorem FZ_skip {t : Nat} (h : ¬ (feaP ρ w m (ρ 4) t ∧ (FZ ρ w m t).1 ≤ wP ρ (ρ 4) t)) : FZ ρ w m (1 + t) = FZ ρ w m t := by
  rw [FZ_1]; unfold stA; rw [if_neg (fun z => h ⟨feaB_iff.mp z.1, z.2⟩)]
theorem FZ_take {t : Nat} (h1 : feaP ρ w m (ρ 4) t) (h2 : (FZ ρ w m t).1 ≤ wP ρ (ρ 4) t) : FZ ρ w m (1 + t) = (wP ρ (ρ 4) t + 1, t) := by
  rw [FZ_1]; unfold stA; rw [if_pos ⟨feaB_iff.mpr h1, h2⟩]
theorem FZ_end : FZ ρ w m (5 ^ ρ 4) = bestA ρ w m := rfl
theorem FZ_good {t : Nat} (h : Inv ρ) : (FZ ρ w m t).1 ≤ 16199839 := by
  have := (good_FA (w := w) (m := m) (lo := 0) (i := t) h (Nat.le_refl _) good_0).1
  have h6 := h.n6
  unfold FZ
  omega
theorem pow5 (h : b ≤ 6) : 5 ^ b ≤ 15625 := Nat.le_trans (Nat.pow_le_pow_right (by decide) h) (by decide)
theorem mw_dec {j : Nat} : mw (j + 1) + Int32.ofInt (-1) = mw j := by
  unfold mw
  rw [← Int32.ofInt_add]
  congr 1
  omega
theorem mw_neg {n : Nat} (h : n < 2 ^ 31) : mw n < 0 ↔ n = 0 := by
  rw [Int32.lt_iff_toInt_lt, mw_toInt h, show (0 : Int32).toInt = 0 from rfl]; omega
theorem mw_sub1 {n : Nat} : nI n - nI 1 = mw n := by
  unfold mw
  rw [show nI n = Int32.ofInt (n : Int) from Int32.ofInt_eq_ofNat.symm, show nI 1 = Int32.ofInt 1 from rfl, ← Int32.ofInt_sub]
theorem sub_neg1 {a x : Nat} : nI a - (-1) * nI x = nI (a + x) := by
  rw [show nI a = Int32.ofInt (a : Int) from Int32.ofInt_eq_ofNat.symm, show nI x = Int32.ofInt (x : Int) from Int32.ofInt_eq_ofNat.symm, show (-1 : Int32) = Int32.ofInt (-1) from rfl, ← Int32.ofInt_mul, ← Int32.ofInt_sub]
  rw [show (a : Int) - -1 * (x : Int) = ((a + x : Nat) : Int) by omega]
  exact Int32.ofInt_eq_ofNat
end ASG2
