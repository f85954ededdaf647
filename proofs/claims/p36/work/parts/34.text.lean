/-! texts -/
def okD (lt : Nat → Nat) (n i p ch : Nat) : Prop := i + 1 + p < n ∧ chS (lsI ch) p ≤ lt (i + 1 + p) ∧ lt (i + 1 + p) ≤ chS (gsI ch) p
def okE (lt : Nat → Nat) (n i p ch : Nat) : Bool := decide (i + 1 + p < n) && (decide (chS (lsI ch) p ≤ lt (i + 1 + p)) && decide (lt (i + 1 + p) ≤ chS (gsI ch) p))
theorem okE_iff {lt : Nat → Nat} {n i p ch : Nat} : okE lt n i p ch = true ↔ okD lt n i p ch := by
  unfold okE okD
  rw [Bool.and_eq_true, Bool.and_eq_true, decide_eq_true_eq, decide_eq_true_eq, decide_eq_true_eq]
def fbD (lt : Nat → Nat) (n i ch : Nat) : Nat → Nat → Nat
  | p, 0 => p
  | p, k + 1 => if okE lt n i p ch = true then fbD lt n i ch (p + 1) k else p
def fb (lt : Nat → Nat) (n i ch : Nat) : Nat := fbD lt n i ch 0 (dgN ch)
def digs (lt : Nat → Nat) (i k : Nat) : Nat → Nat
  | 0 => 0
  | q + 1 => 10 * digs lt i k q + (lt (i + q) - 48)
def numD (lt : Nat → Nat) (i : Nat) : Nat → Nat
  | 0 => 0
  | q + 1 => 10 * numD lt i q + (lt (i + q) - 48)
def cmT (ρ lt : Nat → Nat) (i : Nat) : Nat :=
  if lt i = 115 then tOffer ρ (numD lt (i + 1) 1) (numD lt (i + 2) 1) (numD lt (i + 3) 1) else if lt i = 98 then tJoin ρ (numD lt (i + 1) 2) (numD lt (i + 3) 1) else if lt i = 118 then tVal ρ (numD lt (i + 1) 1) (numD lt (i + 2) 1) (numD lt (i + 3) 3)
  else if lt i = 113 then tAsk ρ (numD lt (i + 1) 1) (numD lt (i + 2) 1) (numD lt (i + 3) 1) else if lt i = 119 then tBid ρ (numD lt (i + 1) 1) else whyClose ρ
def cmR (ρ lt : Nat → Nat) (i : Nat) : Nat → Nat :=
  if lt i = 115 then dOffer ρ (numD lt (i + 1) 1) (numD lt (i + 2) 1) (numD lt (i + 3) 1) else if lt i = 98 then dJoin ρ (numD lt (i + 1) 2) (numD lt (i + 3) 1) else if lt i = 118 then dVal ρ (numD lt (i + 1) 1) (numD lt (i + 2) 1) (numD lt (i + 3) 3)
  else if lt i = 113 then dAsk ρ (numD lt (i + 1) 1) (numD lt (i + 2) 1) (numD lt (i + 3) 1) else if lt i = 119 then dBid ρ (numD lt (i + 1) 1) else dClose ρ
def cmO (ρ lt : Nat → Nat) (i : Nat) : Nat := if cmT ρ lt i = 0 then 0 else 1
/-- where the text is wrong from a place on: the place and one; 0: nowhere -/
def txE (lt : Nat → Nat) (n : Nat) : Nat → Nat → Nat
  | 0, _ => 0
  | f + 1, i => if n ≤ i then 0 else if idxC (lt i) = 0 then i + 1 else if fb lt n i (lt i) < dgN (lt i) then i + 1 + fb lt n i (lt i) + 1 else txE lt n f (i + 1 + dgN (lt i))
def txR (lt : Nat → Nat) (n : Nat) : Nat → Nat → (Nat → Nat) → Nat → (Nat → Nat) × Nat
  | 0, _, ρ, o => (ρ, o)
  | f + 1, i, ρ, o => if n ≤ i then (ρ, o) else txR lt n f (i + 1 + dgN (lt i)) (cmR ρ lt i) (o + cmO ρ lt i)
section TXT
variable {lt : Nat → Nat} {n i p ch k : Nat} {ρ : Nat → Nat}
theorem fbD_all : ∀ {k p : Nat}, (∀ q, p ≤ q → q < p + k → okD lt n i q ch) → fbD lt n i ch p k = p + k
  | 0, _, _ => rfl
  | k + 1, p, h => by
    unfold fbD
    rw [if_pos (okE_iff.mpr (h p (Nat.le_refl _) (by omega))), fbD_all (fun q h1 h2 => h q (by omega) (by omega))]
    omega
theorem fbD_at : ∀ {k p r : Nat}, p ≤ r → r < p + k → (∀ q, p ≤ q → q < r → okD lt n i q ch) → ¬ okD lt n i r ch → fbD lt n i ch p k = r
  | 0, _, _, h1, h2, _, _ => by omega
  | k + 1, p, r, h1, h2, h3, h4 => by
    unfold fbD
    by_cases e : p = r
    · subst e; rw [if_neg (fun z => h4 (okE_iff.mp z))]
    · rw [if_pos (okE_iff.mpr (h3 p (Nat.le_refl _) (by omega)))]
      exact fbD_at (by omega) (by omega) (fun q g1 g2 => h3 q (by omega) g2) h4
theorem fb_all (h : ∀ q, q < dgN ch → okD lt n i q ch) : fb lt n i ch = dgN ch := by
  unfold fb; rw [fbD_all (fun q _ h2 => h q (by omega))]; omega
theorem fb_at (hp : p < dgN ch) (h : ∀ q, q < p → okD lt n i q ch) (hn : ¬ okD lt n i p ch) : fb lt n i ch = p := by
  unfold fb; exact fbD_at (Nat.zero_le _) (by omega) (fun q _ h2 => h q h2) hn
theorem fbD_ok : ∀ {k p : Nat}, fbD lt n i ch p k = p + k → ∀ q, p ≤ q → q < p + k → okD lt n i q ch
  | 0, _, _, q, h1, h2 => by omega
  | k + 1, p, h, q, h1, h2 => by
    unfold fbD at h
    by_cases e : okE lt n i p ch = true
    · rw [if_pos e] at h
      by_cases eq : q = p
      · subst eq; exact okE_iff.mp e
      · exact fbD_ok (k := k) (p := p + 1) (by omega) q (by omega) (by omega)
    · rw [if_neg e] at h; omega
theorem fb_ok (h : ¬ fb lt n i ch < dgN ch) : ∀ q, q < dgN ch → okD lt n i q ch := by
  have hle : ∀ k p, fbD lt n i ch p k ≤ p + k := by
    intro k
    induction k with
    | zero => intro p; exact Nat.le_refl _
    | succ k ih => intro p; unfold fbD; split; exact Nat.le_trans (ih (p + 1)) (by omega); omega
  have h1 := hle (dgN ch) 0
  unfold fb at h
  exact fun q hq => fbD_ok (k := dgN ch) (p := 0) (by omega) q (Nat.zero_le _) (by omega)
/-- enough to go on -/
theorem txE_f : ∀ {f g i : Nat}, n - i < f → n - i < g → txE lt n f i = txE lt n g i
  | 0, _, _, h, _ => by omega
  | _ + 1, 0, _, _, h => by omega
  | f + 1, g + 1, i, h1, h2 => by
    unfold txE
    by_cases c : n ≤ i
    · rw [if_pos c, if_pos c]
    · rw [if_neg c, if_neg c, txE_f (f := f) (g := g) (by omega) (by omega)]
theorem txR_f : ∀ {f g i : Nat} {ρ : Nat → Nat} {o : Nat}, n - i < f → n - i < g → txR lt n f i ρ o = txR lt n g i ρ o
  | 0, _, _, _, _, h, _ => by omega
  | _ + 1, 0, _, _, _, _, h => by omega
  | f + 1, g + 1, i, ρ, o, h1, h2 => by
    unfold txR
    by_cases c : n ≤ i
    · rw [if_pos c, if_pos c]
    · rw [if_neg c, if_neg c, txR_f (f := f) (g := g) (by omega) (by omega)]
def tE (lt : Nat → Nat) (n i : Nat) : Nat := txE lt n (n + 1) i
def tR (lt : Nat → Nat) (n i : Nat) (ρ : Nat → Nat) (o : Nat) : (Nat → Nat) × Nat := txR lt n (n + 1) i ρ o
theorem tE_end (h : n ≤ i) : tE lt n i = 0 := by unfold tE txE; rw [if_pos h]
theorem tE_no (h : ¬ n ≤ i) (hc : idxC (lt i) = 0) : tE lt n i = i + 1 := by unfold tE txE; rw [if_neg h, if_pos hc]
theorem tE_bad (h : ¬ n ≤ i) (hc : idxC (lt i) ≠ 0) (hp : p < dgN (lt i)) (h1 : ∀ q, q < p → okD lt n i q (lt i)) (hn : ¬ okD lt n i p (lt i)) : tE lt n i = i + 1 + p + 1 := by
  unfold tE txE; rw [if_neg h, if_neg hc, fb_at hp h1 hn, if_pos hp]
theorem tE_next (h : ¬ n ≤ i) (hc : idxC (lt i) ≠ 0) (h1 : ∀ q, q < dgN (lt i) → okD lt n i q (lt i)) : tE lt n i = tE lt n (i + 1 + dgN (lt i)) := by
  unfold tE
  rw [show txE lt n (n + 1) i = txE lt n n (i + 1 + dgN (lt i)) from by
    show (if n ≤ i then 0 else _) = _
    rw [if_neg h, if_neg hc, fb_all h1, if_neg (by omega)]]
  exact txE_f (by omega) (by omega)
theorem tE_z (h : ¬ n ≤ i) (he : tE lt n i = 0) : idxC (lt i) ≠ 0 ∧ (∀ q, q < dgN (lt i) → okD lt n i q (lt i)) := by
  by_cases hc : idxC (lt i) = 0
  · rw [tE_no h hc] at he; omega
  · refine ⟨hc, ?_⟩
    by_cases hb : fb lt n i (lt i) < dgN (lt i)
    · unfold tE txE at he
      rw [if_neg h, if_neg hc, if_pos hb] at he
      omega
    · exact fb_ok hb
theorem tR_end {o : Nat} (h : n ≤ i) : tR lt n i ρ o = (ρ, o) := by unfold tR txR; rw [if_pos h]
theorem tR_next {o : Nat} (h : ¬ n ≤ i) : tR lt n i ρ o = tR lt n (i + 1 + dgN (lt i)) (cmR ρ lt i) (o + cmO ρ lt i) := by
  unfold tR
  rw [show txR lt n (n + 1) i ρ o = txR lt n n (i + 1 + dgN (lt i)) (cmR ρ lt i) (o + cmO ρ lt i) from by
    show (if n ≤ i then _ else _) = _
    rw [if_neg h]]
  exact txR_f (by omega) (by omega)
def errP (lt : Nat → Nat) (n : Nat) : Nat := if n = 0 ∨ lt 0 ≠ 76 then 1 else tE lt n 1
theorem Inv_cmR (h : Inv ρ) : Inv (cmR ρ lt i) := by
  unfold cmR
  (repeat' split) <;> first | exact Inv_dOffer h | exact Inv_dJoin h | exact Inv_dVal h | exact Inv_dAsk h | exact Inv_dBid h | exact Inv_dClose h
theorem Inv_txR : ∀ {f i : Nat} {ρ : Nat → Nat} {o : Nat}, Inv ρ → Inv (txR lt n f i ρ o).1
  | 0, _, _, _, h => h
  | f + 1, i, ρ, o, h => by
    unfold txR
    split
    · exact h
    · exact Inv_txR (Inv_cmR h)
theorem cmO_le : cmO ρ lt i ≤ 1 := by unfold cmO; split <;> decide
theorem numD_le (h : ∀ q, q < k → lt (i + q) ≤ 57) (hk : k ≤ 3) : numD lt i k ≤ 999 := by
  rcases (show k = 0 ∨ k = 1 ∨ k = 2 ∨ k = 3 by omega) with rfl | rfl | rfl | rfl
  · exact Nat.zero_le _
  · have := h 0 (by decide); unfold numD numD; omega
  · have h0 := h 0 (by decide); have h1 := h 1 (by decide); unfold numD numD numD; omega
  · have h0 := h 0 (by decide); have h1 := h 1 (by decide); have h2 := h 2 (by decide); unfold numD numD numD numD; omega
theorem numD_1 : numD lt i 1 = lt i - 48 := by unfold numD numD; rw [show i + 0 = i from rfl]; omega
theorem numD_2 : numD lt i 2 = 10 * (lt i - 48) + (lt (i + 1) - 48) := by unfold numD; rw [numD_1]
theorem numD_3 : numD lt i 3 = 10 * (10 * (lt i - 48) + (lt (i + 1) - 48)) + (lt (i + 2) - 48) := by unfold numD; rw [numD_2]
theorem numD_s : numD lt i (1 + k) = 10 * numD lt i k + (lt (i + k) - 48) := by rw [Nat.add_comm]; rfl
/-- the digits that a command may have -/
def loD (ch p : Nat) : Nat := chS (lsI ch) p
theorem okD_d (hp : p < 5) (h : okD lt n i p ch) (hc : p < dgN ch) : 48 ≤ lt (i + 1 + p) ∧ lt (i + 1 + p) ≤ 57 := by
  have e1 : ∀ c ∈ [115, 98, 118, 113, 119], ∀ p, p < 5 → p < dgN c → 48 ≤ chS (lsI c) p ∧ chS (gsI c) p ≤ 57 := by decide +kernel
  have hm : ch ∈ [115, 98, 118, 113, 119] := by
    by_cases hm : ch ∈ [115, 98, 118, 113, 119]
    · exact hm
    · exfalso
      simp only [List.mem_cons, List.not_mem_nil, or_false, not_or] at hm
      unfold dgN gsI at hc
      rw [if_neg hm.1, if_neg hm.2.1, if_neg hm.2.2.1, if_neg hm.2.2.2.1, if_neg hm.2.2.2.2] at hc
      exact absurd hc (Nat.not_lt_zero _)
  have := e1 ch hm p hp hc
  have h1 := h.2.1
  have h2 := h.2.2
  omega
end TXT
