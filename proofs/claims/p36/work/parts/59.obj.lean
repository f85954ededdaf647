/-! an object's world: what it shows (its state), and the rest -/
def oW (Y : Nat → Nat) (xo h0 h1 hh hb2 sl a0 a1 sv tz az : Nat) (ρ : Nat → Nat) (nx : Nat) (ct : Nat) (rr : Nat → Nat → Nat) (κ0 : Nat → Nat) (κ1 : Nat → Nat) (fl : Nat → Int32) (n : Nat) (lt : Nat → Nat) (γ : Nat → Nat → Nat) (κ : Nat → Nat) (γ1 : Nat → Nat → Nat) (gg : Nat → Nat → Nat → Nat) (δ0 : Nat → Nat → Nat) (δ1 : Nat → Nat → Nat) (lf : Nat → Nat) (tk : Nat → Int32) (bt : Nat → Int32) (bw : Int32) : List va_W :=
  [[(xo, .inr (4, [.ref h0, .ref h1, .ref hh, .ref sl, .ref sv, .ref tz, .ref az]))], aucW Y h0 ρ γ, aucW Y h1 κ γ1, hisW Y hh hb2 nx ct, ringW Y hb2 rr gg, [(sl, .inl (Y 4, 2, .inr (.inr (.inr (.inr (fun k => some (if k = 0 then a0 else a1)))))))], aucW Y a0 κ0 δ0, aucW Y a1 κ1 δ1, [(sv, .inl (Y 1, 2, .inl fl))], txtW Y tz lt n, asgW Y az lf tk bt bw]
def OK (B : Nat) (ρ : Nat → Nat) (nx : Nat) (ct : Nat) (rr : Nat → Nat → Nat) (κ0 : Nat → Nat) (κ1 : Nat → Nat) (fl : Nat → Int32) (n : Nat) (lt : Nat → Nat) : Prop := Good B ρ ∧ n ≤ 120 ∧ (∀ i, i < 120 → lt i < 256) ∧ nx < 14 ∧ ct ≤ 14 ∧ (∀ k, k < ct → Good B (rr ((nx + 14 - ct + k) % 14))) ∧ (fl 0 = nI 0 ∨ (fl 0 = nI 1 ∧ Good B κ0)) ∧ (fl 1 = nI 0 ∨ (fl 1 = nI 1 ∧ Good B κ1))
section OKS2
variable {B C : Nat} {ρ ρ' : Nat → Nat} {nx ct : Nat} {rr : Nat → Nat → Nat} {κ0 κ1 : Nat → Nat} {fl : Nat → Int32} {n : Nat} {lt : Nat → Nat}
theorem OK.good (h : OK B ρ nx ct rr κ0 κ1 fl n lt) : Good B ρ := h.1
theorem OK.inv (h : OK B ρ nx ct rr κ0 κ1 fl n lt) : Inv ρ := h.1.1
theorem OK.hn (h : OK B ρ nx ct rr κ0 κ1 fl n lt) : n ≤ 120 := h.2.1
theorem OK.hlt (h : OK B ρ nx ct rr κ0 κ1 fl n lt) : ∀ i, i < 120 → lt i < 256 := h.2.2.1
theorem OK.hnx (h : OK B ρ nx ct rr κ0 κ1 fl n lt) : nx < 14 := h.2.2.2.1
theorem OK.hct (h : OK B ρ nx ct rr κ0 κ1 fl n lt) : ct ≤ 14 := h.2.2.2.2.1
theorem OK.ring (h : OK B ρ nx ct rr κ0 κ1 fl n lt) : ∀ k, k < ct → Good B (rr ((nx + 14 - ct + k) % 14)) := h.2.2.2.2.2.1
theorem OK.s0 (h : OK B ρ nx ct rr κ0 κ1 fl n lt) : fl 0 = nI 0 ∨ (fl 0 = nI 1 ∧ Good B κ0) := h.2.2.2.2.2.2.1
theorem OK.s1 (h : OK B ρ nx ct rr κ0 κ1 fl n lt) : fl 1 = nI 0 ∨ (fl 1 = nI 1 ∧ Good B κ1) := h.2.2.2.2.2.2.2
theorem OK.upB (h : OK B ρ nx ct rr κ0 κ1 fl n lt) (hB : B ≤ C) : OK C ρ nx ct rr κ0 κ1 fl n lt :=
  ⟨h.1.up2 hB, h.hn, h.hlt, h.hnx, h.hct, fun k hk => (h.ring k hk).up2 hB, h.s0.imp id (fun q => ⟨q.1, q.2.up2 hB⟩), h.s1.imp id (fun q => ⟨q.1, q.2.up2 hB⟩)⟩
theorem OK.rem (h : OK B ρ nx ct rr κ0 κ1 fl n lt) (hB : B ≤ C) (hg : Good C ρ') : OK C ρ' (nxt nx) (min (ct + 1) 14) (setR rr nx ρ) κ0 κ1 fl n lt := by
  have hr := ring_rem (x := ρ) (show ringOk nx ct rr (fun k => rr ((nx + 14 - ct + k) % 14)) from ⟨h.hnx, h.hct, fun k _ => rfl⟩)
  refine ⟨hg, h.hn, h.hlt, hr.1, hr.2.1, fun k hk => ?_, (h.upB hB).s0, (h.upB hB).s1⟩
  rw [hr.2.2 k hk]
  unfold diaPut
  have hct := h.hct
  by_cases c : ct < 14
  · rw [if_pos c]
    by_cases ck : k = ct
    · subst ck; rw [setR_s]; exact h.1.up2 hB
    · rw [setR_n ck]; exact (h.ring k (by omega)).up2 hB
  · rw [if_neg c]
    by_cases ck : k = 13
    · subst ck; rw [setR_s]; exact h.1.up2 hB
    · rw [setR_n ck]; exact (h.ring (k + 1) (by omega)).up2 hB
theorem OK.back (h : OK B ρ nx ct rr κ0 κ1 fl n lt) (hc : 0 < ct) : Good B (rr (prv nx)) ∧ OK B (rr (prv nx)) (prv nx) (ct - 1) rr κ0 κ1 fl n lt := by
  have hb := ring_back (show ringOk nx ct rr (fun k => rr ((nx + 14 - ct + k) % 14)) from ⟨h.hnx, h.hct, fun k _ => rfl⟩) hc
  have hg : Good B (rr (prv nx)) := by rw [hb.2]; exact h.ring (ct - 1) (by omega)
  refine ⟨hg, hg, h.hn, h.hlt, hb.1.1, hb.1.2.1, fun k hk => ?_, h.s0, h.s1⟩
  rw [hb.1.2.2 k hk]
  exact h.ring k (by omega)
theorem OK.ldd (h : OK B ρ nx ct rr κ0 κ1 fl n lt) : OK (B + 121) ((tR lt n 1 row0 0).1) nx 0 rr κ0 κ1 (upd (upd fl 0 (nI 0)) 1 (nI 0)) n lt :=
  ⟨(Good_tR h.hn).up2 (Nat.le_add_left _ _), h.hn, h.hlt, h.hnx, Nat.zero_le _, fun k hk => absurd hk (Nat.not_lt_zero _), Or.inl rfl, Or.inl rfl⟩
theorem OK.sv0 (h : OK B ρ nx ct rr κ0 κ1 fl n lt) : OK B ρ nx ct rr ρ κ1 (upd fl 0 (nI 1)) n lt :=
  ⟨h.1, h.hn, h.hlt, h.hnx, h.hct, h.ring, Or.inr ⟨rfl, h.1⟩, h.s1⟩
theorem OK.sv1 (h : OK B ρ nx ct rr κ0 κ1 fl n lt) : OK B ρ nx ct rr κ0 ρ (upd fl 1 (nI 1)) n lt :=
  ⟨h.1, h.hn, h.hlt, h.hnx, h.hct, h.ring, h.s0, Or.inr ⟨rfl, h.1⟩⟩
theorem OK.now (h : OK B ρ nx ct rr κ0 κ1 fl n lt) (hg : Good B ρ') : OK B ρ' nx 0 rr κ0 κ1 fl n lt :=
  ⟨hg, h.hn, h.hlt, h.hnx, Nat.zero_le _, fun k hk => absurd hk (Nat.not_lt_zero _), h.s0, h.s1⟩
theorem OK.txt {n' : Nat} {lt' : Nat → Nat} (h : OK B ρ nx ct rr κ0 κ1 fl n lt) (hn : n' ≤ 120) (hl : ∀ i, i < 120 → lt' i < 256) : OK B ρ nx ct rr κ0 κ1 fl n' lt' :=
  ⟨h.1, hn, hl, h.hnx, h.hct, h.ring, h.s0, h.s1⟩
theorem nxt_ne (h : nx < 14) : nxt nx ≠ nx := by unfold nxt; split <;> omega
theorem prv_nxt (h : nx < 14) : prv (nxt nx) = nx := by
  unfold nxt prv
  by_cases c : nx < 13
  · rw [if_pos c, if_pos (by omega)]; omega
  · rw [if_neg c, if_neg (by omega)]; omega
theorem nxt_lt (h : nx < 14) : nxt nx < 14 := by unfold nxt; split <;> omega
/-- two actions, and both taken back: the state is as it was -/
theorem OK.twice (h : OK B ρ nx ct rr κ0 κ1 fl n lt) (hB : B ≤ C) {ρ1 : Nat → Nat} (h1 : Good C ρ1) :
    prv (nxt (nxt nx)) = nxt nx ∧ prv (nxt nx) = nx ∧ setR (setR rr nx ρ) (nxt nx) ρ1 (nxt nx) = ρ1 ∧ setR (setR rr nx ρ) (nxt nx) ρ1 nx = ρ ∧
    OK C ρ nx (min (min (ct + 1) 14 + 1) 14 - 1 - 1) (setR (setR rr nx ρ) (nxt nx) ρ1) κ0 κ1 fl n lt := by
  have e1 := prv_nxt (nxt_lt h.hnx)
  have e2 := prv_nxt h.hnx
  have e3 : setR (setR rr nx ρ) (nxt nx) ρ1 (nxt nx) = ρ1 := setR_s
  have e4 : setR (setR rr nx ρ) (nxt nx) ρ1 nx = ρ := by rw [setR_n (nxt_ne h.hnx).symm, setR_s]
  have k1 := h.rem hB h1
  have k2 := k1.rem (Nat.le_refl _) h1
  have k3 := (k2.back (by omega)).2
  rw [e1, e3] at k3
  have k4 := (k3.back (by omega)).2
  rw [e2, e4] at k4
  exact ⟨e1, e2, e3, e4, k4⟩
end OKS2
