/-! what every state keeps besides: demands are within caps, supplies and rights -/
def Adm (ρ : Nat → Nat) : Prop := (∀ b, b < ρ 4 → ∀ k, k < 3 → ρ (19 + 21 * b + k) ≤ most ρ b k) ∧ ∀ b, b < ρ 4 → act ρ b ≤ ρ (14 + 21 * b)
def Good (B : Nat) (ρ : Nat → Nat) : Prop := Inv ρ ∧ Adm ρ ∧ ρ 0 ≤ B
section ADM
variable {ρ σ : Nat → Nat} {j k i b u v a d n x y z B C : Nat}
theorem Good.up2 (h : Good B ρ) (hB : B ≤ C) : Good C ρ := ⟨h.1, h.2.1, Nat.le_trans h.2.2 hB⟩
theorem act_cong (h : ∀ q, 8 ≤ q → q < 11 → σ q = ρ q) (hd : ∀ k, k < 3 → σ (19 + 21 * b + k) = ρ (19 + 21 * b + k)) : act σ b = act ρ b := by
  unfold act
  have e0 := hd 0 (by decide)
  have e1 := hd 1 (by decide)
  have e2 := hd 2 (by decide)
  rw [show 19 + 21 * b + 0 = 19 + 21 * b from rfl] at e0
  rw [show 19 + 21 * b + 1 = 20 + 21 * b by omega] at e1
  rw [show 19 + 21 * b + 2 = 21 + 21 * b by omega] at e2
  rw [h 8 (by decide) (by decide), h 9 (by decide) (by decide), h 10 (by decide) (by decide), e0, e1, e2]
theorem most_cong (hk : k < 3) (h : ∀ q, 5 ≤ q → q < 8 → σ q = ρ q) (hc : σ (15 + 21 * b) = ρ (15 + 21 * b)) : most σ b k = most ρ b k := by
  unfold most
  rw [hc, h (5 + k) (by omega) (by omega)]
theorem Adm.cong (hA : Adm ρ) (h4 : σ 4 = ρ 4) (h : ∀ q, 5 ≤ q → q < 11 → σ q = ρ q) (hr : ∀ b, b < ρ 4 → σ (14 + 21 * b) = ρ (14 + 21 * b) ∧ σ (15 + 21 * b) = ρ (15 + 21 * b)) (hd : ∀ b, b < ρ 4 → ∀ k, k < 3 → σ (19 + 21 * b + k) = ρ (19 + 21 * b + k)) : Adm σ := by
  refine ⟨fun b hb k hk => ?_, fun b hb => ?_⟩
  · rw [h4] at hb
    rw [hd b hb k hk, most_cong hk (fun q h1 h2 => h q h1 (by omega)) (hr b hb).2]
    exact hA.1 b hb k hk
  · rw [h4] at hb
    rw [act_cong (fun q h1 h2 => h q (by omega) h2) (hd b hb), (hr b hb).1]
    exact hA.2 b hb
theorem Adm_none (h : ρ 4 = 0) : Adm ρ := ⟨fun b hb => by rw [h] at hb; omega, fun b hb => by rw [h] at hb; omega⟩
theorem Adm_offer (hk : k < 3) (h4 : ρ 4 = 0) : Adm (mOffer ρ k u v) := Adm_none (by unfold mOffer; rw [setN_n (by omega), setN_n (by omega)]; exact h4)
theorem Adm_pri (hA : Adm ρ) (hk : k < 3) : Adm (mPri ρ k v) := hA.cong (setN_n (by omega)) (fun q h1 h2 => setN_n (by omega)) (fun b hb => ⟨setN_n (by omega), setN_n (by omega)⟩) (fun b hb k2 hk2 => setN_n (by omega))
theorem Adm_val (hA : Adm ρ) (hk : k < 3) : Adm (mVal ρ j k v) := hA.cong (setN_n (by omega)) (fun q h1 h2 => setN_n (by omega)) (fun b hb => ⟨setN_n (by omega), setN_n (by omega)⟩) (fun b hb k2 hk2 => setN_n (by omega))
theorem Adm_set {w : Int} (hA : Adm ρ) : Adm (mSet ρ w v) := by
  unfold mSet
  split
  · exact hA.cong (setN_n (by omega)) (fun q h1 h2 => setN_n (by omega)) (fun b hb => ⟨setN_n (by omega), setN_n (by omega)⟩) (fun b hb k2 hk2 => setN_n (by omega))
  · exact hA.cong (setN_n (by omega)) (fun q h1 h2 => setN_n (by omega)) (fun b hb => ⟨setN_n (by omega), setN_n (by omega)⟩) (fun b hb k2 hk2 => setN_n (by omega))
end ADM
