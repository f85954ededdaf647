section ADM
variable {ρ σ : Nat → Nat} {j k i b u v a d n x y z B C : Nat}
theorem Adm_ask (hI : Inv ρ) (hA : Adm ρ) (h : tAsk ρ j k n = 0) : Adm (mAsk ρ j k n) := by
  obtain ⟨hj, hk, hn⟩ := okN_ask h
  obtain ⟨f1, f2⟩ := ask_fea hI hj hk hn (tAsk_bad h)
  have o : ∀ q, q ≠ 19 + 21 * j + k → mAsk ρ j k n q = ρ q := fun q h1 => setN_n h1
  have h4 : mAsk ρ j k n 4 = ρ 4 := o _ (by omega)
  have m : ∀ c k2, k2 < 3 → most (mAsk ρ j k n) c k2 = most ρ c k2 := fun c k2 hk2 => most_cong hk2 (fun q h1 h2 => o _ (by omega)) (o _ (by omega))
  refine ⟨fun c hc k2 hk2 => ?_, fun c hc => ?_⟩
  · rw [h4] at hc
    rw [m c k2 hk2]
    by_cases e : 19 + 21 * c + k2 = 19 + 21 * j + k
    · obtain rfl : c = j := by omega
      obtain rfl : k2 = k := by omega
      show setN _ _ _ _ ≤ _
      rw [setN_s]; exact f1
    · rw [o _ e]; exact hA.1 c hc k2 hk2
  · rw [h4] at hc
    rw [o (14 + 21 * c) (by omega)]
    by_cases e : c = j
    · subst e; exact f2
    · rw [act_cong (ρ := ρ) (fun q h1 h2 => o _ (by omega)) (fun k2 hk2 => o _ (by omega))]
      exact hA.2 c hc
end ADM
