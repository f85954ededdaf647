theorem raise_row {ρ : Nat → Nat} {k v c q : Nat} (hc : c = 11 + k) (hv : v = min 99999 (ρ c + max 1 (ρ c * ρ 3 / 100))) : mRaise ρ k q = setN ρ c v q := by subst hc hv; rfl
