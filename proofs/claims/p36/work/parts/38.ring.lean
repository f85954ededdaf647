/-! the remembered states: a ring of auctions, one behind the other -/
def ringX (Y : Nat → Nat) (q : Nat) (rw gm : Nat → Nat → Nat) (gg : Nat → Nat → Nat → Nat) (i : Nat) : va_W := aucW Y (q + 11 * i) (rw i) (gg i)
def ringL (Y : Nat → Nat) (q : Nat) (rw : Nat → Nat → Nat) (gg : Nat → Nat → Nat → Nat) : Nat → Nat → va_W
  | _, 0 => []
  | a, k + 1 => aucW Y (q + 11 * a) (rw a) (gg a) ++ ringL Y q rw gg (a + 1) k
def ringW (Y : Nat → Nat) (q : Nat) (rw : Nat → Nat → Nat) (gg : Nat → Nat → Nat → Nat) : va_W := ringL Y q rw gg 0 14
theorem ringL_add {Y : Nat → Nat} {q : Nat} {rw : Nat → Nat → Nat} {gg : Nat → Nat → Nat → Nat} : ∀ {i a j : Nat}, ringL Y q rw gg a (i + j) = ringL Y q rw gg a i ++ ringL Y q rw gg (a + i) j
  | 0, a, j => by rw [Nat.zero_add]; rfl
  | i + 1, a, j => by
    rw [show i + 1 + j = (i + j) + 1 by omega]
    show aucW _ _ _ _ ++ ringL Y q rw gg (a + 1) (i + j) = (aucW _ _ _ _ ++ ringL Y q rw gg (a + 1) i) ++ _
    rw [ringL_add, List.append_assoc, show a + 1 + i = a + (i + 1) by omega]
theorem ring_cut {Y : Nat → Nat} {q i : Nat} {rw : Nat → Nat → Nat} {gg : Nat → Nat → Nat → Nat} (hi : i < 14) : ringW Y q rw gg = ringL Y q rw gg 0 i ++ (aucW Y (q + 11 * i) (rw i) (gg i) ++ ringL Y q rw gg (i + 1) (13 - i)) := by
  unfold ringW
  rw [show (14 : Nat) = i + (13 - i + 1) by omega, ringL_add, Nat.zero_add]
  rfl
def setR {α : Type} (f : Nat → α) (k : Nat) (x : α) : Nat → α := fun j => if j = k then x else f j
theorem setR_s {α : Type} {f : Nat → α} {k : Nat} {x : α} : setR f k x k = x := by unfold setR; rw [if_pos rfl]
theorem setR_n {α : Type} {f : Nat → α} {k j : Nat} {x : α} (h : j ≠ k) : setR f k x j = f j := by unfold setR; rw [if_neg h]
theorem ringL_set {Y : Nat → Nat} {q k : Nat} {rw : Nat → Nat → Nat} {gg : Nat → Nat → Nat → Nat} {x : Nat → Nat} {y : Nat → Nat → Nat} : ∀ {n a : Nat}, (k < a ∨ a + n ≤ k) → ringL Y q (setR rw k x) (setR gg k y) a n = ringL Y q rw gg a n
  | 0, _, _ => rfl
  | n + 1, a, h => by
    show aucW _ _ (setR rw k x a) (setR gg k y a) ++ _ = aucW _ _ _ _ ++ _
    rw [setR_n (by omega), setR_n (by omega), ringL_set (by omega)]
theorem ring_put {Y : Nat → Nat} {q i : Nat} {rw : Nat → Nat → Nat} {gg : Nat → Nat → Nat → Nat} {x : Nat → Nat} {y : Nat → Nat → Nat} (hi : i < 14) : ringW Y q (setR rw i x) (setR gg i y) = ringL Y q rw gg 0 i ++ (aucW Y (q + 11 * i) x y ++ ringL Y q rw gg (i + 1) (13 - i)) := by
  rw [ring_cut hi, ringL_set (by omega), ringL_set (by omega), setR_s, setR_s]
/-- the rows in the ring's order, oldest first -/
def ringOk (nx ct : Nat) (rw dia : Nat → Nat → Nat) : Prop := nx < 14 ∧ ct ≤ 14 ∧ ∀ k, k < ct → rw ((nx + 14 - ct + k) % 14) = dia k
def diaPut (ct : Nat) (dia : Nat → Nat → Nat) (x : Nat → Nat) : Nat → Nat → Nat := if ct < 14 then setR dia ct x else setR (fun k => dia (k + 1)) 13 x
def nxt (nx : Nat) : Nat := if nx < 13 then nx + 1 else 0
def prv (nx : Nat) : Nat := if 0 < nx then nx - 1 else 13
theorem ring_rem {nx ct : Nat} {rw dia : Nat → Nat → Nat} {x : Nat → Nat} (h : ringOk nx ct rw dia) : ringOk (nxt nx) (min (ct + 1) 14) (setR rw nx x) (diaPut ct dia x) := by
  obtain ⟨h1, h2, h3⟩ := h
  refine ⟨by unfold nxt; split <;> omega, by omega, fun k hk => ?_⟩
  have e : (nxt nx + 14 - min (ct + 1) 14 + k) % 14 = (nx + 1 + 14 - min (ct + 1) 14 + k) % 14 := by
    unfold nxt; split
    · rfl
    · rw [show nx = 13 by omega]; omega
  rw [e]
  unfold diaPut
  by_cases c : ct < 14
  · rw [if_pos c, show min (ct + 1) 14 = ct + 1 by omega]
    by_cases ck : k = ct
    · subst ck
      rw [setR_s, show (nx + 1 + 14 - (k + 1) + k) % 14 = nx by omega, setR_s]
    · rw [setR_n ck, show (nx + 1 + 14 - (ct + 1) + k) % 14 = (nx + 14 - ct + k) % 14 by omega, setR_n (by omega), h3 k (by omega)]
  · rw [if_neg c, show min (ct + 1) 14 = 14 by omega]
    have hc : ct = 14 := by omega
    subst hc
    by_cases ck : k = 13
    · subst ck
      rw [setR_s, show (nx + 1 + 14 - 14 + 13) % 14 = nx by omega, setR_s]
    · rw [setR_n ck, setR_n (by omega), ← h3 (k + 1) (by omega)]
      congr 1
      omega
theorem ring_back {nx ct : Nat} {rw dia : Nat → Nat → Nat} (h : ringOk nx ct rw dia) (hc : 0 < ct) : ringOk (prv nx) (ct - 1) rw dia ∧ rw (prv nx) = dia (ct - 1) := by
  obtain ⟨h1, h2, h3⟩ := h
  have e1 : (nx + 14 - ct + (ct - 1)) % 14 = prv nx := by unfold prv; split <;> omega
  refine ⟨⟨by unfold prv; split <;> omega, by omega, fun k hk => ?_⟩, by rw [← e1]; exact h3 _ (by omega)⟩
  rw [← h3 k (by omega)]
  congr 1
  unfold prv
  split <;> omega
/-- the reference's diary -/
def diaOk (ct : Nat) (f : Nat → Nat) (dia : Nat → Nat → Nat) : Prop := ∀ k, k < ct → ∀ q, q < 140 → f (140 * k + q) = dia k q
def diaInv (ct : Nat) (dia : Nat → Nat → Nat) : Prop := ∀ k, k < ct → Inv (dia k)
theorem dia_inv {ct : Nat} {dia : Nat → Nat → Nat} {x : Nat → Nat} (h : diaInv ct dia) (hx : Inv x) (hc : ct ≤ 14) : diaInv (min (ct + 1) 14) (diaPut ct dia x) := by
  intro k hk
  unfold diaPut
  by_cases c : ct < 14
  · rw [if_pos c]
    by_cases ck : k = ct
    · subst ck; rw [setR_s]; exact hx
    · rw [setR_n ck]; exact h k (by omega)
  · rw [if_neg c]
    by_cases ck : k = 13
    · subst ck; rw [setR_s]; exact hx
    · rw [setR_n ck]; exact h (k + 1) (by omega)
theorem dia_put {ct : Nat} {f : Nat → Nat} {dia : Nat → Nat → Nat} {x : Nat → Nat} (h : diaOk ct f dia) (hc : ct < 14) : diaOk (min (ct + 1) 14) (cpS x f 0 (140 * ct) 140) (diaPut ct dia x) := by
  intro k hk q hq
  unfold diaPut
  rw [if_pos hc]
  by_cases ck : k = ct
  · subst ck
    rw [setR_s, cpS_in hq, Nat.zero_add]
  · rw [setR_n ck, cpS_out (by omega)]
    exact h k (by omega) q hq
theorem dia_full {f : Nat → Nat} {dia : Nat → Nat → Nat} {x : Nat → Nat} (h : diaOk 14 f dia) : diaOk 14 (cpS x (shf f 0 1820 140) 0 1820 140) (diaPut 14 dia x) := by
  intro k hk q hq
  unfold diaPut
  rw [if_neg (by decide)]
  by_cases ck : k = 13
  · subst ck
    rw [setR_s, show 140 * 13 + q = 1820 + q from rfl, cpS_in hq, Nat.zero_add]
  · rw [setR_n ck, cpS_out (by omega)]
    unfold shf
    rw [if_pos (by omega), show 140 * k + q + 140 = 140 * (k + 1) + q by omega]
    exact h (k + 1) (by omega) q hq
theorem xW.cut3 {G : va_G} {A : Nat → Prop} {H0 H : Heap} {s0 s1 a b d : va_W} {locs : List Loc} (h : xW G A H0 [s0, s1, a ++ (b ++ d)] H locs) : xW G A H0 [s0, s1, a, b, d] H locs := h.recut (by simp)
theorem xW.join3 {G : va_G} {A : Nat → Prop} {H0 H : Heap} {s0 s1 a b d : va_W} {locs : List Loc} (h : xW G A H0 [s0, s1, a, b, d] H locs) : xW G A H0 [s0, s1, a ++ (b ++ d)] H locs := h.recut (by simp)
