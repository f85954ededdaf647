/-! what the best assignments are worth: none is better, one bidder less, one lot more -/
section BST
variable {ρ : Nat → Nat} {w m n b c t j k lo i : Nat} {s : Nat × Nat}
/-- no allowed code is worth more than the best of them -/
theorem FA_max : ∀ {i t : Nat}, lo ≤ t → t < lo + i → feaB ρ w m n t = true → wP ρ n t + 1 ≤ (FA ρ w m n s lo i).1
  | 0, t, h1, h2, _ => by omega
  | i + 1, t, h1, h2, hf => by
    show _ ≤ (stA ρ w m n (FA ρ w m n s lo i) (lo + i)).1
    by_cases e : t = lo + i
    · subst e
      unfold stA
      by_cases g : (FA ρ w m n s lo i).1 ≤ wP ρ n (lo + i)
      · rw [if_pos ⟨hf, g⟩]; exact Nat.le_refl _
      · rw [if_neg (fun z => g z.2)]; omega
    · exact Nat.le_trans (FA_max (i := i) h1 (by omega) hf) st_1
theorem FA_lt : ∀ {i : Nat}, (FA ρ w m n (0, 0) lo i).2 < lo + i ∨ (FA ρ w m n (0, 0) lo i).1 = 0
  | 0 => Or.inr rfl
  | i + 1 => by
    show (stA ρ w m n (FA ρ w m n (0, 0) lo i) (lo + i)).2 < _ ∨ (stA ρ w m n (FA ρ w m n (0, 0) lo i) (lo + i)).1 = 0
    unfold stA
    split
    · exact Or.inl (by show lo + i < _; omega)
    · rcases FA_lt (i := i) with h | h
      · exact Or.inl (by omega)
      · exact Or.inr h
theorem FA_fea : ∀ {i : Nat}, 0 < (FA ρ w m n (0, 0) lo i).1 → feaB ρ w m n (FA ρ w m n (0, 0) lo i).2 = true
  | 0, h => absurd h (Nat.lt_irrefl 0)
  | i + 1, h => by
    have h2 : 0 < (stA ρ w m n (FA ρ w m n (0, 0) lo i) (lo + i)).1 := h
    show feaB ρ w m n (stA ρ w m n (FA ρ w m n (0, 0) lo i) (lo + i)).2 = true
    unfold stA at h2 ⊢
    split
    · rename_i q; exact q.1
    · rename_i q
      rw [if_neg q] at h2
      exact FA_fea h2
theorem best_max (ht : t < 5 ^ ρ 4) (hf : feaP ρ w m (ρ 4) t) : wP ρ (ρ 4) t ≤ worA ρ w m := by
  have := FA_max (ρ := ρ) (w := w) (m := m) (n := ρ 4) (s := (0, 0)) (lo := 0) (i := 5 ^ ρ 4) (t := t) (Nat.zero_le _) (by omega) (feaB_iff.mpr hf)
  unfold worA bestA
  omega
theorem best_is (hI : Inv ρ) (hw : w ≤ 6) : (bestA ρ w m).2 < 5 ^ ρ 4 ∧ feaP ρ w m (ρ 4) (bestA ρ w m).2 ∧ worA ρ w m = wP ρ (ρ 4) (bestA ρ w m).2 := by
  have hp := bestA_pos (ρ := ρ) (m := m) hw
  have hg := (bestA_good (w := w) (m := m) hI).2 hp
  refine ⟨?_, ?_, ?_⟩
  · rcases FA_lt (ρ := ρ) (w := w) (m := m) (n := ρ 4) (lo := 0) (i := 5 ^ ρ 4) with h | h
    · unfold bestA; omega
    · unfold bestA at hp; omega
  · exact feaB_iff.mp (FA_fea (i := 5 ^ ρ 4) hp)
  · unfold worA; rw [hg.2]; omega
theorem fea_w (h : feaP ρ w m n t) : feaP ρ 0 m n t := by
  refine ⟨?_, h.2⟩
  have : ∀ n t, okP ρ w n t → okP ρ 0 n t := by
    intro n
    induction n with
    | zero => intro t _; trivial
    | succ n ih => intro t h; exact ⟨ih _ h.1, h.2.1, fun z => by omega⟩
  exact this _ _ h.1
theorem fea_m (h : feaP ρ w 0 n t) : feaP ρ w m n t := ⟨h.1, fun k hk => Nat.le_trans (h.2 k hk) (by unfold rmA; rw [if_neg (by omega)]; omega)⟩
theorem worA_w (hI : Inv ρ) (hw : w ≤ 6) : worA ρ w 0 ≤ worA ρ 0 0 := by
  obtain ⟨h1, h2, h3⟩ := best_is (w := w) (m := 0) hI hw
  rw [h3]
  exact best_max h1 (fea_w h2)
theorem worA_m (hI : Inv ρ) : worA ρ 0 0 ≤ worA ρ 0 m := by
  obtain ⟨h1, h2, h3⟩ := best_is (w := 0) (m := 0) hI (by decide)
  rw [h3]
  exact best_max h1 (fea_m h2)
/-- a code with nothing for one bidder -/
def zD (j : Nat) : Nat → Nat → Nat
  | 0, t => t
  | n + 1, t => if j = n then 5 * (t / 5) else 5 * zD j n (t / 5) + t % 5
theorem zD_lt : ∀ {n t : Nat}, t < 5 ^ n → zD j n t < 5 ^ n
  | 0, _, h => h
  | n + 1, t, h => by
    rw [Nat.pow_succ] at h ⊢
    have h5 : t / 5 < 5 ^ n := by omega
    unfold zD
    split
    · omega
    · have := zD_lt (n := n) h5
      omega
theorem zD_out : ∀ {n t : Nat}, n ≤ j → zD j n t = t
  | 0, _, _ => rfl
  | n + 1, t, h => by
    unfold zD
    rw [if_neg (by omega), zD_out (n := n) (by omega)]
    omega
theorem zD_ok : ∀ {n t : Nat}, okP ρ 0 n t → okP ρ (1 + j) n (zD j n t)
  | 0, _, _ => trivial
  | n + 1, t, h => by
    unfold zD
    by_cases e : j = n
    · rw [if_pos e]
      refine ⟨?_, ?_, fun _ => by omega⟩
      · rw [show 5 * (t / 5) / 5 = t / 5 by omega]
        have := zD_ok (n := n) h.1
        rw [zD_out (by omega)] at this
        exact this
      · rw [show 5 * (t / 5) % 5 = 0 by omega]; exact Nat.zero_le _
    · rw [if_neg e]
      refine ⟨?_, ?_, fun z => by omega⟩
      · rw [show (5 * zD j n (t / 5) + t % 5) / 5 = zD j n (t / 5) by omega]
        exact zD_ok h.1
      · rw [show (5 * zD j n (t / 5) + t % 5) % 5 = t % 5 by omega]
        exact h.2.1
theorem zD_w : ∀ {n t : Nat}, j < n → wP ρ n (zD j n t) + wOf ρ j (dP n t j) = wP ρ n t
  | 0, _, h => absurd h (Nat.not_lt_zero _)
  | n + 1, t, h => by
    unfold zD dP
    by_cases e : j = n
    · rw [if_pos e, if_pos e]
      show wP ρ n (5 * (t / 5) / 5) + wOf ρ n (5 * (t / 5) % 5) + wOf ρ j (t % 5) = wP ρ n (t / 5) + wOf ρ n (t % 5)
      rw [show 5 * (t / 5) / 5 = t / 5 by omega, show 5 * (t / 5) % 5 = 0 by omega, e]
      have : wOf ρ n 0 = 0 := rfl
      omega
    · rw [if_neg e, if_neg e]
      show wP ρ n ((5 * zD j n (t / 5) + t % 5) / 5) + wOf ρ n ((5 * zD j n (t / 5) + t % 5) % 5) + wOf ρ j (dP n (t / 5) j) = wP ρ n (t / 5) + wOf ρ n (t % 5)
      rw [show (5 * zD j n (t / 5) + t % 5) / 5 = zD j n (t / 5) by omega, show (5 * zD j n (t / 5) + t % 5) % 5 = t % 5 by omega]
      have := zD_w (n := n) (t := t / 5) (by omega)
      omega
theorem zD_l : ∀ {n t : Nat}, lP ρ k n (zD j n t) ≤ lP ρ k n t
  | 0, _ => Nat.le_refl _
  | n + 1, t => by
    unfold zD
    by_cases e : j = n
    · rw [if_pos e]
      show lP ρ k n (5 * (t / 5) / 5) + lOf ρ n (5 * (t / 5) % 5) k ≤ lP ρ k n (t / 5) + lOf ρ n (t % 5) k
      rw [show 5 * (t / 5) / 5 = t / 5 by omega, show 5 * (t / 5) % 5 = 0 by omega]
      have : lOf ρ n 0 k = 0 := rfl
      omega
    · rw [if_neg e]
      show lP ρ k n ((5 * zD j n (t / 5) + t % 5) / 5) + lOf ρ n ((5 * zD j n (t / 5) + t % 5) % 5) k ≤ lP ρ k n (t / 5) + lOf ρ n (t % 5) k
      rw [show (5 * zD j n (t / 5) + t % 5) / 5 = zD j n (t / 5) by omega, show (5 * zD j n (t / 5) + t % 5) % 5 = t % 5 by omega]
      have := zD_l (n := n) (t := t / 5)
      omega
/-- what the others get is worth no more than the best without one -/
theorem worA_out (hI : Inv ρ) (hj : j < ρ 4) : worA ρ 0 0 ≤ worA ρ (1 + j) 0 + wOf ρ j (choA ρ 0 0 j) := by
  obtain ⟨h1, h2, h3⟩ := best_is (w := 0) (m := 0) hI (by decide)
  have hw := zD_w (ρ := ρ) (j := j) (n := ρ 4) (t := (bestA ρ 0 0).2) hj
  have hf : feaP ρ (1 + j) 0 (ρ 4) (zD j (ρ 4) (bestA ρ 0 0).2) := ⟨zD_ok h2.1, fun k hk => Nat.le_trans zD_l (h2.2 k hk)⟩
  have := best_max (zD_lt h1) hf
  unfold choA
  omega
theorem wOf_in (hI : Inv ρ) (hj : j < ρ 4) : wOf ρ j (choA ρ 0 0 j) ≤ worA ρ 0 0 := by
  obtain ⟨h1, h2, h3⟩ := best_is (w := 0) (m := 0) hI (by decide)
  have hw := zD_w (ρ := ρ) (j := j) (n := ρ 4) (t := (bestA ρ 0 0).2) hj
  unfold choA
  omega
/-- what one pays -/
def payN (ρ : Nat → Nat) (j : Nat) : Nat := worA ρ (1 + j) 0 - (worA ρ 0 0 - wOf ρ j (choA ρ 0 0 j))
theorem pay_eq (hI : Inv ρ) (hj : j < ρ 4) : nI (worA ρ (1 + j) 0) - (nI (worA ρ 0 0) - nI (wOf ρ j (choA ρ 0 0 j))) = nI (payN ρ j) := by
  have h1 := worA_out hI hj
  have h2 := wOf_in hI hj
  rw [pk_sub h2, pk_sub (by omega)]
  rfl
theorem pay_le (hI : Inv ρ) (hj : j < ρ 4) : payN ρ j ≤ wOf ρ j (choA ρ 0 0 j) := by
  have h1 := worA_w (w := 1 + j) hI (by have := hI.n6; omega)
  have h2 := wOf_in hI hj
  unfold payN
  omega
theorem wP_sum : ∀ {n t : Nat} {tr : Nat → Nat}, (∀ b, b < n → tr b = dP n t b) → sumB (fun b => wOf ρ b (tr b)) n = wP ρ n t
  | 0, _, _, _ => rfl
  | n + 1, t, tr, h => by
    show sumB (fun b => wOf ρ b (tr b)) n + wOf ρ n (tr n) = wP ρ n (t / 5) + wOf ρ n (t % 5)
    have h1 := h n (by omega)
    unfold dP at h1
    rw [if_pos rfl] at h1
    rw [h1, wP_sum (n := n) (t := t / 5) (fun b hb => by have := h b (by omega); unfold dP at this; rw [if_neg (by omega)] at this; exact this)]
theorem sum_w (hI : Inv ρ) : sumB (fun b => wOf ρ b (choA ρ 0 0 b)) (ρ 4) = worA ρ 0 0 := by
  rw [(best_is (w := 0) (m := 0) hI (by decide)).2.2]
  exact wP_sum (fun b _ => rfl)
theorem sum_l (hI : Inv ρ) (hk : k < 3) : sumB (fun b => lOf ρ b (choA ρ 0 0 b) k) (ρ 4) ≤ ρ (5 + k) := by
  have h := (best_is (w := 0) (m := 0) hI (by decide)).2.1.2 k hk
  have e := lP_sum (ρ := ρ) (k := k) (n := ρ 4) (t := (bestA ρ 0 0).2) (tr := choA ρ 0 0) (fun b _ => rfl)
  rw [e]
  unfold rmA at h
  rw [if_neg (by omega)] at h
  exact h
theorem sumB_add (f g : Nat → Nat) : ∀ n, sumB (fun b => f b + g b) n = sumB f n + sumB g n
  | 0 => rfl
  | n + 1 => by
    show sumB (fun b => f b + g b) n + (f n + g n) = (sumB f n + f n) + (sumB g n + g n)
    rw [sumB_add f g n]; omega
theorem sumB_mul (f : Nat → Nat) (q : Nat) : ∀ n, sumB (fun b => f b * q) n = sumB f n * q
  | 0 => (Nat.zero_mul _).symm
  | n + 1 => by
    show sumB (fun b => f b * q) n + f n * q = (sumB f n + f n) * q
    rw [sumB_mul f q n, Nat.add_mul]
theorem sum_cost : sumB (fun b => worOf ρ b 0) (ρ 4) = allCost ρ := by
  have e : (fun b => worOf ρ b 0) = (fun b => (ρ (19 + 21 * b) * ρ 11 + ρ (20 + 21 * b) * ρ 12) + ρ (21 + 21 * b) * ρ 13) := by
    funext b
    unfold worOf costOf
    rw [if_neg (by omega)]
  rw [e, sumB_add (fun b => ρ (19 + 21 * b) * ρ 11 + ρ (20 + 21 * b) * ρ 12), sumB_add (fun b => ρ (19 + 21 * b) * ρ 11), sumB_mul, sumB_mul, sumB_mul]
  unfold allCost askedOf
  have e1 : (fun b => ρ (19 + 21 * b + 1)) = (fun b => ρ (20 + 21 * b)) := by funext b; rw [show 19 + 21 * b + 1 = 20 + 21 * b by omega]
  have e2 : (fun b => ρ (19 + 21 * b + 2)) = (fun b => ρ (21 + 21 * b)) := by funext b; rw [show 19 + 21 * b + 2 = 21 + 21 * b by omega]
  rw [e1, e2]
  rfl
theorem lmS_pos : ∀ {n : Nat}, 0 < n → 0 < (lmS ρ n).1
  | 0, h => absurd h (Nat.not_lt_zero _)
  | n + 1, _ => by
    unfold lmS
    split
    · show 0 < 1 + n; omega
    · rename_i q
      rcases Nat.eq_zero_or_pos n with e | e
      · subst e; exact absurd (Nat.zero_le _) q
      · exact lmS_pos e
/-! a bid by values gains no less -/
theorem prof_gn : prof ρ j = Int32.ofInt (gn ρ j (ρ (19 + 21 * j)) (ρ (20 + 21 * j)) (ρ (21 + 21 * j))) := by
  unfold prof
  rw [nI_0, Int32.zero_add, gi_eq]
theorem mg_dem {a d : Nat} (hk : k < 3) : mg (mDem ρ j a b d) j k = mg ρ j k := by
  unfold mg mDem
  rw [setN_n (by omega), setN_n (by omega), setN_n (by omega), setN_n (by omega), setN_n (by omega), setN_n (by omega)]
theorem gn_dem {a d x y z : Nat} : gn (mDem ρ j a b d) j x y z = gn ρ j x y z := by
  unfold gn
  rw [mg_dem (by decide), mg_dem (by decide), mg_dem (by decide)]
theorem prof_bid : prof (mBid ρ j) j = Int32.ofInt (gnC ρ j (bsC ρ j)) := by
  rw [prof_gn]
  unfold mBid
  rw [gn_dem]
  have e0 : ∀ a b d, mDem ρ j a b d (19 + 21 * j) = a := fun a b d => by unfold mDem; rw [setN_n (by omega), setN_n (by omega), setN_s]
  have e1 : ∀ a b d, mDem ρ j a b d (20 + 21 * j) = b := fun a b d => by unfold mDem; rw [setN_n (by omega), setN_s]
  have e2 : ∀ a b d, mDem ρ j a b d (21 + 21 * j) = d := fun a b d => by unfold mDem; rw [setN_s]
  rw [e0, e1, e2]
  rfl
theorem bid_ge (hI : Inv ρ) (hA : Adm ρ) (hj : j < ρ 4) : prof ρ j ≤ prof (mBid ρ j) j ∧ 0 ≤ prof (mBid ρ j) j := by
  have hB := bsC_is (ρ := ρ) (j := j)
  have g9 := gnC_b hI hj hB.1
  have d0 := hI.dem (q := 19 + 21 * j) hj (k := 0) (by decide) rfl
  have d1 := hI.dem (q := 20 + 21 * j) hj (k := 1) (by decide) (by omega)
  have d2 := hI.dem (q := 21 + 21 * j) hj (k := 2) (by decide) (by omega)
  have g8 := gn_b hI hj d0 d1 d2
  obtain ⟨f0, f1, f2⟩ := dig_c d0 d1 d2
  have a0 := hA.1 j hj 0 (by decide)
  have a1 := hA.1 j hj 1 (by decide)
  have a2 := hA.1 j hj 2 (by decide)
  rw [show 19 + 21 * j + 0 = 19 + 21 * j from rfl] at a0
  rw [show 19 + 21 * j + 1 = 20 + 21 * j by omega] at a1
  rw [show 19 + 21 * j + 2 = 21 + 21 * j by omega] at a2
  have aa := hA.2 j hj
  have hf : feaC ρ j (100 * ρ (19 + 21 * j) + 10 * ρ (20 + 21 * j) + ρ (21 + 21 * j)) := by
    show fea ρ j _ _ _
    rw [f0, f1, f2]
    refine ⟨a0, a1, a2, ?_⟩
    unfold act at aa
    rw [Nat.mul_comm (ρ (19 + 21 * j)), Nat.mul_comm (ρ (20 + 21 * j)), Nat.mul_comm (ρ (21 + 21 * j))]
    exact aa
  have h1 := (hB.2.2 _ (by omega) hf).1
  have h0 := (hB.2.2 0 (by decide) fea_0).1
  have e0 : gnC ρ j 0 = 0 := by
    show gn ρ j 0 0 0 = 0
    unfold gn
    simp
  have e1 : gnC ρ j (100 * ρ (19 + 21 * j) + 10 * ρ (20 + 21 * j) + ρ (21 + 21 * j)) = gn ρ j (ρ (19 + 21 * j)) (ρ (20 + 21 * j)) (ρ (21 + 21 * j)) := by
    unfold gnC
    rw [f0, f1, f2]
  rw [e1] at h1
  rw [e0] at h0
  rw [prof_bid, prof_gn]
  constructor
  · exact (ofI32_le ⟨by omega, by omega⟩ ⟨by omega, by omega⟩).mpr h1
  · rw [Int32.le_iff_toInt_le, Int32.toInt_ofInt_of_le (by omega) (by omega)]
    exact h0
/-! closing: what was above is told, rights fall, not below what is asked for -/
theorem scar_cl1 (hk : k < 3) : scar (cl1 ρ) k = scar ρ k := by
  unfold scar
  rw [show cl1 ρ (5 + k) = ρ (5 + k) from clR_o (fun c hc => by omega)]
  have h : askedOf (cl1 ρ) k = askedOf ρ k := asked_cong clR_4 (fun b _ => clR_o (fun c _ => by omega))
  rw [h]
theorem scarce_cl1 : scarce (cl1 ρ) = scarce ρ := by
  unfold scarce
  rw [scar_cl1 (by decide), scar_cl1 (by decide), scar_cl1 (by decide)]
theorem close_1 : mClose ρ 1 = if scarce ρ = 0 then 1 else 0 := by
  unfold mClose
  rw [setN_n (by omega), setN_s, scarce_cl1]
theorem close_4 : mClose ρ 4 = ρ 4 := (mClose_o (by omega) (by omega)).trans clR_4
theorem close_rgt (hj : j < ρ 4) : mClose ρ (14 + 21 * j) ≤ ρ (14 + 21 * j) := by
  rw [mClose_o (by omega) (by omega)]
  unfold cl1
  rw [clR_rgt hj]
  exact Nat.min_le_left _ _
/-! rounds to come: prices don't fall -/
theorem raise_ge (hI : Inv ρ) (hk : k < 3) : ρ (11 + i) ≤ mRaise ρ k (11 + i) := by
  unfold mRaise
  by_cases e : i = k
  · subst e
    rw [setN_s]
    have := (hI.pri (q := 11 + i) hk rfl).2
    exact Nat.le_min.mpr ⟨this, Nat.le_add_right _ _⟩
  · rw [setN_n (by omega)]
    exact Nat.le_refl _
theorem clP_ge (hI : Inv ρ) (hk : k < 3) : ρ (11 + i) ≤ clP ρ k (11 + i) := by
  unfold clP
  split
  · exact raise_ge hI hk
  · exact Nat.le_refl _
theorem close_pri (hI : Inv ρ) (hi : i < 3) : ρ (11 + i) ≤ mClose ρ (11 + i) := by
  unfold mClose
  rw [setN_n (by omega), setN_n (by omega)]
  have e : ρ (11 + i) = cl1 ρ (11 + i) := (clR_o (fun c hc => by omega)).symm
  have h1 := Inv_cl1 hI
  have h2 := Inv_clP h1 (k := 0) (by decide)
  have h3 := Inv_clP h2 (k := 1) (by decide)
  have g1 := clP_ge (i := i) h1 (k := 0) (by decide)
  have g2 := clP_ge (i := i) h2 (k := 1) (by decide)
  have g3 := clP_ge (i := i) h3 (k := 2) (by decide)
  unfold clQ
  omega
theorem rnd_pri (hI : Inv ρ) (hk : k < 3) : ρ (11 + k) ≤ rnd ρ (11 + k) := by
  have h1 : ∀ n, bidN ρ n (11 + k) = ρ (11 + k) := by
    intro n
    induction n with
    | zero => rfl
    | succ n ih =>
      show mBid (bidN ρ n) n (11 + k) = _
      unfold mBid mDem
      rw [setN_n (by omega), setN_n (by omega), setN_n (by omega)]
      exact ih
  have := close_pri (ρ := bidN ρ (ρ 4)) (i := k) (Inv_bidN hI (Nat.le_refl _)) hk
  rw [h1] at this
  exact this
theorem runE_pri (hk : k < 3) : ∀ {f : Nat} {ρ : Nat → Nat} {i : Nat}, Inv ρ → ρ (11 + k) ≤ (runE f ρ i).1 (11 + k) ∧ i ≤ (runE f ρ i).2
  | 0, _, _, _ => ⟨Nat.le_refl _, Nat.le_refl _⟩
  | f + 1, ρ, i, h => by
    unfold runE
    split
    · have h1 := runE_pri hk (f := f) (ρ := rnd ρ) (i := 1 + i) (Inv_rnd2 h)
      have h2 := rnd_pri h hk
      exact ⟨Nat.le_trans h2 h1.1, by omega⟩
    · exact ⟨Nat.le_refl _, Nat.le_refl _⟩
theorem end_pri (hI : Inv ρ) (hk : k < 3) : ρ (11 + k) ≤ (endR ρ).1 (11 + k) := (runE_pri hk hI).1
theorem end_over (h : ρ 1 ≠ 0) : endR ρ = (ρ, 0) := runE_over h
theorem end_pos (hI : Inv ρ) (h : ρ 1 = 0) : 1 ≤ (endR ρ).2 := by
  unfold endR
  rw [show (200 : Nat) = 200 - 0 from rfl, runE_go h (by decide)]
  exact (runE_pri (k := 0) (by decide) (Inv_rnd2 hI)).2
end BST
