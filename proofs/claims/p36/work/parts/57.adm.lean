/-! what every state keeps besides: demands are within caps, supplies and rights -/
def Adm (ρ : Nat → Nat) : Prop := (∀ b, b < ρ 4 → ∀ k, k < 3 → ρ (19 + 21 * b + k) ≤ most ρ b k) ∧ ∀ b, b < ρ 4 → act ρ b ≤ ρ (14 + 21 * b)
def Good (B : Nat) (ρ : Nat → Nat) : Prop := Inv ρ ∧ Adm ρ ∧ ρ 0 ≤ B
section ADM
variable {ρ σ : Nat → Nat} {j k i b u v a d n x y z B C : Nat}
theorem Good.up2 (h : Good B ρ) (hB : B ≤ C) : Good C ρ := ⟨h.1, h.2.1, Nat.le_trans h.2.2 hB⟩
theorem act_cong (h : ∀ q, 8 ≤ q → q < 11 → σ q = ρ q) (hd : ∀ k, k < 3 → σ (19 + 21 * b + k) = ρ (19 + 21 * b + k)) : act σ b = act ρ b := by
  unfold act
  have e0 := hd 0 (by decide)
  have e1 := hd 1 (by decide)
  have e2 := hd 2 (by decide)
  rw [show 19 + 21 * b + 0 = 19 + 21 * b from rfl] at e0
  rw [show 19 + 21 * b + 1 = 20 + 21 * b by omega] at e1
  rw [show 19 + 21 * b + 2 = 21 + 21 * b by omega] at e2
  rw [h 8 (by decide) (by decide), h 9 (by decide) (by decide), h 10 (by decide) (by decide), e0, e1, e2]
theorem most_cong (hk : k < 3) (h : ∀ q, 5 ≤ q → q < 8 → σ q = ρ q) (hc : σ (15 + 21 * b) = ρ (15 + 21 * b)) : most σ b k = most ρ b k := by
  unfold most
  rw [hc, h (5 + k) (by omega) (by omega)]
theorem Adm.cong (hA : Adm ρ) (h4 : σ 4 = ρ 4) (h : ∀ q, 5 ≤ q → q < 11 → σ q = ρ q) (hr : ∀ b, b < ρ 4 → σ (14 + 21 * b) = ρ (14 + 21 * b) ∧ σ (15 + 21 * b) = ρ (15 + 21 * b)) (hd : ∀ b, b < ρ 4 → ∀ k, k < 3 → σ (19 + 21 * b + k) = ρ (19 + 21 * b + k)) : Adm σ := by
  refine ⟨fun b hb k hk => ?_, fun b hb => ?_⟩
  · rw [h4] at hb
    rw [hd b hb k hk, most_cong hk (fun q h1 h2 => h q h1 (by omega)) (hr b hb).2]
    exact hA.1 b hb k hk
  · rw [h4] at hb
    rw [act_cong (fun q h1 h2 => h q (by omega) h2) (hd b hb), (hr b hb).1]
    exact hA.2 b hb
theorem Adm_none (h : ρ 4 = 0) : Adm ρ := ⟨fun b hb => by rw [h] at hb; omega, fun b hb => by rw [h] at hb; omega⟩
theorem Adm_offer (hk : k < 3) (h4 : ρ 4 = 0) : Adm (mOffer ρ k u v) := Adm_none (by unfold mOffer; rw [setN_n (by omega), setN_n (by omega)]; exact h4)
theorem Adm_pri (hA : Adm ρ) (hk : k < 3) : Adm (mPri ρ k v) := hA.cong (setN_n (by omega)) (fun q h1 h2 => setN_n (by omega)) (fun b hb => ⟨setN_n (by omega), setN_n (by omega)⟩) (fun b hb k2 hk2 => setN_n (by omega))
theorem Adm_val (hA : Adm ρ) (hk : k < 3) : Adm (mVal ρ j k v) := hA.cong (setN_n (by omega)) (fun q h1 h2 => setN_n (by omega)) (fun b hb => ⟨setN_n (by omega), setN_n (by omega)⟩) (fun b hb k2 hk2 => setN_n (by omega))
theorem Adm_set {w : Int} (hA : Adm ρ) : Adm (mSet ρ w v) := by
  unfold mSet
  split
  · exact hA.cong (setN_n (by omega)) (fun q h1 h2 => setN_n (by omega)) (fun b hb => ⟨setN_n (by omega), setN_n (by omega)⟩) (fun b hb k2 hk2 => setN_n (by omega))
  · exact hA.cong (setN_n (by omega)) (fun q h1 h2 => setN_n (by omega)) (fun b hb => ⟨setN_n (by omega), setN_n (by omega)⟩) (fun b hb k2 hk2 => setN_n (by omega))
theorem Adm_add (hA : Adm ρ) (hp : ρ (22 + 21 * j) < 3) : Adm (mAdd ρ j a b d v) := by
  have o : ∀ q, q < 22 + 21 * j ∨ 35 + 21 * j ≤ q → mAdd ρ j a b d v q = ρ q := fun q h => by
    unfold mAdd
    rw [setN_n (by omega), setN_n (by omega), setN_n (by omega), setN_n (by omega), setN_n (by omega)]
  exact hA.cong (o _ (by omega)) (fun q h1 h2 => o _ (by omega)) (fun b hb => ⟨o _ (by omega), o _ (by omega)⟩) (fun b hb k2 hk2 => o _ (by omega))
theorem Adm_drop (hA : Adm ρ) (hi : 1 ≤ i ∧ i ≤ 3) : Adm (mDrop ρ j i) := by
  have o : ∀ q, q < 22 + 21 * j ∨ 35 + 21 * j ≤ q → mDrop ρ j i q = ρ q := fun q h => by
    unfold mDrop
    rw [if_neg (by omega), if_neg (by omega), if_neg (by omega)]
  exact hA.cong (o _ (by omega)) (fun q h1 h2 => o _ (by omega)) (fun b hb => ⟨o _ (by omega), o _ (by omega)⟩) (fun b hb k2 hk2 => o _ (by omega))
theorem Adm_join (hI : Inv ρ) (hA : Adm ρ) (hn : ρ 4 < 6) (hv : 1 ≤ v) : Adm (mJoin ρ u v) := by
  have e4 : mJoin ρ u v 4 = ρ 4 + 1 := setN_s
  have o : ∀ q, q ≠ 4 → q ≠ 14 + 21 * ρ 4 → q ≠ 15 + 21 * ρ 4 → mJoin ρ u v q = ρ q := fun q h1 h2 h3 => by
    unfold mJoin
    rw [setN_n h1, setN_n h3, setN_n h2]
  have z : ∀ k, k < 3 → ρ (19 + 21 * ρ 4 + k) = 0 := fun k hk => hI.zer (j := ρ 4) (Nat.le_refl _) hn (by omega) (by omega)
  refine ⟨fun b hb k hk => ?_, fun b hb => ?_⟩
  · rw [o _ (by omega) (by omega) (by omega)]
    rw [e4] at hb
    rcases Nat.lt_or_ge b (ρ 4) with q | q
    · rw [most_cong (σ := mJoin ρ u v) (ρ := ρ) hk (fun q h1 h2 => o _ (by omega) (by omega) (by omega)) (o _ (by omega) (by omega) (by omega))]
      exact hA.1 b q k hk
    · obtain rfl : b = ρ 4 := by omega
      rw [z k hk]
      exact Nat.zero_le _
  · rw [e4] at hb
    rw [act_cong (σ := mJoin ρ u v) (ρ := ρ) (fun q h1 h2 => o _ (by omega) (by omega) (by omega)) (fun k hk => o _ (by omega) (by omega) (by omega))]
    rcases Nat.lt_or_ge b (ρ 4) with q | q
    · rw [o _ (by omega) (by omega) (by omega)]
      exact hA.2 b q
    · obtain rfl : b = ρ 4 := by omega
      have z0 := z 0 (by decide)
      have z1 := z 1 (by decide)
      have z2 := z 2 (by decide)
      unfold act
      rw [show 19 + 21 * ρ 4 = 19 + 21 * ρ 4 + 0 from rfl, show 20 + 21 * ρ 4 = 19 + 21 * ρ 4 + 1 by omega, show 21 + 21 * ρ 4 = 19 + 21 * ρ 4 + 2 by omega, z0, z1, z2]
      exact Nat.zero_le _
/-- demands of one bidder changed to allowed ones -/
theorem Adm_dem (hA : Adm ρ) (h : fea ρ j a b d) : Adm (mDem ρ j a b d) := by
  have o : ∀ q, q ≠ 19 + 21 * j → q ≠ 20 + 21 * j → q ≠ 21 + 21 * j → mDem ρ j a b d q = ρ q := fun q h1 h2 h3 => by
    unfold mDem
    rw [setN_n h3, setN_n h2, setN_n h1]
  have e0 : mDem ρ j a b d (19 + 21 * j) = a := by unfold mDem; rw [setN_n (by omega), setN_n (by omega), setN_s]
  have e1 : mDem ρ j a b d (20 + 21 * j) = b := by unfold mDem; rw [setN_n (by omega), setN_s]
  have e2 : mDem ρ j a b d (21 + 21 * j) = d := by unfold mDem; rw [setN_s]
  have m : ∀ c k, k < 3 → most (mDem ρ j a b d) c k = most ρ c k := fun c k hk => most_cong hk (fun q h1 h2 => o _ (by omega) (by omega) (by omega)) (o _ (by omega) (by omega) (by omega))
  have h4 : mDem ρ j a b d 4 = ρ 4 := o _ (by omega) (by omega) (by omega)
  obtain ⟨f0, f1, f2, f3⟩ := h
  refine ⟨fun c hc k hk => ?_, fun c hc => ?_⟩
  · rw [h4] at hc
    rw [m c k hk]
    by_cases e : c = j
    · subst e
      refine k3 (P := fun k => mDem ρ c a b d (19 + 21 * c + k) ≤ most ρ c k) hk ?_ ?_ ?_
      · show mDem ρ c a b d (19 + 21 * c) ≤ _; rw [e0]; exact f0
      · show mDem ρ c a b d (19 + 21 * c + 1) ≤ _; rw [show 19 + 21 * c + 1 = 20 + 21 * c by omega, e1]; exact f1
      · show mDem ρ c a b d (19 + 21 * c + 2) ≤ _; rw [show 19 + 21 * c + 2 = 21 + 21 * c by omega, e2]; exact f2
    · rw [o _ (by omega) (by omega) (by omega)]
      exact hA.1 c hc k hk
  · rw [h4] at hc
    rw [o (14 + 21 * c) (by omega) (by omega) (by omega)]
    by_cases e : c = j
    · subst e
      unfold act
      rw [e0, e1, e2, o 8 (by omega) (by omega) (by omega), o 9 (by omega) (by omega) (by omega), o 10 (by omega) (by omega) (by omega), Nat.mul_comm (ρ 8), Nat.mul_comm (ρ 9), Nat.mul_comm (ρ 10)]
      exact f3
    · rw [act_cong (ρ := ρ) (fun q h1 h2 => o _ (by omega) (by omega) (by omega)) (fun k hk => o _ (by omega) (by omega) (by omega))]
      exact hA.2 c hc
/-- a best bid by values there is -/
theorem best_ex (N : Nat) : ∃ t, t < N + 1 ∧ feaC ρ j t ∧ ∀ u, u < N + 1 → feaC ρ j u → gnC ρ j u ≤ gnC ρ j t ∧ (gnC ρ j u = gnC ρ j t → t ≤ u) := by
  induction N with
  | zero => exact ⟨0, by decide, fea_0, fun u hu _ => by obtain rfl : u = 0 := by omega
                                                        exact ⟨Int.le_refl _, fun _ => Nat.le_refl _⟩⟩
  | succ N ih =>
    obtain ⟨t, h1, h2, h3⟩ := ih
    by_cases hf : feaC ρ j (N + 1) ∧ gnC ρ j t < gnC ρ j (N + 1)
    · refine ⟨N + 1, by omega, hf.1, fun u hu hfu => ?_⟩
      by_cases e : u = N + 1
      · subst e; exact ⟨Int.le_refl _, fun _ => Nat.le_refl _⟩
      · have := (h3 u (by omega) hfu).1
        have := hf.2
        exact ⟨by omega, fun z => by omega⟩
    · refine ⟨t, by omega, h2, fun u hu hfu => ?_⟩
      by_cases e : u = N + 1
      · subst e
        have : ¬ gnC ρ j t < gnC ρ j (N + 1) := fun z => hf ⟨hfu, z⟩
        exact ⟨by omega, fun _ => by omega⟩
      · exact h3 u (by omega) hfu
theorem bsC_is : IsB ρ j (bsC ρ j) := by
  obtain ⟨t, h1, h2, h3⟩ := best_ex (ρ := ρ) (j := j) 999
  have h : IsB ρ j t := ⟨h1, h2, h3⟩
  rw [h.eq]
  exact h
theorem Adm_bid (hA : Adm ρ) : Adm (mBid ρ j) := Adm_dem hA (bsC_is (ρ := ρ) (j := j)).2.1
theorem clR_rgt : ∀ {n : Nat}, b < n → clR ρ n (14 + 21 * b) = min (ρ (14 + 21 * b)) (100 * act ρ b / ρ 2)
  | 0, h => absurd h (Nat.not_lt_zero _)
  | n + 1, h => by
    show setN _ _ _ _ = _
    by_cases e : b = n
    · subst e
      rw [setN_s, clR_o (fun c hc => by omega), clR_o (b := b) (q := 2) (fun c hc => by omega), act_cong (σ := clR ρ b) (ρ := ρ) (fun q h1 h2 => clR_o (fun c hc => by omega)) (fun k hk => clR_o (fun c hc => by omega))]
    · rw [setN_n (by omega)]
      exact clR_rgt (n := n) (by omega)
theorem Adm_cl1 (hI : Inv ρ) (hA : Adm ρ) : Adm (cl1 ρ) := by
  have o : ∀ q, (∀ c, c < ρ 4 → q ≠ 14 + 21 * c) → cl1 ρ q = ρ q := fun q h => clR_o h
  have h4 : cl1 ρ 4 = ρ 4 := o _ (fun c hc => by omega)
  refine ⟨fun b hb k hk => ?_, fun b hb => ?_⟩
  · rw [h4] at hb
    rw [o _ (fun c hc => by omega), most_cong (σ := cl1 ρ) (ρ := ρ) hk (fun q h1 h2 => o _ (fun c hc => by omega)) (o _ (fun c hc => by omega))]
    exact hA.1 b hb k hk
  · rw [h4] at hb
    rw [act_cong (σ := cl1 ρ) (ρ := ρ) (fun q h1 h2 => o _ (fun c hc => by omega)) (fun k hk => o _ (fun c hc => by omega))]
    unfold cl1
    rw [clR_rgt hb]
    have hk := hI.keep
    refine Nat.le_min.mpr ⟨hA.2 b hb, (Nat.le_div_iff_mul_le (by omega)).mpr ?_⟩
    rw [Nat.mul_comm]
    exact Nat.mul_le_mul_right _ hk.2
theorem mClose_o {q : Nat} (h : 2 ≤ q) (h2 : q < 11 ∨ 14 ≤ q) : mClose ρ q = cl1 ρ q := by
  unfold mClose
  rw [setN_n (by omega), setN_n (by omega), clQ_o h2]
theorem Adm_close (hI : Inv ρ) (hA : Adm ρ) : Adm (mClose ρ) := by
  have h4 : cl1 ρ 4 = ρ 4 := clR_4
  exact (Adm_cl1 hI hA).cong (mClose_o (by omega) (by omega)) (fun q h1 h2 => mClose_o (by omega) (by omega)) (fun b hb => ⟨mClose_o (by omega) (by omega), mClose_o (by omega) (by omega)⟩) (fun b hb k hk => mClose_o (by omega) (by omega))
/-- a demand that may be asked for -/
theorem ask_fea (hI : Inv ρ) (hj : j < ρ 4) (hk : k < 3) (hn : n ≤ 9) (h : askBad ρ j k n = 0) : n ≤ most ρ j k ∧ act (mAsk ρ j k n) j ≤ ρ (14 + 21 * j) := by
  unfold askBad at h
  by_cases h1 : ρ 1 = 0
  · rw [if_pos h1] at h
    by_cases h2 : n ≤ most ρ j k
    · rw [if_pos h2] at h
      by_cases h3 : nI (act ρ j) + (nI n - nI (ρ (19 + 21 * j + k))) * nI (ρ (8 + k)) ≤ nI (ρ (14 + 21 * j))
      · refine ⟨h2, ?_⟩
        have hd := hI.dem (q := 19 + 21 * j + k) hj hk rfl
        have hp := (hI.pts (q := 8 + k) hk rfl).2
        have hr := hI.rgt (q := 14 + 21 * j) hj rfl
        have ha := act_le hI hj
        have e : ∀ n : Nat, nI n = Int32.ofInt (n : Int) := fun n => Int32.ofInt_eq_ofNat.symm
        have hE : act (mAsk ρ j k n) j + ρ (8 + k) * ρ (19 + 21 * j + k) = act ρ j + ρ (8 + k) * n := by
          refine k3 (P := fun k => act (mAsk ρ j k n) j + ρ (8 + k) * ρ (19 + 21 * j + k) = act ρ j + ρ (8 + k) * n) hk ?_ ?_ ?_
          · unfold act mAsk
            rw [show 19 + 21 * j + 0 = 19 + 21 * j from rfl, setN_s, setN_n (by omega), setN_n (by omega), setN_n (by omega), setN_n (by omega), setN_n (by omega)]
            show ρ 8 * n + _ + _ + ρ 8 * _ = _ + ρ 8 * n
            omega
          · unfold act mAsk
            rw [show 20 + 21 * j = 19 + 21 * j + 1 by omega, setN_s, setN_n (by omega), setN_n (by omega), setN_n (by omega), setN_n (by omega), setN_n (by omega)]
            show _ + ρ 9 * n + _ + ρ 9 * _ = _ + ρ 9 * n
            omega
          · unfold act mAsk
            rw [show 21 + 21 * j = 19 + 21 * j + 2 by omega, setN_s, setN_n (by omega), setN_n (by omega), setN_n (by omega), setN_n (by omega), setN_n (by omega)]
            show _ + _ + ρ 10 * n + ρ 10 * _ = _ + ρ 10 * n
            omega
        have hX : (nI (act ρ j) + (nI n - nI (ρ (19 + 21 * j + k))) * nI (ρ (8 + k))) = Int32.ofInt ((act ρ j : Int) + ((n : Int) - (ρ (19 + 21 * j + k) : Int)) * (ρ (8 + k) : Int)) := by
          simp only [e, Int32.ofInt_add, Int32.ofInt_mul, Int32.ofInt_sub]
        have hY : ((n : Int) - (ρ (19 + 21 * j + k) : Int)) * (ρ (8 + k) : Int) = (ρ (8 + k) * n : Nat) - (ρ (8 + k) * ρ (19 + 21 * j + k) : Nat) := by
          rw [Int.sub_mul, Int.natCast_mul, Int.natCast_mul, Int.mul_comm, Int.mul_comm (ρ (19 + 21 * j + k) : Int)]
        have m1 : ρ (8 + k) * n ≤ 81 := Nat.mul_le_mul hp hn
        have m2 : ρ (8 + k) * ρ (19 + 21 * j + k) ≤ 81 := Nat.mul_le_mul hp hd
        rw [hX, hY, e, Int32.le_iff_toInt_le, Int32.toInt_ofInt_of_le (by omega) (by omega), Int32.toInt_ofInt_of_le (by omega) (by omega)] at h3
        omega
      · rw [if_neg h3] at h; exact absurd h (by decide)
    · rw [if_neg h2] at h; exact absurd h (by decide)
  · rw [if_neg h1] at h; exact absurd h (by decide)
theorem tAsk_bad (h : tAsk ρ j k n = 0) : askBad ρ j k n = 0 := by
  have ho := okN_ask h
  unfold tAsk whyAsk at h
  rw [if_neg (zn (by omega) (by omega)), if_neg (zn (by omega) (by omega)), if_neg (zn (by omega) (by omega))] at h
  exact h
theorem Adm_ask (hI : Inv ρ) (hA : Adm ρ) (h : tAsk ρ j k n = 0) : Adm (mAsk ρ j k n) := by
  obtain ⟨hj, hk, hn⟩ := okN_ask h
  obtain ⟨f1, f2⟩ := ask_fea hI hj hk hn (tAsk_bad h)
  have o : ∀ q, q ≠ 19 + 21 * j + k → mAsk ρ j k n q = ρ q := fun q h1 => setN_n h1
  have h4 : mAsk ρ j k n 4 = ρ 4 := o _ (by omega)
  have m : ∀ c k2, k2 < 3 → most (mAsk ρ j k n) c k2 = most ρ c k2 := fun c k2 hk2 => most_cong hk2 (fun q h1 h2 => o _ (by omega)) (o _ (by omega))
  refine ⟨fun c hc k2 hk2 => ?_, fun c hc => ?_⟩
  · rw [h4] at hc
    rw [m c k2 hk2]
    by_cases e : 19 + 21 * c + k2 = 19 + 21 * j + k
    · obtain rfl : c = j := by omega
      obtain rfl : k2 = k := by omega
      show setN _ _ _ _ ≤ _
      rw [setN_s]; exact f1
    · rw [o _ e]; exact hA.1 c hc k2 hk2
  · rw [h4] at hc
    rw [o (14 + 21 * c) (by omega)]
    by_cases e : c = j
    · subst e; exact f2
    · rw [act_cong (ρ := ρ) (fun q h1 h2 => o _ (by omega)) (fun k2 hk2 => o _ (by omega))]
      exact hA.2 c hc
/-! all that can be done -/
theorem Good_0 : Good 0 row0 := ⟨Inv_0, Adm_none rfl, Nat.le_refl _⟩
theorem Good_offer (h : Good B ρ) (ht : tOffer ρ k u v = 0) : Good B (mOffer ρ k u v) := by
  have := okN_offer ht
  exact ⟨Inv_offer h.1 this.1 this.2.1 this.2.2.1, Adm_offer this.1 this.2.2.2.1, by unfold mOffer; rw [setN_n (by omega), setN_n (by omega)]; exact h.2.2⟩
theorem Good_price (h : Good B ρ) (ht : whyPrice ρ (k : Int) (v : Int) = 0) : Good B (mPri ρ k v) := by
  have := ok_price ht
  exact ⟨Inv_pri h.1 (by omega) (by omega), Adm_pri h.2.1 (by omega), by unfold mPri; rw [setN_n (by omega)]; exact h.2.2⟩
theorem Good_join (h : Good B ρ) (ht : tJoin ρ u v = 0) : Good B (mJoin ρ u v) := by
  have := okN_join ht
  exact ⟨Inv_join h.1 this.2.2 this.1 this.2.1, Adm_join h.1 h.2.1 this.2.2 this.2.1.1, by unfold mJoin; rw [setN_n (by omega), setN_n (by omega), setN_n (by omega)]; exact h.2.2⟩
theorem Good_val (h : Good B ρ) (ht : tVal ρ b k v = 0) : Good B (mVal ρ b k v) := by
  have := okN_value ht
  exact ⟨Inv_val h.1 this.1 this.2.1 this.2.2, Adm_val h.2.1 this.2.1, by unfold mVal; rw [setN_n (by omega)]; exact h.2.2⟩
theorem Good_ask (h : Good B ρ) (ht : tAsk ρ b k n = 0) : Good B (mAsk ρ b k n) := by
  have := okN_ask ht
  exact ⟨Inv_ask h.1 this.1 this.2.1 this.2.2, Adm_ask h.1 h.2.1 ht, by unfold mAsk; rw [setN_n (by omega)]; exact h.2.2⟩
theorem mDem_0 : mDem ρ j a b d 0 = ρ 0 := by unfold mDem; rw [setN_n (by omega), setN_n (by omega), setN_n (by omega)]
theorem Good_bid (h : Good B ρ) (hj : j < ρ 4) : Good B (mBid ρ j) := ⟨Inv_mBid h.1 hj, Adm_bid h.2.1, by unfold mBid; rw [mDem_0]; exact h.2.2⟩
theorem Good_close (h : Good B ρ) : Good (B + 1) (mClose ρ) := ⟨Inv_close h.1, Adm_close h.1 h.2.1, by unfold mClose; rw [setN_s]; have := h.2.2; omega⟩
theorem Good_add (h : Good B ρ) (ht : tAdd ρ b x y z v = 0) : Good B (mAdd ρ b x y z v) := by
  have := okN_add ht
  exact ⟨Inv_add h.1 this.1 this.2.2.2.2.2 this.2.1 this.2.2.1 this.2.2.2.1 this.2.2.2.2.1.2, Adm_add h.2.1 this.2.2.2.2.2, by rw [mAdd_o this.2.2.2.2.2 (by omega)]; exact h.2.2⟩
theorem Good_drop (h : Good B ρ) (ht : tDrop ρ b i = 0) : Good B (mDrop ρ b i) := by
  have := okN_drop ht
  have h3 := h.1.pck (q := 22 + 21 * b) this.1 rfl
  exact ⟨Inv_drop h.1 this.1 this.2.1 this.2.2, Adm_drop h.2.1 ⟨this.2.1, by omega⟩, by rw [mDrop_o ⟨this.2.1, by omega⟩ (by omega)]; exact h.2.2⟩
theorem Good_set {w : Nat} (h : Good B ρ) (ht : tSet w v = 0) : Good B (mSet ρ (w : Int) v) := by
  have := okN_set ht
  exact ⟨Inv_set h.1 this.1 (fun z => (this.2 z).2), Adm_set h.2.1, by unfold mSet; split <;> (rw [setN_n (by omega)]; exact h.2.2)⟩
theorem Good_cmR {lt : Nat → Nat} (h : Good B ρ) : Good (B + 1) (cmR ρ lt i) := by
  have hu : Good (B + 1) ρ := h.up2 (Nat.le_succ _)
  unfold cmR
  (repeat' split)
  · unfold dOffer; split; exact Good_offer hu ‹_›; exact hu
  · unfold dJoin; split; exact Good_join hu ‹_›; exact hu
  · unfold dVal; split; exact Good_val hu ‹_›; exact hu
  · unfold dAsk; split; exact Good_ask hu ‹_›; exact hu
  · unfold dBid; split; exact Good_bid hu (okN_bid ‹_›).1; exact hu
  · unfold dClose; split; exact Good_close h; exact hu
theorem Good_txR {lt : Nat → Nat} : ∀ {f i o B : Nat} {ρ : Nat → Nat}, Good B ρ → Good (B + f) (txR lt n f i ρ o).1
  | 0, _, _, _, _, h => h
  | f + 1, i, o, B, ρ, h => by
    unfold txR
    split
    · exact h.up2 (Nat.le_add_right _ _)
    · exact (Good_txR (f := f) (Good_cmR h)).up2 (by omega)
theorem Good_tR {lt : Nat → Nat} (hn : n ≤ 120) : Good 121 (tR lt n 1 row0 0).1 := (Good_txR (f := n + 1) Good_0).up2 (by omega)
end ADM
