section ADM
variable {ρ σ : Nat → Nat} {j k i b u v a d n x y z B C : Nat}
/-! all that can be done -/
theorem Good_0 : Good 0 row0 := ⟨Inv_0, Adm_none rfl, Nat.le_refl _⟩
theorem Good_offer (h : Good B ρ) (ht : tOffer ρ k u v = 0) : Good B (mOffer ρ k u v) := by
  have := okN_offer ht
  exact ⟨Inv_offer h.1 this.1 this.2.1 this.2.2.1, Adm_offer this.1 this.2.2.2.1, by unfold mOffer; rw [setN_n (by omega), setN_n (by omega)]; exact h.2.2⟩
theorem Good_price (h : Good B ρ) (ht : whyPrice ρ (k : Int) (v : Int) = 0) : Good B (mPri ρ k v) := by
  have := ok_price ht
  exact ⟨Inv_pri h.1 (by omega) (by omega), Adm_pri h.2.1 (by omega), by unfold mPri; rw [setN_n (by omega)]; exact h.2.2⟩
theorem Good_join (h : Good B ρ) (ht : tJoin ρ u v = 0) : Good B (mJoin ρ u v) := by
  have := okN_join ht
  exact ⟨Inv_join h.1 this.2.2 this.1 this.2.1, Adm_join h.1 h.2.1 this.2.2 this.2.1.1, by unfold mJoin; rw [setN_n (by omega), setN_n (by omega), setN_n (by omega)]; exact h.2.2⟩
theorem Good_val (h : Good B ρ) (ht : tVal ρ b k v = 0) : Good B (mVal ρ b k v) := by
  have := okN_value ht
  exact ⟨Inv_val h.1 this.1 this.2.1 this.2.2, Adm_val h.2.1 this.2.1, by unfold mVal; rw [setN_n (by omega)]; exact h.2.2⟩
theorem Good_ask (h : Good B ρ) (ht : tAsk ρ b k n = 0) : Good B (mAsk ρ b k n) := by
  have := okN_ask ht
  exact ⟨Inv_ask h.1 this.1 this.2.1 this.2.2, Adm_ask h.1 h.2.1 ht, by unfold mAsk; rw [setN_n (by omega)]; exact h.2.2⟩
theorem mDem_0 : mDem ρ j a b d 0 = ρ 0 := by unfold mDem; rw [setN_n (by omega), setN_n (by omega), setN_n (by omega)]
theorem Good_bid (h : Good B ρ) (hj : j < ρ 4) : Good B (mBid ρ j) := ⟨Inv_mBid h.1 hj, Adm_bid h.2.1, by unfold mBid; rw [mDem_0]; exact h.2.2⟩
theorem Good_close (h : Good B ρ) : Good (B + 1) (mClose ρ) := ⟨Inv_close h.1, Adm_close h.1 h.2.1, by unfold mClose; rw [setN_s]; have := h.2.2; omega⟩
theorem Good_add (h : Good B ρ) (ht : tAdd ρ b x y z v = 0) : Good B (mAdd ρ b x y z v) := by
  have := okN_add ht
  exact ⟨Inv_add h.1 this.1 this.2.2.2.2.2 this.2.1 this.2.2.1 this.2.2.2.1 this.2.2.2.2.1.2, Adm_add h.2.1 this.2.2.2.2.2, by rw [mAdd_o this.2.2.2.2.2 (by omega)]; exact h.2.2⟩
theorem Good_drop (h : Good B ρ) (ht : tDrop ρ b i = 0) : Good B (mDrop ρ b i) := by
  have := okN_drop ht
  have h3 := h.1.pck (q := 22 + 21 * b) this.1 rfl
  exact ⟨Inv_drop h.1 this.1 this.2.1 this.2.2, Adm_drop h.2.1 ⟨this.2.1, by omega⟩, by rw [mDrop_o ⟨this.2.1, by omega⟩ (by omega)]; exact h.2.2⟩
theorem Good_set {w : Nat} (h : Good B ρ) (ht : tSet w v = 0) : Good B (mSet ρ (w : Int) v) := by
  have := okN_set ht
  exact ⟨Inv_set h.1 this.1 (fun z => (this.2 z).2), Adm_set h.2.1, by unfold mSet; split <;> (rw [setN_n (by omega)]; exact h.2.2)⟩
theorem Good_cmR {lt : Nat → Nat} (h : Good B ρ) : Good (B + 1) (cmR ρ lt i) := by
  have hu : Good (B + 1) ρ := h.up2 (Nat.le_succ _)
  unfold cmR
  (repeat' split)
  · unfold dOffer; split; exact Good_offer hu ‹_›; exact hu
  · unfold dJoin; split; exact Good_join hu ‹_›; exact hu
  · unfold dVal; split; exact Good_val hu ‹_›; exact hu
  · unfold dAsk; split; exact Good_ask hu ‹_›; exact hu
  · unfold dBid; split; exact Good_bid hu (okN_bid ‹_›).1; exact hu
  · unfold dClose; split; exact Good_close h; exact hu
theorem Good_txR {lt : Nat → Nat} : ∀ {f i o B : Nat} {ρ : Nat → Nat}, Good B ρ → Good (B + f) (txR lt n f i ρ o).1
  | 0, _, _, _, _, h => h
  | f + 1, i, o, B, ρ, h => by
    unfold txR
    split
    · exact h.up2 (Nat.le_add_right _ _)
    · exact (Good_txR (f := f) (Good_cmR h)).up2 (by omega)
theorem Good_tR {lt : Nat → Nat} (hn : n ≤ 120) : Good 121 (tR lt n 1 row0 0).1 := (Good_txR (f := n + 1) Good_0).up2 (by omega)
end ADM
