set_option maxHeartbeats 4000000 in
set_option maxRecDepth 20000 in
theorem k_X1_tryOffer (l : Launch) (G : va_G) (Y : Nat → Nat) (h k u v : Nat) (ρ : Nat → Nat) (γ : Nat → Nat → Nat) (hI : Inv ρ) (g0 : k < 2 ^ 31) (g1 : u < 2 ^ 31) (g2 : v < 2 ^ 31) : CtI l yX1_tryOffer cX1_tryOffer 4 .boolean 3 65 [.ref h, .int (nI k), .int (nI u), .int (nI v)] [aucW Y h ρ γ] (fun r sg => r = b2i (decide (tOffer ρ k u v = 0)) ∧ ∃ γ' : Nat → Nat → Nat, sg = [aucW Y h (dOffer ρ k u v) γ']) G Y := by
  refine x_ofI (by decide) (Nat.le_of_ble_eq_true rfl) (fun p e s m args below meth c A ls Q M hK hZ hw hl hret => ?_)
  obtain ⟨hx, hb, -⟩ := id M
  have hl : lv_has ls 4 [(0, .ref h), (1, .int (nI k)), (2, .int (nI u)), (3, .int (nI v))] := hl
  have := hI.n6
  have := hI.over
  have := hI.keep
  have := hI.stepp
  refine lv_aload_n hx hb dX1_tryOffer_0 rfl (lv_at hl 0 rfl) ?_
  refine lv_iload_n hx hb dX1_tryOffer_1 rfl (lv_at hl 1 rfl) ?_
  refine lv_iload_n hx hb dX1_tryOffer_2 rfl (lv_at hl 2 rfl) ?_
  refine lv_iload_n hx hb dX1_tryOffer_3 rfl (lv_at hl 3 rfl) ?_
  refine x_cVI (As := [.int (nI k), .int (nI u), .int (nI v)]) (k_X1_whyNotOffer l G Y h ρ γ (nI k) (nI u) (nI v) (hI)) cw_X1_131 [0] 0 0 M hK hZ hw hl.1 rfl (by decide) rfl rfl rfl ⟨by decide, by decide⟩ ⟨Nat.zero_le _, Nat.zero_le _⟩ rfl rfl (Nat.le_of_ble_eq_true rfl) dX1_tryOffer_4 (fun r sg h_1 H locs hw => ?_)
  obtain ⟨rfl, rfl⟩ := h_1
  have hw : xW G A s.heap [aucW Y h ρ γ] H locs := hw
  refine x_topN (n := (tOffer ρ k u v)) (congrArg nI (by unfold tOffer; rw [nI_toInt g0, nI_toInt g1, nI_toInt g2])) ?_
  have hle : tOffer ρ k u v ≤ 3 := whyOffer_le
  refine x_zeq M (tgt := 12) (by omega) dX1_tryOffer_7 (by decide) (fun c_2 => ?_) (fun c_2 => ?_)
  · have hok := okN_offer c_2
    refine lv_aload_n hx hb dX1_tryOffer_12 rfl (lv_at hl 0 rfl) ?_
    refine lv_iload_n hx hb dX1_tryOffer_13 rfl (lv_at hl 1 rfl) ?_
    refine lv_iload_n hx hb dX1_tryOffer_14 rfl (lv_at hl 2 rfl) ?_
    refine lv_iload_n hx hb dX1_tryOffer_15 rfl (lv_at hl 3 rfl) ?_
    refine x_cVV (As := [.int (nI k), .int (nI u), .int (nI v)]) (k_X1_changeOffer l G Y h k u v ρ γ (hI) (by omega)) cw_X1_134 [0] 0 0 M hK hZ hw hl.1 rfl (by decide) rfl rfl rfl ⟨by decide, by decide⟩ ⟨Nat.zero_le _, Nat.zero_le _⟩ rfl rfl (Nat.le_of_ble_eq_true rfl) dX1_tryOffer_16 (fun sg h_3 H locs hw => ?_)
    obtain ⟨γa4, rfl⟩ := h_3
    have hw : xW G A s.heap [aucW Y h (mOffer ρ k u v) γa4] H locs := hw
    refine lv_iconst (v := (nI 1)) hx hb dX1_tryOffer_19 (by decide) ?_
    exact hret _ _ _ (nI 1) _ _ dX1_tryOffer_20 hw rfl rfl ⟨b2i_t (decide_eq_true c_2), γa4, by rw [show dOffer ρ k u v = mOffer ρ k u v from if_pos c_2]⟩
  refine lv_iconst (v := (nI 0)) hx hb dX1_tryOffer_10 (by decide) ?_
  exact hret _ _ _ (nI 0) _ _ dX1_tryOffer_11 hw rfl rfl ⟨b2i_f (decide_eq_false (Nat.ne_of_gt c_2)), γ, by rw [show dOffer ρ k u v = ρ from if_neg (Nat.ne_of_gt c_2)]⟩
set_option maxHeartbeats 4000000 in
set_option maxRecDepth 20000 in
theorem k_X1_tryJoin (l : Launch) (G : va_G) (Y : Nat → Nat) (h u v : Nat) (ρ : Nat → Nat) (γ : Nat → Nat → Nat) (hI : Inv ρ) (g0 : u < 2 ^ 31) (g1 : v < 2 ^ 31) : CtI l yX1_tryJoin cX1_tryJoin 3 .boolean 3 69 [.ref h, .int (nI u), .int (nI v)] [aucW Y h ρ γ] (fun r sg => r = b2i (decide (tJoin ρ u v = 0)) ∧ ∃ γ' : Nat → Nat → Nat, sg = [aucW Y h (dJoin ρ u v) γ']) G Y := by
  refine x_ofI (by decide) (Nat.le_of_ble_eq_true rfl) (fun p e s m args below meth c A ls Q M hK hZ hw hl hret => ?_)
  obtain ⟨hx, hb, -⟩ := id M
  have hl : lv_has ls 3 [(0, .ref h), (1, .int (nI u)), (2, .int (nI v))] := hl
  have := hI.n6
  have := hI.over
  have := hI.keep
  have := hI.stepp
  refine lv_aload_n hx hb dX1_tryJoin_0 rfl (lv_at hl 0 rfl) ?_
  refine lv_iload_n hx hb dX1_tryJoin_1 rfl (lv_at hl 1 rfl) ?_
  refine lv_iload_n hx hb dX1_tryJoin_2 rfl (lv_at hl 2 rfl) ?_
  refine x_cVI (As := [.int (nI u), .int (nI v)]) (k_X1_whyNotJoin l G Y h ρ γ (nI u) (nI v) (hI)) cw_X1_138 [0] 0 0 M hK hZ hw hl.1 rfl (by decide) rfl rfl rfl ⟨by decide, by decide⟩ ⟨Nat.zero_le _, Nat.zero_le _⟩ rfl rfl (Nat.le_of_ble_eq_true rfl) dX1_tryJoin_3 (fun r sg h_1 H locs hw => ?_)
  obtain ⟨rfl, rfl⟩ := h_1
  have hw : xW G A s.heap [aucW Y h ρ γ] H locs := hw
  refine x_topN (n := (tJoin ρ u v)) (congrArg nI (by unfold tJoin; rw [nI_toInt g0, nI_toInt g1])) ?_
  have hle : tJoin ρ u v ≤ 3 := whyJoin_le
  refine x_zeq M (tgt := 11) (by omega) dX1_tryJoin_6 (by decide) (fun c_2 => ?_) (fun c_2 => ?_)
  · have hok := okN_join c_2
    refine lv_aload_n hx hb dX1_tryJoin_11 rfl (lv_at hl 0 rfl) ?_
    refine lv_iload_n hx hb dX1_tryJoin_12 rfl (lv_at hl 1 rfl) ?_
    refine lv_iload_n hx hb dX1_tryJoin_13 rfl (lv_at hl 2 rfl) ?_
    refine x_cVV (As := [.int (nI u), .int (nI v)]) (k_X1_addBidder l G Y h u v ρ γ (hI) (by omega)) cw_X1_141 [0] 0 0 M hK hZ hw hl.1 rfl (by decide) rfl rfl rfl ⟨by decide, by decide⟩ ⟨Nat.zero_le _, Nat.zero_le _⟩ rfl rfl (Nat.le_of_ble_eq_true rfl) dX1_tryJoin_14 (fun sg h_3 H locs hw => ?_)
    obtain ⟨γa4, rfl⟩ := h_3
    have hw : xW G A s.heap [aucW Y h (mJoin ρ u v) γa4] H locs := hw
    refine lv_iconst (v := (nI 1)) hx hb dX1_tryJoin_17 (by decide) ?_
    exact hret _ _ _ (nI 1) _ _ dX1_tryJoin_18 hw rfl rfl ⟨b2i_t (decide_eq_true c_2), γa4, by rw [show dJoin ρ u v = mJoin ρ u v from if_pos c_2]⟩
  refine lv_iconst (v := (nI 0)) hx hb dX1_tryJoin_9 (by decide) ?_
  exact hret _ _ _ (nI 0) _ _ dX1_tryJoin_10 hw rfl rfl ⟨b2i_f (decide_eq_false (Nat.ne_of_gt c_2)), γ, by rw [show dJoin ρ u v = ρ from if_neg (Nat.ne_of_gt c_2)]⟩
set_option maxHeartbeats 4000000 in
set_option maxRecDepth 20000 in
theorem k_X1_tryValue (l : Launch) (G : va_G) (Y : Nat → Nat) (h b k v : Nat) (ρ : Nat → Nat) (γ : Nat → Nat → Nat) (hI : Inv ρ) (g0 : b < 2 ^ 31) (g1 : k < 2 ^ 31) (g2 : v < 2 ^ 31) : CtI l yX1_tryValue cX1_tryValue 4 .boolean 3 66 [.ref h, .int (nI b), .int (nI k), .int (nI v)] [aucW Y h ρ γ] (fun r sg => r = b2i (decide (tVal ρ b k v = 0)) ∧ ∃ γ' : Nat → Nat → Nat, sg = [aucW Y h (dVal ρ b k v) γ']) G Y := by
  refine x_ofI (by decide) (Nat.le_of_ble_eq_true rfl) (fun p e s m args below meth c A ls Q M hK hZ hw hl hret => ?_)
  obtain ⟨hx, hb, -⟩ := id M
  have hl : lv_has ls 4 [(0, .ref h), (1, .int (nI b)), (2, .int (nI k)), (3, .int (nI v))] := hl
  have := hI.n6
  have := hI.over
  have := hI.keep
  have := hI.stepp
  refine lv_aload_n hx hb dX1_tryValue_0 rfl (lv_at hl 0 rfl) ?_
  refine lv_iload_n hx hb dX1_tryValue_1 rfl (lv_at hl 1 rfl) ?_
  refine lv_iload_n hx hb dX1_tryValue_2 rfl (lv_at hl 2 rfl) ?_
  refine lv_iload_n hx hb dX1_tryValue_3 rfl (lv_at hl 3 rfl) ?_
  refine x_cVI (As := [.int (nI b), .int (nI k), .int (nI v)]) (k_X1_whyNotValue l G Y h ρ γ (nI b) (nI k) (nI v) (hI)) cw_X1_145 [0] 0 0 M hK hZ hw hl.1 rfl (by decide) rfl rfl rfl ⟨by decide, by decide⟩ ⟨Nat.zero_le _, Nat.zero_le _⟩ rfl rfl (Nat.le_of_ble_eq_true rfl) dX1_tryValue_4 (fun r sg h_1 H locs hw => ?_)
  obtain ⟨rfl, rfl⟩ := h_1
  have hw : xW G A s.heap [aucW Y h ρ γ] H locs := hw
  refine x_topN (n := (tVal ρ b k v)) (congrArg nI (by unfold tVal; rw [nI_toInt g0, nI_toInt g1, nI_toInt g2])) ?_
  have hle : tVal ρ b k v ≤ 3 := whyValue_le
  refine x_zeq M (tgt := 12) (by omega) dX1_tryValue_7 (by decide) (fun c_2 => ?_) (fun c_2 => ?_)
  · have hok := okN_value c_2
    refine lv_aload_n hx hb dX1_tryValue_12 rfl (lv_at hl 0 rfl) ?_
    refine x_get M hK hw 0 0 rfl rfl ff_X1_30 rfl dX1_tryValue_13 ?_
    refine lv_iload_n hx hb dX1_tryValue_16 rfl (lv_at hl 1 rfl) ?_
    refine lv_iload_n hx hb dX1_tryValue_17 rfl (lv_at hl 2 rfl) ?_
    refine x_cNI (As := [.int (nI b), .int (nI k)]) (k_X5_cell l G Y b k) cw_X1_72 [] M hK hZ hw hl.1 rfl (by decide) ⟨by decide, by decide⟩ ⟨Nat.zero_le _, Nat.zero_le _⟩ rfl rfl (Nat.le_of_ble_eq_true rfl) dX1_tryValue_18 (fun r sg h_3 H locs hw => ?_)
    obtain ⟨rfl, rfl⟩ := h_3
    have hw : xW G A s.heap [aucW Y h ρ γ] H locs := hw
    refine lv_iload_n hx hb dX1_tryValue_21 rfl (lv_at hl 3 rfl) ?_
    refine x_iast M hK hw 0 7 rfl rfl (by omega) (by decide) dX1_tryValue_22 (fun H locs hw => ?_)
    rw [upd_row] at hw
    have hw : xW G A s.heap [aucR Y h (supF ρ) (ptsF ρ) (priF ρ) (rgtF ρ γ) (capF ρ γ) (pckF ρ γ) (setN (valF ρ γ) (3 * b + k) v) (demF ρ γ) (lotF ρ γ) (worF ρ γ) (ρ 4) (ρ 0) (ρ 1) (ρ 2) (ρ 3)] H locs := hw
    refine lv_iconst (v := (nI 1)) hx hb dX1_tryValue_23 (by decide) ?_
    have hN4 : (mVal ρ b k v) 4 = ρ 4 := by clear hret hw hl M hK hZ hx hb; simp only [mVal, setN, if_true, if_false, reduceIte] <;> (repeat' split) <;> first | rfl | (exfalso; omega) | omega
    obtain ⟨γ5, hw⟩ := auc_fold (i := 0) (ρ' := mVal ρ b k v) hw rfl hN4.symm (by clear hret hw hl M hK hZ hx hb; simp only [mVal, setN, if_true, if_false, reduceIte] <;> (repeat' split) <;> first | rfl | (exfalso; omega) | omega) (by clear hret hw hl M hK hZ hx hb; simp only [mVal, setN, if_true, if_false, reduceIte] <;> (repeat' split) <;> first | rfl | (exfalso; omega) | omega) (by clear hret hw hl M hK hZ hx hb; simp only [mVal, setN, if_true, if_false, reduceIte] <;> (repeat' split) <;> first | rfl | (exfalso; omega) | omega) (by clear hret hw hl M hK hZ hx hb; simp only [mVal, setN, if_true, if_false, reduceIte] <;> (repeat' split) <;> first | rfl | (exfalso; omega) | omega) (by clear hret hw hl M hK hZ hx hb; intro k9 hk9; (try simp only [mVal, setN, if_true, if_false, reduceIte, supF]) <;> (repeat' split) <;> first | rfl | (exfalso; omega) | omega) (by clear hret hw hl M hK hZ hx hb; intro k9 hk9; (try simp only [mVal, setN, if_true, if_false, reduceIte, ptsF]) <;> (repeat' split) <;> first | rfl | (exfalso; omega) | omega) (by clear hret hw hl M hK hZ hx hb; intro k9 hk9; (try simp only [mVal, setN, if_true, if_false, reduceIte, priF]) <;> (repeat' split) <;> first | rfl | (exfalso; omega) | omega) (by clear hret hw hl M hK hZ hx hb; intro b9 hb1; rw [hN4] at hb1; rcases Nat.lt_trichotomy b9 b with q9 | q9 | q9; (rw [mVal_o hok.2.1 (by omega)]; (repeat rw [setN_n (by omega)]); exact rgt_at (by omega) rfl rfl); (subst q9; (try simp only [mVal, setN, if_true, if_false, reduceIte]) <;> (repeat' split) <;> first | rfl | (exfalso; omega) | exact rgt_at (by omega) rfl rfl | omega); (rw [mVal_o hok.2.1 (by omega)]; (repeat rw [setN_n (by omega)]); exact rgt_at (by omega) rfl rfl)) (by clear hret hw hl M hK hZ hx hb; intro b9 hb1; rw [hN4] at hb1; rcases Nat.lt_trichotomy b9 b with q9 | q9 | q9; (rw [mVal_o hok.2.1 (by omega)]; (repeat rw [setN_n (by omega)]); exact cap_at (by omega) rfl rfl); (subst q9; (try simp only [mVal, setN, if_true, if_false, reduceIte]) <;> (repeat' split) <;> first | rfl | (exfalso; omega) | exact cap_at (by omega) rfl rfl | omega); (rw [mVal_o hok.2.1 (by omega)]; (repeat rw [setN_n (by omega)]); exact cap_at (by omega) rfl rfl)) (by clear hret hw hl M hK hZ hx hb; intro b9 hb1; rw [hN4] at hb1; rcases Nat.lt_trichotomy b9 b with q9 | q9 | q9; (rw [mVal_o hok.2.1 (by omega)]; (repeat rw [setN_n (by omega)]); exact pck_at (by omega) rfl rfl); (subst q9; (try simp only [mVal, setN, if_true, if_false, reduceIte]) <;> (repeat' split) <;> first | rfl | (exfalso; omega) | exact pck_at (by omega) rfl rfl | omega); (rw [mVal_o hok.2.1 (by omega)]; (repeat rw [setN_n (by omega)]); exact pck_at (by omega) rfl rfl)) (by clear hret hw hl M hK hZ hx hb; intro b9 k9 hb1 hk9; rw [hN4] at hb1; rcases Nat.lt_trichotomy b9 b with q9 | q9 | q9; (rw [mVal_o hok.2.1 (by omega)]; (repeat rw [setN_n (by omega)]); exact val_at (by omega) (by omega) rfl rfl); (subst q9; (try simp only [mVal, setN, if_true, if_false, reduceIte]) <;> (repeat' split) <;> first | rfl | (exfalso; omega) | exact val_at (by omega) (by omega) rfl rfl | omega); (rw [mVal_o hok.2.1 (by omega)]; (repeat rw [setN_n (by omega)]); exact val_at (by omega) (by omega) rfl rfl)) (by clear hret hw hl M hK hZ hx hb; intro b9 k9 hb1 hk9; rw [hN4] at hb1; rcases Nat.lt_trichotomy b9 b with q9 | q9 | q9; (rw [mVal_o hok.2.1 (by omega)]; (repeat rw [setN_n (by omega)]); exact dem_at (by omega) (by omega) rfl rfl); (subst q9; (try simp only [mVal, setN, if_true, if_false, reduceIte]) <;> (repeat' split) <;> first | rfl | (exfalso; omega) | exact dem_at (by omega) (by omega) rfl rfl | omega); (rw [mVal_o hok.2.1 (by omega)]; (repeat rw [setN_n (by omega)]); exact dem_at (by omega) (by omega) rfl rfl)) (by clear hret hw hl M hK hZ hx hb; intro b9 i9 k9 hb1 hi9 h39 hk9; rw [hN4] at hb1; rcases Nat.lt_trichotomy b9 b with q9 | q9 | q9; (rw [mVal_o hok.2.1 (by omega)]; rw [mVal_o hok.2.1 (by omega)] at hi9; (repeat rw [setN_n (by omega)]); exact lot_at (by omega) (by omega) (by omega) (by omega) rfl rfl); (subst q9; simp only [mVal, setN, if_true, if_false, reduceIte] at hi9; (try simp only [mVal, setN, if_true, if_false, reduceIte]) <;> (repeat' split at hi9) <;> (repeat' split) <;> first | rfl | (exfalso; omega) | exact lot_at (by omega) (by omega) (by omega) (by omega) rfl rfl | omega); (rw [mVal_o hok.2.1 (by omega)]; rw [mVal_o hok.2.1 (by omega)] at hi9; (repeat rw [setN_n (by omega)]); exact lot_at (by omega) (by omega) (by omega) (by omega) rfl rfl)) (by clear hret hw hl M hK hZ hx hb; intro b9 i9 hb1 hi9 h39; rw [hN4] at hb1; rcases Nat.lt_trichotomy b9 b with q9 | q9 | q9; (rw [mVal_o hok.2.1 (by omega)]; rw [mVal_o hok.2.1 (by omega)] at hi9; (repeat rw [setN_n (by omega)]); exact wor_at (by omega) (by omega) (by omega) rfl rfl); (subst q9; simp only [mVal, setN, if_true, if_false, reduceIte] at hi9; (try simp only [mVal, setN, if_true, if_false, reduceIte]) <;> (repeat' split at hi9) <;> (repeat' split) <;> first | rfl | (exfalso; omega) | exact wor_at (by omega) (by omega) (by omega) rfl rfl | omega); (rw [mVal_o hok.2.1 (by omega)]; rw [mVal_o hok.2.1 (by omega)] at hi9; (repeat rw [setN_n (by omega)]); exact wor_at (by omega) (by omega) (by omega) rfl rfl))
    have hw : xW G A s.heap [aucW Y h (mVal ρ b k v) γ5] H locs := hw
    exact hret _ _ _ (nI 1) _ _ dX1_tryValue_24 hw rfl rfl ⟨b2i_t (decide_eq_true c_2), γ5, by rw [show dVal ρ b k v = mVal ρ b k v from if_pos c_2]⟩
  refine lv_iconst (v := (nI 0)) hx hb dX1_tryValue_10 (by decide) ?_
  exact hret _ _ _ (nI 0) _ _ dX1_tryValue_11 hw rfl rfl ⟨b2i_f (decide_eq_false (Nat.ne_of_gt c_2)), γ, by rw [show dVal ρ b k v = ρ from if_neg (Nat.ne_of_gt c_2)]⟩
set_option maxHeartbeats 4000000 in
set_option maxRecDepth 20000 in
theorem k_X1_tryAsk (l : Launch) (G : va_G) (Y : Nat → Nat) (h b k n : Nat) (ρ : Nat → Nat) (γ : Nat → Nat → Nat) (hI : Inv ρ) (g0 : b < 2 ^ 31) (g1 : k < 2 ^ 31) (g2 : n < 2 ^ 31) : CtI l yX1_tryAsk cX1_tryAsk 4 .boolean 3 68 [.ref h, .int (nI b), .int (nI k), .int (nI n)] [aucW Y h ρ γ] (fun r sg => r = b2i (decide (tAsk ρ b k n = 0)) ∧ ∃ γ' : Nat → Nat → Nat, sg = [aucW Y h (dAsk ρ b k n) γ']) G Y := by
  refine x_ofI (by decide) (Nat.le_of_ble_eq_true rfl) (fun p e s m args below meth c A ls Q M hK hZ hw hl hret => ?_)
  obtain ⟨hx, hb, -⟩ := id M
  have hl : lv_has ls 4 [(0, .ref h), (1, .int (nI b)), (2, .int (nI k)), (3, .int (nI n))] := hl
  have := hI.n6
  have := hI.over
  have := hI.keep
  have := hI.stepp
  refine lv_aload_n hx hb dX1_tryAsk_0 rfl (lv_at hl 0 rfl) ?_
  refine lv_iload_n hx hb dX1_tryAsk_1 rfl (lv_at hl 1 rfl) ?_
  refine lv_iload_n hx hb dX1_tryAsk_2 rfl (lv_at hl 2 rfl) ?_
  refine lv_iload_n hx hb dX1_tryAsk_3 rfl (lv_at hl 3 rfl) ?_
  refine x_cVI (As := [.int (nI b), .int (nI k), .int (nI n)]) (k_X1_whyNotAsk l G Y h ρ γ (nI b) (nI k) (nI n) (hI)) cw_X1_148 [0] 0 0 M hK hZ hw hl.1 rfl (by decide) rfl rfl rfl ⟨by decide, by decide⟩ ⟨Nat.zero_le _, Nat.zero_le _⟩ rfl rfl (Nat.le_of_ble_eq_true rfl) dX1_tryAsk_4 (fun r sg h_1 H locs hw => ?_)
  obtain ⟨rfl, rfl⟩ := h_1
  have hw : xW G A s.heap [aucW Y h ρ γ] H locs := hw
  refine x_topN (n := (tAsk ρ b k n)) (congrArg nI (by unfold tAsk; rw [nI_toInt g0, nI_toInt g1, nI_toInt g2])) ?_
  have hle : tAsk ρ b k n ≤ 3 := whyAsk_le
  refine x_zeq M (tgt := 12) (by omega) dX1_tryAsk_7 (by decide) (fun c_2 => ?_) (fun c_2 => ?_)
  · have hok := okN_ask c_2
    refine lv_aload_n hx hb dX1_tryAsk_12 rfl (lv_at hl 0 rfl) ?_
    refine x_get M hK hw 0 0 rfl rfl ff_X1_33 rfl dX1_tryAsk_13 ?_
    refine lv_iload_n hx hb dX1_tryAsk_16 rfl (lv_at hl 1 rfl) ?_
    refine lv_iload_n hx hb dX1_tryAsk_17 rfl (lv_at hl 2 rfl) ?_
    refine x_cNI (As := [.int (nI b), .int (nI k)]) (k_X5_cell l G Y b k) cw_X1_72 [] M hK hZ hw hl.1 rfl (by decide) ⟨by decide, by decide⟩ ⟨Nat.zero_le _, Nat.zero_le _⟩ rfl rfl (Nat.le_of_ble_eq_true rfl) dX1_tryAsk_18 (fun r sg h_3 H locs hw => ?_)
    obtain ⟨rfl, rfl⟩ := h_3
    have hw : xW G A s.heap [aucW Y h ρ γ] H locs := hw
    refine lv_iload_n hx hb dX1_tryAsk_21 rfl (lv_at hl 3 rfl) ?_
    refine x_iast M hK hw 0 8 rfl rfl (by omega) (by decide) dX1_tryAsk_22 (fun H locs hw => ?_)
    rw [upd_row] at hw
    have hw : xW G A s.heap [aucR Y h (supF ρ) (ptsF ρ) (priF ρ) (rgtF ρ γ) (capF ρ γ) (pckF ρ γ) (valF ρ γ) (setN (demF ρ γ) (3 * b + k) n) (lotF ρ γ) (worF ρ γ) (ρ 4) (ρ 0) (ρ 1) (ρ 2) (ρ 3)] H locs := hw
    refine lv_iconst (v := (nI 1)) hx hb dX1_tryAsk_23 (by decide) ?_
    have hN4 : (mAsk ρ b k n) 4 = ρ 4 := by clear hret hw hl M hK hZ hx hb; simp only [mAsk, setN, if_true, if_false, reduceIte] <;> (repeat' split) <;> first | rfl | (exfalso; omega) | omega
    obtain ⟨γ5, hw⟩ := auc_fold (i := 0) (ρ' := mAsk ρ b k n) hw rfl hN4.symm (by clear hret hw hl M hK hZ hx hb; simp only [mAsk, setN, if_true, if_false, reduceIte] <;> (repeat' split) <;> first | rfl | (exfalso; omega) | omega) (by clear hret hw hl M hK hZ hx hb; simp only [mAsk, setN, if_true, if_false, reduceIte] <;> (repeat' split) <;> first | rfl | (exfalso; omega) | omega) (by clear hret hw hl M hK hZ hx hb; simp only [mAsk, setN, if_true, if_false, reduceIte] <;> (repeat' split) <;> first | rfl | (exfalso; omega) | omega) (by clear hret hw hl M hK hZ hx hb; simp only [mAsk, setN, if_true, if_false, reduceIte] <;> (repeat' split) <;> first | rfl | (exfalso; omega) | omega) (by clear hret hw hl M hK hZ hx hb; intro k9 hk9; (try simp only [mAsk, setN, if_true, if_false, reduceIte, supF]) <;> (repeat' split) <;> first | rfl | (exfalso; omega) | omega) (by clear hret hw hl M hK hZ hx hb; intro k9 hk9; (try simp only [mAsk, setN, if_true, if_false, reduceIte, ptsF]) <;> (repeat' split) <;> first | rfl | (exfalso; omega) | omega) (by clear hret hw hl M hK hZ hx hb; intro k9 hk9; (try simp only [mAsk, setN, if_true, if_false, reduceIte, priF]) <;> (repeat' split) <;> first | rfl | (exfalso; omega) | omega) (by clear hret hw hl M hK hZ hx hb; intro b9 hb1; rw [hN4] at hb1; rcases Nat.lt_trichotomy b9 b with q9 | q9 | q9; (rw [mAsk_o hok.2.1 (by omega)]; (repeat rw [setN_n (by omega)]); exact rgt_at (by omega) rfl rfl); (subst q9; (try simp only [mAsk, setN, if_true, if_false, reduceIte]) <;> (repeat' split) <;> first | rfl | (exfalso; omega) | exact rgt_at (by omega) rfl rfl | omega); (rw [mAsk_o hok.2.1 (by omega)]; (repeat rw [setN_n (by omega)]); exact rgt_at (by omega) rfl rfl)) (by clear hret hw hl M hK hZ hx hb; intro b9 hb1; rw [hN4] at hb1; rcases Nat.lt_trichotomy b9 b with q9 | q9 | q9; (rw [mAsk_o hok.2.1 (by omega)]; (repeat rw [setN_n (by omega)]); exact cap_at (by omega) rfl rfl); (subst q9; (try simp only [mAsk, setN, if_true, if_false, reduceIte]) <;> (repeat' split) <;> first | rfl | (exfalso; omega) | exact cap_at (by omega) rfl rfl | omega); (rw [mAsk_o hok.2.1 (by omega)]; (repeat rw [setN_n (by omega)]); exact cap_at (by omega) rfl rfl)) (by clear hret hw hl M hK hZ hx hb; intro b9 hb1; rw [hN4] at hb1; rcases Nat.lt_trichotomy b9 b with q9 | q9 | q9; (rw [mAsk_o hok.2.1 (by omega)]; (repeat rw [setN_n (by omega)]); exact pck_at (by omega) rfl rfl); (subst q9; (try simp only [mAsk, setN, if_true, if_false, reduceIte]) <;> (repeat' split) <;> first | rfl | (exfalso; omega) | exact pck_at (by omega) rfl rfl | omega); (rw [mAsk_o hok.2.1 (by omega)]; (repeat rw [setN_n (by omega)]); exact pck_at (by omega) rfl rfl)) (by clear hret hw hl M hK hZ hx hb; intro b9 k9 hb1 hk9; rw [hN4] at hb1; rcases Nat.lt_trichotomy b9 b with q9 | q9 | q9; (rw [mAsk_o hok.2.1 (by omega)]; (repeat rw [setN_n (by omega)]); exact val_at (by omega) (by omega) rfl rfl); (subst q9; (try simp only [mAsk, setN, if_true, if_false, reduceIte]) <;> (repeat' split) <;> first | rfl | (exfalso; omega) | exact val_at (by omega) (by omega) rfl rfl | omega); (rw [mAsk_o hok.2.1 (by omega)]; (repeat rw [setN_n (by omega)]); exact val_at (by omega) (by omega) rfl rfl)) (by clear hret hw hl M hK hZ hx hb; intro b9 k9 hb1 hk9; rw [hN4] at hb1; rcases Nat.lt_trichotomy b9 b with q9 | q9 | q9; (rw [mAsk_o hok.2.1 (by omega)]; (repeat rw [setN_n (by omega)]); exact dem_at (by omega) (by omega) rfl rfl); (subst q9; (try simp only [mAsk, setN, if_true, if_false, reduceIte]) <;> (repeat' split) <;> first | rfl | (exfalso; omega) | exact dem_at (by omega) (by omega) rfl rfl | omega); (rw [mAsk_o hok.2.1 (by omega)]; (repeat rw [setN_n (by omega)]); exact dem_at (by omega) (by omega) rfl rfl)) (by clear hret hw hl M hK hZ hx hb; intro b9 i9 k9 hb1 hi9 h39 hk9; rw [hN4] at hb1; rcases Nat.lt_trichotomy b9 b with q9 | q9 | q9; (rw [mAsk_o hok.2.1 (by omega)]; rw [mAsk_o hok.2.1 (by omega)] at hi9; (repeat rw [setN_n (by omega)]); exact lot_at (by omega) (by omega) (by omega) (by omega) rfl rfl); (subst q9; simp only [mAsk, setN, if_true, if_false, reduceIte] at hi9; (try simp only [mAsk, setN, if_true, if_false, reduceIte]) <;> (repeat' split at hi9) <;> (repeat' split) <;> first | rfl | (exfalso; omega) | exact lot_at (by omega) (by omega) (by omega) (by omega) rfl rfl | omega); (rw [mAsk_o hok.2.1 (by omega)]; rw [mAsk_o hok.2.1 (by omega)] at hi9; (repeat rw [setN_n (by omega)]); exact lot_at (by omega) (by omega) (by omega) (by omega) rfl rfl)) (by clear hret hw hl M hK hZ hx hb; intro b9 i9 hb1 hi9 h39; rw [hN4] at hb1; rcases Nat.lt_trichotomy b9 b with q9 | q9 | q9; (rw [mAsk_o hok.2.1 (by omega)]; rw [mAsk_o hok.2.1 (by omega)] at hi9; (repeat rw [setN_n (by omega)]); exact wor_at (by omega) (by omega) (by omega) rfl rfl); (subst q9; simp only [mAsk, setN, if_true, if_false, reduceIte] at hi9; (try simp only [mAsk, setN, if_true, if_false, reduceIte]) <;> (repeat' split at hi9) <;> (repeat' split) <;> first | rfl | (exfalso; omega) | exact wor_at (by omega) (by omega) (by omega) rfl rfl | omega); (rw [mAsk_o hok.2.1 (by omega)]; rw [mAsk_o hok.2.1 (by omega)] at hi9; (repeat rw [setN_n (by omega)]); exact wor_at (by omega) (by omega) (by omega) rfl rfl))
    have hw : xW G A s.heap [aucW Y h (mAsk ρ b k n) γ5] H locs := hw
    exact hret _ _ _ (nI 1) _ _ dX1_tryAsk_24 hw rfl rfl ⟨b2i_t (decide_eq_true c_2), γ5, by rw [show dAsk ρ b k n = mAsk ρ b k n from if_pos c_2]⟩
  refine lv_iconst (v := (nI 0)) hx hb dX1_tryAsk_10 (by decide) ?_
  exact hret _ _ _ (nI 0) _ _ dX1_tryAsk_11 hw rfl rfl ⟨b2i_f (decide_eq_false (Nat.ne_of_gt c_2)), γ, by rw [show dAsk ρ b k n = ρ from if_neg (Nat.ne_of_gt c_2)]⟩
set_option maxHeartbeats 4000000 in
set_option maxRecDepth 20000 in
theorem k_X1_tryBid (l : Launch) (G : va_G) (Y : Nat → Nat) (h b : Nat) (ρ : Nat → Nat) (γ : Nat → Nat → Nat) (hI : Inv ρ) (g0 : b < 2 ^ 31) : CtI l yX1_tryBid cX1_tryBid 2 .boolean 4 95 [.ref h, .int (nI b)] [aucW Y h ρ γ] (fun r sg => r = b2i (decide (tBid ρ b = 0)) ∧ ∃ γ' : Nat → Nat → Nat, sg = [aucW Y h (dBid ρ b) γ']) G Y := by
  refine x_ofI (by decide) (Nat.le_of_ble_eq_true rfl) (fun p e s m args below meth c A ls Q M hK hZ hw hl hret => ?_)
  obtain ⟨hx, hb, -⟩ := id M
  have hl : lv_has ls 2 [(0, .ref h), (1, .int (nI b))] := hl
  have := hI.n6
  have := hI.over
  have := hI.keep
  have := hI.stepp
  refine lv_aload_n hx hb dX1_tryBid_0 rfl (lv_at hl 0 rfl) ?_
  refine lv_iload_n hx hb dX1_tryBid_1 rfl (lv_at hl 1 rfl) ?_
  refine x_cVI (As := [.int (nI b)]) (k_X1_whyNotBid l G Y h ρ γ (nI b) (hI)) cw_X1_151 [0] 0 0 M hK hZ hw hl.1 rfl (by decide) rfl rfl rfl ⟨by decide, by decide⟩ ⟨Nat.zero_le _, Nat.zero_le _⟩ rfl rfl (Nat.le_of_ble_eq_true rfl) dX1_tryBid_2 (fun r sg h_1 H locs hw => ?_)
  obtain ⟨rfl, rfl⟩ := h_1
  have hw : xW G A s.heap [aucW Y h ρ γ] H locs := hw
  refine x_topN (n := (tBid ρ b)) (congrArg nI (by unfold tBid; rw [nI_toInt g0])) ?_
  have hle : tBid ρ b ≤ 3 := whyBid_le
  refine x_zeq M (tgt := 10) (by omega) dX1_tryBid_5 (by decide) (fun c_2 => ?_) (fun c_2 => ?_)
  · have hok := okN_bid c_2
    refine lv_aload_n hx hb dX1_tryBid_10 rfl (lv_at hl 0 rfl) ?_
    refine lv_iload_n hx hb dX1_tryBid_11 rfl (lv_at hl 1 rfl) ?_
    refine x_cVV (As := [.int (nI b)]) (k_X1_bidByValues l G Y h b ρ γ (hI) (by omega)) cw_X1_154 [0] 0 0 M hK hZ hw hl.1 rfl (by decide) rfl rfl rfl ⟨by decide, by decide⟩ ⟨Nat.zero_le _, Nat.zero_le _⟩ rfl rfl (Nat.le_of_ble_eq_true rfl) dX1_tryBid_12 (fun sg h_3 H locs hw => ?_)
    obtain ⟨γa4, rfl⟩ := h_3
    have hw : xW G A s.heap [aucW Y h (mBid ρ b) γa4] H locs := hw
    refine lv_iconst (v := (nI 1)) hx hb dX1_tryBid_15 (by decide) ?_
    exact hret _ _ _ (nI 1) _ _ dX1_tryBid_16 hw rfl rfl ⟨b2i_t (decide_eq_true c_2), γa4, by rw [show dBid ρ b = mBid ρ b from if_pos c_2]⟩
  refine lv_iconst (v := (nI 0)) hx hb dX1_tryBid_8 (by decide) ?_
  exact hret _ _ _ (nI 0) _ _ dX1_tryBid_9 hw rfl rfl ⟨b2i_f (decide_eq_false (Nat.ne_of_gt c_2)), γ, by rw [show dBid ρ b = ρ from if_neg (Nat.ne_of_gt c_2)]⟩
set_option maxHeartbeats 4000000 in
set_option maxRecDepth 20000 in
theorem k_X1_tryClose (l : Launch) (G : va_G) (Y : Nat → Nat) (h : Nat) (ρ : Nat → Nat) (γ : Nat → Nat → Nat) (hI : Inv ρ) : CtI l yX1_tryClose cX1_tryClose 1 .boolean 3 66 [.ref h] [aucW Y h ρ γ] (fun r sg => r = b2i (decide (whyClose ρ = 0)) ∧ ∃ γ' : Nat → Nat → Nat, sg = [aucW Y h (dClose ρ) γ']) G Y := by
  refine x_ofI (by decide) (Nat.le_of_ble_eq_true rfl) (fun p e s m args below meth c A ls Q M hK hZ hw hl hret => ?_)
  obtain ⟨hx, hb, -⟩ := id M
  have hl : lv_has ls 1 [(0, .ref h)] := hl
  have := hI.n6
  have := hI.over
  have := hI.keep
  have := hI.stepp
  refine lv_aload_n hx hb dX1_tryClose_0 rfl (lv_at hl 0 rfl) ?_
  refine x_cVI (As := []) (k_X1_whyNotClose l G Y h ρ γ (hI)) cw_X1_157 [0] 0 0 M hK hZ hw hl.1 rfl (by decide) rfl rfl rfl ⟨by decide, by decide⟩ ⟨Nat.zero_le _, Nat.zero_le _⟩ rfl rfl (Nat.le_of_ble_eq_true rfl) dX1_tryClose_1 (fun r sg h_1 H locs hw => ?_)
  obtain ⟨rfl, rfl⟩ := h_1
  have hw : xW G A s.heap [aucW Y h ρ γ] H locs := hw
  have hle : whyClose ρ ≤ 3 := whyClose_le
  refine x_zeq M (tgt := 9) (by omega) dX1_tryClose_4 (by decide) (fun c_2 => ?_) (fun c_2 => ?_)
  · have hok := ok_close c_2
    refine lv_aload_n hx hb dX1_tryClose_9 rfl (lv_at hl 0 rfl) ?_
    refine x_cVI (As := []) (k_X1_closeRound l G Y h ρ γ (hI)) cw_X1_161 [0] 0 0 M hK hZ hw hl.1 rfl (by decide) rfl rfl rfl ⟨by decide, by decide⟩ ⟨Nat.zero_le _, Nat.zero_le _⟩ rfl rfl (Nat.le_of_ble_eq_true rfl) dX1_tryClose_10 (fun r sg h_3 H locs hw => ?_)
    obtain ⟨rfl, γa4, rfl⟩ := h_3
    have hw : xW G A s.heap [aucW Y h (mClose ρ) γa4] H locs := hw
    refine lv_pop hx hb dX1_tryClose_13 rfl ?_
    refine lv_iconst (v := (nI 1)) hx hb dX1_tryClose_14 (by decide) ?_
    exact hret _ _ _ (nI 1) _ _ dX1_tryClose_15 hw rfl rfl ⟨b2i_t (decide_eq_true c_2), γa4, by rw [show dClose ρ = mClose ρ from if_pos c_2]⟩
  refine lv_iconst (v := (nI 0)) hx hb dX1_tryClose_7 (by decide) ?_
  exact hret _ _ _ (nI 0) _ _ dX1_tryClose_8 hw rfl rfl ⟨b2i_f (decide_eq_false (Nat.ne_of_gt c_2)), γ, by rw [show dClose ρ = ρ from if_neg (Nat.ne_of_gt c_2)]⟩
set_option maxHeartbeats 4000000 in
set_option maxRecDepth 20000 in
theorem k_X1_tryAdd (l : Launch) (G : va_G) (Y : Nat → Nat) (h b x y z v : Nat) (ρ : Nat → Nat) (γ : Nat → Nat → Nat) (hI : Inv ρ) (g0 : b < 2 ^ 31) (g1 : x < 2 ^ 31) (g2 : y < 2 ^ 31) (g3 : z < 2 ^ 31) (g4 : v < 2 ^ 31) : CtI l yX1_tryAdd cX1_tryAdd 6 .boolean 4 92 [.ref h, .int (nI b), .int (nI x), .int (nI y), .int (nI z), .int (nI v)] [aucW Y h ρ γ] (fun r sg => r = b2i (decide (tAdd ρ b x y z v = 0)) ∧ ∃ γ' : Nat → Nat → Nat, sg = [aucW Y h (dAdd ρ b x y z v) γ']) G Y := by
  refine x_ofI (by decide) (Nat.le_of_ble_eq_true rfl) (fun p e s m args below meth c A ls Q M hK hZ hw hl hret => ?_)
  obtain ⟨hx, hb, -⟩ := id M
  have hl : lv_has ls 6 [(0, .ref h), (1, .int (nI b)), (2, .int (nI x)), (3, .int (nI y)), (4, .int (nI z)), (5, .int (nI v))] := hl
  have := hI.n6
  have := hI.over
  have := hI.keep
  have := hI.stepp
  refine lv_aload_n hx hb dX1_tryAdd_0 rfl (lv_at hl 0 rfl) ?_
  refine lv_iload_n hx hb dX1_tryAdd_1 rfl (lv_at hl 1 rfl) ?_
  refine lv_iload_n hx hb dX1_tryAdd_2 rfl (lv_at hl 2 rfl) ?_
  refine lv_iload_n hx hb dX1_tryAdd_3 rfl (lv_at hl 3 rfl) ?_
  refine lv_iload hx hb dX1_tryAdd_4 (lv_at hl 4 rfl) ?_
  refine lv_iload hx hb dX1_tryAdd_6 (lv_at hl 5 rfl) ?_
  refine x_cVI (As := [.int (nI b), .int (nI x), .int (nI y), .int (nI z), .int (nI v)]) (k_X1_whyNotAdd l G Y h ρ γ (nI b) (nI x) (nI y) (nI z) (nI v) (hI)) cw_X1_164 [0] 0 0 M hK hZ hw hl.1 rfl (by decide) rfl rfl rfl ⟨by decide, by decide⟩ ⟨Nat.zero_le _, Nat.zero_le _⟩ rfl rfl (Nat.le_of_ble_eq_true rfl) dX1_tryAdd_8 (fun r sg h_1 H locs hw => ?_)
  obtain ⟨rfl, rfl⟩ := h_1
  have hw : xW G A s.heap [aucW Y h ρ γ] H locs := hw
  refine x_topN (n := (tAdd ρ b x y z v)) (congrArg nI (by unfold tAdd; rw [nI_toInt g0, nI_toInt g1, nI_toInt g2, nI_toInt g3, nI_toInt g4])) ?_
  have hle : tAdd ρ b x y z v ≤ 3 := whyAdd_le
  refine x_zeq M (tgt := 16) (by omega) dX1_tryAdd_11 (by decide) (fun c_2 => ?_) (fun c_2 => ?_)
  · have hok := okN_add c_2
    refine lv_aload_n hx hb dX1_tryAdd_16 rfl (lv_at hl 0 rfl) ?_
    refine lv_iload_n hx hb dX1_tryAdd_17 rfl (lv_at hl 1 rfl) ?_
    refine lv_iload_n hx hb dX1_tryAdd_18 rfl (lv_at hl 2 rfl) ?_
    refine lv_iload_n hx hb dX1_tryAdd_19 rfl (lv_at hl 3 rfl) ?_
    refine lv_iload hx hb dX1_tryAdd_20 (lv_at hl 4 rfl) ?_
    refine lv_iload hx hb dX1_tryAdd_22 (lv_at hl 5 rfl) ?_
    refine x_cVV (As := [.int (nI b), .int (nI x), .int (nI y), .int (nI z), .int (nI v)]) (k_X1_addPack l G Y h b x y z v ρ γ (hI) (by omega) (by omega)) cw_X1_168 [0] 0 0 M hK hZ hw hl.1 rfl (by decide) rfl rfl rfl ⟨by decide, by decide⟩ ⟨Nat.zero_le _, Nat.zero_le _⟩ rfl rfl (Nat.le_of_ble_eq_true rfl) dX1_tryAdd_24 (fun sg h_3 H locs hw => ?_)
    obtain ⟨γa4, rfl⟩ := h_3
    have hw : xW G A s.heap [aucW Y h (mAdd ρ b x y z v) γa4] H locs := hw
    refine lv_iconst (v := (nI 1)) hx hb dX1_tryAdd_27 (by decide) ?_
    exact hret _ _ _ (nI 1) _ _ dX1_tryAdd_28 hw rfl rfl ⟨b2i_t (decide_eq_true c_2), γa4, by rw [show dAdd ρ b x y z v = mAdd ρ b x y z v from if_pos c_2]⟩
  refine lv_iconst (v := (nI 0)) hx hb dX1_tryAdd_14 (by decide) ?_
  exact hret _ _ _ (nI 0) _ _ dX1_tryAdd_15 hw rfl rfl ⟨b2i_f (decide_eq_false (Nat.ne_of_gt c_2)), γ, by rw [show dAdd ρ b x y z v = ρ from if_neg (Nat.ne_of_gt c_2)]⟩
set_option maxHeartbeats 4000000 in
set_option maxRecDepth 20000 in
theorem k_X1_tryDrop (l : Launch) (G : va_G) (Y : Nat → Nat) (h b i : Nat) (ρ : Nat → Nat) (γ : Nat → Nat → Nat) (hI : Inv ρ) (g0 : b < 2 ^ 31) (g1 : i < 2 ^ 31) : CtI l yX1_tryDrop cX1_tryDrop 3 .boolean 3 65 [.ref h, .int (nI b), .int (nI i)] [aucW Y h ρ γ] (fun r sg => r = b2i (decide (tDrop ρ b i = 0)) ∧ ∃ γ' : Nat → Nat → Nat, sg = [aucW Y h (dDrop ρ b i) γ']) G Y := by
  refine x_ofI (by decide) (Nat.le_of_ble_eq_true rfl) (fun p e s m args below meth c A ls Q M hK hZ hw hl hret => ?_)
  obtain ⟨hx, hb, -⟩ := id M
  have hl : lv_has ls 3 [(0, .ref h), (1, .int (nI b)), (2, .int (nI i))] := hl
  have := hI.n6
  have := hI.over
  have := hI.keep
  have := hI.stepp
  refine lv_aload_n hx hb dX1_tryDrop_0 rfl (lv_at hl 0 rfl) ?_
  refine lv_iload_n hx hb dX1_tryDrop_1 rfl (lv_at hl 1 rfl) ?_
  refine lv_iload_n hx hb dX1_tryDrop_2 rfl (lv_at hl 2 rfl) ?_
  refine x_cVI (As := [.int (nI b), .int (nI i)]) (k_X1_whyNotDrop l G Y h ρ γ (nI b) (nI i) (hI)) cw_X1_172 [0] 0 0 M hK hZ hw hl.1 rfl (by decide) rfl rfl rfl ⟨by decide, by decide⟩ ⟨Nat.zero_le _, Nat.zero_le _⟩ rfl rfl (Nat.le_of_ble_eq_true rfl) dX1_tryDrop_3 (fun r sg h_1 H locs hw => ?_)
  obtain ⟨rfl, rfl⟩ := h_1
  have hw : xW G A s.heap [aucW Y h ρ γ] H locs := hw
  refine x_topN (n := (tDrop ρ b i)) (congrArg nI (by unfold tDrop; rw [nI_toInt g0, nI_toInt g1])) ?_
  have hle : tDrop ρ b i ≤ 3 := whyDrop_le
  refine x_zeq M (tgt := 11) (by omega) dX1_tryDrop_6 (by decide) (fun c_2 => ?_) (fun c_2 => ?_)
  · have hok := okN_drop c_2
    refine lv_aload_n hx hb dX1_tryDrop_11 rfl (lv_at hl 0 rfl) ?_
    refine lv_iload_n hx hb dX1_tryDrop_12 rfl (lv_at hl 1 rfl) ?_
    refine lv_iload_n hx hb dX1_tryDrop_13 rfl (lv_at hl 2 rfl) ?_
    refine x_cVV (As := [.int (nI b), .int (nI i)]) (k_X1_dropPack l G Y h b i ρ γ (hI) (by omega) (by omega) (by omega)) cw_X1_175 [0] 0 0 M hK hZ hw hl.1 rfl (by decide) rfl rfl rfl ⟨by decide, by decide⟩ ⟨Nat.zero_le _, Nat.zero_le _⟩ rfl rfl (Nat.le_of_ble_eq_true rfl) dX1_tryDrop_14 (fun sg h_3 H locs hw => ?_)
    obtain ⟨γa4, rfl⟩ := h_3
    have hw : xW G A s.heap [aucW Y h (mDrop ρ b i) γa4] H locs := hw
    refine lv_iconst (v := (nI 1)) hx hb dX1_tryDrop_17 (by decide) ?_
    exact hret _ _ _ (nI 1) _ _ dX1_tryDrop_18 hw rfl rfl ⟨b2i_t (decide_eq_true c_2), γa4, by rw [show dDrop ρ b i = mDrop ρ b i from if_pos c_2]⟩
  refine lv_iconst (v := (nI 0)) hx hb dX1_tryDrop_9 (by decide) ?_
  exact hret _ _ _ (nI 0) _ _ dX1_tryDrop_10 hw rfl rfl ⟨b2i_f (decide_eq_false (Nat.ne_of_gt c_2)), γ, by rw [show dDrop ρ b i = ρ from if_neg (Nat.ne_of_gt c_2)]⟩
set_option maxHeartbeats 4000000 in
set_option maxRecDepth 20000 in
theorem k_X1_trySet (l : Launch) (G : va_G) (Y : Nat → Nat) (h w v : Nat) (ρ : Nat → Nat) (γ : Nat → Nat → Nat) (hI : Inv ρ) (g0 : w < 2 ^ 31) (g1 : v < 2 ^ 31) : CtI l yX1_trySet cX1_trySet 3 .boolean 2 44 [.ref h, .int (nI w), .int (nI v)] [aucW Y h ρ γ] (fun r sg => r = b2i (decide (tSet w v = 0)) ∧ ∃ γ' : Nat → Nat → Nat, sg = [aucW Y h (dSet ρ w v) γ']) G Y := by
  refine x_ofI (by decide) (Nat.le_of_ble_eq_true rfl) (fun p e s m args below meth c A ls Q M hK hZ hw hl hret => ?_)
  obtain ⟨hx, hb, -⟩ := id M
  have hl : lv_has ls 3 [(0, .ref h), (1, .int (nI w)), (2, .int (nI v))] := hl
  have := hI.n6
  have := hI.over
  have := hI.keep
  have := hI.stepp
  refine lv_aload_n hx hb dX1_trySet_0 rfl (lv_at hl 0 rfl) ?_
  refine lv_iload_n hx hb dX1_trySet_1 rfl (lv_at hl 1 rfl) ?_
  refine lv_iload_n hx hb dX1_trySet_2 rfl (lv_at hl 2 rfl) ?_
  refine x_cVI (As := [.int (nI w), .int (nI v)]) (k_X1_whyNotSet l G Y h ρ γ (nI w) (nI v) (hI)) cw_X1_178 [0] 0 0 M hK hZ hw hl.1 rfl (by decide) rfl rfl rfl ⟨by decide, by decide⟩ ⟨Nat.zero_le _, Nat.zero_le _⟩ rfl rfl (Nat.le_of_ble_eq_true rfl) dX1_trySet_3 (fun r sg h_1 H locs hw => ?_)
  obtain ⟨rfl, rfl⟩ := h_1
  have hw : xW G A s.heap [aucW Y h ρ γ] H locs := hw
  refine x_topN (n := (tSet w v)) (congrArg nI (by unfold tSet; rw [nI_toInt g0, nI_toInt g1])) ?_
  have hle : tSet w v ≤ 3 := whySet_le
  refine x_zeq M (tgt := 11) (by omega) dX1_trySet_6 (by decide) (fun c_2 => ?_) (fun c_2 => ?_)
  · have hok := okN_set c_2
    refine lv_aload_n hx hb dX1_trySet_11 rfl (lv_at hl 0 rfl) ?_
    refine lv_iload_n hx hb dX1_trySet_12 rfl (lv_at hl 1 rfl) ?_
    refine lv_iload_n hx hb dX1_trySet_13 rfl (lv_at hl 2 rfl) ?_
    refine x_cVV (As := [.int (nI w), .int (nI v)]) (k_X1_changeSetting l G Y h v ρ γ (nI w) (hI)) cw_X1_181 [0] 0 0 M hK hZ hw hl.1 rfl (by decide) rfl rfl rfl ⟨by decide, by decide⟩ ⟨Nat.zero_le _, Nat.zero_le _⟩ rfl rfl (Nat.le_of_ble_eq_true rfl) dX1_trySet_14 (fun sg h_3 H locs hw => ?_)
    obtain ⟨γa4, rfl⟩ := h_3
    have hw : xW G A s.heap [aucW Y h (mSet ρ (nI w).toInt v) γa4] H locs := hw
    refine lv_iconst (v := (nI 1)) hx hb dX1_trySet_17 (by decide) ?_
    rw [nI_toInt g0] at hw
    exact hret _ _ _ (nI 1) _ _ dX1_trySet_18 hw rfl rfl ⟨b2i_t (decide_eq_true c_2), γa4, by rw [show dSet ρ w v = mSet ρ (w : Int) v from if_pos c_2]⟩
  refine lv_iconst (v := (nI 0)) hx hb dX1_trySet_9 (by decide) ?_
  exact hret _ _ _ (nI 0) _ _ dX1_trySet_10 hw rfl rfl ⟨b2i_f (decide_eq_false (Nat.ne_of_gt c_2)), γ, by rw [show dSet ρ w v = ρ from if_neg (Nat.ne_of_gt c_2)]⟩
